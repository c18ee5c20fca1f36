/-! ===== cells by turns: the reference ===== -/
def MU (g m : Nat) (w : Nat → Nat) (h : zq_H) : Prop := h.1 56 49 = nI m ∧ m ≤ 16 ∧ ∀ i, i < m → h.1 88 i = nI (w i) ∧ w i < g
def MPk (g n : Nat) (pick : Nat → Nat → Nat) (h : zq_H) : Prop := ∀ j c, j < g → c < n → h.1 89 (16 * j + c) = nI (pick j c) ∧ pick j c ≤ 999
def MH (has : Nat → Nat) (h : zq_H) : Prop := ∀ j, j < 6 → h.1 90 j = nI (has j)
theorem MU_fm {g m : Nat} {w : Nat → Nat} {fs ps : List Nat} {h h' : zq_H} (k : MU g m w h) (f : zq_fm fs ps h h') (d : 49 ∉ fs ∧ 88 ∉ ps) : MU g m w h' := by
  unfold MU at *
  rw [(f.2 49 d.1).1, (f.1 88 (by decide) d.2).1]
  exact k
theorem MPk_fm {g n : Nat} {p : Nat → Nat → Nat} {fs ps : List Nat} {h h' : zq_H} (k : MPk g n p h) (f : zq_fm fs ps h h') (d : 89 ∉ ps) : MPk g n p h' := by
  unfold MPk at *
  rw [(f.1 89 (by decide) d).1]
  exact k
theorem MH_fm {has : Nat → Nat} {fs ps : List Nat} {h h' : zq_H} (k : MH has h) (f : zq_fm fs ps h h') (d : 90 ∉ ps) : MH has h' := by
  unfold MH at *
  rw [(f.1 90 (by decide) d).1]
  exact k
def sp_picks : zq_Sp := fun args h Q => args = [.ref 56] ∧ ∀ h', (∀ i, i < 96 → h'.1 89 i = h.1 74 i) → zq_fm [] [89] h h' → Q none h'
def I_picks (Q : zq_Q) (z : zq_H × Nat) : zq_P := fun ls st h => match z with
  | (h0, t) => ls = [some (.ref 56), some (.int (nI t))] ∧ st = [] ∧ t ≤ 96 ∧ (∀ i, i < t → h.1 89 i = h0.1 74 i) ∧ zq_fm [] [89] h0 h ∧ ∀ h', (∀ i, i < 96 → h'.1 89 i = h0.1 74 i) → zq_fm [] [89] h0 h' → Q none h'
theorem ok_picks : zq_M yX12_picksAsWorth cX12_picksAsWorth 2 none 0 0 sp_picks := by
  refine mX12_picksAsWorth (fun z => 96 - z.2) I_picks (fun args h Q hs => ?_) (fun Q z ls st h hi => ?_)
  · obtain ⟨rfl, k⟩ := hs
    refine ⟨Nat.le_of_ble_eq_true rfl, ?_⟩
    simp only [xX12_picksAsWorth_26, xX12_picksAsWorth_8, xX12_picksAsWorth_2, xX12_picksAsWorth_0, zi_push, zi_iload, zi_lload, zi_aload, zi_istore, zi_astore, zi_lstore, zi_iinc, zi_i2, zi_i1, zi_idv, zi_l2, zi_ldv, zi_lsh, zi_i2l, zi_l2i, zi_lcmp, zi_dup, zi_dup2, zi_pop, zi_if1, zi_if2, zi_getI, zi_getL, zi_getR, zi_putI, zi_putZ, zi_putL, zi_aldI, zi_aldL, zi_astI, zi_astZ, zi_astL, zi_alen, zi_iret, zi_zret, zi_lret, zi_vret, zi_callV, zi_callS, zi_sw, zi_copyI, zi_copyL, zi_m2, zi_m1, zi_sval, zi_scod, zi_fmt, zi_balen, zi_bald, zi_bret, zi_callT, zq_nth, zq_put1, zq_put2, zq_clr, zq_nl, zq_tk, zq_ps, zq_sw, zq_l0, zq_a, zq_a1, List.length_cons, List.length_nil, List.nil_append, List.cons_append, List.append_nil, List.replicate, Nat.reduceAdd, Nat.reduceSub, Nat.reduceLeDiff, true_and, and_true, List.append_eq, List.cons.injEq, Value.int.injEq, Value.long.injEq, Value.ref.injEq, exists_and_left, exists_eq_left', and_assoc, zc_b, zc_0, zc_1, zc_10, zc_01, lg_cmp_ge, lg_cmp_le, lg_cmp_gt, lg_cmp_lt, lg_cmp_eq, zw_le, zw_lt, reduceIte, true_or, or_true, zw_g0, zw_l0, zw_g1, zw_l1, zw_g2, zw_l2, zw_g3, zw_l3, zw_g5, zw_l5, zw_g6, zw_l6, zw_g7, zw_l7, zw_g9, zw_l9, zw_g10, zw_l10, zw_g15, zw_l15, zw_g16, zw_l16, zw_g48, zw_l48, zw_g50, zw_l50, zw_g57, zw_l57, zw_g97, zw_l97, zw_g100, zw_l100, zw_g200, zw_l200, zw_g999, zw_l999, zw_g9999, zw_l9999]
    exact ⟨(h, 0), rfl, rfl, by omega, fun i hi => absurd hi (Nat.not_lt_zero _), zq_fm_rf, k⟩
  · obtain ⟨h0, t⟩ := z
    obtain ⟨rfl, rfl, ht, h1, hf, k⟩ := hi
    have e : (96 ≤ nI t) = (t = 96) := zl_ge ht (by decide)
    simp only [xX12_picksAsWorth_2, xX12_picksAsWorth_8, xX12_picksAsWorth_26, e, nI_clamp (show t < 2 ^ 31 by omega), nI_1, zi_push, zi_iload, zi_lload, zi_aload, zi_istore, zi_astore, zi_lstore, zi_iinc, zi_i2, zi_i1, zi_idv, zi_l2, zi_ldv, zi_lsh, zi_i2l, zi_l2i, zi_lcmp, zi_dup, zi_dup2, zi_pop, zi_if1, zi_if2, zi_getI, zi_getL, zi_getR, zi_putI, zi_putZ, zi_putL, zi_aldI, zi_aldL, zi_astI, zi_astZ, zi_astL, zi_alen, zi_iret, zi_zret, zi_lret, zi_vret, zi_callV, zi_callS, zi_sw, zi_copyI, zi_copyL, zi_m2, zi_m1, zi_sval, zi_scod, zi_fmt, zi_balen, zi_bald, zi_bret, zi_callT, zq_nth, zq_put1, zq_put2, zq_clr, zq_nl, zq_tk, zq_ps, zq_sw, zq_l0, zq_a, zq_a1, List.length_cons, List.length_nil, List.nil_append, List.cons_append, List.append_nil, List.replicate, Nat.reduceAdd, Nat.reduceSub, Nat.reduceLeDiff, true_and, and_true, List.append_eq, List.cons.injEq, Value.int.injEq, Value.long.injEq, Value.ref.injEq, exists_and_left, exists_eq_left', and_assoc, zc_b, zc_0, zc_1, zc_10, zc_01, lg_cmp_ge, lg_cmp_le, lg_cmp_gt, lg_cmp_lt, lg_cmp_eq, zw_le, zw_lt, reduceIte, true_or, or_true, zw_g0, zw_l0, zw_g1, zw_l1, zw_g2, zw_l2, zw_g3, zw_l3, zw_g5, zw_l5, zw_g6, zw_l6, zw_g7, zw_l7, zw_g9, zw_l9, zw_g10, zw_l10, zw_g15, zw_l15, zw_g16, zw_l16, zw_g48, zw_l48, zw_g50, zw_l50, zw_g57, zw_l57, zw_g97, zw_l97, zw_g100, zw_l100, zw_g200, zw_l200, zw_g999, zw_l999, zw_g9999, zw_l9999]
    refine ⟨fun q => ?_, fun q => ⟨vp_in_nI (by omega) (by decide), vp_in_nI (by omega) (by decide), (h0, t + 1), by dsimp only; omega, rfl, rfl, by omega, fun i hi => ?_, zq_fm_I hf (by decide), k⟩⟩
    · subst q
      exact k h h1 hf
    · by_cases q2 : i = t
      · simp [zq_sI, q2, (hf.1 74 (by decide) (by decide)).1]
      · simpa [zq_sI, q2] using h1 i (by omega)
def z00 : Nat → Nat := fun _ => 0
def sp_goes (b : Nat) (V : zV) : zq_Sp := fun args h Q => ∃ m w pick, args = [.ref 56] ∧ MD b V h ∧ MU (vg V) m w h ∧ MPk (vg V) (vn V) pick h ∧ ∀ h', MH (vT V pick w z00 m).2.2 h' → h'.1 56 50 = nI (vT V pick w z00 m).2.1 → zq_fm [50] [90] h h' → Q none h'
def zgo (b : Nat) (V : zV) (Q : zq_Q) (h0 h : zq_H) (m : Nat) (w : Nat → Nat) (pick : Nat → Nat → Nat) : Prop := zq_fm [50] [90] h0 h ∧ MD b V h0 ∧ MU (vg V) m w h0 ∧ MPk (vg V) (vn V) pick h0 ∧ ∀ h', MH (vT V pick w z00 m).2.2 h' → h'.1 56 50 = nI (vT V pick w z00 m).2.1 → zq_fm [50] [90] h0 h' → Q none h'
def I_go9 (b : Nat) (V : zV) (Q : zq_Q) (z : zq_H × Nat × (Nat → Nat) × (Nat → Nat → Nat) × Nat × Nat) : zq_P := fun ls st h => match z with
  | (h0, m, w, pick, t, _) => ∃ s3 s4 s5, ls = [some (.ref 56), some (.int 0), some (.int (nI t)), s3, s4, s5] ∧ st = [] ∧ t ≤ 6 ∧ (∀ j, j < t → h.1 90 j = 0) ∧ h.1 56 50 = nI 0 ∧ zgo b V Q h0 h m w pick
def I_go30 (b : Nat) (V : zV) (Q : zq_Q) (z : zq_H × Nat × (Nat → Nat) × (Nat → Nat → Nat) × Nat × Nat) : zq_P := fun ls st h => match z with
  | (h0, m, w, pick, t, _) => ∃ s3 s4 s5, ls = [some (.ref 56), some (.int (nI (vT V pick w z00 t).1)), some (.int (nI t)), s3, s4, s5] ∧ st = [] ∧ t ≤ m ∧ MH (vT V pick w z00 t).2.2 h ∧ h.1 56 50 = nI (vT V pick w z00 t).2.1 ∧ zgo b V Q h0 h m w pick
def I_go62 (b : Nat) (V : zV) (Q : zq_Q) (z : zq_H × Nat × (Nat → Nat) × (Nat → Nat → Nat) × Nat × Nat) : zq_P := fun ls st h => match z with
  | (h0, m, w, pick, t, c) => ls = [some (.ref 56), some (.int (nI (vT V pick w z00 t).1)), some (.int (nI t)), some (.int (nI (w t))), some (.int (nI (zfv (pick (w t)) (vT V pick w z00 t).1 c) - 1)), some (.int (nI c))] ∧ st = [] ∧ (t < m ∧ c ≤ vn V ∧ (vT V pick w z00 t).2.1 < vn V) ∧ MH (vT V pick w z00 t).2.2 h ∧ h.1 56 50 = nI (vT V pick w z00 t).2.1 ∧ zgo b V Q h0 h m w pick
theorem MD_fm50 {b : Nat} {V : zV} {h h' : zq_H} (k : MD b V h) (f : zq_fm [50] [90] h h') : MD b V h' := MD_fm k f (by decide)
theorem ok_goes (b : Nat) (V : zV) : zq_M yX12_goesByTurns cX12_goesByTurns 6 none 0 1 (sp_goes b V) := by
  refine mX12_goesByTurns ok_has (by decide) (fun z => 10000 - z.2.2.2.2.1) (I_go9 b V) (fun z => (z.2.1 - z.2.2.2.2.1) * 20) (I_go30 b V) (fun z => (z.2.1 - z.2.2.2.2.1) * 20 - 1 - z.2.2.2.2.2) (I_go62 b V) (fun args h Q hs => ?_) (fun Q z ls st h hi => ?_) (fun Q z ls st h hi => ?_) (fun Q z ls st h hi => ?_)
  · obtain ⟨m, w, pick, rfl, hX, hU, hQ, k⟩ := hs
    refine ⟨Nat.le_of_ble_eq_true rfl, ?_⟩
    simp only [xX12_goesByTurns_171, xX12_goesByTurns_127, xX12_goesByTurns_119, xX12_goesByTurns_117, xX12_goesByTurns_112, xX12_goesByTurns_85, xX12_goesByTurns_80, xX12_goesByTurns_71, xX12_goesByTurns_62, xX12_goesByTurns_49, xX12_goesByTurns_38, xX12_goesByTurns_30, xX12_goesByTurns_28, xX12_goesByTurns_15, xX12_goesByTurns_9, xX12_goesByTurns_0, zi_push, zi_iload, zi_lload, zi_aload, zi_istore, zi_astore, zi_lstore, zi_iinc, zi_i2, zi_i1, zi_idv, zi_l2, zi_ldv, zi_lsh, zi_i2l, zi_l2i, zi_lcmp, zi_dup, zi_dup2, zi_pop, zi_if1, zi_if2, zi_getI, zi_getL, zi_getR, zi_putI, zi_putZ, zi_putL, zi_aldI, zi_aldL, zi_astI, zi_astZ, zi_astL, zi_alen, zi_iret, zi_zret, zi_lret, zi_vret, zi_callV, zi_callS, zi_sw, zi_copyI, zi_copyL, zi_m2, zi_m1, zi_sval, zi_scod, zi_fmt, zi_balen, zi_bald, zi_bret, zi_callT, zq_nth, zq_put1, zq_put2, zq_clr, zq_nl, zq_tk, zq_ps, zq_sw, zq_l0, zq_a, zq_a1, List.length_cons, List.length_nil, List.nil_append, List.cons_append, List.append_nil, List.replicate, Nat.reduceAdd, Nat.reduceSub, Nat.reduceLeDiff, true_and, and_true, List.append_eq, List.cons.injEq, Value.int.injEq, Value.long.injEq, Value.ref.injEq, exists_and_left, exists_eq_left', and_assoc, zc_b, zc_0, zc_1, zc_10, zc_01, lg_cmp_ge, lg_cmp_le, lg_cmp_gt, lg_cmp_lt, lg_cmp_eq, zw_le, zw_lt, reduceIte, true_or, or_true, zw_g0, zw_l0, zw_g1, zw_l1, zw_g2, zw_l2, zw_g3, zw_l3, zw_g5, zw_l5, zw_g6, zw_l6, zw_g7, zw_l7, zw_g9, zw_l9, zw_g10, zw_l10, zw_g15, zw_l15, zw_g16, zw_l16, zw_g48, zw_l48, zw_g50, zw_l50, zw_g57, zw_l57, zw_g97, zw_l97, zw_g100, zw_l100, zw_g200, zw_l200, zw_g999, zw_l999, zw_g9999, zw_l9999]
    exact ⟨(h, m, w, pick, 0, 0), none, none, none, rfl, rfl, by omega, fun j hj => absurd hj (Nat.not_lt_zero _), by simp [zq_sI]; rfl, zq_fm_F zq_fm_rf (by decide), hX, hU, hQ, k⟩
  · obtain ⟨h0, m, w, pick, t, c9⟩ := z
    obtain ⟨s3, s4, s5, rfl, rfl, ht, h1, e50, hf, hX, hU, hQ, k⟩ := hi
    have hm := hU.2.1
    have e : (6 ≤ nI t) = (t = 6) := zl_ge ht (by decide)
    simp only [xX12_goesByTurns_9, xX12_goesByTurns_15, xX12_goesByTurns_28, e, nI_clamp (show t < 2 ^ 31 by omega), nI_1, zi_push, zi_iload, zi_lload, zi_aload, zi_istore, zi_astore, zi_lstore, zi_iinc, zi_i2, zi_i1, zi_idv, zi_l2, zi_ldv, zi_lsh, zi_i2l, zi_l2i, zi_lcmp, zi_dup, zi_dup2, zi_pop, zi_if1, zi_if2, zi_getI, zi_getL, zi_getR, zi_putI, zi_putZ, zi_putL, zi_aldI, zi_aldL, zi_astI, zi_astZ, zi_astL, zi_alen, zi_iret, zi_zret, zi_lret, zi_vret, zi_callV, zi_callS, zi_sw, zi_copyI, zi_copyL, zi_m2, zi_m1, zi_sval, zi_scod, zi_fmt, zi_balen, zi_bald, zi_bret, zi_callT, zq_nth, zq_put1, zq_put2, zq_clr, zq_nl, zq_tk, zq_ps, zq_sw, zq_l0, zq_a, zq_a1, List.length_cons, List.length_nil, List.nil_append, List.cons_append, List.append_nil, List.replicate, Nat.reduceAdd, Nat.reduceSub, Nat.reduceLeDiff, true_and, and_true, List.append_eq, List.cons.injEq, Value.int.injEq, Value.long.injEq, Value.ref.injEq, exists_and_left, exists_eq_left', and_assoc, zc_b, zc_0, zc_1, zc_10, zc_01, lg_cmp_ge, lg_cmp_le, lg_cmp_gt, lg_cmp_lt, lg_cmp_eq, zw_le, zw_lt, reduceIte, true_or, or_true, zw_g0, zw_l0, zw_g1, zw_l1, zw_g2, zw_l2, zw_g3, zw_l3, zw_g5, zw_l5, zw_g6, zw_l6, zw_g7, zw_l7, zw_g9, zw_l9, zw_g10, zw_l10, zw_g15, zw_l15, zw_g16, zw_l16, zw_g48, zw_l48, zw_g50, zw_l50, zw_g57, zw_l57, zw_g97, zw_l97, zw_g100, zw_l100, zw_g200, zw_l200, zw_g999, zw_l999, zw_g9999, zw_l9999]
    refine ⟨fun q => ?_, fun q => ⟨vp_in_nI (by omega) (by decide), (h0, m, w, pick, t + 1, 0), by dsimp only; omega, s3, s4, s5, rfl, rfl, by omega, fun j hj => ?_, by simpa [zq_sI] using e50, zq_fm_I hf (by decide), hX, hU, hQ, k⟩⟩
    · subst q
      exact ⟨(h0, m, w, pick, 0, 0), by dsimp only; omega, s3, s4, s5, rfl, rfl, Nat.zero_le _, fun j hj => h1 j hj, e50, hf, hX, hU, hQ, k⟩
    · by_cases q2 : j = t
      · simp [zq_sI, q2]
      · simpa [zq_sI, q2] using h1 j (by omega)
  · obtain ⟨h0, m, w, pick, t, c9⟩ := z
    obtain ⟨s3, s4, s5, rfl, rfl, ht, hH, e50, hf, hX, hU, hQ, k⟩ := hi
    have hX1 := MD_fm50 hX hf
    have hn := hX1.1.1.1
    have hm := hU.2.1
    have ho := zta_ok (vn V) (vwN V) pick w z00 t
    have ho2 : zleft (vT V pick w z00 t).1 (vn V) + (vT V pick w z00 t).2.1 = vn V := ho.2
    have e49 : h.1 56 49 = nI m := by rw [(hf.2 49 (by decide)).1]; exact hU.1
    have em : (nI (vn V) ≤ nI (vT V pick w z00 t).2.1) = (¬ (vT V pick w z00 t).2.1 < vn V) := by
      rw [nI_leP (by omega) (by omega)]
      exact propext ⟨fun z => by omega, fun z => by omega⟩
    simp only [xX12_goesByTurns_30, xX12_goesByTurns_38, xX12_goesByTurns_49, xX12_goesByTurns_171, e49, e50, hX1.1.1.2.1, zl_ge ht (show m < 2 ^ 31 by omega), em, nI_clamp (show t < 2 ^ 31 by omega), zi_push, zi_iload, zi_lload, zi_aload, zi_istore, zi_astore, zi_lstore, zi_iinc, zi_i2, zi_i1, zi_idv, zi_l2, zi_ldv, zi_lsh, zi_i2l, zi_l2i, zi_lcmp, zi_dup, zi_dup2, zi_pop, zi_if1, zi_if2, zi_getI, zi_getL, zi_getR, zi_putI, zi_putZ, zi_putL, zi_aldI, zi_aldL, zi_astI, zi_astZ, zi_astL, zi_alen, zi_iret, zi_zret, zi_lret, zi_vret, zi_callV, zi_callS, zi_sw, zi_copyI, zi_copyL, zi_m2, zi_m1, zi_sval, zi_scod, zi_fmt, zi_balen, zi_bald, zi_bret, zi_callT, zq_nth, zq_put1, zq_put2, zq_clr, zq_nl, zq_tk, zq_ps, zq_sw, zq_l0, zq_a, zq_a1, List.length_cons, List.length_nil, List.nil_append, List.cons_append, List.append_nil, List.replicate, Nat.reduceAdd, Nat.reduceSub, Nat.reduceLeDiff, true_and, and_true, List.append_eq, List.cons.injEq, Value.int.injEq, Value.long.injEq, Value.ref.injEq, exists_and_left, exists_eq_left', and_assoc, zc_b, zc_0, zc_1, zc_10, zc_01, lg_cmp_ge, lg_cmp_le, lg_cmp_gt, lg_cmp_lt, lg_cmp_eq, zw_le, zw_lt, reduceIte, true_or, or_true, zw_g0, zw_l0, zw_g1, zw_l1, zw_g2, zw_l2, zw_g3, zw_l3, zw_g5, zw_l5, zw_g6, zw_l6, zw_g7, zw_l7, zw_g9, zw_l9, zw_g10, zw_l10, zw_g15, zw_l15, zw_g16, zw_l16, zw_g48, zw_l48, zw_g50, zw_l50, zw_g57, zw_l57, zw_g97, zw_l97, zw_g100, zw_l100, zw_g200, zw_l200, zw_g999, zw_l999, zw_g9999, zw_l9999]
    refine ⟨fun q => ?_, fun q => ⟨fun q2 => ?_, fun q2 => ⟨vp_in_nI (by omega) (by decide), ?_⟩⟩⟩
    · subst q
      exact k h hH e50 hf
    · have es := zta_stop (n := vn V) (wt := vwN V) (pick := pick) (w := w) (has := z00) (t := t) q2 (m - t)
      rw [show t + (m - t) = m by omega] at es
      have es2 : vT V pick w z00 m = vT V pick w z00 t := es
      rw [es2] at k
      exact k h hH e50 hf
    · have hw := hU.2.2 t (by omega)
      rw [(hf.1 88 (by decide) (by decide)).1, hw.1]
      exact ⟨(h0, m, w, pick, t, 0), by dsimp only; omega, rfl, rfl, ⟨by omega, Nat.zero_le _, Classical.not_not.mp q2⟩, hH, e50, hf, hX, hU, hQ, k⟩
  · obtain ⟨h0, m, w, pick, t, c⟩ := z
    obtain ⟨rfl, rfl, ⟨ht, hc, hlt⟩, hH, e50, hf, hX, hU, hQ, k⟩ := hi
    have hX1 := MD_fm50 hX hf
    have hn := hX1.1.1.1
    have hg := hX1.1.2.1.1
    have hm := hU.2.1
    have h16 := zp16 hn
    have ho := zta_ok (vn V) (vwN V) pick w z00 t
    have ho1 : (vT V pick w z00 t).1 < 2 ^ vn V := ho.1
    have hw := hU.2.2 t ht
    have hwl := hw.2
    have hb := (zfv_ok (pick (w t)) (vT V pick w z00 t).1 c).1
    have hp : ∀ c, c < vn V → h.1 89 (16 * w t + c) = nI (pick (w t) c) ∧ pick (w t) c ≤ 999 := fun c hc => by
      rw [(hf.1 89 (by decide) (by decide)).1]
      exact hQ (w t) c hw.2 hc
    simp only [xX12_goesByTurns_62, xX12_goesByTurns_71, hX1.1.1.2.1, zl_ge hc (show vn V < 2 ^ 31 by omega), sp_has, zbit01, Classical.not_not, zi_push, zi_iload, zi_lload, zi_aload, zi_istore, zi_astore, zi_lstore, zi_iinc, zi_i2, zi_i1, zi_idv, zi_l2, zi_ldv, zi_lsh, zi_i2l, zi_l2i, zi_lcmp, zi_dup, zi_dup2, zi_pop, zi_if1, zi_if2, zi_getI, zi_getL, zi_getR, zi_putI, zi_putZ, zi_putL, zi_aldI, zi_aldL, zi_astI, zi_astZ, zi_astL, zi_alen, zi_iret, zi_zret, zi_lret, zi_vret, zi_callV, zi_callS, zi_sw, zi_copyI, zi_copyL, zi_m2, zi_m1, zi_sval, zi_scod, zi_fmt, zi_balen, zi_bald, zi_bret, zi_callT, zq_nth, zq_put1, zq_put2, zq_clr, zq_nl, zq_tk, zq_ps, zq_sw, zq_l0, zq_a, zq_a1, List.length_cons, List.length_nil, List.nil_append, List.cons_append, List.append_nil, List.replicate, Nat.reduceAdd, Nat.reduceSub, Nat.reduceLeDiff, true_and, and_true, List.append_eq, List.cons.injEq, Value.int.injEq, Value.long.injEq, Value.ref.injEq, exists_and_left, exists_eq_left', and_assoc, zc_b, zc_0, zc_1, zc_10, zc_01, lg_cmp_ge, lg_cmp_le, lg_cmp_gt, lg_cmp_lt, lg_cmp_eq, zw_le, zw_lt, reduceIte, true_or, or_true, zw_g0, zw_l0, zw_g1, zw_l1, zw_g2, zw_l2, zw_g3, zw_l3, zw_g5, zw_l5, zw_g6, zw_l6, zw_g7, zw_l7, zw_g9, zw_l9, zw_g10, zw_l10, zw_g15, zw_l15, zw_g16, zw_l16, zw_g48, zw_l48, zw_g50, zw_l50, zw_g57, zw_l57, zw_g97, zw_l97, zw_g100, zw_l100, zw_g200, zw_l200, zw_g999, zw_l999, zw_g9999, zw_l9999]
    refine ⟨fun q => ?_, fun q => ?_⟩
    · subst q
      have hb3 := ztaok_b ho hlt (pick (w t))
      have hb' : 0 < zfv (pick (w t)) (vT V pick w z00 t).1 (vn V) ∧ zfv (pick (w t)) (vT V pick w z00 t).1 (vn V) ≤ vn V := ⟨hb3.1, hb3.2.1⟩
      have es : vT V pick w z00 (t + 1) = ((vT V pick w z00 t).1 ||| 2 ^ (zfv (pick (w t)) (vT V pick w z00 t).1 (vn V) - 1), (vT V pick w z00 t).2.1 + 1, fun j => if j = w t then (vT V pick w z00 t).2.2 j + vwN V (w t) (zfv (pick (w t)) (vT V pick w z00 t).1 (vn V) - 1) else (vT V pick w z00 t).2.2 j) := by
        show zta1 _ _ _ _ _ _ = _
        unfold zta1
        exact if_pos hlt
      have fin := fun (h' : zq_H) (s3 s4 s5 : Option Value) (e : MH (vT V pick w z00 (t + 1)).2.2 h') (e2 : h'.1 56 50 = nI (vT V pick w z00 (t + 1)).2.1) (f : zq_fm [50] [90] h0 h') => (⟨(h0, m, w, pick, t + 1, 0), by dsimp only; omega, s3, s4, s5, rfl, rfl, by omega, e, e2, f, hX, hU, hQ, k⟩ : ∃ b9 : zq_H × Nat × (Nat → Nat) × (Nat → Nat → Nat) × Nat × Nat, (b9.2.1 - b9.2.2.2.2.1) * 20 < (m - t) * 20 - 1 - vn V ∧ I_go30 b V Q b9 [some (.ref 56), some (.int (nI (vT V pick w z00 (t + 1)).1)), some (.int (nI (t + 1))), s3, s4, s5] [] h')
      rw [es] at fin
      generalize zfv (pick (w t)) (vT V pick w z00 t).1 (vn V) = bb at hb' fin ⊢
      rw [show nI bb - 1 = nI (bb - 1) from zsub1' (by omega)]
      have t1 := (hX1.2.2 (w t) hw.2).1 (bb - 1) (by omega)
      rw [(vwN_eq V _ _).1] at t1
      have cw : (nI (w t)).toNatClampNeg = w t := nI_clamp (by omega)
      simp only [xX12_goesByTurns_127, zshl1 (bb - 1) (by omega), nx_or, cw, z16b, nI_clamp (show 16 * w t + (bb - 1) < 2 ^ 31 by omega), t1, nI_1, e50, zq_sI, zi_push, zi_iload, zi_lload, zi_aload, zi_istore, zi_astore, zi_lstore, zi_iinc, zi_i2, zi_i1, zi_idv, zi_l2, zi_ldv, zi_lsh, zi_i2l, zi_l2i, zi_lcmp, zi_dup, zi_dup2, zi_pop, zi_if1, zi_if2, zi_getI, zi_getL, zi_getR, zi_putI, zi_putZ, zi_putL, zi_aldI, zi_aldL, zi_astI, zi_astZ, zi_astL, zi_alen, zi_iret, zi_zret, zi_lret, zi_vret, zi_callV, zi_callS, zi_sw, zi_copyI, zi_copyL, zi_m2, zi_m1, zi_sval, zi_scod, zi_fmt, zi_balen, zi_bald, zi_bret, zi_callT, zq_nth, zq_put1, zq_put2, zq_clr, zq_nl, zq_tk, zq_ps, zq_sw, zq_l0, zq_a, zq_a1, List.length_cons, List.length_nil, List.nil_append, List.cons_append, List.append_nil, List.replicate, Nat.reduceAdd, Nat.reduceSub, Nat.reduceLeDiff, true_and, and_true, List.append_eq, List.cons.injEq, Value.int.injEq, Value.long.injEq, Value.ref.injEq, exists_and_left, exists_eq_left', and_assoc, zc_b, zc_0, zc_1, zc_10, zc_01, lg_cmp_ge, lg_cmp_le, lg_cmp_gt, lg_cmp_lt, lg_cmp_eq, zw_le, zw_lt, reduceIte, true_or, or_true, zw_g0, zw_l0, zw_g1, zw_l1, zw_g2, zw_l2, zw_g3, zw_l3, zw_g5, zw_l5, zw_g6, zw_l6, zw_g7, zw_l7, zw_g9, zw_l9, zw_g10, zw_l10, zw_g15, zw_l15, zw_g16, zw_l16, zw_g48, zw_l48, zw_g50, zw_l50, zw_g57, zw_l57, zw_g97, zw_l97, zw_g100, zw_l100, zw_g200, zw_l200, zw_g999, zw_l999, zw_g9999, zw_l9999]
      rw [hH (w t) (by omega), nI_add]
      simp only [Nat.reduceEqDiff, false_and, if_false, e50, nI_1]
      refine ⟨vp_in_nI (by omega) (by decide), vp_in_nI (by omega) (by decide), vp_in_nI (by omega) (by decide), fin _ _ _ _ (fun j hj6 => ?_) (by simp [zq_sI]) (zq_fm_F (zq_fm_I hf (by decide)) (by decide))⟩
      dsimp only
      by_cases q5 : j = w t
      · simp [zq_sI, q5]
      · simpa [zq_sI, q5] using hH j hj6
    · rw [zbitG (by omega) (by omega)]
      have es := zfv_s (pick (w t)) (vT V pick w z00 t).1 c
      have fin : ∀ bb, bb = zfv (pick (w t)) (vT V pick w z00 t).1 (c + 1) → ∃ b9 : zq_H × Nat × (Nat → Nat) × (Nat → Nat → Nat) × Nat × Nat, (b9.2.1 - b9.2.2.2.2.1) * 20 - 1 - b9.2.2.2.2.2 < (m - t) * 20 - 1 - c ∧ I_go62 b V Q b9 [some (.ref 56), some (.int (nI (vT V pick w z00 t).1)), some (.int (nI t)), some (.int (nI (w t))), some (.int (nI bb - 1)), some (.int (nI (c + 1)))] [] h := by
        intro bb e
        subst e
        exact ⟨(h0, m, w, pick, t, c + 1), by dsimp only; omega, rfl, rfl, ⟨ht, by omega, hlt⟩, hH, e50, hf, hX, hU, hQ, k⟩
      rw [es] at fin
      have ec : nI c = nI (c + 1) - 1 := (nI_pred c).symm
      generalize hzb : zfv (pick (w t)) (vT V pick w z00 t).1 c = bb at hb fin ⊢
      simp only [xX12_goesByTurns_80, xX12_goesByTurns_117, xX12_goesByTurns_119, nI_m1 (show bb < 2 ^ 30 by omega), nI_1, zi_push, zi_iload, zi_lload, zi_aload, zi_istore, zi_astore, zi_lstore, zi_iinc, zi_i2, zi_i1, zi_idv, zi_l2, zi_ldv, zi_lsh, zi_i2l, zi_l2i, zi_lcmp, zi_dup, zi_dup2, zi_pop, zi_if1, zi_if2, zi_getI, zi_getL, zi_getR, zi_putI, zi_putZ, zi_putL, zi_aldI, zi_aldL, zi_astI, zi_astZ, zi_astL, zi_alen, zi_iret, zi_zret, zi_lret, zi_vret, zi_callV, zi_callS, zi_sw, zi_copyI, zi_copyL, zi_m2, zi_m1, zi_sval, zi_scod, zi_fmt, zi_balen, zi_bald, zi_bret, zi_callT, zq_nth, zq_put1, zq_put2, zq_clr, zq_nl, zq_tk, zq_ps, zq_sw, zq_l0, zq_a, zq_a1, List.length_cons, List.length_nil, List.nil_append, List.cons_append, List.append_nil, List.replicate, Nat.reduceAdd, Nat.reduceSub, Nat.reduceLeDiff, true_and, and_true, List.append_eq, List.cons.injEq, Value.int.injEq, Value.long.injEq, Value.ref.injEq, exists_and_left, exists_eq_left', and_assoc, zc_b, zc_0, zc_1, zc_10, zc_01, lg_cmp_ge, lg_cmp_le, lg_cmp_gt, lg_cmp_lt, lg_cmp_eq, zw_le, zw_lt, reduceIte, true_or, or_true, zw_g0, zw_l0, zw_g1, zw_l1, zw_g2, zw_l2, zw_g3, zw_l3, zw_g5, zw_l5, zw_g6, zw_l6, zw_g7, zw_l7, zw_g9, zw_l9, zw_g10, zw_l10, zw_g15, zw_l15, zw_g16, zw_l16, zw_g48, zw_l48, zw_g50, zw_l50, zw_g57, zw_l57, zw_g97, zw_l97, zw_g100, zw_l100, zw_g200, zw_l200, zw_g999, zw_l999, zw_g9999, zw_l9999]
      refine ⟨fun q2 => ⟨fun q3 => ?_, fun q3 => ?_⟩, fun q2 => ?_⟩
      · rw [if_pos ⟨q2, Or.inl q3⟩] at fin
        have f9 := fin _ rfl
        rw [← ec] at f9
        simp only [xX12_goesByTurns_112, xX12_goesByTurns_119, nI_1, zi_push, zi_iload, zi_lload, zi_aload, zi_istore, zi_astore, zi_lstore, zi_iinc, zi_i2, zi_i1, zi_idv, zi_l2, zi_ldv, zi_lsh, zi_i2l, zi_l2i, zi_lcmp, zi_dup, zi_dup2, zi_pop, zi_if1, zi_if2, zi_getI, zi_getL, zi_getR, zi_putI, zi_putZ, zi_putL, zi_aldI, zi_aldL, zi_astI, zi_astZ, zi_astL, zi_alen, zi_iret, zi_zret, zi_lret, zi_vret, zi_callV, zi_callS, zi_sw, zi_copyI, zi_copyL, zi_m2, zi_m1, zi_sval, zi_scod, zi_fmt, zi_balen, zi_bald, zi_bret, zi_callT, zq_nth, zq_put1, zq_put2, zq_clr, zq_nl, zq_tk, zq_ps, zq_sw, zq_l0, zq_a, zq_a1, List.length_cons, List.length_nil, List.nil_append, List.cons_append, List.append_nil, List.replicate, Nat.reduceAdd, Nat.reduceSub, Nat.reduceLeDiff, true_and, and_true, List.append_eq, List.cons.injEq, Value.int.injEq, Value.long.injEq, Value.ref.injEq, exists_and_left, exists_eq_left', and_assoc, zc_b, zc_0, zc_1, zc_10, zc_01, lg_cmp_ge, lg_cmp_le, lg_cmp_gt, lg_cmp_lt, lg_cmp_eq, zw_le, zw_lt, reduceIte, true_or, or_true, zw_g0, zw_l0, zw_g1, zw_l1, zw_g2, zw_l2, zw_g3, zw_l3, zw_g5, zw_l5, zw_g6, zw_l6, zw_g7, zw_l7, zw_g9, zw_l9, zw_g10, zw_l10, zw_g15, zw_l15, zw_g16, zw_l16, zw_g48, zw_l48, zw_g50, zw_l50, zw_g57, zw_l57, zw_g97, zw_l97, zw_g100, zw_l100, zw_g200, zw_l200, zw_g999, zw_l999, zw_g9999, zw_l9999]
        exact f9
      · rw [show nI bb - 1 = nI (bb - 1) from zsub1' (by omega)]
        have p1 := hp c (by omega)
        have p2 := hp (bb - 1) (by omega)
        simp only [xX12_goesByTurns_85, xX12_goesByTurns_112, xX12_goesByTurns_117, xX12_goesByTurns_119, z16b, nI_clamp (show 16 * w t + c < 2 ^ 31 by omega), nI_clamp (show 16 * w t + (bb - 1) < 2 ^ 31 by omega), p1.1, p2.1, nI_1, nI_leP (show pick (w t) c < 2 ^ 31 by omega) (show pick (w t) (bb - 1) < 2 ^ 31 by omega), zi_push, zi_iload, zi_lload, zi_aload, zi_istore, zi_astore, zi_lstore, zi_iinc, zi_i2, zi_i1, zi_idv, zi_l2, zi_ldv, zi_lsh, zi_i2l, zi_l2i, zi_lcmp, zi_dup, zi_dup2, zi_pop, zi_if1, zi_if2, zi_getI, zi_getL, zi_getR, zi_putI, zi_putZ, zi_putL, zi_aldI, zi_aldL, zi_astI, zi_astZ, zi_astL, zi_alen, zi_iret, zi_zret, zi_lret, zi_vret, zi_callV, zi_callS, zi_sw, zi_copyI, zi_copyL, zi_m2, zi_m1, zi_sval, zi_scod, zi_fmt, zi_balen, zi_bald, zi_bret, zi_callT, zq_nth, zq_put1, zq_put2, zq_clr, zq_nl, zq_tk, zq_ps, zq_sw, zq_l0, zq_a, zq_a1, List.length_cons, List.length_nil, List.nil_append, List.cons_append, List.append_nil, List.replicate, Nat.reduceAdd, Nat.reduceSub, Nat.reduceLeDiff, true_and, and_true, List.append_eq, List.cons.injEq, Value.int.injEq, Value.long.injEq, Value.ref.injEq, exists_and_left, exists_eq_left', and_assoc, zc_b, zc_0, zc_1, zc_10, zc_01, lg_cmp_ge, lg_cmp_le, lg_cmp_gt, lg_cmp_lt, lg_cmp_eq, zw_le, zw_lt, reduceIte, true_or, or_true, zw_g0, zw_l0, zw_g1, zw_l1, zw_g2, zw_l2, zw_g3, zw_l3, zw_g5, zw_l5, zw_g6, zw_l6, zw_g7, zw_l7, zw_g9, zw_l9, zw_g10, zw_l10, zw_g15, zw_l15, zw_g16, zw_l16, zw_g48, zw_l48, zw_g50, zw_l50, zw_g57, zw_l57, zw_g97, zw_l97, zw_g100, zw_l100, zw_g200, zw_l200, zw_g999, zw_l999, zw_g9999, zw_l9999]
        refine ⟨vp_in_nI (by omega) (by decide), vp_in_nI (by omega) (by decide), fun q4 => ?_, fun q4 => ?_⟩
        · rw [if_neg (fun z => z.2.elim q3 (fun y => by omega))] at fin
          have f9 := fin _ rfl
          rw [show nI bb - 1 = nI (bb - 1) from zsub1' (by omega)] at f9
          exact f9
        · rw [if_pos ⟨q2, Or.inr (by omega)⟩] at fin
          have f9 := fin _ rfl
          rw [← ec] at f9
          exact f9
      · rw [if_neg (fun z => q2 z.1)] at fin
        exact fin _ rfl
