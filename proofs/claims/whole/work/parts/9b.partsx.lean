/-! ===== parts: the face of the class; partsOn and parts of the reference ===== -/
theorem zgu_is {V : zV} {g m k s u : Nat} (hm : 1 ≤ m) (h : m ≤ zpD V g (k + 1) s) (hu : s + 1 ≤ u) (hw : m ≤ zpw V g s u) (hno : ∀ v, s + 1 ≤ v → v < u → ¬ m ≤ zpw V g s v) : zgu V g m s = u := by
  obtain ⟨⟨h1, h2⟩, h3, -, h5⟩ := zgu_ok hm h
  rcases Nat.lt_trichotomy (zgu V g m s) u with q | q | q
  · exact absurd h3 (hno _ h1 q)
  · exact q
  · exact absurd hw (h5 u hu q)
def zpE (l : List Nat) : List Int32 := l.map (fun t => nI t - 1)
def zpW (l : List Nat) : List Int64 := l.map (fun t => (nI t - 1).toInt64)
def zptq (V : zV) (a v : Int32) : Prop := (0 ≤ a ∧ a < nI (vg V)) ∧ 1 ≤ v ∧ v ≤ 6
def zpts (V : zV) (a v : Int32) (K0 K2 : Prop) (K : List Int64 → Int32 → Prop) : Prop := (¬ zptq V a v → K0) ∧ ∀ g N, g < vg V → N ≤ 5 → a = nI g → v = nI (N + 1) → (vn V < N + 1 → K2) ∧ (N + 1 ≤ vn V → K (zpW (zgr V g (zpD V g N 0) N 0)) (nI (zpD V g N 0) - 1))
theorem zptq_n {V : zV} (hg : vg V ≤ 6) {a v : Int32} (h : zptq V a v) : ∃ g N, g < vg V ∧ N ≤ 5 ∧ a = nI g ∧ v = nI (N + 1) := by
  obtain ⟨g, hg2, rfl⟩ := zg_nat (by omega) h.1
  obtain ⟨m, h1, h2, rfl⟩ := zg1_nat (n := 6) (by decide) h.2
  exact ⟨g, m - 1, hg2, by omega, rfl, by rw [show m - 1 + 1 = m by omega]⟩
def zptf : List Nat := [3, 4, 39]
def sp_xParts (V : zV) : zq_Sp := fun args h Q => ∃ a v, args = [.ref 0, .int a, .int v] ∧ XC V h ∧ zpts V a v (Q (some (.int (-1))) h) (Q (some (.int (-2))) h) (fun row r => ∀ h', XR row h' → zq_fr zptf h h' → Q (some (.int r)) h')
abbrev zptT : Type := zq_H × (Nat × Nat) × (Nat × List Nat × Nat) × Nat
def zptk (V : zV) (Q : zq_Q) (h0 h : zq_H) (g N j : Nat) (l : List Nat) (s : Nat) : Prop := (g < vg V ∧ N ≤ 5 ∧ N + 1 ≤ vn V ∧ l.length + j = N) ∧ XC V h0 ∧ zq_fr zptf h0 h ∧ XR (zpW l) h ∧ (zgr V g (zpD V g N 0) N 0 = l ++ zgr V g (zpD V g N 0) j s ∧ zpD V g N 0 ≤ zpD V g j s) ∧ ∀ h', XR (zpW (zgr V g (zpD V g N 0) N 0)) h' → zq_fr zptf h0 h' → Q (some (.int (nI (zpD V g N 0) - 1))) h'
def I_pt55 (V : zV) (Q : zq_Q) (z : zptT) : zq_P := fun ls st h => match z with
  | (h0, (g, N), (j, l, s), _) => ∃ s6, ls = [some (.ref 0), some (.int (nI g)), some (.int (nI (N + 1))), some (.int (nI (zpD V g N 0) - 1)), some (.int (nI s)), some (.int (nI (l.length + 1))), s6] ∧ st = [] ∧ zptk V Q h0 h g N j l s
def I_pt67 (V : zV) (Q : zq_Q) (z : zptT) : zq_P := fun ls st h => match z with
  | (h0, (g, N), (j, l, s), u) => ls = [some (.ref 0), some (.int (nI g)), some (.int (nI (N + 1))), some (.int (nI (zpD V g N 0) - 1)), some (.int (nI s)), some (.int (nI (l.length + 1))), some (.int (nI u))] ∧ st = [] ∧ (s + 1 ≤ u ∧ u ≤ vn V ∧ 1 ≤ j) ∧ (∀ v, s + 1 ≤ v → v < u → ¬ zpD V g N 0 ≤ zpw V g s v) ∧ zptk V Q h0 h g N j l s
theorem zpW_app (l : List Nat) (t : Nat) : zpW (l ++ [t]) = zpW l ++ [(nI t - 1).toInt64] := by
  unfold zpW
  rw [List.map_append]
  rfl
theorem ok_xParts (V : zV) : zq_M yX11_parts cX11_parts 7 (some .int) 1 2 (sp_xParts V) := by
  refine mX11_parts (ok_isGuestV V) (by decide) (ok_bol V) (by decide) ok_rowClearL (by decide) (ok_btwV V) (by decide) ok_rowAddL (by decide) (fun z => z.2.2.1.1 * 100) (I_pt55 V) (fun z => z.2.2.1.1 * 100 - 1 - z.2.2.2) (I_pt67 V) (fun args h Q hs => ?_) (fun Q z ls st h hi => ?_) (fun Q z ls st h hi => ?_)
  · obtain ⟨a, v, rfl, hX, k0, kk⟩ := hs
    have hg := hX.2.1.1
    have hn := hX.1.1
    refine ⟨Nat.le_of_ble_eq_true rfl, ?_⟩
    simp only [xX11_parts_0, zi_push, zi_iload, zi_lload, zi_aload, zi_istore, zi_astore, zi_lstore, zi_iinc, zi_i2, zi_i1, zi_idv, zi_l2, zi_ldv, zi_lsh, zi_i2l, zi_l2i, zi_lcmp, zi_dup, zi_dup2, zi_pop, zi_if1, zi_if2, zi_getI, zi_getL, zi_getR, zi_putI, zi_putZ, zi_putL, zi_aldI, zi_aldL, zi_astI, zi_astZ, zi_astL, zi_alen, zi_iret, zi_zret, zi_lret, zi_vret, zi_callV, zi_callS, zi_sw, zi_copyI, zi_copyL, zi_m2, zi_m1, zi_sval, zi_scod, zi_fmt, zi_balen, zi_bald, zi_bret, zi_callT, zq_nth, zq_put1, zq_put2, zq_clr, zq_nl, zq_tk, zq_ps, zq_sw, zq_l0, zq_a, zq_a1, List.length_cons, List.length_nil, List.nil_append, List.cons_append, List.append_nil, List.replicate, Nat.reduceAdd, Nat.reduceSub, Nat.reduceLeDiff, true_and, and_true, List.append_eq, List.cons.injEq, Value.int.injEq, Value.long.injEq, Value.ref.injEq, exists_and_left, exists_eq_left', and_assoc, zc_b, zc_0, zc_1, zc_10, zc_01, lg_cmp_ge, lg_cmp_le, lg_cmp_gt, lg_cmp_lt, lg_cmp_eq, zw_le, zw_lt, reduceIte, true_or, or_true, zw_g0, zw_l0, zw_g1, zw_l1, zw_g2, zw_l2, zw_g3, zw_l3, zw_g5, zw_l5, zw_g6, zw_l6, zw_g7, zw_l7, zw_g9, zw_l9, zw_g10, zw_l10, zw_g15, zw_l15, zw_g16, zw_l16, zw_g48, zw_l48, zw_g50, zw_l50, zw_g57, zw_l57, zw_g97, zw_l97, zw_g100, zw_l100, zw_g200, zw_l200, zw_g999, zw_l999, zw_g9999, zw_l9999]
    refine ⟨a, rfl, hX, ?_⟩
    simp only [xX11_parts_8, xX11_parts_13, xX11_parts_19, zi_push, zi_iload, zi_lload, zi_aload, zi_istore, zi_astore, zi_lstore, zi_iinc, zi_i2, zi_i1, zi_idv, zi_l2, zi_ldv, zi_lsh, zi_i2l, zi_l2i, zi_lcmp, zi_dup, zi_dup2, zi_pop, zi_if1, zi_if2, zi_getI, zi_getL, zi_getR, zi_putI, zi_putZ, zi_putL, zi_aldI, zi_aldL, zi_astI, zi_astZ, zi_astL, zi_alen, zi_iret, zi_zret, zi_lret, zi_vret, zi_callV, zi_callS, zi_sw, zi_copyI, zi_copyL, zi_m2, zi_m1, zi_sval, zi_scod, zi_fmt, zi_balen, zi_bald, zi_bret, zi_callT, zq_nth, zq_put1, zq_put2, zq_clr, zq_nl, zq_tk, zq_ps, zq_sw, zq_l0, zq_a, zq_a1, List.length_cons, List.length_nil, List.nil_append, List.cons_append, List.append_nil, List.replicate, Nat.reduceAdd, Nat.reduceSub, Nat.reduceLeDiff, true_and, and_true, List.append_eq, List.cons.injEq, Value.int.injEq, Value.long.injEq, Value.ref.injEq, exists_and_left, exists_eq_left', and_assoc, zc_b, zc_0, zc_1, zc_10, zc_01, lg_cmp_ge, lg_cmp_le, lg_cmp_gt, lg_cmp_lt, lg_cmp_eq, zw_le, zw_lt, reduceIte, true_or, or_true, zw_g0, zw_l0, zw_g1, zw_l1, zw_g2, zw_l2, zw_g3, zw_l3, zw_g5, zw_l5, zw_g6, zw_l6, zw_g7, zw_l7, zw_g9, zw_l9, zw_g10, zw_l10, zw_g15, zw_l15, zw_g16, zw_l16, zw_g48, zw_l48, zw_g50, zw_l50, zw_g57, zw_l57, zw_g97, zw_l97, zw_g100, zw_l100, zw_g200, zw_l200, zw_g999, zw_l999, zw_g9999, zw_l9999]
    refine ⟨fun q => k0 (fun z => q z.1), fun q => ⟨fun q2 => k0 (fun z => absurd z.2.1 (Int32.not_le.mpr q2)), fun q2 => ⟨fun q3 => ?_, fun q3 => k0 (fun z => q3 z.2.2)⟩⟩⟩
    obtain ⟨g, N, hg2, hN, rfl, rfl⟩ := zptq_n hg ⟨Classical.not_not.mp q, Int32.not_lt.mp q2, q3⟩
    obtain ⟨k2, k⟩ := kk g N hg2 hN rfl rfl
    have c1 : (nI (N + 1) ≤ nI (vn V)) = (N + 1 ≤ vn V) := nI_leP (by omega) (by omega)
    simp only [xX11_parts_21, xX11_parts_32, xX11_parts_35, hX.1.2.1, c1, zi_push, zi_iload, zi_lload, zi_aload, zi_istore, zi_astore, zi_lstore, zi_iinc, zi_i2, zi_i1, zi_idv, zi_l2, zi_ldv, zi_lsh, zi_i2l, zi_l2i, zi_lcmp, zi_dup, zi_dup2, zi_pop, zi_if1, zi_if2, zi_getI, zi_getL, zi_getR, zi_putI, zi_putZ, zi_putL, zi_aldI, zi_aldL, zi_astI, zi_astZ, zi_astL, zi_alen, zi_iret, zi_zret, zi_lret, zi_vret, zi_callV, zi_callS, zi_sw, zi_copyI, zi_copyL, zi_m2, zi_m1, zi_sval, zi_scod, zi_fmt, zi_balen, zi_bald, zi_bret, zi_callT, zq_nth, zq_put1, zq_put2, zq_clr, zq_nl, zq_tk, zq_ps, zq_sw, zq_l0, zq_a, zq_a1, List.length_cons, List.length_nil, List.nil_append, List.cons_append, List.append_nil, List.replicate, Nat.reduceAdd, Nat.reduceSub, Nat.reduceLeDiff, true_and, and_true, List.append_eq, List.cons.injEq, Value.int.injEq, Value.long.injEq, Value.ref.injEq, exists_and_left, exists_eq_left', and_assoc, zc_b, zc_0, zc_1, zc_10, zc_01, lg_cmp_ge, lg_cmp_le, lg_cmp_gt, lg_cmp_lt, lg_cmp_eq, zw_le, zw_lt, reduceIte, true_or, or_true, zw_g0, zw_l0, zw_g1, zw_l1, zw_g2, zw_l2, zw_g3, zw_l3, zw_g5, zw_l5, zw_g6, zw_l6, zw_g7, zw_l7, zw_g9, zw_l9, zw_g10, zw_l10, zw_g15, zw_l15, zw_g16, zw_l16, zw_g48, zw_l48, zw_g50, zw_l50, zw_g57, zw_l57, zw_g97, zw_l97, zw_g100, zw_l100, zw_g200, zw_l200, zw_g999, zw_l999, zw_g9999, zw_l9999]
    refine ⟨fun q4 => ⟨g, N, rfl, ⟨hg2, hN⟩, hX, fun h1 f1 => ?_⟩, fun q4 => k2 (by omega)⟩
    simp only [zi_push, zi_iload, zi_lload, zi_aload, zi_istore, zi_astore, zi_lstore, zi_iinc, zi_i2, zi_i1, zi_idv, zi_l2, zi_ldv, zi_lsh, zi_i2l, zi_l2i, zi_lcmp, zi_dup, zi_dup2, zi_pop, zi_if1, zi_if2, zi_getI, zi_getL, zi_getR, zi_putI, zi_putZ, zi_putL, zi_aldI, zi_aldL, zi_astI, zi_astZ, zi_astL, zi_alen, zi_iret, zi_zret, zi_lret, zi_vret, zi_callV, zi_callS, zi_sw, zi_copyI, zi_copyL, zi_m2, zi_m1, zi_sval, zi_scod, zi_fmt, zi_balen, zi_bald, zi_bret, zi_callT, zq_nth, zq_put1, zq_put2, zq_clr, zq_nl, zq_tk, zq_ps, zq_sw, zq_l0, zq_a, zq_a1, List.length_cons, List.length_nil, List.nil_append, List.cons_append, List.append_nil, List.replicate, Nat.reduceAdd, Nat.reduceSub, Nat.reduceLeDiff, true_and, and_true, List.append_eq, List.cons.injEq, Value.int.injEq, Value.long.injEq, Value.ref.injEq, exists_and_left, exists_eq_left', and_assoc, zc_b, zc_0, zc_1, zc_10, zc_01, lg_cmp_ge, lg_cmp_le, lg_cmp_gt, lg_cmp_lt, lg_cmp_eq, zw_le, zw_lt, reduceIte, true_or, or_true, zw_g0, zw_l0, zw_g1, zw_l1, zw_g2, zw_l2, zw_g3, zw_l3, zw_g5, zw_l5, zw_g6, zw_l6, zw_g7, zw_l7, zw_g9, zw_l9, zw_g10, zw_l10, zw_g15, zw_l15, zw_g16, zw_l16, zw_g48, zw_l48, zw_g50, zw_l50, zw_g57, zw_l57, zw_g97, zw_l97, zw_g100, zw_l100, zw_g200, zw_l200, zw_g999, zw_l999, zw_g9999, zw_l9999]
    refine ⟨rfl, fun h2 r2 f2 => ?_⟩
    simp only [zi_push, zi_iload, zi_lload, zi_aload, zi_istore, zi_astore, zi_lstore, zi_iinc, zi_i2, zi_i1, zi_idv, zi_l2, zi_ldv, zi_lsh, zi_i2l, zi_l2i, zi_lcmp, zi_dup, zi_dup2, zi_pop, zi_if1, zi_if2, zi_getI, zi_getL, zi_getR, zi_putI, zi_putZ, zi_putL, zi_aldI, zi_aldL, zi_astI, zi_astZ, zi_astL, zi_alen, zi_iret, zi_zret, zi_lret, zi_vret, zi_callV, zi_callS, zi_sw, zi_copyI, zi_copyL, zi_m2, zi_m1, zi_sval, zi_scod, zi_fmt, zi_balen, zi_bald, zi_bret, zi_callT, zq_nth, zq_put1, zq_put2, zq_clr, zq_nl, zq_tk, zq_ps, zq_sw, zq_l0, zq_a, zq_a1, List.length_cons, List.length_nil, List.nil_append, List.cons_append, List.append_nil, List.replicate, Nat.reduceAdd, Nat.reduceSub, Nat.reduceLeDiff, true_and, and_true, List.append_eq, List.cons.injEq, Value.int.injEq, Value.long.injEq, Value.ref.injEq, exists_and_left, exists_eq_left', and_assoc, zc_b, zc_0, zc_1, zc_10, zc_01, lg_cmp_ge, lg_cmp_le, lg_cmp_gt, lg_cmp_lt, lg_cmp_eq, zw_le, zw_lt, reduceIte, true_or, or_true, zw_g0, zw_l0, zw_g1, zw_l1, zw_g2, zw_l2, zw_g3, zw_l3, zw_g5, zw_l5, zw_g6, zw_l6, zw_g7, zw_l7, zw_g9, zw_l9, zw_g10, zw_l10, zw_g15, zw_l15, zw_g16, zw_l16, zw_g48, zw_l48, zw_g50, zw_l50, zw_g57, zw_l57, zw_g97, zw_l97, zw_g100, zw_l100, zw_g200, zw_l200, zw_g999, zw_l999, zw_g9999, zw_l9999]
    exact ⟨(h, (g, N), (N, [], 0), 0), none, rfl, rfl, ⟨hg2, hN, q4, Nat.zero_add N⟩, hX, zq_fr_t (zq_fr_w f1 (by decide)) f2 (by decide), r2, ⟨rfl, Nat.le_refl _⟩, k q4⟩
  · obtain ⟨h0, ⟨g, N⟩, ⟨j, l, s⟩, u9⟩ := z
    obtain ⟨s6, rfl, rfl, hk9⟩ := hi
    have hk8 := hk9
    obtain ⟨⟨hg, hN, hNn, hl⟩, hX, hf, hR, ⟨er, hD⟩, k⟩ := hk8
    have hX1 := XC_fr hX hf (by decide)
    have hn := hX1.1.1
    have h1 := zpD_yes V g N 0 (by omega)
    have c1 : (nI (N + 1) ≤ nI (l.length + 1)) = (j = 0) := by
      rw [nI_leP (by omega) (by omega)]
      exact propext ⟨fun z => by omega, fun z => by omega⟩
    simp only [xX11_parts_55, xX11_parts_61, xX11_parts_123, c1, nI_1, hX1.1.2.1, zi_push, zi_iload, zi_lload, zi_aload, zi_istore, zi_astore, zi_lstore, zi_iinc, zi_i2, zi_i1, zi_idv, zi_l2, zi_ldv, zi_lsh, zi_i2l, zi_l2i, zi_lcmp, zi_dup, zi_dup2, zi_pop, zi_if1, zi_if2, zi_getI, zi_getL, zi_getR, zi_putI, zi_putZ, zi_putL, zi_aldI, zi_aldL, zi_astI, zi_astZ, zi_astL, zi_alen, zi_iret, zi_zret, zi_lret, zi_vret, zi_callV, zi_callS, zi_sw, zi_copyI, zi_copyL, zi_m2, zi_m1, zi_sval, zi_scod, zi_fmt, zi_balen, zi_bald, zi_bret, zi_callT, zq_nth, zq_put1, zq_put2, zq_clr, zq_nl, zq_tk, zq_ps, zq_sw, zq_l0, zq_a, zq_a1, List.length_cons, List.length_nil, List.nil_append, List.cons_append, List.append_nil, List.replicate, Nat.reduceAdd, Nat.reduceSub, Nat.reduceLeDiff, true_and, and_true, List.append_eq, List.cons.injEq, Value.int.injEq, Value.long.injEq, Value.ref.injEq, exists_and_left, exists_eq_left', and_assoc, zc_b, zc_0, zc_1, zc_10, zc_01, lg_cmp_ge, lg_cmp_le, lg_cmp_gt, lg_cmp_lt, lg_cmp_eq, zw_le, zw_lt, reduceIte, true_or, or_true, zw_g0, zw_l0, zw_g1, zw_l1, zw_g2, zw_l2, zw_g3, zw_l3, zw_g5, zw_l5, zw_g6, zw_l6, zw_g7, zw_l7, zw_g9, zw_l9, zw_g10, zw_l10, zw_g15, zw_l15, zw_g16, zw_l16, zw_g48, zw_l48, zw_g50, zw_l50, zw_g57, zw_l57, zw_g97, zw_l97, zw_g100, zw_l100, zw_g200, zw_l200, zw_g999, zw_l999, zw_g9999, zw_l9999]
    refine ⟨fun q => ?_, fun q => ?_⟩
    · subst q
      refine ⟨_, _, rfl, hR, by unfold zpW; rw [List.length_map]; omega, fun h1 r1 f1 => ?_⟩
      simp only [zi_push, zi_iload, zi_lload, zi_aload, zi_istore, zi_astore, zi_lstore, zi_iinc, zi_i2, zi_i1, zi_idv, zi_l2, zi_ldv, zi_lsh, zi_i2l, zi_l2i, zi_lcmp, zi_dup, zi_dup2, zi_pop, zi_if1, zi_if2, zi_getI, zi_getL, zi_getR, zi_putI, zi_putZ, zi_putL, zi_aldI, zi_aldL, zi_astI, zi_astZ, zi_astL, zi_alen, zi_iret, zi_zret, zi_lret, zi_vret, zi_callV, zi_callS, zi_sw, zi_copyI, zi_copyL, zi_m2, zi_m1, zi_sval, zi_scod, zi_fmt, zi_balen, zi_bald, zi_bret, zi_callT, zq_nth, zq_put1, zq_put2, zq_clr, zq_nl, zq_tk, zq_ps, zq_sw, zq_l0, zq_a, zq_a1, List.length_cons, List.length_nil, List.nil_append, List.cons_append, List.append_nil, List.replicate, Nat.reduceAdd, Nat.reduceSub, Nat.reduceLeDiff, true_and, and_true, List.append_eq, List.cons.injEq, Value.int.injEq, Value.long.injEq, Value.ref.injEq, exists_and_left, exists_eq_left', and_assoc, zc_b, zc_0, zc_1, zc_10, zc_01, lg_cmp_ge, lg_cmp_le, lg_cmp_gt, lg_cmp_lt, lg_cmp_eq, zw_le, zw_lt, reduceIte, true_or, or_true, zw_g0, zw_l0, zw_g1, zw_l1, zw_g2, zw_l2, zw_g3, zw_l3, zw_g5, zw_l5, zw_g6, zw_l6, zw_g7, zw_l7, zw_g9, zw_l9, zw_g10, zw_l10, zw_g15, zw_l15, zw_g16, zw_l16, zw_g48, zw_l48, zw_g50, zw_l50, zw_g57, zw_l57, zw_g97, zw_l97, zw_g100, zw_l100, zw_g200, zw_l200, zw_g999, zw_l999, zw_g9999, zw_l9999]
      rw [show l ++ zgr V g (zpD V g N 0) 0 s = l ++ [vn V] from rfl] at er
      refine k h1 ?_ (zq_fr_t hf f1 (by decide))
      rw [er, zpW_app]
      exact r1
    · have hs : s + j < vn V := Nat.not_le.mp (fun z => by
        rw [zpD_no V g j s z] at hD
        omega)
      exact ⟨(h0, (g, N), (j, l, s), s + 1), by dsimp only; omega, rfl, rfl, ⟨Nat.le_refl _, by omega, by omega⟩, fun v h1 h2 => by omega, hk9⟩
  · obtain ⟨h0, ⟨g, N⟩, ⟨j, l, s⟩, u⟩ := z
    obtain ⟨rfl, rfl, ⟨hsu, hu, hj⟩, hno, hk9⟩ := hi
    have hk8 := hk9
    obtain ⟨⟨hg, hN, hNn, hl⟩, hX, hf, hR, ⟨er, hD⟩, k⟩ := hk8
    obtain ⟨i, rfl⟩ : ∃ i, j = i + 1 := ⟨j - 1, by omega⟩
    have hX1 := XC_fr hX hf (by decide)
    have hn := hX1.1.1
    have h1 := zpD_yes V g N 0 (by omega)
    have lD := zpD_le V g hn N 0
    obtain ⟨⟨z1, z2⟩, z3, z4, z5⟩ := zgu_ok h1 hD
    have c1 : (nI (vn V) ≤ nI u) = (vn V ≤ u) := nI_leP (by omega) (by omega)
    simp only [xX11_parts_67, xX11_parts_79, xX11_parts_95, hX1.1.2.1, c1, zi_push, zi_iload, zi_lload, zi_aload, zi_istore, zi_astore, zi_lstore, zi_iinc, zi_i2, zi_i1, zi_idv, zi_l2, zi_ldv, zi_lsh, zi_i2l, zi_l2i, zi_lcmp, zi_dup, zi_dup2, zi_pop, zi_if1, zi_if2, zi_getI, zi_getL, zi_getR, zi_putI, zi_putZ, zi_putL, zi_aldI, zi_aldL, zi_astI, zi_astZ, zi_astL, zi_alen, zi_iret, zi_zret, zi_lret, zi_vret, zi_callV, zi_callS, zi_sw, zi_copyI, zi_copyL, zi_m2, zi_m1, zi_sval, zi_scod, zi_fmt, zi_balen, zi_bald, zi_bret, zi_callT, zq_nth, zq_put1, zq_put2, zq_clr, zq_nl, zq_tk, zq_ps, zq_sw, zq_l0, zq_a, zq_a1, List.length_cons, List.length_nil, List.nil_append, List.cons_append, List.append_nil, List.replicate, Nat.reduceAdd, Nat.reduceSub, Nat.reduceLeDiff, true_and, and_true, List.append_eq, List.cons.injEq, Value.int.injEq, Value.long.injEq, Value.ref.injEq, exists_and_left, exists_eq_left', and_assoc, zc_b, zc_0, zc_1, zc_10, zc_01, lg_cmp_ge, lg_cmp_le, lg_cmp_gt, lg_cmp_lt, lg_cmp_eq, zw_le, zw_lt, reduceIte, true_or, or_true, zw_g0, zw_l0, zw_g1, zw_l1, zw_g2, zw_l2, zw_g3, zw_l3, zw_g5, zw_l5, zw_g6, zw_l6, zw_g7, zw_l7, zw_g9, zw_l9, zw_g10, zw_l10, zw_g15, zw_l15, zw_g16, zw_l16, zw_g48, zw_l48, zw_g50, zw_l50, zw_g57, zw_l57, zw_g97, zw_l97, zw_g100, zw_l100, zw_g200, zw_l200, zw_g999, zw_l999, zw_g9999, zw_l9999]
    refine ⟨fun q => absurd z3 (hno _ z1 (by omega)), fun q => ?_⟩
    first
      | refine ⟨Nat.le_of_ble_eq_true rfl, g, s, u, rfl, hg, by omega, hu, hX1, ?_⟩
      | refine ⟨g, s, u, rfl, hg, by omega, hu, hX1, ?_⟩
    have lw := zpw_le V g s u (by omega)
    have c2 : (nI (zpD V g N 0) - 1 ≤ nI (zpw V g s u) - 1) = (zpD V g N 0 ≤ zpw V g s u) := zi1_le (by omega) (by omega)
    rw [zpw_I]
    simp only [xX11_parts_95, xX11_parts_101, c2, nI_1, zi_push, zi_iload, zi_lload, zi_aload, zi_istore, zi_astore, zi_lstore, zi_iinc, zi_i2, zi_i1, zi_idv, zi_l2, zi_ldv, zi_lsh, zi_i2l, zi_l2i, zi_lcmp, zi_dup, zi_dup2, zi_pop, zi_if1, zi_if2, zi_getI, zi_getL, zi_getR, zi_putI, zi_putZ, zi_putL, zi_aldI, zi_aldL, zi_astI, zi_astZ, zi_astL, zi_alen, zi_iret, zi_zret, zi_lret, zi_vret, zi_callV, zi_callS, zi_sw, zi_copyI, zi_copyL, zi_m2, zi_m1, zi_sval, zi_scod, zi_fmt, zi_balen, zi_bald, zi_bret, zi_callT, zq_nth, zq_put1, zq_put2, zq_clr, zq_nl, zq_tk, zq_ps, zq_sw, zq_l0, zq_a, zq_a1, List.length_cons, List.length_nil, List.nil_append, List.cons_append, List.append_nil, List.replicate, Nat.reduceAdd, Nat.reduceSub, Nat.reduceLeDiff, true_and, and_true, List.append_eq, List.cons.injEq, Value.int.injEq, Value.long.injEq, Value.ref.injEq, exists_and_left, exists_eq_left', and_assoc, zc_b, zc_0, zc_1, zc_10, zc_01, lg_cmp_ge, lg_cmp_le, lg_cmp_gt, lg_cmp_lt, lg_cmp_eq, zw_le, zw_lt, reduceIte, true_or, or_true, zw_g0, zw_l0, zw_g1, zw_l1, zw_g2, zw_l2, zw_g3, zw_l3, zw_g5, zw_l5, zw_g6, zw_l6, zw_g7, zw_l7, zw_g9, zw_l9, zw_g10, zw_l10, zw_g15, zw_l15, zw_g16, zw_l16, zw_g48, zw_l48, zw_g50, zw_l50, zw_g57, zw_l57, zw_g97, zw_l97, zw_g100, zw_l100, zw_g200, zw_l200, zw_g999, zw_l999, zw_g9999, zw_l9999]
    refine ⟨fun q2 => ?_, fun q2 => ⟨(h0, (g, N), (i + 1, l, s), u + 1), by dsimp only; omega, rfl, rfl, ⟨by omega, by omega, hj⟩, fun v h1 h2 => ?_, hk9⟩⟩
    · have eu : zgu V g (zpD V g N 0) s = u := zgu_is h1 hD hsu q2 hno
      refine ⟨_, _, rfl, hR, by unfold zpW; rw [List.length_map]; omega, fun h1 r1 f1 => ?_⟩
      simp only [nI_1, zi_push, zi_iload, zi_lload, zi_aload, zi_istore, zi_astore, zi_lstore, zi_iinc, zi_i2, zi_i1, zi_idv, zi_l2, zi_ldv, zi_lsh, zi_i2l, zi_l2i, zi_lcmp, zi_dup, zi_dup2, zi_pop, zi_if1, zi_if2, zi_getI, zi_getL, zi_getR, zi_putI, zi_putZ, zi_putL, zi_aldI, zi_aldL, zi_astI, zi_astZ, zi_astL, zi_alen, zi_iret, zi_zret, zi_lret, zi_vret, zi_callV, zi_callS, zi_sw, zi_copyI, zi_copyL, zi_m2, zi_m1, zi_sval, zi_scod, zi_fmt, zi_balen, zi_bald, zi_bret, zi_callT, zq_nth, zq_put1, zq_put2, zq_clr, zq_nl, zq_tk, zq_ps, zq_sw, zq_l0, zq_a, zq_a1, List.length_cons, List.length_nil, List.nil_append, List.cons_append, List.append_nil, List.replicate, Nat.reduceAdd, Nat.reduceSub, Nat.reduceLeDiff, true_and, and_true, List.append_eq, List.cons.injEq, Value.int.injEq, Value.long.injEq, Value.ref.injEq, exists_and_left, exists_eq_left', and_assoc, zc_b, zc_0, zc_1, zc_10, zc_01, lg_cmp_ge, lg_cmp_le, lg_cmp_gt, lg_cmp_lt, lg_cmp_eq, zw_le, zw_lt, reduceIte, true_or, or_true, zw_g0, zw_l0, zw_g1, zw_l1, zw_g2, zw_l2, zw_g3, zw_l3, zw_g5, zw_l5, zw_g6, zw_l6, zw_g7, zw_l7, zw_g9, zw_l9, zw_g10, zw_l10, zw_g15, zw_l15, zw_g16, zw_l16, zw_g48, zw_l48, zw_g50, zw_l50, zw_g57, zw_l57, zw_g97, zw_l97, zw_g100, zw_l100, zw_g200, zw_l200, zw_g999, zw_l999, zw_g9999, zw_l9999]
      have el1 : (l ++ [u]).length = l.length + 1 := by rw [List.length_append]; rfl
      refine ⟨(h0, (g, N), (i, l ++ [u], u), 0), by dsimp only; omega, _, by rw [el1], rfl, ⟨hg, hN, hNn, by rw [el1]; omega⟩, hX, zq_fr_t hf f1 (by decide), by rw [zpW_app]; exact r1, ⟨?_, by rw [← eu]; exact z4⟩, k⟩
      rw [er, zgr, eu, List.append_assoc]
      rfl
    · by_cases c : v = u
      · rw [c]
        exact q2
      · exact hno v h1 (by omega)
/-! the reference -/
def zmnp (x : Int32) (L : Nat) : Prop := L ≤ 2 ^ 20 ∧ ∀ a, a ≤ 2 ^ 20 → zf_min x (nI a - 1) = nI (min L a) - 1
theorem zmnp_1 {l : Nat} (h : l ≤ 2 ^ 20) : zmnp (nI l - 1) l := ⟨h, fun a ha => zi1_mn (by omega) (by omega)⟩
theorem zmnp_M : zmnp 2147483647 (2 ^ 20) := ⟨Nat.le_refl _, fun a ha => by
  have e : nI a - 1 < (2147483647 : Int32) := by
    rw [Int32.lt_iff_toInt_lt, zi1_t (by omega), show (2147483647 : Int32).toInt = 2147483647 from rfl]
    omega
  unfold zf_min
  rw [if_pos e, Nat.min_eq_right ha]⟩
def zpvv (V : zV) (g j : Nat) (pre : List Nat) (s L : Nat) (S : Nat × List Nat) : Nat × List Nat := if S.1 < min L (zpD V g j s) then (min L (zpD V g j s), pre ++ zgr V g (min L (zpD V g j s)) j s) else S
def zpmm (V : zV) (g j s L : Nat) : Nat → Nat × Nat
  | 0 => (0, 0)
  | i + 1 => if (zpmm V g j s L i).1 < min L (zbF V g j s i) then (min L (zbF V g j s i), s + 1 + i) else zpmm V g j s L i
def zpq (V : zV) (g j : Nat) (pre : List Nat) (s L : Nat) (S : Nat × List Nat) (i : Nat) : Nat × List Nat := if S.1 < (zpmm V g j s L i).1 then ((zpmm V g j s L i).1, pre ++ (zpmm V g j s L i).2 :: zgr V g (zpmm V g j s L i).1 j (zpmm V g j s L i).2) else S
theorem zpmm_1 (V : zV) (g j s L : Nat) : ∀ i, (zpmm V g j s L i).1 = min L (zmx (zbF V g j s) i)
  | 0 => by
    show 0 = min L 0
    omega
  | i + 1 => by
    have ih := zpmm_1 V g j s L i
    rw [zpmm, zmx]
    split
    · next q =>
      show min L (zbF V g j s i) = _
      omega
    · next q => omega
theorem zpmm_2 (V : zV) (g j s L : Nat) : ∀ i, 1 ≤ (zpmm V g j s L i).1 → ∃ i0, i0 < i ∧ (zpmm V g j s L i).2 = s + 1 + i0 ∧ min L (zbF V g j s i0) = (zpmm V g j s L i).1 ∧ ∀ i1, i1 < i0 → min L (zbF V g j s i1) < (zpmm V g j s L i).1
  | 0, h => by
    exact absurd h (Nat.not_succ_le_zero 0)
  | i + 1, h => by
    rw [zpmm] at h ⊢
    split
    · next q =>
      refine ⟨i, Nat.lt_succ_self i, rfl, rfl, fun i1 h1 => ?_⟩
      have e := zpmm_1 V g j s L i
      have := zmx_ge (f := zbF V g j s) h1
      show min L (zbF V g j s i1) < min L (zbF V g j s i)
      omega
    · next q =>
      rw [if_neg q] at h
      obtain ⟨i0, h1, h2⟩ := zpmm_2 V g j s L i h
      exact ⟨i0, by omega, h2⟩
theorem zpq_s (V : zV) (g j : Nat) (pre : List Nat) (s L : Nat) (S : Nat × List Nat) (i : Nat) : zpq V g j pre s L S (i + 1) = zpvv V g j (pre ++ [s + 1 + i]) (s + 1 + i) (min L (zpw V g s (s + 1 + i))) (zpq V g j pre s L S i) := by
  have ev : min (min L (zpw V g s (s + 1 + i))) (zpD V g j (s + 1 + i)) = min L (zbF V g j s i) := Nat.min_assoc _ _ _
  unfold zpvv
  rw [ev, List.append_assoc]
  show _ = if (zpq V g j pre s L S i).1 < min L (zbF V g j s i) then (min L (zbF V g j s i), pre ++ (s + 1 + i) :: zgr V g (min L (zbF V g j s i)) j (s + 1 + i)) else zpq V g j pre s L S i
  by_cases c : S.1 < (zpmm V g j s L i).1
  · have e1 : zpq V g j pre s L S i = ((zpmm V g j s L i).1, pre ++ (zpmm V g j s L i).2 :: zgr V g (zpmm V g j s L i).1 j (zpmm V g j s L i).2) := if_pos c
    rw [e1]
    unfold zpq
    rw [zpmm]
    by_cases d : (zpmm V g j s L i).1 < min L (zbF V g j s i)
    · rw [if_pos d, if_pos d, if_pos (by dsimp only; omega)]
    · rw [if_neg d, if_neg d, if_pos c]
  · have e1 : zpq V g j pre s L S i = S := if_neg c
    rw [e1]
    unfold zpq
    rw [zpmm]
    by_cases d : (zpmm V g j s L i).1 < min L (zbF V g j s i)
    · rw [if_pos d]
    · rw [if_neg d, if_neg c, if_neg (by omega)]
theorem zmx_up {f : Nat → Nat} {a c : Nat} (h : a ≤ c) (h0 : ∀ i, a ≤ i → f i = 0) : zmx f c = zmx f a := by
  refine Nat.le_antisymm (zmx_le c (fun i hi => ?_)) (zmx_le a (fun i hi => zmx_ge (by omega)))
  by_cases q : i < a
  · exact zmx_ge q
  · rw [h0 i (by omega)]
    exact Nat.zero_le _
theorem zpq_end {V : zV} {g j s L : Nat} {pre : List Nat} {S : Nat × List Nat} : zpq V g j pre s L S (vn V - (j + 1) - s) = zpvv V g (j + 1) pre s L S := by
  have em : zmx (zbF V g j s) (vn V - (j + 1) - s) = zpD V g (j + 1) s := by
    rw [zpD]
    refine (zmx_up (by omega) (fun i hi => ?_)).symm
    show min _ (zpD V g j (s + 1 + i)) = 0
    rw [zpD_no V g j _ (by omega)]
    exact Nat.min_zero _
  have e1 := zpmm_1 V g j s L (vn V - (j + 1) - s)
  rw [em] at e1
  unfold zpq zpvv
  rw [e1]
  by_cases c : S.1 < min L (zpD V g (j + 1) s)
  · rw [if_pos c, if_pos c]
    obtain ⟨i0, h1, h2, h3, h4⟩ := zpmm_2 V g j s L (vn V - (j + 1) - s) (by omega)
    rw [e1] at h3 h4
    have hb : min L (zpD V g (j + 1) s) ≤ zbF V g j s i0 := by omega
    have hb2 : zbF V g j s i0 = min (zpw V g s (s + 1 + i0)) (zpD V g j (s + 1 + i0)) := rfl
    have eu : zgu V g (min L (zpD V g (j + 1) s)) s = s + 1 + i0 := by
      refine zgu_is (k := j) (by omega) (by omega) (by omega) (by omega) (fun v hv1 hv2 hv3 => ?_)
      obtain ⟨i1, rfl⟩ : ∃ i1, v = s + 1 + i1 := ⟨v - (s + 1), by omega⟩
      have h5 := h4 i1 (by omega)
      have h6 := zpD_an V g j (s + 1 + i1) (s + 1 + i0) (by omega)
      have hb3 : zbF V g j s i1 = min (zpw V g s (s + 1 + i1)) (zpD V g j (s + 1 + i1)) := rfl
      omega
    rw [zgr, eu, h2]
  · rw [if_neg c, if_neg c]
def zpS (S : Nat × List Nat) (h : zq_H) : Prop := h.1 56 43 = nI S.1 - 1 ∧ (S.1 = 0 ∨ zAt 84 (zpE S.2) h)
def zpok (b : Nat) (V : zV) (g N j s L : Nat) (pre : List Nat) (S : Nat × List Nat) (Q : zq_Q) (h : zq_H) : Prop := (g < vg V ∧ N ≤ 5 ∧ pre.length + j = N ∧ s + j < vn V ∧ S.1 ≤ 2 ^ 20) ∧ MD b V h ∧ ∀ h', zpS (zpvv V g j pre s L S) h' → zAt 83 (zpE pre) h' → zq_fm [43] [83, 84] h h' → Q none h'
def sp_po (b : Nat) (V : zV) (k : Nat) : zq_Sp := fun args h Q => ∃ g N j s x L pre S, args = [.ref 56, .int (nI g), .int (nI s), .int (nI pre.length), .int (nI (N + 1)), .int x] ∧ (j ≤ k ∧ zmnp x L) ∧ zpok b V g N j s L pre S Q h ∧ zpS S h ∧ zAt 83 (zpE pre) h
abbrev zpoT : Type := zq_H × (Nat × Nat × Nat × Nat × Nat × Int32) × (List Nat × (Nat × List Nat)) × Nat
def I_po57 (b : Nat) (V : zV) (Q : zq_Q) (z : zpoT) : zq_P := fun ls st h => match z with
  | (h0, (g, N, j, s, L, x), (pre, S), t) => ∃ s6 : Int32, ls = [some (.ref 56), some (.int (nI g)), some (.int (nI s)), some (.int (nI pre.length)), some (.int (nI (N + 1))), some (.int x), some (.int s6), some (.int (nI t))] ∧ st = [] ∧ (t ≤ N + 1 ∧ j = 0 ∧ S.1 < min L (zpw V g s (vn V))) ∧ zpok b V g N j s L pre S Q h0 ∧ zq_fm [43] [83, 84] h0 h ∧ h.1 56 43 = nI (min L (zpw V g s (vn V))) - 1 ∧ zAt 83 (zpE (pre ++ [vn V])) h ∧ ∀ k, k < t → h.1 84 k = h.1 83 k
def I_po88 (b : Nat) (V : zV) (k : Nat) (Q : zq_Q) (z : zpoT) : zq_P := fun ls st h => match z with
  | (h0, (g, N, j, s, L, x), (pre, S), i) => ∃ s7, ls = [some (.ref 56), some (.int (nI g)), some (.int (nI s)), some (.int (nI pre.length)), some (.int (nI (N + 1))), some (.int x), some (.int (nI (s + i))), s7] ∧ st = [] ∧ (j < k ∧ i ≤ vn V - (j + 1) - s ∧ zmnp x L) ∧ zpok b V g N (j + 1) s L pre S Q h0 ∧ zq_fm [43] [83, 84] h0 h ∧ zpS (zpq V g j pre s L S i) h ∧ zAt 83 (zpE pre) h
theorem zpS_fm {S : Nat × List Nat} {fs ps : List Nat} {h h' : zq_H} (k : zpS S h) (f : zq_fm fs ps h h') (d : 43 ∉ fs ∧ 84 ∉ ps) : zpS S h' := ⟨by rw [(f.2 43 d.1).1]; exact k.1, k.2.imp id (fun q => zAt_fm q f ⟨d.2, by decide⟩)⟩
theorem zpE_app (l : List Nat) (t : Nat) : zpE (l ++ [t]) = zpE l ++ [nI t - 1] := by
  unfold zpE
  rw [List.map_append]
  rfl
theorem zpE_len (l : List Nat) : (zpE l).length = l.length := List.length_map _
theorem zAt_1 {w : List Int32} {h : zq_H} {x : Int32} {L q : Nat} (hA : zAt q w h) (hL : w.length = L) : zAt q (w ++ [x]) (zq_setI h q L x) := by
  intro i z ei
  have li := (List.getElem?_eq_some_iff.mp ei).1
  rw [List.length_append, hL] at li
  have li2 : i < L + 1 := li
  by_cases c : i = L
  · subst c
    rw [List.getElem?_append_right (by omega), hL, Nat.sub_self] at ei
    cases ei
    rw [zq_sI, if_pos ⟨rfl, rfl⟩]
  · rw [List.getElem?_append_left (by omega)] at ei
    rw [zq_sI, if_neg (by omega)]
    exact hA i z ei
theorem zpq_le {V : zV} {g j s L i : Nat} {pre : List Nat} {S : Nat × List Nat} (hL : L ≤ 2 ^ 20) (hS : S.1 ≤ 2 ^ 20) : (zpq V g j pre s L S i).1 ≤ 2 ^ 20 := by
  unfold zpq
  split
  · show (zpmm V g j s L i).1 ≤ 2 ^ 20
    rw [zpmm_1]
    omega
  · exact hS
theorem po_57 {b : Nat} {V : zV} {sm : zq_Sp} {J88 : zq_P} {Q : zq_Q} {z : zpoT} {ls : zq_L} {st : List Value} {h : zq_H} (hi : I_po57 b V Q z ls st h) : xW12_partsOn_57 (sp_sliceOf b V) sm (fun ls st h => ∃ b9 : zpoT, 20 - b9.2.2.2 < 20 - z.2.2.2 ∧ I_po57 b V Q b9 ls st h) J88 Q ls st h := by
  obtain ⟨h0, ⟨g, N, j, s, L, x⟩, ⟨pre, S⟩, t⟩ := z
  obtain ⟨s6, rfl, rfl, ⟨ht, hj, hlt⟩, hk9, hf, e43, hA, h84⟩ := hi
  have hk := hk9
  obtain ⟨⟨hg, hN, hl, hs, hS1⟩, hX, kk⟩ := hk
  have c1 : (nI (N + 1) ≤ nI t) = (t = N + 1) := zl_ge ht (by omega)
  have v6 : t < N + 1 → vp_in (nI t) 6 = True := fun q => eq_true (vp_in_nI (by omega) (by decide))
  simp only [xW12_partsOn_57, xW12_partsOn_64, xW12_partsOn_84, c1, nI_clamp (show t < 2 ^ 31 by omega), nI_1, not_true_eq_false, not_false_eq_true, forall_const, true_and, and_true, false_and, and_false, if_true, if_false, reduceIte, implies_true, and_self, ite_self, true_or, or_true, false_or, or_false, true_implies, false_implies, Classical.not_not, false_imp_iff, not_false_iff, zi_push, zi_iload, zi_lload, zi_aload, zi_istore, zi_astore, zi_lstore, zi_iinc, zi_i2, zi_i1, zi_idv, zi_l2, zi_ldv, zi_lsh, zi_i2l, zi_l2i, zi_lcmp, zi_dup, zi_dup2, zi_pop, zi_if1, zi_if2, zi_getI, zi_getL, zi_getR, zi_putI, zi_putZ, zi_putL, zi_aldI, zi_aldL, zi_astI, zi_astZ, zi_astL, zi_alen, zi_iret, zi_zret, zi_lret, zi_vret, zi_callV, zi_callS, zi_sw, zi_copyI, zi_copyL, zi_m2, zi_m1, zi_sval, zi_scod, zi_fmt, zi_balen, zi_bald, zi_bret, zi_callT, zq_nth, zq_put1, zq_put2, zq_clr, zq_nl, zq_tk, zq_ps, zq_sw, zq_l0, zq_a, zq_a1, List.length_cons, List.length_nil, List.nil_append, List.cons_append, List.append_nil, List.replicate, Nat.reduceAdd, Nat.reduceSub, Nat.reduceLeDiff, true_and, and_true, List.append_eq, List.cons.injEq, Value.int.injEq, Value.long.injEq, Value.ref.injEq, exists_and_left, exists_eq_left', and_assoc, zc_b, zc_0, zc_1, zc_10, zc_01, lg_cmp_ge, lg_cmp_le, lg_cmp_gt, lg_cmp_lt, lg_cmp_eq, zw_le, zw_lt, reduceIte, true_or, or_true, zw_g0, zw_l0, zw_g1, zw_l1, zw_g2, zw_l2, zw_g3, zw_l3, zw_g5, zw_l5, zw_g6, zw_l6, zw_g7, zw_l7, zw_g9, zw_l9, zw_g10, zw_l10, zw_g15, zw_l15, zw_g16, zw_l16, zw_g48, zw_l48, zw_g50, zw_l50, zw_g57, zw_l57, zw_g97, zw_l97, zw_g100, zw_l100, zw_g200, zw_l200, zw_g999, zw_l999, zw_g9999, zw_l9999]
  refine ⟨fun q => ?_, fun q => ?_⟩
  · subst q
    subst hj
    refine kk h ?_ (zAt_app (by rw [← zpE_app]; exact hA)) hf
    have e0 : zpD V g 0 s = zpw V g s (vn V) := if_pos (by omega)
    have ez : zpvv V g 0 pre s L S = (min L (zpw V g s (vn V)), pre ++ [vn V]) := by
      unfold zpvv
      rw [e0, if_pos hlt]
      rfl
    rw [ez]
    refine ⟨e43, Or.inr (fun i y ei => ?_)⟩
    have li := (List.getElem?_eq_some_iff.mp ei).1
    rw [zpE_len, List.length_append] at li
    have li2 : i < pre.length + 1 := li
    rw [h84 i (by omega)]
    exact hA i y ei
  · rw [v6 (by omega)]
    refine ⟨trivial, trivial, (h0, (g, N, j, s, L, x), (pre, S), t + 1), by dsimp only; omega, s6, rfl, rfl, ⟨by omega, hj, hlt⟩, hk9, zq_fm_I hf (by decide), by simpa [zq_sI] using e43, zAt_fm hA (zq_fm_I (fs := []) (ps := [84]) zq_fm_rf (by decide)) (by decide), fun i hi => ?_⟩
    by_cases q2 : i = t
    · simp [zq_sI, q2]
    · simpa [zq_sI, q2] using h84 i (by omega)
theorem po_8 {b : Nat} {V : zV} {sm : zq_Sp} {J57 J88 : zq_P} {Q : zq_Q} {g N j s L : Nat} {x : Int32} {pre : List Nat} {S : Nat × List Nat} {s6 s7 : Option Value} {h : zq_H} (hj : j = 0) (hx : zmnp x L) (hk9 : zpok b V g N j s L pre S Q h) (hS : zpS S h) (hA : zAt 83 (zpE pre) h)
    (hJ : S.1 < min L (zpw V g s (vn V)) → ∀ s6 : Int32, J57 [some (.ref 56), some (.int (nI g)), some (.int (nI s)), some (.int (nI pre.length)), some (.int (nI (N + 1))), some (.int x), some (.int s6), some (.int (nI 0))] [] (zq_setI (zq_setI h 83 pre.length (nI (vn V) - 1)) 56 43 (nI (min L (zpw V g s (vn V))) - 1))) : xW12_partsOn_8 (sp_sliceOf b V) sm J57 J88 Q [some (.ref 56), some (.int (nI g)), some (.int (nI s)), some (.int (nI pre.length)), some (.int (nI (N + 1))), some (.int x), s6, s7] [] h := by
  have hk := hk9
  obtain ⟨⟨hg, hN, hl, hs, hS1⟩, hX, kk⟩ := hk
  have hn := hX.1.1.1
  subst hj
  have lw := zpw_le V g s (vn V) hn
  have hx2 := hx.2 (zpw V g s (vn V)) (by omega)
  have hL := hx.1
  have c1 : (nI (min L (zpw V g s (vn V))) - 1 ≤ nI S.1 - 1) = (min L (zpw V g s (vn V)) ≤ S.1) := zi1_le (by omega) (by omega)
  have e0 : zpD V g 0 s = zpw V g s (vn V) := if_pos (by omega)
  simp only [xW12_partsOn_8, hX.1.1.2.1, zi_push, zi_iload, zi_lload, zi_aload, zi_istore, zi_astore, zi_lstore, zi_iinc, zi_i2, zi_i1, zi_idv, zi_l2, zi_ldv, zi_lsh, zi_i2l, zi_l2i, zi_lcmp, zi_dup, zi_dup2, zi_pop, zi_if1, zi_if2, zi_getI, zi_getL, zi_getR, zi_putI, zi_putZ, zi_putL, zi_aldI, zi_aldL, zi_astI, zi_astZ, zi_astL, zi_alen, zi_iret, zi_zret, zi_lret, zi_vret, zi_callV, zi_callS, zi_sw, zi_copyI, zi_copyL, zi_m2, zi_m1, zi_sval, zi_scod, zi_fmt, zi_balen, zi_bald, zi_bret, zi_callT, zq_nth, zq_put1, zq_put2, zq_clr, zq_nl, zq_tk, zq_ps, zq_sw, zq_l0, zq_a, zq_a1, List.length_cons, List.length_nil, List.nil_append, List.cons_append, List.append_nil, List.replicate, Nat.reduceAdd, Nat.reduceSub, Nat.reduceLeDiff, true_and, and_true, List.append_eq, List.cons.injEq, Value.int.injEq, Value.long.injEq, Value.ref.injEq, exists_and_left, exists_eq_left', and_assoc, zc_b, zc_0, zc_1, zc_10, zc_01, lg_cmp_ge, lg_cmp_le, lg_cmp_gt, lg_cmp_lt, lg_cmp_eq, zw_le, zw_lt, reduceIte, true_or, or_true, zw_g0, zw_l0, zw_g1, zw_l1, zw_g2, zw_l2, zw_g3, zw_l3, zw_g5, zw_l5, zw_g6, zw_l6, zw_g7, zw_l7, zw_g9, zw_l9, zw_g10, zw_l10, zw_g15, zw_l15, zw_g16, zw_l16, zw_g48, zw_l48, zw_g50, zw_l50, zw_g57, zw_l57, zw_g97, zw_l97, zw_g100, zw_l100, zw_g200, zw_l200, zw_g999, zw_l999, zw_g9999, zw_l9999]
  first
    | refine ⟨Nat.le_of_ble_eq_true rfl, g, s, vn V, rfl, hg, by omega, Nat.le_refl _, hX, ?_⟩
    | refine ⟨g, s, vn V, rfl, hg, by omega, Nat.le_refl _, hX, ?_⟩
  rw [zpw_I]
  simp only [hx2, hX.1.1.2.1, nI_clamp (show pre.length < 2 ^ 31 by omega), zq_sI, hS.1, c1, xW12_partsOn_48, xW12_partsOn_84, Nat.reduceEqDiff, not_true_eq_false, not_false_eq_true, forall_const, true_and, and_true, false_and, and_false, if_true, if_false, reduceIte, implies_true, and_self, ite_self, true_or, or_true, false_or, or_false, true_implies, false_implies, Classical.not_not, false_imp_iff, not_false_iff, zi_push, zi_iload, zi_lload, zi_aload, zi_istore, zi_astore, zi_lstore, zi_iinc, zi_i2, zi_i1, zi_idv, zi_l2, zi_ldv, zi_lsh, zi_i2l, zi_l2i, zi_lcmp, zi_dup, zi_dup2, zi_pop, zi_if1, zi_if2, zi_getI, zi_getL, zi_getR, zi_putI, zi_putZ, zi_putL, zi_aldI, zi_aldL, zi_astI, zi_astZ, zi_astL, zi_alen, zi_iret, zi_zret, zi_lret, zi_vret, zi_callV, zi_callS, zi_sw, zi_copyI, zi_copyL, zi_m2, zi_m1, zi_sval, zi_scod, zi_fmt, zi_balen, zi_bald, zi_bret, zi_callT, zq_nth, zq_put1, zq_put2, zq_clr, zq_nl, zq_tk, zq_ps, zq_sw, zq_l0, zq_a, zq_a1, List.length_cons, List.length_nil, List.nil_append, List.cons_append, List.append_nil, List.replicate, Nat.reduceAdd, Nat.reduceSub, Nat.reduceLeDiff, true_and, and_true, List.append_eq, List.cons.injEq, Value.int.injEq, Value.long.injEq, Value.ref.injEq, exists_and_left, exists_eq_left', and_assoc, zc_b, zc_0, zc_1, zc_10, zc_01, lg_cmp_ge, lg_cmp_le, lg_cmp_gt, lg_cmp_lt, lg_cmp_eq, zw_le, zw_lt, reduceIte, true_or, or_true, zw_g0, zw_l0, zw_g1, zw_l1, zw_g2, zw_l2, zw_g3, zw_l3, zw_g5, zw_l5, zw_g6, zw_l6, zw_g7, zw_l7, zw_g9, zw_l9, zw_g10, zw_l10, zw_g15, zw_l15, zw_g16, zw_l16, zw_g48, zw_l48, zw_g50, zw_l50, zw_g57, zw_l57, zw_g97, zw_l97, zw_g100, zw_l100, zw_g200, zw_l200, zw_g999, zw_l999, zw_g9999, zw_l9999]
  have g1 : zq_fm [43] [83, 84] h (zq_setI h 83 pre.length (nI (vn V) - 1)) := zq_fm_I zq_fm_rf (by decide)
  refine ⟨vp_in_nI (by omega) (by decide), fun q => ?_, fun q => hJ (by omega) _⟩
  refine kk _ ?_ (zAt_app (zAt_1 (x := nI (vn V) - 1) hA (zpE_len pre))) g1
  have ez : zpvv V g 0 pre s L S = S := by
    unfold zpvv
    rw [e0, if_neg (by omega)]
  rw [ez]
  exact zpS_fm hS (zq_fm_I (fs := []) (ps := [83]) zq_fm_rf (by decide)) (by decide)
theorem po_88 {b : Nat} {V : zV} {k : Nat} {J57 : zq_P} {Q : zq_Q} {z : zpoT} {ls : zq_L} {st : List Value} {h : zq_H} (hi : I_po88 b V (k + 1) Q z ls st h) : xW12_partsOn_88 (sp_sliceOf b V) (sp_po b V k) J57 (fun ls st h => ∃ b9 : zpoT, 1000 + (20 - b9.2.2.2) < 1000 + (20 - z.2.2.2) ∧ I_po88 b V (k + 1) Q b9 ls st h) Q ls st h := by
  obtain ⟨h0, ⟨g, N, j, s, L, x⟩, ⟨pre, S⟩, i⟩ := z
  obtain ⟨s7, rfl, rfl, ⟨hj, hii, hx⟩, hk9, hf, hS, hA⟩ := hi
  have hk := hk9
  obtain ⟨⟨hg, hN, hl, hs, hS1⟩, hX, kk⟩ := hk
  have hX1 := MD_fm hX hf (by decide)
  have hn := hX.1.1.1
  have c0 : nI (vn V) - (nI (N + 1) - 1 - nI pre.length) = nI (vn V - (j + 1)) := by
    rw [nI_pred, nI_sub (by omega), nI_sub (by omega)]
    congr 1
    omega
  have c1 : (nI (vn V - (j + 1)) ≤ nI (s + i)) = (i = vn V - (j + 1) - s) := by
    rw [nI_leP (by omega) (by omega)]
    exact propext ⟨fun z => by omega, fun z => by omega⟩
  simp only [xW12_partsOn_88, xW12_partsOn_104, xW12_partsOn_145, hX1.1.1.2.1, c0, c1, zi_callW, zi_m2W, zi_push, zi_iload, zi_lload, zi_aload, zi_istore, zi_astore, zi_lstore, zi_iinc, zi_i2, zi_i1, zi_idv, zi_l2, zi_ldv, zi_lsh, zi_i2l, zi_l2i, zi_lcmp, zi_dup, zi_dup2, zi_pop, zi_if1, zi_if2, zi_getI, zi_getL, zi_getR, zi_putI, zi_putZ, zi_putL, zi_aldI, zi_aldL, zi_astI, zi_astZ, zi_astL, zi_alen, zi_iret, zi_zret, zi_lret, zi_vret, zi_callV, zi_callS, zi_sw, zi_copyI, zi_copyL, zi_m2, zi_m1, zi_sval, zi_scod, zi_fmt, zi_balen, zi_bald, zi_bret, zi_callT, zq_nth, zq_put1, zq_put2, zq_clr, zq_nl, zq_tk, zq_ps, zq_sw, zq_l0, zq_a, zq_a1, List.length_cons, List.length_nil, List.nil_append, List.cons_append, List.append_nil, List.replicate, Nat.reduceAdd, Nat.reduceSub, Nat.reduceLeDiff, true_and, and_true, List.append_eq, List.cons.injEq, Value.int.injEq, Value.long.injEq, Value.ref.injEq, exists_and_left, exists_eq_left', and_assoc, zc_b, zc_0, zc_1, zc_10, zc_01, lg_cmp_ge, lg_cmp_le, lg_cmp_gt, lg_cmp_lt, lg_cmp_eq, zw_le, zw_lt, reduceIte, true_or, or_true, zw_g0, zw_l0, zw_g1, zw_l1, zw_g2, zw_l2, zw_g3, zw_l3, zw_g5, zw_l5, zw_g6, zw_l6, zw_g7, zw_l7, zw_g9, zw_l9, zw_g10, zw_l10, zw_g15, zw_l15, zw_g16, zw_l16, zw_g48, zw_l48, zw_g50, zw_l50, zw_g57, zw_l57, zw_g97, zw_l97, zw_g100, zw_l100, zw_g200, zw_l200, zw_g999, zw_l999, zw_g9999, zw_l9999]
  refine ⟨fun q => ?_, fun q => ?_⟩
  · subst q
    rw [zpq_end] at hS
    exact kk h hS hA hf
  · have lw := zpw_le V g s (s + 1 + i) (by omega)
    have hx2 := hx.2 (zpw V g s (s + 1 + i)) (by omega)
    have hL := hx.1
    have v6 : vp_in (nI pre.length) 6 := vp_in_nI (by omega) (by decide)
    refine ⟨v6, ?_⟩
    have g0 : zq_fm [43] [83, 84] h (zq_setI h 83 pre.length (nI (s + i))) := zq_fm_I zq_fm_rf (by decide)
    have g1 : zq_fm [] [83] h (zq_setI h 83 pre.length (nI (s + i))) := zq_fm_I zq_fm_rf (by decide)
    have hX2 := MD_fm hX1 g0 (by decide)
    have eS : nI (s + i) = nI (s + 1 + i) - 1 := by rw [show s + 1 + i = s + i + 1 by omega, nI_pred]
    have elen : nI pre.length + 1 = nI (pre ++ [s + 1 + i]).length := by
      rw [List.length_append]
      exact nI_1 _
    simp only [nI_clamp (show pre.length < 2 ^ 31 by omega)]
    refine ⟨Nat.le_of_ble_eq_true rfl, g, s, s + 1 + i, by rw [← eS], hg, by omega, by omega, hX2, ?_⟩
    rw [zpw_I]
    dsimp only
    rw [hx2]
    refine ⟨Nat.le_of_ble_eq_true rfl, ?_⟩
    simp only [nI_1, zi_push, zi_iload, zi_lload, zi_aload, zi_istore, zi_astore, zi_lstore, zi_iinc, zi_i2, zi_i1, zi_idv, zi_l2, zi_ldv, zi_lsh, zi_i2l, zi_l2i, zi_lcmp, zi_dup, zi_dup2, zi_pop, zi_if1, zi_if2, zi_getI, zi_getL, zi_getR, zi_putI, zi_putZ, zi_putL, zi_aldI, zi_aldL, zi_astI, zi_astZ, zi_astL, zi_alen, zi_iret, zi_zret, zi_lret, zi_vret, zi_callV, zi_callS, zi_sw, zi_copyI, zi_copyL, zi_m2, zi_m1, zi_sval, zi_scod, zi_fmt, zi_balen, zi_bald, zi_bret, zi_callT, zq_nth, zq_put1, zq_put2, zq_clr, zq_nl, zq_tk, zq_ps, zq_sw, zq_l0, zq_a, zq_a1, List.length_cons, List.length_nil, List.nil_append, List.cons_append, List.append_nil, List.replicate, Nat.reduceAdd, Nat.reduceSub, Nat.reduceLeDiff, true_and, and_true, List.append_eq, List.cons.injEq, Value.int.injEq, Value.long.injEq, Value.ref.injEq, exists_and_left, exists_eq_left', and_assoc, zc_b, zc_0, zc_1, zc_10, zc_01, lg_cmp_ge, lg_cmp_le, lg_cmp_gt, lg_cmp_lt, lg_cmp_eq, zw_le, zw_lt, reduceIte, true_or, or_true, zw_g0, zw_l0, zw_g1, zw_l1, zw_g2, zw_l2, zw_g3, zw_l3, zw_g5, zw_l5, zw_g6, zw_l6, zw_g7, zw_l7, zw_g9, zw_l9, zw_g10, zw_l10, zw_g15, zw_l15, zw_g16, zw_l16, zw_g48, zw_l48, zw_g50, zw_l50, zw_g57, zw_l57, zw_g97, zw_l97, zw_g100, zw_l100, zw_g200, zw_l200, zw_g999, zw_l999, zw_g9999, zw_l9999]
    have fin : ∀ h', zpS (zpq V g j pre s L S (i + 1)) h' → zAt 83 (zpE pre) h' → zq_fm [43] [83, 84] h0 h' → ∃ b9 : zpoT, 1000 + (20 - b9.2.2.2) < 1000 + (20 - i) ∧ I_po88 b V (k + 1) Q b9 [some (.ref 56), some (.int (nI g)), some (.int (nI s)), some (.int (nI pre.length)), some (.int (nI (N + 1))), some (.int x), some (.int (nI (s + i + 1))), s7] [] h' := fun h' a1 a2 a3 => ⟨(h0, (g, N, j, s, L, x), (pre, S), i + 1), by dsimp only; omega, s7, rfl, rfl, ⟨hj, by omega, hx⟩, hk9, a3, a1, a2⟩
    have l1 : (pre ++ [s + 1 + i]).length = pre.length + 1 := by rw [List.length_append]; rfl
    have hA1 : zAt 83 (zpE (pre ++ [s + 1 + i])) (zq_setI h 83 pre.length (nI (s + i))) := by
      rw [zpE_app, ← eS]
      exact zAt_1 hA (zpE_len pre)
    refine ⟨g, N, j, s + 1 + i, nI (min L (zpw V g s (s + 1 + i))) - 1, min L (zpw V g s (s + 1 + i)), pre ++ [s + 1 + i], zpq V g j pre s L S i, by rw [l1, show s + i + 1 = s + 1 + i by omega], ⟨by omega, zmnp_1 (by omega)⟩, ⟨⟨hg, hN, by rw [l1]; omega, by omega, zpq_le hL hS1⟩, hX2, fun h' a1 a2 a3 => ?_⟩, zpS_fm hS g1 (by decide), hA1⟩
    rw [← zpq_s] at a1
    simp only [nI_1, zi_push, zi_iload, zi_lload, zi_aload, zi_istore, zi_astore, zi_lstore, zi_iinc, zi_i2, zi_i1, zi_idv, zi_l2, zi_ldv, zi_lsh, zi_i2l, zi_l2i, zi_lcmp, zi_dup, zi_dup2, zi_pop, zi_if1, zi_if2, zi_getI, zi_getL, zi_getR, zi_putI, zi_putZ, zi_putL, zi_aldI, zi_aldL, zi_astI, zi_astZ, zi_astL, zi_alen, zi_iret, zi_zret, zi_lret, zi_vret, zi_callV, zi_callS, zi_sw, zi_copyI, zi_copyL, zi_m2, zi_m1, zi_sval, zi_scod, zi_fmt, zi_balen, zi_bald, zi_bret, zi_callT, zq_nth, zq_put1, zq_put2, zq_clr, zq_nl, zq_tk, zq_ps, zq_sw, zq_l0, zq_a, zq_a1, List.length_cons, List.length_nil, List.nil_append, List.cons_append, List.append_nil, List.replicate, Nat.reduceAdd, Nat.reduceSub, Nat.reduceLeDiff, true_and, and_true, List.append_eq, List.cons.injEq, Value.int.injEq, Value.long.injEq, Value.ref.injEq, exists_and_left, exists_eq_left', and_assoc, zc_b, zc_0, zc_1, zc_10, zc_01, lg_cmp_ge, lg_cmp_le, lg_cmp_gt, lg_cmp_lt, lg_cmp_eq, zw_le, zw_lt, reduceIte, true_or, or_true, zw_g0, zw_l0, zw_g1, zw_l1, zw_g2, zw_l2, zw_g3, zw_l3, zw_g5, zw_l5, zw_g6, zw_l6, zw_g7, zw_l7, zw_g9, zw_l9, zw_g10, zw_l10, zw_g15, zw_l15, zw_g16, zw_l16, zw_g48, zw_l48, zw_g50, zw_l50, zw_g57, zw_l57, zw_g97, zw_l97, zw_g100, zw_l100, zw_g200, zw_l200, zw_g999, zw_l999, zw_g9999, zw_l9999]
    exact fin h' a1 (zAt_app (by rw [← zpE_app]; exact a2)) (zq_fm_t (zq_fm_t hf g0 (by decide)) a3 (by decide))
theorem ok_po (b : Nat) (V : zV) : ∀ k, zq_M yX12_partsOn cX12_partsOn 8 none 0 (k + 1) (sp_po b V k)
  | 0 => by
    refine mW12_partsOn (ok_sliceOf b V) (by decide) (ok_none (d := 0)) (by decide) (by decide) (fun z => 20 - z.2.2.2) (I_po57 b V) (fun z => 1000 + (20 - z.2.2.2)) (I_po88 b V 0) (fun args h Q hs => ?_) (fun Q z ls st h hi => po_57 hi) (fun Q z ls st h hi => ?_)
    · obtain ⟨g, N, j, s, x, L, pre, S, rfl, ⟨hj, hx⟩, hk, hS, hA⟩ := hs
      have hl := hk.1.2.2.1
      have hN := hk.1.2.1
      have c1 : (nI pre.length = nI (N + 1) - 1) = (j = 0) := by
        rw [nI_pred, nI_eqP (by omega) (by omega)]
        exact propext ⟨fun z => by omega, fun z => by omega⟩
      refine ⟨Nat.le_of_ble_eq_true rfl, ?_⟩
      simp only [xW12_partsOn_0, c1, zi_push, zi_iload, zi_lload, zi_aload, zi_istore, zi_astore, zi_lstore, zi_iinc, zi_i2, zi_i1, zi_idv, zi_l2, zi_ldv, zi_lsh, zi_i2l, zi_l2i, zi_lcmp, zi_dup, zi_dup2, zi_pop, zi_if1, zi_if2, zi_getI, zi_getL, zi_getR, zi_putI, zi_putZ, zi_putL, zi_aldI, zi_aldL, zi_astI, zi_astZ, zi_astL, zi_alen, zi_iret, zi_zret, zi_lret, zi_vret, zi_callV, zi_callS, zi_sw, zi_copyI, zi_copyL, zi_m2, zi_m1, zi_sval, zi_scod, zi_fmt, zi_balen, zi_bald, zi_bret, zi_callT, zq_nth, zq_put1, zq_put2, zq_clr, zq_nl, zq_tk, zq_ps, zq_sw, zq_l0, zq_a, zq_a1, List.length_cons, List.length_nil, List.nil_append, List.cons_append, List.append_nil, List.replicate, Nat.reduceAdd, Nat.reduceSub, Nat.reduceLeDiff, true_and, and_true, List.append_eq, List.cons.injEq, Value.int.injEq, Value.long.injEq, Value.ref.injEq, exists_and_left, exists_eq_left', and_assoc, zc_b, zc_0, zc_1, zc_10, zc_01, lg_cmp_ge, lg_cmp_le, lg_cmp_gt, lg_cmp_lt, lg_cmp_eq, zw_le, zw_lt, reduceIte, true_or, or_true, zw_g0, zw_l0, zw_g1, zw_l1, zw_g2, zw_l2, zw_g3, zw_l3, zw_g5, zw_l5, zw_g6, zw_l6, zw_g7, zw_l7, zw_g9, zw_l9, zw_g10, zw_l10, zw_g15, zw_l15, zw_g16, zw_l16, zw_g48, zw_l48, zw_g50, zw_l50, zw_g57, zw_l57, zw_g97, zw_l97, zw_g100, zw_l100, zw_g200, zw_l200, zw_g999, zw_l999, zw_g9999, zw_l9999]
      exact ⟨fun q => po_8 q hx hk hS hA (fun q2 s6 => ⟨(h, (g, N, j, s, L, x), (pre, S), 0), s6, rfl, rfl, ⟨Nat.zero_le _, q, q2⟩, hk, zq_fm_F (zq_fm_I zq_fm_rf (by decide)) (by decide), by rw [zq_sI, if_pos ⟨rfl, rfl⟩], by rw [zpE_app]; exact zAt_fm (zAt_1 hA (zpE_len pre)) (zq_fm_F (fs := [43]) (ps := []) zq_fm_rf (by decide)) (by decide), fun i hi => absurd hi (Nat.not_lt_zero _)⟩), fun q => absurd (show j = 0 by omega) q⟩
    · obtain ⟨h0, ⟨g, N, j, s, L, x⟩, ⟨pre, S⟩, i⟩ := z
      obtain ⟨s7, -, -, ⟨hj, -⟩, -⟩ := hi
      exact absurd hj (Nat.not_lt_zero _)
  | k + 1 => by
    refine mW12_partsOn (ok_sliceOf b V) (by omega) (ok_po b V k) (by omega) (by omega) (fun z => 20 - z.2.2.2) (I_po57 b V) (fun z => 1000 + (20 - z.2.2.2)) (I_po88 b V (k + 1)) (fun args h Q hs => ?_) (fun Q z ls st h hi => po_57 hi) (fun Q z ls st h hi => po_88 hi)
    obtain ⟨g, N, j, s, x, L, pre, S, rfl, ⟨hj, hx⟩, hk, hS, hA⟩ := hs
    have hl := hk.1.2.2.1
    have hN := hk.1.2.1
    have hs1 := hk.1.2.2.2.1
    have c1 : (nI pre.length = nI (N + 1) - 1) = (j = 0) := by
      rw [nI_pred, nI_eqP (by omega) (by omega)]
      exact propext ⟨fun z => by omega, fun z => by omega⟩
    refine ⟨Nat.le_of_ble_eq_true rfl, ?_⟩
    simp only [xW12_partsOn_0, xW12_partsOn_85, c1, zi_push, zi_iload, zi_lload, zi_aload, zi_istore, zi_astore, zi_lstore, zi_iinc, zi_i2, zi_i1, zi_idv, zi_l2, zi_ldv, zi_lsh, zi_i2l, zi_l2i, zi_lcmp, zi_dup, zi_dup2, zi_pop, zi_if1, zi_if2, zi_getI, zi_getL, zi_getR, zi_putI, zi_putZ, zi_putL, zi_aldI, zi_aldL, zi_astI, zi_astZ, zi_astL, zi_alen, zi_iret, zi_zret, zi_lret, zi_vret, zi_callV, zi_callS, zi_sw, zi_copyI, zi_copyL, zi_m2, zi_m1, zi_sval, zi_scod, zi_fmt, zi_balen, zi_bald, zi_bret, zi_callT, zq_nth, zq_put1, zq_put2, zq_clr, zq_nl, zq_tk, zq_ps, zq_sw, zq_l0, zq_a, zq_a1, List.length_cons, List.length_nil, List.nil_append, List.cons_append, List.append_nil, List.replicate, Nat.reduceAdd, Nat.reduceSub, Nat.reduceLeDiff, true_and, and_true, List.append_eq, List.cons.injEq, Value.int.injEq, Value.long.injEq, Value.ref.injEq, exists_and_left, exists_eq_left', and_assoc, zc_b, zc_0, zc_1, zc_10, zc_01, lg_cmp_ge, lg_cmp_le, lg_cmp_gt, lg_cmp_lt, lg_cmp_eq, zw_le, zw_lt, reduceIte, true_or, or_true, zw_g0, zw_l0, zw_g1, zw_l1, zw_g2, zw_l2, zw_g3, zw_l3, zw_g5, zw_l5, zw_g6, zw_l6, zw_g7, zw_l7, zw_g9, zw_l9, zw_g10, zw_l10, zw_g15, zw_l15, zw_g16, zw_l16, zw_g48, zw_l48, zw_g50, zw_l50, zw_g57, zw_l57, zw_g97, zw_l97, zw_g100, zw_l100, zw_g200, zw_l200, zw_g999, zw_l999, zw_g9999, zw_l9999]
    refine ⟨fun q => po_8 q hx hk hS hA (fun q2 s6 => ⟨(h, (g, N, j, s, L, x), (pre, S), 0), s6, rfl, rfl, ⟨Nat.zero_le _, q, q2⟩, hk, zq_fm_F (zq_fm_I zq_fm_rf (by decide)) (by decide), by rw [zq_sI, if_pos ⟨rfl, rfl⟩], by rw [zpE_app]; exact zAt_fm (zAt_1 hA (zpE_len pre)) (zq_fm_F (fs := [43]) (ps := []) zq_fm_rf (by decide)) (by decide), fun i hi => absurd hi (Nat.not_lt_zero _)⟩), fun q => ?_⟩
    obtain ⟨i, rfl⟩ : ∃ i, j = i + 1 := ⟨j - 1, by omega⟩
    refine ⟨(h, (g, N, i, s, L, x), (pre, S), 0), none, rfl, rfl, ⟨by omega, Nat.zero_le _, hx⟩, hk, zq_fm_rf, ?_, hA⟩
    have e0 : zpq V g i pre s L S 0 = S := if_neg (Nat.not_lt_zero _)
    rw [e0]
    exact hS
