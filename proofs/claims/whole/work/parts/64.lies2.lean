/-! ===== lies: the reference ===== -/
theorem ZV_vl {V : zV} (hV : ZV V) (j t : Nat) {v : Nat} (hv : v ≤ 9) : ZV (vlV V j t v) := by
  refine ⟨hV.1, ⟨fun i hi => ?_, hV.2.1.2⟩, hV.2.2⟩
  show ∃ a, zupd (vta V) (3 * j + t) (nI v) i = nI a ∧ a ≤ 9
  unfold zupd
  split
  · exact ⟨v, rfl, hv⟩
  · exact hV.2.1.1 i hi
theorem MC_vl {b : Nat} {V : zV} {h : zq_H} (hX : MC b V h) {j t : Nat} (hj : j < vg V) (ht : t < 3) (v : Nat) : MC b (vlV V j t v) (zq_setI h 61 (3 * j + t) (nI v)) := by
  refine MC_G hX (zq_fm_I (fs := []) (ps := [61]) zq_fm_rf (by decide)) (by decide) ⟨hX.2.1.1, hX.2.1.2.1, fun i hi => ?_, fun i hi => ?_⟩
  · rw [zq_sI]
    unfold zupd
    by_cases q : i = 3 * j + t
    · rw [if_pos ⟨rfl, q⟩, if_pos q]
    · rw [if_neg (fun z => q z.2), if_neg q]
      exact hX.2.1.2.2.1 i hi
  · rw [zq_sI, if_neg (fun z => absurd z.1 (by decide))]
    exact hX.2.1.2.2.2 i hi
/-- one taste set, things done elsewhere, and the taste set back -/
theorem zl_back {hb h : zq_H} {i : Nat} {x y : Int32} (f : zq_fm [] [72, 73, 89] (zq_setI hb 61 i x) h) (e : hb.1 61 i = y) : zq_fm [] [72, 73, 89] hb (zq_setI h 61 i y) := by
  refine ⟨fun p h56 hp => ?_, fun k hk => ?_⟩
  · obtain ⟨a, b⟩ := f.1 p h56 hp
    refine ⟨?_, b⟩
    funext k
    rw [zq_sI]
    by_cases q : p = 61 ∧ k = i
    · obtain ⟨rfl, rfl⟩ := q
      rw [if_pos ⟨rfl, rfl⟩, e]
    · rw [if_neg q, a, zq_sI, if_neg q]
  · obtain ⟨a, b⟩ := f.2 k hk
    refine ⟨?_, b⟩
    rw [zq_sI, if_neg (fun z => absurd z.1 (by decide)), a, zq_sI, if_neg (fun z => absurd z.1 (by decide))]
theorem z3l (j : Nat) : 3 * nI j = nI (3 * j) := (pk_mul 3 j)
theorem z16l (j : Nat) : 16 * nI j = nI (16 * j) := (pk_mul 16 j)
theorem zgt9 {v : Nat} (hv : v ≤ 10) : (9 < nI v) = (v = 10) := by
  rw [show (9 : Int32) = nI 9 from rfl, nI_ltP (by decide) (by omega)]
  exact propext ⟨fun q => by omega, fun q => by omega⟩
def MQj (V : zV) (j : Nat) (h : zq_H) : Prop := ∀ i c, i < vg V → c < vn V → i ≠ j → h.1 89 (16 * i + c) = nI (vwN V i c)
def zlyk (b : Nat) (V : zV) (Q : zq_Q) (h0 h : zq_H) (j : Nat) : Prop := (j < vg V ∧ vs V ≤ 16) ∧ ZV V ∧ MD b V h ∧ MU (vg V) (vs V) (zlv (vsg V)) h ∧ MQj V j h ∧ zq_fm zfbm zfbp h0 h ∧ MT 0 (vsg V) h ∧ ∀ h', MR (zlyW (zlyS V (zlv (vsg V)) (vs V) j 30)) h' → MT 0 (vsg V) h' → zq_fm zfbm zfbp h0 h' → Q (some (.int (nI (zlyS V (zlv (vsg V)) (vs V) j 30).1))) h'
theorem zlyk_fm {b : Nat} {V : zV} {Q : zq_Q} {h0 h h' : zq_H} {j : Nat} (k : zlyk b V Q h0 h j) {fs ps : List Nat} (f : zq_fm fs ps h h') (d : ((∀ i ∈ fs, i ∈ [50]) ∧ ∀ p ∈ ps, p ∈ [72, 73, 89, 90]) ) (e : MQj V j h') : zlyk b V Q h0 h' j := by
  obtain ⟨k1, k2, k3, k4, k5, k6, k7, k8⟩ := k
  have f2 : zq_fm [50] [72, 73, 89, 90] h h' := zq_fm_w f ⟨d.2, d.1⟩
  exact ⟨k1, k2, MD_fm k3 f2 (by decide), MU_fm k4 f2 (by decide), e, zq_fm_t k6 f2 (by decide), MT_fm k7 f2 (by decide), k8⟩
def zl56 (s : Nat × Nat) (s5 s6 : Int32) : Prop := s.1 = 0 ∨ (s5 = nI (s.2 / 10) ∧ s6 = nI (s.2 % 10))
def I_ml65 (b : Nat) (V : zV) (Q : zq_Q) (z : zq_H × zq_H × Nat × Nat × Nat × Nat) : zq_P := fun ls st h => match z with
  | (h0, _, j, t, _, _) => ∃ (s2 s5 s6 : Int32) (s8 s9 s10 : Option Value), ls = [some (.ref 56), some (.int (nI j)), some (.int s2), some (.int (nI (zlt V (zlv (vsg V)) (vs V) j))), some (.int (nI (zlyS V (zlv (vsg V)) (vs V) j (10 * t)).1)), some (.int s5), some (.int s6), some (.int (nI t)), s8, s9, s10] ∧ st = [] ∧ t ≤ 3 ∧ zl56 (zlyS V (zlv (vsg V)) (vs V) j (10 * t)) s5 s6 ∧ zlyk b V Q h0 h j
def I_ml74 (b : Nat) (V : zV) (Q : zq_Q) (z : zq_H × zq_H × Nat × Nat × Nat × Nat) : zq_P := fun ls st h => match z with
  | (h0, _, j, t, v, _) => ∃ (s2 s5 s6 : Int32) (s9 s10 : Option Value), ls = [some (.ref 56), some (.int (nI j)), some (.int s2), some (.int (nI (zlt V (zlv (vsg V)) (vs V) j))), some (.int (nI (zlyS V (zlv (vsg V)) (vs V) j (10 * t + v)).1)), some (.int s5), some (.int s6), some (.int (nI t)), some (.int (nI v)), s9, s10] ∧ st = [] ∧ (t < 3 ∧ v ≤ 10) ∧ zl56 (zlyS V (zlv (vsg V)) (vs V) j (10 * t + v)) s5 s6 ∧ zlyk b V Q h0 h j
def I_ml110 (b : Nat) (V : zV) (Q : zq_Q) (z : zq_H × zq_H × Nat × Nat × Nat × Nat) : zq_P := fun ls st h => match z with
  | (h0, hb, j, t, v, c) => ∃ (s2 s5 s6 : Int32), ls = [some (.ref 56), some (.int (nI j)), some (.int s2), some (.int (nI (zlt V (zlv (vsg V)) (vs V) j))), some (.int (nI (zlyS V (zlv (vsg V)) (vs V) j (10 * t + v)).1)), some (.int s5), some (.int s6), some (.int (nI t)), some (.int (nI v)), some (.int (vta V (3 * j + t))), some (.int (nI c))] ∧ st = [] ∧ (t < 3 ∧ v ≤ 9 ∧ c ≤ vn V) ∧ zl56 (zlyS V (zlv (vsg V)) (vs V) j (10 * t + v)) s5 s6 ∧ zlyk b V Q h0 hb j ∧ zq_fm [] [72, 73, 89] (zq_setI hb 61 (3 * j + t) (nI v)) h ∧ MQj V j h ∧ ∀ k, k < c → h.1 89 (16 * j + k) = nI (vwN (vlV V j t v) j k)
def sp_mLies (b : Nat) (V : zV) : zq_Sp := fun args h Q => ∃ a, args = [.ref 56, .int a] ∧ ZV V ∧ MC b V h ∧ MT (vs V) (vsg V) h ∧ zLi V a (fun row r => ∀ h', MR row h' → MT 0 (vsg V) h' → zq_fm zfbm zfbp h h' → Q (some (.int r)) h') (fun r => ∀ h', MT 0 (vsg V) h' → zq_fm [0, 13, 14, 15, 16, 49] [88] h h' → Q (some (.int r)) h')
theorem ok_mLies (b : Nat) (V : zV) : zq_M yX12_lies cX12_lies 11 (some .int) 1 6 (sp_mLies b V) := by
  refine mX12_lies ok_mBegins (by decide) (ok_mIsGuestV b V) (by decide) ok_readsTurns (by decide) (ok_laysV b V) (by decide) ok_picks (by decide) (ok_goes b V) (by decide) ok_mWorthOfL (by decide) ok_entersL (by decide) (fun z => (3 - z.2.2.2.1) * 1000) (I_ml65 b V) (fun z => (3 - z.2.2.2.1) * 1000 - 1 - z.2.2.2.2.1 * 50) (I_ml74 b V) (fun z => (3 - z.2.2.2.1) * 1000 - 1 - z.2.2.2.2.1 * 50 - 1 - z.2.2.2.2.2) (I_ml110 b V) (fun args h Q hs => ?_) (fun Q z ls st h hi => ?_) (fun Q z ls st h hi => ?_) (fun Q z ls st h hi => ?_)
  · obtain ⟨a, rfl, hV, hX, hT, k1, k2⟩ := hs
    have hg := hX.2.1.1
    have hn := hT.2.1
    refine ⟨Nat.le_of_ble_eq_true rfl, ?_⟩
    simp only [xX12_lies_0, zi_push, zi_iload, zi_lload, zi_aload, zi_istore, zi_astore, zi_lstore, zi_iinc, zi_i2, zi_i1, zi_idv, zi_l2, zi_ldv, zi_lsh, zi_i2l, zi_l2i, zi_lcmp, zi_dup, zi_dup2, zi_pop, zi_if1, zi_if2, zi_getI, zi_getL, zi_getR, zi_putI, zi_putZ, zi_putL, zi_aldI, zi_aldL, zi_astI, zi_astZ, zi_astL, zi_alen, zi_iret, zi_zret, zi_lret, zi_vret, zi_callV, zi_callS, zi_sw, zi_copyI, zi_copyL, zi_m2, zi_m1, zi_sval, zi_scod, zi_fmt, zi_balen, zi_bald, zi_bret, zi_callT, zq_nth, zq_put1, zq_put2, zq_clr, zq_nl, zq_tk, zq_ps, zq_sw, zq_l0, zq_a, zq_a1, List.length_cons, List.length_nil, List.nil_append, List.cons_append, List.append_nil, List.replicate, Nat.reduceAdd, Nat.reduceSub, Nat.reduceLeDiff, true_and, and_true, List.append_eq, List.cons.injEq, Value.int.injEq, Value.long.injEq, Value.ref.injEq, exists_and_left, exists_eq_left', and_assoc, zc_b, zc_0, zc_1, zc_10, zc_01, lg_cmp_ge, lg_cmp_le, lg_cmp_gt, lg_cmp_lt, lg_cmp_eq, zw_le, zw_lt, reduceIte, true_or, or_true, zw_g0, zw_l0, zw_g1, zw_l1, zw_g2, zw_l2, zw_g3, zw_l3, zw_g5, zw_l5, zw_g6, zw_l6, zw_g7, zw_l7, zw_g9, zw_l9, zw_g10, zw_l10, zw_g15, zw_l15, zw_g16, zw_l16, zw_g48, zw_l48, zw_g50, zw_l50, zw_g57, zw_l57, zw_g97, zw_l97, zw_g100, zw_l100, zw_g200, zw_l200, zw_g999, zw_l999, zw_g9999, zw_l9999]
    have f0 : zq_fm [0] [] h (zq_setI h 56 0 0) := zq_fm_F zq_fm_rf (by decide)
    refine ⟨vs V, vsg V, 80, rfl, by decide, MT_fm hT f0 (by decide), fun h1 d1 e13 e16 f1 => ?_⟩
    rw [Nat.min_eq_left hn] at d1
    have f1w : zq_fm [0, 13, 14, 15, 16] [] h h1 := zq_fm_t (zq_fm_w f0 (by decide)) f1 (by decide)
    have x1 := MC_fm hX f1w (by decide)
    simp only [zi_push, zi_iload, zi_lload, zi_aload, zi_istore, zi_astore, zi_lstore, zi_iinc, zi_i2, zi_i1, zi_idv, zi_l2, zi_ldv, zi_lsh, zi_i2l, zi_l2i, zi_lcmp, zi_dup, zi_dup2, zi_pop, zi_if1, zi_if2, zi_getI, zi_getL, zi_getR, zi_putI, zi_putZ, zi_putL, zi_aldI, zi_aldL, zi_astI, zi_astZ, zi_astL, zi_alen, zi_iret, zi_zret, zi_lret, zi_vret, zi_callV, zi_callS, zi_sw, zi_copyI, zi_copyL, zi_m2, zi_m1, zi_sval, zi_scod, zi_fmt, zi_balen, zi_bald, zi_bret, zi_callT, zq_nth, zq_put1, zq_put2, zq_clr, zq_nl, zq_tk, zq_ps, zq_sw, zq_l0, zq_a, zq_a1, List.length_cons, List.length_nil, List.nil_append, List.cons_append, List.append_nil, List.replicate, Nat.reduceAdd, Nat.reduceSub, Nat.reduceLeDiff, true_and, and_true, List.append_eq, List.cons.injEq, Value.int.injEq, Value.long.injEq, Value.ref.injEq, exists_and_left, exists_eq_left', and_assoc, zc_b, zc_0, zc_1, zc_10, zc_01, lg_cmp_ge, lg_cmp_le, lg_cmp_gt, lg_cmp_lt, lg_cmp_eq, zw_le, zw_lt, reduceIte, true_or, or_true, zw_g0, zw_l0, zw_g1, zw_l1, zw_g2, zw_l2, zw_g3, zw_l3, zw_g5, zw_l5, zw_g6, zw_l6, zw_g7, zw_l7, zw_g9, zw_l9, zw_g10, zw_l10, zw_g15, zw_l15, zw_g16, zw_l16, zw_g48, zw_l48, zw_g50, zw_l50, zw_g57, zw_l57, zw_g97, zw_l97, zw_g100, zw_l100, zw_g200, zw_l200, zw_g999, zw_l999, zw_g9999, zw_l9999]
    refine ⟨a, rfl, x1, ?_⟩
    simp only [xX12_lies_20, xX12_lies_23, zi_push, zi_iload, zi_lload, zi_aload, zi_istore, zi_astore, zi_lstore, zi_iinc, zi_i2, zi_i1, zi_idv, zi_l2, zi_ldv, zi_lsh, zi_i2l, zi_l2i, zi_lcmp, zi_dup, zi_dup2, zi_pop, zi_if1, zi_if2, zi_getI, zi_getL, zi_getR, zi_putI, zi_putZ, zi_putL, zi_aldI, zi_aldL, zi_astI, zi_astZ, zi_astL, zi_alen, zi_iret, zi_zret, zi_lret, zi_vret, zi_callV, zi_callS, zi_sw, zi_copyI, zi_copyL, zi_m2, zi_m1, zi_sval, zi_scod, zi_fmt, zi_balen, zi_bald, zi_bret, zi_callT, zq_nth, zq_put1, zq_put2, zq_clr, zq_nl, zq_tk, zq_ps, zq_sw, zq_l0, zq_a, zq_a1, List.length_cons, List.length_nil, List.nil_append, List.cons_append, List.append_nil, List.replicate, Nat.reduceAdd, Nat.reduceSub, Nat.reduceLeDiff, true_and, and_true, List.append_eq, List.cons.injEq, Value.int.injEq, Value.long.injEq, Value.ref.injEq, exists_and_left, exists_eq_left', and_assoc, zc_b, zc_0, zc_1, zc_10, zc_01, lg_cmp_ge, lg_cmp_le, lg_cmp_gt, lg_cmp_lt, lg_cmp_eq, zw_le, zw_lt, reduceIte, true_or, or_true, zw_g0, zw_l0, zw_g1, zw_l1, zw_g2, zw_l2, zw_g3, zw_l3, zw_g5, zw_l5, zw_g6, zw_l6, zw_g7, zw_l7, zw_g9, zw_l9, zw_g10, zw_l10, zw_g15, zw_l15, zw_g16, zw_l16, zw_g48, zw_l48, zw_g50, zw_l50, zw_g57, zw_l57, zw_g97, zw_l97, zw_g100, zw_l100, zw_g200, zw_l200, zw_g999, zw_l999, zw_g9999, zw_l9999]
    refine ⟨fun q => k1 q h1 ⟨e13, Nat.zero_le _, d1.1⟩ (zq_fm_w f1w (by decide)), fun q => ?_⟩
    have q := Classical.not_not.mp q
    obtain ⟨j, hj, rfl⟩ := zg_nat (by omega) q
    obtain ⟨k3, k4⟩ := k2 j hj rfl
    refine ⟨vs V, vsg V, vg V, rfl, hg, x1.2.1.2.1, d1, e13, fun q2 h2 d2 u2 f2 => ?_, fun q2 h2 p d2 f2 => ?_⟩
    · simp only [show ((0 : Int32) ≤ 0) = True from eq_true (by decide), xX12_lies_34, not_true_eq_false, not_false_eq_true, forall_const, true_and, and_true, false_and, and_false, if_true, if_false, reduceIte, implies_true, and_self, ite_self, true_or, or_true, false_or, or_false, true_implies, false_implies, Classical.not_not, false_imp_iff, not_false_iff, zi_push, zi_iload, zi_lload, zi_aload, zi_istore, zi_astore, zi_lstore, zi_iinc, zi_i2, zi_i1, zi_idv, zi_l2, zi_ldv, zi_lsh, zi_i2l, zi_l2i, zi_lcmp, zi_dup, zi_dup2, zi_pop, zi_if1, zi_if2, zi_getI, zi_getL, zi_getR, zi_putI, zi_putZ, zi_putL, zi_aldI, zi_aldL, zi_astI, zi_astZ, zi_astL, zi_alen, zi_iret, zi_zret, zi_lret, zi_vret, zi_callV, zi_callS, zi_sw, zi_copyI, zi_copyL, zi_m2, zi_m1, zi_sval, zi_scod, zi_fmt, zi_balen, zi_bald, zi_bret, zi_callT, zq_nth, zq_put1, zq_put2, zq_clr, zq_nl, zq_tk, zq_ps, zq_sw, zq_l0, zq_a, zq_a1, List.length_cons, List.length_nil, List.nil_append, List.cons_append, List.append_nil, List.replicate, Nat.reduceAdd, Nat.reduceSub, Nat.reduceLeDiff, true_and, and_true, List.append_eq, List.cons.injEq, Value.int.injEq, Value.long.injEq, Value.ref.injEq, exists_and_left, exists_eq_left', and_assoc, zc_b, zc_0, zc_1, zc_10, zc_01, lg_cmp_ge, lg_cmp_le, lg_cmp_gt, lg_cmp_lt, lg_cmp_eq, zw_le, zw_lt, reduceIte, true_or, or_true, zw_g0, zw_l0, zw_g1, zw_l1, zw_g2, zw_l2, zw_g3, zw_l3, zw_g5, zw_l5, zw_g6, zw_l6, zw_g7, zw_l7, zw_g9, zw_l9, zw_g10, zw_l10, zw_g15, zw_l15, zw_g16, zw_l16, zw_g48, zw_l48, zw_g50, zw_l50, zw_g57, zw_l57, zw_g97, zw_l97, zw_g100, zw_l100, zw_g200, zw_l200, zw_g999, zw_l999, zw_g9999, zw_l9999]
      have x2 := MC_fm x1 f2 (by decide)
      refine ⟨rfl, hV, x2, fun h3 x3 f3 => ?_⟩
      simp only [zi_push, zi_iload, zi_lload, zi_aload, zi_istore, zi_astore, zi_lstore, zi_iinc, zi_i2, zi_i1, zi_idv, zi_l2, zi_ldv, zi_lsh, zi_i2l, zi_l2i, zi_lcmp, zi_dup, zi_dup2, zi_pop, zi_if1, zi_if2, zi_getI, zi_getL, zi_getR, zi_putI, zi_putZ, zi_putL, zi_aldI, zi_aldL, zi_astI, zi_astZ, zi_astL, zi_alen, zi_iret, zi_zret, zi_lret, zi_vret, zi_callV, zi_callS, zi_sw, zi_copyI, zi_copyL, zi_m2, zi_m1, zi_sval, zi_scod, zi_fmt, zi_balen, zi_bald, zi_bret, zi_callT, zq_nth, zq_put1, zq_put2, zq_clr, zq_nl, zq_tk, zq_ps, zq_sw, zq_l0, zq_a, zq_a1, List.length_cons, List.length_nil, List.nil_append, List.cons_append, List.append_nil, List.replicate, Nat.reduceAdd, Nat.reduceSub, Nat.reduceLeDiff, true_and, and_true, List.append_eq, List.cons.injEq, Value.int.injEq, Value.long.injEq, Value.ref.injEq, exists_and_left, exists_eq_left', and_assoc, zc_b, zc_0, zc_1, zc_10, zc_01, lg_cmp_ge, lg_cmp_le, lg_cmp_gt, lg_cmp_lt, lg_cmp_eq, zw_le, zw_lt, reduceIte, true_or, or_true, zw_g0, zw_l0, zw_g1, zw_l1, zw_g2, zw_l2, zw_g3, zw_l3, zw_g5, zw_l5, zw_g6, zw_l6, zw_g7, zw_l7, zw_g9, zw_l9, zw_g10, zw_l10, zw_g15, zw_l15, zw_g16, zw_l16, zw_g48, zw_l48, zw_g50, zw_l50, zw_g57, zw_l57, zw_g97, zw_l97, zw_g100, zw_l100, zw_g200, zw_l200, zw_g999, zw_l999, zw_g9999, zw_l9999]
      refine ⟨rfl, fun h4 e4 f4 => ?_⟩
      have x4 := MD_fm x3 f4 (by decide)
      have p4 := MPk_of x3 e4
      simp only [zi_push, zi_iload, zi_lload, zi_aload, zi_istore, zi_astore, zi_lstore, zi_iinc, zi_i2, zi_i1, zi_idv, zi_l2, zi_ldv, zi_lsh, zi_i2l, zi_l2i, zi_lcmp, zi_dup, zi_dup2, zi_pop, zi_if1, zi_if2, zi_getI, zi_getL, zi_getR, zi_putI, zi_putZ, zi_putL, zi_aldI, zi_aldL, zi_astI, zi_astZ, zi_astL, zi_alen, zi_iret, zi_zret, zi_lret, zi_vret, zi_callV, zi_callS, zi_sw, zi_copyI, zi_copyL, zi_m2, zi_m1, zi_sval, zi_scod, zi_fmt, zi_balen, zi_bald, zi_bret, zi_callT, zq_nth, zq_put1, zq_put2, zq_clr, zq_nl, zq_tk, zq_ps, zq_sw, zq_l0, zq_a, zq_a1, List.length_cons, List.length_nil, List.nil_append, List.cons_append, List.append_nil, List.replicate, Nat.reduceAdd, Nat.reduceSub, Nat.reduceLeDiff, true_and, and_true, List.append_eq, List.cons.injEq, Value.int.injEq, Value.long.injEq, Value.ref.injEq, exists_and_left, exists_eq_left', and_assoc, zc_b, zc_0, zc_1, zc_10, zc_01, lg_cmp_ge, lg_cmp_le, lg_cmp_gt, lg_cmp_lt, lg_cmp_eq, zw_le, zw_lt, reduceIte, true_or, or_true, zw_g0, zw_l0, zw_g1, zw_l1, zw_g2, zw_l2, zw_g3, zw_l3, zw_g5, zw_l5, zw_g6, zw_l6, zw_g7, zw_l7, zw_g9, zw_l9, zw_g10, zw_l10, zw_g15, zw_l15, zw_g16, zw_l16, zw_g48, zw_l48, zw_g50, zw_l50, zw_g57, zw_l57, zw_g97, zw_l97, zw_g100, zw_l100, zw_g200, zw_l200, zw_g999, zw_l999, zw_g9999, zw_l9999]
      refine ⟨vs V, zlv (vsg V), vwN V, rfl, x4, MU_fm (MU_fm u2 f3 (by decide)) f4 (by decide), p4, fun h5 a5 b5 f5 => ?_⟩
      simp only [nI_clamp (show j < 2 ^ 31 by omega), zi_push, zi_iload, zi_lload, zi_aload, zi_istore, zi_astore, zi_lstore, zi_iinc, zi_i2, zi_i1, zi_idv, zi_l2, zi_ldv, zi_lsh, zi_i2l, zi_l2i, zi_lcmp, zi_dup, zi_dup2, zi_pop, zi_if1, zi_if2, zi_getI, zi_getL, zi_getR, zi_putI, zi_putZ, zi_putL, zi_aldI, zi_aldL, zi_astI, zi_astZ, zi_astL, zi_alen, zi_iret, zi_zret, zi_lret, zi_vret, zi_callV, zi_callS, zi_sw, zi_copyI, zi_copyL, zi_m2, zi_m1, zi_sval, zi_scod, zi_fmt, zi_balen, zi_bald, zi_bret, zi_callT, zq_nth, zq_put1, zq_put2, zq_clr, zq_nl, zq_tk, zq_ps, zq_sw, zq_l0, zq_a, zq_a1, List.length_cons, List.length_nil, List.nil_append, List.cons_append, List.append_nil, List.replicate, Nat.reduceAdd, Nat.reduceSub, Nat.reduceLeDiff, true_and, and_true, List.append_eq, List.cons.injEq, Value.int.injEq, Value.long.injEq, Value.ref.injEq, exists_and_left, exists_eq_left', and_assoc, zc_b, zc_0, zc_1, zc_10, zc_01, lg_cmp_ge, lg_cmp_le, lg_cmp_gt, lg_cmp_lt, lg_cmp_eq, zw_le, zw_lt, reduceIte, true_or, or_true, zw_g0, zw_l0, zw_g1, zw_l1, zw_g2, zw_l2, zw_g3, zw_l3, zw_g5, zw_l5, zw_g6, zw_l6, zw_g7, zw_l7, zw_g9, zw_l9, zw_g10, zw_l10, zw_g15, zw_l15, zw_g16, zw_l16, zw_g48, zw_l48, zw_g50, zw_l50, zw_g57, zw_l57, zw_g97, zw_l97, zw_g100, zw_l100, zw_g200, zw_l200, zw_g999, zw_l999, zw_g9999, zw_l9999]
      rw [a5 j (by omega)]
      have f25 : zq_fm [1, 50] [57, 72, 73, 74, 75, 89, 90] h2 h5 := zq_fm_t (zq_fm_t (zq_fm_w f3 (by decide)) f4 (by decide)) f5 (by decide)
      refine ⟨vp_in_nI (by omega) (by decide), (h, h, j, 0, 0, 0), _, _, _, none, none, none, rfl, rfl, Nat.zero_le _, Or.inl rfl, ⟨hj, by have := (zqn_le (vsg V) (vs V) (vg V) 16).1; have e : zqn (vsg V) (vs V) (vg V) 16 = vs V := q2.1; omega⟩, hV, MD_fm x4 f5 (by decide), MU_fm (MU_fm (MU_fm u2 f3 (by decide)) f4 (by decide)) f5 (by decide), fun i c hi hc _ => ?_, zq_fm_t (zq_fm_t (zq_fm_w f1w (by decide)) f2 (by decide)) f25 (by decide), MT_fm ⟨by rw [(f2.2 13 (by decide)).1]; exact e13, Nat.zero_le _, d2.1⟩ f25 (by decide), k3 q2⟩
      rw [(f5.1 89 (by decide) (by decide)).1]
      exact (p4 i c hi hc).1
    · have hz := (zqn_le (vsg V) (vs V) (vg V) 16).1
      have e0 : (0 ≤ -1 - nI (zqN (vsg V) (vs V) (vg V))) = False := eq_false (zneg (Nat.le_trans hz (by decide)))
      simp only [e0, xX12_lies_32, not_true_eq_false, not_false_eq_true, forall_const, true_and, and_true, false_and, and_false, if_true, if_false, reduceIte, implies_true, and_self, ite_self, true_or, or_true, false_or, or_false, true_implies, false_implies, Classical.not_not, false_imp_iff, not_false_iff, zi_push, zi_iload, zi_lload, zi_aload, zi_istore, zi_astore, zi_lstore, zi_iinc, zi_i2, zi_i1, zi_idv, zi_l2, zi_ldv, zi_lsh, zi_i2l, zi_l2i, zi_lcmp, zi_dup, zi_dup2, zi_pop, zi_if1, zi_if2, zi_getI, zi_getL, zi_getR, zi_putI, zi_putZ, zi_putL, zi_aldI, zi_aldL, zi_astI, zi_astZ, zi_astL, zi_alen, zi_iret, zi_zret, zi_lret, zi_vret, zi_callV, zi_callS, zi_sw, zi_copyI, zi_copyL, zi_m2, zi_m1, zi_sval, zi_scod, zi_fmt, zi_balen, zi_bald, zi_bret, zi_callT, zq_nth, zq_put1, zq_put2, zq_clr, zq_nl, zq_tk, zq_ps, zq_sw, zq_l0, zq_a, zq_a1, List.length_cons, List.length_nil, List.nil_append, List.cons_append, List.append_nil, List.replicate, Nat.reduceAdd, Nat.reduceSub, Nat.reduceLeDiff, true_and, and_true, List.append_eq, List.cons.injEq, Value.int.injEq, Value.long.injEq, Value.ref.injEq, exists_and_left, exists_eq_left', and_assoc, zc_b, zc_0, zc_1, zc_10, zc_01, lg_cmp_ge, lg_cmp_le, lg_cmp_gt, lg_cmp_lt, lg_cmp_eq, zw_le, zw_lt, reduceIte, true_or, or_true, zw_g0, zw_l0, zw_g1, zw_l1, zw_g2, zw_l2, zw_g3, zw_l3, zw_g5, zw_l5, zw_g6, zw_l6, zw_g7, zw_l7, zw_g9, zw_l9, zw_g10, zw_l10, zw_g15, zw_l15, zw_g16, zw_l16, zw_g48, zw_l48, zw_g50, zw_l50, zw_g57, zw_l57, zw_g97, zw_l97, zw_g100, zw_l100, zw_g200, zw_l200, zw_g999, zw_l999, zw_g9999, zw_l9999]
      exact k4 q2 h2 ⟨by rw [(f2.2 13 (by decide)).1]; exact e13, Nat.zero_le _, d2.1⟩ (zq_fm_t (zq_fm_w f1w (by decide)) f2 (by decide))
  · obtain ⟨h0, hb, j, t, v, c⟩ := z
    obtain ⟨s2, s5, s6, s8, s9, s10, rfl, rfl, ht, h56, hk⟩ := hi
    have e3 : (3 ≤ nI t) = (t = 3) := zl_ge (n := 3) ht (by decide)
    have ok := zlyS_ok V (zlv (vsg V)) hk.1.2 j (10 * t)
    simp only [xX12_lies_65, xX12_lies_71, xX12_lies_204, xX12_lies_228, e3, zi_push, zi_iload, zi_lload, zi_aload, zi_istore, zi_astore, zi_lstore, zi_iinc, zi_i2, zi_i1, zi_idv, zi_l2, zi_ldv, zi_lsh, zi_i2l, zi_l2i, zi_lcmp, zi_dup, zi_dup2, zi_pop, zi_if1, zi_if2, zi_getI, zi_getL, zi_getR, zi_putI, zi_putZ, zi_putL, zi_aldI, zi_aldL, zi_astI, zi_astZ, zi_astL, zi_alen, zi_iret, zi_zret, zi_lret, zi_vret, zi_callV, zi_callS, zi_sw, zi_copyI, zi_copyL, zi_m2, zi_m1, zi_sval, zi_scod, zi_fmt, zi_balen, zi_bald, zi_bret, zi_callT, zq_nth, zq_put1, zq_put2, zq_clr, zq_nl, zq_tk, zq_ps, zq_sw, zq_l0, zq_a, zq_a1, List.length_cons, List.length_nil, List.nil_append, List.cons_append, List.append_nil, List.replicate, Nat.reduceAdd, Nat.reduceSub, Nat.reduceLeDiff, true_and, and_true, List.append_eq, List.cons.injEq, Value.int.injEq, Value.long.injEq, Value.ref.injEq, exists_and_left, exists_eq_left', and_assoc, zc_b, zc_0, zc_1, zc_10, zc_01, lg_cmp_ge, lg_cmp_le, lg_cmp_gt, lg_cmp_lt, lg_cmp_eq, zw_le, zw_lt, reduceIte, true_or, or_true, zw_g0, zw_l0, zw_g1, zw_l1, zw_g2, zw_l2, zw_g3, zw_l3, zw_g5, zw_l5, zw_g6, zw_l6, zw_g7, zw_l7, zw_g9, zw_l9, zw_g10, zw_l10, zw_g15, zw_l15, zw_g16, zw_l16, zw_g48, zw_l48, zw_g50, zw_l50, zw_g57, zw_l57, zw_g97, zw_l97, zw_g100, zw_l100, zw_g200, zw_l200, zw_g999, zw_l999, zw_g9999, zw_l9999]
    refine ⟨fun q => ?_, fun q => ⟨(h0, h, j, t, 0, 0), by dsimp only; omega, s2, s5, s6, s9, s10, rfl, rfl, ⟨by omega, Nat.zero_le _⟩, h56, hk⟩⟩
    subst q
    obtain ⟨⟨hj, hn⟩, hV, hX, hU, hQ, hf, hT, k⟩ := hk
    have f1 : zq_fm [1] [] h (zq_setI h 56 1 0) := zq_fm_F zq_fm_rf (by decide)
    have le0 : (nI (zlyS V (zlv (vsg V)) (vs V) j (10 * 3)).1 ≤ 0) = ((zlyS V (zlv (vsg V)) (vs V) j (10 * 3)).1 = 0) := nI_le0 (by omega)
    simp only [le0]
    refine ⟨fun q => k _ ?_ (MT_fm hT f1 (by decide)) (zq_fm_t hf f1 (by decide)), fun q => ?_⟩
    · unfold zlyW
      rw [if_pos q]
      exact MR_nil h
    · obtain ⟨rfl, rfl⟩ := h56.resolve_left q
      simp only [xX12_lies_214, zi_push, zi_iload, zi_lload, zi_aload, zi_istore, zi_astore, zi_lstore, zi_iinc, zi_i2, zi_i1, zi_idv, zi_l2, zi_ldv, zi_lsh, zi_i2l, zi_l2i, zi_lcmp, zi_dup, zi_dup2, zi_pop, zi_if1, zi_if2, zi_getI, zi_getL, zi_getR, zi_putI, zi_putZ, zi_putL, zi_aldI, zi_aldL, zi_astI, zi_astZ, zi_astL, zi_alen, zi_iret, zi_zret, zi_lret, zi_vret, zi_callV, zi_callS, zi_sw, zi_copyI, zi_copyL, zi_m2, zi_m1, zi_sval, zi_scod, zi_fmt, zi_balen, zi_bald, zi_bret, zi_callT, zq_nth, zq_put1, zq_put2, zq_clr, zq_nl, zq_tk, zq_ps, zq_sw, zq_l0, zq_a, zq_a1, List.length_cons, List.length_nil, List.nil_append, List.cons_append, List.append_nil, List.replicate, Nat.reduceAdd, Nat.reduceSub, Nat.reduceLeDiff, true_and, and_true, List.append_eq, List.cons.injEq, Value.int.injEq, Value.long.injEq, Value.ref.injEq, exists_and_left, exists_eq_left', and_assoc, zc_b, zc_0, zc_1, zc_10, zc_01, lg_cmp_ge, lg_cmp_le, lg_cmp_gt, lg_cmp_lt, lg_cmp_eq, zw_le, zw_lt, reduceIte, true_or, or_true, zw_g0, zw_l0, zw_g1, zw_l1, zw_g2, zw_l2, zw_g3, zw_l3, zw_g5, zw_l5, zw_g6, zw_l6, zw_g7, zw_l7, zw_g9, zw_l9, zw_g10, zw_l10, zw_g15, zw_l15, zw_g16, zw_l16, zw_g48, zw_l48, zw_g50, zw_l50, zw_g57, zw_l57, zw_g97, zw_l97, zw_g100, zw_l100, zw_g200, zw_l200, zw_g999, zw_l999, zw_g9999, zw_l9999]
      refine ⟨_, [], rfl, MR_nil h, by decide, fun h2 r2 f2 => ?_⟩
      simp only [zi_push, zi_iload, zi_lload, zi_aload, zi_istore, zi_astore, zi_lstore, zi_iinc, zi_i2, zi_i1, zi_idv, zi_l2, zi_ldv, zi_lsh, zi_i2l, zi_l2i, zi_lcmp, zi_dup, zi_dup2, zi_pop, zi_if1, zi_if2, zi_getI, zi_getL, zi_getR, zi_putI, zi_putZ, zi_putL, zi_aldI, zi_aldL, zi_astI, zi_astZ, zi_astL, zi_alen, zi_iret, zi_zret, zi_lret, zi_vret, zi_callV, zi_callS, zi_sw, zi_copyI, zi_copyL, zi_m2, zi_m1, zi_sval, zi_scod, zi_fmt, zi_balen, zi_bald, zi_bret, zi_callT, zq_nth, zq_put1, zq_put2, zq_clr, zq_nl, zq_tk, zq_ps, zq_sw, zq_l0, zq_a, zq_a1, List.length_cons, List.length_nil, List.nil_append, List.cons_append, List.append_nil, List.replicate, Nat.reduceAdd, Nat.reduceSub, Nat.reduceLeDiff, true_and, and_true, List.append_eq, List.cons.injEq, Value.int.injEq, Value.long.injEq, Value.ref.injEq, exists_and_left, exists_eq_left', and_assoc, zc_b, zc_0, zc_1, zc_10, zc_01, lg_cmp_ge, lg_cmp_le, lg_cmp_gt, lg_cmp_lt, lg_cmp_eq, zw_le, zw_lt, reduceIte, true_or, or_true, zw_g0, zw_l0, zw_g1, zw_l1, zw_g2, zw_l2, zw_g3, zw_l3, zw_g5, zw_l5, zw_g6, zw_l6, zw_g7, zw_l7, zw_g9, zw_l9, zw_g10, zw_l10, zw_g15, zw_l15, zw_g16, zw_l16, zw_g48, zw_l48, zw_g50, zw_l50, zw_g57, zw_l57, zw_g97, zw_l97, zw_g100, zw_l100, zw_g200, zw_l200, zw_g999, zw_l999, zw_g9999, zw_l9999]
      refine ⟨_, _, rfl, r2, by simp, fun h3 r3 f3 => ?_⟩
      simp only [xX12_lies_228, zi_push, zi_iload, zi_lload, zi_aload, zi_istore, zi_astore, zi_lstore, zi_iinc, zi_i2, zi_i1, zi_idv, zi_l2, zi_ldv, zi_lsh, zi_i2l, zi_l2i, zi_lcmp, zi_dup, zi_dup2, zi_pop, zi_if1, zi_if2, zi_getI, zi_getL, zi_getR, zi_putI, zi_putZ, zi_putL, zi_aldI, zi_aldL, zi_astI, zi_astZ, zi_astL, zi_alen, zi_iret, zi_zret, zi_lret, zi_vret, zi_callV, zi_callS, zi_sw, zi_copyI, zi_copyL, zi_m2, zi_m1, zi_sval, zi_scod, zi_fmt, zi_balen, zi_bald, zi_bret, zi_callT, zq_nth, zq_put1, zq_put2, zq_clr, zq_nl, zq_tk, zq_ps, zq_sw, zq_l0, zq_a, zq_a1, List.length_cons, List.length_nil, List.nil_append, List.cons_append, List.append_nil, List.replicate, Nat.reduceAdd, Nat.reduceSub, Nat.reduceLeDiff, true_and, and_true, List.append_eq, List.cons.injEq, Value.int.injEq, Value.long.injEq, Value.ref.injEq, exists_and_left, exists_eq_left', and_assoc, zc_b, zc_0, zc_1, zc_10, zc_01, lg_cmp_ge, lg_cmp_le, lg_cmp_gt, lg_cmp_lt, lg_cmp_eq, zw_le, zw_lt, reduceIte, true_or, or_true, zw_g0, zw_l0, zw_g1, zw_l1, zw_g2, zw_l2, zw_g3, zw_l3, zw_g5, zw_l5, zw_g6, zw_l6, zw_g7, zw_l7, zw_g9, zw_l9, zw_g10, zw_l10, zw_g15, zw_l15, zw_g16, zw_l16, zw_g48, zw_l48, zw_g50, zw_l50, zw_g57, zw_l57, zw_g97, zw_l97, zw_g100, zw_l100, zw_g200, zw_l200, zw_g999, zw_l999, zw_g9999, zw_l9999]
      rw [nI_l (by omega), nI_l (by omega)] at r3
      refine k h3 ?_ (MT_fm (MT_fm (MT_fm hT f1 (by decide)) f2 (by decide)) f3 (by decide)) (zq_fm_t (zq_fm_t (zq_fm_t hf f1 (by decide)) f2 (by decide)) f3 (by decide))
      unfold zlyW
      rw [if_neg q]
      exact r3
  · obtain ⟨h0, hb, j, t, v, c⟩ := z
    obtain ⟨s2, s5, s6, s9, s10, rfl, rfl, ⟨ht, hv⟩, h56, hk⟩ := hi
    obtain ⟨hj, hn⟩ := hk.1
    have hg := hk.2.2.1.1.2.1.1
    have e9 : (9 < nI v) = (v = 10) := zgt9 hv
    have v6 : vp_in (nI (3 * j + t)) 18 := vp_in_nI (by omega) (by decide)
    have e6 : h.1 61 (3 * j + t) = vta V (3 * j + t) := hk.2.2.1.1.2.1.2.2.1 _ (by omega)
    simp only [z3l, nI_add, xX12_lies_74, xX12_lies_81, xX12_lies_198, e9, z3b, z3a, nI_clamp (show 3 * j + t < 2 ^ 31 by omega), e6, nI_1, zi_push, zi_iload, zi_lload, zi_aload, zi_istore, zi_astore, zi_lstore, zi_iinc, zi_i2, zi_i1, zi_idv, zi_l2, zi_ldv, zi_lsh, zi_i2l, zi_l2i, zi_lcmp, zi_dup, zi_dup2, zi_pop, zi_if1, zi_if2, zi_getI, zi_getL, zi_getR, zi_putI, zi_putZ, zi_putL, zi_aldI, zi_aldL, zi_astI, zi_astZ, zi_astL, zi_alen, zi_iret, zi_zret, zi_lret, zi_vret, zi_callV, zi_callS, zi_sw, zi_copyI, zi_copyL, zi_m2, zi_m1, zi_sval, zi_scod, zi_fmt, zi_balen, zi_bald, zi_bret, zi_callT, zq_nth, zq_put1, zq_put2, zq_clr, zq_nl, zq_tk, zq_ps, zq_sw, zq_l0, zq_a, zq_a1, List.length_cons, List.length_nil, List.nil_append, List.cons_append, List.append_nil, List.replicate, Nat.reduceAdd, Nat.reduceSub, Nat.reduceLeDiff, true_and, and_true, List.append_eq, List.cons.injEq, Value.int.injEq, Value.long.injEq, Value.ref.injEq, exists_and_left, exists_eq_left', and_assoc, zc_b, zc_0, zc_1, zc_10, zc_01, lg_cmp_ge, lg_cmp_le, lg_cmp_gt, lg_cmp_lt, lg_cmp_eq, zw_le, zw_lt, reduceIte, true_or, or_true, zw_g0, zw_l0, zw_g1, zw_l1, zw_g2, zw_l2, zw_g3, zw_l3, zw_g5, zw_l5, zw_g6, zw_l6, zw_g7, zw_l7, zw_g9, zw_l9, zw_g10, zw_l10, zw_g15, zw_l15, zw_g16, zw_l16, zw_g48, zw_l48, zw_g50, zw_l50, zw_g57, zw_l57, zw_g97, zw_l97, zw_g100, zw_l100, zw_g200, zw_l200, zw_g999, zw_l999, zw_g9999, zw_l9999]
    refine ⟨fun q => ⟨(h0, h, j, t + 1, 0, 0), by dsimp only; omega, s2, s5, s6, _, s9, s10, by subst q; rfl, rfl, by omega, ?_, hk⟩, fun q => ⟨v6, v6, (h0, h, j, t, v, 0), by dsimp only; omega, s2, s5, s6, rfl, rfl, ⟨ht, by omega, Nat.zero_le _⟩, h56, hk, zq_fm_rf, fun i c hi hc q2 => ?_, fun k hk => absurd hk (Nat.not_lt_zero _)⟩⟩
    · subst q
      exact h56
    · have := hk.2.2.2.2.1 i c hi hc q2
      simpa [zq_sI] using this
  · obtain ⟨h0, hb, j, t, v, c⟩ := z
    obtain ⟨s2, s5, s6, rfl, rfl, ⟨ht, hv, hc⟩, h56, hk, hf, hQ, hc2⟩ := hi
    obtain ⟨hj, hn⟩ := hk.1
    have hV := hk.2.1
    have hXb := hk.2.2.1.1
    have hg := hXb.2.1.1
    have hn2 := hXb.1.1
    have x9 : MC b (vlV V j t v) h := MC_fm (MC_vl hXb hj ht v) hf (by decide)
    have e3 : h.1 56 3 = nI (vn V) := x9.1.2.1
    have v6 : vp_in (nI (3 * j + t)) 18 := vp_in_nI (by omega) (by decide)
    simp only [z3l, nI_add, xX12_lies_110, xX12_lies_119, xX12_lies_144, e3, zl_ge hc (show vn V < 2 ^ 31 by omega), z3b, z3a, z16l, nI_clamp (show 3 * j + t < 2 ^ 31 by omega), zi_push, zi_iload, zi_lload, zi_aload, zi_istore, zi_astore, zi_lstore, zi_iinc, zi_i2, zi_i1, zi_idv, zi_l2, zi_ldv, zi_lsh, zi_i2l, zi_l2i, zi_lcmp, zi_dup, zi_dup2, zi_pop, zi_if1, zi_if2, zi_getI, zi_getL, zi_getR, zi_putI, zi_putZ, zi_putL, zi_aldI, zi_aldL, zi_astI, zi_astZ, zi_astL, zi_alen, zi_iret, zi_zret, zi_lret, zi_vret, zi_callV, zi_callS, zi_sw, zi_copyI, zi_copyL, zi_m2, zi_m1, zi_sval, zi_scod, zi_fmt, zi_balen, zi_bald, zi_bret, zi_callT, zq_nth, zq_put1, zq_put2, zq_clr, zq_nl, zq_tk, zq_ps, zq_sw, zq_l0, zq_a, zq_a1, List.length_cons, List.length_nil, List.nil_append, List.cons_append, List.append_nil, List.replicate, Nat.reduceAdd, Nat.reduceSub, Nat.reduceLeDiff, true_and, and_true, List.append_eq, List.cons.injEq, Value.int.injEq, Value.long.injEq, Value.ref.injEq, exists_and_left, exists_eq_left', and_assoc, zc_b, zc_0, zc_1, zc_10, zc_01, lg_cmp_ge, lg_cmp_le, lg_cmp_gt, lg_cmp_lt, lg_cmp_eq, zw_le, zw_lt, reduceIte, true_or, or_true, zw_g0, zw_l0, zw_g1, zw_l1, zw_g2, zw_l2, zw_g3, zw_l3, zw_g5, zw_l5, zw_g6, zw_l6, zw_g7, zw_l7, zw_g9, zw_l9, zw_g10, zw_l10, zw_g15, zw_l15, zw_g16, zw_l16, zw_g48, zw_l48, zw_g50, zw_l50, zw_g57, zw_l57, zw_g97, zw_l97, zw_g100, zw_l100, zw_g200, zw_l200, zw_g999, zw_l999, zw_g9999, zw_l9999]
    refine ⟨fun q => ⟨v6, ?_⟩, fun q => ?_⟩
    · subst q
      have fb : zq_fm [] [72, 73, 89] hb (zq_setI h 61 (3 * j + t) (vta V (3 * j + t))) := zl_back hf (hXb.2.1.2.2.1 _ (by omega))
      have qb : MQj V j (zq_setI h 61 (3 * j + t) (vta V (3 * j + t))) := fun i c hi hc q2 => by
        have := hQ i c hi hc q2
        simpa [zq_sI] using this
      have kb := zlyk_fm hk fb (by decide) qb
      refine ⟨vs V, zlv (vsg V), zlp V j t v, rfl, kb.2.2.1, kb.2.2.2.1, fun i c hi hc => ⟨?_, zlp_le _ _ _ _ _ _⟩, fun h2 a2 b2 f2 => ?_⟩
      · unfold zlp
        by_cases q2 : i = j
        · rw [if_pos q2, q2]
          have := hc2 c hc
          simpa [zq_sI] using this
        · rw [if_neg q2]
          exact qb i c hi hc q2
      · have q2b : MQj V j h2 := fun i c hi hc q2 => by
          rw [(f2.1 89 (by decide) (by decide)).1]
          exact qb i c hi hc q2
        have k2 := zlyk_fm kb f2 (by decide) q2b
        have ha : h2.1 90 j = nI (zlh V (zlv (vsg V)) (vs V) j t v) := a2 j (by omega)
        have l1 : zlh V (zlv (vsg V)) (vs V) j t v ≤ 999 * vs V := vT_le V _ _ _ _
        have l2 : zlt V (zlv (vsg V)) (vs V) j ≤ 999 * vs V := vT_le V _ _ _ _
        have es := zlyS_s V (zlv (vsg V)) (vs V) j (10 * t + v)
        have ok := zlyS_ok V (zlv (vsg V)) hn j (10 * t + v)
        have d1 : (10 * t + v) / 10 = t := by omega
        have d2 : (10 * t + v) % 10 = v := by omega
        have eg := zsgt (show zlh V (zlv (vsg V)) (vs V) j t v < 2 ^ 30 by omega) (show zlt V (zlv (vsg V)) (vs V) j < 2 ^ 30 by omega) (show (zlyS V (zlv (vsg V)) (vs V) j (10 * t + v)).1 < 2 ^ 29 by omega)
        have vj : vp_in (nI j) 6 := vp_in_nI (by omega) (by decide)
        simp only [xX12_lies_174, xX12_lies_192, nI_clamp (show j < 2 ^ 31 by omega), ha, eg, nI_1, zi_push, zi_iload, zi_lload, zi_aload, zi_istore, zi_astore, zi_lstore, zi_iinc, zi_i2, zi_i1, zi_idv, zi_l2, zi_ldv, zi_lsh, zi_i2l, zi_l2i, zi_lcmp, zi_dup, zi_dup2, zi_pop, zi_if1, zi_if2, zi_getI, zi_getL, zi_getR, zi_putI, zi_putZ, zi_putL, zi_aldI, zi_aldL, zi_astI, zi_astZ, zi_astL, zi_alen, zi_iret, zi_zret, zi_lret, zi_vret, zi_callV, zi_callS, zi_sw, zi_copyI, zi_copyL, zi_m2, zi_m1, zi_sval, zi_scod, zi_fmt, zi_balen, zi_bald, zi_bret, zi_callT, zq_nth, zq_put1, zq_put2, zq_clr, zq_nl, zq_tk, zq_ps, zq_sw, zq_l0, zq_a, zq_a1, List.length_cons, List.length_nil, List.nil_append, List.cons_append, List.append_nil, List.replicate, Nat.reduceAdd, Nat.reduceSub, Nat.reduceLeDiff, true_and, and_true, List.append_eq, List.cons.injEq, Value.int.injEq, Value.long.injEq, Value.ref.injEq, exists_and_left, exists_eq_left', and_assoc, zc_b, zc_0, zc_1, zc_10, zc_01, lg_cmp_ge, lg_cmp_le, lg_cmp_gt, lg_cmp_lt, lg_cmp_eq, zw_le, zw_lt, reduceIte, true_or, or_true, zw_g0, zw_l0, zw_g1, zw_l1, zw_g2, zw_l2, zw_g3, zw_l3, zw_g5, zw_l5, zw_g6, zw_l6, zw_g7, zw_l7, zw_g9, zw_l9, zw_g10, zw_l10, zw_g15, zw_l15, zw_g16, zw_l16, zw_g48, zw_l48, zw_g50, zw_l50, zw_g57, zw_l57, zw_g97, zw_l97, zw_g100, zw_l100, zw_g200, zw_l200, zw_g999, zw_l999, zw_g9999, zw_l9999]
        unfold zly1 at es
        rw [d1, d2] at es
        refine ⟨vj, fun q2 => ?_, fun q2 => ⟨vj, ?_⟩⟩
        · rw [if_neg (by omega)] at es
          refine ⟨(h0, h2, j, t, v + 1, 0), by dsimp only; omega, s2, s5, s6, some (.int (vta V (3 * j + t))), some (.int (nI (vn V))), ?_, rfl, ⟨ht, by omega⟩, ?_, k2⟩
          · show _ = [_, _, _, _, some (Value.int (nI (zlyS V (zlv (vsg V)) (vs V) j (10 * t + v + 1)).1)), _, _, _, _, _, _]
            rw [es]
          · show zl56 (zlyS V (zlv (vsg V)) (vs V) j (10 * t + v + 1)) s5 s6
            rw [es]
            exact h56
        · rw [if_pos (by omega)] at es
          rw [nI_sub (by omega)]
          refine ⟨(h0, h2, j, t, v + 1, 0), by dsimp only; omega, s2, nI t, nI v, some (.int (vta V (3 * j + t))), some (.int (nI (vn V))), ?_, rfl, ⟨ht, by omega⟩, ?_, k2⟩
          · show _ = [_, _, _, _, some (Value.int (nI (zlyS V (zlv (vsg V)) (vs V) j (10 * t + v + 1)).1)), _, _, _, _, _, _]
            rw [es]
          · show zl56 (zlyS V (zlv (vsg V)) (vs V) j (10 * t + v + 1)) (nI t) (nI v)
            rw [es]
            exact Or.inr ⟨by dsimp only; rw [d1], by dsimp only; rw [d2]⟩
    · refine ⟨b, vlV V j t v, j, c, rfl, hj, ?_, ZV_vl hV j t hv, x9, fun h1 x1 f1 => ?_⟩
      · show c < vn V
        omega
      · simp only [nI_add, z16l, nI_clamp (show 16 * j + c < 2 ^ 31 by omega), nI_1, zi_push, zi_iload, zi_lload, zi_aload, zi_istore, zi_astore, zi_lstore, zi_iinc, zi_i2, zi_i1, zi_idv, zi_l2, zi_ldv, zi_lsh, zi_i2l, zi_l2i, zi_lcmp, zi_dup, zi_dup2, zi_pop, zi_if1, zi_if2, zi_getI, zi_getL, zi_getR, zi_putI, zi_putZ, zi_putL, zi_aldI, zi_aldL, zi_astI, zi_astZ, zi_astL, zi_alen, zi_iret, zi_zret, zi_lret, zi_vret, zi_callV, zi_callS, zi_sw, zi_copyI, zi_copyL, zi_m2, zi_m1, zi_sval, zi_scod, zi_fmt, zi_balen, zi_bald, zi_bret, zi_callT, zq_nth, zq_put1, zq_put2, zq_clr, zq_nl, zq_tk, zq_ps, zq_sw, zq_l0, zq_a, zq_a1, List.length_cons, List.length_nil, List.nil_append, List.cons_append, List.append_nil, List.replicate, Nat.reduceAdd, Nat.reduceSub, Nat.reduceLeDiff, true_and, and_true, List.append_eq, List.cons.injEq, Value.int.injEq, Value.long.injEq, Value.ref.injEq, exists_and_left, exists_eq_left', and_assoc, zc_b, zc_0, zc_1, zc_10, zc_01, lg_cmp_ge, lg_cmp_le, lg_cmp_gt, lg_cmp_lt, lg_cmp_eq, zw_le, zw_lt, reduceIte, true_or, or_true, zw_g0, zw_l0, zw_g1, zw_l1, zw_g2, zw_l2, zw_g3, zw_l3, zw_g5, zw_l5, zw_g6, zw_l6, zw_g7, zw_l7, zw_g9, zw_l9, zw_g10, zw_l10, zw_g15, zw_l15, zw_g16, zw_l16, zw_g48, zw_l48, zw_g50, zw_l50, zw_g57, zw_l57, zw_g97, zw_l97, zw_g100, zw_l100, zw_g200, zw_l200, zw_g999, zw_l999, zw_g9999, zw_l9999]
        refine ⟨vp_in_nI (by omega) (by decide), (h0, hb, j, t, v, c + 1), by dsimp only; omega, s2, s5, s6, rfl, rfl, ⟨ht, hv, by omega⟩, h56, hk, zq_fm_I (zq_fm_t hf f1 (by decide)) (by decide), fun i k' hi hk' q2 => ?_, fun k' hk' => ?_⟩
        · have := hQ i k' hi hk' q2
          rw [zq_sI, if_neg (fun z => q2 (by omega)), (f1.1 89 (by decide) (by decide)).1]
          exact this
        · by_cases q2 : k' = c
          · rw [q2]
            simp [zq_sI]
          · rw [zq_sI, if_neg (fun z => q2 (by omega)), (f1.1 89 (by decide) (by decide)).1]
            exact hc2 k' (by omega)
