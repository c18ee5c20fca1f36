/-! ===== THE LOAF of the reference; its face; the loaf anew ===== -/
theorem zwd0 : ∀ v, v < 256 → (zix (zsb 0) (nI v) < zsl8 0 ↔ (49 ≤ v ∧ v ≤ 57)) ∧ (zix (zsb 0) (nI v) < zsl8 0 → 1 + nI (zix (zsb 0) (nI v)) = nI (v - 48)) := by decide +kernel
theorem zwd1 : ∀ v, v < 256 → (zix (zsb 1) (nI v) < zsl8 1 ↔ (97 ≤ v ∧ v ≤ 105)) ∧ (zix (zsb 1) (nI v) < zsl8 1 → 1 + nI (zix (zsb 1) (nI v)) = nI (v - 97 + 1)) := by decide +kernel
theorem zsg_n {x : Int32} (h : 0 ≤ x ∧ x ≤ 255) : ∃ v, v < 256 ∧ x = nI v := by
  obtain ⟨j, hj, e⟩ := nI_of2 (M := 255) (n := 255) (by decide) (Int32.not_lt.mpr h.1) h.2
  exact ⟨j, by omega, e⟩
theorem zds0 {s : Nat → Int32} {e p : Nat} (h : p < e → 0 ≤ s p ∧ s p ≤ 255) : (ziso s e p 0 ↔ zlD s e p) ∧ (ziso s e p 0 → 1 + nI (zix (zsb 0) (s p)) = nI (zdv s p)) := by
  by_cases c : p < e
  · obtain ⟨v, hv, ev⟩ := zsg_n (h c)
    obtain ⟨z1, z2⟩ := zwd0 v hv
    have ed : zdv s p = v - 48 := by
      unfold zdv
      rw [ev, nI_clamp (by omega)]
    have e1 : (48 ≤ s p) = (48 ≤ v) := by rw [ev]; exact nI_leP (a := 48) (by decide) (by omega)
    have e2 : (s p ≤ 57) = (v ≤ 57) := by rw [ev]; exact nI_leP (b := 57) (by omega) (by decide)
    refine ⟨⟨fun q => ?_, fun q => ?_⟩, fun q => ?_⟩
    · have := z1.mp (by rw [← ev]; exact q.2)
      exact ⟨⟨c, by rw [e1]; omega, by rw [e2]; omega⟩, by omega⟩
    · have q1 := q.1.2.1
      have q2 := q.1.2.2
      have q3 := q.2
      rw [e1] at q1
      rw [e2] at q2
      exact ⟨c, by rw [ev]; exact z1.mpr (by omega)⟩
    · rw [ed, ev]
      exact z2 (by rw [← ev]; exact q.2)
  · exact ⟨⟨fun q => absurd q.1 c, fun q => absurd q.1.1 c⟩, fun q => absurd q.1 c⟩
theorem zds1 {s : Nat → Int32} {e p : Nat} (h : p < e → 0 ≤ s p ∧ s p ≤ 255) : (ziso s e p 1 ↔ zisl s e p 9) ∧ (ziso s e p 1 → 1 + nI (zix (zsb 1) (s p)) = nI (zlv s p + 1)) := by
  by_cases c : p < e
  · obtain ⟨v, hv, ev⟩ := zsg_n (h c)
    obtain ⟨z1, z2⟩ := zwd1 v hv
    have ed : zlv s p = v - 97 := by
      unfold zlv
      rw [ev, nI_clamp (by omega)]
    have e1 : (97 ≤ s p) = (97 ≤ v) := by rw [ev]; exact nI_leP (a := 97) (by decide) (by omega)
    have e2 : (s p < nI (97 + 9)) = (v < 106) := by rw [ev]; exact nI_ltP (by omega) (by decide)
    refine ⟨⟨fun q => ?_, fun q => ?_⟩, fun q => ?_⟩
    · have := z1.mp (by rw [← ev]; exact q.2)
      exact ⟨c, by rw [e1]; omega, by rw [e2]; omega⟩
    · have q1 := q.2.1
      have q2 := q.2.2
      rw [e1] at q1
      rw [e2] at q2
      exact ⟨c, by rw [ev]; exact z1.mpr (by omega)⟩
    · rw [ed, ev]
      exact z2 (by rw [← ev]; exact q.2)
  · exact ⟨⟨fun q => absurd q.1 c, fun q => absurd q.1 c⟩, fun q => absurd q.1 c⟩
/-- V with the loaf that THE TEXT tells -/
def vLg (V : zV) (N : Nat) (a b c : Nat → Int32) : zV := ((0, vsg V), (N, a, b, c), V.2.2.1, V.2.2.2.1, (fun _ => -1, 0, fun _ _ => -1, fun _ => none), (0, fun _ => 0, fun _ => 0), vw V)
theorem MC_Lg {V : zV} {N k : Nat} {a b c : Nat → Int32} {h : zq_H} (h1 : ML N a b c h) (h2 : MG (vg V) (vta V) (vde V) h) (h3 : MP (vL V) (vcd V) h) (h4 : MB k N (fun _ => -1) 0 (fun _ _ => -1) (fun _ => none) h) (h5 : MK 0 (fun _ => 0) (fun _ => 0) h) : MC k (vLg V N a b c) h := ⟨h1, h2, h3, h4, h5⟩
theorem XC_Lg {V : zV} {N : Nat} {a b c : Nat → Int32} {h : zq_H} (h1 : XL N a b c h) (h2 : XG (vg V) (vta V) (vde V) h) (h3 : XP (vL V) (vcd V) h) (h4 : XB N (fun _ => -1) 0 (fun _ _ => -1) (fun _ => none) h) (h5 : XK 0 (fun _ => 0) (fun _ => 0) h) (h6 : XW N (vg V) (zwt N a b c (vta V) (vL V) (vcd V)) h) (h7 : XW0 h) : XC (vLg V N a b c) h := ⟨h1, h2, h3, h4, h5, h6, h7⟩
theorem ZV_Lg {V : zV} {N : Nat} {a b c : Nat → Int32} (hV : ZV V) (h1 : ∀ i, i < N → c i = 0 ∨ c i = 1) (h2 : ∀ i, i < N → ∃ x y, a i = nI x ∧ 1 ≤ x ∧ x ≤ 9 ∧ b i = nI y ∧ y ≤ 9) : ZV (vLg V N a b c) := ⟨⟨h1, h2⟩, hV.2.1, hV.2.2.1, fun i hi => Or.inl rfl, fun j hj => absurd hj (Nat.not_lt_zero _), fun j f hj e => (by cases e), fun i hi => absurd hi (Nat.not_lt_zero _)⟩
theorem zlfN_le {s : Nat → Int32} {n : Nat} : zlfN s n ≤ 16 := zlc_le s (min n 64) 16
def vLf (V : zV) : zV := vLg V (zlfN (vsg V) (vs V)) (fun i => nI (zlcr (vsg V) (min (vs V) 64) i)) (fun i => nI (zlra (vsg V) (min (vs V) 64) i)) (fun i => nI (zlcu (vsg V) (min (vs V) 64) i))
def zlmf : List Nat := [0, 3, 5, 13, 14, 15, 16, 31, 53]
def zlmp : List Nat := [58, 59, 60, 63, 65, 66, 67]
def sp_mLoaf (b : Nat) (V : zV) : zq_Sp := fun args h Q => args = [.ref 56] ∧ b < 2147483648 ∧ MC b V h ∧ MT (vs V) (vsg V) h ∧
  (zlfP (vsg V) (vs V) = vs V → ∀ h', MC (b + 1) (vLf V) h' → MT 0 (vsg V) h' → zq_fm zlmf zlmp h h' → Q (some (.int (nI (zlfN (vsg V) (vs V))))) h') ∧
  (¬ zlfP (vsg V) (vs V) = vs V → ∀ h', MT 0 (vsg V) h' → zq_fm [0, 13, 14, 15, 16] [65, 66, 67] h h' → Q (some (.int (-1 - nI (zlfP (vsg V) (vs V))))) h')
def zmlk (b : Nat) (V : zV) (Q : zq_Q) (h : zq_H) : Prop := b < 2147483648 ∧ MC b V h ∧ vs V ≤ 80 ∧
  (zlfP (vsg V) (vs V) = vs V → ∀ h', MC (b + 1) (vLf V) h' → MT 0 (vsg V) h' → zq_fm zlmf zlmp h h' → Q (some (.int (nI (zlfN (vsg V) (vs V))))) h') ∧
  (¬ zlfP (vsg V) (vs V) = vs V → ∀ h', MT 0 (vsg V) h' → zq_fm [0, 13, 14, 15, 16] [65, 66, 67] h h' → Q (some (.int (-1 - nI (zlfP (vsg V) (vs V))))) h')
def I_mLf14 (b : Nat) (V : zV) (Q : zq_Q) (z : zq_H × Nat) : zq_P := fun ls st h => match z with
  | (h0, c) => ∃ s3 s4, ls = [some (.ref 56), some (.int (nI (vs V))), some (.int (nI c)), s3, s4] ∧ st = [] ∧ c ≤ 16 ∧ ME (vsg V) (min (vs V) 64) (zlfp (vsg V) (min (vs V) 64) c) h ∧ h.1 56 13 = nI 0 ∧ zlc (vsg V) (min (vs V) 64) c = c ∧ zlrow (vsg V) (min (vs V) 64) c 65 66 67 h ∧ zq_fm [0, 13, 14, 15, 16] [65, 66, 67] h0 h ∧ zmlk b V Q h0
def I_mLf98 (b : Nat) (V : zV) (Q : zq_Q) (z : zq_H × Nat) : zq_P := fun ls st h => match z with
  | (h0, t) => ∃ s3, ls = [some (.ref 56), some (.int (nI (vs V))), some (.int (nI (zlfN (vsg V) (vs V)))), s3, some (.int (nI t))] ∧ st = [] ∧ t ≤ zlfN (vsg V) (vs V) ∧ zlfP (vsg V) (vs V) = vs V ∧ h.1 56 3 = nI (zlfN (vsg V) (vs V)) ∧ MT 0 (vsg V) h ∧ zlrow (vsg V) (min (vs V) 64) (zlfN (vsg V) (vs V)) 65 66 67 h ∧ zlrow (vsg V) (min (vs V) 64) t 58 59 60 h ∧ (∀ i, i < t → h.1 63 i = -1) ∧ zq_fm [0, 3, 13, 14, 15, 16] zlmp h0 h ∧ zmlk b V Q h0
theorem zlcu_01 (s : Nat → Int32) (e i : Nat) : zlcu s e i = 0 ∨ zlcu s e i = 1 := by
  unfold zlcu
  split
  · exact Or.inr rfl
  · exact Or.inl rfl
theorem ok_mLoaf (b : Nat) (V : zV) : zq_M yX12_loaf cX12_loaf 5 (some .int) 1 6 (sp_mLoaf b V) := by
  refine mX12_loaf ok_mBegins (by decide) ok_among (by decide) ok_takesOf (by decide) ok_mTakes (by decide) ok_mFault (by decide) (fun z => 1000 + (20 - z.2)) (I_mLf14 b V) (fun z => 20 - z.2) (I_mLf98 b V) (fun args h Q hs => ?_) (fun Q z ls st h hi => ?_) (fun Q z ls st h hi => ?_)
  · obtain ⟨rfl, hb, hX, hT, k⟩ := hs
    have hn := hT.2.1
    have f0 : zq_fm [0] [] h (zq_setI h 56 0 0) := zq_fm_F zq_fm_rf (by decide)
    refine ⟨Nat.le_of_ble_eq_true rfl, ?_⟩
    simp only [xX12_loaf_0, zi_push, zi_iload, zi_lload, zi_aload, zi_istore, zi_astore, zi_lstore, zi_iinc, zi_i2, zi_i1, zi_idv, zi_l2, zi_ldv, zi_lsh, zi_i2l, zi_l2i, zi_lcmp, zi_dup, zi_dup2, zi_pop, zi_if1, zi_if2, zi_getI, zi_getL, zi_getR, zi_putI, zi_putZ, zi_putL, zi_aldI, zi_aldL, zi_astI, zi_astZ, zi_astL, zi_alen, zi_iret, zi_zret, zi_lret, zi_vret, zi_callV, zi_callS, zi_sw, zi_copyI, zi_copyL, zi_m2, zi_m1, zi_sval, zi_scod, zi_fmt, zi_balen, zi_bald, zi_bret, zi_callT, zq_nth, zq_put1, zq_put2, zq_clr, zq_nl, zq_tk, zq_ps, zq_sw, zq_l0, zq_a, zq_a1, List.length_cons, List.length_nil, List.nil_append, List.cons_append, List.append_nil, List.replicate, Nat.reduceAdd, Nat.reduceSub, Nat.reduceLeDiff, true_and, and_true, List.append_eq, List.cons.injEq, Value.int.injEq, Value.long.injEq, Value.ref.injEq, exists_and_left, exists_eq_left', and_assoc, zc_b, zc_0, zc_1, zc_10, zc_01, lg_cmp_ge, lg_cmp_le, lg_cmp_gt, lg_cmp_lt, lg_cmp_eq, zw_le, zw_lt, reduceIte, true_or, or_true, zw_g0, zw_l0, zw_g1, zw_l1, zw_g2, zw_l2, zw_g3, zw_l3, zw_g5, zw_l5, zw_g6, zw_l6, zw_g7, zw_l7, zw_g9, zw_l9, zw_g10, zw_l10, zw_g15, zw_l15, zw_g16, zw_l16, zw_g48, zw_l48, zw_g50, zw_l50, zw_g57, zw_l57, zw_g97, zw_l97, zw_g100, zw_l100, zw_g200, zw_l200, zw_g999, zw_l999, zw_g9999, zw_l9999]
    refine ⟨vs V, vsg V, 64, rfl, by decide, MT_fm hT f0 (by decide), fun h1 d1 e13 e16 f1 => ?_⟩
    simp only [zi_push, zi_iload, zi_lload, zi_aload, zi_istore, zi_astore, zi_lstore, zi_iinc, zi_i2, zi_i1, zi_idv, zi_l2, zi_ldv, zi_lsh, zi_i2l, zi_l2i, zi_lcmp, zi_dup, zi_dup2, zi_pop, zi_if1, zi_if2, zi_getI, zi_getL, zi_getR, zi_putI, zi_putZ, zi_putL, zi_aldI, zi_aldL, zi_astI, zi_astZ, zi_astL, zi_alen, zi_iret, zi_zret, zi_lret, zi_vret, zi_callV, zi_callS, zi_sw, zi_copyI, zi_copyL, zi_m2, zi_m1, zi_sval, zi_scod, zi_fmt, zi_balen, zi_bald, zi_bret, zi_callT, zq_nth, zq_put1, zq_put2, zq_clr, zq_nl, zq_tk, zq_ps, zq_sw, zq_l0, zq_a, zq_a1, List.length_cons, List.length_nil, List.nil_append, List.cons_append, List.append_nil, List.replicate, Nat.reduceAdd, Nat.reduceSub, Nat.reduceLeDiff, true_and, and_true, List.append_eq, List.cons.injEq, Value.int.injEq, Value.long.injEq, Value.ref.injEq, exists_and_left, exists_eq_left', and_assoc, zc_b, zc_0, zc_1, zc_10, zc_01, lg_cmp_ge, lg_cmp_le, lg_cmp_gt, lg_cmp_lt, lg_cmp_eq, zw_le, zw_lt, reduceIte, true_or, or_true, zw_g0, zw_l0, zw_g1, zw_l1, zw_g2, zw_l2, zw_g3, zw_l3, zw_g5, zw_l5, zw_g6, zw_l6, zw_g7, zw_l7, zw_g9, zw_l9, zw_g10, zw_l10, zw_g15, zw_l15, zw_g16, zw_l16, zw_g48, zw_l48, zw_g50, zw_l50, zw_g57, zw_l57, zw_g97, zw_l97, zw_g100, zw_l100, zw_g200, zw_l200, zw_g999, zw_l999, zw_g9999, zw_l9999]
    exact ⟨(h, 0), none, none, rfl, rfl, Nat.zero_le _, d1, e13, rfl, fun i hi => absurd hi (Nat.not_lt_zero _), zq_fm_t (zq_fm_w f0 (by decide)) f1 (by decide), hb, hX, hn, k⟩
  · obtain ⟨h0, c⟩ := z
    obtain ⟨s3, s4, rfl, rfl, hc, hD, e13, hz, hr, hf, hk9⟩ := hi
    have hk := hk9
    obtain ⟨hb, hX, hn, k1, k2⟩ := hk
    have hpe := hD.2.2.2.1
    have c16 : ((16 : Int32) ≤ nI c) = (c = 16) := zl_ge (n := 16) hc (by decide)
    have rng : ∀ p, p < min (vs V) 64 → 0 ≤ vsg V p ∧ vsg V p ≤ 255 := fun p hp => (hD.1 p (by omega)).2
    have ex : zlfN (vsg V) (vs V) = c → xX12_loaf_75 sp_mBegins sp_among sp_takesOf sp_mTakes sp_mFault (fun ls st h => ∃ b9 : zq_H × Nat, 1000 + (20 - b9.2) < 1000 + (20 - c) ∧ I_mLf14 b V Q b9 ls st h) (fun ls st h => ∃ b9 : zq_H × Nat, 20 - b9.2 < 1000 + (20 - c) ∧ I_mLf98 b V Q b9 ls st h) Q [some (.ref 56), some (.int (nI (vs V))), some (.int (nI c)), s3, s4] [] h := fun e => by
      have eP : zlfP (vsg V) (vs V) = zlfp (vsg V) (min (vs V) 64) c := by
        unfold zlfP
        rw [e]
      simp only [xX12_loaf_75, zi_push, zi_iload, zi_lload, zi_aload, zi_istore, zi_astore, zi_lstore, zi_iinc, zi_i2, zi_i1, zi_idv, zi_l2, zi_ldv, zi_lsh, zi_i2l, zi_l2i, zi_lcmp, zi_dup, zi_dup2, zi_pop, zi_if1, zi_if2, zi_getI, zi_getL, zi_getR, zi_putI, zi_putZ, zi_putL, zi_aldI, zi_aldL, zi_astI, zi_astZ, zi_astL, zi_alen, zi_iret, zi_zret, zi_lret, zi_vret, zi_callV, zi_callS, zi_sw, zi_copyI, zi_copyL, zi_m2, zi_m1, zi_sval, zi_scod, zi_fmt, zi_balen, zi_bald, zi_bret, zi_callT, zq_nth, zq_put1, zq_put2, zq_clr, zq_nl, zq_tk, zq_ps, zq_sw, zq_l0, zq_a, zq_a1, List.length_cons, List.length_nil, List.nil_append, List.cons_append, List.append_nil, List.replicate, Nat.reduceAdd, Nat.reduceSub, Nat.reduceLeDiff, true_and, and_true, List.append_eq, List.cons.injEq, Value.int.injEq, Value.long.injEq, Value.ref.injEq, exists_and_left, exists_eq_left', and_assoc, zc_b, zc_0, zc_1, zc_10, zc_01, lg_cmp_ge, lg_cmp_le, lg_cmp_gt, lg_cmp_lt, lg_cmp_eq, zw_le, zw_lt, reduceIte, true_or, or_true, zw_g0, zw_l0, zw_g1, zw_l1, zw_g2, zw_l2, zw_g3, zw_l3, zw_g5, zw_l5, zw_g6, zw_l6, zw_g7, zw_l7, zw_g9, zw_l9, zw_g10, zw_l10, zw_g15, zw_l15, zw_g16, zw_l16, zw_g48, zw_l48, zw_g50, zw_l50, zw_g57, zw_l57, zw_g97, zw_l97, zw_g100, zw_l100, zw_g200, zw_l200, zw_g999, zw_l999, zw_g9999, zw_l9999]
      refine ⟨vsg V, _, _, vs V, 64, 1, rfl, hD, rfl, hn, by decide, ?_⟩
      rw [zfault_eq rfl hpe, ← eP]
      have mt0 : MT 0 (vsg V) h := ⟨e13, Nat.zero_le _, hD.1⟩
      by_cases q : zlfP (vsg V) (vs V) = vs V
      · rw [if_pos ⟨by decide, q⟩]
        simp only [xX12_loaf_90, show ((0 : Int32) ≤ 0) = True from eq_true (by decide), not_true_eq_false, not_false_eq_true, forall_const, true_and, and_true, false_and, and_false, if_true, if_false, reduceIte, implies_true, and_self, ite_self, true_or, or_true, false_or, or_false, true_implies, false_implies, Classical.not_not, false_imp_iff, not_false_iff, zi_push, zi_iload, zi_lload, zi_aload, zi_istore, zi_astore, zi_lstore, zi_iinc, zi_i2, zi_i1, zi_idv, zi_l2, zi_ldv, zi_lsh, zi_i2l, zi_l2i, zi_lcmp, zi_dup, zi_dup2, zi_pop, zi_if1, zi_if2, zi_getI, zi_getL, zi_getR, zi_putI, zi_putZ, zi_putL, zi_aldI, zi_aldL, zi_astI, zi_astZ, zi_astL, zi_alen, zi_iret, zi_zret, zi_lret, zi_vret, zi_callV, zi_callS, zi_sw, zi_copyI, zi_copyL, zi_m2, zi_m1, zi_sval, zi_scod, zi_fmt, zi_balen, zi_bald, zi_bret, zi_callT, zq_nth, zq_put1, zq_put2, zq_clr, zq_nl, zq_tk, zq_ps, zq_sw, zq_l0, zq_a, zq_a1, List.length_cons, List.length_nil, List.nil_append, List.cons_append, List.append_nil, List.replicate, Nat.reduceAdd, Nat.reduceSub, Nat.reduceLeDiff, true_and, and_true, List.append_eq, List.cons.injEq, Value.int.injEq, Value.long.injEq, Value.ref.injEq, exists_and_left, exists_eq_left', and_assoc, zc_b, zc_0, zc_1, zc_10, zc_01, lg_cmp_ge, lg_cmp_le, lg_cmp_gt, lg_cmp_lt, lg_cmp_eq, zw_le, zw_lt, reduceIte, true_or, or_true, zw_g0, zw_l0, zw_g1, zw_l1, zw_g2, zw_l2, zw_g3, zw_l3, zw_g5, zw_l5, zw_g6, zw_l6, zw_g7, zw_l7, zw_g9, zw_l9, zw_g10, zw_l10, zw_g15, zw_l15, zw_g16, zw_l16, zw_g48, zw_l48, zw_g50, zw_l50, zw_g57, zw_l57, zw_g97, zw_l97, zw_g100, zw_l100, zw_g200, zw_l200, zw_g999, zw_l999, zw_g9999, zw_l9999]
        rw [← e]
        have g0 : zq_fm [3] [] h (zq_setI h 56 3 (nI (zlfN (vsg V) (vs V)))) := zq_fm_F zq_fm_rf (by decide)
        refine ⟨(h0, 0), by dsimp only; omega, _, rfl, rfl, Nat.zero_le _, q, by rw [zq_sI, if_pos ⟨rfl, rfl⟩], MT_fm mt0 g0 (by decide), fun i hi => ?_, fun i hi => absurd hi (Nat.not_lt_zero _), fun i hi => absurd hi (Nat.not_lt_zero _), zq_fm_t (zq_fm_w hf (by decide)) g0 (by decide), hk9⟩
        rw [zq_sI, if_neg (by omega), zq_sI, if_neg (by omega), zq_sI, if_neg (by omega)]
        exact hr i (by omega)
      · rw [if_neg (fun z => q z.2)]
        have e0 : (0 ≤ -1 - nI (zlfP (vsg V) (vs V))) = False := eq_false (zneg (by rw [eP]; omega))
        simp only [xX12_loaf_88, e0, not_true_eq_false, not_false_eq_true, forall_const, true_and, and_true, false_and, and_false, if_true, if_false, reduceIte, implies_true, and_self, ite_self, true_or, or_true, false_or, or_false, true_implies, false_implies, Classical.not_not, false_imp_iff, not_false_iff, zi_push, zi_iload, zi_lload, zi_aload, zi_istore, zi_astore, zi_lstore, zi_iinc, zi_i2, zi_i1, zi_idv, zi_l2, zi_ldv, zi_lsh, zi_i2l, zi_l2i, zi_lcmp, zi_dup, zi_dup2, zi_pop, zi_if1, zi_if2, zi_getI, zi_getL, zi_getR, zi_putI, zi_putZ, zi_putL, zi_aldI, zi_aldL, zi_astI, zi_astZ, zi_astL, zi_alen, zi_iret, zi_zret, zi_lret, zi_vret, zi_callV, zi_callS, zi_sw, zi_copyI, zi_copyL, zi_m2, zi_m1, zi_sval, zi_scod, zi_fmt, zi_balen, zi_bald, zi_bret, zi_callT, zq_nth, zq_put1, zq_put2, zq_clr, zq_nl, zq_tk, zq_ps, zq_sw, zq_l0, zq_a, zq_a1, List.length_cons, List.length_nil, List.nil_append, List.cons_append, List.append_nil, List.replicate, Nat.reduceAdd, Nat.reduceSub, Nat.reduceLeDiff, true_and, and_true, List.append_eq, List.cons.injEq, Value.int.injEq, Value.long.injEq, Value.ref.injEq, exists_and_left, exists_eq_left', and_assoc, zc_b, zc_0, zc_1, zc_10, zc_01, lg_cmp_ge, lg_cmp_le, lg_cmp_gt, lg_cmp_lt, lg_cmp_eq, zw_le, zw_lt, reduceIte, true_or, or_true, zw_g0, zw_l0, zw_g1, zw_l1, zw_g2, zw_l2, zw_g3, zw_l3, zw_g5, zw_l5, zw_g6, zw_l6, zw_g7, zw_l7, zw_g9, zw_l9, zw_g10, zw_l10, zw_g15, zw_l15, zw_g16, zw_l16, zw_g48, zw_l48, zw_g50, zw_l50, zw_g57, zw_l57, zw_g97, zw_l97, zw_g100, zw_l100, zw_g200, zw_l200, zw_g999, zw_l999, zw_g9999, zw_l9999]
        exact k2 q h mt0 hf
    simp only [xX12_loaf_14, xX12_loaf_20, c16, zi_push, zi_iload, zi_lload, zi_aload, zi_istore, zi_astore, zi_lstore, zi_iinc, zi_i2, zi_i1, zi_idv, zi_l2, zi_ldv, zi_lsh, zi_i2l, zi_l2i, zi_lcmp, zi_dup, zi_dup2, zi_pop, zi_if1, zi_if2, zi_getI, zi_getL, zi_getR, zi_putI, zi_putZ, zi_putL, zi_aldI, zi_aldL, zi_astI, zi_astZ, zi_astL, zi_alen, zi_iret, zi_zret, zi_lret, zi_vret, zi_callV, zi_callS, zi_sw, zi_copyI, zi_copyL, zi_m2, zi_m1, zi_sval, zi_scod, zi_fmt, zi_balen, zi_bald, zi_bret, zi_callT, zq_nth, zq_put1, zq_put2, zq_clr, zq_nl, zq_tk, zq_ps, zq_sw, zq_l0, zq_a, zq_a1, List.length_cons, List.length_nil, List.nil_append, List.cons_append, List.append_nil, List.replicate, Nat.reduceAdd, Nat.reduceSub, Nat.reduceLeDiff, true_and, and_true, List.append_eq, List.cons.injEq, Value.int.injEq, Value.long.injEq, Value.ref.injEq, exists_and_left, exists_eq_left', and_assoc, zc_b, zc_0, zc_1, zc_10, zc_01, lg_cmp_ge, lg_cmp_le, lg_cmp_gt, lg_cmp_lt, lg_cmp_eq, zw_le, zw_lt, reduceIte, true_or, or_true, zw_g0, zw_l0, zw_g1, zw_l1, zw_g2, zw_l2, zw_g3, zw_l3, zw_g5, zw_l5, zw_g6, zw_l6, zw_g7, zw_l7, zw_g9, zw_l9, zw_g10, zw_l10, zw_g15, zw_l15, zw_g16, zw_l16, zw_g48, zw_l48, zw_g50, zw_l50, zw_g57, zw_l57, zw_g97, zw_l97, zw_g100, zw_l100, zw_g200, zw_l200, zw_g999, zw_l999, zw_g9999, zw_l9999]
    refine ⟨fun q => ?_, fun q => ?_⟩
    · subst q
      exact ex hz
    · obtain ⟨z1, z2⟩ := zds0 (e := min (vs V) 64) (p := zlfp (vsg V) (min (vs V) 64) c) (rng _)
      refine ⟨vsg V, _, _, 0, rfl, by decide, hD, fun q1 => ?_, fun q1 => ?_⟩
      · have eN1 : zlc (vsg V) (min (vs V) 64) (c + 1) = c + 1 := by rw [zlc, if_pos ⟨hz, z1.mp q1⟩]
        have v16 : vp_in (nI c) 16 = True := eq_true (vp_in_nI (by omega) (by decide))
        have ci := nI_clamp (show c < 2 ^ 31 by omega)
        have lz : zsl8 0 = 9 := rfl
        have cn : (nI (zix (zsb 0) (vsg V (zlfp (vsg V) (min (vs V) 64) c))) < 0) = False := eq_false (nI_pos (by have := q1.2; omega))
        simp only [cn, xX12_loaf_29, not_true_eq_false, not_false_eq_true, forall_const, true_and, and_true, false_and, and_false, if_true, if_false, reduceIte, implies_true, and_self, ite_self, true_or, or_true, false_or, or_false, true_implies, false_implies, Classical.not_not, false_imp_iff, not_false_iff, zi_push, zi_iload, zi_lload, zi_aload, zi_istore, zi_astore, zi_lstore, zi_iinc, zi_i2, zi_i1, zi_idv, zi_l2, zi_ldv, zi_lsh, zi_i2l, zi_l2i, zi_lcmp, zi_dup, zi_dup2, zi_pop, zi_if1, zi_if2, zi_getI, zi_getL, zi_getR, zi_putI, zi_putZ, zi_putL, zi_aldI, zi_aldL, zi_astI, zi_astZ, zi_astL, zi_alen, zi_iret, zi_zret, zi_lret, zi_vret, zi_callV, zi_callS, zi_sw, zi_copyI, zi_copyL, zi_m2, zi_m1, zi_sval, zi_scod, zi_fmt, zi_balen, zi_bald, zi_bret, zi_callT, zq_nth, zq_put1, zq_put2, zq_clr, zq_nl, zq_tk, zq_ps, zq_sw, zq_l0, zq_a, zq_a1, List.length_cons, List.length_nil, List.nil_append, List.cons_append, List.append_nil, List.replicate, Nat.reduceAdd, Nat.reduceSub, Nat.reduceLeDiff, true_and, and_true, List.append_eq, List.cons.injEq, Value.int.injEq, Value.long.injEq, Value.ref.injEq, exists_and_left, exists_eq_left', and_assoc, zc_b, zc_0, zc_1, zc_10, zc_01, lg_cmp_ge, lg_cmp_le, lg_cmp_gt, lg_cmp_lt, lg_cmp_eq, zw_le, zw_lt, reduceIte, true_or, or_true, zw_g0, zw_l0, zw_g1, zw_l1, zw_g2, zw_l2, zw_g3, zw_l3, zw_g5, zw_l5, zw_g6, zw_l6, zw_g7, zw_l7, zw_g9, zw_l9, zw_g10, zw_l10, zw_g15, zw_l15, zw_g16, zw_l16, zw_g48, zw_l48, zw_g50, zw_l50, zw_g57, zw_l57, zw_g97, zw_l97, zw_g100, zw_l100, zw_g200, zw_l200, zw_g999, zw_l999, zw_g9999, zw_l9999]
        first
          | refine ⟨Nat.le_of_ble_eq_true rfl, vsg V, _, _, 0, rfl, by decide, hD, fun _ h1 d1 f1 => ?_, fun y => absurd q1 y⟩
          | refine ⟨vsg V, _, _, 0, rfl, by decide, hD, fun _ h1 d1 f1 => ?_, fun y => absurd q1 y⟩
        have f1w := zq_fm_t hf f1 (by decide)
        simp only [z2 q1, v16, ci, not_true_eq_false, not_false_eq_true, forall_const, true_and, and_true, false_and, and_false, if_true, if_false, reduceIte, implies_true, and_self, ite_self, true_or, or_true, false_or, or_false, true_implies, false_implies, Classical.not_not, false_imp_iff, not_false_iff, zi_push, zi_iload, zi_lload, zi_aload, zi_istore, zi_astore, zi_lstore, zi_iinc, zi_i2, zi_i1, zi_idv, zi_l2, zi_ldv, zi_lsh, zi_i2l, zi_l2i, zi_lcmp, zi_dup, zi_dup2, zi_pop, zi_if1, zi_if2, zi_getI, zi_getL, zi_getR, zi_putI, zi_putZ, zi_putL, zi_aldI, zi_aldL, zi_astI, zi_astZ, zi_astL, zi_alen, zi_iret, zi_zret, zi_lret, zi_vret, zi_callV, zi_callS, zi_sw, zi_copyI, zi_copyL, zi_m2, zi_m1, zi_sval, zi_scod, zi_fmt, zi_balen, zi_bald, zi_bret, zi_callT, zq_nth, zq_put1, zq_put2, zq_clr, zq_nl, zq_tk, zq_ps, zq_sw, zq_l0, zq_a, zq_a1, List.length_cons, List.length_nil, List.nil_append, List.cons_append, List.append_nil, List.replicate, Nat.reduceAdd, Nat.reduceSub, Nat.reduceLeDiff, true_and, and_true, List.append_eq, List.cons.injEq, Value.int.injEq, Value.long.injEq, Value.ref.injEq, exists_and_left, exists_eq_left', and_assoc, zc_b, zc_0, zc_1, zc_10, zc_01, lg_cmp_ge, lg_cmp_le, lg_cmp_gt, lg_cmp_lt, lg_cmp_eq, zw_le, zw_lt, reduceIte, true_or, or_true, zw_g0, zw_l0, zw_g1, zw_l1, zw_g2, zw_l2, zw_g3, zw_l3, zw_g5, zw_l5, zw_g6, zw_l6, zw_g7, zw_l7, zw_g9, zw_l9, zw_g10, zw_l10, zw_g15, zw_l15, zw_g16, zw_l16, zw_g48, zw_l48, zw_g50, zw_l50, zw_g57, zw_l57, zw_g97, zw_l97, zw_g100, zw_l100, zw_g200, zw_l200, zw_g999, zw_l999, zw_g9999, zw_l9999]
        have step : ∀ (y : Nat) (h2 : zq_H), y = zlra (vsg V) (min (vs V) 64) c → ME (vsg V) (min (vs V) 64) (zlfL (vsg V) (min (vs V) 64) (zlfp (vsg V) (min (vs V) 64) c + 1)) h2 → zq_fm [14] [] (zq_setI h1 65 c (nI (zdv (vsg V) (zlfp (vsg V) (min (vs V) 64) c)))) h2 → ∀ (u : Nat) (h3 : zq_H), u = zlcu (vsg V) (min (vs V) 64) c → ME (vsg V) (min (vs V) 64) (zlfp (vsg V) (min (vs V) 64) (c + 1)) h3 → zq_fm [14] [] (zq_setI h2 66 c (nI y)) h3 → ∃ b9 : zq_H × Nat, 1000 + (20 - b9.2) < 1000 + (20 - c) ∧ I_mLf14 b V Q b9 [some (.ref 56), some (.int (nI (vs V))), some (.int (nI (c + 1))), s3, s4] [] (zq_setI h3 67 c (nI u)) := by
          intro y h2 ey d2 f2 u h3 eu d3 f3
          refine ⟨(h0, c + 1), by dsimp only; omega, s3, s4, rfl, rfl, by omega, ME_fm d3 (zq_fm_I (fs := []) (ps := [67]) zq_fm_rf (by decide)) (by decide), ?_, eN1, fun i hi => ?_, zq_fm_I (zq_fm_t (zq_fm_I (zq_fm_t (zq_fm_I f1w (by decide)) f2 (by decide)) (by decide)) f3 (by decide)) (by decide), hk9⟩
          · rw [zq_sI, if_neg (by omega), (f3.2 13 (by decide)).1, zq_sI, if_neg (by omega), (f2.2 13 (by decide)).1, zq_sI, if_neg (by omega), (f1.2 13 (by decide)).1]
            exact e13
          · rw [zq_sI, if_neg (by omega), zq_sI, if_neg (by omega), (f3.1 65 (by decide) (by decide)).1, (f3.1 66 (by decide) (by decide)).1, zq_sI, if_neg (by omega), (f2.1 65 (by decide) (by decide)).1]
            by_cases y3 : i = c
            · subst y3
              simp only [zq_sI, and_self, if_true]
              exact ⟨rfl, by rw [ey], by rw [eu]⟩
            · simp only [zq_sI, y3, and_false, if_false]
              rw [(f3.1 67 (by decide) (by decide)).1, (f2.1 66 (by decide) (by decide)).1]
              simp only [zq_sI, y3, and_false, if_false]
              rw [(f2.1 67 (by decide) (by decide)).1]
              simp only [zq_sI, y3, and_false, if_false]
              rw [(f1.1 65 (by decide) (by decide)).1, (f1.1 66 (by decide) (by decide)).1, (f1.1 67 (by decide) (by decide)).1]
              exact hr i (by omega)
        have d1b : ME (vsg V) (min (vs V) 64) (zlfp (vsg V) (min (vs V) 64) c + 1) (zq_setI h1 65 c (nI (zdv (vsg V) (zlfp (vsg V) (min (vs V) 64) c)))) := ME_fm d1 (zq_fm_I (fs := []) (ps := [65]) zq_fm_rf (by decide)) (by decide)
        obtain ⟨w1, w2⟩ := zds1 (e := min (vs V) 64) (p := zlfp (vsg V) (min (vs V) 64) c + 1) (rng _)
        have tail : ∀ (y : Nat) (h2 : zq_H), y = zlra (vsg V) (min (vs V) 64) c → ME (vsg V) (min (vs V) 64) (zlfL (vsg V) (min (vs V) 64) (zlfp (vsg V) (min (vs V) 64) c + 1)) h2 → zq_fm [14] [] (zq_setI h1 65 c (nI (zdv (vsg V) (zlfp (vsg V) (min (vs V) 64) c)))) h2 → sp_mTakes [.ref 56, .int 42] (zq_setI h2 66 c (nI y)) (fun r h' => ∃ u : Nat, r = some (.int (nI u)) ∧ (u = 0 ∨ u = 1) ∧ ∃ b9 : zq_H × Nat, 1000 + (20 - b9.2) < 1000 + (20 - c) ∧ I_mLf14 b V Q b9 [some (.ref 56), some (.int (nI (vs V))), some (.int (nI (c + 1))), s3, s4] [] (zq_setI h' 67 c (nI u))) := by
          intro y h2 ey d2 f2
          have d2b : ME (vsg V) (min (vs V) 64) (zlfL (vsg V) (min (vs V) 64) (zlfp (vsg V) (min (vs V) 64) c + 1)) (zq_setI h2 66 c (nI y)) := ME_fm d2 (zq_fm_I (fs := []) (ps := [66]) zq_fm_rf (by decide)) (by decide)
          refine ⟨vsg V, _, _, 42, rfl, by decide, d2b, fun q4 h3 d3 f3 => ⟨1, rfl, Or.inr rfl, ?_⟩, fun q4 => ⟨0, rfl, Or.inl rfl, ?_⟩⟩
          · have eu : 1 = zlcu (vsg V) (min (vs V) 64) c := (if_pos q4).symm
            have ep : zlfp (vsg V) (min (vs V) 64) (c + 1) = zlfL (vsg V) (min (vs V) 64) (zlfp (vsg V) (min (vs V) 64) c + 1) + 1 := if_pos q4
            exact step y h2 ey d2 f2 1 h3 eu (by rw [ep]; exact d3) f3
          · have eu : 0 = zlcu (vsg V) (min (vs V) 64) c := (if_neg q4).symm
            have ep : zlfp (vsg V) (min (vs V) 64) (c + 1) = zlfL (vsg V) (min (vs V) 64) (zlfp (vsg V) (min (vs V) 64) c + 1) := if_neg q4
            exact step y h2 ey d2 f2 0 _ eu (by rw [ep]; exact d2b) zq_fm_rf
        have mono : ∀ {args : List Value} {h : zq_H} {Q1 Q2 : zq_Q}, sp_mTakes args h Q1 → (∀ r h', Q1 r h' → Q2 r h') → sp_mTakes args h Q2 := fun ⟨s9, e9, p9, w9, x1, x2, x3, x4, x5⟩ m => ⟨s9, e9, p9, w9, x1, x2, x3, fun y h' d f => m _ _ (x4 y h' d f), fun y => m _ _ (x5 y)⟩
        first
          | refine ⟨Nat.le_of_ble_eq_true rfl, vsg V, _, _, 1, rfl, by decide, d1b, fun q3 h2 d2 f2 => ?_, fun q3 => ?_⟩
          | refine ⟨vsg V, _, _, 1, rfl, by decide, d1b, fun q3 h2 d2 f2 => ?_, fun q3 => ?_⟩
        · have ey : zlv (vsg V) (zlfp (vsg V) (min (vs V) 64) c + 1) + 1 = zlra (vsg V) (min (vs V) 64) c := (if_pos (w1.mp q3)).symm
          have tl := tail _ h2 ey (by unfold zlfL; rw [if_pos (w1.mp q3)]; exact d2) f2
          simp only [w2 q3, v16, ci, not_true_eq_false, not_false_eq_true, forall_const, true_and, and_true, false_and, and_false, if_true, if_false, reduceIte, implies_true, and_self, ite_self, true_or, or_true, false_or, or_false, true_implies, false_implies, Classical.not_not, false_imp_iff, not_false_iff, zi_push, zi_iload, zi_lload, zi_aload, zi_istore, zi_astore, zi_lstore, zi_iinc, zi_i2, zi_i1, zi_idv, zi_l2, zi_ldv, zi_lsh, zi_i2l, zi_l2i, zi_lcmp, zi_dup, zi_dup2, zi_pop, zi_if1, zi_if2, zi_getI, zi_getL, zi_getR, zi_putI, zi_putZ, zi_putL, zi_aldI, zi_aldL, zi_astI, zi_astZ, zi_astL, zi_alen, zi_iret, zi_zret, zi_lret, zi_vret, zi_callV, zi_callS, zi_sw, zi_copyI, zi_copyL, zi_m2, zi_m1, zi_sval, zi_scod, zi_fmt, zi_balen, zi_bald, zi_bret, zi_callT, zq_nth, zq_put1, zq_put2, zq_clr, zq_nl, zq_tk, zq_ps, zq_sw, zq_l0, zq_a, zq_a1, List.length_cons, List.length_nil, List.nil_append, List.cons_append, List.append_nil, List.replicate, Nat.reduceAdd, Nat.reduceSub, Nat.reduceLeDiff, true_and, and_true, List.append_eq, List.cons.injEq, Value.int.injEq, Value.long.injEq, Value.ref.injEq, exists_and_left, exists_eq_left', and_assoc, zc_b, zc_0, zc_1, zc_10, zc_01, lg_cmp_ge, lg_cmp_le, lg_cmp_gt, lg_cmp_lt, lg_cmp_eq, zw_le, zw_lt, reduceIte, true_or, or_true, zw_g0, zw_l0, zw_g1, zw_l1, zw_g2, zw_l2, zw_g3, zw_l3, zw_g5, zw_l5, zw_g6, zw_l6, zw_g7, zw_l7, zw_g9, zw_l9, zw_g10, zw_l10, zw_g15, zw_l15, zw_g16, zw_l16, zw_g48, zw_l48, zw_g50, zw_l50, zw_g57, zw_l57, zw_g97, zw_l97, zw_g100, zw_l100, zw_g200, zw_l200, zw_g999, zw_l999, zw_g9999, zw_l9999]
          refine mono tl (fun r h' ⟨u, er, hu, hb9⟩ => ?_)
          subst er
          rcases hu with rfl | rfl
          · simp only [v16, ci, nI_1, not_true_eq_false, not_false_eq_true, forall_const, true_and, and_true, false_and, and_false, if_true, if_false, reduceIte, implies_true, and_self, ite_self, true_or, or_true, false_or, or_false, true_implies, false_implies, Classical.not_not, false_imp_iff, not_false_iff, zi_push, zi_iload, zi_lload, zi_aload, zi_istore, zi_astore, zi_lstore, zi_iinc, zi_i2, zi_i1, zi_idv, zi_l2, zi_ldv, zi_lsh, zi_i2l, zi_l2i, zi_lcmp, zi_dup, zi_dup2, zi_pop, zi_if1, zi_if2, zi_getI, zi_getL, zi_getR, zi_putI, zi_putZ, zi_putL, zi_aldI, zi_aldL, zi_astI, zi_astZ, zi_astL, zi_alen, zi_iret, zi_zret, zi_lret, zi_vret, zi_callV, zi_callS, zi_sw, zi_copyI, zi_copyL, zi_m2, zi_m1, zi_sval, zi_scod, zi_fmt, zi_balen, zi_bald, zi_bret, zi_callT, zq_nth, zq_put1, zq_put2, zq_clr, zq_nl, zq_tk, zq_ps, zq_sw, zq_l0, zq_a, zq_a1, List.length_cons, List.length_nil, List.nil_append, List.cons_append, List.append_nil, List.replicate, Nat.reduceAdd, Nat.reduceSub, Nat.reduceLeDiff, true_and, and_true, List.append_eq, List.cons.injEq, Value.int.injEq, Value.long.injEq, Value.ref.injEq, exists_and_left, exists_eq_left', and_assoc, zc_b, zc_0, zc_1, zc_10, zc_01, lg_cmp_ge, lg_cmp_le, lg_cmp_gt, lg_cmp_lt, lg_cmp_eq, zw_le, zw_lt, reduceIte, true_or, or_true, zw_g0, zw_l0, zw_g1, zw_l1, zw_g2, zw_l2, zw_g3, zw_l3, zw_g5, zw_l5, zw_g6, zw_l6, zw_g7, zw_l7, zw_g9, zw_l9, zw_g10, zw_l10, zw_g15, zw_l15, zw_g16, zw_l16, zw_g48, zw_l48, zw_g50, zw_l50, zw_g57, zw_l57, zw_g97, zw_l97, zw_g100, zw_l100, zw_g200, zw_l200, zw_g999, zw_l999, zw_g9999, zw_l9999]
            exact ⟨Or.inl rfl, hb9⟩
          · simp only [v16, ci, nI_1, not_true_eq_false, not_false_eq_true, forall_const, true_and, and_true, false_and, and_false, if_true, if_false, reduceIte, implies_true, and_self, ite_self, true_or, or_true, false_or, or_false, true_implies, false_implies, Classical.not_not, false_imp_iff, not_false_iff, zi_push, zi_iload, zi_lload, zi_aload, zi_istore, zi_astore, zi_lstore, zi_iinc, zi_i2, zi_i1, zi_idv, zi_l2, zi_ldv, zi_lsh, zi_i2l, zi_l2i, zi_lcmp, zi_dup, zi_dup2, zi_pop, zi_if1, zi_if2, zi_getI, zi_getL, zi_getR, zi_putI, zi_putZ, zi_putL, zi_aldI, zi_aldL, zi_astI, zi_astZ, zi_astL, zi_alen, zi_iret, zi_zret, zi_lret, zi_vret, zi_callV, zi_callS, zi_sw, zi_copyI, zi_copyL, zi_m2, zi_m1, zi_sval, zi_scod, zi_fmt, zi_balen, zi_bald, zi_bret, zi_callT, zq_nth, zq_put1, zq_put2, zq_clr, zq_nl, zq_tk, zq_ps, zq_sw, zq_l0, zq_a, zq_a1, List.length_cons, List.length_nil, List.nil_append, List.cons_append, List.append_nil, List.replicate, Nat.reduceAdd, Nat.reduceSub, Nat.reduceLeDiff, true_and, and_true, List.append_eq, List.cons.injEq, Value.int.injEq, Value.long.injEq, Value.ref.injEq, exists_and_left, exists_eq_left', and_assoc, zc_b, zc_0, zc_1, zc_10, zc_01, lg_cmp_ge, lg_cmp_le, lg_cmp_gt, lg_cmp_lt, lg_cmp_eq, zw_le, zw_lt, reduceIte, true_or, or_true, zw_g0, zw_l0, zw_g1, zw_l1, zw_g2, zw_l2, zw_g3, zw_l3, zw_g5, zw_l5, zw_g6, zw_l6, zw_g7, zw_l7, zw_g9, zw_l9, zw_g10, zw_l10, zw_g15, zw_l15, zw_g16, zw_l16, zw_g48, zw_l48, zw_g50, zw_l50, zw_g57, zw_l57, zw_g97, zw_l97, zw_g100, zw_l100, zw_g200, zw_l200, zw_g999, zw_l999, zw_g9999, zw_l9999]
            exact ⟨Or.inr rfl, hb9⟩
        · have ey : 0 = zlra (vsg V) (min (vs V) 64) c := (if_neg (fun z => q3 (w1.mpr z))).symm
          have tl := tail 0 _ ey (by unfold zlfL; rw [if_neg (fun z => q3 (w1.mpr z))]; exact d1b) zq_fm_rf
          simp only [show (1 : Int32) + -1 = nI 0 from by decide, v16, ci, not_true_eq_false, not_false_eq_true, forall_const, true_and, and_true, false_and, and_false, if_true, if_false, reduceIte, implies_true, and_self, ite_self, true_or, or_true, false_or, or_false, true_implies, false_implies, Classical.not_not, false_imp_iff, not_false_iff, zi_push, zi_iload, zi_lload, zi_aload, zi_istore, zi_astore, zi_lstore, zi_iinc, zi_i2, zi_i1, zi_idv, zi_l2, zi_ldv, zi_lsh, zi_i2l, zi_l2i, zi_lcmp, zi_dup, zi_dup2, zi_pop, zi_if1, zi_if2, zi_getI, zi_getL, zi_getR, zi_putI, zi_putZ, zi_putL, zi_aldI, zi_aldL, zi_astI, zi_astZ, zi_astL, zi_alen, zi_iret, zi_zret, zi_lret, zi_vret, zi_callV, zi_callS, zi_sw, zi_copyI, zi_copyL, zi_m2, zi_m1, zi_sval, zi_scod, zi_fmt, zi_balen, zi_bald, zi_bret, zi_callT, zq_nth, zq_put1, zq_put2, zq_clr, zq_nl, zq_tk, zq_ps, zq_sw, zq_l0, zq_a, zq_a1, List.length_cons, List.length_nil, List.nil_append, List.cons_append, List.append_nil, List.replicate, Nat.reduceAdd, Nat.reduceSub, Nat.reduceLeDiff, true_and, and_true, List.append_eq, List.cons.injEq, Value.int.injEq, Value.long.injEq, Value.ref.injEq, exists_and_left, exists_eq_left', and_assoc, zc_b, zc_0, zc_1, zc_10, zc_01, lg_cmp_ge, lg_cmp_le, lg_cmp_gt, lg_cmp_lt, lg_cmp_eq, zw_le, zw_lt, reduceIte, true_or, or_true, zw_g0, zw_l0, zw_g1, zw_l1, zw_g2, zw_l2, zw_g3, zw_l3, zw_g5, zw_l5, zw_g6, zw_l6, zw_g7, zw_l7, zw_g9, zw_l9, zw_g10, zw_l10, zw_g15, zw_l15, zw_g16, zw_l16, zw_g48, zw_l48, zw_g50, zw_l50, zw_g57, zw_l57, zw_g97, zw_l97, zw_g100, zw_l100, zw_g200, zw_l200, zw_g999, zw_l999, zw_g9999, zw_l9999]
          refine mono tl (fun r h' ⟨u, er, hu, hb9⟩ => ?_)
          subst er
          rcases hu with rfl | rfl
          · simp only [v16, ci, nI_1, not_true_eq_false, not_false_eq_true, forall_const, true_and, and_true, false_and, and_false, if_true, if_false, reduceIte, implies_true, and_self, ite_self, true_or, or_true, false_or, or_false, true_implies, false_implies, Classical.not_not, false_imp_iff, not_false_iff, zi_push, zi_iload, zi_lload, zi_aload, zi_istore, zi_astore, zi_lstore, zi_iinc, zi_i2, zi_i1, zi_idv, zi_l2, zi_ldv, zi_lsh, zi_i2l, zi_l2i, zi_lcmp, zi_dup, zi_dup2, zi_pop, zi_if1, zi_if2, zi_getI, zi_getL, zi_getR, zi_putI, zi_putZ, zi_putL, zi_aldI, zi_aldL, zi_astI, zi_astZ, zi_astL, zi_alen, zi_iret, zi_zret, zi_lret, zi_vret, zi_callV, zi_callS, zi_sw, zi_copyI, zi_copyL, zi_m2, zi_m1, zi_sval, zi_scod, zi_fmt, zi_balen, zi_bald, zi_bret, zi_callT, zq_nth, zq_put1, zq_put2, zq_clr, zq_nl, zq_tk, zq_ps, zq_sw, zq_l0, zq_a, zq_a1, List.length_cons, List.length_nil, List.nil_append, List.cons_append, List.append_nil, List.replicate, Nat.reduceAdd, Nat.reduceSub, Nat.reduceLeDiff, true_and, and_true, List.append_eq, List.cons.injEq, Value.int.injEq, Value.long.injEq, Value.ref.injEq, exists_and_left, exists_eq_left', and_assoc, zc_b, zc_0, zc_1, zc_10, zc_01, lg_cmp_ge, lg_cmp_le, lg_cmp_gt, lg_cmp_lt, lg_cmp_eq, zw_le, zw_lt, reduceIte, true_or, or_true, zw_g0, zw_l0, zw_g1, zw_l1, zw_g2, zw_l2, zw_g3, zw_l3, zw_g5, zw_l5, zw_g6, zw_l6, zw_g7, zw_l7, zw_g9, zw_l9, zw_g10, zw_l10, zw_g15, zw_l15, zw_g16, zw_l16, zw_g48, zw_l48, zw_g50, zw_l50, zw_g57, zw_l57, zw_g97, zw_l97, zw_g100, zw_l100, zw_g200, zw_l200, zw_g999, zw_l999, zw_g9999, zw_l9999]
            exact ⟨Or.inl rfl, hb9⟩
          · simp only [v16, ci, nI_1, not_true_eq_false, not_false_eq_true, forall_const, true_and, and_true, false_and, and_false, if_true, if_false, reduceIte, implies_true, and_self, ite_self, true_or, or_true, false_or, or_false, true_implies, false_implies, Classical.not_not, false_imp_iff, not_false_iff, zi_push, zi_iload, zi_lload, zi_aload, zi_istore, zi_astore, zi_lstore, zi_iinc, zi_i2, zi_i1, zi_idv, zi_l2, zi_ldv, zi_lsh, zi_i2l, zi_l2i, zi_lcmp, zi_dup, zi_dup2, zi_pop, zi_if1, zi_if2, zi_getI, zi_getL, zi_getR, zi_putI, zi_putZ, zi_putL, zi_aldI, zi_aldL, zi_astI, zi_astZ, zi_astL, zi_alen, zi_iret, zi_zret, zi_lret, zi_vret, zi_callV, zi_callS, zi_sw, zi_copyI, zi_copyL, zi_m2, zi_m1, zi_sval, zi_scod, zi_fmt, zi_balen, zi_bald, zi_bret, zi_callT, zq_nth, zq_put1, zq_put2, zq_clr, zq_nl, zq_tk, zq_ps, zq_sw, zq_l0, zq_a, zq_a1, List.length_cons, List.length_nil, List.nil_append, List.cons_append, List.append_nil, List.replicate, Nat.reduceAdd, Nat.reduceSub, Nat.reduceLeDiff, true_and, and_true, List.append_eq, List.cons.injEq, Value.int.injEq, Value.long.injEq, Value.ref.injEq, exists_and_left, exists_eq_left', and_assoc, zc_b, zc_0, zc_1, zc_10, zc_01, lg_cmp_ge, lg_cmp_le, lg_cmp_gt, lg_cmp_lt, lg_cmp_eq, zw_le, zw_lt, reduceIte, true_or, or_true, zw_g0, zw_l0, zw_g1, zw_l1, zw_g2, zw_l2, zw_g3, zw_l3, zw_g5, zw_l5, zw_g6, zw_l6, zw_g7, zw_l7, zw_g9, zw_l9, zw_g10, zw_l10, zw_g15, zw_l15, zw_g16, zw_l16, zw_g48, zw_l48, zw_g50, zw_l50, zw_g57, zw_l57, zw_g97, zw_l97, zw_g100, zw_l100, zw_g200, zw_l200, zw_g999, zw_l999, zw_g9999, zw_l9999]
            exact ⟨Or.inr rfl, hb9⟩
      · have nD : ¬ zlD (vsg V) (min (vs V) 64) (zlfp (vsg V) (min (vs V) 64) c) := fun y => q1 (z1.mpr y)
        have eN := zlc_stop hz nD (16 - c)
        rw [show c + (16 - c) = 16 by omega] at eN
        simp only [show ((-1 : Int32) < 0) = True from eq_true (by decide), not_true_eq_false, not_false_eq_true, forall_const, true_and, and_true, false_and, and_false, if_true, if_false, reduceIte, implies_true, and_self, ite_self, true_or, or_true, false_or, or_false, true_implies, false_implies, Classical.not_not, false_imp_iff, not_false_iff, zi_push, zi_iload, zi_lload, zi_aload, zi_istore, zi_astore, zi_lstore, zi_iinc, zi_i2, zi_i1, zi_idv, zi_l2, zi_ldv, zi_lsh, zi_i2l, zi_l2i, zi_lcmp, zi_dup, zi_dup2, zi_pop, zi_if1, zi_if2, zi_getI, zi_getL, zi_getR, zi_putI, zi_putZ, zi_putL, zi_aldI, zi_aldL, zi_astI, zi_astZ, zi_astL, zi_alen, zi_iret, zi_zret, zi_lret, zi_vret, zi_callV, zi_callS, zi_sw, zi_copyI, zi_copyL, zi_m2, zi_m1, zi_sval, zi_scod, zi_fmt, zi_balen, zi_bald, zi_bret, zi_callT, zq_nth, zq_put1, zq_put2, zq_clr, zq_nl, zq_tk, zq_ps, zq_sw, zq_l0, zq_a, zq_a1, List.length_cons, List.length_nil, List.nil_append, List.cons_append, List.append_nil, List.replicate, Nat.reduceAdd, Nat.reduceSub, Nat.reduceLeDiff, true_and, and_true, List.append_eq, List.cons.injEq, Value.int.injEq, Value.long.injEq, Value.ref.injEq, exists_and_left, exists_eq_left', and_assoc, zc_b, zc_0, zc_1, zc_10, zc_01, lg_cmp_ge, lg_cmp_le, lg_cmp_gt, lg_cmp_lt, lg_cmp_eq, zw_le, zw_lt, reduceIte, true_or, or_true, zw_g0, zw_l0, zw_g1, zw_l1, zw_g2, zw_l2, zw_g3, zw_l3, zw_g5, zw_l5, zw_g6, zw_l6, zw_g7, zw_l7, zw_g9, zw_l9, zw_g10, zw_l10, zw_g15, zw_l15, zw_g16, zw_l16, zw_g48, zw_l48, zw_g50, zw_l50, zw_g57, zw_l57, zw_g97, zw_l97, zw_g100, zw_l100, zw_g200, zw_l200, zw_g999, zw_l999, zw_g9999, zw_l9999]
        exact ex eN
  · obtain ⟨h0, t⟩ := z
    obtain ⟨s3, rfl, rfl, ht, hok, e3, hT, hr, hw, h63, hf, hk9⟩ := hi
    have hk := hk9
    obtain ⟨hb, hX, hn, k1, k2⟩ := hk
    have hN2 : zlfN (vsg V) (vs V) ≤ 16 := zlfN_le
    simp only [xX12_loaf_98, xX12_loaf_104, xX12_loaf_160, zl_ge ht (show zlfN (vsg V) (vs V) < 2 ^ 31 by omega), nI_1, nI_clamp (show t < 2 ^ 31 by omega), zi_push, zi_iload, zi_lload, zi_aload, zi_istore, zi_astore, zi_lstore, zi_iinc, zi_i2, zi_i1, zi_idv, zi_l2, zi_ldv, zi_lsh, zi_i2l, zi_l2i, zi_lcmp, zi_dup, zi_dup2, zi_pop, zi_if1, zi_if2, zi_getI, zi_getL, zi_getR, zi_putI, zi_putZ, zi_putL, zi_aldI, zi_aldL, zi_astI, zi_astZ, zi_astL, zi_alen, zi_iret, zi_zret, zi_lret, zi_vret, zi_callV, zi_callS, zi_sw, zi_copyI, zi_copyL, zi_m2, zi_m1, zi_sval, zi_scod, zi_fmt, zi_balen, zi_bald, zi_bret, zi_callT, zq_nth, zq_put1, zq_put2, zq_clr, zq_nl, zq_tk, zq_ps, zq_sw, zq_l0, zq_a, zq_a1, List.length_cons, List.length_nil, List.nil_append, List.cons_append, List.append_nil, List.replicate, Nat.reduceAdd, Nat.reduceSub, Nat.reduceLeDiff, true_and, and_true, List.append_eq, List.cons.injEq, Value.int.injEq, Value.long.injEq, Value.ref.injEq, exists_and_left, exists_eq_left', and_assoc, zc_b, zc_0, zc_1, zc_10, zc_01, lg_cmp_ge, lg_cmp_le, lg_cmp_gt, lg_cmp_lt, lg_cmp_eq, zw_le, zw_lt, reduceIte, true_or, or_true, zw_g0, zw_l0, zw_g1, zw_l1, zw_g2, zw_l2, zw_g3, zw_l3, zw_g5, zw_l5, zw_g6, zw_l6, zw_g7, zw_l7, zw_g9, zw_l9, zw_g10, zw_l10, zw_g15, zw_l15, zw_g16, zw_l16, zw_g48, zw_l48, zw_g50, zw_l50, zw_g57, zw_l57, zw_g97, zw_l97, zw_g100, zw_l100, zw_g200, zw_l200, zw_g999, zw_l999, zw_g9999, zw_l9999]
    refine ⟨fun q => ?_, fun q => ?_⟩
    · rw [q] at hw h63
      have e5 : h.1 56 5 = h0.1 56 5 := (hf.2 5 (by decide)).1
      simp only [zq_sI, Nat.reduceEqDiff, and_false, if_false]
      have g0 : zq_fm [5, 31, 53] [] h (zq_setI (zq_setI (zq_setI h 56 31 0) 56 53 0) 56 5 (h.1 56 5 + 1)) := zq_fm_F (zq_fm_F (zq_fm_F zq_fm_rf (by decide)) (by decide)) (by decide)
      have g1 : zq_fm zlmf zlmp h0 (zq_setI (zq_setI (zq_setI h 56 31 0) 56 53 0) 56 5 (h.1 56 5 + 1)) := zq_fm_t (zq_fm_w hf (by decide)) g0 (by decide)
      obtain ⟨x1, x2, x3, x4, x5⟩ := hX
      refine k1 hok _ (MC_Lg (V := V) ⟨hN2, by rw [(g0.2 3 (by decide)).1]; exact e3, fun i hi => ?_⟩ (MG_fm x2 g1 (by decide)) (MP_fm x3 g1 (by decide)) ⟨hN2, fun i hi => ?_, ⟨by simp [zq_sI]; rfl, Nat.zero_le _⟩, fun j hj => absurd hj (Nat.not_lt_zero _), ?_⟩ ⟨Nat.zero_le _, by simp [zq_sI]; rfl, fun i hi => absurd hi (Nat.not_lt_zero _)⟩) (MT_fm hT g0 (by decide)) g1
      · rw [(g0.1 58 (by decide) (by decide)).1, (g0.1 59 (by decide) (by decide)).1, (g0.1 60 (by decide) (by decide)).1]
        exact hw i hi
      · rw [(g0.1 63 (by decide) (by decide)).1]
        exact h63 i hi
      · obtain ⟨-, -, -, -, lv, l1, l2, l3⟩ := x4
        refine ⟨lv + 1, by omega, by rw [zq_sI, if_pos ⟨rfl, rfl⟩, e5, l2, nI_1], fun j hj => ?_⟩
        obtain ⟨m1, ⟨qq, m2, m3⟩, -⟩ := l3 j hj
        rw [(g1.1 99 (by decide) (by decide)).1, (g1.1 100 (by decide) (by decide)).1]
        refine ⟨m1, ⟨qq, by omega, m3⟩, fun z => ?_⟩
        have z2 := z.2
        rw [m3] at z2
        by_cases y : lv + 1 < 2 ^ 31
        · rw [nI_eqP (by omega) y] at z2
          omega
        · have y2 : lv + 1 = 2 ^ 31 := by omega
          rw [y2] at z2
          exact nI_pos (show qq < 2 ^ 31 by omega) (by rw [z2]; decide)
    · obtain ⟨r1, r2, r3⟩ := hr t (by omega)
      have v16 : vp_in (nI t) 16 = True := eq_true (vp_in_nI (by omega) (by decide))
      have h01 : nI (zlcu (vsg V) (min (vs V) 64) t) = 0 ∨ nI (zlcu (vsg V) (min (vs V) 64) t) = 1 := by
        rcases zlcu_01 (vsg V) (min (vs V) 64) t with e | e
        · rw [e]
          exact Or.inl rfl
        · rw [e]
          exact Or.inr rfl
      simp only [v16, zq_sI, r1, r2, r3, Nat.reduceEqDiff, nI_clamp (show t < 2 ^ 31 by omega), not_true_eq_false, not_false_eq_true, forall_const, true_and, and_true, false_and, and_false, if_true, if_false, reduceIte, implies_true, and_self, ite_self, true_or, or_true, false_or, or_false, true_implies, false_implies, Classical.not_not, false_imp_iff, not_false_iff, zi_push, zi_iload, zi_lload, zi_aload, zi_istore, zi_astore, zi_lstore, zi_iinc, zi_i2, zi_i1, zi_idv, zi_l2, zi_ldv, zi_lsh, zi_i2l, zi_l2i, zi_lcmp, zi_dup, zi_dup2, zi_pop, zi_if1, zi_if2, zi_getI, zi_getL, zi_getR, zi_putI, zi_putZ, zi_putL, zi_aldI, zi_aldL, zi_astI, zi_astZ, zi_astL, zi_alen, zi_iret, zi_zret, zi_lret, zi_vret, zi_callV, zi_callS, zi_sw, zi_copyI, zi_copyL, zi_m2, zi_m1, zi_sval, zi_scod, zi_fmt, zi_balen, zi_bald, zi_bret, zi_callT, zq_nth, zq_put1, zq_put2, zq_clr, zq_nl, zq_tk, zq_ps, zq_sw, zq_l0, zq_a, zq_a1, List.length_cons, List.length_nil, List.nil_append, List.cons_append, List.append_nil, List.replicate, Nat.reduceAdd, Nat.reduceSub, Nat.reduceLeDiff, true_and, and_true, List.append_eq, List.cons.injEq, Value.int.injEq, Value.long.injEq, Value.ref.injEq, exists_and_left, exists_eq_left', and_assoc, zc_b, zc_0, zc_1, zc_10, zc_01, lg_cmp_ge, lg_cmp_le, lg_cmp_gt, lg_cmp_lt, lg_cmp_eq, zw_le, zw_lt, reduceIte, true_or, or_true, zw_g0, zw_l0, zw_g1, zw_l1, zw_g2, zw_l2, zw_g3, zw_l3, zw_g5, zw_l5, zw_g6, zw_l6, zw_g7, zw_l7, zw_g9, zw_l9, zw_g10, zw_l10, zw_g15, zw_l15, zw_g16, zw_l16, zw_g48, zw_l48, zw_g50, zw_l50, zw_g57, zw_l57, zw_g97, zw_l97, zw_g100, zw_l100, zw_g200, zw_l200, zw_g999, zw_l999, zw_g9999, zw_l9999]
      have g1 : zq_fm [] [58, 59, 60, 63] h (zq_setI (zq_setI (zq_setI (zq_setI h 58 t (nI (zlcr (vsg V) (min (vs V) 64) t))) 59 t (nI (zlra (vsg V) (min (vs V) 64) t))) 60 t (nI (zlcu (vsg V) (min (vs V) 64) t))) 63 t (-1)) := zq_fm_I (zq_fm_I (zq_fm_I (zq_fm_I zq_fm_rf (by decide)) (by decide)) (by decide)) (by decide)
      refine ⟨h01, (h0, t + 1), by dsimp only; omega, _, rfl, rfl, by omega, hok, by rw [(g1.2 3 (by decide)).1]; exact e3, MT_fm hT g1 (by decide), fun i hi => ?_, fun i hi => ?_, fun i hi => ?_, zq_fm_t hf g1 (by decide), hk9⟩
      · rw [(g1.1 65 (by decide) (by decide)).1, (g1.1 66 (by decide) (by decide)).1, (g1.1 67 (by decide) (by decide)).1]
        exact hr i hi
      · by_cases y : i = t
        · subst y
          simp [zq_sI]
        · have := hw i (by omega)
          simpa [zq_sI, y] using this
      · by_cases y : i = t
        · subst y
          simp [zq_sI]
        · simpa [zq_sI, y] using h63 i (by omega)
