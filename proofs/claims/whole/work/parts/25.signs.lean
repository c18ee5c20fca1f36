/-! ===== sign, end ===== -/
theorem zI_cond (x : Int32) : x.toInt = if 2 * x.toBitVec.toNat < 4294967296 then (x.toBitVec.toNat : Int) else (x.toBitVec.toNat : Int) - 4294967296 := by
  show x.toBitVec.toInt = _
  rw [BitVec.toInt_eq_toNat_cond]
  rfl
theorem zshr_and (v : Int32) (k : Nat) (hk : k = 0 ∨ k = 8 ∨ k = 16 ∨ k = 24) (s : Int32) (hs : ((s &&& 31).toBitVec.smod 32).toNat = k) (hu : ((s.toUInt32 &&& Int32.toUInt32 31).toBitVec % 32).toNat = k) : zf_shr v s &&& 255 = zf_ushr v s &&& 255 := by
  unfold zf_shr zf_ushr
  rw [pk_and _ (m := 255) 8 (by decide), pk_and _ (m := 255) 8 (by decide), pk_ushr v s k hu]
  have h1 := pk_shr v (s &&& 31) k hs
  rw [Int.shiftRight_eq_div_pow, zI_cond, zI_cond] at h1
  generalize (v >>> (s &&& 31)).toBitVec.toNat = M at h1 ⊢
  have hN := v.toBitVec.isLt
  generalize v.toBitVec.toNat = N at h1 hN ⊢
  congr 1
  rcases hk with rfl | rfl | rfl | rfl <;> simp only [Nat.reducePow, Int.reducePow, Int.cast_ofNat_Int] at h1 ⊢ <;> split at h1 <;> split at h1 <;> omega
theorem z4_shr (v : Int32) (k : Nat) (hk : k < 4) : zf_shr v (24 - 8 * nI k) &&& 255 = z4 v k := by
  unfold z4
  rcases (show k = 0 ∨ k = 1 ∨ k = 2 ∨ k = 3 by omega) with rfl | rfl | rfl | rfl
  · exact zshr_and v 24 (by decide) 24 (by decide) (by decide)
  · exact zshr_and v 16 (by decide) 16 (by decide) (by decide)
  · exact zshr_and v 8 (by decide) 8 (by decide) (by decide)
  · exact zshr_and v 0 (by decide) 0 (by decide) (by decide)
def sp_xSign : zq_Sp := fun args h Q => ∃ v n s, args = [.ref 0, .int v] ∧ XT n s h ∧ (if n + 4 ≤ 80 then ∀ h', XT (n + 4) (zs4 s n v 4) h' → zq_fr [1, 2] h h' → Q (some (.int (nI (n + 4)))) h' else Q (some (.int (-1))) h)
theorem ok_xSign : zq_M yX11_sign cX11_sign 2 (some .int) 1 1 sp_xSign := by
  refine mX11_sign ok_addFour (by decide) (fun args h Q hs => ?_)
  obtain ⟨v, n, s, rfl, hT, h2⟩ := hs
  refine ⟨Nat.le_of_ble_eq_true rfl, ?_⟩
  simp only [xX11_sign_0, zi_push, zi_iload, zi_lload, zi_aload, zi_istore, zi_astore, zi_lstore, zi_iinc, zi_i2, zi_i1, zi_idv, zi_l2, zi_ldv, zi_lsh, zi_i2l, zi_l2i, zi_lcmp, zi_dup, zi_dup2, zi_pop, zi_if1, zi_if2, zi_getI, zi_getL, zi_getR, zi_putI, zi_putZ, zi_putL, zi_aldI, zi_aldL, zi_astI, zi_astZ, zi_astL, zi_alen, zi_iret, zi_zret, zi_lret, zi_vret, zi_callV, zi_callS, zi_sw, zi_copyI, zi_copyL, zi_m2, zi_m1, zi_sval, zi_scod, zi_fmt, zi_balen, zi_bald, zi_bret, zi_callT, zq_nth, zq_put1, zq_put2, zq_clr, zq_nl, zq_tk, zq_ps, zq_sw, zq_l0, zq_a, zq_a1, List.length_cons, List.length_nil, List.nil_append, List.cons_append, List.append_nil, List.replicate, Nat.reduceAdd, Nat.reduceSub, Nat.reduceLeDiff, true_and, and_true, List.append_eq, List.cons.injEq, Value.int.injEq, Value.long.injEq, Value.ref.injEq, exists_and_left, exists_eq_left', and_assoc, zc_b, zc_0, zc_1, zc_10, zc_01, lg_cmp_ge, lg_cmp_le, lg_cmp_gt, lg_cmp_lt, lg_cmp_eq, zw_le, zw_lt, reduceIte, true_or, or_true, zw_g0, zw_l0, zw_g1, zw_l1, zw_g2, zw_l2, zw_g3, zw_l3, zw_g5, zw_l5, zw_g6, zw_l6, zw_g7, zw_l7, zw_g9, zw_l9, zw_g10, zw_l10, zw_g15, zw_l15, zw_g16, zw_l16, zw_g48, zw_l48, zw_g50, zw_l50, zw_g57, zw_l57, zw_g97, zw_l97, zw_g100, zw_l100, zw_g200, zw_l200, zw_g999, zw_l999, zw_g9999, zw_l9999]
  exact ⟨v, n, s, rfl, hT, h2⟩
def sp_mSign : zq_Sp := fun args h Q => ∃ v n s, args = [.ref 56, .int v] ∧ MT n s h ∧ (if n + 4 ≤ 80 then ∀ h', MT (n + 4) (zs4 s n v 4) h' → zq_fm [0, 13] [64] h h' → Q (some (.int (nI (n + 4)))) h' else ∀ h', MT n s h' → zq_fm [0, 13] [64] h h' → Q (some (.int (-1))) h')
def I_mSign (Q : zq_Q) (a : zq_H × Int32 × Nat × (Nat → Int32) × Nat) : zq_P := fun ls st h => match a with
  | (h0, v, n, s, k) => ls = [some (.ref 56), some (.int v), some (.int (nI k))] ∧ st = [] ∧ k ≤ 4 ∧ n + 4 ≤ 80 ∧ (h.1 56 13 = nI n ∧ ∀ i, i < 80 → h.1 64 i = zs4 s n v k i ∧ 0 ≤ zs4 s n v k i ∧ zs4 s n v k i ≤ 255) ∧ zq_fm [0, 13] [64] h0 h ∧ ∀ h', MT (n + 4) (zs4 s n v 4) h' → zq_fm [0, 13] [64] h0 h' → Q (some (.int (nI (n + 4)))) h'
theorem ok_mSign : zq_M yX12_sign cX12_sign 3 (some .int) 1 0 sp_mSign := by
  refine mX12_sign (fun a => 4 - a.2.2.2.2) I_mSign (fun args h Q hs => ?_) (fun Q a ls st h hi => ?_)
  · obtain ⟨v, n, s, rfl, hT, h2⟩ := hs
    have hT2 := hT
    obtain ⟨e, hn, hs⟩ := hT2
    refine ⟨Nat.le_of_ble_eq_true rfl, ?_⟩
    simp only [xX12_sign_53, xX12_sign_23, xX12_sign_18, xX12_sign_16, xX12_sign_14, xX12_sign_0, zi_push, zi_iload, zi_lload, zi_aload, zi_istore, zi_astore, zi_lstore, zi_iinc, zi_i2, zi_i1, zi_idv, zi_l2, zi_ldv, zi_lsh, zi_i2l, zi_l2i, zi_lcmp, zi_dup, zi_dup2, zi_pop, zi_if1, zi_if2, zi_getI, zi_getL, zi_getR, zi_putI, zi_putZ, zi_putL, zi_aldI, zi_aldL, zi_astI, zi_astZ, zi_astL, zi_alen, zi_iret, zi_zret, zi_lret, zi_vret, zi_callV, zi_callS, zi_sw, zi_copyI, zi_copyL, zi_m2, zi_m1, zi_sval, zi_scod, zi_fmt, zi_balen, zi_bald, zi_bret, zi_callT, zq_nth, zq_put1, zq_put2, zq_clr, zq_nl, zq_tk, zq_ps, zq_sw, zq_l0, zq_a, zq_a1, List.length_cons, List.length_nil, List.nil_append, List.cons_append, List.append_nil, List.replicate, Nat.reduceAdd, Nat.reduceSub, Nat.reduceLeDiff, true_and, and_true, List.append_eq, List.cons.injEq, Value.int.injEq, Value.long.injEq, Value.ref.injEq, exists_and_left, exists_eq_left', and_assoc, zc_b, zc_0, zc_1, zc_10, zc_01, lg_cmp_ge, lg_cmp_le, lg_cmp_gt, lg_cmp_lt, lg_cmp_eq, zw_le, zw_lt, reduceIte, true_or, or_true, zw_g0, zw_l0, zw_g1, zw_l1, zw_g2, zw_l2, zw_g3, zw_l3, zw_g5, zw_l5, zw_g6, zw_l6, zw_g7, zw_l7, zw_g9, zw_l9, zw_g10, zw_l10, zw_g15, zw_l15, zw_g16, zw_l16, zw_g48, zw_l48, zw_g50, zw_l50, zw_g57, zw_l57, zw_g97, zw_l97, zw_g100, zw_l100, zw_g200, zw_l200, zw_g999, zw_l999, zw_g9999, zw_l9999, zq_sI]
    simp only [Nat.reduceEqDiff, not_true_eq_false, not_false_eq_true, forall_const, true_and, and_true, false_and, and_false, if_true, if_false, reduceIte, implies_true, and_self, ite_self, true_or, or_true, false_or, or_false, true_implies, false_implies, Classical.not_not, false_imp_iff, not_false_iff]
    have e1 : (h.1 56 13 ≤ 76) = (n + 4 ≤ 80) := by
      rw [e, show (76 : Int32) = nI 76 from rfl]
      apply propext
      rw [nI_leI (by omega) (by decide)]
      omega
    rcases Classical.propComplete (n + 4 ≤ 80) with c1 | c1
    · simp only [e1, c1, not_true_eq_false, not_false_eq_true, forall_const, true_and, and_true, false_and, and_false, if_true, if_false, reduceIte, implies_true, and_self, ite_self, true_or, or_true, false_or, or_false, true_implies, false_implies, Classical.not_not, false_imp_iff, not_false_iff] at h2 ⊢
      refine ⟨(h, v, n, s, 0), rfl, rfl, Nat.zero_le _, of_eq_true c1, ⟨?_, ?_⟩, zq_fm_F zq_fm_rf (by decide), h2⟩
      · simpa [zq_sI] using e
      · intro i hi
        have e2 : zs4 s n v 0 i = s i := by
          unfold zs4
          rw [if_neg (by omega)]
        rw [e2]
        simpa [zq_sI] using hs i hi
    · simp only [e1, c1, not_true_eq_false, not_false_eq_true, forall_const, true_and, and_true, false_and, and_false, if_true, if_false, reduceIte, implies_true, and_self, ite_self, true_or, or_true, false_or, or_false, true_implies, false_implies, Classical.not_not, false_imp_iff, not_false_iff] at h2 ⊢
      exact h2 _ (MT_fm hT (zq_fm_F (fs := [0]) (ps := []) zq_fm_rf (by decide)) (by decide)) (zq_fm_F zq_fm_rf (by decide))
  · obtain ⟨h0, v, n, s, k⟩ := a
    obtain ⟨rfl, rfl, hk, hn, ⟨e, hs⟩, hf, h2⟩ := hi
    have e3 : (4 ≤ nI k) = (k = 4) := zl_ge hk (by decide)
    simp only [xX12_sign_53, xX12_sign_23, xX12_sign_18, xX12_sign_16, xX12_sign_14, xX12_sign_0, zi_push, zi_iload, zi_lload, zi_aload, zi_istore, zi_astore, zi_lstore, zi_iinc, zi_i2, zi_i1, zi_idv, zi_l2, zi_ldv, zi_lsh, zi_i2l, zi_l2i, zi_lcmp, zi_dup, zi_dup2, zi_pop, zi_if1, zi_if2, zi_getI, zi_getL, zi_getR, zi_putI, zi_putZ, zi_putL, zi_aldI, zi_aldL, zi_astI, zi_astZ, zi_astL, zi_alen, zi_iret, zi_zret, zi_lret, zi_vret, zi_callV, zi_callS, zi_sw, zi_copyI, zi_copyL, zi_m2, zi_m1, zi_sval, zi_scod, zi_fmt, zi_balen, zi_bald, zi_bret, zi_callT, zq_nth, zq_put1, zq_put2, zq_clr, zq_nl, zq_tk, zq_ps, zq_sw, zq_l0, zq_a, zq_a1, List.length_cons, List.length_nil, List.nil_append, List.cons_append, List.append_nil, List.replicate, Nat.reduceAdd, Nat.reduceSub, Nat.reduceLeDiff, true_and, and_true, List.append_eq, List.cons.injEq, Value.int.injEq, Value.long.injEq, Value.ref.injEq, exists_and_left, exists_eq_left', and_assoc, zc_b, zc_0, zc_1, zc_10, zc_01, lg_cmp_ge, lg_cmp_le, lg_cmp_gt, lg_cmp_lt, lg_cmp_eq, zw_le, zw_lt, reduceIte, true_or, or_true, zw_g0, zw_l0, zw_g1, zw_l1, zw_g2, zw_l2, zw_g3, zw_l3, zw_g5, zw_l5, zw_g6, zw_l6, zw_g7, zw_l7, zw_g9, zw_l9, zw_g10, zw_l10, zw_g15, zw_l15, zw_g16, zw_l16, zw_g48, zw_l48, zw_g50, zw_l50, zw_g57, zw_l57, zw_g97, zw_l97, zw_g100, zw_l100, zw_g200, zw_l200, zw_g999, zw_l999, zw_g9999, zw_l9999, e, e3]
    refine ⟨fun q => ?_, fun q => ?_⟩
    · subst q
      simp only [zq_sI, e, Nat.reduceEqDiff, not_true_eq_false, not_false_eq_true, forall_const, true_and, and_true, false_and, and_false, if_true, if_false, reduceIte, implies_true, and_self, ite_self, true_or, or_true, false_or, or_false, true_implies, false_implies, Classical.not_not, false_imp_iff, not_false_iff]
      rw [show nI n + 4 = nI (n + 4) from nI_add n 4]
      refine h2 _ ⟨?_, by omega, ?_⟩ (zq_fm_F hf (by decide))
      · simp [zq_sI]
      · intro i hi
        simpa [zq_sI] using hs i hi
    · rw [nI_add]
      refine ⟨vp_in_nI (by omega) (by decide), (h0, v, n, s, k + 1), by dsimp only; omega, ?_, rfl, by omega, hn, ⟨?_, ?_⟩, zq_fm_I hf (by decide), h2⟩
      · rw [nI_1]
      · simpa [zq_sI] using e
      · intro i hi
        rw [nI_clamp (by omega), z4_shr v k (by omega)]
        simp only [zq_sI]
        have hz := zbyte (zf_ushr v (zsh k))
        by_cases q2 : i = n + k
        · have e5 : zs4 s n v (k + 1) i = z4 v k := by
            unfold zs4
            rw [if_pos (by omega), q2, Nat.add_sub_cancel_left]
          rw [e5, if_pos (by simpa using q2)]
          exact ⟨rfl, hz⟩
        · have e5 : zs4 s n v (k + 1) i = zs4 s n v k i := by
            unfold zs4
            by_cases q3 : n ≤ i ∧ i < n + k
            · rw [if_pos q3, if_pos (by omega)]
            · rw [if_neg q3, if_neg (by omega)]
          rw [e5, if_neg (by simpa using q2)]
          exact hs i hi
/-- end: whether it stands, how many signs then -/
def sp_xEnd : zq_Sp := fun args h Q => ∃ v n s, args = [.ref 0, .int v] ∧ XT n s h ∧ (v < 0 ∨ nI n < v → Q (some (.int 0)) h) ∧ ∀ k : Nat, k ≤ n → v = nI k → ∀ h', XT k s h' → zq_fr [1] h h' → Q (some (.int 1)) h'
theorem ok_xEnd : zq_M yX11_end cX11_end 2 (some .boolean) 1 1 sp_xEnd := by
  refine mX11_end ok_shorten (by decide) (fun args h Q hs => ?_)
  obtain ⟨v, n, s, rfl, ⟨e, hn, hT⟩, h1, h2⟩ := hs
  refine ⟨Nat.le_of_ble_eq_true rfl, ?_⟩
  simp only [xX11_end_0, zi_push, zi_iload, zi_lload, zi_aload, zi_istore, zi_astore, zi_lstore, zi_iinc, zi_i2, zi_i1, zi_idv, zi_l2, zi_ldv, zi_lsh, zi_i2l, zi_l2i, zi_lcmp, zi_dup, zi_dup2, zi_pop, zi_if1, zi_if2, zi_getI, zi_getL, zi_getR, zi_putI, zi_putZ, zi_putL, zi_aldI, zi_aldL, zi_astI, zi_astZ, zi_astL, zi_alen, zi_iret, zi_zret, zi_lret, zi_vret, zi_callV, zi_callS, zi_sw, zi_copyI, zi_copyL, zi_m2, zi_m1, zi_sval, zi_scod, zi_fmt, zi_balen, zi_bald, zi_bret, zi_callT, zq_nth, zq_put1, zq_put2, zq_clr, zq_nl, zq_tk, zq_ps, zq_sw, zq_l0, zq_a, zq_a1, List.length_cons, List.length_nil, List.nil_append, List.cons_append, List.append_nil, List.replicate, Nat.reduceAdd, Nat.reduceSub, Nat.reduceLeDiff, true_and, and_true, List.append_eq, List.cons.injEq, Value.int.injEq, Value.long.injEq, Value.ref.injEq, exists_and_left, exists_eq_left', and_assoc, zc_b, zc_0, zc_1, zc_10, zc_01, lg_cmp_ge, lg_cmp_le, lg_cmp_gt, lg_cmp_lt, lg_cmp_eq, zw_le, zw_lt, reduceIte, true_or, or_true, zw_g0, zw_l0, zw_g1, zw_l1, zw_g2, zw_l2, zw_g3, zw_l3, zw_g5, zw_l5, zw_g6, zw_l6, zw_g7, zw_l7, zw_g9, zw_l9, zw_g10, zw_l10, zw_g15, zw_l15, zw_g16, zw_l16, zw_g48, zw_l48, zw_g50, zw_l50, zw_g57, zw_l57, zw_g97, zw_l97, zw_g100, zw_l100, zw_g200, zw_l200, zw_g999, zw_l999, zw_g9999, zw_l9999, sp_shorten]
  rw [e]
  split
  · next c => simpa using h1 c
  · next c =>
    obtain ⟨k, hk, rfl⟩ : ∃ k : Nat, k ≤ n ∧ v = nI k := by
      rcases pk_ix v (n := n + 1) (by omega) with q | q | ⟨j, q1, q2⟩
      · exact absurd (Or.inl q) c
      · refine absurd (Or.inr ?_) c
        rw [← nI_1] at q
        have : nI n < nI n + 1 := by rw [nI_1]; exact nI_lt (by omega) (by omega)
        exact Int32.lt_of_lt_of_le this q
      · exact ⟨j, by omega, q2⟩
    have := h2 k hk rfl (zq_setI h 1 1 (nI k)) ⟨by simp [zq_sI], by omega, fun i hi => by simpa [zq_sI] using hT i hi⟩ (zq_fr_I zq_fr_rf (by decide))
    simpa using this
def sp_mEnd : zq_Sp := fun args h Q => ∃ v n s, args = [.ref 56, .int v] ∧ MT n s h ∧ (v < 0 ∨ nI n < v → ∀ h', MT n s h' → zq_fm [0, 13] [] h h' → Q (some (.int 0)) h') ∧ ∀ k : Nat, k ≤ n → v = nI k → ∀ h', MT k s h' → zq_fm [0, 13] [] h h' → Q (some (.int 1)) h'
theorem ok_mEnd : zq_M yX12_end cX12_end 2 (some .boolean) 1 1 sp_mEnd := by
  refine mX12_end ok_in (by decide) (fun args h Q hs => ?_)
  obtain ⟨v, n, s, rfl, hT0, h1, h2⟩ := hs
  have hT1 := hT0
  obtain ⟨e, hn, hT⟩ := hT1
  refine ⟨Nat.le_of_ble_eq_true rfl, ?_⟩
  simp only [xX12_end_21, xX12_end_19, xX12_end_0, zi_push, zi_iload, zi_lload, zi_aload, zi_istore, zi_astore, zi_lstore, zi_iinc, zi_i2, zi_i1, zi_idv, zi_l2, zi_ldv, zi_lsh, zi_i2l, zi_l2i, zi_lcmp, zi_dup, zi_dup2, zi_pop, zi_if1, zi_if2, zi_getI, zi_getL, zi_getR, zi_putI, zi_putZ, zi_putL, zi_aldI, zi_aldL, zi_astI, zi_astZ, zi_astL, zi_alen, zi_iret, zi_zret, zi_lret, zi_vret, zi_callV, zi_callS, zi_sw, zi_copyI, zi_copyL, zi_m2, zi_m1, zi_sval, zi_scod, zi_fmt, zi_balen, zi_bald, zi_bret, zi_callT, zq_nth, zq_put1, zq_put2, zq_clr, zq_nl, zq_tk, zq_ps, zq_sw, zq_l0, zq_a, zq_a1, List.length_cons, List.length_nil, List.nil_append, List.cons_append, List.append_nil, List.replicate, Nat.reduceAdd, Nat.reduceSub, Nat.reduceLeDiff, true_and, and_true, List.append_eq, List.cons.injEq, Value.int.injEq, Value.long.injEq, Value.ref.injEq, exists_and_left, exists_eq_left', and_assoc, zc_b, zc_0, zc_1, zc_10, zc_01, lg_cmp_ge, lg_cmp_le, lg_cmp_gt, lg_cmp_lt, lg_cmp_eq, zw_le, zw_lt, reduceIte, true_or, or_true, zw_g0, zw_l0, zw_g1, zw_l1, zw_g2, zw_l2, zw_g3, zw_l3, zw_g5, zw_l5, zw_g6, zw_l6, zw_g7, zw_l7, zw_g9, zw_l9, zw_g10, zw_l10, zw_g15, zw_l15, zw_g16, zw_l16, zw_g48, zw_l48, zw_g50, zw_l50, zw_g57, zw_l57, zw_g97, zw_l97, zw_g100, zw_l100, zw_g200, zw_l200, zw_g999, zw_l999, zw_g9999, zw_l9999, sp_in, zq_sI]
  simp only [Nat.reduceEqDiff, e, not_true_eq_false, not_false_eq_true, forall_const, true_and, and_true, false_and, and_false, if_true, if_false, reduceIte, implies_true, and_self, ite_self, true_or, or_true, false_or, or_false, true_implies, false_implies, Classical.not_not, false_imp_iff, not_false_iff]
  refine ⟨fun c => ?_, fun c => ?_⟩
  · refine h1 ?_ _ (MT_fm hT0 (zq_fm_F (fs := [0]) (ps := []) zq_fm_rf (by decide)) (by decide)) (zq_fm_F zq_fm_rf (by decide))
    grind
  · obtain ⟨k, hk, rfl⟩ : ∃ k : Nat, k ≤ n ∧ v = nI k := by
      rcases pk_ix v (n := n + 1) (by omega) with q | q | ⟨j, q1, q2⟩
      · exact absurd c.1 (Int32.not_le.mpr q)
      · rw [← nI_1] at q
        have : nI n < nI n + 1 := by rw [nI_1]; exact nI_lt (by omega) (by omega)
        exact absurd c.2 (Int32.not_le.mpr (Int32.lt_of_lt_of_le this q))
      · exact ⟨j, by omega, q2⟩
    exact h2 k hk rfl _ ⟨by simp [zq_sI], by omega, fun i hi => by simpa [zq_sI] using hT i hi⟩ (zq_fm_F (zq_fm_F zq_fm_rf (by decide)) (by decide))
