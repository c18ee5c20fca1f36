/-! ===== with whom a cell is: four bits of a long ===== -/
theorem nb_15 (m : Nat) : (15#64).getLsbD m = decide (m < 4) := by
  by_cases h : m < 4
  · rcases (show m = 0 ∨ m = 1 ∨ m = 2 ∨ m = 3 by omega) with rfl | rfl | rfl | rfl <;> decide
  · rw [decide_eq_false h]
    show (15#64).toNat.testBit m = false
    apply Nat.testBit_lt_two_pow
    have : 2 ^ 4 ≤ 2 ^ m := Nat.pow_le_pow_right (by decide) (by omega)
    have e : (15#64).toNat = 15 := by decide
    omega
theorem nb_hi {w : BitVec 64} (hw : w.toNat < 16) {m : Nat} (hm : 4 ≤ m) : w.getLsbD m = false := by
  show w.toNat.testBit m = false
  apply Nat.testBit_lt_two_pow
  have : 2 ^ 4 ≤ 2 ^ m := Nat.pow_le_pow_right (by decide) hm
  omega
theorem nb_put (B w : BitVec 64) (i j : Nat) (hi : i < 16) (hj : j < 16) (hw : w.toNat < 16) : ((B &&& ~~~(15#64 <<< (4 * i))) ||| w <<< (4 * i)).extractLsb' (4 * j) 4 = if j = i then w.extractLsb' 0 4 else B.extractLsb' (4 * j) 4 := by
  apply BitVec.eq_of_getLsbD_eq
  intro t ht
  split
  · next h =>
    subst h
    simp only [BitVec.getLsbD_extractLsb', BitVec.getLsbD_or, BitVec.getLsbD_and, BitVec.getLsbD_not, BitVec.getLsbD_shiftLeft, nb_15]
    have e1 : 4 * j + t - 4 * j = t := by omega
    have e2 : ¬ 4 * j + t < 4 * j := by omega
    have e3 : 4 * j + t < 64 := by omega
    simp [e1, e2, e3, ht]
  · next h =>
    simp only [BitVec.getLsbD_extractLsb', BitVec.getLsbD_or, BitVec.getLsbD_and, BitVec.getLsbD_not, BitVec.getLsbD_shiftLeft, nb_15]
    have e3 : 4 * j + t < 64 := by omega
    by_cases q : 4 * j + t < 4 * i
    · simp [q, ht, e3]
    · have e4 : 4 ≤ 4 * j + t - 4 * i := by omega
      have e5 : ¬ 4 * j + t - 4 * i < 4 := by omega
      simp [nb_hi hw e4, ht, e3, e5]
def zH (L : Int64) (i : Nat) : Int32 := (zf_lushr L (4 * nI i) &&& 15).toInt32 - 1
def zP (L : Int64) (i : Nat) (v : Int32) : Int64 := (L &&& (zf_lshl 15 (4 * nI i) ^^^ (-1))) ||| zf_lshl (v + 1).toInt64 (4 * nI i)
theorem zlN (x : Int64) : x = lN (uN x) := by
  apply uN_inj
  show uN x = ((lN (uN x)).toBitVec).toNat
  rw [lN_nat (uN_lt x)]
theorem zH_nat (L : Int64) {i : Nat} (hi : i < 16) : zH L i = nI ((L.toBitVec.extractLsb' (4 * i) 4).toNat) - 1 := by
  unfold zH zf_lushr
  rw [show (4 : Int32) * nI i = nI (4 * i) from pk_mul 4 i]
  generalize hx : (L.toUInt64 >>> ((nI (4 * i)).toInt64.toUInt64 &&& Int64.toUInt64 63)).toInt64 = x
  have h1 : uN x = uN L / 2 ^ (4 * i) := by rw [← hx]; exact uN_sk L (by omega)
  rw [zlN x, h1, show (15 : Int64) = lN (16 - 1) from rfl, g_mask (s := 4) (by decide) (by decide) (by have := uN_lt L; exact Nat.lt_of_le_of_lt (Nat.div_le_self _ _) this), lN_i, BitVec.extractLsb'_toNat, Nat.shiftRight_eq_div_pow]
  rfl
theorem zsh_amt : ∀ i, i < 16 → (((nI (4 * i)).toInt64 &&& 63).toBitVec.smod 64).toNat = 4 * i := by decide
theorem zshl_bv (x : Int64) {i : Nat} (hi : i < 16) : (zf_lshl x (4 * nI i)).toBitVec = x.toBitVec <<< (4 * i) := by
  unfold zf_lshl
  rw [show (4 : Int32) * nI i = nI (4 * i) from pk_mul 4 i, Int64.toBitVec_shiftLeft]
  show x.toBitVec <<< ((((nI (4 * i)).toInt64 &&& 63).toBitVec.smod 64).toNat) = _
  rw [zsh_amt i hi]
theorem zP_bv (L : Int64) {i n : Nat} (hi : i < 16) (hn : n < 16) : (zP L i (nI n - 1)).toBitVec = ((L.toBitVec &&& ~~~(15#64 <<< (4 * i))) ||| (BitVec.ofNat 64 n) <<< (4 * i)) := by
  unfold zP
  rw [Int64.toBitVec_or, Int64.toBitVec_and, Int64.toBitVec_xor, zshl_bv _ hi, zshl_bv _ hi]
  have e1 : (nI n - 1 + 1).toInt64 = lN n := by
    rw [show nI n - 1 + 1 = nI n by grind, nI_l (by omega)]
  rw [e1, lN_bv, show (-1 : Int64).toBitVec = BitVec.allOnes 64 by decide, BitVec.xor_allOnes]
  rfl
theorem zH_put (L : Int64) {i j n : Nat} (hi : i < 16) (hj : j < 16) (hn : n < 16) : zH (zP L i (nI n - 1)) j = if j = i then nI n - 1 else zH L j := by
  rw [zH_nat _ hj, zP_bv L hi hn, nb_put _ _ _ _ hi hj (by rw [BitVec.toNat_ofNat, Nat.mod_eq_of_lt (by omega)]; exact hn)]
  split
  · rw [BitVec.extractLsb'_toNat, BitVec.toNat_ofNat]
    rw [Nat.shiftRight_zero, Nat.mod_eq_of_lt (show n < 2 ^ 64 by omega), Nat.mod_eq_of_lt (show n < 2 ^ 4 by omega)]
  · rw [← zH_nat L hj]
theorem zH_rng (L : Int64) {i : Nat} (hi : i < 16) : ∃ n : Nat, n < 16 ∧ zH L i = nI n - 1 := ⟨_, (L.toBitVec.extractLsb' (4 * i) 4).isLt, zH_nat L hi⟩
theorem zH_0 : ∀ i, i < 16 → zH 0 i = -1 := by decide
def sp_holderOf : zq_Sp := fun args h Q => ∃ c : Nat, args = [.ref 12, .int (nI c)] ∧ Q (some (.int (zH (h.2 12 2) c))) h
theorem ok_holderOf : zq_M yX0_holderOf cX0_holderOf 2 (some .int) 1 0 sp_holderOf := by
  refine mX0_holderOf (fun args h Q hs => ?_)
  obtain ⟨c, rfl, h2⟩ := hs
  refine ⟨Nat.le_of_ble_eq_true rfl, ?_⟩
  simp only [xX0_holderOf_0, zi_push, zi_iload, zi_lload, zi_aload, zi_istore, zi_astore, zi_lstore, zi_iinc, zi_i2, zi_i1, zi_idv, zi_l2, zi_ldv, zi_lsh, zi_i2l, zi_l2i, zi_lcmp, zi_dup, zi_dup2, zi_pop, zi_if1, zi_if2, zi_getI, zi_getL, zi_getR, zi_putI, zi_putZ, zi_putL, zi_aldI, zi_aldL, zi_astI, zi_astZ, zi_astL, zi_alen, zi_iret, zi_zret, zi_lret, zi_vret, zi_callV, zi_callS, zi_sw, zi_copyI, zi_copyL, zi_m2, zi_m1, zi_sval, zi_scod, zi_fmt, zi_balen, zi_bald, zi_bret, zi_callT, zq_nth, zq_put1, zq_put2, zq_clr, zq_nl, zq_tk, zq_ps, zq_sw, zq_l0, zq_a, zq_a1, List.length_cons, List.length_nil, List.nil_append, List.cons_append, List.append_nil, List.replicate, Nat.reduceAdd, Nat.reduceSub, Nat.reduceLeDiff, true_and, and_true, List.append_eq, List.cons.injEq, Value.int.injEq, Value.long.injEq, Value.ref.injEq, exists_and_left, exists_eq_left', and_assoc, zc_b, zc_0, zc_1, zc_10, zc_01, lg_cmp_ge, lg_cmp_le, lg_cmp_gt, lg_cmp_lt, lg_cmp_eq, zw_le, zw_lt, reduceIte, true_or, or_true, zw_g0, zw_l0, zw_g1, zw_l1, zw_g2, zw_l2, zw_g3, zw_l3, zw_g5, zw_l5, zw_g6, zw_l6, zw_g7, zw_l7, zw_g9, zw_l9, zw_g10, zw_l10, zw_g15, zw_l15, zw_g16, zw_l16, zw_g48, zw_l48, zw_g50, zw_l50, zw_g57, zw_l57, zw_g97, zw_l97, zw_g100, zw_l100, zw_g200, zw_l200, zw_g999, zw_l999, zw_g9999, zw_l9999]
  exact h2
def sp_put : zq_Sp := fun args h Q => ∃ (c : Nat) (v : Int32), args = [.ref 12, .int (nI c), .int v] ∧ Q none (zq_setL h 12 2 (zP (h.2 12 2) c v))
theorem ok_put : zq_M yX0_put cX0_put 5 none 0 0 sp_put := by
  refine mX0_put (fun args h Q hs => ?_)
  obtain ⟨c, v, rfl, h2⟩ := hs
  refine ⟨Nat.le_of_ble_eq_true rfl, ?_⟩
  simp only [xX0_put_0, zi_push, zi_iload, zi_lload, zi_aload, zi_istore, zi_astore, zi_lstore, zi_iinc, zi_i2, zi_i1, zi_idv, zi_l2, zi_ldv, zi_lsh, zi_i2l, zi_l2i, zi_lcmp, zi_dup, zi_dup2, zi_pop, zi_if1, zi_if2, zi_getI, zi_getL, zi_getR, zi_putI, zi_putZ, zi_putL, zi_aldI, zi_aldL, zi_astI, zi_astZ, zi_astL, zi_alen, zi_iret, zi_zret, zi_lret, zi_vret, zi_callV, zi_callS, zi_sw, zi_copyI, zi_copyL, zi_m2, zi_m1, zi_sval, zi_scod, zi_fmt, zi_balen, zi_bald, zi_bret, zi_callT, zq_nth, zq_put1, zq_put2, zq_clr, zq_nl, zq_tk, zq_ps, zq_sw, zq_l0, zq_a, zq_a1, List.length_cons, List.length_nil, List.nil_append, List.cons_append, List.append_nil, List.replicate, Nat.reduceAdd, Nat.reduceSub, Nat.reduceLeDiff, true_and, and_true, List.append_eq, List.cons.injEq, Value.int.injEq, Value.long.injEq, Value.ref.injEq, exists_and_left, exists_eq_left', and_assoc, zc_b, zc_0, zc_1, zc_10, zc_01, lg_cmp_ge, lg_cmp_le, lg_cmp_gt, lg_cmp_lt, lg_cmp_eq, zw_le, zw_lt, reduceIte, true_or, or_true, zw_g0, zw_l0, zw_g1, zw_l1, zw_g2, zw_l2, zw_g3, zw_l3, zw_g5, zw_l5, zw_g6, zw_l6, zw_g7, zw_l7, zw_g9, zw_l9, zw_g10, zw_l10, zw_g15, zw_l15, zw_g16, zw_l16, zw_g48, zw_l48, zw_g50, zw_l50, zw_g57, zw_l57, zw_g97, zw_l97, zw_g100, zw_l100, zw_g200, zw_l200, zw_g999, zw_l999, zw_g9999, zw_l9999]
  exact h2
