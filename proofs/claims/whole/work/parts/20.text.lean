/-! ===== Text ===== -/
theorem zq_sI (h : zq_H) (p j : Nat) (x : Int32) (q i : Nat) : (zq_setI h p j x).1 q i = if q = p ∧ i = j then x else h.1 q i := rfl
theorem zq_sI2 (h : zq_H) (p j : Nat) (x : Int32) : (zq_setI h p j x).2 = h.2 := rfl
theorem zq_sL (h : zq_H) (p j : Nat) (x : Int64) (q i : Nat) : (zq_setL h p j x).2 q i = if q = p ∧ i = j then x else h.2 q i := rfl
theorem zq_sL1 (h : zq_H) (p j : Nat) (x : Int64) : (zq_setL h p j x).1 = h.1 := rfl
def sp_next : zq_Sp := fun args h Q => args = [.ref 1] ∧ (h.1 1 3 < h.1 1 2 → vp_in (h.1 1 3) 80) ∧ Q (some (.int (if h.1 1 3 < h.1 1 2 then h.1 2 (h.1 1 3).toNatClampNeg else -1))) h
theorem ok_next : zq_M yX8_next cX8_next 1 (some .int) 1 0 sp_next := by
  refine mX8_next (fun args h Q hs => ?_)
  obtain ⟨rfl, h1, h2⟩ := hs
  refine ⟨by decide, ?_⟩
  simp only [xX8_next_24, xX8_next_23, xX8_next_11, xX8_next_0, zi_push, zi_iload, zi_lload, zi_aload, zi_istore, zi_astore, zi_lstore, zi_iinc, zi_i2, zi_i1, zi_idv, zi_l2, zi_ldv, zi_lsh, zi_i2l, zi_l2i, zi_lcmp, zi_dup, zi_dup2, zi_pop, zi_if1, zi_if2, zi_getI, zi_getL, zi_getR, zi_putI, zi_putZ, zi_putL, zi_aldI, zi_aldL, zi_astI, zi_astZ, zi_astL, zi_alen, zi_iret, zi_zret, zi_lret, zi_vret, zi_callV, zi_callS, zi_sw, zi_copyI, zi_copyL, zi_m2, zi_m1, zq_nth, zq_put1, zq_put2, zq_clr, zq_nl, zq_tk, zq_ps, zq_sw, zq_l0, zq_a, zq_a1, List.length_cons, List.length_nil, List.nil_append, List.cons_append, List.append_nil, List.replicate, Nat.reduceAdd, Nat.reduceSub, Nat.reduceLeDiff, true_and, and_true, List.append_eq]
  trace_state
  sorry
