/-! ===== what can be undone grows: the class ===== -/
def zkn (k : Nat) : Nat := if k = 15 then 15 else k + 1
def zun (k : Nat) (und : Nat → Nat → Int32) (bf : Nat → Int32) : Nat → Nat → Int32 := if k = 15 then (fun j => if j = 14 then bf else und (j + 1)) else fun j => if j = k then bf else und j
def sp_remember : zq_Sp := fun args h Q => ∃ w bf c now k und kept, args = [.ref 12, .long w] ∧ XB c now k und kept h ∧ (∀ i, i < c → zH w i = bf i) ∧ ∀ h', XB c now (zkn k) (zun k und bf) kept h' → zq_fr [12, 13] h h' → Q none h'
theorem rm_36 {Q : zq_Q} {h : zq_H} {w : Int64} {k : Nat} (hk : k < 15) (e : h.1 12 3 = nI k) (h2 : Q none (zq_setI (zq_setL h 13 k w) 12 3 (nI (k + 1)))) : xX0_remember_36 Q [some (.ref 12), some (.long w), none] [] h := by
  simp only [xX0_remember_36, zq_sL1, e, zi_push, zi_iload, zi_lload, zi_aload, zi_istore, zi_astore, zi_lstore, zi_iinc, zi_i2, zi_i1, zi_idv, zi_l2, zi_ldv, zi_lsh, zi_i2l, zi_l2i, zi_lcmp, zi_dup, zi_dup2, zi_pop, zi_if1, zi_if2, zi_getI, zi_getL, zi_getR, zi_putI, zi_putZ, zi_putL, zi_aldI, zi_aldL, zi_astI, zi_astZ, zi_astL, zi_alen, zi_iret, zi_zret, zi_lret, zi_vret, zi_callV, zi_callS, zi_sw, zi_copyI, zi_copyL, zi_m2, zi_m1, zi_sval, zi_scod, zi_fmt, zi_balen, zi_bald, zi_bret, zi_callT, zq_nth, zq_put1, zq_put2, zq_clr, zq_nl, zq_tk, zq_ps, zq_sw, zq_l0, zq_a, zq_a1, List.length_cons, List.length_nil, List.nil_append, List.cons_append, List.append_nil, List.replicate, Nat.reduceAdd, Nat.reduceSub, Nat.reduceLeDiff, true_and, and_true, List.append_eq, List.cons.injEq, Value.int.injEq, Value.long.injEq, Value.ref.injEq, exists_and_left, exists_eq_left', and_assoc, zc_b, zc_0, zc_1, zc_10, zc_01, lg_cmp_ge, lg_cmp_le, lg_cmp_gt, lg_cmp_lt, lg_cmp_eq, zw_le, zw_lt, reduceIte, true_or, or_true, zw_g0, zw_l0, zw_g1, zw_l1, zw_g2, zw_l2, zw_g3, zw_l3, zw_g5, zw_l5, zw_g6, zw_l6, zw_g7, zw_l7, zw_g9, zw_l9, zw_g10, zw_l10, zw_g15, zw_l15, zw_g16, zw_l16, zw_g48, zw_l48, zw_g50, zw_l50, zw_g57, zw_l57, zw_g97, zw_l97, zw_g100, zw_l100, zw_g200, zw_l200, zw_g999, zw_l999, zw_g9999, zw_l9999]
  rw [nI_clamp (by omega), nI_1]
  exact ⟨vp_in_nI (by omega) (by decide), h2⟩
theorem XB_push {c k : Nat} {now : Nat → Int32} {und : Nat → Nat → Int32} {kept : Nat → Option (Nat → Int32)} {h : zq_H} {w : Int64} {bf : Nat → Int32} (hB : XB c now k und kept h) (hk : k < 15) (hw : ∀ i, i < c → zH w i = bf i) : XB c now (k + 1) (fun j => if j = k then bf else und j) kept (zq_setI (zq_setL h 13 k w) 12 3 (nI (k + 1))) := by
  obtain ⟨b1, b2, b3, b4, m, b5, b6, b7⟩ := hB
  refine ⟨b1, fun i hi => by simpa [zq_sI, zq_sI2, zq_sL] using b2 i hi, ⟨by simp [zq_sI], by omega⟩, fun j hj i hi => ?_, m, b5, by simpa [zq_sI, zq_sL1] using b6, fun j hj => by simpa [zq_sI, zq_sI2, zq_sL] using b7 j hj⟩
  by_cases q : j = k
  · simpa [zq_sI, zq_sI2, zq_sL, q] using hw i hi
  · simpa [zq_sI, zq_sI2, zq_sL, q] using b4 j (by omega) i hi
theorem ok_remember : zq_M yX0_remember cX0_remember 3 none 0 1 sp_remember := by
  refine mX0_remember (by decide) (fun args h Q hs => ?_)
  obtain ⟨w, bf, c, now, k, und, kept, rfl, hB, hw, h2⟩ := hs
  have e := hB.2.2.1.1
  have hk := hB.2.2.1.2
  refine ⟨Nat.le_of_ble_eq_true rfl, ?_⟩
  simp only [xX0_remember_0, e, zi_push, zi_iload, zi_lload, zi_aload, zi_istore, zi_astore, zi_lstore, zi_iinc, zi_i2, zi_i1, zi_idv, zi_l2, zi_ldv, zi_lsh, zi_i2l, zi_l2i, zi_lcmp, zi_dup, zi_dup2, zi_pop, zi_if1, zi_if2, zi_getI, zi_getL, zi_getR, zi_putI, zi_putZ, zi_putL, zi_aldI, zi_aldL, zi_astI, zi_astZ, zi_astL, zi_alen, zi_iret, zi_zret, zi_lret, zi_vret, zi_callV, zi_callS, zi_sw, zi_copyI, zi_copyL, zi_m2, zi_m1, zi_sval, zi_scod, zi_fmt, zi_balen, zi_bald, zi_bret, zi_callT, zq_nth, zq_put1, zq_put2, zq_clr, zq_nl, zq_tk, zq_ps, zq_sw, zq_l0, zq_a, zq_a1, List.length_cons, List.length_nil, List.nil_append, List.cons_append, List.append_nil, List.replicate, Nat.reduceAdd, Nat.reduceSub, Nat.reduceLeDiff, true_and, and_true, List.append_eq, List.cons.injEq, Value.int.injEq, Value.long.injEq, Value.ref.injEq, exists_and_left, exists_eq_left', and_assoc, zc_b, zc_0, zc_1, zc_10, zc_01, lg_cmp_ge, lg_cmp_le, lg_cmp_gt, lg_cmp_lt, lg_cmp_eq, zw_le, zw_lt, reduceIte, true_or, or_true, zw_g0, zw_l0, zw_g1, zw_l1, zw_g2, zw_l2, zw_g3, zw_l3, zw_g5, zw_l5, zw_g6, zw_l6, zw_g7, zw_l7, zw_g9, zw_l9, zw_g10, zw_l10, zw_g15, zw_l15, zw_g16, zw_l16, zw_g48, zw_l48, zw_g50, zw_l50, zw_g57, zw_l57, zw_g97, zw_l97, zw_g100, zw_l100, zw_g200, zw_l200, zw_g999, zw_l999, zw_g9999, zw_l9999]
  refine ⟨fun q => ?_, fun q => ?_⟩
  · have q1 : k = 15 := (nI_eq (b := 15) (by omega) (by decide)).mp q
    subst q1
    simp only [xX0_remember_9, e, zq_sI, zi_push, zi_iload, zi_lload, zi_aload, zi_istore, zi_astore, zi_lstore, zi_iinc, zi_i2, zi_i1, zi_idv, zi_l2, zi_ldv, zi_lsh, zi_i2l, zi_l2i, zi_lcmp, zi_dup, zi_dup2, zi_pop, zi_if1, zi_if2, zi_getI, zi_getL, zi_getR, zi_putI, zi_putZ, zi_putL, zi_aldI, zi_aldL, zi_astI, zi_astZ, zi_astL, zi_alen, zi_iret, zi_zret, zi_lret, zi_vret, zi_callV, zi_callS, zi_sw, zi_copyI, zi_copyL, zi_m2, zi_m1, zi_sval, zi_scod, zi_fmt, zi_balen, zi_bald, zi_bret, zi_callT, zq_nth, zq_put1, zq_put2, zq_clr, zq_nl, zq_tk, zq_ps, zq_sw, zq_l0, zq_a, zq_a1, List.length_cons, List.length_nil, List.nil_append, List.cons_append, List.append_nil, List.replicate, Nat.reduceAdd, Nat.reduceSub, Nat.reduceLeDiff, true_and, and_true, List.append_eq, List.cons.injEq, Value.int.injEq, Value.long.injEq, Value.ref.injEq, exists_and_left, exists_eq_left', and_assoc, zc_b, zc_0, zc_1, zc_10, zc_01, lg_cmp_ge, lg_cmp_le, lg_cmp_gt, lg_cmp_lt, lg_cmp_eq, zw_le, zw_lt, reduceIte, true_or, or_true, zw_g0, zw_l0, zw_g1, zw_l1, zw_g2, zw_l2, zw_g3, zw_l3, zw_g5, zw_l5, zw_g6, zw_l6, zw_g7, zw_l7, zw_g9, zw_l9, zw_g10, zw_l10, zw_g15, zw_l15, zw_g16, zw_l16, zw_g48, zw_l48, zw_g50, zw_l50, zw_g57, zw_l57, zw_g97, zw_l97, zw_g100, zw_l100, zw_g200, zw_l200, zw_g999, zw_l999, zw_g9999, zw_l9999]
    rw [show nI 15 - 1 = nI 14 by decide]
    obtain ⟨b1, b2, b3, b4, m, b5, b6, b7⟩ := hB
    refine ⟨by decide, by decide, by decide, by decide, by decide, rm_36 (k := 14) (by decide) (by simp [zq_sI]) (h2 _ ?_ ?_)⟩
    · unfold zkn zun
      rw [if_pos rfl, if_pos rfl]
      refine XB_push (und := fun j => und (j + 1)) ⟨b1, fun i hi => by simpa [zq_sI, zq_sI2] using b2 i hi, ⟨by simp [zq_sI], by decide⟩, fun j hj i hi => ?_, m, b5, by simpa [zq_sI] using b6, fun j hj => by simpa [zq_sI, zq_sI2] using b7 j hj⟩ (by decide) hw
      have z := b4 (j + 1) (by omega) i hi
      have e0 : va_cpy (h.2 13) (h.2 13) 1 0 14 j = h.2 13 (j + 1) := by
        unfold va_cpy
        first | (rw [if_pos (by omega)]; congr 1; omega) | (simp; omega) | grind
      show zH (va_cpy (h.2 13) (h.2 13) 1 0 14 j) i = und (j + 1) i
      rw [e0]
      exact z
    · have f1 : zq_fr [12, 13] h ((zq_setI h 12 3 (nI 14)).1, fun q i => if q = 13 then va_cpy ((zq_setI h 12 3 (nI 14)).2 13) ((zq_setI h 12 3 (nI 14)).2 13) (Int32.toNatClampNeg 1) (Int32.toNatClampNeg 0) (nI 14).toNatClampNeg i else (zq_setI h 12 3 (nI 14)).2 q i) := by
        intro p hp
        have q13 : ¬ p = 13 := fun z => hp (by rw [z]; decide)
        refine ⟨(zq_fr_I (ps := [12, 13]) (h := h) (p := 12) (j := 3) (x := nI 14) zq_fr_rf (by decide) p hp).1, ?_⟩
        funext i
        show (if p = 13 then _ else _) = _
        rw [if_neg q13]
        rfl
      exact zq_fr_I (zq_fr_L f1 (by decide)) (by decide)
  · have q1 : ¬ k = 15 := fun z => q (by rw [z]; rfl)
    refine rm_36 (by omega) e (h2 _ ?_ (zq_fr_I (zq_fr_L zq_fr_rf (by decide)) (by decide)))
    unfold zkn zun
    rw [if_neg q1, if_neg q1]
    exact XB_push hB (by omega) hw
