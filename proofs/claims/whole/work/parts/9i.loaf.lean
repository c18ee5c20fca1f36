/-! ===== THE LOAF told by THE TEXT ===== -/
abbrev zlfL (s : Nat → Int32) (e q : Nat) : Nat := if zisl s e q 9 then q + 1 else q
abbrev zlfS (s : Nat → Int32) (e q : Nat) : Nat := if q < e ∧ s q = 42 then q + 1 else q
/-- where cell i begins -/
def zlfp (s : Nat → Int32) (e : Nat) : Nat → Nat
  | 0 => 0
  | i + 1 => zlfS s e (zlfL s e (zlfp s e i + 1))
abbrev zlD (s : Nat → Int32) (e p : Nat) : Prop := zisd s e p ∧ 1 ≤ zdv s p
/-- how many cells, t at the most -/
def zlc (s : Nat → Int32) (e : Nat) : Nat → Nat
  | 0 => 0
  | t + 1 => if zlc s e t = t ∧ zlD s e (zlfp s e t) then t + 1 else zlc s e t
theorem zlc_le (s : Nat → Int32) (e : Nat) : ∀ t, zlc s e t ≤ t
  | 0 => Nat.le_refl _
  | t + 1 => by
    have := zlc_le s e t
    rw [zlc]
    split <;> omega
theorem zlc_stop {s : Nat → Int32} {e t : Nat} (h : zlc s e t = t) (h2 : ¬ zlD s e (zlfp s e t)) : ∀ k, zlc s e (t + k) = t
  | 0 => h
  | k + 1 => by
    have ih := zlc_stop h h2 k
    show zlc s e (t + k + 1) = t
    rw [zlc, ih]
    by_cases q : k = 0
    · subst q
      rw [if_neg (fun z => h2 z.2)]
    · rw [if_neg (fun z => by have := z.1; omega)]
def zlfN (s : Nat → Int32) (n : Nat) : Nat := zlc s (min n 64) 16
def zlfP (s : Nat → Int32) (n : Nat) : Nat := zlfp s (min n 64) (zlfN s n)
def zlcr (s : Nat → Int32) (e i : Nat) : Nat := zdv s (zlfp s e i)
def zlra (s : Nat → Int32) (e i : Nat) : Nat := if zisl s e (zlfp s e i + 1) 9 then zlv s (zlfp s e i + 1) + 1 else 0
def zlcu (s : Nat → Int32) (e i : Nat) : Nat := if zlfL s e (zlfp s e i + 1) < e ∧ s (zlfL s e (zlfp s e i + 1)) = 42 then 1 else 0
theorem zlfp_e {s : Nat → Int32} {e : Nat} : ∀ t, zlc s e t = t → zlfp s e t ≤ e
  | 0, _ => Nat.zero_le _
  | t + 1, h => by
    rw [zlc] at h
    split at h
    · next q =>
      have h1 := q.2.1.1
      show zlfS s e (zlfL s e (zlfp s e t + 1)) ≤ e
      have h2 : zlfL s e (zlfp s e t + 1) ≤ e := by
        unfold zlfL
        split
        · next y => exact y.1
        · exact h1
      unfold zlfS
      split
      · next y => exact y.1
      · exact h2
    · have := zlc_le s e t
      omega
def zlfx : List Nat := [1, 44, 45, 46, 47]
def zlrow (s : Nat → Int32) (e c p0 p1 p2 : Nat) (h : zq_H) : Prop := ∀ i, i < c → h.1 p0 i = nI (zlcr s e i) ∧ h.1 p1 i = nI (zlra s e i) ∧ h.1 p2 i = nI (zlcu s e i)
def sp_xLread : zq_Sp := fun args h Q => ∃ n s, args = [.ref 44, .ref 1] ∧ XT n s h ∧
  (zlfP s n = n → ∀ h', XT n s h' → h'.1 44 3 = nI (zlfN s n) → zlrow s (min n 64) (zlfN s n) 45 46 47 h' → zq_fr zlfx h h' → Q (some (.int 1)) h') ∧
  (¬ zlfP s n = n → ∀ h', XT n s h' → h'.1 1 3 = nI (zlfP s n) → zq_fr zlfx h h' → Q (some (.int 0)) h')
def I_xLread (Q : zq_Q) (z : zq_H × (Nat × (Nat → Int32)) × Nat) : zq_P := fun ls st h => match z with
  | (h0, (n, s), c) => ∃ s2 s3, ls = [some (.ref 44), some (.ref 1), s2, s3] ∧ st = [] ∧ c ≤ 16 ∧ XD n s (min n 64) (zlfp s (min n 64) c) h ∧ zlc s (min n 64) c = c ∧ h.1 44 3 = nI c ∧ zlrow s (min n 64) c 45 46 47 h ∧ zq_fr zlfx h0 h ∧
  (zlfP s n = n → ∀ h', XT n s h' → h'.1 44 3 = nI (zlfN s n) → zlrow s (min n 64) (zlfN s n) 45 46 47 h' → zq_fr zlfx h0 h' → Q (some (.int 1)) h') ∧
  (¬ zlfP s n = n → ∀ h', XT n s h' → h'.1 1 3 = nI (zlfP s n) → zq_fr zlfx h0 h' → Q (some (.int 0)) h')
theorem ok_xLread : zq_M yX2_read cX2_read 4 (some .boolean) 1 2 sp_xLread := by
  refine mX2_read ok_xStart (by decide) ok_xFin (by decide) ok_xDigit (by decide) ok_xLetter (by decide) ok_xSkip (by decide) (fun z => 20 - z.2.2) I_xLread (fun args h Q hs => ?_) (fun Q z ls st h hi => ?_)
  · obtain ⟨n, s, rfl, hT, k1, k2⟩ := hs
    refine ⟨Nat.le_of_ble_eq_true rfl, ?_⟩
    simp only [xX2_read_0, zi_push, zi_iload, zi_lload, zi_aload, zi_istore, zi_astore, zi_lstore, zi_iinc, zi_i2, zi_i1, zi_idv, zi_l2, zi_ldv, zi_lsh, zi_i2l, zi_l2i, zi_lcmp, zi_dup, zi_dup2, zi_pop, zi_if1, zi_if2, zi_getI, zi_getL, zi_getR, zi_putI, zi_putZ, zi_putL, zi_aldI, zi_aldL, zi_astI, zi_astZ, zi_astL, zi_alen, zi_iret, zi_zret, zi_lret, zi_vret, zi_callV, zi_callS, zi_sw, zi_copyI, zi_copyL, zi_m2, zi_m1, zi_sval, zi_scod, zi_fmt, zi_balen, zi_bald, zi_bret, zi_callT, zq_nth, zq_put1, zq_put2, zq_clr, zq_nl, zq_tk, zq_ps, zq_sw, zq_l0, zq_a, zq_a1, List.length_cons, List.length_nil, List.nil_append, List.cons_append, List.append_nil, List.replicate, Nat.reduceAdd, Nat.reduceSub, Nat.reduceLeDiff, true_and, and_true, List.append_eq, List.cons.injEq, Value.int.injEq, Value.long.injEq, Value.ref.injEq, exists_and_left, exists_eq_left', and_assoc, zc_b, zc_0, zc_1, zc_10, zc_01, lg_cmp_ge, lg_cmp_le, lg_cmp_gt, lg_cmp_lt, lg_cmp_eq, zw_le, zw_lt, reduceIte, true_or, or_true, zw_g0, zw_l0, zw_g1, zw_l1, zw_g2, zw_l2, zw_g3, zw_l3, zw_g5, zw_l5, zw_g6, zw_l6, zw_g7, zw_l7, zw_g9, zw_l9, zw_g10, zw_l10, zw_g15, zw_l15, zw_g16, zw_l16, zw_g48, zw_l48, zw_g50, zw_l50, zw_g57, zw_l57, zw_g97, zw_l97, zw_g100, zw_l100, zw_g200, zw_l200, zw_g999, zw_l999, zw_g9999, zw_l9999]
    refine ⟨n, s, 64, rfl, by decide, hT, fun h1 d1 f1 => ?_⟩
    simp only [zi_push, zi_iload, zi_lload, zi_aload, zi_istore, zi_astore, zi_lstore, zi_iinc, zi_i2, zi_i1, zi_idv, zi_l2, zi_ldv, zi_lsh, zi_i2l, zi_l2i, zi_lcmp, zi_dup, zi_dup2, zi_pop, zi_if1, zi_if2, zi_getI, zi_getL, zi_getR, zi_putI, zi_putZ, zi_putL, zi_aldI, zi_aldL, zi_astI, zi_astZ, zi_astL, zi_alen, zi_iret, zi_zret, zi_lret, zi_vret, zi_callV, zi_callS, zi_sw, zi_copyI, zi_copyL, zi_m2, zi_m1, zi_sval, zi_scod, zi_fmt, zi_balen, zi_bald, zi_bret, zi_callT, zq_nth, zq_put1, zq_put2, zq_clr, zq_nl, zq_tk, zq_ps, zq_sw, zq_l0, zq_a, zq_a1, List.length_cons, List.length_nil, List.nil_append, List.cons_append, List.append_nil, List.replicate, Nat.reduceAdd, Nat.reduceSub, Nat.reduceLeDiff, true_and, and_true, List.append_eq, List.cons.injEq, Value.int.injEq, Value.long.injEq, Value.ref.injEq, exists_and_left, exists_eq_left', and_assoc, zc_b, zc_0, zc_1, zc_10, zc_01, lg_cmp_ge, lg_cmp_le, lg_cmp_gt, lg_cmp_lt, lg_cmp_eq, zw_le, zw_lt, reduceIte, true_or, or_true, zw_g0, zw_l0, zw_g1, zw_l1, zw_g2, zw_l2, zw_g3, zw_l3, zw_g5, zw_l5, zw_g6, zw_l6, zw_g7, zw_l7, zw_g9, zw_l9, zw_g10, zw_l10, zw_g15, zw_l15, zw_g16, zw_l16, zw_g48, zw_l48, zw_g50, zw_l50, zw_g57, zw_l57, zw_g97, zw_l97, zw_g100, zw_l100, zw_g200, zw_l200, zw_g999, zw_l999, zw_g9999, zw_l9999]
    exact ⟨(h, (n, s), 0), none, none, rfl, rfl, Nat.zero_le _, XD_fr d1 (zq_fr_I (ps := [44]) zq_fr_rf (by decide)) (by decide), rfl, by simp [zq_sI]; rfl, fun i hi => absurd hi (Nat.not_lt_zero _), zq_fr_I (zq_fr_w f1 (by decide)) (by decide), k1, k2⟩
  · obtain ⟨h0, ⟨n, s⟩, c⟩ := z
    obtain ⟨s2, s3, rfl, rfl, hc, hD, hz, e3, hr, hf, k1, k2⟩ := hi
    have hn := hD.1.2.1
    have hpe := hD.2.2.2.1
    have c16 : ((16 : Int32) ≤ nI c) = (c = 16) := zl_ge (n := 16) hc (by decide)
    have stop : zlfN s n = c → (n ≤ zlfp s (min n 64) c → Q (some (.int 1)) h) ∧ (¬ n ≤ zlfp s (min n 64) c → Q (some (.int 0)) h) := fun e => by
      have eP : zlfP s n = zlfp s (min n 64) c := by
        unfold zlfP
        rw [e]
      rw [eP, e] at k1
      rw [eP] at k2
      exact ⟨fun q => k1 (by omega) h hD.1 e3 hr hf, fun q => k2 (by omega) h hD.1 hD.2.2.1 hf⟩
    have fin112 : zlfN s n = c → ∀ ls9, xX2_read_112 sp_xStart sp_xFin sp_xDigit sp_xLetter sp_xSkip (fun ls st h => ∃ b9 : zq_H × (Nat × (Nat → Int32)) × Nat, 20 - b9.2.2 < 20 - c ∧ I_xLread Q b9 ls st h) Q (some (.ref 44) :: some (.ref 1) :: ls9) [] h := fun e ls9 => by
      have st := stop e
      simp only [xX2_read_112, zi_push, zi_iload, zi_lload, zi_aload, zi_istore, zi_astore, zi_lstore, zi_iinc, zi_i2, zi_i1, zi_idv, zi_l2, zi_ldv, zi_lsh, zi_i2l, zi_l2i, zi_lcmp, zi_dup, zi_dup2, zi_pop, zi_if1, zi_if2, zi_getI, zi_getL, zi_getR, zi_putI, zi_putZ, zi_putL, zi_aldI, zi_aldL, zi_astI, zi_astZ, zi_astL, zi_alen, zi_iret, zi_zret, zi_lret, zi_vret, zi_callV, zi_callS, zi_sw, zi_copyI, zi_copyL, zi_m2, zi_m1, zi_sval, zi_scod, zi_fmt, zi_balen, zi_bald, zi_bret, zi_callT, zq_nth, zq_put1, zq_put2, zq_clr, zq_nl, zq_tk, zq_ps, zq_sw, zq_l0, zq_a, zq_a1, List.length_cons, List.length_nil, List.nil_append, List.cons_append, List.append_nil, List.replicate, Nat.reduceAdd, Nat.reduceSub, Nat.reduceLeDiff, true_and, and_true, List.append_eq, List.cons.injEq, Value.int.injEq, Value.long.injEq, Value.ref.injEq, exists_and_left, exists_eq_left', and_assoc, zc_b, zc_0, zc_1, zc_10, zc_01, lg_cmp_ge, lg_cmp_le, lg_cmp_gt, lg_cmp_lt, lg_cmp_eq, zw_le, zw_lt, reduceIte, true_or, or_true, zw_g0, zw_l0, zw_g1, zw_l1, zw_g2, zw_l2, zw_g3, zw_l3, zw_g5, zw_l5, zw_g6, zw_l6, zw_g7, zw_l7, zw_g9, zw_l9, zw_g10, zw_l10, zw_g15, zw_l15, zw_g16, zw_l16, zw_g48, zw_l48, zw_g50, zw_l50, zw_g57, zw_l57, zw_g97, zw_l97, zw_g100, zw_l100, zw_g200, zw_l200, zw_g999, zw_l999, zw_g9999, zw_l9999]
      refine ⟨n, s, _, _, rfl, hD, fun q => ?_, fun q => ?_⟩
      · simp only [zi_push, zi_iload, zi_lload, zi_aload, zi_istore, zi_astore, zi_lstore, zi_iinc, zi_i2, zi_i1, zi_idv, zi_l2, zi_ldv, zi_lsh, zi_i2l, zi_l2i, zi_lcmp, zi_dup, zi_dup2, zi_pop, zi_if1, zi_if2, zi_getI, zi_getL, zi_getR, zi_putI, zi_putZ, zi_putL, zi_aldI, zi_aldL, zi_astI, zi_astZ, zi_astL, zi_alen, zi_iret, zi_zret, zi_lret, zi_vret, zi_callV, zi_callS, zi_sw, zi_copyI, zi_copyL, zi_m2, zi_m1, zi_sval, zi_scod, zi_fmt, zi_balen, zi_bald, zi_bret, zi_callT, zq_nth, zq_put1, zq_put2, zq_clr, zq_nl, zq_tk, zq_ps, zq_sw, zq_l0, zq_a, zq_a1, List.length_cons, List.length_nil, List.nil_append, List.cons_append, List.append_nil, List.replicate, Nat.reduceAdd, Nat.reduceSub, Nat.reduceLeDiff, true_and, and_true, List.append_eq, List.cons.injEq, Value.int.injEq, Value.long.injEq, Value.ref.injEq, exists_and_left, exists_eq_left', and_assoc, zc_b, zc_0, zc_1, zc_10, zc_01, lg_cmp_ge, lg_cmp_le, lg_cmp_gt, lg_cmp_lt, lg_cmp_eq, zw_le, zw_lt, reduceIte, true_or, or_true, zw_g0, zw_l0, zw_g1, zw_l1, zw_g2, zw_l2, zw_g3, zw_l3, zw_g5, zw_l5, zw_g6, zw_l6, zw_g7, zw_l7, zw_g9, zw_l9, zw_g10, zw_l10, zw_g15, zw_l15, zw_g16, zw_l16, zw_g48, zw_l48, zw_g50, zw_l50, zw_g57, zw_l57, zw_g97, zw_l97, zw_g100, zw_l100, zw_g200, zw_l200, zw_g999, zw_l999, zw_g9999, zw_l9999]
        exact st.1 q
      · simp only [zi_push, zi_iload, zi_lload, zi_aload, zi_istore, zi_astore, zi_lstore, zi_iinc, zi_i2, zi_i1, zi_idv, zi_l2, zi_ldv, zi_lsh, zi_i2l, zi_l2i, zi_lcmp, zi_dup, zi_dup2, zi_pop, zi_if1, zi_if2, zi_getI, zi_getL, zi_getR, zi_putI, zi_putZ, zi_putL, zi_aldI, zi_aldL, zi_astI, zi_astZ, zi_astL, zi_alen, zi_iret, zi_zret, zi_lret, zi_vret, zi_callV, zi_callS, zi_sw, zi_copyI, zi_copyL, zi_m2, zi_m1, zi_sval, zi_scod, zi_fmt, zi_balen, zi_bald, zi_bret, zi_callT, zq_nth, zq_put1, zq_put2, zq_clr, zq_nl, zq_tk, zq_ps, zq_sw, zq_l0, zq_a, zq_a1, List.length_cons, List.length_nil, List.nil_append, List.cons_append, List.append_nil, List.replicate, Nat.reduceAdd, Nat.reduceSub, Nat.reduceLeDiff, true_and, and_true, List.append_eq, List.cons.injEq, Value.int.injEq, Value.long.injEq, Value.ref.injEq, exists_and_left, exists_eq_left', and_assoc, zc_b, zc_0, zc_1, zc_10, zc_01, lg_cmp_ge, lg_cmp_le, lg_cmp_gt, lg_cmp_lt, lg_cmp_eq, zw_le, zw_lt, reduceIte, true_or, or_true, zw_g0, zw_l0, zw_g1, zw_l1, zw_g2, zw_l2, zw_g3, zw_l3, zw_g5, zw_l5, zw_g6, zw_l6, zw_g7, zw_l7, zw_g9, zw_l9, zw_g10, zw_l10, zw_g15, zw_l15, zw_g16, zw_l16, zw_g48, zw_l48, zw_g50, zw_l50, zw_g57, zw_l57, zw_g97, zw_l97, zw_g100, zw_l100, zw_g200, zw_l200, zw_g999, zw_l999, zw_g9999, zw_l9999]
        exact st.2 q
    simp only [xX2_read_11, xX2_read_20, e3, c16, zi_push, zi_iload, zi_lload, zi_aload, zi_istore, zi_astore, zi_lstore, zi_iinc, zi_i2, zi_i1, zi_idv, zi_l2, zi_ldv, zi_lsh, zi_i2l, zi_l2i, zi_lcmp, zi_dup, zi_dup2, zi_pop, zi_if1, zi_if2, zi_getI, zi_getL, zi_getR, zi_putI, zi_putZ, zi_putL, zi_aldI, zi_aldL, zi_astI, zi_astZ, zi_astL, zi_alen, zi_iret, zi_zret, zi_lret, zi_vret, zi_callV, zi_callS, zi_sw, zi_copyI, zi_copyL, zi_m2, zi_m1, zi_sval, zi_scod, zi_fmt, zi_balen, zi_bald, zi_bret, zi_callT, zq_nth, zq_put1, zq_put2, zq_clr, zq_nl, zq_tk, zq_ps, zq_sw, zq_l0, zq_a, zq_a1, List.length_cons, List.length_nil, List.nil_append, List.cons_append, List.append_nil, List.replicate, Nat.reduceAdd, Nat.reduceSub, Nat.reduceLeDiff, true_and, and_true, List.append_eq, List.cons.injEq, Value.int.injEq, Value.long.injEq, Value.ref.injEq, exists_and_left, exists_eq_left', and_assoc, zc_b, zc_0, zc_1, zc_10, zc_01, lg_cmp_ge, lg_cmp_le, lg_cmp_gt, lg_cmp_lt, lg_cmp_eq, zw_le, zw_lt, reduceIte, true_or, or_true, zw_g0, zw_l0, zw_g1, zw_l1, zw_g2, zw_l2, zw_g3, zw_l3, zw_g5, zw_l5, zw_g6, zw_l6, zw_g7, zw_l7, zw_g9, zw_l9, zw_g10, zw_l10, zw_g15, zw_l15, zw_g16, zw_l16, zw_g48, zw_l48, zw_g50, zw_l50, zw_g57, zw_l57, zw_g97, zw_l97, zw_g100, zw_l100, zw_g200, zw_l200, zw_g999, zw_l999, zw_g9999, zw_l9999]
    refine ⟨fun q => ?_, fun q => ⟨n, s, _, _, rfl, hD, fun q1 => ?_, fun q1 => ?_⟩⟩
    · subst q
      exact fin112 hz _
    · have nD : ¬ zlD s (min n 64) (zlfp s (min n 64) c) := fun z => by
        have := z.1.1
        omega
      have eN := zlc_stop hz nD (16 - c)
      rw [show c + (16 - c) = 16 by omega] at eN
      simp only [zc_10, not_true_eq_false, not_false_eq_true, forall_const, true_and, and_true, false_and, and_false, if_true, if_false, reduceIte, implies_true, and_self, ite_self, true_or, or_true, false_or, or_false, true_implies, false_implies, Classical.not_not, false_imp_iff, not_false_iff, zi_push, zi_iload, zi_lload, zi_aload, zi_istore, zi_astore, zi_lstore, zi_iinc, zi_i2, zi_i1, zi_idv, zi_l2, zi_ldv, zi_lsh, zi_i2l, zi_l2i, zi_lcmp, zi_dup, zi_dup2, zi_pop, zi_if1, zi_if2, zi_getI, zi_getL, zi_getR, zi_putI, zi_putZ, zi_putL, zi_aldI, zi_aldL, zi_astI, zi_astZ, zi_astL, zi_alen, zi_iret, zi_zret, zi_lret, zi_vret, zi_callV, zi_callS, zi_sw, zi_copyI, zi_copyL, zi_m2, zi_m1, zi_sval, zi_scod, zi_fmt, zi_balen, zi_bald, zi_bret, zi_callT, zq_nth, zq_put1, zq_put2, zq_clr, zq_nl, zq_tk, zq_ps, zq_sw, zq_l0, zq_a, zq_a1, List.length_cons, List.length_nil, List.nil_append, List.cons_append, List.append_nil, List.replicate, Nat.reduceAdd, Nat.reduceSub, Nat.reduceLeDiff, true_and, and_true, List.append_eq, List.cons.injEq, Value.int.injEq, Value.long.injEq, Value.ref.injEq, exists_and_left, exists_eq_left', and_assoc, zc_b, zc_0, zc_1, zc_10, zc_01, lg_cmp_ge, lg_cmp_le, lg_cmp_gt, lg_cmp_lt, lg_cmp_eq, zw_le, zw_lt, reduceIte, true_or, or_true, zw_g0, zw_l0, zw_g1, zw_l1, zw_g2, zw_l2, zw_g3, zw_l3, zw_g5, zw_l5, zw_g6, zw_l6, zw_g7, zw_l7, zw_g9, zw_l9, zw_g10, zw_l10, zw_g15, zw_l15, zw_g16, zw_l16, zw_g48, zw_l48, zw_g50, zw_l50, zw_g57, zw_l57, zw_g97, zw_l97, zw_g100, zw_l100, zw_g200, zw_l200, zw_g999, zw_l999, zw_g9999, zw_l9999]
      exact fin112 eN _
    · simp only [xX2_read_27, not_true_eq_false, not_false_eq_true, forall_const, true_and, and_true, false_and, and_false, if_true, if_false, reduceIte, implies_true, and_self, ite_self, true_or, or_true, false_or, or_false, true_implies, false_implies, Classical.not_not, false_imp_iff, not_false_iff, zi_push, zi_iload, zi_lload, zi_aload, zi_istore, zi_astore, zi_lstore, zi_iinc, zi_i2, zi_i1, zi_idv, zi_l2, zi_ldv, zi_lsh, zi_i2l, zi_l2i, zi_lcmp, zi_dup, zi_dup2, zi_pop, zi_if1, zi_if2, zi_getI, zi_getL, zi_getR, zi_putI, zi_putZ, zi_putL, zi_aldI, zi_aldL, zi_astI, zi_astZ, zi_astL, zi_alen, zi_iret, zi_zret, zi_lret, zi_vret, zi_callV, zi_callS, zi_sw, zi_copyI, zi_copyL, zi_m2, zi_m1, zi_sval, zi_scod, zi_fmt, zi_balen, zi_bald, zi_bret, zi_callT, zq_nth, zq_put1, zq_put2, zq_clr, zq_nl, zq_tk, zq_ps, zq_sw, zq_l0, zq_a, zq_a1, List.length_cons, List.length_nil, List.nil_append, List.cons_append, List.append_nil, List.replicate, Nat.reduceAdd, Nat.reduceSub, Nat.reduceLeDiff, true_and, and_true, List.append_eq, List.cons.injEq, Value.int.injEq, Value.long.injEq, Value.ref.injEq, exists_and_left, exists_eq_left', and_assoc, zc_b, zc_0, zc_1, zc_10, zc_01, lg_cmp_ge, lg_cmp_le, lg_cmp_gt, lg_cmp_lt, lg_cmp_eq, zw_le, zw_lt, reduceIte, true_or, or_true, zw_g0, zw_l0, zw_g1, zw_l1, zw_g2, zw_l2, zw_g3, zw_l3, zw_g5, zw_l5, zw_g6, zw_l6, zw_g7, zw_l7, zw_g9, zw_l9, zw_g10, zw_l10, zw_g15, zw_l15, zw_g16, zw_l16, zw_g48, zw_l48, zw_g50, zw_l50, zw_g57, zw_l57, zw_g97, zw_l97, zw_g100, zw_l100, zw_g200, zw_l200, zw_g999, zw_l999, zw_g9999, zw_l9999]
      refine ⟨n, s, _, _, 1, rfl, by decide, hD, fun q2 h1 d1 f1 => ?_, fun q2 => ?_⟩
      · have lv := (zdv_eq q2.1).2
        have eN1 : zlc s (min n 64) (c + 1) = c + 1 := by rw [zlc, if_pos ⟨hz, q2⟩]
        have e0 : (0 ≤ nI (zdv s (zlfp s (min n 64) c))) = True := eq_true (nI_pos' (by omega))
        have a3 : h1.1 44 3 = nI c := by rw [(f1 44 (by decide)).1]; exact e3
        have v16 : vp_in (nI c) 16 = True := eq_true (vp_in_nI (by omega) (by decide))
        have ci := nI_clamp (show c < 2 ^ 31 by omega)
        simp only [xX2_read_39, e0, a3, v16, ci, not_true_eq_false, not_false_eq_true, forall_const, true_and, and_true, false_and, and_false, if_true, if_false, reduceIte, implies_true, and_self, ite_self, true_or, or_true, false_or, or_false, true_implies, false_implies, Classical.not_not, false_imp_iff, not_false_iff, zi_push, zi_iload, zi_lload, zi_aload, zi_istore, zi_astore, zi_lstore, zi_iinc, zi_i2, zi_i1, zi_idv, zi_l2, zi_ldv, zi_lsh, zi_i2l, zi_l2i, zi_lcmp, zi_dup, zi_dup2, zi_pop, zi_if1, zi_if2, zi_getI, zi_getL, zi_getR, zi_putI, zi_putZ, zi_putL, zi_aldI, zi_aldL, zi_astI, zi_astZ, zi_astL, zi_alen, zi_iret, zi_zret, zi_lret, zi_vret, zi_callV, zi_callS, zi_sw, zi_copyI, zi_copyL, zi_m2, zi_m1, zi_sval, zi_scod, zi_fmt, zi_balen, zi_bald, zi_bret, zi_callT, zq_nth, zq_put1, zq_put2, zq_clr, zq_nl, zq_tk, zq_ps, zq_sw, zq_l0, zq_a, zq_a1, List.length_cons, List.length_nil, List.nil_append, List.cons_append, List.append_nil, List.replicate, Nat.reduceAdd, Nat.reduceSub, Nat.reduceLeDiff, true_and, and_true, List.append_eq, List.cons.injEq, Value.int.injEq, Value.long.injEq, Value.ref.injEq, exists_and_left, exists_eq_left', and_assoc, zc_b, zc_0, zc_1, zc_10, zc_01, lg_cmp_ge, lg_cmp_le, lg_cmp_gt, lg_cmp_lt, lg_cmp_eq, zw_le, zw_lt, reduceIte, true_or, or_true, zw_g0, zw_l0, zw_g1, zw_l1, zw_g2, zw_l2, zw_g3, zw_l3, zw_g5, zw_l5, zw_g6, zw_l6, zw_g7, zw_l7, zw_g9, zw_l9, zw_g10, zw_l10, zw_g15, zw_l15, zw_g16, zw_l16, zw_g48, zw_l48, zw_g50, zw_l50, zw_g57, zw_l57, zw_g97, zw_l97, zw_g100, zw_l100, zw_g200, zw_l200, zw_g999, zw_l999, zw_g9999, zw_l9999]
        have f2 : zq_fr zlfx h0 (zq_setI h1 45 c (nI (zdv s (zlfp s (min n 64) c)))) := zq_fr_I (zq_fr_t hf f1 (by decide)) (by decide)
        have d2 := XD_fr d1 (zq_fr_I (ps := [45]) (p := 45) (j := c) (x := nI (zdv s (zlfp s (min n 64) c))) (h := h1) zq_fr_rf (by decide)) (by decide)
        have r2 : ∀ i, i < c + 1 → (zq_setI h1 45 c (nI (zdv s (zlfp s (min n 64) c)))).1 45 i = nI (zlcr s (min n 64) i) := fun i hi => by
          rw [zq_sI]
          by_cases y : i = c
          · subst y
            rw [if_pos ⟨rfl, rfl⟩]
            rfl
          · rw [if_neg (fun z => y z.2), (f1 45 (by decide)).1]
            exact (hr i (by omega)).1
        have b3 : (zq_setI h1 45 c (nI (zdv s (zlfp s (min n 64) c)))).1 44 3 = nI c := by rw [zq_sI, if_neg (by omega)]; exact a3
        have b46 : ∀ i, i < c → (zq_setI h1 45 c (nI (zdv s (zlfp s (min n 64) c)))).1 46 i = nI (zlra s (min n 64) i) ∧ (zq_setI h1 45 c (nI (zdv s (zlfp s (min n 64) c)))).1 47 i = nI (zlcu s (min n 64) i) := fun i hi => by
          rw [zq_sI, if_neg (by omega), zq_sI, if_neg (by omega), (f1 46 (by decide)).1, (f1 47 (by decide)).1]
          exact (hr i hi).2
        generalize zq_setI h1 45 c (nI (zdv s (zlfp s (min n 64) c))) = h2 at f2 d2 r2 b3 b46 ⊢
        have next : ∀ (x : Int32) (ra : Nat) (h3 : zq_H), zlra s (min n 64) c = ra → ra < 100 → (x = if ra = 0 then -1 else nI ra - 1) → XD n s (min n 64) (zlfL s (min n 64) (zlfp s (min n 64) c + 1)) h3 → zq_fr [1] h2 h3 → ∀ s2, (if 0 ≤ x then xX2_read_72 sp_xStart sp_xFin sp_xDigit sp_xLetter sp_xSkip (fun ls st h => ∃ b9 : zq_H × (Nat × (Nat → Int32)) × Nat, 20 - b9.2.2 < 20 - c ∧ I_xLread Q b9 ls st h) Q [some (.ref 44), some (.ref 1), some (.int s2), some (.int x)] [.int (nI c), .ref 46] h3 else xX2_read_68 sp_xStart sp_xFin sp_xDigit sp_xLetter sp_xSkip (fun ls st h => ∃ b9 : zq_H × (Nat × (Nat → Int32)) × Nat, 20 - b9.2.2 < 20 - c ∧ I_xLread Q b9 ls st h) Q [some (.ref 44), some (.ref 1), some (.int s2), some (.int x)] [.int (nI c), .ref 46] h3) := by
          intro x ra h3 era hra ex d3 f3 s2
          have b33 : h3.1 44 3 = nI c := by rw [(f3 44 (by decide)).1]; exact b3
          have go : ∀ s3, xX2_read_75 sp_xStart sp_xFin sp_xDigit sp_xLetter sp_xSkip (fun ls st h => ∃ b9 : zq_H × (Nat × (Nat → Int32)) × Nat, 20 - b9.2.2 < 20 - c ∧ I_xLread Q b9 ls st h) Q [some (.ref 44), some (.ref 1), some (.int s2), some (.int s3)] [.int (nI ra), .int (nI c), .ref 46] h3 := by
            intro s3
            have f4 : zq_fr zlfx h0 (zq_setI h3 46 c (nI ra)) := zq_fr_I (zq_fr_t f2 f3 (by decide)) (by decide)
            have d4 := XD_fr d3 (zq_fr_I (ps := [46]) (p := 46) (j := c) (x := nI ra) (h := h3) zq_fr_rf (by decide)) (by decide)
            have c3 : (zq_setI h3 46 c (nI ra)).1 44 3 = nI c := by rw [zq_sI, if_neg (by omega)]; exact b33
            have c45 : ∀ i, i < c + 1 → (zq_setI h3 46 c (nI ra)).1 45 i = nI (zlcr s (min n 64) i) ∧ (zq_setI h3 46 c (nI ra)).1 46 i = nI (zlra s (min n 64) i) := fun i hi => by
              rw [zq_sI, if_neg (by omega), (f3 45 (by decide)).1]
              refine ⟨r2 i hi, ?_⟩
              rw [zq_sI]
              by_cases y : i = c
              · subst y
                rw [if_pos ⟨rfl, rfl⟩, era]
              · rw [if_neg (fun z => y z.2), (f3 46 (by decide)).1]
                exact (b46 i (by omega)).1
            have c47 : ∀ i, i < c → (zq_setI h3 46 c (nI ra)).1 47 i = nI (zlcu s (min n 64) i) := fun i hi => by
              rw [zq_sI, if_neg (by omega), (f3 47 (by decide)).1]
              exact (b46 i hi).2
            simp only [xX2_read_75, v16, ci, c3, not_true_eq_false, not_false_eq_true, forall_const, true_and, and_true, false_and, and_false, if_true, if_false, reduceIte, implies_true, and_self, ite_self, true_or, or_true, false_or, or_false, true_implies, false_implies, Classical.not_not, false_imp_iff, not_false_iff, zi_push, zi_iload, zi_lload, zi_aload, zi_istore, zi_astore, zi_lstore, zi_iinc, zi_i2, zi_i1, zi_idv, zi_l2, zi_ldv, zi_lsh, zi_i2l, zi_l2i, zi_lcmp, zi_dup, zi_dup2, zi_pop, zi_if1, zi_if2, zi_getI, zi_getL, zi_getR, zi_putI, zi_putZ, zi_putL, zi_aldI, zi_aldL, zi_astI, zi_astZ, zi_astL, zi_alen, zi_iret, zi_zret, zi_lret, zi_vret, zi_callV, zi_callS, zi_sw, zi_copyI, zi_copyL, zi_m2, zi_m1, zi_sval, zi_scod, zi_fmt, zi_balen, zi_bald, zi_bret, zi_callT, zq_nth, zq_put1, zq_put2, zq_clr, zq_nl, zq_tk, zq_ps, zq_sw, zq_l0, zq_a, zq_a1, List.length_cons, List.length_nil, List.nil_append, List.cons_append, List.append_nil, List.replicate, Nat.reduceAdd, Nat.reduceSub, Nat.reduceLeDiff, true_and, and_true, List.append_eq, List.cons.injEq, Value.int.injEq, Value.long.injEq, Value.ref.injEq, exists_and_left, exists_eq_left', and_assoc, zc_b, zc_0, zc_1, zc_10, zc_01, lg_cmp_ge, lg_cmp_le, lg_cmp_gt, lg_cmp_lt, lg_cmp_eq, zw_le, zw_lt, reduceIte, true_or, or_true, zw_g0, zw_l0, zw_g1, zw_l1, zw_g2, zw_l2, zw_g3, zw_l3, zw_g5, zw_l5, zw_g6, zw_l6, zw_g7, zw_l7, zw_g9, zw_l9, zw_g10, zw_l10, zw_g15, zw_l15, zw_g16, zw_l16, zw_g48, zw_l48, zw_g50, zw_l50, zw_g57, zw_l57, zw_g97, zw_l97, zw_g100, zw_l100, zw_g200, zw_l200, zw_g999, zw_l999, zw_g9999, zw_l9999]
            generalize zq_setI h3 46 c (nI ra) = h4 at f4 d4 c3 c45 c47 ⊢
            have done : ∀ (u : Nat) h5, u = zlcu s (min n 64) c → XD n s (min n 64) (zlfp s (min n 64) (c + 1)) h5 → zq_fr [1] h4 h5 → ∃ b9 : zq_H × (Nat × (Nat → Int32)) × Nat, 20 - b9.2.2 < 20 - c ∧ I_xLread Q b9 [some (.ref 44), some (.ref 1), some (.int s2), some (.int s3)] [] (zq_setI (zq_setI h5 47 c (nI u)) 44 3 (nI (c + 1))) := by
              intro u h5 eu d5 f5
              refine ⟨(h0, (n, s), c + 1), by dsimp only; omega, _, _, rfl, rfl, by omega, XD_fr d5 (zq_fr_I (ps := [44, 47]) (zq_fr_I zq_fr_rf (by decide)) (by decide)) (by decide), eN1, by rw [zq_sI, if_pos ⟨rfl, rfl⟩], fun i hi => ?_, zq_fr_I (zq_fr_I (zq_fr_t f4 f5 (by decide)) (by decide)) (by decide), k1, k2⟩
              rw [zq_sI, if_neg (by omega), zq_sI, if_neg (by omega), zq_sI, if_neg (by omega), zq_sI, if_neg (by omega), zq_sI, if_neg (by omega), (f5 45 (by decide)).1, (f5 46 (by decide)).1]
              refine ⟨(c45 i hi).1, (c45 i hi).2, ?_⟩
              rw [zq_sI]
              by_cases y : i = c
              · subst y
                rw [if_pos ⟨rfl, rfl⟩, eu]
              · rw [if_neg (fun z => y z.2), (f5 47 (by decide)).1]
                exact c47 i (by omega)
            first
              | refine ⟨Nat.le_of_ble_eq_true rfl, n, s, _, _, 42, rfl, d4, fun q4 h5 d5 f5 => ?_, fun q4 => ?_⟩
              | refine ⟨n, s, _, _, 42, rfl, d4, fun q4 h5 d5 f5 => ?_, fun q4 => ?_⟩
            · have eu : 1 = zlcu s (min n 64) c := (if_pos q4).symm
              have ep : zlfp s (min n 64) (c + 1) = zlfL s (min n 64) (zlfp s (min n 64) c + 1) + 1 := if_pos q4
              have b5 : h5.1 44 3 = nI c := by rw [(f5 44 (by decide)).1]; exact c3
              simp only [zc_10, xX2_read_93, xX2_read_98, v16, ci, zq_sI, b5, nI_1, not_true_eq_false, not_false_eq_true, forall_const, true_and, and_true, false_and, and_false, if_true, if_false, reduceIte, implies_true, and_self, ite_self, true_or, or_true, false_or, or_false, true_implies, false_implies, Classical.not_not, false_imp_iff, not_false_iff, zi_push, zi_iload, zi_lload, zi_aload, zi_istore, zi_astore, zi_lstore, zi_iinc, zi_i2, zi_i1, zi_idv, zi_l2, zi_ldv, zi_lsh, zi_i2l, zi_l2i, zi_lcmp, zi_dup, zi_dup2, zi_pop, zi_if1, zi_if2, zi_getI, zi_getL, zi_getR, zi_putI, zi_putZ, zi_putL, zi_aldI, zi_aldL, zi_astI, zi_astZ, zi_astL, zi_alen, zi_iret, zi_zret, zi_lret, zi_vret, zi_callV, zi_callS, zi_sw, zi_copyI, zi_copyL, zi_m2, zi_m1, zi_sval, zi_scod, zi_fmt, zi_balen, zi_bald, zi_bret, zi_callT, zq_nth, zq_put1, zq_put2, zq_clr, zq_nl, zq_tk, zq_ps, zq_sw, zq_l0, zq_a, zq_a1, List.length_cons, List.length_nil, List.nil_append, List.cons_append, List.append_nil, List.replicate, Nat.reduceAdd, Nat.reduceSub, Nat.reduceLeDiff, true_and, and_true, List.append_eq, List.cons.injEq, Value.int.injEq, Value.long.injEq, Value.ref.injEq, exists_and_left, exists_eq_left', and_assoc, zc_b, zc_0, zc_1, zc_10, zc_01, lg_cmp_ge, lg_cmp_le, lg_cmp_gt, lg_cmp_lt, lg_cmp_eq, zw_le, zw_lt, reduceIte, true_or, or_true, zw_g0, zw_l0, zw_g1, zw_l1, zw_g2, zw_l2, zw_g3, zw_l3, zw_g5, zw_l5, zw_g6, zw_l6, zw_g7, zw_l7, zw_g9, zw_l9, zw_g10, zw_l10, zw_g15, zw_l15, zw_g16, zw_l16, zw_g48, zw_l48, zw_g50, zw_l50, zw_g57, zw_l57, zw_g97, zw_l97, zw_g100, zw_l100, zw_g200, zw_l200, zw_g999, zw_l999, zw_g9999, zw_l9999]
              rw [if_neg (show ¬ ((44 : Nat) = 47 ∧ (3 : Nat) = c) from fun z => by omega), nI_1]
              exact done 1 h5 eu (by rw [ep]; exact d5) f5
            · have eu : 0 = zlcu s (min n 64) c := (if_neg q4).symm
              have ep : zlfp s (min n 64) (c + 1) = zlfL s (min n 64) (zlfp s (min n 64) c + 1) := if_neg q4
              simp only [xX2_read_97, xX2_read_98, v16, ci, zq_sI, c3, nI_1, not_true_eq_false, not_false_eq_true, forall_const, true_and, and_true, false_and, and_false, if_true, if_false, reduceIte, implies_true, and_self, ite_self, true_or, or_true, false_or, or_false, true_implies, false_implies, Classical.not_not, false_imp_iff, not_false_iff, zi_push, zi_iload, zi_lload, zi_aload, zi_istore, zi_astore, zi_lstore, zi_iinc, zi_i2, zi_i1, zi_idv, zi_l2, zi_ldv, zi_lsh, zi_i2l, zi_l2i, zi_lcmp, zi_dup, zi_dup2, zi_pop, zi_if1, zi_if2, zi_getI, zi_getL, zi_getR, zi_putI, zi_putZ, zi_putL, zi_aldI, zi_aldL, zi_astI, zi_astZ, zi_astL, zi_alen, zi_iret, zi_zret, zi_lret, zi_vret, zi_callV, zi_callS, zi_sw, zi_copyI, zi_copyL, zi_m2, zi_m1, zi_sval, zi_scod, zi_fmt, zi_balen, zi_bald, zi_bret, zi_callT, zq_nth, zq_put1, zq_put2, zq_clr, zq_nl, zq_tk, zq_ps, zq_sw, zq_l0, zq_a, zq_a1, List.length_cons, List.length_nil, List.nil_append, List.cons_append, List.append_nil, List.replicate, Nat.reduceAdd, Nat.reduceSub, Nat.reduceLeDiff, true_and, and_true, List.append_eq, List.cons.injEq, Value.int.injEq, Value.long.injEq, Value.ref.injEq, exists_and_left, exists_eq_left', and_assoc, zc_b, zc_0, zc_1, zc_10, zc_01, lg_cmp_ge, lg_cmp_le, lg_cmp_gt, lg_cmp_lt, lg_cmp_eq, zw_le, zw_lt, reduceIte, true_or, or_true, zw_g0, zw_l0, zw_g1, zw_l1, zw_g2, zw_l2, zw_g3, zw_l3, zw_g5, zw_l5, zw_g6, zw_l6, zw_g7, zw_l7, zw_g9, zw_l9, zw_g10, zw_l10, zw_g15, zw_l15, zw_g16, zw_l16, zw_g48, zw_l48, zw_g50, zw_l50, zw_g57, zw_l57, zw_g97, zw_l97, zw_g100, zw_l100, zw_g200, zw_l200, zw_g999, zw_l999, zw_g9999, zw_l9999]
              rw [if_neg (show ¬ ((44 : Nat) = 47 ∧ (3 : Nat) = c) from fun z => by omega), nI_1]
              exact done 0 h4 eu (by rw [ep]; exact d4) zq_fr_rf
          by_cases y : ra = 0
          · subst y
            rw [if_pos rfl] at ex
            subst ex
            rw [if_neg (by decide)]
            simp only [xX2_read_68, not_true_eq_false, not_false_eq_true, forall_const, true_and, and_true, false_and, and_false, if_true, if_false, reduceIte, implies_true, and_self, ite_self, true_or, or_true, false_or, or_false, true_implies, false_implies, Classical.not_not, false_imp_iff, not_false_iff, zi_push, zi_iload, zi_lload, zi_aload, zi_istore, zi_astore, zi_lstore, zi_iinc, zi_i2, zi_i1, zi_idv, zi_l2, zi_ldv, zi_lsh, zi_i2l, zi_l2i, zi_lcmp, zi_dup, zi_dup2, zi_pop, zi_if1, zi_if2, zi_getI, zi_getL, zi_getR, zi_putI, zi_putZ, zi_putL, zi_aldI, zi_aldL, zi_astI, zi_astZ, zi_astL, zi_alen, zi_iret, zi_zret, zi_lret, zi_vret, zi_callV, zi_callS, zi_sw, zi_copyI, zi_copyL, zi_m2, zi_m1, zi_sval, zi_scod, zi_fmt, zi_balen, zi_bald, zi_bret, zi_callT, zq_nth, zq_put1, zq_put2, zq_clr, zq_nl, zq_tk, zq_ps, zq_sw, zq_l0, zq_a, zq_a1, List.length_cons, List.length_nil, List.nil_append, List.cons_append, List.append_nil, List.replicate, Nat.reduceAdd, Nat.reduceSub, Nat.reduceLeDiff, true_and, and_true, List.append_eq, List.cons.injEq, Value.int.injEq, Value.long.injEq, Value.ref.injEq, exists_and_left, exists_eq_left', and_assoc, zc_b, zc_0, zc_1, zc_10, zc_01, lg_cmp_ge, lg_cmp_le, lg_cmp_gt, lg_cmp_lt, lg_cmp_eq, zw_le, zw_lt, reduceIte, true_or, or_true, zw_g0, zw_l0, zw_g1, zw_l1, zw_g2, zw_l2, zw_g3, zw_l3, zw_g5, zw_l5, zw_g6, zw_l6, zw_g7, zw_l7, zw_g9, zw_l9, zw_g10, zw_l10, zw_g15, zw_l15, zw_g16, zw_l16, zw_g48, zw_l48, zw_g50, zw_l50, zw_g57, zw_l57, zw_g97, zw_l97, zw_g100, zw_l100, zw_g200, zw_l200, zw_g999, zw_l999, zw_g9999, zw_l9999]
            exact go (-1)
          · rw [if_neg y] at ex
            have e9 : nI ra - 1 + 1 = nI ra := by rw [zsub1' (by omega), nI_1, Nat.sub_add_cancel (by omega)]
            subst ex
            rw [if_pos (by rw [zsub1' (by omega)]; exact nI_pos' (by omega))]
            simp only [xX2_read_72, e9, not_true_eq_false, not_false_eq_true, forall_const, true_and, and_true, false_and, and_false, if_true, if_false, reduceIte, implies_true, and_self, ite_self, true_or, or_true, false_or, or_false, true_implies, false_implies, Classical.not_not, false_imp_iff, not_false_iff, zi_push, zi_iload, zi_lload, zi_aload, zi_istore, zi_astore, zi_lstore, zi_iinc, zi_i2, zi_i1, zi_idv, zi_l2, zi_ldv, zi_lsh, zi_i2l, zi_l2i, zi_lcmp, zi_dup, zi_dup2, zi_pop, zi_if1, zi_if2, zi_getI, zi_getL, zi_getR, zi_putI, zi_putZ, zi_putL, zi_aldI, zi_aldL, zi_astI, zi_astZ, zi_astL, zi_alen, zi_iret, zi_zret, zi_lret, zi_vret, zi_callV, zi_callS, zi_sw, zi_copyI, zi_copyL, zi_m2, zi_m1, zi_sval, zi_scod, zi_fmt, zi_balen, zi_bald, zi_bret, zi_callT, zq_nth, zq_put1, zq_put2, zq_clr, zq_nl, zq_tk, zq_ps, zq_sw, zq_l0, zq_a, zq_a1, List.length_cons, List.length_nil, List.nil_append, List.cons_append, List.append_nil, List.replicate, Nat.reduceAdd, Nat.reduceSub, Nat.reduceLeDiff, true_and, and_true, List.append_eq, List.cons.injEq, Value.int.injEq, Value.long.injEq, Value.ref.injEq, exists_and_left, exists_eq_left', and_assoc, zc_b, zc_0, zc_1, zc_10, zc_01, lg_cmp_ge, lg_cmp_le, lg_cmp_gt, lg_cmp_lt, lg_cmp_eq, zw_le, zw_lt, reduceIte, true_or, or_true, zw_g0, zw_l0, zw_g1, zw_l1, zw_g2, zw_l2, zw_g3, zw_l3, zw_g5, zw_l5, zw_g6, zw_l6, zw_g7, zw_l7, zw_g9, zw_l9, zw_g10, zw_l10, zw_g15, zw_l15, zw_g16, zw_l16, zw_g48, zw_l48, zw_g50, zw_l50, zw_g57, zw_l57, zw_g97, zw_l97, zw_g100, zw_l100, zw_g200, zw_l200, zw_g999, zw_l999, zw_g9999, zw_l9999]
            exact go _
        refine ⟨n, s, _, _, 9, rfl, by decide, d2, fun q3 h3 d3 f3 => ?_, fun q3 => ?_⟩
        · have l3 := (zlv_eq (by decide) q3).2
          have n1 := next (nI (zlv s (zlfp s (min n 64) c + 1))) (zlv s (zlfp s (min n 64) c + 1) + 1) h3 (if_pos q3) (by omega) (by rw [if_neg (by omega), nI_pred]) (by unfold zlfL; rw [if_pos q3]; exact d3) f3
          have b33 : h3.1 44 3 = nI c := by rw [(f3 44 (by decide)).1]; exact b3
          have e4 : (0 ≤ nI (zlv s (zlfp s (min n 64) c + 1))) = True := eq_true (nI_pos' (by omega))
          simp only [b33, e4, not_true_eq_false, not_false_eq_true, forall_const, true_and, and_true, false_and, and_false, if_true, if_false, reduceIte, implies_true, and_self, ite_self, true_or, or_true, false_or, or_false, true_implies, false_implies, Classical.not_not, false_imp_iff, not_false_iff, zi_push, zi_iload, zi_lload, zi_aload, zi_istore, zi_astore, zi_lstore, zi_iinc, zi_i2, zi_i1, zi_idv, zi_l2, zi_ldv, zi_lsh, zi_i2l, zi_l2i, zi_lcmp, zi_dup, zi_dup2, zi_pop, zi_if1, zi_if2, zi_getI, zi_getL, zi_getR, zi_putI, zi_putZ, zi_putL, zi_aldI, zi_aldL, zi_astI, zi_astZ, zi_astL, zi_alen, zi_iret, zi_zret, zi_lret, zi_vret, zi_callV, zi_callS, zi_sw, zi_copyI, zi_copyL, zi_m2, zi_m1, zi_sval, zi_scod, zi_fmt, zi_balen, zi_bald, zi_bret, zi_callT, zq_nth, zq_put1, zq_put2, zq_clr, zq_nl, zq_tk, zq_ps, zq_sw, zq_l0, zq_a, zq_a1, List.length_cons, List.length_nil, List.nil_append, List.cons_append, List.append_nil, List.replicate, Nat.reduceAdd, Nat.reduceSub, Nat.reduceLeDiff, true_and, and_true, List.append_eq, List.cons.injEq, Value.int.injEq, Value.long.injEq, Value.ref.injEq, exists_and_left, exists_eq_left', and_assoc, zc_b, zc_0, zc_1, zc_10, zc_01, lg_cmp_ge, lg_cmp_le, lg_cmp_gt, lg_cmp_lt, lg_cmp_eq, zw_le, zw_lt, reduceIte, true_or, or_true, zw_g0, zw_l0, zw_g1, zw_l1, zw_g2, zw_l2, zw_g3, zw_l3, zw_g5, zw_l5, zw_g6, zw_l6, zw_g7, zw_l7, zw_g9, zw_l9, zw_g10, zw_l10, zw_g15, zw_l15, zw_g16, zw_l16, zw_g48, zw_l48, zw_g50, zw_l50, zw_g57, zw_l57, zw_g97, zw_l97, zw_g100, zw_l100, zw_g200, zw_l200, zw_g999, zw_l999, zw_g9999, zw_l9999]
          have n2 := n1 (nI (zdv s (zlfp s (min n 64) c)))
          rw [if_pos (by rw [e4]; trivial)] at n2
          exact n2
        · have n1 := next (-1) 0 h2 (if_neg q3) (by omega) (if_pos rfl).symm (by unfold zlfL; rw [if_neg q3]; exact d2) zq_fr_rf
          simp only [b3, zm1f, not_true_eq_false, not_false_eq_true, forall_const, true_and, and_true, false_and, and_false, if_true, if_false, reduceIte, implies_true, and_self, ite_self, true_or, or_true, false_or, or_false, true_implies, false_implies, Classical.not_not, false_imp_iff, not_false_iff, zi_push, zi_iload, zi_lload, zi_aload, zi_istore, zi_astore, zi_lstore, zi_iinc, zi_i2, zi_i1, zi_idv, zi_l2, zi_ldv, zi_lsh, zi_i2l, zi_l2i, zi_lcmp, zi_dup, zi_dup2, zi_pop, zi_if1, zi_if2, zi_getI, zi_getL, zi_getR, zi_putI, zi_putZ, zi_putL, zi_aldI, zi_aldL, zi_astI, zi_astZ, zi_astL, zi_alen, zi_iret, zi_zret, zi_lret, zi_vret, zi_callV, zi_callS, zi_sw, zi_copyI, zi_copyL, zi_m2, zi_m1, zi_sval, zi_scod, zi_fmt, zi_balen, zi_bald, zi_bret, zi_callT, zq_nth, zq_put1, zq_put2, zq_clr, zq_nl, zq_tk, zq_ps, zq_sw, zq_l0, zq_a, zq_a1, List.length_cons, List.length_nil, List.nil_append, List.cons_append, List.append_nil, List.replicate, Nat.reduceAdd, Nat.reduceSub, Nat.reduceLeDiff, true_and, and_true, List.append_eq, List.cons.injEq, Value.int.injEq, Value.long.injEq, Value.ref.injEq, exists_and_left, exists_eq_left', and_assoc, zc_b, zc_0, zc_1, zc_10, zc_01, lg_cmp_ge, lg_cmp_le, lg_cmp_gt, lg_cmp_lt, lg_cmp_eq, zw_le, zw_lt, reduceIte, true_or, or_true, zw_g0, zw_l0, zw_g1, zw_l1, zw_g2, zw_l2, zw_g3, zw_l3, zw_g5, zw_l5, zw_g6, zw_l6, zw_g7, zw_l7, zw_g9, zw_l9, zw_g10, zw_l10, zw_g15, zw_l15, zw_g16, zw_l16, zw_g48, zw_l48, zw_g50, zw_l50, zw_g57, zw_l57, zw_g97, zw_l97, zw_g100, zw_l100, zw_g200, zw_l200, zw_g999, zw_l999, zw_g9999, zw_l9999]
          have n2 := n1 (nI (zdv s (zlfp s (min n 64) c)))
          rw [if_neg (by decide)] at n2
          exact n2
      · have eN := zlc_stop hz q2 (16 - c)
        rw [show c + (16 - c) = 16 by omega] at eN
        have st := stop eN
        simp only [xX2_read_37, zm1f, not_true_eq_false, not_false_eq_true, forall_const, true_and, and_true, false_and, and_false, if_true, if_false, reduceIte, implies_true, and_self, ite_self, true_or, or_true, false_or, or_false, true_implies, false_implies, Classical.not_not, false_imp_iff, not_false_iff, zi_push, zi_iload, zi_lload, zi_aload, zi_istore, zi_astore, zi_lstore, zi_iinc, zi_i2, zi_i1, zi_idv, zi_l2, zi_ldv, zi_lsh, zi_i2l, zi_l2i, zi_lcmp, zi_dup, zi_dup2, zi_pop, zi_if1, zi_if2, zi_getI, zi_getL, zi_getR, zi_putI, zi_putZ, zi_putL, zi_aldI, zi_aldL, zi_astI, zi_astZ, zi_astL, zi_alen, zi_iret, zi_zret, zi_lret, zi_vret, zi_callV, zi_callS, zi_sw, zi_copyI, zi_copyL, zi_m2, zi_m1, zi_sval, zi_scod, zi_fmt, zi_balen, zi_bald, zi_bret, zi_callT, zq_nth, zq_put1, zq_put2, zq_clr, zq_nl, zq_tk, zq_ps, zq_sw, zq_l0, zq_a, zq_a1, List.length_cons, List.length_nil, List.nil_append, List.cons_append, List.append_nil, List.replicate, Nat.reduceAdd, Nat.reduceSub, Nat.reduceLeDiff, true_and, and_true, List.append_eq, List.cons.injEq, Value.int.injEq, Value.long.injEq, Value.ref.injEq, exists_and_left, exists_eq_left', and_assoc, zc_b, zc_0, zc_1, zc_10, zc_01, lg_cmp_ge, lg_cmp_le, lg_cmp_gt, lg_cmp_lt, lg_cmp_eq, zw_le, zw_lt, reduceIte, true_or, or_true, zw_g0, zw_l0, zw_g1, zw_l1, zw_g2, zw_l2, zw_g3, zw_l3, zw_g5, zw_l5, zw_g6, zw_l6, zw_g7, zw_l7, zw_g9, zw_l9, zw_g10, zw_l10, zw_g15, zw_l15, zw_g16, zw_l16, zw_g48, zw_l48, zw_g50, zw_l50, zw_g57, zw_l57, zw_g97, zw_l97, zw_g100, zw_l100, zw_g200, zw_l200, zw_g999, zw_l999, zw_g9999, zw_l9999]
        exact st.2 q1
