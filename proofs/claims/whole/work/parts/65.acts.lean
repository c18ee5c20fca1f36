/-! ===== supper: one act read ===== -/
def zatl (s : Nat → Int32) (e q k g : Nat) : Bool × (Nat × Nat × Nat × Nat) × Nat :=
  if zln s e q 2 = 0 then (false, (0, 0, 0, 0), q) else
  if k = 2 then (true, (k, g, znv s q (zln s e q 2), znv s q (zln s e q 2)), q + zln s e q 2) else
  if ¬ (q + zln s e q 2 < e ∧ s (q + zln s e q 2) = 45) then (false, (0, 0, 0, 0), q + zln s e q 2) else
  if zln s e (q + zln s e q 2 + 1) 2 = 0 then (false, (0, 0, 0, 0), q + zln s e q 2 + 1) else
  (true, (k, g, znv s q (zln s e q 2), znv s (q + zln s e q 2 + 1) (zln s e (q + zln s e q 2 + 1) 2)), q + zln s e q 2 + 1 + zln s e (q + zln s e q 2 + 1) 2)
def zact (s : Nat → Int32) (e p : Nat) : Bool × (Nat × Nat × Nat × Nat) × Nat :=
  if ¬ ziso s e p 7 then (false, (0, 0, 0, 0), p) else
  if zix (zsb 7) (s p) = 0 then (if zisl s e (p + 1) 6 then zatl s e (p + 1 + 1) 0 (zlv s (p + 1)) else (false, (0, 0, 0, 0), p + 1)) else zatl s e (p + 1) (zix (zsb 7) (s p)) 0
theorem zln_in {s : Nat → Int32} {e p m : Nat} (h : 0 < zln s e p m) : p + zln s e p m ≤ e := by
  have := (zln_d m p 0 h).1
  exact zln_e m p (by omega)
theorem zatl_ok {s : Nat → Int32} {e q k g : Nat} (hk : k < 3) (h : (zatl s e q k g).1 = true) : q + 1 ≤ (zatl s e q k g).2.2 ∧ (zatl s e q k g).2.2 ≤ e := by
  unfold zatl at *
  by_cases c1 : zln s e q 2 = 0
  · rw [if_pos c1] at h
    exact absurd h (by simp)
  · rw [if_neg c1] at h ⊢
    have l1 := zln_in (s := s) (e := e) (p := q) (m := 2) (by omega)
    by_cases c2 : k = 2
    · rw [if_pos c2] at h ⊢
      exact ⟨by dsimp only; omega, l1⟩
    · rw [if_neg c2] at h ⊢
      by_cases c3 : q + zln s e q 2 < e ∧ s (q + zln s e q 2) = 45
      · rw [if_neg (fun z => z c3)] at h ⊢
        by_cases c4 : zln s e (q + zln s e q 2 + 1) 2 = 0
        · rw [if_pos c4] at h
          exact absurd h (by simp)
        · rw [if_neg c4] at h ⊢
          have l2 := zln_in (s := s) (e := e) (p := q + zln s e q 2 + 1) (m := 2) (by omega)
          exact ⟨by dsimp only; omega, l2⟩
      · rw [if_pos c3] at h
        exact absurd h (by simp)
def zksg (k : Nat) : Int32 := (zsb 7).getD k 0
theorem zksg_c : ∀ k, k < 3 → ((zksg k = 103 ↔ k = 0) ∧ (zksg k = 98 ↔ k = 1) ∧ (zksg k = 109 ↔ k = 2)) := by decide
theorem zak_no {s : Nat → Int32} {e p : Nat} (h : ¬ ziso s e p 7) : ¬ zcur s e p = 103 ∧ ¬ zcur s e p = 98 ∧ ¬ zcur s e p = 109 := by
  unfold zcur
  by_cases q : p < e
  · rw [if_pos q]
    refine ⟨fun z => h ⟨q, ?_⟩, fun z => h ⟨q, ?_⟩, fun z => h ⟨q, ?_⟩⟩ <;> rw [z] <;> decide
  · rw [if_neg q]
    decide
theorem zak_yes {s : Nat → Int32} {e p : Nat} (h : ziso s e p 7) : ∃ k, k < 3 ∧ zix (zsb 7) (s p) = k ∧ s p = zksg k ∧ zcur s e p = zksg k := by
  have hc : zcur s e p = s p := if_pos h.1
  have h2 := h.2
  rw [hc]
  by_cases c1 : s p = 103
  · exact ⟨0, by decide, by rw [c1]; decide, c1, c1⟩
  · by_cases c2 : s p = 98
    · exact ⟨1, by decide, by rw [c2]; decide, c2, c2⟩
    · by_cases c3 : s p = 109
      · exact ⟨2, by decide, by rw [c3]; decide, c3, c3⟩
      · have e9 : zix (zsb 7) (s p) = 3 := by
          show (if (103 : Int32) = s p then 0 else (if (98 : Int32) = s p then 0 else (if (109 : Int32) = s p then 0 else 0 + 1) + 1) + 1) = 3
          rw [if_neg (fun z => c1 z.symm), if_neg (fun z => c2 z.symm), if_neg (fun z => c3 z.symm)]
        rw [e9] at h2
        exact absurd h2 (by decide)
theorem z4l (i j : Nat) : nI (4 * i) + nI j = nI (4 * i + j) := nI_add _ _
/-- act i as the class keeps it -/
def zXa (i : Nat) (a : Nat × Nat × Nat × Nat) (h : zq_H) : Prop := h.1 38 (4 * i) = zksg a.1 ∧ h.1 38 (4 * i + 1) = nI a.2.1 ∧ h.1 38 (4 * i + 2) = nI a.2.2.1 ∧ h.1 38 (4 * i + 3) = nI a.2.2.2
def zrA (n : Nat) (s : Nat → Int32) (e i : Nat) (h0 : zq_H) (Q : zq_Q) (r : Bool × (Nat × Nat × Nat × Nat) × Nat) : Prop := ∀ h', XD n s e r.2.2 h' → (r.1 = true → zXa i r.2.1 h') → (∀ j, j < 4 * i → h'.1 38 j = h0.1 38 j) → zq_fr [1, 38] h0 h' → Q (some (.int (if r.1 = true then 1 else 0))) h'
def sp_readAct : zq_Sp := fun args h Q => ∃ n s e p i, args = [.ref 0, .int (nI (4 * i))] ∧ i < 20 ∧ XD n s e p h ∧ zrA n s e i h Q (zact s e p)
def zst4 (h : zq_H) (i : Nat) (c g a x : Int32) : zq_H := zq_setI (zq_setI (zq_setI (zq_setI h 38 (4 * i) c) 38 (4 * i + 1) g) 38 (4 * i + 2) a) 38 (4 * i + 3) x
theorem zst4_fr {h0 h : zq_H} (f : zq_fr [1, 38] h0 h) (i : Nat) (c g a x : Int32) : zq_fr [1, 38] h0 (zst4 h i c g a x) := zq_fr_I (zq_fr_I (zq_fr_I (zq_fr_I f (by decide)) (by decide)) (by decide)) (by decide)
theorem zst4_lo {h0 h : zq_H} {i : Nat} (e : ∀ j, j < 4 * i → h.1 38 j = h0.1 38 j) (c g a x : Int32) : ∀ j, j < 4 * i → (zst4 h i c g a x).1 38 j = h0.1 38 j := fun j hj => by
  have e1 : ¬ j = 4 * i := by omega
  have e2 : ¬ j = 4 * i + 1 := by omega
  have e3 : ¬ j = 4 * i + 2 := by omega
  have e4 : ¬ j = 4 * i + 3 := by omega
  simpa [zst4, zq_sI, e1, e2, e3, e4] using e j hj
theorem zst4_at (h : zq_H) (i : Nat) (c g a x : Int32) : (zst4 h i c g a x).1 38 (4 * i) = c ∧ (zst4 h i c g a x).1 38 (4 * i + 1) = g ∧ (zst4 h i c g a x).1 38 (4 * i + 2) = a ∧ (zst4 h i c g a x).1 38 (4 * i + 3) = x := by
  refine ⟨?_, ?_, ?_, ?_⟩ <;> simp [zst4, zq_sI]
theorem zst4_XD {n e p : Nat} {s : Nat → Int32} {h : zq_H} (k : XD n s e p h) (i : Nat) (c g a x : Int32) : XD n s e p (zst4 h i c g a x) := XD_fr k (ps := [38]) (zq_fr_I (zq_fr_I (zq_fr_I (zq_fr_I zq_fr_rf (by decide)) (by decide)) (by decide)) (by decide)) (by decide)
theorem ra_117 {Q : zq_Q} {h : zq_H} {i : Nat} (hi : i < 20) {c g a x : Int32} {s5 : Option Value} (k : Q (some (.int (if x < 0 then 0 else 1))) (zst4 h i c g a x)) : xX11_readAct_117 sp_xNext sp_xSkip sp_xLetter sp_xNumber Q [some (.ref 0), some (.int (nI (4 * i))), some (.int c), some (.int g), some (.int a), s5] [.int x] h := by
  have e1 : nI (4 * i) + 1 = nI (4 * i + 1) := z4l i 1
  have e2 : nI (4 * i) + 2 = nI (4 * i + 2) := z4l i 2
  have e3 : nI (4 * i) + 3 = nI (4 * i + 3) := z4l i 3
  have v0 : ∀ j, j < 80 → vp_in (nI j) 80 := fun j hj => vp_in_nI hj (by decide)
  simp only [xX11_readAct_117, xX11_readAct_160, xX11_readAct_164, xX11_readAct_165, e1, e2, e3, nI_clamp (show 4 * i < 2 ^ 31 by omega), nI_clamp (show 4 * i + 1 < 2 ^ 31 by omega), nI_clamp (show 4 * i + 2 < 2 ^ 31 by omega), nI_clamp (show 4 * i + 3 < 2 ^ 31 by omega), zi_push, zi_iload, zi_lload, zi_aload, zi_istore, zi_astore, zi_lstore, zi_iinc, zi_i2, zi_i1, zi_idv, zi_l2, zi_ldv, zi_lsh, zi_i2l, zi_l2i, zi_lcmp, zi_dup, zi_dup2, zi_pop, zi_if1, zi_if2, zi_getI, zi_getL, zi_getR, zi_putI, zi_putZ, zi_putL, zi_aldI, zi_aldL, zi_astI, zi_astZ, zi_astL, zi_alen, zi_iret, zi_zret, zi_lret, zi_vret, zi_callV, zi_callS, zi_sw, zi_copyI, zi_copyL, zi_m2, zi_m1, zi_sval, zi_scod, zi_fmt, zi_balen, zi_bald, zi_bret, zi_callT, zq_nth, zq_put1, zq_put2, zq_clr, zq_nl, zq_tk, zq_ps, zq_sw, zq_l0, zq_a, zq_a1, List.length_cons, List.length_nil, List.nil_append, List.cons_append, List.append_nil, List.replicate, Nat.reduceAdd, Nat.reduceSub, Nat.reduceLeDiff, true_and, and_true, List.append_eq, List.cons.injEq, Value.int.injEq, Value.long.injEq, Value.ref.injEq, exists_and_left, exists_eq_left', and_assoc, zc_b, zc_0, zc_1, zc_10, zc_01, lg_cmp_ge, lg_cmp_le, lg_cmp_gt, lg_cmp_lt, lg_cmp_eq, zw_le, zw_lt, reduceIte, true_or, or_true, zw_g0, zw_l0, zw_g1, zw_l1, zw_g2, zw_l2, zw_g3, zw_l3, zw_g5, zw_l5, zw_g6, zw_l6, zw_g7, zw_l7, zw_g9, zw_l9, zw_g10, zw_l10, zw_g15, zw_l15, zw_g16, zw_l16, zw_g48, zw_l48, zw_g50, zw_l50, zw_g57, zw_l57, zw_g97, zw_l97, zw_g100, zw_l100, zw_g200, zw_l200, zw_g999, zw_l999, zw_g9999, zw_l9999]
  refine ⟨v0 _ (by omega), v0 _ (by omega), v0 _ (by omega), v0 _ (by omega), fun q => ?_, fun q => ?_⟩
  · rw [if_pos q] at k
    exact k
  · rw [if_neg q] at k
    exact k
theorem ra_65 {Q : zq_Q} {n : Nat} {s : Nat → Int32} {e q k g i : Nat} {h0 h : zq_H} {s4 s5 : Option Value} (hi : i < 20) (hk : k < 3) (hD : XD n s e q h) (hf : zq_fr [1, 38] h0 h) (lo : ∀ j, j < 4 * i → h.1 38 j = h0.1 38 j) (kk : zrA n s e i h0 Q (zatl s e q k g)) : xX11_readAct_65 sp_xNext sp_xSkip sp_xLetter sp_xNumber Q [some (.ref 0), some (.int (nI (4 * i))), some (.int (zksg k)), some (.int (nI g)), s4, s5] [] h := by
  have e109 : (zksg k = 109) = (k = 2) := propext (zksg_c k hk).2.2
  have m1 : (0 ≤ (-1 : Int32)) = False := eq_false (by decide)
  unfold zatl at kk
  simp only [xX11_readAct_65, zi_push, zi_iload, zi_lload, zi_aload, zi_istore, zi_astore, zi_lstore, zi_iinc, zi_i2, zi_i1, zi_idv, zi_l2, zi_ldv, zi_lsh, zi_i2l, zi_l2i, zi_lcmp, zi_dup, zi_dup2, zi_pop, zi_if1, zi_if2, zi_getI, zi_getL, zi_getR, zi_putI, zi_putZ, zi_putL, zi_aldI, zi_aldL, zi_astI, zi_astZ, zi_astL, zi_alen, zi_iret, zi_zret, zi_lret, zi_vret, zi_callV, zi_callS, zi_sw, zi_copyI, zi_copyL, zi_m2, zi_m1, zi_sval, zi_scod, zi_fmt, zi_balen, zi_bald, zi_bret, zi_callT, zq_nth, zq_put1, zq_put2, zq_clr, zq_nl, zq_tk, zq_ps, zq_sw, zq_l0, zq_a, zq_a1, List.length_cons, List.length_nil, List.nil_append, List.cons_append, List.append_nil, List.replicate, Nat.reduceAdd, Nat.reduceSub, Nat.reduceLeDiff, true_and, and_true, List.append_eq, List.cons.injEq, Value.int.injEq, Value.long.injEq, Value.ref.injEq, exists_and_left, exists_eq_left', and_assoc, zc_b, zc_0, zc_1, zc_10, zc_01, lg_cmp_ge, lg_cmp_le, lg_cmp_gt, lg_cmp_lt, lg_cmp_eq, zw_le, zw_lt, reduceIte, true_or, or_true, zw_g0, zw_l0, zw_g1, zw_l1, zw_g2, zw_l2, zw_g3, zw_l3, zw_g5, zw_l5, zw_g6, zw_l6, zw_g7, zw_l7, zw_g9, zw_l9, zw_g10, zw_l10, zw_g15, zw_l15, zw_g16, zw_l16, zw_g48, zw_l48, zw_g50, zw_l50, zw_g57, zw_l57, zw_g97, zw_l97, zw_g100, zw_l100, zw_g200, zw_l200, zw_g999, zw_l999, zw_g9999, zw_l9999]
  refine ⟨n, s, e, q, 2, rfl, ⟨by decide, by decide⟩, hD, fun q1 => ?_, fun q1 h1 d1 f1 => ?_⟩
  · rw [if_pos q1] at kk
    simp only [xX11_readAct_73, xX11_readAct_80, m1, not_true_eq_false, not_false_eq_true, forall_const, true_and, and_true, false_and, and_false, if_true, if_false, reduceIte, implies_true, and_self, ite_self, true_or, or_true, false_or, or_false, true_implies, false_implies, Classical.not_not, false_imp_iff, not_false_iff, zi_push, zi_iload, zi_lload, zi_aload, zi_istore, zi_astore, zi_lstore, zi_iinc, zi_i2, zi_i1, zi_idv, zi_l2, zi_ldv, zi_lsh, zi_i2l, zi_l2i, zi_lcmp, zi_dup, zi_dup2, zi_pop, zi_if1, zi_if2, zi_getI, zi_getL, zi_getR, zi_putI, zi_putZ, zi_putL, zi_aldI, zi_aldL, zi_astI, zi_astZ, zi_astL, zi_alen, zi_iret, zi_zret, zi_lret, zi_vret, zi_callV, zi_callS, zi_sw, zi_copyI, zi_copyL, zi_m2, zi_m1, zi_sval, zi_scod, zi_fmt, zi_balen, zi_bald, zi_bret, zi_callT, zq_nth, zq_put1, zq_put2, zq_clr, zq_nl, zq_tk, zq_ps, zq_sw, zq_l0, zq_a, zq_a1, List.length_cons, List.length_nil, List.nil_append, List.cons_append, List.append_nil, List.replicate, Nat.reduceAdd, Nat.reduceSub, Nat.reduceLeDiff, true_and, and_true, List.append_eq, List.cons.injEq, Value.int.injEq, Value.long.injEq, Value.ref.injEq, exists_and_left, exists_eq_left', and_assoc, zc_b, zc_0, zc_1, zc_10, zc_01, lg_cmp_ge, lg_cmp_le, lg_cmp_gt, lg_cmp_lt, lg_cmp_eq, zw_le, zw_lt, reduceIte, true_or, or_true, zw_g0, zw_l0, zw_g1, zw_l1, zw_g2, zw_l2, zw_g3, zw_l3, zw_g5, zw_l5, zw_g6, zw_l6, zw_g7, zw_l7, zw_g9, zw_l9, zw_g10, zw_l10, zw_g15, zw_l15, zw_g16, zw_l16, zw_g48, zw_l48, zw_g50, zw_l50, zw_g57, zw_l57, zw_g97, zw_l97, zw_g100, zw_l100, zw_g200, zw_l200, zw_g999, zw_l999, zw_g9999, zw_l9999]
    exact kk h hD (fun z => absurd z (by simp)) lo hf
  · rw [if_neg (by omega)] at kk
    have hf1 := zq_fr_t hf f1 (by decide)
    have lo1 : ∀ j, j < 4 * i → h1.1 38 j = h0.1 38 j := fun j hj => by rw [(f1 38 (by decide)).1]; exact lo j hj
    have p0 : (0 ≤ nI (znv s q (zln s e q 2))) = True := eq_true (nI_pos' (by have := znv_lt (s := s) (e := e) (p := q) (zln s e q 2) (zln_d 2 q); have l := zln_le (s := s) (e := e) 2 q; have : 10 ^ zln s e q 2 ≤ 10 ^ 2 := Nat.pow_le_pow_right (by decide) l; omega))
    simp only [xX11_readAct_73, xX11_readAct_82, xX11_readAct_88, p0, e109, not_true_eq_false, not_false_eq_true, forall_const, true_and, and_true, false_and, and_false, if_true, if_false, reduceIte, implies_true, and_self, ite_self, true_or, or_true, false_or, or_false, true_implies, false_implies, Classical.not_not, false_imp_iff, not_false_iff, zi_push, zi_iload, zi_lload, zi_aload, zi_istore, zi_astore, zi_lstore, zi_iinc, zi_i2, zi_i1, zi_idv, zi_l2, zi_ldv, zi_lsh, zi_i2l, zi_l2i, zi_lcmp, zi_dup, zi_dup2, zi_pop, zi_if1, zi_if2, zi_getI, zi_getL, zi_getR, zi_putI, zi_putZ, zi_putL, zi_aldI, zi_aldL, zi_astI, zi_astZ, zi_astL, zi_alen, zi_iret, zi_zret, zi_lret, zi_vret, zi_callV, zi_callS, zi_sw, zi_copyI, zi_copyL, zi_m2, zi_m1, zi_sval, zi_scod, zi_fmt, zi_balen, zi_bald, zi_bret, zi_callT, zq_nth, zq_put1, zq_put2, zq_clr, zq_nl, zq_tk, zq_ps, zq_sw, zq_l0, zq_a, zq_a1, List.length_cons, List.length_nil, List.nil_append, List.cons_append, List.append_nil, List.replicate, Nat.reduceAdd, Nat.reduceSub, Nat.reduceLeDiff, true_and, and_true, List.append_eq, List.cons.injEq, Value.int.injEq, Value.long.injEq, Value.ref.injEq, exists_and_left, exists_eq_left', and_assoc, zc_b, zc_0, zc_1, zc_10, zc_01, lg_cmp_ge, lg_cmp_le, lg_cmp_gt, lg_cmp_lt, lg_cmp_eq, zw_le, zw_lt, reduceIte, true_or, or_true, zw_g0, zw_l0, zw_g1, zw_l1, zw_g2, zw_l2, zw_g3, zw_l3, zw_g5, zw_l5, zw_g6, zw_l6, zw_g7, zw_l7, zw_g9, zw_l9, zw_g10, zw_l10, zw_g15, zw_l15, zw_g16, zw_l16, zw_g48, zw_l48, zw_g50, zw_l50, zw_g57, zw_l57, zw_g97, zw_l97, zw_g100, zw_l100, zw_g200, zw_l200, zw_g999, zw_l999, zw_g9999, zw_l9999]
    refine ⟨fun q2 => ra_117 hi ?_, fun q2 => ?_⟩
    · rw [if_pos q2] at kk
      rw [if_neg (nI_pos (by have := znv_lt (s := s) (e := e) (p := q) (zln s e q 2) (zln_d 2 q); have l := zln_le (s := s) (e := e) 2 q; have : 10 ^ zln s e q 2 ≤ 10 ^ 2 := Nat.pow_le_pow_right (by decide) l; omega))]
      exact kk _ (zst4_XD d1 _ _ _ _ _) (fun _ => zst4_at _ _ _ _ _ _) (zst4_lo lo1 _ _ _ _) (zst4_fr hf1 _ _ _ _ _)
    · rw [if_neg q2] at kk
      simp only [xX11_readAct_93, zi_push, zi_iload, zi_lload, zi_aload, zi_istore, zi_astore, zi_lstore, zi_iinc, zi_i2, zi_i1, zi_idv, zi_l2, zi_ldv, zi_lsh, zi_i2l, zi_l2i, zi_lcmp, zi_dup, zi_dup2, zi_pop, zi_if1, zi_if2, zi_getI, zi_getL, zi_getR, zi_putI, zi_putZ, zi_putL, zi_aldI, zi_aldL, zi_astI, zi_astZ, zi_astL, zi_alen, zi_iret, zi_zret, zi_lret, zi_vret, zi_callV, zi_callS, zi_sw, zi_copyI, zi_copyL, zi_m2, zi_m1, zi_sval, zi_scod, zi_fmt, zi_balen, zi_bald, zi_bret, zi_callT, zq_nth, zq_put1, zq_put2, zq_clr, zq_nl, zq_tk, zq_ps, zq_sw, zq_l0, zq_a, zq_a1, List.length_cons, List.length_nil, List.nil_append, List.cons_append, List.append_nil, List.replicate, Nat.reduceAdd, Nat.reduceSub, Nat.reduceLeDiff, true_and, and_true, List.append_eq, List.cons.injEq, Value.int.injEq, Value.long.injEq, Value.ref.injEq, exists_and_left, exists_eq_left', and_assoc, zc_b, zc_0, zc_1, zc_10, zc_01, lg_cmp_ge, lg_cmp_le, lg_cmp_gt, lg_cmp_lt, lg_cmp_eq, zw_le, zw_lt, reduceIte, true_or, or_true, zw_g0, zw_l0, zw_g1, zw_l1, zw_g2, zw_l2, zw_g3, zw_l3, zw_g5, zw_l5, zw_g6, zw_l6, zw_g7, zw_l7, zw_g9, zw_l9, zw_g10, zw_l10, zw_g15, zw_l15, zw_g16, zw_l16, zw_g48, zw_l48, zw_g50, zw_l50, zw_g57, zw_l57, zw_g97, zw_l97, zw_g100, zw_l100, zw_g200, zw_l200, zw_g999, zw_l999, zw_g9999, zw_l9999]
      refine ⟨n, s, e, _, 45, rfl, d1, fun q3 h2 d2 f2 => ?_, fun q3 => ?_⟩
      · rw [if_neg (fun z => z q3)] at kk
        have hf2 := zq_fr_t hf1 f2 (by decide)
        have lo2 : ∀ j, j < 4 * i → h2.1 38 j = h0.1 38 j := fun j hj => by rw [(f2 38 (by decide)).1]; exact lo1 j hj
        simp only [xX11_readAct_105, not_true_eq_false, not_false_eq_true, forall_const, true_and, and_true, false_and, and_false, if_true, if_false, reduceIte, implies_true, and_self, ite_self, true_or, or_true, false_or, or_false, true_implies, false_implies, Classical.not_not, false_imp_iff, not_false_iff, zi_push, zi_iload, zi_lload, zi_aload, zi_istore, zi_astore, zi_lstore, zi_iinc, zi_i2, zi_i1, zi_idv, zi_l2, zi_ldv, zi_lsh, zi_i2l, zi_l2i, zi_lcmp, zi_dup, zi_dup2, zi_pop, zi_if1, zi_if2, zi_getI, zi_getL, zi_getR, zi_putI, zi_putZ, zi_putL, zi_aldI, zi_aldL, zi_astI, zi_astZ, zi_astL, zi_alen, zi_iret, zi_zret, zi_lret, zi_vret, zi_callV, zi_callS, zi_sw, zi_copyI, zi_copyL, zi_m2, zi_m1, zi_sval, zi_scod, zi_fmt, zi_balen, zi_bald, zi_bret, zi_callT, zq_nth, zq_put1, zq_put2, zq_clr, zq_nl, zq_tk, zq_ps, zq_sw, zq_l0, zq_a, zq_a1, List.length_cons, List.length_nil, List.nil_append, List.cons_append, List.append_nil, List.replicate, Nat.reduceAdd, Nat.reduceSub, Nat.reduceLeDiff, true_and, and_true, List.append_eq, List.cons.injEq, Value.int.injEq, Value.long.injEq, Value.ref.injEq, exists_and_left, exists_eq_left', and_assoc, zc_b, zc_0, zc_1, zc_10, zc_01, lg_cmp_ge, lg_cmp_le, lg_cmp_gt, lg_cmp_lt, lg_cmp_eq, zw_le, zw_lt, reduceIte, true_or, or_true, zw_g0, zw_l0, zw_g1, zw_l1, zw_g2, zw_l2, zw_g3, zw_l3, zw_g5, zw_l5, zw_g6, zw_l6, zw_g7, zw_l7, zw_g9, zw_l9, zw_g10, zw_l10, zw_g15, zw_l15, zw_g16, zw_l16, zw_g48, zw_l48, zw_g50, zw_l50, zw_g57, zw_l57, zw_g97, zw_l97, zw_g100, zw_l100, zw_g200, zw_l200, zw_g999, zw_l999, zw_g9999, zw_l9999]
        refine ⟨n, s, e, _, 2, rfl, ⟨by decide, by decide⟩, d2, fun q4 => ?_, fun q4 h3 d3 f3 => ?_⟩
        · rw [if_pos q4] at kk
          refine ra_117 hi ?_
          rw [if_pos (by decide)]
          exact kk _ (zst4_XD d2 _ _ _ _ _) (fun z => absurd z (by simp)) (zst4_lo lo2 _ _ _ _) (zst4_fr hf2 _ _ _ _ _)
        · rw [if_neg (by omega)] at kk
          have lo3 : ∀ j, j < 4 * i → h3.1 38 j = h0.1 38 j := fun j hj => by rw [(f3 38 (by decide)).1]; exact lo2 j hj
          refine ra_117 hi ?_
          rw [if_neg (nI_pos (by have := znv_lt (s := s) (e := e) (p := q + zln s e q 2 + 1) (zln s e (q + zln s e q 2 + 1) 2) (zln_d 2 _); have l := zln_le (s := s) (e := e) 2 (q + zln s e q 2 + 1); have : 10 ^ zln s e (q + zln s e q 2 + 1) 2 ≤ 10 ^ 2 := Nat.pow_le_pow_right (by decide) l; omega))]
          exact kk _ (zst4_XD d3 _ _ _ _ _) (fun _ => zst4_at _ _ _ _ _ _) (zst4_lo lo3 _ _ _ _) (zst4_fr (zq_fr_t hf2 f3 (by decide)) _ _ _ _ _)
      · rw [if_pos q3] at kk
        simp only [xX11_readAct_116, not_true_eq_false, not_false_eq_true, forall_const, true_and, and_true, false_and, and_false, if_true, if_false, reduceIte, implies_true, and_self, ite_self, true_or, or_true, false_or, or_false, true_implies, false_implies, Classical.not_not, false_imp_iff, not_false_iff, zi_push, zi_iload, zi_lload, zi_aload, zi_istore, zi_astore, zi_lstore, zi_iinc, zi_i2, zi_i1, zi_idv, zi_l2, zi_ldv, zi_lsh, zi_i2l, zi_l2i, zi_lcmp, zi_dup, zi_dup2, zi_pop, zi_if1, zi_if2, zi_getI, zi_getL, zi_getR, zi_putI, zi_putZ, zi_putL, zi_aldI, zi_aldL, zi_astI, zi_astZ, zi_astL, zi_alen, zi_iret, zi_zret, zi_lret, zi_vret, zi_callV, zi_callS, zi_sw, zi_copyI, zi_copyL, zi_m2, zi_m1, zi_sval, zi_scod, zi_fmt, zi_balen, zi_bald, zi_bret, zi_callT, zq_nth, zq_put1, zq_put2, zq_clr, zq_nl, zq_tk, zq_ps, zq_sw, zq_l0, zq_a, zq_a1, List.length_cons, List.length_nil, List.nil_append, List.cons_append, List.append_nil, List.replicate, Nat.reduceAdd, Nat.reduceSub, Nat.reduceLeDiff, true_and, and_true, List.append_eq, List.cons.injEq, Value.int.injEq, Value.long.injEq, Value.ref.injEq, exists_and_left, exists_eq_left', and_assoc, zc_b, zc_0, zc_1, zc_10, zc_01, lg_cmp_ge, lg_cmp_le, lg_cmp_gt, lg_cmp_lt, lg_cmp_eq, zw_le, zw_lt, reduceIte, true_or, or_true, zw_g0, zw_l0, zw_g1, zw_l1, zw_g2, zw_l2, zw_g3, zw_l3, zw_g5, zw_l5, zw_g6, zw_l6, zw_g7, zw_l7, zw_g9, zw_l9, zw_g10, zw_l10, zw_g15, zw_l15, zw_g16, zw_l16, zw_g48, zw_l48, zw_g50, zw_l50, zw_g57, zw_l57, zw_g97, zw_l97, zw_g100, zw_l100, zw_g200, zw_l200, zw_g999, zw_l999, zw_g9999, zw_l9999]
        refine ra_117 hi ?_
        rw [if_pos (by decide)]
        exact kk _ (zst4_XD d1 _ _ _ _ _) (fun z => absurd z (by simp)) (zst4_lo lo1 _ _ _ _) (zst4_fr hf1 _ _ _ _ _)
theorem ok_readAct : zq_M yX11_readAct cX11_readAct 6 (some .boolean) 1 3 sp_readAct := by
  refine mX11_readAct ok_xNext (by decide) ok_xSkip (by decide) ok_xLetter (by decide) ok_xNumber (by decide) (fun args h Q hs => ?_)
  obtain ⟨n, s, e, p, i, rfl, hi, hD, kk⟩ := hs
  refine ⟨Nat.le_of_ble_eq_true rfl, ?_⟩
  have m1 : (0 ≤ (-1 : Int32)) = False := eq_false (by decide)
  simp only [xX11_readAct_0, zi_push, zi_iload, zi_lload, zi_aload, zi_istore, zi_astore, zi_lstore, zi_iinc, zi_i2, zi_i1, zi_idv, zi_l2, zi_ldv, zi_lsh, zi_i2l, zi_l2i, zi_lcmp, zi_dup, zi_dup2, zi_pop, zi_if1, zi_if2, zi_getI, zi_getL, zi_getR, zi_putI, zi_putZ, zi_putL, zi_aldI, zi_aldL, zi_astI, zi_astZ, zi_astL, zi_alen, zi_iret, zi_zret, zi_lret, zi_vret, zi_callV, zi_callS, zi_sw, zi_copyI, zi_copyL, zi_m2, zi_m1, zi_sval, zi_scod, zi_fmt, zi_balen, zi_bald, zi_bret, zi_callT, zq_nth, zq_put1, zq_put2, zq_clr, zq_nl, zq_tk, zq_ps, zq_sw, zq_l0, zq_a, zq_a1, List.length_cons, List.length_nil, List.nil_append, List.cons_append, List.append_nil, List.replicate, Nat.reduceAdd, Nat.reduceSub, Nat.reduceLeDiff, true_and, and_true, List.append_eq, List.cons.injEq, Value.int.injEq, Value.long.injEq, Value.ref.injEq, exists_and_left, exists_eq_left', and_assoc, zc_b, zc_0, zc_1, zc_10, zc_01, lg_cmp_ge, lg_cmp_le, lg_cmp_gt, lg_cmp_lt, lg_cmp_eq, zw_le, zw_lt, reduceIte, true_or, or_true, zw_g0, zw_l0, zw_g1, zw_l1, zw_g2, zw_l2, zw_g3, zw_l3, zw_g5, zw_l5, zw_g6, zw_l6, zw_g7, zw_l7, zw_g9, zw_l9, zw_g10, zw_l10, zw_g15, zw_l15, zw_g16, zw_l16, zw_g48, zw_l48, zw_g50, zw_l50, zw_g57, zw_l57, zw_g97, zw_l97, zw_g100, zw_l100, zw_g200, zw_l200, zw_g999, zw_l999, zw_g9999, zw_l9999]
  refine ⟨n, s, e, p, rfl, hD, ?_⟩
  unfold zact at kk
  by_cases c0 : ziso s e p 7
  · rw [if_neg (fun z => z c0)] at kk
    obtain ⟨k, hk, ek, es, ec⟩ := zak_yes c0
    rw [ek] at kk
    obtain ⟨z1, z2, z3⟩ := zksg_c k hk
    have e1 : (zksg k = 103) = (k = 0) := propext z1
    have g1 : k = 0 ∨ k = 1 ∨ k = 2 := by omega
    have st : ∀ b9 : Nat, b9 = k → xX11_readAct_28 sp_xNext sp_xSkip sp_xLetter sp_xNumber Q [some (.ref 0), some (.int (nI (4 * i))), some (.int (zksg k)), none, none, none] [] h := by
      intro _ _
      simp only [xX11_readAct_28, zi_push, zi_iload, zi_lload, zi_aload, zi_istore, zi_astore, zi_lstore, zi_iinc, zi_i2, zi_i1, zi_idv, zi_l2, zi_ldv, zi_lsh, zi_i2l, zi_l2i, zi_lcmp, zi_dup, zi_dup2, zi_pop, zi_if1, zi_if2, zi_getI, zi_getL, zi_getR, zi_putI, zi_putZ, zi_putL, zi_aldI, zi_aldL, zi_astI, zi_astZ, zi_astL, zi_alen, zi_iret, zi_zret, zi_lret, zi_vret, zi_callV, zi_callS, zi_sw, zi_copyI, zi_copyL, zi_m2, zi_m1, zi_sval, zi_scod, zi_fmt, zi_balen, zi_bald, zi_bret, zi_callT, zq_nth, zq_put1, zq_put2, zq_clr, zq_nl, zq_tk, zq_ps, zq_sw, zq_l0, zq_a, zq_a1, List.length_cons, List.length_nil, List.nil_append, List.cons_append, List.append_nil, List.replicate, Nat.reduceAdd, Nat.reduceSub, Nat.reduceLeDiff, true_and, and_true, List.append_eq, List.cons.injEq, Value.int.injEq, Value.long.injEq, Value.ref.injEq, exists_and_left, exists_eq_left', and_assoc, zc_b, zc_0, zc_1, zc_10, zc_01, lg_cmp_ge, lg_cmp_le, lg_cmp_gt, lg_cmp_lt, lg_cmp_eq, zw_le, zw_lt, reduceIte, true_or, or_true, zw_g0, zw_l0, zw_g1, zw_l1, zw_g2, zw_l2, zw_g3, zw_l3, zw_g5, zw_l5, zw_g6, zw_l6, zw_g7, zw_l7, zw_g9, zw_l9, zw_g10, zw_l10, zw_g15, zw_l15, zw_g16, zw_l16, zw_g48, zw_l48, zw_g50, zw_l50, zw_g57, zw_l57, zw_g97, zw_l97, zw_g100, zw_l100, zw_g200, zw_l200, zw_g999, zw_l999, zw_g9999, zw_l9999]
      refine ⟨n, s, e, p, zksg k, rfl, hD, fun q1 h1 d1 f1 => ?_, fun q1 => absurd ⟨c0.1, es⟩ q1⟩
      have lo1 : ∀ j, j < 4 * i → h1.1 38 j = h.1 38 j := fun j hj => by rw [(f1 38 (by decide)).1]
      simp only [xX11_readAct_43, xX11_readAct_55, e1, zi_push, zi_iload, zi_lload, zi_aload, zi_istore, zi_astore, zi_lstore, zi_iinc, zi_i2, zi_i1, zi_idv, zi_l2, zi_ldv, zi_lsh, zi_i2l, zi_l2i, zi_lcmp, zi_dup, zi_dup2, zi_pop, zi_if1, zi_if2, zi_getI, zi_getL, zi_getR, zi_putI, zi_putZ, zi_putL, zi_aldI, zi_aldL, zi_astI, zi_astZ, zi_astL, zi_alen, zi_iret, zi_zret, zi_lret, zi_vret, zi_callV, zi_callS, zi_sw, zi_copyI, zi_copyL, zi_m2, zi_m1, zi_sval, zi_scod, zi_fmt, zi_balen, zi_bald, zi_bret, zi_callT, zq_nth, zq_put1, zq_put2, zq_clr, zq_nl, zq_tk, zq_ps, zq_sw, zq_l0, zq_a, zq_a1, List.length_cons, List.length_nil, List.nil_append, List.cons_append, List.append_nil, List.replicate, Nat.reduceAdd, Nat.reduceSub, Nat.reduceLeDiff, true_and, and_true, List.append_eq, List.cons.injEq, Value.int.injEq, Value.long.injEq, Value.ref.injEq, exists_and_left, exists_eq_left', and_assoc, zc_b, zc_0, zc_1, zc_10, zc_01, lg_cmp_ge, lg_cmp_le, lg_cmp_gt, lg_cmp_lt, lg_cmp_eq, zw_le, zw_lt, reduceIte, true_or, or_true, zw_g0, zw_l0, zw_g1, zw_l1, zw_g2, zw_l2, zw_g3, zw_l3, zw_g5, zw_l5, zw_g6, zw_l6, zw_g7, zw_l7, zw_g9, zw_l9, zw_g10, zw_l10, zw_g15, zw_l15, zw_g16, zw_l16, zw_g48, zw_l48, zw_g50, zw_l50, zw_g57, zw_l57, zw_g97, zw_l97, zw_g100, zw_l100, zw_g200, zw_l200, zw_g999, zw_l999, zw_g9999, zw_l9999]
      refine ⟨fun q2 => ?_, fun q2 => ?_⟩
      · rw [if_pos q2] at kk
        refine ⟨n, s, e, _, 6, rfl, by decide, d1, fun q3 h2 d2 f2 => ?_, fun q3 => ?_⟩
        · rw [if_pos q3] at kk
          have lv := zlv_eq (by decide) q3
          have p0 : (0 ≤ nI (zlv s (p + 1))) = True := eq_true (nI_pos' (by omega))
          simp only [xX11_readAct_56, p0, not_true_eq_false, not_false_eq_true, forall_const, true_and, and_true, false_and, and_false, if_true, if_false, reduceIte, implies_true, and_self, ite_self, true_or, or_true, false_or, or_false, true_implies, false_implies, Classical.not_not, false_imp_iff, not_false_iff, zi_push, zi_iload, zi_lload, zi_aload, zi_istore, zi_astore, zi_lstore, zi_iinc, zi_i2, zi_i1, zi_idv, zi_l2, zi_ldv, zi_lsh, zi_i2l, zi_l2i, zi_lcmp, zi_dup, zi_dup2, zi_pop, zi_if1, zi_if2, zi_getI, zi_getL, zi_getR, zi_putI, zi_putZ, zi_putL, zi_aldI, zi_aldL, zi_astI, zi_astZ, zi_astL, zi_alen, zi_iret, zi_zret, zi_lret, zi_vret, zi_callV, zi_callS, zi_sw, zi_copyI, zi_copyL, zi_m2, zi_m1, zi_sval, zi_scod, zi_fmt, zi_balen, zi_bald, zi_bret, zi_callT, zq_nth, zq_put1, zq_put2, zq_clr, zq_nl, zq_tk, zq_ps, zq_sw, zq_l0, zq_a, zq_a1, List.length_cons, List.length_nil, List.nil_append, List.cons_append, List.append_nil, List.replicate, Nat.reduceAdd, Nat.reduceSub, Nat.reduceLeDiff, true_and, and_true, List.append_eq, List.cons.injEq, Value.int.injEq, Value.long.injEq, Value.ref.injEq, exists_and_left, exists_eq_left', and_assoc, zc_b, zc_0, zc_1, zc_10, zc_01, lg_cmp_ge, lg_cmp_le, lg_cmp_gt, lg_cmp_lt, lg_cmp_eq, zw_le, zw_lt, reduceIte, true_or, or_true, zw_g0, zw_l0, zw_g1, zw_l1, zw_g2, zw_l2, zw_g3, zw_l3, zw_g5, zw_l5, zw_g6, zw_l6, zw_g7, zw_l7, zw_g9, zw_l9, zw_g10, zw_l10, zw_g15, zw_l15, zw_g16, zw_l16, zw_g48, zw_l48, zw_g50, zw_l50, zw_g57, zw_l57, zw_g97, zw_l97, zw_g100, zw_l100, zw_g200, zw_l200, zw_g999, zw_l999, zw_g9999, zw_l9999]
          rw [← q2] at kk
          exact ra_65 hi hk d2 (zq_fr_t (zq_fr_w f1 (by decide)) f2 (by decide)) (fun j hj => by rw [(f2 38 (by decide)).1]; exact lo1 j hj) kk
        · rw [if_neg q3] at kk
          simp only [xX11_readAct_56, xX11_readAct_61, xX11_readAct_73, xX11_readAct_80, m1, not_true_eq_false, not_false_eq_true, forall_const, true_and, and_true, false_and, and_false, if_true, if_false, reduceIte, implies_true, and_self, ite_self, true_or, or_true, false_or, or_false, true_implies, false_implies, Classical.not_not, false_imp_iff, not_false_iff, zi_push, zi_iload, zi_lload, zi_aload, zi_istore, zi_astore, zi_lstore, zi_iinc, zi_i2, zi_i1, zi_idv, zi_l2, zi_ldv, zi_lsh, zi_i2l, zi_l2i, zi_lcmp, zi_dup, zi_dup2, zi_pop, zi_if1, zi_if2, zi_getI, zi_getL, zi_getR, zi_putI, zi_putZ, zi_putL, zi_aldI, zi_aldL, zi_astI, zi_astZ, zi_astL, zi_alen, zi_iret, zi_zret, zi_lret, zi_vret, zi_callV, zi_callS, zi_sw, zi_copyI, zi_copyL, zi_m2, zi_m1, zi_sval, zi_scod, zi_fmt, zi_balen, zi_bald, zi_bret, zi_callT, zq_nth, zq_put1, zq_put2, zq_clr, zq_nl, zq_tk, zq_ps, zq_sw, zq_l0, zq_a, zq_a1, List.length_cons, List.length_nil, List.nil_append, List.cons_append, List.append_nil, List.replicate, Nat.reduceAdd, Nat.reduceSub, Nat.reduceLeDiff, true_and, and_true, List.append_eq, List.cons.injEq, Value.int.injEq, Value.long.injEq, Value.ref.injEq, exists_and_left, exists_eq_left', and_assoc, zc_b, zc_0, zc_1, zc_10, zc_01, lg_cmp_ge, lg_cmp_le, lg_cmp_gt, lg_cmp_lt, lg_cmp_eq, zw_le, zw_lt, reduceIte, true_or, or_true, zw_g0, zw_l0, zw_g1, zw_l1, zw_g2, zw_l2, zw_g3, zw_l3, zw_g5, zw_l5, zw_g6, zw_l6, zw_g7, zw_l7, zw_g9, zw_l9, zw_g10, zw_l10, zw_g15, zw_l15, zw_g16, zw_l16, zw_g48, zw_l48, zw_g50, zw_l50, zw_g57, zw_l57, zw_g97, zw_l97, zw_g100, zw_l100, zw_g200, zw_l200, zw_g999, zw_l999, zw_g9999, zw_l9999]
          exact kk _ d1 (fun z => absurd z (by simp)) lo1 (zq_fr_w f1 (by decide))
      · rw [if_neg q2] at kk
        simp only [xX11_readAct_56, show (0 ≤ (0 : Int32)) = True from eq_true (by decide), not_true_eq_false, not_false_eq_true, forall_const, true_and, and_true, false_and, and_false, if_true, if_false, reduceIte, implies_true, and_self, ite_self, true_or, or_true, false_or, or_false, true_implies, false_implies, Classical.not_not, false_imp_iff, not_false_iff, zi_push, zi_iload, zi_lload, zi_aload, zi_istore, zi_astore, zi_lstore, zi_iinc, zi_i2, zi_i1, zi_idv, zi_l2, zi_ldv, zi_lsh, zi_i2l, zi_l2i, zi_lcmp, zi_dup, zi_dup2, zi_pop, zi_if1, zi_if2, zi_getI, zi_getL, zi_getR, zi_putI, zi_putZ, zi_putL, zi_aldI, zi_aldL, zi_astI, zi_astZ, zi_astL, zi_alen, zi_iret, zi_zret, zi_lret, zi_vret, zi_callV, zi_callS, zi_sw, zi_copyI, zi_copyL, zi_m2, zi_m1, zi_sval, zi_scod, zi_fmt, zi_balen, zi_bald, zi_bret, zi_callT, zq_nth, zq_put1, zq_put2, zq_clr, zq_nl, zq_tk, zq_ps, zq_sw, zq_l0, zq_a, zq_a1, List.length_cons, List.length_nil, List.nil_append, List.cons_append, List.append_nil, List.replicate, Nat.reduceAdd, Nat.reduceSub, Nat.reduceLeDiff, true_and, and_true, List.append_eq, List.cons.injEq, Value.int.injEq, Value.long.injEq, Value.ref.injEq, exists_and_left, exists_eq_left', and_assoc, zc_b, zc_0, zc_1, zc_10, zc_01, lg_cmp_ge, lg_cmp_le, lg_cmp_gt, lg_cmp_lt, lg_cmp_eq, zw_le, zw_lt, reduceIte, true_or, or_true, zw_g0, zw_l0, zw_g1, zw_l1, zw_g2, zw_l2, zw_g3, zw_l3, zw_g5, zw_l5, zw_g6, zw_l6, zw_g7, zw_l7, zw_g9, zw_l9, zw_g10, zw_l10, zw_g15, zw_l15, zw_g16, zw_l16, zw_g48, zw_l48, zw_g50, zw_l50, zw_g57, zw_l57, zw_g97, zw_l97, zw_g100, zw_l100, zw_g200, zw_l200, zw_g999, zw_l999, zw_g9999, zw_l9999]
        exact ra_65 (g := 0) hi hk d1 (zq_fr_w f1 (by decide)) lo1 kk
    rw [ec]
    simp only [xX11_readAct_14, xX11_readAct_20, xX11_readAct_26, zi_push, zi_iload, zi_lload, zi_aload, zi_istore, zi_astore, zi_lstore, zi_iinc, zi_i2, zi_i1, zi_idv, zi_l2, zi_ldv, zi_lsh, zi_i2l, zi_l2i, zi_lcmp, zi_dup, zi_dup2, zi_pop, zi_if1, zi_if2, zi_getI, zi_getL, zi_getR, zi_putI, zi_putZ, zi_putL, zi_aldI, zi_aldL, zi_astI, zi_astZ, zi_astL, zi_alen, zi_iret, zi_zret, zi_lret, zi_vret, zi_callV, zi_callS, zi_sw, zi_copyI, zi_copyL, zi_m2, zi_m1, zi_sval, zi_scod, zi_fmt, zi_balen, zi_bald, zi_bret, zi_callT, zq_nth, zq_put1, zq_put2, zq_clr, zq_nl, zq_tk, zq_ps, zq_sw, zq_l0, zq_a, zq_a1, List.length_cons, List.length_nil, List.nil_append, List.cons_append, List.append_nil, List.replicate, Nat.reduceAdd, Nat.reduceSub, Nat.reduceLeDiff, true_and, and_true, List.append_eq, List.cons.injEq, Value.int.injEq, Value.long.injEq, Value.ref.injEq, exists_and_left, exists_eq_left', and_assoc, zc_b, zc_0, zc_1, zc_10, zc_01, lg_cmp_ge, lg_cmp_le, lg_cmp_gt, lg_cmp_lt, lg_cmp_eq, zw_le, zw_lt, reduceIte, true_or, or_true, zw_g0, zw_l0, zw_g1, zw_l1, zw_g2, zw_l2, zw_g3, zw_l3, zw_g5, zw_l5, zw_g6, zw_l6, zw_g7, zw_l7, zw_g9, zw_l9, zw_g10, zw_l10, zw_g15, zw_l15, zw_g16, zw_l16, zw_g48, zw_l48, zw_g50, zw_l50, zw_g57, zw_l57, zw_g97, zw_l97, zw_g100, zw_l100, zw_g200, zw_l200, zw_g999, zw_l999, zw_g9999, zw_l9999]
    have st := st k rfl
    refine ⟨fun _ => st, fun q1 => ⟨fun _ => st, fun q2 => ⟨fun _ => st, fun q3 => ?_⟩⟩⟩
    exfalso
    rcases g1 with g | g | g
    · exact q1 (z1.mpr g)
    · exact q2 (z2.mpr g)
    · exact q3 (z3.mpr g)
  · rw [if_pos c0] at kk
    obtain ⟨z1, z2, z3⟩ := zak_no c0
    simp only [xX11_readAct_14, xX11_readAct_20, xX11_readAct_26, zi_push, zi_iload, zi_lload, zi_aload, zi_istore, zi_astore, zi_lstore, zi_iinc, zi_i2, zi_i1, zi_idv, zi_l2, zi_ldv, zi_lsh, zi_i2l, zi_l2i, zi_lcmp, zi_dup, zi_dup2, zi_pop, zi_if1, zi_if2, zi_getI, zi_getL, zi_getR, zi_putI, zi_putZ, zi_putL, zi_aldI, zi_aldL, zi_astI, zi_astZ, zi_astL, zi_alen, zi_iret, zi_zret, zi_lret, zi_vret, zi_callV, zi_callS, zi_sw, zi_copyI, zi_copyL, zi_m2, zi_m1, zi_sval, zi_scod, zi_fmt, zi_balen, zi_bald, zi_bret, zi_callT, zq_nth, zq_put1, zq_put2, zq_clr, zq_nl, zq_tk, zq_ps, zq_sw, zq_l0, zq_a, zq_a1, List.length_cons, List.length_nil, List.nil_append, List.cons_append, List.append_nil, List.replicate, Nat.reduceAdd, Nat.reduceSub, Nat.reduceLeDiff, true_and, and_true, List.append_eq, List.cons.injEq, Value.int.injEq, Value.long.injEq, Value.ref.injEq, exists_and_left, exists_eq_left', and_assoc, zc_b, zc_0, zc_1, zc_10, zc_01, lg_cmp_ge, lg_cmp_le, lg_cmp_gt, lg_cmp_lt, lg_cmp_eq, zw_le, zw_lt, reduceIte, true_or, or_true, zw_g0, zw_l0, zw_g1, zw_l1, zw_g2, zw_l2, zw_g3, zw_l3, zw_g5, zw_l5, zw_g6, zw_l6, zw_g7, zw_l7, zw_g9, zw_l9, zw_g10, zw_l10, zw_g15, zw_l15, zw_g16, zw_l16, zw_g48, zw_l48, zw_g50, zw_l50, zw_g57, zw_l57, zw_g97, zw_l97, zw_g100, zw_l100, zw_g200, zw_l200, zw_g999, zw_l999, zw_g9999, zw_l9999]
    refine ⟨fun q => absurd q z1, fun _ => ⟨fun q => absurd q z2, fun _ => ⟨fun q => absurd q z3, fun _ => ?_⟩⟩⟩
    exact kk h hD (fun z => absurd z (by simp)) (fun _ _ => rfl) zq_fr_rf
