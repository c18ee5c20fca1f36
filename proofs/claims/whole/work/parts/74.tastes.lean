/-! ===== tastes ===== -/
def zsm (p : Nat) : Nat := p / 100 + p / 10 % 10 + p % 10
theorem zsm_le {p : Nat} (h : p < 1000) : zsm p ≤ 27 := by
  unfold zsm
  omega
def zFT1 (V : zV) (j p : Nat) (s : Nat × Nat) : Nat × Nat := if zft V j p then (s.1 + 1, if s.1 = 0 ∨ zsm p < zsm s.2 then p else s.2) else s
/-- of tastes 0 .. t - 1: how many fit; the first of the least sum -/
def zFS (V : zV) (j t : Nat) : Nat × Nat := zfold (zFT1 V j) t (0, 0)
theorem zFS_s (V : zV) (j t : Nat) : zFS V j (t + 1) = zFT1 V j t (zFS V j t) := rfl
theorem zFS_ok (V : zV) (j : Nat) : ∀ t, t ≤ 1000 → (zFS V j t).1 ≤ t ∧ (zFS V j t).2 < 1000
  | 0, _ => ⟨Nat.le_refl _, show 0 < 1000 by decide⟩
  | t + 1, h => by
    have ih := zFS_ok V j t (by omega)
    rw [zFS_s]
    unfold zFT1
    split
    · refine ⟨by dsimp only; omega, ?_⟩
      dsimp only
      split
      · omega
      · exact ih.2
    · exact ⟨by omega, ih.2⟩
def zTr (s : Nat × Nat) : List Int64 := if s.1 = 0 then [] else [lN (s.2 / 100), lN (s.2 / 10 % 10), lN (s.2 % 10)]
def zTs (V : zV) (a : Int32) (K : List Int64 → Int32 → Prop) (K2 : Prop) : Prop := (¬ (0 ≤ a ∧ a < nI (vg V)) → K2) ∧ ∀ j, j < vg V → a = nI j → K (zTr (zFS V j 1000)) (nI (zFS V j 1000).1)
def zt19 (s : Nat × Nat) (h : zq_H) : Prop := 0 < s.1 → h.1 19 0 = nI (s.2 / 100) ∧ h.1 19 1 = nI (s.2 / 10 % 10) ∧ h.1 19 2 = nI (s.2 % 10)
def zfT : List Nat := [15, 18, 19, 20, 51]
def sp_cfit : zq_Sp := fun args h Q => ∃ V j, args = [.ref 15, .ref 48, .ref 40, .int (nI j)] ∧ ZV V ∧ XC V h ∧ ∀ h', XC V h' → zt19 (zFS V j 1000) h' → zq_fr zfT h h' → Q (some (.int (nI (zFS V j 1000).1))) h'
def I_cfit (Q : zq_Q) (z : zq_H × zV × Nat × Nat) : zq_P := fun ls st h => match z with
  | (h0, V, j, t) => ∃ (s5 : Int32) (s7 : Option Value), ls = [some (.ref 15), some (.ref 48), some (.ref 40), some (.int (nI j)), some (.int (nI (zFS V j t).1)), some (.int s5), some (.int (nI t)), s7] ∧ st = [] ∧ t ≤ 1000 ∧ ZV V ∧ XC V h ∧ zq_fr zfT h0 h ∧ (0 < (zFS V j t).1 → s5 = nI (zsm (zFS V j t).2)) ∧ zt19 (zFS V j t) h ∧ ∀ h', XC V h' → zt19 (zFS V j 1000) h' → zq_fr zfT h0 h' → Q (some (.int (nI (zFS V j 1000).1))) h'
theorem ok_cfit : zq_M yX1_countFitting cX1_countFitting 8 (some .int) 1 5 sp_cfit := by
  refine mX1_countFitting ok_fits (by decide) (by decide) (fun z => 2000 - z.2.2.2) I_cfit (fun args h Q hs => ?_) (fun Q z ls st h hi => ?_)
  · obtain ⟨V, j, rfl, hV, hX, kk⟩ := hs
    refine ⟨Nat.le_of_ble_eq_true rfl, ?_⟩
    simp only [xX1_countFitting_0, zi_push, zi_iload, zi_lload, zi_aload, zi_istore, zi_astore, zi_lstore, zi_iinc, zi_i2, zi_i1, zi_idv, zi_l2, zi_ldv, zi_lsh, zi_i2l, zi_l2i, zi_lcmp, zi_dup, zi_dup2, zi_pop, zi_if1, zi_if2, zi_getI, zi_getL, zi_getR, zi_putI, zi_putZ, zi_putL, zi_aldI, zi_aldL, zi_astI, zi_astZ, zi_astL, zi_alen, zi_iret, zi_zret, zi_lret, zi_vret, zi_callV, zi_callS, zi_sw, zi_copyI, zi_copyL, zi_m2, zi_m1, zi_sval, zi_scod, zi_fmt, zi_balen, zi_bald, zi_bret, zi_callT, zq_nth, zq_put1, zq_put2, zq_clr, zq_nl, zq_tk, zq_ps, zq_sw, zq_l0, zq_a, zq_a1, List.length_cons, List.length_nil, List.nil_append, List.cons_append, List.append_nil, List.replicate, Nat.reduceAdd, Nat.reduceSub, Nat.reduceLeDiff, true_and, and_true, List.append_eq, List.cons.injEq, Value.int.injEq, Value.long.injEq, Value.ref.injEq, exists_and_left, exists_eq_left', and_assoc, zc_b, zc_0, zc_1, zc_10, zc_01, lg_cmp_ge, lg_cmp_le, lg_cmp_gt, lg_cmp_lt, lg_cmp_eq, zw_le, zw_lt, reduceIte, true_or, or_true, zw_g0, zw_l0, zw_g1, zw_l1, zw_g2, zw_l2, zw_g3, zw_l3, zw_g5, zw_l5, zw_g6, zw_l6, zw_g7, zw_l7, zw_g9, zw_l9, zw_g10, zw_l10, zw_g15, zw_l15, zw_g16, zw_l16, zw_g48, zw_l48, zw_g50, zw_l50, zw_g57, zw_l57, zw_g97, zw_l97, zw_g100, zw_l100, zw_g200, zw_l200, zw_g999, zw_l999, zw_g9999, zw_l9999]
    exact ⟨(h, V, j, 0), 0, none, rfl, rfl, Nat.zero_le _, hV, hX, zq_fr_rf, fun z => absurd z (Nat.lt_irrefl _), fun z => absurd z (Nat.lt_irrefl _), kk⟩
  · obtain ⟨h0, V, j, t⟩ := z
    obtain ⟨s5, s7, rfl, rfl, ht, hV, hX, hf, h5, h19, kk⟩ := hi
    have ok := zFS_ok V j t ht
    have e1 : (1000 ≤ nI t) = (t = 1000) := zl_ge (n := 1000) ht (by decide)
    simp only [xX1_countFitting_9, xX1_countFitting_17, xX1_countFitting_93, e1, zi_push, zi_iload, zi_lload, zi_aload, zi_istore, zi_astore, zi_lstore, zi_iinc, zi_i2, zi_i1, zi_idv, zi_l2, zi_ldv, zi_lsh, zi_i2l, zi_l2i, zi_lcmp, zi_dup, zi_dup2, zi_pop, zi_if1, zi_if2, zi_getI, zi_getL, zi_getR, zi_putI, zi_putZ, zi_putL, zi_aldI, zi_aldL, zi_astI, zi_astZ, zi_astL, zi_alen, zi_iret, zi_zret, zi_lret, zi_vret, zi_callV, zi_callS, zi_sw, zi_copyI, zi_copyL, zi_m2, zi_m1, zi_sval, zi_scod, zi_fmt, zi_balen, zi_bald, zi_bret, zi_callT, zq_nth, zq_put1, zq_put2, zq_clr, zq_nl, zq_tk, zq_ps, zq_sw, zq_l0, zq_a, zq_a1, List.length_cons, List.length_nil, List.nil_append, List.cons_append, List.append_nil, List.replicate, Nat.reduceAdd, Nat.reduceSub, Nat.reduceLeDiff, true_and, and_true, List.append_eq, List.cons.injEq, Value.int.injEq, Value.long.injEq, Value.ref.injEq, exists_and_left, exists_eq_left', and_assoc, zc_b, zc_0, zc_1, zc_10, zc_01, lg_cmp_ge, lg_cmp_le, lg_cmp_gt, lg_cmp_lt, lg_cmp_eq, zw_le, zw_lt, reduceIte, true_or, or_true, zw_g0, zw_l0, zw_g1, zw_l1, zw_g2, zw_l2, zw_g3, zw_l3, zw_g5, zw_l5, zw_g6, zw_l6, zw_g7, zw_l7, zw_g9, zw_l9, zw_g10, zw_l10, zw_g15, zw_l15, zw_g16, zw_l16, zw_g48, zw_l48, zw_g50, zw_l50, zw_g57, zw_l57, zw_g97, zw_l97, zw_g100, zw_l100, zw_g200, zw_l200, zw_g999, zw_l999, zw_g9999, zw_l9999]
    refine ⟨fun q => ?_, fun q => ⟨V, j, t, rfl, by omega, hV, hX, fun h1 x1 k1 f1 => ?_⟩⟩
    · subst q
      exact kk h hX h19 hf
    · have es := zFS_s V j t
      have hf1 : zq_fr zfT h0 h1 := zq_fr_t hf f1 (by decide)
      have b19 : zt19 (zFS V j t) h1 := fun z => by rw [(f1 19 (by decide)).1]; exact h19 z
      by_cases q2 : zft V j t
      · rw [if_pos q2]
        unfold zFT1 at es
        rw [if_pos q2] at es
        obtain ⟨-, -, t1, t2, t3⟩ := k1.1
        have t1 : h1.1 18 0 = nI (t / 100) := t1
        have t2 : h1.1 18 1 = nI (t / 10 % 10) := t2
        have t3 : h1.1 18 2 = nI (t % 10) := t3
        have esm : nI (t / 100 + t / 10 % 10 + t % 10) = nI (zsm t) := rfl
        have ez : (nI (zFS V j t).1 = 0) = ((zFS V j t).1 = 0) := nI_zP (by omega)
        have v : ∀ i, i < 3 → vp_in (nI i) 3 := fun i hi => vp_in_nI hi (by decide)
        have go84 : ∀ (s5' : Int32) h2, XC V h2 → zq_fr zfT h0 h2 → (s5' = nI (zsm (zFS V j (t + 1)).2)) → zt19 (zFS V j (t + 1)) h2 → (zFS V j (t + 1)).1 = (zFS V j t).1 + 1 → xX1_countFitting_84 sp_fits (fun ls st h => ∃ b9, 2000 - b9.2.2.2 < 2000 - t ∧ I_cfit Q b9 ls st h) Q [some (.ref 15), some (.ref 48), some (.ref 40), some (.int (nI j)), some (.int (nI (zFS V j t).1)), some (.int s5'), some (.int (nI t)), some (.int (nI (zsm t)))] [] h2 := by
          intro s5' h2 x2 f2 a2 b2 c2
          simp only [xX1_countFitting_84, xX1_countFitting_87, nI_1, zi_push, zi_iload, zi_lload, zi_aload, zi_istore, zi_astore, zi_lstore, zi_iinc, zi_i2, zi_i1, zi_idv, zi_l2, zi_ldv, zi_lsh, zi_i2l, zi_l2i, zi_lcmp, zi_dup, zi_dup2, zi_pop, zi_if1, zi_if2, zi_getI, zi_getL, zi_getR, zi_putI, zi_putZ, zi_putL, zi_aldI, zi_aldL, zi_astI, zi_astZ, zi_astL, zi_alen, zi_iret, zi_zret, zi_lret, zi_vret, zi_callV, zi_callS, zi_sw, zi_copyI, zi_copyL, zi_m2, zi_m1, zi_sval, zi_scod, zi_fmt, zi_balen, zi_bald, zi_bret, zi_callT, zq_nth, zq_put1, zq_put2, zq_clr, zq_nl, zq_tk, zq_ps, zq_sw, zq_l0, zq_a, zq_a1, List.length_cons, List.length_nil, List.nil_append, List.cons_append, List.append_nil, List.replicate, Nat.reduceAdd, Nat.reduceSub, Nat.reduceLeDiff, true_and, and_true, List.append_eq, List.cons.injEq, Value.int.injEq, Value.long.injEq, Value.ref.injEq, exists_and_left, exists_eq_left', and_assoc, zc_b, zc_0, zc_1, zc_10, zc_01, lg_cmp_ge, lg_cmp_le, lg_cmp_gt, lg_cmp_lt, lg_cmp_eq, zw_le, zw_lt, reduceIte, true_or, or_true, zw_g0, zw_l0, zw_g1, zw_l1, zw_g2, zw_l2, zw_g3, zw_l3, zw_g5, zw_l5, zw_g6, zw_l6, zw_g7, zw_l7, zw_g9, zw_l9, zw_g10, zw_l10, zw_g15, zw_l15, zw_g16, zw_l16, zw_g48, zw_l48, zw_g50, zw_l50, zw_g57, zw_l57, zw_g97, zw_l97, zw_g100, zw_l100, zw_g200, zw_l200, zw_g999, zw_l999, zw_g9999, zw_l9999]
          exact ⟨(h0, V, j, t + 1), by dsimp only; omega, s5', _, by rw [c2], rfl, by omega, hV, x2, f2, fun _ => a2, b2, kk⟩
        have go66 : ((zFS V j t).1 = 0 ∨ zsm t < zsm (zFS V j t).2) → xX1_countFitting_66 sp_fits (fun ls st h => ∃ b9, 2000 - b9.2.2.2 < 2000 - t ∧ I_cfit Q b9 ls st h) Q [some (.ref 15), some (.ref 48), some (.ref 40), some (.int (nI j)), some (.int (nI (zFS V j t).1)), some (.int s5), some (.int (nI t)), some (.int (nI (zsm t)))] [] h1 := by
          intro q3
          rw [if_pos q3] at es
          simp only [xX1_countFitting_66, zi_push, zi_iload, zi_lload, zi_aload, zi_istore, zi_astore, zi_lstore, zi_iinc, zi_i2, zi_i1, zi_idv, zi_l2, zi_ldv, zi_lsh, zi_i2l, zi_l2i, zi_lcmp, zi_dup, zi_dup2, zi_pop, zi_if1, zi_if2, zi_getI, zi_getL, zi_getR, zi_putI, zi_putZ, zi_putL, zi_aldI, zi_aldL, zi_astI, zi_astZ, zi_astL, zi_alen, zi_iret, zi_zret, zi_lret, zi_vret, zi_callV, zi_callS, zi_sw, zi_copyI, zi_copyL, zi_m2, zi_m1, zi_sval, zi_scod, zi_fmt, zi_balen, zi_bald, zi_bret, zi_callT, zq_nth, zq_put1, zq_put2, zq_clr, zq_nl, zq_tk, zq_ps, zq_sw, zq_l0, zq_a, zq_a1, List.length_cons, List.length_nil, List.nil_append, List.cons_append, List.append_nil, List.replicate, Nat.reduceAdd, Nat.reduceSub, Nat.reduceLeDiff, true_and, and_true, List.append_eq, List.cons.injEq, Value.int.injEq, Value.long.injEq, Value.ref.injEq, exists_and_left, exists_eq_left', and_assoc, zc_b, zc_0, zc_1, zc_10, zc_01, lg_cmp_ge, lg_cmp_le, lg_cmp_gt, lg_cmp_lt, lg_cmp_eq, zw_le, zw_lt, reduceIte, true_or, or_true, zw_g0, zw_l0, zw_g1, zw_l1, zw_g2, zw_l2, zw_g3, zw_l3, zw_g5, zw_l5, zw_g6, zw_l6, zw_g7, zw_l7, zw_g9, zw_l9, zw_g10, zw_l10, zw_g15, zw_l15, zw_g16, zw_l16, zw_g48, zw_l48, zw_g50, zw_l50, zw_g57, zw_l57, zw_g97, zw_l97, zw_g100, zw_l100, zw_g200, zw_l200, zw_g999, zw_l999, zw_g9999, zw_l9999]
          refine ⟨by decide, by decide, by decide, by decide, by decide, ?_⟩
          have f0 : zq_fr [19] h1 (fun q i => if q = 19 then va_cpy (h1.1 18) (h1.1 19) (Int32.toNatClampNeg 0) (Int32.toNatClampNeg 0) (Int32.toNatClampNeg 3) i else h1.1 q i, h1.2) := by
            intro p hp
            have q19 : ¬ p = 19 := fun z => hp (by rw [z]; decide)
            refine ⟨?_, rfl⟩
            funext i
            show (if p = 19 then _ else _) = _
            rw [if_neg q19]
          refine go84 _ _ (XC_K x1 f0 (by decide) (by rw [(f0 15 (by decide)).1])) (zq_fr_t hf1 f0 (by decide)) (by rw [es]) (fun _ => ?_) (by rw [es])
          rw [es]
          exact ⟨t1, t2, t3⟩
        simp only [xX1_countFitting_32, nI_clamp (show 0 < 2 ^ 31 by decide), show Int32.toNatClampNeg 0 = 0 from rfl, show Int32.toNatClampNeg 1 = 1 from rfl, show Int32.toNatClampNeg 2 = 2 from rfl, t1, t2, t3, nI_add, esm, ez, zc_10, not_true_eq_false, not_false_eq_true, forall_const, true_and, and_true, false_and, and_false, if_true, if_false, reduceIte, implies_true, and_self, ite_self, true_or, or_true, false_or, or_false, true_implies, false_implies, Classical.not_not, false_imp_iff, not_false_iff, zi_push, zi_iload, zi_lload, zi_aload, zi_istore, zi_astore, zi_lstore, zi_iinc, zi_i2, zi_i1, zi_idv, zi_l2, zi_ldv, zi_lsh, zi_i2l, zi_l2i, zi_lcmp, zi_dup, zi_dup2, zi_pop, zi_if1, zi_if2, zi_getI, zi_getL, zi_getR, zi_putI, zi_putZ, zi_putL, zi_aldI, zi_aldL, zi_astI, zi_astZ, zi_astL, zi_alen, zi_iret, zi_zret, zi_lret, zi_vret, zi_callV, zi_callS, zi_sw, zi_copyI, zi_copyL, zi_m2, zi_m1, zi_sval, zi_scod, zi_fmt, zi_balen, zi_bald, zi_bret, zi_callT, zq_nth, zq_put1, zq_put2, zq_clr, zq_nl, zq_tk, zq_ps, zq_sw, zq_l0, zq_a, zq_a1, List.length_cons, List.length_nil, List.nil_append, List.cons_append, List.append_nil, List.replicate, Nat.reduceAdd, Nat.reduceSub, Nat.reduceLeDiff, true_and, and_true, List.append_eq, List.cons.injEq, Value.int.injEq, Value.long.injEq, Value.ref.injEq, exists_and_left, exists_eq_left', and_assoc, zc_b, zc_0, zc_1, zc_10, zc_01, lg_cmp_ge, lg_cmp_le, lg_cmp_gt, lg_cmp_lt, lg_cmp_eq, zw_le, zw_lt, reduceIte, true_or, or_true, zw_g0, zw_l0, zw_g1, zw_l1, zw_g2, zw_l2, zw_g3, zw_l3, zw_g5, zw_l5, zw_g6, zw_l6, zw_g7, zw_l7, zw_g9, zw_l9, zw_g10, zw_l10, zw_g15, zw_l15, zw_g16, zw_l16, zw_g48, zw_l48, zw_g50, zw_l50, zw_g57, zw_l57, zw_g97, zw_l97, zw_g100, zw_l100, zw_g200, zw_l200, zw_g999, zw_l999, zw_g9999, zw_l9999]
        refine ⟨v 0 (by decide), v 1 (by decide), v 2 (by decide), fun q3 => go66 (Or.inl q3), fun q3 => ?_⟩
        have c5 := h5 (by omega)
        have l1 := zsm_le (show t < 1000 by omega)
        have l2 := zsm_le ok.2
        have el : (s5 ≤ nI (zsm t)) = (zsm (zFS V j t).2 ≤ zsm t) := by rw [c5]; exact nI_leP (by omega) (by omega)
        simp only [xX1_countFitting_59, el, zi_push, zi_iload, zi_lload, zi_aload, zi_istore, zi_astore, zi_lstore, zi_iinc, zi_i2, zi_i1, zi_idv, zi_l2, zi_ldv, zi_lsh, zi_i2l, zi_l2i, zi_lcmp, zi_dup, zi_dup2, zi_pop, zi_if1, zi_if2, zi_getI, zi_getL, zi_getR, zi_putI, zi_putZ, zi_putL, zi_aldI, zi_aldL, zi_astI, zi_astZ, zi_astL, zi_alen, zi_iret, zi_zret, zi_lret, zi_vret, zi_callV, zi_callS, zi_sw, zi_copyI, zi_copyL, zi_m2, zi_m1, zi_sval, zi_scod, zi_fmt, zi_balen, zi_bald, zi_bret, zi_callT, zq_nth, zq_put1, zq_put2, zq_clr, zq_nl, zq_tk, zq_ps, zq_sw, zq_l0, zq_a, zq_a1, List.length_cons, List.length_nil, List.nil_append, List.cons_append, List.append_nil, List.replicate, Nat.reduceAdd, Nat.reduceSub, Nat.reduceLeDiff, true_and, and_true, List.append_eq, List.cons.injEq, Value.int.injEq, Value.long.injEq, Value.ref.injEq, exists_and_left, exists_eq_left', and_assoc, zc_b, zc_0, zc_1, zc_10, zc_01, lg_cmp_ge, lg_cmp_le, lg_cmp_gt, lg_cmp_lt, lg_cmp_eq, zw_le, zw_lt, reduceIte, true_or, or_true, zw_g0, zw_l0, zw_g1, zw_l1, zw_g2, zw_l2, zw_g3, zw_l3, zw_g5, zw_l5, zw_g6, zw_l6, zw_g7, zw_l7, zw_g9, zw_l9, zw_g10, zw_l10, zw_g15, zw_l15, zw_g16, zw_l16, zw_g48, zw_l48, zw_g50, zw_l50, zw_g57, zw_l57, zw_g97, zw_l97, zw_g100, zw_l100, zw_g200, zw_l200, zw_g999, zw_l999, zw_g9999, zw_l9999]
        refine ⟨fun q4 => ?_, fun q4 => go66 (Or.inr (by omega))⟩
        rw [if_neg (show ¬ ((zFS V j t).1 = 0 ∨ zsm t < zsm (zFS V j t).2) by omega)] at es
        exact go84 s5 h1 x1 hf1 (by rw [es]; exact c5) (by rw [es]; exact fun _ => b19 (by omega)) (by rw [es])
      · rw [if_neg q2]
        unfold zFT1 at es
        rw [if_neg q2] at es
        simp only [xX1_countFitting_29, xX1_countFitting_87, nI_1, not_true_eq_false, not_false_eq_true, forall_const, true_and, and_true, false_and, and_false, if_true, if_false, reduceIte, implies_true, and_self, ite_self, true_or, or_true, false_or, or_false, true_implies, false_implies, Classical.not_not, false_imp_iff, not_false_iff, zi_push, zi_iload, zi_lload, zi_aload, zi_istore, zi_astore, zi_lstore, zi_iinc, zi_i2, zi_i1, zi_idv, zi_l2, zi_ldv, zi_lsh, zi_i2l, zi_l2i, zi_lcmp, zi_dup, zi_dup2, zi_pop, zi_if1, zi_if2, zi_getI, zi_getL, zi_getR, zi_putI, zi_putZ, zi_putL, zi_aldI, zi_aldL, zi_astI, zi_astZ, zi_astL, zi_alen, zi_iret, zi_zret, zi_lret, zi_vret, zi_callV, zi_callS, zi_sw, zi_copyI, zi_copyL, zi_m2, zi_m1, zi_sval, zi_scod, zi_fmt, zi_balen, zi_bald, zi_bret, zi_callT, zq_nth, zq_put1, zq_put2, zq_clr, zq_nl, zq_tk, zq_ps, zq_sw, zq_l0, zq_a, zq_a1, List.length_cons, List.length_nil, List.nil_append, List.cons_append, List.append_nil, List.replicate, Nat.reduceAdd, Nat.reduceSub, Nat.reduceLeDiff, true_and, and_true, List.append_eq, List.cons.injEq, Value.int.injEq, Value.long.injEq, Value.ref.injEq, exists_and_left, exists_eq_left', and_assoc, zc_b, zc_0, zc_1, zc_10, zc_01, lg_cmp_ge, lg_cmp_le, lg_cmp_gt, lg_cmp_lt, lg_cmp_eq, zw_le, zw_lt, reduceIte, true_or, or_true, zw_g0, zw_l0, zw_g1, zw_l1, zw_g2, zw_l2, zw_g3, zw_l3, zw_g5, zw_l5, zw_g6, zw_l6, zw_g7, zw_l7, zw_g9, zw_l9, zw_g10, zw_l10, zw_g15, zw_l15, zw_g16, zw_l16, zw_g48, zw_l48, zw_g50, zw_l50, zw_g57, zw_l57, zw_g97, zw_l97, zw_g100, zw_l100, zw_g200, zw_l200, zw_g999, zw_l999, zw_g9999, zw_l9999]
        exact ⟨(h0, V, j, t + 1), by dsimp only; omega, s5, s7, by rw [es], rfl, by omega, hV, x1, hf1, by rw [es]; exact h5, by rw [es]; exact b19, kk⟩
def zfTx : List Nat := [3, 4, 15, 18, 19, 20, 51]
def sp_xTastes (V : zV) : zq_Sp := fun args h Q => ∃ a, args = [.ref 0, .int a] ∧ ZV V ∧ XC V h ∧ zTs V a (fun row r => ∀ h', XR row h' → XC V h' → zq_fr zfTx h h' → Q (some (.int r)) h') (Q (some (.int (-1))) h)
def I_xTas (V : zV) (Q : zq_Q) (z : zq_H × Nat × Nat) : zq_P := fun ls st h => match z with
  | (h0, j, i) => ls = [some (.ref 0), some (.int (nI j)), some (.int (nI (zFS V j 1000).1)), some (.int (nI i))] ∧ st = [] ∧ i ≤ 3 ∧ XC V h ∧ zt19 (zFS V j 1000) h ∧ zq_fr zfTx h0 h ∧ XR ((zTr (zFS V j 1000)).take i) h ∧ ∀ h', XR (zTr (zFS V j 1000)) h' → XC V h' → zq_fr zfTx h0 h' → Q (some (.int (nI (zFS V j 1000).1))) h'
theorem ok_xTastes (V : zV) : zq_M yX11_tastes cX11_tastes 4 (some .int) 1 6 (sp_xTastes V) := by
  refine mX11_tastes (ok_isGuestV V) (by decide) ok_cfit (by decide) ok_rowClearL (by decide) ok_rowAddL (by decide) (fun z => 10 - z.2.2) (I_xTas V) (fun args h Q hs => ?_) (fun Q z ls st h hi => ?_)
  · obtain ⟨a, rfl, hV, hX, k1, k2⟩ := hs
    have hg := hX.2.1.1
    refine ⟨Nat.le_of_ble_eq_true rfl, ?_⟩
    simp only [xX11_tastes_0, zi_push, zi_iload, zi_lload, zi_aload, zi_istore, zi_astore, zi_lstore, zi_iinc, zi_i2, zi_i1, zi_idv, zi_l2, zi_ldv, zi_lsh, zi_i2l, zi_l2i, zi_lcmp, zi_dup, zi_dup2, zi_pop, zi_if1, zi_if2, zi_getI, zi_getL, zi_getR, zi_putI, zi_putZ, zi_putL, zi_aldI, zi_aldL, zi_astI, zi_astZ, zi_astL, zi_alen, zi_iret, zi_zret, zi_lret, zi_vret, zi_callV, zi_callS, zi_sw, zi_copyI, zi_copyL, zi_m2, zi_m1, zi_sval, zi_scod, zi_fmt, zi_balen, zi_bald, zi_bret, zi_callT, zq_nth, zq_put1, zq_put2, zq_clr, zq_nl, zq_tk, zq_ps, zq_sw, zq_l0, zq_a, zq_a1, List.length_cons, List.length_nil, List.nil_append, List.cons_append, List.append_nil, List.replicate, Nat.reduceAdd, Nat.reduceSub, Nat.reduceLeDiff, true_and, and_true, List.append_eq, List.cons.injEq, Value.int.injEq, Value.long.injEq, Value.ref.injEq, exists_and_left, exists_eq_left', and_assoc, zc_b, zc_0, zc_1, zc_10, zc_01, lg_cmp_ge, lg_cmp_le, lg_cmp_gt, lg_cmp_lt, lg_cmp_eq, zw_le, zw_lt, reduceIte, true_or, or_true, zw_g0, zw_l0, zw_g1, zw_l1, zw_g2, zw_l2, zw_g3, zw_l3, zw_g5, zw_l5, zw_g6, zw_l6, zw_g7, zw_l7, zw_g9, zw_l9, zw_g10, zw_l10, zw_g15, zw_l15, zw_g16, zw_l16, zw_g48, zw_l48, zw_g50, zw_l50, zw_g57, zw_l57, zw_g97, zw_l97, zw_g100, zw_l100, zw_g200, zw_l200, zw_g999, zw_l999, zw_g9999, zw_l9999]
    refine ⟨a, rfl, hX, ?_⟩
    simp only [xX11_tastes_8, xX11_tastes_10, zi_push, zi_iload, zi_lload, zi_aload, zi_istore, zi_astore, zi_lstore, zi_iinc, zi_i2, zi_i1, zi_idv, zi_l2, zi_ldv, zi_lsh, zi_i2l, zi_l2i, zi_lcmp, zi_dup, zi_dup2, zi_pop, zi_if1, zi_if2, zi_getI, zi_getL, zi_getR, zi_putI, zi_putZ, zi_putL, zi_aldI, zi_aldL, zi_astI, zi_astZ, zi_astL, zi_alen, zi_iret, zi_zret, zi_lret, zi_vret, zi_callV, zi_callS, zi_sw, zi_copyI, zi_copyL, zi_m2, zi_m1, zi_sval, zi_scod, zi_fmt, zi_balen, zi_bald, zi_bret, zi_callT, zq_nth, zq_put1, zq_put2, zq_clr, zq_nl, zq_tk, zq_ps, zq_sw, zq_l0, zq_a, zq_a1, List.length_cons, List.length_nil, List.nil_append, List.cons_append, List.append_nil, List.replicate, Nat.reduceAdd, Nat.reduceSub, Nat.reduceLeDiff, true_and, and_true, List.append_eq, List.cons.injEq, Value.int.injEq, Value.long.injEq, Value.ref.injEq, exists_and_left, exists_eq_left', and_assoc, zc_b, zc_0, zc_1, zc_10, zc_01, lg_cmp_ge, lg_cmp_le, lg_cmp_gt, lg_cmp_lt, lg_cmp_eq, zw_le, zw_lt, reduceIte, true_or, or_true, zw_g0, zw_l0, zw_g1, zw_l1, zw_g2, zw_l2, zw_g3, zw_l3, zw_g5, zw_l5, zw_g6, zw_l6, zw_g7, zw_l7, zw_g9, zw_l9, zw_g10, zw_l10, zw_g15, zw_l15, zw_g16, zw_l16, zw_g48, zw_l48, zw_g50, zw_l50, zw_g57, zw_l57, zw_g97, zw_l97, zw_g100, zw_l100, zw_g200, zw_l200, zw_g999, zw_l999, zw_g9999, zw_l9999]
    refine ⟨fun q => k1 q, fun q => ?_⟩
    obtain ⟨j, hj, rfl⟩ := zg_nat (by omega) (Classical.not_not.mp q)
    refine ⟨V, j, rfl, hV, hX, fun h1 x1 t1 f1 => ?_⟩
    simp only [zi_push, zi_iload, zi_lload, zi_aload, zi_istore, zi_astore, zi_lstore, zi_iinc, zi_i2, zi_i1, zi_idv, zi_l2, zi_ldv, zi_lsh, zi_i2l, zi_l2i, zi_lcmp, zi_dup, zi_dup2, zi_pop, zi_if1, zi_if2, zi_getI, zi_getL, zi_getR, zi_putI, zi_putZ, zi_putL, zi_aldI, zi_aldL, zi_astI, zi_astZ, zi_astL, zi_alen, zi_iret, zi_zret, zi_lret, zi_vret, zi_callV, zi_callS, zi_sw, zi_copyI, zi_copyL, zi_m2, zi_m1, zi_sval, zi_scod, zi_fmt, zi_balen, zi_bald, zi_bret, zi_callT, zq_nth, zq_put1, zq_put2, zq_clr, zq_nl, zq_tk, zq_ps, zq_sw, zq_l0, zq_a, zq_a1, List.length_cons, List.length_nil, List.nil_append, List.cons_append, List.append_nil, List.replicate, Nat.reduceAdd, Nat.reduceSub, Nat.reduceLeDiff, true_and, and_true, List.append_eq, List.cons.injEq, Value.int.injEq, Value.long.injEq, Value.ref.injEq, exists_and_left, exists_eq_left', and_assoc, zc_b, zc_0, zc_1, zc_10, zc_01, lg_cmp_ge, lg_cmp_le, lg_cmp_gt, lg_cmp_lt, lg_cmp_eq, zw_le, zw_lt, reduceIte, true_or, or_true, zw_g0, zw_l0, zw_g1, zw_l1, zw_g2, zw_l2, zw_g3, zw_l3, zw_g5, zw_l5, zw_g6, zw_l6, zw_g7, zw_l7, zw_g9, zw_l9, zw_g10, zw_l10, zw_g15, zw_l15, zw_g16, zw_l16, zw_g48, zw_l48, zw_g50, zw_l50, zw_g57, zw_l57, zw_g97, zw_l97, zw_g100, zw_l100, zw_g200, zw_l200, zw_g999, zw_l999, zw_g9999, zw_l9999]
    refine ⟨rfl, fun h2 r2 f2 => ?_⟩
    simp only [zi_push, zi_iload, zi_lload, zi_aload, zi_istore, zi_astore, zi_lstore, zi_iinc, zi_i2, zi_i1, zi_idv, zi_l2, zi_ldv, zi_lsh, zi_i2l, zi_l2i, zi_lcmp, zi_dup, zi_dup2, zi_pop, zi_if1, zi_if2, zi_getI, zi_getL, zi_getR, zi_putI, zi_putZ, zi_putL, zi_aldI, zi_aldL, zi_astI, zi_astZ, zi_astL, zi_alen, zi_iret, zi_zret, zi_lret, zi_vret, zi_callV, zi_callS, zi_sw, zi_copyI, zi_copyL, zi_m2, zi_m1, zi_sval, zi_scod, zi_fmt, zi_balen, zi_bald, zi_bret, zi_callT, zq_nth, zq_put1, zq_put2, zq_clr, zq_nl, zq_tk, zq_ps, zq_sw, zq_l0, zq_a, zq_a1, List.length_cons, List.length_nil, List.nil_append, List.cons_append, List.append_nil, List.replicate, Nat.reduceAdd, Nat.reduceSub, Nat.reduceLeDiff, true_and, and_true, List.append_eq, List.cons.injEq, Value.int.injEq, Value.long.injEq, Value.ref.injEq, exists_and_left, exists_eq_left', and_assoc, zc_b, zc_0, zc_1, zc_10, zc_01, lg_cmp_ge, lg_cmp_le, lg_cmp_gt, lg_cmp_lt, lg_cmp_eq, zw_le, zw_lt, reduceIte, true_or, or_true, zw_g0, zw_l0, zw_g1, zw_l1, zw_g2, zw_l2, zw_g3, zw_l3, zw_g5, zw_l5, zw_g6, zw_l6, zw_g7, zw_l7, zw_g9, zw_l9, zw_g10, zw_l10, zw_g15, zw_l15, zw_g16, zw_l16, zw_g48, zw_l48, zw_g50, zw_l50, zw_g57, zw_l57, zw_g97, zw_l97, zw_g100, zw_l100, zw_g200, zw_l200, zw_g999, zw_l999, zw_g9999, zw_l9999]
    exact ⟨(h, j, 0), rfl, rfl, Nat.zero_le _, XC_fr x1 f2 (by decide), fun z => by rw [(f2 19 (by decide)).1]; exact t1 z, zq_fr_t (zq_fr_w f1 (by decide)) f2 (by decide), r2, k2 j hj rfl⟩
  · obtain ⟨h0, j, i⟩ := z
    obtain ⟨rfl, rfl, hi, hX, h19, hf, hR, kk⟩ := hi
    have ok := (zFS_ok V j 1000 (Nat.le_refl _))
    have e0 : (nI (zFS V j 1000).1 ≤ 0) = ((zFS V j 1000).1 = 0) := nI_le0 (by omega)
    have e3 : (3 ≤ nI i) = (i = 3) := zl_ge (n := 3) hi (by decide)
    simp only [xX11_tastes_36, xX11_tastes_40, xX11_tastes_68, e0, e3, zi_push, zi_iload, zi_lload, zi_aload, zi_istore, zi_astore, zi_lstore, zi_iinc, zi_i2, zi_i1, zi_idv, zi_l2, zi_ldv, zi_lsh, zi_i2l, zi_l2i, zi_lcmp, zi_dup, zi_dup2, zi_pop, zi_if1, zi_if2, zi_getI, zi_getL, zi_getR, zi_putI, zi_putZ, zi_putL, zi_aldI, zi_aldL, zi_astI, zi_astZ, zi_astL, zi_alen, zi_iret, zi_zret, zi_lret, zi_vret, zi_callV, zi_callS, zi_sw, zi_copyI, zi_copyL, zi_m2, zi_m1, zi_sval, zi_scod, zi_fmt, zi_balen, zi_bald, zi_bret, zi_callT, zq_nth, zq_put1, zq_put2, zq_clr, zq_nl, zq_tk, zq_ps, zq_sw, zq_l0, zq_a, zq_a1, List.length_cons, List.length_nil, List.nil_append, List.cons_append, List.append_nil, List.replicate, Nat.reduceAdd, Nat.reduceSub, Nat.reduceLeDiff, true_and, and_true, List.append_eq, List.cons.injEq, Value.int.injEq, Value.long.injEq, Value.ref.injEq, exists_and_left, exists_eq_left', and_assoc, zc_b, zc_0, zc_1, zc_10, zc_01, lg_cmp_ge, lg_cmp_le, lg_cmp_gt, lg_cmp_lt, lg_cmp_eq, zw_le, zw_lt, reduceIte, true_or, or_true, zw_g0, zw_l0, zw_g1, zw_l1, zw_g2, zw_l2, zw_g3, zw_l3, zw_g5, zw_l5, zw_g6, zw_l6, zw_g7, zw_l7, zw_g9, zw_l9, zw_g10, zw_l10, zw_g15, zw_l15, zw_g16, zw_l16, zw_g48, zw_l48, zw_g50, zw_l50, zw_g57, zw_l57, zw_g97, zw_l97, zw_g100, zw_l100, zw_g200, zw_l200, zw_g999, zw_l999, zw_g9999, zw_l9999]
    refine ⟨fun q => kk h ?_ hX hf, fun q => ⟨fun q2 => kk h ?_ hX hf, fun q2 => ?_⟩⟩
    · have e : zTr (zFS V j 1000) = [] := if_pos q
      rw [e] at hR ⊢
      rw [List.take_nil] at hR
      exact hR
    · have e : zTr (zFS V j 1000) = [lN ((zFS V j 1000).2 / 100), lN ((zFS V j 1000).2 / 10 % 10), lN ((zFS V j 1000).2 % 10)] := if_neg q
      subst q2
      rw [e] at hR ⊢
      exact hR
    · have e : zTr (zFS V j 1000) = [lN ((zFS V j 1000).2 / 100), lN ((zFS V j 1000).2 / 10 % 10), lN ((zFS V j 1000).2 % 10)] := if_neg q
      obtain ⟨a0, a1, a2⟩ := h19 (by omega)
      have v3 : vp_in (nI i) 3 := vp_in_nI (by omega) (by decide)
      have fin : ∀ v : Nat, v < 1000 → h.1 19 i = nI v → (zTr (zFS V j 1000)).take i ++ [lN v] = (zTr (zFS V j 1000)).take (i + 1) → ∃ b9 : zq_H × Nat × Nat, True := fun _ _ _ _ => ⟨(h0, j, i), trivial⟩
      simp only [xX11_tastes_45, nI_clamp (show i < 2 ^ 31 by omega), zi_push, zi_iload, zi_lload, zi_aload, zi_istore, zi_astore, zi_lstore, zi_iinc, zi_i2, zi_i1, zi_idv, zi_l2, zi_ldv, zi_lsh, zi_i2l, zi_l2i, zi_lcmp, zi_dup, zi_dup2, zi_pop, zi_if1, zi_if2, zi_getI, zi_getL, zi_getR, zi_putI, zi_putZ, zi_putL, zi_aldI, zi_aldL, zi_astI, zi_astZ, zi_astL, zi_alen, zi_iret, zi_zret, zi_lret, zi_vret, zi_callV, zi_callS, zi_sw, zi_copyI, zi_copyL, zi_m2, zi_m1, zi_sval, zi_scod, zi_fmt, zi_balen, zi_bald, zi_bret, zi_callT, zq_nth, zq_put1, zq_put2, zq_clr, zq_nl, zq_tk, zq_ps, zq_sw, zq_l0, zq_a, zq_a1, List.length_cons, List.length_nil, List.nil_append, List.cons_append, List.append_nil, List.replicate, Nat.reduceAdd, Nat.reduceSub, Nat.reduceLeDiff, true_and, and_true, List.append_eq, List.cons.injEq, Value.int.injEq, Value.long.injEq, Value.ref.injEq, exists_and_left, exists_eq_left', and_assoc, zc_b, zc_0, zc_1, zc_10, zc_01, lg_cmp_ge, lg_cmp_le, lg_cmp_gt, lg_cmp_lt, lg_cmp_eq, zw_le, zw_lt, reduceIte, true_or, or_true, zw_g0, zw_l0, zw_g1, zw_l1, zw_g2, zw_l2, zw_g3, zw_l3, zw_g5, zw_l5, zw_g6, zw_l6, zw_g7, zw_l7, zw_g9, zw_l9, zw_g10, zw_l10, zw_g15, zw_l15, zw_g16, zw_l16, zw_g48, zw_l48, zw_g50, zw_l50, zw_g57, zw_l57, zw_g97, zw_l97, zw_g100, zw_l100, zw_g200, zw_l200, zw_g999, zw_l999, zw_g9999, zw_l9999]
      refine ⟨v3, _, _, rfl, hR, ?_, fun h1 r1 f1 => ?_⟩
      · rw [List.length_take]
        omega
      · simp only [nI_1, zi_push, zi_iload, zi_lload, zi_aload, zi_istore, zi_astore, zi_lstore, zi_iinc, zi_i2, zi_i1, zi_idv, zi_l2, zi_ldv, zi_lsh, zi_i2l, zi_l2i, zi_lcmp, zi_dup, zi_dup2, zi_pop, zi_if1, zi_if2, zi_getI, zi_getL, zi_getR, zi_putI, zi_putZ, zi_putL, zi_aldI, zi_aldL, zi_astI, zi_astZ, zi_astL, zi_alen, zi_iret, zi_zret, zi_lret, zi_vret, zi_callV, zi_callS, zi_sw, zi_copyI, zi_copyL, zi_m2, zi_m1, zi_sval, zi_scod, zi_fmt, zi_balen, zi_bald, zi_bret, zi_callT, zq_nth, zq_put1, zq_put2, zq_clr, zq_nl, zq_tk, zq_ps, zq_sw, zq_l0, zq_a, zq_a1, List.length_cons, List.length_nil, List.nil_append, List.cons_append, List.append_nil, List.replicate, Nat.reduceAdd, Nat.reduceSub, Nat.reduceLeDiff, true_and, and_true, List.append_eq, List.cons.injEq, Value.int.injEq, Value.long.injEq, Value.ref.injEq, exists_and_left, exists_eq_left', and_assoc, zc_b, zc_0, zc_1, zc_10, zc_01, lg_cmp_ge, lg_cmp_le, lg_cmp_gt, lg_cmp_lt, lg_cmp_eq, zw_le, zw_lt, reduceIte, true_or, or_true, zw_g0, zw_l0, zw_g1, zw_l1, zw_g2, zw_l2, zw_g3, zw_l3, zw_g5, zw_l5, zw_g6, zw_l6, zw_g7, zw_l7, zw_g9, zw_l9, zw_g10, zw_l10, zw_g15, zw_l15, zw_g16, zw_l16, zw_g48, zw_l48, zw_g50, zw_l50, zw_g57, zw_l57, zw_g97, zw_l97, zw_g100, zw_l100, zw_g200, zw_l200, zw_g999, zw_l999, zw_g9999, zw_l9999]
        refine ⟨(h0, j, i + 1), by dsimp only; omega, rfl, rfl, by omega, XC_fr hX f1 (by decide), fun z => by rw [(f1 19 (by decide)).1]; exact h19 z, zq_fr_t hf f1 (by decide), ?_, kk⟩
        have ea : ((zTr (zFS V j 1000)).take i) ++ [(h.1 19 i).toInt64] = (zTr (zFS V j 1000)).take (i + 1) := by
          rw [e]
          have g3 : i = 0 ∨ i = 1 ∨ i = 2 := by omega
          rcases g3 with g | g | g
          · subst g
            rw [a0, nI_l (by omega)]
            rfl
          · subst g
            rw [a1, nI_l (by omega)]
            rfl
          · subst g
            rw [a2, nI_l (by omega)]
            rfl
        rw [← ea]
        exact r1
