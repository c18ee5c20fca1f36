/-! ===== fractions ===== -/
theorem zq_fr_t {ps qs : List Nat} {h h1 h2 : zq_H} (k : zq_fr ps h h1) (l : zq_fr qs h1 h2) (m : ∀ p ∈ qs, p ∈ ps) : zq_fr ps h h2 := fun p hp => ⟨(l p (fun q => hp (m p q))).1.trans (k p hp).1, (l p (fun q => hp (m p q))).2.trans (k p hp).2⟩
theorem zq_fm_t {fs ps fs1 ps1 : List Nat} {h h1 h2 : zq_H} (k : zq_fm fs ps h h1) (l : zq_fm fs1 ps1 h1 h2) (m : (∀ p ∈ ps1, p ∈ ps) ∧ ∀ j ∈ fs1, j ∈ fs) : zq_fm fs ps h h2 :=
  ⟨fun p h56 hp => ⟨(l.1 p h56 (fun q => hp (m.1 p q))).1.trans (k.1 p h56 hp).1, (l.1 p h56 (fun q => hp (m.1 p q))).2.trans (k.1 p h56 hp).2⟩, fun j hj => ⟨(l.2 j (fun q => hj (m.2 j q))).1.trans (k.2 j hj).1, (l.2 j (fun q => hj (m.2 j q))).2.trans (k.2 j hj).2⟩⟩
theorem nI_leP {a b : Nat} (ha : a < 2 ^ 31) (hb : b < 2 ^ 31) : (nI a ≤ nI b) = (a ≤ b) := propext (nI_leI ha hb)
theorem nI_ltP {a b : Nat} (ha : a < 2 ^ 31) (hb : b < 2 ^ 31) : (nI a < nI b) = (a < b) := propext (nI_ltI ha hb)
theorem nI_eqP {a b : Nat} (ha : a < 2 ^ 31) (hb : b < 2 ^ 31) : (nI a = nI b) = (a = b) := propext (nI_eq ha hb)
theorem nI_zP {a : Nat} (ha : a < 2 ^ 31) : (nI a = 0) = (a = 0) := nI_eqP (b := 0) ha (by decide)
theorem lN_leP {a b : Nat} (ha : a < 2 ^ 63) (hb : b < 2 ^ 63) : (lN a ≤ lN b) = (a ≤ b) := propext (pk_lLE ha hb)
theorem lN_ltP {a b : Nat} (ha : a < 2 ^ 63) (hb : b < 2 ^ 63) : (lN a < lN b) = (a < b) := propext (pk_lLT ha hb)
theorem lN_zP {a : Nat} (ha : a < 2 ^ 63) : (lN a = 0) = (a = 0) := propext (pk_lEQ (b := 0) ha (by decide))
theorem lremN {a b : Nat} (ha : a < 2 ^ 63) (h0 : 0 < b) (hb : b < 2 ^ 63) : zf_lrem (lN a) (lN b) = lN (a % b) := pk_lRem ha h0 hb
def zeu (u v t a b : Nat) : Prop := Nat.gcd a b = Nat.gcd u v ∧ (a < 2 ^ 31 ∧ b < 2 ^ 31) ∧ (t = 0 ∨ (b < a ∧ a * b * 2 ^ (t - 1) < 2 ^ 62))
theorem zeu_half {a b : Nat} (h0 : 0 < b) (h : b < a) : b * (a % b) * 2 ≤ a * b := by
  have h1 : a % b < b := Nat.mod_lt _ h0
  have h2 : a % b + b ≤ a := by
    have := Nat.div_add_mod a b
    have h3 : 1 ≤ a / b := (Nat.one_le_div_iff h0).mpr (Nat.le_of_lt h)
    have h4 : b * 1 ≤ b * (a / b) := Nat.mul_le_mul_left b h3
    omega
  have h5 : b * ((a % b) * 2) ≤ b * a := Nat.mul_le_mul_left b (by omega)
  rw [Nat.mul_comm a b, Nat.mul_assoc]
  exact h5
theorem zgcd_step (a b : Nat) : Nat.gcd b (a % b) = Nat.gcd a b := by
  rw [Nat.gcd_comm b (a % b), Nat.gcd_comm a b]
  exact (Nat.gcd_rec b a).symm
theorem zeu_step {u v t a b : Nat} (k : zeu u v t a b) (h0 : ¬ b = 0) : zeu u v (t + 1) b (a % b) := by
  obtain ⟨k1, ⟨k2, k3⟩, k4⟩ := k
  have hm : a % b < b := Nat.mod_lt _ (by omega)
  refine ⟨(zgcd_step a b).trans k1, ⟨k3, by omega⟩, Or.inr ⟨hm, ?_⟩⟩
  rw [Nat.add_sub_cancel]
  rcases k4 with rfl | ⟨k5, k6⟩
  · rw [Nat.pow_zero, Nat.mul_one]
    have : b * (a % b) < 2 ^ 31 * 2 ^ 31 := Nat.mul_lt_mul'' k3 (by omega)
    exact this
  · rcases Nat.eq_zero_or_pos t with q | q
    · subst q
      rw [Nat.zero_sub, Nat.pow_zero, Nat.mul_one] at k6
      rw [Nat.pow_zero, Nat.mul_one]
      have := zeu_half (by omega) k5
      omega
    · have e : 2 ^ t = 2 * 2 ^ (t - 1) := by
        rw [Nat.mul_comm, ← Nat.pow_succ]
        congr 1
        omega
      rw [e, ← Nat.mul_assoc]
      exact Nat.lt_of_le_of_lt (Nat.mul_le_mul_right _ (zeu_half (by omega) k5)) k6
theorem zeu_end {u v a b : Nat} (k : zeu u v 100 a b) : b = 0 := by
  obtain ⟨k1, k2, k4⟩ := k
  rcases k4 with q | ⟨k5, k6⟩
  · omega
  · rcases Nat.eq_zero_or_pos b with q | q
    · exact q
    · have h1 : 1 ≤ a * b := Nat.mul_pos (by omega) q
      have h2 : 1 * 2 ^ 99 ≤ a * b * 2 ^ 99 := Nat.mul_le_mul_right _ h1
      have h3 : (2 : Nat) ^ 62 < 2 ^ 99 := by decide
      have k6 : a * b * 2 ^ 99 < 2 ^ 62 := k6
      omega
def sp_addFrac : zq_Sp := fun args h Q => ∃ u v w, args = [.ref 3, .long (lN u), .long (lN v)] ∧ (u < 2 ^ 31 ∧ v < 2 ^ 31 ∧ 0 < v) ∧ XR w h ∧ w.length < 15 ∧ ∀ h', XR (w ++ [lN (u / Nat.gcd u v), lN (v / Nat.gcd u v)]) h' → zq_fr [3, 4] h h' → Q none h'
def I_addFrac (Q : zq_Q) (a : zq_H × Nat × Nat × List Int64 × Nat × Nat × Nat) : zq_P := fun ls st h => match a with
  | (h0, u, v, w, t, x, y) => ∃ s10 s11, ls = [some (.ref 3), some (.long (lN u)), none, some (.long (lN v)), none, some (.long (lN x)), none, some (.long (lN y)), none, some (.int (nI t)), s10, s11] ∧ st = [] ∧ h = h0 ∧ t ≤ 100 ∧ (u < 2 ^ 31 ∧ v < 2 ^ 31 ∧ 0 < v) ∧ zeu u v t x y ∧ XR w h0 ∧ w.length < 15 ∧ ∀ h', XR (w ++ [lN (u / Nat.gcd u v), lN (v / Nat.gcd u v)]) h' → zq_fr [3, 4] h0 h' → Q none h'
theorem af_44 {Q : zq_Q} {J : zq_P} {h : zq_H} {u v x : Nat} {w : List Int64} {y : Option Value} {s9 s10 s11 : Option Value} (hx : x = Nat.gcd u v) (hu : u < 2 ^ 31 ∧ v < 2 ^ 31 ∧ 0 < v) (hR : XR w h) (hw : w.length < 15) (k : ∀ h', XR (w ++ [lN (u / Nat.gcd u v), lN (v / Nat.gcd u v)]) h' → zq_fr [3, 4] h h' → Q none h') : xX5_addFraction_44 sp_rowAddL J Q [some (.ref 3), some (.long (lN u)), none, some (.long (lN v)), none, some (.long (lN x)), none, y, none, s9, s10, s11] [] h := by
  obtain ⟨hu, hv, h0⟩ := hu
  have hp : 0 < x := by rw [hx]; exact Nat.gcd_pos_of_pos_right u h0
  have hl : x ≤ v := by rw [hx]; exact Nat.gcd_le_right u h0
  have e1 : (lN x = 0) = False := by rw [lN_zP (by omega)]; exact eq_false (by omega)
  simp only [xX5_addFraction_44, xX5_addFraction_52, xX5_addFraction_56, xX5_addFraction_60, xX5_addFraction_71, xX5_addFraction_75, xX5_addFraction_79, e1, zi_push, zi_iload, zi_lload, zi_aload, zi_istore, zi_astore, zi_lstore, zi_iinc, zi_i2, zi_i1, zi_idv, zi_l2, zi_ldv, zi_lsh, zi_i2l, zi_l2i, zi_lcmp, zi_dup, zi_dup2, zi_pop, zi_if1, zi_if2, zi_getI, zi_getL, zi_getR, zi_putI, zi_putZ, zi_putL, zi_aldI, zi_aldL, zi_astI, zi_astZ, zi_astL, zi_alen, zi_iret, zi_zret, zi_lret, zi_vret, zi_callV, zi_callS, zi_sw, zi_copyI, zi_copyL, zi_m2, zi_m1, zi_sval, zi_scod, zi_fmt, zi_balen, zi_bald, zi_bret, zi_callT, zq_nth, zq_put1, zq_put2, zq_clr, zq_nl, zq_tk, zq_ps, zq_sw, zq_l0, zq_a, zq_a1, List.length_cons, List.length_nil, List.nil_append, List.cons_append, List.append_nil, List.replicate, Nat.reduceAdd, Nat.reduceSub, Nat.reduceLeDiff, true_and, and_true, List.append_eq, List.cons.injEq, Value.int.injEq, Value.long.injEq, Value.ref.injEq, exists_and_left, exists_eq_left', and_assoc, zc_b, zc_0, zc_1, zc_10, zc_01, lg_cmp_ge, lg_cmp_le, lg_cmp_gt, lg_cmp_lt, lg_cmp_eq, zw_le, zw_lt, reduceIte, true_or, or_true, zw_g0, zw_l0, zw_g1, zw_l1, zw_g2, zw_l2, zw_g3, zw_l3, zw_g5, zw_l5, zw_g6, zw_l6, zw_g7, zw_l7, zw_g9, zw_l9, zw_g10, zw_l10, zw_g15, zw_l15, zw_g16, zw_l16, zw_g48, zw_l48, zw_g50, zw_l50, zw_g57, zw_l57, zw_g97, zw_l97, zw_g100, zw_l100, zw_g200, zw_l200, zw_g999, zw_l999, zw_g9999, zw_l9999, not_true_eq_false, not_false_eq_true, forall_const, true_and, and_true, false_and, and_false, if_true, if_false, reduceIte, implies_true, and_self, ite_self, true_or, or_true, false_or, or_false, true_implies, false_implies, Classical.not_not, false_imp_iff, not_false_iff]
  rw [pk_lDiv (by omega) hp (by omega), pk_lDiv (by omega) hp (by omega)]
  refine ⟨_, w, rfl, hR, by omega, fun h1 r1 f1 => ?_⟩
  dsimp only
  refine ⟨Nat.le_of_ble_eq_true rfl, _, w ++ [lN (u / x)], rfl, r1, by rw [List.length_append]; show w.length + 1 < 16; omega, fun h2 r2 f2 => ?_⟩
  rw [List.append_assoc] at r2
  rw [hx] at r2
  exact k h2 r2 (zq_fr_t f1 f2 (by decide))
theorem ok_addFrac : zq_M yX5_addFraction cX5_addFraction 12 none 0 1 sp_addFrac := by
  refine mX5_addFraction ok_rowAddL (by decide) (fun a => 100 - a.2.2.2.2.1) I_addFrac (fun args h Q hs => ?_) (fun Q a ls st h hi => ?_)
  · obtain ⟨u, v, w, rfl, hu, hR, hw, k⟩ := hs
    refine ⟨Nat.le_of_ble_eq_true rfl, ?_⟩
    simp only [xX5_addFraction_79, xX5_addFraction_75, xX5_addFraction_71, xX5_addFraction_60, xX5_addFraction_56, xX5_addFraction_52, xX5_addFraction_44, xX5_addFraction_23, xX5_addFraction_16, xX5_addFraction_9, xX5_addFraction_0, zi_push, zi_iload, zi_lload, zi_aload, zi_istore, zi_astore, zi_lstore, zi_iinc, zi_i2, zi_i1, zi_idv, zi_l2, zi_ldv, zi_lsh, zi_i2l, zi_l2i, zi_lcmp, zi_dup, zi_dup2, zi_pop, zi_if1, zi_if2, zi_getI, zi_getL, zi_getR, zi_putI, zi_putZ, zi_putL, zi_aldI, zi_aldL, zi_astI, zi_astZ, zi_astL, zi_alen, zi_iret, zi_zret, zi_lret, zi_vret, zi_callV, zi_callS, zi_sw, zi_copyI, zi_copyL, zi_m2, zi_m1, zi_sval, zi_scod, zi_fmt, zi_balen, zi_bald, zi_bret, zi_callT, zq_nth, zq_put1, zq_put2, zq_clr, zq_nl, zq_tk, zq_ps, zq_sw, zq_l0, zq_a, zq_a1, List.length_cons, List.length_nil, List.nil_append, List.cons_append, List.append_nil, List.replicate, Nat.reduceAdd, Nat.reduceSub, Nat.reduceLeDiff, true_and, and_true, List.append_eq, List.cons.injEq, Value.int.injEq, Value.long.injEq, Value.ref.injEq, exists_and_left, exists_eq_left', and_assoc, zc_b, zc_0, zc_1, zc_10, zc_01, lg_cmp_ge, lg_cmp_le, lg_cmp_gt, lg_cmp_lt, lg_cmp_eq, zw_le, zw_lt, reduceIte, true_or, or_true, zw_g0, zw_l0, zw_g1, zw_l1, zw_g2, zw_l2, zw_g3, zw_l3, zw_g5, zw_l5, zw_g6, zw_l6, zw_g7, zw_l7, zw_g9, zw_l9, zw_g10, zw_l10, zw_g15, zw_l15, zw_g16, zw_l16, zw_g48, zw_l48, zw_g50, zw_l50, zw_g57, zw_l57, zw_g97, zw_l97, zw_g100, zw_l100, zw_g200, zw_l200, zw_g999, zw_l999, zw_g9999, zw_l9999]
    exact ⟨(h, u, v, w, 0, u, v), none, none, rfl, rfl, rfl, Nat.zero_le _, hu, ⟨rfl, ⟨hu.1, hu.2.1⟩, Or.inl rfl⟩, hR, hw, k⟩
  · obtain ⟨h0, u, v, w, t, x, y⟩ := a
    obtain ⟨s10, s11, rfl, rfl, rfl, ht, hu, hz, hR, hw, k⟩ := hi
    have hz9 := hz
    obtain ⟨z1, ⟨z2, z3⟩, z4⟩ := hz9
    have e100 : (100 ≤ nI t) = (t = 100) := zl_ge ht (by decide : 100 < 2 ^ 31)
    simp only [xX5_addFraction_9, xX5_addFraction_16, xX5_addFraction_23, e100, lN_zP (show y < 2 ^ 63 by omega), zi_push, zi_iload, zi_lload, zi_aload, zi_istore, zi_astore, zi_lstore, zi_iinc, zi_i2, zi_i1, zi_idv, zi_l2, zi_ldv, zi_lsh, zi_i2l, zi_l2i, zi_lcmp, zi_dup, zi_dup2, zi_pop, zi_if1, zi_if2, zi_getI, zi_getL, zi_getR, zi_putI, zi_putZ, zi_putL, zi_aldI, zi_aldL, zi_astI, zi_astZ, zi_astL, zi_alen, zi_iret, zi_zret, zi_lret, zi_vret, zi_callV, zi_callS, zi_sw, zi_copyI, zi_copyL, zi_m2, zi_m1, zi_sval, zi_scod, zi_fmt, zi_balen, zi_bald, zi_bret, zi_callT, zq_nth, zq_put1, zq_put2, zq_clr, zq_nl, zq_tk, zq_ps, zq_sw, zq_l0, zq_a, zq_a1, List.length_cons, List.length_nil, List.nil_append, List.cons_append, List.append_nil, List.replicate, Nat.reduceAdd, Nat.reduceSub, Nat.reduceLeDiff, true_and, and_true, List.append_eq, List.cons.injEq, Value.int.injEq, Value.long.injEq, Value.ref.injEq, exists_and_left, exists_eq_left', and_assoc, zc_b, zc_0, zc_1, zc_10, zc_01, lg_cmp_ge, lg_cmp_le, lg_cmp_gt, lg_cmp_lt, lg_cmp_eq, zw_le, zw_lt, reduceIte, true_or, or_true, zw_g0, zw_l0, zw_g1, zw_l1, zw_g2, zw_l2, zw_g3, zw_l3, zw_g5, zw_l5, zw_g6, zw_l6, zw_g7, zw_l7, zw_g9, zw_l9, zw_g10, zw_l10, zw_g15, zw_l15, zw_g16, zw_l16, zw_g48, zw_l48, zw_g50, zw_l50, zw_g57, zw_l57, zw_g97, zw_l97, zw_g100, zw_l100, zw_g200, zw_l200, zw_g999, zw_l999, zw_g9999, zw_l9999]
    refine ⟨fun q => ?_, fun q => ⟨fun q2 => ?_, fun q2 => ⟨q2, ?_⟩⟩⟩
    · subst q
      have := zeu_end hz
      subst this
      rw [Nat.gcd_zero_right] at z1
      exact af_44 z1 hu hR hw k
    · subst q2
      rw [Nat.gcd_zero_right] at z1
      exact af_44 z1 hu hR hw k
    · rw [lremN (by omega) (by omega) (by omega), nI_1]
      exact ⟨(h, u, v, w, t + 1, y, x % y), by dsimp only; omega, _, _, rfl, rfl, rfl, by omega, hu, zeu_step hz q2, hR, hw, k⟩
/-! the reference's greatest common divisor -/
def sp_common (n : Nat) : zq_Sp := fun args h Q => ∃ a b, args = [.long (lN a), .long (lN b)] ∧ (a < 2 ^ 31 ∧ b < 2 ^ 31) ∧ (b = 0 ∨ b < a ∧ a * b < 2 ^ n) ∧ Q (some (.long (lN (Nat.gcd a b)))) h
def sp_gcd : zq_Sp := fun args h Q => ∃ a b, args = [.long (lN a), .long (lN b)] ∧ (a < 2 ^ 31 ∧ b < 2 ^ 31) ∧ Q (some (.long (lN (Nat.gcd a b)))) h
theorem ok_none {y : MethodName} {c : ByteArray} {m rk d : Nat} {r : Option FieldType} : zq_M y c m r rk d (fun _ _ _ => False) := fun l D Y ad args h Q q => q.elim
theorem ok_common : ∀ n, zq_M yX12_common cX12_common 4 (some .long) 2 (n + 1) (sp_common n)
  | 0 => by
    refine mX12_common (ok_none (d := 0)) (by decide) (fun args h Q hs => ?_)
    obtain ⟨a, b, rfl, ⟨ha, hb⟩, hn, k⟩ := hs
    have hb0 : b = 0 := by
      rcases hn with q | ⟨q1, q2⟩
      · exact q
      · rcases Nat.eq_zero_or_pos b with q | q
        · exact q
        · have := Nat.mul_pos (show 0 < a by omega) q
          omega
    subst hb0
    rw [Nat.gcd_zero_right] at k
    refine ⟨Nat.le_of_ble_eq_true rfl, ?_⟩
    simp only [xX12_common_17, xX12_common_10, xX12_common_6, xX12_common_0, zi_push, zi_iload, zi_lload, zi_aload, zi_istore, zi_astore, zi_lstore, zi_iinc, zi_i2, zi_i1, zi_idv, zi_l2, zi_ldv, zi_lsh, zi_i2l, zi_l2i, zi_lcmp, zi_dup, zi_dup2, zi_pop, zi_if1, zi_if2, zi_getI, zi_getL, zi_getR, zi_putI, zi_putZ, zi_putL, zi_aldI, zi_aldL, zi_astI, zi_astZ, zi_astL, zi_alen, zi_iret, zi_zret, zi_lret, zi_vret, zi_callV, zi_callS, zi_sw, zi_copyI, zi_copyL, zi_m2, zi_m1, zi_sval, zi_scod, zi_fmt, zi_balen, zi_bald, zi_bret, zi_callT, zq_nth, zq_put1, zq_put2, zq_clr, zq_nl, zq_tk, zq_ps, zq_sw, zq_l0, zq_a, zq_a1, List.length_cons, List.length_nil, List.nil_append, List.cons_append, List.append_nil, List.replicate, Nat.reduceAdd, Nat.reduceSub, Nat.reduceLeDiff, true_and, and_true, List.append_eq, List.cons.injEq, Value.int.injEq, Value.long.injEq, Value.ref.injEq, exists_and_left, exists_eq_left', and_assoc, zc_b, zc_0, zc_1, zc_10, zc_01, lg_cmp_ge, lg_cmp_le, lg_cmp_gt, lg_cmp_lt, lg_cmp_eq, zw_le, zw_lt, reduceIte, true_or, or_true, zw_g0, zw_l0, zw_g1, zw_l1, zw_g2, zw_l2, zw_g3, zw_l3, zw_g5, zw_l5, zw_g6, zw_l6, zw_g7, zw_l7, zw_g9, zw_l9, zw_g10, zw_l10, zw_g15, zw_l15, zw_g16, zw_l16, zw_g48, zw_l48, zw_g50, zw_l50, zw_g57, zw_l57, zw_g97, zw_l97, zw_g100, zw_l100, zw_g200, zw_l200, zw_g999, zw_l999, zw_g9999, zw_l9999]
    exact ⟨fun _ => k, fun q => absurd rfl q⟩
  | n + 1 => by
    refine mX12_common (ok_common n) (by omega) (fun args h Q hs => ?_)
    obtain ⟨a, b, rfl, ⟨ha, hb⟩, hn, k⟩ := hs
    refine ⟨Nat.le_of_ble_eq_true rfl, ?_⟩
    simp only [xX12_common_17, xX12_common_10, xX12_common_6, xX12_common_0, zi_push, zi_iload, zi_lload, zi_aload, zi_istore, zi_astore, zi_lstore, zi_iinc, zi_i2, zi_i1, zi_idv, zi_l2, zi_ldv, zi_lsh, zi_i2l, zi_l2i, zi_lcmp, zi_dup, zi_dup2, zi_pop, zi_if1, zi_if2, zi_getI, zi_getL, zi_getR, zi_putI, zi_putZ, zi_putL, zi_aldI, zi_aldL, zi_astI, zi_astZ, zi_astL, zi_alen, zi_iret, zi_zret, zi_lret, zi_vret, zi_callV, zi_callS, zi_sw, zi_copyI, zi_copyL, zi_m2, zi_m1, zi_sval, zi_scod, zi_fmt, zi_balen, zi_bald, zi_bret, zi_callT, zq_nth, zq_put1, zq_put2, zq_clr, zq_nl, zq_tk, zq_ps, zq_sw, zq_l0, zq_a, zq_a1, List.length_cons, List.length_nil, List.nil_append, List.cons_append, List.append_nil, List.replicate, Nat.reduceAdd, Nat.reduceSub, Nat.reduceLeDiff, true_and, and_true, List.append_eq, List.cons.injEq, Value.int.injEq, Value.long.injEq, Value.ref.injEq, exists_and_left, exists_eq_left', and_assoc, zc_b, zc_0, zc_1, zc_10, zc_01, lg_cmp_ge, lg_cmp_le, lg_cmp_gt, lg_cmp_lt, lg_cmp_eq, zw_le, zw_lt, reduceIte, true_or, or_true, zw_g0, zw_l0, zw_g1, zw_l1, zw_g2, zw_l2, zw_g3, zw_l3, zw_g5, zw_l5, zw_g6, zw_l6, zw_g7, zw_l7, zw_g9, zw_l9, zw_g10, zw_l10, zw_g15, zw_l15, zw_g16, zw_l16, zw_g48, zw_l48, zw_g50, zw_l50, zw_g57, zw_l57, zw_g97, zw_l97, zw_g100, zw_l100, zw_g200, zw_l200, zw_g999, zw_l999, zw_g9999, zw_l9999, lN_zP (show b < 2 ^ 63 by omega)]
    refine ⟨fun q => ?_, fun q => ⟨q, ?_⟩⟩
    · subst q
      rw [Nat.gcd_zero_right] at k
      exact k
    · rw [lremN (by omega) (by omega) (by omega)]
      have hm : a % b < b := Nat.mod_lt _ (by omega)
      refine ⟨b, a % b, rfl, ⟨hb, by omega⟩, Or.inr ⟨hm, ?_⟩, ?_⟩
      · rcases hn with q9 | ⟨q1, q2⟩
        · exact absurd q9 q
        · have h1 := zeu_half (show 0 < b by omega) q1
          have h2 : 2 ^ (n + 1) = 2 ^ n * 2 := Nat.pow_succ 2 n
          omega
      · rw [zgcd_step]
        exact k
theorem ok_gcd : zq_M yX12_common cX12_common 4 (some .long) 2 64 sp_gcd := by
  refine mX12_common (ok_common 62) (by decide) (fun args h Q hs => ?_)
  obtain ⟨a, b, rfl, ⟨ha, hb⟩, k⟩ := hs
  refine ⟨Nat.le_of_ble_eq_true rfl, ?_⟩
  simp only [xX12_common_17, xX12_common_10, xX12_common_6, xX12_common_0, zi_push, zi_iload, zi_lload, zi_aload, zi_istore, zi_astore, zi_lstore, zi_iinc, zi_i2, zi_i1, zi_idv, zi_l2, zi_ldv, zi_lsh, zi_i2l, zi_l2i, zi_lcmp, zi_dup, zi_dup2, zi_pop, zi_if1, zi_if2, zi_getI, zi_getL, zi_getR, zi_putI, zi_putZ, zi_putL, zi_aldI, zi_aldL, zi_astI, zi_astZ, zi_astL, zi_alen, zi_iret, zi_zret, zi_lret, zi_vret, zi_callV, zi_callS, zi_sw, zi_copyI, zi_copyL, zi_m2, zi_m1, zi_sval, zi_scod, zi_fmt, zi_balen, zi_bald, zi_bret, zi_callT, zq_nth, zq_put1, zq_put2, zq_clr, zq_nl, zq_tk, zq_ps, zq_sw, zq_l0, zq_a, zq_a1, List.length_cons, List.length_nil, List.nil_append, List.cons_append, List.append_nil, List.replicate, Nat.reduceAdd, Nat.reduceSub, Nat.reduceLeDiff, true_and, and_true, List.append_eq, List.cons.injEq, Value.int.injEq, Value.long.injEq, Value.ref.injEq, exists_and_left, exists_eq_left', and_assoc, zc_b, zc_0, zc_1, zc_10, zc_01, lg_cmp_ge, lg_cmp_le, lg_cmp_gt, lg_cmp_lt, lg_cmp_eq, zw_le, zw_lt, reduceIte, true_or, or_true, zw_g0, zw_l0, zw_g1, zw_l1, zw_g2, zw_l2, zw_g3, zw_l3, zw_g5, zw_l5, zw_g6, zw_l6, zw_g7, zw_l7, zw_g9, zw_l9, zw_g10, zw_l10, zw_g15, zw_l15, zw_g16, zw_l16, zw_g48, zw_l48, zw_g50, zw_l50, zw_g57, zw_l57, zw_g97, zw_l97, zw_g100, zw_l100, zw_g200, zw_l200, zw_g999, zw_l999, zw_g9999, zw_l9999, lN_zP (show b < 2 ^ 63 by omega)]
  refine ⟨fun q => ?_, fun q => ⟨q, ?_⟩⟩
  · subst q
    rw [Nat.gcd_zero_right] at k
    exact k
  · rw [lremN (by omega) (by omega) (by omega)]
    have hm : a % b < b := Nat.mod_lt _ (by omega)
    refine ⟨b, a % b, rfl, ⟨hb, by omega⟩, Or.inr ⟨hm, ?_⟩, ?_⟩
    · have : b * (a % b) < 2 ^ 31 * 2 ^ 31 := Nat.mul_lt_mul'' hb (by omega)
      exact this
    · rw [zgcd_step]
      exact k
/-! bits that are set -/
def zpop : Nat → Nat → Nat
  | 0, _ => 0
  | n + 1, k => zpop n (k / 2) + k % 2
def zbc (k : Nat) : Nat := zpop 6 k
def zbci (x : Int32) : Int32 :=
  (fun x => x &&& 63) ((fun x => x + zf_ushr x 16) ((fun x => x + zf_ushr x 8) ((fun x => (x + zf_ushr x 4) &&& 252645135) ((fun x => (x &&& 858993459) + (zf_ushr x 2 &&& 858993459)) (x - (zf_ushr x 1 &&& 1431655765))))))
theorem zbci_eq : ∀ k, k < 64 → zbci (nI k) = nI (zbc k) := by decide +kernel
def sp_bits : zq_Sp := fun args h Q => ∃ k : Nat, args = [.int (nI k)] ∧ k < 64 ∧ Q (some (.int (nI (zbc k)))) h
theorem ok_bits : zq_M yJ6_bitCount_0f7a4 cJ6_bitCount_0f7a4 1 (some .int) 1 0 sp_bits := by
  refine mJ6_bitCount_0f7a4 (fun args h Q hs => ?_)
  obtain ⟨k, rfl, hk, h2⟩ := hs
  rw [← zbci_eq k hk] at h2
  unfold zbci at h2
  refine ⟨Nat.le_of_ble_eq_true rfl, ?_⟩
  simp only [xJ6_bitCount_0f7a4_0, zi_push, zi_iload, zi_lload, zi_aload, zi_istore, zi_astore, zi_lstore, zi_iinc, zi_i2, zi_i1, zi_idv, zi_l2, zi_ldv, zi_lsh, zi_i2l, zi_l2i, zi_lcmp, zi_dup, zi_dup2, zi_pop, zi_if1, zi_if2, zi_getI, zi_getL, zi_getR, zi_putI, zi_putZ, zi_putL, zi_aldI, zi_aldL, zi_astI, zi_astZ, zi_astL, zi_alen, zi_iret, zi_zret, zi_lret, zi_vret, zi_callV, zi_callS, zi_sw, zi_copyI, zi_copyL, zi_m2, zi_m1, zi_sval, zi_scod, zi_fmt, zi_balen, zi_bald, zi_bret, zi_callT, zq_nth, zq_put1, zq_put2, zq_clr, zq_nl, zq_tk, zq_ps, zq_sw, zq_l0, zq_a, zq_a1, List.length_cons, List.length_nil, List.nil_append, List.cons_append, List.append_nil, List.replicate, Nat.reduceAdd, Nat.reduceSub, Nat.reduceLeDiff, true_and, and_true, List.append_eq, List.cons.injEq, Value.int.injEq, Value.long.injEq, Value.ref.injEq, exists_and_left, exists_eq_left', and_assoc, zc_b, zc_0, zc_1, zc_10, zc_01, lg_cmp_ge, lg_cmp_le, lg_cmp_gt, lg_cmp_lt, lg_cmp_eq, zw_le, zw_lt, reduceIte, true_or, or_true, zw_g0, zw_l0, zw_g1, zw_l1, zw_g2, zw_l2, zw_g3, zw_l3, zw_g5, zw_l5, zw_g6, zw_l6, zw_g7, zw_l7, zw_g9, zw_l9, zw_g10, zw_l10, zw_g15, zw_l15, zw_g16, zw_l16, zw_g48, zw_l48, zw_g50, zw_l50, zw_g57, zw_l57, zw_g97, zw_l97, zw_g100, zw_l100, zw_g200, zw_l200, zw_g999, zw_l999, zw_g9999, zw_l9999]
  exact h2
/-! envy -/
def zenv1 (V : zV) (g o : Nat) (s : Nat × List Int64) : Nat × List Int64 := if vH V g (nI g) < vH V g (nI o) then (s.1 + 1, if s.1 = 0 then s.2 ++ [lN g, lN o] else s.2) else s
def zenvR (V : zV) (g : Nat) (s : Nat × List Int64) : Nat × List Int64 := zfold (zenv1 V g) (vg V) s
def zenv (V : zV) : Nat × List Int64 := zfold (zenvR V) (vg V) (0, [])
def zenvok (b : Nat) (s : Nat × List Int64) : Prop := s.1 ≤ b ∧ (s.1 = 0 → s.2 = []) ∧ s.2.length ≤ 2
theorem zenv1_ok {V : zV} {g o b : Nat} {s : Nat × List Int64} (k : zenvok b s) : zenvok (b + 1) (zenv1 V g o s) := by
  obtain ⟨k1, k2, k3⟩ := k
  unfold zenv1
  split
  · refine ⟨by dsimp only; omega, fun q => by dsimp only at q; omega, ?_⟩
    dsimp only
    split
    · next q =>
      rw [k2 q]
      simp
    · exact k3
  · exact ⟨by omega, k2, k3⟩
def sp_xEnvy (V : zV) : zq_Sp := fun args h Q => args = [.ref 0] ∧ XC V h ∧ ∀ h', XR (zenv V).2 h' → zq_fr [3, 4] h h' → Q (some (.int (nI (zenv V).1))) h'
def zxe (V : zV) (Q : zq_Q) (h0 h : zq_H) (s : Nat × List Int64) (b : Nat) : Prop := XC V h0 ∧ XR s.2 h ∧ zq_fr [3, 4] h0 h ∧ zenvok b s ∧ b ≤ 100 ∧ ∀ h', XR (zenv V).2 h' → zq_fr [3, 4] h0 h' → Q (some (.int (nI (zenv V).1))) h'
def I_xEnvy11 (V : zV) (Q : zq_Q) (a : zq_H × Nat × Nat × (Nat × List Int64)) : zq_P := fun ls st h => match a with
  | (h0, i, _, s) => ∃ s3 s4, ls = [some (.ref 0), some (.int (nI s.1)), some (.int (nI i)), s3, s4] ∧ st = [] ∧ i ≤ vg V ∧ zfold (zenvR V) i (0, []) = s ∧ zxe V Q h0 h s (6 * i)
def I_xEnvy32 (V : zV) (Q : zq_Q) (a : zq_H × Nat × Nat × (Nat × List Int64)) : zq_P := fun ls st h => match a with
  | (h0, i, j, s) => ls = [some (.ref 0), some (.int (nI s.1)), some (.int (nI i)), some (.int (nI (vH V i (nI i)))), some (.int (nI j))] ∧ st = [] ∧ (i < vg V ∧ j ≤ vg V) ∧ zfold (zenv1 V i) j (zfold (zenvR V) i (0, [])) = s ∧ zxe V Q h0 h s (6 * i + j)
theorem ok_xEnvy (V : zV) : zq_M yX11_envy cX11_envy 5 (some .int) 1 2 (sp_xEnvy V) := by
  refine mX11_envy ok_rowClearL (by decide) (ok_heldV V) (by decide) ok_rowAddL (by decide) (fun a => (vg V - a.2.1) * 20) (I_xEnvy11 V) (fun a => (vg V - a.2.1) * 20 - 1 - a.2.2.1) (I_xEnvy32 V) (fun args h Q hs => ?_) (fun Q a ls st h hi => ?_) (fun Q a ls st h hi => ?_)
  · obtain ⟨rfl, hX, k⟩ := hs
    refine ⟨Nat.le_of_ble_eq_true rfl, ?_⟩
    simp only [xX11_envy_93, xX11_envy_87, xX11_envy_81, xX11_envy_78, xX11_envy_59, xX11_envy_55, xX11_envy_44, xX11_envy_32, xX11_envy_22, xX11_envy_11, xX11_envy_0, zi_push, zi_iload, zi_lload, zi_aload, zi_istore, zi_astore, zi_lstore, zi_iinc, zi_i2, zi_i1, zi_idv, zi_l2, zi_ldv, zi_lsh, zi_i2l, zi_l2i, zi_lcmp, zi_dup, zi_dup2, zi_pop, zi_if1, zi_if2, zi_getI, zi_getL, zi_getR, zi_putI, zi_putZ, zi_putL, zi_aldI, zi_aldL, zi_astI, zi_astZ, zi_astL, zi_alen, zi_iret, zi_zret, zi_lret, zi_vret, zi_callV, zi_callS, zi_sw, zi_copyI, zi_copyL, zi_m2, zi_m1, zi_sval, zi_scod, zi_fmt, zi_balen, zi_bald, zi_bret, zi_callT, zq_nth, zq_put1, zq_put2, zq_clr, zq_nl, zq_tk, zq_ps, zq_sw, zq_l0, zq_a, zq_a1, List.length_cons, List.length_nil, List.nil_append, List.cons_append, List.append_nil, List.replicate, Nat.reduceAdd, Nat.reduceSub, Nat.reduceLeDiff, true_and, and_true, List.append_eq, List.cons.injEq, Value.int.injEq, Value.long.injEq, Value.ref.injEq, exists_and_left, exists_eq_left', and_assoc, zc_b, zc_0, zc_1, zc_10, zc_01, lg_cmp_ge, lg_cmp_le, lg_cmp_gt, lg_cmp_lt, lg_cmp_eq, zw_le, zw_lt, reduceIte, true_or, or_true, zw_g0, zw_l0, zw_g1, zw_l1, zw_g2, zw_l2, zw_g3, zw_l3, zw_g5, zw_l5, zw_g6, zw_l6, zw_g7, zw_l7, zw_g9, zw_l9, zw_g10, zw_l10, zw_g15, zw_l15, zw_g16, zw_l16, zw_g48, zw_l48, zw_g50, zw_l50, zw_g57, zw_l57, zw_g97, zw_l97, zw_g100, zw_l100, zw_g200, zw_l200, zw_g999, zw_l999, zw_g9999, zw_l9999]
    refine ⟨rfl, fun h1 r1 f1 => ?_⟩
    exact ⟨(h, 0, 0, (0, [])), none, none, rfl, rfl, Nat.zero_le _, rfl, hX, r1, zq_fr_w f1 (by decide), ⟨Nat.zero_le _, fun _ => rfl, Nat.zero_le _⟩, by decide, k⟩
  · obtain ⟨h0, i, j9, s⟩ := a
    obtain ⟨s3, s4, rfl, rfl, hi, hs, hX, hR, hf, ho, hb, k⟩ := hi
    have hX1 := XC_fr hX hf (by decide)
    have hg := hX1.2.1.1
    simp only [xX11_envy_11, xX11_envy_93, xX11_envy_22, hX1.2.1.2.1, zl_ge hi (by omega : vg V < 2 ^ 31), zi_push, zi_iload, zi_lload, zi_aload, zi_istore, zi_astore, zi_lstore, zi_iinc, zi_i2, zi_i1, zi_idv, zi_l2, zi_ldv, zi_lsh, zi_i2l, zi_l2i, zi_lcmp, zi_dup, zi_dup2, zi_pop, zi_if1, zi_if2, zi_getI, zi_getL, zi_getR, zi_putI, zi_putZ, zi_putL, zi_aldI, zi_aldL, zi_astI, zi_astZ, zi_astL, zi_alen, zi_iret, zi_zret, zi_lret, zi_vret, zi_callV, zi_callS, zi_sw, zi_copyI, zi_copyL, zi_m2, zi_m1, zi_sval, zi_scod, zi_fmt, zi_balen, zi_bald, zi_bret, zi_callT, zq_nth, zq_put1, zq_put2, zq_clr, zq_nl, zq_tk, zq_ps, zq_sw, zq_l0, zq_a, zq_a1, List.length_cons, List.length_nil, List.nil_append, List.cons_append, List.append_nil, List.replicate, Nat.reduceAdd, Nat.reduceSub, Nat.reduceLeDiff, true_and, and_true, List.append_eq, List.cons.injEq, Value.int.injEq, Value.long.injEq, Value.ref.injEq, exists_and_left, exists_eq_left', and_assoc, zc_b, zc_0, zc_1, zc_10, zc_01, lg_cmp_ge, lg_cmp_le, lg_cmp_gt, lg_cmp_lt, lg_cmp_eq, zw_le, zw_lt, reduceIte, true_or, or_true, zw_g0, zw_l0, zw_g1, zw_l1, zw_g2, zw_l2, zw_g3, zw_l3, zw_g5, zw_l5, zw_g6, zw_l6, zw_g7, zw_l7, zw_g9, zw_l9, zw_g10, zw_l10, zw_g15, zw_l15, zw_g16, zw_l16, zw_g48, zw_l48, zw_g50, zw_l50, zw_g57, zw_l57, zw_g97, zw_l97, zw_g100, zw_l100, zw_g200, zw_l200, zw_g999, zw_l999, zw_g9999, zw_l9999]
    refine ⟨fun q => ?_, fun q => ⟨i, nI i, rfl, by omega, hX1, ?_⟩⟩
    · subst q
      have e : s = zenv V := hs.symm
      rw [e] at hR ⊢
      exact k h hR hf
    · dsimp only
      exact ⟨(h0, i, 0, s), by dsimp only; omega, rfl, rfl, ⟨by omega, Nat.zero_le _⟩, hs, hX, hR, hf, ho, hb, k⟩
  · obtain ⟨h0, i, j, s⟩ := a
    obtain ⟨rfl, rfl, ⟨hi, hj⟩, hs, hX, hR, hf, ho, hb, k⟩ := hi
    have hX1 := XC_fr hX hf (by decide)
    have hg := hX1.2.1.1
    have hn := hX1.1.1
    simp only [xX11_envy_32, xX11_envy_87, xX11_envy_44, hX1.2.1.2.1, zl_ge hj (by omega : vg V < 2 ^ 31), zi_push, zi_iload, zi_lload, zi_aload, zi_istore, zi_astore, zi_lstore, zi_iinc, zi_i2, zi_i1, zi_idv, zi_l2, zi_ldv, zi_lsh, zi_i2l, zi_l2i, zi_lcmp, zi_dup, zi_dup2, zi_pop, zi_if1, zi_if2, zi_getI, zi_getL, zi_getR, zi_putI, zi_putZ, zi_putL, zi_aldI, zi_aldL, zi_astI, zi_astZ, zi_astL, zi_alen, zi_iret, zi_zret, zi_lret, zi_vret, zi_callV, zi_callS, zi_sw, zi_copyI, zi_copyL, zi_m2, zi_m1, zi_sval, zi_scod, zi_fmt, zi_balen, zi_bald, zi_bret, zi_callT, zq_nth, zq_put1, zq_put2, zq_clr, zq_nl, zq_tk, zq_ps, zq_sw, zq_l0, zq_a, zq_a1, List.length_cons, List.length_nil, List.nil_append, List.cons_append, List.append_nil, List.replicate, Nat.reduceAdd, Nat.reduceSub, Nat.reduceLeDiff, true_and, and_true, List.append_eq, List.cons.injEq, Value.int.injEq, Value.long.injEq, Value.ref.injEq, exists_and_left, exists_eq_left', and_assoc, zc_b, zc_0, zc_1, zc_10, zc_01, lg_cmp_ge, lg_cmp_le, lg_cmp_gt, lg_cmp_lt, lg_cmp_eq, zw_le, zw_lt, reduceIte, true_or, or_true, zw_g0, zw_l0, zw_g1, zw_l1, zw_g2, zw_l2, zw_g3, zw_l3, zw_g5, zw_l5, zw_g6, zw_l6, zw_g7, zw_l7, zw_g9, zw_l9, zw_g10, zw_l10, zw_g15, zw_l15, zw_g16, zw_l16, zw_g48, zw_l48, zw_g50, zw_l50, zw_g57, zw_l57, zw_g97, zw_l97, zw_g100, zw_l100, zw_g200, zw_l200, zw_g999, zw_l999, zw_g9999, zw_l9999]
    refine ⟨fun q => ⟨(h0, i + 1, 0, s), by dsimp only; omega, _, _, by rw [nI_1], rfl, by omega, ?_, hX, hR, hf, ?_, by omega, k⟩, fun q => ⟨i, nI j, rfl, hi, hX1, ?_⟩⟩
    · subst q
      exact hs
    · exact ⟨by have := ho.1; omega, ho.2⟩
    · dsimp only
      have l1 := vH_le V i (nI i)
      have l2 := vH_le V i (nI j)
      have fin : ∀ s' h', s' = zenv1 V i j s → XR s'.2 h' → zq_fr [3, 4] h0 h' → xX11_envy_81 sp_rowClearL (sp_heldV V) sp_rowAddL (fun ls st h => ∃ b, (vg V - b.2.1) * 20 < (vg V - i) * 20 - 1 - j ∧ I_xEnvy11 V Q b ls st h) (fun ls st h => ∃ b, (vg V - b.2.1) * 20 - 1 - b.2.2.1 < (vg V - i) * 20 - 1 - j ∧ I_xEnvy32 V Q b ls st h) Q [some (.ref 0), some (.int (nI s'.1)), some (.int (nI i)), some (.int (nI (vH V i (nI i)))), some (.int (nI j))] [] h' := by
        intro s' h' e r f
        simp only [xX11_envy_81, zi_push, zi_iload, zi_lload, zi_aload, zi_istore, zi_astore, zi_lstore, zi_iinc, zi_i2, zi_i1, zi_idv, zi_l2, zi_ldv, zi_lsh, zi_i2l, zi_l2i, zi_lcmp, zi_dup, zi_dup2, zi_pop, zi_if1, zi_if2, zi_getI, zi_getL, zi_getR, zi_putI, zi_putZ, zi_putL, zi_aldI, zi_aldL, zi_astI, zi_astZ, zi_astL, zi_alen, zi_iret, zi_zret, zi_lret, zi_vret, zi_callV, zi_callS, zi_sw, zi_copyI, zi_copyL, zi_m2, zi_m1, zi_sval, zi_scod, zi_fmt, zi_balen, zi_bald, zi_bret, zi_callT, zq_nth, zq_put1, zq_put2, zq_clr, zq_nl, zq_tk, zq_ps, zq_sw, zq_l0, zq_a, zq_a1, List.length_cons, List.length_nil, List.nil_append, List.cons_append, List.append_nil, List.replicate, Nat.reduceAdd, Nat.reduceSub, Nat.reduceLeDiff, true_and, and_true, List.append_eq, List.cons.injEq, Value.int.injEq, Value.long.injEq, Value.ref.injEq, exists_and_left, exists_eq_left', and_assoc, zc_b, zc_0, zc_1, zc_10, zc_01, lg_cmp_ge, lg_cmp_le, lg_cmp_gt, lg_cmp_lt, lg_cmp_eq, zw_le, zw_lt, reduceIte, true_or, or_true, zw_g0, zw_l0, zw_g1, zw_l1, zw_g2, zw_l2, zw_g3, zw_l3, zw_g5, zw_l5, zw_g6, zw_l6, zw_g7, zw_l7, zw_g9, zw_l9, zw_g10, zw_l10, zw_g15, zw_l15, zw_g16, zw_l16, zw_g48, zw_l48, zw_g50, zw_l50, zw_g57, zw_l57, zw_g97, zw_l97, zw_g100, zw_l100, zw_g200, zw_l200, zw_g999, zw_l999, zw_g9999, zw_l9999]
        refine ⟨(h0, i, j + 1, s'), by dsimp only; omega, by rw [nI_1], rfl, ⟨hi, by omega⟩, ?_, hX, r, f, ?_, by omega, k⟩
        · rw [zfold, hs]
          exact e.symm
        · rw [e]
          exact zenv1_ok ho
      rw [nI_leP (by omega) (by omega)]
      refine ⟨fun q2 => ?_, fun q2 => ?_⟩
      · refine fin s h ?_ hR hf
        unfold zenv1
        rw [if_neg (by omega)]
      · have hc := ho.1
        have e1 : zenv1 V i j s = (s.1 + 1, if s.1 = 0 then s.2 ++ [lN i, lN j] else s.2) := by
          unfold zenv1
          rw [if_pos (by omega)]
        rw [e1] at fin
        simp only [xX11_envy_55, xX11_envy_59, xX11_envy_78, nI_zP (show s.1 < 2 ^ 31 by omega), zi_push, zi_iload, zi_lload, zi_aload, zi_istore, zi_astore, zi_lstore, zi_iinc, zi_i2, zi_i1, zi_idv, zi_l2, zi_ldv, zi_lsh, zi_i2l, zi_l2i, zi_lcmp, zi_dup, zi_dup2, zi_pop, zi_if1, zi_if2, zi_getI, zi_getL, zi_getR, zi_putI, zi_putZ, zi_putL, zi_aldI, zi_aldL, zi_astI, zi_astZ, zi_astL, zi_alen, zi_iret, zi_zret, zi_lret, zi_vret, zi_callV, zi_callS, zi_sw, zi_copyI, zi_copyL, zi_m2, zi_m1, zi_sval, zi_scod, zi_fmt, zi_balen, zi_bald, zi_bret, zi_callT, zq_nth, zq_put1, zq_put2, zq_clr, zq_nl, zq_tk, zq_ps, zq_sw, zq_l0, zq_a, zq_a1, List.length_cons, List.length_nil, List.nil_append, List.cons_append, List.append_nil, List.replicate, Nat.reduceAdd, Nat.reduceSub, Nat.reduceLeDiff, true_and, and_true, List.append_eq, List.cons.injEq, Value.int.injEq, Value.long.injEq, Value.ref.injEq, exists_and_left, exists_eq_left', and_assoc, zc_b, zc_0, zc_1, zc_10, zc_01, lg_cmp_ge, lg_cmp_le, lg_cmp_gt, lg_cmp_lt, lg_cmp_eq, zw_le, zw_lt, reduceIte, true_or, or_true, zw_g0, zw_l0, zw_g1, zw_l1, zw_g2, zw_l2, zw_g3, zw_l3, zw_g5, zw_l5, zw_g6, zw_l6, zw_g7, zw_l7, zw_g9, zw_l9, zw_g10, zw_l10, zw_g15, zw_l15, zw_g16, zw_l16, zw_g48, zw_l48, zw_g50, zw_l50, zw_g57, zw_l57, zw_g97, zw_l97, zw_g100, zw_l100, zw_g200, zw_l200, zw_g999, zw_l999, zw_g9999, zw_l9999]
        refine ⟨fun q3 => ⟨_, s.2, rfl, hR, by have := ho.2.2; omega, fun h1 r1 f1 => ?_⟩, fun q3 => ?_⟩
        · dsimp only
          refine ⟨Nat.le_of_ble_eq_true rfl, _, _, rfl, r1, by rw [List.length_append]; have := ho.2.2; show s.2.length + 1 < 16; omega, fun h2 r2 f2 => ?_⟩
          dsimp only
          rw [nI_1]
          refine fin (s.1 + 1, _) h2 rfl ?_ (zq_fr_t (zq_fr_t hf f1 (by decide)) f2 (by decide))
          rw [if_pos q3]
          rw [List.append_assoc, nI_l (by omega), nI_l (by omega)] at r2
          exact r2
        · rw [nI_1]
          refine fin (s.1 + 1, _) h rfl ?_ hf
          rw [if_neg q3]
          exact hR
def sp_mEnvy (b : Nat) (V : zV) : zq_Sp := fun args h Q => args = [.ref 56] ∧ ZV V ∧ MC b V h ∧ ∀ h', MR (zenv V).2 h' → zq_fm [0, 1] [57, 72, 73, 74, 75] h h' → Q (some (.int (nI (zenv V).1))) h'
def zme (b : Nat) (V : zV) (Q : zq_Q) (h0 h : zq_H) (s : Nat × List Int64) (c : Nat) : Prop := MD b V h ∧ MR s.2 h ∧ zq_fm [0, 1] [57, 72, 73, 74, 75] h0 h ∧ zenvok c s ∧ c ≤ 100 ∧ ∀ h', MR (zenv V).2 h' → zq_fm [0, 1] [57, 72, 73, 74, 75] h0 h' → Q (some (.int (nI (zenv V).1))) h'
def I_mEnvy18 (b : Nat) (V : zV) (Q : zq_Q) (a : zq_H × Nat × Nat × (Nat × List Int64)) : zq_P := fun ls st h => match a with
  | (h0, i, _, s) => ∃ s3, ls = [some (.ref 56), some (.int (nI s.1)), some (.int (nI i)), s3] ∧ st = [] ∧ i ≤ vg V ∧ zfold (zenvR V) i (0, []) = s ∧ zme b V Q h0 h s (6 * i)
def I_mEnvy28 (b : Nat) (V : zV) (Q : zq_Q) (a : zq_H × Nat × Nat × (Nat × List Int64)) : zq_P := fun ls st h => match a with
  | (h0, i, j, s) => ls = [some (.ref 56), some (.int (nI s.1)), some (.int (nI i)), some (.int (nI j))] ∧ st = [] ∧ (i < vg V ∧ j ≤ vg V) ∧ zfold (zenv1 V i) j (zfold (zenvR V) i (0, [])) = s ∧ zme b V Q h0 h s (6 * i + j)
theorem ok_mEnvy (b : Nat) (V : zV) : zq_M yX12_envy cX12_envy 4 (some .int) 1 6 (sp_mEnvy b V) := by
  refine mX12_envy (ok_laysV b V) (by decide) (ok_mHeldV b V) (by decide) ok_entersL (by decide) (fun a => (vg V - a.2.1) * 20) (I_mEnvy18 b V) (fun a => (vg V - a.2.1) * 20 - 1 - a.2.2.1) (I_mEnvy28 b V) (fun args h Q hs => ?_) (fun Q a ls st h hi => ?_) (fun Q a ls st h hi => ?_)
  · obtain ⟨rfl, hV, hX, k⟩ := hs
    refine ⟨Nat.le_of_ble_eq_true rfl, ?_⟩
    simp only [xX12_envy_82, xX12_envy_76, xX12_envy_70, xX12_envy_67, xX12_envy_55, xX12_envy_51, xX12_envy_36, xX12_envy_28, xX12_envy_26, xX12_envy_18, xX12_envy_0, zi_push, zi_iload, zi_lload, zi_aload, zi_istore, zi_astore, zi_lstore, zi_iinc, zi_i2, zi_i1, zi_idv, zi_l2, zi_ldv, zi_lsh, zi_i2l, zi_l2i, zi_lcmp, zi_dup, zi_dup2, zi_pop, zi_if1, zi_if2, zi_getI, zi_getL, zi_getR, zi_putI, zi_putZ, zi_putL, zi_aldI, zi_aldL, zi_astI, zi_astZ, zi_astL, zi_alen, zi_iret, zi_zret, zi_lret, zi_vret, zi_callV, zi_callS, zi_sw, zi_copyI, zi_copyL, zi_m2, zi_m1, zi_sval, zi_scod, zi_fmt, zi_balen, zi_bald, zi_bret, zi_callT, zq_nth, zq_put1, zq_put2, zq_clr, zq_nl, zq_tk, zq_ps, zq_sw, zq_l0, zq_a, zq_a1, List.length_cons, List.length_nil, List.nil_append, List.cons_append, List.append_nil, List.replicate, Nat.reduceAdd, Nat.reduceSub, Nat.reduceLeDiff, true_and, and_true, List.append_eq, List.cons.injEq, Value.int.injEq, Value.long.injEq, Value.ref.injEq, exists_and_left, exists_eq_left', and_assoc, zc_b, zc_0, zc_1, zc_10, zc_01, lg_cmp_ge, lg_cmp_le, lg_cmp_gt, lg_cmp_lt, lg_cmp_eq, zw_le, zw_lt, reduceIte, true_or, or_true, zw_g0, zw_l0, zw_g1, zw_l1, zw_g2, zw_l2, zw_g3, zw_l3, zw_g5, zw_l5, zw_g6, zw_l6, zw_g7, zw_l7, zw_g9, zw_l9, zw_g10, zw_l10, zw_g15, zw_l15, zw_g16, zw_l16, zw_g48, zw_l48, zw_g50, zw_l50, zw_g57, zw_l57, zw_g97, zw_l97, zw_g100, zw_l100, zw_g200, zw_l200, zw_g999, zw_l999, zw_g9999, zw_l9999]
    have f0 : zq_fm [0, 1] [57, 72, 73, 74, 75] h (zq_setI h 56 0 0) := zq_fm_F zq_fm_rf (by decide)
    refine ⟨rfl, hV, MC_fm hX (zq_fm_F (fs := [0]) (ps := []) zq_fm_rf (by decide)) (by decide), fun h1 d1 f1 => ?_⟩
    have f2 : zq_fm [0, 1] [57, 72, 73, 74, 75] h (zq_setI h1 56 1 0) := zq_fm_F (zq_fm_t f0 f1 (by decide)) (by decide)
    exact ⟨(h, 0, 0, (0, [])), none, rfl, rfl, Nat.zero_le _, rfl, MD_fm d1 (zq_fm_F (fs := [1]) (ps := []) zq_fm_rf (by decide)) (by decide), MR_nil _, f2, ⟨Nat.zero_le _, fun _ => rfl, Nat.zero_le _⟩, by decide, k⟩
  · obtain ⟨h0, i, j9, s⟩ := a
    obtain ⟨s3, rfl, rfl, hi, hs, hX, hR, hf, ho, hb, k⟩ := hi
    have hg := hX.1.2.1.1
    simp only [xX12_envy_18, xX12_envy_82, xX12_envy_26, hX.1.2.1.2.1, zl_ge hi (by omega : vg V < 2 ^ 31), zi_push, zi_iload, zi_lload, zi_aload, zi_istore, zi_astore, zi_lstore, zi_iinc, zi_i2, zi_i1, zi_idv, zi_l2, zi_ldv, zi_lsh, zi_i2l, zi_l2i, zi_lcmp, zi_dup, zi_dup2, zi_pop, zi_if1, zi_if2, zi_getI, zi_getL, zi_getR, zi_putI, zi_putZ, zi_putL, zi_aldI, zi_aldL, zi_astI, zi_astZ, zi_astL, zi_alen, zi_iret, zi_zret, zi_lret, zi_vret, zi_callV, zi_callS, zi_sw, zi_copyI, zi_copyL, zi_m2, zi_m1, zi_sval, zi_scod, zi_fmt, zi_balen, zi_bald, zi_bret, zi_callT, zq_nth, zq_put1, zq_put2, zq_clr, zq_nl, zq_tk, zq_ps, zq_sw, zq_l0, zq_a, zq_a1, List.length_cons, List.length_nil, List.nil_append, List.cons_append, List.append_nil, List.replicate, Nat.reduceAdd, Nat.reduceSub, Nat.reduceLeDiff, true_and, and_true, List.append_eq, List.cons.injEq, Value.int.injEq, Value.long.injEq, Value.ref.injEq, exists_and_left, exists_eq_left', and_assoc, zc_b, zc_0, zc_1, zc_10, zc_01, lg_cmp_ge, lg_cmp_le, lg_cmp_gt, lg_cmp_lt, lg_cmp_eq, zw_le, zw_lt, reduceIte, true_or, or_true, zw_g0, zw_l0, zw_g1, zw_l1, zw_g2, zw_l2, zw_g3, zw_l3, zw_g5, zw_l5, zw_g6, zw_l6, zw_g7, zw_l7, zw_g9, zw_l9, zw_g10, zw_l10, zw_g15, zw_l15, zw_g16, zw_l16, zw_g48, zw_l48, zw_g50, zw_l50, zw_g57, zw_l57, zw_g97, zw_l97, zw_g100, zw_l100, zw_g200, zw_l200, zw_g999, zw_l999, zw_g9999, zw_l9999]
    refine ⟨fun q => ?_, fun q => ⟨(h0, i, 0, s), by dsimp only; omega, rfl, rfl, ⟨by omega, Nat.zero_le _⟩, hs, hX, hR, hf, ho, hb, k⟩⟩
    subst q
    have e : s = zenv V := hs.symm
    rw [e] at hR ⊢
    exact k h hR hf
  · obtain ⟨h0, i, j, s⟩ := a
    obtain ⟨rfl, rfl, ⟨hi, hj⟩, hs, hX, hR, hf, ho, hb, k⟩ := hi
    have hg := hX.1.2.1.1
    have hn := hX.1.1.1
    simp only [xX12_envy_28, xX12_envy_76, xX12_envy_36, hX.1.2.1.2.1, zl_ge hj (by omega : vg V < 2 ^ 31), zi_push, zi_iload, zi_lload, zi_aload, zi_istore, zi_astore, zi_lstore, zi_iinc, zi_i2, zi_i1, zi_idv, zi_l2, zi_ldv, zi_lsh, zi_i2l, zi_l2i, zi_lcmp, zi_dup, zi_dup2, zi_pop, zi_if1, zi_if2, zi_getI, zi_getL, zi_getR, zi_putI, zi_putZ, zi_putL, zi_aldI, zi_aldL, zi_astI, zi_astZ, zi_astL, zi_alen, zi_iret, zi_zret, zi_lret, zi_vret, zi_callV, zi_callS, zi_sw, zi_copyI, zi_copyL, zi_m2, zi_m1, zi_sval, zi_scod, zi_fmt, zi_balen, zi_bald, zi_bret, zi_callT, zq_nth, zq_put1, zq_put2, zq_clr, zq_nl, zq_tk, zq_ps, zq_sw, zq_l0, zq_a, zq_a1, List.length_cons, List.length_nil, List.nil_append, List.cons_append, List.append_nil, List.replicate, Nat.reduceAdd, Nat.reduceSub, Nat.reduceLeDiff, true_and, and_true, List.append_eq, List.cons.injEq, Value.int.injEq, Value.long.injEq, Value.ref.injEq, exists_and_left, exists_eq_left', and_assoc, zc_b, zc_0, zc_1, zc_10, zc_01, lg_cmp_ge, lg_cmp_le, lg_cmp_gt, lg_cmp_lt, lg_cmp_eq, zw_le, zw_lt, reduceIte, true_or, or_true, zw_g0, zw_l0, zw_g1, zw_l1, zw_g2, zw_l2, zw_g3, zw_l3, zw_g5, zw_l5, zw_g6, zw_l6, zw_g7, zw_l7, zw_g9, zw_l9, zw_g10, zw_l10, zw_g15, zw_l15, zw_g16, zw_l16, zw_g48, zw_l48, zw_g50, zw_l50, zw_g57, zw_l57, zw_g97, zw_l97, zw_g100, zw_l100, zw_g200, zw_l200, zw_g999, zw_l999, zw_g9999, zw_l9999]
    refine ⟨fun q => ⟨(h0, i + 1, 0, s), by dsimp only; omega, _, by rw [nI_1], rfl, by omega, ?_, hX, hR, hf, ?_, by omega, k⟩, fun q => ⟨i, nI j, rfl, hi, hX, ?_⟩⟩
    · subst q
      exact hs
    · exact ⟨by have := ho.1; omega, ho.2⟩
    · dsimp only
      refine ⟨Nat.le_of_ble_eq_true rfl, i, nI i, rfl, hi, hX, ?_⟩
      dsimp only
      have l1 := vH_le V i (nI i)
      have l2 := vH_le V i (nI j)
      have fin : ∀ s' h', s' = zenv1 V i j s → MD b V h' → MR s'.2 h' → zq_fm [0, 1] [57, 72, 73, 74, 75] h0 h' → xX12_envy_70 (sp_laysV b V) (sp_mHeldV b V) sp_entersL (fun ls st h => ∃ b9, (vg V - b9.2.1) * 20 < (vg V - i) * 20 - 1 - j ∧ I_mEnvy18 b V Q b9 ls st h) (fun ls st h => ∃ b9, (vg V - b9.2.1) * 20 - 1 - b9.2.2.1 < (vg V - i) * 20 - 1 - j ∧ I_mEnvy28 b V Q b9 ls st h) Q [some (.ref 56), some (.int (nI s'.1)), some (.int (nI i)), some (.int (nI j))] [] h' := by
        intro s' h' e d r f
        simp only [xX12_envy_70, zi_push, zi_iload, zi_lload, zi_aload, zi_istore, zi_astore, zi_lstore, zi_iinc, zi_i2, zi_i1, zi_idv, zi_l2, zi_ldv, zi_lsh, zi_i2l, zi_l2i, zi_lcmp, zi_dup, zi_dup2, zi_pop, zi_if1, zi_if2, zi_getI, zi_getL, zi_getR, zi_putI, zi_putZ, zi_putL, zi_aldI, zi_aldL, zi_astI, zi_astZ, zi_astL, zi_alen, zi_iret, zi_zret, zi_lret, zi_vret, zi_callV, zi_callS, zi_sw, zi_copyI, zi_copyL, zi_m2, zi_m1, zi_sval, zi_scod, zi_fmt, zi_balen, zi_bald, zi_bret, zi_callT, zq_nth, zq_put1, zq_put2, zq_clr, zq_nl, zq_tk, zq_ps, zq_sw, zq_l0, zq_a, zq_a1, List.length_cons, List.length_nil, List.nil_append, List.cons_append, List.append_nil, List.replicate, Nat.reduceAdd, Nat.reduceSub, Nat.reduceLeDiff, true_and, and_true, List.append_eq, List.cons.injEq, Value.int.injEq, Value.long.injEq, Value.ref.injEq, exists_and_left, exists_eq_left', and_assoc, zc_b, zc_0, zc_1, zc_10, zc_01, lg_cmp_ge, lg_cmp_le, lg_cmp_gt, lg_cmp_lt, lg_cmp_eq, zw_le, zw_lt, reduceIte, true_or, or_true, zw_g0, zw_l0, zw_g1, zw_l1, zw_g2, zw_l2, zw_g3, zw_l3, zw_g5, zw_l5, zw_g6, zw_l6, zw_g7, zw_l7, zw_g9, zw_l9, zw_g10, zw_l10, zw_g15, zw_l15, zw_g16, zw_l16, zw_g48, zw_l48, zw_g50, zw_l50, zw_g57, zw_l57, zw_g97, zw_l97, zw_g100, zw_l100, zw_g200, zw_l200, zw_g999, zw_l999, zw_g9999, zw_l9999]
        refine ⟨(h0, i, j + 1, s'), by dsimp only; omega, by rw [nI_1], rfl, ⟨hi, by omega⟩, ?_, d, r, f, ?_, by omega, k⟩
        · rw [zfold, hs]
          exact e.symm
        · rw [e]
          exact zenv1_ok ho
      rw [nI_leP (by omega) (by omega)]
      refine ⟨fun q2 => ?_, fun q2 => ?_⟩
      · refine fin s h ?_ hX hR hf
        unfold zenv1
        rw [if_neg (by omega)]
      · have hc := ho.1
        have e1 : zenv1 V i j s = (s.1 + 1, if s.1 = 0 then s.2 ++ [lN i, lN j] else s.2) := by
          unfold zenv1
          rw [if_pos (by omega)]
        rw [e1] at fin
        simp only [xX12_envy_51, xX12_envy_55, xX12_envy_67, nI_zP (show s.1 < 2 ^ 31 by omega), zi_push, zi_iload, zi_lload, zi_aload, zi_istore, zi_astore, zi_lstore, zi_iinc, zi_i2, zi_i1, zi_idv, zi_l2, zi_ldv, zi_lsh, zi_i2l, zi_l2i, zi_lcmp, zi_dup, zi_dup2, zi_pop, zi_if1, zi_if2, zi_getI, zi_getL, zi_getR, zi_putI, zi_putZ, zi_putL, zi_aldI, zi_aldL, zi_astI, zi_astZ, zi_astL, zi_alen, zi_iret, zi_zret, zi_lret, zi_vret, zi_callV, zi_callS, zi_sw, zi_copyI, zi_copyL, zi_m2, zi_m1, zi_sval, zi_scod, zi_fmt, zi_balen, zi_bald, zi_bret, zi_callT, zq_nth, zq_put1, zq_put2, zq_clr, zq_nl, zq_tk, zq_ps, zq_sw, zq_l0, zq_a, zq_a1, List.length_cons, List.length_nil, List.nil_append, List.cons_append, List.append_nil, List.replicate, Nat.reduceAdd, Nat.reduceSub, Nat.reduceLeDiff, true_and, and_true, List.append_eq, List.cons.injEq, Value.int.injEq, Value.long.injEq, Value.ref.injEq, exists_and_left, exists_eq_left', and_assoc, zc_b, zc_0, zc_1, zc_10, zc_01, lg_cmp_ge, lg_cmp_le, lg_cmp_gt, lg_cmp_lt, lg_cmp_eq, zw_le, zw_lt, reduceIte, true_or, or_true, zw_g0, zw_l0, zw_g1, zw_l1, zw_g2, zw_l2, zw_g3, zw_l3, zw_g5, zw_l5, zw_g6, zw_l6, zw_g7, zw_l7, zw_g9, zw_l9, zw_g10, zw_l10, zw_g15, zw_l15, zw_g16, zw_l16, zw_g48, zw_l48, zw_g50, zw_l50, zw_g57, zw_l57, zw_g97, zw_l97, zw_g100, zw_l100, zw_g200, zw_l200, zw_g999, zw_l999, zw_g9999, zw_l9999]
        refine ⟨fun q3 => ⟨_, s.2, rfl, hR, by have := ho.2.2; omega, fun h1 r1 f1 => ?_⟩, fun q3 => ?_⟩
        · dsimp only
          refine ⟨Nat.le_of_ble_eq_true rfl, _, _, rfl, r1, by rw [List.length_append]; have := ho.2.2; show s.2.length + 1 < 16; omega, fun h2 r2 f2 => ?_⟩
          dsimp only
          rw [nI_1]
          refine fin (s.1 + 1, _) h2 rfl (MD_fm (MD_fm hX f1 (by decide)) f2 (by decide)) ?_ (zq_fm_t (zq_fm_t hf f1 (by decide)) f2 (by decide))
          rw [if_pos q3]
          rw [List.append_assoc, nI_l (by omega), nI_l (by omega)] at r2
          exact r2
        · rw [nI_1]
          refine fin (s.1 + 1, _) h rfl hX ?_ hf
          rw [if_neg q3]
          exact hR
