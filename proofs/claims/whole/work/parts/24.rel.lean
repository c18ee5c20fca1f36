/-! ===== frames; what the cells say ===== -/
def zq_fr (ps : List Nat) (h h' : zq_H) : Prop := ∀ p, p ∉ ps → h'.1 p = h.1 p ∧ h'.2 p = h.2 p
theorem zq_fr_rf {ps : List Nat} {h : zq_H} : zq_fr ps h h := fun _ _ => ⟨rfl, rfl⟩
theorem zq_fr_I {ps : List Nat} {h h1 : zq_H} (k : zq_fr ps h h1) {p j : Nat} {x : Int32} (hp : p ∈ ps) : zq_fr ps h (zq_setI h1 p j x) := by
  intro q hq
  obtain ⟨a, b⟩ := k q hq
  refine ⟨?_, b⟩
  rw [← a]
  funext i
  simp only [zq_sI]
  rw [if_neg]
  rintro ⟨rfl, -⟩
  exact hq hp
theorem zq_fr_L {ps : List Nat} {h h1 : zq_H} (k : zq_fr ps h h1) {p j : Nat} {x : Int64} (hp : p ∈ ps) : zq_fr ps h (zq_setL h1 p j x) := by
  intro q hq
  obtain ⟨a, b⟩ := k q hq
  refine ⟨a, ?_⟩
  rw [← b]
  funext i
  simp only [zq_sL]
  rw [if_neg]
  rintro ⟨rfl, -⟩
  exact hq hp
theorem zq_fr_tr {ps qs rs : List Nat} {h h1 h2 : zq_H} (k : zq_fr ps h h1) (l : zq_fr qs h1 h2) (m : ∀ p, p ∉ rs → p ∉ ps ∧ p ∉ qs) : zq_fr rs h h2 := by
  intro p hp
  obtain ⟨a, b⟩ := m p hp
  exact ⟨(l p b).1.trans (k p a).1, (l p b).2.trans (k p a).2⟩
theorem zq_fr_w {ps rs : List Nat} {h h1 : zq_H} (k : zq_fr ps h h1) (m : ∀ p ∈ ps, p ∈ rs) : zq_fr rs h h1 := fun p hp => k p (fun q => hp (m p q))
/-- THE TEXT: n signs, of a row of 80 -/
def XT (n : Nat) (s : Nat → Int32) (h : zq_H) : Prop := h.1 1 1 = nI n ∧ n ≤ 80 ∧ ∀ i, i < 80 → h.1 2 i = s i ∧ 0 ≤ s i ∧ s i ≤ 255
def MT (n : Nat) (s : Nat → Int32) (h : zq_H) : Prop := h.1 56 13 = nI n ∧ n ≤ 80 ∧ ∀ i, i < 80 → h.1 64 i = s i ∧ 0 ≤ s i ∧ s i ≤ 255
theorem XT_fr {n : Nat} {s : Nat → Int32} {ps : List Nat} {h h' : zq_H} (k : XT n s h) (f : zq_fr ps h h') (d : 1 ∉ ps ∧ 2 ∉ ps) : XT n s h' := by
  unfold XT at *
  rw [(f 1 d.1).1, (f 2 d.2).1]
  exact k
/-- four signs of an int, the highest byte first -/
def zsh (k : Nat) : Int32 := 24 - nI (8 * k)
def z4 (v : Int32) (k : Nat) : Int32 := zf_ushr v (zsh k) &&& 255
def zs4 (s : Nat → Int32) (n : Nat) (v : Int32) (k : Nat) : Nat → Int32 := fun i => if n ≤ i ∧ i < n + k then z4 v (i - n) else s i
theorem zbyte (x : Int32) : 0 ≤ x &&& 255 ∧ x &&& 255 ≤ 255 := by
  obtain ⟨j, hj, e⟩ := pk_andE x (m := 255) 8 (by decide)
  rw [e]
  constructor
  · exact nI_pos' (by omega)
  · rw [show (255 : Int32) = nI 255 from rfl]
    exact nI_le (by omega) (by decide)
def sp_addFour : zq_Sp := fun args h Q => ∃ v n s, args = [.ref 1, .int v] ∧ XT n s h ∧ (if n + 4 ≤ 80 then ∀ h', XT (n + 4) (zs4 s n v 4) h' → zq_fr [1, 2] h h' → Q (some (.int (nI (n + 4)))) h' else Q (some (.int (-1))) h)
def I_addFour (Q : zq_Q) (a : zq_H × Int32 × Nat × (Nat → Int32) × Nat) : zq_P := fun ls st h => match a with
  | (h0, v, n, s, k) => ls = [some (.ref 1), some (.int v), some (.int (zsh k))] ∧ st = [] ∧ k ≤ 4 ∧ n + 4 ≤ 80 ∧ XT (n + k) (zs4 s n v k) h ∧ zq_fr [1, 2] h0 h ∧ ∀ h', XT (n + 4) (zs4 s n v 4) h' → zq_fr [1, 2] h0 h' → Q (some (.int (nI (n + 4)))) h'
theorem XT_put {n : Nat} {s : Nat → Int32} {h : zq_H} (k : XT n s h) (l : n < 80) {x : Int32} (hx : 0 ≤ x ∧ x ≤ 255) : XT (n + 1) (fun i => if i = n then x else s i) (zq_setI (zq_setI h 2 n x) 1 1 (nI (n + 1))) := by
  obtain ⟨a, b, c⟩ := k
  refine ⟨by simp [zq_sI], by omega, fun i hi => ?_⟩
  obtain ⟨c1, c2⟩ := c i hi
  simp only [zq_sI]
  by_cases q : i = n
  · simp [q, hx]
  · simp [q, c1, c2]
theorem ok_addFour : zq_M yX8_addFour cX8_addFour 3 (some .int) 1 0 sp_addFour := by
  refine mX8_addFour (fun a => 4 - a.2.2.2.2) I_addFour (fun args h Q hs => ?_) (fun Q a ls st h hi => ?_)
  · obtain ⟨v, n, s, rfl, hT, h2⟩ := hs
    have hT2 := hT
    obtain ⟨e, hn, -⟩ := hT2
    refine ⟨Nat.le_of_ble_eq_true rfl, ?_⟩
    simp only [xX8_addFour_52, xX8_addFour_20, xX8_addFour_16, xX8_addFour_13, xX8_addFour_11, xX8_addFour_0, zi_push, zi_iload, zi_lload, zi_aload, zi_istore, zi_astore, zi_lstore, zi_iinc, zi_i2, zi_i1, zi_idv, zi_l2, zi_ldv, zi_lsh, zi_i2l, zi_l2i, zi_lcmp, zi_dup, zi_dup2, zi_pop, zi_if1, zi_if2, zi_getI, zi_getL, zi_getR, zi_putI, zi_putZ, zi_putL, zi_aldI, zi_aldL, zi_astI, zi_astZ, zi_astL, zi_alen, zi_iret, zi_zret, zi_lret, zi_vret, zi_callV, zi_callS, zi_sw, zi_copyI, zi_copyL, zi_m2, zi_m1, zi_sval, zi_scod, zi_fmt, zi_balen, zi_bald, zi_bret, zi_callT, zq_nth, zq_put1, zq_put2, zq_clr, zq_nl, zq_tk, zq_ps, zq_sw, zq_l0, zq_a, zq_a1, List.length_cons, List.length_nil, List.nil_append, List.cons_append, List.append_nil, List.replicate, Nat.reduceAdd, Nat.reduceSub, Nat.reduceLeDiff, true_and, and_true, List.append_eq, List.cons.injEq, Value.int.injEq, Value.long.injEq, Value.ref.injEq, exists_and_left, exists_eq_left', and_assoc, zc_b, zc_0, zc_1, zc_10, zc_01, lg_cmp_ge, lg_cmp_le, lg_cmp_gt, lg_cmp_lt, lg_cmp_eq, zw_le, zw_lt, reduceIte, true_or, or_true, zw_g0, zw_l0, zw_g1, zw_l1, zw_g2, zw_l2, zw_g3, zw_l3, zw_g5, zw_l5, zw_g6, zw_l6, zw_g7, zw_l7, zw_g9, zw_l9, zw_g10, zw_l10, zw_g15, zw_l15, zw_g16, zw_l16, zw_g48, zw_l48, zw_g50, zw_l50, zw_g57, zw_l57, zw_g97, zw_l97, zw_g100, zw_l100, zw_g200, zw_l200, zw_g999, zw_l999, zw_g9999, zw_l9999]
    have e1 : (h.1 1 1 + 4 ≤ 80) = (n + 4 ≤ 80) := by
      rw [e, show (4 : Int32) = nI 4 from rfl, show (80 : Int32) = nI 80 from rfl, nI_add]
      apply propext
      rw [nI_leI (by omega) (by decide)]
    rcases Classical.propComplete (n + 4 ≤ 80) with c1 | c1
    · simp only [e1, c1, not_true_eq_false, not_false_eq_true, forall_const, true_and, and_true, false_and, and_false, if_true, if_false, reduceIte, implies_true, and_self, ite_self, true_or, or_true, false_or, or_false, true_implies, false_implies, Classical.not_not, false_imp_iff, not_false_iff] at h2 ⊢
      refine ⟨(h, v, n, s, 0), rfl, rfl, Nat.zero_le _, of_eq_true c1, ?_, zq_fr_rf, h2⟩
      have e2 : zs4 s n v 0 = s := by
        funext i
        unfold zs4
        rw [if_neg (by omega)]
      rw [e2]
      exact hT
    · simp only [e1, c1, not_true_eq_false, not_false_eq_true, forall_const, true_and, and_true, false_and, and_false, if_true, if_false, reduceIte, implies_true, and_self, ite_self, true_or, or_true, false_or, or_false, true_implies, false_implies, Classical.not_not, false_imp_iff, not_false_iff] at h2 ⊢
      exact h2
  · obtain ⟨h0, v, n, s, k⟩ := a
    obtain ⟨rfl, rfl, hk, hn, hT, hf, h2⟩ := hi
    have e1 : h.1 1 1 = nI (n + k) := hT.1
    have step : ∀ k', k = k' → k' < 4 → ¬ zsh k' < 0 → zsh k' + -8 = zsh (k' + 1) → xX8_addFour_16 (fun ls st h => ∃ b : zq_H × Int32 × Nat × (Nat → Int32) × Nat, 4 - b.2.2.2.2 < 4 - k ∧ I_addFour Q b ls st h) Q [some (.ref 1), some (.int v), some (.int (zsh k))] [] h := by
      intro k' e0 hk4 hs1 hs2
      subst e0
      have hz := zbyte (zf_ushr v (zsh k))
      simp only [xX8_addFour_52, xX8_addFour_20, xX8_addFour_16, xX8_addFour_13, xX8_addFour_11, xX8_addFour_0, zi_push, zi_iload, zi_lload, zi_aload, zi_istore, zi_astore, zi_lstore, zi_iinc, zi_i2, zi_i1, zi_idv, zi_l2, zi_ldv, zi_lsh, zi_i2l, zi_l2i, zi_lcmp, zi_dup, zi_dup2, zi_pop, zi_if1, zi_if2, zi_getI, zi_getL, zi_getR, zi_putI, zi_putZ, zi_putL, zi_aldI, zi_aldL, zi_astI, zi_astZ, zi_astL, zi_alen, zi_iret, zi_zret, zi_lret, zi_vret, zi_callV, zi_callS, zi_sw, zi_copyI, zi_copyL, zi_m2, zi_m1, zi_sval, zi_scod, zi_fmt, zi_balen, zi_bald, zi_bret, zi_callT, zq_nth, zq_put1, zq_put2, zq_clr, zq_nl, zq_tk, zq_ps, zq_sw, zq_l0, zq_a, zq_a1, List.length_cons, List.length_nil, List.nil_append, List.cons_append, List.append_nil, List.replicate, Nat.reduceAdd, Nat.reduceSub, Nat.reduceLeDiff, true_and, and_true, List.append_eq, List.cons.injEq, Value.int.injEq, Value.long.injEq, Value.ref.injEq, exists_and_left, exists_eq_left', and_assoc, zc_b, zc_0, zc_1, zc_10, zc_01, lg_cmp_ge, lg_cmp_le, lg_cmp_gt, lg_cmp_lt, lg_cmp_eq, zw_le, zw_lt, reduceIte, true_or, or_true, zw_g0, zw_l0, zw_g1, zw_l1, zw_g2, zw_l2, zw_g3, zw_l3, zw_g5, zw_l5, zw_g6, zw_l6, zw_g7, zw_l7, zw_g9, zw_l9, zw_g10, zw_l10, zw_g15, zw_l15, zw_g16, zw_l16, zw_g48, zw_l48, zw_g50, zw_l50, zw_g57, zw_l57, zw_g97, zw_l97, zw_g100, zw_l100, zw_g200, zw_l200, zw_g999, zw_l999, zw_g9999, zw_l9999, zq_sI, e1]
      refine ⟨fun q => absurd q hs1, fun _ => ⟨vp_in_nI (by omega) (by decide), (h0, v, n, s, k + 1), by dsimp only; omega, ?_, rfl, by omega, hn, ?_, ?_, h2⟩⟩
      · rw [hs2]
      · have h9 := XT_put hT (by omega) hz
        have e2 : (fun i => if i = n + k then zf_ushr v (zsh k) &&& 255 else zs4 s n v k i) = zs4 s n v (k + 1) := by
          funext i
          unfold zs4 z4
          by_cases q : i = n + k
          · rw [if_pos q, if_pos (by omega), q, Nat.add_sub_cancel_left]
          · rw [if_neg q]
            by_cases q2 : n ≤ i ∧ i < n + k
            · rw [if_pos q2, if_pos (by omega)]
            · rw [if_neg q2, if_neg (by omega)]
        rw [e2] at h9
        rw [nI_clamp (by omega)]
        simp only [Nat.reduceEqDiff, not_true_eq_false, not_false_eq_true, forall_const, true_and, and_true, false_and, and_false, if_true, if_false, reduceIte, implies_true, and_self, ite_self, true_or, or_true, false_or, or_false, true_implies, false_implies, Classical.not_not, false_imp_iff, not_false_iff, nI_1]
        exact h9
      · exact zq_fr_I (zq_fr_I hf (by decide)) (by decide)
    rcases (show k = 0 ∨ k = 1 ∨ k = 2 ∨ k = 3 ∨ k = 4 by omega) with q | q | q | q | q
    · exact step 0 q (by decide) (by decide) (by decide)
    · exact step 1 q (by decide) (by decide) (by decide)
    · exact step 2 q (by decide) (by decide) (by decide)
    · exact step 3 q (by decide) (by decide) (by decide)
    · subst q
      simp only [xX8_addFour_52, xX8_addFour_20, xX8_addFour_16, xX8_addFour_13, xX8_addFour_11, xX8_addFour_0, zi_push, zi_iload, zi_lload, zi_aload, zi_istore, zi_astore, zi_lstore, zi_iinc, zi_i2, zi_i1, zi_idv, zi_l2, zi_ldv, zi_lsh, zi_i2l, zi_l2i, zi_lcmp, zi_dup, zi_dup2, zi_pop, zi_if1, zi_if2, zi_getI, zi_getL, zi_getR, zi_putI, zi_putZ, zi_putL, zi_aldI, zi_aldL, zi_astI, zi_astZ, zi_astL, zi_alen, zi_iret, zi_zret, zi_lret, zi_vret, zi_callV, zi_callS, zi_sw, zi_copyI, zi_copyL, zi_m2, zi_m1, zi_sval, zi_scod, zi_fmt, zi_balen, zi_bald, zi_bret, zi_callT, zq_nth, zq_put1, zq_put2, zq_clr, zq_nl, zq_tk, zq_ps, zq_sw, zq_l0, zq_a, zq_a1, List.length_cons, List.length_nil, List.nil_append, List.cons_append, List.append_nil, List.replicate, Nat.reduceAdd, Nat.reduceSub, Nat.reduceLeDiff, true_and, and_true, List.append_eq, List.cons.injEq, Value.int.injEq, Value.long.injEq, Value.ref.injEq, exists_and_left, exists_eq_left', and_assoc, zc_b, zc_0, zc_1, zc_10, zc_01, lg_cmp_ge, lg_cmp_le, lg_cmp_gt, lg_cmp_lt, lg_cmp_eq, zw_le, zw_lt, reduceIte, true_or, or_true, zw_g0, zw_l0, zw_g1, zw_l1, zw_g2, zw_l2, zw_g3, zw_l3, zw_g5, zw_l5, zw_g6, zw_l6, zw_g7, zw_l7, zw_g9, zw_l9, zw_g10, zw_l10, zw_g15, zw_l15, zw_g16, zw_l16, zw_g48, zw_l48, zw_g50, zw_l50, zw_g57, zw_l57, zw_g97, zw_l97, zw_g100, zw_l100, zw_g200, zw_l200, zw_g999, zw_l999, zw_g9999, zw_l9999, e1]
      exact ⟨fun _ => h2 h hT hf, fun q => absurd (by decide) q⟩
/-! frames of the reference: its fields (all at place 56) by their slots -/
def zq_fm (fs ps : List Nat) (h h' : zq_H) : Prop := (∀ p, p ≠ 56 → p ∉ ps → h'.1 p = h.1 p ∧ h'.2 p = h.2 p) ∧ ∀ j, j ∉ fs → h'.1 56 j = h.1 56 j ∧ h'.2 56 j = h.2 56 j
theorem zq_fm_rf {fs ps : List Nat} {h : zq_H} : zq_fm fs ps h h := ⟨fun _ _ _ => ⟨rfl, rfl⟩, fun _ _ => ⟨rfl, rfl⟩⟩
theorem zq_fm_I {fs ps : List Nat} {h h1 : zq_H} (k : zq_fm fs ps h h1) {p j : Nat} {x : Int32} (hp : p ∈ ps ∧ p ≠ 56) : zq_fm fs ps h (zq_setI h1 p j x) := by
  refine ⟨fun q h56 hq => ?_, fun i hi => ?_⟩
  · obtain ⟨a, b⟩ := k.1 q h56 hq
    refine ⟨?_, b⟩
    rw [← a]
    funext i
    simp only [zq_sI]
    rw [if_neg]
    rintro ⟨rfl, -⟩
    exact hq hp.1
  · obtain ⟨a, b⟩ := k.2 i hi
    refine ⟨?_, b⟩
    rw [← a, zq_sI, if_neg]
    rintro ⟨q, -⟩
    exact hp.2 q.symm
theorem zq_fm_L {fs ps : List Nat} {h h1 : zq_H} (k : zq_fm fs ps h h1) {p j : Nat} {x : Int64} (hp : p ∈ ps ∧ p ≠ 56) : zq_fm fs ps h (zq_setL h1 p j x) := by
  refine ⟨fun q h56 hq => ?_, fun i hi => ?_⟩
  · obtain ⟨a, b⟩ := k.1 q h56 hq
    refine ⟨a, ?_⟩
    rw [← b]
    funext i
    simp only [zq_sL]
    rw [if_neg]
    rintro ⟨rfl, -⟩
    exact hq hp.1
  · obtain ⟨a, b⟩ := k.2 i hi
    refine ⟨a, ?_⟩
    rw [← b, zq_sL, if_neg]
    rintro ⟨q, -⟩
    exact hp.2 q.symm
theorem zq_fm_F {fs ps : List Nat} {h h1 : zq_H} (k : zq_fm fs ps h h1) {j : Nat} {x : Int32} (hj : j ∈ fs) : zq_fm fs ps h (zq_setI h1 56 j x) := by
  refine ⟨fun q h56 hq => ?_, fun i hi => ?_⟩
  · obtain ⟨a, b⟩ := k.1 q h56 hq
    refine ⟨?_, b⟩
    rw [← a]
    funext i
    simp only [zq_sI]
    rw [if_neg]
    rintro ⟨q9, -⟩
    exact h56 q9
  · obtain ⟨a, b⟩ := k.2 i hi
    refine ⟨?_, b⟩
    rw [← a, zq_sI, if_neg]
    rintro ⟨-, rfl⟩
    exact hi hj
theorem zq_fm_FL {fs ps : List Nat} {h h1 : zq_H} (k : zq_fm fs ps h h1) {j : Nat} {x : Int64} (hj : j ∈ fs) : zq_fm fs ps h (zq_setL h1 56 j x) := by
  refine ⟨fun q h56 hq => ?_, fun i hi => ?_⟩
  · obtain ⟨a, b⟩ := k.1 q h56 hq
    refine ⟨a, ?_⟩
    rw [← b]
    funext i
    simp only [zq_sL]
    rw [if_neg]
    rintro ⟨q9, -⟩
    exact h56 q9
  · obtain ⟨a, b⟩ := k.2 i hi
    refine ⟨a, ?_⟩
    rw [← b, zq_sL, if_neg]
    rintro ⟨-, rfl⟩
    exact hi hj
theorem zq_fm_tr {fs ps fs1 ps1 fs2 ps2 : List Nat} {h h1 h2 : zq_H} (k : zq_fm fs ps h h1) (l : zq_fm fs1 ps1 h1 h2) (m : (∀ p, p ∉ ps2 → p ∉ ps ∧ p ∉ ps1) ∧ ∀ j, j ∉ fs2 → j ∉ fs ∧ j ∉ fs1) : zq_fm fs2 ps2 h h2 := by
  refine ⟨fun p h56 hp => ?_, fun j hj => ?_⟩
  · obtain ⟨a, b⟩ := m.1 p hp
    exact ⟨(l.1 p h56 b).1.trans (k.1 p h56 a).1, (l.1 p h56 b).2.trans (k.1 p h56 a).2⟩
  · obtain ⟨a, b⟩ := m.2 j hj
    exact ⟨(l.2 j b).1.trans (k.2 j a).1, (l.2 j b).2.trans (k.2 j a).2⟩
theorem zq_fm_w {fs ps fs2 ps2 : List Nat} {h h1 : zq_H} (k : zq_fm fs ps h h1) (m : (∀ p ∈ ps, p ∈ ps2) ∧ ∀ j ∈ fs, j ∈ fs2) : zq_fm fs2 ps2 h h1 := ⟨fun p h56 hp => k.1 p h56 (fun q => hp (m.1 p q)), fun j hj => k.2 j (fun q => hj (m.2 j q))⟩
/-- the reference's places are untouched by the class's frames, and the other way -/
theorem MT_fr {n : Nat} {s : Nat → Int32} {ps : List Nat} {h h' : zq_H} (k : MT n s h) (f : zq_fr ps h h') (d : 56 ∉ ps ∧ 64 ∉ ps) : MT n s h' := by
  unfold MT at *
  rw [(f 56 d.1).1, (f 64 d.2).1]
  exact k
theorem MT_fm {n : Nat} {s : Nat → Int32} {fs ps : List Nat} {h h' : zq_H} (k : MT n s h) (f : zq_fm fs ps h h') (d : 13 ∉ fs ∧ 64 ∉ ps) : MT n s h' := by
  unfold MT at *
  rw [(f.2 13 d.1).1, (f.1 64 (by decide) d.2).1]
  exact k
theorem XT_fm {n : Nat} {s : Nat → Int32} {fs ps : List Nat} {h h' : zq_H} (k : XT n s h) (f : zq_fm fs ps h h') (d : 1 ∉ ps ∧ 2 ∉ ps) : XT n s h' := by
  unfold XT at *
  rw [(f.1 1 (by decide) d.1).1, (f.1 2 (by decide) d.2).1]
  exact k
