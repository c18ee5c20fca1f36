/-! ===== placing: the members of the class, how far each gets, the least ends ===== -/
theorem zshG_sp (V : zV) (g m need s : Nat) : ∀ k t, t + k = vn V + 1 → (zshG V g m need s k t = 17 ∧ ∀ u, t ≤ u → u ≤ vn V → ¬ need ≤ (vS V g u - vS V g s) * m) ∨ (t ≤ zshG V g m need s k t ∧ zshG V g m need s k t ≤ vn V ∧ need ≤ (vS V g (zshG V g m need s k t) - vS V g s) * m ∧ ∀ u, t ≤ u → u < zshG V g m need s k t → ¬ need ≤ (vS V g u - vS V g s) * m)
  | 0, t, h => Or.inl ⟨rfl, fun u h1 h2 => by omega⟩
  | k + 1, t, h => by
    rw [zshG_s]
    by_cases c : need ≤ (vS V g t - vS V g s) * m
    · rw [if_pos c]
      exact Or.inr ⟨Nat.le_refl _, by omega, c, fun u h1 h2 => by omega⟩
    · rw [if_neg c]
      rcases zshG_sp V g m need s k (t + 1) (by omega) with ⟨h1, h2⟩ | ⟨h1, h2, h3, h4⟩
      · refine Or.inl ⟨h1, fun u h5 h6 => ?_⟩
        by_cases q : u = t
        · rw [q]
          exact c
        · exact h2 u (by omega) h6
      · refine Or.inr ⟨by omega, h2, h3, fun u h5 h6 => ?_⟩
        by_cases q : u = t
        · rw [q]
          exact c
        · exact h4 u (by omega) h6
theorem zsho_sp (V : zV) (g m need s : Nat) (hs : s ≤ vn V) : (zsho V g m need s = 17 ∧ ∀ u, s ≤ u → u ≤ vn V → ¬ need ≤ (vS V g u - vS V g s) * m) ∨ (s ≤ zsho V g m need s ∧ zsho V g m need s ≤ vn V ∧ need ≤ (vS V g (zsho V g m need s) - vS V g s) * m ∧ ∀ u, s ≤ u → u < zsho V g m need s → ¬ need ≤ (vS V g u - vS V g s) * m) := zshG_sp V g m need s _ s (by omega)
theorem zsho_17 (V : zV) (g m need s : Nat) (hs : s ≤ vn V) (hn : vn V ≤ 16) : zsho V g m need s ≤ 17 := by
  rcases zsho_sp V g m need s hs with h | h <;> omega
theorem zsho_mono (V : zV) (g m need s t : Nat) (hs : s ≤ t) (ht : t ≤ vn V) (hn : vn V ≤ 16) : zsho V g m need s ≤ zsho V g m need t := by
  rcases zsho_sp V g m need t ht with ⟨h1, -⟩ | ⟨h1, h2, h3, -⟩
  · rw [h1]
    exact zsho_17 V g m need s (by omega) hn
  · have hm : vS V g (zsho V g m need t) - vS V g t ≤ vS V g (zsho V g m need t) - vS V g s := Nat.sub_le_sub_left (vS_mono hs) _
    have h4 := Nat.le_trans h3 (Nat.mul_le_mul_right m hm)
    rcases zsho_sp V g m need s (by omega) with ⟨-, k2⟩ | ⟨k1, k2, k3, k4⟩
    · exact absurd h4 (k2 _ (by omega) h2)
    · rcases Nat.lt_or_ge (zsho V g m need t) (zsho V g m need s) with q | q
      · exact absurd h4 (k4 _ (by omega) q)
      · exact q
/-- members: how many; who, times what, to what -/
abbrev zPl : Type := Nat × (Nat → Nat) × (Nat → Nat) × (Nat → Nat)
def zPd (V : zV) (P : zPl) : Prop := P.1 ≤ 6 ∧ vn V ≤ 16 ∧ ∀ i, i < P.1 → P.2.1 i < vg V ∧ P.2.2.1 i ≤ 2 ^ 40 ∧ P.2.2.2 i < 2 ^ 62
def zPf (V : zV) (P : zPl) (i s : Nat) : Nat := zsho V (P.2.1 i) (P.2.2.1 i) (P.2.2.2 i) s
def zPR (V : zV) (P : zPl) : Nat → Nat → Nat := zrch (vn V) (zPf V P)
def zPL (V : zV) (P : zPl) (k : Nat) : Nat := zoL P.1 (zPR V P) (zbc k) k 0
theorem zPR_ok {V : zV} {P : zPl} (h : zPd V P) : zoR (vn V) P.1 (zPR V P) := by
  obtain ⟨h1, h2, -⟩ := h
  refine ⟨⟨h2, h1⟩, fun i s t hi hs ht => ?_, fun i s hi hs => ?_, fun i s hi hs => ?_, fun i hi => ?_⟩
  · unfold zPR zrch zPf
    by_cases c : vn V < t
    · rw [if_pos c]
      split
      · exact Nat.le_refl _
      · exact zsho_17 V _ _ _ _ (by omega) h2
    · rw [if_neg c, if_neg (by omega)]
      exact zsho_mono V _ _ _ _ _ hs (by omega) h2
  · unfold zPR zrch zPf
    split
    · exact Or.inr rfl
    · rcases zsho_sp V (P.2.1 i) (P.2.2.1 i) (P.2.2.2 i) s (by omega) with q | q
      · exact Or.inr q.1
      · exact Or.inl q.2.1
  · unfold zPR zrch zPf
    split
    · exact hs
    · rcases zsho_sp V (P.2.1 i) (P.2.2.1 i) (P.2.2.2 i) s (by omega) with q | q
      · rw [q.1]
        exact hs
      · exact q.1
  · unfold zPR zrch
    rw [if_pos (by omega)]
def XPl (m n : Nat) (P : zPl) (h : zq_H) : Prop := h.1 22 6 = nI m ∧ h.1 22 7 = nI n ∧ ∀ i, i < m → h.1 23 i = nI (P.2.1 i) ∧ h.2 24 i = lN (P.2.2.1 i) ∧ h.2 25 i = lN (P.2.2.2 i)
theorem XPl_fr {m n : Nat} {P : zPl} {ps : List Nat} {h h' : zq_H} (k : XPl m n P h) (f : zq_fr ps h h') (d : 22 ∉ ps ∧ 23 ∉ ps ∧ 24 ∉ ps ∧ 25 ∉ ps) : XPl m n P h' := by
  unfold XPl at *
  rw [(f 22 d.1).1, (f 23 d.2.1).1, (f 24 d.2.2.1).2, (f 25 d.2.2.2).2]
  exact k
def sp_pstart : zq_Sp := fun args h Q => ∃ n, args = [.ref 22, .int (nI n)] ∧ ∀ h', (∀ P, XPl 0 n P h') → zq_fr [22] h h' → Q none h'
theorem ok_pstart : zq_M yX4_start cX4_start 2 none 0 0 sp_pstart := by
  refine mX4_start (fun args h Q hs => ?_)
  obtain ⟨n, rfl, k⟩ := hs
  refine ⟨Nat.le_of_ble_eq_true rfl, ?_⟩
  simp only [xX4_start_0, zi_push, zi_iload, zi_lload, zi_aload, zi_istore, zi_astore, zi_lstore, zi_iinc, zi_i2, zi_i1, zi_idv, zi_l2, zi_ldv, zi_lsh, zi_i2l, zi_l2i, zi_lcmp, zi_dup, zi_dup2, zi_pop, zi_if1, zi_if2, zi_getI, zi_getL, zi_getR, zi_putI, zi_putZ, zi_putL, zi_aldI, zi_aldL, zi_astI, zi_astZ, zi_astL, zi_alen, zi_iret, zi_zret, zi_lret, zi_vret, zi_callV, zi_callS, zi_sw, zi_copyI, zi_copyL, zi_m2, zi_m1, zi_sval, zi_scod, zi_fmt, zi_balen, zi_bald, zi_bret, zi_callT, zq_nth, zq_put1, zq_put2, zq_clr, zq_nl, zq_tk, zq_ps, zq_sw, zq_l0, zq_a, zq_a1, List.length_cons, List.length_nil, List.nil_append, List.cons_append, List.append_nil, List.replicate, Nat.reduceAdd, Nat.reduceSub, Nat.reduceLeDiff, true_and, and_true, List.append_eq, List.cons.injEq, Value.int.injEq, Value.long.injEq, Value.ref.injEq, exists_and_left, exists_eq_left', and_assoc, zc_b, zc_0, zc_1, zc_10, zc_01, lg_cmp_ge, lg_cmp_le, lg_cmp_gt, lg_cmp_lt, lg_cmp_eq, zw_le, zw_lt, reduceIte, true_or, or_true, zw_g0, zw_l0, zw_g1, zw_l1, zw_g2, zw_l2, zw_g3, zw_l3, zw_g5, zw_l5, zw_g6, zw_l6, zw_g7, zw_l7, zw_g9, zw_l9, zw_g10, zw_l10, zw_g15, zw_l15, zw_g16, zw_l16, zw_g48, zw_l48, zw_g50, zw_l50, zw_g57, zw_l57, zw_g97, zw_l97, zw_g100, zw_l100, zw_g200, zw_l200, zw_g999, zw_l999, zw_g9999, zw_l9999]
  exact k _ (fun P => ⟨by simp [zq_sI]; rfl, by simp [zq_sI], fun i hi => absurd hi (Nat.not_lt_zero _)⟩) (zq_fr_I (zq_fr_I zq_fr_rf (by decide)) (by decide))
def sp_addMem : zq_Sp := fun args h Q => ∃ m n P, args = [.ref 22, .int (nI (P.2.1 m)), .long (lN (P.2.2.1 m)), .long (lN (P.2.2.2 m))] ∧ m < 6 ∧ XPl m n P h ∧ ∀ h', XPl (m + 1) n P h' → zq_fr [22, 23, 24, 25] h h' → Q none h'
theorem ok_addMem : zq_M yX4_addMember cX4_addMember 6 none 0 0 sp_addMem := by
  refine mX4_addMember (fun args h Q hs => ?_)
  obtain ⟨m, n, P, rfl, hm, hP, k⟩ := hs
  obtain ⟨e6, e7, ew⟩ := hP
  refine ⟨Nat.le_of_ble_eq_true rfl, ?_⟩
  have c6 : ((6 : Int32) ≤ nI m) = False := by rw [show (6 : Int32) = nI 6 from rfl, nI_leP (by decide) (by omega)]; exact eq_false (by omega)
  have v6 : vp_in (nI m) 6 = True := eq_true (vp_in_nI hm (by decide))
  simp only [xX4_addMember_0, xX4_addMember_9, xX4_addMember_50, e6, c6, v6, nI_clamp (show m < 2 ^ 31 by omega), zq_sI, zq_sL1, zq_sI2, Nat.reduceEqDiff, nI_1, not_true_eq_false, not_false_eq_true, forall_const, true_and, and_true, false_and, and_false, if_true, if_false, reduceIte, implies_true, and_self, ite_self, true_or, or_true, false_or, or_false, true_implies, false_implies, Classical.not_not, false_imp_iff, not_false_iff, zi_push, zi_iload, zi_lload, zi_aload, zi_istore, zi_astore, zi_lstore, zi_iinc, zi_i2, zi_i1, zi_idv, zi_l2, zi_ldv, zi_lsh, zi_i2l, zi_l2i, zi_lcmp, zi_dup, zi_dup2, zi_pop, zi_if1, zi_if2, zi_getI, zi_getL, zi_getR, zi_putI, zi_putZ, zi_putL, zi_aldI, zi_aldL, zi_astI, zi_astZ, zi_astL, zi_alen, zi_iret, zi_zret, zi_lret, zi_vret, zi_callV, zi_callS, zi_sw, zi_copyI, zi_copyL, zi_m2, zi_m1, zi_sval, zi_scod, zi_fmt, zi_balen, zi_bald, zi_bret, zi_callT, zq_nth, zq_put1, zq_put2, zq_clr, zq_nl, zq_tk, zq_ps, zq_sw, zq_l0, zq_a, zq_a1, List.length_cons, List.length_nil, List.nil_append, List.cons_append, List.append_nil, List.replicate, Nat.reduceAdd, Nat.reduceSub, Nat.reduceLeDiff, true_and, and_true, List.append_eq, List.cons.injEq, Value.int.injEq, Value.long.injEq, Value.ref.injEq, exists_and_left, exists_eq_left', and_assoc, zc_b, zc_0, zc_1, zc_10, zc_01, lg_cmp_ge, lg_cmp_le, lg_cmp_gt, lg_cmp_lt, lg_cmp_eq, zw_le, zw_lt, reduceIte, true_or, or_true, zw_g0, zw_l0, zw_g1, zw_l1, zw_g2, zw_l2, zw_g3, zw_l3, zw_g5, zw_l5, zw_g6, zw_l6, zw_g7, zw_l7, zw_g9, zw_l9, zw_g10, zw_l10, zw_g15, zw_l15, zw_g16, zw_l16, zw_g48, zw_l48, zw_g50, zw_l50, zw_g57, zw_l57, zw_g97, zw_l97, zw_g100, zw_l100, zw_g200, zw_l200, zw_g999, zw_l999, zw_g9999, zw_l9999]
  refine k _ ⟨by simp [zq_sI], by simpa [zq_sI, zq_sL1] using e7, fun i hi => ?_⟩ (zq_fr_I (zq_fr_L (zq_fr_L (zq_fr_I zq_fr_rf (by decide)) (by decide)) (by decide)) (by decide))
  by_cases q : i = m
  · subst q
    exact ⟨by simp [zq_sI, zq_sL1], by simp [zq_sI2, zq_sL], by simp [zq_sI2, zq_sL]⟩
  · have := ew i (by omega)
    exact ⟨by simpa [zq_sI, zq_sL1, q] using this.1, by simpa [zq_sI2, zq_sL, q] using this.2.1, by simpa [zq_sI2, zq_sL, q] using this.2.2⟩
def XPr (V : zV) (P : zPl) (k : Nat) (h : zq_H) : Prop := ∀ i s, i < k → s ≤ vn V → h.1 26 (17 * i + s) = nI (zPf V P i s)
def XPm (V : zV) (P : zPl) (k : Nat) (h : zq_H) : Prop := ∀ mask, mask < k → h.1 27 mask = nI (zPL V P mask)
def sp_spread : zq_Sp := fun args h Q => ∃ V P, args = [.ref 22, .ref 9] ∧ zPd V P ∧ XC V h ∧ XPl P.1 (vn V) P h ∧ ∀ h', XPl P.1 (vn V) P h' → XPr V P P.1 h' → XPm V P (2 ^ P.1) h' → zq_fr [26, 27] h h' → Q none h'
def zspk (V : zV) (P : zPl) (Q : zq_Q) (h0 h : zq_H) : Prop := zPd V P ∧ XC V h0 ∧ XPl P.1 (vn V) P h0 ∧ zq_fr [26, 27] h0 h ∧ ∀ h', XPl P.1 (vn V) P h' → XPr V P P.1 h' → XPm V P (2 ^ P.1) h' → zq_fr [26, 27] h0 h' → Q none h'
abbrev zspT : Type := zq_H × zV × zPl × Nat × Nat
def I_sp2 (Q : zq_Q) (z : zspT) : zq_P := fun ls st h => match z with
  | (h0, V, P, i, _) => ∃ s3 s4, ls = [some (.ref 22), some (.ref 9), some (.int (nI i)), s3, s4] ∧ st = [] ∧ i ≤ P.1 ∧ XPr V P i h ∧ zspk V P Q h0 h
def I_sp12 (Q : zq_Q) (z : zspT) : zq_P := fun ls st h => match z with
  | (h0, V, P, i, s) => ∃ s4, ls = [some (.ref 22), some (.ref 9), some (.int (nI i)), some (.int (nI s)), s4] ∧ st = [] ∧ (i < P.1 ∧ s ≤ vn V + 1) ∧ XPr V P i h ∧ (∀ u, u < s → h.1 26 (17 * i + u) = nI (zPf V P i u)) ∧ zspk V P Q h0 h
def I_sp59 (Q : zq_Q) (z : zspT) : zq_P := fun ls st h => match z with
  | (h0, V, P, k, _) => ∃ s3 s4, ls = [some (.ref 22), some (.ref 9), some (.int (nI k)), s3, s4] ∧ st = [] ∧ (1 ≤ k ∧ k ≤ 2 ^ P.1) ∧ XPr V P P.1 h ∧ XPm V P k h ∧ zspk V P Q h0 h
def zPg (V : zV) (P : zPl) (k i : Nat) : Nat := if k.testBit i then zPR V P i (zPL V P (zrm k i)) else 17
def I_sp75 (Q : zq_Q) (z : zspT) : zq_P := fun ls st h => match z with
  | (h0, V, P, k, t) => ls = [some (.ref 22), some (.ref 9), some (.int (nI k)), some (.int (nI (zmn (zPg V P k) t))), some (.int (nI t))] ∧ st = [] ∧ (1 ≤ k ∧ k < 2 ^ P.1 ∧ t ≤ P.1) ∧ XPr V P P.1 h ∧ XPm V P k h ∧ zspk V P Q h0 h
theorem zPL_17 {V : zV} {P : zPl} (h : zPd V P) (k : Nat) : zPL V P k ≤ 17 := zoL_17 (zPR_ok h) _ _ _ (Nat.zero_le _)
theorem zPL_s {V : zV} {P : zPl} {k : Nat} (h1 : 1 ≤ k) (h6 : k < 64) (hd : zPd V P) : zPL V P k = zmn (zPg V P k) P.1 := by
  have hp := hd.1
  obtain ⟨b, hb⟩ : ∃ b, zbc k = b + 1 := by
    cases e : zbc k with
    | zero => exact absurd ((zbc_0 k h6).mp e) (by omega)
    | succ b => exact ⟨b, rfl⟩
  unfold zPL
  rw [hb, zoL]
  refine zmn_ext _ (fun i hi => ?_)
  unfold zPg
  by_cases c : k.testBit i = true
  · have := (zrm_b k h6 i (by omega) c).2.1
    rw [if_pos c, if_pos c]
    unfold zPL
    rw [show zbc (zrm k i) = b by omega]
  · rw [if_neg c, if_neg c]
theorem ok_spread : zq_M yX4_spread cX4_spread 5 none 0 2 sp_spread := by
  refine mX4_spread ok_short (by decide) ok_reached (by decide) (by decide) (fun z => 10000 + (10 - z.2.2.2.1) * 100) I_sp2 (fun z => 10000 + (10 - z.2.2.2.1) * 100 - 1 - z.2.2.2.2) I_sp12 (fun z => (65 - z.2.2.2.1) * 20) I_sp59 (fun z => (65 - z.2.2.2.1) * 20 - 1 - z.2.2.2.2) I_sp75 (fun args h Q hs => ?_) (fun Q z ls st h hi => ?_) (fun Q z ls st h hi => ?_) (fun Q z ls st h hi => ?_) (fun Q z ls st h hi => ?_)
  · obtain ⟨V, P, rfl, hd, hX, hP, k⟩ := hs
    refine ⟨Nat.le_of_ble_eq_true rfl, ?_⟩
    simp only [xX4_spread_0, zi_push, zi_iload, zi_lload, zi_aload, zi_istore, zi_astore, zi_lstore, zi_iinc, zi_i2, zi_i1, zi_idv, zi_l2, zi_ldv, zi_lsh, zi_i2l, zi_l2i, zi_lcmp, zi_dup, zi_dup2, zi_pop, zi_if1, zi_if2, zi_getI, zi_getL, zi_getR, zi_putI, zi_putZ, zi_putL, zi_aldI, zi_aldL, zi_astI, zi_astZ, zi_astL, zi_alen, zi_iret, zi_zret, zi_lret, zi_vret, zi_callV, zi_callS, zi_sw, zi_copyI, zi_copyL, zi_m2, zi_m1, zi_sval, zi_scod, zi_fmt, zi_balen, zi_bald, zi_bret, zi_callT, zq_nth, zq_put1, zq_put2, zq_clr, zq_nl, zq_tk, zq_ps, zq_sw, zq_l0, zq_a, zq_a1, List.length_cons, List.length_nil, List.nil_append, List.cons_append, List.append_nil, List.replicate, Nat.reduceAdd, Nat.reduceSub, Nat.reduceLeDiff, true_and, and_true, List.append_eq, List.cons.injEq, Value.int.injEq, Value.long.injEq, Value.ref.injEq, exists_and_left, exists_eq_left', and_assoc, zc_b, zc_0, zc_1, zc_10, zc_01, lg_cmp_ge, lg_cmp_le, lg_cmp_gt, lg_cmp_lt, lg_cmp_eq, zw_le, zw_lt, reduceIte, true_or, or_true, zw_g0, zw_l0, zw_g1, zw_l1, zw_g2, zw_l2, zw_g3, zw_l3, zw_g5, zw_l5, zw_g6, zw_l6, zw_g7, zw_l7, zw_g9, zw_l9, zw_g10, zw_l10, zw_g15, zw_l15, zw_g16, zw_l16, zw_g48, zw_l48, zw_g50, zw_l50, zw_g57, zw_l57, zw_g97, zw_l97, zw_g100, zw_l100, zw_g200, zw_l200, zw_g999, zw_l999, zw_g9999, zw_l9999]
    exact ⟨(h, V, P, 0, 0), none, none, rfl, rfl, Nat.zero_le _, fun i s hi => absurd hi (Nat.not_lt_zero _), hd, hX, hP, zq_fr_rf, k⟩
  · obtain ⟨h0, V, P, i, i9⟩ := z
    obtain ⟨s3, s4, rfl, rfl, hi, hr, hd, hX, hP, hf, k⟩ := hi
    have hd9 := hd.1
    have hP1 := XPl_fr hP hf (by decide)
    simp only [xX4_spread_2, xX4_spread_10, xX4_spread_50, hP1.1, zl_ge hi (show P.1 < 2 ^ 31 by omega), zi_push, zi_iload, zi_lload, zi_aload, zi_istore, zi_astore, zi_lstore, zi_iinc, zi_i2, zi_i1, zi_idv, zi_l2, zi_ldv, zi_lsh, zi_i2l, zi_l2i, zi_lcmp, zi_dup, zi_dup2, zi_pop, zi_if1, zi_if2, zi_getI, zi_getL, zi_getR, zi_putI, zi_putZ, zi_putL, zi_aldI, zi_aldL, zi_astI, zi_astZ, zi_astL, zi_alen, zi_iret, zi_zret, zi_lret, zi_vret, zi_callV, zi_callS, zi_sw, zi_copyI, zi_copyL, zi_m2, zi_m1, zi_sval, zi_scod, zi_fmt, zi_balen, zi_bald, zi_bret, zi_callT, zq_nth, zq_put1, zq_put2, zq_clr, zq_nl, zq_tk, zq_ps, zq_sw, zq_l0, zq_a, zq_a1, List.length_cons, List.length_nil, List.nil_append, List.cons_append, List.append_nil, List.replicate, Nat.reduceAdd, Nat.reduceSub, Nat.reduceLeDiff, true_and, and_true, List.append_eq, List.cons.injEq, Value.int.injEq, Value.long.injEq, Value.ref.injEq, exists_and_left, exists_eq_left', and_assoc, zc_b, zc_0, zc_1, zc_10, zc_01, lg_cmp_ge, lg_cmp_le, lg_cmp_gt, lg_cmp_lt, lg_cmp_eq, zw_le, zw_lt, reduceIte, true_or, or_true, zw_g0, zw_l0, zw_g1, zw_l1, zw_g2, zw_l2, zw_g3, zw_l3, zw_g5, zw_l5, zw_g6, zw_l6, zw_g7, zw_l7, zw_g9, zw_l9, zw_g10, zw_l10, zw_g15, zw_l15, zw_g16, zw_l16, zw_g48, zw_l48, zw_g50, zw_l50, zw_g57, zw_l57, zw_g97, zw_l97, zw_g100, zw_l100, zw_g200, zw_l200, zw_g999, zw_l999, zw_g9999, zw_l9999]
    refine ⟨fun q => ⟨vp_in_nI (n := 0) (by decide) (by decide), ?_⟩, fun q => ?_⟩
    · subst q
      refine ⟨(h0, V, P, 1, 0), by dsimp only; omega, s3, s4, rfl, rfl, ⟨Nat.le_refl _, Nat.one_le_two_pow⟩, fun i s hi hs => by simpa [zq_sI] using hr i s hi hs, fun mask hm => ?_, hd, hX, hP, zq_fr_I hf (by decide), k⟩
      obtain rfl : mask = 0 := by omega
      simp [zq_sI]
      rfl
    · exact ⟨(h0, V, P, i, 0), by dsimp only; omega, s4, rfl, rfl, ⟨by omega, Nat.zero_le _⟩, hr, fun u hu => absurd hu (Nat.not_lt_zero _), hd, hX, hP, hf, k⟩
  · obtain ⟨h0, V, P, i, s⟩ := z
    obtain ⟨s4, rfl, rfl, ⟨hi, hs⟩, hr, hu, hd, hX, hP, hf, k⟩ := hi
    have hd9 := hd
    obtain ⟨d1, d2, d3⟩ := hd9
    have hP1 := XPl_fr hP hf (by decide)
    have hX1 := XC_fr hX hf (by decide)
    have c1 : (nI (vn V) < nI s) = (vn V < s) := nI_ltP (by omega) (by omega)
    simp only [xX4_spread_12, xX4_spread_20, xX4_spread_44, hP1.2.1, c1, nI_1, zi_push, zi_iload, zi_lload, zi_aload, zi_istore, zi_astore, zi_lstore, zi_iinc, zi_i2, zi_i1, zi_idv, zi_l2, zi_ldv, zi_lsh, zi_i2l, zi_l2i, zi_lcmp, zi_dup, zi_dup2, zi_pop, zi_if1, zi_if2, zi_getI, zi_getL, zi_getR, zi_putI, zi_putZ, zi_putL, zi_aldI, zi_aldL, zi_astI, zi_astZ, zi_astL, zi_alen, zi_iret, zi_zret, zi_lret, zi_vret, zi_callV, zi_callS, zi_sw, zi_copyI, zi_copyL, zi_m2, zi_m1, zi_sval, zi_scod, zi_fmt, zi_balen, zi_bald, zi_bret, zi_callT, zq_nth, zq_put1, zq_put2, zq_clr, zq_nl, zq_tk, zq_ps, zq_sw, zq_l0, zq_a, zq_a1, List.length_cons, List.length_nil, List.nil_append, List.cons_append, List.append_nil, List.replicate, Nat.reduceAdd, Nat.reduceSub, Nat.reduceLeDiff, true_and, and_true, List.append_eq, List.cons.injEq, Value.int.injEq, Value.long.injEq, Value.ref.injEq, exists_and_left, exists_eq_left', and_assoc, zc_b, zc_0, zc_1, zc_10, zc_01, lg_cmp_ge, lg_cmp_le, lg_cmp_gt, lg_cmp_lt, lg_cmp_eq, zw_le, zw_lt, reduceIte, true_or, or_true, zw_g0, zw_l0, zw_g1, zw_l1, zw_g2, zw_l2, zw_g3, zw_l3, zw_g5, zw_l5, zw_g6, zw_l6, zw_g7, zw_l7, zw_g9, zw_l9, zw_g10, zw_l10, zw_g15, zw_l15, zw_g16, zw_l16, zw_g48, zw_l48, zw_g50, zw_l50, zw_g57, zw_l57, zw_g97, zw_l97, zw_g100, zw_l100, zw_g200, zw_l200, zw_g999, zw_l999, zw_g9999, zw_l9999]
    refine ⟨fun q => ?_, fun q => ⟨V, i, P.2.1 i, P.2.2.1 i, P.2.2.2 i, s, rfl, ⟨by omega, (d3 i hi).1, by omega⟩, (d3 i hi).2, (hP1.2.2 i hi).1, (hP1.2.2 i hi).2.1, (hP1.2.2 i hi).2.2, hX1, hP1.2.1, ?_⟩⟩
    · refine ⟨(h0, V, P, i + 1, 0), by dsimp only; omega, _, _, rfl, rfl, by omega, fun i2 s2 hi2 hs2 => ?_, hd, hX, hP, hf, k⟩
      by_cases q2 : i2 = i
      · subst q2
        exact hu s2 (by omega)
      · exact hr i2 s2 (by omega) hs2
    · simp only [z17c, nI_clamp (show 17 * i + s < 2 ^ 31 by omega), zi_push, zi_iload, zi_lload, zi_aload, zi_istore, zi_astore, zi_lstore, zi_iinc, zi_i2, zi_i1, zi_idv, zi_l2, zi_ldv, zi_lsh, zi_i2l, zi_l2i, zi_lcmp, zi_dup, zi_dup2, zi_pop, zi_if1, zi_if2, zi_getI, zi_getL, zi_getR, zi_putI, zi_putZ, zi_putL, zi_aldI, zi_aldL, zi_astI, zi_astZ, zi_astL, zi_alen, zi_iret, zi_zret, zi_lret, zi_vret, zi_callV, zi_callS, zi_sw, zi_copyI, zi_copyL, zi_m2, zi_m1, zi_sval, zi_scod, zi_fmt, zi_balen, zi_bald, zi_bret, zi_callT, zq_nth, zq_put1, zq_put2, zq_clr, zq_nl, zq_tk, zq_ps, zq_sw, zq_l0, zq_a, zq_a1, List.length_cons, List.length_nil, List.nil_append, List.cons_append, List.append_nil, List.replicate, Nat.reduceAdd, Nat.reduceSub, Nat.reduceLeDiff, true_and, and_true, List.append_eq, List.cons.injEq, Value.int.injEq, Value.long.injEq, Value.ref.injEq, exists_and_left, exists_eq_left', and_assoc, zc_b, zc_0, zc_1, zc_10, zc_01, lg_cmp_ge, lg_cmp_le, lg_cmp_gt, lg_cmp_lt, lg_cmp_eq, zw_le, zw_lt, reduceIte, true_or, or_true, zw_g0, zw_l0, zw_g1, zw_l1, zw_g2, zw_l2, zw_g3, zw_l3, zw_g5, zw_l5, zw_g6, zw_l6, zw_g7, zw_l7, zw_g9, zw_l9, zw_g10, zw_l10, zw_g15, zw_l15, zw_g16, zw_l16, zw_g48, zw_l48, zw_g50, zw_l50, zw_g57, zw_l57, zw_g97, zw_l97, zw_g100, zw_l100, zw_g200, zw_l200, zw_g999, zw_l999, zw_g9999, zw_l9999]
      refine ⟨vp_in_nI (by omega) (by decide), (h0, V, P, i, s + 1), by dsimp only; omega, s4, rfl, rfl, ⟨hi, by omega⟩, fun i2 s2 hi2 hs2 => ?_, fun u hu2 => ?_, hd, hX, hP, zq_fr_I hf (by decide), k⟩
      · rw [zq_sI, if_neg (by omega)]
        exact hr i2 s2 hi2 hs2
      · rw [zq_sI]
        by_cases q2 : u = s
        · subst q2
          rw [if_pos ⟨rfl, rfl⟩]
          rfl
        · rw [if_neg (by omega)]
          exact hu u (by omega)
  · obtain ⟨h0, V, P, k9, t9⟩ := z
    obtain ⟨s3, s4, rfl, rfl, ⟨hk1, hk2⟩, hr, hm, hd, hX, hP, hf, k⟩ := hi
    have hd9 := hd.1
    have hp2 := (zp2 P.1 hd9).2
    have hP1 := XPl_fr hP hf (by decide)
    simp only [xX4_spread_59, xX4_spread_69, xX4_spread_136, hP1.1, hp2.1, zl_ge hk2 (show 2 ^ P.1 < 2 ^ 31 by omega), zi_push, zi_iload, zi_lload, zi_aload, zi_istore, zi_astore, zi_lstore, zi_iinc, zi_i2, zi_i1, zi_idv, zi_l2, zi_ldv, zi_lsh, zi_i2l, zi_l2i, zi_lcmp, zi_dup, zi_dup2, zi_pop, zi_if1, zi_if2, zi_getI, zi_getL, zi_getR, zi_putI, zi_putZ, zi_putL, zi_aldI, zi_aldL, zi_astI, zi_astZ, zi_astL, zi_alen, zi_iret, zi_zret, zi_lret, zi_vret, zi_callV, zi_callS, zi_sw, zi_copyI, zi_copyL, zi_m2, zi_m1, zi_sval, zi_scod, zi_fmt, zi_balen, zi_bald, zi_bret, zi_callT, zq_nth, zq_put1, zq_put2, zq_clr, zq_nl, zq_tk, zq_ps, zq_sw, zq_l0, zq_a, zq_a1, List.length_cons, List.length_nil, List.nil_append, List.cons_append, List.append_nil, List.replicate, Nat.reduceAdd, Nat.reduceSub, Nat.reduceLeDiff, true_and, and_true, List.append_eq, List.cons.injEq, Value.int.injEq, Value.long.injEq, Value.ref.injEq, exists_and_left, exists_eq_left', and_assoc, zc_b, zc_0, zc_1, zc_10, zc_01, lg_cmp_ge, lg_cmp_le, lg_cmp_gt, lg_cmp_lt, lg_cmp_eq, zw_le, zw_lt, reduceIte, true_or, or_true, zw_g0, zw_l0, zw_g1, zw_l1, zw_g2, zw_l2, zw_g3, zw_l3, zw_g5, zw_l5, zw_g6, zw_l6, zw_g7, zw_l7, zw_g9, zw_l9, zw_g10, zw_l10, zw_g15, zw_l15, zw_g16, zw_l16, zw_g48, zw_l48, zw_g50, zw_l50, zw_g57, zw_l57, zw_g97, zw_l97, zw_g100, zw_l100, zw_g200, zw_l200, zw_g999, zw_l999, zw_g9999, zw_l9999]
    refine ⟨fun q => ?_, fun q => ?_⟩
    · subst q
      exact k h hP1 hr hm hf
    · exact ⟨(h0, V, P, k9, 0), by dsimp only; omega, rfl, rfl, ⟨hk1, by omega, Nat.zero_le _⟩, hr, hm, hd, hX, hP, hf, k⟩
  · obtain ⟨h0, V, P, k9, t⟩ := z
    obtain ⟨rfl, rfl, ⟨hk1, hk2, ht⟩, hr, hm, hd, hX, hP, hf, k⟩ := hi
    have hd9 := hd.1
    have hd8 := hd.2.1
    have hp2 := (zp2 P.1 hd9).2
    have hP1 := XPl_fr hP hf (by decide)
    simp only [xX4_spread_75, xX4_spread_84, xX4_spread_123, hP1.1, zl_ge ht (show P.1 < 2 ^ 31 by omega), nI_1, nI_clamp (show k9 < 2 ^ 31 by omega), zi_push, zi_iload, zi_lload, zi_aload, zi_istore, zi_astore, zi_lstore, zi_iinc, zi_i2, zi_i1, zi_idv, zi_l2, zi_ldv, zi_lsh, zi_i2l, zi_l2i, zi_lcmp, zi_dup, zi_dup2, zi_pop, zi_if1, zi_if2, zi_getI, zi_getL, zi_getR, zi_putI, zi_putZ, zi_putL, zi_aldI, zi_aldL, zi_astI, zi_astZ, zi_astL, zi_alen, zi_iret, zi_zret, zi_lret, zi_vret, zi_callV, zi_callS, zi_sw, zi_copyI, zi_copyL, zi_m2, zi_m1, zi_sval, zi_scod, zi_fmt, zi_balen, zi_bald, zi_bret, zi_callT, zq_nth, zq_put1, zq_put2, zq_clr, zq_nl, zq_tk, zq_ps, zq_sw, zq_l0, zq_a, zq_a1, List.length_cons, List.length_nil, List.nil_append, List.cons_append, List.append_nil, List.replicate, Nat.reduceAdd, Nat.reduceSub, Nat.reduceLeDiff, true_and, and_true, List.append_eq, List.cons.injEq, Value.int.injEq, Value.long.injEq, Value.ref.injEq, exists_and_left, exists_eq_left', and_assoc, zc_b, zc_0, zc_1, zc_10, zc_01, lg_cmp_ge, lg_cmp_le, lg_cmp_gt, lg_cmp_lt, lg_cmp_eq, zw_le, zw_lt, reduceIte, true_or, or_true, zw_g0, zw_l0, zw_g1, zw_l1, zw_g2, zw_l2, zw_g3, zw_l3, zw_g5, zw_l5, zw_g6, zw_l6, zw_g7, zw_l7, zw_g9, zw_l9, zw_g10, zw_l10, zw_g15, zw_l15, zw_g16, zw_l16, zw_g48, zw_l48, zw_g50, zw_l50, zw_g57, zw_l57, zw_g97, zw_l97, zw_g100, zw_l100, zw_g200, zw_l200, zw_g999, zw_l999, zw_g9999, zw_l9999]
    refine ⟨fun q => ?_, fun q => ?_⟩
    · subst q
      refine ⟨vp_in_nI (by omega) (by decide), (h0, V, P, k9 + 1, 0), by dsimp only; omega, _, _, rfl, rfl, ⟨by omega, by omega⟩, fun i s hi hs => by simpa [zq_sI] using hr i s hi hs, fun mask hm2 => ?_, hd, hX, hP, zq_fr_I hf (by decide), k⟩
      rw [zq_sI]
      by_cases q2 : mask = k9
      · subst q2
        rw [if_pos ⟨rfl, rfl⟩, zPL_s hk1 (by omega) hd]
      · rw [if_neg (by omega)]
        exact hm mask (by omega)
    · rw [zbitP (by omega) (by omega)]
      simp only [xX4_spread_117, xX4_spread_93, nI_1, zi_push, zi_iload, zi_lload, zi_aload, zi_istore, zi_astore, zi_lstore, zi_iinc, zi_i2, zi_i1, zi_idv, zi_l2, zi_ldv, zi_lsh, zi_i2l, zi_l2i, zi_lcmp, zi_dup, zi_dup2, zi_pop, zi_if1, zi_if2, zi_getI, zi_getL, zi_getR, zi_putI, zi_putZ, zi_putL, zi_aldI, zi_aldL, zi_astI, zi_astZ, zi_astL, zi_alen, zi_iret, zi_zret, zi_lret, zi_vret, zi_callV, zi_callS, zi_sw, zi_copyI, zi_copyL, zi_m2, zi_m1, zi_sval, zi_scod, zi_fmt, zi_balen, zi_bald, zi_bret, zi_callT, zq_nth, zq_put1, zq_put2, zq_clr, zq_nl, zq_tk, zq_ps, zq_sw, zq_l0, zq_a, zq_a1, List.length_cons, List.length_nil, List.nil_append, List.cons_append, List.append_nil, List.replicate, Nat.reduceAdd, Nat.reduceSub, Nat.reduceLeDiff, true_and, and_true, List.append_eq, List.cons.injEq, Value.int.injEq, Value.long.injEq, Value.ref.injEq, exists_and_left, exists_eq_left', and_assoc, zc_b, zc_0, zc_1, zc_10, zc_01, lg_cmp_ge, lg_cmp_le, lg_cmp_gt, lg_cmp_lt, lg_cmp_eq, zw_le, zw_lt, reduceIte, true_or, or_true, zw_g0, zw_l0, zw_g1, zw_l1, zw_g2, zw_l2, zw_g3, zw_l3, zw_g5, zw_l5, zw_g6, zw_l6, zw_g7, zw_l7, zw_g9, zw_l9, zw_g10, zw_l10, zw_g15, zw_l15, zw_g16, zw_l16, zw_g48, zw_l48, zw_g50, zw_l50, zw_g57, zw_l57, zw_g97, zw_l97, zw_g100, zw_l100, zw_g200, zw_l200, zw_g999, zw_l999, zw_g9999, zw_l9999]
      refine ⟨fun q2 => ?_, fun q2 => ?_⟩
      · refine ⟨(h0, V, P, k9, t + 1), by dsimp only; omega, ?_, rfl, ⟨hk1, hk2, by omega⟩, hr, hm, hd, hX, hP, hf, k⟩
        rw [zmn]
        unfold zPg
        rw [q2, if_neg (by decide), Nat.min_eq_left (zmn_17 _ _)]
      · have hb : k9.testBit t = true := by simpa using q2
        have hz := zrm_b k9 (by omega) t (by omega) hb
        have l17 := zPL_17 hd (zrm k9 t)
        have em := hm (zrm k9 t) hz.1
        rw [zrm_I k9 (by omega) t (by omega) hb, nI_clamp (show zrm k9 t < 2 ^ 31 by omega), em]
        refine ⟨vp_in_nI (by omega) (by decide), vn V, zPf V P, t, zPL V P (zrm k9 t), rfl, ⟨by omega, l17, hd8⟩, hP1.2.1, fun u hu => hr t u (by omega) hu, ?_⟩
        have l2 : zrch (vn V) (zPf V P) t (zPL V P (zrm k9 t)) ≤ 17 := zoR_17 (zPR_ok hd) (show t < P.1 by omega) l17
        have l3 := zmn_17 (zPg V P k9) t
        simp only [zminN (show zmn (zPg V P k9) t < 2 ^ 31 by omega) (show zrch (vn V) (zPf V P) t (zPL V P (zrm k9 t)) < 2 ^ 31 by omega), zi_push, zi_iload, zi_lload, zi_aload, zi_istore, zi_astore, zi_lstore, zi_iinc, zi_i2, zi_i1, zi_idv, zi_l2, zi_ldv, zi_lsh, zi_i2l, zi_l2i, zi_lcmp, zi_dup, zi_dup2, zi_pop, zi_if1, zi_if2, zi_getI, zi_getL, zi_getR, zi_putI, zi_putZ, zi_putL, zi_aldI, zi_aldL, zi_astI, zi_astZ, zi_astL, zi_alen, zi_iret, zi_zret, zi_lret, zi_vret, zi_callV, zi_callS, zi_sw, zi_copyI, zi_copyL, zi_m2, zi_m1, zi_sval, zi_scod, zi_fmt, zi_balen, zi_bald, zi_bret, zi_callT, zq_nth, zq_put1, zq_put2, zq_clr, zq_nl, zq_tk, zq_ps, zq_sw, zq_l0, zq_a, zq_a1, List.length_cons, List.length_nil, List.nil_append, List.cons_append, List.append_nil, List.replicate, Nat.reduceAdd, Nat.reduceSub, Nat.reduceLeDiff, true_and, and_true, List.append_eq, List.cons.injEq, Value.int.injEq, Value.long.injEq, Value.ref.injEq, exists_and_left, exists_eq_left', and_assoc, zc_b, zc_0, zc_1, zc_10, zc_01, lg_cmp_ge, lg_cmp_le, lg_cmp_gt, lg_cmp_lt, lg_cmp_eq, zw_le, zw_lt, reduceIte, true_or, or_true, zw_g0, zw_l0, zw_g1, zw_l1, zw_g2, zw_l2, zw_g3, zw_l3, zw_g5, zw_l5, zw_g6, zw_l6, zw_g7, zw_l7, zw_g9, zw_l9, zw_g10, zw_l10, zw_g15, zw_l15, zw_g16, zw_l16, zw_g48, zw_l48, zw_g50, zw_l50, zw_g57, zw_l57, zw_g97, zw_l97, zw_g100, zw_l100, zw_g200, zw_l200, zw_g999, zw_l999, zw_g9999, zw_l9999]
        refine ⟨(h0, V, P, k9, t + 1), by dsimp only; omega, ?_, rfl, ⟨hk1, hk2, by omega⟩, hr, hm, hd, hX, hP, hf, k⟩
        rw [zmn, show zPg V P k9 t = zrch (vn V) (zPf V P) t (zPL V P (zrm k9 t)) by unfold zPg; rw [if_pos hb]; rfl]
