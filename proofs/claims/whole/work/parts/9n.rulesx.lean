/-! ===== the class reads a rule ===== -/
def zq_fx (fs ps : List Nat) (h h' : zq_H) : Prop := (∀ p, p ≠ 52 → p ∉ ps → h'.1 p = h.1 p ∧ h'.2 p = h.2 p) ∧ ∀ j, j ∉ fs → h'.1 52 j = h.1 52 j
theorem zfx_rf {fs ps : List Nat} {h : zq_H} : zq_fx fs ps h h := ⟨fun _ _ _ => ⟨rfl, rfl⟩, fun _ _ => rfl⟩
theorem zfx_I {fs ps : List Nat} {h h1 : zq_H} (k : zq_fx fs ps h h1) {p j : Nat} {x : Int32} (hp : p ∈ ps ∧ p ≠ 52) : zq_fx fs ps h (zq_setI h1 p j x) := by
  refine ⟨fun q h52 hq => ?_, fun i hi => ?_⟩
  · obtain ⟨a, b⟩ := k.1 q h52 hq
    refine ⟨?_, b⟩
    rw [← a]
    funext i
    simp only [zq_sI]
    rw [if_neg]
    rintro ⟨rfl, -⟩
    exact hq hp.1
  · rw [← k.2 i hi, zq_sI, if_neg]
    rintro ⟨q, -⟩
    exact hp.2 q.symm
theorem zfx_F {fs ps : List Nat} {h h1 : zq_H} (k : zq_fx fs ps h h1) {j : Nat} {x : Int32} (hj : j ∈ fs) : zq_fx fs ps h (zq_setI h1 52 j x) := by
  refine ⟨fun q h52 hq => ?_, fun i hi => ?_⟩
  · obtain ⟨a, b⟩ := k.1 q h52 hq
    refine ⟨?_, b⟩
    rw [← a]
    funext i
    simp only [zq_sI]
    rw [if_neg]
    rintro ⟨q9, -⟩
    exact h52 q9
  · rw [← k.2 i hi, zq_sI, if_neg]
    rintro ⟨-, rfl⟩
    exact hi hj
theorem zfx_t {fs ps fs1 ps1 : List Nat} {h h1 h2 : zq_H} (k : zq_fx fs ps h h1) (l : zq_fx fs1 ps1 h1 h2) (m : (∀ p ∈ ps1, p ∈ ps) ∧ ∀ j ∈ fs1, j ∈ fs) : zq_fx fs ps h h2 :=
  ⟨fun p h52 hp => ⟨(l.1 p h52 (fun q => hp (m.1 p q))).1.trans (k.1 p h52 hp).1, (l.1 p h52 (fun q => hp (m.1 p q))).2.trans (k.1 p h52 hp).2⟩, fun j hj => (l.2 j (fun q => hj (m.2 j q))).trans (k.2 j hj)⟩
theorem zfx_fr {fs ps : List Nat} {h h' : zq_H} (f : zq_fr ps h h') (d : 52 ∉ ps) : zq_fx fs ps h h' := ⟨fun p _ hp => f p hp, fun j _ => by rw [(f 52 d).1]⟩
theorem zfr_fx {fs ps : List Nat} {h h' : zq_H} (f : zq_fx fs ps h h') : zq_fr (52 :: ps) h h' := fun p hp => f.1 p (fun q => hp (by rw [q]; exact List.mem_cons_self)) (fun q => hp (List.mem_cons_of_mem _ q))
def zfx5 : List Nat := [3, 4, 5, 6, 7]
/-- what waits, as a number -/
def zwX : Option zTk → Int32
  | none => 40
  | some (.inr (.inr (.inl k))) => nI (zas k)
  | some _ => 256
def zws : Option zTk → Nat
  | none => 0
  | some t => zstk t
def zwo (x : Option zTk) : Prop := x = none ∨ x = some tkL ∨ ∃ k, k < 7 ∧ x = some (tkA k)
def zwoW (W : List (Option zTk)) : Prop := ∀ x ∈ W, zwo x
theorem zstr_w {x : Option zTk} (h : zwo x) : zstr (zwX x) = nI (zws x) ∧ zws x ≤ 4 := by
  rcases h with rfl | rfl | ⟨k, hk, rfl⟩
  · exact ⟨rfl, by decide⟩
  · exact ⟨rfl, by decide⟩
  · have h : k = 0 ∨ k = 1 ∨ k = 2 ∨ k = 3 ∨ k = 4 ∨ k = 5 ∨ k = 6 := by omega
    rcases h with rfl | rfl | rfl | rfl | rfl | rfl | rfl <;> exact ⟨by decide, by decide⟩
theorem zwX_tk {t : zTk} (h : zwo (some t)) : (1000 : Int32) + zwX (some t) = tkX t := by
  rcases h with h | h | ⟨k, hk, h⟩
  · cases h
  · cases h
    decide
  · cases h
    exact nI_add 1000 (zas k)
def zoX (O : List zTk) (h : zq_H) : Prop := h.1 52 3 = nI O.length ∧ ∀ i x, O[i]? = some x → h.1 53 i = tkX x
def zhXS (W : List (Option zTk)) (h : zq_H) : Prop := h.1 52 4 = nI W.length ∧ ∀ i x, W[i]? = some x → h.1 54 (W.length - 1 - i) = zwX x
theorem zoX_fx {O : List zTk} {fs ps : List Nat} {h h' : zq_H} (k : zoX O h) (f : zq_fx fs ps h h') (d : 3 ∉ fs ∧ 53 ∉ ps) : zoX O h' := by
  unfold zoX at *
  rw [f.2 3 d.1, (f.1 53 (by decide) d.2).1]
  exact k
theorem zhX_fx {W : List (Option zTk)} {fs ps : List Nat} {h h' : zq_H} (k : zhXS W h) (f : zq_fx fs ps h h') (d : 4 ∉ fs ∧ 54 ∉ ps) : zhXS W h' := by
  unfold zhXS at *
  rw [f.2 4 d.1, (f.1 54 (by decide) d.2).1]
  exact k
theorem zhX_0 {h : zq_H} (e : h.1 52 4 = nI 0) : zhXS [] h := ⟨e, fun i x hx => by cases hx⟩
theorem zoX_0 {h : zq_H} (e : h.1 52 3 = nI 0) : zoX [] h := ⟨e, fun i x hx => by cases hx⟩
theorem zhX_tl {x : Option zTk} {W : List (Option zTk)} {h h' : zq_H} (k : zhXS (x :: W) h) (e4 : h'.1 52 4 = nI W.length) (e54 : h'.1 54 = h.1 54) : zhXS W h' := by
  refine ⟨e4, fun i y hy => ?_⟩
  have hi : i < W.length := by
    rcases Nat.lt_or_ge i W.length with z | z
    · exact z
    · rw [List.getElem?_eq_none z] at hy
      cases hy
  rw [e54]
  have := k.2 (i + 1) y hy
  rw [List.length_cons, show W.length + 1 - 1 - (i + 1) = W.length - 1 - i by omega] at this
  exact this
theorem zhX_hd {x : Option zTk} {W : List (Option zTk)} {h : zq_H} (k : zhXS (x :: W) h) : h.1 54 W.length = zwX x := by
  have := k.2 0 x rfl
  rw [List.length_cons, show W.length + 1 - 1 - 0 = W.length by omega] at this
  exact this
def sp_addsX : zq_Sp := fun args h Q => ∃ O t, args = [.ref 52, .int (tkX t)] ∧ O.length < 40 ∧ zoX O h ∧ ∀ h', zoX (O ++ [t]) h' → zq_fx [3] [53] h h' → Q none h'
theorem ok_addsX : zq_M yX6_addStep cX6_addStep 2 none 0 0 sp_addsX := by
  refine mX6_addStep (fun args h Q hs => ?_)
  obtain ⟨O, x, rfl, hl, ⟨e1, e2⟩, k⟩ := hs
  have e3 : nI O.length + 1 = nI (O.length + 1) := nI_1 _
  have c1 : (Int32.ofNat 40 ≤ nI O.length) = False := eq_false (by
    rw [show Int32.ofNat 40 = nI 40 from rfl, nI_leI (by omega) (by omega)]
    omega)
  refine ⟨Nat.le_of_ble_eq_true rfl, ?_⟩
  simp only [xX6_addStep_0, xX6_addStep_12, xX6_addStep_32, e1, c1, nI_clamp (show O.length < 2 ^ 31 by omega), not_true_eq_false, not_false_eq_true, forall_const, true_and, and_true, false_and, and_false, if_true, if_false, reduceIte, implies_true, and_self, ite_self, true_or, or_true, false_or, or_false, true_implies, false_implies, Classical.not_not, false_imp_iff, not_false_iff, zi_push, zi_iload, zi_lload, zi_aload, zi_istore, zi_astore, zi_lstore, zi_iinc, zi_i2, zi_i1, zi_idv, zi_l2, zi_ldv, zi_lsh, zi_i2l, zi_l2i, zi_lcmp, zi_dup, zi_dup2, zi_pop, zi_if1, zi_if2, zi_getI, zi_getL, zi_getR, zi_putI, zi_putZ, zi_putL, zi_aldI, zi_aldL, zi_astI, zi_astZ, zi_astL, zi_alen, zi_iret, zi_zret, zi_lret, zi_vret, zi_callV, zi_callS, zi_sw, zi_copyI, zi_copyL, zi_m2, zi_m1, zi_sval, zi_scod, zi_fmt, zi_balen, zi_bald, zi_bret, zi_callT, zq_nth, zq_put1, zq_put2, zq_clr, zq_nl, zq_tk, zq_ps, zq_sw, zq_l0, zq_a, zq_a1, List.length_cons, List.length_nil, List.nil_append, List.cons_append, List.append_nil, List.replicate, Nat.reduceAdd, Nat.reduceSub, Nat.reduceLeDiff, true_and, and_true, List.append_eq, List.cons.injEq, Value.int.injEq, Value.long.injEq, Value.ref.injEq, exists_and_left, exists_eq_left', and_assoc, zc_b, zc_0, zc_1, zc_10, zc_01, lg_cmp_ge, lg_cmp_le, lg_cmp_gt, lg_cmp_lt, lg_cmp_eq, zw_le, zw_lt, reduceIte, true_or, or_true, zw_g0, zw_l0, zw_g1, zw_l1, zw_g2, zw_l2, zw_g3, zw_l3, zw_g5, zw_l5, zw_g6, zw_l6, zw_g7, zw_l7, zw_g9, zw_l9, zw_g10, zw_l10, zw_g15, zw_l15, zw_g16, zw_l16, zw_g48, zw_l48, zw_g50, zw_l50, zw_g57, zw_l57, zw_g97, zw_l97, zw_g100, zw_l100, zw_g200, zw_l200, zw_g999, zw_l999, zw_g9999, zw_l9999]
  refine ⟨vp_in_nI (by omega) (by decide), k _ ⟨?_, fun i y hy => ?_⟩ (zfx_F (zfx_I zfx_rf (by decide)) (by decide))⟩
  · rw [List.length_append]
    simp [zq_sI, e1]
    exact e3
  · by_cases q : i < O.length
    · rw [List.getElem?_append_left q] at hy
      have := e2 i y hy
      simpa [zq_sI, show ¬ i = O.length by omega] using this
    · rw [List.getElem?_append_right (by omega)] at hy
      have q2 : i = O.length := by
        rcases Nat.eq_zero_or_pos (i - O.length) with z | z
        · omega
        · rw [List.getElem?_eq_none (by show 1 ≤ i - O.length; omega)] at hy
          cases hy
      subst q2
      rw [Nat.sub_self] at hy
      cases hy
      simp [zq_sI]
def sp_hld : zq_Sp := fun args h Q => ∃ W x, args = [.ref 52, .int (zwX x)] ∧ W.length < 40 ∧ zhXS W h ∧ ∀ h', zhXS (x :: W) h' → zq_fx [4] [54] h h' → Q none h'
theorem ok_hld : zq_M yX6_hold cX6_hold 2 none 0 0 sp_hld := by
  refine mX6_hold (fun args h Q hs => ?_)
  obtain ⟨W, x, rfl, hl, ⟨e1, e2⟩, k⟩ := hs
  have e3 : nI W.length + 1 = nI (W.length + 1) := nI_1 _
  have c1 : (Int32.ofNat 40 ≤ nI W.length) = False := eq_false (by
    rw [show Int32.ofNat 40 = nI 40 from rfl, nI_leI (by omega) (by omega)]
    omega)
  refine ⟨Nat.le_of_ble_eq_true rfl, ?_⟩
  simp only [xX6_hold_0, xX6_hold_12, xX6_hold_32, e1, c1, nI_clamp (show W.length < 2 ^ 31 by omega), not_true_eq_false, not_false_eq_true, forall_const, true_and, and_true, false_and, and_false, if_true, if_false, reduceIte, implies_true, and_self, ite_self, true_or, or_true, false_or, or_false, true_implies, false_implies, Classical.not_not, false_imp_iff, not_false_iff, zi_push, zi_iload, zi_lload, zi_aload, zi_istore, zi_astore, zi_lstore, zi_iinc, zi_i2, zi_i1, zi_idv, zi_l2, zi_ldv, zi_lsh, zi_i2l, zi_l2i, zi_lcmp, zi_dup, zi_dup2, zi_pop, zi_if1, zi_if2, zi_getI, zi_getL, zi_getR, zi_putI, zi_putZ, zi_putL, zi_aldI, zi_aldL, zi_astI, zi_astZ, zi_astL, zi_alen, zi_iret, zi_zret, zi_lret, zi_vret, zi_callV, zi_callS, zi_sw, zi_copyI, zi_copyL, zi_m2, zi_m1, zi_sval, zi_scod, zi_fmt, zi_balen, zi_bald, zi_bret, zi_callT, zq_nth, zq_put1, zq_put2, zq_clr, zq_nl, zq_tk, zq_ps, zq_sw, zq_l0, zq_a, zq_a1, List.length_cons, List.length_nil, List.nil_append, List.cons_append, List.append_nil, List.replicate, Nat.reduceAdd, Nat.reduceSub, Nat.reduceLeDiff, true_and, and_true, List.append_eq, List.cons.injEq, Value.int.injEq, Value.long.injEq, Value.ref.injEq, exists_and_left, exists_eq_left', and_assoc, zc_b, zc_0, zc_1, zc_10, zc_01, lg_cmp_ge, lg_cmp_le, lg_cmp_gt, lg_cmp_lt, lg_cmp_eq, zw_le, zw_lt, reduceIte, true_or, or_true, zw_g0, zw_l0, zw_g1, zw_l1, zw_g2, zw_l2, zw_g3, zw_l3, zw_g5, zw_l5, zw_g6, zw_l6, zw_g7, zw_l7, zw_g9, zw_l9, zw_g10, zw_l10, zw_g15, zw_l15, zw_g16, zw_l16, zw_g48, zw_l48, zw_g50, zw_l50, zw_g57, zw_l57, zw_g97, zw_l97, zw_g100, zw_l100, zw_g200, zw_l200, zw_g999, zw_l999, zw_g9999, zw_l9999]
  refine ⟨vp_in_nI (by omega) (by decide), k _ ⟨?_, fun i y hy => ?_⟩ (zfx_F (zfx_I zfx_rf (by decide)) (by decide))⟩
  · rw [List.length_cons]
    simp [zq_sI, e1]
    exact e3
  · rw [List.length_cons]
    cases i with
    | zero =>
      cases hy
      simp [zq_sI]
    | succ i =>
      have hy : W[i]? = some y := hy
      have hi : i < W.length := by
        rcases Nat.lt_or_ge i W.length with z | z
        · exact z
        · rw [List.getElem?_eq_none z] at hy
          cases hy
      have := e2 i y hy
      rw [show W.length + 1 - 1 - (i + 1) = W.length - 1 - i by omega]
      simpa [zq_sI, show ¬ W.length - 1 - i = W.length by omega] using this
def sp_rls : zq_Sp := fun args h Q => ∃ O W r, args = [.ref 52, .int (nI r)] ∧ (1 ≤ r ∧ r ≤ 4 ∧ O.length + W.length ≤ 40) ∧ zwoW W ∧ zoX O h ∧ zhXS W h ∧ ∀ h', zoX (O ++ (zrlS r W).1) h' → zhXS (zrlS r W).2 h' → zq_fx [3, 4] [53] h h' → Q none h'
def I_rls (Q : zq_Q) (z : zq_H × List zTk × List (Option zTk) × Nat) : zq_P := fun ls st h => match z with
  | (h0, O, W, r) => ls = [some (.ref 52), some (.int (nI r))] ∧ st = [] ∧ (1 ≤ r ∧ r ≤ 4 ∧ O.length + W.length ≤ 40) ∧ zwoW W ∧ zoX O h ∧ zhXS W h ∧ zq_fx [3, 4] [53] h0 h ∧ ∀ h', zoX (O ++ (zrlS r W).1) h' → zhXS (zrlS r W).2 h' → zq_fx [3, 4] [53] h0 h' → Q none h'
theorem rls_0 {Q : zq_Q} {z : zq_H × List zTk × List (Option zTk) × Nat} {ls : zq_L} {st : List Value} {h : zq_H} {J : zq_P} (hi : I_rls Q z ls st h) (fin : ∀ (b : zq_H × List zTk × List (Option zTk) × Nat) ls st h, b.2.2.1.length < z.2.2.1.length → I_rls Q b ls st h → J ls st h) : xX6_release_0 sp_strengthOf sp_addsX J Q ls st h := by
  obtain ⟨h0, O, W, r⟩ := z
  obtain ⟨rfl, rfl, ⟨h1, h2, h3⟩, hw, hO, hW, hF, k⟩ := hi
  cases W with
  | nil =>
    have e4 : h.1 52 4 = nI 0 := hW.1
    simp only [xX6_release_0, xX6_release_55, e4, show (nI 0 ≤ 0) = True from eq_true (by decide), not_true_eq_false, not_false_eq_true, forall_const, true_and, and_true, false_and, and_false, if_true, if_false, reduceIte, implies_true, and_self, ite_self, true_or, or_true, false_or, or_false, true_implies, false_implies, Classical.not_not, false_imp_iff, not_false_iff, zi_push, zi_iload, zi_lload, zi_aload, zi_istore, zi_astore, zi_lstore, zi_iinc, zi_i2, zi_i1, zi_idv, zi_l2, zi_ldv, zi_lsh, zi_i2l, zi_l2i, zi_lcmp, zi_dup, zi_dup2, zi_pop, zi_if1, zi_if2, zi_getI, zi_getL, zi_getR, zi_putI, zi_putZ, zi_putL, zi_aldI, zi_aldL, zi_astI, zi_astZ, zi_astL, zi_alen, zi_iret, zi_zret, zi_lret, zi_vret, zi_callV, zi_callS, zi_sw, zi_copyI, zi_copyL, zi_m2, zi_m1, zi_sval, zi_scod, zi_fmt, zi_balen, zi_bald, zi_bret, zi_callT, zq_nth, zq_put1, zq_put2, zq_clr, zq_nl, zq_tk, zq_ps, zq_sw, zq_l0, zq_a, zq_a1, List.length_cons, List.length_nil, List.nil_append, List.cons_append, List.append_nil, List.replicate, Nat.reduceAdd, Nat.reduceSub, Nat.reduceLeDiff, true_and, and_true, List.append_eq, List.cons.injEq, Value.int.injEq, Value.long.injEq, Value.ref.injEq, exists_and_left, exists_eq_left', and_assoc, zc_b, zc_0, zc_1, zc_10, zc_01, lg_cmp_ge, lg_cmp_le, lg_cmp_gt, lg_cmp_lt, lg_cmp_eq, zw_le, zw_lt, reduceIte, true_or, or_true, zw_g0, zw_l0, zw_g1, zw_l1, zw_g2, zw_l2, zw_g3, zw_l3, zw_g5, zw_l5, zw_g6, zw_l6, zw_g7, zw_l7, zw_g9, zw_l9, zw_g10, zw_l10, zw_g15, zw_l15, zw_g16, zw_l16, zw_g48, zw_l48, zw_g50, zw_l50, zw_g57, zw_l57, zw_g97, zw_l97, zw_g100, zw_l100, zw_g200, zw_l200, zw_g999, zw_l999, zw_g9999, zw_l9999]
    refine k h ?_ hW hF
    show zoX (O ++ []) h
    rw [List.append_nil]
    exact hO
  | cons x W =>
    have hl : O.length + (W.length + 1) ≤ 40 := h3
    have e4 : h.1 52 4 = nI (W.length + 1) := hW.1
    have c4 : (nI (W.length + 1) ≤ 0) = False := eq_false (by
      rw [show (0 : Int32) = nI 0 from rfl, nI_leI (by omega) (by omega)]
      omega)
    have hx : zwo x := hw x List.mem_cons_self
    have hw2 : zwoW W := fun y hy => hw y (List.mem_cons_of_mem _ hy)
    obtain ⟨s1, s2⟩ := zstr_w hx
    have e5 := zhX_hd hW
    have c5 : (nI (zws x) < nI r) = (zws x < r) := nI_ltP (by omega) (by omega)
    simp only [xX6_release_0, xX6_release_7, xX6_release_55, e4, c4, nI_pred, nI_clamp (show W.length < 2 ^ 31 by omega), e5, sp_strengthOf, s1, c5, not_true_eq_false, not_false_eq_true, forall_const, true_and, and_true, false_and, and_false, if_true, if_false, reduceIte, implies_true, and_self, ite_self, true_or, or_true, false_or, or_false, true_implies, false_implies, Classical.not_not, false_imp_iff, not_false_iff, zi_push, zi_iload, zi_lload, zi_aload, zi_istore, zi_astore, zi_lstore, zi_iinc, zi_i2, zi_i1, zi_idv, zi_l2, zi_ldv, zi_lsh, zi_i2l, zi_l2i, zi_lcmp, zi_dup, zi_dup2, zi_pop, zi_if1, zi_if2, zi_getI, zi_getL, zi_getR, zi_putI, zi_putZ, zi_putL, zi_aldI, zi_aldL, zi_astI, zi_astZ, zi_astL, zi_alen, zi_iret, zi_zret, zi_lret, zi_vret, zi_callV, zi_callS, zi_sw, zi_copyI, zi_copyL, zi_m2, zi_m1, zi_sval, zi_scod, zi_fmt, zi_balen, zi_bald, zi_bret, zi_callT, zq_nth, zq_put1, zq_put2, zq_clr, zq_nl, zq_tk, zq_ps, zq_sw, zq_l0, zq_a, zq_a1, List.length_cons, List.length_nil, List.nil_append, List.cons_append, List.append_nil, List.replicate, Nat.reduceAdd, Nat.reduceSub, Nat.reduceLeDiff, true_and, and_true, List.append_eq, List.cons.injEq, Value.int.injEq, Value.long.injEq, Value.ref.injEq, exists_and_left, exists_eq_left', and_assoc, zc_b, zc_0, zc_1, zc_10, zc_01, lg_cmp_ge, lg_cmp_le, lg_cmp_gt, lg_cmp_lt, lg_cmp_eq, zw_le, zw_lt, reduceIte, true_or, or_true, zw_g0, zw_l0, zw_g1, zw_l1, zw_g2, zw_l2, zw_g3, zw_l3, zw_g5, zw_l5, zw_g6, zw_l6, zw_g7, zw_l7, zw_g9, zw_l9, zw_g10, zw_l10, zw_g15, zw_l15, zw_g16, zw_l16, zw_g48, zw_l48, zw_g50, zw_l50, zw_g57, zw_l57, zw_g97, zw_l97, zw_g100, zw_l100, zw_g200, zw_l200, zw_g999, zw_l999, zw_g9999, zw_l9999]
    refine ⟨vp_in_nI (by omega) (by decide), fun q => ?_, fun q => ?_⟩
    · have ez : zrlS r (x :: W) = ([], x :: W) := by
        cases x with
        | none => rfl
        | some t => exact zrl_a W q
      rw [ez, List.append_nil] at k
      exact k h hO hW hF
    · cases x with
      | none => exact absurd (show 0 < r from h1) q
      | some t =>
        have ez : zrlS r (some t :: W) = (t :: (zrlS r W).1, (zrlS r W).2) := by
          rw [zrlS, if_pos (show r ≤ zstk t from Nat.le_of_not_lt q)]
        rw [ez] at k
        simp only [xX6_release_25, e4, nI_pred, zq_sI, nI_clamp (show W.length < 2 ^ 31 by omega), not_true_eq_false, not_false_eq_true, forall_const, true_and, and_true, false_and, and_false, if_true, if_false, reduceIte, implies_true, and_self, ite_self, true_or, or_true, false_or, or_false, true_implies, false_implies, Classical.not_not, false_imp_iff, not_false_iff, zi_push, zi_iload, zi_lload, zi_aload, zi_istore, zi_astore, zi_lstore, zi_iinc, zi_i2, zi_i1, zi_idv, zi_l2, zi_ldv, zi_lsh, zi_i2l, zi_l2i, zi_lcmp, zi_dup, zi_dup2, zi_pop, zi_if1, zi_if2, zi_getI, zi_getL, zi_getR, zi_putI, zi_putZ, zi_putL, zi_aldI, zi_aldL, zi_astI, zi_astZ, zi_astL, zi_alen, zi_iret, zi_zret, zi_lret, zi_vret, zi_callV, zi_callS, zi_sw, zi_copyI, zi_copyL, zi_m2, zi_m1, zi_sval, zi_scod, zi_fmt, zi_balen, zi_bald, zi_bret, zi_callT, zq_nth, zq_put1, zq_put2, zq_clr, zq_nl, zq_tk, zq_ps, zq_sw, zq_l0, zq_a, zq_a1, List.length_cons, List.length_nil, List.nil_append, List.cons_append, List.append_nil, List.replicate, Nat.reduceAdd, Nat.reduceSub, Nat.reduceLeDiff, true_and, and_true, List.append_eq, List.cons.injEq, Value.int.injEq, Value.long.injEq, Value.ref.injEq, exists_and_left, exists_eq_left', and_assoc, zc_b, zc_0, zc_1, zc_10, zc_01, lg_cmp_ge, lg_cmp_le, lg_cmp_gt, lg_cmp_lt, lg_cmp_eq, zw_le, zw_lt, reduceIte, true_or, or_true, zw_g0, zw_l0, zw_g1, zw_l1, zw_g2, zw_l2, zw_g3, zw_l3, zw_g5, zw_l5, zw_g6, zw_l6, zw_g7, zw_l7, zw_g9, zw_l9, zw_g10, zw_l10, zw_g15, zw_l15, zw_g16, zw_l16, zw_g48, zw_l48, zw_g50, zw_l50, zw_g57, zw_l57, zw_g97, zw_l97, zw_g100, zw_l100, zw_g200, zw_l200, zw_g999, zw_l999, zw_g9999, zw_l9999]
        have g1 : zq_fx [4] [] h (zq_setI h 52 4 (nI W.length)) := zfx_F zfx_rf (by decide)
        refine ⟨vp_in_nI (by omega) (by decide), O, t, ?_, by omega, zoX_fx hO g1 (by decide), fun h' b1 f1 => ?_⟩
        · rw [← zwX_tk hx, ← e5]
          simp
        · simp only [zi_push, zi_iload, zi_lload, zi_aload, zi_istore, zi_astore, zi_lstore, zi_iinc, zi_i2, zi_i1, zi_idv, zi_l2, zi_ldv, zi_lsh, zi_i2l, zi_l2i, zi_lcmp, zi_dup, zi_dup2, zi_pop, zi_if1, zi_if2, zi_getI, zi_getL, zi_getR, zi_putI, zi_putZ, zi_putL, zi_aldI, zi_aldL, zi_astI, zi_astZ, zi_astL, zi_alen, zi_iret, zi_zret, zi_lret, zi_vret, zi_callV, zi_callS, zi_sw, zi_copyI, zi_copyL, zi_m2, zi_m1, zi_sval, zi_scod, zi_fmt, zi_balen, zi_bald, zi_bret, zi_callT, zq_nth, zq_put1, zq_put2, zq_clr, zq_nl, zq_tk, zq_ps, zq_sw, zq_l0, zq_a, zq_a1, List.length_cons, List.length_nil, List.nil_append, List.cons_append, List.append_nil, List.replicate, Nat.reduceAdd, Nat.reduceSub, Nat.reduceLeDiff, true_and, and_true, List.append_eq, List.cons.injEq, Value.int.injEq, Value.long.injEq, Value.ref.injEq, exists_and_left, exists_eq_left', and_assoc, zc_b, zc_0, zc_1, zc_10, zc_01, lg_cmp_ge, lg_cmp_le, lg_cmp_gt, lg_cmp_lt, lg_cmp_eq, zw_le, zw_lt, reduceIte, true_or, or_true, zw_g0, zw_l0, zw_g1, zw_l1, zw_g2, zw_l2, zw_g3, zw_l3, zw_g5, zw_l5, zw_g6, zw_l6, zw_g7, zw_l7, zw_g9, zw_l9, zw_g10, zw_l10, zw_g15, zw_l15, zw_g16, zw_l16, zw_g48, zw_l48, zw_g50, zw_l50, zw_g57, zw_l57, zw_g97, zw_l97, zw_g100, zw_l100, zw_g200, zw_l200, zw_g999, zw_l999, zw_g9999, zw_l9999]
          refine fin (h0, O ++ [t], W, r) _ _ _ (by show W.length < (some t :: W).length; rw [List.length_cons]; omega) ⟨rfl, rfl, ⟨h1, h2, by rw [List.length_append, List.length_singleton]; omega⟩, hw2, b1, zhX_fx (zhX_tl hW (by simp [zq_sI]) (by funext i; simp [zq_sI])) f1 (by decide), zfx_t (zfx_t hF g1 (by decide)) f1 (by decide), fun h2 y1 y2 y3 => k h2 ?_ y2 y3⟩
          rw [List.append_assoc] at y1
          exact y1
theorem ok_rls : zq_M yX6_release cX6_release 2 none 0 1 sp_rls := by
  refine mX6_release ok_strengthOf (by decide) ok_addsX (by decide) (fun z => z.2.2.1.length) I_rls (fun args h Q hs => ?_) (fun Q z ls st h hi => ?_)
  · obtain ⟨O, W, r, rfl, hb, hw, hO, hW, k⟩ := hs
    exact ⟨Nat.le_of_ble_eq_true rfl, rls_0 (z := (h, O, W, r)) ⟨rfl, rfl, hb, hw, hO, hW, zfx_rf, k⟩ (fun b ls st h _ y => ⟨b, y⟩)⟩
  · exact rls_0 hi (fun b ls st h x y => ⟨b, x, y⟩)
/-! one sign read -/
def zcX (c : Nat → Bool) (h : zq_H) : Prop := ∃ C, C < 32 ∧ h.1 52 6 = nI C ∧ ∀ i, i < 5 → C.testBit i = c i
theorem zcX_clr : ∀ C, C < 32 → ∀ d, d < 5 → nI C &&& (zf_shl 1 (nI d) ^^^ -1) = nI (C &&& (31 - 2 ^ d)) ∧ (C &&& (31 - 2 ^ d)) < 32 ∧ ∀ i, i < 5 → (C &&& (31 - 2 ^ d)).testBit i = if i = d then false else C.testBit i := by decide +kernel
theorem zcX_set : ∀ C, C < 32 → ∀ d, d < 5 → nI C ||| zf_shl 1 (nI d) = nI (C ||| 2 ^ d) ∧ (C ||| 2 ^ d) < 32 ∧ ∀ i, i < 5 → (C ||| 2 ^ d).testBit i = if i = d then true else C.testBit i := by decide +kernel
theorem zcX_bit : ∀ C, C < 32 → ∀ d, d < 5 → (zf_shr (nI C) (nI d) &&& 1 = 0 ↔ C.testBit d = false) := by decide +kernel
def XMs (n : Nat) (s : Nat → Int32) (e p : Nat) (O : List zTk) (W : List (Option zTk)) (d : Nat) (c : Nat → Bool) (w : Bool) (h : zq_H) : Prop := XD n s e p h ∧ zoX O h ∧ zhXS W h ∧ h.1 52 5 = nI d ∧ zcX c h ∧ h.1 52 7 = zbI w
def zKxS (n : Nat) (s : Nat → Int32) (e : Nat) (h0 : zq_H) (Q : zq_Q) : zKRt Prop := fun p O W d c w => ∀ h', XMs n s e p O W d c w h' → zq_fx zfx5 [1, 53, 54] h0 h' → Q (some (.int 1)) h'
theorem XD_fx {n : Nat} {s : Nat → Int32} {e p : Nat} {fs ps : List Nat} {h h' : zq_H} (k : XD n s e p h) (f : zq_fx fs ps h h') (d : 1 ∉ ps ∧ 2 ∉ ps) : XD n s e p h' :=
  XD_fr k (zfr_fx f) ⟨fun q => (List.mem_cons.mp q).elim (by decide) d.1, fun q => (List.mem_cons.mp q).elim (by decide) d.2⟩
theorem zcX_fx {c : Nat → Bool} {fs ps : List Nat} {h h' : zq_H} (k : zcX c h) (f : zq_fx fs ps h h') (d : 6 ∉ fs) : zcX c h' := by
  unfold zcX at *
  rw [f.2 6 d]
  exact k
def zisL (v : Int32) : Prop := zix (zsb 3) v < 9
theorem zisL_eq (v : Int32) : zisL v ↔ v = 99 ∨ v = 114 ∨ v = 107 ∨ v = 97 ∨ v = 98 ∨ v = 100 ∨ v = 105 ∨ v = 112 ∨ v = 101 := by
  unfold zisL
  constructor
  · intro h
    have e3 : zsb 3 = [99, 114, 107, 97, 98, 100, 105, 112, 101] := rfl
    rw [e3] at h
    by_cases c1 : (99 : Int32) = v
    · exact Or.inl c1.symm
    by_cases c2 : (114 : Int32) = v
    · exact Or.inr (Or.inl c2.symm)
    by_cases c3 : (107 : Int32) = v
    · exact Or.inr (Or.inr (Or.inl c3.symm))
    by_cases c4 : (97 : Int32) = v
    · exact Or.inr (Or.inr (Or.inr (Or.inl c4.symm)))
    by_cases c5 : (98 : Int32) = v
    · exact Or.inr (Or.inr (Or.inr (Or.inr (Or.inl c5.symm))))
    by_cases c6 : (100 : Int32) = v
    · exact Or.inr (Or.inr (Or.inr (Or.inr (Or.inr (Or.inl c6.symm)))))
    by_cases c7 : (105 : Int32) = v
    · exact Or.inr (Or.inr (Or.inr (Or.inr (Or.inr (Or.inr (Or.inl c7.symm))))))
    by_cases c8 : (112 : Int32) = v
    · exact Or.inr (Or.inr (Or.inr (Or.inr (Or.inr (Or.inr (Or.inr (Or.inl c8.symm)))))))
    by_cases c9 : (101 : Int32) = v
    · exact Or.inr (Or.inr (Or.inr (Or.inr (Or.inr (Or.inr (Or.inr (Or.inr c9.symm)))))))
    simp only [zix, if_neg c1, if_neg c2, if_neg c3, if_neg c4, if_neg c5, if_neg c6, if_neg c7, if_neg c8, if_neg c9] at h
    exact absurd h (by decide)
  · rintro (rfl | rfl | rfl | rfl | rfl | rfl | rfl | rfl | rfl) <;> decide
def sp_isl : zq_Sp := fun args h Q => ∃ v, args = [.int v] ∧ (zisL v → Q (some (.int 1)) h) ∧ (¬ zisL v → Q (some (.int 0)) h)
theorem ok_isl : zq_M yX6_isLetter cX6_isLetter 1 (some .boolean) 1 0 sp_isl := by
  refine mX6_isLetter (fun args h Q hs => ?_)
  obtain ⟨v, rfl, k1, k2⟩ := hs
  rw [zisL_eq] at k1 k2
  refine ⟨Nat.le_of_ble_eq_true rfl, ?_⟩
  simp only [xX6_isLetter_90, xX6_isLetter_88, xX6_isLetter_0, zi_push, zi_iload, zi_lload, zi_aload, zi_istore, zi_astore, zi_lstore, zi_iinc, zi_i2, zi_i1, zi_idv, zi_l2, zi_ldv, zi_lsh, zi_i2l, zi_l2i, zi_lcmp, zi_dup, zi_dup2, zi_pop, zi_if1, zi_if2, zi_getI, zi_getL, zi_getR, zi_putI, zi_putZ, zi_putL, zi_aldI, zi_aldL, zi_astI, zi_astZ, zi_astL, zi_alen, zi_iret, zi_zret, zi_lret, zi_vret, zi_callV, zi_callS, zi_sw, zi_copyI, zi_copyL, zi_m2, zi_m1, zi_sval, zi_scod, zi_fmt, zi_balen, zi_bald, zi_bret, zi_callT, zq_nth, zq_put1, zq_put2, zq_clr, zq_nl, zq_tk, zq_ps, zq_sw, zq_l0, zq_a, zq_a1, List.length_cons, List.length_nil, List.nil_append, List.cons_append, List.append_nil, List.replicate, Nat.reduceAdd, Nat.reduceSub, Nat.reduceLeDiff, true_and, and_true, List.append_eq, List.cons.injEq, Value.int.injEq, Value.long.injEq, Value.ref.injEq, exists_and_left, exists_eq_left', and_assoc, zc_b, zc_0, zc_1, zc_10, zc_01, lg_cmp_ge, lg_cmp_le, lg_cmp_gt, lg_cmp_lt, lg_cmp_eq, zw_le, zw_lt, reduceIte, true_or, or_true, zw_g0, zw_l0, zw_g1, zw_l1, zw_g2, zw_l2, zw_g3, zw_l3, zw_g5, zw_l5, zw_g6, zw_l6, zw_g7, zw_l7, zw_g9, zw_l9, zw_g10, zw_l10, zw_g15, zw_l15, zw_g16, zw_l16, zw_g48, zw_l48, zw_g50, zw_l50, zw_g57, zw_l57, zw_g97, zw_l97, zw_g100, zw_l100, zw_g200, zw_l200, zw_g999, zw_l999, zw_g9999, zw_l9999]
  refine ⟨fun c0 => ?_, fun n0 => ⟨fun c1 => ?_, fun n1 => ⟨fun c2 => ?_, fun n2 => ⟨fun c3 => ?_, fun n3 => ⟨fun c4 => ?_, fun n4 => ⟨fun c5 => ?_, fun n5 => ⟨fun c6 => ?_, fun n6 => ⟨fun c7 => ?_, fun n7 => ⟨fun c8 => ?_, fun n8 => ⟨fun c9 => ?_, fun n9 => ⟨fun c10 => ?_, fun n10 => ⟨fun c11 => ?_, fun n11 => ⟨fun c12 => ?_, fun n12 => ⟨fun c13 => ?_, fun n13 => ⟨fun c14 => ?_, fun n14 => ⟨fun c15 => ?_, fun n15 => ⟨fun c16 => ?_, fun n16 => ⟨fun c17 => ?_, fun n17 => ?_⟩⟩⟩⟩⟩⟩⟩⟩⟩⟩⟩⟩⟩⟩⟩⟩⟩⟩
  · exact k1 (by rw [c0]; decide)
  · exact k1 (by rw [c1]; decide)
  · exact k1 (by rw [c2]; decide)
  · exact k1 (by rw [c3]; decide)
  · exact k1 (by rw [c4]; decide)
  · exact k2 (by rw [c5]; decide)
  · exact k2 (by rw [c6]; decide)
  · exact k2 (by rw [c7]; decide)
  · exact k1 (by rw [c8]; decide)
  · exact k2 (by rw [c9]; decide)
  · exact k1 (by rw [c10]; decide)
  · exact k2 (by rw [c11]; decide)
  · exact k2 (by rw [c12]; decide)
  · exact k2 (by rw [c13]; decide)
  · exact k2 (by rw [c14]; decide)
  · exact k1 (by rw [c15]; decide)
  · exact k2 (by rw [c16]; decide)
  · exact k1 (by rw [c17]; decide)
  · exact k2 (fun z => by rcases z with z | z | z | z | z | z | z | z | z <;> first | exact n0 z | exact n1 z | exact n2 z | exact n3 z | exact n4 z | exact n5 z | exact n6 z | exact n7 z | exact n8 z | exact n9 z | exact n10 z | exact n11 z | exact n12 z | exact n13 z | exact n14 z | exact n15 z | exact n16 z | exact n17 z)
theorem zts_ix : ∀ v : Int32, zisL v → (1000 : Int32) + v = tkX (tkT (zix (zsb 3) v)) := by
  intro v h
  rcases (zisL_eq v).mp h with rfl | rfl | rfl | rfl | rfl | rfl | rfl | rfl | rfl <;> decide
def sp_xrT : zq_Sp := fun args h Q => ∃ n s e p O W d c, args = [.ref 52, .ref 1] ∧ (e ≤ 40 ∧ p < e ∧ d ≤ 4 ∧ O.length + W.length ≤ p) ∧ XMs n s e p O W d c true h ∧ zbdT s e (zKxS n s e h Q) (Q (some (.int 0)) h) p O W d c
theorem ok_xrT : zq_M yX6_readThing cX6_readThing 4 (some .boolean) 1 3 sp_xrT := by
  refine mX6_readThing ok_xNumber (by decide) ok_addsX (by decide) ok_xNext (by decide) ok_hld (by decide) ok_xSkip (by decide) ok_isl (by decide) (fun args h Q hs => ?_)
  obtain ⟨n, s, e, p, O, W, d, c, rfl, ⟨he, hp, hd, hl⟩, ⟨hD, hO, hW, h5, hC, h7⟩, k⟩ := hs
  unfold zbdT at k
  refine ⟨Nat.le_of_ble_eq_true rfl, ?_⟩
  simp only [xX6_readThing_0, zi_push, zi_iload, zi_lload, zi_aload, zi_istore, zi_astore, zi_lstore, zi_iinc, zi_i2, zi_i1, zi_idv, zi_l2, zi_ldv, zi_lsh, zi_i2l, zi_l2i, zi_lcmp, zi_dup, zi_dup2, zi_pop, zi_if1, zi_if2, zi_getI, zi_getL, zi_getR, zi_putI, zi_putZ, zi_putL, zi_aldI, zi_aldL, zi_astI, zi_astZ, zi_astL, zi_alen, zi_iret, zi_zret, zi_lret, zi_vret, zi_callV, zi_callS, zi_sw, zi_copyI, zi_copyL, zi_m2, zi_m1, zi_sval, zi_scod, zi_fmt, zi_balen, zi_bald, zi_bret, zi_callT, zq_nth, zq_put1, zq_put2, zq_clr, zq_nl, zq_tk, zq_ps, zq_sw, zq_l0, zq_a, zq_a1, List.length_cons, List.length_nil, List.nil_append, List.cons_append, List.append_nil, List.replicate, Nat.reduceAdd, Nat.reduceSub, Nat.reduceLeDiff, true_and, and_true, List.append_eq, List.cons.injEq, Value.int.injEq, Value.long.injEq, Value.ref.injEq, exists_and_left, exists_eq_left', and_assoc, zc_b, zc_0, zc_1, zc_10, zc_01, lg_cmp_ge, lg_cmp_le, lg_cmp_gt, lg_cmp_lt, lg_cmp_eq, zw_le, zw_lt, reduceIte, true_or, or_true, zw_g0, zw_l0, zw_g1, zw_l1, zw_g2, zw_l2, zw_g3, zw_l3, zw_g5, zw_l5, zw_g6, zw_l6, zw_g7, zw_l7, zw_g9, zw_l9, zw_g10, zw_l10, zw_g15, zw_l15, zw_g16, zw_l16, zw_g48, zw_l48, zw_g50, zw_l50, zw_g57, zw_l57, zw_g97, zw_l97, zw_g100, zw_l100, zw_g200, zw_l200, zw_g999, zw_l999, zw_g9999, zw_l9999]
  refine ⟨n, s, e, p, 3, rfl, by decide, hD, fun q => ?_, fun q h1 d1 f1 => ?_⟩
  · have nd : ¬ zisd s e p := fun z => absurd (show 1 ≤ zln s e p 3 from zln_pos (m := 2) z) (by omega)
    rw [if_neg nd] at k
    have ec : zcur s e p = s p := if_pos hp
    simp only [show ((-1 : Int32) < 0) = True from eq_true (by decide), xX6_readThing_22, not_true_eq_false, not_false_eq_true, forall_const, true_and, and_true, false_and, and_false, if_true, if_false, reduceIte, implies_true, and_self, ite_self, true_or, or_true, false_or, or_false, true_implies, false_implies, Classical.not_not, false_imp_iff, not_false_iff, zi_push, zi_iload, zi_lload, zi_aload, zi_istore, zi_astore, zi_lstore, zi_iinc, zi_i2, zi_i1, zi_idv, zi_l2, zi_ldv, zi_lsh, zi_i2l, zi_l2i, zi_lcmp, zi_dup, zi_dup2, zi_pop, zi_if1, zi_if2, zi_getI, zi_getL, zi_getR, zi_putI, zi_putZ, zi_putL, zi_aldI, zi_aldL, zi_astI, zi_astZ, zi_astL, zi_alen, zi_iret, zi_zret, zi_lret, zi_vret, zi_callV, zi_callS, zi_sw, zi_copyI, zi_copyL, zi_m2, zi_m1, zi_sval, zi_scod, zi_fmt, zi_balen, zi_bald, zi_bret, zi_callT, zq_nth, zq_put1, zq_put2, zq_clr, zq_nl, zq_tk, zq_ps, zq_sw, zq_l0, zq_a, zq_a1, List.length_cons, List.length_nil, List.nil_append, List.cons_append, List.append_nil, List.replicate, Nat.reduceAdd, Nat.reduceSub, Nat.reduceLeDiff, true_and, and_true, List.append_eq, List.cons.injEq, Value.int.injEq, Value.long.injEq, Value.ref.injEq, exists_and_left, exists_eq_left', and_assoc, zc_b, zc_0, zc_1, zc_10, zc_01, lg_cmp_ge, lg_cmp_le, lg_cmp_gt, lg_cmp_lt, lg_cmp_eq, zw_le, zw_lt, reduceIte, true_or, or_true, zw_g0, zw_l0, zw_g1, zw_l1, zw_g2, zw_l2, zw_g3, zw_l3, zw_g5, zw_l5, zw_g6, zw_l6, zw_g7, zw_l7, zw_g9, zw_l9, zw_g10, zw_l10, zw_g15, zw_l15, zw_g16, zw_l16, zw_g48, zw_l48, zw_g50, zw_l50, zw_g57, zw_l57, zw_g97, zw_l97, zw_g100, zw_l100, zw_g200, zw_l200, zw_g999, zw_l999, zw_g9999, zw_l9999]
    refine ⟨n, s, e, p, rfl, hD, ?_⟩
    simp only [ec, zi_push, zi_iload, zi_lload, zi_aload, zi_istore, zi_astore, zi_lstore, zi_iinc, zi_i2, zi_i1, zi_idv, zi_l2, zi_ldv, zi_lsh, zi_i2l, zi_l2i, zi_lcmp, zi_dup, zi_dup2, zi_pop, zi_if1, zi_if2, zi_getI, zi_getL, zi_getR, zi_putI, zi_putZ, zi_putL, zi_aldI, zi_aldL, zi_astI, zi_astZ, zi_astL, zi_alen, zi_iret, zi_zret, zi_lret, zi_vret, zi_callV, zi_callS, zi_sw, zi_copyI, zi_copyL, zi_m2, zi_m1, zi_sval, zi_scod, zi_fmt, zi_balen, zi_bald, zi_bret, zi_callT, zq_nth, zq_put1, zq_put2, zq_clr, zq_nl, zq_tk, zq_ps, zq_sw, zq_l0, zq_a, zq_a1, List.length_cons, List.length_nil, List.nil_append, List.cons_append, List.append_nil, List.replicate, Nat.reduceAdd, Nat.reduceSub, Nat.reduceLeDiff, true_and, and_true, List.append_eq, List.cons.injEq, Value.int.injEq, Value.long.injEq, Value.ref.injEq, exists_and_left, exists_eq_left', and_assoc, zc_b, zc_0, zc_1, zc_10, zc_01, lg_cmp_ge, lg_cmp_le, lg_cmp_gt, lg_cmp_lt, lg_cmp_eq, zw_le, zw_lt, reduceIte, true_or, or_true, zw_g0, zw_l0, zw_g1, zw_l1, zw_g2, zw_l2, zw_g3, zw_l3, zw_g5, zw_l5, zw_g6, zw_l6, zw_g7, zw_l7, zw_g9, zw_l9, zw_g10, zw_l10, zw_g15, zw_l15, zw_g16, zw_l16, zw_g48, zw_l48, zw_g50, zw_l50, zw_g57, zw_l57, zw_g97, zw_l97, zw_g100, zw_l100, zw_g200, zw_l200, zw_g999, zw_l999, zw_g9999, zw_l9999]
    have l92 : (if ziso s e p 3 then zKxS n s e h Q (p + 1) (O ++ [tkT (zix (zsb 3) (s p))]) W d c false else Q (some (.int 0)) h) → xX6_readThing_92 sp_xNumber sp_addsX sp_xNext sp_hld sp_xSkip sp_isl Q [some (.ref 52), some (.ref 1), some (.int (-1)), some (.int (s p))] [] h := fun k => by
      simp only [xX6_readThing_92, zi_push, zi_iload, zi_lload, zi_aload, zi_istore, zi_astore, zi_lstore, zi_iinc, zi_i2, zi_i1, zi_idv, zi_l2, zi_ldv, zi_lsh, zi_i2l, zi_l2i, zi_lcmp, zi_dup, zi_dup2, zi_pop, zi_if1, zi_if2, zi_getI, zi_getL, zi_getR, zi_putI, zi_putZ, zi_putL, zi_aldI, zi_aldL, zi_astI, zi_astZ, zi_astL, zi_alen, zi_iret, zi_zret, zi_lret, zi_vret, zi_callV, zi_callS, zi_sw, zi_copyI, zi_copyL, zi_m2, zi_m1, zi_sval, zi_scod, zi_fmt, zi_balen, zi_bald, zi_bret, zi_callT, zq_nth, zq_put1, zq_put2, zq_clr, zq_nl, zq_tk, zq_ps, zq_sw, zq_l0, zq_a, zq_a1, List.length_cons, List.length_nil, List.nil_append, List.cons_append, List.append_nil, List.replicate, Nat.reduceAdd, Nat.reduceSub, Nat.reduceLeDiff, true_and, and_true, List.append_eq, List.cons.injEq, Value.int.injEq, Value.long.injEq, Value.ref.injEq, exists_and_left, exists_eq_left', and_assoc, zc_b, zc_0, zc_1, zc_10, zc_01, lg_cmp_ge, lg_cmp_le, lg_cmp_gt, lg_cmp_lt, lg_cmp_eq, zw_le, zw_lt, reduceIte, true_or, or_true, zw_g0, zw_l0, zw_g1, zw_l1, zw_g2, zw_l2, zw_g3, zw_l3, zw_g5, zw_l5, zw_g6, zw_l6, zw_g7, zw_l7, zw_g9, zw_l9, zw_g10, zw_l10, zw_g15, zw_l15, zw_g16, zw_l16, zw_g48, zw_l48, zw_g50, zw_l50, zw_g57, zw_l57, zw_g97, zw_l97, zw_g100, zw_l100, zw_g200, zw_l200, zw_g999, zw_l999, zw_g9999, zw_l9999]
      refine ⟨s p, rfl, fun z => ?_, fun z => ?_⟩
      · rw [if_pos ⟨hp, z⟩] at k
        simp only [zc_10, xX6_readThing_99, not_true_eq_false, not_false_eq_true, forall_const, true_and, and_true, false_and, and_false, if_true, if_false, reduceIte, implies_true, and_self, ite_self, true_or, or_true, false_or, or_false, true_implies, false_implies, Classical.not_not, false_imp_iff, not_false_iff, zi_push, zi_iload, zi_lload, zi_aload, zi_istore, zi_astore, zi_lstore, zi_iinc, zi_i2, zi_i1, zi_idv, zi_l2, zi_ldv, zi_lsh, zi_i2l, zi_l2i, zi_lcmp, zi_dup, zi_dup2, zi_pop, zi_if1, zi_if2, zi_getI, zi_getL, zi_getR, zi_putI, zi_putZ, zi_putL, zi_aldI, zi_aldL, zi_astI, zi_astZ, zi_astL, zi_alen, zi_iret, zi_zret, zi_lret, zi_vret, zi_callV, zi_callS, zi_sw, zi_copyI, zi_copyL, zi_m2, zi_m1, zi_sval, zi_scod, zi_fmt, zi_balen, zi_bald, zi_bret, zi_callT, zq_nth, zq_put1, zq_put2, zq_clr, zq_nl, zq_tk, zq_ps, zq_sw, zq_l0, zq_a, zq_a1, List.length_cons, List.length_nil, List.nil_append, List.cons_append, List.append_nil, List.replicate, Nat.reduceAdd, Nat.reduceSub, Nat.reduceLeDiff, true_and, and_true, List.append_eq, List.cons.injEq, Value.int.injEq, Value.long.injEq, Value.ref.injEq, exists_and_left, exists_eq_left', and_assoc, zc_b, zc_0, zc_1, zc_10, zc_01, lg_cmp_ge, lg_cmp_le, lg_cmp_gt, lg_cmp_lt, lg_cmp_eq, zw_le, zw_lt, reduceIte, true_or, or_true, zw_g0, zw_l0, zw_g1, zw_l1, zw_g2, zw_l2, zw_g3, zw_l3, zw_g5, zw_l5, zw_g6, zw_l6, zw_g7, zw_l7, zw_g9, zw_l9, zw_g10, zw_l10, zw_g15, zw_l15, zw_g16, zw_l16, zw_g48, zw_l48, zw_g50, zw_l50, zw_g57, zw_l57, zw_g97, zw_l97, zw_g100, zw_l100, zw_g200, zw_l200, zw_g999, zw_l999, zw_g9999, zw_l9999]
        refine ⟨O, tkT (zix (zsb 3) (s p)), by rw [← zts_ix _ z], by omega, hO, fun h1 b1 f1 => ?_⟩
        simp only [xX6_readThing_118, not_true_eq_false, not_false_eq_true, forall_const, true_and, and_true, false_and, and_false, if_true, if_false, reduceIte, implies_true, and_self, ite_self, true_or, or_true, false_or, or_false, true_implies, false_implies, Classical.not_not, false_imp_iff, not_false_iff, zi_push, zi_iload, zi_lload, zi_aload, zi_istore, zi_astore, zi_lstore, zi_iinc, zi_i2, zi_i1, zi_idv, zi_l2, zi_ldv, zi_lsh, zi_i2l, zi_l2i, zi_lcmp, zi_dup, zi_dup2, zi_pop, zi_if1, zi_if2, zi_getI, zi_getL, zi_getR, zi_putI, zi_putZ, zi_putL, zi_aldI, zi_aldL, zi_astI, zi_astZ, zi_astL, zi_alen, zi_iret, zi_zret, zi_lret, zi_vret, zi_callV, zi_callS, zi_sw, zi_copyI, zi_copyL, zi_m2, zi_m1, zi_sval, zi_scod, zi_fmt, zi_balen, zi_bald, zi_bret, zi_callT, zq_nth, zq_put1, zq_put2, zq_clr, zq_nl, zq_tk, zq_ps, zq_sw, zq_l0, zq_a, zq_a1, List.length_cons, List.length_nil, List.nil_append, List.cons_append, List.append_nil, List.replicate, Nat.reduceAdd, Nat.reduceSub, Nat.reduceLeDiff, true_and, and_true, List.append_eq, List.cons.injEq, Value.int.injEq, Value.long.injEq, Value.ref.injEq, exists_and_left, exists_eq_left', and_assoc, zc_b, zc_0, zc_1, zc_10, zc_01, lg_cmp_ge, lg_cmp_le, lg_cmp_gt, lg_cmp_lt, lg_cmp_eq, zw_le, zw_lt, reduceIte, true_or, or_true, zw_g0, zw_l0, zw_g1, zw_l1, zw_g2, zw_l2, zw_g3, zw_l3, zw_g5, zw_l5, zw_g6, zw_l6, zw_g7, zw_l7, zw_g9, zw_l9, zw_g10, zw_l10, zw_g15, zw_l15, zw_g16, zw_l16, zw_g48, zw_l48, zw_g50, zw_l50, zw_g57, zw_l57, zw_g97, zw_l97, zw_g100, zw_l100, zw_g200, zw_l200, zw_g999, zw_l999, zw_g9999, zw_l9999]
        have g1 : zq_fx [7] [] h1 (zq_setI h1 52 7 0) := zfx_F zfx_rf (by decide)
        refine ⟨n, s, e, p, s p, rfl, XD_fx (XD_fx hD f1 (by decide)) g1 (by decide), fun q2 h2 d2 f2 => ?_, fun q2 => absurd ⟨hp, rfl⟩ q2⟩
        have f2 : zq_fx [] [1] _ h2 := zfx_fr f2 (by decide)
        simp only [not_true_eq_false, not_false_eq_true, forall_const, true_and, and_true, false_and, and_false, if_true, if_false, reduceIte, implies_true, and_self, ite_self, true_or, or_true, false_or, or_false, true_implies, false_implies, Classical.not_not, false_imp_iff, not_false_iff, zi_push, zi_iload, zi_lload, zi_aload, zi_istore, zi_astore, zi_lstore, zi_iinc, zi_i2, zi_i1, zi_idv, zi_l2, zi_ldv, zi_lsh, zi_i2l, zi_l2i, zi_lcmp, zi_dup, zi_dup2, zi_pop, zi_if1, zi_if2, zi_getI, zi_getL, zi_getR, zi_putI, zi_putZ, zi_putL, zi_aldI, zi_aldL, zi_astI, zi_astZ, zi_astL, zi_alen, zi_iret, zi_zret, zi_lret, zi_vret, zi_callV, zi_callS, zi_sw, zi_copyI, zi_copyL, zi_m2, zi_m1, zi_sval, zi_scod, zi_fmt, zi_balen, zi_bald, zi_bret, zi_callT, zq_nth, zq_put1, zq_put2, zq_clr, zq_nl, zq_tk, zq_ps, zq_sw, zq_l0, zq_a, zq_a1, List.length_cons, List.length_nil, List.nil_append, List.cons_append, List.append_nil, List.replicate, Nat.reduceAdd, Nat.reduceSub, Nat.reduceLeDiff, true_and, and_true, List.append_eq, List.cons.injEq, Value.int.injEq, Value.long.injEq, Value.ref.injEq, exists_and_left, exists_eq_left', and_assoc, zc_b, zc_0, zc_1, zc_10, zc_01, lg_cmp_ge, lg_cmp_le, lg_cmp_gt, lg_cmp_lt, lg_cmp_eq, zw_le, zw_lt, reduceIte, true_or, or_true, zw_g0, zw_l0, zw_g1, zw_l1, zw_g2, zw_l2, zw_g3, zw_l3, zw_g5, zw_l5, zw_g6, zw_l6, zw_g7, zw_l7, zw_g9, zw_l9, zw_g10, zw_l10, zw_g15, zw_l15, zw_g16, zw_l16, zw_g48, zw_l48, zw_g50, zw_l50, zw_g57, zw_l57, zw_g97, zw_l97, zw_g100, zw_l100, zw_g200, zw_l200, zw_g999, zw_l999, zw_g9999, zw_l9999]
        exact k h2 ⟨d2, zoX_fx (zoX_fx b1 g1 (by decide)) f2 (by decide), zhX_fx (zhX_fx (zhX_fx hW f1 (by decide)) g1 (by decide)) f2 (by decide), by rw [f2.2 5 (by decide), g1.2 5 (by decide), f1.2 5 (by decide)]; exact h5, zcX_fx (zcX_fx (zcX_fx hC f1 (by decide)) g1 (by decide)) f2 (by decide), by rw [f2.2 7 (by decide)]; simp [zq_sI]; rfl⟩ (zfx_t (zfx_t (zfx_t (zfx_rf) f1 (by decide)) g1 (by decide)) f2 (by decide))
      · rw [if_neg (fun y => z y.2)] at k
        simp only [xX6_readThing_116, not_true_eq_false, not_false_eq_true, forall_const, true_and, and_true, false_and, and_false, if_true, if_false, reduceIte, implies_true, and_self, ite_self, true_or, or_true, false_or, or_false, true_implies, false_implies, Classical.not_not, false_imp_iff, not_false_iff, zi_push, zi_iload, zi_lload, zi_aload, zi_istore, zi_astore, zi_lstore, zi_iinc, zi_i2, zi_i1, zi_idv, zi_l2, zi_ldv, zi_lsh, zi_i2l, zi_l2i, zi_lcmp, zi_dup, zi_dup2, zi_pop, zi_if1, zi_if2, zi_getI, zi_getL, zi_getR, zi_putI, zi_putZ, zi_putL, zi_aldI, zi_aldL, zi_astI, zi_astZ, zi_astL, zi_alen, zi_iret, zi_zret, zi_lret, zi_vret, zi_callV, zi_callS, zi_sw, zi_copyI, zi_copyL, zi_m2, zi_m1, zi_sval, zi_scod, zi_fmt, zi_balen, zi_bald, zi_bret, zi_callT, zq_nth, zq_put1, zq_put2, zq_clr, zq_nl, zq_tk, zq_ps, zq_sw, zq_l0, zq_a, zq_a1, List.length_cons, List.length_nil, List.nil_append, List.cons_append, List.append_nil, List.replicate, Nat.reduceAdd, Nat.reduceSub, Nat.reduceLeDiff, true_and, and_true, List.append_eq, List.cons.injEq, Value.int.injEq, Value.long.injEq, Value.ref.injEq, exists_and_left, exists_eq_left', and_assoc, zc_b, zc_0, zc_1, zc_10, zc_01, lg_cmp_ge, lg_cmp_le, lg_cmp_gt, lg_cmp_lt, lg_cmp_eq, zw_le, zw_lt, reduceIte, true_or, or_true, zw_g0, zw_l0, zw_g1, zw_l1, zw_g2, zw_l2, zw_g3, zw_l3, zw_g5, zw_l5, zw_g6, zw_l6, zw_g7, zw_l7, zw_g9, zw_l9, zw_g10, zw_l10, zw_g15, zw_l15, zw_g16, zw_l16, zw_g48, zw_l48, zw_g50, zw_l50, zw_g57, zw_l57, zw_g97, zw_l97, zw_g100, zw_l100, zw_g200, zw_l200, zw_g999, zw_l999, zw_g9999, zw_l9999]
        exact k
    refine ⟨fun q1 => ?_, fun q1 => ?_⟩
    · rw [if_pos q1] at k
      simp only [xX6_readThing_33, zi_push, zi_iload, zi_lload, zi_aload, zi_istore, zi_astore, zi_lstore, zi_iinc, zi_i2, zi_i1, zi_idv, zi_l2, zi_ldv, zi_lsh, zi_i2l, zi_l2i, zi_lcmp, zi_dup, zi_dup2, zi_pop, zi_if1, zi_if2, zi_getI, zi_getL, zi_getR, zi_putI, zi_putZ, zi_putL, zi_aldI, zi_aldL, zi_astI, zi_astZ, zi_astL, zi_alen, zi_iret, zi_zret, zi_lret, zi_vret, zi_callV, zi_callS, zi_sw, zi_copyI, zi_copyL, zi_m2, zi_m1, zi_sval, zi_scod, zi_fmt, zi_balen, zi_bald, zi_bret, zi_callT, zq_nth, zq_put1, zq_put2, zq_clr, zq_nl, zq_tk, zq_ps, zq_sw, zq_l0, zq_a, zq_a1, List.length_cons, List.length_nil, List.nil_append, List.cons_append, List.append_nil, List.replicate, Nat.reduceAdd, Nat.reduceSub, Nat.reduceLeDiff, true_and, and_true, List.append_eq, List.cons.injEq, Value.int.injEq, Value.long.injEq, Value.ref.injEq, exists_and_left, exists_eq_left', and_assoc, zc_b, zc_0, zc_1, zc_10, zc_01, lg_cmp_ge, lg_cmp_le, lg_cmp_gt, lg_cmp_lt, lg_cmp_eq, zw_le, zw_lt, reduceIte, true_or, or_true, zw_g0, zw_l0, zw_g1, zw_l1, zw_g2, zw_l2, zw_g3, zw_l3, zw_g5, zw_l5, zw_g6, zw_l6, zw_g7, zw_l7, zw_g9, zw_l9, zw_g10, zw_l10, zw_g15, zw_l15, zw_g16, zw_l16, zw_g48, zw_l48, zw_g50, zw_l50, zw_g57, zw_l57, zw_g97, zw_l97, zw_g100, zw_l100, zw_g200, zw_l200, zw_g999, zw_l999, zw_g9999, zw_l9999]
      refine ⟨W, some tkL, rfl, by omega, hW, fun h1 b1 f1 => ?_⟩
      simp only [xX6_readThing_118, zi_push, zi_iload, zi_lload, zi_aload, zi_istore, zi_astore, zi_lstore, zi_iinc, zi_i2, zi_i1, zi_idv, zi_l2, zi_ldv, zi_lsh, zi_i2l, zi_l2i, zi_lcmp, zi_dup, zi_dup2, zi_pop, zi_if1, zi_if2, zi_getI, zi_getL, zi_getR, zi_putI, zi_putZ, zi_putL, zi_aldI, zi_aldL, zi_astI, zi_astZ, zi_astL, zi_alen, zi_iret, zi_zret, zi_lret, zi_vret, zi_callV, zi_callS, zi_sw, zi_copyI, zi_copyL, zi_m2, zi_m1, zi_sval, zi_scod, zi_fmt, zi_balen, zi_bald, zi_bret, zi_callT, zq_nth, zq_put1, zq_put2, zq_clr, zq_nl, zq_tk, zq_ps, zq_sw, zq_l0, zq_a, zq_a1, List.length_cons, List.length_nil, List.nil_append, List.cons_append, List.append_nil, List.replicate, Nat.reduceAdd, Nat.reduceSub, Nat.reduceLeDiff, true_and, and_true, List.append_eq, List.cons.injEq, Value.int.injEq, Value.long.injEq, Value.ref.injEq, exists_and_left, exists_eq_left', and_assoc, zc_b, zc_0, zc_1, zc_10, zc_01, lg_cmp_ge, lg_cmp_le, lg_cmp_gt, lg_cmp_lt, lg_cmp_eq, zw_le, zw_lt, reduceIte, true_or, or_true, zw_g0, zw_l0, zw_g1, zw_l1, zw_g2, zw_l2, zw_g3, zw_l3, zw_g5, zw_l5, zw_g6, zw_l6, zw_g7, zw_l7, zw_g9, zw_l9, zw_g10, zw_l10, zw_g15, zw_l15, zw_g16, zw_l16, zw_g48, zw_l48, zw_g50, zw_l50, zw_g57, zw_l57, zw_g97, zw_l97, zw_g100, zw_l100, zw_g200, zw_l200, zw_g999, zw_l999, zw_g9999, zw_l9999]
      refine ⟨n, s, e, p, s p, rfl, XD_fx hD f1 (by decide), fun q2 h2 d2 f2 => ?_, fun q2 => absurd ⟨hp, rfl⟩ q2⟩
      have f2 : zq_fx [] [1] h1 h2 := zfx_fr f2 (by decide)
      simp only [not_true_eq_false, not_false_eq_true, forall_const, true_and, and_true, false_and, and_false, if_true, if_false, reduceIte, implies_true, and_self, ite_self, true_or, or_true, false_or, or_false, true_implies, false_implies, Classical.not_not, false_imp_iff, not_false_iff, zi_push, zi_iload, zi_lload, zi_aload, zi_istore, zi_astore, zi_lstore, zi_iinc, zi_i2, zi_i1, zi_idv, zi_l2, zi_ldv, zi_lsh, zi_i2l, zi_l2i, zi_lcmp, zi_dup, zi_dup2, zi_pop, zi_if1, zi_if2, zi_getI, zi_getL, zi_getR, zi_putI, zi_putZ, zi_putL, zi_aldI, zi_aldL, zi_astI, zi_astZ, zi_astL, zi_alen, zi_iret, zi_zret, zi_lret, zi_vret, zi_callV, zi_callS, zi_sw, zi_copyI, zi_copyL, zi_m2, zi_m1, zi_sval, zi_scod, zi_fmt, zi_balen, zi_bald, zi_bret, zi_callT, zq_nth, zq_put1, zq_put2, zq_clr, zq_nl, zq_tk, zq_ps, zq_sw, zq_l0, zq_a, zq_a1, List.length_cons, List.length_nil, List.nil_append, List.cons_append, List.append_nil, List.replicate, Nat.reduceAdd, Nat.reduceSub, Nat.reduceLeDiff, true_and, and_true, List.append_eq, List.cons.injEq, Value.int.injEq, Value.long.injEq, Value.ref.injEq, exists_and_left, exists_eq_left', and_assoc, zc_b, zc_0, zc_1, zc_10, zc_01, lg_cmp_ge, lg_cmp_le, lg_cmp_gt, lg_cmp_lt, lg_cmp_eq, zw_le, zw_lt, reduceIte, true_or, or_true, zw_g0, zw_l0, zw_g1, zw_l1, zw_g2, zw_l2, zw_g3, zw_l3, zw_g5, zw_l5, zw_g6, zw_l6, zw_g7, zw_l7, zw_g9, zw_l9, zw_g10, zw_l10, zw_g15, zw_l15, zw_g16, zw_l16, zw_g48, zw_l48, zw_g50, zw_l50, zw_g57, zw_l57, zw_g97, zw_l97, zw_g100, zw_l100, zw_g200, zw_l200, zw_g999, zw_l999, zw_g9999, zw_l9999]
      exact k h2 ⟨d2, zoX_fx (zoX_fx hO f1 (by decide)) f2 (by decide), zhX_fx b1 f2 (by decide), by rw [f2.2 5 (by decide), f1.2 5 (by decide)]; exact h5, zcX_fx (zcX_fx hC f1 (by decide)) f2 (by decide), by rw [f2.2 7 (by decide), f1.2 7 (by decide)]; exact h7⟩ (zfx_t (zfx_t zfx_rf f1 (by decide)) f2 (by decide))
    · rw [if_neg q1] at k
      have c4 : ((4 : Int32) ≤ nI d) = (4 ≤ d) := nI_leP (a := 4) (by decide) (by omega)
      simp only [xX6_readThing_43, zi_push, zi_iload, zi_lload, zi_aload, zi_istore, zi_astore, zi_lstore, zi_iinc, zi_i2, zi_i1, zi_idv, zi_l2, zi_ldv, zi_lsh, zi_i2l, zi_l2i, zi_lcmp, zi_dup, zi_dup2, zi_pop, zi_if1, zi_if2, zi_getI, zi_getL, zi_getR, zi_putI, zi_putZ, zi_putL, zi_aldI, zi_aldL, zi_astI, zi_astZ, zi_astL, zi_alen, zi_iret, zi_zret, zi_lret, zi_vret, zi_callV, zi_callS, zi_sw, zi_copyI, zi_copyL, zi_m2, zi_m1, zi_sval, zi_scod, zi_fmt, zi_balen, zi_bald, zi_bret, zi_callT, zq_nth, zq_put1, zq_put2, zq_clr, zq_nl, zq_tk, zq_ps, zq_sw, zq_l0, zq_a, zq_a1, List.length_cons, List.length_nil, List.nil_append, List.cons_append, List.append_nil, List.replicate, Nat.reduceAdd, Nat.reduceSub, Nat.reduceLeDiff, true_and, and_true, List.append_eq, List.cons.injEq, Value.int.injEq, Value.long.injEq, Value.ref.injEq, exists_and_left, exists_eq_left', and_assoc, zc_b, zc_0, zc_1, zc_10, zc_01, lg_cmp_ge, lg_cmp_le, lg_cmp_gt, lg_cmp_lt, lg_cmp_eq, zw_le, zw_lt, reduceIte, true_or, or_true, zw_g0, zw_l0, zw_g1, zw_l1, zw_g2, zw_l2, zw_g3, zw_l3, zw_g5, zw_l5, zw_g6, zw_l6, zw_g7, zw_l7, zw_g9, zw_l9, zw_g10, zw_l10, zw_g15, zw_l15, zw_g16, zw_l16, zw_g48, zw_l48, zw_g50, zw_l50, zw_g57, zw_l57, zw_g97, zw_l97, zw_g100, zw_l100, zw_g200, zw_l200, zw_g999, zw_l999, zw_g9999, zw_l9999]
      refine ⟨fun q2 => ?_, fun q2 => ?_⟩
      · simp only [xX6_readThing_49, h5, c4, zi_push, zi_iload, zi_lload, zi_aload, zi_istore, zi_astore, zi_lstore, zi_iinc, zi_i2, zi_i1, zi_idv, zi_l2, zi_ldv, zi_lsh, zi_i2l, zi_l2i, zi_lcmp, zi_dup, zi_dup2, zi_pop, zi_if1, zi_if2, zi_getI, zi_getL, zi_getR, zi_putI, zi_putZ, zi_putL, zi_aldI, zi_aldL, zi_astI, zi_astZ, zi_astL, zi_alen, zi_iret, zi_zret, zi_lret, zi_vret, zi_callV, zi_callS, zi_sw, zi_copyI, zi_copyL, zi_m2, zi_m1, zi_sval, zi_scod, zi_fmt, zi_balen, zi_bald, zi_bret, zi_callT, zq_nth, zq_put1, zq_put2, zq_clr, zq_nl, zq_tk, zq_ps, zq_sw, zq_l0, zq_a, zq_a1, List.length_cons, List.length_nil, List.nil_append, List.cons_append, List.append_nil, List.replicate, Nat.reduceAdd, Nat.reduceSub, Nat.reduceLeDiff, true_and, and_true, List.append_eq, List.cons.injEq, Value.int.injEq, Value.long.injEq, Value.ref.injEq, exists_and_left, exists_eq_left', and_assoc, zc_b, zc_0, zc_1, zc_10, zc_01, lg_cmp_ge, lg_cmp_le, lg_cmp_gt, lg_cmp_lt, lg_cmp_eq, zw_le, zw_lt, reduceIte, true_or, or_true, zw_g0, zw_l0, zw_g1, zw_l1, zw_g2, zw_l2, zw_g3, zw_l3, zw_g5, zw_l5, zw_g6, zw_l6, zw_g7, zw_l7, zw_g9, zw_l9, zw_g10, zw_l10, zw_g15, zw_l15, zw_g16, zw_l16, zw_g48, zw_l48, zw_g50, zw_l50, zw_g57, zw_l57, zw_g97, zw_l97, zw_g100, zw_l100, zw_g200, zw_l200, zw_g999, zw_l999, zw_g9999, zw_l9999]
        refine ⟨fun z => ?_, fun z => ?_⟩
        · rw [if_neg (fun y => by omega)] at k
          exact l92 k
        · rw [if_pos ⟨by omega, q2⟩] at k
          obtain ⟨C, hC1, hC2, hC3⟩ := hC
          obtain ⟨r1, r2, r3⟩ := zcX_clr C hC1 (d + 1) (by omega)
          have e5 : nI d + 1 = nI (d + 1) := nI_1 d
          simp only [xX6_readThing_57, zi_push, zi_iload, zi_lload, zi_aload, zi_istore, zi_astore, zi_lstore, zi_iinc, zi_i2, zi_i1, zi_idv, zi_l2, zi_ldv, zi_lsh, zi_i2l, zi_l2i, zi_lcmp, zi_dup, zi_dup2, zi_pop, zi_if1, zi_if2, zi_getI, zi_getL, zi_getR, zi_putI, zi_putZ, zi_putL, zi_aldI, zi_aldL, zi_astI, zi_astZ, zi_astL, zi_alen, zi_iret, zi_zret, zi_lret, zi_vret, zi_callV, zi_callS, zi_sw, zi_copyI, zi_copyL, zi_m2, zi_m1, zi_sval, zi_scod, zi_fmt, zi_balen, zi_bald, zi_bret, zi_callT, zq_nth, zq_put1, zq_put2, zq_clr, zq_nl, zq_tk, zq_ps, zq_sw, zq_l0, zq_a, zq_a1, List.length_cons, List.length_nil, List.nil_append, List.cons_append, List.append_nil, List.replicate, Nat.reduceAdd, Nat.reduceSub, Nat.reduceLeDiff, true_and, and_true, List.append_eq, List.cons.injEq, Value.int.injEq, Value.long.injEq, Value.ref.injEq, exists_and_left, exists_eq_left', and_assoc, zc_b, zc_0, zc_1, zc_10, zc_01, lg_cmp_ge, lg_cmp_le, lg_cmp_gt, lg_cmp_lt, lg_cmp_eq, zw_le, zw_lt, reduceIte, true_or, or_true, zw_g0, zw_l0, zw_g1, zw_l1, zw_g2, zw_l2, zw_g3, zw_l3, zw_g5, zw_l5, zw_g6, zw_l6, zw_g7, zw_l7, zw_g9, zw_l9, zw_g10, zw_l10, zw_g15, zw_l15, zw_g16, zw_l16, zw_g48, zw_l48, zw_g50, zw_l50, zw_g57, zw_l57, zw_g97, zw_l97, zw_g100, zw_l100, zw_g200, zw_l200, zw_g999, zw_l999, zw_g9999, zw_l9999]
          refine ⟨W, none, by rw [q2]; rfl, by omega, hW, fun h1 b1 f1 => ?_⟩
          have e51 : h1.1 52 5 = nI d := (f1.2 5 (by decide)).trans h5
          have e61 : h1.1 52 6 = nI C := (f1.2 6 (by decide)).trans hC2
          simp only [xX6_readThing_118, zq_sI, e51, e61, e5, r1, Nat.reduceEqDiff, and_self, not_true_eq_false, not_false_eq_true, forall_const, true_and, and_true, false_and, and_false, if_true, if_false, reduceIte, implies_true, and_self, ite_self, true_or, or_true, false_or, or_false, true_implies, false_implies, Classical.not_not, false_imp_iff, not_false_iff, zi_push, zi_iload, zi_lload, zi_aload, zi_istore, zi_astore, zi_lstore, zi_iinc, zi_i2, zi_i1, zi_idv, zi_l2, zi_ldv, zi_lsh, zi_i2l, zi_l2i, zi_lcmp, zi_dup, zi_dup2, zi_pop, zi_if1, zi_if2, zi_getI, zi_getL, zi_getR, zi_putI, zi_putZ, zi_putL, zi_aldI, zi_aldL, zi_astI, zi_astZ, zi_astL, zi_alen, zi_iret, zi_zret, zi_lret, zi_vret, zi_callV, zi_callS, zi_sw, zi_copyI, zi_copyL, zi_m2, zi_m1, zi_sval, zi_scod, zi_fmt, zi_balen, zi_bald, zi_bret, zi_callT, zq_nth, zq_put1, zq_put2, zq_clr, zq_nl, zq_tk, zq_ps, zq_sw, zq_l0, zq_a, zq_a1, List.length_cons, List.length_nil, List.nil_append, List.cons_append, List.append_nil, List.replicate, Nat.reduceAdd, Nat.reduceSub, Nat.reduceLeDiff, true_and, and_true, List.append_eq, List.cons.injEq, Value.int.injEq, Value.long.injEq, Value.ref.injEq, exists_and_left, exists_eq_left', and_assoc, zc_b, zc_0, zc_1, zc_10, zc_01, lg_cmp_ge, lg_cmp_le, lg_cmp_gt, lg_cmp_lt, lg_cmp_eq, zw_le, zw_lt, reduceIte, true_or, or_true, zw_g0, zw_l0, zw_g1, zw_l1, zw_g2, zw_l2, zw_g3, zw_l3, zw_g5, zw_l5, zw_g6, zw_l6, zw_g7, zw_l7, zw_g9, zw_l9, zw_g10, zw_l10, zw_g15, zw_l15, zw_g16, zw_l16, zw_g48, zw_l48, zw_g50, zw_l50, zw_g57, zw_l57, zw_g97, zw_l97, zw_g100, zw_l100, zw_g200, zw_l200, zw_g999, zw_l999, zw_g9999, zw_l9999]
          have g1 : zq_fx [5, 6] [] h1 (zq_setI (zq_setI h1 52 5 (nI (d + 1))) 52 6 (nI (C &&& (31 - 2 ^ (d + 1))))) := zfx_F (zfx_F zfx_rf (by decide)) (by decide)
          refine ⟨n, s, e, p, s p, rfl, XD_fx (XD_fx hD f1 (by decide)) g1 (by decide), fun q3 h2 d2 f2 => ?_, fun q3 => absurd ⟨hp, rfl⟩ q3⟩
          have f2 : zq_fx [] [1] _ h2 := zfx_fr f2 (by decide)
          simp only [not_true_eq_false, not_false_eq_true, forall_const, true_and, and_true, false_and, and_false, if_true, if_false, reduceIte, implies_true, and_self, ite_self, true_or, or_true, false_or, or_false, true_implies, false_implies, Classical.not_not, false_imp_iff, not_false_iff, zi_push, zi_iload, zi_lload, zi_aload, zi_istore, zi_astore, zi_lstore, zi_iinc, zi_i2, zi_i1, zi_idv, zi_l2, zi_ldv, zi_lsh, zi_i2l, zi_l2i, zi_lcmp, zi_dup, zi_dup2, zi_pop, zi_if1, zi_if2, zi_getI, zi_getL, zi_getR, zi_putI, zi_putZ, zi_putL, zi_aldI, zi_aldL, zi_astI, zi_astZ, zi_astL, zi_alen, zi_iret, zi_zret, zi_lret, zi_vret, zi_callV, zi_callS, zi_sw, zi_copyI, zi_copyL, zi_m2, zi_m1, zi_sval, zi_scod, zi_fmt, zi_balen, zi_bald, zi_bret, zi_callT, zq_nth, zq_put1, zq_put2, zq_clr, zq_nl, zq_tk, zq_ps, zq_sw, zq_l0, zq_a, zq_a1, List.length_cons, List.length_nil, List.nil_append, List.cons_append, List.append_nil, List.replicate, Nat.reduceAdd, Nat.reduceSub, Nat.reduceLeDiff, true_and, and_true, List.append_eq, List.cons.injEq, Value.int.injEq, Value.long.injEq, Value.ref.injEq, exists_and_left, exists_eq_left', and_assoc, zc_b, zc_0, zc_1, zc_10, zc_01, lg_cmp_ge, lg_cmp_le, lg_cmp_gt, lg_cmp_lt, lg_cmp_eq, zw_le, zw_lt, reduceIte, true_or, or_true, zw_g0, zw_l0, zw_g1, zw_l1, zw_g2, zw_l2, zw_g3, zw_l3, zw_g5, zw_l5, zw_g6, zw_l6, zw_g7, zw_l7, zw_g9, zw_l9, zw_g10, zw_l10, zw_g15, zw_l15, zw_g16, zw_l16, zw_g48, zw_l48, zw_g50, zw_l50, zw_g57, zw_l57, zw_g97, zw_l97, zw_g100, zw_l100, zw_g200, zw_l200, zw_g999, zw_l999, zw_g9999, zw_l9999]
          exact k h2 ⟨d2, zoX_fx (zoX_fx (zoX_fx hO f1 (by decide)) g1 (by decide)) f2 (by decide), zhX_fx (zhX_fx b1 g1 (by decide)) f2 (by decide), by rw [f2.2 5 (by decide)]; simp [zq_sI], ⟨C &&& (31 - 2 ^ (d + 1)), r2, by rw [f2.2 6 (by decide)]; simp [zq_sI], fun i hi => by rw [r3 i hi, hC3 i hi]; rfl⟩, by rw [f2.2 7 (by decide), g1.2 7 (by decide), f1.2 7 (by decide)]; exact h7⟩ (zfx_t (zfx_t (zfx_t zfx_rf f1 (by decide)) g1 (by decide)) f2 (by decide))
      · rw [if_neg (fun y => q2 y.2)] at k
        exact l92 k
  · have nd : zisd s e p := Classical.byContradiction (fun z => by rw [zln_no z] at q; exact absurd q (Nat.lt_irrefl 0))
    rw [if_pos nd] at k
    have e0 : (nI (znv s p (zln s e p 3)) < 0) = False := eq_false (nI_pos (by
      have h1 := znv_lt (s := s) (e := e) (p := p) (zln s e p 3) (fun i hi => zln_d 3 p i hi)
      have h2 : 10 ^ zln s e p 3 ≤ 10 ^ 3 := Nat.pow_le_pow_right (by decide) (zln_le 3 p)
      omega))
    have f1 : zq_fx [] [1] h h1 := zfx_fr f1 (by decide)
    simp only [e0, xX6_readThing_10, not_true_eq_false, not_false_eq_true, forall_const, true_and, and_true, false_and, and_false, if_true, if_false, reduceIte, implies_true, and_self, ite_self, true_or, or_true, false_or, or_false, true_implies, false_implies, Classical.not_not, false_imp_iff, not_false_iff, zi_push, zi_iload, zi_lload, zi_aload, zi_istore, zi_astore, zi_lstore, zi_iinc, zi_i2, zi_i1, zi_idv, zi_l2, zi_ldv, zi_lsh, zi_i2l, zi_l2i, zi_lcmp, zi_dup, zi_dup2, zi_pop, zi_if1, zi_if2, zi_getI, zi_getL, zi_getR, zi_putI, zi_putZ, zi_putL, zi_aldI, zi_aldL, zi_astI, zi_astZ, zi_astL, zi_alen, zi_iret, zi_zret, zi_lret, zi_vret, zi_callV, zi_callS, zi_sw, zi_copyI, zi_copyL, zi_m2, zi_m1, zi_sval, zi_scod, zi_fmt, zi_balen, zi_bald, zi_bret, zi_callT, zq_nth, zq_put1, zq_put2, zq_clr, zq_nl, zq_tk, zq_ps, zq_sw, zq_l0, zq_a, zq_a1, List.length_cons, List.length_nil, List.nil_append, List.cons_append, List.append_nil, List.replicate, Nat.reduceAdd, Nat.reduceSub, Nat.reduceLeDiff, true_and, and_true, List.append_eq, List.cons.injEq, Value.int.injEq, Value.long.injEq, Value.ref.injEq, exists_and_left, exists_eq_left', and_assoc, zc_b, zc_0, zc_1, zc_10, zc_01, lg_cmp_ge, lg_cmp_le, lg_cmp_gt, lg_cmp_lt, lg_cmp_eq, zw_le, zw_lt, reduceIte, true_or, or_true, zw_g0, zw_l0, zw_g1, zw_l1, zw_g2, zw_l2, zw_g3, zw_l3, zw_g5, zw_l5, zw_g6, zw_l6, zw_g7, zw_l7, zw_g9, zw_l9, zw_g10, zw_l10, zw_g15, zw_l15, zw_g16, zw_l16, zw_g48, zw_l48, zw_g50, zw_l50, zw_g57, zw_l57, zw_g97, zw_l97, zw_g100, zw_l100, zw_g200, zw_l200, zw_g999, zw_l999, zw_g9999, zw_l9999]
    refine ⟨O, .inl (znv s p (zln s e p 3)), rfl, by omega, zoX_fx hO f1 (by decide), fun h2 b2 f2 => ?_⟩
    simp only [not_true_eq_false, not_false_eq_true, forall_const, true_and, and_true, false_and, and_false, if_true, if_false, reduceIte, implies_true, and_self, ite_self, true_or, or_true, false_or, or_false, true_implies, false_implies, Classical.not_not, false_imp_iff, not_false_iff, zi_push, zi_iload, zi_lload, zi_aload, zi_istore, zi_astore, zi_lstore, zi_iinc, zi_i2, zi_i1, zi_idv, zi_l2, zi_ldv, zi_lsh, zi_i2l, zi_l2i, zi_lcmp, zi_dup, zi_dup2, zi_pop, zi_if1, zi_if2, zi_getI, zi_getL, zi_getR, zi_putI, zi_putZ, zi_putL, zi_aldI, zi_aldL, zi_astI, zi_astZ, zi_astL, zi_alen, zi_iret, zi_zret, zi_lret, zi_vret, zi_callV, zi_callS, zi_sw, zi_copyI, zi_copyL, zi_m2, zi_m1, zi_sval, zi_scod, zi_fmt, zi_balen, zi_bald, zi_bret, zi_callT, zq_nth, zq_put1, zq_put2, zq_clr, zq_nl, zq_tk, zq_ps, zq_sw, zq_l0, zq_a, zq_a1, List.length_cons, List.length_nil, List.nil_append, List.cons_append, List.append_nil, List.replicate, Nat.reduceAdd, Nat.reduceSub, Nat.reduceLeDiff, true_and, and_true, List.append_eq, List.cons.injEq, Value.int.injEq, Value.long.injEq, Value.ref.injEq, exists_and_left, exists_eq_left', and_assoc, zc_b, zc_0, zc_1, zc_10, zc_01, lg_cmp_ge, lg_cmp_le, lg_cmp_gt, lg_cmp_lt, lg_cmp_eq, zw_le, zw_lt, reduceIte, true_or, or_true, zw_g0, zw_l0, zw_g1, zw_l1, zw_g2, zw_l2, zw_g3, zw_l3, zw_g5, zw_l5, zw_g6, zw_l6, zw_g7, zw_l7, zw_g9, zw_l9, zw_g10, zw_l10, zw_g15, zw_l15, zw_g16, zw_l16, zw_g48, zw_l48, zw_g50, zw_l50, zw_g57, zw_l57, zw_g97, zw_l97, zw_g100, zw_l100, zw_g200, zw_l200, zw_g999, zw_l999, zw_g9999, zw_l9999]
    have g1 : zq_fx [7] [] h2 (zq_setI h2 52 7 0) := zfx_F zfx_rf (by decide)
    exact k _ ⟨XD_fx (XD_fx d1 f2 (by decide)) g1 (by decide), zoX_fx b2 g1 (by decide), zhX_fx (zhX_fx (zhX_fx hW f1 (by decide)) f2 (by decide)) g1 (by decide), by rw [g1.2 5 (by decide), f2.2 5 (by decide), f1.2 5 (by decide)]; exact h5, zcX_fx (zcX_fx (zcX_fx hC f1 (by decide)) f2 (by decide)) g1 (by decide), by simp [zq_sI]; rfl⟩ (zfx_t (zfx_t (zfx_t zfx_rf f1 (by decide)) f2 (by decide)) g1 (by decide))
