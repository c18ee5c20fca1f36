/-! ===== guests ===== -/
theorem zfault_eq {n lim p e : Nat} {b : Int32} (he : e = min n lim) (hp : p ≤ e) : (if lim < n ∧ ((¬ b = 0 ∧ p = e) ∨ lim ≤ p) then -1 - nI lim else if ¬ b = 0 ∧ p = e then 0 else -1 - nI p) = if ¬ b = 0 ∧ p = n then (0 : Int32) else -1 - nI p := by
  subst he
  by_cases c1 : lim < n
  · rw [if_neg (show ¬ (¬ b = 0 ∧ p = n) from fun z => by omega)]
    by_cases c2 : p = lim
    · rw [if_pos ⟨c1, Or.inr (by omega)⟩, c2]
    · rw [if_neg (fun z => by rcases z.2 with y | y <;> omega), if_neg (fun z => by omega)]
  · rw [if_neg (fun z => c1 z.1), show min n lim = n by omega]
/-- whether all stands, where the reader stays, how many lines -/
def zgq (s : Nat → Int32) (e : Nat) : Nat → Nat → Bool × Nat × Nat
  | 0, r => (false, 4 * r, r)
  | m + 1, r => if zln s e (4 * r) 3 < 3 then (false, 4 * r + zln s e (4 * r) 3, r + 1) else if 4 * r + 3 < e ∧ s (4 * r + 3) = 59 then zgq s e m (r + 1) else (true, 4 * r + 3, r + 1)
def zgT (V : zV) : Bool × Nat × Nat := zgq (vsg V) (min (vs V) 23) (6 - vg V) 0
theorem zgq_le {s : Nat → Int32} {e : Nat} : ∀ m r, 4 * r ≤ e → (zgq s e m r).2.1 ≤ e ∧ ((zgq s e m r).1 = true → (zgq s e m r).2.2 ≤ m + r ∧ r < (zgq s e m r).2.2)
  | 0, r, h => ⟨h, fun q => by cases q⟩
  | m + 1, r, h => by
    have h1 := zln_e (s := s) 3 (4 * r) h
    rw [zgq]
    split
    · exact ⟨h1, fun q => by cases q⟩
    · next q =>
      have h2 := zln_le (s := s) (e := e) 3 (4 * r)
      split
      · next q2 =>
        have ih := zgq_le (s := s) (e := e) m (r + 1) (by omega)
        exact ⟨ih.1, fun z => by have := ih.2 z; omega⟩
      · exact ⟨by dsimp only; omega, fun _ => ⟨by dsimp only; omega, Nat.lt_succ_self _⟩⟩
def zgok (V : zV) : Prop := vs V = 0 ∨ ((zgT V).1 = true ∧ (zgT V).2.1 = vs V)
def zgn (V : zV) : Nat := if vs V = 0 then 0 else (zgT V).2.2
def zgta (V : zV) : Nat → Int32 := fun i => if i < 3 * vg V then vta V i else nI (zdv (vsg V) (4 * ((i - 3 * vg V) / 3) + (i - 3 * vg V) % 3))
def zgde (V : zV) : Nat → Int32 := fun i => if i < vg V then vde V i else 1
def vSG (V : zV) (g : Nat) (ta de : Nat → Int32) : zV := (V.1, V.2.1, (g, ta, de), V.2.2.2)
def vST (V : zV) (n : Nat) : zV := ((n, vsg V), V.2)
theorem zgn_le {V : zV} (hg : vg V ≤ 6) (h : zgok V) : vg V + zgn V ≤ 6 := by
  unfold zgn
  rcases h with q | ⟨q1, q2⟩
  · rw [if_pos q]
    exact hg
  · have := ((zgq_le (s := vsg V) (e := min (vs V) 23) (6 - vg V) 0 (by omega)).2 q1).1
    have e : (zgT V).2.2 ≤ 6 - vg V + 0 := this
    split <;> omega
/-- new tastes behind the guests that are there, r lines of them -/
def zlk (V : zV) (r : Nat) (f : Nat → Int32) : Prop := (∀ i, i < 3 * vg V → f i = vta V i) ∧ ∀ j t, j < r → t < 3 → f (3 * vg V + 3 * j + t) = nI (zdv (vsg V) (4 * j + t))
theorem zlk_ta {V : zV} {r : Nat} {f : Nat → Int32} (k : zlk V r f) : ∀ i, i < 3 * (vg V + r) → f i = zgta V i := by
  intro i hi
  unfold zgta
  split
  · next q => exact k.1 i q
  · next q =>
    have h := k.2 ((i - 3 * vg V) / 3) ((i - 3 * vg V) % 3) (by omega) (by omega)
    rw [show 3 * vg V + 3 * ((i - 3 * vg V) / 3) + (i - 3 * vg V) % 3 = i by omega] at h
    exact h
def sp_readLines : zq_Sp := fun args h Q => ∃ V, args = [.ref 5, .ref 1] ∧ XC V h ∧ XT (vs V) (vsg V) h ∧
  (zgok V → ∀ h' p, XT (vs V) (vsg V) h' → zlk V (zgn V) (h'.1 6) → h'.1 1 3 = nI p → zq_fr [1, 6] h h' → Q (some (.int (nI (zgn V)))) h') ∧
  (¬ zgok V → ∀ h', XT (vs V) (vsg V) h' → zlk V 0 (h'.1 6) → h'.1 1 3 = nI (zgT V).2.1 → zq_fr [1, 6] h h' → Q (some (.int (-1))) h')
def zrl (Q : zq_Q) (h0 h : zq_H) (V : zV) (r : Nat) : Prop := XC V h0 ∧ ¬ vs V = 0 ∧ zq_fr [1, 6] h0 h ∧ (vg V + r ≤ 6 ∧ zgq (vsg V) (min (vs V) 23) (6 - vg V - r) r = zgT V) ∧ zlk V r (h.1 6) ∧
  (zgok V → ∀ h' p, XT (vs V) (vsg V) h' → zlk V (zgn V) (h'.1 6) → h'.1 1 3 = nI p → zq_fr [1, 6] h0 h' → Q (some (.int (nI (zgn V)))) h') ∧
  (¬ zgok V → ∀ h', XT (vs V) (vsg V) h' → zlk V 0 (h'.1 6) → h'.1 1 3 = nI (zgT V).2.1 → zq_fr [1, 6] h0 h' → Q (some (.int (-1))) h')
def I_rl20 (Q : zq_Q) (z : zq_H × zV × Nat × Nat) : zq_P := fun ls st h => match z with
  | (h0, V, r, _) => ∃ s3 s4, ls = [some (.ref 5), some (.ref 1), some (.int (nI (vg V + r))), s3, s4] ∧ st = [] ∧ XD (vs V) (vsg V) (min (vs V) 23) (4 * r) h ∧ zrl Q h0 h V r
def I_rl28 (Q : zq_Q) (z : zq_H × zV × Nat × Nat) : zq_P := fun ls st h => match z with
  | (h0, V, r, t) => ∃ s4, ls = [some (.ref 5), some (.ref 1), some (.int (nI (vg V + r))), some (.int (nI t)), s4] ∧ st = [] ∧ (vg V + r < 6 ∧ t ≤ 3) ∧ XD (vs V) (vsg V) (min (vs V) 23) (4 * r + t) h ∧ (∀ i, i < t → zisd (vsg V) (min (vs V) 23) (4 * r + i)) ∧ (∀ i, i < t → h.1 6 (3 * vg V + 3 * r + i) = nI (zdv (vsg V) (4 * r + i))) ∧ zrl Q h0 h V r
theorem zlk_0 {V : zV} {r : Nat} {f : Nat → Int32} (k : zlk V r f) : zlk V 0 f := ⟨k.1, fun j t h => absurd h (Nat.not_lt_zero _)⟩
theorem z3d (a t : Nat) : nI a * 3 + nI t = nI (3 * a + t) := z3b a t
theorem ok_readLines : zq_M yX3_readLines cX3_readLines 5 (some .int) 1 2 sp_readLines := by
  refine mX3_readLines ok_xStart (by decide) ok_xFin (by decide) ok_xDigit (by decide) ok_xSkip (by decide) (fun z => (6 - z.2.2.1) * 20) I_rl20 (fun z => (6 - z.2.2.1) * 20 - 1 - z.2.2.2) I_rl28 (fun args h Q hs => ?_) (fun Q z ls st h hi => ?_) (fun Q z ls st h hi => ?_)
  · obtain ⟨V, rfl, hX, hT, k1, k2⟩ := hs
    have hg := hX.2.1.1
    have hk : zlk V 0 (h.1 6) := ⟨hX.2.1.2.2.1, fun j t hj => absurd hj (Nat.not_lt_zero _)⟩
    refine ⟨Nat.le_of_ble_eq_true rfl, ?_⟩
    simp only [xX3_readLines_100, xX3_readLines_94, xX3_readLines_93, xX3_readLines_92, xX3_readLines_81, xX3_readLines_74, xX3_readLines_65, xX3_readLines_47, xX3_readLines_45, xX3_readLines_33, xX3_readLines_28, xX3_readLines_26, xX3_readLines_20, xX3_readLines_15, xX3_readLines_13, xX3_readLines_0, zi_push, zi_iload, zi_lload, zi_aload, zi_istore, zi_astore, zi_lstore, zi_iinc, zi_i2, zi_i1, zi_idv, zi_l2, zi_ldv, zi_lsh, zi_i2l, zi_l2i, zi_lcmp, zi_dup, zi_dup2, zi_pop, zi_if1, zi_if2, zi_getI, zi_getL, zi_getR, zi_putI, zi_putZ, zi_putL, zi_aldI, zi_aldL, zi_astI, zi_astZ, zi_astL, zi_alen, zi_iret, zi_zret, zi_lret, zi_vret, zi_callV, zi_callS, zi_sw, zi_copyI, zi_copyL, zi_m2, zi_m1, zi_sval, zi_scod, zi_fmt, zi_balen, zi_bald, zi_bret, zi_callT, zq_nth, zq_put1, zq_put2, zq_clr, zq_nl, zq_tk, zq_ps, zq_sw, zq_l0, zq_a, zq_a1, List.length_cons, List.length_nil, List.nil_append, List.cons_append, List.append_nil, List.replicate, Nat.reduceAdd, Nat.reduceSub, Nat.reduceLeDiff, true_and, and_true, List.append_eq, List.cons.injEq, Value.int.injEq, Value.long.injEq, Value.ref.injEq, exists_and_left, exists_eq_left', and_assoc, zc_b, zc_0, zc_1, zc_10, zc_01, lg_cmp_ge, lg_cmp_le, lg_cmp_gt, lg_cmp_lt, lg_cmp_eq, zw_le, zw_lt, reduceIte, true_or, or_true, zw_g0, zw_l0, zw_g1, zw_l1, zw_g2, zw_l2, zw_g3, zw_l3, zw_g5, zw_l5, zw_g6, zw_l6, zw_g7, zw_l7, zw_g9, zw_l9, zw_g10, zw_l10, zw_g15, zw_l15, zw_g16, zw_l16, zw_g48, zw_l48, zw_g50, zw_l50, zw_g57, zw_l57, zw_g97, zw_l97, zw_g100, zw_l100, zw_g200, zw_l200, zw_g999, zw_l999, zw_g9999, zw_l9999]
    refine ⟨vs V, vsg V, 23, rfl, by decide, hT, fun h1 d1 f1 => ?_⟩
    have e6 : h1.1 6 = h.1 6 := (f1 6 (by decide)).1
    have e5 : h1.1 5 3 = nI (vg V) := by rw [(f1 5 (by decide)).1]; exact hX.2.1.2.1
    simp only [zi_push, zi_iload, zi_lload, zi_aload, zi_istore, zi_astore, zi_lstore, zi_iinc, zi_i2, zi_i1, zi_idv, zi_l2, zi_ldv, zi_lsh, zi_i2l, zi_l2i, zi_lcmp, zi_dup, zi_dup2, zi_pop, zi_if1, zi_if2, zi_getI, zi_getL, zi_getR, zi_putI, zi_putZ, zi_putL, zi_aldI, zi_aldL, zi_astI, zi_astZ, zi_astL, zi_alen, zi_iret, zi_zret, zi_lret, zi_vret, zi_callV, zi_callS, zi_sw, zi_copyI, zi_copyL, zi_m2, zi_m1, zi_sval, zi_scod, zi_fmt, zi_balen, zi_bald, zi_bret, zi_callT, zq_nth, zq_put1, zq_put2, zq_clr, zq_nl, zq_tk, zq_ps, zq_sw, zq_l0, zq_a, zq_a1, List.length_cons, List.length_nil, List.nil_append, List.cons_append, List.append_nil, List.replicate, Nat.reduceAdd, Nat.reduceSub, Nat.reduceLeDiff, true_and, and_true, List.append_eq, List.cons.injEq, Value.int.injEq, Value.long.injEq, Value.ref.injEq, exists_and_left, exists_eq_left', and_assoc, zc_b, zc_0, zc_1, zc_10, zc_01, lg_cmp_ge, lg_cmp_le, lg_cmp_gt, lg_cmp_lt, lg_cmp_eq, zw_le, zw_lt, reduceIte, true_or, or_true, zw_g0, zw_l0, zw_g1, zw_l1, zw_g2, zw_l2, zw_g3, zw_l3, zw_g5, zw_l5, zw_g6, zw_l6, zw_g7, zw_l7, zw_g9, zw_l9, zw_g10, zw_l10, zw_g15, zw_l15, zw_g16, zw_l16, zw_g48, zw_l48, zw_g50, zw_l50, zw_g57, zw_l57, zw_g97, zw_l97, zw_g100, zw_l100, zw_g200, zw_l200, zw_g999, zw_l999, zw_g9999, zw_l9999]
    refine ⟨vs V, vsg V, _, 0, rfl, d1, fun q => ?_, fun q => ?_⟩
    · simp only [zc_10, not_true_eq_false, not_false_eq_true, forall_const, true_and, and_true, false_and, and_false, if_true, if_false, reduceIte, implies_true, and_self, ite_self, true_or, or_true, false_or, or_false, true_implies, false_implies, Classical.not_not, false_imp_iff, not_false_iff, zi_push, zi_iload, zi_lload, zi_aload, zi_istore, zi_astore, zi_lstore, zi_iinc, zi_i2, zi_i1, zi_idv, zi_l2, zi_ldv, zi_lsh, zi_i2l, zi_l2i, zi_lcmp, zi_dup, zi_dup2, zi_pop, zi_if1, zi_if2, zi_getI, zi_getL, zi_getR, zi_putI, zi_putZ, zi_putL, zi_aldI, zi_aldL, zi_astI, zi_astZ, zi_astL, zi_alen, zi_iret, zi_zret, zi_lret, zi_vret, zi_callV, zi_callS, zi_sw, zi_copyI, zi_copyL, zi_m2, zi_m1, zi_sval, zi_scod, zi_fmt, zi_balen, zi_bald, zi_bret, zi_callT, zq_nth, zq_put1, zq_put2, zq_clr, zq_nl, zq_tk, zq_ps, zq_sw, zq_l0, zq_a, zq_a1, List.length_cons, List.length_nil, List.nil_append, List.cons_append, List.append_nil, List.replicate, Nat.reduceAdd, Nat.reduceSub, Nat.reduceLeDiff, true_and, and_true, List.append_eq, List.cons.injEq, Value.int.injEq, Value.long.injEq, Value.ref.injEq, exists_and_left, exists_eq_left', and_assoc, zc_b, zc_0, zc_1, zc_10, zc_01, lg_cmp_ge, lg_cmp_le, lg_cmp_gt, lg_cmp_lt, lg_cmp_eq, zw_le, zw_lt, reduceIte, true_or, or_true, zw_g0, zw_l0, zw_g1, zw_l1, zw_g2, zw_l2, zw_g3, zw_l3, zw_g5, zw_l5, zw_g6, zw_l6, zw_g7, zw_l7, zw_g9, zw_l9, zw_g10, zw_l10, zw_g15, zw_l15, zw_g16, zw_l16, zw_g48, zw_l48, zw_g50, zw_l50, zw_g57, zw_l57, zw_g97, zw_l97, zw_g100, zw_l100, zw_g200, zw_l200, zw_g999, zw_l999, zw_g9999, zw_l9999]
      have q0 : vs V = 0 := by omega
      have k3 := k1 (Or.inl q0) h1 0 d1.1 (by rw [e6]; unfold zgn; rw [if_pos q0]; exact hk) d1.2.2.1 (zq_fr_w f1 (by decide))
      unfold zgn at k3
      rw [if_pos q0] at k3
      exact k3
    · simp only [e5, not_true_eq_false, not_false_eq_true, forall_const, true_and, and_true, false_and, and_false, if_true, if_false, reduceIte, implies_true, and_self, ite_self, true_or, or_true, false_or, or_false, true_implies, false_implies, Classical.not_not, false_imp_iff, not_false_iff, zi_push, zi_iload, zi_lload, zi_aload, zi_istore, zi_astore, zi_lstore, zi_iinc, zi_i2, zi_i1, zi_idv, zi_l2, zi_ldv, zi_lsh, zi_i2l, zi_l2i, zi_lcmp, zi_dup, zi_dup2, zi_pop, zi_if1, zi_if2, zi_getI, zi_getL, zi_getR, zi_putI, zi_putZ, zi_putL, zi_aldI, zi_aldL, zi_astI, zi_astZ, zi_astL, zi_alen, zi_iret, zi_zret, zi_lret, zi_vret, zi_callV, zi_callS, zi_sw, zi_copyI, zi_copyL, zi_m2, zi_m1, zi_sval, zi_scod, zi_fmt, zi_balen, zi_bald, zi_bret, zi_callT, zq_nth, zq_put1, zq_put2, zq_clr, zq_nl, zq_tk, zq_ps, zq_sw, zq_l0, zq_a, zq_a1, List.length_cons, List.length_nil, List.nil_append, List.cons_append, List.append_nil, List.replicate, Nat.reduceAdd, Nat.reduceSub, Nat.reduceLeDiff, true_and, and_true, List.append_eq, List.cons.injEq, Value.int.injEq, Value.long.injEq, Value.ref.injEq, exists_and_left, exists_eq_left', and_assoc, zc_b, zc_0, zc_1, zc_10, zc_01, lg_cmp_ge, lg_cmp_le, lg_cmp_gt, lg_cmp_lt, lg_cmp_eq, zw_le, zw_lt, reduceIte, true_or, or_true, zw_g0, zw_l0, zw_g1, zw_l1, zw_g2, zw_l2, zw_g3, zw_l3, zw_g5, zw_l5, zw_g6, zw_l6, zw_g7, zw_l7, zw_g9, zw_l9, zw_g10, zw_l10, zw_g15, zw_l15, zw_g16, zw_l16, zw_g48, zw_l48, zw_g50, zw_l50, zw_g57, zw_l57, zw_g97, zw_l97, zw_g100, zw_l100, zw_g200, zw_l200, zw_g999, zw_l999, zw_g9999, zw_l9999]
      refine ⟨(h, V, 0, 0), none, none, rfl, rfl, d1, hX, by omega, zq_fr_w f1 (by decide), ⟨hg, rfl⟩, by rw [e6]; exact hk, k1, k2⟩
  · obtain ⟨h0, V, r, t9⟩ := z
    obtain ⟨s3, s4, rfl, rfl, hD, hX, h00, hf, ⟨hr, hq⟩, hk, k1, k2⟩ := hi
    have e : (6 ≤ nI (vg V + r)) = (vg V + r = 6) := zl_ge (n := 6) hr (by decide)
    simp only [xX3_readLines_20, xX3_readLines_26, xX3_readLines_100, e, zi_push, zi_iload, zi_lload, zi_aload, zi_istore, zi_astore, zi_lstore, zi_iinc, zi_i2, zi_i1, zi_idv, zi_l2, zi_ldv, zi_lsh, zi_i2l, zi_l2i, zi_lcmp, zi_dup, zi_dup2, zi_pop, zi_if1, zi_if2, zi_getI, zi_getL, zi_getR, zi_putI, zi_putZ, zi_putL, zi_aldI, zi_aldL, zi_astI, zi_astZ, zi_astL, zi_alen, zi_iret, zi_zret, zi_lret, zi_vret, zi_callV, zi_callS, zi_sw, zi_copyI, zi_copyL, zi_m2, zi_m1, zi_sval, zi_scod, zi_fmt, zi_balen, zi_bald, zi_bret, zi_callT, zq_nth, zq_put1, zq_put2, zq_clr, zq_nl, zq_tk, zq_ps, zq_sw, zq_l0, zq_a, zq_a1, List.length_cons, List.length_nil, List.nil_append, List.cons_append, List.append_nil, List.replicate, Nat.reduceAdd, Nat.reduceSub, Nat.reduceLeDiff, true_and, and_true, List.append_eq, List.cons.injEq, Value.int.injEq, Value.long.injEq, Value.ref.injEq, exists_and_left, exists_eq_left', and_assoc, zc_b, zc_0, zc_1, zc_10, zc_01, lg_cmp_ge, lg_cmp_le, lg_cmp_gt, lg_cmp_lt, lg_cmp_eq, zw_le, zw_lt, reduceIte, true_or, or_true, zw_g0, zw_l0, zw_g1, zw_l1, zw_g2, zw_l2, zw_g3, zw_l3, zw_g5, zw_l5, zw_g6, zw_l6, zw_g7, zw_l7, zw_g9, zw_l9, zw_g10, zw_l10, zw_g15, zw_l15, zw_g16, zw_l16, zw_g48, zw_l48, zw_g50, zw_l50, zw_g57, zw_l57, zw_g97, zw_l97, zw_g100, zw_l100, zw_g200, zw_l200, zw_g999, zw_l999, zw_g9999, zw_l9999]
    refine ⟨fun q => ?_, fun q => ⟨(h0, V, r, 0), by dsimp only; omega, s4, rfl, rfl, ⟨by omega, by omega⟩, hD, fun i hi => absurd hi (Nat.not_lt_zero _), fun i hi => absurd hi (Nat.not_lt_zero _), hX, h00, hf, ⟨hr, hq⟩, hk, k1, k2⟩⟩
    rw [show 6 - vg V - r = 0 by omega, zgq] at hq
    refine k2 (fun z => ?_) h hD.1 (zlk_0 hk) (by rw [← hq]; exact hD.2.2.1) hf
    rcases z with z | ⟨z, -⟩
    · exact h00 z
    · rw [← hq] at z
      cases z
  · obtain ⟨h0, V, r, t⟩ := z
    obtain ⟨s4, rfl, rfl, ⟨hr, ht⟩, hD, hd, h6, hX, h00, hf, ⟨hr2, hq⟩, hk, k1, k2⟩ := hi
    have e : (3 ≤ nI t) = (t = 3) := zl_ge (n := 3) ht (by decide)
    have e5 : h.1 5 3 = nI (vg V) := by rw [(hf 5 (by decide)).1]; exact hX.2.1.2.1
    have hz := zln_sp (s := vsg V) (e := min (vs V) 23) t (3 - t) (4 * r) hd
    rw [show t + (3 - t) = 3 by omega] at hz
    rw [show 6 - vg V - r = (6 - vg V - r - 1) + 1 by omega, zgq] at hq
    simp only [xX3_readLines_28, xX3_readLines_33, e, zi_push, zi_iload, zi_lload, zi_aload, zi_istore, zi_astore, zi_lstore, zi_iinc, zi_i2, zi_i1, zi_idv, zi_l2, zi_ldv, zi_lsh, zi_i2l, zi_l2i, zi_lcmp, zi_dup, zi_dup2, zi_pop, zi_if1, zi_if2, zi_getI, zi_getL, zi_getR, zi_putI, zi_putZ, zi_putL, zi_aldI, zi_aldL, zi_astI, zi_astZ, zi_astL, zi_alen, zi_iret, zi_zret, zi_lret, zi_vret, zi_callV, zi_callS, zi_sw, zi_copyI, zi_copyL, zi_m2, zi_m1, zi_sval, zi_scod, zi_fmt, zi_balen, zi_bald, zi_bret, zi_callT, zq_nth, zq_put1, zq_put2, zq_clr, zq_nl, zq_tk, zq_ps, zq_sw, zq_l0, zq_a, zq_a1, List.length_cons, List.length_nil, List.nil_append, List.cons_append, List.append_nil, List.replicate, Nat.reduceAdd, Nat.reduceSub, Nat.reduceLeDiff, true_and, and_true, List.append_eq, List.cons.injEq, Value.int.injEq, Value.long.injEq, Value.ref.injEq, exists_and_left, exists_eq_left', and_assoc, zc_b, zc_0, zc_1, zc_10, zc_01, lg_cmp_ge, lg_cmp_le, lg_cmp_gt, lg_cmp_lt, lg_cmp_eq, zw_le, zw_lt, reduceIte, true_or, or_true, zw_g0, zw_l0, zw_g1, zw_l1, zw_g2, zw_l2, zw_g3, zw_l3, zw_g5, zw_l5, zw_g6, zw_l6, zw_g7, zw_l7, zw_g9, zw_l9, zw_g10, zw_l10, zw_g15, zw_l15, zw_g16, zw_l16, zw_g48, zw_l48, zw_g50, zw_l50, zw_g57, zw_l57, zw_g97, zw_l97, zw_g100, zw_l100, zw_g200, zw_l200, zw_g999, zw_l999, zw_g9999, zw_l9999]
    refine ⟨fun q => ?_, fun q => ⟨vs V, vsg V, _, _, 0, rfl, by decide, hD, fun q2 h1 d1 f1 => ?_, fun q2 => ?_⟩⟩
    · subst q
      rw [Nat.sub_self, zln, Nat.add_zero] at hz
      rw [hz, if_neg (by decide)] at hq
      have hk1 : zlk V (r + 1) (h.1 6) := ⟨hk.1, fun j t hj ht => by
        by_cases q : j = r
        · rw [q]
          exact h6 t ht
        · exact hk.2 j t (by omega) ht⟩
      simp only [xX3_readLines_65, zi_push, zi_iload, zi_lload, zi_aload, zi_istore, zi_astore, zi_lstore, zi_iinc, zi_i2, zi_i1, zi_idv, zi_l2, zi_ldv, zi_lsh, zi_i2l, zi_l2i, zi_lcmp, zi_dup, zi_dup2, zi_pop, zi_if1, zi_if2, zi_getI, zi_getL, zi_getR, zi_putI, zi_putZ, zi_putL, zi_aldI, zi_aldL, zi_astI, zi_astZ, zi_astL, zi_alen, zi_iret, zi_zret, zi_lret, zi_vret, zi_callV, zi_callS, zi_sw, zi_copyI, zi_copyL, zi_m2, zi_m1, zi_sval, zi_scod, zi_fmt, zi_balen, zi_bald, zi_bret, zi_callT, zq_nth, zq_put1, zq_put2, zq_clr, zq_nl, zq_tk, zq_ps, zq_sw, zq_l0, zq_a, zq_a1, List.length_cons, List.length_nil, List.nil_append, List.cons_append, List.append_nil, List.replicate, Nat.reduceAdd, Nat.reduceSub, Nat.reduceLeDiff, true_and, and_true, List.append_eq, List.cons.injEq, Value.int.injEq, Value.long.injEq, Value.ref.injEq, exists_and_left, exists_eq_left', and_assoc, zc_b, zc_0, zc_1, zc_10, zc_01, lg_cmp_ge, lg_cmp_le, lg_cmp_gt, lg_cmp_lt, lg_cmp_eq, zw_le, zw_lt, reduceIte, true_or, or_true, zw_g0, zw_l0, zw_g1, zw_l1, zw_g2, zw_l2, zw_g3, zw_l3, zw_g5, zw_l5, zw_g6, zw_l6, zw_g7, zw_l7, zw_g9, zw_l9, zw_g10, zw_l10, zw_g15, zw_l15, zw_g16, zw_l16, zw_g48, zw_l48, zw_g50, zw_l50, zw_g57, zw_l57, zw_g97, zw_l97, zw_g100, zw_l100, zw_g200, zw_l200, zw_g999, zw_l999, zw_g9999, zw_l9999]
      refine ⟨vs V, vsg V, _, _, 59, rfl, hD, fun q2 h1 d1 f1 => ?_, fun q2 => ?_⟩
      · simp only [zc_10, xX3_readLines_94, nI_1, not_true_eq_false, not_false_eq_true, forall_const, true_and, and_true, false_and, and_false, if_true, if_false, reduceIte, implies_true, and_self, ite_self, true_or, or_true, false_or, or_false, true_implies, false_implies, Classical.not_not, false_imp_iff, not_false_iff, zi_push, zi_iload, zi_lload, zi_aload, zi_istore, zi_astore, zi_lstore, zi_iinc, zi_i2, zi_i1, zi_idv, zi_l2, zi_ldv, zi_lsh, zi_i2l, zi_l2i, zi_lcmp, zi_dup, zi_dup2, zi_pop, zi_if1, zi_if2, zi_getI, zi_getL, zi_getR, zi_putI, zi_putZ, zi_putL, zi_aldI, zi_aldL, zi_astI, zi_astZ, zi_astL, zi_alen, zi_iret, zi_zret, zi_lret, zi_vret, zi_callV, zi_callS, zi_sw, zi_copyI, zi_copyL, zi_m2, zi_m1, zi_sval, zi_scod, zi_fmt, zi_balen, zi_bald, zi_bret, zi_callT, zq_nth, zq_put1, zq_put2, zq_clr, zq_nl, zq_tk, zq_ps, zq_sw, zq_l0, zq_a, zq_a1, List.length_cons, List.length_nil, List.nil_append, List.cons_append, List.append_nil, List.replicate, Nat.reduceAdd, Nat.reduceSub, Nat.reduceLeDiff, true_and, and_true, List.append_eq, List.cons.injEq, Value.int.injEq, Value.long.injEq, Value.ref.injEq, exists_and_left, exists_eq_left', and_assoc, zc_b, zc_0, zc_1, zc_10, zc_01, lg_cmp_ge, lg_cmp_le, lg_cmp_gt, lg_cmp_lt, lg_cmp_eq, zw_le, zw_lt, reduceIte, true_or, or_true, zw_g0, zw_l0, zw_g1, zw_l1, zw_g2, zw_l2, zw_g3, zw_l3, zw_g5, zw_l5, zw_g6, zw_l6, zw_g7, zw_l7, zw_g9, zw_l9, zw_g10, zw_l10, zw_g15, zw_l15, zw_g16, zw_l16, zw_g48, zw_l48, zw_g50, zw_l50, zw_g57, zw_l57, zw_g97, zw_l97, zw_g100, zw_l100, zw_g200, zw_l200, zw_g999, zw_l999, zw_g9999, zw_l9999]
        rw [if_pos q2] at hq
        exact ⟨(h0, V, r + 1, 0), by dsimp only; omega, _, _, rfl, rfl, d1, hX, h00, zq_fr_t hf f1 (by decide), ⟨by omega, by rw [← hq]; rfl⟩, by rw [(f1 6 (by decide)).1]; exact hk1, k1, k2⟩
      · rw [if_neg q2] at hq
        simp only [xX3_readLines_74, not_true_eq_false, not_false_eq_true, forall_const, true_and, and_true, false_and, and_false, if_true, if_false, reduceIte, implies_true, and_self, ite_self, true_or, or_true, false_or, or_false, true_implies, false_implies, Classical.not_not, false_imp_iff, not_false_iff, zi_push, zi_iload, zi_lload, zi_aload, zi_istore, zi_astore, zi_lstore, zi_iinc, zi_i2, zi_i1, zi_idv, zi_l2, zi_ldv, zi_lsh, zi_i2l, zi_l2i, zi_lcmp, zi_dup, zi_dup2, zi_pop, zi_if1, zi_if2, zi_getI, zi_getL, zi_getR, zi_putI, zi_putZ, zi_putL, zi_aldI, zi_aldL, zi_astI, zi_astZ, zi_astL, zi_alen, zi_iret, zi_zret, zi_lret, zi_vret, zi_callV, zi_callS, zi_sw, zi_copyI, zi_copyL, zi_m2, zi_m1, zi_sval, zi_scod, zi_fmt, zi_balen, zi_bald, zi_bret, zi_callT, zq_nth, zq_put1, zq_put2, zq_clr, zq_nl, zq_tk, zq_ps, zq_sw, zq_l0, zq_a, zq_a1, List.length_cons, List.length_nil, List.nil_append, List.cons_append, List.append_nil, List.replicate, Nat.reduceAdd, Nat.reduceSub, Nat.reduceLeDiff, true_and, and_true, List.append_eq, List.cons.injEq, Value.int.injEq, Value.long.injEq, Value.ref.injEq, exists_and_left, exists_eq_left', and_assoc, zc_b, zc_0, zc_1, zc_10, zc_01, lg_cmp_ge, lg_cmp_le, lg_cmp_gt, lg_cmp_lt, lg_cmp_eq, zw_le, zw_lt, reduceIte, true_or, or_true, zw_g0, zw_l0, zw_g1, zw_l1, zw_g2, zw_l2, zw_g3, zw_l3, zw_g5, zw_l5, zw_g6, zw_l6, zw_g7, zw_l7, zw_g9, zw_l9, zw_g10, zw_l10, zw_g15, zw_l15, zw_g16, zw_l16, zw_g48, zw_l48, zw_g50, zw_l50, zw_g57, zw_l57, zw_g97, zw_l97, zw_g100, zw_l100, zw_g200, zw_l200, zw_g999, zw_l999, zw_g9999, zw_l9999]
        refine ⟨vs V, vsg V, _, _, rfl, hD, fun q3 => ?_, fun q3 => ?_⟩
        · have hp : 4 * r + 3 = vs V := by have := hD.2.2.2; omega
          have hok : zgok V := Or.inr (by rw [← hq]; exact ⟨rfl, hp⟩)
          have en : zgn V = r + 1 := by unfold zgn; rw [if_neg h00, ← hq]
          simp only [zc_10, xX3_readLines_81, xX3_readLines_93, e5, not_true_eq_false, not_false_eq_true, forall_const, true_and, and_true, false_and, and_false, if_true, if_false, reduceIte, implies_true, and_self, ite_self, true_or, or_true, false_or, or_false, true_implies, false_implies, Classical.not_not, false_imp_iff, not_false_iff, zi_push, zi_iload, zi_lload, zi_aload, zi_istore, zi_astore, zi_lstore, zi_iinc, zi_i2, zi_i1, zi_idv, zi_l2, zi_ldv, zi_lsh, zi_i2l, zi_l2i, zi_lcmp, zi_dup, zi_dup2, zi_pop, zi_if1, zi_if2, zi_getI, zi_getL, zi_getR, zi_putI, zi_putZ, zi_putL, zi_aldI, zi_aldL, zi_astI, zi_astZ, zi_astL, zi_alen, zi_iret, zi_zret, zi_lret, zi_vret, zi_callV, zi_callS, zi_sw, zi_copyI, zi_copyL, zi_m2, zi_m1, zi_sval, zi_scod, zi_fmt, zi_balen, zi_bald, zi_bret, zi_callT, zq_nth, zq_put1, zq_put2, zq_clr, zq_nl, zq_tk, zq_ps, zq_sw, zq_l0, zq_a, zq_a1, List.length_cons, List.length_nil, List.nil_append, List.cons_append, List.append_nil, List.replicate, Nat.reduceAdd, Nat.reduceSub, Nat.reduceLeDiff, true_and, and_true, List.append_eq, List.cons.injEq, Value.int.injEq, Value.long.injEq, Value.ref.injEq, exists_and_left, exists_eq_left', and_assoc, zc_b, zc_0, zc_1, zc_10, zc_01, lg_cmp_ge, lg_cmp_le, lg_cmp_gt, lg_cmp_lt, lg_cmp_eq, zw_le, zw_lt, reduceIte, true_or, or_true, zw_g0, zw_l0, zw_g1, zw_l1, zw_g2, zw_l2, zw_g3, zw_l3, zw_g5, zw_l5, zw_g6, zw_l6, zw_g7, zw_l7, zw_g9, zw_l9, zw_g10, zw_l10, zw_g15, zw_l15, zw_g16, zw_l16, zw_g48, zw_l48, zw_g50, zw_l50, zw_g57, zw_l57, zw_g97, zw_l97, zw_g100, zw_l100, zw_g200, zw_l200, zw_g999, zw_l999, zw_g9999, zw_l9999]
          rw [nI_1, nI_sub (by omega), show vg V + r + 1 - vg V = r + 1 by omega]
          have k3 := k1 hok h _ hD.1 (by rw [en]; exact hk1) hD.2.2.1 hf
          rw [en] at k3
          exact k3
        · have hok : ¬ zgok V := by
            rintro (z | ⟨-, z⟩)
            · exact h00 z
            · rw [← hq] at z
              have z : 4 * r + 3 = vs V := z
              omega
          simp only [xX3_readLines_92, xX3_readLines_93, not_true_eq_false, not_false_eq_true, forall_const, true_and, and_true, false_and, and_false, if_true, if_false, reduceIte, implies_true, and_self, ite_self, true_or, or_true, false_or, or_false, true_implies, false_implies, Classical.not_not, false_imp_iff, not_false_iff, zi_push, zi_iload, zi_lload, zi_aload, zi_istore, zi_astore, zi_lstore, zi_iinc, zi_i2, zi_i1, zi_idv, zi_l2, zi_ldv, zi_lsh, zi_i2l, zi_l2i, zi_lcmp, zi_dup, zi_dup2, zi_pop, zi_if1, zi_if2, zi_getI, zi_getL, zi_getR, zi_putI, zi_putZ, zi_putL, zi_aldI, zi_aldL, zi_astI, zi_astZ, zi_astL, zi_alen, zi_iret, zi_zret, zi_lret, zi_vret, zi_callV, zi_callS, zi_sw, zi_copyI, zi_copyL, zi_m2, zi_m1, zi_sval, zi_scod, zi_fmt, zi_balen, zi_bald, zi_bret, zi_callT, zq_nth, zq_put1, zq_put2, zq_clr, zq_nl, zq_tk, zq_ps, zq_sw, zq_l0, zq_a, zq_a1, List.length_cons, List.length_nil, List.nil_append, List.cons_append, List.append_nil, List.replicate, Nat.reduceAdd, Nat.reduceSub, Nat.reduceLeDiff, true_and, and_true, List.append_eq, List.cons.injEq, Value.int.injEq, Value.long.injEq, Value.ref.injEq, exists_and_left, exists_eq_left', and_assoc, zc_b, zc_0, zc_1, zc_10, zc_01, lg_cmp_ge, lg_cmp_le, lg_cmp_gt, lg_cmp_lt, lg_cmp_eq, zw_le, zw_lt, reduceIte, true_or, or_true, zw_g0, zw_l0, zw_g1, zw_l1, zw_g2, zw_l2, zw_g3, zw_l3, zw_g5, zw_l5, zw_g6, zw_l6, zw_g7, zw_l7, zw_g9, zw_l9, zw_g10, zw_l10, zw_g15, zw_l15, zw_g16, zw_l16, zw_g48, zw_l48, zw_g50, zw_l50, zw_g57, zw_l57, zw_g97, zw_l97, zw_g100, zw_l100, zw_g200, zw_l200, zw_g999, zw_l999, zw_g9999, zw_l9999]
          exact k2 hok h hD.1 (zlk_0 hk) (by rw [← hq]; exact hD.2.2.1) hf
    · have e0 : (0 ≤ nI (zdv (vsg V) (4 * r + t))) = True := eq_true (nI_pos' (by have := (zdv_eq q2.1).2; omega))
      simp only [e0, xX3_readLines_47, z3d, nI_1, not_true_eq_false, not_false_eq_true, forall_const, true_and, and_true, false_and, and_false, if_true, if_false, reduceIte, implies_true, and_self, ite_self, true_or, or_true, false_or, or_false, true_implies, false_implies, Classical.not_not, false_imp_iff, not_false_iff, zi_push, zi_iload, zi_lload, zi_aload, zi_istore, zi_astore, zi_lstore, zi_iinc, zi_i2, zi_i1, zi_idv, zi_l2, zi_ldv, zi_lsh, zi_i2l, zi_l2i, zi_lcmp, zi_dup, zi_dup2, zi_pop, zi_if1, zi_if2, zi_getI, zi_getL, zi_getR, zi_putI, zi_putZ, zi_putL, zi_aldI, zi_aldL, zi_astI, zi_astZ, zi_astL, zi_alen, zi_iret, zi_zret, zi_lret, zi_vret, zi_callV, zi_callS, zi_sw, zi_copyI, zi_copyL, zi_m2, zi_m1, zi_sval, zi_scod, zi_fmt, zi_balen, zi_bald, zi_bret, zi_callT, zq_nth, zq_put1, zq_put2, zq_clr, zq_nl, zq_tk, zq_ps, zq_sw, zq_l0, zq_a, zq_a1, List.length_cons, List.length_nil, List.nil_append, List.cons_append, List.append_nil, List.replicate, Nat.reduceAdd, Nat.reduceSub, Nat.reduceLeDiff, true_and, and_true, List.append_eq, List.cons.injEq, Value.int.injEq, Value.long.injEq, Value.ref.injEq, exists_and_left, exists_eq_left', and_assoc, zc_b, zc_0, zc_1, zc_10, zc_01, lg_cmp_ge, lg_cmp_le, lg_cmp_gt, lg_cmp_lt, lg_cmp_eq, zw_le, zw_lt, reduceIte, true_or, or_true, zw_g0, zw_l0, zw_g1, zw_l1, zw_g2, zw_l2, zw_g3, zw_l3, zw_g5, zw_l5, zw_g6, zw_l6, zw_g7, zw_l7, zw_g9, zw_l9, zw_g10, zw_l10, zw_g15, zw_l15, zw_g16, zw_l16, zw_g48, zw_l48, zw_g50, zw_l50, zw_g57, zw_l57, zw_g97, zw_l97, zw_g100, zw_l100, zw_g200, zw_l200, zw_g999, zw_l999, zw_g9999, zw_l9999]
      have ei : nI (vg V + r) * 3 + nI t = nI (3 * vg V + 3 * r + t) := by rw [z3b]; congr 1; omega
      first | rw [nI_clamp (by omega)] | (rw [ei, nI_clamp (by omega)])
      have e9 : 3 * (vg V + r) + t = 3 * vg V + 3 * r + t := by omega
      rw [e9]
      refine ⟨vp_in_nI (by omega) (by decide), (h0, V, r, t + 1), by dsimp only; omega, _, rfl, rfl, ⟨hr, by omega⟩, XD_fr d1 (zq_fr_I (ps := [6]) zq_fr_rf (by decide)) (by decide), fun i hi => ?_, fun i hi => ?_, hX, h00, zq_fr_I (zq_fr_t hf f1 (by decide)) (by decide), ⟨hr2, ?_⟩, ⟨fun i hi => ?_, fun j t' hj ht' => ?_⟩, k1, k2⟩
      · by_cases q3 : i = t
        · rw [q3]
          exact q2.1
        · exact hd i (by omega)
      · by_cases q3 : i = t
        · simp [zq_sI, q3]
        · have q4 : ¬ 3 * vg V + 3 * r + i = 3 * vg V + 3 * r + t := by omega
          simpa [zq_sI, q3, (f1 6 (by decide)).1] using h6 i (by omega)
      · rw [show 6 - vg V - r = (6 - vg V - r - 1) + 1 by omega, zgq]
        exact hq
      · have q4 : ¬ i = 3 * vg V + 3 * r + t := by omega
        simpa [zq_sI, q4, (f1 6 (by decide)).1] using hk.1 i hi
      · have q4 : ¬ 3 * vg V + 3 * j + t' = 3 * vg V + 3 * r + t := by omega
        simpa [zq_sI, q4, (f1 6 (by decide)).1] using hk.2 j t' hj ht'
    · have : ¬ zisd (vsg V) (min (vs V) 23) (4 * r + t) := fun z => q2 ⟨z, Nat.zero_le _⟩
      rw [zln_no this, Nat.add_zero] at hz
      rw [hz, if_pos (by omega)] at hq
      have hok : ¬ zgok V := by
        rintro (z | ⟨z, -⟩)
        · exact h00 z
        · rw [← hq] at z
          cases z
      simp only [show ((0 : Int32) ≤ -1) = False from eq_false (by decide), xX3_readLines_45, not_true_eq_false, not_false_eq_true, forall_const, true_and, and_true, false_and, and_false, if_true, if_false, reduceIte, implies_true, and_self, ite_self, true_or, or_true, false_or, or_false, true_implies, false_implies, Classical.not_not, false_imp_iff, not_false_iff, zi_push, zi_iload, zi_lload, zi_aload, zi_istore, zi_astore, zi_lstore, zi_iinc, zi_i2, zi_i1, zi_idv, zi_l2, zi_ldv, zi_lsh, zi_i2l, zi_l2i, zi_lcmp, zi_dup, zi_dup2, zi_pop, zi_if1, zi_if2, zi_getI, zi_getL, zi_getR, zi_putI, zi_putZ, zi_putL, zi_aldI, zi_aldL, zi_astI, zi_astZ, zi_astL, zi_alen, zi_iret, zi_zret, zi_lret, zi_vret, zi_callV, zi_callS, zi_sw, zi_copyI, zi_copyL, zi_m2, zi_m1, zi_sval, zi_scod, zi_fmt, zi_balen, zi_bald, zi_bret, zi_callT, zq_nth, zq_put1, zq_put2, zq_clr, zq_nl, zq_tk, zq_ps, zq_sw, zq_l0, zq_a, zq_a1, List.length_cons, List.length_nil, List.nil_append, List.cons_append, List.append_nil, List.replicate, Nat.reduceAdd, Nat.reduceSub, Nat.reduceLeDiff, true_and, and_true, List.append_eq, List.cons.injEq, Value.int.injEq, Value.long.injEq, Value.ref.injEq, exists_and_left, exists_eq_left', and_assoc, zc_b, zc_0, zc_1, zc_10, zc_01, lg_cmp_ge, lg_cmp_le, lg_cmp_gt, lg_cmp_lt, lg_cmp_eq, zw_le, zw_lt, reduceIte, true_or, or_true, zw_g0, zw_l0, zw_g1, zw_l1, zw_g2, zw_l2, zw_g3, zw_l3, zw_g5, zw_l5, zw_g6, zw_l6, zw_g7, zw_l7, zw_g9, zw_l9, zw_g10, zw_l10, zw_g15, zw_l15, zw_g16, zw_l16, zw_g48, zw_l48, zw_g50, zw_l50, zw_g57, zw_l57, zw_g97, zw_l97, zw_g100, zw_l100, zw_g200, zw_l200, zw_g999, zw_l999, zw_g9999, zw_l9999]
      exact k2 hok h hD.1 (zlk_0 hk) (by rw [← hq]; exact hD.2.2.1) hf
