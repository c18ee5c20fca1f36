/-! ===== claims of the reference ===== -/
theorem zsho_is {V : zV} {g m need s c : Nat} (hs : s ≤ c) (hc : c ≤ vn V) (h : need ≤ (vS V g c - vS V g s) * m) (hb : ∀ u, s ≤ u → u < c → ¬ need ≤ (vS V g u - vS V g s) * m) : zsho V g m need s = c := by
  rcases zsho_sp V g m need s (by omega) with ⟨-, h2⟩ | ⟨h1, h2, h3, h4⟩
  · exact absurd h (h2 c hs hc)
  · rcases Nat.lt_trichotomy (zsho V g m need s) c with q | q | q
    · exact absurd h3 (hb _ h1 q)
    · exact q
    · exact absurd h (h4 c hs q)
theorem zsho_no {V : zV} {g m need s : Nat} (hs : s ≤ vn V) (hb : ∀ u, s ≤ u → u ≤ vn V → ¬ need ≤ (vS V g u - vS V g s) * m) : zsho V g m need s = 17 := by
  rcases zsho_sp V g m need s hs with ⟨h1, -⟩ | ⟨h1, h2, h3, -⟩
  · exact h1
  · exact absurd h3 (hb _ h1 h2)
def zmq (n b e : Nat) : Nat := if e ≤ n then min b e else b
theorem zmq_17 {n b : Nat} (h : n ≤ 16) : zmq n b 17 = b := by
  unfold zmq
  rw [if_neg (by omega)]
theorem zmq_mn (n b x y : Nat) : zmq n (zmq n b x) y = zmq n b (min x y) := by
  unfold zmq
  by_cases c1 : x ≤ n
  · by_cases c2 : y ≤ n
    · rw [if_pos c1, if_pos c2, if_pos (by omega)]
      omega
    · rw [if_pos c1, if_neg c2, if_pos (by omega), Nat.min_eq_left (show x ≤ y by omega)]
  · by_cases c2 : y ≤ n
    · rw [if_neg c1, if_pos c2, if_pos (by omega), Nat.min_eq_right (show y ≤ x by omega)]
    · rw [if_neg c1, if_neg c2, if_neg (by omega)]
theorem zmq_le (n b e : Nat) : zmq n b e ≤ b := by
  unfold zmq
  split <;> omega
theorem zmn_up {f : Nat → Nat} {m t : Nat} (ht : m ≤ t) (h : ∀ i, m ≤ i → f i = 17) : zmn f t = zmn f m := by
  refine Nat.le_antisymm (zmn_iff.mpr ⟨zmn_17 _ _, fun i hi => zmn_le (by omega)⟩) (zmn_iff.mpr ⟨zmn_17 _ _, fun i hi => ?_⟩)
  by_cases c : i < m
  · exact zmn_le c
  · rw [h i (by omega)]
    exact zmn_17 _ _
def MPl (P : zPl) (h : zq_H) : Prop := ∀ i, i < P.1 → h.1 96 i = nI (P.2.1 i) ∧ h.1 97 i = nI (P.2.2.2 i)
theorem MPl_fm {P : zPl} {fs ps : List Nat} {h h' : zq_H} (k : MPl P h) (f : zq_fm fs ps h h') (d : 96 ∉ ps ∧ 97 ∉ ps) : MPl P h' := by
  unfold MPl at *
  rw [(f.1 96 (by decide) d.1).1, (f.1 97 (by decide) d.2).1]
  exact k
def zMg (V : zV) (P : zPl) (k mask s i : Nat) : Nat := if mask.testBit i then zoG P.1 (zPR V P) k (zrm mask i) (zPR V P i s) else 17
def zPc (V : zV) (P : zPl) : Prop := zPd V P ∧ (∀ i, P.2.2.1 i = 1) ∧ ∀ i, i < P.1 → P.2.2.2 i < 1000
def zmtk (V : zV) (P : zPl) (mask s c : Nat) (Q : zq_Q) (h : zq_H) : Prop := ∀ h', h'.1 56 40 = nI (zmq (vn V) c (zoG P.1 (zPR V P) (zbc mask) mask s)) → zq_fm [40] [] h h' → Q none h'
def sp_meets (k : Nat) : zq_Sp := fun args h Q => ∃ b V P mask s c, args = [.ref 56, .int (nI mask), .int (nI s)] ∧ (zbc mask ≤ k ∧ mask < 2 ^ P.1 ∧ s ≤ vn V ∧ c ≤ 1000) ∧ zPc V P ∧ MD b V h ∧ MPl P h ∧ h.1 56 40 = nI c ∧ zmtk V P mask s c Q h
def zmtI (b : Nat) (V : zV) (P : zPl) (k mask s c t : Nat) (Q : zq_Q) (h0 h : zq_H) : Prop := (zbc mask = k + 1 ∧ mask < 2 ^ P.1 ∧ s ≤ vn V ∧ c ≤ 1000) ∧ zPc V P ∧ MD b V h0 ∧ MPl P h0 ∧ zq_fm [40] [] h0 h ∧ h.1 56 40 = nI (zmq (vn V) c (zmn (zMg V P k mask s) t)) ∧ zmtk V P mask s c Q h0
abbrev zmT : Type := zq_H × (Nat × zV × zPl) × (Nat × Nat × Nat × Nat) × Nat × Nat
def I_mt19 (k : Nat) (Q : zq_Q) (z : zmT) : zq_P := fun ls st h => match z with
  | (h0, (b, V, P), (mask, s, c, j), t, _) => ∃ s4 s5, ls = [some (.ref 56), some (.int (nI mask)), some (.int (nI s)), some (.int (nI t)), s4, s5] ∧ st = [] ∧ (t ≤ 6 ∧ j ≤ k) ∧ zmtI b V P j mask s c t Q h0 h
def I_mt39 (k : Nat) (Q : zq_Q) (z : zmT) : zq_P := fun ls st h => match z with
  | (h0, (b, V, P), (mask, s, c, j), t, u) => ls = [some (.ref 56), some (.int (nI mask)), some (.int (nI s)), some (.int (nI t)), some (.int (nI (vS V (P.2.1 t) u - vS V (P.2.1 t) s))), some (.int (nI u))] ∧ st = [] ∧ ((t < P.1 ∧ j ≤ k) ∧ mask.testBit t = true ∧ s ≤ u ∧ u ≤ vn V) ∧ (∀ v, s ≤ v → v < u → ¬ P.2.2.2 t ≤ vS V (P.2.1 t) v - vS V (P.2.1 t) s) ∧ zmtI b V P j mask s c t Q h0 h
theorem ok_meets : ∀ k, zq_M yX12_meets cX12_meets 6 none 0 (k + 1) (sp_meets k)
  | 0 => by
    refine mX12_meets ok_has (by decide) (ok_none (d := 0)) (by decide) (by decide) (fun _ : Unit => 0) (fun _ _ _ _ _ => False) (fun _ : Unit => 0) (fun _ _ _ _ _ => False) (fun args h Q hs => ?_) (fun Q z ls st h hi => hi.elim) (fun Q z ls st h hi => hi.elim)
    obtain ⟨b, V, P, mask, s, c, rfl, ⟨hb, hm, hs, hc⟩, ⟨hd, h1, h2⟩, hX, hP, e40, kk⟩ := hs
    have hp2 := (zp2 P.1 hd.1).2.2
    have hn := hd.2.1
    refine ⟨Nat.le_of_ble_eq_true rfl, ?_⟩
    simp only [xX12_meets_0, xX12_meets_4, nI_zP (show mask < 2 ^ 31 by omega), e40, zminN (show c < 2 ^ 31 by omega) (show s < 2 ^ 31 by omega), zi_push, zi_iload, zi_lload, zi_aload, zi_istore, zi_astore, zi_lstore, zi_iinc, zi_i2, zi_i1, zi_idv, zi_l2, zi_ldv, zi_lsh, zi_i2l, zi_l2i, zi_lcmp, zi_dup, zi_dup2, zi_pop, zi_if1, zi_if2, zi_getI, zi_getL, zi_getR, zi_putI, zi_putZ, zi_putL, zi_aldI, zi_aldL, zi_astI, zi_astZ, zi_astL, zi_alen, zi_iret, zi_zret, zi_lret, zi_vret, zi_callV, zi_callS, zi_sw, zi_copyI, zi_copyL, zi_m2, zi_m1, zi_sval, zi_scod, zi_fmt, zi_balen, zi_bald, zi_bret, zi_callT, zq_nth, zq_put1, zq_put2, zq_clr, zq_nl, zq_tk, zq_ps, zq_sw, zq_l0, zq_a, zq_a1, List.length_cons, List.length_nil, List.nil_append, List.cons_append, List.append_nil, List.replicate, Nat.reduceAdd, Nat.reduceSub, Nat.reduceLeDiff, true_and, and_true, List.append_eq, List.cons.injEq, Value.int.injEq, Value.long.injEq, Value.ref.injEq, exists_and_left, exists_eq_left', and_assoc, zc_b, zc_0, zc_1, zc_10, zc_01, lg_cmp_ge, lg_cmp_le, lg_cmp_gt, lg_cmp_lt, lg_cmp_eq, zw_le, zw_lt, reduceIte, true_or, or_true, zw_g0, zw_l0, zw_g1, zw_l1, zw_g2, zw_l2, zw_g3, zw_l3, zw_g5, zw_l5, zw_g6, zw_l6, zw_g7, zw_l7, zw_g9, zw_l9, zw_g10, zw_l10, zw_g15, zw_l15, zw_g16, zw_l16, zw_g48, zw_l48, zw_g50, zw_l50, zw_g57, zw_l57, zw_g97, zw_l97, zw_g100, zw_l100, zw_g200, zw_l200, zw_g999, zw_l999, zw_g9999, zw_l9999]
    refine ⟨fun _ => ?_, fun q => absurd ((zbc_0 mask (by omega)).mp (by omega)) q⟩
    refine kk _ ?_ (zq_fm_F zq_fm_rf (by decide))
    rw [zq_sI, if_pos ⟨rfl, rfl⟩, show zbc mask = 0 by omega, zoG, zmq, if_pos hs]
  | k + 1 => by
    refine mX12_meets ok_has (by omega) (ok_meets k) (by omega) (by omega) (fun z => (10 - z.2.2.2.1) * 100) (I_mt19 k) (fun z => (10 - z.2.2.2.1) * 100 - 1 - z.2.2.2.2) (I_mt39 k) (fun args h Q hs => ?_) (fun Q z ls st h hi => ?_) (fun Q z ls st h hi => ?_)
    · obtain ⟨b, V, P, mask, s, c, rfl, ⟨hb, hm, hs, hc⟩, hC, hX, hP, e40, kk⟩ := hs
      have hp2 := (zp2 P.1 hC.1.1).2.2
      have hn := hC.1.2.1
      refine ⟨Nat.le_of_ble_eq_true rfl, ?_⟩
      simp only [xX12_meets_0, xX12_meets_4, xX12_meets_17, nI_zP (show mask < 2 ^ 31 by omega), e40, zminN (show c < 2 ^ 31 by omega) (show s < 2 ^ 31 by omega), zi_push, zi_iload, zi_lload, zi_aload, zi_istore, zi_astore, zi_lstore, zi_iinc, zi_i2, zi_i1, zi_idv, zi_l2, zi_ldv, zi_lsh, zi_i2l, zi_l2i, zi_lcmp, zi_dup, zi_dup2, zi_pop, zi_if1, zi_if2, zi_getI, zi_getL, zi_getR, zi_putI, zi_putZ, zi_putL, zi_aldI, zi_aldL, zi_astI, zi_astZ, zi_astL, zi_alen, zi_iret, zi_zret, zi_lret, zi_vret, zi_callV, zi_callS, zi_sw, zi_copyI, zi_copyL, zi_m2, zi_m1, zi_sval, zi_scod, zi_fmt, zi_balen, zi_bald, zi_bret, zi_callT, zq_nth, zq_put1, zq_put2, zq_clr, zq_nl, zq_tk, zq_ps, zq_sw, zq_l0, zq_a, zq_a1, List.length_cons, List.length_nil, List.nil_append, List.cons_append, List.append_nil, List.replicate, Nat.reduceAdd, Nat.reduceSub, Nat.reduceLeDiff, true_and, and_true, List.append_eq, List.cons.injEq, Value.int.injEq, Value.long.injEq, Value.ref.injEq, exists_and_left, exists_eq_left', and_assoc, zc_b, zc_0, zc_1, zc_10, zc_01, lg_cmp_ge, lg_cmp_le, lg_cmp_gt, lg_cmp_lt, lg_cmp_eq, zw_le, zw_lt, reduceIte, true_or, or_true, zw_g0, zw_l0, zw_g1, zw_l1, zw_g2, zw_l2, zw_g3, zw_l3, zw_g5, zw_l5, zw_g6, zw_l6, zw_g7, zw_l7, zw_g9, zw_l9, zw_g10, zw_l10, zw_g15, zw_l15, zw_g16, zw_l16, zw_g48, zw_l48, zw_g50, zw_l50, zw_g57, zw_l57, zw_g97, zw_l97, zw_g100, zw_l100, zw_g200, zw_l200, zw_g999, zw_l999, zw_g9999, zw_l9999]
      refine ⟨fun q => ?_, fun q => ?_⟩
      · refine kk _ ?_ (zq_fm_F zq_fm_rf (by decide))
        rw [zq_sI, if_pos ⟨rfl, rfl⟩, (zbc_0 mask (by omega)).mpr q, zoG, zmq, if_pos hs]
      · have h0 : ¬ zbc mask = 0 := fun z => q ((zbc_0 mask (by omega)).mp z)
        refine ⟨(h, (b, V, P), (mask, s, c, zbc mask - 1), 0, 0), none, none, rfl, rfl, ⟨Nat.zero_le _, by omega⟩, ⟨by omega, hm, hs, hc⟩, hC, hX, hP, zq_fm_rf, ?_, kk⟩
        rw [e40, zmn, zmq_17 hC.1.2.1]
    · obtain ⟨h0, ⟨b, V, P⟩, ⟨mask, s, c, j⟩, t, t9⟩ := z
      obtain ⟨s4, s5, rfl, rfl, ⟨ht, hj⟩, ⟨hb, hm, hs, hc⟩, hC, hX, hP, hf, e40, kk⟩ := hi
      have hp2 := (zp2 P.1 hC.1.1).2.2
      have h6 := hC.1.1
      have c6 : ((6 : Int32) ≤ nI t) = (t = 6) := zl_ge (n := 6) ht (by decide)
      simp only [xX12_meets_19, xX12_meets_25, xX12_meets_111, xX12_meets_117, c6, sp_has, zbit01, Classical.not_not, nI_1, zi_push, zi_iload, zi_lload, zi_aload, zi_istore, zi_astore, zi_lstore, zi_iinc, zi_i2, zi_i1, zi_idv, zi_l2, zi_ldv, zi_lsh, zi_i2l, zi_l2i, zi_lcmp, zi_dup, zi_dup2, zi_pop, zi_if1, zi_if2, zi_getI, zi_getL, zi_getR, zi_putI, zi_putZ, zi_putL, zi_aldI, zi_aldL, zi_astI, zi_astZ, zi_astL, zi_alen, zi_iret, zi_zret, zi_lret, zi_vret, zi_callV, zi_callS, zi_sw, zi_copyI, zi_copyL, zi_m2, zi_m1, zi_sval, zi_scod, zi_fmt, zi_balen, zi_bald, zi_bret, zi_callT, zq_nth, zq_put1, zq_put2, zq_clr, zq_nl, zq_tk, zq_ps, zq_sw, zq_l0, zq_a, zq_a1, List.length_cons, List.length_nil, List.nil_append, List.cons_append, List.append_nil, List.replicate, Nat.reduceAdd, Nat.reduceSub, Nat.reduceLeDiff, true_and, and_true, List.append_eq, List.cons.injEq, Value.int.injEq, Value.long.injEq, Value.ref.injEq, exists_and_left, exists_eq_left', and_assoc, zc_b, zc_0, zc_1, zc_10, zc_01, lg_cmp_ge, lg_cmp_le, lg_cmp_gt, lg_cmp_lt, lg_cmp_eq, zw_le, zw_lt, reduceIte, true_or, or_true, zw_g0, zw_l0, zw_g1, zw_l1, zw_g2, zw_l2, zw_g3, zw_l3, zw_g5, zw_l5, zw_g6, zw_l6, zw_g7, zw_l7, zw_g9, zw_l9, zw_g10, zw_l10, zw_g15, zw_l15, zw_g16, zw_l16, zw_g48, zw_l48, zw_g50, zw_l50, zw_g57, zw_l57, zw_g97, zw_l97, zw_g100, zw_l100, zw_g200, zw_l200, zw_g999, zw_l999, zw_g9999, zw_l9999]
      refine ⟨fun q => ?_, fun q => ?_⟩
      · subst q
        refine kk h ?_ hf
        rw [e40, zmn_up h6 (fun i hi => ?_)]
        · rw [hb]
          rfl
        · unfold zMg
          rw [Nat.testBit_lt_two_pow (Nat.lt_of_lt_of_le hm (Nat.pow_le_pow_right (by decide) hi))]
          rfl
      · rw [zbitP (by omega) (by omega)]
        refine ⟨fun q2 => ?_, fun q2 => ?_⟩
        · refine ⟨(h0, (b, V, P), (mask, s, c, j), t + 1, 0), by dsimp only; omega, s4, s5, rfl, rfl, ⟨by omega, hj⟩, ⟨hb, hm, hs, hc⟩, hC, hX, hP, hf, ?_, kk⟩
          rw [e40, zmn]
          unfold zMg
          rw [q2, if_neg (by decide), Nat.min_eq_left (zmn_17 _ _)]
        · have hbit : mask.testBit t = true := by simpa using q2
          have ht2 : t < P.1 := by
            rcases Nat.lt_or_ge t P.1 with z | z
            · exact z
            · rw [Nat.testBit_lt_two_pow (Nat.lt_of_lt_of_le hm (Nat.pow_le_pow_right (by decide) z))] at hbit
              cases hbit
          simp only [xX12_meets_33, zi_push, zi_iload, zi_lload, zi_aload, zi_istore, zi_astore, zi_lstore, zi_iinc, zi_i2, zi_i1, zi_idv, zi_l2, zi_ldv, zi_lsh, zi_i2l, zi_l2i, zi_lcmp, zi_dup, zi_dup2, zi_pop, zi_if1, zi_if2, zi_getI, zi_getL, zi_getR, zi_putI, zi_putZ, zi_putL, zi_aldI, zi_aldL, zi_astI, zi_astZ, zi_astL, zi_alen, zi_iret, zi_zret, zi_lret, zi_vret, zi_callV, zi_callS, zi_sw, zi_copyI, zi_copyL, zi_m2, zi_m1, zi_sval, zi_scod, zi_fmt, zi_balen, zi_bald, zi_bret, zi_callT, zq_nth, zq_put1, zq_put2, zq_clr, zq_nl, zq_tk, zq_ps, zq_sw, zq_l0, zq_a, zq_a1, List.length_cons, List.length_nil, List.nil_append, List.cons_append, List.append_nil, List.replicate, Nat.reduceAdd, Nat.reduceSub, Nat.reduceLeDiff, true_and, and_true, List.append_eq, List.cons.injEq, Value.int.injEq, Value.long.injEq, Value.ref.injEq, exists_and_left, exists_eq_left', and_assoc, zc_b, zc_0, zc_1, zc_10, zc_01, lg_cmp_ge, lg_cmp_le, lg_cmp_gt, lg_cmp_lt, lg_cmp_eq, zw_le, zw_lt, reduceIte, true_or, or_true, zw_g0, zw_l0, zw_g1, zw_l1, zw_g2, zw_l2, zw_g3, zw_l3, zw_g5, zw_l5, zw_g6, zw_l6, zw_g7, zw_l7, zw_g9, zw_l9, zw_g10, zw_l10, zw_g15, zw_l15, zw_g16, zw_l16, zw_g48, zw_l48, zw_g50, zw_l50, zw_g57, zw_l57, zw_g97, zw_l97, zw_g100, zw_l100, zw_g200, zw_l200, zw_g999, zw_l999, zw_g9999, zw_l9999]
          exact ⟨(h0, (b, V, P), (mask, s, c, j), t, s), by dsimp only; omega, by rw [Nat.sub_self]; rfl, rfl, ⟨⟨ht2, hj⟩, hbit, Nat.le_refl _, hs⟩, fun v h1 h2 => by omega, ⟨hb, hm, hs, hc⟩, hC, hX, hP, hf, e40, kk⟩
    · obtain ⟨h0, ⟨b, V, P⟩, ⟨mask, s, c, j⟩, t, u⟩ := z
      obtain ⟨rfl, rfl, ⟨⟨ht, hj⟩, hbit, hsu, hu⟩, hno, ⟨hb, hm, hs, hc⟩, hC, hX, hP, hf, e40, kk⟩ := hi
      obtain ⟨hd, hC1, hC2⟩ := hC
      have hd6 := hd.1
      have hn := hd.2.1
      have hw := (hd.2.2 t ht).1
      have hp2 := (zp2 P.1 hd6).2.2
      have hc2 := hC2 t ht
      have hX1 := MD_fm hX hf (by decide)
      have hP1 := MPl_fm hP hf (by decide)
      have hg := hX1.1.2.1.1
      have ln := vS_le V (P.2.1 t) u
      have c1 : (nI (P.2.2.2 t) ≤ nI (vS V (P.2.1 t) u - vS V (P.2.1 t) s)) = (P.2.2.2 t ≤ vS V (P.2.1 t) u - vS V (P.2.1 t) s) := nI_leP (by omega) (by omega)
      have c2 : (nI (vS V (P.2.1 t) u - vS V (P.2.1 t) s) < nI (P.2.2.2 t)) = (vS V (P.2.1 t) u - vS V (P.2.1 t) s < P.2.2.2 t) := nI_ltP (by omega) (by omega)
      have c3 : (nI (vn V) ≤ nI u) = (u = vn V) := zl_ge hu (by omega)
      have v6 : vp_in (nI t) 6 = True := eq_true (vp_in_nI (by omega) (by decide))
      have hz := zrm_b mask (by omega) t (by omega) hbit
      have hone := hC1 t
      have nxt : ∀ e : Nat, zMg V P j mask s t = e → ∀ h', h'.1 56 40 = nI (zmq (vn V) (zmq (vn V) c (zmn (zMg V P j mask s) t)) e) → zq_fm [40] [] h0 h' → ∀ s4 s5, ∃ b9 : zmT, (10 - b9.2.2.2.1) * 100 < (10 - t) * 100 - 1 - u ∧ I_mt19 k Q b9 [some (.ref 56), some (.int (nI mask)), some (.int (nI s)), some (.int (nI (t + 1))), s4, s5] [] h' := by
        intro e he h' e9 f9 s4 s5
        refine ⟨(h0, (b, V, P), (mask, s, c, j), t + 1, 0), by dsimp only; omega, s4, s5, rfl, rfl, ⟨by omega, hj⟩, ⟨hb, hm, hs, hc⟩, ⟨hd, hC1, hC2⟩, hX, hP, f9, ?_, kk⟩
        rw [e9, zmq_mn, zmn, he]
      simp only [xX12_meets_39, xX12_meets_50, xX12_meets_87, xX12_meets_111, v6, nI_clamp (show t < 2 ^ 31 by omega), (hP1 t ht).2, c1, c2, c3, hX1.1.1.2.1, nI_1, not_true_eq_false, not_false_eq_true, forall_const, true_and, and_true, false_and, and_false, if_true, if_false, reduceIte, implies_true, and_self, ite_self, true_or, or_true, false_or, or_false, true_implies, false_implies, Classical.not_not, false_imp_iff, not_false_iff, zi_push, zi_iload, zi_lload, zi_aload, zi_istore, zi_astore, zi_lstore, zi_iinc, zi_i2, zi_i1, zi_idv, zi_l2, zi_ldv, zi_lsh, zi_i2l, zi_l2i, zi_lcmp, zi_dup, zi_dup2, zi_pop, zi_if1, zi_if2, zi_getI, zi_getL, zi_getR, zi_putI, zi_putZ, zi_putL, zi_aldI, zi_aldL, zi_astI, zi_astZ, zi_astL, zi_alen, zi_iret, zi_zret, zi_lret, zi_vret, zi_callV, zi_callS, zi_sw, zi_copyI, zi_copyL, zi_m2, zi_m1, zi_sval, zi_scod, zi_fmt, zi_balen, zi_bald, zi_bret, zi_callT, zq_nth, zq_put1, zq_put2, zq_clr, zq_nl, zq_tk, zq_ps, zq_sw, zq_l0, zq_a, zq_a1, List.length_cons, List.length_nil, List.nil_append, List.cons_append, List.append_nil, List.replicate, Nat.reduceAdd, Nat.reduceSub, Nat.reduceLeDiff, true_and, and_true, List.append_eq, List.cons.injEq, Value.int.injEq, Value.long.injEq, Value.ref.injEq, exists_and_left, exists_eq_left', and_assoc, zc_b, zc_0, zc_1, zc_10, zc_01, lg_cmp_ge, lg_cmp_le, lg_cmp_gt, lg_cmp_lt, lg_cmp_eq, zw_le, zw_lt, reduceIte, true_or, or_true, zw_g0, zw_l0, zw_g1, zw_l1, zw_g2, zw_l2, zw_g3, zw_l3, zw_g5, zw_l5, zw_g6, zw_l6, zw_g7, zw_l7, zw_g9, zw_l9, zw_g10, zw_l10, zw_g15, zw_l15, zw_g16, zw_l16, zw_g48, zw_l48, zw_g50, zw_l50, zw_g57, zw_l57, zw_g97, zw_l97, zw_g100, zw_l100, zw_g200, zw_l200, zw_g999, zw_l999, zw_g9999, zw_l9999]
      have met : P.2.2.2 t ≤ vS V (P.2.1 t) u - vS V (P.2.1 t) s → zPR V P t s = u := fun q => by
        unfold zPR zrch zPf
        rw [if_neg (by omega), hone]
        exact zsho_is hsu hu (by rw [Nat.mul_one]; exact q) (fun v h1 h2 => by rw [Nat.mul_one]; exact hno v h1 h2)
      have go98 : P.2.2.2 t ≤ vS V (P.2.1 t) u - vS V (P.2.1 t) s → xX12_meets_98 sp_has (sp_meets k) (fun ls st h => ∃ b9 : zmT, (10 - b9.2.2.2.1) * 100 < (10 - t) * 100 - 1 - u ∧ I_mt19 k Q b9 ls st h) (fun ls st h => ∃ b9 : zmT, (10 - b9.2.2.2.1) * 100 - 1 - b9.2.2.2.2 < (10 - t) * 100 - 1 - u ∧ I_mt39 k Q b9 ls st h) Q [some (.ref 56), some (.int (nI mask)), some (.int (nI s)), some (.int (nI t)), some (.int (nI (vS V (P.2.1 t) u - vS V (P.2.1 t) s))), some (.int (nI u))] [] h := fun q => by
        simp only [xX12_meets_98, xX12_meets_111, zrm_I mask (show mask < 64 by omega) t (show t < 6 by omega) hbit, nI_1, zi_push, zi_iload, zi_lload, zi_aload, zi_istore, zi_astore, zi_lstore, zi_iinc, zi_i2, zi_i1, zi_idv, zi_l2, zi_ldv, zi_lsh, zi_i2l, zi_l2i, zi_lcmp, zi_dup, zi_dup2, zi_pop, zi_if1, zi_if2, zi_getI, zi_getL, zi_getR, zi_putI, zi_putZ, zi_putL, zi_aldI, zi_aldL, zi_astI, zi_astZ, zi_astL, zi_alen, zi_iret, zi_zret, zi_lret, zi_vret, zi_callV, zi_callS, zi_sw, zi_copyI, zi_copyL, zi_m2, zi_m1, zi_sval, zi_scod, zi_fmt, zi_balen, zi_bald, zi_bret, zi_callT, zq_nth, zq_put1, zq_put2, zq_clr, zq_nl, zq_tk, zq_ps, zq_sw, zq_l0, zq_a, zq_a1, List.length_cons, List.length_nil, List.nil_append, List.cons_append, List.append_nil, List.replicate, Nat.reduceAdd, Nat.reduceSub, Nat.reduceLeDiff, true_and, and_true, List.append_eq, List.cons.injEq, Value.int.injEq, Value.long.injEq, Value.ref.injEq, exists_and_left, exists_eq_left', and_assoc, zc_b, zc_0, zc_1, zc_10, zc_01, lg_cmp_ge, lg_cmp_le, lg_cmp_gt, lg_cmp_lt, lg_cmp_eq, zw_le, zw_lt, reduceIte, true_or, or_true, zw_g0, zw_l0, zw_g1, zw_l1, zw_g2, zw_l2, zw_g3, zw_l3, zw_g5, zw_l5, zw_g6, zw_l6, zw_g7, zw_l7, zw_g9, zw_l9, zw_g10, zw_l10, zw_g15, zw_l15, zw_g16, zw_l16, zw_g48, zw_l48, zw_g50, zw_l50, zw_g57, zw_l57, zw_g97, zw_l97, zw_g100, zw_l100, zw_g200, zw_l200, zw_g999, zw_l999, zw_g9999, zw_l9999]
        refine ⟨b, V, P, zrm mask t, u, zmq (vn V) c (zmn (zMg V P j mask s) t), rfl, ⟨by omega, by omega, hu, Nat.le_trans (zmq_le _ _ _) hc⟩, ⟨hd, hC1, hC2⟩, hX1, hP1, e40, fun h1 e1 f1 => ?_⟩
        simp only [nI_1, zi_push, zi_iload, zi_lload, zi_aload, zi_istore, zi_astore, zi_lstore, zi_iinc, zi_i2, zi_i1, zi_idv, zi_l2, zi_ldv, zi_lsh, zi_i2l, zi_l2i, zi_lcmp, zi_dup, zi_dup2, zi_pop, zi_if1, zi_if2, zi_getI, zi_getL, zi_getR, zi_putI, zi_putZ, zi_putL, zi_aldI, zi_aldL, zi_astI, zi_astZ, zi_astL, zi_alen, zi_iret, zi_zret, zi_lret, zi_vret, zi_callV, zi_callS, zi_sw, zi_copyI, zi_copyL, zi_m2, zi_m1, zi_sval, zi_scod, zi_fmt, zi_balen, zi_bald, zi_bret, zi_callT, zq_nth, zq_put1, zq_put2, zq_clr, zq_nl, zq_tk, zq_ps, zq_sw, zq_l0, zq_a, zq_a1, List.length_cons, List.length_nil, List.nil_append, List.cons_append, List.append_nil, List.replicate, Nat.reduceAdd, Nat.reduceSub, Nat.reduceLeDiff, true_and, and_true, List.append_eq, List.cons.injEq, Value.int.injEq, Value.long.injEq, Value.ref.injEq, exists_and_left, exists_eq_left', and_assoc, zc_b, zc_0, zc_1, zc_10, zc_01, lg_cmp_ge, lg_cmp_le, lg_cmp_gt, lg_cmp_lt, lg_cmp_eq, zw_le, zw_lt, reduceIte, true_or, or_true, zw_g0, zw_l0, zw_g1, zw_l1, zw_g2, zw_l2, zw_g3, zw_l3, zw_g5, zw_l5, zw_g6, zw_l6, zw_g7, zw_l7, zw_g9, zw_l9, zw_g10, zw_l10, zw_g15, zw_l15, zw_g16, zw_l16, zw_g48, zw_l48, zw_g50, zw_l50, zw_g57, zw_l57, zw_g97, zw_l97, zw_g100, zw_l100, zw_g200, zw_l200, zw_g999, zw_l999, zw_g9999, zw_l9999]
        refine nxt _ ?_ h1 e1 (zq_fm_t hf f1 (by decide)) _ _
        unfold zMg
        rw [if_pos hbit, met q, show zbc (zrm mask t) = j by omega]
      refine ⟨fun q => ⟨fun q2 => by omega, fun _ => go98 q⟩, fun q => ⟨fun q2 => ⟨fun q3 => ?_, fun q3 => by omega⟩, fun q2 => ?_⟩⟩
      · refine nxt 17 ?_ h (by rw [zmq_17 hn]; exact e40) hf _ _
        unfold zMg
        rw [if_pos hbit]
        have e17 : zPR V P t s = 17 := by
          unfold zPR zrch zPf
          rw [if_neg (by omega), hone]
          refine zsho_no hs (fun v h1 h2 => ?_)
          rw [Nat.mul_one]
          by_cases c : v = u
          · rw [c]
            exact q
          · exact hno v h1 (by omega)
        rw [e17]
        exact Nat.le_antisymm (zoG_17 (zPR_ok hd) _ _ _ (Nat.le_refl _)) (zoG_s (zPR_ok hd) _ _ _ (Nat.le_refl _))
      · have e1 : vS V (P.2.1 t) (u + 1) = vS V (P.2.1 t) u + vwN V (P.2.1 t) u := rfl
        have hmo := vS_mono (V := V) (j := P.2.1 t) hsu
        simp only [xX12_meets_59, v6, nI_clamp (show t < 2 ^ 31 by omega), (hP1 t ht).1, z16b, zi_push, zi_iload, zi_lload, zi_aload, zi_istore, zi_astore, zi_lstore, zi_iinc, zi_i2, zi_i1, zi_idv, zi_l2, zi_ldv, zi_lsh, zi_i2l, zi_l2i, zi_lcmp, zi_dup, zi_dup2, zi_pop, zi_if1, zi_if2, zi_getI, zi_getL, zi_getR, zi_putI, zi_putZ, zi_putL, zi_aldI, zi_aldL, zi_astI, zi_astZ, zi_astL, zi_alen, zi_iret, zi_zret, zi_lret, zi_vret, zi_callV, zi_callS, zi_sw, zi_copyI, zi_copyL, zi_m2, zi_m1, zi_sval, zi_scod, zi_fmt, zi_balen, zi_bald, zi_bret, zi_callT, zq_nth, zq_put1, zq_put2, zq_clr, zq_nl, zq_tk, zq_ps, zq_sw, zq_l0, zq_a, zq_a1, List.length_cons, List.length_nil, List.nil_append, List.cons_append, List.append_nil, List.replicate, Nat.reduceAdd, Nat.reduceSub, Nat.reduceLeDiff, true_and, and_true, List.append_eq, List.cons.injEq, Value.int.injEq, Value.long.injEq, Value.ref.injEq, exists_and_left, exists_eq_left', and_assoc, zc_b, zc_0, zc_1, zc_10, zc_01, lg_cmp_ge, lg_cmp_le, lg_cmp_gt, lg_cmp_lt, lg_cmp_eq, zw_le, zw_lt, reduceIte, true_or, or_true, zw_g0, zw_l0, zw_g1, zw_l1, zw_g2, zw_l2, zw_g3, zw_l3, zw_g5, zw_l5, zw_g6, zw_l6, zw_g7, zw_l7, zw_g9, zw_l9, zw_g10, zw_l10, zw_g15, zw_l15, zw_g16, zw_l16, zw_g48, zw_l48, zw_g50, zw_l50, zw_g57, zw_l57, zw_g97, zw_l97, zw_g100, zw_l100, zw_g200, zw_l200, zw_g999, zw_l999, zw_g9999, zw_l9999]
        rw [nI_clamp (by omega), (hX1.2.2 _ hw).1 u (by omega), (vwN_eq V _ u).1, nI_add, show vS V (P.2.1 t) u - vS V (P.2.1 t) s + vwN V (P.2.1 t) u = vS V (P.2.1 t) (u + 1) - vS V (P.2.1 t) s by omega, nI_1]
        refine ⟨vp_in_nI (by omega) (by decide), (h0, (b, V, P), (mask, s, c, j), t, u + 1), by dsimp only; omega, rfl, rfl, ⟨⟨ht, hj⟩, hbit, by omega, by omega⟩, fun v h1 h2 => ?_, ⟨hb, hm, hs, hc⟩, ⟨hd, hC1, hC2⟩, hX, hP, hf, e40, kk⟩
        by_cases c : v = u
        · rw [c]
          exact q
        · exact hno v h1 (by omega)
def zfc0 : List Nat := [0, 13, 14, 15, 16]
def zfcf : List Nat := [0, 1, 13, 14, 15, 16, 40]
def zfcp : List Nat := [57, 72, 73, 74, 75, 96, 97]
def sp_mClaims (b : Nat) (V : zV) : zq_Sp := fun args h Q => args = [.ref 56] ∧ ZV V ∧ MC b V h ∧ MT (vs V) (vsg V) h ∧ zclO V (fun row r => ∀ h', MR row h' → MT 0 (vsg V) h' → zq_fm zfcf zfcp h h' → Q (some (.int r)) h') (fun r => ∀ h', MT 0 (vsg V) h' → zq_fm zfc0 [96, 97] h h' → Q (some (.int r)) h')
def zmck (b : Nat) (V : zV) (Q : zq_Q) (h : zq_H) : Prop := ZV V ∧ MC b V h ∧ zclO V (fun row r => ∀ h', MR row h' → MT 0 (vsg V) h' → zq_fm zfcf zfcp h h' → Q (some (.int r)) h') (fun r => ∀ h', MT 0 (vsg V) h' → zq_fm zfc0 [96, 97] h h' → Q (some (.int r)) h')
def zmca (V : zV) (k : Nat) (h : zq_H) : Prop := ∀ i, i < k → h.1 96 i = nI (zcw (vsg V) (vs V) i) ∧ h.1 97 i = nI (zcd (vsg V) (vs V) i)
def I_mc16 (b : Nat) (V : zV) (Q : zq_Q) (z : zq_H × Nat × Nat × Nat) : zq_P := fun ls st h => match z with
  | (h0, i, p, x) => ∃ s3 s4 s5, st = [] ∧ i ≤ 6 ∧ ME (vsg V) (vs V) p h ∧ h.1 56 13 = nI 0 ∧ zmca V i h ∧ zq_fm zfc0 [96, 97] h0 h ∧ zmck b V Q h0 ∧
    ((ls = [some (.ref 56), some (.int (nI i)), some (.int 1), s3, s4, s5] ∧ x = 1 ∧ p = zcpp (vsg V) (vs V) i ∧ zclq (vsg V) (vs V) (vg V) (6 - i) i = zclq (vsg V) (vs V) (vg V) 6 0) ∨
     (ls = [some (.ref 56), some (.int (nI i)), some (.int 0), s3, s4, s5] ∧ x = 0 ∧ zclq (vsg V) (vs V) (vg V) 6 0 = if vs V ≤ p then .inr i else .inl p))
def I_mc145 (b : Nat) (V : zV) (Q : zq_Q) (z : zq_H × Nat × Nat) : zq_P := fun ls st h => match z with
  | (h0, m, t) => ∃ s2 : Int32, ls = [some (.ref 56), some (.int (nI m)), some (.int s2), some (.int (nI (zcb V (zcP (vsg V) (vs V) m) t))), some (.int (nI (zPL V (zcP (vsg V) (vs V) m) (zcb V (zcP (vsg V) (vs V) m) t)))), some (.int (nI t))] ∧ st = [] ∧ (1 ≤ t ∧ t ≤ 2 ^ m) ∧ zclq (vsg V) (vs V) (vg V) 6 0 = .inr m ∧ MD b V h ∧ MT 0 (vsg V) h ∧ MPl (zcP (vsg V) (vs V) m) h ∧ zq_fm zfcf zfcp h0 h ∧ zmck b V Q h0
theorem zPL_00 (V : zV) (P : zPl) : zPL V P 0 = 0 := rfl
theorem zPL_G {V : zV} {P : zPl} (hd : zPd V P) {t : Nat} (ht : t < 64) : zoG P.1 (zPR V P) (zbc t) t 0 = zPL V P t := (zoL_G (zPR_ok hd) (zbc t) t 0 ht (Nat.zero_le _) rfl).symm
theorem ok_mClaims (b : Nat) (V : zV) : zq_M yX12_claims cX12_claims 6 (some .int) 1 10 (sp_mClaims b V) := by
  refine mX12_claims ok_mBegins (by decide) ok_mLetter (by decide) ok_mNumber (by decide) ok_mTakes (by decide) (ok_laysV b V) (by decide) ok_bits (by decide) (ok_meets 6) (by decide) ok_entersL (by decide) (by decide) (fun z => 1000 + (20 - z.2.1) + z.2.2.2) (I_mc16 b V) (fun z => 65 - z.2.2) (I_mc145 b V) (fun args h Q hs => ?_) (fun Q z ls st h hi => ?_) (fun Q z ls st h hi => ?_)
  · obtain ⟨rfl, hV, hX, hT, k⟩ := hs
    have hn := hT.2.1
    refine ⟨Nat.le_of_ble_eq_true rfl, ?_⟩
    simp only [xX12_claims_0, zi_push, zi_iload, zi_lload, zi_aload, zi_istore, zi_astore, zi_lstore, zi_iinc, zi_i2, zi_i1, zi_idv, zi_l2, zi_ldv, zi_lsh, zi_i2l, zi_l2i, zi_lcmp, zi_dup, zi_dup2, zi_pop, zi_if1, zi_if2, zi_getI, zi_getL, zi_getR, zi_putI, zi_putZ, zi_putL, zi_aldI, zi_aldL, zi_astI, zi_astZ, zi_astL, zi_alen, zi_iret, zi_zret, zi_lret, zi_vret, zi_callV, zi_callS, zi_sw, zi_copyI, zi_copyL, zi_m2, zi_m1, zi_sval, zi_scod, zi_fmt, zi_balen, zi_bald, zi_bret, zi_callT, zq_nth, zq_put1, zq_put2, zq_clr, zq_nl, zq_tk, zq_ps, zq_sw, zq_l0, zq_a, zq_a1, List.length_cons, List.length_nil, List.nil_append, List.cons_append, List.append_nil, List.replicate, Nat.reduceAdd, Nat.reduceSub, Nat.reduceLeDiff, true_and, and_true, List.append_eq, List.cons.injEq, Value.int.injEq, Value.long.injEq, Value.ref.injEq, exists_and_left, exists_eq_left', and_assoc, zc_b, zc_0, zc_1, zc_10, zc_01, lg_cmp_ge, lg_cmp_le, lg_cmp_gt, lg_cmp_lt, lg_cmp_eq, zw_le, zw_lt, reduceIte, true_or, or_true, zw_g0, zw_l0, zw_g1, zw_l1, zw_g2, zw_l2, zw_g3, zw_l3, zw_g5, zw_l5, zw_g6, zw_l6, zw_g7, zw_l7, zw_g9, zw_l9, zw_g10, zw_l10, zw_g15, zw_l15, zw_g16, zw_l16, zw_g48, zw_l48, zw_g50, zw_l50, zw_g57, zw_l57, zw_g97, zw_l97, zw_g100, zw_l100, zw_g200, zw_l200, zw_g999, zw_l999, zw_g9999, zw_l9999]
    have f0 : zq_fm [0] [] h (zq_setI h 56 0 0) := zq_fm_F zq_fm_rf (by decide)
    refine ⟨vs V, vsg V, 80, rfl, by decide, MT_fm hT f0 (by decide), fun h1 d1 e13 e16 f1 => ?_⟩
    rw [Nat.min_eq_left hn] at d1
    have f1w : zq_fm zfc0 [96, 97] h h1 := zq_fm_t (zq_fm_w f0 (by decide)) f1 (by decide)
    simp only [zi_push, zi_iload, zi_lload, zi_aload, zi_istore, zi_astore, zi_lstore, zi_iinc, zi_i2, zi_i1, zi_idv, zi_l2, zi_ldv, zi_lsh, zi_i2l, zi_l2i, zi_lcmp, zi_dup, zi_dup2, zi_pop, zi_if1, zi_if2, zi_getI, zi_getL, zi_getR, zi_putI, zi_putZ, zi_putL, zi_aldI, zi_aldL, zi_astI, zi_astZ, zi_astL, zi_alen, zi_iret, zi_zret, zi_lret, zi_vret, zi_callV, zi_callS, zi_sw, zi_copyI, zi_copyL, zi_m2, zi_m1, zi_sval, zi_scod, zi_fmt, zi_balen, zi_bald, zi_bret, zi_callT, zq_nth, zq_put1, zq_put2, zq_clr, zq_nl, zq_tk, zq_ps, zq_sw, zq_l0, zq_a, zq_a1, List.length_cons, List.length_nil, List.nil_append, List.cons_append, List.append_nil, List.replicate, Nat.reduceAdd, Nat.reduceSub, Nat.reduceLeDiff, true_and, and_true, List.append_eq, List.cons.injEq, Value.int.injEq, Value.long.injEq, Value.ref.injEq, exists_and_left, exists_eq_left', and_assoc, zc_b, zc_0, zc_1, zc_10, zc_01, lg_cmp_ge, lg_cmp_le, lg_cmp_gt, lg_cmp_lt, lg_cmp_eq, zw_le, zw_lt, reduceIte, true_or, or_true, zw_g0, zw_l0, zw_g1, zw_l1, zw_g2, zw_l2, zw_g3, zw_l3, zw_g5, zw_l5, zw_g6, zw_l6, zw_g7, zw_l7, zw_g9, zw_l9, zw_g10, zw_l10, zw_g15, zw_l15, zw_g16, zw_l16, zw_g48, zw_l48, zw_g50, zw_l50, zw_g57, zw_l57, zw_g97, zw_l97, zw_g100, zw_l100, zw_g200, zw_l200, zw_g999, zw_l999, zw_g9999, zw_l9999]
    exact ⟨(h, 0, 0, 1), none, none, none, rfl, Nat.zero_le _, d1, e13, fun i hi => absurd hi (Nat.not_lt_zero _), f1w, ⟨hV, hX, k⟩, Or.inl ⟨rfl, rfl, rfl, rfl⟩⟩
  · obtain ⟨h0, i, p, x⟩ := z
    obtain ⟨s3, s4, s5, rfl, hi, hD, e13, ha, hf, hK, hi2⟩ := hi
    have hK9 := hK
    obtain ⟨hV, hX, k1, k2⟩ := hK9
    have hX1 := MC_fm hX hf (by decide)
    have hg := hX1.2.1.1
    have e4 := hX1.2.1.2.1
    rcases hi2 with ⟨rfl, rfl, rfl, hz⟩ | ⟨rfl, rfl, hz⟩
    · by_cases q6 : i = 6
      · subst q6
        simp only [xX12_claims_16, xX12_claims_20, xX12_claims_46, xX12_claims_52, xX12_claims_68, zc_10, show ((6 : Int32) ≤ nI 6) = True from eq_true (by decide), show (nI 6 = 6) = True from eq_true (by decide), show zf_min (nI 6) 5 = nI 5 from by decide, nI_clamp (show 5 < 2 ^ 31 by decide), not_true_eq_false, not_false_eq_true, forall_const, true_and, and_true, false_and, and_false, if_true, if_false, reduceIte, implies_true, and_self, ite_self, true_or, or_true, false_or, or_false, true_implies, false_implies, Classical.not_not, false_imp_iff, not_false_iff, zi_push, zi_iload, zi_lload, zi_aload, zi_istore, zi_astore, zi_lstore, zi_iinc, zi_i2, zi_i1, zi_idv, zi_l2, zi_ldv, zi_lsh, zi_i2l, zi_l2i, zi_lcmp, zi_dup, zi_dup2, zi_pop, zi_if1, zi_if2, zi_getI, zi_getL, zi_getR, zi_putI, zi_putZ, zi_putL, zi_aldI, zi_aldL, zi_astI, zi_astZ, zi_astL, zi_alen, zi_iret, zi_zret, zi_lret, zi_vret, zi_callV, zi_callS, zi_sw, zi_copyI, zi_copyL, zi_m2, zi_m1, zi_sval, zi_scod, zi_fmt, zi_balen, zi_bald, zi_bret, zi_callT, zq_nth, zq_put1, zq_put2, zq_clr, zq_nl, zq_tk, zq_ps, zq_sw, zq_l0, zq_a, zq_a1, List.length_cons, List.length_nil, List.nil_append, List.cons_append, List.append_nil, List.replicate, Nat.reduceAdd, Nat.reduceSub, Nat.reduceLeDiff, true_and, and_true, List.append_eq, List.cons.injEq, Value.int.injEq, Value.long.injEq, Value.ref.injEq, exists_and_left, exists_eq_left', and_assoc, zc_b, zc_0, zc_1, zc_10, zc_01, lg_cmp_ge, lg_cmp_le, lg_cmp_gt, lg_cmp_lt, lg_cmp_eq, zw_le, zw_lt, reduceIte, true_or, or_true, zw_g0, zw_l0, zw_g1, zw_l1, zw_g2, zw_l2, zw_g3, zw_l3, zw_g5, zw_l5, zw_g6, zw_l6, zw_g7, zw_l7, zw_g9, zw_l9, zw_g10, zw_l10, zw_g15, zw_l15, zw_g16, zw_l16, zw_g48, zw_l48, zw_g50, zw_l50, zw_g57, zw_l57, zw_g97, zw_l97, zw_g100, zw_l100, zw_g200, zw_l200, zw_g999, zw_l999, zw_g9999, zw_l9999]
        refine ⟨vp_in_nI (n := 5) (by decide) (by decide), vp_in_nI (by decide) (by decide), ?_⟩
        rw [zq_sI, if_neg (by decide), hD.2.1]
        have g1 : zq_fm zfc0 [96, 97] h0 (zq_setI h 96 5 (h.1 96 5)) := zq_fm_I hf (by decide)
        exact k1 _ hz.symm _ ⟨by rw [zq_sI, if_neg (by decide)]; exact e13, Nat.zero_le _, fun i hi => by rw [zq_sI, if_neg (by omega)]; exact hD.1 i hi⟩ g1
      · have h6 : i < 6 := by omega
        have c6 : ((6 : Int32) ≤ nI i) = False := by rw [show (6 : Int32) = nI 6 from rfl, nI_leP (by decide) (by omega)]; exact eq_false (by omega)
        have cE : (nI i = 6) = False := by rw [show (6 : Int32) = nI 6 from rfl, nI_eqP (by omega) (by decide)]; exact eq_false q6
        have e5 : zf_min (nI i) 5 = nI i := by rw [show (5 : Int32) = nI 5 from rfl, zminN (by omega) (by decide), Nat.min_eq_left (by omega)]
        have v6 : vp_in (nI i) 6 = True := eq_true (vp_in_nI h6 (by decide))
        have ci := nI_clamp (show i < 2 ^ 31 by omega)
        obtain ⟨k, ek⟩ : ∃ k, 6 - i = k + 1 := ⟨5 - i, by omega⟩
        rw [ek, zclq] at hz
        simp only [xX12_claims_16, xX12_claims_20, xX12_claims_35, zc_10, show ((1 : Int32) = 0) = False from eq_false (by decide), c6, e5, e4, not_true_eq_false, not_false_eq_true, forall_const, true_and, and_true, false_and, and_false, if_true, if_false, reduceIte, implies_true, and_self, ite_self, true_or, or_true, false_or, or_false, true_implies, false_implies, Classical.not_not, false_imp_iff, not_false_iff, zi_push, zi_iload, zi_lload, zi_aload, zi_istore, zi_astore, zi_lstore, zi_iinc, zi_i2, zi_i1, zi_idv, zi_l2, zi_ldv, zi_lsh, zi_i2l, zi_l2i, zi_lcmp, zi_dup, zi_dup2, zi_pop, zi_if1, zi_if2, zi_getI, zi_getL, zi_getR, zi_putI, zi_putZ, zi_putL, zi_aldI, zi_aldL, zi_astI, zi_astZ, zi_astL, zi_alen, zi_iret, zi_zret, zi_lret, zi_vret, zi_callV, zi_callS, zi_sw, zi_copyI, zi_copyL, zi_m2, zi_m1, zi_sval, zi_scod, zi_fmt, zi_balen, zi_bald, zi_bret, zi_callT, zq_nth, zq_put1, zq_put2, zq_clr, zq_nl, zq_tk, zq_ps, zq_sw, zq_l0, zq_a, zq_a1, List.length_cons, List.length_nil, List.nil_append, List.cons_append, List.append_nil, List.replicate, Nat.reduceAdd, Nat.reduceSub, Nat.reduceLeDiff, true_and, and_true, List.append_eq, List.cons.injEq, Value.int.injEq, Value.long.injEq, Value.ref.injEq, exists_and_left, exists_eq_left', and_assoc, zc_b, zc_0, zc_1, zc_10, zc_01, lg_cmp_ge, lg_cmp_le, lg_cmp_gt, lg_cmp_lt, lg_cmp_eq, zw_le, zw_lt, reduceIte, true_or, or_true, zw_g0, zw_l0, zw_g1, zw_l1, zw_g2, zw_l2, zw_g3, zw_l3, zw_g5, zw_l5, zw_g6, zw_l6, zw_g7, zw_l7, zw_g9, zw_l9, zw_g10, zw_l10, zw_g15, zw_l15, zw_g16, zw_l16, zw_g48, zw_l48, zw_g50, zw_l50, zw_g57, zw_l57, zw_g97, zw_l97, zw_g100, zw_l100, zw_g200, zw_l200, zw_g999, zw_l999, zw_g9999, zw_l9999]
        refine ⟨vsg V, vs V, zcpp (vsg V) (vs V) i, vg V, rfl, by omega, hD, fun q2 h1 d1 f1 => ?_, fun q2 => ?_⟩
        · rw [if_pos q2] at hz
          have e0 : (0 ≤ nI (zlv (vsg V) (zcpp (vsg V) (vs V) i))) = True := eq_true (nI_pos' (by have := (zlv_eq (by omega) q2).2; omega))
          simp only [xX12_claims_52, xX12_claims_59, xX12_claims_75, v6, ci, cE, e0, zq_sI, not_true_eq_false, not_false_eq_true, forall_const, true_and, and_true, false_and, and_false, if_true, if_false, reduceIte, implies_true, and_self, ite_self, true_or, or_true, false_or, or_false, true_implies, false_implies, Classical.not_not, false_imp_iff, not_false_iff, zi_push, zi_iload, zi_lload, zi_aload, zi_istore, zi_astore, zi_lstore, zi_iinc, zi_i2, zi_i1, zi_idv, zi_l2, zi_ldv, zi_lsh, zi_i2l, zi_l2i, zi_lcmp, zi_dup, zi_dup2, zi_pop, zi_if1, zi_if2, zi_getI, zi_getL, zi_getR, zi_putI, zi_putZ, zi_putL, zi_aldI, zi_aldL, zi_astI, zi_astZ, zi_astL, zi_alen, zi_iret, zi_zret, zi_lret, zi_vret, zi_callV, zi_callS, zi_sw, zi_copyI, zi_copyL, zi_m2, zi_m1, zi_sval, zi_scod, zi_fmt, zi_balen, zi_bald, zi_bret, zi_callT, zq_nth, zq_put1, zq_put2, zq_clr, zq_nl, zq_tk, zq_ps, zq_sw, zq_l0, zq_a, zq_a1, List.length_cons, List.length_nil, List.nil_append, List.cons_append, List.append_nil, List.replicate, Nat.reduceAdd, Nat.reduceSub, Nat.reduceLeDiff, true_and, and_true, List.append_eq, List.cons.injEq, Value.int.injEq, Value.long.injEq, Value.ref.injEq, exists_and_left, exists_eq_left', and_assoc, zc_b, zc_0, zc_1, zc_10, zc_01, lg_cmp_ge, lg_cmp_le, lg_cmp_gt, lg_cmp_lt, lg_cmp_eq, zw_le, zw_lt, reduceIte, true_or, or_true, zw_g0, zw_l0, zw_g1, zw_l1, zw_g2, zw_l2, zw_g3, zw_l3, zw_g5, zw_l5, zw_g6, zw_l6, zw_g7, zw_l7, zw_g9, zw_l9, zw_g10, zw_l10, zw_g15, zw_l15, zw_g16, zw_l16, zw_g48, zw_l48, zw_g50, zw_l50, zw_g57, zw_l57, zw_g97, zw_l97, zw_g100, zw_l100, zw_g200, zw_l200, zw_g999, zw_l999, zw_g9999, zw_l9999]
          have f2 : zq_fm zfc0 [96, 97] h0 (zq_setI h1 96 i (nI (zlv (vsg V) (zcpp (vsg V) (vs V) i)))) := zq_fm_I (zq_fm_t hf f1 (by decide)) (by decide)
          have d2 : ME (vsg V) (vs V) (zcpp (vsg V) (vs V) i + 1) (zq_setI h1 96 i (nI (zlv (vsg V) (zcpp (vsg V) (vs V) i)))) := ME_fm d1 (zq_fm_I (fs := []) (ps := [96]) zq_fm_rf (by decide)) (by decide)
          have a13 : h1.1 56 13 = nI 0 := by rw [(f1.2 13 (by decide)).1]; exact e13
          refine ⟨vsg V, vs V, zcpp (vsg V) (vs V) i + 1, 3, rfl, by decide, d2, fun q3 => ?_, fun q3 h3 d3 f3 => ?_⟩
          · rw [if_pos q3] at hz
            simp only [xX12_claims_95, v6, ci, zq_sI, zm1f, not_true_eq_false, not_false_eq_true, forall_const, true_and, and_true, false_and, and_false, if_true, if_false, reduceIte, implies_true, and_self, ite_self, true_or, or_true, false_or, or_false, true_implies, false_implies, Classical.not_not, false_imp_iff, not_false_iff, zi_push, zi_iload, zi_lload, zi_aload, zi_istore, zi_astore, zi_lstore, zi_iinc, zi_i2, zi_i1, zi_idv, zi_l2, zi_ldv, zi_lsh, zi_i2l, zi_l2i, zi_lcmp, zi_dup, zi_dup2, zi_pop, zi_if1, zi_if2, zi_getI, zi_getL, zi_getR, zi_putI, zi_putZ, zi_putL, zi_aldI, zi_aldL, zi_astI, zi_astZ, zi_astL, zi_alen, zi_iret, zi_zret, zi_lret, zi_vret, zi_callV, zi_callS, zi_sw, zi_copyI, zi_copyL, zi_m2, zi_m1, zi_sval, zi_scod, zi_fmt, zi_balen, zi_bald, zi_bret, zi_callT, zq_nth, zq_put1, zq_put2, zq_clr, zq_nl, zq_tk, zq_ps, zq_sw, zq_l0, zq_a, zq_a1, List.length_cons, List.length_nil, List.nil_append, List.cons_append, List.append_nil, List.replicate, Nat.reduceAdd, Nat.reduceSub, Nat.reduceLeDiff, true_and, and_true, List.append_eq, List.cons.injEq, Value.int.injEq, Value.long.injEq, Value.ref.injEq, exists_and_left, exists_eq_left', and_assoc, zc_b, zc_0, zc_1, zc_10, zc_01, lg_cmp_ge, lg_cmp_le, lg_cmp_gt, lg_cmp_lt, lg_cmp_eq, zw_le, zw_lt, reduceIte, true_or, or_true, zw_g0, zw_l0, zw_g1, zw_l1, zw_g2, zw_l2, zw_g3, zw_l3, zw_g5, zw_l5, zw_g6, zw_l6, zw_g7, zw_l7, zw_g9, zw_l9, zw_g10, zw_l10, zw_g15, zw_l15, zw_g16, zw_l16, zw_g48, zw_l48, zw_g50, zw_l50, zw_g57, zw_l57, zw_g97, zw_l97, zw_g100, zw_l100, zw_g200, zw_l200, zw_g999, zw_l999, zw_g9999, zw_l9999]
            rw [d1.2.1]
            refine k1 _ hz.symm _ ⟨by simp only [zq_sI]; rw [if_neg (by omega), if_neg (by omega)]; exact a13, Nat.zero_le _, fun j hj => by simp only [zq_sI]; rw [if_neg (by omega), if_neg (by omega)]; exact d1.1 j hj⟩ (zq_fm_I f2 (by decide))
          · rw [if_neg (by omega)] at hz
            have l9 := zcd_lt (vsg V) (vs V) i
            have e1 : (0 ≤ nI (znv (vsg V) (zcpp (vsg V) (vs V) i + 1) (zln (vsg V) (vs V) (zcpp (vsg V) (vs V) i + 1) 3))) = True := eq_true (nI_pos' (by unfold zcd at l9; omega))
            simp only [xX12_claims_102, v6, ci, zq_sI, e1, nI_1, not_true_eq_false, not_false_eq_true, forall_const, true_and, and_true, false_and, and_false, if_true, if_false, reduceIte, implies_true, and_self, ite_self, true_or, or_true, false_or, or_false, true_implies, false_implies, Classical.not_not, false_imp_iff, not_false_iff, zi_push, zi_iload, zi_lload, zi_aload, zi_istore, zi_astore, zi_lstore, zi_iinc, zi_i2, zi_i1, zi_idv, zi_l2, zi_ldv, zi_lsh, zi_i2l, zi_l2i, zi_lcmp, zi_dup, zi_dup2, zi_pop, zi_if1, zi_if2, zi_getI, zi_getL, zi_getR, zi_putI, zi_putZ, zi_putL, zi_aldI, zi_aldL, zi_astI, zi_astZ, zi_astL, zi_alen, zi_iret, zi_zret, zi_lret, zi_vret, zi_callV, zi_callS, zi_sw, zi_copyI, zi_copyL, zi_m2, zi_m1, zi_sval, zi_scod, zi_fmt, zi_balen, zi_bald, zi_bret, zi_callT, zq_nth, zq_put1, zq_put2, zq_clr, zq_nl, zq_tk, zq_ps, zq_sw, zq_l0, zq_a, zq_a1, List.length_cons, List.length_nil, List.nil_append, List.cons_append, List.append_nil, List.replicate, Nat.reduceAdd, Nat.reduceSub, Nat.reduceLeDiff, true_and, and_true, List.append_eq, List.cons.injEq, Value.int.injEq, Value.long.injEq, Value.ref.injEq, exists_and_left, exists_eq_left', and_assoc, zc_b, zc_0, zc_1, zc_10, zc_01, lg_cmp_ge, lg_cmp_le, lg_cmp_gt, lg_cmp_lt, lg_cmp_eq, zw_le, zw_lt, reduceIte, true_or, or_true, zw_g0, zw_l0, zw_g1, zw_l1, zw_g2, zw_l2, zw_g3, zw_l3, zw_g5, zw_l5, zw_g6, zw_l6, zw_g7, zw_l7, zw_g9, zw_l9, zw_g10, zw_l10, zw_g15, zw_l15, zw_g16, zw_l16, zw_g48, zw_l48, zw_g50, zw_l50, zw_g57, zw_l57, zw_g97, zw_l97, zw_g100, zw_l100, zw_g200, zw_l200, zw_g999, zw_l999, zw_g9999, zw_l9999]
            have d4 : ME (vsg V) (vs V) (zcpp (vsg V) (vs V) i + 1 + zln (vsg V) (vs V) (zcpp (vsg V) (vs V) i + 1) 3) (zq_setI h3 97 i (nI (znv (vsg V) (zcpp (vsg V) (vs V) i + 1) (zln (vsg V) (vs V) (zcpp (vsg V) (vs V) i + 1) 3)))) := ME_fm d3 (zq_fm_I (fs := []) (ps := [97]) zq_fm_rf (by decide)) (by decide)
            have f4 : zq_fm zfc0 [96, 97] h0 (zq_setI h3 97 i (nI (znv (vsg V) (zcpp (vsg V) (vs V) i + 1) (zln (vsg V) (vs V) (zcpp (vsg V) (vs V) i + 1) 3)))) := zq_fm_I (zq_fm_t f2 f3 (by decide)) (by decide)
            have a4 : zmca V (i + 1) (zq_setI h3 97 i (nI (znv (vsg V) (zcpp (vsg V) (vs V) i + 1) (zln (vsg V) (vs V) (zcpp (vsg V) (vs V) i + 1) 3)))) := fun j hj => by
              simp only [zq_sI]
              rw [if_neg (by omega), (f3.1 96 (by decide) (by decide)).1, (f3.1 97 (by decide) (by decide)).1]
              simp only [zq_sI]
              simp only [show ((97 : Nat) = 96) = False from eq_false (by decide), true_and, false_and, if_false]
              rw [(f1.1 96 (by decide) (by decide)).1, (f1.1 97 (by decide) (by decide)).1]
              by_cases q4 : j = i
              · subst q4
                rw [if_pos rfl, if_pos rfl]
                exact ⟨rfl, rfl⟩
              · rw [if_neg q4, if_neg q4]
                exact ha j (by omega)
            have a34 : (zq_setI h3 97 i (nI (znv (vsg V) (zcpp (vsg V) (vs V) i + 1) (zln (vsg V) (vs V) (zcpp (vsg V) (vs V) i + 1) 3)))).1 56 13 = nI 0 := by
              rw [zq_sI, if_neg (by omega), (f3.2 13 (by decide)).1, zq_sI, if_neg (by omega)]
              exact a13
            refine ⟨vsg V, vs V, _, 44, rfl, by decide, d4, fun q4 h5 d5 f5 => ?_, fun q4 => ?_⟩
            · rw [if_pos q4] at hz
              simp only [zc_10, not_true_eq_false, not_false_eq_true, forall_const, true_and, and_true, false_and, and_false, if_true, if_false, reduceIte, implies_true, and_self, ite_self, true_or, or_true, false_or, or_false, true_implies, false_implies, Classical.not_not, false_imp_iff, not_false_iff, zi_push, zi_iload, zi_lload, zi_aload, zi_istore, zi_astore, zi_lstore, zi_iinc, zi_i2, zi_i1, zi_idv, zi_l2, zi_ldv, zi_lsh, zi_i2l, zi_l2i, zi_lcmp, zi_dup, zi_dup2, zi_pop, zi_if1, zi_if2, zi_getI, zi_getL, zi_getR, zi_putI, zi_putZ, zi_putL, zi_aldI, zi_aldL, zi_astI, zi_astZ, zi_astL, zi_alen, zi_iret, zi_zret, zi_lret, zi_vret, zi_callV, zi_callS, zi_sw, zi_copyI, zi_copyL, zi_m2, zi_m1, zi_sval, zi_scod, zi_fmt, zi_balen, zi_bald, zi_bret, zi_callT, zq_nth, zq_put1, zq_put2, zq_clr, zq_nl, zq_tk, zq_ps, zq_sw, zq_l0, zq_a, zq_a1, List.length_cons, List.length_nil, List.nil_append, List.cons_append, List.append_nil, List.replicate, Nat.reduceAdd, Nat.reduceSub, Nat.reduceLeDiff, true_and, and_true, List.append_eq, List.cons.injEq, Value.int.injEq, Value.long.injEq, Value.ref.injEq, exists_and_left, exists_eq_left', and_assoc, zc_b, zc_0, zc_1, zc_10, zc_01, lg_cmp_ge, lg_cmp_le, lg_cmp_gt, lg_cmp_lt, lg_cmp_eq, zw_le, zw_lt, reduceIte, true_or, or_true, zw_g0, zw_l0, zw_g1, zw_l1, zw_g2, zw_l2, zw_g3, zw_l3, zw_g5, zw_l5, zw_g6, zw_l6, zw_g7, zw_l7, zw_g9, zw_l9, zw_g10, zw_l10, zw_g15, zw_l15, zw_g16, zw_l16, zw_g48, zw_l48, zw_g50, zw_l50, zw_g57, zw_l57, zw_g97, zw_l97, zw_g100, zw_l100, zw_g200, zw_l200, zw_g999, zw_l999, zw_g9999, zw_l9999]
              refine ⟨(h0, i + 1, _, 1), by dsimp only; omega, _, _, _, rfl, by omega, d5, by rw [(f5.2 13 (by decide)).1]; exact a34, fun j hj => ?_, zq_fm_t f4 f5 (by decide), hK, Or.inl ⟨rfl, rfl, rfl, ?_⟩⟩
              · rw [(f5.1 96 (by decide) (by decide)).1, (f5.1 97 (by decide) (by decide)).1]
                exact a4 j hj
              · rw [show 6 - (i + 1) = k by omega]
                exact hz
            · rw [if_neg q4] at hz
              simp only [zi_push, zi_iload, zi_lload, zi_aload, zi_istore, zi_astore, zi_lstore, zi_iinc, zi_i2, zi_i1, zi_idv, zi_l2, zi_ldv, zi_lsh, zi_i2l, zi_l2i, zi_lcmp, zi_dup, zi_dup2, zi_pop, zi_if1, zi_if2, zi_getI, zi_getL, zi_getR, zi_putI, zi_putZ, zi_putL, zi_aldI, zi_aldL, zi_astI, zi_astZ, zi_astL, zi_alen, zi_iret, zi_zret, zi_lret, zi_vret, zi_callV, zi_callS, zi_sw, zi_copyI, zi_copyL, zi_m2, zi_m1, zi_sval, zi_scod, zi_fmt, zi_balen, zi_bald, zi_bret, zi_callT, zq_nth, zq_put1, zq_put2, zq_clr, zq_nl, zq_tk, zq_ps, zq_sw, zq_l0, zq_a, zq_a1, List.length_cons, List.length_nil, List.nil_append, List.cons_append, List.append_nil, List.replicate, Nat.reduceAdd, Nat.reduceSub, Nat.reduceLeDiff, true_and, and_true, List.append_eq, List.cons.injEq, Value.int.injEq, Value.long.injEq, Value.ref.injEq, exists_and_left, exists_eq_left', and_assoc, zc_b, zc_0, zc_1, zc_10, zc_01, lg_cmp_ge, lg_cmp_le, lg_cmp_gt, lg_cmp_lt, lg_cmp_eq, zw_le, zw_lt, reduceIte, true_or, or_true, zw_g0, zw_l0, zw_g1, zw_l1, zw_g2, zw_l2, zw_g3, zw_l3, zw_g5, zw_l5, zw_g6, zw_l6, zw_g7, zw_l7, zw_g9, zw_l9, zw_g10, zw_l10, zw_g15, zw_l15, zw_g16, zw_l16, zw_g48, zw_l48, zw_g50, zw_l50, zw_g57, zw_l57, zw_g97, zw_l97, zw_g100, zw_l100, zw_g200, zw_l200, zw_g999, zw_l999, zw_g9999, zw_l9999]
              exact ⟨(h0, i + 1, _, 0), by dsimp only; omega, _, _, _, rfl, by omega, d4, a34, a4, f4, hK, Or.inr ⟨rfl, rfl, hz.symm⟩⟩
        · rw [if_neg q2] at hz
          simp only [xX12_claims_52, xX12_claims_59, xX12_claims_68, v6, ci, cE, zq_sI, zm1f, not_true_eq_false, not_false_eq_true, forall_const, true_and, and_true, false_and, and_false, if_true, if_false, reduceIte, implies_true, and_self, ite_self, true_or, or_true, false_or, or_false, true_implies, false_implies, Classical.not_not, false_imp_iff, not_false_iff, zi_push, zi_iload, zi_lload, zi_aload, zi_istore, zi_astore, zi_lstore, zi_iinc, zi_i2, zi_i1, zi_idv, zi_l2, zi_ldv, zi_lsh, zi_i2l, zi_l2i, zi_lcmp, zi_dup, zi_dup2, zi_pop, zi_if1, zi_if2, zi_getI, zi_getL, zi_getR, zi_putI, zi_putZ, zi_putL, zi_aldI, zi_aldL, zi_astI, zi_astZ, zi_astL, zi_alen, zi_iret, zi_zret, zi_lret, zi_vret, zi_callV, zi_callS, zi_sw, zi_copyI, zi_copyL, zi_m2, zi_m1, zi_sval, zi_scod, zi_fmt, zi_balen, zi_bald, zi_bret, zi_callT, zq_nth, zq_put1, zq_put2, zq_clr, zq_nl, zq_tk, zq_ps, zq_sw, zq_l0, zq_a, zq_a1, List.length_cons, List.length_nil, List.nil_append, List.cons_append, List.append_nil, List.replicate, Nat.reduceAdd, Nat.reduceSub, Nat.reduceLeDiff, true_and, and_true, List.append_eq, List.cons.injEq, Value.int.injEq, Value.long.injEq, Value.ref.injEq, exists_and_left, exists_eq_left', and_assoc, zc_b, zc_0, zc_1, zc_10, zc_01, lg_cmp_ge, lg_cmp_le, lg_cmp_gt, lg_cmp_lt, lg_cmp_eq, zw_le, zw_lt, reduceIte, true_or, or_true, zw_g0, zw_l0, zw_g1, zw_l1, zw_g2, zw_l2, zw_g3, zw_l3, zw_g5, zw_l5, zw_g6, zw_l6, zw_g7, zw_l7, zw_g9, zw_l9, zw_g10, zw_l10, zw_g15, zw_l15, zw_g16, zw_l16, zw_g48, zw_l48, zw_g50, zw_l50, zw_g57, zw_l57, zw_g97, zw_l97, zw_g100, zw_l100, zw_g200, zw_l200, zw_g999, zw_l999, zw_g9999, zw_l9999]
          rw [hD.2.1]
          exact k1 _ hz.symm _ ⟨by rw [zq_sI, if_neg (by omega)]; exact e13, Nat.zero_le _, fun j hj => by rw [zq_sI, if_neg (by omega)]; exact hD.1 j hj⟩ (zq_fm_I hf (by decide))
    · have d2 := hD.2.1
      have d3 := hD.2.2.1
      have d4 := hD.2.2.2.1
      have d5 := hD.2.2.2.2
      have cn : (nI (vs V) ≤ nI p) = (vs V ≤ p) := nI_leP (by omega) (by omega)
      simp only [xX12_claims_16, xX12_claims_115, xX12_claims_126, xX12_claims_133, zc_10, d2, d3, cn, not_true_eq_false, not_false_eq_true, forall_const, true_and, and_true, false_and, and_false, if_true, if_false, reduceIte, implies_true, and_self, ite_self, true_or, or_true, false_or, or_false, true_implies, false_implies, Classical.not_not, false_imp_iff, not_false_iff, zi_push, zi_iload, zi_lload, zi_aload, zi_istore, zi_astore, zi_lstore, zi_iinc, zi_i2, zi_i1, zi_idv, zi_l2, zi_ldv, zi_lsh, zi_i2l, zi_l2i, zi_lcmp, zi_dup, zi_dup2, zi_pop, zi_if1, zi_if2, zi_getI, zi_getL, zi_getR, zi_putI, zi_putZ, zi_putL, zi_aldI, zi_aldL, zi_astI, zi_astZ, zi_astL, zi_alen, zi_iret, zi_zret, zi_lret, zi_vret, zi_callV, zi_callS, zi_sw, zi_copyI, zi_copyL, zi_m2, zi_m1, zi_sval, zi_scod, zi_fmt, zi_balen, zi_bald, zi_bret, zi_callT, zq_nth, zq_put1, zq_put2, zq_clr, zq_nl, zq_tk, zq_ps, zq_sw, zq_l0, zq_a, zq_a1, List.length_cons, List.length_nil, List.nil_append, List.cons_append, List.append_nil, List.replicate, Nat.reduceAdd, Nat.reduceSub, Nat.reduceLeDiff, true_and, and_true, List.append_eq, List.cons.injEq, Value.int.injEq, Value.long.injEq, Value.ref.injEq, exists_and_left, exists_eq_left', and_assoc, zc_b, zc_0, zc_1, zc_10, zc_01, lg_cmp_ge, lg_cmp_le, lg_cmp_gt, lg_cmp_lt, lg_cmp_eq, zw_le, zw_lt, reduceIte, true_or, or_true, zw_g0, zw_l0, zw_g1, zw_l1, zw_g2, zw_l2, zw_g3, zw_l3, zw_g5, zw_l5, zw_g6, zw_l6, zw_g7, zw_l7, zw_g9, zw_l9, zw_g10, zw_l10, zw_g15, zw_l15, zw_g16, zw_l16, zw_g48, zw_l48, zw_g50, zw_l50, zw_g57, zw_l57, zw_g97, zw_l97, zw_g100, zw_l100, zw_g200, zw_l200, zw_g999, zw_l999, zw_g9999, zw_l9999]
      have hT0 : MT 0 (vsg V) h := ⟨e13, Nat.zero_le _, hD.1⟩
      refine ⟨fun q => ?_, fun q => ?_⟩
      · rw [if_pos q] at hz
        refine ⟨rfl, hV, hX1, fun h1 x1 f1 => ?_⟩
        simp only [zi_push, zi_iload, zi_lload, zi_aload, zi_istore, zi_astore, zi_lstore, zi_iinc, zi_i2, zi_i1, zi_idv, zi_l2, zi_ldv, zi_lsh, zi_i2l, zi_l2i, zi_lcmp, zi_dup, zi_dup2, zi_pop, zi_if1, zi_if2, zi_getI, zi_getL, zi_getR, zi_putI, zi_putZ, zi_putL, zi_aldI, zi_aldL, zi_astI, zi_astZ, zi_astL, zi_alen, zi_iret, zi_zret, zi_lret, zi_vret, zi_callV, zi_callS, zi_sw, zi_copyI, zi_copyL, zi_m2, zi_m1, zi_sval, zi_scod, zi_fmt, zi_balen, zi_bald, zi_bret, zi_callT, zq_nth, zq_put1, zq_put2, zq_clr, zq_nl, zq_tk, zq_ps, zq_sw, zq_l0, zq_a, zq_a1, List.length_cons, List.length_nil, List.nil_append, List.cons_append, List.append_nil, List.replicate, Nat.reduceAdd, Nat.reduceSub, Nat.reduceLeDiff, true_and, and_true, List.append_eq, List.cons.injEq, Value.int.injEq, Value.long.injEq, Value.ref.injEq, exists_and_left, exists_eq_left', and_assoc, zc_b, zc_0, zc_1, zc_10, zc_01, lg_cmp_ge, lg_cmp_le, lg_cmp_gt, lg_cmp_lt, lg_cmp_eq, zw_le, zw_lt, reduceIte, true_or, or_true, zw_g0, zw_l0, zw_g1, zw_l1, zw_g2, zw_l2, zw_g3, zw_l3, zw_g5, zw_l5, zw_g6, zw_l6, zw_g7, zw_l7, zw_g9, zw_l9, zw_g10, zw_l10, zw_g15, zw_l15, zw_g16, zw_l16, zw_g48, zw_l48, zw_g50, zw_l50, zw_g57, zw_l57, zw_g97, zw_l97, zw_g100, zw_l100, zw_g200, zw_l200, zw_g999, zw_l999, zw_g9999, zw_l9999]
        have h1i := (zcP_d hX.1.1 hg hz).2
        exact ⟨(h0, i, 1), by dsimp only; omega, 0, by rw [zcb_1]; rfl, rfl, ⟨Nat.le_refl _, Nat.one_le_two_pow⟩, hz, x1, MT_fm hT0 f1 (by decide), fun j hj => by
          rw [(f1.1 96 (by decide) (by decide)).1, (f1.1 97 (by decide) (by decide)).1]
          exact ha j hj, zq_fm_t (zq_fm_w hf (by decide)) f1 (by decide), hK⟩
      · rw [if_neg q] at hz
        exact k1 _ hz h hT0 hf
  · obtain ⟨h0, m, t⟩ := z
    obtain ⟨s2, rfl, rfl, ⟨ht1, ht⟩, hz, hX, hT, hP, hf, hK⟩ := hi
    have hK9 := hK
    obtain ⟨hV, hX0, k1, k2⟩ := hK9
    have hg := hX.1.2.1.1
    have hd := (zcP_d hX.1.1.1 hg hz).1
    have hm6 : m ≤ 6 := hd.1
    have hn := hd.2.1
    have hp2 := (zp2 m hm6).2
    have hb := zcb_2 V (zcP (vsg V) (vs V) m) ht1
    have b6 := zbc_6 (zcb V (zcP (vsg V) (vs V) m) t) (by omega)
    simp only [xX12_claims_145, xX12_claims_153, xX12_claims_223, hp2.1, zl_ge ht (show 2 ^ m < 2 ^ 31 by omega), zi_push, zi_iload, zi_lload, zi_aload, zi_istore, zi_astore, zi_lstore, zi_iinc, zi_i2, zi_i1, zi_idv, zi_l2, zi_ldv, zi_lsh, zi_i2l, zi_l2i, zi_lcmp, zi_dup, zi_dup2, zi_pop, zi_if1, zi_if2, zi_getI, zi_getL, zi_getR, zi_putI, zi_putZ, zi_putL, zi_aldI, zi_aldL, zi_astI, zi_astZ, zi_astL, zi_alen, zi_iret, zi_zret, zi_lret, zi_vret, zi_callV, zi_callS, zi_sw, zi_copyI, zi_copyL, zi_m2, zi_m1, zi_sval, zi_scod, zi_fmt, zi_balen, zi_bald, zi_bret, zi_callT, zq_nth, zq_put1, zq_put2, zq_clr, zq_nl, zq_tk, zq_ps, zq_sw, zq_l0, zq_a, zq_a1, List.length_cons, List.length_nil, List.nil_append, List.cons_append, List.append_nil, List.replicate, Nat.reduceAdd, Nat.reduceSub, Nat.reduceLeDiff, true_and, and_true, List.append_eq, List.cons.injEq, Value.int.injEq, Value.long.injEq, Value.ref.injEq, exists_and_left, exists_eq_left', and_assoc, zc_b, zc_0, zc_1, zc_10, zc_01, lg_cmp_ge, lg_cmp_le, lg_cmp_gt, lg_cmp_lt, lg_cmp_eq, zw_le, zw_lt, reduceIte, true_or, or_true, zw_g0, zw_l0, zw_g1, zw_l1, zw_g2, zw_l2, zw_g3, zw_l3, zw_g5, zw_l5, zw_g6, zw_l6, zw_g7, zw_l7, zw_g9, zw_l9, zw_g10, zw_l10, zw_g15, zw_l15, zw_g16, zw_l16, zw_g48, zw_l48, zw_g50, zw_l50, zw_g57, zw_l57, zw_g97, zw_l97, zw_g100, zw_l100, zw_g200, zw_l200, zw_g999, zw_l999, zw_g9999, zw_l9999]
    refine ⟨fun q => ?_, fun q => ⟨t, rfl, by omega, ?_⟩⟩
    · subst q
      have l17 := zPL_17 hd (zcb V (zcP (vsg V) (vs V) m) (2 ^ m))
      refine ⟨_, rfl, by omega, ?_⟩
      simp only [zi_push, zi_iload, zi_lload, zi_aload, zi_istore, zi_astore, zi_lstore, zi_iinc, zi_i2, zi_i1, zi_idv, zi_l2, zi_ldv, zi_lsh, zi_i2l, zi_l2i, zi_lcmp, zi_dup, zi_dup2, zi_pop, zi_if1, zi_if2, zi_getI, zi_getL, zi_getR, zi_putI, zi_putZ, zi_putL, zi_aldI, zi_aldL, zi_astI, zi_astZ, zi_astL, zi_alen, zi_iret, zi_zret, zi_lret, zi_vret, zi_callV, zi_callS, zi_sw, zi_copyI, zi_copyL, zi_m2, zi_m1, zi_sval, zi_scod, zi_fmt, zi_balen, zi_bald, zi_bret, zi_callT, zq_nth, zq_put1, zq_put2, zq_clr, zq_nl, zq_tk, zq_ps, zq_sw, zq_l0, zq_a, zq_a1, List.length_cons, List.length_nil, List.nil_append, List.cons_append, List.append_nil, List.replicate, Nat.reduceAdd, Nat.reduceSub, Nat.reduceLeDiff, true_and, and_true, List.append_eq, List.cons.injEq, Value.int.injEq, Value.long.injEq, Value.ref.injEq, exists_and_left, exists_eq_left', and_assoc, zc_b, zc_0, zc_1, zc_10, zc_01, lg_cmp_ge, lg_cmp_le, lg_cmp_gt, lg_cmp_lt, lg_cmp_eq, zw_le, zw_lt, reduceIte, true_or, or_true, zw_g0, zw_l0, zw_g1, zw_l1, zw_g2, zw_l2, zw_g3, zw_l3, zw_g5, zw_l5, zw_g6, zw_l6, zw_g7, zw_l7, zw_g9, zw_l9, zw_g10, zw_l10, zw_g15, zw_l15, zw_g16, zw_l16, zw_g48, zw_l48, zw_g50, zw_l50, zw_g57, zw_l57, zw_g97, zw_l97, zw_g100, zw_l100, zw_g200, zw_l200, zw_g999, zw_l999, zw_g9999, zw_l9999]
      rw [nI_l (by omega)]
      have g0 : zq_fm [1] [] h (zq_setI h 56 1 0) := zq_fm_F zq_fm_rf (by decide)
      refine ⟨_, [], rfl, MR_nil h, by decide, fun h2 r2 f2 => ?_⟩
      simp only [zi_push, zi_iload, zi_lload, zi_aload, zi_istore, zi_astore, zi_lstore, zi_iinc, zi_i2, zi_i1, zi_idv, zi_l2, zi_ldv, zi_lsh, zi_i2l, zi_l2i, zi_lcmp, zi_dup, zi_dup2, zi_pop, zi_if1, zi_if2, zi_getI, zi_getL, zi_getR, zi_putI, zi_putZ, zi_putL, zi_aldI, zi_aldL, zi_astI, zi_astZ, zi_astL, zi_alen, zi_iret, zi_zret, zi_lret, zi_vret, zi_callV, zi_callS, zi_sw, zi_copyI, zi_copyL, zi_m2, zi_m1, zi_sval, zi_scod, zi_fmt, zi_balen, zi_bald, zi_bret, zi_callT, zq_nth, zq_put1, zq_put2, zq_clr, zq_nl, zq_tk, zq_ps, zq_sw, zq_l0, zq_a, zq_a1, List.length_cons, List.length_nil, List.nil_append, List.cons_append, List.append_nil, List.replicate, Nat.reduceAdd, Nat.reduceSub, Nat.reduceLeDiff, true_and, and_true, List.append_eq, List.cons.injEq, Value.int.injEq, Value.long.injEq, Value.ref.injEq, exists_and_left, exists_eq_left', and_assoc, zc_b, zc_0, zc_1, zc_10, zc_01, lg_cmp_ge, lg_cmp_le, lg_cmp_gt, lg_cmp_lt, lg_cmp_eq, zw_le, zw_lt, reduceIte, true_or, or_true, zw_g0, zw_l0, zw_g1, zw_l1, zw_g2, zw_l2, zw_g3, zw_l3, zw_g5, zw_l5, zw_g6, zw_l6, zw_g7, zw_l7, zw_g9, zw_l9, zw_g10, zw_l10, zw_g15, zw_l15, zw_g16, zw_l16, zw_g48, zw_l48, zw_g50, zw_l50, zw_g57, zw_l57, zw_g97, zw_l97, zw_g100, zw_l100, zw_g200, zw_l200, zw_g999, zw_l999, zw_g9999, zw_l9999]
      rw [nI_l (by omega)]
      refine ⟨_, _, rfl, r2, Nat.le_of_ble_eq_true rfl, fun h3 r3 f3 => ?_⟩
      simp only [zi_push, zi_iload, zi_lload, zi_aload, zi_istore, zi_astore, zi_lstore, zi_iinc, zi_i2, zi_i1, zi_idv, zi_l2, zi_ldv, zi_lsh, zi_i2l, zi_l2i, zi_lcmp, zi_dup, zi_dup2, zi_pop, zi_if1, zi_if2, zi_getI, zi_getL, zi_getR, zi_putI, zi_putZ, zi_putL, zi_aldI, zi_aldL, zi_astI, zi_astZ, zi_astL, zi_alen, zi_iret, zi_zret, zi_lret, zi_vret, zi_callV, zi_callS, zi_sw, zi_copyI, zi_copyL, zi_m2, zi_m1, zi_sval, zi_scod, zi_fmt, zi_balen, zi_bald, zi_bret, zi_callT, zq_nth, zq_put1, zq_put2, zq_clr, zq_nl, zq_tk, zq_ps, zq_sw, zq_l0, zq_a, zq_a1, List.length_cons, List.length_nil, List.nil_append, List.cons_append, List.append_nil, List.replicate, Nat.reduceAdd, Nat.reduceSub, Nat.reduceLeDiff, true_and, and_true, List.append_eq, List.cons.injEq, Value.int.injEq, Value.long.injEq, Value.ref.injEq, exists_and_left, exists_eq_left', and_assoc, zc_b, zc_0, zc_1, zc_10, zc_01, lg_cmp_ge, lg_cmp_le, lg_cmp_gt, lg_cmp_lt, lg_cmp_eq, zw_le, zw_lt, reduceIte, true_or, or_true, zw_g0, zw_l0, zw_g1, zw_l1, zw_g2, zw_l2, zw_g3, zw_l3, zw_g5, zw_l5, zw_g6, zw_l6, zw_g7, zw_l7, zw_g9, zw_l9, zw_g10, zw_l10, zw_g15, zw_l15, zw_g16, zw_l16, zw_g48, zw_l48, zw_g50, zw_l50, zw_g57, zw_l57, zw_g97, zw_l97, zw_g100, zw_l100, zw_g200, zw_l200, zw_g999, zw_l999, zw_g9999, zw_l9999]
      exact k2 m hz h3 r3 (MT_fm (MT_fm (MT_fm hT g0 (by decide)) f2 (by decide)) f3 (by decide)) (zq_fm_t (zq_fm_t (zq_fm_t hf g0 (by decide)) f2 (by decide)) f3 (by decide))
    · simp only [zi_push, zi_iload, zi_lload, zi_aload, zi_istore, zi_astore, zi_lstore, zi_iinc, zi_i2, zi_i1, zi_idv, zi_l2, zi_ldv, zi_lsh, zi_i2l, zi_l2i, zi_lcmp, zi_dup, zi_dup2, zi_pop, zi_if1, zi_if2, zi_getI, zi_getL, zi_getR, zi_putI, zi_putZ, zi_putL, zi_aldI, zi_aldL, zi_astI, zi_astZ, zi_astL, zi_alen, zi_iret, zi_zret, zi_lret, zi_vret, zi_callV, zi_callS, zi_sw, zi_copyI, zi_copyL, zi_m2, zi_m1, zi_sval, zi_scod, zi_fmt, zi_balen, zi_bald, zi_bret, zi_callT, zq_nth, zq_put1, zq_put2, zq_clr, zq_nl, zq_tk, zq_ps, zq_sw, zq_l0, zq_a, zq_a1, List.length_cons, List.length_nil, List.nil_append, List.cons_append, List.append_nil, List.replicate, Nat.reduceAdd, Nat.reduceSub, Nat.reduceLeDiff, true_and, and_true, List.append_eq, List.cons.injEq, Value.int.injEq, Value.long.injEq, Value.ref.injEq, exists_and_left, exists_eq_left', and_assoc, zc_b, zc_0, zc_1, zc_10, zc_01, lg_cmp_ge, lg_cmp_le, lg_cmp_gt, lg_cmp_lt, lg_cmp_eq, zw_le, zw_lt, reduceIte, true_or, or_true, zw_g0, zw_l0, zw_g1, zw_l1, zw_g2, zw_l2, zw_g3, zw_l3, zw_g5, zw_l5, zw_g6, zw_l6, zw_g7, zw_l7, zw_g9, zw_l9, zw_g10, zw_l10, zw_g15, zw_l15, zw_g16, zw_l16, zw_g48, zw_l48, zw_g50, zw_l50, zw_g57, zw_l57, zw_g97, zw_l97, zw_g100, zw_l100, zw_g200, zw_l200, zw_g999, zw_l999, zw_g9999, zw_l9999]
      refine ⟨_, rfl, by omega, ?_⟩
      have c1 := zbc_6 t (by omega)
      have es := zcb_s V (zcP (vsg V) (vs V) m) t
      have l17 := zPL_17 hd t
      have cc : (nI (zbc t) ≤ nI (zbc (zcb V (zcP (vsg V) (vs V) m) t))) = (zbc t ≤ zbc (zcb V (zcP (vsg V) (vs V) m) t)) := nI_leP (by omega) (by omega)
      simp only [xX12_claims_165, xX12_claims_217, cc, nI_1, zi_push, zi_iload, zi_lload, zi_aload, zi_istore, zi_astore, zi_lstore, zi_iinc, zi_i2, zi_i1, zi_idv, zi_l2, zi_ldv, zi_lsh, zi_i2l, zi_l2i, zi_lcmp, zi_dup, zi_dup2, zi_pop, zi_if1, zi_if2, zi_getI, zi_getL, zi_getR, zi_putI, zi_putZ, zi_putL, zi_aldI, zi_aldL, zi_astI, zi_astZ, zi_astL, zi_alen, zi_iret, zi_zret, zi_lret, zi_vret, zi_callV, zi_callS, zi_sw, zi_copyI, zi_copyL, zi_m2, zi_m1, zi_sval, zi_scod, zi_fmt, zi_balen, zi_bald, zi_bret, zi_callT, zq_nth, zq_put1, zq_put2, zq_clr, zq_nl, zq_tk, zq_ps, zq_sw, zq_l0, zq_a, zq_a1, List.length_cons, List.length_nil, List.nil_append, List.cons_append, List.append_nil, List.replicate, Nat.reduceAdd, Nat.reduceSub, Nat.reduceLeDiff, true_and, and_true, List.append_eq, List.cons.injEq, Value.int.injEq, Value.long.injEq, Value.ref.injEq, exists_and_left, exists_eq_left', and_assoc, zc_b, zc_0, zc_1, zc_10, zc_01, lg_cmp_ge, lg_cmp_le, lg_cmp_gt, lg_cmp_lt, lg_cmp_eq, zw_le, zw_lt, reduceIte, true_or, or_true, zw_g0, zw_l0, zw_g1, zw_l1, zw_g2, zw_l2, zw_g3, zw_l3, zw_g5, zw_l5, zw_g6, zw_l6, zw_g7, zw_l7, zw_g9, zw_l9, zw_g10, zw_l10, zw_g15, zw_l15, zw_g16, zw_l16, zw_g48, zw_l48, zw_g50, zw_l50, zw_g57, zw_l57, zw_g97, zw_l97, zw_g100, zw_l100, zw_g200, zw_l200, zw_g999, zw_l999, zw_g9999, zw_l9999]
      have fin : ∀ B h', B = zcb V (zcP (vsg V) (vs V) m) (t + 1) → zq_fm [40] [] h h' → ∃ z9 : zq_H × Nat × Nat, 65 - z9.2.2 < 65 - t ∧ I_mc145 b V Q z9 [some (.ref 56), some (.int (nI m)), some (.int s2), some (.int (nI B)), some (.int (nI (zPL V (zcP (vsg V) (vs V) m) B))), some (.int (nI (t + 1)))] [] h' := by
        intro B h' e f
        subst e
        exact ⟨(h0, m, t + 1), by dsimp only; omega, s2, rfl, rfl, ⟨by omega, by omega⟩, hz, MD_fm hX f (by decide), MT_fm hT f (by decide), MPl_fm hP f (by decide), zq_fm_t hf f (by decide), hK⟩
      rw [es] at fin
      refine ⟨fun q2 => ?_, fun q2 => ?_⟩
      · rw [if_neg (fun z => by omega)] at fin
        exact fin _ h rfl zq_fm_rf
      · have g0 : zq_fm [40] [] h (zq_setI h 56 40 1000) := zq_fm_F zq_fm_rf (by decide)
        have hC : zPc V (zcP (vsg V) (vs V) m) := ⟨hd, fun _ => rfl, fun i _ => zcd_lt _ _ i⟩
        refine ⟨b, V, zcP (vsg V) (vs V) m, t, 0, 1000, rfl, ⟨c1, show t < 2 ^ m by omega, Nat.zero_le _, Nat.le_refl _⟩, hC, MD_fm hX g0 (by decide), MPl_fm hP g0 (by decide), by rw [zq_sI, if_pos ⟨rfl, rfl⟩]; rfl, fun h1 e1 f1 => ?_⟩
        rw [zPL_G hd (by omega)] at e1
        have g1 := zq_fm_t g0 f1 (by decide)
        by_cases q3 : zPL V (zcP (vsg V) (vs V) m) t ≤ vn V
        · rw [if_pos ⟨by omega, q3⟩] at fin
          rw [show zmq (vn V) 1000 (zPL V (zcP (vsg V) (vs V) m) t) = zPL V (zcP (vsg V) (vs V) m) t by unfold zmq; rw [if_pos q3, Nat.min_eq_right (by omega)]] at e1
          have c9 : (1000 ≤ nI (zPL V (zcP (vsg V) (vs V) m) t)) = False := by rw [show (1000 : Int32) = nI 1000 from rfl, nI_leP (by decide) (by omega)]; exact eq_false (by omega)
          simp only [xX12_claims_189, xX12_claims_198, xX12_claims_210, xX12_claims_216, xX12_claims_217, e1, c9, nI_1, not_true_eq_false, not_false_eq_true, forall_const, true_and, and_true, false_and, and_false, if_true, if_false, reduceIte, implies_true, and_self, ite_self, true_or, or_true, false_or, or_false, true_implies, false_implies, Classical.not_not, false_imp_iff, not_false_iff, zi_push, zi_iload, zi_lload, zi_aload, zi_istore, zi_astore, zi_lstore, zi_iinc, zi_i2, zi_i1, zi_idv, zi_l2, zi_ldv, zi_lsh, zi_i2l, zi_l2i, zi_lcmp, zi_dup, zi_dup2, zi_pop, zi_if1, zi_if2, zi_getI, zi_getL, zi_getR, zi_putI, zi_putZ, zi_putL, zi_aldI, zi_aldL, zi_astI, zi_astZ, zi_astL, zi_alen, zi_iret, zi_zret, zi_lret, zi_vret, zi_callV, zi_callS, zi_sw, zi_copyI, zi_copyL, zi_m2, zi_m1, zi_sval, zi_scod, zi_fmt, zi_balen, zi_bald, zi_bret, zi_callT, zq_nth, zq_put1, zq_put2, zq_clr, zq_nl, zq_tk, zq_ps, zq_sw, zq_l0, zq_a, zq_a1, List.length_cons, List.length_nil, List.nil_append, List.cons_append, List.append_nil, List.replicate, Nat.reduceAdd, Nat.reduceSub, Nat.reduceLeDiff, true_and, and_true, List.append_eq, List.cons.injEq, Value.int.injEq, Value.long.injEq, Value.ref.injEq, exists_and_left, exists_eq_left', and_assoc, zc_b, zc_0, zc_1, zc_10, zc_01, lg_cmp_ge, lg_cmp_le, lg_cmp_gt, lg_cmp_lt, lg_cmp_eq, zw_le, zw_lt, reduceIte, true_or, or_true, zw_g0, zw_l0, zw_g1, zw_l1, zw_g2, zw_l2, zw_g3, zw_l3, zw_g5, zw_l5, zw_g6, zw_l6, zw_g7, zw_l7, zw_g9, zw_l9, zw_g10, zw_l10, zw_g15, zw_l15, zw_g16, zw_l16, zw_g48, zw_l48, zw_g50, zw_l50, zw_g57, zw_l57, zw_g97, zw_l97, zw_g100, zw_l100, zw_g200, zw_l200, zw_g999, zw_l999, zw_g9999, zw_l9999]
          exact fin _ h1 rfl g1
        · rw [if_neg (fun z => q3 z.2)] at fin
          rw [show zmq (vn V) 1000 (zPL V (zcP (vsg V) (vs V) m) t) = 1000 by unfold zmq; rw [if_neg q3]] at e1
          have c9 : ((1000 : Int32) ≤ nI 1000) = True := eq_true (by decide)
          simp only [xX12_claims_196, xX12_claims_198, xX12_claims_215, xX12_claims_216, xX12_claims_217, e1, c9, nI_1, not_true_eq_false, not_false_eq_true, forall_const, true_and, and_true, false_and, and_false, if_true, if_false, reduceIte, implies_true, and_self, ite_self, true_or, or_true, false_or, or_false, true_implies, false_implies, Classical.not_not, false_imp_iff, not_false_iff, zi_push, zi_iload, zi_lload, zi_aload, zi_istore, zi_astore, zi_lstore, zi_iinc, zi_i2, zi_i1, zi_idv, zi_l2, zi_ldv, zi_lsh, zi_i2l, zi_l2i, zi_lcmp, zi_dup, zi_dup2, zi_pop, zi_if1, zi_if2, zi_getI, zi_getL, zi_getR, zi_putI, zi_putZ, zi_putL, zi_aldI, zi_aldL, zi_astI, zi_astZ, zi_astL, zi_alen, zi_iret, zi_zret, zi_lret, zi_vret, zi_callV, zi_callS, zi_sw, zi_copyI, zi_copyL, zi_m2, zi_m1, zi_sval, zi_scod, zi_fmt, zi_balen, zi_bald, zi_bret, zi_callT, zq_nth, zq_put1, zq_put2, zq_clr, zq_nl, zq_tk, zq_ps, zq_sw, zq_l0, zq_a, zq_a1, List.length_cons, List.length_nil, List.nil_append, List.cons_append, List.append_nil, List.replicate, Nat.reduceAdd, Nat.reduceSub, Nat.reduceLeDiff, true_and, and_true, List.append_eq, List.cons.injEq, Value.int.injEq, Value.long.injEq, Value.ref.injEq, exists_and_left, exists_eq_left', and_assoc, zc_b, zc_0, zc_1, zc_10, zc_01, lg_cmp_ge, lg_cmp_le, lg_cmp_gt, lg_cmp_lt, lg_cmp_eq, zw_le, zw_lt, reduceIte, true_or, or_true, zw_g0, zw_l0, zw_g1, zw_l1, zw_g2, zw_l2, zw_g3, zw_l3, zw_g5, zw_l5, zw_g6, zw_l6, zw_g7, zw_l7, zw_g9, zw_l9, zw_g10, zw_l10, zw_g15, zw_l15, zw_g16, zw_l16, zw_g48, zw_l48, zw_g50, zw_l50, zw_g57, zw_l57, zw_g97, zw_l97, zw_g100, zw_l100, zw_g200, zw_l200, zw_g999, zw_l999, zw_g9999, zw_l9999]
          exact fin _ h1 rfl g1
