/-! ===== nothing: how many crumbs more ===== -/
def vC (V : zV) : Nat := nsum (fun i => (vcr V i).toNatClampNeg) (vn V)
theorem vC_eq {V : zV} (hV : ZV V) : zsum (vcr V) (vn V) = nI (vC V) ∧ vC V ≤ 9 * vn V := by
  have e : ∀ k, k < vn V → vcr V k = nI ((vcr V k).toNatClampNeg) ∧ (vcr V k).toNatClampNeg ≤ 9 := fun k hk => by
    obtain ⟨a, b, e1, h1, h2, _⟩ := hV.1.2 k hk
    rw [e1, nI_clamp (by omega)]
    exact ⟨rfl, h2⟩
  exact ⟨zsum_nsum _ (fun k hk => (e k hk).1), nsum_le _ (fun k hk => (e k hk).2)⟩
/-- n crumbs can be parted as deserved -/
def zpt (V : zV) (n : Nat) : Prop := ∀ g, g < vg V → n * vdN V g % vA V = 0
def zgc (V : zV) : Nat → Nat
  | 0 => 0
  | t + 1 => Nat.gcd (zgc V t) (vdN V t)
theorem zgc_dvd (V : zV) : ∀ t g, g < t → zgc V t ∣ vdN V g
  | 0, g, h => absurd h (Nat.not_lt_zero _)
  | t + 1, g, h => by
    by_cases q : g = t
    · rw [q]
      exact Nat.gcd_dvd_right _ _
    · exact Nat.dvd_trans (Nat.gcd_dvd_left _ _) (zgc_dvd V t g (by omega))
theorem zgc_mul (V : zV) (S n : Nat) : ∀ t, (∀ g, g < t → S ∣ n * vdN V g) → S ∣ n * zgc V t
  | 0, _ => by
    rw [zgc, Nat.mul_zero]
    exact Nat.dvd_zero S
  | t + 1, h => by
    rw [zgc, ← Nat.gcd_mul_left]
    exact Nat.dvd_gcd (zgc_mul V S n t (fun g hg => h g (by omega))) (h t (by omega))
theorem zgc_sum {f : Nat → Nat} {d : Nat} : ∀ t, (∀ g, g < t → d ∣ f g) → d ∣ nsum f t
  | 0, _ => Nat.dvd_zero d
  | t + 1, h => Nat.dvd_add (zgc_sum t (fun g hg => h g (by omega))) (h t (by omega))
theorem zgc_le (V : zV) (hV : ZV V) : ∀ t, t ≤ vg V → zgc V t ≤ 999
  | 0, _ => Nat.zero_le _
  | t + 1, h => by
    have hd := (vdN_eq hV (show t < vg V by omega)).2
    rcases Nat.eq_zero_or_pos (vdN V t) with q | q
    · rw [zgc, q, Nat.gcd_zero_right]
      exact zgc_le V hV t (by omega)
    · exact Nat.le_trans (Nat.gcd_le_right _ q) hd
/-- the gcd of all; the step; the least more -/
def zG9 (V : zV) : Nat := zgc V (vg V)
def zk9 (V : zV) : Nat := vA V / zG9 V
def zb9 (V : zV) : Nat := (zk9 V - vC V % zk9 V) % zk9 V
theorem zG_ok {V : zV} (h : 0 < vA V) : 0 < zG9 V ∧ zk9 V * zG9 V = vA V ∧ 0 < zk9 V := by
  have d : zG9 V ∣ vA V := zgc_sum _ (fun g hg => zgc_dvd V _ g hg)
  have e : zk9 V * zG9 V = vA V := Nat.div_mul_cancel d
  refine ⟨Nat.pos_of_ne_zero (fun z => ?_), e, Nat.pos_of_ne_zero (fun z => ?_)⟩
  · rw [z] at e
    omega
  · rw [z] at e
    omega
theorem zpt_k {V : zV} (h : 0 < vA V) (n : Nat) : zpt V n ↔ zk9 V ∣ n := by
  obtain ⟨g0, e, k0⟩ := zG_ok h
  constructor
  · intro q
    have a := zgc_mul V (vA V) n (vg V) (fun g hg => Nat.dvd_of_mod_eq_zero (q g hg))
    rw [← e] at a
    exact Nat.dvd_of_mul_dvd_mul_right g0 a
  · intro q g hg
    apply Nat.mod_eq_zero_of_dvd
    rw [← e]
    exact Nat.mul_dvd_mul q (zgc_dvd V _ g hg)
theorem zb9_ok {C k : Nat} (h : 0 < k) : k ∣ C + (k - C % k) % k ∧ (∀ b, b < (k - C % k) % k → ¬ k ∣ C + b) := by
  have hm := Nat.mod_lt C h
  have hd := Nat.div_add_mod C k
  by_cases q : C % k = 0
  · rw [q, Nat.sub_zero, Nat.mod_self]
    exact ⟨Nat.dvd_of_mod_eq_zero (by rw [Nat.add_zero]; exact q), fun b hb => absurd hb (Nat.not_lt_zero _)⟩
  · rw [Nat.mod_eq_of_lt (show k - C % k < k by omega)]
    refine ⟨⟨C / k + 1, by rw [Nat.mul_add]; omega⟩, fun b hb z => ?_⟩
    obtain ⟨m, em⟩ := z
    have h1 : k * (C / k) < k * m := by omega
    have h2 : k * m < k * (C / k + 1) := by rw [Nat.mul_add]; omega
    have h3 := Nat.lt_of_mul_lt_mul_left h1
    have h4 := Nat.lt_of_mul_lt_mul_left h2
    omega
theorem zb9_row {V : zV} (h : 0 < vA V) {n g : Nat} (hg : g < vg V) (hn : zk9 V ∣ n) : vdN V g / zG9 V * (n / zk9 V) = n * vdN V g / vA V := by
  obtain ⟨g0, e, k0⟩ := zG_ok h
  obtain ⟨m, em⟩ := hn
  obtain ⟨x, ex⟩ := zgc_dvd V (vg V) g hg
  have ex : vdN V g = zG9 V * x := ex
  rw [em, ex, Nat.mul_div_cancel_left _ k0, Nat.mul_div_cancel_left _ g0, ← e]
  have : zk9 V * m * (zG9 V * x) = (zk9 V * zG9 V) * (x * m) := by
    simp only [Nat.mul_comm, Nat.mul_left_comm, Nat.mul_assoc]
  rw [this, Nat.mul_div_cancel_left _ (Nat.mul_pos k0 g0)]
def znW (V : zV) (n : Nat) : Nat → Nat := fun g => n * vdN V g / vA V
def zNo (V : zV) (K : List Int64 → Int32 → Prop) (K2 : Prop) : Prop :=
  (vA V = 0 → K2) ∧ (0 < vA V → 999 < zb9 V → K2) ∧ (0 < vA V → zb9 V ≤ 999 → K (zrw (znW V (vC V + zb9 V)) (vg V)) (nI (zb9 V)))
/-! the class -/
def sp_canPart : zq_Sp := fun args h Q => ∃ V n, args = [.ref 5, .int (nI n), .int (nI (vA V))] ∧ n ≤ 2000 ∧ 0 < vA V ∧ ZV V ∧ XC V h ∧ (zpt V n → Q (some (.int 1)) h) ∧ (¬ zpt V n → Q (some (.int 0)) h)
def I_canPart (Q : zq_Q) (z : zV × Nat × Nat) : zq_P := fun ls st h => match z with
  | (V, n, g) => ls = [some (.ref 5), some (.int (nI n)), some (.int (nI (vA V))), some (.int (nI g))] ∧ st = [] ∧ n ≤ 2000 ∧ 0 < vA V ∧ ZV V ∧ XC V h ∧ g ≤ vg V ∧ (∀ i, i < g → n * vdN V i % vA V = 0) ∧ (zpt V n → Q (some (.int 1)) h) ∧ (¬ zpt V n → Q (some (.int 0)) h)
theorem ok_canPart : zq_M yX3_canPart cX3_canPart 4 (some .boolean) 1 0 sp_canPart := by
  refine mX3_canPart (fun z => 10 - z.2.2) I_canPart (fun args h Q hs => ?_) (fun Q z ls st h hi => ?_)
  · obtain ⟨V, n, rfl, hn, hA, hV, hX, k1, k2⟩ := hs
    refine ⟨Nat.le_of_ble_eq_true rfl, ?_⟩
    simp only [xX3_canPart_49, xX3_canPart_48, xX3_canPart_44, xX3_canPart_40, xX3_canPart_34, xX3_canPart_32, xX3_canPart_14, xX3_canPart_10, xX3_canPart_2, xX3_canPart_0, zi_push, zi_iload, zi_lload, zi_aload, zi_istore, zi_astore, zi_lstore, zi_iinc, zi_i2, zi_i1, zi_idv, zi_l2, zi_ldv, zi_lsh, zi_i2l, zi_l2i, zi_lcmp, zi_dup, zi_dup2, zi_pop, zi_if1, zi_if2, zi_getI, zi_getL, zi_getR, zi_putI, zi_putZ, zi_putL, zi_aldI, zi_aldL, zi_astI, zi_astZ, zi_astL, zi_alen, zi_iret, zi_zret, zi_lret, zi_vret, zi_callV, zi_callS, zi_sw, zi_copyI, zi_copyL, zi_m2, zi_m1, zi_sval, zi_scod, zi_fmt, zi_balen, zi_bald, zi_bret, zi_callT, zq_nth, zq_put1, zq_put2, zq_clr, zq_nl, zq_tk, zq_ps, zq_sw, zq_l0, zq_a, zq_a1, List.length_cons, List.length_nil, List.nil_append, List.cons_append, List.append_nil, List.replicate, Nat.reduceAdd, Nat.reduceSub, Nat.reduceLeDiff, true_and, and_true, List.append_eq, List.cons.injEq, Value.int.injEq, Value.long.injEq, Value.ref.injEq, exists_and_left, exists_eq_left', and_assoc, zc_b, zc_0, zc_1, zc_10, zc_01, lg_cmp_ge, lg_cmp_le, lg_cmp_gt, lg_cmp_lt, lg_cmp_eq, zw_le, zw_lt, reduceIte, true_or, or_true, zw_g0, zw_l0, zw_g1, zw_l1, zw_g2, zw_l2, zw_g3, zw_l3, zw_g5, zw_l5, zw_g6, zw_l6, zw_g7, zw_l7, zw_g9, zw_l9, zw_g10, zw_l10, zw_g15, zw_l15, zw_g16, zw_l16, zw_g48, zw_l48, zw_g50, zw_l50, zw_g57, zw_l57, zw_g97, zw_l97, zw_g100, zw_l100, zw_g200, zw_l200, zw_g999, zw_l999, zw_g9999, zw_l9999]
    exact ⟨(V, n, 0), rfl, rfl, hn, hA, hV, hX, Nat.zero_le _, fun i hi => absurd hi (Nat.not_lt_zero _), k1, k2⟩
  · obtain ⟨V, n, g⟩ := z
    obtain ⟨rfl, rfl, hn, hA, hV, hX, hg, hd, k1, k2⟩ := hi
    have hg6 := hX.2.1.1
    have la := vA_le hV
    have a0 : (nI (vA V) ≤ 0) = (vA V = 0) := nI_le0 (by omega)
    have a1 : (lN (vA V) = 0) = (vA V = 0) := lN_zP (by omega)
    simp only [xX3_canPart_2, xX3_canPart_10, xX3_canPart_14, xX3_canPart_32, xX3_canPart_34, xX3_canPart_40, xX3_canPart_44, xX3_canPart_48, xX3_canPart_49, hX.2.1.2.1, zl_ge hg (show vg V < 2 ^ 31 by omega), a0, nI_clamp (show g < 2 ^ 31 by omega), zi_push, zi_iload, zi_lload, zi_aload, zi_istore, zi_astore, zi_lstore, zi_iinc, zi_i2, zi_i1, zi_idv, zi_l2, zi_ldv, zi_lsh, zi_i2l, zi_l2i, zi_lcmp, zi_dup, zi_dup2, zi_pop, zi_if1, zi_if2, zi_getI, zi_getL, zi_getR, zi_putI, zi_putZ, zi_putL, zi_aldI, zi_aldL, zi_astI, zi_astZ, zi_astL, zi_alen, zi_iret, zi_zret, zi_lret, zi_vret, zi_callV, zi_callS, zi_sw, zi_copyI, zi_copyL, zi_m2, zi_m1, zi_sval, zi_scod, zi_fmt, zi_balen, zi_bald, zi_bret, zi_callT, zq_nth, zq_put1, zq_put2, zq_clr, zq_nl, zq_tk, zq_ps, zq_sw, zq_l0, zq_a, zq_a1, List.length_cons, List.length_nil, List.nil_append, List.cons_append, List.append_nil, List.replicate, Nat.reduceAdd, Nat.reduceSub, Nat.reduceLeDiff, true_and, and_true, List.append_eq, List.cons.injEq, Value.int.injEq, Value.long.injEq, Value.ref.injEq, exists_and_left, exists_eq_left', and_assoc, zc_b, zc_0, zc_1, zc_10, zc_01, lg_cmp_ge, lg_cmp_le, lg_cmp_gt, lg_cmp_lt, lg_cmp_eq, zw_le, zw_lt, reduceIte, true_or, or_true, zw_g0, zw_l0, zw_g1, zw_l1, zw_g2, zw_l2, zw_g3, zw_l3, zw_g5, zw_l5, zw_g6, zw_l6, zw_g7, zw_l7, zw_g9, zw_l9, zw_g10, zw_l10, zw_g15, zw_l15, zw_g16, zw_l16, zw_g48, zw_l48, zw_g50, zw_l50, zw_g57, zw_l57, zw_g97, zw_l97, zw_g100, zw_l100, zw_g200, zw_l200, zw_g999, zw_l999, zw_g9999, zw_l9999]
    refine ⟨fun q => ⟨fun q2 => absurd q2 (by omega), fun _ => ?_⟩, fun q => ⟨fun q2 => absurd q2 (by omega), fun _ => ⟨vp_in_nI (by omega) (by decide), ?_⟩⟩⟩
    · subst q
      exact k1 hd
    · obtain ⟨e, l⟩ := vdN_eq hV (show g < vg V by omega)
      have e7 : h.1 7 g = nI (vdN V g) := by rw [hX.2.1.2.2.2 g (by omega)]; exact e
      have lm : n * vdN V g ≤ 2000 * 999 := Nat.mul_le_mul hn l
      have er : zf_lrem (lN (n * vdN V g)) (lN (vA V)) = lN (n * vdN V g % vA V) := lremN (by omega) hA (by omega)
      have lr := Nat.mod_lt (n * vdN V g) hA
      have ez : (lN (n * vdN V g % vA V) = 0) = (n * vdN V g % vA V = 0) := lN_zP (by omega)
      have eA : ¬ vA V = 0 := by omega
      simp only [e7, nI_l (show n < 2 ^ 31 by omega), nI_l (show vdN V g < 2 ^ 31 by omega), nI_l (show vA V < 2 ^ 31 by omega), lN_mul, er, a1, ez, nI_1, zi_push, zi_iload, zi_lload, zi_aload, zi_istore, zi_astore, zi_lstore, zi_iinc, zi_i2, zi_i1, zi_idv, zi_l2, zi_ldv, zi_lsh, zi_i2l, zi_l2i, zi_lcmp, zi_dup, zi_dup2, zi_pop, zi_if1, zi_if2, zi_getI, zi_getL, zi_getR, zi_putI, zi_putZ, zi_putL, zi_aldI, zi_aldL, zi_astI, zi_astZ, zi_astL, zi_alen, zi_iret, zi_zret, zi_lret, zi_vret, zi_callV, zi_callS, zi_sw, zi_copyI, zi_copyL, zi_m2, zi_m1, zi_sval, zi_scod, zi_fmt, zi_balen, zi_bald, zi_bret, zi_callT, zq_nth, zq_put1, zq_put2, zq_clr, zq_nl, zq_tk, zq_ps, zq_sw, zq_l0, zq_a, zq_a1, List.length_cons, List.length_nil, List.nil_append, List.cons_append, List.append_nil, List.replicate, Nat.reduceAdd, Nat.reduceSub, Nat.reduceLeDiff, true_and, and_true, List.append_eq, List.cons.injEq, Value.int.injEq, Value.long.injEq, Value.ref.injEq, exists_and_left, exists_eq_left', and_assoc, zc_b, zc_0, zc_1, zc_10, zc_01, lg_cmp_ge, lg_cmp_le, lg_cmp_gt, lg_cmp_lt, lg_cmp_eq, zw_le, zw_lt, reduceIte, true_or, or_true, zw_g0, zw_l0, zw_g1, zw_l1, zw_g2, zw_l2, zw_g3, zw_l3, zw_g5, zw_l5, zw_g6, zw_l6, zw_g7, zw_l7, zw_g9, zw_l9, zw_g10, zw_l10, zw_g15, zw_l15, zw_g16, zw_l16, zw_g48, zw_l48, zw_g50, zw_l50, zw_g57, zw_l57, zw_g97, zw_l97, zw_g100, zw_l100, zw_g200, zw_l200, zw_g999, zw_l999, zw_g9999, zw_l9999]
      refine ⟨eA, fun q2 => ⟨(V, n, g + 1), by dsimp only; omega, rfl, rfl, hn, hA, hV, hX, by omega, fun i hi => ?_, k1, k2⟩, fun q2 => ?_⟩
      · by_cases q3 : i = g
        · rw [q3]
          exact q2
        · exact hd i (by omega)
      · exact k2 (fun z => q2 (z g (by omega)))
