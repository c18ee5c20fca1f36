/-! ===== the rule: tokens, their run, the reference's side ===== -/
abbrev zTk := Nat ⊕ Nat ⊕ Nat ⊕ Unit
def tkM : zTk → Int32
  | .inl n => nI n
  | .inr (.inl k) => nI (1000 + k)
  | .inr (.inr (.inl k)) => nI (2000 + k)
  | .inr (.inr (.inr ())) => nI 3000
def tkok : zTk → Prop
  | .inl n => n < 1000
  | .inr (.inl k) => k < 9
  | .inr (.inr (.inl k)) => k < 7
  | .inr (.inr (.inr ())) => True
def zwk (k : Nat) (a b : Int32) : Int32 :=
  if k = 0 then (if a < b then 1 else 0) else if k = 1 then (if b < a then 1 else 0) else if k = 2 then (if a = b then 1 else 0) else if k = 3 then a + b else if k = 4 then a - b else if k = 5 then a * b else (if b = 0 then 0 else a / b)
def zs1 (as : Nat → Int32) (s : Nat × (Nat → Int32)) : zTk → Nat × (Nat → Int32)
  | .inl n => (s.1 + 1, zupd s.2 s.1 (nI n))
  | .inr (.inl k) => (s.1 + 1, zupd s.2 s.1 (as k))
  | .inr (.inr (.inl k)) => (s.1 - 1, zupd s.2 (s.1 - 2) (zwk k (s.2 (s.1 - 2)) (s.2 (s.1 - 1))))
  | .inr (.inr (.inr ())) => (s.1, zupd s.2 (s.1 - 1) (-(s.2 (s.1 - 1))))
def zst (as : Nat → Int32) (cd : Nat → zTk) : Nat → Nat × (Nat → Int32)
  | 0 => (0, fun _ => 0)
  | t + 1 => zs1 as (zst as cd t) (cd t)
def zd1 (d : Nat) : zTk → Nat
  | .inl _ => d + 1
  | .inr (.inl _) => d + 1
  | .inr (.inr (.inl _)) => d - 1
  | .inr (.inr (.inr ())) => d
def zdt (cd : Nat → zTk) : Nat → Nat
  | 0 => 0
  | t + 1 => zd1 (zdt cd t) (cd t)
theorem zst_d {as : Nat → Int32} {cd : Nat → zTk} : ∀ t, (zst as cd t).1 = zdt cd t
  | 0 => rfl
  | t + 1 => by
    rw [zst, zdt, ← zst_d (as := as) t]
    rcases cd t with n | k | k | u <;> rfl
def tkneed (d : Nat) : zTk → Prop
  | .inr (.inr (.inl _)) => 2 ≤ d
  | .inr (.inr (.inr ())) => 1 ≤ d
  | _ => True
/-- a rule of L tokens that runs well -/
def ZC (L : Nat) (cd : Nat → zTk) : Prop := L ≤ 40 ∧ ∀ t, t < L → tkok (cd t) ∧ tkneed (zdt cd t) (cd t)
theorem ZC_d {L : Nat} {cd : Nat → zTk} (k : ZC L cd) : ∀ t, t ≤ L → zdt cd t ≤ t ∧ (0 < t → 1 ≤ zdt cd t)
  | 0, _ => ⟨Nat.le_refl _, fun q => by omega⟩
  | t + 1, ht => by
    have h1 := (ZC_d k t (by omega)).1
    have h2 := (k.2 t (by omega)).2
    rw [zdt]
    rcases q : cd t with n | k | k | u <;> rw [q] at h2 <;> simp only [zd1, tkneed] at h2 ⊢ <;> omega
def zval (as : Nat → Int32) (cd : Nat → zTk) (L : Nat) : Int32 := zf_max 0 (zf_min 999 (if L = 0 then as 0 * as 3 + as 1 * as 4 + as 2 * as 5 else (zst as cd L).2 0))
def MP (L : Nat) (cd : Nat → zTk) (h : zq_H) : Prop := h.1 56 25 = nI L ∧ ∀ t, t < L → h.1 70 t = tkM (cd t)
theorem zif6 {P : Int32 → Prop} {v k0 k1 k2 k3 k4 k5 x0 x1 x2 x3 x4 x5 x6 : Int32} (h : P (if v = k0 then x0 else if v = k1 then x1 else if v = k2 then x2 else if v = k3 then x3 else if v = k4 then x4 else if v = k5 then x5 else x6)) : (v = k0 → P x0) ∧ (¬ v = k0 → (v = k1 → P x1) ∧ (¬ v = k1 → (v = k2 → P x2) ∧ (¬ v = k2 → (v = k3 → P x3) ∧ (¬ v = k3 → (v = k4 → P x4) ∧ (¬ v = k4 → (v = k5 → P x5) ∧ (¬ v = k5 → P x6)))))) :=
  And.imp id (fun f q => And.imp id (fun f q => And.imp id (fun f q => And.imp id (fun f q => And.imp id (fun f q => zi_ifn (f q)) (zi_ifn (f q))) (zi_ifn (f q))) (zi_ifn (f q))) (zi_ifn (f q))) (zi_ifn h)
def zwkI (v a b : Int32) : Int32 :=
  if v = 0 then (if a < b then 1 else 0) else if v = 1 then (if b < a then 1 else 0) else if v = 2 then (if a = b then 1 else 0) else if v = 3 then a + b else if v = 4 then a - b else if v = 5 then a * b else (if b = 0 then 0 else a / b)
theorem zwkI_k (k : Nat) (hk : k < 7) (a b : Int32) : zwkI (nI k) a b = zwk k a b := by
  have h : k = 0 ∨ k = 1 ∨ k = 2 ∨ k = 3 ∨ k = 4 ∨ k = 5 ∨ k = 6 := by omega
  rcases h with rfl | rfl | rfl | rfl | rfl | rfl | rfl <;> rfl
def sp_worked : zq_Sp := fun args h Q => ∃ v a b, args = [.int v, .int a, .int b] ∧ Q (some (.int (zwkI v a b))) h
theorem ok_worked : zq_M yX12_worked cX12_worked 3 (some .int) 1 1 sp_worked := by
  refine mX12_worked ok_flag (by decide) (fun args h Q hs => ?_)
  obtain ⟨v, a, b, rfl, h2⟩ := hs
  refine ⟨Nat.le_of_ble_eq_true rfl, ?_⟩
  simp only [xX12_worked_105, xX12_worked_102, xX12_worked_98, xX12_worked_94, xX12_worked_90, xX12_worked_86, xX12_worked_82, xX12_worked_78, xX12_worked_77, xX12_worked_73, xX12_worked_68, xX12_worked_64, xX12_worked_63, xX12_worked_59, xX12_worked_54, xX12_worked_50, xX12_worked_49, xX12_worked_45, xX12_worked_40, xX12_worked_0, zi_push, zi_iload, zi_lload, zi_aload, zi_istore, zi_astore, zi_lstore, zi_iinc, zi_i2, zi_i1, zi_idv, zi_l2, zi_ldv, zi_lsh, zi_i2l, zi_l2i, zi_lcmp, zi_dup, zi_dup2, zi_pop, zi_if1, zi_if2, zi_getI, zi_getL, zi_getR, zi_putI, zi_putZ, zi_putL, zi_aldI, zi_aldL, zi_astI, zi_astZ, zi_astL, zi_alen, zi_iret, zi_zret, zi_lret, zi_vret, zi_callV, zi_callS, zi_sw, zi_copyI, zi_copyL, zi_m2, zi_m1, zi_sval, zi_scod, zi_fmt, zi_balen, zi_bald, zi_bret, zi_callT, zq_nth, zq_put1, zq_put2, zq_clr, zq_nl, zq_tk, zq_ps, zq_sw, zq_l0, zq_a, zq_a1, List.length_cons, List.length_nil, List.nil_append, List.cons_append, List.append_nil, List.replicate, Nat.reduceAdd, Nat.reduceSub, Nat.reduceLeDiff, true_and, and_true, List.append_eq, List.cons.injEq, Value.int.injEq, Value.long.injEq, Value.ref.injEq, exists_and_left, exists_eq_left', and_assoc, zc_b, zc_0, zc_1, zc_10, zc_01, lg_cmp_ge, lg_cmp_le, lg_cmp_gt, lg_cmp_lt, lg_cmp_eq, zw_le, zw_lt, reduceIte, true_or, or_true, zw_g0, zw_l0, zw_g1, zw_l1, zw_g2, zw_l2, zw_g3, zw_l3, zw_g5, zw_l5, zw_g6, zw_l6, zw_g7, zw_l7, zw_g9, zw_l9, zw_g10, zw_l10, zw_g15, zw_l15, zw_g16, zw_l16, zw_g48, zw_l48, zw_g50, zw_l50, zw_g57, zw_l57, zw_g97, zw_l97, zw_g100, zw_l100, zw_g200, zw_l200, zw_g999, zw_l999, zw_g9999, zw_l9999, sp_flag]
  have el : ∀ x y : Int32, (x ≤ y) = ¬ y < x := fun x y => propext Int32.not_lt.symm
  unfold zwkI at h2
  rcases Classical.propComplete (a < b) with c1 | c1 <;> rcases Classical.propComplete (b < a) with c2 | c2 <;> rcases Classical.propComplete (a = b) with c3 | c3 <;> rcases Classical.propComplete (b = 0) with c4 | c4 <;> simp only [el, c1, c2, c3, c4, not_true_eq_false, not_false_eq_true, forall_const, true_and, and_true, false_and, and_false, if_true, if_false, reduceIte, implies_true, and_self, ite_self, true_or, or_true, false_or, or_false, true_implies, false_implies, Classical.not_not, false_imp_iff, not_false_iff] at h2 ⊢ <;> exact zif6 (P := fun x => Q (some (.int x)) h) h2
def sp_ruled : zq_Sp := fun args h Q => ∃ L cd as, args = [.ref 56] ∧ ZC L cd ∧ MP L cd h ∧ (∀ i, i < 9 → h.1 73 i = as i) ∧ ∀ h', zq_fr [72] h h' → Q (some (.int (zval as cd L))) h'
def I_ruled (Q : zq_Q) (a : zq_H × Nat × (Nat → zTk) × (Nat → Int32) × Nat) : zq_P := fun ls st h => match a with
  | (h0, L, cd, as, t) => ∃ s3, ls = [some (.ref 56), some (.int (nI (zst as cd t).1)), some (.int (nI t)), s3] ∧ st = [] ∧ zq_fr [72] h0 h ∧ t ≤ L ∧ ZC L cd ∧ MP L cd h0 ∧ (∀ i, i < 9 → h0.1 73 i = as i) ∧ (∀ i, i < (zst as cd t).1 → h.1 72 i = (zst as cd t).2 i) ∧ ∀ h', zq_fr [72] h0 h' → Q (some (.int (zval as cd L))) h'
theorem vi9 (i : Nat) (n : Nat) (h : i < n) (hn : n < 2 ^ 31) : vp_in (nI i) n := vp_in_nI h hn
theorem zupd_set {h : zq_H} {p d D : Nat} {x : Int32} {v : Nat → Int32} (hv : ∀ i, i < D → i ≠ d → h.1 p i = v i) : ∀ i, i < D → (zq_setI h p d x).1 p i = zupd v d x i := by
  intro i hi
  unfold zupd
  by_cases q : i = d
  · simp [zq_sI, q]
  · simpa [zq_sI, q] using hv i hi q
theorem zsub1 {d : Nat} (hd : 1 ≤ d) : nI d + -1 = nI (d - 1) := by
  obtain ⟨k, rfl⟩ : ∃ k, d = k + 1 := ⟨d - 1, by omega⟩
  rw [← nI_1, Nat.add_sub_cancel]
  generalize nI k = x
  grind
theorem zsub1' {d : Nat} (hd : 1 ≤ d) : nI d - 1 = nI (d - 1) := by
  rw [← zsub1 hd]
  generalize nI d = x
  grind
theorem zsubk {a k : Nat} : nI (a + k) - nI a = nI k := by
  rw [← nI_add]
  generalize nI k = x
  generalize nI a = y
  grind
theorem nI_neq {a b : Nat} (h : ¬ a = b) (ha : a < 2 ^ 31) (hb : b < 2 ^ 31) : (nI a = nI b) = False := eq_false (fun q => h ((nI_eq ha hb).mp q))
theorem nI_ltT {a b : Nat} (h : a < b) (hb : b < 2 ^ 31) : (nI a < nI b) = True := eq_true ((nI_ltI (by omega) hb).mpr h)
theorem nI_ltF {a b : Nat} (h : ¬ a < b) (ha : a < 2 ^ 31) : (nI a < nI b) = False := eq_false (fun q => h ((nI_ltI ha (by omega)).mp q))
theorem ru_entry : ∀ args h Q, sp_ruled args h Q → (zq_a args).length ≤ 4 ∧ xX12_ruled_0 sp_worked (fun ls st h => ∃ b, I_ruled Q b ls st h) Q (zq_l0 4 args) [] h := by
  intro args h Q hs
  obtain ⟨L, cd, as, rfl, hC, hP, ha, h2⟩ := hs
  refine ⟨Nat.le_of_ble_eq_true rfl, ?_⟩
  simp only [xX12_ruled_182, xX12_ruled_176, xX12_ruled_132, xX12_ruled_125, xX12_ruled_119, xX12_ruled_115, xX12_ruled_114, xX12_ruled_101, xX12_ruled_89, xX12_ruled_53, xX12_ruled_46, xX12_ruled_26, xX12_ruled_12, xX12_ruled_4, xX12_ruled_0, zi_push, zi_iload, zi_lload, zi_aload, zi_istore, zi_astore, zi_lstore, zi_iinc, zi_i2, zi_i1, zi_idv, zi_l2, zi_ldv, zi_lsh, zi_i2l, zi_l2i, zi_lcmp, zi_dup, zi_dup2, zi_pop, zi_if1, zi_if2, zi_getI, zi_getL, zi_getR, zi_putI, zi_putZ, zi_putL, zi_aldI, zi_aldL, zi_astI, zi_astZ, zi_astL, zi_alen, zi_iret, zi_zret, zi_lret, zi_vret, zi_callV, zi_callS, zi_sw, zi_copyI, zi_copyL, zi_m2, zi_m1, zi_sval, zi_scod, zi_fmt, zi_balen, zi_bald, zi_bret, zi_callT, zq_nth, zq_put1, zq_put2, zq_clr, zq_nl, zq_tk, zq_ps, zq_sw, zq_l0, zq_a, zq_a1, List.length_cons, List.length_nil, List.nil_append, List.cons_append, List.append_nil, List.replicate, Nat.reduceAdd, Nat.reduceSub, Nat.reduceLeDiff, true_and, and_true, List.append_eq, List.cons.injEq, Value.int.injEq, Value.long.injEq, Value.ref.injEq, exists_and_left, exists_eq_left', and_assoc, zc_b, zc_0, zc_1, zc_10, zc_01, lg_cmp_ge, lg_cmp_le, lg_cmp_gt, lg_cmp_lt, lg_cmp_eq, zw_le, zw_lt, reduceIte, true_or, or_true, zw_g0, zw_l0, zw_g1, zw_l1, zw_g2, zw_l2, zw_g3, zw_l3, zw_g5, zw_l5, zw_g6, zw_l6, zw_g7, zw_l7, zw_g9, zw_l9, zw_g10, zw_l10, zw_g15, zw_l15, zw_g16, zw_l16, zw_g48, zw_l48, zw_g50, zw_l50, zw_g57, zw_l57, zw_g97, zw_l97, zw_g100, zw_l100, zw_g200, zw_l200, zw_g999, zw_l999, zw_g9999, zw_l9999]
  exact ⟨(h, L, cd, as, 0), none, rfl, rfl, zq_fr_rf, Nat.zero_le _, hC, hP, ha, fun i hi => absurd hi (Nat.not_lt_zero _), h2⟩
theorem ru_final {Q : zq_Q} {J : zq_P} {h : zq_H} {L : Nat} {as v : Nat → Int32} {x1 x2 s3 : Option Value} (hL : L ≤ 40) (e1 : h.1 56 25 = nI L) (e3 : ∀ i, i < 9 → h.1 73 i = as i) (hv : ¬ L = 0 → h.1 72 0 = v 0) (h3 : Q (some (.int (zf_max 0 (zf_min 999 (if L = 0 then as 0 * as 3 + as 1 * as 4 + as 2 * as 5 else v 0))))) h) : xX12_ruled_125 sp_worked J Q [some (.ref 56), x1, x2, s3] [] h := by
  simp only [xX12_ruled_125, xX12_ruled_132, xX12_ruled_176, xX12_ruled_182, e1, zi_push, zi_iload, zi_lload, zi_aload, zi_istore, zi_astore, zi_lstore, zi_iinc, zi_i2, zi_i1, zi_idv, zi_l2, zi_ldv, zi_lsh, zi_i2l, zi_l2i, zi_lcmp, zi_dup, zi_dup2, zi_pop, zi_if1, zi_if2, zi_getI, zi_getL, zi_getR, zi_putI, zi_putZ, zi_putL, zi_aldI, zi_aldL, zi_astI, zi_astZ, zi_astL, zi_alen, zi_iret, zi_zret, zi_lret, zi_vret, zi_callV, zi_callS, zi_sw, zi_copyI, zi_copyL, zi_m2, zi_m1, zi_sval, zi_scod, zi_fmt, zi_balen, zi_bald, zi_bret, zi_callT, zq_nth, zq_put1, zq_put2, zq_clr, zq_nl, zq_tk, zq_ps, zq_sw, zq_l0, zq_a, zq_a1, List.length_cons, List.length_nil, List.nil_append, List.cons_append, List.append_nil, List.replicate, Nat.reduceAdd, Nat.reduceSub, Nat.reduceLeDiff, true_and, and_true, List.append_eq, List.cons.injEq, Value.int.injEq, Value.long.injEq, Value.ref.injEq, exists_and_left, exists_eq_left', and_assoc, zc_b, zc_0, zc_1, zc_10, zc_01, lg_cmp_ge, lg_cmp_le, lg_cmp_gt, lg_cmp_lt, lg_cmp_eq, zw_le, zw_lt, reduceIte, true_or, or_true, zw_g0, zw_l0, zw_g1, zw_l1, zw_g2, zw_l2, zw_g3, zw_l3, zw_g5, zw_l5, zw_g6, zw_l6, zw_g7, zw_l7, zw_g9, zw_l9, zw_g10, zw_l10, zw_g15, zw_l15, zw_g16, zw_l16, zw_g48, zw_l48, zw_g50, zw_l50, zw_g57, zw_l57, zw_g97, zw_l97, zw_g100, zw_l100, zw_g200, zw_l200, zw_g999, zw_l999, zw_g9999, zw_l9999]
  refine ⟨fun z => ?_, fun z => ?_⟩
  · have z1 : L = 0 := (nI_eq (b := 0) (by omega) (by decide)).mp z
    rw [if_pos z1, ← e3 0 (by decide), ← e3 1 (by decide), ← e3 2 (by decide), ← e3 3 (by decide), ← e3 4 (by decide), ← e3 5 (by decide)] at h3
    exact ⟨vi9 0 9 (by decide) (by decide), vi9 3 9 (by decide) (by decide), vi9 1 9 (by decide) (by decide), vi9 4 9 (by decide) (by decide), vi9 2 9 (by decide) (by decide), vi9 5 9 (by decide) (by decide), h3⟩
  · have z1 : ¬ L = 0 := fun y => z (by rw [y]; rfl)
    rw [if_neg z1, ← hv z1] at h3
    exact ⟨vi9 0 80 (by decide) (by decide), h3⟩
theorem ru_less {Q : zq_Q} {J : zq_P} {h : zq_H} {d : Nat} {v : Nat → Int32} {x2 s3 : Option Value} (hd : d ≤ 40) (hd2 : 1 ≤ d) (hv : ∀ i, i < d → h.1 72 i = v i) (fin : ∀ h1, (∀ i, i < d → h1.1 72 i = zupd v (d - 1) (-(v (d - 1))) i) → h1 = zq_setI h 72 (d - 1) (-(v (d - 1))) → xX12_ruled_119 sp_worked J Q [some (.ref 56), some (.int (nI d)), x2, s3] [] h1) : xX12_ruled_26 sp_worked J Q [some (.ref 56), some (.int (nI d)), x2, s3] [] h := by
  simp only [xX12_ruled_26, zsub1' (show 1 ≤ d by omega), zi_push, zi_iload, zi_lload, zi_aload, zi_istore, zi_astore, zi_lstore, zi_iinc, zi_i2, zi_i1, zi_idv, zi_l2, zi_ldv, zi_lsh, zi_i2l, zi_l2i, zi_lcmp, zi_dup, zi_dup2, zi_pop, zi_if1, zi_if2, zi_getI, zi_getL, zi_getR, zi_putI, zi_putZ, zi_putL, zi_aldI, zi_aldL, zi_astI, zi_astZ, zi_astL, zi_alen, zi_iret, zi_zret, zi_lret, zi_vret, zi_callV, zi_callS, zi_sw, zi_copyI, zi_copyL, zi_m2, zi_m1, zi_sval, zi_scod, zi_fmt, zi_balen, zi_bald, zi_bret, zi_callT, zq_nth, zq_put1, zq_put2, zq_clr, zq_nl, zq_tk, zq_ps, zq_sw, zq_l0, zq_a, zq_a1, List.length_cons, List.length_nil, List.nil_append, List.cons_append, List.append_nil, List.replicate, Nat.reduceAdd, Nat.reduceSub, Nat.reduceLeDiff, true_and, and_true, List.append_eq, List.cons.injEq, Value.int.injEq, Value.long.injEq, Value.ref.injEq, exists_and_left, exists_eq_left', and_assoc, zc_b, zc_0, zc_1, zc_10, zc_01, lg_cmp_ge, lg_cmp_le, lg_cmp_gt, lg_cmp_lt, lg_cmp_eq, zw_le, zw_lt, reduceIte, true_or, or_true, zw_g0, zw_l0, zw_g1, zw_l1, zw_g2, zw_l2, zw_g3, zw_l3, zw_g5, zw_l5, zw_g6, zw_l6, zw_g7, zw_l7, zw_g9, zw_l9, zw_g10, zw_l10, zw_g15, zw_l15, zw_g16, zw_l16, zw_g48, zw_l48, zw_g50, zw_l50, zw_g57, zw_l57, zw_g97, zw_l97, zw_g100, zw_l100, zw_g200, zw_l200, zw_g999, zw_l999, zw_g9999, zw_l9999]
  rw [nI_clamp (by omega), hv (d - 1) (by omega)]
  exact ⟨vp_in_nI (by omega) (by decide), vp_in_nI (by omega) (by decide), fin _ (zupd_set (fun i hi q => hv i (by omega))) rfl⟩
theorem ru_act {Q : zq_Q} {J : zq_P} {h : zq_H} {d k : Nat} {v : Nat → Int32} {x2 : Option Value} (hd : d ≤ 40) (hd2 : 2 ≤ d) (hk : k < 7) (hv : ∀ i, i < d → h.1 72 i = v i) (fin : ∀ h1, (∀ i, i < d - 1 → h1.1 72 i = zupd v (d - 2) (zwk k (v (d - 2)) (v (d - 1))) i) → h1 = zq_setI h 72 (d - 2) (zwk k (v (d - 2)) (v (d - 1))) → xX12_ruled_119 sp_worked J Q [some (.ref 56), some (.int (nI (d - 1))), x2, some (.int (nI (2000 + k)))] [] h1) : xX12_ruled_53 sp_worked J Q [some (.ref 56), some (.int (nI d)), x2, some (.int (nI (2000 + k)))] [] h := by
  have c4 : nI (2000 + k) - 2000 = nI k := zsubk
  simp only [xX12_ruled_53, sp_worked, c4, zsub1 (show 1 ≤ d by omega), zsub1' (show 1 ≤ d - 1 by omega), zwkI_k k (by omega), zi_push, zi_iload, zi_lload, zi_aload, zi_istore, zi_astore, zi_lstore, zi_iinc, zi_i2, zi_i1, zi_idv, zi_l2, zi_ldv, zi_lsh, zi_i2l, zi_l2i, zi_lcmp, zi_dup, zi_dup2, zi_pop, zi_if1, zi_if2, zi_getI, zi_getL, zi_getR, zi_putI, zi_putZ, zi_putL, zi_aldI, zi_aldL, zi_astI, zi_astZ, zi_astL, zi_alen, zi_iret, zi_zret, zi_lret, zi_vret, zi_callV, zi_callS, zi_sw, zi_copyI, zi_copyL, zi_m2, zi_m1, zi_sval, zi_scod, zi_fmt, zi_balen, zi_bald, zi_bret, zi_callT, zq_nth, zq_put1, zq_put2, zq_clr, zq_nl, zq_tk, zq_ps, zq_sw, zq_l0, zq_a, zq_a1, List.length_cons, List.length_nil, List.nil_append, List.cons_append, List.append_nil, List.replicate, Nat.reduceAdd, Nat.reduceSub, Nat.reduceLeDiff, true_and, and_true, List.append_eq, List.cons.injEq, Value.int.injEq, Value.long.injEq, Value.ref.injEq, exists_and_left, exists_eq_left', and_assoc, zc_b, zc_0, zc_1, zc_10, zc_01, lg_cmp_ge, lg_cmp_le, lg_cmp_gt, lg_cmp_lt, lg_cmp_eq, zw_le, zw_lt, reduceIte, true_or, or_true, zw_g0, zw_l0, zw_g1, zw_l1, zw_g2, zw_l2, zw_g3, zw_l3, zw_g5, zw_l5, zw_g6, zw_l6, zw_g7, zw_l7, zw_g9, zw_l9, zw_g10, zw_l10, zw_g15, zw_l15, zw_g16, zw_l16, zw_g48, zw_l48, zw_g50, zw_l50, zw_g57, zw_l57, zw_g97, zw_l97, zw_g100, zw_l100, zw_g200, zw_l200, zw_g999, zw_l999, zw_g9999, zw_l9999]
  rw [nI_clamp (by omega), nI_clamp (by omega), hv (d - 1) (by omega), hv (d - 1 - 1) (by omega)]
  exact ⟨vp_in_nI (by omega) (by decide), vp_in_nI (by omega) (by decide), vp_in_nI (by omega) (by decide), fin _ (zupd_set (fun i hi q => hv i (by omega))) rfl⟩
theorem ru_push {Q : zq_Q} {J : zq_P} {h : zq_H} {d k : Nat} {as v : Nat → Int32} {x2 : Option Value} (hd : d < 40) (hk : k < 1009) (e3 : ∀ i, i < 9 → h.1 73 i = as i) (hv : ∀ i, i < d → h.1 72 i = v i) (fin : ∀ h1, (∀ i, i < d + 1 → h1.1 72 i = zupd v d (if k < 1000 then nI k else as (k - 1000)) i) → h1 = zq_setI h 72 d (if k < 1000 then nI k else as (k - 1000)) → xX12_ruled_119 sp_worked J Q [some (.ref 56), some (.int (nI (d + 1))), x2, some (.int (nI k))] [] h1) : xX12_ruled_89 sp_worked J Q [some (.ref 56), some (.int (nI d)), x2, some (.int (nI k))] [] h := by
  simp only [xX12_ruled_89, xX12_ruled_114, xX12_ruled_101, xX12_ruled_115, zi_push, zi_iload, zi_lload, zi_aload, zi_istore, zi_astore, zi_lstore, zi_iinc, zi_i2, zi_i1, zi_idv, zi_l2, zi_ldv, zi_lsh, zi_i2l, zi_l2i, zi_lcmp, zi_dup, zi_dup2, zi_pop, zi_if1, zi_if2, zi_getI, zi_getL, zi_getR, zi_putI, zi_putZ, zi_putL, zi_aldI, zi_aldL, zi_astI, zi_astZ, zi_astL, zi_alen, zi_iret, zi_zret, zi_lret, zi_vret, zi_callV, zi_callS, zi_sw, zi_copyI, zi_copyL, zi_m2, zi_m1, zi_sval, zi_scod, zi_fmt, zi_balen, zi_bald, zi_bret, zi_callT, zq_nth, zq_put1, zq_put2, zq_clr, zq_nl, zq_tk, zq_ps, zq_sw, zq_l0, zq_a, zq_a1, List.length_cons, List.length_nil, List.nil_append, List.cons_append, List.append_nil, List.replicate, Nat.reduceAdd, Nat.reduceSub, Nat.reduceLeDiff, true_and, and_true, List.append_eq, List.cons.injEq, Value.int.injEq, Value.long.injEq, Value.ref.injEq, exists_and_left, exists_eq_left', and_assoc, zc_b, zc_0, zc_1, zc_10, zc_01, lg_cmp_ge, lg_cmp_le, lg_cmp_gt, lg_cmp_lt, lg_cmp_eq, zw_le, zw_lt, reduceIte, true_or, or_true, zw_g0, zw_l0, zw_g1, zw_l1, zw_g2, zw_l2, zw_g3, zw_l3, zw_g5, zw_l5, zw_g6, zw_l6, zw_g7, zw_l7, zw_g9, zw_l9, zw_g10, zw_l10, zw_g15, zw_l15, zw_g16, zw_l16, zw_g48, zw_l48, zw_g50, zw_l50, zw_g57, zw_l57, zw_g97, zw_l97, zw_g100, zw_l100, zw_g200, zw_l200, zw_g999, zw_l999, zw_g9999, zw_l9999]
  rw [nI_clamp (by omega), nI_1]
  refine ⟨fun c => ?_, fun c => ?_⟩
  · have c1 : k < 1000 := (nI_ltI (b := 1000) (by omega) (by decide)).mp c
    rw [if_pos c1] at fin
    exact ⟨vp_in_nI (by omega) (by decide), fin _ (zupd_set (fun i hi q => hv i (by omega))) rfl⟩
  · have c1 : ¬ k < 1000 := fun z => c ((nI_ltI (b := 1000) (by omega) (by decide)).mpr z)
    have c4 : nI k - 1000 = nI (k - 1000) := by
      have z := @zsubk 1000 (k - 1000)
      rw [show 1000 + (k - 1000) = k by omega] at z
      exact z
    rw [if_neg c1] at fin
    rw [c4, nI_clamp (by omega), e3 (k - 1000) (by omega)]
    exact ⟨vp_in_nI (by omega) (by decide), vp_in_nI (by omega) (by decide), fin _ (zupd_set (fun i hi q => hv i (by omega))) rfl⟩
theorem ru_loop {Q : zq_Q} {J : zq_P} {h0 h : zq_H} {L : Nat} {cd : Nat → zTk} {as : Nat → Int32} {t d : Nat} {v : Nat → Int32} {s3 : Option Value} (hf : zq_fr [72] h0 h) (ht : t ≤ L) (hL : L ≤ 40) (e1 : h.1 56 25 = nI L) (e2 : ∀ i, i < L → h.1 70 i = tkM (cd i)) (e3 : ∀ i, i < 9 → h.1 73 i = as i) (hv : ∀ i, i < d → h.1 72 i = v i) (hd : d ≤ t ∧ (0 < t → 1 ≤ d)) (hn : t < L → tkok (cd t) ∧ tkneed d (cd t)) (h3 : t = L → Q (some (.int (zf_max 0 (zf_min 999 (if L = 0 then as 0 * as 3 + as 1 * as 4 + as 2 * as 5 else v 0))))) h)
    (fin : t < L → ∀ (D : Nat) (w : Nat → Int32) (s3 : Option Value) (h1 : zq_H), (D, w) = zs1 as (d, v) (cd t) → zq_fr [72] h0 h1 → (∀ i, i < D → h1.1 72 i = w i) → J [some (.ref 56), some (.int (nI D)), some (.int (nI t + 1)), s3] [] h1) : xX12_ruled_4 sp_worked J Q [some (.ref 56), some (.int (nI d)), some (.int (nI t)), s3] [] h := by
  simp only [xX12_ruled_4, xX12_ruled_12, xX12_ruled_46, e1, zl_ge ht (by omega : L < 2 ^ 31), zi_push, zi_iload, zi_lload, zi_aload, zi_istore, zi_astore, zi_lstore, zi_iinc, zi_i2, zi_i1, zi_idv, zi_l2, zi_ldv, zi_lsh, zi_i2l, zi_l2i, zi_lcmp, zi_dup, zi_dup2, zi_pop, zi_if1, zi_if2, zi_getI, zi_getL, zi_getR, zi_putI, zi_putZ, zi_putL, zi_aldI, zi_aldL, zi_astI, zi_astZ, zi_astL, zi_alen, zi_iret, zi_zret, zi_lret, zi_vret, zi_callV, zi_callS, zi_sw, zi_copyI, zi_copyL, zi_m2, zi_m1, zi_sval, zi_scod, zi_fmt, zi_balen, zi_bald, zi_bret, zi_callT, zq_nth, zq_put1, zq_put2, zq_clr, zq_nl, zq_tk, zq_ps, zq_sw, zq_l0, zq_a, zq_a1, List.length_cons, List.length_nil, List.nil_append, List.cons_append, List.append_nil, List.replicate, Nat.reduceAdd, Nat.reduceSub, Nat.reduceLeDiff, true_and, and_true, List.append_eq, List.cons.injEq, Value.int.injEq, Value.long.injEq, Value.ref.injEq, exists_and_left, exists_eq_left', and_assoc, zc_b, zc_0, zc_1, zc_10, zc_01, lg_cmp_ge, lg_cmp_le, lg_cmp_gt, lg_cmp_lt, lg_cmp_eq, zw_le, zw_lt, reduceIte, true_or, or_true, zw_g0, zw_l0, zw_g1, zw_l1, zw_g2, zw_l2, zw_g3, zw_l3, zw_g5, zw_l5, zw_g6, zw_l6, zw_g7, zw_l7, zw_g9, zw_l9, zw_g10, zw_l10, zw_g15, zw_l15, zw_g16, zw_l16, zw_g48, zw_l48, zw_g50, zw_l50, zw_g57, zw_l57, zw_g97, zw_l97, zw_g100, zw_l100, zw_g200, zw_l200, zw_g999, zw_l999, zw_g9999, zw_l9999]
  refine ⟨fun q => ru_final hL e1 e3 (fun z => hv 0 (by omega)) (h3 q), fun q => ⟨vp_in_nI (by omega) (by decide), ?_⟩⟩
  have hn := hn (by omega)
  have fin := fin (by omega)
  have f119 : ∀ D s3 h1, J [some (.ref 56), some (.int (nI D)), some (.int (nI t + 1)), s3] [] h1 → xX12_ruled_119 sp_worked J Q [some (.ref 56), some (.int (nI D)), some (.int (nI t)), s3] [] h1 := by
    intro D s3 h1 z
    simp only [xX12_ruled_119, zi_push, zi_iload, zi_lload, zi_aload, zi_istore, zi_astore, zi_lstore, zi_iinc, zi_i2, zi_i1, zi_idv, zi_l2, zi_ldv, zi_lsh, zi_i2l, zi_l2i, zi_lcmp, zi_dup, zi_dup2, zi_pop, zi_if1, zi_if2, zi_getI, zi_getL, zi_getR, zi_putI, zi_putZ, zi_putL, zi_aldI, zi_aldL, zi_astI, zi_astZ, zi_astL, zi_alen, zi_iret, zi_zret, zi_lret, zi_vret, zi_callV, zi_callS, zi_sw, zi_copyI, zi_copyL, zi_m2, zi_m1, zi_sval, zi_scod, zi_fmt, zi_balen, zi_bald, zi_bret, zi_callT, zq_nth, zq_put1, zq_put2, zq_clr, zq_nl, zq_tk, zq_ps, zq_sw, zq_l0, zq_a, zq_a1, List.length_cons, List.length_nil, List.nil_append, List.cons_append, List.append_nil, List.replicate, Nat.reduceAdd, Nat.reduceSub, Nat.reduceLeDiff, true_and, and_true, List.append_eq, List.cons.injEq, Value.int.injEq, Value.long.injEq, Value.ref.injEq, exists_and_left, exists_eq_left', and_assoc, zc_b, zc_0, zc_1, zc_10, zc_01, lg_cmp_ge, lg_cmp_le, lg_cmp_gt, lg_cmp_lt, lg_cmp_eq, zw_le, zw_lt, reduceIte, true_or, or_true, zw_g0, zw_l0, zw_g1, zw_l1, zw_g2, zw_l2, zw_g3, zw_l3, zw_g5, zw_l5, zw_g6, zw_l6, zw_g7, zw_l7, zw_g9, zw_l9, zw_g10, zw_l10, zw_g15, zw_l15, zw_g16, zw_l16, zw_g48, zw_l48, zw_g50, zw_l50, zw_g57, zw_l57, zw_g97, zw_l97, zw_g100, zw_l100, zw_g200, zw_l200, zw_g999, zw_l999, zw_g9999, zw_l9999]
    exact z
  rw [nI_clamp (by omega), e2 t (by omega)]
  rcases hc : cd t with n | k | k | u <;> rw [hc] at hn fin <;> simp only [tkok, tkneed, tkM, zs1] at hn fin ⊢
  · refine ⟨fun c => ?_, fun _ => ⟨fun _ => ?_, fun c => ?_⟩⟩
    · exact absurd ((nI_eq (b := 3000) (by omega) (by decide)).mp c) (by omega)
    · refine ru_push (as := as) (v := v) (by omega) (by omega) e3 hv (fun h1 g1 g2 => f119 _ _ _ (fin _ _ _ h1 rfl ?_ ?_))
      · rw [g2]
        exact zq_fr_I hf (by decide)
      · rw [if_pos hn.1] at g1
        exact g1
    · exact absurd ((nI_ltI (b := 2000) (by omega) (by decide)).mpr (by omega)) c
  · refine ⟨fun c => ?_, fun _ => ⟨fun _ => ?_, fun c => ?_⟩⟩
    · exact absurd ((nI_eq (b := 3000) (by omega) (by decide)).mp c) (by omega)
    · refine ru_push (as := as) (v := v) (by omega) (by omega) e3 hv (fun h1 g1 g2 => f119 _ _ _ (fin _ _ _ h1 rfl ?_ ?_))
      · rw [g2]
        exact zq_fr_I hf (by decide)
      · rw [if_neg (by omega), Nat.add_sub_cancel_left] at g1
        exact g1
    · exact absurd ((nI_ltI (b := 2000) (by omega) (by decide)).mpr (by omega)) c
  · refine ⟨fun c => ?_, fun _ => ⟨fun c => ?_, fun _ => ?_⟩⟩
    · exact absurd ((nI_eq (b := 3000) (by omega) (by decide)).mp c) (by omega)
    · exact absurd ((nI_ltI (b := 2000) (by omega) (by decide)).mp c) (by omega)
    · refine ru_act (v := v) (by omega) (by omega) (by omega) hv (fun h1 g1 g2 => f119 _ _ _ (fin _ _ _ h1 rfl ?_ g1))
      rw [g2]
      exact zq_fr_I hf (by decide)
  · refine ⟨fun _ => ?_, fun c => ?_⟩
    · refine ru_less (v := v) (by omega) (by omega) hv (fun h1 g1 g2 => f119 _ _ _ (fin _ _ _ h1 rfl ?_ g1))
      rw [g2]
      exact zq_fr_I hf (by decide)
    · exact absurd rfl c
theorem ok_ruled : zq_M yX12_ruled cX12_ruled 4 (some .int) 1 2 sp_ruled := by
  refine mX12_ruled ok_worked (by decide) (by decide) (fun a => a.2.1 - a.2.2.2.2) I_ruled (fun args h Q hs => ru_entry args h Q hs) (fun Q a ls st h hi => ?_)
  obtain ⟨h0, L, cd, as, t⟩ := a
  obtain ⟨s3, rfl, rfl, hf, ht, hC, hP, ha, hv, h2⟩ := hi
  have e4 : zst as cd (t + 1) = zs1 as (zst as cd t) (cd t) := rfl
  have hd := ZC_d hC t ht
  rw [← zst_d (as := as)] at hd
  have hn : t < L → tkok (cd t) ∧ tkneed (zst as cd t).1 (cd t) := by
    rw [zst_d]
    exact hC.2 t
  have e5 : t = L → zval as cd L = zf_max 0 (zf_min 999 (if L = 0 then as 0 * as 3 + as 1 * as 4 + as 2 * as 5 else (zst as cd t).2 0)) := by
    rintro rfl
    rfl
  generalize zst as cd t = s at hv e4 hd hn e5 ⊢
  obtain ⟨d, v⟩ := s
  dsimp only at hv hd hn e5 ⊢
  refine ru_loop (as := as) (cd := cd) (v := v) hf ht hC.1 (by rw [(hf 56 (by decide)).1]; exact hP.1) (by rw [(hf 70 (by decide)).1]; exact hP.2) (by rw [(hf 73 (by decide)).1]; exact ha) hv hd hn (fun q => ?_) (fun q D w s3 h1 eD f1 g1 => ?_)
  · rw [← e5 q]
    exact h2 h hf
  · rw [← e4] at eD
    refine ⟨(h0, L, cd, as, t + 1), by dsimp only; omega, s3, ?_, rfl, f1, by omega, hC, hP, ha, ?_, h2⟩
    · rw [← eD, nI_1]
    · rw [← eD]
      exact g1
def zedge (n c : Nat) : Int32 := if c = 0 then 1 else if c + 1 = n then 1 else 0
def zas9 (n : Nat) (cr ra cu : Nat → Int32) (a b d g : Int32) (c : Nat) : Nat → Int32 := fun i => if i = 0 then cr c else if i = 1 then ra c else if i = 2 then cu c else if i = 3 then a else if i = 4 then b else if i = 5 then d else if i = 6 then g else if i = 7 then nI c else zedge n c
def sp_worthBy : zq_Sp := fun args h Q => ∃ g c a b d n cr ra cu L cd, args = [.ref 56, .int g, .int (nI c), .int a, .int b, .int d] ∧ c < n ∧ (cu c = 0 ∨ cu c = 1) ∧ ML n cr ra cu h ∧ ZC L cd ∧ MP L cd h ∧ ∀ h', zq_fr [72, 73] h h' → Q (some (.int (zval (zas9 n cr ra cu a b d g c) cd L))) h'
theorem wb_main {Q K : zq_Q} {h : zq_H} {n c L : Nat} {cd : Nat → zTk} {cr ra cu : Nat → Int32} {a b d g e : Int32} (hz : zedge n c = e) (hC : ZC L cd) (hP : MP L cd h) (hK : ∀ x h', Q (some (.int x)) h' → K (some (.int x)) h') (h2 : ∀ h', zq_fr [72, 73] h h' → Q (some (.int (zval (zas9 n cr ra cu a b d g c) cd L))) h') :
    sp_ruled [.ref 56] (zq_setI (zq_setI (zq_setI (zq_setI (zq_setI (zq_setI (zq_setI (zq_setI (zq_setI h 73 0 (cr c)) 73 1 (ra c)) 73 2 (cu c)) 73 3 a) 73 4 b) 73 5 d) 73 6 g) 73 7 (nI c)) 73 8 e) K := by
  refine ⟨L, cd, zas9 n cr ra cu a b d g c, rfl, hC, ⟨by simpa [zq_sI] using hP.1, fun t ht => by simpa [zq_sI] using hP.2 t ht⟩, fun i hi => ?_, fun h' f => hK _ _ (h2 h' ?_)⟩
  · have q : i = 0 ∨ i = 1 ∨ i = 2 ∨ i = 3 ∨ i = 4 ∨ i = 5 ∨ i = 6 ∨ i = 7 ∨ i = 8 := by omega
    rcases q with rfl | rfl | rfl | rfl | rfl | rfl | rfl | rfl | rfl <;> simp [zq_sI, zas9, hz]
  · refine zq_fr_tr (ps := [73]) (qs := [72]) ?_ f (fun p hp => by simp at hp; simp; omega)
    exact zq_fr_I (zq_fr_I (zq_fr_I (zq_fr_I (zq_fr_I (zq_fr_I (zq_fr_I (zq_fr_I (zq_fr_I zq_fr_rf (by decide)) (by decide)) (by decide)) (by decide)) (by decide)) (by decide)) (by decide)) (by decide)) (by decide)
theorem ok_worthBy : zq_M yX12_worthBy cX12_worthBy 6 (some .int) 1 3 sp_worthBy := by
  refine mX12_worthBy ok_flag (by decide) ok_ruled (by decide) (fun args h Q hs => ?_)
  obtain ⟨g, c, a, b, d, n, cr, ra, cu, L, cd, rfl, hc, hk, ⟨l1, l2, l3⟩, hC, hP, h2⟩ := hs
  refine ⟨Nat.le_of_ble_eq_true rfl, ?_⟩
  simp only [xX12_worthBy_103, xX12_worthBy_102, xX12_worthBy_98, xX12_worthBy_88, xX12_worthBy_0, zi_push, zi_iload, zi_lload, zi_aload, zi_istore, zi_astore, zi_lstore, zi_iinc, zi_i2, zi_i1, zi_idv, zi_l2, zi_ldv, zi_lsh, zi_i2l, zi_l2i, zi_lcmp, zi_dup, zi_dup2, zi_pop, zi_if1, zi_if2, zi_getI, zi_getL, zi_getR, zi_putI, zi_putZ, zi_putL, zi_aldI, zi_aldL, zi_astI, zi_astZ, zi_astL, zi_alen, zi_iret, zi_zret, zi_lret, zi_vret, zi_callV, zi_callS, zi_sw, zi_copyI, zi_copyL, zi_m2, zi_m1, zi_sval, zi_scod, zi_fmt, zi_balen, zi_bald, zi_bret, zi_callT, zq_nth, zq_put1, zq_put2, zq_clr, zq_nl, zq_tk, zq_ps, zq_sw, zq_l0, zq_a, zq_a1, List.length_cons, List.length_nil, List.nil_append, List.cons_append, List.append_nil, List.replicate, Nat.reduceAdd, Nat.reduceSub, Nat.reduceLeDiff, true_and, and_true, List.append_eq, List.cons.injEq, Value.int.injEq, Value.long.injEq, Value.ref.injEq, exists_and_left, exists_eq_left', and_assoc, zc_b, zc_0, zc_1, zc_10, zc_01, lg_cmp_ge, lg_cmp_le, lg_cmp_gt, lg_cmp_lt, lg_cmp_eq, zw_le, zw_lt, reduceIte, true_or, or_true, zw_g0, zw_l0, zw_g1, zw_l1, zw_g2, zw_l2, zw_g3, zw_l3, zw_g5, zw_l5, zw_g6, zw_l6, zw_g7, zw_l7, zw_g9, zw_l9, zw_g10, zw_l10, zw_g15, zw_l15, zw_g16, zw_l16, zw_g48, zw_l48, zw_g50, zw_l50, zw_g57, zw_l57, zw_g97, zw_l97, zw_g100, zw_l100, zw_g200, zw_l200, zw_g999, zw_l999, zw_g9999, zw_l9999, sp_flag]
  have ecu : (if cu c = 0 then (0 : Int32) else 1) = cu c := by
    rcases hk with e | e <;> rw [e] <;> rfl
  have lc := l3 c hc
  simp only [show Int32.toNatClampNeg 0 = 0 from rfl, show Int32.toNatClampNeg 1 = 1 from rfl, show Int32.toNatClampNeg 2 = 2 from rfl, show Int32.toNatClampNeg 3 = 3 from rfl, show Int32.toNatClampNeg 4 = 4 from rfl, show Int32.toNatClampNeg 5 = 5 from rfl, show Int32.toNatClampNeg 6 = 6 from rfl, show Int32.toNatClampNeg 7 = 7 from rfl, show Int32.toNatClampNeg 8 = 8 from rfl, nI_clamp (show c < 2 ^ 31 by omega), zq_sI, Nat.reduceEqDiff, false_and, if_false, reduceIte, lc.1, lc.2.1, lc.2.2, l2, ecu, zsub1' (show 1 ≤ n by omega)]
  have v : vp_in (nI c) 16 := vp_in_nI (by omega) (by decide)
  have w : ∀ i, i < 9 → vp_in (nI i) 9 := fun i hi => vp_in_nI hi (by decide)
  refine ⟨v, w 0 (by decide), v, w 1 (by decide), v, w 2 (by decide), w 3 (by decide), w 4 (by decide), w 5 (by decide), w 6 (by decide), w 7 (by decide), fun q => ⟨w 8 (by decide), wb_main (Q := Q) ?_ hC hP (fun x h' z => z) h2⟩, fun q => ⟨fun q2 => ⟨w 8 (by decide), wb_main (Q := Q) ?_ hC hP (fun x h' z => z) h2⟩, fun q2 => ⟨w 8 (by decide), wb_main (Q := Q) ?_ hC hP (fun x h' z => z) h2⟩⟩⟩
  · have q3 : c = 0 := (nI_eq (b := 0) (by omega) (by decide)).mp q
    unfold zedge
    rw [if_pos q3]
  · have q3 : ¬ c = 0 := fun z => q (by rw [z]; rfl)
    have q4 : c = n - 1 := (nI_eq (by omega) (by omega)).mp q2
    unfold zedge
    rw [if_neg q3, if_pos (by omega)]
  · have q3 : ¬ c = 0 := fun z => q (by rw [z]; rfl)
    have q4 : ¬ c = n - 1 := fun z => q2 (by rw [z])
    unfold zedge
    rw [if_neg q3, if_neg (by omega)]
def zwt (n : Nat) (cr ra cu ta : Nat → Int32) (L : Nat) (cd : Nat → zTk) (j c : Nat) : Int32 := zval (zas9 n cr ra cu (ta (3 * j)) (ta (3 * j + 1)) (ta (3 * j + 2)) (nI j) c) cd L
def sp_mWorthOf : zq_Sp := fun args h Q => ∃ j c n g cr ra cu ta de L cd, args = [.ref 56, .int (nI j), .int (nI c)] ∧ j < g ∧ c < n ∧ (∀ i, i < n → cu i = 0 ∨ cu i = 1) ∧ ML n cr ra cu h ∧ MG g ta de h ∧ ZC L cd ∧ MP L cd h ∧ ∀ h', zq_fr [72, 73] h h' → Q (some (.int (zwt n cr ra cu ta L cd j c))) h'
theorem ok_mWorthOf : zq_M yX12_worthOf cX12_worthOf 3 (some .int) 1 4 sp_mWorthOf := by
  refine mX12_worthOf ok_worthBy (by decide) (fun args h Q hs => ?_)
  obtain ⟨j, c, n, g, cr, ra, cu, ta, de, L, cd, rfl, hj, hc, hk, hL, ⟨g1, g2, g3, g4⟩, hC, hP, h2⟩ := hs
  refine ⟨Nat.le_of_ble_eq_true rfl, ?_⟩
  simp only [xX12_worthOf_0, zi_push, zi_iload, zi_lload, zi_aload, zi_istore, zi_astore, zi_lstore, zi_iinc, zi_i2, zi_i1, zi_idv, zi_l2, zi_ldv, zi_lsh, zi_i2l, zi_l2i, zi_lcmp, zi_dup, zi_dup2, zi_pop, zi_if1, zi_if2, zi_getI, zi_getL, zi_getR, zi_putI, zi_putZ, zi_putL, zi_aldI, zi_aldL, zi_astI, zi_astZ, zi_astL, zi_alen, zi_iret, zi_zret, zi_lret, zi_vret, zi_callV, zi_callS, zi_sw, zi_copyI, zi_copyL, zi_m2, zi_m1, zi_sval, zi_scod, zi_fmt, zi_balen, zi_bald, zi_bret, zi_callT, zq_nth, zq_put1, zq_put2, zq_clr, zq_nl, zq_tk, zq_ps, zq_sw, zq_l0, zq_a, zq_a1, List.length_cons, List.length_nil, List.nil_append, List.cons_append, List.append_nil, List.replicate, Nat.reduceAdd, Nat.reduceSub, Nat.reduceLeDiff, true_and, and_true, List.append_eq, List.cons.injEq, Value.int.injEq, Value.long.injEq, Value.ref.injEq, exists_and_left, exists_eq_left', and_assoc, zc_b, zc_0, zc_1, zc_10, zc_01, lg_cmp_ge, lg_cmp_le, lg_cmp_gt, lg_cmp_lt, lg_cmp_eq, zw_le, zw_lt, reduceIte, true_or, or_true, zw_g0, zw_l0, zw_g1, zw_l1, zw_g2, zw_l2, zw_g3, zw_l3, zw_g5, zw_l5, zw_g6, zw_l6, zw_g7, zw_l7, zw_g9, zw_l9, zw_g10, zw_l10, zw_g15, zw_l15, zw_g16, zw_l16, zw_g48, zw_l48, zw_g50, zw_l50, zw_g57, zw_l57, zw_g97, zw_l97, zw_g100, zw_l100, zw_g200, zw_l200, zw_g999, zw_l999, zw_g9999, zw_l9999]
  have e0 : (3 : Int32) * nI j = nI (3 * j) := pk_mul 3 j
  have e1 : nI (3 * j) + 1 = nI (3 * j + 1) := nI_1 _
  have e2 : nI (3 * j) + 2 = nI (3 * j + 2) := nI_add (3 * j) 2
  rw [e0, e1, e2, nI_clamp (by omega), nI_clamp (by omega), nI_clamp (by omega), g3 _ (by omega), g3 _ (by omega), g3 _ (by omega)]
  exact ⟨vp_in_nI (by omega) (by decide), vp_in_nI (by omega) (by decide), vp_in_nI (by omega) (by decide), _, c, _, _, _, n, cr, ra, cu, L, cd, rfl, hc, hk c hc, hL, hC, hP, h2⟩
