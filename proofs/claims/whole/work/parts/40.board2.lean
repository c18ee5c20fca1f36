/-! ===== slices given, taken back, had by the mouse ===== -/
def vSB (V : zV) (now : Nat → Int32) (k : Nat) (und : Nat → Nat → Int32) (kept : Nat → Option (Nat → Int32)) : zV := (V.1, V.2.1, V.2.2.1, V.2.2.2.1, (now, k, und, kept), V.2.2.2.2.2)
def vSn (V : zV) (now : Nat → Int32) : zV := vSB V now (vk V) (vund V) (vkept V)
theorem XC_B {V : zV} {ps : List Nat} {h h' : zq_H} {now : Nat → Int32} {k : Nat} {und : Nat → Nat → Int32} {kept : Nat → Option (Nat → Int32)} (hX : XC V h) (hB : XB (vn V) now k und kept h') (f : zq_fr ps h h') (d : ∀ p ∈ ps, p ∈ [12, 13, 14]) : XC (vSB V now k und kept) h' := by
  have e : ∀ p, p ∉ [12, 13, 14] → p ∉ ps := fun p hp q => hp (d p q)
  obtain ⟨k1, k2, k3, k4, k5, k6, k7⟩ := hX
  exact ⟨XL_fr k1 f ⟨e _ (by decide), e _ (by decide), e _ (by decide), e _ (by decide)⟩, XG_fr k2 f ⟨e _ (by decide), e _ (by decide), e _ (by decide)⟩, XP_fr k3 f ⟨e _ (by decide), e _ (by decide)⟩, hB, XK_fr k5 f ⟨e _ (by decide), e _ (by decide), e _ (by decide)⟩, XW_fr k6 f ⟨e _ (by decide), e _ (by decide), e _ (by decide)⟩, XW0_fr k7 f (e _ (by decide))⟩
theorem MC_B {b b' : Nat} {V : zV} {fs ps : List Nat} {h h' : zq_H} {now : Nat → Int32} {k : Nat} {und : Nat → Nat → Int32} {kept : Nat → Option (Nat → Int32)} (hX : MC b V h) (hB : MB b' (vn V) now k und kept h') (f : zq_fm fs ps h h') (d : (∀ j ∈ fs, j ∈ [0, 1, 5, 31]) ∧ ∀ p ∈ ps, p ∈ [57, 63, 72, 73, 76, 99, 100, 101]) : MC b' (vSB V now k und kept) h' := by
  have e : ∀ p, p ∉ [57, 63, 72, 73, 76, 99, 100, 101] → p ∉ ps := fun p hp q => hp (d.2 p q)
  have e2 : ∀ p, p ∉ [0, 1, 5, 31] → p ∉ fs := fun p hp q => hp (d.1 p q)
  obtain ⟨k1, k2, k3, k4, k5⟩ := hX
  exact ⟨ML_fm k1 f ⟨e2 _ (by decide), e _ (by decide), e _ (by decide), e _ (by decide)⟩, MG_fm k2 f ⟨e2 _ (by decide), e _ (by decide), e _ (by decide)⟩, MP_fm k3 f ⟨e2 _ (by decide), e _ (by decide)⟩, hB, MK_fm k5 f ⟨e2 _ (by decide), e _ (by decide), e _ (by decide)⟩⟩
theorem XB_put {c k i m : Nat} {now : Nat → Int32} {und : Nat → Nat → Int32} {kept : Nat → Option (Nat → Int32)} {h : zq_H} {v : Int32} (hB : XB c now k und kept h) (hi : i < c) (hm : m < 16) (hv : v = nI m - 1) : XB c (zupd now i v) k und kept (zq_setL h 12 2 (zP (h.2 12 2) i v)) := by
  obtain ⟨b1, b2, b3, b4, q, b5, b6, b7⟩ := hB
  subst hv
  refine ⟨b1, fun j hj => ?_, by simpa [zq_sL1] using b3, fun j hj i hi => by simpa [zq_sL] using b4 j hj i hi, q, b5, by simpa [zq_sL1] using b6, fun j hj => ?_⟩
  · rw [zq_sL, if_pos ⟨rfl, rfl⟩, zH_put _ (by omega) (by omega) hm]
    unfold zupd
    split
    · rfl
    · exact b2 j hj
  · have := b7 j hj
    cases e : kept j with
    | none => rw [e] at this; exact this
    | some f => rw [e] at this; exact ⟨this.1, fun i hi => by simpa [zq_sL] using this.2 i hi⟩
theorem MB_put {b c k i : Nat} {now : Nat → Int32} {und : Nat → Nat → Int32} {kept : Nat → Option (Nat → Int32)} {h : zq_H} {v : Int32} (hB : MB b c now k und kept h) : MB b c (zupd now i v) k und kept (zq_setI h 63 i v) := by
  obtain ⟨b1, b2, b3, b4, lv, b5, b6, b7⟩ := hB
  refine ⟨b1, fun j hj => ?_, by simpa [zq_sI] using b3, fun j hj i hi => by simpa [zq_sI] using b4 j hj i hi, lv, b5, by simpa [zq_sI] using b6, fun j hj => by simpa [zq_sI] using b7 j hj⟩
  unfold zupd
  by_cases q : j = i
  · simp [zq_sI, q]
  · simpa [zq_sI, q] using b2 j hj
/-- with v in cells a .. t - 1 -/
def zfil (now : Nat → Int32) (v : Int32) (a t : Nat) : Nat → Int32 := fun c => if a ≤ c ∧ c < t then v else now c
theorem zfil_0 (now : Nat → Int32) (v : Int32) (a : Nat) : zfil now v a a = now := by
  funext c
  unfold zfil
  rw [if_neg (by omega)]
theorem zfil_s (now : Nat → Int32) (v : Int32) {a t : Nat} (h : a ≤ t) : zupd (zfil now v a t) t v = zfil now v a (t + 1) := by
  funext c
  unfold zfil zupd
  by_cases q : c = t
  · rw [if_pos q, if_pos (by omega)]
  · rw [if_neg q]
    show (if a ≤ c ∧ c < t then v else now c) = _
    by_cases q2 : a ≤ c ∧ c < t
    · rw [if_pos q2, if_pos (by omega)]
    · rw [if_neg q2, if_neg (by omega)]
def zsl (n : Nat) (x y : Int32) : Prop := (0 ≤ x ∧ x < nI n) ∧ (0 ≤ y ∧ y < nI n) ∧ x ≤ y
theorem zsl_nat {n : Nat} (hn : n < 2 ^ 31) {x y : Int32} (h : zsl n x y) : ∃ a b, x = nI a ∧ y = nI b ∧ a ≤ b ∧ b < n := by
  obtain ⟨h1, h2, h3⟩ := h
  obtain ⟨a, ha, rfl⟩ := zg_nat hn h1
  obtain ⟨b, hb, rfl⟩ := zg_nat hn h2
  exact ⟨a, b, rfl, rfl, (nI_leI (by omega) (by omega)).mp h3, hb⟩
/-- what a give does: refused, a cell taken, or done -/
def zG (V : zV) (g x y : Int32) (K : Int32 → (Nat → Int32) → Prop) : Prop :=
  (¬ ((0 ≤ g ∧ g < nI (vg V)) ∧ zsl (vn V) x y) → K (-1) (vnow V)) ∧
  ∀ j a b, j < vg V → a ≤ b → b < vn V → g = nI j → x = nI a → y = nI b → ((∃ c, a ≤ c ∧ c ≤ b ∧ vnow V c ≠ -1) → K (-2) (vnow V)) ∧ ((∀ c, a ≤ c → c ≤ b → vnow V c = -1) → K (nI (vS V j (b + 1) - vS V j a)) (zfil (vnow V) (nI j) a (b + 1)))
def zT (V : zV) (a t : Nat) : Nat × (Nat → Int32) := zfold (fun i s => if vnow V (a + i) = -1 ∨ vnow V (a + i) = 9 then s else (s.1 + 1, zupd s.2 (a + i) (-1))) t (0, vnow V)
def zTb (V : zV) (x y : Int32) (K : Int32 → (Nat → Int32) → Prop) : Prop :=
  (¬ zsl (vn V) x y → K (-1) (vnow V)) ∧ ∀ a b, a ≤ b → b < vn V → x = nI a → y = nI b → K (nI (zT V a (b + 1 - a)).1) (zT V a (b + 1 - a)).2
def zMo (V : zV) (x : Int32) (K : Int32 → (Nat → Int32) → Prop) : Prop :=
  (¬ (0 ≤ x ∧ x < nI (vn V)) → K (-1) (vnow V)) ∧ ∀ a, a < vn V → x = nI a → (vnow V a ≠ -1 → K (-2) (vnow V)) ∧ (vnow V a = -1 → K (vcr V a) (zupd (vnow V) a 9))
/-- what a call of the class on the board leaves -/
def zKx (V : zV) (h : zq_H) (Q : zq_Q) : Int32 → (Nat → Int32) → Prop := fun r now => ∀ h', XC (vSn V now) h' → zq_fr [12] h h' → Q (some (.int r)) h'
def sp_giveSlice : zq_Sp := fun args h Q => ∃ V g x y, args = [.ref 0, .int g, .int x, .int y] ∧ XC V h ∧ zG V g x y (zKx V h Q)
theorem XC_put {V : zV} {h : zq_H} {i m : Nat} {v : Int32} (hX : XC V h) (hi : i < vn V) (hm : m < 16) (hv : v = nI m - 1) : XC (vSn V (zupd (vnow V) i v)) (zq_setL h 12 2 (zP (h.2 12 2) i v)) :=
  XC_B hX (XB_put hX.2.2.2.1 hi hm hv) (zq_fr_L (ps := [12]) zq_fr_rf (by decide)) (by decide)
def sp_isSliceL : zq_Sp := fun args h Q => ∃ V x y, args = [.ref 0, .int x, .int y] ∧ XC V h ∧ (¬ zsl (vn V) x y → Q (some (.int 0)) h) ∧ (zsl (vn V) x y → Q (some (.int 1)) h)
theorem ok_isSliceL : zq_M yX11_isSlice cX11_isSlice 3 (some .boolean) 1 1 sp_isSliceL := zq_M_w ok_isSlice (fun args h Q ⟨V, x, y, e, hX, k1, k2⟩ => ⟨x, y, e, by
  rw [hX.1.2.1]
  split
  · next q => exact k2 q
  · next q => exact k1 q⟩)
def sp_isGuestL : zq_Sp := fun args h Q => ∃ V v, args = [.ref 0, .int v] ∧ XC V h ∧ (¬ (0 ≤ v ∧ v < nI (vg V)) → Q (some (.int 0)) h) ∧ ((0 ≤ v ∧ v < nI (vg V)) → Q (some (.int 1)) h)
theorem ok_isGuestL : zq_M yX11_isGuest cX11_isGuest 2 (some .boolean) 1 0 sp_isGuestL := zq_M_w ok_isGuest (fun args h Q ⟨V, v, e, hX, k1, k2⟩ => ⟨v, e, by
  rw [hX.2.1.2.1]
  split
  · next q => exact k2 q
  · next q => exact k1 q⟩)
def sp_isCellL : zq_Sp := fun args h Q => ∃ V v, args = [.ref 0, .int v] ∧ XC V h ∧ (¬ (0 ≤ v ∧ v < nI (vn V)) → Q (some (.int 0)) h) ∧ ((0 ≤ v ∧ v < nI (vn V)) → Q (some (.int 1)) h)
theorem ok_isCellL : zq_M yX11_isCell cX11_isCell 2 (some .boolean) 1 0 sp_isCellL := zq_M_w ok_isCell (fun args h Q ⟨V, v, e, hX, k1, k2⟩ => ⟨v, e, by
  rw [hX.1.2.1]
  split
  · next q => exact k2 q
  · next q => exact k1 q⟩)
def sp_holderL : zq_Sp := fun args h Q => ∃ V c, args = [.ref 12, .int (nI c)] ∧ c < vn V ∧ XC V h ∧ Q (some (.int (vnow V c))) h
theorem ok_holderL : zq_M yX0_holderOf cX0_holderOf 2 (some .int) 1 0 sp_holderL := zq_M_w ok_holderOf (fun args h Q ⟨V, c, e, hc, hX, k⟩ => ⟨c, e, by rw [hX.2.2.2.1.2.1 c hc]; exact k⟩)
def sp_btwL : zq_Sp := fun args h Q => ∃ V j a b, args = [.ref 9, .int (nI j), .int (nI a), .int (nI b)] ∧ j < vg V ∧ a ≤ b ∧ b ≤ vn V ∧ XC V h ∧ Q (some (.int (nI (vS V j b - vS V j a)))) h
theorem ok_btwL : zq_M yX10_between cX10_between 4 (some .int) 1 0 sp_btwL := fun l D Y ad args h Q ⟨V, j, a, b, k⟩ => ok_btwV V l D Y ad args h Q ⟨j, a, b, k⟩
def sp_putL : zq_Sp := fun args h Q => ∃ V c m v, args = [.ref 12, .int (nI c), .int v] ∧ c < vn V ∧ m < 16 ∧ v = nI m - 1 ∧ XC V h ∧ ∀ h', XC (vSn V (zupd (vnow V) c v)) h' → zq_fr [12] h h' → Q none h'
theorem ok_putL : zq_M yX0_put cX0_put 5 none 0 0 sp_putL := zq_M_w ok_put (fun args h Q ⟨V, c, m, v, e, hc, hm, hv, hX, k⟩ => ⟨c, v, e, k _ (XC_put hX hc hm hv) (zq_fr_L zq_fr_rf (by decide))⟩)
def I_gs22 (Q : zq_Q) (z : zq_H × zV × Nat × Nat × Nat × Nat) : zq_P := fun ls st h => match z with
  | (h0, V, j, a, b, c) => ls = [some (.ref 0), some (.int (nI j)), some (.int (nI a)), some (.int (nI b)), some (.int (nI c))] ∧ st = [] ∧ h = h0 ∧ (j < vg V ∧ a ≤ b ∧ b < vn V ∧ a ≤ c ∧ c ≤ b + 1) ∧ (∀ i, a ≤ i → i < c → vnow V i = -1) ∧ XC V h0 ∧ zG V (nI j) (nI a) (nI b) (zKx V h0 Q)
def I_gs53 (Q : zq_Q) (z : zq_H × zV × Nat × Nat × Nat × Nat) : zq_P := fun ls st h => match z with
  | (h0, V, j, a, b, c) => ls = [some (.ref 0), some (.int (nI j)), some (.int (nI a)), some (.int (nI b)), some (.int (nI c))] ∧ st = [] ∧ zq_fr [12] h0 h ∧ (j < vg V ∧ a ≤ b ∧ b < vn V ∧ a ≤ c ∧ c ≤ b + 1) ∧ (∀ i, a ≤ i → i < b + 1 → vnow V i = -1) ∧ XC (vSn V (zfil (vnow V) (nI j) a c)) h ∧ zG V (nI j) (nI a) (nI b) (zKx V h0 Q)
theorem zlt_s {b c : Nat} (hb : b < 2 ^ 30) (hc : c ≤ b + 1) : (nI b < nI c) = (c = b + 1) := by
  rw [nI_ltP (by omega) (by omega)]
  exact propext ⟨fun q => by omega, fun q => by omega⟩
theorem ok_giveSlice : zq_M yX11_giveSlice cX11_giveSlice 5 (some .int) 1 2 sp_giveSlice := by
  refine mX11_giveSlice ok_isGuestL (by decide) ok_isSliceL (by decide) ok_holderL (by decide) ok_putL (by decide) ok_btwL (by decide) (fun z => 100 + (z.2.2.2.2.1 + 1 - z.2.2.2.2.2)) I_gs22 (fun z => z.2.2.2.2.1 + 1 - z.2.2.2.2.2) I_gs53 (fun args h Q hs => ?_) (fun Q z ls st h hi => ?_) (fun Q z ls st h hi => ?_)
  · obtain ⟨V, g, x, y, rfl, hX, k⟩ := hs
    have hg := hX.2.1.1
    have hn := hX.1.1
    have kn : ¬ ((0 ≤ g ∧ g < nI (vg V)) ∧ zsl (vn V) x y) → Q (some (.int (-1))) h := fun q => k.1 q h hX zq_fr_rf
    refine ⟨Nat.le_of_ble_eq_true rfl, ?_⟩
    simp only [xX11_giveSlice_75, xX11_giveSlice_59, xX11_giveSlice_53, xX11_giveSlice_50, xX11_giveSlice_44, xX11_giveSlice_41, xX11_giveSlice_28, xX11_giveSlice_22, xX11_giveSlice_19, xX11_giveSlice_17, xX11_giveSlice_8, xX11_giveSlice_0, zi_push, zi_iload, zi_lload, zi_aload, zi_istore, zi_astore, zi_lstore, zi_iinc, zi_i2, zi_i1, zi_idv, zi_l2, zi_ldv, zi_lsh, zi_i2l, zi_l2i, zi_lcmp, zi_dup, zi_dup2, zi_pop, zi_if1, zi_if2, zi_getI, zi_getL, zi_getR, zi_putI, zi_putZ, zi_putL, zi_aldI, zi_aldL, zi_astI, zi_astZ, zi_astL, zi_alen, zi_iret, zi_zret, zi_lret, zi_vret, zi_callV, zi_callS, zi_sw, zi_copyI, zi_copyL, zi_m2, zi_m1, zi_sval, zi_scod, zi_fmt, zi_balen, zi_bald, zi_bret, zi_callT, zq_nth, zq_put1, zq_put2, zq_clr, zq_nl, zq_tk, zq_ps, zq_sw, zq_l0, zq_a, zq_a1, List.length_cons, List.length_nil, List.nil_append, List.cons_append, List.append_nil, List.replicate, Nat.reduceAdd, Nat.reduceSub, Nat.reduceLeDiff, true_and, and_true, List.append_eq, List.cons.injEq, Value.int.injEq, Value.long.injEq, Value.ref.injEq, exists_and_left, exists_eq_left', and_assoc, zc_b, zc_0, zc_1, zc_10, zc_01, lg_cmp_ge, lg_cmp_le, lg_cmp_gt, lg_cmp_lt, lg_cmp_eq, zw_le, zw_lt, reduceIte, true_or, or_true, zw_g0, zw_l0, zw_g1, zw_l1, zw_g2, zw_l2, zw_g3, zw_l3, zw_g5, zw_l5, zw_g6, zw_l6, zw_g7, zw_l7, zw_g9, zw_l9, zw_g10, zw_l10, zw_g15, zw_l15, zw_g16, zw_l16, zw_g48, zw_l48, zw_g50, zw_l50, zw_g57, zw_l57, zw_g97, zw_l97, zw_g100, zw_l100, zw_g200, zw_l200, zw_g999, zw_l999, zw_g9999, zw_l9999]
    refine ⟨V, g, rfl, hX, fun q => ?_, fun q => ?_⟩
    · dsimp only
      exact ⟨fun _ => kn (fun z => q z.1), fun z => absurd rfl z⟩
    · dsimp only
      refine ⟨fun z => absurd z (by decide), fun _ => ⟨Nat.le_of_ble_eq_true rfl, V, x, y, rfl, hX, fun q2 => ?_, fun q2 => ?_⟩⟩
      · dsimp only
        exact ⟨fun _ => kn (fun z => q2 z.2), fun z => absurd rfl z⟩
      · dsimp only
        refine ⟨fun z => absurd z (by decide), fun _ => ?_⟩
        obtain ⟨j, hj, rfl⟩ := zg_nat (by omega) q
        obtain ⟨a, b, rfl, rfl, hab, hb⟩ := zsl_nat (by omega) q2
        exact ⟨(h, V, j, a, b, a), rfl, rfl, rfl, ⟨hj, hab, hb, Nat.le_refl _, by omega⟩, fun i h1 h2 => by omega, hX, k⟩
  · obtain ⟨h0, V, j, a, b, c⟩ := z
    obtain ⟨rfl, rfl, rfl, ⟨hj, hab, hb, hac, hc⟩, hi, hX, k⟩ := hi
    have hn := hX.1.1
    simp only [xX11_giveSlice_22, xX11_giveSlice_28, xX11_giveSlice_41, xX11_giveSlice_44, xX11_giveSlice_50, zlt_s (show b < 2 ^ 30 by omega) hc, zi_push, zi_iload, zi_lload, zi_aload, zi_istore, zi_astore, zi_lstore, zi_iinc, zi_i2, zi_i1, zi_idv, zi_l2, zi_ldv, zi_lsh, zi_i2l, zi_l2i, zi_lcmp, zi_dup, zi_dup2, zi_pop, zi_if1, zi_if2, zi_getI, zi_getL, zi_getR, zi_putI, zi_putZ, zi_putL, zi_aldI, zi_aldL, zi_astI, zi_astZ, zi_astL, zi_alen, zi_iret, zi_zret, zi_lret, zi_vret, zi_callV, zi_callS, zi_sw, zi_copyI, zi_copyL, zi_m2, zi_m1, zi_sval, zi_scod, zi_fmt, zi_balen, zi_bald, zi_bret, zi_callT, zq_nth, zq_put1, zq_put2, zq_clr, zq_nl, zq_tk, zq_ps, zq_sw, zq_l0, zq_a, zq_a1, List.length_cons, List.length_nil, List.nil_append, List.cons_append, List.append_nil, List.replicate, Nat.reduceAdd, Nat.reduceSub, Nat.reduceLeDiff, true_and, and_true, List.append_eq, List.cons.injEq, Value.int.injEq, Value.long.injEq, Value.ref.injEq, exists_and_left, exists_eq_left', and_assoc, zc_b, zc_0, zc_1, zc_10, zc_01, lg_cmp_ge, lg_cmp_le, lg_cmp_gt, lg_cmp_lt, lg_cmp_eq, zw_le, zw_lt, reduceIte, true_or, or_true, zw_g0, zw_l0, zw_g1, zw_l1, zw_g2, zw_l2, zw_g3, zw_l3, zw_g5, zw_l5, zw_g6, zw_l6, zw_g7, zw_l7, zw_g9, zw_l9, zw_g10, zw_l10, zw_g15, zw_l15, zw_g16, zw_l16, zw_g48, zw_l48, zw_g50, zw_l50, zw_g57, zw_l57, zw_g97, zw_l97, zw_g100, zw_l100, zw_g200, zw_l200, zw_g999, zw_l999, zw_g9999, zw_l9999]
    refine ⟨fun q => ?_, fun q => ⟨V, c, rfl, by omega, hX, ?_⟩⟩
    · subst q
      refine ⟨(h, V, j, a, b, a), by dsimp only; omega, rfl, rfl, zq_fr_rf, ⟨hj, hab, hb, Nat.le_refl _, by omega⟩, hi, ?_, k⟩
      rw [zfil_0]
      exact hX
    · dsimp only
      refine ⟨fun q2 => ⟨(h, V, j, a, b, c + 1), by dsimp only; omega, by rw [nI_1], rfl, rfl, ⟨hj, hab, hb, by omega, by omega⟩, fun i h1 h2 => ?_, hX, k⟩, fun q2 => ?_⟩
      · by_cases q3 : i = c
        · rw [q3]
          exact q2
        · exact hi i h1 (by omega)
      · exact (k.2 j a b hj hab hb rfl rfl rfl).1 ⟨c, hac, by omega, q2⟩ h hX zq_fr_rf
  · obtain ⟨h0, V, j, a, b, c⟩ := z
    obtain ⟨rfl, rfl, hf, ⟨hj, hab, hb, hac, hc⟩, hi, hX, k⟩ := hi
    have hn := hX.1.1
    have hn2 : vn (vSn V (zfil (vnow V) (nI j) a c)) = vn V := rfl
    have hg := hX.2.1.1
    have hg2 : vg (vSn V (zfil (vnow V) (nI j) a c)) = vg V := rfl
    simp only [xX11_giveSlice_53, xX11_giveSlice_59, xX11_giveSlice_75, zlt_s (show b < 2 ^ 30 by omega) hc, zi_push, zi_iload, zi_lload, zi_aload, zi_istore, zi_astore, zi_lstore, zi_iinc, zi_i2, zi_i1, zi_idv, zi_l2, zi_ldv, zi_lsh, zi_i2l, zi_l2i, zi_lcmp, zi_dup, zi_dup2, zi_pop, zi_if1, zi_if2, zi_getI, zi_getL, zi_getR, zi_putI, zi_putZ, zi_putL, zi_aldI, zi_aldL, zi_astI, zi_astZ, zi_astL, zi_alen, zi_iret, zi_zret, zi_lret, zi_vret, zi_callV, zi_callS, zi_sw, zi_copyI, zi_copyL, zi_m2, zi_m1, zi_sval, zi_scod, zi_fmt, zi_balen, zi_bald, zi_bret, zi_callT, zq_nth, zq_put1, zq_put2, zq_clr, zq_nl, zq_tk, zq_ps, zq_sw, zq_l0, zq_a, zq_a1, List.length_cons, List.length_nil, List.nil_append, List.cons_append, List.append_nil, List.replicate, Nat.reduceAdd, Nat.reduceSub, Nat.reduceLeDiff, true_and, and_true, List.append_eq, List.cons.injEq, Value.int.injEq, Value.long.injEq, Value.ref.injEq, exists_and_left, exists_eq_left', and_assoc, zc_b, zc_0, zc_1, zc_10, zc_01, lg_cmp_ge, lg_cmp_le, lg_cmp_gt, lg_cmp_lt, lg_cmp_eq, zw_le, zw_lt, reduceIte, true_or, or_true, zw_g0, zw_l0, zw_g1, zw_l1, zw_g2, zw_l2, zw_g3, zw_l3, zw_g5, zw_l5, zw_g6, zw_l6, zw_g7, zw_l7, zw_g9, zw_l9, zw_g10, zw_l10, zw_g15, zw_l15, zw_g16, zw_l16, zw_g48, zw_l48, zw_g50, zw_l50, zw_g57, zw_l57, zw_g97, zw_l97, zw_g100, zw_l100, zw_g200, zw_l200, zw_g999, zw_l999, zw_g9999, zw_l9999]
    refine ⟨fun q => ?_, fun q => ?_⟩
    · subst q
      rw [nI_1]
      refine ⟨vSn V (zfil (vnow V) (nI j) a (b + 1)), j, a, b + 1, rfl, hj, by omega, by omega, hX, ?_⟩
      exact (k.2 j a b hj hab hb rfl rfl rfl).2 (fun i h1 h2 => hi i h1 (by omega)) h hX hf
    · refine ⟨vSn V (zfil (vnow V) (nI j) a c), c, j + 1, nI j, rfl, by omega, by omega, ?_, hX, fun h1 x1 f1 => ?_⟩
      · rw [← nI_1]
        generalize nI j = x
        grind
      · dsimp only
        refine ⟨(h0, V, j, a, b, c + 1), by dsimp only; omega, by rw [nI_1], rfl, zq_fr_t hf f1 (by decide), ⟨hj, hab, hb, by omega, by omega⟩, hi, ?_, k⟩
        rw [← zfil_s (vnow V) (nI j) hac]
        exact x1
def sp_takeBack : zq_Sp := fun args h Q => ∃ V x y, args = [.ref 0, .int x, .int y] ∧ XC V h ∧ zTb V x y (zKx V h Q)
def I_tb16 (Q : zq_Q) (z : zq_H × zV × Nat × Nat × Nat) : zq_P := fun ls st h => match z with
  | (h0, V, a, b, t) => ∃ s5, ls = [some (.ref 0), some (.int (nI a)), some (.int (nI b)), some (.int (nI (zT V a t).1)), some (.int (nI (a + t))), s5] ∧ st = [] ∧ zq_fr [12] h0 h ∧ (a ≤ b ∧ b < vn V ∧ a + t ≤ b + 1) ∧ XC (vSn V (zT V a t).2) h ∧ (∀ i, a + t ≤ i → (zT V a t).2 i = vnow V i) ∧ zTb V (nI a) (nI b) (zKx V h0 Q)
theorem zT_s (V : zV) (a t : Nat) : zT V a (t + 1) = if vnow V (a + t) = -1 ∨ vnow V (a + t) = 9 then zT V a t else ((zT V a t).1 + 1, zupd (zT V a t).2 (a + t) (-1)) := rfl
theorem ok_takeBack : zq_M yX11_takeBack cX11_takeBack 6 (some .int) 1 2 sp_takeBack := by
  refine mX11_takeBack ok_isSliceL (by decide) ok_holderL (by decide) ok_putL (by decide) (fun z => z.2.2.2.1 + 1 - (z.2.2.1 + z.2.2.2.2)) I_tb16 (fun args h Q hs => ?_) (fun Q z ls st h hi => ?_)
  · obtain ⟨V, x, y, rfl, hX, k⟩ := hs
    have hn := hX.1.1
    refine ⟨Nat.le_of_ble_eq_true rfl, ?_⟩
    simp only [xX11_takeBack_65, xX11_takeBack_59, xX11_takeBack_46, xX11_takeBack_39, xX11_takeBack_22, xX11_takeBack_16, xX11_takeBack_11, xX11_takeBack_9, xX11_takeBack_0, zi_push, zi_iload, zi_lload, zi_aload, zi_istore, zi_astore, zi_lstore, zi_iinc, zi_i2, zi_i1, zi_idv, zi_l2, zi_ldv, zi_lsh, zi_i2l, zi_l2i, zi_lcmp, zi_dup, zi_dup2, zi_pop, zi_if1, zi_if2, zi_getI, zi_getL, zi_getR, zi_putI, zi_putZ, zi_putL, zi_aldI, zi_aldL, zi_astI, zi_astZ, zi_astL, zi_alen, zi_iret, zi_zret, zi_lret, zi_vret, zi_callV, zi_callS, zi_sw, zi_copyI, zi_copyL, zi_m2, zi_m1, zi_sval, zi_scod, zi_fmt, zi_balen, zi_bald, zi_bret, zi_callT, zq_nth, zq_put1, zq_put2, zq_clr, zq_nl, zq_tk, zq_ps, zq_sw, zq_l0, zq_a, zq_a1, List.length_cons, List.length_nil, List.nil_append, List.cons_append, List.append_nil, List.replicate, Nat.reduceAdd, Nat.reduceSub, Nat.reduceLeDiff, true_and, and_true, List.append_eq, List.cons.injEq, Value.int.injEq, Value.long.injEq, Value.ref.injEq, exists_and_left, exists_eq_left', and_assoc, zc_b, zc_0, zc_1, zc_10, zc_01, lg_cmp_ge, lg_cmp_le, lg_cmp_gt, lg_cmp_lt, lg_cmp_eq, zw_le, zw_lt, reduceIte, true_or, or_true, zw_g0, zw_l0, zw_g1, zw_l1, zw_g2, zw_l2, zw_g3, zw_l3, zw_g5, zw_l5, zw_g6, zw_l6, zw_g7, zw_l7, zw_g9, zw_l9, zw_g10, zw_l10, zw_g15, zw_l15, zw_g16, zw_l16, zw_g48, zw_l48, zw_g50, zw_l50, zw_g57, zw_l57, zw_g97, zw_l97, zw_g100, zw_l100, zw_g200, zw_l200, zw_g999, zw_l999, zw_g9999, zw_l9999]
    refine ⟨V, x, y, rfl, hX, fun q => ?_, fun q => ?_⟩
    · dsimp only
      exact ⟨fun _ => k.1 q h hX zq_fr_rf, fun z => absurd rfl z⟩
    · dsimp only
      refine ⟨fun z => absurd z (by decide), fun _ => ?_⟩
      obtain ⟨a, b, rfl, rfl, hab, hb⟩ := zsl_nat (by omega) q
      exact ⟨(h, V, a, b, 0), none, rfl, rfl, zq_fr_rf, ⟨hab, hb, by omega⟩, hX, fun i _ => rfl, k⟩
  · obtain ⟨h0, V, a, b, t⟩ := z
    obtain ⟨s5, rfl, rfl, hf, ⟨hab, hb, ht⟩, hX, hr, k⟩ := hi
    have hn : vn V ≤ 16 := hX.1.1
    have hr0 := hr (a + t) (Nat.le_refl _)
    simp only [xX11_takeBack_16, xX11_takeBack_22, xX11_takeBack_39, xX11_takeBack_46, xX11_takeBack_59, xX11_takeBack_65, zlt_s (show b < 2 ^ 30 by omega) ht, zi_push, zi_iload, zi_lload, zi_aload, zi_istore, zi_astore, zi_lstore, zi_iinc, zi_i2, zi_i1, zi_idv, zi_l2, zi_ldv, zi_lsh, zi_i2l, zi_l2i, zi_lcmp, zi_dup, zi_dup2, zi_pop, zi_if1, zi_if2, zi_getI, zi_getL, zi_getR, zi_putI, zi_putZ, zi_putL, zi_aldI, zi_aldL, zi_astI, zi_astZ, zi_astL, zi_alen, zi_iret, zi_zret, zi_lret, zi_vret, zi_callV, zi_callS, zi_sw, zi_copyI, zi_copyL, zi_m2, zi_m1, zi_sval, zi_scod, zi_fmt, zi_balen, zi_bald, zi_bret, zi_callT, zq_nth, zq_put1, zq_put2, zq_clr, zq_nl, zq_tk, zq_ps, zq_sw, zq_l0, zq_a, zq_a1, List.length_cons, List.length_nil, List.nil_append, List.cons_append, List.append_nil, List.replicate, Nat.reduceAdd, Nat.reduceSub, Nat.reduceLeDiff, true_and, and_true, List.append_eq, List.cons.injEq, Value.int.injEq, Value.long.injEq, Value.ref.injEq, exists_and_left, exists_eq_left', and_assoc, zc_b, zc_0, zc_1, zc_10, zc_01, lg_cmp_ge, lg_cmp_le, lg_cmp_gt, lg_cmp_lt, lg_cmp_eq, zw_le, zw_lt, reduceIte, true_or, or_true, zw_g0, zw_l0, zw_g1, zw_l1, zw_g2, zw_l2, zw_g3, zw_l3, zw_g5, zw_l5, zw_g6, zw_l6, zw_g7, zw_l7, zw_g9, zw_l9, zw_g10, zw_l10, zw_g15, zw_l15, zw_g16, zw_l16, zw_g48, zw_l48, zw_g50, zw_l50, zw_g57, zw_l57, zw_g97, zw_l97, zw_g100, zw_l100, zw_g200, zw_l200, zw_g999, zw_l999, zw_g9999, zw_l9999]
    refine ⟨fun q => ?_, fun q => ⟨vSn V (zT V a t).2, a + t, rfl, (by omega : a + t < vn V), hX, ?_⟩⟩
    · have e : b + 1 - a = t := by omega
      have k2 := k.2 a b hab hb rfl rfl
      rw [e] at k2
      exact k2 h hX hf
    · dsimp only
      have e0 : vnow (vSn V (zT V a t).2) (a + t) = vnow V (a + t) := hr0
      rw [e0]
      have fin : ∀ (s : Nat × (Nat → Int32)) h1 s5, s = zT V a (t + 1) → XC (vSn V s.2) h1 → zq_fr [12] h0 h1 → (∀ i, a + (t + 1) ≤ i → s.2 i = vnow V i) → ∃ b9 : zq_H × zV × Nat × Nat × Nat, b9.2.2.2.1 + 1 - (b9.2.2.1 + b9.2.2.2.2) < b + 1 - (a + t) ∧ I_tb16 Q b9 [some (.ref 0), some (.int (nI a)), some (.int (nI b)), some (.int (nI s.1)), some (.int (nI (a + t) + 1)), s5] [] h1 := by
        intro s h1 s5 e x f r
        subst e
        exact ⟨(h0, V, a, b, t + 1), by dsimp only; omega, s5, by rw [nI_1]; rfl, rfl, f, ⟨hab, hb, by omega⟩, x, r, k⟩
      rw [zT_s] at fin
      refine ⟨fun q2 => ?_, fun q2 => ⟨fun q3 => ?_, fun q3 => ?_⟩⟩
      · rw [if_pos (Or.inl q2)] at fin
        exact fin _ _ _ rfl hX hf (fun i hi => hr i (by omega))
      · rw [if_pos (Or.inr q3)] at fin
        exact fin _ _ _ rfl hX hf (fun i hi => hr i (by omega))
      · rw [if_neg (fun z => z.elim q2 q3)] at fin
        refine ⟨Nat.le_of_ble_eq_true rfl, vSn V (zT V a t).2, a + t, 0, -1, rfl, (by omega : a + t < vn V), by omega, by decide, hX, fun h1 x1 f1 => ?_⟩
        dsimp only
        rw [nI_1]
        refine fin (_, _) h1 _ rfl x1 (zq_fr_t hf f1 (by decide)) (fun i hi => ?_)
        show zupd (zT V a t).2 (a + t) (-1) i = _
        unfold zupd
        rw [if_neg (by omega)]
        exact hr i (by omega)
def sp_feedMouse : zq_Sp := fun args h Q => ∃ V x, args = [.ref 0, .int x] ∧ XC V h ∧ zMo V x (zKx V h Q)
theorem ok_feedMouse : zq_M yX11_feedMouse cX11_feedMouse 2 (some .int) 1 2 sp_feedMouse := by
  refine mX11_feedMouse ok_isCellL (by decide) ok_holderL (by decide) ok_putL (by decide) (fun args h Q hs => ?_)
  obtain ⟨V, x, rfl, hX, k⟩ := hs
  have hn := hX.1.1
  refine ⟨Nat.le_of_ble_eq_true rfl, ?_⟩
  simp only [xX11_feedMouse_25, xX11_feedMouse_22, xX11_feedMouse_10, xX11_feedMouse_8, xX11_feedMouse_0, zi_push, zi_iload, zi_lload, zi_aload, zi_istore, zi_astore, zi_lstore, zi_iinc, zi_i2, zi_i1, zi_idv, zi_l2, zi_ldv, zi_lsh, zi_i2l, zi_l2i, zi_lcmp, zi_dup, zi_dup2, zi_pop, zi_if1, zi_if2, zi_getI, zi_getL, zi_getR, zi_putI, zi_putZ, zi_putL, zi_aldI, zi_aldL, zi_astI, zi_astZ, zi_astL, zi_alen, zi_iret, zi_zret, zi_lret, zi_vret, zi_callV, zi_callS, zi_sw, zi_copyI, zi_copyL, zi_m2, zi_m1, zi_sval, zi_scod, zi_fmt, zi_balen, zi_bald, zi_bret, zi_callT, zq_nth, zq_put1, zq_put2, zq_clr, zq_nl, zq_tk, zq_ps, zq_sw, zq_l0, zq_a, zq_a1, List.length_cons, List.length_nil, List.nil_append, List.cons_append, List.append_nil, List.replicate, Nat.reduceAdd, Nat.reduceSub, Nat.reduceLeDiff, true_and, and_true, List.append_eq, List.cons.injEq, Value.int.injEq, Value.long.injEq, Value.ref.injEq, exists_and_left, exists_eq_left', and_assoc, zc_b, zc_0, zc_1, zc_10, zc_01, lg_cmp_ge, lg_cmp_le, lg_cmp_gt, lg_cmp_lt, lg_cmp_eq, zw_le, zw_lt, reduceIte, true_or, or_true, zw_g0, zw_l0, zw_g1, zw_l1, zw_g2, zw_l2, zw_g3, zw_l3, zw_g5, zw_l5, zw_g6, zw_l6, zw_g7, zw_l7, zw_g9, zw_l9, zw_g10, zw_l10, zw_g15, zw_l15, zw_g16, zw_l16, zw_g48, zw_l48, zw_g50, zw_l50, zw_g57, zw_l57, zw_g97, zw_l97, zw_g100, zw_l100, zw_g200, zw_l200, zw_g999, zw_l999, zw_g9999, zw_l9999]
  refine ⟨V, x, rfl, hX, fun q => ?_, fun q => ?_⟩
  · dsimp only
    exact ⟨fun _ => k.1 q h hX zq_fr_rf, fun z => absurd rfl z⟩
  · obtain ⟨a, ha, rfl⟩ := zg_nat (by omega) q
    have k2 := k.2 a ha rfl
    dsimp only
    refine ⟨fun z => absurd z (by decide), fun _ => ⟨Nat.le_of_ble_eq_true rfl, V, a, rfl, ha, hX, ?_⟩⟩
    dsimp only
    refine ⟨fun q2 => ⟨Nat.le_of_ble_eq_true rfl, V, a, 10, 9, rfl, ha, by omega, by decide, hX, fun h1 x1 f1 => ?_⟩, fun q2 => k2.1 q2 h hX zq_fr_rf⟩
    dsimp only
    rw [nI_clamp (by omega), (x1.1.2.2 a ha).1]
    exact ⟨vp_in_nI (by omega) (by decide), k2.2 q2 h1 x1 f1⟩
