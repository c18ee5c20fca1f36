/-! ===== all values of a game at once ===== -/
abbrev zV : Type := (Nat × (Nat → Int32)) × (Nat × (Nat → Int32) × (Nat → Int32) × (Nat → Int32)) × (Nat × (Nat → Int32) × (Nat → Int32)) × (Nat × (Nat → zTk)) × ((Nat → Int32) × Nat × (Nat → Nat → Int32) × (Nat → Option (Nat → Int32))) × (Nat × (Nat → Int32) × (Nat → Int32)) × List Int64
def vs (V : zV) : Nat := V.1.1
def vsg (V : zV) : Nat → Int32 := V.1.2
def vn (V : zV) : Nat := V.2.1.1
def vcr (V : zV) : Nat → Int32 := V.2.1.2.1
def vra (V : zV) : Nat → Int32 := V.2.1.2.2.1
def vcu (V : zV) : Nat → Int32 := V.2.1.2.2.2
def vg (V : zV) : Nat := V.2.2.1.1
def vta (V : zV) : Nat → Int32 := V.2.2.1.2.1
def vde (V : zV) : Nat → Int32 := V.2.2.1.2.2
def vL (V : zV) : Nat := V.2.2.2.1.1
def vcd (V : zV) : Nat → zTk := V.2.2.2.1.2
def vnow (V : zV) : Nat → Int32 := V.2.2.2.2.1.1
def vk (V : zV) : Nat := V.2.2.2.2.1.2.1
def vund (V : zV) : Nat → Nat → Int32 := V.2.2.2.2.1.2.2.1
def vkept (V : zV) : Nat → Option (Nat → Int32) := V.2.2.2.2.1.2.2.2
def vm (V : zV) : Nat := V.2.2.2.2.2.1.1
def von (V : zV) : Nat → Int32 := V.2.2.2.2.2.1.2.1
def vot (V : zV) : Nat → Int32 := V.2.2.2.2.2.1.2.2
def vw (V : zV) : List Int64 := V.2.2.2.2.2.2
def vwt (V : zV) : Nat → Nat → Int32 := zwt (vn V) (vcr V) (vra V) (vcu V) (vta V) (vL V) (vcd V)
/-- with whom a cell may be: the board, the mouse, one of g guests -/
def zho (g : Nat) (x : Int32) : Prop := x = -1 ∨ x = 9 ∨ ∃ j, j < g ∧ x = nI j
def ZV (V : zV) : Prop := ((∀ i, i < vn V → vcu V i = 0 ∨ vcu V i = 1) ∧ (∀ i, i < vn V → ∃ a b, vcr V i = nI a ∧ 1 ≤ a ∧ a ≤ 9 ∧ vra V i = nI b ∧ b ≤ 9)) ∧ ((∀ i, i < 3 * vg V → ∃ a, vta V i = nI a ∧ a ≤ 9) ∧ (∀ i, i < vg V → ∃ a, vde V i = nI a ∧ a ≤ 999)) ∧ ZC (vL V) (vcd V) ∧ (∀ i, i < vn V → zho (vg V) (vnow V i)) ∧ (∀ j, j < vk V → ∀ i, i < vn V → zho (vg V) (vund V j i)) ∧ (∀ j f, j < 3 → vkept V j = some f → ∀ i, i < vn V → zho (vg V) (f i)) ∧ ∀ i, i < vm V → ∃ a b, a < vn V ∧ b < vn V ∧ von V i = nI a ∧ vot V i = nI b
def XC (V : zV) (h : zq_H) : Prop := XL (vn V) (vcr V) (vra V) (vcu V) h ∧ XG (vg V) (vta V) (vde V) h ∧ XP (vL V) (vcd V) h ∧ XB (vn V) (vnow V) (vk V) (vund V) (vkept V) h ∧ XK (vm V) (von V) (vot V) h ∧ XW (vn V) (vg V) (vwt V) h ∧ XW0 h
def MC (b : Nat) (V : zV) (h : zq_H) : Prop := ML (vn V) (vcr V) (vra V) (vcu V) h ∧ MG (vg V) (vta V) (vde V) h ∧ MP (vL V) (vcd V) h ∧ MB b (vn V) (vnow V) (vk V) (vund V) (vkept V) h ∧ MK (vm V) (von V) (vot V) h
def MD (b : Nat) (V : zV) (h : zq_H) : Prop := MC b V h ∧ MW (vn V) (vg V) (vwt V) h
def zxc : List Nat := [5, 6, 7, 9, 10, 11, 12, 13, 14, 15, 16, 17, 40, 41, 42, 43, 48, 49]
def zmp : List Nat := [58, 59, 60, 61, 62, 63, 70, 76, 91, 92, 99, 100, 101]
def zmf : List Nat := [3, 4, 5, 25, 31, 53]
theorem znd {ps qs : List Nat} (d : ∀ p ∈ ps, p ∉ qs) {p : Nat} (hp : p ∈ qs) : p ∉ ps := fun q => d p q hp
theorem XW_fr {n g : Nat} {wt : Nat → Nat → Int32} {ps : List Nat} {h h' : zq_H} (k : XW n g wt h) (f : zq_fr ps h h') (d : 9 ∉ ps ∧ 10 ∉ ps ∧ 11 ∉ ps) : XW n g wt h' := by
  unfold XW at *
  rw [(f 9 d.1).1, (f 10 d.2.1).1, (f 11 d.2.2).1]
  exact k
theorem XW0_fr {ps : List Nat} {h h' : zq_H} (k : XW0 h) (f : zq_fr ps h h') (d : 11 ∉ ps) : XW0 h' := by
  unfold XW0 at *
  rw [(f 11 d).1]
  exact k
theorem XC_fr {V : zV} {ps : List Nat} {h h' : zq_H} (k : XC V h) (f : zq_fr ps h h') (d : ∀ p ∈ ps, p ∉ zxc) : XC V h' := by
  have e : ∀ p, p ∈ zxc → p ∉ ps := fun p hp => znd d hp
  obtain ⟨k1, k2, k3, k4, k5, k6, k7⟩ := k
  exact ⟨XL_fr k1 f ⟨e _ (by decide), e _ (by decide), e _ (by decide), e _ (by decide)⟩, XG_fr k2 f ⟨e _ (by decide), e _ (by decide), e _ (by decide)⟩, XP_fr k3 f ⟨e _ (by decide), e _ (by decide)⟩, XB_fr k4 f ⟨e _ (by decide), e _ (by decide), e _ (by decide)⟩, XK_fr k5 f ⟨e _ (by decide), e _ (by decide), e _ (by decide)⟩, XW_fr k6 f ⟨e _ (by decide), e _ (by decide), e _ (by decide)⟩, XW0_fr k7 f (e _ (by decide))⟩
theorem MC_fm {b : Nat} {V : zV} {fs ps : List Nat} {h h' : zq_H} (k : MC b V h) (f : zq_fm fs ps h h') (d : (∀ j ∈ fs, j ∉ zmf) ∧ ∀ p ∈ ps, p ∉ zmp) : MC b V h' := by
  have e : ∀ p, p ∈ zmp → p ∉ ps := fun p hp => znd d.2 hp
  have e2 : ∀ p, p ∈ zmf → p ∉ fs := fun p hp => znd d.1 hp
  obtain ⟨k1, k2, k3, k4, k5⟩ := k
  exact ⟨ML_fm k1 f ⟨e2 _ (by decide), e _ (by decide), e _ (by decide), e _ (by decide)⟩, MG_fm k2 f ⟨e2 _ (by decide), e _ (by decide), e _ (by decide)⟩, MP_fm k3 f ⟨e2 _ (by decide), e _ (by decide)⟩, MB_fm k4 f ⟨⟨e2 _ (by decide), e2 _ (by decide)⟩, e _ (by decide), e _ (by decide), e _ (by decide), e _ (by decide), e _ (by decide)⟩, MK_fm k5 f ⟨e2 _ (by decide), e _ (by decide), e _ (by decide)⟩⟩
theorem MW_fm {n g : Nat} {wt : Nat → Nat → Int32} {fs ps : List Nat} {h h' : zq_H} (k : MW n g wt h) (f : zq_fm fs ps h h') (d : 74 ∉ ps ∧ 75 ∉ ps) : MW n g wt h' := by
  unfold MW at *
  rw [(f.1 74 (by decide) d.1).1, (f.1 75 (by decide) d.2).1]
  exact k
theorem MD_fm {b : Nat} {V : zV} {fs ps : List Nat} {h h' : zq_H} (k : MD b V h) (f : zq_fm fs ps h h') (d : (∀ j ∈ fs, j ∉ zmf) ∧ ∀ p ∈ ps, p ∉ 74 :: 75 :: zmp) : MD b V h' :=
  ⟨MC_fm k.1 f ⟨d.1, fun p hp q => d.2 p hp (List.mem_cons_of_mem _ (List.mem_cons_of_mem _ q))⟩, MW_fm k.2 f ⟨znd d.2 (by decide), znd d.2 (by decide)⟩⟩
/-- a frame of places, as one of fields and places -/
theorem zq_fm_of {fs ps : List Nat} {h h' : zq_H} (f : zq_fr ps h h') (d : 56 ∉ ps) : zq_fm fs ps h h' := ⟨fun p _ hp => f p hp, fun j _ => by rw [(f 56 d).1, (f 56 d).2]; exact ⟨rfl, rfl⟩⟩
/-! worths as natural numbers -/
def vwN (V : zV) (j c : Nat) : Nat := (vwt V j c).toNatClampNeg
theorem zval_rng (as : Nat → Int32) (cd : Nat → zTk) (L : Nat) : 0 ≤ zval as cd L ∧ zval as cd L ≤ 999 := by
  unfold zval
  generalize (if L = 0 then as 0 * as 3 + as 1 * as 4 + as 2 * as 5 else (zst as cd L).2 0) = x
  unfold zf_max zf_min
  grind
theorem vwt_rng (V : zV) (j c : Nat) : 0 ≤ vwt V j c ∧ vwt V j c ≤ 999 := zval_rng _ _ _
theorem vwN_eq (V : zV) (j c : Nat) : vwt V j c = nI (vwN V j c) ∧ vwN V j c ≤ 999 := by
  obtain ⟨h1, h2⟩ := vwt_rng V j c
  have h3 : vwt V j c < nI 1000 := by
    have : (999 : Int32) < nI 1000 := by decide
    exact Int32.lt_of_le_of_lt h2 this
  obtain ⟨k, hk, e⟩ := zg_nat (g := 1000) (by decide) ⟨h1, h3⟩
  unfold vwN
  rw [e, nI_clamp (by omega)]
  exact ⟨rfl, by omega⟩
def nsum (f : Nat → Nat) : Nat → Nat
  | 0 => 0
  | n + 1 => nsum f n + f n
theorem zsum_nsum {f : Nat → Int32} {g : Nat → Nat} : ∀ n, (∀ k, k < n → f k = nI (g k)) → zsum f n = nI (nsum g n)
  | 0, _ => nI_0.symm
  | n + 1, h => by rw [zsum, nsum, zsum_nsum n (fun k hk => h k (by omega)), h n (by omega), nI_add]
theorem nsum_le {g : Nat → Nat} {b : Nat} : ∀ n, (∀ k, k < n → g k ≤ b) → nsum g n ≤ b * n
  | 0, _ => by simp [nsum]
  | n + 1, h => by
    have h1 := nsum_le n (fun k hk => h k (by omega))
    have h2 := h n (by omega)
    rw [nsum, Nat.mul_add]
    omega
theorem nsum_mono {g : Nat → Nat} {a b : Nat} (h : a ≤ b) : nsum g a ≤ nsum g b := by
  induction b with
  | zero => rw [show a = 0 by omega]; exact Nat.le_refl _
  | succ b ih =>
    rcases Nat.lt_or_ge a (b + 1) with q | q
    · exact Nat.le_trans (ih (by omega)) (Nat.le_add_right _ _)
    · rw [show a = b + 1 by omega]
      exact Nat.le_refl _
theorem nI_sub {a b : Nat} (h : b ≤ a) : nI a - nI b = nI (a - b) := by
  have e := @zsubk b (a - b)
  rw [show b + (a - b) = a by omega] at e
  exact e
/-- what the first c cells are worth to j -/
def vS (V : zV) (j c : Nat) : Nat := nsum (vwN V j) c
theorem vS_eq (V : zV) (j c : Nat) : zsum (vwt V j) c = nI (vS V j c) := zsum_nsum c (fun k _ => (vwN_eq V j k).1)
theorem vS_le (V : zV) (j c : Nat) : vS V j c ≤ 999 * c := nsum_le c (fun k _ => (vwN_eq V j k).2)
theorem vS_mono {V : zV} {j a b : Nat} (h : a ≤ b) : vS V j a ≤ vS V j b := nsum_mono h
/-- what the cells with v are worth to j -/
def vH (V : zV) (j : Nat) (v : Int32) : Nat := nsum (fun i => if vnow V i = v then vwN V j i else 0) (vn V)
theorem vH_eq (V : zV) (j : Nat) (v : Int32) : zheld (vnow V) (vwt V j) v (vn V) = nI (vH V j v) := by
  refine zsum_nsum _ (fun k _ => ?_)
  split
  · exact (vwN_eq V j k).1
  · exact nI_0.symm
theorem vH_le (V : zV) (j : Nat) (v : Int32) : vH V j v ≤ 999 * vn V := by
  refine nsum_le _ (fun k _ => ?_)
  split
  · exact (vwN_eq V j k).2
  · exact Nat.zero_le _
/-! the contracts that stand, at these values -/
def sp_isGuestV (V : zV) : zq_Sp := fun args h Q => ∃ v, args = [.ref 0, .int v] ∧ XC V h ∧ Q (some (.int (if 0 ≤ v ∧ v < nI (vg V) then 1 else 0))) h
theorem ok_isGuestV (V : zV) : zq_M yX11_isGuest cX11_isGuest 2 (some .boolean) 1 0 (sp_isGuestV V) := zq_M_w ok_isGuest (fun args h Q ⟨v, e, hX, k⟩ => ⟨v, e, by rw [hX.2.1.2.1]; exact k⟩)
def sp_isCellV (V : zV) : zq_Sp := fun args h Q => ∃ v, args = [.ref 0, .int v] ∧ XC V h ∧ Q (some (.int (if 0 ≤ v ∧ v < nI (vn V) then 1 else 0))) h
theorem ok_isCellV (V : zV) : zq_M yX11_isCell cX11_isCell 2 (some .boolean) 1 0 (sp_isCellV V) := zq_M_w ok_isCell (fun args h Q ⟨v, e, hX, k⟩ => ⟨v, e, by rw [hX.1.2.1]; exact k⟩)
def sp_heldV (V : zV) : zq_Sp := fun args h Q => ∃ j v, args = [.ref 0, .int (nI j), .int v] ∧ j < vg V ∧ XC V h ∧ Q (some (.int (nI (vH V j v)))) h
theorem ok_heldV (V : zV) : zq_M yX11_worthHeld cX11_worthHeld 5 (some .int) 1 1 (sp_heldV V) := zq_M_w ok_worthHeld (fun args h Q ⟨j, v, e, hj, hX, k⟩ => ⟨j, v, vn V, vcr V, vra V, vcu V, vg V, vwt V, vnow V, vk V, vund V, vkept V, e, hj, hX.1, hX.2.2.2.1, hX.2.2.2.2.2.1, by rw [vH_eq]; exact k⟩)
def sp_wholeV (V : zV) : zq_Sp := fun args h Q => ∃ j, args = [.ref 9, .int (nI j)] ∧ j < vg V ∧ XC V h ∧ Q (some (.int (nI (vS V j (vn V))))) h
theorem ok_wholeV (V : zV) : zq_M yX10_whole cX10_whole 2 (some .int) 1 1 (sp_wholeV V) := zq_M_w ok_wWholeL (fun args h Q ⟨j, e, hj, hX, k⟩ => ⟨j, vn V, vg V, vwt V, e, hj, hX.2.2.2.2.2.1, by rw [vS_eq]; exact k⟩)
def sp_ofV (V : zV) : zq_Sp := fun args h Q => ∃ j c, args = [.ref 9, .int (nI j), .int (nI c)] ∧ j < vg V ∧ c < vn V ∧ XC V h ∧ Q (some (.int (nI (vwN V j c)))) h
theorem ok_ofV (V : zV) : zq_M yX10_of cX10_of 3 (some .int) 1 0 (sp_ofV V) := by
  refine zq_M_w ok_wOf (fun args h Q ⟨j, c, e, hj, hc, hX, k⟩ => ⟨nI j, nI c, e, ?_, ?_⟩)
  · have := hX.1.1
    have := hX.2.1.1
    rw [z16a]
    exact vp_in_nI (by omega) (by decide)
  · have := hX.1.1
    have := hX.2.1.1
    unfold zA
    rw [z16a, nI_clamp (by omega), (hX.2.2.2.2.2.1.2 j hj).1 c hc, (vwN_eq V j c).1]
    exact k
def sp_btwV (V : zV) : zq_Sp := fun args h Q => ∃ j a b, args = [.ref 9, .int (nI j), .int (nI a), .int (nI b)] ∧ j < vg V ∧ a ≤ b ∧ b ≤ vn V ∧ XC V h ∧ Q (some (.int (nI (vS V j b - vS V j a)))) h
theorem z17c (k t : Nat) : nI k * 17 + nI t = nI (17 * k + t) := by
  rw [show (17 : Int32) = nI 17 from rfl, pk_mul, nI_add, Nat.mul_comm]
theorem ok_btwV (V : zV) : zq_M yX10_between cX10_between 4 (some .int) 1 0 (sp_btwV V) := by
  refine zq_M_w ok_between (fun args h Q ⟨j, a, b, e, hj, hab, hb, hX, k⟩ => ⟨nI j, nI a, nI b, e, ?_, ?_, ?_⟩)
  · have := hX.1.1
    have := hX.2.1.1
    rw [z17c]
    exact vp_in_nI (by omega) (by decide)
  · have := hX.1.1
    have := hX.2.1.1
    rw [z17c]
    exact vp_in_nI (by omega) (by decide)
  · have := hX.1.1
    have := hX.2.1.1
    unfold zA
    rw [z17c, z17c, nI_clamp (by omega), nI_clamp (by omega), (hX.2.2.2.2.2.1.2 j hj).2 a (by omega), (hX.2.2.2.2.2.1.2 j hj).2 b hb, vS_eq, vS_eq, nI_sub (vS_mono hab)]
    exact k
def vdN (V : zV) (j : Nat) : Nat := (vde V j).toNatClampNeg
theorem vdN_eq {V : zV} (hV : ZV V) {j : Nat} (hj : j < vg V) : vde V j = nI (vdN V j) ∧ vdN V j ≤ 999 := by
  obtain ⟨a, e, ha⟩ := hV.2.1.2 j hj
  unfold vdN
  rw [e, nI_clamp (by omega)]
  exact ⟨rfl, ha⟩
def vA (V : zV) : Nat := nsum (vdN V) (vg V)
theorem vA_eq {V : zV} (hV : ZV V) : zsum (vde V) (vg V) = nI (vA V) := zsum_nsum _ (fun k hk => (vdN_eq hV hk).1)
theorem vA_le {V : zV} (hV : ZV V) : vA V ≤ 999 * vg V := nsum_le _ (fun k hk => (vdN_eq hV hk).2)
/-- v is less than p in 100 of what is due to j -/
abbrev zdw (V : zV) (j v p : Nat) : Prop := v * vA V * 100 < vdN V j * vS V j (vn V) * p
theorem zm3 {a b c A B C : Nat} (ha : a ≤ A) (hb : b ≤ B) (hc : c ≤ C) : a * b * c ≤ A * B * C := Nat.mul_le_mul (Nat.mul_le_mul ha hb) hc
theorem zdue_n {V : zV} (hV : ZV V) {j v : Nat} (hj : j < vg V) (hn : vn V ≤ 16) (hg : vg V ≤ 6) (hv : v ≤ 15984) : zdue (nI v) (zsum (vde V) (vg V)) (vde V j) (nI (vS V j (vn V))) ↔ zdw V j v 100 := by
  have h1 := vA_le hV
  have h2 := vS_le V j (vn V)
  obtain ⟨e, h3⟩ := vdN_eq hV hj
  have b1 : v * vA V * 1 ≤ 15984 * 5994 * 1 := zm3 hv (by omega) (Nat.le_refl _)
  have b2 : vdN V j * vS V j (vn V) * 1 ≤ 999 * 15984 * 1 := zm3 h3 (by omega) (Nat.le_refl _)
  unfold zdue zdw
  rw [vA_eq hV, e, nI_l (by omega), nI_l (by omega), nI_l (by omega), nI_l (by omega), lN_mul, lN_mul, pk_lLT (by omega) (by omega)]
  generalize v * vA V = x
  generalize vdN V j * vS V j (vn V) = y
  omega
theorem zdueM_n {V : zV} (hV : ZV V) {j v p : Nat} (hj : j < vg V) (hn : vn V ≤ 16) (hg : vg V ≤ 6) (hv : v ≤ 15984) (hp : p ≤ 1000) : zdueM (lN v) (nI p) (zsum (vde V) (vg V)) (vde V j) (nI (vS V j (vn V))) ↔ zdw V j v p := by
  have h1 := vA_le hV
  have h2 := vS_le V j (vn V)
  obtain ⟨e, h3⟩ := vdN_eq hV hj
  have b1 : v * vA V * 100 ≤ 15984 * 5994 * 100 := zm3 hv (by omega) (Nat.le_refl _)
  have b2 : vdN V j * vS V j (vn V) * p ≤ 999 * 15984 * 1000 := zm3 h3 (by omega) hp
  unfold zdueM zdw
  rw [vA_eq hV, e, nI_l (by omega), nI_l (by omega), nI_l (by omega), nI_l (by omega), show (100 : Int64) = lN 100 from rfl, lN_mul, lN_mul, lN_mul, lN_mul, pk_lLT (by omega) (by omega)]
def sp_hasDueV (V : zV) : zq_Sp := fun args h Q => ∃ j, args = [.ref 0, .int (nI j)] ∧ j < vg V ∧ ZV V ∧ XC V h ∧ (zdw V j (vH V j (nI j)) 100 → Q (some (.int 0)) h) ∧ (¬ zdw V j (vH V j (nI j)) 100 → Q (some (.int 1)) h)
theorem ok_hasDueV (V : zV) : zq_M yX11_hasDue cX11_hasDue 4 (some .boolean) 1 2 (sp_hasDueV V) := zq_M_w ok_hasDue (fun args h Q ⟨j, e, hj, hV, hX, k1, k2⟩ => by
  have hn := hX.1.1
  have hg := hX.2.1.1
  have hv := vH_le V j (nI j)
  have z := zdue_n (v := vH V j (nI j)) hV hj hn hg (by omega)
  refine ⟨j, vn V, vcr V, vra V, vcu V, vg V, vta V, vde V, vwt V, vnow V, vk V, vund V, vkept V, e, hj, hX.1, hX.2.1, hX.2.2.2.1, hX.2.2.2.2.2.1, ?_, ?_⟩
  · rw [vH_eq, vS_eq, z]
    exact k1
  · rw [vH_eq, vS_eq, z]
    exact k2)
def sp_allV (V : zV) : zq_Sp := fun args h Q => args = [.ref 5] ∧ XC V h ∧ Q (some (.int (zsum (vde V) (vg V)))) h
theorem ok_allV (V : zV) : zq_M yX3_allDeserts cX3_allDeserts 1 (some .int) 1 1 (sp_allV V) := zq_M_w ok_allDeserts (fun args h Q ⟨e, hX, k⟩ => ⟨vg V, vta V, vde V, e, hX.2.1, k⟩)
def sp_cellsWithV (V : zV) : zq_Sp := fun args h Q => ∃ v, args = [.ref 0, .int v] ∧ XC V h ∧ Q (some (.int (zcnt (vnow V) v (vn V)))) h
theorem ok_cellsWithV (V : zV) : zq_M yX11_cellsWith cX11_cellsWith 4 (some .int) 1 1 (sp_cellsWithV V) := zq_M_w ok_cellsWith (fun args h Q ⟨v, e, hX, k⟩ => ⟨v, vn V, vcr V, vra V, vcu V, vnow V, vk V, vund V, vkept V, e, hX.1, hX.2.2.2.1, k⟩)
def sp_holderV (V : zV) : zq_Sp := fun args h Q => ∃ c, args = [.ref 12, .int (nI c)] ∧ c < vn V ∧ XC V h ∧ Q (some (.int (vnow V c))) h
theorem ok_holderV (V : zV) : zq_M yX0_holderOf cX0_holderOf 2 (some .int) 1 0 (sp_holderV V) := zq_M_w ok_holderOf (fun args h Q ⟨c, e, hc, hX, k⟩ => ⟨c, e, by rw [hX.2.2.2.1.2.1 c hc]; exact k⟩)
/-! of the reference -/
def sp_mIsGuestV (b : Nat) (V : zV) : zq_Sp := fun args h Q => ∃ v, args = [.ref 56, .int v] ∧ MC b V h ∧ Q (some (.int (if 0 ≤ v ∧ v < nI (vg V) then 1 else 0))) h
theorem ok_mIsGuestV (b : Nat) (V : zV) : zq_M yX12_isGuest cX12_isGuest 2 (some .boolean) 1 1 (sp_mIsGuestV b V) := zq_M_w ok_mIsGuest (fun args h Q ⟨v, e, hX, k⟩ => ⟨v, e, by rw [hX.2.1.2.1]; exact nI_pos' (by have := hX.2.1.1; omega), by rw [hX.2.1.2.1]; exact k⟩)
def sp_mIsCellV (b : Nat) (V : zV) : zq_Sp := fun args h Q => ∃ v, args = [.ref 56, .int v] ∧ MC b V h ∧ Q (some (.int (if 0 ≤ v ∧ v < nI (vn V) then 1 else 0))) h
theorem ok_mIsCellV (b : Nat) (V : zV) : zq_M yX12_isCell cX12_isCell 2 (some .boolean) 1 1 (sp_mIsCellV b V) := zq_M_w ok_mIsCell (fun args h Q ⟨v, e, hX, k⟩ => ⟨v, e, by rw [hX.1.2.1]; exact nI_pos' (by have := hX.1.1; omega), by rw [hX.1.2.1]; exact k⟩)
def sp_mHeldV (b : Nat) (V : zV) : zq_Sp := fun args h Q => ∃ j v, args = [.ref 56, .int (nI j), .int v] ∧ j < vg V ∧ MD b V h ∧ Q (some (.int (nI (vH V j v)))) h
theorem ok_mHeldV (b : Nat) (V : zV) : zq_M yX12_held cX12_held 5 (some .int) 1 0 (sp_mHeldV b V) := zq_M_w ok_held (fun args h Q ⟨j, v, e, hj, hX, k⟩ => ⟨j, v, b, vn V, vcr V, vra V, vcu V, vg V, vwt V, vnow V, vk V, vund V, vkept V, e, hj, hX.1.1, hX.1.2.2.2.1, hX.2, by rw [vH_eq]; exact k⟩)
def sp_mAllV (b : Nat) (V : zV) : zq_Sp := fun args h Q => args = [.ref 56] ∧ MC b V h ∧ Q (some (.int (zsum (vde V) (vg V)))) h
theorem ok_mAllV (b : Nat) (V : zV) : zq_M yX12_allDeserts cX12_allDeserts 3 (some .int) 1 0 (sp_mAllV b V) := zq_M_w ok_mAllDeserts (fun args h Q ⟨e, hX, k⟩ => ⟨vg V, vta V, vde V, e, hX.2.1, k⟩)
def sp_mHoldsV (b : Nat) (V : zV) : zq_Sp := fun args h Q => ∃ v, args = [.ref 56, .int v] ∧ MC b V h ∧ Q (some (.int (zcnt (vnow V) v (vn V)))) h
theorem ok_mHoldsV (b : Nat) (V : zV) : zq_M yX12_holds cX12_holds 4 (some .int) 1 1 (sp_mHoldsV b V) := zq_M_w ok_holds (fun args h Q ⟨v, e, hX, k⟩ => ⟨v, b, vn V, vcr V, vra V, vcu V, vnow V, vk V, vund V, vkept V, e, hX.1, hX.2.2.2.1, k⟩)
def sp_mIsDueV (b : Nat) (V : zV) : zq_Sp := fun args h Q => ∃ j v p, args = [.ref 56, .int (nI j), .long (lN v), .int (nI p)] ∧ j < vg V ∧ v ≤ 15984 ∧ p ≤ 1000 ∧ ZV V ∧ MD b V h ∧ (zdw V j v p → Q (some (.int 0)) h) ∧ (¬ zdw V j v p → Q (some (.int 1)) h)
theorem ok_mIsDueV (b : Nat) (V : zV) : zq_M yX12_isDue cX12_isDue 5 (some .boolean) 1 1 (sp_mIsDueV b V) := zq_M_w ok_isDue (fun args h Q ⟨j, v, p, e, hj, hv, hp, hV, hX, k1, k2⟩ => by
  have hn := hX.1.1.1
  have hg := hX.1.2.1.1
  have z := zdueM_n (v := v) (p := p) hV hj hn hg hv hp
  refine ⟨j, lN v, nI p, vn V, vg V, vta V, vde V, vwt V, e, hj, hX.1.2.1, hX.2, ?_, ?_⟩
  · rw [vS_eq, z]
    exact k1
  · rw [vS_eq, z]
    exact k2)
def sp_laysV (b : Nat) (V : zV) : zq_Sp := fun args h Q => args = [.ref 56] ∧ ZV V ∧ MC b V h ∧ ∀ h', MD b V h' → zq_fm [] [72, 73, 74, 75] h h' → Q none h'
theorem ok_laysV (b : Nat) (V : zV) : zq_M yX12_laysTable cX12_laysTable 3 none 0 5 (sp_laysV b V) := zq_M_w ok_lays (fun args h Q ⟨e, hV, hX, k⟩ => ⟨vn V, vg V, vcr V, vra V, vcu V, vta V, vde V, vL V, vcd V, e, hV.1.1, hX.1, hX.2.1, hV.2.2.1, hX.2.2.1, fun h' w f => k h' ⟨MC_fm hX (zq_fm_of (fs := []) f (by decide)) (by decide), w⟩ (zq_fm_of f (by decide))⟩)
def sp_mWorthOfV (b : Nat) (V : zV) : zq_Sp := fun args h Q => ∃ j c, args = [.ref 56, .int (nI j), .int (nI c)] ∧ j < vg V ∧ c < vn V ∧ ZV V ∧ MC b V h ∧ ∀ h', MC b V h' → zq_fm [] [72, 73] h h' → Q (some (.int (nI (vwN V j c)))) h'
theorem ok_mWorthOfV (b : Nat) (V : zV) : zq_M yX12_worthOf cX12_worthOf 3 (some .int) 1 4 (sp_mWorthOfV b V) := zq_M_w ok_mWorthOf (fun args h Q ⟨j, c, e, hj, hc, hV, hX, k⟩ => ⟨j, c, vn V, vg V, vcr V, vra V, vcu V, vta V, vde V, vL V, vcd V, e, hj, hc, hV.1.1, hX.1, hX.2.1, hV.2.2.1, hX.2.2.1, fun h' f => by
  have e2 : zwt (vn V) (vcr V) (vra V) (vcu V) (vta V) (vL V) (vcd V) j c = nI (vwN V j c) := (vwN_eq V j c).1
  rw [e2]
  exact k h' (MC_fm hX (zq_fm_of (fs := []) f (by decide)) (by decide)) (zq_fm_of f (by decide))⟩)
/-! a fold over 0 .. n - 1 -/
def zfold {α : Type} (f : Nat → α → α) : Nat → α → α
  | 0, a => a
  | n + 1, a => f n (zfold f n a)
theorem zfold_cong {α : Type} {f g : Nat → α → α} {a : α} : ∀ n, (∀ k, k < n → ∀ x, f k x = g k x) → zfold f n a = zfold g n a
  | 0, _ => rfl
  | n + 1, h => by rw [zfold, zfold, zfold_cong n (fun k hk => h k (by omega)), h n (by omega)]
