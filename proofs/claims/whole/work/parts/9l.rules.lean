/-! ===== THE RULE told by THE TEXT: a descent (the reference) and a machine (the class) ===== -/
abbrev zDR : Type := Bool × Nat × List zTk
def tkL : zTk := .inr (.inr (.inr ()))
abbrev tkT (k : Nat) : zTk := .inr (.inl k)
abbrev tkA (k : Nat) : zTk := .inr (.inr (.inl k))
def zDand (x : zDR) (k : Nat → List zTk → zDR) : zDR := if x.1 = true then k x.2.1 x.2.2 else x
def zDneg (x : zDR) : zDR := (x.1, x.2.1, x.2.2 ++ [tkL])
def zDcat (t : List zTk) (x : zDR) : zDR := (x.1, x.2.1, t ++ x.2.2)
def zofA (m : Nat) : Nat := if m = 4 then 0 else if m = 5 then 3 else 5
def zDs (s : Nat → Int32) (e : Nat) : Nat → Nat → Nat → Nat → zDR
  | 0, _, _, p => (false, p, [])
  | f + 1, m, d, p =>
    if m = 3 then
      if p < e ∧ s p = 45 then zDneg (zDs s e f 3 d (p + 1))
      else if zisd s e p then (true, p + zln s e p 3, [.inl (znv s p (zln s e p 3))])
      else if ziso s e p 3 then (true, p + 1, [tkT (zix (zsb 3) (s p))])
      else if d < 4 ∧ p < e ∧ s p = 40 then zDand (zDs s e f 0 (d + 1) (p + 1)) (fun q t => if q < e ∧ s q = 41 then (true, q + 1, t) else (false, q, t))
      else (false, p, [])
    else if m < 3 then zDand (zDs s e f (m + 1) d p) (fun q t => zDcat t (zDs s e f (m + 4) d q))
    else if ziso s e p m then zDand (zDs s e f (m - 3) d (p + 1)) (fun q t => if m = 4 then (true, q, t ++ [tkA (zix (zsb m) (s p) + zofA m)]) else zDcat (t ++ [tkA (zix (zsb m) (s p) + zofA m)]) (zDs s e f m d q))
    else (true, p, [])
theorem zDs_3 (s : Nat → Int32) (e f d p : Nat) : zDs s e (f + 1) 3 d p = (if p < e ∧ s p = 45 then zDneg (zDs s e f 3 d (p + 1))
      else if zisd s e p then (true, p + zln s e p 3, [.inl (znv s p (zln s e p 3))])
      else if ziso s e p 3 then (true, p + 1, [tkT (zix (zsb 3) (s p))])
      else if d < 4 ∧ p < e ∧ s p = 40 then zDand (zDs s e f 0 (d + 1) (p + 1)) (fun q t => if q < e ∧ s q = 41 then (true, q + 1, t) else (false, q, t))
      else (false, p, [])) := by
  rw [zDs, if_pos rfl]
theorem zDs_m (s : Nat → Int32) (e f m d p : Nat) (h : m < 3) : zDs s e (f + 1) m d p = zDand (zDs s e f (m + 1) d p) (fun q t => zDcat t (zDs s e f (m + 4) d q)) := by
  rw [zDs, if_neg (by omega), if_pos h]
theorem zDs_l (s : Nat → Int32) (e f r d p : Nat) : zDs s e (f + 1) (r + 4) d p = if ziso s e p (r + 4) then zDand (zDs s e f (r + 1) d (p + 1)) (fun q t => if r + 4 = 4 then (true, q, t ++ [tkA (zix (zsb (r + 4)) (s p) + zofA (r + 4))]) else zDcat (t ++ [tkA (zix (zsb (r + 4)) (s p) + zofA (r + 4))]) (zDs s e f (r + 4) d q)) else (true, p, []) := by
  rw [zDs, if_neg (by omega), if_neg (by omega), show r + 4 - 3 = r + 1 by omega]
/-! signs that act -/
def zacS (c : Int32) : Nat := if (60 : Int32) = c then 0 else if (62 : Int32) = c then 1 else if (61 : Int32) = c then 2 else if (43 : Int32) = c then 3 else if (45 : Int32) = c then 4 else if (42 : Int32) = c then 5 else if (47 : Int32) = c then 6 else 7
def zrk (k : Nat) : Nat := if k < 3 then 0 else if k < 5 then 1 else 2
def zstk : zTk → Nat
  | .inl _ => 0
  | .inr (.inl _) => 0
  | .inr (.inr (.inl k)) => zrk k + 1
  | .inr (.inr (.inr ())) => 4
theorem zrk_le (k : Nat) : zrk k ≤ 2 := by
  unfold zrk
  split
  · omega
  · split <;> omega
theorem zacS_le (c : Int32) : zacS c ≤ 7 := by
  unfold zacS
  repeat' split
  all_goals omega
theorem zacS_m (c : Int32) : ((zix (zsb 4) c < 3 ↔ zacS c < 3) ∧ (zix (zsb 4) c < 3 → zix (zsb 4) c + 0 = zacS c)) ∧ ((zix (zsb 5) c < 2 ↔ 3 ≤ zacS c ∧ zacS c < 5) ∧ (zix (zsb 5) c < 2 → zix (zsb 5) c + 3 = zacS c)) ∧ ((zix (zsb 6) c < 2 ↔ 5 ≤ zacS c ∧ zacS c < 7) ∧ (zix (zsb 6) c < 2 → zix (zsb 6) c + 5 = zacS c)) := by
  by_cases c1 : (60 : Int32) = c
  · subst c1; decide
  by_cases c2 : (62 : Int32) = c
  · subst c2; decide
  by_cases c3 : (61 : Int32) = c
  · subst c3; decide
  by_cases c4 : (43 : Int32) = c
  · subst c4; decide
  by_cases c5 : (45 : Int32) = c
  · subst c5; decide
  by_cases c6 : (42 : Int32) = c
  · subst c6; decide
  by_cases c7 : (47 : Int32) = c
  · subst c7; decide
  have e4 : zsb 4 = [60, 62, 61] := rfl
  have e5 : zsb 5 = [43, 45] := rfl
  have e6 : zsb 6 = [42, 47] := rfl
  have ea : zacS c = 7 := by
    unfold zacS
    rw [if_neg c1, if_neg c2, if_neg c3, if_neg c4, if_neg c5, if_neg c6, if_neg c7]
  rw [ea, e4, e5, e6]
  simp only [zix, if_neg c1, if_neg c2, if_neg c3, if_neg c4, if_neg c5, if_neg c6, if_neg c7]
  decide
theorem ziso_ac {s : Nat → Int32} {e p r : Nat} (hr : r ≤ 2) : (ziso s e p (r + 4) ↔ p < e ∧ zacS (s p) < 7 ∧ zrk (zacS (s p)) = r) ∧ (ziso s e p (r + 4) → zix (zsb (r + 4)) (s p) + zofA (r + 4) = zacS (s p)) := by
  obtain ⟨⟨a1, a2⟩, ⟨b1, b2⟩, c1, c2⟩ := zacS_m (s p)
  have h : r = 0 ∨ r = 1 ∨ r = 2 := by omega
  unfold zrk
  rcases h with rfl | rfl | rfl
  · refine ⟨⟨fun q => ⟨q.1, ?_, ?_⟩, fun q => ⟨q.1, a1.mpr ?_⟩⟩, fun q => a2 q.2⟩
    · have := a1.mp q.2
      omega
    · rw [if_pos (a1.mp q.2)]
    · have h1 := q.2.2
      split at h1
      · assumption
      · split at h1 <;> omega
  · refine ⟨⟨fun q => ⟨q.1, ?_, ?_⟩, fun q => ⟨q.1, b1.mpr ?_⟩⟩, fun q => b2 q.2⟩
    · have := b1.mp q.2
      omega
    · have := b1.mp q.2
      rw [if_neg (by omega), if_pos (by omega)]
    · have h1 := q.2.2
      split at h1
      · omega
      · split at h1 <;> omega
  · refine ⟨⟨fun q => ⟨q.1, ?_, ?_⟩, fun q => ⟨q.1, c1.mpr ?_⟩⟩, fun q => c2 q.2⟩
    · have := c1.mp q.2
      omega
    · have := c1.mp q.2
      rw [if_neg (by omega), if_neg (by omega)]
    · have h1 := q.2.2
      have h2 := q.2.1
      split at h1
      · omega
      · split at h1 <;> omega
/-! the machine -/
def zrlS (r : Nat) : List (Option zTk) → List zTk × List (Option zTk)
  | [] => ([], [])
  | none :: W => ([], none :: W)
  | some t :: W => if r ≤ zstk t then (t :: (zrlS r W).1, (zrlS r W).2) else ([], some t :: W)
def zupB (c : Nat → Bool) (d : Nat) (b : Bool) : Nat → Bool := fun i => if i = d then b else c i
abbrev zFR : Type := Nat × Option (List zTk)
def zen (p : Nat) (O : List zTk) (W : List (Option zTk)) (d : Nat) (w : Bool) : zFR := if w = true ∨ 0 < d then (p, none) else (p, some (O ++ (zrlS 1 W).1))
abbrev zKRt (R : Type) : Type := Nat → List zTk → List (Option zTk) → Nat → (Nat → Bool) → Bool → R
abbrev zKK : Type := zKRt zFR
def zbdT {R : Type} (s : Nat → Int32) (e : Nat) (K : zKRt R) (bad : R) (p : Nat) (O : List zTk) (W : List (Option zTk)) (d : Nat) (c : Nat → Bool) : R :=
  if zisd s e p then K (p + zln s e p 3) (O ++ [.inl (znv s p (zln s e p 3))]) W d c false
  else if s p = 45 then K (p + 1) O (some tkL :: W) d c true
  else if d < 4 ∧ s p = 40 then K (p + 1) O (none :: W) (d + 1) (zupB c (d + 1) false) true
  else if ziso s e p 3 then K (p + 1) (O ++ [tkT (zix (zsb 3) (s p))]) W d c false
  else bad
def zbdJ {R : Type} (s : Nat → Int32) (K : zKRt R) (bad : R) (p : Nat) (O : List zTk) (W : List (Option zTk)) (d : Nat) (c : Nat → Bool) : R :=
  if s p = 41 ∧ 0 < d then K (p + 1) (O ++ (zrlS 1 W).1) ((zrlS 1 W).2.drop 1) (d - 1) c false
  else if zacS (s p) < 7 ∧ (3 ≤ zacS (s p) ∨ c d = false) then K (p + 1) (O ++ (zrlS (zrk (zacS (s p)) + 1) W).1) (some (tkA (zacS (s p))) :: (zrlS (zrk (zacS (s p)) + 1) W).2) d (if zacS (s p) < 3 then zupB c d true else c) true
  else bad
def zfn (s : Nat → Int32) (e : Nat) : Nat → zKK
  | 0, p, O, W, d, _, w => zen p O W d w
  | f + 1, p, O, W, d, c, w => if p < e then (if w = true then zbdT s e (zfn s e f) (p, none) p O W d c else zbdJ s (zfn s e f) (p, none) p O W d c) else zen p O W d w
theorem zln_pos {s : Nat → Int32} {e p m : Nat} (h : zisd s e p) : 1 ≤ zln s e p (m + 1) := by
  rw [zln, if_pos h]
  exact Nat.le_add_right _ _
theorem zbdT_cg {s : Nat → Int32} {e p : Nat} {K K2 : zKK} {bad : zFR} (h : ∀ p', p < p' → ∀ O W d c w, K p' O W d c w = K2 p' O W d c w) (O : List zTk) (W : List (Option zTk)) (d : Nat) (c : Nat → Bool) : zbdT s e K bad p O W d c = zbdT s e K2 bad p O W d c := by
  unfold zbdT
  split
  · next q =>
    have : 1 ≤ zln s e p 3 := zln_pos (m := 2) q
    exact h _ (by omega) _ _ _ _ _
  · split
    · exact h _ (by omega) _ _ _ _ _
    · split
      · exact h _ (by omega) _ _ _ _ _
      · split
        · exact h _ (by omega) _ _ _ _ _
        · rfl
theorem zbdJ_cg {s : Nat → Int32} {p : Nat} {K K2 : zKK} {bad : zFR} (h : ∀ p', p < p' → ∀ O W d c w, K p' O W d c w = K2 p' O W d c w) (O : List zTk) (W : List (Option zTk)) (d : Nat) (c : Nat → Bool) : zbdJ s K bad p O W d c = zbdJ s K2 bad p O W d c := by
  unfold zbdJ
  split
  · exact h _ (by omega) _ _ _ _ _
  · split
    · exact h _ (by omega) _ _ _ _ _
    · rfl
theorem zfn_st {s : Nat → Int32} {e : Nat} : ∀ (f g p : Nat), e - p ≤ f → e - p ≤ g → ∀ O W d c w, zfn s e f p O W d c w = zfn s e g p O W d c w
  | 0, 0, p, _, _, O, W, d, c, w => rfl
  | 0, g + 1, p, h, _, O, W, d, c, w => by
    rw [zfn, zfn, if_neg (by omega)]
  | f + 1, 0, p, _, h, O, W, d, c, w => by
    rw [zfn, zfn, if_neg (by omega)]
  | f + 1, g + 1, p, h1, h2, O, W, d, c, w => by
    rw [zfn, zfn]
    by_cases q : p < e
    · rw [if_pos q, if_pos q, zbdT_cg (K2 := zfn s e g) (fun p' hp O W d c w => zfn_st f g p' (by omega) (by omega) O W d c w), zbdJ_cg (K2 := zfn s e g) (fun p' hp O W d c w => zfn_st f g p' (by omega) (by omega) O W d c w)]
    · rw [if_neg q, if_neg q]
def zF (s : Nat → Int32) (e : Nat) : zKK := zfn s e e
theorem zF_n {s : Nat → Int32} {e p : Nat} (h : ¬ p < e) (O : List zTk) (W : List (Option zTk)) (d : Nat) (c : Nat → Bool) (w : Bool) : zF s e p O W d c w = zen p O W d w := by
  unfold zF
  cases e with
  | zero => rfl
  | succ e => rw [zfn, if_neg h]
theorem zF_T {s : Nat → Int32} {e p : Nat} (h : p < e) (O : List zTk) (W : List (Option zTk)) (d : Nat) (c : Nat → Bool) : zF s e p O W d c true = zbdT s e (zF s e) (p, none) p O W d c := by
  unfold zF
  rw [zfn_st e (e + 1) p (by omega) (by omega), zfn, if_pos h, if_pos rfl]
theorem zF_J {s : Nat → Int32} {e p : Nat} (h : p < e) (O : List zTk) (W : List (Option zTk)) (d : Nat) (c : Nat → Bool) : zF s e p O W d c false = zbdJ s (zF s e) (p, none) p O W d c := by
  unfold zF
  rw [zfn_st e (e + 1) p (by omega) (by omega), zfn, if_pos h, if_neg (by decide)]
/-! what is set free -/
theorem zrl_P {r : Nat} {W : List (Option zTk)} : ∀ P : List zTk, (∀ t ∈ P, r ≤ zstk t) → zrlS r (P.map some ++ W) = (P ++ (zrlS r W).1, (zrlS r W).2)
  | [], _ => rfl
  | t :: P, h => by
    show zrlS r (some t :: (P.map some ++ W)) = _
    rw [zrlS, if_pos (h t List.mem_cons_self), zrl_P P (fun t ht => h t (List.mem_cons_of_mem _ ht))]
    rfl
theorem zrl_e {r : Nat} : ∀ W, (zrlS r W).1 = [] → (zrlS r W).2 = W
  | [], _ => rfl
  | none :: W, _ => rfl
  | some t :: W, h => by
    rw [zrlS] at h ⊢
    split at h
    · cases h
    · next q => rw [if_neg q]
theorem zrl_up {r r2 : Nat} (hr : r ≤ r2) : ∀ W, (zrlS r W).1 = [] → (zrlS r2 W).1 = []
  | [], _ => rfl
  | none :: W, _ => rfl
  | some t :: W, h => by
    rw [zrlS] at h ⊢
    split at h
    · cases h
    · next q => rw [if_neg (by omega)]
theorem zrl_a {r : Nat} {t : zTk} (W : List (Option zTk)) (h : zstk t < r) : zrlS r (some t :: W) = ([], some t :: W) := by
  rw [zrlS, if_neg (by omega)]
/-! the machine goes as the descent -/
/-- no sign that binds as rank m stands at q, or a comparison too many -/
def zblk (s : Nat → Int32) (e m d : Nat) (c : Nat → Bool) (q : Nat) : Prop := q < e → zacS (s q) < 7 → zrk (zacS (s q)) < m ∨ (m = 0 ∧ zacS (s q) < 3 ∧ c d = true)
def zR1 (s : Nat → Int32) (e : Nat) (x : zDR) (m d p : Nat) (O : List zTk) (W : List (Option zTk)) (c : Nat → Bool) : Prop :=
  (x.1 = false → zF s e p O W d c true = (x.2.1, none)) ∧
  (x.1 = true → p < x.2.1 ∧ x.2.1 ≤ e ∧ ∃ t0 P c', x.2.2 = t0 ++ P ∧ (∀ t ∈ P, m + 1 ≤ zstk t) ∧ (∀ i, i < d → c' i = c i) ∧ (0 < m → c' d = c d) ∧ zblk s e m d c' x.2.1 ∧ zF s e p O W d c true = zF s e x.2.1 (O ++ t0) (P.map some ++ W) d c' false)
def zR2 (s : Nat → Int32) (e : Nat) (x : zDR) (r d p : Nat) (O : List zTk) (W : List (Option zTk)) (c : Nat → Bool) (P : List zTk) : Prop :=
  (x.1 = false → zF s e p O (P.map some ++ W) d c false = (x.2.1, none)) ∧
  (x.1 = true → p ≤ x.2.1 ∧ x.2.1 ≤ e ∧ ∃ t0 P2 c', P ++ x.2.2 = t0 ++ P2 ∧ (∀ t ∈ P2, r + 1 ≤ zstk t) ∧ (∀ i, i < d → c' i = c i) ∧ (0 < r → c' d = c d) ∧ zblk s e r d c' x.2.1 ∧ zF s e p O (P.map some ++ W) d c false = zF s e x.2.1 (O ++ t0) (P2.map some ++ W) d c' false)
def zS1 (s : Nat → Int32) (e f : Nat) : Prop := ∀ m d p O W c, m ≤ 3 → p ≤ e → 5 * (e - p) + (4 - m) ≤ f → (m < 3 → (zrlS (m + 1) W).1 = []) → (m = 0 → c d = false) → zR1 s e (zDs s e f m d p) m d p O W c
def zS2 (s : Nat → Int32) (e f : Nat) : Prop := ∀ r d p O W c P, r ≤ 2 → p ≤ e → 5 * (e - p) + 1 ≤ f → (zrlS (r + 1) W).1 = [] → (r = 0 → c d = false) → (∀ t ∈ P, r + 1 ≤ zstk t) → zblk s e (r + 1) d c p → zR2 s e (zDs s e f (r + 4) d p) r d p O W c P
theorem zblk3 {s : Nat → Int32} {e d q : Nat} {c : Nat → Bool} : zblk s e 3 d c q := fun _ _ => Or.inl (by have := zrk_le (zacS (s q)); omega)
theorem zisd45 {s : Nat → Int32} {e p : Nat} (h : s p = 45) : ¬ zisd s e p := fun z => by
  have := z.2.1
  rw [h] at this
  exact absurd this (by decide)
theorem zisd40 {s : Nat → Int32} {e p : Nat} (h : s p = 40) : ¬ zisd s e p := fun z => by
  have := z.2.1
  rw [h] at this
  exact absurd this (by decide)
theorem ziso3_45 {s : Nat → Int32} {e p : Nat} (h : s p = 45 ∨ s p = 40) : ¬ ziso s e p 3 := fun z => by
  have := z.2
  rcases h with h | h <;> rw [h] at this <;> revert this <;> decide
theorem zup_lt {c : Nat → Bool} {d i : Nat} {b : Bool} (h : i < d) : zupB c d b i = c i := if_neg (by omega)
theorem zup_at {c : Nat → Bool} {d : Nat} {b : Bool} : zupB c d b d = b := if_pos rfl
theorem zsim_3 {s : Nat → Int32} {e f d p : Nat} (ih : zS1 s e f) (hp : p ≤ e) (hf : 5 * (e - p) ≤ f) (O : List zTk) (W : List (Option zTk)) (c : Nat → Bool) : zR1 s e (zDs s e (f + 1) 3 d p) 3 d p O W c := by
  rw [zDs_3]
  by_cases q : p < e
  rotate_left
  · rw [if_neg (fun z => q z.1), if_neg (fun z => q z.1), if_neg (fun z => q z.1), if_neg (fun z => q z.2.1)]
    refine ⟨fun _ => ?_, fun z => Bool.noConfusion z⟩
    rw [zF_n q, zen, if_pos (Or.inl rfl)]
  by_cases c1 : s p = 45
  · rw [if_pos ⟨q, c1⟩]
    have eF : zF s e p O W d c true = zF s e (p + 1) O (some tkL :: W) d c true := by
      rw [zF_T q, zbdT, if_neg (zisd45 c1), if_pos c1]
    obtain ⟨i1, i2⟩ := ih 3 d (p + 1) O (some tkL :: W) c (by decide) (by omega) (by omega) (fun z => absurd z (by decide)) (fun z => absurd z (by decide))
    refine ⟨fun z => eF.trans (i1 z), fun z => ?_⟩
    obtain ⟨a1, a2, t0, P, c', b1, b2, b3, b4, b5, b6⟩ := i2 z
    refine ⟨Nat.lt_of_succ_lt a1, a2, t0, P ++ [tkL], c', ?_, fun t ht => ?_, b3, b4, zblk3, ?_⟩
    · show (zDs s e f 3 d (p + 1)).2.2 ++ [tkL] = _
      rw [b1, List.append_assoc]
    · rcases List.mem_append.mp ht with ht | ht
      · exact b2 t ht
      · rw [List.mem_singleton.mp ht]
        exact Nat.le_refl 4
    · rw [eF, b6, List.map_append, List.append_assoc]
      rfl
  rw [if_neg (fun z => c1 z.2)]
  by_cases c2 : zisd s e p
  · have h1 : 1 ≤ zln s e p 3 := zln_pos (m := 2) c2
    have h2 := zln_e (s := s) (e := e) 3 p hp
    rw [if_pos c2]
    refine ⟨fun z => Bool.noConfusion z, fun _ => ⟨by show p < p + zln s e p 3; omega, h2, [.inl (znv s p (zln s e p 3))], [], c, rfl, fun t ht => absurd ht List.not_mem_nil, fun i hi => rfl, fun _ => rfl, zblk3, ?_⟩⟩
    rw [zF_T q, zbdT, if_pos c2]
    rfl
  rw [if_neg c2]
  by_cases c3 : ziso s e p 3
  · rw [if_pos c3]
    refine ⟨fun z => Bool.noConfusion z, fun _ => ⟨Nat.lt_succ_self p, q, [tkT (zix (zsb 3) (s p))], [], c, rfl, fun t ht => absurd ht List.not_mem_nil, fun i hi => rfl, fun _ => rfl, zblk3, ?_⟩⟩
    rw [zF_T q, zbdT, if_neg c2, if_neg c1, if_neg (fun z => ziso3_45 (Or.inr z.2) c3), if_pos c3]
    rfl
  rw [if_neg c3]
  by_cases c4 : d < 4 ∧ s p = 40
  rotate_left
  · rw [if_neg (fun z => c4 ⟨z.1, z.2.2⟩)]
    refine ⟨fun _ => ?_, fun z => Bool.noConfusion z⟩
    rw [zF_T q, zbdT, if_neg c2, if_neg c1, if_neg c4, if_neg c3]
  rw [if_pos ⟨c4.1, q, c4.2⟩]
  have eF : zF s e p O W d c true = zF s e (p + 1) O (none :: W) (d + 1) (zupB c (d + 1) false) true := by
    rw [zF_T q, zbdT, if_neg c2, if_neg c1, if_pos c4]
  obtain ⟨i1, i2⟩ := ih 0 (d + 1) (p + 1) O (none :: W) (zupB c (d + 1) false) (by decide) (by omega) (by omega) (fun _ => rfl) (fun _ => zup_at)
  generalize zDs s e f 0 (d + 1) (p + 1) = x at i1 i2
  obtain ⟨b, q1, t⟩ := x
  unfold zDand
  dsimp only at i1 i2 ⊢
  cases b with
  | false => exact ⟨fun _ => eF.trans (i1 rfl), fun z => Bool.noConfusion z⟩
  | true =>
    obtain ⟨a1, a2, t0, P, c', b1, b2, b3, b4, b5, b6⟩ := i2 rfl
    rw [if_pos rfl]
    by_cases c5 : q1 < e ∧ s q1 = 41
    · rw [if_pos c5]
      refine ⟨fun z => Bool.noConfusion z, fun _ => ⟨?_, c5.1, t, [], c', (List.append_nil t).symm, fun t ht => absurd ht List.not_mem_nil, fun i hi => ?_, fun _ => ?_, zblk3, ?_⟩⟩
      · show p < q1 + 1
        omega
      · rw [b3 i (by omega)]
        exact zup_lt (by omega)
      · rw [b3 d (by omega)]
        exact zup_lt (by omega)
      · rw [eF, b6, zF_J c5.1, zbdJ, if_pos ⟨c5.2, Nat.succ_pos d⟩, zrl_P P b2, b1]
        show zF s e (q1 + 1) (O ++ t0 ++ (P ++ [])) W d c' false = zF s e (q1 + 1) (O ++ (t0 ++ P)) ([] ++ W) d c' false
        rw [List.append_nil, List.append_assoc]
        rfl
    · rw [if_neg c5]
      refine ⟨fun _ => ?_, fun z => Bool.noConfusion z⟩
      rw [eF, b6]
      by_cases c6 : q1 < e
      · rw [zF_J c6, zbdJ, if_neg (fun z => c5 ⟨c6, z.1⟩), if_neg]
        rintro ⟨z1, z2⟩
        rcases b5 c6 z1 with z | ⟨_, z3, z4⟩
        · omega
        · rcases z2 with z2 | z2
          · omega
          · rw [z2] at z4
            cases z4
      · rw [zF_n c6, zen, if_pos (Or.inr (Nat.succ_pos d))]
theorem zsim_m {s : Nat → Int32} {e f m d p : Nat} (ih : zS1 s e f) (ih2 : zS2 s e f) (hm : m < 3) (hp : p ≤ e) (hf : 5 * (e - p) + (3 - m) ≤ f) (O : List zTk) (W : List (Option zTk)) (c : Nat → Bool) (hW : (zrlS (m + 1) W).1 = []) (hc : m = 0 → c d = false) : zR1 s e (zDs s e (f + 1) m d p) m d p O W c := by
  rw [zDs_m s e f m d p hm]
  obtain ⟨i1, i2⟩ := ih (m + 1) d p O W c (by omega) hp (by omega) (fun _ => zrl_up (by omega) W hW) (fun z => absurd z (by omega))
  generalize zDs s e f (m + 1) d p = x at i1 i2
  obtain ⟨b, q1, t⟩ := x
  unfold zDand
  dsimp only at i1 i2 ⊢
  cases b with
  | false => exact ⟨fun _ => i1 rfl, fun z => (by rw [if_neg (by decide)] at z; cases z)⟩
  | true =>
    obtain ⟨a1, a2, t0, P, c', b1, b2, b3, b4, b5, b6⟩ := i2 rfl
    rw [if_pos rfl]
    obtain ⟨j1, j2⟩ := ih2 m d q1 (O ++ t0) W c' P (by omega) a2 (by omega) hW (fun z => (b4 (by omega)).trans (hc z)) (fun t ht => Nat.le_of_succ_le (b2 t ht)) b5
    generalize zDs s e f (m + 4) d q1 = y at j1 j2
    obtain ⟨b', q2, t2⟩ := y
    unfold zDcat
    dsimp only at j1 j2 ⊢
    refine ⟨fun z => b6.trans (j1 z), fun z => ?_⟩
    obtain ⟨k1, k2, t3, P2, c2, l1, l2, l3, l4, l5, l6⟩ := j2 z
    have k1 : q1 ≤ q2 := k1
    refine ⟨by show p < q2; omega, k2, t0 ++ t3, P2, c2, ?_, l2, fun i hi => (l3 i hi).trans (b3 i hi), fun h => (l4 h).trans (b4 (by omega)), l5, ?_⟩
    · rw [b1, List.append_assoc, l1, List.append_assoc]
    · rw [b6, l6, List.append_assoc]
theorem zsim_l {s : Nat → Int32} {e f r d p : Nat} (ih : zS1 s e f) (ih2 : zS2 s e f) (hr : r ≤ 2) (hp : p ≤ e) (hf : 5 * (e - p) ≤ f) (O : List zTk) (W : List (Option zTk)) (c : Nat → Bool) (P : List zTk) (hW : (zrlS (r + 1) W).1 = []) (hc : r = 0 → c d = false) (hP : ∀ t ∈ P, r + 1 ≤ zstk t) (hB : zblk s e (r + 1) d c p) : zR2 s e (zDs s e (f + 1) (r + 4) d p) r d p O W c P := by
  rw [zDs_l]
  obtain ⟨g1, g2⟩ := ziso_ac (s := s) (e := e) (p := p) hr
  by_cases q : ziso s e p (r + 4)
  rotate_left
  · rw [if_neg q]
    refine ⟨fun z => Bool.noConfusion z, fun _ => ⟨Nat.le_refl p, hp, [], P, c, List.append_nil P, hP, fun i hi => rfl, fun _ => rfl, fun y1 y2 => ?_, by rw [List.append_nil]⟩⟩
    have y1 : p < e := y1
    have y2 : zacS (s p) < 7 := y2
    show zrk (zacS (s p)) < r ∨ _
    rcases hB y1 y2 with z | z
    · left
      have : ¬ zrk (zacS (s p)) = r := fun z2 => q (g1.mpr ⟨y1, y2, z2⟩)
      omega
    · exact absurd z.1 (by omega)
  rw [if_pos q, g2 q]
  obtain ⟨h1, h2, h3⟩ := g1.mp q
  have hsp : ¬ (s p = 41 ∧ 0 < d) := fun z => by
    rw [z.1] at h2
    exact absurd h2 (by decide)
  have h4 : r = 0 ↔ zacS (s p) < 3 := by
    have h5 := h3
    unfold zrk at h5
    split at h5
    · omega
    · split at h5 <;> omega
  generalize hk : zacS (s p) = k at h2 h3 h4
  have eF : zF s e p O (P.map some ++ W) d c false = zF s e (p + 1) (O ++ P) (some (tkA k) :: W) d (if k < 3 then zupB c d true else c) true := by
    rw [zF_J h1, zbdJ, if_neg hsp, hk, if_pos ⟨h2, by
      by_cases z : r = 0
      · exact Or.inr (hc z)
      · exact Or.inl (by omega)⟩, h3, zrl_P P hP, hW, zrl_e W hW, List.append_nil]
  have c1d : ∀ i, i < d → (if k < 3 then zupB c d true else c) i = c i := fun i hi => by
    split
    · exact zup_lt hi
    · rfl
  have c1p : 0 < r → (if k < 3 then zupB c d true else c) d = c d := fun z => by rw [if_neg (by omega)]
  have c10 : r = 0 → (if k < 3 then zupB c d true else c) d = true := fun z => by
    rw [if_pos (by omega)]
    exact zup_at
  generalize (if k < 3 then zupB c d true else c) = c1 at eF c1d c1p c10
  have sk : zstk (tkA k) = r + 1 := by
    show zrk k + 1 = r + 1
    rw [h3]
  obtain ⟨i1, i2⟩ := ih (r + 1) d (p + 1) (O ++ P) (some (tkA k) :: W) c1 (by omega) (by omega) (by omega) (fun _ => by rw [zrl_a W (by omega)]) (fun z => absurd z (by omega))
  generalize zDs s e f (r + 1) d (p + 1) = x at i1 i2
  obtain ⟨b, q1, t⟩ := x
  unfold zDand
  dsimp only at i1 i2 ⊢
  cases b with
  | false => exact ⟨fun _ => eF.trans (i1 rfl), fun z => Bool.noConfusion z⟩
  | true =>
    obtain ⟨a1, a2, t0, P1, c', b1, b2, b3, b4, b5, b6⟩ := i2 rfl
    rw [if_pos rfl]
    have hP1 : ∀ t ∈ P1 ++ [tkA k], r + 1 ≤ zstk t := fun t ht => by
      rcases List.mem_append.mp ht with ht | ht
      · exact Nat.le_of_succ_le (b2 t ht)
      · rw [List.mem_singleton.mp ht, sk]
        exact Nat.le_refl _
    have eW : P1.map some ++ some (tkA k) :: W = (P1 ++ [tkA k]).map some ++ W := by
      rw [List.map_append, List.append_assoc]
      rfl
    rw [eW] at b6
    by_cases z0 : r = 0
    · subst z0
      rw [if_pos rfl]
      refine ⟨fun z => Bool.noConfusion z, fun _ => ⟨by show p ≤ q1; omega, a2, P ++ t0, P1 ++ [tkA k], c', ?_, hP1, fun i hi => (b3 i hi).trans (c1d i hi), fun z => absurd z (by decide), fun y1 y2 => ?_, ?_⟩⟩
      · show P ++ (t ++ [tkA k]) = _
        rw [b1]
        simp only [List.append_assoc]
      · rcases b5 y1 y2 with z | z
        · right
          refine ⟨rfl, ?_, (b4 (by omega)).trans (c10 rfl)⟩
          unfold zrk at z
          split at z
          · assumption
          · split at z <;> omega
        · exact absurd z.1 (by omega)
      · rw [eF, b6]
        simp only [List.append_assoc]
    · rw [if_neg (by omega)]
      obtain ⟨j1, j2⟩ := ih2 r d q1 (O ++ P ++ t0) W c' (P1 ++ [tkA k]) hr a2 (by omega) hW (fun z => absurd z z0) hP1 b5
      generalize zDs s e f (r + 4) d q1 = y at j1 j2
      obtain ⟨b', q2, t2⟩ := y
      unfold zDcat
      dsimp only at j1 j2 ⊢
      refine ⟨fun z => (eF.trans b6).trans (j1 z), fun z => ?_⟩
      obtain ⟨k1, k2, t3, P2, c2, l1, l2, l3, l4, l5, l6⟩ := j2 z
      have k1 : q1 ≤ q2 := k1
      refine ⟨by show p ≤ q2; omega, k2, P ++ (t0 ++ t3), P2, c2, ?_, l2, fun i hi => ((l3 i hi).trans (b3 i hi)).trans (c1d i hi), fun h => ((l4 h).trans (b4 (by omega))).trans (c1p h), l5, ?_⟩
      · rw [b1]
        simp only [List.append_assoc] at l1 ⊢
        rw [l1]
      · rw [eF, b6, l6]
        simp only [List.append_assoc]
theorem zsim (s : Nat → Int32) (e : Nat) : ∀ f, zS1 s e f ∧ zS2 s e f
  | 0 => ⟨fun m d p O W c h1 h2 h3 => absurd h3 (by omega), fun r d p O W c P h1 h2 h3 => absurd h3 (by omega)⟩
  | f + 1 => by
    obtain ⟨ih, ih2⟩ := zsim s e f
    refine ⟨fun m d p O W c h1 h2 h3 h4 h5 => ?_, fun r d p O W c P h1 h2 h3 h4 h5 h6 h7 => zsim_l ih ih2 h1 h2 (by omega) O W c P h4 h5 h6 h7⟩
    by_cases q : m = 3
    · subst q
      exact zsim_3 ih h2 (by omega) O W c
    · exact zsim_m ih ih2 (by omega) h2 (by omega) O W c (h4 (by omega)) h5
/-- what both make of a text -/
def zrT (s : Nat → Int32) (e : Nat) : zDR := zDs s e 204 0 0 0
theorem zrT_F {s : Nat → Int32} {e : Nat} (he : e ≤ 40) : zF s e 0 [] [] 0 (fun _ => false) true = ((zrT s e).2.1, if (zrT s e).1 = true ∧ (zrT s e).2.1 = e then some (zrT s e).2.2 else none) := by
  obtain ⟨i1, i2⟩ := (zsim s e 204).1 0 0 0 [] [] (fun _ => false) (by decide) (Nat.zero_le _) (by omega) (fun _ => rfl) (fun _ => rfl)
  unfold zrT
  generalize zDs s e 204 0 0 0 = x at i1 i2
  obtain ⟨b, q, t⟩ := x
  dsimp only at i1 i2 ⊢
  cases b with
  | false =>
    rw [i1 rfl, if_neg (fun z => by cases z.1)]
  | true =>
    obtain ⟨a1, a2, t0, P, c', b1, b2, b3, b4, b5, b6⟩ := i2 rfl
    rw [b6]
    by_cases c1 : q = e
    · rw [if_pos ⟨rfl, c1⟩, zF_n (by omega), zen, if_neg (fun z => by rcases z with z | z <;> cases z), zrl_P P b2, b1]
      show (q, some ([] ++ t0 ++ (P ++ []))) = _
      rw [List.append_nil, List.nil_append]
    · rw [if_neg (fun z => c1 z.2), zF_J (by omega), zbdJ, if_neg (fun z => by cases z.2), if_neg]
      rintro ⟨z1, z2⟩
      rcases b5 (by omega) z1 with z | ⟨_, z3, z4⟩
      · omega
      · rcases z2 with z2 | z2
        · omega
        · rw [z2] at z4
          cases z4
/-! what is read runs well -/
def zwf : List zTk → Nat → Nat → Prop
  | [], a, b => a = b
  | t :: l, a, b => tkok t ∧ tkneed a t ∧ zwf l (zd1 a t) b
theorem zwf_app : ∀ {l1 l2 : List zTk} {a b c : Nat}, zwf l1 a b → zwf l2 b c → zwf (l1 ++ l2) a c
  | [], l2, a, b, c, h1, h2 => by
    have h1 : a = b := h1
    subst h1
    exact h2
  | t :: l, l2, a, b, c, h1, h2 => ⟨h1.1, h1.2.1, zwf_app h1.2.2 h2⟩
theorem zDs_q (s : Nat → Int32) (e : Nat) : ∀ f m d p, p ≤ e → (zDs s e f m d p).2.1 ≤ e ∧ (zDs s e f m d p).2.2.length + p ≤ (zDs s e f m d p).2.1
  | 0, m, d, p, hp => ⟨hp, by show 0 + p ≤ p; omega⟩
  | f + 1, m, d, p, hp => by
    have ih := zDs_q s e f
    by_cases c1 : m = 3
    · subst c1
      rw [zDs_3]
      split
      · next q =>
        obtain ⟨i1, i2⟩ := ih 3 d (p + 1) q.1
        refine ⟨i1, ?_⟩
        show ((zDs s e f 3 d (p + 1)).2.2 ++ [tkL]).length + p ≤ (zDs s e f 3 d (p + 1)).2.1
        rw [List.length_append, List.length_singleton]
        omega
      · split
        · next q =>
          have h1 : 1 ≤ zln s e p 3 := zln_pos (m := 2) q
          have h2 := zln_e (s := s) (e := e) 3 p hp
          exact ⟨h2, by show 1 + p ≤ p + zln s e p 3; omega⟩
        · split
          · next q => exact ⟨q.1, by show 1 + p ≤ p + 1; omega⟩
          · split
            · next q =>
              obtain ⟨i1, i2⟩ := ih 0 (d + 1) (p + 1) q.2.1
              generalize zDs s e f 0 (d + 1) (p + 1) = x at i1 i2
              obtain ⟨b, q1, t⟩ := x
              unfold zDand
              dsimp only at i1 i2 ⊢
              split
              · split
                · next y => exact ⟨y.1, by dsimp only; omega⟩
                · exact ⟨i1, by dsimp only; omega⟩
              · exact ⟨i1, by dsimp only; omega⟩
            · exact ⟨hp, by show 0 + p ≤ p; omega⟩
    · by_cases c2 : m < 3
      · rw [zDs_m s e f m d p c2]
        obtain ⟨i1, i2⟩ := ih (m + 1) d p hp
        generalize zDs s e f (m + 1) d p = x at i1 i2
        obtain ⟨b, q1, t⟩ := x
        unfold zDand zDcat
        dsimp only at i1 i2 ⊢
        obtain ⟨j1, j2⟩ := ih (m + 4) d q1 i1
        generalize zDs s e f (m + 4) d q1 = y at j1 j2
        obtain ⟨b', q2, t2⟩ := y
        dsimp only at j1 j2 ⊢
        split
        · refine ⟨j1, ?_⟩
          dsimp only
          rw [List.length_append]
          omega
        · exact ⟨i1, i2⟩
      · obtain ⟨r, rfl⟩ : ∃ r, m = r + 4 := ⟨m - 4, by omega⟩
        rw [zDs_l]
        split
        · next q =>
          obtain ⟨i1, i2⟩ := ih (r + 1) d (p + 1) q.1
          generalize zDs s e f (r + 1) d (p + 1) = x at i1 i2
          obtain ⟨b, q1, t⟩ := x
          unfold zDand zDcat
          dsimp only at i1 i2 ⊢
          obtain ⟨j1, j2⟩ := ih (r + 4) d q1 i1
          generalize zDs s e f (r + 4) d q1 = y at j1 j2
          obtain ⟨b', q2, t2⟩ := y
          dsimp only at j1 j2 ⊢
          split
          · split
            · refine ⟨i1, ?_⟩
              dsimp only
              rw [List.length_append, List.length_singleton]
              omega
            · refine ⟨j1, ?_⟩
              dsimp only
              rw [List.length_append, List.length_append, List.length_singleton]
              omega
          · exact ⟨i1, by dsimp only; omega⟩
        · exact ⟨hp, by show 0 + p ≤ p; omega⟩
theorem zDs_wf (s : Nat → Int32) (e : Nat) : ∀ f m d p, (zDs s e f m d p).1 = true → (m ≤ 3 → ∀ a, zwf (zDs s e f m d p).2.2 a (a + 1)) ∧ (4 ≤ m → m ≤ 6 → ∀ a, zwf (zDs s e f m d p).2.2 (a + 1) (a + 1))
  | 0, m, d, p, h => by cases h
  | f + 1, m, d, p, h => by
    have ih := zDs_wf s e f
    by_cases c1 : m = 3
    · subst c1
      refine ⟨fun _ => ?_, fun z => absurd z (by decide)⟩
      rw [zDs_3] at h ⊢
      split at h
      · next q =>
        rw [if_pos q]
        intro a
        exact zwf_app ((ih 3 d (p + 1) h).1 (by decide) a) ⟨trivial, Nat.succ_pos a, rfl⟩
      · next q0 =>
        rw [if_neg q0]
        split at h
        · next q =>
          rw [if_pos q]
          intro a
          have h1 := znv_lt (s := s) (e := e) (p := p) (zln s e p 3) (fun i hi => zln_d 3 p i hi)
          have h2 : 10 ^ zln s e p 3 ≤ 10 ^ 3 := Nat.pow_le_pow_right (by decide) (zln_le 3 p)
          exact ⟨show znv s p (zln s e p 3) < 1000 by omega, trivial, rfl⟩
        · next q1 =>
          rw [if_neg q1]
          split at h
          · next q =>
            rw [if_pos q]
            intro a
            have h1 : zix (zsb 3) (s p) < zsl8 3 := q.2
            have h2 := zsl8_le 3 (by decide)
            exact ⟨show zix (zsb 3) (s p) < 9 by omega, trivial, rfl⟩
          · next q2 =>
            rw [if_neg q2]
            split at h
            · next q =>
              rw [if_pos q]
              have i1 := ih 0 (d + 1) (p + 1)
              generalize zDs s e f 0 (d + 1) (p + 1) = x at h i1 ⊢
              obtain ⟨b, q1, t⟩ := x
              unfold zDand at h ⊢
              dsimp only at h i1 ⊢
              cases b with
              | false => cases h
              | true =>
                rw [if_pos rfl] at h ⊢
                split at h
                · next y =>
                  rw [if_pos y]
                  exact (i1 rfl).1 (by decide)
                · cases h
            · cases h
    · by_cases c2 : m < 3
      · rw [zDs_m s e f m d p c2] at h ⊢
        refine ⟨fun _ => ?_, fun z => absurd z (by omega)⟩
        have i1 := ih (m + 1) d p
        generalize zDs s e f (m + 1) d p = x at h i1 ⊢
        obtain ⟨b, q1, t⟩ := x
        unfold zDand zDcat at h ⊢
        dsimp only at h i1 ⊢
        have j1 := ih (m + 4) d q1
        generalize zDs s e f (m + 4) d q1 = y at h j1 ⊢
        obtain ⟨b', q2, t2⟩ := y
        dsimp only at h j1 ⊢
        cases b with
        | false => cases h
        | true =>
          rw [if_pos rfl] at h ⊢
          intro a
          exact zwf_app ((i1 rfl).1 (by omega) a) ((j1 h).2 (by omega) (by omega) a)
      · obtain ⟨r, rfl⟩ : ∃ r, m = r + 4 := ⟨m - 4, by omega⟩
        refine ⟨fun z => absurd z (by omega), fun _ hr => ?_⟩
        obtain ⟨g1, g2⟩ := ziso_ac (s := s) (e := e) (p := p) (r := r) (by omega)
        rw [zDs_l] at h ⊢
        split at h
        · next q =>
          rw [if_pos q]
          have hk := (g1.mp q).2.1
          rw [g2 q] at h ⊢
          have i1 := ih (r + 1) d (p + 1)
          generalize zDs s e f (r + 1) d (p + 1) = x at h i1 ⊢
          obtain ⟨b, q1, t⟩ := x
          unfold zDand zDcat at h ⊢
          dsimp only at h i1 ⊢
          have j1 := ih (r + 4) d q1
          generalize zDs s e f (r + 4) d q1 = y at h j1 ⊢
          obtain ⟨b', q2, t2⟩ := y
          dsimp only at h j1 ⊢
          cases b with
          | false => cases h
          | true =>
            rw [if_pos rfl] at h ⊢
            have w1 : ∀ a, zwf (t ++ [tkA (zacS (s p))]) (a + 1) (a + 1) := fun a => zwf_app ((i1 rfl).1 (by omega) (a + 1)) ⟨hk, show 2 ≤ a + 1 + 1 by omega, rfl⟩
            split at h
            · next y =>
              rw [if_pos y]
              exact w1
            · next y =>
              rw [if_neg y]
              intro a
              exact zwf_app (w1 a) ((j1 h).2 (by omega) hr a)
        · next q =>
          rw [if_neg q]
          intro a
          exact rfl
/-- a list of tokens as a row -/
def zcdT (T : List zTk) : Nat → zTk := fun t => T.getD t (.inl 0)
theorem zcdT_at {T : List zTk} {t : Nat} {x : zTk} (h : T[t]? = some x) : zcdT T t = x := by
  unfold zcdT
  rw [List.getD_eq_getElem?_getD, h]
  rfl
theorem zwf_run {T : List zTk} {b : Nat} (h : zwf T 0 b) : ∀ k, k ≤ T.length → zwf (T.drop k) (zdt (zcdT T) k) b
  | 0, _ => h
  | k + 1, hk => by
    have ih := zwf_run h k (by omega)
    rw [List.drop_eq_getElem_cons (show k < T.length by omega)] at ih
    have e : zcdT T k = T[k]'(by omega) := zcdT_at (List.getElem?_eq_getElem (by omega))
    rw [zdt, e]
    exact ih.2.2
theorem zwf_C {T : List zTk} {b : Nat} (h : zwf T 0 b) (hL : T.length ≤ 40) : ZC T.length (zcdT T) := by
  refine ⟨hL, fun k hk => ?_⟩
  have ih := zwf_run h k (by omega)
  rw [List.drop_eq_getElem_cons hk] at ih
  have e : zcdT T k = T[k]'hk := zcdT_at (List.getElem?_eq_getElem hk)
  rw [e]
  exact ⟨ih.1, ih.2.1⟩
/-- a step seen through a property -/
theorem zbdT_map {R R2 : Type} (φ : R → R2) {s : Nat → Int32} {e : Nat} {K : zKRt R} {bad : R} {p : Nat} {O : List zTk} {W : List (Option zTk)} {d : Nat} {c : Nat → Bool} : φ (zbdT s e K bad p O W d c) = zbdT s e (fun p O W d c w => φ (K p O W d c w)) (φ bad) p O W d c := by
  unfold zbdT
  split
  · rfl
  · split
    · rfl
    · split
      · rfl
      · split <;> rfl
theorem zbdJ_map {R R2 : Type} (φ : R → R2) {s : Nat → Int32} {K : zKRt R} {bad : R} {p : Nat} {O : List zTk} {W : List (Option zTk)} {d : Nat} {c : Nat → Bool} : φ (zbdJ s K bad p O W d c) = zbdJ s (fun p O W d c w => φ (K p O W d c w)) (φ bad) p O W d c := by
  unfold zbdJ
  split
  · rfl
  · split <;> rfl
