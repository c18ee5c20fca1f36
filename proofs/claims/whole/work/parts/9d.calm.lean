/-! ===== calm: all ways to part the cells, a cell after another; what is left from a beginning ===== -/
/-- what the cells of o, of the first c, are worth to g -/
def zcW (V : zV) (c : Nat) (w : Nat → Nat) (g o : Nat) : Nat := nsum (fun i => if w i = o then vwN V g i else 0) c
abbrev zcal (V : zV) (w : Nat → Nat) : Prop := ∀ g, g < vg V → ∀ o, o < vg V → zcW V (vn V) w g o ≤ zcW V (vn V) w g g
abbrev zcnw (c : Nat) (w : Nat → Nat) (g : Nat) : Prop := ∀ i, i < c → ¬ w i = g
abbrev zcal2 (c : Nat) (w : Nat → Nat) (g : Nat) : Prop := zcnw c w g ∨ (0 < c ∧ w (c - 1) = g)
/-- how many calm ways go on from the first c; such that cell c is another's -/
def zcN (V : zV) : Nat → Nat → (Nat → Nat) → Nat
  | 0, _, w => if zcal V w then 1 else 0
  | k + 1, c, w => nsum (fun g => if zcal2 c w g then zcN V k (c + 1) (zupd w c g) else 0) (vg V)
def zeN (V : zV) : Nat → Nat → (Nat → Nat) → Nat
  | 0, _, w => if zcal V w then 1 else 0
  | k + 1, c, w => nsum (fun g => if zcnw c w g then zcN V k (c + 1) (zupd w c g) else 0) (vg V)
/-- the ways themselves -/
def zcl (V : zV) : Nat → Nat → (Nat → Nat) → (Nat → Nat) → Prop
  | 0, c, w, s => zcal V w ∧ ∀ i, i < c → s i = w i
  | k + 1, c, w, s => ∃ g, g < vg V ∧ zcal2 c w g ∧ zcl V k (c + 1) (zupd w c g) s
def zcel (V : zV) : Nat → Nat → (Nat → Nat) → (Nat → Nat) → Prop
  | 0, c, w, s => zcal V w ∧ ∀ i, i < c → s i = w i
  | k + 1, c, w, s => ∃ g, g < vg V ∧ zcnw c w g ∧ zcl V k (c + 1) (zupd w c g) s
/-- the first of them -/
def zcF (V : zV) : Nat → Nat → (Nat → Nat) → Option (Nat → Nat)
  | 0, _, w => if zcal V w then some w else none
  | k + 1, c, w => zfi (fun g => if zcal2 c w g then zcF V k (c + 1) (zupd w c g) else none) (vg V)
theorem zupd_lt {w : Nat → Nat} {c g i : Nat} (h : i < c) : zupd w c g i = w i := if_neg (by omega)
theorem zupd_at (w : Nat → Nat) (c g : Nat) : zupd w c g c = g := if_pos rfl
theorem zcW_lt {V : zV} {c : Nat} {w w2 : Nat → Nat} {g o : Nat} (h : ∀ i, i < c → w i = w2 i) : zcW V c w g o = zcW V c w2 g o := nsum_cong c (fun i hi => by rw [h i hi])
theorem zcW_s (V : zV) (c : Nat) (w : Nat → Nat) (x g o : Nat) : zcW V (c + 1) (zupd w c x) g o = zcW V c w g o + if x = o then vwN V g c else 0 := by
  show zcW V c (zupd w c x) g o + (if zupd w c x c = o then vwN V g c else 0) = _
  rw [zupd_at, zcW_lt (w2 := w) (fun i hi => zupd_lt hi)]
theorem zcW_no {V : zV} {c : Nat} {w : Nat → Nat} {g o : Nat} (h : zcnw c w o) : zcW V c w g o = 0 := by
  unfold zcW
  rw [nsum_cong (g := fun _ => 0) c (fun i hi => if_neg (h i hi))]
  induction c with
  | zero => rfl
  | succ c ih => exact ih (fun i hi => h i (by omega))
/-- a quarrel between two that get no more -/
theorem zcl_no {V : zV} {g o : Nat} (hg : g < vg V) (ho : o < vg V) : ∀ (k c : Nat) (w : Nat → Nat), c + k = vn V → 0 < c → ¬ zcnw c w g → ¬ zcnw c w o → ¬ w (c - 1) = g → ¬ w (c - 1) = o → zcW V c w g g < zcW V c w g o → zcN V k c w = 0 ∧ ∀ s, ¬ zcl V k c w s
  | 0, c, w, hc, h0, hgw, how, hgl, hol, hW => by
    have e : ¬ zcal V w := fun z => by
      have := z g hg o ho
      rw [show vn V = c by omega] at this
      omega
    exact ⟨if_neg e, fun s z => e z.1⟩
  | k + 1, c, w, hc, h0, hgw, how, hgl, hol, hW => by
    have step : ∀ x, x < vg V → zcal2 c w x → zcN V k (c + 1) (zupd w c x) = 0 ∧ ∀ s, ¬ zcl V k (c + 1) (zupd w c x) s := fun x hx ha => by
      have xg : ¬ x = g := fun q => by
        subst q
        rcases ha with z | z
        · exact hgw z
        · exact hgl z.2
      have xo : ¬ x = o := fun q => by
        subst q
        rcases ha with z | z
        · exact how z
        · exact hol z.2
      refine zcl_no hg ho k (c + 1) (zupd w c x) (by omega) (Nat.succ_pos c) (fun z => hgw (fun i hi => ?_)) (fun z => how (fun i hi => ?_)) ?_ ?_ ?_
      · have := z i (by omega)
        rw [zupd_lt hi] at this
        exact this
      · have := z i (by omega)
        rw [zupd_lt hi] at this
        exact this
      · rw [Nat.add_sub_cancel, zupd_at]
        exact xg
      · rw [Nat.add_sub_cancel, zupd_at]
        exact xo
      · rw [zcW_s, zcW_s, if_neg xg, if_neg xo]
        exact hW
    refine ⟨?_, fun s ⟨x, hx, ha, z⟩ => (step x hx ha).2 s z⟩
    rw [zcN, nsum_cong (g := fun _ => 0) _ (fun x hx => by
      split
      · next q => exact (step x hx q).1
      · rfl)]
    induction vg V with
    | zero => rfl
    | succ n ih => exact ih
theorem zcel_no {V : zV} {g o : Nat} (hg : g < vg V) (ho : o < vg V) {k c : Nat} {w : Nat → Nat} (hc : c + k = vn V) (hgw : ¬ zcnw c w g) (how : ¬ zcnw c w o) (hW : zcW V c w g g < zcW V c w g o) : zeN V k c w = 0 ∧ ∀ s, ¬ zcel V k c w s := by
  cases k with
  | zero =>
    have e : ¬ zcal V w := fun z => by
      have := z g hg o ho
      rw [show vn V = c by omega] at this
      omega
    exact ⟨if_neg e, fun s z => e z.1⟩
  | succ k =>
    have step : ∀ x, x < vg V → zcnw c w x → zcN V k (c + 1) (zupd w c x) = 0 ∧ ∀ s, ¬ zcl V k (c + 1) (zupd w c x) s := fun x hx ha => by
      have xg : ¬ x = g := fun q => by
        subst q
        exact hgw ha
      have xo : ¬ x = o := fun q => by
        subst q
        exact how ha
      refine zcl_no hg ho k (c + 1) (zupd w c x) (by omega) (Nat.succ_pos c) (fun z => hgw (fun i hi => ?_)) (fun z => how (fun i hi => ?_)) ?_ ?_ ?_
      · have := z i (by omega)
        rw [zupd_lt hi] at this
        exact this
      · have := z i (by omega)
        rw [zupd_lt hi] at this
        exact this
      · rw [Nat.add_sub_cancel, zupd_at]
        exact xg
      · rw [Nat.add_sub_cancel, zupd_at]
        exact xo
      · rw [zcW_s, zcW_s, if_neg xg, if_neg xo]
        exact hW
    refine ⟨?_, fun s ⟨x, hx, ha, z⟩ => (step x hx ha).2 s z⟩
    rw [zeN, nsum_cong (g := fun _ => 0) _ (fun x hx => by
      split
      · next q => exact (step x hx q).1
      · rfl)]
    induction vg V with
    | zero => rfl
    | succ n ih => exact ih
theorem nsum_one (l K : Nat) : ∀ m, nsum (fun g => if g = l then K else 0) m = if l < m then K else 0
  | 0 => rfl
  | m + 1 => by
    rw [nsum, nsum_one l K m]
    by_cases q : m = l
    · rw [if_pos q, if_neg (by omega), if_pos (by omega), Nat.zero_add]
    · rw [if_neg q]
      by_cases q2 : l < m
      · rw [if_pos q2, if_pos (by omega), Nat.add_zero]
      · rw [if_neg q2, if_neg (by omega)]
theorem nsum_add (f g : Nat → Nat) : ∀ m, nsum (fun i => f i + g i) m = nsum f m + nsum g m
  | 0 => rfl
  | m + 1 => by
    rw [nsum, nsum, nsum, nsum_add f g m]
    omega
/-- the last one goes on, or another begins -/
theorem zcN_e {V : zV} {k c : Nat} {w : Nat → Nat} (hc : 0 < c) (hl : w (c - 1) < vg V) : zcN V (k + 1) c w = zeN V (k + 1) c w + zcN V k (c + 1) (zupd w c (w (c - 1))) := by
  have hno : ¬ zcnw c w (w (c - 1)) := fun z => z (c - 1) (by omega) rfl
  have e1 := nsum_one (w (c - 1)) (zcN V k (c + 1) (zupd w c (w (c - 1)))) (vg V)
  rw [if_pos hl] at e1
  rw [zcN, zeN, ← e1, ← nsum_add]
  refine nsum_cong _ (fun g hg => ?_)
  by_cases q : g = w (c - 1)
  · subst q
    rw [if_pos (Or.inr ⟨hc, rfl⟩), if_neg hno, if_pos rfl, Nat.zero_add]
  · rw [if_neg q, Nat.add_zero]
    by_cases q2 : zcnw c w g
    · rw [if_pos (Or.inl q2), if_pos q2]
      rfl
    · rw [if_neg (fun z => z.elim q2 (fun y => q y.2.symm)), if_neg q2]
theorem zcl_e {V : zV} {k c : Nat} {w : Nat → Nat} (hc : 0 < c) (hl : w (c - 1) < vg V) (s : Nat → Nat) : zcl V (k + 1) c w s ↔ zcel V (k + 1) c w s ∨ zcl V k (c + 1) (zupd w c (w (c - 1))) s := by
  constructor
  · rintro ⟨g, hg, ha, z⟩
    rcases ha with q | ⟨-, q⟩
    · exact Or.inl ⟨g, hg, q, z⟩
    · rw [q]
      exact Or.inr z
  · rintro (⟨g, hg, ha, z⟩ | z)
    · exact ⟨g, hg, Or.inl ha, z⟩
    · exact ⟨w (c - 1), hl, Or.inr ⟨hc, rfl⟩, z⟩
theorem zcN_00 (V : zV) (k : Nat) (w : Nat → Nat) : zcN V k 0 w = zeN V k 0 w := by
  cases k with
  | zero => rfl
  | succ k =>
    rw [zcN, zeN]
    refine nsum_cong _ (fun g hg => ?_)
    have e : zcnw 0 w g := fun i hi => absurd hi (Nat.not_lt_zero _)
    rw [if_pos (Or.inl e), if_pos e]
theorem zcl_00 (V : zV) (k : Nat) (w s : Nat → Nat) : zcl V k 0 w s ↔ zcel V k 0 w s := by
  cases k with
  | zero => exact Iff.rfl
  | succ k =>
    have e : ∀ g, zcnw 0 w g := fun g i hi => absurd hi (Nat.not_lt_zero _)
    exact ⟨fun ⟨g, hg, _, z⟩ => ⟨g, hg, e g, z⟩, fun ⟨g, hg, _, z⟩ => ⟨g, hg, Or.inl (e g), z⟩⟩
/-- compared from the first cell on -/
def zlx (n : Nat) (a b : Nat → Nat) : Prop := ∃ c, c < n ∧ (∀ i, i < c → a i = b i) ∧ a c < b c
theorem zlx_tot {n : Nat} {a b : Nat → Nat} (h1 : ¬ zlx n a b) (h2 : ¬ zlx n b a) : ∀ i, i < n → a i = b i := by
  have key : ∀ c, c ≤ n → ∀ i, i < c → a i = b i := by
    intro c
    induction c with
    | zero => intro _ i hi; exact absurd hi (Nat.not_lt_zero _)
    | succ c ih =>
      intro hc i hi
      have ih2 := ih (by omega)
      by_cases q : i = c
      · subst q
        rcases Nat.lt_trichotomy (a i) (b i) with z | z | z
        · exact absurd ⟨i, by omega, ih2, z⟩ h1
        · exact z
        · exact absurd ⟨i, by omega, fun j hj => (ih2 j hj).symm, z⟩ h2
      · exact ih2 i (by omega)
  exact key n (Nat.le_refl n)
theorem zcl_pre {V : zV} : ∀ (k c : Nat) (w s : Nat → Nat), zcl V k c w s → ∀ i, i < c → s i = w i
  | 0, c, w, s, h => h.2
  | k + 1, c, w, s, ⟨g, hg, ha, z⟩ => fun i hi => by
    rw [zcl_pre k (c + 1) _ s z i (by omega), zupd_lt hi]
theorem zcl_at {V : zV} {k c g : Nat} {w s : Nat → Nat} (h : zcl V k (c + 1) (zupd w c g) s) : s c = g := by
  rw [zcl_pre k (c + 1) _ s h c (Nat.lt_succ_self c), zupd_at]
theorem zfi_is {α : Type} {f : Nat → Option α} {x : α} : ∀ m, zfi f m = some x → ∃ i, i < m ∧ f i = some x ∧ ∀ j, j < i → f j = none
  | 0, h => by cases h
  | m + 1, h => by
    rw [zfi] at h
    cases e : zfi f m with
    | some y =>
      rw [e] at h
      cases h
      obtain ⟨i, hi, h1, h2⟩ := zfi_is m e
      exact ⟨i, by omega, h1, h2⟩
    | none =>
      rw [e] at h
      refine ⟨m, Nat.lt_succ_self m, h, fun j hj => ?_⟩
      cases e2 : f j with
      | none => rfl
      | some y => exact absurd e (zfi_some (by rw [e2]; exact fun z => by cases z) m hj)
theorem zcF_sp {V : zV} : ∀ (k c : Nat) (w : Nat → Nat), c + k = vn V → (zcF V k c w = none → zcN V k c w = 0 ∧ ∀ s, ¬ zcl V k c w s) ∧ ∀ f, zcF V k c w = some f → 0 < zcN V k c w ∧ zcl V k c w f ∧ ∀ s, zcl V k c w s → ¬ zlx (vn V) s f
  | 0, c, w, hc => by
    rw [zcF, zcN]
    by_cases e : zcal V w
    · rw [if_pos e, if_pos e]
      refine ⟨fun z => (by cases z), fun f hf => ?_⟩
      cases hf
      refine ⟨Nat.one_pos, ⟨e, fun i hi => rfl⟩, fun s hs ⟨i, hi, h1, h2⟩ => ?_⟩
      have := hs.2 i (by omega)
      omega
    · rw [if_neg e, if_neg e]
      exact ⟨fun _ => ⟨rfl, fun s z => e z.1⟩, fun f hf => by cases hf⟩
  | k + 1, c, w, hc => by
    rw [zcF, zcN]
    have ih := fun g => zcF_sp (V := V) k (c + 1) (zupd w c g) (by omega)
    refine ⟨fun h => ?_, fun f h => ?_⟩
    · have hn : ∀ g, g < vg V → zcal2 c w g → zcF V k (c + 1) (zupd w c g) = none := fun g hg ha => by
        cases e : zcF V k (c + 1) (zupd w c g) with
        | none => rfl
        | some y => exact absurd h (zfi_some (i := g) (by rw [if_pos ha, e]; exact fun z => by cases z) _ hg)
      refine ⟨?_, fun s ⟨g, hg, ha, z⟩ => ((ih g).1 (hn g hg ha)).2 s z⟩
      rw [nsum_cong (g := fun _ => 0) _ (fun g hg => by
        split
        · next q => exact ((ih g).1 (hn g hg q)).1
        · rfl)]
      induction vg V with
      | zero => rfl
      | succ n ih => exact ih
    · obtain ⟨g, hg, h1, h2⟩ := zfi_is _ h
      by_cases ha : zcal2 c w g
      · rw [if_pos ha] at h1
        obtain ⟨i1, i2, i3⟩ := (ih g).2 f h1
        refine ⟨?_, ⟨g, hg, ha, i2⟩, fun s ⟨x, hx, hax, z⟩ hlt => ?_⟩
        · have : nsum (fun g2 => if g2 = g then zcN V k (c + 1) (zupd w c g) else 0) (vg V) ≤ nsum (fun g => if zcal2 c w g then zcN V k (c + 1) (zupd w c g) else 0) (vg V) := nsum_mono2 _ (fun x hx => by
            by_cases q : x = g
            · subst q
              rw [if_pos rfl, if_pos ha]
              exact Nat.le_refl _
            · rw [if_neg q]
              exact Nat.zero_le _)
          rw [nsum_one, if_pos hg] at this
          omega
        · have s1 := zcl_at z
          have f1 := zcl_at i2
          have sp := fun i (hi : i < c) => (zcl_pre k (c + 1) _ s z i (by omega)).trans (zupd_lt hi)
          have fp := fun i (hi : i < c) => (zcl_pre k (c + 1) _ f i2 i (by omega)).trans (zupd_lt hi)
          rcases Nat.lt_trichotomy x g with q | q | q
          · have := h2 x q
            rw [if_pos hax] at this
            exact ((ih x).1 this).2 s z
          · subst q
            exact i3 s z hlt
          · obtain ⟨d, hd, hd1, hd2⟩ := hlt
            rcases Nat.lt_trichotomy d c with y | y | y
            · rw [sp d y, fp d y] at hd2
              omega
            · subst y
              omega
            · have := hd1 c y
              omega
      · rw [if_neg ha] at h1
        cases h1
/-! there are not many -/
def zcun (V : zV) (c : Nat) (w : Nat → Nat) : Nat := nsum (fun g => if zcnw c w g then 1 else 0) (vg V)
theorem nsum_k (p : Nat → Prop) [DecidablePred p] (K : Nat) : ∀ m, nsum (fun g => if p g then K else 0) m = nsum (fun g => if p g then 1 else 0) m * K
  | 0 => (Nat.zero_mul K).symm
  | m + 1 => by
    rw [nsum, nsum, nsum_k p K m, Nat.add_mul]
    congr 1
    split
    · exact (Nat.one_mul K).symm
    · exact (Nat.zero_mul K).symm
theorem zcun_s {V : zV} {c g : Nat} {w : Nat → Nat} (hg : g < vg V) (h : zcnw c w g) : zcun V (c + 1) (zupd w c g) + 1 = zcun V c w := by
  have e1 := nsum_one g 1 (vg V)
  rw [if_pos hg] at e1
  unfold zcun
  refine (congrArg (fun y => nsum (fun x => if zcnw (c + 1) (zupd w c g) x then 1 else 0) (vg V) + y) e1.symm).trans ?_
  rw [← nsum_add]
  refine nsum_cong _ (fun x hx => ?_)
  by_cases q : x = g
  · subst q
    rw [if_neg (fun z => z c (Nat.lt_succ_self c) (zupd_at w c x)), if_pos rfl, if_pos h]
  · rw [if_neg q, Nat.add_zero]
    by_cases q2 : zcnw c w x
    · rw [if_pos q2, if_pos (fun i hi => by
        by_cases y : i = c
        · rw [y, zupd_at]
          exact fun z => q z.symm
        · rw [zupd_lt (by omega)]
          exact q2 i (by omega))]
    · rw [if_neg q2, if_neg (fun z => q2 (fun i hi => by
        have := z i (by omega)
        rw [zupd_lt hi] at this
        exact this))]
theorem zcun_l {V : zV} {c g : Nat} {w : Nat → Nat} (h : ¬ zcnw c w g) : zcun V (c + 1) (zupd w c g) = zcun V c w := by
  refine nsum_cong _ (fun x hx => ?_)
  by_cases q : x = g
  · subst q
    rw [if_neg h, if_neg (fun z => z c (Nat.lt_succ_self c) (zupd_at w c x))]
  · by_cases q2 : zcnw c w x
    · rw [if_pos q2, if_pos (fun i hi => by
        by_cases y : i = c
        · rw [y, zupd_at]
          exact fun z => q z.symm
        · rw [zupd_lt (by omega)]
          exact q2 i (by omega))]
    · rw [if_neg q2, if_neg (fun z => q2 (fun i hi => by
        have := z i (by omega)
        rw [zupd_lt hi] at this
        exact this))]
theorem zbin : ∀ u, u < 5 → ∀ k, k < 17 → (k + 1) ^ u + u * (k + 1) ^ (u - 1) ≤ (k + 2) ^ u := by decide +kernel
theorem zcun_le (V : zV) (c : Nat) (w : Nat → Nat) : zcun V c w ≤ vg V := by
  have := nsum_le (g := fun g => if zcnw c w g then 1 else 0) (b := 1) (vg V) (fun k hk => by
    split <;> omega)
  unfold zcun
  omega
theorem zcN_le {V : zV} (h4 : vg V ≤ 4) : ∀ (k c : Nat) (w : Nat → Nat), k ≤ 16 → zcN V k c w ≤ (k + 1) ^ zcun V c w
  | 0, c, w, _ => by
    rw [zcN, Nat.zero_add, Nat.one_pow]
    split <;> omega
  | k + 1, c, w, hk => by
    have hu := zcun_le V c w
    have hb := zbin (zcun V c w) (by omega) k (by omega)
    refine Nat.le_trans ?_ hb
    have e2 := nsum_one (w (c - 1)) ((k + 1) ^ zcun V c w) (vg V)
    have e3 := nsum_k (fun g => zcnw c w g) ((k + 1) ^ (zcun V c w - 1)) (vg V)
    have l1 : nsum (fun g => if zcal2 c w g then zcN V k (c + 1) (zupd w c g) else 0) (vg V) ≤ nsum (fun g => (if g = w (c - 1) then (k + 1) ^ zcun V c w else 0) + (if zcnw c w g then (k + 1) ^ (zcun V c w - 1) else 0)) (vg V) := nsum_mono2 _ (fun g hg => by
      have ih := zcN_le h4 k (c + 1) (zupd w c g) (by omega)
      by_cases q : zcnw c w g
      · rw [if_pos q, if_pos (Or.inl q)]
        have e := zcun_s hg q
        rw [show zcun V (c + 1) (zupd w c g) = zcun V c w - 1 by omega] at ih
        omega
      · rw [if_neg q]
        by_cases q2 : 0 < c ∧ w (c - 1) = g
        · rw [if_pos (Or.inr q2), if_pos q2.2.symm]
          rw [zcun_l q] at ih
          omega
        · rw [if_neg (fun z => z.elim q q2)]
          exact Nat.zero_le _)
    rw [nsum_add, e2, e3] at l1
    rw [zcN]
    refine Nat.le_trans l1 ?_
    refine Nat.add_le_add ?_ (Nat.le_refl _)
    split
    · exact Nat.le_refl _
    · exact Nat.zero_le _
theorem zcN_31 {V : zV} (h4 : vg V ≤ 4) {k c : Nat} {w : Nat → Nat} (hk : k ≤ 16) : zcN V k c w ≤ 2 ^ 20 := by
  have h1 := zcN_le h4 k c w hk
  have h2 := zcun_le V c w
  have h3 : (k + 1) ^ zcun V c w ≤ 17 ^ 4 := Nat.le_trans (Nat.pow_le_pow_left (by omega) _) (Nat.pow_le_pow_right (by decide) (by omega))
  omega
