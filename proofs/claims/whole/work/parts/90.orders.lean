/-! ===== who is served behind whom: all orders, the least end, the first order that has it ===== -/
/-- the set k without i -/
def zrm (k i : Nat) : Nat := k - 2 ^ i
theorem zrm_b : ∀ k, k < 64 → ∀ i, i < 6 → k.testBit i = true → zrm k i < k ∧ zbc k = zbc (zrm k i) + 1 ∧ (∀ j, j < 6 → (zrm k i).testBit j = (k.testBit j && !(j == i))) := by decide +kernel
theorem zrm_I : ∀ k, k < 64 → ∀ i, i < 6 → k.testBit i = true → nI k &&& (zf_shl 1 (nI i) ^^^ -1) = nI (zrm k i) := by decide +kernel
theorem zbc_0 : ∀ k, k < 64 → (zbc k = 0 ↔ k = 0) := by decide +kernel
theorem zbc_6 : ∀ k, k < 64 → zbc k ≤ 6 := by decide +kernel
theorem zrm_x {k i j : Nat} (hk : k < 64) (hi : i < 6) (hj : j < 6) : (k.testBit i = true ∧ (zrm k i).testBit j = true) ↔ (k.testBit j = true ∧ (zrm k j).testBit i = true) := by
  constructor
  · rintro ⟨h1, h2⟩
    rw [(zrm_b k hk i hi h1).2.2 j hj, Bool.and_eq_true, Bool.not_eq_true', beq_eq_false_iff_ne] at h2
    refine ⟨h2.1, ?_⟩
    rw [(zrm_b k hk j hj h2.1).2.2 i hi, Bool.and_eq_true, Bool.not_eq_true', beq_eq_false_iff_ne]
    exact ⟨h1, Ne.symm h2.2⟩
  · rintro ⟨h1, h2⟩
    rw [(zrm_b k hk j hj h1).2.2 i hi, Bool.and_eq_true, Bool.not_eq_true', beq_eq_false_iff_ne] at h2
    refine ⟨h2.1, ?_⟩
    rw [(zrm_b k hk i hi h2.1).2.2 j hj, Bool.and_eq_true, Bool.not_eq_true', beq_eq_false_iff_ne]
    exact ⟨h1, Ne.symm h2.2⟩
theorem zrm_c (k i j : Nat) : zrm (zrm k i) j = zrm (zrm k j) i := Nat.sub_right_comm k (2 ^ i) (2 ^ j)
/-- the least of 17 and f 0 .. f (m - 1) -/
def zmn (f : Nat → Nat) : Nat → Nat
  | 0 => 17
  | m + 1 => min (zmn f m) (f m)
theorem zmn_iff {f : Nat → Nat} {c : Nat} : ∀ {m}, c ≤ zmn f m ↔ c ≤ 17 ∧ ∀ i, i < m → c ≤ f i
  | 0 => ⟨fun h => ⟨h, fun i hi => absurd hi (Nat.not_lt_zero _)⟩, fun h => h.1⟩
  | m + 1 => by
    rw [zmn, Nat.le_min, zmn_iff (m := m)]
    constructor
    · rintro ⟨⟨h1, h2⟩, h3⟩
      refine ⟨h1, fun i hi => ?_⟩
      by_cases q : i = m
      · rw [q]
        exact h3
      · exact h2 i (by omega)
    · rintro ⟨h1, h2⟩
      exact ⟨⟨h1, fun i hi => h2 i (by omega)⟩, h2 m (by omega)⟩
theorem zmn_17 (f : Nat → Nat) (m : Nat) : zmn f m ≤ 17 := (zmn_iff.mp (Nat.le_refl _)).1
theorem zmn_le {f : Nat → Nat} {m i : Nat} (h : i < m) : zmn f m ≤ f i := (zmn_iff.mp (Nat.le_refl _)).2 i h
theorem zmn_ext {f g : Nat → Nat} : ∀ m, (∀ i, i < m → f i = g i) → zmn f m = zmn g m
  | 0, _ => rfl
  | m + 1, h => by rw [zmn, zmn, zmn_ext m (fun i hi => h i (by omega)), h m (by omega)]
theorem zmn_at (f : Nat → Nat) : ∀ m, zmn f m = 17 ∨ ∃ i, i < m ∧ f i = zmn f m
  | 0 => Or.inl rfl
  | m + 1 => by
    rw [zmn]
    rcases Nat.le_total (zmn f m) (f m) with q | q
    · rw [Nat.min_eq_left q]
      rcases zmn_at f m with q2 | ⟨i, hi, q2⟩
      · exact Or.inl q2
      · exact Or.inr ⟨i, by omega, q2⟩
    · rw [Nat.min_eq_right q]
      exact Or.inr ⟨m, by omega, rfl⟩
/-- where each of m members gets to from a place; 17: not at all -/
def zoR (n m : Nat) (R : Nat → Nat → Nat) : Prop := (n ≤ 16 ∧ m ≤ 6) ∧ (∀ i s t, i < m → s ≤ t → t ≤ 17 → R i s ≤ R i t) ∧ (∀ i s, i < m → s ≤ 17 → R i s ≤ n ∨ R i s = 17) ∧ (∀ i s, i < m → s ≤ 17 → s ≤ R i s) ∧ ∀ i, i < m → R i 17 = 17
theorem zoR_17 {n m : Nat} {R : Nat → Nat → Nat} (h : zoR n m R) {i s : Nat} (hi : i < m) (hs : s ≤ 17) : R i s ≤ 17 := by
  have h0 := h.1.1
  rcases h.2.2.1 i s hi hs with q | q <;> omega
theorem zoR_mn {n m : Nat} {R : Nat → Nat → Nat} (h : zoR n m R) {i : Nat} (hi : i < m) (f : Nat → Nat) : ∀ k, (∀ j, j < k → f j ≤ 17) → R i (zmn f k) = zmn (fun j => R i (f j)) k
  | 0, _ => h.2.2.2.2 i hi
  | k + 1, hf => by
    have e := zoR_mn h hi f k (fun j hj => hf j (by omega))
    rw [zmn, zmn, ← e]
    have h1 := zmn_17 f k
    have h2 := hf k (by omega)
    rcases Nat.le_total (zmn f k) (f k) with q | q
    · rw [Nat.min_eq_left q, Nat.min_eq_left (h.2.1 i _ _ hi q h2)]
    · rw [Nat.min_eq_right q, Nat.min_eq_right (h.2.1 i _ _ hi q h1)]
/-- the least end of the members k from s on: by the first of them -/
def zoG (m : Nat) (R : Nat → Nat → Nat) : Nat → Nat → Nat → Nat
  | 0, _, s => s
  | k + 1, mask, s => zmn (fun i => if mask.testBit i then zoG m R k (zrm mask i) (R i s) else 17) m
/-- by the last of them -/
def zoL (m : Nat) (R : Nat → Nat → Nat) : Nat → Nat → Nat → Nat
  | 0, _, s => s
  | k + 1, mask, s => zmn (fun i => if mask.testBit i then R i (zoL m R k (zrm mask i) s) else 17) m
theorem zoG_17 {n m : Nat} {R : Nat → Nat → Nat} (h : zoR n m R) : ∀ k mask s, s ≤ 17 → zoG m R k mask s ≤ 17
  | 0, _, _, hs => hs
  | k + 1, mask, s, _ => zmn_17 _ m
theorem zoL_17 {n m : Nat} {R : Nat → Nat → Nat} (h : zoR n m R) : ∀ k mask s, s ≤ 17 → zoL m R k mask s ≤ 17
  | 0, _, _, hs => hs
  | k + 1, mask, s, _ => zmn_17 _ m
theorem zoL_n {n m : Nat} {R : Nat → Nat → Nat} (h : zoR n m R) : ∀ k mask s, s ≤ n → zoL m R k mask s ≤ n ∨ zoL m R k mask s = 17
  | 0, _, _, hs => Or.inl hs
  | k + 1, mask, s, hs => by
    rw [zoL]
    rcases zmn_at (fun i => if mask.testBit i then R i (zoL m R k (zrm mask i) s) else 17) m with q | ⟨i, hi, q⟩
    · exact Or.inr q
    · rw [← q]
      split
      · exact h.2.2.1 i _ hi (zoL_17 h k _ s (by have := h.1.1; omega))
      · exact Or.inr rfl
theorem zoG_s {n m : Nat} {R : Nat → Nat → Nat} (h : zoR n m R) : ∀ k mask s, s ≤ 17 → s ≤ zoG m R k mask s
  | 0, _, _, _ => Nat.le_refl _
  | k + 1, mask, s, hs => by
    rw [zoG, zmn_iff]
    refine ⟨hs, fun i hi => ?_⟩
    split
    · exact Nat.le_trans (h.2.2.2.1 i s hi hs) (zoG_s h k _ _ (zoR_17 h hi hs))
    · exact hs
theorem zmn_sw (m : Nat) (f : Nat → Nat → Nat) : zmn (fun i => zmn (f i) m) m = zmn (fun j => zmn (fun i => f i j) m) m := by
  have key : ∀ g : Nat → Nat → Nat, zmn (fun i => zmn (g i) m) m ≤ zmn (fun j => zmn (fun i => g i j) m) m := fun g => by
    refine zmn_iff.mpr ⟨zmn_17 _ _, fun j hj => zmn_iff.mpr ⟨zmn_17 _ _, fun i hi => ?_⟩⟩
    exact Nat.le_trans (zmn_le (f := fun i => zmn (g i) m) hi) (zmn_le hj)
  exact Nat.le_antisymm (key f) (key (fun i j => f j i))
theorem zoL_G {n m : Nat} {R : Nat → Nat → Nat} (h : zoR n m R) : ∀ k mask s, mask < 64 → s ≤ 17 → zbc mask = k → zoL m R k mask s = zoG m R k mask s
  | 0, _, _, _, _, _ => rfl
  | 1, mask, s, hm, hs, hk => by
    rw [zoL, zoG]
    rfl
  | k + 2, mask, s, hm, hs, hk => by
    have h6 := h.1.2
    have e1 : zoL m R (k + 2) mask s = zmn (fun i => zmn (fun j => if mask.testBit i = true ∧ (zrm mask i).testBit j = true then R i (zoG m R k (zrm (zrm mask i) j) (R j s)) else 17) m) m := by
      rw [zoL]
      refine zmn_ext m (fun i hi => ?_)
      by_cases c : mask.testBit i = true
      · obtain ⟨b1, b2, -⟩ := zrm_b mask hm i (by omega) c
        rw [if_pos c, zoL_G h (k + 1) (zrm mask i) s (by omega) hs (by omega), zoG, zoR_mn h hi _ m (fun j hj => by
          split
          · exact zoG_17 h _ _ _ (zoR_17 h hj hs)
          · exact Nat.le_refl _)]
        refine zmn_ext m (fun j hj => ?_)
        by_cases c2 : (zrm mask i).testBit j = true
        · rw [if_pos c2, if_pos ⟨c, c2⟩]
        · rw [if_neg c2, if_neg (fun z => c2 z.2)]
          exact h.2.2.2.2 i hi
      · rw [if_neg c]
        refine (Nat.le_antisymm (zmn_17 _ _) (zmn_iff.mpr ⟨Nat.le_refl _, fun j hj => ?_⟩)).symm
        rw [if_neg (fun z => c z.1)]
        exact Nat.le_refl _
    have e2 : zoG m R (k + 2) mask s = zmn (fun j => zmn (fun i => if mask.testBit i = true ∧ (zrm mask i).testBit j = true then R i (zoG m R k (zrm (zrm mask i) j) (R j s)) else 17) m) m := by
      rw [zoG]
      refine zmn_ext m (fun j hj => ?_)
      by_cases c : mask.testBit j = true
      · obtain ⟨b1, b2, -⟩ := zrm_b mask hm j (by omega) c
        rw [if_pos c, ← zoL_G h (k + 1) (zrm mask j) (R j s) (by omega) (zoR_17 h hj hs) (by omega), zoL]
        refine zmn_ext m (fun i hi => ?_)
        by_cases c2 : (zrm mask j).testBit i = true
        · obtain ⟨d1, d2, -⟩ := zrm_b (zrm mask j) (by omega) i (by omega) c2
          rw [if_pos c2, if_pos ((zrm_x hm (by omega) (by omega)).mpr ⟨c, c2⟩), zrm_c mask i j, zoL_G h k (zrm (zrm mask j) i) (R j s) (by omega) (zoR_17 h hj hs) (by omega)]
        · rw [if_neg c2, if_neg (fun z => c2 ((zrm_x hm (by omega) (by omega)).mp z).2)]
      · rw [if_neg c]
        refine (Nat.le_antisymm (zmn_17 _ _) (zmn_iff.mpr ⟨Nat.le_refl _, fun i hi => ?_⟩)).symm
        rw [if_neg (fun z => c ((zrm_x hm (by omega) (by omega)).mp z).1)]
        exact Nat.le_refl _
    rw [e1, e2]
    exact zmn_sw m _
/-- the first i below m at which there is something -/
def zfi {α : Type} (f : Nat → Option α) : Nat → Option α
  | 0 => none
  | m + 1 => match zfi f m with
    | some x => some x
    | none => f m
theorem zfi_no {α : Type} {f : Nat → Option α} : ∀ m, (∀ i, i < m → f i = none) → zfi f m = none
  | 0, _ => rfl
  | m + 1, h => by rw [zfi, zfi_no m (fun i hi => h i (by omega)), h m (by omega)]
theorem zfi_some {α : Type} {f : Nat → Option α} {i : Nat} (hf : f i ≠ none) : ∀ m, i < m → zfi f m ≠ none
  | 0, h => absurd h (Nat.not_lt_zero _)
  | m + 1, h => by
    rw [zfi]
    cases e : zfi f m with
    | some x => exact fun q => by cases q
    | none =>
      by_cases q : i = m
      · rw [← q]
        exact hf
      · exact absurd e (zfi_some hf m (by omega))
/-- the first order of the members k from s on that ends at the goal -/
def zoF (m : Nat) (R : Nat → Nat → Nat) : Nat → Nat → Nat → Nat → Option (List Nat)
  | 0, _, s, goal => if s = goal then some [] else none
  | k + 1, mask, s, goal => zfi (fun i => if mask.testBit i = true ∧ R i s ≤ goal then (zoF m R k (zrm mask i) (R i s) goal).map (fun l => i :: l) else none) m
theorem zoF_no {n m : Nat} {R : Nat → Nat → Nat} (h : zoR n m R) : ∀ k mask s goal, s ≤ 17 → goal < zoG m R k mask s → zoF m R k mask s goal = none
  | 0, _, s, goal, _, hg => by
    rw [zoF, if_neg (by rw [zoG] at hg; omega)]
  | k + 1, mask, s, goal, hs, hg => by
    rw [zoF]
    refine zfi_no m (fun i hi => ?_)
    split
    · next q =>
      have hg := Nat.lt_of_lt_of_le hg (zmn_le (f := fun i => if mask.testBit i then zoG m R k (zrm mask i) (R i s) else 17) hi)
      rw [if_pos q.1] at hg
      rw [zoF_no h k _ _ goal (zoR_17 h hi hs) hg]
      rfl
    · rfl
theorem zoF_some {n m : Nat} {R : Nat → Nat → Nat} (h : zoR n m R) : ∀ k mask s, s ≤ 17 → zoG m R k mask s ≤ 16 → zoF m R k mask s (zoG m R k mask s) ≠ none
  | 0, _, s, _, _ => by
    rw [zoF, zoG, if_pos rfl]
    exact fun q => by cases q
  | k + 1, mask, s, hs, hg => by
    rw [zoF]
    rcases zmn_at (fun i => if mask.testBit i then zoG m R k (zrm mask i) (R i s) else 17) m with q | ⟨i, hi, q⟩
    · rw [zoG] at hg
      omega
    · have eg : zoG m R (k + 1) mask s = zmn (fun i => if mask.testBit i then zoG m R k (zrm mask i) (R i s) else 17) m := rfl
      rw [← eg] at q
      refine zfi_some (i := i) ?_ m hi
      by_cases c : mask.testBit i = true
      · rw [if_pos c] at q
        have h1 := zoR_17 h hi hs
        have h2 := zoG_s h k (zrm mask i) (R i s) h1
        rw [if_pos ⟨c, by omega⟩]
        have ih := zoF_some h k (zrm mask i) (R i s) h1 (by omega)
        rw [q] at ih
        cases e : zoF m R k (zrm mask i) (R i s) (zoG m R (k + 1) mask s) with
        | none => exact absurd e ih
        | some l => exact fun z => by cases z
      · rw [if_neg c] at q
        omega
theorem zoF_len (m : Nat) (R : Nat → Nat → Nat) : ∀ k mask s goal l, zoF m R k mask s goal = some l → l.length = k ∧ ∀ i ∈ l, i < m
  | 0, _, s, goal, l, e => by
    rw [zoF] at e
    split at e
    · cases e
      exact ⟨rfl, fun i hi => by cases hi⟩
    · cases e
  | k + 1, mask, s, goal, l, e => by
    rw [zoF] at e
    have key : ∀ t, t ≤ m → zfi (fun i => if mask.testBit i = true ∧ R i s ≤ goal then (zoF m R k (zrm mask i) (R i s) goal).map (fun l => i :: l) else none) t = some l → l.length = k + 1 ∧ ∀ i ∈ l, i < m := by
      intro t
      induction t with
      | zero => intro _ q; cases q
      | succ t ih =>
        intro ht q
        rw [zfi] at q
        split at q
        · next x hx =>
          cases q
          exact ih (by omega) hx
        · split at q
          · obtain ⟨l2, e2, rfl⟩ := Option.map_eq_some_iff.mp q
            have := zoF_len m R k _ _ _ l2 e2
            refine ⟨by rw [List.length_cons, this.1], fun i hi => ?_⟩
            rcases List.mem_cons.mp hi with rfl | hi
            · omega
            · exact this.2 i hi
          · cases q
    exact key m (Nat.le_refl _) e
