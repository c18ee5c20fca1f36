/-! ===== the row that an order gives; the best so far, as orders are tried one after another ===== -/
def zoE (R : Nat → Nat → Nat) : List Nat → Nat → Nat
  | [], s => s
  | i :: l, s => zoE R l (R i s)
def zoW (R : Nat → Nat → Nat) : List Nat → Nat → List Int32
  | [], _ => []
  | i :: l, s => nI i :: (if R i s = s then -1 else nI (R i s) - 1) :: zoW R l (R i s)
theorem zoE_app (R : Nat → Nat → Nat) : ∀ l1 l2 s, zoE R (l1 ++ l2) s = zoE R l2 (zoE R l1 s)
  | [], _, _ => rfl
  | i :: l1, l2, s => zoE_app R l1 l2 (R i s)
theorem zoW_app (R : Nat → Nat → Nat) : ∀ l1 l2 s, zoW R (l1 ++ l2) s = zoW R l1 s ++ zoW R l2 (zoE R l1 s)
  | [], _, _ => rfl
  | i :: l1, l2, s => by
    show nI i :: _ :: zoW R (l1 ++ l2) (R i s) = _
    rw [zoW_app R l1 l2 (R i s)]
    rfl
theorem zoW_len (R : Nat → Nat → Nat) : ∀ l s, (zoW R l s).length = 2 * l.length
  | [], _ => rfl
  | i :: l, s => by
    show (zoW R l (R i s)).length + 1 + 1 = 2 * (l.length + 1)
    rw [zoW_len R l (R i s)]
    omega
/-- o is less than q at the first place where they are apart -/
def zsd (o q : List Nat) : Prop := ∃ r a b o2 q2, o = r ++ a :: o2 ∧ q = r ++ b :: q2 ∧ a < b ∧ b < 6
def zsL (o q : List Nat) (g : Nat) : Prop := zsd o q ∨ ∃ a l, o = q ++ a :: l ∧ a < g
theorem zsd_at {o q : List Nat} {g : Nat} (hg : g < 6) (h : zsL o q g) : zsd o (q ++ [g]) := by
  rcases h with ⟨r, a, b, o2, q2, rfl, rfl, h⟩ | ⟨a, l, rfl, h⟩
  · exact ⟨r, a, b, o2, q2 ++ [g], rfl, by rw [List.append_assoc]; rfl, h⟩
  · exact ⟨q, a, g, l, [], rfl, rfl, h, hg⟩
theorem zsL_s {o q : List Nat} {g : Nat} (h : zsL o q g) : zsL o q (g + 1) := by
  rcases h with h | ⟨a, l, rfl, h⟩
  · exact Or.inl h
  · exact Or.inr ⟨a, l, rfl, by omega⟩
def zoA (m : Nat) (R : Nat → Nat → Nat) (k mask s i : Nat) : Nat := if mask.testBit i then zoG m R k (zrm mask i) (R i s) else 17
def zoB (m : Nat) (R : Nat → Nat → Nat) (k mask s e i : Nat) : Option (List Nat) := if mask.testBit i = true ∧ R i s ≤ e then (zoF m R k (zrm mask i) (R i s) e).map (fun l => i :: l) else none
theorem zoG_A (m : Nat) (R : Nat → Nat → Nat) (k mask s : Nat) : zoG m R (k + 1) mask s = zmn (zoA m R k mask s) m := rfl
theorem zoF_B (m : Nat) (R : Nat → Nat → Nat) (k mask s e : Nat) : zoF m R (k + 1) mask s e = zfi (zoB m R k mask s e) m := rfl
theorem zoB_no {n m : Nat} {R : Nat → Nat → Nat} (h : zoR n m R) {k mask s e i : Nat} (hi : i < m) (hs : s ≤ 17) (he : e < zoA m R k mask s i) : zoB m R k mask s e i = none := by
  unfold zoB
  split
  · next q =>
    unfold zoA at he
    rw [if_pos q.1] at he
    rw [zoF_no h k _ _ e (zoR_17 h hi hs) he]
    rfl
  · rfl
theorem zoB_some {n m : Nat} {R : Nat → Nat → Nat} (h : zoR n m R) {k mask s i : Nat} (hi : i < m) (hs : s ≤ 17) (he : zoA m R k mask s i ≤ 16) : ∃ l, zoF m R k (zrm mask i) (R i s) (zoA m R k mask s i) = some l ∧ mask.testBit i = true ∧ zoB m R k mask s (zoA m R k mask s i) i = some (i :: l) := by
  by_cases c : mask.testBit i = true
  · have e9 : zoA m R k mask s i = zoG m R k (zrm mask i) (R i s) := if_pos c
    rw [e9] at he ⊢
    have h1 := zoR_17 h hi hs
    cases e : zoF m R k (zrm mask i) (R i s) (zoG m R k (zrm mask i) (R i s)) with
    | none => exact absurd e (zoF_some h k _ _ h1 he)
    | some l =>
      refine ⟨l, rfl, c, ?_⟩
      unfold zoB
      rw [if_pos ⟨c, zoG_s h k _ _ h1⟩, e]
      rfl
  · have e9 : zoA m R k mask s i = 17 := if_neg c
    omega
theorem zfiB_no {n m : Nat} {R : Nat → Nat → Nat} (h : zoR n m R) {k mask s e t : Nat} (ht : t ≤ m) (hs : s ≤ 17) (he : e < zmn (zoA m R k mask s) t) : zfi (zoB m R k mask s e) t = none :=
  zfi_no t (fun i hi => zoB_no h (by omega) hs (Nat.lt_of_lt_of_le he (zmn_le hi)))
theorem zfiB_some {n m : Nat} {R : Nat → Nat → Nat} (h : zoR n m R) {k mask s t : Nat} (ht : t ≤ m) (hs : s ≤ 17) (he : zmn (zoA m R k mask s) t ≤ 16) : ∃ l, zfi (zoB m R k mask s (zmn (zoA m R k mask s) t)) t = some l := by
  rcases zmn_at (zoA m R k mask s) t with q | ⟨i, hi, q⟩
  · omega
  · rw [← q] at he ⊢
    obtain ⟨l, -, -, e⟩ := zoB_some h (show i < m by omega) hs he
    cases e2 : zfi (zoB m R k mask s (zoA m R k mask s i)) t with
    | none => exact absurd e2 (zfi_some (i := i) (by rw [e]; exact fun z => by cases z) t hi)
    | some x => exact ⟨x, rfl⟩
/-- the best so far, behind all orders of the set k behind pre; behind those that begin with the first t -/
def zsv (n m : Nat) (R : Nat → Nat → Nat) (k mask : Nat) (pre : List Nat) (s : Nat) (S : Nat × List Nat) : Nat × List Nat := if zoG m R k mask s ≤ n ∧ zoG m R k mask s < S.1 then (zoG m R k mask s, pre ++ (zoF m R k mask s (zoG m R k mask s)).getD []) else S
def zoT (n m : Nat) (R : Nat → Nat → Nat) (k mask : Nat) (pre : List Nat) (s : Nat) (S : Nat × List Nat) (t : Nat) : Nat × List Nat := if zmn (zoA m R k mask s) t ≤ n ∧ zmn (zoA m R k mask s) t < S.1 then (zmn (zoA m R k mask s) t, pre ++ (zfi (zoB m R k mask s (zmn (zoA m R k mask s) t)) t).getD []) else S
theorem zoT_0 {n m : Nat} {R : Nat → Nat → Nat} {k mask : Nat} {pre : List Nat} {s : Nat} {S : Nat × List Nat} (hn : n ≤ 16) : zoT n m R k mask pre s S 0 = S := by
  unfold zoT
  rw [if_neg (fun z => by have : (17 : Nat) ≤ n := z.1; omega)]
theorem zoT_m (n m : Nat) (R : Nat → Nat → Nat) (k mask : Nat) (pre : List Nat) (s : Nat) (S : Nat × List Nat) : zoT n m R k mask pre s S m = zsv n m R (k + 1) mask pre s S := rfl
theorem zfi_s {α : Type} {f : Nat → Option α} {t : Nat} {x : α} (h : zfi f t = some x) : zfi f (t + 1) = some x := by rw [zfi, h]
theorem zfi_n {α : Type} {f : Nat → Option α} {t : Nat} (h : zfi f t = none) : zfi f (t + 1) = f t := by rw [zfi, h]
theorem zfi_u {α : Type} {f : Nat → Option α} {t : Nat} {x : α} (h : zfi f t = some x) : ∀ k, zfi f (t + k) = some x
  | 0 => h
  | k + 1 => zfi_s (zfi_u h k)
theorem zoT_A {n m : Nat} {R : Nat → Nat → Nat} (h : zoR n m R) {k mask : Nat} {pre : List Nat} {s t : Nat} {S : Nat × List Nat} (ht : t < m) (hs : s ≤ 17) (h17 : zoA m R k mask s t = 17) : zoT n m R k mask pre s S (t + 1) = zoT n m R k mask pre s S t := by
  have hn := h.1.1
  have e : zmn (zoA m R k mask s) (t + 1) = zmn (zoA m R k mask s) t := by
    rw [zmn, h17]
    exact Nat.min_eq_left (zmn_17 _ _)
  unfold zoT
  rw [e]
  by_cases c : zmn (zoA m R k mask s) t ≤ n ∧ zmn (zoA m R k mask s) t < S.1
  · obtain ⟨l, el⟩ := zfiB_some h (show t ≤ m by omega) hs (show zmn (zoA m R k mask s) t ≤ 16 by omega)
    rw [if_pos c, if_pos c, zfi_s el, el]
  · rw [if_neg c, if_neg c]
theorem zoT_B {n m : Nat} {R : Nat → Nat → Nat} (h : zoR n m R) {k mask : Nat} {pre : List Nat} {s t : Nat} {S : Nat × List Nat} (ht : t < m) (hs : s ≤ 17) (hb : mask.testBit t = true) : zoT n m R k mask pre s S (t + 1) = zsv n m R k (zrm mask t) (pre ++ [t]) (R t s) (zoT n m R k mask pre s S t) := by
  have hn := h.1.1
  have eA : zoA m R k mask s t = zoG m R k (zrm mask t) (R t s) := if_pos hb
  have es : zmn (zoA m R k mask s) (t + 1) = min (zmn (zoA m R k mask s) t) (zoA m R k mask s t) := rfl
  have e1 : zsv n m R k (zrm mask t) (pre ++ [t]) (R t s) (zoT n m R k mask pre s S t) = if zoA m R k mask s t ≤ n ∧ zoA m R k mask s t < (zoT n m R k mask pre s S t).1 then (zoA m R k mask s t, pre ++ [t] ++ (zoF m R k (zrm mask t) (R t s) (zoA m R k mask s t)).getD []) else zoT n m R k mask pre s S t := by
    rw [eA]
    rfl
  rw [e1]
  have one : zoA m R k mask s t ≤ n → zoA m R k mask s t < zmn (zoA m R k mask s) t → zoA m R k mask s t < S.1 → zoT n m R k mask pre s S (t + 1) = (zoA m R k mask s t, pre ++ [t] ++ (zoF m R k (zrm mask t) (R t s) (zoA m R k mask s t)).getD []) := fun q1 q2 q3 => by
    obtain ⟨l, el, -, eB⟩ := zoB_some h ht hs (show zoA m R k mask s t ≤ 16 by omega)
    unfold zoT
    rw [es, Nat.min_eq_right (by omega), if_pos ⟨q1, q3⟩, zfi_n (zfiB_no h (by omega) hs q2), eB, el]
    simp
  by_cases c : zmn (zoA m R k mask s) t ≤ n ∧ zmn (zoA m R k mask s) t < S.1
  · have eT : zoT n m R k mask pre s S t = (zmn (zoA m R k mask s) t, pre ++ (zfi (zoB m R k mask s (zmn (zoA m R k mask s) t)) t).getD []) := if_pos c
    by_cases d : zoA m R k mask s t ≤ n ∧ zoA m R k mask s t < (zoT n m R k mask pre s S t).1
    · rw [if_pos d]
      rw [eT] at d
      exact one d.1 d.2 (Nat.lt_trans d.2 c.2)
    · rw [if_neg d]
      rw [eT] at d ⊢
      have le : zmn (zoA m R k mask s) t ≤ zoA m R k mask s t := Nat.not_lt.mp (fun z => d ⟨by omega, z⟩)
      obtain ⟨l, el⟩ := zfiB_some h (show t ≤ m by omega) hs (show zmn (zoA m R k mask s) t ≤ 16 by omega)
      unfold zoT
      rw [es, Nat.min_eq_left le, if_pos c, zfi_s el, el]
  · have eT : zoT n m R k mask pre s S t = S := if_neg c
    rw [eT]
    by_cases d : zoA m R k mask s t ≤ n ∧ zoA m R k mask s t < S.1
    · rw [if_pos d]
      exact one d.1 (Nat.not_le.mp (fun z => c ⟨by omega, by omega⟩)) d.2
    · rw [if_neg d]
      unfold zoT
      rw [es]
      rcases Nat.le_total (zmn (zoA m R k mask s) t) (zoA m R k mask s t) with q | q
      · rw [Nat.min_eq_left q, if_neg c]
      · rw [Nat.min_eq_right q, if_neg d]
/-- all guests, each to p in 100 of its due -/
def zgP (V : zV) (p : Nat) : zPl := (vg V, fun i => i, fun _ => vA V * 100, fun j => vdN V j * vS V j (vn V) * p)
theorem zgP_d {V : zV} (hV : ZV V) (hn : vn V ≤ 16) (hg : vg V ≤ 6) {p : Nat} (hp : p ≤ 1000) : zPd V (zgP V p) := by
  refine ⟨hg, hn, fun i hi => ⟨hi, ?_, ?_⟩⟩
  · have := vA_le hV
    show vA V * 100 ≤ 2 ^ 40
    omega
  · have h1 := (vdN_eq hV hi).2
    have h2 := vS_le V i (vn V)
    have h3 : vdN V i * vS V i (vn V) * p ≤ 999 * 15984 * 1000 := zm3 h1 (by omega) hp
    show vdN V i * vS V i (vn V) * p < 2 ^ 62
    omega
theorem zdw_i (V : zV) (j v p : Nat) : zdw V j v p = ¬ (zgP V p).2.2.2 j ≤ v * (zgP V p).2.2.1 j := by
  show (v * vA V * 100 < vdN V j * vS V j (vn V) * p) = ¬ vdN V j * vS V j (vn V) * p ≤ v * (vA V * 100)
  rw [Nat.mul_assoc v (vA V) 100]
  exact propext Nat.not_le.symm
def zgR (V : zV) (p : Nat) : Nat → Nat → Nat := zPR V (zgP V p)
