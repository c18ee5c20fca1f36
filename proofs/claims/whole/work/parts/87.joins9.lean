theorem zgq_dig {s : Nat → Int32} {e : Nat} : ∀ m r, (zgq s e m r).1 = true → ∀ j, r ≤ j → j < (zgq s e m r).2.2 → ∀ t, t < 3 → zisd s e (4 * j + t)
  | 0, r, h => by cases h
  | m + 1, r, h => by
    intro j h1 h2 t ht
    rw [zgq] at h h2
    by_cases q : zln s e (4 * r) 3 < 3
    · rw [if_pos q] at h
      cases h
    · rw [if_neg q] at h h2
      have dig : j = r → zisd s e (4 * j + t) := fun y => by
        rw [y]
        exact zln_d 3 (4 * r) t (by omega)
      by_cases q2 : 4 * r + 3 < e ∧ s (4 * r + 3) = 59
      · rw [if_pos q2] at h h2
        by_cases y : j = r
        · exact dig y
        · exact zgq_dig m (r + 1) h j (by omega) h2 t ht
      · rw [if_neg q2] at h2
        have h2 : j < r + 1 := h2
        exact dig (by omega)
theorem zho_le {g g' : Nat} {x : Int32} (h : g ≤ g') (k : zho g x) : zho g' x := by
  rcases k with k | k | ⟨j, hj, e⟩
  · exact Or.inl k
  · exact Or.inr (Or.inl k)
  · exact Or.inr (Or.inr ⟨j, by omega, e⟩)
theorem ZV_g {V : zV} (hV : ZV V) (h : zgok V) : ZV (zgV V) := by
  have dig : ∀ j t, j < zgn V → t < 3 → zdv (vsg V) (4 * j + t) ≤ 9 := fun j t hj ht => by
    unfold zgn at hj
    rcases h with q | ⟨q1, q2⟩
    · rw [if_pos q] at hj
      omega
    · by_cases q : vs V = 0
      · rw [if_pos q] at hj
        omega
      · rw [if_neg q] at hj
        exact (zdv_eq (zgq_dig _ _ q1 j (Nat.zero_le _) hj t ht)).2
  have hg : vg V ≤ vg V + zgn V := Nat.le_add_right _ _
  refine ⟨hV.1, ⟨fun i hi => ?_, fun i hi => ?_⟩, hV.2.2.1, fun i hi => zho_le hg (hV.2.2.2.1 i hi), fun j hj i hi => zho_le hg (hV.2.2.2.2.1 j hj i hi), fun j f hj e i hi => zho_le hg (hV.2.2.2.2.2.1 j f hj e i hi), hV.2.2.2.2.2.2⟩
  · have hi : i < 3 * (vg V + zgn V) := hi
    show ∃ a, zgta V i = nI a ∧ a ≤ 9
    unfold zgta
    by_cases q : i < 3 * vg V
    · rw [if_pos q]
      exact hV.2.1.1 i q
    · rw [if_neg q]
      exact ⟨_, rfl, dig _ _ (by omega) (by omega)⟩
  · show ∃ a, zgde V i = nI a ∧ a ≤ 999
    unfold zgde
    by_cases q : i < vg V
    · rw [if_pos q]
      exact hV.2.1.2 i q
    · rw [if_neg q]
      exact ⟨1, rfl, by decide⟩
theorem j_guests {V : zV} (hV : ZV V) : zJ V sp_xGuests sp_mGuests [] := by
  by_cases q : zgok V
  · exact ⟨nI (zgn V), vSX (zgV V) 0 (vsg V), ZV_g hV q, fun h Q hA k => ⟨V, rfl, hV, hA.1, hA.2.1, fun _ h' x t f => k h' ⟨x, t, XR_fr hA.2.2 f (by decide)⟩ (zXf f (by decide)), fun z => absurd q z⟩, fun b h Q hb hA k => ⟨b, V, rfl, hA.1, hA.2.1, fun _ h' x t f => k h' ⟨MC_le x (Nat.le_succ b), t, MR_fm hA.2.2 f (by decide)⟩ (zMf f (by decide)), fun z => absurd q z⟩⟩
  · exact ⟨-1 - nI (zgT V).2.1, vSX V 0 (vsg V), hV, fun h Q hA k => ⟨V, rfl, hV, hA.1, hA.2.1, fun z => absurd z q, fun _ h' x t f => k h' ⟨x, t, XR_fr hA.2.2 f (by decide)⟩ (zXf f (by decide))⟩, fun b h Q hb hA k => ⟨b, V, rfl, hA.1, hA.2.1, fun z => absurd z q, fun _ h' x t f => k h' ⟨MC_le x (Nat.le_succ b), t, MR_fm hA.2.2 f (by decide)⟩ (zMf f (by decide))⟩⟩
