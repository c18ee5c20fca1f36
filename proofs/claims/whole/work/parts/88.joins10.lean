theorem ZV_d {V : zV} (hV : ZV V) : ZV (zdV V) := by
  refine ⟨hV.1, ⟨hV.2.1.1, fun i hi => ?_⟩, hV.2.2⟩
  obtain ⟨_, a, e, h⟩ := zdde_eq V i
  exact ⟨a, e, by omega⟩
theorem j_deeds {V : zV} (hV : ZV V) : zJ V sp_xDeeds sp_mDeeds [] := by
  by_cases q : zdok V
  · exact ⟨zsum (zdde V) (vg V), vSX (zdV V) 0 (vsg V), ZV_d hV, fun h Q hA k => ⟨V, rfl, hA.1, hA.2.1, fun _ h' x t f => k h' ⟨x, t, XR_fr hA.2.2 f (by decide)⟩ (zXf f (by decide)), fun z => absurd q z⟩, fun b h Q hb hA k => ⟨b, V, rfl, hA.1, hA.2.1, fun _ h' x t f => k h' ⟨MC_le x (Nat.le_succ b), t, MR_fm hA.2.2 f (by decide)⟩ (zMf f (by decide)), fun z => absurd q z⟩⟩
  · exact ⟨-1 - nI (zdT V).2.1, vSX V 0 (vsg V), hV, fun h Q hA k => ⟨V, rfl, hA.1, hA.2.1, fun z => absurd z q, fun _ h' x t f => k h' ⟨x, t, XR_fr hA.2.2 f (by decide)⟩ (zXf f (by decide))⟩, fun b h Q hb hA k => ⟨b, V, rfl, hA.1, hA.2.1, fun z => absurd z q, fun _ h' x t f => k h' ⟨MC_le x (Nat.le_succ b), t, MR_fm hA.2.2 f (by decide)⟩ (zMf f (by decide))⟩⟩
