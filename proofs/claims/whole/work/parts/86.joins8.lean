theorem ZV_ra {V : zV} (hV : ZV V) {ra : Nat → Int32} (h : ∀ i, ∃ b : Nat, b ≤ 9 ∧ ra i = nI b) : ZV (vSra V ra) := by
  refine ⟨⟨hV.1.1, fun i hi => ?_⟩, hV.2⟩
  obtain ⟨a, b, e1, h1, h2, _, _⟩ := hV.1.2 i hi
  obtain ⟨c, hc, e⟩ := h i
  exact ⟨a, c, e1, h1, h2, e, hc⟩
theorem j_sheet {V : zV} (hV : ZV V) (kind n f step : Int32) : zJ V (zE sp_xSheet) (zE2 sp_mSheet) [.int kind, .int n, .int f, .int step] := by
  have xa : ∀ h h', XA V h → XC (vSra V (zsht kind n f step)) h' → zq_fr [9, 10, 11, 42, 51] h h' → XA (vSra V (zsht kind n f step)) h' := fun h h' hA x g => ⟨x, XT_fr hA.2.1 g (by decide), XR_fr hA.2.2 g (by decide)⟩
  have xa0 : ∀ h h', XA V h → XC V h' → zq_fr [9, 10, 11, 42, 51] h h' → XA V h' := fun h h' hA x g => ⟨x, XT_fr hA.2.1 g (by decide), XR_fr hA.2.2 g (by decide)⟩
  have ma : ∀ b h h', MA b V h → MC b (vSra V (zsht kind n f step)) h' → zq_fm [0] [59] h h' → MA (b + 1) (vSra V (zsht kind n f step)) h' := fun b h h' hA x g => ⟨MC_le x (Nat.le_succ b), MT_fm hA.2.1 g (by decide), MR_fm hA.2.2 g (by decide)⟩
  have ma0 : ∀ b h h', MA b V h → MC b V h' → zq_fm [0] [59] h h' → MA (b + 1) V h' := fun b h h' hA x g => ⟨MC_le x (Nat.le_succ b), MT_fm hA.2.1 g (by decide), MR_fm hA.2.2 g (by decide)⟩
  by_cases q : zshq kind n
  · by_cases q2 : kind = 3 ∨ ¬ n < 0
    · exact ⟨zshA V kind n f step, vSra V (zsht kind n f step), ZV_ra hV (zsh_rng kind n f step), fun h Q hA k => ⟨V, _, _, _, _, rfl, hV, hA.1, fun z => absurd q z, fun _ a b => (q2.elim a (fun z => z b)).elim, fun _ _ h' x g => k h' (xa h h' hA x g) (zXf g (by decide))⟩, fun b h Q hb hA k => ⟨b, V, _, _, _, _, rfl, hV, hA.1, fun z => absurd q z, fun _ a b => (q2.elim a (fun z => z b)).elim, fun _ _ h' x g => k h' (ma b h h' hA x g) (zMf g (by decide))⟩⟩
    · exact ⟨-2, V, hV, fun h Q hA k => ⟨V, _, _, _, _, rfl, hV, hA.1, fun z => absurd q z, fun _ _ _ h' x g => k h' (xa0 h h' hA x g) (zXf g (by decide)), fun _ z => absurd z q2⟩, fun b h Q hb hA k => ⟨b, V, _, _, _, _, rfl, hV, hA.1, fun z => absurd q z, fun _ _ _ h' x g => k h' (ma0 b h h' hA x g) (zMf g (by decide)), fun _ z => absurd z q2⟩⟩
  · exact ⟨-1, V, hV, fun h Q hA k => ⟨V, _, _, _, _, rfl, hV, hA.1, fun _ h' x g => k h' (xa0 h h' hA x g) (zXf g (by decide)), fun z => absurd z q, fun z => absurd z q⟩, fun b h Q hb hA k => ⟨b, V, _, _, _, _, rfl, hV, hA.1, fun _ h' x g => k h' (ma0 b h h' hA x g) (zMf g (by decide)), fun z => absurd z q, fun z => absurd z q⟩⟩
