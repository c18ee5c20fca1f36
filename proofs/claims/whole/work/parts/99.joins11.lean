/-! ===== joins: claims, slices, quarrel, stretch ===== -/
theorem j_claims {V : zV} (hV : ZV V) : zJ V (zE sp_xClaims) (zE2 sp_mClaims) [] := by
  cases e : zclq (vsg V) (vs V) (vg V) 6 0 with
  | inl p =>
    refine ⟨-1 - nI p, vSX V 0 (vsg V), hV, fun h Q hA k => ⟨V, rfl, hA.1, hA.2.1, fun p' e' h' t f => ?_, fun m e' => ?_⟩, fun b h Q hb hA k => ⟨b, V, rfl, hV, hA.1, hA.2.1, fun p' e' h' t f => ?_, fun m e' => ?_⟩⟩
    · rw [e] at e'
      cases e'
      exact k h' ⟨XC_fr hA.1 f (by decide), t, XR_fr hA.2.2 f (by decide)⟩ (zXf f (by decide))
    · rw [e] at e'
      cases e'
    · rw [e] at e'
      cases e'
      exact k h' ⟨MC_le (MC_fm hA.1 f (by decide)) (Nat.le_succ b), t, MR_fm hA.2.2 f (by decide)⟩ (zMf f (by decide))
    · rw [e] at e'
      cases e'
  | inr m =>
    refine ⟨nI (zcb V (zcP (vsg V) (vs V) m) (2 ^ m)), vSW (vSX V 0 (vsg V)) (zclR V (zcP (vsg V) (vs V) m)), hV, fun h Q hA k => ⟨V, rfl, hA.1, hA.2.1, fun p e' => ?_, fun m' e' h' r t f => ?_⟩, fun b h Q hb hA k => ⟨b, V, rfl, hV, hA.1, hA.2.1, fun p e' => ?_, fun m' e' h' r t f => ?_⟩⟩
    · rw [e] at e'
      cases e'
    · rw [e] at e'
      cases e'
      exact k h' ⟨XC_fr hA.1 f (by decide), t, r⟩ (zXf f (by decide))
    · rw [e] at e'
      cases e'
    · rw [e] at e'
      cases e'
      exact k h' ⟨MC_le (MC_fm hA.1 f (by decide)) (Nat.le_succ b), t, r⟩ (zMf f (by decide))
theorem j_slices {V : zV} (hV : ZV V) (hg : vg V ≤ 6) (v : Int32) : zJ V (zE sp_xSlices) (zE2 sp_mSlices) [.int v] := by
  have hp2 := (zp2 _ hg).2.2
  by_cases q : 0 ≤ v ∧ v ≤ nI (2 ^ vg V - 1)
  · obtain ⟨mask, hm, rfl⟩ := zmask hg q
    have one : ∀ k, k < 2 ^ vg V → nI mask = nI k → k = mask := fun k hk e => nI_is (n := 2 ^ vg V) (by omega) hm hk e
    by_cases c : zPL V (zgP V 100) mask ≤ vn V
    · refine ⟨nI (zPL V (zgP V 100) mask), vSW V (zWL (zgR V 100) (zbst V (zgP V 100) mask) 0), hV, fun h Q hA k => ⟨V, _, rfl, hV, hA.1, fun z => absurd q z, fun k2 hk2 e => ?_⟩, fun b h Q hb hA k => ⟨b, V, _, rfl, hV, hA.1, fun z => absurd q z, fun k2 hk2 e => ?_⟩⟩
      · obtain rfl := one k2 hk2 e
        exact ⟨fun z => absurd c z, fun _ h' r f => k h' (XA_W hA r f (by decide)) (zXf f (by decide))⟩
      · obtain rfl := one k2 hk2 e
        exact ⟨fun z => absurd c z, fun _ h' r f => k h' (MA_W hA r f (by decide)) (zMf f (by decide))⟩
    · refine ⟨-2, V, hV, fun h Q hA k => ⟨V, _, rfl, hV, hA.1, fun z => absurd q z, fun k2 hk2 e => ?_⟩, fun b h Q hb hA k => ⟨b, V, _, rfl, hV, hA.1, fun z => absurd q z, fun k2 hk2 e => ?_⟩⟩
      · obtain rfl := one k2 hk2 e
        exact ⟨fun _ h' f => k h' (XA_fr hA f (by decide)) (zXf f (by decide)), fun z => absurd z c⟩
      · obtain rfl := one k2 hk2 e
        exact ⟨fun _ h' f => k h' (MA_fm hA f (by decide)) (zMf f (by decide)), fun z => absurd z c⟩
  · have no : ∀ k, k < 2 ^ vg V → v = nI k → False := fun k hk e => q (by
      rw [e]
      exact nI_btc (L := 2 ^ vg V - 1) (by omega) (by omega))
    exact ⟨-1, V, hV, fun h Q hA k => ⟨V, v, rfl, hV, hA.1, fun _ => k h hA zXf_rf, fun k2 hk2 e => (no k2 hk2 e).elim⟩, fun b h Q hb hA k => ⟨b, V, v, rfl, hV, hA.1, fun _ h' f => k h' (MA_fm hA f (by decide)) (zMf f (by decide)), fun k2 hk2 e => (no k2 hk2 e).elim⟩⟩
theorem j_quarrel {V : zV} (hV : ZV V) : zJ V (zE sp_xQuarrel) (zE2 sp_mQuarrel) [] := by
  by_cases q : zqu V (2 ^ vg V) = 0
  · exact ⟨-2, V, hV, fun h Q hA k => ⟨V, rfl, hV, hA.1, fun _ h' f => k h' (XA_fr hA f (by decide)) (zXf f (by decide)), fun z => absurd q z⟩, fun b h Q hb hA k => ⟨b, V, rfl, hV, hA.1, fun _ h' f => k h' (MA_fm hA f (by decide)) (zMf f (by decide)), fun z => absurd q z⟩⟩
  · exact ⟨nI (zqu V (2 ^ vg V)), vSW V [lN (zbc (zqu V (2 ^ vg V)))], hV, fun h Q hA k => ⟨V, rfl, hV, hA.1, fun z => absurd z q, fun _ h' r f => k h' (XA_W hA r f (by decide)) (zXf f (by decide))⟩, fun b h Q hb hA k => ⟨b, V, rfl, hV, hA.1, fun z => absurd z q, fun _ h' r f => k h' (MA_W hA r f (by decide)) (zMf f (by decide))⟩⟩
theorem j_stretch {V : zV} (hV : ZV V) : zJ V (zE sp_xStretch) (zE2 sp_mStretch) [] := by
  by_cases q : vg V = 0
  · exact ⟨-2, V, hV, fun h Q hA k => ⟨V, rfl, hV, hA.1, fun _ => k h hA zXf_rf, fun z => absurd q z⟩, fun b h Q hb hA k => ⟨b, V, rfl, hV, hA.1, fun _ h' f => k h' (MA_fm hA f (by decide)) (zMf f (by decide)), fun z => absurd q z⟩⟩
  · exact ⟨nI (zsgr V), V, hV, fun h Q hA k => ⟨V, rfl, hV, hA.1, fun z => absurd z q, fun _ h' f => k h' (XA_fr hA f (by decide)) (zXf f (by decide))⟩, fun b h Q hb hA k => ⟨b, V, rfl, hV, hA.1, fun z => absurd z q, fun _ h' f => k h' (MA_fm hA f (by decide)) (zMf f (by decide))⟩⟩
