theorem j_enough {V : zV} (hV : ZV V) (a c : Int32) : zJ V (zE sp_xEnough) (zE2 sp_mEnough) [.int a, .int c] := by
  by_cases q : ∃ p v, p ≤ 10 ∧ v ≤ 9999 ∧ a = nI p ∧ c = nI v
  · obtain ⟨p, v, hp, hv, rfl, rfl⟩ := q
    have hq : zpv (nI p) (nI v) 9999 := ⟨nI_btc (L := 10) (by decide) hp, nI_btc (L := 9999) (by decide) hv⟩
    refine ⟨0, vSW V (zfr (zchA V p v) (10 ^ vg V)), hV, fun h Q hA k => ⟨V, _, _, rfl, hV, hA.1, fun z => absurd hq z, fun p' v' hp' hv' e1 e2 h' r f => ?_⟩, fun b h Q hb hA k => ⟨b, V, _, _, rfl, hV, hA.1, fun z => absurd hq z, fun p' v' hp' hv' e1 e2 h' r f => ?_⟩⟩
    · obtain rfl := nI_is (n := 11) (by omega) (by omega) (by omega) e1
      obtain rfl := nI_is (n := 10000) (by omega) (by omega) (by omega) e2
      exact k h' (XA_W hA r f (by decide)) (zXf f (by decide))
    · obtain rfl := nI_is (n := 11) (by omega) (by omega) (by omega) e1
      obtain rfl := nI_is (n := 10000) (by omega) (by omega) (by omega) e2
      exact k h' (MA_W hA r f (by decide)) (zMf f (by decide))
  · exact ⟨-1, V, hV, fun h Q hA k => ⟨V, a, c, rfl, hV, hA.1, fun _ => k h hA zXf_rf, fun p v hp hv e1 e2 => absurd ⟨p, v, hp, hv, e1, e2⟩ q⟩, fun b h Q hb hA k => ⟨b, V, a, c, rfl, hV, hA.1, fun _ h' f => k h' (MA_fm hA f (by decide)) (zMf f (by decide)), fun p v hp hv e1 e2 => absurd ⟨p, v, hp, hv, e1, e2⟩ q⟩⟩
theorem j_wide {V : zV} (hV : ZV V) (a c : Int32) : zJ V (zE sp_xWide) (zE2 sp_mWide) [.int a, .int c] := by
  by_cases q : ∃ p v, p ≤ 10 ∧ v ≤ 100 ∧ a = nI p ∧ c = nI v
  · obtain ⟨p, v, hp, hv, rfl, rfl⟩ := q
    have hq : zpv (nI p) (nI v) 100 := ⟨nI_btc (L := 10) (by decide) hp, nI_btc (L := 100) (by decide) hv⟩
    refine ⟨nI (zwdX V p v (2 ^ vg V)), V, hV, fun h Q hA k => ⟨V, _, _, rfl, hV, hA.1, fun z => absurd hq z, fun p' v' hp' hv' e1 e2 => ?_⟩, fun b h Q hb hA k => ⟨b, V, _, _, rfl, hV, hA.1, fun z => absurd hq z, fun p' v' hp' hv' e1 e2 h' f => ?_⟩⟩
    · obtain rfl := nI_is (n := 11) (by omega) (by omega) (by omega) e1
      obtain rfl := nI_is (n := 101) (by omega) (by omega) (by omega) e2
      exact k h hA zXf_rf
    · obtain rfl := nI_is (n := 11) (by omega) (by omega) (by omega) e1
      obtain rfl := nI_is (n := 101) (by omega) (by omega) (by omega) e2
      exact k h' (MA_fm hA f (by decide)) (zMf f (by decide))
  · exact ⟨-1, V, hV, fun h Q hA k => ⟨V, a, c, rfl, hV, hA.1, fun _ => k h hA zXf_rf, fun p v hp hv e1 e2 => absurd ⟨p, v, hp, hv, e1, e2⟩ q⟩, fun b h Q hb hA k => ⟨b, V, a, c, rfl, hV, hA.1, fun _ h' f => k h' (MA_fm hA f (by decide)) (zMf f (by decide)), fun p v hp hv e1 e2 => absurd ⟨p, v, hp, hv, e1, e2⟩ q⟩⟩
theorem j_settle {V : zV} (hV : ZV V) (a c : Int32) : zJ V sp_xSettle sp_mSettle [.int a, .int c] := by
  by_cases q : ∃ p v, p ≤ 999 ∧ v ≤ 999 ∧ a = nI p ∧ c = nI v
  · obtain ⟨p, v, hp, hv, rfl, rfl⟩ := q
    have hq : zsq (nI p) (nI v) := ⟨nI_btc (L := 999) (by decide) hp, nI_btc (L := 999) (by decide) hv⟩
    refine ⟨zseA p v, vSW V (zseW p v), hV, fun h Q hA k => ⟨_, _, rfl, fun z => absurd hq z, fun p' v' hp' hv' e1 e2 h' r f => ?_⟩, fun b h Q hb hA k => ⟨_, _, rfl, fun z => absurd hq z, fun p' v' hp' hv' e1 e2 h' r f => ?_⟩⟩
    · obtain rfl := nI_is (n := 1000) (by omega) (by omega) (by omega) e1
      obtain rfl := nI_is (n := 1000) (by omega) (by omega) (by omega) e2
      exact k h' (XA_W hA r f (by decide)) (zXf f (by decide))
    · obtain rfl := nI_is (n := 1000) (by omega) (by omega) (by omega) e1
      obtain rfl := nI_is (n := 1000) (by omega) (by omega) (by omega) e2
      exact k h' (MA_W hA r f (by decide)) (zMf f (by decide))
  · exact ⟨-1, V, hV, fun h Q hA k => ⟨a, c, rfl, fun _ => k h hA zXf_rf, fun p v hp hv e1 e2 => absurd ⟨p, v, hp, hv, e1, e2⟩ q⟩, fun b h Q hb hA k => ⟨a, c, rfl, fun _ h' f => k h' (MA_fm hA f (by decide)) (zMf f (by decide)), fun p v hp hv e1 e2 => absurd ⟨p, v, hp, hv, e1, e2⟩ q⟩⟩
