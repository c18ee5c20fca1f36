theorem j_envy {V : zV} (hV : ZV V) : zJ V (zE sp_xEnvy) (zE2 sp_mEnvy) [] :=
  ⟨nI (zenv V).1, vSW V (zenv V).2, hV, fun h Q hA k => ⟨V, rfl, hA.1, fun h' r f => k h' (XA_W hA r f (by decide)) (zXf f (by decide))⟩, fun b h Q hb hA k => ⟨b, V, rfl, hV, hA.1, fun h' r f => k h' (MA_W hA r f (by decide)) (zMf f (by decide))⟩⟩
theorem j_wronged {V : zV} (hV : ZV V) : zJ V (zE sp_xWronged) (zE2 sp_mWronged) [] :=
  ⟨nI (zwr V (vg V)), vSW V (zwrW V), hV, fun h Q hA k => ⟨V, rfl, hV, hA.1, fun h' r f => k h' (XA_W hA r f (by decide)) (zXf f (by decide))⟩, fun b h Q hb hA k => ⟨b, V, rfl, hV, hA.1, fun h' r f => k h' (MA_W hA r f (by decide)) (zMf f (by decide))⟩⟩
theorem j_cuts {V : zV} (hV : ZV V) (hg : vg V ≤ 6) (a c : Int32) : zJ V (zE sp_xCuts) (zE2 sp_mCuts) [.int a, .int c] := by
  by_cases q : ∃ j o, j < vg V ∧ o < vg V ∧ zcq V a c ∧ a = nI j ∧ c = nI o
  · obtain ⟨j, o, hj, ho, hq, rfl, rfl⟩ := q
    refine ⟨nI (zcuA V j), vSW V (zcuR V j o), hV, fun h Q hA k => ⟨V, _, _, rfl, hA.1, fun z => absurd hq z, fun j' o' hj' ho' _ e1 e2 h' r f => ?_⟩, fun b h Q hb hA k => ⟨b, V, _, _, rfl, hV, hA.1, fun z => absurd hq z, fun j' o' hj' ho' _ e1 e2 h' r f => ?_⟩⟩
    · obtain rfl := nI_is (n := vg V) (by omega) hj hj' e1
      obtain rfl := nI_is (n := vg V) (by omega) ho ho' e2
      exact k h' (XA_W hA r f (by decide)) (zXf f (by decide))
    · obtain rfl := nI_is (n := vg V) (by omega) hj hj' e1
      obtain rfl := nI_is (n := vg V) (by omega) ho ho' e2
      exact k h' (MA_W hA r f (by decide)) (zMf f (by decide))
  · exact ⟨-1, V, hV, fun h Q hA k => ⟨V, a, c, rfl, hA.1, fun _ => k h hA zXf_rf, fun j o hj ho hq e1 e2 => absurd ⟨j, o, hj, ho, hq, e1, e2⟩ q⟩, fun b h Q hb hA k => ⟨b, V, a, c, rfl, hV, hA.1, fun _ h' f => k h' (MA_fm hA f (by decide)) (zMf f (by decide)), fun j o hj ho hq e1 e2 => absurd ⟨j, o, hj, ho, hq, e1, e2⟩ q⟩⟩
theorem j_trade {V : zV} (hV : ZV V) (hg : vg V ≤ 6) (a c : Int32) : zJ V (zE sp_xTrade) (zE2 sp_mTrade) [.int a, .int c] := by
  by_cases q : ∃ j o, j < vg V ∧ o < vg V ∧ ztq V a c ∧ a = nI j ∧ c = nI o
  · obtain ⟨j, o, hj, ho, hq, rfl, rfl⟩ := q
    refine ⟨nI (ztr V j o).1, vSW V (ztrW (ztr V j o)), hV, fun h Q hA k => ⟨V, _, _, rfl, hA.1, fun z => absurd hq z, fun j' o' hj' ho' _ e1 e2 h' r f => ?_⟩, fun b h Q hb hA k => ⟨b, V, _, _, rfl, hV, hA.1, fun z => absurd hq z, fun j' o' hj' ho' _ e1 e2 h' r f => ?_⟩⟩
    · obtain rfl := nI_is (n := vg V) (by omega) hj hj' e1
      obtain rfl := nI_is (n := vg V) (by omega) ho ho' e2
      exact k h' (XA_W hA r f (by decide)) (zXf f (by decide))
    · obtain rfl := nI_is (n := vg V) (by omega) hj hj' e1
      obtain rfl := nI_is (n := vg V) (by omega) ho ho' e2
      exact k h' (MA_W hA r f (by decide)) (zMf f (by decide))
  · exact ⟨-1, V, hV, fun h Q hA k => ⟨V, a, c, rfl, hA.1, fun _ => k h hA zXf_rf, fun j o hj ho hq e1 e2 => absurd ⟨j, o, hj, ho, hq, e1, e2⟩ q⟩, fun b h Q hb hA k => ⟨b, V, a, c, rfl, hV, hA.1, fun _ h' f => k h' (MA_fm hA f (by decide)) (zMf f (by decide)), fun j o hj ho hq e1 e2 => absurd ⟨j, o, hj, ho, hq, e1, e2⟩ q⟩⟩
theorem nI_btc {v L : Nat} (hL : L < 2 ^ 30) (h : v ≤ L) : 0 ≤ nI v ∧ nI v ≤ nI L := ⟨nI_pos' (by omega), (nI_leI (by omega) (by omega)).mpr h⟩
theorem j_richest {V : zV} (hV : ZV V) (hn : vn V ≤ 16) (hg : vg V ≤ 6) (a c : Int32) : zJ V (zE sp_xRichest) (zE2 sp_mRichest) [.int a, .int c] := by
  by_cases q : ∃ j m, j < vg V ∧ 1 ≤ m ∧ m ≤ vn V ∧ a = nI j ∧ c = nI m
  · obtain ⟨j, m, hj, h1, hm, rfl, rfl⟩ := q
    have hq : zric V (nI j) (nI m) := ⟨nI_bt (by omega) hj, (nI_leI (a := 1) (by omega) (by omega)).mpr h1, (nI_leI (by omega) (by omega)).mpr hm⟩
    refine ⟨nI (zrich V j m (vn V - m)), vSW V [lN (vU V j m (zrich V j m (vn V - m)))], hV, fun h Q hA k => ⟨V, _, _, rfl, hA.1, fun z => absurd hq z, fun j' m' hj' h1' hm' e1 e2 h' r f => ?_⟩, fun b h Q hb hA k => ⟨b, V, _, _, rfl, hV, hA.1, fun z => absurd hq z, fun j' m' hj' h1' hm' e1 e2 h' r f => ?_⟩⟩
    · obtain rfl := nI_is (n := vg V) (by omega) hj hj' e1
      obtain rfl := nI_is (n := vn V + 1) (by omega) (by omega) (by omega) e2
      exact k h' (XA_W hA r f (by decide)) (zXf f (by decide))
    · obtain rfl := nI_is (n := vg V) (by omega) hj hj' e1
      obtain rfl := nI_is (n := vn V + 1) (by omega) (by omega) (by omega) e2
      exact k h' (MA_W hA r f (by decide)) (zMf f (by decide))
  · exact ⟨-1, V, hV, fun h Q hA k => ⟨V, a, c, rfl, hA.1, fun _ => k h hA zXf_rf, fun j m hj h1 hm e1 e2 => absurd ⟨j, m, hj, h1, hm, e1, e2⟩ q⟩, fun b h Q hb hA k => ⟨b, V, a, c, rfl, hV, hA.1, fun _ h' f => k h' (MA_fm hA f (by decide)) (zMf f (by decide)), fun j m hj h1 hm e1 e2 => absurd ⟨j, m, hj, h1, hm, e1, e2⟩ q⟩⟩
theorem j_ate {V : zV} (hV : ZV V) (a : Int32) : zJ V (zE sp_xAte) (zE2 sp_mAte) [.int a] := by
  by_cases q : ∃ v, v ≤ 9999 ∧ a = nI v
  · obtain ⟨v, hv, rfl⟩ := q
    have hq : 0 ≤ nI v ∧ nI v ≤ 9999 := nI_btc (L := 9999) (by decide) hv
    refine ⟨nI (zat V v (2 ^ vg V)).1, vSW V (zatR (zat V v (2 ^ vg V))), hV, fun h Q hA k => ⟨V, _, rfl, hV, hA.1, fun z => absurd hq z, fun v' hv' e h' r f => ?_⟩, fun b h Q hb hA k => ⟨b, V, _, rfl, hV, hA.1, fun z => absurd hq z, fun v' hv' e h' r f => ?_⟩⟩
    · obtain rfl := nI_is (n := 10000) (by omega) (by omega) (by omega) e
      exact k h' (XA_W hA r f (by decide)) (zXf f (by decide))
    · obtain rfl := nI_is (n := 10000) (by omega) (by omega) (by omega) e
      exact k h' (MA_W hA r f (by decide)) (zMf f (by decide))
  · exact ⟨-1, V, hV, fun h Q hA k => ⟨V, a, rfl, hV, hA.1, fun _ => k h hA zXf_rf, fun v hv e => absurd ⟨v, hv, e⟩ q⟩, fun b h Q hb hA k => ⟨b, V, a, rfl, hV, hA.1, fun _ h' f => k h' (MA_fm hA f (by decide)) (zMf f (by decide)), fun v hv e => absurd ⟨v, hv, e⟩ q⟩⟩
theorem j_suppers {V : zV} (hV : ZV V) (seed c : Int32) : zJ V (zE sp_xSuppers) (zE2 sp_mSuppers) [.int seed, .int c] := by
  by_cases q : ∃ n, 1 ≤ n ∧ n ≤ 50 ∧ 0 < vg V ∧ c = nI n
  · obtain ⟨n, h1, h2, hg0, rfl⟩ := q
    have hq : zsuq V (nI n) := ⟨⟨(nI_leI (a := 1) (by omega) (by omega)).mpr h1, (nI_leI (b := 50) (by omega) (by omega)).mpr h2⟩, hg0⟩
    refine ⟨zsuA V seed n, vSW V (zsuW V seed n), hV, fun h Q hA k => ⟨V, seed, _, rfl, hA.1, fun z => absurd hq z, fun n' a1 a2 _ e h' r f => ?_⟩, fun b h Q hb hA k => ⟨b, V, seed, _, rfl, hV, hA.1, fun z => absurd hq z, fun n' a1 a2 _ e h' r f => ?_⟩⟩
    · obtain rfl := nI_is (n := 51) (by omega) (by omega) (by omega) e
      exact k h' (XA_W hA r f (by decide)) (zXf f (by decide))
    · obtain rfl := nI_is (n := 51) (by omega) (by omega) (by omega) e
      exact k h' (MA_W hA r f (by decide)) (zMf f (by decide))
  · exact ⟨-1, V, hV, fun h Q hA k => ⟨V, seed, c, rfl, hA.1, fun _ => k h hA zXf_rf, fun n a1 a2 a3 e => absurd ⟨n, a1, a2, a3, e⟩ q⟩, fun b h Q hb hA k => ⟨b, V, seed, c, rfl, hV, hA.1, fun _ h' f => k h' (MA_fm hA f (by decide)) (zMf f (by decide)), fun n a1 a2 a3 e => absurd ⟨n, a1, a2, a3, e⟩ q⟩⟩
