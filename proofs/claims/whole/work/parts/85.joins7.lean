theorem j_happy {V : zV} (hV : ZV V) : zJ V (zE sp_xHappy) (zE2 sp_mHappy) [] := by
  rcases Nat.eq_zero_or_pos (vg V) with q | q
  · exact ⟨-2, V, hV, fun h Q hA k => ⟨V, rfl, hA.1, fun _ => k h hA zXf_rf, fun z => by omega⟩, fun b h Q hb hA k => ⟨b, V, rfl, hV, hA.1, fun _ h' f => k h' (MA_fm hA f (by decide)) (zMf f (by decide)), fun z => by omega⟩⟩
  · exact ⟨nI (zhX V (vg V)).1, vSW V (zhW V), hV, fun h Q hA k => ⟨V, rfl, hA.1, fun z => by omega, fun _ h' r f => k h' (XA_W hA r f (by decide)) (zXf f (by decide))⟩, fun b h Q hb hA k => ⟨b, V, rfl, hV, hA.1, fun z => by omega, fun _ h' r f => k h' (MA_W hA r f (by decide)) (zMf f (by decide))⟩⟩
theorem j_taste {V : zV} (hV : ZV V) (hg : vg V ≤ 6) (a w v : Int32) : zJ V sp_xTaste sp_mTaste [.int a, .int w, .int v] := by
  by_cases q : ∃ j i, j < vg V ∧ i < 3 ∧ ztc (vg V) a w v ∧ a = nI j ∧ w = nI i
  · obtain ⟨j, i, hj, hi, hq, rfl, rfl⟩ := q
    obtain ⟨d, hd, rfl⟩ := znk (v := v) (n := 9) (by decide) (fun z => z.elim (Int32.not_lt.mpr hq.2.2.1) (Int32.not_lt.mpr hq.2.2.2))
    have hV' : ZV (vSG V (vg V) (zupd (vta V) (3 * j + i) (nI d)) (vde V)) := by
      refine ⟨hV.1, ⟨fun c hc => ?_, hV.2.1.2⟩, hV.2.2⟩
      show ∃ a, zupd (vta V) (3 * j + i) (nI d) c = nI a ∧ a ≤ 9
      unfold zupd
      split
      · exact ⟨d, rfl, hd⟩
      · exact hV.2.1.1 c hc
    refine ⟨vta V (3 * j + i), _, hV', fun h Q hA k => ⟨_, _, _, vn V, vcr V, vra V, vcu V, vg V, vta V, vde V, vL V, vcd V, rfl, hA.1.1, hA.1.2.1, hV.2.2.1, hA.1.2.2.1, hA.1.2.2.2.2.2.2, fun z => absurd hq z, fun j' i' hj' hi' _ e1 e2 h' g xw x0 f => ?_⟩, fun b h Q hb hA k => ⟨_, _, _, vg V, vta V, vde V, rfl, hA.1.2.1, fun z => absurd hq z, fun j' i' hj' hi' _ e1 e2 h' g f => ?_⟩⟩
    · obtain rfl := nI_is (n := vg V) (by omega) hj hj' e1
      obtain rfl := nI_is (n := 3) (by omega) hi hi' e2
      exact k h' ⟨XC_G hA.1 f (by decide) g xw x0, XT_fr hA.2.1 f (by decide), XR_fr hA.2.2 f (by decide)⟩ (zXf f (by decide))
    · obtain rfl := nI_is (n := vg V) (by omega) hj hj' e1
      obtain rfl := nI_is (n := 3) (by omega) hi hi' e2
      exact k h' ⟨MC_le (MC_G hA.1 f (by decide) g) (Nat.le_succ b), MT_fm hA.2.1 f (by decide), MR_fm hA.2.2 f (by decide)⟩ (zMf f (by decide))
  · exact ⟨-1, V, hV, fun h Q hA k => ⟨a, w, v, vn V, vcr V, vra V, vcu V, vg V, vta V, vde V, vL V, vcd V, rfl, hA.1.1, hA.1.2.1, hV.2.2.1, hA.1.2.2.1, hA.1.2.2.2.2.2.2, fun _ => k h hA zXf_rf, fun j i hj hi hq e1 e2 => absurd ⟨j, i, hj, hi, hq, e1, e2⟩ q⟩, fun b h Q hb hA k => ⟨a, w, v, vg V, vta V, vde V, rfl, hA.1.2.1, fun _ h' f => k h' (MA_fm hA f (by decide)) (zMf f (by decide)), fun j i hj hi hq e1 e2 => absurd ⟨j, i, hj, hi, hq, e1, e2⟩ q⟩⟩
