/-! contracts over any V; joins of the calls that read the text or lay a row -/
def zE (f : zV → zq_Sp) : zq_Sp := fun args h Q => ∃ V, f V args h Q
def zE2 (f : Nat → zV → zq_Sp) : zq_Sp := fun args h Q => ∃ b V, f b V args h Q
theorem ok_E {y : MethodName} {c : ByteArray} {m k d : Nat} {r : Option FieldType} {f : zV → zq_Sp} (g : ∀ V, zq_M y c m r k d (f V)) : zq_M y c m r k d (zE f) := fun l D Y ad args h Q ⟨V, q⟩ => g V l D Y ad args h Q q
theorem ok_E2 {y : MethodName} {c : ByteArray} {m k d : Nat} {r : Option FieldType} {f : Nat → zV → zq_Sp} (g : ∀ b V, zq_M y c m r k d (f b V)) : zq_M y c m r k d (zE2 f) := fun l D Y ad args h Q ⟨b, V, q⟩ => g b V l D Y ad args h Q q
theorem j_lies {V : zV} (hV : ZV V) (hg : vg V ≤ 6) (a : Int32) : zJ V (zE sp_xLies) (zE2 sp_mLies) [.int a] := by
  by_cases q : 0 ≤ a ∧ a < nI (vg V)
  · obtain ⟨j, hj, rfl⟩ := zg_nat (by omega) q
    by_cases q2 : zqN (vsg V) (vs V) (vg V) = vs V ∧ 0 < vs V
    · refine ⟨nI (zlyS V (zlv (vsg V)) (vs V) j 30).1, vSW (vSX V 0 (vsg V)) (zlyW (zlyS V (zlv (vsg V)) (vs V) j 30)), hV, fun h Q hA k => ⟨V, nI j, rfl, hV, hA.1, hA.2.1, fun z => absurd q z, fun j' hj' e => ?_⟩, fun b h Q hb hA k => ⟨b, V, nI j, rfl, hV, hA.1, hA.2.1, fun z => absurd q z, fun j' hj' e => ?_⟩⟩
      · obtain rfl := nI_is (n := vg V) (by omega) hj hj' e
        exact ⟨fun _ h' r t f => k h' ⟨XC_fr hA.1 f (by decide), t, r⟩ (zXf f (by decide)), fun z => absurd q2 z⟩
      · obtain rfl := nI_is (n := vg V) (by omega) hj hj' e
        exact ⟨fun _ h' r t f => k h' ⟨MC_le (MC_fm hA.1 f (by decide)) (Nat.le_succ b), t, r⟩ (zMf f (by decide)), fun z => absurd q2 z⟩
    · refine ⟨-1 - nI (zqN (vsg V) (vs V) (vg V)), vSX V 0 (vsg V), hV, fun h Q hA k => ⟨V, nI j, rfl, hV, hA.1, hA.2.1, fun z => absurd q z, fun j' hj' e => ?_⟩, fun b h Q hb hA k => ⟨b, V, nI j, rfl, hV, hA.1, hA.2.1, fun z => absurd q z, fun j' hj' e => ?_⟩⟩
      · obtain rfl := nI_is (n := vg V) (by omega) hj hj' e
        exact ⟨fun z => absurd z q2, fun _ h' t f => k h' ⟨XC_fr hA.1 f (by decide), t, XR_fr hA.2.2 f (by decide)⟩ (zXf f (by decide))⟩
      · obtain rfl := nI_is (n := vg V) (by omega) hj hj' e
        exact ⟨fun z => absurd z q2, fun _ h' t f => k h' ⟨MC_le (MC_fm hA.1 f (by decide)) (Nat.le_succ b), t, MR_fm hA.2.2 f (by decide)⟩ (zMf f (by decide))⟩
  · refine ⟨-100, vSX V 0 (vsg V), hV, fun h Q hA k => ⟨V, a, rfl, hV, hA.1, hA.2.1, fun _ h' t f => k h' ⟨XC_fr hA.1 f (by decide), t, XR_fr hA.2.2 f (by decide)⟩ (zXf f (by decide)), fun j' hj' e => ?_⟩, fun b h Q hb hA k => ⟨b, V, a, rfl, hV, hA.1, hA.2.1, fun _ h' t f => k h' ⟨MC_le (MC_fm hA.1 f (by decide)) (Nat.le_succ b), t, MR_fm hA.2.2 f (by decide)⟩ (zMf f (by decide)), fun j' hj' e => ?_⟩⟩
    · subst e
      exact absurd (nI_bt (by omega) hj') q
    · subst e
      exact absurd (nI_bt (by omega) hj') q
theorem j_tastes {V : zV} (hV : ZV V) (hg : vg V ≤ 6) (a : Int32) : zJ V (zE sp_xTastes) (zE2 sp_mTastes) [.int a] := by
  by_cases q : 0 ≤ a ∧ a < nI (vg V)
  · obtain ⟨j, hj, rfl⟩ := zg_nat (by omega) q
    refine ⟨nI (zFS V j 1000).1, vSW V (zTr (zFS V j 1000)), hV, fun h Q hA k => ⟨V, nI j, rfl, hV, hA.1, fun z => absurd q z, fun j' hj' e => ?_⟩, fun b h Q hb hA k => ⟨b, V, nI j, rfl, hV, hA.1, fun z => absurd q z, fun j' hj' e => ?_⟩⟩
    · obtain rfl := nI_is (n := vg V) (by omega) hj hj' e
      exact fun h' r x f => k h' ⟨x, XT_fr hA.2.1 f (by decide), r⟩ (zXf f (by decide))
    · obtain rfl := nI_is (n := vg V) (by omega) hj hj' e
      exact fun h' r f => k h' (MA_W hA r f (by decide)) (zMf f (by decide))
  · refine ⟨-1, V, hV, fun h Q hA k => ⟨V, a, rfl, hV, hA.1, fun _ => k h hA zXf_rf, fun j' hj' e => ?_⟩, fun b h Q hb hA k => ⟨b, V, a, rfl, hV, hA.1, fun _ h' f => k h' (MA_fm hA f (by decide)) (zMf f (by decide)), fun j' hj' e => ?_⟩⟩
    · subst e
      exact absurd (nI_bt (by omega) hj') q
    · subst e
      exact absurd (nI_bt (by omega) hj') q
theorem j_offer {V : zV} (hV : ZV V) (hg : vg V ≤ 6) (a : Int32) : zJ V (zE sp_xOffer) (zE2 sp_mOffer) [.int a] := by
  by_cases q : 0 ≤ a ∧ a < nI (vg V)
  · obtain ⟨j, hj, rfl⟩ := zg_nat (by omega) q
    by_cases q2 : 2 ≤ vn V
    · refine ⟨zob (zof V j (16 * vn V)), vSW V [lN (zof V j (16 * vn V)).2], hV, fun h Q hA k => ⟨V, nI j, rfl, hV, hA.1, fun z => absurd q z, fun j' hj' e => ?_⟩, fun b h Q hb hA k => ⟨b, V, nI j, rfl, hV, hA.1, fun z => absurd q z, fun j' hj' e => ?_⟩⟩
      · obtain rfl := nI_is (n := vg V) (by omega) hj hj' e
        exact ⟨fun z => by omega, fun _ h' r x f => k h' ⟨x, XT_fr hA.2.1 f (by decide), r⟩ (zXf f (by decide))⟩
      · obtain rfl := nI_is (n := vg V) (by omega) hj hj' e
        exact ⟨fun z => by omega, fun _ h' r f => k h' (MA_W hA r f (by decide)) (zMf f (by decide))⟩
    · refine ⟨-2, V, hV, fun h Q hA k => ⟨V, nI j, rfl, hV, hA.1, fun z => absurd q z, fun j' hj' e => ⟨fun _ => k h hA zXf_rf, fun z => absurd z q2⟩⟩, fun b h Q hb hA k => ⟨b, V, nI j, rfl, hV, hA.1, fun z => absurd q z, fun j' hj' e => ⟨fun _ h' f => k h' (MA_fm hA f (by decide)) (zMf f (by decide)), fun z => absurd z q2⟩⟩⟩
  · refine ⟨-1, V, hV, fun h Q hA k => ⟨V, a, rfl, hV, hA.1, fun _ => k h hA zXf_rf, fun j' hj' e => ?_⟩, fun b h Q hb hA k => ⟨b, V, a, rfl, hV, hA.1, fun _ h' f => k h' (MA_fm hA f (by decide)) (zMf f (by decide)), fun j' hj' e => ?_⟩⟩
    · subst e
      exact absurd (nI_bt (by omega) hj') q
    · subst e
      exact absurd (nI_bt (by omega) hj') q
theorem j_nothing {V : zV} (hV : ZV V) : zJ V sp_xNothing sp_mNothing [] := by
  by_cases q : 0 < vA V ∧ zb9 V ≤ 999
  · exact ⟨nI (zb9 V), vSW V (zrw (znW V (vC V + zb9 V)) (vg V)), hV, fun h Q hA k => ⟨V, rfl, hV, hA.1, fun z => by omega, fun _ z => by omega, fun _ _ h' r f => k h' (XA_W hA r f (by decide)) (zXf f (by decide))⟩, fun b h Q hb hA k => ⟨b, V, rfl, hV, hA.1, fun z => by omega, fun _ z => by omega, fun _ _ h' r f => k h' (MA_W hA r f (by decide)) (zMf f (by decide))⟩⟩
  · exact ⟨-2, V, hV, fun h Q hA k => ⟨V, rfl, hV, hA.1, fun _ => k h hA zXf_rf, fun _ _ => k h hA zXf_rf, fun z y => absurd ⟨z, y⟩ q⟩, fun b h Q hb hA k => ⟨b, V, rfl, hV, hA.1, fun _ h' f => k h' (MA_fm hA f (by decide)) (zMf f (by decide)), fun _ _ h' f => k h' (MA_fm hA f (by decide)) (zMf f (by decide)), fun z y => absurd ⟨z, y⟩ q⟩⟩
theorem j_supper {V : zV} (hV : ZV V) (hn : vn V ≤ 16) (hg : vg V ≤ 6) : zJ V sp_xSupper sp_mSupper [] := by
  by_cases q : (zsup (vsg V) (vs V)).1 = true ∧ vs V ≤ (zsup (vsg V) (vs V)).2.2
  · obtain ⟨i, now, hz, d⟩ := zRun_det hV hn hg (vsg V) (min (vs V) 60) (zsup (vsg V) (vs V)).2.1 0 (vnow V) hV
    have hz' : ZV (zsV V i now) := by
      unfold zsV
      split
      · exact hz
      · exact ZV_U hV hz
    exact ⟨nI i, vSW (vSX (zsV V i now) 0 (vsg V)) (zsR V (zsup (vsg V) (vs V)).2.1 i now), hz', fun h Q hA k => ⟨V, rfl, hA.1, hA.2.1, fun _ => d _ (fun h' r t x f => k h' ⟨x, t, r⟩ (zXf f (by decide))), fun z => absurd q z⟩, fun b h Q hb hA k => ⟨b, V, rfl, hV, hA.1, hA.2.1, fun _ => d _ (fun h' r t x f => k h' ⟨MC_le x (Nat.le_succ b), t, r⟩ (zMf f (by decide))), fun z => absurd q z⟩⟩
  · exact ⟨_, vSX V 0 (vsg V), hV, fun h Q hA k => ⟨V, rfl, hA.1, hA.2.1, fun z => absurd z q, fun _ h' t f => k h' ⟨XC_fr hA.1 f (by decide), t, XR_fr hA.2.2 f (by decide)⟩ (zXf f (by decide))⟩, fun b h Q hb hA k => ⟨b, V, rfl, hV, hA.1, hA.2.1, fun z => absurd z q, fun _ h' t f => k h' ⟨MC_le (MC_fm hA.1 f (by decide)) (Nat.le_succ b), t, MR_fm hA.2.2 f (by decide)⟩ (zMf f (by decide))⟩⟩
theorem j_byturns {V : zV} (hV : ZV V) : zJ V (zE sp_xByturns) (zE2 sp_mByturns) [] := by
  by_cases q : zqN (vsg V) (vs V) (vg V) = vs V ∧ 0 < vs V
  · exact ⟨nI (vT V (vwN V) (zlv (vsg V)) z00 (vs V)).2.1, vSW (vSX V 0 (vsg V)) (zbyR V (zlv (vsg V)) (vs V)), hV, fun h Q hA k => ⟨V, rfl, hA.1, hA.2.1, fun _ h' r t f => k h' ⟨XC_fr hA.1 f (by decide), t, r⟩ (zXf f (by decide)), fun z => absurd q z⟩, fun b h Q hb hA k => ⟨b, V, rfl, hV, hA.1, hA.2.1, fun _ h' r t f => k h' ⟨MC_le (MC_fm hA.1 f (by decide)) (Nat.le_succ b), t, r⟩ (zMf f (by decide)), fun z => absurd q z⟩⟩
  · exact ⟨-1 - nI (zqN (vsg V) (vs V) (vg V)), vSX V 0 (vsg V), hV, fun h Q hA k => ⟨V, rfl, hA.1, hA.2.1, fun z => absurd z q, fun _ h' t f => k h' ⟨XC_fr hA.1 f (by decide), t, XR_fr hA.2.2 f (by decide)⟩ (zXf f (by decide))⟩, fun b h Q hb hA k => ⟨b, V, rfl, hV, hA.1, hA.2.1, fun z => absurd z q, fun _ h' t f => k h' ⟨MC_le (MC_fm hA.1 f (by decide)) (Nat.le_succ b), t, MR_fm hA.2.2 f (by decide)⟩ (zMf f (by decide))⟩⟩
