theorem zn3 {v : Int32} (q : ¬ (v < 0 ∨ 3 ≤ v)) : ∃ k, k < 3 ∧ v = nI k := zg_nat (by decide) ⟨Int32.not_lt.mp (fun z => q (Or.inl z)), Int32.not_le.mp (fun z => q (Or.inr z))⟩
theorem zn3_no {v : Int32} {k : Nat} (q : v < 0 ∨ 3 ≤ v) (hk : k < 3) (e : v = nI k) : False := by
  subst e
  rcases q with q | q
  · exact nI_pos (by omega) q
  · rw [show (3 : Int32) = nI 3 from rfl, nI_leP (by omega) (by omega)] at q
    omega
theorem nI_3 {j k : Nat} (hj : j < 3) (hk : k < 3) (e : nI k = nI j) : j = k := by
  rw [nI_eqP (by omega) (by omega)] at e
  exact e.symm
theorem j_keep {V : zV} (hV : ZV V) (v : Int32) : zJ V sp_xKeep sp_mKeep [.int v] := by
  by_cases q : v < 0 ∨ 3 ≤ v
  · exact ⟨0, V, hV, fun h Q hA k => ⟨v, vn V, vnow V, vk V, vund V, vkept V, rfl, hA.1.2.2.2.1, fun _ => k h hA zXf_rf, fun j hj e => (zn3_no q hj e).elim⟩, fun b h Q hb hA k => ⟨v, b, vn V, vnow V, vk V, vund V, vkept V, rfl, hA.1.2.2.2.1, fun _ h' t f => k h' (MA_B hA t f (by decide)) (zMf f (by decide)), fun j hj e => (zn3_no q hj e).elim⟩⟩
  · obtain ⟨k9, hk, rfl⟩ := zn3 q
    have hV' : ZV (vSB V (vnow V) (vk V) (vund V) (zupd (vkept V) k9 (some (vnow V)))) := by
      refine ⟨hV.1, hV.2.1, hV.2.2.1, hV.2.2.2.1, hV.2.2.2.2.1, fun j f hj e c hc => ?_, hV.2.2.2.2.2.2⟩
      have e : zupd (vkept V) k9 (some (vnow V)) j = some f := e
      unfold zupd at e
      by_cases y : j = k9
      · rw [if_pos y] at e
        obtain rfl := Option.some.inj e
        exact hV.2.2.2.1 c hc
      · rw [if_neg y] at e
        exact hV.2.2.2.2.2.1 j f hj e c hc
    refine ⟨1, _, hV', fun h Q hA k => ⟨nI k9, vn V, vnow V, vk V, vund V, vkept V, rfl, hA.1.2.2.2.1, fun z => absurd z q, fun j hj e h' t f => ?_⟩, fun b h Q hb hA k => ⟨nI k9, b, vn V, vnow V, vk V, vund V, vkept V, rfl, hA.1.2.2.2.1, fun z => absurd z q, fun j hj e h' t f => ?_⟩⟩
    · obtain rfl := nI_3 hj hk e
      exact k h' (XA_B hA t f (by decide)) (zXf f (by decide))
    · obtain rfl := nI_3 hj hk e
      exact k h' (MA_B hA t f (by decide)) (zMf f (by decide))
theorem j_again {V : zV} (hV : ZV V) (v : Int32) : zJ V sp_xAgain sp_mAgain [.int v] := by
  by_cases q : v < 0 ∨ 3 ≤ v
  · exact ⟨0, V, hV, fun h Q hA k => ⟨v, vn V, vnow V, vk V, vund V, vkept V, rfl, hA.1.2.2.2.1, fun _ => k h hA zXf_rf, fun j hj e => (zn3_no q hj e).elim, fun j f hj e => (zn3_no q hj e).elim⟩, fun b h Q hb hA k => ⟨v, b, vn V, vnow V, vk V, vund V, vkept V, rfl, hA.1.2.2.2.1, hb, fun _ h' t f => k h' (MA_B hA t f (by decide)) (zMf f (by decide)), fun j hj e => (zn3_no q hj e).elim, fun j f hj e => (zn3_no q hj e).elim⟩⟩
  · obtain ⟨k9, hk, rfl⟩ := zn3 q
    cases e9 : vkept V k9 with
    | none =>
      refine ⟨0, V, hV, fun h Q hA k => ⟨nI k9, vn V, vnow V, vk V, vund V, vkept V, rfl, hA.1.2.2.2.1, fun z => absurd z q, fun j hj e _ => k h hA zXf_rf, fun j f hj e e2 => ?_⟩, fun b h Q hb hA k => ⟨nI k9, b, vn V, vnow V, vk V, vund V, vkept V, rfl, hA.1.2.2.2.1, hb, fun z => absurd z q, fun j hj e _ h' t f => k h' (MA_B hA t f (by decide)) (zMf f (by decide)), fun j f hj e e2 => ?_⟩⟩
      · obtain rfl := nI_3 hj hk e
        rw [e9] at e2
        cases e2
      · obtain rfl := nI_3 hj hk e
        rw [e9] at e2
        cases e2
    | some f9 =>
      have hV' : ZV (vSB V f9 0 (vund V) (vkept V)) := ⟨hV.1, hV.2.1, hV.2.2.1, fun c hc => hV.2.2.2.2.2.1 k9 f9 hk e9 c hc, fun j hj => absurd hj (Nat.not_lt_zero _), hV.2.2.2.2.2⟩
      refine ⟨1, _, hV', fun h Q hA k => ⟨nI k9, vn V, vnow V, vk V, vund V, vkept V, rfl, hA.1.2.2.2.1, fun z => absurd z q, fun j hj e e2 => ?_, fun j f hj e e2 h' t g => ?_⟩, fun b h Q hb hA k => ⟨nI k9, b, vn V, vnow V, vk V, vund V, vkept V, rfl, hA.1.2.2.2.1, hb, fun z => absurd z q, fun j hj e e2 => ?_, fun j f hj e e2 h' t g => ?_⟩⟩
      · obtain rfl := nI_3 hj hk e
        rw [e9] at e2
        cases e2
      · obtain rfl := nI_3 hj hk e
        rw [e9] at e2
        obtain rfl := Option.some.inj e2
        exact k h' (XA_B hA t g (by decide)) (zXf g (by decide))
      · obtain rfl := nI_3 hj hk e
        rw [e9] at e2
        cases e2
      · obtain rfl := nI_3 hj hk e
        rw [e9] at e2
        obtain rfl := Option.some.inj e2
        exact k h' (MA_B hA t g (by decide)) (zMf g (by decide))
theorem j_worth {V : zV} (hV : ZV V) (hg : vg V ≤ 6) (hn : vn V ≤ 16) (a v : Int32) : zJ V sp_xWorth sp_mWorth [.int a, .int v] := by
  by_cases q : (0 ≤ a ∧ a < nI (vg V)) ∧ 0 ≤ v ∧ v < nI (vn V)
  · obtain ⟨j9, hj9, rfl⟩ := zg_nat (by omega) q.1
    obtain ⟨c9, hc9, rfl⟩ := zg_nat (by omega) q.2
    have s1 : ∀ j, j < vg V → nI j9 = nI j → j = j9 := fun j hj e => by
      rw [nI_eqP (by omega) (by omega)] at e
      exact e.symm
    have s2 : ∀ c, c < vn V → nI c9 = nI c → c = c9 := fun j hj e => by
      rw [nI_eqP (by omega) (by omega)] at e
      exact e.symm
    refine ⟨vwt V j9 c9, V, hV, fun h Q hA k => ⟨_, _, vn V, vcr V, vra V, vcu V, vg V, vta V, vde V, vwt V, rfl, hA.1.1, hA.1.2.1, hA.1.2.2.2.2.2.1, fun z => absurd q z, fun j c hj hc e1 e2 => ?_⟩, fun b h Q hb hA k => ⟨_, _, vn V, vcr V, vra V, vcu V, vg V, vta V, vde V, vL V, vcd V, rfl, hV.1.1, hA.1.1, hA.1.2.1, hV.2.2.1, hA.1.2.2.1, fun z => absurd q z, fun j c hj hc e1 e2 h' f => ?_⟩⟩
    · obtain rfl := s1 j hj e1
      obtain rfl := s2 c hc e2
      exact k h hA zXf_rf
    · obtain rfl := s1 j hj e1
      obtain rfl := s2 c hc e2
      exact k h' (MA_fm hA f (by decide)) (zMf f (by decide))
  · refine ⟨-1, V, hV, fun h Q hA k => ⟨_, _, vn V, vcr V, vra V, vcu V, vg V, vta V, vde V, vwt V, rfl, hA.1.1, hA.1.2.1, hA.1.2.2.2.2.2.1, fun _ => k h hA zXf_rf, fun j c hj hc e1 e2 => ?_⟩, fun b h Q hb hA k => ⟨_, _, vn V, vcr V, vra V, vcu V, vg V, vta V, vde V, vL V, vcd V, rfl, hV.1.1, hA.1.1, hA.1.2.1, hV.2.2.1, hA.1.2.2.1, fun _ h' f => k h' (MA_fm hA f (by decide)) (zMf f (by decide)), fun j c hj hc e1 e2 => ?_⟩⟩
    · subst e1 e2
      exact absurd ⟨⟨nI_pos' (by omega), (nI_ltI (by omega) (by omega)).mpr hj⟩, nI_pos' (by omega), (nI_ltI (by omega) (by omega)).mpr hc⟩ q
    · subst e1 e2
      exact absurd ⟨⟨nI_pos' (by omega), (nI_ltI (by omega) (by omega)).mpr hj⟩, nI_pos' (by omega), (nI_ltI (by omega) (by omega)).mpr hc⟩ q
theorem j_seen {V : zV} (hV : ZV V) (hg : vg V ≤ 6) (a v : Int32) : zJ V sp_xSeen sp_mSeen [.int a, .int v] := by
  by_cases q : (0 ≤ a ∧ a < nI (vg V)) ∧ 0 ≤ v ∧ v < nI (vg V)
  · obtain ⟨j9, hj9, rfl⟩ := zg_nat (by omega) q.1
    have s1 : ∀ j, j < vg V → nI j9 = nI j → j = j9 := fun j hj e => by
      rw [nI_eqP (by omega) (by omega)] at e
      exact e.symm
    refine ⟨zheld (vnow V) (vwt V j9) v (vn V), V, hV, fun h Q hA k => ⟨_, v, vn V, vcr V, vra V, vcu V, vg V, vta V, vde V, vwt V, vnow V, vk V, vund V, vkept V, rfl, hA.1.1, hA.1.2.1, hA.1.2.2.2.1, hA.1.2.2.2.2.2.1, fun z => absurd q z, fun j hj e1 _ => ?_⟩, fun b h Q hb hA k => ⟨_, v, b, vn V, vcr V, vra V, vcu V, vg V, vta V, vde V, vL V, vcd V, vnow V, vk V, vund V, vkept V, rfl, hV.1.1, hA.1.1, hA.1.2.1, hA.1.2.2.2.1, hV.2.2.1, hA.1.2.2.1, fun z => absurd q z, fun j hj e1 _ h' f => ?_⟩⟩
    · obtain rfl := s1 j hj e1
      exact k h hA zXf_rf
    · obtain rfl := s1 j hj e1
      exact k h' (MA_fm hA f (by decide)) (zMf f (by decide))
  · refine ⟨-1, V, hV, fun h Q hA k => ⟨_, v, vn V, vcr V, vra V, vcu V, vg V, vta V, vde V, vwt V, vnow V, vk V, vund V, vkept V, rfl, hA.1.1, hA.1.2.1, hA.1.2.2.2.1, hA.1.2.2.2.2.2.1, fun _ => k h hA zXf_rf, fun j hj e1 hv => ?_⟩, fun b h Q hb hA k => ⟨_, v, b, vn V, vcr V, vra V, vcu V, vg V, vta V, vde V, vL V, vcd V, vnow V, vk V, vund V, vkept V, rfl, hV.1.1, hA.1.1, hA.1.2.1, hA.1.2.2.2.1, hV.2.2.1, hA.1.2.2.1, fun _ h' f => k h' (MA_fm hA f (by decide)) (zMf f (by decide)), fun j hj e1 hv => ?_⟩⟩
    · subst e1
      exact absurd ⟨⟨nI_pos' (by omega), (nI_ltI (by omega) (by omega)).mpr hj⟩, hv⟩ q
    · subst e1
      exact absurd ⟨⟨nI_pos' (by omega), (nI_ltI (by omega) (by omega)).mpr hj⟩, hv⟩ q
theorem j_count {V : zV} (hV : ZV V) (v : Int32) : zJ V sp_xCount sp_mCount [.int v] :=
  ⟨_, V, hV, fun h Q hA k => ⟨v, vs V, vsg V, vn V, vcr V, vra V, vcu V, vg V, vta V, vde V, vnow V, vk V, vund V, vkept V, vm V, von V, vot V, vw V, rfl, hA.2.1, hA.1.1, hA.1.2.1, hA.1.2.2.2.1, hA.1.2.2.2.2.1, hA.2.2, k h hA zXf_rf⟩, fun b h Q hb hA k => ⟨v, b, vs V, vsg V, vn V, vcr V, vra V, vcu V, vg V, vta V, vde V, vnow V, vk V, vund V, vkept V, vm V, von V, vot V, vw V, rfl, hA.2.1, hA.1.1, hA.1.2.1, hA.1.2.2.2.1, hA.1.2.2.2.2, hA.2.2, fun h' f => k h' (MA_fm hA f (by decide)) (zMf f (by decide))⟩⟩
/-- V with another row -/
def vSW (V : zV) (w : List Int64) : zV := (V.1, V.2.1, V.2.2.1, V.2.2.2.1, V.2.2.2.2.1, V.2.2.2.2.2.1, w)
theorem XA_W {V : zV} {w : List Int64} {ps : List Nat} {h h' : zq_H} (hA : XA V h) (t : XR w h') (f : zq_fr ps h h') (d : ∀ p ∈ ps, p ∉ 1 :: 2 :: zxc) : XA (vSW V w) h' := by
  have e : ∀ p, p ∈ 1 :: 2 :: zxc → p ∉ ps := fun p hp => znd d hp
  exact ⟨XC_fr hA.1 f (fun p hp q => d p hp (List.mem_cons_of_mem _ (List.mem_cons_of_mem _ q))), XT_fr hA.2.1 f ⟨e _ (by decide), e _ (by decide)⟩, t⟩
theorem MA_W {b : Nat} {V : zV} {w : List Int64} {fs ps : List Nat} {h h' : zq_H} (hA : MA b V h) (t : MR w h') (f : zq_fm fs ps h h') (d : (∀ j ∈ fs, j ∉ 13 :: zmf) ∧ ∀ p ∈ ps, p ∉ 64 :: zmp) : MA (b + 1) (vSW V w) h' := by
  have e : ∀ p, p ∈ 64 :: zmp → p ∉ ps := fun p hp => znd d.2 hp
  have e2 : ∀ p, p ∈ 13 :: zmf → p ∉ fs := fun p hp => znd d.1 hp
  exact ⟨MC_le (MC_fm hA.1 f ⟨fun j hj q => d.1 j hj (List.mem_cons_of_mem _ q), fun p hp q => d.2 p hp (List.mem_cons_of_mem _ q)⟩) (Nat.le_succ b), MT_fm hA.2.1 f ⟨e2 _ (by decide), e _ (by decide)⟩, t⟩
theorem j_pieces {V : zV} (hV : ZV V) (v : Int32) : zJ V sp_xPieces sp_mPieces [.int v] := by
  by_cases q : 0 ≤ v ∧ v < nI (vg V)
  · exact ⟨(zpc (vnow V) v (vn V)).1, vSW V [(zpc (vnow V) v (vn V)).2.2.2.toInt64, (zpc (vnow V) v (vn V)).2.2.1.toInt64], hV, fun h Q hA k => ⟨v, vn V, vcr V, vra V, vcu V, vg V, vta V, vde V, vnow V, vk V, vund V, vkept V, vw V, rfl, hA.1.1, hA.1.2.1, hA.1.2.2.2.1, hA.2.2, fun z => absurd q z, fun _ h' t f => k h' (XA_W hA t f (by decide)) (zXf f (by decide))⟩, fun b h Q hb hA k => ⟨v, b, vn V, vcr V, vra V, vcu V, vg V, vta V, vde V, vnow V, vk V, vund V, vkept V, rfl, hA.1.1, hA.1.2.1, hA.1.2.2.2.1, fun z => absurd q z, fun _ h' t f => k h' (MA_W hA t f (by decide)) (zMf f (by decide))⟩⟩
  · exact ⟨-1, V, hV, fun h Q hA k => ⟨v, vn V, vcr V, vra V, vcu V, vg V, vta V, vde V, vnow V, vk V, vund V, vkept V, vw V, rfl, hA.1.1, hA.1.2.1, hA.1.2.2.2.1, hA.2.2, fun _ => k h hA zXf_rf, fun z => absurd z q⟩, fun b h Q hb hA k => ⟨v, b, vn V, vcr V, vra V, vcu V, vg V, vta V, vde V, vnow V, vk V, vund V, vkept V, rfl, hA.1.1, hA.1.2.1, hA.1.2.2.2.1, fun _ h' f => k h' (MA_fm hA f (by decide)) (zMf f (by decide)), fun z => absurd z q⟩⟩
