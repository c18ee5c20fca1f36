/-! acts: one outcome -/
theorem ZV_U {V : zV} {now : Nat → Int32} (hV : ZV V) (h : ZV (vSn V now)) : ZV (vSU V now (vnow V)) := by
  refine ⟨hV.1, hV.2.1, hV.2.2.1, h.2.2.2.1, fun j hj c hc => ?_, hV.2.2.2.2.2⟩
  have hj : j < zkn (vk V) := hj
  show zho (vg V) (zun (vk V) (vund V) (vnow V) j c)
  unfold zkn at hj
  unfold zun
  by_cases q : vk V = 15
  · rw [if_pos q] at hj ⊢
    show zho (vg V) ((if j = 14 then vnow V else vund V (j + 1)) c)
    split
    · exact hV.2.2.2.1 c hc
    · exact hV.2.2.2.2.1 (j + 1) (by omega) c hc
  · rw [if_neg q] at hj ⊢
    show zho (vg V) ((if j = vk V then vnow V else vund V j) c)
    split
    · exact hV.2.2.2.1 c hc
    · exact hV.2.2.2.2.1 j (by omega) c hc
theorem nI_is {a b n : Nat} (hn : n ≤ 2 ^ 30) (ha : a < n) (hb : b < n) (e : nI a = nI b) : b = a := by
  rw [nI_eqP (by omega) (by omega)] at e
  exact e.symm
theorem nI_bt {a n : Nat} (hn : n ≤ 2 ^ 30) (ha : a < n) : 0 ≤ nI a ∧ nI a < nI n := ⟨nI_pos' (by omega), (nI_ltI (by omega) (by omega)).mpr ha⟩
def zAd (V : zV) (P : (Int32 → (Nat → Int32) → Prop) → Prop) : Prop := ∃ r now, ZV (vSn V now) ∧ ∀ K : Int32 → (Nat → Int32) → Prop, K r now → P K
theorem zMo_det {V : zV} (hV : ZV V) (hn : vn V ≤ 16) (x : Int32) : zAd V (zMo V x) := by
  by_cases q : 0 ≤ x ∧ x < nI (vn V)
  · obtain ⟨a, ha, rfl⟩ := zg_nat (by omega) q
    by_cases q2 : vnow V a = -1
    · refine ⟨vcr V a, zupd (vnow V) a 9, ZV_now hV (fun i hi => ?_), fun K k => ⟨fun z => absurd q z, fun b hb e => ?_⟩⟩
      · unfold zupd
        split
        · exact Or.inr (Or.inl rfl)
        · exact hV.2.2.2.1 i hi
      · obtain rfl := nI_is (by omega) ha hb e
        exact ⟨fun z => absurd q2 z, fun _ => k⟩
    · refine ⟨-2, vnow V, hV, fun K k => ⟨fun z => absurd q z, fun b hb e => ?_⟩⟩
      obtain rfl := nI_is (by omega) ha hb e
      exact ⟨fun _ => k, fun z => absurd z q2⟩
  · refine ⟨-1, vnow V, hV, fun K k => ⟨fun _ => k, fun b hb e => ?_⟩⟩
    subst e
    exact absurd (nI_bt (by omega) hb) q
theorem zTb_det {V : zV} (hV : ZV V) (hn : vn V ≤ 16) (x y : Int32) : zAd V (zTb V x y) := by
  by_cases q : zsl (vn V) x y
  · obtain ⟨a, b, rfl, rfl, hab, hb⟩ := zsl_nat (by omega) q
    refine ⟨nI (zT V a (b + 1 - a)).1, (zT V a (b + 1 - a)).2, ZV_now hV (zT_zho hV a _), fun K k => ⟨fun z => absurd q z, fun a' b' h1 h2 e1 e2 => ?_⟩⟩
    · obtain rfl := nI_is (n := vn V) (by omega) (by omega) (by omega) e1
      obtain rfl := nI_is (n := vn V) (by omega) (by omega) (by omega) e2
      exact k
  · refine ⟨-1, vnow V, hV, fun K k => ⟨fun _ => k, fun a' b' h1 h2 e1 e2 => ?_⟩⟩
    subst e1 e2
    exact absurd ⟨nI_bt (by omega) (by omega), nI_bt (by omega) (by omega), (nI_leI (by omega) (by omega)).mpr h1⟩ q
theorem zG_det {V : zV} (hV : ZV V) (hn : vn V ≤ 16) (hg : vg V ≤ 6) (g x y : Int32) : zAd V (zG V g x y) := by
  by_cases q : (0 ≤ g ∧ g < nI (vg V)) ∧ zsl (vn V) x y
  · obtain ⟨j, hj, rfl⟩ := zg_nat (by omega) q.1
    obtain ⟨a, b, rfl, rfl, hab, hb⟩ := zsl_nat (by omega) q.2
    have same : ∀ j' a' b', j' < vg V → a' ≤ b' → b' < vn V → nI j = nI j' → nI a = nI a' → nI b = nI b' → j' = j ∧ a' = a ∧ b' = b := fun j' a' b' h1 h2 h3 e1 e2 e3 => ⟨nI_is (n := vg V) (by omega) hj h1 e1, nI_is (n := vn V) (by omega) (by omega) (by omega) e2, nI_is (n := vn V) (by omega) (by omega) (by omega) e3⟩
    by_cases q2 : ∃ c, a ≤ c ∧ c ≤ b ∧ vnow V c ≠ -1
    · refine ⟨-2, vnow V, hV, fun K k => ⟨fun z => absurd q z, fun j' a' b' h1 h2 h3 e1 e2 e3 => ?_⟩⟩
      obtain ⟨rfl, rfl, rfl⟩ := same j' a' b' h1 h2 h3 e1 e2 e3
      exact ⟨fun _ => k, fun z => by
        obtain ⟨c, c1, c2, c3⟩ := q2
        exact absurd (z c c1 c2) c3⟩
    · refine ⟨nI (vS V j (b + 1) - vS V j a), zfil (vnow V) (nI j) a (b + 1), ZV_now hV (fun i hi => ?_), fun K k => ⟨fun z => absurd q z, fun j' a' b' h1 h2 h3 e1 e2 e3 => ?_⟩⟩
      · unfold zfil
        split
        · exact Or.inr (Or.inr ⟨j, hj, rfl⟩)
        · exact hV.2.2.2.1 i hi
      · obtain ⟨rfl, rfl, rfl⟩ := same j' a' b' h1 h2 h3 e1 e2 e3
        exact ⟨fun z => absurd z q2, fun _ => k⟩
  · refine ⟨-1, vnow V, hV, fun K k => ⟨fun _ => k, fun j' a' b' h1 h2 h3 e1 e2 e3 => ?_⟩⟩
    subst e1 e2 e3
    exact absurd ⟨nI_bt (by omega) h1, nI_bt (by omega) (by omega), nI_bt (by omega) h3, (nI_leI (by omega) (by omega)).mpr h2⟩ q
theorem zDo_det {V : zV} (hV : ZV V) (hn : vn V ≤ 16) (hg : vg V ≤ 6) (a : Nat × Nat × Nat × Nat) : zAd V (zDo V a) := by
  unfold zDo
  split
  · exact zG_det hV hn hg _ _ _
  · split
    · exact zTb_det hV hn _ _
    · exact zMo_det hV hn _
theorem ZV_if {V : zV} {now : Nat → Int32} {r : Int32} (hV : ZV V) (h : ZV (vSn V now)) : ZV (if r < 0 then V else vSU V now (vnow V)) := by
  split
  · exact hV
  · exact ZV_U hV h
theorem ifV {V : zV} {now : Nat → Int32} {r : Int32} : (vs (if r < 0 then V else vSU V now (vnow V)) = vs V ∧ vsg (if r < 0 then V else vSU V now (vnow V)) = vsg V) ∧ vw (if r < 0 then V else vSU V now (vnow V)) = vw V := by
  split
  · exact ⟨⟨rfl, rfl⟩, rfl⟩
  · exact ⟨⟨rfl, rfl⟩, rfl⟩
theorem XA_r {V : zV} {now : Nat → Int32} {r : Int32} {h h' : zq_H} (hA : XA V h) (x : XC (if r < 0 then V else vSU V now (vnow V)) h') (f : zq_fr [12, 13] h h') : XA (if r < 0 then V else vSU V now (vnow V)) h' := by
  obtain ⟨⟨e1, e2⟩, e3⟩ := ifV (V := V) (now := now) (r := r)
  refine ⟨x, ?_, ?_⟩
  · rw [e1, e2]
    exact XT_fr hA.2.1 f (by decide)
  · rw [e3]
    exact XR_fr hA.2.2 f (by decide)
theorem MA_r {b : Nat} {V : zV} {now : Nat → Int32} {r : Int32} {h h' : zq_H} (hA : MA b V h) (x : MC b (if r < 0 then V else vSU V now (vnow V)) h') (f : zq_fm [0, 31] [63, 72, 73, 76] h h') : MA (b + 1) (if r < 0 then V else vSU V now (vnow V)) h' := by
  obtain ⟨⟨e1, e2⟩, e3⟩ := ifV (V := V) (now := now) (r := r)
  refine ⟨MC_le x (Nat.le_succ b), ?_, ?_⟩
  · rw [e1, e2]
    exact MT_fm hA.2.1 f (by decide)
  · rw [e3]
    exact MR_fm hA.2.2 f (by decide)
theorem j_give {V : zV} (hV : ZV V) (hn : vn V ≤ 16) (hg : vg V ≤ 6) (g x y : Int32) : zJ V sp_xGive sp_mGive [.int g, .int x, .int y] := by
  obtain ⟨r, now, hz, d⟩ := zG_det hV hn hg g x y
  exact ⟨r, _, ZV_if (r := r) hV hz, fun h Q hA k => ⟨V, g, x, y, rfl, hA.1, d _ (fun h' x' f => k h' (XA_r hA x' f) (zXf f (by decide)))⟩, fun b h Q hb hA k => ⟨b, V, g, x, y, rfl, hV, hA.1, d _ (fun h' x' f => k h' (MA_r hA x' f) (zMf f (by decide)))⟩⟩
theorem j_back {V : zV} (hV : ZV V) (hn : vn V ≤ 16) (x y : Int32) : zJ V sp_xBack sp_mBack [.int x, .int y] := by
  obtain ⟨r, now, hz, d⟩ := zTb_det hV hn x y
  exact ⟨r, _, ZV_if (r := r) hV hz, fun h Q hA k => ⟨V, x, y, rfl, hA.1, d _ (fun h' x' f => k h' (XA_r hA x' f) (zXf f (by decide)))⟩, fun b h Q hb hA k => ⟨b, V, x, y, rfl, hV, hA.1, d _ (fun h' x' f => k h' (MA_r hA x' f) (zMf f (by decide)))⟩⟩
theorem j_mouse {V : zV} (hV : ZV V) (hn : vn V ≤ 16) (x : Int32) : zJ V sp_xMouse sp_mMouse [.int x] := by
  obtain ⟨r, now, hz, d⟩ := zMo_det hV hn x
  exact ⟨r, _, ZV_if (r := r) hV hz, fun h Q hA k => ⟨V, x, rfl, hV, hA.1, d _ (fun h' x' f => k h' (XA_r hA x' f) (zXf f (by decide)))⟩, fun b h Q hb hA k => ⟨b, V, x, rfl, hV, hA.1, d _ (fun h' x' f => k h' (MA_r hA x' f) (zMf f (by decide)))⟩⟩
theorem zRun_det {V : zV} (hV : ZV V) (hn : vn V ≤ 16) (hg : vg V ≤ 6) (s : Nat → Int32) (e : Nat) : ∀ f i now, ZV (vSn V now) → ∃ i' now', ZV (vSn V now') ∧ ∀ K : Nat → (Nat → Int32) → Prop, K i' now' → zRun V s e f i now K
  | 0, i, now, hz => ⟨i, now, hz, fun _ k => k⟩
  | f + 1, i, now, hz => by
    obtain ⟨r, n1, hz1, d⟩ := zDo_det (V := vSn V now) hz hn hg (zac s e i)
    by_cases q : r < 0
    · exact ⟨i, n1, hz1, fun K k => d _ ⟨fun _ => k, fun z => absurd q z⟩⟩
    · obtain ⟨i', n', hz', d'⟩ := zRun_det hV hn hg s e f (i + 1) n1 hz1
      exact ⟨i', n', hz', fun K k => d _ ⟨fun z => absurd z q, fun _ => d' K k⟩⟩
