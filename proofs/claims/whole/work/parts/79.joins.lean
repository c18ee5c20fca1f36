/-! ===== both sides joined: one answer, one V behind it ===== -/
def XA (V : zV) (h : zq_H) : Prop := XC V h ∧ XT (vs V) (vsg V) h ∧ XR (vw V) h
def MA (b : Nat) (V : zV) (h : zq_H) : Prop := MC b V h ∧ MT (vs V) (vsg V) h ∧ MR (vw V) h
/-- the other side's places are as they were -/
def zXfr (h h' : zq_H) : Prop := ∀ p, 56 ≤ p → h'.1 p = h.1 p ∧ h'.2 p = h.2 p
def zMfr (h h' : zq_H) : Prop := ∀ p, p < 56 → h'.1 p = h.1 p ∧ h'.2 p = h.2 p
theorem zXf {ps : List Nat} {h h' : zq_H} (f : zq_fr ps h h') (d : ∀ p ∈ ps, p < 56) : zXfr h h' := fun p hp => f p (fun q => by
  have := d p q
  omega)
theorem zMf {fs ps : List Nat} {h h' : zq_H} (f : zq_fm fs ps h h') (d : ∀ p ∈ ps, 56 < p) : zMfr h h' := fun p hp => f.1 p (by omega) (fun q => by
  have := d p q
  omega)
theorem zXf_rf {h : zq_H} : zXfr h h := fun _ _ => ⟨rfl, rfl⟩
/-- from V the call with these arguments answers r on both sides, and leaves V' -/
def zJ (V : zV) (sx sm : zq_Sp) (args : List Value) : Prop := ∃ r V', ZV V' ∧ (∀ h Q, XA V h → (∀ h', XA V' h' → zXfr h h' → Q (some (.int r)) h') → sx (.ref 0 :: args) h Q) ∧ ∀ b h Q, b < 2147483648 → MA b V h → (∀ h', MA (b + 1) V' h' → zMfr h h' → Q (some (.int r)) h') → sm (.ref 56 :: args) h Q
theorem XA_fr {V : zV} {ps : List Nat} {h h' : zq_H} (k : XA V h) (f : zq_fr ps h h') (d : ∀ p ∈ ps, p ∉ 1 :: 2 :: 3 :: 4 :: zxc) : XA V h' := by
  have e : ∀ p, p ∈ 1 :: 2 :: 3 :: 4 :: zxc → p ∉ ps := fun p hp => znd d hp
  exact ⟨XC_fr k.1 f (fun p hp q => d p hp (List.mem_cons_of_mem _ (List.mem_cons_of_mem _ (List.mem_cons_of_mem _ (List.mem_cons_of_mem _ q))))), XT_fr k.2.1 f ⟨e _ (by decide), e _ (by decide)⟩, XR_fr k.2.2 f ⟨e _ (by decide), e _ (by decide)⟩⟩
theorem MA_fm {b : Nat} {V : zV} {fs ps : List Nat} {h h' : zq_H} (k : MA b V h) (f : zq_fm fs ps h h') (d : (∀ j ∈ fs, j ∉ 1 :: 13 :: zmf) ∧ ∀ p ∈ ps, p ∉ 57 :: 64 :: zmp) : MA (b + 1) V h' := by
  have e : ∀ p, p ∈ 57 :: 64 :: zmp → p ∉ ps := fun p hp => znd d.2 hp
  have e2 : ∀ p, p ∈ 1 :: 13 :: zmf → p ∉ fs := fun p hp => znd d.1 hp
  exact ⟨MC_le (MC_fm k.1 f ⟨fun j hj q => d.1 j hj (List.mem_cons_of_mem _ (List.mem_cons_of_mem _ q)), fun p hp q => d.2 p hp (List.mem_cons_of_mem _ (List.mem_cons_of_mem _ q))⟩) (Nat.le_succ b), MT_fm k.2.1 f ⟨e2 _ (by decide), e _ (by decide)⟩, MR_fm k.2.2 f ⟨e2 _ (by decide), e _ (by decide)⟩⟩
/-- V with another text; with other choices -/
def vSX (V : zV) (n : Nat) (s : Nat → Int32) : zV := ((n, s), V.2)
def vSK (V : zV) (m : Nat) (on ot : Nat → Int32) : zV := (V.1, V.2.1, V.2.2.1, V.2.2.2.1, V.2.2.2.2.1, (m, on, ot), vw V)
theorem j_sign {V : zV} (hV : ZV V) (v : Int32) : zJ V sp_xSign sp_mSign [.int v] := by
  by_cases q : vs V + 4 ≤ 80
  · refine ⟨nI (vs V + 4), vSX V (vs V + 4) (zs4 (vsg V) (vs V) v 4), hV, fun h Q hA k => ⟨v, vs V, vsg V, rfl, hA.2.1, ?_⟩, fun b h Q hb hA k => ⟨v, vs V, vsg V, rfl, hA.2.1, ?_⟩⟩
    · rw [if_pos q]
      exact fun h' t f => k h' ⟨XC_fr hA.1 f (by decide), t, XR_fr hA.2.2 f (by decide)⟩ (zXf f (by decide))
    · rw [if_pos q]
      exact fun h' t f => k h' ⟨MC_le (MC_fm hA.1 f (by decide)) (Nat.le_succ b), t, MR_fm hA.2.2 f (by decide)⟩ (zMf f (by decide))
  · refine ⟨-1, V, hV, fun h Q hA k => ⟨v, vs V, vsg V, rfl, hA.2.1, ?_⟩, fun b h Q hb hA k => ⟨v, vs V, vsg V, rfl, hA.2.1, ?_⟩⟩
    · rw [if_neg q]
      exact k h hA zXf_rf
    · rw [if_neg q]
      exact fun h' t f => k h' ⟨MC_le (MC_fm hA.1 f (by decide)) (Nat.le_succ b), t, MR_fm hA.2.2 f (by decide)⟩ (zMf f (by decide))
theorem XA_K {V : zV} {m : Nat} {on ot : Nat → Int32} {ps : List Nat} {h h' : zq_H} (hA : XA V h) (t : XK m on ot h') (f : zq_fr ps h h') (d : ∀ p ∈ ps, p ∈ [15, 16, 17]) : XA (vSK V m on ot) h' := by
  have f : zq_fr [15, 16, 17] h h' := zq_fr_w f d
  obtain ⟨⟨k1, k2, k3, k4, k5, k6, k7⟩, t1, r1⟩ := hA
  exact ⟨⟨XL_fr k1 f (by decide), XG_fr k2 f (by decide), XP_fr k3 f (by decide), XB_fr k4 f (by decide), t, XW_fr k6 f (by decide), XW0_fr k7 f (by decide)⟩, XT_fr t1 f (by decide), XR_fr r1 f (by decide)⟩
theorem MA_K {b : Nat} {V : zV} {m : Nat} {on ot : Nat → Int32} {ps : List Nat} {h h' : zq_H} (hA : MA b V h) (t : MK m on ot h') (f : zq_fm [0, 53] ps h h') (d : ∀ p ∈ ps, p ∈ [91, 92]) : MA (b + 1) (vSK V m on ot) h' := by
  have f : zq_fm [0, 53] [91, 92] h h' := zq_fm_w f ⟨d, fun _ q => q⟩
  obtain ⟨⟨k1, k2, k3, k4, k5⟩, t1, r1⟩ := hA
  exact ⟨MC_le (V := vSK V m on ot) (b := b) ⟨ML_fm k1 f (by decide), MG_fm k2 f (by decide), MP_fm k3 f (by decide), MB_fm k4 f (by decide), t⟩ (Nat.le_succ b), MT_fm t1 f (by decide), MR_fm r1 f (by decide)⟩
theorem j_forget {V : zV} (hV : ZV V) : zJ V sp_xForget sp_mForget [] :=
  ⟨nI (vm V), vSK V 0 (von V) (vot V), ⟨hV.1, hV.2.1, hV.2.2.1, hV.2.2.2.1, hV.2.2.2.2.1, hV.2.2.2.2.2.1, fun i hi => absurd hi (Nat.not_lt_zero _)⟩, fun h Q hA k => ⟨vm V, von V, vot V, rfl, hA.1.2.2.2.2.1, fun h' t f => k h' (XA_K hA t f (by decide)) (zXf f (by decide))⟩, fun b h Q hb hA k => ⟨vm V, von V, vot V, rfl, hA.1.2.2.2.2, fun h' t f => k h' (MA_K hA t f (by decide)) (zMf f (by decide))⟩⟩
theorem j_chose {V : zV} (hV : ZV V) (hn : vn V ≤ 16) (x y : Int32) : zJ V sp_xChose sp_mChose [.int x, .int y] := by
  by_cases q : zChose (vn V) (vm V) x y
  · refine ⟨nI (vm V + 1), vSK V (vm V + 1) (zupd (von V) (vm V) x) (zupd (vot V) (vm V) y), ⟨hV.1, hV.2.1, hV.2.2.1, hV.2.2.2.1, hV.2.2.2.2.1, hV.2.2.2.2.2.1, fun i hi => ?_⟩, fun h Q hA k => ⟨x, y, vn V, vcr V, vra V, vcu V, vm V, von V, vot V, rfl, hA.1.1, hA.1.2.2.2.2.1, fun z => absurd q z, fun _ h' t f => k h' (XA_K hA t f (by decide)) (zXf f (by decide))⟩, fun b h Q hb hA k => ⟨x, y, vn V, vcr V, vra V, vcu V, vm V, von V, vot V, rfl, hA.1.1, hA.1.2.2.2.2, fun z => absurd q z, fun _ h' t f => k h' (MA_K hA t f (by decide)) (zMf f (by decide))⟩⟩
    obtain ⟨c, hc, ec⟩ := zg_nat (by omega) q.1
    obtain ⟨d, hd, ed⟩ := zg_nat (by omega) q.2.1
    show ∃ a b, a < vn V ∧ b < vn V ∧ zupd (von V) (vm V) x i = nI a ∧ zupd (vot V) (vm V) y i = nI b
    by_cases e : i = vm V
    · exact ⟨c, d, hc, hd, by unfold zupd; rw [if_pos e]; exact ec, by unfold zupd; rw [if_pos e]; exact ed⟩
    · obtain ⟨a, b, ha, hb, e1, e2⟩ := hV.2.2.2.2.2.2 i (by have : i < vm V + 1 := hi; omega)
      exact ⟨a, b, ha, hb, by unfold zupd; rw [if_neg e]; exact e1, by unfold zupd; rw [if_neg e]; exact e2⟩
  · exact ⟨-1, V, hV, fun h Q hA k => ⟨x, y, vn V, vcr V, vra V, vcu V, vm V, von V, vot V, rfl, hA.1.1, hA.1.2.2.2.2.1, fun _ => k h hA zXf_rf, fun z => absurd z q⟩, fun b h Q hb hA k => ⟨x, y, vn V, vcr V, vra V, vcu V, vm V, von V, vot V, rfl, hA.1.1, hA.1.2.2.2.2, fun _ h' t f => k h' (MA_K hA t f (by decide)) (zMf f (by decide)), fun z => absurd z q⟩⟩
theorem znk {v : Int32} {n : Nat} (hn : n < 2 ^ 30) (q : ¬ (v < 0 ∨ nI n < v)) : ∃ k, k ≤ n ∧ v = nI k := by
  have h1 : 0 ≤ v := Int32.not_lt.mp (fun z => q (Or.inl z))
  have h2 : v ≤ nI n := Int32.not_lt.mp (fun z => q (Or.inr z))
  have h3 : nI n < nI (n + 1) := (nI_ltI (by omega) (by omega)).mpr (Nat.lt_succ_self n)
  obtain ⟨k, hk, e⟩ := zg_nat (show n + 1 < 2 ^ 31 by omega) ⟨h1, Int32.lt_of_le_of_lt h2 h3⟩
  exact ⟨k, by omega, e⟩
theorem znk_no {v : Int32} {n k : Nat} (hn : n < 2 ^ 30) (q : v < 0 ∨ nI n < v) (hk : k ≤ n) (e : v = nI k) : False := by
  subst e
  rcases q with q | q
  · exact nI_pos (by omega) q
  · rw [nI_ltP (by omega) (by omega)] at q
    omega
theorem j_end {V : zV} (hV : ZV V) (hs : vs V ≤ 80) (v : Int32) : zJ V sp_xEnd sp_mEnd [.int v] := by
  by_cases q : v < 0 ∨ nI (vs V) < v
  · exact ⟨0, V, hV, fun h Q hA k => ⟨v, vs V, vsg V, rfl, hA.2.1, fun _ => k h hA zXf_rf, fun j hj e => (znk_no (by omega) q hj e).elim⟩, fun b h Q hb hA k => ⟨v, vs V, vsg V, rfl, hA.2.1, fun _ h' t f => k h' ⟨MC_le (MC_fm hA.1 f (by decide)) (Nat.le_succ b), t, MR_fm hA.2.2 f (by decide)⟩ (zMf f (by decide)), fun j hj e => (znk_no (by omega) q hj e).elim⟩⟩
  · obtain ⟨k9, hk, rfl⟩ := znk (by omega) q
    have same : ∀ j, j ≤ vs V → nI k9 = nI j → j = k9 := fun j hj e => by
      rw [nI_eqP (by omega) (by omega)] at e
      omega
    refine ⟨1, vSX V k9 (vsg V), hV, fun h Q hA k => ⟨nI k9, vs V, vsg V, rfl, hA.2.1, fun z => absurd z q, fun j hj e h' t f => ?_⟩, fun b h Q hb hA k => ⟨nI k9, vs V, vsg V, rfl, hA.2.1, fun z => absurd z q, fun j hj e h' t f => ?_⟩⟩
    · obtain rfl := same j hj e
      exact k h' ⟨XC_fr hA.1 f (by decide), t, XR_fr hA.2.2 f (by decide)⟩ (zXf f (by decide))
    · obtain rfl := same j hj e
      exact k h' ⟨MC_le (MC_fm hA.1 f (by decide)) (Nat.le_succ b), t, MR_fm hA.2.2 f (by decide)⟩ (zMf f (by decide))
theorem XA_B {V : zV} {ps : List Nat} {h h' : zq_H} {now : Nat → Int32} {k : Nat} {und : Nat → Nat → Int32} {kept : Nat → Option (Nat → Int32)} (hA : XA V h) (t : XB (vn V) now k und kept h') (f : zq_fr ps h h') (d : ∀ p ∈ ps, p ∈ [12, 13, 14]) : XA (vSB V now k und kept) h' := by
  have g : zq_fr [12, 13, 14] h h' := zq_fr_w f d
  exact ⟨XC_B hA.1 t f d, XT_fr hA.2.1 g (by decide), XR_fr hA.2.2 g (by decide)⟩
theorem MA_B {b : Nat} {V : zV} {fs ps : List Nat} {h h' : zq_H} {now : Nat → Int32} {k : Nat} {und : Nat → Nat → Int32} {kept : Nat → Option (Nat → Int32)} (hA : MA b V h) (t : MB b (vn V) now k und kept h') (f : zq_fm fs ps h h') (d : (∀ j ∈ fs, j ∈ [0, 31]) ∧ ∀ p ∈ ps, p ∈ [63, 99, 100, 101]) : MA (b + 1) (vSB V now k und kept) h' := by
  have g : zq_fm [0, 31] [63, 99, 100, 101] h h' := zq_fm_w f ⟨d.2, d.1⟩
  exact ⟨MC_le (MC_B hA.1 t g (by decide)) (Nat.le_succ b), MT_fm hA.2.1 g (by decide), MR_fm hA.2.2 g (by decide)⟩
theorem j_undo {V : zV} (hV : ZV V) : zJ V sp_xUndo sp_mUndo [] := by
  rcases Nat.eq_zero_or_pos (vk V) with q | q
  · exact ⟨-1, V, hV, fun h Q hA k => ⟨vn V, vnow V, vk V, vund V, vkept V, rfl, hA.1.2.2.2.1, fun _ => k h hA zXf_rf, fun j e => by omega⟩, fun b h Q hb hA k => ⟨b, vn V, vnow V, vk V, vund V, vkept V, rfl, hA.1.2.2.2.1, fun _ h' t f => k h' (MA_B hA t f (by decide)) (zMf f (by decide)), fun j e => by omega⟩⟩
  · obtain ⟨i, ei⟩ : ∃ i, vk V = i + 1 := ⟨vk V - 1, by omega⟩
    have hV' : ZV (vSB V (vund V i) i (vund V) (vkept V)) := ⟨hV.1, hV.2.1, hV.2.2.1, fun c hc => hV.2.2.2.2.1 i (by omega) c hc, fun j hj c hc => hV.2.2.2.2.1 j (by have : j < i := hj; omega) c hc, hV.2.2.2.2.2⟩
    refine ⟨nI i, _, hV', fun h Q hA k => ⟨vn V, vnow V, vk V, vund V, vkept V, rfl, hA.1.2.2.2.1, fun z => by omega, fun j e h' t f => ?_⟩, fun b h Q hb hA k => ⟨b, vn V, vnow V, vk V, vund V, vkept V, rfl, hA.1.2.2.2.1, fun z => by omega, fun j e h' t f => ?_⟩⟩
    · obtain rfl : j = i := by omega
      exact k h' (XA_B hA t f (by decide)) (zXf f (by decide))
    · obtain rfl : j = i := by omega
      exact k h' (MA_B hA t f (by decide)) (zMf f (by decide))
