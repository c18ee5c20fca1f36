/-! ===== calm: the class goes through all ways ===== -/
/-- w with the next j cells, from c on, given to g -/
def zfu (w : Nat → Nat) (c g : Nat) : Nat → Nat → Nat
  | 0 => w
  | j + 1 => zupd (zfu w c g j) (c + j) g
theorem zfu_lt {w : Nat → Nat} {c g : Nat} : ∀ {j i}, i < c → zfu w c g j i = w i
  | 0, i, h => rfl
  | j + 1, i, h => by
    rw [zfu, zupd_lt (by omega)]
    exact zfu_lt h
theorem zfu_at {w : Nat → Nat} {c g : Nat} : ∀ {j i}, c ≤ i → i < c + j → zfu w c g j i = g
  | 0, i, h1, h2 => by omega
  | j + 1, i, h1, h2 => by
    rw [zfu]
    by_cases q : i = c + j
    · rw [q, zupd_at]
    · rw [zupd_lt (by omega)]
      exact zfu_at h1 (by omega)
theorem zfu_un {w : Nat → Nat} {c g j o : Nat} : ¬ zcnw (c + (j + 1)) (zfu w c g (j + 1)) o ↔ (¬ zcnw c w o ∨ o = g) := by
  constructor
  · intro h
    refine Classical.byContradiction (fun z => h (fun i hi => ?_))
    by_cases q : i < c
    · rw [zfu_lt q]
      exact Classical.not_not.mp (fun y => z (Or.inl y)) i q
    · rw [zfu_at (by omega) hi]
      exact fun y => z (Or.inr y.symm)
  · rintro (h | h) z
    · exact h (fun i hi => by
        have := z i (by omega)
        rw [zfu_lt hi] at this
        exact this)
    · exact z c (by omega) (by rw [zfu_at (Nat.le_refl c) (by omega), h])
theorem zfu_W {V : zV} {w : Nat → Nat} {c g x o : Nat} (h : ¬ o = g) : ∀ j, zcW V (c + j) (zfu w c g j) x o = zcW V c w x o
  | 0 => rfl
  | j + 1 => by
    show zcW V (c + j + 1) (zupd (zfu w c g j) (c + j) g) x o = _
    rw [zcW_s, zfu_W h j, if_neg (fun z => h z.symm), Nat.add_zero]
theorem zfu_Wg {V : zV} {w : Nat → Nat} {c g x : Nat} (h : zcnw c w g) : ∀ j, zcW V (c + j) (zfu w c g j) x g = vS V x (c + j) - vS V x c
  | 0 => by
    rw [Nat.add_zero, Nat.sub_self]
    exact zcW_no h
  | j + 1 => by
    show zcW V (c + j + 1) (zupd (zfu w c g j) (c + j) g) x g = vS V x (c + j + 1) - _
    have e : vS V x (c + j + 1) = vS V x (c + j) + vwN V x (c + j) := rfl
    have m := vS_mono (V := V) (j := x) (Nat.le_add_right c j)
    rw [zcW_s, zfu_Wg h j, if_pos rfl, e]
    omega
theorem zfu_cu {V : zV} {w : Nat → Nat} {c g : Nat} (hg : g < vg V) (h : zcnw c w g) : ∀ j, zcun V (c + (j + 1)) (zfu w c g (j + 1)) + 1 = zcun V c w
  | 0 => zcun_s hg h
  | j + 1 => by
    have e := zfu_cu hg h j
    have e2 : zcun V (c + (j + 1) + 1) (zupd (zfu w c g (j + 1)) (c + (j + 1)) g) = zcun V (c + (j + 1)) (zfu w c g (j + 1)) := zcun_l (fun z => z c (by omega) (zfu_at (Nat.le_refl c) (by omega)))
    show zcun V (c + (j + 1) + 1) (zupd (zfu w c g (j + 1)) (c + (j + 1)) g) + 1 = _
    rw [e2]
    exact e
/-- what is left of g's slices from the j-th on -/
def zrmN (V : zV) (c : Nat) (w : Nat → Nat) (g j : Nat) : Nat := if c + (j + 1) ≤ vn V then zcN V (vn V - (c + (j + 1))) (c + (j + 1)) (zfu w c g (j + 1)) else 0
def zrmS (V : zV) (c : Nat) (w : Nat → Nat) (g j : Nat) (s : Nat → Nat) : Prop := c + (j + 1) ≤ vn V ∧ zcl V (vn V - (c + (j + 1))) (c + (j + 1)) (zfu w c g (j + 1)) s
theorem zrm_s {V : zV} {c g j : Nat} {w : Nat → Nat} (hg : g < vg V) (h : c + (j + 1) ≤ vn V) : zrmN V c w g j = zeN V (vn V - (c + (j + 1))) (c + (j + 1)) (zfu w c g (j + 1)) + zrmN V c w g (j + 1) ∧ ∀ s, zrmS V c w g j s ↔ zcel V (vn V - (c + (j + 1))) (c + (j + 1)) (zfu w c g (j + 1)) s ∨ zrmS V c w g (j + 1) s := by
  have el : zfu w c g (j + 1) (c + (j + 1) - 1) = g := zfu_at (by omega) (by omega)
  unfold zrmN zrmS
  rw [if_pos h]
  by_cases q : c + (j + 1) = vn V
  · rw [if_neg (by omega), q, Nat.sub_self, Nat.add_zero]
    refine ⟨rfl, fun s => ⟨fun z => Or.inl z.2, fun z => ?_⟩⟩
    rcases z with z | z
    · exact ⟨Nat.le_refl _, z⟩
    · exact absurd z.1 (by omega)
  · obtain ⟨k, ek⟩ : ∃ k, vn V - (c + (j + 1)) = k + 1 := ⟨vn V - (c + (j + 1)) - 1, by omega⟩
    have e1 := zcN_e (V := V) (k := k) (c := c + (j + 1)) (w := zfu w c g (j + 1)) (by omega) (by rw [el]; exact hg)
    have e2 := zcl_e (V := V) (k := k) (c := c + (j + 1)) (w := zfu w c g (j + 1)) (by omega) (by rw [el]; exact hg)
    rw [el] at e1 e2
    rw [if_pos (by omega), ek, show vn V - (c + (j + 1 + 1)) = k by omega]
    refine ⟨e1, fun s => ⟨fun z => ?_, fun z => ?_⟩⟩
    · exact ((e2 s).mp z.2).imp id (fun y => ⟨by omega, y⟩)
    · exact ⟨h, (e2 s).mpr (z.imp id (fun y => y.2))⟩
theorem zrm_e {V : zV} {c g j : Nat} {w : Nat → Nat} (h : vn V < c + (j + 1)) : zrmN V c w g j = 0 ∧ ∀ s, ¬ zrmS V c w g j s := ⟨if_neg (by omega), fun s z => absurd z.1 (by omega)⟩
/-- served, and slices, as THE MEMBERS tell them -/
def zcpd (V : zV) (c : Nat) (w : Nat → Nat) (mask : Nat) (h : zq_H) : Prop := (c ≤ vn V ∧ vg V ≤ 4 ∧ mask < 64) ∧ (∀ o, o < vg V → (mask.testBit o = true ↔ ¬ zcnw c w o)) ∧ XC V h ∧ (h.1 29 4 = nI (vg V) ∧ h.1 29 5 = nI (vn V)) ∧ XSl V c w h ∧ (∀ i, i < c → w i < vg V ∧ h.1 32 i = nI (w i)) ∧ ∀ g o, g < vg V → o < vg V → ¬ zcnw c w g → ¬ zcnw c w o → ¬ zcW V c w g g < zcW V c w g o
def zcpf : List Nat := [29, 30, 31, 32, 33]
def zcps (V : zV) (c : Nat) (w : Nat → Nat) (h h' : zq_H) : Prop := (∀ o, o < vg V → ¬ zcnw c w o → h'.1 30 o = h.1 30 o ∧ h'.1 31 o = h.1 31 o) ∧ (∀ i, i < c → h'.1 32 i = h.1 32 i) ∧ h'.1 29 4 = h.1 29 4 ∧ h'.1 29 5 = h.1 29 5 ∧ zq_fr zcpf h h'
theorem zcpd_s {V : zV} {c mask : Nat} {w : Nat → Nat} {h h' : zq_H} (k : zcpd V c w mask h) (f : zcps V c w h h') : zcpd V c w mask h' := by
  obtain ⟨k1, k2, k3, k4, k5, k6, k7⟩ := k
  obtain ⟨f1, f2, f3, f4, f5⟩ := f
  refine ⟨k1, k2, XC_fr k3 f5 (by decide), ⟨by rw [f3]; exact k4.1, by rw [f4]; exact k4.2⟩, fun o ho hu => ?_, fun i hi => ⟨(k6 i hi).1, by rw [f2 i hi]; exact (k6 i hi).2⟩, k7⟩
  obtain ⟨a, b, e1, e2, e3, e4, e5⟩ := k5 o ho hu
  exact ⟨a, b, e1, e2, by rw [(f1 o ho hu).1]; exact e3, by rw [(f1 o ho hu).2]; exact e4, e5⟩
theorem zcps_t {V : zV} {c : Nat} {w : Nat → Nat} {h h1 h2 : zq_H} (k : zcps V c w h h1) (l : zcps V c w h1 h2) : zcps V c w h h2 := by
  obtain ⟨k1, k2, k3, k4, k5⟩ := k
  obtain ⟨l1, l2, l3, l4, l5⟩ := l
  exact ⟨fun o ho hu => ⟨(l1 o ho hu).1.trans (k1 o ho hu).1, (l1 o ho hu).2.trans (k1 o ho hu).2⟩, fun i hi => (l2 i hi).trans (k2 i hi), l3.trans k3, l4.trans k4, zq_fr_t k5 l5 (fun p hp => hp)⟩
theorem zcps_rf {V : zV} {c : Nat} {w : Nat → Nat} {h : zq_H} : zcps V c w h h := ⟨fun _ _ _ => ⟨rfl, rfl⟩, fun _ _ => rfl, rfl, rfl, zq_fr_rf⟩
def zcpk (V : zV) (c : Nat) (w : Nat → Nat) (F : Nat) (S : (Nat → Nat) → Prop) (Q : zq_Q) (h : zq_H) : Prop := F + zeN V (vn V - c) c w ≤ 2 ^ 30 ∧ ∀ h', zBs V (fun s => S s ∨ zcel V (vn V - c) c w s) (F + zeN V (vn V - c) c w) h' → zcps V c w h h' → Q none h'
def sp_part (r : Nat) : zq_Sp := fun args h Q => ∃ (V : zV) (c : Nat) (w : Nat → Nat) (mask F : Nat) (S : (Nat → Nat) → Prop), args = [.ref 29, .ref 9, .int (nI c), .int (nI mask), .int (nI (vg V - zcun V c w))] ∧ zcun V c w ≤ r ∧ zcpd V c w mask h ∧ zBs V S F h ∧ zcpk V c w F S Q h
abbrev zcpT : Type := zq_H × (zV × Nat × (Nat → Nat) × Nat × Nat × ((Nat → Nat) → Prop)) × Nat × Nat
/-- what guests ahead of t gave -/
def zpfN (V : zV) (c : Nat) (w : Nat → Nat) (t : Nat) : Nat := nsum (fun g => if zcnw c w g then zrmN V c w g 0 else 0) t
def zpfS (V : zV) (c : Nat) (w : Nat → Nat) (t : Nat) (s : Nat → Nat) : Prop := ∃ g, g < t ∧ zcnw c w g ∧ zrmS V c w g 0 s
def I_cpm37 (r : Nat) (Q : zq_Q) (z : zcpT) : zq_P := fun ls st h => match z with
  | (h0, (V, c, w, mask, F, S), t, _) => ∃ s5, ls = [some (.ref 29), some (.ref 9), some (.int (nI c)), some (.int (nI mask)), some (.int (nI (vg V - zcun V c w))), some (.int (nI t)), s5] ∧ st = [] ∧ (t ≤ vg V ∧ zcun V c w ≤ r ∧ c < vn V) ∧ zcpd V c w mask h0 ∧ zcps V c w h0 h ∧ zBs V (fun s => S s ∨ zpfS V c w t s) (F + zpfN V c w t) h ∧ zcpk V c w F S Q h0
def I_cpm71 (r : Nat) (Q : zq_Q) (z : zcpT) : zq_P := fun ls st h => match z with
  | (h0, (V, c, w, mask, F, S), t, j) => ∃ F1 S1, ls = [some (.ref 29), some (.ref 9), some (.int (nI c)), some (.int (nI mask)), some (.int (nI (vg V - zcun V c w))), some (.int (nI t)), some (.int (nI (c + (j + 1))))] ∧ st = [] ∧ (t < vg V ∧ zcnw c w t ∧ zcun V c w ≤ r ∧ 1 ≤ r ∧ c + j ≤ vn V ∧ c < vn V) ∧ zcpd V c w mask h0 ∧ zcps V c w h0 h ∧ (h.1 30 t = nI c ∧ ∀ i, i < j → h.1 32 (c + i) = nI t) ∧ zBs V S1 F1 h ∧ F1 + zrmN V c w t j = F + zpfN V c w (t + 1) ∧ (∀ s, S1 s ∨ zrmS V c w t j s ↔ S s ∨ zpfS V c w (t + 1) s) ∧ zcpk V c w F S Q h0
theorem zpf_s {V : zV} {c t : Nat} {w : Nat → Nat} (h : ¬ zcnw c w t) : zpfN V c w (t + 1) = zpfN V c w t ∧ ∀ s, zpfS V c w (t + 1) s ↔ zpfS V c w t s := by
  refine ⟨?_, fun s => ⟨fun ⟨g, h1, h2, h3⟩ => ⟨g, ?_, h2, h3⟩, fun ⟨g, h1, h2, h3⟩ => ⟨g, by omega, h2, h3⟩⟩⟩
  · show zpfN V c w t + (if zcnw c w t then _ else 0) = _
    rw [if_neg h, Nat.add_zero]
  · by_cases q : g = t
    · subst q
      exact absurd h2 h
    · omega
theorem zpf_t {V : zV} {c t : Nat} {w : Nat → Nat} (h : zcnw c w t) : zpfN V c w (t + 1) = zpfN V c w t + zrmN V c w t 0 ∧ ∀ s, zpfS V c w (t + 1) s ↔ zpfS V c w t s ∨ zrmS V c w t 0 s := by
  refine ⟨?_, fun s => ⟨fun ⟨g, h1, h2, h3⟩ => ?_, fun z => ?_⟩⟩
  · show zpfN V c w t + (if zcnw c w t then _ else 0) = _
    rw [if_pos h]
  · by_cases q : g = t
    · subst q
      exact Or.inr h3
    · exact Or.inl ⟨g, by omega, h2, h3⟩
  · rcases z with ⟨g, h1, h2, h3⟩ | z
    · exact ⟨g, by omega, h2, h3⟩
    · exact ⟨t, by omega, h, z⟩
theorem zpf_e {V : zV} {c : Nat} {w : Nat → Nat} (h : c < vn V) : zpfN V c w (vg V) = zeN V (vn V - c) c w ∧ ∀ s, zpfS V c w (vg V) s ↔ zcel V (vn V - c) c w s := by
  obtain ⟨k, ek⟩ : ∃ k, vn V - c = k + 1 := ⟨vn V - c - 1, by omega⟩
  have e0 : ∀ g, zrmN V c w g 0 = zcN V k (c + 1) (zupd w c g) := fun g => by
    unfold zrmN
    rw [if_pos (by omega), show vn V - (c + (0 + 1)) = k by omega]
    rfl
  have e1 : ∀ g s, zrmS V c w g 0 s ↔ zcl V k (c + 1) (zupd w c g) s := fun g s => by
    unfold zrmS
    rw [show vn V - (c + (0 + 1)) = k by omega]
    exact ⟨fun z => z.2, fun z => ⟨by omega, z⟩⟩
  rw [ek]
  refine ⟨nsum_cong _ (fun g hg => by rw [e0]), fun s => ⟨fun ⟨g, h1, h2, h3⟩ => ⟨g, h1, h2, (e1 g s).mp h3⟩, fun ⟨g, h1, h2, h3⟩ => ⟨g, h1, h2, (e1 g s).mpr h3⟩⟩⟩
theorem zcun_0 {V : zV} {c : Nat} {w : Nat → Nat} (h : zcun V c w = 0) : ∀ g, g < vg V → ¬ zcnw c w g := by
  intro g hg q
  have e1 := nsum_one g 1 (vg V)
  rw [if_pos hg] at e1
  have : nsum (fun x => if x = g then 1 else 0) (vg V) ≤ zcun V c w := nsum_mono2 _ (fun x hx => by
    by_cases y : x = g
    · subst y
      rw [if_pos rfl, if_pos q]
      exact Nat.le_refl _
    · rw [if_neg y]
      exact Nat.zero_le _)
  omega
theorem zcal_iff {V : zV} {w : Nat → Nat} {mask : Nat} (hw : ∀ i, i < vn V → w i < vg V) (hm : ∀ o, o < vg V → (mask.testBit o = true ↔ ¬ zcnw (vn V) w o)) (hp : ∀ g o, g < vg V → o < vg V → ¬ zcnw (vn V) w g → ¬ zcnw (vn V) w o → ¬ zcW V (vn V) w g g < zcW V (vn V) w g o) : zoth V mask (vg V) ↔ zcal V w := by
  constructor
  · intro h g hg o ho
    by_cases q : zcnw (vn V) w o
    · rw [zcW_no q]
      exact Nat.zero_le _
    · by_cases q2 : zcnw (vn V) w g
      · have e : mask.testBit g = false := by
          cases y : mask.testBit g with
          | false => rfl
          | true => exact absurd q2 ((hm g hg).mp y)
        have l1 := zcW_le V (vn V) w g o
        have l2 := h g hg e
        omega
      · exact Nat.not_lt.mp (hp g o hg ho q2 q)
  · intro h g hg hb
    have q2 : zcnw (vn V) w g := Classical.not_not.mp (fun y => by
      have := (hm g hg).mpr y
      rw [this] at hb
      cases hb)
    have z : ∀ o, o < vg V → zcW V (vn V) w g o = 0 := fun o ho => by
      have := h g hg o ho
      rw [zcW_no q2] at this
      omega
    have each : ∀ i, i < vn V → vwN V g i = 0 := fun i hi => by
      have e1 := z (w i) (hw i hi)
      have e2 := nsum_one i (vwN V g i) (vn V)
      rw [if_pos hi] at e2
      have : nsum (fun x => if x = i then vwN V g i else 0) (vn V) ≤ zcW V (vn V) w g (w i) := nsum_mono2 _ (fun x hx => by
        by_cases y : x = i
        · subst y
          rw [if_pos rfl, if_pos rfl]
          exact Nat.le_refl _
        · rw [if_neg y]
          exact Nat.zero_le _)
      omega
    show nsum (vwN V g) (vn V) = 0
    rw [nsum_cong (g := fun _ => 0) _ each]
    induction vn V with
    | zero => rfl
    | succ n ih => exact ih
theorem cp_13 {r : Nat} {sm : zq_Sp} {J37 J71 : zq_P} {Q : zq_Q} {V : zV} {c mask F : Nat} {w : Nat → Nat} {S : (Nat → Nat) → Prop} {d : Int32} {s4 s5 : Option Value} {h : zq_H} (hc : ¬ c < vn V ∨ zcun V c w = 0) (hd : zcpd V c w mask h) (hB : zBs V S F h) (hk : zcpk V c w F S Q h) : xX7_part_14 sp_others sp_note sp_calmW sm J37 J71 Q [some (.ref 29), some (.ref 9), some (.int (nI c)), some (.int (nI mask)), some (.int d), s4, s5] [] h := by
  obtain ⟨⟨k1, k2, k3⟩, k4, k5, ⟨k6, k7⟩, k8, k9, ka⟩ := hd
  obtain ⟨kb, kk⟩ := hk
  have hn := k5.1.1
  have c1 : (nI c < nI (vn V)) = (c < vn V) := nI_ltP (by omega) (by omega)
  simp only [xX7_part_14, xX7_part_35, k7, c1, not_true_eq_false, not_false_eq_true, forall_const, true_and, and_true, false_and, and_false, if_true, if_false, reduceIte, implies_true, and_self, ite_self, true_or, or_true, false_or, or_false, true_implies, false_implies, Classical.not_not, false_imp_iff, not_false_iff, zi_push, zi_iload, zi_lload, zi_aload, zi_istore, zi_astore, zi_lstore, zi_iinc, zi_i2, zi_i1, zi_idv, zi_l2, zi_ldv, zi_lsh, zi_i2l, zi_l2i, zi_lcmp, zi_dup, zi_dup2, zi_pop, zi_if1, zi_if2, zi_getI, zi_getL, zi_getR, zi_putI, zi_putZ, zi_putL, zi_aldI, zi_aldL, zi_astI, zi_astZ, zi_astL, zi_alen, zi_iret, zi_zret, zi_lret, zi_vret, zi_callV, zi_callS, zi_sw, zi_copyI, zi_copyL, zi_m2, zi_m1, zi_sval, zi_scod, zi_fmt, zi_balen, zi_bald, zi_bret, zi_callT, zq_nth, zq_put1, zq_put2, zq_clr, zq_nl, zq_tk, zq_ps, zq_sw, zq_l0, zq_a, zq_a1, List.length_cons, List.length_nil, List.nil_append, List.cons_append, List.append_nil, List.replicate, Nat.reduceAdd, Nat.reduceSub, Nat.reduceLeDiff, true_and, and_true, List.append_eq, List.cons.injEq, Value.int.injEq, Value.long.injEq, Value.ref.injEq, exists_and_left, exists_eq_left', and_assoc, zc_b, zc_0, zc_1, zc_10, zc_01, lg_cmp_ge, lg_cmp_le, lg_cmp_gt, lg_cmp_lt, lg_cmp_eq, zw_le, zw_lt, reduceIte, true_or, or_true, zw_g0, zw_l0, zw_g1, zw_l1, zw_g2, zw_l2, zw_g3, zw_l3, zw_g5, zw_l5, zw_g6, zw_l6, zw_g7, zw_l7, zw_g9, zw_l9, zw_g10, zw_l10, zw_g15, zw_l15, zw_g16, zw_l16, zw_g48, zw_l48, zw_g50, zw_l50, zw_g57, zw_l57, zw_g97, zw_l97, zw_g100, zw_l100, zw_g200, zw_l200, zw_g999, zw_l999, zw_g9999, zw_l9999]
  refine ⟨fun q => ?_, fun q => ?_⟩
  · have h0 : zcun V c w = 0 := by
      rcases hc with z | z
      · exact absurd q z
      · exact z
    obtain ⟨k, ek⟩ : ∃ k, vn V - c = k + 1 := ⟨vn V - c - 1, by omega⟩
    have no := zcun_0 h0
    have e1 : zeN V (vn V - c) c w = 0 := by
      rw [ek, zeN, nsum_cong (g := fun _ => 0) _ (fun g hg => if_neg (no g hg))]
      induction vg V with
      | zero => rfl
      | succ n ih => exact ih
    have e2 : ∀ s, ¬ zcel V (vn V - c) c w s := by
      rw [ek]
      exact fun s ⟨g, hg, hu, _⟩ => no g hg hu
    rw [e1] at kk
    exact kk h (zBs_iff hB (fun s => ⟨Or.inl, fun z => z.elim id (fun y => absurd y (e2 s))⟩)) zcps_rf
  · obtain rfl : c = vn V := by omega
    rw [Nat.sub_self] at kb kk
    have ci := zcal_iff (fun i hi => (k9 i hi).1) k4 ka
    simp only [xX7_part_22, zi_push, zi_iload, zi_lload, zi_aload, zi_istore, zi_astore, zi_lstore, zi_iinc, zi_i2, zi_i1, zi_idv, zi_l2, zi_ldv, zi_lsh, zi_i2l, zi_l2i, zi_lcmp, zi_dup, zi_dup2, zi_pop, zi_if1, zi_if2, zi_getI, zi_getL, zi_getR, zi_putI, zi_putZ, zi_putL, zi_aldI, zi_aldL, zi_astI, zi_astZ, zi_astL, zi_alen, zi_iret, zi_zret, zi_lret, zi_vret, zi_callV, zi_callS, zi_sw, zi_copyI, zi_copyL, zi_m2, zi_m1, zi_sval, zi_scod, zi_fmt, zi_balen, zi_bald, zi_bret, zi_callT, zq_nth, zq_put1, zq_put2, zq_clr, zq_nl, zq_tk, zq_ps, zq_sw, zq_l0, zq_a, zq_a1, List.length_cons, List.length_nil, List.nil_append, List.cons_append, List.append_nil, List.replicate, Nat.reduceAdd, Nat.reduceSub, Nat.reduceLeDiff, true_and, and_true, List.append_eq, List.cons.injEq, Value.int.injEq, Value.long.injEq, Value.ref.injEq, exists_and_left, exists_eq_left', and_assoc, zc_b, zc_0, zc_1, zc_10, zc_01, lg_cmp_ge, lg_cmp_le, lg_cmp_gt, lg_cmp_lt, lg_cmp_eq, zw_le, zw_lt, reduceIte, true_or, or_true, zw_g0, zw_l0, zw_g1, zw_l1, zw_g2, zw_l2, zw_g3, zw_l3, zw_g5, zw_l5, zw_g6, zw_l6, zw_g7, zw_l7, zw_g9, zw_l9, zw_g10, zw_l10, zw_g15, zw_l15, zw_g16, zw_l16, zw_g48, zw_l48, zw_g50, zw_l50, zw_g57, zw_l57, zw_g97, zw_l97, zw_g100, zw_l100, zw_g200, zw_l200, zw_g999, zw_l999, zw_g9999, zw_l9999]
    refine ⟨V, mask, rfl, ⟨k2, k3⟩, k5, k6, fun q2 => ?_, fun q2 => ?_⟩
    · have e1 : zeN V 0 (vn V) w = 1 := if_pos (ci.mp q2)
      rw [e1] at kb kk
      simp only [zc_10, xX7_part_31, not_true_eq_false, not_false_eq_true, forall_const, true_and, and_true, false_and, and_false, if_true, if_false, reduceIte, implies_true, and_self, ite_self, true_or, or_true, false_or, or_false, true_implies, false_implies, Classical.not_not, false_imp_iff, not_false_iff, zi_push, zi_iload, zi_lload, zi_aload, zi_istore, zi_astore, zi_lstore, zi_iinc, zi_i2, zi_i1, zi_idv, zi_l2, zi_ldv, zi_lsh, zi_i2l, zi_l2i, zi_lcmp, zi_dup, zi_dup2, zi_pop, zi_if1, zi_if2, zi_getI, zi_getL, zi_getR, zi_putI, zi_putZ, zi_putL, zi_aldI, zi_aldL, zi_astI, zi_astZ, zi_astL, zi_alen, zi_iret, zi_zret, zi_lret, zi_vret, zi_callV, zi_callS, zi_sw, zi_copyI, zi_copyL, zi_m2, zi_m1, zi_sval, zi_scod, zi_fmt, zi_balen, zi_bald, zi_bret, zi_callT, zq_nth, zq_put1, zq_put2, zq_clr, zq_nl, zq_tk, zq_ps, zq_sw, zq_l0, zq_a, zq_a1, List.length_cons, List.length_nil, List.nil_append, List.cons_append, List.append_nil, List.replicate, Nat.reduceAdd, Nat.reduceSub, Nat.reduceLeDiff, true_and, and_true, List.append_eq, List.cons.injEq, Value.int.injEq, Value.long.injEq, Value.ref.injEq, exists_and_left, exists_eq_left', and_assoc, zc_b, zc_0, zc_1, zc_10, zc_01, lg_cmp_ge, lg_cmp_le, lg_cmp_gt, lg_cmp_lt, lg_cmp_eq, zw_le, zw_lt, reduceIte, true_or, or_true, zw_g0, zw_l0, zw_g1, zw_l1, zw_g2, zw_l2, zw_g3, zw_l3, zw_g5, zw_l5, zw_g6, zw_l6, zw_g7, zw_l7, zw_g9, zw_l9, zw_g10, zw_l10, zw_g15, zw_l15, zw_g16, zw_l16, zw_g48, zw_l48, zw_g50, zw_l50, zw_g57, zw_l57, zw_g97, zw_l97, zw_g100, zw_l100, zw_g200, zw_l200, zw_g999, zw_l999, zw_g9999, zw_l9999]
      refine ⟨V, S, F, w, rfl, ⟨hn, by omega⟩, k7, fun i hi => ⟨by have := (k9 i hi).1; omega, (k9 i hi).2⟩, hB, fun h1 b1 e5 e6 f1 => ?_⟩
      simp only [xX7_part_35, not_true_eq_false, not_false_eq_true, forall_const, true_and, and_true, false_and, and_false, if_true, if_false, reduceIte, implies_true, and_self, ite_self, true_or, or_true, false_or, or_false, true_implies, false_implies, Classical.not_not, false_imp_iff, not_false_iff, zi_push, zi_iload, zi_lload, zi_aload, zi_istore, zi_astore, zi_lstore, zi_iinc, zi_i2, zi_i1, zi_idv, zi_l2, zi_ldv, zi_lsh, zi_i2l, zi_l2i, zi_lcmp, zi_dup, zi_dup2, zi_pop, zi_if1, zi_if2, zi_getI, zi_getL, zi_getR, zi_putI, zi_putZ, zi_putL, zi_aldI, zi_aldL, zi_astI, zi_astZ, zi_astL, zi_alen, zi_iret, zi_zret, zi_lret, zi_vret, zi_callV, zi_callS, zi_sw, zi_copyI, zi_copyL, zi_m2, zi_m1, zi_sval, zi_scod, zi_fmt, zi_balen, zi_bald, zi_bret, zi_callT, zq_nth, zq_put1, zq_put2, zq_clr, zq_nl, zq_tk, zq_ps, zq_sw, zq_l0, zq_a, zq_a1, List.length_cons, List.length_nil, List.nil_append, List.cons_append, List.append_nil, List.replicate, Nat.reduceAdd, Nat.reduceSub, Nat.reduceLeDiff, true_and, and_true, List.append_eq, List.cons.injEq, Value.int.injEq, Value.long.injEq, Value.ref.injEq, exists_and_left, exists_eq_left', and_assoc, zc_b, zc_0, zc_1, zc_10, zc_01, lg_cmp_ge, lg_cmp_le, lg_cmp_gt, lg_cmp_lt, lg_cmp_eq, zw_le, zw_lt, reduceIte, true_or, or_true, zw_g0, zw_l0, zw_g1, zw_l1, zw_g2, zw_l2, zw_g3, zw_l3, zw_g5, zw_l5, zw_g6, zw_l6, zw_g7, zw_l7, zw_g9, zw_l9, zw_g10, zw_l10, zw_g15, zw_l15, zw_g16, zw_l16, zw_g48, zw_l48, zw_g50, zw_l50, zw_g57, zw_l57, zw_g97, zw_l97, zw_g100, zw_l100, zw_g200, zw_l200, zw_g999, zw_l999, zw_g9999, zw_l9999]
      refine kk h1 (zBs_iff b1 (fun s => ⟨fun z => z.imp id (fun y => ⟨ci.mp q2, y⟩), fun z => z.imp id (fun y => y.2)⟩)) ⟨fun o ho hu => ?_, fun i hi => ?_, e5, e6, zq_fr_w f1 (by decide)⟩
      · rw [(f1 30 (by decide)).1, (f1 31 (by decide)).1]
        exact ⟨rfl, rfl⟩
      · rw [(f1 32 (by decide)).1]
    · have e1 : zeN V 0 (vn V) w = 0 := if_neg (fun z => q2 (ci.mpr z))
      rw [e1] at kk
      simp only [xX7_part_35, not_true_eq_false, not_false_eq_true, forall_const, true_and, and_true, false_and, and_false, if_true, if_false, reduceIte, implies_true, and_self, ite_self, true_or, or_true, false_or, or_false, true_implies, false_implies, Classical.not_not, false_imp_iff, not_false_iff, zi_push, zi_iload, zi_lload, zi_aload, zi_istore, zi_astore, zi_lstore, zi_iinc, zi_i2, zi_i1, zi_idv, zi_l2, zi_ldv, zi_lsh, zi_i2l, zi_l2i, zi_lcmp, zi_dup, zi_dup2, zi_pop, zi_if1, zi_if2, zi_getI, zi_getL, zi_getR, zi_putI, zi_putZ, zi_putL, zi_aldI, zi_aldL, zi_astI, zi_astZ, zi_astL, zi_alen, zi_iret, zi_zret, zi_lret, zi_vret, zi_callV, zi_callS, zi_sw, zi_copyI, zi_copyL, zi_m2, zi_m1, zi_sval, zi_scod, zi_fmt, zi_balen, zi_bald, zi_bret, zi_callT, zq_nth, zq_put1, zq_put2, zq_clr, zq_nl, zq_tk, zq_ps, zq_sw, zq_l0, zq_a, zq_a1, List.length_cons, List.length_nil, List.nil_append, List.cons_append, List.append_nil, List.replicate, Nat.reduceAdd, Nat.reduceSub, Nat.reduceLeDiff, true_and, and_true, List.append_eq, List.cons.injEq, Value.int.injEq, Value.long.injEq, Value.ref.injEq, exists_and_left, exists_eq_left', and_assoc, zc_b, zc_0, zc_1, zc_10, zc_01, lg_cmp_ge, lg_cmp_le, lg_cmp_gt, lg_cmp_lt, lg_cmp_eq, zw_le, zw_lt, reduceIte, true_or, or_true, zw_g0, zw_l0, zw_g1, zw_l1, zw_g2, zw_l2, zw_g3, zw_l3, zw_g5, zw_l5, zw_g6, zw_l6, zw_g7, zw_l7, zw_g9, zw_l9, zw_g10, zw_l10, zw_g15, zw_l15, zw_g16, zw_l16, zw_g48, zw_l48, zw_g50, zw_l50, zw_g57, zw_l57, zw_g97, zw_l97, zw_g100, zw_l100, zw_g200, zw_l200, zw_g999, zw_l999, zw_g9999, zw_l9999]
      exact kk h (zBs_iff hB (fun s => ⟨Or.inl, fun z => z.elim id (fun y => absurd (ci.mpr y.1) q2)⟩)) zcps_rf
def zm37 (z : zcpT) : Nat := (10 - z.2.2.1) * 100
def zm71 (z : zcpT) : Nat := (10 - z.2.2.1) * 100 - 1 - z.2.2.2
theorem cp_37 {r : Nat} {sm : zq_Sp} {Q : zq_Q} {z : zcpT} {ls : zq_L} {st : List Value} {h : zq_H} (hi : I_cpm37 r Q z ls st h) : xX7_part_39 sp_others sp_note sp_calmW sm (fun ls st h => ∃ b9 : zcpT, zm37 b9 < zm37 z ∧ I_cpm37 r Q b9 ls st h) (fun ls st h => ∃ b9 : zcpT, zm71 b9 < zm37 z ∧ I_cpm71 r Q b9 ls st h) Q ls st h := by
  obtain ⟨h0, ⟨V, c, w, mask, F, S⟩, t, j⟩ := z
  obtain ⟨s5, rfl, rfl, ⟨ht, hr, hc⟩, hd9, hs, hB, hk⟩ := hi
  have hd := zcpd_s hd9 hs
  obtain ⟨⟨k1, k2, k3⟩, k4, k5, ⟨k6, k7⟩, k8, k9, ka⟩ := hd
  have hn := k5.1.1
  simp only [xX7_part_39, xX7_part_48, xX7_part_57, xX7_part_136, xX7_part_142, k6, zl_ge ht (show vg V < 2 ^ 31 by omega), nI_1, zi_push, zi_iload, zi_lload, zi_aload, zi_istore, zi_astore, zi_lstore, zi_iinc, zi_i2, zi_i1, zi_idv, zi_l2, zi_ldv, zi_lsh, zi_i2l, zi_l2i, zi_lcmp, zi_dup, zi_dup2, zi_pop, zi_if1, zi_if2, zi_getI, zi_getL, zi_getR, zi_putI, zi_putZ, zi_putL, zi_aldI, zi_aldL, zi_astI, zi_astZ, zi_astL, zi_alen, zi_iret, zi_zret, zi_lret, zi_vret, zi_callV, zi_callS, zi_sw, zi_copyI, zi_copyL, zi_m2, zi_m1, zi_sval, zi_scod, zi_fmt, zi_balen, zi_bald, zi_bret, zi_callT, zq_nth, zq_put1, zq_put2, zq_clr, zq_nl, zq_tk, zq_ps, zq_sw, zq_l0, zq_a, zq_a1, List.length_cons, List.length_nil, List.nil_append, List.cons_append, List.append_nil, List.replicate, Nat.reduceAdd, Nat.reduceSub, Nat.reduceLeDiff, true_and, and_true, List.append_eq, List.cons.injEq, Value.int.injEq, Value.long.injEq, Value.ref.injEq, exists_and_left, exists_eq_left', and_assoc, zc_b, zc_0, zc_1, zc_10, zc_01, lg_cmp_ge, lg_cmp_le, lg_cmp_gt, lg_cmp_lt, lg_cmp_eq, zw_le, zw_lt, reduceIte, true_or, or_true, zw_g0, zw_l0, zw_g1, zw_l1, zw_g2, zw_l2, zw_g3, zw_l3, zw_g5, zw_l5, zw_g6, zw_l6, zw_g7, zw_l7, zw_g9, zw_l9, zw_g10, zw_l10, zw_g15, zw_l15, zw_g16, zw_l16, zw_g48, zw_l48, zw_g50, zw_l50, zw_g57, zw_l57, zw_g97, zw_l97, zw_g100, zw_l100, zw_g200, zw_l200, zw_g999, zw_l999, zw_g9999, zw_l9999]
  refine ⟨fun q => ?_, fun q => ?_⟩
  · subst q
    obtain ⟨e1, e2⟩ := zpf_e (w := w) hc
    refine hk.2 h ?_ hs
    rw [← e1]
    exact zBs_iff hB (fun s => or_congr Iff.rfl (e2 s))
  · have ht2 : t < vg V := by omega
    have hbit := k4 t ht2
    rw [zbitP (by omega) (by omega)]
    refine ⟨fun q2 => ?_, fun q2 => ?_⟩
    · have hu : zcnw c w t := Classical.not_not.mp (fun y => by
        have := hbit.mpr y
        rw [this] at q2
        cases q2)
      obtain ⟨e1, e2⟩ := zpf_t (V := V) hu
      have hpos : 1 ≤ zcun V c w := by
        have := zcun_s ht2 hu
        omega
      simp only [xX7_part_60, nI_1, nI_clamp (show t < 2 ^ 31 by omega), zi_push, zi_iload, zi_lload, zi_aload, zi_istore, zi_astore, zi_lstore, zi_iinc, zi_i2, zi_i1, zi_idv, zi_l2, zi_ldv, zi_lsh, zi_i2l, zi_l2i, zi_lcmp, zi_dup, zi_dup2, zi_pop, zi_if1, zi_if2, zi_getI, zi_getL, zi_getR, zi_putI, zi_putZ, zi_putL, zi_aldI, zi_aldL, zi_astI, zi_astZ, zi_astL, zi_alen, zi_iret, zi_zret, zi_lret, zi_vret, zi_callV, zi_callS, zi_sw, zi_copyI, zi_copyL, zi_m2, zi_m1, zi_sval, zi_scod, zi_fmt, zi_balen, zi_bald, zi_bret, zi_callT, zq_nth, zq_put1, zq_put2, zq_clr, zq_nl, zq_tk, zq_ps, zq_sw, zq_l0, zq_a, zq_a1, List.length_cons, List.length_nil, List.nil_append, List.cons_append, List.append_nil, List.replicate, Nat.reduceAdd, Nat.reduceSub, Nat.reduceLeDiff, true_and, and_true, List.append_eq, List.cons.injEq, Value.int.injEq, Value.long.injEq, Value.ref.injEq, exists_and_left, exists_eq_left', and_assoc, zc_b, zc_0, zc_1, zc_10, zc_01, lg_cmp_ge, lg_cmp_le, lg_cmp_gt, lg_cmp_lt, lg_cmp_eq, zw_le, zw_lt, reduceIte, true_or, or_true, zw_g0, zw_l0, zw_g1, zw_l1, zw_g2, zw_l2, zw_g3, zw_l3, zw_g5, zw_l5, zw_g6, zw_l6, zw_g7, zw_l7, zw_g9, zw_l9, zw_g10, zw_l10, zw_g15, zw_l15, zw_g16, zw_l16, zw_g48, zw_l48, zw_g50, zw_l50, zw_g57, zw_l57, zw_g97, zw_l97, zw_g100, zw_l100, zw_g200, zw_l200, zw_g999, zw_l999, zw_g9999, zw_l9999]
      refine ⟨vp_in_nI (by omega) (by decide), (h0, (V, c, w, mask, F, S), t, 0), by simp only [zm37, zm71]; omega, _, _, rfl, rfl, ⟨ht2, hu, hr, by omega, by omega, hc⟩, hd9, zcps_t hs ⟨fun o ho hu2 => ⟨?_, rfl⟩, fun i hi => rfl, rfl, rfl, zq_fr_I zq_fr_rf (by decide)⟩, ⟨by rw [zq_sI, if_pos ⟨rfl, rfl⟩], fun i hi => absurd hi (Nat.not_lt_zero _)⟩, zBs_fr hB (zq_fr_I (ps := [30]) zq_fr_rf (by decide)) (by decide), ?_, fun s => ?_, hk⟩
      · rw [zq_sI, if_neg (fun y => hu2 (by rw [y.2]; exact hu))]
      · rw [e1]
        omega
      · rw [e2 s, or_assoc]
    · have hu : ¬ zcnw c w t := hbit.mp (by simpa using q2)
      obtain ⟨e1, e2⟩ := zpf_s (V := V) hu
      refine ⟨(h0, (V, c, w, mask, F, S), t + 1, 0), by simp only [zm37, zm71]; omega, s5, rfl, rfl, ⟨by omega, hr, hc⟩, hd9, hs, ?_, hk⟩
      rw [e1]
      exact zBs_iff hB (fun s => or_congr Iff.rfl (e2 s).symm)
theorem zbor : ∀ m, m < 64 → ∀ t, t < 4 → (nI m ||| zf_shl 1 (nI t) = nI (m ||| 2 ^ t)) ∧ m ||| 2 ^ t < 64 ∧ ∀ o, o < 4 → ((m ||| 2 ^ t).testBit o = (m.testBit o || o == t)) := by decide +kernel
theorem cp_71 {r : Nat} {Q : zq_Q} {z : zcpT} {ls : zq_L} {st : List Value} {h : zq_H} (hi : I_cpm71 (r + 1) Q z ls st h) : xX7_part_73 sp_others sp_note sp_calmW (sp_part r) (fun ls st h => ∃ b9 : zcpT, zm37 b9 < zm71 z ∧ I_cpm37 (r + 1) Q b9 ls st h) (fun ls st h => ∃ b9 : zcpT, zm71 b9 < zm71 z ∧ I_cpm71 (r + 1) Q b9 ls st h) Q ls st h := by
  obtain ⟨h0, ⟨V, c, w, mask, F, S⟩, t, j⟩ := z
  obtain ⟨F1, S1, rfl, rfl, ⟨ht, hu, hr, hr1, hj, hcn⟩, hd9, hs, ⟨h30, h32⟩, hB, eF, eS, hk⟩ := hi
  have hd := zcpd_s hd9 hs
  obtain ⟨⟨k1, k2, k3⟩, k4, k5, ⟨k6, k7⟩, k8, k9, ka⟩ := hd
  have hn := k5.1.1
  have hg := k5.2.1.1
  have hcu := zfu_cu ht hu j
  have hvu := zcun_le V c w
  have c1 : (nI (vn V) < nI (c + (j + 1))) = (vn V < c + (j + 1)) := nI_ltP (by omega) (by omega)
  simp only [xX7_part_73, xX7_part_82, xX7_part_136, k7, c1, nI_1, nI_clamp (show t < 2 ^ 31 by omega), zi_push, zi_iload, zi_lload, zi_aload, zi_istore, zi_astore, zi_lstore, zi_iinc, zi_i2, zi_i1, zi_idv, zi_l2, zi_ldv, zi_lsh, zi_i2l, zi_l2i, zi_lcmp, zi_dup, zi_dup2, zi_pop, zi_if1, zi_if2, zi_getI, zi_getL, zi_getR, zi_putI, zi_putZ, zi_putL, zi_aldI, zi_aldL, zi_astI, zi_astZ, zi_astL, zi_alen, zi_iret, zi_zret, zi_lret, zi_vret, zi_callV, zi_callS, zi_sw, zi_copyI, zi_copyL, zi_m2, zi_m1, zi_sval, zi_scod, zi_fmt, zi_balen, zi_bald, zi_bret, zi_callT, zq_nth, zq_put1, zq_put2, zq_clr, zq_nl, zq_tk, zq_ps, zq_sw, zq_l0, zq_a, zq_a1, List.length_cons, List.length_nil, List.nil_append, List.cons_append, List.append_nil, List.replicate, Nat.reduceAdd, Nat.reduceSub, Nat.reduceLeDiff, true_and, and_true, List.append_eq, List.cons.injEq, Value.int.injEq, Value.long.injEq, Value.ref.injEq, exists_and_left, exists_eq_left', and_assoc, zc_b, zc_0, zc_1, zc_10, zc_01, lg_cmp_ge, lg_cmp_le, lg_cmp_gt, lg_cmp_lt, lg_cmp_eq, zw_le, zw_lt, reduceIte, true_or, or_true, zw_g0, zw_l0, zw_g1, zw_l1, zw_g2, zw_l2, zw_g3, zw_l3, zw_g5, zw_l5, zw_g6, zw_l6, zw_g7, zw_l7, zw_g9, zw_l9, zw_g10, zw_l10, zw_g15, zw_l15, zw_g16, zw_l16, zw_g48, zw_l48, zw_g50, zw_l50, zw_g57, zw_l57, zw_g97, zw_l97, zw_g100, zw_l100, zw_g200, zw_l200, zw_g999, zw_l999, zw_g9999, zw_l9999]
  refine ⟨fun q => ?_, fun q => ?_⟩
  · obtain ⟨z1, z2⟩ := zrm_e (V := V) (g := t) (w := w) q
    refine ⟨(h0, (V, c, w, mask, F, S), t + 1, 0), by simp only [zm37, zm71]; omega, _, rfl, rfl, ⟨by omega, hr, hcn⟩, hd9, hs, ?_, hk⟩
    rw [← eF, z1, Nat.add_zero]
    exact zBs_iff hB (fun s => ⟨fun y => (eS s).mp (Or.inl y), fun y => ((eS s).mpr y).elim id (fun x => absurd x (z2 s))⟩)
  · have hC : c + (j + 1) ≤ vn V := Nat.not_lt.mp q
    obtain ⟨r1, r2⟩ := zrm_s (w := w) ht hC
    have e9 : nI (c + (j + 1)) - 1 = nI (c + j) := nI_pred (c + j)
    have v4 : vp_in (nI t) 4 := vp_in_nI (by omega) (by decide)
    have v16 : vp_in (nI (c + j)) 16 := vp_in_nI (by omega) (by decide)
    simp only [e9, nI_clamp (show c + j < 2 ^ 31 by omega)]
    have g1 : zq_fr [31, 32] h (zq_setI (zq_setI h 31 t (nI (c + (j + 1)))) 32 (c + j) (nI t)) := zq_fr_I (zq_fr_I zq_fr_rf (by decide)) (by decide)
    generalize eh : zq_setI (zq_setI h 31 t (nI (c + (j + 1)))) 32 (c + j) (nI t) = h1 at g1 ⊢
    have a30 : h1.1 30 = h.1 30 := (g1 30 (by decide)).1
    have a29 : h1.1 29 = h.1 29 := (g1 29 (by decide)).1
    have a31 : ∀ o, h1.1 31 o = if o = t then nI (c + (j + 1)) else h.1 31 o := fun o => by
      rw [← eh, zq_sI, if_neg (by omega), zq_sI]
      by_cases y : o = t
      · rw [if_pos ⟨rfl, y⟩, if_pos y]
      · rw [if_neg (fun z => y z.2), if_neg y]
    have a32 : ∀ i, h1.1 32 i = if i = c + j then nI t else h.1 32 i := fun i => by
      rw [← eh, zq_sI]
      by_cases y : i = c + j
      · rw [if_pos ⟨rfl, y⟩, if_pos y]
      · rw [if_neg (fun z => y z.2), if_neg y, zq_sI, if_neg (by omega)]
    have s1 : zcps V c w h h1 := ⟨fun o ho hu2 => ⟨by rw [a30], by rw [a31, if_neg (fun y => hu2 (by rw [y]; exact hu))]⟩, fun i hi => by rw [a32, if_neg (by omega)], by rw [a29], by rw [a29], zq_fr_w g1 (by decide)⟩
    have hX1 := XC_fr k5 g1 (by decide)
    have hSl : XSl V (c + (j + 1)) (zfu w c t (j + 1)) h1 := fun o ho hu2 => by
      by_cases y : o = t
      · subst y
        exact ⟨c, c + (j + 1), by omega, hC, by rw [a30]; exact h30, by rw [a31, if_pos rfl], fun g => (zfu_Wg hu (j + 1)).symm⟩
      · have hu3 : ¬ zcnw c w o := (zfu_un.mp hu2).elim id (fun x => absurd x y)
        obtain ⟨a, b, i1, i2, i3, i4, i5⟩ := k8 o ho hu3
        exact ⟨a, b, i1, i2, by rw [a30]; exact i3, by rw [a31, if_neg y]; exact i4, fun g => (i5 g).trans (zfu_W y (j + 1)).symm⟩
    have nxt : ∀ h', zBs V (fun s => S1 s ∨ zcel V (vn V - (c + (j + 1))) (c + (j + 1)) (zfu w c t (j + 1)) s) (F1 + zeN V (vn V - (c + (j + 1))) (c + (j + 1)) (zfu w c t (j + 1))) h' → zcps V (c + (j + 1)) (zfu w c t (j + 1)) h1 h' → ∃ b9 : zcpT, zm71 b9 < zm71 (h0, (V, c, w, mask, F, S), t, j) ∧ I_cpm71 (r + 1) Q b9 [some (.ref 29), some (.ref 9), some (.int (nI c)), some (.int (nI mask)), some (.int (nI (vg V - zcun V c w))), some (.int (nI t)), some (.int (nI (c + (j + 1) + 1)))] [] h' := fun h' b1 s2 => by
      obtain ⟨p1, p2, p3, p4, p5⟩ := s2
      have ut : ¬ zcnw (c + (j + 1)) (zfu w c t (j + 1)) t := zfu_un.mpr (Or.inr rfl)
      refine ⟨(h0, (V, c, w, mask, F, S), t, j + 1), by simp only [zm37, zm71]; omega, _, _, rfl, rfl, ⟨ht, hu, hr, hr1, by omega, hcn⟩, hd9, zcps_t (zcps_t hs s1) ⟨fun o ho hu2 => p1 o ho (zfu_un.mpr (Or.inl hu2)), fun i hi => p2 i (by omega), p3, p4, p5⟩, ⟨by rw [(p1 t ht ut).1, a30]; exact h30, fun i hi => ?_⟩, b1, by omega, fun s => ?_, hk⟩
      · rw [p2 (c + i) (by omega), a32]
        by_cases y : c + i = c + j
        · rw [if_pos y]
        · rw [if_neg y]
          exact h32 i (by omega)
      · rw [← eS s, r2 s, or_assoc]
    refine ⟨v4, v16, V, c + (j + 1), zfu w c t (j + 1), t, mask, rfl, ⟨ht, k2, k3, zfu_un.mpr (Or.inr rfl), fun o ho hb => zfu_un.mpr (Or.inl ((k4 o ho).mp hb))⟩, hX1, by rw [a29]; exact k6, hSl, fun hok => ?_, fun hok => ?_⟩
    · simp only [zc_10, xX7_part_113, not_true_eq_false, not_false_eq_true, forall_const, true_and, and_true, false_and, and_false, if_true, if_false, reduceIte, implies_true, and_self, ite_self, true_or, or_true, false_or, or_false, true_implies, false_implies, Classical.not_not, false_imp_iff, not_false_iff, zi_push, zi_iload, zi_lload, zi_aload, zi_istore, zi_astore, zi_lstore, zi_iinc, zi_i2, zi_i1, zi_idv, zi_l2, zi_ldv, zi_lsh, zi_i2l, zi_l2i, zi_lcmp, zi_dup, zi_dup2, zi_pop, zi_if1, zi_if2, zi_getI, zi_getL, zi_getR, zi_putI, zi_putZ, zi_putL, zi_aldI, zi_aldL, zi_astI, zi_astZ, zi_astL, zi_alen, zi_iret, zi_zret, zi_lret, zi_vret, zi_callV, zi_callS, zi_sw, zi_copyI, zi_copyL, zi_m2, zi_m1, zi_sval, zi_scod, zi_fmt, zi_balen, zi_bald, zi_bret, zi_callT, zq_nth, zq_put1, zq_put2, zq_clr, zq_nl, zq_tk, zq_ps, zq_sw, zq_l0, zq_a, zq_a1, List.length_cons, List.length_nil, List.nil_append, List.cons_append, List.append_nil, List.replicate, Nat.reduceAdd, Nat.reduceSub, Nat.reduceLeDiff, true_and, and_true, List.append_eq, List.cons.injEq, Value.int.injEq, Value.long.injEq, Value.ref.injEq, exists_and_left, exists_eq_left', and_assoc, zc_b, zc_0, zc_1, zc_10, zc_01, lg_cmp_ge, lg_cmp_le, lg_cmp_gt, lg_cmp_lt, lg_cmp_eq, zw_le, zw_lt, reduceIte, true_or, or_true, zw_g0, zw_l0, zw_g1, zw_l1, zw_g2, zw_l2, zw_g3, zw_l3, zw_g5, zw_l5, zw_g6, zw_l6, zw_g7, zw_l7, zw_g9, zw_l9, zw_g10, zw_l10, zw_g15, zw_l15, zw_g16, zw_l16, zw_g48, zw_l48, zw_g50, zw_l50, zw_g57, zw_l57, zw_g97, zw_l97, zw_g100, zw_l100, zw_g200, zw_l200, zw_g999, zw_l999, zw_g9999, zw_l9999]
      obtain ⟨m1, m2, m3⟩ := zbor mask k3 t (by omega)
      have ed : nI (vg V - zcun V c w) + 1 = nI (vg V - zcun V (c + (j + 1)) (zfu w c t (j + 1))) := by
        rw [nI_1]
        congr 1
        omega
      rw [m1, ed]
      have le1 : zpfN V c w (t + 1) ≤ zpfN V c w (vg V) := nsum_mono (by omega)
      rw [(zpf_e hcn).1] at le1
      have hk1 := hk.1
      refine ⟨V, c + (j + 1), zfu w c t (j + 1), mask ||| 2 ^ t, F1, S1, rfl, by omega, ⟨⟨hC, k2, m2⟩, fun o ho => ?_, hX1, ⟨by rw [a29]; exact k6, by rw [a29]; exact k7⟩, hSl, fun i hi => ?_, fun g o hg2 ho ug uo => ?_⟩, zBs_fr hB g1 (by decide), by omega, fun h' b1 s2 => ?_⟩
      · rw [m3 o (by omega), Bool.or_eq_true, beq_iff_eq, zfu_un, k4 o ho]
      · by_cases y : i < c
        · rw [zfu_lt y, a32, if_neg (by omega)]
          exact k9 i y
        · rw [zfu_at (by omega) hi, a32]
          refine ⟨ht, ?_⟩
          by_cases y2 : i = c + j
          · rw [if_pos y2]
          · rw [if_neg y2]
            have := h32 (i - c) (by omega)
            rw [show c + (i - c) = i by omega] at this
            exact this
      · by_cases yg : g = t
        · subst yg
          by_cases yo : o = g
          · subst yo
            exact Nat.lt_irrefl _
          · have hb := (k4 o ho).mpr ((zfu_un.mp uo).elim id (fun x => absurd x yo))
            exact (hok o ho hb).1
        · have hg3 := (zfu_un.mp ug).elim id (fun x => absurd x yg)
          by_cases yo : o = t
          · subst yo
            exact (hok g hg2 ((k4 g hg2).mpr hg3)).2
          · rw [zfu_W yg, zfu_W yo]
            exact ka g o hg2 ho hg3 ((zfu_un.mp uo).elim id (fun x => absurd x yo))
      · simp only [xX7_part_130, nI_1, not_true_eq_false, not_false_eq_true, forall_const, true_and, and_true, false_and, and_false, if_true, if_false, reduceIte, implies_true, and_self, ite_self, true_or, or_true, false_or, or_false, true_implies, false_implies, Classical.not_not, false_imp_iff, not_false_iff, zi_push, zi_iload, zi_lload, zi_aload, zi_istore, zi_astore, zi_lstore, zi_iinc, zi_i2, zi_i1, zi_idv, zi_l2, zi_ldv, zi_lsh, zi_i2l, zi_l2i, zi_lcmp, zi_dup, zi_dup2, zi_pop, zi_if1, zi_if2, zi_getI, zi_getL, zi_getR, zi_putI, zi_putZ, zi_putL, zi_aldI, zi_aldL, zi_astI, zi_astZ, zi_astL, zi_alen, zi_iret, zi_zret, zi_lret, zi_vret, zi_callV, zi_callS, zi_sw, zi_copyI, zi_copyL, zi_m2, zi_m1, zi_sval, zi_scod, zi_fmt, zi_balen, zi_bald, zi_bret, zi_callT, zq_nth, zq_put1, zq_put2, zq_clr, zq_nl, zq_tk, zq_ps, zq_sw, zq_l0, zq_a, zq_a1, List.length_cons, List.length_nil, List.nil_append, List.cons_append, List.append_nil, List.replicate, Nat.reduceAdd, Nat.reduceSub, Nat.reduceLeDiff, true_and, and_true, List.append_eq, List.cons.injEq, Value.int.injEq, Value.long.injEq, Value.ref.injEq, exists_and_left, exists_eq_left', and_assoc, zc_b, zc_0, zc_1, zc_10, zc_01, lg_cmp_ge, lg_cmp_le, lg_cmp_gt, lg_cmp_lt, lg_cmp_eq, zw_le, zw_lt, reduceIte, true_or, or_true, zw_g0, zw_l0, zw_g1, zw_l1, zw_g2, zw_l2, zw_g3, zw_l3, zw_g5, zw_l5, zw_g6, zw_l6, zw_g7, zw_l7, zw_g9, zw_l9, zw_g10, zw_l10, zw_g15, zw_l15, zw_g16, zw_l16, zw_g48, zw_l48, zw_g50, zw_l50, zw_g57, zw_l57, zw_g97, zw_l97, zw_g100, zw_l100, zw_g200, zw_l200, zw_g999, zw_l999, zw_g9999, zw_l9999]
        exact nxt h' b1 s2
    · have no : zeN V (vn V - (c + (j + 1))) (c + (j + 1)) (zfu w c t (j + 1)) = 0 ∧ ∀ s, ¬ zcel V (vn V - (c + (j + 1))) (c + (j + 1)) (zfu w c t (j + 1)) s := by
        have : ∃ o, o < vg V ∧ mask.testBit o = true ∧ (zcW V (c + (j + 1)) (zfu w c t (j + 1)) t t < zcW V (c + (j + 1)) (zfu w c t (j + 1)) t o ∨ zcW V (c + (j + 1)) (zfu w c t (j + 1)) o o < zcW V (c + (j + 1)) (zfu w c t (j + 1)) o t) := by
          refine Classical.byContradiction (fun z => hok (fun o ho hb => ⟨fun y => z ⟨o, ho, hb, Or.inl y⟩, fun y => z ⟨o, ho, hb, Or.inr y⟩⟩))
        obtain ⟨o, ho, hb, y⟩ := this
        have uo : ¬ zcnw (c + (j + 1)) (zfu w c t (j + 1)) o := zfu_un.mpr (Or.inl ((k4 o ho).mp hb))
        have ut : ¬ zcnw (c + (j + 1)) (zfu w c t (j + 1)) t := zfu_un.mpr (Or.inr rfl)
        rcases y with y | y
        · exact zcel_no ht ho (by omega) ut uo y
        · exact zcel_no ho ht (by omega) uo ut y
      simp only [xX7_part_130, nI_1, not_true_eq_false, not_false_eq_true, forall_const, true_and, and_true, false_and, and_false, if_true, if_false, reduceIte, implies_true, and_self, ite_self, true_or, or_true, false_or, or_false, true_implies, false_implies, Classical.not_not, false_imp_iff, not_false_iff, zi_push, zi_iload, zi_lload, zi_aload, zi_istore, zi_astore, zi_lstore, zi_iinc, zi_i2, zi_i1, zi_idv, zi_l2, zi_ldv, zi_lsh, zi_i2l, zi_l2i, zi_lcmp, zi_dup, zi_dup2, zi_pop, zi_if1, zi_if2, zi_getI, zi_getL, zi_getR, zi_putI, zi_putZ, zi_putL, zi_aldI, zi_aldL, zi_astI, zi_astZ, zi_astL, zi_alen, zi_iret, zi_zret, zi_lret, zi_vret, zi_callV, zi_callS, zi_sw, zi_copyI, zi_copyL, zi_m2, zi_m1, zi_sval, zi_scod, zi_fmt, zi_balen, zi_bald, zi_bret, zi_callT, zq_nth, zq_put1, zq_put2, zq_clr, zq_nl, zq_tk, zq_ps, zq_sw, zq_l0, zq_a, zq_a1, List.length_cons, List.length_nil, List.nil_append, List.cons_append, List.append_nil, List.replicate, Nat.reduceAdd, Nat.reduceSub, Nat.reduceLeDiff, true_and, and_true, List.append_eq, List.cons.injEq, Value.int.injEq, Value.long.injEq, Value.ref.injEq, exists_and_left, exists_eq_left', and_assoc, zc_b, zc_0, zc_1, zc_10, zc_01, lg_cmp_ge, lg_cmp_le, lg_cmp_gt, lg_cmp_lt, lg_cmp_eq, zw_le, zw_lt, reduceIte, true_or, or_true, zw_g0, zw_l0, zw_g1, zw_l1, zw_g2, zw_l2, zw_g3, zw_l3, zw_g5, zw_l5, zw_g6, zw_l6, zw_g7, zw_l7, zw_g9, zw_l9, zw_g10, zw_l10, zw_g15, zw_l15, zw_g16, zw_l16, zw_g48, zw_l48, zw_g50, zw_l50, zw_g57, zw_l57, zw_g97, zw_l97, zw_g100, zw_l100, zw_g200, zw_l200, zw_g999, zw_l999, zw_g9999, zw_l9999]
      refine nxt h1 ?_ zcps_rf
      rw [no.1, Nat.add_zero]
      exact zBs_iff (zBs_fr hB g1 (by decide)) (fun s => ⟨Or.inl, fun z => z.elim id (fun y => absurd y (no.2 s))⟩)
theorem ok_part : ∀ r, zq_M yX7_part cX7_part 7 none 0 (r + 3) (sp_part r)
  | 0 => by
    refine mX7_part ok_others (by decide) ok_note (by decide) ok_calmW (by decide) (ok_none (d := 0)) (by decide) zm37 (I_cpm37 0) zm71 (I_cpm71 0) (fun args h Q hs => ?_) (fun Q z ls st h hi => cp_37 (r := 0) (sm := fun _ _ _ => False) (Q := Q) (z := z) (ls := ls) (st := st) (h := h) hi) (fun Q z ls st h hi => ?_)
    · obtain ⟨V, c, w, mask, F, S, rfl, hr, hd, hB, hk⟩ := hs
      have hn := hd.2.2.1.1.1
      have h4 := hd.1.2.1
      have hc1 := hd.1.1
      have c1 : (nI (vn V) ≤ nI c) = (vn V ≤ c) := nI_leP (by omega) (by omega)
      have c2 : (nI (vg V - zcun V c w) < 4) = (vg V - zcun V c w < 4) := nI_ltP (b := 4) (by omega) (by decide)
      refine ⟨Nat.le_of_ble_eq_true rfl, ?_⟩
      simp only [xX7_part_0, xX7_part_8, xX7_part_36, hd.2.2.2.1.2, c1, c2, zi_push, zi_iload, zi_lload, zi_aload, zi_istore, zi_astore, zi_lstore, zi_iinc, zi_i2, zi_i1, zi_idv, zi_l2, zi_ldv, zi_lsh, zi_i2l, zi_l2i, zi_lcmp, zi_dup, zi_dup2, zi_pop, zi_if1, zi_if2, zi_getI, zi_getL, zi_getR, zi_putI, zi_putZ, zi_putL, zi_aldI, zi_aldL, zi_astI, zi_astZ, zi_astL, zi_alen, zi_iret, zi_zret, zi_lret, zi_vret, zi_callV, zi_callS, zi_sw, zi_copyI, zi_copyL, zi_m2, zi_m1, zi_sval, zi_scod, zi_fmt, zi_balen, zi_bald, zi_bret, zi_callT, zq_nth, zq_put1, zq_put2, zq_clr, zq_nl, zq_tk, zq_ps, zq_sw, zq_l0, zq_a, zq_a1, List.length_cons, List.length_nil, List.nil_append, List.cons_append, List.append_nil, List.replicate, Nat.reduceAdd, Nat.reduceSub, Nat.reduceLeDiff, true_and, and_true, List.append_eq, List.cons.injEq, Value.int.injEq, Value.long.injEq, Value.ref.injEq, exists_and_left, exists_eq_left', and_assoc, zc_b, zc_0, zc_1, zc_10, zc_01, lg_cmp_ge, lg_cmp_le, lg_cmp_gt, lg_cmp_lt, lg_cmp_eq, zw_le, zw_lt, reduceIte, true_or, or_true, zw_g0, zw_l0, zw_g1, zw_l1, zw_g2, zw_l2, zw_g3, zw_l3, zw_g5, zw_l5, zw_g6, zw_l6, zw_g7, zw_l7, zw_g9, zw_l9, zw_g10, zw_l10, zw_g15, zw_l15, zw_g16, zw_l16, zw_g48, zw_l48, zw_g50, zw_l50, zw_g57, zw_l57, zw_g97, zw_l97, zw_g100, zw_l100, zw_g200, zw_l200, zw_g999, zw_l999, zw_g9999, zw_l9999]
      refine ⟨fun q => cp_13 (r := 0) (Or.inl (by omega)) hd hB hk, fun q => ⟨fun q2 => ?_, fun q2 => cp_13 (r := 0) (Or.inr (by omega)) hd hB hk⟩⟩
      refine ⟨(h, (V, c, w, mask, F, S), 0, 0), none, rfl, rfl, ⟨Nat.zero_le _, hr, by omega⟩, hd, zcps_rf, ?_, hk⟩
      exact zBs_iff hB (fun s => ⟨Or.inl, fun z => z.elim id (fun ⟨g, h1, _⟩ => absurd h1 (Nat.not_lt_zero _))⟩)
    · obtain ⟨h0, ⟨V, c, w, mask, F, S⟩, t, j⟩ := z
      obtain ⟨F1, S1, -, -, ⟨-, -, -, hr1, -⟩, -⟩ := hi
      exact absurd hr1 (Nat.not_succ_le_zero 0)
  | r + 1 => by
    refine mX7_part ok_others (by omega) ok_note (by omega) ok_calmW (by omega) (ok_part r) (by omega) zm37 (I_cpm37 (r + 1)) zm71 (I_cpm71 (r + 1)) (fun args h Q hs => ?_) (fun Q z ls st h hi => cp_37 (r := r + 1) (sm := sp_part r) (Q := Q) (z := z) (ls := ls) (st := st) (h := h) hi) (fun Q z ls st h hi => cp_71 (r := r) (Q := Q) (z := z) (ls := ls) (st := st) (h := h) hi)
    obtain ⟨V, c, w, mask, F, S, rfl, hr, hd, hB, hk⟩ := hs
    have hn := hd.2.2.1.1.1
    have h4 := hd.1.2.1
    have hc1 := hd.1.1
    have c1 : (nI (vn V) ≤ nI c) = (vn V ≤ c) := nI_leP (by omega) (by omega)
    have c2 : (nI (vg V - zcun V c w) < 4) = (vg V - zcun V c w < 4) := nI_ltP (b := 4) (by omega) (by decide)
    refine ⟨Nat.le_of_ble_eq_true rfl, ?_⟩
    simp only [xX7_part_0, xX7_part_8, xX7_part_36, hd.2.2.2.1.2, c1, c2, zi_push, zi_iload, zi_lload, zi_aload, zi_istore, zi_astore, zi_lstore, zi_iinc, zi_i2, zi_i1, zi_idv, zi_l2, zi_ldv, zi_lsh, zi_i2l, zi_l2i, zi_lcmp, zi_dup, zi_dup2, zi_pop, zi_if1, zi_if2, zi_getI, zi_getL, zi_getR, zi_putI, zi_putZ, zi_putL, zi_aldI, zi_aldL, zi_astI, zi_astZ, zi_astL, zi_alen, zi_iret, zi_zret, zi_lret, zi_vret, zi_callV, zi_callS, zi_sw, zi_copyI, zi_copyL, zi_m2, zi_m1, zi_sval, zi_scod, zi_fmt, zi_balen, zi_bald, zi_bret, zi_callT, zq_nth, zq_put1, zq_put2, zq_clr, zq_nl, zq_tk, zq_ps, zq_sw, zq_l0, zq_a, zq_a1, List.length_cons, List.length_nil, List.nil_append, List.cons_append, List.append_nil, List.replicate, Nat.reduceAdd, Nat.reduceSub, Nat.reduceLeDiff, true_and, and_true, List.append_eq, List.cons.injEq, Value.int.injEq, Value.long.injEq, Value.ref.injEq, exists_and_left, exists_eq_left', and_assoc, zc_b, zc_0, zc_1, zc_10, zc_01, lg_cmp_ge, lg_cmp_le, lg_cmp_gt, lg_cmp_lt, lg_cmp_eq, zw_le, zw_lt, reduceIte, true_or, or_true, zw_g0, zw_l0, zw_g1, zw_l1, zw_g2, zw_l2, zw_g3, zw_l3, zw_g5, zw_l5, zw_g6, zw_l6, zw_g7, zw_l7, zw_g9, zw_l9, zw_g10, zw_l10, zw_g15, zw_l15, zw_g16, zw_l16, zw_g48, zw_l48, zw_g50, zw_l50, zw_g57, zw_l57, zw_g97, zw_l97, zw_g100, zw_l100, zw_g200, zw_l200, zw_g999, zw_l999, zw_g9999, zw_l9999]
    refine ⟨fun q => cp_13 (r := 0) (Or.inl (by omega)) hd hB hk, fun q => ⟨fun q2 => ?_, fun q2 => cp_13 (r := 0) (Or.inr (by omega)) hd hB hk⟩⟩
    refine ⟨(h, (V, c, w, mask, F, S), 0, 0), none, rfl, rfl, ⟨Nat.zero_le _, hr, by omega⟩, hd, zcps_rf, ?_, hk⟩
    exact zBs_iff hB (fun s => ⟨Or.inl, fun z => z.elim id (fun ⟨g, h1, _⟩ => absurd h1 (Nat.not_lt_zero _))⟩)
/-! ways; the face -/
def zw0 : Nat → Nat := fun _ => 0
def zcmR (V : zV) : List Int64 := match zcF V (vn V) 0 zw0 with
  | none => []
  | some f => zrw f (vn V)
def sp_ways : zq_Sp := fun args h Q => ∃ V, args = [.ref 29, .ref 9, .int (nI (vg V)), .ref 3] ∧ vg V ≤ 4 ∧ XC V h ∧ XR [] h ∧ ∀ h', XR (zcmR V) h' → zq_fr (3 :: 4 :: zcpf) h h' → Q (some (.int (nI (zcN V (vn V) 0 zw0)))) h'
def I_ways (Q : zq_Q) (z : zq_H × zV × Nat) : zq_P := fun ls st h => match z with
  | (h0, V, t) => ls = [some (.ref 29), some (.ref 9), some (.int (nI (vg V))), some (.ref 3), some (.int (nI t))] ∧ st = [] ∧ (vg V ≤ 4 ∧ t ≤ vn V ∧ vn V ≤ 16) ∧ h.1 29 5 = nI (vn V) ∧ (h.1 29 6 = nI (zcN V (vn V) 0 zw0) ∧ zcN V (vn V) 0 zw0 ≤ 2 ^ 30) ∧ (0 < zcN V (vn V) 0 zw0 → ∃ B : Nat → Nat, (∀ i, i < vn V → B i < 100 ∧ h.1 33 i = nI (B i)) ∧ zcmR V = zrw B (vn V) ∧ XR (zrw B t) h) ∧ (zcN V (vn V) 0 zw0 = 0 → zcmR V = [] ∧ XR [] h) ∧ zq_fr (3 :: 4 :: zcpf) h0 h ∧ ∀ h', XR (zcmR V) h' → zq_fr (3 :: 4 :: zcpf) h0 h' → Q (some (.int (nI (zcN V (vn V) 0 zw0)))) h'
theorem zrw_cg {f g : Nat → Nat} : ∀ n, (∀ i, i < n → f i = g i) → zrw f n = zrw g n
  | 0, _ => rfl
  | n + 1, h => by rw [zrw, zrw, zrw_cg n (fun i hi => h i (by omega)), h n (by omega)]
theorem zcun_w0 (V : zV) : zcun V 0 zw0 = vg V := by
  unfold zcun
  rw [nsum_cong (g := fun _ => 1) _ (fun g hg => if_pos (fun i hi => absurd hi (Nat.not_lt_zero _)))]
  induction vg V with
  | zero => rfl
  | succ n ih => rw [nsum, ih]
theorem ok_ways : zq_M yX7_ways cX7_ways 5 (some .int) 1 8 sp_ways := by
  refine mX7_ways (ok_part 4) (by decide) ok_rowAddL (by decide) (by decide) (fun z => 20 - z.2.2) I_ways (fun args h Q hs => ?_) (fun Q z ls st h hi => ?_)
  · obtain ⟨V, rfl, h4, hX, hR, k⟩ := hs
    have hn := hX.1.1
    refine ⟨Nat.le_of_ble_eq_true rfl, ?_⟩
    have e4 : zf_min (nI (vg V)) 4 = nI (vg V) := by rw [show (4 : Int32) = nI 4 from rfl, zminN (by omega) (by decide), Nat.min_eq_left h4]
    have e9 : (zq_setI h 29 4 (nI (vg V))).1 9 2 = nI (vn V) := by
      rw [zq_sI, if_neg (by omega)]
      exact hX.2.2.2.2.2.1.1.1
    simp only [xX7_ways_0, e4, e9, zi_push, zi_iload, zi_lload, zi_aload, zi_istore, zi_astore, zi_lstore, zi_iinc, zi_i2, zi_i1, zi_idv, zi_l2, zi_ldv, zi_lsh, zi_i2l, zi_l2i, zi_lcmp, zi_dup, zi_dup2, zi_pop, zi_if1, zi_if2, zi_getI, zi_getL, zi_getR, zi_putI, zi_putZ, zi_putL, zi_aldI, zi_aldL, zi_astI, zi_astZ, zi_astL, zi_alen, zi_iret, zi_zret, zi_lret, zi_vret, zi_callV, zi_callS, zi_sw, zi_copyI, zi_copyL, zi_m2, zi_m1, zi_sval, zi_scod, zi_fmt, zi_balen, zi_bald, zi_bret, zi_callT, zq_nth, zq_put1, zq_put2, zq_clr, zq_nl, zq_tk, zq_ps, zq_sw, zq_l0, zq_a, zq_a1, List.length_cons, List.length_nil, List.nil_append, List.cons_append, List.append_nil, List.replicate, Nat.reduceAdd, Nat.reduceSub, Nat.reduceLeDiff, true_and, and_true, List.append_eq, List.cons.injEq, Value.int.injEq, Value.long.injEq, Value.ref.injEq, exists_and_left, exists_eq_left', and_assoc, zc_b, zc_0, zc_1, zc_10, zc_01, lg_cmp_ge, lg_cmp_le, lg_cmp_gt, lg_cmp_lt, lg_cmp_eq, zw_le, zw_lt, reduceIte, true_or, or_true, zw_g0, zw_l0, zw_g1, zw_l1, zw_g2, zw_l2, zw_g3, zw_l3, zw_g5, zw_l5, zw_g6, zw_l6, zw_g7, zw_l7, zw_g9, zw_l9, zw_g10, zw_l10, zw_g15, zw_l15, zw_g16, zw_l16, zw_g48, zw_l48, zw_g50, zw_l50, zw_g57, zw_l57, zw_g97, zw_l97, zw_g100, zw_l100, zw_g200, zw_l200, zw_g999, zw_l999, zw_g9999, zw_l9999]
    have g0 : zq_fr [29] h (zq_setI (zq_setI (zq_setI h 29 4 (nI (vg V))) 29 5 (nI (vn V))) 29 6 0) := zq_fr_I (zq_fr_I (zq_fr_I zq_fr_rf (by decide)) (by decide)) (by decide)
    have hX1 := XC_fr hX g0 (by decide)
    have noW : ∀ o, zcnw 0 zw0 o := fun o i hi => absurd hi (Nat.not_lt_zero _)
    have hb := zcN_31 h4 (k := vn V) (c := 0) (w := zw0) hn
    refine ⟨V, 0, zw0, 0, 0, fun _ => False, by rw [zcun_w0, Nat.sub_self]; rfl, by rw [zcun_w0]; exact h4, ⟨⟨Nat.zero_le _, h4, by decide⟩, fun o ho => ⟨fun y => by simp at y, fun y => absurd (noW o) y⟩, hX1, ⟨by simp [zq_sI], by simp [zq_sI]⟩, fun o ho y => absurd (noW o) y, fun i hi => absurd hi (Nat.not_lt_zero _), fun g o _ _ y => absurd (noW g) y⟩, ⟨by simp [zq_sI]; rfl, Nat.zero_le _, Or.inl ⟨rfl, fun s y => y⟩⟩, ?_, fun h1 b1 s1 => ?_⟩
    · rw [Nat.sub_zero, ← zcN_00]
      omega
    · obtain ⟨p1, p2, p3, p4, p5⟩ := s1
      have f1 : zq_fr (3 :: 4 :: zcpf) h h1 := zq_fr_t (zq_fr_w g0 (by decide)) p5 (by decide)
      rw [Nat.sub_zero, Nat.zero_add, ← zcN_00] at b1
      have b2 := zBs_iff b1 (S2 := fun s => zcl V (vn V) 0 zw0 s) (fun s => ⟨fun y => (zcl_00 V (vn V) zw0 s).mpr (y.elim False.elim id), fun y => Or.inr ((zcl_00 V (vn V) zw0 s).mp y)⟩)
      have hR1 := XR_fr (XR_fr hR g0 (by decide)) p5 (by decide)
      have sp := zcF_sp (V := V) (vn V) 0 zw0 (by omega)
      have e6 : h1.1 29 5 = nI (vn V) := by
        rw [p4]
        simp [zq_sI]
      simp only [zi_push, zi_iload, zi_lload, zi_aload, zi_istore, zi_astore, zi_lstore, zi_iinc, zi_i2, zi_i1, zi_idv, zi_l2, zi_ldv, zi_lsh, zi_i2l, zi_l2i, zi_lcmp, zi_dup, zi_dup2, zi_pop, zi_if1, zi_if2, zi_getI, zi_getL, zi_getR, zi_putI, zi_putZ, zi_putL, zi_aldI, zi_aldL, zi_astI, zi_astZ, zi_astL, zi_alen, zi_iret, zi_zret, zi_lret, zi_vret, zi_callV, zi_callS, zi_sw, zi_copyI, zi_copyL, zi_m2, zi_m1, zi_sval, zi_scod, zi_fmt, zi_balen, zi_bald, zi_bret, zi_callT, zq_nth, zq_put1, zq_put2, zq_clr, zq_nl, zq_tk, zq_ps, zq_sw, zq_l0, zq_a, zq_a1, List.length_cons, List.length_nil, List.nil_append, List.cons_append, List.append_nil, List.replicate, Nat.reduceAdd, Nat.reduceSub, Nat.reduceLeDiff, true_and, and_true, List.append_eq, List.cons.injEq, Value.int.injEq, Value.long.injEq, Value.ref.injEq, exists_and_left, exists_eq_left', and_assoc, zc_b, zc_0, zc_1, zc_10, zc_01, lg_cmp_ge, lg_cmp_le, lg_cmp_gt, lg_cmp_lt, lg_cmp_eq, zw_le, zw_lt, reduceIte, true_or, or_true, zw_g0, zw_l0, zw_g1, zw_l1, zw_g2, zw_l2, zw_g3, zw_l3, zw_g5, zw_l5, zw_g6, zw_l6, zw_g7, zw_l7, zw_g9, zw_l9, zw_g10, zw_l10, zw_g15, zw_l15, zw_g16, zw_l16, zw_g48, zw_l48, zw_g50, zw_l50, zw_g57, zw_l57, zw_g97, zw_l97, zw_g100, zw_l100, zw_g200, zw_l200, zw_g999, zw_l999, zw_g9999, zw_l9999]
      refine ⟨(h, V, 0), rfl, rfl, ⟨h4, Nat.zero_le _, hn⟩, e6, ⟨b2.1, b2.2.1⟩, fun y => ?_, fun y => ⟨?_, hR1⟩, f1, k⟩
      · rcases b2.2.2 with ⟨y1, y2⟩ | ⟨y1, B, y2, ⟨s, y3, y4⟩, y5⟩
        · omega
        · refine ⟨B, y2, ?_, hR1⟩
          unfold zcmR
          cases e : zcF V (vn V) 0 zw0 with
          | none =>
            have := (sp.1 e).1
            omega
          | some f =>
            obtain ⟨-, q1, q2⟩ := sp.2 f e
            have le1 : ¬ zlx (vn V) B f := fun z => q2 s y3 (zlx_l (fun i hi => (y4 i hi).symm) z)
            exact zrw_cg (vn V) (fun i hi => (zlx_tot le1 (y5 f q1) i hi).symm)
      · unfold zcmR
        cases e : zcF V (vn V) 0 zw0 with
        | none => rfl
        | some f =>
          have := (sp.2 f e).1
          omega
  · obtain ⟨h0, V, t⟩ := z
    obtain ⟨rfl, rfl, ⟨h4, ht, hn⟩, e6, ⟨e7, hN⟩, hp, hz, hf, k⟩ := hi
    simp only [xX7_ways_33, xX7_ways_40, xX7_ways_49, xX7_ways_67, e6, e7, zl_ge ht (show vn V < 2 ^ 31 by omega), nI_le0 (show zcN V (vn V) 0 zw0 < 2 ^ 31 by omega), nI_clamp (show t < 2 ^ 31 by omega), zi_push, zi_iload, zi_lload, zi_aload, zi_istore, zi_astore, zi_lstore, zi_iinc, zi_i2, zi_i1, zi_idv, zi_l2, zi_ldv, zi_lsh, zi_i2l, zi_l2i, zi_lcmp, zi_dup, zi_dup2, zi_pop, zi_if1, zi_if2, zi_getI, zi_getL, zi_getR, zi_putI, zi_putZ, zi_putL, zi_aldI, zi_aldL, zi_astI, zi_astZ, zi_astL, zi_alen, zi_iret, zi_zret, zi_lret, zi_vret, zi_callV, zi_callS, zi_sw, zi_copyI, zi_copyL, zi_m2, zi_m1, zi_sval, zi_scod, zi_fmt, zi_balen, zi_bald, zi_bret, zi_callT, zq_nth, zq_put1, zq_put2, zq_clr, zq_nl, zq_tk, zq_ps, zq_sw, zq_l0, zq_a, zq_a1, List.length_cons, List.length_nil, List.nil_append, List.cons_append, List.append_nil, List.replicate, Nat.reduceAdd, Nat.reduceSub, Nat.reduceLeDiff, true_and, and_true, List.append_eq, List.cons.injEq, Value.int.injEq, Value.long.injEq, Value.ref.injEq, exists_and_left, exists_eq_left', and_assoc, zc_b, zc_0, zc_1, zc_10, zc_01, lg_cmp_ge, lg_cmp_le, lg_cmp_gt, lg_cmp_lt, lg_cmp_eq, zw_le, zw_lt, reduceIte, true_or, or_true, zw_g0, zw_l0, zw_g1, zw_l1, zw_g2, zw_l2, zw_g3, zw_l3, zw_g5, zw_l5, zw_g6, zw_l6, zw_g7, zw_l7, zw_g9, zw_l9, zw_g10, zw_l10, zw_g15, zw_l15, zw_g16, zw_l16, zw_g48, zw_l48, zw_g50, zw_l50, zw_g57, zw_l57, zw_g97, zw_l97, zw_g100, zw_l100, zw_g200, zw_l200, zw_g999, zw_l999, zw_g9999, zw_l9999]
    refine ⟨fun q => ?_, fun q => ⟨fun q2 => ?_, fun q2 => ⟨vp_in_nI (by omega) (by decide), ?_⟩⟩⟩
    · obtain ⟨z1, z2⟩ := hz q
      rw [← z1] at z2
      exact k h z2 hf
    · subst q2
      obtain ⟨B, -, b2, b3⟩ := hp (by omega)
      rw [← b2] at b3
      exact k h b3 hf
    · obtain ⟨B, b1, b2, b3⟩ := hp (by omega)
      obtain ⟨l1, l2⟩ := b1 t (by omega)
      rw [l2, nI_l (by omega)]
      refine ⟨_, _, rfl, b3, by rw [zrw_len]; omega, fun h1 r1 f1 => ?_⟩
      simp only [nI_1, zi_push, zi_iload, zi_lload, zi_aload, zi_istore, zi_astore, zi_lstore, zi_iinc, zi_i2, zi_i1, zi_idv, zi_l2, zi_ldv, zi_lsh, zi_i2l, zi_l2i, zi_lcmp, zi_dup, zi_dup2, zi_pop, zi_if1, zi_if2, zi_getI, zi_getL, zi_getR, zi_putI, zi_putZ, zi_putL, zi_aldI, zi_aldL, zi_astI, zi_astZ, zi_astL, zi_alen, zi_iret, zi_zret, zi_lret, zi_vret, zi_callV, zi_callS, zi_sw, zi_copyI, zi_copyL, zi_m2, zi_m1, zi_sval, zi_scod, zi_fmt, zi_balen, zi_bald, zi_bret, zi_callT, zq_nth, zq_put1, zq_put2, zq_clr, zq_nl, zq_tk, zq_ps, zq_sw, zq_l0, zq_a, zq_a1, List.length_cons, List.length_nil, List.nil_append, List.cons_append, List.append_nil, List.replicate, Nat.reduceAdd, Nat.reduceSub, Nat.reduceLeDiff, true_and, and_true, List.append_eq, List.cons.injEq, Value.int.injEq, Value.long.injEq, Value.ref.injEq, exists_and_left, exists_eq_left', and_assoc, zc_b, zc_0, zc_1, zc_10, zc_01, lg_cmp_ge, lg_cmp_le, lg_cmp_gt, lg_cmp_lt, lg_cmp_eq, zw_le, zw_lt, reduceIte, true_or, or_true, zw_g0, zw_l0, zw_g1, zw_l1, zw_g2, zw_l2, zw_g3, zw_l3, zw_g5, zw_l5, zw_g6, zw_l6, zw_g7, zw_l7, zw_g9, zw_l9, zw_g10, zw_l10, zw_g15, zw_l15, zw_g16, zw_l16, zw_g48, zw_l48, zw_g50, zw_l50, zw_g57, zw_l57, zw_g97, zw_l97, zw_g100, zw_l100, zw_g200, zw_l200, zw_g999, zw_l999, zw_g9999, zw_l9999]
      have a29 := (f1 29 (by decide)).1
      have a33 := (f1 33 (by decide)).1
      exact ⟨(h0, V, t + 1), by dsimp only; omega, rfl, rfl, ⟨h4, by omega, hn⟩, by rw [a29]; exact e6, ⟨by rw [a29]; exact e7, hN⟩, fun _ => ⟨B, fun i hi => by rw [a33]; exact b1 i hi, b2, r1⟩, fun y => absurd y q, zq_fr_t hf f1 (by decide), k⟩
def sp_xCalm (V : zV) : zq_Sp := fun args h Q => args = [.ref 0] ∧ XC V h ∧ (4 < vg V → Q (some (.int (-3))) h) ∧ (vg V = 0 → Q (some (.int (-2))) h) ∧ (vg V ≤ 4 → ¬ vg V = 0 → ∀ h', XR (zcmR V) h' → zq_fr (3 :: 4 :: zcpf) h h' → Q (some (.int (nI (zcN V (vn V) 0 zw0)))) h')
theorem ok_xCalm (V : zV) : zq_M yX11_calm cX11_calm 1 (some .int) 1 9 (sp_xCalm V) := by
  refine mX11_calm ok_rowClearL (by decide) ok_ways (by decide) (fun args h Q hs => ?_)
  obtain ⟨rfl, hX, k1, k2, k3⟩ := hs
  have hg := hX.2.1.1
  have c4 : (nI (vg V) ≤ 4) = (vg V ≤ 4) := nI_leP (b := 4) (by omega) (by decide)
  refine ⟨Nat.le_of_ble_eq_true rfl, ?_⟩
  simp only [xX11_calm_0, xX11_calm_11, xX11_calm_14, xX11_calm_24, xX11_calm_27, hX.2.1.2.1, c4, nI_zP (show vg V < 2 ^ 31 by omega), zi_push, zi_iload, zi_lload, zi_aload, zi_istore, zi_astore, zi_lstore, zi_iinc, zi_i2, zi_i1, zi_idv, zi_l2, zi_ldv, zi_lsh, zi_i2l, zi_l2i, zi_lcmp, zi_dup, zi_dup2, zi_pop, zi_if1, zi_if2, zi_getI, zi_getL, zi_getR, zi_putI, zi_putZ, zi_putL, zi_aldI, zi_aldL, zi_astI, zi_astZ, zi_astL, zi_alen, zi_iret, zi_zret, zi_lret, zi_vret, zi_callV, zi_callS, zi_sw, zi_copyI, zi_copyL, zi_m2, zi_m1, zi_sval, zi_scod, zi_fmt, zi_balen, zi_bald, zi_bret, zi_callT, zq_nth, zq_put1, zq_put2, zq_clr, zq_nl, zq_tk, zq_ps, zq_sw, zq_l0, zq_a, zq_a1, List.length_cons, List.length_nil, List.nil_append, List.cons_append, List.append_nil, List.replicate, Nat.reduceAdd, Nat.reduceSub, Nat.reduceLeDiff, true_and, and_true, List.append_eq, List.cons.injEq, Value.int.injEq, Value.long.injEq, Value.ref.injEq, exists_and_left, exists_eq_left', and_assoc, zc_b, zc_0, zc_1, zc_10, zc_01, lg_cmp_ge, lg_cmp_le, lg_cmp_gt, lg_cmp_lt, lg_cmp_eq, zw_le, zw_lt, reduceIte, true_or, or_true, zw_g0, zw_l0, zw_g1, zw_l1, zw_g2, zw_l2, zw_g3, zw_l3, zw_g5, zw_l5, zw_g6, zw_l6, zw_g7, zw_l7, zw_g9, zw_l9, zw_g10, zw_l10, zw_g15, zw_l15, zw_g16, zw_l16, zw_g48, zw_l48, zw_g50, zw_l50, zw_g57, zw_l57, zw_g97, zw_l97, zw_g100, zw_l100, zw_g200, zw_l200, zw_g999, zw_l999, zw_g9999, zw_l9999]
  refine ⟨fun q => ⟨fun q2 => k2 q2, fun q2 => ⟨rfl, fun h1 r1 f1 => ?_⟩⟩, fun q => k1 (by omega)⟩
  have x1 := XC_fr hX f1 (by decide)
  simp only [x1.1.2.1, x1.2.1.2.1, zi_push, zi_iload, zi_lload, zi_aload, zi_istore, zi_astore, zi_lstore, zi_iinc, zi_i2, zi_i1, zi_idv, zi_l2, zi_ldv, zi_lsh, zi_i2l, zi_l2i, zi_lcmp, zi_dup, zi_dup2, zi_pop, zi_if1, zi_if2, zi_getI, zi_getL, zi_getR, zi_putI, zi_putZ, zi_putL, zi_aldI, zi_aldL, zi_astI, zi_astZ, zi_astL, zi_alen, zi_iret, zi_zret, zi_lret, zi_vret, zi_callV, zi_callS, zi_sw, zi_copyI, zi_copyL, zi_m2, zi_m1, zi_sval, zi_scod, zi_fmt, zi_balen, zi_bald, zi_bret, zi_callT, zq_nth, zq_put1, zq_put2, zq_clr, zq_nl, zq_tk, zq_ps, zq_sw, zq_l0, zq_a, zq_a1, List.length_cons, List.length_nil, List.nil_append, List.cons_append, List.append_nil, List.replicate, Nat.reduceAdd, Nat.reduceSub, Nat.reduceLeDiff, true_and, and_true, List.append_eq, List.cons.injEq, Value.int.injEq, Value.long.injEq, Value.ref.injEq, exists_and_left, exists_eq_left', and_assoc, zc_b, zc_0, zc_1, zc_10, zc_01, lg_cmp_ge, lg_cmp_le, lg_cmp_gt, lg_cmp_lt, lg_cmp_eq, zw_le, zw_lt, reduceIte, true_or, or_true, zw_g0, zw_l0, zw_g1, zw_l1, zw_g2, zw_l2, zw_g3, zw_l3, zw_g5, zw_l5, zw_g6, zw_l6, zw_g7, zw_l7, zw_g9, zw_l9, zw_g10, zw_l10, zw_g15, zw_l15, zw_g16, zw_l16, zw_g48, zw_l48, zw_g50, zw_l50, zw_g57, zw_l57, zw_g97, zw_l97, zw_g100, zw_l100, zw_g200, zw_l200, zw_g999, zw_l999, zw_g9999, zw_l9999]
  refine ⟨V, rfl, q, x1, r1, fun h2 r2 f2 => ?_⟩
  simp only [zi_push, zi_iload, zi_lload, zi_aload, zi_istore, zi_astore, zi_lstore, zi_iinc, zi_i2, zi_i1, zi_idv, zi_l2, zi_ldv, zi_lsh, zi_i2l, zi_l2i, zi_lcmp, zi_dup, zi_dup2, zi_pop, zi_if1, zi_if2, zi_getI, zi_getL, zi_getR, zi_putI, zi_putZ, zi_putL, zi_aldI, zi_aldL, zi_astI, zi_astZ, zi_astL, zi_alen, zi_iret, zi_zret, zi_lret, zi_vret, zi_callV, zi_callS, zi_sw, zi_copyI, zi_copyL, zi_m2, zi_m1, zi_sval, zi_scod, zi_fmt, zi_balen, zi_bald, zi_bret, zi_callT, zq_nth, zq_put1, zq_put2, zq_clr, zq_nl, zq_tk, zq_ps, zq_sw, zq_l0, zq_a, zq_a1, List.length_cons, List.length_nil, List.nil_append, List.cons_append, List.append_nil, List.replicate, Nat.reduceAdd, Nat.reduceSub, Nat.reduceLeDiff, true_and, and_true, List.append_eq, List.cons.injEq, Value.int.injEq, Value.long.injEq, Value.ref.injEq, exists_and_left, exists_eq_left', and_assoc, zc_b, zc_0, zc_1, zc_10, zc_01, lg_cmp_ge, lg_cmp_le, lg_cmp_gt, lg_cmp_lt, lg_cmp_eq, zw_le, zw_lt, reduceIte, true_or, or_true, zw_g0, zw_l0, zw_g1, zw_l1, zw_g2, zw_l2, zw_g3, zw_l3, zw_g5, zw_l5, zw_g6, zw_l6, zw_g7, zw_l7, zw_g9, zw_l9, zw_g10, zw_l10, zw_g15, zw_l15, zw_g16, zw_l16, zw_g48, zw_l48, zw_g50, zw_l50, zw_g57, zw_l57, zw_g97, zw_l97, zw_g100, zw_l100, zw_g200, zw_l200, zw_g999, zw_l999, zw_g9999, zw_l9999]
  exact k3 q q2 h2 r2 (zq_fr_t (zq_fr_w f1 (by decide)) f2 (by decide))
