/-! ===== readers at a place: the class ===== -/
def zcur (s : Nat → Int32) (e p : Nat) : Int32 := if p < e then s p else -1
def XD (n : Nat) (s : Nat → Int32) (e p : Nat) (h : zq_H) : Prop := XT n s h ∧ h.1 1 2 = nI e ∧ h.1 1 3 = nI p ∧ p ≤ e ∧ e ≤ n
def ME (s : Nat → Int32) (e p : Nat) (h : zq_H) : Prop := (∀ i, i < 80 → h.1 64 i = s i ∧ 0 ≤ s i ∧ s i ≤ 255) ∧ h.1 56 14 = nI p ∧ h.1 56 15 = nI e ∧ p ≤ e ∧ e ≤ 80
/-- a digit at p; its value; how many, m at most; their number -/
abbrev zisd (s : Nat → Int32) (e p : Nat) : Prop := p < e ∧ 48 ≤ s p ∧ s p ≤ 57
def zdv (s : Nat → Int32) (p : Nat) : Nat := (s p).toNatClampNeg - 48
def zln (s : Nat → Int32) (e p : Nat) : Nat → Nat
  | 0 => 0
  | m + 1 => if zisd s e p then 1 + zln s e (p + 1) m else 0
def znv (s : Nat → Int32) (p : Nat) : Nat → Nat
  | 0 => 0
  | k + 1 => znv s p k * 10 + zdv s (p + k)
theorem zdv_eq {s : Nat → Int32} {e p : Nat} (h : zisd s e p) : s p = nI (48 + zdv s p) ∧ zdv s p ≤ 9 := by
  obtain ⟨j, hj, ej⟩ := nI_of2 (M := 57) (n := 57) (by decide) (Int32.not_lt.mpr (Int32.le_trans (by decide) h.2.1)) h.2.2
  have h1 : 48 ≤ j := (nI_leI (a := 48) (by decide) (by omega)).mp (by rw [← ej]; exact h.2.1)
  unfold zdv
  rw [ej, nI_clamp (by omega)]
  exact ⟨by congr 1; omega, by omega⟩
theorem znv_lt {s : Nat → Int32} {e p : Nat} : ∀ k, (∀ i, i < k → zisd s e (p + i)) → znv s p k < 10 ^ k
  | 0, _ => Nat.one_pos
  | k + 1, h => by
    have h1 := znv_lt k (fun i hi => h i (by omega))
    have h2 := (zdv_eq (h k (by omega))).2
    rw [znv, Nat.pow_succ]
    omega
theorem zln_sp {s : Nat → Int32} {e : Nat} : ∀ k m p, (∀ i, i < k → zisd s e (p + i)) → zln s e p (k + m) = k + zln s e (p + k) m
  | 0, m, p, _ => by rw [Nat.zero_add, Nat.zero_add, Nat.add_zero]
  | k + 1, m, p, h => by
    have h1 := zln_sp k m (p + 1) (fun i hi => by
      have := h (i + 1) (by omega)
      rw [show p + (i + 1) = p + 1 + i by omega] at this
      exact this)
    have h0 := h 0 (by omega)
    rw [Nat.add_zero] at h0
    rw [show k + 1 + m = (k + m) + 1 by omega, zln, if_pos h0, h1, show p + 1 + k = p + (k + 1) by omega]
    omega
theorem zln_no {s : Nat → Int32} {e p m : Nat} (h : ¬ zisd s e p) : zln s e p m = 0 := by
  cases m with
  | zero => rfl
  | succ m => rw [zln, if_neg h]
theorem zln_e {s : Nat → Int32} {e : Nat} : ∀ m p, p ≤ e → p + zln s e p m ≤ e
  | 0, p, h => h
  | m + 1, p, h => by
    rw [zln]
    split
    · next q =>
      have := zln_e (s := s) m (p + 1) q.1
      omega
    · exact h
theorem zln_le {s : Nat → Int32} {e : Nat} : ∀ m p, zln s e p m ≤ m
  | 0, p => Nat.le_refl _
  | m + 1, p => by
    rw [zln]
    split
    · have := zln_le (s := s) (e := e) m (p + 1)
      omega
    · exact Nat.zero_le _
theorem zln_d {s : Nat → Int32} {e : Nat} : ∀ m p i, i < zln s e p m → zisd s e (p + i)
  | 0, p, i, h => absurd h (Nat.not_lt_zero _)
  | m + 1, p, i, h => by
    rw [zln] at h
    split at h
    · next q =>
      cases i with
      | zero => exact q
      | succ i =>
        have := zln_d (s := s) (e := e) m (p + 1) i (by omega)
        rw [show p + 1 + i = p + (i + 1) by omega] at this
        exact this
    · exact absurd h (Nat.not_lt_zero _)
theorem XD_ok {n : Nat} {s : Nat → Int32} {e p : Nat} {h : zq_H} (k : XD n s e p h) : zt_ok h ∧ zt_cur h = zcur s e p := by
  obtain ⟨⟨k1, k2, k3⟩, k4, k5, k6, k7⟩ := k
  refine ⟨⟨?_, ?_, ?_, fun i hi => ?_⟩, ?_⟩
  · rw [k5]
    exact nI_pos' (by omega)
  · rw [k4, k5]
    exact nI_le k6 (by omega)
  · rw [k4]
    exact nI_le (b := 80) (by omega) (by decide)
  · rw [(k3 i hi).1]
    exact (k3 i hi).2
  · unfold zt_cur zcur
    rw [k4, k5, nI_clamp (by omega)]
    simp only [nI_ltP (show p < 2 ^ 31 by omega) (show e < 2 ^ 31 by omega)]
    split
    · next q => rw [(k3 p (by omega)).1]
    · rfl
theorem XD_adv {n : Nat} {s : Nat → Int32} {e p : Nat} {h : zq_H} (k : XD n s e p h) (l : p < e) : XD n s e (p + 1) (zt_adv h) ∧ zq_fr [1] h (zt_adv h) := by
  obtain ⟨⟨k1, k2, k3⟩, k4, k5, k6, k7⟩ := k
  unfold zt_adv
  rw [k5, nI_1]
  exact ⟨⟨⟨by simpa [zq_sI] using k1, k2, fun i hi => by simpa [zq_sI] using k3 i hi⟩, by simpa [zq_sI] using k4, by simp [zq_sI], l, k7⟩, zq_fr_I zq_fr_rf (by decide)⟩
theorem XD_rng {n : Nat} {s : Nat → Int32} {e p : Nat} {h : zq_H} (k : XD n s e p h) (i : Nat) (hi : i < 80) : 0 ≤ s i ∧ s i ≤ 255 := (k.1.2.2 i hi).2
theorem XD_fr {n : Nat} {s : Nat → Int32} {e p : Nat} {ps : List Nat} {h h' : zq_H} (k : XD n s e p h) (f : zq_fr ps h h') (d : 1 ∉ ps ∧ 2 ∉ ps) : XD n s e p h' := by
  unfold XD at *
  rw [(f 1 d.1).1]
  exact ⟨XT_fr k.1 f d, k.2⟩
def sp_xStart : zq_Sp := fun args h Q => ∃ n s lim, args = [.ref 1, .int (nI lim)] ∧ lim ≤ 80 ∧ XT n s h ∧ ∀ h', XD n s (min n lim) 0 h' → zq_fr [1] h h' → Q none h'
theorem ok_xStart : zq_M yX8_start cX8_start 2 none 0 1 sp_xStart := by
  refine zq_M_w ok_start (fun args h Q ⟨n, s, lim, e, hl, hT, k⟩ => ⟨nI lim, e, ?_⟩)
  have hn := hT.2.1
  rw [hT.1, zminN (by omega) (by omega)]
  refine k _ ⟨⟨by simpa [zq_sI] using hT.1, hn, fun i hi => by simpa [zq_sI] using hT.2.2 i hi⟩, by simp [zq_sI], by simp [zq_sI]; rfl, Nat.zero_le _, Nat.min_le_left _ _⟩ (zq_fr_I (zq_fr_I zq_fr_rf (by decide)) (by decide))
def sp_xNext : zq_Sp := fun args h Q => ∃ n s e p, args = [.ref 1] ∧ XD n s e p h ∧ Q (some (.int (zcur s e p))) h
theorem ok_xNext : zq_M yX8_next cX8_next 1 (some .int) 1 0 sp_xNext := zq_M_w ok_next (fun args h Q ⟨n, s, e, p, ea, hD, k⟩ => ⟨ea, (XD_ok hD).1, by rw [(XD_ok hD).2]; exact k⟩)
def sp_xSkip : zq_Sp := fun args h Q => ∃ n s e p w, args = [.ref 1, .int w] ∧ XD n s e p h ∧ (p < e ∧ s p = w → ∀ h', XD n s e (p + 1) h' → zq_fr [1] h h' → Q (some (.int 1)) h') ∧ (¬ (p < e ∧ s p = w) → Q (some (.int 0)) h)
theorem ok_xSkip : zq_M yX8_skip cX8_skip 2 (some .boolean) 1 0 sp_xSkip := zq_M_w ok_skip (fun args h Q ⟨n, s, e, p, w, ea, hD, k1, k2⟩ => ⟨w, ea, (XD_ok hD).1, by
  have hn := hD.1.2.1
  obtain ⟨d1, d2, d3, d4⟩ := hD.2
  rw [(XD_ok hD).2, d1, d2]
  simp only [nI_ltP (show p < 2 ^ 31 by omega) (show e < 2 ^ 31 by omega)]
  unfold zcur
  by_cases c : p < e
  · by_cases c2 : s p = w
    · rw [if_pos c, if_pos ⟨c, c2⟩]
      exact k1 ⟨c, c2⟩ _ (XD_adv hD c).1 (XD_adv hD c).2
    · rw [if_pos c, if_neg (fun z => c2 z.2)]
      exact k2 (fun z => c2 z.2)
  · rw [if_neg (fun z => c z.1)]
    exact k2 (fun z => c z.1)⟩)
def sp_xDigit : zq_Sp := fun args h Q => ∃ n s e p l, args = [.ref 1, .int (nI l)] ∧ l ≤ 9 ∧ XD n s e p h ∧ (zisd s e p ∧ l ≤ zdv s p → ∀ h', XD n s e (p + 1) h' → zq_fr [1] h h' → Q (some (.int (nI (zdv s p)))) h') ∧ (¬ (zisd s e p ∧ l ≤ zdv s p) → Q (some (.int (-1))) h)
theorem ok_xDigit : zq_M yX8_takeDigit cX8_takeDigit 3 (some .int) 1 1 sp_xDigit := zq_M_w ok_takeDigit (fun args h Q ⟨n, s, e, p, l, ea, hl, hD, k1, k2⟩ => ⟨nI l, ea, nI_pos' (by omega), nI_le (b := 9) hl (by decide), (XD_ok hD).1, by
  rw [(XD_ok hD).2, show (48 : Int32) + nI l = nI (48 + l) from nI_add 48 l]
  unfold zcur
  by_cases c : p < e
  · rw [if_pos c]
    by_cases c2 : zisd s e p
    · obtain ⟨v1, v2⟩ := zdv_eq c2
      have ew : s p - 48 = nI (zdv s p) := by
        rw [v1]
        exact (nI_sub (a := 48 + zdv s p) (b := 48) (Nat.le_add_right _ _)).trans (by rw [Nat.add_sub_cancel_left])
      rw [ew]
      by_cases c3 : l ≤ zdv s p
      · rw [if_pos ⟨by rw [v1]; exact nI_le (by omega) (by omega), c2.2.2⟩]
        exact k1 ⟨c2, c3⟩ _ (XD_adv hD c).1 (XD_adv hD c).2
      · rw [if_neg (fun z => c3 (by have := z.1; rw [v1, nI_leI (by omega) (by omega)] at this; omega))]
        exact k2 (fun z => c3 z.2)
    · rw [if_neg (fun z => c2 ⟨c, Int32.le_trans (nI_le (a := 48) (by omega) (by omega)) z.1, z.2⟩)]
      exact k2 (fun z => c2 z.1)
  · rw [if_neg c, if_neg (fun z => absurd z.1 (Int32.not_le.mpr (Int32.lt_of_lt_of_le (by decide) (nI_pos' (show 48 + l < 2 ^ 31 by omega)))))]
    exact k2 (fun z => c z.1.1)⟩)
/-- one of the first k letters at p; which -/
abbrev zisl (s : Nat → Int32) (e p k : Nat) : Prop := p < e ∧ 97 ≤ s p ∧ s p < nI (97 + k)
def zlv (s : Nat → Int32) (p : Nat) : Nat := (s p).toNatClampNeg - 97
theorem zlv_eq {s : Nat → Int32} {e p k : Nat} (hk : k ≤ 26) (h : zisl s e p k) : s p = nI (97 + zlv s p) ∧ zlv s p < k := by
  obtain ⟨j, hj, ej⟩ := zg_nat (g := 97 + k) (by omega) ⟨Int32.le_trans (by decide) h.2.1, h.2.2⟩
  have h1 : 97 ≤ j := (nI_leI (a := 97) (by decide) (by omega)).mp (by rw [← ej]; exact h.2.1)
  unfold zlv
  rw [ej, nI_clamp (by omega)]
  exact ⟨by congr 1; omega, by omega⟩
def sp_xLetter : zq_Sp := fun args h Q => ∃ n s e p k, args = [.ref 1, .int (nI k)] ∧ k ≤ 26 ∧ XD n s e p h ∧ (zisl s e p k → ∀ h', XD n s e (p + 1) h' → zq_fr [1] h h' → Q (some (.int (nI (zlv s p)))) h') ∧ (¬ zisl s e p k → Q (some (.int (-1))) h)
theorem ok_xLetter : zq_M yX8_takeLetter cX8_takeLetter 3 (some .int) 1 1 sp_xLetter := zq_M_w ok_takeLetter (fun args h Q ⟨n, s, e, p, l, ea, hl, hD, k1, k2⟩ => ⟨nI l, ea, nI_pos' (by omega), nI_le (b := 26) hl (by decide), (XD_ok hD).1, by
  rw [(XD_ok hD).2, show (97 : Int32) + nI l = nI (97 + l) from nI_add 97 l]
  unfold zcur
  by_cases c : p < e
  · rw [if_pos c]
    by_cases c2 : zisl s e p l
    · obtain ⟨v1, v2⟩ := zlv_eq hl c2
      have ew : s p - 97 = nI (zlv s p) := by
        rw [v1]
        exact (nI_sub (a := 97 + zlv s p) (b := 97) (Nat.le_add_right _ _)).trans (by rw [Nat.add_sub_cancel_left])
      rw [ew, if_pos c2.2]
      exact k1 c2 _ (XD_adv hD c).1 (XD_adv hD c).2
    · rw [if_neg (fun z => c2 ⟨c, z⟩)]
      exact k2 c2
  · rw [if_neg c, if_neg (fun z => absurd z.1 (by decide))]
    exact k2 (fun z => c z.1)⟩)
def sp_xFin : zq_Sp := fun args h Q => ∃ n s e p, args = [.ref 1] ∧ XD n s e p h ∧ (n ≤ p → Q (some (.int 1)) h) ∧ (¬ n ≤ p → Q (some (.int 0)) h)
theorem ok_xFin : zq_M yX8_isFinished cX8_isFinished 1 (some .boolean) 1 0 sp_xFin := zq_M_w ok_isFinished (fun args h Q ⟨n, s, e, p, ea, hD, k1, k2⟩ => ⟨ea, by
  have hn := hD.1.2.1
  obtain ⟨d1, d2, d3, d4⟩ := hD.2
  rw [hD.1.1, d2]
  simp only [nI_leP (show n < 2 ^ 31 by omega) (show p < 2 ^ 31 by omega)]
  split
  · next q => exact k1 q
  · next q => exact k2 q⟩)
def sp_xFault : zq_Sp := fun args h Q => ∃ p, args = [.ref 1] ∧ h.1 1 3 = nI p ∧ Q (some (.int (-1 - nI p))) h
theorem ok_xFault : zq_M yX8_fault cX8_fault 1 (some .int) 1 0 sp_xFault := zq_M_w ok_fault (fun args h Q ⟨p, ea, hp, k⟩ => ⟨ea, by rw [hp]; exact k⟩)
def sp_xClear : zq_Sp := fun args h Q => ∃ n s, args = [.ref 1] ∧ XT n s h ∧ ∀ h', XT 0 s h' → h'.1 1 3 = h.1 1 3 → zq_fr [1] h h' → Q none h'
theorem ok_xClear : zq_M yX8_clear cX8_clear 1 none 0 0 sp_xClear := zq_M_w ok_clear (fun args h Q ⟨n, s, ea, hT, k⟩ => ⟨ea, k _ ⟨by simp [zq_sI]; rfl, Nat.zero_le _, fun i hi => by simpa [zq_sI] using hT.2.2 i hi⟩ (by simp [zq_sI]) (zq_fr_I zq_fr_rf (by decide))⟩)
def sp_xNumber : zq_Sp := fun args h Q => ∃ n s e p m, args = [.ref 1, .int (nI m)] ∧ (1 ≤ m ∧ m ≤ 3) ∧ XD n s e p h ∧ (zln s e p m = 0 → Q (some (.int (-1))) h) ∧ (0 < zln s e p m → ∀ h', XD n s e (p + zln s e p m) h' → zq_fr [1] h h' → Q (some (.int (nI (znv s p (zln s e p m))))) h')
def I_xNumber (Q : zq_Q) (z : zq_H × Nat × (Nat → Int32) × Nat × Nat × Nat × Nat) : zq_P := fun ls st h => match z with
  | (h0, n, s, e, p, m, k) => ∃ s4, st = [] ∧ (1 ≤ m ∧ m ≤ 3) ∧ zq_fr [1] h0 h ∧ ((ls = [some (.ref 1), some (.int (nI m)), some (.int (-1)), some (.int (nI k)), s4] ∧ Q (some (.int (-1))) h) ∨ (ls = [some (.ref 1), some (.int (nI m)), some (.int (nI (znv s p k))), some (.int (nI k)), s4] ∧ (1 ≤ k ∧ k ≤ m) ∧ (∀ i, i < k → zisd s e (p + i)) ∧ XD n s e (p + k) h ∧ (0 < zln s e p m → ∀ h', XD n s e (p + zln s e p m) h' → zq_fr [1] h0 h' → Q (some (.int (nI (znv s p (zln s e p m))))) h')))
theorem ok_xNumber : zq_M yX8_takeNumber cX8_takeNumber 5 (some .int) 1 2 sp_xNumber := by
  refine mX8_takeNumber ok_xDigit (by decide) (fun z => 10 - z.2.2.2.2.2.2) I_xNumber (fun args h Q hs => ?_) (fun Q z ls st h hi => ?_)
  · obtain ⟨n, s, e, p, m, rfl, hm, hD, k1, k2⟩ := hs
    refine ⟨Nat.le_of_ble_eq_true rfl, ?_⟩
    simp only [xX8_takeNumber_46, xX8_takeNumber_32, xX8_takeNumber_29, xX8_takeNumber_17, xX8_takeNumber_12, xX8_takeNumber_8, xX8_takeNumber_0, zi_push, zi_iload, zi_lload, zi_aload, zi_istore, zi_astore, zi_lstore, zi_iinc, zi_i2, zi_i1, zi_idv, zi_l2, zi_ldv, zi_lsh, zi_i2l, zi_l2i, zi_lcmp, zi_dup, zi_dup2, zi_pop, zi_if1, zi_if2, zi_getI, zi_getL, zi_getR, zi_putI, zi_putZ, zi_putL, zi_aldI, zi_aldL, zi_astI, zi_astZ, zi_astL, zi_alen, zi_iret, zi_zret, zi_lret, zi_vret, zi_callV, zi_callS, zi_sw, zi_copyI, zi_copyL, zi_m2, zi_m1, zi_sval, zi_scod, zi_fmt, zi_balen, zi_bald, zi_bret, zi_callT, zq_nth, zq_put1, zq_put2, zq_clr, zq_nl, zq_tk, zq_ps, zq_sw, zq_l0, zq_a, zq_a1, List.length_cons, List.length_nil, List.nil_append, List.cons_append, List.append_nil, List.replicate, Nat.reduceAdd, Nat.reduceSub, Nat.reduceLeDiff, true_and, and_true, List.append_eq, List.cons.injEq, Value.int.injEq, Value.long.injEq, Value.ref.injEq, exists_and_left, exists_eq_left', and_assoc, zc_b, zc_0, zc_1, zc_10, zc_01, lg_cmp_ge, lg_cmp_le, lg_cmp_gt, lg_cmp_lt, lg_cmp_eq, zw_le, zw_lt, reduceIte, true_or, or_true, zw_g0, zw_l0, zw_g1, zw_l1, zw_g2, zw_l2, zw_g3, zw_l3, zw_g5, zw_l5, zw_g6, zw_l6, zw_g7, zw_l7, zw_g9, zw_l9, zw_g10, zw_l10, zw_g15, zw_l15, zw_g16, zw_l16, zw_g48, zw_l48, zw_g50, zw_l50, zw_g57, zw_l57, zw_g97, zw_l97, zw_g100, zw_l100, zw_g200, zw_l200, zw_g999, zw_l999, zw_g9999, zw_l9999]
    refine ⟨n, s, e, p, 0, rfl, by decide, hD, fun q h1 d1 f1 => ?_, fun q => ?_⟩
    · simp only [zi_push, zi_iload, zi_lload, zi_aload, zi_istore, zi_astore, zi_lstore, zi_iinc, zi_i2, zi_i1, zi_idv, zi_l2, zi_ldv, zi_lsh, zi_i2l, zi_l2i, zi_lcmp, zi_dup, zi_dup2, zi_pop, zi_if1, zi_if2, zi_getI, zi_getL, zi_getR, zi_putI, zi_putZ, zi_putL, zi_aldI, zi_aldL, zi_astI, zi_astZ, zi_astL, zi_alen, zi_iret, zi_zret, zi_lret, zi_vret, zi_callV, zi_callS, zi_sw, zi_copyI, zi_copyL, zi_m2, zi_m1, zi_sval, zi_scod, zi_fmt, zi_balen, zi_bald, zi_bret, zi_callT, zq_nth, zq_put1, zq_put2, zq_clr, zq_nl, zq_tk, zq_ps, zq_sw, zq_l0, zq_a, zq_a1, List.length_cons, List.length_nil, List.nil_append, List.cons_append, List.append_nil, List.replicate, Nat.reduceAdd, Nat.reduceSub, Nat.reduceLeDiff, true_and, and_true, List.append_eq, List.cons.injEq, Value.int.injEq, Value.long.injEq, Value.ref.injEq, exists_and_left, exists_eq_left', and_assoc, zc_b, zc_0, zc_1, zc_10, zc_01, lg_cmp_ge, lg_cmp_le, lg_cmp_gt, lg_cmp_lt, lg_cmp_eq, zw_le, zw_lt, reduceIte, true_or, or_true, zw_g0, zw_l0, zw_g1, zw_l1, zw_g2, zw_l2, zw_g3, zw_l3, zw_g5, zw_l5, zw_g6, zw_l6, zw_g7, zw_l7, zw_g9, zw_l9, zw_g10, zw_l10, zw_g15, zw_l15, zw_g16, zw_l16, zw_g48, zw_l48, zw_g50, zw_l50, zw_g57, zw_l57, zw_g97, zw_l97, zw_g100, zw_l100, zw_g200, zw_l200, zw_g999, zw_l999, zw_g9999, zw_l9999]
      refine ⟨(h, n, s, e, p, m, 1), none, rfl, hm, f1, Or.inr ⟨?_, ⟨Nat.le_refl _, hm.1⟩, fun i hi => by rw [show i = 0 by omega]; exact q.1, d1, k2⟩⟩
      rw [znv, znv, Nat.zero_mul, Nat.zero_add, Nat.add_zero]
      rfl
    · simp only [zi_push, zi_iload, zi_lload, zi_aload, zi_istore, zi_astore, zi_lstore, zi_iinc, zi_i2, zi_i1, zi_idv, zi_l2, zi_ldv, zi_lsh, zi_i2l, zi_l2i, zi_lcmp, zi_dup, zi_dup2, zi_pop, zi_if1, zi_if2, zi_getI, zi_getL, zi_getR, zi_putI, zi_putZ, zi_putL, zi_aldI, zi_aldL, zi_astI, zi_astZ, zi_astL, zi_alen, zi_iret, zi_zret, zi_lret, zi_vret, zi_callV, zi_callS, zi_sw, zi_copyI, zi_copyL, zi_m2, zi_m1, zi_sval, zi_scod, zi_fmt, zi_balen, zi_bald, zi_bret, zi_callT, zq_nth, zq_put1, zq_put2, zq_clr, zq_nl, zq_tk, zq_ps, zq_sw, zq_l0, zq_a, zq_a1, List.length_cons, List.length_nil, List.nil_append, List.cons_append, List.append_nil, List.replicate, Nat.reduceAdd, Nat.reduceSub, Nat.reduceLeDiff, true_and, and_true, List.append_eq, List.cons.injEq, Value.int.injEq, Value.long.injEq, Value.ref.injEq, exists_and_left, exists_eq_left', and_assoc, zc_b, zc_0, zc_1, zc_10, zc_01, lg_cmp_ge, lg_cmp_le, lg_cmp_gt, lg_cmp_lt, lg_cmp_eq, zw_le, zw_lt, reduceIte, true_or, or_true, zw_g0, zw_l0, zw_g1, zw_l1, zw_g2, zw_l2, zw_g3, zw_l3, zw_g5, zw_l5, zw_g6, zw_l6, zw_g7, zw_l7, zw_g9, zw_l9, zw_g10, zw_l10, zw_g15, zw_l15, zw_g16, zw_l16, zw_g48, zw_l48, zw_g50, zw_l50, zw_g57, zw_l57, zw_g97, zw_l97, zw_g100, zw_l100, zw_g200, zw_l200, zw_g999, zw_l999, zw_g9999, zw_l9999]
      have : ¬ zisd s e p := fun z => q ⟨z, Nat.zero_le _⟩
      exact ⟨(h, n, s, e, p, m, 1), none, rfl, hm, zq_fr_rf, Or.inl ⟨rfl, k1 (zln_no this)⟩⟩
  · obtain ⟨h0, n, s, e, p, m, k⟩ := z
    obtain ⟨s4, rfl, hm, hf, hi⟩ := hi
    rcases hi with ⟨rfl, q⟩ | ⟨rfl, hk, hd, hD, k2⟩
    · simp only [xX8_takeNumber_8, xX8_takeNumber_46, show ((-1 : Int32) < 0) = True from eq_true (by decide), not_true_eq_false, not_false_eq_true, forall_const, true_and, and_true, false_and, and_false, if_true, if_false, reduceIte, implies_true, and_self, ite_self, true_or, or_true, false_or, or_false, true_implies, false_implies, Classical.not_not, false_imp_iff, not_false_iff, zi_push, zi_iload, zi_lload, zi_aload, zi_istore, zi_astore, zi_lstore, zi_iinc, zi_i2, zi_i1, zi_idv, zi_l2, zi_ldv, zi_lsh, zi_i2l, zi_l2i, zi_lcmp, zi_dup, zi_dup2, zi_pop, zi_if1, zi_if2, zi_getI, zi_getL, zi_getR, zi_putI, zi_putZ, zi_putL, zi_aldI, zi_aldL, zi_astI, zi_astZ, zi_astL, zi_alen, zi_iret, zi_zret, zi_lret, zi_vret, zi_callV, zi_callS, zi_sw, zi_copyI, zi_copyL, zi_m2, zi_m1, zi_sval, zi_scod, zi_fmt, zi_balen, zi_bald, zi_bret, zi_callT, zq_nth, zq_put1, zq_put2, zq_clr, zq_nl, zq_tk, zq_ps, zq_sw, zq_l0, zq_a, zq_a1, List.length_cons, List.length_nil, List.nil_append, List.cons_append, List.append_nil, List.replicate, Nat.reduceAdd, Nat.reduceSub, Nat.reduceLeDiff, true_and, and_true, List.append_eq, List.cons.injEq, Value.int.injEq, Value.long.injEq, Value.ref.injEq, exists_and_left, exists_eq_left', and_assoc, zc_b, zc_0, zc_1, zc_10, zc_01, lg_cmp_ge, lg_cmp_le, lg_cmp_gt, lg_cmp_lt, lg_cmp_eq, zw_le, zw_lt, reduceIte, true_or, or_true, zw_g0, zw_l0, zw_g1, zw_l1, zw_g2, zw_l2, zw_g3, zw_l3, zw_g5, zw_l5, zw_g6, zw_l6, zw_g7, zw_l7, zw_g9, zw_l9, zw_g10, zw_l10, zw_g15, zw_l15, zw_g16, zw_l16, zw_g48, zw_l48, zw_g50, zw_l50, zw_g57, zw_l57, zw_g97, zw_l97, zw_g100, zw_l100, zw_g200, zw_l200, zw_g999, zw_l999, zw_g9999, zw_l9999]
      exact q
    · have hv := znv_lt k hd
      have h3 : 10 ^ k ≤ 10 ^ 3 := Nat.pow_le_pow_right (by decide) (by omega)
      have e1 : (nI (znv s p k) < 0) = False := eq_false (nI_pos (by omega))
      have hz : k ≤ m → zln s e p m = k + zln s e (p + k) (m - k) := fun hkm => by
        have := zln_sp (s := s) (e := e) k (m - k) p hd
        rw [show k + (m - k) = m by omega] at this
        exact this
      have hz := hz hk.2
      simp only [xX8_takeNumber_8, xX8_takeNumber_12, xX8_takeNumber_46, e1, zl_ge hk.2 (show m < 2 ^ 31 by omega), not_true_eq_false, not_false_eq_true, forall_const, true_and, and_true, false_and, and_false, if_true, if_false, reduceIte, implies_true, and_self, ite_self, true_or, or_true, false_or, or_false, true_implies, false_implies, Classical.not_not, false_imp_iff, not_false_iff, zi_push, zi_iload, zi_lload, zi_aload, zi_istore, zi_astore, zi_lstore, zi_iinc, zi_i2, zi_i1, zi_idv, zi_l2, zi_ldv, zi_lsh, zi_i2l, zi_l2i, zi_lcmp, zi_dup, zi_dup2, zi_pop, zi_if1, zi_if2, zi_getI, zi_getL, zi_getR, zi_putI, zi_putZ, zi_putL, zi_aldI, zi_aldL, zi_astI, zi_astZ, zi_astL, zi_alen, zi_iret, zi_zret, zi_lret, zi_vret, zi_callV, zi_callS, zi_sw, zi_copyI, zi_copyL, zi_m2, zi_m1, zi_sval, zi_scod, zi_fmt, zi_balen, zi_bald, zi_bret, zi_callT, zq_nth, zq_put1, zq_put2, zq_clr, zq_nl, zq_tk, zq_ps, zq_sw, zq_l0, zq_a, zq_a1, List.length_cons, List.length_nil, List.nil_append, List.cons_append, List.append_nil, List.replicate, Nat.reduceAdd, Nat.reduceSub, Nat.reduceLeDiff, true_and, and_true, List.append_eq, List.cons.injEq, Value.int.injEq, Value.long.injEq, Value.ref.injEq, exists_and_left, exists_eq_left', and_assoc, zc_b, zc_0, zc_1, zc_10, zc_01, lg_cmp_ge, lg_cmp_le, lg_cmp_gt, lg_cmp_lt, lg_cmp_eq, zw_le, zw_lt, reduceIte, true_or, or_true, zw_g0, zw_l0, zw_g1, zw_l1, zw_g2, zw_l2, zw_g3, zw_l3, zw_g5, zw_l5, zw_g6, zw_l6, zw_g7, zw_l7, zw_g9, zw_l9, zw_g10, zw_l10, zw_g15, zw_l15, zw_g16, zw_l16, zw_g48, zw_l48, zw_g50, zw_l50, zw_g57, zw_l57, zw_g97, zw_l97, zw_g100, zw_l100, zw_g200, zw_l200, zw_g999, zw_l999, zw_g9999, zw_l9999]
      refine ⟨fun q => ?_, fun q => ?_⟩
      · subst q
        rw [Nat.sub_self, zln, Nat.add_zero] at hz
        rw [hz] at k2
        exact k2 (by omega) h hD hf
      · simp only [xX8_takeNumber_17, zi_push, zi_iload, zi_lload, zi_aload, zi_istore, zi_astore, zi_lstore, zi_iinc, zi_i2, zi_i1, zi_idv, zi_l2, zi_ldv, zi_lsh, zi_i2l, zi_l2i, zi_lcmp, zi_dup, zi_dup2, zi_pop, zi_if1, zi_if2, zi_getI, zi_getL, zi_getR, zi_putI, zi_putZ, zi_putL, zi_aldI, zi_aldL, zi_astI, zi_astZ, zi_astL, zi_alen, zi_iret, zi_zret, zi_lret, zi_vret, zi_callV, zi_callS, zi_sw, zi_copyI, zi_copyL, zi_m2, zi_m1, zi_sval, zi_scod, zi_fmt, zi_balen, zi_bald, zi_bret, zi_callT, zq_nth, zq_put1, zq_put2, zq_clr, zq_nl, zq_tk, zq_ps, zq_sw, zq_l0, zq_a, zq_a1, List.length_cons, List.length_nil, List.nil_append, List.cons_append, List.append_nil, List.replicate, Nat.reduceAdd, Nat.reduceSub, Nat.reduceLeDiff, true_and, and_true, List.append_eq, List.cons.injEq, Value.int.injEq, Value.long.injEq, Value.ref.injEq, exists_and_left, exists_eq_left', and_assoc, zc_b, zc_0, zc_1, zc_10, zc_01, lg_cmp_ge, lg_cmp_le, lg_cmp_gt, lg_cmp_lt, lg_cmp_eq, zw_le, zw_lt, reduceIte, true_or, or_true, zw_g0, zw_l0, zw_g1, zw_l1, zw_g2, zw_l2, zw_g3, zw_l3, zw_g5, zw_l5, zw_g6, zw_l6, zw_g7, zw_l7, zw_g9, zw_l9, zw_g10, zw_l10, zw_g15, zw_l15, zw_g16, zw_l16, zw_g48, zw_l48, zw_g50, zw_l50, zw_g57, zw_l57, zw_g97, zw_l97, zw_g100, zw_l100, zw_g200, zw_l200, zw_g999, zw_l999, zw_g9999, zw_l9999]
        refine ⟨n, s, e, p + k, 0, rfl, by decide, hD, fun q2 h1 d1 f1 => ?_, fun q2 => ?_⟩
        · have e2 : (0 ≤ nI (zdv s (p + k))) = True := eq_true (nI_pos' (by have := (zdv_eq q2.1).2; omega))
          simp only [xX8_takeNumber_32, e2, not_true_eq_false, not_false_eq_true, forall_const, true_and, and_true, false_and, and_false, if_true, if_false, reduceIte, implies_true, and_self, ite_self, true_or, or_true, false_or, or_false, true_implies, false_implies, Classical.not_not, false_imp_iff, not_false_iff, zi_push, zi_iload, zi_lload, zi_aload, zi_istore, zi_astore, zi_lstore, zi_iinc, zi_i2, zi_i1, zi_idv, zi_l2, zi_ldv, zi_lsh, zi_i2l, zi_l2i, zi_lcmp, zi_dup, zi_dup2, zi_pop, zi_if1, zi_if2, zi_getI, zi_getL, zi_getR, zi_putI, zi_putZ, zi_putL, zi_aldI, zi_aldL, zi_astI, zi_astZ, zi_astL, zi_alen, zi_iret, zi_zret, zi_lret, zi_vret, zi_callV, zi_callS, zi_sw, zi_copyI, zi_copyL, zi_m2, zi_m1, zi_sval, zi_scod, zi_fmt, zi_balen, zi_bald, zi_bret, zi_callT, zq_nth, zq_put1, zq_put2, zq_clr, zq_nl, zq_tk, zq_ps, zq_sw, zq_l0, zq_a, zq_a1, List.length_cons, List.length_nil, List.nil_append, List.cons_append, List.append_nil, List.replicate, Nat.reduceAdd, Nat.reduceSub, Nat.reduceLeDiff, true_and, and_true, List.append_eq, List.cons.injEq, Value.int.injEq, Value.long.injEq, Value.ref.injEq, exists_and_left, exists_eq_left', and_assoc, zc_b, zc_0, zc_1, zc_10, zc_01, lg_cmp_ge, lg_cmp_le, lg_cmp_gt, lg_cmp_lt, lg_cmp_eq, zw_le, zw_lt, reduceIte, true_or, or_true, zw_g0, zw_l0, zw_g1, zw_l1, zw_g2, zw_l2, zw_g3, zw_l3, zw_g5, zw_l5, zw_g6, zw_l6, zw_g7, zw_l7, zw_g9, zw_l9, zw_g10, zw_l10, zw_g15, zw_l15, zw_g16, zw_l16, zw_g48, zw_l48, zw_g50, zw_l50, zw_g57, zw_l57, zw_g97, zw_l97, zw_g100, zw_l100, zw_g200, zw_l200, zw_g999, zw_l999, zw_g9999, zw_l9999]
          rw [show nI (znv s p k) * 10 + nI (zdv s (p + k)) = nI (znv s p (k + 1)) by rw [show (10 : Int32) = nI 10 from rfl, pk_mul, nI_add]; rfl, nI_1]
          exact ⟨(h0, n, s, e, p, m, k + 1), by dsimp only; omega, _, rfl, hm, zq_fr_t hf f1 (by decide), Or.inr ⟨rfl, ⟨by omega, by omega⟩, fun i hi => by
            by_cases q3 : i = k
            · rw [q3]
              exact q2.1
            · exact hd i (by omega), d1, k2⟩⟩
        · have : ¬ zisd s e (p + k) := fun z => q2 ⟨z, Nat.zero_le _⟩
          rw [zln_no this, Nat.add_zero] at hz
          rw [hz] at k2
          simp only [xX8_takeNumber_29, xX8_takeNumber_46, show ((0 : Int32) ≤ -1) = False from eq_false (by decide), not_true_eq_false, not_false_eq_true, forall_const, true_and, and_true, false_and, and_false, if_true, if_false, reduceIte, implies_true, and_self, ite_self, true_or, or_true, false_or, or_false, true_implies, false_implies, Classical.not_not, false_imp_iff, not_false_iff, zi_push, zi_iload, zi_lload, zi_aload, zi_istore, zi_astore, zi_lstore, zi_iinc, zi_i2, zi_i1, zi_idv, zi_l2, zi_ldv, zi_lsh, zi_i2l, zi_l2i, zi_lcmp, zi_dup, zi_dup2, zi_pop, zi_if1, zi_if2, zi_getI, zi_getL, zi_getR, zi_putI, zi_putZ, zi_putL, zi_aldI, zi_aldL, zi_astI, zi_astZ, zi_astL, zi_alen, zi_iret, zi_zret, zi_lret, zi_vret, zi_callV, zi_callS, zi_sw, zi_copyI, zi_copyL, zi_m2, zi_m1, zi_sval, zi_scod, zi_fmt, zi_balen, zi_bald, zi_bret, zi_callT, zq_nth, zq_put1, zq_put2, zq_clr, zq_nl, zq_tk, zq_ps, zq_sw, zq_l0, zq_a, zq_a1, List.length_cons, List.length_nil, List.nil_append, List.cons_append, List.append_nil, List.replicate, Nat.reduceAdd, Nat.reduceSub, Nat.reduceLeDiff, true_and, and_true, List.append_eq, List.cons.injEq, Value.int.injEq, Value.long.injEq, Value.ref.injEq, exists_and_left, exists_eq_left', and_assoc, zc_b, zc_0, zc_1, zc_10, zc_01, lg_cmp_ge, lg_cmp_le, lg_cmp_gt, lg_cmp_lt, lg_cmp_eq, zw_le, zw_lt, reduceIte, true_or, or_true, zw_g0, zw_l0, zw_g1, zw_l1, zw_g2, zw_l2, zw_g3, zw_l3, zw_g5, zw_l5, zw_g6, zw_l6, zw_g7, zw_l7, zw_g9, zw_l9, zw_g10, zw_l10, zw_g15, zw_l15, zw_g16, zw_l16, zw_g48, zw_l48, zw_g50, zw_l50, zw_g57, zw_l57, zw_g97, zw_l97, zw_g100, zw_l100, zw_g200, zw_l200, zw_g999, zw_l999, zw_g9999, zw_l9999]
          exact k2 (by omega) h hD hf
