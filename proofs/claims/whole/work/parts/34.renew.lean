/-! ===== the class renews its worths ===== -/
def XW0 (h : zq_H) : Prop := ∀ i, i < 6 → h.1 11 (17 * i) = 0
def sp_renew : zq_Sp := fun args h Q => ∃ n g cr ra cu ta de L cd, args = [.ref 9, .ref 48, .ref 40, .ref 5] ∧ XL n cr ra cu h ∧ XG g ta de h ∧ ZC L cd ∧ XP L cd h ∧ XW0 h ∧ ∀ h', XW n g (zwt n cr ra cu ta L cd) h' → XW0 h' → zq_fr [9, 10, 11, 51] h h' → Q none h'
def zrn (h0 : zq_H) (n g : Nat) (wt : Nat → Nat → Int32) (Q : zq_Q) : Prop := n ≤ 16 ∧ g ≤ 6 ∧ h0.1 40 3 = nI n ∧ h0.1 5 3 = nI g ∧ (∀ h1, zq_fr [9, 10, 11, 51] h0 h1 → ∀ j c, j < g → c < n → ∀ Q' : zq_Q, (∀ h2, zq_fr [51] h1 h2 → Q' (some (.int (wt j c))) h2) → sp_xWorthOf 6 18 [.ref 48, .ref 40, .int (nI c), .int (nI j), .ref 6, .int (nI (3 * j))] h1 Q') ∧ ∀ h', XW n g wt h' → XW0 h' → zq_fr [9, 10, 11, 51] h0 h' → Q none h'
def xrow (n : Nat) (wt : Nat → Nat → Int32) (i : Nat) (h : zq_H) : Prop := ∀ j, j < i → (∀ c, c < n → h.1 10 (16 * j + c) = wt j c) ∧ ∀ c, c ≤ n → h.1 11 (17 * j + c) = zsum (wt j) c
def I_rn11 (Q : zq_Q) (a : zq_H × Nat × Nat × (Nat → Nat → Int32) × Nat × Nat) : zq_P := fun ls st h => match a with
  | (h0, n, g, wt, i, _) => ∃ s5 s6 s7, ls = [some (.ref 9), some (.ref 48), some (.ref 40), some (.ref 5), some (.int (nI i)), s5, s6, s7] ∧ st = [] ∧ zrn h0 n g wt Q ∧ zq_fr [9, 10, 11, 51] h0 h ∧ i ≤ g ∧ h.1 9 2 = nI n ∧ XW0 h ∧ xrow n wt i h
def I_rn26 (Q : zq_Q) (a : zq_H × Nat × Nat × (Nat → Nat → Int32) × Nat × Nat) : zq_P := fun ls st h => match a with
  | (h0, n, g, wt, i, c) => ∃ s7, ls = [some (.ref 9), some (.ref 48), some (.ref 40), some (.ref 5), some (.int (nI i)), some (.int (zsum (wt i) c)), some (.int (nI c)), s7] ∧ st = [] ∧ zrn h0 n g wt Q ∧ zq_fr [9, 10, 11, 51] h0 h ∧ i < g ∧ c ≤ n ∧ h.1 9 2 = nI n ∧ XW0 h ∧ xrow n wt i h ∧ (∀ k, k < c → h.1 10 (16 * i + k) = wt i k) ∧ ∀ k, k ≤ c → h.1 11 (17 * i + k) = zsum (wt i) k
theorem z3a (k : Nat) : nI k * 3 = nI (3 * k) := by
  rw [show (3 : Int32) = nI 3 from rfl, pk_mul, Nat.mul_comm]
theorem z17a (k t : Nat) : nI k * 17 + nI t + 1 = nI (17 * k + t + 1) := by
  rw [show (17 : Int32) = nI 17 from rfl, pk_mul, nI_add, nI_1, Nat.mul_comm]
theorem ok_renew : zq_M yX10_renew cX10_renew 8 none 0 3 sp_renew := by
  refine mX10_renew (ok_xWorthOf 6 18) (by decide) (fun a => (a.2.2.1 - a.2.2.2.2.1) * 20) I_rn11 (fun a => (a.2.2.1 - a.2.2.2.2.1) * 20 - 1 - a.2.2.2.2.2) I_rn26 (fun args h Q hs => ?_) (fun Q a ls st h hi => ?_) (fun Q a ls st h hi => ?_)
  · obtain ⟨n, g, cr, ra, cu, ta, de, L, cd, rfl, hL, hG, hC, hP, h0, h2⟩ := hs
    refine ⟨Nat.le_of_ble_eq_true rfl, ?_⟩
    simp only [xX10_renew_105, xX10_renew_99, xX10_renew_35, xX10_renew_26, xX10_renew_20, xX10_renew_11, xX10_renew_0, zi_push, zi_iload, zi_lload, zi_aload, zi_istore, zi_astore, zi_lstore, zi_iinc, zi_i2, zi_i1, zi_idv, zi_l2, zi_ldv, zi_lsh, zi_i2l, zi_l2i, zi_lcmp, zi_dup, zi_dup2, zi_pop, zi_if1, zi_if2, zi_getI, zi_getL, zi_getR, zi_putI, zi_putZ, zi_putL, zi_aldI, zi_aldL, zi_astI, zi_astZ, zi_astL, zi_alen, zi_iret, zi_zret, zi_lret, zi_vret, zi_callV, zi_callS, zi_sw, zi_copyI, zi_copyL, zi_m2, zi_m1, zi_sval, zi_scod, zi_fmt, zi_balen, zi_bald, zi_bret, zi_callT, zq_nth, zq_put1, zq_put2, zq_clr, zq_nl, zq_tk, zq_ps, zq_sw, zq_l0, zq_a, zq_a1, List.length_cons, List.length_nil, List.nil_append, List.cons_append, List.append_nil, List.replicate, Nat.reduceAdd, Nat.reduceSub, Nat.reduceLeDiff, true_and, and_true, List.append_eq, List.cons.injEq, Value.int.injEq, Value.long.injEq, Value.ref.injEq, exists_and_left, exists_eq_left', and_assoc, zc_b, zc_0, zc_1, zc_10, zc_01, lg_cmp_ge, lg_cmp_le, lg_cmp_gt, lg_cmp_lt, lg_cmp_eq, zw_le, zw_lt, reduceIte, true_or, or_true, zw_g0, zw_l0, zw_g1, zw_l1, zw_g2, zw_l2, zw_g3, zw_l3, zw_g5, zw_l5, zw_g6, zw_l6, zw_g7, zw_l7, zw_g9, zw_l9, zw_g10, zw_l10, zw_g15, zw_l15, zw_g16, zw_l16, zw_g48, zw_l48, zw_g50, zw_l50, zw_g57, zw_l57, zw_g97, zw_l97, zw_g100, zw_l100, zw_g200, zw_l200, zw_g999, zw_l999, zw_g9999, zw_l9999, hL.2.1]
    refine ⟨(h, n, g, zwt n cr ra cu ta L cd, 0, 0), none, none, none, rfl, rfl, ⟨hL.1, hG.1, hL.2.1, hG.2.1, fun h1 f1 j c hj hc Q' k => ⟨c, n, cr, ra, cu, ta (3 * j), ta (3 * j + 1), ta (3 * j + 2), 3 * j, nI j, L, cd, rfl, ⟨rfl, by decide⟩, hc, XL_fr hL f1 (by decide), ?_, hC, ?_, k⟩, h2⟩, zq_fr_I zq_fr_rf (by decide), Nat.zero_le _, by simp [zq_sI], fun i hi => by simpa [zq_sI] using h0 i hi, fun j hj => absurd hj (Nat.not_lt_zero _)⟩
    · have g1 := hG.1
      have g3 := hG.2.2.1
      exact ⟨by decide, by omega, by rw [(f1 6 (by decide)).1]; exact g3 _ (by omega), by rw [(f1 6 (by decide)).1]; exact g3 _ (by omega), by rw [(f1 6 (by decide)).1]; exact g3 _ (by omega)⟩
    · exact ⟨by rw [(f1 48 (by decide)).1]; exact hP.1, by rw [(f1 49 (by decide)).1]; exact hP.2⟩
  · obtain ⟨h0, n, g, wt, i, c9⟩ := a
    obtain ⟨s5, s6, s7, rfl, rfl, hy, hf, hi, h9, hx, hr⟩ := hi
    have hy9 := hy
    obtain ⟨hn, hg, y0, y2, y3, y4⟩ := hy9
    have e4 : h.1 5 3 = nI g := by rw [(hf 5 (by decide)).1]; exact y2
    simp only [xX10_renew_11, xX10_renew_20, xX10_renew_105, e4, zl_ge hi (by omega : g < 2 ^ 31), zi_push, zi_iload, zi_lload, zi_aload, zi_istore, zi_astore, zi_lstore, zi_iinc, zi_i2, zi_i1, zi_idv, zi_l2, zi_ldv, zi_lsh, zi_i2l, zi_l2i, zi_lcmp, zi_dup, zi_dup2, zi_pop, zi_if1, zi_if2, zi_getI, zi_getL, zi_getR, zi_putI, zi_putZ, zi_putL, zi_aldI, zi_aldL, zi_astI, zi_astZ, zi_astL, zi_alen, zi_iret, zi_zret, zi_lret, zi_vret, zi_callV, zi_callS, zi_sw, zi_copyI, zi_copyL, zi_m2, zi_m1, zi_sval, zi_scod, zi_fmt, zi_balen, zi_bald, zi_bret, zi_callT, zq_nth, zq_put1, zq_put2, zq_clr, zq_nl, zq_tk, zq_ps, zq_sw, zq_l0, zq_a, zq_a1, List.length_cons, List.length_nil, List.nil_append, List.cons_append, List.append_nil, List.replicate, Nat.reduceAdd, Nat.reduceSub, Nat.reduceLeDiff, true_and, and_true, List.append_eq, List.cons.injEq, Value.int.injEq, Value.long.injEq, Value.ref.injEq, exists_and_left, exists_eq_left', and_assoc, zc_b, zc_0, zc_1, zc_10, zc_01, lg_cmp_ge, lg_cmp_le, lg_cmp_gt, lg_cmp_lt, lg_cmp_eq, zw_le, zw_lt, reduceIte, true_or, or_true, zw_g0, zw_l0, zw_g1, zw_l1, zw_g2, zw_l2, zw_g3, zw_l3, zw_g5, zw_l5, zw_g6, zw_l6, zw_g7, zw_l7, zw_g9, zw_l9, zw_g10, zw_l10, zw_g15, zw_l15, zw_g16, zw_l16, zw_g48, zw_l48, zw_g50, zw_l50, zw_g57, zw_l57, zw_g97, zw_l97, zw_g100, zw_l100, zw_g200, zw_l200, zw_g999, zw_l999, zw_g9999, zw_l9999]
    refine ⟨fun q => ?_, fun q => ⟨(h0, n, g, wt, i, 0), ?_, s7, rfl, rfl, hy, hf, by omega, Nat.zero_le _, h9, hx, hr, fun k hk => absurd hk (Nat.not_lt_zero _), fun k hk => ?_⟩⟩
    · subst q
      exact y4 h ⟨⟨h9, hn, hg⟩, hr⟩ hx hf
    · dsimp only
      omega
    · have hk0 : k = 0 := by omega
      subst hk0
      exact hx i (by omega)
  · obtain ⟨h0, n, g, wt, i, c⟩ := a
    obtain ⟨s7, rfl, rfl, hy, hf, hi, hc, h9, hx, hr, hw, hs⟩ := hi
    have hy9 := hy
    obtain ⟨hn, hg, y0, y2, y3, y4⟩ := hy9
    simp only [xX10_renew_26, xX10_renew_99, xX10_renew_35, z16a, z17a, z3a, h9, zl_ge hc (by omega : n < 2 ^ 31), zi_push, zi_iload, zi_lload, zi_aload, zi_istore, zi_astore, zi_lstore, zi_iinc, zi_i2, zi_i1, zi_idv, zi_l2, zi_ldv, zi_lsh, zi_i2l, zi_l2i, zi_lcmp, zi_dup, zi_dup2, zi_pop, zi_if1, zi_if2, zi_getI, zi_getL, zi_getR, zi_putI, zi_putZ, zi_putL, zi_aldI, zi_aldL, zi_astI, zi_astZ, zi_astL, zi_alen, zi_iret, zi_zret, zi_lret, zi_vret, zi_callV, zi_callS, zi_sw, zi_copyI, zi_copyL, zi_m2, zi_m1, zi_sval, zi_scod, zi_fmt, zi_balen, zi_bald, zi_bret, zi_callT, zq_nth, zq_put1, zq_put2, zq_clr, zq_nl, zq_tk, zq_ps, zq_sw, zq_l0, zq_a, zq_a1, List.length_cons, List.length_nil, List.nil_append, List.cons_append, List.append_nil, List.replicate, Nat.reduceAdd, Nat.reduceSub, Nat.reduceLeDiff, true_and, and_true, List.append_eq, List.cons.injEq, Value.int.injEq, Value.long.injEq, Value.ref.injEq, exists_and_left, exists_eq_left', and_assoc, zc_b, zc_0, zc_1, zc_10, zc_01, lg_cmp_ge, lg_cmp_le, lg_cmp_gt, lg_cmp_lt, lg_cmp_eq, zw_le, zw_lt, reduceIte, true_or, or_true, zw_g0, zw_l0, zw_g1, zw_l1, zw_g2, zw_l2, zw_g3, zw_l3, zw_g5, zw_l5, zw_g6, zw_l6, zw_g7, zw_l7, zw_g9, zw_l9, zw_g10, zw_l10, zw_g15, zw_l15, zw_g16, zw_l16, zw_g48, zw_l48, zw_g50, zw_l50, zw_g57, zw_l57, zw_g97, zw_l97, zw_g100, zw_l100, zw_g200, zw_l200, zw_g999, zw_l999, zw_g9999, zw_l9999]
    refine ⟨fun q => ⟨(h0, n, g, wt, i + 1, 0), ?_, some (.int (zsum (wt i) c)), some (.int (nI c)), s7, ?_, rfl, hy, hf, by omega, h9, hx, fun j hj => ?_⟩, fun q => y3 h hf i c hi (by omega) _ (fun h1 f1 => ?_)⟩
    · dsimp only
      omega
    · rw [nI_1]
    · subst q
      by_cases q1 : j = i
      · subst q1
        exact ⟨hw, hs⟩
      · exact hr j (by omega)
    · dsimp only
      rw [nI_clamp (by omega), nI_clamp (by omega)]
      have e10 : h1.1 10 = h.1 10 := (f1 10 (by decide)).1
      have e11 : h1.1 11 = h.1 11 := (f1 11 (by decide)).1
      have e9 : h1.1 9 = h.1 9 := (f1 9 (by decide)).1
      refine ⟨vp_in_nI (by omega) (by decide), vp_in_nI (by omega) (by decide), (h0, n, g, wt, i, c + 1), by dsimp only; omega, some (.int (wt i c)), by rw [nI_1]; rfl, rfl, hy, zq_fr_I (zq_fr_I (zq_fr_tr hf f1 (rs := [9, 10, 11, 51]) (fun p hp => by simp at hp; simp; omega)) (by decide)) (by decide), hi, by omega, by simpa [zq_sI, e9] using h9, fun j hj => ?_, fun j hj => ?_, fun k hk => ?_, fun k hk => ?_⟩
      · have q1 : ¬ 17 * j = 17 * i + c + 1 := by omega
        simpa [zq_sI, q1, e11] using hx j hj
      · refine ⟨fun k hk => ?_, fun k hk => ?_⟩
        · have q1 : ¬ 16 * j + k = 16 * i + c := by omega
          simpa [zq_sI, q1, e10] using (hr j hj).1 k hk
        · have q1 : ¬ 17 * j + k = 17 * i + c + 1 := by omega
          simpa [zq_sI, q1, e11] using (hr j hj).2 k hk
      · by_cases q1 : k = c
        · simp [zq_sI, q1]
        · have q2 : ¬ 16 * i + k = 16 * i + c := by omega
          simpa [zq_sI, q1, e10] using hw k (by omega)
      · by_cases q1 : k = c + 1
        · simp [zq_sI, q1, zsum, Nat.add_assoc]
        · have q2 : ¬ 17 * i + k = 17 * i + c + 1 := by omega
          simpa [zq_sI, q2, e11] using hs k (by omega)
def sp_renewWorths : zq_Sp := fun args h Q => ∃ n g cr ra cu ta de L cd, args = [.ref 0] ∧ XL n cr ra cu h ∧ XG g ta de h ∧ ZC L cd ∧ XP L cd h ∧ XW0 h ∧ ∀ h', XW n g (zwt n cr ra cu ta L cd) h' → XW0 h' → zq_fr [9, 10, 11, 51] h h' → Q none h'
theorem ok_renewWorths : zq_M yX11_renewWorths cX11_renewWorths 1 none 0 4 sp_renewWorths := by
  refine mX11_renewWorths ok_renew (by decide) (fun args h Q hs => ?_)
  obtain ⟨n, g, cr, ra, cu, ta, de, L, cd, rfl, hL, hG, hC, hP, h0, h2⟩ := hs
  refine ⟨Nat.le_of_ble_eq_true rfl, ?_⟩
  simp only [xX11_renewWorths_0, zi_push, zi_iload, zi_lload, zi_aload, zi_istore, zi_astore, zi_lstore, zi_iinc, zi_i2, zi_i1, zi_idv, zi_l2, zi_ldv, zi_lsh, zi_i2l, zi_l2i, zi_lcmp, zi_dup, zi_dup2, zi_pop, zi_if1, zi_if2, zi_getI, zi_getL, zi_getR, zi_putI, zi_putZ, zi_putL, zi_aldI, zi_aldL, zi_astI, zi_astZ, zi_astL, zi_alen, zi_iret, zi_zret, zi_lret, zi_vret, zi_callV, zi_callS, zi_sw, zi_copyI, zi_copyL, zi_m2, zi_m1, zi_sval, zi_scod, zi_fmt, zi_balen, zi_bald, zi_bret, zi_callT, zq_nth, zq_put1, zq_put2, zq_clr, zq_nl, zq_tk, zq_ps, zq_sw, zq_l0, zq_a, zq_a1, List.length_cons, List.length_nil, List.nil_append, List.cons_append, List.append_nil, List.replicate, Nat.reduceAdd, Nat.reduceSub, Nat.reduceLeDiff, true_and, and_true, List.append_eq, List.cons.injEq, Value.int.injEq, Value.long.injEq, Value.ref.injEq, exists_and_left, exists_eq_left', and_assoc, zc_b, zc_0, zc_1, zc_10, zc_01, lg_cmp_ge, lg_cmp_le, lg_cmp_gt, lg_cmp_lt, lg_cmp_eq, zw_le, zw_lt, reduceIte, true_or, or_true, zw_g0, zw_l0, zw_g1, zw_l1, zw_g2, zw_l2, zw_g3, zw_l3, zw_g5, zw_l5, zw_g6, zw_l6, zw_g7, zw_l7, zw_g9, zw_l9, zw_g10, zw_l10, zw_g15, zw_l15, zw_g16, zw_l16, zw_g48, zw_l48, zw_g50, zw_l50, zw_g57, zw_l57, zw_g97, zw_l97, zw_g100, zw_l100, zw_g200, zw_l200, zw_g999, zw_l999, zw_g9999, zw_l9999]
  exact ⟨n, g, cr, ra, cu, ta, de, L, cd, rfl, hL, hG, hC, hP, h0, h2⟩
