/-! ===== the reference lays its table ===== -/
def sp_lays : zq_Sp := fun args h Q => ∃ n g cr ra cu ta de L cd, args = [.ref 56] ∧ (∀ i, i < n → cu i = 0 ∨ cu i = 1) ∧ ML n cr ra cu h ∧ MG g ta de h ∧ ZC L cd ∧ MP L cd h ∧ ∀ h', MW n g (zwt n cr ra cu ta L cd) h' → zq_fr [72, 73, 74, 75] h h' → Q none h'
def zly (h0 : zq_H) (n g : Nat) (wt : Nat → Nat → Int32) (Q : zq_Q) : Prop := n ≤ 16 ∧ g ≤ 6 ∧ h0.1 56 3 = nI n ∧ h0.1 56 4 = nI g ∧ (∀ h1, zq_fr [72, 73, 74, 75] h0 h1 → ∀ j c, j < g → c < n → ∀ Q' : zq_Q, (∀ h2, zq_fr [72, 73] h1 h2 → Q' (some (.int (wt j c))) h2) → sp_mWorthOf [.ref 56, .int (nI j), .int (nI c)] h1 Q') ∧ ∀ h', MW n g wt h' → zq_fr [72, 73, 74, 75] h0 h' → Q none h'
def zrow (n : Nat) (wt : Nat → Nat → Int32) (i : Nat) (h : zq_H) : Prop := ∀ j, j < i → (∀ c, c < n → h.1 74 (16 * j + c) = wt j c) ∧ h.1 75 j = zsum (wt j) n
def I_lays2 (Q : zq_Q) (a : zq_H × Nat × Nat × (Nat → Nat → Int32) × Nat × Nat) : zq_P := fun ls st h => match a with
  | (h0, n, g, wt, i, _) => ∃ s2, ls = [some (.ref 56), some (.int (nI i)), s2] ∧ st = [] ∧ zly h0 n g wt Q ∧ zq_fr [72, 73, 74, 75] h0 h ∧ i ≤ g ∧ zrow n wt i h
def I_lays19 (Q : zq_Q) (a : zq_H × Nat × Nat × (Nat → Nat → Int32) × Nat × Nat) : zq_P := fun ls st h => match a with
  | (h0, n, g, wt, i, c) => ls = [some (.ref 56), some (.int (nI i)), some (.int (nI c))] ∧ st = [] ∧ zly h0 n g wt Q ∧ zq_fr [72, 73, 74, 75] h0 h ∧ i < g ∧ c ≤ n ∧ zrow n wt i h ∧ (∀ k, k < c → h.1 74 (16 * i + k) = wt i k) ∧ h.1 75 i = zsum (wt i) c
theorem ok_lays : zq_M yX12_laysTable cX12_laysTable 3 none 0 5 sp_lays := by
  refine mX12_laysTable ok_mWorthOf (by decide) (fun a => (a.2.2.1 - a.2.2.2.2.1) * 20) I_lays2 (fun a => (a.2.2.1 - a.2.2.2.2.1) * 20 - 1 - a.2.2.2.2.2) I_lays19 (fun args h Q hs => ?_) (fun Q a ls st h hi => ?_) (fun Q a ls st h hi => ?_)
  · obtain ⟨n, g, cr, ra, cu, ta, de, L, cd, rfl, hk, hL, hG, hC, hP, h2⟩ := hs
    refine ⟨Nat.le_of_ble_eq_true rfl, ?_⟩
    simp only [xX12_laysTable_76, xX12_laysTable_70, xX12_laysTable_27, xX12_laysTable_19, xX12_laysTable_10, xX12_laysTable_2, xX12_laysTable_0, zi_push, zi_iload, zi_lload, zi_aload, zi_istore, zi_astore, zi_lstore, zi_iinc, zi_i2, zi_i1, zi_idv, zi_l2, zi_ldv, zi_lsh, zi_i2l, zi_l2i, zi_lcmp, zi_dup, zi_dup2, zi_pop, zi_if1, zi_if2, zi_getI, zi_getL, zi_getR, zi_putI, zi_putZ, zi_putL, zi_aldI, zi_aldL, zi_astI, zi_astZ, zi_astL, zi_alen, zi_iret, zi_zret, zi_lret, zi_vret, zi_callV, zi_callS, zi_sw, zi_copyI, zi_copyL, zi_m2, zi_m1, zi_sval, zi_scod, zi_fmt, zi_balen, zi_bald, zi_bret, zi_callT, zq_nth, zq_put1, zq_put2, zq_clr, zq_nl, zq_tk, zq_ps, zq_sw, zq_l0, zq_a, zq_a1, List.length_cons, List.length_nil, List.nil_append, List.cons_append, List.append_nil, List.replicate, Nat.reduceAdd, Nat.reduceSub, Nat.reduceLeDiff, true_and, and_true, List.append_eq, List.cons.injEq, Value.int.injEq, Value.long.injEq, Value.ref.injEq, exists_and_left, exists_eq_left', and_assoc, zc_b, zc_0, zc_1, zc_10, zc_01, lg_cmp_ge, lg_cmp_le, lg_cmp_gt, lg_cmp_lt, lg_cmp_eq, zw_le, zw_lt, reduceIte, true_or, or_true, zw_g0, zw_l0, zw_g1, zw_l1, zw_g2, zw_l2, zw_g3, zw_l3, zw_g5, zw_l5, zw_g6, zw_l6, zw_g7, zw_l7, zw_g9, zw_l9, zw_g10, zw_l10, zw_g15, zw_l15, zw_g16, zw_l16, zw_g48, zw_l48, zw_g50, zw_l50, zw_g57, zw_l57, zw_g97, zw_l97, zw_g100, zw_l100, zw_g200, zw_l200, zw_g999, zw_l999, zw_g9999, zw_l9999]
    refine ⟨(h, n, g, zwt n cr ra cu ta L cd, 0, 0), none, rfl, rfl, ⟨hL.1, hG.1, hL.2.1, hG.2.1, fun h1 f1 j c hj hc Q' k => ⟨j, c, n, g, cr, ra, cu, ta, de, L, cd, rfl, hj, hc, hk, ML_fr hL f1 (by decide), MG_fr hG f1 (by decide), hC, ?_, k⟩, h2⟩, zq_fr_rf, Nat.zero_le _, fun j hj => absurd hj (Nat.not_lt_zero _)⟩
    exact ⟨by rw [(f1 56 (by decide)).1]; exact hP.1, by rw [(f1 70 (by decide)).1]; exact hP.2⟩
  · obtain ⟨h0, n, g, wt, i, c9⟩ := a
    obtain ⟨s2, rfl, rfl, hy, hf, hi, hr⟩ := hi
    have hy9 := hy
    obtain ⟨hn, hg, y1, y2, y3, y4⟩ := hy9
    have e4 : h.1 56 4 = nI g := by rw [(hf 56 (by decide)).1]; exact y2
    simp only [xX12_laysTable_2, xX12_laysTable_10, xX12_laysTable_76, e4, zl_ge hi (by omega : g < 2 ^ 31), zi_push, zi_iload, zi_lload, zi_aload, zi_istore, zi_astore, zi_lstore, zi_iinc, zi_i2, zi_i1, zi_idv, zi_l2, zi_ldv, zi_lsh, zi_i2l, zi_l2i, zi_lcmp, zi_dup, zi_dup2, zi_pop, zi_if1, zi_if2, zi_getI, zi_getL, zi_getR, zi_putI, zi_putZ, zi_putL, zi_aldI, zi_aldL, zi_astI, zi_astZ, zi_astL, zi_alen, zi_iret, zi_zret, zi_lret, zi_vret, zi_callV, zi_callS, zi_sw, zi_copyI, zi_copyL, zi_m2, zi_m1, zi_sval, zi_scod, zi_fmt, zi_balen, zi_bald, zi_bret, zi_callT, zq_nth, zq_put1, zq_put2, zq_clr, zq_nl, zq_tk, zq_ps, zq_sw, zq_l0, zq_a, zq_a1, List.length_cons, List.length_nil, List.nil_append, List.cons_append, List.append_nil, List.replicate, Nat.reduceAdd, Nat.reduceSub, Nat.reduceLeDiff, true_and, and_true, List.append_eq, List.cons.injEq, Value.int.injEq, Value.long.injEq, Value.ref.injEq, exists_and_left, exists_eq_left', and_assoc, zc_b, zc_0, zc_1, zc_10, zc_01, lg_cmp_ge, lg_cmp_le, lg_cmp_gt, lg_cmp_lt, lg_cmp_eq, zw_le, zw_lt, reduceIte, true_or, or_true, zw_g0, zw_l0, zw_g1, zw_l1, zw_g2, zw_l2, zw_g3, zw_l3, zw_g5, zw_l5, zw_g6, zw_l6, zw_g7, zw_l7, zw_g9, zw_l9, zw_g10, zw_l10, zw_g15, zw_l15, zw_g16, zw_l16, zw_g48, zw_l48, zw_g50, zw_l50, zw_g57, zw_l57, zw_g97, zw_l97, zw_g100, zw_l100, zw_g200, zw_l200, zw_g999, zw_l999, zw_g9999, zw_l9999]
    refine ⟨fun q => ?_, fun q => ⟨vp_in_nI (by omega) (by decide), (h0, n, g, wt, i, 0), ?_, rfl, rfl, hy, zq_fr_I hf (by decide), by omega, Nat.zero_le _, fun j hj => ?_, fun k hk => absurd hk (Nat.not_lt_zero _), ?_⟩⟩
    · subst q
      exact y4 h ⟨⟨hn, hg⟩, hr⟩ hf
    · dsimp only
      omega
    · rw [nI_clamp (by omega)]
      have q1 : ¬ j = i := by omega
      exact ⟨fun c hc => by simpa [zq_sI] using (hr j hj).1 c hc, by simpa [zq_sI, q1] using (hr j hj).2⟩
    · rw [nI_clamp (by omega)]
      simp [zq_sI, zsum]
  · obtain ⟨h0, n, g, wt, i, c⟩ := a
    obtain ⟨rfl, rfl, hy, hf, hi, hc, hr, hw, hs⟩ := hi
    have hy9 := hy
    obtain ⟨hn, hg, y1, y2, y3, y4⟩ := hy9
    have e4 : h.1 56 3 = nI n := by rw [(hf 56 (by decide)).1]; exact y1
    simp only [xX12_laysTable_19, xX12_laysTable_70, xX12_laysTable_27, z16b, e4, zl_ge hc (by omega : n < 2 ^ 31), zi_push, zi_iload, zi_lload, zi_aload, zi_istore, zi_astore, zi_lstore, zi_iinc, zi_i2, zi_i1, zi_idv, zi_l2, zi_ldv, zi_lsh, zi_i2l, zi_l2i, zi_lcmp, zi_dup, zi_dup2, zi_pop, zi_if1, zi_if2, zi_getI, zi_getL, zi_getR, zi_putI, zi_putZ, zi_putL, zi_aldI, zi_aldL, zi_astI, zi_astZ, zi_astL, zi_alen, zi_iret, zi_zret, zi_lret, zi_vret, zi_callV, zi_callS, zi_sw, zi_copyI, zi_copyL, zi_m2, zi_m1, zi_sval, zi_scod, zi_fmt, zi_balen, zi_bald, zi_bret, zi_callT, zq_nth, zq_put1, zq_put2, zq_clr, zq_nl, zq_tk, zq_ps, zq_sw, zq_l0, zq_a, zq_a1, List.length_cons, List.length_nil, List.nil_append, List.cons_append, List.append_nil, List.replicate, Nat.reduceAdd, Nat.reduceSub, Nat.reduceLeDiff, true_and, and_true, List.append_eq, List.cons.injEq, Value.int.injEq, Value.long.injEq, Value.ref.injEq, exists_and_left, exists_eq_left', and_assoc, zc_b, zc_0, zc_1, zc_10, zc_01, lg_cmp_ge, lg_cmp_le, lg_cmp_gt, lg_cmp_lt, lg_cmp_eq, zw_le, zw_lt, reduceIte, true_or, or_true, zw_g0, zw_l0, zw_g1, zw_l1, zw_g2, zw_l2, zw_g3, zw_l3, zw_g5, zw_l5, zw_g6, zw_l6, zw_g7, zw_l7, zw_g9, zw_l9, zw_g10, zw_l10, zw_g15, zw_l15, zw_g16, zw_l16, zw_g48, zw_l48, zw_g50, zw_l50, zw_g57, zw_l57, zw_g97, zw_l97, zw_g100, zw_l100, zw_g200, zw_l200, zw_g999, zw_l999, zw_g9999, zw_l9999]
    refine ⟨fun q => ⟨(h0, n, g, wt, i + 1, 0), ?_, some (.int (nI c)), ?_, rfl, hy, hf, by omega, fun j hj => ?_⟩, fun q => y3 h hf i c hi (by omega) _ (fun h1 f1 => ?_)⟩
    · dsimp only
      omega
    · rw [nI_1]
    · subst q
      by_cases q1 : j = i
      · subst q1
        exact ⟨hw, hs⟩
      · exact hr j (by omega)
    · dsimp only
      rw [nI_clamp (by omega), nI_clamp (by omega)]
      have e74 : h1.1 74 = h.1 74 := (f1 74 (by decide)).1
      have e75 : h1.1 75 = h.1 75 := (f1 75 (by decide)).1
      refine ⟨rfl, vp_in_nI (by omega) (by decide), vp_in_nI (by omega) (by decide), vp_in_nI (by omega) (by decide), vp_in_nI (by omega) (by decide), (h0, n, g, wt, i, c + 1), by dsimp only; omega, by rw [nI_1], rfl, hy, zq_fr_I (zq_fr_I (zq_fr_tr hf f1 (rs := [72, 73, 74, 75]) (fun p hp => by simp at hp; simp; omega)) (by decide)) (by decide), hi, by omega, fun j hj => ?_, fun k hk => ?_, ?_⟩
      · refine ⟨fun k hk => ?_, ?_⟩
        · have q1 : ¬ 16 * j + k = 16 * i + c := by omega
          simpa [zq_sI, q1, e74] using (hr j hj).1 k hk
        · have q1 : ¬ j = i := by omega
          simpa [zq_sI, q1, e75] using (hr j hj).2
      · by_cases q1 : k = c
        · simp [zq_sI, q1]
        · have q2 : ¬ 16 * i + k = 16 * i + c := by omega
          simpa [zq_sI, q1, e74] using hw k (by omega)
      · simp [zq_sI, zsum, e75, hs]
/-! ===== both sides: seen, by the tables ===== -/
/-- the values of a game that the tables of worths hang on -/
def sp_xSeen : zq_Sp := fun args h Q => ∃ a v n cr ra cu g ta de wt now k und kept, args = [.ref 0, .int a, .int v] ∧ XL n cr ra cu h ∧ XG g ta de h ∧ XB n now k und kept h ∧ XW n g wt h ∧ (¬ ((0 ≤ a ∧ a < nI g) ∧ 0 ≤ v ∧ v < nI g) → Q (some (.int (-1))) h) ∧ ∀ j, j < g → a = nI j → (0 ≤ v ∧ v < nI g) → Q (some (.int (zheld now (wt j) v n))) h
theorem zg_nat {a : Int32} {g : Nat} (hg : g < 2 ^ 31) (h : 0 ≤ a ∧ a < nI g) : ∃ j, j < g ∧ a = nI j := by
  rcases pk_ix a (n := g) hg with q | q | q
  · exact absurd q (Int32.not_lt.mpr h.1)
  · exact absurd h.2 (Int32.not_lt.mpr q)
  · exact q
theorem ok_xSeen : zq_M yX11_seen cX11_seen 3 (some .int) 1 2 sp_xSeen := by
  refine mX11_seen ok_isGuest (by decide) ok_worthHeld (by decide) (fun args h Q hs => ?_)
  obtain ⟨a, v, n, cr, ra, cu, g, ta, de, wt, now, k, und, kept, rfl, hL, hG, hB, hW, h1, h2⟩ := hs
  refine ⟨Nat.le_of_ble_eq_true rfl, ?_⟩
  simp only [xX11_seen_26, xX11_seen_25, xX11_seen_16, xX11_seen_8, xX11_seen_0, zi_push, zi_iload, zi_lload, zi_aload, zi_istore, zi_astore, zi_lstore, zi_iinc, zi_i2, zi_i1, zi_idv, zi_l2, zi_ldv, zi_lsh, zi_i2l, zi_l2i, zi_lcmp, zi_dup, zi_dup2, zi_pop, zi_if1, zi_if2, zi_getI, zi_getL, zi_getR, zi_putI, zi_putZ, zi_putL, zi_aldI, zi_aldL, zi_astI, zi_astZ, zi_astL, zi_alen, zi_iret, zi_zret, zi_lret, zi_vret, zi_callV, zi_callS, zi_sw, zi_copyI, zi_copyL, zi_m2, zi_m1, zi_sval, zi_scod, zi_fmt, zi_balen, zi_bald, zi_bret, zi_callT, zq_nth, zq_put1, zq_put2, zq_clr, zq_nl, zq_tk, zq_ps, zq_sw, zq_l0, zq_a, zq_a1, List.length_cons, List.length_nil, List.nil_append, List.cons_append, List.append_nil, List.replicate, Nat.reduceAdd, Nat.reduceSub, Nat.reduceLeDiff, true_and, and_true, List.append_eq, List.cons.injEq, Value.int.injEq, Value.long.injEq, Value.ref.injEq, exists_and_left, exists_eq_left', and_assoc, zc_b, zc_0, zc_1, zc_10, zc_01, lg_cmp_ge, lg_cmp_le, lg_cmp_gt, lg_cmp_lt, lg_cmp_eq, zw_le, zw_lt, reduceIte, true_or, or_true, zw_g0, zw_l0, zw_g1, zw_l1, zw_g2, zw_l2, zw_g3, zw_l3, zw_g5, zw_l5, zw_g6, zw_l6, zw_g7, zw_l7, zw_g9, zw_l9, zw_g10, zw_l10, zw_g15, zw_l15, zw_g16, zw_l16, zw_g48, zw_l48, zw_g50, zw_l50, zw_g57, zw_l57, zw_g97, zw_l97, zw_g100, zw_l100, zw_g200, zw_l200, zw_g999, zw_l999, zw_g9999, zw_l9999, sp_isGuest, hG.2.1]
  refine ⟨fun q => h1 (fun z => q z.1), fun q => ⟨fun q2 => h1 (fun z => q2 z.2), fun q2 => ?_⟩⟩
  obtain ⟨j, hj, rfl⟩ := zg_nat (by have := hG.1; omega) (Classical.not_not.mp q)
  exact ⟨j, v, n, cr, ra, cu, g, wt, now, k, und, kept, rfl, hj, hL, hB, hW, h2 j hj rfl (Classical.not_not.mp q2)⟩
