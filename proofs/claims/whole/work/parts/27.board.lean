/-! ===== the board: with whom cells are, what can be undone, what is kept ===== -/
/-- now: by cells; k of und can be undone; kept by numbers -/
def XB (c : Nat) (now : Nat → Int32) (k : Nat) (und : Nat → Nat → Int32) (kept : Nat → Option (Nat → Int32)) (h : zq_H) : Prop :=
  c ≤ 16 ∧ (∀ i, i < c → zH (h.2 12 2) i = now i) ∧ (h.1 12 3 = nI k ∧ k ≤ 15) ∧ (∀ j, j < k → ∀ i, i < c → zH (h.2 13 j) i = und j i) ∧
  ∃ m : Nat, m < 8 ∧ h.1 12 4 = nI m ∧ ∀ j, j < 3 → match kept j with
    | none => m.testBit j = false
    | some f => m.testBit j = true ∧ ∀ i, i < c → zH (h.2 14 j) i = f i
def MB (b c : Nat) (now : Nat → Int32) (k : Nat) (und : Nat → Nat → Int32) (kept : Nat → Option (Nat → Int32)) (h : zq_H) : Prop :=
  c ≤ 16 ∧ (∀ i, i < c → h.1 63 i = now i) ∧ (h.1 56 31 = nI k ∧ k ≤ 15) ∧ (∀ j, j < k → ∀ i, i < c → h.1 76 (16 * j + i) = und j i) ∧
  ∃ lv : Nat, lv ≤ b ∧ h.1 56 5 = nI lv ∧ ∀ j, j < 3 → (h.1 99 j = 0 ∨ h.1 99 j = 1) ∧ (∃ q : Nat, q ≤ lv ∧ h.1 100 j = nI q) ∧ match kept j with
    | none => ¬ (h.1 99 j = 1 ∧ h.1 100 j = nI lv)
    | some f => (h.1 99 j = 1 ∧ h.1 100 j = nI lv) ∧ ∀ i, i < c → h.1 101 (16 * j + i) = f i
theorem XB_fr {c k : Nat} {now : Nat → Int32} {und : Nat → Nat → Int32} {kept : Nat → Option (Nat → Int32)} {ps : List Nat} {h h' : zq_H} (q : XB c now k und kept h) (f : zq_fr ps h h') (d : 12 ∉ ps ∧ 13 ∉ ps ∧ 14 ∉ ps) : XB c now k und kept h' := by
  unfold XB at *
  rw [(f 12 d.1).1, (f 12 d.1).2, (f 13 d.2.1).2, (f 14 d.2.2).2]
  exact q
theorem XB_fm {c k : Nat} {now : Nat → Int32} {und : Nat → Nat → Int32} {kept : Nat → Option (Nat → Int32)} {fs ps : List Nat} {h h' : zq_H} (q : XB c now k und kept h) (f : zq_fm fs ps h h') (d : 12 ∉ ps ∧ 13 ∉ ps ∧ 14 ∉ ps) : XB c now k und kept h' := by
  unfold XB at *
  rw [(f.1 12 (by decide) d.1).1, (f.1 12 (by decide) d.1).2, (f.1 13 (by decide) d.2.1).2, (f.1 14 (by decide) d.2.2).2]
  exact q
theorem MB_fr {b c k : Nat} {now : Nat → Int32} {und : Nat → Nat → Int32} {kept : Nat → Option (Nat → Int32)} {ps : List Nat} {h h' : zq_H} (q : MB b c now k und kept h) (f : zq_fr ps h h') (d : 56 ∉ ps ∧ 63 ∉ ps ∧ 76 ∉ ps ∧ 99 ∉ ps ∧ 100 ∉ ps ∧ 101 ∉ ps) : MB b c now k und kept h' := by
  obtain ⟨d1, d2, d3, d4, d5, d6⟩ := d
  unfold MB at *
  rw [(f 56 d1).1, (f 63 d2).1, (f 76 d3).1, (f 99 d4).1, (f 100 d5).1, (f 101 d6).1]
  exact q
theorem MB_fm {b c k : Nat} {now : Nat → Int32} {und : Nat → Nat → Int32} {kept : Nat → Option (Nat → Int32)} {fs ps : List Nat} {h h' : zq_H} (q : MB b c now k und kept h) (f : zq_fm fs ps h h') (d : (5 ∉ fs ∧ 31 ∉ fs) ∧ 63 ∉ ps ∧ 76 ∉ ps ∧ 99 ∉ ps ∧ 100 ∉ ps ∧ 101 ∉ ps) : MB b c now k und kept h' := by
  obtain ⟨⟨d0, d1⟩, d2, d3, d4, d5, d6⟩ := d
  unfold MB at *
  rw [(f.2 5 d0).1, (f.2 31 d1).1, (f.1 63 (by decide) d2).1, (f.1 76 (by decide) d3).1, (f.1 99 (by decide) d4).1, (f.1 100 (by decide) d5).1, (f.1 101 (by decide) d6).1]
  exact q
/-! undo -/
def sp_xUndo : zq_Sp := fun args h Q => ∃ c now k und kept, args = [.ref 0] ∧ XB c now k und kept h ∧ (k = 0 → Q (some (.int (-1))) h) ∧ ∀ j, k = j + 1 → ∀ h', XB c (und j) j und kept h' → zq_fr [12] h h' → Q (some (.int (nI j))) h'
def sp_stepBack : zq_Sp := fun args h Q => ∃ c now k und kept, args = [.ref 12] ∧ XB c now k und kept h ∧ (k = 0 → Q (some (.int (-1))) h) ∧ ∀ j, k = j + 1 → ∀ h', XB c (und j) j und kept h' → zq_fr [12] h h' → Q (some (.int (nI j))) h'
theorem ok_stepBack : zq_M yX0_stepBack cX0_stepBack 1 (some .int) 1 0 sp_stepBack := by
  refine mX0_stepBack (fun args h Q hs => ?_)
  obtain ⟨c, now, k, und, kept, rfl, hB, h1, h2⟩ := hs
  obtain ⟨b1, b2, ⟨b3, b4⟩, b5, m, b6, b7, b8⟩ := hB
  refine ⟨Nat.le_of_ble_eq_true rfl, ?_⟩
  simp only [xX0_stepBack_9, xX0_stepBack_7, xX0_stepBack_0, zi_push, zi_iload, zi_lload, zi_aload, zi_istore, zi_astore, zi_lstore, zi_iinc, zi_i2, zi_i1, zi_idv, zi_l2, zi_ldv, zi_lsh, zi_i2l, zi_l2i, zi_lcmp, zi_dup, zi_dup2, zi_pop, zi_if1, zi_if2, zi_getI, zi_getL, zi_getR, zi_putI, zi_putZ, zi_putL, zi_aldI, zi_aldL, zi_astI, zi_astZ, zi_astL, zi_alen, zi_iret, zi_zret, zi_lret, zi_vret, zi_callV, zi_callS, zi_sw, zi_copyI, zi_copyL, zi_m2, zi_m1, zi_sval, zi_scod, zi_fmt, zi_balen, zi_bald, zi_bret, zi_callT, zq_nth, zq_put1, zq_put2, zq_clr, zq_nl, zq_tk, zq_ps, zq_sw, zq_l0, zq_a, zq_a1, List.length_cons, List.length_nil, List.nil_append, List.cons_append, List.append_nil, List.replicate, Nat.reduceAdd, Nat.reduceSub, Nat.reduceLeDiff, true_and, and_true, List.append_eq, List.cons.injEq, Value.int.injEq, Value.long.injEq, Value.ref.injEq, exists_and_left, exists_eq_left', and_assoc, zc_b, zc_0, zc_1, zc_10, zc_01, lg_cmp_ge, lg_cmp_le, lg_cmp_gt, lg_cmp_lt, lg_cmp_eq, zw_le, zw_lt, reduceIte, true_or, or_true, zw_g0, zw_l0, zw_g1, zw_l1, zw_g2, zw_l2, zw_g3, zw_l3, zw_g5, zw_l5, zw_g6, zw_l6, zw_g7, zw_l7, zw_g9, zw_l9, zw_g10, zw_l10, zw_g15, zw_l15, zw_g16, zw_l16, zw_g48, zw_l48, zw_g50, zw_l50, zw_g57, zw_l57, zw_g97, zw_l97, zw_g100, zw_l100, zw_g200, zw_l200, zw_g999, zw_l999, zw_g9999, zw_l9999, zq_sI, zq_sI2]
  rw [b3]
  cases k with
  | zero => exact ⟨fun q => absurd q (by decide), fun _ => h1 rfl⟩
  | succ j =>
    refine ⟨fun _ => ?_, fun q => absurd (nI_lt (a := 0) (b := j + 1) (by omega) (by omega)) q⟩
    rw [nI_pred, nI_clamp (by omega)]
    refine ⟨vp_in_nI (by omega) (by decide), h2 j rfl _ ⟨b1, ?_, ⟨?_, by omega⟩, ?_, m, b6, ?_, ?_⟩ (zq_fr_L (zq_fr_I zq_fr_rf (by decide)) (by decide))⟩
    · intro i hi
      simpa [zq_sL] using b5 j (by omega) i hi
    · simp [zq_sI, zq_sL1]
    · intro a ha i hi
      simpa [zq_sL, zq_sI2] using b5 a (by omega) i hi
    · simpa [zq_sI, zq_sL1] using b7
    · intro a ha
      have := b8 a ha
      cases hk : kept a with
      | none => rw [hk] at this; exact this
      | some f => rw [hk] at this; exact ⟨this.1, fun i hi => by simpa [zq_sL, zq_sI2] using this.2 i hi⟩
theorem ok_xUndo : zq_M yX11_undo cX11_undo 1 (some .int) 1 1 sp_xUndo := by
  refine mX11_undo ok_stepBack (by decide) (fun args h Q hs => ?_)
  obtain ⟨c, now, k, und, kept, rfl, hB, h1, h2⟩ := hs
  refine ⟨Nat.le_of_ble_eq_true rfl, ?_⟩
  simp only [xX11_undo_0, zi_push, zi_iload, zi_lload, zi_aload, zi_istore, zi_astore, zi_lstore, zi_iinc, zi_i2, zi_i1, zi_idv, zi_l2, zi_ldv, zi_lsh, zi_i2l, zi_l2i, zi_lcmp, zi_dup, zi_dup2, zi_pop, zi_if1, zi_if2, zi_getI, zi_getL, zi_getR, zi_putI, zi_putZ, zi_putL, zi_aldI, zi_aldL, zi_astI, zi_astZ, zi_astL, zi_alen, zi_iret, zi_zret, zi_lret, zi_vret, zi_callV, zi_callS, zi_sw, zi_copyI, zi_copyL, zi_m2, zi_m1, zi_sval, zi_scod, zi_fmt, zi_balen, zi_bald, zi_bret, zi_callT, zq_nth, zq_put1, zq_put2, zq_clr, zq_nl, zq_tk, zq_ps, zq_sw, zq_l0, zq_a, zq_a1, List.length_cons, List.length_nil, List.nil_append, List.cons_append, List.append_nil, List.replicate, Nat.reduceAdd, Nat.reduceSub, Nat.reduceLeDiff, true_and, and_true, List.append_eq, List.cons.injEq, Value.int.injEq, Value.long.injEq, Value.ref.injEq, exists_and_left, exists_eq_left', and_assoc, zc_b, zc_0, zc_1, zc_10, zc_01, lg_cmp_ge, lg_cmp_le, lg_cmp_gt, lg_cmp_lt, lg_cmp_eq, zw_le, zw_lt, reduceIte, true_or, or_true, zw_g0, zw_l0, zw_g1, zw_l1, zw_g2, zw_l2, zw_g3, zw_l3, zw_g5, zw_l5, zw_g6, zw_l6, zw_g7, zw_l7, zw_g9, zw_l9, zw_g10, zw_l10, zw_g15, zw_l15, zw_g16, zw_l16, zw_g48, zw_l48, zw_g50, zw_l50, zw_g57, zw_l57, zw_g97, zw_l97, zw_g100, zw_l100, zw_g200, zw_l200, zw_g999, zw_l999, zw_g9999, zw_l9999]
  exact ⟨c, now, k, und, kept, rfl, hB, h1, h2⟩
def sp_mUndo : zq_Sp := fun args h Q => ∃ b c now k und kept, args = [.ref 56] ∧ MB b c now k und kept h ∧ (k = 0 → ∀ h', MB b c now k und kept h' → zq_fm [0, 31] [63] h h' → Q (some (.int (-1))) h') ∧ ∀ j, k = j + 1 → ∀ h', MB b c (und j) j und kept h' → zq_fm [0, 31] [63] h h' → Q (some (.int (nI j))) h'
def I_mUndo (Q : zq_Q) (a : zq_H × zq_H × Nat × Nat) : zq_P := fun ls st h => match a with
  | (h0, h1, j, t) => ls = [some (.ref 56), some (.int (nI t))] ∧ st = [] ∧ t ≤ 16 ∧ j < 15 ∧ h.1 56 31 = nI j ∧ zq_fm [0, 31] [63] h0 h ∧ (∀ i, i < t → h.1 63 i = h0.1 76 (16 * j + i)) ∧ (∀ h', h'.1 56 31 = nI j → zq_fm [0, 31] [63] h0 h' → (∀ i, i < 16 → h'.1 63 i = h0.1 76 (16 * j + i)) → Q (some (.int (nI j))) h')
theorem ok_mUndo : zq_M yX12_undo cX12_undo 2 (some .int) 1 0 sp_mUndo := by
  refine mX12_undo (fun a => 16 - a.2.2.2) I_mUndo (fun args h Q hs => ?_) (fun Q a ls st h hi => ?_)
  · obtain ⟨b, c, now, k, und, kept, rfl, hB, h1, h2⟩ := hs
    have hB9 := hB
    obtain ⟨b1, b2, ⟨b3, b4⟩, b5, lv, b6, b7, b8⟩ := hB9
    refine ⟨Nat.le_of_ble_eq_true rfl, ?_⟩
    simp only [xX12_undo_58, xX12_undo_32, xX12_undo_26, xX12_undo_14, xX12_undo_12, xX12_undo_0, zi_push, zi_iload, zi_lload, zi_aload, zi_istore, zi_astore, zi_lstore, zi_iinc, zi_i2, zi_i1, zi_idv, zi_l2, zi_ldv, zi_lsh, zi_i2l, zi_l2i, zi_lcmp, zi_dup, zi_dup2, zi_pop, zi_if1, zi_if2, zi_getI, zi_getL, zi_getR, zi_putI, zi_putZ, zi_putL, zi_aldI, zi_aldL, zi_astI, zi_astZ, zi_astL, zi_alen, zi_iret, zi_zret, zi_lret, zi_vret, zi_callV, zi_callS, zi_sw, zi_copyI, zi_copyL, zi_m2, zi_m1, zi_sval, zi_scod, zi_fmt, zi_balen, zi_bald, zi_bret, zi_callT, zq_nth, zq_put1, zq_put2, zq_clr, zq_nl, zq_tk, zq_ps, zq_sw, zq_l0, zq_a, zq_a1, List.length_cons, List.length_nil, List.nil_append, List.cons_append, List.append_nil, List.replicate, Nat.reduceAdd, Nat.reduceSub, Nat.reduceLeDiff, true_and, and_true, List.append_eq, List.cons.injEq, Value.int.injEq, Value.long.injEq, Value.ref.injEq, exists_and_left, exists_eq_left', and_assoc, zc_b, zc_0, zc_1, zc_10, zc_01, lg_cmp_ge, lg_cmp_le, lg_cmp_gt, lg_cmp_lt, lg_cmp_eq, zw_le, zw_lt, reduceIte, true_or, or_true, zw_g0, zw_l0, zw_g1, zw_l1, zw_g2, zw_l2, zw_g3, zw_l3, zw_g5, zw_l5, zw_g6, zw_l6, zw_g7, zw_l7, zw_g9, zw_l9, zw_g10, zw_l10, zw_g15, zw_l15, zw_g16, zw_l16, zw_g48, zw_l48, zw_g50, zw_l50, zw_g57, zw_l57, zw_g97, zw_l97, zw_g100, zw_l100, zw_g200, zw_l200, zw_g999, zw_l999, zw_g9999, zw_l9999, zq_sI]
    simp only [Nat.reduceEqDiff, b3, not_true_eq_false, not_false_eq_true, forall_const, true_and, and_true, false_and, and_false, if_true, if_false, reduceIte, implies_true, and_self, ite_self, true_or, or_true, false_or, or_false, true_implies, false_implies, Classical.not_not, false_imp_iff, not_false_iff]
    cases k with
    | zero => exact ⟨fun _ => h1 rfl _ (MB_fm hB (zq_fm_F (fs := [0]) (ps := []) zq_fm_rf (by decide)) (by decide)) (zq_fm_F zq_fm_rf (by decide)), fun q => absurd rfl q⟩
    | succ j =>
      refine ⟨fun q => absurd q (nI_ne0 (by omega) (by omega)), fun _ => ⟨(h, h, j, 0), rfl, rfl, by omega, by omega, by simp [zq_sI, nI_pred], zq_fm_F (zq_fm_F zq_fm_rf (by decide)) (by decide), fun i hi => absurd hi (Nat.not_lt_zero _), ?_⟩⟩
      intro h' e1 e2 e3
      have f76 : h'.1 76 = h.1 76 := (e2.1 76 (by decide) (by decide)).1
      refine h2 j rfl h' ⟨b1, fun i hi => ?_, ⟨e1, by omega⟩, fun a ha i hi => ?_, lv, b6, ?_, ?_⟩ e2
      · rw [e3 i (by omega)]
        exact b5 j (by omega) i hi
      · rw [f76]
        exact b5 a (by omega) i hi
      · rw [(e2.2 5 (by decide)).1]
        exact b7
      · intro a ha
        rw [(e2.1 99 (by decide) (by decide)).1, (e2.1 100 (by decide) (by decide)).1, (e2.1 101 (by decide) (by decide)).1]
        exact b8 a ha
  · obtain ⟨h0, h1, j, t⟩ := a
    obtain ⟨rfl, rfl, ht, hj, e1, hf, hc, h2⟩ := hi
    simp only [xX12_undo_58, xX12_undo_32, xX12_undo_26, xX12_undo_14, xX12_undo_12, xX12_undo_0, zi_push, zi_iload, zi_lload, zi_aload, zi_istore, zi_astore, zi_lstore, zi_iinc, zi_i2, zi_i1, zi_idv, zi_l2, zi_ldv, zi_lsh, zi_i2l, zi_l2i, zi_lcmp, zi_dup, zi_dup2, zi_pop, zi_if1, zi_if2, zi_getI, zi_getL, zi_getR, zi_putI, zi_putZ, zi_putL, zi_aldI, zi_aldL, zi_astI, zi_astZ, zi_astL, zi_alen, zi_iret, zi_zret, zi_lret, zi_vret, zi_callV, zi_callS, zi_sw, zi_copyI, zi_copyL, zi_m2, zi_m1, zi_sval, zi_scod, zi_fmt, zi_balen, zi_bald, zi_bret, zi_callT, zq_nth, zq_put1, zq_put2, zq_clr, zq_nl, zq_tk, zq_ps, zq_sw, zq_l0, zq_a, zq_a1, List.length_cons, List.length_nil, List.nil_append, List.cons_append, List.append_nil, List.replicate, Nat.reduceAdd, Nat.reduceSub, Nat.reduceLeDiff, true_and, and_true, List.append_eq, List.cons.injEq, Value.int.injEq, Value.long.injEq, Value.ref.injEq, exists_and_left, exists_eq_left', and_assoc, zc_b, zc_0, zc_1, zc_10, zc_01, lg_cmp_ge, lg_cmp_le, lg_cmp_gt, lg_cmp_lt, lg_cmp_eq, zw_le, zw_lt, reduceIte, true_or, or_true, zw_g0, zw_l0, zw_g1, zw_l1, zw_g2, zw_l2, zw_g3, zw_l3, zw_g5, zw_l5, zw_g6, zw_l6, zw_g7, zw_l7, zw_g9, zw_l9, zw_g10, zw_l10, zw_g15, zw_l15, zw_g16, zw_l16, zw_g48, zw_l48, zw_g50, zw_l50, zw_g57, zw_l57, zw_g97, zw_l97, zw_g100, zw_l100, zw_g200, zw_l200, zw_g999, zw_l999, zw_g9999, zw_l9999, e1, zl_ge ht (by decide : 16 < 2 ^ 31)]
    rw [show (16 : Int32) = nI 16 from rfl, pk_mul, nI_add, zl_ge ht (by decide)]
    refine ⟨fun q => h2 h e1 hf (fun i hi => hc i (by omega)), fun q => ⟨vp_in_nI (by omega) (by decide), vp_in_nI (by omega) (by decide), (h0, h1, j, t + 1), by dsimp only; omega, by rw [nI_1], rfl, by omega, hj, ?_, zq_fm_I hf (by decide), ?_, h2⟩⟩
    · simpa [zq_sI] using e1
    · intro i hi
      rw [nI_clamp (by omega), nI_clamp (by omega), (hf.1 76 (by decide) (by decide)).1]
      simp only [zq_sI]
      by_cases q2 : i = t
      · rw [if_pos (by simpa using q2), q2]
      · rw [if_neg (by simpa using q2)]
        exact hc i (by omega)
/-! keep -/
def zupd {α : Type} (f : Nat → α) (i : Nat) (x : α) : Nat → α := fun j => if j = i then x else f j
def sp_xKeep : zq_Sp := fun args h Q => ∃ v c now k und kept, args = [.ref 0, .int v] ∧ XB c now k und kept h ∧ (v < 0 ∨ 3 ≤ v → Q (some (.int 0)) h) ∧ ∀ j : Nat, j < 3 → v = nI j → ∀ h', XB c now k und (zupd kept j (some now)) h' → zq_fr [12, 14] h h' → Q (some (.int 1)) h'
def sp_store : zq_Sp := fun args h Q => ∃ v c now k und kept, args = [.ref 12, .int v] ∧ XB c now k und kept h ∧ (v < 0 ∨ 3 ≤ v → Q (some (.int 0)) h) ∧ ∀ j : Nat, j < 3 → v = nI j → ∀ h', XB c now k und (zupd kept j (some now)) h' → zq_fr [12, 14] h h' → Q (some (.int 1)) h'
theorem zm_or : ∀ m, m < 8 → ∀ j, j < 3 → (nI m ||| zf_shl 1 (nI j) = nI (m ||| 2 ^ j)) ∧ m ||| 2 ^ j < 8 := by decide
theorem zm_tb : ∀ m, m < 8 → ∀ j, j < 3 → ∀ i, i < 3 → (m ||| 2 ^ j).testBit i = (decide (i = j) || m.testBit i) := by decide
theorem zm_bit : ∀ m, m < 8 → ∀ j, j < 3 → zf_shr (nI m) (nI j) &&& 1 = if m.testBit j then 1 else 0 := by decide
theorem ok_store : zq_M yX0_store cX0_store 2 (some .boolean) 1 0 sp_store := by
  refine mX0_store (fun args h Q hs => ?_)
  obtain ⟨v, c, now, k, und, kept, rfl, hB, h1, h2⟩ := hs
  obtain ⟨b1, b2, ⟨b3, b4⟩, b5, m, b6, b7, b8⟩ := hB
  refine ⟨Nat.le_of_ble_eq_true rfl, ?_⟩
  simp only [xX0_store_11, xX0_store_9, xX0_store_4, xX0_store_0, zi_push, zi_iload, zi_lload, zi_aload, zi_istore, zi_astore, zi_lstore, zi_iinc, zi_i2, zi_i1, zi_idv, zi_l2, zi_ldv, zi_lsh, zi_i2l, zi_l2i, zi_lcmp, zi_dup, zi_dup2, zi_pop, zi_if1, zi_if2, zi_getI, zi_getL, zi_getR, zi_putI, zi_putZ, zi_putL, zi_aldI, zi_aldL, zi_astI, zi_astZ, zi_astL, zi_alen, zi_iret, zi_zret, zi_lret, zi_vret, zi_callV, zi_callS, zi_sw, zi_copyI, zi_copyL, zi_m2, zi_m1, zi_sval, zi_scod, zi_fmt, zi_balen, zi_bald, zi_bret, zi_callT, zq_nth, zq_put1, zq_put2, zq_clr, zq_nl, zq_tk, zq_ps, zq_sw, zq_l0, zq_a, zq_a1, List.length_cons, List.length_nil, List.nil_append, List.cons_append, List.append_nil, List.replicate, Nat.reduceAdd, Nat.reduceSub, Nat.reduceLeDiff, true_and, and_true, List.append_eq, List.cons.injEq, Value.int.injEq, Value.long.injEq, Value.ref.injEq, exists_and_left, exists_eq_left', and_assoc, zc_b, zc_0, zc_1, zc_10, zc_01, lg_cmp_ge, lg_cmp_le, lg_cmp_gt, lg_cmp_lt, lg_cmp_eq, zw_le, zw_lt, reduceIte, true_or, or_true, zw_g0, zw_l0, zw_g1, zw_l1, zw_g2, zw_l2, zw_g3, zw_l3, zw_g5, zw_l5, zw_g6, zw_l6, zw_g7, zw_l7, zw_g9, zw_l9, zw_g10, zw_l10, zw_g15, zw_l15, zw_g16, zw_l16, zw_g48, zw_l48, zw_g50, zw_l50, zw_g57, zw_l57, zw_g97, zw_l97, zw_g100, zw_l100, zw_g200, zw_l200, zw_g999, zw_l999, zw_g9999, zw_l9999, zq_sL1]
  refine ⟨fun q => h1 (Or.inl q), fun q => ⟨fun q2 => ?_, fun q2 => h1 (Or.inr (Int32.not_lt.mp q2))⟩⟩
  obtain ⟨j, hj, rfl⟩ : ∃ j : Nat, j < 3 ∧ v = nI j := by
    rcases pk_ix v (n := 3) (by decide) with z | z | z
    · exact absurd z q
    · exact absurd q2 (Int32.not_lt.mpr z)
    · exact z
  have e9 := zm_or m b6 j hj
  rw [nI_clamp (by omega), b7, e9.1]
  refine ⟨vp_in_nI (by omega) (by decide), h2 j hj rfl _ ⟨b1, ?_, ⟨?_, b4⟩, ?_, m ||| 2 ^ j, e9.2, ?_, ?_⟩ (zq_fr_I (zq_fr_L zq_fr_rf (by decide)) (by decide))⟩
  · intro i hi
    simpa [zq_sL, zq_sI2] using b2 i hi
  · simpa [zq_sI, zq_sL1] using b3
  · intro a ha i hi
    simpa [zq_sL, zq_sI2] using b5 a ha i hi
  · simp [zq_sI]
  · intro a ha
    have h8 := b8 a ha
    rw [zm_tb m b6 j hj a ha]
    unfold zupd
    by_cases q3 : a = j
    · rw [if_pos q3, q3]
      refine ⟨by simp, fun i hi => ?_⟩
      simpa [zq_sL, zq_sI2] using b2 i hi
    · rw [if_neg q3]
      cases hk : kept a with
      | none => rw [hk] at h8; simpa [q3] using h8
      | some f => rw [hk] at h8; exact ⟨by simp [h8.1], fun i hi => by simpa [zq_sL, zq_sI2, q3] using h8.2 i hi⟩
theorem ok_xKeep : zq_M yX11_keep cX11_keep 2 (some .boolean) 1 1 sp_xKeep := by
  refine mX11_keep ok_store (by decide) (fun args h Q hs => ?_)
  obtain ⟨v, c, now, k, und, kept, rfl, hB, h1, h2⟩ := hs
  refine ⟨Nat.le_of_ble_eq_true rfl, ?_⟩
  simp only [xX11_keep_0, zi_push, zi_iload, zi_lload, zi_aload, zi_istore, zi_astore, zi_lstore, zi_iinc, zi_i2, zi_i1, zi_idv, zi_l2, zi_ldv, zi_lsh, zi_i2l, zi_l2i, zi_lcmp, zi_dup, zi_dup2, zi_pop, zi_if1, zi_if2, zi_getI, zi_getL, zi_getR, zi_putI, zi_putZ, zi_putL, zi_aldI, zi_aldL, zi_astI, zi_astZ, zi_astL, zi_alen, zi_iret, zi_zret, zi_lret, zi_vret, zi_callV, zi_callS, zi_sw, zi_copyI, zi_copyL, zi_m2, zi_m1, zi_sval, zi_scod, zi_fmt, zi_balen, zi_bald, zi_bret, zi_callT, zq_nth, zq_put1, zq_put2, zq_clr, zq_nl, zq_tk, zq_ps, zq_sw, zq_l0, zq_a, zq_a1, List.length_cons, List.length_nil, List.nil_append, List.cons_append, List.append_nil, List.replicate, Nat.reduceAdd, Nat.reduceSub, Nat.reduceLeDiff, true_and, and_true, List.append_eq, List.cons.injEq, Value.int.injEq, Value.long.injEq, Value.ref.injEq, exists_and_left, exists_eq_left', and_assoc, zc_b, zc_0, zc_1, zc_10, zc_01, lg_cmp_ge, lg_cmp_le, lg_cmp_gt, lg_cmp_lt, lg_cmp_eq, zw_le, zw_lt, reduceIte, true_or, or_true, zw_g0, zw_l0, zw_g1, zw_l1, zw_g2, zw_l2, zw_g3, zw_l3, zw_g5, zw_l5, zw_g6, zw_l6, zw_g7, zw_l7, zw_g9, zw_l9, zw_g10, zw_l10, zw_g15, zw_l15, zw_g16, zw_l16, zw_g48, zw_l48, zw_g50, zw_l50, zw_g57, zw_l57, zw_g97, zw_l97, zw_g100, zw_l100, zw_g200, zw_l200, zw_g999, zw_l999, zw_g9999, zw_l9999]
  refine ⟨v, c, now, k, und, kept, rfl, hB, fun q => ?_, fun j hj e h' a b => ?_⟩
  · simpa using h1 q
  · simpa using h2 j hj e h' a b
def sp_mKeep : zq_Sp := fun args h Q => ∃ v b c now k und kept, args = [.ref 56, .int v] ∧ MB b c now k und kept h ∧ (v < 0 ∨ 3 ≤ v → ∀ h', MB b c now k und kept h' → zq_fm [0] [99, 100, 101] h h' → Q (some (.int 0)) h') ∧ ∀ j : Nat, j < 3 → v = nI j → ∀ h', MB b c now k und (zupd kept j (some now)) h' → zq_fm [0] [99, 100, 101] h h' → Q (some (.int 1)) h'
def I_mKeep (Q : zq_Q) (a : zq_H × Nat × Nat) : zq_P := fun ls st h => match a with
  | (h0, j, t) => ls = [some (.ref 56), some (.int (nI j)), some (.int (nI t))] ∧ st = [] ∧ t ≤ 16 ∧ j < 3 ∧ zq_fm [0] [99, 100, 101] h0 h ∧ (∀ i, h.1 99 i = if i = j then 1 else h0.1 99 i) ∧ (∀ i, h.1 100 i = if i = j then h0.1 56 5 else h0.1 100 i) ∧ (∀ i, h.1 101 i = if 16 * j ≤ i ∧ i < 16 * j + t then h0.1 63 (i - 16 * j) else h0.1 101 i) ∧ (∀ h', zq_fm [0] [99, 100, 101] h0 h' → (∀ i, h'.1 99 i = if i = j then 1 else h0.1 99 i) → (∀ i, h'.1 100 i = if i = j then h0.1 56 5 else h0.1 100 i) → (∀ i, h'.1 101 i = if 16 * j ≤ i ∧ i < 16 * j + 16 then h0.1 63 (i - 16 * j) else h0.1 101 i) → Q (some (.int 1)) h')
theorem ok_mKeep : zq_M yX12_keep cX12_keep 3 (some .boolean) 1 1 sp_mKeep := by
  refine mX12_keep ok_in (by decide) (fun a => 16 - a.2.2) I_mKeep (fun args h Q hs => ?_) (fun Q a ls st h hi => ?_)
  · obtain ⟨v, b, c, now, k, und, kept, rfl, hB, h1, h2⟩ := hs
    have hB9 := hB
    obtain ⟨b1, b2, ⟨b3, b4⟩, b5, lv, b6, b7, b8⟩ := hB9
    refine ⟨Nat.le_of_ble_eq_true rfl, ?_⟩
    simp only [xX12_keep_67, xX12_keep_44, xX12_keep_38, xX12_keep_19, xX12_keep_17, xX12_keep_0, zi_push, zi_iload, zi_lload, zi_aload, zi_istore, zi_astore, zi_lstore, zi_iinc, zi_i2, zi_i1, zi_idv, zi_l2, zi_ldv, zi_lsh, zi_i2l, zi_l2i, zi_lcmp, zi_dup, zi_dup2, zi_pop, zi_if1, zi_if2, zi_getI, zi_getL, zi_getR, zi_putI, zi_putZ, zi_putL, zi_aldI, zi_aldL, zi_astI, zi_astZ, zi_astL, zi_alen, zi_iret, zi_zret, zi_lret, zi_vret, zi_callV, zi_callS, zi_sw, zi_copyI, zi_copyL, zi_m2, zi_m1, zi_sval, zi_scod, zi_fmt, zi_balen, zi_bald, zi_bret, zi_callT, zq_nth, zq_put1, zq_put2, zq_clr, zq_nl, zq_tk, zq_ps, zq_sw, zq_l0, zq_a, zq_a1, List.length_cons, List.length_nil, List.nil_append, List.cons_append, List.append_nil, List.replicate, Nat.reduceAdd, Nat.reduceSub, Nat.reduceLeDiff, true_and, and_true, List.append_eq, List.cons.injEq, Value.int.injEq, Value.long.injEq, Value.ref.injEq, exists_and_left, exists_eq_left', and_assoc, zc_b, zc_0, zc_1, zc_10, zc_01, lg_cmp_ge, lg_cmp_le, lg_cmp_gt, lg_cmp_lt, lg_cmp_eq, zw_le, zw_lt, reduceIte, true_or, or_true, zw_g0, zw_l0, zw_g1, zw_l1, zw_g2, zw_l2, zw_g3, zw_l3, zw_g5, zw_l5, zw_g6, zw_l6, zw_g7, zw_l7, zw_g9, zw_l9, zw_g10, zw_l10, zw_g15, zw_l15, zw_g16, zw_l16, zw_g48, zw_l48, zw_g50, zw_l50, zw_g57, zw_l57, zw_g97, zw_l97, zw_g100, zw_l100, zw_g200, zw_l200, zw_g999, zw_l999, zw_g9999, zw_l9999, sp_in, zq_sI, zq_sI2]
    simp only [Nat.reduceEqDiff, not_true_eq_false, not_false_eq_true, forall_const, true_and, and_true, false_and, and_false, if_true, if_false, reduceIte, implies_true, and_self, ite_self, true_or, or_true, false_or, or_false, true_implies, false_implies, Classical.not_not, false_imp_iff, not_false_iff]
    refine ⟨fun q => ?_, fun q => ?_⟩
    · refine h1 ?_ _ (MB_fm hB (zq_fm_F (fs := [0]) (ps := []) zq_fm_rf (by decide)) (by decide)) (zq_fm_F zq_fm_rf (by decide))
      grind
    · obtain ⟨j, hj, rfl⟩ : ∃ j : Nat, j < 3 ∧ v = nI j := by
        rcases pk_ix v (n := 3) (by decide) with z | z | z
        · exact absurd q.1 (Int32.not_le.mpr z)
        · have z : (3 : Int32) ≤ v := z
          grind
        · exact z
      rw [nI_clamp (by omega)]
      have hf : zq_fm [0] [99, 100, 101] h (zq_setI (zq_setI (zq_setI h 56 0 0) 99 j 1) 100 j (h.1 56 5)) := zq_fm_I (zq_fm_I (zq_fm_F zq_fm_rf (by decide)) (by decide)) (by decide)
      refine ⟨vp_in_nI (by omega) (by decide), vp_in_nI (by omega) (by decide), (h, j, 0), rfl, rfl, by omega, hj, hf, ?_, ?_, ?_, ?_⟩
      · intro i
        simp [zq_sI]
      · intro i
        simp [zq_sI]
      · intro i
        rw [if_neg (by omega)]
        simp [zq_sI]
      · intro h' f9 g1 g2 g3
        refine h2 j hj rfl h' ⟨b1, fun i hi => ?_, ⟨?_, b4⟩, fun a ha i hi => ?_, lv, b6, ?_, fun a ha => ?_⟩ f9
        · rw [(f9.1 63 (by decide) (by decide)).1]
          exact b2 i hi
        · rw [(f9.2 31 (by decide)).1]
          exact b3
        · rw [(f9.1 76 (by decide) (by decide)).1]
          exact b5 a ha i hi
        · rw [(f9.2 5 (by decide)).1]
          exact b7
        · rw [g1 a, g2 a, b7]
          unfold zupd
          obtain ⟨c1, c2, c3⟩ := b8 a ha
          by_cases q3 : a = j
          · rw [if_pos q3, if_pos q3, if_pos q3]
            refine ⟨Or.inr rfl, ⟨lv, Nat.le_refl _, rfl⟩, ⟨rfl, rfl⟩, fun i hi => ?_⟩
            rw [g3, q3, if_pos (by omega), Nat.add_sub_cancel_left]
            exact b2 i hi
          · rw [if_neg q3, if_neg q3, if_neg q3]
            refine ⟨c1, c2, ?_⟩
            cases hk : kept a with
            | none => rw [hk] at c3; exact c3
            | some f =>
              rw [hk] at c3
              refine ⟨c3.1, fun i hi => ?_⟩
              rw [g3, if_neg (by omega)]
              exact c3.2 i hi
  · obtain ⟨h0, j, t⟩ := a
    obtain ⟨rfl, rfl, ht, hj, hf, g1, g2, g3, h2⟩ := hi
    simp only [xX12_keep_67, xX12_keep_44, xX12_keep_38, xX12_keep_19, xX12_keep_17, xX12_keep_0, zi_push, zi_iload, zi_lload, zi_aload, zi_istore, zi_astore, zi_lstore, zi_iinc, zi_i2, zi_i1, zi_idv, zi_l2, zi_ldv, zi_lsh, zi_i2l, zi_l2i, zi_lcmp, zi_dup, zi_dup2, zi_pop, zi_if1, zi_if2, zi_getI, zi_getL, zi_getR, zi_putI, zi_putZ, zi_putL, zi_aldI, zi_aldL, zi_astI, zi_astZ, zi_astL, zi_alen, zi_iret, zi_zret, zi_lret, zi_vret, zi_callV, zi_callS, zi_sw, zi_copyI, zi_copyL, zi_m2, zi_m1, zi_sval, zi_scod, zi_fmt, zi_balen, zi_bald, zi_bret, zi_callT, zq_nth, zq_put1, zq_put2, zq_clr, zq_nl, zq_tk, zq_ps, zq_sw, zq_l0, zq_a, zq_a1, List.length_cons, List.length_nil, List.nil_append, List.cons_append, List.append_nil, List.replicate, Nat.reduceAdd, Nat.reduceSub, Nat.reduceLeDiff, true_and, and_true, List.append_eq, List.cons.injEq, Value.int.injEq, Value.long.injEq, Value.ref.injEq, exists_and_left, exists_eq_left', and_assoc, zc_b, zc_0, zc_1, zc_10, zc_01, lg_cmp_ge, lg_cmp_le, lg_cmp_gt, lg_cmp_lt, lg_cmp_eq, zw_le, zw_lt, reduceIte, true_or, or_true, zw_g0, zw_l0, zw_g1, zw_l1, zw_g2, zw_l2, zw_g3, zw_l3, zw_g5, zw_l5, zw_g6, zw_l6, zw_g7, zw_l7, zw_g9, zw_l9, zw_g10, zw_l10, zw_g15, zw_l15, zw_g16, zw_l16, zw_g48, zw_l48, zw_g50, zw_l50, zw_g57, zw_l57, zw_g97, zw_l97, zw_g100, zw_l100, zw_g200, zw_l200, zw_g999, zw_l999, zw_g9999, zw_l9999]
    rw [show (16 : Int32) = nI 16 from rfl, pk_mul, nI_add, zl_ge ht (by decide)]
    refine ⟨fun q => ?_, fun q => ⟨vp_in_nI (by omega) (by decide), vp_in_nI (by omega) (by decide), (h0, j, t + 1), by dsimp only; omega, by rw [nI_1], rfl, by omega, hj, zq_fm_I hf (by decide), ?_, ?_, ?_, h2⟩⟩
    · subst q
      simpa using h2 h hf g1 g2 g3
    · intro i
      simpa [zq_sI] using g1 i
    · intro i
      simpa [zq_sI] using g2 i
    · intro i
      rw [nI_clamp (by omega), nI_clamp (by omega), (hf.1 63 (by decide) (by decide)).1]
      simp only [zq_sI]
      by_cases q2 : i = 16 * j + t
      · rw [if_pos (by simpa using q2), if_pos (by omega), q2, Nat.add_sub_cancel_left]
      · rw [if_neg (by simpa using q2), g3 i]
        by_cases q3 : 16 * j ≤ i ∧ i < 16 * j + t
        · rw [if_pos q3, if_pos (by omega)]
        · rw [if_neg q3, if_neg (by omega)]
/-! again -/
def sp_xAgain : zq_Sp := fun args h Q => ∃ v c now k und kept, args = [.ref 0, .int v] ∧ XB c now k und kept h ∧ (v < 0 ∨ 3 ≤ v → Q (some (.int 0)) h) ∧ (∀ j : Nat, j < 3 → v = nI j → kept j = none → Q (some (.int 0)) h) ∧ ∀ j f, j < 3 → v = nI j → kept j = some f → ∀ h', XB c f 0 und kept h' → zq_fr [12] h h' → Q (some (.int 1)) h'
def sp_restore : zq_Sp := fun args h Q => ∃ v c now k und kept, args = [.ref 12, .int v] ∧ XB c now k und kept h ∧ (v < 0 ∨ 3 ≤ v → Q (some (.int 0)) h) ∧ (∀ j : Nat, j < 3 → v = nI j → kept j = none → Q (some (.int 0)) h) ∧ ∀ j f, j < 3 → v = nI j → kept j = some f → ∀ h', XB c f 0 und kept h' → zq_fr [12] h h' → Q (some (.int 1)) h'
theorem ok_restore : zq_M yX0_restore cX0_restore 2 (some .boolean) 1 0 sp_restore := by
  refine mX0_restore (fun args h Q hs => ?_)
  obtain ⟨v, c, now, k, und, kept, rfl, hB, h1, h3, h2⟩ := hs
  obtain ⟨b1, b2, ⟨b3, b4⟩, b5, m, b6, b7, b8⟩ := hB
  refine ⟨Nat.le_of_ble_eq_true rfl, ?_⟩
  simp only [xX0_restore_22, xX0_restore_20, xX0_restore_9, xX0_restore_4, xX0_restore_0, zi_push, zi_iload, zi_lload, zi_aload, zi_istore, zi_astore, zi_lstore, zi_iinc, zi_i2, zi_i1, zi_idv, zi_l2, zi_ldv, zi_lsh, zi_i2l, zi_l2i, zi_lcmp, zi_dup, zi_dup2, zi_pop, zi_if1, zi_if2, zi_getI, zi_getL, zi_getR, zi_putI, zi_putZ, zi_putL, zi_aldI, zi_aldL, zi_astI, zi_astZ, zi_astL, zi_alen, zi_iret, zi_zret, zi_lret, zi_vret, zi_callV, zi_callS, zi_sw, zi_copyI, zi_copyL, zi_m2, zi_m1, zi_sval, zi_scod, zi_fmt, zi_balen, zi_bald, zi_bret, zi_callT, zq_nth, zq_put1, zq_put2, zq_clr, zq_nl, zq_tk, zq_ps, zq_sw, zq_l0, zq_a, zq_a1, List.length_cons, List.length_nil, List.nil_append, List.cons_append, List.append_nil, List.replicate, Nat.reduceAdd, Nat.reduceSub, Nat.reduceLeDiff, true_and, and_true, List.append_eq, List.cons.injEq, Value.int.injEq, Value.long.injEq, Value.ref.injEq, exists_and_left, exists_eq_left', and_assoc, zc_b, zc_0, zc_1, zc_10, zc_01, lg_cmp_ge, lg_cmp_le, lg_cmp_gt, lg_cmp_lt, lg_cmp_eq, zw_le, zw_lt, reduceIte, true_or, or_true, zw_g0, zw_l0, zw_g1, zw_l1, zw_g2, zw_l2, zw_g3, zw_l3, zw_g5, zw_l5, zw_g6, zw_l6, zw_g7, zw_l7, zw_g9, zw_l9, zw_g10, zw_l10, zw_g15, zw_l15, zw_g16, zw_l16, zw_g48, zw_l48, zw_g50, zw_l50, zw_g57, zw_l57, zw_g97, zw_l97, zw_g100, zw_l100, zw_g200, zw_l200, zw_g999, zw_l999, zw_g9999, zw_l9999, zq_sL1]
  refine ⟨fun q => h1 (Or.inl q), fun q => ⟨fun q2 => h1 (Or.inr q2), fun q2 => ?_⟩⟩
  obtain ⟨j, hj, rfl⟩ : ∃ j : Nat, j < 3 ∧ v = nI j := by
    rcases pk_ix v (n := 3) (by decide) with z | z | z
    · exact absurd z q
    · exact absurd z q2
    · exact z
  rw [nI_clamp (by omega), b7, zm_bit m b6 j hj]
  simp only [zc_0]
  have h8 := b8 j hj
  cases hk : kept j with
  | none =>
    rw [hk] at h8
    exact ⟨fun _ => h3 j hj rfl hk, fun q9 => absurd (by simp [h8]) q9⟩
  | some f =>
    rw [hk] at h8
    refine ⟨fun q9 => absurd h8.1 q9, fun _ => ⟨vp_in_nI (by omega) (by decide), h2 j f hj rfl hk _ ⟨b1, ?_, ⟨?_, by omega⟩, fun a ha => absurd ha (Nat.not_lt_zero _), m, b6, ?_, ?_⟩ (zq_fr_I (zq_fr_L zq_fr_rf (by decide)) (by decide))⟩⟩
    · intro i hi
      simpa [zq_sL, zq_sI2] using h8.2 i hi
    · simp [zq_sI, zq_sL1, nI_0]
    · simpa [zq_sI, zq_sL1] using b7
    · intro a ha
      have := b8 a ha
      cases hk2 : kept a with
      | none => rw [hk2] at this; exact this
      | some g => rw [hk2] at this; exact ⟨this.1, fun i hi => by simpa [zq_sL, zq_sI2] using this.2 i hi⟩
theorem ok_xAgain : zq_M yX11_again cX11_again 2 (some .boolean) 1 1 sp_xAgain := by
  refine mX11_again ok_restore (by decide) (fun args h Q hs => ?_)
  obtain ⟨v, c, now, k, und, kept, rfl, hB, h1, h3, h2⟩ := hs
  refine ⟨Nat.le_of_ble_eq_true rfl, ?_⟩
  simp only [xX11_again_0, zi_push, zi_iload, zi_lload, zi_aload, zi_istore, zi_astore, zi_lstore, zi_iinc, zi_i2, zi_i1, zi_idv, zi_l2, zi_ldv, zi_lsh, zi_i2l, zi_l2i, zi_lcmp, zi_dup, zi_dup2, zi_pop, zi_if1, zi_if2, zi_getI, zi_getL, zi_getR, zi_putI, zi_putZ, zi_putL, zi_aldI, zi_aldL, zi_astI, zi_astZ, zi_astL, zi_alen, zi_iret, zi_zret, zi_lret, zi_vret, zi_callV, zi_callS, zi_sw, zi_copyI, zi_copyL, zi_m2, zi_m1, zi_sval, zi_scod, zi_fmt, zi_balen, zi_bald, zi_bret, zi_callT, zq_nth, zq_put1, zq_put2, zq_clr, zq_nl, zq_tk, zq_ps, zq_sw, zq_l0, zq_a, zq_a1, List.length_cons, List.length_nil, List.nil_append, List.cons_append, List.append_nil, List.replicate, Nat.reduceAdd, Nat.reduceSub, Nat.reduceLeDiff, true_and, and_true, List.append_eq, List.cons.injEq, Value.int.injEq, Value.long.injEq, Value.ref.injEq, exists_and_left, exists_eq_left', and_assoc, zc_b, zc_0, zc_1, zc_10, zc_01, lg_cmp_ge, lg_cmp_le, lg_cmp_gt, lg_cmp_lt, lg_cmp_eq, zw_le, zw_lt, reduceIte, true_or, or_true, zw_g0, zw_l0, zw_g1, zw_l1, zw_g2, zw_l2, zw_g3, zw_l3, zw_g5, zw_l5, zw_g6, zw_l6, zw_g7, zw_l7, zw_g9, zw_l9, zw_g10, zw_l10, zw_g15, zw_l15, zw_g16, zw_l16, zw_g48, zw_l48, zw_g50, zw_l50, zw_g57, zw_l57, zw_g97, zw_l97, zw_g100, zw_l100, zw_g200, zw_l200, zw_g999, zw_l999, zw_g9999, zw_l9999]
  refine ⟨v, c, now, k, und, kept, rfl, hB, fun q => ?_, fun j hj e q => ?_, fun j f hj e q h' a b => ?_⟩
  · simpa using h1 q
  · simpa using h3 j hj e q
  · simpa using h2 j f hj e q h' a b
def sp_mAgain : zq_Sp := fun args h Q => ∃ v b c now k und kept, args = [.ref 56, .int v] ∧ MB b c now k und kept h ∧ b < 2147483648 ∧ (v < 0 ∨ 3 ≤ v → ∀ h', MB b c now k und kept h' → zq_fm [0, 31] [63] h h' → Q (some (.int 0)) h') ∧ (∀ j : Nat, j < 3 → v = nI j → kept j = none → ∀ h', MB b c now k und kept h' → zq_fm [0, 31] [63] h h' → Q (some (.int 0)) h') ∧ ∀ j f, j < 3 → v = nI j → kept j = some f → ∀ h', MB b c f 0 und kept h' → zq_fm [0, 31] [63] h h' → Q (some (.int 1)) h'
def I_mAgain (Q : zq_Q) (a : zq_H × Nat × Nat) : zq_P := fun ls st h => match a with
  | (h0, j, t) => ls = [some (.ref 56), some (.int (nI j)), some (.int (nI t))] ∧ st = [] ∧ t ≤ 16 ∧ j < 3 ∧ zq_fm [0, 31] [63] h0 h ∧ (∀ i, i < t → h.1 63 i = h0.1 101 (16 * j + i)) ∧ (∀ h', zq_fm [0, 31] [63] h0 h' → h'.1 56 31 = 0 → (∀ i, i < 16 → h'.1 63 i = h0.1 101 (16 * j + i)) → Q (some (.int 1)) h')
theorem ok_mAgain : zq_M yX12_again cX12_again 3 (some .boolean) 1 1 sp_mAgain := by
  refine mX12_again ok_in (by decide) (fun a => 16 - a.2.2) I_mAgain (fun args h Q hs => ?_) (fun Q a ls st h hi => ?_)
  · obtain ⟨v, b, c, now, k, und, kept, rfl, hB, hb, h1, h3, h2⟩ := hs
    have hB9 := hB
    obtain ⟨b1, b2, ⟨b3, b4⟩, b5, lv, b6, b7, b8⟩ := hB9
    have z0 : zq_fm [0, 31] [63] h (zq_setI h 56 0 0) := zq_fm_F zq_fm_rf (by decide)
    have z1 : MB b c now k und kept (zq_setI h 56 0 0) := MB_fm hB (zq_fm_F (fs := [0]) (ps := []) zq_fm_rf (by decide)) (by decide)
    refine ⟨Nat.le_of_ble_eq_true rfl, ?_⟩
    simp only [xX12_again_72, xX12_again_49, xX12_again_43, xX12_again_41, xX12_again_39, xX12_again_26, xX12_again_17, xX12_again_0, zi_push, zi_iload, zi_lload, zi_aload, zi_istore, zi_astore, zi_lstore, zi_iinc, zi_i2, zi_i1, zi_idv, zi_l2, zi_ldv, zi_lsh, zi_i2l, zi_l2i, zi_lcmp, zi_dup, zi_dup2, zi_pop, zi_if1, zi_if2, zi_getI, zi_getL, zi_getR, zi_putI, zi_putZ, zi_putL, zi_aldI, zi_aldL, zi_astI, zi_astZ, zi_astL, zi_alen, zi_iret, zi_zret, zi_lret, zi_vret, zi_callV, zi_callS, zi_sw, zi_copyI, zi_copyL, zi_m2, zi_m1, zi_sval, zi_scod, zi_fmt, zi_balen, zi_bald, zi_bret, zi_callT, zq_nth, zq_put1, zq_put2, zq_clr, zq_nl, zq_tk, zq_ps, zq_sw, zq_l0, zq_a, zq_a1, List.length_cons, List.length_nil, List.nil_append, List.cons_append, List.append_nil, List.replicate, Nat.reduceAdd, Nat.reduceSub, Nat.reduceLeDiff, true_and, and_true, List.append_eq, List.cons.injEq, Value.int.injEq, Value.long.injEq, Value.ref.injEq, exists_and_left, exists_eq_left', and_assoc, zc_b, zc_0, zc_1, zc_10, zc_01, lg_cmp_ge, lg_cmp_le, lg_cmp_gt, lg_cmp_lt, lg_cmp_eq, zw_le, zw_lt, reduceIte, true_or, or_true, zw_g0, zw_l0, zw_g1, zw_l1, zw_g2, zw_l2, zw_g3, zw_l3, zw_g5, zw_l5, zw_g6, zw_l6, zw_g7, zw_l7, zw_g9, zw_l9, zw_g10, zw_l10, zw_g15, zw_l15, zw_g16, zw_l16, zw_g48, zw_l48, zw_g50, zw_l50, zw_g57, zw_l57, zw_g97, zw_l97, zw_g100, zw_l100, zw_g200, zw_l200, zw_g999, zw_l999, zw_g9999, zw_l9999, sp_in, zq_sI, zq_sI2]
    simp only [Nat.reduceEqDiff, not_true_eq_false, not_false_eq_true, forall_const, true_and, and_true, false_and, and_false, if_true, if_false, reduceIte, implies_true, and_self, ite_self, true_or, or_true, false_or, or_false, true_implies, false_implies, Classical.not_not, false_imp_iff, not_false_iff]
    refine ⟨fun q => h1 (by grind) _ z1 z0, fun q => ?_⟩
    obtain ⟨j, hj, rfl⟩ : ∃ j : Nat, j < 3 ∧ v = nI j := by
      rcases pk_ix v (n := 3) (by decide) with z | z | z
      · exact absurd q.1 (Int32.not_le.mpr z)
      · have z : (3 : Int32) ≤ v := z
        grind
      · exact z
    rw [nI_clamp (by omega), b7]
    obtain ⟨c1, ⟨q9, c2, c2'⟩, c3⟩ := b8 j hj
    refine ⟨vp_in_nI (by omega) (by decide), fun e => ?_, fun e => ⟨vp_in_nI (by omega) (by decide), fun e2 => ?_, fun e2 => ?_⟩⟩
    · refine h3 j hj rfl ?_ _ z1 z0
      cases hk : kept j with
      | none => rfl
      | some f => rw [hk] at c3; exact absurd (e.symm.trans c3.1.1) (by decide)
    · cases hk : kept j with
      | none =>
        rw [hk] at c3
        exact absurd ⟨c1.resolve_left e, e2⟩ c3
      | some f =>
        rw [hk] at c3
        refine ⟨(h, j, 0), rfl, rfl, by omega, hj, z0, fun i hi => absurd hi (Nat.not_lt_zero _), ?_⟩
        intro h' f9 g1 g2
        refine h2 j f hj rfl hk h' ⟨b1, fun i hi => ?_, ⟨g1, by omega⟩, fun a ha => absurd ha (Nat.not_lt_zero _), lv, b6, ?_, fun a ha => ?_⟩ f9
        · rw [g2 i (by omega)]
          exact c3.2 i hi
        · rw [(f9.2 5 (by decide)).1]
          exact b7
        · rw [(f9.1 99 (by decide) (by decide)).1, (f9.1 100 (by decide) (by decide)).1, (f9.1 101 (by decide) (by decide)).1]
          exact b8 a ha
    · refine h3 j hj rfl ?_ _ z1 z0
      cases hk : kept j with
      | none => rfl
      | some f => rw [hk] at c3; exact absurd c3.1.2 e2
  · obtain ⟨h0, j, t⟩ := a
    obtain ⟨rfl, rfl, ht, hj, hf, hc, h2⟩ := hi
    simp only [xX12_again_72, xX12_again_49, xX12_again_43, xX12_again_41, xX12_again_39, xX12_again_26, xX12_again_17, xX12_again_0, zi_push, zi_iload, zi_lload, zi_aload, zi_istore, zi_astore, zi_lstore, zi_iinc, zi_i2, zi_i1, zi_idv, zi_l2, zi_ldv, zi_lsh, zi_i2l, zi_l2i, zi_lcmp, zi_dup, zi_dup2, zi_pop, zi_if1, zi_if2, zi_getI, zi_getL, zi_getR, zi_putI, zi_putZ, zi_putL, zi_aldI, zi_aldL, zi_astI, zi_astZ, zi_astL, zi_alen, zi_iret, zi_zret, zi_lret, zi_vret, zi_callV, zi_callS, zi_sw, zi_copyI, zi_copyL, zi_m2, zi_m1, zi_sval, zi_scod, zi_fmt, zi_balen, zi_bald, zi_bret, zi_callT, zq_nth, zq_put1, zq_put2, zq_clr, zq_nl, zq_tk, zq_ps, zq_sw, zq_l0, zq_a, zq_a1, List.length_cons, List.length_nil, List.nil_append, List.cons_append, List.append_nil, List.replicate, Nat.reduceAdd, Nat.reduceSub, Nat.reduceLeDiff, true_and, and_true, List.append_eq, List.cons.injEq, Value.int.injEq, Value.long.injEq, Value.ref.injEq, exists_and_left, exists_eq_left', and_assoc, zc_b, zc_0, zc_1, zc_10, zc_01, lg_cmp_ge, lg_cmp_le, lg_cmp_gt, lg_cmp_lt, lg_cmp_eq, zw_le, zw_lt, reduceIte, true_or, or_true, zw_g0, zw_l0, zw_g1, zw_l1, zw_g2, zw_l2, zw_g3, zw_l3, zw_g5, zw_l5, zw_g6, zw_l6, zw_g7, zw_l7, zw_g9, zw_l9, zw_g10, zw_l10, zw_g15, zw_l15, zw_g16, zw_l16, zw_g48, zw_l48, zw_g50, zw_l50, zw_g57, zw_l57, zw_g97, zw_l97, zw_g100, zw_l100, zw_g200, zw_l200, zw_g999, zw_l999, zw_g9999, zw_l9999]
    rw [show (16 : Int32) = nI 16 from rfl, pk_mul, nI_add, zl_ge ht (by decide)]
    refine ⟨fun q => ?_, fun q => ⟨vp_in_nI (by omega) (by decide), vp_in_nI (by omega) (by decide), (h0, j, t + 1), by dsimp only; omega, by rw [nI_1], rfl, by omega, hj, zq_fm_I hf (by decide), ?_, h2⟩⟩
    · have := h2 (zq_setI h 56 31 0) (zq_fm_F hf (by decide)) (by simp [zq_sI]) (fun i hi => by simpa [zq_sI] using hc i (by omega))
      simpa using this
    · intro i hi
      rw [nI_clamp (by omega), nI_clamp (by omega), (hf.1 101 (by decide) (by decide)).1]
      simp only [zq_sI]
      by_cases q2 : i = t
      · rw [if_pos (by simpa using q2), q2]
      · rw [if_neg (by simpa using q2)]
        exact hc i (by omega)
