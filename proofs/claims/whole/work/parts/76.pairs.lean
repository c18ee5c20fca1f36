/-! ===== offer: pairs counted by the class ===== -/
abbrev zdn (x y a b : Nat) : Prop := (a < b ∧ (a < x ∨ (a = x ∧ b < y))) ∨ (b < a ∧ (b < x ∨ (b = x ∧ a < y)))
def zqv (w : Nat → Nat) (N : Nat → Nat → Nat) (x y a b : Nat) : Nat := N a b + if zdn x y a b ∧ w b ≤ w a then 1 else 0
theorem zqv_eq {w : Nat → Nat} {N : Nat → Nat → Nat} {x y x' y' a b : Nat} (h : zdn x y a b ↔ zdn x' y' a b) : zqv w N x y a b = zqv w N x' y' a b := by
  unfold zqv
  by_cases q : zdn x y a b
  · have q2 := h.mp q
    by_cases q3 : w b ≤ w a
    · rw [if_pos ⟨q, q3⟩, if_pos ⟨q2, q3⟩]
    · rw [if_neg (fun z => q3 z.2), if_neg (fun z => q3 z.2)]
  · have q2 := fun z => q (h.mpr z)
    rw [if_neg (fun z => q z.1), if_neg (fun z => q2 z.1)]
theorem zqv_new {w : Nat → Nat} {N : Nat → Nat → Nat} {x y a b : Nat} (h1 : ¬ zdn x y a b) (h2 : zdn x (y + 1) a b) : zqv w N x (y + 1) a b = zqv w N x y a b + if w b ≤ w a then 1 else 0 := by
  unfold zqv
  rw [if_neg (show ¬ (zdn x y a b ∧ w b ≤ w a) from fun z => h1 z.1)]
  by_cases q3 : w b ≤ w a
  · rw [if_pos (show zdn x (y + 1) a b ∧ w b ≤ w a from ⟨h2, q3⟩), if_pos q3]
  · rw [if_neg (fun z => q3 z.2), if_neg q3]
def zPv (n : Nat) (f : Nat → Nat → Nat) (h : zq_H) : Prop := ∀ a b, a < n → b < n → a ≠ b → h.1 21 (16 * a + b) = nI (f a b)
def zAk (n : Nat) (w : Nat → Nat) (h : zq_H) : Prop := ∀ c, c < n → h.1 20 c = nI (w c) ∧ w c ≤ 999
theorem zPv_step {n x y : Nat} {w : Nat → Nat} {N : Nat → Nat → Nat} {h h' : zq_H} (hn : n ≤ 16) (hx : x < y) (hy : y < n) (k : zPv n (zqv w N x y) h) (e : ∀ s, h'.1 21 s = if s = 16 * x + y ∧ w y ≤ w x then h.1 21 s + 1 else if s = 16 * y + x ∧ w x ≤ w y then h.1 21 s + 1 else h.1 21 s) : zPv n (zqv w N x (y + 1)) h' := by
  intro a b ha hb hab
  have hk := k a b ha hb hab
  rw [e, hk]
  by_cases q1 : a = x ∧ b = y
  · obtain ⟨rfl, rfl⟩ := q1
    rw [zqv_new (show ¬ zdn a b a b by omega) (show zdn a (b + 1) a b by omega)]
    by_cases q2 : w b ≤ w a
    · rw [if_pos ⟨rfl, q2⟩, if_pos q2, nI_1]
    · rw [if_neg (fun z => q2 z.2), if_neg (fun z => by have := z.1; omega), if_neg q2]
      rfl
  · by_cases q3 : a = y ∧ b = x
    · obtain ⟨rfl, rfl⟩ := q3
      rw [zqv_new (show ¬ zdn b a a b by omega) (show zdn b (a + 1) a b by omega)]
      rw [if_neg (fun z => by have := z.1; omega)]
      by_cases q2 : w b ≤ w a
      · rw [if_pos ⟨rfl, q2⟩, if_pos q2, nI_1]
      · rw [if_neg (fun z => q2 z.2), if_neg q2]
        rfl
    · rw [if_neg (fun z => by have := z.1; omega), if_neg (fun z => by have := z.1; omega)]
      rw [zqv_eq (show zdn x y a b ↔ zdn x (y + 1) a b by omega)]
def sp_ctt : zq_Sp := fun args h Q => ∃ n w N, args = [.ref 15, .int (nI n)] ∧ n ≤ 16 ∧ zAk n w h ∧ zPv n N h ∧ ∀ h', zPv n (fun a b => N a b + if w b ≤ w a then 1 else 0) h' → zq_fr [21] h h' → Q none h'
def zct (Q : zq_Q) (h0 h : zq_H) (n : Nat) (w : Nat → Nat) (N : Nat → Nat → Nat) : Prop := n ≤ 16 ∧ zAk n w h0 ∧ zq_fr [21] h0 h ∧ ∀ h', zPv n (fun a b => N a b + if w b ≤ w a then 1 else 0) h' → zq_fr [21] h0 h' → Q none h'
def I_ct2 (Q : zq_Q) (z : zq_H × (Nat × (Nat → Nat) × (Nat → Nat → Nat)) × Nat × Nat) : zq_P := fun ls st h => match z with
  | (h0, (n, w, N), x, _) => ∃ s3, ls = [some (.ref 15), some (.int (nI n)), some (.int (nI x)), s3] ∧ st = [] ∧ x ≤ n ∧ zPv n (zqv w N x 0) h ∧ zct Q h0 h n w N
def I_ct11 (Q : zq_Q) (z : zq_H × (Nat × (Nat → Nat) × (Nat → Nat → Nat)) × Nat × Nat) : zq_P := fun ls st h => match z with
  | (h0, (n, w, N), x, y) => ls = [some (.ref 15), some (.int (nI n)), some (.int (nI x)), some (.int (nI y))] ∧ st = [] ∧ (x < n ∧ x < y ∧ y ≤ n) ∧ zPv n (zqv w N x y) h ∧ zct Q h0 h n w N
theorem ok_ctt : zq_M yX1_countThisTime cX1_countThisTime 4 none 0 0 sp_ctt := by
  refine mX1_countThisTime (fun z => (z.2.1.1 - z.2.2.1) * 20) I_ct2 (fun z => (z.2.1.1 - z.2.2.1) * 20 - 1 - z.2.2.2) I_ct11 (fun args h Q hs => ?_) (fun Q z ls st h hi => ?_) (fun Q z ls st h hi => ?_)
  · obtain ⟨n, w, N, rfl, hn, hA, hP, kk⟩ := hs
    refine ⟨Nat.le_of_ble_eq_true rfl, ?_⟩
    simp only [xX1_countThisTime_0, zi_push, zi_iload, zi_lload, zi_aload, zi_istore, zi_astore, zi_lstore, zi_iinc, zi_i2, zi_i1, zi_idv, zi_l2, zi_ldv, zi_lsh, zi_i2l, zi_l2i, zi_lcmp, zi_dup, zi_dup2, zi_pop, zi_if1, zi_if2, zi_getI, zi_getL, zi_getR, zi_putI, zi_putZ, zi_putL, zi_aldI, zi_aldL, zi_astI, zi_astZ, zi_astL, zi_alen, zi_iret, zi_zret, zi_lret, zi_vret, zi_callV, zi_callS, zi_sw, zi_copyI, zi_copyL, zi_m2, zi_m1, zi_sval, zi_scod, zi_fmt, zi_balen, zi_bald, zi_bret, zi_callT, zq_nth, zq_put1, zq_put2, zq_clr, zq_nl, zq_tk, zq_ps, zq_sw, zq_l0, zq_a, zq_a1, List.length_cons, List.length_nil, List.nil_append, List.cons_append, List.append_nil, List.replicate, Nat.reduceAdd, Nat.reduceSub, Nat.reduceLeDiff, true_and, and_true, List.append_eq, List.cons.injEq, Value.int.injEq, Value.long.injEq, Value.ref.injEq, exists_and_left, exists_eq_left', and_assoc, zc_b, zc_0, zc_1, zc_10, zc_01, lg_cmp_ge, lg_cmp_le, lg_cmp_gt, lg_cmp_lt, lg_cmp_eq, zw_le, zw_lt, reduceIte, true_or, or_true, zw_g0, zw_l0, zw_g1, zw_l1, zw_g2, zw_l2, zw_g3, zw_l3, zw_g5, zw_l5, zw_g6, zw_l6, zw_g7, zw_l7, zw_g9, zw_l9, zw_g10, zw_l10, zw_g15, zw_l15, zw_g16, zw_l16, zw_g48, zw_l48, zw_g50, zw_l50, zw_g57, zw_l57, zw_g97, zw_l97, zw_g100, zw_l100, zw_g200, zw_l200, zw_g999, zw_l999, zw_g9999, zw_l9999]
    refine ⟨(h, (n, w, N), 0, 0), none, rfl, rfl, Nat.zero_le _, fun a b ha hb hab => ?_, hn, hA, zq_fr_rf, kk⟩
    rw [hP a b ha hb hab]
    unfold zqv
    rw [if_neg (fun z => by have := z.1; omega)]
    rfl
  · obtain ⟨h0, ⟨n, w, N⟩, x, y⟩ := z
    obtain ⟨s3, rfl, rfl, hx, hP, hn, hA, hf, kk⟩ := hi
    simp only [xX1_countThisTime_2, xX1_countThisTime_7, xX1_countThisTime_88, zl_ge hx (show n < 2 ^ 31 by omega), nI_1, zi_push, zi_iload, zi_lload, zi_aload, zi_istore, zi_astore, zi_lstore, zi_iinc, zi_i2, zi_i1, zi_idv, zi_l2, zi_ldv, zi_lsh, zi_i2l, zi_l2i, zi_lcmp, zi_dup, zi_dup2, zi_pop, zi_if1, zi_if2, zi_getI, zi_getL, zi_getR, zi_putI, zi_putZ, zi_putL, zi_aldI, zi_aldL, zi_astI, zi_astZ, zi_astL, zi_alen, zi_iret, zi_zret, zi_lret, zi_vret, zi_callV, zi_callS, zi_sw, zi_copyI, zi_copyL, zi_m2, zi_m1, zi_sval, zi_scod, zi_fmt, zi_balen, zi_bald, zi_bret, zi_callT, zq_nth, zq_put1, zq_put2, zq_clr, zq_nl, zq_tk, zq_ps, zq_sw, zq_l0, zq_a, zq_a1, List.length_cons, List.length_nil, List.nil_append, List.cons_append, List.append_nil, List.replicate, Nat.reduceAdd, Nat.reduceSub, Nat.reduceLeDiff, true_and, and_true, List.append_eq, List.cons.injEq, Value.int.injEq, Value.long.injEq, Value.ref.injEq, exists_and_left, exists_eq_left', and_assoc, zc_b, zc_0, zc_1, zc_10, zc_01, lg_cmp_ge, lg_cmp_le, lg_cmp_gt, lg_cmp_lt, lg_cmp_eq, zw_le, zw_lt, reduceIte, true_or, or_true, zw_g0, zw_l0, zw_g1, zw_l1, zw_g2, zw_l2, zw_g3, zw_l3, zw_g5, zw_l5, zw_g6, zw_l6, zw_g7, zw_l7, zw_g9, zw_l9, zw_g10, zw_l10, zw_g15, zw_l15, zw_g16, zw_l16, zw_g48, zw_l48, zw_g50, zw_l50, zw_g57, zw_l57, zw_g97, zw_l97, zw_g100, zw_l100, zw_g200, zw_l200, zw_g999, zw_l999, zw_g9999, zw_l9999]
    refine ⟨fun q => kk h (fun a b ha hb hab => ?_) hf, fun q => ⟨(h0, (n, w, N), x, x + 1), by dsimp only; omega, rfl, rfl, by omega, fun a b ha hb hab => ?_, hn, hA, hf, kk⟩⟩
    · subst q
      rw [hP a b ha hb hab]
      unfold zqv
      have d : zdn x 0 a b := by omega
      by_cases q3 : w b ≤ w a
      · rw [if_pos ⟨d, q3⟩]
        show _ = nI (N a b + if w b ≤ w a then 1 else 0)
        rw [if_pos q3]
      · rw [if_neg (fun z => q3 z.2)]
        show _ = nI (N a b + if w b ≤ w a then 1 else 0)
        rw [if_neg q3]
    · rw [hP a b ha hb hab, zqv_eq (show zdn x 0 a b ↔ zdn x (x + 1) a b by omega)]
  · obtain ⟨h0, ⟨n, w, N⟩, x, y⟩ := z
    obtain ⟨rfl, rfl, ⟨hx, hxy, hy⟩, hP, hn, hA, hf, kk⟩ := hi
    have a20 : ∀ c, c < n → h.1 20 c = nI (w c) := fun c hc => by rw [(hf 20 (by decide)).1]; exact (hA c hc).1
    simp only [xX1_countThisTime_11, xX1_countThisTime_82, zl_ge hy (show n < 2 ^ 31 by omega), nI_1, zi_push, zi_iload, zi_lload, zi_aload, zi_istore, zi_astore, zi_lstore, zi_iinc, zi_i2, zi_i1, zi_idv, zi_l2, zi_ldv, zi_lsh, zi_i2l, zi_l2i, zi_lcmp, zi_dup, zi_dup2, zi_pop, zi_if1, zi_if2, zi_getI, zi_getL, zi_getR, zi_putI, zi_putZ, zi_putL, zi_aldI, zi_aldL, zi_astI, zi_astZ, zi_astL, zi_alen, zi_iret, zi_zret, zi_lret, zi_vret, zi_callV, zi_callS, zi_sw, zi_copyI, zi_copyL, zi_m2, zi_m1, zi_sval, zi_scod, zi_fmt, zi_balen, zi_bald, zi_bret, zi_callT, zq_nth, zq_put1, zq_put2, zq_clr, zq_nl, zq_tk, zq_ps, zq_sw, zq_l0, zq_a, zq_a1, List.length_cons, List.length_nil, List.nil_append, List.cons_append, List.append_nil, List.replicate, Nat.reduceAdd, Nat.reduceSub, Nat.reduceLeDiff, true_and, and_true, List.append_eq, List.cons.injEq, Value.int.injEq, Value.long.injEq, Value.ref.injEq, exists_and_left, exists_eq_left', and_assoc, zc_b, zc_0, zc_1, zc_10, zc_01, lg_cmp_ge, lg_cmp_le, lg_cmp_gt, lg_cmp_lt, lg_cmp_eq, zw_le, zw_lt, reduceIte, true_or, or_true, zw_g0, zw_l0, zw_g1, zw_l1, zw_g2, zw_l2, zw_g3, zw_l3, zw_g5, zw_l5, zw_g6, zw_l6, zw_g7, zw_l7, zw_g9, zw_l9, zw_g10, zw_l10, zw_g15, zw_l15, zw_g16, zw_l16, zw_g48, zw_l48, zw_g50, zw_l50, zw_g57, zw_l57, zw_g97, zw_l97, zw_g100, zw_l100, zw_g200, zw_l200, zw_g999, zw_l999, zw_g9999, zw_l9999]
    refine ⟨fun q => ⟨(h0, (n, w, N), x + 1, 0), by dsimp only; omega, _, rfl, rfl, by omega, fun a b ha hb hab => ?_, hn, hA, hf, kk⟩, fun q => ?_⟩
    · subst q
      rw [hP a b ha hb hab, zqv_eq (show zdn x y a b ↔ zdn (x + 1) 0 a b by omega)]
    · have wx := (hA x hx).2
      have wy := (hA y (by omega)).2
      have vx : vp_in (nI x) 16 := vp_in_nI (by omega) (by decide)
      have vy : vp_in (nI y) 16 := vp_in_nI (by omega) (by decide)
      have v1 : vp_in (nI (16 * x + y)) 256 := vp_in_nI (by omega) (by decide)
      have v2 : vp_in (nI (16 * y + x)) 256 := vp_in_nI (by omega) (by decide)
      have fin : ∀ h', zq_fr [21] h h' → (∀ s, h'.1 21 s = if s = 16 * x + y ∧ w y ≤ w x then h.1 21 s + 1 else if s = 16 * y + x ∧ w x ≤ w y then h.1 21 s + 1 else h.1 21 s) → xX1_countThisTime_76 (fun ls st h => ∃ b9, (b9.2.1.1 - b9.2.2.1) * 20 < (n - x) * 20 - 1 - y ∧ I_ct2 Q b9 ls st h) (fun ls st h => ∃ b9, (b9.2.1.1 - b9.2.2.1) * 20 - 1 - b9.2.2.2 < (n - x) * 20 - 1 - y ∧ I_ct11 Q b9 ls st h) Q [some (.ref 15), some (.int (nI n)), some (.int (nI x)), some (.int (nI y))] [] h' := by
        intro h' f e
        simp only [xX1_countThisTime_76, nI_1, zi_push, zi_iload, zi_lload, zi_aload, zi_istore, zi_astore, zi_lstore, zi_iinc, zi_i2, zi_i1, zi_idv, zi_l2, zi_ldv, zi_lsh, zi_i2l, zi_l2i, zi_lcmp, zi_dup, zi_dup2, zi_pop, zi_if1, zi_if2, zi_getI, zi_getL, zi_getR, zi_putI, zi_putZ, zi_putL, zi_aldI, zi_aldL, zi_astI, zi_astZ, zi_astL, zi_alen, zi_iret, zi_zret, zi_lret, zi_vret, zi_callV, zi_callS, zi_sw, zi_copyI, zi_copyL, zi_m2, zi_m1, zi_sval, zi_scod, zi_fmt, zi_balen, zi_bald, zi_bret, zi_callT, zq_nth, zq_put1, zq_put2, zq_clr, zq_nl, zq_tk, zq_ps, zq_sw, zq_l0, zq_a, zq_a1, List.length_cons, List.length_nil, List.nil_append, List.cons_append, List.append_nil, List.replicate, Nat.reduceAdd, Nat.reduceSub, Nat.reduceLeDiff, true_and, and_true, List.append_eq, List.cons.injEq, Value.int.injEq, Value.long.injEq, Value.ref.injEq, exists_and_left, exists_eq_left', and_assoc, zc_b, zc_0, zc_1, zc_10, zc_01, lg_cmp_ge, lg_cmp_le, lg_cmp_gt, lg_cmp_lt, lg_cmp_eq, zw_le, zw_lt, reduceIte, true_or, or_true, zw_g0, zw_l0, zw_g1, zw_l1, zw_g2, zw_l2, zw_g3, zw_l3, zw_g5, zw_l5, zw_g6, zw_l6, zw_g7, zw_l7, zw_g9, zw_l9, zw_g10, zw_l10, zw_g15, zw_l15, zw_g16, zw_l16, zw_g48, zw_l48, zw_g50, zw_l50, zw_g57, zw_l57, zw_g97, zw_l97, zw_g100, zw_l100, zw_g200, zw_l200, zw_g999, zw_l999, zw_g9999, zw_l9999]
        exact ⟨(h0, (n, w, N), x, y + 1), by dsimp only; omega, rfl, rfl, by omega, zPv_step hn hxy (by omega) hP e, hn, hA, zq_fr_t hf f (by decide), kk⟩
      have fin2 : ∀ h1, zq_fr [21] h h1 → (∀ s, h1.1 21 s = if s = 16 * x + y ∧ w y ≤ w x then h.1 21 s + 1 else h.1 21 s) → xX1_countThisTime_46 (fun ls st h => ∃ b9, (b9.2.1.1 - b9.2.2.1) * 20 < (n - x) * 20 - 1 - y ∧ I_ct2 Q b9 ls st h) (fun ls st h => ∃ b9, (b9.2.1.1 - b9.2.2.1) * 20 - 1 - b9.2.2.2 < (n - x) * 20 - 1 - y ∧ I_ct11 Q b9 ls st h) Q [some (.ref 15), some (.int (nI n)), some (.int (nI x)), some (.int (nI y))] [] h1 := by
        intro h1 f e
        have ax : h1.1 20 x = nI (w x) := by rw [(f 20 (by decide)).1]; exact a20 x hx
        have ay : h1.1 20 y = nI (w y) := by rw [(f 20 (by decide)).1]; exact a20 y (by omega)
        have el : (nI (w y) < nI (w x)) = (w y < w x) := nI_ltP (by omega) (by omega)
        simp only [xX1_countThisTime_46, xX1_countThisTime_61, nI_clamp (show x < 2 ^ 31 by omega), nI_clamp (show y < 2 ^ 31 by omega), ax, ay, el, z16a, nI_clamp (show 16 * y + x < 2 ^ 31 by omega), zi_push, zi_iload, zi_lload, zi_aload, zi_istore, zi_astore, zi_lstore, zi_iinc, zi_i2, zi_i1, zi_idv, zi_l2, zi_ldv, zi_lsh, zi_i2l, zi_l2i, zi_lcmp, zi_dup, zi_dup2, zi_pop, zi_if1, zi_if2, zi_getI, zi_getL, zi_getR, zi_putI, zi_putZ, zi_putL, zi_aldI, zi_aldL, zi_astI, zi_astZ, zi_astL, zi_alen, zi_iret, zi_zret, zi_lret, zi_vret, zi_callV, zi_callS, zi_sw, zi_copyI, zi_copyL, zi_m2, zi_m1, zi_sval, zi_scod, zi_fmt, zi_balen, zi_bald, zi_bret, zi_callT, zq_nth, zq_put1, zq_put2, zq_clr, zq_nl, zq_tk, zq_ps, zq_sw, zq_l0, zq_a, zq_a1, List.length_cons, List.length_nil, List.nil_append, List.cons_append, List.append_nil, List.replicate, Nat.reduceAdd, Nat.reduceSub, Nat.reduceLeDiff, true_and, and_true, List.append_eq, List.cons.injEq, Value.int.injEq, Value.long.injEq, Value.ref.injEq, exists_and_left, exists_eq_left', and_assoc, zc_b, zc_0, zc_1, zc_10, zc_01, lg_cmp_ge, lg_cmp_le, lg_cmp_gt, lg_cmp_lt, lg_cmp_eq, zw_le, zw_lt, reduceIte, true_or, or_true, zw_g0, zw_l0, zw_g1, zw_l1, zw_g2, zw_l2, zw_g3, zw_l3, zw_g5, zw_l5, zw_g6, zw_l6, zw_g7, zw_l7, zw_g9, zw_l9, zw_g10, zw_l10, zw_g15, zw_l15, zw_g16, zw_l16, zw_g48, zw_l48, zw_g50, zw_l50, zw_g57, zw_l57, zw_g97, zw_l97, zw_g100, zw_l100, zw_g200, zw_l200, zw_g999, zw_l999, zw_g9999, zw_l9999]
        refine ⟨vy, vx, fun q2 => fin h1 f (fun s => ?_), fun q2 => ⟨v2, v2, fin _ (zq_fr_I f (by decide)) (fun s => ?_)⟩⟩
        · rw [e s]
          by_cases q3 : s = 16 * x + y ∧ w y ≤ w x
          · rw [if_pos q3, if_pos q3]
          · rw [if_neg q3, if_neg q3, if_neg (fun z => by have := z.2; omega)]
        · rw [zq_sI]
          by_cases q3 : s = 16 * y + x
          · subst q3
            rw [if_pos ⟨rfl, rfl⟩, e, if_neg (fun z => by have := z.1; omega), if_neg (fun z => by have := z.1; omega), if_pos ⟨rfl, by omega⟩]
          · rw [if_neg (fun z => q3 z.2), e s]
            by_cases q4 : s = 16 * x + y ∧ w y ≤ w x
            · rw [if_pos q4, if_pos q4]
            · rw [if_neg q4, if_neg q4, if_neg (fun z => q3 z.1)]
      have el : (nI (w x) < nI (w y)) = (w x < w y) := nI_ltP (by omega) (by omega)
      simp only [xX1_countThisTime_16, xX1_countThisTime_31, nI_clamp (show x < 2 ^ 31 by omega), nI_clamp (show y < 2 ^ 31 by omega), a20 x hx, a20 y (by omega), el, z16a, nI_clamp (show 16 * x + y < 2 ^ 31 by omega), zi_push, zi_iload, zi_lload, zi_aload, zi_istore, zi_astore, zi_lstore, zi_iinc, zi_i2, zi_i1, zi_idv, zi_l2, zi_ldv, zi_lsh, zi_i2l, zi_l2i, zi_lcmp, zi_dup, zi_dup2, zi_pop, zi_if1, zi_if2, zi_getI, zi_getL, zi_getR, zi_putI, zi_putZ, zi_putL, zi_aldI, zi_aldL, zi_astI, zi_astZ, zi_astL, zi_alen, zi_iret, zi_zret, zi_lret, zi_vret, zi_callV, zi_callS, zi_sw, zi_copyI, zi_copyL, zi_m2, zi_m1, zi_sval, zi_scod, zi_fmt, zi_balen, zi_bald, zi_bret, zi_callT, zq_nth, zq_put1, zq_put2, zq_clr, zq_nl, zq_tk, zq_ps, zq_sw, zq_l0, zq_a, zq_a1, List.length_cons, List.length_nil, List.nil_append, List.cons_append, List.append_nil, List.replicate, Nat.reduceAdd, Nat.reduceSub, Nat.reduceLeDiff, true_and, and_true, List.append_eq, List.cons.injEq, Value.int.injEq, Value.long.injEq, Value.ref.injEq, exists_and_left, exists_eq_left', and_assoc, zc_b, zc_0, zc_1, zc_10, zc_01, lg_cmp_ge, lg_cmp_le, lg_cmp_gt, lg_cmp_lt, lg_cmp_eq, zw_le, zw_lt, reduceIte, true_or, or_true, zw_g0, zw_l0, zw_g1, zw_l1, zw_g2, zw_l2, zw_g3, zw_l3, zw_g5, zw_l5, zw_g6, zw_l6, zw_g7, zw_l7, zw_g9, zw_l9, zw_g10, zw_l10, zw_g15, zw_l15, zw_g16, zw_l16, zw_g48, zw_l48, zw_g50, zw_l50, zw_g57, zw_l57, zw_g97, zw_l97, zw_g100, zw_l100, zw_g200, zw_l200, zw_g999, zw_l999, zw_g9999, zw_l9999]
      refine ⟨vx, vy, fun q2 => fin2 h zq_fr_rf (fun s => ?_), fun q2 => ⟨v1, v1, fin2 _ (zq_fr_I zq_fr_rf (by decide)) (fun s => ?_)⟩⟩
      · rw [if_neg (fun z => by have := z.2; omega)]
      · rw [zq_sI]
        by_cases q3 : s = 16 * x + y
        · subst q3
          rw [if_pos ⟨rfl, rfl⟩, if_pos ⟨rfl, by omega⟩]
        · rw [if_neg (fun z => q3 z.2), if_neg (fun z => q3 z.1)]
