/-! ===== cells by turns ===== -/
theorem nx_or (a b : Nat) : nI a ||| nI b = nI (a ||| b) := by
  apply Int32.toBitVec_inj.1
  show BitVec.ofNat 32 a ||| BitVec.ofNat 32 b = BitVec.ofNat 32 (a ||| b)
  apply BitVec.eq_of_getLsbD_eq
  intro i hi
  simp [hi]
theorem zbitG {G c : Nat} (hG : G < 2 ^ 31) (hc : c < 31) : (zf_shr (nI G) (nI c) &&& 1 = 0) = (G.testBit c = false) := by
  unfold zf_shr
  rw [pk_shrN hG _ c (s_l c (by omega)), show (1 : Int32) = nI 1 from rfl, nx_and, Nat.and_one_is_mod, ← nI_0]
  apply propext
  rw [nI_eq (by omega) (by omega), Nat.testBit_eq_decide_div_mod_eq, decide_eq_false_iff_not]
  generalize G / 2 ^ c = z
  omega
theorem zshl1 : ∀ c, c < 16 → zf_shl 1 (nI c) = nI (2 ^ c) := by decide
theorem nI_m1 {b : Nat} (hb : b < 2 ^ 30) : (nI b - 1 < 0) = (b = 0) := by
  cases b with
  | zero => exact propext ⟨fun _ => rfl, fun _ => by decide⟩
  | succ b =>
    rw [nI_pred]
    exact propext ⟨fun z => absurd z (nI_pos (by omega)), fun z => by omega⟩
/-- the favourite of what is left: one more than the cell, 0 for none -/
def zfv (p : Nat → Nat) (G t : Nat) : Nat := zfold (fun c b => if G.testBit c = false ∧ (b = 0 ∨ p (b - 1) < p c) then c + 1 else b) t 0
theorem zfv_s (p : Nat → Nat) (G t : Nat) : zfv p G (t + 1) = if G.testBit t = false ∧ (zfv p G t = 0 ∨ p (zfv p G t - 1) < p t) then t + 1 else zfv p G t := rfl
theorem zfv_ok (p : Nat → Nat) (G : Nat) : ∀ t, zfv p G t ≤ t ∧ (0 < zfv p G t → G.testBit (zfv p G t - 1) = false) ∧ (zfv p G t = 0 → ∀ c, c < t → G.testBit c = true)
  | 0 => ⟨Nat.le_refl _, fun h => absurd h (Nat.lt_irrefl _), fun _ c hc => absurd hc (Nat.not_lt_zero _)⟩
  | t + 1 => by
    obtain ⟨h1, h2, h3⟩ := zfv_ok p G t
    rw [zfv_s]
    split
    · next q => exact ⟨Nat.le_refl _, fun _ => q.1, fun z => by omega⟩
    · next q =>
      refine ⟨by omega, h2, fun z c hc => ?_⟩
      by_cases e : c = t
      · subst e
        cases hb : G.testBit c with
        | true => rfl
        | false => exact absurd ⟨hb, Or.inl z⟩ q
      · exact h3 z c (by omega)
def zleft (G n : Nat) : Nat := nsum (fun c => if G.testBit c = false then 1 else 0) n
theorem nsum_up {f g : Nat → Nat} {c : Nat} (h : ∀ k, k ≠ c → f k = g k) (hc : f c + 1 = g c) : ∀ n, c < n → nsum f n + 1 = nsum g n
  | 0, q => absurd q (Nat.not_lt_zero _)
  | n + 1, q => by
    rw [nsum, nsum]
    by_cases e : c = n
    · subst e
      rw [nsum_cong c (fun k hk => h k (by omega))]
      omega
    · have := nsum_up h hc n (by omega)
      rw [h n (fun z => e z.symm)]
      omega
theorem zleft_or {G c n : Nat} (hb : G.testBit c = false) (hc : c < n) : zleft (G ||| 2 ^ c) n + 1 = zleft G n := by
  refine nsum_up (c := c) (fun k hk => ?_) ?_ n hc
  · rw [Nat.testBit_or, Nat.testBit_two_pow, decide_eq_false (fun z => hk z.symm), Bool.or_false]
  · rw [Nat.testBit_or, Nat.testBit_two_pow, hb, decide_eq_true rfl]
    rfl
theorem zleft_full {G : Nat} : ∀ n, (∀ c, c < n → G.testBit c = true) → zleft G n = 0
  | 0, _ => rfl
  | n + 1, h => by
    show zleft G n + (if G.testBit n = false then 1 else 0) = 0
    rw [zleft_full n (fun c hc => h c (by omega)), h n (by omega)]
    rfl
theorem zleft_0 : ∀ n, zleft 0 n = n
  | 0 => rfl
  | n + 1 => by
    show zleft 0 n + (if Nat.testBit 0 n = false then 1 else 0) = n + 1
    rw [zleft_0 n, Nat.zero_testBit]
    rfl
def zta1 (n : Nat) (wt pick : Nat → Nat → Nat) (w : Nat → Nat) (i : Nat) (s : Nat × Nat × (Nat → Nat)) : Nat × Nat × (Nat → Nat) :=
  if s.2.1 < n then (s.1 ||| 2 ^ (zfv (pick (w i)) s.1 n - 1), s.2.1 + 1, fun j => if j = w i then s.2.2 j + wt (w i) (zfv (pick (w i)) s.1 n - 1) else s.2.2 j) else s
def zta (n : Nat) (wt pick : Nat → Nat → Nat) (w : Nat → Nat) (has : Nat → Nat) (t : Nat) : Nat × Nat × (Nat → Nat) := zfold (zta1 n wt pick w) t (0, 0, has)
theorem zta_s (n : Nat) (wt pick : Nat → Nat → Nat) (w has : Nat → Nat) (t : Nat) : zta n wt pick w has (t + 1) = zta1 n wt pick w t (zta n wt pick w has t) := rfl
def ztaok (n : Nat) (s : Nat × Nat × (Nat → Nat)) : Prop := s.1 < 2 ^ n ∧ zleft s.1 n + s.2.1 = n
theorem ztaok_b {n : Nat} {s : Nat × Nat × (Nat → Nat)} (k : ztaok n s) (h : s.2.1 < n) (p : Nat → Nat) : 0 < zfv p s.1 n ∧ zfv p s.1 n ≤ n ∧ s.1.testBit (zfv p s.1 n - 1) = false := by
  obtain ⟨h1, h2, h3⟩ := zfv_ok p s.1 n
  rcases Nat.eq_zero_or_pos (zfv p s.1 n) with z | z
  · have := zleft_full n (h3 z)
    have := k.2
    omega
  · exact ⟨z, h1, h2 z⟩
theorem zta_ok (n : Nat) (wt pick : Nat → Nat → Nat) (w has : Nat → Nat) : ∀ t, ztaok n (zta n wt pick w has t)
  | 0 => ⟨Nat.pow_pos (by decide), by show zleft 0 n + 0 = n; rw [zleft_0]; rfl⟩
  | t + 1 => by
    have ih := zta_ok n wt pick w has t
    rw [zta_s]
    generalize zta n wt pick w has t = s at ih ⊢
    unfold zta1
    split
    · next q =>
      obtain ⟨b1, b2, b3⟩ := ztaok_b ih q (pick (w t))
      have hc : zfv (pick (w t)) s.1 n - 1 < n := by omega
      refine ⟨Nat.or_lt_two_pow ih.1 (Nat.pow_lt_pow_right (by decide) hc), ?_⟩
      have := zleft_or b3 hc
      have := ih.2
      show zleft (s.1 ||| 2 ^ (zfv (pick (w t)) s.1 n - 1)) n + (s.2.1 + 1) = n
      omega
    · exact ih
theorem zta_stop {n : Nat} {wt pick : Nat → Nat → Nat} {w has : Nat → Nat} {t : Nat} (h : ¬ (zta n wt pick w has t).2.1 < n) : ∀ k, zta n wt pick w has (t + k) = zta n wt pick w has t
  | 0 => rfl
  | k + 1 => by
    show zta n wt pick w has (t + k + 1) = _
    rw [zta_s, zta_stop h k]
    unfold zta1
    rw [if_neg h]
theorem zp16 {n : Nat} (h : n ≤ 16) : 2 ^ n ≤ 65536 := Nat.pow_le_pow_right (show 0 < 2 by decide) h
/-! the class -/
def sp_fill (r n : Nat) : zq_Sp := fun args h Q => ∃ v, args = [.ref r, .int v] ∧ zq_S[r]? = some (1, n, []) ∧ n < 2 ^ 30 ∧ ∀ h', (∀ i, i < n → h'.1 r i = v) → zq_fr [r] h h' → Q none h'
def I_fill (r n : Nat) (Q : zq_Q) (z : zq_H × Int32 × Nat) : zq_P := fun ls st h => match z with
  | (h0, v, t) => ls = [some (.ref r), some (.int v), some (.int (nI t)), some (.int (nI n))] ∧ st = [] ∧ (t ≤ n ∧ n < 2 ^ 30) ∧ zq_fr [r] h0 h ∧ (∀ i, i < t → h.1 r i = v) ∧ ∀ h', (∀ i, i < n → h'.1 r i = v) → zq_fr [r] h0 h' → Q none h'
theorem ok_fill (r n : Nat) : zq_M yJ7_fill_53178 cJ7_fill_53178 4 none 0 0 (sp_fill r n) := by
  refine mJ7_fill_53178 (r := r) (n := n) (fun args h Q hs => ?_) (fun z => n - z.2.2) (I_fill r n) (fun args h Q hs => ?_) (fun Q z ls st h hi => ?_)
  · obtain ⟨v, -, hr, -⟩ := hs
    exact hr
  · obtain ⟨v, rfl, hr, hn, k⟩ := hs
    refine ⟨Nat.le_of_ble_eq_true rfl, ?_⟩
    simp only [xJ7_fill_53178_20, xJ7_fill_53178_10, xJ7_fill_53178_5, xJ7_fill_53178_0, zi_push, zi_iload, zi_lload, zi_aload, zi_istore, zi_astore, zi_lstore, zi_iinc, zi_i2, zi_i1, zi_idv, zi_l2, zi_ldv, zi_lsh, zi_i2l, zi_l2i, zi_lcmp, zi_dup, zi_dup2, zi_pop, zi_if1, zi_if2, zi_getI, zi_getL, zi_getR, zi_putI, zi_putZ, zi_putL, zi_aldI, zi_aldL, zi_astI, zi_astZ, zi_astL, zi_alen, zi_iret, zi_zret, zi_lret, zi_vret, zi_callV, zi_callS, zi_sw, zi_copyI, zi_copyL, zi_m2, zi_m1, zi_sval, zi_scod, zi_fmt, zi_balen, zi_bald, zi_bret, zi_callT, zq_nth, zq_put1, zq_put2, zq_clr, zq_nl, zq_tk, zq_ps, zq_sw, zq_l0, zq_a, zq_a1, List.length_cons, List.length_nil, List.nil_append, List.cons_append, List.append_nil, List.replicate, Nat.reduceAdd, Nat.reduceSub, Nat.reduceLeDiff, true_and, and_true, List.append_eq, List.cons.injEq, Value.int.injEq, Value.long.injEq, Value.ref.injEq, exists_and_left, exists_eq_left', and_assoc, zc_b, zc_0, zc_1, zc_10, zc_01, lg_cmp_ge, lg_cmp_le, lg_cmp_gt, lg_cmp_lt, lg_cmp_eq, zw_le, zw_lt, reduceIte, true_or, or_true, zw_g0, zw_l0, zw_g1, zw_l1, zw_g2, zw_l2, zw_g3, zw_l3, zw_g5, zw_l5, zw_g6, zw_l6, zw_g7, zw_l7, zw_g9, zw_l9, zw_g10, zw_l10, zw_g15, zw_l15, zw_g16, zw_l16, zw_g48, zw_l48, zw_g50, zw_l50, zw_g57, zw_l57, zw_g97, zw_l97, zw_g100, zw_l100, zw_g200, zw_l200, zw_g999, zw_l999, zw_g9999, zw_l9999]
    exact ⟨(h, v, 0), rfl, rfl, ⟨Nat.zero_le _, hn⟩, zq_fr_rf, fun i hi => absurd hi (Nat.not_lt_zero _), k⟩
  · obtain ⟨h0, v, t⟩ := z
    obtain ⟨rfl, rfl, ⟨ht, hn⟩, hf, h1, k⟩ := hi
    simp only [xJ7_fill_53178_5, xJ7_fill_53178_10, xJ7_fill_53178_20, zl_ge ht (show n < 2 ^ 31 by omega), zi_push, zi_iload, zi_lload, zi_aload, zi_istore, zi_astore, zi_lstore, zi_iinc, zi_i2, zi_i1, zi_idv, zi_l2, zi_ldv, zi_lsh, zi_i2l, zi_l2i, zi_lcmp, zi_dup, zi_dup2, zi_pop, zi_if1, zi_if2, zi_getI, zi_getL, zi_getR, zi_putI, zi_putZ, zi_putL, zi_aldI, zi_aldL, zi_astI, zi_astZ, zi_astL, zi_alen, zi_iret, zi_zret, zi_lret, zi_vret, zi_callV, zi_callS, zi_sw, zi_copyI, zi_copyL, zi_m2, zi_m1, zi_sval, zi_scod, zi_fmt, zi_balen, zi_bald, zi_bret, zi_callT, zq_nth, zq_put1, zq_put2, zq_clr, zq_nl, zq_tk, zq_ps, zq_sw, zq_l0, zq_a, zq_a1, List.length_cons, List.length_nil, List.nil_append, List.cons_append, List.append_nil, List.replicate, Nat.reduceAdd, Nat.reduceSub, Nat.reduceLeDiff, true_and, and_true, List.append_eq, List.cons.injEq, Value.int.injEq, Value.long.injEq, Value.ref.injEq, exists_and_left, exists_eq_left', and_assoc, zc_b, zc_0, zc_1, zc_10, zc_01, lg_cmp_ge, lg_cmp_le, lg_cmp_gt, lg_cmp_lt, lg_cmp_eq, zw_le, zw_lt, reduceIte, true_or, or_true, zw_g0, zw_l0, zw_g1, zw_l1, zw_g2, zw_l2, zw_g3, zw_l3, zw_g5, zw_l5, zw_g6, zw_l6, zw_g7, zw_l7, zw_g9, zw_l9, zw_g10, zw_l10, zw_g15, zw_l15, zw_g16, zw_l16, zw_g48, zw_l48, zw_g50, zw_l50, zw_g57, zw_l57, zw_g97, zw_l97, zw_g100, zw_l100, zw_g200, zw_l200, zw_g999, zw_l999, zw_g9999, zw_l9999]
    refine ⟨fun q => ?_, fun q => ⟨vp_in_nI (by omega) (by omega), ?_⟩⟩
    · subst q
      exact k h h1 hf
    · rw [nI_1, nI_clamp (by omega)]
      refine ⟨(h0, v, t + 1), by dsimp only; omega, rfl, rfl, ⟨by omega, hn⟩, zq_fr_I hf (List.mem_singleton.mpr rfl), fun i hi => ?_, k⟩
      by_cases q2 : i = t
      · simp [zq_sI, q2]
      · simpa [zq_sI, q2] using h1 i (by omega)
def sp_startTaking : zq_Sp := fun args h Q => args = [.ref 34, .ref 9] ∧ ∀ h', (∀ i, i < 96 → h'.1 36 i = h.1 10 i) → (∀ j, j < 6 → h'.1 37 j = 0) → zq_fr [36, 37] h h' → Q none h'
theorem ok_startTaking : zq_M yX9_startTaking cX9_startTaking 2 none 0 1 sp_startTaking := by
  refine mX9_startTaking (ok_fill 37 6) (by decide) (by decide) (fun args h Q hs => ?_)
  obtain ⟨rfl, k⟩ := hs
  refine ⟨Nat.le_of_ble_eq_true rfl, ?_⟩
  simp only [xX9_startTaking_0, zi_push, zi_iload, zi_lload, zi_aload, zi_istore, zi_astore, zi_lstore, zi_iinc, zi_i2, zi_i1, zi_idv, zi_l2, zi_ldv, zi_lsh, zi_i2l, zi_l2i, zi_lcmp, zi_dup, zi_dup2, zi_pop, zi_if1, zi_if2, zi_getI, zi_getL, zi_getR, zi_putI, zi_putZ, zi_putL, zi_aldI, zi_aldL, zi_astI, zi_astZ, zi_astL, zi_alen, zi_iret, zi_zret, zi_lret, zi_vret, zi_callV, zi_callS, zi_sw, zi_copyI, zi_copyL, zi_m2, zi_m1, zi_sval, zi_scod, zi_fmt, zi_balen, zi_bald, zi_bret, zi_callT, zq_nth, zq_put1, zq_put2, zq_clr, zq_nl, zq_tk, zq_ps, zq_sw, zq_l0, zq_a, zq_a1, List.length_cons, List.length_nil, List.nil_append, List.cons_append, List.append_nil, List.replicate, Nat.reduceAdd, Nat.reduceSub, Nat.reduceLeDiff, true_and, and_true, List.append_eq, List.cons.injEq, Value.int.injEq, Value.long.injEq, Value.ref.injEq, exists_and_left, exists_eq_left', and_assoc, zc_b, zc_0, zc_1, zc_10, zc_01, lg_cmp_ge, lg_cmp_le, lg_cmp_gt, lg_cmp_lt, lg_cmp_eq, zw_le, zw_lt, reduceIte, true_or, or_true, zw_g0, zw_l0, zw_g1, zw_l1, zw_g2, zw_l2, zw_g3, zw_l3, zw_g5, zw_l5, zw_g6, zw_l6, zw_g7, zw_l7, zw_g9, zw_l9, zw_g10, zw_l10, zw_g15, zw_l15, zw_g16, zw_l16, zw_g48, zw_l48, zw_g50, zw_l50, zw_g57, zw_l57, zw_g97, zw_l97, zw_g100, zw_l100, zw_g200, zw_l200, zw_g999, zw_l999, zw_g9999, zw_l9999]
  refine ⟨by decide, by decide, by decide, by decide, by decide, 0, rfl, rfl, by decide, fun h1 e1 f1 => ?_⟩
  have f0 : zq_fr [36] h (fun q i => if q = 36 then va_cpy (h.1 10) (h.1 36) (Int32.toNatClampNeg 0) (Int32.toNatClampNeg 0) (Int32.toNatClampNeg (Int32.ofNat 96)) i else h.1 q i, h.2) := by
    intro p hp
    have q36 : ¬ p = 36 := fun z => hp (by rw [z]; decide)
    refine ⟨?_, rfl⟩
    funext i
    show (if p = 36 then _ else _) = _
    rw [if_neg q36]
  simp only [zi_push, zi_iload, zi_lload, zi_aload, zi_istore, zi_astore, zi_lstore, zi_iinc, zi_i2, zi_i1, zi_idv, zi_l2, zi_ldv, zi_lsh, zi_i2l, zi_l2i, zi_lcmp, zi_dup, zi_dup2, zi_pop, zi_if1, zi_if2, zi_getI, zi_getL, zi_getR, zi_putI, zi_putZ, zi_putL, zi_aldI, zi_aldL, zi_astI, zi_astZ, zi_astL, zi_alen, zi_iret, zi_zret, zi_lret, zi_vret, zi_callV, zi_callS, zi_sw, zi_copyI, zi_copyL, zi_m2, zi_m1, zi_sval, zi_scod, zi_fmt, zi_balen, zi_bald, zi_bret, zi_callT, zq_nth, zq_put1, zq_put2, zq_clr, zq_nl, zq_tk, zq_ps, zq_sw, zq_l0, zq_a, zq_a1, List.length_cons, List.length_nil, List.nil_append, List.cons_append, List.append_nil, List.replicate, Nat.reduceAdd, Nat.reduceSub, Nat.reduceLeDiff, true_and, and_true, List.append_eq, List.cons.injEq, Value.int.injEq, Value.long.injEq, Value.ref.injEq, exists_and_left, exists_eq_left', and_assoc, zc_b, zc_0, zc_1, zc_10, zc_01, lg_cmp_ge, lg_cmp_le, lg_cmp_gt, lg_cmp_lt, lg_cmp_eq, zw_le, zw_lt, reduceIte, true_or, or_true, zw_g0, zw_l0, zw_g1, zw_l1, zw_g2, zw_l2, zw_g3, zw_l3, zw_g5, zw_l5, zw_g6, zw_l6, zw_g7, zw_l7, zw_g9, zw_l9, zw_g10, zw_l10, zw_g15, zw_l15, zw_g16, zw_l16, zw_g48, zw_l48, zw_g50, zw_l50, zw_g57, zw_l57, zw_g97, zw_l97, zw_g100, zw_l100, zw_g200, zw_l200, zw_g999, zw_l999, zw_g9999, zw_l9999]
  refine k h1 (fun i hi => ?_) e1 (zq_fr_t (zq_fr_w f0 (by decide)) f1 (by decide))
  rw [(f1 36 (by decide)).1]
  show va_cpy (h.1 10) (h.1 36) 0 0 96 i = _
  unfold va_cpy
  first | (rw [if_pos (by omega)]; congr 1; omega) | (simp; omega) | grind
def sp_favourite : zq_Sp := fun args h Q => ∃ j G n p, args = [.ref 34, .int (nI j), .int (nI G), .int (nI n)] ∧ j < 6 ∧ G < 65536 ∧ n ≤ 16 ∧ (∀ c, c < n → h.1 36 (16 * j + c) = nI (p c) ∧ p c ≤ 999) ∧ Q (some (.int (nI (zfv p G n) - 1))) h
def I_fav (Q : zq_Q) (z : zq_H × Nat × Nat × Nat × (Nat → Nat) × Nat) : zq_P := fun ls st h => match z with
  | (h0, j, G, n, p, c) => ls = [some (.ref 34), some (.int (nI j)), some (.int (nI G)), some (.int (nI n)), some (.int (nI (zfv p G c) - 1)), some (.int (nI c))] ∧ st = [] ∧ h = h0 ∧ (j < 6 ∧ G < 65536 ∧ n ≤ 16 ∧ c ≤ n) ∧ (∀ c, c < n → h.1 36 (16 * j + c) = nI (p c) ∧ p c ≤ 999) ∧ Q (some (.int (nI (zfv p G n) - 1))) h0
theorem ok_favourite : zq_M yX9_favourite cX9_favourite 6 (some .int) 1 0 sp_favourite := by
  refine mX9_favourite (fun z => z.2.2.2.1 - z.2.2.2.2.2) I_fav (fun args h Q hs => ?_) (fun Q z ls st h hi => ?_)
  · obtain ⟨j, G, n, p, rfl, hj, hG, hn, hp, k⟩ := hs
    refine ⟨Nat.le_of_ble_eq_true rfl, ?_⟩
    simp only [xX9_favourite_63, xX9_favourite_57, xX9_favourite_53, xX9_favourite_26, xX9_favourite_21, xX9_favourite_12, xX9_favourite_6, xX9_favourite_0, zi_push, zi_iload, zi_lload, zi_aload, zi_istore, zi_astore, zi_lstore, zi_iinc, zi_i2, zi_i1, zi_idv, zi_l2, zi_ldv, zi_lsh, zi_i2l, zi_l2i, zi_lcmp, zi_dup, zi_dup2, zi_pop, zi_if1, zi_if2, zi_getI, zi_getL, zi_getR, zi_putI, zi_putZ, zi_putL, zi_aldI, zi_aldL, zi_astI, zi_astZ, zi_astL, zi_alen, zi_iret, zi_zret, zi_lret, zi_vret, zi_callV, zi_callS, zi_sw, zi_copyI, zi_copyL, zi_m2, zi_m1, zi_sval, zi_scod, zi_fmt, zi_balen, zi_bald, zi_bret, zi_callT, zq_nth, zq_put1, zq_put2, zq_clr, zq_nl, zq_tk, zq_ps, zq_sw, zq_l0, zq_a, zq_a1, List.length_cons, List.length_nil, List.nil_append, List.cons_append, List.append_nil, List.replicate, Nat.reduceAdd, Nat.reduceSub, Nat.reduceLeDiff, true_and, and_true, List.append_eq, List.cons.injEq, Value.int.injEq, Value.long.injEq, Value.ref.injEq, exists_and_left, exists_eq_left', and_assoc, zc_b, zc_0, zc_1, zc_10, zc_01, lg_cmp_ge, lg_cmp_le, lg_cmp_gt, lg_cmp_lt, lg_cmp_eq, zw_le, zw_lt, reduceIte, true_or, or_true, zw_g0, zw_l0, zw_g1, zw_l1, zw_g2, zw_l2, zw_g3, zw_l3, zw_g5, zw_l5, zw_g6, zw_l6, zw_g7, zw_l7, zw_g9, zw_l9, zw_g10, zw_l10, zw_g15, zw_l15, zw_g16, zw_l16, zw_g48, zw_l48, zw_g50, zw_l50, zw_g57, zw_l57, zw_g97, zw_l97, zw_g100, zw_l100, zw_g200, zw_l200, zw_g999, zw_l999, zw_g9999, zw_l9999]
    exact ⟨(h, j, G, n, p, 0), rfl, rfl, rfl, ⟨hj, hG, hn, Nat.zero_le _⟩, hp, k⟩
  · obtain ⟨h0, j, G, n, p, c⟩ := z
    obtain ⟨rfl, rfl, rfl, ⟨hj, hG, hn, hc⟩, hp, k⟩ := hi
    have hb := (zfv_ok p G c).1
    have es := zfv_s p G c
    simp only [xX9_favourite_6, xX9_favourite_12, xX9_favourite_63, zl_ge hc (show n < 2 ^ 31 by omega), zi_push, zi_iload, zi_lload, zi_aload, zi_istore, zi_astore, zi_lstore, zi_iinc, zi_i2, zi_i1, zi_idv, zi_l2, zi_ldv, zi_lsh, zi_i2l, zi_l2i, zi_lcmp, zi_dup, zi_dup2, zi_pop, zi_if1, zi_if2, zi_getI, zi_getL, zi_getR, zi_putI, zi_putZ, zi_putL, zi_aldI, zi_aldL, zi_astI, zi_astZ, zi_astL, zi_alen, zi_iret, zi_zret, zi_lret, zi_vret, zi_callV, zi_callS, zi_sw, zi_copyI, zi_copyL, zi_m2, zi_m1, zi_sval, zi_scod, zi_fmt, zi_balen, zi_bald, zi_bret, zi_callT, zq_nth, zq_put1, zq_put2, zq_clr, zq_nl, zq_tk, zq_ps, zq_sw, zq_l0, zq_a, zq_a1, List.length_cons, List.length_nil, List.nil_append, List.cons_append, List.append_nil, List.replicate, Nat.reduceAdd, Nat.reduceSub, Nat.reduceLeDiff, true_and, and_true, List.append_eq, List.cons.injEq, Value.int.injEq, Value.long.injEq, Value.ref.injEq, exists_and_left, exists_eq_left', and_assoc, zc_b, zc_0, zc_1, zc_10, zc_01, lg_cmp_ge, lg_cmp_le, lg_cmp_gt, lg_cmp_lt, lg_cmp_eq, zw_le, zw_lt, reduceIte, true_or, or_true, zw_g0, zw_l0, zw_g1, zw_l1, zw_g2, zw_l2, zw_g3, zw_l3, zw_g5, zw_l5, zw_g6, zw_l6, zw_g7, zw_l7, zw_g9, zw_l9, zw_g10, zw_l10, zw_g15, zw_l15, zw_g16, zw_l16, zw_g48, zw_l48, zw_g50, zw_l50, zw_g57, zw_l57, zw_g97, zw_l97, zw_g100, zw_l100, zw_g200, zw_l200, zw_g999, zw_l999, zw_g9999, zw_l9999]
    refine ⟨fun q => ?_, fun q => ?_⟩
    · subst q
      exact k
    · rw [zbitG (by omega) (by omega)]
      have fin : ∀ b, b = zfv p G (c + 1) → ∃ b9 : zq_H × Nat × Nat × Nat × (Nat → Nat) × Nat, b9.2.2.2.1 - b9.2.2.2.2.2 < n - c ∧ I_fav Q b9 [some (.ref 34), some (.int (nI j)), some (.int (nI G)), some (.int (nI n)), some (.int (nI b - 1)), some (.int (nI (c + 1)))] [] h := by
        intro b e
        subst e
        exact ⟨(h, j, G, n, p, c + 1), by dsimp only; omega, rfl, rfl, rfl, ⟨hj, hG, hn, by omega⟩, hp, k⟩
      rw [es] at fin
      have ec : nI c = nI (c + 1) - 1 := (nI_pred c).symm
      simp only [xX9_favourite_21, xX9_favourite_57, nI_m1 (show zfv p G c < 2 ^ 30 by omega), nI_1, zi_push, zi_iload, zi_lload, zi_aload, zi_istore, zi_astore, zi_lstore, zi_iinc, zi_i2, zi_i1, zi_idv, zi_l2, zi_ldv, zi_lsh, zi_i2l, zi_l2i, zi_lcmp, zi_dup, zi_dup2, zi_pop, zi_if1, zi_if2, zi_getI, zi_getL, zi_getR, zi_putI, zi_putZ, zi_putL, zi_aldI, zi_aldL, zi_astI, zi_astZ, zi_astL, zi_alen, zi_iret, zi_zret, zi_lret, zi_vret, zi_callV, zi_callS, zi_sw, zi_copyI, zi_copyL, zi_m2, zi_m1, zi_sval, zi_scod, zi_fmt, zi_balen, zi_bald, zi_bret, zi_callT, zq_nth, zq_put1, zq_put2, zq_clr, zq_nl, zq_tk, zq_ps, zq_sw, zq_l0, zq_a, zq_a1, List.length_cons, List.length_nil, List.nil_append, List.cons_append, List.append_nil, List.replicate, Nat.reduceAdd, Nat.reduceSub, Nat.reduceLeDiff, true_and, and_true, List.append_eq, List.cons.injEq, Value.int.injEq, Value.long.injEq, Value.ref.injEq, exists_and_left, exists_eq_left', and_assoc, zc_b, zc_0, zc_1, zc_10, zc_01, lg_cmp_ge, lg_cmp_le, lg_cmp_gt, lg_cmp_lt, lg_cmp_eq, zw_le, zw_lt, reduceIte, true_or, or_true, zw_g0, zw_l0, zw_g1, zw_l1, zw_g2, zw_l2, zw_g3, zw_l3, zw_g5, zw_l5, zw_g6, zw_l6, zw_g7, zw_l7, zw_g9, zw_l9, zw_g10, zw_l10, zw_g15, zw_l15, zw_g16, zw_l16, zw_g48, zw_l48, zw_g50, zw_l50, zw_g57, zw_l57, zw_g97, zw_l97, zw_g100, zw_l100, zw_g200, zw_l200, zw_g999, zw_l999, zw_g9999, zw_l9999]
      refine ⟨fun q2 => ⟨fun q3 => ?_, fun q3 => ?_⟩, fun q2 => ?_⟩
      · rw [if_pos ⟨q2, Or.inl q3⟩] at fin
        have f9 := fin _ rfl
        rw [← ec] at f9
        simp only [xX9_favourite_53, xX9_favourite_57, nI_1, zi_push, zi_iload, zi_lload, zi_aload, zi_istore, zi_astore, zi_lstore, zi_iinc, zi_i2, zi_i1, zi_idv, zi_l2, zi_ldv, zi_lsh, zi_i2l, zi_l2i, zi_lcmp, zi_dup, zi_dup2, zi_pop, zi_if1, zi_if2, zi_getI, zi_getL, zi_getR, zi_putI, zi_putZ, zi_putL, zi_aldI, zi_aldL, zi_astI, zi_astZ, zi_astL, zi_alen, zi_iret, zi_zret, zi_lret, zi_vret, zi_callV, zi_callS, zi_sw, zi_copyI, zi_copyL, zi_m2, zi_m1, zi_sval, zi_scod, zi_fmt, zi_balen, zi_bald, zi_bret, zi_callT, zq_nth, zq_put1, zq_put2, zq_clr, zq_nl, zq_tk, zq_ps, zq_sw, zq_l0, zq_a, zq_a1, List.length_cons, List.length_nil, List.nil_append, List.cons_append, List.append_nil, List.replicate, Nat.reduceAdd, Nat.reduceSub, Nat.reduceLeDiff, true_and, and_true, List.append_eq, List.cons.injEq, Value.int.injEq, Value.long.injEq, Value.ref.injEq, exists_and_left, exists_eq_left', and_assoc, zc_b, zc_0, zc_1, zc_10, zc_01, lg_cmp_ge, lg_cmp_le, lg_cmp_gt, lg_cmp_lt, lg_cmp_eq, zw_le, zw_lt, reduceIte, true_or, or_true, zw_g0, zw_l0, zw_g1, zw_l1, zw_g2, zw_l2, zw_g3, zw_l3, zw_g5, zw_l5, zw_g6, zw_l6, zw_g7, zw_l7, zw_g9, zw_l9, zw_g10, zw_l10, zw_g15, zw_l15, zw_g16, zw_l16, zw_g48, zw_l48, zw_g50, zw_l50, zw_g57, zw_l57, zw_g97, zw_l97, zw_g100, zw_l100, zw_g200, zw_l200, zw_g999, zw_l999, zw_g9999, zw_l9999]
        exact f9
      · rw [show nI (zfv p G c) - 1 = nI (zfv p G c - 1) from zsub1' (by omega)]
        have p1 := hp c (by omega)
        have p2 := hp (zfv p G c - 1) (by omega)
        simp only [xX9_favourite_26, xX9_favourite_53, xX9_favourite_57, z16a, nI_clamp (show 16 * j + c < 2 ^ 31 by omega), nI_clamp (show 16 * j + (zfv p G c - 1) < 2 ^ 31 by omega), p1.1, p2.1, nI_1, nI_leP (show p c < 2 ^ 31 by omega) (show p (zfv p G c - 1) < 2 ^ 31 by omega), zi_push, zi_iload, zi_lload, zi_aload, zi_istore, zi_astore, zi_lstore, zi_iinc, zi_i2, zi_i1, zi_idv, zi_l2, zi_ldv, zi_lsh, zi_i2l, zi_l2i, zi_lcmp, zi_dup, zi_dup2, zi_pop, zi_if1, zi_if2, zi_getI, zi_getL, zi_getR, zi_putI, zi_putZ, zi_putL, zi_aldI, zi_aldL, zi_astI, zi_astZ, zi_astL, zi_alen, zi_iret, zi_zret, zi_lret, zi_vret, zi_callV, zi_callS, zi_sw, zi_copyI, zi_copyL, zi_m2, zi_m1, zi_sval, zi_scod, zi_fmt, zi_balen, zi_bald, zi_bret, zi_callT, zq_nth, zq_put1, zq_put2, zq_clr, zq_nl, zq_tk, zq_ps, zq_sw, zq_l0, zq_a, zq_a1, List.length_cons, List.length_nil, List.nil_append, List.cons_append, List.append_nil, List.replicate, Nat.reduceAdd, Nat.reduceSub, Nat.reduceLeDiff, true_and, and_true, List.append_eq, List.cons.injEq, Value.int.injEq, Value.long.injEq, Value.ref.injEq, exists_and_left, exists_eq_left', and_assoc, zc_b, zc_0, zc_1, zc_10, zc_01, lg_cmp_ge, lg_cmp_le, lg_cmp_gt, lg_cmp_lt, lg_cmp_eq, zw_le, zw_lt, reduceIte, true_or, or_true, zw_g0, zw_l0, zw_g1, zw_l1, zw_g2, zw_l2, zw_g3, zw_l3, zw_g5, zw_l5, zw_g6, zw_l6, zw_g7, zw_l7, zw_g9, zw_l9, zw_g10, zw_l10, zw_g15, zw_l15, zw_g16, zw_l16, zw_g48, zw_l48, zw_g50, zw_l50, zw_g57, zw_l57, zw_g97, zw_l97, zw_g100, zw_l100, zw_g200, zw_l200, zw_g999, zw_l999, zw_g9999, zw_l9999]
        refine ⟨vp_in_nI (by omega) (by decide), vp_in_nI (by omega) (by decide), fun q4 => ?_, fun q4 => ?_⟩
        · rw [if_neg (fun z => z.2.elim q3 (fun y => by omega))] at fin
          have f9 := fin _ rfl
          rw [show nI (zfv p G c) - 1 = nI (zfv p G c - 1) from zsub1' (by omega)] at f9
          exact f9
        · rw [if_pos ⟨q2, Or.inr (by omega)⟩] at fin
          have f9 := fin _ rfl
          rw [← ec] at f9
          exact f9
      · rw [if_neg (fun z => q2 z.1)] at fin
        exact fin _ rfl
def XU (g m : Nat) (w : Nat → Nat) (h : zq_H) : Prop := h.1 34 3 = nI m ∧ m ≤ 16 ∧ ∀ i, i < m → h.1 35 i = nI (w i) ∧ w i < g
def XQ (g n : Nat) (pick : Nat → Nat → Nat) (h : zq_H) : Prop := ∀ j c, j < g → c < n → h.1 36 (16 * j + c) = nI (pick j c) ∧ pick j c ≤ 999
def XH (has : Nat → Nat) (h : zq_H) : Prop := ∀ j, j < 6 → h.1 37 j = nI (has j)
def vT (V : zV) (pick : Nat → Nat → Nat) (w has : Nat → Nat) (m : Nat) : Nat × Nat × (Nat → Nat) := zta (vn V) (vwN V) pick w has m
def sp_takeAll (V : zV) : zq_Sp := fun args h Q => ∃ m w pick has, args = [.ref 34, .ref 9] ∧ XC V h ∧ XU (vg V) m w h ∧ XQ (vg V) (vn V) pick h ∧ XH has h ∧ ∀ h', XH (vT V pick w has m).2.2 h' → zq_fr [37] h h' → Q (some (.int (nI (vT V pick w has m).2.1))) h'
def I_takeAll (V : zV) (Q : zq_Q) (z : zq_H × Nat × (Nat → Nat) × (Nat → Nat → Nat) × (Nat → Nat) × Nat) : zq_P := fun ls st h => match z with
  | (h0, m, w, pick, has, t) => ∃ s5 s6, ls = [some (.ref 34), some (.ref 9), some (.int (nI (vT V pick w has t).1)), some (.int (nI (vT V pick w has t).2.1)), some (.int (nI t)), s5, s6] ∧ st = [] ∧ t ≤ m ∧ zq_fr [37] h0 h ∧ XC V h0 ∧ XU (vg V) m w h0 ∧ XQ (vg V) (vn V) pick h0 ∧ XH (vT V pick w has t).2.2 h ∧ ∀ h', XH (vT V pick w has m).2.2 h' → zq_fr [37] h0 h' → Q (some (.int (nI (vT V pick w has m).2.1))) h'
theorem ok_takeAll (V : zV) : zq_M yX9_takeAll cX9_takeAll 7 (some .int) 1 1 (sp_takeAll V) := by
  refine mX9_takeAll ok_favourite (by decide) (ok_ofV V) (by decide) (fun z => z.2.1 - z.2.2.2.2.2) (I_takeAll V) (fun args h Q hs => ?_) (fun Q z ls st h hi => ?_)
  · obtain ⟨m, w, pick, has, rfl, hX, hU, hQ, hH, k⟩ := hs
    refine ⟨Nat.le_of_ble_eq_true rfl, ?_⟩
    simp only [xX9_takeAll_85, xX9_takeAll_79, xX9_takeAll_51, xX9_takeAll_24, xX9_takeAll_16, xX9_takeAll_7, xX9_takeAll_0, zi_push, zi_iload, zi_lload, zi_aload, zi_istore, zi_astore, zi_lstore, zi_iinc, zi_i2, zi_i1, zi_idv, zi_l2, zi_ldv, zi_lsh, zi_i2l, zi_l2i, zi_lcmp, zi_dup, zi_dup2, zi_pop, zi_if1, zi_if2, zi_getI, zi_getL, zi_getR, zi_putI, zi_putZ, zi_putL, zi_aldI, zi_aldL, zi_astI, zi_astZ, zi_astL, zi_alen, zi_iret, zi_zret, zi_lret, zi_vret, zi_callV, zi_callS, zi_sw, zi_copyI, zi_copyL, zi_m2, zi_m1, zi_sval, zi_scod, zi_fmt, zi_balen, zi_bald, zi_bret, zi_callT, zq_nth, zq_put1, zq_put2, zq_clr, zq_nl, zq_tk, zq_ps, zq_sw, zq_l0, zq_a, zq_a1, List.length_cons, List.length_nil, List.nil_append, List.cons_append, List.append_nil, List.replicate, Nat.reduceAdd, Nat.reduceSub, Nat.reduceLeDiff, true_and, and_true, List.append_eq, List.cons.injEq, Value.int.injEq, Value.long.injEq, Value.ref.injEq, exists_and_left, exists_eq_left', and_assoc, zc_b, zc_0, zc_1, zc_10, zc_01, lg_cmp_ge, lg_cmp_le, lg_cmp_gt, lg_cmp_lt, lg_cmp_eq, zw_le, zw_lt, reduceIte, true_or, or_true, zw_g0, zw_l0, zw_g1, zw_l1, zw_g2, zw_l2, zw_g3, zw_l3, zw_g5, zw_l5, zw_g6, zw_l6, zw_g7, zw_l7, zw_g9, zw_l9, zw_g10, zw_l10, zw_g15, zw_l15, zw_g16, zw_l16, zw_g48, zw_l48, zw_g50, zw_l50, zw_g57, zw_l57, zw_g97, zw_l97, zw_g100, zw_l100, zw_g200, zw_l200, zw_g999, zw_l999, zw_g9999, zw_l9999]
    exact ⟨(h, m, w, pick, has, 0), none, none, rfl, rfl, Nat.zero_le _, zq_fr_rf, hX, hU, hQ, hH, k⟩
  · obtain ⟨h0, m, w, pick, has, t⟩ := z
    obtain ⟨s5, s6, rfl, rfl, ht, hf, hX, hU, hQ, hH, k⟩ := hi
    have hX1 := XC_fr hX hf (by decide)
    have hn := hX1.1.1
    have hg := hX1.2.1.1
    have ho := zta_ok (vn V) (vwN V) pick w has t
    have h16 := zp16 hn
    have hm := hU.2.1
    have e34 : h.1 34 3 = nI m := by rw [(hf 34 (by decide)).1]; exact hU.1
    have e9 : h.1 9 2 = nI (vn V) := hX1.2.2.2.2.2.1.1.1
    have ho2 : zleft (vT V pick w has t).1 (vn V) + (vT V pick w has t).2.1 = vn V := ho.2
    have ho1 : (vT V pick w has t).1 < 2 ^ vn V := ho.1
    have em : (nI (vn V) ≤ nI (vT V pick w has t).2.1) = (¬ (vT V pick w has t).2.1 < vn V) := by
      rw [nI_leP (by omega) (by omega)]
      exact propext ⟨fun z => by omega, fun z => by omega⟩
    simp only [xX9_takeAll_7, xX9_takeAll_16, xX9_takeAll_24, xX9_takeAll_85, e34, e9, zl_ge ht (show m < 2 ^ 31 by omega), em, nI_clamp (show t < 2 ^ 31 by omega), zi_push, zi_iload, zi_lload, zi_aload, zi_istore, zi_astore, zi_lstore, zi_iinc, zi_i2, zi_i1, zi_idv, zi_l2, zi_ldv, zi_lsh, zi_i2l, zi_l2i, zi_lcmp, zi_dup, zi_dup2, zi_pop, zi_if1, zi_if2, zi_getI, zi_getL, zi_getR, zi_putI, zi_putZ, zi_putL, zi_aldI, zi_aldL, zi_astI, zi_astZ, zi_astL, zi_alen, zi_iret, zi_zret, zi_lret, zi_vret, zi_callV, zi_callS, zi_sw, zi_copyI, zi_copyL, zi_m2, zi_m1, zi_sval, zi_scod, zi_fmt, zi_balen, zi_bald, zi_bret, zi_callT, zq_nth, zq_put1, zq_put2, zq_clr, zq_nl, zq_tk, zq_ps, zq_sw, zq_l0, zq_a, zq_a1, List.length_cons, List.length_nil, List.nil_append, List.cons_append, List.append_nil, List.replicate, Nat.reduceAdd, Nat.reduceSub, Nat.reduceLeDiff, true_and, and_true, List.append_eq, List.cons.injEq, Value.int.injEq, Value.long.injEq, Value.ref.injEq, exists_and_left, exists_eq_left', and_assoc, zc_b, zc_0, zc_1, zc_10, zc_01, lg_cmp_ge, lg_cmp_le, lg_cmp_gt, lg_cmp_lt, lg_cmp_eq, zw_le, zw_lt, reduceIte, true_or, or_true, zw_g0, zw_l0, zw_g1, zw_l1, zw_g2, zw_l2, zw_g3, zw_l3, zw_g5, zw_l5, zw_g6, zw_l6, zw_g7, zw_l7, zw_g9, zw_l9, zw_g10, zw_l10, zw_g15, zw_l15, zw_g16, zw_l16, zw_g48, zw_l48, zw_g50, zw_l50, zw_g57, zw_l57, zw_g97, zw_l97, zw_g100, zw_l100, zw_g200, zw_l200, zw_g999, zw_l999, zw_g9999, zw_l9999]
    refine ⟨fun q => ?_, fun q => ⟨fun q2 => ?_, fun q2 => ⟨vp_in_nI (by omega) (by decide), ?_⟩⟩⟩
    · subst q
      exact k h hH hf
    · have es := zta_stop (n := vn V) (wt := vwN V) (pick := pick) (w := w) (has := has) (t := t) q2 (m - t)
      rw [show t + (m - t) = m by omega] at es
      have es2 : vT V pick w has m = vT V pick w has t := es
      rw [es2] at k
      exact k h hH hf
    · have q3 : (vT V pick w has t).2.1 < vn V := Classical.not_not.mp q2
      have hw := hU.2.2 t (by omega)
      have hb := ztaok_b ho q3 (pick (w t))
      rw [(hf 35 (by decide)).1, hw.1]
      have hj := hw.2
      refine ⟨w t, (vT V pick w has t).1, vn V, pick (w t), rfl, by omega, by omega, hn, fun c hc => ?_, ?_⟩
      · rw [(hf 36 (by decide)).1]
        exact hQ (w t) c hw.2 hc
      have es : vT V pick w has (t + 1) = ((vT V pick w has t).1 ||| 2 ^ (zfv (pick (w t)) (vT V pick w has t).1 (vn V) - 1), (vT V pick w has t).2.1 + 1, fun j => if j = w t then (vT V pick w has t).2.2 j + vwN V (w t) (zfv (pick (w t)) (vT V pick w has t).1 (vn V) - 1) else (vT V pick w has t).2.2 j) := by
        show zta1 _ _ _ _ _ _ = _
        unfold zta1
        exact if_pos q3
      have hb' : 0 < zfv (pick (w t)) (vT V pick w has t).1 (vn V) ∧ zfv (pick (w t)) (vT V pick w has t).1 (vn V) ≤ vn V := ⟨hb.1, hb.2.1⟩
      have fin := fun (h' : zq_H) (s5 s6 : Option Value) (e : XH (vT V pick w has (t + 1)).2.2 h') (f : zq_fr [37] h0 h') => (⟨(h0, m, w, pick, has, t + 1), by dsimp only; omega, s5, s6, rfl, rfl, by omega, f, hX, hU, hQ, e, k⟩ : ∃ b9 : zq_H × Nat × (Nat → Nat) × (Nat → Nat → Nat) × (Nat → Nat) × Nat, b9.2.1 - b9.2.2.2.2.2 < m - t ∧ I_takeAll V Q b9 [some (.ref 34), some (.ref 9), some (.int (nI (vT V pick w has (t + 1)).1)), some (.int (nI (vT V pick w has (t + 1)).2.1)), some (.int (nI (t + 1))), s5, s6] [] h')
      rw [es] at fin
      generalize zfv (pick (w t)) (vT V pick w has t).1 (vn V) = b at hb' fin ⊢
      simp only [nI_m1 (show b < 2 ^ 30 by omega), zi_push, zi_iload, zi_lload, zi_aload, zi_istore, zi_astore, zi_lstore, zi_iinc, zi_i2, zi_i1, zi_idv, zi_l2, zi_ldv, zi_lsh, zi_i2l, zi_l2i, zi_lcmp, zi_dup, zi_dup2, zi_pop, zi_if1, zi_if2, zi_getI, zi_getL, zi_getR, zi_putI, zi_putZ, zi_putL, zi_aldI, zi_aldL, zi_astI, zi_astZ, zi_astL, zi_alen, zi_iret, zi_zret, zi_lret, zi_vret, zi_callV, zi_callS, zi_sw, zi_copyI, zi_copyL, zi_m2, zi_m1, zi_sval, zi_scod, zi_fmt, zi_balen, zi_bald, zi_bret, zi_callT, zq_nth, zq_put1, zq_put2, zq_clr, zq_nl, zq_tk, zq_ps, zq_sw, zq_l0, zq_a, zq_a1, List.length_cons, List.length_nil, List.nil_append, List.cons_append, List.append_nil, List.replicate, Nat.reduceAdd, Nat.reduceSub, Nat.reduceLeDiff, true_and, and_true, List.append_eq, List.cons.injEq, Value.int.injEq, Value.long.injEq, Value.ref.injEq, exists_and_left, exists_eq_left', and_assoc, zc_b, zc_0, zc_1, zc_10, zc_01, lg_cmp_ge, lg_cmp_le, lg_cmp_gt, lg_cmp_lt, lg_cmp_eq, zw_le, zw_lt, reduceIte, true_or, or_true, zw_g0, zw_l0, zw_g1, zw_l1, zw_g2, zw_l2, zw_g3, zw_l3, zw_g5, zw_l5, zw_g6, zw_l6, zw_g7, zw_l7, zw_g9, zw_l9, zw_g10, zw_l10, zw_g15, zw_l15, zw_g16, zw_l16, zw_g48, zw_l48, zw_g50, zw_l50, zw_g57, zw_l57, zw_g97, zw_l97, zw_g100, zw_l100, zw_g200, zw_l200, zw_g999, zw_l999, zw_g9999, zw_l9999]
      refine ⟨fun q4 => absurd q4 (by omega), fun _ => ?_⟩
      rw [show nI b - 1 = nI (b - 1) from zsub1' (by omega)]
      simp only [xX9_takeAll_51, xX9_takeAll_79, zshl1 (b - 1) (by omega), nx_or, nI_clamp (show w t < 2 ^ 31 by omega), zi_push, zi_iload, zi_lload, zi_aload, zi_istore, zi_astore, zi_lstore, zi_iinc, zi_i2, zi_i1, zi_idv, zi_l2, zi_ldv, zi_lsh, zi_i2l, zi_l2i, zi_lcmp, zi_dup, zi_dup2, zi_pop, zi_if1, zi_if2, zi_getI, zi_getL, zi_getR, zi_putI, zi_putZ, zi_putL, zi_aldI, zi_aldL, zi_astI, zi_astZ, zi_astL, zi_alen, zi_iret, zi_zret, zi_lret, zi_vret, zi_callV, zi_callS, zi_sw, zi_copyI, zi_copyL, zi_m2, zi_m1, zi_sval, zi_scod, zi_fmt, zi_balen, zi_bald, zi_bret, zi_callT, zq_nth, zq_put1, zq_put2, zq_clr, zq_nl, zq_tk, zq_ps, zq_sw, zq_l0, zq_a, zq_a1, List.length_cons, List.length_nil, List.nil_append, List.cons_append, List.append_nil, List.replicate, Nat.reduceAdd, Nat.reduceSub, Nat.reduceLeDiff, true_and, and_true, List.append_eq, List.cons.injEq, Value.int.injEq, Value.long.injEq, Value.ref.injEq, exists_and_left, exists_eq_left', and_assoc, zc_b, zc_0, zc_1, zc_10, zc_01, lg_cmp_ge, lg_cmp_le, lg_cmp_gt, lg_cmp_lt, lg_cmp_eq, zw_le, zw_lt, reduceIte, true_or, or_true, zw_g0, zw_l0, zw_g1, zw_l1, zw_g2, zw_l2, zw_g3, zw_l3, zw_g5, zw_l5, zw_g6, zw_l6, zw_g7, zw_l7, zw_g9, zw_l9, zw_g10, zw_l10, zw_g15, zw_l15, zw_g16, zw_l16, zw_g48, zw_l48, zw_g50, zw_l50, zw_g57, zw_l57, zw_g97, zw_l97, zw_g100, zw_l100, zw_g200, zw_l200, zw_g999, zw_l999, zw_g9999, zw_l9999]
      refine ⟨vp_in_nI (by omega) (by decide), w t, b - 1, rfl, hw.2, by omega, hX1, ?_⟩
      simp only [zi_push, zi_iload, zi_lload, zi_aload, zi_istore, zi_astore, zi_lstore, zi_iinc, zi_i2, zi_i1, zi_idv, zi_l2, zi_ldv, zi_lsh, zi_i2l, zi_l2i, zi_lcmp, zi_dup, zi_dup2, zi_pop, zi_if1, zi_if2, zi_getI, zi_getL, zi_getR, zi_putI, zi_putZ, zi_putL, zi_aldI, zi_aldL, zi_astI, zi_astZ, zi_astL, zi_alen, zi_iret, zi_zret, zi_lret, zi_vret, zi_callV, zi_callS, zi_sw, zi_copyI, zi_copyL, zi_m2, zi_m1, zi_sval, zi_scod, zi_fmt, zi_balen, zi_bald, zi_bret, zi_callT, zq_nth, zq_put1, zq_put2, zq_clr, zq_nl, zq_tk, zq_ps, zq_sw, zq_l0, zq_a, zq_a1, List.length_cons, List.length_nil, List.nil_append, List.cons_append, List.append_nil, List.replicate, Nat.reduceAdd, Nat.reduceSub, Nat.reduceLeDiff, true_and, and_true, List.append_eq, List.cons.injEq, Value.int.injEq, Value.long.injEq, Value.ref.injEq, exists_and_left, exists_eq_left', and_assoc, zc_b, zc_0, zc_1, zc_10, zc_01, lg_cmp_ge, lg_cmp_le, lg_cmp_gt, lg_cmp_lt, lg_cmp_eq, zw_le, zw_lt, reduceIte, true_or, or_true, zw_g0, zw_l0, zw_g1, zw_l1, zw_g2, zw_l2, zw_g3, zw_l3, zw_g5, zw_l5, zw_g6, zw_l6, zw_g7, zw_l7, zw_g9, zw_l9, zw_g10, zw_l10, zw_g15, zw_l15, zw_g16, zw_l16, zw_g48, zw_l48, zw_g50, zw_l50, zw_g57, zw_l57, zw_g97, zw_l97, zw_g100, zw_l100, zw_g200, zw_l200, zw_g999, zw_l999, zw_g9999, zw_l9999]
      refine ⟨vp_in_nI (by omega) (by decide), ?_⟩
      rw [hH (w t) (by omega), nI_add, nI_1, nI_1]
      refine fin _ _ _ (fun j hj6 => ?_) (zq_fr_I hf (by decide))
      dsimp only
      have cw : (nI (w t)).toNatClampNeg = w t := nI_clamp (by omega)
      by_cases q5 : j = w t
      · simp [zq_sI, q5, cw]
      · simpa [zq_sI, q5, cw] using hH j hj6
