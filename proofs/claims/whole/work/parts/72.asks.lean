/-! ===== what guest j would think of a cell, with tastes p ===== -/
def zwq (V : zV) (j p c : Nat) : Nat := (zval (zas9 (vn V) (vcr V) (vra V) (vcu V) (nI (p / 100)) (nI (p / 10 % 10)) (nI (p % 10)) (nI j) c) (vcd V) (vL V)).toNatClampNeg
theorem zwq_eq (V : zV) (j p c : Nat) : zval (zas9 (vn V) (vcr V) (vra V) (vcu V) (nI (p / 100)) (nI (p / 10 % 10)) (nI (p % 10)) (nI j) c) (vcd V) (vL V) = nI (zwq V j p c) ∧ zwq V j p c ≤ 999 := by
  obtain ⟨h1, h2⟩ := zval_rng (zas9 (vn V) (vcr V) (vra V) (vcu V) (nI (p / 100)) (nI (p / 10 % 10)) (nI (p % 10)) (nI j) c) (vcd V) (vL V)
  unfold zwq
  generalize zval (zas9 (vn V) (vcr V) (vra V) (vcu V) (nI (p / 100)) (nI (p / 10 % 10)) (nI (p % 10)) (nI j) c) (vcd V) (vL V) = x at h1 h2 ⊢
  have h3 : x < nI 1000 := by
    have : (999 : Int32) < nI 1000 := by decide
    exact Int32.lt_of_le_of_lt h2 this
  obtain ⟨k, hk, e⟩ := zg_nat (g := 1000) (by decide) ⟨h1, h3⟩
  rw [e, nI_clamp (by omega)]
  exact ⟨rfl, by omega⟩
/-- the k-th choice: taken, left -/
def zon (V : zV) (k : Nat) : Nat := (von V k).toNatClampNeg
def zot (V : zV) (k : Nat) : Nat := (vot V k).toNatClampNeg
theorem zon_eq {V : zV} (hV : ZV V) (hn : vn V ≤ 16) {k : Nat} (hk : k < vm V) : von V k = nI (zon V k) ∧ vot V k = nI (zot V k) ∧ zon V k < vn V ∧ zot V k < vn V := by
  obtain ⟨a, b, ha, hb, e1, e2⟩ := hV.2.2.2.2.2.2 k hk
  unfold zon zot
  rw [e1, e2, nI_clamp (by omega), nI_clamp (by omega)]
  exact ⟨rfl, rfl, ha, hb⟩
/-- tastes p fit all choices told -/
abbrev zft (V : zV) (j p : Nat) : Prop := ∀ k, k < vm V → zwq V j p (zot V k) ≤ zwq V j p (zon V k)
theorem XC_K {V : zV} {ps : List Nat} {h h' : zq_H} (hX : XC V h) (f : zq_fr ps h h') (d : ∀ p ∈ ps, p ∈ [15, 18, 19, 20, 51]) (e7 : h'.1 15 7 = h.1 15 7) : XC V h' := by
  have e : ∀ p, p ∉ [15, 18, 19, 20, 51] → p ∉ ps := fun p hp q => hp (d p q)
  obtain ⟨k1, k2, k3, k4, k5, k6, k7⟩ := hX
  exact ⟨XL_fr k1 f ⟨e _ (by decide), e _ (by decide), e _ (by decide), e _ (by decide)⟩, XG_fr k2 f ⟨e _ (by decide), e _ (by decide), e _ (by decide)⟩, XP_fr k3 f ⟨e _ (by decide), e _ (by decide)⟩, XB_fr k4 f ⟨e _ (by decide), e _ (by decide), e _ (by decide)⟩, ⟨k5.1, by rw [e7]; exact k5.2.1, fun i hi => by rw [(f 16 (e _ (by decide))).1, (f 17 (e _ (by decide))).1]; exact k5.2.2 i hi⟩, XW_fr k6 f ⟨e _ (by decide), e _ (by decide), e _ (by decide)⟩, XW0_fr k7 f (e _ (by decide))⟩
/-- tastes p are tried, and what is known by them -/
def XKn (V : zV) (j p : Nat) (h : zq_H) : Prop := ztas 18 3 0 (nI (p / 100)) (nI (p / 10 % 10)) (nI (p % 10)) h ∧ ∃ kn, kn < 2 ^ 16 ∧ h.1 15 6 = nI kn ∧ ∀ c, c < vn V → kn.testBit c = true → h.1 20 c = nI (zwq V j p c)
def sp_ask : zq_Sp := fun args h Q => ∃ V j p c, args = [.ref 15, .int (nI c), .ref 48, .ref 40, .int (nI j)] ∧ c < vn V ∧ ZV V ∧ XC V h ∧ XKn V j p h ∧ ∀ h', XC V h' → XKn V j p h' → zq_fr [15, 20, 51] h h' → (h'.1 20 c = nI (zwq V j p c) ∧ ∀ c', c' ≠ c → h'.1 20 c' = h.1 20 c') → Q (some (.int (nI (zwq V j p c)))) h'
theorem ok_ask : zq_M yX1_ask cX1_ask 5 (some .int) 1 3 sp_ask := by
  refine mX1_ask (ok_xWorthOf 18 3) (by decide) (fun args h Q hs => ?_)
  obtain ⟨V, j, p, c, rfl, hc, hV, hX, ⟨ht, kn, hk, e6, hkn⟩, kk⟩ := hs
  have hn := hX.1.1
  refine ⟨Nat.le_of_ble_eq_true rfl, ?_⟩
  have vc : vp_in (nI c) 16 := vp_in_nI (by omega) (by decide)
  simp only [xX1_ask_0, xX1_ask_42, e6, zbitG (show kn < 2 ^ 31 by omega) (show c < 31 by omega), nI_clamp (show c < 2 ^ 31 by omega), zi_push, zi_iload, zi_lload, zi_aload, zi_istore, zi_astore, zi_lstore, zi_iinc, zi_i2, zi_i1, zi_idv, zi_l2, zi_ldv, zi_lsh, zi_i2l, zi_l2i, zi_lcmp, zi_dup, zi_dup2, zi_pop, zi_if1, zi_if2, zi_getI, zi_getL, zi_getR, zi_putI, zi_putZ, zi_putL, zi_aldI, zi_aldL, zi_astI, zi_astZ, zi_astL, zi_alen, zi_iret, zi_zret, zi_lret, zi_vret, zi_callV, zi_callS, zi_sw, zi_copyI, zi_copyL, zi_m2, zi_m1, zi_sval, zi_scod, zi_fmt, zi_balen, zi_bald, zi_bret, zi_callT, zq_nth, zq_put1, zq_put2, zq_clr, zq_nl, zq_tk, zq_ps, zq_sw, zq_l0, zq_a, zq_a1, List.length_cons, List.length_nil, List.nil_append, List.cons_append, List.append_nil, List.replicate, Nat.reduceAdd, Nat.reduceSub, Nat.reduceLeDiff, true_and, and_true, List.append_eq, List.cons.injEq, Value.int.injEq, Value.long.injEq, Value.ref.injEq, exists_and_left, exists_eq_left', and_assoc, zc_b, zc_0, zc_1, zc_10, zc_01, lg_cmp_ge, lg_cmp_le, lg_cmp_gt, lg_cmp_lt, lg_cmp_eq, zw_le, zw_lt, reduceIte, true_or, or_true, zw_g0, zw_l0, zw_g1, zw_l1, zw_g2, zw_l2, zw_g3, zw_l3, zw_g5, zw_l5, zw_g6, zw_l6, zw_g7, zw_l7, zw_g9, zw_l9, zw_g10, zw_l10, zw_g15, zw_l15, zw_g16, zw_l16, zw_g48, zw_l48, zw_g50, zw_l50, zw_g57, zw_l57, zw_g97, zw_l97, zw_g100, zw_l100, zw_g200, zw_l200, zw_g999, zw_l999, zw_g9999, zw_l9999]
  refine ⟨fun q => ?_, fun q => ⟨vc, ?_⟩⟩
  · simp only [xX1_ask_11, zi_push, zi_iload, zi_lload, zi_aload, zi_istore, zi_astore, zi_lstore, zi_iinc, zi_i2, zi_i1, zi_idv, zi_l2, zi_ldv, zi_lsh, zi_i2l, zi_l2i, zi_lcmp, zi_dup, zi_dup2, zi_pop, zi_if1, zi_if2, zi_getI, zi_getL, zi_getR, zi_putI, zi_putZ, zi_putL, zi_aldI, zi_aldL, zi_astI, zi_astZ, zi_astL, zi_alen, zi_iret, zi_zret, zi_lret, zi_vret, zi_callV, zi_callS, zi_sw, zi_copyI, zi_copyL, zi_m2, zi_m1, zi_sval, zi_scod, zi_fmt, zi_balen, zi_bald, zi_bret, zi_callT, zq_nth, zq_put1, zq_put2, zq_clr, zq_nl, zq_tk, zq_ps, zq_sw, zq_l0, zq_a, zq_a1, List.length_cons, List.length_nil, List.nil_append, List.cons_append, List.append_nil, List.replicate, Nat.reduceAdd, Nat.reduceSub, Nat.reduceLeDiff, true_and, and_true, List.append_eq, List.cons.injEq, Value.int.injEq, Value.long.injEq, Value.ref.injEq, exists_and_left, exists_eq_left', and_assoc, zc_b, zc_0, zc_1, zc_10, zc_01, lg_cmp_ge, lg_cmp_le, lg_cmp_gt, lg_cmp_lt, lg_cmp_eq, zw_le, zw_lt, reduceIte, true_or, or_true, zw_g0, zw_l0, zw_g1, zw_l1, zw_g2, zw_l2, zw_g3, zw_l3, zw_g5, zw_l5, zw_g6, zw_l6, zw_g7, zw_l7, zw_g9, zw_l9, zw_g10, zw_l10, zw_g15, zw_l15, zw_g16, zw_l16, zw_g48, zw_l48, zw_g50, zw_l50, zw_g57, zw_l57, zw_g97, zw_l97, zw_g100, zw_l100, zw_g200, zw_l200, zw_g999, zw_l999, zw_g9999, zw_l9999]
    refine ⟨c, vn V, vcr V, vra V, vcu V, _, _, _, 0, nI j, vL V, vcd V, rfl, ⟨rfl, by decide⟩, hc, hX.1, ht, hV.2.2.1, hX.2.2.1, fun h1 f1 => ?_⟩
    rw [(zwq_eq V j p c).1]
    have a6 : h1.1 15 6 = nI kn := by rw [(f1 15 (by decide)).1]; exact e6
    have es : (zf_shl 1 (nI c) : Int32) = nI (2 ^ c) := zshl1 _ (by omega)
    simp only [xX1_ask_42, nI_clamp (show c < 2 ^ 31 by omega), zq_sI, a6, Nat.reduceEqDiff, false_and, if_false, es, nx_or, zi_push, zi_iload, zi_lload, zi_aload, zi_istore, zi_astore, zi_lstore, zi_iinc, zi_i2, zi_i1, zi_idv, zi_l2, zi_ldv, zi_lsh, zi_i2l, zi_l2i, zi_lcmp, zi_dup, zi_dup2, zi_pop, zi_if1, zi_if2, zi_getI, zi_getL, zi_getR, zi_putI, zi_putZ, zi_putL, zi_aldI, zi_aldL, zi_astI, zi_astZ, zi_astL, zi_alen, zi_iret, zi_zret, zi_lret, zi_vret, zi_callV, zi_callS, zi_sw, zi_copyI, zi_copyL, zi_m2, zi_m1, zi_sval, zi_scod, zi_fmt, zi_balen, zi_bald, zi_bret, zi_callT, zq_nth, zq_put1, zq_put2, zq_clr, zq_nl, zq_tk, zq_ps, zq_sw, zq_l0, zq_a, zq_a1, List.length_cons, List.length_nil, List.nil_append, List.cons_append, List.append_nil, List.replicate, Nat.reduceAdd, Nat.reduceSub, Nat.reduceLeDiff, true_and, and_true, List.append_eq, List.cons.injEq, Value.int.injEq, Value.long.injEq, Value.ref.injEq, exists_and_left, exists_eq_left', and_assoc, zc_b, zc_0, zc_1, zc_10, zc_01, lg_cmp_ge, lg_cmp_le, lg_cmp_gt, lg_cmp_lt, lg_cmp_eq, zw_le, zw_lt, reduceIte, true_or, or_true, zw_g0, zw_l0, zw_g1, zw_l1, zw_g2, zw_l2, zw_g3, zw_l3, zw_g5, zw_l5, zw_g6, zw_l6, zw_g7, zw_l7, zw_g9, zw_l9, zw_g10, zw_l10, zw_g15, zw_l15, zw_g16, zw_l16, zw_g48, zw_l48, zw_g50, zw_l50, zw_g57, zw_l57, zw_g97, zw_l97, zw_g100, zw_l100, zw_g200, zw_l200, zw_g999, zw_l999, zw_g9999, zw_l9999]
    have hk2 : kn ||| 2 ^ c < 2 ^ 16 := Nat.or_lt_two_pow hk (Nat.pow_lt_pow_right (by decide) (by omega))
    have f9 : zq_fr [15, 20, 51] h (zq_setI (zq_setI h1 20 c (nI (zwq V j p c))) 15 6 (nI (kn ||| 2 ^ c))) := zq_fr_I (zq_fr_I (zq_fr_w f1 (by decide)) (by decide)) (by decide)
    have e7 : (zq_setI (zq_setI h1 20 c (nI (zwq V j p c))) 15 6 (nI (kn ||| 2 ^ c))).1 15 7 = h.1 15 7 := by simp [zq_sI, (f1 15 (by decide)).1]
    have k9 := kk (zq_setI (zq_setI h1 20 c (nI (zwq V j p c))) 15 6 (nI (kn ||| 2 ^ c))) (XC_K hX f9 (by decide) e7) ⟨?_, kn ||| 2 ^ c, hk2, by simp [zq_sI], fun c' hc' hb => ?_⟩ f9 ⟨by simp [zq_sI], fun c' q => by simp [zq_sI, q, (f1 20 (by decide)).1]⟩
    · refine ⟨vc, vc, ?_⟩
      simpa [zq_sI] using k9
    · obtain ⟨t1, t2, t3, t4, t5⟩ := ht
      exact ⟨t1, t2, by simpa [zq_sI, (f1 18 (by decide)).1] using t3, by simpa [zq_sI, (f1 18 (by decide)).1] using t4, by simpa [zq_sI, (f1 18 (by decide)).1] using t5⟩
    · by_cases q2 : c' = c
      · rw [q2]
        simp [zq_sI]
      · rw [Nat.testBit_or, Nat.testBit_two_pow, decide_eq_false (fun z => q2 z.symm), Bool.or_false] at hb
        simpa [zq_sI, q2, (f1 20 (by decide)).1] using hkn c' hc' hb
  · have hb : kn.testBit c = true := by
      cases e : kn.testBit c with
      | true => rfl
      | false => exact absurd e q
    rw [hkn c hc hb]
    exact kk h hX ⟨ht, kn, hk, e6, hkn⟩ zq_fr_rf ⟨hkn c hc hb, fun _ _ => rfl⟩
def sp_fits : zq_Sp := fun args h Q => ∃ V j p, args = [.ref 15, .int (nI p), .ref 48, .ref 40, .int (nI j)] ∧ p < 1000 ∧ ZV V ∧ XC V h ∧ ∀ h', XC V h' → XKn V j p h' → zq_fr [15, 18, 20, 51] h h' → Q (some (.int (if zft V j p then 1 else 0))) h'
def I_fits (Q : zq_Q) (z : zq_H × zV × Nat × Nat × Nat) : zq_P := fun ls st h => match z with
  | (h0, V, j, p, k) => ∃ s6 : Option Value, ls = [some (.ref 15), some (.int (nI p)), some (.ref 48), some (.ref 40), some (.int (nI j)), some (.int (nI k)), s6] ∧ st = [] ∧ k ≤ vm V ∧ ZV V ∧ XC V h ∧ XKn V j p h ∧ (∀ i, i < k → zwq V j p (zot V i) ≤ zwq V j p (zon V i)) ∧ zq_fr [15, 18, 20, 51] h0 h ∧ ∀ h', XC V h' → XKn V j p h' → zq_fr [15, 18, 20, 51] h0 h' → Q (some (.int (if zft V j p then 1 else 0))) h'
theorem zp1000 : ∀ p, p < 1000 → nI p / 100 = nI (p / 100) ∧ nI p / 10 = nI (p / 10) ∧ zf_rem (nI (p / 10)) 10 = nI (p / 10 % 10) ∧ zf_rem (nI p) 10 = nI (p % 10) := fun p hp => ⟨pk_div (d := 100) (by omega) (by decide) (by decide), pk_div (d := 10) (by omega) (by decide) (by decide), zremI (k := 10) (by omega) (by decide) (by decide), zremI (k := 10) (by omega) (by decide) (by decide)⟩
theorem ok_fits : zq_M yX1_fits cX1_fits 7 (some .boolean) 1 4 sp_fits := by
  refine mX1_fits ok_ask (by decide) (fun z => 100 - z.2.2.2.2) I_fits (fun args h Q hs => ?_) (fun Q z ls st h hi => ?_)
  · obtain ⟨V, j, p, rfl, hp, hV, hX, kk⟩ := hs
    obtain ⟨d1, d2, d3, d4⟩ := zp1000 p hp
    have v : ∀ i, i < 3 → vp_in (nI i) 3 := fun i hi => vp_in_nI hi (by decide)
    refine ⟨Nat.le_of_ble_eq_true rfl, ?_⟩
    simp only [xX1_fits_0, d1, d2, d3, d4, zi_push, zi_iload, zi_lload, zi_aload, zi_istore, zi_astore, zi_lstore, zi_iinc, zi_i2, zi_i1, zi_idv, zi_l2, zi_ldv, zi_lsh, zi_i2l, zi_l2i, zi_lcmp, zi_dup, zi_dup2, zi_pop, zi_if1, zi_if2, zi_getI, zi_getL, zi_getR, zi_putI, zi_putZ, zi_putL, zi_aldI, zi_aldL, zi_astI, zi_astZ, zi_astL, zi_alen, zi_iret, zi_zret, zi_lret, zi_vret, zi_callV, zi_callS, zi_sw, zi_copyI, zi_copyL, zi_m2, zi_m1, zi_sval, zi_scod, zi_fmt, zi_balen, zi_bald, zi_bret, zi_callT, zq_nth, zq_put1, zq_put2, zq_clr, zq_nl, zq_tk, zq_ps, zq_sw, zq_l0, zq_a, zq_a1, List.length_cons, List.length_nil, List.nil_append, List.cons_append, List.append_nil, List.replicate, Nat.reduceAdd, Nat.reduceSub, Nat.reduceLeDiff, true_and, and_true, List.append_eq, List.cons.injEq, Value.int.injEq, Value.long.injEq, Value.ref.injEq, exists_and_left, exists_eq_left', and_assoc, zc_b, zc_0, zc_1, zc_10, zc_01, lg_cmp_ge, lg_cmp_le, lg_cmp_gt, lg_cmp_lt, lg_cmp_eq, zw_le, zw_lt, reduceIte, true_or, or_true, zw_g0, zw_l0, zw_g1, zw_l1, zw_g2, zw_l2, zw_g3, zw_l3, zw_g5, zw_l5, zw_g6, zw_l6, zw_g7, zw_l7, zw_g9, zw_l9, zw_g10, zw_l10, zw_g15, zw_l15, zw_g16, zw_l16, zw_g48, zw_l48, zw_g50, zw_l50, zw_g57, zw_l57, zw_g97, zw_l97, zw_g100, zw_l100, zw_g200, zw_l200, zw_g999, zw_l999, zw_g9999, zw_l9999]
    have f9 : ∀ a b d : Int32, zq_fr [15, 18, 20, 51] h (zq_setI (zq_setI (zq_setI (zq_setI h 18 0 a) 18 1 b) 18 2 d) 15 6 0) := fun a b d => zq_fr_I (zq_fr_I (zq_fr_I (zq_fr_I zq_fr_rf (by decide)) (by decide)) (by decide)) (by decide)
    refine ⟨by decide, v 0 (by decide), by decide, by decide, v 1 (by decide), by decide, v 2 (by decide), (h, V, j, p, 0), none, rfl, rfl, Nat.zero_le _, hV, ?_, ⟨⟨by decide, by decide, ?_, ?_, ?_⟩, 0, by decide, ?_, fun c _ hb => ?_⟩, fun i hi => absurd hi (Nat.not_lt_zero _), f9 _ _ _, kk⟩
    · exact XC_K hX (f9 _ _ _) (by decide) (by simp [zq_sI])
    · simp [zq_sI]
    · simp [zq_sI]
    · simp [zq_sI]
    · simp [zq_sI]; rfl
    · simp at hb
  · obtain ⟨h0, V, j, p, k⟩ := z
    obtain ⟨s6, rfl, rfl, hk, hV, hX, hK, hok, hf, kk⟩ := hi
    have hm := hX.2.2.2.2.1.1
    have hn := hX.1.1
    simp only [xX1_fits_41, xX1_fits_50, xX1_fits_95, hX.2.2.2.2.1.2.1, zl_ge hk (show vm V < 2 ^ 31 by omega), nI_clamp (show k < 2 ^ 31 by omega), zi_push, zi_iload, zi_lload, zi_aload, zi_istore, zi_astore, zi_lstore, zi_iinc, zi_i2, zi_i1, zi_idv, zi_l2, zi_ldv, zi_lsh, zi_i2l, zi_l2i, zi_lcmp, zi_dup, zi_dup2, zi_pop, zi_if1, zi_if2, zi_getI, zi_getL, zi_getR, zi_putI, zi_putZ, zi_putL, zi_aldI, zi_aldL, zi_astI, zi_astZ, zi_astL, zi_alen, zi_iret, zi_zret, zi_lret, zi_vret, zi_callV, zi_callS, zi_sw, zi_copyI, zi_copyL, zi_m2, zi_m1, zi_sval, zi_scod, zi_fmt, zi_balen, zi_bald, zi_bret, zi_callT, zq_nth, zq_put1, zq_put2, zq_clr, zq_nl, zq_tk, zq_ps, zq_sw, zq_l0, zq_a, zq_a1, List.length_cons, List.length_nil, List.nil_append, List.cons_append, List.append_nil, List.replicate, Nat.reduceAdd, Nat.reduceSub, Nat.reduceLeDiff, true_and, and_true, List.append_eq, List.cons.injEq, Value.int.injEq, Value.long.injEq, Value.ref.injEq, exists_and_left, exists_eq_left', and_assoc, zc_b, zc_0, zc_1, zc_10, zc_01, lg_cmp_ge, lg_cmp_le, lg_cmp_gt, lg_cmp_lt, lg_cmp_eq, zw_le, zw_lt, reduceIte, true_or, or_true, zw_g0, zw_l0, zw_g1, zw_l1, zw_g2, zw_l2, zw_g3, zw_l3, zw_g5, zw_l5, zw_g6, zw_l6, zw_g7, zw_l7, zw_g9, zw_l9, zw_g10, zw_l10, zw_g15, zw_l15, zw_g16, zw_l16, zw_g48, zw_l48, zw_g50, zw_l50, zw_g57, zw_l57, zw_g97, zw_l97, zw_g100, zw_l100, zw_g200, zw_l200, zw_g999, zw_l999, zw_g9999, zw_l9999]
    refine ⟨fun q => ?_, fun q => ⟨vp_in_nI (by omega) (by decide), ?_⟩⟩
    · subst q
      have := kk h hX hK hf
      rw [if_pos hok] at this
      exact this
    · obtain ⟨e1, e2, l1, l2⟩ := zon_eq hV hn (show k < vm V by omega)
      rw [(hX.2.2.2.2.1.2.2 k (by omega)).1, e1]
      refine ⟨V, j, p, zon V k, rfl, l1, hV, hX, hK, fun h1 x1 k1 f1 _ => ?_⟩
      simp only [nI_clamp (show k < 2 ^ 31 by omega), zi_push, zi_iload, zi_lload, zi_aload, zi_istore, zi_astore, zi_lstore, zi_iinc, zi_i2, zi_i1, zi_idv, zi_l2, zi_ldv, zi_lsh, zi_i2l, zi_l2i, zi_lcmp, zi_dup, zi_dup2, zi_pop, zi_if1, zi_if2, zi_getI, zi_getL, zi_getR, zi_putI, zi_putZ, zi_putL, zi_aldI, zi_aldL, zi_astI, zi_astZ, zi_astL, zi_alen, zi_iret, zi_zret, zi_lret, zi_vret, zi_callV, zi_callS, zi_sw, zi_copyI, zi_copyL, zi_m2, zi_m1, zi_sval, zi_scod, zi_fmt, zi_balen, zi_bald, zi_bret, zi_callT, zq_nth, zq_put1, zq_put2, zq_clr, zq_nl, zq_tk, zq_ps, zq_sw, zq_l0, zq_a, zq_a1, List.length_cons, List.length_nil, List.nil_append, List.cons_append, List.append_nil, List.replicate, Nat.reduceAdd, Nat.reduceSub, Nat.reduceLeDiff, true_and, and_true, List.append_eq, List.cons.injEq, Value.int.injEq, Value.long.injEq, Value.ref.injEq, exists_and_left, exists_eq_left', and_assoc, zc_b, zc_0, zc_1, zc_10, zc_01, lg_cmp_ge, lg_cmp_le, lg_cmp_gt, lg_cmp_lt, lg_cmp_eq, zw_le, zw_lt, reduceIte, true_or, or_true, zw_g0, zw_l0, zw_g1, zw_l1, zw_g2, zw_l2, zw_g3, zw_l3, zw_g5, zw_l5, zw_g6, zw_l6, zw_g7, zw_l7, zw_g9, zw_l9, zw_g10, zw_l10, zw_g15, zw_l15, zw_g16, zw_l16, zw_g48, zw_l48, zw_g50, zw_l50, zw_g57, zw_l57, zw_g97, zw_l97, zw_g100, zw_l100, zw_g200, zw_l200, zw_g999, zw_l999, zw_g9999, zw_l9999]
      rw [(x1.2.2.2.2.1.2.2 k (by omega)).2, e2]
      refine ⟨vp_in_nI (by omega) (by decide), V, j, p, zot V k, rfl, l2, hV, x1, k1, fun h2 x2 k2 f2 _ => ?_⟩
      have w1 := (zwq_eq V j p (zon V k)).2
      have w2 := (zwq_eq V j p (zot V k)).2
      have hf2 : zq_fr [15, 18, 20, 51] h0 h2 := zq_fr_t (zq_fr_t hf f1 (by decide)) f2 (by decide)
      simp only [xX1_fits_87, xX1_fits_89, nI_leP (show zwq V j p (zot V k) < 2 ^ 31 by omega) (show zwq V j p (zon V k) < 2 ^ 31 by omega), zi_push, zi_iload, zi_lload, zi_aload, zi_istore, zi_astore, zi_lstore, zi_iinc, zi_i2, zi_i1, zi_idv, zi_l2, zi_ldv, zi_lsh, zi_i2l, zi_l2i, zi_lcmp, zi_dup, zi_dup2, zi_pop, zi_if1, zi_if2, zi_getI, zi_getL, zi_getR, zi_putI, zi_putZ, zi_putL, zi_aldI, zi_aldL, zi_astI, zi_astZ, zi_astL, zi_alen, zi_iret, zi_zret, zi_lret, zi_vret, zi_callV, zi_callS, zi_sw, zi_copyI, zi_copyL, zi_m2, zi_m1, zi_sval, zi_scod, zi_fmt, zi_balen, zi_bald, zi_bret, zi_callT, zq_nth, zq_put1, zq_put2, zq_clr, zq_nl, zq_tk, zq_ps, zq_sw, zq_l0, zq_a, zq_a1, List.length_cons, List.length_nil, List.nil_append, List.cons_append, List.append_nil, List.replicate, Nat.reduceAdd, Nat.reduceSub, Nat.reduceLeDiff, true_and, and_true, List.append_eq, List.cons.injEq, Value.int.injEq, Value.long.injEq, Value.ref.injEq, exists_and_left, exists_eq_left', and_assoc, zc_b, zc_0, zc_1, zc_10, zc_01, lg_cmp_ge, lg_cmp_le, lg_cmp_gt, lg_cmp_lt, lg_cmp_eq, zw_le, zw_lt, reduceIte, true_or, or_true, zw_g0, zw_l0, zw_g1, zw_l1, zw_g2, zw_l2, zw_g3, zw_l3, zw_g5, zw_l5, zw_g6, zw_l6, zw_g7, zw_l7, zw_g9, zw_l9, zw_g10, zw_l10, zw_g15, zw_l15, zw_g16, zw_l16, zw_g48, zw_l48, zw_g50, zw_l50, zw_g57, zw_l57, zw_g97, zw_l97, zw_g100, zw_l100, zw_g200, zw_l200, zw_g999, zw_l999, zw_g9999, zw_l9999]
      refine ⟨fun q2 => ?_, fun q2 => ?_⟩
      · rw [nI_1]
        refine ⟨(h0, V, j, p, k + 1), by dsimp only; omega, _, rfl, rfl, by omega, hV, x2, k2, fun i hi => ?_, hf2, kk⟩
        by_cases q3 : i = k
        · rw [q3]
          exact q2
        · exact hok i (by omega)
      · have := kk h2 x2 k2 hf2
        rw [if_neg (fun z => q2 (z k (by omega)))] at this
        exact this
