/-! ===== give, back, mouse: remembered, of the class ===== -/
theorem zG_mono {V : zV} {g x y : Int32} {K K' : Int32 → (Nat → Int32) → Prop} (hV : vn V ≤ 16) (k : zG V g x y K) (m : ∀ r now, (r < 0 → now = vnow V) → K r now → K' r now) : zG V g x y K' := by
  refine ⟨fun q => m _ _ (fun _ => rfl) (k.1 q), fun j a b hj hab hb e1 e2 e3 => ⟨fun q => m _ _ (fun _ => rfl) ((k.2 j a b hj hab hb e1 e2 e3).1 q), fun q => m _ _ (fun z => absurd z (nI_pos ?_)) ((k.2 j a b hj hab hb e1 e2 e3).2 q)⟩⟩
  have := vS_le V j (b + 1)
  omega
theorem zT_le (V : zV) (a : Nat) : ∀ t, (zT V a t).1 ≤ t
  | 0 => Nat.le_refl _
  | t + 1 => by
    have := zT_le V a t
    rw [zT_s]
    split
    · omega
    · show (zT V a t).1 + 1 ≤ t + 1
      omega
theorem zTb_mono {V : zV} {x y : Int32} {K K' : Int32 → (Nat → Int32) → Prop} (hV : vn V ≤ 16) (k : zTb V x y K) (m : ∀ r now, (r < 0 → now = vnow V) → K r now → K' r now) : zTb V x y K' := by
  refine ⟨fun q => m _ _ (fun _ => rfl) (k.1 q), fun a b hab hb e1 e2 => m _ _ (fun z => absurd z (nI_pos ?_)) (k.2 a b hab hb e1 e2)⟩
  have := zT_le V a (b + 1 - a)
  omega
theorem zMo_mono {V : zV} {x : Int32} {K K' : Int32 → (Nat → Int32) → Prop} (hV : ZV V) (k : zMo V x K) (m : ∀ r now, (r < 0 → now = vnow V) → K r now → K' r now) : zMo V x K' := by
  refine ⟨fun q => m _ _ (fun _ => rfl) (k.1 q), fun a ha e1 => ⟨fun q => m _ _ (fun _ => rfl) ((k.2 a ha e1).1 q), fun q => m _ _ (fun z => ?_) ((k.2 a ha e1).2 q)⟩⟩
  obtain ⟨c, d, e, h1, h2, -⟩ := hV.1.2 a ha
  rw [e] at z
  exact absurd z (nI_pos (by omega))
def vSU (V : zV) (now bf : Nat → Int32) : zV := vSB V now (zkn (vk V)) (zun (vk V) (vund V) bf) (vkept V)
def zKr (V : zV) (h : zq_H) (Q : zq_Q) : Int32 → (Nat → Int32) → Prop := fun r now => ∀ h', XC (if r < 0 then V else vSU V now (vnow V)) h' → zq_fr [12, 13] h h' → Q (some (.int r)) h'
def sp_remembered : zq_Sp := fun args h Q => ∃ V w r bf, args = [.ref 0, .long w, .int r] ∧ XC V h ∧ (∀ i, i < vn V → zH w i = bf i) ∧ (r < 0 → Q (some (.int r)) h) ∧ (¬ r < 0 → ∀ h', XC (vSU V (vnow V) bf) h' → zq_fr [12, 13] h h' → Q (some (.int r)) h')
theorem ok_remembered : zq_M yX11_remembered cX11_remembered 4 (some .int) 1 2 sp_remembered := by
  refine mX11_remembered ok_remember (by decide) (fun args h Q hs => ?_)
  obtain ⟨V, w, r, bf, rfl, hX, hw, k1, k2⟩ := hs
  refine ⟨Nat.le_of_ble_eq_true rfl, ?_⟩
  simp only [xX11_remembered_12, xX11_remembered_4, xX11_remembered_0, zi_push, zi_iload, zi_lload, zi_aload, zi_istore, zi_astore, zi_lstore, zi_iinc, zi_i2, zi_i1, zi_idv, zi_l2, zi_ldv, zi_lsh, zi_i2l, zi_l2i, zi_lcmp, zi_dup, zi_dup2, zi_pop, zi_if1, zi_if2, zi_getI, zi_getL, zi_getR, zi_putI, zi_putZ, zi_putL, zi_aldI, zi_aldL, zi_astI, zi_astZ, zi_astL, zi_alen, zi_iret, zi_zret, zi_lret, zi_vret, zi_callV, zi_callS, zi_sw, zi_copyI, zi_copyL, zi_m2, zi_m1, zi_sval, zi_scod, zi_fmt, zi_balen, zi_bald, zi_bret, zi_callT, zq_nth, zq_put1, zq_put2, zq_clr, zq_nl, zq_tk, zq_ps, zq_sw, zq_l0, zq_a, zq_a1, List.length_cons, List.length_nil, List.nil_append, List.cons_append, List.append_nil, List.replicate, Nat.reduceAdd, Nat.reduceSub, Nat.reduceLeDiff, true_and, and_true, List.append_eq, List.cons.injEq, Value.int.injEq, Value.long.injEq, Value.ref.injEq, exists_and_left, exists_eq_left', and_assoc, zc_b, zc_0, zc_1, zc_10, zc_01, lg_cmp_ge, lg_cmp_le, lg_cmp_gt, lg_cmp_lt, lg_cmp_eq, zw_le, zw_lt, reduceIte, true_or, or_true, zw_g0, zw_l0, zw_g1, zw_l1, zw_g2, zw_l2, zw_g3, zw_l3, zw_g5, zw_l5, zw_g6, zw_l6, zw_g7, zw_l7, zw_g9, zw_l9, zw_g10, zw_l10, zw_g15, zw_l15, zw_g16, zw_l16, zw_g48, zw_l48, zw_g50, zw_l50, zw_g57, zw_l57, zw_g97, zw_l97, zw_g100, zw_l100, zw_g200, zw_l200, zw_g999, zw_l999, zw_g9999, zw_l9999]
  refine ⟨k1, fun q => ⟨w, bf, vn V, vnow V, vk V, vund V, vkept V, rfl, hX.2.2.2.1, hw, fun h1 b1 f1 => ?_⟩⟩
  exact k2 q h1 (XC_B hX b1 f1 (by decide)) f1
theorem zKr_go {V : zV} {h : zq_H} {Q : zq_Q} {r : Int32} {now : Nat → Int32} (hX : XC V h) (k : zKr V h Q r now) (e : r < 0 → now = vnow V) {h1 : zq_H} (x1 : XC (vSn V now) h1) (f1 : zq_fr [12] h h1) {K : zq_Q} (hK : ∀ h', Q (some (.int r)) h' → K (some (.int r)) h') : sp_remembered [.ref 0, .long (h.2 12 2), .int r] h1 K := by
  refine ⟨vSn V now, h.2 12 2, r, vnow V, rfl, x1, hX.2.2.2.1.2.1, fun q => hK _ (k h1 ?_ (zq_fr_w f1 (by decide))), fun q h' x2 f2 => hK _ (k h' ?_ (zq_fr_t (zq_fr_w f1 (by decide)) f2 (by decide)))⟩
  · rw [if_pos q]
    rw [e q] at x1
    exact x1
  · rw [if_neg q]
    exact x2
def sp_xGive : zq_Sp := fun args h Q => ∃ V g x y, args = [.ref 0, .int g, .int x, .int y] ∧ XC V h ∧ zG V g x y (zKr V h Q)
theorem ok_xGive : zq_M yX11_give cX11_give 6 (some .int) 1 3 sp_xGive := by
  refine mX11_give ok_giveSlice (by decide) ok_remembered (by decide) (fun args h Q hs => ?_)
  obtain ⟨V, g, x, y, rfl, hX, k⟩ := hs
  refine ⟨Nat.le_of_ble_eq_true rfl, ?_⟩
  simp only [xX11_give_0, zi_push, zi_iload, zi_lload, zi_aload, zi_istore, zi_astore, zi_lstore, zi_iinc, zi_i2, zi_i1, zi_idv, zi_l2, zi_ldv, zi_lsh, zi_i2l, zi_l2i, zi_lcmp, zi_dup, zi_dup2, zi_pop, zi_if1, zi_if2, zi_getI, zi_getL, zi_getR, zi_putI, zi_putZ, zi_putL, zi_aldI, zi_aldL, zi_astI, zi_astZ, zi_astL, zi_alen, zi_iret, zi_zret, zi_lret, zi_vret, zi_callV, zi_callS, zi_sw, zi_copyI, zi_copyL, zi_m2, zi_m1, zi_sval, zi_scod, zi_fmt, zi_balen, zi_bald, zi_bret, zi_callT, zq_nth, zq_put1, zq_put2, zq_clr, zq_nl, zq_tk, zq_ps, zq_sw, zq_l0, zq_a, zq_a1, List.length_cons, List.length_nil, List.nil_append, List.cons_append, List.append_nil, List.replicate, Nat.reduceAdd, Nat.reduceSub, Nat.reduceLeDiff, true_and, and_true, List.append_eq, List.cons.injEq, Value.int.injEq, Value.long.injEq, Value.ref.injEq, exists_and_left, exists_eq_left', and_assoc, zc_b, zc_0, zc_1, zc_10, zc_01, lg_cmp_ge, lg_cmp_le, lg_cmp_gt, lg_cmp_lt, lg_cmp_eq, zw_le, zw_lt, reduceIte, true_or, or_true, zw_g0, zw_l0, zw_g1, zw_l1, zw_g2, zw_l2, zw_g3, zw_l3, zw_g5, zw_l5, zw_g6, zw_l6, zw_g7, zw_l7, zw_g9, zw_l9, zw_g10, zw_l10, zw_g15, zw_l15, zw_g16, zw_l16, zw_g48, zw_l48, zw_g50, zw_l50, zw_g57, zw_l57, zw_g97, zw_l97, zw_g100, zw_l100, zw_g200, zw_l200, zw_g999, zw_l999, zw_g9999, zw_l9999]
  refine ⟨V, g, x, y, rfl, hX, zG_mono hX.1.1 k (fun r now e k1 h1 x1 f1 => ?_)⟩
  simp only [zi_push, zi_iload, zi_lload, zi_aload, zi_istore, zi_astore, zi_lstore, zi_iinc, zi_i2, zi_i1, zi_idv, zi_l2, zi_ldv, zi_lsh, zi_i2l, zi_l2i, zi_lcmp, zi_dup, zi_dup2, zi_pop, zi_if1, zi_if2, zi_getI, zi_getL, zi_getR, zi_putI, zi_putZ, zi_putL, zi_aldI, zi_aldL, zi_astI, zi_astZ, zi_astL, zi_alen, zi_iret, zi_zret, zi_lret, zi_vret, zi_callV, zi_callS, zi_sw, zi_copyI, zi_copyL, zi_m2, zi_m1, zi_sval, zi_scod, zi_fmt, zi_balen, zi_bald, zi_bret, zi_callT, zq_nth, zq_put1, zq_put2, zq_clr, zq_nl, zq_tk, zq_ps, zq_sw, zq_l0, zq_a, zq_a1, List.length_cons, List.length_nil, List.nil_append, List.cons_append, List.append_nil, List.replicate, Nat.reduceAdd, Nat.reduceSub, Nat.reduceLeDiff, true_and, and_true, List.append_eq, List.cons.injEq, Value.int.injEq, Value.long.injEq, Value.ref.injEq, exists_and_left, exists_eq_left', and_assoc, zc_b, zc_0, zc_1, zc_10, zc_01, lg_cmp_ge, lg_cmp_le, lg_cmp_gt, lg_cmp_lt, lg_cmp_eq, zw_le, zw_lt, reduceIte, true_or, or_true, zw_g0, zw_l0, zw_g1, zw_l1, zw_g2, zw_l2, zw_g3, zw_l3, zw_g5, zw_l5, zw_g6, zw_l6, zw_g7, zw_l7, zw_g9, zw_l9, zw_g10, zw_l10, zw_g15, zw_l15, zw_g16, zw_l16, zw_g48, zw_l48, zw_g50, zw_l50, zw_g57, zw_l57, zw_g97, zw_l97, zw_g100, zw_l100, zw_g200, zw_l200, zw_g999, zw_l999, zw_g9999, zw_l9999]
  exact zKr_go hX k1 e x1 f1 (fun h' z => z)
def sp_xBack : zq_Sp := fun args h Q => ∃ V x y, args = [.ref 0, .int x, .int y] ∧ XC V h ∧ zTb V x y (zKr V h Q)
theorem ok_xBack : zq_M yX11_back cX11_back 5 (some .int) 1 3 sp_xBack := by
  refine mX11_back ok_takeBack (by decide) ok_remembered (by decide) (fun args h Q hs => ?_)
  obtain ⟨V, x, y, rfl, hX, k⟩ := hs
  refine ⟨Nat.le_of_ble_eq_true rfl, ?_⟩
  simp only [xX11_back_0, zi_push, zi_iload, zi_lload, zi_aload, zi_istore, zi_astore, zi_lstore, zi_iinc, zi_i2, zi_i1, zi_idv, zi_l2, zi_ldv, zi_lsh, zi_i2l, zi_l2i, zi_lcmp, zi_dup, zi_dup2, zi_pop, zi_if1, zi_if2, zi_getI, zi_getL, zi_getR, zi_putI, zi_putZ, zi_putL, zi_aldI, zi_aldL, zi_astI, zi_astZ, zi_astL, zi_alen, zi_iret, zi_zret, zi_lret, zi_vret, zi_callV, zi_callS, zi_sw, zi_copyI, zi_copyL, zi_m2, zi_m1, zi_sval, zi_scod, zi_fmt, zi_balen, zi_bald, zi_bret, zi_callT, zq_nth, zq_put1, zq_put2, zq_clr, zq_nl, zq_tk, zq_ps, zq_sw, zq_l0, zq_a, zq_a1, List.length_cons, List.length_nil, List.nil_append, List.cons_append, List.append_nil, List.replicate, Nat.reduceAdd, Nat.reduceSub, Nat.reduceLeDiff, true_and, and_true, List.append_eq, List.cons.injEq, Value.int.injEq, Value.long.injEq, Value.ref.injEq, exists_and_left, exists_eq_left', and_assoc, zc_b, zc_0, zc_1, zc_10, zc_01, lg_cmp_ge, lg_cmp_le, lg_cmp_gt, lg_cmp_lt, lg_cmp_eq, zw_le, zw_lt, reduceIte, true_or, or_true, zw_g0, zw_l0, zw_g1, zw_l1, zw_g2, zw_l2, zw_g3, zw_l3, zw_g5, zw_l5, zw_g6, zw_l6, zw_g7, zw_l7, zw_g9, zw_l9, zw_g10, zw_l10, zw_g15, zw_l15, zw_g16, zw_l16, zw_g48, zw_l48, zw_g50, zw_l50, zw_g57, zw_l57, zw_g97, zw_l97, zw_g100, zw_l100, zw_g200, zw_l200, zw_g999, zw_l999, zw_g9999, zw_l9999]
  refine ⟨V, x, y, rfl, hX, zTb_mono hX.1.1 k (fun r now e k1 h1 x1 f1 => ?_)⟩
  simp only [zi_push, zi_iload, zi_lload, zi_aload, zi_istore, zi_astore, zi_lstore, zi_iinc, zi_i2, zi_i1, zi_idv, zi_l2, zi_ldv, zi_lsh, zi_i2l, zi_l2i, zi_lcmp, zi_dup, zi_dup2, zi_pop, zi_if1, zi_if2, zi_getI, zi_getL, zi_getR, zi_putI, zi_putZ, zi_putL, zi_aldI, zi_aldL, zi_astI, zi_astZ, zi_astL, zi_alen, zi_iret, zi_zret, zi_lret, zi_vret, zi_callV, zi_callS, zi_sw, zi_copyI, zi_copyL, zi_m2, zi_m1, zi_sval, zi_scod, zi_fmt, zi_balen, zi_bald, zi_bret, zi_callT, zq_nth, zq_put1, zq_put2, zq_clr, zq_nl, zq_tk, zq_ps, zq_sw, zq_l0, zq_a, zq_a1, List.length_cons, List.length_nil, List.nil_append, List.cons_append, List.append_nil, List.replicate, Nat.reduceAdd, Nat.reduceSub, Nat.reduceLeDiff, true_and, and_true, List.append_eq, List.cons.injEq, Value.int.injEq, Value.long.injEq, Value.ref.injEq, exists_and_left, exists_eq_left', and_assoc, zc_b, zc_0, zc_1, zc_10, zc_01, lg_cmp_ge, lg_cmp_le, lg_cmp_gt, lg_cmp_lt, lg_cmp_eq, zw_le, zw_lt, reduceIte, true_or, or_true, zw_g0, zw_l0, zw_g1, zw_l1, zw_g2, zw_l2, zw_g3, zw_l3, zw_g5, zw_l5, zw_g6, zw_l6, zw_g7, zw_l7, zw_g9, zw_l9, zw_g10, zw_l10, zw_g15, zw_l15, zw_g16, zw_l16, zw_g48, zw_l48, zw_g50, zw_l50, zw_g57, zw_l57, zw_g97, zw_l97, zw_g100, zw_l100, zw_g200, zw_l200, zw_g999, zw_l999, zw_g9999, zw_l9999]
  exact zKr_go hX k1 e x1 f1 (fun h' z => z)
def sp_xMouse : zq_Sp := fun args h Q => ∃ V x, args = [.ref 0, .int x] ∧ ZV V ∧ XC V h ∧ zMo V x (zKr V h Q)
theorem ok_xMouse : zq_M yX11_mouse cX11_mouse 4 (some .int) 1 3 sp_xMouse := by
  refine mX11_mouse ok_feedMouse (by decide) ok_remembered (by decide) (fun args h Q hs => ?_)
  obtain ⟨V, x, rfl, hV, hX, k⟩ := hs
  refine ⟨Nat.le_of_ble_eq_true rfl, ?_⟩
  simp only [xX11_mouse_0, zi_push, zi_iload, zi_lload, zi_aload, zi_istore, zi_astore, zi_lstore, zi_iinc, zi_i2, zi_i1, zi_idv, zi_l2, zi_ldv, zi_lsh, zi_i2l, zi_l2i, zi_lcmp, zi_dup, zi_dup2, zi_pop, zi_if1, zi_if2, zi_getI, zi_getL, zi_getR, zi_putI, zi_putZ, zi_putL, zi_aldI, zi_aldL, zi_astI, zi_astZ, zi_astL, zi_alen, zi_iret, zi_zret, zi_lret, zi_vret, zi_callV, zi_callS, zi_sw, zi_copyI, zi_copyL, zi_m2, zi_m1, zi_sval, zi_scod, zi_fmt, zi_balen, zi_bald, zi_bret, zi_callT, zq_nth, zq_put1, zq_put2, zq_clr, zq_nl, zq_tk, zq_ps, zq_sw, zq_l0, zq_a, zq_a1, List.length_cons, List.length_nil, List.nil_append, List.cons_append, List.append_nil, List.replicate, Nat.reduceAdd, Nat.reduceSub, Nat.reduceLeDiff, true_and, and_true, List.append_eq, List.cons.injEq, Value.int.injEq, Value.long.injEq, Value.ref.injEq, exists_and_left, exists_eq_left', and_assoc, zc_b, zc_0, zc_1, zc_10, zc_01, lg_cmp_ge, lg_cmp_le, lg_cmp_gt, lg_cmp_lt, lg_cmp_eq, zw_le, zw_lt, reduceIte, true_or, or_true, zw_g0, zw_l0, zw_g1, zw_l1, zw_g2, zw_l2, zw_g3, zw_l3, zw_g5, zw_l5, zw_g6, zw_l6, zw_g7, zw_l7, zw_g9, zw_l9, zw_g10, zw_l10, zw_g15, zw_l15, zw_g16, zw_l16, zw_g48, zw_l48, zw_g50, zw_l50, zw_g57, zw_l57, zw_g97, zw_l97, zw_g100, zw_l100, zw_g200, zw_l200, zw_g999, zw_l999, zw_g9999, zw_l9999]
  refine ⟨V, x, rfl, hX, zMo_mono hV k (fun r now e k1 h1 x1 f1 => ?_)⟩
  simp only [zi_push, zi_iload, zi_lload, zi_aload, zi_istore, zi_astore, zi_lstore, zi_iinc, zi_i2, zi_i1, zi_idv, zi_l2, zi_ldv, zi_lsh, zi_i2l, zi_l2i, zi_lcmp, zi_dup, zi_dup2, zi_pop, zi_if1, zi_if2, zi_getI, zi_getL, zi_getR, zi_putI, zi_putZ, zi_putL, zi_aldI, zi_aldL, zi_astI, zi_astZ, zi_astL, zi_alen, zi_iret, zi_zret, zi_lret, zi_vret, zi_callV, zi_callS, zi_sw, zi_copyI, zi_copyL, zi_m2, zi_m1, zi_sval, zi_scod, zi_fmt, zi_balen, zi_bald, zi_bret, zi_callT, zq_nth, zq_put1, zq_put2, zq_clr, zq_nl, zq_tk, zq_ps, zq_sw, zq_l0, zq_a, zq_a1, List.length_cons, List.length_nil, List.nil_append, List.cons_append, List.append_nil, List.replicate, Nat.reduceAdd, Nat.reduceSub, Nat.reduceLeDiff, true_and, and_true, List.append_eq, List.cons.injEq, Value.int.injEq, Value.long.injEq, Value.ref.injEq, exists_and_left, exists_eq_left', and_assoc, zc_b, zc_0, zc_1, zc_10, zc_01, lg_cmp_ge, lg_cmp_le, lg_cmp_gt, lg_cmp_lt, lg_cmp_eq, zw_le, zw_lt, reduceIte, true_or, or_true, zw_g0, zw_l0, zw_g1, zw_l1, zw_g2, zw_l2, zw_g3, zw_l3, zw_g5, zw_l5, zw_g6, zw_l6, zw_g7, zw_l7, zw_g9, zw_l9, zw_g10, zw_l10, zw_g15, zw_l15, zw_g16, zw_l16, zw_g48, zw_l48, zw_g50, zw_l50, zw_g57, zw_l57, zw_g97, zw_l97, zw_g100, zw_l100, zw_g200, zw_l200, zw_g999, zw_l999, zw_g9999, zw_l9999]
  exact zKr_go hX k1 e x1 f1 (fun h' z => z)
/-! the same of the reference -/
def zPB (n : Nat) (bf : Nat → Int32) (k : Nat) (h : zq_H) : Prop := ∀ i, i < n → h.1 76 (16 * k + i) = bf i
theorem MC_76 {b : Nat} {V : zV} {h h' : zq_H} (hX : MC b V h) (f : zq_fm [] [76] h h') (e : ∀ j, j < 16 * vk V → h'.1 76 j = h.1 76 j) : MC b V h' := by
  have hn := hX.1.1
  obtain ⟨b1, b2, b3, b4, lv, b5, b6, b7⟩ := hX.2.2.2.1
  refine MC_B hX ⟨b1, fun i hi => ?_, ?_, fun j hj i hi => ?_, lv, b5, ?_, fun j hj => ?_⟩ f (by decide)
  · rw [(f.1 63 (by decide) (by decide)).1]
    exact b2 i hi
  · rw [(f.2 31 (by decide)).1]
    exact b3
  · have hj2 : j < vk V := hj
    rw [e _ (by omega)]
    exact b4 j hj i hi
  · rw [(f.2 5 (by decide)).1]
    exact b6
  · rw [(f.1 99 (by decide) (by decide)).1, (f.1 100 (by decide) (by decide)).1, (f.1 101 (by decide) (by decide)).1]
    exact b7 j hj
def sp_putsBy : zq_Sp := fun args h Q => ∃ b V, args = [.ref 56] ∧ MC b V h ∧ ∀ h', MC b V h' → zPB (vn V) (vnow V) (vk V) h' → zq_fm [] [76] h h' → Q none h'
def I_putsBy (Q : zq_Q) (z : zq_H × Nat × zV × Nat) : zq_P := fun ls st h => match z with
  | (h0, b, V, t) => ls = [some (.ref 56), some (.int (nI t))] ∧ st = [] ∧ t ≤ 16 ∧ MC b V h0 ∧ zq_fm [] [76] h0 h ∧ (∀ j, j < 16 * vk V → h.1 76 j = h0.1 76 j) ∧ (∀ i, i < t → h.1 76 (16 * vk V + i) = h0.1 63 i) ∧ ∀ h', MC b V h' → zPB (vn V) (vnow V) (vk V) h' → zq_fm [] [76] h0 h' → Q none h'
theorem ok_putsBy : zq_M yX12_putsBy cX12_putsBy 2 none 0 0 sp_putsBy := by
  refine mX12_putsBy (fun z => 16 - z.2.2.2) I_putsBy (fun args h Q hs => ?_) (fun Q z ls st h hi => ?_)
  · obtain ⟨b, V, rfl, hX, k⟩ := hs
    refine ⟨Nat.le_of_ble_eq_true rfl, ?_⟩
    simp only [xX12_putsBy_34, xX12_putsBy_8, xX12_putsBy_2, xX12_putsBy_0, zi_push, zi_iload, zi_lload, zi_aload, zi_istore, zi_astore, zi_lstore, zi_iinc, zi_i2, zi_i1, zi_idv, zi_l2, zi_ldv, zi_lsh, zi_i2l, zi_l2i, zi_lcmp, zi_dup, zi_dup2, zi_pop, zi_if1, zi_if2, zi_getI, zi_getL, zi_getR, zi_putI, zi_putZ, zi_putL, zi_aldI, zi_aldL, zi_astI, zi_astZ, zi_astL, zi_alen, zi_iret, zi_zret, zi_lret, zi_vret, zi_callV, zi_callS, zi_sw, zi_copyI, zi_copyL, zi_m2, zi_m1, zi_sval, zi_scod, zi_fmt, zi_balen, zi_bald, zi_bret, zi_callT, zq_nth, zq_put1, zq_put2, zq_clr, zq_nl, zq_tk, zq_ps, zq_sw, zq_l0, zq_a, zq_a1, List.length_cons, List.length_nil, List.nil_append, List.cons_append, List.append_nil, List.replicate, Nat.reduceAdd, Nat.reduceSub, Nat.reduceLeDiff, true_and, and_true, List.append_eq, List.cons.injEq, Value.int.injEq, Value.long.injEq, Value.ref.injEq, exists_and_left, exists_eq_left', and_assoc, zc_b, zc_0, zc_1, zc_10, zc_01, lg_cmp_ge, lg_cmp_le, lg_cmp_gt, lg_cmp_lt, lg_cmp_eq, zw_le, zw_lt, reduceIte, true_or, or_true, zw_g0, zw_l0, zw_g1, zw_l1, zw_g2, zw_l2, zw_g3, zw_l3, zw_g5, zw_l5, zw_g6, zw_l6, zw_g7, zw_l7, zw_g9, zw_l9, zw_g10, zw_l10, zw_g15, zw_l15, zw_g16, zw_l16, zw_g48, zw_l48, zw_g50, zw_l50, zw_g57, zw_l57, zw_g97, zw_l97, zw_g100, zw_l100, zw_g200, zw_l200, zw_g999, zw_l999, zw_g9999, zw_l9999]
    exact ⟨(h, b, V, 0), rfl, rfl, by omega, hX, zq_fm_rf, fun j _ => rfl, fun i hi => absurd hi (Nat.not_lt_zero _), k⟩
  · obtain ⟨h0, b, V, t⟩ := z
    obtain ⟨rfl, rfl, ht, hX, hf, h1, h2, k⟩ := hi
    have hn := hX.1.1
    have hk := hX.2.2.2.1.2.2.1.2
    have e31 : h.1 56 31 = nI (vk V) := by rw [(hf.2 31 (by decide)).1]; exact hX.2.2.2.1.2.2.1.1
    have e16 : (16 ≤ nI t) = (t = 16) := zl_ge ht (by decide : 16 < 2 ^ 31)
    simp only [xX12_putsBy_2, xX12_putsBy_8, xX12_putsBy_34, e31, e16, z16b, zi_push, zi_iload, zi_lload, zi_aload, zi_istore, zi_astore, zi_lstore, zi_iinc, zi_i2, zi_i1, zi_idv, zi_l2, zi_ldv, zi_lsh, zi_i2l, zi_l2i, zi_lcmp, zi_dup, zi_dup2, zi_pop, zi_if1, zi_if2, zi_getI, zi_getL, zi_getR, zi_putI, zi_putZ, zi_putL, zi_aldI, zi_aldL, zi_astI, zi_astZ, zi_astL, zi_alen, zi_iret, zi_zret, zi_lret, zi_vret, zi_callV, zi_callS, zi_sw, zi_copyI, zi_copyL, zi_m2, zi_m1, zi_sval, zi_scod, zi_fmt, zi_balen, zi_bald, zi_bret, zi_callT, zq_nth, zq_put1, zq_put2, zq_clr, zq_nl, zq_tk, zq_ps, zq_sw, zq_l0, zq_a, zq_a1, List.length_cons, List.length_nil, List.nil_append, List.cons_append, List.append_nil, List.replicate, Nat.reduceAdd, Nat.reduceSub, Nat.reduceLeDiff, true_and, and_true, List.append_eq, List.cons.injEq, Value.int.injEq, Value.long.injEq, Value.ref.injEq, exists_and_left, exists_eq_left', and_assoc, zc_b, zc_0, zc_1, zc_10, zc_01, lg_cmp_ge, lg_cmp_le, lg_cmp_gt, lg_cmp_lt, lg_cmp_eq, zw_le, zw_lt, reduceIte, true_or, or_true, zw_g0, zw_l0, zw_g1, zw_l1, zw_g2, zw_l2, zw_g3, zw_l3, zw_g5, zw_l5, zw_g6, zw_l6, zw_g7, zw_l7, zw_g9, zw_l9, zw_g10, zw_l10, zw_g15, zw_l15, zw_g16, zw_l16, zw_g48, zw_l48, zw_g50, zw_l50, zw_g57, zw_l57, zw_g97, zw_l97, zw_g100, zw_l100, zw_g200, zw_l200, zw_g999, zw_l999, zw_g9999, zw_l9999]
    refine ⟨fun q => ?_, fun q => ?_⟩
    · subst q
      refine k h (MC_76 hX hf h1) (fun i hi => ?_) hf
      rw [h2 i (by omega)]
      exact hX.2.2.2.1.2.1 i hi
    · rw [nI_clamp (by omega), nI_clamp (by omega), (hf.1 63 (by decide) (by decide)).1]
      refine ⟨vp_in_nI (by omega) (by decide), vp_in_nI (by omega) (by decide), (h0, b, V, t + 1), by dsimp only; omega, by rw [nI_1], rfl, by omega, hX, zq_fm_I hf (by decide), fun j hj => ?_, fun i hi => ?_, k⟩
      · have q1 : ¬ j = 16 * vk V + t := by omega
        simpa [zq_sI, q1] using h1 j hj
      · by_cases q1 : i = t
        · simp [zq_sI, q1]
        · simpa [zq_sI, q1] using h2 i (by omega)
def zKm (b : Nat) (V : zV) (h : zq_H) (Q : zq_Q) : Int32 → (Nat → Int32) → Prop := fun r now => ∀ h', MC b (vSn V now) h' → zq_fm [] [63, 72, 73] h h' → Q (some (.int r)) h'
def sp_mIsSliceL : zq_Sp := fun args h Q => ∃ b V x y, args = [.ref 56, .int x, .int y] ∧ MC b V h ∧ (¬ zsl (vn V) x y → Q (some (.int 0)) h) ∧ (zsl (vn V) x y → Q (some (.int 1)) h)
theorem ok_mIsSliceL : zq_M yX12_isSlice cX12_isSlice 3 (some .boolean) 1 2 sp_mIsSliceL := zq_M_w ok_mIsSlice (fun args h Q ⟨b, V, x, y, e, hX, k1, k2⟩ => ⟨x, y, e, by rw [hX.1.2.1]; exact nI_pos' (by have := hX.1.1; omega), by
  rw [hX.1.2.1]
  split
  · next q => exact k2 q
  · next q => exact k1 q⟩)
def sp_mIsGuestL : zq_Sp := fun args h Q => ∃ b V v, args = [.ref 56, .int v] ∧ MC b V h ∧ (¬ (0 ≤ v ∧ v < nI (vg V)) → Q (some (.int 0)) h) ∧ ((0 ≤ v ∧ v < nI (vg V)) → Q (some (.int 1)) h)
theorem ok_mIsGuestL : zq_M yX12_isGuest cX12_isGuest 2 (some .boolean) 1 1 sp_mIsGuestL := zq_M_w ok_mIsGuest (fun args h Q ⟨b, V, v, e, hX, k1, k2⟩ => ⟨v, e, by rw [hX.2.1.2.1]; exact nI_pos' (by have := hX.2.1.1; omega), by
  rw [hX.2.1.2.1]
  split
  · next q => exact k2 q
  · next q => exact k1 q⟩)
def sp_mIsCellL : zq_Sp := fun args h Q => ∃ b V v, args = [.ref 56, .int v] ∧ MC b V h ∧ (¬ (0 ≤ v ∧ v < nI (vn V)) → Q (some (.int 0)) h) ∧ ((0 ≤ v ∧ v < nI (vn V)) → Q (some (.int 1)) h)
theorem ok_mIsCellL : zq_M yX12_isCell cX12_isCell 2 (some .boolean) 1 1 sp_mIsCellL := zq_M_w ok_mIsCell (fun args h Q ⟨b, V, v, e, hX, k1, k2⟩ => ⟨v, e, by rw [hX.1.2.1]; exact nI_pos' (by have := hX.1.1; omega), by
  rw [hX.1.2.1]
  split
  · next q => exact k2 q
  · next q => exact k1 q⟩)
def sp_mWorthOfL : zq_Sp := fun args h Q => ∃ b V j c, args = [.ref 56, .int (nI j), .int (nI c)] ∧ j < vg V ∧ c < vn V ∧ ZV V ∧ MC b V h ∧ ∀ h', MC b V h' → zq_fm [] [72, 73] h h' → Q (some (.int (nI (vwN V j c)))) h'
theorem ok_mWorthOfL : zq_M yX12_worthOf cX12_worthOf 3 (some .int) 1 4 sp_mWorthOfL := fun l D Y ad args h Q ⟨b, V, k⟩ => ok_mWorthOfV b V l D Y ad args h Q k
theorem MC_put {b : Nat} {V : zV} {h : zq_H} {i : Nat} {v : Int32} (hX : MC b V h) : MC b (vSn V (zupd (vnow V) i v)) (zq_setI h 63 i v) :=
  MC_B hX (MB_put hX.2.2.2.1) (zq_fm_I (fs := []) (ps := [63]) zq_fm_rf (by decide)) (by decide)
def sp_gives : zq_Sp := fun args h Q => ∃ b V g x y, args = [.ref 56, .int g, .int x, .int y] ∧ ZV V ∧ MC b V h ∧ zG V g x y (zKm b V h Q)
def I_gv25 (Q : zq_Q) (z : zq_H × (Nat × zV) × Nat × Nat × Nat × Nat) : zq_P := fun ls st h => match z with
  | (h0, (bb, V), j, a, b, c) => ls = [some (.ref 56), some (.int (nI j)), some (.int (nI a)), some (.int (nI b)), some (.int (nI (vS V j c - vS V j a))), some (.int (nI c))] ∧ st = [] ∧ zq_fm [] [63, 72, 73] h0 h ∧ (j < vg V ∧ a ≤ b ∧ b < vn V ∧ a ≤ c ∧ c ≤ b + 1) ∧ (∀ i, a ≤ i → i < c → vnow V i = -1) ∧ ZV V ∧ MC bb V h ∧ zG V (nI j) (nI a) (nI b) (zKm bb V h0 Q)
def I_gv66 (Q : zq_Q) (z : zq_H × (Nat × zV) × Nat × Nat × Nat × Nat) : zq_P := fun ls st h => match z with
  | (h0, (bb, V), j, a, b, c) => ls = [some (.ref 56), some (.int (nI j)), some (.int (nI a)), some (.int (nI b)), some (.int (nI (vS V j (b + 1) - vS V j a))), some (.int (nI c))] ∧ st = [] ∧ zq_fm [] [63, 72, 73] h0 h ∧ (j < vg V ∧ a ≤ b ∧ b < vn V ∧ a ≤ c ∧ c ≤ b + 1) ∧ (∀ i, a ≤ i → i < b + 1 → vnow V i = -1) ∧ MC bb (vSn V (zfil (vnow V) (nI j) a c)) h ∧ zG V (nI j) (nI a) (nI b) (zKm bb V h0 Q)
theorem ok_gives : zq_M yX12_gives cX12_gives 6 (some .int) 1 5 sp_gives := by
  refine mX12_gives ok_mIsGuestL (by decide) ok_mIsSliceL (by decide) ok_mWorthOfL (by decide) (fun z => 100 + (z.2.2.2.2.1 + 1 - z.2.2.2.2.2)) I_gv25 (fun z => z.2.2.2.2.1 + 1 - z.2.2.2.2.2) I_gv66 (fun args h Q hs => ?_) (fun Q z ls st h hi => ?_) (fun Q z ls st h hi => ?_)
  · obtain ⟨bb, V, g, x, y, rfl, hV, hX, k⟩ := hs
    have hg := hX.2.1.1
    have hn := hX.1.1
    have kn : ¬ ((0 ≤ g ∧ g < nI (vg V)) ∧ zsl (vn V) x y) → Q (some (.int (-1))) h := fun q => k.1 q h hX zq_fm_rf
    refine ⟨Nat.le_of_ble_eq_true rfl, ?_⟩
    simp only [xX12_gives_86, xX12_gives_72, xX12_gives_66, xX12_gives_63, xX12_gives_45, xX12_gives_42, xX12_gives_31, xX12_gives_25, xX12_gives_19, xX12_gives_17, xX12_gives_8, xX12_gives_0, zi_push, zi_iload, zi_lload, zi_aload, zi_istore, zi_astore, zi_lstore, zi_iinc, zi_i2, zi_i1, zi_idv, zi_l2, zi_ldv, zi_lsh, zi_i2l, zi_l2i, zi_lcmp, zi_dup, zi_dup2, zi_pop, zi_if1, zi_if2, zi_getI, zi_getL, zi_getR, zi_putI, zi_putZ, zi_putL, zi_aldI, zi_aldL, zi_astI, zi_astZ, zi_astL, zi_alen, zi_iret, zi_zret, zi_lret, zi_vret, zi_callV, zi_callS, zi_sw, zi_copyI, zi_copyL, zi_m2, zi_m1, zi_sval, zi_scod, zi_fmt, zi_balen, zi_bald, zi_bret, zi_callT, zq_nth, zq_put1, zq_put2, zq_clr, zq_nl, zq_tk, zq_ps, zq_sw, zq_l0, zq_a, zq_a1, List.length_cons, List.length_nil, List.nil_append, List.cons_append, List.append_nil, List.replicate, Nat.reduceAdd, Nat.reduceSub, Nat.reduceLeDiff, true_and, and_true, List.append_eq, List.cons.injEq, Value.int.injEq, Value.long.injEq, Value.ref.injEq, exists_and_left, exists_eq_left', and_assoc, zc_b, zc_0, zc_1, zc_10, zc_01, lg_cmp_ge, lg_cmp_le, lg_cmp_gt, lg_cmp_lt, lg_cmp_eq, zw_le, zw_lt, reduceIte, true_or, or_true, zw_g0, zw_l0, zw_g1, zw_l1, zw_g2, zw_l2, zw_g3, zw_l3, zw_g5, zw_l5, zw_g6, zw_l6, zw_g7, zw_l7, zw_g9, zw_l9, zw_g10, zw_l10, zw_g15, zw_l15, zw_g16, zw_l16, zw_g48, zw_l48, zw_g50, zw_l50, zw_g57, zw_l57, zw_g97, zw_l97, zw_g100, zw_l100, zw_g200, zw_l200, zw_g999, zw_l999, zw_g9999, zw_l9999]
    refine ⟨bb, V, g, rfl, hX, fun q => ?_, fun q => ?_⟩
    · dsimp only
      exact ⟨fun _ => kn (fun z => q z.1), fun z => absurd rfl z⟩
    · dsimp only
      refine ⟨fun z => absurd z (by decide), fun _ => ⟨Nat.le_of_ble_eq_true rfl, bb, V, x, y, rfl, hX, fun q2 => ?_, fun q2 => ?_⟩⟩
      · dsimp only
        exact ⟨fun _ => kn (fun z => q2 z.2), fun z => absurd rfl z⟩
      · dsimp only
        refine ⟨fun z => absurd z (by decide), fun _ => ?_⟩
        obtain ⟨j, hj, rfl⟩ := zg_nat (by omega) q
        obtain ⟨a, b, rfl, rfl, hab, hb⟩ := zsl_nat (by omega) q2
        exact ⟨(h, (bb, V), j, a, b, a), by rw [Nat.sub_self]; rfl, rfl, zq_fm_rf, ⟨hj, hab, hb, Nat.le_refl _, by omega⟩, fun i h1 h2 => by omega, hV, hX, k⟩
  · obtain ⟨h0, ⟨bb, V⟩, j, a, b, c⟩ := z
    obtain ⟨rfl, rfl, hf, ⟨hj, hab, hb, hac, hc⟩, hi, hV, hX, k⟩ := hi
    have hn := hX.1.1
    simp only [xX12_gives_25, xX12_gives_31, xX12_gives_42, xX12_gives_45, xX12_gives_63, zlt_s (show b < 2 ^ 30 by omega) hc, zi_push, zi_iload, zi_lload, zi_aload, zi_istore, zi_astore, zi_lstore, zi_iinc, zi_i2, zi_i1, zi_idv, zi_l2, zi_ldv, zi_lsh, zi_i2l, zi_l2i, zi_lcmp, zi_dup, zi_dup2, zi_pop, zi_if1, zi_if2, zi_getI, zi_getL, zi_getR, zi_putI, zi_putZ, zi_putL, zi_aldI, zi_aldL, zi_astI, zi_astZ, zi_astL, zi_alen, zi_iret, zi_zret, zi_lret, zi_vret, zi_callV, zi_callS, zi_sw, zi_copyI, zi_copyL, zi_m2, zi_m1, zi_sval, zi_scod, zi_fmt, zi_balen, zi_bald, zi_bret, zi_callT, zq_nth, zq_put1, zq_put2, zq_clr, zq_nl, zq_tk, zq_ps, zq_sw, zq_l0, zq_a, zq_a1, List.length_cons, List.length_nil, List.nil_append, List.cons_append, List.append_nil, List.replicate, Nat.reduceAdd, Nat.reduceSub, Nat.reduceLeDiff, true_and, and_true, List.append_eq, List.cons.injEq, Value.int.injEq, Value.long.injEq, Value.ref.injEq, exists_and_left, exists_eq_left', and_assoc, zc_b, zc_0, zc_1, zc_10, zc_01, lg_cmp_ge, lg_cmp_le, lg_cmp_gt, lg_cmp_lt, lg_cmp_eq, zw_le, zw_lt, reduceIte, true_or, or_true, zw_g0, zw_l0, zw_g1, zw_l1, zw_g2, zw_l2, zw_g3, zw_l3, zw_g5, zw_l5, zw_g6, zw_l6, zw_g7, zw_l7, zw_g9, zw_l9, zw_g10, zw_l10, zw_g15, zw_l15, zw_g16, zw_l16, zw_g48, zw_l48, zw_g50, zw_l50, zw_g57, zw_l57, zw_g97, zw_l97, zw_g100, zw_l100, zw_g200, zw_l200, zw_g999, zw_l999, zw_g9999, zw_l9999]
    refine ⟨fun q => ?_, fun q => ⟨vp_in_nI (by omega) (by decide), ?_⟩⟩
    · subst q
      refine ⟨(h0, (bb, V), j, a, b, a), by dsimp only; omega, rfl, rfl, hf, ⟨hj, hab, hb, Nat.le_refl _, by omega⟩, hi, ?_, k⟩
      rw [zfil_0]
      exact hX
    · rw [nI_clamp (by omega), hX.2.2.2.1.2.1 c (by omega)]
      refine ⟨fun q2 => ⟨bb, V, j, c, rfl, hj, by omega, hV, hX, fun h1 x1 f1 => ?_⟩, fun q2 => ?_⟩
      · dsimp only
        have e : vS V j (c + 1) = vS V j c + vwN V j c := rfl
        have hm := vS_mono (V := V) (j := j) hac
        rw [nI_add, show vS V j c - vS V j a + vwN V j c = vS V j (c + 1) - vS V j a by omega]
        refine ⟨(h0, (bb, V), j, a, b, c + 1), by dsimp only; omega, by rw [nI_1], rfl, zq_fm_t hf f1 (by decide), ⟨hj, hab, hb, by omega, by omega⟩, fun i h1 h2 => ?_, hV, x1, k⟩
        by_cases q3 : i = c
        · rw [q3]
          exact q2
        · exact hi i h1 (by omega)
      · exact (k.2 j a b hj hab hb rfl rfl rfl).1 ⟨c, hac, by omega, q2⟩ h hX hf
  · obtain ⟨h0, ⟨bb, V⟩, j, a, b, c⟩ := z
    obtain ⟨rfl, rfl, hf, ⟨hj, hab, hb, hac, hc⟩, hi, hX, k⟩ := hi
    have hn : vn V ≤ 16 := hX.1.1
    simp only [xX12_gives_66, xX12_gives_72, xX12_gives_86, zlt_s (show b < 2 ^ 30 by omega) hc, zi_push, zi_iload, zi_lload, zi_aload, zi_istore, zi_astore, zi_lstore, zi_iinc, zi_i2, zi_i1, zi_idv, zi_l2, zi_ldv, zi_lsh, zi_i2l, zi_l2i, zi_lcmp, zi_dup, zi_dup2, zi_pop, zi_if1, zi_if2, zi_getI, zi_getL, zi_getR, zi_putI, zi_putZ, zi_putL, zi_aldI, zi_aldL, zi_astI, zi_astZ, zi_astL, zi_alen, zi_iret, zi_zret, zi_lret, zi_vret, zi_callV, zi_callS, zi_sw, zi_copyI, zi_copyL, zi_m2, zi_m1, zi_sval, zi_scod, zi_fmt, zi_balen, zi_bald, zi_bret, zi_callT, zq_nth, zq_put1, zq_put2, zq_clr, zq_nl, zq_tk, zq_ps, zq_sw, zq_l0, zq_a, zq_a1, List.length_cons, List.length_nil, List.nil_append, List.cons_append, List.append_nil, List.replicate, Nat.reduceAdd, Nat.reduceSub, Nat.reduceLeDiff, true_and, and_true, List.append_eq, List.cons.injEq, Value.int.injEq, Value.long.injEq, Value.ref.injEq, exists_and_left, exists_eq_left', and_assoc, zc_b, zc_0, zc_1, zc_10, zc_01, lg_cmp_ge, lg_cmp_le, lg_cmp_gt, lg_cmp_lt, lg_cmp_eq, zw_le, zw_lt, reduceIte, true_or, or_true, zw_g0, zw_l0, zw_g1, zw_l1, zw_g2, zw_l2, zw_g3, zw_l3, zw_g5, zw_l5, zw_g6, zw_l6, zw_g7, zw_l7, zw_g9, zw_l9, zw_g10, zw_l10, zw_g15, zw_l15, zw_g16, zw_l16, zw_g48, zw_l48, zw_g50, zw_l50, zw_g57, zw_l57, zw_g97, zw_l97, zw_g100, zw_l100, zw_g200, zw_l200, zw_g999, zw_l999, zw_g9999, zw_l9999]
    refine ⟨fun q => ?_, fun q => ⟨vp_in_nI (by omega) (by decide), ?_⟩⟩
    · subst q
      exact (k.2 j a b hj hab hb rfl rfl rfl).2 (fun i h1 h2 => hi i h1 (by omega)) h hX hf
    · rw [nI_clamp (by omega)]
      refine ⟨(h0, (bb, V), j, a, b, c + 1), by dsimp only; omega, by rw [nI_1], rfl, zq_fm_I hf (by decide), ⟨hj, hab, hb, by omega, by omega⟩, hi, ?_, k⟩
      rw [← zfil_s (vnow V) (nI j) hac]
      exact MC_put hX
def sp_backs : zq_Sp := fun args h Q => ∃ b V x y, args = [.ref 56, .int x, .int y] ∧ ZV V ∧ MC b V h ∧ zTb V x y (zKm b V h Q)
def I_bk16 (Q : zq_Q) (z : zq_H × (Nat × zV) × Nat × Nat × Nat) : zq_P := fun ls st h => match z with
  | (h0, (bb, V), a, b, t) => ∃ s5, ls = [some (.ref 56), some (.int (nI a)), some (.int (nI b)), some (.int (nI (zT V a t).1)), some (.int (nI (a + t))), s5] ∧ st = [] ∧ zq_fm [] [63, 72, 73] h0 h ∧ (a ≤ b ∧ b < vn V ∧ a + t ≤ b + 1) ∧ ZV V ∧ MC bb (vSn V (zT V a t).2) h ∧ (∀ i, a + t ≤ i → (zT V a t).2 i = vnow V i) ∧ zTb V (nI a) (nI b) (zKm bb V h0 Q)
theorem zho_g {g : Nat} {x : Int32} (hg : g ≤ 6) (h : zho g x) : (0 ≤ x ∧ x < nI g) ↔ ¬ (x = -1 ∨ x = 9) := by
  rcases h with rfl | rfl | ⟨j, hj, rfl⟩
  · exact ⟨fun q => absurd q.1 (by decide), fun q => absurd (Or.inl rfl) q⟩
  · refine ⟨fun q => absurd ((nI_ltI (a := 9) (by decide) (by omega)).mp q.2) (by omega), fun q => absurd (Or.inr rfl) q⟩
  · refine ⟨fun _ => ?_, fun _ => ⟨nI_pos' (by omega), nI_lt hj (by omega)⟩⟩
    rintro (q | q)
    · have : 0 ≤ nI j := nI_pos' (by omega)
      rw [q] at this
      exact absurd this (by decide)
    · exact absurd ((nI_eq (b := 9) (by omega) (by decide)).mp q) (by omega)
theorem ok_backs : zq_M yX12_backs cX12_backs 6 (some .int) 1 3 sp_backs := by
  refine mX12_backs ok_mIsSliceL (by decide) ok_mIsGuestL (by decide) ok_flag (by decide) (fun z => z.2.2.2.1 + 1 - (z.2.2.1 + z.2.2.2.2)) I_bk16 (fun args h Q hs => ?_) (fun Q z ls st h hi => ?_)
  · obtain ⟨bb, V, x, y, rfl, hV, hX, k⟩ := hs
    have hn := hX.1.1
    refine ⟨Nat.le_of_ble_eq_true rfl, ?_⟩
    simp only [xX12_backs_72, xX12_backs_65, xX12_backs_58, xX12_backs_54, xX12_backs_22, xX12_backs_16, xX12_backs_11, xX12_backs_9, xX12_backs_0, zi_push, zi_iload, zi_lload, zi_aload, zi_istore, zi_astore, zi_lstore, zi_iinc, zi_i2, zi_i1, zi_idv, zi_l2, zi_ldv, zi_lsh, zi_i2l, zi_l2i, zi_lcmp, zi_dup, zi_dup2, zi_pop, zi_if1, zi_if2, zi_getI, zi_getL, zi_getR, zi_putI, zi_putZ, zi_putL, zi_aldI, zi_aldL, zi_astI, zi_astZ, zi_astL, zi_alen, zi_iret, zi_zret, zi_lret, zi_vret, zi_callV, zi_callS, zi_sw, zi_copyI, zi_copyL, zi_m2, zi_m1, zi_sval, zi_scod, zi_fmt, zi_balen, zi_bald, zi_bret, zi_callT, zq_nth, zq_put1, zq_put2, zq_clr, zq_nl, zq_tk, zq_ps, zq_sw, zq_l0, zq_a, zq_a1, List.length_cons, List.length_nil, List.nil_append, List.cons_append, List.append_nil, List.replicate, Nat.reduceAdd, Nat.reduceSub, Nat.reduceLeDiff, true_and, and_true, List.append_eq, List.cons.injEq, Value.int.injEq, Value.long.injEq, Value.ref.injEq, exists_and_left, exists_eq_left', and_assoc, zc_b, zc_0, zc_1, zc_10, zc_01, lg_cmp_ge, lg_cmp_le, lg_cmp_gt, lg_cmp_lt, lg_cmp_eq, zw_le, zw_lt, reduceIte, true_or, or_true, zw_g0, zw_l0, zw_g1, zw_l1, zw_g2, zw_l2, zw_g3, zw_l3, zw_g5, zw_l5, zw_g6, zw_l6, zw_g7, zw_l7, zw_g9, zw_l9, zw_g10, zw_l10, zw_g15, zw_l15, zw_g16, zw_l16, zw_g48, zw_l48, zw_g50, zw_l50, zw_g57, zw_l57, zw_g97, zw_l97, zw_g100, zw_l100, zw_g200, zw_l200, zw_g999, zw_l999, zw_g9999, zw_l9999]
    refine ⟨bb, V, x, y, rfl, hX, fun q => ?_, fun q => ?_⟩
    · dsimp only
      exact ⟨fun _ => k.1 q h hX zq_fm_rf, fun z => absurd rfl z⟩
    · dsimp only
      refine ⟨fun z => absurd z (by decide), fun _ => ?_⟩
      obtain ⟨a, b, rfl, rfl, hab, hb⟩ := zsl_nat (by omega) q
      exact ⟨(h, (bb, V), a, b, 0), none, rfl, rfl, zq_fm_rf, ⟨hab, hb, by omega⟩, hV, hX, fun i _ => rfl, k⟩
  · obtain ⟨h0, ⟨bb, V⟩, a, b, t⟩ := z
    obtain ⟨s5, rfl, rfl, hf, ⟨hab, hb, ht⟩, hV, hX, hr, k⟩ := hi
    have hn : vn V ≤ 16 := hX.1.1
    have hg : vg V ≤ 6 := hX.2.1.1
    have hr0 := hr (a + t) (Nat.le_refl _)
    simp only [xX12_backs_16, xX12_backs_22, xX12_backs_72, zlt_s (show b < 2 ^ 30 by omega) ht, zi_push, zi_iload, zi_lload, zi_aload, zi_istore, zi_astore, zi_lstore, zi_iinc, zi_i2, zi_i1, zi_idv, zi_l2, zi_ldv, zi_lsh, zi_i2l, zi_l2i, zi_lcmp, zi_dup, zi_dup2, zi_pop, zi_if1, zi_if2, zi_getI, zi_getL, zi_getR, zi_putI, zi_putZ, zi_putL, zi_aldI, zi_aldL, zi_astI, zi_astZ, zi_astL, zi_alen, zi_iret, zi_zret, zi_lret, zi_vret, zi_callV, zi_callS, zi_sw, zi_copyI, zi_copyL, zi_m2, zi_m1, zi_sval, zi_scod, zi_fmt, zi_balen, zi_bald, zi_bret, zi_callT, zq_nth, zq_put1, zq_put2, zq_clr, zq_nl, zq_tk, zq_ps, zq_sw, zq_l0, zq_a, zq_a1, List.length_cons, List.length_nil, List.nil_append, List.cons_append, List.append_nil, List.replicate, Nat.reduceAdd, Nat.reduceSub, Nat.reduceLeDiff, true_and, and_true, List.append_eq, List.cons.injEq, Value.int.injEq, Value.long.injEq, Value.ref.injEq, exists_and_left, exists_eq_left', and_assoc, zc_b, zc_0, zc_1, zc_10, zc_01, lg_cmp_ge, lg_cmp_le, lg_cmp_gt, lg_cmp_lt, lg_cmp_eq, zw_le, zw_lt, reduceIte, true_or, or_true, zw_g0, zw_l0, zw_g1, zw_l1, zw_g2, zw_l2, zw_g3, zw_l3, zw_g5, zw_l5, zw_g6, zw_l6, zw_g7, zw_l7, zw_g9, zw_l9, zw_g10, zw_l10, zw_g15, zw_l15, zw_g16, zw_l16, zw_g48, zw_l48, zw_g50, zw_l50, zw_g57, zw_l57, zw_g97, zw_l97, zw_g100, zw_l100, zw_g200, zw_l200, zw_g999, zw_l999, zw_g9999, zw_l9999]
    refine ⟨fun q => ?_, fun q => ?_⟩
    · have e : b + 1 - a = t := by omega
      have k2 := k.2 a b hab hb rfl rfl
      rw [e] at k2
      exact k2 h hX hf
    have e63 : h.1 63 (a + t) = vnow V (a + t) := by
      rw [← hr0]
      exact hX.2.2.2.1.2.1 (a + t) (by show a + t < vn V; omega)
    have hh := hV.2.2.2.1 (a + t) (by omega)
    have v : vp_in (nI (a + t)) 16 := vp_in_nI (by omega) (by decide)
    rw [nI_clamp (by omega), e63]
    refine ⟨v, ?_⟩
    have fin : ∀ (s : Nat × (Nat → Int32)) h1 s5, s = zT V a (t + 1) → MC bb (vSn V s.2) h1 → zq_fm [] [63, 72, 73] h0 h1 → (∀ i, a + (t + 1) ≤ i → s.2 i = vnow V i) → ∃ b9 : zq_H × (Nat × zV) × Nat × Nat × Nat, b9.2.2.2.1 + 1 - (b9.2.2.1 + b9.2.2.2.2) < b + 1 - (a + t) ∧ I_bk16 Q b9 [some (.ref 56), some (.int (nI a)), some (.int (nI b)), some (.int (nI s.1)), some (.int (nI (a + t) + 1)), s5] [] h1 := by
      intro s h1 s5 e x f r
      subst e
      exact ⟨(h0, (bb, V), a, b, t + 1), by dsimp only; omega, s5, by rw [nI_1]; rfl, rfl, f, ⟨hab, hb, by omega⟩, hV, x, r, k⟩
    rw [zT_s] at fin
    refine ⟨bb, vSn V (zT V a t).2, vnow V (a + t), rfl, hX, fun q2 => ?_, fun q2 => ?_⟩
    · have q3 : vnow V (a + t) = -1 ∨ vnow V (a + t) = 9 := Classical.not_not.mp (fun z => q2 ((zho_g hg hh).mpr z))
      rw [if_pos q3] at fin
      dsimp only
      simp only [sp_flag, xX12_backs_54, xX12_backs_58, xX12_backs_65, zi_push, zi_iload, zi_lload, zi_aload, zi_istore, zi_astore, zi_lstore, zi_iinc, zi_i2, zi_i1, zi_idv, zi_l2, zi_ldv, zi_lsh, zi_i2l, zi_l2i, zi_lcmp, zi_dup, zi_dup2, zi_pop, zi_if1, zi_if2, zi_getI, zi_getL, zi_getR, zi_putI, zi_putZ, zi_putL, zi_aldI, zi_aldL, zi_astI, zi_astZ, zi_astL, zi_alen, zi_iret, zi_zret, zi_lret, zi_vret, zi_callV, zi_callS, zi_sw, zi_copyI, zi_copyL, zi_m2, zi_m1, zi_sval, zi_scod, zi_fmt, zi_balen, zi_bald, zi_bret, zi_callT, zq_nth, zq_put1, zq_put2, zq_clr, zq_nl, zq_tk, zq_ps, zq_sw, zq_l0, zq_a, zq_a1, List.length_cons, List.length_nil, List.nil_append, List.cons_append, List.append_nil, List.replicate, Nat.reduceAdd, Nat.reduceSub, Nat.reduceLeDiff, true_and, and_true, List.append_eq, List.cons.injEq, Value.int.injEq, Value.long.injEq, Value.ref.injEq, exists_and_left, exists_eq_left', and_assoc, zc_b, zc_0, zc_1, zc_10, zc_01, lg_cmp_ge, lg_cmp_le, lg_cmp_gt, lg_cmp_lt, lg_cmp_eq, zw_le, zw_lt, reduceIte, true_or, or_true, zw_g0, zw_l0, zw_g1, zw_l1, zw_g2, zw_l2, zw_g3, zw_l3, zw_g5, zw_l5, zw_g6, zw_l6, zw_g7, zw_l7, zw_g9, zw_l9, zw_g10, zw_l10, zw_g15, zw_l15, zw_g16, zw_l16, zw_g48, zw_l48, zw_g50, zw_l50, zw_g57, zw_l57, zw_g97, zw_l97, zw_g100, zw_l100, zw_g200, zw_l200, zw_g999, zw_l999, zw_g9999, zw_l9999, not_true_eq_false, not_false_eq_true, forall_const, true_and, and_true, false_and, and_false, if_true, if_false, reduceIte, implies_true, and_self, ite_self, true_or, or_true, false_or, or_false, true_implies, false_implies, Classical.not_not, false_imp_iff, not_false_iff]
      rw [nI_clamp (by omega), e63]
      rw [Int32.add_zero]
      have e2 : zq_setI h 63 (a + t) (vnow V (a + t)) = h := by
        rw [← e63]
        exact zq_setI_self h 63 (a + t)
      first | (refine ⟨v, v, ?_⟩; rw [e2]; exact fin _ _ _ rfl hX hf (fun i hi => hr i (by omega))) | (refine ⟨Nat.le_of_ble_eq_true rfl, v, v, ?_⟩; rw [e2]; exact fin _ _ _ rfl hX hf (fun i hi => hr i (by omega)))
    · have q3 : ¬ (vnow V (a + t) = -1 ∨ vnow V (a + t) = 9) := (zho_g hg hh).mp q2
      rw [if_neg q3] at fin
      dsimp only
      simp only [sp_flag, xX12_backs_54, xX12_backs_58, xX12_backs_65, zc_10, zi_push, zi_iload, zi_lload, zi_aload, zi_istore, zi_astore, zi_lstore, zi_iinc, zi_i2, zi_i1, zi_idv, zi_l2, zi_ldv, zi_lsh, zi_i2l, zi_l2i, zi_lcmp, zi_dup, zi_dup2, zi_pop, zi_if1, zi_if2, zi_getI, zi_getL, zi_getR, zi_putI, zi_putZ, zi_putL, zi_aldI, zi_aldL, zi_astI, zi_astZ, zi_astL, zi_alen, zi_iret, zi_zret, zi_lret, zi_vret, zi_callV, zi_callS, zi_sw, zi_copyI, zi_copyL, zi_m2, zi_m1, zi_sval, zi_scod, zi_fmt, zi_balen, zi_bald, zi_bret, zi_callT, zq_nth, zq_put1, zq_put2, zq_clr, zq_nl, zq_tk, zq_ps, zq_sw, zq_l0, zq_a, zq_a1, List.length_cons, List.length_nil, List.nil_append, List.cons_append, List.append_nil, List.replicate, Nat.reduceAdd, Nat.reduceSub, Nat.reduceLeDiff, true_and, and_true, List.append_eq, List.cons.injEq, Value.int.injEq, Value.long.injEq, Value.ref.injEq, exists_and_left, exists_eq_left', and_assoc, zc_b, zc_0, zc_1, zc_10, zc_01, lg_cmp_ge, lg_cmp_le, lg_cmp_gt, lg_cmp_lt, lg_cmp_eq, zw_le, zw_lt, reduceIte, true_or, or_true, zw_g0, zw_l0, zw_g1, zw_l1, zw_g2, zw_l2, zw_g3, zw_l3, zw_g5, zw_l5, zw_g6, zw_l6, zw_g7, zw_l7, zw_g9, zw_l9, zw_g10, zw_l10, zw_g15, zw_l15, zw_g16, zw_l16, zw_g48, zw_l48, zw_g50, zw_l50, zw_g57, zw_l57, zw_g97, zw_l97, zw_g100, zw_l100, zw_g200, zw_l200, zw_g999, zw_l999, zw_g9999, zw_l9999, not_true_eq_false, not_false_eq_true, forall_const, true_and, and_true, false_and, and_false, if_true, if_false, reduceIte, implies_true, and_self, ite_self, true_or, or_true, false_or, or_false, true_implies, false_implies, Classical.not_not, false_imp_iff, not_false_iff]
      rw [nI_clamp (by omega), nI_1]
      have z0 : MC bb (vSn V (zupd (zT V a t).2 (a + t) (-1))) (zq_setI h 63 (a + t) (-1)) := MC_put hX
      have z1 := fin ((zT V a t).1 + 1, zupd (zT V a t).2 (a + t) (-1)) (zq_setI h 63 (a + t) (-1)) (some (.int 1)) rfl z0 (zq_fm_I hf (by decide)) (fun i hi => by
        show zupd (zT V a t).2 (a + t) (-1) i = _
        unfold zupd
        rw [if_neg (by omega)]
        exact hr i (by omega))
      first | exact ⟨v, z1⟩ | exact ⟨Nat.le_of_ble_eq_true rfl, v, z1⟩
def sp_eats : zq_Sp := fun args h Q => ∃ b V x, args = [.ref 56, .int x] ∧ MC b V h ∧ zMo V x (zKm b V h Q)
theorem ok_eats : zq_M yX12_eats cX12_eats 2 (some .int) 1 2 sp_eats := by
  refine mX12_eats ok_mIsCellL (by decide) (fun args h Q hs => ?_)
  obtain ⟨bb, V, x, rfl, hX, k⟩ := hs
  have hn := hX.1.1
  refine ⟨Nat.le_of_ble_eq_true rfl, ?_⟩
  simp only [xX12_eats_23, xX12_eats_20, xX12_eats_10, xX12_eats_8, xX12_eats_0, zi_push, zi_iload, zi_lload, zi_aload, zi_istore, zi_astore, zi_lstore, zi_iinc, zi_i2, zi_i1, zi_idv, zi_l2, zi_ldv, zi_lsh, zi_i2l, zi_l2i, zi_lcmp, zi_dup, zi_dup2, zi_pop, zi_if1, zi_if2, zi_getI, zi_getL, zi_getR, zi_putI, zi_putZ, zi_putL, zi_aldI, zi_aldL, zi_astI, zi_astZ, zi_astL, zi_alen, zi_iret, zi_zret, zi_lret, zi_vret, zi_callV, zi_callS, zi_sw, zi_copyI, zi_copyL, zi_m2, zi_m1, zi_sval, zi_scod, zi_fmt, zi_balen, zi_bald, zi_bret, zi_callT, zq_nth, zq_put1, zq_put2, zq_clr, zq_nl, zq_tk, zq_ps, zq_sw, zq_l0, zq_a, zq_a1, List.length_cons, List.length_nil, List.nil_append, List.cons_append, List.append_nil, List.replicate, Nat.reduceAdd, Nat.reduceSub, Nat.reduceLeDiff, true_and, and_true, List.append_eq, List.cons.injEq, Value.int.injEq, Value.long.injEq, Value.ref.injEq, exists_and_left, exists_eq_left', and_assoc, zc_b, zc_0, zc_1, zc_10, zc_01, lg_cmp_ge, lg_cmp_le, lg_cmp_gt, lg_cmp_lt, lg_cmp_eq, zw_le, zw_lt, reduceIte, true_or, or_true, zw_g0, zw_l0, zw_g1, zw_l1, zw_g2, zw_l2, zw_g3, zw_l3, zw_g5, zw_l5, zw_g6, zw_l6, zw_g7, zw_l7, zw_g9, zw_l9, zw_g10, zw_l10, zw_g15, zw_l15, zw_g16, zw_l16, zw_g48, zw_l48, zw_g50, zw_l50, zw_g57, zw_l57, zw_g97, zw_l97, zw_g100, zw_l100, zw_g200, zw_l200, zw_g999, zw_l999, zw_g9999, zw_l9999]
  refine ⟨bb, V, x, rfl, hX, fun q => ?_, fun q => ?_⟩
  · dsimp only
    exact ⟨fun _ => k.1 q h hX zq_fm_rf, fun z => absurd rfl z⟩
  · obtain ⟨a, ha, rfl⟩ := zg_nat (by omega) q
    have k2 := k.2 a ha rfl
    have v : vp_in (nI a) 16 := vp_in_nI (by omega) (by decide)
    dsimp only
    rw [nI_clamp (by omega), hX.2.2.2.1.2.1 a ha]
    refine ⟨fun z => absurd z (by decide), fun _ => ⟨v, fun q2 => ⟨v, ?_⟩, fun q2 => k2.1 q2 h hX zq_fm_rf⟩⟩
    have e1 : (zq_setI h 63 a 9).1 58 a = vcr V a := (hX.1.2.2 a ha).1
    rw [e1]
    exact ⟨v, k2.2 q2 _ (MC_put hX) (zq_fm_I zq_fm_rf (by decide))⟩
