/-! ===== deserts of sets; ate, enough, wide ===== -/
theorem zbitN : ∀ i, i < 6 → ∀ k, k < 64 → ((zf_shr (nI k) (nI i) &&& 1 = 0) ↔ k.testBit i = false) := by decide +kernel
theorem zbitP {i k : Nat} (hi : i < 6) (hk : k < 64) : (zf_shr (nI k) (nI i) &&& 1 = 0) = (k.testBit i = false) := propext (zbitN i hi k hk)
theorem zp2 : ∀ g, g ≤ 6 → zf_shl 1 (nI g) - 1 = nI (2 ^ g - 1) ∧ zf_shl 1 (nI g) = nI (2 ^ g) ∧ 1 ≤ 2 ^ g ∧ 2 ^ g ≤ 64 := by decide
/-- the deserts of a set -/
def vDs (V : zV) (k : Nat) : Nat := nsum (fun i => if k.testBit i = false then 0 else vdN V i) (vg V)
theorem vDs_eq {V : zV} (hV : ZV V) (hg : vg V ≤ 6) {k : Nat} (hk : k < 64) : zset (vde V) (nI k) (vg V) = nI (vDs V k) := by
  refine zsum_nsum _ (fun i hi => ?_)
  have e := zbitP (show i < 6 by omega) hk
  rw [(vdN_eq hV hi).1]
  by_cases q : k.testBit i = false
  · rw [if_pos (by rw [e]; exact q), if_pos q]
    exact nI_0.symm
  · rw [if_neg (by rw [e]; exact q), if_neg q]
theorem nsum_mono2 {f g : Nat → Nat} : ∀ n, (∀ k, k < n → f k ≤ g k) → nsum f n ≤ nsum g n
  | 0, _ => Nat.le_refl _
  | n + 1, h => Nat.add_le_add (nsum_mono2 n (fun k hk => h k (by omega))) (h n (by omega))
theorem vDs_le (V : zV) (k : Nat) : vDs V k ≤ vA V := by
  refine nsum_mono2 _ (fun i hi => ?_)
  split
  · exact Nat.zero_le _
  · exact Nat.le_refl _
theorem nsum_cong {f g : Nat → Nat} : ∀ n, (∀ k, k < n → f k = g k) → nsum f n = nsum g n
  | 0, _ => rfl
  | n + 1, h => by rw [nsum, nsum, nsum_cong n (fun k hk => h k (by omega)), h n (by omega)]
theorem zallb : ∀ g, g ≤ 6 → ∀ i, i < g → (2 ^ g - 1).testBit i = true := by decide
theorem vDs_all (V : zV) (hg : vg V ≤ 6) : vDs V (2 ^ vg V - 1) = vA V := by
  refine nsum_cong _ (fun i hi => ?_)
  rw [zallb _ hg i hi]
  rfl
theorem vDs_0 (V : zV) : vDs V 0 = 0 := by
  unfold vDs
  rw [nsum_cong (g := fun _ => 0) _ (fun i _ => by rw [Nat.zero_testBit]; rfl)]
  induction vg V with
  | zero => rfl
  | succ n ih => exact ih
def sp_dsV (V : zV) : zq_Sp := fun args h Q => ∃ k, args = [.ref 5, .int (nI k)] ∧ k < 64 ∧ ZV V ∧ XC V h ∧ Q (some (.int (nI (vDs V k)))) h
theorem ok_dsV (V : zV) : zq_M yX3_desertsOf cX3_desertsOf 4 (some .int) 1 0 (sp_dsV V) := zq_M_w ok_desertsOf (fun args h Q ⟨k, e, hk, hV, hX, q⟩ => ⟨nI k, vg V, vta V, vde V, e, hX.2.1, by rw [vDs_eq hV hX.2.1.1 hk]; exact q⟩)
def sp_mDsV (b : Nat) (V : zV) : zq_Sp := fun args h Q => ∃ k, args = [.ref 56, .int (nI k)] ∧ k < 64 ∧ ZV V ∧ MC b V h ∧ Q (some (.int (nI (vDs V k)))) h
theorem ok_mDsV (b : Nat) (V : zV) : zq_M yX12_desertsOf cX12_desertsOf 4 (some .int) 1 1 (sp_mDsV b V) := zq_M_w ok_mDesertsOf (fun args h Q ⟨k, e, hk, hV, hX, q⟩ => ⟨nI k, vg V, vta V, vde V, e, hX.2.1, by rw [vDs_eq hV hX.2.1.1 hk]; exact q⟩)
def sp_everyV (V : zV) : zq_Sp := fun args h Q => args = [.ref 0] ∧ XC V h ∧ Q (some (.int (nI (2 ^ vg V - 1)))) h
theorem ok_everyV (V : zV) : zq_M yX11_everyone cX11_everyone 1 (some .int) 1 0 (sp_everyV V) := zq_M_w ok_everyone (fun args h Q ⟨e, hX, q⟩ => ⟨e, by rw [hX.2.1.2.1, (zp2 _ hX.2.1.1).1]; exact q⟩)
def sp_mEveryV (b : Nat) (V : zV) : zq_Sp := fun args h Q => args = [.ref 56] ∧ MC b V h ∧ Q (some (.int (nI (2 ^ vg V - 1)))) h
theorem ok_mEveryV (b : Nat) (V : zV) : zq_M yX12_all cX12_all 1 (some .int) 1 0 (sp_mEveryV b V) := zq_M_w ok_mAll (fun args h Q ⟨e, hX, q⟩ => ⟨e, by rw [hX.2.1.2.1, (zp2 _ hX.2.1.1).1]; exact q⟩)
def sp_allN (V : zV) : zq_Sp := fun args h Q => args = [.ref 5] ∧ ZV V ∧ XC V h ∧ Q (some (.int (nI (vA V)))) h
theorem ok_allN (V : zV) : zq_M yX3_allDeserts cX3_allDeserts 1 (some .int) 1 1 (sp_allN V) := zq_M_w (ok_allV V) (fun args h Q ⟨e, hV, hX, q⟩ => ⟨e, hX, by rw [vA_eq hV]; exact q⟩)
/-! ate -/
def zat1 (V : zV) (v k : Nat) (s : Nat × Nat × Nat) : Nat × Nat × Nat := if vDs V k = v then (s.1 + 1, if s.1 = 0 ∨ zbc k < zbc s.2.1 then k else s.2.1, s.2.2 &&& k) else s
def zat (V : zV) (v t : Nat) : Nat × Nat × Nat := zfold (zat1 V v) t (0, 0, 2 ^ vg V - 1)
def zatS (s : Nat × Nat × Nat) : Int32 := if s.1 = 0 then -1 else nI s.2.1
def zatR (s : Nat × Nat × Nat) : List Int64 := [(zatS s).toInt64, if s.1 = 0 then 0 else lN s.2.2]
theorem zat_s (V : zV) (v t : Nat) : zat V v (t + 1) = zat1 V v t (zat V v t) := rfl
def zatok (t : Nat) (s : Nat × Nat × Nat) : Prop := s.1 ≤ t ∧ s.2.1 ≤ t ∧ s.2.2 < 64
theorem zat_ok {V : zV} (hg : vg V ≤ 6) (v : Nat) : ∀ t, zatok t (zat V v t)
  | 0 => ⟨Nat.le_refl _, Nat.zero_le _, by have := (zp2 _ hg).2.2; show 2 ^ vg V - 1 < 64; omega⟩
  | t + 1 => by
    obtain ⟨h1, h2, h3⟩ := zat_ok hg v t
    rw [zat_s]
    unfold zat1
    split
    · refine ⟨Nat.succ_le_succ h1, ?_, Nat.lt_of_le_of_lt Nat.and_le_left h3⟩
      dsimp only
      split <;> omega
    · exact ⟨by omega, by omega, h3⟩
def sp_xAte (V : zV) : zq_Sp := fun args h Q => ∃ a, args = [.ref 0, .int a] ∧ ZV V ∧ XC V h ∧ (¬ (0 ≤ a ∧ a ≤ 9999) → Q (some (.int (-1))) h) ∧ ∀ v, v ≤ 9999 → a = nI v → zKR h Q (zatR (zat V v (2 ^ vg V))) (nI (zat V v (2 ^ vg V)).1)
def I_xAte (V : zV) (Q : zq_Q) (z : zq_H × Nat × Nat) : zq_P := fun ls st h => match z with
  | (h0, v, t) => ls = [some (.ref 0), some (.int (nI v)), some (.int (nI (zat V v t).1)), some (.int (zatS (zat V v t))), some (.int (nI (2 ^ vg V - 1))), some (.int (nI (zat V v t).2.2)), some (.int (nI t))] ∧ st = [] ∧ h = h0 ∧ (v ≤ 9999 ∧ t ≤ 2 ^ vg V) ∧ ZV V ∧ XC V h ∧ zKR h0 Q (zatR (zat V v (2 ^ vg V))) (nI (zat V v (2 ^ vg V)).1)
theorem z9999 {a : Int32} (h : 0 ≤ a ∧ a ≤ 9999) : ∃ v, v ≤ 9999 ∧ a = nI v := nI_of2 (M := 9999) (by decide) (Int32.not_lt.mpr h.1) h.2
theorem zlt_p {g t : Nat} (hg : g ≤ 6) (ht : t ≤ 2 ^ g) : (nI (2 ^ g - 1) < nI t) = (t = 2 ^ g) := by
  have := (zp2 _ hg).2.2
  rw [nI_ltP (by omega) (by omega)]
  exact propext ⟨fun q => by omega, fun q => by omega⟩
theorem ok_xAte (V : zV) : zq_M yX11_ate cX11_ate 7 (some .int) 1 1 (sp_xAte V) := by
  refine mX11_ate (ok_everyV V) (by decide) (ok_dsV V) (by decide) ok_bits (by decide) ok_rowClearL (by decide) ok_rowAddL (by decide) (fun z => 64 - z.2.2) (I_xAte V) (fun args h Q hs => ?_) (fun Q z ls st h hi => ?_)
  · obtain ⟨a, rfl, hV, hX, k1, k2⟩ := hs
    have hg := hX.2.1.1
    refine ⟨Nat.le_of_ble_eq_true rfl, ?_⟩
    simp only [xX11_ate_116, xX11_ate_113, xX11_ate_109, xX11_ate_85, xX11_ate_79, xX11_ate_69, xX11_ate_66, xX11_ate_54, xX11_ate_50, xX11_ate_37, xX11_ate_30, xX11_ate_13, xX11_ate_11, xX11_ate_4, xX11_ate_0, zi_push, zi_iload, zi_lload, zi_aload, zi_istore, zi_astore, zi_lstore, zi_iinc, zi_i2, zi_i1, zi_idv, zi_l2, zi_ldv, zi_lsh, zi_i2l, zi_l2i, zi_lcmp, zi_dup, zi_dup2, zi_pop, zi_if1, zi_if2, zi_getI, zi_getL, zi_getR, zi_putI, zi_putZ, zi_putL, zi_aldI, zi_aldL, zi_astI, zi_astZ, zi_astL, zi_alen, zi_iret, zi_zret, zi_lret, zi_vret, zi_callV, zi_callS, zi_sw, zi_copyI, zi_copyL, zi_m2, zi_m1, zi_sval, zi_scod, zi_fmt, zi_balen, zi_bald, zi_bret, zi_callT, zq_nth, zq_put1, zq_put2, zq_clr, zq_nl, zq_tk, zq_ps, zq_sw, zq_l0, zq_a, zq_a1, List.length_cons, List.length_nil, List.nil_append, List.cons_append, List.append_nil, List.replicate, Nat.reduceAdd, Nat.reduceSub, Nat.reduceLeDiff, true_and, and_true, List.append_eq, List.cons.injEq, Value.int.injEq, Value.long.injEq, Value.ref.injEq, exists_and_left, exists_eq_left', and_assoc, zc_b, zc_0, zc_1, zc_10, zc_01, lg_cmp_ge, lg_cmp_le, lg_cmp_gt, lg_cmp_lt, lg_cmp_eq, zw_le, zw_lt, reduceIte, true_or, or_true, zw_g0, zw_l0, zw_g1, zw_l1, zw_g2, zw_l2, zw_g3, zw_l3, zw_g5, zw_l5, zw_g6, zw_l6, zw_g7, zw_l7, zw_g9, zw_l9, zw_g10, zw_l10, zw_g15, zw_l15, zw_g16, zw_l16, zw_g48, zw_l48, zw_g50, zw_l50, zw_g57, zw_l57, zw_g97, zw_l97, zw_g100, zw_l100, zw_g200, zw_l200, zw_g999, zw_l999, zw_g9999, zw_l9999]
    refine ⟨fun q => k1 (fun z => absurd q (Int32.not_lt.mpr z.1)), fun q => ⟨fun q2 => ?_, fun q2 => k1 (fun z => q2 z.2)⟩⟩
    obtain ⟨v, hv, rfl⟩ := z9999 ⟨Int32.not_lt.mp q, q2⟩
    refine ⟨rfl, hX, ?_⟩
    simp only [zi_push, zi_iload, zi_lload, zi_aload, zi_istore, zi_astore, zi_lstore, zi_iinc, zi_i2, zi_i1, zi_idv, zi_l2, zi_ldv, zi_lsh, zi_i2l, zi_l2i, zi_lcmp, zi_dup, zi_dup2, zi_pop, zi_if1, zi_if2, zi_getI, zi_getL, zi_getR, zi_putI, zi_putZ, zi_putL, zi_aldI, zi_aldL, zi_astI, zi_astZ, zi_astL, zi_alen, zi_iret, zi_zret, zi_lret, zi_vret, zi_callV, zi_callS, zi_sw, zi_copyI, zi_copyL, zi_m2, zi_m1, zi_sval, zi_scod, zi_fmt, zi_balen, zi_bald, zi_bret, zi_callT, zq_nth, zq_put1, zq_put2, zq_clr, zq_nl, zq_tk, zq_ps, zq_sw, zq_l0, zq_a, zq_a1, List.length_cons, List.length_nil, List.nil_append, List.cons_append, List.append_nil, List.replicate, Nat.reduceAdd, Nat.reduceSub, Nat.reduceLeDiff, true_and, and_true, List.append_eq, List.cons.injEq, Value.int.injEq, Value.long.injEq, Value.ref.injEq, exists_and_left, exists_eq_left', and_assoc, zc_b, zc_0, zc_1, zc_10, zc_01, lg_cmp_ge, lg_cmp_le, lg_cmp_gt, lg_cmp_lt, lg_cmp_eq, zw_le, zw_lt, reduceIte, true_or, or_true, zw_g0, zw_l0, zw_g1, zw_l1, zw_g2, zw_l2, zw_g3, zw_l3, zw_g5, zw_l5, zw_g6, zw_l6, zw_g7, zw_l7, zw_g9, zw_l9, zw_g10, zw_l10, zw_g15, zw_l15, zw_g16, zw_l16, zw_g48, zw_l48, zw_g50, zw_l50, zw_g57, zw_l57, zw_g97, zw_l97, zw_g100, zw_l100, zw_g200, zw_l200, zw_g999, zw_l999, zw_g9999, zw_l9999]
    exact ⟨(h, v, 0), rfl, rfl, rfl, ⟨hv, Nat.zero_le _⟩, hV, hX, k2 v hv rfl⟩
  · obtain ⟨h0, v, t⟩ := z
    obtain ⟨rfl, rfl, rfl, ⟨hv, ht⟩, hV, hX, k⟩ := hi
    have hg := hX.2.1.1
    have hp := (zp2 _ hg).2.2
    obtain ⟨o1, o2, o3⟩ := zat_ok hg v t
    simp only [xX11_ate_30, xX11_ate_37, xX11_ate_85, zlt_p hg ht, zi_push, zi_iload, zi_lload, zi_aload, zi_istore, zi_astore, zi_lstore, zi_iinc, zi_i2, zi_i1, zi_idv, zi_l2, zi_ldv, zi_lsh, zi_i2l, zi_l2i, zi_lcmp, zi_dup, zi_dup2, zi_pop, zi_if1, zi_if2, zi_getI, zi_getL, zi_getR, zi_putI, zi_putZ, zi_putL, zi_aldI, zi_aldL, zi_astI, zi_astZ, zi_astL, zi_alen, zi_iret, zi_zret, zi_lret, zi_vret, zi_callV, zi_callS, zi_sw, zi_copyI, zi_copyL, zi_m2, zi_m1, zi_sval, zi_scod, zi_fmt, zi_balen, zi_bald, zi_bret, zi_callT, zq_nth, zq_put1, zq_put2, zq_clr, zq_nl, zq_tk, zq_ps, zq_sw, zq_l0, zq_a, zq_a1, List.length_cons, List.length_nil, List.nil_append, List.cons_append, List.append_nil, List.replicate, Nat.reduceAdd, Nat.reduceSub, Nat.reduceLeDiff, true_and, and_true, List.append_eq, List.cons.injEq, Value.int.injEq, Value.long.injEq, Value.ref.injEq, exists_and_left, exists_eq_left', and_assoc, zc_b, zc_0, zc_1, zc_10, zc_01, lg_cmp_ge, lg_cmp_le, lg_cmp_gt, lg_cmp_lt, lg_cmp_eq, zw_le, zw_lt, reduceIte, true_or, or_true, zw_g0, zw_l0, zw_g1, zw_l1, zw_g2, zw_l2, zw_g3, zw_l3, zw_g5, zw_l5, zw_g6, zw_l6, zw_g7, zw_l7, zw_g9, zw_l9, zw_g10, zw_l10, zw_g15, zw_l15, zw_g16, zw_l16, zw_g48, zw_l48, zw_g50, zw_l50, zw_g57, zw_l57, zw_g97, zw_l97, zw_g100, zw_l100, zw_g200, zw_l200, zw_g999, zw_l999, zw_g9999, zw_l9999]
    refine ⟨fun q => ⟨rfl, fun h1 r1 f1 => ?_⟩, fun q => ⟨t, rfl, by omega, hV, hX, ?_⟩⟩
    · subst q
      simp only [zi_push, zi_iload, zi_lload, zi_aload, zi_istore, zi_astore, zi_lstore, zi_iinc, zi_i2, zi_i1, zi_idv, zi_l2, zi_ldv, zi_lsh, zi_i2l, zi_l2i, zi_lcmp, zi_dup, zi_dup2, zi_pop, zi_if1, zi_if2, zi_getI, zi_getL, zi_getR, zi_putI, zi_putZ, zi_putL, zi_aldI, zi_aldL, zi_astI, zi_astZ, zi_astL, zi_alen, zi_iret, zi_zret, zi_lret, zi_vret, zi_callV, zi_callS, zi_sw, zi_copyI, zi_copyL, zi_m2, zi_m1, zi_sval, zi_scod, zi_fmt, zi_balen, zi_bald, zi_bret, zi_callT, zq_nth, zq_put1, zq_put2, zq_clr, zq_nl, zq_tk, zq_ps, zq_sw, zq_l0, zq_a, zq_a1, List.length_cons, List.length_nil, List.nil_append, List.cons_append, List.append_nil, List.replicate, Nat.reduceAdd, Nat.reduceSub, Nat.reduceLeDiff, true_and, and_true, List.append_eq, List.cons.injEq, Value.int.injEq, Value.long.injEq, Value.ref.injEq, exists_and_left, exists_eq_left', and_assoc, zc_b, zc_0, zc_1, zc_10, zc_01, lg_cmp_ge, lg_cmp_le, lg_cmp_gt, lg_cmp_lt, lg_cmp_eq, zw_le, zw_lt, reduceIte, true_or, or_true, zw_g0, zw_l0, zw_g1, zw_l1, zw_g2, zw_l2, zw_g3, zw_l3, zw_g5, zw_l5, zw_g6, zw_l6, zw_g7, zw_l7, zw_g9, zw_l9, zw_g10, zw_l10, zw_g15, zw_l15, zw_g16, zw_l16, zw_g48, zw_l48, zw_g50, zw_l50, zw_g57, zw_l57, zw_g97, zw_l97, zw_g100, zw_l100, zw_g200, zw_l200, zw_g999, zw_l999, zw_g9999, zw_l9999]
      refine ⟨_, [], rfl, r1, by decide, fun h2 r2 f2 => ?_⟩
      simp only [xX11_ate_109, xX11_ate_113, xX11_ate_116, nI_zP (show (zat V v (2 ^ vg V)).1 < 2 ^ 31 by omega), zi_push, zi_iload, zi_lload, zi_aload, zi_istore, zi_astore, zi_lstore, zi_iinc, zi_i2, zi_i1, zi_idv, zi_l2, zi_ldv, zi_lsh, zi_i2l, zi_l2i, zi_lcmp, zi_dup, zi_dup2, zi_pop, zi_if1, zi_if2, zi_getI, zi_getL, zi_getR, zi_putI, zi_putZ, zi_putL, zi_aldI, zi_aldL, zi_astI, zi_astZ, zi_astL, zi_alen, zi_iret, zi_zret, zi_lret, zi_vret, zi_callV, zi_callS, zi_sw, zi_copyI, zi_copyL, zi_m2, zi_m1, zi_sval, zi_scod, zi_fmt, zi_balen, zi_bald, zi_bret, zi_callT, zq_nth, zq_put1, zq_put2, zq_clr, zq_nl, zq_tk, zq_ps, zq_sw, zq_l0, zq_a, zq_a1, List.length_cons, List.length_nil, List.nil_append, List.cons_append, List.append_nil, List.replicate, Nat.reduceAdd, Nat.reduceSub, Nat.reduceLeDiff, true_and, and_true, List.append_eq, List.cons.injEq, Value.int.injEq, Value.long.injEq, Value.ref.injEq, exists_and_left, exists_eq_left', and_assoc, zc_b, zc_0, zc_1, zc_10, zc_01, lg_cmp_ge, lg_cmp_le, lg_cmp_gt, lg_cmp_lt, lg_cmp_eq, zw_le, zw_lt, reduceIte, true_or, or_true, zw_g0, zw_l0, zw_g1, zw_l1, zw_g2, zw_l2, zw_g3, zw_l3, zw_g5, zw_l5, zw_g6, zw_l6, zw_g7, zw_l7, zw_g9, zw_l9, zw_g10, zw_l10, zw_g15, zw_l15, zw_g16, zw_l16, zw_g48, zw_l48, zw_g50, zw_l50, zw_g57, zw_l57, zw_g97, zw_l97, zw_g100, zw_l100, zw_g200, zw_l200, zw_g999, zw_l999, zw_g9999, zw_l9999]
      have k9 := fun h' (r : XR (zatR (zat V v (2 ^ vg V))) h') (f : zq_fr [3, 4] h h') => k h' r f
      unfold zatR at k9
      refine ⟨fun q => ⟨_, _, rfl, r2, Nat.le_of_ble_eq_true rfl, fun h3 r3 f3 => ?_⟩, fun q => ⟨_, _, rfl, r2, Nat.le_of_ble_eq_true rfl, fun h3 r3 f3 => ?_⟩⟩
      · rw [if_pos q] at k9
        exact k9 h3 r3 (zq_fr_t (zq_fr_t (zq_fr_w f1 (by decide)) f2 (by decide)) f3 (by decide))
      · rw [if_neg q] at k9
        rw [nI_l (by omega)] at r3
        exact k9 h3 r3 (zq_fr_t (zq_fr_t (zq_fr_w f1 (by decide)) f2 (by decide)) f3 (by decide))
    · have l1 := vDs_le V t
      have l2 := vA_le hV
      have es := zat_s V v t
      simp only [xX11_ate_50, xX11_ate_54, xX11_ate_79, nI_eqP (show vDs V t < 2 ^ 31 by omega) (show v < 2 ^ 31 by omega), nI_zP (show (zat V v t).1 < 2 ^ 31 by omega), zi_push, zi_iload, zi_lload, zi_aload, zi_istore, zi_astore, zi_lstore, zi_iinc, zi_i2, zi_i1, zi_idv, zi_l2, zi_ldv, zi_lsh, zi_i2l, zi_l2i, zi_lcmp, zi_dup, zi_dup2, zi_pop, zi_if1, zi_if2, zi_getI, zi_getL, zi_getR, zi_putI, zi_putZ, zi_putL, zi_aldI, zi_aldL, zi_astI, zi_astZ, zi_astL, zi_alen, zi_iret, zi_zret, zi_lret, zi_vret, zi_callV, zi_callS, zi_sw, zi_copyI, zi_copyL, zi_m2, zi_m1, zi_sval, zi_scod, zi_fmt, zi_balen, zi_bald, zi_bret, zi_callT, zq_nth, zq_put1, zq_put2, zq_clr, zq_nl, zq_tk, zq_ps, zq_sw, zq_l0, zq_a, zq_a1, List.length_cons, List.length_nil, List.nil_append, List.cons_append, List.append_nil, List.replicate, Nat.reduceAdd, Nat.reduceSub, Nat.reduceLeDiff, true_and, and_true, List.append_eq, List.cons.injEq, Value.int.injEq, Value.long.injEq, Value.ref.injEq, exists_and_left, exists_eq_left', and_assoc, zc_b, zc_0, zc_1, zc_10, zc_01, lg_cmp_ge, lg_cmp_le, lg_cmp_gt, lg_cmp_lt, lg_cmp_eq, zw_le, zw_lt, reduceIte, true_or, or_true, zw_g0, zw_l0, zw_g1, zw_l1, zw_g2, zw_l2, zw_g3, zw_l3, zw_g5, zw_l5, zw_g6, zw_l6, zw_g7, zw_l7, zw_g9, zw_l9, zw_g10, zw_l10, zw_g15, zw_l15, zw_g16, zw_l16, zw_g48, zw_l48, zw_g50, zw_l50, zw_g57, zw_l57, zw_g97, zw_l97, zw_g100, zw_l100, zw_g200, zw_l200, zw_g999, zw_l999, zw_g9999, zw_l9999]
      have fin : ∀ s, s = zat V v (t + 1) → ∃ b : zq_H × Nat × Nat, 64 - b.2.2 < 64 - t ∧ I_xAte V Q b [some (.ref 0), some (.int (nI v)), some (.int (nI s.1)), some (.int (zatS s)), some (.int (nI (2 ^ vg V - 1))), some (.int (nI s.2.2)), some (.int (nI t + 1))] [] h := by
        intro s e
        subst e
        exact ⟨(h, v, t + 1), by dsimp only; omega, by rw [nI_1], rfl, rfl, ⟨hv, by omega⟩, hV, hX, k⟩
      rw [es] at fin
      unfold zat1 at fin
      refine ⟨fun q2 => ?_, fun q2 => ?_⟩
      · rw [if_pos q2] at fin
        have f9 := fin _ rfl
        unfold zatS at f9 ⊢
        rw [if_neg (show ¬ (zat V v t).1 + 1 = 0 by omega)] at f9
        dsimp only at f9
        refine ⟨fun q3 => ?_, fun q3 => ⟨t, rfl, by omega, ?_⟩⟩
        · simp only [xX11_ate_66, xX11_ate_69, xX11_ate_79, nx_and, nI_1, zi_push, zi_iload, zi_lload, zi_aload, zi_istore, zi_astore, zi_lstore, zi_iinc, zi_i2, zi_i1, zi_idv, zi_l2, zi_ldv, zi_lsh, zi_i2l, zi_l2i, zi_lcmp, zi_dup, zi_dup2, zi_pop, zi_if1, zi_if2, zi_getI, zi_getL, zi_getR, zi_putI, zi_putZ, zi_putL, zi_aldI, zi_aldL, zi_astI, zi_astZ, zi_astL, zi_alen, zi_iret, zi_zret, zi_lret, zi_vret, zi_callV, zi_callS, zi_sw, zi_copyI, zi_copyL, zi_m2, zi_m1, zi_sval, zi_scod, zi_fmt, zi_balen, zi_bald, zi_bret, zi_callT, zq_nth, zq_put1, zq_put2, zq_clr, zq_nl, zq_tk, zq_ps, zq_sw, zq_l0, zq_a, zq_a1, List.length_cons, List.length_nil, List.nil_append, List.cons_append, List.append_nil, List.replicate, Nat.reduceAdd, Nat.reduceSub, Nat.reduceLeDiff, true_and, and_true, List.append_eq, List.cons.injEq, Value.int.injEq, Value.long.injEq, Value.ref.injEq, exists_and_left, exists_eq_left', and_assoc, zc_b, zc_0, zc_1, zc_10, zc_01, lg_cmp_ge, lg_cmp_le, lg_cmp_gt, lg_cmp_lt, lg_cmp_eq, zw_le, zw_lt, reduceIte, true_or, or_true, zw_g0, zw_l0, zw_g1, zw_l1, zw_g2, zw_l2, zw_g3, zw_l3, zw_g5, zw_l5, zw_g6, zw_l6, zw_g7, zw_l7, zw_g9, zw_l9, zw_g10, zw_l10, zw_g15, zw_l15, zw_g16, zw_l16, zw_g48, zw_l48, zw_g50, zw_l50, zw_g57, zw_l57, zw_g97, zw_l97, zw_g100, zw_l100, zw_g200, zw_l200, zw_g999, zw_l999, zw_g9999, zw_l9999]
          rw [if_pos (Or.inl q3)] at f9
          simp only [nI_1] at f9
          exact f9
        · simp only [zi_push, zi_iload, zi_lload, zi_aload, zi_istore, zi_astore, zi_lstore, zi_iinc, zi_i2, zi_i1, zi_idv, zi_l2, zi_ldv, zi_lsh, zi_i2l, zi_l2i, zi_lcmp, zi_dup, zi_dup2, zi_pop, zi_if1, zi_if2, zi_getI, zi_getL, zi_getR, zi_putI, zi_putZ, zi_putL, zi_aldI, zi_aldL, zi_astI, zi_astZ, zi_astL, zi_alen, zi_iret, zi_zret, zi_lret, zi_vret, zi_callV, zi_callS, zi_sw, zi_copyI, zi_copyL, zi_m2, zi_m1, zi_sval, zi_scod, zi_fmt, zi_balen, zi_bald, zi_bret, zi_callT, zq_nth, zq_put1, zq_put2, zq_clr, zq_nl, zq_tk, zq_ps, zq_sw, zq_l0, zq_a, zq_a1, List.length_cons, List.length_nil, List.nil_append, List.cons_append, List.append_nil, List.replicate, Nat.reduceAdd, Nat.reduceSub, Nat.reduceLeDiff, true_and, and_true, List.append_eq, List.cons.injEq, Value.int.injEq, Value.long.injEq, Value.ref.injEq, exists_and_left, exists_eq_left', and_assoc, zc_b, zc_0, zc_1, zc_10, zc_01, lg_cmp_ge, lg_cmp_le, lg_cmp_gt, lg_cmp_lt, lg_cmp_eq, zw_le, zw_lt, reduceIte, true_or, or_true, zw_g0, zw_l0, zw_g1, zw_l1, zw_g2, zw_l2, zw_g3, zw_l3, zw_g5, zw_l5, zw_g6, zw_l6, zw_g7, zw_l7, zw_g9, zw_l9, zw_g10, zw_l10, zw_g15, zw_l15, zw_g16, zw_l16, zw_g48, zw_l48, zw_g50, zw_l50, zw_g57, zw_l57, zw_g97, zw_l97, zw_g100, zw_l100, zw_g200, zw_l200, zw_g999, zw_l999, zw_g9999, zw_l9999]
          rw [if_neg q3]
          refine ⟨(zat V v t).2.1, rfl, by omega, ?_⟩
          have b1 : ∀ k, k < 64 → zbc k < 7 := by decide
          have b2 := b1 t (by omega)
          have b3 := b1 (zat V v t).2.1 (by omega)
          simp only [xX11_ate_66, xX11_ate_69, xX11_ate_79, nx_and, nI_leP (show zbc (zat V v t).2.1 < 2 ^ 31 by omega) (show zbc t < 2 ^ 31 by omega), zi_push, zi_iload, zi_lload, zi_aload, zi_istore, zi_astore, zi_lstore, zi_iinc, zi_i2, zi_i1, zi_idv, zi_l2, zi_ldv, zi_lsh, zi_i2l, zi_l2i, zi_lcmp, zi_dup, zi_dup2, zi_pop, zi_if1, zi_if2, zi_getI, zi_getL, zi_getR, zi_putI, zi_putZ, zi_putL, zi_aldI, zi_aldL, zi_astI, zi_astZ, zi_astL, zi_alen, zi_iret, zi_zret, zi_lret, zi_vret, zi_callV, zi_callS, zi_sw, zi_copyI, zi_copyL, zi_m2, zi_m1, zi_sval, zi_scod, zi_fmt, zi_balen, zi_bald, zi_bret, zi_callT, zq_nth, zq_put1, zq_put2, zq_clr, zq_nl, zq_tk, zq_ps, zq_sw, zq_l0, zq_a, zq_a1, List.length_cons, List.length_nil, List.nil_append, List.cons_append, List.append_nil, List.replicate, Nat.reduceAdd, Nat.reduceSub, Nat.reduceLeDiff, true_and, and_true, List.append_eq, List.cons.injEq, Value.int.injEq, Value.long.injEq, Value.ref.injEq, exists_and_left, exists_eq_left', and_assoc, zc_b, zc_0, zc_1, zc_10, zc_01, lg_cmp_ge, lg_cmp_le, lg_cmp_gt, lg_cmp_lt, lg_cmp_eq, zw_le, zw_lt, reduceIte, true_or, or_true, zw_g0, zw_l0, zw_g1, zw_l1, zw_g2, zw_l2, zw_g3, zw_l3, zw_g5, zw_l5, zw_g6, zw_l6, zw_g7, zw_l7, zw_g9, zw_l9, zw_g10, zw_l10, zw_g15, zw_l15, zw_g16, zw_l16, zw_g48, zw_l48, zw_g50, zw_l50, zw_g57, zw_l57, zw_g97, zw_l97, zw_g100, zw_l100, zw_g200, zw_l200, zw_g999, zw_l999, zw_g9999, zw_l9999]
          refine ⟨fun q4 => ?_, fun q4 => ?_⟩
          · rw [if_neg (fun z => z.elim q3 (fun y => by omega))] at f9
            simp only [nI_1] at f9 ⊢
            exact f9
          · rw [if_pos (Or.inr (by omega))] at f9
            simp only [nI_1] at f9 ⊢
            exact f9
      · rw [if_neg q2] at fin
        exact fin _ rfl
def sp_mAte (b : Nat) (V : zV) : zq_Sp := fun args h Q => ∃ a, args = [.ref 56, .int a] ∧ ZV V ∧ MC b V h ∧ (¬ (0 ≤ a ∧ a ≤ 9999) → ∀ h', zq_fm [0] [] h h' → Q (some (.int (-1))) h') ∧ ∀ v, v ≤ 9999 → a = nI v → zKRm b h Q (zatR (zat V v (2 ^ vg V))) (nI (zat V v (2 ^ vg V)).1)
def I_mAte (b : Nat) (V : zV) (Q : zq_Q) (z : zq_H × Nat × Nat) : zq_P := fun ls st h => match z with
  | (h0, v, t) => ls = [some (.ref 56), some (.int (nI v)), some (.int (nI (zat V v t).1)), some (.int (zatS (zat V v t))), some (.int (nI (zat V v t).2.2)), some (.int (nI t))] ∧ st = [] ∧ zq_fm [0, 1] [57, 72, 73, 74, 75] h0 h ∧ (v ≤ 9999 ∧ t ≤ 2 ^ vg V) ∧ ZV V ∧ MC b V h ∧ zKRm b h0 Q (zatR (zat V v (2 ^ vg V))) (nI (zat V v (2 ^ vg V)).1)
theorem zatS_neg {V : zV} {v t : Nat} (h : zatok t (zat V v t)) (ht : t ≤ 64) : (zatS (zat V v t) < 0) = ((zat V v t).1 = 0) := by
  unfold zatS
  have := h.2.1
  split
  · next q => exact propext ⟨fun _ => q, fun _ => by decide⟩
  · next q => exact propext ⟨fun z => absurd z (nI_pos (by omega)), fun z => absurd z q⟩
theorem ok_mAte (b : Nat) (V : zV) : zq_M yX12_ate cX12_ate 6 (some .int) 1 2 (sp_mAte b V) := by
  refine mX12_ate ok_in (by decide) (ok_mEveryV b V) (by decide) (ok_mDsV b V) (by decide) ok_bits (by decide) ok_entersL (by decide) (fun z => 64 - z.2.2) (I_mAte b V) (fun args h Q hs => ?_) (fun Q z ls st h hi => ?_)
  · obtain ⟨a, rfl, hV, hX, k1, k2⟩ := hs
    have hg := hX.2.1.1
    have f0 : zq_fm [0] [] h (zq_setI h 56 0 0) := zq_fm_F zq_fm_rf (by decide)
    have hX1 := MC_fm hX f0 (by decide)
    refine ⟨Nat.le_of_ble_eq_true rfl, ?_⟩
    simp only [xX12_ate_113, xX12_ate_110, xX12_ate_106, xX12_ate_90, xX12_ate_84, xX12_ate_73, xX12_ate_72, xX12_ate_67, xX12_ate_55, xX12_ate_51, xX12_ate_41, xX12_ate_32, xX12_ate_19, xX12_ate_17, xX12_ate_0, zi_push, zi_iload, zi_lload, zi_aload, zi_istore, zi_astore, zi_lstore, zi_iinc, zi_i2, zi_i1, zi_idv, zi_l2, zi_ldv, zi_lsh, zi_i2l, zi_l2i, zi_lcmp, zi_dup, zi_dup2, zi_pop, zi_if1, zi_if2, zi_getI, zi_getL, zi_getR, zi_putI, zi_putZ, zi_putL, zi_aldI, zi_aldL, zi_astI, zi_astZ, zi_astL, zi_alen, zi_iret, zi_zret, zi_lret, zi_vret, zi_callV, zi_callS, zi_sw, zi_copyI, zi_copyL, zi_m2, zi_m1, zi_sval, zi_scod, zi_fmt, zi_balen, zi_bald, zi_bret, zi_callT, zq_nth, zq_put1, zq_put2, zq_clr, zq_nl, zq_tk, zq_ps, zq_sw, zq_l0, zq_a, zq_a1, List.length_cons, List.length_nil, List.nil_append, List.cons_append, List.append_nil, List.replicate, Nat.reduceAdd, Nat.reduceSub, Nat.reduceLeDiff, true_and, and_true, List.append_eq, List.cons.injEq, Value.int.injEq, Value.long.injEq, Value.ref.injEq, exists_and_left, exists_eq_left', and_assoc, zc_b, zc_0, zc_1, zc_10, zc_01, lg_cmp_ge, lg_cmp_le, lg_cmp_gt, lg_cmp_lt, lg_cmp_eq, zw_le, zw_lt, reduceIte, true_or, or_true, zw_g0, zw_l0, zw_g1, zw_l1, zw_g2, zw_l2, zw_g3, zw_l3, zw_g5, zw_l5, zw_g6, zw_l6, zw_g7, zw_l7, zw_g9, zw_l9, zw_g10, zw_l10, zw_g15, zw_l15, zw_g16, zw_l16, zw_g48, zw_l48, zw_g50, zw_l50, zw_g57, zw_l57, zw_g97, zw_l97, zw_g100, zw_l100, zw_g200, zw_l200, zw_g999, zw_l999, zw_g9999, zw_l9999, sp_in]
    refine ⟨fun q => k1 q _ f0, fun q => ?_⟩
    obtain ⟨v, hv, rfl⟩ := z9999 (by first | exact q | exact Classical.not_not.mp q)
    refine ⟨rfl, hX1, ?_⟩
    simp only [zi_push, zi_iload, zi_lload, zi_aload, zi_istore, zi_astore, zi_lstore, zi_iinc, zi_i2, zi_i1, zi_idv, zi_l2, zi_ldv, zi_lsh, zi_i2l, zi_l2i, zi_lcmp, zi_dup, zi_dup2, zi_pop, zi_if1, zi_if2, zi_getI, zi_getL, zi_getR, zi_putI, zi_putZ, zi_putL, zi_aldI, zi_aldL, zi_astI, zi_astZ, zi_astL, zi_alen, zi_iret, zi_zret, zi_lret, zi_vret, zi_callV, zi_callS, zi_sw, zi_copyI, zi_copyL, zi_m2, zi_m1, zi_sval, zi_scod, zi_fmt, zi_balen, zi_bald, zi_bret, zi_callT, zq_nth, zq_put1, zq_put2, zq_clr, zq_nl, zq_tk, zq_ps, zq_sw, zq_l0, zq_a, zq_a1, List.length_cons, List.length_nil, List.nil_append, List.cons_append, List.append_nil, List.replicate, Nat.reduceAdd, Nat.reduceSub, Nat.reduceLeDiff, true_and, and_true, List.append_eq, List.cons.injEq, Value.int.injEq, Value.long.injEq, Value.ref.injEq, exists_and_left, exists_eq_left', and_assoc, zc_b, zc_0, zc_1, zc_10, zc_01, lg_cmp_ge, lg_cmp_le, lg_cmp_gt, lg_cmp_lt, lg_cmp_eq, zw_le, zw_lt, reduceIte, true_or, or_true, zw_g0, zw_l0, zw_g1, zw_l1, zw_g2, zw_l2, zw_g3, zw_l3, zw_g5, zw_l5, zw_g6, zw_l6, zw_g7, zw_l7, zw_g9, zw_l9, zw_g10, zw_l10, zw_g15, zw_l15, zw_g16, zw_l16, zw_g48, zw_l48, zw_g50, zw_l50, zw_g57, zw_l57, zw_g97, zw_l97, zw_g100, zw_l100, zw_g200, zw_l200, zw_g999, zw_l999, zw_g9999, zw_l9999]
    exact ⟨(h, v, 0), rfl, rfl, zq_fm_w f0 (by decide), ⟨hv, Nat.zero_le _⟩, hV, hX1, k2 v hv rfl⟩
  · obtain ⟨h0, v, t⟩ := z
    obtain ⟨rfl, rfl, hf, ⟨hv, ht⟩, hV, hX, k⟩ := hi
    have hg := hX.2.1.1
    have hp := (zp2 _ hg).2.2
    have ho := zat_ok hg v t
    have hneg := zatS_neg ho (by omega)
    obtain ⟨o1, o2, o3⟩ := ho
    simp only [xX12_ate_32, zi_push, zi_iload, zi_lload, zi_aload, zi_istore, zi_astore, zi_lstore, zi_iinc, zi_i2, zi_i1, zi_idv, zi_l2, zi_ldv, zi_lsh, zi_i2l, zi_l2i, zi_lcmp, zi_dup, zi_dup2, zi_pop, zi_if1, zi_if2, zi_getI, zi_getL, zi_getR, zi_putI, zi_putZ, zi_putL, zi_aldI, zi_aldL, zi_astI, zi_astZ, zi_astL, zi_alen, zi_iret, zi_zret, zi_lret, zi_vret, zi_callV, zi_callS, zi_sw, zi_copyI, zi_copyL, zi_m2, zi_m1, zi_sval, zi_scod, zi_fmt, zi_balen, zi_bald, zi_bret, zi_callT, zq_nth, zq_put1, zq_put2, zq_clr, zq_nl, zq_tk, zq_ps, zq_sw, zq_l0, zq_a, zq_a1, List.length_cons, List.length_nil, List.nil_append, List.cons_append, List.append_nil, List.replicate, Nat.reduceAdd, Nat.reduceSub, Nat.reduceLeDiff, true_and, and_true, List.append_eq, List.cons.injEq, Value.int.injEq, Value.long.injEq, Value.ref.injEq, exists_and_left, exists_eq_left', and_assoc, zc_b, zc_0, zc_1, zc_10, zc_01, lg_cmp_ge, lg_cmp_le, lg_cmp_gt, lg_cmp_lt, lg_cmp_eq, zw_le, zw_lt, reduceIte, true_or, or_true, zw_g0, zw_l0, zw_g1, zw_l1, zw_g2, zw_l2, zw_g3, zw_l3, zw_g5, zw_l5, zw_g6, zw_l6, zw_g7, zw_l7, zw_g9, zw_l9, zw_g10, zw_l10, zw_g15, zw_l15, zw_g16, zw_l16, zw_g48, zw_l48, zw_g50, zw_l50, zw_g57, zw_l57, zw_g97, zw_l97, zw_g100, zw_l100, zw_g200, zw_l200, zw_g999, zw_l999, zw_g9999, zw_l9999]
    refine ⟨rfl, hX, ?_⟩
    simp only [xX12_ate_41, xX12_ate_90, zlt_p hg ht, zi_push, zi_iload, zi_lload, zi_aload, zi_istore, zi_astore, zi_lstore, zi_iinc, zi_i2, zi_i1, zi_idv, zi_l2, zi_ldv, zi_lsh, zi_i2l, zi_l2i, zi_lcmp, zi_dup, zi_dup2, zi_pop, zi_if1, zi_if2, zi_getI, zi_getL, zi_getR, zi_putI, zi_putZ, zi_putL, zi_aldI, zi_aldL, zi_astI, zi_astZ, zi_astL, zi_alen, zi_iret, zi_zret, zi_lret, zi_vret, zi_callV, zi_callS, zi_sw, zi_copyI, zi_copyL, zi_m2, zi_m1, zi_sval, zi_scod, zi_fmt, zi_balen, zi_bald, zi_bret, zi_callT, zq_nth, zq_put1, zq_put2, zq_clr, zq_nl, zq_tk, zq_ps, zq_sw, zq_l0, zq_a, zq_a1, List.length_cons, List.length_nil, List.nil_append, List.cons_append, List.append_nil, List.replicate, Nat.reduceAdd, Nat.reduceSub, Nat.reduceLeDiff, true_and, and_true, List.append_eq, List.cons.injEq, Value.int.injEq, Value.long.injEq, Value.ref.injEq, exists_and_left, exists_eq_left', and_assoc, zc_b, zc_0, zc_1, zc_10, zc_01, lg_cmp_ge, lg_cmp_le, lg_cmp_gt, lg_cmp_lt, lg_cmp_eq, zw_le, zw_lt, reduceIte, true_or, or_true, zw_g0, zw_l0, zw_g1, zw_l1, zw_g2, zw_l2, zw_g3, zw_l3, zw_g5, zw_l5, zw_g6, zw_l6, zw_g7, zw_l7, zw_g9, zw_l9, zw_g10, zw_l10, zw_g15, zw_l15, zw_g16, zw_l16, zw_g48, zw_l48, zw_g50, zw_l50, zw_g57, zw_l57, zw_g97, zw_l97, zw_g100, zw_l100, zw_g200, zw_l200, zw_g999, zw_l999, zw_g9999, zw_l9999]
    refine ⟨fun q => ?_, fun q => ⟨t, rfl, by omega, hV, hX, ?_⟩⟩
    · subst q
      refine ⟨_, [], rfl, MR_nil h, by decide, fun h2 r2 f2 => ?_⟩
      simp only [xX12_ate_106, xX12_ate_110, xX12_ate_113, nI_zP (show (zat V v (2 ^ vg V)).1 < 2 ^ 31 by omega), zi_push, zi_iload, zi_lload, zi_aload, zi_istore, zi_astore, zi_lstore, zi_iinc, zi_i2, zi_i1, zi_idv, zi_l2, zi_ldv, zi_lsh, zi_i2l, zi_l2i, zi_lcmp, zi_dup, zi_dup2, zi_pop, zi_if1, zi_if2, zi_getI, zi_getL, zi_getR, zi_putI, zi_putZ, zi_putL, zi_aldI, zi_aldL, zi_astI, zi_astZ, zi_astL, zi_alen, zi_iret, zi_zret, zi_lret, zi_vret, zi_callV, zi_callS, zi_sw, zi_copyI, zi_copyL, zi_m2, zi_m1, zi_sval, zi_scod, zi_fmt, zi_balen, zi_bald, zi_bret, zi_callT, zq_nth, zq_put1, zq_put2, zq_clr, zq_nl, zq_tk, zq_ps, zq_sw, zq_l0, zq_a, zq_a1, List.length_cons, List.length_nil, List.nil_append, List.cons_append, List.append_nil, List.replicate, Nat.reduceAdd, Nat.reduceSub, Nat.reduceLeDiff, true_and, and_true, List.append_eq, List.cons.injEq, Value.int.injEq, Value.long.injEq, Value.ref.injEq, exists_and_left, exists_eq_left', and_assoc, zc_b, zc_0, zc_1, zc_10, zc_01, lg_cmp_ge, lg_cmp_le, lg_cmp_gt, lg_cmp_lt, lg_cmp_eq, zw_le, zw_lt, reduceIte, true_or, or_true, zw_g0, zw_l0, zw_g1, zw_l1, zw_g2, zw_l2, zw_g3, zw_l3, zw_g5, zw_l5, zw_g6, zw_l6, zw_g7, zw_l7, zw_g9, zw_l9, zw_g10, zw_l10, zw_g15, zw_l15, zw_g16, zw_l16, zw_g48, zw_l48, zw_g50, zw_l50, zw_g57, zw_l57, zw_g97, zw_l97, zw_g100, zw_l100, zw_g200, zw_l200, zw_g999, zw_l999, zw_g9999, zw_l9999]
      have k9 := fun h' (r : MR (zatR (zat V v (2 ^ vg V))) h') (f : zq_fm [0, 1] [57, 72, 73, 74, 75] h0 h') => k h' r f
      unfold zatR at k9
      refine ⟨fun q => ⟨_, _, rfl, r2, Nat.le_of_ble_eq_true rfl, fun h3 r3 f3 => ?_⟩, fun q => ⟨_, _, rfl, r2, Nat.le_of_ble_eq_true rfl, fun h3 r3 f3 => ?_⟩⟩
      · rw [if_pos q] at k9
        exact k9 h3 r3 (zq_fm_t (zq_fm_t (zq_fm_F hf (by decide)) f2 (by decide)) f3 (by decide))
      · rw [if_neg q] at k9
        rw [nI_l (by omega)] at r3
        exact k9 h3 r3 (zq_fm_t (zq_fm_t (zq_fm_F hf (by decide)) f2 (by decide)) f3 (by decide))
    · have l1 := vDs_le V t
      have l2 := vA_le hV
      have es := zat_s V v t
      simp only [xX12_ate_51, xX12_ate_55, xX12_ate_84, nI_eqP (show vDs V t < 2 ^ 31 by omega) (show v < 2 ^ 31 by omega), hneg, zi_push, zi_iload, zi_lload, zi_aload, zi_istore, zi_astore, zi_lstore, zi_iinc, zi_i2, zi_i1, zi_idv, zi_l2, zi_ldv, zi_lsh, zi_i2l, zi_l2i, zi_lcmp, zi_dup, zi_dup2, zi_pop, zi_if1, zi_if2, zi_getI, zi_getL, zi_getR, zi_putI, zi_putZ, zi_putL, zi_aldI, zi_aldL, zi_astI, zi_astZ, zi_astL, zi_alen, zi_iret, zi_zret, zi_lret, zi_vret, zi_callV, zi_callS, zi_sw, zi_copyI, zi_copyL, zi_m2, zi_m1, zi_sval, zi_scod, zi_fmt, zi_balen, zi_bald, zi_bret, zi_callT, zq_nth, zq_put1, zq_put2, zq_clr, zq_nl, zq_tk, zq_ps, zq_sw, zq_l0, zq_a, zq_a1, List.length_cons, List.length_nil, List.nil_append, List.cons_append, List.append_nil, List.replicate, Nat.reduceAdd, Nat.reduceSub, Nat.reduceLeDiff, true_and, and_true, List.append_eq, List.cons.injEq, Value.int.injEq, Value.long.injEq, Value.ref.injEq, exists_and_left, exists_eq_left', and_assoc, zc_b, zc_0, zc_1, zc_10, zc_01, lg_cmp_ge, lg_cmp_le, lg_cmp_gt, lg_cmp_lt, lg_cmp_eq, zw_le, zw_lt, reduceIte, true_or, or_true, zw_g0, zw_l0, zw_g1, zw_l1, zw_g2, zw_l2, zw_g3, zw_l3, zw_g5, zw_l5, zw_g6, zw_l6, zw_g7, zw_l7, zw_g9, zw_l9, zw_g10, zw_l10, zw_g15, zw_l15, zw_g16, zw_l16, zw_g48, zw_l48, zw_g50, zw_l50, zw_g57, zw_l57, zw_g97, zw_l97, zw_g100, zw_l100, zw_g200, zw_l200, zw_g999, zw_l999, zw_g9999, zw_l9999]
      have fin : ∀ s, s = zat V v (t + 1) → ∃ b9 : zq_H × Nat × Nat, 64 - b9.2.2 < 64 - t ∧ I_mAte b V Q b9 [some (.ref 56), some (.int (nI v)), some (.int (nI s.1)), some (.int (zatS s)), some (.int (nI s.2.2)), some (.int (nI t + 1))] [] h := by
        intro s e
        subst e
        exact ⟨(h0, v, t + 1), by dsimp only; omega, by rw [nI_1], rfl, hf, ⟨hv, by omega⟩, hV, hX, k⟩
      rw [es] at fin
      unfold zat1 at fin
      refine ⟨fun q2 => ?_, fun q2 => ?_⟩
      · rw [if_pos q2] at fin
        have f9 := fin _ rfl
        unfold zatS at f9 ⊢
        rw [if_neg (show ¬ (zat V v t).1 + 1 = 0 by omega)] at f9
        dsimp only at f9
        refine ⟨fun q3 => ?_, fun q3 => ⟨t, rfl, by omega, ?_⟩⟩
        · simp only [xX12_ate_67, xX12_ate_73, xX12_ate_84, nx_and, nI_1, zi_push, zi_iload, zi_lload, zi_aload, zi_istore, zi_astore, zi_lstore, zi_iinc, zi_i2, zi_i1, zi_idv, zi_l2, zi_ldv, zi_lsh, zi_i2l, zi_l2i, zi_lcmp, zi_dup, zi_dup2, zi_pop, zi_if1, zi_if2, zi_getI, zi_getL, zi_getR, zi_putI, zi_putZ, zi_putL, zi_aldI, zi_aldL, zi_astI, zi_astZ, zi_astL, zi_alen, zi_iret, zi_zret, zi_lret, zi_vret, zi_callV, zi_callS, zi_sw, zi_copyI, zi_copyL, zi_m2, zi_m1, zi_sval, zi_scod, zi_fmt, zi_balen, zi_bald, zi_bret, zi_callT, zq_nth, zq_put1, zq_put2, zq_clr, zq_nl, zq_tk, zq_ps, zq_sw, zq_l0, zq_a, zq_a1, List.length_cons, List.length_nil, List.nil_append, List.cons_append, List.append_nil, List.replicate, Nat.reduceAdd, Nat.reduceSub, Nat.reduceLeDiff, true_and, and_true, List.append_eq, List.cons.injEq, Value.int.injEq, Value.long.injEq, Value.ref.injEq, exists_and_left, exists_eq_left', and_assoc, zc_b, zc_0, zc_1, zc_10, zc_01, lg_cmp_ge, lg_cmp_le, lg_cmp_gt, lg_cmp_lt, lg_cmp_eq, zw_le, zw_lt, reduceIte, true_or, or_true, zw_g0, zw_l0, zw_g1, zw_l1, zw_g2, zw_l2, zw_g3, zw_l3, zw_g5, zw_l5, zw_g6, zw_l6, zw_g7, zw_l7, zw_g9, zw_l9, zw_g10, zw_l10, zw_g15, zw_l15, zw_g16, zw_l16, zw_g48, zw_l48, zw_g50, zw_l50, zw_g57, zw_l57, zw_g97, zw_l97, zw_g100, zw_l100, zw_g200, zw_l200, zw_g999, zw_l999, zw_g9999, zw_l9999]
          rw [if_pos (Or.inl q3)] at f9
          simp only [nI_1] at f9
          exact f9
        · simp only [zi_push, zi_iload, zi_lload, zi_aload, zi_istore, zi_astore, zi_lstore, zi_iinc, zi_i2, zi_i1, zi_idv, zi_l2, zi_ldv, zi_lsh, zi_i2l, zi_l2i, zi_lcmp, zi_dup, zi_dup2, zi_pop, zi_if1, zi_if2, zi_getI, zi_getL, zi_getR, zi_putI, zi_putZ, zi_putL, zi_aldI, zi_aldL, zi_astI, zi_astZ, zi_astL, zi_alen, zi_iret, zi_zret, zi_lret, zi_vret, zi_callV, zi_callS, zi_sw, zi_copyI, zi_copyL, zi_m2, zi_m1, zi_sval, zi_scod, zi_fmt, zi_balen, zi_bald, zi_bret, zi_callT, zq_nth, zq_put1, zq_put2, zq_clr, zq_nl, zq_tk, zq_ps, zq_sw, zq_l0, zq_a, zq_a1, List.length_cons, List.length_nil, List.nil_append, List.cons_append, List.append_nil, List.replicate, Nat.reduceAdd, Nat.reduceSub, Nat.reduceLeDiff, true_and, and_true, List.append_eq, List.cons.injEq, Value.int.injEq, Value.long.injEq, Value.ref.injEq, exists_and_left, exists_eq_left', and_assoc, zc_b, zc_0, zc_1, zc_10, zc_01, lg_cmp_ge, lg_cmp_le, lg_cmp_gt, lg_cmp_lt, lg_cmp_eq, zw_le, zw_lt, reduceIte, true_or, or_true, zw_g0, zw_l0, zw_g1, zw_l1, zw_g2, zw_l2, zw_g3, zw_l3, zw_g5, zw_l5, zw_g6, zw_l6, zw_g7, zw_l7, zw_g9, zw_l9, zw_g10, zw_l10, zw_g15, zw_l15, zw_g16, zw_l16, zw_g48, zw_l48, zw_g50, zw_l50, zw_g57, zw_l57, zw_g97, zw_l97, zw_g100, zw_l100, zw_g200, zw_l200, zw_g999, zw_l999, zw_g9999, zw_l9999]
          rw [if_neg q3]
          refine ⟨(zat V v t).2.1, rfl, by omega, ?_⟩
          have b1 : ∀ k, k < 64 → zbc k < 7 := by decide
          have b2 := b1 t (by omega)
          have b3 := b1 (zat V v t).2.1 (by omega)
          simp only [xX12_ate_67, xX12_ate_72, xX12_ate_73, xX12_ate_84, nx_and, nI_leP (show zbc (zat V v t).2.1 < 2 ^ 31 by omega) (show zbc t < 2 ^ 31 by omega), zi_push, zi_iload, zi_lload, zi_aload, zi_istore, zi_astore, zi_lstore, zi_iinc, zi_i2, zi_i1, zi_idv, zi_l2, zi_ldv, zi_lsh, zi_i2l, zi_l2i, zi_lcmp, zi_dup, zi_dup2, zi_pop, zi_if1, zi_if2, zi_getI, zi_getL, zi_getR, zi_putI, zi_putZ, zi_putL, zi_aldI, zi_aldL, zi_astI, zi_astZ, zi_astL, zi_alen, zi_iret, zi_zret, zi_lret, zi_vret, zi_callV, zi_callS, zi_sw, zi_copyI, zi_copyL, zi_m2, zi_m1, zi_sval, zi_scod, zi_fmt, zi_balen, zi_bald, zi_bret, zi_callT, zq_nth, zq_put1, zq_put2, zq_clr, zq_nl, zq_tk, zq_ps, zq_sw, zq_l0, zq_a, zq_a1, List.length_cons, List.length_nil, List.nil_append, List.cons_append, List.append_nil, List.replicate, Nat.reduceAdd, Nat.reduceSub, Nat.reduceLeDiff, true_and, and_true, List.append_eq, List.cons.injEq, Value.int.injEq, Value.long.injEq, Value.ref.injEq, exists_and_left, exists_eq_left', and_assoc, zc_b, zc_0, zc_1, zc_10, zc_01, lg_cmp_ge, lg_cmp_le, lg_cmp_gt, lg_cmp_lt, lg_cmp_eq, zw_le, zw_lt, reduceIte, true_or, or_true, zw_g0, zw_l0, zw_g1, zw_l1, zw_g2, zw_l2, zw_g3, zw_l3, zw_g5, zw_l5, zw_g6, zw_l6, zw_g7, zw_l7, zw_g9, zw_l9, zw_g10, zw_l10, zw_g15, zw_l15, zw_g16, zw_l16, zw_g48, zw_l48, zw_g50, zw_l50, zw_g57, zw_l57, zw_g97, zw_l97, zw_g100, zw_l100, zw_g200, zw_l200, zw_g999, zw_l999, zw_g9999, zw_l9999]
          refine ⟨fun q4 => ?_, fun q4 => ?_⟩
          · rw [if_neg (fun z => z.elim q3 (fun y => by omega))] at f9
            simp only [nI_1] at f9 ⊢
            exact f9
          · rw [if_pos (Or.inr (by omega))] at f9
            simp only [nI_1] at f9 ⊢
            exact f9
      · rw [if_neg q2] at fin
        exact fin _ rfl
/-! chances -/
def zpr (p k : Nat) : Nat → Nat
  | 0 => 1
  | n + 1 => zpr p k n * (if k.testBit n = false then 10 - p else p)
def zch (V : zV) (p v t : Nat) : Nat := nsum (fun k => if vDs V k ≤ v then zpr p k (vg V) else 0) t
def zchA (V : zV) (p v : Nat) : Nat := zch V p v (2 ^ vg V)
theorem zpr_le {p k : Nat} (hp : p ≤ 10) : ∀ n, zpr p k n ≤ 10 ^ n
  | 0 => Nat.le_refl _
  | n + 1 => by
    have := zpr_le (k := k) hp n
    rw [zpr, Nat.pow_succ]
    refine Nat.mul_le_mul this ?_
    split <;> omega
theorem z10 : ∀ n, n ≤ 6 → 10 ^ n ≤ 1000000 := by decide
theorem zch_le {V : zV} (hg : vg V ≤ 6) {p v t : Nat} (hp : p ≤ 10) (ht : t ≤ 64) : zch V p v t ≤ 64000000 := by
  have h1 : zch V p v t ≤ 1000000 * t := by
    refine nsum_le _ (fun k _ => ?_)
    split
    · exact Nat.le_trans (zpr_le hp _) (z10 _ hg)
    · exact Nat.zero_le _
  omega
def sp_chanceOf (V : zV) : zq_Sp := fun args h Q => ∃ p v, args = [.ref 5, .int (nI p), .int (nI v)] ∧ (p ≤ 10 ∧ v ≤ 9999) ∧ ZV V ∧ XC V h ∧ Q (some (.long (lN (zchA V p v)))) h
def I_ch5 (V : zV) (Q : zq_Q) (z : zq_H × Nat × Nat × Nat × Nat) : zq_P := fun ls st h => match z with
  | (h0, p, v, t, _) => ∃ s6 s7 s8, ls = [some (.ref 5), some (.int (nI p)), some (.int (nI v)), some (.long (lN (zch V p v t))), none, some (.int (nI t)), s6, s7, s8] ∧ st = [] ∧ h = h0 ∧ (p ≤ 10 ∧ v ≤ 9999 ∧ t ≤ 2 ^ vg V) ∧ ZV V ∧ XC V h ∧ Q (some (.long (lN (zchA V p v)))) h
def I_ch32 (V : zV) (Q : zq_Q) (z : zq_H × Nat × Nat × Nat × Nat) : zq_P := fun ls st h => match z with
  | (h0, p, v, t, i) => ls = [some (.ref 5), some (.int (nI p)), some (.int (nI v)), some (.long (lN (zch V p v t))), none, some (.int (nI t)), some (.long (lN (zpr p t i))), none, some (.int (nI i))] ∧ st = [] ∧ h = h0 ∧ (p ≤ 10 ∧ v ≤ 9999 ∧ t < 2 ^ vg V ∧ i ≤ vg V ∧ vDs V t ≤ v) ∧ ZV V ∧ XC V h ∧ Q (some (.long (lN (zchA V p v)))) h
theorem ok_chanceOf (V : zV) : zq_M yX3_chanceOf cX3_chanceOf 9 (some .long) 2 1 (sp_chanceOf V) := by
  refine mX3_chanceOf (ok_dsV V) (by decide) (fun z => (64 - z.2.2.2.1) * 20) (I_ch5 V) (fun z => (64 - z.2.2.2.1) * 20 - 1 - z.2.2.2.2) (I_ch32 V) (fun args h Q hs => ?_) (fun Q z ls st h hi => ?_) (fun Q z ls st h hi => ?_)
  · obtain ⟨p, v, rfl, ⟨hp, hv⟩, hV, hX, k⟩ := hs
    refine ⟨Nat.le_of_ble_eq_true rfl, ?_⟩
    simp only [xX3_chanceOf_83, xX3_chanceOf_77, xX3_chanceOf_72, xX3_chanceOf_63, xX3_chanceOf_58, xX3_chanceOf_53, xX3_chanceOf_41, xX3_chanceOf_32, xX3_chanceOf_26, xX3_chanceOf_16, xX3_chanceOf_5, xX3_chanceOf_0, zi_push, zi_iload, zi_lload, zi_aload, zi_istore, zi_astore, zi_lstore, zi_iinc, zi_i2, zi_i1, zi_idv, zi_l2, zi_ldv, zi_lsh, zi_i2l, zi_l2i, zi_lcmp, zi_dup, zi_dup2, zi_pop, zi_if1, zi_if2, zi_getI, zi_getL, zi_getR, zi_putI, zi_putZ, zi_putL, zi_aldI, zi_aldL, zi_astI, zi_astZ, zi_astL, zi_alen, zi_iret, zi_zret, zi_lret, zi_vret, zi_callV, zi_callS, zi_sw, zi_copyI, zi_copyL, zi_m2, zi_m1, zi_sval, zi_scod, zi_fmt, zi_balen, zi_bald, zi_bret, zi_callT, zq_nth, zq_put1, zq_put2, zq_clr, zq_nl, zq_tk, zq_ps, zq_sw, zq_l0, zq_a, zq_a1, List.length_cons, List.length_nil, List.nil_append, List.cons_append, List.append_nil, List.replicate, Nat.reduceAdd, Nat.reduceSub, Nat.reduceLeDiff, true_and, and_true, List.append_eq, List.cons.injEq, Value.int.injEq, Value.long.injEq, Value.ref.injEq, exists_and_left, exists_eq_left', and_assoc, zc_b, zc_0, zc_1, zc_10, zc_01, lg_cmp_ge, lg_cmp_le, lg_cmp_gt, lg_cmp_lt, lg_cmp_eq, zw_le, zw_lt, reduceIte, true_or, or_true, zw_g0, zw_l0, zw_g1, zw_l1, zw_g2, zw_l2, zw_g3, zw_l3, zw_g5, zw_l5, zw_g6, zw_l6, zw_g7, zw_l7, zw_g9, zw_l9, zw_g10, zw_l10, zw_g15, zw_l15, zw_g16, zw_l16, zw_g48, zw_l48, zw_g50, zw_l50, zw_g57, zw_l57, zw_g97, zw_l97, zw_g100, zw_l100, zw_g200, zw_l200, zw_g999, zw_l999, zw_g9999, zw_l9999]
    exact ⟨(h, p, v, 0, 0), none, none, none, rfl, rfl, rfl, ⟨hp, hv, Nat.zero_le _⟩, hV, hX, k⟩
  · obtain ⟨h0, p, v, t, i9⟩ := z
    obtain ⟨s6, s7, s8, rfl, rfl, rfl, ⟨hp, hv, ht⟩, hV, hX, k⟩ := hi
    have hg := hX.2.1.1
    have hp2 := zp2 _ hg
    have l1 := vDs_le V t
    have l2 := vA_le hV
    simp only [xX3_chanceOf_5, xX3_chanceOf_16, xX3_chanceOf_83, hX.2.1.2.1, hp2.2.1, zl_ge ht (show 2 ^ vg V < 2 ^ 31 by omega), zi_push, zi_iload, zi_lload, zi_aload, zi_istore, zi_astore, zi_lstore, zi_iinc, zi_i2, zi_i1, zi_idv, zi_l2, zi_ldv, zi_lsh, zi_i2l, zi_l2i, zi_lcmp, zi_dup, zi_dup2, zi_pop, zi_if1, zi_if2, zi_getI, zi_getL, zi_getR, zi_putI, zi_putZ, zi_putL, zi_aldI, zi_aldL, zi_astI, zi_astZ, zi_astL, zi_alen, zi_iret, zi_zret, zi_lret, zi_vret, zi_callV, zi_callS, zi_sw, zi_copyI, zi_copyL, zi_m2, zi_m1, zi_sval, zi_scod, zi_fmt, zi_balen, zi_bald, zi_bret, zi_callT, zq_nth, zq_put1, zq_put2, zq_clr, zq_nl, zq_tk, zq_ps, zq_sw, zq_l0, zq_a, zq_a1, List.length_cons, List.length_nil, List.nil_append, List.cons_append, List.append_nil, List.replicate, Nat.reduceAdd, Nat.reduceSub, Nat.reduceLeDiff, true_and, and_true, List.append_eq, List.cons.injEq, Value.int.injEq, Value.long.injEq, Value.ref.injEq, exists_and_left, exists_eq_left', and_assoc, zc_b, zc_0, zc_1, zc_10, zc_01, lg_cmp_ge, lg_cmp_le, lg_cmp_gt, lg_cmp_lt, lg_cmp_eq, zw_le, zw_lt, reduceIte, true_or, or_true, zw_g0, zw_l0, zw_g1, zw_l1, zw_g2, zw_l2, zw_g3, zw_l3, zw_g5, zw_l5, zw_g6, zw_l6, zw_g7, zw_l7, zw_g9, zw_l9, zw_g10, zw_l10, zw_g15, zw_l15, zw_g16, zw_l16, zw_g48, zw_l48, zw_g50, zw_l50, zw_g57, zw_l57, zw_g97, zw_l97, zw_g100, zw_l100, zw_g200, zw_l200, zw_g999, zw_l999, zw_g9999, zw_l9999]
    refine ⟨fun q => ?_, fun q => ⟨t, rfl, by omega, hV, hX, ?_⟩⟩
    · subst q
      exact k
    · simp only [xX3_chanceOf_26, xX3_chanceOf_77, nI_ltP (show v < 2 ^ 31 by omega) (show vDs V t < 2 ^ 31 by omega), zi_push, zi_iload, zi_lload, zi_aload, zi_istore, zi_astore, zi_lstore, zi_iinc, zi_i2, zi_i1, zi_idv, zi_l2, zi_ldv, zi_lsh, zi_i2l, zi_l2i, zi_lcmp, zi_dup, zi_dup2, zi_pop, zi_if1, zi_if2, zi_getI, zi_getL, zi_getR, zi_putI, zi_putZ, zi_putL, zi_aldI, zi_aldL, zi_astI, zi_astZ, zi_astL, zi_alen, zi_iret, zi_zret, zi_lret, zi_vret, zi_callV, zi_callS, zi_sw, zi_copyI, zi_copyL, zi_m2, zi_m1, zi_sval, zi_scod, zi_fmt, zi_balen, zi_bald, zi_bret, zi_callT, zq_nth, zq_put1, zq_put2, zq_clr, zq_nl, zq_tk, zq_ps, zq_sw, zq_l0, zq_a, zq_a1, List.length_cons, List.length_nil, List.nil_append, List.cons_append, List.append_nil, List.replicate, Nat.reduceAdd, Nat.reduceSub, Nat.reduceLeDiff, true_and, and_true, List.append_eq, List.cons.injEq, Value.int.injEq, Value.long.injEq, Value.ref.injEq, exists_and_left, exists_eq_left', and_assoc, zc_b, zc_0, zc_1, zc_10, zc_01, lg_cmp_ge, lg_cmp_le, lg_cmp_gt, lg_cmp_lt, lg_cmp_eq, zw_le, zw_lt, reduceIte, true_or, or_true, zw_g0, zw_l0, zw_g1, zw_l1, zw_g2, zw_l2, zw_g3, zw_l3, zw_g5, zw_l5, zw_g6, zw_l6, zw_g7, zw_l7, zw_g9, zw_l9, zw_g10, zw_l10, zw_g15, zw_l15, zw_g16, zw_l16, zw_g48, zw_l48, zw_g50, zw_l50, zw_g57, zw_l57, zw_g97, zw_l97, zw_g100, zw_l100, zw_g200, zw_l200, zw_g999, zw_l999, zw_g9999, zw_l9999]
      refine ⟨fun q2 => ⟨(h, p, v, t + 1, 0), by dsimp only; omega, s6, s7, s8, ?_, rfl, rfl, ⟨hp, hv, by omega⟩, hV, hX, k⟩, fun q2 => ⟨(h, p, v, t, 0), by dsimp only; omega, rfl, rfl, rfl, ⟨hp, hv, by omega, Nat.zero_le _, by omega⟩, hV, hX, k⟩⟩
      have e : zch V p v (t + 1) = zch V p v t := by
        show zch V p v t + (if vDs V t ≤ v then zpr p t (vg V) else 0) = zch V p v t
        rw [if_neg (by omega)]
        rfl
      rw [e, nI_1]
  · obtain ⟨h0, p, v, t, i⟩ := z
    obtain ⟨rfl, rfl, rfl, ⟨hp, hv, ht, hi, hd⟩, hV, hX, k⟩ := hi
    have hg := hX.2.1.1
    have hp2 := zp2 _ hg
    simp only [xX3_chanceOf_32, xX3_chanceOf_41, xX3_chanceOf_53, xX3_chanceOf_58, xX3_chanceOf_63, xX3_chanceOf_72, xX3_chanceOf_77, hX.2.1.2.1, zl_ge hi (show vg V < 2 ^ 31 by omega), zi_push, zi_iload, zi_lload, zi_aload, zi_istore, zi_astore, zi_lstore, zi_iinc, zi_i2, zi_i1, zi_idv, zi_l2, zi_ldv, zi_lsh, zi_i2l, zi_l2i, zi_lcmp, zi_dup, zi_dup2, zi_pop, zi_if1, zi_if2, zi_getI, zi_getL, zi_getR, zi_putI, zi_putZ, zi_putL, zi_aldI, zi_aldL, zi_astI, zi_astZ, zi_astL, zi_alen, zi_iret, zi_zret, zi_lret, zi_vret, zi_callV, zi_callS, zi_sw, zi_copyI, zi_copyL, zi_m2, zi_m1, zi_sval, zi_scod, zi_fmt, zi_balen, zi_bald, zi_bret, zi_callT, zq_nth, zq_put1, zq_put2, zq_clr, zq_nl, zq_tk, zq_ps, zq_sw, zq_l0, zq_a, zq_a1, List.length_cons, List.length_nil, List.nil_append, List.cons_append, List.append_nil, List.replicate, Nat.reduceAdd, Nat.reduceSub, Nat.reduceLeDiff, true_and, and_true, List.append_eq, List.cons.injEq, Value.int.injEq, Value.long.injEq, Value.ref.injEq, exists_and_left, exists_eq_left', and_assoc, zc_b, zc_0, zc_1, zc_10, zc_01, lg_cmp_ge, lg_cmp_le, lg_cmp_gt, lg_cmp_lt, lg_cmp_eq, zw_le, zw_lt, reduceIte, true_or, or_true, zw_g0, zw_l0, zw_g1, zw_l1, zw_g2, zw_l2, zw_g3, zw_l3, zw_g5, zw_l5, zw_g6, zw_l6, zw_g7, zw_l7, zw_g9, zw_l9, zw_g10, zw_l10, zw_g15, zw_l15, zw_g16, zw_l16, zw_g48, zw_l48, zw_g50, zw_l50, zw_g57, zw_l57, zw_g97, zw_l97, zw_g100, zw_l100, zw_g200, zw_l200, zw_g999, zw_l999, zw_g9999, zw_l9999]
    refine ⟨fun q => ?_, fun q => ?_⟩
    · subst q
      rw [lN_add, nI_1]
      have e : zch V p v (t + 1) = zch V p v t + zpr p t (vg V) := by
        show zch V p v t + (if vDs V t ≤ v then zpr p t (vg V) else 0) = zch V p v t + zpr p t (vg V)
        rw [if_pos hd]
      rw [← e]
      exact ⟨(h, p, v, t + 1, 0), by dsimp only; omega, _, _, _, rfl, rfl, rfl, ⟨hp, hv, by omega⟩, hV, hX, k⟩
    · rw [zbitP (by omega) (by omega), show (10 : Int32) - nI p = nI (10 - p) from nI_sub (a := 10) hp, nI_l (by omega), nI_l (by omega), lN_mul, lN_mul, nI_1]
      have e : zpr p t (i + 1) = zpr p t i * (if t.testBit i = false then 10 - p else p) := rfl
      refine ⟨fun q2 => ⟨(h, p, v, t, i + 1), by dsimp only; omega, ?_, rfl, rfl, ⟨hp, hv, ht, by omega, hd⟩, hV, hX, k⟩, fun q2 => ⟨(h, p, v, t, i + 1), by dsimp only; omega, ?_, rfl, rfl, ⟨hp, hv, ht, by omega, hd⟩, hV, hX, k⟩⟩
      · rw [e, if_pos q2]
      · rw [e, if_neg q2]
def sp_allChances (V : zV) : zq_Sp := fun args h Q => args = [.ref 5] ∧ XC V h ∧ Q (some (.long (lN (10 ^ vg V)))) h
def I_allCh (V : zV) (Q : zq_Q) (z : zq_H × Nat) : zq_P := fun ls st h => match z with
  | (h0, i) => ls = [some (.ref 5), some (.long (lN (10 ^ i))), none, some (.int (nI i))] ∧ st = [] ∧ h = h0 ∧ i ≤ vg V ∧ XC V h ∧ Q (some (.long (lN (10 ^ vg V)))) h
theorem ok_allChances (V : zV) : zq_M yX3_allChances cX3_allChances 4 (some .long) 2 0 (sp_allChances V) := by
  refine mX3_allChances (fun z => 10 - z.2) (I_allCh V) (fun args h Q hs => ?_) (fun Q z ls st h hi => ?_)
  · obtain ⟨rfl, hX, k⟩ := hs
    refine ⟨Nat.le_of_ble_eq_true rfl, ?_⟩
    simp only [xX3_allChances_24, xX3_allChances_12, xX3_allChances_4, xX3_allChances_0, zi_push, zi_iload, zi_lload, zi_aload, zi_istore, zi_astore, zi_lstore, zi_iinc, zi_i2, zi_i1, zi_idv, zi_l2, zi_ldv, zi_lsh, zi_i2l, zi_l2i, zi_lcmp, zi_dup, zi_dup2, zi_pop, zi_if1, zi_if2, zi_getI, zi_getL, zi_getR, zi_putI, zi_putZ, zi_putL, zi_aldI, zi_aldL, zi_astI, zi_astZ, zi_astL, zi_alen, zi_iret, zi_zret, zi_lret, zi_vret, zi_callV, zi_callS, zi_sw, zi_copyI, zi_copyL, zi_m2, zi_m1, zi_sval, zi_scod, zi_fmt, zi_balen, zi_bald, zi_bret, zi_callT, zq_nth, zq_put1, zq_put2, zq_clr, zq_nl, zq_tk, zq_ps, zq_sw, zq_l0, zq_a, zq_a1, List.length_cons, List.length_nil, List.nil_append, List.cons_append, List.append_nil, List.replicate, Nat.reduceAdd, Nat.reduceSub, Nat.reduceLeDiff, true_and, and_true, List.append_eq, List.cons.injEq, Value.int.injEq, Value.long.injEq, Value.ref.injEq, exists_and_left, exists_eq_left', and_assoc, zc_b, zc_0, zc_1, zc_10, zc_01, lg_cmp_ge, lg_cmp_le, lg_cmp_gt, lg_cmp_lt, lg_cmp_eq, zw_le, zw_lt, reduceIte, true_or, or_true, zw_g0, zw_l0, zw_g1, zw_l1, zw_g2, zw_l2, zw_g3, zw_l3, zw_g5, zw_l5, zw_g6, zw_l6, zw_g7, zw_l7, zw_g9, zw_l9, zw_g10, zw_l10, zw_g15, zw_l15, zw_g16, zw_l16, zw_g48, zw_l48, zw_g50, zw_l50, zw_g57, zw_l57, zw_g97, zw_l97, zw_g100, zw_l100, zw_g200, zw_l200, zw_g999, zw_l999, zw_g9999, zw_l9999]
    exact ⟨(h, 0), rfl, rfl, rfl, Nat.zero_le _, hX, k⟩
  · obtain ⟨h0, i⟩ := z
    obtain ⟨rfl, rfl, rfl, hi, hX, k⟩ := hi
    have hg := hX.2.1.1
    simp only [xX3_allChances_4, xX3_allChances_12, xX3_allChances_24, hX.2.1.2.1, zl_ge hi (show vg V < 2 ^ 31 by omega), zi_push, zi_iload, zi_lload, zi_aload, zi_istore, zi_astore, zi_lstore, zi_iinc, zi_i2, zi_i1, zi_idv, zi_l2, zi_ldv, zi_lsh, zi_i2l, zi_l2i, zi_lcmp, zi_dup, zi_dup2, zi_pop, zi_if1, zi_if2, zi_getI, zi_getL, zi_getR, zi_putI, zi_putZ, zi_putL, zi_aldI, zi_aldL, zi_astI, zi_astZ, zi_astL, zi_alen, zi_iret, zi_zret, zi_lret, zi_vret, zi_callV, zi_callS, zi_sw, zi_copyI, zi_copyL, zi_m2, zi_m1, zi_sval, zi_scod, zi_fmt, zi_balen, zi_bald, zi_bret, zi_callT, zq_nth, zq_put1, zq_put2, zq_clr, zq_nl, zq_tk, zq_ps, zq_sw, zq_l0, zq_a, zq_a1, List.length_cons, List.length_nil, List.nil_append, List.cons_append, List.append_nil, List.replicate, Nat.reduceAdd, Nat.reduceSub, Nat.reduceLeDiff, true_and, and_true, List.append_eq, List.cons.injEq, Value.int.injEq, Value.long.injEq, Value.ref.injEq, exists_and_left, exists_eq_left', and_assoc, zc_b, zc_0, zc_1, zc_10, zc_01, lg_cmp_ge, lg_cmp_le, lg_cmp_gt, lg_cmp_lt, lg_cmp_eq, zw_le, zw_lt, reduceIte, true_or, or_true, zw_g0, zw_l0, zw_g1, zw_l1, zw_g2, zw_l2, zw_g3, zw_l3, zw_g5, zw_l5, zw_g6, zw_l6, zw_g7, zw_l7, zw_g9, zw_l9, zw_g10, zw_l10, zw_g15, zw_l15, zw_g16, zw_l16, zw_g48, zw_l48, zw_g50, zw_l50, zw_g57, zw_l57, zw_g97, zw_l97, zw_g100, zw_l100, zw_g200, zw_l200, zw_g999, zw_l999, zw_g9999, zw_l9999]
    refine ⟨fun q => ?_, fun q => ?_⟩
    · subst q
      exact k
    · rw [show (10 : Int64) = lN 10 from rfl, lN_mul, nI_1, ← Nat.pow_succ]
      exact ⟨(h, i + 1), by dsimp only; omega, rfl, rfl, rfl, by omega, hX, k⟩
def zpv (a b M : Int32) : Prop := (0 ≤ a ∧ a ≤ 10) ∧ 0 ≤ b ∧ b ≤ M
theorem z10n {a : Int32} (h : 0 ≤ a ∧ a ≤ 10) : ∃ v, v ≤ 10 ∧ a = nI v := nI_of2 (M := 10) (by decide) (Int32.not_lt.mpr h.1) h.2
theorem z100n {a : Int32} (h : 0 ≤ a ∧ a ≤ 100) : ∃ v, v ≤ 100 ∧ a = nI v := nI_of2 (M := 100) (by decide) (Int32.not_lt.mpr h.1) h.2
def zfr (u v : Nat) : List Int64 := [lN (u / Nat.gcd u v), lN (v / Nat.gcd u v)]
def sp_xEnough (V : zV) : zq_Sp := fun args h Q => ∃ a c, args = [.ref 0, .int a, .int c] ∧ ZV V ∧ XC V h ∧ (¬ zpv a c 9999 → Q (some (.int (-1))) h) ∧ ∀ p v, p ≤ 10 → v ≤ 9999 → a = nI p → c = nI v → zKR h Q (zfr (zchA V p v) (10 ^ vg V)) 0
theorem ok_xEnough (V : zV) : zq_M yX11_enough cX11_enough 3 (some .int) 1 2 (sp_xEnough V) := by
  refine mX11_enough ok_rowClearL (by decide) (ok_chanceOf V) (by decide) (ok_allChances V) (by decide) ok_addFrac (by decide) (fun args h Q hs => ?_)
  obtain ⟨a, c, rfl, hV, hX, k1, k2⟩ := hs
  have hg := hX.2.1.1
  refine ⟨Nat.le_of_ble_eq_true rfl, ?_⟩
  simp only [xX11_enough_23, xX11_enough_21, xX11_enough_14, xX11_enough_10, xX11_enough_4, xX11_enough_0, zi_push, zi_iload, zi_lload, zi_aload, zi_istore, zi_astore, zi_lstore, zi_iinc, zi_i2, zi_i1, zi_idv, zi_l2, zi_ldv, zi_lsh, zi_i2l, zi_l2i, zi_lcmp, zi_dup, zi_dup2, zi_pop, zi_if1, zi_if2, zi_getI, zi_getL, zi_getR, zi_putI, zi_putZ, zi_putL, zi_aldI, zi_aldL, zi_astI, zi_astZ, zi_astL, zi_alen, zi_iret, zi_zret, zi_lret, zi_vret, zi_callV, zi_callS, zi_sw, zi_copyI, zi_copyL, zi_m2, zi_m1, zi_sval, zi_scod, zi_fmt, zi_balen, zi_bald, zi_bret, zi_callT, zq_nth, zq_put1, zq_put2, zq_clr, zq_nl, zq_tk, zq_ps, zq_sw, zq_l0, zq_a, zq_a1, List.length_cons, List.length_nil, List.nil_append, List.cons_append, List.append_nil, List.replicate, Nat.reduceAdd, Nat.reduceSub, Nat.reduceLeDiff, true_and, and_true, List.append_eq, List.cons.injEq, Value.int.injEq, Value.long.injEq, Value.ref.injEq, exists_and_left, exists_eq_left', and_assoc, zc_b, zc_0, zc_1, zc_10, zc_01, lg_cmp_ge, lg_cmp_le, lg_cmp_gt, lg_cmp_lt, lg_cmp_eq, zw_le, zw_lt, reduceIte, true_or, or_true, zw_g0, zw_l0, zw_g1, zw_l1, zw_g2, zw_l2, zw_g3, zw_l3, zw_g5, zw_l5, zw_g6, zw_l6, zw_g7, zw_l7, zw_g9, zw_l9, zw_g10, zw_l10, zw_g15, zw_l15, zw_g16, zw_l16, zw_g48, zw_l48, zw_g50, zw_l50, zw_g57, zw_l57, zw_g97, zw_l97, zw_g100, zw_l100, zw_g200, zw_l200, zw_g999, zw_l999, zw_g9999, zw_l9999]
  refine ⟨fun q => k1 (fun z => absurd q (Int32.not_lt.mpr z.1.1)), fun q => ⟨fun q2 => k1 (fun z => absurd q2 (Int32.not_lt.mpr z.1.2)), fun q2 => ⟨fun q3 => k1 (fun z => absurd q3 (Int32.not_lt.mpr z.2.1)), fun q3 => ⟨fun q4 => ⟨rfl, fun h1 r1 f1 => ?_⟩, fun q4 => k1 (fun z => q4 z.2.2)⟩⟩⟩⟩
  obtain ⟨p, hp, rfl⟩ := z10n ⟨Int32.not_lt.mp q, Int32.not_lt.mp q2⟩
  obtain ⟨v, hv, rfl⟩ := z9999 ⟨Int32.not_lt.mp q3, q4⟩
  have x1 := XC_fr hX f1 (by decide)
  simp only [zi_push, zi_iload, zi_lload, zi_aload, zi_istore, zi_astore, zi_lstore, zi_iinc, zi_i2, zi_i1, zi_idv, zi_l2, zi_ldv, zi_lsh, zi_i2l, zi_l2i, zi_lcmp, zi_dup, zi_dup2, zi_pop, zi_if1, zi_if2, zi_getI, zi_getL, zi_getR, zi_putI, zi_putZ, zi_putL, zi_aldI, zi_aldL, zi_astI, zi_astZ, zi_astL, zi_alen, zi_iret, zi_zret, zi_lret, zi_vret, zi_callV, zi_callS, zi_sw, zi_copyI, zi_copyL, zi_m2, zi_m1, zi_sval, zi_scod, zi_fmt, zi_balen, zi_bald, zi_bret, zi_callT, zq_nth, zq_put1, zq_put2, zq_clr, zq_nl, zq_tk, zq_ps, zq_sw, zq_l0, zq_a, zq_a1, List.length_cons, List.length_nil, List.nil_append, List.cons_append, List.append_nil, List.replicate, Nat.reduceAdd, Nat.reduceSub, Nat.reduceLeDiff, true_and, and_true, List.append_eq, List.cons.injEq, Value.int.injEq, Value.long.injEq, Value.ref.injEq, exists_and_left, exists_eq_left', and_assoc, zc_b, zc_0, zc_1, zc_10, zc_01, lg_cmp_ge, lg_cmp_le, lg_cmp_gt, lg_cmp_lt, lg_cmp_eq, zw_le, zw_lt, reduceIte, true_or, or_true, zw_g0, zw_l0, zw_g1, zw_l1, zw_g2, zw_l2, zw_g3, zw_l3, zw_g5, zw_l5, zw_g6, zw_l6, zw_g7, zw_l7, zw_g9, zw_l9, zw_g10, zw_l10, zw_g15, zw_l15, zw_g16, zw_l16, zw_g48, zw_l48, zw_g50, zw_l50, zw_g57, zw_l57, zw_g97, zw_l97, zw_g100, zw_l100, zw_g200, zw_l200, zw_g999, zw_l999, zw_g9999, zw_l9999]
  refine ⟨p, v, rfl, ⟨hp, hv⟩, hV, x1, ?_⟩
  simp only [zi_push, zi_iload, zi_lload, zi_aload, zi_istore, zi_astore, zi_lstore, zi_iinc, zi_i2, zi_i1, zi_idv, zi_l2, zi_ldv, zi_lsh, zi_i2l, zi_l2i, zi_lcmp, zi_dup, zi_dup2, zi_pop, zi_if1, zi_if2, zi_getI, zi_getL, zi_getR, zi_putI, zi_putZ, zi_putL, zi_aldI, zi_aldL, zi_astI, zi_astZ, zi_astL, zi_alen, zi_iret, zi_zret, zi_lret, zi_vret, zi_callV, zi_callS, zi_sw, zi_copyI, zi_copyL, zi_m2, zi_m1, zi_sval, zi_scod, zi_fmt, zi_balen, zi_bald, zi_bret, zi_callT, zq_nth, zq_put1, zq_put2, zq_clr, zq_nl, zq_tk, zq_ps, zq_sw, zq_l0, zq_a, zq_a1, List.length_cons, List.length_nil, List.nil_append, List.cons_append, List.append_nil, List.replicate, Nat.reduceAdd, Nat.reduceSub, Nat.reduceLeDiff, true_and, and_true, List.append_eq, List.cons.injEq, Value.int.injEq, Value.long.injEq, Value.ref.injEq, exists_and_left, exists_eq_left', and_assoc, zc_b, zc_0, zc_1, zc_10, zc_01, lg_cmp_ge, lg_cmp_le, lg_cmp_gt, lg_cmp_lt, lg_cmp_eq, zw_le, zw_lt, reduceIte, true_or, or_true, zw_g0, zw_l0, zw_g1, zw_l1, zw_g2, zw_l2, zw_g3, zw_l3, zw_g5, zw_l5, zw_g6, zw_l6, zw_g7, zw_l7, zw_g9, zw_l9, zw_g10, zw_l10, zw_g15, zw_l15, zw_g16, zw_l16, zw_g48, zw_l48, zw_g50, zw_l50, zw_g57, zw_l57, zw_g97, zw_l97, zw_g100, zw_l100, zw_g200, zw_l200, zw_g999, zw_l999, zw_g9999, zw_l9999]
  refine ⟨rfl, x1, ?_⟩
  simp only [zi_push, zi_iload, zi_lload, zi_aload, zi_istore, zi_astore, zi_lstore, zi_iinc, zi_i2, zi_i1, zi_idv, zi_l2, zi_ldv, zi_lsh, zi_i2l, zi_l2i, zi_lcmp, zi_dup, zi_dup2, zi_pop, zi_if1, zi_if2, zi_getI, zi_getL, zi_getR, zi_putI, zi_putZ, zi_putL, zi_aldI, zi_aldL, zi_astI, zi_astZ, zi_astL, zi_alen, zi_iret, zi_zret, zi_lret, zi_vret, zi_callV, zi_callS, zi_sw, zi_copyI, zi_copyL, zi_m2, zi_m1, zi_sval, zi_scod, zi_fmt, zi_balen, zi_bald, zi_bret, zi_callT, zq_nth, zq_put1, zq_put2, zq_clr, zq_nl, zq_tk, zq_ps, zq_sw, zq_l0, zq_a, zq_a1, List.length_cons, List.length_nil, List.nil_append, List.cons_append, List.append_nil, List.replicate, Nat.reduceAdd, Nat.reduceSub, Nat.reduceLeDiff, true_and, and_true, List.append_eq, List.cons.injEq, Value.int.injEq, Value.long.injEq, Value.ref.injEq, exists_and_left, exists_eq_left', and_assoc, zc_b, zc_0, zc_1, zc_10, zc_01, lg_cmp_ge, lg_cmp_le, lg_cmp_gt, lg_cmp_lt, lg_cmp_eq, zw_le, zw_lt, reduceIte, true_or, or_true, zw_g0, zw_l0, zw_g1, zw_l1, zw_g2, zw_l2, zw_g3, zw_l3, zw_g5, zw_l5, zw_g6, zw_l6, zw_g7, zw_l7, zw_g9, zw_l9, zw_g10, zw_l10, zw_g15, zw_l15, zw_g16, zw_l16, zw_g48, zw_l48, zw_g50, zw_l50, zw_g57, zw_l57, zw_g97, zw_l97, zw_g100, zw_l100, zw_g200, zw_l200, zw_g999, zw_l999, zw_g9999, zw_l9999]
  have l1 : zchA V p v ≤ 64000000 := zch_le hg hp (by have := (zp2 _ hg).2.2; omega)
  have l2 := z10 _ hg
  refine ⟨zchA V p v, 10 ^ vg V, [], rfl, ⟨by omega, by omega, Nat.pow_pos (by decide)⟩, r1, by decide, fun h2 r2 f2 => ?_⟩
  simp only [zi_push, zi_iload, zi_lload, zi_aload, zi_istore, zi_astore, zi_lstore, zi_iinc, zi_i2, zi_i1, zi_idv, zi_l2, zi_ldv, zi_lsh, zi_i2l, zi_l2i, zi_lcmp, zi_dup, zi_dup2, zi_pop, zi_if1, zi_if2, zi_getI, zi_getL, zi_getR, zi_putI, zi_putZ, zi_putL, zi_aldI, zi_aldL, zi_astI, zi_astZ, zi_astL, zi_alen, zi_iret, zi_zret, zi_lret, zi_vret, zi_callV, zi_callS, zi_sw, zi_copyI, zi_copyL, zi_m2, zi_m1, zi_sval, zi_scod, zi_fmt, zi_balen, zi_bald, zi_bret, zi_callT, zq_nth, zq_put1, zq_put2, zq_clr, zq_nl, zq_tk, zq_ps, zq_sw, zq_l0, zq_a, zq_a1, List.length_cons, List.length_nil, List.nil_append, List.cons_append, List.append_nil, List.replicate, Nat.reduceAdd, Nat.reduceSub, Nat.reduceLeDiff, true_and, and_true, List.append_eq, List.cons.injEq, Value.int.injEq, Value.long.injEq, Value.ref.injEq, exists_and_left, exists_eq_left', and_assoc, zc_b, zc_0, zc_1, zc_10, zc_01, lg_cmp_ge, lg_cmp_le, lg_cmp_gt, lg_cmp_lt, lg_cmp_eq, zw_le, zw_lt, reduceIte, true_or, or_true, zw_g0, zw_l0, zw_g1, zw_l1, zw_g2, zw_l2, zw_g3, zw_l3, zw_g5, zw_l5, zw_g6, zw_l6, zw_g7, zw_l7, zw_g9, zw_l9, zw_g10, zw_l10, zw_g15, zw_l15, zw_g16, zw_l16, zw_g48, zw_l48, zw_g50, zw_l50, zw_g57, zw_l57, zw_g97, zw_l97, zw_g100, zw_l100, zw_g200, zw_l200, zw_g999, zw_l999, zw_g9999, zw_l9999]
  exact k2 p v hp hv rfl rfl h2 r2 (zq_fr_t (zq_fr_w f1 (by decide)) f2 (by decide))
