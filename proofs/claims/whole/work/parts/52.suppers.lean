/-! ===== suppers ===== -/
theorem XQ_of {V : zV} {h : zq_H} (hX : XC V h) {h' : zq_H} (e : ∀ i, i < 96 → h'.1 36 i = h.1 10 i) : XQ (vg V) (vn V) (vwN V) h' := by
  intro j c hj hc
  have hn := hX.1.1
  have hg := hX.2.1.1
  have w := vwN_eq V j c
  rw [e _ (by omega), (hX.2.2.2.2.2.1.2 j hj).1 c hc, w.1]
  exact ⟨rfl, w.2⟩
theorem MPk_of {b : Nat} {V : zV} {h : zq_H} (hX : MD b V h) {h' : zq_H} (e : ∀ i, i < 96 → h'.1 89 i = h.1 74 i) : MPk (vg V) (vn V) (vwN V) h' := by
  intro j c hj hc
  have hn := hX.1.1.1
  have hg := hX.1.2.1.1
  have w := vwN_eq V j c
  rw [e _ (by omega), (hX.2.2 j hj).1 c hc, w.1]
  exact ⟨rfl, w.2⟩
theorem zta_add (n : Nat) (wt pick : Nat → Nat → Nat) (w has : Nat → Nat) : ∀ t, (zta n wt pick w has t).1 = (zta n wt pick w z00 t).1 ∧ (zta n wt pick w has t).2.1 = (zta n wt pick w z00 t).2.1 ∧ ∀ j, (zta n wt pick w has t).2.2 j = has j + (zta n wt pick w z00 t).2.2 j
  | 0 => ⟨rfl, rfl, fun j => rfl⟩
  | t + 1 => by
    obtain ⟨h1, h2, h3⟩ := zta_add n wt pick w has t
    rw [zta_s, zta_s]
    unfold zta1
    rw [h1, h2]
    split
    · refine ⟨rfl, rfl, fun j => ?_⟩
      dsimp only
      split
      · rw [h3 j, Nat.add_assoc]
      · exact h3 j
    · exact ⟨h1, h2, h3⟩
theorem zta_le {n : Nat} {wt pick : Nat → Nat → Nat} {w : Nat → Nat} (hw : ∀ j c, wt j c ≤ 999) : ∀ t j, (zta n wt pick w z00 t).2.2 j ≤ 999 * t
  | 0, j => Nat.le_refl _
  | t + 1, j => by
    have ih := zta_le (n := n) (pick := pick) (w := w) hw t j
    rw [zta_s]
    unfold zta1
    split
    · dsimp only
      split
      · have := hw (w t) (zfv (pick (w t)) (zta n wt pick w z00 t).1 n - 1)
        omega
      · omega
    · omega
/-- draws -/
def zdr (seed : Int32) : Nat → Int32
  | 0 => seed
  | k + 1 => zdr seed k * 1103515245 + 12345
def zdg (seed : Int32) (g k : Nat) : Nat := (zdr seed (k + 1)).toBitVec.toNat / 65536 % g
theorem zdg_eq {g : Nat} (hg : 0 < g) (hg6 : g ≤ 6) (seed : Int32) (k : Nat) : zf_rem (zf_ushr (zdr seed (k + 1)) 16) (nI g) = nI (zdg seed g k) ∧ zdg seed g k < g := by
  obtain ⟨n, hn, e⟩ := wb_of32 (zdr seed (k + 1))
  have e2 : (zdr seed (k + 1)).toBitVec.toNat = n := by rw [e]; exact pk_tn hn
  unfold zdg
  rw [e2]
  refine ⟨?_, Nat.mod_lt _ hg⟩
  rw [e]
  unfold zf_ushr zf_rem
  rw [pk_ushrN hn 16 16 (by decide)]
  exact pk_rem (by omega) hg (by omega)
/-- has, behind s suppers -/
def zsw (V : zV) (seed : Int32) (s : Nat) : Nat → Nat := fun i => zdg seed (vg V) (s * vn V + i)
def zsu (V : zV) (seed : Int32) : Nat → Nat → Nat
  | 0 => z00
  | s + 1 => (vT V (vwN V) (zsw V seed s) (zsu V seed s) (vn V)).2.2
theorem zsu_s (V : zV) (seed : Int32) (s j : Nat) : zsu V seed (s + 1) j = zsu V seed s j + (vT V (vwN V) (zsw V seed s) z00 (vn V)).2.2 j := (zta_add _ _ _ _ _ _).2.2 j
theorem zsu_le {V : zV} (hn : vn V ≤ 16) (seed : Int32) : ∀ s j, zsu V seed s j ≤ 15984 * s
  | 0, j => Nat.zero_le _
  | s + 1, j => by
    have h1 := zsu_le hn seed s j
    have h2 := zta_le (n := vn V) (wt := vwN V) (pick := vwN V) (w := zsw V seed s) (fun j c => (vwN_eq V j c).2) (vn V) j
    have h3 : (vT V (vwN V) (zsw V seed s) z00 (vn V)).2.2 j ≤ 999 * vn V := h2
    rw [zsu_s]
    omega
/-- the first of the greatest -/
def zbest (f : Nat → Nat) (t : Nat) : Nat := zfold (fun i b => if f b < f i then i else b) t 0
theorem zbest_s (f : Nat → Nat) (t : Nat) : zbest f (t + 1) = if f (zbest f t) < f t then t else zbest f t := rfl
theorem zbest_le (f : Nat → Nat) : ∀ t, zbest f t ≤ t
  | 0 => Nat.le_refl _
  | t + 1 => by
    have := zbest_le f t
    rw [zbest_s]
    split <;> omega
theorem zbest_lt (f : Nat → Nat) {g : Nat} (hg : 0 < g) : ∀ t, t ≤ g → zbest f t < g
  | 0, _ => hg
  | t + 1, h => by
    have := zbest_lt f hg t (by omega)
    rw [zbest_s]
    split <;> omega
def zrw (f : Nat → Nat) : Nat → List Int64
  | 0 => []
  | t + 1 => zrw f t ++ [lN (f t)]
theorem zrw_len (f : Nat → Nat) : ∀ t, (zrw f t).length = t
  | 0 => rfl
  | t + 1 => by rw [zrw, List.length_append, zrw_len f t]; rfl
def zsuA (V : zV) (seed : Int32) (n : Nat) : Int32 := nI (zbest (zsu V seed n) (vg V))
def zsuW (V : zV) (seed : Int32) (n : Nat) : List Int64 := zrw (zsu V seed n) (vg V)
def zsuq (V : zV) (c : Int32) : Prop := (1 ≤ c ∧ c ≤ 50) ∧ 0 < vg V
theorem z50n {a : Int32} (h : 1 ≤ a ∧ a ≤ 50) : ∃ v, 1 ≤ v ∧ v ≤ 50 ∧ a = nI v := zg1_nat (n := 50) (by decide) h
def zKu (h : zq_H) (Q : zq_Q) (row : List Int64) (r : Int32) : Prop := ∀ h', XR row h' → zq_fr [3, 4, 34, 35, 36, 37] h h' → Q (some (.int r)) h'
def sp_xSuppers (V : zV) : zq_Sp := fun args h Q => ∃ seed c, args = [.ref 0, .int seed, .int c] ∧ XC V h ∧ (¬ zsuq V c → Q (some (.int (-1))) h) ∧ ∀ n, 1 ≤ n → n ≤ 50 → 0 < vg V → c = nI n → zKu h Q (zsuW V seed n) (zsuA V seed n)
def zxs (V : zV) (Q : zq_Q) (h0 h : zq_H) (seed : Int32) (n : Nat) : Prop := (1 ≤ n ∧ n ≤ 50 ∧ 0 < vg V) ∧ zq_fr [3, 4, 34, 35, 36, 37] h0 h ∧ XC V h0 ∧ XQ (vg V) (vn V) (vwN V) h ∧ zKu h0 Q (zsuW V seed n) (zsuA V seed n)
def I_xSu39 (V : zV) (Q : zq_Q) (z : zq_H × Int32 × Nat × Nat × Nat) : zq_P := fun ls st h => match z with
  | (h0, seed, n, s, _) => ∃ s5, ls = [some (.ref 0), some (.int seed), some (.int (nI n)), some (.int (zdr seed (s * vn V))), some (.int (nI s)), s5] ∧ st = [] ∧ s ≤ n ∧ XH (zsu V seed s) h ∧ zxs V Q h0 h seed n
def I_xSu62 (V : zV) (Q : zq_Q) (z : zq_H × Int32 × Nat × Nat × Nat) : zq_P := fun ls st h => match z with
  | (h0, seed, n, s, t) => ls = [some (.ref 0), some (.int seed), some (.int (nI n)), some (.int (zdr seed (s * vn V + t))), some (.int (nI s)), some (.int (nI t))] ∧ st = [] ∧ (s < n ∧ t ≤ vn V) ∧ h.1 34 3 = nI (vn V) ∧ (∀ i, i < t → h.1 35 i = nI (zsw V seed s i)) ∧ XH (zsu V seed s) h ∧ zxs V Q h0 h seed n
def I_xSu143 (V : zV) (Q : zq_Q) (z : zq_H × Int32 × Nat × Nat × Nat) : zq_P := fun ls st h => match z with
  | (h0, seed, n, t, _) => ∃ s3 : Int32, ls = [some (.ref 0), some (.int seed), some (.int (nI n)), some (.int s3), some (.int (nI (zbest (zsu V seed n) t))), some (.int (nI t))] ∧ st = [] ∧ t ≤ vg V ∧ XR (zrw (zsu V seed n) t) h ∧ XH (zsu V seed n) h ∧ zxs V Q h0 h seed n
theorem XQ_fr {g n : Nat} {p : Nat → Nat → Nat} {ps : List Nat} {h h' : zq_H} (k : XQ g n p h) (f : zq_fr ps h h') (d : 36 ∉ ps) : XQ g n p h' := by
  unfold XQ at *
  rw [(f 36 d).1]
  exact k
theorem XH_fr {has : Nat → Nat} {ps : List Nat} {h h' : zq_H} (k : XH has h) (f : zq_fr ps h h') (d : 37 ∉ ps) : XH has h' := by
  unfold XH at *
  rw [(f 37 d).1]
  exact k
theorem ok_xSuppers (V : zV) : zq_M yX11_suppers cX11_suppers 6 (some .int) 1 2 (sp_xSuppers V) := by
  refine mX11_suppers ok_startTaking (by decide) (ok_takeAll V) (by decide) ok_rowClearL (by decide) ok_rowAddL (by decide) (fun z => 1000 + (z.2.2.1 - z.2.2.2.1) * 20) (I_xSu39 V) (fun z => 1000 + (z.2.2.1 - z.2.2.2.1) * 20 - 1 - z.2.2.2.2) (I_xSu62 V) (fun z => 100 - z.2.2.2.1) (I_xSu143 V) (fun args h Q hs => ?_) (fun Q z ls st h hi => ?_) (fun Q z ls st h hi => ?_) (fun Q z ls st h hi => ?_)
  · obtain ⟨seed, c, rfl, hX, k1, k2⟩ := hs
    have hg := hX.2.1.1
    refine ⟨Nat.le_of_ble_eq_true rfl, ?_⟩
    simp only [xX11_suppers_206, xX11_suppers_200, xX11_suppers_196, xX11_suppers_155, xX11_suppers_143, xX11_suppers_130, xX11_suppers_112, xX11_suppers_74, xX11_suppers_62, xX11_suppers_45, xX11_suppers_39, xX11_suppers_23, xX11_suppers_21, xX11_suppers_11, xX11_suppers_5, xX11_suppers_0, zi_push, zi_iload, zi_lload, zi_aload, zi_istore, zi_astore, zi_lstore, zi_iinc, zi_i2, zi_i1, zi_idv, zi_l2, zi_ldv, zi_lsh, zi_i2l, zi_l2i, zi_lcmp, zi_dup, zi_dup2, zi_pop, zi_if1, zi_if2, zi_getI, zi_getL, zi_getR, zi_putI, zi_putZ, zi_putL, zi_aldI, zi_aldL, zi_astI, zi_astZ, zi_astL, zi_alen, zi_iret, zi_zret, zi_lret, zi_vret, zi_callV, zi_callS, zi_sw, zi_copyI, zi_copyL, zi_m2, zi_m1, zi_sval, zi_scod, zi_fmt, zi_balen, zi_bald, zi_bret, zi_callT, zq_nth, zq_put1, zq_put2, zq_clr, zq_nl, zq_tk, zq_ps, zq_sw, zq_l0, zq_a, zq_a1, List.length_cons, List.length_nil, List.nil_append, List.cons_append, List.append_nil, List.replicate, Nat.reduceAdd, Nat.reduceSub, Nat.reduceLeDiff, true_and, and_true, List.append_eq, List.cons.injEq, Value.int.injEq, Value.long.injEq, Value.ref.injEq, exists_and_left, exists_eq_left', and_assoc, zc_b, zc_0, zc_1, zc_10, zc_01, lg_cmp_ge, lg_cmp_le, lg_cmp_gt, lg_cmp_lt, lg_cmp_eq, zw_le, zw_lt, reduceIte, true_or, or_true, zw_g0, zw_l0, zw_g1, zw_l1, zw_g2, zw_l2, zw_g3, zw_l3, zw_g5, zw_l5, zw_g6, zw_l6, zw_g7, zw_l7, zw_g9, zw_l9, zw_g10, zw_l10, zw_g15, zw_l15, zw_g16, zw_l16, zw_g48, zw_l48, zw_g50, zw_l50, zw_g57, zw_l57, zw_g97, zw_l97, zw_g100, zw_l100, zw_g200, zw_l200, zw_g999, zw_l999, zw_g9999, zw_l9999, hX.2.1.2.1, nI_zP (show vg V < 2 ^ 31 by omega)]
    refine ⟨fun q => k1 (fun z => absurd q (Int32.not_lt.mpr z.1.1)), fun q => ⟨fun q2 => k1 (fun z => absurd q2 (Int32.not_lt.mpr z.1.2)), fun q2 => ⟨fun q3 => k1 (fun z => by have := z.2; omega), fun q3 => ⟨rfl, fun h1 e1 e2 f1 => ?_⟩⟩⟩⟩
    obtain ⟨n, n1, n2, rfl⟩ := z50n ⟨Int32.not_lt.mp q, Int32.not_lt.mp q2⟩
    simp only [zi_push, zi_iload, zi_lload, zi_aload, zi_istore, zi_astore, zi_lstore, zi_iinc, zi_i2, zi_i1, zi_idv, zi_l2, zi_ldv, zi_lsh, zi_i2l, zi_l2i, zi_lcmp, zi_dup, zi_dup2, zi_pop, zi_if1, zi_if2, zi_getI, zi_getL, zi_getR, zi_putI, zi_putZ, zi_putL, zi_aldI, zi_aldL, zi_astI, zi_astZ, zi_astL, zi_alen, zi_iret, zi_zret, zi_lret, zi_vret, zi_callV, zi_callS, zi_sw, zi_copyI, zi_copyL, zi_m2, zi_m1, zi_sval, zi_scod, zi_fmt, zi_balen, zi_bald, zi_bret, zi_callT, zq_nth, zq_put1, zq_put2, zq_clr, zq_nl, zq_tk, zq_ps, zq_sw, zq_l0, zq_a, zq_a1, List.length_cons, List.length_nil, List.nil_append, List.cons_append, List.append_nil, List.replicate, Nat.reduceAdd, Nat.reduceSub, Nat.reduceLeDiff, true_and, and_true, List.append_eq, List.cons.injEq, Value.int.injEq, Value.long.injEq, Value.ref.injEq, exists_and_left, exists_eq_left', and_assoc, zc_b, zc_0, zc_1, zc_10, zc_01, lg_cmp_ge, lg_cmp_le, lg_cmp_gt, lg_cmp_lt, lg_cmp_eq, zw_le, zw_lt, reduceIte, true_or, or_true, zw_g0, zw_l0, zw_g1, zw_l1, zw_g2, zw_l2, zw_g3, zw_l3, zw_g5, zw_l5, zw_g6, zw_l6, zw_g7, zw_l7, zw_g9, zw_l9, zw_g10, zw_l10, zw_g15, zw_l15, zw_g16, zw_l16, zw_g48, zw_l48, zw_g50, zw_l50, zw_g57, zw_l57, zw_g97, zw_l97, zw_g100, zw_l100, zw_g200, zw_l200, zw_g999, zw_l999, zw_g9999, zw_l9999]
    refine ⟨(h, seed, n, 0, 0), none, ?_, rfl, Nat.zero_le _, fun j hj => e2 j hj, ⟨n1, n2, by omega⟩, zq_fr_w f1 (by decide), hX, XQ_of hX e1, k2 n n1 n2 (by omega) rfl⟩
    rw [Nat.zero_mul]
    rfl
  · obtain ⟨h0, seed, n, s, t9⟩ := z
    obtain ⟨s5, rfl, rfl, hs, hH, hn, hf, hX, hQ, k⟩ := hi
    have hX1 := XC_fr hX hf (by decide)
    simp only [xX11_suppers_39, xX11_suppers_45, xX11_suppers_130, hX1.1.2.1, zl_ge hs (show n < 2 ^ 31 by omega), zi_push, zi_iload, zi_lload, zi_aload, zi_istore, zi_astore, zi_lstore, zi_iinc, zi_i2, zi_i1, zi_idv, zi_l2, zi_ldv, zi_lsh, zi_i2l, zi_l2i, zi_lcmp, zi_dup, zi_dup2, zi_pop, zi_if1, zi_if2, zi_getI, zi_getL, zi_getR, zi_putI, zi_putZ, zi_putL, zi_aldI, zi_aldL, zi_astI, zi_astZ, zi_astL, zi_alen, zi_iret, zi_zret, zi_lret, zi_vret, zi_callV, zi_callS, zi_sw, zi_copyI, zi_copyL, zi_m2, zi_m1, zi_sval, zi_scod, zi_fmt, zi_balen, zi_bald, zi_bret, zi_callT, zq_nth, zq_put1, zq_put2, zq_clr, zq_nl, zq_tk, zq_ps, zq_sw, zq_l0, zq_a, zq_a1, List.length_cons, List.length_nil, List.nil_append, List.cons_append, List.append_nil, List.replicate, Nat.reduceAdd, Nat.reduceSub, Nat.reduceLeDiff, true_and, and_true, List.append_eq, List.cons.injEq, Value.int.injEq, Value.long.injEq, Value.ref.injEq, exists_and_left, exists_eq_left', and_assoc, zc_b, zc_0, zc_1, zc_10, zc_01, lg_cmp_ge, lg_cmp_le, lg_cmp_gt, lg_cmp_lt, lg_cmp_eq, zw_le, zw_lt, reduceIte, true_or, or_true, zw_g0, zw_l0, zw_g1, zw_l1, zw_g2, zw_l2, zw_g3, zw_l3, zw_g5, zw_l5, zw_g6, zw_l6, zw_g7, zw_l7, zw_g9, zw_l9, zw_g10, zw_l10, zw_g15, zw_l15, zw_g16, zw_l16, zw_g48, zw_l48, zw_g50, zw_l50, zw_g57, zw_l57, zw_g97, zw_l97, zw_g100, zw_l100, zw_g200, zw_l200, zw_g999, zw_l999, zw_g9999, zw_l9999]
    refine ⟨fun q => ⟨rfl, fun h1 r1 f1 => ?_⟩, fun q => ⟨(h0, seed, n, s, 0), by dsimp only; omega, rfl, rfl, ⟨by omega, Nat.zero_le _⟩, by simp [zq_sI], fun i hi => absurd hi (Nat.not_lt_zero _), fun j hj => by simpa [zq_sI] using hH j hj, hn, zq_fr_I hf (by decide), hX, fun j c hj hc => by simpa [zq_sI] using hQ j c hj hc, k⟩⟩
    subst q
    simp only [zi_push, zi_iload, zi_lload, zi_aload, zi_istore, zi_astore, zi_lstore, zi_iinc, zi_i2, zi_i1, zi_idv, zi_l2, zi_ldv, zi_lsh, zi_i2l, zi_l2i, zi_lcmp, zi_dup, zi_dup2, zi_pop, zi_if1, zi_if2, zi_getI, zi_getL, zi_getR, zi_putI, zi_putZ, zi_putL, zi_aldI, zi_aldL, zi_astI, zi_astZ, zi_astL, zi_alen, zi_iret, zi_zret, zi_lret, zi_vret, zi_callV, zi_callS, zi_sw, zi_copyI, zi_copyL, zi_m2, zi_m1, zi_sval, zi_scod, zi_fmt, zi_balen, zi_bald, zi_bret, zi_callT, zq_nth, zq_put1, zq_put2, zq_clr, zq_nl, zq_tk, zq_ps, zq_sw, zq_l0, zq_a, zq_a1, List.length_cons, List.length_nil, List.nil_append, List.cons_append, List.append_nil, List.replicate, Nat.reduceAdd, Nat.reduceSub, Nat.reduceLeDiff, true_and, and_true, List.append_eq, List.cons.injEq, Value.int.injEq, Value.long.injEq, Value.ref.injEq, exists_and_left, exists_eq_left', and_assoc, zc_b, zc_0, zc_1, zc_10, zc_01, lg_cmp_ge, lg_cmp_le, lg_cmp_gt, lg_cmp_lt, lg_cmp_eq, zw_le, zw_lt, reduceIte, true_or, or_true, zw_g0, zw_l0, zw_g1, zw_l1, zw_g2, zw_l2, zw_g3, zw_l3, zw_g5, zw_l5, zw_g6, zw_l6, zw_g7, zw_l7, zw_g9, zw_l9, zw_g10, zw_l10, zw_g15, zw_l15, zw_g16, zw_l16, zw_g48, zw_l48, zw_g50, zw_l50, zw_g57, zw_l57, zw_g97, zw_l97, zw_g100, zw_l100, zw_g200, zw_l200, zw_g999, zw_l999, zw_g9999, zw_l9999]
    exact ⟨(h0, seed, s, 0, 0), by dsimp only; omega, _, rfl, rfl, Nat.zero_le _, r1, XH_fr hH f1 (by decide), hn, zq_fr_t hf f1 (by decide), hX, XQ_fr hQ f1 (by decide), k⟩
  · obtain ⟨h0, seed, n, s, t⟩ := z
    obtain ⟨rfl, rfl, ⟨hs, ht⟩, e34, e35, hH, hn, hf, hX, hQ, k⟩ := hi
    have hX1 := XC_fr hX hf (by decide)
    have n16 := hX1.1.1
    have g6 := hX1.2.1.1
    have e40 : h.1 40 3 = nI (vn V) := hX1.1.2.1
    simp only [xX11_suppers_62, xX11_suppers_74, xX11_suppers_112, e40, zl_ge ht (show vn V < 2 ^ 31 by omega), hX1.2.1.2.1, nI_clamp (show t < 2 ^ 31 by omega), nI_1, zi_push, zi_iload, zi_lload, zi_aload, zi_istore, zi_astore, zi_lstore, zi_iinc, zi_i2, zi_i1, zi_idv, zi_l2, zi_ldv, zi_lsh, zi_i2l, zi_l2i, zi_lcmp, zi_dup, zi_dup2, zi_pop, zi_if1, zi_if2, zi_getI, zi_getL, zi_getR, zi_putI, zi_putZ, zi_putL, zi_aldI, zi_aldL, zi_astI, zi_astZ, zi_astL, zi_alen, zi_iret, zi_zret, zi_lret, zi_vret, zi_callV, zi_callS, zi_sw, zi_copyI, zi_copyL, zi_m2, zi_m1, zi_sval, zi_scod, zi_fmt, zi_balen, zi_bald, zi_bret, zi_callT, zq_nth, zq_put1, zq_put2, zq_clr, zq_nl, zq_tk, zq_ps, zq_sw, zq_l0, zq_a, zq_a1, List.length_cons, List.length_nil, List.nil_append, List.cons_append, List.append_nil, List.replicate, Nat.reduceAdd, Nat.reduceSub, Nat.reduceLeDiff, true_and, and_true, List.append_eq, List.cons.injEq, Value.int.injEq, Value.long.injEq, Value.ref.injEq, exists_and_left, exists_eq_left', and_assoc, zc_b, zc_0, zc_1, zc_10, zc_01, lg_cmp_ge, lg_cmp_le, lg_cmp_gt, lg_cmp_lt, lg_cmp_eq, zw_le, zw_lt, reduceIte, true_or, or_true, zw_g0, zw_l0, zw_g1, zw_l1, zw_g2, zw_l2, zw_g3, zw_l3, zw_g5, zw_l5, zw_g6, zw_l6, zw_g7, zw_l7, zw_g9, zw_l9, zw_g10, zw_l10, zw_g15, zw_l15, zw_g16, zw_l16, zw_g48, zw_l48, zw_g50, zw_l50, zw_g57, zw_l57, zw_g97, zw_l97, zw_g100, zw_l100, zw_g200, zw_l200, zw_g999, zw_l999, zw_g9999, zw_l9999]
    refine ⟨fun q => ?_, fun q => ?_⟩
    · subst q
      refine ⟨vn V, zsw V seed s, vwN V, zsu V seed s, rfl, hX1, ⟨e34, n16, fun i hi => ⟨e35 i hi, (zdg_eq hn.2.2 g6 seed _).2⟩⟩, hQ, hH, fun h1 e1 f1 => ?_⟩
      simp only [zi_push, zi_iload, zi_lload, zi_aload, zi_istore, zi_astore, zi_lstore, zi_iinc, zi_i2, zi_i1, zi_idv, zi_l2, zi_ldv, zi_lsh, zi_i2l, zi_l2i, zi_lcmp, zi_dup, zi_dup2, zi_pop, zi_if1, zi_if2, zi_getI, zi_getL, zi_getR, zi_putI, zi_putZ, zi_putL, zi_aldI, zi_aldL, zi_astI, zi_astZ, zi_astL, zi_alen, zi_iret, zi_zret, zi_lret, zi_vret, zi_callV, zi_callS, zi_sw, zi_copyI, zi_copyL, zi_m2, zi_m1, zi_sval, zi_scod, zi_fmt, zi_balen, zi_bald, zi_bret, zi_callT, zq_nth, zq_put1, zq_put2, zq_clr, zq_nl, zq_tk, zq_ps, zq_sw, zq_l0, zq_a, zq_a1, List.length_cons, List.length_nil, List.nil_append, List.cons_append, List.append_nil, List.replicate, Nat.reduceAdd, Nat.reduceSub, Nat.reduceLeDiff, true_and, and_true, List.append_eq, List.cons.injEq, Value.int.injEq, Value.long.injEq, Value.ref.injEq, exists_and_left, exists_eq_left', and_assoc, zc_b, zc_0, zc_1, zc_10, zc_01, lg_cmp_ge, lg_cmp_le, lg_cmp_gt, lg_cmp_lt, lg_cmp_eq, zw_le, zw_lt, reduceIte, true_or, or_true, zw_g0, zw_l0, zw_g1, zw_l1, zw_g2, zw_l2, zw_g3, zw_l3, zw_g5, zw_l5, zw_g6, zw_l6, zw_g7, zw_l7, zw_g9, zw_l9, zw_g10, zw_l10, zw_g15, zw_l15, zw_g16, zw_l16, zw_g48, zw_l48, zw_g50, zw_l50, zw_g57, zw_l57, zw_g97, zw_l97, zw_g100, zw_l100, zw_g200, zw_l200, zw_g999, zw_l999, zw_g9999, zw_l9999]
      rw [← Nat.succ_mul]
      exact ⟨(h0, seed, n, s + 1, 0), by dsimp only; omega, _, rfl, rfl, by omega, e1, hn, zq_fr_t hf f1 (by decide), hX, XQ_fr hQ f1 (by decide), k⟩
    · have e := zdg_eq hn.2.2 g6 seed (s * vn V + t)
      have e2 : zdr seed (s * vn V + t) * 1103515245 + 12345 = zdr seed (s * vn V + t + 1) := rfl
      rw [e2, e.1]
      have nz : ¬ nI (vg V) = 0 := nI_ne0 hn.2.2 (by omega)
      have fin : ∃ b9 : zq_H × Int32 × Nat × Nat × Nat, 1000 + (b9.2.2.1 - b9.2.2.2.1) * 20 - 1 - b9.2.2.2.2 < 1000 + (n - s) * 20 - 1 - t ∧ I_xSu62 V Q b9 [some (.ref 0), some (.int seed), some (.int (nI n)), some (.int (zdr seed (s * vn V + t + 1))), some (.int (nI s)), some (.int (nI (t + 1)))] [] (zq_setI h 35 t (nI (zdg seed (vg V) (s * vn V + t)))) := by
        refine ⟨(h0, seed, n, s, t + 1), by dsimp only; omega, rfl, rfl, ⟨hs, by omega⟩, by simpa [zq_sI] using e34, fun i hi => ?_, fun j hj => by simpa [zq_sI] using hH j hj, hn, zq_fr_I hf (by decide), hX, fun j c hj hc => by simpa [zq_sI] using hQ j c hj hc, k⟩
        by_cases q2 : i = t
        · simp [zq_sI, q2, zsw]
        · simpa [zq_sI, q2] using e35 i (by omega)
      exact ⟨nz, vp_in_nI (by omega) (by decide), fin⟩
  · obtain ⟨h0, seed, n, t, t9⟩ := z
    obtain ⟨s3, rfl, rfl, ht, hR, hH, hn, hf, hX, hQ, k⟩ := hi
    have hX1 := XC_fr hX hf (by decide)
    have n16 := hX1.1.1
    have g6 := hX1.2.1.1
    have hb := zbest_lt (zsu V seed n) hn.2.2 t ht
    have es := zbest_s (zsu V seed n) t
    have l1 := zsu_le n16 seed n t
    have l2 := zsu_le n16 seed n (zbest (zsu V seed n) t)
    simp only [xX11_suppers_143, xX11_suppers_155, xX11_suppers_206, zl_ge ht (show vg V < 2 ^ 31 by omega), hX1.2.1.2.1, nI_clamp (show t < 2 ^ 31 by omega), zi_push, zi_iload, zi_lload, zi_aload, zi_istore, zi_astore, zi_lstore, zi_iinc, zi_i2, zi_i1, zi_idv, zi_l2, zi_ldv, zi_lsh, zi_i2l, zi_l2i, zi_lcmp, zi_dup, zi_dup2, zi_pop, zi_if1, zi_if2, zi_getI, zi_getL, zi_getR, zi_putI, zi_putZ, zi_putL, zi_aldI, zi_aldL, zi_astI, zi_astZ, zi_astL, zi_alen, zi_iret, zi_zret, zi_lret, zi_vret, zi_callV, zi_callS, zi_sw, zi_copyI, zi_copyL, zi_m2, zi_m1, zi_sval, zi_scod, zi_fmt, zi_balen, zi_bald, zi_bret, zi_callT, zq_nth, zq_put1, zq_put2, zq_clr, zq_nl, zq_tk, zq_ps, zq_sw, zq_l0, zq_a, zq_a1, List.length_cons, List.length_nil, List.nil_append, List.cons_append, List.append_nil, List.replicate, Nat.reduceAdd, Nat.reduceSub, Nat.reduceLeDiff, true_and, and_true, List.append_eq, List.cons.injEq, Value.int.injEq, Value.long.injEq, Value.ref.injEq, exists_and_left, exists_eq_left', and_assoc, zc_b, zc_0, zc_1, zc_10, zc_01, lg_cmp_ge, lg_cmp_le, lg_cmp_gt, lg_cmp_lt, lg_cmp_eq, zw_le, zw_lt, reduceIte, true_or, or_true, zw_g0, zw_l0, zw_g1, zw_l1, zw_g2, zw_l2, zw_g3, zw_l3, zw_g5, zw_l5, zw_g6, zw_l6, zw_g7, zw_l7, zw_g9, zw_l9, zw_g10, zw_l10, zw_g15, zw_l15, zw_g16, zw_l16, zw_g48, zw_l48, zw_g50, zw_l50, zw_g57, zw_l57, zw_g97, zw_l97, zw_g100, zw_l100, zw_g200, zw_l200, zw_g999, zw_l999, zw_g9999, zw_l9999]
    refine ⟨fun q => ?_, fun q => ⟨vp_in_nI (by omega) (by decide), ?_⟩⟩
    · subst q
      exact k h hR hf
    · have e1 := hH t (by omega)
      have e2 := hH (zbest (zsu V seed n) t) (by omega)
      rw [e1]
      refine ⟨_, _, rfl, hR, by rw [zrw_len]; omega, fun h1 r1 f1 => ?_⟩
      rw [nI_l (by omega)] at r1
      have e3 : h1.1 37 t = nI (zsu V seed n t) := by rw [(f1 37 (by decide)).1]; exact e1
      have e4 : h1.1 37 (zbest (zsu V seed n) t) = nI (zsu V seed n (zbest (zsu V seed n) t)) := by rw [(f1 37 (by decide)).1]; exact e2
      have cb : (nI (zbest (zsu V seed n) t)).toNatClampNeg = zbest (zsu V seed n) t := nI_clamp (by omega)
      simp only [xX11_suppers_196, xX11_suppers_200, nI_clamp (show t < 2 ^ 31 by omega), cb, e3, e4, nI_leP (show zsu V seed n t < 2 ^ 31 by omega) (show zsu V seed n (zbest (zsu V seed n) t) < 2 ^ 31 by omega), nI_1, zi_push, zi_iload, zi_lload, zi_aload, zi_istore, zi_astore, zi_lstore, zi_iinc, zi_i2, zi_i1, zi_idv, zi_l2, zi_ldv, zi_lsh, zi_i2l, zi_l2i, zi_lcmp, zi_dup, zi_dup2, zi_pop, zi_if1, zi_if2, zi_getI, zi_getL, zi_getR, zi_putI, zi_putZ, zi_putL, zi_aldI, zi_aldL, zi_astI, zi_astZ, zi_astL, zi_alen, zi_iret, zi_zret, zi_lret, zi_vret, zi_callV, zi_callS, zi_sw, zi_copyI, zi_copyL, zi_m2, zi_m1, zi_sval, zi_scod, zi_fmt, zi_balen, zi_bald, zi_bret, zi_callT, zq_nth, zq_put1, zq_put2, zq_clr, zq_nl, zq_tk, zq_ps, zq_sw, zq_l0, zq_a, zq_a1, List.length_cons, List.length_nil, List.nil_append, List.cons_append, List.append_nil, List.replicate, Nat.reduceAdd, Nat.reduceSub, Nat.reduceLeDiff, true_and, and_true, List.append_eq, List.cons.injEq, Value.int.injEq, Value.long.injEq, Value.ref.injEq, exists_and_left, exists_eq_left', and_assoc, zc_b, zc_0, zc_1, zc_10, zc_01, lg_cmp_ge, lg_cmp_le, lg_cmp_gt, lg_cmp_lt, lg_cmp_eq, zw_le, zw_lt, reduceIte, true_or, or_true, zw_g0, zw_l0, zw_g1, zw_l1, zw_g2, zw_l2, zw_g3, zw_l3, zw_g5, zw_l5, zw_g6, zw_l6, zw_g7, zw_l7, zw_g9, zw_l9, zw_g10, zw_l10, zw_g15, zw_l15, zw_g16, zw_l16, zw_g48, zw_l48, zw_g50, zw_l50, zw_g57, zw_l57, zw_g97, zw_l97, zw_g100, zw_l100, zw_g200, zw_l200, zw_g999, zw_l999, zw_g9999, zw_l9999]
      have fin : ∀ bb, bb = zbest (zsu V seed n) (t + 1) → ∃ b9 : zq_H × Int32 × Nat × Nat × Nat, 100 - b9.2.2.2.1 < 100 - t ∧ I_xSu143 V Q b9 [some (.ref 0), some (.int seed), some (.int (nI n)), some (.int s3), some (.int (nI bb)), some (.int (nI (t + 1)))] [] h1 := by
        intro bb e
        subst e
        exact ⟨(h0, seed, n, t + 1, 0), by dsimp only; omega, s3, rfl, rfl, by omega, r1, XH_fr hH f1 (by decide), hn, zq_fr_t hf f1 (by decide), hX, XQ_fr hQ f1 (by decide), k⟩
      rw [es] at fin
      refine ⟨vp_in_nI (by omega) (by decide), vp_in_nI (by omega) (by decide), fun q2 => ?_, fun q2 => ?_⟩
      · rw [if_neg (by omega)] at fin
        exact fin _ rfl
      · rw [if_pos (by omega)] at fin
        exact fin _ rfl
def zKum (h : zq_H) (Q : zq_Q) (row : List Int64) (r : Int32) : Prop := ∀ h', MR row h' → zq_fm [0, 1, 49, 50] [57, 72, 73, 74, 75, 88, 89, 90, 98] h h' → Q (some (.int r)) h'
def sp_mSuppers (b : Nat) (V : zV) : zq_Sp := fun args h Q => ∃ seed c, args = [.ref 56, .int seed, .int c] ∧ ZV V ∧ MC b V h ∧ (¬ zsuq V c → ∀ h', zq_fm [0] [] h h' → Q (some (.int (-1))) h') ∧ ∀ n, 1 ≤ n → n ≤ 50 → 0 < vg V → c = nI n → zKum h Q (zsuW V seed n) (zsuA V seed n)
def zms (b : Nat) (V : zV) (Q : zq_Q) (h0 h : zq_H) (seed : Int32) (n : Nat) : Prop := (1 ≤ n ∧ n ≤ 50 ∧ 0 < vg V) ∧ zq_fm [0, 1, 49, 50] [57, 72, 73, 74, 75, 88, 89, 90, 98] h0 h ∧ MD b V h ∧ MPk (vg V) (vn V) (vwN V) h ∧ zKum h0 Q (zsuW V seed n) (zsuA V seed n)
def zHa (V : zV) (f : Nat → Nat) (h : zq_H) : Prop := ∀ j, j < vg V → h.1 98 j = nI (f j)
def I_mSu39 (b : Nat) (V : zV) (Q : zq_Q) (z : zq_H × Int32 × Nat × Nat × Nat) : zq_P := fun ls st h => match z with
  | (h0, seed, n, t, _) => ∃ s5, ls = [some (.ref 56), some (.int seed), some (.int (nI n)), some (.int seed), some (.int (nI t)), s5] ∧ st = [] ∧ t ≤ 6 ∧ (∀ j, j < t → h.1 98 j = 0) ∧ zms b V Q h0 h seed n
def I_mSu63 (b : Nat) (V : zV) (Q : zq_Q) (z : zq_H × Int32 × Nat × Nat × Nat) : zq_P := fun ls st h => match z with
  | (h0, seed, n, s, _) => ∃ s5, ls = [some (.ref 56), some (.int seed), some (.int (nI n)), some (.int (zdr seed (s * vn V))), some (.int (nI s)), s5] ∧ st = [] ∧ s ≤ n ∧ zHa V (zsu V seed s) h ∧ zms b V Q h0 h seed n
def I_mSu80 (b : Nat) (V : zV) (Q : zq_Q) (z : zq_H × Int32 × Nat × Nat × Nat) : zq_P := fun ls st h => match z with
  | (h0, seed, n, s, t) => ls = [some (.ref 56), some (.int seed), some (.int (nI n)), some (.int (zdr seed (s * vn V + t))), some (.int (nI s)), some (.int (nI t))] ∧ st = [] ∧ (s < n ∧ t ≤ vn V) ∧ h.1 56 49 = nI (vn V) ∧ (∀ i, i < t → h.1 88 i = nI (zsw V seed s i)) ∧ zHa V (zsu V seed s) h ∧ zms b V Q h0 h seed n
def I_mSu128 (b : Nat) (V : zV) (Q : zq_Q) (z : zq_H × Int32 × Nat × Nat × Nat) : zq_P := fun ls st h => match z with
  | (h0, seed, n, s, t) => ls = [some (.ref 56), some (.int seed), some (.int (nI n)), some (.int (zdr seed ((s + 1) * vn V))), some (.int (nI s)), some (.int (nI t))] ∧ st = [] ∧ (s < n ∧ t ≤ vg V) ∧ MH (vT V (vwN V) (zsw V seed s) z00 (vn V)).2.2 h ∧ (∀ j, j < vg V → h.1 98 j = nI (if j < t then zsu V seed (s + 1) j else zsu V seed s j)) ∧ zms b V Q h0 h seed n
def I_mSu177 (b : Nat) (V : zV) (Q : zq_Q) (z : zq_H × Int32 × Nat × Nat × Nat) : zq_P := fun ls st h => match z with
  | (h0, seed, n, t, _) => ∃ s3 : Int32, ls = [some (.ref 56), some (.int seed), some (.int (nI n)), some (.int s3), some (.int (nI (zbest (zsu V seed n) t))), some (.int (nI t))] ∧ st = [] ∧ t ≤ vg V ∧ MR (zrw (zsu V seed n) t) h ∧ zHa V (zsu V seed n) h ∧ zms b V Q h0 h seed n
theorem ok_mSuppers (b : Nat) (V : zV) : zq_M yX12_suppers cX12_suppers 6 (some .int) 1 6 (sp_mSuppers b V) := by
  refine mX12_suppers ok_in (by decide) (ok_laysV b V) (by decide) ok_picks (by decide) (ok_goes b V) (by decide) ok_entersL (by decide) (fun z => 10000 - z.2.2.2.1) (I_mSu39 b V) (fun z => 1000 + (z.2.2.1 - z.2.2.2.1) * 50) (I_mSu63 b V) (fun z => 1000 + (z.2.2.1 - z.2.2.2.1) * 50 - 1 - z.2.2.2.2) (I_mSu80 b V) (fun z => 1000 + (z.2.2.1 - z.2.2.2.1) * 50 - 25 - z.2.2.2.2) (I_mSu128 b V) (fun z => 100 - z.2.2.2.1) (I_mSu177 b V) (fun args h Q hs => ?_) (fun Q z ls st h hi => ?_) (fun Q z ls st h hi => ?_) (fun Q z ls st h hi => ?_) (fun Q z ls st h hi => ?_) (fun Q z ls st h hi => ?_)
  · obtain ⟨seed, c, rfl, hV, hX, k1, k2⟩ := hs
    have hg := hX.2.1.1
    have f0 : zq_fm [0] [] h (zq_setI h 56 0 0) := zq_fm_F zq_fm_rf (by decide)
    have hX1 := MC_fm hX f0 (by decide)
    refine ⟨Nat.le_of_ble_eq_true rfl, ?_⟩
    simp only [xX12_suppers_230, xX12_suppers_210, xX12_suppers_208, xX12_suppers_203, xX12_suppers_186, xX12_suppers_177, xX12_suppers_166, xX12_suppers_160, xX12_suppers_137, xX12_suppers_128, xX12_suppers_121, xX12_suppers_89, xX12_suppers_80, xX12_suppers_69, xX12_suppers_63, xX12_suppers_60, xX12_suppers_46, xX12_suppers_39, xX12_suppers_26, xX12_suppers_24, xX12_suppers_17, xX12_suppers_0, zi_push, zi_iload, zi_lload, zi_aload, zi_istore, zi_astore, zi_lstore, zi_iinc, zi_i2, zi_i1, zi_idv, zi_l2, zi_ldv, zi_lsh, zi_i2l, zi_l2i, zi_lcmp, zi_dup, zi_dup2, zi_pop, zi_if1, zi_if2, zi_getI, zi_getL, zi_getR, zi_putI, zi_putZ, zi_putL, zi_aldI, zi_aldL, zi_astI, zi_astZ, zi_astL, zi_alen, zi_iret, zi_zret, zi_lret, zi_vret, zi_callV, zi_callS, zi_sw, zi_copyI, zi_copyL, zi_m2, zi_m1, zi_sval, zi_scod, zi_fmt, zi_balen, zi_bald, zi_bret, zi_callT, zq_nth, zq_put1, zq_put2, zq_clr, zq_nl, zq_tk, zq_ps, zq_sw, zq_l0, zq_a, zq_a1, List.length_cons, List.length_nil, List.nil_append, List.cons_append, List.append_nil, List.replicate, Nat.reduceAdd, Nat.reduceSub, Nat.reduceLeDiff, true_and, and_true, List.append_eq, List.cons.injEq, Value.int.injEq, Value.long.injEq, Value.ref.injEq, exists_and_left, exists_eq_left', and_assoc, zc_b, zc_0, zc_1, zc_10, zc_01, lg_cmp_ge, lg_cmp_le, lg_cmp_gt, lg_cmp_lt, lg_cmp_eq, zw_le, zw_lt, reduceIte, true_or, or_true, zw_g0, zw_l0, zw_g1, zw_l1, zw_g2, zw_l2, zw_g3, zw_l3, zw_g5, zw_l5, zw_g6, zw_l6, zw_g7, zw_l7, zw_g9, zw_l9, zw_g10, zw_l10, zw_g15, zw_l15, zw_g16, zw_l16, zw_g48, zw_l48, zw_g50, zw_l50, zw_g57, zw_l57, zw_g97, zw_l97, zw_g100, zw_l100, zw_g200, zw_l200, zw_g999, zw_l999, zw_g9999, zw_l9999, sp_in, hX1.2.1.2.1, nI_zP (show vg V < 2 ^ 31 by omega)]
    refine ⟨fun q => k1 (fun z => q z.1) _ f0, fun q => ⟨fun q2 => k1 (fun z => by have := z.2; omega) _ f0, fun q2 => ⟨rfl, hV, hX1, fun h1 d1 f1 => ?_⟩⟩⟩
    obtain ⟨n, n1, n2, rfl⟩ := z50n (by first | exact q | exact Classical.not_not.mp q)
    simp only [zi_push, zi_iload, zi_lload, zi_aload, zi_istore, zi_astore, zi_lstore, zi_iinc, zi_i2, zi_i1, zi_idv, zi_l2, zi_ldv, zi_lsh, zi_i2l, zi_l2i, zi_lcmp, zi_dup, zi_dup2, zi_pop, zi_if1, zi_if2, zi_getI, zi_getL, zi_getR, zi_putI, zi_putZ, zi_putL, zi_aldI, zi_aldL, zi_astI, zi_astZ, zi_astL, zi_alen, zi_iret, zi_zret, zi_lret, zi_vret, zi_callV, zi_callS, zi_sw, zi_copyI, zi_copyL, zi_m2, zi_m1, zi_sval, zi_scod, zi_fmt, zi_balen, zi_bald, zi_bret, zi_callT, zq_nth, zq_put1, zq_put2, zq_clr, zq_nl, zq_tk, zq_ps, zq_sw, zq_l0, zq_a, zq_a1, List.length_cons, List.length_nil, List.nil_append, List.cons_append, List.append_nil, List.replicate, Nat.reduceAdd, Nat.reduceSub, Nat.reduceLeDiff, true_and, and_true, List.append_eq, List.cons.injEq, Value.int.injEq, Value.long.injEq, Value.ref.injEq, exists_and_left, exists_eq_left', and_assoc, zc_b, zc_0, zc_1, zc_10, zc_01, lg_cmp_ge, lg_cmp_le, lg_cmp_gt, lg_cmp_lt, lg_cmp_eq, zw_le, zw_lt, reduceIte, true_or, or_true, zw_g0, zw_l0, zw_g1, zw_l1, zw_g2, zw_l2, zw_g3, zw_l3, zw_g5, zw_l5, zw_g6, zw_l6, zw_g7, zw_l7, zw_g9, zw_l9, zw_g10, zw_l10, zw_g15, zw_l15, zw_g16, zw_l16, zw_g48, zw_l48, zw_g50, zw_l50, zw_g57, zw_l57, zw_g97, zw_l97, zw_g100, zw_l100, zw_g200, zw_l200, zw_g999, zw_l999, zw_g9999, zw_l9999]
    refine ⟨rfl, fun h2 e2 f2 => ?_⟩
    simp only [zi_push, zi_iload, zi_lload, zi_aload, zi_istore, zi_astore, zi_lstore, zi_iinc, zi_i2, zi_i1, zi_idv, zi_l2, zi_ldv, zi_lsh, zi_i2l, zi_l2i, zi_lcmp, zi_dup, zi_dup2, zi_pop, zi_if1, zi_if2, zi_getI, zi_getL, zi_getR, zi_putI, zi_putZ, zi_putL, zi_aldI, zi_aldL, zi_astI, zi_astZ, zi_astL, zi_alen, zi_iret, zi_zret, zi_lret, zi_vret, zi_callV, zi_callS, zi_sw, zi_copyI, zi_copyL, zi_m2, zi_m1, zi_sval, zi_scod, zi_fmt, zi_balen, zi_bald, zi_bret, zi_callT, zq_nth, zq_put1, zq_put2, zq_clr, zq_nl, zq_tk, zq_ps, zq_sw, zq_l0, zq_a, zq_a1, List.length_cons, List.length_nil, List.nil_append, List.cons_append, List.append_nil, List.replicate, Nat.reduceAdd, Nat.reduceSub, Nat.reduceLeDiff, true_and, and_true, List.append_eq, List.cons.injEq, Value.int.injEq, Value.long.injEq, Value.ref.injEq, exists_and_left, exists_eq_left', and_assoc, zc_b, zc_0, zc_1, zc_10, zc_01, lg_cmp_ge, lg_cmp_le, lg_cmp_gt, lg_cmp_lt, lg_cmp_eq, zw_le, zw_lt, reduceIte, true_or, or_true, zw_g0, zw_l0, zw_g1, zw_l1, zw_g2, zw_l2, zw_g3, zw_l3, zw_g5, zw_l5, zw_g6, zw_l6, zw_g7, zw_l7, zw_g9, zw_l9, zw_g10, zw_l10, zw_g15, zw_l15, zw_g16, zw_l16, zw_g48, zw_l48, zw_g50, zw_l50, zw_g57, zw_l57, zw_g97, zw_l97, zw_g100, zw_l100, zw_g200, zw_l200, zw_g999, zw_l999, zw_g9999, zw_l9999]
    exact ⟨(h, seed, n, 0, 0), none, rfl, rfl, by omega, fun j hj => absurd hj (Nat.not_lt_zero _), ⟨n1, n2, by omega⟩, zq_fm_t (zq_fm_t (zq_fm_w f0 (by decide)) f1 (by decide)) f2 (by decide), MD_fm d1 f2 (by decide), MPk_of d1 e2, k2 n n1 n2 (by omega) rfl⟩
  · obtain ⟨h0, seed, n, t, t9⟩ := z
    obtain ⟨s5, rfl, rfl, ht, h1, hn, hf, hX, hQ, k⟩ := hi
    have hg := hX.1.2.1.1
    have e : (6 ≤ nI t) = (t = 6) := zl_ge ht (by decide)
    simp only [xX12_suppers_39, xX12_suppers_46, xX12_suppers_60, e, nI_clamp (show t < 2 ^ 31 by omega), nI_1, zi_push, zi_iload, zi_lload, zi_aload, zi_istore, zi_astore, zi_lstore, zi_iinc, zi_i2, zi_i1, zi_idv, zi_l2, zi_ldv, zi_lsh, zi_i2l, zi_l2i, zi_lcmp, zi_dup, zi_dup2, zi_pop, zi_if1, zi_if2, zi_getI, zi_getL, zi_getR, zi_putI, zi_putZ, zi_putL, zi_aldI, zi_aldL, zi_astI, zi_astZ, zi_astL, zi_alen, zi_iret, zi_zret, zi_lret, zi_vret, zi_callV, zi_callS, zi_sw, zi_copyI, zi_copyL, zi_m2, zi_m1, zi_sval, zi_scod, zi_fmt, zi_balen, zi_bald, zi_bret, zi_callT, zq_nth, zq_put1, zq_put2, zq_clr, zq_nl, zq_tk, zq_ps, zq_sw, zq_l0, zq_a, zq_a1, List.length_cons, List.length_nil, List.nil_append, List.cons_append, List.append_nil, List.replicate, Nat.reduceAdd, Nat.reduceSub, Nat.reduceLeDiff, true_and, and_true, List.append_eq, List.cons.injEq, Value.int.injEq, Value.long.injEq, Value.ref.injEq, exists_and_left, exists_eq_left', and_assoc, zc_b, zc_0, zc_1, zc_10, zc_01, lg_cmp_ge, lg_cmp_le, lg_cmp_gt, lg_cmp_lt, lg_cmp_eq, zw_le, zw_lt, reduceIte, true_or, or_true, zw_g0, zw_l0, zw_g1, zw_l1, zw_g2, zw_l2, zw_g3, zw_l3, zw_g5, zw_l5, zw_g6, zw_l6, zw_g7, zw_l7, zw_g9, zw_l9, zw_g10, zw_l10, zw_g15, zw_l15, zw_g16, zw_l16, zw_g48, zw_l48, zw_g50, zw_l50, zw_g57, zw_l57, zw_g97, zw_l97, zw_g100, zw_l100, zw_g200, zw_l200, zw_g999, zw_l999, zw_g9999, zw_l9999]
    refine ⟨fun q => ?_, fun q => ⟨vp_in_nI (by omega) (by decide), (h0, seed, n, t + 1, 0), by dsimp only; omega, s5, rfl, rfl, by omega, fun j hj => ?_, hn, zq_fm_I hf (by decide), MD_fm hX (zq_fm_I (fs := []) (ps := [98]) zq_fm_rf (by decide)) (by decide), MPk_fm hQ (zq_fm_I (fs := []) (ps := [98]) zq_fm_rf (by decide)) (by decide), k⟩⟩
    · subst q
      refine ⟨(h0, seed, n, 0, 0), by dsimp only; omega, s5, ?_, rfl, Nat.zero_le _, fun j hj => h1 j (by omega), hn, hf, hX, hQ, k⟩
      rw [Nat.zero_mul]
      rfl
    · by_cases q2 : j = t
      · simp [zq_sI, q2]
      · simpa [zq_sI, q2] using h1 j (by omega)
  · obtain ⟨h0, seed, n, s, t9⟩ := z
    obtain ⟨s5, rfl, rfl, hs, hH, hn, hf, hX, hQ, k⟩ := hi
    simp only [xX12_suppers_63, xX12_suppers_69, xX12_suppers_166, hX.1.1.2.1, zl_ge hs (show n < 2 ^ 31 by omega), zi_push, zi_iload, zi_lload, zi_aload, zi_istore, zi_astore, zi_lstore, zi_iinc, zi_i2, zi_i1, zi_idv, zi_l2, zi_ldv, zi_lsh, zi_i2l, zi_l2i, zi_lcmp, zi_dup, zi_dup2, zi_pop, zi_if1, zi_if2, zi_getI, zi_getL, zi_getR, zi_putI, zi_putZ, zi_putL, zi_aldI, zi_aldL, zi_astI, zi_astZ, zi_astL, zi_alen, zi_iret, zi_zret, zi_lret, zi_vret, zi_callV, zi_callS, zi_sw, zi_copyI, zi_copyL, zi_m2, zi_m1, zi_sval, zi_scod, zi_fmt, zi_balen, zi_bald, zi_bret, zi_callT, zq_nth, zq_put1, zq_put2, zq_clr, zq_nl, zq_tk, zq_ps, zq_sw, zq_l0, zq_a, zq_a1, List.length_cons, List.length_nil, List.nil_append, List.cons_append, List.append_nil, List.replicate, Nat.reduceAdd, Nat.reduceSub, Nat.reduceLeDiff, true_and, and_true, List.append_eq, List.cons.injEq, Value.int.injEq, Value.long.injEq, Value.ref.injEq, exists_and_left, exists_eq_left', and_assoc, zc_b, zc_0, zc_1, zc_10, zc_01, lg_cmp_ge, lg_cmp_le, lg_cmp_gt, lg_cmp_lt, lg_cmp_eq, zw_le, zw_lt, reduceIte, true_or, or_true, zw_g0, zw_l0, zw_g1, zw_l1, zw_g2, zw_l2, zw_g3, zw_l3, zw_g5, zw_l5, zw_g6, zw_l6, zw_g7, zw_l7, zw_g9, zw_l9, zw_g10, zw_l10, zw_g15, zw_l15, zw_g16, zw_l16, zw_g48, zw_l48, zw_g50, zw_l50, zw_g57, zw_l57, zw_g97, zw_l97, zw_g100, zw_l100, zw_g200, zw_l200, zw_g999, zw_l999, zw_g9999, zw_l9999]
    refine ⟨fun q => ?_, fun q => ⟨(h0, seed, n, s, 0), by dsimp only; omega, rfl, rfl, ⟨by omega, Nat.zero_le _⟩, by simp [zq_sI], fun i hi => absurd hi (Nat.not_lt_zero _), fun j hj => by simpa [zq_sI] using hH j hj, hn, zq_fm_F hf (by decide), MD_fm hX (zq_fm_F (fs := [49]) (ps := []) zq_fm_rf (by decide)) (by decide), MPk_fm hQ (zq_fm_F (fs := [49]) (ps := []) zq_fm_rf (by decide)) (by decide), k⟩⟩
    subst q
    exact ⟨(h0, seed, s, 0, 0), by dsimp only; omega, _, rfl, rfl, Nat.zero_le _, MR_nil h, fun j hj => by simpa [zq_sI] using hH j hj, hn, zq_fm_F hf (by decide), MD_fm hX (zq_fm_F (fs := [1]) (ps := []) zq_fm_rf (by decide)) (by decide), MPk_fm hQ (zq_fm_F (fs := [1]) (ps := []) zq_fm_rf (by decide)) (by decide), k⟩
  · obtain ⟨h0, seed, n, s, t⟩ := z
    obtain ⟨rfl, rfl, ⟨hs, ht⟩, e34, e35, hH, hn, hf, hX, hQ, k⟩ := hi
    have n16 := hX.1.1.1
    have g6 := hX.1.2.1.1
    simp only [xX12_suppers_80, xX12_suppers_89, xX12_suppers_121, hX.1.1.2.1, zl_ge ht (show vn V < 2 ^ 31 by omega), hX.1.2.1.2.1, nI_clamp (show t < 2 ^ 31 by omega), nI_1, zi_push, zi_iload, zi_lload, zi_aload, zi_istore, zi_astore, zi_lstore, zi_iinc, zi_i2, zi_i1, zi_idv, zi_l2, zi_ldv, zi_lsh, zi_i2l, zi_l2i, zi_lcmp, zi_dup, zi_dup2, zi_pop, zi_if1, zi_if2, zi_getI, zi_getL, zi_getR, zi_putI, zi_putZ, zi_putL, zi_aldI, zi_aldL, zi_astI, zi_astZ, zi_astL, zi_alen, zi_iret, zi_zret, zi_lret, zi_vret, zi_callV, zi_callS, zi_sw, zi_copyI, zi_copyL, zi_m2, zi_m1, zi_sval, zi_scod, zi_fmt, zi_balen, zi_bald, zi_bret, zi_callT, zq_nth, zq_put1, zq_put2, zq_clr, zq_nl, zq_tk, zq_ps, zq_sw, zq_l0, zq_a, zq_a1, List.length_cons, List.length_nil, List.nil_append, List.cons_append, List.append_nil, List.replicate, Nat.reduceAdd, Nat.reduceSub, Nat.reduceLeDiff, true_and, and_true, List.append_eq, List.cons.injEq, Value.int.injEq, Value.long.injEq, Value.ref.injEq, exists_and_left, exists_eq_left', and_assoc, zc_b, zc_0, zc_1, zc_10, zc_01, lg_cmp_ge, lg_cmp_le, lg_cmp_gt, lg_cmp_lt, lg_cmp_eq, zw_le, zw_lt, reduceIte, true_or, or_true, zw_g0, zw_l0, zw_g1, zw_l1, zw_g2, zw_l2, zw_g3, zw_l3, zw_g5, zw_l5, zw_g6, zw_l6, zw_g7, zw_l7, zw_g9, zw_l9, zw_g10, zw_l10, zw_g15, zw_l15, zw_g16, zw_l16, zw_g48, zw_l48, zw_g50, zw_l50, zw_g57, zw_l57, zw_g97, zw_l97, zw_g100, zw_l100, zw_g200, zw_l200, zw_g999, zw_l999, zw_g9999, zw_l9999]
    refine ⟨fun q => ?_, fun q => ?_⟩
    · subst q
      refine ⟨vn V, zsw V seed s, vwN V, rfl, hX, ⟨e34, n16, fun i hi => ⟨e35 i hi, (zdg_eq hn.2.2 g6 seed _).2⟩⟩, hQ, fun h1 e1 e50 f1 => ?_⟩
      simp only [zi_push, zi_iload, zi_lload, zi_aload, zi_istore, zi_astore, zi_lstore, zi_iinc, zi_i2, zi_i1, zi_idv, zi_l2, zi_ldv, zi_lsh, zi_i2l, zi_l2i, zi_lcmp, zi_dup, zi_dup2, zi_pop, zi_if1, zi_if2, zi_getI, zi_getL, zi_getR, zi_putI, zi_putZ, zi_putL, zi_aldI, zi_aldL, zi_astI, zi_astZ, zi_astL, zi_alen, zi_iret, zi_zret, zi_lret, zi_vret, zi_callV, zi_callS, zi_sw, zi_copyI, zi_copyL, zi_m2, zi_m1, zi_sval, zi_scod, zi_fmt, zi_balen, zi_bald, zi_bret, zi_callT, zq_nth, zq_put1, zq_put2, zq_clr, zq_nl, zq_tk, zq_ps, zq_sw, zq_l0, zq_a, zq_a1, List.length_cons, List.length_nil, List.nil_append, List.cons_append, List.append_nil, List.replicate, Nat.reduceAdd, Nat.reduceSub, Nat.reduceLeDiff, true_and, and_true, List.append_eq, List.cons.injEq, Value.int.injEq, Value.long.injEq, Value.ref.injEq, exists_and_left, exists_eq_left', and_assoc, zc_b, zc_0, zc_1, zc_10, zc_01, lg_cmp_ge, lg_cmp_le, lg_cmp_gt, lg_cmp_lt, lg_cmp_eq, zw_le, zw_lt, reduceIte, true_or, or_true, zw_g0, zw_l0, zw_g1, zw_l1, zw_g2, zw_l2, zw_g3, zw_l3, zw_g5, zw_l5, zw_g6, zw_l6, zw_g7, zw_l7, zw_g9, zw_l9, zw_g10, zw_l10, zw_g15, zw_l15, zw_g16, zw_l16, zw_g48, zw_l48, zw_g50, zw_l50, zw_g57, zw_l57, zw_g97, zw_l97, zw_g100, zw_l100, zw_g200, zw_l200, zw_g999, zw_l999, zw_g9999, zw_l9999]
      rw [← Nat.succ_mul]
      refine ⟨(h0, seed, n, s, 0), by dsimp only; omega, rfl, rfl, ⟨hs, Nat.zero_le _⟩, e1, fun j hj => ?_, hn, zq_fm_t hf f1 (by decide), MD_fm hX f1 (by decide), MPk_fm hQ f1 (by decide), k⟩
      rw [(f1.1 98 (by decide) (by decide)).1, if_neg (Nat.not_lt_zero _)]
      exact hH j hj
    · have e := zdg_eq hn.2.2 g6 seed (s * vn V + t)
      have e2 : zdr seed (s * vn V + t) * 1103515245 + 12345 = zdr seed (s * vn V + t + 1) := rfl
      rw [e2, e.1]
      have nz : ¬ nI (vg V) = 0 := nI_ne0 hn.2.2 (by omega)
      refine ⟨nz, vp_in_nI (by omega) (by decide), (h0, seed, n, s, t + 1), by dsimp only; omega, rfl, rfl, ⟨hs, by omega⟩, by simpa [zq_sI] using e34, fun i hi => ?_, fun j hj => by simpa [zq_sI] using hH j hj, hn, zq_fm_I hf (by decide), MD_fm hX (zq_fm_I (fs := []) (ps := [88]) zq_fm_rf (by decide)) (by decide), MPk_fm hQ (zq_fm_I (fs := []) (ps := [88]) zq_fm_rf (by decide)) (by decide), k⟩
      by_cases q2 : i = t
      · simp [zq_sI, q2, zsw]
      · simpa [zq_sI, q2] using e35 i (by omega)
  · obtain ⟨h0, seed, n, s, t⟩ := z
    obtain ⟨rfl, rfl, ⟨hs, ht⟩, hM, hH, hn, hf, hX, hQ, k⟩ := hi
    have g6 := hX.1.2.1.1
    simp only [xX12_suppers_128, xX12_suppers_137, xX12_suppers_160, zl_ge ht (show vg V < 2 ^ 31 by omega), hX.1.2.1.2.1, nI_clamp (show t < 2 ^ 31 by omega), nI_1, zi_push, zi_iload, zi_lload, zi_aload, zi_istore, zi_astore, zi_lstore, zi_iinc, zi_i2, zi_i1, zi_idv, zi_l2, zi_ldv, zi_lsh, zi_i2l, zi_l2i, zi_lcmp, zi_dup, zi_dup2, zi_pop, zi_if1, zi_if2, zi_getI, zi_getL, zi_getR, zi_putI, zi_putZ, zi_putL, zi_aldI, zi_aldL, zi_astI, zi_astZ, zi_astL, zi_alen, zi_iret, zi_zret, zi_lret, zi_vret, zi_callV, zi_callS, zi_sw, zi_copyI, zi_copyL, zi_m2, zi_m1, zi_sval, zi_scod, zi_fmt, zi_balen, zi_bald, zi_bret, zi_callT, zq_nth, zq_put1, zq_put2, zq_clr, zq_nl, zq_tk, zq_ps, zq_sw, zq_l0, zq_a, zq_a1, List.length_cons, List.length_nil, List.nil_append, List.cons_append, List.append_nil, List.replicate, Nat.reduceAdd, Nat.reduceSub, Nat.reduceLeDiff, true_and, and_true, List.append_eq, List.cons.injEq, Value.int.injEq, Value.long.injEq, Value.ref.injEq, exists_and_left, exists_eq_left', and_assoc, zc_b, zc_0, zc_1, zc_10, zc_01, lg_cmp_ge, lg_cmp_le, lg_cmp_gt, lg_cmp_lt, lg_cmp_eq, zw_le, zw_lt, reduceIte, true_or, or_true, zw_g0, zw_l0, zw_g1, zw_l1, zw_g2, zw_l2, zw_g3, zw_l3, zw_g5, zw_l5, zw_g6, zw_l6, zw_g7, zw_l7, zw_g9, zw_l9, zw_g10, zw_l10, zw_g15, zw_l15, zw_g16, zw_l16, zw_g48, zw_l48, zw_g50, zw_l50, zw_g57, zw_l57, zw_g97, zw_l97, zw_g100, zw_l100, zw_g200, zw_l200, zw_g999, zw_l999, zw_g9999, zw_l9999]
    refine ⟨fun q => ?_, fun q => ⟨vp_in_nI (by omega) (by decide), vp_in_nI (by omega) (by decide), vp_in_nI (by omega) (by decide), ?_⟩⟩
    · subst q
      refine ⟨(h0, seed, n, s + 1, 0), by dsimp only; omega, _, rfl, rfl, by omega, fun j hj => ?_, hn, hf, hX, hQ, k⟩
      have := hH j hj
      rw [if_pos hj] at this
      exact this
    · have e1 := hH t (by omega)
      rw [if_neg (Nat.lt_irrefl _)] at e1
      rw [e1, hM t (by omega), nI_add, ← zsu_s]
      refine ⟨(h0, seed, n, s, t + 1), by dsimp only; omega, rfl, rfl, ⟨hs, by omega⟩, fun j hj => by simpa [zq_sI] using hM j hj, fun j hj => ?_, hn, zq_fm_I hf (by decide), MD_fm hX (zq_fm_I (fs := []) (ps := [98]) zq_fm_rf (by decide)) (by decide), MPk_fm hQ (zq_fm_I (fs := []) (ps := [98]) zq_fm_rf (by decide)) (by decide), k⟩
      by_cases q2 : j = t
      · rw [q2, if_pos (Nat.lt_succ_self _)]
        simp [zq_sI]
      · have := hH j hj
        by_cases q3 : j < t
        · rw [if_pos q3] at this
          rw [if_pos (by omega)]
          simpa [zq_sI, q2] using this
        · rw [if_neg q3] at this
          rw [if_neg (by omega)]
          simpa [zq_sI, q2] using this
  · obtain ⟨h0, seed, n, t, t9⟩ := z
    obtain ⟨s3, rfl, rfl, ht, hR, hH, hn, hf, hX, hQ, k⟩ := hi
    have n16 := hX.1.1.1
    have g6 := hX.1.2.1.1
    have hb := zbest_lt (zsu V seed n) hn.2.2 t ht
    have es := zbest_s (zsu V seed n) t
    have l1 := zsu_le n16 seed n t
    have l2 := zsu_le n16 seed n (zbest (zsu V seed n) t)
    have cb : (nI (zbest (zsu V seed n) t)).toNatClampNeg = zbest (zsu V seed n) t := nI_clamp (by omega)
    simp only [xX12_suppers_177, xX12_suppers_186, xX12_suppers_230, zl_ge ht (show vg V < 2 ^ 31 by omega), hX.1.2.1.2.1, nI_clamp (show t < 2 ^ 31 by omega), cb, zi_push, zi_iload, zi_lload, zi_aload, zi_istore, zi_astore, zi_lstore, zi_iinc, zi_i2, zi_i1, zi_idv, zi_l2, zi_ldv, zi_lsh, zi_i2l, zi_l2i, zi_lcmp, zi_dup, zi_dup2, zi_pop, zi_if1, zi_if2, zi_getI, zi_getL, zi_getR, zi_putI, zi_putZ, zi_putL, zi_aldI, zi_aldL, zi_astI, zi_astZ, zi_astL, zi_alen, zi_iret, zi_zret, zi_lret, zi_vret, zi_callV, zi_callS, zi_sw, zi_copyI, zi_copyL, zi_m2, zi_m1, zi_sval, zi_scod, zi_fmt, zi_balen, zi_bald, zi_bret, zi_callT, zq_nth, zq_put1, zq_put2, zq_clr, zq_nl, zq_tk, zq_ps, zq_sw, zq_l0, zq_a, zq_a1, List.length_cons, List.length_nil, List.nil_append, List.cons_append, List.append_nil, List.replicate, Nat.reduceAdd, Nat.reduceSub, Nat.reduceLeDiff, true_and, and_true, List.append_eq, List.cons.injEq, Value.int.injEq, Value.long.injEq, Value.ref.injEq, exists_and_left, exists_eq_left', and_assoc, zc_b, zc_0, zc_1, zc_10, zc_01, lg_cmp_ge, lg_cmp_le, lg_cmp_gt, lg_cmp_lt, lg_cmp_eq, zw_le, zw_lt, reduceIte, true_or, or_true, zw_g0, zw_l0, zw_g1, zw_l1, zw_g2, zw_l2, zw_g3, zw_l3, zw_g5, zw_l5, zw_g6, zw_l6, zw_g7, zw_l7, zw_g9, zw_l9, zw_g10, zw_l10, zw_g15, zw_l15, zw_g16, zw_l16, zw_g48, zw_l48, zw_g50, zw_l50, zw_g57, zw_l57, zw_g97, zw_l97, zw_g100, zw_l100, zw_g200, zw_l200, zw_g999, zw_l999, zw_g9999, zw_l9999]
    refine ⟨fun q => ?_, fun q => ⟨vp_in_nI (by omega) (by decide), vp_in_nI (by omega) (by decide), ?_⟩⟩
    · subst q
      exact k h hR hf
    · have e1 := hH t (by omega)
      have e2 := hH (zbest (zsu V seed n) t) hb
      rw [e1, e2]
      have fin : ∀ bb h1, bb = zbest (zsu V seed n) (t + 1) → MR (zrw (zsu V seed n) t ++ [lN (zsu V seed n t)]) h1 → zq_fm [1] [57] h h1 → ∃ b9 : zq_H × Int32 × Nat × Nat × Nat, 100 - b9.2.2.2.1 < 100 - t ∧ I_mSu177 b V Q b9 [some (.ref 56), some (.int seed), some (.int (nI n)), some (.int s3), some (.int (nI bb)), some (.int (nI (t + 1)))] [] h1 := by
        intro bb h1 e r1 f1
        subst e
        exact ⟨(h0, seed, n, t + 1, 0), by dsimp only; omega, s3, rfl, rfl, by omega, r1, fun j hj => by rw [(f1.1 98 (by decide) (by decide)).1]; exact hH j hj, hn, zq_fm_t hf f1 (by decide), MD_fm hX f1 (by decide), MPk_fm hQ f1 (by decide), k⟩
      rw [es] at fin
      simp only [xX12_suppers_203, xX12_suppers_208, xX12_suppers_210, nI_clamp (show t < 2 ^ 31 by omega), e1, nI_leP (show zsu V seed n t < 2 ^ 31 by omega) (show zsu V seed n (zbest (zsu V seed n) t) < 2 ^ 31 by omega), nI_1, nI_l (show zsu V seed n t < 2 ^ 31 by omega), zi_push, zi_iload, zi_lload, zi_aload, zi_istore, zi_astore, zi_lstore, zi_iinc, zi_i2, zi_i1, zi_idv, zi_l2, zi_ldv, zi_lsh, zi_i2l, zi_l2i, zi_lcmp, zi_dup, zi_dup2, zi_pop, zi_if1, zi_if2, zi_getI, zi_getL, zi_getR, zi_putI, zi_putZ, zi_putL, zi_aldI, zi_aldL, zi_astI, zi_astZ, zi_astL, zi_alen, zi_iret, zi_zret, zi_lret, zi_vret, zi_callV, zi_callS, zi_sw, zi_copyI, zi_copyL, zi_m2, zi_m1, zi_sval, zi_scod, zi_fmt, zi_balen, zi_bald, zi_bret, zi_callT, zq_nth, zq_put1, zq_put2, zq_clr, zq_nl, zq_tk, zq_ps, zq_sw, zq_l0, zq_a, zq_a1, List.length_cons, List.length_nil, List.nil_append, List.cons_append, List.append_nil, List.replicate, Nat.reduceAdd, Nat.reduceSub, Nat.reduceLeDiff, true_and, and_true, List.append_eq, List.cons.injEq, Value.int.injEq, Value.long.injEq, Value.ref.injEq, exists_and_left, exists_eq_left', and_assoc, zc_b, zc_0, zc_1, zc_10, zc_01, lg_cmp_ge, lg_cmp_le, lg_cmp_gt, lg_cmp_lt, lg_cmp_eq, zw_le, zw_lt, reduceIte, true_or, or_true, zw_g0, zw_l0, zw_g1, zw_l1, zw_g2, zw_l2, zw_g3, zw_l3, zw_g5, zw_l5, zw_g6, zw_l6, zw_g7, zw_l7, zw_g9, zw_l9, zw_g10, zw_l10, zw_g15, zw_l15, zw_g16, zw_l16, zw_g48, zw_l48, zw_g50, zw_l50, zw_g57, zw_l57, zw_g97, zw_l97, zw_g100, zw_l100, zw_g200, zw_l200, zw_g999, zw_l999, zw_g9999, zw_l9999]
      refine ⟨fun q2 => ⟨vp_in_nI (by omega) (by decide), _, _, rfl, hR, by rw [zrw_len]; omega, fun h1 r1 f1 => ?_⟩, fun q2 => ⟨vp_in_nI (by omega) (by decide), _, _, rfl, hR, by rw [zrw_len]; omega, fun h1 r1 f1 => ?_⟩⟩
      · simp only [nI_1, zi_push, zi_iload, zi_lload, zi_aload, zi_istore, zi_astore, zi_lstore, zi_iinc, zi_i2, zi_i1, zi_idv, zi_l2, zi_ldv, zi_lsh, zi_i2l, zi_l2i, zi_lcmp, zi_dup, zi_dup2, zi_pop, zi_if1, zi_if2, zi_getI, zi_getL, zi_getR, zi_putI, zi_putZ, zi_putL, zi_aldI, zi_aldL, zi_astI, zi_astZ, zi_astL, zi_alen, zi_iret, zi_zret, zi_lret, zi_vret, zi_callV, zi_callS, zi_sw, zi_copyI, zi_copyL, zi_m2, zi_m1, zi_sval, zi_scod, zi_fmt, zi_balen, zi_bald, zi_bret, zi_callT, zq_nth, zq_put1, zq_put2, zq_clr, zq_nl, zq_tk, zq_ps, zq_sw, zq_l0, zq_a, zq_a1, List.length_cons, List.length_nil, List.nil_append, List.cons_append, List.append_nil, List.replicate, Nat.reduceAdd, Nat.reduceSub, Nat.reduceLeDiff, true_and, and_true, List.append_eq, List.cons.injEq, Value.int.injEq, Value.long.injEq, Value.ref.injEq, exists_and_left, exists_eq_left', and_assoc, zc_b, zc_0, zc_1, zc_10, zc_01, lg_cmp_ge, lg_cmp_le, lg_cmp_gt, lg_cmp_lt, lg_cmp_eq, zw_le, zw_lt, reduceIte, true_or, or_true, zw_g0, zw_l0, zw_g1, zw_l1, zw_g2, zw_l2, zw_g3, zw_l3, zw_g5, zw_l5, zw_g6, zw_l6, zw_g7, zw_l7, zw_g9, zw_l9, zw_g10, zw_l10, zw_g15, zw_l15, zw_g16, zw_l16, zw_g48, zw_l48, zw_g50, zw_l50, zw_g57, zw_l57, zw_g97, zw_l97, zw_g100, zw_l100, zw_g200, zw_l200, zw_g999, zw_l999, zw_g9999, zw_l9999]
        rw [if_neg (by omega)] at fin
        exact fin _ h1 rfl r1 f1
      · simp only [nI_1, zi_push, zi_iload, zi_lload, zi_aload, zi_istore, zi_astore, zi_lstore, zi_iinc, zi_i2, zi_i1, zi_idv, zi_l2, zi_ldv, zi_lsh, zi_i2l, zi_l2i, zi_lcmp, zi_dup, zi_dup2, zi_pop, zi_if1, zi_if2, zi_getI, zi_getL, zi_getR, zi_putI, zi_putZ, zi_putL, zi_aldI, zi_aldL, zi_astI, zi_astZ, zi_astL, zi_alen, zi_iret, zi_zret, zi_lret, zi_vret, zi_callV, zi_callS, zi_sw, zi_copyI, zi_copyL, zi_m2, zi_m1, zi_sval, zi_scod, zi_fmt, zi_balen, zi_bald, zi_bret, zi_callT, zq_nth, zq_put1, zq_put2, zq_clr, zq_nl, zq_tk, zq_ps, zq_sw, zq_l0, zq_a, zq_a1, List.length_cons, List.length_nil, List.nil_append, List.cons_append, List.append_nil, List.replicate, Nat.reduceAdd, Nat.reduceSub, Nat.reduceLeDiff, true_and, and_true, List.append_eq, List.cons.injEq, Value.int.injEq, Value.long.injEq, Value.ref.injEq, exists_and_left, exists_eq_left', and_assoc, zc_b, zc_0, zc_1, zc_10, zc_01, lg_cmp_ge, lg_cmp_le, lg_cmp_gt, lg_cmp_lt, lg_cmp_eq, zw_le, zw_lt, reduceIte, true_or, or_true, zw_g0, zw_l0, zw_g1, zw_l1, zw_g2, zw_l2, zw_g3, zw_l3, zw_g5, zw_l5, zw_g6, zw_l6, zw_g7, zw_l7, zw_g9, zw_l9, zw_g10, zw_l10, zw_g15, zw_l15, zw_g16, zw_l16, zw_g48, zw_l48, zw_g50, zw_l50, zw_g57, zw_l57, zw_g97, zw_l97, zw_g100, zw_l100, zw_g200, zw_l200, zw_g999, zw_l999, zw_g9999, zw_l9999]
        rw [if_pos (by omega)] at fin
        exact fin _ h1 rfl r1 f1
