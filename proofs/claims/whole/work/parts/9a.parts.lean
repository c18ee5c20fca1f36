/-! ===== parts: the best of the least; the class ===== -/
theorem zi1_t {a : Nat} (h : a ≤ 2 ^ 30) : (nI a - 1).toInt = (a : Int) - 1 := by
  cases a with
  | zero => decide
  | succ k =>
    rw [nI_pred, nI_toInt (by omega)]
    omega
theorem zi1_lt {a b : Nat} (ha : a ≤ 2 ^ 30) (hb : b ≤ 2 ^ 30) : (nI a - 1 < nI b - 1) = (a < b) := by
  rw [Int32.lt_iff_toInt_lt, zi1_t ha, zi1_t hb]
  exact propext ⟨fun z => by omega, fun z => by omega⟩
theorem zi1_le {a b : Nat} (ha : a ≤ 2 ^ 30) (hb : b ≤ 2 ^ 30) : (nI a - 1 ≤ nI b - 1) = (a ≤ b) := by
  rw [Int32.le_iff_toInt_le, zi1_t ha, zi1_t hb]
  exact propext ⟨fun z => by omega, fun z => by omega⟩
theorem zi1_mn {a b : Nat} (ha : a ≤ 2 ^ 30) (hb : b ≤ 2 ^ 30) : zf_min (nI a - 1) (nI b - 1) = nI (min a b) - 1 := by
  unfold zf_min
  rcases Nat.lt_or_ge b a with q | q
  · rw [if_pos (by rw [zi1_lt hb ha]; exact q), Nat.min_eq_right (by omega)]
  · rw [if_neg (by rw [zi1_lt hb ha]; omega), Nat.min_eq_left q]
theorem zi1_mx {a b : Nat} (ha : a ≤ 2 ^ 30) (hb : b ≤ 2 ^ 30) : zf_max (nI a - 1) (nI b - 1) = nI (max a b) - 1 := by
  unfold zf_max
  rcases Nat.lt_or_ge a b with q | q
  · rw [if_pos (by rw [zi1_lt ha hb]; exact q), Nat.max_eq_right (by omega)]
  · rw [if_neg (by rw [zi1_lt ha hb]; omega), Nat.max_eq_left q]
/-- the greatest of 0 and f 0 .. f (c - 1) -/
def zmx (f : Nat → Nat) : Nat → Nat
  | 0 => 0
  | c + 1 => max (zmx f c) (f c)
theorem zmx_le {f : Nat → Nat} {b : Nat} : ∀ c, (∀ i, i < c → f i ≤ b) → zmx f c ≤ b
  | 0, _ => Nat.zero_le _
  | c + 1, h => Nat.max_le.mpr ⟨zmx_le c (fun i hi => h i (by omega)), h c (by omega)⟩
theorem zmx_ge {f : Nat → Nat} : ∀ {c i}, i < c → f i ≤ zmx f c
  | 0, i, h => absurd h (Nat.not_lt_zero _)
  | c + 1, i, h => by
    rw [zmx]
    by_cases q : i = c
    · rw [q]
      exact Nat.le_max_right _ _
    · exact Nat.le_trans (zmx_ge (show i < c by omega)) (Nat.le_max_left _ _)
theorem zmx_at (f : Nat → Nat) : ∀ c, zmx f c = 0 ∨ ∃ i, i < c ∧ f i = zmx f c
  | 0 => Or.inl rfl
  | c + 1 => by
    rw [zmx]
    rcases Nat.le_total (f c) (zmx f c) with q | q
    · rw [Nat.max_eq_left q]
      exact (zmx_at f c).imp id (fun ⟨i, hi, e⟩ => ⟨i, by omega, e⟩)
    · rw [Nat.max_eq_right q]
      exact Or.inr ⟨c, by omega, rfl⟩
/-- one more than the cells s .. t - 1 are worth to g -/
def zpw (V : zV) (g s t : Nat) : Nat := vS V g t - vS V g s + 1
theorem zpw_le (V : zV) (g s t : Nat) (ht : t ≤ 16) : zpw V g s t ≤ 15985 := by
  have := vS_le V g t
  unfold zpw
  omega
theorem zpw_an (V : zV) (g t : Nat) {s s2 : Nat} (h : s ≤ s2) : zpw V g s2 t ≤ zpw V g s t := by
  have := vS_mono (V := V) (j := g) h
  unfold zpw
  omega
theorem zpw_I (V : zV) (g s t : Nat) : nI (vS V g t - vS V g s) = nI (zpw V g s t) - 1 := (nI_pred _).symm
/-- one more than the greatest least of k + 1 parts from s on can be; 0: none -/
def zpD (V : zV) (g : Nat) : Nat → Nat → Nat
  | 0, s => if s < vn V then zpw V g s (vn V) else 0
  | k + 1, s => zmx (fun i => min (zpw V g s (s + 1 + i)) (zpD V g k (s + 1 + i))) (vn V - s)
theorem zpD_le (V : zV) (g : Nat) (hn : vn V ≤ 16) : ∀ k s, zpD V g k s ≤ 15985
  | 0, s => by
    rw [zpD]
    split
    · exact zpw_le V g s _ hn
    · omega
  | k + 1, s => by
    rw [zpD]
    exact zmx_le _ (fun i hi => Nat.le_trans (Nat.min_le_right _ _) (zpD_le V g hn k _))
theorem zpD_an (V : zV) (g : Nat) : ∀ k s s2, s ≤ s2 → zpD V g k s2 ≤ zpD V g k s
  | 0, s, s2, h => by
    rw [zpD, zpD]
    split
    · rw [if_pos (by omega)]
      exact zpw_an V g _ h
    · exact Nat.zero_le _
  | k + 1, s, s2, h => by
    rw [zpD, zpD]
    refine zmx_le _ (fun i hi => ?_)
    have e : s2 + 1 + i = s + 1 + (s2 - s + i) := by omega
    refine Nat.le_trans ?_ (zmx_ge (f := fun i => min (zpw V g s (s + 1 + i)) (zpD V g k (s + 1 + i))) (i := s2 - s + i) (by omega))
    rw [← e]
    have := zpw_an V g (s2 + 1 + i) h
    omega
theorem zpD_no (V : zV) (g : Nat) : ∀ k s, vn V ≤ s + k → zpD V g k s = 0
  | 0, s, h => by rw [zpD, if_neg (by omega)]
  | k + 1, s, h => by
    rw [zpD]
    refine Nat.le_zero.mp (zmx_le _ (fun i hi => ?_))
    rw [zpD_no V g k (s + 1 + i) (by omega)]
    exact Nat.min_le_right _ _
theorem zpD_yes (V : zV) (g : Nat) : ∀ k s, s + k < vn V → 1 ≤ zpD V g k s
  | 0, s, h => by
    rw [zpD, if_pos (by omega)]
    exact Nat.le_add_left _ _
  | k + 1, s, h => by
    refine Nat.le_trans ?_ (zmx_ge (f := fun i => min (zpw V g s (s + 1 + i)) (zpD V g k (s + 1 + i))) (i := 0) (by omega))
    have h1 := zpD_yes V g k (s + 1 + 0) (by omega)
    have h2 : 1 ≤ zpw V g s (s + 1 + 0) := Nat.le_add_left _ _
    omega
/-- the first end from t on, k to try, with a part worth enough -/
def zgt (V : zV) (g m s : Nat) : Nat → Nat → Nat
  | 0, t => t
  | k + 1, t => if m ≤ zpw V g s t then t else zgt V g m s k (t + 1)
theorem zgt_sp (V : zV) (g m s : Nat) : ∀ k t, (t ≤ zgt V g m s k t ∧ zgt V g m s k t ≤ t + k) ∧ (∀ u, t ≤ u → u < zgt V g m s k t → ¬ m ≤ zpw V g s u) ∧ (zgt V g m s k t = t + k ∨ m ≤ zpw V g s (zgt V g m s k t))
  | 0, t => ⟨⟨Nat.le_refl _, Nat.le_refl _⟩, fun u h1 h2 => absurd h2 (Nat.not_lt.mpr h1), Or.inl rfl⟩
  | k + 1, t => by
    rw [zgt]
    by_cases c : m ≤ zpw V g s t
    · rw [if_pos c]
      exact ⟨⟨Nat.le_refl _, by omega⟩, fun u h1 h2 => absurd h2 (Nat.not_lt.mpr h1), Or.inr c⟩
    · rw [if_neg c]
      obtain ⟨⟨h1, h2⟩, h3, h4⟩ := zgt_sp V g m s k (t + 1)
      refine ⟨⟨by omega, by omega⟩, fun u h5 h6 => ?_, h4.imp (fun z => by omega) id⟩
      by_cases q : u = t
      · rw [q]
        exact c
      · exact h3 u (by omega) h6
def zgu (V : zV) (g m s : Nat) : Nat := zgt V g m s (vn V - (s + 1)) (s + 1)
/-- the ends of k + 1 parts from s on, each as short as it can be -/
def zgr (V : zV) (g m : Nat) : Nat → Nat → List Nat
  | 0, _ => [vn V]
  | k + 1, s => zgu V g m s :: zgr V g m k (zgu V g m s)
theorem zgu_ok {V : zV} {g m k s : Nat} (hm : 1 ≤ m) (h : m ≤ zpD V g (k + 1) s) : (s + 1 ≤ zgu V g m s ∧ zgu V g m s + k < vn V) ∧ m ≤ zpw V g s (zgu V g m s) ∧ m ≤ zpD V g k (zgu V g m s) ∧ ∀ u, s + 1 ≤ u → u < zgu V g m s → ¬ m ≤ zpw V g s u := by
  rcases zmx_at (fun i => min (zpw V g s (s + 1 + i)) (zpD V g k (s + 1 + i))) (vn V - s) with q | ⟨i, hi, q⟩
  · rw [zpD, q] at h
    omega
  · rw [zpD, ← q] at h
    have h1 : m ≤ zpw V g s (s + 1 + i) := by omega
    have h2 : m ≤ zpD V g k (s + 1 + i) := by omega
    obtain ⟨⟨z1, z2⟩, z3, z4⟩ := zgt_sp V g m s (vn V - (s + 1)) (s + 1)
    have le : zgu V g m s ≤ s + 1 + i := Nat.not_lt.mp (fun z => z3 _ (by omega) z h1)
    have d1 := Nat.le_trans h2 (zpD_an V g k _ _ le)
    have lt : zgu V g m s + k < vn V := Nat.not_le.mp (fun z => by
      rw [zpD_no V g k _ z] at d1
      omega)
    refine ⟨⟨z1, lt⟩, ?_, d1, z3⟩
    rcases z4 with q2 | q2
    · have q3 : zgu V g m s = s + 1 + (vn V - (s + 1)) := q2
      omega
    · exact q2
def XLe (V : zV) (g k a b : Nat) (h : zq_H) : Prop := ∀ c, a ≤ c → c < b → h.1 39 c = nI (zpD V g k c) - 1
def sp_bol (V : zV) : zq_Sp := fun args h Q => ∃ g N, args = [.ref 0, .int (nI g), .int (nI (N + 1))] ∧ (g < vg V ∧ N ≤ 5) ∧ XC V h ∧ ∀ h', zq_fr [39] h h' → Q (some (.int (nI (zpD V g N 0) - 1))) h'
abbrev zbT : Type := zq_H × (Nat × Nat) × Nat × Nat × Nat
def zbk (V : zV) (Q : zq_Q) (g N : Nat) (h0 h : zq_H) : Prop := (g < vg V ∧ N ≤ 5) ∧ XC V h0 ∧ zq_fr [39] h0 h ∧ ∀ h', zq_fr [39] h0 h' → Q (some (.int (nI (zpD V g N 0) - 1))) h'
def I_bo11 (V : zV) (Q : zq_Q) (z : zbT) : zq_P := fun ls st h => match z with
  | (h0, (g, N), t, _, _) => ∃ s5 s6 s7, ls = [some (.ref 0), some (.int (nI g)), some (.int (nI (N + 1))), some (.int (nI (vn V))), some (.int (nI t)), s5, s6, s7] ∧ st = [] ∧ t ≤ vn V + 1 ∧ XLe V g 0 0 t h ∧ zbk V Q g N h0 h
def I_bo54 (V : zV) (Q : zq_Q) (z : zbT) : zq_P := fun ls st h => match z with
  | (h0, (g, N), p, _, _) => ∃ s5 s6 s7, ls = [some (.ref 0), some (.int (nI g)), some (.int (nI (N + 1))), some (.int (nI (vn V))), some (.int (nI (p + 1))), s5, s6, s7] ∧ st = [] ∧ p ≤ N ∧ XLe V g p 0 (vn V + 1) h ∧ zbk V Q g N h0 h
def I_bo63 (V : zV) (Q : zq_Q) (z : zbT) : zq_P := fun ls st h => match z with
  | (h0, (g, N), p, f, _) => ∃ s6 s7, ls = [some (.ref 0), some (.int (nI g)), some (.int (nI (N + 1))), some (.int (nI (vn V))), some (.int (nI (p + 1))), some (.int (nI f)), s6, s7] ∧ st = [] ∧ (p < N ∧ f ≤ vn V + 1) ∧ XLe V g (p + 1) 0 f h ∧ XLe V g p f (vn V + 1) h ∧ zbk V Q g N h0 h
def zbF (V : zV) (g p f i : Nat) : Nat := min (zpw V g f (f + 1 + i)) (zpD V g p (f + 1 + i))
def I_bo78 (V : zV) (Q : zq_Q) (z : zbT) : zq_P := fun ls st h => match z with
  | (h0, (g, N), p, f, i) => ls = [some (.ref 0), some (.int (nI g)), some (.int (nI (N + 1))), some (.int (nI (vn V))), some (.int (nI (p + 1))), some (.int (nI f)), some (.int (nI (zmx (zbF V g p f) i) - 1)), some (.int (nI (f + 1 + i)))] ∧ st = [] ∧ (p < N ∧ f ≤ vn V ∧ f + i ≤ vn V) ∧ XLe V g (p + 1) 0 f h ∧ XLe V g p f (vn V + 1) h ∧ zbk V Q g N h0 h
theorem zbF_le (V : zV) (g p f : Nat) (hn : vn V ≤ 16) (i : Nat) : zmx (zbF V g p f) i ≤ 15985 := zmx_le _ (fun i _ => Nat.le_trans (Nat.min_le_right _ _) (zpD_le V g hn p _))
theorem ok_bol (V : zV) : zq_M yX11_bestOfLeasts cX11_bestOfLeasts 8 (some .int) 1 1 (sp_bol V) := by
  refine mX11_bestOfLeasts (ok_btwV V) (by decide) (by decide) (fun z => 100000 - z.2.2.1) (I_bo11 V) (fun z => (10 - z.2.2.1) * 5000) (I_bo54 V) (fun z => (10 - z.2.2.1) * 5000 - 1 - z.2.2.2.1 * 100) (I_bo63 V) (fun z => (10 - z.2.2.1) * 5000 - 2 - z.2.2.2.1 * 100 - z.2.2.2.2) (I_bo78 V) (fun args h Q hs => ?_) (fun Q z ls st h hi => ?_) (fun Q z ls st h hi => ?_) (fun Q z ls st h hi => ?_) (fun Q z ls st h hi => ?_)
  · obtain ⟨g, N, rfl, hg, hX, k⟩ := hs
    refine ⟨Nat.le_of_ble_eq_true rfl, ?_⟩
    simp only [xX11_bestOfLeasts_0, hX.1.2.1, zi_push, zi_iload, zi_lload, zi_aload, zi_istore, zi_astore, zi_lstore, zi_iinc, zi_i2, zi_i1, zi_idv, zi_l2, zi_ldv, zi_lsh, zi_i2l, zi_l2i, zi_lcmp, zi_dup, zi_dup2, zi_pop, zi_if1, zi_if2, zi_getI, zi_getL, zi_getR, zi_putI, zi_putZ, zi_putL, zi_aldI, zi_aldL, zi_astI, zi_astZ, zi_astL, zi_alen, zi_iret, zi_zret, zi_lret, zi_vret, zi_callV, zi_callS, zi_sw, zi_copyI, zi_copyL, zi_m2, zi_m1, zi_sval, zi_scod, zi_fmt, zi_balen, zi_bald, zi_bret, zi_callT, zq_nth, zq_put1, zq_put2, zq_clr, zq_nl, zq_tk, zq_ps, zq_sw, zq_l0, zq_a, zq_a1, List.length_cons, List.length_nil, List.nil_append, List.cons_append, List.append_nil, List.replicate, Nat.reduceAdd, Nat.reduceSub, Nat.reduceLeDiff, true_and, and_true, List.append_eq, List.cons.injEq, Value.int.injEq, Value.long.injEq, Value.ref.injEq, exists_and_left, exists_eq_left', and_assoc, zc_b, zc_0, zc_1, zc_10, zc_01, lg_cmp_ge, lg_cmp_le, lg_cmp_gt, lg_cmp_lt, lg_cmp_eq, zw_le, zw_lt, reduceIte, true_or, or_true, zw_g0, zw_l0, zw_g1, zw_l1, zw_g2, zw_l2, zw_g3, zw_l3, zw_g5, zw_l5, zw_g6, zw_l6, zw_g7, zw_l7, zw_g9, zw_l9, zw_g10, zw_l10, zw_g15, zw_l15, zw_g16, zw_l16, zw_g48, zw_l48, zw_g50, zw_l50, zw_g57, zw_l57, zw_g97, zw_l97, zw_g100, zw_l100, zw_g200, zw_l200, zw_g999, zw_l999, zw_g9999, zw_l9999]
    exact ⟨(h, (g, N), 0, 0, 0), none, none, none, rfl, rfl, Nat.zero_le _, fun c h1 h2 => absurd h2 (Nat.not_lt_zero _), hg, hX, zq_fr_rf, k⟩
  · obtain ⟨h0, ⟨g, N⟩, t, t8, t9⟩ := z
    obtain ⟨s5, s6, s7, rfl, rfl, ht, hl, ⟨hg, hN⟩, hX, hf, k⟩ := hi
    have hX1 := XC_fr hX hf (by decide)
    have hn := hX1.1.1
    have c1 : (nI (vn V) < nI t) = (vn V < t) := nI_ltP (by omega) (by omega)
    have c2 : (nI (vn V) ≤ nI t) = (vn V ≤ t) := nI_leP (by omega) (by omega)
    simp only [xX11_bestOfLeasts_11, xX11_bestOfLeasts_17, xX11_bestOfLeasts_51, c1, c2, zi_push, zi_iload, zi_lload, zi_aload, zi_istore, zi_astore, zi_lstore, zi_iinc, zi_i2, zi_i1, zi_idv, zi_l2, zi_ldv, zi_lsh, zi_i2l, zi_l2i, zi_lcmp, zi_dup, zi_dup2, zi_pop, zi_if1, zi_if2, zi_getI, zi_getL, zi_getR, zi_putI, zi_putZ, zi_putL, zi_aldI, zi_aldL, zi_astI, zi_astZ, zi_astL, zi_alen, zi_iret, zi_zret, zi_lret, zi_vret, zi_callV, zi_callS, zi_sw, zi_copyI, zi_copyL, zi_m2, zi_m1, zi_sval, zi_scod, zi_fmt, zi_balen, zi_bald, zi_bret, zi_callT, zq_nth, zq_put1, zq_put2, zq_clr, zq_nl, zq_tk, zq_ps, zq_sw, zq_l0, zq_a, zq_a1, List.length_cons, List.length_nil, List.nil_append, List.cons_append, List.append_nil, List.replicate, Nat.reduceAdd, Nat.reduceSub, Nat.reduceLeDiff, true_and, and_true, List.append_eq, List.cons.injEq, Value.int.injEq, Value.long.injEq, Value.ref.injEq, exists_and_left, exists_eq_left', and_assoc, zc_b, zc_0, zc_1, zc_10, zc_01, lg_cmp_ge, lg_cmp_le, lg_cmp_gt, lg_cmp_lt, lg_cmp_eq, zw_le, zw_lt, reduceIte, true_or, or_true, zw_g0, zw_l0, zw_g1, zw_l1, zw_g2, zw_l2, zw_g3, zw_l3, zw_g5, zw_l5, zw_g6, zw_l6, zw_g7, zw_l7, zw_g9, zw_l9, zw_g10, zw_l10, zw_g15, zw_l15, zw_g16, zw_l16, zw_g48, zw_l48, zw_g50, zw_l50, zw_g57, zw_l57, zw_g97, zw_l97, zw_g100, zw_l100, zw_g200, zw_l200, zw_g999, zw_l999, zw_g9999, zw_l9999]
    have step : t ≤ vn V → ∀ x, x = nI (zpD V g 0 t) - 1 → ∀ s5 s6 s7, ∃ b9 : zbT, 100000 - b9.2.2.1 < 100000 - t ∧ I_bo11 V Q b9 [some (.ref 0), some (.int (nI g)), some (.int (nI (N + 1))), some (.int (nI (vn V))), some (.int (nI (t + 1))), s5, s6, s7] [] (zq_setI h 39 t x) := fun ht2 x ex s5 s6 s7 => by
      refine ⟨(h0, (g, N), t + 1, 0, 0), by dsimp only; omega, s5, s6, s7, rfl, rfl, by omega, fun c h1 h2 => ?_, ⟨hg, hN⟩, hX, zq_fr_I hf (by decide), k⟩
      by_cases q : c = t
      · rw [q, zq_sI, if_pos ⟨rfl, rfl⟩, ex]
      · rw [zq_sI, if_neg (fun z => q z.2)]
        exact hl c h1 (by omega)
    refine ⟨fun q => ?_, fun q => ⟨fun q2 => ?_, fun q2 => ?_⟩⟩
    · refine ⟨(h0, (g, N), 0, 0, 0), by dsimp only; omega, s5, s6, s7, rfl, rfl, Nat.zero_le _, ?_, ⟨hg, hN⟩, hX, hf, k⟩
      rw [show vn V + 1 = t by omega]
      exact hl
    · simp only [xX11_bestOfLeasts_43, xX11_bestOfLeasts_44, nI_1, nI_clamp (show t < 2 ^ 31 by omega), zi_push, zi_iload, zi_lload, zi_aload, zi_istore, zi_astore, zi_lstore, zi_iinc, zi_i2, zi_i1, zi_idv, zi_l2, zi_ldv, zi_lsh, zi_i2l, zi_l2i, zi_lcmp, zi_dup, zi_dup2, zi_pop, zi_if1, zi_if2, zi_getI, zi_getL, zi_getR, zi_putI, zi_putZ, zi_putL, zi_aldI, zi_aldL, zi_astI, zi_astZ, zi_astL, zi_alen, zi_iret, zi_zret, zi_lret, zi_vret, zi_callV, zi_callS, zi_sw, zi_copyI, zi_copyL, zi_m2, zi_m1, zi_sval, zi_scod, zi_fmt, zi_balen, zi_bald, zi_bret, zi_callT, zq_nth, zq_put1, zq_put2, zq_clr, zq_nl, zq_tk, zq_ps, zq_sw, zq_l0, zq_a, zq_a1, List.length_cons, List.length_nil, List.nil_append, List.cons_append, List.append_nil, List.replicate, Nat.reduceAdd, Nat.reduceSub, Nat.reduceLeDiff, true_and, and_true, List.append_eq, List.cons.injEq, Value.int.injEq, Value.long.injEq, Value.ref.injEq, exists_and_left, exists_eq_left', and_assoc, zc_b, zc_0, zc_1, zc_10, zc_01, lg_cmp_ge, lg_cmp_le, lg_cmp_gt, lg_cmp_lt, lg_cmp_eq, zw_le, zw_lt, reduceIte, true_or, or_true, zw_g0, zw_l0, zw_g1, zw_l1, zw_g2, zw_l2, zw_g3, zw_l3, zw_g5, zw_l5, zw_g6, zw_l6, zw_g7, zw_l7, zw_g9, zw_l9, zw_g10, zw_l10, zw_g15, zw_l15, zw_g16, zw_l16, zw_g48, zw_l48, zw_g50, zw_l50, zw_g57, zw_l57, zw_g97, zw_l97, zw_g100, zw_l100, zw_g200, zw_l200, zw_g999, zw_l999, zw_g9999, zw_l9999]
      refine ⟨vp_in_nI (by omega) (by decide), step (by omega) _ ?_ _ _ _⟩
      rw [zpD, if_neg (by omega)]
      rfl
    · simp only [xX11_bestOfLeasts_29, zi_push, zi_iload, zi_lload, zi_aload, zi_istore, zi_astore, zi_lstore, zi_iinc, zi_i2, zi_i1, zi_idv, zi_l2, zi_ldv, zi_lsh, zi_i2l, zi_l2i, zi_lcmp, zi_dup, zi_dup2, zi_pop, zi_if1, zi_if2, zi_getI, zi_getL, zi_getR, zi_putI, zi_putZ, zi_putL, zi_aldI, zi_aldL, zi_astI, zi_astZ, zi_astL, zi_alen, zi_iret, zi_zret, zi_lret, zi_vret, zi_callV, zi_callS, zi_sw, zi_copyI, zi_copyL, zi_m2, zi_m1, zi_sval, zi_scod, zi_fmt, zi_balen, zi_bald, zi_bret, zi_callT, zq_nth, zq_put1, zq_put2, zq_clr, zq_nl, zq_tk, zq_ps, zq_sw, zq_l0, zq_a, zq_a1, List.length_cons, List.length_nil, List.nil_append, List.cons_append, List.append_nil, List.replicate, Nat.reduceAdd, Nat.reduceSub, Nat.reduceLeDiff, true_and, and_true, List.append_eq, List.cons.injEq, Value.int.injEq, Value.long.injEq, Value.ref.injEq, exists_and_left, exists_eq_left', and_assoc, zc_b, zc_0, zc_1, zc_10, zc_01, lg_cmp_ge, lg_cmp_le, lg_cmp_gt, lg_cmp_lt, lg_cmp_eq, zw_le, zw_lt, reduceIte, true_or, or_true, zw_g0, zw_l0, zw_g1, zw_l1, zw_g2, zw_l2, zw_g3, zw_l3, zw_g5, zw_l5, zw_g6, zw_l6, zw_g7, zw_l7, zw_g9, zw_l9, zw_g10, zw_l10, zw_g15, zw_l15, zw_g16, zw_l16, zw_g48, zw_l48, zw_g50, zw_l50, zw_g57, zw_l57, zw_g97, zw_l97, zw_g100, zw_l100, zw_g200, zw_l200, zw_g999, zw_l999, zw_g9999, zw_l9999]
      first
        | refine ⟨Nat.le_of_ble_eq_true rfl, g, t, vn V, rfl, hg, by omega, Nat.le_refl _, hX1, ?_⟩
        | refine ⟨g, t, vn V, rfl, hg, by omega, Nat.le_refl _, hX1, ?_⟩
      simp only [xX11_bestOfLeasts_44, nI_1, nI_clamp (show t < 2 ^ 31 by omega), zi_push, zi_iload, zi_lload, zi_aload, zi_istore, zi_astore, zi_lstore, zi_iinc, zi_i2, zi_i1, zi_idv, zi_l2, zi_ldv, zi_lsh, zi_i2l, zi_l2i, zi_lcmp, zi_dup, zi_dup2, zi_pop, zi_if1, zi_if2, zi_getI, zi_getL, zi_getR, zi_putI, zi_putZ, zi_putL, zi_aldI, zi_aldL, zi_astI, zi_astZ, zi_astL, zi_alen, zi_iret, zi_zret, zi_lret, zi_vret, zi_callV, zi_callS, zi_sw, zi_copyI, zi_copyL, zi_m2, zi_m1, zi_sval, zi_scod, zi_fmt, zi_balen, zi_bald, zi_bret, zi_callT, zq_nth, zq_put1, zq_put2, zq_clr, zq_nl, zq_tk, zq_ps, zq_sw, zq_l0, zq_a, zq_a1, List.length_cons, List.length_nil, List.nil_append, List.cons_append, List.append_nil, List.replicate, Nat.reduceAdd, Nat.reduceSub, Nat.reduceLeDiff, true_and, and_true, List.append_eq, List.cons.injEq, Value.int.injEq, Value.long.injEq, Value.ref.injEq, exists_and_left, exists_eq_left', and_assoc, zc_b, zc_0, zc_1, zc_10, zc_01, lg_cmp_ge, lg_cmp_le, lg_cmp_gt, lg_cmp_lt, lg_cmp_eq, zw_le, zw_lt, reduceIte, true_or, or_true, zw_g0, zw_l0, zw_g1, zw_l1, zw_g2, zw_l2, zw_g3, zw_l3, zw_g5, zw_l5, zw_g6, zw_l6, zw_g7, zw_l7, zw_g9, zw_l9, zw_g10, zw_l10, zw_g15, zw_l15, zw_g16, zw_l16, zw_g48, zw_l48, zw_g50, zw_l50, zw_g57, zw_l57, zw_g97, zw_l97, zw_g100, zw_l100, zw_g200, zw_l200, zw_g999, zw_l999, zw_g9999, zw_l9999]
      refine ⟨vp_in_nI (by omega) (by decide), step (by omega) _ ?_ _ _ _⟩
      rw [zpD, if_pos (by omega), zpw_I]
  · obtain ⟨h0, ⟨g, N⟩, p, t8, t9⟩ := z
    obtain ⟨s5, s6, s7, rfl, rfl, hp, hl, ⟨hg, hN⟩, hX, hf, k⟩ := hi
    have c1 : (nI (N + 1) ≤ nI (p + 1)) = (p = N) := by
      rw [nI_leP (by omega) (by omega)]
      exact propext ⟨fun z => by omega, fun z => by omega⟩
    simp only [xX11_bestOfLeasts_54, xX11_bestOfLeasts_60, xX11_bestOfLeasts_140, c1, zi_push, zi_iload, zi_lload, zi_aload, zi_istore, zi_astore, zi_lstore, zi_iinc, zi_i2, zi_i1, zi_idv, zi_l2, zi_ldv, zi_lsh, zi_i2l, zi_l2i, zi_lcmp, zi_dup, zi_dup2, zi_pop, zi_if1, zi_if2, zi_getI, zi_getL, zi_getR, zi_putI, zi_putZ, zi_putL, zi_aldI, zi_aldL, zi_astI, zi_astZ, zi_astL, zi_alen, zi_iret, zi_zret, zi_lret, zi_vret, zi_callV, zi_callS, zi_sw, zi_copyI, zi_copyL, zi_m2, zi_m1, zi_sval, zi_scod, zi_fmt, zi_balen, zi_bald, zi_bret, zi_callT, zq_nth, zq_put1, zq_put2, zq_clr, zq_nl, zq_tk, zq_ps, zq_sw, zq_l0, zq_a, zq_a1, List.length_cons, List.length_nil, List.nil_append, List.cons_append, List.append_nil, List.replicate, Nat.reduceAdd, Nat.reduceSub, Nat.reduceLeDiff, true_and, and_true, List.append_eq, List.cons.injEq, Value.int.injEq, Value.long.injEq, Value.ref.injEq, exists_and_left, exists_eq_left', and_assoc, zc_b, zc_0, zc_1, zc_10, zc_01, lg_cmp_ge, lg_cmp_le, lg_cmp_gt, lg_cmp_lt, lg_cmp_eq, zw_le, zw_lt, reduceIte, true_or, or_true, zw_g0, zw_l0, zw_g1, zw_l1, zw_g2, zw_l2, zw_g3, zw_l3, zw_g5, zw_l5, zw_g6, zw_l6, zw_g7, zw_l7, zw_g9, zw_l9, zw_g10, zw_l10, zw_g15, zw_l15, zw_g16, zw_l16, zw_g48, zw_l48, zw_g50, zw_l50, zw_g57, zw_l57, zw_g97, zw_l97, zw_g100, zw_l100, zw_g200, zw_l200, zw_g999, zw_l999, zw_g9999, zw_l9999]
    refine ⟨fun q => ?_, fun q => ?_⟩
    · subst q
      refine ⟨vp_in_nI (n := 0) (by decide) (by decide), ?_⟩
      have e0 : h.1 39 0 = nI (zpD V g p 0) - 1 := hl 0 (Nat.le_refl _) (by omega)
      first
        | (rw [show (0 : Int32).toNatClampNeg = 0 from rfl, e0]; exact k h hf)
        | (rw [e0]; exact k h hf)
    · exact ⟨(h0, (g, N), p, 0, 0), by dsimp only; omega, s6, s7, rfl, rfl, ⟨by omega, Nat.zero_le _⟩, fun c h1 h2 => absurd h2 (Nat.not_lt_zero _), hl, ⟨hg, hN⟩, hX, hf, k⟩
  · obtain ⟨h0, ⟨g, N⟩, p, f, t9⟩ := z
    obtain ⟨s6, s7, rfl, rfl, ⟨hp, hff⟩, hl1, hl2, ⟨hg, hN⟩, hX, hf, k⟩ := hi
    have hn := hX.1.1
    have c1 : (nI (vn V) < nI f) = (vn V < f) := nI_ltP (by omega) (by omega)
    simp only [xX11_bestOfLeasts_63, xX11_bestOfLeasts_69, xX11_bestOfLeasts_134, c1, nI_1, zi_push, zi_iload, zi_lload, zi_aload, zi_istore, zi_astore, zi_lstore, zi_iinc, zi_i2, zi_i1, zi_idv, zi_l2, zi_ldv, zi_lsh, zi_i2l, zi_l2i, zi_lcmp, zi_dup, zi_dup2, zi_pop, zi_if1, zi_if2, zi_getI, zi_getL, zi_getR, zi_putI, zi_putZ, zi_putL, zi_aldI, zi_aldL, zi_astI, zi_astZ, zi_astL, zi_alen, zi_iret, zi_zret, zi_lret, zi_vret, zi_callV, zi_callS, zi_sw, zi_copyI, zi_copyL, zi_m2, zi_m1, zi_sval, zi_scod, zi_fmt, zi_balen, zi_bald, zi_bret, zi_callT, zq_nth, zq_put1, zq_put2, zq_clr, zq_nl, zq_tk, zq_ps, zq_sw, zq_l0, zq_a, zq_a1, List.length_cons, List.length_nil, List.nil_append, List.cons_append, List.append_nil, List.replicate, Nat.reduceAdd, Nat.reduceSub, Nat.reduceLeDiff, true_and, and_true, List.append_eq, List.cons.injEq, Value.int.injEq, Value.long.injEq, Value.ref.injEq, exists_and_left, exists_eq_left', and_assoc, zc_b, zc_0, zc_1, zc_10, zc_01, lg_cmp_ge, lg_cmp_le, lg_cmp_gt, lg_cmp_lt, lg_cmp_eq, zw_le, zw_lt, reduceIte, true_or, or_true, zw_g0, zw_l0, zw_g1, zw_l1, zw_g2, zw_l2, zw_g3, zw_l3, zw_g5, zw_l5, zw_g6, zw_l6, zw_g7, zw_l7, zw_g9, zw_l9, zw_g10, zw_l10, zw_g15, zw_l15, zw_g16, zw_l16, zw_g48, zw_l48, zw_g50, zw_l50, zw_g57, zw_l57, zw_g97, zw_l97, zw_g100, zw_l100, zw_g200, zw_l200, zw_g999, zw_l999, zw_g9999, zw_l9999]
    refine ⟨fun q => ?_, fun q => ?_⟩
    · refine ⟨(h0, (g, N), p + 1, 0, 0), by dsimp only; omega, _, s6, s7, rfl, rfl, by omega, ?_, ⟨hg, hN⟩, hX, hf, k⟩
      rw [show vn V + 1 = f by omega]
      exact hl1
    · exact ⟨(h0, (g, N), p, f, 0), by dsimp only; omega, rfl, rfl, ⟨hp, by omega, by omega⟩, hl1, hl2, ⟨hg, hN⟩, hX, hf, k⟩
  · obtain ⟨h0, ⟨g, N⟩, p, f, i⟩ := z
    obtain ⟨rfl, rfl, ⟨hp, hff, hfi⟩, hl1, hl2, ⟨hg, hN⟩, hX, hf, k⟩ := hi
    have hX1 := XC_fr hX hf (by decide)
    have hn := hX1.1.1
    have c1 : (nI (vn V) < nI (f + 1 + i)) = (vn V < f + 1 + i) := nI_ltP (by omega) (by omega)
    have lF := zbF_le V g p f hn i
    simp only [xX11_bestOfLeasts_78, xX11_bestOfLeasts_84, xX11_bestOfLeasts_119, c1, nI_1, nI_clamp (show f < 2 ^ 31 by omega), zi_push, zi_iload, zi_lload, zi_aload, zi_istore, zi_astore, zi_lstore, zi_iinc, zi_i2, zi_i1, zi_idv, zi_l2, zi_ldv, zi_lsh, zi_i2l, zi_l2i, zi_lcmp, zi_dup, zi_dup2, zi_pop, zi_if1, zi_if2, zi_getI, zi_getL, zi_getR, zi_putI, zi_putZ, zi_putL, zi_aldI, zi_aldL, zi_astI, zi_astZ, zi_astL, zi_alen, zi_iret, zi_zret, zi_lret, zi_vret, zi_callV, zi_callS, zi_sw, zi_copyI, zi_copyL, zi_m2, zi_m1, zi_sval, zi_scod, zi_fmt, zi_balen, zi_bald, zi_bret, zi_callT, zq_nth, zq_put1, zq_put2, zq_clr, zq_nl, zq_tk, zq_ps, zq_sw, zq_l0, zq_a, zq_a1, List.length_cons, List.length_nil, List.nil_append, List.cons_append, List.append_nil, List.replicate, Nat.reduceAdd, Nat.reduceSub, Nat.reduceLeDiff, true_and, and_true, List.append_eq, List.cons.injEq, Value.int.injEq, Value.long.injEq, Value.ref.injEq, exists_and_left, exists_eq_left', and_assoc, zc_b, zc_0, zc_1, zc_10, zc_01, lg_cmp_ge, lg_cmp_le, lg_cmp_gt, lg_cmp_lt, lg_cmp_eq, zw_le, zw_lt, reduceIte, true_or, or_true, zw_g0, zw_l0, zw_g1, zw_l1, zw_g2, zw_l2, zw_g3, zw_l3, zw_g5, zw_l5, zw_g6, zw_l6, zw_g7, zw_l7, zw_g9, zw_l9, zw_g10, zw_l10, zw_g15, zw_l15, zw_g16, zw_l16, zw_g48, zw_l48, zw_g50, zw_l50, zw_g57, zw_l57, zw_g97, zw_l97, zw_g100, zw_l100, zw_g200, zw_l200, zw_g999, zw_l999, zw_g9999, zw_l9999]
    refine ⟨fun q => ?_, fun q => ?_⟩
    · refine ⟨vp_in_nI (by omega) (by decide), (h0, (g, N), p, f + 1, 0), by dsimp only; omega, _, _, rfl, rfl, ⟨hp, by omega⟩, fun c h1 h2 => ?_, fun c h1 h2 => ?_, ⟨hg, hN⟩, hX, zq_fr_I hf (by decide), k⟩
      · by_cases q2 : c = f
        · rw [q2, zq_sI, if_pos ⟨rfl, rfl⟩, zpD, show vn V - f = i by omega]
          rfl
        · rw [zq_sI, if_neg (fun z => q2 z.2)]
          exact hl1 c h1 (by omega)
      · rw [zq_sI, if_neg (by omega)]
        exact hl2 c (by omega) h2
    · first
        | refine ⟨Nat.le_of_ble_eq_true rfl, g, f, f + 1 + i, rfl, hg, by omega, by omega, hX1, ?_⟩
        | refine ⟨g, f, f + 1 + i, rfl, hg, by omega, by omega, hX1, ?_⟩
      have l1 := zpw_le V g f (f + 1 + i) (by omega)
      have l2 := zpD_le V g hn p (f + 1 + i)
      simp only [nI_clamp (show f + 1 + i < 2 ^ 31 by omega), hl2 (f + 1 + i) (by omega) (by omega), zpw_I, zi1_mn (show zpw V g f (f + 1 + i) ≤ 2 ^ 30 by omega) (show zpD V g p (f + 1 + i) ≤ 2 ^ 30 by omega), nI_1, zi_push, zi_iload, zi_lload, zi_aload, zi_istore, zi_astore, zi_lstore, zi_iinc, zi_i2, zi_i1, zi_idv, zi_l2, zi_ldv, zi_lsh, zi_i2l, zi_l2i, zi_lcmp, zi_dup, zi_dup2, zi_pop, zi_if1, zi_if2, zi_getI, zi_getL, zi_getR, zi_putI, zi_putZ, zi_putL, zi_aldI, zi_aldL, zi_astI, zi_astZ, zi_astL, zi_alen, zi_iret, zi_zret, zi_lret, zi_vret, zi_callV, zi_callS, zi_sw, zi_copyI, zi_copyL, zi_m2, zi_m1, zi_sval, zi_scod, zi_fmt, zi_balen, zi_bald, zi_bret, zi_callT, zq_nth, zq_put1, zq_put2, zq_clr, zq_nl, zq_tk, zq_ps, zq_sw, zq_l0, zq_a, zq_a1, List.length_cons, List.length_nil, List.nil_append, List.cons_append, List.append_nil, List.replicate, Nat.reduceAdd, Nat.reduceSub, Nat.reduceLeDiff, true_and, and_true, List.append_eq, List.cons.injEq, Value.int.injEq, Value.long.injEq, Value.ref.injEq, exists_and_left, exists_eq_left', and_assoc, zc_b, zc_0, zc_1, zc_10, zc_01, lg_cmp_ge, lg_cmp_le, lg_cmp_gt, lg_cmp_lt, lg_cmp_eq, zw_le, zw_lt, reduceIte, true_or, or_true, zw_g0, zw_l0, zw_g1, zw_l1, zw_g2, zw_l2, zw_g3, zw_l3, zw_g5, zw_l5, zw_g6, zw_l6, zw_g7, zw_l7, zw_g9, zw_l9, zw_g10, zw_l10, zw_g15, zw_l15, zw_g16, zw_l16, zw_g48, zw_l48, zw_g50, zw_l50, zw_g57, zw_l57, zw_g97, zw_l97, zw_g100, zw_l100, zw_g200, zw_l200, zw_g999, zw_l999, zw_g9999, zw_l9999]
      rw [zi1_mx (by omega) (by omega)]
      exact ⟨vp_in_nI (by omega) (by decide), (h0, (g, N), p, f, i + 1), by dsimp only; omega, rfl, rfl, ⟨hp, hff, by omega⟩, hl1, hl2, ⟨hg, hN⟩, hX, hf, k⟩
