/-! ===== what the law's cases do ===== -/
theorem XA_M {V : zV} {h h' : zq_H} (k : XA V h) (f : zMfr h h') : XA V h' := by
  obtain ⟨⟨k1, k2, k3, k4, k5, k6, k7⟩, t1, r1⟩ := k
  refine ⟨⟨?_, ?_, ?_, ?_, ?_, ?_, ?_⟩, ?_, ?_⟩
  · unfold XL at *
    rw [(f 40 (by decide)).1, (f 41 (by decide)).1, (f 42 (by decide)).1, (f 43 (by decide)).1]
    exact k1
  · unfold XG at *
    rw [(f 5 (by decide)).1, (f 6 (by decide)).1, (f 7 (by decide)).1]
    exact k2
  · unfold XP at *
    rw [(f 48 (by decide)).1, (f 49 (by decide)).1]
    exact k3
  · unfold XB at *
    rw [(f 12 (by decide)).1, (f 12 (by decide)).2, (f 13 (by decide)).2, (f 14 (by decide)).2]
    exact k4
  · unfold XK at *
    rw [(f 15 (by decide)).1, (f 16 (by decide)).1, (f 17 (by decide)).1]
    exact k5
  · unfold XW at *
    rw [(f 9 (by decide)).1, (f 10 (by decide)).1, (f 11 (by decide)).1]
    exact k6
  · unfold XW0 at *
    rw [(f 11 (by decide)).1]
    exact k7
  · unfold XT at *
    rw [(f 1 (by decide)).1, (f 2 (by decide)).1]
    exact t1
  · unfold XR at *
    rw [(f 3 (by decide)).1, (f 4 (by decide)).2]
    exact r1
theorem MA_fm0 {b : Nat} {V : zV} {ps : List Nat} {h h' : zq_H} (k : MA b V h) (f : zq_fm [] ps h h') (d : ∀ p ∈ ps, p ∉ 57 :: 64 :: zmp) : MA b V h' := by
  have e : ∀ p, p ∈ 57 :: 64 :: zmp → p ∉ ps := fun p hp => znd d hp
  exact ⟨MC_fm k.1 f ⟨fun j hj => absurd hj List.not_mem_nil, fun p hp q => d p hp (List.mem_cons_of_mem _ (List.mem_cons_of_mem _ q))⟩, MT_fm k.2.1 f ⟨List.not_mem_nil, e _ (by decide)⟩, MR_fm k.2.2 f ⟨List.not_mem_nil, e _ (by decide)⟩⟩
theorem MA_X {b : Nat} {V : zV} {h h' : zq_H} (k : MA b V h) (f : zXfr h h') : MA b V h' := by
  refine MA_fm0 (ps := List.range 56) k ⟨fun p hp q => f p ?_, fun j _ => ?_⟩ (by decide)
  · have := (not_congr (List.mem_range (m := p) (n := 56))).mp q
    omega
  · exact ⟨congrFun (f 56 (Nat.le_refl _)).1 j, congrFun (f 56 (Nat.le_refl _)).2 j⟩
theorem MA_102 {b : Nat} {V : zV} {h : zq_H} {x : Int64} (k : MA b V h) : MA b V (zq_setL h 102 0 x) := MA_fm0 (ps := [102]) k (zq_fm_L zq_fm_rf (by decide)) (by decide)
theorem XA_102 {V : zV} {h : zq_H} {x : Int64} (k : XA V h) : XA V (zq_setL h 102 0 x) := XA_fr (ps := [102]) k (zq_fr_L zq_fr_rf (by decide)) (by decide)
/-- the law's locals at the script's place p -/
def zll (p : Nat) (s5 s6 s7 : Option Value) : zq_L := [some (.ref 150), some (.ref 0), some (.ref 56), some (.ref 102), some (.int (nI p)), s5, s6, s7]
def zarg (L : Nat) (xs : Nat → Int32) (v : Int32) (K : zq_P) : zq_P := zi_aload 0 (zi_iload 4 (zi_push (.int v) (zi_i2 (fun x y => x + y) (zi_sld L xs K))))
section ZCS
variable {p b L k q : Nat} {xs : Nat → Int32} {s5 s6 s7 : Option Value} {K J J2 : zq_P} {st rest : List Value} {h : zq_H} {V : zV} {v w x y : Int32} {sx sm sp : zq_Sp}
theorem zarg_at (hv : v = nI k) (hp : p + k < L) (hL : L < 2 ^ 31) (g : K (zll p s5 s6 s7) (.int (xs (p + k)) :: st) h) : zarg L xs v K (zll p s5 s6 s7) st h := by
  subst hv
  show (150 : Nat) = 150 ∧ vp_in (nI p + nI k) L ∧ K (zll p s5 s6 s7) (.int (xs (nI p + nI k).toNatClampNeg) :: st) h
  rw [nI_add, nI_clamp (by omega)]
  exact ⟨rfl, vp_in_nI (by omega) hL, g⟩
theorem zal1 (g : K (zll p s5 s6 s7) (.ref 0 :: st) h) : zi_aload 1 K (zll p s5 s6 s7) st h := g
theorem zal2 (g : K (zll p s5 s6 s7) (.ref 56 :: st) h) : zi_aload 2 K (zll p s5 s6 s7) st h := g
theorem zal3 (g : K (zll p s5 s6 s7) (.ref 102 :: st) h) : zi_aload 3 K (zll p s5 s6 s7) st h := g
theorem zcv0 {ls : zq_L} (hr : rest.length ≤ 4) (hs : sp [.ref q] h (fun r h' => K ls (zq_ps r rest) h')) : zi_callV 0 q sp K ls (.ref q :: rest) h := And.intro rfl (And.intro hr hs)
theorem zcv1 {ls : zq_L} (hr : rest.length ≤ 4) (hs : sp [.ref q, .int v] h (fun r h' => K ls (zq_ps r rest) h')) : zi_callV 1 q sp K ls (.int v :: .ref q :: rest) h := And.intro rfl (And.intro hr hs)
theorem zcv2 {ls : zq_L} (hr : rest.length ≤ 4) (hs : sp [.ref q, .int v, .int w] h (fun r h' => K ls (zq_ps r rest) h')) : zi_callV 2 q sp K ls (.int w :: .int v :: .ref q :: rest) h := And.intro rfl (And.intro hr hs)
theorem zcv3 {ls : zq_L} (hr : rest.length ≤ 4) (hs : sp [.ref q, .int v, .int w, .int x] h (fun r h' => K ls (zq_ps r rest) h')) : zi_callV 3 q sp K ls (.int x :: .int w :: .int v :: .ref q :: rest) h := And.intro rfl (And.intro hr hs)
theorem zcv4 {ls : zq_L} (hr : rest.length ≤ 4) (hs : sp [.ref q, .int v, .int w, .int x, .int y] h (fun r h' => K ls (zq_ps r rest) h')) : zi_callV 4 q sp K ls (.int y :: .int x :: .int w :: .int v :: .ref q :: rest) h := And.intro rfl (And.intro hr hs)
theorem zif_same {ls : zq_L} {r : Int32} (g : J ls [] h) : zi_if2 (fun x y => x = y) J zi_no ls [.int r, .int r] h := And.intro (fun _ => g) (fun z => absurd rfl z)
def zln1 (r : Int32) : ([.int r] : List Value).length ≤ 4 := Nat.le_of_ble_eq_true rfl
def zln0 : ([] : List Value).length ≤ 4 := Nat.zero_le _
/-- the next state: V' on both sides -/
def zlg (b p : Nat) (J : zq_P) : Prop := ∀ V h s5 s6 s7, ZV V → XA V h → MA (b + 1) V h → J (zll p s5 s6 s7) [] h
def xS0 (L : Nat) (xs : Nat → Int32) (sx sm : zq_Sp) (J : zq_P) : zq_P := zi_aload 1 (zi_callV 0 0 sx (zi_aload 2 (zi_callV 0 56 sm (zi_if2 (fun x y => x = y) J zi_no))))
def xS1 (L : Nat) (xs : Nat → Int32) (sx sm : zq_Sp) (J : zq_P) : zq_P := zi_aload 1 (zarg L xs 1 (zi_callV 1 0 sx (zi_aload 2 (zarg L xs 1 (zi_callV 1 56 sm (zi_if2 (fun x y => x = y) J zi_no))))))
def xS2 (L : Nat) (xs : Nat → Int32) (sx sm : zq_Sp) (J : zq_P) : zq_P := zi_aload 1 (zarg L xs 1 (zarg L xs 2 (zi_callV 2 0 sx (zi_aload 2 (zarg L xs 1 (zarg L xs 2 (zi_callV 2 56 sm (zi_if2 (fun x y => x = y) J zi_no))))))))
def xS3 (L : Nat) (xs : Nat → Int32) (sx sm : zq_Sp) (J : zq_P) : zq_P := zi_aload 1 (zarg L xs 1 (zarg L xs 2 (zarg L xs 3 (zi_callV 3 0 sx (zi_aload 2 (zarg L xs 1 (zarg L xs 2 (zarg L xs 3 (zi_callV 3 56 sm (zi_if2 (fun x y => x = y) J zi_no))))))))))
def xS4 (L : Nat) (xs : Nat → Int32) (sx sm : zq_Sp) (J : zq_P) : zq_P := zi_aload 1 (zarg L xs 1 (zarg L xs 2 (zarg L xs 3 (zarg L xs 4 (zi_callV 4 0 sx (zi_aload 2 (zarg L xs 1 (zarg L xs 2 (zarg L xs 3 (zarg L xs 4 (zi_callV 4 56 sm (zi_if2 (fun x y => x = y) J zi_no))))))))))))
theorem sh0 (j : zJ V sx sm []) (hA : XA V h) (hM : MA b V h) (hb : b < 2147483648) (k : zlg b p J) : xS0 L xs sx sm J (zll p s5 s6 s7) [] h := by
  obtain ⟨r, V', hV', jx, jm⟩ := j
  refine zal1 (zcv0 zln0 (jx h _ hA (fun h1 hA1 f1 => zal2 (zcv0 (zln1 r) (jm b h1 _ hb (MA_X hM f1) (fun h2 hM2 f2 => ?_))))))
  exact zif_same (k V' h2 _ _ _ hV' (XA_M hA1 f2) hM2)
theorem sh1 (hp : p + 4 < L) (hL : L < 2 ^ 31) (j : zJ V sx sm [.int (xs (p + 1))]) (hA : XA V h) (hM : MA b V h) (hb : b < 2147483648) (k : zlg b p J) : xS1 L xs sx sm J (zll p s5 s6 s7) [] h := by
  obtain ⟨r, V', hV', jx, jm⟩ := j
  refine zal1 (zarg_at (k := 1) rfl (by omega) hL (zcv1 zln0 (jx h _ hA (fun h1 hA1 f1 => zal2 (zarg_at (k := 1) rfl (by omega) hL (zcv1 (zln1 r) (jm b h1 _ hb (MA_X hM f1) (fun h2 hM2 f2 => ?_))))))))
  exact zif_same (k V' h2 _ _ _ hV' (XA_M hA1 f2) hM2)
theorem sh2 (hp : p + 4 < L) (hL : L < 2 ^ 31) (j : zJ V sx sm [.int (xs (p + 1)), .int (xs (p + 2))]) (hA : XA V h) (hM : MA b V h) (hb : b < 2147483648) (k : zlg b p J) : xS2 L xs sx sm J (zll p s5 s6 s7) [] h := by
  obtain ⟨r, V', hV', jx, jm⟩ := j
  refine zal1 (zarg_at (k := 1) rfl (by omega) hL (zarg_at (k := 2) rfl (by omega) hL (zcv2 zln0 (jx h _ hA (fun h1 hA1 f1 => zal2 (zarg_at (k := 1) rfl (by omega) hL (zarg_at (k := 2) rfl (by omega) hL (zcv2 (zln1 r) (jm b h1 _ hb (MA_X hM f1) (fun h2 hM2 f2 => ?_))))))))))
  exact zif_same (k V' h2 _ _ _ hV' (XA_M hA1 f2) hM2)
theorem sh3 (hp : p + 4 < L) (hL : L < 2 ^ 31) (j : zJ V sx sm [.int (xs (p + 1)), .int (xs (p + 2)), .int (xs (p + 3))]) (hA : XA V h) (hM : MA b V h) (hb : b < 2147483648) (k : zlg b p J) : xS3 L xs sx sm J (zll p s5 s6 s7) [] h := by
  obtain ⟨r, V', hV', jx, jm⟩ := j
  refine zal1 (zarg_at (k := 1) rfl (by omega) hL (zarg_at (k := 2) rfl (by omega) hL (zarg_at (k := 3) rfl (by omega) hL (zcv3 zln0 (jx h _ hA (fun h1 hA1 f1 => zal2 (zarg_at (k := 1) rfl (by omega) hL (zarg_at (k := 2) rfl (by omega) hL (zarg_at (k := 3) rfl (by omega) hL (zcv3 (zln1 r) (jm b h1 _ hb (MA_X hM f1) (fun h2 hM2 f2 => ?_))))))))))))
  exact zif_same (k V' h2 _ _ _ hV' (XA_M hA1 f2) hM2)
theorem sh4 (hp : p + 4 < L) (hL : L < 2 ^ 31) (j : zJ V sx sm [.int (xs (p + 1)), .int (xs (p + 2)), .int (xs (p + 3)), .int (xs (p + 4))]) (hA : XA V h) (hM : MA b V h) (hb : b < 2147483648) (k : zlg b p J) : xS4 L xs sx sm J (zll p s5 s6 s7) [] h := by
  obtain ⟨r, V', hV', jx, jm⟩ := j
  refine zal1 (zarg_at (k := 1) rfl (by omega) hL (zarg_at (k := 2) rfl (by omega) hL (zarg_at (k := 3) rfl (by omega) hL (zarg_at (k := 4) rfl (by omega) hL (zcv4 zln0 (jx h _ hA (fun h1 hA1 f1 => zal2 (zarg_at (k := 1) rfl (by omega) hL (zarg_at (k := 2) rfl (by omega) hL (zarg_at (k := 3) rfl (by omega) hL (zarg_at (k := 4) rfl (by omega) hL (zcv4 (zln1 r) (jm b h1 _ hb (MA_X hM f1) (fun h2 hM2 f2 => ?_))))))))))))))
  exact zif_same (k V' h2 _ _ _ hV' (XA_M hA1 f2) hM2)
/-! loaf, rule: two ways on -/
def xSE (σ : Nat → Nat) (sx : List Value → zq_H → zq_Q → zq_Q → Prop) (sm : zq_Sp) (J J2 : zq_P) : zq_P := zi_aload 1 (zi_callV2 σ sx (zi_aload 2 (zi_callV 0 56 sm (zi_if2 (fun x y => x = y) J zi_no))) (zi_aload 2 (zi_callV 0 56 sm (zi_if2 (fun x y => x = y) J2 zi_no))))
theorem shE {σ : Nat → Nat} {sv : zV → List Value → zq_H → zq_Q → zq_Q → Prop} (hσ : ∀ p s5 s6 s7, ∃ t5 t6 t7, zxl σ (zll p s5 s6 s7) = zll p t5 t6 t7) (j : zJ2 V sv sm []) (hA : XA V h) (hM : MA b V h) (hb : b < 2147483648) (k : zlg b p J) (k2 : zlg b p J2) : xSE σ (fun args h Q Q2 => ∃ U, sv U args h Q Q2) sm J J2 (zll p s5 s6 s7) [] h := by
  obtain ⟨r, V', f, hV', jx, jm⟩ := j
  refine zal1 (And.intro rfl (jx h _ _ hA (fun _ h1 hA1 f1 => ?_) (fun _ h1 hA1 f1 => ?_)))
  · refine zal2 (zcv0 (zln1 r) (jm b h1 _ hb (MA_X hM f1) (fun h2 hM2 f2 => ?_)))
    exact zif_same (k V' h2 _ _ _ hV' (XA_M hA1 f2) hM2)
  · obtain ⟨t5, t6, t7, e⟩ := hσ p s5 s6 s7
    show zi_aload 2 _ (zxl σ (zll p s5 s6 s7)) _ _
    rw [e]
    refine zal2 (zcv0 (zln1 r) (jm b h1 _ hb (MA_X hM f1) (fun h2 hM2 f2 => ?_)))
    exact zif_same (k2 V' h2 _ _ _ hV' (XA_M hA1 f2) hM2)
/-! those that can throw -/
def zLs2 (sx : List Value → zq_H → zq_Q → (zq_H → Prop) → Prop) : zq_Sp := fun args h Q => ∃ v w, args = [.ref 0, .int v, .int w, .ref 102] ∧ sx [.ref 0, .int v, .int w] h (fun r h' => ∃ x, r = some (.int x) ∧ Q (some (.int 0)) (zq_setL h' 102 0 x.toInt64)) (fun h' => Q (some (.int 1)) h')
def zLs1 (sx : List Value → zq_H → zq_Q → (zq_H → Prop) → Prop) : zq_Sp := fun args h Q => ∃ v, args = [.ref 0, .int v, .ref 102] ∧ sx [.ref 0, .int v] h (fun r h' => ∃ x, r = some (.long x) ∧ Q (some (.int 0)) (zq_setL h' 102 0 x)) (fun h' => Q (some (.int 1)) h')
def xSX (sl sm : zq_Sp) (L : Nat) (xs : Nat → Int32) (J : zq_P) : zq_P := zi_aload 1 (zarg L xs 1 (zarg L xs 2 (zi_aload 3 (zi_callS 4 sl (zi_istore 5 (zi_aload 2 (zarg L xs 1 (zarg L xs 2 (zi_callV 2 56 sm (zi_istore 6 (zi_aload 2 (zi_callV 0 56 sp_thrown (zi_iload 5 (zi_if2 (fun x y => x = y) (zi_iload 5 (zi_if1 (fun x => x = 0) (zi_aload 3 (zi_push (.int 0) (zi_aldL 102 1 (zi_iload 6 (zi_i2l (zi_lcmp (zi_if1 (fun x => x = 0) J zi_no))))))) J)) zi_no))))))))))))))
def xSY (sl sm : zq_Sp) (L : Nat) (xs : Nat → Int32) (J : zq_P) : zq_P := zi_aload 1 (zarg L xs 1 (zi_aload 3 (zi_callS 3 sl (zi_istore 5 (zi_aload 2 (zarg L xs 1 (zi_callV 1 56 sm (zi_lstore 6 (zi_aload 2 (zi_callV 0 56 sp_thrown (zi_iload 5 (zi_if2 (fun x y => x = y) (zi_iload 5 (zi_if1 (fun x => x = 0) (zi_aload 3 (zi_push (.int 0) (zi_aldL 102 1 (zi_lload 6 (zi_lcmp (zi_if1 (fun x => x = 0) J zi_no)))))) J)) zi_no))))))))))))
theorem zlc0 (x : Int64) : lg_cmp x x = 0 := (lg_cmp_eq x x).mpr rfl
theorem zst5 (g : K (zll p (some (.int v)) s6 s7) st h) : zi_istore 5 K (zll p s5 s6 s7) (.int v :: st) h := g
theorem zst6 (g : K (zll p (some (.int w)) (some (.int v)) s7) st h) : zi_istore 6 K (zll p (some (.int w)) s6 s7) (.int v :: st) h := g
theorem zst6l {u : Int64} (g : K (zll p (some (.int w)) (some (.long u)) none) st h) : zi_lstore 6 K (zll p (some (.int w)) s6 s7) (.long u :: st) h := g
theorem zlo5 (g : K (zll p (some (.int v)) s6 s7) (.int v :: st) h) : zi_iload 5 K (zll p (some (.int v)) s6 s7) st h := g
theorem shX {sv : List Value → zq_H → zq_Q → (zq_H → Prop) → Prop} (hp : p + 4 < L) (hL : L < 2 ^ 31) (j : zJXi V sv sm [.int (xs (p + 1)), .int (xs (p + 2))]) (hV : ZV V) (hA : XA V h) (hM : MA b V h) (hb : b < 2147483648) (k : zlg b p J) : xSX (zLs2 sv) sm L xs J (zll p s5 s6 s7) [] h := by
  obtain ⟨t, r, r2, hr, jx, jm⟩ := j
  refine zal1 (zarg_at (k := 1) rfl (by omega) hL (zarg_at (k := 2) rfl (by omega) hL (zal3 (And.intro zln0 ⟨_, _, rfl, jx h _ _ hA (fun ht => ⟨r, rfl, ?_⟩) (fun ht => ?_)⟩))))
  · obtain rfl := hr ht
    subst ht
    refine zst5 (zal2 (zarg_at (k := 1) rfl (by omega) hL (zarg_at (k := 2) rfl (by omega) hL (zcv2 zln0 (jm b _ _ hb (MA_102 hM) (fun h2 hM2 f2 h102 h0 => ?_))))))
    refine zst6 (zal2 (zcv0 zln0 ⟨rfl, ?_⟩))
    rw [h0]
    refine zlo5 (And.intro (fun _ => ?_) (fun z => z rfl))
    refine zlo5 (And.intro (fun _ => ?_) (fun z => absurd rfl z))
    refine zal3 ?_
    show (102 : Nat) = 102 ∧ vp_in 0 1 ∧ ((lg_cmp (h2.2 102 (0 : Int32).toNatClampNeg) r2.toInt64 = 0 → J (zll p (some (.int 0)) (some (.int r2)) s7) [] h2) ∧ (¬ lg_cmp (h2.2 102 (0 : Int32).toNatClampNeg) r2.toInt64 = 0 → False))
    have e : h2.2 102 (0 : Int32).toNatClampNeg = r2.toInt64 := by
      rw [h102, zq_sL]
      exact if_pos (And.intro rfl rfl)
    rw [e, zlc0]
    exact ⟨rfl, vp_in_nI (n := 0) (by decide) (by decide), fun _ => k V h2 _ _ _ hV (XA_M (XA_102 hA) f2) hM2, fun z => z rfl⟩
  · subst ht
    refine zst5 (zal2 (zarg_at (k := 1) rfl (by omega) hL (zarg_at (k := 2) rfl (by omega) hL (zcv2 zln0 (jm b _ _ hb hM (fun h2 hM2 f2 h102 h0 => ?_))))))
    refine zst6 (zal2 (zcv0 zln0 ⟨rfl, ?_⟩))
    rw [h0]
    refine zlo5 (And.intro (fun _ => ?_) (fun z => z rfl))
    exact zlo5 (And.intro (fun z => absurd z (by decide)) (fun _ => k V h2 _ _ _ hV (XA_M hA f2) hM2))
theorem shY {sv : List Value → zq_H → zq_Q → (zq_H → Prop) → Prop} (hp : p + 4 < L) (hL : L < 2 ^ 31) (j : zJXl V sv sm [.int (xs (p + 1))]) (hV : ZV V) (hA : XA V h) (hM : MA b V h) (hb : b < 2147483648) (k : zlg b p J) : xSY (zLs1 sv) sm L xs J (zll p s5 s6 s7) [] h := by
  obtain ⟨t, r, r2, hr, jx, jm⟩ := j
  refine zal1 (zarg_at (k := 1) rfl (by omega) hL (zal3 (And.intro zln0 ⟨_, rfl, jx h _ _ hA (fun ht => ⟨r, rfl, ?_⟩) (fun ht => ?_)⟩)))
  · obtain rfl := hr ht
    subst ht
    refine zst5 (zal2 (zarg_at (k := 1) rfl (by omega) hL (zcv1 zln0 (jm b _ _ hb (MA_102 hM) (fun h2 hM2 f2 h102 h0 => ?_)))))
    refine zst6l (zal2 (zcv0 zln0 ⟨rfl, ?_⟩))
    rw [h0]
    refine zlo5 (And.intro (fun _ => ?_) (fun z => z rfl))
    refine zlo5 (And.intro (fun _ => ?_) (fun z => absurd rfl z))
    refine zal3 ?_
    show (102 : Nat) = 102 ∧ vp_in 0 1 ∧ ((lg_cmp (h2.2 102 (0 : Int32).toNatClampNeg) r2 = 0 → J (zll p (some (.int 0)) (some (.long r2)) none) [] h2) ∧ (¬ lg_cmp (h2.2 102 (0 : Int32).toNatClampNeg) r2 = 0 → False))
    have e : h2.2 102 (0 : Int32).toNatClampNeg = r2 := by
      rw [h102, zq_sL]
      exact if_pos (And.intro rfl rfl)
    rw [e, zlc0]
    exact ⟨rfl, vp_in_nI (n := 0) (by decide) (by decide), fun _ => k V h2 _ _ _ hV (XA_M (XA_102 hA) f2) hM2, fun z => z rfl⟩
  · subst ht
    refine zst5 (zal2 (zarg_at (k := 1) rfl (by omega) hL (zcv1 zln0 (jm b _ _ hb hM (fun h2 hM2 f2 h102 h0 => ?_)))))
    refine zst6l (zal2 (zcv0 zln0 ⟨rfl, ?_⟩))
    rw [h0]
    refine zlo5 (And.intro (fun _ => ?_) (fun z => z rfl))
    exact zlo5 (And.intro (fun z => absurd z (by decide)) (fun _ => k V h2 _ _ _ hV (XA_M hA f2) hM2))
end ZCS
