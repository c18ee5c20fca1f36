theorem zq_fs_setI {ad : Nat → Nat} {h : zq_H} {p j : Nat} {kd : List Nat} (hj : kd[j]? = some 0) (x : Int32) : zq_fs ad (zq_setI h p j x) p kd = (zq_fs ad h p kd).set j (.int x) := by
  have hl : j < kd.length := (List.getElem?_eq_some_iff.mp hj).1
  apply List.ext_getElem?
  intro k
  by_cases hk : k = j
  · subst hk
    rw [List.getElem?_set_self (by simpa [zq_fs] using hl), zq_fs_at hj]
    simp [zq_fv, zq_setI]
  · rw [List.getElem?_set_ne (Ne.symm hk)]
    cases hd : kd[k]? with
    | none =>
      have : kd.length ≤ k := by simpa using hd
      rw [List.getElem?_eq_none (by simpa [zq_fs] using this), List.getElem?_eq_none (by simpa [zq_fs] using this)]
    | some d =>
      rw [zq_fs_at hd, zq_fs_at hd]
      unfold zq_fv
      split <;> simp [zq_setI, hk]
theorem zq_fs_setL {ad : Nat → Nat} {h : zq_H} {p j : Nat} {kd : List Nat} (hj : kd[j]? = some 1) (x : Int64) : zq_fs ad (zq_setL h p j x) p kd = (zq_fs ad h p kd).set j (.long x) := by
  have hl : j < kd.length := (List.getElem?_eq_some_iff.mp hj).1
  apply List.ext_getElem?
  intro k
  by_cases hk : k = j
  · subst hk
    rw [List.getElem?_set_self (by simpa [zq_fs] using hl), zq_fs_at hj]
    simp [zq_fv, zq_setL]
  · rw [List.getElem?_set_ne (Ne.symm hk)]
    cases hd : kd[k]? with
    | none =>
      have : kd.length ≤ k := by simpa using hd
      rw [List.getElem?_eq_none (by simpa [zq_fs] using this), List.getElem?_eq_none (by simpa [zq_fs] using this)]
    | some d =>
      rw [zq_fs_at hd, zq_fs_at hd]
      unfold zq_fv
      split <;> simp [zq_setL, hk]
theorem zq_ws_putI {Y : zq_Y} {ad : Nat → Nat} {h : zq_H} {p ci : Nat} {kd : List Nat} (hp : zq_S[p]? = some (0, ci, kd)) {j : Nat} (hj : kd[j]? = some 0) (x : Int32) : (zq_ws Y ad h).set p (ad p, .inr (ci, (zq_fs ad h p kd).set j (.int x))) = zq_ws Y ad (zq_setI h p j x) := by
  refine zq_ws_set hp ?_ (fun q hq => ⟨?_, rfl⟩)
  · show Sum.inr (ci, zq_fs _ _ _ _) = _
    rw [zq_fs_setI hj]
  · funext i
    simp [zq_setI, hq]
theorem zq_ws_putL {Y : zq_Y} {ad : Nat → Nat} {h : zq_H} {p ci : Nat} {kd : List Nat} (hp : zq_S[p]? = some (0, ci, kd)) {j : Nat} (hj : kd[j]? = some 1) (x : Int64) : (zq_ws Y ad h).set p (ad p, .inr (ci, (zq_fs ad h p kd).set j (.long x))) = zq_ws Y ad (zq_setL h p j x) := by
  refine zq_ws_set hp ?_ (fun q hq => ⟨rfl, ?_⟩)
  · show Sum.inr (ci, zq_fs _ _ _ _) = _
    rw [zq_fs_setL hj]
  · funext i
    simp [zq_setL, hq]
/-! where a method stands, what it may use, what it owes at its end -/
abbrev zq_X : Type := Program × Launch × Env × Room × State × MethodId × Array Value × List Frame × Method × Code × va_G × zq_Y × (Nat → Nat) × (Nat → Prop) × Nat × Nat × (State → Prop)
def zq_tb : List Cond := lw_tbl.filter goodWord
/-- the text constants of the reference, by their places: pool number and text -/
def zq_str : List (Nat × String) := [(222, "123456789"), (227, "abcdefghi"), (254, "fyxg"), (278, "crkabdipe"), (283, "<>="), (285, "+-"), (287, "*/"), (360, "gbm")]
def zq_len : List Nat := [9, 9, 4, 9, 3, 2, 2, 3]
def zq_byt : List (List Int32) := [[49, 50, 51, 52, 53, 54, 55, 56, 57], [97, 98, 99, 100, 101, 102, 103, 104, 105], [102, 121, 120, 103], [99, 114, 107, 97, 98, 100, 105, 112, 101], [60, 62, 61], [43, 45], [42, 47], [103, 98, 109]]
/-- links to nest mates' members: they hold of the tables, and are kept by rows of their own -/
def zq_isN (w : Cond) : Bool := match w with
  | .fieldLinkNest _ _ _ _ _ _ => true
  | _ => false
def zq_nw : List Cond := tables_1.filter zq_isN
def zq_E (ad : Nat → Nat) (A : Nat → Prop) (U : State) (H : Heap) : Prop := vk_S 8 zq_len zq_byt (fun i => ad (200 + i)) (fun i => ad (300 + i)) A U H ∧ (∀ (i : Nat) (q : Nat × String), zq_str[i]? = some q → vk_R "ToOneCrumbModel" q.1 q.2 (ad (200 + i)) U) ∧ va_Z "java/lang/String" "COMPACT_STRINGS" "Z" (.int 1) A U H ∧ (∀ w ∈ zq_nw, va_Nw w U) ∧ (va_Z "jdk/internal/util/Preconditions" "SIOOBE_FORMATTER" "Ljava/util/function/BiFunction;" .null A U H ∨ va_Z "jdk/internal/util/Preconditions" "SIOOBE_FORMATTER" "Ljava/util/function/BiFunction;" (.ref (ad 500)) A U H)
def zq_C (X : zq_X) (cc : ByteArray) (nL : Nat) (own : String) (d : Nat) : Prop := match X with
  | (p, _, _, R, s, m, args, _, _, c, D, Y, ad, A, k, n, _) => p.tables.exec = Jvm.exec ∧ c.code = cc ∧ c.maxLocals = nL ∧ s.vm.findClass own = some m.cls ∧ (∀ w ∈ zq_tb, w.before args s = true) ∧ va_K D vwCl (zq_ty Y) s ∧ d ≤ R.frames ∧ 64 * d ≤ R.locals ∧ k ≤ R.cells ∧ n ≤ R.slots ∧ zq_E ad A s s.heap
def zq_ok (X : zq_X) (nL pc : Nat) (P : zq_P) : Prop := match X with
  | (p, l, e, R, s, m, args, below, meth, c, D, Y, ad, A, k, n, Z) => ∀ (ls : zq_L) (st : List Value) (h : zq_H) (H : Heap) (locs : List Loc) (a : Array Slot), P ls st h → zq_lr ad nL ls a → va_P D vwCl (zq_ws Y ad h) H → va_D A (zq_ws Y ad h) → va_S A s.heap H locs → W p l e R s m args below meth c H locs k n Z (F0 m pc a (st.map (zq_cv ad)))
/-- a method's end: nothing (0), an int (1), a long (2) -/
def zq_kd (rk : Nat) (v : Option Value) : Prop := match rk, v with
  | 0, none => True
  | 1, some (.int _) => True
  | 2, some (.long _) => True
  | _, _ => False
def zq_R (X : zq_X) (rt : Option FieldType) (rk : Nat) (Q : zq_Q) : Prop := match X with
  | (_, _, _, _, s, _, args, below, meth, _, D, Y, ad, A, k, n, Z) => meth.locks = false ∧ meth.sig.returnType = rt ∧ ∃ (free : Addr → Prop) (Qc : Array Value → State → Outcome → State → Prop), Z = MQ below Qc args s k n free ∧ (∀ q, A q → free q) ∧
      ∀ (v : Option Value) (h : zq_H) (t : State), zq_kd rk v → Q v h → va_P D vwCl (zq_ws Y ad h) t.heap → va_D A (zq_ws Y ad h) → va_F A s t → s.WarmedH t.vm → Qc args s (.returned v) t
theorem zq_ok.mono {X : zq_X} {nL pc : Nat} {P P' : zq_P} (h : ∀ ls st h, P' ls st h → P ls st h) (k : zq_ok X nL pc P) : zq_ok X nL pc P' := by
  obtain ⟨p, l, e, R, s, m, args, below, meth, c, D, Y, ad, A, kc, kn, Z⟩ := X
  intro ls st hh H locs a hP
  exact k ls st hh H locs a (h _ _ _ hP)
/-! transformers -/
def zi_push (v : Value) (K : zq_P) (ls : zq_L) (st : List Value) (h : zq_H) : Prop := K ls (v :: st) h
def zi_iload (i : Nat) (K : zq_P) (ls : zq_L) (st : List Value) (h : zq_H) : Prop := match zq_nth ls i with
  | some (.int x) => K ls (.int x :: st) h
  | _ => False
def zi_lload (i : Nat) (K : zq_P) (ls : zq_L) (st : List Value) (h : zq_H) : Prop := match zq_nth ls i with
  | some (.long x) => K ls (.long x :: st) h
  | _ => False
def zi_aload (i : Nat) (K : zq_P) (ls : zq_L) (st : List Value) (h : zq_H) : Prop := match zq_nth ls i with
  | some (.ref x) => K ls (.ref x :: st) h
  | _ => False
def zi_istore (i : Nat) (K : zq_P) (ls : zq_L) (st : List Value) (h : zq_H) : Prop := match st with
  | .int x :: st => K (zq_put1 ls i (.int x)) st h
  | _ => False
def zi_astore (i : Nat) (K : zq_P) (ls : zq_L) (st : List Value) (h : zq_H) : Prop := match st with
  | .ref x :: st => K (zq_put1 ls i (.ref x)) st h
  | _ => False
def zi_lstore (i : Nat) (K : zq_P) (ls : zq_L) (st : List Value) (h : zq_H) : Prop := match st with
  | .long x :: st => K (zq_put2 ls i (.long x)) st h
  | _ => False
def zi_iinc (i : Nat) (v : Int32) (K : zq_P) (ls : zq_L) (st : List Value) (h : zq_H) : Prop := match zq_nth ls i with
  | some (.int x) => K (zq_put1 ls i (.int (x + v))) st h
  | _ => False
def zi_i2 (f : Int32 → Int32 → Int32) (K : zq_P) (ls : zq_L) (st : List Value) (h : zq_H) : Prop := match st with
  | .int y :: .int x :: st => K ls (.int (f x y) :: st) h
  | _ => False
def zi_i1 (f : Int32 → Int32) (K : zq_P) (ls : zq_L) (st : List Value) (h : zq_H) : Prop := match st with
  | .int x :: st => K ls (.int (f x) :: st) h
  | _ => False
def zi_idv (f : Int32 → Int32 → Int32) (K : zq_P) (ls : zq_L) (st : List Value) (h : zq_H) : Prop := match st with
  | .int y :: .int x :: st => ¬ y = 0 ∧ K ls (.int (f x y) :: st) h
  | _ => False
def zi_l2 (f : Int64 → Int64 → Int64) (K : zq_P) (ls : zq_L) (st : List Value) (h : zq_H) : Prop := match st with
  | .long y :: .long x :: st => K ls (.long (f x y) :: st) h
  | _ => False
def zi_ldv (f : Int64 → Int64 → Int64) (K : zq_P) (ls : zq_L) (st : List Value) (h : zq_H) : Prop := match st with
  | .long y :: .long x :: st => ¬ y = 0 ∧ K ls (.long (f x y) :: st) h
  | _ => False
def zi_lsh (f : Int64 → Int32 → Int64) (K : zq_P) (ls : zq_L) (st : List Value) (h : zq_H) : Prop := match st with
  | .int y :: .long x :: st => K ls (.long (f x y) :: st) h
  | _ => False
def zi_i2l (K : zq_P) (ls : zq_L) (st : List Value) (h : zq_H) : Prop := match st with
  | .int x :: st => K ls (.long x.toInt64 :: st) h
  | _ => False
def zi_l2i (K : zq_P) (ls : zq_L) (st : List Value) (h : zq_H) : Prop := match st with
  | .long x :: st => K ls (.int x.toInt32 :: st) h
  | _ => False
def zi_lcmp (K : zq_P) (ls : zq_L) (st : List Value) (h : zq_H) : Prop := match st with
  | .long y :: .long x :: st => K ls (.int (lg_cmp x y) :: st) h
  | _ => False
def zi_dup (K : zq_P) (ls : zq_L) (st : List Value) (h : zq_H) : Prop := match st with
  | .int x :: st => K ls (.int x :: .int x :: st) h
  | .ref x :: st => K ls (.ref x :: .ref x :: st) h
  | _ => False
def zi_dup2 (K : zq_P) (ls : zq_L) (st : List Value) (h : zq_H) : Prop := match st with
  | .int y :: .int x :: st => K ls (.int y :: .int x :: .int y :: .int x :: st) h
  | .int y :: .ref x :: st => K ls (.int y :: .ref x :: .int y :: .ref x :: st) h
  | _ => False
def zi_pop (K : zq_P) (ls : zq_L) (st : List Value) (h : zq_H) : Prop := match st with
  | .int _ :: st => K ls st h
  | _ => False
def zi_if1 (f : Int32 → Prop) (J K : zq_P) (ls : zq_L) (st : List Value) (h : zq_H) : Prop := match st with
  | .int x :: st => (f x → J ls st h) ∧ (¬ f x → K ls st h)
  | _ => False
def zi_if2 (f : Int32 → Int32 → Prop) (J K : zq_P) (ls : zq_L) (st : List Value) (h : zq_H) : Prop := match st with
  | .int y :: .int x :: st => (f x y → J ls st h) ∧ (¬ f x y → K ls st h)
  | _ => False
def zi_getI (p j : Nat) (K : zq_P) (ls : zq_L) (st : List Value) (h : zq_H) : Prop := match st with
  | .ref q :: st => q = p ∧ K ls (.int (h.1 p j) :: st) h
  | _ => False
def zi_getL (p j : Nat) (K : zq_P) (ls : zq_L) (st : List Value) (h : zq_H) : Prop := match st with
  | .ref q :: st => q = p ∧ K ls (.long (h.2 p j) :: st) h
  | _ => False
def zi_getR (p r : Nat) (K : zq_P) (ls : zq_L) (st : List Value) (h : zq_H) : Prop := match st with
  | .ref q :: st => q = p ∧ K ls (.ref r :: st) h
  | _ => False
def zi_putI (p j : Nat) (K : zq_P) (ls : zq_L) (st : List Value) (h : zq_H) : Prop := match st with
  | .int x :: .ref q :: st => q = p ∧ K ls st (zq_setI h p j x)
  | _ => False
def zi_putZ (p j : Nat) (K : zq_P) (ls : zq_L) (st : List Value) (h : zq_H) : Prop := match st with
  | .int x :: .ref q :: st => q = p ∧ (x = 0 ∨ x = 1) ∧ K ls st (zq_setI h p j x)
  | _ => False
def zi_putL (p j : Nat) (K : zq_P) (ls : zq_L) (st : List Value) (h : zq_H) : Prop := match st with
  | .long x :: .ref q :: st => q = p ∧ K ls st (zq_setL h p j x)
  | _ => False
def zi_aldI (p n : Nat) (K : zq_P) (ls : zq_L) (st : List Value) (h : zq_H) : Prop := match st with
  | .int i :: .ref q :: st => q = p ∧ vp_in i n ∧ K ls (.int (h.1 p i.toNatClampNeg) :: st) h
  | _ => False
def zi_aldL (p n : Nat) (K : zq_P) (ls : zq_L) (st : List Value) (h : zq_H) : Prop := match st with
  | .int i :: .ref q :: st => q = p ∧ vp_in i n ∧ K ls (.long (h.2 p i.toNatClampNeg) :: st) h
  | _ => False
def zi_astI (p n : Nat) (K : zq_P) (ls : zq_L) (st : List Value) (h : zq_H) : Prop := match st with
  | .int x :: .int i :: .ref q :: st => q = p ∧ vp_in i n ∧ K ls st (zq_setI h p i.toNatClampNeg x)
  | _ => False
def zi_astZ (p n : Nat) (K : zq_P) (ls : zq_L) (st : List Value) (h : zq_H) : Prop := match st with
  | .int x :: .int i :: .ref q :: st => q = p ∧ vp_in i n ∧ (x = 0 ∨ x = 1) ∧ K ls st (zq_setI h p i.toNatClampNeg x)
  | _ => False
def zi_astL (p n : Nat) (K : zq_P) (ls : zq_L) (st : List Value) (h : zq_H) : Prop := match st with
  | .long x :: .int i :: .ref q :: st => q = p ∧ vp_in i n ∧ K ls st (zq_setL h p i.toNatClampNeg x)
  | _ => False
def zi_alen (p n : Nat) (K : zq_P) (ls : zq_L) (st : List Value) (h : zq_H) : Prop := match st with
  | .ref q :: st => q = p ∧ K ls (.int (Int32.ofNat n) :: st) h
  | _ => False
def zi_iret (Q : zq_Q) (_u0 : zq_L) (st : List Value) (h : zq_H) : Prop := match st with
  | [.int x] => Q (some (.int x)) h
  | _ => False
def zi_zret (Q : zq_Q) (_u0 : zq_L) (st : List Value) (h : zq_H) : Prop := match st with
  | [.int x] => (x = 0 ∨ x = 1) ∧ Q (some (.int x)) h
  | _ => False
def zi_lret (Q : zq_Q) (_u0 : zq_L) (st : List Value) (h : zq_H) : Prop := match st with
  | [.long x] => Q (some (.long x)) h
  | _ => False
def zi_vret (Q : zq_Q) (_u0 : zq_L) (st : List Value) (h : zq_H) : Prop := match st with
  | [] => Q none h
  | _ => False
/-! their proofs -/
section ZS
variable {X : zq_X} {cc : ByteArray} {nL d pc : Nat} {own : String} {K J : zq_P}
theorem zs_iconst (C : zq_C X cc nL own d) {n : Int} {v : Int32} (hd : decode cc pc = .ok (.iconst n, 1)) (hv : Int32.ofInt n = v) (k : zq_ok X nL (pc + 1) K) : zq_ok X nL pc (zi_push (.int v) K) := by
  obtain ⟨p, l, e, R, s, m, args, below, meth, c, D, Y, ad, A, kc, kn, Z⟩ := X
  obtain ⟨hx, hb, hml, hown, hts, hK, hR⟩ := C
  intro ls st h H locs a hP hl hw hD hS
  exact lv_iconst hx hb hd hv (k _ _ _ _ _ _ hP hl hw hD hS)
theorem zs_bipush (C : zq_C X cc nL own d) {n : Int} {v : Int32} (hd : decode cc pc = .ok (.bipush n, 2)) (hv : (Int8.ofInt n).toInt32 = v) (k : zq_ok X nL (pc + 2) K) : zq_ok X nL pc (zi_push (.int v) K) := by
  obtain ⟨p, l, e, R, s, m, args, below, meth, c, D, Y, ad, A, kc, kn, Z⟩ := X
  obtain ⟨hx, hb, hml, hown, hts, hK, hR⟩ := C
  intro ls st h H locs a hP hl hw hD hS
  exact lv_bipush hx hb hd hv (k _ _ _ _ _ _ hP hl hw hD hS)
theorem zs_sipush (C : zq_C X cc nL own d) {n : Int} {v : Int32} (hd : decode cc pc = .ok (.sipush n, 3)) (hv : (Int16.ofInt n).toInt32 = v) (k : zq_ok X nL (pc + 3) K) : zq_ok X nL pc (zi_push (.int v) K) := by
  obtain ⟨p, l, e, R, s, m, args, below, meth, c, D, Y, ad, A, kc, kn, Z⟩ := X
  obtain ⟨hx, hb, hml, hown, hts, hK, hR⟩ := C
  intro ls st h H locs a hP hl hw hD hS
  exact lv_sipush hx hb hd hv (k _ _ _ _ _ _ hP hl hw hD hS)
theorem zs_lconst (C : zq_C X cc nL own d) {n : Fin 2} {v : Int64} (hd : decode cc pc = .ok (.lconst n, 1)) (hv : Int64.ofNat (n : Nat) = v) (k : zq_ok X nL (pc + 1) K) : zq_ok X nL pc (zi_push (.long v) K) := by
  obtain ⟨p, l, e, R, s, m, args, below, meth, c, D, Y, ad, A, kc, kn, Z⟩ := X
  obtain ⟨hx, hb, hml, hown, hts, hK, hR⟩ := C
  intro ls st h H locs a hP hl hw hD hS
  exact lv_lconst hx hb hd hv (k _ _ _ _ _ _ hP hl hw hD hS)
theorem zs_ldc (C : zq_C X cc nL own d) {ix : Nat} {v : Int32} (hd : decode cc pc = .ok (.ldc ix, 2)) (hw0 : Cond.constant own ix v ∈ zq_tb) (k : zq_ok X nL (pc + 2) K) : zq_ok X nL pc (zi_push (.int v) K) := by
  obtain ⟨p, l, e, R, s, m, args, below, meth, c, D, Y, ad, A, kc, kn, Z⟩ := X
  obtain ⟨hx, hb, hml, hown, hts, hK, hR⟩ := C
  intro ls st h H locs a hP hl hw hD hS
  exact lv_ldc hx hb hown (hts _ hw0) hd (k _ _ _ _ _ _ hP hl hw hD hS)
theorem zs_ldcw (C : zq_C X cc nL own d) {ix : Nat} {v : Int32} (hd : decode cc pc = .ok (.ldc_w ix, 3)) (hw0 : Cond.constant own ix v ∈ zq_tb) (k : zq_ok X nL (pc + 3) K) : zq_ok X nL pc (zi_push (.int v) K) := by
  obtain ⟨p, l, e, R, s, m, args, below, meth, c, D, Y, ad, A, kc, kn, Z⟩ := X
  obtain ⟨hx, hb, hml, hown, hts, hK, hR⟩ := C
  intro ls st h H locs a hP hl hw hD hS
  exact lv_ldcw hx hb hown (hts _ hw0) hd (k _ _ _ _ _ _ hP hl hw hD hS)
theorem zs_ldc2 (C : zq_C X cc nL own d) {ix : Nat} {v : Int64} (hd : decode cc pc = .ok (.ldc2_w ix, 3)) (hw0 : Cond.constantLong own ix v ∈ zq_tb) (k : zq_ok X nL (pc + 3) K) : zq_ok X nL pc (zi_push (.long v) K) := by
  obtain ⟨p, l, e, R, s, m, args, below, meth, c, D, Y, ad, A, kc, kn, Z⟩ := X
  obtain ⟨hx, hb, hml, hown, hts, hK, hR⟩ := C
  intro ls st h H locs a hP hl hw hD hS
  exact lv_ldc2 hx hb hown (hts _ hw0) hd (k _ _ _ _ _ _ hP hl hw hD hS)
theorem zs_iload_n (C : zq_C X cc nL own d) {i : Nat} {f : Fin 4} (hd : decode cc pc = .ok (.iload_n f, 1)) (hi : (f : Nat) = i) (k : zq_ok X nL (pc + 1) K) : zq_ok X nL pc (zi_iload i K) := by
  obtain ⟨p, l, e, R, s, m, args, below, meth, c, D, Y, ad, A, kc, kn, Z⟩ := X
  obtain ⟨hx, hb, hml, hown, hts, hK, hR⟩ := C
  intro ls st h H locs a hP hl hw hD hS
  unfold zi_iload at hP
  split at hP
  · next x hn => exact lv_iload_n hx hb hd hi (hl.at hn) (k _ _ _ _ _ _ hP hl hw hD hS)
  · exact hP.elim
theorem zs_iload (C : zq_C X cc nL own d) {i : Nat} (hd : decode cc pc = .ok (.iload i, 2)) (k : zq_ok X nL (pc + 2) K) : zq_ok X nL pc (zi_iload i K) := by
  obtain ⟨p, l, e, R, s, m, args, below, meth, c, D, Y, ad, A, kc, kn, Z⟩ := X
  obtain ⟨hx, hb, hml, hown, hts, hK, hR⟩ := C
  intro ls st h H locs a hP hl hw hD hS
  unfold zi_iload at hP
  split at hP
  · next x hn => exact lv_iload hx hb hd (hl.at hn) (k _ _ _ _ _ _ hP hl hw hD hS)
  · exact hP.elim
theorem zs_lload_n (C : zq_C X cc nL own d) {i : Nat} {f : Fin 4} (hd : decode cc pc = .ok (.lload_n f, 1)) (hi : (f : Nat) = i) (k : zq_ok X nL (pc + 1) K) : zq_ok X nL pc (zi_lload i K) := by
  obtain ⟨p, l, e, R, s, m, args, below, meth, c, D, Y, ad, A, kc, kn, Z⟩ := X
  obtain ⟨hx, hb, hml, hown, hts, hK, hR⟩ := C
  intro ls st h H locs a hP hl hw hD hS
  unfold zi_lload at hP
  split at hP
  · next x hn => exact lv_lload_n hx hb hd hi (hl.at hn) (k _ _ _ _ _ _ hP hl hw hD hS)
  · exact hP.elim
theorem zs_lload (C : zq_C X cc nL own d) {i : Nat} (hd : decode cc pc = .ok (.lload i, 2)) (k : zq_ok X nL (pc + 2) K) : zq_ok X nL pc (zi_lload i K) := by
  obtain ⟨p, l, e, R, s, m, args, below, meth, c, D, Y, ad, A, kc, kn, Z⟩ := X
  obtain ⟨hx, hb, hml, hown, hts, hK, hR⟩ := C
  intro ls st h H locs a hP hl hw hD hS
  unfold zi_lload at hP
  split at hP
  · next x hn => exact lv_lload hx hb hd (hl.at hn) (k _ _ _ _ _ _ hP hl hw hD hS)
  · exact hP.elim
theorem zs_aload_n (C : zq_C X cc nL own d) {i : Nat} {f : Fin 4} (hd : decode cc pc = .ok (.aload_n f, 1)) (hi : (f : Nat) = i) (k : zq_ok X nL (pc + 1) K) : zq_ok X nL pc (zi_aload i K) := by
  obtain ⟨p, l, e, R, s, m, args, below, meth, c, D, Y, ad, A, kc, kn, Z⟩ := X
  obtain ⟨hx, hb, hml, hown, hts, hK, hR⟩ := C
  intro ls st h H locs a hP hl hw hD hS
  unfold zi_aload at hP
  split at hP
  · next x hn => exact lv_aload_n hx hb hd hi (hl.at hn) (k _ _ _ _ _ _ hP hl hw hD hS)
  · exact hP.elim
theorem zs_aload (C : zq_C X cc nL own d) {i : Nat} (hd : decode cc pc = .ok (.aload i, 2)) (k : zq_ok X nL (pc + 2) K) : zq_ok X nL pc (zi_aload i K) := by
  obtain ⟨p, l, e, R, s, m, args, below, meth, c, D, Y, ad, A, kc, kn, Z⟩ := X
  obtain ⟨hx, hb, hml, hown, hts, hK, hR⟩ := C
  intro ls st h H locs a hP hl hw hD hS
  unfold zi_aload at hP
  split at hP
  · next x hn => exact lv_aload hx hb hd (hl.at hn) (k _ _ _ _ _ _ hP hl hw hD hS)
  · exact hP.elim
theorem zs_istore_n (C : zq_C X cc nL own d) {i : Nat} {f : Fin 4} (hd : decode cc pc = .ok (.istore_n f, 1)) (hi : (f : Nat) = i) (hn : i < nL) (k : zq_ok X nL (pc + 1) K) : zq_ok X nL pc (zi_istore i K) := by
  obtain ⟨p, l, e, R, s, m, args, below, meth, c, D, Y, ad, A, kc, kn, Z⟩ := X
  obtain ⟨hx, hb, hml, hown, hts, hK, hR⟩ := C
  intro ls st h H locs a hP hl hw hD hS
  unfold zi_istore at hP
  split at hP
  · exact lv_istore_n hx hb hd hi hl hn rfl (fun a' hl' => k _ _ _ _ _ _ hP (zq_lr.put1 hl') hw hD hS)
  · exact hP.elim
theorem zs_istore (C : zq_C X cc nL own d) {i : Nat} (hd : decode cc pc = .ok (.istore i, 2)) (hn : i < nL) (k : zq_ok X nL (pc + 2) K) : zq_ok X nL pc (zi_istore i K) := by
  obtain ⟨p, l, e, R, s, m, args, below, meth, c, D, Y, ad, A, kc, kn, Z⟩ := X
  obtain ⟨hx, hb, hml, hown, hts, hK, hR⟩ := C
  intro ls st h H locs a hP hl hw hD hS
  unfold zi_istore at hP
  split at hP
  · exact lv_istore hx hb hd hl hn rfl (fun a' hl' => k _ _ _ _ _ _ hP (zq_lr.put1 hl') hw hD hS)
  · exact hP.elim
theorem zs_astore_n (C : zq_C X cc nL own d) {i : Nat} {f : Fin 4} (hd : decode cc pc = .ok (.astore_n f, 1)) (hi : (f : Nat) = i) (hn : i < nL) (k : zq_ok X nL (pc + 1) K) : zq_ok X nL pc (zi_astore i K) := by
  obtain ⟨p, l, e, R, s, m, args, below, meth, c, D, Y, ad, A, kc, kn, Z⟩ := X
  obtain ⟨hx, hb, hml, hown, hts, hK, hR⟩ := C
  intro ls st h H locs a hP hl hw hD hS
  unfold zi_astore at hP
  split at hP
  · exact lv_astore_n hx hb hd hi hl hn rfl (fun a' hl' => k _ _ _ _ _ _ hP (zq_lr.put1 hl') hw hD hS)
  · exact hP.elim
theorem zs_astore (C : zq_C X cc nL own d) {i : Nat} (hd : decode cc pc = .ok (.astore i, 2)) (hn : i < nL) (k : zq_ok X nL (pc + 2) K) : zq_ok X nL pc (zi_astore i K) := by
  obtain ⟨p, l, e, R, s, m, args, below, meth, c, D, Y, ad, A, kc, kn, Z⟩ := X
  obtain ⟨hx, hb, hml, hown, hts, hK, hR⟩ := C
  intro ls st h H locs a hP hl hw hD hS
  unfold zi_astore at hP
  split at hP
  · exact lv_astore hx hb hd hl hn rfl (fun a' hl' => k _ _ _ _ _ _ hP (zq_lr.put1 hl') hw hD hS)
  · exact hP.elim
theorem zs_lstore_n (C : zq_C X cc nL own d) {i : Nat} {f : Fin 4} (hd : decode cc pc = .ok (.lstore_n f, 1)) (hi : (f : Nat) = i) (hn : i + 1 < nL) (k : zq_ok X nL (pc + 1) K) : zq_ok X nL pc (zi_lstore i K) := by
  obtain ⟨p, l, e, R, s, m, args, below, meth, c, D, Y, ad, A, kc, kn, Z⟩ := X
  obtain ⟨hx, hb, hml, hown, hts, hK, hR⟩ := C
  intro ls st h H locs a hP hl hw hD hS
  unfold zi_lstore at hP
  split at hP
  · exact lv_lstore_n hx hb hd hi hl hn rfl (fun a' hl' => k _ _ _ _ _ _ hP (zq_lr.put2 hl') hw hD hS)
  · exact hP.elim
theorem zs_lstore (C : zq_C X cc nL own d) {i : Nat} (hd : decode cc pc = .ok (.lstore i, 2)) (hn : i + 1 < nL) (k : zq_ok X nL (pc + 2) K) : zq_ok X nL pc (zi_lstore i K) := by
  obtain ⟨p, l, e, R, s, m, args, below, meth, c, D, Y, ad, A, kc, kn, Z⟩ := X
  obtain ⟨hx, hb, hml, hown, hts, hK, hR⟩ := C
  intro ls st h H locs a hP hl hw hD hS
  unfold zi_lstore at hP
  split at hP
  · exact lv_lstore hx hb hd hl hn rfl (fun a' hl' => k _ _ _ _ _ _ hP (zq_lr.put2 hl') hw hD hS)
  · exact hP.elim
theorem zq_en_place {ad : Nat → Nat} {l : zq_L} {i : Nat} {v : Value} (h : zq_nth l i = some v) : ∃ k : Nat, (zq_en ad l)[k]? = some (i, zq_cv ad v) := List.getElem?_of_mem (zq_en_mem h)
theorem zs_iinc (C : zq_C X cc nL own d) {i : Nat} {n : Int} {v : Int32} (hd : decode cc pc = .ok (.iinc i n, 3)) (hv : Int32.ofInt n = v) (hn : i < nL) (k : zq_ok X nL (pc + 3) K) : zq_ok X nL pc (zi_iinc i v K) := by
  obtain ⟨p, l, e, R, s, m, args, below, meth, c, D, Y, ad, A, kc, kn, Z⟩ := X
  obtain ⟨hx, hb, hml, hown, hts, hK, hR⟩ := C
  intro ls st h H locs a hP hl hw hD hS
  unfold zi_iinc at hP
  split at hP
  · next x hx9 =>
    obtain ⟨k9, hk9⟩ := zq_en_place (ad := ad) hx9
    exact lv_iinc hx hb hd hl hk9 (by rw [hv]) hn rfl (fun a' hl' => k _ _ _ _ _ _ hP (zq_lr.put1 hl') hw hD hS)
  · exact hP.elim
end ZS
