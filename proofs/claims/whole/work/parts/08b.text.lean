/-! ===== the reference's text constants: text i stands at place 200 + i, its bytes at 300 + i ===== -/
def zi_sval (K : zq_P) (ls : zq_L) (st : List Value) (h : zq_H) : Prop := match st with
  | .ref q :: st => (200 ≤ q ∧ q < 208) ∧ K ls (.ref (q + 100) :: st) h
  | _ => False
def zi_scod (K : zq_P) (ls : zq_L) (st : List Value) (h : zq_H) : Prop := match st with
  | .ref q :: st => (200 ≤ q ∧ q < 208) ∧ K ls (.int 0 :: st) h
  | _ => False
def zi_fmt (K : zq_P) (ls : zq_L) (st : List Value) (h : zq_H) : Prop := K ls (.null :: st) h ∧ K ls (.ref 500 :: st) h
def zi_balen (K : zq_P) (ls : zq_L) (st : List Value) (h : zq_H) : Prop := match st with
  | .ref q :: st => (300 ≤ q ∧ q < 308) ∧ K ls (.int (nI (zq_len.getD (q - 300) 0)) :: st) h
  | _ => False
def zi_bald (K : zq_P) (ls : zq_L) (st : List Value) (h : zq_H) : Prop := match st with
  | .int j :: .ref q :: st => (300 ≤ q ∧ q < 308) ∧ vp_in j (zq_len.getD (q - 300) 0) ∧ K ls (.int ((zq_byt.getD (q - 300) []).getD j.toNatClampNeg 0) :: st) h
  | _ => False
def zi_bret (ty : FieldType) (Q : zq_Q) (_u0 : zq_L) (st : List Value) (h : zq_H) : Prop := match st with
  | [.int x] => narrow ty (.int x) = .int x ∧ Q (some (.int x)) h
  | _ => False
def zi_callT (n : Nat) (spec : zq_Sp) (K : zq_P) (ls : zq_L) (st : List Value) (h : zq_H) : Prop := match zq_tk (n + 1) [] st with
  | some (.ref q :: as, rest) => (200 ≤ q ∧ q < 208) ∧ rest.length ≤ 4 ∧ spec (.ref q :: as) h (fun r h' => K ls (zq_ps r rest) h')
  | _ => False
theorem zq_w8 (q : Nat) (h : 200 ≤ q ∧ q < 208) : ∃ i : Nat, i < 8 ∧ q = 200 + i := ⟨q - 200, by omega, by omega⟩
theorem zq_w9 (q : Nat) (h : 300 ≤ q ∧ q < 308) : ∃ i : Nat, i < 8 ∧ q = 300 + i := ⟨q - 300, by omega, by omega⟩
section ZS
variable {X : zq_X} {cc bytes : ByteArray} {nL d pc n ix maxL d1 rk : Nat} {own : String} {K : zq_P} {y : MethodName} {ret : Option FieldType} {spec : zq_Sp}
theorem zs_ldcS (C : zq_C X cc nL own d) {i k : Nat} {tx : String} (hi : zq_str[i]? = some (k, tx)) (ho : own = "ToOneCrumbModel") (hd : decode cc pc = .ok (.ldc k, 2)) (kk : zq_ok X nL (pc + 2) K) : zq_ok X nL pc (zi_push (.ref (200 + i)) K) := by
  obtain ⟨p, l, e, R, s, m, args, below, meth, c, D, Y, ad, A, kc, kn, Z⟩ := X
  obtain ⟨hx, hb, hml, hown, hts, hK, hR1, hR2, hR3, hR4, hE⟩ := C
  subst ho
  intro ls st h H locs a hP hl hw hD hS
  exact va_ldcS hx hb hown (hE.2.1 i _ hi) hd (kk _ _ _ _ _ _ hP hl hw hD hS)
theorem zs_ldcwS (C : zq_C X cc nL own d) {i k : Nat} {tx : String} (hi : zq_str[i]? = some (k, tx)) (ho : own = "ToOneCrumbModel") (hd : decode cc pc = .ok (.ldc_w k, 3)) (kk : zq_ok X nL (pc + 3) K) : zq_ok X nL pc (zi_push (.ref (200 + i)) K) := by
  obtain ⟨p, l, e, R, s, m, args, below, meth, c, D, Y, ad, A, kc, kn, Z⟩ := X
  obtain ⟨hx, hb, hml, hown, hts, hK, hR1, hR2, hR3, hR4, hE⟩ := C
  subst ho
  intro ls st h H locs a hP hl hw hD hS T hT X
  obtain ⟨t, a1, b1⟩ := kk _ _ _ _ _ _ hP hl hw hD hS T hT X
  obtain ⟨r1, r2⟩ := hE.2.1 i _ hi
  exact ⟨t, X.ldcStringW hx hown (text := tx) (a := ad (200 + i)) r1 r2 (g := F0 m pc a (st.map (zq_cv ad))) rfl (by rw [hb]; exact hd) t a1, b1⟩
theorem zs_sval (C : zq_C X cc nL own d) (hlink : Cond.fieldLink own ix "java/lang/String" "value" "[B" ∈ zq_tb) (hd : decode cc pc = .ok (.getfield ix, 3)) (k : zq_ok X nL (pc + 3) K) : zq_ok X nL pc (zi_sval K) := by
  obtain ⟨p, l, e, R, s, m, args, below, meth, c, D, Y, ad, A, kc, kn, Z⟩ := X
  obtain ⟨hx, hb, hml, hown, hts, hK, hR1, hR2, hR3, hR4, hE⟩ := C
  intro ls st h H locs a hP hl hw hD hS
  unfold zi_sval at hP
  split at hP
  · next q st =>
    obtain ⟨q1, hP⟩ := hP
    obtain ⟨i, hi, rfl⟩ := zq_w8 q q1
    have hq := (hE.1.1 i hi).2.2.1
    rw [show 200 + i + 100 = 300 + i by omega] at hP
    exact vk_getf hx hb hq hS hown (hts _ hlink) (fun _ h9 => h9) hd (k _ _ _ _ _ _ hP hl hw hD hS)
  · exact hP.elim
theorem zs_scod (C : zq_C X cc nL own d) (hlink : Cond.fieldLink own ix "java/lang/String" "coder" "B" ∈ zq_tb) (hd : decode cc pc = .ok (.getfield ix, 3)) (k : zq_ok X nL (pc + 3) K) : zq_ok X nL pc (zi_scod K) := by
  obtain ⟨p, l, e, R, s, m, args, below, meth, c, D, Y, ad, A, kc, kn, Z⟩ := X
  obtain ⟨hx, hb, hml, hown, hts, hK, hR1, hR2, hR3, hR4, hE⟩ := C
  intro ls st h H locs a hP hl hw hD hS
  unfold zi_scod at hP
  split at hP
  · next q st =>
    obtain ⟨q1, hP⟩ := hP
    obtain ⟨i, hi, rfl⟩ := zq_w8 q q1
    have hq := (hE.1.1 i hi).2.1
    exact vk_getf hx hb hq hS hown (hts _ hlink) (fun _ h9 => h9) hd (k _ _ _ _ _ _ hP hl hw hD hS)
  · exact hP.elim
theorem zs_compact (C : zq_C X cc nL own d) (hlink : Cond.fieldLink own ix "java/lang/String" "COMPACT_STRINGS" "Z" ∈ zq_tb) (hd : decode cc pc = .ok (.getstatic ix, 3)) (k : zq_ok X nL (pc + 3) K) : zq_ok X nL pc (zi_push (.int 1) K) := by
  obtain ⟨p, l, e, R, s, m, args, below, meth, c, D, Y, ad, A, kc, kn, Z⟩ := X
  obtain ⟨hx, hb, hml, hown, hts, hK, hR1, hR2, hR3, hR4, hE⟩ := C
  intro ls st h H locs a hP hl hw hD hS
  exact va_gets hx hb hE.2.2.1 hS hown (hts _ hlink) (fun _ h9 => h9) hd (k _ _ _ _ _ _ hP hl hw hD hS)
theorem zs_fmt (C : zq_C X cc nL own d) (hlink : Cond.fieldLink own ix "jdk/internal/util/Preconditions" "SIOOBE_FORMATTER" "Ljava/util/function/BiFunction;" ∈ zq_tb) (hd : decode cc pc = .ok (.getstatic ix, 3)) (k : zq_ok X nL (pc + 3) K) : zq_ok X nL pc (zi_fmt K) := by
  obtain ⟨p, l, e, R, s, m, args, below, meth, c, D, Y, ad, A, kc, kn, Z⟩ := X
  obtain ⟨hx, hb, hml, hown, hts, hK, hR1, hR2, hR3, hR4, hE⟩ := C
  intro ls st h H locs a hP hl hw hD hS
  rcases hE.2.2.2.2 with hZ | hZ
  · exact va_gets hx hb hZ hS hown (hts _ hlink) (fun _ h9 => h9) hd (k _ _ _ _ _ _ hP.1 hl hw hD hS)
  · exact va_gets hx hb hZ hS hown (hts _ hlink) (fun _ h9 => h9) hd (k _ _ _ _ _ _ hP.2 hl hw hD hS)
theorem zs_balen (C : zq_C X cc nL own d) (hd : decode cc pc = .ok (.arraylength, 1)) (k : zq_ok X nL (pc + 1) K) : zq_ok X nL pc (zi_balen K) := by
  obtain ⟨p, l, e, R, s, m, args, below, meth, c, D, Y, ad, A, kc, kn, Z⟩ := X
  obtain ⟨hx, hb, hml, hown, hts, hK, hR1, hR2, hR3, hR4, hE⟩ := C
  intro ls st h H locs a hP hl hw hD hS
  unfold zi_balen at hP
  split at hP
  · next q st =>
    obtain ⟨q1, hP⟩ := hP
    obtain ⟨i, hi, rfl⟩ := zq_w9 q q1
    rw [Nat.add_sub_cancel_left] at hP
    obtain ⟨cell, h1, h2, h3, h4, h5, h6, h7⟩ := (hE.1.1 i hi).2.2.2
    exact W.alen hx hb (by rw [hS.2.1 _ (Array.getElem?_eq_some_iff.mp h1).1 h7]; exact h1) h2 h5 rfl rfl hd (k _ _ _ _ _ _ hP hl hw hD hS)
  · exact hP.elim
theorem zs_bald (C : zq_C X cc nL own d) (hd : decode cc pc = .ok (.baload, 1)) (k : zq_ok X nL (pc + 1) K) : zq_ok X nL pc (zi_bald K) := by
  obtain ⟨p, l, e, R, s, m, args, below, meth, c, D, Y, ad, A, kc, kn, Z⟩ := X
  obtain ⟨hx, hb, hml, hown, hts, hK, hR1, hR2, hR3, hR4, hE⟩ := C
  intro ls st h H locs a hP hl hw hD hS
  unfold zi_bald at hP
  split at hP
  · next j q st =>
    obtain ⟨q1, hin, hP⟩ := hP
    obtain ⟨i, hi, rfl⟩ := zq_w9 q q1
    rw [Nat.add_sub_cancel_left] at hin hP
    have hT := (hE.1.1 i hi).2.2.2
    exact va_tb hx hb hT hS hin rfl hd (k _ _ _ _ _ _ hP hl hw hD hS)
  · exact hP.elim
theorem zs_i2c (C : zq_C X cc nL own d) (hd : decode cc pc = .ok (.i2c, 1)) (k : zq_ok X nL (pc + 1) K) : zq_ok X nL pc (zi_i1 (fun x => (x.toUInt32 % 65536).toInt32) K) := by
  obtain ⟨p, l, e, R, s, m, args, below, meth, c, D, Y, ad, A, kc, kn, Z⟩ := X
  obtain ⟨hx, hb, hml, hown, hts, hK, hR⟩ := C
  intro ls st h H locs a hP hl hw hD hS
  unfold zi_i1 at hP
  split at hP
  · exact lv_i2c hx hb hd rfl (k _ _ _ _ _ _ hP hl hw hD hS)
  · exact hP.elim
theorem zs_bret (C : zq_C X cc nL own d) {Q : zq_Q} {ty : FieldType} (hq : zq_R X (some ty) 1 Q) (hd : decode cc pc = .ok (.ireturn, 1)) : zq_ok X nL pc (zi_bret ty Q) := by
  obtain ⟨p, l, e, R, s, m, args, below, meth, c, D, Y, ad, A, kc, kn, Z⟩ := X
  obtain ⟨hx, hb, hml, hown, hts, hK, hR⟩ := C
  intro ls st h H locs a hP hl hw hD hS
  obtain ⟨hlk, hrt, free, Qc, hZ, hfr, hqc⟩ := hq
  subst hZ
  unfold zi_bret at hP
  split at hP
  · exact W.zret hx hb hrt hP.1 (fun t ht hW => hqc _ h t trivial hP.2 (by rw [ht]; exact hw) hD (hS.F ht) hW) (fun q hq => hfr _ (hS.2.2 q hq)) hd hlk
  · exact hP.elim
theorem zs_callT (C : zq_C X cc nL own d) (hM : zq_M y bytes maxL ret rk d1 spec) (hdd : d1 + 1 ≤ d) (hy : zq_y y bytes maxL ret n) (hc : y.cls = "java/lang/String") (h1 : Cond.methodLink own ix y ∈ zq_tb) (h2 : Cond.instanceMethod y ∈ zq_tb) (h3 : Cond.selects y.cls y y ∈ zq_tb)
    (hd : decode cc pc = .ok (.invokevirtual ix, 3)) (k : zq_ok X nL (pc + 3) K) : zq_ok X nL pc (zi_callT n spec K) := by
  obtain ⟨p', l, e, R, s, m, args, below, meth, c, D, Y, ad, A, kc, kn, Z⟩ := X
  obtain ⟨hx, hb, hml, hown, hts, hK, hR1, hR2, hR3, hR4, hE⟩ := C
  intro ls st h H locs a hP hl hw hD hS
  unfold zi_callT at hP
  split at hP
  · next q as rest htk =>
    obtain ⟨q1, hlen, hsp⟩ := hP
    obtain ⟨i, hi, rfl⟩ := zq_w8 q q1
    obtain ⟨pre, e1, e2, e3⟩ := zq_tk_eq _ _ _ _ _ htk
    rw [List.append_nil] at e3
    have e4 : pre = as.reverse ++ [.ref (200 + i)] := by
      have := congrArg List.reverse e3
      simpa using this.symm
    subst e2
    have e5 : as.length = n := by rw [e4] at e1; simpa using e1
    have hrv := vk_recv hE.1 (i := i) hi hS
    rw [← hc] at hrv
    refine zq_behind (rest := rest) (va_runV (As := as.map (zq_cv ad)) (rest := rest.map (zq_cv ad)) ⟨hx, hb, hml, hown, hts⟩ (hM l D Y ad _ h _ hsp) (cwV n hts (zq_goodV hy h1 h2 h3 hy.2.1) rfl rfl rfl ⟨rfl, hy.2.2.1⟩ ⟨?_, ?_⟩) ⟨zq_blind, hrv, ?_⟩ rfl (by rw [List.length_map]; exact e5) hl.1 ?_ (lv_room ?_) hd ⟨hR3, hR4⟩) hl hD hS k
    · show d1 + 1 ≤ R.frames
      omega
    · have := hy.2.2.2
      show 8 + (maxL + 11) + 64 * d1 ≤ R.locals
      omega
    · intro U hU hW
      exact ⟨rfl, ⟨by rw [hU]; exact hw, va_K.moved hW.alike hK, hD.weaken (fun _ _ _ _ => trivial)⟩, zq_E_call hE hS (zq_AA hD) hU hW⟩
    · show (pre ++ rest).map (zq_cv ad) = (as.map (zq_cv ad)).reverse ++ zq_cv ad (.ref (200 + i)) :: rest.map (zq_cv ad)
      rw [e4]
      simp [List.map_reverse]
    · have h5 := zq_cats (rest.map (zq_cv ad))
      rw [List.length_map] at h5
      omega
  · exact hP.elim
end ZS
