/-! ===== switches; a copy of a row ===== -/
def zq_sw (x : Int32) (ls : zq_L) (st : List Value) (h : zq_H) (D : zq_P) : List (Int32 × zq_P) → Prop
  | [] => D ls st h
  | (v, P) :: r => (x = v → P ls st h) ∧ (¬ x = v → zq_sw x ls st h D r)
def zi_sw (cs : List (Int32 × zq_P)) (D : zq_P) : zq_P := fun ls st h => match st with
  | .int x :: st => zq_sw x ls st h D cs
  | _ => False
theorem zq_sw_cases {x : Int32} {ls : zq_L} {st : List Value} {h : zq_H} {D : zq_P} : ∀ (cs : List (Int32 × zq_P)), zq_sw x ls st h D cs → (∃ (i : Nat) (P : zq_P), cs[i]? = some (x, P) ∧ P ls st h) ∨ ((∀ (i : Nat) (v : Int32) (P : zq_P), cs[i]? = some (v, P) → ¬ x = v) ∧ D ls st h)
  | [], hs => Or.inr ⟨fun i v P hi => (by cases hi), hs⟩
  | (v, P) :: r, hs => by
    by_cases hx : x = v
    · exact Or.inl ⟨0, P, by rw [hx]; rfl, hs.1 hx⟩
    · rcases zq_sw_cases r (hs.2 hx) with ⟨i, P', h1, h2⟩ | ⟨h1, h2⟩
      · exact Or.inl ⟨i + 1, P', h1, h2⟩
      · refine Or.inr ⟨fun i w P' hi => ?_, h2⟩
        cases i with
        | zero => cases hi; exact hx
        | succ i => exact h1 i w P' hi
def zq_tsok (X : zq_X) (nL pc : Nat) (lo : Int) (offs : Array Int) : Nat → List (Int32 × zq_P) → Prop
  | _, [] => True
  | i, (v, P) :: r => (v.toInt = lo + i ∧ ∃ (off : Int) (tgt : Nat), offs[i]? = some off ∧ (pc : Int) + off = (tgt : Int) ∧ zq_ok X nL tgt P) ∧ zq_tsok X nL pc lo offs (i + 1) r
theorem zq_tsok_at {X : zq_X} {nL pc : Nat} {lo : Int} {offs : Array Int} : ∀ (cs : List (Int32 × zq_P)) (k i : Nat) (v : Int32) (P : zq_P), zq_tsok X nL pc lo offs k cs → cs[i]? = some (v, P) → v.toInt = lo + (k + i : Nat) ∧ ∃ (off : Int) (tgt : Nat), offs[k + i]? = some off ∧ (pc : Int) + off = (tgt : Int) ∧ zq_ok X nL tgt P
  | [], k, i, v, P, _, hi => by cases hi
  | (w, P') :: r, k, i, v, P, hs, hi => by
    cases i with
    | zero => cases hi; exact hs.1
    | succ i =>
      have := zq_tsok_at r (k + 1) i v P hs.2 hi
      rw [show k + (i + 1) = k + 1 + i by omega]
      exact this
def zq_lkok (X : zq_X) (nL pc : Nat) : List (Int × Int) → List (Int32 × zq_P) → Prop
  | (a, o) :: ps, (v, P) :: r => (v.toInt = a ∧ ∃ tgt : Nat, (pc : Int) + o = (tgt : Int) ∧ zq_ok X nL tgt P) ∧ zq_lkok X nL pc ps r
  | [], [] => True
  | _, _ => False
section ZS
variable {X : zq_X} {cc : ByteArray} {nL d pc : Nat} {own : String}
theorem zs_tsw (C : zq_C X cc nL own d) {dflt lo hi : Int} {offs : Array Int} {len tgt : Nat} {cs : List (Int32 × zq_P)} {D0 : zq_P} (hd : decode cc pc = .ok (.tableswitch dflt lo hi offs, len)) (hlen : hi = lo + cs.length - 1) (hcs : zq_tsok X nL pc lo offs 0 cs) (ht : (pc : Int) + dflt = (tgt : Int)) (k : zq_ok X nL tgt D0) : zq_ok X nL pc (zi_sw cs D0) := by
  obtain ⟨p, l, e, R, s, m, args, below, meth, c, D, Y, ad, A, kc, kn, Z⟩ := X
  obtain ⟨hx, hb, hml, hown, hts, hK, hR⟩ := C
  intro ls st h H locs a hP hl hw hD hS
  unfold zi_sw at hP
  split at hP
  · next x st =>
    rcases zq_sw_cases cs hP with ⟨i, P, h1, h2⟩ | ⟨h1, h2⟩
    · obtain ⟨e1, off, tg, e2, e3, e4⟩ := zq_tsok_at cs 0 i x P hcs h1
      have hil := (List.getElem?_eq_some_iff.mp h1).1
      rw [Nat.zero_add] at e1 e2
      refine lv_tableIn hx hb hd (by omega) (by omega) (off := off) (tgt := tg) ?_ e3 (e4 _ _ _ _ _ _ h2 hl hw hD hS)
      rw [show (x.toInt - lo).toNat = i by omega]
      exact e2
    · by_cases hr : x.toInt < lo ∨ hi < x.toInt
      · exact lv_tableOut hx hb hd hr ht (k _ _ _ _ _ _ h2 hl hw hD hS)
      · exfalso
        have hil : (x.toInt - lo).toNat < cs.length := by omega
        obtain ⟨⟨v, P⟩, he⟩ : ∃ q, cs[(x.toInt - lo).toNat]? = some q := ⟨_, List.getElem?_eq_getElem hil⟩
        obtain ⟨e1, -⟩ := zq_tsok_at cs 0 _ v P hcs he
        exact h1 _ v P he (Int32.toInt_inj.mp (by omega))
  · exact hP.elim
theorem zs_lsw (C : zq_C X cc nL own d) {dflt : Int} {ps : Array (Int × Int)} {len tgt : Nat} {cs : List (Int32 × zq_P)} {D0 : zq_P} (hd : decode cc pc = .ok (.lookupswitch dflt ps, len)) (hp : (ps.toList.zip (ps.toList.drop 1)).all (fun (a, next) => a.1 < next.1) = true) (hcs : zq_lkok X nL pc ps.toList cs) (ht : (pc : Int) + dflt = (tgt : Int)) (k : zq_ok X nL tgt D0) : zq_ok X nL pc (zi_sw cs D0) := by
  obtain ⟨p, l, e, R, s, m, args, below, meth, c, D, Y, ad, A, kc, kn, Z⟩ := X
  obtain ⟨hx, hb, hml, hown, hts, hK, hR⟩ := C
  intro ls st h H locs a hP hl hw hD hS
  unfold zi_sw at hP
  split at hP
  · next x st =>
    have key : ∀ (pl : List (Int × Int)) (cs : List (Int32 × zq_P)), zq_lkok (p, l, e, R, s, m, args, below, meth, c, D, Y, ad, A, kc, kn, Z) nL pc pl cs → zq_sw x ls st h D0 cs → Op.lookupswitch.offset ps.toList dflt x.toInt = Op.lookupswitch.offset pl dflt x.toInt → W p l e R s m args below meth c H locs kc kn Z (F0 m pc a (.int x :: st.map (zq_cv ad))) := by
      intro pl
      induction pl with
      | nil =>
        intro cs h1 h2 h3
        cases cs with
        | nil => exact lv_lookup hx hb hd hp h3 ht (k _ _ _ _ _ _ h2 hl hw hD hS)
        | cons q r => exact h1.elim
      | cons q r ih =>
        intro cs h1 h2 h3
        obtain ⟨a9, o9⟩ := q
        cases cs with
        | nil => exact h1.elim
        | cons q2 r2 =>
          obtain ⟨v, P⟩ := q2
          obtain ⟨⟨e1, tg, e2, e3⟩, e4⟩ := h1
          by_cases hxv : x = v
          · refine lv_lookup hx hb hd hp (off := o9) ?_ e2 (e3 _ _ _ _ _ _ (h2.1 hxv) hl hw hD hS)
            rw [h3, Op.lookupswitch.offset_cons, if_pos (by rw [hxv, e1])]
          · exact ih r2 e4 (h2.2 hxv) (h3.trans (lv_osw hxv e1))
    exact key _ cs hcs hP rfl
  · exact hP.elim
end ZS
/-- System.arraycopy of ints, of longs -/
def zi_copyI (p0 n0 p1 n1 : Nat) (K : zq_P) (ls : zq_L) (st : List Value) (h : zq_H) : Prop := match st with
  | .int n :: .int dp :: .ref q1 :: .int sp :: .ref q0 :: st => q0 = p0 ∧ q1 = p1 ∧ (¬ sp < 0 ∧ ¬ dp < 0 ∧ ¬ n < 0 ∧ sp.toNatClampNeg + n.toNatClampNeg ≤ n0 ∧ dp.toNatClampNeg + n.toNatClampNeg ≤ n1) ∧ st.length ≤ 4 ∧ K ls st (fun q i => if q = p1 then va_cpy (h.1 p0) (h.1 p1) sp.toNatClampNeg dp.toNatClampNeg n.toNatClampNeg i else h.1 q i, h.2)
  | _ => False
def zi_copyL (p0 n0 p1 n1 : Nat) (K : zq_P) (ls : zq_L) (st : List Value) (h : zq_H) : Prop := match st with
  | .int n :: .int dp :: .ref q1 :: .int sp :: .ref q0 :: st => q0 = p0 ∧ q1 = p1 ∧ (¬ sp < 0 ∧ ¬ dp < 0 ∧ ¬ n < 0 ∧ sp.toNatClampNeg + n.toNatClampNeg ≤ n0 ∧ dp.toNatClampNeg + n.toNatClampNeg ≤ n1) ∧ st.length ≤ 4 ∧ K ls st (h.1, fun q i => if q = p1 then va_cpy (h.2 p0) (h.2 p1) sp.toNatClampNeg dp.toNatClampNeg n.toNatClampNeg i else h.2 q i)
  | _ => False
section ZS
variable {X : zq_X} {cc : ByteArray} {nL d pc : Nat} {own : String} {K : zq_P}
theorem zs_copyI (C : zq_C X cc nL own d) {p0 n0 p1 n1 ix : Nat} (hp0 : zq_S[p0]? = some (1, n0, [])) (hp1 : zq_S[p1]? = some (1, n1, [])) (h1 : Cond.methodLink own ix arraycopyName ∈ zq_tb) (h2 : Cond.native arraycopyName ∈ zq_tb) (h3 : Cond.static arraycopyName ∈ zq_tb) (h4 : Cond.initialized "java/lang/System" ∈ zq_tb) (hdd : 1 ≤ d) (hd : decode cc pc = .ok (.invokestatic ix, 3)) (k : zq_ok X nL (pc + 3) K) : zq_ok X nL pc (zi_copyI p0 n0 p1 n1 K) := by
  obtain ⟨p, l, e, R, s, m, args, below, meth, c, D, Y, ad, A, kc, kn, Z⟩ := X
  obtain ⟨hx, hb, hml, hown, hts, hK, hR1, hR2, hR3, hR4, hE⟩ := C
  intro ls st h H locs a hP hl hw hD hS
  unfold zi_copyI at hP
  split at hP
  · next n dp q1 sp q0 st =>
    obtain ⟨rfl, rfl, ⟨g1, g2, g3, g4, g5⟩, hlen, hP⟩ := hP
    have h5 := zq_cats (st.map (zq_cv ad))
    rw [List.length_map] at h5
    refine va_copyi hx hb (hml.trans hl.1.symm) hown (hts _ h1) (hts _ h2) (hts _ h3) (hts _ h4) hK hw hD hS q0 q1 0 0 (zq_ws_at hp0) (zq_ws_at hp1) rfl rfl rfl g1 g2 g3 g4 g5 (fun _ _ => rfl) (by omega) ?_ hd (fun H1 locs1 hw1 hD1 hS1 => ?_)
    · rw [show nativeFrameWords "java/lang/System" "arraycopy" 5 = 7 by decide +kernel]
      omega
    · have e9 : (zq_ws Y ad h).set q1 (ad q1, .inl (Y.1, n1, .inl (va_cpy (h.1 q0) (h.1 q1) sp.toNatClampNeg dp.toNatClampNeg n.toNatClampNeg))) = zq_ws Y ad (fun q i => if q = q1 then va_cpy (h.1 q0) (h.1 q1) sp.toNatClampNeg dp.toNatClampNeg n.toNatClampNeg i else h.1 q i, h.2) := by
        refine zq_ws_set hp1 ?_ (fun q hq => ⟨?_, rfl⟩)
        · simp [zq_ent]
        · funext i
          simp [hq]
      exact k _ _ _ _ _ _ hP hl (by rw [← e9]; exact hw1) (by rw [← e9]; exact hD1) hS1
  · exact hP.elim
theorem zs_copyL (C : zq_C X cc nL own d) {p0 n0 p1 n1 ix : Nat} (hp0 : zq_S[p0]? = some (2, n0, [])) (hp1 : zq_S[p1]? = some (2, n1, [])) (h1 : Cond.methodLink own ix arraycopyName ∈ zq_tb) (h2 : Cond.native arraycopyName ∈ zq_tb) (h3 : Cond.static arraycopyName ∈ zq_tb) (h4 : Cond.initialized "java/lang/System" ∈ zq_tb) (hdd : 1 ≤ d) (hd : decode cc pc = .ok (.invokestatic ix, 3)) (k : zq_ok X nL (pc + 3) K) : zq_ok X nL pc (zi_copyL p0 n0 p1 n1 K) := by
  obtain ⟨p, l, e, R, s, m, args, below, meth, c, D, Y, ad, A, kc, kn, Z⟩ := X
  obtain ⟨hx, hb, hml, hown, hts, hK, hR1, hR2, hR3, hR4, hE⟩ := C
  intro ls st h H locs a hP hl hw hD hS
  unfold zi_copyL at hP
  split at hP
  · next n dp q1 sp q0 st =>
    obtain ⟨rfl, rfl, ⟨g1, g2, g3, g4, g5⟩, hlen, hP⟩ := hP
    have h5 := zq_cats (st.map (zq_cv ad))
    rw [List.length_map] at h5
    refine va_copyl hx hb (hml.trans hl.1.symm) hown (hts _ h1) (hts _ h2) (hts _ h3) (hts _ h4) hK hw hD hS q0 q1 1 1 (zq_ws_at hp0) (zq_ws_at hp1) rfl rfl rfl g1 g2 g3 g4 g5 (fun _ _ => rfl) (by omega) ?_ hd (fun H1 locs1 hw1 hD1 hS1 => ?_)
    · rw [show nativeFrameWords "java/lang/System" "arraycopy" 5 = 7 by decide +kernel]
      omega
    · have e9 : (zq_ws Y ad h).set q1 (ad q1, .inl (Y.2.1, n1, .inr (.inl (va_cpy (h.2 q0) (h.2 q1) sp.toNatClampNeg dp.toNatClampNeg n.toNatClampNeg)))) = zq_ws Y ad (h.1, fun q i => if q = q1 then va_cpy (h.2 q0) (h.2 q1) sp.toNatClampNeg dp.toNatClampNeg n.toNatClampNeg i else h.2 q i) := by
        refine zq_ws_set hp1 ?_ (fun q hq => ⟨rfl, ?_⟩)
        · simp [zq_ent]
        · funext i
          simp [hq]
      exact k _ _ _ _ _ _ hP hl (by rw [← e9]; exact hw1) (by rw [← e9]; exact hD1) hS1
  · exact hP.elim
end ZS
/-! Math.max, min, abs of ints -/
def zf_max (x y : Int32) : Int32 := if x < y then y else x
def zf_min (x y : Int32) : Int32 := if y < x then y else x
def zf_abs (x : Int32) : Int32 := if 0 ≤ x then x else 0 - x
def zi_m2 (f : Int32 → Int32 → Int32) (K : zq_P) (ls : zq_L) (st : List Value) (h : zq_H) : Prop := match st with
  | .int y :: .int x :: st => st.length ≤ 4 ∧ K ls (.int (f x y) :: st) h
  | _ => False
def zi_m1 (f : Int32 → Int32) (K : zq_P) (ls : zq_L) (st : List Value) (h : zq_H) : Prop := match st with
  | .int x :: st => st.length ≤ 4 ∧ K ls (.int (f x) :: st) h
  | _ => False
section ZS
variable {X : zq_X} {cc : ByteArray} {nL d pc : Nat} {own : String} {K : zq_P}
theorem zs_mmax (C : zq_C X cc nL own d) {ix : Nat} (hdd : 1 ≤ d) (h1 : Cond.methodLink own ix Lib.Math.max.name ∈ zq_tb) (h2 : Cond.static Lib.Math.max.name ∈ zq_tb) (h3 : Cond.initialized "java/lang/Math" ∈ zq_tb) (h4 : Cond.code Lib.Math.max.name Lib.Math.max.code 2 (some .int) ∈ zq_tb) (hd : decode cc pc = .ok (.invokestatic ix, 3)) (k : zq_ok X nL (pc + 3) K) : zq_ok X nL pc (zi_m2 zf_max K) := by
  obtain ⟨p, l, e, R, s, m, args, below, meth, c, D, Y, ad, A, kc, kn, Z⟩ := X
  obtain ⟨hx, hb, hml, hown, hts, hK, hR1, hR2, hR3, hR4, hE⟩ := C
  intro ls st h H locs a hP hl hw hD hS
  unfold zi_m2 at hP
  split at hP
  · next y x st =>
    have h5 := zq_cats (st.map (zq_cv ad))
    rw [List.length_map] at h5
    have h6 := hP.1
    exact va_mmax hx hb (hml.trans hl.1.symm) hown (hts _ h1) (hts _ h2) (hts _ h3) (hts _ h4) (by omega) (by omega) hR3 hR4 hd (k _ _ _ _ _ _ hP.2 hl hw hD hS)
  · exact hP.elim
theorem zs_mmin (C : zq_C X cc nL own d) {ix : Nat} (hdd : 1 ≤ d) (h1 : Cond.methodLink own ix Lib.Math.min.name ∈ zq_tb) (h2 : Cond.static Lib.Math.min.name ∈ zq_tb) (h3 : Cond.initialized "java/lang/Math" ∈ zq_tb) (h4 : Cond.code Lib.Math.min.name Lib.Math.min.code 2 (some .int) ∈ zq_tb) (hd : decode cc pc = .ok (.invokestatic ix, 3)) (k : zq_ok X nL (pc + 3) K) : zq_ok X nL pc (zi_m2 zf_min K) := by
  obtain ⟨p, l, e, R, s, m, args, below, meth, c, D, Y, ad, A, kc, kn, Z⟩ := X
  obtain ⟨hx, hb, hml, hown, hts, hK, hR1, hR2, hR3, hR4, hE⟩ := C
  intro ls st h H locs a hP hl hw hD hS
  unfold zi_m2 at hP
  split at hP
  · next y x st =>
    have h5 := zq_cats (st.map (zq_cv ad))
    rw [List.length_map] at h5
    have h6 := hP.1
    exact va_mmin hx hb (hml.trans hl.1.symm) hown (hts _ h1) (hts _ h2) (hts _ h3) (hts _ h4) (by omega) (by omega) hR3 hR4 hd (k _ _ _ _ _ _ hP.2 hl hw hD hS)
  · exact hP.elim
theorem zs_mabs (C : zq_C X cc nL own d) {ix : Nat} (hdd : 1 ≤ d) (h1 : Cond.methodLink own ix Lib.Math.abs.name ∈ zq_tb) (h2 : Cond.static Lib.Math.abs.name ∈ zq_tb) (h3 : Cond.initialized "java/lang/Math" ∈ zq_tb) (h4 : Cond.code Lib.Math.abs.name Lib.Math.abs.code 1 (some .int) ∈ zq_tb) (hd : decode cc pc = .ok (.invokestatic ix, 3)) (k : zq_ok X nL (pc + 3) K) : zq_ok X nL pc (zi_m1 zf_abs K) := by
  obtain ⟨p, l, e, R, s, m, args, below, meth, c, D, Y, ad, A, kc, kn, Z⟩ := X
  obtain ⟨hx, hb, hml, hown, hts, hK, hR1, hR2, hR3, hR4, hE⟩ := C
  intro ls st h H locs a hP hl hw hD hS
  unfold zi_m1 at hP
  split at hP
  · next x st =>
    have h5 := zq_cats (st.map (zq_cv ad))
    rw [List.length_map] at h5
    have h6 := hP.1
    exact va_mabs hx hb (hml.trans hl.1.symm) hown (hts _ h1) (hts _ h2) (hts _ h3) (hts _ h4) (by omega) (by omega) hR3 hR4 hd (k _ _ _ _ _ _ hP.2 hl hw hD hS)
  · exact hP.elim
end ZS
