/-! ===== the law's code ===== -/
def zq_Xs (X : zq_X) (L : Nat) (xs : Nat → Int32) : Prop := match X with
  | (_, _, _, _, s, _, _, _, _, _, _, _, ad, A, _, _, _) => va_X (ad 150) L xs s s.heap ∧ ad 150 < s.heap.size ∧ ¬ A (ad 150)
def zi_sld (L : Nat) (xs : Nat → Int32) (K : zq_P) (ls : zq_L) (st : List Value) (h : zq_H) : Prop := match st with
  | .int i :: .ref r :: rest => r = 150 ∧ vp_in i L ∧ K ls (.int (xs i.toNatClampNeg) :: rest) h
  | _ => False
def zi_slen (L : Nat) (K : zq_P) (ls : zq_L) (st : List Value) (h : zq_H) : Prop := match st with
  | .ref r :: rest => r = 150 ∧ K ls (.int (Int32.ofNat L) :: rest) h
  | _ => False
def zi_no : zq_P := fun _ _ _ => False
def zi_callV2 (σ : Nat → Nat) (spec : List Value → zq_H → zq_Q → zq_Q → Prop) (K K2 : zq_P) (ls : zq_L) (st : List Value) (h : zq_H) : Prop := st = [.ref 0] ∧ spec [.ref 0] h (fun r h' => K ls (zq_ps r []) h') (fun r h' => K2 (zxl σ ls) (zq_ps r []) h')
section ZLW
variable {X : zq_X} {cc : ByteArray} {nL d pc L : Nat} {own : String} {xs : Nat → Int32} {K : zq_P}
theorem zs_sld (C : zq_C X cc nL own d) (hX : zq_Xs X L xs) (hd : decode cc pc = .ok (.iaload, 1)) (k : zq_ok X nL (pc + 1) K) : zq_ok X nL pc (zi_sld L xs K) := by
  obtain ⟨p', l, e, R, s, m, args, below, meth, c, D, Y, ad, A, kc, kn, Z⟩ := X
  obtain ⟨hx, hb, hml, hown, hts, hK, hR⟩ := C
  obtain ⟨x1, x2, x3⟩ := hX
  intro ls st h H locs a hP hl hw hD hS
  unfold zi_sld at hP
  split at hP
  · obtain ⟨rfl, hin, hP⟩ := hP
    exact va_sld hx hb x1 x2 x3 hS hin hd (k _ _ _ _ _ _ hP hl hw hD hS)
  · exact hP.elim
theorem zs_slen (C : zq_C X cc nL own d) (hX : zq_Xs X L xs) (hd : decode cc pc = .ok (.arraylength, 1)) (k : zq_ok X nL (pc + 1) K) : zq_ok X nL pc (zi_slen L K) := by
  obtain ⟨p', l, e, R, s, m, args, below, meth, c, D, Y, ad, A, kc, kn, Z⟩ := X
  obtain ⟨hx, hb, hml, hown, hts, hK, hR⟩ := C
  obtain ⟨x1, x2, x3⟩ := hX
  intro ls st h H locs a hP hl hw hD hS
  unfold zi_slen at hP
  split at hP
  · obtain ⟨rfl, hP⟩ := hP
    exact va_slen hx hb x1 x2 x3 hS hd (k _ _ _ _ _ _ hP hl hw hD hS)
  · exact hP.elim
theorem zs_no : zq_ok X nL pc zi_no := by
  obtain ⟨p', l, e, R, s, m, args, below, meth, c, D, Y, ad, A, kc, kn, Z⟩ := X
  intro ls st h H locs a hP
  exact hP.elim
theorem zq_Xs_up (hX : zq_Xs X L xs) : zq_Xs (zq_up X) L xs := by
  obtain ⟨p', l, e, R, s, m, args, below, meth, c, D, Y, ad, A, kc, kn, Z⟩ := X
  exact hX
theorem zs_callV2 {σ : Nat → Nat} (hσ : zxok σ) (C : zq_C X cc nL own d) {ix maxL d1 N ci : Nat} {kd : List Nat} {T : u_T} {y : MethodName} {bytes : ByteArray} {spec : List Value → zq_H → zq_Q → zq_Q → Prop} {K2 : zq_P} (hM : zq_M2 σ y bytes maxL (some .int) d1 spec) (hdd : d1 + 1 ≤ d) (hy : zq_y y bytes maxL (some .int) 0) (hp : zq_S[0]? = some (0, ci, kd)) (hc : vwCl[ci]? = some (y.cls, T, N)) (h1 : Cond.methodLink own ix y ∈ zq_tb) (h2 : Cond.instanceMethod y ∈ zq_tb) (h3 : Cond.selects y.cls y y ∈ zq_tb)
    (hd : decode cc pc = .ok (.invokevirtual ix, 3)) (k : zq_ok X nL (pc + 3) K) (k2 : zq_ok (zxX σ X) nL (pc + 3) K2) : zq_ok X nL pc (zi_callV2 σ spec K K2) := by
  obtain ⟨p', l, e, R, s, m, args, below, meth, c, D, Y, ad, A, kc, kn, Z⟩ := X
  obtain ⟨hx, hb, hml, hown, hts, hK, hR1, hR2, hR3, hR4, hE⟩ := C
  intro ls st h H locs a hP hl hw hD hS
  obtain ⟨rfl, hsp⟩ := hP
  have hAA := zq_AA hD
  have hr := va_runV (e := e) (below := below) (meth := meth) (locs := locs) (As := []) (rest := []) (cells := kc) (slots := kn) (g := F0 m pc a [Value.ref (ad 0)]) ⟨hx, hb, hml, hown, hts⟩ (hM l D Y ad _ h _ _ hsp) (cwV 0 hts (zq_goodV hy h1 h2 h3 hy.2.1) rfl rfl rfl ⟨rfl, hy.2.2.1⟩ ⟨(show d1 + 1 ≤ R.frames by omega), (show 8 + (maxL + 11) + 64 * d1 ≤ R.locals by have := hy.2.2.2; omega)⟩) ⟨zq_blind, va_recv hK hw hc (zq_ws_at hp), fun U hU hW => ⟨rfl, ⟨by rw [hU]; exact hw, va_K.moved hW.alike hK, hD.weaken (fun _ _ _ _ => trivial)⟩, zq_E_call hE hS (zq_AA hD) hU hW⟩⟩ rfl rfl hl.1 rfl (lv_room (Nat.zero_le _)) hd ⟨hR3, hR4⟩
  have hr2 : va_Run p' l e R s m args below meth c H locs kc kn 0 0 (F0 m pc a [Value.ref (ad 0)]) [] (va_Qi (fun (r : Int32) (u : zq_H × Bool) => (u.2 = false ∧ K ls (zq_ps (some (.int r)) []) u.1) ∨ (u.2 = true ∧ K2 (zxl σ ls) (zq_ps (some (.int r)) []) u.1)) (fun (u : zq_H × Bool) (t : State) => (u.2 = false ∧ zq_B D Y ad (zq_A ad) u.1 t) ∨ (u.2 = true ∧ zq_B D Y (fun i => ad (σ i)) (zq_A ad) u.1 t)) (zq_A ad) #[]) (zq_A ad) := by
    intro T9 hT9 hX9
    obtain ⟨v, st₀, t, T', L9, e0, e1, e2, e3, e4, e5, e6⟩ := hr T9 hT9 hX9
    refine ⟨v, st₀, t, T', L9, e0, e1, e2, e3, e4, ?_, e6⟩
    rcases e5 with ⟨⟨r, u, y1, y2, y3⟩, y4⟩ | ⟨⟨r, u, y1, y2, y3⟩, y4⟩
    · exact ⟨⟨r, (u, false), y1, Or.inl ⟨rfl, y2⟩, Or.inl ⟨rfl, y3⟩⟩, y4⟩
    · rw [zxAA hσ] at y3 y4
      exact ⟨⟨r, (u, true), y1, Or.inr ⟨rfl, y2⟩, Or.inr ⟨rfl, y3⟩⟩, y4⟩
  refine va_calli (a := #[]) hr2 hS (fun q _ h => hAA q h) hAA (fun r u t H1 locs1 ht _ hp9 hB _ _ hS1 => ?_)
  obtain ⟨u, f⟩ := u
  cases f with
  | false =>
    have hp9 := hp9.elim (fun z => z.2) (fun z => by cases z.1)
    have hB := hB.elim (fun z => z.2) (fun z => by cases z.1)
    obtain ⟨hP1, hK1, hD1⟩ := hB
    rw [ht] at hP1
    exact k _ _ _ _ _ _ hp9 hl hP1 (hD1.weaken fun _ q _ hq => hAA _ hq) hS1
  | true =>
    have hp9 := hp9.elim (fun z => by cases z.1) (fun z => z.2)
    have hB := hB.elim (fun z => by cases z.1) (fun z => z.2)
    obtain ⟨hP1, hK1, hD1⟩ := hB
    rw [ht] at hP1
    have k3 := k2 (zxl σ ls) _ u H1 locs1 a hp9 (zxl_lr hσ hl) hP1 (hD1.weaken fun _ q _ hq => hAA _ hq) hS1
    exact k3
end ZLW
