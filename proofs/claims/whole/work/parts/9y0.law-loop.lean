/-! ===== the law's loop ===== -/
/-- the law's worlds: the addresses of the loaf's and the rule's cells may have changed places; each throw has made one object -/
def zlX (p : Program) (l : Launch) (e : Env) (s : State) (m : MethodId) (below : List Frame) (meth : Method) (c : Code) (D : va_G) (Y : zq_Y) (b : Nat) (ad : Nat → Nat) (kc kn : Nat) : zq_X := (p, l, e, room_1, s, m, #[Value.ref b], below, meth, c, D, Y, ad, fun q => s.heap.size ≤ q, kc, kn, lw_Z below #[Value.ref b] s)
section ZLL
variable {p : Program} {l : Launch} {e : Env} {s : State} {m : MethodId} {below : List Frame} {meth : Method} {c : Code} {D : va_G} {Y : zq_Y} {b L : Nat} {xs : Nat → Int32} {ad : Nat → Nat} {kc kn : Nat}
theorem law_end (C : zq_C (zlX p l e s m below meth c D Y b ad kc kn) cL_law 8 RL 1300) (hr : meth.sig.returnType = ret) (hlk : meth.locks = false) : zq_ok (zlX p l e s m below meth c D Y b ad kc kn) 8 1544 zlE := by
  refine zq_ok.mono (P := zi_push (.int 1) (fun _ st _ => st = [.int 1])) (fun ls st h k => by rw [show st = [] from k]; rfl) (zs_iconst C dL_law_1544 (by decide) ?_)
  obtain ⟨hx, hb, hml, hown, hts, hK, hR1, hR2, hk, hn, hE⟩ := C
  intro ls st h H locs a hP hl hw hD hS
  obtain rfl : st = [.int 1] := hP
  exact va_forget hS.2.2 (W.widen hk hn (lw_ret hx hb hr hlk dL_law_1545))
theorem zlX_T (hfl : l.stackTraces = false) (hT : zq_T (fun q => s.heap.size ≤ q) s s.heap) (h1 : kc + 1 ≤ room_1.cells) (h2 : kn + 6 ≤ room_1.slots) : zq_TX (zlX p l e s m below meth c D Y b ad kc kn) := ⟨hfl, hT, h1, h2⟩
theorem zlX_A (h : zq_Xs (zlX p l e s m below meth c D Y b ad kc kn) L xs) : zq_Xs (zlX p l e s m below meth c D Y b (fun k => ad (zxA k)) kc kn) L xs := by
  unfold zlX zq_Xs at *
  dsimp only at *
  rw [show zxA 150 = 150 by decide]
  exact h
theorem zlX_B (h : zq_Xs (zlX p l e s m below meth c D Y b ad kc kn) L xs) : zq_Xs (zlX p l e s m below meth c D Y b (fun k => ad (zxB k)) kc kn) L xs := by
  unfold zlX zq_Xs at *
  dsimp only at *
  rw [show zxB 150 = 150 by decide]
  exact h
theorem zlX_up (h : zq_Xs (zlX p l e s m below meth c D Y b ad kc kn) L xs) : zq_Xs (zlX p l e s m below meth c D Y b ad (kc + 1) (kn + 6)) L xs := h
theorem zlX_xA : zxX zxA (zlX p l e s m below meth c D Y b ad kc kn) = zlX p l e s m below meth c D Y b (fun k => ad (zxA k)) kc kn := rfl
theorem zlX_xB : zxX zxB (zlX p l e s m below meth c D Y b ad kc kn) = zlX p l e s m below meth c D Y b (fun k => ad (zxB k)) kc kn := rfl
theorem zlX_xU : zq_up (zlX p l e s m below meth c D Y b ad kc kn) = zlX p l e s m below meth c D Y b ad (kc + 1) (kn + 6) := rfl
theorem zlX_c {i : Nat} (h : kc ≤ 1000 + i) (hi : i ≤ 513) : kc + 1 ≤ room_1.cells := Nat.le_trans (Nat.succ_le_succ (Nat.le_trans h (Nat.add_le_add_left hi 1000))) (Nat.le_of_ble_eq_true rfl)
theorem zlX_n {i : Nat} (h : kn ≤ 10000 + 6 * i) (hi : i ≤ 513) : kn + 6 ≤ room_1.slots := Nat.le_trans (show kn + 6 ≤ 13084 by omega) (Nat.le_of_ble_eq_true rfl)
theorem law_loop (hfl : l.stackTraces = false) (hT : zq_T (fun q => s.heap.size ≤ q) s s.heap) (hL : L ≤ 2560) (hr : meth.sig.returnType = ret) (hlk : meth.locks = false) :
    ∀ (n i : Nat), i + n = 513 → ∀ (ad : Nat → Nat) (kc kn : Nat), zq_C (zlX p l e s m below meth c D Y b ad kc kn) cL_law 8 RL 1300 → zq_Xs (zlX p l e s m below meth c D Y b ad kc kn) L xs → kc ≤ 1000 + i → kn ≤ 10000 + 6 * i → zq_ok (zlX p l e s m below meth c D Y b ad kc kn) 8 23 (I_law i) := by
  intro n
  induction n with
  | zero =>
    intro i hi ad kc kn C hX h1 h2
    have hi2 : i ≤ 513 := by omega
    exact law_step C (Nat.le_refl _) hX (zlX_T hfl hT (zlX_c h1 hi2) (zlX_n h2 hi2)) hL hi2 (law_end C hr hlk) (fun z => absurd z (by omega))
  | succ n ih =>
    intro i hi ad kc kn C hX h1 h2
    have hi2 : i ≤ 513 := by omega
    have hTX := zlX_T (p := p) (e := e) (m := m) (below := below) (meth := meth) (c := c) (D := D) (Y := Y) (b := b) (ad := ad) hfl hT (zlX_c h1 hi2) (zlX_n h2 hi2)
    refine law_step C (Nat.le_refl _) hX hTX hL hi2 (law_end C hr hlk) (fun z => ⟨?_, ?_, ?_, ?_⟩)
    · exact ih (i + 1) (by omega) ad kc kn C hX (by omega) (by omega)
    · rw [zlX_xA]
      exact ih (i + 1) (by omega) _ kc kn (zlX_xA ▸ zxC zxA_ok C) (zlX_A hX) (by omega) (by omega)
    · rw [zlX_xB]
      exact ih (i + 1) (by omega) _ kc kn (zlX_xB ▸ zxC zxB_ok C) (zlX_B hX) (by omega) (by omega)
    · rw [zlX_xU]
      exact ih (i + 1) (by omega) ad (kc + 1) (kn + 6) (zlX_xU ▸ zq_C_up C hTX) (zlX_up hX) (by omega) (by omega)
end ZLL
