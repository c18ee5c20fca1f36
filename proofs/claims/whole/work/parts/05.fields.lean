section ZS
variable {X : zq_X} {cc : ByteArray} {nL d pc : Nat} {own : String} {K J : zq_P}
/-- what the tables say of the fields of a thing's kind -/
def zq_F (ci : Nat) (C : String) (T : u_T) (N : Nat) : Prop := vwCl[ci]? = some (C, T, N) ∧ (∀ w ∈ u_ws C T N, w ∈ zq_tb) ∧ (∃ ty : Nat → FieldType, ∀ k, k < N → parseFieldDescriptor (T k).2.2.1 = some (ty k)) ∧ (∀ a, a < N → ∀ b, b < N → a ≠ b → (T a).2.1 ≠ (T b).2.1) ∧ ∀ k, k < N → (T k).1 = C
theorem zs_getI (C0 : zq_C X cc nL own d) {p j ci N ix : Nat} {kd : List Nat} {C : String} {T : u_T} (hp : zq_S[p]? = some (0, ci, kd)) (hF : zq_F ci C T N) (hj : j < N ∧ kd[j]? = some (0)) (hlink : Cond.fieldLink own ix C (T j).2.1 (T j).2.2.1 ∈ zq_tb) (hd : decode cc pc = .ok (.getfield ix, 3)) (k : zq_ok X nL (pc + 3) K) : zq_ok X nL pc (zi_getI p j K) := by
  obtain ⟨p', l, e, R, s, m, args, below, meth, c, D, Y, ad, A, kc, kn, Z⟩ := X
  obtain ⟨hx, hb, hml, hown, hts, hK, hR⟩ := C0
  intro ls st h H locs a hP hl hw hD hS
  obtain ⟨hc, hin, ⟨ty, hty⟩, hnm, ho⟩ := hF
  unfold zi_getI at hP
  split at hP
  · obtain ⟨rfl, hP⟩ := hP
    exact va_get hx hb hts hin hown hK hw _ (zq_ws_at hp) hc j hj.1 (hts _ hlink) (fun x9 h9 => by rw [ho j hj.1] at h9; exact h9) (zq_fs_at hj.2) hd (k _ _ _ _ _ _ hP hl hw hD hS)
  · exact hP.elim
theorem zs_getIN (C0 : zq_C X cc nL own d) {p j ci N ix : Nat} {kd : List Nat} {C host : String} {T : u_T} (hp : zq_S[p]? = some (0, ci, kd)) (hF : zq_F ci C T N) (hj : j < N ∧ kd[j]? = some (0)) (hlink : Cond.fieldLinkNest own ix C (T j).2.1 (T j).2.2.1 host ∈ zq_nw) (hd : decode cc pc = .ok (.getfield ix, 3)) (k : zq_ok X nL (pc + 3) K) : zq_ok X nL pc (zi_getI p j K) := by
  obtain ⟨p', l, e, R, s, m, args, below, meth, c, D, Y, ad, A, kc, kn, Z⟩ := X
  obtain ⟨hx, hb, hml, hown, hts, hK, hR⟩ := C0
  intro ls st h H locs a hP hl hw hD hS
  obtain ⟨hc, hin, ⟨ty, hty⟩, hnm, ho⟩ := hF
  unfold zi_getI at hP
  split at hP
  · obtain ⟨rfl, hP⟩ := hP
    exact va_getN hx hb hts hin hown hK hw _ (zq_ws_at hp) hc j hj.1 (va_Nw.use rfl (hR.2.2.2.2.2.2.2.1 _ hlink)) (fun x9 h9 => by rw [ho j hj.1] at h9; exact h9) (zq_fs_at hj.2) hd (k _ _ _ _ _ _ hP hl hw hD hS)
  · exact hP.elim
theorem zs_getL (C0 : zq_C X cc nL own d) {p j ci N ix : Nat} {kd : List Nat} {C : String} {T : u_T} (hp : zq_S[p]? = some (0, ci, kd)) (hF : zq_F ci C T N) (hj : j < N ∧ kd[j]? = some (1)) (hlink : Cond.fieldLink own ix C (T j).2.1 (T j).2.2.1 ∈ zq_tb) (hd : decode cc pc = .ok (.getfield ix, 3)) (k : zq_ok X nL (pc + 3) K) : zq_ok X nL pc (zi_getL p j K) := by
  obtain ⟨p', l, e, R, s, m, args, below, meth, c, D, Y, ad, A, kc, kn, Z⟩ := X
  obtain ⟨hx, hb, hml, hown, hts, hK, hR⟩ := C0
  intro ls st h H locs a hP hl hw hD hS
  obtain ⟨hc, hin, ⟨ty, hty⟩, hnm, ho⟩ := hF
  unfold zi_getL at hP
  split at hP
  · obtain ⟨rfl, hP⟩ := hP
    exact va_get hx hb hts hin hown hK hw _ (zq_ws_at hp) hc j hj.1 (hts _ hlink) (fun x9 h9 => by rw [ho j hj.1] at h9; exact h9) (zq_fs_at hj.2) hd (k _ _ _ _ _ _ hP hl hw hD hS)
  · exact hP.elim
theorem zs_getLN (C0 : zq_C X cc nL own d) {p j ci N ix : Nat} {kd : List Nat} {C host : String} {T : u_T} (hp : zq_S[p]? = some (0, ci, kd)) (hF : zq_F ci C T N) (hj : j < N ∧ kd[j]? = some (1)) (hlink : Cond.fieldLinkNest own ix C (T j).2.1 (T j).2.2.1 host ∈ zq_nw) (hd : decode cc pc = .ok (.getfield ix, 3)) (k : zq_ok X nL (pc + 3) K) : zq_ok X nL pc (zi_getL p j K) := by
  obtain ⟨p', l, e, R, s, m, args, below, meth, c, D, Y, ad, A, kc, kn, Z⟩ := X
  obtain ⟨hx, hb, hml, hown, hts, hK, hR⟩ := C0
  intro ls st h H locs a hP hl hw hD hS
  obtain ⟨hc, hin, ⟨ty, hty⟩, hnm, ho⟩ := hF
  unfold zi_getL at hP
  split at hP
  · obtain ⟨rfl, hP⟩ := hP
    exact va_getN hx hb hts hin hown hK hw _ (zq_ws_at hp) hc j hj.1 (va_Nw.use rfl (hR.2.2.2.2.2.2.2.1 _ hlink)) (fun x9 h9 => by rw [ho j hj.1] at h9; exact h9) (zq_fs_at hj.2) hd (k _ _ _ _ _ _ hP hl hw hD hS)
  · exact hP.elim
theorem zs_getR (C0 : zq_C X cc nL own d) {p j ci N ix r : Nat} {kd : List Nat} {C : String} {T : u_T} (hp : zq_S[p]? = some (0, ci, kd)) (hF : zq_F ci C T N) (hj : j < N ∧ kd[j]? = some (r + 2)) (hlink : Cond.fieldLink own ix C (T j).2.1 (T j).2.2.1 ∈ zq_tb) (hd : decode cc pc = .ok (.getfield ix, 3)) (k : zq_ok X nL (pc + 3) K) : zq_ok X nL pc (zi_getR p r K) := by
  obtain ⟨p', l, e, R, s, m, args, below, meth, c, D, Y, ad, A, kc, kn, Z⟩ := X
  obtain ⟨hx, hb, hml, hown, hts, hK, hR⟩ := C0
  intro ls st h H locs a hP hl hw hD hS
  obtain ⟨hc, hin, ⟨ty, hty⟩, hnm, ho⟩ := hF
  unfold zi_getR at hP
  split at hP
  · obtain ⟨rfl, hP⟩ := hP
    exact va_get hx hb hts hin hown hK hw _ (zq_ws_at hp) hc j hj.1 (hts _ hlink) (fun x9 h9 => by rw [ho j hj.1] at h9; exact h9) (zq_fs_at hj.2) hd (k _ _ _ _ _ _ hP hl hw hD hS)
  · exact hP.elim
theorem zs_getRN (C0 : zq_C X cc nL own d) {p j ci N ix r : Nat} {kd : List Nat} {C host : String} {T : u_T} (hp : zq_S[p]? = some (0, ci, kd)) (hF : zq_F ci C T N) (hj : j < N ∧ kd[j]? = some (r + 2)) (hlink : Cond.fieldLinkNest own ix C (T j).2.1 (T j).2.2.1 host ∈ zq_nw) (hd : decode cc pc = .ok (.getfield ix, 3)) (k : zq_ok X nL (pc + 3) K) : zq_ok X nL pc (zi_getR p r K) := by
  obtain ⟨p', l, e, R, s, m, args, below, meth, c, D, Y, ad, A, kc, kn, Z⟩ := X
  obtain ⟨hx, hb, hml, hown, hts, hK, hR⟩ := C0
  intro ls st h H locs a hP hl hw hD hS
  obtain ⟨hc, hin, ⟨ty, hty⟩, hnm, ho⟩ := hF
  unfold zi_getR at hP
  split at hP
  · obtain ⟨rfl, hP⟩ := hP
    exact va_getN hx hb hts hin hown hK hw _ (zq_ws_at hp) hc j hj.1 (va_Nw.use rfl (hR.2.2.2.2.2.2.2.1 _ hlink)) (fun x9 h9 => by rw [ho j hj.1] at h9; exact h9) (zq_fs_at hj.2) hd (k _ _ _ _ _ _ hP hl hw hD hS)
  · exact hP.elim
theorem zs_putI (C0 : zq_C X cc nL own d) {p j ci N ix : Nat} {kd : List Nat} {C : String} {T : u_T} (hp : zq_S[p]? = some (0, ci, kd)) (hF : zq_F ci C T N) (hj : j < N ∧ kd[j]? = some 0) (hfin : (T j).2.2.2 = false ∧ parseFieldDescriptor (T j).2.2.1 = some .int) (hlink : Cond.fieldLink own ix C (T j).2.1 (T j).2.2.1 ∈ zq_tb) (hd : decode cc pc = .ok (.putfield ix, 3)) (k : zq_ok X nL (pc + 3) K) : zq_ok X nL pc (zi_putI p j K) := by
  obtain ⟨p', l, e, R, s, m, args, below, meth, c, D, Y, ad, A, kc, kn, Z⟩ := X
  obtain ⟨hx, hb, hml, hown, hts, hK, hR⟩ := C0
  intro ls st h H locs a hP hl hw hD hS
  obtain ⟨hc, hin, ⟨ty, hty⟩, hnm, ho⟩ := hF
  unfold zi_putI at hP
  split at hP
  · next x q st9 =>
    obtain ⟨rfl, hP⟩ := hP
    refine va_put hx hb hts hin ty hty hnm hown hK hw hD hS _ (zq_ws_at hp) hc j hj.1 (hts _ hlink) (fun x9 h9 => by rw [ho j hj.1] at h9; exact h9) hfin.1 hfin.2 rfl rfl (by simpa [zq_fs] using (List.getElem?_eq_some_iff.mp hj.2).1) hd (fun H1 locs1 hw1 hD1 hS1 => ?_)
    have e9 := zq_ws_putI (Y := Y) (ad := ad) (h := h) hp hj.2 x
    exact k _ _ _ _ _ _ hP hl (by rw [← e9]; exact hw1) (by rw [← e9]; exact hD1) hS1
  · exact hP.elim
theorem zs_putIN (C0 : zq_C X cc nL own d) {p j ci N ix : Nat} {kd : List Nat} {C host : String} {T : u_T} (hp : zq_S[p]? = some (0, ci, kd)) (hF : zq_F ci C T N) (hj : j < N ∧ kd[j]? = some 0) (hfin : (T j).2.2.2 = false ∧ parseFieldDescriptor (T j).2.2.1 = some .int) (hlink : Cond.fieldLinkNest own ix C (T j).2.1 (T j).2.2.1 host ∈ zq_nw) (hd : decode cc pc = .ok (.putfield ix, 3)) (k : zq_ok X nL (pc + 3) K) : zq_ok X nL pc (zi_putI p j K) := by
  obtain ⟨p', l, e, R, s, m, args, below, meth, c, D, Y, ad, A, kc, kn, Z⟩ := X
  obtain ⟨hx, hb, hml, hown, hts, hK, hR⟩ := C0
  intro ls st h H locs a hP hl hw hD hS
  obtain ⟨hc, hin, ⟨ty, hty⟩, hnm, ho⟩ := hF
  unfold zi_putI at hP
  split at hP
  · next x q st9 =>
    obtain ⟨rfl, hP⟩ := hP
    refine va_putN hx hb hts hin ty hty hnm hown hK hw hD hS _ (zq_ws_at hp) hc j hj.1 (va_Nw.use rfl (hR.2.2.2.2.2.2.2.1 _ hlink)) (fun x9 h9 => by rw [ho j hj.1] at h9; exact h9) hfin.1 hfin.2 rfl rfl (by simpa [zq_fs] using (List.getElem?_eq_some_iff.mp hj.2).1) hd (fun H1 locs1 hw1 hD1 hS1 => ?_)
    have e9 := zq_ws_putI (Y := Y) (ad := ad) (h := h) hp hj.2 x
    exact k _ _ _ _ _ _ hP hl (by rw [← e9]; exact hw1) (by rw [← e9]; exact hD1) hS1
  · exact hP.elim
theorem zs_putZ (C0 : zq_C X cc nL own d) {p j ci N ix : Nat} {kd : List Nat} {C : String} {T : u_T} (hp : zq_S[p]? = some (0, ci, kd)) (hF : zq_F ci C T N) (hj : j < N ∧ kd[j]? = some 0) (hfin : (T j).2.2.2 = false ∧ parseFieldDescriptor (T j).2.2.1 = some .boolean) (hlink : Cond.fieldLink own ix C (T j).2.1 (T j).2.2.1 ∈ zq_tb) (hd : decode cc pc = .ok (.putfield ix, 3)) (k : zq_ok X nL (pc + 3) K) : zq_ok X nL pc (zi_putZ p j K) := by
  obtain ⟨p', l, e, R, s, m, args, below, meth, c, D, Y, ad, A, kc, kn, Z⟩ := X
  obtain ⟨hx, hb, hml, hown, hts, hK, hR⟩ := C0
  intro ls st h H locs a hP hl hw hD hS
  obtain ⟨hc, hin, ⟨ty, hty⟩, hnm, ho⟩ := hF
  unfold zi_putZ at hP
  split at hP
  · next x q st9 =>
    obtain ⟨rfl, h01, hP⟩ := hP
    refine va_put hx hb hts hin ty hty hnm hown hK hw hD hS _ (zq_ws_at hp) hc j hj.1 (hts _ hlink) (fun x9 h9 => by rw [ho j hj.1] at h9; exact h9) hfin.1 hfin.2 (by rcases h01 with rfl | rfl <;> rfl) (by rcases h01 with rfl | rfl <;> rfl) (by simpa [zq_fs] using (List.getElem?_eq_some_iff.mp hj.2).1) hd (fun H1 locs1 hw1 hD1 hS1 => ?_)
    have e9 := zq_ws_putI (Y := Y) (ad := ad) (h := h) hp hj.2 x
    exact k _ _ _ _ _ _ hP hl (by rw [← e9]; exact hw1) (by rw [← e9]; exact hD1) hS1
  · exact hP.elim
theorem zs_putZN (C0 : zq_C X cc nL own d) {p j ci N ix : Nat} {kd : List Nat} {C host : String} {T : u_T} (hp : zq_S[p]? = some (0, ci, kd)) (hF : zq_F ci C T N) (hj : j < N ∧ kd[j]? = some 0) (hfin : (T j).2.2.2 = false ∧ parseFieldDescriptor (T j).2.2.1 = some .boolean) (hlink : Cond.fieldLinkNest own ix C (T j).2.1 (T j).2.2.1 host ∈ zq_nw) (hd : decode cc pc = .ok (.putfield ix, 3)) (k : zq_ok X nL (pc + 3) K) : zq_ok X nL pc (zi_putZ p j K) := by
  obtain ⟨p', l, e, R, s, m, args, below, meth, c, D, Y, ad, A, kc, kn, Z⟩ := X
  obtain ⟨hx, hb, hml, hown, hts, hK, hR⟩ := C0
  intro ls st h H locs a hP hl hw hD hS
  obtain ⟨hc, hin, ⟨ty, hty⟩, hnm, ho⟩ := hF
  unfold zi_putZ at hP
  split at hP
  · next x q st9 =>
    obtain ⟨rfl, h01, hP⟩ := hP
    refine va_putN hx hb hts hin ty hty hnm hown hK hw hD hS _ (zq_ws_at hp) hc j hj.1 (va_Nw.use rfl (hR.2.2.2.2.2.2.2.1 _ hlink)) (fun x9 h9 => by rw [ho j hj.1] at h9; exact h9) hfin.1 hfin.2 (by rcases h01 with rfl | rfl <;> rfl) (by rcases h01 with rfl | rfl <;> rfl) (by simpa [zq_fs] using (List.getElem?_eq_some_iff.mp hj.2).1) hd (fun H1 locs1 hw1 hD1 hS1 => ?_)
    have e9 := zq_ws_putI (Y := Y) (ad := ad) (h := h) hp hj.2 x
    exact k _ _ _ _ _ _ hP hl (by rw [← e9]; exact hw1) (by rw [← e9]; exact hD1) hS1
  · exact hP.elim
theorem zs_putL (C0 : zq_C X cc nL own d) {p j ci N ix : Nat} {kd : List Nat} {C : String} {T : u_T} (hp : zq_S[p]? = some (0, ci, kd)) (hF : zq_F ci C T N) (hj : j < N ∧ kd[j]? = some 1) (hfin : (T j).2.2.2 = false ∧ parseFieldDescriptor (T j).2.2.1 = some .long) (hlink : Cond.fieldLink own ix C (T j).2.1 (T j).2.2.1 ∈ zq_tb) (hd : decode cc pc = .ok (.putfield ix, 3)) (k : zq_ok X nL (pc + 3) K) : zq_ok X nL pc (zi_putL p j K) := by
  obtain ⟨p', l, e, R, s, m, args, below, meth, c, D, Y, ad, A, kc, kn, Z⟩ := X
  obtain ⟨hx, hb, hml, hown, hts, hK, hR⟩ := C0
  intro ls st h H locs a hP hl hw hD hS
  obtain ⟨hc, hin, ⟨ty, hty⟩, hnm, ho⟩ := hF
  unfold zi_putL at hP
  split at hP
  · next x q st9 =>
    obtain ⟨rfl, hP⟩ := hP
    refine va_put hx hb hts hin ty hty hnm hown hK hw hD hS _ (zq_ws_at hp) hc j hj.1 (hts _ hlink) (fun x9 h9 => by rw [ho j hj.1] at h9; exact h9) hfin.1 hfin.2 rfl rfl (by simpa [zq_fs] using (List.getElem?_eq_some_iff.mp hj.2).1) hd (fun H1 locs1 hw1 hD1 hS1 => ?_)
    have e9 := zq_ws_putL (Y := Y) (ad := ad) (h := h) hp hj.2 x
    exact k _ _ _ _ _ _ hP hl (by rw [← e9]; exact hw1) (by rw [← e9]; exact hD1) hS1
  · exact hP.elim
theorem zs_putLN (C0 : zq_C X cc nL own d) {p j ci N ix : Nat} {kd : List Nat} {C host : String} {T : u_T} (hp : zq_S[p]? = some (0, ci, kd)) (hF : zq_F ci C T N) (hj : j < N ∧ kd[j]? = some 1) (hfin : (T j).2.2.2 = false ∧ parseFieldDescriptor (T j).2.2.1 = some .long) (hlink : Cond.fieldLinkNest own ix C (T j).2.1 (T j).2.2.1 host ∈ zq_nw) (hd : decode cc pc = .ok (.putfield ix, 3)) (k : zq_ok X nL (pc + 3) K) : zq_ok X nL pc (zi_putL p j K) := by
  obtain ⟨p', l, e, R, s, m, args, below, meth, c, D, Y, ad, A, kc, kn, Z⟩ := X
  obtain ⟨hx, hb, hml, hown, hts, hK, hR⟩ := C0
  intro ls st h H locs a hP hl hw hD hS
  obtain ⟨hc, hin, ⟨ty, hty⟩, hnm, ho⟩ := hF
  unfold zi_putL at hP
  split at hP
  · next x q st9 =>
    obtain ⟨rfl, hP⟩ := hP
    refine va_putN hx hb hts hin ty hty hnm hown hK hw hD hS _ (zq_ws_at hp) hc j hj.1 (va_Nw.use rfl (hR.2.2.2.2.2.2.2.1 _ hlink)) (fun x9 h9 => by rw [ho j hj.1] at h9; exact h9) hfin.1 hfin.2 rfl rfl (by simpa [zq_fs] using (List.getElem?_eq_some_iff.mp hj.2).1) hd (fun H1 locs1 hw1 hD1 hS1 => ?_)
    have e9 := zq_ws_putL (Y := Y) (ad := ad) (h := h) hp hj.2 x
    exact k _ _ _ _ _ _ hP hl (by rw [← e9]; exact hw1) (by rw [← e9]; exact hD1) hS1
  · exact hP.elim
theorem zs_iret (C : zq_C X cc nL own d) {Q : zq_Q} (hq : zq_R X (some .int) 1 Q) (hd : decode cc pc = .ok (.ireturn, 1)) : zq_ok X nL pc (zi_iret Q) := by
  obtain ⟨p', l, e, R, s, m, args, below, meth, c, D, Y, ad, A, kc, kn, Z⟩ := X
  obtain ⟨hx, hb, hml, hown, hts, hK, hR⟩ := C
  intro ls st h H locs a hP hl hw hD hS
  obtain ⟨hlk, hrt, free, Qc, hZ, hfr, hqc⟩ := hq
  subst hZ
  unfold zi_iret at hP
  split at hP
  · exact W.iret hx hb hrt (fun t ht hW => hqc _ h t trivial hP (by rw [ht]; exact hw) hD (hS.F ht) hW) (fun q hq => hfr _ (hS.2.2 q hq)) hd hlk
  · exact hP.elim
theorem zs_zret (C : zq_C X cc nL own d) {Q : zq_Q} (hq : zq_R X (some .boolean) 1 Q) (hd : decode cc pc = .ok (.ireturn, 1)) : zq_ok X nL pc (zi_zret Q) := by
  obtain ⟨p', l, e, R, s, m, args, below, meth, c, D, Y, ad, A, kc, kn, Z⟩ := X
  obtain ⟨hx, hb, hml, hown, hts, hK, hR⟩ := C
  intro ls st h H locs a hP hl hw hD hS
  obtain ⟨hlk, hrt, free, Qc, hZ, hfr, hqc⟩ := hq
  subst hZ
  unfold zi_zret at hP
  split at hP
  · exact W.zret hx hb hrt (by rcases hP.1 with rfl | rfl <;> rfl) (fun t ht hW => hqc _ h t trivial hP.2 (by rw [ht]; exact hw) hD (hS.F ht) hW) (fun q hq => hfr _ (hS.2.2 q hq)) hd hlk
  · exact hP.elim
theorem zs_lret (C : zq_C X cc nL own d) {Q : zq_Q} (hq : zq_R X (some .long) 2 Q) (hd : decode cc pc = .ok (.lreturn, 1)) : zq_ok X nL pc (zi_lret Q) := by
  obtain ⟨p', l, e, R, s, m, args, below, meth, c, D, Y, ad, A, kc, kn, Z⟩ := X
  obtain ⟨hx, hb, hml, hown, hts, hK, hR⟩ := C
  intro ls st h H locs a hP hl hw hD hS
  obtain ⟨hlk, hrt, free, Qc, hZ, hfr, hqc⟩ := hq
  subst hZ
  unfold zi_lret at hP
  split at hP
  · exact W.lret hx hb hrt (fun t ht hW => hqc _ h t trivial hP (by rw [ht]; exact hw) hD (hS.F ht) hW) (fun q hq => hfr _ (hS.2.2 q hq)) hd hlk
  · exact hP.elim
theorem zs_vret (C : zq_C X cc nL own d) {Q : zq_Q} (hq : zq_R X (none) 0 Q) (hd : decode cc pc = .ok (.return_, 1)) : zq_ok X nL pc (zi_vret Q) := by
  obtain ⟨p', l, e, R, s, m, args, below, meth, c, D, Y, ad, A, kc, kn, Z⟩ := X
  obtain ⟨hx, hb, hml, hown, hts, hK, hR⟩ := C
  intro ls st h H locs a hP hl hw hD hS
  obtain ⟨hlk, hrt, free, Qc, hZ, hfr, hqc⟩ := hq
  subst hZ
  unfold zi_vret at hP
  split at hP
  · exact W.vret hx hb hrt (fun t ht hW => hqc _ h t trivial hP (by rw [ht]; exact hw) hD (hS.F ht) hW) (fun q hq => hfr _ (hS.2.2 q hq)) hd hlk
  · exact hP.elim
end ZS
