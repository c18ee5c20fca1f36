/-! ===== methods that throw: what holds at their start, their ends, their calls ===== -/
def zthS : List (Nat × String) := [(154, "no such cell, or nothing such of it"), (174, "no such guest, or nothing such of it"), (379, "no such number of the row")]
def zthB : List Cond := [Cond.castable zNSE zNSE, Cond.declares (Bundle.initS "java/lang/RuntimeException"), Cond.declares (Bundle.initS "java/lang/Exception"), Cond.declares (Bundle.initS Bundle.tN)]
theorem zthB_tab : ∀ w ∈ zthB, w.onTables = true := by decide +kernel
theorem zthB_warm {s U : State} (hW : s.WarmedH U.vm) (h : ∀ w ∈ zthB, va_Nw w s) : ∀ w ∈ zthB, va_Nw w U := by
  intro w hw
  have h1 := h w hw
  simp only [zthB, List.mem_cons, List.not_mem_nil, or_false] at hw
  rcases hw with rfl | rfl | rfl | rfl
  · exact va_Nw.warmC hW h1
  · exact va_Nw.warmD hW h1
  · exact va_Nw.warmD hW h1
  · exact va_Nw.warmD hW h1
def zq_T (A : Nat → Prop) (U : State) (H : Heap) : Prop := (∀ w ∈ zthB, va_Nw w U) ∧ vx_Zq Bundle.tN "UNASSIGNED_STACK" Bundle.steD A U H ∧ vx_Zq Bundle.tN "SUPPRESSED_SENTINEL" Bundle.listD A U H ∧ ∀ q ∈ zthS, ∃ a, vk_R RX11 q.1 q.2 a U
theorem zq_T_call {A B : Nat → Prop} {s U : State} {H : Heap} {locs : List Loc} (hT : zq_T A s s.heap) (hS : va_S A s.heap H locs) (hA : ∀ q, B q → A q) (hU : U.heap = H) (hW : s.WarmedH U.vm) : zq_T B U U.heap := by
  subst hU
  obtain ⟨h1, h2, h3, h4⟩ := hT
  exact ⟨zthB_warm hW h1, ((h2.kept hS.2.1).narrow hA).moved hW.alike, ((h3.kept hS.2.1).narrow hA).moved hW.alike, fun q hq => (h4 q hq).imp fun a h => vk_R.warm hW h⟩
theorem zq_T_blind {A : Nat → Prop} {a : Array Value} {U : State} {g : JFrame} {mk : MethodId} (h : zq_T A U U.heap) : zq_T A (U.calling g mk a) (U.calling g mk a).heap := by
  obtain ⟨h1, h2, h3, h4⟩ := h
  exact ⟨fun w hw => va_Nw.same (u := U) (U := U.calling g mk a) (zthB_tab w hw) rfl (h1 w hw), vx_Zq.moved (u := U) (U := U.calling g mk a) (Vm.Alike.refl U.vm) h2, vx_Zq.moved (u := U) (U := U.calling g mk a) (Vm.Alike.refl U.vm) h3, fun q hq => (h4 q hq).imp fun b h => vk_R.same (u := U) (U := U.calling g mk a) rfl h⟩
theorem zth_lw : ∀ w ∈ zthW.filter goodWord, w ∈ lw_tbl := by decide +kernel
theorem zth_no : ∀ w ∈ zthW.filter (fun w => !goodWord w), w ∈ zthB := by decide +kernel
theorem zth_ot : ∀ w ∈ Cond.classLink RX11 152 zNSE :: Cond.initialized zNSE :: zthW, vx_ot w = true := by decide +kernel
theorem zth_c : Cond.classLink RX11 152 zNSE ∈ zq_tb := zq_in (by decide +kernel) (by decide +kernel)
theorem zth_i : Cond.initialized zNSE ∈ zq_tb := zq_in (by decide +kernel) (by decide +kernel)
theorem zth_l : Cond.classLink RL 13 zNSE ∈ zq_tb := zq_in (by decide +kernel) (by decide +kernel)
theorem zth_at {args : Array Value} {s : State} {A : Nat → Prop} {H : Heap} (hts : ∀ w ∈ zq_tb, w.before args s = true) (hT : zq_T A s H) : ∀ w ∈ zthW, w.before args s = true :=
  vx_hat (B := zthB) (fun w hw => hts w (zq_in (zth_lw w hw) (List.mem_filter.mp hw).2)) zth_no (fun w hw => va_Nw.use (zthB_tab w hw) (hT.1 w hw))
/-- a method's ends: an answer, or a throw -/
def zq_RX (X : zq_X) (rt : Option FieldType) (rk : Nat) (Q : zq_Q) (QX : zq_H → Prop) : Prop := match X with
  | (_, l, _, R, s, _, args, below, meth, c, D, Y, ad, A, k, n, Z) => meth.locks = false ∧ meth.sig.returnType = rt ∧ l.stackTraces = false ∧ (∀ x ∈ c.exceptionTable.toList, False) ∧ zq_T A s s.heap ∧ (k + 1 ≤ R.cells ∧ n + 6 ≤ R.slots) ∧
      ∃ (free : Addr → Prop) (Qc : Array Value → State → Outcome → State → Prop) (XC : String → State → State → Prop), Z = vx_MQ below Qc XC args s (k + 1) (n + 6) free ∧ (∀ q, A q → free q) ∧
      (∀ (v : Option Value) (h : zq_H) (t : State), zq_kd rk v → Q v h → va_P D vwCl (zq_ws Y ad h) t.heap → va_D A (zq_ws Y ad h) → va_F A s t → s.WarmedH t.vm → Qc args s (.returned v) t) ∧
      ∀ (h : zq_H) (t : State), QX h → va_P D vwCl (zq_ws Y ad h) t.heap → va_D A (zq_ws Y ad h) → va_F A s t → s.vm.Alike t.vm → XC zNSE s t
def zi_thr (QX : zq_H → Prop) : zq_P := fun _ st h => st = [] ∧ QX h
section ZT
variable {X : zq_X} {cc : ByteArray} {nL d pc : Nat} {own : String} {Q : zq_Q} {QX : zq_H → Prop}
theorem zs_iretX (C : zq_C X cc nL own d) (hq : zq_RX X (some .int) 1 Q QX) (hd : decode cc pc = .ok (.ireturn, 1)) : zq_ok X nL pc (zi_iret Q) := by
  obtain ⟨p', l, e, R, s, m, args, below, meth, c, D, Y, ad, A, kc, kn, Z⟩ := X
  obtain ⟨hx, hb, hml, hown, hts, hK, hR1, hR2, hR3, hR4, hE⟩ := C
  obtain ⟨hlk, hrt, hl, ht, hT, hr, free, Qc, XC, hZ, hfr, hqc, hqx⟩ := hq
  subst hZ
  have k := zs_iret (X := (p', l, e, R, s, m, args, below, meth, c, D, Y, ad, A, kc + 1, kn + 6, MQ below Qc args s (kc + 1) (kn + 6) free)) (cc := cc) (nL := nL) (own := own) (d := d) (pc := pc) ⟨hx, hb, hml, hown, hts, hK, hR1, hR2, hr.1, hr.2, hE⟩ (Q := Q) ⟨hlk, hrt, free, Qc, rfl, hfr, hqc⟩ hd
  intro ls st h H locs a hP hl hw hD hS
  exact W.widen (k := kc + 1) (n := kn + 6) (Nat.le_succ kc) (Nat.le_add_right kn 6) (vx_ret (k ls st h H locs a hP hl hw hD hS))
theorem zs_lretX (C : zq_C X cc nL own d) (hq : zq_RX X (some .long) 2 Q QX) (hd : decode cc pc = .ok (.lreturn, 1)) : zq_ok X nL pc (zi_lret Q) := by
  obtain ⟨p', l, e, R, s, m, args, below, meth, c, D, Y, ad, A, kc, kn, Z⟩ := X
  obtain ⟨hx, hb, hml, hown, hts, hK, hR1, hR2, hR3, hR4, hE⟩ := C
  obtain ⟨hlk, hrt, hl, ht, hT, hr, free, Qc, XC, hZ, hfr, hqc, hqx⟩ := hq
  subst hZ
  have k := zs_lret (X := (p', l, e, R, s, m, args, below, meth, c, D, Y, ad, A, kc + 1, kn + 6, MQ below Qc args s (kc + 1) (kn + 6) free)) (cc := cc) (nL := nL) (own := own) (d := d) (pc := pc) ⟨hx, hb, hml, hown, hts, hK, hR1, hR2, hr.1, hr.2, hE⟩ (Q := Q) ⟨hlk, hrt, free, Qc, rfl, hfr, hqc⟩ hd
  intro ls st h H locs a hP hl hw hD hS
  exact W.widen (k := kc + 1) (n := kn + 6) (Nat.le_succ kc) (Nat.le_add_right kn 6) (vx_ret (k ls st h H locs a hP hl hw hD hS))
theorem zs_thrS {rt : Option FieldType} {rk is : Nat} {tx : String} (C : zq_C X cc nL RX11 d) (hd6 : 6 ≤ d) (hq : zq_RX X rt rk Q QX) (hi : (is, tx) ∈ zthS)
    (d0 : decode cc pc = .ok (.new 152, 3)) (d3 : decode cc (pc + 3) = .ok (.dup, 1)) (d4 : decode cc (pc + 4) = .ok (.ldc is, 2)) (d6 : decode cc (pc + 6) = .ok (.invokespecial 156, 3)) (d9 : decode cc (pc + 9) = .ok (.athrow, 1)) : zq_ok X nL pc (zi_thr QX) := by
  obtain ⟨p', l, e, R, s, m, args, below, meth, c, D, Y, ad, A, kc, kn, Z⟩ := X
  obtain ⟨hx, hb, hml, hown, hts, hK, hR1, hR2, hR3, hR4, hE⟩ := C
  obtain ⟨hlk, hrt, hl, ht, hT, hr, free, Qc, XC, hZ, hfr, hqc, hqx⟩ := hq
  subst hZ
  intro ls st h H locs a hP hla hw hD hS
  obtain ⟨rfl, hP⟩ := hP
  obtain ⟨sa, hsa⟩ := hT.2.2.2 _ hi
  refine zx_throwS (text := tx) (is := is) (sa := sa) (rest := []) (A := A) hx hb hl hown (hts _ zth_c) (hts _ zth_i) hsa (zth_at hts hT) zth_ot hT.2.1 hT.2.2.1 hS (hla.1.trans hml.symm) d0 d3 d4 d6 d9 (fun x hx => (ht x hx).elim) (show 5 < R.frames by omega) (show 0 + (13 * 3 + 43) ≤ R.locals by omega) hr.1 hr.2 hlk (fun t hW hz hk => ?_) (fun q hq => hfr _ (hS.2.2 q hq)) (Nat.le_refl _) (Nat.le_refl _)
  exact hqx h t hP (hw.kept fun k x hx => hk x.1 ((hw k x hx).lt)) hD ⟨Nat.le_trans hS.1 hz, fun q g1 g2 => (hk q (Nat.lt_of_lt_of_le g1 hS.1)).trans (hS.2.1 q g1 g2)⟩ hW
theorem zs_thrW {rt : Option FieldType} {rk is : Nat} {tx : String} (C : zq_C X cc nL RX11 d) (hd6 : 6 ≤ d) (hq : zq_RX X rt rk Q QX) (hi : (is, tx) ∈ zthS)
    (d0 : decode cc pc = .ok (.new 152, 3)) (d3 : decode cc (pc + 3) = .ok (.dup, 1)) (d4 : decode cc (pc + 4) = .ok (.ldc_w is, 3)) (d7 : decode cc (pc + 7) = .ok (.invokespecial 156, 3)) (d10 : decode cc (pc + 10) = .ok (.athrow, 1)) : zq_ok X nL pc (zi_thr QX) := by
  obtain ⟨p', l, e, R, s, m, args, below, meth, c, D, Y, ad, A, kc, kn, Z⟩ := X
  obtain ⟨hx, hb, hml, hown, hts, hK, hR1, hR2, hR3, hR4, hE⟩ := C
  obtain ⟨hlk, hrt, hl, ht, hT, hr, free, Qc, XC, hZ, hfr, hqc, hqx⟩ := hq
  subst hZ
  intro ls st h H locs a hP hla hw hD hS
  obtain ⟨rfl, hP⟩ := hP
  obtain ⟨sa, hsa⟩ := hT.2.2.2 _ hi
  refine zx_throwSW (text := tx) (is := is) (sa := sa) (rest := []) (A := A) hx hb hl hown (hts _ zth_c) (hts _ zth_i) hsa (zth_at hts hT) zth_ot hT.2.1 hT.2.2.1 hS (hla.1.trans hml.symm) d0 d3 d4 d7 d10 (fun x hx => (ht x hx).elim) (show 5 < R.frames by omega) (show 0 + (13 * 3 + 43) ≤ R.locals by omega) hr.1 hr.2 hlk (fun t hW hz hk => ?_) (fun q hq => hfr _ (hS.2.2 q hq)) (Nat.le_refl _) (Nat.le_refl _)
  exact hqx h t hP (hw.kept fun k x hx => hk x.1 ((hw k x hx).lt)) hD ⟨Nat.le_trans hS.1 hz, fun q g1 g2 => (hk q (Nat.lt_of_lt_of_le g1 hS.1)).trans (hS.2.1 q g1 g2)⟩ hW
end ZT
/-! the contract of a method that throws -/
def zq_rmX (d : Nat) : Room := { frames := d, cells := 1, slots := 6, locals := 64 * d }
def zq_PcX (D : va_G) (Y : zq_Y) (ad : Nat → Nat) (args : List Value) (h : zq_H) : Array Value → State → Prop := va_Pc (args.map (zq_cv ad)) (fun U => zq_B D Y ad (fun _ => True) h U ∧ zq_E ad (zq_A ad) U U.heap ∧ zq_T (zq_A ad) U U.heap)
def zq_XC (D : va_G) (Y : zq_Y) (ad : Nat → Nat) (QX : zq_H → Prop) : String → State → State → Prop := vx_X QX (fun (E : String) (u : zq_H) (t : State) => E = zNSE ∧ zq_B D Y ad (zq_A ad) u t) (zq_A ad)
def zq_MX (y : MethodName) (cc : ByteArray) (maxL : Nat) (ret : Option FieldType) (rk d : Nat) (spec : List Value → zq_H → zq_Q → (zq_H → Prop) → Prop) : Prop :=
  ∀ (l : Launch), l.stackTraces = false → ∀ (D : va_G) (Y : zq_Y) (ad : Nat → Nat) (args : List Value) (h : zq_H) (Q : zq_Q) (QX : zq_H → Prop), spec args h Q QX → vx_Met l y (Cond.code y cc maxL ret :: zq_tb) (zq_rmX d) (zq_PcX D Y ad args h) (zq_Qc rk D Y ad Q) (zq_XC D Y ad QX) 1 6 (zq_A ad)
theorem zq_blindX {vs : List Value} {D : va_G} {Y : zq_Y} {ad : Nat → Nat} {h : zq_H} : FrameBlind (zq_PcX D Y ad vs h) := by
  intro a U g mk q
  obtain ⟨q1, q2, q3, q4⟩ := q
  have hb := zq_blind (vs := vs.map (zq_cv ad)) (D := D) (Y := Y) (ad := ad) (A := fun _ => True) (h := h) a U g mk ⟨q1, q2, q3⟩
  exact ⟨hb.1, hb.2.1, hb.2.2, zq_T_blind q4⟩
theorem zq_metX {y : MethodName} {cc : ByteArray} {maxL : Nat} {ret : Option FieldType} {rk d : Nat} {spec : List Value → zq_H → zq_Q → (zq_H → Prop) → Prop} (hy : plainName y.cls = true) (hrk : rk ≤ 2)
    (body : ∀ (X : zq_X) (Q : zq_Q) (QX : zq_H → Prop) (args : List Value) (h : zq_H), zq_C X cc maxL y.cls d → zq_RX X ret rk Q QX → spec args h Q QX → (zq_a args).length ≤ maxL ∧ ∃ P, zq_ok X maxL 0 P ∧ P (zq_l0 maxL args) [] h) : zq_MX y cc maxL ret rk d spec := by
  intro l hfl D Y ad args h Q QX hsp
  refine vx_ofW (cc := cc) (maxL := maxL) (ret := ret) hy rfl ?_
  intro p e s m av below meth c s₁ B hml ht hv
  obtain ⟨rfl, ⟨hP, hK, hD⟩, hE, hT⟩ := hv
  have hts := atoms_spec (ws := Cond.code y cc maxL ret :: zq_tb) B.pre
  have C : zq_C (p, l, e, (headSpec (Cond.code y cc maxL ret :: zq_tb) (zq_rmX d)).room, s, m, (args.map (zq_cv ad)).toArray, below, meth, c, D, Y, ad, zq_A ad, 0, 0, vx_MQ below (zq_Qc rk D Y ad Q) (zq_XC D Y ad QX) (args.map (zq_cv ad)).toArray s 1 6 (zq_A ad)) cc maxL y.cls d :=
    ⟨B.exec, B.bytes, hml, findClass_of_methodNamed B.named, fun w hw => hts w (List.mem_cons_of_mem _ hw), hK, Nat.le_refl _, Nat.le_refl _, Nat.zero_le _, Nat.zero_le _, hE⟩
  have hDA := zq_DA hD
  have Rr : zq_RX (p, l, e, (headSpec (Cond.code y cc maxL ret :: zq_tb) (zq_rmX d)).room, s, m, (args.map (zq_cv ad)).toArray, below, meth, c, D, Y, ad, zq_A ad, 0, 0, vx_MQ below (zq_Qc rk D Y ad Q) (zq_XC D Y ad QX) (args.map (zq_cv ad)).toArray s 1 6 (zq_A ad)) ret rk Q QX := by
    refine ⟨B.notSynchronized, B.returns, hfl, ht, hT, ⟨Nat.le_refl _, Nat.le_refl _⟩, zq_A ad, zq_Qc rk D Y ad Q, zq_XC D Y ad QX, rfl, fun _ h => h, ?_, ?_⟩
    · intro v h' t hk hq hP' hD' hF hW
      have hB : zq_B D Y ad (zq_A ad) h' t := ⟨hP', va_K.moved hW.alike hK, hD'⟩
      match rk, v, hk, hrk with
      | 0, none, _, _ => exact ⟨⟨h', rfl, hq, hB⟩, hF⟩
      | 1, some (.int r), _, _ => exact ⟨⟨r, h', rfl, hq, hB⟩, hF⟩
      | 2, some (.long r), _, _ => exact ⟨⟨r, h', rfl, hq, hB⟩, hF⟩
    · intro h' t hq hP' hD' hF hW
      exact ⟨h', hq, ⟨rfl, hP', va_K.moved hW hK, hD'⟩, hF⟩
  obtain ⟨hlen, P, hok, hP0⟩ := body _ Q QX args h C Rr hsp
  have hle : (lg_sl (args.map (zq_cv ad))).length ≤ maxL := by rw [zq_a_len]; exact hlen
  rw [lg_entry_eq]
  refine hok _ [] h s.heap [] _ hP0 (zq_lr.of (lv_entry (args.map (zq_cv ad)) hle) ?_) hP hDA va_S.rf
  intro i v hi
  have := zq_a_at ad _ args 0 i v hi
  rwa [Nat.zero_add] at this
/-! a call of a method that throws -/
def zq_up (X : zq_X) : zq_X := match X with
  | (p, l, e, R, s, m, args, below, meth, c, D, Y, ad, A, k, n, Z) => (p, l, e, R, s, m, args, below, meth, c, D, Y, ad, A, k + 1, n + 6, Z)
def zq_TX (X : zq_X) : Prop := match X with
  | (_, l, _, R, s, _, _, _, _, _, _, _, _, A, k, n, _) => l.stackTraces = false ∧ zq_T A s s.heap ∧ k + 1 ≤ R.cells ∧ n + 6 ≤ R.slots
/-- from where q of the class NoSuchElementException has come out of a call at pc -/
def zq_oX (X : zq_X) (nL pc : Nat) (KX : zq_L → zq_H → Prop) : Prop := match X with
  | (p, l, e, R, s, m, args, below, meth, c, D, Y, ad, A, k, n, Z) => ∀ (ls : zq_L) (h : zq_H) (H : Heap) (locs : List Loc) (a : Array Slot) (rest : List Value) (q : Addr) (ce : Cell), KX ls h → zq_lr ad nL ls a → va_P D vwCl (zq_ws Y ad h) H → va_D A (zq_ws Y ad h) → va_S A s.heap H locs → H[q]? = some ce → ce.vm = .none → s.vm.findClass zNSE = some ce.cls → vx_W p l e R s m args below meth c H locs k n Z (F0 m pc a rest) q
def zi_callVX (n p : Nat) (spec : List Value → zq_H → zq_Q → (zq_H → Prop) → Prop) (K : zq_P) (KX : zq_L → zq_H → Prop) (ls : zq_L) (st : List Value) (h : zq_H) : Prop := match zq_tk (n + 1) [] st with
  | some (.ref q :: as, rest) => q = p ∧ rest.length ≤ 4 ∧ spec (.ref q :: as) h (fun r h' => K ls (zq_ps r rest) h') (fun h' => KX ls h')
  | _ => False
theorem zq_behindX {p : Program} {l : Launch} {e : Env} {R : Room} {s : State} {m : MethodId} {args : Array Value} {below : List Frame} {meth : Method} {c : Code} {D : va_G} {Y : zq_Y} {ad : Nat → Nat} {A : Nat → Prop} {kc kn : Nat} {Z : State → Prop} {nL pc rk : Nat} {K : zq_P} {KX : zq_L → zq_H → Prop}
    {ls : zq_L} {rest : List Value} {h : zq_H} {H : Heap} {locs : List Loc} {a : Array Slot} {st0 : List Value} {av : Array Value} (hrk : 1 ≤ rk)
    (hr : vx_Run p l e R s m args below meth c H locs kc kn 1 6 (F0 m pc a st0) (rest.map (zq_cv ad)) (zq_Qc rk D Y ad (fun r h' => K ls (zq_ps r rest) h') av) (zq_XC D Y ad (fun h' => KX ls h')) (zq_A ad))
    (hl : zq_lr ad nL ls a) (hD : va_D A (zq_ws Y ad h)) (hS : va_S A s.heap H locs) (k : zq_ok (zq_up (p, l, e, R, s, m, args, below, meth, c, D, Y, ad, A, kc, kn, Z)) nL (pc + 3) K) (kx : zq_oX (zq_up (p, l, e, R, s, m, args, below, meth, c, D, Y, ad, A, kc, kn, Z)) nL pc KX) : W p l e R s m args below meth c H locs kc kn Z (F0 m pc a st0) := by
  have hAA := zq_AA hD
  have go : ∀ (v : Option Value) (u : zq_H) (t : State) (H1 : Heap) (locs1 : List Loc), t.heap = H1 → K ls (zq_ps v rest) u → zq_B D Y ad (zq_A ad) u t → va_S A s.heap H1 locs1 → W p l e R s m args below meth c H1 locs1 (kc + 1) (kn + 6) Z (F0 m (pc + 3) a ((zq_ps v rest).map (zq_cv ad))) := by
    intro v u t H1 locs1 ht hp hB hS1
    obtain ⟨hP, hK, hD1⟩ := hB
    rw [ht] at hP
    exact k _ _ _ _ _ _ hp hl hP (hD1.weaken fun _ q _ hq => hAA _ hq) hS1
  have gx : ∀ (E : String) (ce : Cell) (q9 : Addr) (u : zq_H) (t : State) (H1 : Heap) (locs1 : List Loc), t.heap = H1 → KX ls u → (E = zNSE ∧ zq_B D Y ad (zq_A ad) u t) → va_S A s.heap H1 locs1 → H1[q9]? = some ce → ce.vm = .none → s.vm.findClass E = some ce.cls → vx_W p l e R s m args below meth c H1 locs1 (kc + 1) (kn + 6) Z (F0 m pc a (rest.map (zq_cv ad))) q9 := by
    intro E ce q9 u t H1 locs1 ht hp hB hS1 h1 h2 h3
    obtain ⟨rfl, hP, hK, hD1⟩ := hB
    rw [ht] at hP
    exact kx _ _ _ _ _ _ _ _ hp hl hP (hD1.weaken fun _ q _ hq => hAA _ hq) hS1 h1 h2 h3
  match rk, hr, hrk with
  | 1, hr, _ => exact vx_calli (a := av) hr hS (fun q _ h => hAA q h) hAA (fun q _ h => hAA q h) (fun E ce q9 u t H1 locs1 ht _ hp hB _ _ hS1 h1 h2 h3 => gx E ce q9 u t H1 locs1 ht hp hB hS1 h1 h2 h3) (fun r u t H1 locs1 ht _ hp hB _ _ hS1 => go (some (.int r)) u t H1 locs1 ht hp hB hS1)
  | _ + 2, hr, _ => exact vx_calll (a := av) hr hS (fun q _ h => hAA q h) hAA (fun q _ h => hAA q h) (fun E ce q9 u t H1 locs1 ht _ hp hB _ _ hS1 h1 h2 h3 => gx E ce q9 u t H1 locs1 ht hp hB hS1 h1 h2 h3) (fun r u t H1 locs1 ht _ hp hB _ _ hS1 => go (some (.long r)) u t H1 locs1 ht hp hB hS1)
section ZTC
variable {X : zq_X} {cc bytes : ByteArray} {nL d pc n ix maxL d1 rk : Nat} {own : String} {K : zq_P} {KX : zq_L → zq_H → Prop} {y : MethodName} {ret : Option FieldType} {spec : List Value → zq_H → zq_Q → (zq_H → Prop) → Prop}
theorem zs_callVX (C : zq_C X cc nL own d) (hTX : zq_TX X) {p ci N : Nat} {kd : List Nat} {T : u_T} (hrk : 1 ≤ rk) (hM : zq_MX y bytes maxL ret rk d1 spec) (hdd : d1 + 1 ≤ d) (hy : zq_y y bytes maxL ret n) (hp : zq_S[p]? = some (0, ci, kd)) (hc : vwCl[ci]? = some (y.cls, T, N)) (h1 : Cond.methodLink own ix y ∈ zq_tb) (h2 : Cond.instanceMethod y ∈ zq_tb) (h3 : Cond.selects y.cls y y ∈ zq_tb)
    (hd : decode cc pc = .ok (.invokevirtual ix, 3)) (k : zq_ok (zq_up X) nL (pc + 3) K) (kx : zq_oX (zq_up X) nL pc KX) : zq_ok X nL pc (zi_callVX n p spec K KX) := by
  obtain ⟨p', l, e, R, s, m, args, below, meth, c, D, Y, ad, A, kc, kn, Z⟩ := X
  obtain ⟨hx, hb, hml, hown, hts, hK, hR1, hR2, hR3, hR4, hE⟩ := C
  obtain ⟨hfl, hT, hR5, hR6⟩ := hTX
  intro ls st h H locs a hP hl hw hD hS
  unfold zi_callVX at hP
  split at hP
  · next q as rest htk =>
    obtain ⟨rfl, hlen, hsp⟩ := hP
    obtain ⟨pre, e1, e2, e3⟩ := zq_tk_eq _ _ _ _ _ htk
    rw [List.append_nil] at e3
    have e4 : pre = as.reverse ++ [.ref q] := by
      have := congrArg List.reverse e3
      simpa using this.symm
    subst e2
    have e5 : as.length = n := by rw [e4] at e1; simpa using e1
    refine zq_behindX (rest := rest) hrk (vx_runV (As := as.map (zq_cv ad)) (rest := rest.map (zq_cv ad)) ⟨hx, hb, hml, hown, hts⟩ (hM l hfl D Y ad _ h _ _ hsp) (cwV n hts (zq_goodV hy h1 h2 h3 hy.2.1) rfl rfl rfl ⟨rfl, hy.2.2.1⟩ ⟨?_, ?_⟩) ⟨zq_blindX, va_recv hK hw hc (zq_ws_at hp), ?_⟩ rfl (by rw [List.length_map]; exact e5) hl.1 ?_ (lv_room ?_) hd ⟨hR5, hR6⟩) hl hD hS k kx
    · show d1 + 1 ≤ R.frames
      omega
    · have := hy.2.2.2
      show 8 + (maxL + 11) + 64 * d1 ≤ R.locals
      omega
    · intro U hU hW
      exact ⟨rfl, ⟨by rw [hU]; exact hw, va_K.moved hW.alike hK, hD.weaken (fun _ _ _ _ => trivial)⟩, zq_E_call hE hS (zq_AA hD) hU hW, zq_T_call hT hS (zq_AA hD) hU hW⟩
    · show (pre ++ rest).map (zq_cv ad) = (as.map (zq_cv ad)).reverse ++ zq_cv ad (.ref q) :: rest.map (zq_cv ad)
      rw [e4]
      simp [List.map_reverse]
    · have h5 := zq_cats (rest.map (zq_cv ad))
      rw [List.length_map] at h5
      omega
  · exact hP.elim
theorem zq_C_up (C : zq_C X cc nL own d) (hTX : zq_TX X) : zq_C (zq_up X) cc nL own d := by
  obtain ⟨p', l, e, R, s, m, args, below, meth, c, D, Y, ad, A, kc, kn, Z⟩ := X
  obtain ⟨hx, hb, hml, hown, hts, hK, hR1, hR2, hR3, hR4, hE⟩ := C
  obtain ⟨hfl, hT, hR5, hR6⟩ := hTX
  exact ⟨hx, hb, hml, hown, hts, hK, hR1, hR2, hR5, hR6, hE⟩
end ZTC
/-! a method with a table of its own, that answers -/
theorem zq_ofWH {l : Launch} {y : MethodName} {ws ws' : List Cond} {rm : Room} {Pc : Array Value → State → Prop} {Qc : Array Value → State → Outcome → State → Prop} {mc ms : Nat} {free : Addr → Prop} {cc : ByteArray} {maxL : Nat} {ret : Option FieldType} {hh : List (Nat × Nat × Nat × Nat)}
    (hy : plainName y.cls = true) (hw : ws = Cond.codeWith y cc maxL ret hh :: ws')
    (body : ∀ p e s m args below meth c s₁, BodyLoose p l y (headSpec ws rm) cc maxL ret e s m args below meth c s₁ → c.maxLocals = maxL → Pc args s →
      W p l e (headSpec ws rm).room s m args below meth c s.heap [] 0 0 (MQ below Qc args s mc ms free) (entryFrame m args maxL)) : Met l y ws rm Pc Qc mc ms free := by
  refine MetFree.of_bodyS (code := cc) (maxLocals := maxL) (ret := ret) hy ?_ ?_
  · intro args s m h hn
    obtain ⟨m9, meth, c, hn9, h1, h2, h3, h4, -, h5, h6, -⟩ := Cond.codeWith_spec (atoms_spec (ws := ws) h _ (by rw [hw]; exact List.mem_cons_self))
    cases hn.symm.trans hn9
    exact ⟨meth, c, h1, h2, h3, h4, h5, h6⟩
  · intro p e s m args below meth c s₁ B hml hP _
    have hh0 : s₁.heap = s.heap := by rw [B.state]; rfl
    obtain ⟨t, a1, o, b1, b2, b3⟩ := body p e s m args below meth c s₁ B hml hP s₁ hh0 (Stand.of_body B)
    exact ⟨t, o, a1, b1, b2, ⟨b3.1, b3.2⟩⟩
