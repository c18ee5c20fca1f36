/-! ===== contracts and calls ===== -/
def zq_rm (d : Nat) : Room := { frames := d, cells := 0, slots := 0, locals := 64 * d }
def zq_A (ad : Nat → Nat) : Nat → Prop := fun q => ∃ k, k < zq_S.length ∧ q = ad k
def zq_B (D : va_G) (Y : zq_Y) (ad : Nat → Nat) (A : Nat → Prop) (h : zq_H) (t : State) : Prop := va_P D vwCl (zq_ws Y ad h) t.heap ∧ va_K D vwCl (zq_ty Y) t ∧ va_D A (zq_ws Y ad h)
def zq_Qc (rk : Nat) (D : va_G) (Y : zq_Y) (ad : Nat → Nat) (Q : zq_Q) : Array Value → State → Outcome → State → Prop := match rk with
  | 0 => va_Qv (fun u : zq_H => Q none u) (fun u t => zq_B D Y ad (zq_A ad) u t) (zq_A ad)
  | 1 => va_Qi (fun (r : Int32) (u : zq_H) => Q (some (.int r)) u) (fun u t => zq_B D Y ad (zq_A ad) u t) (zq_A ad)
  | _ => va_Ql (fun (r : Int64) (u : zq_H) => Q (some (.long r)) u) (fun u t => zq_B D Y ad (zq_A ad) u t) (zq_A ad)
def zq_M (y : MethodName) (cc : ByteArray) (maxL : Nat) (ret : Option FieldType) (rk d : Nat) (spec : zq_Sp) : Prop :=
  ∀ (l : Launch) (D : va_G) (Y : zq_Y) (ad : Nat → Nat) (args : List Value) (h : zq_H) (Q : zq_Q), spec args h Q → Met l y (Cond.code y cc maxL ret :: zq_tb) (zq_rm d) (va_Pc (args.map (zq_cv ad)) (fun U => zq_B D Y ad (fun _ => True) h U ∧ zq_E ad (zq_A ad) U U.heap)) (zq_Qc rk D Y ad Q) 0 0 (zq_A ad)
theorem zq_nw_form {w : Cond} (h : w ∈ zq_nw) : ∃ a i b n d f, w = .fieldLinkNest a i b n d f := by
  have h2 := (List.mem_filter.mp h).2
  unfold zq_isN at h2
  split at h2
  · exact ⟨_, _, _, _, _, _, rfl⟩
  · cases h2
theorem zq_nw_tab {w : Cond} (h : w ∈ zq_nw) : w.onTables = true := by
  obtain ⟨a, i, b, n, d, f, rfl⟩ := zq_nw_form h
  rfl
theorem zq_nw_warm {w : Cond} {s U : State} (h : w ∈ zq_nw) (hW : s.WarmedH U.vm) (hZ : va_Nw w s) : va_Nw w U := by
  obtain ⟨a, i, b, n, d, f, rfl⟩ := zq_nw_form h
  exact va_Nw.warmF hW hZ
theorem zq_blind {vs : List Value} {D : va_G} {Y : zq_Y} {ad : Nat → Nat} {A : Nat → Prop} {h : zq_H} : FrameBlind (va_Pc vs (fun U => zq_B D Y ad A h U ∧ zq_E ad (zq_A ad) U U.heap)) := by
  intro a U g mk q
  obtain ⟨q1, ⟨q2, q3, q4⟩, q5, q6, q7, q8, q9⟩ := q
  exact ⟨q1, ⟨q2, va_K.moved (u := U) (U := U.calling g mk a) (Vm.Alike.refl U.vm) q3, q4⟩, vk_S.moved (u := U) (U := U.calling g mk a) (Vm.Alike.refl U.vm) q5, fun i q hi => vk_R.same (u := U) (U := U.calling g mk a) rfl (q6 i q hi), va_Z.moved (u := U) (U := U.calling g mk a) (Vm.Alike.refl U.vm) q7, fun w hw => va_Nw.same (u := U) (U := U.calling g mk a) (zq_nw_tab hw) rfl (q8 w hw), q9.imp (va_Z.moved (u := U) (U := U.calling g mk a) (Vm.Alike.refl U.vm)) (va_Z.moved (u := U) (U := U.calling g mk a) (Vm.Alike.refl U.vm))⟩
theorem zq_E_call {ad : Nat → Nat} {A : Nat → Prop} {s U : State} {H : Heap} {locs : List Loc} (hE : zq_E ad A s s.heap) (hS : va_S A s.heap H locs) (hA : ∀ q, zq_A ad q → A q) (hU : U.heap = H) (hW : s.WarmedH U.vm) : zq_E ad (zq_A ad) U U.heap := by
  subst hU
  obtain ⟨h1, h2, h3, h4, h5⟩ := hE
  exact ⟨((h1.kept hS.2.1).narrow hA).moved hW.alike, fun i q hi => (h2 i q hi).warm hW, ((h3.kept hS.2.1).narrow hA).moved hW.alike, fun w hw => zq_nw_warm hw hW (h4 w hw), h5.imp (fun q => ((q.kept hS.2.1).narrow hA).moved hW.alike) (fun q => ((q.kept hS.2.1).narrow hA).moved hW.alike)⟩
theorem zq_tb_good : ∀ w ∈ zq_tb, (w.onTables && w.keeps) = true ∨ ∃ ty, w = .arrayClass ty := fun w hw => good_of_word (List.mem_filter.mp hw).2
theorem zq_in {w : Cond} (h : w ∈ lw_tbl) (g : goodWord w = true) : w ∈ zq_tb := List.mem_filter.mpr ⟨h, g⟩
theorem zq_inT {w : Cond} {i : Nat} (h : tables_1[i]? = some w) (g : goodWord w = true) : w ∈ zq_tb := zq_in (List.mem_append_right _ (List.mem_of_getElem? h)) g
theorem zq_inP {w : Cond} {q : MethodName × Nat} {i : Nat} (h : lw_privs[i]? = some q) (e : Cond.selects q.1.cls q.1 q.1 = w) (g : goodWord w = true) : w ∈ zq_tb := by
  subst e
  exact zq_in (List.mem_append_left _ (List.mem_map.mpr ⟨q, List.mem_of_getElem? h, rfl⟩)) g
theorem zq_inN {w : Cond} {i : Nat} (h : tables_1[i]? = some w) (g : zq_isN w = true) : w ∈ zq_nw := List.mem_filter.mpr ⟨List.mem_of_getElem? h, g⟩
/-! arguments off the stack -/
def zq_tk : Nat → List Value → List Value → Option (List Value × List Value)
  | 0, acc, st => some (acc, st)
  | _ + 1, _, [] => none
  | n + 1, acc, v :: st => zq_tk n (v :: acc) st
theorem zq_tk_eq : ∀ (n : Nat) (acc st as rest : List Value), zq_tk n acc st = some (as, rest) → ∃ pre : List Value, pre.length = n ∧ st = pre ++ rest ∧ as = pre.reverse ++ acc
  | 0, acc, st, as, rest, h => by
    cases h
    exact ⟨[], rfl, rfl, rfl⟩
  | n + 1, acc, [], as, rest, h => by cases h
  | n + 1, acc, v :: st, as, rest, h => by
    obtain ⟨pre, h1, h2, h3⟩ := zq_tk_eq n (v :: acc) st as rest h
    exact ⟨v :: pre, by simp [h1], by simp [h2], by simp [h3]⟩
def zq_ps (v : Option Value) (rest : List Value) : List Value := match v with
  | some w => w :: rest
  | none => rest
def zi_callV (n p : Nat) (spec : zq_Sp) (K : zq_P) (ls : zq_L) (st : List Value) (h : zq_H) : Prop := match zq_tk (n + 1) [] st with
  | some (.ref q :: as, rest) => q = p ∧ rest.length ≤ 4 ∧ spec (.ref q :: as) h (fun r h' => K ls (zq_ps r rest) h')
  | _ => False
def zi_callS (n : Nat) (spec : zq_Sp) (K : zq_P) (ls : zq_L) (st : List Value) (h : zq_H) : Prop := match zq_tk n [] st with
  | some (as, rest) => rest.length ≤ 4 ∧ spec as h (fun r h' => K ls (zq_ps r rest) h')
  | _ => False
theorem zq_cats : ∀ (st : List Value), (st.map fun v => v.category).sum ≤ 2 * st.length
  | [] => Nat.le_refl _
  | v :: st => by
    have h1 := zq_cats st
    have h2 := lv_cat v
    simp only [List.map_cons, List.sum_cons, List.length_cons]
    omega
/-- what is fixed of a method that is called -/
def zq_y (y : MethodName) (cc : ByteArray) (maxL : Nat) (ret : Option FieldType) (n : Nat) : Prop := Cond.code y cc maxL ret ∈ zq_tb ∧ Cond.initialized y.cls ∈ zq_tb ∧ (y.cls ≠ "java/lang/invoke/MethodHandle" ∧ y.cls ≠ "java/lang/invoke/VarHandle" ∧ (parseMethodDescriptor y.desc).map (fun d => d.parameters.length) = some n) ∧ maxL ≤ 40
section ZS
variable {X : zq_X} {cc bytes : ByteArray} {nL d pc n ix maxL d1 rk : Nat} {own : String} {K : zq_P} {y : MethodName} {ret : Option FieldType} {spec : zq_Sp}
theorem zq_AA {A : Nat → Prop} {Y : zq_Y} {ad : Nat → Nat} {h : zq_H} (hD : va_D A (zq_ws Y ad h)) : ∀ q, zq_A ad q → A q := by
  intro q hq
  obtain ⟨k, hk, rfl⟩ := hq
  obtain ⟨e, he⟩ : ∃ e, zq_S[k]? = some e := ⟨_, List.getElem?_eq_getElem hk⟩
  exact hD.2 k _ (zq_ws_at he)
theorem zq_DA {A : Nat → Prop} {Y : zq_Y} {ad : Nat → Nat} {h : zq_H} (hD : va_D A (zq_ws Y ad h)) : va_D (zq_A ad) (zq_ws Y ad h) := hD.weaken fun k q hq _ => ⟨k, (zq_ws_of hq).1, (zq_ws_of hq).2⟩
/-- behind a call: the callee's end, as the caller goes on -/
theorem zq_behind {p : Program} {l : Launch} {e : Env} {R : Room} {s : State} {m : MethodId} {args : Array Value} {below : List Frame} {meth : Method} {c : Code} {D : va_G} {Y : zq_Y} {ad : Nat → Nat} {A : Nat → Prop} {kc kn : Nat} {Z : State → Prop}
    {ls : zq_L} {rest : List Value} {h : zq_H} {H : Heap} {locs : List Loc} {a : Array Slot} {st0 : List Value} {av : Array Value}
    (hr : va_Run p l e R s m args below meth c H locs kc kn 0 0 (F0 m pc a st0) (rest.map (zq_cv ad)) (zq_Qc rk D Y ad (fun r h' => K ls (zq_ps r rest) h') av) (zq_A ad))
    (hl : zq_lr ad nL ls a) (hD : va_D A (zq_ws Y ad h)) (hS : va_S A s.heap H locs) (k : zq_ok (p, l, e, R, s, m, args, below, meth, c, D, Y, ad, A, kc, kn, Z) nL (pc + 3) K) : W p l e R s m args below meth c H locs kc kn Z (F0 m pc a st0) := by
  have hAA := zq_AA hD
  have go : ∀ (v : Option Value) (u : zq_H) (t : State) (H1 : Heap) (locs1 : List Loc), t.heap = H1 → K ls (zq_ps v rest) u → zq_B D Y ad (zq_A ad) u t → va_S A s.heap H1 locs1 → W p l e R s m args below meth c H1 locs1 kc kn Z (F0 m (pc + 3) a ((zq_ps v rest).map (zq_cv ad))) := by
    intro v u t H1 locs1 ht hp hB hS1
    obtain ⟨hP, hK, hD1⟩ := hB
    rw [ht] at hP
    exact k _ _ _ _ _ _ hp hl hP (hD1.weaken fun _ q _ hq => hAA _ hq) hS1
  match rk, hr with
  | 0, hr => exact va_callv (a := av) hr hS (fun q _ h => hAA q h) hAA (fun u t H1 locs1 ht _ hp hB _ _ hS1 => go none u t H1 locs1 ht hp hB hS1)
  | 1, hr => exact va_calli (a := av) hr hS (fun q _ h => hAA q h) hAA (fun r u t H1 locs1 ht _ hp hB _ _ hS1 => go (some (.int r)) u t H1 locs1 ht hp hB hS1)
  | _ + 2, hr => exact va_calll (a := av) hr hS (fun q _ h => hAA q h) hAA (fun r u t H1 locs1 ht _ hp hB _ _ hS1 => go (some (.long r)) u t H1 locs1 ht hp hB hS1)
theorem zq_goodV {C : String} (hy : zq_y y bytes maxL ret n) (hl : Cond.methodLink own ix y ∈ zq_tb) (hi : Cond.instanceMethod y ∈ zq_tb) (hs : Cond.selects C y y ∈ zq_tb) (hc : Cond.initialized C ∈ zq_tb) : GoodIn zq_tb (wsV own ix C y (Cond.code y bytes maxL ret :: zq_tb)) := by
  intro w hw
  have hm : w ∈ zq_tb := by
    rcases List.mem_append.mp hw with h | h
    · simp only [List.mem_cons, List.not_mem_nil, or_false] at h
      rcases h with rfl | rfl | rfl | rfl
      · exact hl
      · exact hi
      · exact hs
      · exact hc
    · rcases List.mem_cons.mp h with rfl | h
      · exact hy.1
      · exact h
  exact ⟨hm, zq_tb_good w hm⟩
theorem zq_goodC (hy : zq_y y bytes maxL ret n) : GoodIn zq_tb (Cond.code y bytes maxL ret :: zq_tb) := by
  intro w hw
  have hm : w ∈ zq_tb := by
    rcases List.mem_cons.mp hw with rfl | h
    · exact hy.1
    · exact h
  exact ⟨hm, zq_tb_good w hm⟩
theorem zs_callV (C : zq_C X cc nL own d) {p ci N : Nat} {kd : List Nat} {T : u_T} (hM : zq_M y bytes maxL ret rk d1 spec) (hdd : d1 + 1 ≤ d) (hy : zq_y y bytes maxL ret n) (hp : zq_S[p]? = some (0, ci, kd)) (hc : vwCl[ci]? = some (y.cls, T, N)) (h1 : Cond.methodLink own ix y ∈ zq_tb) (h2 : Cond.instanceMethod y ∈ zq_tb) (h3 : Cond.selects y.cls y y ∈ zq_tb)
    (hd : decode cc pc = .ok (.invokevirtual ix, 3)) (k : zq_ok X nL (pc + 3) K) : zq_ok X nL pc (zi_callV n p spec K) := by
  obtain ⟨p', l, e, R, s, m, args, below, meth, c, D, Y, ad, A, kc, kn, Z⟩ := X
  obtain ⟨hx, hb, hml, hown, hts, hK, hR1, hR2, hR3, hR4, hE⟩ := C
  intro ls st h H locs a hP hl hw hD hS
  unfold zi_callV at hP
  split at hP
  · next q as rest htk =>
    obtain ⟨rfl, hlen, hsp⟩ := hP
    obtain ⟨pre, e1, e2, e3⟩ := zq_tk_eq _ _ _ _ _ htk
    rw [List.append_nil] at e3
    have e4 : pre = as.reverse ++ [.ref q] := by
      have := congrArg List.reverse e3
      simpa using this.symm
    subst e2
    have e5 : as.length = n := by rw [e4] at e1; simpa using e1
    refine zq_behind (rest := rest) (va_runV (As := as.map (zq_cv ad)) (rest := rest.map (zq_cv ad)) ⟨hx, hb, hml, hown, hts⟩ (hM l D Y ad _ h _ hsp) (cwV n hts (zq_goodV hy h1 h2 h3 hy.2.1) rfl rfl rfl ⟨rfl, hy.2.2.1⟩ ⟨?_, ?_⟩) ⟨zq_blind, va_recv hK hw hc (zq_ws_at hp), ?_⟩ rfl (by rw [List.length_map]; exact e5) hl.1 ?_ (lv_room ?_) hd ⟨hR3, hR4⟩) hl hD hS k
    · show d1 + 1 ≤ R.frames
      omega
    · have := hy.2.2.2
      show 8 + (maxL + 11) + 64 * d1 ≤ R.locals
      omega
    · intro U hU hW
      exact ⟨rfl, ⟨by rw [hU]; exact hw, va_K.moved hW.alike hK, hD.weaken (fun _ _ _ _ => trivial)⟩, zq_E_call hE hS (zq_AA hD) hU hW⟩
    · show (pre ++ rest).map (zq_cv ad) = (as.map (zq_cv ad)).reverse ++ zq_cv ad (.ref q) :: rest.map (zq_cv ad)
      rw [e4]
      simp [List.map_reverse]
    · have h5 := zq_cats (rest.map (zq_cv ad))
      rw [List.length_map] at h5
      omega
  · exact hP.elim
theorem zs_callS (C : zq_C X cc nL own d) (hM : zq_M y bytes maxL ret rk d1 spec) (hdd : d1 + 1 ≤ d) (hy : zq_y y bytes maxL ret n) (h1 : Cond.methodLink own ix y ∈ zq_tb) (h2 : Cond.static y ∈ zq_tb)
    (hd : decode cc pc = .ok (.invokestatic ix, 3)) (k : zq_ok X nL (pc + 3) K) : zq_ok X nL pc (zi_callS n spec K) := by
  obtain ⟨p', l, e, R, s, m, args, below, meth, c, D, Y, ad, A, kc, kn, Z⟩ := X
  obtain ⟨hx, hb, hml, hown, hts, hK, hR1, hR2, hR3, hR4, hE⟩ := C
  intro ls st h H locs a hP hl hw hD hS
  unfold zi_callS at hP
  split at hP
  · next as rest htk =>
    obtain ⟨hlen, hsp⟩ := hP
    obtain ⟨pre, e1, e2, e3⟩ := zq_tk_eq _ _ _ _ _ htk
    rw [List.append_nil] at e3
    have e4 : pre = as.reverse := by rw [e3, List.reverse_reverse]
    subst e2
    have e5 : as.length = n := by rw [e3, List.length_reverse]; exact e1
    refine zq_behind (rest := rest) (va_runS (As := as.map (zq_cv ad)) (rest := rest.map (zq_cv ad)) ⟨hx, hb, hml, hown, hts⟩ (hM l D Y ad _ h _ hsp) ⟨callB_of n hts (zq_goodC hy) rfl rfl rfl (hts _ hy.2.1) (hts _ h1) hy.2.2.1 ⟨?_, ?_⟩, hts _ h2⟩ ⟨zq_blind, ?_⟩ rfl (by rw [List.length_map]; exact e5) hl.1 ?_ (lv_room ?_) hd ⟨hR3, hR4⟩) hl hD hS k
    · show d1 + 1 ≤ R.frames
      omega
    · have := hy.2.2.2
      show 8 + (maxL + 11) + 64 * d1 ≤ R.locals
      omega
    · intro U hU hW
      exact ⟨rfl, ⟨by rw [hU]; exact hw, va_K.moved hW.alike hK, hD.weaken (fun _ _ _ _ => trivial)⟩, zq_E_call hE hS (zq_AA hD) hU hW⟩
    · show (pre ++ rest).map (zq_cv ad) = (as.map (zq_cv ad)).reverse ++ rest.map (zq_cv ad)
      rw [e4]
      simp [List.map_reverse]
    · have h5 := zq_cats (rest.map (zq_cv ad))
      rw [List.length_map] at h5
      omega
  · exact hP.elim
end ZS
