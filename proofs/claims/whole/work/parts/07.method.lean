/-! ===== a method's contract out of its body ===== -/
def zq_a1 (v : Value) : zq_L := match v with
  | .long x => [some (.long x), none]
  | .double x => [some (.double x), none]
  | w => [some w]
def zq_a : List Value → zq_L
  | [] => []
  | v :: r => zq_a1 v ++ zq_a r
def zq_l0 (n : Nat) (args : List Value) : zq_L := zq_a args ++ List.replicate (n - (zq_a args).length) none
theorem zq_nth_none : ∀ (n i : Nat) (v : Value), zq_nth (List.replicate n none) i = some v → False
  | 0, i, v, h => by cases h
  | n + 1, 0, v, h => by cases h
  | n + 1, i + 1, v, h => zq_nth_none n i v h
theorem zq_a_len (ad : Nat → Nat) : ∀ (args : List Value), (lg_sl (args.map (zq_cv ad))).length = (zq_a args).length
  | [] => rfl
  | v :: r => by
    have h := zq_a_len ad r
    unfold lg_sl at h ⊢
    rw [List.map_cons, List.flatMap_cons, List.length_append, h]
    show _ = (zq_a1 v ++ zq_a r).length
    rw [List.length_append]
    cases v <;> rfl
theorem zq_a_at (ad : Nat → Nat) (n : Nat) : ∀ (args : List Value) (k i : Nat) (v : Value), zq_nth (zq_a args ++ List.replicate n none) i = some v → (k + i, zq_cv ad v) ∈ lv_args k (args.map (zq_cv ad))
  | [], k, i, v, h => (zq_nth_none n i v h).elim
  | w :: r, k, i, v, h => by
    have one : ∀ (u : Value), u.category = 1 → zq_a1 u = [some u] := by
      intro u hu
      cases u <;> first | rfl | (cases hu; done)
    have two : ∀ (u : Value), u.category = 2 → zq_a1 u = [some u, none] := by
      intro u hu
      cases u <;> first | rfl | (cases hu; done)
    show _ ∈ (k, zq_cv ad w) :: lv_args (if (zq_cv ad w).category = 2 then k + 2 else k + 1) (r.map (zq_cv ad))
    rw [zq_cv_cat]
    rcases lv_cat w with hw | hw
    · rw [if_neg (by omega)]
      rw [show zq_a (w :: r) = zq_a1 w ++ zq_a r from rfl, one w hw] at h
      cases i with
      | zero =>
        cases h
        exact List.mem_cons_self
      | succ i =>
        have := zq_a_at ad n r (k + 1) i v h
        rw [show k + (i + 1) = k + 1 + i by omega]
        exact List.mem_cons_of_mem _ this
    · rw [if_pos hw]
      rw [show zq_a (w :: r) = zq_a1 w ++ zq_a r from rfl, two w hw] at h
      cases i with
      | zero =>
        cases h
        exact List.mem_cons_self
      | succ i =>
        cases i with
        | zero => cases h
        | succ i =>
          have := zq_a_at ad n r (k + 2) i v h
          rw [show k + (i + 1 + 1) = k + 2 + i by omega]
          exact List.mem_cons_of_mem _ this
def zq_rk (rk : Nat) (ret : Option FieldType) : Prop := match rk with
  | 0 => ret = none
  | 1 => ret ≠ none
  | _ => ret = some .long
theorem zq_met {y : MethodName} {cc : ByteArray} {maxL : Nat} {ret : Option FieldType} {rk d : Nat} {spec : zq_Sp} (hy : plainName y.cls = true) (hrk : rk ≤ 2)
    (body : ∀ (X : zq_X) (Q : zq_Q) (args : List Value) (h : zq_H), zq_C X cc maxL y.cls d → zq_R X ret rk Q → spec args h Q → (zq_a args).length ≤ maxL ∧ ∃ P, zq_ok X maxL 0 P ∧ P (zq_l0 maxL args) [] h) : zq_M y cc maxL ret rk d spec := by
  intro l D Y ad args h Q hsp
  refine Met.ofW (cc := cc) (maxL := maxL) (ret := ret) hy rfl ?_
  intro p e s m av below meth c s₁ B hml hv
  obtain ⟨rfl, ⟨hP, hK, hD⟩, hE⟩ := hv
  have hts := atoms_spec (ws := Cond.code y cc maxL ret :: zq_tb) B.pre
  have C : zq_C (p, l, e, (headSpec (Cond.code y cc maxL ret :: zq_tb) (zq_rm d)).room, s, m, (args.map (zq_cv ad)).toArray, below, meth, c, D, Y, ad, zq_A ad, 0, 0, MQ below (zq_Qc rk D Y ad Q) (args.map (zq_cv ad)).toArray s 0 0 (zq_A ad)) cc maxL y.cls d :=
    ⟨B.exec, B.bytes, hml, findClass_of_methodNamed B.named, fun w hw => hts w (List.mem_cons_of_mem _ hw), hK, Nat.le_refl _, Nat.le_refl _, Nat.zero_le _, Nat.zero_le _, hE⟩
  have hDA := zq_DA hD
  have Rr : zq_R (p, l, e, (headSpec (Cond.code y cc maxL ret :: zq_tb) (zq_rm d)).room, s, m, (args.map (zq_cv ad)).toArray, below, meth, c, D, Y, ad, zq_A ad, 0, 0, MQ below (zq_Qc rk D Y ad Q) (args.map (zq_cv ad)).toArray s 0 0 (zq_A ad)) ret rk Q := by
    refine ⟨B.notSynchronized, B.returns, zq_A ad, zq_Qc rk D Y ad Q, rfl, fun _ h => h, ?_⟩
    intro v h' t hk hq hP' hD' hF hW
    have hB : zq_B D Y ad (zq_A ad) h' t := ⟨hP', va_K.moved hW.alike hK, hD'⟩
    match rk, v, hk, hrk with
    | 0, none, _, _ => exact ⟨⟨h', rfl, hq, hB⟩, hF⟩
    | 1, some (.int r), _, _ => exact ⟨⟨r, h', rfl, hq, hB⟩, hF⟩
    | 2, some (.long r), _, _ => exact ⟨⟨r, h', rfl, hq, hB⟩, hF⟩
  obtain ⟨hlen, P, hok, hP0⟩ := body _ Q args h C Rr hsp
  have hle : (lg_sl (args.map (zq_cv ad))).length ≤ maxL := by rw [zq_a_len]; exact hlen
  rw [lg_entry_eq]
  refine hok _ [] h s.heap [] _ hP0 (zq_lr.of (lv_entry (args.map (zq_cv ad)) hle) ?_) hP hDA va_S.rf
  intro i v hi
  have := zq_a_at ad _ args 0 i v hi
  rwa [Nat.zero_add] at this
/-! ===== loops: at a point of a method, by a number that falls ===== -/
theorem zq_loop {X : zq_X} {nL pc : Nat} {σ : Type} (μ : σ → Nat) (Inv : σ → zq_P) (body : zq_P → zq_P) (hs : ∀ J : zq_P, zq_ok X nL pc J → zq_ok X nL pc (body J)) (hv : ∀ a ls st h, Inv a ls st h → body (fun ls st h => ∃ b, μ b < μ a ∧ Inv b ls st h) ls st h) : zq_ok X nL pc (fun ls st h => ∃ a, Inv a ls st h) := by
  have key : ∀ n a, μ a < n → zq_ok X nL pc (Inv a) := by
    intro n
    induction n with
    | zero => intro a h; omega
    | succ n ih =>
      intro a ha
      have h1 : zq_ok X nL pc (fun ls st h => ∃ b, μ b < μ a ∧ Inv b ls st h) := by
        obtain ⟨p, l, e, R, s, m, args, below, meth, c, D, Y, ad, A, kc, kn, Z⟩ := X
        intro ls st h H locs a' hP
        obtain ⟨b, hb, hI⟩ := hP
        exact ih b (by omega) ls st h H locs a' hI
      exact (hs _ h1).mono (hv a)
  obtain ⟨p, l, e, R, s, m, args, below, meth, c, D, Y, ad, A, kc, kn, Z⟩ := X
  intro ls st h H locs a' hP
  obtain ⟨a, hI⟩ := hP
  exact key (μ a + 1) a (Nat.lt_succ_self _) ls st h H locs a' hI
