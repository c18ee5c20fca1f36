/-! ===== the law's entry ===== -/
theorem zw_28 : Cond.methodLink RL 22 yX11_init ∈ zq_tb := zq_in1 (i := 28) rfl rfl
theorem zw_29 : Cond.instanceMethod yX11_init ∈ zq_tb := zq_in1 (i := 29) rfl rfl
theorem zw_30 : Cond.code yX11_init cX11_init 1 none ∈ zq_tb := zq_in1 (i := 30) rfl rfl
theorem zw_1092 : Cond.methodLink RL 25 yX12_init ∈ zq_tb := zq_in5 (i := 132) rfl rfl
theorem zw_1093 : Cond.instanceMethod yX12_init ∈ zq_tb := zq_in5 (i := 133) rfl rfl
theorem zw_1094 : Cond.code yX12_init cX12_init 1 none ∈ zq_tb := zq_in5 (i := 134) rfl rfl
theorem zv_27 : Cond.instantiable RX11 16 ∈ zq_tb := zq_in1 (i := 27) rfl rfl
theorem zv_1091 : Cond.instantiable RX12 67 ∈ zq_tb := zq_in5 (i := 131) rfl rfl
theorem zv_26 : Cond.classLink RL 8 RX11 ∈ zq_tb := zq_in1 (i := 26) rfl rfl
theorem zv_1090 : Cond.classLink RL 23 RX12 ∈ zq_tb := zq_in5 (i := 130) rfl rfl
def zV0 : zV := ((0, fun _ => 0), (0, fun _ => 0, fun _ => 0, fun _ => 0), (0, fun _ => 0, fun _ => 0), (0, fun _ => Sum.inl 0), (fun _ => -1, 0, fun _ _ => 0, fun _ => none), (0, fun _ => 0, fun _ => 0), [])
def zh0 : zq_H := (fun _ _ => 0, fun _ _ => 0)
theorem zno {P : Nat → Prop} : ∀ i, i < 0 → P i := fun i hi => absurd hi (Nat.not_lt_zero i)
theorem ZV0 : ZV zV0 := ⟨⟨zno, zno⟩, ⟨zno, zno⟩, ⟨Nat.zero_le _, zno⟩, zno, zno, (fun j f _ h => by
  have h : (none : Option (Nat → Int32)) = some f := h
  cases h), zno⟩
theorem XA0 : XA zV0 zh0 := by
  refine ⟨⟨⟨Nat.zero_le _, rfl, zno⟩, ⟨Nat.zero_le _, rfl, zno, zno⟩, ⟨rfl, zno⟩, ⟨Nat.zero_le _, zno, ⟨rfl, Nat.zero_le _⟩, zno, 0, by decide, rfl, fun j _ => ?_⟩, ⟨Nat.zero_le _, rfl, zno⟩, ⟨⟨rfl, Nat.zero_le _, Nat.zero_le _⟩, zno⟩, fun _ _ => rfl⟩, ⟨rfl, Nat.zero_le _, fun i hi => ⟨rfl, ?_, ?_⟩⟩, ⟨Nat.zero_le _, rfl, fun i x hx => ?_⟩⟩
  · exact Nat.zero_testBit j
  · exact (by decide : (0 : Int32) ≤ 0)
  · exact (by decide : (0 : Int32) ≤ 255)
  · cases hx
theorem MA0 : MA 0 zV0 zh0 := by
  refine ⟨⟨⟨Nat.zero_le _, rfl, zno⟩, ⟨Nat.zero_le _, rfl, zno, zno⟩, ⟨rfl, zno⟩, ⟨Nat.zero_le _, zno, ⟨rfl, Nat.zero_le _⟩, zno, 0, Nat.le_refl _, rfl, fun j _ => ⟨Or.inl rfl, ⟨0, Nat.le_refl _, rfl⟩, fun z => ?_⟩⟩, ⟨Nat.zero_le _, rfl, zno⟩⟩, ⟨rfl, Nat.zero_le _, fun i hi => ⟨rfl, ?_, ?_⟩⟩, ⟨Nat.zero_le _, rfl, fun i x hx => ?_⟩⟩
  · exact absurd (show (0 : Int32) = 1 from z.1) (by decide)
  · exact (by decide : (0 : Int32) ≤ 0)
  · exact (by decide : (0 : Int32) ≤ 255)
  · cases hx
/-! the classes, the arrays' classes -/
theorem zk_cls {s : State} {args : Array Value} (hts : ∀ w ∈ zq_tb, w.before args s = true) : ∀ k : Nat, ∃ (cC : ClassId) (iS : Nat → Nat), ∀ q : vw_C, vwCl[k]? = some q → u_Kn s q.1 q.2.1 q.2.2 cC iS := by
  intro k
  match k with
  | 0 =>
    obtain ⟨a, b, h⟩ := u_known hts zF0.2.1 (hts _ zv_115)
    exact ⟨a, b, fun q hq => by cases hq; exact h⟩
  | 1 =>
    obtain ⟨a, b, h⟩ := u_known hts zF1.2.1 (hts _ zv_139)
    exact ⟨a, b, fun q hq => by cases hq; exact h⟩
  | 2 =>
    obtain ⟨a, b, h⟩ := u_known hts zF2.2.1 (hts _ zv_256)
    exact ⟨a, b, fun q hq => by cases hq; exact h⟩
  | 3 =>
    obtain ⟨a, b, h⟩ := u_known hts zF3.2.1 (hts _ zv_72)
    exact ⟨a, b, fun q hq => by cases hq; exact h⟩
  | 4 =>
    obtain ⟨a, b, h⟩ := u_known hts zF4.2.1 (hts _ zv_172)
    exact ⟨a, b, fun q hq => by cases hq; exact h⟩
  | 5 =>
    obtain ⟨a, b, h⟩ := u_known hts zF5.2.1 (hts _ zv_56)
    exact ⟨a, b, fun q hq => by cases hq; exact h⟩
  | 6 =>
    obtain ⟨a, b, h⟩ := u_known hts zF6.2.1 (hts _ zv_285)
    exact ⟨a, b, fun q hq => by cases hq; exact h⟩
  | 7 =>
    obtain ⟨a, b, h⟩ := u_known hts zF7.2.1 (hts _ zv_205)
    exact ⟨a, b, fun q hq => by cases hq; exact h⟩
  | 8 =>
    obtain ⟨a, b, h⟩ := u_known hts zF8.2.1 (hts _ zv_35)
    exact ⟨a, b, fun q hq => by cases hq; exact h⟩
  | 9 =>
    obtain ⟨a, b, h⟩ := u_known hts zF9.2.1 (hts _ zv_233)
    exact ⟨a, b, fun q hq => by cases hq; exact h⟩
  | 10 =>
    obtain ⟨a, b, h⟩ := u_known hts zF10.2.1 (hts _ zv_96)
    exact ⟨a, b, fun q hq => by cases hq; exact h⟩
  | 11 =>
    obtain ⟨a, b, h⟩ := u_known hts zF11.2.1 (hts _ zv_27)
    exact ⟨a, b, fun q hq => by cases hq; exact h⟩
  | 12 =>
    obtain ⟨a, b, h⟩ := u_known hts zF12.2.1 (hts _ zv_1091)
    exact ⟨a, b, fun q hq => by cases hq; exact h⟩
  | k + 13 =>
    obtain ⟨a, b, h⟩ := u_known hts zF0.2.1 (hts _ zv_115)
    exact ⟨a, b, fun q hq => by simp [vwCl] at hq⟩
theorem zk_arr {s : State} {args : Array Value} {ty : FieldType} (h : (Cond.arrayClass ty).before args s = true) (hra : ∀ cA, s.vm.findClass ("[" ++ ty.toString) = some cA → va_RA s cA ty) : ∃ cA, ArrOfT s cA ty ∧ va_RA s cA ty := by
  obtain ⟨cA, k, comp, f1, f2, f3⟩ := Cond.arrayClass_spec h
  exact ⟨cA, fun N z => ⟨(fun k h => by cases h), k, f2, comp, f3⟩, hra cA f1⟩
theorem zk_all {s : State} {args : Array Value} (hts : ∀ w ∈ zq_tb, w.before args s = true) : ∃ (D : va_G) (Y : zq_Y), va_K D vwCl (zq_ty Y) s := by
  obtain ⟨dC, h1⟩ := Classical.axiomOfChoice (zk_cls hts)
  obtain ⟨dI, h2⟩ := Classical.axiomOfChoice h1
  obtain ⟨y1, a1⟩ := zk_arr (hts _ zv_54) (fun _ h => h)
  obtain ⟨y2, a2⟩ := zk_arr (hts _ zv_70) (fun _ h => h)
  obtain ⟨y3, a3⟩ := zk_arr (hts _ zv_1298) (fun _ h => h)
  refine ⟨(dC, dI), (y1, y2, y3), fun k q hq => h2 k q hq, fun k q hk => ?_⟩
  match k, hk with
  | 0, hk => cases hk; exact a1
  | 1, hk => cases hk; exact a2
  | 2, hk => cases hk; exact a3
  | k + 3, hk => simp [zq_ty] at hk
/-! the texts, the statics -/
def zk_F : List Cond := flatC (Jvm.Cond.and given_1 narrow_1)
def zk_tm (i : Nat) : Term := .string "ToOneCrumbModel" (zq_str.getD i (0, "")).1
theorem zk_hex : ∀ i : Nat, i < 8 → Cond.exactly (zk_tm i) "java/lang/String" ∈ zk_F := by decide +kernel
theorem zk_hco : ∀ i : Nat, i < 8 → Cond.eq (.field (zk_tm i) "java/lang/String" "coder" "B") (.int 0) ∈ zk_F := by decide +kernel
theorem zk_har : ∀ i : Nat, i < 8 → Cond.arrayOf (.field (zk_tm i) "java/lang/String" "value" "[B") .byte ∈ zk_F := by decide +kernel
theorem zk_hle : ∀ i : Nat, i < 8 → Cond.eq (.length (.field (zk_tm i) "java/lang/String" "value" "[B")) (.int (Int32.ofNat (zq_len.getD i 0))) ∈ zk_F := by decide +kernel
theorem zk_hel : ∀ i : Nat, i < 8 → ∀ j : Nat, j < zq_len.getD i 0 → Cond.eq (.elem (.field (zk_tm i) "java/lang/String" "value" "[B") (.int (Int32.ofNat j))) (.int ((zq_byt.getD i []).getD j 0)) ∈ zk_F := by decide +kernel
theorem zk_hne : ∀ i : Nat, i < 8 → ∀ j : Nat, j < 8 → i ≠ j → Cond.not (Cond.eq (zk_tm i) (zk_tm j)) ∈ zk_F ∨ Cond.not (Cond.eq (zk_tm j) (zk_tm i)) ∈ zk_F := by decide +kernel
theorem zk_hN : ∀ i : Nat, i < 8 → zq_len.getD i 0 < 2 ^ 31 := by decide
theorem zk_ref : ∀ i : Nat, i < 8 → Cond.stringRef "ToOneCrumbModel" (zq_str.getD i (0, "")).1 (zq_str.getD i (0, "")).2 ∈ tables_1 := by decide +kernel
theorem zk_ths : ∀ q ∈ zthS, Cond.stringRef "ToOneCrumb" q.1 q.2 ∈ tables_1 ∧ Cond.exactly (.string "ToOneCrumb" q.1) "java/lang/String" ∈ zk_F := by decide +kernel
theorem zk_thB : ∀ w ∈ zthB, w ∈ tables_1 := by decide +kernel
theorem zk_nl : ∀ w ∈ zn_nl, w ∈ tables_1 := by decide +kernel
theorem zk_st : (∀ w ∈ [Cond.laysStatic "java/lang/String" "COMPACT_STRINGS" "Z", Cond.initialized "java/lang/String", Cond.laysStatic "jdk/internal/util/Preconditions" "SIOOBE_FORMATTER" "Ljava/util/function/BiFunction;", Cond.initialized "jdk/internal/util/Preconditions", Cond.laysStatic Bundle.tN "UNASSIGNED_STACK" Bundle.steD, Cond.laysStatic Bundle.tN "SUPPRESSED_SENTINEL" Bundle.listD, Cond.initialized Bundle.tN], w ∈ tables_1) ∧ ∀ w ∈ [Cond.eq (.static "java/lang/String" "COMPACT_STRINGS" "Z") (.int 1), Cond.isRef (.static "jdk/internal/util/Preconditions" "SIOOBE_FORMATTER" "Ljava/util/function/BiFunction;"), Cond.isRef (.static Bundle.tN "UNASSIGNED_STACK" Bundle.steD), Cond.isRef (.static Bundle.tN "SUPPRESSED_SENTINEL" Bundle.listD)], w ∈ zk_F := by decide +kernel
theorem zk_isN {w : Cond} (h : zq_isN w = true) : w.onTables = true := by
  unfold zq_isN at h
  split at h
  · rfl
  · cases h
theorem zk_nlT : ∀ w ∈ zn_nl, w.onTables = true := by decide +kernel
theorem zk_nlW {s U : State} (hW : s.WarmedH U.vm) (h : zn_E s) : zn_E U := by
  intro w hw
  have h1 := h w hw
  simp only [zn_nl, List.mem_cons, List.not_mem_nil, or_false] at hw
  rcases hw with rfl | rfl | rfl | rfl | rfl | rfl | rfl | rfl | rfl | rfl | rfl <;> exact va_Nw.warmM hW h1
/-- the addresses by their places -/
def zl_ad (a : Nat) (u : Nat → Nat) (a2 : Nat) (u2 : Nat → Nat) (q3 b : Nat) (kK kV : Nat → Nat) (f : Nat) (k : Nat) : Nat :=
  if k < 103 then (if k = 0 then a else if k < 56 then u (k - 1) else if k = 56 then a2 else if k < 102 then u2 (k - 57) else q3) else if k = 150 then b else if k < 300 then kK (k - 200) else if k < 500 then kV (k - 300) else f
theorem zl_adK {a a2 q3 b f : Nat} {u u2 kK kV : Nat → Nat} {i : Nat} (hi : i < 8) : zl_ad a u a2 u2 q3 b kK kV f (200 + i) = kK i := by
  unfold zl_ad
  rw [if_neg (by omega), if_neg (by omega), if_pos (by omega), Nat.add_sub_cancel_left]
theorem zl_adV {a a2 q3 b f : Nat} {u u2 kK kV : Nat → Nat} {i : Nat} (hi : i < 8) : zl_ad a u a2 u2 q3 b kK kV f (300 + i) = kV i := by
  unfold zl_ad
  rw [if_neg (by omega), if_neg (by omega), if_neg (by omega), if_pos (by omega), Nat.add_sub_cancel_left]
theorem zk_E {s : State} {b : Nat} {A : Nat → Prop} (hts : ∀ w ∈ lw_tbl, w.before #[Value.ref b] s = true) (hgv : (Jvm.Cond.and given_1 narrow_1).before #[Value.ref b] s = true) (hA : ∀ a : Nat, a < s.heap.size → ¬ A a) : ∃ (kK kV : Nat → Nat) (f : Nat), ∀ (a : Nat) (u : Nat → Nat) (a2 : Nat) (u2 : Nat → Nat) (q3 : Nat), zq_E (zl_ad a u a2 u2 q3 b kK kV f) A s s.heap := by
  have hs : ∀ w ∈ zk_F, w.before #[Value.ref b] s = true := flat_of_before _ hgv
  have ht : ∀ w ∈ tables_1, w.before #[Value.ref b] s = true := fun w hw => hts w (List.mem_append_right _ hw)
  obtain ⟨kK, kV, h1, h2⟩ := vk_Sof (tm := zk_tm) (A := A) zk_hN (fun i hi => hs _ (zk_hex i hi)) (fun i hi => hs _ (zk_hco i hi)) (fun i hi => hs _ (zk_har i hi)) (fun i hi => hs _ (zk_hle i hi)) (fun i hi j hj => hs _ (zk_hel i hi j hj)) (fun i j hi hj hn => (zk_hne i hi j hj hn).imp (fun z => hs _ z) (fun z => hs _ z)) hA
  obtain ⟨t1, t2⟩ := zk_st
  have hz : va_Z "java/lang/String" "COMPACT_STRINGS" "Z" (.int 1) A s s.heap := va_Zof (ht _ (t1 _ (by decide +kernel))) (ht _ (t1 _ (by decide +kernel))) (va_eqi (hs _ (t2 _ (by decide +kernel)))) hA
  have hn : ∀ w ∈ zq_nw, va_Nw w s := fun w hw => va_Nw.of (zk_isN (List.mem_filter.mp hw).2) (ht _ (List.mem_filter.mp hw).1)
  have hq : va_Zq "jdk/internal/util/Preconditions" "SIOOBE_FORMATTER" "Ljava/util/function/BiFunction;" A s s.heap := va_Zqof (ht _ (t1 _ (by decide +kernel))) (ht _ (t1 _ (by decide +kernel))) (hs _ (t2 _ (by decide +kernel))) hA
  have base : ∀ f : Nat, ∀ (a : Nat) (u : Nat → Nat) (a2 : Nat) (u2 : Nat → Nat) (q3 : Nat), (va_Z "jdk/internal/util/Preconditions" "SIOOBE_FORMATTER" "Ljava/util/function/BiFunction;" .null A s s.heap ∨ va_Z "jdk/internal/util/Preconditions" "SIOOBE_FORMATTER" "Ljava/util/function/BiFunction;" (.ref f) A s s.heap) → zq_E (zl_ad a u a2 u2 q3 b kK kV f) A s s.heap := by
    intro f a u a2 u2 q3 h9
    refine ⟨⟨fun i hi => ?_, fun i j hi hj e => ?_⟩, fun i q hq => ?_, hz, hn, h9⟩
    · have h3 := h1.1 i hi
      rw [← zl_adK (a := a) (u := u) (a2 := a2) (u2 := u2) (q3 := q3) (b := b) (kK := kK) (kV := kV) (f := f) hi] at h3
      rw [← zl_adV (a := a) (u := u) (a2 := a2) (u2 := u2) (q3 := q3) (b := b) (kK := kK) (kV := kV) (f := f) hi] at h3
      exact h3
    · refine h1.2 i j hi hj ?_
      have e : zl_ad a u a2 u2 q3 b kK kV f (200 + i) = zl_ad a u a2 u2 q3 b kK kV f (200 + j) := e
      rwa [zl_adK hi, zl_adK hj] at e
    · have hi : i < 8 := (List.getElem?_eq_some_iff.mp hq).1
      have e : zq_str.getD i (0, "") = q := by simp [List.getD, hq]
      have r1 := ht _ (zk_ref i hi)
      have r2 := h2 i hi
      unfold zk_tm at r2
      rw [e] at r1 r2
      rw [zl_adK hi]
      exact vk_R.of r1 r2
  rcases hq with hq | ⟨t, hq⟩
  · exact ⟨kK, kV, 0, fun a u a2 u2 q3 => base 0 a u a2 u2 q3 (Or.inl hq)⟩
  · exact ⟨kK, kV, t, fun a u a2 u2 q3 => base t a u a2 u2 q3 (Or.inr hq)⟩
theorem zk_T {s : State} {b : Nat} {A : Nat → Prop} (hts : ∀ w ∈ lw_tbl, w.before #[Value.ref b] s = true) (hgv : (Jvm.Cond.and given_1 narrow_1).before #[Value.ref b] s = true) (hA : ∀ a : Nat, a < s.heap.size → ¬ A a) : zq_T A s s.heap := by
  have hs : ∀ w ∈ zk_F, w.before #[Value.ref b] s = true := flat_of_before _ hgv
  have ht : ∀ w ∈ tables_1, w.before #[Value.ref b] s = true := fun w hw => hts w (List.mem_append_right _ hw)
  obtain ⟨t1, t2⟩ := zk_st
  refine ⟨fun w hw => va_Nw.of (zthB_tab w hw) (ht _ (zk_thB w hw)), ?_, ?_, fun q hq => ?_⟩
  · exact vx_Zqof (ht _ (t1 _ (by decide +kernel))) (ht _ (t1 _ (by decide +kernel))) (hs _ (t2 _ (by decide +kernel))) hA
  · exact vx_Zqof (ht _ (t1 _ (by decide +kernel))) (ht _ (t1 _ (by decide +kernel))) (hs _ (t2 _ (by decide +kernel))) hA
  · obtain ⟨r1, r2⟩ := zk_ths q hq
    obtain ⟨a, c, cell, k, q1, -⟩ := Cond.exactly_spec (args := #[Value.ref b]) (first := s) (o := none) (s := s) (idx := []) (hs _ r2)
    exact ⟨a, vk_R.of (ht _ r1) q1⟩
def zlW11 (Y : zq_Y) (a : Nat) (u : Nat → Nat) : va_W := [(a, .inr (11, [.ref (u 0), .ref (u 2), .ref (u 4), .ref (u 8), .ref (u 11), .ref (u 14), .ref (u 21), .ref (u 28), .ref (u 33), .ref (u 37), .ref (u 38), .ref (u 39), .ref (u 43), .ref (u 47), .ref (u 51), .int 0])), (u 0, .inr (8, [.ref (u 1), .int 0, .int 0, .int 0])), (u 1, .inl (Y.1, 80, .inl (fun _ => 0))), (u 2, .inr (5, [.ref (u 3), .int 0])), (u 3, .inl (Y.2.1, 16, .inr (.inl (fun _ => 0)))), (u 4, .inr (3, [.ref (u 5), .ref (u 6), .ref (u 7), .int 0])), (u 5, .inl (Y.1, 18, .inl (fun _ => 0))), (u 6, .inl (Y.1, 6, .inl (fun _ => 0))), (u 7, .inl (Y.1, 6, .inl (fun _ => 0))), (u 8, .inr (10, [.ref (u 9), .ref (u 10), .int 0])), (u 9, .inl (Y.1, 96, .inl (fun _ => 0))), (u 10, .inl (Y.1, 102, .inl (fun _ => 0))), (u 11, .inr (0, [.ref (u 12), .ref (u 13), .long 0, .int 0, .int 0])), (u 12, .inl (Y.2.1, 15, .inr (.inl (fun _ => 0)))), (u 13, .inl (Y.2.1, 3, .inr (.inl (fun _ => 0)))), (u 14, .inr (1, [.ref (u 15), .ref (u 16), .ref (u 17), .ref (u 18), .ref (u 19), .ref (u 20), .int 0, .int 0])), (u 15, .inl (Y.1, 12, .inl (fun _ => 0))), (u 16, .inl (Y.1, 12, .inl (fun _ => 0))), (u 17, .inl (Y.1, 3, .inl (fun _ => 0))), (u 18, .inl (Y.1, 3, .inl (fun _ => 0))), (u 19, .inl (Y.1, 16, .inl (fun _ => 0))), (u 20, .inl (Y.1, 256, .inl (fun _ => 0))), (u 21, .inr (4, [.ref (u 22), .ref (u 23), .ref (u 24), .ref (u 25), .ref (u 26), .ref (u 27), .int 0, .int 0])), (u 22, .inl (Y.1, 6, .inl (fun _ => 0))), (u 23, .inl (Y.2.1, 6, .inr (.inl (fun _ => 0)))), (u 24, .inl (Y.2.1, 6, .inr (.inl (fun _ => 0)))), (u 25, .inl (Y.1, 102, .inl (fun _ => 0))), (u 26, .inl (Y.1, 64, .inl (fun _ => 0))), (u 27, .inl (Y.1, 6, .inl (fun _ => 0))), (u 28, .inr (7, [.ref (u 29), .ref (u 30), .ref (u 31), .ref (u 32), .int 0, .int 0, .int 0])), (u 29, .inl (Y.1, 4, .inl (fun _ => 0))), (u 30, .inl (Y.1, 4, .inl (fun _ => 0))), (u 31, .inl (Y.1, 16, .inl (fun _ => 0))), (u 32, .inl (Y.1, 16, .inl (fun _ => 0))), (u 33, .inr (9, [.ref (u 34), .ref (u 35), .ref (u 36), .int 0])), (u 34, .inl (Y.1, 16, .inl (fun _ => 0))), (u 35, .inl (Y.1, 96, .inl (fun _ => 0))), (u 36, .inl (Y.1, 6, .inl (fun _ => 0))), (u 37, .inl (Y.1, 80, .inl (fun _ => 0))), (u 38, .inl (Y.1, 17, .inl (fun _ => 0))), (u 39, .inr (2, [.ref (u 40), .ref (u 41), .ref (u 42), .int 0])), (u 40, .inl (Y.1, 16, .inl (fun _ => 0))), (u 41, .inl (Y.1, 16, .inl (fun _ => 0))), (u 42, .inl (Y.1, 16, .inl (fun _ => 0))), (u 43, .inr (2, [.ref (u 44), .ref (u 45), .ref (u 46), .int 0])), (u 44, .inl (Y.1, 16, .inl (fun _ => 0))), (u 45, .inl (Y.1, 16, .inl (fun _ => 0))), (u 46, .inl (Y.1, 16, .inl (fun _ => 0))), (u 47, .inr (6, [.ref (u 48), .ref (u 49), .ref (u 50), .int 0, .int 0, .int 0, .int 0, .int 0])), (u 48, .inl (Y.1, 40, .inl (fun _ => 0))), (u 49, .inl (Y.1, 40, .inl (fun _ => 0))), (u 50, .inl (Y.1, 40, .inl (fun _ => 0))), (u 51, .inr (6, [.ref (u 52), .ref (u 53), .ref (u 54), .int 0, .int 0, .int 0, .int 0, .int 0])), (u 52, .inl (Y.1, 40, .inl (fun _ => 0))), (u 53, .inl (Y.1, 40, .inl (fun _ => 0))), (u 54, .inl (Y.1, 40, .inl (fun _ => 0)))]
def zlW12 (Y : zq_Y) (a : Nat) (u : Nat → Nat) : va_W := [(a, .inr (12, [.int 0, .int 0, .ref (u 0), .int 0, .int 0, .int 0, .ref (u 1), .ref (u 2), .ref (u 3), .ref (u 4), .ref (u 5), .ref (u 6), .ref (u 7), .int 0, .int 0, .int 0, .int 0, .ref (u 8), .ref (u 9), .ref (u 10), .ref (u 11), .int 0, .ref (u 12), .ref (u 13), .ref (u 14), .int 0, .int 0, .ref (u 15), .ref (u 16), .ref (u 17), .ref (u 18), .int 0, .ref (u 19), .ref (u 20), .ref (u 21), .ref (u 22), .ref (u 23), .int 0, .ref (u 24), .ref (u 25), .int 0, .ref (u 26), .ref (u 27), .int 0, .ref (u 28), .ref (u 29), .ref (u 30), .int 0, .ref (u 31), .int 0, .int 0, .ref (u 32), .ref (u 33), .int 0, .ref (u 34), .ref (u 35), .ref (u 36), .ref (u 37), .ref (u 38), .ref (u 39), .ref (u 40), .long 0, .long 0, .ref (u 41), .ref (u 42), .ref (u 43), .ref (u 44)])), (u 0, .inl (Y.2.1, 24, .inr (.inl (fun _ => 0)))), (u 1, .inl (Y.1, 16, .inl (fun _ => 0))), (u 2, .inl (Y.1, 16, .inl (fun _ => 0))), (u 3, .inl (Y.2.2, 16, .inl (fun _ => 0))), (u 4, .inl (Y.1, 18, .inl (fun _ => 0))), (u 5, .inl (Y.1, 6, .inl (fun _ => 0))), (u 6, .inl (Y.1, 16, .inl (fun _ => 0))), (u 7, .inl (Y.1, 80, .inl (fun _ => 0))), (u 8, .inl (Y.1, 16, .inl (fun _ => 0))), (u 9, .inl (Y.1, 16, .inl (fun _ => 0))), (u 10, .inl (Y.2.2, 16, .inl (fun _ => 0))), (u 11, .inl (Y.1, 18, .inl (fun _ => 0))), (u 12, .inl (Y.1, 6, .inl (fun _ => 0))), (u 13, .inl (Y.1, 80, .inl (fun _ => 0))), (u 14, .inl (Y.1, 80, .inl (fun _ => 0))), (u 15, .inl (Y.1, 80, .inl (fun _ => 0))), (u 16, .inl (Y.1, 9, .inl (fun _ => 0))), (u 17, .inl (Y.1, 96, .inl (fun _ => 0))), (u 18, .inl (Y.1, 6, .inl (fun _ => 0))), (u 19, .inl (Y.1, 256, .inl (fun _ => 0))), (u 20, .inl (Y.1, 60, .inl (fun _ => 0))), (u 21, .inl (Y.1, 60, .inl (fun _ => 0))), (u 22, .inl (Y.1, 60, .inl (fun _ => 0))), (u 23, .inl (Y.1, 60, .inl (fun _ => 0))), (u 24, .inl (Y.1, 12, .inl (fun _ => 0))), (u 25, .inl (Y.1, 12, .inl (fun _ => 0))), (u 26, .inl (Y.1, 6, .inl (fun _ => 0))), (u 27, .inl (Y.1, 6, .inl (fun _ => 0))), (u 28, .inl (Y.1, 16, .inl (fun _ => 0))), (u 29, .inl (Y.1, 16, .inl (fun _ => 0))), (u 30, .inl (Y.1, 36, .inl (fun _ => 0))), (u 31, .inl (Y.1, 16, .inl (fun _ => 0))), (u 32, .inl (Y.1, 96, .inl (fun _ => 0))), (u 33, .inl (Y.1, 6, .inl (fun _ => 0))), (u 34, .inl (Y.1, 12, .inl (fun _ => 0))), (u 35, .inl (Y.1, 12, .inl (fun _ => 0))), (u 36, .inl (Y.1, 16, .inl (fun _ => 0))), (u 37, .inl (Y.1, 256, .inl (fun _ => 0))), (u 38, .inl (Y.1, 256, .inl (fun _ => 0))), (u 39, .inl (Y.1, 6, .inl (fun _ => 0))), (u 40, .inl (Y.1, 6, .inl (fun _ => 0))), (u 41, .inl (Y.1, 6, .inl (fun _ => 0))), (u 42, .inl (Y.2.2, 3, .inl (fun _ => 0))), (u 43, .inl (Y.1, 3, .inl (fun _ => 0))), (u 44, .inl (Y.1, 48, .inl (fun _ => 0)))]
set_option maxRecDepth 100000 in
theorem zl_ws0 {Y : zq_Y} {a a2 q3 b f : Nat} {u u2 kK kV : Nat → Nat} : zq_ws Y (zl_ad a u a2 u2 q3 b kK kV f) zh0 = zlW11 Y a u ++ zlW12 Y a2 u2 ++ [(q3, .inl (Y.2.1, 1, .inr (.inl (fun _ => 0))))] := rfl
