/-! ===== from the law's entry to its loop ===== -/
theorem zl_start {p : Program} {e : Env} {s : State} {m : MethodId} {below : List Frame} {meth : Method} {c : Code} (l : Launch) (hflags : l.flags = flags0) {b L : Nat} {xs : Nat → Int32} (hL : L ≤ 2560) (C0 : lw_At p s m meth c b L xs) : W p l e room_1 s m #[Value.ref b] below meth c s.heap [] 0 0 (lw_Z below #[Value.ref b] s) (entryFrame m ([Value.ref b] : List Value).toArray 8) := by
  obtain ⟨hx, hb, hr, hml, hown, hts0, hX, hbl, hlk, hgv⟩ := C0
  have hb : c.code = cL_law := hb
  have hown : s.vm.findClass RL = some m.cls := hown
  have hts : ∀ w ∈ zq_tb, w.before #[Value.ref b] s = true := fun w hw => hts0 w (List.mem_filter.mp hw).1
  have hfl : l.stackTraces = false := by
    unfold Launch.stackTraces
    rw [hflags]
    decide +kernel
  have hA : ∀ q : Nat, s.heap.size ≤ q → (fun q : Nat => s.heap.size ≤ q) q := fun _ h => h
  have hA2 : ∀ q : Nat, q < s.heap.size → ¬ (fun q : Nat => s.heap.size ≤ q) q := fun _ h => Nat.not_le.mpr h
  obtain ⟨D, Y, hK⟩ := zk_all hts
  obtain ⟨kK, kV, f, hE⟩ := zk_E (A := fun q : Nat => s.heap.size ≤ q) hts0 hgv hA2
  have hT := zk_T (A := fun q : Nat => s.heap.size ≤ q) hts0 hgv hA2
  have hnE : zn_E s := fun w hw => va_Nw.of (zk_nlT w hw) (hts0 w (List.mem_append_right _ (zk_nl w hw)))
  have hS : va_S (fun q : Nat => s.heap.size ≤ q) s.heap s.heap [] := va_S.rf
  have hP : va_P D vwCl [] s.heap := fun k q h => by simp at h
  have hD : va_D (fun q : Nat => s.heap.size ≤ q) [] := ⟨fun i j p q h => by simp at h, fun k q h => by simp at h⟩
  have hl := lv_entry ([.ref b]) (n := 8) (Nat.le_of_ble_eq_true rfl)
  rw [lg_entry_eq]
  generalize (lg_sl ([.ref b]) ++ List.replicate (8 - (lg_sl ([.ref b])).length) Slot.unset).toArray = ls at hl ⊢
  have hl : lv_has ls 8 [(0, .ref b)] := hl
  refine zn_new (cj := 11) (tyB := tyX11) hx hb hts hown hK hA zF11 tyX11_ok zn_gs11 zv_26 zv_27 zw_1 dL_law_0 dL_law_3 (Nat.le_of_ble_eq_true rfl) (Nat.le_of_ble_eq_true rfl) hP hD hS (fun a H hP hD hS => ?_)
  refine zn_callI (xs := []) (nx := 0) (zn_X11_init l D Y) (fun a9 U g mk h => fun w hw => va_tabs (u := U) (U := U.calling g mk a9) (zk_nlT w hw) rfl (h w hw)) (fun U hW => zk_nlW hW hnE) hx hb hml hl.1 hts hown hK hA zw_28 zw_30 zw_1 zw_29 rfl rfl (by decide +kernel) ⟨Nat.le_of_ble_eq_true rfl, Nat.le_of_ble_eq_true rfl⟩ dL_law_4 (Nat.le_of_ble_eq_true rfl) (Nat.le_of_ble_eq_true rfl) (Nat.le_of_ble_eq_true rfl) hP hD hS (fun u H locs hP hD hS => ?_)
  have hP : va_P D vwCl (zlW11 Y a u) H := hP
  have hD : va_D (fun q : Nat => s.heap.size ≤ q) (zlW11 Y a u) := hD
  refine lv_astore_n (lv' := [(1, .ref a), (0, .ref b)]) hx hb dL_law_7 rfl hl (by decide) rfl (fun ls hl => ?_)
  refine zn_new (cj := 12) (tyB := tyX12) hx hb hts hown hK hA zF12 tyX12_ok zn_gs12 zv_1090 zv_1091 zw_13 dL_law_8 dL_law_11 (Nat.le_of_ble_eq_true rfl) (Nat.le_of_ble_eq_true rfl) hP hD hS (fun a2 H hP hD hS => ?_)
  refine zn_callI (xs := []) (nx := 0) (zn_X12_init l D Y) (fun _ _ _ _ h => h) (fun _ _ => trivial) hx hb hml hl.1 hts hown hK hA zw_1092 zw_1094 zw_13 zw_1093 rfl rfl (by decide +kernel) ⟨Nat.le_of_ble_eq_true rfl, Nat.le_of_ble_eq_true rfl⟩ dL_law_12 (Nat.le_of_ble_eq_true rfl) (Nat.le_of_ble_eq_true rfl) (Nat.le_of_ble_eq_true rfl) hP hD hS (fun u2 H locs hP hD hS => ?_)
  have hP : va_P D vwCl (zlW11 Y a u ++ zlW12 Y a2 u2) H := hP
  have hD : va_D (fun q : Nat => s.heap.size ≤ q) (zlW11 Y a u ++ zlW12 Y a2 u2) := hD
  refine lv_astore_n (lv' := [(2, .ref a2), (1, .ref a), (0, .ref b)]) hx hb dL_law_15 rfl hl (by decide) rfl (fun ls hl => ?_)
  refine lv_iconst (v := nI 1) hx hb dL_law_16 (by decide) ?_
  refine va_newa (atype := .long) (ty := .long) (N' := 1) (a0 := (1, .inr (.inl (fun _ => 0)))) hx hb (hts _ zv_70) rfl hK hP hD hS hA (fun _ => rfl) (nI_pos (by omega)) (nI_clamp (by omega)) (Nat.le_of_ble_eq_true rfl) (Nat.le_of_ble_eq_true rfl) (Nat.le_of_ble_eq_true rfl) dL_law_17 (fun q3 cA H hK1 hP hD hS => ?_)
  have e9 : cA = Y.2.1 := by
    have h1 : s.vm.findClass ("[" ++ FieldType.long.toString) = some Y.2.1 := (hK.2 1 _ rfl).2
    have h2 : s.vm.findClass ("[" ++ FieldType.long.toString) = some cA := (hK1.2 3 (cA, .long) rfl).2
    exact Option.some.inj (h2.symm.trans h1)
  subst e9
  refine lv_astore_n (lv' := [(3, .ref q3), (2, .ref a2), (1, .ref a), (0, .ref b)]) hx hb dL_law_19 rfl hl (by decide) rfl (fun ls hl => ?_)
  refine lv_iconst (v := nI 0) hx hb dL_law_20 (by decide) ?_
  refine lv_istore (lv' := [(4, .int (nI 0)), (3, .ref q3), (2, .ref a2), (1, .ref a), (0, .ref b)]) hx hb dL_law_21 hl (by decide) rfl (fun ls hl => ?_)
  rw [← zl_ws0 (b := b) (kK := kK) (kV := kV) (f := f)] at hP hD
  have C : zq_C (zlX p l e s m below meth c D Y b (zl_ad a u a2 u2 q3 b kK kV f) (0 + 1 + 55 + 1 + 45 + 1) (0 + 16 + 1494 + 67 + 1957 + 1)) cL_law 8 RL 1300 := ⟨hx, hb, hml, hown, hts, hK, Nat.le_of_ble_eq_true rfl, Nat.le_of_ble_eq_true rfl, Nat.le_of_ble_eq_true rfl, Nat.le_of_ble_eq_true rfl, hE a u a2 u2 q3⟩
  have hXs : zq_Xs (zlX p l e s m below meth c D Y b (zl_ad a u a2 u2 q3 b kK kV f) (0 + 1 + 55 + 1 + 45 + 1) (0 + 16 + 1494 + 67 + 1957 + 1)) L xs := ⟨hX, hbl, hA2 b hbl⟩
  refine law_loop hfl hT hL hr hlk 513 0 rfl _ _ _ C hXs (Nat.le_of_ble_eq_true rfl) (Nat.le_of_ble_eq_true rfl) (zll 0 none none none) [] zh0 H _ ls ⟨zV0, none, none, none, rfl, rfl, ZV0, XA0, MA0⟩ (zq_lr.of hl (fun i v hi => ?_)) hP hD hS
  match i, hi with
  | 0, hi => cases hi; exact List.mem_cons_of_mem _ (List.mem_cons_of_mem _ (List.mem_cons_of_mem _ (List.mem_cons_of_mem _ List.mem_cons_self)))
  | 1, hi => cases hi; exact List.mem_cons_of_mem _ (List.mem_cons_of_mem _ (List.mem_cons_of_mem _ List.mem_cons_self))
  | 2, hi => cases hi; exact List.mem_cons_of_mem _ (List.mem_cons_of_mem _ List.mem_cons_self)
  | 3, hi => cases hi; exact List.mem_cons_of_mem _ List.mem_cons_self
  | 4, hi => cases hi; exact List.mem_cons_self
  | 5, hi => cases hi
  | 6, hi => cases hi
  | 7, hi => cases hi
  | i + 8, hi => cases hi
