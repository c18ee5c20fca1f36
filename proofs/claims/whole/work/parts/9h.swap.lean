theorem zw_423 : Cond.methodLink RX11 118 yX0_startAnew ∈ zq_tb := zq_in2 (i := 183) rfl rfl
theorem zw_424 : Cond.instanceMethod yX0_startAnew ∈ zq_tb := zq_in2 (i := 184) rfl rfl
theorem zw_425 : Cond.selects RX0 yX0_startAnew yX0_startAnew ∈ zq_tb := zq_in2 (i := 185) rfl rfl
theorem zs9_X0_startAnew : Cond.selects yX0_startAnew.cls yX0_startAnew yX0_startAnew ∈ zq_tb := zw_425
/-! ===== two things that change places ===== -/
def zxA (k : Nat) : Nat := if 40 ≤ k ∧ k < 44 then k + 4 else if 44 ≤ k ∧ k < 48 then k - 4 else k
def zxB (k : Nat) : Nat := if 48 ≤ k ∧ k < 52 then k + 4 else if 52 ≤ k ∧ k < 56 then k - 4 else k
theorem zxA_2 (k : Nat) : zxA (zxA k) = k := by
  unfold zxA
  repeat' split
  all_goals omega
theorem zxB_2 (k : Nat) : zxB (zxB k) = k := by
  unfold zxB
  repeat' split
  all_goals omega
def zxh (σ : Nat → Nat) (h : zq_H) : zq_H := (fun p => h.1 (σ p), fun p => h.2 (σ p))
def zxv (σ : Nat → Nat) (v : Value) : Value := match v with
  | .ref k => .ref (σ k)
  | w => w
def zxl (σ : Nat → Nat) (l : zq_L) : zq_L := l.map (fun u => u.map (zxv σ))
def zxX (σ : Nat → Nat) (X : zq_X) : zq_X := match X with
  | (p, l, e, R, s, m, args, below, meth, c, D, Y, ad, A, kc, kn, Z) => (p, l, e, R, s, m, args, below, meth, c, D, Y, fun i => ad (σ i), A, kc, kn, Z)
def zxok (σ : Nat → Nat) : Prop := (∀ k, σ (σ k) = k) ∧ (∀ k, 103 ≤ k → σ k = k) ∧ σ 0 = 0 ∧ ∀ k, k < 103 → σ k < 103
theorem zxA_ok : zxok zxA := ⟨zxA_2, fun k hk => by unfold zxA; rw [if_neg (by omega), if_neg (by omega)], rfl, by decide⟩
theorem zxB_ok : zxok zxB := ⟨zxB_2, fun k hk => by unfold zxB; rw [if_neg (by omega), if_neg (by omega)], rfl, by decide⟩
theorem zxv_cv {σ ad : Nat → Nat} (h : zxok σ) (v : Value) : zq_cv (fun i => ad (σ i)) (zxv σ v) = zq_cv ad v := by
  cases v with
  | ref k =>
    show Value.ref (ad (σ (σ k))) = Value.ref (ad k)
    rw [h.1]
  | _ => rfl
theorem zxl_nth {σ : Nat → Nat} : ∀ (l : zq_L) (i : Nat), zq_nth (zxl σ l) i = (zq_nth l i).map (zxv σ)
  | [], i => rfl
  | u :: l, 0 => rfl
  | u :: l, i + 1 => zxl_nth l i
theorem zxl_lr {σ ad : Nat → Nat} (h : zxok σ) {nL : Nat} {l : zq_L} {a : Array Slot} (hl : zq_lr ad nL l a) : zq_lr (fun i => ad (σ i)) nL (zxl σ l) a := by
  refine ⟨hl.1, hl.2.1, fun q hq => ?_⟩
  obtain ⟨v, h1, h2⟩ := zq_en_of hq
  rw [zxl_nth] at h1
  obtain ⟨w, h3, h4⟩ := Option.map_eq_some_iff.mp h1
  rw [h2, ← h4, zxv_cv h]
  exact hl.at h3
theorem zxE {σ ad : Nat → Nat} (h : zxok σ) {A : Nat → Prop} {U : State} {H : Heap} (k : zq_E ad A U H) : zq_E (fun i => ad (σ i)) A U H := by
  obtain ⟨k1, k2, k3, k4, k5⟩ := k
  have e2 : (fun i => ad (σ (200 + i))) = fun i => ad (200 + i) := by
    funext i
    rw [h.2.1 _ (by omega)]
  have e3 : (fun i => ad (σ (300 + i))) = fun i => ad (300 + i) := by
    funext i
    rw [h.2.1 _ (by omega)]
  refine ⟨?_, fun i q hq => ?_, k3, k4, ?_⟩
  · show vk_S 8 zq_len zq_byt (fun i => ad (σ (200 + i))) (fun i => ad (σ (300 + i))) A U H
    rw [e2, e3]
    exact k1
  · show vk_R "ToOneCrumbModel" q.1 q.2 (ad (σ (200 + i))) U
    rw [h.2.1 _ (by omega)]
    exact k2 i q hq
  · show _ ∨ va_Z "jdk/internal/util/Preconditions" "SIOOBE_FORMATTER" "Ljava/util/function/BiFunction;" (.ref (ad (σ 500))) A U H
    rw [h.2.1 _ (by omega)]
    exact k5
theorem zxAA {σ ad : Nat → Nat} (h : zxok σ) : zq_A (fun i => ad (σ i)) = zq_A ad := by
  funext q
  refine propext ⟨fun ⟨k, hk, e⟩ => ⟨σ k, h.2.2.2 k hk, e⟩, fun ⟨k, hk, e⟩ => ⟨σ k, h.2.2.2 k hk, ?_⟩⟩
  show q = ad (σ (σ k))
  rw [h.1]
  exact e
theorem zxC {σ : Nat → Nat} (hσ : zxok σ) {X : zq_X} {cc : ByteArray} {nL d : Nat} {own : String} (C : zq_C X cc nL own d) : zq_C (zxX σ X) cc nL own d := by
  obtain ⟨p, l, e, R, s, m, args, below, meth, c, D, Y, ad, A, kc, kn, Z⟩ := X
  obtain ⟨c1, c2, c3, c4, c5, c6, c7, c8, c9, c10, c11⟩ := C
  exact ⟨c1, c2, c3, c4, c5, c6, c7, c8, c9, c10, zxE hσ c11⟩
theorem zxA_e {Y : zq_Y} {ad : Nat → Nat} {h : zq_H} : ∀ k, k < 103 → k ≠ 0 → zq_ent Y (fun i => ad (zxA i)) (zxh zxA h) k (zq_S.getD k (0, 0, [])) = zq_ent Y ad h (zxA k) (zq_S.getD (zxA k) (0, 0, []))
  | 0, _, h0 => absurd rfl h0
  | 1, _, _ => rfl
  | 2, _, _ => rfl
  | 3, _, _ => rfl
  | 4, _, _ => rfl
  | 5, _, _ => rfl
  | 6, _, _ => rfl
  | 7, _, _ => rfl
  | 8, _, _ => rfl
  | 9, _, _ => rfl
  | 10, _, _ => rfl
  | 11, _, _ => rfl
  | 12, _, _ => rfl
  | 13, _, _ => rfl
  | 14, _, _ => rfl
  | 15, _, _ => rfl
  | 16, _, _ => rfl
  | 17, _, _ => rfl
  | 18, _, _ => rfl
  | 19, _, _ => rfl
  | 20, _, _ => rfl
  | 21, _, _ => rfl
  | 22, _, _ => rfl
  | 23, _, _ => rfl
  | 24, _, _ => rfl
  | 25, _, _ => rfl
  | 26, _, _ => rfl
  | 27, _, _ => rfl
  | 28, _, _ => rfl
  | 29, _, _ => rfl
  | 30, _, _ => rfl
  | 31, _, _ => rfl
  | 32, _, _ => rfl
  | 33, _, _ => rfl
  | 34, _, _ => rfl
  | 35, _, _ => rfl
  | 36, _, _ => rfl
  | 37, _, _ => rfl
  | 38, _, _ => rfl
  | 39, _, _ => rfl
  | 40, _, _ => rfl
  | 41, _, _ => rfl
  | 42, _, _ => rfl
  | 43, _, _ => rfl
  | 44, _, _ => rfl
  | 45, _, _ => rfl
  | 46, _, _ => rfl
  | 47, _, _ => rfl
  | 48, _, _ => rfl
  | 49, _, _ => rfl
  | 50, _, _ => rfl
  | 51, _, _ => rfl
  | 52, _, _ => rfl
  | 53, _, _ => rfl
  | 54, _, _ => rfl
  | 55, _, _ => rfl
  | 56, _, _ => rfl
  | 57, _, _ => rfl
  | 58, _, _ => rfl
  | 59, _, _ => rfl
  | 60, _, _ => rfl
  | 61, _, _ => rfl
  | 62, _, _ => rfl
  | 63, _, _ => rfl
  | 64, _, _ => rfl
  | 65, _, _ => rfl
  | 66, _, _ => rfl
  | 67, _, _ => rfl
  | 68, _, _ => rfl
  | 69, _, _ => rfl
  | 70, _, _ => rfl
  | 71, _, _ => rfl
  | 72, _, _ => rfl
  | 73, _, _ => rfl
  | 74, _, _ => rfl
  | 75, _, _ => rfl
  | 76, _, _ => rfl
  | 77, _, _ => rfl
  | 78, _, _ => rfl
  | 79, _, _ => rfl
  | 80, _, _ => rfl
  | 81, _, _ => rfl
  | 82, _, _ => rfl
  | 83, _, _ => rfl
  | 84, _, _ => rfl
  | 85, _, _ => rfl
  | 86, _, _ => rfl
  | 87, _, _ => rfl
  | 88, _, _ => rfl
  | 89, _, _ => rfl
  | 90, _, _ => rfl
  | 91, _, _ => rfl
  | 92, _, _ => rfl
  | 93, _, _ => rfl
  | 94, _, _ => rfl
  | 95, _, _ => rfl
  | 96, _, _ => rfl
  | 97, _, _ => rfl
  | 98, _, _ => rfl
  | 99, _, _ => rfl
  | 100, _, _ => rfl
  | 101, _, _ => rfl
  | 102, _, _ => rfl
  | k + 103, hk, _ => absurd hk (by omega)
theorem zxA_0 {ad : Nat → Nat} {h : zq_H} : ((zq_fs ad h 0 [3, 5, 7, 11, 14, 17, 24, 31, 36, 40, 41, 42, 46, 50, 54, 0]).set 11 (.ref (ad 44))).set 12 (.ref (ad 40)) = zq_fs (fun i => ad (zxA i)) (zxh zxA h) 0 [3, 5, 7, 11, 14, 17, 24, 31, 36, 40, 41, 42, 46, 50, 54, 0] := rfl
theorem zxA_at {Y : zq_Y} {ad : Nat → Nat} {h : zq_H} {k : Nat} {q : Nat × va_E} (hq : (zq_ws Y (fun i => ad (zxA i)) (zxh zxA h))[k]? = some q) : ((zq_ws Y ad h).set 0 (ad 0, .inr (11, zq_fs (fun i => ad (zxA i)) (zxh zxA h) 0 [3, 5, 7, 11, 14, 17, 24, 31, 36, 40, 41, 42, 46, 50, 54, 0])))[zxA k]? = some q := by
  have hk : k < 103 := (zq_ws_of hq).1
  have hs : zq_S[k]? = some (zq_S.getD k (0, 0, [])) := by
    rw [List.getD_eq_getElem?_getD, List.getElem?_eq_getElem (show k < zq_S.length from hk)]
    rfl
  rw [zq_ws_at hs] at hq
  cases hq
  by_cases h0 : k = 0
  · subst h0
    rw [show zxA 0 = 0 from rfl, List.getElem?_set_self (by show 0 < (zq_ws Y ad h).length; unfold zq_ws; rw [List.length_map, List.length_range]; decide)]
    rfl
  · have hk2 := zxA_ok.2.2.2 k hk
    have hne : zxA k ≠ 0 := fun z => h0 (by
      have := zxA_2 k
      rw [z] at this
      exact this.symm)
    have hs2 : zq_S[zxA k]? = some (zq_S.getD (zxA k) (0, 0, [])) := by
      rw [List.getD_eq_getElem?_getD, List.getElem?_eq_getElem (show zxA k < zq_S.length from hk2)]
      rfl
    rw [List.getElem?_set_ne (Ne.symm hne), zq_ws_at hs2, ← zxA_e k hk h0]
theorem zxA_P {D : va_G} {Y : zq_Y} {ad : Nat → Nat} {h : zq_H} {H : Heap} (k : va_P D vwCl ((zq_ws Y ad h).set 0 (ad 0, .inr (11, zq_fs (fun i => ad (zxA i)) (zxh zxA h) 0 [3, 5, 7, 11, 14, 17, 24, 31, 36, 40, 41, 42, 46, 50, 54, 0]))) H) : va_P D vwCl (zq_ws Y (fun i => ad (zxA i)) (zxh zxA h)) H := k.by zxA (fun _ _ hq => zxA_at hq)
theorem zxA_D {A : Nat → Prop} {Y : zq_Y} {ad : Nat → Nat} {h : zq_H} (k : va_D A ((zq_ws Y ad h).set 0 (ad 0, .inr (11, zq_fs (fun i => ad (zxA i)) (zxh zxA h) 0 [3, 5, 7, 11, 14, 17, 24, 31, 36, 40, 41, 42, 46, 50, 54, 0])))) : va_D A (zq_ws Y (fun i => ad (zxA i)) (zxh zxA h)) := k.by zxA (fun _ _ hq => zxA_at hq) (fun i j _ _ e => by
  have := congrArg zxA e
  rw [zxA_2, zxA_2] at this
  exact this)
def zi_swapA (K : zq_P) (ls : zq_L) (st : List Value) (h : zq_H) : Prop := match st with
  | [.ref a, .ref b] => a = 44 ∧ b = 0 ∧ zq_nth ls 0 = some (.ref 0) ∧ zq_nth ls 2 = some (.ref 40) ∧ K (zxl zxA ls) [] (zxh zxA h)
  | _ => False
theorem zs_swapA {X : zq_X} {cc : ByteArray} {nL d pc ix1 ix2 : Nat} {own : String} {K : zq_P} (C0 : zq_C X cc nL own d) (hl1 : Cond.fieldLink own ix1 RX11 (TX11 11).2.1 (TX11 11).2.2.1 ∈ zq_tb) (hl2 : Cond.fieldLink own ix2 RX11 (TX11 12).2.1 (TX11 12).2.2.1 ∈ zq_tb) (ht1 : (TX11 11).2.2.2 = false ∧ parseFieldDescriptor (TX11 11).2.2.1 = some (.object "ToOneCrumb$Loaf")) (ht2 : (TX11 12).2.2.2 = false ∧ parseFieldDescriptor (TX11 12).2.2.1 = some (.object "ToOneCrumb$Loaf"))
    (hd1 : decode cc pc = .ok (.putfield ix1, 3)) (hd2 : decode cc (pc + 3) = .ok (.aload_n 0, 1)) (hd3 : decode cc (pc + 4) = .ok (.aload_n 2, 1)) (hd4 : decode cc (pc + 5) = .ok (.putfield ix2, 3)) (k : zq_ok (zxX zxA X) nL (pc + 8) K) : zq_ok X nL pc (zi_swapA K) := by
  obtain ⟨p, l, e, R, s, m, args, below, meth, c, D, Y, ad, A, kc, kn, Z⟩ := X
  obtain ⟨hx, hb, hml, hown, hts, hK, hR⟩ := C0
  intro ls st h H locs a hP hl hw hD hS
  unfold zi_swapA at hP
  split at hP
  · next a9 b9 =>
    obtain ⟨rfl, rfl, h0, h2, hP⟩ := hP
    obtain ⟨hc, hin, ⟨ty, hty⟩, hnm, ho⟩ := zF11
    refine va_put hx hb hts hin ty hty hnm hown hK hw hD hS _ (zq_ws_at zp_0) hc 11 (by decide) (hts _ hl1) (fun x9 h9 => by rw [ho 11 (by decide)] at h9; exact h9) ht1.1 ht1.2 rfl rfl (by simp [zq_fs]) hd1 (fun H1 locs1 hw1 hD1 hS1 => ?_)
    refine lv_aload_n hx hb hd2 rfl (hl.at h0) ?_
    refine lv_aload_n hx hb hd3 rfl (hl.at h2) ?_
    refine va_put hx hb hts hin ty hty hnm hown hK hw1 hD1 hS1 0 (List.getElem?_set_self (by unfold zq_ws; rw [List.length_map, List.length_range]; decide)) hc 12 (by decide) (hts _ hl2) (fun x9 h9 => by rw [ho 12 (by decide)] at h9; exact h9) ht2.1 ht2.2 rfl rfl (by simp [zq_fs]) hd4 (fun H2 locs2 hw2 hD2 hS2 => ?_)
    rw [List.set_set] at hw2 hD2
    exact k _ _ _ _ _ _ hP (zxl_lr zxA_ok hl) (zxA_P hw2) (zxA_D hD2) hS2
  · exact hP.elim
theorem zxB_e {Y : zq_Y} {ad : Nat → Nat} {h : zq_H} : ∀ k, k < 103 → k ≠ 0 → zq_ent Y (fun i => ad (zxB i)) (zxh zxB h) k (zq_S.getD k (0, 0, [])) = zq_ent Y ad h (zxB k) (zq_S.getD (zxB k) (0, 0, []))
  | 0, _, h0 => absurd rfl h0
  | 1, _, _ => rfl
  | 2, _, _ => rfl
  | 3, _, _ => rfl
  | 4, _, _ => rfl
  | 5, _, _ => rfl
  | 6, _, _ => rfl
  | 7, _, _ => rfl
  | 8, _, _ => rfl
  | 9, _, _ => rfl
  | 10, _, _ => rfl
  | 11, _, _ => rfl
  | 12, _, _ => rfl
  | 13, _, _ => rfl
  | 14, _, _ => rfl
  | 15, _, _ => rfl
  | 16, _, _ => rfl
  | 17, _, _ => rfl
  | 18, _, _ => rfl
  | 19, _, _ => rfl
  | 20, _, _ => rfl
  | 21, _, _ => rfl
  | 22, _, _ => rfl
  | 23, _, _ => rfl
  | 24, _, _ => rfl
  | 25, _, _ => rfl
  | 26, _, _ => rfl
  | 27, _, _ => rfl
  | 28, _, _ => rfl
  | 29, _, _ => rfl
  | 30, _, _ => rfl
  | 31, _, _ => rfl
  | 32, _, _ => rfl
  | 33, _, _ => rfl
  | 34, _, _ => rfl
  | 35, _, _ => rfl
  | 36, _, _ => rfl
  | 37, _, _ => rfl
  | 38, _, _ => rfl
  | 39, _, _ => rfl
  | 40, _, _ => rfl
  | 41, _, _ => rfl
  | 42, _, _ => rfl
  | 43, _, _ => rfl
  | 44, _, _ => rfl
  | 45, _, _ => rfl
  | 46, _, _ => rfl
  | 47, _, _ => rfl
  | 48, _, _ => rfl
  | 49, _, _ => rfl
  | 50, _, _ => rfl
  | 51, _, _ => rfl
  | 52, _, _ => rfl
  | 53, _, _ => rfl
  | 54, _, _ => rfl
  | 55, _, _ => rfl
  | 56, _, _ => rfl
  | 57, _, _ => rfl
  | 58, _, _ => rfl
  | 59, _, _ => rfl
  | 60, _, _ => rfl
  | 61, _, _ => rfl
  | 62, _, _ => rfl
  | 63, _, _ => rfl
  | 64, _, _ => rfl
  | 65, _, _ => rfl
  | 66, _, _ => rfl
  | 67, _, _ => rfl
  | 68, _, _ => rfl
  | 69, _, _ => rfl
  | 70, _, _ => rfl
  | 71, _, _ => rfl
  | 72, _, _ => rfl
  | 73, _, _ => rfl
  | 74, _, _ => rfl
  | 75, _, _ => rfl
  | 76, _, _ => rfl
  | 77, _, _ => rfl
  | 78, _, _ => rfl
  | 79, _, _ => rfl
  | 80, _, _ => rfl
  | 81, _, _ => rfl
  | 82, _, _ => rfl
  | 83, _, _ => rfl
  | 84, _, _ => rfl
  | 85, _, _ => rfl
  | 86, _, _ => rfl
  | 87, _, _ => rfl
  | 88, _, _ => rfl
  | 89, _, _ => rfl
  | 90, _, _ => rfl
  | 91, _, _ => rfl
  | 92, _, _ => rfl
  | 93, _, _ => rfl
  | 94, _, _ => rfl
  | 95, _, _ => rfl
  | 96, _, _ => rfl
  | 97, _, _ => rfl
  | 98, _, _ => rfl
  | 99, _, _ => rfl
  | 100, _, _ => rfl
  | 101, _, _ => rfl
  | 102, _, _ => rfl
  | k + 103, hk, _ => absurd hk (by omega)
theorem zxB_0 {ad : Nat → Nat} {h : zq_H} : ((zq_fs ad h 0 [3, 5, 7, 11, 14, 17, 24, 31, 36, 40, 41, 42, 46, 50, 54, 0]).set 13 (.ref (ad 52))).set 14 (.ref (ad 48)) = zq_fs (fun i => ad (zxB i)) (zxh zxB h) 0 [3, 5, 7, 11, 14, 17, 24, 31, 36, 40, 41, 42, 46, 50, 54, 0] := rfl
theorem zxB_at {Y : zq_Y} {ad : Nat → Nat} {h : zq_H} {k : Nat} {q : Nat × va_E} (hq : (zq_ws Y (fun i => ad (zxB i)) (zxh zxB h))[k]? = some q) : ((zq_ws Y ad h).set 0 (ad 0, .inr (11, zq_fs (fun i => ad (zxB i)) (zxh zxB h) 0 [3, 5, 7, 11, 14, 17, 24, 31, 36, 40, 41, 42, 46, 50, 54, 0])))[zxB k]? = some q := by
  have hk : k < 103 := (zq_ws_of hq).1
  have hs : zq_S[k]? = some (zq_S.getD k (0, 0, [])) := by
    rw [List.getD_eq_getElem?_getD, List.getElem?_eq_getElem (show k < zq_S.length from hk)]
    rfl
  rw [zq_ws_at hs] at hq
  cases hq
  by_cases h0 : k = 0
  · subst h0
    rw [show zxB 0 = 0 from rfl, List.getElem?_set_self (by show 0 < (zq_ws Y ad h).length; unfold zq_ws; rw [List.length_map, List.length_range]; decide)]
    rfl
  · have hk2 := zxB_ok.2.2.2 k hk
    have hne : zxB k ≠ 0 := fun z => h0 (by
      have := zxB_2 k
      rw [z] at this
      exact this.symm)
    have hs2 : zq_S[zxB k]? = some (zq_S.getD (zxB k) (0, 0, [])) := by
      rw [List.getD_eq_getElem?_getD, List.getElem?_eq_getElem (show zxB k < zq_S.length from hk2)]
      rfl
    rw [List.getElem?_set_ne (Ne.symm hne), zq_ws_at hs2, ← zxB_e k hk h0]
theorem zxB_P {D : va_G} {Y : zq_Y} {ad : Nat → Nat} {h : zq_H} {H : Heap} (k : va_P D vwCl ((zq_ws Y ad h).set 0 (ad 0, .inr (11, zq_fs (fun i => ad (zxB i)) (zxh zxB h) 0 [3, 5, 7, 11, 14, 17, 24, 31, 36, 40, 41, 42, 46, 50, 54, 0]))) H) : va_P D vwCl (zq_ws Y (fun i => ad (zxB i)) (zxh zxB h)) H := k.by zxB (fun _ _ hq => zxB_at hq)
theorem zxB_D {A : Nat → Prop} {Y : zq_Y} {ad : Nat → Nat} {h : zq_H} (k : va_D A ((zq_ws Y ad h).set 0 (ad 0, .inr (11, zq_fs (fun i => ad (zxB i)) (zxh zxB h) 0 [3, 5, 7, 11, 14, 17, 24, 31, 36, 40, 41, 42, 46, 50, 54, 0])))) : va_D A (zq_ws Y (fun i => ad (zxB i)) (zxh zxB h)) := k.by zxB (fun _ _ hq => zxB_at hq) (fun i j _ _ e => by
  have := congrArg zxB e
  rw [zxB_2, zxB_2] at this
  exact this)
def zi_swapB (K : zq_P) (ls : zq_L) (st : List Value) (h : zq_H) : Prop := match st with
  | [.ref a, .ref b] => a = 52 ∧ b = 0 ∧ zq_nth ls 0 = some (.ref 0) ∧ zq_nth ls 2 = some (.ref 48) ∧ K (zxl zxB ls) [] (zxh zxB h)
  | _ => False
theorem zs_swapB {X : zq_X} {cc : ByteArray} {nL d pc ix1 ix2 : Nat} {own : String} {K : zq_P} (C0 : zq_C X cc nL own d) (hl1 : Cond.fieldLink own ix1 RX11 (TX11 13).2.1 (TX11 13).2.2.1 ∈ zq_tb) (hl2 : Cond.fieldLink own ix2 RX11 (TX11 14).2.1 (TX11 14).2.2.1 ∈ zq_tb) (ht1 : (TX11 13).2.2.2 = false ∧ parseFieldDescriptor (TX11 13).2.2.1 = some (.object "ToOneCrumb$Rule")) (ht2 : (TX11 14).2.2.2 = false ∧ parseFieldDescriptor (TX11 14).2.2.1 = some (.object "ToOneCrumb$Rule"))
    (hd1 : decode cc pc = .ok (.putfield ix1, 3)) (hd2 : decode cc (pc + 3) = .ok (.aload_n 0, 1)) (hd3 : decode cc (pc + 4) = .ok (.aload_n 2, 1)) (hd4 : decode cc (pc + 5) = .ok (.putfield ix2, 3)) (k : zq_ok (zxX zxB X) nL (pc + 8) K) : zq_ok X nL pc (zi_swapB K) := by
  obtain ⟨p, l, e, R, s, m, args, below, meth, c, D, Y, ad, A, kc, kn, Z⟩ := X
  obtain ⟨hx, hb, hml, hown, hts, hK, hR⟩ := C0
  intro ls st h H locs a hP hl hw hD hS
  unfold zi_swapB at hP
  split at hP
  · next a9 b9 =>
    obtain ⟨rfl, rfl, h0, h2, hP⟩ := hP
    obtain ⟨hc, hin, ⟨ty, hty⟩, hnm, ho⟩ := zF11
    refine va_put hx hb hts hin ty hty hnm hown hK hw hD hS _ (zq_ws_at zp_0) hc 13 (by decide) (hts _ hl1) (fun x9 h9 => by rw [ho 13 (by decide)] at h9; exact h9) ht1.1 ht1.2 rfl rfl (by simp [zq_fs]) hd1 (fun H1 locs1 hw1 hD1 hS1 => ?_)
    refine lv_aload_n hx hb hd2 rfl (hl.at h0) ?_
    refine lv_aload_n hx hb hd3 rfl (hl.at h2) ?_
    refine va_put hx hb hts hin ty hty hnm hown hK hw1 hD1 hS1 0 (List.getElem?_set_self (by unfold zq_ws; rw [List.length_map, List.length_range]; decide)) hc 14 (by decide) (hts _ hl2) (fun x9 h9 => by rw [ho 14 (by decide)] at h9; exact h9) ht2.1 ht2.2 rfl rfl (by simp [zq_fs]) hd4 (fun H2 locs2 hw2 hD2 hS2 => ?_)
    rw [List.set_set] at hw2 hD2
    exact k _ _ _ _ _ _ hP (zxl_lr zxB_ok hl) (zxB_P hw2) (zxB_D hD2) hS2
  · exact hP.elim
/-! a method that may change the places: its contract -/
def zxf (σ : Nat → Nat) (f : Bool) : Nat → Nat := if f then σ else id
def zq_M2 (σ : Nat → Nat) (y : MethodName) (cc : ByteArray) (maxL : Nat) (ret : Option FieldType) (d : Nat) (spec : List Value → zq_H → zq_Q → zq_Q → Prop) : Prop :=
  ∀ (l : Launch) (D : va_G) (Y : zq_Y) (ad : Nat → Nat) (args : List Value) (h : zq_H) (Q Q2 : zq_Q), spec args h Q Q2 → Met l y (Cond.code y cc maxL ret :: zq_tb) (zq_rm d) (va_Pc (args.map (zq_cv ad)) (fun U => zq_B D Y ad (fun _ => True) h U ∧ zq_E ad (zq_A ad) U U.heap)) (fun a s o t => zq_Qc 1 D Y ad Q a s o t ∨ zq_Qc 1 D Y (fun i => ad (σ i)) Q2 a s o t) 0 0 (zq_A ad)
theorem zq_met2 {σ : Nat → Nat} (hσ : zxok σ) {y : MethodName} {cc : ByteArray} {maxL : Nat} {ret : Option FieldType} {d : Nat} {spec : List Value → zq_H → zq_Q → zq_Q → Prop} (hy : plainName y.cls = true)
    (body : ∀ (X : zq_X) (Q Q2 : zq_Q) (args : List Value) (h : zq_H), zq_C X cc maxL y.cls d → zq_R X ret 1 Q → zq_R (zxX σ X) ret 1 Q2 → spec args h Q Q2 → (zq_a args).length ≤ maxL ∧ ∃ P, zq_ok X maxL 0 P ∧ P (zq_l0 maxL args) [] h) : zq_M2 σ y cc maxL ret d spec := by
  intro l D Y ad args h Q Q2 hsp
  refine Met.ofW (cc := cc) (maxL := maxL) (ret := ret) hy rfl ?_
  intro p e s m av below meth c s₁ B hml hv
  obtain ⟨rfl, ⟨hP, hK, hD⟩, hE⟩ := hv
  have hts := atoms_spec (ws := Cond.code y cc maxL ret :: zq_tb) B.pre
  generalize hZ : (fun (a : Array Value) (s : State) (o : Outcome) (t : State) => zq_Qc 1 D Y ad Q a s o t ∨ zq_Qc 1 D Y (fun i => ad (σ i)) Q2 a s o t) = Qc
  have C : zq_C (p, l, e, (headSpec (Cond.code y cc maxL ret :: zq_tb) (zq_rm d)).room, s, m, (args.map (zq_cv ad)).toArray, below, meth, c, D, Y, ad, zq_A ad, 0, 0, MQ below Qc (args.map (zq_cv ad)).toArray s 0 0 (zq_A ad)) cc maxL y.cls d :=
    ⟨B.exec, B.bytes, hml, findClass_of_methodNamed B.named, fun w hw => hts w (List.mem_cons_of_mem _ hw), hK, Nat.le_refl _, Nat.le_refl _, Nat.zero_le _, Nat.zero_le _, hE⟩
  have hDA := zq_DA hD
  have R1 : ∀ (Q : zq_Q) (ad2 : Nat → Nat), zq_A ad2 = zq_A ad → (∀ a s o t, zq_Qc 1 D Y ad2 Q a s o t → Qc a s o t) → zq_R (p, l, e, (headSpec (Cond.code y cc maxL ret :: zq_tb) (zq_rm d)).room, s, m, (args.map (zq_cv ad)).toArray, below, meth, c, D, Y, ad2, zq_A ad, 0, 0, MQ below Qc (args.map (zq_cv ad)).toArray s 0 0 (zq_A ad)) ret 1 Q := by
    intro Q ad2 hA hq9
    refine ⟨B.notSynchronized, B.returns, zq_A ad, Qc, rfl, fun _ h => h, ?_⟩
    intro v h' t hk hq hP' hD' hF hW
    have hB : zq_B D Y ad2 (zq_A ad2) h' t := ⟨hP', va_K.moved hW.alike hK, by rw [hA]; exact hD'⟩
    match v, hk with
    | some (.int r), _ => exact hq9 _ _ _ _ ⟨⟨r, h', rfl, hq, hB⟩, by rw [hA]; exact hF⟩
  obtain ⟨hlen, P, hok, hP0⟩ := body _ Q Q2 args h C (R1 Q ad rfl (fun _ _ _ _ z => by rw [← hZ]; exact Or.inl z)) (R1 Q2 (fun i => ad (σ i)) (zxAA hσ) (fun _ _ _ _ z => by rw [← hZ]; exact Or.inr z)) hsp
  have hle : (lg_sl (args.map (zq_cv ad))).length ≤ maxL := by rw [zq_a_len]; exact hlen
  rw [lg_entry_eq]
  refine hok _ [] h s.heap [] _ hP0 (zq_lr.of (lv_entry (args.map (zq_cv ad)) hle) ?_) hP hDA va_S.rf
  intro i v hi
  have := zq_a_at ad _ args 0 i v hi
  rwa [Nat.zero_add] at this
/-! ToOneCrumb.loaf()I -/
def xW11_loaf_31 (s_X2_read : zq_Sp) (s_X8_clear : zq_Sp) (s_X8_fault : zq_Sp) (s_X0_startAnew : zq_Sp) (s_X11_renewWorths : zq_Sp) (Q : zq_Q) (Q2 : zq_Q) (ls : zq_L) (st : List Value) (h : zq_H) : Prop := (zi_aload 0 (zi_getR 0 40 (zi_astore 2 (zi_aload 0 (zi_aload 0 (zi_getR 0 44 (zi_swapA (zi_aload 0 (zi_getR 0 12 (zi_callV 0 12 s_X0_startAnew (zi_aload 0 (zi_getR 0 15 (zi_push (.int 0) (zi_putI 15 7 (zi_aload 0 (zi_callV 0 0 s_X11_renewWorths (zi_aload 0 (zi_getR 0 40 (zi_getI 40 3 (zi_iret Q2)))))))))))))))))))) ls st h
theorem kW11_loaf_31 {X : zq_X} {d : Nat} (C : zq_C X cX11_loaf 3 RX11 d) {d_X2_read : Nat} {s_X2_read : zq_Sp} (h_X2_read : zq_M yX2_read cX2_read 4 (some .boolean) 1 d_X2_read s_X2_read) (g_X2_read : d_X2_read + 1 ≤ d) {d_X8_clear : Nat} {s_X8_clear : zq_Sp} (h_X8_clear : zq_M yX8_clear cX8_clear 1 none 0 d_X8_clear s_X8_clear) (g_X8_clear : d_X8_clear + 1 ≤ d) {d_X8_fault : Nat} {s_X8_fault : zq_Sp} (h_X8_fault : zq_M yX8_fault cX8_fault 1 (some .int) 1 d_X8_fault s_X8_fault) (g_X8_fault : d_X8_fault + 1 ≤ d) {d_X0_startAnew : Nat} {s_X0_startAnew : zq_Sp} (h_X0_startAnew : zq_M yX0_startAnew cX0_startAnew 1 none 0 d_X0_startAnew s_X0_startAnew) (g_X0_startAnew : d_X0_startAnew + 1 ≤ d) {d_X11_renewWorths : Nat} {s_X11_renewWorths : zq_Sp} (h_X11_renewWorths : zq_M yX11_renewWorths cX11_renewWorths 1 none 0 d_X11_renewWorths s_X11_renewWorths) (g_X11_renewWorths : d_X11_renewWorths + 1 ≤ d) {Q : zq_Q} (hq : zq_R X (some .int) 1 Q) {Q2 : zq_Q} (hq2 : zq_R (zxX zxA X) (some .int) 1 Q2) : zq_ok X 3 31 (xW11_loaf_31 s_X2_read s_X8_clear s_X8_fault s_X0_startAnew s_X11_renewWorths Q Q2) := by
  refine zs_aload_n C dX11_loaf_31 rfl ?_
  refine zs_getR C zp_0 zF11 (j := 11) ⟨by decide, rfl⟩ zw_326 dX11_loaf_32 ?_
  refine zs_astore_n C dX11_loaf_35 rfl (by decide) ?_
  refine zs_aload_n C dX11_loaf_36 rfl ?_
  refine zs_aload_n C dX11_loaf_37 rfl ?_
  refine zs_getR C zp_0 zF11 (j := 12) ⟨by decide, rfl⟩ zw_327 dX11_loaf_38 ?_
  refine zs_swapA C zw_326 zw_327 ⟨rfl, by decide +kernel⟩ ⟨rfl, by decide +kernel⟩ dX11_loaf_41 dX11_loaf_44 dX11_loaf_45 dX11_loaf_46 ?_
  have C := zxC zxA_ok C
  have hq := hq2
  refine zs_aload_n C dX11_loaf_49 rfl ?_
  refine zs_getR C zp_0 zF11 (j := 4) ⟨by decide, rfl⟩ zw_319 dX11_loaf_50 ?_
  refine zs_callV C h_X0_startAnew g_X0_startAnew zy_X0_startAnew zp_12 (show vwCl[0]? = some (RX0, TX0, 5) from rfl) zw_423 zw_424 zs9_X0_startAnew dX11_loaf_53 ?_
  refine zs_aload_n C dX11_loaf_56 rfl ?_
  refine zs_getR C zp_0 zF11 (j := 5) ⟨by decide, rfl⟩ zw_320 dX11_loaf_57 ?_
  refine zs_iconst C dX11_loaf_60 (by decide) ?_
  refine zs_putIN C zp_15 zF1 (j := 7) ⟨by decide, rfl⟩ ⟨rfl, by decide +kernel⟩ zw_153 dX11_loaf_61 ?_
  refine zs_aload_n C dX11_loaf_64 rfl ?_
  refine zs_callV C h_X11_renewWorths g_X11_renewWorths zy_X11_renewWorths zp_0 (show vwCl[11]? = some (RX11, TX11, 16) from rfl) zw_427 zw_429 zs9_X11_renewWorths dX11_loaf_65 ?_
  refine zs_aload_n C dX11_loaf_68 rfl ?_
  refine zs_getR C zp_0 zF11 (j := 11) ⟨by decide, rfl⟩ zw_326 dX11_loaf_69 ?_
  refine zs_getIN C zp_40 zF2 (j := 3) ⟨by decide, rfl⟩ zw_273 dX11_loaf_72 ?_
  exact zs_iret C hq dX11_loaf_75
def xW11_loaf_23 (s_X2_read : zq_Sp) (s_X8_clear : zq_Sp) (s_X8_fault : zq_Sp) (s_X0_startAnew : zq_Sp) (s_X11_renewWorths : zq_Sp) (Q : zq_Q) (Q2 : zq_Q) (ls : zq_L) (st : List Value) (h : zq_H) : Prop := (zi_aload 0 (zi_getR 0 1 (zi_callV 0 1 s_X8_fault (zi_iret Q)))) ls st h
theorem kW11_loaf_23 {X : zq_X} {d : Nat} (C : zq_C X cX11_loaf 3 RX11 d) {d_X2_read : Nat} {s_X2_read : zq_Sp} (h_X2_read : zq_M yX2_read cX2_read 4 (some .boolean) 1 d_X2_read s_X2_read) (g_X2_read : d_X2_read + 1 ≤ d) {d_X8_clear : Nat} {s_X8_clear : zq_Sp} (h_X8_clear : zq_M yX8_clear cX8_clear 1 none 0 d_X8_clear s_X8_clear) (g_X8_clear : d_X8_clear + 1 ≤ d) {d_X8_fault : Nat} {s_X8_fault : zq_Sp} (h_X8_fault : zq_M yX8_fault cX8_fault 1 (some .int) 1 d_X8_fault s_X8_fault) (g_X8_fault : d_X8_fault + 1 ≤ d) {d_X0_startAnew : Nat} {s_X0_startAnew : zq_Sp} (h_X0_startAnew : zq_M yX0_startAnew cX0_startAnew 1 none 0 d_X0_startAnew s_X0_startAnew) (g_X0_startAnew : d_X0_startAnew + 1 ≤ d) {d_X11_renewWorths : Nat} {s_X11_renewWorths : zq_Sp} (h_X11_renewWorths : zq_M yX11_renewWorths cX11_renewWorths 1 none 0 d_X11_renewWorths s_X11_renewWorths) (g_X11_renewWorths : d_X11_renewWorths + 1 ≤ d) {Q : zq_Q} (hq : zq_R X (some .int) 1 Q) {Q2 : zq_Q} (hq2 : zq_R (zxX zxA X) (some .int) 1 Q2) : zq_ok X 3 23 (xW11_loaf_23 s_X2_read s_X8_clear s_X8_fault s_X0_startAnew s_X11_renewWorths Q Q2) := by
  refine zs_aload_n C dX11_loaf_23 rfl ?_
  refine zs_getR C zp_0 zF11 (j := 0) ⟨by decide, rfl⟩ zw_315 dX11_loaf_24 ?_
  refine zs_callV C h_X8_fault g_X8_fault zy_X8_fault zp_1 (show vwCl[8]? = some (RX8, TX8, 4) from rfl) zw_419 zw_420 zs9_X8_fault dX11_loaf_27 ?_
  exact zs_iret C hq dX11_loaf_30
def xW11_loaf_0 (s_X2_read : zq_Sp) (s_X8_clear : zq_Sp) (s_X8_fault : zq_Sp) (s_X0_startAnew : zq_Sp) (s_X11_renewWorths : zq_Sp) (Q : zq_Q) (Q2 : zq_Q) (ls : zq_L) (st : List Value) (h : zq_H) : Prop := (zi_aload 0 (zi_getR 0 44 (zi_aload 0 (zi_getR 0 1 (zi_callV 1 44 s_X2_read (zi_istore 1 (zi_aload 0 (zi_getR 0 1 (zi_callV 0 1 s_X8_clear (zi_iload 1 (zi_if1 (fun x => x = 0) (xW11_loaf_23 s_X2_read s_X8_clear s_X8_fault s_X0_startAnew s_X11_renewWorths Q Q2) (xW11_loaf_31 s_X2_read s_X8_clear s_X8_fault s_X0_startAnew s_X11_renewWorths Q Q2)))))))))))) ls st h
theorem kW11_loaf_0 {X : zq_X} {d : Nat} (C : zq_C X cX11_loaf 3 RX11 d) {d_X2_read : Nat} {s_X2_read : zq_Sp} (h_X2_read : zq_M yX2_read cX2_read 4 (some .boolean) 1 d_X2_read s_X2_read) (g_X2_read : d_X2_read + 1 ≤ d) {d_X8_clear : Nat} {s_X8_clear : zq_Sp} (h_X8_clear : zq_M yX8_clear cX8_clear 1 none 0 d_X8_clear s_X8_clear) (g_X8_clear : d_X8_clear + 1 ≤ d) {d_X8_fault : Nat} {s_X8_fault : zq_Sp} (h_X8_fault : zq_M yX8_fault cX8_fault 1 (some .int) 1 d_X8_fault s_X8_fault) (g_X8_fault : d_X8_fault + 1 ≤ d) {d_X0_startAnew : Nat} {s_X0_startAnew : zq_Sp} (h_X0_startAnew : zq_M yX0_startAnew cX0_startAnew 1 none 0 d_X0_startAnew s_X0_startAnew) (g_X0_startAnew : d_X0_startAnew + 1 ≤ d) {d_X11_renewWorths : Nat} {s_X11_renewWorths : zq_Sp} (h_X11_renewWorths : zq_M yX11_renewWorths cX11_renewWorths 1 none 0 d_X11_renewWorths s_X11_renewWorths) (g_X11_renewWorths : d_X11_renewWorths + 1 ≤ d) {Q : zq_Q} (hq : zq_R X (some .int) 1 Q) {Q2 : zq_Q} (hq2 : zq_R (zxX zxA X) (some .int) 1 Q2) : zq_ok X 3 0 (xW11_loaf_0 s_X2_read s_X8_clear s_X8_fault s_X0_startAnew s_X11_renewWorths Q Q2) := by
  refine zs_aload_n C dX11_loaf_0 rfl ?_
  refine zs_getR C zp_0 zF11 (j := 12) ⟨by decide, rfl⟩ zw_327 dX11_loaf_1 ?_
  refine zs_aload_n C dX11_loaf_4 rfl ?_
  refine zs_getR C zp_0 zF11 (j := 0) ⟨by decide, rfl⟩ zw_315 dX11_loaf_5 ?_
  refine zs_callV C h_X2_read g_X2_read zy_X2_read zp_44 (show vwCl[2]? = some (RX2, TX2, 4) from rfl) zw_384 zw_385 zs9_X2_read dX11_loaf_8 ?_
  refine zs_istore_n C dX11_loaf_11 rfl (by decide) ?_
  refine zs_aload_n C dX11_loaf_12 rfl ?_
  refine zs_getR C zp_0 zF11 (j := 0) ⟨by decide, rfl⟩ zw_315 dX11_loaf_13 ?_
  refine zs_callV C h_X8_clear g_X8_clear zy_X8_clear zp_1 (show vwCl[8]? = some (RX8, TX8, 4) from rfl) zw_415 zw_416 zs9_X8_clear dX11_loaf_16 ?_
  refine zs_iload_n C dX11_loaf_19 rfl ?_
  exact zs_if_ne C dX11_loaf_20 (by decide) (kW11_loaf_31 C h_X2_read g_X2_read h_X8_clear g_X8_clear h_X8_fault g_X8_fault h_X0_startAnew g_X0_startAnew h_X11_renewWorths g_X11_renewWorths hq hq2) (kW11_loaf_23 C h_X2_read g_X2_read h_X8_clear g_X8_clear h_X8_fault g_X8_fault h_X0_startAnew g_X0_startAnew h_X11_renewWorths g_X11_renewWorths hq hq2)
theorem mW11_loaf {d : Nat} {spec : List Value → zq_H → zq_Q → zq_Q → Prop} {d_X2_read : Nat} {s_X2_read : zq_Sp} (h_X2_read : zq_M yX2_read cX2_read 4 (some .boolean) 1 d_X2_read s_X2_read) (g_X2_read : d_X2_read + 1 ≤ d) {d_X8_clear : Nat} {s_X8_clear : zq_Sp} (h_X8_clear : zq_M yX8_clear cX8_clear 1 none 0 d_X8_clear s_X8_clear) (g_X8_clear : d_X8_clear + 1 ≤ d) {d_X8_fault : Nat} {s_X8_fault : zq_Sp} (h_X8_fault : zq_M yX8_fault cX8_fault 1 (some .int) 1 d_X8_fault s_X8_fault) (g_X8_fault : d_X8_fault + 1 ≤ d) {d_X0_startAnew : Nat} {s_X0_startAnew : zq_Sp} (h_X0_startAnew : zq_M yX0_startAnew cX0_startAnew 1 none 0 d_X0_startAnew s_X0_startAnew) (g_X0_startAnew : d_X0_startAnew + 1 ≤ d) {d_X11_renewWorths : Nat} {s_X11_renewWorths : zq_Sp} (h_X11_renewWorths : zq_M yX11_renewWorths cX11_renewWorths 1 none 0 d_X11_renewWorths s_X11_renewWorths) (g_X11_renewWorths : d_X11_renewWorths + 1 ≤ d) (v : ∀ args h Q Q2, spec args h Q Q2 → (zq_a args).length ≤ 3 ∧ xW11_loaf_0 s_X2_read s_X8_clear s_X8_fault s_X0_startAnew s_X11_renewWorths Q Q2 (zq_l0 3 args) [] h) : zq_M2 zxA yX11_loaf cX11_loaf 3 (some .int) d spec := by
  exact zq_met2 zxA_ok (by decide +kernel) (fun X Q Q2 args h C hq hq2 hs => ⟨(v args h Q Q2 hs).1, _, kW11_loaf_0 C h_X2_read g_X2_read h_X8_clear g_X8_clear h_X8_fault g_X8_fault h_X0_startAnew g_X0_startAnew h_X11_renewWorths g_X11_renewWorths hq hq2, (v args h Q Q2 hs).2⟩)
/-! ToOneCrumb.rule()I -/
def xW11_rule_31 (s_X6_read : zq_Sp) (s_X8_clear : zq_Sp) (s_X8_fault : zq_Sp) (s_X11_renewWorths : zq_Sp) (Q : zq_Q) (Q2 : zq_Q) (ls : zq_L) (st : List Value) (h : zq_H) : Prop := (zi_aload 0 (zi_getR 0 48 (zi_astore 2 (zi_aload 0 (zi_aload 0 (zi_getR 0 52 (zi_swapB (zi_aload 0 (zi_callV 0 0 s_X11_renewWorths (zi_push (.int 0) (zi_iret Q2))))))))))) ls st h
theorem kW11_rule_31 {X : zq_X} {d : Nat} (C : zq_C X cX11_rule 3 RX11 d) {d_X6_read : Nat} {s_X6_read : zq_Sp} (h_X6_read : zq_M yX6_read cX6_read 4 (some .boolean) 1 d_X6_read s_X6_read) (g_X6_read : d_X6_read + 1 ≤ d) {d_X8_clear : Nat} {s_X8_clear : zq_Sp} (h_X8_clear : zq_M yX8_clear cX8_clear 1 none 0 d_X8_clear s_X8_clear) (g_X8_clear : d_X8_clear + 1 ≤ d) {d_X8_fault : Nat} {s_X8_fault : zq_Sp} (h_X8_fault : zq_M yX8_fault cX8_fault 1 (some .int) 1 d_X8_fault s_X8_fault) (g_X8_fault : d_X8_fault + 1 ≤ d) {d_X11_renewWorths : Nat} {s_X11_renewWorths : zq_Sp} (h_X11_renewWorths : zq_M yX11_renewWorths cX11_renewWorths 1 none 0 d_X11_renewWorths s_X11_renewWorths) (g_X11_renewWorths : d_X11_renewWorths + 1 ≤ d) {Q : zq_Q} (hq : zq_R X (some .int) 1 Q) {Q2 : zq_Q} (hq2 : zq_R (zxX zxB X) (some .int) 1 Q2) : zq_ok X 3 31 (xW11_rule_31 s_X6_read s_X8_clear s_X8_fault s_X11_renewWorths Q Q2) := by
  refine zs_aload_n C dX11_rule_31 rfl ?_
  refine zs_getR C zp_0 zF11 (j := 13) ⟨by decide, rfl⟩ zw_328 dX11_rule_32 ?_
  refine zs_astore_n C dX11_rule_35 rfl (by decide) ?_
  refine zs_aload_n C dX11_rule_36 rfl ?_
  refine zs_aload_n C dX11_rule_37 rfl ?_
  refine zs_getR C zp_0 zF11 (j := 14) ⟨by decide, rfl⟩ zw_329 dX11_rule_38 ?_
  refine zs_swapB C zw_328 zw_329 ⟨rfl, by decide +kernel⟩ ⟨rfl, by decide +kernel⟩ dX11_rule_41 dX11_rule_44 dX11_rule_45 dX11_rule_46 ?_
  have C := zxC zxB_ok C
  have hq := hq2
  refine zs_aload_n C dX11_rule_49 rfl ?_
  refine zs_callV C h_X11_renewWorths g_X11_renewWorths zy_X11_renewWorths zp_0 (show vwCl[11]? = some (RX11, TX11, 16) from rfl) zw_427 zw_429 zs9_X11_renewWorths dX11_rule_50 ?_
  refine zs_iconst C dX11_rule_53 (by decide) ?_
  exact zs_iret C hq dX11_rule_54
def xW11_rule_23 (s_X6_read : zq_Sp) (s_X8_clear : zq_Sp) (s_X8_fault : zq_Sp) (s_X11_renewWorths : zq_Sp) (Q : zq_Q) (Q2 : zq_Q) (ls : zq_L) (st : List Value) (h : zq_H) : Prop := (zi_aload 0 (zi_getR 0 1 (zi_callV 0 1 s_X8_fault (zi_iret Q)))) ls st h
theorem kW11_rule_23 {X : zq_X} {d : Nat} (C : zq_C X cX11_rule 3 RX11 d) {d_X6_read : Nat} {s_X6_read : zq_Sp} (h_X6_read : zq_M yX6_read cX6_read 4 (some .boolean) 1 d_X6_read s_X6_read) (g_X6_read : d_X6_read + 1 ≤ d) {d_X8_clear : Nat} {s_X8_clear : zq_Sp} (h_X8_clear : zq_M yX8_clear cX8_clear 1 none 0 d_X8_clear s_X8_clear) (g_X8_clear : d_X8_clear + 1 ≤ d) {d_X8_fault : Nat} {s_X8_fault : zq_Sp} (h_X8_fault : zq_M yX8_fault cX8_fault 1 (some .int) 1 d_X8_fault s_X8_fault) (g_X8_fault : d_X8_fault + 1 ≤ d) {d_X11_renewWorths : Nat} {s_X11_renewWorths : zq_Sp} (h_X11_renewWorths : zq_M yX11_renewWorths cX11_renewWorths 1 none 0 d_X11_renewWorths s_X11_renewWorths) (g_X11_renewWorths : d_X11_renewWorths + 1 ≤ d) {Q : zq_Q} (hq : zq_R X (some .int) 1 Q) {Q2 : zq_Q} (hq2 : zq_R (zxX zxB X) (some .int) 1 Q2) : zq_ok X 3 23 (xW11_rule_23 s_X6_read s_X8_clear s_X8_fault s_X11_renewWorths Q Q2) := by
  refine zs_aload_n C dX11_rule_23 rfl ?_
  refine zs_getR C zp_0 zF11 (j := 0) ⟨by decide, rfl⟩ zw_315 dX11_rule_24 ?_
  refine zs_callV C h_X8_fault g_X8_fault zy_X8_fault zp_1 (show vwCl[8]? = some (RX8, TX8, 4) from rfl) zw_419 zw_420 zs9_X8_fault dX11_rule_27 ?_
  exact zs_iret C hq dX11_rule_30
def xW11_rule_0 (s_X6_read : zq_Sp) (s_X8_clear : zq_Sp) (s_X8_fault : zq_Sp) (s_X11_renewWorths : zq_Sp) (Q : zq_Q) (Q2 : zq_Q) (ls : zq_L) (st : List Value) (h : zq_H) : Prop := (zi_aload 0 (zi_getR 0 52 (zi_aload 0 (zi_getR 0 1 (zi_callV 1 52 s_X6_read (zi_istore 1 (zi_aload 0 (zi_getR 0 1 (zi_callV 0 1 s_X8_clear (zi_iload 1 (zi_if1 (fun x => x = 0) (xW11_rule_23 s_X6_read s_X8_clear s_X8_fault s_X11_renewWorths Q Q2) (xW11_rule_31 s_X6_read s_X8_clear s_X8_fault s_X11_renewWorths Q Q2)))))))))))) ls st h
theorem kW11_rule_0 {X : zq_X} {d : Nat} (C : zq_C X cX11_rule 3 RX11 d) {d_X6_read : Nat} {s_X6_read : zq_Sp} (h_X6_read : zq_M yX6_read cX6_read 4 (some .boolean) 1 d_X6_read s_X6_read) (g_X6_read : d_X6_read + 1 ≤ d) {d_X8_clear : Nat} {s_X8_clear : zq_Sp} (h_X8_clear : zq_M yX8_clear cX8_clear 1 none 0 d_X8_clear s_X8_clear) (g_X8_clear : d_X8_clear + 1 ≤ d) {d_X8_fault : Nat} {s_X8_fault : zq_Sp} (h_X8_fault : zq_M yX8_fault cX8_fault 1 (some .int) 1 d_X8_fault s_X8_fault) (g_X8_fault : d_X8_fault + 1 ≤ d) {d_X11_renewWorths : Nat} {s_X11_renewWorths : zq_Sp} (h_X11_renewWorths : zq_M yX11_renewWorths cX11_renewWorths 1 none 0 d_X11_renewWorths s_X11_renewWorths) (g_X11_renewWorths : d_X11_renewWorths + 1 ≤ d) {Q : zq_Q} (hq : zq_R X (some .int) 1 Q) {Q2 : zq_Q} (hq2 : zq_R (zxX zxB X) (some .int) 1 Q2) : zq_ok X 3 0 (xW11_rule_0 s_X6_read s_X8_clear s_X8_fault s_X11_renewWorths Q Q2) := by
  refine zs_aload_n C dX11_rule_0 rfl ?_
  refine zs_getR C zp_0 zF11 (j := 14) ⟨by decide, rfl⟩ zw_329 dX11_rule_1 ?_
  refine zs_aload_n C dX11_rule_4 rfl ?_
  refine zs_getR C zp_0 zF11 (j := 0) ⟨by decide, rfl⟩ zw_315 dX11_rule_5 ?_
  refine zs_callV C h_X6_read g_X6_read zy_X6_read zp_52 (show vwCl[6]? = some (RX6, TX6, 8) from rfl) zw_506 zw_507 zs9_X6_read dX11_rule_8 ?_
  refine zs_istore_n C dX11_rule_11 rfl (by decide) ?_
  refine zs_aload_n C dX11_rule_12 rfl ?_
  refine zs_getR C zp_0 zF11 (j := 0) ⟨by decide, rfl⟩ zw_315 dX11_rule_13 ?_
  refine zs_callV C h_X8_clear g_X8_clear zy_X8_clear zp_1 (show vwCl[8]? = some (RX8, TX8, 4) from rfl) zw_415 zw_416 zs9_X8_clear dX11_rule_16 ?_
  refine zs_iload_n C dX11_rule_19 rfl ?_
  exact zs_if_ne C dX11_rule_20 (by decide) (kW11_rule_31 C h_X6_read g_X6_read h_X8_clear g_X8_clear h_X8_fault g_X8_fault h_X11_renewWorths g_X11_renewWorths hq hq2) (kW11_rule_23 C h_X6_read g_X6_read h_X8_clear g_X8_clear h_X8_fault g_X8_fault h_X11_renewWorths g_X11_renewWorths hq hq2)
theorem mW11_rule {d : Nat} {spec : List Value → zq_H → zq_Q → zq_Q → Prop} {d_X6_read : Nat} {s_X6_read : zq_Sp} (h_X6_read : zq_M yX6_read cX6_read 4 (some .boolean) 1 d_X6_read s_X6_read) (g_X6_read : d_X6_read + 1 ≤ d) {d_X8_clear : Nat} {s_X8_clear : zq_Sp} (h_X8_clear : zq_M yX8_clear cX8_clear 1 none 0 d_X8_clear s_X8_clear) (g_X8_clear : d_X8_clear + 1 ≤ d) {d_X8_fault : Nat} {s_X8_fault : zq_Sp} (h_X8_fault : zq_M yX8_fault cX8_fault 1 (some .int) 1 d_X8_fault s_X8_fault) (g_X8_fault : d_X8_fault + 1 ≤ d) {d_X11_renewWorths : Nat} {s_X11_renewWorths : zq_Sp} (h_X11_renewWorths : zq_M yX11_renewWorths cX11_renewWorths 1 none 0 d_X11_renewWorths s_X11_renewWorths) (g_X11_renewWorths : d_X11_renewWorths + 1 ≤ d) (v : ∀ args h Q Q2, spec args h Q Q2 → (zq_a args).length ≤ 3 ∧ xW11_rule_0 s_X6_read s_X8_clear s_X8_fault s_X11_renewWorths Q Q2 (zq_l0 3 args) [] h) : zq_M2 zxB yX11_rule cX11_rule 3 (some .int) d spec := by
  exact zq_met2 zxB_ok (by decide +kernel) (fun X Q Q2 args h C hq hq2 hs => ⟨(v args h Q Q2 hs).1, _, kW11_rule_0 C h_X6_read g_X6_read h_X8_clear g_X8_clear h_X8_fault g_X8_fault h_X11_renewWorths g_X11_renewWorths hq hq2, (v args h Q Q2 hs).2⟩)
