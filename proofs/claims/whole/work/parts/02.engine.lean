/-! ===== the engine: assertions at points of a method; a transformer an instruction, each proved over the machine by the kit's rows ===== -/
abbrev zq_H : Type := (Nat → Nat → Int32) × (Nat → Nat → Int64)
abbrev zq_Y : Type := ClassId × ClassId × ClassId
abbrev zq_L : Type := List (Option Value)
abbrev zq_Q : Type := Option Value → zq_H → Prop
abbrev zq_P : Type := zq_L → List Value → zq_H → Prop
abbrev zq_Sp : Type := List Value → zq_H → zq_Q → Prop
def zq_cv (ad : Nat → Nat) (v : Value) : Value := match v with
  | .ref k => .ref (ad k)
  | w => w
theorem zq_cv_cat (ad : Nat → Nat) (v : Value) : (zq_cv ad v).category = v.category := by cases v <;> rfl
def zq_nth : zq_L → Nat → Option Value
  | [], _ => none
  | v :: _, 0 => v
  | _ :: l, n + 1 => zq_nth l n
def zq_nl (u : Option Value) : Option Value := match u with
  | some (.long _) => none
  | some (.double _) => none
  | w => w
def zq_put1 : zq_L → Nat → Value → zq_L
  | [], _, _ => []
  | _ :: l, 0, v => some v :: l
  | u :: l, 1, v => zq_nl u :: zq_put1 l 0 v
  | u :: l, n + 2, v => u :: zq_put1 l (n + 1) v
def zq_clr : zq_L → Nat → zq_L
  | [], _ => []
  | _ :: l, 0 => none :: l
  | u :: l, n + 1 => u :: zq_clr l n
def zq_put2 (l : zq_L) (i : Nat) (v : Value) : zq_L := zq_clr (zq_put1 l i v) (i + 1)
theorem zq_nth_nl {u : Option Value} {w : Value} (h : zq_nl u = some w) : u = some w ∧ ¬ w.category = 2 := by
  unfold zq_nl at h
  split at h
  · cases h
  · cases h
  · next h1 h2 =>
    refine ⟨h, ?_⟩
    subst h
    cases w <;> first | (intro q; cases q; done) | (exact absurd rfl (h1 _)) | (exact absurd rfl (h2 _))
theorem zq_nth_put1 : ∀ (l : zq_L) (i j : Nat) (v w : Value), zq_nth (zq_put1 l i v) j = some w → (j = i ∧ w = v) ∨ (j ≠ i ∧ zq_nth l j = some w ∧ ¬ (j + 1 = i ∧ w.category = 2))
  | [], i, j, v, w, h => by simp [zq_put1, zq_nth] at h
  | u :: l, 0, 0, v, w, h => by
    simp only [zq_put1, zq_nth, Option.some.injEq] at h
    exact Or.inl ⟨rfl, h.symm⟩
  | u :: l, 0, j + 1, v, w, h => Or.inr ⟨by omega, h, by omega⟩
  | u :: l, 1, 0, v, w, h => by
    obtain ⟨h1, h2⟩ := zq_nth_nl (show zq_nl u = some w from h)
    exact Or.inr ⟨by omega, h1, fun q => h2 q.2⟩
  | u :: l, 1, j + 1, v, w, h => by
    rcases zq_nth_put1 l 0 j v w h with ⟨h1, h2⟩ | ⟨h1, h2, h3⟩
    · exact Or.inl ⟨by omega, h2⟩
    · exact Or.inr ⟨by omega, h2, by omega⟩
  | u :: l, n + 2, 0, v, w, h => Or.inr ⟨by omega, h, by omega⟩
  | u :: l, n + 2, j + 1, v, w, h => by
    rcases zq_nth_put1 l (n + 1) j v w h with ⟨h1, h2⟩ | ⟨h1, h2, h3⟩
    · exact Or.inl ⟨by omega, h2⟩
    · exact Or.inr ⟨by omega, h2, fun q => h3 ⟨by omega, q.2⟩⟩
theorem zq_nth_clr : ∀ (l : zq_L) (i j : Nat) (w : Value), zq_nth (zq_clr l i) j = some w → j ≠ i ∧ zq_nth l j = some w
  | [], i, j, w, h => by simp [zq_clr, zq_nth] at h
  | u :: l, 0, 0, w, h => by cases h
  | u :: l, 0, j + 1, w, h => ⟨by omega, h⟩
  | u :: l, i + 1, 0, w, h => ⟨by omega, h⟩
  | u :: l, i + 1, j + 1, w, h => by
    obtain ⟨h1, h2⟩ := zq_nth_clr l i j w h
    exact ⟨by omega, h2⟩
theorem zq_nth_lt : ∀ (l : zq_L) (i : Nat) (v : Value), zq_nth l i = some v → i < l.length
  | [], i, v, h => by simp [zq_nth] at h
  | u :: l, 0, v, h => by simp
  | u :: l, i + 1, v, h => by
    have := zq_nth_lt l i v h
    simp; omega
def zq_en (ad : Nat → Nat) (l : zq_L) : List (Nat × Value) := (List.range l.length).filterMap (fun i => (zq_nth l i).map (fun v => (i, zq_cv ad v)))
theorem zq_en_mem {ad : Nat → Nat} {l : zq_L} {i : Nat} {v : Value} (h : zq_nth l i = some v) : (i, zq_cv ad v) ∈ zq_en ad l :=
  List.mem_filterMap.mpr ⟨i, List.mem_range.mpr (zq_nth_lt l i v h), by rw [h]; rfl⟩
theorem zq_en_of {ad : Nat → Nat} {l : zq_L} {q : Nat × Value} (h : q ∈ zq_en ad l) : ∃ v, zq_nth l q.1 = some v ∧ q.2 = zq_cv ad v := by
  obtain ⟨i, -, hi⟩ := List.mem_filterMap.mp h
  cases hn : zq_nth l i with
  | none => rw [hn] at hi; cases hi
  | some v => rw [hn] at hi; cases hi; exact ⟨v, hn, rfl⟩
def zq_lr (ad : Nat → Nat) (nL : Nat) (l : zq_L) (a : Array Slot) : Prop := lv_has a nL (zq_en ad l)
theorem zq_lr.at {ad : Nat → Nat} {nL : Nat} {l : zq_L} {a : Array Slot} (h : zq_lr ad nL l a) {i : Nat} {v : Value} (hi : zq_nth l i = some v) : a[i]? = some (.val (zq_cv ad v)) := h.2.2 _ (zq_en_mem hi)
theorem zq_lr.of {ad : Nat → Nat} {nL : Nat} {l : zq_L} {a : Array Slot} {lv : List (Nat × Value)} (h : lv_has a nL lv) (k : ∀ i v, zq_nth l i = some v → (i, zq_cv ad v) ∈ lv) : zq_lr ad nL l a := by
  refine ⟨h.1, h.2.1, fun q hq => ?_⟩
  obtain ⟨v, h1, h2⟩ := zq_en_of hq
  have h3 := h.2.2 _ (k _ _ h1)
  rw [h2]
  exact h3
theorem zq_lr.put1 {ad : Nat → Nat} {nL : Nat} {l : zq_L} {a : Array Slot} {i : Nat} {v : Value} (h : lv_has a nL ((i, zq_cv ad v) :: (zq_en ad l).filter (fun q => !(q.1 == i) && !(q.1 + 1 == i && q.2.category == 2)))) : zq_lr ad nL (zq_put1 l i v) a := by
  refine zq_lr.of h fun j w hw => ?_
  rcases zq_nth_put1 l i j v w hw with ⟨rfl, rfl⟩ | ⟨h1, h2, h3⟩
  · exact List.mem_cons_self
  · refine List.mem_cons_of_mem _ (List.mem_filter.mpr ⟨zq_en_mem h2, ?_⟩)
    simp only [Bool.and_eq_true, Bool.not_eq_true', beq_eq_false_iff_ne, ne_eq, Bool.and_eq_false_iff, zq_cv_cat]
    refine ⟨h1, ?_⟩
    by_cases q : j + 1 = i
    · exact Or.inr (fun z => h3 ⟨q, z⟩)
    · exact Or.inl q
theorem zq_lr.put2 {ad : Nat → Nat} {nL : Nat} {l : zq_L} {a : Array Slot} {i : Nat} {v : Value} (h : lv_has a nL ((i, zq_cv ad v) :: (zq_en ad l).filter (fun q => !(q.1 == i) && (!(q.1 == i + 1) && !(q.1 + 1 == i && q.2.category == 2))))) : zq_lr ad nL (zq_put2 l i v) a := by
  refine zq_lr.of h fun j w hw => ?_
  obtain ⟨h0, hw⟩ := zq_nth_clr _ _ _ _ hw
  rcases zq_nth_put1 l i j v w hw with ⟨rfl, rfl⟩ | ⟨h1, h2, h3⟩
  · exact List.mem_cons_self
  · refine List.mem_cons_of_mem _ (List.mem_filter.mpr ⟨zq_en_mem h2, ?_⟩)
    simp only [Bool.and_eq_true, Bool.not_eq_true', beq_eq_false_iff_ne, ne_eq, Bool.and_eq_false_iff, zq_cv_cat]
    refine ⟨h1, h0, ?_⟩
    by_cases q : j + 1 = i
    · exact Or.inr (fun z => h3 ⟨q, z⟩)
    · exact Or.inl q
/-! the world -/
def zq_fv (ad : Nat → Nat) (h : zq_H) (p j : Nat) (kd : Nat) : Value := match kd with
  | 0 => .int (h.1 p j)
  | 1 => .long (h.2 p j)
  | k + 2 => .ref (ad k)
def zq_fs (ad : Nat → Nat) (h : zq_H) (p : Nat) (kd : List Nat) : List Value := (List.range kd.length).map (fun j => zq_fv ad h p j (kd.getD j 0))
def zq_ent (Y : zq_Y) (ad : Nat → Nat) (h : zq_H) (p : Nat) (e : Nat × Nat × List Nat) : va_E := match e with
  | (0, ci, kd) => .inr (ci, zq_fs ad h p kd)
  | (1, n, _) => .inl (Y.1, n, .inl (h.1 p))
  | (2, n, _) => .inl (Y.2.1, n, .inr (.inl (h.2 p)))
  | (_, n, _) => .inl (Y.2.2, n, .inl (h.1 p))
def zq_ws (Y : zq_Y) (ad : Nat → Nat) (h : zq_H) : va_W := (List.range zq_S.length).map (fun p => (ad p, zq_ent Y ad h p (zq_S.getD p (0, 0, []))))
abbrev zq_ty (Y : zq_Y) : List (ClassId × FieldType) := [(Y.1, .int), (Y.2.1, .long), (Y.2.2, .boolean)]
theorem zq_ws_at {Y : zq_Y} {ad : Nat → Nat} {h : zq_H} {p : Nat} {e : Nat × Nat × List Nat} (hp : zq_S[p]? = some e) : (zq_ws Y ad h)[p]? = some (ad p, zq_ent Y ad h p e) := by
  have hl : p < zq_S.length := (List.getElem?_eq_some_iff.mp hp).1
  unfold zq_ws
  rw [List.getElem?_map, List.getElem?_range hl]
  simp [List.getD, hp]
theorem zq_ws_of {Y : zq_Y} {ad : Nat → Nat} {h : zq_H} {p : Nat} {q : Nat × va_E} (hp : (zq_ws Y ad h)[p]? = some q) : p < zq_S.length ∧ q.1 = ad p := by
  unfold zq_ws at hp
  rw [List.getElem?_map] at hp
  cases hr : (List.range zq_S.length)[p]? with
  | none => rw [hr] at hp; cases hp
  | some i =>
    rw [hr] at hp
    obtain ⟨h1, h2⟩ := List.getElem?_eq_some_iff.mp hr
    rw [List.getElem_range] at h2
    subst h2
    cases hp
    exact ⟨by simpa using h1, rfl⟩
theorem zq_fs_at {ad : Nat → Nat} {h : zq_H} {p j k : Nat} {kd : List Nat} (hj : kd[j]? = some k) : (zq_fs ad h p kd)[j]? = some (zq_fv ad h p j k) := by
  have hl : j < kd.length := (List.getElem?_eq_some_iff.mp hj).1
  unfold zq_fs
  rw [List.getElem?_map, List.getElem?_range hl]
  simp [List.getD, hj]
def zq_setI (h : zq_H) (p j : Nat) (x : Int32) : zq_H := (fun q i => if q = p ∧ i = j then x else h.1 q i, h.2)
def zq_setL (h : zq_H) (p j : Nat) (x : Int64) : zq_H := (h.1, fun q i => if q = p ∧ i = j then x else h.2 q i)
theorem zq_ws_set {Y : zq_Y} {ad : Nat → Nat} {h h' : zq_H} {p : Nat} {e : Nat × Nat × List Nat} (hp : zq_S[p]? = some e) {v : va_E} (hv : zq_ent Y ad h' p e = v) (ho : ∀ q, q ≠ p → h'.1 q = h.1 q ∧ h'.2 q = h.2 q) : (zq_ws Y ad h).set p (ad p, v) = zq_ws Y ad h' := by
  have hl : p < zq_S.length := (List.getElem?_eq_some_iff.mp hp).1
  apply List.ext_getElem?
  intro k
  by_cases hk : k = p
  · subst hk
    rw [List.getElem?_set_self (by simpa [zq_ws] using hl), zq_ws_at hp, hv]
  · rw [List.getElem?_set_ne (Ne.symm hk)]
    unfold zq_ws
    rw [List.getElem?_map, List.getElem?_map]
    cases hr : (List.range zq_S.length)[k]? with
    | none => rfl
    | some i =>
      obtain ⟨h1, h2⟩ := List.getElem?_eq_some_iff.mp hr
      rw [List.getElem_range] at h2
      subst h2
      obtain ⟨o1, o2⟩ := ho k hk
      have he : ∀ e : Nat × Nat × List Nat, zq_ent Y ad h k e = zq_ent Y ad h' k e := by
        intro e
        unfold zq_ent
        split
        · have : ∀ kd, zq_fs ad h k kd = zq_fs ad h' k kd := by
            intro kd
            unfold zq_fs zq_fv
            rw [o1, o2]
          rw [this]
        · rw [o1]
        · rw [o2]
        · rw [o1]
      exact congrArg (fun z => some (ad k, z)) (he _)
theorem zq_ws_setI {Y : zq_Y} {ad : Nat → Nat} {h : zq_H} {p n : Nat} {kd : List Nat} (hp : zq_S[p]? = some (1, n, kd)) (i : Nat) (x : Int32) : (zq_ws Y ad h).set p (ad p, .inl (Y.1, n, .inl (upd (h.1 p) i x))) = zq_ws Y ad (zq_setI h p i x) := by
  refine zq_ws_set hp ?_ (fun q hq => ⟨?_, rfl⟩)
  · show Sum.inl (Y.1, n, Sum.inl _) = _
    congr 4
    funext j
    simp only [zq_setI, upd, true_and]
  · funext j
    simp [zq_setI, hq]
theorem zq_ws_setZ {Y : zq_Y} {ad : Nat → Nat} {h : zq_H} {p n : Nat} {kd : List Nat} (hp : zq_S[p]? = some (3, n, kd)) (i : Nat) (x : Int32) : (zq_ws Y ad h).set p (ad p, .inl (Y.2.2, n, .inl (upd (h.1 p) i x))) = zq_ws Y ad (zq_setI h p i x) := by
  refine zq_ws_set hp ?_ (fun q hq => ⟨?_, rfl⟩)
  · show Sum.inl (Y.2.2, n, Sum.inl _) = _
    congr 4
    funext j
    simp only [zq_setI, upd, true_and]
  · funext j
    simp [zq_setI, hq]
theorem zq_ws_setL {Y : zq_Y} {ad : Nat → Nat} {h : zq_H} {p n : Nat} {kd : List Nat} (hp : zq_S[p]? = some (2, n, kd)) (i : Nat) (x : Int64) : (zq_ws Y ad h).set p (ad p, .inl (Y.2.1, n, .inr (.inl (vp_updL (h.2 p) i x)))) = zq_ws Y ad (zq_setL h p i x) := by
  refine zq_ws_set hp ?_ (fun q hq => ⟨rfl, ?_⟩)
  · show Sum.inl (Y.2.1, n, Sum.inr (Sum.inl _)) = _
    congr 5
    funext j
    simp only [zq_setL, vp_updL, true_and]
  · funext j
    simp [zq_setL, hq]
