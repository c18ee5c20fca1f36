/-! ===== loaf, guests, choices, the row: what the cells say ===== -/
def XL (n : Nat) (cr ra cu : Nat → Int32) (h : zq_H) : Prop := n ≤ 16 ∧ h.1 40 3 = nI n ∧ ∀ i, i < n → h.1 41 i = cr i ∧ h.1 42 i = ra i ∧ h.1 43 i = cu i
def ML (n : Nat) (cr ra cu : Nat → Int32) (h : zq_H) : Prop := n ≤ 16 ∧ h.1 56 3 = nI n ∧ ∀ i, i < n → h.1 58 i = cr i ∧ h.1 59 i = ra i ∧ h.1 60 i = cu i
theorem XL_fr {n : Nat} {cr ra cu : Nat → Int32} {ps : List Nat} {h h' : zq_H} (k : XL n cr ra cu h) (f : zq_fr ps h h') (d : 40 ∉ ps ∧ 41 ∉ ps ∧ 42 ∉ ps ∧ 43 ∉ ps) : XL n cr ra cu h' := by
  unfold XL at *
  rw [(f 40 d.1).1, (f 41 d.2.1).1, (f 42 d.2.2.1).1, (f 43 d.2.2.2).1]
  exact k
theorem XL_fm {n : Nat} {cr ra cu : Nat → Int32} {fs ps : List Nat} {h h' : zq_H} (k : XL n cr ra cu h) (f : zq_fm fs ps h h') (d : 40 ∉ ps ∧ 41 ∉ ps ∧ 42 ∉ ps ∧ 43 ∉ ps) : XL n cr ra cu h' := by
  unfold XL at *
  rw [(f.1 40 (by decide) d.1).1, (f.1 41 (by decide) d.2.1).1, (f.1 42 (by decide) d.2.2.1).1, (f.1 43 (by decide) d.2.2.2).1]
  exact k
theorem ML_fr {n : Nat} {cr ra cu : Nat → Int32} {ps : List Nat} {h h' : zq_H} (k : ML n cr ra cu h) (f : zq_fr ps h h') (d : 56 ∉ ps ∧ 58 ∉ ps ∧ 59 ∉ ps ∧ 60 ∉ ps) : ML n cr ra cu h' := by
  unfold ML at *
  rw [(f 56 d.1).1, (f 58 d.2.1).1, (f 59 d.2.2.1).1, (f 60 d.2.2.2).1]
  exact k
theorem ML_fm {n : Nat} {cr ra cu : Nat → Int32} {fs ps : List Nat} {h h' : zq_H} (k : ML n cr ra cu h) (f : zq_fm fs ps h h') (d : 3 ∉ fs ∧ 58 ∉ ps ∧ 59 ∉ ps ∧ 60 ∉ ps) : ML n cr ra cu h' := by
  unfold ML at *
  rw [(f.2 3 d.1).1, (f.1 58 (by decide) d.2.1).1, (f.1 59 (by decide) d.2.2.1).1, (f.1 60 (by decide) d.2.2.2).1]
  exact k
def XG (g : Nat) (ta de : Nat → Int32) (h : zq_H) : Prop := g ≤ 6 ∧ h.1 5 3 = nI g ∧ (∀ i, i < 3 * g → h.1 6 i = ta i) ∧ ∀ i, i < g → h.1 7 i = de i
def MG (g : Nat) (ta de : Nat → Int32) (h : zq_H) : Prop := g ≤ 6 ∧ h.1 56 4 = nI g ∧ (∀ i, i < 3 * g → h.1 61 i = ta i) ∧ ∀ i, i < g → h.1 62 i = de i
theorem XG_fr {g : Nat} {ta de : Nat → Int32} {ps : List Nat} {h h' : zq_H} (k : XG g ta de h) (f : zq_fr ps h h') (d : 5 ∉ ps ∧ 6 ∉ ps ∧ 7 ∉ ps) : XG g ta de h' := by
  unfold XG at *
  rw [(f 5 d.1).1, (f 6 d.2.1).1, (f 7 d.2.2).1]
  exact k
theorem XG_fm {g : Nat} {ta de : Nat → Int32} {fs ps : List Nat} {h h' : zq_H} (k : XG g ta de h) (f : zq_fm fs ps h h') (d : 5 ∉ ps ∧ 6 ∉ ps ∧ 7 ∉ ps) : XG g ta de h' := by
  unfold XG at *
  rw [(f.1 5 (by decide) d.1).1, (f.1 6 (by decide) d.2.1).1, (f.1 7 (by decide) d.2.2).1]
  exact k
theorem MG_fr {g : Nat} {ta de : Nat → Int32} {ps : List Nat} {h h' : zq_H} (k : MG g ta de h) (f : zq_fr ps h h') (d : 56 ∉ ps ∧ 61 ∉ ps ∧ 62 ∉ ps) : MG g ta de h' := by
  unfold MG at *
  rw [(f 56 d.1).1, (f 61 d.2.1).1, (f 62 d.2.2).1]
  exact k
theorem MG_fm {g : Nat} {ta de : Nat → Int32} {fs ps : List Nat} {h h' : zq_H} (k : MG g ta de h) (f : zq_fm fs ps h h') (d : 4 ∉ fs ∧ 61 ∉ ps ∧ 62 ∉ ps) : MG g ta de h' := by
  unfold MG at *
  rw [(f.2 4 d.1).1, (f.1 61 (by decide) d.2.1).1, (f.1 62 (by decide) d.2.2).1]
  exact k
def XK (m : Nat) (on ot : Nat → Int32) (h : zq_H) : Prop := m ≤ 12 ∧ h.1 15 7 = nI m ∧ ∀ i, i < m → h.1 16 i = on i ∧ h.1 17 i = ot i
def MK (m : Nat) (on ot : Nat → Int32) (h : zq_H) : Prop := m ≤ 12 ∧ h.1 56 53 = nI m ∧ ∀ i, i < m → h.1 91 i = on i ∧ h.1 92 i = ot i
theorem XK_fr {m : Nat} {on ot : Nat → Int32} {ps : List Nat} {h h' : zq_H} (k : XK m on ot h) (f : zq_fr ps h h') (d : 15 ∉ ps ∧ 16 ∉ ps ∧ 17 ∉ ps) : XK m on ot h' := by
  unfold XK at *
  rw [(f 15 d.1).1, (f 16 d.2.1).1, (f 17 d.2.2).1]
  exact k
theorem XK_fm {m : Nat} {on ot : Nat → Int32} {fs ps : List Nat} {h h' : zq_H} (k : XK m on ot h) (f : zq_fm fs ps h h') (d : 15 ∉ ps ∧ 16 ∉ ps ∧ 17 ∉ ps) : XK m on ot h' := by
  unfold XK at *
  rw [(f.1 15 (by decide) d.1).1, (f.1 16 (by decide) d.2.1).1, (f.1 17 (by decide) d.2.2).1]
  exact k
theorem MK_fr {m : Nat} {on ot : Nat → Int32} {ps : List Nat} {h h' : zq_H} (k : MK m on ot h) (f : zq_fr ps h h') (d : 56 ∉ ps ∧ 91 ∉ ps ∧ 92 ∉ ps) : MK m on ot h' := by
  unfold MK at *
  rw [(f 56 d.1).1, (f 91 d.2.1).1, (f 92 d.2.2).1]
  exact k
theorem MK_fm {m : Nat} {on ot : Nat → Int32} {fs ps : List Nat} {h h' : zq_H} (k : MK m on ot h) (f : zq_fm fs ps h h') (d : 53 ∉ fs ∧ 91 ∉ ps ∧ 92 ∉ ps) : MK m on ot h' := by
  unfold MK at *
  rw [(f.2 53 d.1).1, (f.1 91 (by decide) d.2.1).1, (f.1 92 (by decide) d.2.2).1]
  exact k
def XR (w : List Int64) (h : zq_H) : Prop := w.length ≤ 16 ∧ h.1 3 1 = nI w.length ∧ ∀ i x, w[i]? = some x → h.2 4 i = x
def MR (w : List Int64) (h : zq_H) : Prop := w.length ≤ 16 ∧ h.1 56 1 = nI w.length ∧ ∀ i x, w[i]? = some x → h.2 57 i = x
theorem XR_fr {w : List Int64} {ps : List Nat} {h h' : zq_H} (k : XR w h) (f : zq_fr ps h h') (d : 3 ∉ ps ∧ 4 ∉ ps) : XR w h' := by
  unfold XR at *
  rw [(f 3 d.1).1, (f 4 d.2).2]
  exact k
theorem XR_fm {w : List Int64} {fs ps : List Nat} {h h' : zq_H} (k : XR w h) (f : zq_fm fs ps h h') (d : 3 ∉ ps ∧ 4 ∉ ps) : XR w h' := by
  unfold XR at *
  rw [(f.1 3 (by decide) d.1).1, (f.1 4 (by decide) d.2).2]
  exact k
theorem MR_fr {w : List Int64} {ps : List Nat} {h h' : zq_H} (k : MR w h) (f : zq_fr ps h h') (d : 56 ∉ ps ∧ 57 ∉ ps) : MR w h' := by
  unfold MR at *
  rw [(f 56 d.1).1, (f 57 d.2).2]
  exact k
theorem MR_fm {w : List Int64} {fs ps : List Nat} {h h' : zq_H} (k : MR w h) (f : zq_fm fs ps h h') (d : 1 ∉ fs ∧ 57 ∉ ps) : MR w h' := by
  unfold MR at *
  rw [(f.2 1 d.1).1, (f.1 57 (by decide) d.2).2]
  exact k
