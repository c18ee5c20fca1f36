def zf_rem (x y : Int32) : Int32 := x - x / y * y
def zf_shl (x y : Int32) : Int32 := x <<< (y &&& 31)
def zf_shr (x y : Int32) : Int32 := x >>> (y &&& 31)
def zf_ushr (x y : Int32) : Int32 := (x.toUInt32 >>> (y.toUInt32 &&& Int32.toUInt32 31)).toInt32
def zf_lrem (x y : Int64) : Int64 := x - x / y * y
def zf_lushr (x : Int64) (y : Int32) : Int64 := (x.toUInt64 >>> (y.toInt64.toUInt64 &&& Int64.toUInt64 63)).toInt64
def zf_lshl (x : Int64) (y : Int32) : Int64 := x <<< (y.toInt64 &&& 63)
section ZS
variable {X : zq_X} {cc : ByteArray} {nL d pc : Nat} {own : String} {K J : zq_P}
theorem zs_iadd (C : zq_C X cc nL own d) (hd : decode cc pc = .ok (.iadd, 1)) (k : zq_ok X nL (pc + 1) K) : zq_ok X nL pc (zi_i2 (fun x y => x + y) K) := by
  obtain ⟨p, l, e, R, s, m, args, below, meth, c, D, Y, ad, A, kc, kn, Z⟩ := X
  obtain ⟨hx, hb, hml, hown, hts, hK, hR⟩ := C
  intro ls st h H locs a hP hl hw hD hS
  unfold zi_i2 at hP
  split at hP
  · exact lv_iadd hx hb hd (k _ _ _ _ _ _ hP hl hw hD hS)
  · exact hP.elim
theorem zs_isub (C : zq_C X cc nL own d) (hd : decode cc pc = .ok (.isub, 1)) (k : zq_ok X nL (pc + 1) K) : zq_ok X nL pc (zi_i2 (fun x y => x - y) K) := by
  obtain ⟨p, l, e, R, s, m, args, below, meth, c, D, Y, ad, A, kc, kn, Z⟩ := X
  obtain ⟨hx, hb, hml, hown, hts, hK, hR⟩ := C
  intro ls st h H locs a hP hl hw hD hS
  unfold zi_i2 at hP
  split at hP
  · exact lv_isub hx hb hd (k _ _ _ _ _ _ hP hl hw hD hS)
  · exact hP.elim
theorem zs_imul (C : zq_C X cc nL own d) (hd : decode cc pc = .ok (.imul, 1)) (k : zq_ok X nL (pc + 1) K) : zq_ok X nL pc (zi_i2 (fun x y => x * y) K) := by
  obtain ⟨p, l, e, R, s, m, args, below, meth, c, D, Y, ad, A, kc, kn, Z⟩ := X
  obtain ⟨hx, hb, hml, hown, hts, hK, hR⟩ := C
  intro ls st h H locs a hP hl hw hD hS
  unfold zi_i2 at hP
  split at hP
  · exact lv_imul hx hb hd (k _ _ _ _ _ _ hP hl hw hD hS)
  · exact hP.elim
theorem zs_iand (C : zq_C X cc nL own d) (hd : decode cc pc = .ok (.iand, 1)) (k : zq_ok X nL (pc + 1) K) : zq_ok X nL pc (zi_i2 (fun x y => x &&& y) K) := by
  obtain ⟨p, l, e, R, s, m, args, below, meth, c, D, Y, ad, A, kc, kn, Z⟩ := X
  obtain ⟨hx, hb, hml, hown, hts, hK, hR⟩ := C
  intro ls st h H locs a hP hl hw hD hS
  unfold zi_i2 at hP
  split at hP
  · exact lv_iand hx hb hd (k _ _ _ _ _ _ hP hl hw hD hS)
  · exact hP.elim
theorem zs_ior (C : zq_C X cc nL own d) (hd : decode cc pc = .ok (.ior, 1)) (k : zq_ok X nL (pc + 1) K) : zq_ok X nL pc (zi_i2 (fun x y => x ||| y) K) := by
  obtain ⟨p, l, e, R, s, m, args, below, meth, c, D, Y, ad, A, kc, kn, Z⟩ := X
  obtain ⟨hx, hb, hml, hown, hts, hK, hR⟩ := C
  intro ls st h H locs a hP hl hw hD hS
  unfold zi_i2 at hP
  split at hP
  · exact lv_ior hx hb hd (k _ _ _ _ _ _ hP hl hw hD hS)
  · exact hP.elim
theorem zs_ixor (C : zq_C X cc nL own d) (hd : decode cc pc = .ok (.ixor, 1)) (k : zq_ok X nL (pc + 1) K) : zq_ok X nL pc (zi_i2 (fun x y => x ^^^ y) K) := by
  obtain ⟨p, l, e, R, s, m, args, below, meth, c, D, Y, ad, A, kc, kn, Z⟩ := X
  obtain ⟨hx, hb, hml, hown, hts, hK, hR⟩ := C
  intro ls st h H locs a hP hl hw hD hS
  unfold zi_i2 at hP
  split at hP
  · exact lv_ixor hx hb hd (k _ _ _ _ _ _ hP hl hw hD hS)
  · exact hP.elim
theorem zs_ishl (C : zq_C X cc nL own d) (hd : decode cc pc = .ok (.ishl, 1)) (k : zq_ok X nL (pc + 1) K) : zq_ok X nL pc (zi_i2 zf_shl K) := by
  obtain ⟨p, l, e, R, s, m, args, below, meth, c, D, Y, ad, A, kc, kn, Z⟩ := X
  obtain ⟨hx, hb, hml, hown, hts, hK, hR⟩ := C
  intro ls st h H locs a hP hl hw hD hS
  unfold zi_i2 at hP
  split at hP
  · exact lv_ishl hx hb hd (k _ _ _ _ _ _ hP hl hw hD hS)
  · exact hP.elim
theorem zs_ishr (C : zq_C X cc nL own d) (hd : decode cc pc = .ok (.ishr, 1)) (k : zq_ok X nL (pc + 1) K) : zq_ok X nL pc (zi_i2 zf_shr K) := by
  obtain ⟨p, l, e, R, s, m, args, below, meth, c, D, Y, ad, A, kc, kn, Z⟩ := X
  obtain ⟨hx, hb, hml, hown, hts, hK, hR⟩ := C
  intro ls st h H locs a hP hl hw hD hS
  unfold zi_i2 at hP
  split at hP
  · exact lv_ishr hx hb hd (k _ _ _ _ _ _ hP hl hw hD hS)
  · exact hP.elim
theorem zs_iushr (C : zq_C X cc nL own d) (hd : decode cc pc = .ok (.iushr, 1)) (k : zq_ok X nL (pc + 1) K) : zq_ok X nL pc (zi_i2 zf_ushr K) := by
  obtain ⟨p, l, e, R, s, m, args, below, meth, c, D, Y, ad, A, kc, kn, Z⟩ := X
  obtain ⟨hx, hb, hml, hown, hts, hK, hR⟩ := C
  intro ls st h H locs a hP hl hw hD hS
  unfold zi_i2 at hP
  split at hP
  · exact lv_iushr hx hb hd rfl (k _ _ _ _ _ _ hP hl hw hD hS)
  · exact hP.elim
theorem zs_idiv (C : zq_C X cc nL own d) (hd : decode cc pc = .ok (.idiv, 1)) (k : zq_ok X nL (pc + 1) K) : zq_ok X nL pc (zi_idv (fun x y => x / y) K) := by
  obtain ⟨p, l, e, R, s, m, args, below, meth, c, D, Y, ad, A, kc, kn, Z⟩ := X
  obtain ⟨hx, hb, hml, hown, hts, hK, hR⟩ := C
  intro ls st h H locs a hP hl hw hD hS
  unfold zi_idv at hP
  split at hP
  · exact lv_idiv hx hb hd hP.1 (k _ _ _ _ _ _ hP.2 hl hw hD hS)
  · exact hP.elim
theorem zs_irem (C : zq_C X cc nL own d) (hd : decode cc pc = .ok (.irem, 1)) (k : zq_ok X nL (pc + 1) K) : zq_ok X nL pc (zi_idv zf_rem K) := by
  obtain ⟨p, l, e, R, s, m, args, below, meth, c, D, Y, ad, A, kc, kn, Z⟩ := X
  obtain ⟨hx, hb, hml, hown, hts, hK, hR⟩ := C
  intro ls st h H locs a hP hl hw hD hS
  unfold zi_idv at hP
  split at hP
  · exact lv_irem hx hb hd hP.1 (k _ _ _ _ _ _ hP.2 hl hw hD hS)
  · exact hP.elim
theorem zs_ineg (C : zq_C X cc nL own d) (hd : decode cc pc = .ok (.ineg, 1)) (k : zq_ok X nL (pc + 1) K) : zq_ok X nL pc (zi_i1 (fun x => -x) K) := by
  obtain ⟨p, l, e, R, s, m, args, below, meth, c, D, Y, ad, A, kc, kn, Z⟩ := X
  obtain ⟨hx, hb, hml, hown, hts, hK, hR⟩ := C
  intro ls st h H locs a hP hl hw hD hS
  unfold zi_i1 at hP
  split at hP
  · exact lv_ineg hx hb hd (k _ _ _ _ _ _ hP hl hw hD hS)
  · exact hP.elim
theorem zs_i2b (C : zq_C X cc nL own d) (hd : decode cc pc = .ok (.i2b, 1)) (k : zq_ok X nL (pc + 1) K) : zq_ok X nL pc (zi_i1 (fun x => x.toInt8.toInt32) K) := by
  obtain ⟨p, l, e, R, s, m, args, below, meth, c, D, Y, ad, A, kc, kn, Z⟩ := X
  obtain ⟨hx, hb, hml, hown, hts, hK, hR⟩ := C
  intro ls st h H locs a hP hl hw hD hS
  unfold zi_i1 at hP
  split at hP
  · exact lv_i2b hx hb hd rfl (k _ _ _ _ _ _ hP hl hw hD hS)
  · exact hP.elim
theorem zs_i2s (C : zq_C X cc nL own d) (hd : decode cc pc = .ok (.i2s, 1)) (k : zq_ok X nL (pc + 1) K) : zq_ok X nL pc (zi_i1 (fun x => x.toInt16.toInt32) K) := by
  obtain ⟨p, l, e, R, s, m, args, below, meth, c, D, Y, ad, A, kc, kn, Z⟩ := X
  obtain ⟨hx, hb, hml, hown, hts, hK, hR⟩ := C
  intro ls st h H locs a hP hl hw hD hS
  unfold zi_i1 at hP
  split at hP
  · exact lv_i2s hx hb hd rfl (k _ _ _ _ _ _ hP hl hw hD hS)
  · exact hP.elim
theorem zs_ladd (C : zq_C X cc nL own d) (hd : decode cc pc = .ok (.ladd, 1)) (k : zq_ok X nL (pc + 1) K) : zq_ok X nL pc (zi_l2 (fun x y => x + y) K) := by
  obtain ⟨p, l, e, R, s, m, args, below, meth, c, D, Y, ad, A, kc, kn, Z⟩ := X
  obtain ⟨hx, hb, hml, hown, hts, hK, hR⟩ := C
  intro ls st h H locs a hP hl hw hD hS
  unfold zi_l2 at hP
  split at hP
  · exact lv_ladd hx hb hd (k _ _ _ _ _ _ hP hl hw hD hS)
  · exact hP.elim
theorem zs_lsub (C : zq_C X cc nL own d) (hd : decode cc pc = .ok (.lsub, 1)) (k : zq_ok X nL (pc + 1) K) : zq_ok X nL pc (zi_l2 (fun x y => x - y) K) := by
  obtain ⟨p, l, e, R, s, m, args, below, meth, c, D, Y, ad, A, kc, kn, Z⟩ := X
  obtain ⟨hx, hb, hml, hown, hts, hK, hR⟩ := C
  intro ls st h H locs a hP hl hw hD hS
  unfold zi_l2 at hP
  split at hP
  · exact lv_lsub hx hb hd (k _ _ _ _ _ _ hP hl hw hD hS)
  · exact hP.elim
theorem zs_lmul (C : zq_C X cc nL own d) (hd : decode cc pc = .ok (.lmul, 1)) (k : zq_ok X nL (pc + 1) K) : zq_ok X nL pc (zi_l2 (fun x y => x * y) K) := by
  obtain ⟨p, l, e, R, s, m, args, below, meth, c, D, Y, ad, A, kc, kn, Z⟩ := X
  obtain ⟨hx, hb, hml, hown, hts, hK, hR⟩ := C
  intro ls st h H locs a hP hl hw hD hS
  unfold zi_l2 at hP
  split at hP
  · exact lv_lmul hx hb hd (k _ _ _ _ _ _ hP hl hw hD hS)
  · exact hP.elim
theorem zs_land (C : zq_C X cc nL own d) (hd : decode cc pc = .ok (.land, 1)) (k : zq_ok X nL (pc + 1) K) : zq_ok X nL pc (zi_l2 (fun x y => x &&& y) K) := by
  obtain ⟨p, l, e, R, s, m, args, below, meth, c, D, Y, ad, A, kc, kn, Z⟩ := X
  obtain ⟨hx, hb, hml, hown, hts, hK, hR⟩ := C
  intro ls st h H locs a hP hl hw hD hS
  unfold zi_l2 at hP
  split at hP
  · exact lv_land hx hb hd (k _ _ _ _ _ _ hP hl hw hD hS)
  · exact hP.elim
theorem zs_lor (C : zq_C X cc nL own d) (hd : decode cc pc = .ok (.lor, 1)) (k : zq_ok X nL (pc + 1) K) : zq_ok X nL pc (zi_l2 (fun x y => x ||| y) K) := by
  obtain ⟨p, l, e, R, s, m, args, below, meth, c, D, Y, ad, A, kc, kn, Z⟩ := X
  obtain ⟨hx, hb, hml, hown, hts, hK, hR⟩ := C
  intro ls st h H locs a hP hl hw hD hS
  unfold zi_l2 at hP
  split at hP
  · exact lv_lor hx hb hd (k _ _ _ _ _ _ hP hl hw hD hS)
  · exact hP.elim
theorem zs_lxor (C : zq_C X cc nL own d) (hd : decode cc pc = .ok (.lxor, 1)) (k : zq_ok X nL (pc + 1) K) : zq_ok X nL pc (zi_l2 (fun x y => x ^^^ y) K) := by
  obtain ⟨p, l, e, R, s, m, args, below, meth, c, D, Y, ad, A, kc, kn, Z⟩ := X
  obtain ⟨hx, hb, hml, hown, hts, hK, hR⟩ := C
  intro ls st h H locs a hP hl hw hD hS
  unfold zi_l2 at hP
  split at hP
  · exact lv_lxor hx hb hd (k _ _ _ _ _ _ hP hl hw hD hS)
  · exact hP.elim
theorem zs_ldiv (C : zq_C X cc nL own d) (hd : decode cc pc = .ok (.ldiv, 1)) (k : zq_ok X nL (pc + 1) K) : zq_ok X nL pc (zi_ldv (fun x y => x / y) K) := by
  obtain ⟨p, l, e, R, s, m, args, below, meth, c, D, Y, ad, A, kc, kn, Z⟩ := X
  obtain ⟨hx, hb, hml, hown, hts, hK, hR⟩ := C
  intro ls st h H locs a hP hl hw hD hS
  unfold zi_ldv at hP
  split at hP
  · exact lv_ldiv hx hb hd hP.1 (k _ _ _ _ _ _ hP.2 hl hw hD hS)
  · exact hP.elim
theorem zs_lrem (C : zq_C X cc nL own d) (hd : decode cc pc = .ok (.lrem, 1)) (k : zq_ok X nL (pc + 1) K) : zq_ok X nL pc (zi_ldv zf_lrem K) := by
  obtain ⟨p, l, e, R, s, m, args, below, meth, c, D, Y, ad, A, kc, kn, Z⟩ := X
  obtain ⟨hx, hb, hml, hown, hts, hK, hR⟩ := C
  intro ls st h H locs a hP hl hw hD hS
  unfold zi_ldv at hP
  split at hP
  · exact lv_lrem hx hb hd hP.1 (k _ _ _ _ _ _ hP.2 hl hw hD hS)
  · exact hP.elim
theorem zs_lushr (C : zq_C X cc nL own d) (hd : decode cc pc = .ok (.lushr, 1)) (k : zq_ok X nL (pc + 1) K) : zq_ok X nL pc (zi_lsh zf_lushr K) := by
  obtain ⟨p, l, e, R, s, m, args, below, meth, c, D, Y, ad, A, kc, kn, Z⟩ := X
  obtain ⟨hx, hb, hml, hown, hts, hK, hR⟩ := C
  intro ls st h H locs a hP hl hw hD hS
  unfold zi_lsh at hP
  split at hP
  · exact lv_lushr hx hb hd rfl (k _ _ _ _ _ _ hP hl hw hD hS)
  · exact hP.elim
theorem zs_lshl (C : zq_C X cc nL own d) (hd : decode cc pc = .ok (.lshl, 1)) (k : zq_ok X nL (pc + 1) K) : zq_ok X nL pc (zi_lsh zf_lshl K) := by
  obtain ⟨p, l, e, R, s, m, args, below, meth, c, D, Y, ad, A, kc, kn, Z⟩ := X
  obtain ⟨hx, hb, hml, hown, hts, hK, hR⟩ := C
  intro ls st h H locs a hP hl hw hD hS
  unfold zi_lsh at hP
  split at hP
  · exact lv_lshl hx hb hd rfl (k _ _ _ _ _ _ hP hl hw hD hS)
  · exact hP.elim
theorem zs_i2l (C : zq_C X cc nL own d) (hd : decode cc pc = .ok (.i2l, 1)) (k : zq_ok X nL (pc + 1) K) : zq_ok X nL pc (zi_i2l  K) := by
  obtain ⟨p, l, e, R, s, m, args, below, meth, c, D, Y, ad, A, kc, kn, Z⟩ := X
  obtain ⟨hx, hb, hml, hown, hts, hK, hR⟩ := C
  intro ls st h H locs a hP hl hw hD hS
  unfold zi_i2l at hP
  split at hP
  · exact lv_i2l hx hb hd rfl (k _ _ _ _ _ _ hP hl hw hD hS)
  · exact hP.elim
theorem zs_l2i (C : zq_C X cc nL own d) (hd : decode cc pc = .ok (.l2i, 1)) (k : zq_ok X nL (pc + 1) K) : zq_ok X nL pc (zi_l2i  K) := by
  obtain ⟨p, l, e, R, s, m, args, below, meth, c, D, Y, ad, A, kc, kn, Z⟩ := X
  obtain ⟨hx, hb, hml, hown, hts, hK, hR⟩ := C
  intro ls st h H locs a hP hl hw hD hS
  unfold zi_l2i at hP
  split at hP
  · exact lv_l2i hx hb hd rfl (k _ _ _ _ _ _ hP hl hw hD hS)
  · exact hP.elim
theorem zs_lcmp (C : zq_C X cc nL own d) (hd : decode cc pc = .ok (.lcmp, 1)) (k : zq_ok X nL (pc + 1) K) : zq_ok X nL pc (zi_lcmp K) := by
  obtain ⟨p, l, e, R, s, m, args, below, meth, c, D, Y, ad, A, kc, kn, Z⟩ := X
  obtain ⟨hx, hb, hml, hown, hts, hK, hR⟩ := C
  intro ls st h H locs a hP hl hw hD hS
  unfold zi_lcmp at hP
  split at hP
  · exact W.lcmp hx hb hd (k _ _ _ _ _ _ hP hl hw hD hS)
  · exact hP.elim
theorem zs_dup (C : zq_C X cc nL own d) (hd : decode cc pc = .ok (.dup, 1)) (k : zq_ok X nL (pc + 1) K) : zq_ok X nL pc (zi_dup K) := by
  obtain ⟨p, l, e, R, s, m, args, below, meth, c, D, Y, ad, A, kc, kn, Z⟩ := X
  obtain ⟨hx, hb, hml, hown, hts, hK, hR⟩ := C
  intro ls st h H locs a hP hl hw hD hS
  unfold zi_dup at hP
  split at hP
  · exact lv_dup hx hb hd rfl (k _ _ _ _ _ _ hP hl hw hD hS)
  · exact lv_dup hx hb hd rfl (k _ _ _ _ _ _ hP hl hw hD hS)
  · exact hP.elim
theorem zs_dup2 (C : zq_C X cc nL own d) (hd : decode cc pc = .ok (.dup2, 1)) (k : zq_ok X nL (pc + 1) K) : zq_ok X nL pc (zi_dup2 K) := by
  obtain ⟨p, l, e, R, s, m, args, below, meth, c, D, Y, ad, A, kc, kn, Z⟩ := X
  obtain ⟨hx, hb, hml, hown, hts, hK, hR⟩ := C
  intro ls st h H locs a hP hl hw hD hS
  unfold zi_dup2 at hP
  split at hP
  · exact lv_dup2_11 hx hb hd rfl rfl (k _ _ _ _ _ _ hP hl hw hD hS)
  · exact lv_dup2_11 hx hb hd rfl rfl (k _ _ _ _ _ _ hP hl hw hD hS)
  · exact hP.elim
theorem zs_pop (C : zq_C X cc nL own d) (hd : decode cc pc = .ok (.pop, 1)) (k : zq_ok X nL (pc + 1) K) : zq_ok X nL pc (zi_pop K) := by
  obtain ⟨p, l, e, R, s, m, args, below, meth, c, D, Y, ad, A, kc, kn, Z⟩ := X
  obtain ⟨hx, hb, hml, hown, hts, hK, hR⟩ := C
  intro ls st h H locs a hP hl hw hD hS
  unfold zi_pop at hP
  split at hP
  · exact lv_pop hx hb hd rfl (k _ _ _ _ _ _ hP hl hw hD hS)
  · exact hP.elim
theorem zs_goto (C : zq_C X cc nL own d) {off : Int} {tgt : Nat} (hd : decode cc pc = .ok (.goto off, 3)) (ht : (pc : Int) + off = (tgt : Int)) (k : zq_ok X nL tgt K) : zq_ok X nL pc K := by
  obtain ⟨p, l, e, R, s, m, args, below, meth, c, D, Y, ad, A, kc, kn, Z⟩ := X
  obtain ⟨hx, hb, hml, hown, hts, hK, hR⟩ := C
  intro ls st h H locs a hP hl hw hD hS
  exact lv_goto hx hb hd ht (k _ _ _ _ _ _ hP hl hw hD hS)
theorem zs_if_eq (C : zq_C X cc nL own d) {off : Int} {tgt : Nat} (hd : decode cc pc = .ok (.ifCond .eq off, 3)) (ht : (pc : Int) + off = (tgt : Int)) (j : zq_ok X nL tgt J) (k : zq_ok X nL (pc + 3) K) : zq_ok X nL pc (zi_if1 (fun x => x = 0) J K) := by
  obtain ⟨p, l, e, R, s, m, args, below, meth, c, D, Y, ad, A, kc, kn, Z⟩ := X
  obtain ⟨hx, hb, hml, hown, hts, hK, hR⟩ := C
  intro ls st h H locs a hP hl hw hD hS
  unfold zi_if1 at hP
  split at hP
  · exact lv_if_eq hx hb hd ht (fun q => j _ _ _ _ _ _ (hP.1 q) hl hw hD hS) (fun q => k _ _ _ _ _ _ (hP.2 q) hl hw hD hS)
  · exact hP.elim
theorem zs_icmp_eq (C : zq_C X cc nL own d) {off : Int} {tgt : Nat} (hd : decode cc pc = .ok (.if_icmp .eq off, 3)) (ht : (pc : Int) + off = (tgt : Int)) (j : zq_ok X nL tgt J) (k : zq_ok X nL (pc + 3) K) : zq_ok X nL pc (zi_if2 (fun x y => x = y) J K) := by
  obtain ⟨p, l, e, R, s, m, args, below, meth, c, D, Y, ad, A, kc, kn, Z⟩ := X
  obtain ⟨hx, hb, hml, hown, hts, hK, hR⟩ := C
  intro ls st h H locs a hP hl hw hD hS
  unfold zi_if2 at hP
  split at hP
  · exact lv_icmp_eq hx hb hd ht (fun q => j _ _ _ _ _ _ (hP.1 q) hl hw hD hS) (fun q => k _ _ _ _ _ _ (hP.2 q) hl hw hD hS)
  · exact hP.elim
theorem zs_if_ne (C : zq_C X cc nL own d) {off : Int} {tgt : Nat} (hd : decode cc pc = .ok (.ifCond .ne off, 3)) (ht : (pc : Int) + off = (tgt : Int)) (j : zq_ok X nL tgt J) (k : zq_ok X nL (pc + 3) K) : zq_ok X nL pc (zi_if1 (fun x => x = 0) K J) := by
  obtain ⟨p, l, e, R, s, m, args, below, meth, c, D, Y, ad, A, kc, kn, Z⟩ := X
  obtain ⟨hx, hb, hml, hown, hts, hK, hR⟩ := C
  intro ls st h H locs a hP hl hw hD hS
  unfold zi_if1 at hP
  split at hP
  · exact lv_if_ne hx hb hd ht (fun q => j _ _ _ _ _ _ (hP.2 q) hl hw hD hS) (fun q => k _ _ _ _ _ _ (hP.1 q) hl hw hD hS)
  · exact hP.elim
theorem zs_icmp_ne (C : zq_C X cc nL own d) {off : Int} {tgt : Nat} (hd : decode cc pc = .ok (.if_icmp .ne off, 3)) (ht : (pc : Int) + off = (tgt : Int)) (j : zq_ok X nL tgt J) (k : zq_ok X nL (pc + 3) K) : zq_ok X nL pc (zi_if2 (fun x y => x = y) K J) := by
  obtain ⟨p, l, e, R, s, m, args, below, meth, c, D, Y, ad, A, kc, kn, Z⟩ := X
  obtain ⟨hx, hb, hml, hown, hts, hK, hR⟩ := C
  intro ls st h H locs a hP hl hw hD hS
  unfold zi_if2 at hP
  split at hP
  · exact lv_icmp_ne hx hb hd ht (fun q => j _ _ _ _ _ _ (hP.2 q) hl hw hD hS) (fun q => k _ _ _ _ _ _ (hP.1 q) hl hw hD hS)
  · exact hP.elim
theorem zs_if_lt (C : zq_C X cc nL own d) {off : Int} {tgt : Nat} (hd : decode cc pc = .ok (.ifCond .lt off, 3)) (ht : (pc : Int) + off = (tgt : Int)) (j : zq_ok X nL tgt J) (k : zq_ok X nL (pc + 3) K) : zq_ok X nL pc (zi_if1 (fun x => x < 0) J K) := by
  obtain ⟨p, l, e, R, s, m, args, below, meth, c, D, Y, ad, A, kc, kn, Z⟩ := X
  obtain ⟨hx, hb, hml, hown, hts, hK, hR⟩ := C
  intro ls st h H locs a hP hl hw hD hS
  unfold zi_if1 at hP
  split at hP
  · exact lv_if_lt hx hb hd ht (fun q => j _ _ _ _ _ _ (hP.1 q) hl hw hD hS) (fun q => k _ _ _ _ _ _ (hP.2 q) hl hw hD hS)
  · exact hP.elim
theorem zs_icmp_lt (C : zq_C X cc nL own d) {off : Int} {tgt : Nat} (hd : decode cc pc = .ok (.if_icmp .lt off, 3)) (ht : (pc : Int) + off = (tgt : Int)) (j : zq_ok X nL tgt J) (k : zq_ok X nL (pc + 3) K) : zq_ok X nL pc (zi_if2 (fun x y => x < y) J K) := by
  obtain ⟨p, l, e, R, s, m, args, below, meth, c, D, Y, ad, A, kc, kn, Z⟩ := X
  obtain ⟨hx, hb, hml, hown, hts, hK, hR⟩ := C
  intro ls st h H locs a hP hl hw hD hS
  unfold zi_if2 at hP
  split at hP
  · exact lv_icmp_lt hx hb hd ht (fun q => j _ _ _ _ _ _ (hP.1 q) hl hw hD hS) (fun q => k _ _ _ _ _ _ (hP.2 q) hl hw hD hS)
  · exact hP.elim
theorem zs_if_ge (C : zq_C X cc nL own d) {off : Int} {tgt : Nat} (hd : decode cc pc = .ok (.ifCond .ge off, 3)) (ht : (pc : Int) + off = (tgt : Int)) (j : zq_ok X nL tgt J) (k : zq_ok X nL (pc + 3) K) : zq_ok X nL pc (zi_if1 (fun x => 0 ≤ x) J K) := by
  obtain ⟨p, l, e, R, s, m, args, below, meth, c, D, Y, ad, A, kc, kn, Z⟩ := X
  obtain ⟨hx, hb, hml, hown, hts, hK, hR⟩ := C
  intro ls st h H locs a hP hl hw hD hS
  unfold zi_if1 at hP
  split at hP
  · exact lv_if_ge hx hb hd ht (fun q => j _ _ _ _ _ _ (hP.1 q) hl hw hD hS) (fun q => k _ _ _ _ _ _ (hP.2 q) hl hw hD hS)
  · exact hP.elim
theorem zs_icmp_ge (C : zq_C X cc nL own d) {off : Int} {tgt : Nat} (hd : decode cc pc = .ok (.if_icmp .ge off, 3)) (ht : (pc : Int) + off = (tgt : Int)) (j : zq_ok X nL tgt J) (k : zq_ok X nL (pc + 3) K) : zq_ok X nL pc (zi_if2 (fun x y => y ≤ x) J K) := by
  obtain ⟨p, l, e, R, s, m, args, below, meth, c, D, Y, ad, A, kc, kn, Z⟩ := X
  obtain ⟨hx, hb, hml, hown, hts, hK, hR⟩ := C
  intro ls st h H locs a hP hl hw hD hS
  unfold zi_if2 at hP
  split at hP
  · exact lv_icmp_ge hx hb hd ht (fun q => j _ _ _ _ _ _ (hP.1 q) hl hw hD hS) (fun q => k _ _ _ _ _ _ (hP.2 q) hl hw hD hS)
  · exact hP.elim
theorem zs_if_gt (C : zq_C X cc nL own d) {off : Int} {tgt : Nat} (hd : decode cc pc = .ok (.ifCond .gt off, 3)) (ht : (pc : Int) + off = (tgt : Int)) (j : zq_ok X nL tgt J) (k : zq_ok X nL (pc + 3) K) : zq_ok X nL pc (zi_if1 (fun x => 0 < x) J K) := by
  obtain ⟨p, l, e, R, s, m, args, below, meth, c, D, Y, ad, A, kc, kn, Z⟩ := X
  obtain ⟨hx, hb, hml, hown, hts, hK, hR⟩ := C
  intro ls st h H locs a hP hl hw hD hS
  unfold zi_if1 at hP
  split at hP
  · exact lv_if_gt hx hb hd ht (fun q => j _ _ _ _ _ _ (hP.1 q) hl hw hD hS) (fun q => k _ _ _ _ _ _ (hP.2 q) hl hw hD hS)
  · exact hP.elim
theorem zs_icmp_gt (C : zq_C X cc nL own d) {off : Int} {tgt : Nat} (hd : decode cc pc = .ok (.if_icmp .gt off, 3)) (ht : (pc : Int) + off = (tgt : Int)) (j : zq_ok X nL tgt J) (k : zq_ok X nL (pc + 3) K) : zq_ok X nL pc (zi_if2 (fun x y => y < x) J K) := by
  obtain ⟨p, l, e, R, s, m, args, below, meth, c, D, Y, ad, A, kc, kn, Z⟩ := X
  obtain ⟨hx, hb, hml, hown, hts, hK, hR⟩ := C
  intro ls st h H locs a hP hl hw hD hS
  unfold zi_if2 at hP
  split at hP
  · exact lv_icmp_gt hx hb hd ht (fun q => j _ _ _ _ _ _ (hP.1 q) hl hw hD hS) (fun q => k _ _ _ _ _ _ (hP.2 q) hl hw hD hS)
  · exact hP.elim
theorem zs_if_le (C : zq_C X cc nL own d) {off : Int} {tgt : Nat} (hd : decode cc pc = .ok (.ifCond .le off, 3)) (ht : (pc : Int) + off = (tgt : Int)) (j : zq_ok X nL tgt J) (k : zq_ok X nL (pc + 3) K) : zq_ok X nL pc (zi_if1 (fun x => x ≤ 0) J K) := by
  obtain ⟨p, l, e, R, s, m, args, below, meth, c, D, Y, ad, A, kc, kn, Z⟩ := X
  obtain ⟨hx, hb, hml, hown, hts, hK, hR⟩ := C
  intro ls st h H locs a hP hl hw hD hS
  unfold zi_if1 at hP
  split at hP
  · exact lv_if_le hx hb hd ht (fun q => j _ _ _ _ _ _ (hP.1 q) hl hw hD hS) (fun q => k _ _ _ _ _ _ (hP.2 q) hl hw hD hS)
  · exact hP.elim
theorem zs_icmp_le (C : zq_C X cc nL own d) {off : Int} {tgt : Nat} (hd : decode cc pc = .ok (.if_icmp .le off, 3)) (ht : (pc : Int) + off = (tgt : Int)) (j : zq_ok X nL tgt J) (k : zq_ok X nL (pc + 3) K) : zq_ok X nL pc (zi_if2 (fun x y => x ≤ y) J K) := by
  obtain ⟨p, l, e, R, s, m, args, below, meth, c, D, Y, ad, A, kc, kn, Z⟩ := X
  obtain ⟨hx, hb, hml, hown, hts, hK, hR⟩ := C
  intro ls st h H locs a hP hl hw hD hS
  unfold zi_if2 at hP
  split at hP
  · exact lv_icmp_le hx hb hd ht (fun q => j _ _ _ _ _ _ (hP.1 q) hl hw hD hS) (fun q => k _ _ _ _ _ _ (hP.2 q) hl hw hD hS)
  · exact hP.elim
theorem zs_iaload (C : zq_C X cc nL own d) {p n : Nat} (hp : zq_S[p]? = some (1, n, [])) (hd : decode cc pc = .ok (.iaload, 1)) (k : zq_ok X nL (pc + 1) K) : zq_ok X nL pc (zi_aldI p n K) := by
  obtain ⟨p', l, e, R, s, m, args, below, meth, c, D, Y, ad, A, kc, kn, Z⟩ := X
  obtain ⟨hx, hb, hml, hown, hts, hK, hR⟩ := C
  intro ls st h H locs a hP hl hw hD hS
  unfold zi_aldI at hP
  split at hP
  · obtain ⟨rfl, hin, hP⟩ := hP
    exact va_iald hx hb hK hw _ 0 (zq_ws_at hp) rfl hin hd (k _ _ _ _ _ _ hP hl hw hD hS)
  · exact hP.elim
theorem zs_baload (C : zq_C X cc nL own d) {p n : Nat} (hp : zq_S[p]? = some (3, n, [])) (hd : decode cc pc = .ok (.baload, 1)) (k : zq_ok X nL (pc + 1) K) : zq_ok X nL pc (zi_aldI p n K) := by
  obtain ⟨p', l, e, R, s, m, args, below, meth, c, D, Y, ad, A, kc, kn, Z⟩ := X
  obtain ⟨hx, hb, hml, hown, hts, hK, hR⟩ := C
  intro ls st h H locs a hP hl hw hD hS
  unfold zi_aldI at hP
  split at hP
  · obtain ⟨rfl, hin, hP⟩ := hP
    exact va_zald hx hb hK hw _ 2 (zq_ws_at hp) rfl hin hd (k _ _ _ _ _ _ hP hl hw hD hS)
  · exact hP.elim
theorem zs_laload (C : zq_C X cc nL own d) {p n : Nat} (hp : zq_S[p]? = some (2, n, [])) (hd : decode cc pc = .ok (.laload, 1)) (k : zq_ok X nL (pc + 1) K) : zq_ok X nL pc (zi_aldL p n K) := by
  obtain ⟨p', l, e, R, s, m, args, below, meth, c, D, Y, ad, A, kc, kn, Z⟩ := X
  obtain ⟨hx, hb, hml, hown, hts, hK, hR⟩ := C
  intro ls st h H locs a hP hl hw hD hS
  unfold zi_aldL at hP
  split at hP
  · obtain ⟨rfl, hin, hP⟩ := hP
    exact va_lald hx hb hK hw _ 1 (zq_ws_at hp) rfl hin hd (k _ _ _ _ _ _ hP hl hw hD hS)
  · exact hP.elim
theorem zs_iastore (C : zq_C X cc nL own d) {p n : Nat} (hp : zq_S[p]? = some (1, n, [])) (hd : decode cc pc = .ok (.iastore, 1)) (k : zq_ok X nL (pc + 1) K) : zq_ok X nL pc (zi_astI p n K) := by
  obtain ⟨p', l, e, R, s, m, args, below, meth, c, D, Y, ad, A, kc, kn, Z⟩ := X
  obtain ⟨hx, hb, hml, hown, hts, hK, hR⟩ := C
  intro ls st h H locs a hP hl hw hD hS
  unfold zi_astI at hP
  split at hP
  · obtain ⟨rfl, hin, hP⟩ := hP
    refine va_iast hx hb hK hw hD hS _ 0 (zq_ws_at hp) rfl hin hd (fun H1 locs1 hw1 hD1 hS1 => ?_)
    rw [zq_ws_setI hp] at hw1 hD1
    exact k _ _ _ _ _ _ hP hl hw1 hD1 hS1
  · exact hP.elim
theorem zs_lastore (C : zq_C X cc nL own d) {p n : Nat} (hp : zq_S[p]? = some (2, n, [])) (hd : decode cc pc = .ok (.lastore, 1)) (k : zq_ok X nL (pc + 1) K) : zq_ok X nL pc (zi_astL p n K) := by
  obtain ⟨p', l, e, R, s, m, args, below, meth, c, D, Y, ad, A, kc, kn, Z⟩ := X
  obtain ⟨hx, hb, hml, hown, hts, hK, hR⟩ := C
  intro ls st h H locs a hP hl hw hD hS
  unfold zi_astL at hP
  split at hP
  · obtain ⟨rfl, hin, hP⟩ := hP
    refine va_last hx hb hK hw hD hS _ 1 (zq_ws_at hp) rfl hin hd (fun H1 locs1 hw1 hD1 hS1 => ?_)
    rw [zq_ws_setL hp] at hw1 hD1
    exact k _ _ _ _ _ _ hP hl hw1 hD1 hS1
  · exact hP.elim
theorem zs_bastore (C : zq_C X cc nL own d) {p n : Nat} (hp : zq_S[p]? = some (3, n, [])) (hd : decode cc pc = .ok (.bastore, 1)) (k : zq_ok X nL (pc + 1) K) : zq_ok X nL pc (zi_astZ p n K) := by
  obtain ⟨p', l, e, R, s, m, args, below, meth, c, D, Y, ad, A, kc, kn, Z⟩ := X
  obtain ⟨hx, hb, hml, hown, hts, hK, hR⟩ := C
  intro ls st h H locs a hP hl hw hD hS
  unfold zi_astZ at hP
  split at hP
  · next x i q st =>
    obtain ⟨rfl, hin, h01, hP⟩ := hP
    have hnar : vp_nar .boolean x = x := by rcases h01 with rfl | rfl <;> rfl
    refine va_zast hx hb hK hw hD hS _ 2 (zq_ws_at hp) rfl hin hd (fun H1 locs1 hw1 hD1 hS1 => ?_)
    rw [hnar, zq_ws_setZ hp] at hw1 hD1
    exact k _ _ _ _ _ _ hP hl hw1 hD1 hS1
  · exact hP.elim
theorem zs_alen (C : zq_C X cc nL own d) {p n : Nat} (hp : zq_S[p]? = some (1, n, []) ∨ zq_S[p]? = some (2, n, [])) (hd : decode cc pc = .ok (.arraylength, 1)) (k : zq_ok X nL (pc + 1) K) : zq_ok X nL pc (zi_alen p n K) := by
  obtain ⟨p', l, e, R, s, m, args, below, meth, c, D, Y, ad, A, kc, kn, Z⟩ := X
  obtain ⟨hx, hb, hml, hown, hts, hK, hR⟩ := C
  intro ls st h H locs a hP hl hw hD hS
  unfold zi_alen at hP
  split at hP
  · obtain ⟨rfl, hP⟩ := hP
    rcases hp with hp | hp
    · exact va_alen hx hb hK hw _ 0 (zq_ws_at hp) rfl rfl hd (k _ _ _ _ _ _ hP hl hw hD hS)
    · exact va_alen hx hb hK hw _ 1 (zq_ws_at hp) rfl rfl hd (k _ _ _ _ _ _ hP hl hw hD hS)
  · exact hP.elim
end ZS
