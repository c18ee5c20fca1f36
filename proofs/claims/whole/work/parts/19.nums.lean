/-! ===== numbers ===== -/
theorem zI_add {x y : Int32} (h : -2147483648 ≤ x.toInt + y.toInt) (h' : x.toInt + y.toInt ≤ 2147483647) : (x + y).toInt = x.toInt + y.toInt := by
  rw [Int32.toInt_add]
  exact Int.bmod_eq_of_le (by omega) (by omega)
theorem zI_sub {x y : Int32} (h : -2147483648 ≤ x.toInt - y.toInt) (h' : x.toInt - y.toInt ≤ 2147483647) : (x - y).toInt = x.toInt - y.toInt := by
  rw [Int32.toInt_sub]
  exact Int.bmod_eq_of_le (by omega) (by omega)
theorem zI_mul {x y : Int32} (h : -2147483648 ≤ x.toInt * y.toInt) (h' : x.toInt * y.toInt ≤ 2147483647) : (x * y).toInt = x.toInt * y.toInt := by
  rw [Int32.toInt_mul]
  exact Int.bmod_eq_of_le (by omega) (by omega)
theorem zb_dig {x k : Int32} (h1 : -1 ≤ x) (h2 : x ≤ 255) (h3 : 0 ≤ k) (h4 : k ≤ 255) : (x - 48 < k ↔ ¬ 48 + k ≤ x) ∧ (9 < x - 48 ↔ ¬ x ≤ 57) ∧ (x - 48 ≤ 9 ↔ x ≤ 57) := by
  refine ⟨?_, ?_, ?_⟩ <;> grind
theorem zb_let {x k : Int32} (h1 : -1 ≤ x) (h2 : x ≤ 255) (h3 : 0 ≤ k) (h4 : k ≤ 255) : (x - 97 < 0 ↔ ¬ 97 ≤ x) ∧ (x - 97 < k ↔ x < 97 + k) := by
  refine ⟨?_, ?_⟩ <;> grind
theorem zc_b (P : Prop) [Decidable P] : ((if P then (1 : Int32) else 0) = 0 ∨ (if P then (1 : Int32) else 0) = 1) = True := by
  apply eq_true
  split
  · exact Or.inr rfl
  · exact Or.inl rfl
theorem zc_0 (P : Prop) [Decidable P] : ((if P then (1 : Int32) else 0) = 0) = ¬ P := by
  apply propext
  split
  · next h => exact ⟨fun q => absurd q (by decide), fun q => absurd h q⟩
  · next h => exact ⟨fun _ => h, fun _ => rfl⟩
theorem zc_1 (P : Prop) [Decidable P] : ((if P then (1 : Int32) else 0) = 1) = P := by
  apply propext
  split
  · next h => exact ⟨fun _ => h, fun _ => rfl⟩
  · next h => exact ⟨fun q => absurd q (by decide), fun q => absurd q h⟩
theorem zc_10 : ((1 : Int32) = 0) = False := eq_false (by decide)
theorem zc_01 : ((0 : Int32) = 1) = False := eq_false (by decide)
theorem zw_le (a b : Int32) : (a.toInt64 ≤ b.toInt64) = (a ≤ b) := by
  apply propext
  rw [Int64.le_iff_toInt_le, Int32.le_iff_toInt_le, Int32.toInt_toInt64, Int32.toInt_toInt64]
theorem zw_lt (a b : Int32) : (a.toInt64 < b.toInt64) = (a < b) := by
  apply propext
  rw [Int64.lt_iff_toInt_lt, Int32.lt_iff_toInt_lt, Int32.toInt_toInt64, Int32.toInt_toInt64]
theorem zw_g0 (a : Int32) : ((0 : Int64) ≤ a.toInt64) = (0 ≤ a) := by rw [show (0 : Int64) = (0 : Int32).toInt64 by decide, zw_le]
theorem zw_l0 (a : Int32) : (a.toInt64 ≤ (0 : Int64)) = (a ≤ 0) := by rw [show (0 : Int64) = (0 : Int32).toInt64 by decide, zw_le]
theorem zw_g1 (a : Int32) : ((1 : Int64) ≤ a.toInt64) = (1 ≤ a) := by rw [show (1 : Int64) = (1 : Int32).toInt64 by decide, zw_le]
theorem zw_l1 (a : Int32) : (a.toInt64 ≤ (1 : Int64)) = (a ≤ 1) := by rw [show (1 : Int64) = (1 : Int32).toInt64 by decide, zw_le]
theorem zw_g2 (a : Int32) : ((2 : Int64) ≤ a.toInt64) = (2 ≤ a) := by rw [show (2 : Int64) = (2 : Int32).toInt64 by decide, zw_le]
theorem zw_l2 (a : Int32) : (a.toInt64 ≤ (2 : Int64)) = (a ≤ 2) := by rw [show (2 : Int64) = (2 : Int32).toInt64 by decide, zw_le]
theorem zw_g3 (a : Int32) : ((3 : Int64) ≤ a.toInt64) = (3 ≤ a) := by rw [show (3 : Int64) = (3 : Int32).toInt64 by decide, zw_le]
theorem zw_l3 (a : Int32) : (a.toInt64 ≤ (3 : Int64)) = (a ≤ 3) := by rw [show (3 : Int64) = (3 : Int32).toInt64 by decide, zw_le]
theorem zw_g5 (a : Int32) : ((5 : Int64) ≤ a.toInt64) = (5 ≤ a) := by rw [show (5 : Int64) = (5 : Int32).toInt64 by decide, zw_le]
theorem zw_l5 (a : Int32) : (a.toInt64 ≤ (5 : Int64)) = (a ≤ 5) := by rw [show (5 : Int64) = (5 : Int32).toInt64 by decide, zw_le]
theorem zw_g6 (a : Int32) : ((6 : Int64) ≤ a.toInt64) = (6 ≤ a) := by rw [show (6 : Int64) = (6 : Int32).toInt64 by decide, zw_le]
theorem zw_l6 (a : Int32) : (a.toInt64 ≤ (6 : Int64)) = (a ≤ 6) := by rw [show (6 : Int64) = (6 : Int32).toInt64 by decide, zw_le]
theorem zw_g7 (a : Int32) : ((7 : Int64) ≤ a.toInt64) = (7 ≤ a) := by rw [show (7 : Int64) = (7 : Int32).toInt64 by decide, zw_le]
theorem zw_l7 (a : Int32) : (a.toInt64 ≤ (7 : Int64)) = (a ≤ 7) := by rw [show (7 : Int64) = (7 : Int32).toInt64 by decide, zw_le]
theorem zw_g9 (a : Int32) : ((9 : Int64) ≤ a.toInt64) = (9 ≤ a) := by rw [show (9 : Int64) = (9 : Int32).toInt64 by decide, zw_le]
theorem zw_l9 (a : Int32) : (a.toInt64 ≤ (9 : Int64)) = (a ≤ 9) := by rw [show (9 : Int64) = (9 : Int32).toInt64 by decide, zw_le]
theorem zw_g10 (a : Int32) : ((10 : Int64) ≤ a.toInt64) = (10 ≤ a) := by rw [show (10 : Int64) = (10 : Int32).toInt64 by decide, zw_le]
theorem zw_l10 (a : Int32) : (a.toInt64 ≤ (10 : Int64)) = (a ≤ 10) := by rw [show (10 : Int64) = (10 : Int32).toInt64 by decide, zw_le]
theorem zw_g15 (a : Int32) : ((15 : Int64) ≤ a.toInt64) = (15 ≤ a) := by rw [show (15 : Int64) = (15 : Int32).toInt64 by decide, zw_le]
theorem zw_l15 (a : Int32) : (a.toInt64 ≤ (15 : Int64)) = (a ≤ 15) := by rw [show (15 : Int64) = (15 : Int32).toInt64 by decide, zw_le]
theorem zw_g16 (a : Int32) : ((16 : Int64) ≤ a.toInt64) = (16 ≤ a) := by rw [show (16 : Int64) = (16 : Int32).toInt64 by decide, zw_le]
theorem zw_l16 (a : Int32) : (a.toInt64 ≤ (16 : Int64)) = (a ≤ 16) := by rw [show (16 : Int64) = (16 : Int32).toInt64 by decide, zw_le]
theorem zw_g48 (a : Int32) : ((48 : Int64) ≤ a.toInt64) = (48 ≤ a) := by rw [show (48 : Int64) = (48 : Int32).toInt64 by decide, zw_le]
theorem zw_l48 (a : Int32) : (a.toInt64 ≤ (48 : Int64)) = (a ≤ 48) := by rw [show (48 : Int64) = (48 : Int32).toInt64 by decide, zw_le]
theorem zw_g50 (a : Int32) : ((50 : Int64) ≤ a.toInt64) = (50 ≤ a) := by rw [show (50 : Int64) = (50 : Int32).toInt64 by decide, zw_le]
theorem zw_l50 (a : Int32) : (a.toInt64 ≤ (50 : Int64)) = (a ≤ 50) := by rw [show (50 : Int64) = (50 : Int32).toInt64 by decide, zw_le]
theorem zw_g57 (a : Int32) : ((57 : Int64) ≤ a.toInt64) = (57 ≤ a) := by rw [show (57 : Int64) = (57 : Int32).toInt64 by decide, zw_le]
theorem zw_l57 (a : Int32) : (a.toInt64 ≤ (57 : Int64)) = (a ≤ 57) := by rw [show (57 : Int64) = (57 : Int32).toInt64 by decide, zw_le]
theorem zw_g97 (a : Int32) : ((97 : Int64) ≤ a.toInt64) = (97 ≤ a) := by rw [show (97 : Int64) = (97 : Int32).toInt64 by decide, zw_le]
theorem zw_l97 (a : Int32) : (a.toInt64 ≤ (97 : Int64)) = (a ≤ 97) := by rw [show (97 : Int64) = (97 : Int32).toInt64 by decide, zw_le]
theorem zw_g100 (a : Int32) : ((100 : Int64) ≤ a.toInt64) = (100 ≤ a) := by rw [show (100 : Int64) = (100 : Int32).toInt64 by decide, zw_le]
theorem zw_l100 (a : Int32) : (a.toInt64 ≤ (100 : Int64)) = (a ≤ 100) := by rw [show (100 : Int64) = (100 : Int32).toInt64 by decide, zw_le]
theorem zw_g200 (a : Int32) : ((200 : Int64) ≤ a.toInt64) = (200 ≤ a) := by rw [show (200 : Int64) = (200 : Int32).toInt64 by decide, zw_le]
theorem zw_l200 (a : Int32) : (a.toInt64 ≤ (200 : Int64)) = (a ≤ 200) := by rw [show (200 : Int64) = (200 : Int32).toInt64 by decide, zw_le]
theorem zw_g999 (a : Int32) : ((999 : Int64) ≤ a.toInt64) = (999 ≤ a) := by rw [show (999 : Int64) = (999 : Int32).toInt64 by decide, zw_le]
theorem zw_l999 (a : Int32) : (a.toInt64 ≤ (999 : Int64)) = (a ≤ 999) := by rw [show (999 : Int64) = (999 : Int32).toInt64 by decide, zw_le]
theorem zw_g9999 (a : Int32) : ((9999 : Int64) ≤ a.toInt64) = (9999 ≤ a) := by rw [show (9999 : Int64) = (9999 : Int32).toInt64 by decide, zw_le]
theorem zw_l9999 (a : Int32) : (a.toInt64 ≤ (9999 : Int64)) = (a ≤ 9999) := by rw [show (9999 : Int64) = (9999 : Int32).toInt64 by decide, zw_le]
