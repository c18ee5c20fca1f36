/-! ===== numbers ===== -/
theorem zI_add {x y : Int32} (h : -2147483648 ≤ x.toInt + y.toInt) (h' : x.toInt + y.toInt ≤ 2147483647) : (x + y).toInt = x.toInt + y.toInt := by
  rw [Int32.toInt_add]
  exact Int.bmod_eq_of_le (by omega) (by omega)
theorem zI_sub {x y : Int32} (h : -2147483648 ≤ x.toInt - y.toInt) (h' : x.toInt - y.toInt ≤ 2147483647) : (x - y).toInt = x.toInt - y.toInt := by
  rw [Int32.toInt_sub]
  exact Int.bmod_eq_of_le (by omega) (by omega)
theorem zI_mul {x y : Int32} (h : -2147483648 ≤ x.toInt * y.toInt) (h' : x.toInt * y.toInt ≤ 2147483647) : (x * y).toInt = x.toInt * y.toInt := by
  rw [Int32.toInt_mul]
  exact Int.bmod_eq_of_le (by omega) (by omega)
theorem zb_dig {x k : Int32} (h1 : -1 ≤ x) (h2 : x ≤ 255) (h3 : 0 ≤ k) (h4 : k ≤ 255) : (x - 48 < k ↔ ¬ 48 + k ≤ x) ∧ (9 < x - 48 ↔ ¬ x ≤ 57) ∧ (x - 48 ≤ 9 ↔ x ≤ 57) := by
  refine ⟨?_, ?_, ?_⟩ <;> grind
theorem zb_let {x k : Int32} (h1 : -1 ≤ x) (h2 : x ≤ 255) (h3 : 0 ≤ k) (h4 : k ≤ 255) : (x - 97 < 0 ↔ ¬ 97 ≤ x) ∧ (x - 97 < k ↔ x < 97 + k) := by
  refine ⟨?_, ?_⟩ <;> grind
