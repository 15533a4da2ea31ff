/-! a written number against a counted one -/
theorem uge (x : Int32) (b a : Nat) (h : a < b := by omega) (e : x = nI b := by rfl) (hb : b < 2 ^ 31 := by omega) : ¬ x ≤ nI a := by rw [e]; exact nI_ge h hb
theorem ule (x : Int32) (b a : Nat) (h : b ≤ a := by omega) (e : x = nI b := by rfl) (hb : a < 2 ^ 31 := by omega) : x ≤ nI a := by rw [e]; exact nI_le h hb
theorem unl (x : Int32) (b a : Nat) (h : a ≤ b := by omega) (e : x = nI b := by rfl) (hb : b < 2 ^ 31 := by omega) : ¬ x < nI a := by rw [e]; exact nI_nlt h hb
theorem ult (x : Int32) (b a : Nat) (h : b < a := by omega) (e : x = nI b := by rfl) (hb : a < 2 ^ 31 := by omega) : x < nI a := by rw [e]; exact nI_lt h hb
theorem vge (a : Nat) (x : Int32) (b : Nat) (h : b < a := by omega) (e : x = nI b := by rfl) (hb : a < 2 ^ 31 := by omega) : ¬ nI a ≤ x := by rw [e]; exact nI_ge h hb
theorem vle (a : Nat) (x : Int32) (b : Nat) (h : a ≤ b := by omega) (e : x = nI b := by rfl) (hb : b < 2 ^ 31 := by omega) : nI a ≤ x := by rw [e]; exact nI_le h hb
theorem vnl (a : Nat) (x : Int32) (b : Nat) (h : b ≤ a := by omega) (e : x = nI b := by rfl) (hb : a < 2 ^ 31 := by omega) : ¬ nI a < x := by rw [e]; exact nI_nlt h hb
theorem vlt (a : Nat) (x : Int32) (b : Nat) (h : a < b := by omega) (e : x = nI b := by rfl) (hb : b < 2 ^ 31 := by omega) : nI a < x := by rw [e]; exact nI_lt h hb
