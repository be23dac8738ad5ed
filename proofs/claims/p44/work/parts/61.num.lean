theorem nI_sm {k : Nat} (h : k < 2147483648) : (nI k).toInt = k := by rw [nI_int]; omega
theorem nI_s1 (k : Nat) : nI k + 1 = nI (k + 1) := (r_add rfl (rfl : (1 : Int32) = nI 1)).trans (nI_md (by show (1 + k) % 4294967296 % 4294967296 = _; omega))
