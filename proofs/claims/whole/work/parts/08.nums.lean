/-! numbers -/
theorem n_lt (a b : Int32) : a < b ↔ a.toInt < b.toInt := Int32.lt_iff_toInt_lt
theorem n_le (a b : Int32) : a ≤ b ↔ a.toInt ≤ b.toInt := Int32.le_iff_toInt_le
theorem n_eq (a b : Int32) : a = b ↔ a.toInt = b.toInt := Int32.toInt_inj.symm
theorem n_lt64 (a b : Int64) : a < b ↔ a.toInt < b.toInt := Int64.lt_iff_toInt_lt
theorem n_le64 (a b : Int64) : a ≤ b ↔ a.toInt ≤ b.toInt := Int64.le_iff_toInt_le
theorem n_eq64 (a b : Int64) : a = b ↔ a.toInt = b.toInt := Int64.toInt_inj.symm
theorem nI_int {n : Nat} (h : n < 2147483648) : (nI n).toInt = (n : Int) := nI_toInt h
theorem nI_lti {a b : Nat} (ha : a < 2147483648) (hb : b < 2147483648) : nI a < nI b ↔ a < b := by rw [n_lt, nI_int ha, nI_int hb]; omega
theorem nI_lei {a b : Nat} (ha : a < 2147483648) (hb : b < 2147483648) : nI a ≤ nI b ↔ a ≤ b := by rw [n_le, nI_int ha, nI_int hb]; omega
theorem nI_eqi {a b : Nat} (ha : a < 2147483648) (hb : b < 2147483648) : nI a = nI b ↔ a = b := by rw [n_eq, nI_int ha, nI_int hb]; omega
theorem zI_add (a b : Nat) : nI a + nI b = nI (a + b) := by simp [nI, Int32.ofNat_add]
theorem nI_mul (a b : Nat) : nI a * nI b = nI (a * b) := by simp [nI, Int32.ofNat_mul]
theorem nI_sub {a b : Nat} (h : b ≤ a) : nI a - nI b = nI (a - b) := by
  have : nI a = nI (a - b) + nI b := by rw [zI_add]; congr 1; omega
  rw [this, Int32.add_sub_cancel]
theorem nI_inc (k : Nat) : nI k + Int32.ofInt 1 = nI (k + 1) := by rw [nI_succ]; rfl
theorem nI_inc1 (k : Nat) : nI k + 1 = nI (k + 1) := (nI_succ k).symm
theorem nI_lit (n : Nat) : (OfNat.ofNat n : Int32) = nI n := rfl
/-- an int that is not below 0 is some nI j -/
theorem zI_of {v : Int32} (h : 0 ≤ v) : v = nI v.toInt.toNat ∧ v.toInt.toNat < 2147483648 := by
  have h1 : 0 ≤ v.toInt := by have := (n_le 0 v).mp h; simpa using this
  have h2 := Int32.toInt_lt v
  have h3 : v.toInt.toNat < 2147483648 := by omega
  refine ⟨?_, h3⟩
  rw [n_eq, nI_int h3]
  omega
theorem zI_ex {v : Int32} {n : Nat} (h : 0 ≤ v.toInt) (h2 : v.toInt < (n : Int)) : ∃ j, v = nI j ∧ j < n ∧ j < 2147483648 := by
  obtain ⟨h3, h4⟩ := zI_of ((n_le 0 v).mpr (by simpa using h))
  exact ⟨_, h3, by omega, h4⟩
def bi (b : Bool) : Int32 := if b then 1 else 0
theorem bi_01 {b : Bool} : bi b = 0 ∨ bi b = 1 := by cases b; exact Or.inl rfl; exact Or.inr rfl
theorem bi_0 {b : Bool} : bi b = 0 ↔ b = false := by cases b <;> decide
theorem bi_1 {b : Bool} : ¬ bi b = 0 ↔ b = true := by cases b <;> decide
theorem bi_t : bi true = 1 := rfl
theorem bi_f : bi false = 0 := rfl
theorem wide_le (a b : Int32) : a.toInt64 ≤ b.toInt64 ↔ a ≤ b := by rw [n_le64, n_le, Int32.toInt_toInt64, Int32.toInt_toInt64]
theorem wide_lt (a b : Int32) : a.toInt64 < b.toInt64 ↔ a < b := by rw [n_lt64, n_lt, Int32.toInt_toInt64, Int32.toInt_toInt64]
/-- whether l ≤ v ≤ m, of longs -/
def inL (v l m : Int64) : Bool := decide (l ≤ v ∧ v ≤ m)
/-- whether an int lies in 0 .. n - 1 -/
def inN (v : Int32) (n : Nat) : Bool := decide (0 ≤ v.toInt ∧ v.toInt < (n : Int))
theorem inN_ex {v : Int32} {n : Nat} (h : inN v n = true) : ∃ j, v = nI j ∧ j < n ∧ j < 2147483648 := by
  have := of_decide_eq_true h
  exact zI_ex this.1 this.2
theorem inN_nI {j n : Nat} (h : j < 2147483648) : inN (nI j) n = decide (j < n) := by
  unfold inN
  rw [nI_int h]
  congr 1
  apply propext
  omega
theorem inL_inN {v : Int32} {m : Int64} (n : Nat) (hm : m.toInt + 1 = (n : Int)) : inL v.toInt64 0 m = inN v n := by
  unfold inL inN
  congr 1
  apply propext
  rw [n_le64, n_le64, Int32.toInt_toInt64]
  have : (0 : Int64).toInt = 0 := by decide
  omega
theorem nI_m1 {n : Nat} (h : n < 2147483648) : (nI n - 1).toInt64.toInt + 1 = (n : Int) := by
  rw [Int32.toInt_toInt64]
  cases n with
  | zero => decide
  | succ n => rw [nI_pred, nI_int (by omega)]; omega
theorem zI_and (a b : Nat) : nI a &&& nI b = nI (a &&& b) := by
  apply Int32.toBitVec_inj.1
  show BitVec.ofNat 32 a &&& BitVec.ofNat 32 b = BitVec.ofNat 32 (a &&& b)
  apply BitVec.eq_of_getLsbD_eq
  intro i hi
  simp [hi]
theorem nI_m127 (n : Nat) : nI n &&& 127 = nI (n % 128) := by
  show nI n &&& nI (2 ^ 7 - 1) = nI (n % 2 ^ 7)
  rw [zI_and, Nat.and_two_pow_sub_one_eq_mod]
theorem nI_m15 (n : Nat) : nI n &&& 15 = nI (n % 16) := by
  show nI n &&& nI (2 ^ 4 - 1) = nI (n % 2 ^ 4)
  rw [zI_and, Nat.and_two_pow_sub_one_eq_mod]
