/-! ===== pure: bits of sets, loops ===== -/
theorem pb_one {k i : Nat} (hk : k < 32) (hi : i < 32) : bt ((1 : Int32) <<< (nI k &&& 31)) i = decide (i = k) := by
  rw [b_shl k hk 1 hi]
  have h1 : ∀ j, j < 32 → bt 1 j = decide (j = 0) := by decide +kernel
  rw [h1 (i - k) (by omega)]
  by_cases h : i = k
  · subst h; simp
  · by_cases h2 : k ≤ i
    · simp [h, h2]; omega
    · simp [h, h2]
theorem pb_not {x : Int32} {i : Nat} (hi : i < 32) : bt (x ^^^ (-1)) i = !bt x i := by
  rw [b_xor, b_m1 i hi]; simp
theorem pb_zero {x : Int32} : x = 0 ↔ ∀ i, i < 32 → bt x i = false := by
  constructor
  · intro h i _; rw [h, b_0]
  · intro h; exact b_ext (fun i hi => by rw [h i hi, b_0])
theorem pb_test {x : Int32} {k : Nat} (hk : k < 32) : (x &&& ((1 : Int32) <<< (nI k &&& 31))) = 0 ↔ bt x k = false := by
  rw [pb_zero]
  constructor
  · intro h
    have := h k hk
    rw [b_and, pb_one hk hk] at this
    simpa using this
  · intro h i hi
    rw [b_and, pb_one hk hi]
    by_cases e : i = k
    · subst e; simp [h]
    · simp [e]
theorem pb_low (x : Int32) : x &&& 1 = if bt x 0 then 1 else 0 := by
  apply b_ext
  intro i hi
  have h1 : ∀ j, j < 32 → bt 1 j = decide (j = 0) := by decide +kernel
  rw [b_and, h1 i hi]
  by_cases e : i = 0
  · subst e; cases bt x 0 <;> simp [b_0, h1]
  · cases bt x 0 <;> simp [e, b_0, h1 i hi]
theorem pb_sh0 {x : Int32} {k : Nat} (hk : k < 32) : bt (x >>> (nI k &&& 31)) 0 = bt x k := by
  rw [b_sshr k hk x (by omega)]
  simp [hk]
theorem pb_has {x : Int32} {k : Nat} (hk : k < 32) : ((x >>> (nI k &&& 31)) &&& 1) = 1 ↔ bt x k = true := by
  rw [pb_low, pb_sh0 hk]
  cases bt x k <;> simp
theorem pb_bit1 {x : Int32} {k : Nat} (hk : k < 32) : ((x >>> (nI k &&& 31)) &&& 1) = if bt x k then 1 else 0 := by
  rw [pb_low, pb_sh0 hk]
theorem pb_sub {x y : Int32} : (x &&& (y ^^^ (-1))) = 0 ↔ ∀ i, i < 32 → bt x i = true → bt y i = true := by
  rw [pb_zero]
  constructor
  · intro h i hi hx
    have := h i hi
    rw [b_and, pb_not hi, hx] at this
    simpa using this
  · intro h i hi
    rw [b_and, pb_not hi]
    cases hx : bt x i
    · rfl
    · rw [h i hi hx]; rfl
theorem pb_nI {n i : Nat} (hi : i < 32) : bt (nI n) i = n.testBit i := by
  show (BitVec.ofNat 32 n).getLsbD i = _
  rw [BitVec.getLsbD_ofNat]
  simp [hi]
/-- a set of the numbers 0 .. 11 -/
def sm (x : Int32) : Prop := ∀ i, 12 ≤ i → bt x i = false
theorem sm_of {n : Nat} (h : n < 4096) : sm (nI n) := by
  intro i hi
  rcases Nat.lt_or_ge i 32 with h2 | h2
  · rw [pb_nI h2]
    exact Nat.testBit_lt_two_pow (Nat.lt_of_lt_of_le h (Nat.pow_le_pow_right (n := 2) (by omega) hi : 2 ^ 12 ≤ 2 ^ i))
  · exact b_big h2
theorem sm_nat {x : Int32} (h : sm x) : ∃ n, n < 4096 ∧ x = nI n := by
  refine ⟨x.toBitVec.toNat, ?_, ?_⟩
  · have : x.toBitVec.toNat < 2 ^ 12 := Nat.lt_pow_two_of_testBit _ (fun j hj => h j hj)
    simpa using this
  · exact Int32.toBitVec_inj.mp (by show _ = BitVec.ofNat 32 _; simp)
theorem sm_and {x y : Int32} (h : sm x) : sm (x &&& y) := fun i hi => by rw [b_and, h i hi]; rfl
theorem sm_andr {x y : Int32} (h : sm y) : sm (x &&& y) := fun i hi => by rw [b_and, h i hi]; simp
theorem sm_or {x y : Int32} (h : sm x) (h2 : sm y) : sm (x ||| y) := fun i hi => by rw [b_or, h i hi, h2 i hi]; rfl
theorem sm_0 : sm 0 := fun i _ => b_0 i
theorem sm_one {k : Nat} (hk : k < 12) : sm ((1 : Int32) <<< (nI k &&& 31)) := by
  intro i hi
  rcases Nat.lt_or_ge i 32 with h2 | h2
  · rw [pb_one (by omega) h2]; simp; omega
  · exact b_big h2
theorem sm_ext {x y : Int32} (h : sm x) (h2 : sm y) (e : ∀ i, i < 12 → bt x i = bt y i) : x = y := by
  apply b_ext
  intro i hi
  rcases Nat.lt_or_ge i 12 with h3 | h3
  · exact e i h3
  · rw [h i h3, h2 i h3]
/-- between 0 and the limit: a number -/
theorem rg_cases (x : Int32) {n : Nat} (hn : n < 2 ^ 31) : (∃ j : Nat, j < n ∧ x = nI j) ∨ (x < 0 ∨ nI n ≤ x) := by
  rcases pk_ix x hn with h | h | h
  · exact Or.inr (Or.inl h)
  · exact Or.inr (Or.inr h)
  · exact Or.inl h
