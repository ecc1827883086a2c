/-! ===== pure: how many bits ===== -/
def bc1 (x : Int32) : Int32 := x - ((x.toUInt32 >>> ((1 : Int32).toUInt32 &&& Int32.toUInt32 31)).toInt32 &&& (1431655765 : Int32))
def bc2 (x : Int32) : Int32 := (x &&& (858993459 : Int32)) + ((x.toUInt32 >>> ((2 : Int32).toUInt32 &&& Int32.toUInt32 31)).toInt32 &&& (858993459 : Int32))
def bc3 (x : Int32) : Int32 := (x + (x.toUInt32 >>> ((4 : Int32).toUInt32 &&& Int32.toUInt32 31)).toInt32) &&& (252645135 : Int32)
def bc4 (x : Int32) : Int32 := x + (x.toUInt32 >>> ((8 : Int32).toUInt32 &&& Int32.toUInt32 31)).toInt32
def bc5 (x : Int32) : Int32 := x + (x.toUInt32 >>> ((16 : Int32).toUInt32 &&& Int32.toUInt32 31)).toInt32
def pcN (n : Nat) : Nat → Nat
  | 0 => 0
  | k + 1 => pcN n k + n / 2 ^ k % 2
def bcN1 (n : Nat) : Nat := n - (n / 2 &&& 1431655765)
def bcN2 (n : Nat) : Nat := (n &&& 858993459) + (n / 4 &&& 858993459)
def bcN3 (n : Nat) : Nat := (n + n / 16) &&& 252645135
def bcN4 (n : Nat) : Nat := n + n / 256
def bcN5 (n : Nat) : Nat := n + n / 65536
def bcOk (n : Nat) : Bool := decide (n / 2 &&& 1431655765 ≤ n) && (decide (bcN1 n < 65536) && (decide (bcN2 (bcN1 n) < 65536) && (decide (bcN3 (bcN2 (bcN1 n)) < 65536) && (decide (bcN4 (bcN3 (bcN2 (bcN1 n))) < 65536) && decide (bcN5 (bcN4 (bcN3 (bcN2 (bcN1 n)))) &&& 63 = pcN n 12)))))
theorem bc_tab : ∀ a, a < 64 → ∀ b, b < 64 → bcOk (64 * a + b) = true := by decide +kernel
theorem ushN {n k : Nat} (hn : n < 2 ^ 31) (hk : k < 32) : ((nI n).toUInt32 >>> ((nI k).toUInt32 &&& Int32.toUInt32 31)).toInt32 = nI (n / 2 ^ k) := pk_ushrN (by omega) _ k (s_u k hk)
theorem pcN_ct (n : Nat) : ∀ k, k ≤ 32 → pcN n k = fb_ct (bt (nI n)) k
  | 0, _ => rfl
  | k + 1, hk => by
    rw [pcN, fb_ct_succ, pcN_ct n k (by omega), pb_nI (by omega)]
    have : n.testBit k = decide (n / 2 ^ k % 2 = 1) := Nat.testBit_eq_decide_div_mod_eq
    rw [this]
    have h2 := Nat.mod_two_eq_zero_or_one (n / 2 ^ k)
    rcases h2 with h | h <;> simp [h]
theorem q_bc {x : Int32} {post : Int32 → Prop} (hx : sm x) (h : post (nI (fb_ct (bt x) 12))) : wJ6_bitCount_0f7a4 x post := by
  obtain ⟨n, hn, rfl⟩ := sm_nat hx
  have ht := bc_tab (n / 64) (by omega) (n % 64) (by omega)
  rw [show 64 * (n / 64) + n % 64 = n by omega] at ht
  simp only [bcOk, Bool.and_eq_true, decide_eq_true_eq] at ht
  obtain ⟨t0, t1, t2, t3, t4, t5⟩ := ht
  have e1 : bc1 (nI n) = nI (bcN1 n) := by
    unfold bc1 bcN1
    rw [show (1 : Int32) = nI 1 from rfl, ushN (by omega) (by omega), show (1431655765 : Int32) = nI 1431655765 from rfl, fa_and]
    exact pk_sub (by simpa using t0)
  have e2 : bc2 (nI (bcN1 n)) = nI (bcN2 (bcN1 n)) := by
    unfold bc2 bcN2
    rw [show (2 : Int32) = nI 2 from rfl, ushN (by omega) (by omega), show (858993459 : Int32) = nI 858993459 from rfl, fa_and, fa_and, nI_add]
  have e3 : bc3 (nI (bcN2 (bcN1 n))) = nI (bcN3 (bcN2 (bcN1 n))) := by
    unfold bc3 bcN3
    rw [show (4 : Int32) = nI 4 from rfl, ushN (by omega) (by omega), show (252645135 : Int32) = nI 252645135 from rfl, nI_add, fa_and]
  have e4 : bc4 (nI (bcN3 (bcN2 (bcN1 n)))) = nI (bcN4 (bcN3 (bcN2 (bcN1 n)))) := by
    unfold bc4 bcN4
    rw [show (8 : Int32) = nI 8 from rfl, ushN (by omega) (by omega), nI_add]
  have e5 : bc5 (nI (bcN4 (bcN3 (bcN2 (bcN1 n))))) = nI (bcN5 (bcN4 (bcN3 (bcN2 (bcN1 n))))) := by
    unfold bc5 bcN5
    rw [show (16 : Int32) = nI 16 from rfl, ushN (by omega) (by omega), nI_add]
  unfold wJ6_bitCount_0f7a4
  intro x1 h1 x2 h2 x3 h3 x4 h4 x5 h5
  have g1 : x1 = nI (bcN1 n) := h1.trans e1
  subst g1
  have g2 : x2 = nI (bcN2 (bcN1 n)) := h2.trans e2
  subst g2
  have g3 : x3 = nI (bcN3 (bcN2 (bcN1 n))) := h3.trans e3
  subst g3
  have g4 : x4 = nI (bcN4 (bcN3 (bcN2 (bcN1 n)))) := h4.trans e4
  subst g4
  have g5 : x5 = nI (bcN5 (bcN4 (bcN3 (bcN2 (bcN1 n))))) := h5.trans e5
  subst g5
  rw [show (63 : Int32) = nI 63 from rfl, fa_and, t5, pcN_ct n 12 (by omega)]
  exact h
theorem q_bits {x : Int32} {post : Int32 → Prop} (h : post (nI (fb_ct (bt x) 12))) : wX10_bits x post := by
  obtain ⟨v, hv, hw⟩ := lp_val (Pt := Int32 → Prop) (fun post n i acc => lpX10_bits_4 x post n acc i) (fun post acc => post acc)
    (fun i acc => acc = nI (fb_ct (bt x) i)) 12
    (fun post acc n _ hp2 => by
      rw [lpX10_bits_4]
      exact ⟨fun _ => hp2, fun h => absurd (nI_le (a := 12) (b := 12) (by omega) (by omega)) h⟩)
    (fun i acc hi hI => by
      refine ⟨_, rfl, fun post n h => ?_⟩
      rw [lpX10_bits_4]
      refine ⟨fun h2 => absurd h2 (nI_ge (a := i) (b := 12) hi (by omega)), fun _ => ?_⟩
      simp only [forall_eq, nI_1, pb_bit1 (x := x) (show i < 32 by omega)]
      rw [fb_ct_succ] at h
      rw [hI]
      cases e : bt x i
      · rw [e] at h
        rw [if_neg (by simp), add0]
        exact h
      · rw [e, if_pos rfl, ← nI_1] at h
        rw [if_pos rfl]
        exact h)
    12 0 0 (by omega) rfl
  refine ⟨_, hw post ?_⟩
  rw [hv]; exact h
