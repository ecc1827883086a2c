/-! ===== pure: the least change ===== -/
def ligB (k x y : Int32) : Bool := decide (pB x < pB y ∨ (pB x = pB y ∧ pB (x &&& k) < pB (y &&& k)))
theorem q_lighter {x y k : Int32} {post : Int32 → Prop} (hx : sm x) (hy : sm y) (h : post (if ligB k x y then 1 else 0)) : wX9_isLighter x y k post := by
  unfold wX9_isLighter
  refine q_bc hx (q_bc hy ?_)
  have a1 : pB x ≤ 12 := pB_le x
  have a2 : pB y ≤ 12 := pB_le y
  have a3 : pB (x &&& k) ≤ 12 := pB_le _
  have a4 : pB (y &&& k) ≤ 12 := pB_le _
  have e1 : (nI (pB x) - nI (pB y) = 0) ↔ pB x = pB y := sub_eq0 (by omega) (by omega)
  have e2 : (nI (pB x) - nI (pB y) < 0) ↔ pB x < pB y := sub_lt0 (by omega) (by omega)
  have e3 : (0 ≤ nI (pB x) - nI (pB y)) ↔ ¬ pB x < pB y := by rw [← e2, Int32.not_lt]
  have e4 : (nI (pB (y &&& k)) ≤ nI (pB (x &&& k))) ↔ ¬ pB (x &&& k) < pB (y &&& k) := by rw [nI_leI (by omega) (by omega), Nat.not_lt]
  intro x3 h3
  have h3' : x3 = nI (pB x) - nI (pB y) := h3
  subst h3'
  rw [e1, e3]
  unfold ligB at h
  refine ⟨fun c => q_bc (sm_and hx) (q_bc (sm_and hy) ?_), fun c => ?_⟩
  · show ((nI (pB (y &&& k)) ≤ nI (pB (x &&& k)) → post 0) ∧ (¬ nI (pB (y &&& k)) ≤ nI (pB (x &&& k)) → post 1))
    rw [e4]
    by_cases c2 : pB (x &&& k) < pB (y &&& k)
    · rw [decide_eq_true (Or.inr ⟨c, c2⟩), if_pos rfl] at h
      exact ⟨fun z => absurd c2 z, fun _ => h⟩
    · rw [decide_eq_false (by rintro (z | ⟨_, z⟩); omega; exact c2 z), if_neg (by simp)] at h
      exact ⟨fun _ => h, fun z => absurd c2 z⟩
  · by_cases c2 : pB x < pB y
    · rw [decide_eq_true (Or.inl c2), if_pos rfl] at h
      exact ⟨fun z => absurd c2 z, fun _ => h⟩
    · rw [decide_eq_false (by rintro (z | ⟨z, _⟩); exact c2 z; exact c z), if_neg (by simp)] at h
      exact ⟨fun _ => h, fun z => absurd c2 z⟩
def vaB (w : Nat → Int32) (H S : Int32) : Bool := !badB w (H &&& (S ^^^ (-1)))
theorem bad_iff {w : Nat → Int32} {X : Int32} : badB w X = true ↔ ∃ r q, r < 12 ∧ q < 32 ∧ bt X r = true ∧ bt X q = true ∧ bt (w r) q = true := by
  unfold badB
  rw [anyB_true]
  constructor
  · rintro ⟨r, hr, h⟩
    rw [clB, Bool.and_eq_true, Bool.not_eq_true', decide_eq_false_iff_not] at h
    have : ∃ q, q < 32 ∧ bt (X &&& w r) q = true := by
      apply Classical.byContradiction
      intro hc
      apply h.2
      rw [pb_zero]
      intro i hi
      cases e : bt (X &&& w r) i
      · rfl
      · exact absurd ⟨i, hi, e⟩ hc
    obtain ⟨q, hq, hb⟩ := this
    rw [b_and, Bool.and_eq_true] at hb
    exact ⟨r, q, hr, hq, h.1, hb.1, hb.2⟩
  · rintro ⟨r, q, hr, hq, h1, h2, h3⟩
    refine ⟨r, hr, ?_⟩
    rw [clB, h1, Bool.true_and, Bool.not_eq_true', decide_eq_false_iff_not]
    intro hz
    have := pb_zero.mp hz q hq
    rw [b_and, h2, h3] at this
    cases this
theorem cl_bit {w : Nat → Int32} {H : Int32} {r : Nat} (hr : r < 12) : bt (clF w H) r = true ↔ bt H r = true ∧ ∃ q, q < 32 ∧ bt H q = true ∧ bt (w r) q = true := by
  rw [clF, mkS_bt _ 12 (by omega) r (by omega), decide_eq_true hr, Bool.true_and, clB, Bool.and_eq_true, Bool.not_eq_true', decide_eq_false_iff_not]
  constructor
  · rintro ⟨h1, h2⟩
    refine ⟨h1, ?_⟩
    apply Classical.byContradiction
    intro hc
    apply h2
    rw [pb_zero]
    intro i hi
    cases e : bt (H &&& w r) i
    · rfl
    · rw [b_and, Bool.and_eq_true] at e
      exact absurd ⟨i, hi, e.1, e.2⟩ hc
  · rintro ⟨h1, q, hq, h2, h3⟩
    refine ⟨h1, fun hz => ?_⟩
    have := pb_zero.mp hz q hq
    rw [b_and, h2, h3] at this
    cases this
theorem va_cut {w : Nat → Int32} {H S : Int32} (hs : sm H) (hw : ∀ a b, bt (w a) b = bt (w b) a) (h : vaB w H S = true) : vaB w H (S &&& clF w H) = true := by
  unfold vaB at h ⊢
  rw [Bool.not_eq_true'] at h ⊢
  cases e : badB w (H &&& ((S &&& clF w H) ^^^ (-1)))
  · rfl
  · exfalso
    obtain ⟨r, q, hr, hq, h1, h2, h3⟩ := bad_iff.mp e
    rw [b_and, pb_not (by omega), b_and, Bool.and_eq_true] at h1
    rw [b_and, pb_not hq, b_and, Bool.and_eq_true] at h2
    have q12 : q < 12 := by
      rcases Nat.lt_or_ge q 12 with c | c
      · exact c
      · rw [hs q c] at h2; exact absurd h2.1 (by simp)
    have c1 : bt (clF w H) r = true := (cl_bit hr).mpr ⟨h1.1, q, hq, h2.1, h3⟩
    have c2 : bt (clF w H) q = true := (cl_bit q12).mpr ⟨h2.1, r, by omega, h1.1, by rw [hw q r]; exact h3⟩
    have n1 : bt S r = false := by have := h1.2; rw [c1] at this; simpa using this
    have n2 : bt S q = false := by have := h2.2; rw [c2] at this; simpa using this
    have : badB w (H &&& (S ^^^ (-1))) = true := bad_iff.mpr ⟨r, q, hr, hq, by rw [b_and, pb_not (by omega), h1.1, n1]; rfl, by rw [b_and, pb_not hq, h2.1, n2]; rfl, h3⟩
    rw [this] at h
    cases h
