/-! ===== pure: the least change ===== -/
def ligB (k x y : Int32) : Bool := decide (pB x < pB y ∨ (pB x = pB y ∧ pB (x &&& k) < pB (y &&& k)))
theorem q_lighter {x y k : Int32} {post : Int32 → Prop} (hx : sm x) (hy : sm y) (h : post (if ligB k x y then 1 else 0)) : wX9_isLighter x y k post := by
  unfold wX9_isLighter
  refine q_bc hx (q_bc hy ?_)
  have a1 : pB x ≤ 12 := pB_le x
  have a2 : pB y ≤ 12 := pB_le y
  have a3 : pB (x &&& k) ≤ 12 := pB_le _
  have a4 : pB (y &&& k) ≤ 12 := pB_le _
  have e1 : (nI (pB x) - nI (pB y) = 0) ↔ pB x = pB y := sub_eq0 (by omega) (by omega)
  have e2 : (nI (pB x) - nI (pB y) < 0) ↔ pB x < pB y := sub_lt0 (by omega) (by omega)
  have e3 : (0 ≤ nI (pB x) - nI (pB y)) ↔ ¬ pB x < pB y := by rw [← e2, Int32.not_lt]
  have e4 : (nI (pB (y &&& k)) ≤ nI (pB (x &&& k))) ↔ ¬ pB (x &&& k) < pB (y &&& k) := by rw [nI_leI (by omega) (by omega), Nat.not_lt]
  intro x3 h3
  have h3' : x3 = nI (pB x) - nI (pB y) := h3
  subst h3'
  rw [e1, e3]
  unfold ligB at h
  refine ⟨fun c => q_bc (sm_and hx) (q_bc (sm_and hy) ?_), fun c => ?_⟩
  · show ((nI (pB (y &&& k)) ≤ nI (pB (x &&& k)) → post 0) ∧ (¬ nI (pB (y &&& k)) ≤ nI (pB (x &&& k)) → post 1))
    rw [e4]
    by_cases c2 : pB (x &&& k) < pB (y &&& k)
    · rw [decide_eq_true (Or.inr ⟨c, c2⟩), if_pos rfl] at h
      exact ⟨fun z => absurd c2 z, fun _ => h⟩
    · rw [decide_eq_false (by rintro (z | ⟨_, z⟩); omega; exact c2 z), if_neg (by simp)] at h
      exact ⟨fun _ => h, fun z => absurd c2 z⟩
  · by_cases c2 : pB x < pB y
    · rw [decide_eq_true (Or.inl c2), if_pos rfl] at h
      exact ⟨fun z => absurd c2 z, fun _ => h⟩
    · rw [decide_eq_false (by rintro (z | ⟨z, _⟩); exact c2 z; exact c z), if_neg (by simp)] at h
      exact ⟨fun _ => h, fun z => absurd c2 z⟩
