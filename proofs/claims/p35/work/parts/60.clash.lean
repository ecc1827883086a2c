/-! ===== pure: breaches, exceptions ===== -/
def clB (w : Nat → Int32) (x : Int32) (r : Nat) : Bool := bt x r && !decide ((x &&& w r) = 0)
def clF (w : Nat → Int32) (x : Int32) : Int32 := mkS (clB w x) 12
def badB (w : Nat → Int32) (x : Int32) : Bool := anyB (clB w x) 12
theorem and_comm32 (x y : Int32) : x &&& y = y &&& x := b_ext (fun i hi => by rw [b_and, b_and, Bool.and_comm])
theorem in12 {k : Nat} (h : k < 12) : vp_in (nI k) 12 := vp_in_nI h (by omega)
theorem clF_zero {w : Nat → Int32} {x : Int32} : clF w x = 0 ↔ badB w x = false := by
  constructor
  · intro h
    refine anyB_false (fun k hk => ?_)
    have : bt (clF w x) k = false := by rw [h, b_0]
    rw [clF, mkS_bt _ 12 (by omega) k (by omega)] at this
    simpa [hk] using this
  · intro h
    rw [pb_zero]
    intro i hi
    rw [clF, mkS_bt _ 12 (by omega) i hi]
    by_cases c : i < 12
    · have : clB w x i = false := by
        cases e : clB w x i
        · rfl
        · rw [badB, anyB_true.mpr ⟨i, c, e⟩] at h; cases h
      simp [this]
    · simp [c]
theorem q_clash {σ : St} {x : Int32} {post : Int32 → Prop} (h : post (clF (σ.2.1 17) x)) : wX0_clashing σ x post := by
  obtain ⟨v, hv, hw⟩ := lp_val (Pt := Int32 → Prop) (fun post n i acc => lpX0_clashing_4 x σ post n acc i) (fun post acc => post acc)
    (fun i acc => acc = mkS (clB (σ.2.1 17) x) i) 12
    (fun post acc n _ hp2 => by
      rw [lpX0_clashing_4]
      exact ⟨fun _ => hp2, fun h => absurd (nI_le (a := 12) (b := 12) (by omega) (by omega)) h⟩)
    (fun i acc hi hI => by
      refine ⟨_, rfl, fun post n h => ?_⟩
      rw [lpX0_clashing_4]
      refine ⟨fun h2 => absurd h2 (nI_ge (a := i) (b := 12) hi (by omega)), fun _ => ?_⟩
      simp only [forall_eq, nI_1, pb_test (show i < 32 by omega), nI_clamp (show i < 2 ^ 31 by omega)]
      rw [mkS, ← hI, clB] at h
      cases e1 : bt x i
      · rw [e1, Bool.false_and, if_neg (by simp)] at h
        exact ⟨fun _ => h, fun h2 => absurd rfl h2⟩
      · rw [e1, Bool.true_and] at h
        refine ⟨fun h2 => by simp at h2, fun _ => ⟨in12 hi, fun h2 => ?_, fun h2 => ?_⟩⟩
        · rw [decide_eq_true h2] at h; exact h
        · rw [decide_eq_false h2] at h; exact h)
    12 0 0 (by omega) rfl
  refine ⟨_, hw post ?_⟩
  rw [hv]; exact h
theorem q_isBad {τ : St} {x : Int32} {post : Int32 → Prop} (h : post (if badB (τ.2.1 14) x then 1 else 0)) : wX10_isBad τ x post := by
  obtain ⟨v, hv, hw⟩ := lp_val (Pt := Int32 → Prop) (fun post n i acc => lpX10_isBad_4 x τ post n acc i) (fun post acc => (acc = 0 ∨ acc = 1) ∧ post acc)
    (fun i acc => acc = if anyB (clB (τ.2.1 14) x) i then 1 else 0) 12
    (fun post acc n _ hp2 => by
      rw [lpX10_isBad_4]
      exact ⟨fun _ => hp2, fun h => absurd (nI_le (a := 12) (b := 12) (by omega) (by omega)) h⟩)
    (fun i acc hi hI => by
      refine ⟨_, rfl, fun post n h => ?_⟩
      rw [lpX10_isBad_4]
      refine ⟨fun h2 => absurd h2 (nI_ge (a := i) (b := 12) hi (by omega)), fun _ => ?_⟩
      simp only [forall_eq, nI_1, nI_clamp (show i < 2 ^ 31 by omega)]
      rw [anyB] at h
      rw [hI]
      cases e1 : anyB (clB (τ.2.1 14) x) i
      · rw [e1, Bool.false_or, clB] at h
        refine ⟨fun h2 => absurd rfl h2, fun _ => q_has (by omega) ?_⟩
        cases e2 : bt x i
        · rw [e2] at h
          exact ⟨fun _ => h, fun h2 => absurd rfl h2⟩
        · rw [e2, Bool.true_and, and_comm32] at h
          refine ⟨fun h2 => absurd h2 n10, fun _ => ⟨in12 hi, fun h2 => ?_, fun h2 => ?_⟩⟩
          · rw [decide_eq_true h2] at h; exact h
          · rw [decide_eq_false h2] at h; exact h
      · rw [e1, Bool.true_or, if_pos rfl] at h
        exact ⟨fun _ => h, fun h2 => absurd h2 n10⟩)
    12 0 0 (by omega) rfl
  refine ⟨_, hw post ?_⟩
  rw [hv]
  refine ⟨?_, h⟩
  cases anyB (clB (τ.2.1 14) x) 12
  · exact Or.inl rfl
  · exact Or.inr rfl
theorem pr_breach {σ τ : St} (hR : R_ok σ τ) : PairR (wX9_breach σ) (wX10_breach τ) := by
  obtain ⟨n, u, d, sp, se, gr, ⟨⟨h6, m1, hn⟩, hsc⟩, har, hr⟩ := id hR
  have a4 := har.2.2.2.1
  have a8 := har.2.2.2.2.2.2.2
  refine ⟨mkS (fun p => badB (σ.2.1 17) (σ.2.1 3 p)) n, fun post hp => ?_, fun post hp => ?_⟩
  · obtain ⟨v, hv, hw⟩ := lp_val (Pt := Int32 → Prop) (fun post n i acc => lpX9_breach_4 σ post n acc i) (fun post acc => post acc)
      (fun i acc => acc = mkS (fun p => badB (σ.2.1 17) (σ.2.1 3 p)) i) n
      (fun post acc k _ hp2 => by
        rw [lpX9_breach_4, h6]
        exact ⟨fun _ => hp2, fun h => absurd (nI_le (Nat.le_refl n) (by omega)) h⟩)
      (fun i acc hi hI => by
        refine ⟨_, rfl, fun post k h => ?_⟩
        rw [lpX9_breach_4, h6]
        refine ⟨fun h2 => absurd h2 (nI_ge hi (by omega)), fun _ => ⟨in10 (by omega), q_clash ?_⟩⟩
        simp only [forall_eq, nI_1, nI_clamp (show i < 2 ^ 31 by omega), clF_zero]
        rw [mkS, ← hI] at h
        cases e : badB (σ.2.1 17) (σ.2.1 3 i)
        · rw [e, if_neg (by simp)] at h; exact ⟨fun _ => h, fun h2 => absurd rfl h2⟩
        · rw [e, if_pos rfl] at h; exact ⟨fun h2 => by simp at h2, fun _ => h⟩)
      n 0 0 (by omega) rfl
    exact ⟨_, hw post (by rw [hv]; exact hp)⟩
  · obtain ⟨v, hv, hw⟩ := lp_val (Pt := Int32 → Prop) (fun post n i acc => lpX10_breach_4 τ post n acc i) (fun post acc => post acc)
      (fun i acc => acc = mkS (fun p => badB (σ.2.1 17) (σ.2.1 3 p)) i) n
      (fun post acc k _ hp2 => by
        rw [lpX10_breach_4, m1]
        exact ⟨fun _ => hp2, fun h => absurd (nI_le (Nat.le_refl n) (by omega)) h⟩)
      (fun i acc hi hI => by
        refine ⟨_, rfl, fun post k h => ?_⟩
        rw [lpX10_breach_4, m1]
        refine ⟨fun h2 => absurd h2 (nI_ge hi (by omega)), fun _ => ⟨in10 (by omega), q_isBad ?_⟩⟩
        simp only [forall_eq, nI_1, or0, nI_clamp (show i < 2 ^ 31 by omega), a4, a8]
        rw [mkS, ← hI] at h
        cases e : badB (σ.2.1 17) (σ.2.1 3 i)
        · rw [e, if_neg (by simp)] at h; exact ⟨fun _ => h, fun h2 => absurd rfl h2⟩
        · rw [e, if_pos rfl] at h; exact ⟨fun h2 => absurd h2 n10, fun _ => h⟩)
      n 0 0 (by omega) rfl
    exact ⟨_, hw post (by rw [hv]; exact hp)⟩
theorem badRole_find {σ τ : St} {m : Nat} (hm : m ≤ 12) (e1 : σ.1 9 = nI m) (e2 : τ.1 10 = nI m) (a8 : τ.2.1 14 = σ.2.1 17) (hro : ∀ i, i < m → σ.2.1 11 i = τ.2.1 10 i ∧ sm (σ.2.1 11 i)) :
    ∀ (j i : Nat), i + j = m → ∃ r : Int32, (∀ post : Int32 → Prop, post r → lpX9_badRole_2 σ post (j + 1) (nI i)) ∧ ∀ post : Int32 → Prop, post r → lpX10_badRole_2 τ post (j + 1) (nI i) := by
  intro j
  induction j with
  | zero =>
    intro i e
    have : i = m := by omega
    subst this
    refine ⟨-9, fun post hp => ?_, fun post hp => ?_⟩
    · rw [lpX9_badRole_2, e1]; exact ⟨fun _ => hp, fun h => absurd (nI_le (Nat.le_refl i) (by omega)) h⟩
    · rw [lpX10_badRole_2, e2]; exact ⟨fun _ => hp, fun h => absurd (nI_le (Nat.le_refl i) (by omega)) h⟩
  | succ j ih =>
    intro i e
    have hi : i < m := by omega
    cases es : badB (σ.2.1 17) (σ.2.1 11 i)
    · obtain ⟨r, h1, h2⟩ := ih (i + 1) (by omega)
      refine ⟨r, fun post hp => ?_, fun post hp => ?_⟩
      · rw [lpX9_badRole_2, e1]
        refine ⟨fun h => absurd h (nI_ge hi (by omega)), fun _ => ⟨vp_in_nI (by omega) (by omega), q_clash ?_⟩⟩
        simp only [forall_eq, nI_1, nI_clamp (show i < 2 ^ 31 by omega), clF_zero, es]
        exact ⟨fun _ => h1 post hp, fun h => absurd trivial h⟩
      · rw [lpX10_badRole_2, e2]
        refine ⟨fun h => absurd h (nI_ge hi (by omega)), fun _ => ⟨vp_in_nI (by omega) (by omega), q_isBad ?_⟩⟩
        rw [cl, a8, ← (hro i hi).1, es]
        simp only [forall_eq, nI_1]
        exact ⟨fun _ => h2 post hp, fun h => absurd rfl h⟩
    · refine ⟨nI i, fun post hp => ?_, fun post hp => ?_⟩
      · rw [lpX9_badRole_2, e1]
        refine ⟨fun h => absurd h (nI_ge hi (by omega)), fun _ => ⟨vp_in_nI (by omega) (by omega), q_clash ?_⟩⟩
        rw [cl, clF_zero, es]
        exact ⟨fun h => by simp at h, fun _ => hp⟩
      · rw [lpX10_badRole_2, e2]
        refine ⟨fun h => absurd h (nI_ge hi (by omega)), fun _ => ⟨vp_in_nI (by omega) (by omega), q_isBad ?_⟩⟩
        rw [cl, a8, ← (hro i hi).1, es]
        exact ⟨fun h => absurd h n10, fun _ => hp⟩
theorem pr_badRole {σ τ : St} (hR : R_ok σ τ) : PairR (wX9_badRole σ) (wX10_badRole τ) := by
  obtain ⟨n, u, d, sp, se, gr, hsc, har, hpe, hus, hst, ⟨⟨m, hm, e1, e2, hro⟩, _⟩, hr⟩ := id hR
  obtain ⟨r, h1, h2⟩ := badRole_find hm e1 e2 har.2.2.2.2.2.2.2 hro m 0 (by omega)
  exact ⟨r, fun post hp => ⟨_, h1 post hp⟩, fun post hp => ⟨_, h2 post hp⟩⟩
