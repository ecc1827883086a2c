/-! ===== what a call leaves alone (printed by nvgen.py) ===== -/
def FX (b σ : St) : Prop := σ.1 0 = b.1 0 ∧ σ.1 2 = b.1 2 ∧ σ.1 6 = b.1 6 ∧ σ.2.1 17 = b.2.1 17 ∧ σ.2.1 19 = b.2.1 19
def FM (b σ : St) : Prop := σ.1 1 = b.1 1 ∧ σ.1 2 = b.1 2 ∧ σ.1 6 = b.1 6 ∧ σ.2.1 14 = b.2.1 14 ∧ σ.2.1 16 = b.2.1 16
theorem fx_S {b σ : St} {k : Nat} {v : Int32} (h : FX b σ) (hk : (k == 0 || k == 2 || k == 6) = false) : FX b (st_S σ k v) := by
  have h0 : ¬ 0 = k := fun e => by subst e; simp at hk
  have h2 : ¬ 2 = k := fun e => by subst e; simp at hk
  have h6 : ¬ 6 = k := fun e => by subst e; simp at hk
  unfold FX st_S at *
  simp only [if_neg h0, if_neg h2, if_neg h6]
  exact h
theorem fm_S {b σ : St} {k : Nat} {v : Int32} (h : FM b σ) (hk : (k == 1 || k == 2 || k == 6) = false) : FM b (st_S σ k v) := by
  have h0 : ¬ 1 = k := fun e => by subst e; simp at hk
  have h2 : ¬ 2 = k := fun e => by subst e; simp at hk
  have h6 : ¬ 6 = k := fun e => by subst e; simp at hk
  unfold FM st_S at *
  simp only [if_neg h0, if_neg h2, if_neg h6]
  exact h
theorem fx_A {b σ : St} {k i : Nat} {v : Int32} (h : FX b σ) (hk : (k == 17 || k == 19) = false) : FX b (st_A σ k i v) := by
  have h0 : ¬ 17 = k := fun e => by subst e; simp at hk
  have h2 : ¬ 19 = k := fun e => by subst e; simp at hk
  unfold FX st_A at *
  simp only [if_neg h0, if_neg h2]
  exact h
theorem fm_A {b σ : St} {k i : Nat} {v : Int32} (h : FM b σ) (hk : (k == 14 || k == 16) = false) : FM b (st_A σ k i v) := by
  have h0 : ¬ 14 = k := fun e => by subst e; simp at hk
  have h2 : ¬ 16 = k := fun e => by subst e; simp at hk
  unfold FM st_A at *
  simp only [if_neg h0, if_neg h2]
  exact h
theorem fx_R {b σ : St} {k : Nat} {g : Nat → Int32} (h : FX b σ) (hk : (k == 17 || k == 19) = false) : FX b (st_R σ k g) := by
  have h0 : ¬ 17 = k := fun e => by subst e; simp at hk
  have h2 : ¬ 19 = k := fun e => by subst e; simp at hk
  unfold FX st_R at *
  simp only [if_neg h0, if_neg h2]
  exact h
theorem fm_R {b σ : St} {k : Nat} {g : Nat → Int32} (h : FM b σ) (hk : (k == 14 || k == 16) = false) : FM b (st_R σ k g) := by
  have h0 : ¬ 14 = k := fun e => by subst e; simp at hk
  have h2 : ¬ 16 = k := fun e => by subst e; simp at hk
  unfold FM st_R at *
  simp only [if_neg h0, if_neg h2]
  exact h
theorem fx_J {b σ : St} {k i : Nat} {v : Int64} (h : FX b σ) (_ : true = true) : FX b (st_J σ k i v) := h
theorem nv_let {α : Type} {E : α} {A : α → Prop} (h : ∀ x, x = E → A x) : ∃ x, x = E ∧ A x := ⟨E, rfl, h E rfl⟩
theorem nv_brP {c A B : Prop} (h : (c → A) ∧ (¬ c → B)) : A ∨ B := (Classical.em c).elim (fun z => Or.inl (h.1 z)) (fun z => Or.inr (h.2 z))
theorem nv_brN {c A B : Prop} (h : (¬ c → A) ∧ (c → B)) : A ∨ B := (Classical.em c).elim (fun z => Or.inr (h.2 z)) (fun z => Or.inl (h.1 z))
theorem nv_lpX0_clashing_4 {u1 : Int32} {σ0 : St} {post : Int32 → Prop} : ∀ (n : Nat) (v2 : Int32) (v3 : Int32), lpX0_clashing_4 u1 σ0 post n v2 v3 → (∃ r : Int32, post r) := by
  intro n
  induction n with
  | zero => intro v2 v3 hw; exact hw.elim
  | succ n ih =>
    intro v2 v3 hw
    rw [lpX0_clashing_4] at hw
    rcases nv_brP hw with hw | hw
    · exact ⟨_, hw⟩
    · rcases nv_brP hw with hw | hw
      · have hw := hw _ rfl
        exact ih _ _ hw
      · have hw := hw.2
        rcases nv_brP hw with hw | hw
        · have hw := hw _ rfl
          exact ih _ _ hw
        · have hw := hw _ rfl
          have hw := hw _ rfl
          exact ih _ _ hw
theorem nvX0_clashing {σ0 : St} {a1 : Int32} {post : Int32 → Prop} (hw : wX0_clashing σ0 a1 post) : (∃ r : Int32, post r) := by
  unfold wX0_clashing at hw
  obtain ⟨n5, hw⟩ := hw
  rcases nv_lpX0_clashing_4 _ _ _ hw with ⟨r', hw⟩
  exact ⟨_, hw⟩
theorem nvX1_isNoted {σ0 : St} {a1 : Int32} {post : Int32 → Prop} (hw : wX1_isNoted σ0 a1 post) : (∃ r : Int32, post r) := by
  unfold wX1_isNoted at hw
  have hw := hw.2
  rcases nv_brP hw with hw | hw
  · exact ⟨_, hw⟩
  · exact ⟨_, hw⟩
theorem nvX1_note {b : St} {σ0 : St} {a1 : Int32} {post : St → Prop} (hF : FX b σ0) (hw : wX1_note σ0 a1 post) : (∃ s' : St, FX b s' ∧ post s') := by
  unfold wX1_note at hw
  rcases nv_brP hw with hw | hw
  · exact ⟨_, hF, hw⟩
  · obtain ⟨r1', hw⟩ := nvX1_isNoted hw
    rcases nv_brN hw with hw | hw
    · exact ⟨_, hF, hw⟩
    · rcases nv_brP hw with hw | hw
      · have hw := hw.2
        have hw := hw.2
        obtain ⟨σ2, eσ2, hw⟩ := nv_let hw
        have hF : FX b σ2 := by rw [eσ2]; exact fx_J hF rfl
        have hw := hw.2
        obtain ⟨σ3, eσ3, hw⟩ := nv_let hw
        have hF : FX b σ3 := by rw [eσ3]; exact fx_A hF rfl
        obtain ⟨σ4, eσ4, hw⟩ := nv_let hw
        have hF : FX b σ4 := by rw [eσ4]; exact fx_S hF rfl
        exact ⟨_, hF, hw⟩
      · exact ⟨_, hF, hw⟩
theorem nv_lpX1_putInOrder_4 {b : St} {post : St → Prop} : ∀ (n : Nat) (v1 : Int32) (v2 : Int32) (σ : St), FX b σ → lpX1_putInOrder_4 post n v1 v2 σ → (∃ s' : St, FX b s' ∧ post s') := by
  intro n
  induction n with
  | zero => intro v1 v2 σ hF hw; exact hw.elim
  | succ n ih =>
    intro v1 v2 σ hF hw
    rw [lpX1_putInOrder_4] at hw
    rcases nv_brP hw with hw | hw
    · exact ⟨_, hF, hw⟩
    · rcases nv_brP hw with hw | hw
      · exact ⟨_, hF, hw⟩
      · obtain ⟨r1', hw⟩ := nvX1_isNoted hw
        rcases nv_brP hw with hw | hw
        · have hw := hw _ rfl
          exact ih _ _ _ hF hw
        · have hw := hw.2
          obtain ⟨σ3, eσ3, hw⟩ := nv_let hw
          have hF : FX b σ3 := by rw [eσ3]; exact fx_A hF rfl
          have hw := hw _ rfl
          have hw := hw _ rfl
          exact ih _ _ _ hF hw
theorem nvX1_putInOrder {b : St} {σ0 : St} {post : St → Prop} (hF : FX b σ0) (hw : wX1_putInOrder σ0 post) : (∃ s' : St, FX b s' ∧ post s') := by
  unfold wX1_putInOrder at hw
  obtain ⟨n6, hw⟩ := hw
  rcases nv_lpX1_putInOrder_4 _ _ _ _ hF hw with ⟨s', hF, hw⟩
  exact ⟨_, hF, hw⟩
theorem nv_lpX1_gather_2 {b : St} {u2 : Int32} {K24 : St → Prop} : ∀ (n : Nat) (v3 : Int32) (σ : St), FX b σ → lpX1_gather_2 u2 K24 n v3 σ → (∃ (s' : St), FX b s' ∧ K24 s') := by
  intro n
  induction n with
  | zero => intro v3 σ hF hw; exact hw.elim
  | succ n ih =>
    intro v3 σ hF hw
    rw [lpX1_gather_2] at hw
    rcases nv_brP hw with hw | hw
    · exact ⟨_, hF, hw⟩
    · have hw := hw.2
      obtain ⟨σ1, eσ1, hw⟩ := nv_let hw
      have hF : FX b σ1 := by rw [eσ1]; exact fx_J hF rfl
      have hw := hw _ rfl
      exact ih _ _ hF hw
theorem nv_lpX1_gather_45 {b : St} {u2 : Int32} {u3 : Int32} {u4 : Int32} {K73 : St → Prop} : ∀ (n : Nat) (v5 : Int32) (σ : St), FX b σ → lpX1_gather_45 u2 u3 u4 K73 n v5 σ → (∃ (s' : St), FX b s' ∧ K73 s') := by
  intro n
  induction n with
  | zero => intro v5 σ hF hw; exact hw.elim
  | succ n ih =>
    intro v5 σ hF hw
    rw [lpX1_gather_45] at hw
    rcases nv_brP hw with hw | hw
    · exact ⟨_, hF, hw⟩
    · have hw := hw.2
      have hw := hw.2
      obtain ⟨σ6', hF, hw⟩ := nvX1_note hF hw
      have hw := hw _ rfl
      exact ih _ _ hF hw
theorem nv_lpX1_gather_31 {b : St} {u2 : Int32} {K86 : St → Prop} : ∀ (n : Nat) (v3 : Int32) (σ : St), FX b σ → lpX1_gather_31 u2 K86 n v3 σ → (∃ (s' : St), FX b s' ∧ K86 s') := by
  intro n
  induction n with
  | zero => intro v3 σ hF hw; exact hw.elim
  | succ n ih =>
    intro v3 σ hF hw
    rw [lpX1_gather_31] at hw
    rcases nv_brP hw with hw | hw
    · exact ⟨_, hF, hw⟩
    · have hw := hw _ rfl
      obtain ⟨n11, hw⟩ := hw
      rcases nv_lpX1_gather_45 _ _ _ hF hw with ⟨σ8', hF, hw⟩
      have hw := hw.2
      obtain ⟨σ9', hF, hw⟩ := nvX1_note hF hw
      have hw := hw _ rfl
      exact ih _ _ hF hw
theorem nvX1_gather {b : St} {σ0 : St} {a2 : Int32} {post : St → Prop} (hF : FX b σ0) (hw : wX1_gather σ0 a2 post) : (∃ s' : St, FX b s' ∧ post s') := by
  unfold wX1_gather at hw
  obtain ⟨n15, hw⟩ := hw
  rcases nv_lpX1_gather_2 _ _ _ hF hw with ⟨σ3', hF, hw⟩
  obtain ⟨σ4, eσ4, hw⟩ := nv_let hw
  have hF : FX b σ4 := by rw [eσ4]; exact fx_S hF rfl
  obtain ⟨n14, hw⟩ := hw
  rcases nv_lpX1_gather_31 _ _ _ hF hw with ⟨σ12', hF, hw⟩
  obtain ⟨σ13', hF, hw⟩ := nvX1_putInOrder hF hw
  exact ⟨_, hF, hw⟩
theorem nvX2_isWithinLast {σ0 : St} {a1 : Int32} {a2 : Int32} {post : Int32 → Prop} (hw : wX2_isWithinLast σ0 a1 a2 post) : (∃ r : Int32, post r) := by
  unfold wX2_isWithinLast at hw
  rcases nv_brP hw with hw | hw
  · exact ⟨_, hw⟩
  · exact ⟨_, hw⟩
theorem nvX2_comesRound {σ0 : St} {a1 : Int32} {post : Int32 → Prop} (hw : wX2_comesRound σ0 a1 post) : (∃ r : Int32, post r) := by
  unfold wX2_comesRound at hw
  rcases nv_brP hw with hw | hw
  · have hw := hw _ rfl
    have hw := hw _ rfl
    have hw := hw.2
    rcases nv_brP hw with hw | hw
    · exact ⟨_, hw⟩
    · exact ⟨_, hw⟩
  · exact ⟨_, hw⟩
theorem nvX2_isInGrace {σ0 : St} {a1 : Int32} {post : Int32 → Prop} (hw : wX2_isInGrace σ0 a1 post) : (∃ r : Int32, post r) := by
  unfold wX2_isInGrace at hw
  rcases nv_brP hw with hw | hw
  · exact ⟨_, hw⟩
  · exact ⟨_, hw⟩
theorem nvJ6_bitCount_0f7a4 {a0 : Int32} {post : Int32 → Prop} (hw : wJ6_bitCount_0f7a4 a0 post) : (∃ r : Int32, post r) := by
  unfold wJ6_bitCount_0f7a4 at hw
  have hw := hw _ rfl
  have hw := hw _ rfl
  have hw := hw _ rfl
  have hw := hw _ rfl
  have hw := hw _ rfl
  exact ⟨_, hw⟩
theorem nv_lpX9_totalOf_4 {jq Na : Nat} {u1 : Int32} {σ0 : St} {post : Int32 → Prop} : ∀ (n : Nat) (v2 : Int32) (v3 : Int32), lpX9_totalOf_4 jq Na u1 σ0 post n v2 v3 → (∃ r : Int32, post r) := by
  intro n
  induction n with
  | zero => intro v2 v3 hw; exact hw.elim
  | succ n ih =>
    intro v2 v3 hw
    rw [lpX9_totalOf_4] at hw
    rcases nv_brP hw with hw | hw
    · exact ⟨_, hw⟩
    · rcases nv_brP hw with hw | hw
      · exact ⟨_, hw⟩
      · have hw := hw.2
        obtain ⟨r1', hw⟩ := nvJ6_bitCount_0f7a4 hw
        have hw := hw _ rfl
        have hw := hw _ rfl
        exact ih _ _ hw
theorem nvX9_totalOf {σ0 : St} {jq Na : Nat} {a1 : Int32} {post : Int32 → Prop} (hw : wX9_totalOf σ0 jq Na a1 post) : (∃ r : Int32, post r) := by
  unfold wX9_totalOf at hw
  obtain ⟨n4, hw⟩ := hw
  rcases nv_lpX9_totalOf_4 _ _ _ hw with ⟨r', hw⟩
  exact ⟨_, hw⟩
theorem nv_lpX3_make_12 {b : St} {jq Na : Nat} {u2 : Int32} {K32 : St → Prop} : ∀ (n : Nat) (v3 : Int32) (σ : St), FX b σ → lpX3_make_12 jq Na u2 K32 n v3 σ → (∃ (s' : St), FX b s' ∧ K32 s') := by
  intro n
  induction n with
  | zero => intro v3 σ hF hw; exact hw.elim
  | succ n ih =>
    intro v3 σ hF hw
    rw [lpX3_make_12] at hw
    rcases nv_brP hw with hw | hw
    · exact ⟨_, hF, hw⟩
    · have hw := hw.2
      have hw := hw.2
      obtain ⟨σ3, eσ3, hw⟩ := nv_let hw
      have hF : FX b σ3 := by rw [eσ3]; exact fx_A hF rfl
      have hw := hw _ rfl
      exact ih _ _ hF hw
theorem nvX3_make {b : St} {σ0 : St} {jq Na : Nat} {a2 : Int32} {post : Int32 → St → Prop} (hF : FX b σ0) (hw : wX3_make σ0 jq Na a2 post) : (∃ (r : Int32) (s' : St), FX b s' ∧ post r s') := by
  unfold wX3_make at hw
  obtain ⟨σ1, eσ1, hw⟩ := nv_let hw
  have hF : FX b σ1 := by rw [eσ1]; exact fx_S hF rfl
  obtain ⟨σ2, eσ2, hw⟩ := nv_let hw
  have hF : FX b σ2 := by rw [eσ2]; exact fx_S hF rfl
  obtain ⟨n7, hw⟩ := hw
  rcases nv_lpX3_make_12 _ _ _ hF hw with ⟨σ5', hF, hw⟩
  obtain ⟨r6', hw⟩ := nvX9_totalOf hw
  exact ⟨_, _, hF, hw⟩
theorem nvX3_drop {b : St} {σ0 : St} {a1 : Int32} {a2 : Int32} {post : Int32 → St → Prop} (hF : FX b σ0) (hw : wX3_drop σ0 a1 a2 post) : (∃ (r : Int32) (s' : St), FX b s' ∧ post r s') := by
  unfold wX3_drop at hw
  have hw := hw.2
  have hw := hw _ rfl
  have hw := hw.2
  have hw := hw.2
  obtain ⟨σ2, eσ2, hw⟩ := nv_let hw
  have hF : FX b σ2 := by rw [eσ2]; exact fx_A hF rfl
  exact ⟨_, _, hF, hw⟩
theorem nvX3_allows {σ0 : St} {a1 : Int32} {a2 : Int32} {post : Int32 → Prop} (hw : wX3_allows σ0 a1 a2 post) : (∃ r : Int32, post r) := by
  unfold wX3_allows at hw
  rcases nv_brP hw with hw | hw
  · exact ⟨_, hw⟩
  · have hw := hw.2
    rcases nv_brP hw with hw | hw
    · exact ⟨_, hw⟩
    · exact ⟨_, hw⟩
theorem nvX4_answer {b : St} {σ0 : St} {a1 : Int32} {post : Int32 → St → Prop} (hF : FX b σ0) (hw : wX4_answer σ0 a1 post) : (∃ (r : Int32) (s' : St), FX b s' ∧ post r s') := by
  unfold wX4_answer at hw
  obtain ⟨σ1, eσ1, hw⟩ := nv_let hw
  have hF : FX b σ1 := by rw [eσ1]; exact fx_S hF rfl
  have hw := hw.2
  have hw := hw.2
  obtain ⟨σ2, eσ2, hw⟩ := nv_let hw
  have hF : FX b σ2 := by rw [eσ2]; exact fx_A hF rfl
  exact ⟨_, _, hF, hw⟩
theorem nvX5_has {σ0 : St} {a1 : Int32} {a2 : Int32} {post : Int32 → Prop} (hw : wX5_has σ0 a1 a2 post) : (∃ r : Int32, post r) := by
  unfold wX5_has at hw
  have hw := hw.2
  rcases nv_brP hw with hw | hw
  · exact ⟨_, hw⟩
  · exact ⟨_, hw⟩
theorem nvX5_remark {b : St} {σ0 : St} {a1 : Int32} {a2 : Int32} {post : Int32 → St → Prop} (hF : FX b σ0) (hw : wX5_remark σ0 a1 a2 post) : (∃ (r : Int32) (s' : St), FX b s' ∧ post r s') := by
  unfold wX5_remark at hw
  have hw := hw.2
  have hw := hw _ rfl
  have hw := hw.2
  obtain ⟨σ2, eσ2, hw⟩ := nv_let hw
  have hF : FX b σ2 := by rw [eσ2]; exact fx_A hF rfl
  exact ⟨_, _, hF, hw⟩
theorem nvX5_give {b : St} {σ0 : St} {a1 : Int32} {a2 : Int32} {post : Int32 → St → Prop} (hF : FX b σ0) (hw : wX5_give σ0 a1 a2 post) : (∃ (r : Int32) (s' : St), FX b s' ∧ post r s') := by
  unfold wX5_give at hw
  have hw := hw.2
  have hw := hw _ rfl
  have hw := hw.2
  obtain ⟨σ2, eσ2, hw⟩ := nv_let hw
  have hF : FX b σ2 := by rw [eσ2]; exact fx_A hF rfl
  have hw := hw.2
  have hw := hw.2
  obtain ⟨σ3, eσ3, hw⟩ := nv_let hw
  have hF : FX b σ3 := by rw [eσ3]; exact fx_A hF rfl
  exact ⟨_, _, hF, hw⟩
theorem nv_lpX5_leave_33 {b : St} {u1 : Int32} {u3 : Int32} {u4 : Int32} {K69 : St → Prop} : ∀ (n : Nat) (v5 : Int32) (σ : St), FX b σ → lpX5_leave_33 u1 u3 u4 K69 n v5 σ → (∃ (s' : St), FX b s' ∧ K69 s') := by
  intro n
  induction n with
  | zero => intro v5 σ hF hw; exact hw.elim
  | succ n ih =>
    intro v5 σ hF hw
    rw [lpX5_leave_33] at hw
    rcases nv_brP hw with hw | hw
    · exact ⟨_, hF, hw⟩
    · rcases nv_brP hw with hw | hw
      · have hw := hw _ rfl
        exact ih _ _ hF hw
      · have hw := hw.2
        obtain ⟨σ5, eσ5, hw⟩ := nv_let hw
        have hF : FX b σ5 := by rw [eσ5]; exact fx_A hF rfl
        have hw := hw _ rfl
        exact ih _ _ hF hw
theorem nvX5_leave {b : St} {σ0 : St} {a1 : Int32} {a2 : Int32} {a3 : Int32} {post : Int32 → St → Prop} (hF : FX b σ0) (hw : wX5_leave σ0 a1 a2 a3 post) : (∃ (r : Int32) (s' : St), FX b s' ∧ post r s') := by
  unfold wX5_leave at hw
  have hw := hw.2
  have hw := hw _ rfl
  have hw := hw.2
  obtain ⟨σ2, eσ2, hw⟩ := nv_let hw
  have hF : FX b σ2 := by rw [eσ2]; exact fx_A hF rfl
  have hw := hw.2
  have hw := hw.2
  obtain ⟨σ3, eσ3, hw⟩ := nv_let hw
  have hF : FX b σ3 := by rw [eσ3]; exact fx_A hF rfl
  obtain ⟨n9, hw⟩ := hw
  rcases nv_lpX5_leave_33 _ _ _ hF hw with ⟨σ7', hF, hw⟩
  obtain ⟨r8', hw⟩ := nvJ6_bitCount_0f7a4 hw
  exact ⟨_, _, hF, hw⟩
theorem nvX5_request {b : St} {σ0 : St} {a1 : Int32} {a2 : Int32} {post : Int32 → St → Prop} (hF : FX b σ0) (hw : wX5_request σ0 a1 a2 post) : (∃ (r : Int32) (s' : St), FX b s' ∧ post r s') := by
  unfold wX5_request at hw
  have hw := hw _ rfl
  have hw := hw.2
  rcases nv_brP hw with hw | hw
  · have hw := hw.2
    rcases nv_brP hw with hw | hw
    · exact ⟨_, _, hF, hw⟩
    · have hw := hw.2
      obtain ⟨r2', hw⟩ := nvX2_isInGrace hw
      rcases nv_brN hw with hw | hw
      · have hw := hw.2
        have hw := hw.2
        obtain ⟨σ3, eσ3, hw⟩ := nv_let hw
        have hF : FX b σ3 := by rw [eσ3]; exact fx_A hF rfl
        have hw := hw.2
        have hw := hw.2
        obtain ⟨σ4, eσ4, hw⟩ := nv_let hw
        have hF : FX b σ4 := by rw [eσ4]; exact fx_A hF rfl
        exact ⟨_, _, hF, hw⟩
      · exact ⟨_, _, hF, hw⟩
  · exact ⟨_, _, hF, hw⟩
theorem nv_lpX5_mistold_5 {u1 : Int32} {u2 : Int32} {σ0 : St} {post : Int32 → Prop} : ∀ (n : Nat) (v3 : Int32) (v4 : Int32), lpX5_mistold_5 u1 u2 σ0 post n v3 v4 → (∃ r : Int32, post r) := by
  intro n
  induction n with
  | zero => intro v3 v4 hw; exact hw.elim
  | succ n ih =>
    intro v3 v4 hw
    rw [lpX5_mistold_5] at hw
    rcases nv_brP hw with hw | hw
    · exact ⟨_, hw⟩
    · have hw := hw.2
      rcases nv_brN hw with hw | hw
      · obtain ⟨r1', hw⟩ := nvX5_has hw
        rcases nv_brP hw with hw | hw
        · have hw := hw _ rfl
          exact ih _ _ hw
        · have hw := hw _ rfl
          have hw := hw _ rfl
          exact ih _ _ hw
      · obtain ⟨r5', hw⟩ := nvX5_has hw
        rcases nv_brP hw with hw | hw
        · have hw := hw _ rfl
          exact ih _ _ hw
        · have hw := hw _ rfl
          have hw := hw _ rfl
          exact ih _ _ hw
theorem nvX5_mistold {σ0 : St} {a1 : Int32} {a2 : Int32} {post : Int32 → Prop} (hw : wX5_mistold σ0 a1 a2 post) : (∃ r : Int32, post r) := by
  unfold wX5_mistold at hw
  obtain ⟨n9, hw⟩ := hw
  rcases nv_lpX5_mistold_5 _ _ _ hw with ⟨r', hw⟩
  exact ⟨_, hw⟩
theorem nv_lpX6_begin_18 {b : St} {post : St → Prop} : ∀ (n : Nat) (v1 : Int32) (σ : St), FX b σ → lpX6_begin_18 post n v1 σ → (∃ s' : St, FX b s' ∧ post s') := by
  intro n
  induction n with
  | zero => intro v1 σ hF hw; exact hw.elim
  | succ n ih =>
    intro v1 σ hF hw
    rw [lpX6_begin_18] at hw
    rcases nv_brP hw with hw | hw
    · exact ⟨_, hF, hw⟩
    · have hw := hw.2
      obtain ⟨σ4, eσ4, hw⟩ := nv_let hw
      have hF : FX b σ4 := by rw [eσ4]; exact fx_A hF rfl
      have hw := hw _ rfl
      exact ih _ _ hF hw
theorem nvX6_begin {b : St} {σ0 : St} {post : St → Prop} (hF : FX b σ0) (hw : wX6_begin σ0 post) : (∃ s' : St, FX b s' ∧ post s') := by
  unfold wX6_begin at hw
  obtain ⟨σ1, eσ1, hw⟩ := nv_let hw
  have hF : FX b σ1 := by rw [eσ1]; exact fx_S hF rfl
  obtain ⟨σ2, eσ2, hw⟩ := nv_let hw
  have hF : FX b σ2 := by rw [eσ2]; exact fx_S hF rfl
  obtain ⟨σ3, eσ3, hw⟩ := nv_let hw
  have hF : FX b σ3 := by rw [eσ3]; exact fx_S hF rfl
  obtain ⟨n6, hw⟩ := hw
  rcases nv_lpX6_begin_18 _ _ _ hF hw with ⟨s', hF, hw⟩
  exact ⟨_, hF, hw⟩
theorem nv_lpX6_openPlace_3 {b : St} {u1 : Int32} {u3 : Int32} {σ : St} {post : Int32 → St → Prop} (hF : FX b σ) : ∀ (n : Nat) (v4 : Int32), lpX6_openPlace_3 u1 u3 σ post n v4 → (∃ (r : Int32) (s' : St), FX b s' ∧ post r s') := by
  intro n
  induction n with
  | zero => intro v4 hw; exact hw.elim
  | succ n ih =>
    intro v4 hw
    rw [lpX6_openPlace_3] at hw
    rcases nv_brP hw with hw | hw
    · exact ⟨_, _, hF, hw⟩
    · have hw := hw.2
      have hw := hw.2
      have hw := hw _ rfl
      rcases nv_brP hw with hw | hw
      · have hw := hw _ rfl
        exact ih _ hw
      · have hw := hw.2
        have hw := hw.2
        obtain ⟨σ3, eσ3, hw⟩ := nv_let hw
        have hF : FX b σ3 := by rw [eσ3]; exact fx_A hF rfl
        have hw := hw.2
        obtain ⟨σ4, eσ4, hw⟩ := nv_let hw
        have hF : FX b σ4 := by rw [eσ4]; exact fx_A hF rfl
        have hw := hw.2
        obtain ⟨σ5, eσ5, hw⟩ := nv_let hw
        have hF : FX b σ5 := by rw [eσ5]; exact fx_A hF rfl
        exact ⟨_, _, hF, hw⟩
theorem nvX6_openPlace {b : St} {σ0 : St} {a1 : Int32} {a3 : Int32} {post : Int32 → St → Prop} (hF : FX b σ0) (hw : wX6_openPlace σ0 a1 a3 post) : (∃ (r : Int32) (s' : St), FX b s' ∧ post r s') := by
  unfold wX6_openPlace at hw
  obtain ⟨n6, hw⟩ := hw
  rcases nv_lpX6_openPlace_3 hF _ _ hw with ⟨r', s', hF, hw⟩
  exact ⟨_, _, hF, hw⟩
theorem nv_lpX6_nextOf_7 {b : St} {u1 : Int32} {σ : St} {K81 : Prop} {post : Int32 → St → Prop} (hF : FX b σ) : ∀ (n : Nat) (v3 : Int32), lpX6_nextOf_7 u1 σ K81 post n v3 → K81 ∨ (∃ (r : Int32) (s' : St), FX b s' ∧ post r s') := by
  intro n
  induction n with
  | zero => intro v3 hw; exact hw.elim
  | succ n ih =>
    intro v3 hw
    rw [lpX6_nextOf_7] at hw
    rcases nv_brP hw with hw | hw
    · exact Or.inl hw
    · have hw := hw.2
      have hw := hw _ rfl
      have hw := hw.2
      rcases nv_brP hw with hw | hw
      · have hw := hw.2
        rcases nv_brP hw with hw | hw
        · have hw := hw _ rfl
          exact ih _ hw
        · have hw := hw.2
          rcases nv_brN hw with hw | hw
          · have hw := hw _ rfl
            exact ih _ hw
          · have hw := hw.2
            obtain ⟨σ5, eσ5, hw⟩ := nv_let hw
            have hF : FX b σ5 := by rw [eσ5]; exact fx_A hF rfl
            exact Or.inr ⟨_, _, hF, hw⟩
      · exact Or.inl hw
theorem nvX6_nextOf {b : St} {σ0 : St} {a1 : Int32} {post : Int32 → St → Prop} (hF : FX b σ0) (hw : wX6_nextOf σ0 a1 post) : (∃ (r : Int32) (s' : St), FX b s' ∧ post r s') := by
  unfold wX6_nextOf at hw
  have hw := hw.2
  have hw := hw _ rfl
  obtain ⟨n7, hw⟩ := hw
  rcases nv_lpX6_nextOf_7 hF _ _ hw with hw | ⟨r', s', hF, hw⟩
  · have hw := hw.2
    obtain ⟨σ6, eσ6, hw⟩ := nv_let hw
    have hF : FX b σ6 := by rw [eσ6]; exact fx_A hF rfl
    exact ⟨_, _, hF, hw⟩
  · exact ⟨_, _, hF, hw⟩
theorem nv_lpX6_cover_9 {b : St} {u2 : Int32} {u4 : Int32} {u5 : Int32} {post : St → Prop} : ∀ (n : Nat) (v6 : Int32) (σ : St), FX b σ → lpX6_cover_9 u2 u4 u5 post n v6 σ → (∃ s' : St, FX b s' ∧ post s') := by
  intro n
  induction n with
  | zero => intro v6 σ hF hw; exact hw.elim
  | succ n ih =>
    intro v6 σ hF hw
    rw [lpX6_cover_9] at hw
    rcases nv_brP hw with hw | hw
    · exact ⟨_, hF, hw⟩
    · have hw := hw.2
      rcases nv_brN hw with hw | hw
      · have hw := hw.2
        have hw := hw.2
        obtain ⟨σ2, eσ2, hw⟩ := nv_let hw
        have hF : FX b σ2 := by rw [eσ2]; exact fx_A hF rfl
        have hw := hw _ rfl
        exact ih _ _ hF hw
      · have hw := hw.2
        have hw := hw.2
        obtain ⟨σ4, eσ4, hw⟩ := nv_let hw
        have hF : FX b σ4 := by rw [eσ4]; exact fx_A hF rfl
        have hw := hw _ rfl
        exact ih _ _ hF hw
theorem nvX6_cover {b : St} {σ0 : St} {a1 : Int32} {a2 : Int32} {a4 : Int32} {post : St → Prop} (hF : FX b σ0) (hw : wX6_cover σ0 a1 a2 a4 post) : (∃ s' : St, FX b s' ∧ post s') := by
  unfold wX6_cover at hw
  have hw := hw _ rfl
  obtain ⟨n6, hw⟩ := hw
  rcases nv_lpX6_cover_9 _ _ _ hF hw with ⟨s', hF, hw⟩
  exact ⟨_, hF, hw⟩
theorem nv_lpX6_keepIfFewer_16 {b : St} {u1 : Int32} {post : St → Prop} : ∀ (n : Nat) (v2 : Int32) (σ : St), FX b σ → lpX6_keepIfFewer_16 u1 post n v2 σ → (∃ s' : St, FX b s' ∧ post s') := by
  intro n
  induction n with
  | zero => intro v2 σ hF hw; exact hw.elim
  | succ n ih =>
    intro v2 σ hF hw
    rw [lpX6_keepIfFewer_16] at hw
    rcases nv_brP hw with hw | hw
    · exact ⟨_, hF, hw⟩
    · have hw := hw.2
      have hw := hw.2
      obtain ⟨σ2, eσ2, hw⟩ := nv_let hw
      have hF : FX b σ2 := by rw [eσ2]; exact fx_A hF rfl
      have hw := hw _ rfl
      exact ih _ _ hF hw
theorem nvX6_keepIfFewer {b : St} {σ0 : St} {a1 : Int32} {post : St → Prop} (hF : FX b σ0) (hw : wX6_keepIfFewer σ0 a1 post) : (∃ s' : St, FX b s' ∧ post s') := by
  unfold wX6_keepIfFewer at hw
  rcases nv_brP hw with hw | hw
  · obtain ⟨σ1, eσ1, hw⟩ := nv_let hw
    have hF : FX b σ1 := by rw [eσ1]; exact fx_S hF rfl
    obtain ⟨n4, hw⟩ := hw
    rcases nv_lpX6_keepIfFewer_16 _ _ _ hF hw with ⟨s', hF, hw⟩
    exact ⟨_, hF, hw⟩
  · exact ⟨_, hF, hw⟩
theorem nv_lpX6_search_34 {b : St} {u2 : Int32} {u4 : Int32} {K165 : St → Prop} {post : Int32 → St → Prop} : ∀ (n : Nat) (v5 : Int32) (v6 : Int32) (σ : St), FX b σ → lpX6_search_34 u2 u4 K165 post n v5 v6 σ → (∃ (s' : St), FX b s' ∧ K165 s') ∨ (∃ (r : Int32) (s' : St), FX b s' ∧ post r s') := by
  intro n
  induction n with
  | zero => intro v5 v6 σ hF hw; exact hw.elim
  | succ n ih =>
    intro v5 v6 σ hF hw
    rw [lpX6_search_34] at hw
    rcases nv_brP hw with hw | hw
    · exact Or.inl ⟨_, hF, hw⟩
    · rcases nv_brP hw with hw | hw
      · exact Or.inl ⟨_, hF, hw⟩
      · obtain ⟨r4', σ5', hF, hw⟩ := nvX6_nextOf hF hw
        rcases nv_brN hw with hw | hw
        · rcases nv_brP hw with hw | hw
          · obtain ⟨σ6, eσ6, hw⟩ := nv_let hw
            have hF : FX b σ6 := by rw [eσ6]; exact fx_S hF rfl
            have hw := hw.2
            obtain ⟨σ7, eσ7, hw⟩ := nv_let hw
            have hF : FX b σ7 := by rw [eσ7]; exact fx_A hF rfl
            obtain ⟨σ8', hF, hw⟩ := nvX6_cover hF hw
            obtain ⟨r9', σ10', hF, hw⟩ := nvX6_openPlace hF hw
            rcases nv_brN hw with hw | hw
            · rcases nv_brP hw with hw | hw
              · have hw := hw _ rfl
                exact ih _ _ _ hF hw
              · rcases nv_brP hw with hw | hw
                · have hw := hw _ rfl
                  exact ih _ _ _ hF hw
                · rcases nv_brP hw with hw | hw
                  · have hw := hw _ rfl
                    exact ih _ _ _ hF hw
                  · have hw := hw _ rfl
                    have hw := hw _ rfl
                    exact ih _ _ _ hF hw
            · obtain ⟨σ16', hF, hw⟩ := nvX6_keepIfFewer hF hw
              rcases nv_brP hw with hw | hw
              · have hw := hw _ rfl
                exact ih _ _ _ hF hw
              · rcases nv_brP hw with hw | hw
                · have hw := hw _ rfl
                  exact ih _ _ _ hF hw
                · rcases nv_brP hw with hw | hw
                  · have hw := hw _ rfl
                    exact ih _ _ _ hF hw
                  · have hw := hw _ rfl
                    have hw := hw _ rfl
                    exact ih _ _ _ hF hw
          · exact Or.inr ⟨_, _, hF, hw⟩
        · have hw := hw _ rfl
          have hw := hw _ rfl
          exact ih _ _ _ hF hw
theorem nvX6_search {b : St} {σ0 : St} {a2 : Int32} {a4 : Int32} {post : Int32 → St → Prop} (hF : FX b σ0) (hw : wX6_search σ0 a2 a4 post) : (∃ (r : Int32) (s' : St), FX b s' ∧ post r s') := by
  unfold wX6_search at hw
  obtain ⟨σ1', hF, hw⟩ := nvX6_begin hF hw
  obtain ⟨r2', σ3', hF, hw⟩ := nvX6_openPlace hF hw
  rcases nv_brP hw with hw | hw
  · rcases nv_brP hw with hw | hw
    · obtain ⟨n27, hw⟩ := hw
      rcases nv_lpX6_search_34 _ _ _ _ hF hw with ⟨σ24', hF, hw⟩ | ⟨r', s', hF, hw⟩
      · rcases nv_brP hw with hw | hw
        · obtain ⟨σ25, eσ25, hw⟩ := nv_let hw
          have hF : FX b σ25 := by rw [eσ25]; exact fx_S hF rfl
          exact ⟨_, _, hF, hw⟩
        · obtain ⟨σ26, eσ26, hw⟩ := nv_let hw
          have hF : FX b σ26 := by rw [eσ26]; exact fx_S hF rfl
          exact ⟨_, _, hF, hw⟩
      · exact ⟨_, _, hF, hw⟩
    · obtain ⟨σ28, eσ28, hw⟩ := nv_let hw
      have hF : FX b σ28 := by rw [eσ28]; exact fx_S hF rfl
      obtain ⟨n32, hw⟩ := hw
      rcases nv_lpX6_search_34 _ _ _ _ hF hw with ⟨σ29', hF, hw⟩ | ⟨r', s', hF, hw⟩
      · rcases nv_brP hw with hw | hw
        · obtain ⟨σ30, eσ30, hw⟩ := nv_let hw
          have hF : FX b σ30 := by rw [eσ30]; exact fx_S hF rfl
          exact ⟨_, _, hF, hw⟩
        · obtain ⟨σ31, eσ31, hw⟩ := nv_let hw
          have hF : FX b σ31 := by rw [eσ31]; exact fx_S hF rfl
          exact ⟨_, _, hF, hw⟩
      · exact ⟨_, _, hF, hw⟩
  · rcases nv_brP hw with hw | hw
    · obtain ⟨n36, hw⟩ := hw
      rcases nv_lpX6_search_34 _ _ _ _ hF hw with ⟨σ33', hF, hw⟩ | ⟨r', s', hF, hw⟩
      · rcases nv_brP hw with hw | hw
        · obtain ⟨σ34, eσ34, hw⟩ := nv_let hw
          have hF : FX b σ34 := by rw [eσ34]; exact fx_S hF rfl
          exact ⟨_, _, hF, hw⟩
        · obtain ⟨σ35, eσ35, hw⟩ := nv_let hw
          have hF : FX b σ35 := by rw [eσ35]; exact fx_S hF rfl
          exact ⟨_, _, hF, hw⟩
      · exact ⟨_, _, hF, hw⟩
    · obtain ⟨σ37, eσ37, hw⟩ := nv_let hw
      have hF : FX b σ37 := by rw [eσ37]; exact fx_S hF rfl
      obtain ⟨n41, hw⟩ := hw
      rcases nv_lpX6_search_34 _ _ _ _ hF hw with ⟨σ38', hF, hw⟩ | ⟨r', s', hF, hw⟩
      · rcases nv_brP hw with hw | hw
        · obtain ⟨σ39, eσ39, hw⟩ := nv_let hw
          have hF : FX b σ39 := by rw [eσ39]; exact fx_S hF rfl
          exact ⟨_, _, hF, hw⟩
        · obtain ⟨σ40, eσ40, hw⟩ := nv_let hw
          have hF : FX b σ40 := by rw [eσ40]; exact fx_S hF rfl
          exact ⟨_, _, hF, hw⟩
      · exact ⟨_, _, hF, hw⟩
theorem nv_lpX6_rolesWithin_4 {u1 : Int32} {σ0 : St} {post : Int32 → Prop} : ∀ (n : Nat) (v2 : Int32) (v3 : Int32), lpX6_rolesWithin_4 u1 σ0 post n v2 v3 → (∃ r : Int32, post r) := by
  intro n
  induction n with
  | zero => intro v2 v3 hw; exact hw.elim
  | succ n ih =>
    intro v2 v3 hw
    rw [lpX6_rolesWithin_4] at hw
    rcases nv_brP hw with hw | hw
    · exact ⟨_, hw⟩
    · have hw := hw.2
      rcases nv_brN hw with hw | hw
      · have hw := hw _ rfl
        exact ih _ _ hw
      · have hw := hw _ rfl
        have hw := hw _ rfl
        exact ih _ _ hw
theorem nvX6_rolesWithin {σ0 : St} {a1 : Int32} {post : Int32 → Prop} (hw : wX6_rolesWithin σ0 a1 post) : (∃ r : Int32, post r) := by
  unfold wX6_rolesWithin at hw
  obtain ⟨n4, hw⟩ := hw
  rcases nv_lpX6_rolesWithin_4 _ _ _ hw with ⟨r', hw⟩
  exact ⟨_, hw⟩
theorem nvX7_isMissing {σ0 : St} {a1 : Int32} {post : Int32 → Prop} (hw : wX7_isMissing σ0 a1 post) : (∃ r : Int32, post r) := by
  unfold wX7_isMissing at hw
  have hw := hw.2
  rcases nv_brN hw with hw | hw
  · exact ⟨_, hw⟩
  · exact ⟨_, hw⟩
theorem nvX7_at {σ0 : St} {a1 : Int32} {a2 : Int32} {post : Int32 → Prop} (hw : wX7_at σ0 a1 a2 post) : (∃ r : Int32, post r) := by
  unfold wX7_at at hw
  have hw := hw.2
  exact ⟨_, hw⟩
theorem nv_lpX7_write_15 {b : St} {u1 : Int32} {u4 : Int32} {post : Int32 → St → Prop} : ∀ (n : Nat) (v5 : Int32) (σ : St), FX b σ → lpX7_write_15 u1 u4 post n v5 σ → (∃ (r : Int32) (s' : St), FX b s' ∧ post r s') := by
  intro n
  induction n with
  | zero => intro v5 σ hF hw; exact hw.elim
  | succ n ih =>
    intro v5 σ hF hw
    rw [lpX7_write_15] at hw
    rcases nv_brP hw with hw | hw
    · exact ⟨_, _, hF, hw⟩
    · have hw := hw.2
      have hw := hw.2
      obtain ⟨σ2, eσ2, hw⟩ := nv_let hw
      have hF : FX b σ2 := by rw [eσ2]; exact fx_A hF rfl
      have hw := hw _ rfl
      exact ih _ _ hF hw
theorem nvX7_write {b : St} {σ0 : St} {a1 : Int32} {a3 : Int32} {post : Int32 → St → Prop} (hF : FX b σ0) (hw : wX7_write σ0 a1 a3 post) : (∃ (r : Int32) (s' : St), FX b s' ∧ post r s') := by
  unfold wX7_write at hw
  have hw := hw.2
  have hw := hw _ rfl
  obtain ⟨n4, hw⟩ := hw
  rcases nv_lpX7_write_15 _ _ _ hF hw with ⟨r', s', hF, hw⟩
  exact ⟨_, _, hF, hw⟩
theorem nvX7_spans {σ0 : St} {a1 : Int32} {a2 : Int32} {a3 : Int32} {post : Int32 → Prop} (hw : wX7_spans σ0 a1 a2 a3 post) : (∃ r : Int32, post r) := by
  unfold wX7_spans at hw
  rcases nv_brP hw with hw | hw
  · exact ⟨_, hw⟩
  · have hw := hw.2
    rcases nv_brP hw with hw | hw
    · exact ⟨_, hw⟩
    · have hw := hw.2
      rcases nv_brP hw with hw | hw
      · exact ⟨_, hw⟩
      · exact ⟨_, hw⟩
theorem nvX7_move {b : St} {σ0 : St} {a1 : Int32} {a2 : Int32} {a3 : Int32} {a4 : Int32} {a5 : Int32} {post : St → Prop} (hF : FX b σ0) (hw : wX7_move σ0 a1 a2 a3 a4 a5 post) : (∃ s' : St, FX b s' ∧ post s') := by
  unfold wX7_move at hw
  have hw := hw.2
  have hw := hw.2
  have hw := hw.2
  have hw := hw.2
  have hw := hw.2
  obtain ⟨σ1, eσ1, hw⟩ := nv_let hw
  have hF : FX b σ1 := by rw [eσ1]; exact fx_R hF rfl
  exact ⟨_, hF, hw⟩
theorem nvX8_enter {b : St} {σ0 : St} {a1 : Int32} {a2 : Int32} {a3 : Int32} {post : Int32 → St → Prop} (hF : FX b σ0) (hw : wX8_enter σ0 a1 a2 a3 post) : (∃ (r : Int32) (s' : St), FX b s' ∧ post r s') := by
  unfold wX8_enter at hw
  have hw := hw.2
  obtain ⟨σ1, eσ1, hw⟩ := nv_let hw
  have hF : FX b σ1 := by rw [eσ1]; exact fx_A hF rfl
  have hw := hw.2
  obtain ⟨σ2, eσ2, hw⟩ := nv_let hw
  have hF : FX b σ2 := by rw [eσ2]; exact fx_A hF rfl
  have hw := hw.2
  obtain ⟨σ3, eσ3, hw⟩ := nv_let hw
  have hF : FX b σ3 := by rw [eσ3]; exact fx_A hF rfl
  obtain ⟨σ4, eσ4, hw⟩ := nv_let hw
  have hF : FX b σ4 := by rw [eσ4]; exact fx_S hF rfl
  exact ⟨_, _, hF, hw⟩
theorem nv_lpX8_ofPerson_4 {u1 : Int32} {σ0 : St} {post : Int32 → Prop} : ∀ (n : Nat) (v2 : Int32) (v3 : Int32), lpX8_ofPerson_4 u1 σ0 post n v2 v3 → (∃ r : Int32, post r) := by
  intro n
  induction n with
  | zero => intro v2 v3 hw; exact hw.elim
  | succ n ih =>
    intro v2 v3 hw
    rw [lpX8_ofPerson_4] at hw
    rcases nv_brP hw with hw | hw
    · exact ⟨_, hw⟩
    · have hw := hw.2
      rcases nv_brN hw with hw | hw
      · have hw := hw _ rfl
        exact ih _ _ hw
      · have hw := hw _ rfl
        have hw := hw _ rfl
        exact ih _ _ hw
theorem nvX8_ofPerson {σ0 : St} {a1 : Int32} {post : Int32 → Prop} (hw : wX8_ofPerson σ0 a1 post) : (∃ r : Int32, post r) := by
  unfold wX8_ofPerson at hw
  obtain ⟨n4, hw⟩ := hw
  rcases nv_lpX8_ofPerson_4 _ _ _ hw with ⟨r', hw⟩
  exact ⟨_, hw⟩
theorem nv_lpX8_ofHolding_5 {u1 : Int32} {u2 : Int32} {σ0 : St} {post : Int32 → Prop} : ∀ (n : Nat) (v3 : Int32) (v4 : Int32), lpX8_ofHolding_5 u1 u2 σ0 post n v3 v4 → (∃ r : Int32, post r) := by
  intro n
  induction n with
  | zero => intro v3 v4 hw; exact hw.elim
  | succ n ih =>
    intro v3 v4 hw
    rw [lpX8_ofHolding_5] at hw
    rcases nv_brP hw with hw | hw
    · exact ⟨_, hw⟩
    · have hw := hw.2
      rcases nv_brN hw with hw | hw
      · have hw := hw _ rfl
        exact ih _ _ hw
      · have hw := hw.2
        rcases nv_brN hw with hw | hw
        · have hw := hw _ rfl
          exact ih _ _ hw
        · have hw := hw _ rfl
          have hw := hw _ rfl
          exact ih _ _ hw
theorem nvX8_ofHolding {σ0 : St} {a1 : Int32} {a2 : Int32} {post : Int32 → Prop} (hw : wX8_ofHolding σ0 a1 a2 post) : (∃ r : Int32, post r) := by
  unfold wX8_ofHolding at hw
  obtain ⟨n5, hw⟩ := hw
  rcases nv_lpX8_ofHolding_5 _ _ _ hw with ⟨r', hw⟩
  exact ⟨_, hw⟩
theorem nv_lpX8_recent_5 {u1 : Int32} {σ0 : St} {post : Int32 → Prop} : ∀ (n : Nat) (v3 : Int32) (v4 : Int32), lpX8_recent_5 u1 σ0 post n v3 v4 → (∃ r : Int32, post r) := by
  intro n
  induction n with
  | zero => intro v3 v4 hw; exact hw.elim
  | succ n ih =>
    intro v3 v4 hw
    rw [lpX8_recent_5] at hw
    rcases nv_brP hw with hw | hw
    · exact ⟨_, hw⟩
    · have hw := hw.2
      rcases nv_brN hw with hw | hw
      · have hw := hw _ rfl
        exact ih _ _ hw
      · have hw := hw.2
        obtain ⟨r2', hw⟩ := nvX2_isWithinLast hw
        rcases nv_brP hw with hw | hw
        · have hw := hw _ rfl
          exact ih _ _ hw
        · have hw := hw.2
          have hw := hw _ rfl
          have hw := hw _ rfl
          exact ih _ _ hw
theorem nvX8_recent {σ0 : St} {a1 : Int32} {post : Int32 → Prop} (hw : wX8_recent σ0 a1 post) : (∃ r : Int32, post r) := by
  unfold wX8_recent at hw
  obtain ⟨n6, hw⟩ := hw
  rcases nv_lpX8_recent_5 _ _ _ hw with ⟨r', hw⟩
  exact ⟨_, hw⟩
theorem nv_lpX8_seasonal_5 {u1 : Int32} {σ0 : St} {post : Int32 → Prop} : ∀ (n : Nat) (v3 : Int32) (v4 : Int32), lpX8_seasonal_5 u1 σ0 post n v3 v4 → (∃ r : Int32, post r) := by
  intro n
  induction n with
  | zero => intro v3 v4 hw; exact hw.elim
  | succ n ih =>
    intro v3 v4 hw
    rw [lpX8_seasonal_5] at hw
    rcases nv_brP hw with hw | hw
    · exact ⟨_, hw⟩
    · have hw := hw.2
      rcases nv_brN hw with hw | hw
      · rcases nv_brP hw with hw | hw
        · have hw := hw _ rfl
          exact ih _ _ hw
        · have hw := hw.2
          obtain ⟨r2', hw⟩ := nvX2_comesRound hw
          rcases nv_brP hw with hw | hw
          · have hw := hw _ rfl
            exact ih _ _ hw
          · have hw := hw.2
            have hw := hw _ rfl
            have hw := hw _ rfl
            exact ih _ _ hw
      · have hw := hw.2
        obtain ⟨r6', hw⟩ := nvX2_isWithinLast hw
        rcases nv_brN hw with hw | hw
        · rcases nv_brP hw with hw | hw
          · have hw := hw _ rfl
            exact ih _ _ hw
          · have hw := hw.2
            obtain ⟨r8', hw⟩ := nvX2_comesRound hw
            rcases nv_brP hw with hw | hw
            · have hw := hw _ rfl
              exact ih _ _ hw
            · have hw := hw.2
              have hw := hw _ rfl
              have hw := hw _ rfl
              exact ih _ _ hw
        · rcases nv_brP hw with hw | hw
          · have hw := hw _ rfl
            exact ih _ _ hw
          · have hw := hw.2
            obtain ⟨r13', hw⟩ := nvX2_comesRound hw
            rcases nv_brP hw with hw | hw
            · have hw := hw _ rfl
              exact ih _ _ hw
            · have hw := hw.2
              have hw := hw _ rfl
              have hw := hw _ rfl
              exact ih _ _ hw
theorem nvX8_seasonal {σ0 : St} {a1 : Int32} {post : Int32 → Prop} (hw : wX8_seasonal σ0 a1 post) : (∃ r : Int32, post r) := by
  unfold wX8_seasonal at hw
  obtain ⟨n17, hw⟩ := hw
  rcases nv_lpX8_seasonal_5 _ _ _ hw with ⟨r', hw⟩
  exact ⟨_, hw⟩
theorem nvX9_noMarkSet {a0 : Int32} {post : Int32 → Prop} (hw : wX9_noMarkSet a0 post) : (∃ r : Int32, post r) := by
  unfold wX9_noMarkSet at hw
  rcases nv_brP hw with hw | hw
  · exact ⟨_, hw⟩
  · rcases nv_brP hw with hw | hw
    · exact ⟨_, hw⟩
    · exact ⟨_, hw⟩
theorem nvX9_noRightSet {a0 : Int32} {post : Int32 → Prop} (hw : wX9_noRightSet a0 post) : (∃ r : Int32, post r) := by
  unfold wX9_noRightSet at hw
  rcases nv_brP hw with hw | hw
  · exact ⟨_, hw⟩
  · rcases nv_brP hw with hw | hw
    · exact ⟨_, hw⟩
    · exact ⟨_, hw⟩
theorem nvX9_noPerson {σ0 : St} {a1 : Int32} {post : Int32 → Prop} (hw : wX9_noPerson σ0 a1 post) : (∃ r : Int32, post r) := by
  unfold wX9_noPerson at hw
  rcases nv_brP hw with hw | hw
  · exact ⟨_, hw⟩
  · rcases nv_brP hw with hw | hw
    · exact ⟨_, hw⟩
    · exact ⟨_, hw⟩
theorem nvX9_change {b : St} {σ0 : St} {a1 : Int32} {a2 : Int32} {a3 : Int32} {post : Int32 → St → Prop} (hF : FX b σ0) (hw : wX9_change σ0 a1 a2 a3 post) : (∃ (r : Int32) (s' : St), FX b s' ∧ post r s') := by
  unfold wX9_change at hw
  obtain ⟨r1', hw⟩ := nvX9_noPerson hw
  rcases nv_brP hw with hw | hw
  · rcases nv_brN hw with hw | hw
    · rcases nv_brN hw with hw | hw
      · exact ⟨_, _, hF, hw⟩
      · obtain ⟨r2', hw⟩ := nvX9_noRightSet hw
        rcases nv_brP hw with hw | hw
        · obtain ⟨r3', σ4', hF, hw⟩ := nvX5_give hF hw
          exact ⟨_, _, hF, hw⟩
        · exact ⟨_, _, hF, hw⟩
    · obtain ⟨r5', hw⟩ := nvX9_noMarkSet hw
      rcases nv_brP hw with hw | hw
      · obtain ⟨r6', σ7', hF, hw⟩ := nvX5_remark hF hw
        exact ⟨_, _, hF, hw⟩
      · exact ⟨_, _, hF, hw⟩
  · exact ⟨_, _, hF, hw⟩
theorem nvX9_keptOf {σ0 : St} {a1 : Int32} {post : Int32 → Prop} (hw : wX9_keptOf σ0 a1 post) : (∃ r : Int32, post r) := by
  unfold wX9_keptOf at hw
  obtain ⟨r1', hw⟩ := nvX8_recent hw
  obtain ⟨r2', hw⟩ := nvX8_seasonal hw
  have hw := hw _ rfl
  have hw := hw.2
  exact ⟨_, hw⟩
theorem nvX9_told {σ0 : St} {a1 : Int32} {a2 : Int32} {post : Int32 → Prop} (hw : wX9_told σ0 a1 a2 post) : (∃ r : Int32, post r) := by
  unfold wX9_told at hw
  obtain ⟨r1', hw⟩ := nvX9_noPerson hw
  rcases nv_brP hw with hw | hw
  · rcases nv_brP hw with hw | hw
    · have hw := hw.2
      exact ⟨_, hw⟩
    · rcases nv_brP hw with hw | hw
      · have hw := hw.2
        exact ⟨_, hw⟩
      · rcases nv_brP hw with hw | hw
        · obtain ⟨r2', hw⟩ := nvX9_keptOf hw
          exact ⟨_, hw⟩
        · rcases nv_brP hw with hw | hw
          · have hw := hw.2
            exact ⟨_, hw⟩
          · rcases nv_brP hw with hw | hw
            · obtain ⟨r3', hw⟩ := nvX8_ofPerson hw
              exact ⟨_, hw⟩
            · exact ⟨_, hw⟩
  · exact ⟨_, hw⟩
theorem nvX9_rule {b : St} {σ0 : St} {a1 : Int32} {a2 : Int32} {a3 : Int32} {post : Int32 → St → Prop} (hF : FX b σ0) (hw : wX9_rule σ0 a1 a2 a3 post) : (∃ (r : Int32) (s' : St), FX b s' ∧ post r s') := by
  unfold wX9_rule at hw
  rcases nv_brP hw with hw | hw
  · exact ⟨_, _, hF, hw⟩
  · rcases nv_brP hw with hw | hw
    · exact ⟨_, _, hF, hw⟩
    · rcases nv_brP hw with hw | hw
      · exact ⟨_, _, hF, hw⟩
      · rcases nv_brP hw with hw | hw
        · rcases nv_brP hw with hw | hw
          · exact ⟨_, _, hF, hw⟩
          · rcases nv_brP hw with hw | hw
            · obtain ⟨σ1, eσ1, hw⟩ := nv_let hw
              have hF : FX b σ1 := by rw [eσ1]; exact fx_S hF rfl
              obtain ⟨σ2, eσ2, hw⟩ := nv_let hw
              have hF : FX b σ2 := by rw [eσ2]; exact fx_S hF rfl
              obtain ⟨σ3, eσ3, hw⟩ := nv_let hw
              have hF : FX b σ3 := by rw [eσ3]; exact fx_S hF rfl
              exact ⟨_, _, hF, hw⟩
            · exact ⟨_, _, hF, hw⟩
        · exact ⟨_, _, hF, hw⟩
theorem nvX9_noRight {a0 : Int32} {post : Int32 → Prop} (hw : wX9_noRight a0 post) : (∃ r : Int32, post r) := by
  unfold wX9_noRight at hw
  rcases nv_brP hw with hw | hw
  · exact ⟨_, hw⟩
  · rcases nv_brP hw with hw | hw
    · exact ⟨_, hw⟩
    · exact ⟨_, hw⟩
theorem nvX9_use {b : St} {σ0 : St} {a1 : Int32} {a2 : Int32} {a3 : Int32} {post : Int32 → St → Prop} (hF : FX b σ0) (hw : wX9_use σ0 a1 a2 a3 post) : (∃ (r : Int32) (s' : St), FX b s' ∧ post r s') := by
  unfold wX9_use at hw
  obtain ⟨r1', hw⟩ := nvX9_noPerson hw
  rcases nv_brN hw with hw | hw
  · exact ⟨_, _, hF, hw⟩
  · obtain ⟨r2', hw⟩ := nvX9_noRight hw
    rcases nv_brN hw with hw | hw
    · exact ⟨_, _, hF, hw⟩
    · rcases nv_brP hw with hw | hw
      · exact ⟨_, _, hF, hw⟩
      · rcases nv_brP hw with hw | hw
        · rcases nv_brP hw with hw | hw
          · obtain ⟨r3', hw⟩ := nvX5_has hw
            rcases nv_brN hw with hw | hw
            · obtain ⟨r4', σ5', hF, hw⟩ := nvX8_enter hF hw
              exact ⟨_, _, hF, hw⟩
            · exact ⟨_, _, hF, hw⟩
          · exact ⟨_, _, hF, hw⟩
        · exact ⟨_, _, hF, hw⟩
theorem nvX9_kindOf {σ0 : St} {a1 : Int32} {a2 : Int32} {post : Int32 → Prop} (hw : wX9_kindOf σ0 a1 a2 post) : (∃ r : Int32, post r) := by
  unfold wX9_kindOf at hw
  have hw := hw _ rfl
  obtain ⟨r2', hw⟩ := nvX8_recent hw
  rcases nv_brP hw with hw | hw
  · obtain ⟨r3', hw⟩ := nvX8_seasonal hw
    rcases nv_brP hw with hw | hw
    · rcases nv_brP hw with hw | hw
      · exact ⟨_, hw⟩
      · exact ⟨_, hw⟩
    · exact ⟨_, hw⟩
  · exact ⟨_, hw⟩
theorem nvX9_kind {σ0 : St} {a1 : Int32} {a2 : Int32} {post : Int32 → Prop} (hw : wX9_kind σ0 a1 a2 post) : (∃ r : Int32, post r) := by
  unfold wX9_kind at hw
  obtain ⟨r1', hw⟩ := nvX9_noPerson hw
  rcases nv_brN hw with hw | hw
  · exact ⟨_, hw⟩
  · obtain ⟨r2', hw⟩ := nvX9_noRight hw
    rcases nv_brP hw with hw | hw
    · obtain ⟨r3', hw⟩ := nvX5_has hw
      rcases nv_brN hw with hw | hw
      · obtain ⟨r4', hw⟩ := nvX9_kindOf hw
        exact ⟨_, hw⟩
      · exact ⟨_, hw⟩
    · exact ⟨_, hw⟩
theorem nvX9_isOfKind {a0 : Int32} {a1 : Int32} {post : Int32 → Prop} (hw : wX9_isOfKind a0 a1 post) : (∃ r : Int32, post r) := by
  unfold wX9_isOfKind at hw
  rcases nv_brP hw with hw | hw
  · exact ⟨_, hw⟩
  · rcases nv_brP hw with hw | hw
    · exact ⟨_, hw⟩
    · rcases nv_brN hw with hw | hw
      · exact ⟨_, hw⟩
      · rcases nv_brN hw with hw | hw
        · exact ⟨_, hw⟩
        · exact ⟨_, hw⟩
theorem nvX9_uses {b : St} {σ0 : St} {a1 : Int32} {a2 : Int32} {a3 : Int32} {post : Int32 → St → Prop} (hF : FX b σ0) (hw : wX9_uses σ0 a1 a2 a3 post) : (∃ (r : Int32) (s' : St), FX b s' ∧ post r s') := by
  unfold wX9_uses at hw
  obtain ⟨r1', hw⟩ := nvX9_noPerson hw
  rcases nv_brN hw with hw | hw
  · exact ⟨_, _, hF, hw⟩
  · obtain ⟨r2', hw⟩ := nvX9_noRight hw
    rcases nv_brN hw with hw | hw
    · exact ⟨_, _, hF, hw⟩
    · rcases nv_brP hw with hw | hw
      · exact ⟨_, _, hF, hw⟩
      · rcases nv_brP hw with hw | hw
        · obtain ⟨r3', hw⟩ := nvX5_has hw
          rcases nv_brN hw with hw | hw
          · obtain ⟨r4', hw⟩ := nvX9_kindOf hw
            obtain ⟨r5', hw⟩ := nvX9_isOfKind hw
            rcases nv_brN hw with hw | hw
            · obtain ⟨r6', hw⟩ := nvX8_ofHolding hw
              exact ⟨_, _, hF, hw⟩
            · obtain ⟨r7', σ8', hF, hw⟩ := nvX4_answer hF hw
              exact ⟨_, _, hF, hw⟩
          · exact ⟨_, _, hF, hw⟩
        · exact ⟨_, _, hF, hw⟩
theorem nvX9_strike {b : St} {σ0 : St} {a1 : Int32} {post : Int32 → St → Prop} (hF : FX b σ0) (hw : wX9_strike σ0 a1 post) : (∃ (r : Int32) (s' : St), FX b s' ∧ post r s') := by
  unfold wX9_strike at hw
  obtain ⟨r1', hw⟩ := nvX9_noPerson hw
  rcases nv_brP hw with hw | hw
  · obtain ⟨r2', hw⟩ := nvX9_keptOf hw
    obtain ⟨r3', σ4', hF, hw⟩ := nvX5_leave hF hw
    exact ⟨_, _, hF, hw⟩
  · exact ⟨_, _, hF, hw⟩
theorem nvX9_ask {b : St} {σ0 : St} {a1 : Int32} {a2 : Int32} {post : Int32 → St → Prop} (hF : FX b σ0) (hw : wX9_ask σ0 a1 a2 post) : (∃ (r : Int32) (s' : St), FX b s' ∧ post r s') := by
  unfold wX9_ask at hw
  obtain ⟨r1', hw⟩ := nvX9_noPerson hw
  rcases nv_brN hw with hw | hw
  · exact ⟨_, _, hF, hw⟩
  · obtain ⟨r2', hw⟩ := nvX9_noRight hw
    rcases nv_brP hw with hw | hw
    · obtain ⟨r3', σ4', hF, hw⟩ := nvX5_request hF hw
      have hw := hw.2
      have hw := hw.2
      obtain ⟨σ5, eσ5, hw⟩ := nv_let hw
      have hF : FX b σ5 := by rw [eσ5]; exact fx_A hF rfl
      exact ⟨_, _, hF, hw⟩
    · exact ⟨_, _, hF, hw⟩
theorem nvX9_asks {σ0 : St} {a1 : Int32} {post : Int32 → Prop} (hw : wX9_asks σ0 a1 post) : (∃ r : Int32, post r) := by
  unfold wX9_asks at hw
  rcases nv_brP hw with hw | hw
  · exact ⟨_, hw⟩
  · rcases nv_brP hw with hw | hw
    · have hw := hw.2
      exact ⟨_, hw⟩
    · exact ⟨_, hw⟩
theorem nv_lpX9_lookAtKept_2 {b : St} {post : St → Prop} : ∀ (n : Nat) (v1 : Int32) (σ : St), FX b σ → lpX9_lookAtKept_2 post n v1 σ → (∃ s' : St, FX b s' ∧ post s') := by
  intro n
  induction n with
  | zero => intro v1 σ hF hw; exact hw.elim
  | succ n ih =>
    intro v1 σ hF hw
    rw [lpX9_lookAtKept_2] at hw
    rcases nv_brP hw with hw | hw
    · exact ⟨_, hF, hw⟩
    · obtain ⟨r1', hw⟩ := nvX9_keptOf hw
      have hw := hw.2
      obtain ⟨σ2, eσ2, hw⟩ := nv_let hw
      have hF : FX b σ2 := by rw [eσ2]; exact fx_A hF rfl
      have hw := hw _ rfl
      exact ih _ _ hF hw
theorem nvX9_lookAtKept {b : St} {σ0 : St} {post : St → Prop} (hF : FX b σ0) (hw : wX9_lookAtKept σ0 post) : (∃ s' : St, FX b s' ∧ post s') := by
  unfold wX9_lookAtKept at hw
  obtain ⟨n4, hw⟩ := hw
  rcases nv_lpX9_lookAtKept_2 _ _ _ hF hw with ⟨s', hF, hw⟩
  exact ⟨_, hF, hw⟩
theorem nvX9_candidates {b : St} {σ0 : St} {post : Int32 → St → Prop} (hF : FX b σ0) (hw : wX9_candidates σ0 post) : (∃ (r : Int32) (s' : St), FX b s' ∧ post r s') := by
  unfold wX9_candidates at hw
  obtain ⟨σ1', hF, hw⟩ := nvX9_lookAtKept hF hw
  obtain ⟨σ2', hF, hw⟩ := nvX1_gather hF hw
  exact ⟨_, _, hF, hw⟩
theorem nvX9_roles {b : St} {σ0 : St} {a1 : Int32} {post : Int32 → St → Prop} (hF : FX b σ0) (hw : wX9_roles σ0 a1 post) : (∃ (r : Int32) (s' : St), FX b s' ∧ post r s') := by
  unfold wX9_roles at hw
  rcases nv_brP hw with hw | hw
  · exact ⟨_, _, hF, hw⟩
  · rcases nv_brP hw with hw | hw
    · obtain ⟨σ1', hF, hw⟩ := nvX9_lookAtKept hF hw
      obtain ⟨σ2', hF, hw⟩ := nvX1_gather hF hw
      obtain ⟨r3', σ4', hF, hw⟩ := nvX6_search hF hw
      rcases nv_brP hw with hw | hw
      · exact ⟨_, _, hF, hw⟩
      · exact ⟨_, _, hF, hw⟩
    · exact ⟨_, _, hF, hw⟩
theorem nvX9_tries {σ0 : St} {post : Int32 → Prop} (hw : wX9_tries σ0 post) : (∃ r : Int32, post r) := by
  unfold wX9_tries at hw
  exact ⟨_, hw⟩
theorem nvX9_role {σ0 : St} {a1 : Int32} {post : Int32 → Prop} (hw : wX9_role σ0 a1 post) : (∃ r : Int32, post r) := by
  unfold wX9_role at hw
  rcases nv_brP hw with hw | hw
  · exact ⟨_, hw⟩
  · rcases nv_brP hw with hw | hw
    · have hw := hw.2
      exact ⟨_, hw⟩
    · exact ⟨_, hw⟩
theorem nvX9_rolesOf {σ0 : St} {a1 : Int32} {post : Int32 → Prop} (hw : wX9_rolesOf σ0 a1 post) : (∃ r : Int32, post r) := by
  unfold wX9_rolesOf at hw
  obtain ⟨r1', hw⟩ := nvX9_noPerson hw
  rcases nv_brP hw with hw | hw
  · obtain ⟨r2', hw⟩ := nvX9_keptOf hw
    obtain ⟨r3', hw⟩ := nvX6_rolesWithin hw
    exact ⟨_, hw⟩
  · exact ⟨_, hw⟩
theorem nv_lpX9_marksOf_40 {b : St} {u1 : Int32} {σ : St} {K111 : Int32 → Int32 → Prop} (hF : FX b σ) : ∀ (n : Nat) (v2 : Int32) (v3 : Int32) (v4 : Int32), lpX9_marksOf_40 u1 σ K111 n v2 v3 v4 → (∃ (y2 : Int32) (y3 : Int32), K111 y2 y3) := by
  intro n
  induction n with
  | zero => intro v2 v3 v4 hw; exact hw.elim
  | succ n ih =>
    intro v2 v3 v4 hw
    rw [lpX9_marksOf_40] at hw
    rcases nv_brP hw with hw | hw
    · exact ⟨_, _, hw⟩
    · obtain ⟨r4', hw⟩ := nvX5_mistold hw
      obtain ⟨r5', hw⟩ := nvJ6_bitCount_0f7a4 hw
      obtain ⟨r6', hw⟩ := nvJ6_bitCount_0f7a4 hw
      obtain ⟨r7', hw⟩ := nvJ6_bitCount_0f7a4 hw
      rcases nv_brP hw with hw | hw
      · rcases nv_brP hw with hw | hw
        · have hw := hw _ rfl
          exact ih _ _ _ hw
        · rcases nv_brN hw with hw | hw
          · have hw := hw _ rfl
            exact ih _ _ _ hw
          · rcases nv_brP hw with hw | hw
            · have hw := hw _ rfl
              exact ih _ _ _ hw
            · have hw := hw _ rfl
              exact ih _ _ _ hw
      · rcases nv_brP hw with hw | hw
        · have hw := hw _ rfl
          exact ih _ _ _ hw
        · rcases nv_brN hw with hw | hw
          · have hw := hw _ rfl
            exact ih _ _ _ hw
          · rcases nv_brP hw with hw | hw
            · have hw := hw _ rfl
              exact ih _ _ _ hw
            · have hw := hw _ rfl
              exact ih _ _ _ hw
theorem nvX9_marksOf {b : St} {σ0 : St} {a1 : Int32} {post : Int32 → St → Prop} (hF : FX b σ0) (hw : wX9_marksOf σ0 a1 post) : (∃ (r : Int32) (s' : St), FX b s' ∧ post r s') := by
  unfold wX9_marksOf at hw
  obtain ⟨r1', hw⟩ := nvX9_noRight hw
  rcases nv_brP hw with hw | hw
  · rcases nv_brN hw with hw | hw
    · obtain ⟨r2', hw⟩ := nvX5_mistold hw
      obtain ⟨r3', hw⟩ := nvJ6_bitCount_0f7a4 hw
      obtain ⟨n19, hw⟩ := hw
      rcases nv_lpX9_marksOf_40 hF _ _ _ _ hw with ⟨y16', y17', hw⟩
      obtain ⟨σ18, eσ18, hw⟩ := nv_let hw
      have hF : FX b σ18 := by rw [eσ18]; exact fx_S hF rfl
      exact ⟨_, _, hF, hw⟩
    · exact ⟨_, _, hF, hw⟩
  · exact ⟨_, _, hF, hw⟩
theorem nvX9_exceptions {σ0 : St} {a1 : Int32} {a2 : Int32} {post : Int32 → Prop} (hw : wX9_exceptions σ0 a1 a2 post) : (∃ r : Int32, post r) := by
  unfold wX9_exceptions at hw
  obtain ⟨r1', hw⟩ := nvX9_noRight hw
  rcases nv_brN hw with hw | hw
  · exact ⟨_, hw⟩
  · obtain ⟨r2', hw⟩ := nvX9_noMarkSet hw
    rcases nv_brP hw with hw | hw
    · obtain ⟨r3', hw⟩ := nvX5_mistold hw
      exact ⟨_, hw⟩
    · exact ⟨_, hw⟩
theorem nv_lpX9_breach_4 {σ0 : St} {post : Int32 → Prop} : ∀ (n : Nat) (v1 : Int32) (v2 : Int32), lpX9_breach_4 σ0 post n v1 v2 → (∃ r : Int32, post r) := by
  intro n
  induction n with
  | zero => intro v1 v2 hw; exact hw.elim
  | succ n ih =>
    intro v1 v2 hw
    rw [lpX9_breach_4] at hw
    rcases nv_brP hw with hw | hw
    · exact ⟨_, hw⟩
    · have hw := hw.2
      obtain ⟨r1', hw⟩ := nvX0_clashing hw
      rcases nv_brP hw with hw | hw
      · have hw := hw _ rfl
        exact ih _ _ hw
      · have hw := hw _ rfl
        have hw := hw _ rfl
        exact ih _ _ hw
theorem nvX9_breach {σ0 : St} {post : Int32 → Prop} (hw : wX9_breach σ0 post) : (∃ r : Int32, post r) := by
  unfold wX9_breach at hw
  obtain ⟨n5, hw⟩ := hw
  rcases nv_lpX9_breach_4 _ _ _ hw with ⟨r', hw⟩
  exact ⟨_, hw⟩
theorem nvX9_isLighter {a0 : Int32} {a1 : Int32} {a2 : Int32} {post : Int32 → Prop} (hw : wX9_isLighter a0 a1 a2 post) : (∃ r : Int32, post r) := by
  unfold wX9_isLighter at hw
  obtain ⟨r1', hw⟩ := nvJ6_bitCount_0f7a4 hw
  obtain ⟨r2', hw⟩ := nvJ6_bitCount_0f7a4 hw
  have hw := hw _ rfl
  rcases nv_brP hw with hw | hw
  · obtain ⟨r4', hw⟩ := nvJ6_bitCount_0f7a4 hw
    obtain ⟨r5', hw⟩ := nvJ6_bitCount_0f7a4 hw
    rcases nv_brP hw with hw | hw
    · exact ⟨_, hw⟩
    · exact ⟨_, hw⟩
  · rcases nv_brP hw with hw | hw
    · exact ⟨_, hw⟩
    · exact ⟨_, hw⟩
theorem nv_lpX9_least_48 {u2 : Int32} {u3 : Int32} {u4 : Int32} {σ0 : St} {post : Int32 → Prop} : ∀ (n : Nat) (v5 : Int32) (v6 : Int32), lpX9_least_48 u2 u3 u4 σ0 post n v5 v6 → (∃ r : Int32, post r) := by
  intro n
  induction n with
  | zero => intro v5 v6 hw; exact hw.elim
  | succ n ih =>
    intro v5 v6 hw
    rw [lpX9_least_48] at hw
    rcases nv_brP hw with hw | hw
    · exact ⟨_, hw⟩
    · rcases nv_brN hw with hw | hw
      · have hw := hw _ rfl
        exact ih _ _ hw
      · obtain ⟨r6', hw⟩ := nvX9_isLighter hw
        rcases nv_brP hw with hw | hw
        · have hw := hw _ rfl
          exact ih _ _ hw
        · obtain ⟨r8', hw⟩ := nvX0_clashing hw
          rcases nv_brN hw with hw | hw
          · have hw := hw _ rfl
            exact ih _ _ hw
          · have hw := hw _ rfl
            exact ih _ _ hw
theorem nvX9_least {σ0 : St} {a1 : Int32} {post : Int32 → Prop} (hw : wX9_least σ0 a1 post) : (∃ r : Int32, post r) := by
  unfold wX9_least at hw
  obtain ⟨r1', hw⟩ := nvX9_noPerson hw
  rcases nv_brP hw with hw | hw
  · have hw := hw.2
    have hw := hw _ rfl
    obtain ⟨r3', hw⟩ := nvX0_clashing hw
    rcases nv_brN hw with hw | hw
    · obtain ⟨r4', hw⟩ := nvX9_keptOf hw
      obtain ⟨n11, hw⟩ := hw
      rcases nv_lpX9_least_48 _ _ _ hw with ⟨r', hw⟩
      exact ⟨_, hw⟩
    · exact ⟨_, hw⟩
  · exact ⟨_, hw⟩
theorem nv_lpX9_badRole_2 {σ0 : St} {post : Int32 → Prop} : ∀ (n : Nat) (v1 : Int32), lpX9_badRole_2 σ0 post n v1 → (∃ r : Int32, post r) := by
  intro n
  induction n with
  | zero => intro v1 hw; exact hw.elim
  | succ n ih =>
    intro v1 hw
    rw [lpX9_badRole_2] at hw
    rcases nv_brP hw with hw | hw
    · exact ⟨_, hw⟩
    · have hw := hw.2
      obtain ⟨r1', hw⟩ := nvX0_clashing hw
      rcases nv_brP hw with hw | hw
      · have hw := hw _ rfl
        exact ih _ hw
      · exact ⟨_, hw⟩
theorem nvX9_badRole {σ0 : St} {post : Int32 → Prop} (hw : wX9_badRole σ0 post) : (∃ r : Int32, post r) := by
  unfold wX9_badRole at hw
  obtain ⟨n3, hw⟩ := hw
  rcases nv_lpX9_badRole_2 _ _ hw with ⟨r', hw⟩
  exact ⟨_, hw⟩
theorem nvX9_plan {b : St} {σ0 : St} {a1 : Int32} {post : Int32 → St → Prop} (hF : FX b σ0) (hw : wX9_plan σ0 a1 post) : (∃ (r : Int32) (s' : St), FX b s' ∧ post r s') := by
  unfold wX9_plan at hw
  rcases nv_brP hw with hw | hw
  · rcases nv_brP hw with hw | hw
    · obtain ⟨r1', σ2', hF, hw⟩ := nvX3_make hF hw
      exact ⟨_, _, hF, hw⟩
    · obtain ⟨r3', σ4', hF, hw⟩ := nvX3_make hF hw
      exact ⟨_, _, hF, hw⟩
  · obtain ⟨σ5', hF, hw⟩ := nvX9_lookAtKept hF hw
    rcases nv_brP hw with hw | hw
    · obtain ⟨r6', σ7', hF, hw⟩ := nvX3_make hF hw
      exact ⟨_, _, hF, hw⟩
    · obtain ⟨r8', σ9', hF, hw⟩ := nvX3_make hF hw
      exact ⟨_, _, hF, hw⟩
theorem nvX9_takeOut {b : St} {σ0 : St} {a1 : Int32} {a2 : Int32} {post : Int32 → St → Prop} (hF : FX b σ0) (hw : wX9_takeOut σ0 a1 a2 post) : (∃ (r : Int32) (s' : St), FX b s' ∧ post r s') := by
  unfold wX9_takeOut at hw
  obtain ⟨r1', hw⟩ := nvX9_noPerson hw
  rcases nv_brN hw with hw | hw
  · exact ⟨_, _, hF, hw⟩
  · obtain ⟨r2', hw⟩ := nvX9_noRight hw
    rcases nv_brN hw with hw | hw
    · exact ⟨_, _, hF, hw⟩
    · rcases nv_brP hw with hw | hw
      · rcases nv_brN hw with hw | hw
        · obtain ⟨r3', σ4', hF, hw⟩ := nvX3_drop hF hw
          exact ⟨_, _, hF, hw⟩
        · exact ⟨_, _, hF, hw⟩
      · rcases nv_brP hw with hw | hw
        · rcases nv_brN hw with hw | hw
          · obtain ⟨r5', σ6', hF, hw⟩ := nvX3_drop hF hw
            exact ⟨_, _, hF, hw⟩
          · exact ⟨_, _, hF, hw⟩
        · exact ⟨_, _, hF, hw⟩
theorem nvX9_noLastDays {a0 : Int32} {post : Int32 → Prop} (hw : wX9_noLastDays a0 post) : (∃ r : Int32, post r) := by
  unfold wX9_noLastDays at hw
  rcases nv_brP hw with hw | hw
  · exact ⟨_, hw⟩
  · rcases nv_brP hw with hw | hw
    · exact ⟨_, hw⟩
    · exact ⟨_, hw⟩
theorem nvX9_isStopped {σ0 : St} {a1 : Int32} {a2 : Int32} {post : Int32 → Prop} (hw : wX9_isStopped σ0 a1 a2 post) : (∃ r : Int32, post r) := by
  unfold wX9_isStopped at hw
  have hw := hw.2
  obtain ⟨r1', hw⟩ := nvX2_isWithinLast hw
  rcases nv_brP hw with hw | hw
  · exact ⟨_, hw⟩
  · have hw := hw.2
    have hw := hw.2
    obtain ⟨r2', hw⟩ := nvX3_allows hw
    rcases nv_brN hw with hw | hw
    · exact ⟨_, hw⟩
    · exact ⟨_, hw⟩
theorem nv_lpX9_stopped_26 {u1 : Int32} {σ0 : St} {post : Int32 → Prop} : ∀ (n : Nat) (v2 : Int32) (v3 : Int32), lpX9_stopped_26 u1 σ0 post n v2 v3 → (∃ r : Int32, post r) := by
  intro n
  induction n with
  | zero => intro v2 v3 hw; exact hw.elim
  | succ n ih =>
    intro v2 v3 hw
    rw [lpX9_stopped_26] at hw
    rcases nv_brP hw with hw | hw
    · exact ⟨_, hw⟩
    · obtain ⟨r2', hw⟩ := nvX9_isStopped hw
      rcases nv_brP hw with hw | hw
      · have hw := hw _ rfl
        exact ih _ _ hw
      · have hw := hw _ rfl
        have hw := hw _ rfl
        exact ih _ _ hw
theorem nvX9_stopped {σ0 : St} {a1 : Int32} {post : Int32 → Prop} (hw : wX9_stopped σ0 a1 post) : (∃ r : Int32, post r) := by
  unfold wX9_stopped at hw
  obtain ⟨r1', hw⟩ := nvX9_noLastDays hw
  rcases nv_brP hw with hw | hw
  · rcases nv_brN hw with hw | hw
    · obtain ⟨n6, hw⟩ := hw
      rcases nv_lpX9_stopped_26 _ _ _ hw with ⟨r', hw⟩
      exact ⟨_, hw⟩
    · exact ⟨_, hw⟩
  · exact ⟨_, hw⟩
theorem nv_lpX9_stop_28 {u1 : Int32} {σ0 : St} {post : Int32 → Prop} : ∀ (n : Nat) (v3 : Int32), lpX9_stop_28 u1 σ0 post n v3 → (∃ r : Int32, post r) := by
  intro n
  induction n with
  | zero => intro v3 hw; exact hw.elim
  | succ n ih =>
    intro v3 hw
    rw [lpX9_stop_28] at hw
    rcases nv_brP hw with hw | hw
    · exact ⟨_, hw⟩
    · obtain ⟨r2', hw⟩ := nvX9_isStopped hw
      rcases nv_brP hw with hw | hw
      · have hw := hw _ rfl
        exact ih _ hw
      · exact ⟨_, hw⟩
theorem nvX9_stop {σ0 : St} {a1 : Int32} {a2 : Int32} {post : Int32 → Prop} (hw : wX9_stop σ0 a1 a2 post) : (∃ r : Int32, post r) := by
  unfold wX9_stop at hw
  obtain ⟨r1', hw⟩ := nvX9_noLastDays hw
  rcases nv_brN hw with hw | hw
  · exact ⟨_, hw⟩
  · rcases nv_brP hw with hw | hw
    · rcases nv_brN hw with hw | hw
      · obtain ⟨n4, hw⟩ := hw
        rcases nv_lpX9_stop_28 _ _ hw with ⟨r', hw⟩
        exact ⟨_, hw⟩
      · exact ⟨_, hw⟩
    · exact ⟨_, hw⟩
theorem nvX9_used {σ0 : St} {a1 : Int32} {a2 : Int32} {post : Int32 → Prop} (hw : wX9_used σ0 a1 a2 post) : (∃ r : Int32, post r) := by
  unfold wX9_used at hw
  rcases nv_brP hw with hw | hw
  · exact ⟨_, hw⟩
  · rcases nv_brP hw with hw | hw
    · rcases nv_brP hw with hw | hw
      · have hw := hw.2
        exact ⟨_, hw⟩
      · rcases nv_brP hw with hw | hw
        · have hw := hw.2
          exact ⟨_, hw⟩
        · rcases nv_brP hw with hw | hw
          · have hw := hw.2
            exact ⟨_, hw⟩
          · exact ⟨_, hw⟩
    · exact ⟨_, hw⟩
theorem nv_lpX9_apply_34 {b : St} {post : Int32 → St → Prop} : ∀ (n : Nat) (v1 : Int32) (v2 : Int32) (σ : St), FX b σ → lpX9_apply_34 post n v1 v2 σ → (∃ (r : Int32) (s' : St), FX b s' ∧ post r s') := by
  intro n
  induction n with
  | zero => intro v1 v2 σ hF hw; exact hw.elim
  | succ n ih =>
    intro v1 v2 σ hF hw
    rw [lpX9_apply_34] at hw
    rcases nv_brP hw with hw | hw
    · exact ⟨_, _, hF, hw⟩
    · have hw := hw.2
      obtain ⟨r1', σ2', hF, hw⟩ := nvX5_leave hF hw
      have hw := hw _ rfl
      have hw := hw _ rfl
      exact ih _ _ _ hF hw
theorem nvX9_apply {b : St} {σ0 : St} {post : Int32 → St → Prop} (hF : FX b σ0) (hw : wX9_apply σ0 post) : (∃ (r : Int32) (s' : St), FX b s' ∧ post r s') := by
  unfold wX9_apply at hw
  rcases nv_brP hw with hw | hw
  · exact ⟨_, _, hF, hw⟩
  · rcases nv_brP hw with hw | hw
    · obtain ⟨n5, hw⟩ := hw
      rcases nv_lpX9_apply_34 _ _ _ _ hF hw with ⟨r', s', hF, hw⟩
      exact ⟨_, _, hF, hw⟩
    · exact ⟨_, _, hF, hw⟩
theorem nvX9_noSheet {a0 : Int32} {post : Int32 → Prop} (hw : wX9_noSheet a0 post) : (∃ r : Int32, post r) := by
  unfold wX9_noSheet at hw
  rcases nv_brP hw with hw | hw
  · exact ⟨_, hw⟩
  · rcases nv_brP hw with hw | hw
    · exact ⟨_, hw⟩
    · exact ⟨_, hw⟩
theorem nvX9_save {b : St} {σ0 : St} {a1 : Int32} {post : Int32 → St → Prop} (hF : FX b σ0) (hw : wX9_save σ0 a1 post) : (∃ (r : Int32) (s' : St), FX b s' ∧ post r s') := by
  unfold wX9_save at hw
  obtain ⟨r1', hw⟩ := nvX9_noSheet hw
  rcases nv_brP hw with hw | hw
  · obtain ⟨r2', hw⟩ := nvX7_isMissing hw
    rcases nv_brP hw with hw | hw
    · obtain ⟨r3', σ4', hF, hw⟩ := nvX7_write hF hw
      exact ⟨_, _, hF, hw⟩
    · obtain ⟨r5', σ6', hF, hw⟩ := nvX4_answer hF hw
      exact ⟨_, _, hF, hw⟩
  · exact ⟨_, _, hF, hw⟩
theorem nvX9_load {b : St} {σ0 : St} {a1 : Int32} {a2 : Int32} {a3 : Int32} {post : Int32 → St → Prop} (hF : FX b σ0) (hw : wX9_load σ0 a1 a2 a3 post) : (∃ (r : Int32) (s' : St), FX b s' ∧ post r s') := by
  unfold wX9_load at hw
  obtain ⟨r1', hw⟩ := nvX9_noSheet hw
  rcases nv_brN hw with hw | hw
  · exact ⟨_, _, hF, hw⟩
  · obtain ⟨r2', hw⟩ := nvX9_noPerson hw
    rcases nv_brP hw with hw | hw
    · obtain ⟨r3', hw⟩ := nvX7_isMissing hw
      rcases nv_brP hw with hw | hw
      · rcases nv_brP hw with hw | hw
        · obtain ⟨r4', σ5', hF, hw⟩ := nvX4_answer hF hw
          exact ⟨_, _, hF, hw⟩
        · have hw := hw.2
          rcases nv_brP hw with hw | hw
          · obtain ⟨r6', hw⟩ := nvX7_at hw
            obtain ⟨r7', σ8', hF, hw⟩ := nvX5_give hF hw
            exact ⟨_, _, hF, hw⟩
          · obtain ⟨r9', σ10', hF, hw⟩ := nvX4_answer hF hw
            exact ⟨_, _, hF, hw⟩
      · obtain ⟨r11', σ12', hF, hw⟩ := nvX4_answer hF hw
        exact ⟨_, _, hF, hw⟩
    · exact ⟨_, _, hF, hw⟩
theorem nvX9_copy {b : St} {σ0 : St} {a1 : Int32} {a2 : Int32} {a3 : Int32} {a4 : Int32} {a5 : Int32} {post : Int32 → St → Prop} (hF : FX b σ0) (hw : wX9_copy σ0 a1 a2 a3 a4 a5 post) : (∃ (r : Int32) (s' : St), FX b s' ∧ post r s') := by
  unfold wX9_copy at hw
  obtain ⟨r1', hw⟩ := nvX9_noSheet hw
  rcases nv_brN hw with hw | hw
  · exact ⟨_, _, hF, hw⟩
  · obtain ⟨r2', hw⟩ := nvX9_noSheet hw
    rcases nv_brP hw with hw | hw
    · rcases nv_brP hw with hw | hw
      · obtain ⟨r3', hw⟩ := nvX7_isMissing hw
        rcases nv_brN hw with hw | hw
        · obtain ⟨r4', σ5', hF, hw⟩ := nvX4_answer hF hw
          exact ⟨_, _, hF, hw⟩
        · obtain ⟨r6', hw⟩ := nvX7_isMissing hw
          rcases nv_brP hw with hw | hw
          · obtain ⟨r7', hw⟩ := nvX7_spans hw
            rcases nv_brP hw with hw | hw
            · obtain ⟨r8', σ9', hF, hw⟩ := nvX4_answer hF hw
              exact ⟨_, _, hF, hw⟩
            · obtain ⟨r10', hw⟩ := nvX7_spans hw
              rcases nv_brN hw with hw | hw
              · obtain ⟨σ11', hF, hw⟩ := nvX7_move hF hw
                exact ⟨_, _, hF, hw⟩
              · obtain ⟨r12', σ13', hF, hw⟩ := nvX4_answer hF hw
                exact ⟨_, _, hF, hw⟩
          · obtain ⟨r14', σ15', hF, hw⟩ := nvX4_answer hF hw
            exact ⟨_, _, hF, hw⟩
      · obtain ⟨r16', σ17', hF, hw⟩ := nvX4_answer hF hw
        exact ⟨_, _, hF, hw⟩
    · exact ⟨_, _, hF, hw⟩
theorem nvX9_asked {σ0 : St} {post : Int32 → Prop} (hw : wX9_asked σ0 post) : (∃ r : Int32, post r) := by
  unfold wX9_asked at hw
  exact ⟨_, hw⟩
theorem nvX9_count {b : St} {σ0 : St} {a1 : Int32} {post : Int32 → St → Prop} (hF : FX b σ0) (hw : wX9_count σ0 a1 post) : (∃ (r : Int32) (s' : St), FX b s' ∧ post r s') := by
  unfold wX9_count at hw
  rcases nv_brP hw with hw | hw
  · exact ⟨_, _, hF, hw⟩
  · rcases nv_brP hw with hw | hw
    · exact ⟨_, _, hF, hw⟩
    · rcases nv_brP hw with hw | hw
      · exact ⟨_, _, hF, hw⟩
      · rcases nv_brP hw with hw | hw
        · obtain ⟨r1', hw⟩ := nvX9_totalOf hw
          exact ⟨_, _, hF, hw⟩
        · rcases nv_brP hw with hw | hw
          · obtain ⟨σ2', hF, hw⟩ := nvX9_lookAtKept hF hw
            obtain ⟨r3', hw⟩ := nvX9_totalOf hw
            exact ⟨_, _, hF, hw⟩
          · rcases nv_brP hw with hw | hw
            · obtain ⟨r4', hw⟩ := nvX9_totalOf hw
              exact ⟨_, _, hF, hw⟩
            · exact ⟨_, _, hF, hw⟩
theorem nvX9_finding {σ0 : St} {post : Int32 → Prop} (hw : wX9_finding σ0 post) : (∃ r : Int32, post r) := by
  unfold wX9_finding at hw
  exact ⟨_, hw⟩
theorem nvX9_findings {σ0 : St} {a1 : Int32} {post : Int32 → Prop} (hw : wX9_findings σ0 a1 post) : (∃ r : Int32, post r) := by
  unfold wX9_findings at hw
  rcases nv_brP hw with hw | hw
  · exact ⟨_, hw⟩
  · rcases nv_brP hw with hw | hw
    · have hw := hw.2
      exact ⟨_, hw⟩
    · exact ⟨_, hw⟩
theorem nv_lpX9_digestOfPeople_9 {b : St} {σ : St} {K113 : Int64 → Prop} (hF : FX b σ) : ∀ (n : Nat) (v3 : Int64) (v5 : Int32), lpX9_digestOfPeople_9 σ K113 n v3 v5 → (∃ (y3 : Int64), K113 y3) := by
  intro n
  induction n with
  | zero => intro v3 v5 hw; exact hw.elim
  | succ n ih =>
    intro v3 v5 hw
    rw [lpX9_digestOfPeople_9] at hw
    rcases nv_brP hw with hw | hw
    · exact ⟨_, hw⟩
    · have hw := hw.2
      have hw := hw _ rfl
      have hw := hw.2
      have hw := hw _ rfl
      have hw := hw.2
      have hw := hw _ rfl
      have hw := hw.2
      have hw := hw _ rfl
      obtain ⟨r6', hw⟩ := nvX8_ofPerson hw
      have hw := hw _ rfl
      have hw := hw _ rfl
      exact ih _ _ hw
theorem nvX9_digestOfPeople {b : St} {σ0 : St} {a1 : Int64} {post : Int64 → St → Prop} (hF : FX b σ0) (hw : wX9_digestOfPeople σ0 a1 post) : (∃ (r : Int64) (s' : St), FX b s' ∧ post r s') := by
  unfold wX9_digestOfPeople at hw
  obtain ⟨σ1', hF, hw⟩ := nvX9_lookAtKept hF hw
  obtain ⟨n10, hw⟩ := hw
  rcases nv_lpX9_digestOfPeople_9 hF _ _ _ hw with ⟨y9', hw⟩
  exact ⟨_, _, hF, hw⟩
theorem nv_lpX9_digestOfSheets_32 {u5 : Int32} {σ0 : St} {K72 : Int64 → Prop} : ∀ (n : Nat) (v3 : Int64) (v6 : Int32), lpX9_digestOfSheets_32 u5 σ0 K72 n v3 v6 → (∃ (y3 : Int64), K72 y3) := by
  intro n
  induction n with
  | zero => intro v3 v6 hw; exact hw.elim
  | succ n ih =>
    intro v3 v6 hw
    rw [lpX9_digestOfSheets_32] at hw
    have hw := hw.2
    rcases nv_brP hw with hw | hw
    · exact ⟨_, hw⟩
    · obtain ⟨r2', hw⟩ := nvX7_at hw
      have hw := hw _ rfl
      have hw := hw _ rfl
      exact ih _ _ hw
theorem nv_lpX9_digestOfSheets_5 {σ0 : St} {K78 : Int64 → Prop} : ∀ (n : Nat) (v3 : Int64) (v5 : Int32), lpX9_digestOfSheets_5 σ0 K78 n v3 v5 → (∃ (y3 : Int64), K78 y3) := by
  intro n
  induction n with
  | zero => intro v3 v5 hw; exact hw.elim
  | succ n ih =>
    intro v3 v5 hw
    rw [lpX9_digestOfSheets_5] at hw
    rcases nv_brP hw with hw | hw
    · exact ⟨_, hw⟩
    · have hw := hw.2
      have hw := hw _ rfl
      obtain ⟨n7, hw⟩ := hw
      rcases nv_lpX9_digestOfSheets_32 _ _ _ hw with ⟨y5', hw⟩
      have hw := hw _ rfl
      exact ih _ _ hw
theorem nvX9_digestOfSheets {σ0 : St} {a1 : Int64} {post : Int64 → Prop} (hw : wX9_digestOfSheets σ0 a1 post) : (∃ r : Int64, post r) := by
  unfold wX9_digestOfSheets at hw
  obtain ⟨n9, hw⟩ := hw
  rcases nv_lpX9_digestOfSheets_5 _ _ _ hw with ⟨y8', hw⟩
  exact ⟨_, hw⟩
theorem nv_lpX9_digest_37 {b : St} {σ : St} {K105 : Int64 → Prop} (hF : FX b σ) : ∀ (n : Nat) (v1 : Int64) (v3 : Int32), lpX9_digest_37 σ K105 n v1 v3 → (∃ (y1 : Int64), K105 y1) := by
  intro n
  induction n with
  | zero => intro v1 v3 hw; exact hw.elim
  | succ n ih =>
    intro v1 v3 hw
    rw [lpX9_digest_37] at hw
    rcases nv_brP hw with hw | hw
    · exact ⟨_, hw⟩
    · have hw := hw.2
      have hw := hw _ rfl
      have hw := hw.2
      have hw := hw _ rfl
      have hw := hw.2
      have hw := hw _ rfl
      have hw := hw _ rfl
      exact ih _ _ hw
theorem nv_lpX9_digest_107 {b : St} {σ : St} {K136 : Int64 → Prop} (hF : FX b σ) : ∀ (n : Nat) (v1 : Int64) (v3 : Int32), lpX9_digest_107 σ K136 n v1 v3 → (∃ (y1 : Int64), K136 y1) := by
  intro n
  induction n with
  | zero => intro v1 v3 hw; exact hw.elim
  | succ n ih =>
    intro v1 v3 hw
    rw [lpX9_digest_107] at hw
    rcases nv_brP hw with hw | hw
    · exact ⟨_, hw⟩
    · have hw := hw.2
      have hw := hw _ rfl
      have hw := hw _ rfl
      exact ih _ _ hw
theorem nvX9_digest {b : St} {σ0 : St} {post : Int64 → St → Prop} (hF : FX b σ0) (hw : wX9_digest σ0 post) : (∃ (r : Int64) (s' : St), FX b s' ∧ post r s') := by
  unfold wX9_digest at hw
  obtain ⟨r1', σ2', hF, hw⟩ := nvX9_digestOfPeople hF hw
  have hw := hw _ rfl
  have hw := hw _ rfl
  obtain ⟨n15, hw⟩ := hw
  rcases nv_lpX9_digest_37 hF _ _ _ hw with ⟨y9', hw⟩
  obtain ⟨n14, hw⟩ := hw
  rcases nv_lpX9_digest_107 hF _ _ _ hw with ⟨y12', hw⟩
  obtain ⟨r13', hw⟩ := nvX9_digestOfSheets hw
  exact ⟨_, _, hF, hw⟩
