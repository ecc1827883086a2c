theorem nvX10_in {a0 : Int32} {a1 : Int32} {a2 : Int32} {post : Int32 → Prop} (hw : wX10_in a0 a1 a2 post) : (∃ r : Int32, post r) := by
  unfold wX10_in at hw
  rcases nv_brP hw with hw | hw
  · exact ⟨_, hw⟩
  · rcases nv_brP hw with hw | hw
    · exact ⟨_, hw⟩
    · exact ⟨_, hw⟩
theorem nvX10_meets {b : St} {σ0 : St} {a1 : Int32} {post : Int32 → St → Prop} (hF : FM b σ0) (hw : wX10_meets σ0 a1 post) : (∃ (r : Int32) (s' : St), FM b s' ∧ post r s') := by
  unfold wX10_meets at hw
  obtain ⟨σ1, eσ1, hw⟩ := nv_let hw
  have hF : FM b σ1 := by rw [eσ1]; exact fm_S hF rfl
  have hw := hw.2
  have hw := hw.2
  obtain ⟨σ2, eσ2, hw⟩ := nv_let hw
  have hF : FM b σ2 := by rw [eσ2]; exact fm_A hF rfl
  exact ⟨_, _, hF, hw⟩
theorem nvX10_has {a0 : Int32} {a1 : Int32} {post : Int32 → Prop} (hw : wX10_has a0 a1 post) : (∃ r : Int32, post r) := by
  unfold wX10_has at hw
  rcases nv_brN hw with hw | hw
  · exact ⟨_, hw⟩
  · exact ⟨_, hw⟩
theorem nv_lpX10_bits_4 {u0 : Int32} {post : Int32 → Prop} : ∀ (n : Nat) (v1 : Int32) (v2 : Int32), lpX10_bits_4 u0 post n v1 v2 → (∃ r : Int32, post r) := by
  intro n
  induction n with
  | zero => intro v1 v2 hw; exact hw.elim
  | succ n ih =>
    intro v1 v2 hw
    rw [lpX10_bits_4] at hw
    rcases nv_brP hw with hw | hw
    · exact ⟨_, hw⟩
    · have hw := hw _ rfl
      have hw := hw _ rfl
      exact ih _ _ hw
theorem nvX10_bits {a0 : Int32} {post : Int32 → Prop} (hw : wX10_bits a0 post) : (∃ r : Int32, post r) := by
  unfold wX10_bits at hw
  obtain ⟨n3, hw⟩ := hw
  rcases nv_lpX10_bits_4 _ _ _ hw with ⟨r', hw⟩
  exact ⟨_, hw⟩
theorem nvX10_isPerson {σ0 : St} {a1 : Int32} {post : Int32 → Prop} (hw : wX10_isPerson σ0 a1 post) : (∃ r : Int32, post r) := by
  unfold wX10_isPerson at hw
  obtain ⟨r1', hw⟩ := nvX10_in hw
  have hw := hw.2
  exact ⟨_, hw⟩
theorem nvX10_isRight {a0 : Int32} {post : Int32 → Prop} (hw : wX10_isRight a0 post) : (∃ r : Int32, post r) := by
  unfold wX10_isRight at hw
  obtain ⟨r1', hw⟩ := nvX10_in hw
  have hw := hw.2
  exact ⟨_, hw⟩
theorem nv_lpX10_give_17 {b : St} {u1 : Int32} {u2 : Int32} {u3 : Int32} {post : Int32 → St → Prop} : ∀ (n : Nat) (v4 : Int32) (σ : St), FM b σ → lpX10_give_17 u1 u2 u3 post n v4 σ → (∃ (r : Int32) (s' : St), FM b s' ∧ post r s') := by
  intro n
  induction n with
  | zero => intro v4 σ hF hw; exact hw.elim
  | succ n ih =>
    intro v4 σ hF hw
    rw [lpX10_give_17] at hw
    rcases nv_brP hw with hw | hw
    · exact ⟨_, _, hF, hw⟩
    · obtain ⟨r3', hw⟩ := nvX10_has hw
      rcases nv_brP hw with hw | hw
      · have hw := hw.2
        have hw := hw.2
        obtain ⟨σ4, eσ4, hw⟩ := nv_let hw
        have hF : FM b σ4 := by rw [eσ4]; exact fm_A hF rfl
        have hw := hw _ rfl
        exact ih _ _ hF hw
      · have hw := hw.2
        obtain ⟨σ6, eσ6, hw⟩ := nv_let hw
        have hF : FM b σ6 := by rw [eσ6]; exact fm_A hF rfl
        have hw := hw _ rfl
        exact ih _ _ hF hw
theorem nvX10_give {b : St} {σ0 : St} {a1 : Int32} {a2 : Int32} {post : Int32 → St → Prop} (hF : FM b σ0) (hw : wX10_give σ0 a1 a2 post) : (∃ (r : Int32) (s' : St), FM b s' ∧ post r s') := by
  unfold wX10_give at hw
  have hw := hw.2
  have hw := hw _ rfl
  have hw := hw.2
  obtain ⟨σ2, eσ2, hw⟩ := nv_let hw
  have hF : FM b σ2 := by rw [eσ2]; exact fm_A hF rfl
  obtain ⟨n8, hw⟩ := hw
  rcases nv_lpX10_give_17 _ _ _ hF hw with ⟨r', s', hF, hw⟩
  exact ⟨_, _, hF, hw⟩
theorem nvX10_change {b : St} {σ0 : St} {a1 : Int32} {a2 : Int32} {a3 : Int32} {post : Int32 → St → Prop} (hF : FM b σ0) (hw : wX10_change σ0 a1 a2 a3 post) : (∃ (r : Int32) (s' : St), FM b s' ∧ post r s') := by
  unfold wX10_change at hw
  obtain ⟨r1', hw⟩ := nvX10_isPerson hw
  rcases nv_brP hw with hw | hw
  · exact ⟨_, _, hF, hw⟩
  · obtain ⟨r2', hw⟩ := nvX10_in hw
    rcases nv_brP hw with hw | hw
    · exact ⟨_, _, hF, hw⟩
    · rcases nv_brN hw with hw | hw
      · obtain ⟨r3', hw⟩ := nvX10_in hw
        rcases nv_brN hw with hw | hw
        · rcases nv_brN hw with hw | hw
          · have hw := hw.2
            have hw := hw _ rfl
            have hw := hw.2
            obtain ⟨σ5, eσ5, hw⟩ := nv_let hw
            have hF : FM b σ5 := by rw [eσ5]; exact fm_A hF rfl
            exact ⟨_, _, hF, hw⟩
          · obtain ⟨r6', σ7', hF, hw⟩ := nvX10_give hF hw
            exact ⟨_, _, hF, hw⟩
        · exact ⟨_, _, hF, hw⟩
      · obtain ⟨r8', hw⟩ := nvX10_in hw
        rcases nv_brN hw with hw | hw
        · rcases nv_brN hw with hw | hw
          · have hw := hw.2
            have hw := hw _ rfl
            have hw := hw.2
            obtain ⟨σ10, eσ10, hw⟩ := nv_let hw
            have hF : FM b σ10 := by rw [eσ10]; exact fm_A hF rfl
            exact ⟨_, _, hF, hw⟩
          · obtain ⟨r11', σ12', hF, hw⟩ := nvX10_give hF hw
            exact ⟨_, _, hF, hw⟩
        · exact ⟨_, _, hF, hw⟩
theorem nv_lpX10_kindOf_75 {u1 : Int32} {u2 : Int32} {u3 : Int32} {u5 : Int32} {u6 : Int32} {σ0 : St} {K124 : Int32 → Prop} : ∀ (n : Nat) (v4 : Int32) (v7 : Int32), lpX10_kindOf_75 u1 u2 u3 u5 u6 σ0 K124 n v4 v7 → (∃ (y4 : Int32), K124 y4) := by
  intro n
  induction n with
  | zero => intro v4 v7 hw; exact hw.elim
  | succ n ih =>
    intro v4 v7 hw
    rw [lpX10_kindOf_75] at hw
    rcases nv_brP hw with hw | hw
    · exact ⟨_, hw⟩
    · rcases nv_brP hw with hw | hw
      · exact ⟨_, hw⟩
      · rcases nv_brN hw with hw | hw
        · have hw := hw _ rfl
          exact ih _ _ hw
        · have hw := hw.2
          rcases nv_brN hw with hw | hw
          · have hw := hw _ rfl
            exact ih _ _ hw
          · have hw := hw _ rfl
            exact ih _ _ hw
theorem nv_lpX10_kindOf_8 {u1 : Int32} {u2 : Int32} {σ0 : St} {K130 : Int32 → Int32 → Prop} : ∀ (n : Nat) (v3 : Int32) (v4 : Int32) (v5 : Int32), lpX10_kindOf_8 u1 u2 σ0 K130 n v3 v4 v5 → (∃ (y3 : Int32) (y4 : Int32), K130 y3 y4) := by
  intro n
  induction n with
  | zero => intro v3 v4 v5 hw; exact hw.elim
  | succ n ih =>
    intro v3 v4 v5 hw
    rw [lpX10_kindOf_8] at hw
    rcases nv_brP hw with hw | hw
    · exact ⟨_, _, hw⟩
    · have hw := hw.2
      rcases nv_brN hw with hw | hw
      · have hw := hw _ rfl
        exact ih _ _ _ hw
      · have hw := hw.2
        rcases nv_brN hw with hw | hw
        · have hw := hw _ rfl
          exact ih _ _ _ hw
        · have hw := hw.2
          have hw := hw _ rfl
          rcases nv_brN hw with hw | hw
          · obtain ⟨n9, hw⟩ := hw
            rcases nv_lpX10_kindOf_75 _ _ _ hw with ⟨y7', hw⟩
            have hw := hw _ rfl
            exact ih _ _ _ hw
          · rcases nv_brP hw with hw | hw
            · obtain ⟨n12, hw⟩ := hw
              rcases nv_lpX10_kindOf_75 _ _ _ hw with ⟨y10', hw⟩
              have hw := hw _ rfl
              exact ih _ _ _ hw
            · obtain ⟨n15, hw⟩ := hw
              rcases nv_lpX10_kindOf_75 _ _ _ hw with ⟨y13', hw⟩
              have hw := hw _ rfl
              exact ih _ _ _ hw
theorem nvX10_kindOf {σ0 : St} {a1 : Int32} {a2 : Int32} {post : Int32 → Prop} (hw : wX10_kindOf σ0 a1 a2 post) : (∃ r : Int32, post r) := by
  unfold wX10_kindOf at hw
  obtain ⟨n19, hw⟩ := hw
  rcases nv_lpX10_kindOf_8 _ _ _ _ hw with ⟨y16', y17', hw⟩
  rcases nv_brP hw with hw | hw
  · rcases nv_brP hw with hw | hw
    · obtain ⟨r18', hw⟩ := nvX10_has hw
      rcases nv_brP hw with hw | hw
      · exact ⟨_, hw⟩
      · exact ⟨_, hw⟩
    · exact ⟨_, hw⟩
  · exact ⟨_, hw⟩
theorem nv_lpX10_keptOf_4 {u1 : Int32} {σ0 : St} {post : Int32 → Prop} : ∀ (n : Nat) (v2 : Int32) (v3 : Int32), lpX10_keptOf_4 u1 σ0 post n v2 v3 → (∃ r : Int32, post r) := by
  intro n
  induction n with
  | zero => intro v2 v3 hw; exact hw.elim
  | succ n ih =>
    intro v2 v3 hw
    rw [lpX10_keptOf_4] at hw
    rcases nv_brP hw with hw | hw
    · exact ⟨_, hw⟩
    · have hw := hw.2
      obtain ⟨r1', hw⟩ := nvX10_has hw
      rcases nv_brP hw with hw | hw
      · have hw := hw _ rfl
        have hw := hw _ rfl
        exact ih _ _ hw
      · obtain ⟨r4', hw⟩ := nvX10_kindOf hw
        rcases nv_brP hw with hw | hw
        · have hw := hw _ rfl
          have hw := hw _ rfl
          exact ih _ _ hw
        · have hw := hw _ rfl
          have hw := hw _ rfl
          exact ih _ _ hw
theorem nvX10_keptOf {σ0 : St} {a1 : Int32} {post : Int32 → Prop} (hw : wX10_keptOf σ0 a1 post) : (∃ r : Int32, post r) := by
  unfold wX10_keptOf at hw
  obtain ⟨n9, hw⟩ := hw
  rcases nv_lpX10_keptOf_4 _ _ _ hw with ⟨r', hw⟩
  exact ⟨_, hw⟩
theorem nv_lpX10_tells_55 {u1 : Int32} {σ0 : St} {post : Int32 → Prop} : ∀ (n : Nat) (v3 : Int32) (v4 : Int32), lpX10_tells_55 u1 σ0 post n v3 v4 → (∃ r : Int32, post r) := by
  intro n
  induction n with
  | zero => intro v3 v4 hw; exact hw.elim
  | succ n ih =>
    intro v3 v4 hw
    rw [lpX10_tells_55] at hw
    rcases nv_brP hw with hw | hw
    · exact ⟨_, hw⟩
    · have hw := hw.2
      rcases nv_brP hw with hw | hw
      · have hw := hw _ rfl
        have hw := hw _ rfl
        exact ih _ _ hw
      · have hw := hw _ rfl
        have hw := hw _ rfl
        exact ih _ _ hw
theorem nv_lpX10_tells_99 {u1 : Int32} {σ0 : St} {post : Int32 → Prop} : ∀ (n : Nat) (v3 : Int32) (v4 : Int32), lpX10_tells_99 u1 σ0 post n v3 v4 → (∃ r : Int32, post r) := by
  intro n
  induction n with
  | zero => intro v3 v4 hw; exact hw.elim
  | succ n ih =>
    intro v3 v4 hw
    rw [lpX10_tells_99] at hw
    rcases nv_brP hw with hw | hw
    · exact ⟨_, hw⟩
    · have hw := hw.2
      rcases nv_brN hw with hw | hw
      · have hw := hw _ rfl
        have hw := hw _ rfl
        exact ih _ _ hw
      · have hw := hw _ rfl
        have hw := hw _ rfl
        exact ih _ _ hw
theorem nvX10_tells {σ0 : St} {a1 : Int32} {a2 : Int32} {post : Int32 → Prop} (hw : wX10_tells σ0 a1 a2 post) : (∃ r : Int32, post r) := by
  unfold wX10_tells at hw
  rcases nv_brP hw with hw | hw
  · have hw := hw.2
    exact ⟨_, hw⟩
  · rcases nv_brP hw with hw | hw
    · have hw := hw.2
      exact ⟨_, hw⟩
    · rcases nv_brP hw with hw | hw
      · obtain ⟨r1', hw⟩ := nvX10_keptOf hw
        exact ⟨_, hw⟩
      · rcases nv_brP hw with hw | hw
        · obtain ⟨n6, hw⟩ := hw
          rcases nv_lpX10_tells_55 _ _ _ hw with ⟨r', hw⟩
          exact ⟨_, hw⟩
        · obtain ⟨n11, hw⟩ := hw
          rcases nv_lpX10_tells_99 _ _ _ hw with ⟨r', hw⟩
          exact ⟨_, hw⟩
theorem nvX10_told {σ0 : St} {a1 : Int32} {a2 : Int32} {post : Int32 → Prop} (hw : wX10_told σ0 a1 a2 post) : (∃ r : Int32, post r) := by
  unfold wX10_told at hw
  obtain ⟨r1', hw⟩ := nvX10_isPerson hw
  rcases nv_brP hw with hw | hw
  · exact ⟨_, hw⟩
  · obtain ⟨r2', hw⟩ := nvX10_in hw
    rcases nv_brP hw with hw | hw
    · exact ⟨_, hw⟩
    · obtain ⟨r3', hw⟩ := nvX10_tells hw
      exact ⟨_, hw⟩
theorem nvX10_rule {b : St} {σ0 : St} {a1 : Int32} {a2 : Int32} {a3 : Int32} {post : Int32 → St → Prop} (hF : FM b σ0) (hw : wX10_rule σ0 a1 a2 a3 post) : (∃ (r : Int32) (s' : St), FM b s' ∧ post r s') := by
  unfold wX10_rule at hw
  obtain ⟨r1', hw⟩ := nvX10_in hw
  rcases nv_brP hw with hw | hw
  · exact ⟨_, _, hF, hw⟩
  · obtain ⟨r2', hw⟩ := nvX10_in hw
    rcases nv_brP hw with hw | hw
    · exact ⟨_, _, hF, hw⟩
    · obtain ⟨r3', hw⟩ := nvX10_in hw
      rcases nv_brN hw with hw | hw
      · obtain ⟨σ4, eσ4, hw⟩ := nv_let hw
        have hF : FM b σ4 := by rw [eσ4]; exact fm_S hF rfl
        obtain ⟨σ5, eσ5, hw⟩ := nv_let hw
        have hF : FM b σ5 := by rw [eσ5]; exact fm_S hF rfl
        obtain ⟨σ6, eσ6, hw⟩ := nv_let hw
        have hF : FM b σ6 := by rw [eσ6]; exact fm_S hF rfl
        exact ⟨_, _, hF, hw⟩
      · exact ⟨_, _, hF, hw⟩
theorem nvX10_use {b : St} {σ0 : St} {a1 : Int32} {a2 : Int32} {a3 : Int32} {post : Int32 → St → Prop} (hF : FM b σ0) (hw : wX10_use σ0 a1 a2 a3 post) : (∃ (r : Int32) (s' : St), FM b s' ∧ post r s') := by
  unfold wX10_use at hw
  obtain ⟨r1', hw⟩ := nvX10_isPerson hw
  rcases nv_brP hw with hw | hw
  · exact ⟨_, _, hF, hw⟩
  · obtain ⟨r2', hw⟩ := nvX10_isRight hw
    rcases nv_brP hw with hw | hw
    · exact ⟨_, _, hF, hw⟩
    · obtain ⟨r3', hw⟩ := nvX10_in hw
      rcases nv_brN hw with hw | hw
      · rcases nv_brN hw with hw | hw
        · have hw := hw.2
          obtain ⟨r4', hw⟩ := nvX10_has hw
          rcases nv_brN hw with hw | hw
          · have hw := hw.2
            obtain ⟨σ5, eσ5, hw⟩ := nv_let hw
            have hF : FM b σ5 := by rw [eσ5]; exact fm_A hF rfl
            have hw := hw.2
            obtain ⟨σ6, eσ6, hw⟩ := nv_let hw
            have hF : FM b σ6 := by rw [eσ6]; exact fm_A hF rfl
            have hw := hw.2
            obtain ⟨σ7, eσ7, hw⟩ := nv_let hw
            have hF : FM b σ7 := by rw [eσ7]; exact fm_A hF rfl
            obtain ⟨σ8, eσ8, hw⟩ := nv_let hw
            have hF : FM b σ8 := by rw [eσ8]; exact fm_S hF rfl
            exact ⟨_, _, hF, hw⟩
          · exact ⟨_, _, hF, hw⟩
        · exact ⟨_, _, hF, hw⟩
      · exact ⟨_, _, hF, hw⟩
theorem nvX10_kind {σ0 : St} {a1 : Int32} {a2 : Int32} {post : Int32 → Prop} (hw : wX10_kind σ0 a1 a2 post) : (∃ r : Int32, post r) := by
  unfold wX10_kind at hw
  obtain ⟨r1', hw⟩ := nvX10_isPerson hw
  rcases nv_brP hw with hw | hw
  · exact ⟨_, hw⟩
  · obtain ⟨r2', hw⟩ := nvX10_isRight hw
    rcases nv_brN hw with hw | hw
    · have hw := hw.2
      obtain ⟨r3', hw⟩ := nvX10_has hw
      rcases nv_brP hw with hw | hw
      · exact ⟨_, hw⟩
      · obtain ⟨r4', hw⟩ := nvX10_kindOf hw
        exact ⟨_, hw⟩
    · exact ⟨_, hw⟩
theorem nv_lpX10_uses_83 {b : St} {u1 : Int32} {u2 : Int32} {σ : St} {post : Int32 → St → Prop} (hF : FM b σ) : ∀ (n : Nat) (v5 : Int32) (v6 : Int32), lpX10_uses_83 u1 u2 σ post n v5 v6 → (∃ (r : Int32) (s' : St), FM b s' ∧ post r s') := by
  intro n
  induction n with
  | zero => intro v5 v6 hw; exact hw.elim
  | succ n ih =>
    intro v5 v6 hw
    rw [lpX10_uses_83] at hw
    rcases nv_brP hw with hw | hw
    · exact ⟨_, _, hF, hw⟩
    · have hw := hw.2
      rcases nv_brN hw with hw | hw
      · have hw := hw _ rfl
        have hw := hw _ rfl
        exact ih _ _ hw
      · have hw := hw.2
        rcases nv_brN hw with hw | hw
        · have hw := hw _ rfl
          have hw := hw _ rfl
          exact ih _ _ hw
        · have hw := hw _ rfl
          have hw := hw _ rfl
          exact ih _ _ hw
theorem nvX10_uses {b : St} {σ0 : St} {a1 : Int32} {a2 : Int32} {a3 : Int32} {post : Int32 → St → Prop} (hF : FM b σ0) (hw : wX10_uses σ0 a1 a2 a3 post) : (∃ (r : Int32) (s' : St), FM b s' ∧ post r s') := by
  unfold wX10_uses at hw
  obtain ⟨r1', hw⟩ := nvX10_isPerson hw
  rcases nv_brP hw with hw | hw
  · exact ⟨_, _, hF, hw⟩
  · obtain ⟨r2', hw⟩ := nvX10_isRight hw
    rcases nv_brP hw with hw | hw
    · exact ⟨_, _, hF, hw⟩
    · obtain ⟨r3', hw⟩ := nvX10_in hw
      rcases nv_brN hw with hw | hw
      · have hw := hw.2
        obtain ⟨r4', hw⟩ := nvX10_has hw
        rcases nv_brN hw with hw | hw
        · obtain ⟨r5', hw⟩ := nvX10_kindOf hw
          rcases nv_brP hw with hw | hw
          · obtain ⟨n12, hw⟩ := hw
            rcases nv_lpX10_uses_83 hF _ _ _ hw with ⟨r', s', hF, hw⟩
            exact ⟨_, _, hF, hw⟩
          · rcases nv_brP hw with hw | hw
            · obtain ⟨n13, hw⟩ := hw
              rcases nv_lpX10_uses_83 hF _ _ _ hw with ⟨r', s', hF, hw⟩
              exact ⟨_, _, hF, hw⟩
            · rcases nv_brN hw with hw | hw
              · obtain ⟨r14', σ15', hF, hw⟩ := nvX10_meets hF hw
                exact ⟨_, _, hF, hw⟩
              · rcases nv_brP hw with hw | hw
                · obtain ⟨n16, hw⟩ := hw
                  rcases nv_lpX10_uses_83 hF _ _ _ hw with ⟨r', s', hF, hw⟩
                  exact ⟨_, _, hF, hw⟩
                · obtain ⟨r17', σ18', hF, hw⟩ := nvX10_meets hF hw
                  exact ⟨_, _, hF, hw⟩
        · exact ⟨_, _, hF, hw⟩
      · exact ⟨_, _, hF, hw⟩
theorem nv_lpX10_strikeBut_5 {b : St} {u1 : Int32} {u2 : Int32} {K60 : Int32 → St → Prop} : ∀ (n : Nat) (v3 : Int32) (v4 : Int32) (σ : St), FM b σ → lpX10_strikeBut_5 u1 u2 K60 n v3 v4 σ → (∃ (y3 : Int32) (s' : St), FM b s' ∧ K60 y3 s') := by
  intro n
  induction n with
  | zero => intro v3 v4 σ hF hw; exact hw.elim
  | succ n ih =>
    intro v3 v4 σ hF hw
    rw [lpX10_strikeBut_5] at hw
    rcases nv_brP hw with hw | hw
    · exact ⟨_, _, hF, hw⟩
    · have hw := hw.2
      obtain ⟨r1', hw⟩ := nvX10_has hw
      rcases nv_brP hw with hw | hw
      · have hw := hw _ rfl
        exact ih _ _ _ hF hw
      · obtain ⟨r3', hw⟩ := nvX10_has hw
        rcases nv_brN hw with hw | hw
        · have hw := hw _ rfl
          exact ih _ _ _ hF hw
        · have hw := hw.2
          obtain ⟨σ5, eσ5, hw⟩ := nv_let hw
          have hF : FM b σ5 := by rw [eσ5]; exact fm_A hF rfl
          have hw := hw _ rfl
          have hw := hw _ rfl
          exact ih _ _ _ hF hw
theorem nvX10_strikeBut {b : St} {σ0 : St} {a1 : Int32} {a2 : Int32} {post : Int32 → St → Prop} (hF : FM b σ0) (hw : wX10_strikeBut σ0 a1 a2 post) : (∃ (r : Int32) (s' : St), FM b s' ∧ post r s') := by
  unfold wX10_strikeBut at hw
  obtain ⟨n11, hw⟩ := hw
  rcases nv_lpX10_strikeBut_5 _ _ _ _ hF hw with ⟨y8', σ9', hF, hw⟩
  have hw := hw.2
  have hw := hw.2
  obtain ⟨σ10, eσ10, hw⟩ := nv_let hw
  have hF : FM b σ10 := by rw [eσ10]; exact fm_A hF rfl
  exact ⟨_, _, hF, hw⟩
theorem nvX10_strike {b : St} {σ0 : St} {a1 : Int32} {post : Int32 → St → Prop} (hF : FM b σ0) (hw : wX10_strike σ0 a1 post) : (∃ (r : Int32) (s' : St), FM b s' ∧ post r s') := by
  unfold wX10_strike at hw
  obtain ⟨r1', hw⟩ := nvX10_isPerson hw
  rcases nv_brP hw with hw | hw
  · exact ⟨_, _, hF, hw⟩
  · obtain ⟨r2', hw⟩ := nvX10_keptOf hw
    obtain ⟨r3', σ4', hF, hw⟩ := nvX10_strikeBut hF hw
    exact ⟨_, _, hF, hw⟩
theorem nvX10_ask {b : St} {σ0 : St} {a1 : Int32} {a2 : Int32} {post : Int32 → St → Prop} (hF : FM b σ0) (hw : wX10_ask σ0 a1 a2 post) : (∃ (r : Int32) (s' : St), FM b s' ∧ post r s') := by
  unfold wX10_ask at hw
  obtain ⟨r1', hw⟩ := nvX10_isPerson hw
  rcases nv_brP hw with hw | hw
  · exact ⟨_, _, hF, hw⟩
  · obtain ⟨r2', hw⟩ := nvX10_isRight hw
    rcases nv_brN hw with hw | hw
    · have hw := hw.2
      have hw := hw _ rfl
      have hw := hw.2
      obtain ⟨r4', hw⟩ := nvX10_has hw
      rcases nv_brP hw with hw | hw
      · rcases nv_brP hw with hw | hw
        · rcases nv_brN hw with hw | hw
          · have hw := hw.2
            have hw := hw.2
            obtain ⟨σ5, eσ5, hw⟩ := nv_let hw
            have hF : FM b σ5 := by rw [eσ5]; exact fm_A hF rfl
            exact ⟨_, _, hF, hw⟩
          · have hw := hw.2
            have hw := hw.2
            obtain ⟨σ6, eσ6, hw⟩ := nv_let hw
            have hF : FM b σ6 := by rw [eσ6]; exact fm_A hF rfl
            have hw := hw.2
            obtain ⟨σ7, eσ7, hw⟩ := nv_let hw
            have hF : FM b σ7 := by rw [eσ7]; exact fm_A hF rfl
            have hw := hw.2
            have hw := hw.2
            obtain ⟨σ8, eσ8, hw⟩ := nv_let hw
            have hF : FM b σ8 := by rw [eσ8]; exact fm_A hF rfl
            exact ⟨_, _, hF, hw⟩
        · rcases nv_brP hw with hw | hw
          · rcases nv_brN hw with hw | hw
            · have hw := hw.2
              have hw := hw.2
              obtain ⟨σ9, eσ9, hw⟩ := nv_let hw
              have hF : FM b σ9 := by rw [eσ9]; exact fm_A hF rfl
              exact ⟨_, _, hF, hw⟩
            · have hw := hw.2
              have hw := hw.2
              obtain ⟨σ10, eσ10, hw⟩ := nv_let hw
              have hF : FM b σ10 := by rw [eσ10]; exact fm_A hF rfl
              have hw := hw.2
              obtain ⟨σ11, eσ11, hw⟩ := nv_let hw
              have hF : FM b σ11 := by rw [eσ11]; exact fm_A hF rfl
              have hw := hw.2
              have hw := hw.2
              obtain ⟨σ12, eσ12, hw⟩ := nv_let hw
              have hF : FM b σ12 := by rw [eσ12]; exact fm_A hF rfl
              exact ⟨_, _, hF, hw⟩
          · rcases nv_brN hw with hw | hw
            · have hw := hw.2
              have hw := hw.2
              obtain ⟨σ13, eσ13, hw⟩ := nv_let hw
              have hF : FM b σ13 := by rw [eσ13]; exact fm_A hF rfl
              exact ⟨_, _, hF, hw⟩
            · have hw := hw.2
              have hw := hw.2
              obtain ⟨σ14, eσ14, hw⟩ := nv_let hw
              have hF : FM b σ14 := by rw [eσ14]; exact fm_A hF rfl
              have hw := hw.2
              obtain ⟨σ15, eσ15, hw⟩ := nv_let hw
              have hF : FM b σ15 := by rw [eσ15]; exact fm_A hF rfl
              have hw := hw.2
              have hw := hw.2
              obtain ⟨σ16, eσ16, hw⟩ := nv_let hw
              have hF : FM b σ16 := by rw [eσ16]; exact fm_A hF rfl
              exact ⟨_, _, hF, hw⟩
      · rcases nv_brN hw with hw | hw
        · have hw := hw.2
          have hw := hw.2
          obtain ⟨σ17, eσ17, hw⟩ := nv_let hw
          have hF : FM b σ17 := by rw [eσ17]; exact fm_A hF rfl
          exact ⟨_, _, hF, hw⟩
        · have hw := hw.2
          have hw := hw.2
          obtain ⟨σ18, eσ18, hw⟩ := nv_let hw
          have hF : FM b σ18 := by rw [eσ18]; exact fm_A hF rfl
          have hw := hw.2
          obtain ⟨σ19, eσ19, hw⟩ := nv_let hw
          have hF : FM b σ19 := by rw [eσ19]; exact fm_A hF rfl
          have hw := hw.2
          have hw := hw.2
          obtain ⟨σ20, eσ20, hw⟩ := nv_let hw
          have hF : FM b σ20 := by rw [eσ20]; exact fm_A hF rfl
          exact ⟨_, _, hF, hw⟩
    · exact ⟨_, _, hF, hw⟩
theorem nvX10_asks {σ0 : St} {a1 : Int32} {post : Int32 → Prop} (hw : wX10_asks σ0 a1 post) : (∃ r : Int32, post r) := by
  unfold wX10_asks at hw
  obtain ⟨r1', hw⟩ := nvX10_in hw
  rcases nv_brP hw with hw | hw
  · exact ⟨_, hw⟩
  · have hw := hw.2
    exact ⟨_, hw⟩
theorem nv_lpX10_setCandidates_2 {b : St} {K22 : St → Prop} : ∀ (n : Nat) (v1 : Int32) (σ : St), FM b σ → lpX10_setCandidates_2 K22 n v1 σ → (∃ (s' : St), FM b s' ∧ K22 s') := by
  intro n
  induction n with
  | zero => intro v1 σ hF hw; exact hw.elim
  | succ n ih =>
    intro v1 σ hF hw
    rw [lpX10_setCandidates_2] at hw
    rcases nv_brP hw with hw | hw
    · exact ⟨_, hF, hw⟩
    · have hw := hw.2
      obtain ⟨σ1, eσ1, hw⟩ := nv_let hw
      have hF : FM b σ1 := by rw [eσ1]; exact fm_A hF rfl
      have hw := hw _ rfl
      exact ih _ _ hF hw
theorem nv_lpX10_setCandidates_24 {b : St} {K49 : St → Prop} : ∀ (n : Nat) (v1 : Int32) (σ : St), FM b σ → lpX10_setCandidates_24 K49 n v1 σ → (∃ (s' : St), FM b s' ∧ K49 s') := by
  intro n
  induction n with
  | zero => intro v1 σ hF hw; exact hw.elim
  | succ n ih =>
    intro v1 σ hF hw
    rw [lpX10_setCandidates_24] at hw
    rcases nv_brP hw with hw | hw
    · exact ⟨_, hF, hw⟩
    · obtain ⟨r4', hw⟩ := nvX10_keptOf hw
      have hw := hw.2
      obtain ⟨σ5, eσ5, hw⟩ := nv_let hw
      have hF : FM b σ5 := by rw [eσ5]; exact fm_A hF rfl
      have hw := hw _ rfl
      exact ih _ _ hF hw
theorem nv_lpX10_setCandidates_67 {b : St} {u1 : Int32} {σ : St} {K104 : Int32 → Prop} (hF : FM b σ) : ∀ (n : Nat) (v2 : Int32) (v3 : Int32), lpX10_setCandidates_67 u1 σ K104 n v2 v3 → (∃ (y2 : Int32), K104 y2) := by
  intro n
  induction n with
  | zero => intro v2 v3 hw; exact hw.elim
  | succ n ih =>
    intro v2 v3 hw
    rw [lpX10_setCandidates_67] at hw
    rcases nv_brP hw with hw | hw
    · exact ⟨_, hw⟩
    · obtain ⟨r8', hw⟩ := nvX10_has hw
      rcases nv_brP hw with hw | hw
      · have hw := hw _ rfl
        have hw := hw _ rfl
        exact ih _ _ hw
      · have hw := hw.2
        have hw := hw _ rfl
        have hw := hw _ rfl
        exact ih _ _ hw
theorem nv_lpX10_setCandidates_51 {b : St} {K125 : St → Prop} : ∀ (n : Nat) (v1 : Int32) (σ : St), FM b σ → lpX10_setCandidates_51 K125 n v1 σ → (∃ (s' : St), FM b s' ∧ K125 s') := by
  intro n
  induction n with
  | zero => intro v1 σ hF hw; exact hw.elim
  | succ n ih =>
    intro v1 σ hF hw
    rw [lpX10_setCandidates_51] at hw
    rcases nv_brP hw with hw | hw
    · exact ⟨_, hF, hw⟩
    · obtain ⟨n18, hw⟩ := hw
      rcases nv_lpX10_setCandidates_67 hF _ _ _ hw with ⟨y13', hw⟩
      rcases nv_brP hw with hw | hw
      · have hw := hw.2
        obtain ⟨σ14, eσ14, hw⟩ := nv_let hw
        have hF : FM b σ14 := by rw [eσ14]; exact fm_A hF rfl
        have hw := hw _ rfl
        exact ih _ _ hF hw
      · have hw := hw.2
        obtain ⟨σ16, eσ16, hw⟩ := nv_let hw
        have hF : FM b σ16 := by rw [eσ16]; exact fm_A hF rfl
        have hw := hw _ rfl
        exact ih _ _ hF hw
theorem nv_lpX10_setCandidates_129 {b : St} {σ : St} {post : Int32 → St → Prop} (hF : FM b σ) : ∀ (n : Nat) (v1 : Int32) (v2 : Int32), lpX10_setCandidates_129 σ post n v1 v2 → (∃ (r : Int32) (s' : St), FM b s' ∧ post r s') := by
  intro n
  induction n with
  | zero => intro v1 v2 hw; exact hw.elim
  | succ n ih =>
    intro v1 v2 hw
    rw [lpX10_setCandidates_129] at hw
    rcases nv_brP hw with hw | hw
    · exact ⟨_, _, hF, hw⟩
    · have hw := hw.2
      rcases nv_brP hw with hw | hw
      · have hw := hw _ rfl
        have hw := hw _ rfl
        exact ih _ _ hw
      · have hw := hw _ rfl
        have hw := hw _ rfl
        exact ih _ _ hw
theorem nvX10_setCandidates {b : St} {σ0 : St} {post : Int32 → St → Prop} (hF : FM b σ0) (hw : wX10_setCandidates σ0 post) : (∃ (r : Int32) (s' : St), FM b s' ∧ post r s') := by
  unfold wX10_setCandidates at hw
  obtain ⟨n27, hw⟩ := hw
  rcases nv_lpX10_setCandidates_2 _ _ _ hF hw with ⟨σ3', hF, hw⟩
  obtain ⟨n26, hw⟩ := hw
  rcases nv_lpX10_setCandidates_24 _ _ _ hF hw with ⟨σ7', hF, hw⟩
  obtain ⟨n25, hw⟩ := hw
  rcases nv_lpX10_setCandidates_51 _ _ _ hF hw with ⟨σ19', hF, hw⟩
  obtain ⟨n24, hw⟩ := hw
  rcases nv_lpX10_setCandidates_129 hF _ _ _ hw with ⟨r', s', hF, hw⟩
  exact ⟨_, _, hF, hw⟩
theorem nvX10_candidates {b : St} {σ0 : St} {post : Int32 → St → Prop} (hF : FM b σ0) (hw : wX10_candidates σ0 post) : (∃ (r : Int32) (s' : St), FM b s' ∧ post r s') := by
  unfold wX10_candidates at hw
  obtain ⟨r1', σ2', hF, hw⟩ := nvX10_setCandidates hF hw
  exact ⟨_, _, hF, hw⟩
theorem nv_lpX10_open_15 {u1 : Int32} {u2 : Int32} {σ0 : St} {K60 : Int32 → Prop} : ∀ (n : Nat) (v3 : Int32) (v4 : Int32), lpX10_open_15 u1 u2 σ0 K60 n v3 v4 → (∃ (y3 : Int32), K60 y3) := by
  intro n
  induction n with
  | zero => intro v3 v4 hw; exact hw.elim
  | succ n ih =>
    intro v3 v4 hw
    rw [lpX10_open_15] at hw
    rcases nv_brP hw with hw | hw
    · exact ⟨_, hw⟩
    · have hw := hw.2
      have hw := hw.2
      rcases nv_brN hw with hw | hw
      · have hw := hw _ rfl
        have hw := hw _ rfl
        exact ih _ _ hw
      · have hw := hw.2
        have hw := hw _ rfl
        have hw := hw _ rfl
        exact ih _ _ hw
theorem nv_lpX10_open_63 {u1 : Int32} {u2 : Int32} {u3 : Int32} {σ0 : St} {K102 : Prop} {post : Int32 → Prop} : ∀ (n : Nat) (v4 : Int32), lpX10_open_63 u1 u2 u3 σ0 K102 post n v4 → K102 ∨ (∃ r : Int32, post r) := by
  intro n
  induction n with
  | zero => intro v4 hw; exact hw.elim
  | succ n ih =>
    intro v4 hw
    rw [lpX10_open_63] at hw
    rcases nv_brP hw with hw | hw
    · exact Or.inl hw
    · have hw := hw.2
      obtain ⟨r6', hw⟩ := nvX10_has hw
      rcases nv_brP hw with hw | hw
      · have hw := hw _ rfl
        exact ih _ hw
      · exact Or.inr ⟨_, hw⟩
theorem nv_lpX10_open_2 {u1 : Int32} {σ0 : St} {post : Int32 → Prop} : ∀ (n : Nat) (v2 : Int32), lpX10_open_2 u1 σ0 post n v2 → (∃ r : Int32, post r) := by
  intro n
  induction n with
  | zero => intro v2 hw; exact hw.elim
  | succ n ih =>
    intro v2 hw
    rw [lpX10_open_2] at hw
    rcases nv_brP hw with hw | hw
    · exact ⟨_, hw⟩
    · obtain ⟨n10, hw⟩ := hw
      rcases nv_lpX10_open_15 _ _ _ hw with ⟨y5', hw⟩
      obtain ⟨n9, hw⟩ := hw
      rcases nv_lpX10_open_63 _ _ hw with hw | ⟨r', hw⟩
      · have hw := hw _ rfl
        exact ih _ hw
      · exact ⟨_, hw⟩
theorem nvX10_open {σ0 : St} {a1 : Int32} {post : Int32 → Prop} (hw : wX10_open σ0 a1 post) : (∃ r : Int32, post r) := by
  unfold wX10_open at hw
  obtain ⟨n11, hw⟩ := hw
  rcases nv_lpX10_open_2 _ _ hw with ⟨r', hw⟩
  exact ⟨_, hw⟩
theorem nvX10_level {b : St} {σ0 : St} {a1 : Int32} {a2 : Int32} {post : St → Prop} (hF : FM b σ0) (hw : wX10_level σ0 a1 a2 post) : (∃ s' : St, FM b s' ∧ post s') := by
  unfold wX10_level at hw
  have hw := hw.2
  obtain ⟨σ1, eσ1, hw⟩ := nv_let hw
  have hF : FM b σ1 := by rw [eσ1]; exact fm_A hF rfl
  have hw := hw.2
  obtain ⟨σ2, eσ2, hw⟩ := nv_let hw
  have hF : FM b σ2 := by rw [eσ2]; exact fm_A hF rfl
  have hw := hw.2
  obtain ⟨σ3, eσ3, hw⟩ := nv_let hw
  have hF : FM b σ3 := by rw [eσ3]; exact fm_A hF rfl
  exact ⟨_, hF, hw⟩
theorem nv_lpX10_isNext_9 {b : St} {u1 : Int32} {σ : St} {K62 : Int32 → Prop} (hF : FM b σ) : ∀ (n : Nat) (v2 : Int32), lpX10_isNext_9 u1 σ K62 n v2 → (∃ (y2 : Int32), K62 y2) := by
  intro n
  induction n with
  | zero => intro v2 hw; exact hw.elim
  | succ n ih =>
    intro v2 hw
    rw [lpX10_isNext_9] at hw
    rcases nv_brP hw with hw | hw
    · exact ⟨_, hw⟩
    · have hw := hw.2
      rcases nv_brP hw with hw | hw
      · have hw := hw _ rfl
        exact ih _ hw
      · have hw := hw.2
        obtain ⟨r3', hw⟩ := nvX10_has hw
        rcases nv_brP hw with hw | hw
        · have hw := hw _ rfl
          exact ih _ hw
        · have hw := hw.2
          have hw := hw.2
          rcases nv_brP hw with hw | hw
          · exact ⟨_, hw⟩
          · have hw := hw _ rfl
            exact ih _ hw
theorem nvX10_isNext {b : St} {σ0 : St} {a1 : Int32} {post : Int32 → St → Prop} (hF : FM b σ0) (hw : wX10_isNext σ0 a1 post) : (∃ (r : Int32) (s' : St), FM b s' ∧ post r s') := by
  unfold wX10_isNext at hw
  have hw := hw.2
  have hw := hw _ rfl
  obtain ⟨n8, hw⟩ := hw
  rcases nv_lpX10_isNext_9 hF _ _ hw with ⟨y6', hw⟩
  have hw := hw.2
  obtain ⟨σ7, eσ7, hw⟩ := nv_let hw
  have hF : FM b σ7 := by rw [eσ7]; exact fm_A hF rfl
  rcases nv_brP hw with hw | hw
  · exact ⟨_, _, hF, hw⟩
  · exact ⟨_, _, hF, hw⟩
theorem nv_lpX10_roles_143 {b : St} {u1 : Int32} {u3 : Int32} {K169 : St → Prop} : ∀ (n : Nat) (v6 : Int32) (σ : St), FM b σ → lpX10_roles_143 u1 u3 K169 n v6 σ → (∃ (s' : St), FM b s' ∧ K169 s') := by
  intro n
  induction n with
  | zero => intro v6 σ hF hw; exact hw.elim
  | succ n ih =>
    intro v6 σ hF hw
    rw [lpX10_roles_143] at hw
    rcases nv_brP hw with hw | hw
    · exact ⟨_, hF, hw⟩
    · have hw := hw.2
      have hw := hw.2
      obtain ⟨σ19, eσ19, hw⟩ := nv_let hw
      have hF : FM b σ19 := by rw [eσ19]; exact fm_A hF rfl
      have hw := hw _ rfl
      exact ih _ _ hF hw
theorem nv_lpX10_roles_58 {b : St} {u1 : Int32} {K200 : St → Prop} {post : Int32 → St → Prop} : ∀ (n : Nat) (v3 : Int32) (σ : St), FM b σ → lpX10_roles_58 u1 K200 post n v3 σ → (∃ (s' : St), FM b s' ∧ K200 s') ∨ (∃ (r : Int32) (s' : St), FM b s' ∧ post r s') := by
  intro n
  induction n with
  | zero => intro v3 σ hF hw; exact hw.elim
  | succ n ih =>
    intro v3 σ hF hw
    rw [lpX10_roles_58] at hw
    rcases nv_brP hw with hw | hw
    · exact Or.inl ⟨_, hF, hw⟩
    · obtain ⟨r9', σ10', hF, hw⟩ := nvX10_isNext hF hw
      rcases nv_brN hw with hw | hw
      · rcases nv_brN hw with hw | hw
        · obtain ⟨σ11, eσ11, hw⟩ := nv_let hw
          have hF : FM b σ11 := by rw [eσ11]; exact fm_S hF rfl
          obtain ⟨r12', hw⟩ := nvX10_open hw
          rcases nv_brP hw with hw | hw
          · rcases nv_brP hw with hw | hw
            · exact ih _ _ hF hw
            · rcases nv_brP hw with hw | hw
              · exact ih _ _ hF hw
              · have hw := hw _ rfl
                obtain ⟨σ14', hF, hw⟩ := nvX10_level hF hw
                exact ih _ _ hF hw
          · rcases nv_brP hw with hw | hw
            · rcases nv_brP hw with hw | hw
              · exact ih _ _ hF hw
              · rcases nv_brP hw with hw | hw
                · exact ih _ _ hF hw
                · have hw := hw _ rfl
                  obtain ⟨σ16', hF, hw⟩ := nvX10_level hF hw
                  exact ih _ _ hF hw
            · obtain ⟨σ17, eσ17, hw⟩ := nv_let hw
              have hF : FM b σ17 := by rw [eσ17]; exact fm_S hF rfl
              obtain ⟨σ18, eσ18, hw⟩ := nv_let hw
              have hF : FM b σ18 := by rw [eσ18]; exact fm_S hF rfl
              obtain ⟨n22, hw⟩ := hw
              rcases nv_lpX10_roles_143 _ _ _ hF hw with ⟨σ21', hF, hw⟩
              exact ih _ _ hF hw
        · obtain ⟨σ23, eσ23, hw⟩ := nv_let hw
          have hF : FM b σ23 := by rw [eσ23]; exact fm_S hF rfl
          exact Or.inr ⟨_, _, hF, hw⟩
      · have hw := hw _ rfl
        exact ih _ _ hF hw
theorem nvX10_roles {b : St} {σ0 : St} {a1 : Int32} {post : Int32 → St → Prop} (hF : FM b σ0) (hw : wX10_roles σ0 a1 post) : (∃ (r : Int32) (s' : St), FM b s' ∧ post r s') := by
  unfold wX10_roles at hw
  obtain ⟨r1', hw⟩ := nvX10_in hw
  rcases nv_brN hw with hw | hw
  · obtain ⟨r2', σ3', hF, hw⟩ := nvX10_setCandidates hF hw
    obtain ⟨σ4, eσ4, hw⟩ := nv_let hw
    have hF : FM b σ4 := by rw [eσ4]; exact fm_S hF rfl
    obtain ⟨σ5, eσ5, hw⟩ := nv_let hw
    have hF : FM b σ5 := by rw [eσ5]; exact fm_S hF rfl
    obtain ⟨σ6, eσ6, hw⟩ := nv_let hw
    have hF : FM b σ6 := by rw [eσ6]; exact fm_S hF rfl
    obtain ⟨r7', hw⟩ := nvX10_open hw
    rcases nv_brP hw with hw | hw
    · obtain ⟨σ8', hF, hw⟩ := nvX10_level hF hw
      obtain ⟨n26, hw⟩ := hw
      rcases nv_lpX10_roles_58 _ _ _ hF hw with ⟨σ25', hF, hw⟩ | ⟨r', s', hF, hw⟩
      · exact ⟨_, _, hF, hw⟩
      · exact ⟨_, _, hF, hw⟩
    · exact ⟨_, _, hF, hw⟩
  · exact ⟨_, _, hF, hw⟩
theorem nvX10_tries {σ0 : St} {post : Int32 → Prop} (hw : wX10_tries σ0 post) : (∃ r : Int32, post r) := by
  unfold wX10_tries at hw
  exact ⟨_, hw⟩
theorem nvX10_role {σ0 : St} {a1 : Int32} {post : Int32 → Prop} (hw : wX10_role σ0 a1 post) : (∃ r : Int32, post r) := by
  unfold wX10_role at hw
  obtain ⟨r1', hw⟩ := nvX10_in hw
  rcases nv_brP hw with hw | hw
  · exact ⟨_, hw⟩
  · have hw := hw.2
    exact ⟨_, hw⟩
theorem nv_lpX10_rolesOf_21 {u2 : Int32} {σ0 : St} {post : Int32 → Prop} : ∀ (n : Nat) (v3 : Int32) (v4 : Int32), lpX10_rolesOf_21 u2 σ0 post n v3 v4 → (∃ r : Int32, post r) := by
  intro n
  induction n with
  | zero => intro v3 v4 hw; exact hw.elim
  | succ n ih =>
    intro v3 v4 hw
    rw [lpX10_rolesOf_21] at hw
    rcases nv_brP hw with hw | hw
    · exact ⟨_, hw⟩
    · have hw := hw.2
      rcases nv_brN hw with hw | hw
      · have hw := hw _ rfl
        have hw := hw _ rfl
        exact ih _ _ hw
      · have hw := hw _ rfl
        have hw := hw _ rfl
        exact ih _ _ hw
theorem nvX10_rolesOf {σ0 : St} {a1 : Int32} {post : Int32 → Prop} (hw : wX10_rolesOf σ0 a1 post) : (∃ r : Int32, post r) := by
  unfold wX10_rolesOf at hw
  obtain ⟨r1', hw⟩ := nvX10_isPerson hw
  rcases nv_brN hw with hw | hw
  · obtain ⟨r2', hw⟩ := nvX10_keptOf hw
    obtain ⟨n7, hw⟩ := hw
    rcases nv_lpX10_rolesOf_21 _ _ _ hw with ⟨r', hw⟩
    exact ⟨_, hw⟩
  · exact ⟨_, hw⟩
theorem nv_lpX10_exceptionsTo_5 {u1 : Int32} {u2 : Int32} {σ0 : St} {post : Int32 → Prop} : ∀ (n : Nat) (v3 : Int32) (v4 : Int32), lpX10_exceptionsTo_5 u1 u2 σ0 post n v3 v4 → (∃ r : Int32, post r) := by
  intro n
  induction n with
  | zero => intro v3 v4 hw; exact hw.elim
  | succ n ih =>
    intro v3 v4 hw
    rw [lpX10_exceptionsTo_5] at hw
    rcases nv_brP hw with hw | hw
    · exact ⟨_, hw⟩
    · have hw := hw.2
      rcases nv_brN hw with hw | hw
      · have hw := hw.2
        obtain ⟨r1', hw⟩ := nvX10_has hw
        rcases nv_brP hw with hw | hw
        · have hw := hw _ rfl
          have hw := hw _ rfl
          exact ih _ _ hw
        · have hw := hw _ rfl
          have hw := hw _ rfl
          exact ih _ _ hw
      · have hw := hw.2
        obtain ⟨r6', hw⟩ := nvX10_has hw
        rcases nv_brP hw with hw | hw
        · have hw := hw _ rfl
          have hw := hw _ rfl
          exact ih _ _ hw
        · have hw := hw _ rfl
          have hw := hw _ rfl
          exact ih _ _ hw
theorem nvX10_exceptionsTo {σ0 : St} {a1 : Int32} {a2 : Int32} {post : Int32 → Prop} (hw : wX10_exceptionsTo σ0 a1 a2 post) : (∃ r : Int32, post r) := by
  unfold wX10_exceptionsTo at hw
  obtain ⟨n11, hw⟩ := hw
  rcases nv_lpX10_exceptionsTo_5 _ _ _ hw with ⟨r', hw⟩
  exact ⟨_, hw⟩
theorem nv_lpX10_marksOf_23 {b : St} {u1 : Int32} {σ : St} {K84 : Int32 → Prop} (hF : FM b σ) : ∀ (n : Nat) (v2 : Int32) (v3 : Int32), lpX10_marksOf_23 u1 σ K84 n v2 v3 → (∃ (y2 : Int32), K84 y2) := by
  intro n
  induction n with
  | zero => intro v2 v3 hw; exact hw.elim
  | succ n ih =>
    intro v2 v3 hw
    rw [lpX10_marksOf_23] at hw
    rcases nv_brP hw with hw | hw
    · exact ⟨_, hw⟩
    · obtain ⟨r2', hw⟩ := nvX10_exceptionsTo hw
      obtain ⟨r3', hw⟩ := nvX10_bits hw
      obtain ⟨r4', hw⟩ := nvX10_exceptionsTo hw
      obtain ⟨r5', hw⟩ := nvX10_bits hw
      have hw := hw _ rfl
      rcases nv_brP hw with hw | hw
      · have hw := hw _ rfl
        exact ih _ _ hw
      · rcases nv_brN hw with hw | hw
        · have hw := hw _ rfl
          exact ih _ _ hw
        · obtain ⟨r9', hw⟩ := nvX10_bits hw
          obtain ⟨r10', hw⟩ := nvX10_bits hw
          rcases nv_brP hw with hw | hw
          · have hw := hw _ rfl
            exact ih _ _ hw
          · have hw := hw _ rfl
            exact ih _ _ hw
theorem nvX10_marksOf {b : St} {σ0 : St} {a1 : Int32} {post : Int32 → St → Prop} (hF : FM b σ0) (hw : wX10_marksOf σ0 a1 post) : (∃ (r : Int32) (s' : St), FM b s' ∧ post r s') := by
  unfold wX10_marksOf at hw
  obtain ⟨r1', hw⟩ := nvX10_isRight hw
  rcases nv_brN hw with hw | hw
  · rcases nv_brN hw with hw | hw
    · obtain ⟨n17, hw⟩ := hw
      rcases nv_lpX10_marksOf_23 hF _ _ _ hw with ⟨y13', hw⟩
      obtain ⟨r14', hw⟩ := nvX10_exceptionsTo hw
      obtain ⟨r15', hw⟩ := nvX10_bits hw
      obtain ⟨σ16, eσ16, hw⟩ := nv_let hw
      have hF : FM b σ16 := by rw [eσ16]; exact fm_S hF rfl
      exact ⟨_, _, hF, hw⟩
    · exact ⟨_, _, hF, hw⟩
  · exact ⟨_, _, hF, hw⟩
theorem nvX10_exceptions {σ0 : St} {a1 : Int32} {a2 : Int32} {post : Int32 → Prop} (hw : wX10_exceptions σ0 a1 a2 post) : (∃ r : Int32, post r) := by
  unfold wX10_exceptions at hw
  obtain ⟨r1', hw⟩ := nvX10_isRight hw
  rcases nv_brP hw with hw | hw
  · exact ⟨_, hw⟩
  · obtain ⟨r2', hw⟩ := nvX10_in hw
    rcases nv_brP hw with hw | hw
    · exact ⟨_, hw⟩
    · obtain ⟨r3', hw⟩ := nvX10_exceptionsTo hw
      exact ⟨_, hw⟩
theorem nv_lpX10_isBad_4 {u1 : Int32} {σ0 : St} {post : Int32 → Prop} : ∀ (n : Nat) (v2 : Int32) (v3 : Int32), lpX10_isBad_4 u1 σ0 post n v2 v3 → (∃ r : Int32, post r) := by
  intro n
  induction n with
  | zero => intro v2 v3 hw; exact hw.elim
  | succ n ih =>
    intro v2 v3 hw
    rw [lpX10_isBad_4] at hw
    rcases nv_brP hw with hw | hw
    · have hw := hw.2
      exact ⟨_, hw⟩
    · rcases nv_brN hw with hw | hw
      · have hw := hw _ rfl
        exact ih _ _ hw
      · obtain ⟨r2', hw⟩ := nvX10_has hw
        rcases nv_brP hw with hw | hw
        · have hw := hw _ rfl
          exact ih _ _ hw
        · have hw := hw.2
          rcases nv_brP hw with hw | hw
          · have hw := hw _ rfl
            exact ih _ _ hw
          · have hw := hw _ rfl
            exact ih _ _ hw
theorem nvX10_isBad {σ0 : St} {a1 : Int32} {post : Int32 → Prop} (hw : wX10_isBad σ0 a1 post) : (∃ r : Int32, post r) := by
  unfold wX10_isBad at hw
  obtain ⟨n6, hw⟩ := hw
  rcases nv_lpX10_isBad_4 _ _ _ hw with ⟨r', hw⟩
  exact ⟨_, hw⟩
theorem nv_lpX10_breach_4 {σ0 : St} {post : Int32 → Prop} : ∀ (n : Nat) (v1 : Int32) (v2 : Int32), lpX10_breach_4 σ0 post n v1 v2 → (∃ r : Int32, post r) := by
  intro n
  induction n with
  | zero => intro v1 v2 hw; exact hw.elim
  | succ n ih =>
    intro v1 v2 hw
    rw [lpX10_breach_4] at hw
    rcases nv_brP hw with hw | hw
    · exact ⟨_, hw⟩
    · have hw := hw.2
      obtain ⟨r1', hw⟩ := nvX10_isBad hw
      rcases nv_brP hw with hw | hw
      · have hw := hw _ rfl
        have hw := hw _ rfl
        exact ih _ _ hw
      · have hw := hw _ rfl
        have hw := hw _ rfl
        exact ih _ _ hw
theorem nvX10_breach {σ0 : St} {post : Int32 → Prop} (hw : wX10_breach σ0 post) : (∃ r : Int32, post r) := by
  unfold wX10_breach at hw
  obtain ⟨n6, hw⟩ := hw
  rcases nv_lpX10_breach_4 _ _ _ hw with ⟨r', hw⟩
  exact ⟨_, hw⟩
theorem nv_lpX10_least_26 {u1 : Int32} {u2 : Int32} {σ0 : St} {post : Int32 → Prop} : ∀ (n : Nat) (v3 : Int32) (v4 : Int32), lpX10_least_26 u1 u2 σ0 post n v3 v4 → (∃ r : Int32, post r) := by
  intro n
  induction n with
  | zero => intro v3 v4 hw; exact hw.elim
  | succ n ih =>
    intro v3 v4 hw
    rw [lpX10_least_26] at hw
    rcases nv_brP hw with hw | hw
    · exact ⟨_, hw⟩
    · have hw := hw.2
      rcases nv_brN hw with hw | hw
      · have hw := hw _ rfl
        exact ih _ _ hw
      · have hw := hw.2
        obtain ⟨r5', hw⟩ := nvX10_isBad hw
        rcases nv_brN hw with hw | hw
        · have hw := hw _ rfl
          exact ih _ _ hw
        · obtain ⟨r7', hw⟩ := nvX10_bits hw
          obtain ⟨r8', hw⟩ := nvX10_bits hw
          have hw := hw _ rfl
          obtain ⟨r10', hw⟩ := nvX10_bits hw
          obtain ⟨r11', hw⟩ := nvX10_bits hw
          have hw := hw _ rfl
          rcases nv_brP hw with hw | hw
          · have hw := hw _ rfl
            exact ih _ _ hw
          · rcases nv_brN hw with hw | hw
            · have hw := hw _ rfl
              exact ih _ _ hw
            · rcases nv_brP hw with hw | hw
              · have hw := hw _ rfl
                exact ih _ _ hw
              · rcases nv_brN hw with hw | hw
                · have hw := hw _ rfl
                  exact ih _ _ hw
                · rcases nv_brP hw with hw | hw
                  · have hw := hw _ rfl
                    exact ih _ _ hw
                  · have hw := hw _ rfl
                    exact ih _ _ hw
theorem nvX10_least {σ0 : St} {a1 : Int32} {post : Int32 → Prop} (hw : wX10_least σ0 a1 post) : (∃ r : Int32, post r) := by
  unfold wX10_least at hw
  obtain ⟨r1', hw⟩ := nvX10_isPerson hw
  rcases nv_brN hw with hw | hw
  · obtain ⟨r2', hw⟩ := nvX10_keptOf hw
    have hw := hw.2
    have hw := hw _ rfl
    obtain ⟨n19, hw⟩ := hw
    rcases nv_lpX10_least_26 _ _ _ hw with ⟨r', hw⟩
    exact ⟨_, hw⟩
  · exact ⟨_, hw⟩
theorem nv_lpX10_badRole_2 {σ0 : St} {post : Int32 → Prop} : ∀ (n : Nat) (v1 : Int32), lpX10_badRole_2 σ0 post n v1 → (∃ r : Int32, post r) := by
  intro n
  induction n with
  | zero => intro v1 hw; exact hw.elim
  | succ n ih =>
    intro v1 hw
    rw [lpX10_badRole_2] at hw
    rcases nv_brP hw with hw | hw
    · exact ⟨_, hw⟩
    · have hw := hw.2
      obtain ⟨r1', hw⟩ := nvX10_isBad hw
      rcases nv_brP hw with hw | hw
      · have hw := hw _ rfl
        exact ih _ hw
      · exact ⟨_, hw⟩
theorem nvX10_badRole {σ0 : St} {post : Int32 → Prop} (hw : wX10_badRole σ0 post) : (∃ r : Int32, post r) := by
  unfold wX10_badRole at hw
  obtain ⟨n3, hw⟩ := hw
  rcases nv_lpX10_badRole_2 _ _ hw with ⟨r', hw⟩
  exact ⟨_, hw⟩
theorem nv_lpX10_plan_12 {b : St} {u1 : Int32} {post : Int32 → St → Prop} : ∀ (n : Nat) (v2 : Int32) (v3 : Int32) (σ : St), FM b σ → lpX10_plan_12 u1 post n v2 v3 σ → (∃ (r : Int32) (s' : St), FM b s' ∧ post r s') := by
  intro n
  induction n with
  | zero => intro v2 v3 σ hF hw; exact hw.elim
  | succ n ih =>
    intro v2 v3 σ hF hw
    rw [lpX10_plan_12] at hw
    rcases nv_brP hw with hw | hw
    · exact ⟨_, _, hF, hw⟩
    · rcases nv_brP hw with hw | hw
      · have hw := hw.2
        have hw := hw.2
        obtain ⟨σ2, eσ2, hw⟩ := nv_let hw
        have hF : FM b σ2 := by rw [eσ2]; exact fm_A hF rfl
        have hw := hw.2
        obtain ⟨r3', hw⟩ := nvX10_bits hw
        have hw := hw _ rfl
        have hw := hw _ rfl
        exact ih _ _ _ hF hw
      · obtain ⟨r6', hw⟩ := nvX10_keptOf hw
        have hw := hw.2
        obtain ⟨σ7, eσ7, hw⟩ := nv_let hw
        have hF : FM b σ7 := by rw [eσ7]; exact fm_A hF rfl
        have hw := hw.2
        obtain ⟨r8', hw⟩ := nvX10_bits hw
        have hw := hw _ rfl
        have hw := hw _ rfl
        exact ih _ _ _ hF hw
theorem nvX10_plan {b : St} {σ0 : St} {a1 : Int32} {post : Int32 → St → Prop} (hF : FM b σ0) (hw : wX10_plan σ0 a1 post) : (∃ (r : Int32) (s' : St), FM b s' ∧ post r s') := by
  unfold wX10_plan at hw
  obtain ⟨σ1, eσ1, hw⟩ := nv_let hw
  have hF : FM b σ1 := by rw [eσ1]; exact fm_S hF rfl
  obtain ⟨n11, hw⟩ := hw
  rcases nv_lpX10_plan_12 _ _ _ _ hF hw with ⟨r', s', hF, hw⟩
  exact ⟨_, _, hF, hw⟩
theorem nvX10_takeOut {b : St} {σ0 : St} {a1 : Int32} {a2 : Int32} {post : Int32 → St → Prop} (hF : FM b σ0) (hw : wX10_takeOut σ0 a1 a2 post) : (∃ (r : Int32) (s' : St), FM b s' ∧ post r s') := by
  unfold wX10_takeOut at hw
  obtain ⟨r1', hw⟩ := nvX10_isPerson hw
  rcases nv_brP hw with hw | hw
  · exact ⟨_, _, hF, hw⟩
  · obtain ⟨r2', hw⟩ := nvX10_isRight hw
    rcases nv_brP hw with hw | hw
    · exact ⟨_, _, hF, hw⟩
    · rcases nv_brP hw with hw | hw
      · rcases nv_brP hw with hw | hw
        · have hw := hw.2
          obtain ⟨r3', hw⟩ := nvX10_has hw
          rcases nv_brP hw with hw | hw
          · have hw := hw.2
            have hw := hw.2
            obtain ⟨σ4, eσ4, hw⟩ := nv_let hw
            have hF : FM b σ4 := by rw [eσ4]; exact fm_A hF rfl
            exact ⟨_, _, hF, hw⟩
          · have hw := hw.2
            have hw := hw.2
            obtain ⟨σ5, eσ5, hw⟩ := nv_let hw
            have hF : FM b σ5 := by rw [eσ5]; exact fm_A hF rfl
            exact ⟨_, _, hF, hw⟩
        · exact ⟨_, _, hF, hw⟩
      · rcases nv_brP hw with hw | hw
        · rcases nv_brP hw with hw | hw
          · have hw := hw.2
            obtain ⟨r6', hw⟩ := nvX10_has hw
            rcases nv_brP hw with hw | hw
            · have hw := hw.2
              have hw := hw.2
              obtain ⟨σ7, eσ7, hw⟩ := nv_let hw
              have hF : FM b σ7 := by rw [eσ7]; exact fm_A hF rfl
              exact ⟨_, _, hF, hw⟩
            · have hw := hw.2
              have hw := hw.2
              obtain ⟨σ8, eσ8, hw⟩ := nv_let hw
              have hF : FM b σ8 := by rw [eσ8]; exact fm_A hF rfl
              exact ⟨_, _, hF, hw⟩
          · exact ⟨_, _, hF, hw⟩
        · exact ⟨_, _, hF, hw⟩
theorem nvX10_isStopped {σ0 : St} {a1 : Int32} {a2 : Int32} {post : Int32 → Prop} (hw : wX10_isStopped σ0 a1 a2 post) : (∃ r : Int32, post r) := by
  unfold wX10_isStopped at hw
  have hw := hw.2
  have hw := hw _ rfl
  have hw := hw.2
  rcases nv_brP hw with hw | hw
  · exact ⟨_, hw⟩
  · rcases nv_brP hw with hw | hw
    · exact ⟨_, hw⟩
    · have hw := hw.2
      have hw := hw.2
      obtain ⟨r2', hw⟩ := nvX10_has hw
      rcases nv_brN hw with hw | hw
      · exact ⟨_, hw⟩
      · exact ⟨_, hw⟩
theorem nv_lpX10_stopped_27 {u1 : Int32} {σ0 : St} {post : Int32 → Prop} : ∀ (n : Nat) (v2 : Int32) (v3 : Int32), lpX10_stopped_27 u1 σ0 post n v2 v3 → (∃ r : Int32, post r) := by
  intro n
  induction n with
  | zero => intro v2 v3 hw; exact hw.elim
  | succ n ih =>
    intro v2 v3 hw
    rw [lpX10_stopped_27] at hw
    rcases nv_brP hw with hw | hw
    · exact ⟨_, hw⟩
    · obtain ⟨r2', hw⟩ := nvX10_isStopped hw
      rcases nv_brP hw with hw | hw
      · have hw := hw _ rfl
        have hw := hw _ rfl
        exact ih _ _ hw
      · have hw := hw _ rfl
        have hw := hw _ rfl
        exact ih _ _ hw
theorem nvX10_stopped {σ0 : St} {a1 : Int32} {post : Int32 → Prop} (hw : wX10_stopped σ0 a1 post) : (∃ r : Int32, post r) := by
  unfold wX10_stopped at hw
  obtain ⟨r1', hw⟩ := nvX10_in hw
  rcases nv_brN hw with hw | hw
  · rcases nv_brP hw with hw | hw
    · obtain ⟨n7, hw⟩ := hw
      rcases nv_lpX10_stopped_27 _ _ _ hw with ⟨r', hw⟩
      exact ⟨_, hw⟩
    · exact ⟨_, hw⟩
  · exact ⟨_, hw⟩
theorem nv_lpX10_stop_29 {u1 : Int32} {σ0 : St} {post : Int32 → Prop} : ∀ (n : Nat) (v3 : Int32), lpX10_stop_29 u1 σ0 post n v3 → (∃ r : Int32, post r) := by
  intro n
  induction n with
  | zero => intro v3 hw; exact hw.elim
  | succ n ih =>
    intro v3 hw
    rw [lpX10_stop_29] at hw
    rcases nv_brP hw with hw | hw
    · exact ⟨_, hw⟩
    · obtain ⟨r2', hw⟩ := nvX10_isStopped hw
      rcases nv_brP hw with hw | hw
      · have hw := hw _ rfl
        exact ih _ hw
      · exact ⟨_, hw⟩
theorem nvX10_stop {σ0 : St} {a1 : Int32} {a2 : Int32} {post : Int32 → Prop} (hw : wX10_stop σ0 a1 a2 post) : (∃ r : Int32, post r) := by
  unfold wX10_stop at hw
  obtain ⟨r1', hw⟩ := nvX10_in hw
  rcases nv_brP hw with hw | hw
  · exact ⟨_, hw⟩
  · rcases nv_brP hw with hw | hw
    · rcases nv_brP hw with hw | hw
      · obtain ⟨n4, hw⟩ := hw
        rcases nv_lpX10_stop_29 _ _ hw with ⟨r', hw⟩
        exact ⟨_, hw⟩
      · exact ⟨_, hw⟩
    · exact ⟨_, hw⟩
theorem nvX10_used {σ0 : St} {a1 : Int32} {a2 : Int32} {post : Int32 → Prop} (hw : wX10_used σ0 a1 a2 post) : (∃ r : Int32, post r) := by
  unfold wX10_used at hw
  obtain ⟨r1', hw⟩ := nvX10_in hw
  rcases nv_brP hw with hw | hw
  · exact ⟨_, hw⟩
  · obtain ⟨r2', hw⟩ := nvX10_in hw
    rcases nv_brN hw with hw | hw
    · rcases nv_brN hw with hw | hw
      · rcases nv_brN hw with hw | hw
        · have hw := hw.2
          exact ⟨_, hw⟩
        · have hw := hw.2
          exact ⟨_, hw⟩
      · have hw := hw.2
        exact ⟨_, hw⟩
    · exact ⟨_, hw⟩
theorem nv_lpX10_apply_18 {b : St} {post : Int32 → St → Prop} : ∀ (n : Nat) (v1 : Int32) (v2 : Int32) (σ : St), FM b σ → lpX10_apply_18 post n v1 v2 σ → (∃ (r : Int32) (s' : St), FM b s' ∧ post r s') := by
  intro n
  induction n with
  | zero => intro v1 v2 σ hF hw; exact hw.elim
  | succ n ih =>
    intro v1 v2 σ hF hw
    rw [lpX10_apply_18] at hw
    rcases nv_brP hw with hw | hw
    · exact ⟨_, _, hF, hw⟩
    · have hw := hw.2
      obtain ⟨r1', σ2', hF, hw⟩ := nvX10_strikeBut hF hw
      have hw := hw _ rfl
      have hw := hw.2
      obtain ⟨r4', σ5', hF, hw⟩ := nvX10_give hF hw
      have hw := hw _ rfl
      exact ih _ _ _ hF hw
theorem nvX10_apply {b : St} {σ0 : St} {post : Int32 → St → Prop} (hF : FM b σ0) (hw : wX10_apply σ0 post) : (∃ (r : Int32) (s' : St), FM b s' ∧ post r s') := by
  unfold wX10_apply at hw
  rcases nv_brP hw with hw | hw
  · obtain ⟨n7, hw⟩ := hw
    rcases nv_lpX10_apply_18 _ _ _ _ hF hw with ⟨r', s', hF, hw⟩
    exact ⟨_, _, hF, hw⟩
  · exact ⟨_, _, hF, hw⟩
theorem nvX10_isSheet {a0 : Int32} {post : Int32 → Prop} (hw : wX10_isSheet a0 post) : (∃ r : Int32, post r) := by
  unfold wX10_isSheet at hw
  obtain ⟨r1', hw⟩ := nvX10_in hw
  have hw := hw.2
  exact ⟨_, hw⟩
theorem nv_lpX10_save_53 {b : St} {u1 : Int32} {u2 : Int32} {post : Int32 → St → Prop} : ∀ (n : Nat) (v3 : Int32) (σ : St), FM b σ → lpX10_save_53 u1 u2 post n v3 σ → (∃ (r : Int32) (s' : St), FM b s' ∧ post r s') := by
  intro n
  induction n with
  | zero => intro v3 σ hF hw; exact hw.elim
  | succ n ih =>
    intro v3 σ hF hw
    rw [lpX10_save_53] at hw
    rcases nv_brP hw with hw | hw
    · exact ⟨_, _, hF, hw⟩
    · have hw := hw.2
      have hw := hw.2
      obtain ⟨σ3, eσ3, hw⟩ := nv_let hw
      have hF : FM b σ3 := by rw [eσ3]; exact fm_A hF rfl
      have hw := hw _ rfl
      exact ih _ _ hF hw
theorem nvX10_save {b : St} {σ0 : St} {a1 : Int32} {post : Int32 → St → Prop} (hF : FM b σ0) (hw : wX10_save σ0 a1 post) : (∃ (r : Int32) (s' : St), FM b s' ∧ post r s') := by
  unfold wX10_save at hw
  obtain ⟨r1', hw⟩ := nvX10_isSheet hw
  rcases nv_brN hw with hw | hw
  · have hw := hw.2
    rcases nv_brP hw with hw | hw
    · have hw := hw.2
      rcases nv_brP hw with hw | hw
      · have hw := hw.2
        have hw := hw _ rfl
        obtain ⟨n5, hw⟩ := hw
        rcases nv_lpX10_save_53 _ _ _ hF hw with ⟨r', s', hF, hw⟩
        exact ⟨_, _, hF, hw⟩
      · have hw := hw _ rfl
        obtain ⟨n7, hw⟩ := hw
        rcases nv_lpX10_save_53 _ _ _ hF hw with ⟨r', s', hF, hw⟩
        exact ⟨_, _, hF, hw⟩
    · obtain ⟨r8', σ9', hF, hw⟩ := nvX10_meets hF hw
      exact ⟨_, _, hF, hw⟩
  · exact ⟨_, _, hF, hw⟩
theorem nvX10_load {b : St} {σ0 : St} {a1 : Int32} {a2 : Int32} {a3 : Int32} {post : Int32 → St → Prop} (hF : FM b σ0) (hw : wX10_load σ0 a1 a2 a3 post) : (∃ (r : Int32) (s' : St), FM b s' ∧ post r s') := by
  unfold wX10_load at hw
  obtain ⟨r1', hw⟩ := nvX10_isSheet hw
  rcases nv_brP hw with hw | hw
  · exact ⟨_, _, hF, hw⟩
  · obtain ⟨r2', hw⟩ := nvX10_isPerson hw
    rcases nv_brN hw with hw | hw
    · have hw := hw.2
      rcases nv_brP hw with hw | hw
      · have hw := hw.2
        obtain ⟨r3', hw⟩ := nvX10_in hw
        rcases nv_brN hw with hw | hw
        · have hw := hw.2
          obtain ⟨r4', σ5', hF, hw⟩ := nvX10_give hF hw
          exact ⟨_, _, hF, hw⟩
        · obtain ⟨r6', σ7', hF, hw⟩ := nvX10_meets hF hw
          exact ⟨_, _, hF, hw⟩
      · obtain ⟨r8', σ9', hF, hw⟩ := nvX10_meets hF hw
        exact ⟨_, _, hF, hw⟩
    · exact ⟨_, _, hF, hw⟩
theorem nv_lpX10_copy_104 {b : St} {u1 : Int32} {u2 : Int32} {u3 : Int32} {u4 : Int32} {u5 : Int32} {K138 : St → Prop} : ∀ (n : Nat) (v6 : Int32) (σ : St), FM b σ → lpX10_copy_104 u1 u2 u3 u4 u5 K138 n v6 σ → (∃ (s' : St), FM b s' ∧ K138 s') := by
  intro n
  induction n with
  | zero => intro v6 σ hF hw; exact hw.elim
  | succ n ih =>
    intro v6 σ hF hw
    rw [lpX10_copy_104] at hw
    rcases nv_brP hw with hw | hw
    · exact ⟨_, hF, hw⟩
    · have hw := hw.2
      have hw := hw.2
      obtain ⟨σ11, eσ11, hw⟩ := nv_let hw
      have hF : FM b σ11 := by rw [eσ11]; exact fm_A hF rfl
      have hw := hw _ rfl
      exact ih _ _ hF hw
theorem nv_lpX10_copy_141 {b : St} {u3 : Int32} {u4 : Int32} {u5 : Int32} {post : Int32 → St → Prop} : ∀ (n : Nat) (v6 : Int32) (σ : St), FM b σ → lpX10_copy_141 u3 u4 u5 post n v6 σ → (∃ (r : Int32) (s' : St), FM b s' ∧ post r s') := by
  intro n
  induction n with
  | zero => intro v6 σ hF hw; exact hw.elim
  | succ n ih =>
    intro v6 σ hF hw
    rw [lpX10_copy_141] at hw
    rcases nv_brP hw with hw | hw
    · exact ⟨_, _, hF, hw⟩
    · have hw := hw.2
      have hw := hw.2
      obtain ⟨σ14, eσ14, hw⟩ := nv_let hw
      have hF : FM b σ14 := by rw [eσ14]; exact fm_A hF rfl
      have hw := hw _ rfl
      exact ih _ _ hF hw
theorem nvX10_copy {b : St} {σ0 : St} {a1 : Int32} {a2 : Int32} {a3 : Int32} {a4 : Int32} {a5 : Int32} {post : Int32 → St → Prop} (hF : FM b σ0) (hw : wX10_copy σ0 a1 a2 a3 a4 a5 post) : (∃ (r : Int32) (s' : St), FM b s' ∧ post r s') := by
  unfold wX10_copy at hw
  obtain ⟨r1', hw⟩ := nvX10_isSheet hw
  rcases nv_brP hw with hw | hw
  · exact ⟨_, _, hF, hw⟩
  · obtain ⟨r2', hw⟩ := nvX10_isSheet hw
    rcases nv_brN hw with hw | hw
    · rcases nv_brP hw with hw | hw
      · have hw := hw.2
        rcases nv_brP hw with hw | hw
        · obtain ⟨r3', σ4', hF, hw⟩ := nvX10_meets hF hw
          exact ⟨_, _, hF, hw⟩
        · have hw := hw.2
          rcases nv_brP hw with hw | hw
          · rcases nv_brP hw with hw | hw
            · obtain ⟨r5', σ6', hF, hw⟩ := nvX10_meets hF hw
              exact ⟨_, _, hF, hw⟩
            · rcases nv_brP hw with hw | hw
              · obtain ⟨r7', σ8', hF, hw⟩ := nvX10_meets hF hw
                exact ⟨_, _, hF, hw⟩
              · have hw := hw.2
                rcases nv_brP hw with hw | hw
                · obtain ⟨r9', σ10', hF, hw⟩ := nvX10_meets hF hw
                  exact ⟨_, _, hF, hw⟩
                · have hw := hw.2
                  rcases nv_brP hw with hw | hw
                  · obtain ⟨n17, hw⟩ := hw
                    rcases nv_lpX10_copy_104 _ _ _ hF hw with ⟨σ13', hF, hw⟩
                    obtain ⟨n16, hw⟩ := hw
                    rcases nv_lpX10_copy_141 _ _ _ hF hw with ⟨r', s', hF, hw⟩
                    exact ⟨_, _, hF, hw⟩
                  · obtain ⟨r18', σ19', hF, hw⟩ := nvX10_meets hF hw
                    exact ⟨_, _, hF, hw⟩
          · obtain ⟨r20', σ21', hF, hw⟩ := nvX10_meets hF hw
            exact ⟨_, _, hF, hw⟩
      · obtain ⟨r22', σ23', hF, hw⟩ := nvX10_meets hF hw
        exact ⟨_, _, hF, hw⟩
    · exact ⟨_, _, hF, hw⟩
theorem nvX10_asked {σ0 : St} {post : Int32 → Prop} (hw : wX10_asked σ0 post) : (∃ r : Int32, post r) := by
  unfold wX10_asked at hw
  exact ⟨_, hw⟩
theorem nv_lpX10_count_57 {σ0 : St} {post : Int32 → Prop} : ∀ (n : Nat) (v2 : Int32) (v3 : Int32), lpX10_count_57 σ0 post n v2 v3 → (∃ r : Int32, post r) := by
  intro n
  induction n with
  | zero => intro v2 v3 hw; exact hw.elim
  | succ n ih =>
    intro v2 v3 hw
    rw [lpX10_count_57] at hw
    rcases nv_brP hw with hw | hw
    · exact ⟨_, hw⟩
    · have hw := hw.2
      obtain ⟨r1', hw⟩ := nvX10_bits hw
      have hw := hw _ rfl
      have hw := hw _ rfl
      exact ih _ _ hw
theorem nv_lpX10_count_87 {σ0 : St} {post : Int32 → Prop} : ∀ (n : Nat) (v2 : Int32) (v3 : Int32), lpX10_count_87 σ0 post n v2 v3 → (∃ r : Int32, post r) := by
  intro n
  induction n with
  | zero => intro v2 v3 hw; exact hw.elim
  | succ n ih =>
    intro v2 v3 hw
    rw [lpX10_count_87] at hw
    rcases nv_brP hw with hw | hw
    · exact ⟨_, hw⟩
    · obtain ⟨r5', hw⟩ := nvX10_keptOf hw
      obtain ⟨r6', hw⟩ := nvX10_bits hw
      have hw := hw _ rfl
      have hw := hw _ rfl
      exact ih _ _ hw
theorem nv_lpX10_count_116 {σ0 : St} {K140 : Int32 → Prop} : ∀ (n : Nat) (v2 : Int32) (v3 : Int32), lpX10_count_116 σ0 K140 n v2 v3 → (∃ (y2 : Int32), K140 y2) := by
  intro n
  induction n with
  | zero => intro v2 v3 hw; exact hw.elim
  | succ n ih =>
    intro v2 v3 hw
    rw [lpX10_count_116] at hw
    rcases nv_brP hw with hw | hw
    · exact ⟨_, hw⟩
    · have hw := hw.2
      obtain ⟨r10', hw⟩ := nvX10_bits hw
      have hw := hw _ rfl
      have hw := hw _ rfl
      exact ih _ _ hw
theorem nvX10_count {σ0 : St} {a1 : Int32} {post : Int32 → Prop} (hw : wX10_count σ0 a1 post) : (∃ r : Int32, post r) := by
  unfold wX10_count at hw
  rcases nv_brP hw with hw | hw
  · exact ⟨_, hw⟩
  · rcases nv_brP hw with hw | hw
    · exact ⟨_, hw⟩
    · rcases nv_brP hw with hw | hw
      · exact ⟨_, hw⟩
      · rcases nv_brP hw with hw | hw
        · obtain ⟨n4, hw⟩ := hw
          rcases nv_lpX10_count_57 _ _ _ hw with ⟨r', hw⟩
          exact ⟨_, hw⟩
        · rcases nv_brP hw with hw | hw
          · obtain ⟨n9, hw⟩ := hw
            rcases nv_lpX10_count_87 _ _ _ hw with ⟨r', hw⟩
            exact ⟨_, hw⟩
          · rcases nv_brP hw with hw | hw
            · obtain ⟨n14, hw⟩ := hw
              rcases nv_lpX10_count_116 _ _ _ hw with ⟨y13', hw⟩
              exact ⟨_, hw⟩
            · exact ⟨_, hw⟩
theorem nvX10_finding {σ0 : St} {post : Int32 → Prop} (hw : wX10_finding σ0 post) : (∃ r : Int32, post r) := by
  unfold wX10_finding at hw
  exact ⟨_, hw⟩
theorem nvX10_findings {σ0 : St} {a1 : Int32} {post : Int32 → Prop} (hw : wX10_findings σ0 a1 post) : (∃ r : Int32, post r) := by
  unfold wX10_findings at hw
  obtain ⟨r1', hw⟩ := nvX10_in hw
  rcases nv_brP hw with hw | hw
  · exact ⟨_, hw⟩
  · have hw := hw.2
    exact ⟨_, hw⟩
theorem nv_lpX10_digest_17 {u3 : Int32} {σ0 : St} {K44 : Int64 → Prop} : ∀ (n : Nat) (v1 : Int64) (v4 : Int32), lpX10_digest_17 u3 σ0 K44 n v1 v4 → (∃ (y1 : Int64), K44 y1) := by
  intro n
  induction n with
  | zero => intro v1 v4 hw; exact hw.elim
  | succ n ih =>
    intro v1 v4 hw
    rw [lpX10_digest_17] at hw
    rcases nv_brP hw with hw | hw
    · exact ⟨_, hw⟩
    · obtain ⟨r1', hw⟩ := nvX10_tells hw
      have hw := hw _ rfl
      have hw := hw _ rfl
      exact ih _ _ hw
theorem nv_lpX10_digest_6 {σ0 : St} {K50 : Int64 → Prop} : ∀ (n : Nat) (v1 : Int64) (v3 : Int32), lpX10_digest_6 σ0 K50 n v1 v3 → (∃ (y1 : Int64), K50 y1) := by
  intro n
  induction n with
  | zero => intro v1 v3 hw; exact hw.elim
  | succ n ih =>
    intro v1 v3 hw
    rw [lpX10_digest_6] at hw
    rcases nv_brP hw with hw | hw
    · exact ⟨_, hw⟩
    · obtain ⟨n6, hw⟩ := hw
      rcases nv_lpX10_digest_17 _ _ _ hw with ⟨y4', hw⟩
      have hw := hw _ rfl
      exact ih _ _ hw
theorem nv_lpX10_digest_74 {σ0 : St} {K126 : Int64 → Prop} : ∀ (n : Nat) (v1 : Int64) (v3 : Int32), lpX10_digest_74 σ0 K126 n v1 v3 → (∃ (y1 : Int64), K126 y1) := by
  intro n
  induction n with
  | zero => intro v1 v3 hw; exact hw.elim
  | succ n ih =>
    intro v1 v3 hw
    rw [lpX10_digest_74] at hw
    rcases nv_brP hw with hw | hw
    · exact ⟨_, hw⟩
    · have hw := hw.2
      have hw := hw.2
      have hw := hw.2
      have hw := hw _ rfl
      have hw := hw _ rfl
      exact ih _ _ hw
theorem nv_lpX10_digest_128 {σ0 : St} {K154 : Int64 → Prop} : ∀ (n : Nat) (v1 : Int64) (v3 : Int32), lpX10_digest_128 σ0 K154 n v1 v3 → (∃ (y1 : Int64), K154 y1) := by
  intro n
  induction n with
  | zero => intro v1 v3 hw; exact hw.elim
  | succ n ih =>
    intro v1 v3 hw
    rw [lpX10_digest_128] at hw
    rcases nv_brP hw with hw | hw
    · exact ⟨_, hw⟩
    · have hw := hw.2
      have hw := hw _ rfl
      have hw := hw _ rfl
      exact ih _ _ hw
theorem nv_lpX10_digest_191 {u3 : Int32} {σ0 : St} {K228 : Int64 → Prop} : ∀ (n : Nat) (v1 : Int64) (v4 : Int32), lpX10_digest_191 u3 σ0 K228 n v1 v4 → (∃ (y1 : Int64), K228 y1) := by
  intro n
  induction n with
  | zero => intro v1 v4 hw; exact hw.elim
  | succ n ih =>
    intro v1 v4 hw
    rw [lpX10_digest_191] at hw
    have hw := hw.2
    rcases nv_brP hw with hw | hw
    · exact ⟨_, hw⟩
    · have hw := hw.2
      have hw := hw _ rfl
      have hw := hw _ rfl
      exact ih _ _ hw
theorem nv_lpX10_digest_156 {σ0 : St} {K234 : Int64 → Prop} : ∀ (n : Nat) (v1 : Int64) (v3 : Int32), lpX10_digest_156 σ0 K234 n v1 v3 → (∃ (y1 : Int64), K234 y1) := by
  intro n
  induction n with
  | zero => intro v1 v3 hw; exact hw.elim
  | succ n ih =>
    intro v1 v3 hw
    rw [lpX10_digest_156] at hw
    rcases nv_brP hw with hw | hw
    · exact ⟨_, hw⟩
    · have hw := hw.2
      rcases nv_brP hw with hw | hw
      · have hw := hw.2
        have hw := hw _ rfl
        obtain ⟨n20, hw⟩ := hw
        rcases nv_lpX10_digest_191 _ _ _ hw with ⟨y18', hw⟩
        have hw := hw _ rfl
        exact ih _ _ hw
      · have hw := hw _ rfl
        obtain ⟨n24, hw⟩ := hw
        rcases nv_lpX10_digest_191 _ _ _ hw with ⟨y22', hw⟩
        have hw := hw _ rfl
        exact ih _ _ hw
theorem nvX10_digest {σ0 : St} {post : Int64 → Prop} (hw : wX10_digest σ0 post) : (∃ r : Int64, post r) := by
  unfold wX10_digest at hw
  obtain ⟨n29, hw⟩ := hw
  rcases nv_lpX10_digest_6 _ _ _ hw with ⟨y7', hw⟩
  have hw := hw _ rfl
  obtain ⟨n28, hw⟩ := hw
  rcases nv_lpX10_digest_74 _ _ _ hw with ⟨y11', hw⟩
  obtain ⟨n27, hw⟩ := hw
  rcases nv_lpX10_digest_128 _ _ _ hw with ⟨y14', hw⟩
  obtain ⟨n26, hw⟩ := hw
  rcases nv_lpX10_digest_156 _ _ _ hw with ⟨y25', hw⟩
  exact ⟨_, hw⟩
