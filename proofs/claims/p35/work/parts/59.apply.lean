/-! ===== pure: stop, apply ===== -/
theorem stop_find {σ τ : St} {u d m N : Nat} (hu : u ≤ 400) (u1 : σ.1 7 = nI u) (u2 : τ.1 7 = nI u) (d1 : σ.1 2 = nI d) (d2 : τ.1 6 = nI d) (h9 : d ≤ 999) (x3 : σ.1 13 = nI m) (x2 : τ.1 12 = nI m) (hm2 : m ≤ 10) (hN : N ≤ 1000)
    (hxl : ∀ k, k < u → (∃ p, p < 10 ∧ σ.2.1 6 k = nI p) ∧ (∃ r, r < 12 ∧ σ.2.1 7 k = nI r) ∧ ∃ e, e ≤ d ∧ σ.2.1 8 k = nI e) (hml : ∀ k, k < u → (∃ p, p < 10 ∧ τ.2.1 4 k = nI p) ∧ (∃ r, r < 12 ∧ τ.2.1 5 k = nI r) ∧ ∃ e, e ≤ d ∧ τ.2.1 6 k = nI e)
    (heq : ∀ k, stB (τ.2.1 4) (τ.2.1 5) (τ.2.1 6) (τ.2.1 15) m d N k = stB (σ.2.1 6) (σ.2.1 7) (σ.2.1 8) (σ.2.1 18) m d N k) :
    ∀ (j i : Nat), i + j = u → ∃ r : Int32, (∀ post : Int32 → Prop, post r → lpX9_stop_28 (nI N) σ post (j + 1) (nI i)) ∧ ∀ post : Int32 → Prop, post r → lpX10_stop_29 (nI N) τ post (j + 1) (nI i) := by
  intro j
  induction j with
  | zero =>
    intro i e
    have : i = u := by omega
    subst this
    refine ⟨-9, fun post hp => ?_, fun post hp => ?_⟩
    · rw [lpX9_stop_28, u1]; exact ⟨fun _ => hp, fun h => absurd (nI_le (Nat.le_refl i) (by omega)) h⟩
    · rw [lpX10_stop_29, u2]; exact ⟨fun _ => hp, fun h => absurd (nI_le (Nat.le_refl i) (by omega)) h⟩
  | succ j ih =>
    intro i e
    have hi : i < u := by omega
    cases es : stB (σ.2.1 6) (σ.2.1 7) (σ.2.1 8) (σ.2.1 18) m d N i
    · obtain ⟨r, h1, h2⟩ := ih (i + 1) (by omega)
      refine ⟨r, fun post hp => ?_, fun post hp => ?_⟩
      · rw [lpX9_stop_28, u1]
        refine ⟨fun h => absurd h (nI_ge hi (by omega)), fun _ => q_xstop hu d1 h9 x3 hm2 hN hi hxl ?_⟩
        rw [es]
        simp only [forall_eq, nI_1]
        exact ⟨fun _ => h1 post hp, fun h => absurd rfl h⟩
      · rw [lpX10_stop_29, u2]
        refine ⟨fun h => absurd h (nI_ge hi (by omega)), fun _ => q_mstop hu d2 h9 x2 hm2 hN hi hml ?_⟩
        rw [heq i, es]
        simp only [forall_eq, nI_1]
        exact ⟨fun _ => h2 post hp, fun h => absurd rfl h⟩
    · refine ⟨nI i, fun post hp => ?_, fun post hp => ?_⟩
      · rw [lpX9_stop_28, u1]
        refine ⟨fun h => absurd h (nI_ge hi (by omega)), fun _ => q_xstop hu d1 h9 x3 hm2 hN hi hxl ?_⟩
        rw [es]
        exact ⟨fun h => absurd h n10, fun _ => hp⟩
      · rw [lpX10_stop_29, u2]
        refine ⟨fun h => absurd h (nI_ge hi (by omega)), fun _ => q_mstop hu d2 h9 x2 hm2 hN hi hml ?_⟩
        rw [heq i, es]
        exact ⟨fun h => absurd h n10, fun _ => hp⟩
theorem pr_stop {σ τ : St} (hR : R_ok σ τ) (a b : Int32) : PairR (wX9_stop σ a b) (wX10_stop τ a b) := by
  obtain ⟨n, u, d, sp, se, gr, ha9⟩ := id hR
  have hxl := (R_xlog ha9).2.2.2.2.1.2.2
  have hml := (R_mlog ha9).2.2.2.2.1.2.2
  obtain ⟨⟨⟨h6, m1, hn⟩, ⟨u1, u2, hu⟩, ⟨d1, d2, hd⟩, hsc⟩, har, hpe, hus, hst, hro, hpl, hsh, hba⟩ := id ha9
  obtain ⟨_, _, _, _, a5, a6, a7, _⟩ := har
  rcases rg1 a (N := 1000) (by omega) with ⟨N, hN1, hN2, rfl⟩ | ha
  case inr =>
    refine ⟨-1, fun post hp => ?_, fun post hp => ?_⟩
    · exact q_noLast_bad ha ⟨fun _ => hp, fun h => absurd h n10⟩
    · exact q_in_bad ha ⟨fun _ => hp, fun h => absurd rfl h⟩
  have i1 : (1 : Int32) ≤ nI N := nI_le (a := 1) hN1 (by omega)
  have i2 : nI N ≤ (1000 : Int32) := nI_le (b := 1000) hN2 (by omega)
  by_cases hb : b < 0
  · have hb' : ¬ 0 ≤ b := Int32.not_le.mpr hb
    refine ⟨-1, fun post hp => ?_, fun post hp => ?_⟩
    · exact q_noLast_ok hN1 hN2 ⟨fun h => absurd rfl h, fun _ => ⟨fun h => absurd h hb', fun _ => hp⟩⟩
    · exact q_in_ok i1 i2 ⟨fun h => absurd h n10, fun _ => ⟨fun h => absurd h hb', fun _ => hp⟩⟩
  obtain ⟨i, hi, rfl⟩ := nI_of hb
  have b0 : (0 : Int32) ≤ nI i := le0 hi
  rcases hpl with ⟨x1, x2⟩ | ⟨x1, m, hm, x3, x2, hv⟩
  · refine ⟨-4, fun post hp => ?_, fun post hp => ?_⟩
    · exact q_noLast_ok hN1 hN2 ⟨fun h => absurd rfl h, fun _ => ⟨fun _ => ⟨fun h => absurd x1 h, fun _ => hp⟩, fun h => absurd b0 h⟩⟩
    · refine q_in_ok i1 i2 ⟨fun h => absurd h n10, fun _ => ⟨fun _ => ?_, fun h => absurd b0 h⟩⟩
      rw [x2]
      exact ⟨fun h => absurd h m9, fun _ => hp⟩
  have x10 : ¬ σ.1 12 = 0 := by rw [x1]; exact n10
  have go : ∀ r : Int32, (∀ post : Int32 → Prop, post r → ∃ n, lpX9_stop_28 (nI N) σ post n (nI i)) → (∀ post : Int32 → Prop, post r → ∃ n, lpX10_stop_29 (nI N) τ post n (nI i)) → PairR (wX9_stop σ (nI N) (nI i)) (wX10_stop τ (nI N) (nI i)) := by
    intro r h1 h2
    refine ⟨r, fun post hp => ?_, fun post hp => ?_⟩
    · exact q_noLast_ok hN1 hN2 ⟨fun h => absurd rfl h, fun _ => ⟨fun _ => ⟨fun _ => h1 post hp, fun h => absurd h x10⟩, fun h => absurd b0 h⟩⟩
    · refine q_in_ok i1 i2 ⟨fun h => absurd h n10, fun _ => ⟨fun _ => ⟨fun _ => h2 post hp, fun h => ?_⟩, fun h => absurd b0 h⟩⟩
      rw [x2] at h
      exact absurd le0 h
  rcases Nat.lt_or_ge i u with c | c
  · obtain ⟨r, h1, h2⟩ := stop_find hu u1 u2 d1 d2 hd x3 x2 (by omega) hN2 hxl hml (fun k => by rw [a5, a6, a7]; exact (stB_eq (fun p hp => (hv p hp).1)).symm) (u - i) i (by omega)
    exact go r (fun post hp => ⟨_, h1 post hp⟩) (fun post hp => ⟨_, h2 post hp⟩)
  · refine go (-9) (fun post hp => ⟨1, ?_⟩) (fun post hp => ⟨1, ?_⟩)
    · rw [lpX9_stop_28, u1]; exact ⟨fun _ => hp, fun h => absurd (nI_le c hi) h⟩
    · rw [lpX10_stop_29, u2]; exact ⟨fun _ => hp, fun h => absurd (nI_le c hi) h⟩
/-- the class's apply, by itself: the state it ends in is tied to some state of the reference -/
theorem ux_go {n u d sp se gr : Nat} : ∀ (j i : Nat) (σ τ : St) (c : Int32), i + j = n → R_all σ τ n u d sp se gr → (∀ p, p < n → sm (σ.2.1 18 p)) →
    ∃ (r : Int32) (σ' τ' : St), (∀ post : Int32 → St → Prop, post r σ' → lpX9_apply_34 post (j + 1) c (nI i) σ) ∧ R_all σ' τ' n u d sp se gr := by
  intro j
  induction j with
  | zero =>
    intro i σ τ c e hR hv
    have : i = n := by omega
    subst this
    have hn : i ≤ 10 := hR.1.1.2.2
    refine ⟨c, σ, τ, fun post hp => ?_, hR⟩
    rw [lpX9_apply_34, hR.1.1.1]; exact ⟨fun _ => hp, fun h => absurd (nI_le (Nat.le_refl i) (by omega)) h⟩
  | succ j ih =>
    intro i σ τ c e hR hv
    have hi : i < n := by omega
    have hn : n ≤ 10 := hR.1.1.2.2
    have hi10 : i < 10 := by omega
    obtain ⟨f, hf, hf2, hw⟩ := q_xleave (σ := σ) (d := d) (st := σ.2.1 18 i) hi10 (hR.2.2.1.1 i).2.1
    obtain ⟨g, hg, hg2, _⟩ := q_mstrike (τ := τ) (set := σ.2.1 18 i) hi10
    have hR1 := R_leave hR hi (hv i hi) hf hf2 hg hg2
    obtain ⟨r, σ', τ', h1, h3⟩ := ih (i + 1) _ _ (c + nI (fb_ct (goB (σ.2.1 3 i) (σ.2.1 18 i)) 12)) (by omega) hR1 hv
    have ci : (nI i).toNatClampNeg = i := nI_clamp (by omega)
    refine ⟨r, σ', τ', fun post hp => ?_, h3⟩
    rw [lpX9_apply_34, hR.1.1.1]
    refine ⟨fun h => absurd h (nI_ge hi (by omega)), fun _ => ⟨in10 hi10, ?_⟩⟩
    rw [ci, hR.1.2.2.1.1]
    refine hw _ ?_
    simp only [forall_eq, nI_1]
    exact h1 post hp
theorem ux_apply {σ τ : St} (hR : R_ok σ τ) : ∃ (r : Int32) (σ' τ' : St), (∀ post, post r σ' → wX9_apply σ post) ∧ R_ok σ' τ' := by
  obtain ⟨n, u, d, sp, se, gr, ha9⟩ := id hR
  obtain ⟨⟨⟨h6, m1, hn⟩, hsc⟩, har, hpe, hus, hst, hro, hpl, hsh, hba⟩ := id ha9
  rcases hpl with ⟨x1, x2⟩ | ⟨x1, m, hm, x3, x2, hv⟩
  · exact ⟨-4, σ, τ, fun post hp => ⟨fun _ => hp, fun h => absurd x1 h⟩, hR⟩
  have x10 : ¬ σ.1 12 = 0 := by rw [x1]; exact n10
  by_cases c : m = n
  · subst c
    obtain ⟨r, σ', τ', h1, h3⟩ := ux_go m 0 σ τ 0 (by omega) ha9 (fun p hp => (hv p hp).2)
    exact ⟨r, σ', τ', fun post hp => ⟨fun h => absurd h x10, fun _ => ⟨fun _ => ⟨_, h1 post hp⟩, fun h => absurd (by rw [x3, h6]) h⟩⟩, ⟨m, u, d, sp, se, gr, h3⟩⟩
  · have c1 : ¬ nI m = nI n := fun h => c ((nI_eq (by omega) (by omega)).mp h)
    refine ⟨-4, σ, τ, fun post hp => ⟨fun h => absurd h x10, fun _ => ⟨fun h => ?_, fun _ => hp⟩⟩, hR⟩
    rw [x3, h6] at h; exact absurd h c1
/-- the reference's apply, by itself -/
theorem um_go {n u d sp se gr : Nat} : ∀ (j i : Nat) (σ τ : St) (c : Int32), i + j = n → R_all σ τ n u d sp se gr → (∀ p, p < n → σ.2.1 18 p = τ.2.1 15 p ∧ sm (σ.2.1 18 p)) →
    ∃ (r : Int32) (σ' τ' : St), (∀ post : Int32 → St → Prop, post r τ' → lpX10_apply_18 post (j + 1) c (nI i) τ) ∧ R_all σ' τ' n u d sp se gr := by
  intro j
  induction j with
  | zero =>
    intro i σ τ c e hR hv
    have : i = n := by omega
    subst this
    have hn : i ≤ 10 := hR.1.1.2.2
    refine ⟨c, σ, τ, fun post hp => ?_, hR⟩
    rw [lpX10_apply_18, hR.1.1.2.1]; exact ⟨fun _ => hp, fun h => absurd (nI_le (Nat.le_refl i) (by omega)) h⟩
  | succ j ih =>
    intro i σ τ c e hR hv
    have hi : i < n := by omega
    have hn : n ≤ 10 := hR.1.1.2.2
    have hi10 : i < 10 := by omega
    obtain ⟨f, hf, hf2, _⟩ := q_xleave (σ := σ) (d := d) (st := σ.2.1 18 i) hi10 (hR.2.2.1.1 i).2.1
    obtain ⟨g, hg, hg2, hw2⟩ := q_mstrike (τ := τ) (set := σ.2.1 18 i) hi10
    have hR1 := R_strike hR hi hf hf2 hg hg2
    obtain ⟨f2, hf3, hf4, hw3⟩ := q_mgive (τ := st_A (st_R τ 3 g) 2 i (τ.2.1 2 i &&& σ.2.1 18 i)) (set := σ.2.1 18 i) hi10
    have hR2 := R_give hR1 hi (hv i hi).2 hf3 hf4
    obtain ⟨r, σ', τ', h2, h3⟩ := ih (i + 1) _ _ (c + nI (fb_ct (goB (σ.2.1 3 i) (σ.2.1 18 i)) 12)) (by omega) hR2 hv
    have ci : (nI i).toNatClampNeg = i := nI_clamp (by omega)
    refine ⟨r, σ', τ', fun post hp => ?_, h3⟩
    rw [lpX10_apply_18, hR.1.1.2.1]
    refine ⟨fun h => absurd h (nI_ge hi (by omega)), fun _ => ⟨in10 hi10, ?_⟩⟩
    rw [ci, ← (hv i hi).1]
    refine hw2 _ ?_
    simp only [forall_eq, nI_1]
    refine ⟨in10 hi10, ?_⟩
    show wX10_give _ _ (τ.2.1 15 i) _
    rw [← (hv i hi).1]
    refine hw3 _ ?_
    rw [hR.2.1.2.2.2.1]
    have := h2 post hp
    rw [hR.2.1.2.2.2.1] at this
    exact this
theorem um_apply {σ τ : St} (hR : R_ok σ τ) : ∃ (r : Int32) (τ' σ' : St), (∀ post, post r τ' → wX10_apply τ post) ∧ R_ok σ' τ' := by
  obtain ⟨n, u, d, sp, se, gr, ha9⟩ := id hR
  obtain ⟨⟨⟨h6, m1, hn⟩, hsc⟩, har, hpe, hus, hst, hro, hpl, hsh, hba⟩ := id ha9
  rcases hpl with ⟨x1, x2⟩ | ⟨x1, m, hm, x3, x2, hv⟩
  · refine ⟨-4, τ, σ, fun post hp => ⟨fun h => ?_, fun _ => hp⟩, hR⟩
    rw [x2, m1] at h
    have h3 := congrArg Int32.toInt h
    rw [nI_toInt (by omega)] at h3
    have h4 : (-9 : Int32).toInt = -9 := rfl
    omega
  by_cases c : m = n
  · subst c
    obtain ⟨r, σ', τ', h2, h3⟩ := um_go m 0 σ τ 0 (by omega) ha9 hv
    exact ⟨r, τ', σ', fun post hp => ⟨fun _ => ⟨_, h2 post hp⟩, fun h => absurd (by rw [x2, m1]) h⟩, ⟨m, u, d, sp, se, gr, h3⟩⟩
  · have c1 : ¬ nI m = nI n := fun h => c ((nI_eq (by omega) (by omega)).mp h)
    refine ⟨-4, τ, σ, fun post hp => ⟨fun h => ?_, fun _ => hp⟩, hR⟩
    rw [x2, m1] at h; exact absurd h c1
