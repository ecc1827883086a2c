/-! ===== pure: no plan: apply answers STATE on both sides ===== -/
theorem pr_apply {σ τ : St} (hR : R_ok σ τ) (h12 : σ.1 12 = 0) : Pair (wX9_apply σ) (wX10_apply τ) := by
  obtain ⟨n, u, d, sp, se, gr, ha9⟩ := id hR
  obtain ⟨⟨⟨h6, m1, hn⟩, hsc⟩, har, hpe, hus, hst, hro, hpl, hsh, hba⟩ := id ha9
  rcases hpl with ⟨x1, x2⟩ | ⟨x1, _⟩
  · refine pair_bad (-4) hR (fun post hp => ?_) (fun post hp => ?_)
    · exact ⟨fun _ => hp, fun h => absurd x1 h⟩
    · refine ⟨fun h => ?_, fun _ => hp⟩
      rw [x2, m1] at h
      have h3 := congrArg Int32.toInt h
      rw [nI_toInt (by omega)] at h3
      have h4 : (-9 : Int32).toInt = -9 := rfl
      omega
  · rw [x1] at h12; exact absurd h12 n10
/-! ===== pure: the law ===== -/
theorem pw_0 {xs : Nat → Int32} {L : Nat} {v3 : Int32} {σ τ : St} {K : St → St → Prop} (hR : R_ok σ τ) (h12 : σ.1 12 = 0) (hK : ∀ σ' τ', K σ' τ') (b1 : vp_in (v3 + (1 : Int32)) L) (b2 : vp_in (v3 + (2 : Int32)) L) (b3 : vp_in (v3 + (3 : Int32)) L) (b4 : vp_in (v3 + (4 : Int32)) L) (b5 : vp_in (v3 + (5 : Int32)) L) : wL_0 xs L v3 σ τ K := by
  unfold wL_0
  obtain ⟨r, σ1, τ1, h1, h2, h3⟩ := pr_person hR (xs (v3 + (1 : Int32)).toNatClampNeg) (xs (v3 + (2 : Int32)).toNatClampNeg)
  exact ⟨b1, b2, h1 _ ⟨b1, b2, h2 _ ⟨fun _ => hK _ _, fun h => h rfl⟩⟩⟩
theorem pw_1 {xs : Nat → Int32} {L : Nat} {v3 : Int32} {σ τ : St} {K : St → St → Prop} (hR : R_ok σ τ) (h12 : σ.1 12 = 0) (hK : ∀ σ' τ', K σ' τ') (b1 : vp_in (v3 + (1 : Int32)) L) (b2 : vp_in (v3 + (2 : Int32)) L) (b3 : vp_in (v3 + (3 : Int32)) L) (b4 : vp_in (v3 + (4 : Int32)) L) (b5 : vp_in (v3 + (5 : Int32)) L) : wL_1 xs L v3 σ τ K := by
  unfold wL_1
  obtain ⟨r, σ1, τ1, h1, h2, h3⟩ := pr_change hR (xs (v3 + (1 : Int32)).toNatClampNeg) (xs (v3 + (2 : Int32)).toNatClampNeg) (xs (v3 + (3 : Int32)).toNatClampNeg)
  exact ⟨b1, b2, b3, h1 _ ⟨b1, b2, b3, h2 _ ⟨fun _ => hK _ _, fun h => h rfl⟩⟩⟩
theorem pw_2 {xs : Nat → Int32} {L : Nat} {v3 : Int32} {σ τ : St} {K : St → St → Prop} (hR : R_ok σ τ) (h12 : σ.1 12 = 0) (hK : ∀ σ' τ', K σ' τ') (b1 : vp_in (v3 + (1 : Int32)) L) (b2 : vp_in (v3 + (2 : Int32)) L) (b3 : vp_in (v3 + (3 : Int32)) L) (b4 : vp_in (v3 + (4 : Int32)) L) (b5 : vp_in (v3 + (5 : Int32)) L) : wL_2 xs L v3 σ τ K := by
  unfold wL_2
  obtain ⟨r, h1, h2⟩ := pr_told hR (xs (v3 + (1 : Int32)).toNatClampNeg) (xs (v3 + (2 : Int32)).toNatClampNeg)
  exact ⟨b1, b2, h1 _ ⟨b1, b2, h2 _ ⟨fun _ => hK _ _, fun h => h rfl⟩⟩⟩
theorem pw_3 {xs : Nat → Int32} {L : Nat} {v3 : Int32} {σ τ : St} {K : St → St → Prop} (hR : R_ok σ τ) (h12 : σ.1 12 = 0) (hK : ∀ σ' τ', K σ' τ') (b1 : vp_in (v3 + (1 : Int32)) L) (b2 : vp_in (v3 + (2 : Int32)) L) (b3 : vp_in (v3 + (3 : Int32)) L) (b4 : vp_in (v3 + (4 : Int32)) L) (b5 : vp_in (v3 + (5 : Int32)) L) : wL_3 xs L v3 σ τ K := by
  unfold wL_3
  obtain ⟨r, σ1, τ1, h1, h2, h3⟩ := pr_standby hR (xs (v3 + (1 : Int32)).toNatClampNeg)
  exact ⟨b1, h1 _ ⟨b1, h2 _ ⟨fun _ => hK _ _, fun h => h rfl⟩⟩⟩
theorem pw_4 {xs : Nat → Int32} {L : Nat} {v3 : Int32} {σ τ : St} {K : St → St → Prop} (hR : R_ok σ τ) (h12 : σ.1 12 = 0) (hK : ∀ σ' τ', K σ' τ') (b1 : vp_in (v3 + (1 : Int32)) L) (b2 : vp_in (v3 + (2 : Int32)) L) (b3 : vp_in (v3 + (3 : Int32)) L) (b4 : vp_in (v3 + (4 : Int32)) L) (b5 : vp_in (v3 + (5 : Int32)) L) : wL_4 xs L v3 σ τ K := by
  unfold wL_4
  obtain ⟨r, σ1, τ1, h1, h2, h3⟩ := pr_rule hR (xs (v3 + (1 : Int32)).toNatClampNeg) (xs (v3 + (2 : Int32)).toNatClampNeg) (xs (v3 + (3 : Int32)).toNatClampNeg)
  exact ⟨b1, b2, b3, h1 _ ⟨b1, b2, b3, h2 _ ⟨fun _ => hK _ _, fun h => h rfl⟩⟩⟩
theorem pw_5 {xs : Nat → Int32} {L : Nat} {v3 : Int32} {σ τ : St} {K : St → St → Prop} (hR : R_ok σ τ) (h12 : σ.1 12 = 0) (hK : ∀ σ' τ', K σ' τ') (b1 : vp_in (v3 + (1 : Int32)) L) (b2 : vp_in (v3 + (2 : Int32)) L) (b3 : vp_in (v3 + (3 : Int32)) L) (b4 : vp_in (v3 + (4 : Int32)) L) (b5 : vp_in (v3 + (5 : Int32)) L) : wL_5 xs L v3 σ τ K := by
  unfold wL_5
  obtain ⟨r, σ1, τ1, h1, h2, h3⟩ := pr_later hR (xs (v3 + (1 : Int32)).toNatClampNeg)
  exact ⟨b1, h1 _ ⟨b1, h2 _ ⟨fun _ => hK _ _, fun h => h rfl⟩⟩⟩
theorem pw_6 {xs : Nat → Int32} {L : Nat} {v3 : Int32} {σ τ : St} {K : St → St → Prop} (hR : R_ok σ τ) (h12 : σ.1 12 = 0) (hK : ∀ σ' τ', K σ' τ') (b1 : vp_in (v3 + (1 : Int32)) L) (b2 : vp_in (v3 + (2 : Int32)) L) (b3 : vp_in (v3 + (3 : Int32)) L) (b4 : vp_in (v3 + (4 : Int32)) L) (b5 : vp_in (v3 + (5 : Int32)) L) : wL_6 xs L v3 σ τ K := by
  unfold wL_6
  obtain ⟨r, σ1, τ1, h1, h2, h3⟩ := pr_use hR (xs (v3 + (1 : Int32)).toNatClampNeg) (xs (v3 + (2 : Int32)).toNatClampNeg) (xs (v3 + (3 : Int32)).toNatClampNeg)
  exact ⟨b1, b2, b3, h1 _ ⟨b1, b2, b3, h2 _ ⟨fun _ => hK _ _, fun h => h rfl⟩⟩⟩
theorem pw_7 {xs : Nat → Int32} {L : Nat} {v3 : Int32} {σ τ : St} {K : St → St → Prop} (hR : R_ok σ τ) (h12 : σ.1 12 = 0) (hK : ∀ σ' τ', K σ' τ') (b1 : vp_in (v3 + (1 : Int32)) L) (b2 : vp_in (v3 + (2 : Int32)) L) (b3 : vp_in (v3 + (3 : Int32)) L) (b4 : vp_in (v3 + (4 : Int32)) L) (b5 : vp_in (v3 + (5 : Int32)) L) : wL_7 xs L v3 σ τ K := by
  unfold wL_7
  obtain ⟨r, h1, h2⟩ := pr_kind hR (xs (v3 + (1 : Int32)).toNatClampNeg) (xs (v3 + (2 : Int32)).toNatClampNeg)
  exact ⟨b1, b2, h1 _ ⟨b1, b2, h2 _ ⟨fun _ => hK _ _, fun h => h rfl⟩⟩⟩
theorem pw_8 {xs : Nat → Int32} {L : Nat} {v3 : Int32} {σ τ : St} {K : St → St → Prop} (hR : R_ok σ τ) (h12 : σ.1 12 = 0) (hK : ∀ σ' τ', K σ' τ') (b1 : vp_in (v3 + (1 : Int32)) L) (b2 : vp_in (v3 + (2 : Int32)) L) (b3 : vp_in (v3 + (3 : Int32)) L) (b4 : vp_in (v3 + (4 : Int32)) L) (b5 : vp_in (v3 + (5 : Int32)) L) : wL_8 xs L v3 σ τ K := by
  unfold wL_8
  obtain ⟨r, σ1, τ1, h1, h2, h3⟩ := pr_uses hR (xs (v3 + (1 : Int32)).toNatClampNeg) (xs (v3 + (2 : Int32)).toNatClampNeg) (xs (v3 + (3 : Int32)).toNatClampNeg)
  exact ⟨b1, b2, b3, h1 _ ⟨b1, b2, b3, h2 _ ⟨fun _ => hK _ _, fun h => h rfl⟩⟩⟩
theorem pw_9 {xs : Nat → Int32} {L : Nat} {v3 : Int32} {σ τ : St} {K : St → St → Prop} (hR : R_ok σ τ) (h12 : σ.1 12 = 0) (hK : ∀ σ' τ', K σ' τ') (b1 : vp_in (v3 + (1 : Int32)) L) (b2 : vp_in (v3 + (2 : Int32)) L) (b3 : vp_in (v3 + (3 : Int32)) L) (b4 : vp_in (v3 + (4 : Int32)) L) (b5 : vp_in (v3 + (5 : Int32)) L) : wL_9 xs L v3 σ τ K := by
  unfold wL_9
  obtain ⟨r, σ1, τ1, h1, h2, h3⟩ := pr_strike hR (xs (v3 + (1 : Int32)).toNatClampNeg)
  exact ⟨b1, h1 _ ⟨b1, h2 _ ⟨fun _ => hK _ _, fun h => h rfl⟩⟩⟩
theorem pw_10 {xs : Nat → Int32} {L : Nat} {v3 : Int32} {σ τ : St} {K : St → St → Prop} (hR : R_ok σ τ) (h12 : σ.1 12 = 0) (hK : ∀ σ' τ', K σ' τ') (b1 : vp_in (v3 + (1 : Int32)) L) (b2 : vp_in (v3 + (2 : Int32)) L) (b3 : vp_in (v3 + (3 : Int32)) L) (b4 : vp_in (v3 + (4 : Int32)) L) (b5 : vp_in (v3 + (5 : Int32)) L) : wL_10 xs L v3 σ τ K := by
  unfold wL_10
  obtain ⟨r, σ1, τ1, h1, h2, h3⟩ := pr_ask hR (xs (v3 + (1 : Int32)).toNatClampNeg) (xs (v3 + (2 : Int32)).toNatClampNeg)
  exact ⟨b1, b2, h1 _ ⟨b1, b2, h2 _ ⟨fun _ => hK _ _, fun h => h rfl⟩⟩⟩
theorem pw_11 {xs : Nat → Int32} {L : Nat} {v3 : Int32} {σ τ : St} {K : St → St → Prop} (hR : R_ok σ τ) (h12 : σ.1 12 = 0) (hK : ∀ σ' τ', K σ' τ') (b1 : vp_in (v3 + (1 : Int32)) L) (b2 : vp_in (v3 + (2 : Int32)) L) (b3 : vp_in (v3 + (3 : Int32)) L) (b4 : vp_in (v3 + (4 : Int32)) L) (b5 : vp_in (v3 + (5 : Int32)) L) : wL_11 xs L v3 σ τ K := by
  unfold wL_11
  obtain ⟨r, h1, h2⟩ := pr_asks hR (xs (v3 + (1 : Int32)).toNatClampNeg)
  exact ⟨b1, h1 _ ⟨b1, h2 _ ⟨fun _ => hK _ _, fun h => h rfl⟩⟩⟩
theorem pw_12 {xs : Nat → Int32} {L : Nat} {v3 : Int32} {σ τ : St} {K : St → St → Prop} (hR : R_ok σ τ) (h12 : σ.1 12 = 0) (hK : ∀ σ' τ', K σ' τ') (b1 : vp_in (v3 + (1 : Int32)) L) (b2 : vp_in (v3 + (2 : Int32)) L) (b3 : vp_in (v3 + (3 : Int32)) L) (b4 : vp_in (v3 + (4 : Int32)) L) (b5 : vp_in (v3 + (5 : Int32)) L) : wL_12 xs L v3 σ τ K := by
  unfold wL_12
  obtain ⟨r, σ1, τ1, h1, h2, h3⟩ := pr_candidates hR
  exact h1 _ (h2 _ ⟨fun _ => hK _ _, fun h => h rfl⟩)
theorem pw_13 {xs : Nat → Int32} {L : Nat} {v3 : Int32} {σ τ : St} {K : St → St → Prop} (hR : R_ok σ τ) (h12 : σ.1 12 = 0) (hK : ∀ σ' τ', K σ' τ') (b1 : vp_in (v3 + (1 : Int32)) L) (b2 : vp_in (v3 + (2 : Int32)) L) (b3 : vp_in (v3 + (3 : Int32)) L) (b4 : vp_in (v3 + (4 : Int32)) L) (b5 : vp_in (v3 + (5 : Int32)) L) : wL_13 xs L v3 σ τ K := by
  unfold wL_13
  obtain ⟨r, σ1, τ1, h1, h2, h3⟩ := pr_roles hR (xs (v3 + (1 : Int32)).toNatClampNeg)
  exact ⟨b1, h1 _ ⟨b1, h2 _ ⟨fun _ => hK _ _, fun h => h rfl⟩⟩⟩
theorem pw_14 {xs : Nat → Int32} {L : Nat} {v3 : Int32} {σ τ : St} {K : St → St → Prop} (hR : R_ok σ τ) (h12 : σ.1 12 = 0) (hK : ∀ σ' τ', K σ' τ') (b1 : vp_in (v3 + (1 : Int32)) L) (b2 : vp_in (v3 + (2 : Int32)) L) (b3 : vp_in (v3 + (3 : Int32)) L) (b4 : vp_in (v3 + (4 : Int32)) L) (b5 : vp_in (v3 + (5 : Int32)) L) : wL_14 xs L v3 σ τ K := by
  unfold wL_14
  obtain ⟨r, h1, h2⟩ := pr_tries hR
  exact h1 _ (h2 _ ⟨fun _ => hK _ _, fun h => h rfl⟩)
theorem pw_15 {xs : Nat → Int32} {L : Nat} {v3 : Int32} {σ τ : St} {K : St → St → Prop} (hR : R_ok σ τ) (h12 : σ.1 12 = 0) (hK : ∀ σ' τ', K σ' τ') (b1 : vp_in (v3 + (1 : Int32)) L) (b2 : vp_in (v3 + (2 : Int32)) L) (b3 : vp_in (v3 + (3 : Int32)) L) (b4 : vp_in (v3 + (4 : Int32)) L) (b5 : vp_in (v3 + (5 : Int32)) L) : wL_15 xs L v3 σ τ K := by
  unfold wL_15
  obtain ⟨r, h1, h2⟩ := pr_role hR (xs (v3 + (1 : Int32)).toNatClampNeg)
  exact ⟨b1, h1 _ ⟨b1, h2 _ ⟨fun _ => hK _ _, fun h => h rfl⟩⟩⟩
theorem pw_16 {xs : Nat → Int32} {L : Nat} {v3 : Int32} {σ τ : St} {K : St → St → Prop} (hR : R_ok σ τ) (h12 : σ.1 12 = 0) (hK : ∀ σ' τ', K σ' τ') (b1 : vp_in (v3 + (1 : Int32)) L) (b2 : vp_in (v3 + (2 : Int32)) L) (b3 : vp_in (v3 + (3 : Int32)) L) (b4 : vp_in (v3 + (4 : Int32)) L) (b5 : vp_in (v3 + (5 : Int32)) L) : wL_16 xs L v3 σ τ K := by
  unfold wL_16
  obtain ⟨r, h1, h2⟩ := pr_rolesOf hR (xs (v3 + (1 : Int32)).toNatClampNeg)
  exact ⟨b1, h1 _ ⟨b1, h2 _ ⟨fun _ => hK _ _, fun h => h rfl⟩⟩⟩
theorem pw_17 {xs : Nat → Int32} {L : Nat} {v3 : Int32} {σ τ : St} {K : St → St → Prop} (hR : R_ok σ τ) (h12 : σ.1 12 = 0) (hK : ∀ σ' τ', K σ' τ') (b1 : vp_in (v3 + (1 : Int32)) L) (b2 : vp_in (v3 + (2 : Int32)) L) (b3 : vp_in (v3 + (3 : Int32)) L) (b4 : vp_in (v3 + (4 : Int32)) L) (b5 : vp_in (v3 + (5 : Int32)) L) : wL_17 xs L v3 σ τ K := by
  unfold wL_17
  obtain ⟨r, σ1, τ1, h1, h2, h3⟩ := pr_marksOf hR (xs (v3 + (1 : Int32)).toNatClampNeg)
  exact ⟨b1, h1 _ ⟨b1, h2 _ ⟨fun _ => hK _ _, fun h => h rfl⟩⟩⟩
theorem pw_18 {xs : Nat → Int32} {L : Nat} {v3 : Int32} {σ τ : St} {K : St → St → Prop} (hR : R_ok σ τ) (h12 : σ.1 12 = 0) (hK : ∀ σ' τ', K σ' τ') (b1 : vp_in (v3 + (1 : Int32)) L) (b2 : vp_in (v3 + (2 : Int32)) L) (b3 : vp_in (v3 + (3 : Int32)) L) (b4 : vp_in (v3 + (4 : Int32)) L) (b5 : vp_in (v3 + (5 : Int32)) L) : wL_18 xs L v3 σ τ K := by
  unfold wL_18
  obtain ⟨r, h1, h2⟩ := pr_exceptions hR (xs (v3 + (1 : Int32)).toNatClampNeg) (xs (v3 + (2 : Int32)).toNatClampNeg)
  exact ⟨b1, b2, h1 _ ⟨b1, b2, h2 _ ⟨fun _ => hK _ _, fun h => h rfl⟩⟩⟩
theorem pw_19 {xs : Nat → Int32} {L : Nat} {v3 : Int32} {σ τ : St} {K : St → St → Prop} (hR : R_ok σ τ) (h12 : σ.1 12 = 0) (hK : ∀ σ' τ', K σ' τ') (b1 : vp_in (v3 + (1 : Int32)) L) (b2 : vp_in (v3 + (2 : Int32)) L) (b3 : vp_in (v3 + (3 : Int32)) L) (b4 : vp_in (v3 + (4 : Int32)) L) (b5 : vp_in (v3 + (5 : Int32)) L) : wL_19 xs L v3 σ τ K := by
  unfold wL_19
  by_cases c : xs (v3 + (3 : Int32)).toNatClampNeg = 0
  · obtain ⟨r, σ1, τ1, h1, h2, h3⟩ := pr_ban hR (xs (v3 + (1 : Int32)).toNatClampNeg) (xs (v3 + (2 : Int32)).toNatClampNeg) (0 : Int32)
    first
    | exact ⟨b1, b2, b3, ⟨fun _ => h1 _ ⟨b1, b2, b3, ⟨fun _ => h2 _ ⟨fun _ => hK _ _, fun h => h rfl⟩, fun h => absurd c h⟩⟩, fun h => absurd c h⟩⟩
    | exact ⟨b1, b2, b3, ⟨fun h => absurd c h, fun _ => h1 _ ⟨b1, b2, b3, ⟨fun h => absurd c h, fun _ => h2 _ ⟨fun _ => hK _ _, fun h => h rfl⟩⟩⟩⟩⟩
  · obtain ⟨r, σ1, τ1, h1, h2, h3⟩ := pr_ban hR (xs (v3 + (1 : Int32)).toNatClampNeg) (xs (v3 + (2 : Int32)).toNatClampNeg) (1 : Int32)
    first
    | exact ⟨b1, b2, b3, ⟨fun h => absurd h c, fun _ => h1 _ ⟨b1, b2, b3, ⟨fun h => absurd h c, fun _ => h2 _ ⟨fun _ => hK _ _, fun h => h rfl⟩⟩⟩⟩⟩
    | exact ⟨b1, b2, b3, ⟨fun _ => h1 _ ⟨b1, b2, b3, ⟨fun _ => h2 _ ⟨fun _ => hK _ _, fun h => h rfl⟩, fun h => absurd h c⟩⟩, fun h => absurd h c⟩⟩
theorem pw_20 {xs : Nat → Int32} {L : Nat} {v3 : Int32} {σ τ : St} {K : St → St → Prop} (hR : R_ok σ τ) (h12 : σ.1 12 = 0) (hK : ∀ σ' τ', K σ' τ') (b1 : vp_in (v3 + (1 : Int32)) L) (b2 : vp_in (v3 + (2 : Int32)) L) (b3 : vp_in (v3 + (3 : Int32)) L) (b4 : vp_in (v3 + (4 : Int32)) L) (b5 : vp_in (v3 + (5 : Int32)) L) : wL_20 xs L v3 σ τ K := by
  unfold wL_20
  obtain ⟨r, h1, h2⟩ := pr_breach hR
  exact h1 _ (h2 _ ⟨fun _ => hK _ _, fun h => h rfl⟩)
theorem pw_21 {xs : Nat → Int32} {L : Nat} {v3 : Int32} {σ τ : St} {K : St → St → Prop} (hR : R_ok σ τ) (h12 : σ.1 12 = 0) (hK : ∀ σ' τ', K σ' τ') (b1 : vp_in (v3 + (1 : Int32)) L) (b2 : vp_in (v3 + (2 : Int32)) L) (b3 : vp_in (v3 + (3 : Int32)) L) (b4 : vp_in (v3 + (4 : Int32)) L) (b5 : vp_in (v3 + (5 : Int32)) L) : wL_21 xs L v3 σ τ K := by
  unfold wL_21
  obtain ⟨r, h1, h2⟩ := pr_least hR (xs (v3 + (1 : Int32)).toNatClampNeg)
  exact ⟨b1, h1 _ ⟨b1, h2 _ ⟨fun _ => hK _ _, fun h => h rfl⟩⟩⟩
theorem pw_22 {xs : Nat → Int32} {L : Nat} {v3 : Int32} {σ τ : St} {K : St → St → Prop} (hR : R_ok σ τ) (h12 : σ.1 12 = 0) (hK : ∀ σ' τ', K σ' τ') (b1 : vp_in (v3 + (1 : Int32)) L) (b2 : vp_in (v3 + (2 : Int32)) L) (b3 : vp_in (v3 + (3 : Int32)) L) (b4 : vp_in (v3 + (4 : Int32)) L) (b5 : vp_in (v3 + (5 : Int32)) L) : wL_22 xs L v3 σ τ K := by
  unfold wL_22
  obtain ⟨r, h1, h2⟩ := pr_badRole hR
  exact h1 _ (h2 _ ⟨fun _ => hK _ _, fun h => h rfl⟩)
theorem pw_23 {xs : Nat → Int32} {L : Nat} {v3 : Int32} {σ τ : St} {K : St → St → Prop} (hR : R_ok σ τ) (h12 : σ.1 12 = 0) (hK : ∀ σ' τ', K σ' τ') (b1 : vp_in (v3 + (1 : Int32)) L) (b2 : vp_in (v3 + (2 : Int32)) L) (b3 : vp_in (v3 + (3 : Int32)) L) (b4 : vp_in (v3 + (4 : Int32)) L) (b5 : vp_in (v3 + (5 : Int32)) L) : wL_23 xs L v3 σ τ K := by
  unfold wL_23
  by_cases c : xs (v3 + (1 : Int32)).toNatClampNeg = 0
  · obtain ⟨r, σ1, τ1, h1, h2, h3⟩ := pr_plan hR  (0 : Int32)
    first
    | exact ⟨b1, ⟨fun _ => h1 _ ⟨b1, ⟨fun _ => h2 _ ⟨fun _ => hK _ _, fun h => h rfl⟩, fun h => absurd c h⟩⟩, fun h => absurd c h⟩⟩
    | exact ⟨b1, ⟨fun h => absurd c h, fun _ => h1 _ ⟨b1, ⟨fun h => absurd c h, fun _ => h2 _ ⟨fun _ => hK _ _, fun h => h rfl⟩⟩⟩⟩⟩
  · obtain ⟨r, σ1, τ1, h1, h2, h3⟩ := pr_plan hR  (1 : Int32)
    first
    | exact ⟨b1, ⟨fun h => absurd h c, fun _ => h1 _ ⟨b1, ⟨fun h => absurd h c, fun _ => h2 _ ⟨fun _ => hK _ _, fun h => h rfl⟩⟩⟩⟩⟩
    | exact ⟨b1, ⟨fun _ => h1 _ ⟨b1, ⟨fun _ => h2 _ ⟨fun _ => hK _ _, fun h => h rfl⟩, fun h => absurd h c⟩⟩, fun h => absurd h c⟩⟩
theorem pw_24 {xs : Nat → Int32} {L : Nat} {v3 : Int32} {σ τ : St} {K : St → St → Prop} (hR : R_ok σ τ) (h12 : σ.1 12 = 0) (hK : ∀ σ' τ', K σ' τ') (b1 : vp_in (v3 + (1 : Int32)) L) (b2 : vp_in (v3 + (2 : Int32)) L) (b3 : vp_in (v3 + (3 : Int32)) L) (b4 : vp_in (v3 + (4 : Int32)) L) (b5 : vp_in (v3 + (5 : Int32)) L) : wL_24 xs L v3 σ τ K := by
  unfold wL_24
  obtain ⟨r, σ1, τ1, h1, h2, h3⟩ := pr_takeOut hR (xs (v3 + (1 : Int32)).toNatClampNeg) (xs (v3 + (2 : Int32)).toNatClampNeg)
  exact ⟨b1, b2, h1 _ ⟨b1, b2, h2 _ ⟨fun _ => hK _ _, fun h => h rfl⟩⟩⟩
theorem pw_25 {xs : Nat → Int32} {L : Nat} {v3 : Int32} {σ τ : St} {K : St → St → Prop} (hR : R_ok σ τ) (h12 : σ.1 12 = 0) (hK : ∀ σ' τ', K σ' τ') (b1 : vp_in (v3 + (1 : Int32)) L) (b2 : vp_in (v3 + (2 : Int32)) L) (b3 : vp_in (v3 + (3 : Int32)) L) (b4 : vp_in (v3 + (4 : Int32)) L) (b5 : vp_in (v3 + (5 : Int32)) L) : wL_25 xs L v3 σ τ K := by
  unfold wL_25
  obtain ⟨r, h1, h2⟩ := pr_stopped hR (xs (v3 + (1 : Int32)).toNatClampNeg)
  exact ⟨b1, h1 _ ⟨b1, h2 _ ⟨fun _ => hK _ _, fun h => h rfl⟩⟩⟩
theorem pw_26 {xs : Nat → Int32} {L : Nat} {v3 : Int32} {σ τ : St} {K : St → St → Prop} (hR : R_ok σ τ) (h12 : σ.1 12 = 0) (hK : ∀ σ' τ', K σ' τ') (b1 : vp_in (v3 + (1 : Int32)) L) (b2 : vp_in (v3 + (2 : Int32)) L) (b3 : vp_in (v3 + (3 : Int32)) L) (b4 : vp_in (v3 + (4 : Int32)) L) (b5 : vp_in (v3 + (5 : Int32)) L) : wL_26 xs L v3 σ τ K := by
  unfold wL_26
  obtain ⟨r, h1, h2⟩ := pr_stop hR (xs (v3 + (1 : Int32)).toNatClampNeg) (xs (v3 + (2 : Int32)).toNatClampNeg)
  exact ⟨b1, b2, h1 _ ⟨b1, b2, h2 _ ⟨fun _ => hK _ _, fun h => h rfl⟩⟩⟩
theorem pw_27 {xs : Nat → Int32} {L : Nat} {v3 : Int32} {σ τ : St} {K : St → St → Prop} (hR : R_ok σ τ) (h12 : σ.1 12 = 0) (hK : ∀ σ' τ', K σ' τ') (b1 : vp_in (v3 + (1 : Int32)) L) (b2 : vp_in (v3 + (2 : Int32)) L) (b3 : vp_in (v3 + (3 : Int32)) L) (b4 : vp_in (v3 + (4 : Int32)) L) (b5 : vp_in (v3 + (5 : Int32)) L) : wL_27 xs L v3 σ τ K := by
  unfold wL_27
  obtain ⟨r, h1, h2⟩ := pr_used hR (xs (v3 + (1 : Int32)).toNatClampNeg) (xs (v3 + (2 : Int32)).toNatClampNeg)
  exact ⟨b1, b2, h1 _ ⟨b1, b2, h2 _ ⟨fun _ => hK _ _, fun h => h rfl⟩⟩⟩
theorem pw_28 {xs : Nat → Int32} {L : Nat} {v3 : Int32} {σ τ : St} {K : St → St → Prop} (hR : R_ok σ τ) (h12 : σ.1 12 = 0) (hK : ∀ σ' τ', K σ' τ') (b1 : vp_in (v3 + (1 : Int32)) L) (b2 : vp_in (v3 + (2 : Int32)) L) (b3 : vp_in (v3 + (3 : Int32)) L) (b4 : vp_in (v3 + (4 : Int32)) L) (b5 : vp_in (v3 + (5 : Int32)) L) : wL_28 xs L v3 σ τ K := by
  unfold wL_28
  obtain ⟨r, σ1, τ1, h1, h2, h3⟩ := pr_apply hR h12
  exact h1 _ (h2 _ ⟨fun _ => hK _ _, fun h => h rfl⟩)
theorem pw_29 {xs : Nat → Int32} {L : Nat} {v3 : Int32} {σ τ : St} {K : St → St → Prop} (hR : R_ok σ τ) (h12 : σ.1 12 = 0) (hK : ∀ σ' τ', K σ' τ') (b1 : vp_in (v3 + (1 : Int32)) L) (b2 : vp_in (v3 + (2 : Int32)) L) (b3 : vp_in (v3 + (3 : Int32)) L) (b4 : vp_in (v3 + (4 : Int32)) L) (b5 : vp_in (v3 + (5 : Int32)) L) : wL_29 xs L v3 σ τ K := by
  unfold wL_29
  obtain ⟨r, σ1, τ1, h1, h2, h3⟩ := pr_sheet hR (xs (v3 + (1 : Int32)).toNatClampNeg) (xs (v3 + (2 : Int32)).toNatClampNeg)
  exact ⟨b1, b2, h1 _ ⟨b1, b2, h2 _ ⟨fun _ => hK _ _, fun h => h rfl⟩⟩⟩
theorem pw_30 {xs : Nat → Int32} {L : Nat} {v3 : Int32} {σ τ : St} {K : St → St → Prop} (hR : R_ok σ τ) (h12 : σ.1 12 = 0) (hK : ∀ σ' τ', K σ' τ') (b1 : vp_in (v3 + (1 : Int32)) L) (b2 : vp_in (v3 + (2 : Int32)) L) (b3 : vp_in (v3 + (3 : Int32)) L) (b4 : vp_in (v3 + (4 : Int32)) L) (b5 : vp_in (v3 + (5 : Int32)) L) : wL_30 xs L v3 σ τ K := by
  unfold wL_30
  obtain ⟨r, σ1, τ1, h1, h2, h3⟩ := pr_save hR (xs (v3 + (1 : Int32)).toNatClampNeg)
  exact ⟨b1, h1 _ ⟨b1, h2 _ ⟨fun _ => hK _ _, fun h => h rfl⟩⟩⟩
theorem pw_31 {xs : Nat → Int32} {L : Nat} {v3 : Int32} {σ τ : St} {K : St → St → Prop} (hR : R_ok σ τ) (h12 : σ.1 12 = 0) (hK : ∀ σ' τ', K σ' τ') (b1 : vp_in (v3 + (1 : Int32)) L) (b2 : vp_in (v3 + (2 : Int32)) L) (b3 : vp_in (v3 + (3 : Int32)) L) (b4 : vp_in (v3 + (4 : Int32)) L) (b5 : vp_in (v3 + (5 : Int32)) L) : wL_31 xs L v3 σ τ K := by
  unfold wL_31
  obtain ⟨r, σ1, τ1, h1, h2, h3⟩ := pr_load hR (xs (v3 + (1 : Int32)).toNatClampNeg) (xs (v3 + (2 : Int32)).toNatClampNeg) (xs (v3 + (3 : Int32)).toNatClampNeg)
  exact ⟨b1, b2, b3, h1 _ ⟨b1, b2, b3, h2 _ ⟨fun _ => hK _ _, fun h => h rfl⟩⟩⟩
theorem pw_32 {xs : Nat → Int32} {L : Nat} {v3 : Int32} {σ τ : St} {K : St → St → Prop} (hR : R_ok σ τ) (h12 : σ.1 12 = 0) (hK : ∀ σ' τ', K σ' τ') (b1 : vp_in (v3 + (1 : Int32)) L) (b2 : vp_in (v3 + (2 : Int32)) L) (b3 : vp_in (v3 + (3 : Int32)) L) (b4 : vp_in (v3 + (4 : Int32)) L) (b5 : vp_in (v3 + (5 : Int32)) L) : wL_32 xs L v3 σ τ K := by
  unfold wL_32
  obtain ⟨r, σ1, τ1, h1, h2, h3⟩ := pr_tear hR (xs (v3 + (1 : Int32)).toNatClampNeg)
  exact ⟨b1, h1 _ ⟨b1, h2 _ ⟨fun _ => hK _ _, fun h => h rfl⟩⟩⟩
theorem pw_33 {xs : Nat → Int32} {L : Nat} {v3 : Int32} {σ τ : St} {K : St → St → Prop} (hR : R_ok σ τ) (h12 : σ.1 12 = 0) (hK : ∀ σ' τ', K σ' τ') (b1 : vp_in (v3 + (1 : Int32)) L) (b2 : vp_in (v3 + (2 : Int32)) L) (b3 : vp_in (v3 + (3 : Int32)) L) (b4 : vp_in (v3 + (4 : Int32)) L) (b5 : vp_in (v3 + (5 : Int32)) L) : wL_33 xs L v3 σ τ K := by
  unfold wL_33
  obtain ⟨r, σ1, τ1, h1, h2, h3⟩ := pr_copy hR (xs (v3 + (1 : Int32)).toNatClampNeg) (xs (v3 + (2 : Int32)).toNatClampNeg) (xs (v3 + (3 : Int32)).toNatClampNeg) (xs (v3 + (4 : Int32)).toNatClampNeg) (xs (v3 + (5 : Int32)).toNatClampNeg)
  exact ⟨b1, b2, b3, b4, b5, h1 _ ⟨b1, b2, b3, b4, b5, h2 _ ⟨fun _ => hK _ _, fun h => h rfl⟩⟩⟩
theorem pw_34 {xs : Nat → Int32} {L : Nat} {v3 : Int32} {σ τ : St} {K : St → St → Prop} (hR : R_ok σ τ) (h12 : σ.1 12 = 0) (hK : ∀ σ' τ', K σ' τ') (b1 : vp_in (v3 + (1 : Int32)) L) (b2 : vp_in (v3 + (2 : Int32)) L) (b3 : vp_in (v3 + (3 : Int32)) L) (b4 : vp_in (v3 + (4 : Int32)) L) (b5 : vp_in (v3 + (5 : Int32)) L) : wL_34 xs L v3 σ τ K := by
  unfold wL_34
  obtain ⟨r, h1, h2⟩ := pr_asked hR
  exact h1 _ (h2 _ ⟨fun _ => hK _ _, fun h => h rfl⟩)
theorem pw_35 {xs : Nat → Int32} {L : Nat} {v3 : Int32} {σ τ : St} {K : St → St → Prop} (hR : R_ok σ τ) (h12 : σ.1 12 = 0) (hK : ∀ σ' τ', K σ' τ') (b1 : vp_in (v3 + (1 : Int32)) L) (b2 : vp_in (v3 + (2 : Int32)) L) (b3 : vp_in (v3 + (3 : Int32)) L) (b4 : vp_in (v3 + (4 : Int32)) L) (b5 : vp_in (v3 + (5 : Int32)) L) : wL_35 xs L v3 σ τ K := by
  unfold wL_35
  obtain ⟨r, σ1, h1, h2, h3⟩ := pr_count hR (xs (v3 + (1 : Int32)).toNatClampNeg)
  exact ⟨b1, h1 _ ⟨b1, h2 _ ⟨fun _ => hK _ _, fun h => h rfl⟩⟩⟩
theorem pw_36 {xs : Nat → Int32} {L : Nat} {v3 : Int32} {σ τ : St} {K : St → St → Prop} (hR : R_ok σ τ) (h12 : σ.1 12 = 0) (hK : ∀ σ' τ', K σ' τ') (b1 : vp_in (v3 + (1 : Int32)) L) (b2 : vp_in (v3 + (2 : Int32)) L) (b3 : vp_in (v3 + (3 : Int32)) L) (b4 : vp_in (v3 + (4 : Int32)) L) (b5 : vp_in (v3 + (5 : Int32)) L) : wL_36 xs L v3 σ τ K := by
  unfold wL_36
  obtain ⟨r, h1, h2⟩ := pr_finding hR
  exact h1 _ (h2 _ ⟨fun _ => hK _ _, fun h => h rfl⟩)
theorem pw_37 {xs : Nat → Int32} {L : Nat} {v3 : Int32} {σ τ : St} {K : St → St → Prop} (hR : R_ok σ τ) (h12 : σ.1 12 = 0) (hK : ∀ σ' τ', K σ' τ') (b1 : vp_in (v3 + (1 : Int32)) L) (b2 : vp_in (v3 + (2 : Int32)) L) (b3 : vp_in (v3 + (3 : Int32)) L) (b4 : vp_in (v3 + (4 : Int32)) L) (b5 : vp_in (v3 + (5 : Int32)) L) : wL_37 xs L v3 σ τ K := by
  unfold wL_37
  obtain ⟨r, h1, h2⟩ := pr_findings hR (xs (v3 + (1 : Int32)).toNatClampNeg)
  exact ⟨b1, h1 _ ⟨b1, h2 _ ⟨fun _ => hK _ _, fun h => h rfl⟩⟩⟩
theorem pw_38 {xs : Nat → Int32} {L : Nat} {v3 : Int32} {σ τ : St} {K : St → St → Prop} (hR : R_ok σ τ) (h12 : σ.1 12 = 0) (hK : ∀ σ' τ', K σ' τ') (b1 : vp_in (v3 + (1 : Int32)) L) (b2 : vp_in (v3 + (2 : Int32)) L) (b3 : vp_in (v3 + (3 : Int32)) L) (b4 : vp_in (v3 + (4 : Int32)) L) (b5 : vp_in (v3 + (5 : Int32)) L) : wL_38 xs L v3 σ τ K := by
  unfold wL_38
  obtain ⟨r, σ1, h1, h2, h3⟩ := pr_digest hR
  exact h1 _ (h2 _ ⟨fun _ => hK _ _, fun h => h (by unfold lg_cmp; simp)⟩)
theorem pr_law (xs : Nat → Int32) (L : Nat) (hL : L ≤ 6) (τ0 : St) (h0 : τ0 = m_start) : ∃ n : Nat, lpL xs L n 0 x_init τ0 := by
  subst h0
  have e : (Int32.ofNat L - 6).toInt = (L : Int) - 6 := pk_sub_toInt (a := L) (b := 6) (by omega) (by omega)
  have e6 : nI 0 + 6 = nI 6 := nI_add 0 6
  have hK : ∀ σ' τ' : St, ∀ x2 : Int32, x2 = nI 0 + 6 → lpL xs L 1 x2 σ' τ' := by
    intro σ' τ' x2 hx
    rw [hx, e6, lpL]
    intro h
    exfalso
    apply h
    rw [fa_lt, nI_toInt (by omega), e]
    omega
  have main : lpL xs L 2 (nI 0) x_init m_start := by
    rw [lpL]
    intro h
    have hle : 6 ≤ L := by
      rcases Nat.lt_or_ge L 6 with z | z
      · exfalso
        apply h
        rw [fa_lt, nI_toInt (by omega), e]
        omega
      · exact z
    have hb : ∀ j : Nat, j < 6 → vp_in (nI 0 + nI j) L := fun j hj => by rw [nI_add]; exact vp_in_nI (by omega) (by omega)
    refine ⟨vp_in_nI (by omega) (by omega), fun x1 _ => ?_⟩
    exact ⟨fun _ => pw_0 R_start rfl hK (hb 1 (by omega)) (hb 2 (by omega)) (hb 3 (by omega)) (hb 4 (by omega)) (hb 5 (by omega)), fun _ => pw_1 R_start rfl hK (hb 1 (by omega)) (hb 2 (by omega)) (hb 3 (by omega)) (hb 4 (by omega)) (hb 5 (by omega)), fun _ => pw_2 R_start rfl hK (hb 1 (by omega)) (hb 2 (by omega)) (hb 3 (by omega)) (hb 4 (by omega)) (hb 5 (by omega)), fun _ => pw_3 R_start rfl hK (hb 1 (by omega)) (hb 2 (by omega)) (hb 3 (by omega)) (hb 4 (by omega)) (hb 5 (by omega)), fun _ => pw_4 R_start rfl hK (hb 1 (by omega)) (hb 2 (by omega)) (hb 3 (by omega)) (hb 4 (by omega)) (hb 5 (by omega)), fun _ => pw_5 R_start rfl hK (hb 1 (by omega)) (hb 2 (by omega)) (hb 3 (by omega)) (hb 4 (by omega)) (hb 5 (by omega)), fun _ => pw_6 R_start rfl hK (hb 1 (by omega)) (hb 2 (by omega)) (hb 3 (by omega)) (hb 4 (by omega)) (hb 5 (by omega)), fun _ => pw_7 R_start rfl hK (hb 1 (by omega)) (hb 2 (by omega)) (hb 3 (by omega)) (hb 4 (by omega)) (hb 5 (by omega)), fun _ => pw_8 R_start rfl hK (hb 1 (by omega)) (hb 2 (by omega)) (hb 3 (by omega)) (hb 4 (by omega)) (hb 5 (by omega)), fun _ => pw_9 R_start rfl hK (hb 1 (by omega)) (hb 2 (by omega)) (hb 3 (by omega)) (hb 4 (by omega)) (hb 5 (by omega)), fun _ => pw_10 R_start rfl hK (hb 1 (by omega)) (hb 2 (by omega)) (hb 3 (by omega)) (hb 4 (by omega)) (hb 5 (by omega)), fun _ => pw_11 R_start rfl hK (hb 1 (by omega)) (hb 2 (by omega)) (hb 3 (by omega)) (hb 4 (by omega)) (hb 5 (by omega)), fun _ => pw_12 R_start rfl hK (hb 1 (by omega)) (hb 2 (by omega)) (hb 3 (by omega)) (hb 4 (by omega)) (hb 5 (by omega)), fun _ => pw_13 R_start rfl hK (hb 1 (by omega)) (hb 2 (by omega)) (hb 3 (by omega)) (hb 4 (by omega)) (hb 5 (by omega)), fun _ => pw_14 R_start rfl hK (hb 1 (by omega)) (hb 2 (by omega)) (hb 3 (by omega)) (hb 4 (by omega)) (hb 5 (by omega)), fun _ => pw_15 R_start rfl hK (hb 1 (by omega)) (hb 2 (by omega)) (hb 3 (by omega)) (hb 4 (by omega)) (hb 5 (by omega)), fun _ => pw_16 R_start rfl hK (hb 1 (by omega)) (hb 2 (by omega)) (hb 3 (by omega)) (hb 4 (by omega)) (hb 5 (by omega)), fun _ => pw_17 R_start rfl hK (hb 1 (by omega)) (hb 2 (by omega)) (hb 3 (by omega)) (hb 4 (by omega)) (hb 5 (by omega)), fun _ => pw_18 R_start rfl hK (hb 1 (by omega)) (hb 2 (by omega)) (hb 3 (by omega)) (hb 4 (by omega)) (hb 5 (by omega)), fun _ => pw_19 R_start rfl hK (hb 1 (by omega)) (hb 2 (by omega)) (hb 3 (by omega)) (hb 4 (by omega)) (hb 5 (by omega)), fun _ => pw_20 R_start rfl hK (hb 1 (by omega)) (hb 2 (by omega)) (hb 3 (by omega)) (hb 4 (by omega)) (hb 5 (by omega)), fun _ => pw_21 R_start rfl hK (hb 1 (by omega)) (hb 2 (by omega)) (hb 3 (by omega)) (hb 4 (by omega)) (hb 5 (by omega)), fun _ => pw_22 R_start rfl hK (hb 1 (by omega)) (hb 2 (by omega)) (hb 3 (by omega)) (hb 4 (by omega)) (hb 5 (by omega)), fun _ => pw_23 R_start rfl hK (hb 1 (by omega)) (hb 2 (by omega)) (hb 3 (by omega)) (hb 4 (by omega)) (hb 5 (by omega)), fun _ => pw_24 R_start rfl hK (hb 1 (by omega)) (hb 2 (by omega)) (hb 3 (by omega)) (hb 4 (by omega)) (hb 5 (by omega)), fun _ => pw_25 R_start rfl hK (hb 1 (by omega)) (hb 2 (by omega)) (hb 3 (by omega)) (hb 4 (by omega)) (hb 5 (by omega)), fun _ => pw_26 R_start rfl hK (hb 1 (by omega)) (hb 2 (by omega)) (hb 3 (by omega)) (hb 4 (by omega)) (hb 5 (by omega)), fun _ => pw_27 R_start rfl hK (hb 1 (by omega)) (hb 2 (by omega)) (hb 3 (by omega)) (hb 4 (by omega)) (hb 5 (by omega)), fun _ => pw_28 R_start rfl hK (hb 1 (by omega)) (hb 2 (by omega)) (hb 3 (by omega)) (hb 4 (by omega)) (hb 5 (by omega)), fun _ => pw_29 R_start rfl hK (hb 1 (by omega)) (hb 2 (by omega)) (hb 3 (by omega)) (hb 4 (by omega)) (hb 5 (by omega)), fun _ => pw_30 R_start rfl hK (hb 1 (by omega)) (hb 2 (by omega)) (hb 3 (by omega)) (hb 4 (by omega)) (hb 5 (by omega)), fun _ => pw_31 R_start rfl hK (hb 1 (by omega)) (hb 2 (by omega)) (hb 3 (by omega)) (hb 4 (by omega)) (hb 5 (by omega)), fun _ => pw_32 R_start rfl hK (hb 1 (by omega)) (hb 2 (by omega)) (hb 3 (by omega)) (hb 4 (by omega)) (hb 5 (by omega)), fun _ => pw_33 R_start rfl hK (hb 1 (by omega)) (hb 2 (by omega)) (hb 3 (by omega)) (hb 4 (by omega)) (hb 5 (by omega)), fun _ => pw_34 R_start rfl hK (hb 1 (by omega)) (hb 2 (by omega)) (hb 3 (by omega)) (hb 4 (by omega)) (hb 5 (by omega)), fun _ => pw_35 R_start rfl hK (hb 1 (by omega)) (hb 2 (by omega)) (hb 3 (by omega)) (hb 4 (by omega)) (hb 5 (by omega)), fun _ => pw_36 R_start rfl hK (hb 1 (by omega)) (hb 2 (by omega)) (hb 3 (by omega)) (hb 4 (by omega)) (hb 5 (by omega)), fun _ => pw_37 R_start rfl hK (hb 1 (by omega)) (hb 2 (by omega)) (hb 3 (by omega)) (hb 4 (by omega)) (hb 5 (by omega)), fun _ => pw_38 R_start rfl hK (hb 1 (by omega)) (hb 2 (by omega)) (hb 3 (by omega)) (hb 4 (by omega)) (hb 5 (by omega)), fun _ => hK x_init m_start⟩
  exact ⟨_, main⟩

