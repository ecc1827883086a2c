/-! ===== the law, over WW (printed by purelawp.py) ===== -/
theorem pw_0 {xs : Nat → Int32} {L : Nat} {v3 : Int32} {σ τ : St} {K : St → St → Prop} (hR : WW σ τ) (hK : ∀ σ' τ', WW σ' τ' → K σ' τ') (b1 : vp_in (v3 + (1 : Int32)) L) (b2 : vp_in (v3 + (2 : Int32)) L) (b3 : vp_in (v3 + (3 : Int32)) L) (b4 : vp_in (v3 + (4 : Int32)) L) (b5 : vp_in (v3 + (5 : Int32)) L) : wL_0 xs L v3 σ τ K := by
  unfold wL_0
  obtain ⟨r, σ1, τ1, h1, h2, h3⟩ := pq_person hR (xs (v3 + (1 : Int32)).toNatClampNeg) (xs (v3 + (2 : Int32)).toNatClampNeg)
  exact ⟨b1, b2, h1 _ ⟨b1, b2, h2 _ (hK _ _ h3)⟩⟩
theorem pw_1 {xs : Nat → Int32} {L : Nat} {v3 : Int32} {σ τ : St} {K : St → St → Prop} (hR : WW σ τ) (hK : ∀ σ' τ', WW σ' τ' → K σ' τ') (b1 : vp_in (v3 + (1 : Int32)) L) (b2 : vp_in (v3 + (2 : Int32)) L) (b3 : vp_in (v3 + (3 : Int32)) L) (b4 : vp_in (v3 + (4 : Int32)) L) (b5 : vp_in (v3 + (5 : Int32)) L) : wL_1 xs L v3 σ τ K := by
  unfold wL_1
  obtain ⟨r, r', σ1, τ1, h1, h2, h3⟩ := pd_change hR (xs (v3 + (1 : Int32)).toNatClampNeg) (xs (v3 + (2 : Int32)).toNatClampNeg) (xs (v3 + (3 : Int32)).toNatClampNeg)
  exact ⟨b1, b2, b3, h1 _ ⟨b1, b2, b3, h2 _ (hK _ _ h3)⟩⟩
theorem pw_2 {xs : Nat → Int32} {L : Nat} {v3 : Int32} {σ τ : St} {K : St → St → Prop} (hR : WW σ τ) (hK : ∀ σ' τ', WW σ' τ' → K σ' τ') (b1 : vp_in (v3 + (1 : Int32)) L) (b2 : vp_in (v3 + (2 : Int32)) L) (b3 : vp_in (v3 + (3 : Int32)) L) (b4 : vp_in (v3 + (4 : Int32)) L) (b5 : vp_in (v3 + (5 : Int32)) L) : wL_2 xs L v3 σ τ K := by
  unfold wL_2
  obtain ⟨r, r', h1, h2⟩ := pd_told hR (xs (v3 + (1 : Int32)).toNatClampNeg) (xs (v3 + (2 : Int32)).toNatClampNeg)
  exact ⟨b1, b2, h1 _ ⟨b1, b2, h2 _ (hK _ _ hR)⟩⟩
theorem pw_3 {xs : Nat → Int32} {L : Nat} {v3 : Int32} {σ τ : St} {K : St → St → Prop} (hR : WW σ τ) (hK : ∀ σ' τ', WW σ' τ' → K σ' τ') (b1 : vp_in (v3 + (1 : Int32)) L) (b2 : vp_in (v3 + (2 : Int32)) L) (b3 : vp_in (v3 + (3 : Int32)) L) (b4 : vp_in (v3 + (4 : Int32)) L) (b5 : vp_in (v3 + (5 : Int32)) L) : wL_3 xs L v3 σ τ K := by
  unfold wL_3
  obtain ⟨r, σ1, τ1, h1, h2, h3⟩ := pq_standby hR (xs (v3 + (1 : Int32)).toNatClampNeg)
  exact ⟨b1, h1 _ ⟨b1, h2 _ (hK _ _ h3)⟩⟩
theorem pw_4 {xs : Nat → Int32} {L : Nat} {v3 : Int32} {σ τ : St} {K : St → St → Prop} (hR : WW σ τ) (hK : ∀ σ' τ', WW σ' τ' → K σ' τ') (b1 : vp_in (v3 + (1 : Int32)) L) (b2 : vp_in (v3 + (2 : Int32)) L) (b3 : vp_in (v3 + (3 : Int32)) L) (b4 : vp_in (v3 + (4 : Int32)) L) (b5 : vp_in (v3 + (5 : Int32)) L) : wL_4 xs L v3 σ τ K := by
  unfold wL_4
  obtain ⟨r, σ1, τ1, h1, h2, h3⟩ := pq_rule hR (xs (v3 + (1 : Int32)).toNatClampNeg) (xs (v3 + (2 : Int32)).toNatClampNeg) (xs (v3 + (3 : Int32)).toNatClampNeg)
  exact ⟨b1, b2, b3, h1 _ ⟨b1, b2, b3, h2 _ (hK _ _ h3)⟩⟩
theorem pw_5 {xs : Nat → Int32} {L : Nat} {v3 : Int32} {σ τ : St} {K : St → St → Prop} (hR : WW σ τ) (hK : ∀ σ' τ', WW σ' τ' → K σ' τ') (b1 : vp_in (v3 + (1 : Int32)) L) (b2 : vp_in (v3 + (2 : Int32)) L) (b3 : vp_in (v3 + (3 : Int32)) L) (b4 : vp_in (v3 + (4 : Int32)) L) (b5 : vp_in (v3 + (5 : Int32)) L) : wL_5 xs L v3 σ τ K := by
  unfold wL_5
  obtain ⟨r, σ1, τ1, h1, h2, h3⟩ := pq_later hR (xs (v3 + (1 : Int32)).toNatClampNeg)
  exact ⟨b1, h1 _ ⟨b1, h2 _ (hK _ _ h3)⟩⟩
theorem pw_6 {xs : Nat → Int32} {L : Nat} {v3 : Int32} {σ τ : St} {K : St → St → Prop} (hR : WW σ τ) (hK : ∀ σ' τ', WW σ' τ' → K σ' τ') (b1 : vp_in (v3 + (1 : Int32)) L) (b2 : vp_in (v3 + (2 : Int32)) L) (b3 : vp_in (v3 + (3 : Int32)) L) (b4 : vp_in (v3 + (4 : Int32)) L) (b5 : vp_in (v3 + (5 : Int32)) L) : wL_6 xs L v3 σ τ K := by
  unfold wL_6
  obtain ⟨r, r', σ1, τ1, h1, h2, h3⟩ := pd_use hR (xs (v3 + (1 : Int32)).toNatClampNeg) (xs (v3 + (2 : Int32)).toNatClampNeg) (xs (v3 + (3 : Int32)).toNatClampNeg)
  exact ⟨b1, b2, b3, h1 _ ⟨b1, b2, b3, h2 _ (hK _ _ h3)⟩⟩
theorem pw_7 {xs : Nat → Int32} {L : Nat} {v3 : Int32} {σ τ : St} {K : St → St → Prop} (hR : WW σ τ) (hK : ∀ σ' τ', WW σ' τ' → K σ' τ') (b1 : vp_in (v3 + (1 : Int32)) L) (b2 : vp_in (v3 + (2 : Int32)) L) (b3 : vp_in (v3 + (3 : Int32)) L) (b4 : vp_in (v3 + (4 : Int32)) L) (b5 : vp_in (v3 + (5 : Int32)) L) : wL_7 xs L v3 σ τ K := by
  unfold wL_7
  obtain ⟨r, r', h1, h2⟩ := pd_kind hR (xs (v3 + (1 : Int32)).toNatClampNeg) (xs (v3 + (2 : Int32)).toNatClampNeg)
  exact ⟨b1, b2, h1 _ ⟨b1, b2, h2 _ (hK _ _ hR)⟩⟩
theorem pw_8 {xs : Nat → Int32} {L : Nat} {v3 : Int32} {σ τ : St} {K : St → St → Prop} (hR : WW σ τ) (hK : ∀ σ' τ', WW σ' τ' → K σ' τ') (b1 : vp_in (v3 + (1 : Int32)) L) (b2 : vp_in (v3 + (2 : Int32)) L) (b3 : vp_in (v3 + (3 : Int32)) L) (b4 : vp_in (v3 + (4 : Int32)) L) (b5 : vp_in (v3 + (5 : Int32)) L) : wL_8 xs L v3 σ τ K := by
  unfold wL_8
  obtain ⟨r, r', σ1, τ1, h1, h2, h3⟩ := pd_uses hR (xs (v3 + (1 : Int32)).toNatClampNeg) (xs (v3 + (2 : Int32)).toNatClampNeg) (xs (v3 + (3 : Int32)).toNatClampNeg)
  exact ⟨b1, b2, b3, h1 _ ⟨b1, b2, b3, h2 _ (hK _ _ h3)⟩⟩
theorem pw_9 {xs : Nat → Int32} {L : Nat} {v3 : Int32} {σ τ : St} {K : St → St → Prop} (hR : WW σ τ) (hK : ∀ σ' τ', WW σ' τ' → K σ' τ') (b1 : vp_in (v3 + (1 : Int32)) L) (b2 : vp_in (v3 + (2 : Int32)) L) (b3 : vp_in (v3 + (3 : Int32)) L) (b4 : vp_in (v3 + (4 : Int32)) L) (b5 : vp_in (v3 + (5 : Int32)) L) : wL_9 xs L v3 σ τ K := by
  unfold wL_9
  obtain ⟨r, r', σ1, τ1, h1, h2, h3⟩ := pd_strike hR (xs (v3 + (1 : Int32)).toNatClampNeg)
  exact ⟨b1, h1 _ ⟨b1, h2 _ (hK _ _ h3)⟩⟩
theorem pw_10 {xs : Nat → Int32} {L : Nat} {v3 : Int32} {σ τ : St} {K : St → St → Prop} (hR : WW σ τ) (hK : ∀ σ' τ', WW σ' τ' → K σ' τ') (b1 : vp_in (v3 + (1 : Int32)) L) (b2 : vp_in (v3 + (2 : Int32)) L) (b3 : vp_in (v3 + (3 : Int32)) L) (b4 : vp_in (v3 + (4 : Int32)) L) (b5 : vp_in (v3 + (5 : Int32)) L) : wL_10 xs L v3 σ τ K := by
  unfold wL_10
  obtain ⟨r, r', σ1, τ1, h1, h2, h3⟩ := pd_ask hR (xs (v3 + (1 : Int32)).toNatClampNeg) (xs (v3 + (2 : Int32)).toNatClampNeg)
  exact ⟨b1, b2, h1 _ ⟨b1, b2, h2 _ (hK _ _ h3)⟩⟩
theorem pw_11 {xs : Nat → Int32} {L : Nat} {v3 : Int32} {σ τ : St} {K : St → St → Prop} (hR : WW σ τ) (hK : ∀ σ' τ', WW σ' τ' → K σ' τ') (b1 : vp_in (v3 + (1 : Int32)) L) (b2 : vp_in (v3 + (2 : Int32)) L) (b3 : vp_in (v3 + (3 : Int32)) L) (b4 : vp_in (v3 + (4 : Int32)) L) (b5 : vp_in (v3 + (5 : Int32)) L) : wL_11 xs L v3 σ τ K := by
  unfold wL_11
  obtain ⟨r, r', h1, h2⟩ := pd_asks hR (xs (v3 + (1 : Int32)).toNatClampNeg)
  exact ⟨b1, h1 _ ⟨b1, h2 _ (hK _ _ hR)⟩⟩
theorem pw_12 {xs : Nat → Int32} {L : Nat} {v3 : Int32} {σ τ : St} {K : St → St → Prop} (hR : WW σ τ) (hK : ∀ σ' τ', WW σ' τ' → K σ' τ') (b1 : vp_in (v3 + (1 : Int32)) L) (b2 : vp_in (v3 + (2 : Int32)) L) (b3 : vp_in (v3 + (3 : Int32)) L) (b4 : vp_in (v3 + (4 : Int32)) L) (b5 : vp_in (v3 + (5 : Int32)) L) : wL_12 xs L v3 σ τ K := by
  unfold wL_12
  obtain ⟨r, r', σ1, τ1, h1, h2, h3⟩ := pd_candidates hR
  exact h1 _ (h2 _ (hK _ _ h3))
theorem pw_13 {xs : Nat → Int32} {L : Nat} {v3 : Int32} {σ τ : St} {K : St → St → Prop} (hR : WW σ τ) (hK : ∀ σ' τ', WW σ' τ' → K σ' τ') (b1 : vp_in (v3 + (1 : Int32)) L) (b2 : vp_in (v3 + (2 : Int32)) L) (b3 : vp_in (v3 + (3 : Int32)) L) (b4 : vp_in (v3 + (4 : Int32)) L) (b5 : vp_in (v3 + (5 : Int32)) L) : wL_13 xs L v3 σ τ K := by
  unfold wL_13
  obtain ⟨r, r', σ1, τ1, h1, h2, h3⟩ := pd_roles hR (xs (v3 + (1 : Int32)).toNatClampNeg)
  exact ⟨b1, h1 _ ⟨b1, h2 _ (hK _ _ h3)⟩⟩
theorem pw_14 {xs : Nat → Int32} {L : Nat} {v3 : Int32} {σ τ : St} {K : St → St → Prop} (hR : WW σ τ) (hK : ∀ σ' τ', WW σ' τ' → K σ' τ') (b1 : vp_in (v3 + (1 : Int32)) L) (b2 : vp_in (v3 + (2 : Int32)) L) (b3 : vp_in (v3 + (3 : Int32)) L) (b4 : vp_in (v3 + (4 : Int32)) L) (b5 : vp_in (v3 + (5 : Int32)) L) : wL_14 xs L v3 σ τ K := by
  unfold wL_14
  obtain ⟨r, r', h1, h2⟩ := pd_tries hR
  exact h1 _ (h2 _ (hK _ _ hR))
theorem pw_15 {xs : Nat → Int32} {L : Nat} {v3 : Int32} {σ τ : St} {K : St → St → Prop} (hR : WW σ τ) (hK : ∀ σ' τ', WW σ' τ' → K σ' τ') (b1 : vp_in (v3 + (1 : Int32)) L) (b2 : vp_in (v3 + (2 : Int32)) L) (b3 : vp_in (v3 + (3 : Int32)) L) (b4 : vp_in (v3 + (4 : Int32)) L) (b5 : vp_in (v3 + (5 : Int32)) L) : wL_15 xs L v3 σ τ K := by
  unfold wL_15
  obtain ⟨r, r', h1, h2⟩ := pd_role hR (xs (v3 + (1 : Int32)).toNatClampNeg)
  exact ⟨b1, h1 _ ⟨b1, h2 _ (hK _ _ hR)⟩⟩
theorem pw_16 {xs : Nat → Int32} {L : Nat} {v3 : Int32} {σ τ : St} {K : St → St → Prop} (hR : WW σ τ) (hK : ∀ σ' τ', WW σ' τ' → K σ' τ') (b1 : vp_in (v3 + (1 : Int32)) L) (b2 : vp_in (v3 + (2 : Int32)) L) (b3 : vp_in (v3 + (3 : Int32)) L) (b4 : vp_in (v3 + (4 : Int32)) L) (b5 : vp_in (v3 + (5 : Int32)) L) : wL_16 xs L v3 σ τ K := by
  unfold wL_16
  obtain ⟨r, r', h1, h2⟩ := pd_rolesOf hR (xs (v3 + (1 : Int32)).toNatClampNeg)
  exact ⟨b1, h1 _ ⟨b1, h2 _ (hK _ _ hR)⟩⟩
theorem pw_17 {xs : Nat → Int32} {L : Nat} {v3 : Int32} {σ τ : St} {K : St → St → Prop} (hR : WW σ τ) (hK : ∀ σ' τ', WW σ' τ' → K σ' τ') (b1 : vp_in (v3 + (1 : Int32)) L) (b2 : vp_in (v3 + (2 : Int32)) L) (b3 : vp_in (v3 + (3 : Int32)) L) (b4 : vp_in (v3 + (4 : Int32)) L) (b5 : vp_in (v3 + (5 : Int32)) L) : wL_17 xs L v3 σ τ K := by
  unfold wL_17
  obtain ⟨r, r', σ1, τ1, h1, h2, h3⟩ := pd_marksOf hR (xs (v3 + (1 : Int32)).toNatClampNeg)
  exact ⟨b1, h1 _ ⟨b1, h2 _ (hK _ _ h3)⟩⟩
theorem pw_18 {xs : Nat → Int32} {L : Nat} {v3 : Int32} {σ τ : St} {K : St → St → Prop} (hR : WW σ τ) (hK : ∀ σ' τ', WW σ' τ' → K σ' τ') (b1 : vp_in (v3 + (1 : Int32)) L) (b2 : vp_in (v3 + (2 : Int32)) L) (b3 : vp_in (v3 + (3 : Int32)) L) (b4 : vp_in (v3 + (4 : Int32)) L) (b5 : vp_in (v3 + (5 : Int32)) L) : wL_18 xs L v3 σ τ K := by
  unfold wL_18
  obtain ⟨r, r', h1, h2⟩ := pd_exceptions hR (xs (v3 + (1 : Int32)).toNatClampNeg) (xs (v3 + (2 : Int32)).toNatClampNeg)
  exact ⟨b1, b2, h1 _ ⟨b1, b2, h2 _ (hK _ _ hR)⟩⟩
theorem pw_19 {xs : Nat → Int32} {L : Nat} {v3 : Int32} {σ τ : St} {K : St → St → Prop} (hR : WW σ τ) (hK : ∀ σ' τ', WW σ' τ' → K σ' τ') (b1 : vp_in (v3 + (1 : Int32)) L) (b2 : vp_in (v3 + (2 : Int32)) L) (b3 : vp_in (v3 + (3 : Int32)) L) (b4 : vp_in (v3 + (4 : Int32)) L) (b5 : vp_in (v3 + (5 : Int32)) L) : wL_19 xs L v3 σ τ K := by
  unfold wL_19
  by_cases c : xs (v3 + (3 : Int32)).toNatClampNeg = 0
  · obtain ⟨r, σ1, τ1, h1, h2, h3⟩ := pq_ban hR (xs (v3 + (1 : Int32)).toNatClampNeg) (xs (v3 + (2 : Int32)).toNatClampNeg) (0 : Int32)
    first
    | exact ⟨b1, b2, b3, ⟨fun _ => h1 _ ⟨b1, b2, b3, ⟨fun _ => h2 _ (hK _ _ h3), fun h => absurd c h⟩⟩, fun h => absurd c h⟩⟩
    | exact ⟨b1, b2, b3, ⟨fun h => absurd c h, fun _ => h1 _ ⟨b1, b2, b3, ⟨fun h => absurd c h, fun _ => h2 _ (hK _ _ h3)⟩⟩⟩⟩
  · obtain ⟨r, σ1, τ1, h1, h2, h3⟩ := pq_ban hR (xs (v3 + (1 : Int32)).toNatClampNeg) (xs (v3 + (2 : Int32)).toNatClampNeg) (1 : Int32)
    first
    | exact ⟨b1, b2, b3, ⟨fun h => absurd h c, fun _ => h1 _ ⟨b1, b2, b3, ⟨fun h => absurd h c, fun _ => h2 _ (hK _ _ h3)⟩⟩⟩⟩
    | exact ⟨b1, b2, b3, ⟨fun _ => h1 _ ⟨b1, b2, b3, ⟨fun _ => h2 _ (hK _ _ h3), fun h => absurd h c⟩⟩, fun h => absurd h c⟩⟩
theorem pw_20 {xs : Nat → Int32} {L : Nat} {v3 : Int32} {σ τ : St} {K : St → St → Prop} (hR : WW σ τ) (hK : ∀ σ' τ', WW σ' τ' → K σ' τ') (b1 : vp_in (v3 + (1 : Int32)) L) (b2 : vp_in (v3 + (2 : Int32)) L) (b3 : vp_in (v3 + (3 : Int32)) L) (b4 : vp_in (v3 + (4 : Int32)) L) (b5 : vp_in (v3 + (5 : Int32)) L) : wL_20 xs L v3 σ τ K := by
  unfold wL_20
  obtain ⟨r, r', h1, h2⟩ := pd_breach hR
  exact h1 _ (h2 _ (hK _ _ hR))
theorem pw_21 {xs : Nat → Int32} {L : Nat} {v3 : Int32} {σ τ : St} {K : St → St → Prop} (hR : WW σ τ) (hK : ∀ σ' τ', WW σ' τ' → K σ' τ') (b1 : vp_in (v3 + (1 : Int32)) L) (b2 : vp_in (v3 + (2 : Int32)) L) (b3 : vp_in (v3 + (3 : Int32)) L) (b4 : vp_in (v3 + (4 : Int32)) L) (b5 : vp_in (v3 + (5 : Int32)) L) : wL_21 xs L v3 σ τ K := by
  unfold wL_21
  obtain ⟨r, r', h1, h2⟩ := pd_least hR (xs (v3 + (1 : Int32)).toNatClampNeg)
  exact ⟨b1, h1 _ ⟨b1, h2 _ (hK _ _ hR)⟩⟩
theorem pw_22 {xs : Nat → Int32} {L : Nat} {v3 : Int32} {σ τ : St} {K : St → St → Prop} (hR : WW σ τ) (hK : ∀ σ' τ', WW σ' τ' → K σ' τ') (b1 : vp_in (v3 + (1 : Int32)) L) (b2 : vp_in (v3 + (2 : Int32)) L) (b3 : vp_in (v3 + (3 : Int32)) L) (b4 : vp_in (v3 + (4 : Int32)) L) (b5 : vp_in (v3 + (5 : Int32)) L) : wL_22 xs L v3 σ τ K := by
  unfold wL_22
  obtain ⟨r, r', h1, h2⟩ := pd_badRole hR
  exact h1 _ (h2 _ (hK _ _ hR))
theorem pw_23 {xs : Nat → Int32} {L : Nat} {v3 : Int32} {σ τ : St} {K : St → St → Prop} (hR : WW σ τ) (hK : ∀ σ' τ', WW σ' τ' → K σ' τ') (b1 : vp_in (v3 + (1 : Int32)) L) (b2 : vp_in (v3 + (2 : Int32)) L) (b3 : vp_in (v3 + (3 : Int32)) L) (b4 : vp_in (v3 + (4 : Int32)) L) (b5 : vp_in (v3 + (5 : Int32)) L) : wL_23 xs L v3 σ τ K := by
  unfold wL_23
  by_cases c : xs (v3 + (1 : Int32)).toNatClampNeg = 0
  · obtain ⟨r, r', σ1, τ1, h1, h2, h3⟩ := pd_plan hR  (0 : Int32)
    first
    | exact ⟨b1, ⟨fun _ => h1 _ ⟨b1, ⟨fun _ => h2 _ (hK _ _ h3), fun h => absurd c h⟩⟩, fun h => absurd c h⟩⟩
    | exact ⟨b1, ⟨fun h => absurd c h, fun _ => h1 _ ⟨b1, ⟨fun h => absurd c h, fun _ => h2 _ (hK _ _ h3)⟩⟩⟩⟩
  · obtain ⟨r, r', σ1, τ1, h1, h2, h3⟩ := pd_plan hR  (1 : Int32)
    first
    | exact ⟨b1, ⟨fun h => absurd h c, fun _ => h1 _ ⟨b1, ⟨fun h => absurd h c, fun _ => h2 _ (hK _ _ h3)⟩⟩⟩⟩
    | exact ⟨b1, ⟨fun _ => h1 _ ⟨b1, ⟨fun _ => h2 _ (hK _ _ h3), fun h => absurd h c⟩⟩, fun h => absurd h c⟩⟩
theorem pw_24 {xs : Nat → Int32} {L : Nat} {v3 : Int32} {σ τ : St} {K : St → St → Prop} (hR : WW σ τ) (hK : ∀ σ' τ', WW σ' τ' → K σ' τ') (b1 : vp_in (v3 + (1 : Int32)) L) (b2 : vp_in (v3 + (2 : Int32)) L) (b3 : vp_in (v3 + (3 : Int32)) L) (b4 : vp_in (v3 + (4 : Int32)) L) (b5 : vp_in (v3 + (5 : Int32)) L) : wL_24 xs L v3 σ τ K := by
  unfold wL_24
  obtain ⟨r, r', σ1, τ1, h1, h2, h3⟩ := pd_takeOut hR (xs (v3 + (1 : Int32)).toNatClampNeg) (xs (v3 + (2 : Int32)).toNatClampNeg)
  exact ⟨b1, b2, h1 _ ⟨b1, b2, h2 _ (hK _ _ h3)⟩⟩
theorem pw_25 {xs : Nat → Int32} {L : Nat} {v3 : Int32} {σ τ : St} {K : St → St → Prop} (hR : WW σ τ) (hK : ∀ σ' τ', WW σ' τ' → K σ' τ') (b1 : vp_in (v3 + (1 : Int32)) L) (b2 : vp_in (v3 + (2 : Int32)) L) (b3 : vp_in (v3 + (3 : Int32)) L) (b4 : vp_in (v3 + (4 : Int32)) L) (b5 : vp_in (v3 + (5 : Int32)) L) : wL_25 xs L v3 σ τ K := by
  unfold wL_25
  obtain ⟨r, r', h1, h2⟩ := pd_stopped hR (xs (v3 + (1 : Int32)).toNatClampNeg)
  exact ⟨b1, h1 _ ⟨b1, h2 _ (hK _ _ hR)⟩⟩
theorem pw_26 {xs : Nat → Int32} {L : Nat} {v3 : Int32} {σ τ : St} {K : St → St → Prop} (hR : WW σ τ) (hK : ∀ σ' τ', WW σ' τ' → K σ' τ') (b1 : vp_in (v3 + (1 : Int32)) L) (b2 : vp_in (v3 + (2 : Int32)) L) (b3 : vp_in (v3 + (3 : Int32)) L) (b4 : vp_in (v3 + (4 : Int32)) L) (b5 : vp_in (v3 + (5 : Int32)) L) : wL_26 xs L v3 σ τ K := by
  unfold wL_26
  obtain ⟨r, r', h1, h2⟩ := pd_stop hR (xs (v3 + (1 : Int32)).toNatClampNeg) (xs (v3 + (2 : Int32)).toNatClampNeg)
  exact ⟨b1, b2, h1 _ ⟨b1, b2, h2 _ (hK _ _ hR)⟩⟩
theorem pw_27 {xs : Nat → Int32} {L : Nat} {v3 : Int32} {σ τ : St} {K : St → St → Prop} (hR : WW σ τ) (hK : ∀ σ' τ', WW σ' τ' → K σ' τ') (b1 : vp_in (v3 + (1 : Int32)) L) (b2 : vp_in (v3 + (2 : Int32)) L) (b3 : vp_in (v3 + (3 : Int32)) L) (b4 : vp_in (v3 + (4 : Int32)) L) (b5 : vp_in (v3 + (5 : Int32)) L) : wL_27 xs L v3 σ τ K := by
  unfold wL_27
  obtain ⟨r, r', h1, h2⟩ := pd_used hR (xs (v3 + (1 : Int32)).toNatClampNeg) (xs (v3 + (2 : Int32)).toNatClampNeg)
  exact ⟨b1, b2, h1 _ ⟨b1, b2, h2 _ (hK _ _ hR)⟩⟩
theorem pw_28 {xs : Nat → Int32} {L : Nat} {v3 : Int32} {σ τ : St} {K : St → St → Prop} (hR : WW σ τ) (hK : ∀ σ' τ', WW σ' τ' → K σ' τ') (b1 : vp_in (v3 + (1 : Int32)) L) (b2 : vp_in (v3 + (2 : Int32)) L) (b3 : vp_in (v3 + (3 : Int32)) L) (b4 : vp_in (v3 + (4 : Int32)) L) (b5 : vp_in (v3 + (5 : Int32)) L) : wL_28 xs L v3 σ τ K := by
  unfold wL_28
  obtain ⟨r, r', σ1, τ1, h1, h2, h3⟩ := pd_apply hR
  exact h1 _ (h2 _ (hK _ _ h3))
theorem pw_29 {xs : Nat → Int32} {L : Nat} {v3 : Int32} {σ τ : St} {K : St → St → Prop} (hR : WW σ τ) (hK : ∀ σ' τ', WW σ' τ' → K σ' τ') (b1 : vp_in (v3 + (1 : Int32)) L) (b2 : vp_in (v3 + (2 : Int32)) L) (b3 : vp_in (v3 + (3 : Int32)) L) (b4 : vp_in (v3 + (4 : Int32)) L) (b5 : vp_in (v3 + (5 : Int32)) L) : wL_29 xs L v3 σ τ K := by
  unfold wL_29
  obtain ⟨r, σ1, τ1, h1, h2, h3⟩ := pq_sheet hR (xs (v3 + (1 : Int32)).toNatClampNeg) (xs (v3 + (2 : Int32)).toNatClampNeg)
  exact ⟨b1, b2, h1 _ ⟨b1, b2, h2 _ (hK _ _ h3)⟩⟩
theorem pw_30 {xs : Nat → Int32} {L : Nat} {v3 : Int32} {σ τ : St} {K : St → St → Prop} (hR : WW σ τ) (hK : ∀ σ' τ', WW σ' τ' → K σ' τ') (b1 : vp_in (v3 + (1 : Int32)) L) (b2 : vp_in (v3 + (2 : Int32)) L) (b3 : vp_in (v3 + (3 : Int32)) L) (b4 : vp_in (v3 + (4 : Int32)) L) (b5 : vp_in (v3 + (5 : Int32)) L) : wL_30 xs L v3 σ τ K := by
  unfold wL_30
  obtain ⟨r, σ1, τ1, h1, h2, h3⟩ := pq_save hR (xs (v3 + (1 : Int32)).toNatClampNeg)
  exact ⟨b1, h1 _ ⟨b1, h2 _ (hK _ _ h3)⟩⟩
theorem pw_31 {xs : Nat → Int32} {L : Nat} {v3 : Int32} {σ τ : St} {K : St → St → Prop} (hR : WW σ τ) (hK : ∀ σ' τ', WW σ' τ' → K σ' τ') (b1 : vp_in (v3 + (1 : Int32)) L) (b2 : vp_in (v3 + (2 : Int32)) L) (b3 : vp_in (v3 + (3 : Int32)) L) (b4 : vp_in (v3 + (4 : Int32)) L) (b5 : vp_in (v3 + (5 : Int32)) L) : wL_31 xs L v3 σ τ K := by
  unfold wL_31
  obtain ⟨r, σ1, τ1, h1, h2, h3⟩ := pq_load hR (xs (v3 + (1 : Int32)).toNatClampNeg) (xs (v3 + (2 : Int32)).toNatClampNeg) (xs (v3 + (3 : Int32)).toNatClampNeg)
  exact ⟨b1, b2, b3, h1 _ ⟨b1, b2, b3, h2 _ (hK _ _ h3)⟩⟩
theorem pw_32 {xs : Nat → Int32} {L : Nat} {v3 : Int32} {σ τ : St} {K : St → St → Prop} (hR : WW σ τ) (hK : ∀ σ' τ', WW σ' τ' → K σ' τ') (b1 : vp_in (v3 + (1 : Int32)) L) (b2 : vp_in (v3 + (2 : Int32)) L) (b3 : vp_in (v3 + (3 : Int32)) L) (b4 : vp_in (v3 + (4 : Int32)) L) (b5 : vp_in (v3 + (5 : Int32)) L) : wL_32 xs L v3 σ τ K := by
  unfold wL_32
  obtain ⟨r, σ1, τ1, h1, h2, h3⟩ := pq_tear hR (xs (v3 + (1 : Int32)).toNatClampNeg)
  exact ⟨b1, h1 _ ⟨b1, h2 _ (hK _ _ h3)⟩⟩
theorem pw_33 {xs : Nat → Int32} {L : Nat} {v3 : Int32} {σ τ : St} {K : St → St → Prop} (hR : WW σ τ) (hK : ∀ σ' τ', WW σ' τ' → K σ' τ') (b1 : vp_in (v3 + (1 : Int32)) L) (b2 : vp_in (v3 + (2 : Int32)) L) (b3 : vp_in (v3 + (3 : Int32)) L) (b4 : vp_in (v3 + (4 : Int32)) L) (b5 : vp_in (v3 + (5 : Int32)) L) : wL_33 xs L v3 σ τ K := by
  unfold wL_33
  obtain ⟨r, σ1, τ1, h1, h2, h3⟩ := pq_copy hR (xs (v3 + (1 : Int32)).toNatClampNeg) (xs (v3 + (2 : Int32)).toNatClampNeg) (xs (v3 + (3 : Int32)).toNatClampNeg) (xs (v3 + (4 : Int32)).toNatClampNeg) (xs (v3 + (5 : Int32)).toNatClampNeg)
  exact ⟨b1, b2, b3, b4, b5, h1 _ ⟨b1, b2, b3, b4, b5, h2 _ ⟨fun _ => hK _ _ h3, fun h => h rfl⟩⟩⟩
theorem pw_34 {xs : Nat → Int32} {L : Nat} {v3 : Int32} {σ τ : St} {K : St → St → Prop} (hR : WW σ τ) (hK : ∀ σ' τ', WW σ' τ' → K σ' τ') (b1 : vp_in (v3 + (1 : Int32)) L) (b2 : vp_in (v3 + (2 : Int32)) L) (b3 : vp_in (v3 + (3 : Int32)) L) (b4 : vp_in (v3 + (4 : Int32)) L) (b5 : vp_in (v3 + (5 : Int32)) L) : wL_34 xs L v3 σ τ K := by
  unfold wL_34
  obtain ⟨r, r', h1, h2⟩ := pd_asked hR
  exact h1 _ (h2 _ (hK _ _ hR))
theorem pw_35 {xs : Nat → Int32} {L : Nat} {v3 : Int32} {σ τ : St} {K : St → St → Prop} (hR : WW σ τ) (hK : ∀ σ' τ', WW σ' τ' → K σ' τ') (b1 : vp_in (v3 + (1 : Int32)) L) (b2 : vp_in (v3 + (2 : Int32)) L) (b3 : vp_in (v3 + (3 : Int32)) L) (b4 : vp_in (v3 + (4 : Int32)) L) (b5 : vp_in (v3 + (5 : Int32)) L) : wL_35 xs L v3 σ τ K := by
  unfold wL_35
  obtain ⟨r, r', σ1, h1, h2, h3⟩ := pd_count hR (xs (v3 + (1 : Int32)).toNatClampNeg)
  exact ⟨b1, h1 _ ⟨b1, h2 _ (hK _ _ h3)⟩⟩
theorem pw_36 {xs : Nat → Int32} {L : Nat} {v3 : Int32} {σ τ : St} {K : St → St → Prop} (hR : WW σ τ) (hK : ∀ σ' τ', WW σ' τ' → K σ' τ') (b1 : vp_in (v3 + (1 : Int32)) L) (b2 : vp_in (v3 + (2 : Int32)) L) (b3 : vp_in (v3 + (3 : Int32)) L) (b4 : vp_in (v3 + (4 : Int32)) L) (b5 : vp_in (v3 + (5 : Int32)) L) : wL_36 xs L v3 σ τ K := by
  unfold wL_36
  obtain ⟨r, r', h1, h2⟩ := pd_finding hR
  exact h1 _ (h2 _ (hK _ _ hR))
theorem pw_37 {xs : Nat → Int32} {L : Nat} {v3 : Int32} {σ τ : St} {K : St → St → Prop} (hR : WW σ τ) (hK : ∀ σ' τ', WW σ' τ' → K σ' τ') (b1 : vp_in (v3 + (1 : Int32)) L) (b2 : vp_in (v3 + (2 : Int32)) L) (b3 : vp_in (v3 + (3 : Int32)) L) (b4 : vp_in (v3 + (4 : Int32)) L) (b5 : vp_in (v3 + (5 : Int32)) L) : wL_37 xs L v3 σ τ K := by
  unfold wL_37
  obtain ⟨r, r', h1, h2⟩ := pd_findings hR (xs (v3 + (1 : Int32)).toNatClampNeg)
  exact ⟨b1, h1 _ ⟨b1, h2 _ (hK _ _ hR)⟩⟩
theorem pw_38 {xs : Nat → Int32} {L : Nat} {v3 : Int32} {σ τ : St} {K : St → St → Prop} (hR : WW σ τ) (hK : ∀ σ' τ', WW σ' τ' → K σ' τ') (b1 : vp_in (v3 + (1 : Int32)) L) (b2 : vp_in (v3 + (2 : Int32)) L) (b3 : vp_in (v3 + (3 : Int32)) L) (b4 : vp_in (v3 + (4 : Int32)) L) (b5 : vp_in (v3 + (5 : Int32)) L) : wL_38 xs L v3 σ τ K := by
  unfold wL_38
  obtain ⟨r, r', σ1, h1, h2, h3⟩ := pd_digest hR
  exact h1 _ (h2 _ (hK _ _ h3))
theorem WW_start : Wk x_init m_start := by
  refine ⟨rfl, rfl, rfl, rfl, fun s hs => Or.inl ⟨?_, ?_⟩⟩
  · rcases (show s = 0 ∨ s = 1 ∨ s = 2 ∨ s = 3 by omega) with rfl | rfl | rfl | rfl <;> rfl
  · show fb_put (fun _ => 0) (fun _ => -9) 0 4 s = -9
    rw [fb_put_in (by omega) (by omega)]
theorem pr_law (xs : Nat → Int32) (L : Nat) (hL : L ≤ 3072) (τ0 : St) (h0 : τ0 = m_start) : ∃ n : Nat, lpL xs L n 0 x_init τ0 := by
  subst h0
  have main : ∀ (m i : Nat) (σ τ : St), WW σ τ → L < i + m → lpL xs L (m + 1) (nI i) σ τ ∨ 3200 < i := by
    intro m
    induction m with
    | zero =>
      intro i σ τ hR hi
      by_cases c : 3200 < i
      · exact Or.inr c
      · refine Or.inl ?_
        rw [lpL]
        intro h
        exfalso
        apply h
        rw [fa_lt, nI_toInt (by omega)]
        have e : (Int32.ofNat L - 6).toInt = (L : Int) - 6 := pk_sub_toInt (a := L) (b := 6) (by omega) (by omega)
        rw [e]
        omega
    | succ m ih =>
      intro i σ τ hR hi
      by_cases c : 3200 < i
      · exact Or.inr c
      · refine Or.inl ?_
        rw [lpL]
        intro h
        have e : (Int32.ofNat L - 6).toInt = (L : Int) - 6 := pk_sub_toInt (a := L) (b := 6) (by omega) (by omega)
        have hle : i + 6 ≤ L := by
          rcases Nat.lt_or_ge L (i + 6) with z | z
          · exfalso
            apply h
            rw [fa_lt, nI_toInt (by omega), e]
            omega
          · exact z
        have hb : ∀ j : Nat, j < 6 → vp_in (nI i + nI j) L := fun j hj => by rw [nI_add]; exact vp_in_nI (by omega) (by omega)
        have e6 : nI i + 6 = nI (i + 6) := nI_add i 6
        have hK : ∀ σ' τ', WW σ' τ' → ∀ x2 : Int32, x2 = nI i + 6 → lpL xs L (m + 1) x2 σ' τ' := by
          intro σ' τ' hR' x2 hx
          rw [hx, e6]
          rcases ih (i + 6) σ' τ' hR' (by omega) with z | z
          · exact z
          · omega
        refine ⟨vp_in_nI (by omega) (by omega), fun x1 _ => ?_⟩
        exact ⟨fun _ => pw_0 hR hK (hb 1 (by omega)) (hb 2 (by omega)) (hb 3 (by omega)) (hb 4 (by omega)) (hb 5 (by omega)), fun _ => pw_1 hR hK (hb 1 (by omega)) (hb 2 (by omega)) (hb 3 (by omega)) (hb 4 (by omega)) (hb 5 (by omega)), fun _ => pw_2 hR hK (hb 1 (by omega)) (hb 2 (by omega)) (hb 3 (by omega)) (hb 4 (by omega)) (hb 5 (by omega)), fun _ => pw_3 hR hK (hb 1 (by omega)) (hb 2 (by omega)) (hb 3 (by omega)) (hb 4 (by omega)) (hb 5 (by omega)), fun _ => pw_4 hR hK (hb 1 (by omega)) (hb 2 (by omega)) (hb 3 (by omega)) (hb 4 (by omega)) (hb 5 (by omega)), fun _ => pw_5 hR hK (hb 1 (by omega)) (hb 2 (by omega)) (hb 3 (by omega)) (hb 4 (by omega)) (hb 5 (by omega)), fun _ => pw_6 hR hK (hb 1 (by omega)) (hb 2 (by omega)) (hb 3 (by omega)) (hb 4 (by omega)) (hb 5 (by omega)), fun _ => pw_7 hR hK (hb 1 (by omega)) (hb 2 (by omega)) (hb 3 (by omega)) (hb 4 (by omega)) (hb 5 (by omega)), fun _ => pw_8 hR hK (hb 1 (by omega)) (hb 2 (by omega)) (hb 3 (by omega)) (hb 4 (by omega)) (hb 5 (by omega)), fun _ => pw_9 hR hK (hb 1 (by omega)) (hb 2 (by omega)) (hb 3 (by omega)) (hb 4 (by omega)) (hb 5 (by omega)), fun _ => pw_10 hR hK (hb 1 (by omega)) (hb 2 (by omega)) (hb 3 (by omega)) (hb 4 (by omega)) (hb 5 (by omega)), fun _ => pw_11 hR hK (hb 1 (by omega)) (hb 2 (by omega)) (hb 3 (by omega)) (hb 4 (by omega)) (hb 5 (by omega)), fun _ => pw_12 hR hK (hb 1 (by omega)) (hb 2 (by omega)) (hb 3 (by omega)) (hb 4 (by omega)) (hb 5 (by omega)), fun _ => pw_13 hR hK (hb 1 (by omega)) (hb 2 (by omega)) (hb 3 (by omega)) (hb 4 (by omega)) (hb 5 (by omega)), fun _ => pw_14 hR hK (hb 1 (by omega)) (hb 2 (by omega)) (hb 3 (by omega)) (hb 4 (by omega)) (hb 5 (by omega)), fun _ => pw_15 hR hK (hb 1 (by omega)) (hb 2 (by omega)) (hb 3 (by omega)) (hb 4 (by omega)) (hb 5 (by omega)), fun _ => pw_16 hR hK (hb 1 (by omega)) (hb 2 (by omega)) (hb 3 (by omega)) (hb 4 (by omega)) (hb 5 (by omega)), fun _ => pw_17 hR hK (hb 1 (by omega)) (hb 2 (by omega)) (hb 3 (by omega)) (hb 4 (by omega)) (hb 5 (by omega)), fun _ => pw_18 hR hK (hb 1 (by omega)) (hb 2 (by omega)) (hb 3 (by omega)) (hb 4 (by omega)) (hb 5 (by omega)), fun _ => pw_19 hR hK (hb 1 (by omega)) (hb 2 (by omega)) (hb 3 (by omega)) (hb 4 (by omega)) (hb 5 (by omega)), fun _ => pw_20 hR hK (hb 1 (by omega)) (hb 2 (by omega)) (hb 3 (by omega)) (hb 4 (by omega)) (hb 5 (by omega)), fun _ => pw_21 hR hK (hb 1 (by omega)) (hb 2 (by omega)) (hb 3 (by omega)) (hb 4 (by omega)) (hb 5 (by omega)), fun _ => pw_22 hR hK (hb 1 (by omega)) (hb 2 (by omega)) (hb 3 (by omega)) (hb 4 (by omega)) (hb 5 (by omega)), fun _ => pw_23 hR hK (hb 1 (by omega)) (hb 2 (by omega)) (hb 3 (by omega)) (hb 4 (by omega)) (hb 5 (by omega)), fun _ => pw_24 hR hK (hb 1 (by omega)) (hb 2 (by omega)) (hb 3 (by omega)) (hb 4 (by omega)) (hb 5 (by omega)), fun _ => pw_25 hR hK (hb 1 (by omega)) (hb 2 (by omega)) (hb 3 (by omega)) (hb 4 (by omega)) (hb 5 (by omega)), fun _ => pw_26 hR hK (hb 1 (by omega)) (hb 2 (by omega)) (hb 3 (by omega)) (hb 4 (by omega)) (hb 5 (by omega)), fun _ => pw_27 hR hK (hb 1 (by omega)) (hb 2 (by omega)) (hb 3 (by omega)) (hb 4 (by omega)) (hb 5 (by omega)), fun _ => pw_28 hR hK (hb 1 (by omega)) (hb 2 (by omega)) (hb 3 (by omega)) (hb 4 (by omega)) (hb 5 (by omega)), fun _ => pw_29 hR hK (hb 1 (by omega)) (hb 2 (by omega)) (hb 3 (by omega)) (hb 4 (by omega)) (hb 5 (by omega)), fun _ => pw_30 hR hK (hb 1 (by omega)) (hb 2 (by omega)) (hb 3 (by omega)) (hb 4 (by omega)) (hb 5 (by omega)), fun _ => pw_31 hR hK (hb 1 (by omega)) (hb 2 (by omega)) (hb 3 (by omega)) (hb 4 (by omega)) (hb 5 (by omega)), fun _ => pw_32 hR hK (hb 1 (by omega)) (hb 2 (by omega)) (hb 3 (by omega)) (hb 4 (by omega)) (hb 5 (by omega)), fun _ => pw_33 hR hK (hb 1 (by omega)) (hb 2 (by omega)) (hb 3 (by omega)) (hb 4 (by omega)) (hb 5 (by omega)), fun _ => pw_34 hR hK (hb 1 (by omega)) (hb 2 (by omega)) (hb 3 (by omega)) (hb 4 (by omega)) (hb 5 (by omega)), fun _ => pw_35 hR hK (hb 1 (by omega)) (hb 2 (by omega)) (hb 3 (by omega)) (hb 4 (by omega)) (hb 5 (by omega)), fun _ => pw_36 hR hK (hb 1 (by omega)) (hb 2 (by omega)) (hb 3 (by omega)) (hb 4 (by omega)) (hb 5 (by omega)), fun _ => pw_37 hR hK (hb 1 (by omega)) (hb 2 (by omega)) (hb 3 (by omega)) (hb 4 (by omega)) (hb 5 (by omega)), fun _ => pw_38 hR hK (hb 1 (by omega)) (hb 2 (by omega)) (hb 3 (by omega)) (hb 4 (by omega)) (hb 5 (by omega)), fun _ => hK σ τ hR⟩
  rcases main (L + 1) 0 x_init m_start ⟨⟨_, R_start⟩, ⟨_, R_start⟩, WW_start⟩ (by omega) with h | h
  · exact ⟨_, h⟩
  · omega

