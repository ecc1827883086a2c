/-! ===== pure: marksOf ===== -/
theorem mkS_smn (f : Nat → Bool) {n : Nat} (hn : n ≤ 12) : sm (mkS f n) := by
  intro i hi
  rcases Nat.lt_or_ge i 32 with h | h
  · rw [mkS_bt f n (by omega) i h, decide_eq_false (by omega)]; rfl
  · exact b_big h
theorem sub_lt0 {a b : Nat} (ha : a < 2 ^ 30) (hb : b < 2 ^ 30) : (nI a - nI b < 0) ↔ a < b := by
  rw [fa_lt, pk_sub_toInt ha hb]
  have : (0 : Int32).toInt = 0 := rfl
  omega
theorem sub_eq0 {a b : Nat} (ha : a < 2 ^ 30) (hb : b < 2 ^ 30) : (nI a - nI b = 0) ↔ a = b := by
  rw [fa_eq, pk_sub_toInt ha hb]
  have : (0 : Int32).toInt = 0 := rfl
  omega
def pB (x : Int32) : Nat := fb_ct (bt x) 12
theorem pB_le (x : Int32) : pB x ≤ 12 := fb_ct_le _ _
/-- the best set so far, in the order of the two loops -/
def bmF (cE : Nat → Nat) : Nat → Nat
  | 0 => 0
  | i + 1 => if i = 0 then 0 else if cE i < cE (bmF cE i) ∨ (cE i = cE (bmF cE i) ∧ pB (nI i) < pB (nI (bmF cE i))) then i else bmF cE i
theorem bmF_lt (cE : Nat → Nat) : ∀ i, bmF cE i ≤ i
  | 0 => Nat.le_refl _
  | i + 1 => by
    have := bmF_lt cE i
    rw [bmF]
    split
    · omega
    · split <;> omega
theorem pr_marksOf {σ τ : St} (hR : R_ok σ τ) (a : Int32) : Pair (wX9_marksOf σ a) (wX10_marksOf τ a) := by
  obtain ⟨n, u, d, sp, se, gr, ⟨⟨h6, m1, hn⟩, g2, g3, g4, g5, g6, g7, g8, g9⟩, har, hr9⟩ := id hR
  rcases rg_cases a (n := 12) (by omega) with ⟨r, hr, rfl⟩ | ha
  case inr =>
    refine pair_bad (-1) hR (fun post hp => ?_) (fun post hp => ?_)
    · exact q_noRight_bad ha ⟨fun h => absurd h n10, fun _ => hp⟩
    · exact q_isRight_bad ha ⟨fun h => absurd rfl h, fun _ => hp⟩
  by_cases n0 : n = 0
  · subst n0
    refine pair_bad (-4) hR (fun post hp => ?_) (fun post hp => ?_)
    · exact q_noRight_ok hr ⟨fun _ => ⟨fun h => absurd h6 h, fun _ => hp⟩, fun h => absurd rfl h⟩
    · exact q_isRight_ok hr ⟨fun _ => ⟨fun h => absurd m1 h, fun _ => hp⟩, fun h => absurd h n10⟩
  have x0 : ¬ σ.1 6 = 0 := by rw [h6]; exact nI_ne0 (by omega) (by omega)
  have y0 : ¬ τ.1 1 = 0 := by rw [m1]; exact nI_ne0 (by omega) (by omega)
  obtain ⟨cE, hcE⟩ : ∃ cE : Nat → Nat, ∀ s, cE s = pB (mkS (wrB (σ.2.1 2) (σ.2.1 3) r (nI s)) n) := ⟨fun s => _, fun s => rfl⟩
  have hc12 : ∀ s, cE s ≤ 12 := fun s => by rw [hcE]; exact pB_le _
  have xm : ∀ (s : Nat) (post : Int32 → Prop), post (nI (cE s)) → wX5_mistold σ (nI r) (nI s) (fun r4 => wJ6_bitCount_0f7a4 r4 post) := by
    intro s post h
    refine q_mist h6 hn hr (q_bc (mkS_smn _ (by omega)) ?_)
    rw [hcE, pB] at h
    exact h
  have mm : ∀ (s : Nat) (post : Int32 → Prop), post (nI (cE s)) → wX10_exceptionsTo τ (nI r) (nI s) (fun r4 => wX10_bits r4 post) := by
    intro s post h
    refine q_exc m1 hn hr (q_bits ?_)
    rw [har.2.2.1, har.2.2.2.1]
    rw [hcE, pB] at h
    exact h
  refine ⟨nI (bmF cE 256), st_S σ 1 (nI (cE (bmF cE 256))), st_S τ 8 (nI (cE (bmF cE 256))), fun post hp => ?_, fun post hp => ?_, ⟨n, u, d, sp, se, gr, ⟨⟨h6, m1, hn⟩, g2, g3, g4, g5, g6, g7, rfl, g9⟩, har, hr9⟩⟩
  · obtain ⟨v, hv, hw⟩ := lp_val (Pt := Int32 → Int32 → Prop) (α := Int32 × Int32) (fun K k i acc => lpX9_marksOf_40 (nI r) σ K k acc.1 acc.2 i) (fun K acc => K acc.1 acc.2)
      (fun i acc => acc = (nI (bmF cE i), nI (cE (bmF cE i))) ∧ 1 ≤ i) 256
      (fun K acc k _ hp2 => by
        rw [lpX9_marksOf_40]
        exact ⟨fun _ => hp2, fun h => absurd (nI_le (a := 256) (b := 256) (by omega) (by omega)) h⟩)
      (fun i acc hi hI => by
        obtain ⟨hI, h1⟩ := hI
        refine ⟨_, ⟨rfl, by omega⟩, fun K k h => ?_⟩
        subst hI
        dsimp only at h ⊢
        have hb := bmF_lt cE i
        rw [lpX9_marksOf_40]
        refine ⟨fun h2 => absurd h2 (nI_ge (a := i) (b := 256) hi (by omega)), fun _ => xm i _ (q_bc (sm_of (by omega)) (q_bc (sm_of (by omega)) ?_))⟩
        simp only [forall_eq, nI_1]
        rw [bmF, if_neg (by omega)] at h
        have c12 := hc12 i
        have d12 := hc12 (bmF cE i)
        have p1 : fb_ct (bt (nI i)) 12 ≤ 12 := pB_le (nI i)
        have p2 : fb_ct (bt (nI (bmF cE i))) 12 ≤ 12 := pB_le (nI (bmF cE i))
        have k1 : (nI (cE i) < nI (cE (bmF cE i))) ↔ cE i < cE (bmF cE i) := nI_ltI (by omega) (by omega)
        have k2 : (nI (cE i) = nI (cE (bmF cE i))) ↔ cE i = cE (bmF cE i) := nI_eq (by omega) (by omega)
        have k3 : (nI (fb_ct (bt (nI (bmF cE i))) 12) ≤ nI (fb_ct (bt (nI i)) 12)) ↔ ¬ pB (nI i) < pB (nI (bmF cE i)) := by rw [nI_leI (by omega) (by omega), Nat.not_lt]; rfl
        simp only [k1, k2, k3]
        by_cases c1 : cE i < cE (bmF cE i)
        · rw [if_pos (Or.inl c1)] at h
          exact ⟨fun _ => ⟨fun _ => h, fun z => absurd c1 z⟩, fun _ => ⟨fun _ => h, fun z => absurd c1 z⟩⟩
        · by_cases c2 : cE i = cE (bmF cE i)
          · by_cases c3 : pB (nI i) < pB (nI (bmF cE i))
            · rw [if_pos (Or.inr ⟨c2, c3⟩)] at h
              exact ⟨fun z => absurd c3 z, fun _ => ⟨fun z => absurd z c1, fun _ => ⟨fun z => absurd c2 z, fun _ => ⟨fun z => absurd z n10, fun _ => h⟩⟩⟩⟩
            · rw [if_neg (by rintro (z | ⟨_, z⟩); exact c1 z; exact c3 z)] at h
              exact ⟨fun _ => ⟨fun z => absurd z c1, fun _ => ⟨fun z => absurd c2 z, fun _ => ⟨fun _ => h, fun z => absurd trivial z⟩⟩⟩, fun z => absurd c3 z⟩
          · rw [if_neg (by rintro (z | ⟨z, _⟩); exact c1 z; exact c2 z)] at h
            exact ⟨fun _ => ⟨fun z => absurd z c1, fun _ => ⟨fun _ => h, fun z => absurd z c2⟩⟩, fun _ => ⟨fun z => absurd z c1, fun _ => ⟨fun _ => h, fun z => absurd z c2⟩⟩⟩)
      255 1 (nI 0, nI (cE 0)) (by omega) ⟨rfl, by omega⟩
    refine q_noRight_ok hr ⟨fun _ => ⟨fun _ => xm 0 _ ⟨256, hw (fun (y16 : Int32) (y17 : Int32) => ∀ σ18 : St, σ18 = st_S σ 1 y17 → (post y16 σ18)) ?_⟩, fun h => absurd h x0⟩, fun h => absurd rfl h⟩
    rw [hv.1]
    simp only [forall_eq]
    exact hp
  · obtain ⟨v, hv, hw⟩ := lp_val (Pt := Int32 → Prop) (fun K k i acc => lpX10_marksOf_23 (nI r) τ K k acc i) (fun K acc => K acc)
      (fun i acc => acc = nI (bmF cE i) ∧ 1 ≤ i) 256
      (fun K acc k _ hp2 => by
        rw [lpX10_marksOf_23]
        exact ⟨fun _ => hp2, fun h => absurd (nI_le (a := 256) (b := 256) (by omega) (by omega)) h⟩)
      (fun i acc hi hI => by
        obtain ⟨hI, h1⟩ := hI
        refine ⟨_, ⟨rfl, by omega⟩, fun K k h => ?_⟩
        subst hI
        have hb := bmF_lt cE i
        rw [lpX10_marksOf_23]
        refine ⟨fun h2 => absurd h2 (nI_ge (a := i) (b := 256) hi (by omega)), fun _ => mm i _ (mm (bmF cE i) _ ?_)⟩
        simp only [forall_eq, nI_1]
        rw [bmF, if_neg (by omega)] at h
        have c12 := hc12 i
        have d12 := hc12 (bmF cE i)
        have p1 : fb_ct (bt (nI i)) 12 ≤ 12 := pB_le (nI i)
        have p2 : fb_ct (bt (nI (bmF cE i))) 12 ≤ 12 := pB_le (nI (bmF cE i))
        have k3 : (nI (fb_ct (bt (nI (bmF cE i))) 12) ≤ nI (fb_ct (bt (nI i)) 12)) ↔ ¬ pB (nI i) < pB (nI (bmF cE i)) := by rw [nI_leI (by omega) (by omega), Nat.not_lt]; rfl
        simp only [sub_lt0 (show cE i < 2 ^ 30 by omega) (show cE (bmF cE i) < 2 ^ 30 by omega), sub_eq0 (show cE i < 2 ^ 30 by omega) (show cE (bmF cE i) < 2 ^ 30 by omega)]
        by_cases c1 : cE i < cE (bmF cE i)
        · rw [if_pos (Or.inl c1)] at h
          exact ⟨fun _ => h, fun z => absurd c1 z⟩
        · by_cases c2 : cE i = cE (bmF cE i)
          · refine ⟨fun z => absurd z c1, fun _ => ⟨fun z => absurd c2 z, fun _ => q_bits (q_bits ?_)⟩⟩
            rw [k3]
            by_cases c3 : pB (nI i) < pB (nI (bmF cE i))
            · rw [if_pos (Or.inr ⟨c2, c3⟩)] at h
              exact ⟨fun z => absurd c3 z, fun _ => h⟩
            · rw [if_neg (by rintro (z | ⟨_, z⟩); exact c1 z; exact c3 z)] at h
              exact ⟨fun _ => h, fun z => absurd c3 z⟩
          · rw [if_neg (by rintro (z | ⟨z, _⟩); exact c1 z; exact c2 z)] at h
            exact ⟨fun z => absurd z c1, fun _ => ⟨fun _ => h, fun z => absurd z c2⟩⟩)
      255 1 (nI 0) (by omega) ⟨rfl, by omega⟩
    refine q_isRight_ok hr ⟨fun _ => ⟨fun _ => ⟨256, hw _ ?_⟩, fun h => absurd h y0⟩, fun h => absurd h n10⟩
    rw [hv.1]
    refine mm (bmF cE 256) _ ?_
    simp only [forall_eq]
    exact hp
