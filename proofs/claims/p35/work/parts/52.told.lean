/-! ===== pure: told, kind, uses ===== -/
theorem ts_nf2 {x : Bool} (h : ¬ x = false) : x = true := by cases x <;> first | rfl | exact absurd rfl h
theorem or0 (x : Int32) : x ||| 0 = x := b_ext (fun i hi => by rw [b_or, b_0]; simp)
theorem add0 (x : Int32) : x + 0 = x := by rw [Int32.add_zero]
theorem kind_pos {who which wen : Nat → Int32} {stb : Int32} {u d sp se p r : Nat} : (kindF who which wen stb u d sp se p r ≤ 0) ↔ ((usedB who which wen u d sp p r || seldB who which wen u d sp se p r) || bt stb r) = false := by
  unfold kindF
  cases usedB who which wen u d sp p r <;> cases seldB who which wen u d sp se p r <;> cases bt stb r <;> decide
theorem q_mkept {τ : St} {u d sp se p : Nat} {post : Int32 → Prop} (hL : MLog τ u d sp se) (hp : p < 10) (h : post (mkept τ u d sp se p)) : wX10_keptOf τ (nI p) post := by
  obtain ⟨v, hv, hw⟩ := lp_val (Pt := Int32 → Prop) (fun post n i acc => lpX10_keptOf_4 (nI p) τ post n acc i) (fun post acc => post acc)
    (fun i acc => acc = mkS (fun b => bt (τ.2.1 2 p) b && ((usedB (τ.2.1 4) (τ.2.1 5) (τ.2.1 6) u d sp p b || seldB (τ.2.1 4) (τ.2.1 5) (τ.2.1 6) u d sp se p b) || bt (τ.1 2) b)) i) 12
    (fun post acc n _ hp2 => by
      rw [lpX10_keptOf_4]
      exact ⟨fun _ => hp2, fun h => absurd (nI_le (a := 12) (b := 12) (by omega) (by omega)) h⟩)
    (fun i acc hi hI => by
      refine ⟨_, rfl, fun post n h => ?_⟩
      rw [lpX10_keptOf_4]
      refine ⟨fun h2 => absurd h2 (nI_ge (a := i) (b := 12) hi (by omega)), fun _ => ⟨in10 hp, q_has (by omega) ?_⟩⟩
      simp only [forall_eq, nI_1, or0, nI_clamp (show p < 2 ^ 31 by omega)]
      rw [mkS] at h
      cases e1 : bt (τ.2.1 2 p) i
      · rw [e1, Bool.false_and, if_neg (by simp), ← hI] at h
        exact ⟨fun _ => h, fun h2 => absurd rfl h2⟩
      · rw [e1, Bool.true_and] at h
        refine ⟨fun h2 => absurd h2 n10, fun _ => q_mkind hL hi ?_⟩
        refine ⟨fun h2 => ?_, fun h2 => ?_⟩
        · rw [kind_pos.mp h2, if_neg (by simp), ← hI] at h
          exact h
        · have : ((usedB (τ.2.1 4) (τ.2.1 5) (τ.2.1 6) u d sp p i || seldB (τ.2.1 4) (τ.2.1 5) (τ.2.1 6) u d sp se p i) || bt (τ.1 2) i) = true := ts_nf2 (fun z => h2 (kind_pos.mpr z))
          rw [this, if_pos rfl, ← hI] at h
          exact h)
    12 0 0 (by omega) rfl
  refine ⟨_, hw post ?_⟩
  rw [hv]
  exact h
theorem nI_inc (n : Nat) : nI n + 1 = nI (n + 1) := nI_1 n
theorem q_xper {σ : St} {u p : Nat} {post : Int32 → Prop} (hu : σ.1 7 = nI u) (hu4 : u ≤ 400) (h : post (nI (fb_ct (fun k => decide (σ.2.1 6 k = nI p)) u))) : wX8_ofPerson σ (nI p) post := by
  obtain ⟨v, hv, hw⟩ := lp_val (Pt := Int32 → Prop) (fun post n i acc => lpX8_ofPerson_4 (nI p) σ post n acc i) (fun post acc => post acc)
    (fun i acc => acc = nI (fb_ct (fun k => decide (σ.2.1 6 k = nI p)) i)) u
    (fun post acc n _ hp2 => by
      rw [lpX8_ofPerson_4, hu]
      exact ⟨fun _ => hp2, fun h => absurd (nI_le (Nat.le_refl u) (by omega)) h⟩)
    (fun i acc hi hI => by
      refine ⟨_, rfl, fun post n h => ?_⟩
      rw [lpX8_ofPerson_4, hu]
      refine ⟨fun h2 => absurd h2 (nI_ge hi (by omega)), fun _ => ⟨in400 hi hu4, ?_⟩⟩
      simp only [forall_eq, nI_1, nI_clamp (show i < 2 ^ 31 by omega)]
      rw [fb_ct_succ] at h
      rw [hI]
      refine ⟨fun h2 => ?_, fun h2 => ?_⟩
      · rw [decide_eq_false h2] at h; exact h
      · rw [decide_eq_true h2, if_pos rfl, ← nI_1] at h; exact h)
    u 0 0 (by omega) rfl
  refine ⟨_, hw post ?_⟩
  rw [hv]; exact h
theorem q_mper {τ : St} {u p : Nat} {post : Int32 → Prop} (hu : τ.1 7 = nI u) (hu4 : u ≤ 400) (h : post (nI (fb_ct (fun k => decide (τ.2.1 4 k = nI p)) u))) : ∃ n : Nat, lpX10_tells_99 (nI p) τ post n (0 : Int32) (0 : Int32) := by
  obtain ⟨v, hv, hw⟩ := lp_val (Pt := Int32 → Prop) (fun post n i acc => lpX10_tells_99 (nI p) τ post n acc i) (fun post acc => post acc)
    (fun i acc => acc = nI (fb_ct (fun k => decide (τ.2.1 4 k = nI p)) i)) u
    (fun post acc n _ hp2 => by
      rw [lpX10_tells_99, hu]
      exact ⟨fun _ => hp2, fun h => absurd (nI_le (Nat.le_refl u) (by omega)) h⟩)
    (fun i acc hi hI => by
      refine ⟨_, rfl, fun post n h => ?_⟩
      rw [lpX10_tells_99, hu]
      refine ⟨fun h2 => absurd h2 (nI_ge hi (by omega)), fun _ => ⟨in400 hi hu4, ?_⟩⟩
      simp only [forall_eq, nI_1, add0, nI_clamp (show i < 2 ^ 31 by omega)]
      rw [fb_ct_succ] at h
      rw [hI]
      refine ⟨fun h2 => ?_, fun h2 => ?_⟩
      · rw [decide_eq_false h2] at h; exact h
      · rw [decide_eq_true h2, if_pos rfl, ← nI_1] at h; exact h)
    u 0 0 (by omega) rfl
  refine ⟨_, hw post ?_⟩
  rw [hv]; exact h
theorem q_xhold {σ : St} {u p r : Nat} {post : Int32 → Prop} (hu : σ.1 7 = nI u) (hu4 : u ≤ 400) (h : post (nI (fb_ct (fun k => uA (σ.2.1 6) (σ.2.1 7) p r k) u))) : wX8_ofHolding σ (nI p) (nI r) post := by
  obtain ⟨v, hv, hw⟩ := lp_val (Pt := Int32 → Prop) (fun post n i acc => lpX8_ofHolding_5 (nI p) (nI r) σ post n acc i) (fun post acc => post acc)
    (fun i acc => acc = nI (fb_ct (fun k => uA (σ.2.1 6) (σ.2.1 7) p r k) i)) u
    (fun post acc n _ hp2 => by
      rw [lpX8_ofHolding_5, hu]
      exact ⟨fun _ => hp2, fun h => absurd (nI_le (Nat.le_refl u) (by omega)) h⟩)
    (fun i acc hi hI => by
      refine ⟨_, rfl, fun post n h => ?_⟩
      rw [lpX8_ofHolding_5, hu]
      refine ⟨fun h2 => absurd h2 (nI_ge hi (by omega)), fun _ => ⟨in400 hi hu4, ?_⟩⟩
      simp only [forall_eq, nI_1, nI_clamp (show i < 2 ^ 31 by omega)]
      rw [fb_ct_succ, uA] at h
      rw [hI]
      refine ⟨fun h2 => ?_, fun h2 => ⟨in400 hi hu4, fun h3 => ?_, fun h3 => ?_⟩⟩
      · rw [decide_eq_false h2] at h; exact h
      · rw [decide_eq_false h3, Bool.and_false] at h; exact h
      · rw [decide_eq_true h2, decide_eq_true h3, Bool.and_self, if_pos rfl, ← nI_1] at h; exact h)
    u 0 0 (by omega) rfl
  refine ⟨_, hw post ?_⟩
  rw [hv]; exact h
theorem q_mhold {τ : St} {u p r : Nat} {post : Int32 → St → Prop} (hu : τ.1 7 = nI u) (hu4 : u ≤ 400) (h : post (nI (fb_ct (fun k => uA (τ.2.1 4) (τ.2.1 5) p r k) u)) τ) : ∃ n : Nat, lpX10_uses_83 (nI p) (nI r) τ post n (0 : Int32) (0 : Int32) := by
  obtain ⟨v, hv, hw⟩ := lp_val (Pt := Int32 → St → Prop) (fun post n i acc => lpX10_uses_83 (nI p) (nI r) τ post n acc i) (fun post acc => post acc τ)
    (fun i acc => acc = nI (fb_ct (fun k => uA (τ.2.1 4) (τ.2.1 5) p r k) i)) u
    (fun post acc n _ hp2 => by
      rw [lpX10_uses_83, hu]
      exact ⟨fun _ => hp2, fun h => absurd (nI_le (Nat.le_refl u) (by omega)) h⟩)
    (fun i acc hi hI => by
      refine ⟨_, rfl, fun post n h => ?_⟩
      rw [lpX10_uses_83, hu]
      refine ⟨fun h2 => absurd h2 (nI_ge hi (by omega)), fun _ => ⟨in400 hi hu4, ?_⟩⟩
      simp only [forall_eq, nI_1, add0, nI_clamp (show i < 2 ^ 31 by omega)]
      rw [fb_ct_succ, uA] at h
      rw [hI]
      refine ⟨fun h2 => ?_, fun h2 => ⟨in400 hi hu4, fun h3 => ?_, fun h3 => ?_⟩⟩
      · rw [decide_eq_false h2] at h; exact h
      · rw [decide_eq_false h3, Bool.and_false] at h; exact h
      · rw [decide_eq_true h2, decide_eq_true h3, Bool.and_self, if_pos rfl, ← nI_1] at h; exact h)
    u 0 0 (by omega) rfl
  refine ⟨_, hw post ?_⟩
  rw [hv]; exact h
theorem q_mstruck {σ τ : St} {d p : Nat} {post : Int32 → Prop} (hp : p < 10) (hst : R_st σ τ d) (hd : d ≤ 999) (hsm : sm (σ.2.1 4 p)) (h : post (σ.2.1 4 p)) : ∃ n : Nat, lpX10_tells_55 (nI p) τ post n (0 : Int32) (0 : Int32) := by
  obtain ⟨v, hv, hw⟩ := lp_val (Pt := Int32 → Prop) (fun post n i acc => lpX10_tells_55 (nI p) τ post n acc i) (fun post acc => post acc)
    (fun i acc => acc = mkS (fun r => bt (σ.2.1 4 p) r) i) 12
    (fun post acc n _ hp2 => by
      rw [lpX10_tells_55]
      exact ⟨fun _ => hp2, fun h => absurd (nI_le (a := 12) (b := 12) (by omega) (by omega)) h⟩)
    (fun i acc hi hI => by
      refine ⟨_, rfl, fun post n h => ?_⟩
      rw [lpX10_tells_55]
      refine ⟨fun h2 => absurd h2 (nI_ge (a := i) (b := 12) hi (by omega)), fun _ => ?_⟩
      simp only [forall_eq, nI_1, or0, mul12, nI_clamp (show 12 * p + i < 2 ^ 31 by omega)]
      refine ⟨in120 hp hi, ?_⟩
      rw [mkS] at h
      obtain ⟨g1, g2⟩ := hst p i hp hi
      cases e1 : bt (σ.2.1 4 p) i
      · rw [e1, if_neg (by simp), ← hI] at h
        rw [g2 e1]
        exact ⟨fun _ => h, fun h2 => absurd m9' h2⟩
      · rw [e1, if_pos rfl, ← hI] at h
        obtain ⟨e, he, _, g3⟩ := g1 e1
        rw [g3]
        exact ⟨fun h2 => absurd h2 (nI_pos (by omega)), fun _ => h⟩)
    12 0 0 (by omega) rfl
  refine ⟨_, hw post ?_⟩
  have : mkS (fun r => bt (σ.2.1 4 p) r) 12 = σ.2.1 4 p := sm_ext (mkS_sm _) hsm (fun i hi => by rw [mkS_bt _ 12 (by omega) i (by omega)]; simp [hi])
  rw [hv, this]
  exact h
theorem pr_told {σ τ : St} (hR : R_ok σ τ) (a b : Int32) : PairR (wX9_told σ a b) (wX10_told τ a b) := by
  obtain ⟨n, u, d, sp, se, gr, ha9⟩ := id hR
  have hxl := R_xlog ha9
  have hml := R_mlog ha9
  obtain ⟨⟨⟨h6, m1, hn⟩, ⟨u1, u2, hu⟩, ⟨d1, d2, hd⟩, hsc⟩, har, hpe, hus, hst, hro, hpl, hsh, hba⟩ := id ha9
  rcases rg_cases a (n := n) (by omega) with ⟨p, hp, rfl⟩ | ha
  case inr =>
    refine ⟨-1, fun post hp => ?_, fun post hp => ?_⟩
    · exact q_noPerson_bad h6 ha ⟨fun h => absurd h n10, fun _ => hp⟩
    · exact q_isPerson_bad m1 hn ha ⟨fun _ => hp, fun h => absurd rfl h⟩
  have hp10 : p < 10 := by omega
  have cp : (nI p).toNatClampNeg = p := nI_clamp (by omega)
  rcases rg_cases b (n := 5) (by omega) with ⟨k, hk, rfl⟩ | hb
  case inr =>
    have hne : ∀ k : Nat, k < 5 → ¬ b = nI k := by
      intro k hk e
      rw [e] at hb
      rcases hb with hb | hb
      · exact nI_pos (by omega) hb
      · exact nI_ge hk (by omega) hb
    refine ⟨-1, fun post hpo => ?_, fun post hpo => ?_⟩
    · exact q_noPerson_ok h6 hn hp ⟨fun _ => ⟨fun h => absurd h (hne 0 (by omega)), fun _ => ⟨fun h => absurd h (hne 1 (by omega)), fun _ => ⟨fun h => absurd h (hne 2 (by omega)), fun _ => ⟨fun h => absurd h (hne 3 (by omega)), fun _ => ⟨fun h => absurd h (hne 4 (by omega)), fun _ => hpo⟩⟩⟩⟩⟩, fun h => absurd rfl h⟩
    · exact q_isPerson_ok m1 hn hp ⟨fun h => absurd h n10, fun _ => q_in_bad (hb.imp id (fun h => lt_pre (n := 4) (by omega) h)) ⟨fun _ => hpo, fun h => absurd rfl h⟩⟩
  have hin1 : (0 : Int32) ≤ nI k := le0
  have hin2 : nI k ≤ 4 := nI_le (b := 4) (by omega) (by omega)
  rcases (show k = 0 ∨ k = 1 ∨ k = 2 ∨ k = 3 ∨ k = 4 by omega) with rfl | rfl | rfl | rfl | rfl
  · refine ⟨σ.2.1 2 p, fun post hpo => ?_, fun post hpo => ?_⟩
    · refine q_noPerson_ok h6 hn hp ⟨fun _ => ⟨fun _ => ⟨in10 hp10, ?_⟩, fun h => absurd rfl h⟩, fun h => absurd rfl h⟩
      rw [cp]; exact hpo
    · refine q_isPerson_ok m1 hn hp ⟨fun h => absurd h n10, fun _ => q_in_ok hin1 hin2 ⟨fun h => absurd h n10, fun _ => ⟨fun _ => ⟨in10 hp10, ?_⟩, fun h => absurd rfl h⟩⟩⟩
      rw [cp, har.2.2.1]; exact hpo
  · have z0 : ¬ nI 1 = (0 : Int32) := by decide
    refine ⟨σ.2.1 3 p, fun post hpo => ?_, fun post hpo => ?_⟩
    · refine q_noPerson_ok h6 hn hp ⟨fun _ => ⟨fun h => absurd h z0, fun _ => ⟨fun _ => ⟨in10 hp10, ?_⟩, fun h => absurd rfl h⟩⟩, fun h => absurd rfl h⟩
      rw [cp]; exact hpo
    · refine q_isPerson_ok m1 hn hp ⟨fun h => absurd h n10, fun _ => q_in_ok hin1 hin2 ⟨fun h => absurd h n10, fun _ => ⟨fun h => absurd h z0, fun _ => ⟨fun _ => ⟨in10 hp10, ?_⟩, fun h => absurd rfl h⟩⟩⟩⟩
      rw [cp, har.2.2.2.1]; exact hpo
  · have z0 : ¬ nI 2 = (0 : Int32) := by decide
    have z1 : ¬ nI 2 = (1 : Int32) := by decide
    refine ⟨xkept σ u d sp se p, fun post hpo => ?_, fun post hpo => ?_⟩
    · exact q_noPerson_ok h6 hn hp ⟨fun _ => ⟨fun h => absurd h z0, fun _ => ⟨fun h => absurd h z1, fun _ => ⟨fun _ => q_xkept hxl hp10 hpo, fun h => absurd rfl h⟩⟩⟩, fun h => absurd rfl h⟩
    · refine q_isPerson_ok m1 hn hp ⟨fun h => absurd h n10, fun _ => q_in_ok hin1 hin2 ⟨fun h => absurd h n10, fun _ => ⟨fun h => absurd h z0, fun _ => ⟨fun h => absurd h z1, fun _ => ⟨fun _ => q_mkept hml hp10 ?_, fun h => absurd rfl h⟩⟩⟩⟩⟩
      rw [R_kept ha9]; exact hpo
  · have z0 : ¬ nI 3 = (0 : Int32) := by decide
    have z1 : ¬ nI 3 = (1 : Int32) := by decide
    have z2 : ¬ nI 3 = (2 : Int32) := by decide
    refine ⟨σ.2.1 4 p, fun post hpo => ?_, fun post hpo => ?_⟩
    · refine q_noPerson_ok h6 hn hp ⟨fun _ => ⟨fun h => absurd h z0, fun _ => ⟨fun h => absurd h z1, fun _ => ⟨fun h => absurd h z2, fun _ => ⟨fun _ => ⟨in10 hp10, ?_⟩, fun h => absurd rfl h⟩⟩⟩⟩, fun h => absurd rfl h⟩
      rw [cp]; exact hpo
    · exact q_isPerson_ok m1 hn hp ⟨fun h => absurd h n10, fun _ => q_in_ok hin1 hin2 ⟨fun h => absurd h n10, fun _ => ⟨fun h => absurd h z0, fun _ => ⟨fun h => absurd h z1, fun _ => ⟨fun h => absurd h z2, fun _ => ⟨fun _ => q_mstruck hp10 hst hd (hpe.1 p).2.2.1 hpo, fun h => absurd rfl h⟩⟩⟩⟩⟩⟩
  · have z0 : ¬ nI 4 = (0 : Int32) := by decide
    have z1 : ¬ nI 4 = (1 : Int32) := by decide
    have z2 : ¬ nI 4 = (2 : Int32) := by decide
    have z3 : ¬ nI 4 = (3 : Int32) := by decide
    refine ⟨nI (fb_ct (fun k => decide (σ.2.1 6 k = nI p)) u), fun post hpo => ?_, fun post hpo => ?_⟩
    · exact q_noPerson_ok h6 hn hp ⟨fun _ => ⟨fun h => absurd h z0, fun _ => ⟨fun h => absurd h z1, fun _ => ⟨fun h => absurd h z2, fun _ => ⟨fun h => absurd h z3, fun _ => ⟨fun _ => q_xper u1 hu hpo, fun h => absurd rfl h⟩⟩⟩⟩⟩, fun h => absurd rfl h⟩
    · refine q_isPerson_ok m1 hn hp ⟨fun h => absurd h n10, fun _ => q_in_ok hin1 hin2 ⟨fun h => absurd h n10, fun _ => ⟨fun h => absurd h z0, fun _ => ⟨fun h => absurd h z1, fun _ => ⟨fun h => absurd h z2, fun _ => ⟨fun h => absurd h z3, fun _ => q_mper u2 hu ?_⟩⟩⟩⟩⟩⟩
      rw [har.2.2.2.2.1]; exact hpo
