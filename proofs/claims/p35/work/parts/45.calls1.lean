/-! ===== pure: change, standby, rule, later, use and what is only read ===== -/
theorem rg1 (x : Int32) {N : Nat} (hN : N + 1 < 2 ^ 31) : (∃ j : Nat, 1 ≤ j ∧ j ≤ N ∧ x = nI j) ∨ (x < 1 ∨ nI N < x) := by
  rcases rg_cases x (n := N + 1) hN with ⟨j, hj, rfl⟩ | h | h
  · by_cases e : j = 0
    · subst e; exact Or.inr (Or.inl (by decide))
    · exact Or.inl ⟨j, by omega, by omega, rfl⟩
  · refine Or.inr (Or.inl ?_)
    rw [fa_lt] at h ⊢
    have h0 : (0 : Int32).toInt = 0 := rfl
    have h1 : (1 : Int32).toInt = 1 := rfl
    omega
  · exact Or.inr (Or.inr (lt_pre hN h))
theorem rg0 (x : Int32) {N : Nat} (hN : N + 1 < 2 ^ 31) : (∃ j : Nat, j ≤ N ∧ x = nI j) ∨ (x < 0 ∨ nI N < x) := by
  rcases rg_cases x (n := N + 1) hN with ⟨j, hj, rfl⟩ | h | h
  · exact Or.inl ⟨j, by omega, rfl⟩
  · exact Or.inr (Or.inl h)
  · exact Or.inr (Or.inr (lt_pre hN h))
theorem pr_change {σ τ : St} (hR : R_ok σ τ) (a b c : Int32) : Pair (wX9_change σ a b c) (wX10_change τ a b c) := by
  obtain ⟨n, u, d, sp, se, gr, ha9⟩ := id hR
  obtain ⟨⟨⟨h6, m1, hn⟩, hsc⟩, har, hpe, hus, hst, hro, hpl, hsh, hba⟩ := id ha9
  rcases rg_cases a (n := n) (by omega) with ⟨p, hp, rfl⟩ | ha
  case inr =>
    refine pair_bad (-1) hR (fun post hp => ?_) (fun post hp => ?_)
    · exact q_noPerson_bad h6 ha ⟨fun h => absurd h n10, fun _ => hp⟩
    · exact q_isPerson_bad m1 hn ha ⟨fun _ => hp, fun h => absurd rfl h⟩
  have hp10 : p < 10 := by omega
  by_cases b0 : b = 0
  · subst b0
    have e01 : ¬ (0 : Int32) = 1 := by decide
    rcases rg_cases c (n := 256) (by omega) with ⟨m, hm, rfl⟩ | hc
    case inr =>
      refine pair_bad (-1) hR (fun post hpo => ?_) (fun post hpo => ?_)
      · exact q_noPerson_ok h6 hn hp ⟨fun _ => ⟨fun h => absurd rfl h, fun _ => q_noMark_bad hc ⟨fun h => absurd h n10, fun _ => hpo⟩⟩, fun h => absurd rfl h⟩
      · exact q_isPerson_ok m1 hn hp ⟨fun h => absurd h n10, fun _ => q_in_ok (by decide) (by decide) ⟨fun h => absurd h n10, fun _ => ⟨fun h => absurd rfl h, fun _ => q_in_bad (hc.imp id (fun h => lt_pre (n := 255) (by omega) h)) ⟨fun h => absurd rfl h, fun _ => hpo⟩⟩⟩⟩
    refine ⟨σ.2.1 2 p, st_A σ 2 p (nI m), st_A τ 1 p (nI m), fun post hpo => ?_, fun post hpo => ?_, ?_⟩
    · refine q_noPerson_ok h6 hn hp ⟨fun _ => ⟨fun h => absurd rfl h, fun _ => q_noMark_ok hm ⟨fun _ => ?_, fun h => absurd rfl h⟩⟩, fun h => absurd rfl h⟩
      unfold wX5_remark
      simp only [forall_eq, nI_clamp (show p < 2 ^ 31 by omega)]
      exact ⟨in10 hp10, in10 hp10, hpo⟩
    · refine q_isPerson_ok m1 hn hp ⟨fun h => absurd h n10, fun _ => q_in_ok (by decide) (by decide) ⟨fun h => absurd h n10, fun _ => ⟨fun h => absurd rfl h, fun _ => q_in_ok (nI_pos' (by omega)) (nI_le (b := 255) (by omega) (by omega)) ⟨fun _ => ⟨fun _ => ?_, fun h => absurd h e01⟩, fun h => absurd h n10⟩⟩⟩⟩
      simp only [forall_eq, nI_clamp (show p < 2 ^ 31 by omega), har.2.2.1]
      exact ⟨in10 hp10, in10 hp10, hpo⟩
    · refine ⟨n, u, d, sp, se, gr, ⟨⟨h6, m1, hn⟩, hsc⟩, ?_, ?_, hus, hst, hro, hpl, hsh, hba⟩
      · obtain ⟨r1, r2, r3, r4⟩ := har
        exact ⟨r1, r2, show upd (τ.2.1 1) p _ = upd (σ.2.1 2) p _ by rw [r3], r4⟩
      · refine ⟨fun q => ?_, hpe.2⟩
        obtain ⟨g1, g2⟩ := hpe.1 q
        refine ⟨?_, g2⟩
        show ∃ m' : Nat, m' < 256 ∧ upd (σ.2.1 2) p (nI m) q = nI m'
        by_cases e : q = p
        · subst e; rw [pk_us]; exact ⟨m, hm, rfl⟩
        · rw [pk_un e]; exact g1
  by_cases b1 : b = 1
  · subst b1
    rcases rg_cases c (n := 4096) (by omega) with ⟨m, hm, rfl⟩ | hc
    case inr =>
      refine pair_bad (-1) hR (fun post hpo => ?_) (fun post hpo => ?_)
      · exact q_noPerson_ok h6 hn hp ⟨fun _ => ⟨fun _ => ⟨fun h => absurd rfl h, fun _ => q_noRS_bad hc ⟨fun h => absurd h n10, fun _ => hpo⟩⟩, fun h => absurd h n10⟩, fun h => absurd rfl h⟩
      · exact q_isPerson_ok m1 hn hp ⟨fun h => absurd h n10, fun _ => q_in_ok (by decide) (by decide) ⟨fun h => absurd h n10, fun _ => ⟨fun _ => q_in_bad (hc.imp id (fun h => lt_pre (n := 4095) (by omega) h)) ⟨fun h => absurd rfl h, fun _ => hpo⟩, fun h => absurd h n10⟩⟩⟩
    obtain ⟨f, hf, hg, hw⟩ := q_mgive (τ := τ) (set := nI m) hp10
    refine ⟨σ.2.1 3 p, _, _, fun post hpo => ?_, fun post hpo => ?_, ⟨n, u, d, sp, se, gr, R_give ha9 hp (sm_of hm) hf hg⟩⟩
    · exact q_noPerson_ok h6 hn hp ⟨fun _ => ⟨fun _ => ⟨fun h => absurd rfl h, fun _ => q_noRS_ok hm ⟨fun _ => q_xgive hp10 hpo, fun h => absurd rfl h⟩⟩, fun h => absurd h n10⟩, fun h => absurd rfl h⟩
    · refine q_isPerson_ok m1 hn hp ⟨fun h => absurd h n10, fun _ => q_in_ok (by decide) (by decide) ⟨fun h => absurd h n10, fun _ => ⟨fun _ => q_in_ok (nI_pos' (by omega)) (nI_le (b := 4095) (by omega) (by omega)) ⟨fun _ => ⟨fun h => absurd rfl h, fun _ => hw _ ?_⟩, fun h => absurd h n10⟩, fun h => absurd h n10⟩⟩⟩
      rw [har.2.2.2.1]
      exact hpo
  · refine pair_bad (-1) hR (fun post hpo => ?_) (fun post hpo => ?_)
    · exact q_noPerson_ok h6 hn hp ⟨fun _ => ⟨fun _ => ⟨fun _ => hpo, fun h => absurd h b1⟩, fun h => absurd h b0⟩, fun h => absurd rfl h⟩
    · refine q_isPerson_ok m1 hn hp ⟨fun h => absurd h n10, fun _ => q_in_bad ?_ ⟨fun _ => hpo, fun h => absurd rfl h⟩⟩
      rcases rg_cases b (n := 2) (by omega) with ⟨j, hj, rfl⟩ | h | h
      · exfalso
        rcases (show j = 0 ∨ j = 1 by omega) with rfl | rfl
        · exact b0 rfl
        · exact b1 rfl
      · exact Or.inl h
      · exact Or.inr (lt_pre (n := 1) (by omega) h)
theorem pr_standby {σ τ : St} (hR : R_ok σ τ) (a : Int32) : Pair (wX9_standby σ a) (wX10_standby τ a) := by
  obtain ⟨n, u, d, sp, se, gr, ⟨h1, h2, h3, h4, h5, h6, ⟨h7, h8⟩, h9⟩, hr⟩ := id hR
  rcases rg_cases a (n := 4096) (by omega) with ⟨m, hm, rfl⟩ | ha
  case inr =>
    refine pair_bad (-1) hR (fun post hp => ?_) (fun post hp => ?_)
    · exact q_noRS_bad ha ⟨fun h => absurd h n10, fun _ => hp⟩
    · exact q_in_bad (ha.imp id (fun h => lt_pre (n := 4095) (by omega) h)) ⟨fun h => absurd rfl h, fun _ => hp⟩
  refine ⟨σ.1 0, st_S σ 0 (nI m), st_S τ 2 (nI m), fun post hp => ?_, fun post hp => ?_, ⟨n, u, d, sp, se, gr, ⟨h1, h2, h3, h4, h5, h6, ⟨rfl, sm_of hm⟩, h9⟩, hr⟩⟩
  · refine q_noRS_ok hm ⟨fun _ => ?_, fun h => absurd rfl h⟩
    simp only [forall_eq]; exact hp
  · refine q_in_ok (nI_pos' (by omega)) (nI_le (b := 4095) (by omega) (by omega)) ⟨fun _ => ?_, fun h => absurd h n10⟩
    simp only [forall_eq, h7]; exact hp
theorem pr_rule {σ τ : St} (hR : R_ok σ τ) (a b c : Int32) : Pair (wX9_rule σ a b c) (wX10_rule τ a b c) := by
  obtain ⟨n, u, d, sp, se, gr, ⟨h1, h2, h3, h4, h5, h6, h7⟩, hr⟩ := id hR
  rcases rg1 a (N := 999) (by omega) with ⟨i, hi, hi2, rfl⟩ | ha
  case inr =>
    refine pair_bad (-1) hR (fun post hp => ?_) (fun post hp => ?_)
    · refine ⟨fun _ => hp, fun h => ⟨fun _ => hp, fun h2 => ?_⟩⟩
      exact (ha.elim (fun z => absurd z h) (fun z => absurd z h2))
    · exact q_in_bad ha ⟨fun _ => hp, fun h => absurd rfl h⟩
  have a1 : ¬ nI i < 1 := nI_nlt (b := 1) hi (by omega)
  have a2 : ¬ (999 : Int32) < nI i := nI_nlt (a := 999) hi2 (by omega)
  rcases rg1 b (N := 999) (by omega) with ⟨j, hj, hj2, rfl⟩ | ha
  case inr =>
    refine pair_bad (-1) hR (fun post hp => ?_) (fun post hp => ?_)
    · refine ⟨fun h => absurd h a1, fun _ => ⟨fun h => absurd h a2, fun _ => ⟨fun _ => hp, fun h => ⟨fun h2 => ?_, fun _ => hp⟩⟩⟩⟩
      exact (ha.elim (fun z => absurd z h) (fun z => absurd z (Int32.not_lt.mpr h2)))
    · exact q_in_ok (Int32.not_lt.mp a1) (Int32.not_lt.mp a2) ⟨fun h => absurd h n10, fun _ => q_in_bad ha ⟨fun _ => hp, fun h => absurd rfl h⟩⟩
  have b1 : ¬ nI j < 1 := nI_nlt (b := 1) hj (by omega)
  have b2 : nI j ≤ (999 : Int32) := nI_le (b := 999) hj2 (by omega)
  rcases rg0 c (N := 999) (by omega) with ⟨k, hk, rfl⟩ | ha
  case inr =>
    refine pair_bad (-1) hR (fun post hp => ?_) (fun post hp => ?_)
    · refine ⟨fun h => absurd h a1, fun _ => ⟨fun h => absurd h a2, fun _ => ⟨fun h => absurd h b1, fun _ => ⟨fun _ => ⟨fun _ => hp, fun h => ⟨fun h2 => ?_, fun _ => hp⟩⟩, fun h => absurd b2 h⟩⟩⟩⟩
      exact (ha.elim (fun z => absurd z h) (fun z => absurd z (Int32.not_lt.mpr h2)))
    · exact q_in_ok (Int32.not_lt.mp a1) (Int32.not_lt.mp a2) ⟨fun h => absurd h n10, fun _ => q_in_ok (Int32.not_lt.mp b1) b2 ⟨fun h => absurd h n10, fun _ => q_in_bad ha ⟨fun h => absurd rfl h, fun _ => hp⟩⟩⟩
  have c1 : ¬ nI k < 0 := nI_pos (by omega)
  have c2 : nI k ≤ (999 : Int32) := nI_le (b := 999) hk (by omega)
  refine ⟨1, st_S (st_S (st_S σ 3 (nI i)) 4 (nI j)) 5 (nI k), st_S (st_S (st_S τ 3 (nI i)) 4 (nI j)) 5 (nI k), fun post hp => ?_, fun post hp => ?_, ⟨n, u, d, i, j, k, ⟨h1, h2, h3, ⟨rfl, rfl, hi, hi2⟩, ⟨rfl, rfl, hj, hj2⟩, ⟨rfl, rfl, hk⟩, h7⟩, hr⟩⟩
  · refine ⟨fun h => absurd h a1, fun _ => ⟨fun h => absurd h a2, fun _ => ⟨fun h => absurd h b1, fun _ => ⟨fun _ => ⟨fun h => absurd h c1, fun h => ⟨fun h2 => ?_, fun h => absurd c2 h⟩⟩, fun h => absurd b2 h⟩⟩⟩⟩
    simp only [forall_eq]; exact hp
  · refine q_in_ok (Int32.not_lt.mp a1) (Int32.not_lt.mp a2) ⟨fun h => absurd h n10, fun _ => q_in_ok (Int32.not_lt.mp b1) b2 ⟨fun h => absurd h n10, fun _ => q_in_ok (Int32.not_lt.mp c1) c2 ⟨fun _ => ?_, fun h => absurd h n10⟩⟩⟩
    simp only [forall_eq]; exact hp
theorem R_later {σ τ : St} {n u d sp se gr k : Nat} (hR : R_all σ τ n u d sp se gr) (h : d + k ≤ 999) : R_all (st_S σ 2 (nI (d + k))) (st_S τ 6 (nI (d + k))) n u (d + k) sp se gr := by
  obtain ⟨⟨h1, h2, h3, h4⟩, har, hpe, hus, hst, hro, hpl, hsh, hba⟩ := hR
  refine ⟨⟨h1, h2, ⟨rfl, rfl, h⟩, h4⟩, har, hpe, fun q hq => ?_, fun p r hp hr => ?_, hro, hpl, hsh, hba⟩
  · obtain ⟨g1, g2, e, he, g3⟩ := hus q hq
    exact ⟨g1, g2, e, by omega, g3⟩
  · obtain ⟨g1, g2⟩ := hst p r hp hr
    exact ⟨fun z => by obtain ⟨e, he, g3⟩ := g1 z; exact ⟨e, by omega, g3⟩, g2⟩
theorem pr_later {σ τ : St} (hR : R_ok σ τ) (a : Int32) : Pair (wX9_later σ a) (wX10_later τ a) := by
  obtain ⟨n, u, d, sp, se, gr, ha9⟩ := id hR
  obtain ⟨⟨h1, h2, ⟨e1, e2, hd⟩, h4⟩, hr⟩ := id ha9
  have es : (999 : Int32) - nI d = nI (999 - d) := pk_sub (a := 999) hd
  rcases rg0 a (N := 999 - d) (by omega) with ⟨k, hk, rfl⟩ | ha
  case inr =>
    refine pair_bad (-1) hR (fun post hp => ?_) (fun post hp => ?_)
    · unfold wX9_later; rw [e1, es]
      exact ⟨fun _ => hp, fun h => ⟨fun h2 => (ha.elim (fun z => absurd z h) (fun z => absurd z (Int32.not_lt.mpr h2))), fun _ => hp⟩⟩
    · unfold wX10_later; rw [e2, es]
      exact ⟨fun _ => hp, fun h => ⟨fun h2 => (ha.elim (fun z => absurd z h) (fun z => absurd z (Int32.not_lt.mpr h2))), fun _ => hp⟩⟩
  refine ⟨nI (d + k), _, _, fun post hp => ?_, fun post hp => ?_, ⟨n, u, d + k, sp, se, gr, R_later (k := k) ha9 (by omega)⟩⟩
  · unfold wX9_later; rw [e1, es, nI_add]
    refine ⟨fun h => absurd h (nI_pos (by omega)), fun _ => ⟨fun _ => ?_, fun h => absurd (nI_le hk (by omega)) h⟩⟩
    simp only [forall_eq]; exact hp
  · unfold wX10_later; rw [e2, es, nI_add]
    refine ⟨fun h => absurd h (nI_pos (by omega)), fun _ => ⟨fun _ => ?_, fun h => absurd (nI_le hk (by omega)) h⟩⟩
    simp only [forall_eq]; exact hp
theorem pr_asks {σ τ : St} (hR : R_ok σ τ) (a : Int32) : PairR (wX9_asks σ a) (wX10_asks τ a) := by
  obtain ⟨n, u, d, sp, se, gr, hsc, har, hr⟩ := id hR
  rcases rg_cases a (n := 3) (by omega) with ⟨k, hk, rfl⟩ | ha
  · refine ⟨σ.2.1 1 k, fun post hp => ?_, fun post hp => ?_⟩
    · refine ⟨fun h => absurd h (nI_pos (by omega)), fun _ => ⟨fun _ => ⟨vp_in_nI hk (by omega), ?_⟩, fun h => absurd (nI_lt (b := 3) hk (by omega)) h⟩⟩
      rw [cl]; exact hp
    · refine q_in_ok (nI_pos' (by omega)) (nI_le (b := 2) (by omega) (by omega)) ⟨fun h => absurd h n10, fun _ => ⟨vp_in_nI hk (by omega), ?_⟩⟩
      rw [cl, har.1]; exact hp
  · refine ⟨-1, fun post hp => ?_, fun post hp => ?_⟩
    · exact ⟨fun _ => hp, fun h => ⟨fun h2 => (ha.elim (fun z => absurd z h) (fun z => absurd h2 (Int32.not_lt.mpr z))), fun _ => hp⟩⟩
    · exact q_in_bad (ha.imp id (fun h => lt_pre (n := 2) (by omega) h)) ⟨fun _ => hp, fun h => absurd rfl h⟩
theorem pr_tries {σ τ : St} (hR : R_ok σ τ) : PairR (wX9_tries σ) (wX10_tries τ) := by
  obtain ⟨n, u, d, sp, se, gr, hsc, har, hpe, hus, hst, hro, hr⟩ := id hR
  exact ⟨σ.1 10, fun post hp => hp, fun post hp => by unfold wX10_tries; rw [hro.2]; exact hp⟩
theorem pr_asked {σ τ : St} (hR : R_ok σ τ) : PairR (wX9_asked σ) (wX10_asked τ) := by
  obtain ⟨n, u, d, sp, se, gr, hsc, hr⟩ := id hR
  exact ⟨σ.1 1, fun post hp => hp, fun post hp => by unfold wX10_asked; rw [hsc.2.2.2.2.2.2.2.1]; exact hp⟩
theorem pr_finding {σ τ : St} (hR : R_ok σ τ) : PairR (wX9_finding σ) (wX10_finding τ) := by
  obtain ⟨n, u, d, sp, se, gr, hsc, hr⟩ := id hR
  exact ⟨σ.1 14, fun post hp => hp, fun post hp => by unfold wX10_finding; rw [hsc.2.2.2.2.2.2.2.2]; exact hp⟩
theorem pr_findings {σ τ : St} (hR : R_ok σ τ) (a : Int32) : PairR (wX9_findings σ a) (wX10_findings τ a) := by
  obtain ⟨n, u, d, sp, se, gr, hsc, har, hr⟩ := id hR
  rcases rg1 a (N := 4) (by omega) with ⟨k, hk, hk2, rfl⟩ | ha
  · have b1 : ¬ nI k < 1 := nI_nlt (b := 1) hk (by omega)
    have b2 : nI k ≤ (4 : Int32) := nI_le (b := 4) hk2 (by omega)
    refine ⟨σ.2.1 21 k, fun post hp => ?_, fun post hp => ?_⟩
    · refine ⟨fun h => absurd h b1, fun _ => ⟨fun _ => ⟨vp_in_nI (by omega) (by omega), ?_⟩, fun h => absurd b2 h⟩⟩
      rw [cl]; exact hp
    · refine q_in_ok (Int32.not_lt.mp b1) b2 ⟨fun h => absurd h n10, fun _ => ⟨vp_in_nI (by omega) (by omega), ?_⟩⟩
      rw [cl, har.2.1]; exact hp
  · refine ⟨-1, fun post hp => ?_, fun post hp => ?_⟩
    · exact ⟨fun _ => hp, fun h => ⟨fun h2 => (ha.elim (fun z => absurd z h) (fun z => absurd z (Int32.not_lt.mpr h2))), fun _ => hp⟩⟩
    · exact q_in_bad ha ⟨fun _ => hp, fun h => absurd rfl h⟩
theorem pr_role {σ τ : St} (hR : R_ok σ τ) (a : Int32) : PairR (wX9_role σ a) (wX10_role τ a) := by
  obtain ⟨n, u, d, sp, se, gr, hsc, har, hpe, hus, hst, ⟨⟨m, hm, e1, e2, hro⟩, _⟩, hr⟩ := id hR
  rcases rg_cases a (n := m) (by omega) with ⟨k, hk, rfl⟩ | ha
  · refine ⟨σ.2.1 11 k, fun post hp => ?_, fun post hp => ?_⟩
    · unfold wX9_role; rw [e1]
      refine ⟨fun h => absurd h (nI_pos (by omega)), fun _ => ⟨fun _ => ⟨vp_in_nI (by omega) (by omega), ?_⟩, fun h => absurd (nI_lt hk (by omega)) h⟩⟩
      rw [cl]; exact hp
    · unfold wX10_role; rw [e2]
      obtain ⟨m', rfl⟩ : ∃ m', m = m' + 1 := ⟨m - 1, by omega⟩
      rw [nI_pred]
      refine q_in_ok (nI_pos' (by omega)) (nI_le (by omega) (by omega)) ⟨fun h => absurd h n10, fun _ => ⟨vp_in_nI (by omega) (by omega), ?_⟩⟩
      rw [cl, ← (hro k hk).1]; exact hp
  · refine ⟨-9, fun post hp => ?_, fun post hp => ?_⟩
    · unfold wX9_role; rw [e1]
      exact ⟨fun _ => hp, fun h => ⟨fun h2 => (ha.elim (fun z => absurd z h) (fun z => absurd h2 (Int32.not_lt.mpr z))), fun _ => hp⟩⟩
    · unfold wX10_role; rw [e2]
      refine q_in_bad (ha.imp id (fun h => ?_)) ⟨fun _ => hp, fun h => absurd rfl h⟩
      rw [fa_le, nI_toInt (by omega)] at h
      have : (nI m - 1).toInt = (m : Int) - 1 := pk_sub_toInt (b := 1) (by omega) (by omega)
      rw [fa_lt, this]
      omega
