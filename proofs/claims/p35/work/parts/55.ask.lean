/-! ===== pure: ask, kind, uses ===== -/
theorem R_ask {σ τ : St} {n u d sp se gr : Nat} (k : Nat) (hR : R_all σ τ n u d sp se gr) : R_all (st_A σ 1 k (σ.2.1 1 k + 1)) (st_A τ 7 k (τ.2.1 7 k + 1)) n u d sp se gr := by
  obtain ⟨hsc, ⟨r1, r2⟩, hr⟩ := hR
  exact ⟨hsc, ⟨show upd (τ.2.1 7) k _ = upd (σ.2.1 1) k _ by rw [r1], r2⟩, hr⟩
theorem zc0 : (0 : Int32).toNatClampNeg = 0 := rfl
theorem zc1 : (1 : Int32).toNatClampNeg = 1 := rfl
theorem zc2 : (2 : Int32).toNatClampNeg = 2 := rfl
theorem zi0 : vp_in (0 : Int32) 3 := vp_in_nI (n := 0) (by omega) (by omega)
theorem zi1 : vp_in (1 : Int32) 3 := vp_in_nI (n := 1) (by omega) (by omega)
theorem zi2 : vp_in (2 : Int32) 3 := vp_in_nI (n := 2) (by omega) (by omega)
theorem n01 : ¬ (0 : Int32) = 1 := by decide
theorem n21 : ¬ (2 : Int32) = 1 := by decide
/-- a right that is asked for comes back on both sides -/
theorem R_back {σ τ : St} {n u d sp se gr p r : Nat} (hR : R_all σ τ n u d sp se gr) (hp : p < n) (hr : r < 12) :
    R_all (st_A (st_A σ 3 p (σ.2.1 3 p ||| ((1 : Int32) <<< (nI r &&& 31)))) 4 p (σ.2.1 4 p &&& (((1 : Int32) <<< (nI r &&& 31)) ^^^ (-1)))) (st_A (st_A τ 2 p (σ.2.1 3 p ||| ((1 : Int32) <<< (nI r &&& 31)))) 3 (12 * p + r) (-9)) n u d sp se gr := by
  obtain ⟨hsc, har, hpe, hus, hst, hro, hpl, hsh, hba⟩ := hR
  have hn : n ≤ 10 := hsc.1.2.2
  refine ⟨hsc, ?_, ?_, hus, ?_, hro, hpl, hsh, hba⟩
  · obtain ⟨r1, r2, r3, r4, r5⟩ := har
    exact ⟨r1, r2, r3, show upd (τ.2.1 2) p _ = upd (σ.2.1 3) p _ by rw [r4], r5⟩
  · refine ⟨fun q => ?_, fun q hq => ?_⟩
    · obtain ⟨g1, g2, g3, g4⟩ := hpe.1 q
      show (∃ m' : Nat, m' < 256 ∧ σ.2.1 2 q = nI m') ∧ sm (upd (σ.2.1 3) p _ q) ∧ sm (upd (σ.2.1 4) p _ q) ∧ True
      by_cases e : q = p
      · subst e
        rw [pk_us, pk_us]
        exact ⟨g1, sm_or g2 (sm_one hr), sm_and g3, trivial⟩
      · rw [pk_un e, pk_un e]
        exact ⟨g1, g2, g3, trivial⟩
    · show upd (σ.2.1 4) p _ q = 0
      rw [pk_un (by omega)]
      exact hpe.2 q hq
  · intro q r' hq hr'
    obtain ⟨g1, g2⟩ := hst q r' hq hr'
    show (bt (upd (σ.2.1 4) p (σ.2.1 4 p &&& (((1 : Int32) <<< (nI r &&& 31)) ^^^ (-1))) q) r' = true → ∃ e, e ≤ d ∧ σ.2.1 5 (q * 12 + r') = nI e ∧ upd (τ.2.1 3) (12 * p + r) (-9) (12 * q + r') = nI e) ∧ (bt (upd (σ.2.1 4) p (σ.2.1 4 p &&& (((1 : Int32) <<< (nI r &&& 31)) ^^^ (-1))) q) r' = false → upd (τ.2.1 3) (12 * p + r) (-9) (12 * q + r') = -9)
    by_cases e : q = p
    · subst e
      rw [pk_us, b_and, pb_not (by omega), pb_one (by omega) (by omega)]
      by_cases er : r' = r
      · subst er
        rw [pk_us]
        simp
      · rw [pk_un (by omega)]
        simpa [er] using ⟨g1, g2⟩
    · rw [pk_un e, pk_un (by omega)]
      exact ⟨g1, g2⟩
theorem pr_ask {σ τ : St} (hR : R_ok σ τ) (a b : Int32) : Pair (wX9_ask σ a b) (wX10_ask τ a b) := by
  obtain ⟨n, u, d, sp, se, gr, ha9⟩ := id hR
  obtain ⟨⟨⟨h6, m1, hn⟩, ⟨u1, u2, hu⟩, ⟨d1, d2, hd⟩, hs3, hs4, ⟨g1, g2, hg⟩, hsc⟩, har, hpe, hus, hst, hro, hpl, hsh, hba⟩ := id ha9
  rcases rg_cases a (n := n) (by omega) with ⟨p, hp, rfl⟩ | ha
  case inr =>
    refine pair_bad (-1) hR (fun post hp => ?_) (fun post hp => ?_)
    · exact q_noPerson_bad h6 ha ⟨fun _ => hp, fun h => absurd h n10⟩
    · exact q_isPerson_bad m1 hn ha ⟨fun _ => hp, fun h => absurd rfl h⟩
  have hp10 : p < 10 := by omega
  rcases rg_cases b (n := 12) (by omega) with ⟨r, hr, rfl⟩ | ha
  case inr =>
    refine pair_bad (-1) hR (fun post hpo => ?_) (fun post hpo => ?_)
    · exact q_noPerson_ok h6 hn hp ⟨fun h => absurd rfl h, fun _ => q_noRight_bad ha ⟨fun h => absurd h n10, fun _ => hpo⟩⟩
    · exact q_isPerson_ok m1 hn hp ⟨fun h => absurd h n10, fun _ => q_isRight_bad ha ⟨fun h => absurd rfl h, fun _ => hpo⟩⟩
  have cp : (nI p).toNatClampNeg = p := nI_clamp (by omega)
  have cq : (nI (p * 12 + r)).toNatClampNeg = p * 12 + r := nI_clamp (by omega)
  have cq2 : (nI (12 * p + r)).toNatClampNeg = 12 * p + r := nI_clamp (by omega)
  obtain ⟨w1, w2⟩ := hst p r hp10 hr
  have t1 := pb_test (x := σ.2.1 3 p) (show r < 32 by omega)
  have t2 := pb_test (x := σ.2.1 4 p) (show r < 32 by omega)
  have a4 := har.2.2.2.1
  cases e1 : bt (σ.2.1 3 p) r
  · have t1' := t1.mpr e1
    cases e2 : bt (σ.2.1 4 p) r
    · have t2' := t2.mpr e2
      refine ⟨0, _, _, fun post hpo => ?_, fun post hpo => ?_, ⟨n, u, d, sp, se, gr, R_ask 0 ha9⟩⟩
      · refine q_noPerson_ok h6 hn hp ⟨fun h => absurd rfl h, fun _ => q_noRight_ok hr ⟨fun _ => ?_, fun h => absurd rfl h⟩⟩
        unfold wX5_request
        simp only [forall_eq, cp, zc0, t1', t2']
        exact ⟨in10 hp10, fun _ => ⟨in10 hp10, fun _ => ⟨zi0, zi0, hpo⟩, fun h => absurd trivial h⟩, fun h => absurd trivial h⟩
      · refine q_isPerson_ok m1 hn hp ⟨fun h => absurd h n10, fun _ => q_isRight_ok hr ⟨fun _ => ?_, fun h => absurd h n10⟩⟩
        simp only [forall_eq, mul12, cp, cq2, zc0, w2 e2, a4]
        refine ⟨in120 hp10 hr, in10 hp10, q_has (by omega) ?_⟩
        rw [e1]
        exact ⟨fun _ => ⟨fun _ => ⟨fun _ => ⟨zi0, zi0, hpo⟩, fun h => absurd h n01⟩, fun h => absurd m9' h⟩, fun h => absurd rfl h⟩
    · have t2' : ¬ (σ.2.1 4 p &&& ((1 : Int32) <<< (nI r &&& 31))) = 0 := fun h => by rw [t2.mp h] at e2; cases e2
      obtain ⟨e, he, x1, x2⟩ := w1 e2
      have es : nI d - nI e = nI (d - e) := pk_sub he
      by_cases c : gr < d - e
      · have c' : nI gr < nI (d - e) := nI_lt c (by omega)
        refine ⟨0, _, _, fun post hpo => ?_, fun post hpo => ?_, ⟨n, u, d, sp, se, gr, R_ask 0 ha9⟩⟩
        · refine q_noPerson_ok h6 hn hp ⟨fun h => absurd rfl h, fun _ => q_noRight_ok hr ⟨fun _ => ?_, fun h => absurd rfl h⟩⟩
          unfold wX5_request wX2_isInGrace
          simp only [forall_eq, cp, cq, mulr12, zc0, t1', x1, g1, d1, es]
          exact ⟨in10 hp10, fun _ => ⟨in10 hp10, fun h => absurd h t2', fun _ => ⟨in120r hp10 hr, fun _ => ⟨fun h => absurd trivial h, fun _ => ⟨zi0, zi0, hpo⟩⟩, fun h => absurd c' h⟩⟩, fun h => absurd trivial h⟩
        · refine q_isPerson_ok m1 hn hp ⟨fun h => absurd h n10, fun _ => q_isRight_ok hr ⟨fun _ => ?_, fun h => absurd h n10⟩⟩
          simp only [forall_eq, mul12, cp, cq2, zc0, x2, a4, g2, d2, es]
          refine ⟨in120 hp10 hr, in10 hp10, q_has (by omega) ?_⟩
          rw [e1]
          exact ⟨fun _ => ⟨fun h => absurd h (nI_pos (by omega)), fun _ => ⟨fun _ => ⟨fun _ => ⟨zi0, zi0, hpo⟩, fun h => absurd h n01⟩, fun h => absurd c' h⟩⟩, fun h => absurd rfl h⟩
      · have c' : ¬ nI gr < nI (d - e) := nI_nlt (by omega) (by omega)
        have hRg := R_back ha9 hp hr
        refine ⟨1, _, _, fun post hpo => ?_, fun post hpo => ?_, ⟨n, u, d, sp, se, gr, R_ask 1 hRg⟩⟩
        · refine q_noPerson_ok h6 hn hp ⟨fun h => absurd rfl h, fun _ => q_noRight_ok hr ⟨fun _ => ?_, fun h => absurd rfl h⟩⟩
          unfold wX5_request wX2_isInGrace
          simp only [forall_eq, cp, cq, mulr12, zc1, t1', x1, g1, d1, es, st_A2]
          exact ⟨in10 hp10, fun _ => ⟨in10 hp10, fun h => absurd h t2', fun _ => ⟨in120r hp10 hr, fun h => absurd h c', fun _ => ⟨fun _ => ⟨in10 hp10, in10 hp10, in10 hp10, in10 hp10, zi1, zi1, hpo⟩, fun h => absurd h n10⟩⟩⟩, fun h => absurd trivial h⟩
        · refine q_isPerson_ok m1 hn hp ⟨fun h => absurd h n10, fun _ => q_isRight_ok hr ⟨fun _ => ?_, fun h => absurd h n10⟩⟩
          simp only [forall_eq, mul12, cp, cq2, zc1, x2, a4, g2, d2, es]
          refine ⟨in120 hp10 hr, in10 hp10, q_has (by omega) ?_⟩
          rw [e1]
          exact ⟨fun _ => ⟨fun h => absurd h (nI_pos (by omega)), fun _ => ⟨fun h => absurd h c', fun _ => ⟨fun h => absurd trivial h, fun _ => ⟨in10 hp10, in10 hp10, in120 hp10 hr, zi1, zi1, hpo⟩⟩⟩⟩, fun h => absurd rfl h⟩
  · have t1' : ¬ (σ.2.1 3 p &&& ((1 : Int32) <<< (nI r &&& 31))) = 0 := fun h => by rw [t1.mp h] at e1; cases e1
    refine ⟨2, _, _, fun post hpo => ?_, fun post hpo => ?_, ⟨n, u, d, sp, se, gr, R_ask 2 ha9⟩⟩
    · refine q_noPerson_ok h6 hn hp ⟨fun h => absurd rfl h, fun _ => q_noRight_ok hr ⟨fun _ => ?_, fun h => absurd rfl h⟩⟩
      unfold wX5_request
      simp only [forall_eq, cp, zc2]
      exact ⟨in10 hp10, fun h => absurd h t1', fun _ => ⟨zi2, zi2, hpo⟩⟩
    · refine q_isPerson_ok m1 hn hp ⟨fun h => absurd h n10, fun _ => q_isRight_ok hr ⟨fun _ => ?_, fun h => absurd h n10⟩⟩
      simp only [forall_eq, mul12, cp, cq2, zc2, a4]
      refine ⟨in120 hp10 hr, in10 hp10, q_has (by omega) ?_⟩
      rw [e1]
      exact ⟨fun h => absurd h n10, fun _ => ⟨fun _ => ⟨zi2, zi2, hpo⟩, fun h => absurd h n21⟩⟩
theorem R_kind {σ τ : St} {n u d sp se gr : Nat} (hR : R_all σ τ n u d sp se gr) (p r : Nat) : kindF (τ.2.1 4) (τ.2.1 5) (τ.2.1 6) (τ.1 2) u d sp se p r = kindF (σ.2.1 6) (σ.2.1 7) (σ.2.1 8) (σ.1 0) u d sp se p r := by
  obtain ⟨⟨_, _, _, _, _, _, ⟨h7, _⟩, _⟩, ⟨_, _, _, a4, a5, a6, a7, _⟩, _⟩ := hR
  rw [a5, a6, a7, h7]
theorem pr_kind {σ τ : St} (hR : R_ok σ τ) (a b : Int32) : PairR (wX9_kind σ a b) (wX10_kind τ a b) := by
  obtain ⟨n, u, d, sp, se, gr, ha9⟩ := id hR
  have hxl := R_xlog ha9
  have hml := R_mlog ha9
  obtain ⟨⟨⟨h6, m1, hn⟩, hsc⟩, har, hpe, hus, hst, hro, hpl, hsh, hba⟩ := id ha9
  rcases rg_cases a (n := n) (by omega) with ⟨p, hp, rfl⟩ | ha
  case inr =>
    refine ⟨-1, fun post hp => ?_, fun post hp => ?_⟩
    · exact q_noPerson_bad h6 ha ⟨fun _ => hp, fun h => absurd h n10⟩
    · exact q_isPerson_bad m1 hn ha ⟨fun _ => hp, fun h => absurd rfl h⟩
  have hp10 : p < 10 := by omega
  have cp : (nI p).toNatClampNeg = p := nI_clamp (by omega)
  rcases rg_cases b (n := 12) (by omega) with ⟨r, hr, rfl⟩ | ha
  case inr =>
    refine ⟨-1, fun post hpo => ?_, fun post hpo => ?_⟩
    · exact q_noPerson_ok h6 hn hp ⟨fun h => absurd rfl h, fun _ => q_noRight_bad ha ⟨fun h => absurd h n10, fun _ => hpo⟩⟩
    · exact q_isPerson_ok m1 hn hp ⟨fun h => absurd h n10, fun _ => q_isRight_bad ha ⟨fun h => absurd rfl h, fun _ => hpo⟩⟩
  cases e1 : bt (σ.2.1 3 p) r
  · refine ⟨-4, fun post hpo => ?_, fun post hpo => ?_⟩
    · refine q_noPerson_ok h6 hn hp ⟨fun h => absurd rfl h, fun _ => q_noRight_ok hr ⟨fun _ => q_xhas hp10 (by omega) ?_, fun h => absurd rfl h⟩⟩
      rw [e1]; exact ⟨fun h => absurd rfl h, fun _ => hpo⟩
    · refine q_isPerson_ok m1 hn hp ⟨fun h => absurd h n10, fun _ => q_isRight_ok hr ⟨fun _ => ⟨in10 hp10, q_has (by omega) ?_⟩, fun h => absurd h n10⟩⟩
      rw [cp, har.2.2.2.1, e1]; exact ⟨fun _ => hpo, fun h => absurd rfl h⟩
  · refine ⟨kindF (σ.2.1 6) (σ.2.1 7) (σ.2.1 8) (σ.1 0) u d sp se p r, fun post hpo => ?_, fun post hpo => ?_⟩
    · refine q_noPerson_ok h6 hn hp ⟨fun h => absurd rfl h, fun _ => q_noRight_ok hr ⟨fun _ => q_xhas hp10 (by omega) ?_, fun h => absurd rfl h⟩⟩
      rw [e1]; exact ⟨fun _ => q_xkind hxl hr hpo, fun h => absurd h n10⟩
    · refine q_isPerson_ok m1 hn hp ⟨fun h => absurd h n10, fun _ => q_isRight_ok hr ⟨fun _ => ⟨in10 hp10, q_has (by omega) ?_⟩, fun h => absurd h n10⟩⟩
      rw [cp, har.2.2.2.1, e1]
      refine ⟨fun h => absurd h n10, fun _ => q_mkind hml hr ?_⟩
      rw [R_kind ha9]; exact hpo
theorem pr_uses {σ τ : St} (hR : R_ok σ τ) (a b c : Int32) : Pair (wX9_uses σ a b c) (wX10_uses τ a b c) := by
  obtain ⟨n, u, d, sp, se, gr, ha9⟩ := id hR
  have hxl := R_xlog ha9
  have hml := R_mlog ha9
  obtain ⟨⟨⟨h6, m1, hn⟩, ⟨u1, u2, hu⟩, hsc⟩, har, hpe, hus, hst, hro, hpl, hsh, hba⟩ := id ha9
  rcases rg_cases a (n := n) (by omega) with ⟨p, hp, rfl⟩ | ha
  case inr =>
    refine pair_bad (-1) hR (fun post hp => ?_) (fun post hp => ?_)
    · exact q_noPerson_bad h6 ha ⟨fun _ => hp, fun h => absurd h n10⟩
    · exact q_isPerson_bad m1 hn ha ⟨fun _ => hp, fun h => absurd rfl h⟩
  have hp10 : p < 10 := by omega
  have cp : (nI p).toNatClampNeg = p := nI_clamp (by omega)
  rcases rg_cases b (n := 12) (by omega) with ⟨r, hr, rfl⟩ | ha
  case inr =>
    refine pair_bad (-1) hR (fun post hpo => ?_) (fun post hpo => ?_)
    · exact q_noPerson_ok h6 hn hp ⟨fun h => absurd rfl h, fun _ => q_noRight_bad ha ⟨fun _ => hpo, fun h => absurd h n10⟩⟩
    · exact q_isPerson_ok m1 hn hp ⟨fun h => absurd h n10, fun _ => q_isRight_bad ha ⟨fun _ => hpo, fun h => absurd rfl h⟩⟩
  rcases rg0 c (N := 3) (by omega) with ⟨k, hk, rfl⟩ | ha
  case inr =>
    refine pair_bad (-1) hR (fun post hpo => ?_) (fun post hpo => ?_)
    · exact q_noPerson_ok h6 hn hp ⟨fun h => absurd rfl h, fun _ => q_noRight_ok hr ⟨fun h => absurd rfl h, fun _ => ⟨fun _ => hpo, fun h => ⟨fun h2 => (ha.elim (fun z => absurd z h) (fun z => absurd z (Int32.not_lt.mpr h2))), fun _ => hpo⟩⟩⟩⟩
    · exact q_isPerson_ok m1 hn hp ⟨fun h => absurd h n10, fun _ => q_isRight_ok hr ⟨fun h => absurd h n10, fun _ => q_in_bad ha ⟨fun h => absurd rfl h, fun _ => hpo⟩⟩⟩
  have c1 : ¬ nI k < 0 := nI_pos (by omega)
  have c2 : nI k ≤ 3 := nI_le (b := 3) hk (by omega)
  cases e1 : bt (σ.2.1 3 p) r
  · refine pair_bad (-4) hR (fun post hpo => ?_) (fun post hpo => ?_)
    · refine q_noPerson_ok h6 hn hp ⟨fun h => absurd rfl h, fun _ => q_noRight_ok hr ⟨fun h => absurd rfl h, fun _ => ⟨fun h => absurd h c1, fun _ => ⟨fun _ => q_xhas hp10 (by omega) ?_, fun h => absurd c2 h⟩⟩⟩⟩
      rw [e1]; exact ⟨fun h => absurd rfl h, fun _ => hpo⟩
    · refine q_isPerson_ok m1 hn hp ⟨fun h => absurd h n10, fun _ => q_isRight_ok hr ⟨fun h => absurd h n10, fun _ => q_in_ok (Int32.not_lt.mp c1) c2 ⟨fun _ => ⟨in10 hp10, q_has (by omega) ?_⟩, fun h => absurd h n10⟩⟩⟩
      rw [cp, har.2.2.2.1, e1]; exact ⟨fun h => absurd rfl h, fun _ => hpo⟩
  obtain ⟨kd, ekd⟩ : ∃ z, z = kindF (σ.2.1 6) (σ.2.1 7) (σ.2.1 8) (σ.1 0) u d sp se p r := ⟨_, rfl⟩
  have xs : ∀ post : Int32 → St → Prop, wX9_isOfKind kd (nI k) (fun (r5 : Int32) => (¬ r5 = 0 → (wX8_ofHolding σ (nI p) (nI r) (fun (r6 : Int32) => post r6 σ))) ∧ (r5 = 0 → (wX4_answer σ (3 : Int32) (fun (r7 : Int32) (σ8 : St) => post r7 σ8)))) → wX9_uses σ (nI p) (nI r) (nI k) post := by
    intro post h
    refine q_noPerson_ok h6 hn hp ⟨fun h => absurd rfl h, fun _ => q_noRight_ok hr ⟨fun h => absurd rfl h, fun _ => ⟨fun h => absurd h c1, fun _ => ⟨fun _ => q_xhas hp10 (by omega) ?_, fun h => absurd c2 h⟩⟩⟩⟩
    rw [e1]
    refine ⟨fun _ => q_xkind hxl hr ?_, fun h => absurd h n10⟩
    rw [← ekd]; exact h
  have ms : ∀ post : Int32 → St → Prop, ((nI k = 0 → (∃ n12 : Nat, lpX10_uses_83 (nI p) (nI r) τ post n12 (0 : Int32) (0 : Int32))) ∧ (¬ nI k = 0 → ((nI k = kd → (∃ n13 : Nat, lpX10_uses_83 (nI p) (nI r) τ post n13 (0 : Int32) (0 : Int32))) ∧ (¬ nI k = kd → ((¬ nI k = (1 : Int32) → (wX10_meets τ (3 : Int32) (fun (r14 : Int32) (σ15 : St) => post r14 σ15))) ∧ (nI k = (1 : Int32) → ((kd = (2 : Int32) → (∃ n16 : Nat, lpX10_uses_83 (nI p) (nI r) τ post n16 (0 : Int32) (0 : Int32))) ∧ (¬ kd = (2 : Int32) → (wX10_meets τ (3 : Int32) (fun (r17 : Int32) (σ18 : St) => post r17 σ18)))))))))) → wX10_uses τ (nI p) (nI r) (nI k) post := by
    intro post h
    refine q_isPerson_ok m1 hn hp ⟨fun h => absurd h n10, fun _ => q_isRight_ok hr ⟨fun h => absurd h n10, fun _ => q_in_ok (Int32.not_lt.mp c1) c2 ⟨fun _ => ⟨in10 hp10, q_has (by omega) ?_⟩, fun h => absurd h n10⟩⟩⟩
    rw [cp, har.2.2.2.1, e1]
    refine ⟨fun _ => q_mkind hml hr ?_, fun h => absurd h n10⟩
    rw [R_kind ha9, ← ekd]; exact h
  have yes : ∀ (hx : ∀ Q : Int32 → Prop, Q 1 → wX9_isOfKind kd (nI k) Q) (hm : ∀ (A B C : Prop), A → ((nI k = 0 → A) ∧ (¬ nI k = 0 → ((nI k = kd → A) ∧ (¬ nI k = kd → ((¬ nI k = (1 : Int32) → B) ∧ (nI k = (1 : Int32) → ((kd = (2 : Int32) → A) ∧ (¬ kd = (2 : Int32) → C)))))))) ), Pair (wX9_uses σ (nI p) (nI r) (nI k)) (wX10_uses τ (nI p) (nI r) (nI k)) := by
    intro hx hm
    refine pair_bad (nI (fb_ct (fun k => uA (σ.2.1 6) (σ.2.1 7) p r k) u)) hR (fun post hpo => xs post (hx _ ⟨fun _ => q_xhold u1 hu hpo, fun h => absurd h n10⟩)) (fun post hpo => ms post (hm _ _ _ (q_mhold u2 hu ?_)))
    rw [har.2.2.2.2.1, har.2.2.2.2.2.1]; exact hpo
  by_cases k0 : nI k = 0
  · exact yes (fun Q h => ⟨fun _ => h, fun h2 => absurd k0 h2⟩) (fun A B C h => ⟨fun _ => h, fun h2 => absurd k0 h2⟩)
  by_cases kk : nI k = kd
  · exact yes (fun Q h => ⟨fun h2 => absurd h2 k0, fun _ => ⟨fun _ => h, fun h2 => absurd kk.symm h2⟩⟩) (fun A B C h => ⟨fun h2 => absurd h2 k0, fun _ => ⟨fun _ => h, fun h2 => absurd kk h2⟩⟩)
  have kk' : ¬ kd = nI k := fun h => kk h.symm
  by_cases k1 : nI k = 1
  · by_cases k2 : kd = 2
    · exact yes (fun Q h => ⟨fun h2 => absurd h2 k0, fun _ => ⟨fun h2 => absurd h2 kk', fun _ => ⟨fun h2 => absurd k1 h2, fun _ => ⟨fun h2 => absurd k2 h2, fun _ => h⟩⟩⟩⟩) (fun A B C h => ⟨fun h2 => absurd h2 k0, fun _ => ⟨fun h2 => absurd h2 kk, fun _ => ⟨fun h2 => absurd k1 h2, fun _ => ⟨fun _ => h, fun h2 => absurd k2 h2⟩⟩⟩⟩)
    · refine pair_find 3 (by omega) ha9 (fun post hpo => xs post ?_) (fun post hpo => ms post ?_)
      · exact ⟨fun h2 => absurd h2 k0, fun _ => ⟨fun h2 => absurd h2 kk', fun _ => ⟨fun h2 => absurd k1 h2, fun _ => ⟨fun _ => ⟨fun h2 => absurd rfl h2, fun _ => hpo⟩, fun h2 => absurd h2 k2⟩⟩⟩⟩
      · exact ⟨fun h2 => absurd h2 k0, fun _ => ⟨fun h2 => absurd h2 kk, fun _ => ⟨fun h2 => absurd k1 h2, fun _ => ⟨fun h2 => absurd h2 k2, fun _ => hpo⟩⟩⟩⟩
  · refine pair_find 3 (by omega) ha9 (fun post hpo => xs post ?_) (fun post hpo => ms post ?_)
    · exact ⟨fun h2 => absurd h2 k0, fun _ => ⟨fun h2 => absurd h2 kk', fun _ => ⟨fun _ => ⟨fun h2 => absurd rfl h2, fun _ => hpo⟩, fun h2 => absurd h2 k1⟩⟩⟩
    · exact ⟨fun h2 => absurd h2 k0, fun _ => ⟨fun h2 => absurd h2 kk, fun _ => ⟨fun _ => hpo, fun h2 => absurd h2 k1⟩⟩⟩
