/-! ===== pure: exceptions, rolesOf, count ===== -/
def wrB (marks rights : Nat → Int32) (r : Nat) (set : Int32) (p : Nat) : Bool := decide ((marks p &&& set) = set) != bt (rights p) r
theorem sub_iff {x y : Int32} : (x &&& y) = y ↔ (y &&& (x ^^^ (-1))) = 0 := by
  rw [pb_sub]
  constructor
  · intro h i hi hy
    rw [← h, b_and, Bool.and_eq_true] at hy
    exact hy.1
  · intro h
    refine b_ext (fun i hi => ?_)
    rw [b_and]
    cases e : bt y i
    · simp
    · rw [h i hi e]; rfl
theorem one_eq {b : Bool} : ((1 : Int32) = if b then 1 else 0) ↔ b = true := by cases b <;> decide
theorem zero_eq {b : Bool} : ((0 : Int32) = if b then 1 else 0) ↔ b = false := by cases b <;> decide
theorem q_mist {σ : St} {n r : Nat} {set : Int32} {post : Int32 → Prop} (h6 : σ.1 6 = nI n) (hn : n ≤ 10) (hr : r < 12) (h : post (mkS (wrB (σ.2.1 2) (σ.2.1 3) r set) n)) : wX5_mistold σ (nI r) set post := by
  obtain ⟨v, hv, hw⟩ := lp_val (Pt := Int32 → Prop) (fun post n i acc => lpX5_mistold_5 (nI r) set σ post n acc i) (fun post acc => post acc)
    (fun i acc => acc = mkS (wrB (σ.2.1 2) (σ.2.1 3) r set) i) n
    (fun post acc k _ hp2 => by
      rw [lpX5_mistold_5, h6]
      exact ⟨fun _ => hp2, fun h => absurd (nI_le (Nat.le_refl n) (by omega)) h⟩)
    (fun i acc hi hI => by
      refine ⟨_, rfl, fun post k h => ?_⟩
      rw [lpX5_mistold_5, h6]
      refine ⟨fun h2 => absurd h2 (nI_ge hi (by omega)), fun _ => ⟨in10 (by omega), ?_⟩⟩
      simp only [forall_eq, nI_1, nI_clamp (show i < 2 ^ 31 by omega)]
      rw [mkS, ← hI, wrB] at h
      refine ⟨fun c => q_xhas (by omega) (by omega) ?_, fun c => q_xhas (by omega) (by omega) ?_⟩
      · rw [decide_eq_false c] at h
        rw [zero_eq]
        cases e : bt (σ.2.1 3 i) r
        · rw [e] at h; exact ⟨fun _ => h, fun h2 => absurd rfl h2⟩
        · rw [e] at h; exact ⟨fun h2 => by simp at h2, fun _ => h⟩
      · rw [decide_eq_true c] at h
        rw [one_eq]
        cases e : bt (σ.2.1 3 i) r
        · rw [e] at h; exact ⟨fun h2 => by simp at h2, fun _ => h⟩
        · rw [e] at h; exact ⟨fun _ => h, fun h2 => absurd rfl h2⟩)
    n 0 0 (by omega) rfl
  exact ⟨_, hw post (by rw [hv]; exact h)⟩
theorem q_exc {τ : St} {n r : Nat} {set : Int32} {post : Int32 → Prop} (m1 : τ.1 1 = nI n) (hn : n ≤ 10) (hr : r < 12) (h : post (mkS (wrB (τ.2.1 1) (τ.2.1 2) r set) n)) : wX10_exceptionsTo τ (nI r) set post := by
  obtain ⟨v, hv, hw⟩ := lp_val (Pt := Int32 → Prop) (fun post n i acc => lpX10_exceptionsTo_5 (nI r) set τ post n acc i) (fun post acc => post acc)
    (fun i acc => acc = mkS (wrB (τ.2.1 1) (τ.2.1 2) r set) i) n
    (fun post acc k _ hp2 => by
      rw [lpX10_exceptionsTo_5, m1]
      exact ⟨fun _ => hp2, fun h => absurd (nI_le (Nat.le_refl n) (by omega)) h⟩)
    (fun i acc hi hI => by
      refine ⟨_, rfl, fun post k h => ?_⟩
      rw [lpX10_exceptionsTo_5, m1]
      refine ⟨fun h2 => absurd h2 (nI_ge hi (by omega)), fun _ => ⟨in10 (by omega), ?_⟩⟩
      simp only [forall_eq, nI_1, or0, nI_clamp (show i < 2 ^ 31 by omega)]
      rw [mkS, ← hI, wrB] at h
      refine ⟨fun c => ⟨in10 (by omega), q_has (by omega) ?_⟩, fun c => ⟨in10 (by omega), q_has (by omega) ?_⟩⟩
      · rw [decide_eq_false (fun z => c (sub_iff.mp z))] at h
        rw [zero_eq]
        cases e : bt (τ.2.1 2 i) r
        · rw [e] at h; exact ⟨fun _ => h, fun h2 => absurd rfl h2⟩
        · rw [e] at h; exact ⟨fun h2 => by simp at h2, fun _ => h⟩
      · rw [decide_eq_true (sub_iff.mpr c)] at h
        rw [one_eq]
        cases e : bt (τ.2.1 2 i) r
        · rw [e] at h; exact ⟨fun h2 => by simp at h2, fun _ => h⟩
        · rw [e] at h; exact ⟨fun _ => h, fun h2 => absurd rfl h2⟩)
    n 0 0 (by omega) rfl
  exact ⟨_, hw post (by rw [hv]; exact h)⟩
theorem pr_exceptions {σ τ : St} (hR : R_ok σ τ) (a b : Int32) : PairR (wX9_exceptions σ a b) (wX10_exceptions τ a b) := by
  obtain ⟨n, u, d, sp, se, gr, ⟨⟨h6, m1, hn⟩, hsc⟩, har, hr9⟩ := id hR
  rcases rg_cases a (n := 12) (by omega) with ⟨r, hr, rfl⟩ | ha
  case inr =>
    refine ⟨-1, fun post hp => ?_, fun post hp => ?_⟩
    · exact q_noRight_bad ha ⟨fun _ => hp, fun h => absurd h n10⟩
    · exact q_isRight_bad ha ⟨fun _ => hp, fun h => absurd rfl h⟩
  rcases rg_cases b (n := 256) (by omega) with ⟨m, hm, rfl⟩ | hb
  case inr =>
    refine ⟨-1, fun post hp => ?_, fun post hp => ?_⟩
    · exact q_noRight_ok hr ⟨fun h => absurd rfl h, fun _ => q_noMark_bad hb ⟨fun h => absurd h n10, fun _ => hp⟩⟩
    · exact q_isRight_ok hr ⟨fun h => absurd h n10, fun _ => q_in_bad (hb.imp id (fun h => lt_pre (n := 255) (by omega) h)) ⟨fun _ => hp, fun h => absurd rfl h⟩⟩
  refine ⟨mkS (wrB (σ.2.1 2) (σ.2.1 3) r (nI m)) n, fun post hp => ?_, fun post hp => ?_⟩
  · exact q_noRight_ok hr ⟨fun h => absurd rfl h, fun _ => q_noMark_ok hm ⟨fun _ => q_mist h6 hn hr hp, fun h => absurd rfl h⟩⟩
  · refine q_isRight_ok hr ⟨fun h => absurd h n10, fun _ => q_in_ok le0 (nI_le (b := 255) (by omega) (by omega)) ⟨fun h => absurd h n10, fun _ => q_exc m1 hn hr ?_⟩⟩
    rw [har.2.2.1, har.2.2.2.1]
    exact hp
def wiB (ro : Nat → Int32) (k : Int32) (i : Nat) : Bool := decide ((ro i &&& (k ^^^ (-1))) = 0)
theorem mkS_cong {f g : Nat → Bool} : ∀ {n : Nat}, (∀ k, k < n → f k = g k) → mkS f n = mkS g n
  | 0, _ => rfl
  | n + 1, h => by rw [mkS, mkS, h n (by omega), mkS_cong (fun k hk => h k (by omega))]
theorem pr_rolesOf {σ τ : St} (hR : R_ok σ τ) (a : Int32) : PairR (wX9_rolesOf σ a) (wX10_rolesOf τ a) := by
  obtain ⟨n, u, d, sp, se, gr, ha9⟩ := id hR
  have hxl := R_xlog ha9
  have hml := R_mlog ha9
  obtain ⟨⟨⟨h6, m1, hn⟩, hsc⟩, har, hpe, hus, hst, ⟨⟨m, hm, e1, e2, hro⟩, _⟩, hr⟩ := id ha9
  rcases rg_cases a (n := n) (by omega) with ⟨p, hp, rfl⟩ | ha
  case inr =>
    refine ⟨-1, fun post hp => ?_, fun post hp => ?_⟩
    · exact q_noPerson_bad h6 ha ⟨fun h => absurd h n10, fun _ => hp⟩
    · exact q_isPerson_bad m1 hn ha ⟨fun h => absurd rfl h, fun _ => hp⟩
  have hp10 : p < 10 := by omega
  refine ⟨mkS (wiB (σ.2.1 11) (xkept σ u d sp se p)) m, fun post hpo => ?_, fun post hpo => ?_⟩
  · obtain ⟨v, hv, hw⟩ := lp_val (Pt := Int32 → Prop) (fun post n i acc => lpX6_rolesWithin_4 (xkept σ u d sp se p) σ post n acc i) (fun post acc => post acc)
      (fun i acc => acc = mkS (wiB (σ.2.1 11) (xkept σ u d sp se p)) i) m
      (fun post acc k _ hp2 => by
        rw [lpX6_rolesWithin_4, e1]
        exact ⟨fun _ => hp2, fun h => absurd (nI_le (Nat.le_refl m) (by omega)) h⟩)
      (fun i acc hi hI => by
        refine ⟨_, rfl, fun post k h => ?_⟩
        rw [lpX6_rolesWithin_4, e1]
        refine ⟨fun h2 => absurd h2 (nI_ge hi (by omega)), fun _ => ⟨vp_in_nI (by omega) (by omega), ?_⟩⟩
        simp only [forall_eq, nI_1, nI_clamp (show i < 2 ^ 31 by omega)]
        rw [mkS, ← hI, wiB] at h
        refine ⟨fun c => ?_, fun c => ?_⟩
        · rw [decide_eq_false c] at h; exact h
        · rw [decide_eq_true c] at h; exact h)
      m 0 0 (by omega) rfl
    exact q_noPerson_ok h6 hn hp ⟨fun _ => q_xkept hxl hp10 ⟨_, hw post (by rw [hv]; exact hpo)⟩, fun h => absurd rfl h⟩
  · obtain ⟨v, hv, hw⟩ := lp_val (Pt := Int32 → Prop) (fun post n i acc => lpX10_rolesOf_21 (xkept σ u d sp se p) τ post n acc i) (fun post acc => post acc)
      (fun i acc => acc = mkS (wiB (τ.2.1 10) (xkept σ u d sp se p)) i) m
      (fun post acc k _ hp2 => by
        rw [lpX10_rolesOf_21, e2]
        exact ⟨fun _ => hp2, fun h => absurd (nI_le (Nat.le_refl m) (by omega)) h⟩)
      (fun i acc hi hI => by
        refine ⟨_, rfl, fun post k h => ?_⟩
        rw [lpX10_rolesOf_21, e2]
        refine ⟨fun h2 => absurd h2 (nI_ge hi (by omega)), fun _ => ⟨vp_in_nI (by omega) (by omega), ?_⟩⟩
        simp only [forall_eq, nI_1, or0, nI_clamp (show i < 2 ^ 31 by omega)]
        rw [mkS, ← hI, wiB] at h
        refine ⟨fun c => ?_, fun c => ?_⟩
        · rw [decide_eq_false c] at h; exact h
        · rw [decide_eq_true c] at h; exact h)
      m 0 0 (by omega) rfl
    refine q_isPerson_ok m1 hn hp ⟨fun _ => q_mkept hml hp10 ?_, fun h => absurd h n10⟩
    rw [R_kept ha9]
    refine ⟨_, hw post ?_⟩
    rw [hv, mkS_cong (g := wiB (σ.2.1 11) (xkept σ u d sp se p)) (fun k hk => by rw [wiB, wiB, (hro k hk).1])]
    exact hpo
theorem pr_count {σ τ : St} (hR : R_ok σ τ) (a : Int32) : PairX (wX9_count σ a) (wX10_count τ a) τ := by
  obtain ⟨n, u, d, sp, se, gr, ha9⟩ := id hR
  have hxl := R_xlog ha9
  have hml := R_mlog ha9
  obtain ⟨⟨⟨h6, m1, hn⟩, ⟨u1, u2, hu⟩, ⟨d1, d2, hd⟩, hsc⟩, har, hpe, hus, hst, hro, hpl, hsh, hba⟩ := id ha9
  by_cases c0 : a = 0
  · exact ⟨nI n, σ, fun post hp => ⟨fun _ => by rw [h6]; exact hp, fun h => absurd c0 h⟩, fun post hp => ⟨fun _ => by rw [m1]; exact hp, fun h => absurd c0 h⟩, hR⟩
  by_cases c1 : a = 1
  · exact ⟨nI d, σ, fun post hp => ⟨fun h => absurd h c0, fun _ => ⟨fun _ => by rw [d1]; exact hp, fun h => absurd c1 h⟩⟩, fun post hp => ⟨fun h => absurd h c0, fun _ => ⟨fun _ => by rw [d2]; exact hp, fun h => absurd c1 h⟩⟩, hR⟩
  by_cases c2 : a = 2
  · exact ⟨nI u, σ, fun post hp => ⟨fun h => absurd h c0, fun _ => ⟨fun h => absurd h c1, fun _ => ⟨fun _ => by rw [u1]; exact hp, fun h => absurd c2 h⟩⟩⟩, fun post hp => ⟨fun h => absurd h c0, fun _ => ⟨fun h => absurd h c1, fun _ => ⟨fun _ => by rw [u2]; exact hp, fun h => absurd c2 h⟩⟩⟩, hR⟩
  by_cases c3 : a = 3
  · refine ⟨nI (sumB (σ.2.1 3) n), σ, fun post hp => ⟨fun h => absurd h c0, fun _ => ⟨fun h => absurd h c1, fun _ => ⟨fun h => absurd h c2, fun _ => ⟨fun _ => ?_, fun h => absurd c3 h⟩⟩⟩⟩, fun post hp => ⟨fun h => absurd h c0, fun _ => ⟨fun h => absurd h c1, fun _ => ⟨fun h => absurd h c2, fun _ => ⟨fun _ => ?_, fun h => absurd c3 h⟩⟩⟩⟩, hR⟩
    · rw [h6]
      exact q_total hn (by omega) (fun k _ => (hpe.1 k).2.1) hp
    · obtain ⟨v, hv, hw⟩ := lp_val (Pt := Int32 → Prop) (fun post k i acc => lpX10_count_57 τ post k acc i) (fun post acc => post acc)
        (fun i acc => acc = nI (sumB (τ.2.1 2) i)) n
        (fun post acc k _ hp2 => by
          rw [lpX10_count_57, m1]
          exact ⟨fun _ => hp2, fun h => absurd (nI_le (Nat.le_refl n) (by omega)) h⟩)
        (fun i acc hi hI => by
          refine ⟨_, rfl, fun post k h => ?_⟩
          rw [lpX10_count_57, m1]
          refine ⟨fun h2 => absurd h2 (nI_ge hi (by omega)), fun _ => ⟨in10 (by omega), q_bits ?_⟩⟩
          simp only [forall_eq, nI_1]
          rw [cl, hI, sumB, nI_add]
          exact h)
        n 0 0 (by omega) rfl
      exact ⟨_, hw post (by rw [hv, har.2.2.2.1]; exact hp)⟩
  by_cases c4 : a = 4
  · have hg : ∀ p, p < n → fb_put (σ.2.1 0) (fun p => xkept σ u d sp se p) 0 n p = xkept σ u d sp se p := fun p hp => by rw [fb_put_in (by omega) (by omega)]; rfl
    refine ⟨nI (sumB (fun p => xkept σ u d sp se p) n), _, fun post hp => ⟨fun h => absurd h c0, fun _ => ⟨fun h => absurd h c1, fun _ => ⟨fun h => absurd h c2, fun _ => ⟨fun h => absurd h c3, fun _ => ⟨fun _ => q_look hxl h6 hn ?_, fun h => absurd c4 h⟩⟩⟩⟩⟩, fun post hp => ⟨fun h => absurd h c0, fun _ => ⟨fun h => absurd h c1, fun _ => ⟨fun h => absurd h c2, fun _ => ⟨fun h => absurd h c3, fun _ => ⟨fun _ => ?_, fun h => absurd c4 h⟩⟩⟩⟩⟩, ⟨n, u, d, sp, se, gr, R_scr (fb_put (σ.2.1 0) (fun p => xkept σ u d sp se p) 0 n) ha9⟩⟩
    · rw [st_R1, h6]
      refine q_total hn (by omega) (fun k hk => ?_) ?_
      · show sm (fb_put (σ.2.1 0) (fun p => xkept σ u d sp se p) 0 n k)
        rw [hg k hk]; exact keptF_sm
      · have : sumB ((st_R σ 0 (fb_put (σ.2.1 0) (fun p => xkept σ u d sp se p) 0 n)).2.1 0) n = sumB (fun p => xkept σ u d sp se p) n := fb_sm_cong (fun k hk => by show fb_ct (bt (fb_put (σ.2.1 0) (fun p => xkept σ u d sp se p) 0 n k)) 12 = _; rw [hg k hk])
        rw [this]; exact hp
    · obtain ⟨v, hv, hw⟩ := lp_val (Pt := Int32 → Prop) (fun post k i acc => lpX10_count_87 τ post k acc i) (fun post acc => post acc)
        (fun i acc => acc = nI (sumB (fun p => xkept σ u d sp se p) i)) n
        (fun post acc k _ hp2 => by
          rw [lpX10_count_87, m1]
          exact ⟨fun _ => hp2, fun h => absurd (nI_le (Nat.le_refl n) (by omega)) h⟩)
        (fun i acc hi hI => by
          refine ⟨_, rfl, fun post k h => ?_⟩
          rw [lpX10_count_87, m1]
          refine ⟨fun h2 => absurd h2 (nI_ge hi (by omega)), fun _ => q_mkept hml (by omega) (q_bits ?_)⟩
          simp only [forall_eq, nI_1]
          rw [R_kept ha9, hI, sumB, nI_add]
          exact h)
        n 0 0 (by omega) rfl
      exact ⟨_, hw post (by rw [hv]; exact hp)⟩
  by_cases c5 : a = 5
  · refine ⟨nI (sumB (σ.2.1 17) 12) / 2, σ, fun post hp => ⟨fun h => absurd h c0, fun _ => ⟨fun h => absurd h c1, fun _ => ⟨fun h => absurd h c2, fun _ => ⟨fun h => absurd h c3, fun _ => ⟨fun h => absurd h c4, fun _ => ⟨fun _ => q_total (n := 12) (by omega) (by omega) (fun k _ => hba.1 k) hp, fun h => absurd c5 h⟩⟩⟩⟩⟩⟩, fun post hp => ⟨fun h => absurd h c0, fun _ => ⟨fun h => absurd h c1, fun _ => ⟨fun h => absurd h c2, fun _ => ⟨fun h => absurd h c3, fun _ => ⟨fun h => absurd h c4, fun _ => ⟨fun _ => ?_, fun h => absurd c5 h⟩⟩⟩⟩⟩⟩, hR⟩
    obtain ⟨v, hv, hw⟩ := lp_val (Pt := Int32 → Prop) (fun K k i acc => lpX10_count_116 τ K k acc i) (fun K acc => K acc)
      (fun i acc => acc = nI (sumB (τ.2.1 14) i)) 12
      (fun K acc k _ hp2 => by
        rw [lpX10_count_116]
        exact ⟨fun _ => hp2, fun h => absurd (nI_le (a := 12) (b := 12) (by omega) (by omega)) h⟩)
      (fun i acc hi hI => by
        refine ⟨_, rfl, fun K k h => ?_⟩
        rw [lpX10_count_116]
        refine ⟨fun h2 => absurd h2 (nI_ge (a := i) (b := 12) hi (by omega)), fun _ => ⟨in12 hi, q_bits ?_⟩⟩
        simp only [forall_eq, nI_1]
        rw [cl, hI, sumB, nI_add]
        exact h)
      12 0 0 (by omega) rfl
    exact ⟨_, hw (fun (y13 : Int32) => post (y13 / (2 : Int32))) (by rw [hv, har.2.2.2.2.2.2.2]; exact hp)⟩
  · exact ⟨-1, σ, fun post hp => ⟨fun h => absurd h c0, fun _ => ⟨fun h => absurd h c1, fun _ => ⟨fun h => absurd h c2, fun _ => ⟨fun h => absurd h c3, fun _ => ⟨fun h => absurd h c4, fun _ => ⟨fun h => absurd h c5, fun _ => hp⟩⟩⟩⟩⟩⟩, fun post hp => ⟨fun h => absurd h c0, fun _ => ⟨fun h => absurd h c1, fun _ => ⟨fun h => absurd h c2, fun _ => ⟨fun h => absurd h c3, fun _ => ⟨fun h => absurd h c4, fun _ => ⟨fun h => absurd h c5, fun _ => hp⟩⟩⟩⟩⟩⟩, hR⟩
