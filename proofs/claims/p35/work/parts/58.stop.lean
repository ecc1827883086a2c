/-! ===== pure: takeOut, stopped, stop ===== -/
theorem R_drop {σ τ : St} {n u d sp se gr m p r : Nat} (hR : R_all σ τ n u d sp se gr) (e12 : σ.1 12 = 1) (hm : m ≤ n) (e13 : σ.1 13 = nI m) (t12 : τ.1 12 = nI m) (hv : ∀ p, p < m → σ.2.1 18 p = τ.2.1 15 p ∧ sm (σ.2.1 18 p)) (hp : p < m) (hr : r < 12) :
    R_all (st_A σ 18 p (opb false (σ.2.1 18 p) r)) (st_A τ 15 p (opb false (σ.2.1 18 p) r)) n u d sp se gr := by
  obtain ⟨hsc, har, hpe, hus, hst, hro, hpl, hsh, hba⟩ := hR
  refine ⟨hsc, har, hpe, hus, hst, hro, Or.inr ⟨e12, m, hm, e13, t12, fun q hq => ?_⟩, hsh, hba⟩
  show upd (σ.2.1 18) p _ q = upd (τ.2.1 15) p _ q ∧ sm (upd (σ.2.1 18) p _ q)
  by_cases e : q = p
  · subst e; rw [pk_us, pk_us]; exact ⟨rfl, opb_sm hr (hv q hq).2⟩
  · rw [pk_un e, pk_un e]; exact hv q hq
theorem pr_takeOut {σ τ : St} (hR : R_ok σ τ) (a b : Int32) : Pair (wX9_takeOut σ a b) (wX10_takeOut τ a b) := by
  obtain ⟨n, u, d, sp, se, gr, ha9⟩ := id hR
  obtain ⟨⟨⟨h6, m1, hn⟩, hsc⟩, har, hpe, hus, hst, hro, hpl, hsh, hba⟩ := id ha9
  rcases rg_cases a (n := n) (by omega) with ⟨p, hp, rfl⟩ | ha
  case inr =>
    refine pair_bad (-1) hR (fun post hp => ?_) (fun post hp => ?_)
    · exact q_noPerson_bad h6 ha ⟨fun _ => hp, fun h => absurd h n10⟩
    · exact q_isPerson_bad m1 hn ha ⟨fun _ => hp, fun h => absurd rfl h⟩
  have hp10 : p < 10 := by omega
  have cp : (nI p).toNatClampNeg = p := nI_clamp (by omega)
  rcases rg_cases b (n := 12) (by omega) with ⟨r, hr, rfl⟩ | ha
  case inr =>
    refine pair_bad (-1) hR (fun post hpo => ?_) (fun post hpo => ?_)
    · exact q_noPerson_ok h6 hn hp ⟨fun h => absurd rfl h, fun _ => q_noRight_bad ha ⟨fun _ => hpo, fun h => absurd h n10⟩⟩
    · exact q_isPerson_ok m1 hn hp ⟨fun h => absurd h n10, fun _ => q_isRight_bad ha ⟨fun _ => hpo, fun h => absurd rfl h⟩⟩
  rcases hpl with ⟨x1, x2⟩ | ⟨x1, m, hm, x3, x2, hv⟩
  · refine pair_bad (-4) hR (fun post hpo => ?_) (fun post hpo => ?_)
    · exact q_noPerson_ok h6 hn hp ⟨fun h => absurd rfl h, fun _ => q_noRight_ok hr ⟨fun h => absurd rfl h, fun _ => ⟨fun _ => ⟨fun h => absurd x1 h, fun _ => hpo⟩, fun h => absurd x1 h⟩⟩⟩
    · refine q_isPerson_ok m1 hn hp ⟨fun h => absurd h n10, fun _ => q_isRight_ok hr ⟨fun h => absurd h n10, fun _ => ?_⟩⟩
      rw [x2]
      exact ⟨fun _ => ⟨fun h => absurd h m9, fun _ => hpo⟩, fun h => absurd m9' h⟩
  have x10 : ¬ σ.1 12 = 0 := by rw [x1]; exact n10
  have y0 : ¬ nI m < 0 := nI_pos (by omega)
  have y1 : (0 : Int32) ≤ nI m := le0
  by_cases c : p < m
  · have c' : nI p < nI m := nI_lt c (by omega)
    refine ⟨if bt (σ.2.1 18 p) r then 1 else 0, _, _, fun post hpo => ?_, fun post hpo => ?_, ⟨n, u, d, sp, se, gr, R_drop ha9 x1 hm x3 x2 hv c hr⟩⟩
    · refine q_noPerson_ok h6 hn hp ⟨fun h => absurd rfl h, fun _ => q_noRight_ok hr ⟨fun h => absurd rfl h, fun _ => ⟨fun h => absurd h x10, fun _ => ?_⟩⟩⟩
      rw [x3]
      refine ⟨fun _ => ⟨fun _ => ?_, fun h => absurd h x10⟩, fun h => absurd c' h⟩
      unfold wX3_drop
      simp only [forall_eq, cp, pb_bit1 (x := σ.2.1 18 p) (show r < 32 by omega)]
      exact ⟨in10 hp10, in10 hp10, in10 hp10, hpo⟩
    · refine q_isPerson_ok m1 hn hp ⟨fun h => absurd h n10, fun _ => q_isRight_ok hr ⟨fun h => absurd h n10, fun _ => ?_⟩⟩
      simp only [forall_eq, cp, x2]
      refine ⟨fun h => absurd h y0, fun _ => ⟨fun _ => ⟨fun _ => ⟨in10 hp10, q_has (by omega) ?_⟩, fun h => absurd y1 h⟩, fun h => absurd c' h⟩⟩
      rw [← (hv p c).1]
      cases e : bt (σ.2.1 18 p) r
      · rw [e] at hpo
        exact ⟨fun _ => ⟨in10 hp10, in10 hp10, hpo⟩, fun h => absurd rfl h⟩
      · rw [e] at hpo
        exact ⟨fun h => absurd h n10, fun _ => ⟨in10 hp10, in10 hp10, hpo⟩⟩
  · have c' : ¬ nI p < nI m := nI_nlt (by omega) (by omega)
    refine pair_bad (-1) hR (fun post hpo => ?_) (fun post hpo => ?_)
    · refine q_noPerson_ok h6 hn hp ⟨fun h => absurd rfl h, fun _ => q_noRight_ok hr ⟨fun h => absurd rfl h, fun _ => ⟨fun h => absurd h x10, fun _ => ?_⟩⟩⟩
      rw [x3]
      exact ⟨fun h => absurd h c', fun _ => hpo⟩
    · refine q_isPerson_ok m1 hn hp ⟨fun h => absurd h n10, fun _ => q_isRight_ok hr ⟨fun h => absurd h n10, fun _ => ?_⟩⟩
      rw [x2]
      exact ⟨fun h => absurd h y0, fun _ => ⟨fun h => absurd h c', fun _ => hpo⟩⟩
def stB (who which wen pl : Nat → Int32) (m d N k : Nat) : Bool := decide (d - (wen k).toNatClampNeg < N) && !(decide ((who k).toNatClampNeg < m) && bt (pl (who k).toNatClampNeg) (which k).toNatClampNeg)
theorem q_xstop {σ : St} {u d m N k : Nat} {post : Int32 → Prop} (hu : u ≤ 400) (hd : σ.1 2 = nI d) (h9 : d ≤ 999) (hm : σ.1 13 = nI m) (hm2 : m ≤ 10) (hN : N ≤ 1000) (hk : k < u) (hlog : ∀ k, k < u → (∃ p, p < 10 ∧ σ.2.1 6 k = nI p) ∧ (∃ r, r < 12 ∧ σ.2.1 7 k = nI r) ∧ ∃ e, e ≤ d ∧ σ.2.1 8 k = nI e)
    (h : post (if stB (σ.2.1 6) (σ.2.1 7) (σ.2.1 8) (σ.2.1 18) m d N k then 1 else 0)) : wX9_isStopped σ (nI k) (nI N) post := by
  obtain ⟨⟨p, hp, ep⟩, ⟨r, hr, er⟩, e, he, ee⟩ := hlog k hk
  have cp : (nI p).toNatClampNeg = p := nI_clamp (by omega)
  unfold stB at h
  rw [ep, er, ee, cp, nI_clamp (show r < 2 ^ 31 by omega), nI_clamp (show e < 2 ^ 31 by omega)] at h
  unfold wX9_isStopped wX2_isWithinLast wX3_allows
  rw [nI_clamp (show k < 2 ^ 31 by omega), ep, er, ee, hd, pk_sub he, hm, cp]
  refine ⟨in400 hk hu, ?_⟩
  by_cases c : d - e < N
  · refine ⟨fun h2 => absurd h2 (nI_ge c (by omega)), fun _ => ⟨fun h2 => absurd h2 n10, fun _ => ⟨in400 hk hu, in400 hk hu, ?_⟩⟩⟩
    by_cases c2 : p < m
    · refine ⟨fun h2 => absurd h2 (nI_ge c2 (by omega)), fun _ => ⟨in10 hp, ?_⟩⟩
      rw [pb_test (by omega)]
      cases e3 : bt (σ.2.1 18 p) r
      · simp only [c, c2, e3, decide_true, Bool.and_false, Bool.not_false, Bool.and_self, if_true] at h
        exact ⟨fun _ => ⟨fun h2 => absurd rfl h2, fun _ => h⟩, fun h2 => absurd rfl h2⟩
      · simp only [c, c2, e3, decide_true, Bool.and_self, Bool.not_true, Bool.and_false, Bool.false_eq_true, if_false] at h
        exact ⟨fun h2 => by simp at h2, fun _ => ⟨fun _ => h, fun h2 => absurd h2 n10⟩⟩
    · simp only [c, c2, decide_true, decide_false, Bool.false_and, Bool.not_false, Bool.and_self, if_true] at h
      exact ⟨fun _ => ⟨fun h2 => absurd rfl h2, fun _ => h⟩, fun h2 => absurd (nI_le (by omega) (by omega)) h2⟩
  · simp only [c, decide_false, Bool.false_and, Bool.false_eq_true, if_false] at h
    exact ⟨fun _ => ⟨fun _ => h, fun h2 => absurd rfl h2⟩, fun h2 => absurd (nI_le (by omega) (by omega)) h2⟩
theorem q_mstop {τ : St} {u d m N k : Nat} {post : Int32 → Prop} (hu : u ≤ 400) (hd : τ.1 6 = nI d) (h9 : d ≤ 999) (hm : τ.1 12 = nI m) (hm2 : m ≤ 10) (hN : N ≤ 1000) (hk : k < u) (hlog : ∀ k, k < u → (∃ p, p < 10 ∧ τ.2.1 4 k = nI p) ∧ (∃ r, r < 12 ∧ τ.2.1 5 k = nI r) ∧ ∃ e, e ≤ d ∧ τ.2.1 6 k = nI e)
    (h : post (if stB (τ.2.1 4) (τ.2.1 5) (τ.2.1 6) (τ.2.1 15) m d N k then 1 else 0)) : wX10_isStopped τ (nI k) (nI N) post := by
  obtain ⟨⟨p, hp, ep⟩, ⟨r, hr, er⟩, e, he, ee⟩ := hlog k hk
  have cp : (nI p).toNatClampNeg = p := nI_clamp (by omega)
  unfold stB at h
  rw [ep, er, ee, cp, nI_clamp (show r < 2 ^ 31 by omega), nI_clamp (show e < 2 ^ 31 by omega)] at h
  unfold wX10_isStopped
  simp only [forall_eq, nI_clamp (show k < 2 ^ 31 by omega), ep, er, ee, hd, pk_sub he, hm, cp]
  refine ⟨in400 hk hu, in400 hk hu, ?_⟩
  by_cases c : d - e < N
  · refine ⟨fun h2 => absurd h2 (nI_ge c (by omega)), fun _ => ?_⟩
    by_cases c2 : p < m
    · refine ⟨fun h2 => absurd h2 (nI_ge c2 (by omega)), fun _ => ⟨in10 hp, in400 hk hu, q_has (by omega) ?_⟩⟩
      cases e3 : bt (τ.2.1 15 p) r
      · simp only [c, c2, e3, decide_true, Bool.and_false, Bool.not_false, Bool.and_self, if_true] at h
        exact ⟨fun h2 => absurd rfl h2, fun _ => h⟩
      · simp only [c, c2, e3, decide_true, Bool.and_self, Bool.not_true, Bool.and_false, Bool.false_eq_true, if_false] at h
        exact ⟨fun _ => h, fun h2 => absurd h2 n10⟩
    · simp only [c, c2, decide_true, decide_false, Bool.false_and, Bool.not_false, Bool.and_self, if_true] at h
      exact ⟨fun _ => h, fun h2 => absurd (nI_le (by omega) (by omega)) h2⟩
  · simp only [c, decide_false, Bool.false_and, Bool.false_eq_true, if_false] at h
    exact ⟨fun _ => h, fun h2 => absurd (nI_le (by omega) (by omega)) h2⟩
theorem stB_eq {who which wen pl pl' : Nat → Int32} {m d N k : Nat} (h : ∀ p, p < m → pl p = pl' p) : stB who which wen pl m d N k = stB who which wen pl' m d N k := by
  unfold stB
  by_cases c : (who k).toNatClampNeg < m
  · rw [h _ c]
  · simp [c]
theorem q_noLast_ok {N : Nat} {post : Int32 → Prop} (h1 : 1 ≤ N) (h2 : N ≤ 1000) (h : post 0) : wX9_noLastDays (nI N) post :=
  ⟨fun h3 => absurd h3 (nI_nlt (b := 1) h1 (by omega)), fun _ => ⟨fun _ => h, fun h3 => absurd (nI_le (b := 1000) h2 (by omega)) h3⟩⟩
theorem q_noLast_bad {a : Int32} {post : Int32 → Prop} (ha : a < 1 ∨ nI 1000 < a) (h : post 1) : wX9_noLastDays a post :=
  ⟨fun _ => h, fun h1 => ⟨fun h2 => (ha.elim (fun z => absurd z h1) (fun z => absurd z (Int32.not_lt.mpr h2))), fun _ => h⟩⟩
theorem pr_stopped {σ τ : St} (hR : R_ok σ τ) (a : Int32) : PairR (wX9_stopped σ a) (wX10_stopped τ a) := by
  obtain ⟨n, u, d, sp, se, gr, ha9⟩ := id hR
  have hxl := (R_xlog ha9).2.2.2.2.1.2.2
  have hml := (R_mlog ha9).2.2.2.2.1.2.2
  obtain ⟨⟨⟨h6, m1, hn⟩, ⟨u1, u2, hu⟩, ⟨d1, d2, hd⟩, hsc⟩, har, hpe, hus, hst, hro, hpl, hsh, hba⟩ := id ha9
  obtain ⟨_, _, _, _, a5, a6, a7, _⟩ := har
  rcases rg1 a (N := 1000) (by omega) with ⟨N, hN1, hN2, rfl⟩ | ha
  case inr =>
    refine ⟨-1, fun post hp => ?_, fun post hp => ?_⟩
    · exact q_noLast_bad ha ⟨fun h => absurd h n10, fun _ => hp⟩
    · exact q_in_bad ha ⟨fun h => absurd rfl h, fun _ => hp⟩
  have i1 : (1 : Int32) ≤ nI N := nI_le (a := 1) hN1 (by omega)
  have i2 : nI N ≤ (1000 : Int32) := nI_le (b := 1000) hN2 (by omega)
  rcases hpl with ⟨x1, x2⟩ | ⟨x1, m, hm, x3, x2, hv⟩
  · refine ⟨-4, fun post hp => ?_, fun post hp => ?_⟩
    · exact q_noLast_ok hN1 hN2 ⟨fun _ => ⟨fun h => absurd x1 h, fun _ => hp⟩, fun h => absurd rfl h⟩
    · refine q_in_ok i1 i2 ⟨fun _ => ?_, fun h => absurd h n10⟩
      rw [x2]
      exact ⟨fun h => absurd h m9, fun _ => hp⟩
  have x10 : ¬ σ.1 12 = 0 := by rw [x1]; exact n10
  refine ⟨nI (fb_ct (stB (σ.2.1 6) (σ.2.1 7) (σ.2.1 8) (σ.2.1 18) m d N) u), fun post hp => ?_, fun post hp => ?_⟩
  · obtain ⟨v, hv2, hw⟩ := lp_val (Pt := Int32 → Prop) (fun post n i acc => lpX9_stopped_26 (nI N) σ post n acc i) (fun post acc => post acc)
      (fun i acc => acc = nI (fb_ct (stB (σ.2.1 6) (σ.2.1 7) (σ.2.1 8) (σ.2.1 18) m d N) i)) u
      (fun post acc n _ hp2 => by
        rw [lpX9_stopped_26, u1]
        exact ⟨fun _ => hp2, fun h => absurd (nI_le (Nat.le_refl u) (by omega)) h⟩)
      (fun i acc hi hI => by
        refine ⟨_, rfl, fun post n h => ?_⟩
        rw [lpX9_stopped_26, u1]
        refine ⟨fun h2 => absurd h2 (nI_ge hi (by omega)), fun _ => q_xstop hu d1 hd x3 (by omega) hN2 hi hxl ?_⟩
        simp only [forall_eq, nI_1]
        rw [fb_ct_succ] at h
        rw [hI]
        cases e : stB (σ.2.1 6) (σ.2.1 7) (σ.2.1 8) (σ.2.1 18) m d N i
        · rw [e] at h; exact ⟨fun _ => h, fun h2 => absurd rfl h2⟩
        · rw [e, if_pos rfl, ← nI_1] at h; exact ⟨fun h2 => absurd h2 n10, fun _ => h⟩)
      u 0 0 (by omega) rfl
    exact q_noLast_ok hN1 hN2 ⟨fun _ => ⟨fun _ => ⟨_, hw post (by rw [hv2]; exact hp)⟩, fun h => absurd h x10⟩, fun h => absurd rfl h⟩
  · obtain ⟨v, hv2, hw⟩ := lp_val (Pt := Int32 → Prop) (fun post n i acc => lpX10_stopped_27 (nI N) τ post n acc i) (fun post acc => post acc)
      (fun i acc => acc = nI (fb_ct (stB (τ.2.1 4) (τ.2.1 5) (τ.2.1 6) (τ.2.1 15) m d N) i)) u
      (fun post acc n _ hp2 => by
        rw [lpX10_stopped_27, u2]
        exact ⟨fun _ => hp2, fun h => absurd (nI_le (Nat.le_refl u) (by omega)) h⟩)
      (fun i acc hi hI => by
        refine ⟨_, rfl, fun post n h => ?_⟩
        rw [lpX10_stopped_27, u2]
        refine ⟨fun h2 => absurd h2 (nI_ge hi (by omega)), fun _ => q_mstop hu d2 hd x2 (by omega) hN2 hi hml ?_⟩
        simp only [forall_eq, nI_1, add0]
        rw [fb_ct_succ] at h
        rw [hI]
        cases e : stB (τ.2.1 4) (τ.2.1 5) (τ.2.1 6) (τ.2.1 15) m d N i
        · rw [e] at h; exact ⟨fun _ => h, fun h2 => absurd rfl h2⟩
        · rw [e, if_pos rfl, ← nI_1] at h; exact ⟨fun h2 => absurd h2 n10, fun _ => h⟩)
      u 0 0 (by omega) rfl
    refine q_in_ok i1 i2 ⟨fun _ => ⟨fun _ => ⟨_, hw post ?_⟩, fun h => ?_⟩, fun h => absurd h n10⟩
    · have : fb_ct (stB (τ.2.1 4) (τ.2.1 5) (τ.2.1 6) (τ.2.1 15) m d N) u = fb_ct (stB (σ.2.1 6) (σ.2.1 7) (σ.2.1 8) (σ.2.1 18) m d N) u := fb_ct_cong (fun k _ => by rw [a5, a6, a7]; exact (stB_eq (fun p hp => (hv p hp).1)).symm)
      rw [hv2, this]
      exact hp
    · rw [x2] at h
      exact absurd le0 h
