/-! ===== pure: findings and sheets ===== -/
theorem q_answer {σ : St} {f : Nat} {post : Int32 → St → Prop} (hf : f < 5) (h : post (-3) (st_A (st_S σ 14 (nI f)) 21 f (σ.2.1 21 f + 1))) : wX4_answer σ (nI f) post := by
  unfold wX4_answer
  simp only [forall_eq, st_S2, nI_clamp (show f < 2 ^ 31 by omega)]
  exact ⟨vp_in_nI hf (by omega), vp_in_nI hf (by omega), h⟩
theorem q_meets {τ : St} {f : Nat} {post : Int32 → St → Prop} (hf : f < 5) (h : post (-3) (st_A (st_S τ 0 (nI f)) 0 f (τ.2.1 0 f + 1))) : wX10_meets τ (nI f) post := by
  unfold wX10_meets
  simp only [forall_eq, st_S2, nI_clamp (show f < 2 ^ 31 by omega)]
  exact ⟨vp_in_nI hf (by omega), vp_in_nI hf (by omega), h⟩
theorem R_find {σ τ : St} {n u d sp se gr : Nat} (f : Nat) (hR : R_all σ τ n u d sp se gr) : R_all (st_A (st_S σ 14 (nI f)) 21 f (σ.2.1 21 f + 1)) (st_A (st_S τ 0 (nI f)) 0 f (τ.2.1 0 f + 1)) n u d sp se gr := by
  obtain ⟨⟨h1, h2, h3, h4, h5, h6, h7, h8, h9⟩, ⟨r1, r2, r3⟩, hr⟩ := hR
  exact ⟨⟨h1, h2, h3, h4, h5, h6, h7, h8, rfl⟩, ⟨r1, show upd (τ.2.1 0) f _ = upd (σ.2.1 21) f _ by rw [r2], r3⟩, hr⟩
theorem pair_find {σ τ : St} {n u d sp se gr : Nat} {wx wm : (Int32 → St → Prop) → Prop} (f : Nat) (hf : f < 5) (hR : R_all σ τ n u d sp se gr) (h1 : ∀ post : Int32 → St → Prop, wX4_answer σ (nI f) post → wx post) (h2 : ∀ post : Int32 → St → Prop, wX10_meets τ (nI f) post → wm post) : Pair wx wm :=
  ⟨-3, _, _, fun post hp => h1 post (q_answer hf hp), fun post hp => h2 post (q_meets hf hp), ⟨n, u, d, sp, se, gr, R_find f hR⟩⟩
theorem mulr10 (p r : Nat) : nI p * (10 : Int32) + nI r = nI (p * 10 + r) := by
  show nI p * nI 10 + nI r = _
  rw [pk_mul, nI_add]
theorem mul10 (p r : Nat) : (10 : Int32) * nI p + nI r = nI (10 * p + r) := by
  show nI 10 * nI p + nI r = _
  rw [pk_mul, nI_add]
theorem q_lay {σ : St} {s z : Nat} {post : Int32 → St → Prop} (hs : s < 4) (hz : z ≤ 10) (h : post (nI z) (st_R (st_A σ 19 s (nI z)) 20 (fb_put (σ.2.1 20) (fun _ => 0) (s * 10) z))) : wX7_lay σ (nI s) (nI z) post := by
  obtain ⟨f, hf, hw⟩ := lp_val (Pt := Int32 → St → Prop) (fun post n i f => lpX7_lay_9 (nI s) (nI z) post n i (st_R (st_A σ 19 s (nI z)) 20 f)) (fun post f => post (nI z) (st_R (st_A σ 19 s (nI z)) 20 f))
    (fun i f => f = fb_put (σ.2.1 20) (fun _ => 0) (s * 10) i) z
    (fun post acc n _ hp2 => by
      rw [lpX7_lay_9]
      exact ⟨fun _ => hp2, fun h => absurd (nI_le (a := z) (b := z) (by omega) (by omega)) h⟩)
    (fun i f hi hI => by
      refine ⟨_, rfl, fun post n h => ?_⟩
      rw [lpX7_lay_9]
      refine ⟨fun h2 => absurd h2 (nI_ge (a := i) (b := z) hi (by omega)), fun _ => ?_⟩
      simp only [forall_eq, mulr10, st_AR, nI_1, nI_clamp (show s * 10 + i < 2 ^ 31 by omega)]
      refine ⟨vp_in_nI (by omega) (by omega), ?_⟩
      rw [hI, fb_put_succ (σ.2.1 20) (fun _ => 0) (s * 10) i]
      exact h)
    z 0 (σ.2.1 20) (by omega) (fb_put_0 _ _ _).symm
  unfold wX7_lay
  simp only [forall_eq, nI_clamp (show s < 2 ^ 31 by omega)]
  refine ⟨vp_in_nI hs (by omega), z + 1, ?_⟩
  have := hw post (by rw [hf]; exact h)
  have e : st_R (st_A σ 19 s (nI z)) 20 (σ.2.1 20) = st_A σ 19 s (nI z) := st_Rself (st_A σ 19 s (nI z)) 20
  rw [e] at this
  exact this
theorem q_msheet {τ : St} {s : Nat} {z : Int32} {post : Int32 → St → Prop} (hs : s < 4) (h : post z (st_R (st_A τ 16 s z) 17 (fb_put (τ.2.1 17) (fun _ => 0) (10 * s) 10))) : ∃ n : Nat, lpX10_sheet_34 (nI s) z post n (0 : Int32) (st_A τ 16 s z) := by
  obtain ⟨f, hf, hw⟩ := lp_val (Pt := Int32 → St → Prop) (fun post n i f => lpX10_sheet_34 (nI s) z post n i (st_R (st_A τ 16 s z) 17 f)) (fun post f => post z (st_R (st_A τ 16 s z) 17 f))
    (fun i f => f = fb_put (τ.2.1 17) (fun _ => 0) (10 * s) i) 10
    (fun post acc n _ hp2 => by
      rw [lpX10_sheet_34]
      exact ⟨fun _ => hp2, fun h => absurd (nI_le (a := 10) (b := 10) (by omega) (by omega)) h⟩)
    (fun i f hi hI => by
      refine ⟨_, rfl, fun post n h => ?_⟩
      rw [lpX10_sheet_34]
      refine ⟨fun h2 => absurd h2 (nI_ge (a := i) (b := 10) hi (by omega)), fun _ => ?_⟩
      simp only [forall_eq, mul10, st_AR, nI_1, nI_clamp (show 10 * s + i < 2 ^ 31 by omega)]
      refine ⟨vp_in_nI (by omega) (by omega), ?_⟩
      rw [hI, fb_put_succ (τ.2.1 17) (fun _ => 0) (10 * s) i]
      exact h)
    10 0 (τ.2.1 17) (by omega) (fb_put_0 _ _ _).symm
  have := hw post (by rw [hf]; exact h)
  have e : st_R (st_A τ 16 s z) 17 (τ.2.1 17) = st_A τ 16 s z := st_Rself (st_A τ 16 s z) 17
  rw [e] at this
  exact ⟨_, this⟩
theorem le0 {k : Nat} (hk : k < 2 ^ 31 := by omega) : (0 : Int32) ≤ nI k := nI_pos' hk
theorem R_sheet {σ τ : St} {n u d sp se gr s z : Nat} (hR : R_all σ τ n u d sp se gr) (hs : s < 4) (hz : z ≤ 10) :
    R_all (st_R (st_A σ 19 s (nI z)) 20 (fb_put (σ.2.1 20) (fun _ => 0) (s * 10) z)) (st_R (st_A τ 16 s (nI z)) 17 (fb_put (τ.2.1 17) (fun _ => 0) (10 * s) 10)) n u d sp se gr := by
  obtain ⟨hsc, har, hpe, hus, hst, hro, hpl, hsh, hba⟩ := hR
  refine ⟨hsc, har, hpe, hus, hst, hro, hpl, fun q hq => ?_, hba⟩
  show (upd (σ.2.1 19) s (nI z) q = -1 ∧ upd (τ.2.1 16) s (nI z) q = -9) ∨ ∃ y, y ≤ 10 ∧ upd (σ.2.1 19) s (nI z) q = nI y ∧ upd (τ.2.1 16) s (nI z) q = nI y ∧ ∀ i, i < y → fb_put (σ.2.1 20) (fun _ => 0) (s * 10) z (q * 10 + i) = fb_put (τ.2.1 17) (fun _ => 0) (10 * s) 10 (10 * q + i) ∧ sm (fb_put (σ.2.1 20) (fun _ => 0) (s * 10) z (q * 10 + i))
  by_cases e : q = s
  · subst e
    rw [pk_us, pk_us]
    refine Or.inr ⟨z, hz, rfl, rfl, fun i hi => ?_⟩
    rw [fb_put_in (by omega) (by omega), fb_put_in (by omega) (by omega)]
    exact ⟨rfl, sm_0⟩
  · rw [pk_un e, pk_un e]
    rcases hsh q hq with h | ⟨y, hy, e1, e2, h⟩
    · exact Or.inl h
    · refine Or.inr ⟨y, hy, e1, e2, fun i hi => ?_⟩
      rw [fb_put_out (by omega), fb_put_out (by omega)]
      exact h i hi
theorem pr_sheet {σ τ : St} (hR : R_ok σ τ) (a b : Int32) : Pair (wX9_sheet σ a b) (wX10_sheet τ a b) := by
  obtain ⟨n, u, d, sp, se, gr, ha9⟩ := id hR
  obtain ⟨hsc, har, hpe, hus, hst, hro, hpl, hsh, hba⟩ := id ha9
  rcases rg_cases a (n := 4) (by omega) with ⟨s, hs, rfl⟩ | ha
  case inr =>
    refine pair_bad (-1) hR (fun post hp => ?_) (fun post hp => ?_)
    · exact q_noSheet_bad ha ⟨fun _ => hp, fun h => absurd h n10⟩
    · exact q_isSheet_bad ha ⟨fun _ => hp, fun h => absurd rfl h⟩
  rcases rg0 b (N := 10) (by omega) with ⟨z, hz, rfl⟩ | hb | hb
  · have b1 : nI z ≤ (10 : Int32) := nI_le (b := 10) hz (by omega)
    have cs : (nI s).toNatClampNeg = s := nI_clamp (by omega)
    refine ⟨nI z, _, st_R (st_A τ 16 s (nI z)) 17 (fb_put (τ.2.1 17) (fun _ => 0) (10 * s) 10), fun post hp => q_noSheet_ok hs ⟨fun h => absurd rfl h, fun _ => ⟨fun _ => ⟨fun _ => q_lay hs hz hp, fun h => absurd le0 h⟩, fun h => absurd b1 h⟩⟩, fun post hp => q_isSheet_ok hs ⟨fun h => absurd h n10, fun _ => ⟨fun _ => ⟨fun _ => ⟨vp_in_nI hs (by omega), ?_⟩, fun h => absurd le0 h⟩, fun h => absurd b1 h⟩⟩, ⟨n, u, d, sp, se, gr, ?_⟩⟩
    · simp only [forall_eq, cs]
      exact q_msheet hs hp
    · exact R_sheet ha9 hs hz
  · refine pair_find 4 (by omega) ha9 (fun post hp => ?_) (fun post hp => ?_)
    · refine q_noSheet_ok hs ⟨fun h => absurd rfl h, fun _ => ⟨fun _ => ⟨fun h => absurd hb (Int32.not_lt.mpr h), fun _ => hp⟩, fun h => ?_⟩⟩
      exfalso; apply h; rw [fa_le]; rw [fa_lt] at hb
      have h0 : (0 : Int32).toInt = 0 := rfl
      have h1 : (10 : Int32).toInt = 10 := rfl
      omega
    · refine q_isSheet_ok hs ⟨fun h => absurd h n10, fun _ => ⟨fun _ => ⟨fun h => absurd hb (Int32.not_lt.mpr h), fun _ => hp⟩, fun h => ?_⟩⟩
      exfalso; apply h; rw [fa_le]; rw [fa_lt] at hb
      have h0 : (0 : Int32).toInt = 0 := rfl
      have h1 : (10 : Int32).toInt = 10 := rfl
      omega
  · refine pair_bad (-1) hR (fun post hp => ?_) (fun post hp => ?_)
    · exact q_noSheet_ok hs ⟨fun h => absurd rfl h, fun _ => ⟨fun h => absurd hb (Int32.not_lt.mpr h), fun _ => hp⟩⟩
    · exact q_isSheet_ok hs ⟨fun h => absurd h n10, fun _ => ⟨fun h => absurd hb (Int32.not_lt.mpr h), fun _ => hp⟩⟩
theorem q_missing {σ : St} {s : Nat} {post : Int32 → Prop} (hs : s < 4) (hm : σ.2.1 19 s = -1) (h : post 1) : wX7_isMissing σ (nI s) post := by
  unfold wX7_isMissing
  rw [cl, hm]
  exact ⟨vp_in_nI hs (by omega), fun h2 => absurd rfl h2, fun _ => h⟩
theorem q_there {σ : St} {s z : Nat} {post : Int32 → Prop} (hs : s < 4) (hz : z ≤ 10) (hm : σ.2.1 19 s = nI z) (h : post 0) : wX7_isMissing σ (nI s) post := by
  unfold wX7_isMissing
  rw [cl, hm]
  refine ⟨vp_in_nI hs (by omega), fun _ => h, fun h2 => ?_⟩
  exfalso
  have h3 := congrArg Int32.toInt h2
  rw [nI_toInt (by omega)] at h3
  have h4 : (-1 : Int32).toInt = -1 := rfl
  omega
theorem m9 : ¬ (0 : Int32) ≤ -9 := by decide
theorem m9' : (-9 : Int32) < 0 := by decide
theorem in4 {s : Nat} (h : s < 4) : vp_in (nI s) 4 := vp_in_nI h (by omega)
theorem R_tear {σ τ : St} {n u d sp se gr s : Nat} (hR : R_all σ τ n u d sp se gr) : R_all (st_A σ 19 s (-1)) (st_A τ 16 s (-9)) n u d sp se gr := by
  obtain ⟨hsc, har, hpe, hus, hst, hro, hpl, hsh, hba⟩ := hR
  refine ⟨hsc, har, hpe, hus, hst, hro, hpl, fun q hq => ?_, hba⟩
  show (upd (σ.2.1 19) s (-1) q = -1 ∧ upd (τ.2.1 16) s (-9) q = -9) ∨ ∃ y, y ≤ 10 ∧ upd (σ.2.1 19) s (-1) q = nI y ∧ upd (τ.2.1 16) s (-9) q = nI y ∧ ∀ i, i < y → σ.2.1 20 (q * 10 + i) = τ.2.1 17 (10 * q + i) ∧ sm (σ.2.1 20 (q * 10 + i))
  by_cases e : q = s
  · subst e
    rw [pk_us, pk_us]
    exact Or.inl ⟨rfl, rfl⟩
  · rw [pk_un e, pk_un e]
    exact hsh q hq
theorem pr_tear {σ τ : St} (hR : R_ok σ τ) (a : Int32) : Pair (wX9_tear σ a) (wX10_tear τ a) := by
  obtain ⟨n, u, d, sp, se, gr, ha9⟩ := id hR
  obtain ⟨hsc, har, hpe, hus, hst, hro, hpl, hsh, hba⟩ := id ha9
  rcases rg_cases a (n := 4) (by omega) with ⟨s, hs, rfl⟩ | ha
  case inr =>
    refine pair_bad (-1) hR (fun post hp => ?_) (fun post hp => ?_)
    · exact q_noSheet_bad ha ⟨fun h => absurd h n10, fun _ => hp⟩
    · exact q_isSheet_bad ha ⟨fun h => absurd rfl h, fun _ => hp⟩
  have cs : (nI s).toNatClampNeg = s := nI_clamp (by omega)
  rcases hsh s hs with ⟨x1, x2⟩ | ⟨z, hz, x1, x2, _⟩
  · refine pair_find 1 (by omega) ha9 (fun post hp => ?_) (fun post hp => ?_)
    · exact q_noSheet_ok hs ⟨fun _ => q_missing hs x1 ⟨fun h => absurd h n10, fun _ => hp⟩, fun h => absurd rfl h⟩
    · refine q_isSheet_ok hs ⟨fun _ => ⟨in4 hs, ?_⟩, fun h => absurd h n10⟩
      rw [cs, x2]
      exact ⟨fun h => absurd h m9, fun _ => hp⟩
  · refine ⟨1, st_A σ 19 s (-1), st_A τ 16 s (-9), fun post hp => ?_, fun post hp => ?_, ⟨n, u, d, sp, se, gr, R_tear ha9⟩⟩
    · refine q_noSheet_ok hs ⟨fun _ => q_there hs hz x1 ⟨fun _ => ⟨in4 hs, ?_⟩, fun h => absurd rfl h⟩, fun h => absurd rfl h⟩
      simp only [forall_eq, cs]; exact hp
    · refine q_isSheet_ok hs ⟨fun _ => ⟨in4 hs, ?_⟩, fun h => absurd h n10⟩
      simp only [forall_eq, cs, x2]
      exact ⟨fun _ => ⟨in4 hs, hp⟩, fun h => absurd le0 h⟩
