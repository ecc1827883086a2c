/-! ===== pure: plan, takeOut, used ===== -/
theorem q_mplan {τ : St} {n u d sp se : Nat} {a : Int32} {post : Int32 → St → Prop} (hL : MLog τ u d sp se) (h1 : τ.1 1 = nI n) (hn : n ≤ 10)
    (h : post (nI (sumB (fun p => if a = 0 then τ.2.1 2 p else mkept τ u d sp se p) n)) (st_R (st_S τ 12 (nI n)) 15 (fb_put (τ.2.1 15) (fun p => if a = 0 then τ.2.1 2 p else mkept τ u d sp se p) 0 n))) : wX10_plan τ a post := by
  obtain ⟨⟨f, c⟩, hf, hw⟩ := lp_val (Pt := Int32 → St → Prop) (α := (Nat → Int32) × Int32) (fun post k i acc => lpX10_plan_12 a post k acc.2 i (st_R (st_S τ 12 (nI n)) 15 acc.1)) (fun post acc => post acc.2 (st_R (st_S τ 12 (nI n)) 15 acc.1))
    (fun i acc => acc = (fb_put (τ.2.1 15) (fun p => if a = 0 then τ.2.1 2 p else mkept τ u d sp se p) 0 i, nI (sumB (fun p => if a = 0 then τ.2.1 2 p else mkept τ u d sp se p) i))) n
    (fun post acc k _ hp2 => by
      rw [lpX10_plan_12]
      refine ⟨fun _ => hp2, fun h => absurd ?_ h⟩
      show τ.1 1 ≤ _
      rw [h1]
      exact nI_le (Nat.le_refl n) (by omega))
    (fun i acc hi hI => by
      refine ⟨_, rfl, fun post k h => ?_⟩
      subst hI
      dsimp only at h ⊢
      rw [lpX10_plan_12]
      have e := fb_put_succ (τ.2.1 15) (fun p => if a = 0 then τ.2.1 2 p else mkept τ u d sp se p) 0 i
      rw [Nat.zero_add] at e
      rw [sumB, fb_sm_succ] at h
      refine ⟨fun h2 => ?_, fun _ => ⟨fun a0 => ?_, fun a0 => ?_⟩⟩
      · exfalso
        have h3 : τ.1 1 ≤ nI i := h2
        rw [h1] at h3
        exact nI_ge hi (by omega) h3
      · simp only [forall_eq, st_AR, nI_1, nI_clamp (show i < 2 ^ 31 by omega)]
        refine ⟨in10 (by omega), in10 (by omega), in10 (by omega), q_bits ?_⟩
        show lpX10_plan_12 a post k _ (nI (i + 1)) (st_R (st_S τ 12 (nI n)) 15 (upd _ i (τ.2.1 2 i)))
        have e2 : (st_R (st_S τ 12 (nI n)) 15 (upd (fb_put (τ.2.1 15) (fun p => if a = 0 then τ.2.1 2 p else mkept τ u d sp se p) 0 i) i ((st_R (st_S τ 12 (nI n)) 15 (fb_put (τ.2.1 15) (fun p => if a = 0 then τ.2.1 2 p else mkept τ u d sp se p) 0 i)).2.1 2 i))).2.1 15 i = τ.2.1 2 i := by
          show upd _ i (τ.2.1 2 i) i = _
          rw [pk_us]
        rw [e2, nI_add]
        have e3 : (if a = 0 then τ.2.1 2 i else mkept τ u d sp se i) = τ.2.1 2 i := if_pos a0
        try dsimp only at h
        rw [e3] at e h
        rw [e]
        exact h
      · refine q_mkept (τ := st_R (st_S τ 12 (nI n)) 15 _) (u := u) (d := d) (sp := sp) (se := se) hL (by omega) ?_
        simp only [forall_eq, st_AR, nI_1, nI_clamp (show i < 2 ^ 31 by omega)]
        refine ⟨in10 (by omega), in10 (by omega), q_bits ?_⟩
        have e3 : (if a = 0 then τ.2.1 2 i else mkept τ u d sp se i) = mkept τ u d sp se i := if_neg a0
        try dsimp only at h
        show lpX10_plan_12 a post k (nI _ + nI (fb_ct (bt (upd (fb_put (τ.2.1 15) (fun p => if a = 0 then τ.2.1 2 p else mkept τ u d sp se p) 0 i) i (mkept τ u d sp se i) i)) 12)) (nI (i + 1)) (st_R (st_S τ 12 (nI n)) 15 (upd (fb_put (τ.2.1 15) (fun p => if a = 0 then τ.2.1 2 p else mkept τ u d sp se p) 0 i) i (mkept τ u d sp se i)))
        rw [pk_us, nI_add]
        rw [e3] at e h
        rw [e]
        exact h)
    n 0 (τ.2.1 15, 0) (by omega) (by rw [fb_put_0]; rfl)
  have e1 := congrArg Prod.fst hf
  have e2 := congrArg Prod.snd hf
  dsimp only at e1 e2 hw
  unfold wX10_plan
  simp only [forall_eq, h1]
  have := hw post (by rw [e1, e2]; exact h)
  have e4 : st_R (st_S τ 12 (nI n)) 15 (τ.2.1 15) = st_S τ 12 (nI n) := st_Rself (st_S τ 12 (nI n)) 15
  rw [e4] at this
  exact ⟨_, this⟩
theorem R_plan {σ τ : St} {n u d sp se gr : Nat} {f g : Nat → Int32} (hR : R_all σ τ n u d sp se gr) (he : ∀ p, p < n → f p = g p) (hs : ∀ p, p < n → sm (f p)) :
    R_all (st_R (st_S (st_S σ 12 1) 13 (nI n)) 18 (fb_put (σ.2.1 18) f 0 n)) (st_R (st_S τ 12 (nI n)) 15 (fb_put (τ.2.1 15) g 0 n)) n u d sp se gr := by
  obtain ⟨hsc, har, hpe, hus, hst, hro, hpl, hsh, hba⟩ := hR
  refine ⟨hsc, har, hpe, hus, hst, hro, Or.inr ⟨rfl, n, Nat.le_refl n, rfl, rfl, fun p hp => ?_⟩, hsh, hba⟩
  show fb_put (σ.2.1 18) f 0 n p = fb_put (τ.2.1 15) g 0 n p ∧ sm (fb_put (σ.2.1 18) f 0 n p)
  rw [fb_put_in (by omega) (by omega), fb_put_in (by omega) (by omega)]
  exact ⟨he p hp, hs p hp⟩
theorem keptF_sm {rights who which wen : Nat → Int32} {stb : Int32} {u d sp se p : Nat} : sm (keptF rights who which wen stb u d sp se p) := mkS_sm _
theorem pr_plan {σ τ : St} (hR : R_ok σ τ) (a : Int32) : Pair (wX9_plan σ a) (wX10_plan τ a) := by
  obtain ⟨n, u, d, sp, se, gr, ha9⟩ := id hR
  have hxl := R_xlog ha9
  have hml := R_mlog ha9
  obtain ⟨⟨⟨h6, m1, hn⟩, hsc⟩, har, hpe, hus, hst, hro, hpl, hsh, hba⟩ := id ha9
  by_cases a0 : a = 0
  · refine ⟨nI (sumB (σ.2.1 3) n), _, _, fun post hpo => ?_, fun post hpo => q_mplan hml m1 hn ?_, ⟨n, u, d, sp, se, gr, R_plan (f := σ.2.1 3) (g := fun p => if a = 0 then τ.2.1 2 p else mkept τ u d sp se p) ha9 (fun p _ => by rw [if_pos a0, har.2.2.2.1]) (fun p _ => (hpe.1 p).2.1)⟩⟩
    · refine ⟨fun _ => ⟨fun _ => ?_, fun h => absurd a0 h⟩, fun h => absurd a0 h⟩
      rw [h6]
      exact q_make (by omega) hn hn (fun k _ => (hpe.1 k).2.1) hpo (by omega)
    · have : sumB (fun p => if a = 0 then τ.2.1 2 p else mkept τ u d sp se p) n = sumB (σ.2.1 3) n := fb_sm_cong (fun k _ => by dsimp only; rw [if_pos a0, har.2.2.2.1])
      rw [this]
      exact hpo
  · have hRs := R_scr (fb_put (σ.2.1 0) (fun p => xkept σ u d sp se p) 0 n) ha9
    have hg : ∀ p, p < n → fb_put (σ.2.1 0) (fun p => xkept σ u d sp se p) 0 n p = xkept σ u d sp se p := fun p hp => by rw [fb_put_in (by omega) (by omega)]; rfl
    refine ⟨nI (sumB (fun p => xkept σ u d sp se p) n), _, _, fun post hpo => ?_, fun post hpo => q_mplan hml m1 hn ?_, ⟨n, u, d, sp, se, gr, R_plan (f := fb_put (σ.2.1 0) (fun p => xkept σ u d sp se p) 0 n) (g := fun p => if a = 0 then τ.2.1 2 p else mkept τ u d sp se p) hRs (fun p hp => by rw [if_neg a0, hg p hp, R_kept ha9]) (fun p hp => by rw [hg p hp]; exact keptF_sm)⟩⟩
    · refine ⟨fun h => absurd h a0, fun _ => q_look hxl h6 hn ⟨fun h => absurd h a0, fun _ => ?_⟩⟩
      rw [st_R1, h6]
      refine q_make (j := 0) (by omega) hn hn (fun k hk => ?_) ?_ (by omega)
      · show sm (fb_put (σ.2.1 0) (fun p => xkept σ u d sp se p) 0 n k)
        rw [hg k hk]; exact keptF_sm
      · have : sumB ((st_R σ 0 (fb_put (σ.2.1 0) (fun p => xkept σ u d sp se p) 0 n)).2.1 0) n = sumB (fun p => xkept σ u d sp se p) n := fb_sm_cong (fun k hk => by show fb_ct (bt (fb_put (σ.2.1 0) (fun p => xkept σ u d sp se p) 0 n k)) 12 = _; rw [hg k hk])
        rw [this]
        exact hpo
    · have : sumB (fun p => if a = 0 then τ.2.1 2 p else mkept τ u d sp se p) n = sumB (fun p => xkept σ u d sp se p) n := fb_sm_cong (fun k _ => by dsimp only; rw [if_neg a0, R_kept ha9])
      rw [this]
      exact hpo
theorem pr_used {σ τ : St} (hR : R_ok σ τ) (a b : Int32) : PairR (wX9_used σ a b) (wX10_used τ a b) := by
  obtain ⟨n, u, d, sp, se, gr, ha9⟩ := id hR
  obtain ⟨⟨⟨h6, m1, hn⟩, ⟨u1, u2, hu⟩, hsc⟩, har, hpe, hus, hst, hro, hpl, hsh, hba⟩ := id ha9
  rcases rg_cases a (n := u) (by omega) with ⟨k, hk, rfl⟩ | ha
  case inr =>
    refine ⟨-1, fun post hp => ?_, fun post hp => ?_⟩
    · unfold wX9_used
      rw [u1]
      exact ⟨fun _ => hp, fun h => ⟨fun h2 => (ha.elim (fun z => absurd z h) (fun z => absurd h2 (Int32.not_lt.mpr z))), fun _ => hp⟩⟩
    · unfold wX10_used
      rw [u2]
      refine q_in_bad (ha.imp id (fun h => ?_)) ⟨fun _ => hp, fun h => absurd rfl h⟩
      rw [fa_le, nI_toInt (by omega)] at h
      have : (nI u - 1).toInt = (u : Int) - 1 := pk_sub_toInt (b := 1) (by omega) (by omega)
      rw [fa_lt, this]
      omega
  have ck : (nI k).toNatClampNeg = k := nI_clamp (by omega)
  have ik : vp_in (nI k) 400 := in400 hk hu
  have x1 : ¬ nI k < 0 := nI_pos (by omega)
  have x2 : nI k < nI u := nI_lt hk (by omega)
  obtain ⟨u', rfl⟩ : ∃ u', u = u' + 1 := ⟨u - 1, by omega⟩
  have y1 : (0 : Int32) ≤ nI k := le0
  have y2 : nI k ≤ nI u' := nI_le (by omega) (by omega)
  obtain ⟨_, _, _, _, a5, a6, a7, _⟩ := har
  rcases rg_cases b (n := 3) (by omega) with ⟨j, hj, rfl⟩ | hb
  case inr =>
    have hne : ∀ k : Nat, k < 3 → ¬ b = nI k := by
      intro k hk e
      rw [e] at hb
      rcases hb with hb | hb
      · exact nI_pos (by omega) hb
      · exact nI_ge hk (by omega) hb
    refine ⟨-1, fun post hp => ?_, fun post hp => ?_⟩
    · unfold wX9_used
      rw [u1]
      exact ⟨fun h => absurd h x1, fun _ => ⟨fun _ => ⟨fun h => absurd h (hne 0 (by omega)), fun _ => ⟨fun h => absurd h (hne 1 (by omega)), fun _ => ⟨fun h => absurd h (hne 2 (by omega)), fun _ => hp⟩⟩⟩, fun h => absurd x2 h⟩⟩
    · unfold wX10_used
      rw [u2, nI_pred]
      exact q_in_ok y1 y2 ⟨fun h => absurd h n10, fun _ => q_in_bad (hb.imp id (fun h => lt_pre (n := 2) (by omega) h)) ⟨fun h => absurd rfl h, fun _ => hp⟩⟩
  have z1 : (0 : Int32) ≤ nI j := le0
  have z2 : nI j ≤ 2 := nI_le (b := 2) (by omega) (by omega)
  have w20 : ¬ nI 2 = (0 : Int32) := by decide
  have w21 : ¬ nI 2 = (1 : Int32) := by decide
  have w10 : ¬ nI 1 = (0 : Int32) := by decide
  rcases (show j = 0 ∨ j = 1 ∨ j = 2 by omega) with rfl | rfl | rfl
  · refine ⟨σ.2.1 6 k, fun post hp => ?_, fun post hp => ?_⟩
    · unfold wX9_used
      rw [u1, ck]
      exact ⟨fun h => absurd h x1, fun _ => ⟨fun _ => ⟨fun _ => ⟨ik, hp⟩, fun h => absurd rfl h⟩, fun h => absurd x2 h⟩⟩
    · unfold wX10_used
      rw [u2, nI_pred, ck, a5]
      exact q_in_ok y1 y2 ⟨fun h => absurd h n10, fun _ => q_in_ok z1 z2 ⟨fun _ => ⟨fun h => absurd rfl h, fun _ => ⟨ik, hp⟩⟩, fun h => absurd h n10⟩⟩
  · refine ⟨σ.2.1 7 k, fun post hp => ?_, fun post hp => ?_⟩
    · unfold wX9_used
      rw [u1, ck]
      exact ⟨fun h => absurd h x1, fun _ => ⟨fun _ => ⟨fun h => absurd h w10, fun _ => ⟨fun _ => ⟨ik, hp⟩, fun h => absurd rfl h⟩⟩, fun h => absurd x2 h⟩⟩
    · unfold wX10_used
      rw [u2, nI_pred, ck, a6]
      exact q_in_ok y1 y2 ⟨fun h => absurd h n10, fun _ => q_in_ok z1 z2 ⟨fun _ => ⟨fun _ => ⟨fun h => absurd rfl h, fun _ => ⟨ik, hp⟩⟩, fun h => absurd h w10⟩, fun h => absurd h n10⟩⟩
  · refine ⟨σ.2.1 8 k, fun post hp => ?_, fun post hp => ?_⟩
    · unfold wX9_used
      rw [u1, ck]
      exact ⟨fun h => absurd h x1, fun _ => ⟨fun _ => ⟨fun h => absurd h w20, fun _ => ⟨fun h => absurd h w21, fun _ => ⟨fun _ => ⟨ik, hp⟩, fun h => absurd rfl h⟩⟩⟩, fun h => absurd x2 h⟩⟩
    · unfold wX10_used
      rw [u2, nI_pred, ck, a7]
      exact q_in_ok y1 y2 ⟨fun h => absurd h n10, fun _ => q_in_ok z1 z2 ⟨fun _ => ⟨fun _ => ⟨fun _ => ⟨ik, hp⟩, fun h => absurd h w21⟩, fun h => absurd h w20⟩, fun h => absurd h n10⟩⟩
