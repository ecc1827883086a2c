/-! ===== pure: the least change, both searches ===== -/
theorem ct_sub_eq {p q : Nat → Bool} : ∀ {n : Nat}, (∀ k, k < n → p k = true → q k = true) → fb_ct p n = fb_ct q n → ∀ k, k < n → p k = q k
  | 0, _, _, k, hk => absurd hk (Nat.not_lt_zero k)
  | n + 1, h, e, k, hk => by
    rw [fb_ct_succ, fb_ct_succ] at e
    have h1 : fb_ct p n ≤ fb_ct q n := fb_ct_sub (fun k hk => h k (by omega))
    have h2 := h n (by omega)
    have h3 : (if p n then 1 else 0) ≤ (if q n then 1 else 0) := by
      cases e1 : p n
      · simp
      · rw [h2 e1]; simp
    have h4 : p n = q n := by
      cases e1 : p n <;> cases e2 : q n
      · rfl
      · rw [e1, e2] at e; simp at e; omega
      · rw [h2 e1] at e2; cases e2
      · rfl
    by_cases c : k = n
    · rw [c]; exact h4
    · rw [h4] at e
      exact ct_sub_eq (n := n) (fun k hk => h k (by omega)) (by omega) k (by omega)
def subS (x y : Int32) : Prop := ∀ i, i < 32 → bt x i = true → bt y i = true
theorem subS_pB {x y : Int32} (h : subS x y) : pB x ≤ pB y := fb_ct_sub (fun k hk => h k (by omega))
theorem subS_eq {x y : Int32} (hx : sm x) (hy : sm y) (h : subS x y) (e : pB x = pB y) : x = y :=
  sm_ext hx hy (fun i hi => ct_sub_eq (fun k hk => h k (by omega)) e i hi)
theorem subS_le {a b : Nat} (hb : b < 4096) (h : subS (nI a) (nI b)) (ha : a < 4096) : a ≤ b := by
  have e : nI a &&& nI b = nI a := by
    apply b_ext
    intro i hi
    rw [b_and]
    cases c : bt (nI a) i
    · rfl
    · rw [h i hi c]; rfl
  rw [fa_and] at e
  have h2 : a &&& b ≤ b := Nat.and_le_right
  have h3 : a &&& b = a := (nI_eq (by omega) (by omega)).mp e
  omega
/-- the order of the least change -/
def ltK (k : Int32) (a b : Nat) : Prop := pB (nI a) < pB (nI b) ∨ (pB (nI a) = pB (nI b) ∧ (pB (nI a &&& k) < pB (nI b &&& k) ∨ (pB (nI a &&& k) = pB (nI b &&& k) ∧ a < b)))
theorem ltK_irr {k : Int32} {a : Nat} : ¬ ltK k a a := by unfold ltK; omega
theorem ltK_tr {k : Int32} {a b c : Nat} (h : ltK k b c) (h2 : ¬ ltK k a c) : ¬ ltK k a b := by unfold ltK at *; omega
theorem ltK_anti {k : Int32} {a b : Nat} (h : ¬ ltK k a b) (h2 : ¬ ltK k b a) : a = b := by unfold ltK at *; omega
def okS (w : Nat → Int32) (H U : Int32) (j : Nat) : Prop := subS (nI j) U ∧ vaB w H (nI j) = true
theorem vaB_self {w : Nat → Int32} {H : Int32} : vaB w H H = true := by
  unfold vaB
  rw [Bool.not_eq_true']
  cases e : badB w (H &&& (H ^^^ (-1)))
  · rfl
  · obtain ⟨r, q, hr, hq, h1, h2, h3⟩ := bad_iff.mp e
    rw [b_and, pb_not (by omega)] at h1
    cases bt H r <;> simp at h1
theorem lm_run {τ : St} {p : Nat} {H k : Int32} (hp : p < 10) (hH : τ.2.1 2 p = H) (h0 : Nat) (h04 : h0 < 4096) (eH : H = nI h0) :
    ∃ b, b < 4096 ∧ okS (τ.2.1 14) H H b ∧ (∀ j, j < 4096 → okS (τ.2.1 14) H H j → ¬ ltK k j b) ∧ ∀ post : Int32 → Prop, post (nI b) → ∃ n, lpX10_least_26 (nI p) k τ post n H 0 := by
  obtain ⟨b, ⟨hb1, hb2, hb3⟩, hw⟩ := lp_val (Pt := Int32 → Prop) (α := Nat) (fun post n i acc => lpX10_least_26 (nI p) k τ post n (nI acc) i) (fun post acc => post (nI acc))
    (fun i b => b < 4096 ∧ okS (τ.2.1 14) H H b ∧ ∀ j, j < i → okS (τ.2.1 14) H H j → ¬ ltK k j b) 4096
    (fun post acc n _ hp2 => by
      rw [lpX10_least_26]
      exact ⟨fun _ => hp2, fun h => absurd (nI_lt (a := 4095) (b := 4096) (by omega) (by omega)) h⟩)
    (fun i b hi hI => by
      obtain ⟨hb1, hb2, hb3⟩ := hI
      have hn : ¬ (4095 : Int32) < nI i := nI_nlt (a := 4095) (b := i) (by omega) (by omega)
      have ci : (nI p).toNatClampNeg = p := nI_clamp (by omega)
      by_cases c1 : okS (τ.2.1 14) H H i
      · by_cases c2 : ltK k i b
        · refine ⟨i, ⟨hi, c1, fun j hj ho => ?_⟩, fun post n h => ?_⟩
          · by_cases e : j = i
            · rw [e]; exact ltK_irr
            · exact ltK_tr c2 (hb3 j (by omega) ho)
          · rw [lpX10_least_26]
            refine ⟨fun h2 => absurd h2 hn, fun _ => ⟨in10 hp, ?_⟩⟩
            rw [ci, hH, pb_sub]
            refine ⟨fun h2 => absurd c1.1 h2, fun _ => ⟨in10 hp, q_isBad ?_⟩⟩
            have c3 := c1.2
            unfold vaB at c3
            rw [Bool.not_eq_true'] at c3
            rw [c3, if_neg (by simp)]
            refine ⟨fun h2 => absurd rfl h2, fun _ => q_bits (q_bits ?_)⟩
            simp only [forall_eq, nI_1]
            refine q_bits (q_bits ?_)
            have a1 : pB (nI i) ≤ 12 := pB_le _
            have a2 : pB (nI b) ≤ 12 := pB_le _
            have a3 : pB (nI i &&& k) ≤ 12 := pB_le _
            have a4 : pB (nI b &&& k) ≤ 12 := pB_le _
            have e1 : (nI (fb_ct (bt (nI i)) 12) - nI (fb_ct (bt (nI b)) 12) = 0) ↔ pB (nI i) = pB (nI b) := sub_eq0 (show pB (nI i) < _ by omega) (show pB (nI b) < _ by omega)
            have e2 : (nI (fb_ct (bt (nI i)) 12) - nI (fb_ct (bt (nI b)) 12) < 0) ↔ pB (nI i) < pB (nI b) := sub_lt0 (show pB (nI i) < _ by omega) (show pB (nI b) < _ by omega)
            have e3 : (nI (fb_ct (bt (nI i &&& k)) 12) - nI (fb_ct (bt (nI b &&& k)) 12) = 0) ↔ pB (nI i &&& k) = pB (nI b &&& k) := sub_eq0 (show pB (nI i &&& k) < _ by omega) (show pB (nI b &&& k) < _ by omega)
            have e4 : (nI (fb_ct (bt (nI i &&& k)) 12) - nI (fb_ct (bt (nI b &&& k)) 12) < 0) ↔ pB (nI i &&& k) < pB (nI b &&& k) := sub_lt0 (show pB (nI i &&& k) < _ by omega) (show pB (nI b &&& k) < _ by omega)
            simp only [forall_eq, nI_1, e1, e2, e3, e4]
            refine ⟨fun _ => h, fun z1 => ⟨fun z2 => ?_, fun z2 => ⟨fun _ => h, fun z3 => ⟨fun z4 => ?_, fun z4 => ⟨fun z5 => ?_, fun _ => h⟩⟩⟩⟩⟩
            · exfalso; unfold ltK at c2; omega
            · exfalso; unfold ltK at c2; omega
            · exfalso
              have z6 : i < b := by unfold ltK at c2; omega
              exact nI_ge z6 (by omega) z5
        · refine ⟨b, ⟨hb1, hb2, fun j hj ho => ?_⟩, fun post n h => ?_⟩
          · by_cases e : j = i
            · rw [e]; exact c2
            · exact hb3 j (by omega) ho
          · rw [lpX10_least_26]
            refine ⟨fun h2 => absurd h2 hn, fun _ => ⟨in10 hp, ?_⟩⟩
            rw [ci, hH, pb_sub]
            refine ⟨fun h2 => absurd c1.1 h2, fun _ => ⟨in10 hp, q_isBad ?_⟩⟩
            have c3 := c1.2
            unfold vaB at c3
            rw [Bool.not_eq_true'] at c3
            rw [c3, if_neg (by simp)]
            refine ⟨fun h2 => absurd rfl h2, fun _ => q_bits (q_bits ?_)⟩
            simp only [forall_eq, nI_1]
            refine q_bits (q_bits ?_)
            have a1 : pB (nI i) ≤ 12 := pB_le _
            have a2 : pB (nI b) ≤ 12 := pB_le _
            have a3 : pB (nI i &&& k) ≤ 12 := pB_le _
            have a4 : pB (nI b &&& k) ≤ 12 := pB_le _
            have e1 : (nI (fb_ct (bt (nI i)) 12) - nI (fb_ct (bt (nI b)) 12) = 0) ↔ pB (nI i) = pB (nI b) := sub_eq0 (show pB (nI i) < _ by omega) (show pB (nI b) < _ by omega)
            have e2 : (nI (fb_ct (bt (nI i)) 12) - nI (fb_ct (bt (nI b)) 12) < 0) ↔ pB (nI i) < pB (nI b) := sub_lt0 (show pB (nI i) < _ by omega) (show pB (nI b) < _ by omega)
            have e3 : (nI (fb_ct (bt (nI i &&& k)) 12) - nI (fb_ct (bt (nI b &&& k)) 12) = 0) ↔ pB (nI i &&& k) = pB (nI b &&& k) := sub_eq0 (show pB (nI i &&& k) < _ by omega) (show pB (nI b &&& k) < _ by omega)
            have e4 : (nI (fb_ct (bt (nI i &&& k)) 12) - nI (fb_ct (bt (nI b &&& k)) 12) < 0) ↔ pB (nI i &&& k) < pB (nI b &&& k) := sub_lt0 (show pB (nI i &&& k) < _ by omega) (show pB (nI b &&& k) < _ by omega)
            simp only [forall_eq, nI_1, e1, e2, e3, e4]
            refine ⟨fun z => ?_, fun z1 => ⟨fun z2 => h, fun z2 => ⟨fun z => ?_, fun z3 => ⟨fun z4 => h, fun z4 => ⟨fun z5 => h, fun z5 => ?_⟩⟩⟩⟩⟩
            · exfalso; unfold ltK at c2; omega
            · exfalso; unfold ltK at c2; omega
            · exfalso
              have z6 : b ≤ i := by unfold ltK at c2; omega
              exact z5 (nI_le z6 (by omega))
      · refine ⟨b, ⟨hb1, hb2, fun j hj ho => ?_⟩, fun post n h => ?_⟩
        · by_cases e : j = i
          · rw [e] at ho; exact absurd ho c1
          · exact hb3 j (by omega) ho
        · rw [lpX10_least_26]
          refine ⟨fun h2 => absurd h2 hn, fun _ => ⟨in10 hp, ?_⟩⟩
          simp only [forall_eq, nI_1]
          rw [ci, hH, pb_sub]
          refine ⟨fun _ => h, fun c4 => ⟨in10 hp, q_isBad ?_⟩⟩
          have c3 : badB (τ.2.1 14) (H &&& (nI i ^^^ (-1))) = true := by
            cases e : badB (τ.2.1 14) (H &&& (nI i ^^^ (-1)))
            · exact absurd ⟨c4, by unfold vaB; rw [e]; rfl⟩ c1
            · rfl
          rw [c3, if_pos rfl]
          exact ⟨fun _ => h, fun h2 => absurd h2 n10⟩)
    4096 0 h0 (by omega) ⟨h04, ⟨by rw [← eH]; exact fun i _ h => h, by rw [← eH]; exact vaB_self⟩, fun j hj => absurd hj (Nat.not_lt_zero j)⟩
  exact ⟨b, hb1, hb2, hb3, fun post hpo => ⟨_, by rw [eH]; exact hw post hpo⟩⟩
theorem lx_run {σ : St} {H k : Int32} {c0 : Nat} (hc : c0 < 4096) (h1 : 1 ≤ c0) (hcv : vaB (σ.2.1 17) H (nI c0) = true) :
    ∃ b, b < 4096 ∧ okS (σ.2.1 17) H (nI c0) b ∧ (∀ j, 1 ≤ j → j < 4096 → okS (σ.2.1 17) H (nI c0) j → ¬ ltK k j b) ∧ ∀ post : Int32 → Prop, post (nI b) → ∃ n, lpX9_least_48 H (nI c0) k σ post n (nI c0) 1 := by
  obtain ⟨b, ⟨hb1, hb2, hb3, hb4⟩, hw⟩ := lp_val (Pt := Int32 → Prop) (α := Nat) (fun post n i acc => lpX9_least_48 H (nI c0) k σ post n (nI acc) i) (fun post acc => post (nI acc))
    (fun i b => b < 4096 ∧ okS (σ.2.1 17) H (nI c0) b ∧ (b = c0 ∨ b < i) ∧ ∀ j, 1 ≤ j → j < i → okS (σ.2.1 17) H (nI c0) j → ¬ ltK k j b) c0
    (fun post acc n _ hp2 => by
      rw [lpX9_least_48]
      exact ⟨fun _ => hp2, fun h => absurd (nI_le (Nat.le_refl c0) (by omega)) h⟩)
    (fun i b hi hI => by
      obtain ⟨hb1, hb2, hb3, hb4⟩ := hI
      have hn : ¬ nI c0 ≤ nI i := nI_ge hi (by omega)
      have si : sm (nI i) := sm_of (by omega)
      have sb : sm (nI b) := sm_of hb1
      have sc : sm (nI c0) := sm_of hc
      by_cases c1 : subS (nI i) (nI c0)
      · by_cases c2 : ligB k (nI i) (nI b) = true
        · have l2 : ltK k i b := by unfold ligB at c2; rw [decide_eq_true_eq] at c2; unfold ltK; omega
          by_cases c3 : vaB (σ.2.1 17) H (nI i) = true
          · refine ⟨i, ⟨by omega, ⟨c1, c3⟩, Or.inr (by omega), fun j hj0 hj ho => ?_⟩, fun post n h => ?_⟩
            · by_cases e : j = i
              · rw [e]; exact ltK_irr
              · exact ltK_tr l2 (hb4 j hj0 (by omega) ho)
            · rw [lpX9_least_48]
              refine ⟨fun h2 => absurd h2 hn, fun _ => ?_⟩
              rw [pb_sub]
              refine ⟨fun h2 => absurd c1 h2, fun _ => q_lighter si sb ?_⟩
              rw [c2, if_pos rfl]
              refine ⟨fun h2 => absurd h2 n10, fun _ => q_clash ?_⟩
              simp only [forall_eq, nI_1, clF_zero]
              unfold vaB at c3
              rw [Bool.not_eq_true'] at c3
              exact ⟨fun h2 => absurd c3 h2, fun _ => h⟩
          · refine ⟨b, ⟨hb1, hb2, hb3.imp id (fun z => by omega), fun j hj0 hj ho => ?_⟩, fun post n h => ?_⟩
            · by_cases e : j = i
              · rw [e] at ho; exact absurd ho.2 c3
              · exact hb4 j hj0 (by omega) ho
            · rw [lpX9_least_48]
              refine ⟨fun h2 => absurd h2 hn, fun _ => ?_⟩
              rw [pb_sub]
              refine ⟨fun h2 => absurd c1 h2, fun _ => q_lighter si sb ?_⟩
              rw [c2, if_pos rfl]
              refine ⟨fun h2 => absurd h2 n10, fun _ => q_clash ?_⟩
              simp only [forall_eq, nI_1, clF_zero]
              unfold vaB at c3
              rw [Bool.not_eq_true'] at c3
              exact ⟨fun _ => h, fun h2 => absurd h2 c3⟩
        · refine ⟨b, ⟨hb1, hb2, hb3.imp id (fun z => by omega), fun j hj0 hj ho => ?_⟩, fun post n h => ?_⟩
          · by_cases e : j = i
            · rw [e]
              unfold ligB at c2
              rw [decide_eq_true_eq] at c2
              rcases hb3 with z | z
              · have z1 : pB (nI i) ≤ pB (nI c0) := subS_pB c1
                have z2 : pB (nI i) ≠ pB (nI c0) := fun z => by
                  have := (nI_eq (by omega) (by omega)).mp (subS_eq si sc c1 z)
                  omega
                rw [z] at c2
                omega
              · unfold ltK; omega
            · exact hb4 j hj0 (by omega) ho
          · rw [lpX9_least_48]
            refine ⟨fun h2 => absurd h2 hn, fun _ => ?_⟩
            rw [pb_sub]
            refine ⟨fun h2 => absurd c1 h2, fun _ => q_lighter si sb ?_⟩
            rw [if_neg c2]
            simp only [forall_eq, nI_1]
            exact ⟨fun _ => h, fun h2 => absurd trivial h2⟩
      · refine ⟨b, ⟨hb1, hb2, hb3.imp id (fun z => by omega), fun j hj0 hj ho => ?_⟩, fun post n h => ?_⟩
        · by_cases e : j = i
          · rw [e] at ho; exact absurd ho.1 c1
          · exact hb4 j hj0 (by omega) ho
        · rw [lpX9_least_48]
          refine ⟨fun h2 => absurd h2 hn, fun _ => ?_⟩
          rw [pb_sub]
          simp only [forall_eq, nI_1]
          exact ⟨fun _ => h, fun h2 => absurd h2 c1⟩)
    (c0 - 1) 1 c0 (by omega) ⟨hc, ⟨fun i _ h => h, hcv⟩, Or.inl rfl, fun j h0 hj => by omega⟩
  refine ⟨b, hb1, hb2, fun j hj0 hj ho => ?_, fun post hpo => ⟨_, hw post hpo⟩⟩
  have hle := subS_le hc ho.1 hj
  by_cases e : j < c0
  · exact hb4 j hj0 e ho
  · have e2 : j = c0 := by omega
    rw [e2]
    have z1 : pB (nI b) ≤ pB (nI c0) := subS_pB hb2.1
    by_cases z2 : pB (nI b) = pB (nI c0)
    · have := (nI_eq (by omega) (by omega)).mp (subS_eq (sm_of hb1) (sm_of hc) hb2.1 z2)
      rw [this]; exact ltK_irr
    · unfold ltK; omega
theorem clF_sm {w : Nat → Int32} {x : Int32} : sm (clF w x) := mkS_sm _
theorem clF_sub {w : Nat → Int32} {x : Int32} : subS (clF w x) x := by
  intro i hi h
  rcases Nat.lt_or_ge i 12 with c | c
  · exact ((cl_bit c).mp h).1
  · rw [clF_sm i c] at h; cases h
theorem pr_least {σ τ : St} (hR : R_ok σ τ) (a : Int32) : PairR (wX9_least σ a) (wX10_least τ a) := by
  obtain ⟨n, u, d, sp, se, gr, ha9⟩ := id hR
  have hxl := R_xlog ha9
  have hml := R_mlog ha9
  obtain ⟨⟨⟨h6, m1, hn⟩, hsc⟩, har, hpe, hus, hst, hro, hpl, hsh, hba⟩ := id ha9
  have a4 := har.2.2.2.1
  have a8 := har.2.2.2.2.2.2.2
  rcases rg_cases a (n := n) (by omega) with ⟨p, hp, rfl⟩ | ha
  · have hsm : sm (σ.2.1 3 p) := (hpe.1 p).2.1
    obtain ⟨h0, h04, eH⟩ := sm_nat hsm
    obtain ⟨c0, hc4, eC⟩ := sm_nat (clF_sm (w := σ.2.1 17) (x := σ.2.1 3 p))
    obtain ⟨b, hb1, hb2, hb3, hbw⟩ := lm_run (τ := τ) (p := p) (H := σ.2.1 3 p) (k := xkept σ u d sp se p) (by omega) (by rw [a4]) h0 h04 eH
    rw [a8] at hb2 hb3
    -- the reference's least lies within the clashing ones
    have hcut : subS (nI b) (clF (σ.2.1 17) (σ.2.1 3 p)) := by
      have hv := va_cut hsm hba.2 hb2.2
      rw [eC, fa_and] at hv
      have hlt : b &&& c0 < 4096 := Nat.lt_of_le_of_lt Nat.and_le_left hb1
      have hs : subS (nI (b &&& c0)) (nI b) := fun i hi h => by
        rw [← fa_and, b_and, Bool.and_eq_true] at h
        exact h.1
      have hnl := hb3 (b &&& c0) hlt ⟨fun i hi h => hb2.1 i hi (hs i hi h), hv⟩
      have hpe : pB (nI (b &&& c0)) = pB (nI b) := by
        have := subS_pB hs
        unfold ltK at hnl
        omega
      have he := subS_eq (sm_of hlt) (sm_of hb1) hs hpe
      rw [eC]
      intro i hi h
      rw [← he, ← fa_and, b_and, Bool.and_eq_true] at h
      exact h.2
    refine ⟨nI b, fun post hpo => ?_, fun post hpo => ?_⟩
    · refine q_noPerson_ok h6 hn hp ⟨fun _ => ⟨in10 (by omega), ?_⟩, fun h => absurd rfl h⟩
      simp only [forall_eq, nI_clamp (show p < 2 ^ 31 by omega)]
      refine q_clash ⟨fun hc => q_xkept hxl (by omega) ?_, fun hc => ?_⟩
      · have h1 : 1 ≤ c0 := by
          rcases Nat.eq_zero_or_pos c0 with z | z
          · rw [eC, z] at hc; exact absurd rfl hc
          · exact z
        have hcv : vaB (σ.2.1 17) (σ.2.1 3 p) (nI c0) = true := by
          have := va_cut hsm hba.2 (vaB_self (w := σ.2.1 17) (H := σ.2.1 3 p))
          have e : σ.2.1 3 p &&& clF (σ.2.1 17) (σ.2.1 3 p) = nI c0 := by
            rw [← eC]
            apply b_ext
            intro i hi
            rw [b_and]
            cases z : bt (clF (σ.2.1 17) (σ.2.1 3 p)) i
            · simp
            · rw [clF_sub i hi z]; rfl
          rw [e] at this
          exact this
        obtain ⟨b', hb1', hb2', hb3', hbw'⟩ := lx_run (σ := σ) (H := σ.2.1 3 p) (k := xkept σ u d sp se p) hc4 h1 hcv
        have hb0 : 1 ≤ b := by
          rcases Nat.eq_zero_or_pos b with z | z
          · exfalso
            have hv := hb2.2
            rw [z] at hv
            unfold vaB at hv
            rw [Bool.not_eq_true'] at hv
            have e : σ.2.1 3 p &&& (nI 0 ^^^ (-1)) = σ.2.1 3 p := by
              apply b_ext
              intro i hi
              rw [b_and, pb_not hi, show nI 0 = 0 from rfl, b_0]
              simp
            rw [e] at hv
            exact hc (clF_zero.mpr hv)
          · exact z
        have e1 : ¬ ltK (xkept σ u d sp se p) b b' := hb3' b hb0 hb1 ⟨by rw [← eC]; exact hcut, hb2.2⟩
        have e2 : ¬ ltK (xkept σ u d sp se p) b' b := hb3 b' hb1' ⟨fun i hi h => clF_sub i hi (by rw [eC]; exact hb2'.1 i hi h), hb2'.2⟩
        have e3 := ltK_anti e1 e2
        rw [eC]
        refine hbw' post ?_
        rw [← e3]
        exact hpo
      · rw [hc] at hcut
        have : nI b = 0 := by
          rw [pb_zero]
          intro i hi
          cases z : bt (nI b) i
          · rfl
          · have := hcut i hi z
            rw [b_0] at this; cases this
        rw [this] at hpo
        exact hpo
    · refine q_isPerson_ok m1 hn hp ⟨fun _ => q_mkept hml (by omega) ⟨in10 (by omega), ?_⟩, fun h => absurd h n10⟩
      simp only [forall_eq, nI_clamp (show p < 2 ^ 31 by omega), a4, R_kept ha9]
      exact hbw post hpo
  · refine ⟨-1, fun post hpo => ?_, fun post hpo => ?_⟩
    · exact q_noPerson_bad h6 ha ⟨fun h => absurd h n10, fun _ => hpo⟩
    · exact q_isPerson_bad m1 hn ha ⟨fun h => absurd rfl h, fun _ => hpo⟩
