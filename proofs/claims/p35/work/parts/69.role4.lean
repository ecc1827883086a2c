/-! ===== pure: the fewest roles, the call ===== -/
theorem q_begin {σ : St} : ∃ g : Nat → Int32, (∀ p, p < 10 → g p = 0) ∧ ∀ post : St → Prop, post (st_R (st_S (st_S (st_S σ 9 0) 10 0) 11 122) 16 g) → wX6_begin σ post := by
  obtain ⟨g, g1, hw⟩ := lp_val (Pt := St → Prop) (α := Nat → Int32) (fun post c i g => lpX6_begin_18 post c i (st_R (st_S (st_S (st_S σ 9 0) 10 0) 11 122) 16 g)) (fun post g => post (st_R (st_S (st_S (st_S σ 9 0) 10 0) 11 122) 16 g))
    (fun i g => ∀ p, p < i → g p = 0) 10
    (fun post acc c _ hp2 => by
      rw [lpX6_begin_18]
      exact ⟨fun _ => hp2, fun h => absurd (nI_le (Nat.le_refl 10) (by omega)) h⟩)
    (fun i g hi hI => by
      refine ⟨upd g i 0, fun p hp => ?_, fun post c h => ?_⟩
      · unfold upd
        by_cases d : p = i
        · rw [if_pos d]
        · rw [if_neg d]; exact hI p (by omega)
      · rw [lpX6_begin_18]
        refine ⟨fun h2 => absurd h2 (nI_ge (b := 10) hi (by omega)), fun _ => ⟨vp_in_nI (by omega) (by omega), ?_⟩⟩
        intro σ4 h4 x5 h5
        rw [cl (by omega), st_AR] at h4
        rw [h4, h5, nI_1]
        exact h)
    10 0 (σ.2.1 16) (by omega) (fun p hp => absurd hp (Nat.not_lt_zero p))
  refine ⟨g, g1, fun post hp => ?_⟩
  intro σ1 h1 σ2 h2 σ3 h3
  have := hw post hp
  have e : st_R (st_S (st_S (st_S σ 9 0) 10 0) 11 122) 16 (σ.2.1 16) = st_S (st_S (st_S σ 9 0) 10 0) 11 122 := st_Rself (st_S (st_S (st_S σ 9 0) 10 0) 11 122) 16
  rw [e] at this
  rw [h3, h2, h1]
  exact ⟨_, this⟩
theorem pr_roles_ok {σ τ : St} {n u d sp se gr most : Nat} (hR : R_all σ τ n u d sp se gr) (h1 : 1 ≤ most) (h2 : most ≤ 20000) : Pair (wX9_roles σ (nI most)) (wX10_roles τ (nI most)) := by
  have hn : n ≤ 10 := hR.1.1.2.2
  obtain ⟨K, σ1, τ1, hR1, hC, hx, hm⟩ := q_both hR
  have x6 : σ1.1 6 = nI n := hR1.1.1.1
  have m1 : τ1.1 1 = nI n := hR1.1.1.2.1
  obtain ⟨g, g1, gw⟩ := q_begin (σ := σ1)
  have a1 : ¬ nI most < (1 : Int32) := nI_nlt (b := 1) h1 (by omega)
  have a2 : nI most ≤ (20000 : Int32) := nI_le (b := 20000) h2 (by omega)
  -- the class's call, from its search on
  have hX : ∀ (r : Int32) (σ' : St) (post : Int32 → St → Prop), (r = 0 → post (-6) σ') → (¬ r = 0 → post (σ'.1 9) σ') → (∀ po : Int32 → St → Prop, po r σ' → wX6_search σ1 (nI n) (nI most) po) → wX9_roles σ (nI most) post := fun r σ' post p1 p2 hs => by
    refine ⟨fun z => absurd z a1, fun _ => ⟨fun _ => hx _ ?_, fun z => absurd a2 z⟩⟩
    rw [x6]
    exact hs _ ⟨p1, p2⟩
  have hM : ∀ post : Int32 → St → Prop, (wX10_open (st_S (st_S (st_S τ1 9 0) 10 0) 11 1000) (0 : Int32) (fun (r7 : Int32) => (0 ≤ r7 → (wX10_level (st_S (st_S (st_S τ1 9 0) 10 0) 11 1000) (0 : Int32) r7 (fun (σ8 : St) => ∃ n26 : Nat, lpX10_roles_58 (nI most) (fun (σ25 : St) => post (σ25.1 10) σ25) post n26 (0 : Int32) σ8))) ∧ (¬ 0 ≤ r7 → (post (0 : Int32) (st_S (st_S (st_S τ1 9 0) 10 0) 11 1000))))) → wX10_roles τ (nI most) post := fun post h => by
    refine q_in_ok (nI_le (a := 1) h1 (by omega)) a2 ⟨fun _ => hm _ ?_, fun z => absurd z n10⟩
    intro σ4 h4 σ5 h5 σ6 h6
    rw [h6, h5, h4]
    exact h
  have fx : FrX σ1 (st_R (st_S (st_S (st_S σ1 9 0) 10 0) 11 122) 16 g) := FrX_R (FrX_S (FrX_S (FrX_S (FrX_refl σ1) (by omega)) (by omega)) (by omega)) (by omega)
  have ft : FrT τ1 (st_S (st_S (st_S τ1 9 0) 10 0) 11 1000) := FrT_S (FrT_S (FrT_S (FrT_refl τ1) (by omega)) (by omega)) (by omega)
  have ex0 : ∀ q, q < n → ((st_R (st_S (st_S (st_S σ1 9 0) 10 0) 11 122) 16 g).2.1 0 q &&& ((st_R (st_S (st_S (st_S σ1 9 0) 10 0) 11 122) 16 g).2.1 16 (0 * 10 + q) ^^^ (-1))) = opn K (fun _ => 0) 0 q := fun q hq => by
    show σ1.2.1 0 q &&& (g (0 * 10 + q) ^^^ (-1)) = _
    rw [Nat.zero_mul, Nat.zero_add, g1 q (by omega), hC.2.1 q hq]
    rfl
  have hw0 : ∀ i, i < 0 → (st_S (st_S (st_S τ1 9 0) 10 0) 11 1000).2.1 11 i = nI ((fun _ : Nat => 0) i) := fun i hi => absurd hi (Nat.not_lt_zero i)
  have hK8 : ∀ p, p < n → (st_S (st_S (st_S τ1 9 0) 10 0) 11 1000).2.1 8 p = nI (K p) := hC.2.2.1
  by_cases op : ∃ p, p < n ∧ opn K (fun _ => 0) 0 p ≠ 0
  · obtain ⟨p, hp, hp0, hpz⟩ := fb_first op
    have hpz' : ∀ q, q < p → opn K (fun _ => 0) 0 q = 0 := fun q hq => Classical.byContradiction (fun z => hpz q hq z)
    have exr : ∃ r, r < 12 ∧ bt (opn K (fun _ => 0) 0 p) r = true := by
      apply Classical.byContradiction
      intro z
      apply hp0
      rw [opn_zero (hC.1 p hp)]
      intro r hr
      cases c : bt (opn K (fun _ => 0) 0 p) r
      · rfl
      · exact absurd ⟨r, hr, c⟩ z
    obtain ⟨r, hr, hrb, hrz⟩ := fb_first exr
    have hrz' : ∀ q, q < r → bt (opn K (fun _ => 0) 0 p) q = false := fun q hq => by
      cases c : bt (opn K (fun _ => 0) 0 p) q
      · rfl
      · exact absurd c (hrz q hq)
    have elow := low_bit (opn_sm (hC.1 p hp)) hr hrb hrz'
    have hrK : (K p).testBit r = true := by
      have := hrb
      rw [opn, b_and, Bool.and_eq_true, pb_nI (by omega)] at this
      exact this.1
    have fx2 : FrX σ1 (st_A (st_A (st_A (st_R (st_S (st_S (st_S σ1 9 0) 10 0) 11 122) 16 g) 13 0 (nI (K p))) 14 0 ((1 : Int32) <<< (nI r &&& 31))) 15 0 0) := FrX_A (FrX_A (FrX_A fx (by omega)) (by omega)) (by omega)
    have ft2 : FrT τ1 (st_A (st_A (st_A (st_S (st_S (st_S τ1 9 0) 10 0) 11 1000) 13 0 (nI p)) 12 0 (nI r)) 11 0 0) := FrT_A (FrT_A (FrT_A ft (by omega)) (by omega)) (by omega)
    obtain ⟨b, σ', τ', r1, r2, r3, r4, r5⟩ := q_sim (K := K) hn h2 40002 0 0 0 (st_A (st_A (st_A (st_R (st_S (st_S (st_S σ1 9 0) 10 0) 11 122) 16 g) 13 0 (nI (K p))) 14 0 ((1 : Int32) <<< (nI r &&& 31))) 15 0 0) (st_A (st_A (st_A (st_S (st_S (st_S τ1 9 0) 10 0) 11 1000) 13 0 (nI p)) 12 0 (nI r)) 11 0 0)
      (fun _ => 0) (fun _ => p) (fun _ => r) (by omega) (by omega) (by omega)
      ⟨Cs_fr hC fx2 ft2, m1, rfl, rfl, rfl, fun l hl => by
        have : l = 0 := by omega
        subst this
        refine ⟨show 0 < 4096 by omega, hp, hr, ?_, ?_, ?_, ?_, ?_, ?_, fun q hq => ?_⟩
        · show upd (τ1.2.1 11) 0 0 0 = _
          exact pk_us
        · show upd (σ1.2.1 15) 0 0 0 = _
          rw [Nat.zero_add, ct_1]
          exact pk_us
        · show upd (σ1.2.1 13) 0 _ 0 = _
          exact pk_us
        · show upd (σ1.2.1 14) 0 _ 0 = _
          exact pk_us
        · show upd (τ1.2.1 13) 0 _ 0 = _
          exact pk_us
        · show upd (τ1.2.1 12) 0 _ 0 = _
          exact pk_us
        · show g (0 * 10 + q) = _
          rw [Nat.zero_mul, Nat.zero_add, g1 q (by omega)]
          rfl⟩ (fun l hl => absurd hl (Nat.not_lt_zero l))
      (Or.inl ⟨rfl, rfl, rfl, hrK, fun l hl => absurd hl (Nat.not_lt_zero l), fun l l' z z2 => by omega⟩)
    have hso : ∀ po : Int32 → St → Prop, po 1 (st_A (st_A (st_A (st_R (st_S (st_S (st_S σ1 9 0) 10 0) 11 122) 16 g) 13 0 (nI (K p))) 14 0 ((1 : Int32) <<< (nI r &&& 31))) 15 0 0) → wX6_openPlace (st_R (st_S (st_S (st_S σ1 9 0) 10 0) 11 122) 16 g) (nI 0) (nI n) po := fun po hpo => by
      refine qx_open_some (x := opn K (fun _ => 0) 0 p) hn (by omega) hp (fun q hq => by rw [ex0 q (by omega)]; exact hpz' q hq) (ex0 p hp).symm hp0 ?_
      rw [elow]
      have e : (st_R (st_S (st_S (st_S σ1 9 0) 10 0) 11 122) 16 g).2.1 0 p = nI (K p) := hC.2.1 p hp
      rw [e]
      exact hpo
    have hmo : ∀ (post : Int32 → St → Prop), (if b = true then post (τ'.1 10) τ' else post (-6) τ') → wX10_roles τ (nI most) post := fun post hpo => by
      refine hM post (qm_open_some (lev := 0) (K := K) (w := fun _ => 0) m1 hn (by omega) hC.1 hK8 hw0 hp hpz' hr hrb hrz' ⟨fun _ => q_level (l := 0) (by omega) (by omega) hr ⟨_, r5 _ post hpo⟩, fun z => absurd (nI_pos' (by omega)) z⟩)
    cases b
    · refine ⟨-6, σ', τ', fun post hpo => ?_, fun post hpo => hmo post hpo, ⟨n, u, d, sp, se, gr, R_fr2 hR1 (FrX_tr fx2 r2) (FrT_tr ft2 r3) ⟨⟨0, by omega, (r1.2.2 rfl).1, (r1.2.2 rfl).2, fun i hi => absurd hi (Nat.not_lt_zero i)⟩, r1.1⟩⟩⟩
      refine hX 0 σ' post (fun _ => hpo) (fun z => absurd rfl z) (fun po hpp => gw _ (hso _ ⟨fun z => absurd z n10, fun _ => ⟨fun _ => ⟨_, r4 _ po hpp⟩, fun z => absurd (by decide) z⟩⟩))
    · obtain ⟨m, k1, k2, k3, k4⟩ := r1.2.1 rfl
      refine ⟨nI m, st_S σ' 9 (nI m), τ', fun post hpo => ?_, fun post hpo => hmo post ?_, ⟨n, u, d, sp, se, gr, R_fr2 hR1 (FrX_S (FrX_tr fx2 r2) (by omega)) (FrT_tr ft2 r3) ⟨⟨m, k1, rfl, k3, k4⟩, r1.1⟩⟩⟩
      · refine hX 1 (st_S σ' 9 (nI m)) post (fun z => absurd z n10) (fun _ => hpo) (fun po hpp => gw _ (hso _ ⟨fun z => absurd z n10, fun _ => ⟨fun _ => ⟨_, r4 _ po ?_⟩, fun z => absurd (by decide) z⟩⟩))
        rw [if_pos rfl, k2]
        refine ⟨fun z => absurd z (nI_ge (b := 122) (by omega) (by omega)), fun _ => ?_⟩
        intro σ35 h35
        rw [h35]
        exact hpp
      · rw [if_pos rfl, k3]
        exact hpo
  · have hz : ∀ q, q < n → opn K (fun _ => 0) 0 q = 0 := fun q hq => Classical.byContradiction (fun z => op ⟨q, hq, z⟩)
    refine ⟨0, st_S (st_S (st_R (st_S (st_S (st_S σ1 9 0) 10 0) 11 122) 16 g) 11 0) 9 0, st_S (st_S (st_S τ1 9 0) 10 0) 11 1000, fun post hpo => ?_, fun post hpo => hM post (qm_open_none (lev := 0) (K := K) (w := fun _ => 0) m1 hn (by omega) hC.1 hK8 hw0 hz ⟨fun z => absurd z m9n, fun _ => hpo⟩), ⟨n, u, d, sp, se, gr, R_fr2 hR1 (FrX_S (FrX_S fx (by omega)) (by omega)) ft ⟨⟨0, by omega, rfl, rfl, fun i hi => absurd hi (Nat.not_lt_zero i)⟩, rfl⟩⟩⟩
    refine hX 1 (st_S (st_S (st_R (st_S (st_S (st_S σ1 9 0) 10 0) 11 122) 16 g) 11 0) 9 0) post (fun z => absurd z n10) (fun _ => hpo) (fun po hpp => gw _ (qx_open_none (lev := 0) hn (by omega) (fun q hq => by rw [ex0 q hq]; exact hz q hq) ⟨fun _ => ⟨fun z => absurd z (by decide), fun _ => ?_⟩, fun z => absurd rfl z⟩))
    intro σ28 h28
    refine ⟨0 + 1, ?_⟩
    rw [lpX6_search_34]
    refine ⟨fun _ => ?_, fun z => absurd (by decide) z⟩
    rw [h28]
    refine ⟨fun z => absurd z (by show ¬ (122 : Int32) ≤ 0; decide), fun _ => ?_⟩
    intro σ31 h31
    rw [h31]
    exact hpp
theorem pr_roles {σ τ : St} (hR : R_ok σ τ) (a : Int32) : Pair (wX9_roles σ a) (wX10_roles τ a) := by
  have hR' := hR
  obtain ⟨n, u, d, sp, se, gr, ha⟩ := hR
  have bad : (a < 1 ∨ 20000 < a) → Pair (wX9_roles σ a) (wX10_roles τ a) := fun hb => by
    refine pair_bad (-1) hR' (fun post hp => ?_) (fun post hp => q_in_bad hb ⟨fun z => absurd rfl z, fun _ => hp⟩)
    refine ⟨fun _ => hp, fun z => ⟨fun z2 => ?_, fun _ => hp⟩⟩
    rcases hb with c | c
    · exact absurd c z
    · exact absurd z2 (Int32.not_le.mpr c)
  rcases rg_cases a (n := 20001) (by omega) with ⟨k, hk, e⟩ | hb
  · subst e
    rcases Nat.eq_zero_or_pos k with z | z
    · exact bad (Or.inl (by rw [z]; decide))
    · exact pr_roles_ok ha z (by omega)
  · refine bad ?_
    rcases hb with c | c
    · left
      have h01 : (0 : Int32) ≤ 1 := by decide
      exact fa_trans c h01
    · right
      exact lt_pre (n := 20000) (by omega) c
