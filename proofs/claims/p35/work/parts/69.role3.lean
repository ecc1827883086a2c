/-! ===== pure: the fewest roles, the walk through both trees ===== -/
theorem cv_has {w : Nat → Nat} {k r l : Nat} (h1 : bt (nI (w l)) r = true) (h2 : (nI (w l) &&& (nI k ^^^ (-1))) = 0) : ∀ {m : Nat}, l < m → bt (cv w k m) r = true
  | 0, h => absurd h (Nat.not_lt_zero l)
  | m + 1, h => by
    rw [cv]
    by_cases e : l = m
    · rw [← e, if_pos h2, b_or, h1, Bool.or_true]
    · have ih := cv_has (r := r) h1 h2 (m := m) (by omega)
      by_cases c : (nI (w m) &&& (nI k ^^^ (-1))) = 0
      · rw [if_pos c, b_or, ih]; rfl
      · rw [if_neg c]; exact ih
theorem Bs_open {K : Nat → Nat} {n L tr : Nat} {σ τ : St} {w P Q : Nat → Nat} (v13 v14 v15 : Int32) (h : Bs K n L σ τ tr w P Q) : Bs K n L (st_A (st_A (st_A σ 13 (L + 1) v13) 14 (L + 1) v14) 15 (L + 1) v15) τ tr w P Q := by
  refine ⟨Cs_fr h.1 (FrX_A (FrX_A (FrX_A (FrX_refl σ) (by omega)) (by omega)) (by omega)) (FrT_refl τ), h.2.1, h.2.2.1, h.2.2.2.1, h.2.2.2.2.1, fun l hl => Lv_keep (h.2.2.2.2.2 l hl) ?_ ?_ ?_ (fun _ _ => rfl) rfl rfl rfl (fun _ _ => rfl) rfl rfl⟩
  · show upd (σ.2.1 13) (L + 1) v13 l = _
    exact upd_ne (by omega)
  · show upd (σ.2.1 14) (L + 1) v14 l = _
    exact upd_ne (by omega)
  · show upd (σ.2.1 15) (L + 1) v15 l = _
    exact upd_ne (by omega)
theorem ct_1 (K : Nat → Nat) (n : Nat) : fb_ct (cdB K n) 1 = 0 := by rw [fb_ct_succ, cd_0]; rfl
theorem Bs_down {K : Nat → Nat} {n L tr p r : Nat} {σ τ : St} {w P Q : Nat → Nat} (h : Bs K n L σ τ tr w P Q) (hp : p < n) (hr : r < 12) (row : ∀ q, q < n → σ.2.1 16 ((L + 1) * 10 + q) = cv w (K q) (L + 1)) :
    Bs K n (L + 1) (st_A (st_A (st_A σ 13 (L + 1) (nI (K p))) 14 (L + 1) ((1 : Int32) <<< (nI r &&& 31))) 15 (L + 1) 0) (st_A (st_A (st_A τ 13 (L + 1) (nI p)) 12 (L + 1) (nI r)) 11 (L + 1) 0) tr (sN w (L + 1) 0) (sN P (L + 1) p) (sN Q (L + 1) r) := by
  refine ⟨Cs_fr h.1 (FrX_A (FrX_A (FrX_A (FrX_refl σ) (by omega)) (by omega)) (by omega)) (FrT_A (FrT_A (FrT_A (FrT_refl τ) (by omega)) (by omega)) (by omega)), h.2.1, h.2.2.1, h.2.2.2.1, h.2.2.2.2.1, fun l hl => ?_⟩
  by_cases e : l = L + 1
  · subst e
    unfold Lv
    rw [sN_at, sN_at, sN_at]
    refine ⟨by omega, hp, hr, ?_, ?_, ?_, ?_, ?_, ?_, fun q hq => ?_⟩
    · show upd (τ.2.1 11) (L + 1) 0 (L + 1) = _
      exact pk_us
    · show upd (σ.2.1 15) (L + 1) 0 (L + 1) = _
      rw [Nat.zero_add, ct_1]
      exact pk_us
    · show upd (σ.2.1 13) (L + 1) _ (L + 1) = _
      exact pk_us
    · show upd (σ.2.1 14) (L + 1) _ (L + 1) = _
      exact pk_us
    · show upd (τ.2.1 13) (L + 1) _ (L + 1) = _
      exact pk_us
    · show upd (τ.2.1 12) (L + 1) _ (L + 1) = _
      exact pk_us
    · rw [cv_cong (v := w) (fun i hi => sN_ne (by omega))]
      exact row q hq
  · refine Lv_keep (h.2.2.2.2.2 l (by omega)) ?_ ?_ ?_ (fun _ _ => rfl) ?_ ?_ ?_ (fun i hi => sN_ne (by omega)) (sN_ne e) (sN_ne e)
    · show upd (σ.2.1 13) (L + 1) _ l = _
      exact upd_ne e
    · show upd (σ.2.1 14) (L + 1) _ l = _
      exact upd_ne e
    · show upd (σ.2.1 15) (L + 1) _ l = _
      exact upd_ne e
    · show upd (τ.2.1 11) (L + 1) _ l = _
      exact upd_ne e
    · show upd (τ.2.1 12) (L + 1) _ l = _
      exact upd_ne e
    · show upd (τ.2.1 13) (L + 1) _ l = _
      exact upd_ne e
theorem Bs_same {K : Nat → Nat} {n L tr : Nat} {σ τ σ' τ' : St} {w P Q : Nat → Nat} (h : Bs K n L σ τ tr w P Q) (fx : FrX σ σ') (ft : FrT τ τ') (e13 : σ'.2.1 13 = σ.2.1 13) (e14 : σ'.2.1 14 = σ.2.1 14) (e15 : σ'.2.1 15 = σ.2.1 15) (e16 : σ'.2.1 16 = σ.2.1 16) (s9 : σ'.1 9 = σ.1 9) (s10 : σ'.1 10 = σ.1 10)
    (t11 : τ'.2.1 11 = τ.2.1 11) (t12 : τ'.2.1 12 = τ.2.1 12) (t13 : τ'.2.1 13 = τ.2.1 13) (t9 : τ'.1 9 = τ.1 9) : Bs K n L σ' τ' tr w P Q := by
  refine ⟨Cs_fr h.1 fx ft, by rw [ft.1 1 (by omega) (by omega) (by omega)]; exact h.2.1, by rw [s9]; exact h.2.2.1, by rw [s10]; exact h.2.2.2.1, by rw [t9]; exact h.2.2.2.2.1, fun l hl => Lv_keep (h.2.2.2.2.2 l hl) ?_ ?_ ?_ (fun _ _ => ?_) ?_ ?_ ?_ (fun _ _ => rfl) rfl rfl⟩
  · rw [e13]
  · rw [e14]
  · rw [e15]
  · rw [e16]
  · rw [t11]
  · rw [t12]
  · rw [t13]
theorem nI_back (L : Nat) : nI (L + 1) + (-1 : Int32) = nI L := by
  have := nI_pred L
  rw [Int32.sub_eq_add_neg] at this
  exact this
theorem q_sim {K : Nat → Nat} {n most : Nat} (hn : n ≤ 10) (hmost : most ≤ 20000) : ∀ (j L step tried : Nat) (σ τ : St) (w P Q : Nat → Nat), step + j = 40002 → step + L ≤ 2 * tried → tried ≤ most →
    Bs K n L σ τ tried w P Q → Wy σ w L → (PhA K n σ τ w P Q L ∨ PhB σ τ L) →
    ∃ (b : Bool) (σ' τ' : St), Fin b σ' τ' ∧ FrX σ σ' ∧ FrT τ τ' ∧
      (∀ (Kx : St → Prop) (post : Int32 → St → Prop), (if b = true then Kx σ' else post 0 σ') → lpX6_search_34 (nI n) (nI most) Kx post (j + 1) (nI L) (nI step) σ) ∧
      ∀ (Km : St → Prop) (post : Int32 → St → Prop), (if b = true then Km τ' else post (-6) τ') → lpX10_roles_58 (nI most) Km post (j + 1) (nI L) τ := by
  intro j
  induction j with
  | zero => intro L step tried σ τ w P Q e1 e2 e3; omega
  | succ j ih =>
    intro L step tried σ τ w P Q e1 e2 e3 hB hW hPh
    have hB' := hB
    obtain ⟨b1, b2, b3, b4, b5, b6⟩ := hB
    have hQ : ∀ l, l ≤ L → Q l < 12 := fun l hl => (b6 l hl).2.2.1
    have hL : L ≤ 11 := by
      rcases hPh with a | ⟨b, h1, h2, _⟩
      · have := fb_holes 12 (L + 1) Q (fun i hi => hQ i (by omega)) a.2.2.2.2.2
        omega
      · omega
    obtain ⟨c1, c2, c3, c4, c5, c6, c7, c8, c9, c10⟩ := b6 L (Nat.le_refl L)
    have hcm := cd_many K hn
    have hKP : K (P L) < 4096 := b1.1 _ c2
    have hPl : Pl σ K n L (Q L) (K (P L)) := ⟨b1.2.2.2.1, b1.2.2.2.2.1, hcm, c6, c7, c3, hKP, by omega⟩
    have hPm : Pm τ K n L (Q L) (P L) := ⟨b1.2.2.2.2.2, c9, c3, c8, by omega, b1.2.2.1 _ c2, by omega⟩
    by_cases ex : ∃ s, s < 4096 ∧ (w L < s ∧ gdB K n (Q L) (K (P L)) s = true)
    · obtain ⟨s, hs4, ⟨hws, hgs⟩, hmin⟩ := fb_first ex
      have hmin' : ∀ t, w L < t → t < s → gdB K n (Q L) (K (P L)) t = false := fun t h1 h2 => by
        cases c : gdB K n (Q L) (K (P L)) t
        · rfl
        · exact absurd ⟨h1, c⟩ (hmin t h2)
      by_cases ht : tried < most
      · obtain ⟨σ8, m1, m2, m3, m4, m5, m6, m7⟩ := q_mid hn hL hB' hW hs4
        have ft : FrT τ (st_S (st_A τ 11 L (nI s)) 9 (nI (tried + 1))) := FrT_S (FrT_A (FrT_refl τ) (by omega)) (by omega)
        have hK8 : ∀ p, p < n → (st_S (st_A τ 11 L (nI s)) 9 (nI (tried + 1))).2.1 8 p = nI (K p) := b1.2.2.1
        have hw11 : ∀ i, i < L + 1 → (st_S (st_A τ 11 L (nI s)) 9 (nI (tried + 1))).2.1 11 i = nI (sN w L s i) := fun i hi => (m1.2.2.2.2.2 i (by omega)).2.2.2.1
        have ex0 : ∀ q, q < n → (σ8.2.1 0 q &&& (σ8.2.1 16 ((L + 1) * 10 + q) ^^^ (-1))) = opn K (sN w L s) (L + 1) q := fun q hq => by rw [m3 q hq, m1.1.2.1 q hq]; rfl
        by_cases op : ∃ p, p < n ∧ opn K (sN w L s) (L + 1) p ≠ 0
        · obtain ⟨p, hp, hp0, hpz⟩ := fb_first op
          have hpz' : ∀ q, q < p → opn K (sN w L s) (L + 1) q = 0 := fun q hq => Classical.byContradiction (fun z => hpz q hq z)
          have exr : ∃ r, r < 12 ∧ bt (opn K (sN w L s) (L + 1) p) r = true := by
            apply Classical.byContradiction
            intro z
            apply hp0
            rw [opn_zero (b1.1 p hp)]
            intro r hr
            cases c : bt (opn K (sN w L s) (L + 1) p) r
            · rfl
            · exact absurd ⟨r, hr, c⟩ z
          obtain ⟨r, hr, hrb, hrz⟩ := fb_first exr
          have hrz' : ∀ q, q < r → bt (opn K (sN w L s) (L + 1) p) q = false := fun q hq => by
            cases c : bt (opn K (sN w L s) (L + 1) p) q
            · rfl
            · exact absurd c (hrz q hq)
          have elow := low_bit (opn_sm (b1.1 p hp)) hr hrb hrz'
          have hrK : (K p).testBit r = true := by
            have := hrb
            rw [opn, b_and, Bool.and_eq_true, pb_nI (by omega)] at this
            exact this.1
          have hrc : bt (cv (sN w L s) (K p) (L + 1)) r = false := by
            have := hrb
            rw [opn, b_and, Bool.and_eq_true, pb_not (by omega)] at this
            simpa using this.2
          have hX : ∀ (po : Int32 → St → Prop), po 1 (st_A (st_A (st_A σ8 13 (L + 1) (nI (K p))) 14 (L + 1) ((1 : Int32) <<< (nI r &&& 31))) 15 (L + 1) 0) → wX6_openPlace σ8 (nI (L + 1)) (nI n) po := fun po hpo => by
            refine qx_open_some (x := opn K (sN w L s) (L + 1) p) hn (by omega) hp (fun q hq => by rw [ex0 q (by omega)]; exact hpz' q hq) (ex0 p hp).symm hp0 ?_
            rw [elow, m1.1.2.1 p hp]
            exact hpo
          have hM : ∀ po : Int32 → Prop, po (nI (12 * p + r)) → wX10_open (st_S (st_A τ 11 L (nI s)) 9 (nI (tried + 1))) (nI (L + 1)) po := fun po hpo => qm_open_some (K := K) (w := sN w L s) b2 hn (by omega) b1.1 hK8 hw11 hp hpz' hr hrb hrz' hpo
          have key : (∃ f f', σ.1 11 = nI f ∧ τ.1 11 = nI f' ∧ L + 2 < f ∧ L + 2 < f' ∧ f < 2000 ∧ f' < 2000 ∧
              (PhA K n (st_A (st_A (st_A σ8 13 (L + 1) (nI (K p))) 14 (L + 1) ((1 : Int32) <<< (nI r &&& 31))) 15 (L + 1) 0) (st_A (st_A (st_A (st_S (st_A τ 11 L (nI s)) 9 (nI (tried + 1))) 13 (L + 1) (nI p)) 12 (L + 1) (nI r)) 11 (L + 1) 0) (sN (sN w L s) (L + 1) 0) (sN P (L + 1) p) (sN Q (L + 1) r) (L + 1) ∨
               PhB (st_A (st_A (st_A σ8 13 (L + 1) (nI (K p))) 14 (L + 1) ((1 : Int32) <<< (nI r &&& 31))) 15 (L + 1) 0) (st_A (st_A (st_A (st_S (st_A τ 11 L (nI s)) 9 (nI (tried + 1))) 13 (L + 1) (nI p)) 12 (L + 1) (nI r)) 11 (L + 1) 0) (L + 1))) ∨
              (∃ f, σ.1 11 = nI f ∧ τ.1 11 = nI f ∧ f ≤ L + 2 ∧ PhB (st_A (st_A (st_A σ8 13 (L + 1) (nI (K p))) 14 (L + 1) ((1 : Int32) <<< (nI r &&& 31))) 15 (L + 1) 0) (st_S (st_A τ 11 L (nI s)) 9 (nI (tried + 1))) L) := by
            rcases hPh with ⟨a1, a2, a3, a4, a5, a6⟩ | ⟨b, h1, h2, h3, h4, h5, h6⟩
            · have es : s = minR K n (Q L) := first_min c3 c2 a4 hgs (fun t ht => by
                rcases Nat.eq_zero_or_pos t with z | z
                · rw [z]; exact gd_0
                · exact hmin' t (by omega) ht)
              have hall : ∀ l, l < L + 1 → sN w L s l = minR K n (Q l) := fun l hl => by
                by_cases e : l = L
                · rw [e, sN_at]; exact es
                · rw [sN_ne e]; exact a5 l (by omega)
              have hne : ∀ l, l < L + 1 → Q l ≠ r := fun l hl z => by
                have t1 : bt (nI (sN w L s l)) r = true := by
                  rw [hall l hl, z, pb_nI (by omega)]
                  exact minR_bit.mpr ⟨hr, fun q _ h => h⟩
                have t2 : (nI (sN w L s l) &&& (nI (K p) ^^^ (-1))) = 0 := by
                  rw [hall l hl, z]
                  exact minR_sub hp hrK
                have t3 := cv_has t1 t2 hl
                rw [hrc] at t3
                cases t3
              refine Or.inl ⟨122, 1000, a1, a2, by omega, by omega, by omega, by omega, Or.inl ⟨m5.trans a1, a2, sN_at _ _ _, ?_, fun l hl => ?_, fun l l' h1 h2 => ?_⟩⟩
              · rw [sN_at, sN_at]; exact hrK
              · rw [sN_ne (f := sN w L s) (i := L + 1) (by omega), sN_ne (f := Q) (by omega)]
                exact hall l hl
              · by_cases e : l' = L + 1
                · rw [e, sN_at, sN_ne (by omega)]
                  exact hne l (by omega)
                · rw [sN_ne e, sN_ne (by omega)]
                  exact a6 l l' h1 (by omega)
            · rcases Nat.lt_or_ge (L + 2) b with d | d
              · exact Or.inl ⟨b, b, h3, h4, d, d, by omega, by omega, Or.inr ⟨b, by omega, h2, m5.trans h3, h4, h5, fun i hi => by
                  show σ8.2.1 11 i = τ.2.1 10 i ∧ sm (σ8.2.1 11 i)
                  rw [m6]; exact h6 i hi⟩⟩
              · exact Or.inr ⟨b, h3, h4, d, b, h1, h2, m5.trans h3, h4, h5, fun i hi => by
                  show σ8.2.1 11 i = τ.2.1 10 i ∧ sm (σ8.2.1 11 i)
                  rw [m6]; exact h6 i hi⟩
          rcases key with ⟨f, f', k1, k2, k3, k4, k5, k6, k7⟩ | ⟨f, k1, k2, k3, k4⟩
          · obtain ⟨b, σ', τ', r1, r2, r3, r4, r5⟩ := ih (L + 1) (step + 1) (tried + 1) _ _ _ _ _ (by omega) (by omega) (by omega) (Bs_down m1 hp hr m3) (fun l hl => by
              rw [sN_ne (by omega)]
              exact m2 l hl) k7
            refine ⟨b, σ', τ', r1, FrX_tr (FrX_A (FrX_A (FrX_A m4 (by omega)) (by omega)) (by omega)) r2, FrT_tr (FrT_A (FrT_A (FrT_A ft (by omega)) (by omega)) (by omega)) r3, fun Kx post hpo => ?_, fun Km post hpo => ?_⟩
            · exact xi_pre hL (by omega) hmost ht hPl c5 hgs hws hmin' b4 m7 (hX _ (xc_down (m5.trans k1) k5 k3 hL (r4 Kx post hpo)))
            · exact mi_pre hL hmost ht hPm c4 hgs hws hmin' b5 (hM _ (mc_down (by omega) hr k2 k6 k4 hL (r5 Km post hpo)))
          · obtain ⟨b, σ', τ', r1, r2, r3, r4, r5⟩ := ih L (step + 1) (tried + 1) _ _ _ _ _ (by omega) (by omega) (by omega) (Bs_open (nI (K p)) ((1 : Int32) <<< (nI r &&& 31)) 0 m1) (fun l hl => m2 l (by omega)) (Or.inr k4)
            refine ⟨b, σ', τ', r1, FrX_tr (FrX_A (FrX_A (FrX_A m4 (by omega)) (by omega)) (by omega)) r2, FrT_tr ft r3, fun Kx post hpo => ?_, fun Km post hpo => ?_⟩
            · exact xi_pre hL (by omega) hmost ht hPl c5 hgs hws hmin' b4 m7 (hX _ (xc_stay (m5.trans k1) k3 hL (r4 Kx post hpo)))
            · exact mi_pre hL hmost ht hPm c4 hgs hws hmin' b5 (hM _ (mc_stay (by omega) k2 k3 hL (r5 Km post hpo)))
        · have hz : ∀ q, q < n → opn K (sN w L s) (L + 1) q = 0 := fun q hq => Classical.byContradiction (fun z => op ⟨q, hq, z⟩)
          have hX : ∀ (po : Int32 → St → Prop), po 0 σ8 → wX6_openPlace σ8 (nI (L + 1)) (nI n) po := fun po hpo => qx_open_none hn (by omega) (fun q hq => by rw [ex0 q hq]; exact hz q hq) hpo
          have hM : ∀ po : Int32 → Prop, po (-9) → wX10_open (st_S (st_A τ 11 L (nI s)) 9 (nI (tried + 1))) (nI (L + 1)) po := fun po hpo => qm_open_none (K := K) (w := sN w L s) b2 hn (by omega) b1.1 hK8 hw11 hz hpo
          have key : (∃ f f', σ.1 11 = nI f ∧ τ.1 11 = nI f' ∧ L + 1 < f ∧ L + 1 < f' ∧ f ≤ 122 ∧ f' < 2000) ∨ (PhB σ τ L ∧ σ.1 11 = nI (L + 1) ∧ τ.1 11 = nI (L + 1)) := by
            rcases hPh with a | ⟨b, h1, h2, h3, h4, h5⟩
            · exact Or.inl ⟨122, 1000, a.1, a.2.1, by omega, by omega, by omega, by omega⟩
            · rcases Nat.lt_or_ge (L + 1) b with d | d
              · exact Or.inl ⟨b, b, h3, h4, d, d, by omega, by omega⟩
              · have : b = L + 1 := by omega
                exact Or.inr ⟨⟨b, h1, h2, h3, h4, h5⟩, by rw [← this]; exact h3, by rw [← this]; exact h4⟩
          rcases key with ⟨f, f', k1, k2, k3, k4, k5, k6⟩ | ⟨k1, k2, k3⟩
          · obtain ⟨g, g1, g2⟩ := qx_keep (σ := σ8) (m := L + 1) (m5.trans k1) k3 k5 (by omega)
            obtain ⟨g', g1', g2'⟩ := qm_keep (τ := st_S (st_S (st_S (st_A τ 11 L (nI s)) 9 (nI (tried + 1))) 11 (nI (L + 1))) 10 (nI (L + 1))) (L := L) (u := nI most) hL
            have fx1 : FrX σ8 (st_R (st_S σ8 11 (nI (L + 1))) 11 g) := FrX_R (FrX_S (FrX_refl σ8) (by omega)) (by omega)
            have ft1 : FrT (st_S (st_A τ 11 L (nI s)) 9 (nI (tried + 1))) (st_R (st_S (st_S (st_S (st_A τ 11 L (nI s)) 9 (nI (tried + 1))) 11 (nI (L + 1))) 10 (nI (L + 1))) 10 g') := FrT_R (FrT_S (FrT_S (FrT_refl _) (by omega)) (by omega)) (by omega)
            obtain ⟨b, σ', τ', r1, r2, r3, r4, r5⟩ := ih L (step + 1) (tried + 1) (st_R (st_S σ8 11 (nI (L + 1))) 11 g) (st_R (st_S (st_S (st_S (st_A τ 11 L (nI s)) 9 (nI (tried + 1))) 11 (nI (L + 1))) 10 (nI (L + 1))) 10 g') (sN w L s) P Q (by omega) (by omega) (by omega) (Bs_same m1 fx1 ft1 rfl rfl rfl rfl rfl rfl rfl rfl rfl rfl) (fun l hl => m2 l (by omega)) (Or.inr ⟨L + 1, by omega, by omega, rfl, rfl, rfl, fun i hi => by
              show g i = g' i ∧ sm (g i)
              have q1 : g i = nI (sN w L s i) := (g1 i hi).trans (m2 i hi)
              have q2 : g' i = nI (sN w L s i) := (g1' i hi).trans (hw11 i hi)
              rw [q1, q2]
              exact ⟨rfl, sm_of (m1.2.2.2.2.2 i (by omega)).1⟩⟩)
            refine ⟨b, σ', τ', r1, FrX_tr m4 (FrX_tr fx1 r2), FrT_tr ft (FrT_tr ft1 r3), fun Kx post hpo => ?_, fun Km post hpo => ?_⟩
            · exact xi_pre hL (by omega) hmost ht hPl c5 hgs hws hmin' b4 m7 (hX _ (xc_none g2 (r4 Kx post hpo)))
            · exact mi_pre hL hmost ht hPm c4 hgs hws hmin' b5 (hM _ (mc_keep k2 k6 k4 hL g2' (r5 Km post hpo)))
          · obtain ⟨b, σ', τ', r1, r2, r3, r4, r5⟩ := ih L (step + 1) (tried + 1) σ8 (st_S (st_A τ 11 L (nI s)) 9 (nI (tried + 1))) (sN w L s) P Q (by omega) (by omega) (by omega) m1 (fun l hl => m2 l (by omega)) (Or.inr (by
              obtain ⟨b, h1, h2, h3, h4, h5, h6⟩ := k1
              exact ⟨b, h1, h2, m5.trans h3, h4, h5, fun i hi => by
                show σ8.2.1 11 i = τ.2.1 10 i ∧ sm (σ8.2.1 11 i)
                rw [m6]; exact h6 i hi⟩))
            refine ⟨b, σ', τ', r1, FrX_tr m4 r2, FrT_tr ft r3, fun Kx post hpo => ?_, fun Km post hpo => ?_⟩
            · exact xi_pre hL (by omega) hmost ht hPl c5 hgs hws hmin' b4 m7 (hX _ (xc_none (fun po hpo => ⟨fun z => absurd z (by rw [m5, k2]; exact nI_nlt (Nat.le_refl _) (by omega)), fun _ => hpo⟩) (r4 Kx post hpo)))
            · exact mi_pre hL hmost ht hPm c4 hgs hws hmin' b5 (hM _ (mc_skip k3 (Nat.le_refl _) hL (r5 Km post hpo)))
      · have ht2 : tried = most := by omega
        refine ⟨false, st_A σ 15 L (nI (fb_ct (cdB K n) (s + 1))), st_S (st_A τ 11 L (nI s)) 10 0, ⟨?_, fun z => (by cases z), fun _ => ⟨b3, rfl⟩⟩, FrX_A (FrX_refl σ) (by omega), FrT_S (FrT_A (FrT_refl τ) (by omega)) (by omega), fun Kx post hp => ?_, fun Km post hp => ?_⟩
        · show τ.1 9 = σ.1 10
          rw [b4, b5]
        · rw [if_neg (by simp)] at hp
          rw [lpX6_search_34]
          have hs0 : ¬ nI s = 0 := nI_ne0 (by omega) (by omega)
          refine ⟨fun z => absurd z (nI_pos (by omega)), fun _ => ⟨fun z => absurd z (nI_ge (b := 40002) (by omega) (by omega)), fun _ => qx_nextOf_some hPl c5 hgs hws hmin' ⟨fun _ => ⟨fun z => ?_, fun _ => hp⟩, fun z => absurd z hs0⟩⟩⟩
          have e : (st_A σ 15 L (nI (fb_ct (cdB K n) (s + 1)))).1 10 = nI tried := b4
          rw [e] at z
          exact absurd z (nI_nlt (by omega) (by omega))
        · rw [if_neg (by simp)] at hp
          rw [lpX10_roles_58]
          refine ⟨fun z => absurd z (nI_pos (by omega)), fun _ => qm_next_some hPm c4 hgs hws hmin' ⟨fun _ => ⟨fun z => ?_, fun _ => ?_⟩, fun z => absurd z n10⟩⟩
          · exfalso
            apply z
            have e : (st_A τ 11 L (nI s)).1 9 = nI tried := b5
            rw [e, ht2]
          · intro σ23 h23
            rw [h23]
            exact hp
    · have hno : ∀ t, w L < t → t < 4096 → gdB K n (Q L) (K (P L)) t = false := fun t h1 h2 => by
        cases c : gdB K n (Q L) (K (P L)) t
        · rfl
        · exact absurd ⟨t, h2, h1, c⟩ ex
      rcases hPh with a | hb
      · exfalso
        have hg := minR_good c3 c2 a.2.2.2.1
        have h1 : minR K n (Q L) ≠ 0 := fun z => by rw [z, gd_0] at hg; cases hg
        have := hno (minR K n (Q L)) (by rw [a.2.2.1]; omega) minR_lt
        rw [hg] at this
        cases this
      · have fx : FrX σ (st_A σ 15 L (σ.1 8)) := FrX_A (FrX_refl σ) (by omega)
        have ft : FrT τ (st_A τ 11 L (nI 4096)) := FrT_A (FrT_refl τ) (by omega)
        cases L with
        | zero =>
          refine ⟨true, st_A σ 15 0 (σ.1 8), st_A τ 11 0 (nI 4096), ⟨?_, fun _ => ?_, fun z => (by cases z)⟩, fx, ft, fun Kx post hp => ?_, fun Km post hp => ?_⟩
          · show τ.1 9 = σ.1 10
            rw [b4, b5]
          · obtain ⟨b, h1, h2, h3, h4, h5, h6⟩ := hb
            exact ⟨b, h2, h3, h5, h6⟩
          · rw [if_pos rfl] at hp
            rw [lpX6_search_34]
            refine ⟨fun z => absurd z (nI_pos (by omega)), fun _ => ⟨fun z => absurd z (nI_ge (b := 40002) (by omega) (by omega)), fun _ => qx_nextOf_none hPl c5 c1 hno ⟨fun z => absurd rfl z, fun _ => ?_⟩⟩⟩
            intro x22 h22 x23 h23
            have e : x22 < 0 := by rw [h22]; decide
            rw [lpX6_search_34]
            exact ⟨fun _ => hp, fun z => absurd e z⟩
          · rw [if_pos rfl] at hp
            rw [lpX10_roles_58]
            refine ⟨fun z => absurd z (nI_pos (by omega)), fun _ => qm_next_none hPm c4 c1 hno ⟨fun z => absurd rfl z, fun _ => ?_⟩⟩
            intro x24 h24
            have e : x24 < 0 := by rw [h24]; decide
            rw [lpX10_roles_58]
            exact ⟨fun _ => hp, fun z => absurd e z⟩
        | succ L =>
          obtain ⟨b, σ', τ', r1, r2, r3, r4, r5⟩ := ih L (step + 1) tried (st_A σ 15 (L + 1) (σ.1 8)) (st_A τ 11 (L + 1) (nI 4096)) w P Q (by omega) (by omega) e3 ⟨Cs_fr b1 fx ft, b2, b3, b4, b5, fun l hl => by
            refine Lv_keep (b6 l (by omega)) rfl rfl ?_ (fun _ _ => rfl) ?_ rfl rfl (fun _ _ => rfl) rfl rfl
            · show upd (σ.2.1 15) (L + 1) _ l = _
              exact upd_ne (by omega)
            · show upd (τ.2.1 11) (L + 1) _ l = _
              exact upd_ne (by omega)⟩ (fun l hl => hW l (by omega)) (Or.inr (by
              obtain ⟨b, h1, h2, h3, h4, h5, h6⟩ := hb
              exact ⟨b, by omega, h2, h3, h4, h5, h6⟩))
          refine ⟨b, σ', τ', r1, FrX_tr fx r2, FrT_tr ft r3, fun Kx post hp => ?_, fun Km post hp => ?_⟩
          · rw [lpX6_search_34]
            refine ⟨fun z => absurd z (nI_pos (by omega)), fun _ => ⟨fun z => absurd z (nI_ge (b := 40002) (by omega) (by omega)), fun _ => qx_nextOf_none hPl c5 c1 hno ⟨fun z => absurd rfl z, fun _ => ?_⟩⟩⟩
            intro x22 h22 x23 h23
            rw [h22, h23, nI_back, nI_1]
            exact r4 Kx post hp
          · rw [lpX10_roles_58]
            refine ⟨fun z => absurd z (nI_pos (by omega)), fun _ => qm_next_none hPm c4 c1 hno ⟨fun z => absurd rfl z, fun _ => ?_⟩⟩
            intro x24 h24
            rw [h24, nI_back]
            exact r5 Km post hp
