/-! ===== pure: copy ===== -/
theorem cmp_gt (x y : Int64) : (0 < lg_cmp x y) ↔ y < x := by
  unfold lg_cmp
  by_cases h : x > y
  · rw [if_pos h]; exact ⟨fun _ => h, fun _ => by decide⟩
  · rw [if_neg h]
    refine ⟨fun h2 => ?_, fun h2 => absurd h2 h⟩
    by_cases e : x = y
    · rw [if_pos e] at h2; exact absurd h2 (by decide)
    · rw [if_neg e] at h2; exact absurd h2 (by decide)
theorem cmp_le (x y : Int64) : (lg_cmp x y ≤ 0) ↔ ¬ y < x := by
  rw [← cmp_gt, Int32.not_lt]
theorem q_spans_ok {σ : St} {s z i k : Nat} {post : Int32 → Prop} (hs : s < 4) (e19 : σ.2.1 19 s = nI z) (hz : z ≤ 10) (h : i + k ≤ z) (hp : post 1) : wX7_spans σ (nI s) (nI i) (nI k) post := by
  unfold wX7_spans
  rw [cl, e19]
  have es : nI z - nI k = nI (z - k) := pk_sub (by omega)
  rw [es]
  exact ⟨fun h => absurd h (nI_pos (by omega)), fun _ => ⟨in4 hs, fun h => absurd h (nI_nlt (by omega) (by omega)), fun _ => ⟨in4 hs, fun h => absurd h (nI_nlt (by omega) (by omega)), fun _ => hp⟩⟩⟩
theorem q_spans_neg {σ : St} {s : Nat} {a b : Int32} {post : Int32 → Prop} (ha : a < 0) (hp : post 0) : wX7_spans σ (nI s) a b post :=
  ⟨fun _ => hp, fun h => absurd ha h⟩
theorem q_spans_bad {σ : St} {s z i k : Nat} {post : Int32 → Prop} (hs : s < 4) (e19 : σ.2.1 19 s = nI z) (hz : z ≤ 10) (hi : i < 2 ^ 31) (hk : k < 2 ^ 31) (h : ¬ i + k ≤ z) (hp : post 0) : wX7_spans σ (nI s) (nI i) (nI k) post := by
  unfold wX7_spans
  rw [cl, e19]
  refine ⟨fun _ => hp, fun _ => ⟨in4 hs, fun _ => hp, fun h2 => ⟨in4 hs, fun _ => hp, fun h3 => ?_⟩⟩⟩
  exfalso
  have hkz : k ≤ z := by
    rcases Nat.lt_or_ge z k with c | c
    · exact absurd (nI_lt c hk) h2
    · exact c
  have es : nI z - nI k = nI (z - k) := pk_sub hkz
  rw [es] at h3
  rcases Nat.lt_or_ge (z - k) i with c | c
  · exact h3 (nI_lt c hi)
  · omega
theorem long_add {i k : Nat} (hi : i < 2 ^ 31) (hk : k < 2 ^ 31) : (nI i).toInt64 + (nI k).toInt64 = lN (i + k) := by
  rw [nI_l hi, nI_l hk, lN_add]
theorem long_lt {i k z : Nat} (hi : i < 2 ^ 31) (hk : k < 2 ^ 31) (hz : z ≤ 10) : ((nI z).toInt64 < (nI i).toInt64 + (nI k).toInt64) ↔ ¬ i + k ≤ z := by
  rw [long_add hi hk, nI_l (by omega), pk_lLT (by omega) (by omega)]
  omega
theorem add3 (p i r : Nat) : (10 : Int32) * nI p + nI i + nI r = nI (10 * p + i + r) := by
  rw [mul10, nI_add]
theorem q_mcopy {τ : St} {s i to j k : Nat} {post : Int32 → St → Prop} (hs : s < 4) (hto : to < 4) (hik : i + k ≤ 10) (hjk : j + k ≤ 10)
    (h : post 1 (st_R (st_R τ 18 (fb_put (τ.2.1 18) (fun t => τ.2.1 17 (10 * s + i + t)) 0 k)) 17 (fb_put (τ.2.1 17) (fun t => fb_put (τ.2.1 18) (fun t => τ.2.1 17 (10 * s + i + t)) 0 k t) (10 * to + j) k))) :
    ∃ n : Nat, lpX10_copy_104 (nI s) (nI i) (nI to) (nI j) (nI k) (fun (σ13 : St) => ∃ n16 : Nat, lpX10_copy_141 (nI to) (nI j) (nI k) post n16 (0 : Int32) σ13) n (0 : Int32) τ := by
  obtain ⟨f, hf, hw⟩ := lp_val (Pt := St → Prop) (fun K n r f => lpX10_copy_104 (nI s) (nI i) (nI to) (nI j) (nI k) K n r (st_R τ 18 f)) (fun K f => K (st_R τ 18 f))
    (fun r f => f = fb_put (τ.2.1 18) (fun t => τ.2.1 17 (10 * s + i + t)) 0 r) k
    (fun K acc n _ hp2 => by
      rw [lpX10_copy_104]
      exact ⟨fun _ => hp2, fun h => absurd (nI_le (a := k) (b := k) (by omega) (by omega)) h⟩)
    (fun r f hr hI => by
      refine ⟨_, rfl, fun K n h => ?_⟩
      rw [lpX10_copy_104]
      refine ⟨fun h2 => absurd h2 (nI_ge (a := r) (b := k) hr (by omega)), fun _ => ?_⟩
      simp only [forall_eq, add3, st_AR, nI_1, st_R2, nI_clamp (show 10 * s + i + r < 2 ^ 31 by omega), nI_clamp (show r < 2 ^ 31 by omega)]
      refine ⟨vp_in_nI (by omega) (by omega), in10 (by omega), ?_⟩
      rw [hI]
      show lpX10_copy_104 _ _ _ _ _ _ _ _ (st_R τ 18 (upd _ _ (τ.2.1 17 (10 * s + i + r))))
      have e := fb_put_succ (τ.2.1 18) (fun t => τ.2.1 17 (10 * s + i + t)) 0 r
      rw [Nat.zero_add] at e
      rw [e]
      exact h)
    k 0 (τ.2.1 18) (by omega) (fb_put_0 _ _ _).symm
  obtain ⟨g, hg, hv⟩ := lp_val (Pt := Int32 → St → Prop) (fun post n r g => lpX10_copy_141 (nI to) (nI j) (nI k) post n r (st_R (st_R τ 18 f) 17 g)) (fun post g => post 1 (st_R (st_R τ 18 f) 17 g))
    (fun r g => g = fb_put (τ.2.1 17) (fun t => f t) (10 * to + j) r) k
    (fun post acc n _ hp2 => by
      rw [lpX10_copy_141]
      exact ⟨fun _ => hp2, fun h => absurd (nI_le (a := k) (b := k) (by omega) (by omega)) h⟩)
    (fun r g hr hI => by
      refine ⟨_, rfl, fun post n h => ?_⟩
      rw [lpX10_copy_141]
      refine ⟨fun h2 => absurd h2 (nI_ge (a := r) (b := k) hr (by omega)), fun _ => ?_⟩
      simp only [forall_eq, add3, st_AR, nI_1, st_R2, nI_clamp (show 10 * to + j + r < 2 ^ 31 by omega), nI_clamp (show r < 2 ^ 31 by omega)]
      refine ⟨in10 (by omega), vp_in_nI (by omega) (by omega), ?_⟩
      rw [hI]
      show lpX10_copy_141 _ _ _ _ _ _ (st_R (st_R τ 18 f) 17 (upd _ _ (f r)))
      have e := fb_put_succ (τ.2.1 17) (fun t => f t) (10 * to + j) r
      rw [e]
      exact h)
    k 0 (τ.2.1 17) (by omega) (fb_put_0 _ _ _).symm
  have h1 := hv post (by rw [hg, hf]; exact h)
  have e1 : st_R (st_R τ 18 f) 17 (τ.2.1 17) = st_R τ 18 f := st_Rself (st_R τ 18 f) 17
  rw [e1] at h1
  have h2 := hw (fun (σ13 : St) => ∃ n16 : Nat, lpX10_copy_141 (nI to) (nI j) (nI k) post n16 (0 : Int32) σ13) ⟨_, h1⟩
  rw [st_Rself] at h2
  exact ⟨_, h2⟩
theorem R_copy {σ τ : St} {n u d sp se gr s i to j k z y : Nat} (hR : R_all σ τ n u d sp se gr) (hs : s < 4) (hto : to < 4) (x1 : σ.2.1 19 s = nI z) (y1 : σ.2.1 19 to = nI y) (hz : z ≤ 10) (hy : y ≤ 10) (c1 : i + k ≤ z) (c2 : j + k ≤ y) :
    R_all (st_R σ 20 (va_cpy (σ.2.1 20) (σ.2.1 20) (s * 10 + i) (to * 10 + j) k)) (st_R (st_R τ 18 (fb_put (τ.2.1 18) (fun t => τ.2.1 17 (10 * s + i + t)) 0 k)) 17 (fb_put (τ.2.1 17) (fun t => fb_put (τ.2.1 18) (fun t => τ.2.1 17 (10 * s + i + t)) 0 k t) (10 * to + j) k)) n u d sp se gr := by
  obtain ⟨hsc, har, hpe, hus, hst, hro, hpl, hsh, hba⟩ := hR
  have hv : ∀ i, i < z → σ.2.1 20 (s * 10 + i) = τ.2.1 17 (10 * s + i) ∧ sm (σ.2.1 20 (s * 10 + i)) := by
    rcases hsh s hs with ⟨e1, _⟩ | ⟨z', hz', e1, _, h⟩
    · exfalso
      rw [x1] at e1
      have h3 := congrArg Int32.toInt e1
      rw [nI_toInt (by omega)] at h3
      have h4 : (-1 : Int32).toInt = -1 := rfl
      omega
    · rw [x1] at e1
      rw [(nI_eq (by omega) (by omega)).mp e1]
      exact h
  refine ⟨hsc, har, hpe, hus, hst, hro, hpl, fun q hq => ?_, hba⟩
  show (σ.2.1 19 q = -1 ∧ τ.2.1 16 q = -9) ∨ ∃ w, w ≤ 10 ∧ σ.2.1 19 q = nI w ∧ τ.2.1 16 q = nI w ∧ ∀ r, r < w → va_cpy (σ.2.1 20) (σ.2.1 20) (s * 10 + i) (to * 10 + j) k (q * 10 + r) = fb_put (τ.2.1 17) (fun t => fb_put (τ.2.1 18) (fun t => τ.2.1 17 (10 * s + i + t)) 0 k t) (10 * to + j) k (10 * q + r) ∧ sm (va_cpy (σ.2.1 20) (σ.2.1 20) (s * 10 + i) (to * 10 + j) k (q * 10 + r))
  rcases hsh q hq with h | ⟨w, hw9, e1, e2, h⟩
  · exact Or.inl h
  · refine Or.inr ⟨w, hw9, e1, e2, fun r hr => ?_⟩
    by_cases c9 : q = to ∧ j ≤ r ∧ r < j + k
    · obtain ⟨rfl, c3, c4⟩ := c9
      rw [pk_cpy_in (by omega) (by omega), fb_put_in (by omega) (by omega), fb_put_in (by omega) (by omega)]
      rw [show s * 10 + i + (q * 10 + r - (q * 10 + j)) = s * 10 + (i + (r - j)) by omega, show 10 * s + i + (10 * q + r - (10 * q + j) - 0) = 10 * s + (i + (r - j)) by omega]
      exact hv (i + (r - j)) (by omega)
    · rw [pk_cpy_out (by omega), fb_put_out (by omega)]
      exact h r hr
theorem pr_copy {σ τ : St} (hR : R_ok σ τ) (a b c e f : Int32) : Pair (wX9_copy σ a b c e f) (wX10_copy τ a b c e f) := by
  obtain ⟨n, u, d, sp, se, gr, ha9⟩ := id hR
  obtain ⟨hsc, har, hpe, hus, hst, hro, hpl, hsh, hba⟩ := id ha9
  rcases rg_cases a (n := 4) (by omega) with ⟨s, hs, rfl⟩ | ha
  case inr =>
    refine pair_bad (-1) hR (fun post hp => ?_) (fun post hp => ?_)
    · exact q_noSheet_bad ha ⟨fun _ => hp, fun h => absurd h n10⟩
    · exact q_isSheet_bad ha ⟨fun _ => hp, fun h => absurd rfl h⟩
  rcases rg_cases c (n := 4) (by omega) with ⟨to, hto, rfl⟩ | ha
  case inr =>
    refine pair_bad (-1) hR (fun post hp => ?_) (fun post hp => ?_)
    · exact q_noSheet_ok hs ⟨fun h => absurd rfl h, fun _ => q_noSheet_bad ha ⟨fun h => absurd h n10, fun _ => hp⟩⟩
    · exact q_isSheet_ok hs ⟨fun h => absurd h n10, fun _ => q_isSheet_bad ha ⟨fun h => absurd rfl h, fun _ => hp⟩⟩
  have cs : (nI s).toNatClampNeg = s := nI_clamp (by omega)
  have ct : (nI to).toNatClampNeg = to := nI_clamp (by omega)
  by_cases hf : f < 0
  · have hf' : ¬ 0 ≤ f := Int32.not_le.mpr hf
    refine pair_find 4 (by omega) ha9 (fun post hp => ?_) (fun post hp => ?_)
    · exact q_noSheet_ok hs ⟨fun h => absurd rfl h, fun _ => q_noSheet_ok hto ⟨fun _ => ⟨fun h => absurd h hf', fun _ => hp⟩, fun h => absurd rfl h⟩⟩
    · exact q_isSheet_ok hs ⟨fun h => absurd h n10, fun _ => q_isSheet_ok hto ⟨fun _ => ⟨fun h => absurd h hf', fun _ => hp⟩, fun h => absurd h n10⟩⟩
  obtain ⟨k, hk, rfl⟩ := nI_of hf
  have f0 : (0 : Int32) ≤ nI k := le0 hk
  rcases hsh s hs with ⟨x1, x2⟩ | ⟨z, hz, x1, x2, hv⟩
  · refine pair_find 1 (by omega) ha9 (fun post hp => ?_) (fun post hp => ?_)
    · exact q_noSheet_ok hs ⟨fun h => absurd rfl h, fun _ => q_noSheet_ok hto ⟨fun _ => ⟨fun _ => q_missing hs x1 ⟨fun _ => hp, fun h => absurd h n10⟩, fun h => absurd f0 h⟩, fun h => absurd rfl h⟩⟩
    · refine q_isSheet_ok hs ⟨fun h => absurd h n10, fun _ => q_isSheet_ok hto ⟨fun _ => ⟨fun _ => ⟨in4 hs, ?_⟩, fun h => absurd f0 h⟩, fun h => absurd h n10⟩⟩
      rw [cs, x2]
      exact ⟨fun _ => hp, fun h => absurd m9' h⟩
  have z0 : ¬ nI z < 0 := nI_pos (by omega)
  rcases hsh to hto with ⟨y1, y2⟩ | ⟨y, hy, y1, y2, hw⟩
  · refine pair_find 1 (by omega) ha9 (fun post hp => ?_) (fun post hp => ?_)
    · exact q_noSheet_ok hs ⟨fun h => absurd rfl h, fun _ => q_noSheet_ok hto ⟨fun _ => ⟨fun _ => q_there hs hz x1 ⟨fun h => absurd rfl h, fun _ => q_missing hto y1 ⟨fun h => absurd h n10, fun _ => hp⟩⟩, fun h => absurd f0 h⟩, fun h => absurd rfl h⟩⟩
    · refine q_isSheet_ok hs ⟨fun h => absurd h n10, fun _ => q_isSheet_ok hto ⟨fun _ => ⟨fun _ => ⟨in4 hs, ?_⟩, fun h => absurd f0 h⟩, fun h => absurd h n10⟩⟩
      rw [cs, x2, ct, y2]
      exact ⟨fun h => absurd h z0, fun _ => ⟨in4 hto, fun h => absurd h m9, fun _ => hp⟩⟩
  have y0 : (0 : Int32) ≤ nI y := le0
  by_cases hb : b < 0
  · refine pair_find 2 (by omega) ha9 (fun post hp => ?_) (fun post hp => ?_)
    · exact q_noSheet_ok hs ⟨fun h => absurd rfl h, fun _ => q_noSheet_ok hto ⟨fun _ => ⟨fun _ => q_there hs hz x1 ⟨fun h => absurd rfl h, fun _ => q_there hto hy y1 ⟨fun _ => q_spans_neg hb ⟨fun _ => hp, fun h => absurd rfl h⟩, fun h => absurd rfl h⟩⟩, fun h => absurd f0 h⟩, fun h => absurd rfl h⟩⟩
    · refine q_isSheet_ok hs ⟨fun h => absurd h n10, fun _ => q_isSheet_ok hto ⟨fun _ => ⟨fun _ => ⟨in4 hs, ?_⟩, fun h => absurd f0 h⟩, fun h => absurd h n10⟩⟩
      rw [cs, x2, ct, y2]
      exact ⟨fun h => absurd h z0, fun _ => ⟨in4 hto, fun _ => ⟨fun _ => hp, fun h => absurd hb h⟩, fun h => absurd y0 h⟩⟩
  obtain ⟨i, hi, rfl⟩ := nI_of hb
  by_cases he : e < 0
  · refine pair_find 2 (by omega) ha9 (fun post hp => ?_) (fun post hp => ?_)
    · refine q_noSheet_ok hs ⟨fun h => absurd rfl h, fun _ => q_noSheet_ok hto ⟨fun _ => ⟨fun _ => q_there hs hz x1 ⟨fun h => absurd rfl h, fun _ => q_there hto hy y1 ⟨fun _ => ?_, fun h => absurd rfl h⟩⟩, fun h => absurd f0 h⟩, fun h => absurd rfl h⟩⟩
      by_cases c1 : i + k ≤ z
      · exact q_spans_ok hs x1 hz c1 ⟨fun h => absurd h n10, fun _ => q_spans_neg he ⟨fun h => absurd rfl h, fun _ => hp⟩⟩
      · exact q_spans_bad hs x1 hz hi hk c1 ⟨fun _ => hp, fun h => absurd rfl h⟩
    · refine q_isSheet_ok hs ⟨fun h => absurd h n10, fun _ => q_isSheet_ok hto ⟨fun _ => ⟨fun _ => ⟨in4 hs, ?_⟩, fun h => absurd f0 h⟩, fun h => absurd h n10⟩⟩
      rw [cs, x2, ct, y2]
      exact ⟨fun h => absurd h z0, fun _ => ⟨in4 hto, fun _ => ⟨fun h => absurd h hb, fun _ => ⟨fun _ => hp, fun h => absurd he h⟩⟩, fun h => absurd y0 h⟩⟩
  obtain ⟨j, hj, rfl⟩ := nI_of he
  by_cases c1 : i + k ≤ z
  case neg =>
    refine pair_find 2 (by omega) ha9 (fun post hp => ?_) (fun post hp => ?_)
    · exact q_noSheet_ok hs ⟨fun h => absurd rfl h, fun _ => q_noSheet_ok hto ⟨fun _ => ⟨fun _ => q_there hs hz x1 ⟨fun h => absurd rfl h, fun _ => q_there hto hy y1 ⟨fun _ => q_spans_bad hs x1 hz hi hk c1 ⟨fun _ => hp, fun h => absurd rfl h⟩, fun h => absurd rfl h⟩⟩, fun h => absurd f0 h⟩, fun h => absurd rfl h⟩⟩
    · refine q_isSheet_ok hs ⟨fun h => absurd h n10, fun _ => q_isSheet_ok hto ⟨fun _ => ⟨fun _ => ⟨in4 hs, ?_⟩, fun h => absurd f0 h⟩, fun h => absurd h n10⟩⟩
      rw [cs, x2, ct, y2]
      exact ⟨fun h => absurd h z0, fun _ => ⟨in4 hto, fun _ => ⟨fun h => absurd h hb, fun _ => ⟨fun h => absurd h he, fun _ => ⟨in4 hs, fun _ => hp, fun h => absurd ((cmp_gt _ _).mpr ((long_lt hi hk hz).mpr c1)) h⟩⟩⟩, fun h => absurd y0 h⟩⟩
  have g1 : ¬ 0 < lg_cmp ((nI i).toInt64 + (nI k).toInt64) (nI z).toInt64 := fun h => ((long_lt hi hk hz).mp ((cmp_gt _ _).mp h)) c1
  by_cases c2 : j + k ≤ y
  case neg =>
    refine pair_find 2 (by omega) ha9 (fun post hp => ?_) (fun post hp => ?_)
    · exact q_noSheet_ok hs ⟨fun h => absurd rfl h, fun _ => q_noSheet_ok hto ⟨fun _ => ⟨fun _ => q_there hs hz x1 ⟨fun h => absurd rfl h, fun _ => q_there hto hy y1 ⟨fun _ => q_spans_ok hs x1 hz c1 ⟨fun h => absurd h n10, fun _ => q_spans_bad hto y1 hy hj hk c2 ⟨fun h => absurd rfl h, fun _ => hp⟩⟩, fun h => absurd rfl h⟩⟩, fun h => absurd f0 h⟩, fun h => absurd rfl h⟩⟩
    · refine q_isSheet_ok hs ⟨fun h => absurd h n10, fun _ => q_isSheet_ok hto ⟨fun _ => ⟨fun _ => ⟨in4 hs, ?_⟩, fun h => absurd f0 h⟩, fun h => absurd h n10⟩⟩
      rw [cs, x2, ct, y2]
      exact ⟨fun h => absurd h z0, fun _ => ⟨in4 hto, fun _ => ⟨fun h => absurd h hb, fun _ => ⟨fun h => absurd h he, fun _ => ⟨in4 hs, fun h => absurd h g1, fun _ => ⟨in4 hto, fun h => absurd ((long_lt hj hk hy).mpr c2) ((cmp_le _ _).mp h), fun _ => hp⟩⟩⟩⟩, fun h => absurd y0 h⟩⟩
  have g2 : lg_cmp ((nI j).toInt64 + (nI k).toInt64) (nI y).toInt64 ≤ 0 := (cmp_le _ _).mpr (fun h => ((long_lt hj hk hy).mp h) c2)
  have q1 : (nI (s * 10 + i)).toNatClampNeg = s * 10 + i := nI_clamp (by omega)
  have q2 : (nI (to * 10 + j)).toNatClampNeg = to * 10 + j := nI_clamp (by omega)
  have q3 : (nI k).toNatClampNeg = k := nI_clamp hk
  refine ⟨1, st_R σ 20 (va_cpy (σ.2.1 20) (σ.2.1 20) (s * 10 + i) (to * 10 + j) k), st_R (st_R τ 18 (fb_put (τ.2.1 18) (fun t => τ.2.1 17 (10 * s + i + t)) 0 k)) 17 (fb_put (τ.2.1 17) (fun t => fb_put (τ.2.1 18) (fun t => τ.2.1 17 (10 * s + i + t)) 0 k t) (10 * to + j) k), fun post hp => ?_, fun post hp => ?_, ⟨n, u, d, sp, se, gr, R_copy ha9 hs hto x1 y1 hz hy c1 c2⟩⟩
  · refine q_noSheet_ok hs ⟨fun h => absurd rfl h, fun _ => q_noSheet_ok hto ⟨fun _ => ⟨fun _ => q_there hs hz x1 ⟨fun h => absurd rfl h, fun _ => q_there hto hy y1 ⟨fun _ => q_spans_ok hs x1 hz c1 ⟨fun h => absurd h n10, fun _ => q_spans_ok hto y1 hy c2 ⟨fun _ => ?_, fun h => absurd h n10⟩⟩, fun h => absurd rfl h⟩⟩, fun h => absurd f0 h⟩, fun h => absurd rfl h⟩⟩
    unfold wX7_move
    simp only [forall_eq, mulr10, q1, q2, q3]
    exact ⟨nI_pos (by omega), nI_pos (by omega), nI_pos hk, by omega, by omega, hp⟩
  · refine q_isSheet_ok hs ⟨fun h => absurd h n10, fun _ => q_isSheet_ok hto ⟨fun _ => ⟨fun _ => ⟨in4 hs, ?_⟩, fun h => absurd f0 h⟩, fun h => absurd h n10⟩⟩
    rw [cs, x2, ct, y2]
    exact ⟨fun h => absurd h z0, fun _ => ⟨in4 hto, fun _ => ⟨fun h => absurd h hb, fun _ => ⟨fun h => absurd h he, fun _ => ⟨in4 hs, fun h => absurd h g1, fun _ => ⟨in4 hto, fun _ => q_mcopy hs hto (by omega) (by omega) hp, fun h => absurd g2 h⟩⟩⟩⟩, fun h => absurd y0 h⟩⟩
