/-! ===== pure: save, load, copy ===== -/
theorem q_write {σ : St} {s z n : Nat} {post : Int32 → St → Prop} (hs : s < 4) (hz : z ≤ 10) (hn : n ≤ 10) (e19 : σ.2.1 19 s = nI z) (h : post (nI (min n z)) (st_R σ 20 (fb_put (σ.2.1 20) (σ.2.1 3) (s * 10) (min n z)))) : wX7_write σ (nI s) (nI n) post := by
  have hm : min n z ≤ 10 := by omega
  obtain ⟨f, hf, hw⟩ := lp_val (Pt := Int32 → St → Prop) (fun post k i f => lpX7_write_15 (nI s) (nI (min n z)) post k i (st_R σ 20 f)) (fun post f => post (nI (min n z)) (st_R σ 20 f))
    (fun i f => f = fb_put (σ.2.1 20) (σ.2.1 3) (s * 10) i) (min n z)
    (fun post acc k _ hp2 => by
      rw [lpX7_write_15]
      exact ⟨fun _ => hp2, fun h => absurd (nI_le (a := min n z) (b := min n z) (by omega) (by omega)) h⟩)
    (fun i f hi hI => by
      refine ⟨_, rfl, fun post k h => ?_⟩
      rw [lpX7_write_15]
      refine ⟨fun h2 => absurd h2 (nI_ge (a := i) (b := min n z) hi (by omega)), fun _ => ?_⟩
      simp only [forall_eq, mulr10, st_AR, nI_1, st_R2, nI_clamp (show s * 10 + i < 2 ^ 31 by omega), nI_clamp (show i < 2 ^ 31 by omega)]
      refine ⟨in10 (by omega), vp_in_nI (by omega) (by omega), ?_⟩
      rw [hI]
      show lpX7_write_15 _ _ _ _ _ (st_R σ 20 (upd _ _ (σ.2.1 3 i)))
      rw [fb_put_succ (σ.2.1 20) (σ.2.1 3) (s * 10) i]
      exact h)
    (min n z) 0 (σ.2.1 20) (by omega) (fb_put_0 _ _ _).symm
  unfold wX7_write
  have ev : (if nI n < nI z then nI n else nI z) = nI (min n z) := by
    by_cases c : n < z
    · rw [if_pos (nI_lt c (by omega)), Nat.min_eq_left (by omega)]
    · rw [if_neg (nI_nlt (by omega) (by omega)), Nat.min_eq_right (by omega)]
  simp only [forall_eq, nI_clamp (show s < 2 ^ 31 by omega), e19, ev]
  refine ⟨in4 hs, min n z + 1, ?_⟩
  have := hw post (by rw [hf]; exact h)
  rw [st_Rself] at this
  exact this
theorem q_msave {τ : St} {s m : Nat} {post : Int32 → St → Prop} (hs : s < 4) (hm : m ≤ 10) (h : post (nI m) (st_R τ 17 (fb_put (τ.2.1 17) (τ.2.1 2) (10 * s) m))) : ∃ n : Nat, lpX10_save_53 (nI s) (nI m) post n (0 : Int32) τ := by
  obtain ⟨f, hf, hw⟩ := lp_val (Pt := Int32 → St → Prop) (fun post k i f => lpX10_save_53 (nI s) (nI m) post k i (st_R τ 17 f)) (fun post f => post (nI m) (st_R τ 17 f))
    (fun i f => f = fb_put (τ.2.1 17) (τ.2.1 2) (10 * s) i) m
    (fun post acc k _ hp2 => by
      rw [lpX10_save_53]
      exact ⟨fun _ => hp2, fun h => absurd (nI_le (a := m) (b := m) (by omega) (by omega)) h⟩)
    (fun i f hi hI => by
      refine ⟨_, rfl, fun post k h => ?_⟩
      rw [lpX10_save_53]
      refine ⟨fun h2 => absurd h2 (nI_ge (a := i) (b := m) hi (by omega)), fun _ => ?_⟩
      simp only [forall_eq, mul10, st_AR, nI_1, st_R2, nI_clamp (show 10 * s + i < 2 ^ 31 by omega), nI_clamp (show i < 2 ^ 31 by omega)]
      refine ⟨in10 (by omega), vp_in_nI (by omega) (by omega), ?_⟩
      rw [hI]
      show lpX10_save_53 _ _ _ _ _ (st_R τ 17 (upd _ _ (τ.2.1 2 i)))
      rw [fb_put_succ (τ.2.1 17) (τ.2.1 2) (10 * s) i]
      exact h)
    m 0 (τ.2.1 17) (by omega) (fb_put_0 _ _ _).symm
  have := hw post (by rw [hf]; exact h)
  rw [st_Rself] at this
  exact ⟨_, this⟩
theorem R_save {σ τ : St} {n u d sp se gr s m : Nat} (hR : R_all σ τ n u d sp se gr) (hm : m ≤ 10) (hs : s < 4) :
    R_all (st_R σ 20 (fb_put (σ.2.1 20) (σ.2.1 3) (s * 10) m)) (st_R τ 17 (fb_put (τ.2.1 17) (τ.2.1 2) (10 * s) m)) n u d sp se gr := by
  obtain ⟨hsc, har, hpe, hus, hst, hro, hpl, hsh, hba⟩ := hR
  refine ⟨hsc, har, hpe, hus, hst, hro, hpl, fun q hq => ?_, hba⟩
  show (σ.2.1 19 q = -1 ∧ τ.2.1 16 q = -9) ∨ ∃ y, y ≤ 10 ∧ σ.2.1 19 q = nI y ∧ τ.2.1 16 q = nI y ∧ ∀ i, i < y → fb_put (σ.2.1 20) (σ.2.1 3) (s * 10) m (q * 10 + i) = fb_put (τ.2.1 17) (τ.2.1 2) (10 * s) m (10 * q + i) ∧ sm (fb_put (σ.2.1 20) (σ.2.1 3) (s * 10) m (q * 10 + i))
  rcases hsh q hq with h | ⟨y, hy, e1, e2, h⟩
  · exact Or.inl h
  · refine Or.inr ⟨y, hy, e1, e2, fun i hi => ?_⟩
    by_cases c : q = s ∧ i < m
    · obtain ⟨rfl, c⟩ := c
      rw [fb_put_in (by omega) (by omega), fb_put_in (by omega) (by omega), har.2.2.2.1]
      rw [show q * 10 + i - q * 10 = i by omega, show 10 * q + i - 10 * q = i by omega]
      exact ⟨rfl, (hpe.1 i).2.1⟩
    · rw [fb_put_out (by omega), fb_put_out (by omega)]
      exact h i hi
theorem pr_save {σ τ : St} (hR : R_ok σ τ) (a : Int32) : Pair (wX9_save σ a) (wX10_save τ a) := by
  obtain ⟨n, u, d, sp, se, gr, ha9⟩ := id hR
  obtain ⟨⟨⟨h6, m1, hn⟩, hsc⟩, har, hpe, hus, hst, hro, hpl, hsh, hba⟩ := id ha9
  rcases rg_cases a (n := 4) (by omega) with ⟨s, hs, rfl⟩ | ha
  case inr =>
    refine pair_bad (-1) hR (fun post hp => ?_) (fun post hp => ?_)
    · exact q_noSheet_bad ha ⟨fun h => absurd h n10, fun _ => hp⟩
    · exact q_isSheet_bad ha ⟨fun h => absurd rfl h, fun _ => hp⟩
  have cs : (nI s).toNatClampNeg = s := nI_clamp (by omega)
  rcases hsh s hs with ⟨x1, x2⟩ | ⟨z, hz, x1, x2, hv⟩
  · refine pair_find 1 (by omega) ha9 (fun post hp => ?_) (fun post hp => ?_)
    · exact q_noSheet_ok hs ⟨fun _ => q_missing hs x1 ⟨fun h => absurd h n10, fun _ => hp⟩, fun h => absurd rfl h⟩
    · refine q_isSheet_ok hs ⟨fun _ => ⟨in4 hs, ?_⟩, fun h => absurd h n10⟩
      rw [cs, x2]
      exact ⟨fun h => absurd h m9, fun _ => hp⟩
  · have hm : min n z ≤ 10 := by omega
    refine ⟨nI (min n z), st_R σ 20 (fb_put (σ.2.1 20) (σ.2.1 3) (s * 10) (min n z)), st_R τ 17 (fb_put (τ.2.1 17) (τ.2.1 2) (10 * s) (min n z)), fun post hp => ?_, fun post hp => ?_, ⟨n, u, d, sp, se, gr, R_save ha9 hm hs⟩⟩
    · refine q_noSheet_ok hs ⟨fun _ => q_there hs hz x1 ⟨fun _ => ?_, fun h => absurd rfl h⟩, fun h => absurd rfl h⟩
      rw [h6]
      exact q_write hs hz hn x1 hp
    · refine q_isSheet_ok hs ⟨fun _ => ⟨in4 hs, ?_⟩, fun h => absurd h n10⟩
      simp only [forall_eq, cs, x2, m1]
      refine ⟨fun _ => ⟨in4 hs, fun c => ⟨in4 hs, ?_⟩, fun c => ?_⟩, fun h => absurd le0 h⟩
      · have c' : z ≤ n := (nI_leI (by omega) (by omega)).mp c
        rw [show min n z = z by omega] at hp
        exact q_msave hs hz hp
      · have c' : ¬ z ≤ n := fun h => c (nI_le h (by omega))
        rw [show min n z = n by omega] at hp
        exact q_msave hs hn hp
theorem pr_load {σ τ : St} (hR : R_ok σ τ) (a b c : Int32) : Pair (wX9_load σ a b c) (wX10_load τ a b c) := by
  obtain ⟨n, u, d, sp, se, gr, ha9⟩ := id hR
  obtain ⟨⟨⟨h6, m1, hn⟩, hsc⟩, har, hpe, hus, hst, hro, hpl, hsh, hba⟩ := id ha9
  rcases rg_cases a (n := 4) (by omega) with ⟨s, hs, rfl⟩ | ha
  case inr =>
    refine pair_bad (-1) hR (fun post hp => ?_) (fun post hp => ?_)
    · exact q_noSheet_bad ha ⟨fun _ => hp, fun h => absurd h n10⟩
    · exact q_isSheet_bad ha ⟨fun _ => hp, fun h => absurd rfl h⟩
  have cs : (nI s).toNatClampNeg = s := nI_clamp (by omega)
  rcases rg_cases c (n := n) (by omega) with ⟨p, hp, rfl⟩ | ha
  case inr =>
    refine pair_bad (-1) hR (fun post hp => ?_) (fun post hp => ?_)
    · exact q_noSheet_ok hs ⟨fun h => absurd rfl h, fun _ => q_noPerson_bad h6 ha ⟨fun h => absurd h n10, fun _ => hp⟩⟩
    · exact q_isSheet_ok hs ⟨fun h => absurd h n10, fun _ => q_isPerson_bad m1 hn ha ⟨fun h => absurd rfl h, fun _ => hp⟩⟩
  have hp10 : p < 10 := by omega
  rcases hsh s hs with ⟨x1, x2⟩ | ⟨z, hz, x1, x2, hv⟩
  · refine pair_find 1 (by omega) ha9 (fun post hpo => ?_) (fun post hpo => ?_)
    · exact q_noSheet_ok hs ⟨fun h => absurd rfl h, fun _ => q_noPerson_ok h6 hn hp ⟨fun _ => q_missing hs x1 ⟨fun h => absurd h n10, fun _ => hpo⟩, fun h => absurd rfl h⟩⟩
    · refine q_isSheet_ok hs ⟨fun h => absurd h n10, fun _ => q_isPerson_ok m1 hn hp ⟨fun _ => ⟨in4 hs, ?_⟩, fun h => absurd h n10⟩⟩
      rw [cs, x2]
      exact ⟨fun h => absurd h m9, fun _ => hpo⟩
  rcases rg_cases b (n := z) (by omega) with ⟨i, hi, rfl⟩ | hb
  · have cq : (nI (s * 10 + i)).toNatClampNeg = s * 10 + i := nI_clamp (by omega)
    have cq2 : (nI (10 * s + i)).toNatClampNeg = 10 * s + i := nI_clamp (by omega)
    obtain ⟨f, hf, hg, hw⟩ := q_mgive (τ := τ) (set := σ.2.1 20 (s * 10 + i)) hp10
    refine ⟨1, _, _, fun post hpo => ?_, fun post hpo => ?_, ⟨n, u, d, sp, se, gr, R_give ha9 hp (hv i hi).2 hf hg⟩⟩
    · refine q_noSheet_ok hs ⟨fun h => absurd rfl h, fun _ => q_noPerson_ok h6 hn hp ⟨fun _ => q_there hs hz x1 ⟨fun _ => ⟨fun h => absurd h (nI_pos (by omega)), fun _ => ⟨in4 hs, ?_⟩⟩, fun h => absurd rfl h⟩, fun h => absurd rfl h⟩⟩
      rw [cs, x1]
      refine ⟨fun _ => ?_, fun h => absurd (nI_lt hi (by omega)) h⟩
      unfold wX7_at
      rw [mulr10, cq]
      exact ⟨vp_in_nI (by omega) (by omega), q_xgive hp10 hpo⟩
    · refine q_isSheet_ok hs ⟨fun h => absurd h n10, fun _ => q_isPerson_ok m1 hn hp ⟨fun _ => ⟨in4 hs, ?_⟩, fun h => absurd h n10⟩⟩
      rw [cs, x2]
      obtain ⟨z', rfl⟩ : ∃ z', z = z' + 1 := ⟨z - 1, by omega⟩
      refine ⟨fun _ => ⟨in4 hs, ?_⟩, fun h => absurd le0 h⟩
      rw [nI_pred, mul10, cq2, ← (hv i hi).1]
      exact q_in_ok le0 (nI_le (by omega) (by omega)) ⟨fun _ => ⟨vp_in_nI (by omega) (by omega), hw _ hpo⟩, fun h => absurd h n10⟩
  · refine pair_find 2 (by omega) ha9 (fun post hpo => ?_) (fun post hpo => ?_)
    · refine q_noSheet_ok hs ⟨fun h => absurd rfl h, fun _ => q_noPerson_ok h6 hn hp ⟨fun _ => q_there hs hz x1 ⟨fun _ => ⟨fun _ => hpo, fun h => ⟨in4 hs, ?_⟩⟩, fun h => absurd rfl h⟩, fun h => absurd rfl h⟩⟩
      rw [cs, x1]
      exact ⟨fun h2 => (hb.elim (fun z => absurd z h) (fun z => absurd h2 (Int32.not_lt.mpr z))), fun _ => hpo⟩
    · refine q_isSheet_ok hs ⟨fun h => absurd h n10, fun _ => q_isPerson_ok m1 hn hp ⟨fun _ => ⟨in4 hs, ?_⟩, fun h => absurd h n10⟩⟩
      rw [cs, x2]
      refine ⟨fun _ => ⟨in4 hs, q_in_bad (hb.imp id (fun h => ?_)) ⟨fun h => absurd rfl h, fun _ => hpo⟩⟩, fun h => absurd le0 h⟩
      rw [fa_le, nI_toInt (by omega)] at h
      have : (nI z - 1).toInt = (z : Int) - 1 := pk_sub_toInt (b := 1) (by omega) (by omega)
      rw [fa_lt, this]
      omega
