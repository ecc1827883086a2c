/-! ===== what is common to the two sides when their rights have parted ===== -/
def Wk (σ τ : St) : Prop := σ.1 0 = τ.1 2 ∧ σ.1 2 = τ.1 6 ∧ σ.1 6 = τ.1 1 ∧ σ.2.1 17 = τ.2.1 14 ∧ ∀ s, s < 4 → (σ.2.1 19 s = -1 ∧ τ.2.1 16 s = -9) ∨ ∃ z, z ≤ 10 ∧ σ.2.1 19 s = nI z ∧ τ.2.1 16 s = nI z
/-- each side is sound by itself (tied to some state of the other), and they agree on people, day, standby rights, bans and the sheets' sizes -/
def WW (σ τ : St) : Prop := (∃ τ0 : St, R_ok σ τ0) ∧ (∃ σ0 : St, R_ok σ0 τ) ∧ Wk σ τ
theorem FX_rf {σ : St} : FX σ σ := ⟨rfl, rfl, rfl, rfl, rfl⟩
theorem FM_rf {σ : St} : FM σ σ := ⟨rfl, rfl, rfl, rfl, rfl⟩
theorem Wk_mv {σ τ σ' τ' : St} (h : Wk σ τ) (f : FX σ σ') (g : FM τ τ') : Wk σ' τ' := by
  obtain ⟨f1, f2, f3, f4, f5⟩ := f
  obtain ⟨g1, g2, g3, g4, g5⟩ := g
  unfold Wk at *
  rw [f1, f2, f3, f4, f5, g1, g2, g3, g4, g5]
  exact h
def PW (wx wm : (Int32 → St → Prop) → Prop) : Prop := ∃ (r : Int32) (σ τ : St), (∀ post, post r σ → wx post) ∧ (∀ post, post r τ → wm post) ∧ WW σ τ
def PD (wx wm : (Int32 → St → Prop) → Prop) : Prop := ∃ (r r' : Int32) (σ τ : St), (∀ post, post r σ → wx post) ∧ (∀ post, post r' τ → wm post) ∧ WW σ τ
def PXD {α : Type} (wx : (α → St → Prop) → Prop) (wm : (α → Prop) → Prop) (τ : St) : Prop := ∃ (r r' : α) (σ : St), (∀ post, post r σ → wx post) ∧ (∀ post, post r' → wm post) ∧ WW σ τ
def PRD (wx wm : (Int32 → Prop) → Prop) : Prop := ∃ r r' : Int32, (∀ post, post r → wx post) ∧ ∀ post, post r' → wm post
theorem pw_bad {σ τ : St} {wx wm : (Int32 → St → Prop) → Prop} (r : Int32) (h9 : WW σ τ) (h1 : ∀ post, post r σ → wx post) (h2 : ∀ post, post r τ → wm post) : PW wx wm := ⟨r, σ, τ, h1, h2, h9⟩
theorem pq_find {σ τ : St} {wx wm : (Int32 → St → Prop) → Prop} (f : Nat) (hf : f < 5) (h9 : WW σ τ) (h1 : ∀ post : Int32 → St → Prop, wX4_answer σ (nI f) post → wx post) (h2 : ∀ post : Int32 → St → Prop, wX10_meets τ (nI f) post → wm post) : PW wx wm := by
  obtain ⟨⟨τ0, n, u, d, sp, se, gr, hx⟩, ⟨σ0, n', u', d', sp', se', gr', hm⟩, hk⟩ := h9
  exact ⟨-3, _, _, fun post hp => h1 post (q_answer hf hp), fun post hp => h2 post (q_meets hf hp), ⟨_, ⟨n, u, d, sp, se, gr, R_find f hx⟩⟩, ⟨_, ⟨n', u', d', sp', se', gr', R_find f hm⟩⟩, Wk_mv hk (fx_A (fx_S FX_rf rfl) rfl) (fm_A (fm_S FM_rf rfl) rfl)⟩
theorem R_standby {σ τ : St} {n u d sp se gr : Nat} {v : Int32} (hR : R_all σ τ n u d sp se gr) (hv : sm v) : R_all (st_S σ 0 v) (st_S τ 2 v) n u d sp se gr := by
  obtain ⟨⟨h1, h2, h3, h4, h5, h6, ⟨h7, h8⟩, h9⟩, hr⟩ := hR
  exact ⟨⟨h1, h2, h3, h4, h5, h6, ⟨rfl, hv⟩, h9⟩, hr⟩
theorem R_rule {σ τ : St} {n u d sp se gr i j k : Nat} (hR : R_all σ τ n u d sp se gr) (hi : 1 ≤ i) (hi2 : i ≤ 999) (hj : 1 ≤ j) (hj2 : j ≤ 999) (hk : k ≤ 999) : R_all (st_S (st_S (st_S σ 3 (nI i)) 4 (nI j)) 5 (nI k)) (st_S (st_S (st_S τ 3 (nI i)) 4 (nI j)) 5 (nI k)) n u d i j k := by
  obtain ⟨⟨h1, h2, h3, h4, h5, h6, h7⟩, hr⟩ := hR
  exact ⟨⟨h1, h2, h3, ⟨rfl, rfl, hi, hi2⟩, ⟨rfl, rfl, hj, hj2⟩, ⟨rfl, rfl, hk⟩, h7⟩, hr⟩
/-- what both sides know of the number of people -/
theorem WW_n {σ τ : St} (h9 : WW σ τ) : ∃ n : Nat, n ≤ 10 ∧ σ.1 6 = nI n ∧ τ.1 1 = nI n ∧ (∃ (τ0 : St) (u d sp se gr : Nat), R_all σ τ0 n u d sp se gr) ∧ ∃ (σ0 : St) (u d sp se gr : Nat), R_all σ0 τ n u d sp se gr := by
  obtain ⟨⟨τ0, n, u, d, sp, se, gr, hx⟩, ⟨σ0, n', u', d', sp', se', gr', hm⟩, hk⟩ := h9
  have h6 := hx.1.1.1
  have hn := hx.1.1.2.2
  have m1 : τ.1 1 = nI n := by rw [← hk.2.2.1]; exact h6
  have hn' := hm.1.1.2.2
  have e : n' = n := (nI_eq (by omega) (by omega)).mp (hm.1.1.2.1.symm.trans m1)
  subst e
  exact ⟨n', hn, h6, m1, ⟨τ0, u, d, sp, se, gr, hx⟩, ⟨σ0, u', d', sp', se', gr', hm⟩⟩
theorem Rx_sheet {σ τ : St} {n u d sp se gr s z : Nat} (hR : R_all σ τ n u d sp se gr) (hs : s < 4) (hz : z ≤ 10) (e : σ.2.1 19 s = nI z) : τ.2.1 16 s = nI z ∧ ∀ i, i < z → σ.2.1 20 (s * 10 + i) = τ.2.1 17 (10 * s + i) ∧ sm (σ.2.1 20 (s * 10 + i)) := by
  rcases hR.2.2.2.2.2.2.2.1 s hs with ⟨e1, _⟩ | ⟨z', hz', e1, e2, h⟩
  · exfalso
    rw [e] at e1
    have h3 := congrArg Int32.toInt e1
    rw [nI_toInt (by omega)] at h3
    have h4 : (-1 : Int32).toInt = -1 := rfl
    omega
  · rw [e] at e1
    rw [(nI_eq (by omega) (by omega)).mp e1]
    exact ⟨e2, h⟩
theorem Rm_sheet {σ τ : St} {n u d sp se gr s z : Nat} (hR : R_all σ τ n u d sp se gr) (hs : s < 4) (hz : z ≤ 10) (e : τ.2.1 16 s = nI z) : σ.2.1 19 s = nI z ∧ ∀ i, i < z → σ.2.1 20 (s * 10 + i) = τ.2.1 17 (10 * s + i) ∧ sm (σ.2.1 20 (s * 10 + i)) := by
  rcases hR.2.2.2.2.2.2.2.1 s hs with ⟨_, e1⟩ | ⟨z', hz', e2, e1, h⟩
  · exfalso
    rw [e] at e1
    have h3 := congrArg Int32.toInt e1
    rw [nI_toInt (by omega)] at h3
    have h4 : (-9 : Int32).toInt = -9 := rfl
    omega
  · rw [e] at e1
    rw [(nI_eq (by omega) (by omega)).mp e1]
    exact ⟨e2, h⟩
/-- a sheet's size is set on both sides -/
theorem Wk_size {σ τ σ' τ' : St} {s : Nat} {v w : Int32} (hk : Wk σ τ) (f1 : σ'.1 = σ.1) (f2 : σ'.2.1 17 = σ.2.1 17) (f3 : σ'.2.1 19 = upd (σ.2.1 19) s v) (g1 : τ'.1 = τ.1) (g2 : τ'.2.1 14 = τ.2.1 14) (g3 : τ'.2.1 16 = upd (τ.2.1 16) s w) (hv : (v = -1 ∧ w = -9) ∨ ∃ z, z ≤ 10 ∧ v = nI z ∧ w = nI z) : Wk σ' τ' := by
  obtain ⟨h1, h2, h3, h4, h5⟩ := hk
  unfold Wk
  rw [f1, f2, f3, g1, g2, g3]
  refine ⟨h1, h2, h3, h4, fun q hq => ?_⟩
  by_cases e : q = s
  · subst e
    rw [pk_us, pk_us]
    exact hv
  · rw [pk_un e, pk_un e]
    exact h5 q hq
theorem pq_person {σ τ : St} (h9 : WW σ τ) (a b : Int32) : PW (wX9_person σ a b) (wX10_person τ a b) := by
  obtain ⟨n, hn, h6, m1, ⟨τ0, u, d, sp, se, gr, hx⟩, ⟨σ0, u', d', sp', se', gr', hz⟩⟩ := WW_n h9
  have hw := h9.2.2
  rcases rg_cases a (n := 256) (by omega) with ⟨m, hm, rfl⟩ | ha
  case inr =>
    refine pw_bad (-1) h9 (fun post hp => ?_) (fun post hp => ?_)
    · exact q_noMark_bad ha ⟨fun _ => hp, fun h => absurd h n10⟩
    · exact q_in_bad (ha.imp id (fun h => lt_pre (n := 255) (by omega) h)) ⟨fun _ => hp, fun h => absurd rfl h⟩
  have hinm : (0 : Int32) ≤ nI m := nI_pos' (by omega)
  have hinm2 : nI m ≤ 255 := nI_le (b := 255) (by omega) (by omega)
  rcases rg_cases b (n := 4096) (by omega) with ⟨k, hk, rfl⟩ | ha
  case inr =>
    refine pw_bad (-1) h9 (fun post hp => ?_) (fun post hp => ?_)
    · exact q_noMark_ok hm ⟨fun h => absurd rfl h, fun _ => q_noRS_bad ha ⟨fun h => absurd h n10, fun _ => hp⟩⟩
    · exact q_in_ok hinm hinm2 ⟨fun h => absurd h n10, fun _ => q_in_bad (ha.imp id (fun h => lt_pre (n := 4095) (by omega) h)) ⟨fun h => absurd rfl h, fun _ => hp⟩⟩
  have hink : (0 : Int32) ≤ nI k := nI_pos' (by omega)
  have hink2 : nI k ≤ 4095 := nI_le (b := 4095) (by omega) (by omega)
  by_cases hf : n = 10
  · subst hf
    refine pw_bad (-2) h9 (fun post hp => ?_) (fun post hp => ?_)
    · exact q_noMark_ok hm ⟨fun h => absurd rfl h, fun _ => q_noRS_ok hk ⟨fun _ => ⟨fun h => absurd h (by rw [h6]; decide), fun _ => hp⟩, fun h => absurd rfl h⟩⟩
    · exact q_in_ok hinm hinm2 ⟨fun h => absurd h n10, fun _ => q_in_ok hink hink2 ⟨fun _ => ⟨fun h => absurd m1 h, fun _ => hp⟩, fun h => absurd h n10⟩⟩
  have hlt : n < 10 := by omega
  have e1 : nI n + 1 = nI (n + 1) := nI_1 n
  refine ⟨nI n, st_S (st_A (st_A σ 2 n (nI m)) 3 n (nI k)) 6 (nI (n + 1)), st_S (st_A (st_A τ 1 n (nI m)) 2 n (nI k)) 1 (nI (n + 1)), fun post hp => ?_, fun post hp => ?_, ?_⟩
  · refine q_noMark_ok hm ⟨fun h => absurd rfl h, fun _ => q_noRS_ok hk ⟨fun _ => ⟨fun _ => ?_, fun h => absurd (by rw [h6]; exact nI_lt (b := 10) hlt (by omega)) h⟩, fun h => absurd rfl h⟩⟩
    unfold wX5_join
    simp only [forall_eq, st_A1, st_S1, h6, if_true, e1, nI_pred, nI_clamp (show n < 2 ^ 31 by omega)]
    exact ⟨in10 hlt, in10 hlt, hp⟩
  · refine q_in_ok hinm hinm2 ⟨fun h => absurd h n10, fun _ => q_in_ok hink hink2 ⟨fun _ => ⟨fun _ => ?_, fun h => ?_⟩, fun h => absurd h n10⟩⟩
    · simp only [forall_eq, st_A1, st_S1, m1, if_true, e1, nI_pred, nI_clamp (show n < 2 ^ 31 by omega)]
      exact ⟨in10 hlt, in10 hlt, hp⟩
    · rw [m1] at h
      exact absurd ((nI_eq (b := 10) (by omega) (by omega)).mp h) hf
  · exact ⟨⟨_, n + 1, u, d, sp, se, gr, R_person hx hlt hm hk⟩, ⟨_, n + 1, u', d', sp', se', gr', R_person hz hlt hm hk⟩, hw.1, hw.2.1, rfl, hw.2.2.2⟩
theorem pq_standby {σ τ : St} (h9 : WW σ τ) (a : Int32) : PW (wX9_standby σ a) (wX10_standby τ a) := by
  obtain ⟨⟨τ0, n, u, d, sp, se, gr, hx⟩, ⟨σ0, n', u', d', sp', se', gr', hz⟩, hw⟩ := id h9
  have h7 : τ.1 2 = σ.1 0 := hw.1.symm
  rcases rg_cases a (n := 4096) (by omega) with ⟨m, hm, rfl⟩ | ha
  case inr =>
    refine pw_bad (-1) h9 (fun post hp => ?_) (fun post hp => ?_)
    · exact q_noRS_bad ha ⟨fun h => absurd h n10, fun _ => hp⟩
    · exact q_in_bad (ha.imp id (fun h => lt_pre (n := 4095) (by omega) h)) ⟨fun h => absurd rfl h, fun _ => hp⟩
  refine ⟨σ.1 0, st_S σ 0 (nI m), st_S τ 2 (nI m), fun post hp => ?_, fun post hp => ?_, ⟨⟨_, n, u, d, sp, se, gr, R_standby hx (sm_of hm)⟩, ⟨_, n', u', d', sp', se', gr', R_standby hz (sm_of hm)⟩, rfl, hw.2.1, hw.2.2.1, hw.2.2.2⟩⟩
  · refine q_noRS_ok hm ⟨fun _ => ?_, fun h => absurd rfl h⟩
    simp only [forall_eq]; exact hp
  · refine q_in_ok (nI_pos' (by omega)) (nI_le (b := 4095) (by omega) (by omega)) ⟨fun _ => ?_, fun h => absurd h n10⟩
    simp only [forall_eq, h7]; exact hp
theorem pq_rule {σ τ : St} (h9 : WW σ τ) (a b c : Int32) : PW (wX9_rule σ a b c) (wX10_rule τ a b c) := by
  obtain ⟨⟨τ0, n, u, d, sp, se, gr, hx⟩, ⟨σ0, n', u', d', sp', se', gr', hz⟩, hw⟩ := id h9
  rcases rg1 a (N := 999) (by omega) with ⟨i, hi, hi2, rfl⟩ | ha
  case inr =>
    refine pw_bad (-1) h9 (fun post hp => ?_) (fun post hp => ?_)
    · refine ⟨fun _ => hp, fun h => ⟨fun _ => hp, fun h2 => ?_⟩⟩
      exact (ha.elim (fun z => absurd z h) (fun z => absurd z h2))
    · exact q_in_bad ha ⟨fun _ => hp, fun h => absurd rfl h⟩
  have a1 : ¬ nI i < 1 := nI_nlt (b := 1) hi (by omega)
  have a2 : ¬ (999 : Int32) < nI i := nI_nlt (a := 999) hi2 (by omega)
  rcases rg1 b (N := 999) (by omega) with ⟨j, hj, hj2, rfl⟩ | ha
  case inr =>
    refine pw_bad (-1) h9 (fun post hp => ?_) (fun post hp => ?_)
    · refine ⟨fun h => absurd h a1, fun _ => ⟨fun h => absurd h a2, fun _ => ⟨fun _ => hp, fun h => ⟨fun h2 => ?_, fun _ => hp⟩⟩⟩⟩
      exact (ha.elim (fun z => absurd z h) (fun z => absurd z (Int32.not_lt.mpr h2)))
    · exact q_in_ok (Int32.not_lt.mp a1) (Int32.not_lt.mp a2) ⟨fun h => absurd h n10, fun _ => q_in_bad ha ⟨fun _ => hp, fun h => absurd rfl h⟩⟩
  have b1 : ¬ nI j < 1 := nI_nlt (b := 1) hj (by omega)
  have b2 : nI j ≤ (999 : Int32) := nI_le (b := 999) hj2 (by omega)
  rcases rg0 c (N := 999) (by omega) with ⟨k, hk, rfl⟩ | ha
  case inr =>
    refine pw_bad (-1) h9 (fun post hp => ?_) (fun post hp => ?_)
    · refine ⟨fun h => absurd h a1, fun _ => ⟨fun h => absurd h a2, fun _ => ⟨fun h => absurd h b1, fun _ => ⟨fun _ => ⟨fun _ => hp, fun h => ⟨fun h2 => ?_, fun _ => hp⟩⟩, fun h => absurd b2 h⟩⟩⟩⟩
      exact (ha.elim (fun z => absurd z h) (fun z => absurd z (Int32.not_lt.mpr h2)))
    · exact q_in_ok (Int32.not_lt.mp a1) (Int32.not_lt.mp a2) ⟨fun h => absurd h n10, fun _ => q_in_ok (Int32.not_lt.mp b1) b2 ⟨fun h => absurd h n10, fun _ => q_in_bad ha ⟨fun h => absurd rfl h, fun _ => hp⟩⟩⟩
  have c1 : ¬ nI k < 0 := nI_pos (by omega)
  have c2 : nI k ≤ (999 : Int32) := nI_le (b := 999) hk (by omega)
  refine ⟨1, st_S (st_S (st_S σ 3 (nI i)) 4 (nI j)) 5 (nI k), st_S (st_S (st_S τ 3 (nI i)) 4 (nI j)) 5 (nI k), fun post hp => ?_, fun post hp => ?_, ⟨⟨_, n, u, d, i, j, k, R_rule hx hi hi2 hj hj2 hk⟩, ⟨_, n', u', d', i, j, k, R_rule hz hi hi2 hj hj2 hk⟩, hw⟩⟩
  · refine ⟨fun h => absurd h a1, fun _ => ⟨fun h => absurd h a2, fun _ => ⟨fun h => absurd h b1, fun _ => ⟨fun _ => ⟨fun h => absurd h c1, fun h => ⟨fun h2 => ?_, fun h => absurd c2 h⟩⟩, fun h => absurd b2 h⟩⟩⟩⟩
    simp only [forall_eq]; exact hp
  · refine q_in_ok (Int32.not_lt.mp a1) (Int32.not_lt.mp a2) ⟨fun h => absurd h n10, fun _ => q_in_ok (Int32.not_lt.mp b1) b2 ⟨fun h => absurd h n10, fun _ => q_in_ok (Int32.not_lt.mp c1) c2 ⟨fun _ => ?_, fun h => absurd h n10⟩⟩⟩
    simp only [forall_eq]; exact hp
theorem pq_later {σ τ : St} (h9 : WW σ τ) (a : Int32) : PW (wX9_later σ a) (wX10_later τ a) := by
  obtain ⟨⟨τ0, n, u, d, sp, se, gr, hx⟩, ⟨σ0, n', u', d', sp', se', gr', hz⟩, hw⟩ := id h9
  obtain ⟨e1, _, hd⟩ := hx.1.2.2.1
  have e2 : τ.1 6 = nI d := by rw [← hw.2.1]; exact e1
  have e9 : d' = d := (nI_eq (by have := hz.1.2.2.1.2.2; omega) (by omega)).mp (hz.1.2.2.1.2.1.symm.trans e2)
  subst e9
  have es : (999 : Int32) - nI d' = nI (999 - d') := pk_sub (a := 999) hd
  rcases rg0 a (N := 999 - d') (by omega) with ⟨k, hk, rfl⟩ | ha
  case inr =>
    refine pw_bad (-1) h9 (fun post hp => ?_) (fun post hp => ?_)
    · unfold wX9_later; rw [e1, es]
      exact ⟨fun _ => hp, fun h => ⟨fun h2 => (ha.elim (fun z => absurd z h) (fun z => absurd z (Int32.not_lt.mpr h2))), fun _ => hp⟩⟩
    · unfold wX10_later; rw [e2, es]
      exact ⟨fun _ => hp, fun h => ⟨fun h2 => (ha.elim (fun z => absurd z h) (fun z => absurd z (Int32.not_lt.mpr h2))), fun _ => hp⟩⟩
  refine ⟨nI (d' + k), _, _, fun post hp => ?_, fun post hp => ?_, ⟨⟨_, n, u, d' + k, sp, se, gr, R_later (k := k) hx (by omega)⟩, ⟨_, n', u', d' + k, sp', se', gr', R_later (k := k) hz (by omega)⟩, hw.1, rfl, hw.2.2.1, hw.2.2.2⟩⟩
  · unfold wX9_later; rw [e1, es, nI_add]
    refine ⟨fun h => absurd h (nI_pos (by omega)), fun _ => ⟨fun _ => ?_, fun h => absurd (nI_le hk (by omega)) h⟩⟩
    simp only [forall_eq]; exact hp
  · unfold wX10_later; rw [e2, es, nI_add]
    refine ⟨fun h => absurd h (nI_pos (by omega)), fun _ => ⟨fun _ => ?_, fun h => absurd (nI_le hk (by omega)) h⟩⟩
    simp only [forall_eq]; exact hp
theorem pq_ban {σ τ : St} (h9 : WW σ τ) (a b c : Int32) : PW (wX9_ban σ a b c) (wX10_ban τ a b c) := by
  obtain ⟨⟨τ0, n, u, d, sp, se, gr, hx⟩, ⟨σ0, n', u', d', sp', se', gr', hz⟩, hw⟩ := id h9
  have e14 : τ.2.1 14 = σ.2.1 17 := hw.2.2.2.1.symm
  have e0 : σ0.2.1 17 = σ.2.1 17 := hz.2.1.2.2.2.2.2.2.2.symm.trans e14
  rcases rg_cases a (n := 12) (by omega) with ⟨i, hi, rfl⟩ | ha
  case inr =>
    refine pw_bad (-1) h9 (fun post hp => ?_) (fun post hp => ?_)
    · exact q_noRight_bad ha ⟨fun _ => hp, fun h => absurd h n10⟩
    · exact q_isRight_bad ha ⟨fun _ => hp, fun h => absurd rfl h⟩
  rcases rg_cases b (n := 12) (by omega) with ⟨j, hj, rfl⟩ | ha
  case inr =>
    refine pw_bad (-1) h9 (fun post hpo => ?_) (fun post hpo => ?_)
    · exact q_noRight_ok hi ⟨fun h => absurd rfl h, fun _ => q_noRight_bad ha ⟨fun _ => hpo, fun h => absurd h n10⟩⟩
    · exact q_isRight_ok hi ⟨fun h => absurd h n10, fun _ => q_isRight_bad ha ⟨fun _ => hpo, fun h => absurd rfl h⟩⟩
  by_cases hij : i = j
  · subst hij
    refine pw_bad (-1) h9 (fun post hpo => ?_) (fun post hpo => ?_)
    · exact q_noRight_ok hi ⟨fun h => absurd rfl h, fun _ => q_noRight_ok hi ⟨fun h => absurd rfl h, fun _ => ⟨fun h => absurd rfl h, fun _ => hpo⟩⟩⟩
    · exact q_isRight_ok hi ⟨fun h => absurd h n10, fun _ => q_isRight_ok hi ⟨fun h => absurd h n10, fun _ => ⟨fun h => absurd rfl h, fun _ => hpo⟩⟩⟩
  have hne : ¬ nI i = nI j := fun h => hij ((nI_eq (by omega) (by omega)).mp h)
  have ii : vp_in (nI i) 12 := vp_in_nI hi (by omega)
  have ij : vp_in (nI j) 12 := vp_in_nI hj (by omega)
  have ci : (nI i).toNatClampNeg = i := nI_clamp (by omega)
  have cj : (nI j).toNatClampNeg = j := nI_clamp (by omega)
  have uj : ∀ (w : Nat → Int32) (x : Int32), upd w i x j = w j := fun w x => pk_un (fun z => hij z.symm)
  have hb9 := R_ban (c := !decide (c = 0)) hz hi hj hij
  rw [e0] at hb9
  have hk9 : (st_A (st_A σ 17 i (opb (!decide (c = 0)) (σ.2.1 17 i) j)) 17 j (opb (!decide (c = 0)) (σ.2.1 17 j) i)).2.1 17 = (st_A (st_A τ 14 i (opb (!decide (c = 0)) (σ.2.1 17 i) j)) 14 j (opb (!decide (c = 0)) (σ.2.1 17 j) i)).2.1 14 := by
    show upd (upd (σ.2.1 17) i _) j _ = upd (upd (τ.2.1 14) i _) j _
    rw [e14]
  refine ⟨if bt (σ.2.1 17 i) j then 1 else 0, _, _, fun post hpo => ?_, fun post hpo => ?_, ⟨⟨_, n, u, d, sp, se, gr, R_ban (c := !decide (c = 0)) hx hi hj hij⟩, ⟨_, n', u', d', sp', se', gr', hb9⟩, hw.1, hw.2.1, hw.2.2.1, hk9, hw.2.2.2.2⟩⟩
  · refine q_noRight_ok hi ⟨fun h => absurd rfl h, fun _ => q_noRight_ok hj ⟨fun h => absurd rfl h, fun _ => ⟨fun _ => ?_, fun h => absurd h hne⟩⟩⟩
    unfold wX0_put
    simp only [forall_eq, st_A2, if_true, ci, cj, uj, pb_bit1 (x := σ.2.1 17 i) (show j < 32 by omega)]
    refine ⟨ii, fun h => ⟨ii, ii, ij, ij, ?_⟩, fun h => ⟨ii, ii, ij, ij, ?_⟩⟩
    · simpa [opb, h] using hpo
    · simpa [opb, h] using hpo
  · refine q_isRight_ok hi ⟨fun h => absurd h n10, fun _ => q_isRight_ok hj ⟨fun h => absurd h n10, fun _ => ⟨fun _ => ⟨ii, q_has (by omega) ?_⟩, fun h => absurd h hne⟩⟩⟩
    simp only [forall_eq, st_A2, if_true, ci, cj, uj, e14]
    by_cases c0 : c = 0
    · simp only [opb, c0, decide_true, Bool.not_true, Bool.false_eq_true, if_false] at hpo
      cases hb : bt (σ.2.1 17 i) j
      · rw [hb] at hpo
        exact ⟨fun _ => ⟨fun _ => ⟨ii, ii, fun _ => ⟨ij, ij, hpo⟩, fun h => absurd c0 h⟩, fun h => absurd c0 h⟩, fun h => absurd rfl h⟩
      · rw [hb] at hpo
        exact ⟨fun h => absurd h n10, fun _ => ⟨fun _ => ⟨ii, ii, fun _ => ⟨ij, ij, hpo⟩, fun h => absurd c0 h⟩, fun h => absurd c0 h⟩⟩
    · simp only [opb, c0, decide_false, Bool.not_false, if_true] at hpo
      cases hb : bt (σ.2.1 17 i) j
      · rw [hb] at hpo
        exact ⟨fun _ => ⟨fun h => absurd h c0, fun _ => ⟨ii, ii, fun h => absurd h c0, fun _ => ⟨ij, ij, hpo⟩⟩⟩, fun h => absurd rfl h⟩
      · rw [hb] at hpo
        exact ⟨fun h => absurd h n10, fun _ => ⟨fun h => absurd h c0, fun _ => ⟨ii, ii, fun h => absurd h c0, fun _ => ⟨ij, ij, hpo⟩⟩⟩⟩
theorem pq_sheet {σ τ : St} (h9 : WW σ τ) (a b : Int32) : PW (wX9_sheet σ a b) (wX10_sheet τ a b) := by
  obtain ⟨⟨τ0, n, u, d, sp, se, gr, hx⟩, ⟨σ0, n', u', d', sp', se', gr', hz9⟩, hw⟩ := id h9
  rcases rg_cases a (n := 4) (by omega) with ⟨s, hs, rfl⟩ | ha
  case inr =>
    refine pw_bad (-1) h9 (fun post hp => ?_) (fun post hp => ?_)
    · exact q_noSheet_bad ha ⟨fun _ => hp, fun h => absurd h n10⟩
    · exact q_isSheet_bad ha ⟨fun _ => hp, fun h => absurd rfl h⟩
  rcases rg0 b (N := 10) (by omega) with ⟨z, hz, rfl⟩ | hb | hb
  · have b1 : nI z ≤ (10 : Int32) := nI_le (b := 10) hz (by omega)
    have cs : (nI s).toNatClampNeg = s := nI_clamp (by omega)
    refine ⟨nI z, _, st_R (st_A τ 16 s (nI z)) 17 (fb_put (τ.2.1 17) (fun _ => 0) (10 * s) 10), fun post hp => q_noSheet_ok hs ⟨fun h => absurd rfl h, fun _ => ⟨fun _ => ⟨fun _ => q_lay hs hz hp, fun h => absurd le0 h⟩, fun h => absurd b1 h⟩⟩, fun post hp => q_isSheet_ok hs ⟨fun h => absurd h n10, fun _ => ⟨fun _ => ⟨fun _ => ⟨vp_in_nI hs (by omega), ?_⟩, fun h => absurd le0 h⟩, fun h => absurd b1 h⟩⟩, ⟨⟨_, n, u, d, sp, se, gr, R_sheet hx hs hz⟩, ⟨_, n', u', d', sp', se', gr', R_sheet hz9 hs hz⟩, ?_⟩⟩
    · simp only [forall_eq, cs]
      exact q_msheet hs hp
    · exact Wk_size hw rfl rfl rfl rfl rfl rfl (Or.inr ⟨z, hz, rfl, rfl⟩)
  · refine pq_find 4 (by omega) h9 (fun post hp => ?_) (fun post hp => ?_)
    · refine q_noSheet_ok hs ⟨fun h => absurd rfl h, fun _ => ⟨fun _ => ⟨fun h => absurd hb (Int32.not_lt.mpr h), fun _ => hp⟩, fun h => ?_⟩⟩
      exfalso; apply h; rw [fa_le]; rw [fa_lt] at hb
      have h0 : (0 : Int32).toInt = 0 := rfl
      have h1 : (10 : Int32).toInt = 10 := rfl
      omega
    · refine q_isSheet_ok hs ⟨fun h => absurd h n10, fun _ => ⟨fun _ => ⟨fun h => absurd hb (Int32.not_lt.mpr h), fun _ => hp⟩, fun h => ?_⟩⟩
      exfalso; apply h; rw [fa_le]; rw [fa_lt] at hb
      have h0 : (0 : Int32).toInt = 0 := rfl
      have h1 : (10 : Int32).toInt = 10 := rfl
      omega
  · refine pw_bad (-1) h9 (fun post hp => ?_) (fun post hp => ?_)
    · exact q_noSheet_ok hs ⟨fun h => absurd rfl h, fun _ => ⟨fun h => absurd hb (Int32.not_lt.mpr h), fun _ => hp⟩⟩
    · exact q_isSheet_ok hs ⟨fun h => absurd h n10, fun _ => ⟨fun h => absurd hb (Int32.not_lt.mpr h), fun _ => hp⟩⟩
theorem pq_tear {σ τ : St} (h9 : WW σ τ) (a : Int32) : PW (wX9_tear σ a) (wX10_tear τ a) := by
  obtain ⟨⟨τ0, n, u, d, sp, se, gr, hx⟩, ⟨σ0, n', u', d', sp', se', gr', hz9⟩, hw⟩ := id h9
  have hsh := hw.2.2.2.2
  rcases rg_cases a (n := 4) (by omega) with ⟨s, hs, rfl⟩ | ha
  case inr =>
    refine pw_bad (-1) h9 (fun post hp => ?_) (fun post hp => ?_)
    · exact q_noSheet_bad ha ⟨fun h => absurd h n10, fun _ => hp⟩
    · exact q_isSheet_bad ha ⟨fun h => absurd rfl h, fun _ => hp⟩
  have cs : (nI s).toNatClampNeg = s := nI_clamp (by omega)
  rcases hsh s hs with ⟨x1, x2⟩ | ⟨z, hz, x1, x2⟩
  · refine pq_find 1 (by omega) h9 (fun post hp => ?_) (fun post hp => ?_)
    · exact q_noSheet_ok hs ⟨fun _ => q_missing hs x1 ⟨fun h => absurd h n10, fun _ => hp⟩, fun h => absurd rfl h⟩
    · refine q_isSheet_ok hs ⟨fun _ => ⟨in4 hs, ?_⟩, fun h => absurd h n10⟩
      rw [cs, x2]
      exact ⟨fun h => absurd h m9, fun _ => hp⟩
  · refine ⟨1, st_A σ 19 s (-1), st_A τ 16 s (-9), fun post hp => ?_, fun post hp => ?_, ⟨⟨_, n, u, d, sp, se, gr, R_tear hx⟩, ⟨_, n', u', d', sp', se', gr', R_tear hz9⟩, Wk_size hw rfl rfl rfl rfl rfl rfl (Or.inl ⟨rfl, rfl⟩)⟩⟩
    · refine q_noSheet_ok hs ⟨fun _ => q_there hs hz x1 ⟨fun _ => ⟨in4 hs, ?_⟩, fun h => absurd rfl h⟩, fun h => absurd rfl h⟩
      simp only [forall_eq, cs]; exact hp
    · refine q_isSheet_ok hs ⟨fun _ => ⟨in4 hs, ?_⟩, fun h => absurd h n10⟩
      simp only [forall_eq, cs, x2]
      exact ⟨fun _ => ⟨in4 hs, hp⟩, fun h => absurd le0 h⟩
theorem pq_save {σ τ : St} (h9 : WW σ τ) (a : Int32) : PW (wX9_save σ a) (wX10_save τ a) := by
  obtain ⟨n, hn, h6, m1, ⟨τ0, u, d, sp, se, gr, hx⟩, ⟨σ0, u', d', sp', se', gr', hz9⟩⟩ := WW_n h9
  have hw9 := h9.2.2
  have hsh := hw9.2.2.2.2
  rcases rg_cases a (n := 4) (by omega) with ⟨s, hs, rfl⟩ | ha
  case inr =>
    refine pw_bad (-1) h9 (fun post hp => ?_) (fun post hp => ?_)
    · exact q_noSheet_bad ha ⟨fun h => absurd h n10, fun _ => hp⟩
    · exact q_isSheet_bad ha ⟨fun h => absurd rfl h, fun _ => hp⟩
  have cs : (nI s).toNatClampNeg = s := nI_clamp (by omega)
  rcases hsh s hs with ⟨x1, x2⟩ | ⟨z, hz, x1, x2⟩
  · refine pq_find 1 (by omega) h9 (fun post hp => ?_) (fun post hp => ?_)
    · exact q_noSheet_ok hs ⟨fun _ => q_missing hs x1 ⟨fun h => absurd h n10, fun _ => hp⟩, fun h => absurd rfl h⟩
    · refine q_isSheet_ok hs ⟨fun _ => ⟨in4 hs, ?_⟩, fun h => absurd h n10⟩
      rw [cs, x2]
      exact ⟨fun h => absurd h m9, fun _ => hp⟩
  · have hm : min n z ≤ 10 := by omega
    refine ⟨nI (min n z), st_R σ 20 (fb_put (σ.2.1 20) (σ.2.1 3) (s * 10) (min n z)), st_R τ 17 (fb_put (τ.2.1 17) (τ.2.1 2) (10 * s) (min n z)), fun post hp => ?_, fun post hp => ?_, ⟨⟨_, n, u, d, sp, se, gr, R_save hx hm hs⟩, ⟨_, n, u', d', sp', se', gr', R_save hz9 hm hs⟩, Wk_mv hw9 (fx_R FX_rf rfl) (fm_R FM_rf rfl)⟩⟩
    · refine q_noSheet_ok hs ⟨fun _ => q_there hs hz x1 ⟨fun _ => ?_, fun h => absurd rfl h⟩, fun h => absurd rfl h⟩
      rw [h6]
      exact q_write hs hz hn x1 hp
    · refine q_isSheet_ok hs ⟨fun _ => ⟨in4 hs, ?_⟩, fun h => absurd h n10⟩
      simp only [forall_eq, cs, x2, m1]
      refine ⟨fun _ => ⟨in4 hs, fun c => ⟨in4 hs, ?_⟩, fun c => ?_⟩, fun h => absurd le0 h⟩
      · have c' : z ≤ n := (nI_leI (by omega) (by omega)).mp c
        rw [show min n z = z by omega] at hp
        exact q_msave hs hz hp
      · have c' : ¬ z ≤ n := fun h => c (nI_le h (by omega))
        rw [show min n z = n by omega] at hp
        exact q_msave hs hn hp
theorem pq_load {σ τ : St} (h9 : WW σ τ) (a b c : Int32) : PW (wX9_load σ a b c) (wX10_load τ a b c) := by
  obtain ⟨n, hn, h6, m1, ⟨τ0, u, d, sp, se, gr, hx⟩, ⟨σ0, u', d', sp', se', gr', hz9⟩⟩ := WW_n h9
  have hw9 := h9.2.2
  have hsh := hw9.2.2.2.2
  rcases rg_cases a (n := 4) (by omega) with ⟨s, hs, rfl⟩ | ha
  case inr =>
    refine pw_bad (-1) h9 (fun post hp => ?_) (fun post hp => ?_)
    · exact q_noSheet_bad ha ⟨fun _ => hp, fun h => absurd h n10⟩
    · exact q_isSheet_bad ha ⟨fun _ => hp, fun h => absurd rfl h⟩
  have cs : (nI s).toNatClampNeg = s := nI_clamp (by omega)
  rcases rg_cases c (n := n) (by omega) with ⟨p, hp, rfl⟩ | ha
  case inr =>
    refine pw_bad (-1) h9 (fun post hp => ?_) (fun post hp => ?_)
    · exact q_noSheet_ok hs ⟨fun h => absurd rfl h, fun _ => q_noPerson_bad h6 ha ⟨fun h => absurd h n10, fun _ => hp⟩⟩
    · exact q_isSheet_ok hs ⟨fun h => absurd h n10, fun _ => q_isPerson_bad m1 hn ha ⟨fun h => absurd rfl h, fun _ => hp⟩⟩
  have hp10 : p < 10 := by omega
  rcases hsh s hs with ⟨x1, x2⟩ | ⟨z, hz, x1, x2⟩
  · refine pq_find 1 (by omega) h9 (fun post hpo => ?_) (fun post hpo => ?_)
    · exact q_noSheet_ok hs ⟨fun h => absurd rfl h, fun _ => q_noPerson_ok h6 hn hp ⟨fun _ => q_missing hs x1 ⟨fun h => absurd h n10, fun _ => hpo⟩, fun h => absurd rfl h⟩⟩
    · refine q_isSheet_ok hs ⟨fun h => absurd h n10, fun _ => q_isPerson_ok m1 hn hp ⟨fun _ => ⟨in4 hs, ?_⟩, fun h => absurd h n10⟩⟩
      rw [cs, x2]
      exact ⟨fun h => absurd h m9, fun _ => hpo⟩
  rcases rg_cases b (n := z) (by omega) with ⟨i, hi, rfl⟩ | hb
  · have cq : (nI (s * 10 + i)).toNatClampNeg = s * 10 + i := nI_clamp (by omega)
    have cq2 : (nI (10 * s + i)).toNatClampNeg = 10 * s + i := nI_clamp (by omega)
    obtain ⟨f0, hf0, hg0, _⟩ := q_mgive (τ := τ0) (set := σ.2.1 20 (s * 10 + i)) hp10
    obtain ⟨f, hf, hg, hw⟩ := q_mgive (τ := τ) (set := τ.2.1 17 (10 * s + i)) hp10
    have v1 := ((Rx_sheet hx hs hz x1).2 i hi).2
    have v2 : sm (τ.2.1 17 (10 * s + i)) := by
      have h := (Rm_sheet hz9 hs hz x2).2 i hi
      rw [← h.1]; exact h.2
    refine ⟨1, _, _, fun post hpo => ?_, fun post hpo => ?_, ⟨⟨_, n, u, d, sp, se, gr, R_give hx hp v1 hf0 hg0⟩, ⟨_, n, u', d', sp', se', gr', R_give hz9 hp v2 hf hg⟩, Wk_mv hw9 (fx_A (fx_A FX_rf rfl) rfl) (fm_R (fm_A FM_rf rfl) rfl)⟩⟩
    · refine q_noSheet_ok hs ⟨fun h => absurd rfl h, fun _ => q_noPerson_ok h6 hn hp ⟨fun _ => q_there hs hz x1 ⟨fun _ => ⟨fun h => absurd h (nI_pos (by omega)), fun _ => ⟨in4 hs, ?_⟩⟩, fun h => absurd rfl h⟩, fun h => absurd rfl h⟩⟩
      rw [cs, x1]
      refine ⟨fun _ => ?_, fun h => absurd (nI_lt hi (by omega)) h⟩
      unfold wX7_at
      rw [mulr10, cq]
      exact ⟨vp_in_nI (by omega) (by omega), q_xgive hp10 hpo⟩
    · refine q_isSheet_ok hs ⟨fun h => absurd h n10, fun _ => q_isPerson_ok m1 hn hp ⟨fun _ => ⟨in4 hs, ?_⟩, fun h => absurd h n10⟩⟩
      rw [cs, x2]
      obtain ⟨z', rfl⟩ : ∃ z', z = z' + 1 := ⟨z - 1, by omega⟩
      refine ⟨fun _ => ⟨in4 hs, ?_⟩, fun h => absurd le0 h⟩
      rw [nI_pred, mul10, cq2]
      exact q_in_ok le0 (nI_le (by omega) (by omega)) ⟨fun _ => ⟨vp_in_nI (by omega) (by omega), hw _ hpo⟩, fun h => absurd h n10⟩
  · refine pq_find 2 (by omega) h9 (fun post hpo => ?_) (fun post hpo => ?_)
    · refine q_noSheet_ok hs ⟨fun h => absurd rfl h, fun _ => q_noPerson_ok h6 hn hp ⟨fun _ => q_there hs hz x1 ⟨fun _ => ⟨fun _ => hpo, fun h => ⟨in4 hs, ?_⟩⟩, fun h => absurd rfl h⟩, fun h => absurd rfl h⟩⟩
      rw [cs, x1]
      exact ⟨fun h2 => (hb.elim (fun z => absurd z h) (fun z => absurd h2 (Int32.not_lt.mpr z))), fun _ => hpo⟩
    · refine q_isSheet_ok hs ⟨fun h => absurd h n10, fun _ => q_isPerson_ok m1 hn hp ⟨fun _ => ⟨in4 hs, ?_⟩, fun h => absurd h n10⟩⟩
      rw [cs, x2]
      refine ⟨fun _ => ⟨in4 hs, q_in_bad (hb.imp id (fun h => ?_)) ⟨fun h => absurd rfl h, fun _ => hpo⟩⟩, fun h => absurd le0 h⟩
      rw [fa_le, nI_toInt (by omega)] at h
      have : (nI z - 1).toInt = (z : Int) - 1 := pk_sub_toInt (b := 1) (by omega) (by omega)
      rw [fa_lt, this]
      omega
theorem pq_copy {σ τ : St} (h9 : WW σ τ) (a b c e f : Int32) : PW (wX9_copy σ a b c e f) (wX10_copy τ a b c e f) := by
  obtain ⟨n, hn, h6, m1, ⟨τ0, u, d, sp, se, gr, hx⟩, ⟨σ0, u', d', sp', se', gr', hz9⟩⟩ := WW_n h9
  have hw9 := h9.2.2
  have hsh := hw9.2.2.2.2
  rcases rg_cases a (n := 4) (by omega) with ⟨s, hs, rfl⟩ | ha
  case inr =>
    refine pw_bad (-1) h9 (fun post hp => ?_) (fun post hp => ?_)
    · exact q_noSheet_bad ha ⟨fun _ => hp, fun h => absurd h n10⟩
    · exact q_isSheet_bad ha ⟨fun _ => hp, fun h => absurd rfl h⟩
  rcases rg_cases c (n := 4) (by omega) with ⟨to, hto, rfl⟩ | ha
  case inr =>
    refine pw_bad (-1) h9 (fun post hp => ?_) (fun post hp => ?_)
    · exact q_noSheet_ok hs ⟨fun h => absurd rfl h, fun _ => q_noSheet_bad ha ⟨fun h => absurd h n10, fun _ => hp⟩⟩
    · exact q_isSheet_ok hs ⟨fun h => absurd h n10, fun _ => q_isSheet_bad ha ⟨fun h => absurd rfl h, fun _ => hp⟩⟩
  have cs : (nI s).toNatClampNeg = s := nI_clamp (by omega)
  have ct : (nI to).toNatClampNeg = to := nI_clamp (by omega)
  by_cases hf : f < 0
  · have hf' : ¬ 0 ≤ f := Int32.not_le.mpr hf
    refine pq_find 4 (by omega) h9 (fun post hp => ?_) (fun post hp => ?_)
    · exact q_noSheet_ok hs ⟨fun h => absurd rfl h, fun _ => q_noSheet_ok hto ⟨fun _ => ⟨fun h => absurd h hf', fun _ => hp⟩, fun h => absurd rfl h⟩⟩
    · exact q_isSheet_ok hs ⟨fun h => absurd h n10, fun _ => q_isSheet_ok hto ⟨fun _ => ⟨fun h => absurd h hf', fun _ => hp⟩, fun h => absurd h n10⟩⟩
  obtain ⟨k, hk, rfl⟩ := nI_of hf
  have f0 : (0 : Int32) ≤ nI k := le0 hk
  rcases hsh s hs with ⟨x1, x2⟩ | ⟨z, hz, x1, x2⟩
  · refine pq_find 1 (by omega) h9 (fun post hp => ?_) (fun post hp => ?_)
    · exact q_noSheet_ok hs ⟨fun h => absurd rfl h, fun _ => q_noSheet_ok hto ⟨fun _ => ⟨fun _ => q_missing hs x1 ⟨fun _ => hp, fun h => absurd h n10⟩, fun h => absurd f0 h⟩, fun h => absurd rfl h⟩⟩
    · refine q_isSheet_ok hs ⟨fun h => absurd h n10, fun _ => q_isSheet_ok hto ⟨fun _ => ⟨fun _ => ⟨in4 hs, ?_⟩, fun h => absurd f0 h⟩, fun h => absurd h n10⟩⟩
      rw [cs, x2]
      exact ⟨fun _ => hp, fun h => absurd m9' h⟩
  have z0 : ¬ nI z < 0 := nI_pos (by omega)
  rcases hsh to hto with ⟨y1, y2⟩ | ⟨y, hy, y1, y2⟩
  · refine pq_find 1 (by omega) h9 (fun post hp => ?_) (fun post hp => ?_)
    · exact q_noSheet_ok hs ⟨fun h => absurd rfl h, fun _ => q_noSheet_ok hto ⟨fun _ => ⟨fun _ => q_there hs hz x1 ⟨fun h => absurd rfl h, fun _ => q_missing hto y1 ⟨fun h => absurd h n10, fun _ => hp⟩⟩, fun h => absurd f0 h⟩, fun h => absurd rfl h⟩⟩
    · refine q_isSheet_ok hs ⟨fun h => absurd h n10, fun _ => q_isSheet_ok hto ⟨fun _ => ⟨fun _ => ⟨in4 hs, ?_⟩, fun h => absurd f0 h⟩, fun h => absurd h n10⟩⟩
      rw [cs, x2, ct, y2]
      exact ⟨fun h => absurd h z0, fun _ => ⟨in4 hto, fun h => absurd h m9, fun _ => hp⟩⟩
  have y0 : (0 : Int32) ≤ nI y := le0
  by_cases hb : b < 0
  · refine pq_find 2 (by omega) h9 (fun post hp => ?_) (fun post hp => ?_)
    · exact q_noSheet_ok hs ⟨fun h => absurd rfl h, fun _ => q_noSheet_ok hto ⟨fun _ => ⟨fun _ => q_there hs hz x1 ⟨fun h => absurd rfl h, fun _ => q_there hto hy y1 ⟨fun _ => q_spans_neg hb ⟨fun _ => hp, fun h => absurd rfl h⟩, fun h => absurd rfl h⟩⟩, fun h => absurd f0 h⟩, fun h => absurd rfl h⟩⟩
    · refine q_isSheet_ok hs ⟨fun h => absurd h n10, fun _ => q_isSheet_ok hto ⟨fun _ => ⟨fun _ => ⟨in4 hs, ?_⟩, fun h => absurd f0 h⟩, fun h => absurd h n10⟩⟩
      rw [cs, x2, ct, y2]
      exact ⟨fun h => absurd h z0, fun _ => ⟨in4 hto, fun _ => ⟨fun _ => hp, fun h => absurd hb h⟩, fun h => absurd y0 h⟩⟩
  obtain ⟨i, hi, rfl⟩ := nI_of hb
  by_cases he : e < 0
  · refine pq_find 2 (by omega) h9 (fun post hp => ?_) (fun post hp => ?_)
    · refine q_noSheet_ok hs ⟨fun h => absurd rfl h, fun _ => q_noSheet_ok hto ⟨fun _ => ⟨fun _ => q_there hs hz x1 ⟨fun h => absurd rfl h, fun _ => q_there hto hy y1 ⟨fun _ => ?_, fun h => absurd rfl h⟩⟩, fun h => absurd f0 h⟩, fun h => absurd rfl h⟩⟩
      by_cases c1 : i + k ≤ z
      · exact q_spans_ok hs x1 hz c1 ⟨fun h => absurd h n10, fun _ => q_spans_neg he ⟨fun h => absurd rfl h, fun _ => hp⟩⟩
      · exact q_spans_bad hs x1 hz hi hk c1 ⟨fun _ => hp, fun h => absurd rfl h⟩
    · refine q_isSheet_ok hs ⟨fun h => absurd h n10, fun _ => q_isSheet_ok hto ⟨fun _ => ⟨fun _ => ⟨in4 hs, ?_⟩, fun h => absurd f0 h⟩, fun h => absurd h n10⟩⟩
      rw [cs, x2, ct, y2]
      exact ⟨fun h => absurd h z0, fun _ => ⟨in4 hto, fun _ => ⟨fun h => absurd h hb, fun _ => ⟨fun _ => hp, fun h => absurd he h⟩⟩, fun h => absurd y0 h⟩⟩
  obtain ⟨j, hj, rfl⟩ := nI_of he
  by_cases c1 : i + k ≤ z
  case neg =>
    refine pq_find 2 (by omega) h9 (fun post hp => ?_) (fun post hp => ?_)
    · exact q_noSheet_ok hs ⟨fun h => absurd rfl h, fun _ => q_noSheet_ok hto ⟨fun _ => ⟨fun _ => q_there hs hz x1 ⟨fun h => absurd rfl h, fun _ => q_there hto hy y1 ⟨fun _ => q_spans_bad hs x1 hz hi hk c1 ⟨fun _ => hp, fun h => absurd rfl h⟩, fun h => absurd rfl h⟩⟩, fun h => absurd f0 h⟩, fun h => absurd rfl h⟩⟩
    · refine q_isSheet_ok hs ⟨fun h => absurd h n10, fun _ => q_isSheet_ok hto ⟨fun _ => ⟨fun _ => ⟨in4 hs, ?_⟩, fun h => absurd f0 h⟩, fun h => absurd h n10⟩⟩
      rw [cs, x2, ct, y2]
      exact ⟨fun h => absurd h z0, fun _ => ⟨in4 hto, fun _ => ⟨fun h => absurd h hb, fun _ => ⟨fun h => absurd h he, fun _ => ⟨in4 hs, fun _ => hp, fun h => absurd ((cmp_gt _ _).mpr ((long_lt hi hk hz).mpr c1)) h⟩⟩⟩, fun h => absurd y0 h⟩⟩
  have g1 : ¬ 0 < lg_cmp ((nI i).toInt64 + (nI k).toInt64) (nI z).toInt64 := fun h => ((long_lt hi hk hz).mp ((cmp_gt _ _).mp h)) c1
  by_cases c2 : j + k ≤ y
  case neg =>
    refine pq_find 2 (by omega) h9 (fun post hp => ?_) (fun post hp => ?_)
    · exact q_noSheet_ok hs ⟨fun h => absurd rfl h, fun _ => q_noSheet_ok hto ⟨fun _ => ⟨fun _ => q_there hs hz x1 ⟨fun h => absurd rfl h, fun _ => q_there hto hy y1 ⟨fun _ => q_spans_ok hs x1 hz c1 ⟨fun h => absurd h n10, fun _ => q_spans_bad hto y1 hy hj hk c2 ⟨fun h => absurd rfl h, fun _ => hp⟩⟩, fun h => absurd rfl h⟩⟩, fun h => absurd f0 h⟩, fun h => absurd rfl h⟩⟩
    · refine q_isSheet_ok hs ⟨fun h => absurd h n10, fun _ => q_isSheet_ok hto ⟨fun _ => ⟨fun _ => ⟨in4 hs, ?_⟩, fun h => absurd f0 h⟩, fun h => absurd h n10⟩⟩
      rw [cs, x2, ct, y2]
      exact ⟨fun h => absurd h z0, fun _ => ⟨in4 hto, fun _ => ⟨fun h => absurd h hb, fun _ => ⟨fun h => absurd h he, fun _ => ⟨in4 hs, fun h => absurd h g1, fun _ => ⟨in4 hto, fun h => absurd ((long_lt hj hk hy).mpr c2) ((cmp_le _ _).mp h), fun _ => hp⟩⟩⟩⟩, fun h => absurd y0 h⟩⟩
  have g2 : lg_cmp ((nI j).toInt64 + (nI k).toInt64) (nI y).toInt64 ≤ 0 := (cmp_le _ _).mpr (fun h => ((long_lt hj hk hy).mp h) c2)
  have q1 : (nI (s * 10 + i)).toNatClampNeg = s * 10 + i := nI_clamp (by omega)
  have q2 : (nI (to * 10 + j)).toNatClampNeg = to * 10 + j := nI_clamp (by omega)
  have q3 : (nI k).toNatClampNeg = k := nI_clamp hk
  refine ⟨1, st_R σ 20 (va_cpy (σ.2.1 20) (σ.2.1 20) (s * 10 + i) (to * 10 + j) k), st_R (st_R τ 18 (fb_put (τ.2.1 18) (fun t => τ.2.1 17 (10 * s + i + t)) 0 k)) 17 (fb_put (τ.2.1 17) (fun t => fb_put (τ.2.1 18) (fun t => τ.2.1 17 (10 * s + i + t)) 0 k t) (10 * to + j) k), fun post hp => ?_, fun post hp => ?_, ⟨⟨_, n, u, d, sp, se, gr, R_copy hx hs hto x1 y1 hz hy c1 c2⟩, ⟨_, n, u', d', sp', se', gr', R_copy hz9 hs hto (Rm_sheet hz9 hs hz x2).1 (Rm_sheet hz9 hto hy y2).1 hz hy c1 c2⟩, Wk_mv hw9 (fx_R FX_rf rfl) (fm_R (fm_R FM_rf rfl) rfl)⟩⟩
  · refine q_noSheet_ok hs ⟨fun h => absurd rfl h, fun _ => q_noSheet_ok hto ⟨fun _ => ⟨fun _ => q_there hs hz x1 ⟨fun h => absurd rfl h, fun _ => q_there hto hy y1 ⟨fun _ => q_spans_ok hs x1 hz c1 ⟨fun h => absurd h n10, fun _ => q_spans_ok hto y1 hy c2 ⟨fun _ => ?_, fun h => absurd h n10⟩⟩, fun h => absurd rfl h⟩⟩, fun h => absurd f0 h⟩, fun h => absurd rfl h⟩⟩
    unfold wX7_move
    simp only [forall_eq, mulr10, q1, q2, q3]
    exact ⟨nI_pos (by omega), nI_pos (by omega), nI_pos hk, by omega, by omega, hp⟩
  · refine q_isSheet_ok hs ⟨fun h => absurd h n10, fun _ => q_isSheet_ok hto ⟨fun _ => ⟨fun _ => ⟨in4 hs, ?_⟩, fun h => absurd f0 h⟩, fun h => absurd h n10⟩⟩
    rw [cs, x2, ct, y2]
    exact ⟨fun h => absurd h z0, fun _ => ⟨in4 hto, fun _ => ⟨fun h => absurd h hb, fun _ => ⟨fun h => absurd h he, fun _ => ⟨in4 hs, fun h => absurd h g1, fun _ => ⟨in4 hto, fun _ => q_mcopy hs hto (by omega) (by omega) hp, fun h => absurd g2 h⟩⟩⟩⟩, fun h => absurd y0 h⟩⟩
