/-! ===== pure: digest, whole ===== -/
theorem q_xsheets {σ τ : St} {h0 : Int64} {post : Int64 → Prop} (hsh : R_sh σ τ) (h : post (dsF (σ.2.1 19) (shL σ) (fun s i => σ.2.1 20 (s * 10 + i)) h0 4)) : wX9_digestOfSheets σ h0 post := by
  obtain ⟨v, hv, hw⟩ := lp_val (Pt := Int64 → Prop) (fun K k i acc => lpX9_digestOfSheets_5 σ K k acc i) (fun K acc => K acc)
    (fun i acc => acc = dsF (σ.2.1 19) (shL σ) (fun s i => σ.2.1 20 (s * 10 + i)) h0 i) 4
    (fun K acc k _ hp2 => by
      rw [lpX9_digestOfSheets_5]
      exact ⟨fun _ => hp2, fun h => absurd (nI_le (a := 4) (b := 4) (by omega) (by omega)) h⟩)
    (fun i acc hi hI => by
      refine ⟨_, rfl, fun K k h => ?_⟩
      rw [lpX9_digestOfSheets_5]
      refine ⟨fun h2 => absurd h2 (nI_ge (a := i) (b := 4) hi (by omega)), fun _ => ⟨in4 hi, ?_⟩⟩
      simp only [forall_eq, nI_1, nI_clamp (show i < 2 ^ 31 by omega)]
      rw [hI]
      exact q_xd32 hi hsh h)
    4 0 h0 (by omega) rfl
  exact ⟨_, hw _ (by rw [hv]; exact h)⟩
theorem q_msheets {σ τ : St} {h0 : Int64} {K : Int64 → Prop} (hsh : R_sh σ τ) (h : K (dsF (σ.2.1 19) (shL σ) (fun s i => σ.2.1 20 (s * 10 + i)) h0 4)) : ∃ n : Nat, lpX10_digest_156 τ K n h0 (0 : Int32) := by
  obtain ⟨v, hv, hw⟩ := lp_val (Pt := Int64 → Prop) (fun K k i acc => lpX10_digest_156 τ K k acc i) (fun K acc => K acc)
    (fun i acc => acc = dsF (σ.2.1 19) (shL σ) (fun s i => σ.2.1 20 (s * 10 + i)) h0 i) 4
    (fun K acc k _ hp2 => by
      rw [lpX10_digest_156]
      exact ⟨fun _ => hp2, fun h => absurd (nI_le (a := 4) (b := 4) (by omega) (by omega)) h⟩)
    (fun i acc hi hI => by
      refine ⟨_, rfl, fun K k h => ?_⟩
      rw [lpX10_digest_156]
      refine ⟨fun h2 => absurd h2 (nI_ge (a := i) (b := 4) hi (by omega)), fun _ => ⟨in4 hi, ?_⟩⟩
      simp only [forall_eq, nI_1, nI_clamp (show i < 2 ^ 31 by omega)]
      rw [hI]
      rw [dsF] at h
      rcases hsh i hi with hm | ⟨z, hz, x1, x2, hv⟩
      · rw [hm.2]
        rw [hm.1] at h
        exact ⟨fun h2 => absurd h2 m9, fun _ => q_md191 hi hsh h⟩
      · rw [x2]
        rw [x1] at h
        exact ⟨fun _ => ⟨in4 hi, q_md191 hi hsh h⟩, fun h2 => absurd le0 h2⟩)
    4 0 h0 (by omega) rfl
  exact ⟨_, hw _ (by rw [hv]; exact h)⟩
theorem q_mtells {σ τ : St} {n u d sp se gr p k : Nat} {post : Int32 → Prop} (ha9 : R_all σ τ n u d sp se gr) (hp : p < n) (hk : k < 5) (h : post (tlF σ u d sp se p k)) : wX10_tells τ (nI p) (nI k) post := by
  have hml := R_mlog ha9
  obtain ⟨⟨⟨h6, m1, hn⟩, ⟨u1, u2, hu⟩, ⟨d1, d2, hd⟩, hsc⟩, har, hpe, hus, hst, hro, hpl, hsh, hba⟩ := id ha9
  have hp10 : p < 10 := by omega
  have cp : (nI p).toNatClampNeg = p := nI_clamp (by omega)
  rcases (show k = 0 ∨ k = 1 ∨ k = 2 ∨ k = 3 ∨ k = 4 by omega) with rfl | rfl | rfl | rfl | rfl
  · refine ⟨fun _ => ⟨in10 hp10, ?_⟩, fun h => absurd rfl h⟩
    rw [cp, har.2.2.1]; exact h
  · have z0 : ¬ nI 1 = (0 : Int32) := by decide
    refine ⟨fun h => absurd h z0, fun _ => ⟨fun _ => ⟨in10 hp10, ?_⟩, fun h => absurd rfl h⟩⟩
    rw [cp, har.2.2.2.1]; exact h
  · have z0 : ¬ nI 2 = (0 : Int32) := by decide
    have z1 : ¬ nI 2 = (1 : Int32) := by decide
    refine ⟨fun h => absurd h z0, fun _ => ⟨fun h => absurd h z1, fun _ => ⟨fun _ => q_mkept hml hp10 ?_, fun h => absurd rfl h⟩⟩⟩
    rw [R_kept ha9]; exact h
  · have z0 : ¬ nI 3 = (0 : Int32) := by decide
    have z1 : ¬ nI 3 = (1 : Int32) := by decide
    have z2 : ¬ nI 3 = (2 : Int32) := by decide
    exact ⟨fun h => absurd h z0, fun _ => ⟨fun h => absurd h z1, fun _ => ⟨fun h => absurd h z2, fun _ => ⟨fun _ => q_mstruck hp10 hst hd (hpe.1 p).2.2.1 h, fun h => absurd rfl h⟩⟩⟩⟩
  · have z0 : ¬ nI 4 = (0 : Int32) := by decide
    have z1 : ¬ nI 4 = (1 : Int32) := by decide
    have z2 : ¬ nI 4 = (2 : Int32) := by decide
    have z3 : ¬ nI 4 = (3 : Int32) := by decide
    refine ⟨fun h => absurd h z0, fun _ => ⟨fun h => absurd h z1, fun _ => ⟨fun h => absurd h z2, fun _ => ⟨fun h => absurd h z3, fun _ => q_mper u2 hu ?_⟩⟩⟩⟩
    rw [har.2.2.2.2.1]; exact h
theorem q_mpeople {σ τ : St} {n u d sp se gr : Nat} {h0 : Int64} {K : Int64 → Prop} (ha9 : R_all σ τ n u d sp se gr) (h : K (dpF (tlF σ u d sp se) h0 n)) : ∃ k : Nat, lpX10_digest_6 τ K k h0 (0 : Int32) := by
  have m1 : τ.1 1 = nI n := ha9.1.1.2.1
  have hn : n ≤ 10 := ha9.1.1.2.2
  obtain ⟨v, hv, hw⟩ := lp_val (Pt := Int64 → Prop) (fun K k i acc => lpX10_digest_6 τ K k acc i) (fun K acc => K acc)
    (fun i acc => acc = dpF (tlF σ u d sp se) h0 i) n
    (fun K acc k _ hp2 => by
      rw [lpX10_digest_6, m1]
      exact ⟨fun _ => hp2, fun h => absurd (nI_le (Nat.le_refl n) (by omega)) h⟩)
    (fun i acc hi hI => by
      refine ⟨_, rfl, fun K k h => ?_⟩
      rw [lpX10_digest_6, m1]
      refine ⟨fun h2 => absurd h2 (nI_ge hi (by omega)), fun _ => ?_⟩
      obtain ⟨w, hw1, hw2⟩ := lp_val (Pt := Int64 → Prop) (fun K k j acc => lpX10_digest_17 (nI i) τ K k acc j) (fun K acc => K acc)
        (fun j a => a = dgF (tlF σ u d sp se i) acc j) 5
        (fun K a k _ hp2 => by
          rw [lpX10_digest_17]
          exact ⟨fun _ => hp2, fun h => absurd (nI_lt (a := 4) (b := 5) (by omega) (by omega)) h⟩)
        (fun j a hj hJ => by
          refine ⟨_, rfl, fun K k h => ?_⟩
          rw [lpX10_digest_17]
          refine ⟨fun h2 => absurd h2 (nI_nlt (a := 4) (b := j) (by omega) (by omega)), fun _ => q_mtells ha9 hi hj ?_⟩
          simp only [forall_eq, nI_1]
          rw [hJ]
          exact h)
        5 0 acc (by omega) rfl
      refine ⟨_, hw2 (fun (y4 : Int64) => ∀ x5 : Int32, x5 = nI i + (1 : Int32) → (lpX10_digest_6 τ K k y4 x5)) ?_⟩
      simp only [forall_eq, nI_1]
      rw [hw1, hI]
      exact h)
    n 0 h0 (by omega) rfl
  exact ⟨_, hw _ (by rw [hv]; exact h)⟩
def PairL (wx : (Int64 → St → Prop) → Prop) (wm : (Int64 → Prop) → Prop) (τ : St) : Prop := ∃ (r : Int64) (σ : St), (∀ post, post r σ → wx post) ∧ (∀ post, post r → wm post) ∧ R_ok σ τ
theorem pr_digest {σ τ : St} (hR : R_ok σ τ) : PairL (wX9_digest σ) (wX10_digest τ) τ := by
  obtain ⟨n, u, d, sp, se, gr, ha9⟩ := id hR
  have hxl := R_xlog ha9
  obtain ⟨⟨⟨h6, m1, hn⟩, ⟨u1, u2, hu⟩, ⟨d1, d2, hd⟩, _, _, _, ⟨g7, _⟩, _⟩, har, hpe, hus, hst, hro, hpl, hsh, hba⟩ := id ha9
  obtain ⟨_, _, _, _, a5, a6, a7, a8⟩ := har
  refine ⟨dsF (σ.2.1 19) (shL σ) (fun s i => σ.2.1 20 (s * 10 + i)) (dgF (σ.2.1 17) (duF (σ.2.1 6) (σ.2.1 7) (σ.2.1 8) (31 * (31 * dpF (tlF σ u d sp se) 17 n + (σ.1 0).toInt64) + (σ.1 2).toInt64) u) 12) 4, _, fun post hp => ?_, fun post hp => ?_, ⟨n, u, d, sp, se, gr, R_scr (fb_put (σ.2.1 0) (fun p => xkept σ u d sp se p) 0 n) ha9⟩⟩
  · refine q_xpeople hxl h6 hn ?_
    simp only [forall_eq]
    refine q_xd37 (σ := st_R σ 0 (fb_put (σ.2.1 0) (fun p => xkept σ u d sp se p) 0 n)) (u := u) u1 hu (q_xd107 (σ := st_R σ 0 (fb_put (σ.2.1 0) (fun p => xkept σ u d sp se p) 0 n)) (q_xsheets (σ := st_R σ 0 (fb_put (σ.2.1 0) (fun p => xkept σ u d sp se p) 0 n)) (τ := τ) hsh ?_))
    exact hp
  · refine q_mpeople ha9 ?_
    simp only [forall_eq]
    rw [g7, d2, ← d1]
    refine q_md74 u2 hu ?_
    rw [a5, a6, a7]
    refine q_md128 ?_
    rw [a8]
    exact q_msheets hsh hp
