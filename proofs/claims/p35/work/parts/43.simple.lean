/-! ===== pure: the simple calls ===== -/
theorem st_A1 (σ : St) (j i : Nat) (v : Int32) (k : Nat) : (st_A σ j i v).1 k = σ.1 k := rfl
theorem st_A2 (σ : St) (j i : Nat) (v : Int32) (a : Nat) : (st_A σ j i v).2.1 a = if a = j then upd (σ.2.1 j) i v else σ.2.1 a := rfl
theorem st_S1 (σ : St) (k : Nat) (v : Int32) (j : Nat) : (st_S σ k v).1 j = if j = k then v else σ.1 j := rfl
theorem st_S2 (σ : St) (k : Nat) (v : Int32) : (st_S σ k v).2 = σ.2 := rfl
theorem n10 : ¬ (1 : Int32) = 0 := by decide
theorem R_person {σ τ : St} {n u d sp se gr m k : Nat} (hR : R_all σ τ n u d sp se gr) (hlt : n < 10) (hm : m < 256) (hk : k < 4096) :
    R_all (st_S (st_A (st_A σ 2 n (nI m)) 3 n (nI k)) 6 (nI (n + 1))) (st_S (st_A (st_A τ 1 n (nI m)) 2 n (nI k)) 1 (nI (n + 1))) (n + 1) u d sp se gr := by
  obtain ⟨⟨⟨h6, m1, hn⟩, hsc⟩, har, hpe, hus, hst, hro, hpl, hsh, hba⟩ := hR
  refine ⟨⟨⟨rfl, rfl, by omega⟩, hsc⟩, ?_, ?_, ?_, hst, hro, ?_, hsh, hba⟩
  · obtain ⟨r1, r2, r3, r4, r5⟩ := har
    exact ⟨r1, r2, show upd (τ.2.1 1) n _ = upd (σ.2.1 2) n _ by rw [r3], show upd (τ.2.1 2) n _ = upd (σ.2.1 3) n _ by rw [r4], r5⟩
  · refine ⟨fun p => ?_, fun p hp => hpe.2 p (by omega)⟩
    obtain ⟨g1, g2, g3, g4⟩ := hpe.1 p
    show (∃ m' : Nat, m' < 256 ∧ upd (σ.2.1 2) n (nI m) p = nI m') ∧ sm (upd (σ.2.1 3) n (nI k) p) ∧ sm (σ.2.1 4 p) ∧ True
    by_cases e : p = n
    · subst e
      rw [pk_us, pk_us]
      exact ⟨⟨m, hm, rfl⟩, sm_of hk, g3, trivial⟩
    · rw [pk_un e, pk_un e]
      exact ⟨g1, g2, g3, trivial⟩
  · intro q hq
    obtain ⟨⟨p, hp, e⟩, h2⟩ := hus q hq
    exact ⟨⟨p, by omega, e⟩, h2⟩
  · rcases hpl with h | ⟨h, m', hm', h2⟩
    · exact Or.inl h
    · exact Or.inr ⟨h, m', by omega, h2⟩
theorem pr_person {σ τ : St} (hR : R_ok σ τ) (a b : Int32) : Pair (wX9_person σ a b) (wX10_person τ a b) := by
  obtain ⟨n, u, d, sp, se, gr, ha9⟩ := id hR
  obtain ⟨⟨⟨h6, m1, hn⟩, hsc⟩, har, hpe, hus, hst, hro, hpl, hsh, hba⟩ := id ha9
  rcases rg_cases a (n := 256) (by omega) with ⟨m, hm, rfl⟩ | ha
  case inr =>
    refine pair_bad (-1) hR (fun post hp => ?_) (fun post hp => ?_)
    · exact q_noMark_bad ha ⟨fun _ => hp, fun h => absurd h n10⟩
    · exact q_in_bad (ha.imp id (fun h => lt_pre (n := 255) (by omega) h)) ⟨fun _ => hp, fun h => absurd rfl h⟩
  have hinm : (0 : Int32) ≤ nI m := nI_pos' (by omega)
  have hinm2 : nI m ≤ 255 := nI_le (b := 255) (by omega) (by omega)
  rcases rg_cases b (n := 4096) (by omega) with ⟨k, hk, rfl⟩ | ha
  case inr =>
    refine pair_bad (-1) hR (fun post hp => ?_) (fun post hp => ?_)
    · exact q_noMark_ok hm ⟨fun h => absurd rfl h, fun _ => q_noRS_bad ha ⟨fun h => absurd h n10, fun _ => hp⟩⟩
    · exact q_in_ok hinm hinm2 ⟨fun h => absurd h n10, fun _ => q_in_bad (ha.imp id (fun h => lt_pre (n := 4095) (by omega) h)) ⟨fun h => absurd rfl h, fun _ => hp⟩⟩
  have hink : (0 : Int32) ≤ nI k := nI_pos' (by omega)
  have hink2 : nI k ≤ 4095 := nI_le (b := 4095) (by omega) (by omega)
  by_cases hf : n = 10
  · subst hf
    refine pair_bad (-2) hR (fun post hp => ?_) (fun post hp => ?_)
    · exact q_noMark_ok hm ⟨fun h => absurd rfl h, fun _ => q_noRS_ok hk ⟨fun _ => ⟨fun h => absurd h (by rw [h6]; decide), fun _ => hp⟩, fun h => absurd rfl h⟩⟩
    · exact q_in_ok hinm hinm2 ⟨fun h => absurd h n10, fun _ => q_in_ok hink hink2 ⟨fun _ => ⟨fun h => absurd m1 h, fun _ => hp⟩, fun h => absurd h n10⟩⟩
  have hlt : n < 10 := by omega
  have e1 : nI n + 1 = nI (n + 1) := nI_1 n
  refine ⟨nI n, st_S (st_A (st_A σ 2 n (nI m)) 3 n (nI k)) 6 (nI (n + 1)), st_S (st_A (st_A τ 1 n (nI m)) 2 n (nI k)) 1 (nI (n + 1)), fun post hp => ?_, fun post hp => ?_, ?_⟩
  · refine q_noMark_ok hm ⟨fun h => absurd rfl h, fun _ => q_noRS_ok hk ⟨fun _ => ⟨fun _ => ?_, fun h => absurd (by rw [h6]; exact nI_lt (b := 10) hlt (by omega)) h⟩, fun h => absurd rfl h⟩⟩
    unfold wX5_join
    simp only [forall_eq, st_A1, st_S1, h6, if_true, e1, nI_pred, nI_clamp (show n < 2 ^ 31 by omega)]
    exact ⟨in10 hlt, in10 hlt, hp⟩
  · refine q_in_ok hinm hinm2 ⟨fun h => absurd h n10, fun _ => q_in_ok hink hink2 ⟨fun _ => ⟨fun _ => ?_, fun h => ?_⟩, fun h => absurd h n10⟩⟩
    · simp only [forall_eq, st_A1, st_S1, m1, if_true, e1, nI_pred, nI_clamp (show n < 2 ^ 31 by omega)]
      exact ⟨in10 hlt, in10 hlt, hp⟩
    · rw [m1] at h
      exact absurd ((nI_eq (b := 10) (by omega) (by omega)).mp h) hf
  · exact ⟨n + 1, u, d, sp, se, gr, R_person ha9 hlt hm hk⟩
