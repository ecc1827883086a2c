/-! ===== pure: use, ban ===== -/
theorem pr_use {σ τ : St} (hR : R_ok σ τ) (a b c : Int32) : Pair (wX9_use σ a b c) (wX10_use τ a b c) := by
  obtain ⟨n, u, d, sp, se, gr, ha9⟩ := id hR
  obtain ⟨⟨⟨h6, m1, hn⟩, ⟨u1, u2, hu⟩, ⟨d1, d2, hd⟩, hsc⟩, har, hpe, hus, hst, hro, hpl, hsh, hba⟩ := id ha9
  rcases rg_cases a (n := n) (by omega) with ⟨p, hp, rfl⟩ | ha
  case inr =>
    refine pair_bad (-1) hR (fun post hp => ?_) (fun post hp => ?_)
    · exact q_noPerson_bad h6 ha ⟨fun _ => hp, fun h => absurd h n10⟩
    · exact q_isPerson_bad m1 hn ha ⟨fun _ => hp, fun h => absurd rfl h⟩
  have hp10 : p < 10 := by omega
  rcases rg_cases b (n := 12) (by omega) with ⟨r, hr, rfl⟩ | ha
  case inr =>
    refine pair_bad (-1) hR (fun post hpo => ?_) (fun post hpo => ?_)
    · exact q_noPerson_ok h6 hn hp ⟨fun h => absurd rfl h, fun _ => q_noRight_bad ha ⟨fun _ => hpo, fun h => absurd h n10⟩⟩
    · exact q_isPerson_ok m1 hn hp ⟨fun h => absurd h n10, fun _ => q_isRight_bad ha ⟨fun _ => hpo, fun h => absurd rfl h⟩⟩
  rcases rg0 c (N := d) (by omega) with ⟨k, hk, rfl⟩ | ha
  case inr =>
    refine pair_bad (-1) hR (fun post hpo => ?_) (fun post hpo => ?_)
    · refine q_noPerson_ok h6 hn hp ⟨fun h => absurd rfl h, fun _ => q_noRight_ok hr ⟨fun h => absurd rfl h, fun _ => ?_⟩⟩
      rw [d1]
      exact ⟨fun _ => hpo, fun h => ⟨fun h2 => (ha.elim (fun z => absurd z h) (fun z => absurd z (Int32.not_lt.mpr h2))), fun _ => hpo⟩⟩
    · refine q_isPerson_ok m1 hn hp ⟨fun h => absurd h n10, fun _ => q_isRight_ok hr ⟨fun h => absurd h n10, fun _ => ?_⟩⟩
      rw [d2]
      exact q_in_bad ha ⟨fun h => absurd rfl h, fun _ => hpo⟩
  have c1 : ¬ nI k < 0 := nI_pos (by omega)
  have c2 : nI k ≤ nI d := nI_le hk (by omega)
  by_cases hf : u = 400
  · refine pair_bad (-2) hR (fun post hpo => ?_) (fun post hpo => ?_)
    · refine q_noPerson_ok h6 hn hp ⟨fun h => absurd rfl h, fun _ => q_noRight_ok hr ⟨fun h => absurd rfl h, fun _ => ?_⟩⟩
      rw [d1]
      refine ⟨fun h => absurd h c1, fun _ => ⟨fun _ => ⟨fun h => ?_, fun _ => hpo⟩, fun h => absurd c2 h⟩⟩
      rw [u1, hf] at h
      exact absurd h (by decide)
    · refine q_isPerson_ok m1 hn hp ⟨fun h => absurd h n10, fun _ => q_isRight_ok hr ⟨fun h => absurd h n10, fun _ => ?_⟩⟩
      rw [d2]
      exact q_in_ok (Int32.not_lt.mp c1) c2 ⟨fun _ => ⟨fun h => absurd (by rw [u2, hf]; rfl) h, fun _ => hpo⟩, fun h => absurd h n10⟩
  have hu4 : u < 400 := by omega
  have hin : vp_in (nI u) 400 := vp_in_nI hu4 (by omega)
  have x4 : nI u < (400 : Int32) := nI_lt (b := 400) hu4 (by omega)
  have y4 : ¬ nI u = (400 : Int32) := fun h => hf ((nI_eq (b := 400) (by omega) (by omega)).mp h)
  have es : nI d - nI k = nI (d - k) := pk_sub hk
  cases hb : bt (σ.2.1 3 p) r
  · refine pair_bad (-4) hR (fun post hpo => ?_) (fun post hpo => ?_)
    · refine q_noPerson_ok h6 hn hp ⟨fun h => absurd rfl h, fun _ => q_noRight_ok hr ⟨fun h => absurd rfl h, fun _ => ?_⟩⟩
      rw [d1, u1]
      refine ⟨fun h => absurd h c1, fun _ => ⟨fun _ => ⟨fun _ => q_xhas hp10 (by omega) ?_, fun h => absurd x4 h⟩, fun h => absurd c2 h⟩⟩
      rw [hb]
      exact ⟨fun h => absurd rfl h, fun _ => hpo⟩
    · refine q_isPerson_ok m1 hn hp ⟨fun h => absurd h n10, fun _ => q_isRight_ok hr ⟨fun h => absurd h n10, fun _ => ?_⟩⟩
      rw [d2, u2]
      refine q_in_ok (Int32.not_lt.mp c1) c2 ⟨fun _ => ⟨fun _ => ⟨in10 hp10, q_has (by omega) ?_⟩, fun h => absurd h y4⟩, fun h => absurd h n10⟩
      rw [cl, har.2.2.2.1, hb]
      exact ⟨fun h => absurd rfl h, fun _ => hpo⟩
  refine ⟨nI (u + 1), st_S (st_A (st_A (st_A σ 6 u (nI p)) 7 u (nI r)) 8 u (nI (d - k))) 7 (nI (u + 1)), st_S (st_A (st_A (st_A τ 4 u (nI p)) 5 u (nI r)) 6 u (nI (d - k))) 7 (nI (u + 1)), fun post hpo => ?_, fun post hpo => ?_, ?_⟩
  · refine q_noPerson_ok h6 hn hp ⟨fun h => absurd rfl h, fun _ => q_noRight_ok hr ⟨fun h => absurd rfl h, fun _ => ?_⟩⟩
    rw [d1, u1]
    refine ⟨fun h => absurd h c1, fun _ => ⟨fun _ => ⟨fun _ => q_xhas hp10 (by omega) ?_, fun h => absurd x4 h⟩, fun h => absurd c2 h⟩⟩
    rw [hb]
    refine ⟨fun _ => ?_, fun h => absurd h n10⟩
    unfold wX8_enter
    simp only [forall_eq, st_A1, st_S1, u1, es, if_true, nI_1, nI_clamp (show u < 2 ^ 31 by omega)]
    exact ⟨hin, hin, hin, hpo⟩
  · refine q_isPerson_ok m1 hn hp ⟨fun h => absurd h n10, fun _ => q_isRight_ok hr ⟨fun h => absurd h n10, fun _ => ?_⟩⟩
    simp only [forall_eq, st_A1, st_S1, d2, u2, es, if_true, nI_1, nI_clamp (show u < 2 ^ 31 by omega)]
    refine q_in_ok (Int32.not_lt.mp c1) c2 ⟨fun _ => ⟨fun _ => ⟨in10 hp10, q_has (by omega) ?_⟩, fun h => absurd h y4⟩, fun h => absurd h n10⟩
    rw [cl, har.2.2.2.1, hb]
    exact ⟨fun _ => ⟨hin, hin, hin, hpo⟩, fun h => absurd h n10⟩
  · refine ⟨n, u + 1, d, sp, se, gr, ⟨⟨h6, m1, hn⟩, ⟨rfl, rfl, by omega⟩, ⟨d1, d2, hd⟩, hsc⟩, ?_, hpe, ?_, hst, hro, hpl, hsh, hba⟩
    · obtain ⟨r1, r2, r3, r4, r5, r6, r7, r8⟩ := har
      exact ⟨r1, r2, r3, r4, show upd (τ.2.1 4) u _ = upd (σ.2.1 6) u _ by rw [r5], show upd (τ.2.1 5) u _ = upd (σ.2.1 7) u _ by rw [r6], show upd (τ.2.1 6) u _ = upd (σ.2.1 8) u _ by rw [r7], r8⟩
    · intro q hq
      show (∃ p', p' < n ∧ upd (σ.2.1 6) u (nI p) q = nI p') ∧ (∃ r', r' < 12 ∧ upd (σ.2.1 7) u (nI r) q = nI r') ∧ ∃ e, e ≤ d ∧ upd (σ.2.1 8) u (nI (d - k)) q = nI e
      by_cases e : q = u
      · subst e
        rw [pk_us, pk_us, pk_us]
        exact ⟨⟨p, hp, rfl⟩, ⟨r, hr, rfl⟩, d - k, by omega, rfl⟩
      · rw [pk_un e, pk_un e, pk_un e]
        exact hus q (by omega)
def opb (c : Bool) (x : Int32) (k : Nat) : Int32 := if c then x ||| ((1 : Int32) <<< (nI k &&& 31)) else x &&& (((1 : Int32) <<< (nI k &&& 31)) ^^^ (-1))
theorem opb_bt {c : Bool} {x : Int32} {k j : Nat} (hk : k < 32) (hj : j < 32) : bt (opb c x k) j = if j = k then c else bt x j := by
  unfold opb
  cases c
  · rw [if_neg (by decide), b_and, pb_not hj, pb_one hk hj]
    by_cases e : j = k <;> simp [e]
  · rw [if_pos rfl, b_or, pb_one hk hj]
    by_cases e : j = k <;> simp [e]
theorem opb_sm {c : Bool} {x : Int32} {k : Nat} (hk : k < 12) (h : sm x) : sm (opb c x k) := by
  intro i hi
  rcases Nat.lt_or_ge i 32 with h2 | h2
  · rw [opb_bt (by omega) h2, if_neg (by omega)]; exact h i hi
  · exact b_big h2
theorem R_ban {σ τ : St} {n u d sp se gr a b : Nat} {c : Bool} (hR : R_all σ τ n u d sp se gr) (ha : a < 12) (hb : b < 12) (hne : a ≠ b) :
    R_all (st_A (st_A σ 17 a (opb c (σ.2.1 17 a) b)) 17 b (opb c (σ.2.1 17 b) a)) (st_A (st_A τ 14 a (opb c (σ.2.1 17 a) b)) 14 b (opb c (σ.2.1 17 b) a)) n u d sp se gr := by
  obtain ⟨hsc, har, hpe, hus, hst, hro, hpl, hsh, hba⟩ := hR
  refine ⟨hsc, ?_, hpe, hus, hst, hro, hpl, hsh, ?_⟩
  · obtain ⟨r1, r2, r3, r4, r5, r6, r7, r8⟩ := har
    exact ⟨r1, r2, r3, r4, r5, r6, r7, show upd (upd (τ.2.1 14) a _) b _ = upd (upd (σ.2.1 17) a _) b _ by rw [r8]⟩
  · have key : ∀ i j, j < 32 → bt (upd (upd (σ.2.1 17) a (opb c (σ.2.1 17 a) b)) b (opb c (σ.2.1 17 b) a) i) j = if (i = a ∧ j = b) ∨ (i = b ∧ j = a) then c else bt (σ.2.1 17 i) j := by
      intro i j hj
      by_cases e : i = b
      · subst e
        rw [pk_us, opb_bt (by omega) hj]
        by_cases e2 : j = a
        · simp [e2]
        · have : ¬ i = a := fun z => hne z.symm
          simp [e2, this]
      · rw [pk_un e]
        by_cases e2 : i = a
        · subst e2
          rw [pk_us, opb_bt (by omega) hj]
          by_cases e3 : j = b <;> simp [e, e3]
        · rw [pk_un e2]
          simp [e, e2]
    have hsm : ∀ i, sm (upd (upd (σ.2.1 17) a (opb c (σ.2.1 17 a) b)) b (opb c (σ.2.1 17 b) a) i) := by
      intro i
      by_cases e : i = b
      · subst e; rw [pk_us]; exact opb_sm ha (hba.1 _)
      · rw [pk_un e]
        by_cases e2 : i = a
        · subst e2; rw [pk_us]; exact opb_sm hb (hba.1 _)
        · rw [pk_un e2]; exact hba.1 i
    refine ⟨hsm, fun i j => ?_⟩
    show bt (upd (upd (σ.2.1 17) a (opb c (σ.2.1 17 a) b)) b (opb c (σ.2.1 17 b) a) i) j = bt (upd (upd (σ.2.1 17) a (opb c (σ.2.1 17 a) b)) b (opb c (σ.2.1 17 b) a) j) i
    rcases Nat.lt_or_ge i 32 with hi | hi <;> rcases Nat.lt_or_ge j 32 with hj | hj
    · rw [key i j hj, key j i hi, hba.2 i j]
      have : ((i = a ∧ j = b) ∨ (i = b ∧ j = a)) ↔ ((j = a ∧ i = b) ∨ (j = b ∧ i = a)) := by omega
      simp only [this]
    · rw [b_big hj, key j i hi, if_neg (by omega), ← hba.2 i j, b_big hj]
    · rw [b_big hi, key i j hj, if_neg (by omega), hba.2 i j, b_big hi]
    · rw [b_big hi, b_big hj]
theorem pr_ban {σ τ : St} (hR : R_ok σ τ) (a b c : Int32) : Pair (wX9_ban σ a b c) (wX10_ban τ a b c) := by
  obtain ⟨n, u, d, sp, se, gr, ha9⟩ := id hR
  obtain ⟨hsc, har, hpe, hus, hst, hro, hpl, hsh, hba⟩ := id ha9
  rcases rg_cases a (n := 12) (by omega) with ⟨i, hi, rfl⟩ | ha
  case inr =>
    refine pair_bad (-1) hR (fun post hp => ?_) (fun post hp => ?_)
    · exact q_noRight_bad ha ⟨fun _ => hp, fun h => absurd h n10⟩
    · exact q_isRight_bad ha ⟨fun _ => hp, fun h => absurd rfl h⟩
  rcases rg_cases b (n := 12) (by omega) with ⟨j, hj, rfl⟩ | ha
  case inr =>
    refine pair_bad (-1) hR (fun post hpo => ?_) (fun post hpo => ?_)
    · exact q_noRight_ok hi ⟨fun h => absurd rfl h, fun _ => q_noRight_bad ha ⟨fun _ => hpo, fun h => absurd h n10⟩⟩
    · exact q_isRight_ok hi ⟨fun h => absurd h n10, fun _ => q_isRight_bad ha ⟨fun _ => hpo, fun h => absurd rfl h⟩⟩
  by_cases hij : i = j
  · subst hij
    refine pair_bad (-1) hR (fun post hpo => ?_) (fun post hpo => ?_)
    · exact q_noRight_ok hi ⟨fun h => absurd rfl h, fun _ => q_noRight_ok hi ⟨fun h => absurd rfl h, fun _ => ⟨fun h => absurd rfl h, fun _ => hpo⟩⟩⟩
    · exact q_isRight_ok hi ⟨fun h => absurd h n10, fun _ => q_isRight_ok hi ⟨fun h => absurd h n10, fun _ => ⟨fun h => absurd rfl h, fun _ => hpo⟩⟩⟩
  have hne : ¬ nI i = nI j := fun h => hij ((nI_eq (by omega) (by omega)).mp h)
  have ii : vp_in (nI i) 12 := vp_in_nI hi (by omega)
  have ij : vp_in (nI j) 12 := vp_in_nI hj (by omega)
  have ci : (nI i).toNatClampNeg = i := nI_clamp (by omega)
  have cj : (nI j).toNatClampNeg = j := nI_clamp (by omega)
  have uj : ∀ (w : Nat → Int32) (x : Int32), upd w i x j = w j := fun w x => pk_un (fun z => hij z.symm)
  refine ⟨if bt (σ.2.1 17 i) j then 1 else 0, _, _, fun post hpo => ?_, fun post hpo => ?_, ⟨n, u, d, sp, se, gr, R_ban (c := !decide (c = 0)) ha9 hi hj hij⟩⟩
  · refine q_noRight_ok hi ⟨fun h => absurd rfl h, fun _ => q_noRight_ok hj ⟨fun h => absurd rfl h, fun _ => ⟨fun _ => ?_, fun h => absurd h hne⟩⟩⟩
    unfold wX0_put
    simp only [forall_eq, st_A2, if_true, ci, cj, uj, pb_bit1 (x := σ.2.1 17 i) (show j < 32 by omega)]
    refine ⟨ii, fun h => ⟨ii, ii, ij, ij, ?_⟩, fun h => ⟨ii, ii, ij, ij, ?_⟩⟩
    · simpa [opb, h] using hpo
    · simpa [opb, h] using hpo
  · refine q_isRight_ok hi ⟨fun h => absurd h n10, fun _ => q_isRight_ok hj ⟨fun h => absurd h n10, fun _ => ⟨fun _ => ⟨ii, q_has (by omega) ?_⟩, fun h => absurd h hne⟩⟩⟩
    have e14 := har.2.2.2.2.2.2.2
    simp only [forall_eq, st_A2, if_true, ci, cj, uj, e14]
    by_cases c0 : c = 0
    · simp only [opb, c0, decide_true, Bool.not_true, Bool.false_eq_true, if_false] at hpo
      cases hb : bt (σ.2.1 17 i) j
      · rw [hb] at hpo
        exact ⟨fun _ => ⟨fun _ => ⟨ii, ii, fun _ => ⟨ij, ij, hpo⟩, fun h => absurd c0 h⟩, fun h => absurd c0 h⟩, fun h => absurd rfl h⟩
      · rw [hb] at hpo
        exact ⟨fun h => absurd h n10, fun _ => ⟨fun _ => ⟨ii, ii, fun _ => ⟨ij, ij, hpo⟩, fun h => absurd c0 h⟩, fun h => absurd c0 h⟩⟩
    · simp only [opb, c0, decide_false, Bool.not_false, if_true] at hpo
      cases hb : bt (σ.2.1 17 i) j
      · rw [hb] at hpo
        exact ⟨fun _ => ⟨fun h => absurd h c0, fun _ => ⟨ii, ii, fun h => absurd h c0, fun _ => ⟨ij, ij, hpo⟩⟩⟩, fun h => absurd rfl h⟩
      · rw [hb] at hpo
        exact ⟨fun h => absurd h n10, fun _ => ⟨fun h => absurd h c0, fun _ => ⟨ii, ii, fun h => absurd h c0, fun _ => ⟨ij, ij, hpo⟩⟩⟩⟩
