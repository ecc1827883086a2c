/-! ===== pure: plans ===== -/
theorem q_look {σ : St} {n u d sp se : Nat} {post : St → Prop} (hL : XLog σ u d sp se) (h6 : σ.1 6 = nI n) (hn : n ≤ 10) (h : post (st_R σ 0 (fb_put (σ.2.1 0) (fun p => xkept σ u d sp se p) 0 n))) : wX9_lookAtKept σ post := by
  obtain ⟨f, hf, hw⟩ := lp_val (Pt := St → Prop) (fun post k i f => lpX9_lookAtKept_2 post k i (st_R σ 0 f)) (fun post f => post (st_R σ 0 f))
    (fun i f => f = fb_put (σ.2.1 0) (fun p => xkept σ u d sp se p) 0 i) n
    (fun post acc k _ hp2 => by
      rw [lpX9_lookAtKept_2, st_R1, h6]
      exact ⟨fun _ => hp2, fun h => absurd (nI_le (Nat.le_refl n) (by omega)) h⟩)
    (fun i f hi hI => by
      refine ⟨_, rfl, fun post k h => ?_⟩
      rw [lpX9_lookAtKept_2, st_R1, h6]
      refine ⟨fun h2 => absurd h2 (nI_ge hi (by omega)), fun _ => q_xkept (σ := st_R σ 0 f) (u := u) (d := d) (sp := sp) (se := se) hL (by omega) ?_⟩
      simp only [forall_eq, st_AR, nI_1, nI_clamp (show i < 2 ^ 31 by omega)]
      refine ⟨in10 (by omega), ?_⟩
      have e := fb_put_succ (σ.2.1 0) (fun p => xkept σ u d sp se p) 0 i
      rw [Nat.zero_add] at e
      rw [hI]
      show lpX9_lookAtKept_2 post k (nI (i + 1)) (st_R σ 0 (upd _ i (xkept σ u d sp se i)))
      rw [e]
      exact h)
    n 0 (σ.2.1 0) (by omega) (fb_put_0 _ _ _).symm
  have := hw post (by rw [hf]; exact h)
  rw [st_Rself] at this
  exact ⟨_, this⟩
/-- scratch rows don't matter -/
theorem R_scr {σ τ : St} {n u d sp se gr : Nat} (g : Nat → Int32) (hR : R_all σ τ n u d sp se gr) : R_all (st_R σ 0 g) τ n u d sp se gr := hR
def sumB (f : Nat → Int32) (n : Nat) : Nat := fb_sm (fun k => fb_ct (bt (f k)) 12) n
theorem q_total {σ : St} {j N n : Nat} {post : Int32 → Prop} (hn : n ≤ N) (hN : N ≤ 12) (hs : ∀ k, k < n → sm (σ.2.1 j k)) (h : post (nI (sumB (σ.2.1 j) n))) : wX9_totalOf σ j N (nI n) post := by
  obtain ⟨v, hv, hw⟩ := lp_val (Pt := Int32 → Prop) (fun post k i acc => lpX9_totalOf_4 j N (nI n) σ post k acc i) (fun post acc => post acc)
    (fun i acc => acc = nI (sumB (σ.2.1 j) i)) n
    (fun post acc k _ hp2 => by
      rw [lpX9_totalOf_4]
      exact ⟨fun _ => hp2, fun h => absurd (nI_le (Nat.le_refl n) (by omega)) h⟩)
    (fun i acc hi hI => by
      refine ⟨_, rfl, fun post k h => ?_⟩
      rw [lpX9_totalOf_4]
      refine ⟨fun h2 => absurd h2 (nI_ge hi (by omega)), fun _ => ⟨fun h2 => absurd h2 (nI_ge (a := i) (b := N) (by omega) (by omega)), fun _ => ⟨vp_in_nI (by omega) (by omega), ?_⟩⟩⟩
      rw [cl]
      refine q_bc (hs i hi) ?_
      simp only [forall_eq, nI_1]
      rw [sumB, fb_sm_succ] at h
      rw [hI, sumB, nI_add]
      exact h)
    n 0 0 (by omega) rfl
  refine ⟨_, hw post ?_⟩
  rw [hv]; exact h
theorem q_make {σ : St} {j N n : Nat} {post : Int32 → St → Prop} (hj : j ≠ 18) (hn : n ≤ 10) (hN : n ≤ N) (hs : ∀ k, k < n → sm (σ.2.1 j k)) (h : post (nI (sumB (σ.2.1 j) n)) (st_R (st_S (st_S σ 12 1) 13 (nI n)) 18 (fb_put (σ.2.1 18) (σ.2.1 j) 0 n))) (hN2 : N ≤ 12) : wX3_make σ j N (nI n) post := by
  obtain ⟨f, hf, hw⟩ := lp_val (Pt := St → Prop) (fun K k i f => lpX3_make_12 j N (nI n) K k i (st_R (st_S (st_S σ 12 1) 13 (nI n)) 18 f)) (fun K f => K (st_R (st_S (st_S σ 12 1) 13 (nI n)) 18 f))
    (fun i f => f = fb_put (σ.2.1 18) (σ.2.1 j) 0 i) n
    (fun K acc k _ hp2 => by
      rw [lpX3_make_12]
      exact ⟨fun _ => hp2, fun h => absurd (nI_le (Nat.le_refl n) (by omega)) h⟩)
    (fun i f hi hI => by
      refine ⟨_, rfl, fun K k h => ?_⟩
      rw [lpX3_make_12]
      refine ⟨fun h2 => absurd h2 (nI_ge hi (by omega)), fun _ => ⟨vp_in_nI (by omega) (by omega), in10 (by omega), ?_⟩⟩
      have ej : (st_R (st_S (st_S σ 12 1) 13 (nI n)) 18 f).2.1 j = σ.2.1 j := if_neg hj
      simp only [forall_eq, st_AR, nI_1, ej, nI_clamp (show i < 2 ^ 31 by omega)]
      have e := fb_put_succ (σ.2.1 18) (σ.2.1 j) 0 i
      rw [Nat.zero_add] at e
      rw [hI, e]
      exact h)
    n 0 (σ.2.1 18) (by omega) (fb_put_0 _ _ _).symm
  unfold wX3_make
  simp only [forall_eq]
  have e1 : st_R (st_S (st_S σ 12 1) 13 (nI n)) 18 (σ.2.1 18) = st_S (st_S σ 12 1) 13 (nI n) := st_Rself (st_S (st_S σ 12 1) 13 (nI n)) 18
  have := hw (fun (σ5 : St) => wX9_totalOf σ5 18 10 (σ5.1 13) (fun (r6 : Int32) => post r6 σ5)) (by
    have hget : ∀ k, k < n → f k = σ.2.1 j k := fun k hk => by rw [hf, fb_put_in (by omega) (by omega)]; rfl
    refine q_total (σ := st_R (st_S (st_S σ 12 1) 13 (nI n)) 18 f) (n := n) hn (by omega) (fun k hk => ?_) ?_
    · show sm (f k); rw [hget k hk]; exact hs k hk
    · have es : sumB ((st_R (st_S (st_S σ 12 1) 13 (nI n)) 18 f).2.1 18) n = sumB (σ.2.1 j) n := fb_sm_cong (fun k hk => by show fb_ct (bt (f k)) 12 = _; rw [hget k hk])
      rw [es, hf]
      exact h)
  rw [e1] at this
  exact ⟨_, this⟩
