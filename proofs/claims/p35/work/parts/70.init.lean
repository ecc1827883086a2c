/-! ===== pure: the two new objects are tied ===== -/
def m_start : St := st_R (st_R m_init 3 (fb_put (fun _ => 0) (fun _ => -9) 0 120)) 16 (fb_put (fun _ => 0) (fun _ => -9) 0 4)
theorem pr_start : wX10_init m_init (fun τ => τ = m_start) := by
  obtain ⟨f, hf, hw⟩ := lp_val (Pt := St → Prop) (fun K k i f => lpX10_init_183 K k i (st_R m_init 3 f)) (fun K f => K (st_R m_init 3 f))
    (fun i f => f = fb_put (fun _ => 0) (fun _ => -9) 0 i) 120
    (fun K acc k _ hp2 => by
      rw [lpX10_init_183]
      exact ⟨fun _ => hp2, fun h => absurd (nI_le (a := 120) (b := 120) (by omega) (by omega)) h⟩)
    (fun i f hi hI => by
      refine ⟨_, rfl, fun K k h => ?_⟩
      rw [lpX10_init_183]
      refine ⟨fun h2 => absurd h2 (nI_ge (a := i) (b := 120) hi (by omega)), fun _ => ⟨vp_in_nI (by omega) (by omega), ?_⟩⟩
      simp only [forall_eq, st_AR, nI_1, nI_clamp (show i < 2 ^ 31 by omega)]
      have e := fb_put_succ (fun _ => 0) (fun _ => -9) 0 i
      rw [Nat.zero_add] at e
      rw [hI, e]
      exact h)
    120 0 (fun _ => 0) (by omega) (fb_put_0 _ _ _).symm
  obtain ⟨g, hg, hv⟩ := lp_val (Pt := St → Prop) (fun K k i g => lpX10_init_205 K k i (st_R (st_R m_init 3 f) 16 g)) (fun K g => K (st_R (st_R m_init 3 f) 16 g))
    (fun i g => g = fb_put (fun _ => 0) (fun _ => -9) 0 i) 4
    (fun K acc k _ hp2 => by
      rw [lpX10_init_205]
      exact ⟨fun _ => hp2, fun h => absurd (nI_le (a := 4) (b := 4) (by omega) (by omega)) h⟩)
    (fun i g hi hI => by
      refine ⟨_, rfl, fun K k h => ?_⟩
      rw [lpX10_init_205]
      refine ⟨fun h2 => absurd h2 (nI_ge (a := i) (b := 4) hi (by omega)), fun _ => ⟨in4 hi, ?_⟩⟩
      simp only [forall_eq, st_AR, nI_1, nI_clamp (show i < 2 ^ 31 by omega)]
      have e := fb_put_succ (fun _ => 0) (fun _ => -9) 0 i
      rw [Nat.zero_add] at e
      rw [hI, e]
      exact h)
    4 0 (fun _ => 0) (by omega) (fb_put_0 _ _ _).symm
  have h1 := hv (fun τ => τ = m_start) (by show st_R (st_R m_init 3 f) 16 g = m_start; rw [hf, hg]; rfl)
  have e1 : st_R (st_R m_init 3 f) 16 (fun _ => 0) = st_R m_init 3 f := st_Rself (st_R m_init 3 f) 16
  rw [e1] at h1
  have h2 := hw (fun (σ3 : St) => ∃ n6 : Nat, lpX10_init_205 (fun τ => τ = m_start) n6 (0 : Int32) σ3) ⟨_, h1⟩
  have e2 : st_R m_init 3 (fun _ => 0) = m_init := st_Rself m_init 3
  rw [e2] at h2
  exact ⟨_, h2⟩
theorem R_start : R_ok x_init m_start := by
  refine ⟨0, 0, 0, 30, 100, 60, ⟨⟨rfl, rfl, by omega⟩, ⟨rfl, rfl, by omega⟩, ⟨rfl, rfl, by omega⟩, ⟨rfl, rfl, by omega, by omega⟩, ⟨rfl, rfl, by omega, by omega⟩, ⟨rfl, rfl, by omega⟩, ⟨rfl, sm_0⟩, rfl, rfl⟩, ⟨rfl, rfl, rfl, rfl, rfl, rfl, rfl, rfl⟩, ⟨fun p => ⟨⟨0, by omega, rfl⟩, sm_0, sm_0, trivial⟩, fun p _ => rfl⟩, fun k hk => absurd hk (by omega), fun p r hp hr => ⟨fun h => ?_, fun _ => ?_⟩, ⟨⟨0, by omega, rfl, rfl, fun i hi => absurd hi (by omega)⟩, rfl⟩, Or.inl ⟨rfl, rfl⟩, fun s hs => Or.inl ⟨?_, ?_⟩, ⟨fun r => sm_0, fun a b => ?_⟩⟩
  · have : bt (0 : Int32) r = true := h
    rw [b_0] at this; cases this
  · show fb_put (fun _ => 0) (fun _ => -9) 0 120 (12 * p + r) = -9
    rw [fb_put_in (by omega) (by omega)]
  · rcases (show s = 0 ∨ s = 1 ∨ s = 2 ∨ s = 3 by omega) with rfl | rfl | rfl | rfl <;> rfl
  · show fb_put (fun _ => 0) (fun _ => -9) 0 4 s = -9
    rw [fb_put_in (by omega) (by omega)]
  · show bt (0 : Int32) b = bt (0 : Int32) a
    rw [b_0, b_0]
