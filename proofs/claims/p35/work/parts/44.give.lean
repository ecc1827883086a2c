/-! ===== pure: rights are given ===== -/
theorem st_AR (σ : St) (j i : Nat) (f : Nat → Int32) (v : Int32) : st_A (st_R σ j f) j i v = st_R σ j (upd f i v) := by
  unfold st_A st_R
  simp only [if_true]
  refine Prod.ext rfl (Prod.ext (funext fun a => ?_) rfl)
  show (if a = j then _ else (if a = j then f else σ.2.1 a)) = if a = j then _ else σ.2.1 a
  by_cases h : a = j
  · rw [if_pos h, if_pos h]
  · rw [if_neg h, if_neg h, if_neg h]
theorem st_Rself (σ : St) (j : Nat) : st_R σ j (σ.2.1 j) = σ := by
  unfold st_R
  refine Prod.ext rfl (Prod.ext (funext fun a => ?_) rfl)
  show (if a = j then σ.2.1 j else σ.2.1 a) = σ.2.1 a
  by_cases h : a = j
  · rw [if_pos h, h]
  · rw [if_neg h]
theorem st_R2 (σ : St) (j : Nat) (g : Nat → Int32) (a : Nat) : (st_R σ j g).2.1 a = if a = j then g else σ.2.1 a := rfl
theorem st_R1 (σ : St) (j : Nat) (g : Nat → Int32) (k : Nat) : (st_R σ j g).1 k = σ.1 k := rfl
theorem mul12 (p r : Nat) : (12 : Int32) * nI p + nI r = nI (12 * p + r) := by
  show nI 12 * nI p + nI r = _
  rw [pk_mul, nI_add]
theorem in120 {p r : Nat} (hp : p < 10) (hr : r < 12) : vp_in (nI (12 * p + r)) 120 := vp_in_nI (by omega) (by omega)
/-- the reference's give: days of struck rights are wiped where the right is given -/
theorem q_mgive {τ : St} {p : Nat} {set : Int32} (hp : p < 10) : ∃ f : Nat → Int32, (∀ r, r < 12 → f (12 * p + r) = if bt set r then -9 else τ.2.1 3 (12 * p + r)) ∧ (∀ q r, r < 12 → q ≠ p → f (12 * q + r) = τ.2.1 3 (12 * q + r)) ∧
    ∀ post : Int32 → St → Prop, post (τ.2.1 2 p) (st_R (st_A τ 2 p set) 3 f) → wX10_give τ (nI p) set post := by
  obtain ⟨f, hf, hw⟩ := lp_val (Pt := Int32 → St → Prop) (fun post n i f => lpX10_give_17 (nI p) set (τ.2.1 2 p) post n i (st_R (st_A τ 2 p set) 3 f)) (fun post f => post (τ.2.1 2 p) (st_R (st_A τ 2 p set) 3 f))
    (fun i f => (∀ r, r < 12 → f (12 * p + r) = if r < i ∧ bt set r = true then -9 else τ.2.1 3 (12 * p + r)) ∧ ∀ q r, r < 12 → q ≠ p → f (12 * q + r) = τ.2.1 3 (12 * q + r)) 12
    (fun post acc n _ hp2 => by
      rw [lpX10_give_17]
      exact ⟨fun _ => hp2, fun h => absurd (nI_le (a := 12) (b := 12) (by omega) (by omega)) h⟩)
    (fun i f hi hI => by
      refine ⟨upd f (12 * p + i) (if bt set i then -9 else f (12 * p + i)), ⟨fun r hr => ?_, fun q r hr hq => ?_⟩, fun post n h => ?_⟩
      · by_cases e : r = i
        · subst e
          rw [pk_us, hI.1 r hr]
          simp
        · rw [pk_un (by omega), hI.1 r hr]
          have : (r < i + 1) ↔ r < i := by omega
          simp only [this]
      · rw [pk_un (by omega)]
        exact hI.2 q r hr hq
      · rw [lpX10_give_17]
        refine ⟨fun h2 => absurd h2 (nI_ge (a := i) (b := 12) hi (by omega)), fun _ => q_has (by omega) ?_⟩
        simp only [forall_eq, mul12, st_R2, if_true, st_AR, nI_1, nI_clamp (show 12 * p + i < 2 ^ 31 by omega)]
        cases e : bt set i
        · rw [e] at h
          exact ⟨fun _ => ⟨in120 hp hi, in120 hp hi, h⟩, fun h2 => absurd rfl h2⟩
        · rw [e] at h
          exact ⟨fun h2 => absurd h2 n10, fun _ => ⟨in120 hp hi, h⟩⟩)
    12 0 (τ.2.1 3) (by omega) ⟨fun r hr => by simp, fun q r hr hq => rfl⟩
  refine ⟨f, fun r hr => by rw [hf.1 r hr]; simp [hr], hf.2, fun post hpost => ?_⟩
  unfold wX10_give
  simp only [forall_eq, nI_clamp (show p < 2 ^ 31 by omega)]
  refine ⟨in10 hp, in10 hp, 13, ?_⟩
  have := hw post hpost
  have e : st_R (st_A τ 2 p set) 3 (τ.2.1 3) = st_A τ 2 p set := st_Rself (st_A τ 2 p set) 3
  rw [e] at this
  exact this
theorem q_xgive {σ : St} {p : Nat} {set : Int32} (hp : p < 10) {post : Int32 → St → Prop} (h : post (σ.2.1 3 p) (st_A (st_A σ 3 p set) 4 p (σ.2.1 4 p &&& (set ^^^ (-1))))) : wX5_give σ (nI p) set post := by
  unfold wX5_give
  simp only [forall_eq, st_A2, nI_clamp (show p < 2 ^ 31 by omega)]
  exact ⟨in10 hp, in10 hp, in10 hp, in10 hp, h⟩
theorem R_give {σ τ : St} {n u d sp se gr p : Nat} {set : Int32} {f : Nat → Int32} (hR : R_all σ τ n u d sp se gr) (hp : p < n) (hs : sm set) (hf : ∀ r, r < 12 → f (12 * p + r) = if bt set r then -9 else τ.2.1 3 (12 * p + r)) (hg : ∀ q r, r < 12 → q ≠ p → f (12 * q + r) = τ.2.1 3 (12 * q + r)) :
    R_all (st_A (st_A σ 3 p set) 4 p (σ.2.1 4 p &&& (set ^^^ (-1)))) (st_R (st_A τ 2 p set) 3 f) n u d sp se gr := by
  obtain ⟨hsc, har, hpe, hus, hst, hro, hpl, hsh, hba⟩ := hR
  have hn : n ≤ 10 := hsc.1.2.2
  refine ⟨hsc, ?_, ?_, hus, ?_, hro, hpl, hsh, hba⟩
  · obtain ⟨r1, r2, r3, r4, r5⟩ := har
    exact ⟨r1, r2, r3, show upd (τ.2.1 2) p _ = upd (σ.2.1 3) p _ by rw [r4], r5⟩
  · refine ⟨fun q => ?_, fun q hq => ?_⟩
    · obtain ⟨g1, g2, g3, g4⟩ := hpe.1 q
      show (∃ m' : Nat, m' < 256 ∧ σ.2.1 2 q = nI m') ∧ sm (upd (σ.2.1 3) p set q) ∧ sm (upd (σ.2.1 4) p (σ.2.1 4 p &&& (set ^^^ (-1))) q) ∧ True
      by_cases e : q = p
      · subst e
        rw [pk_us, pk_us]
        exact ⟨g1, hs, sm_and g3, trivial⟩
      · rw [pk_un e, pk_un e]
        exact ⟨g1, g2, g3, g4⟩
    · show upd (σ.2.1 4) p _ q = 0
      rw [pk_un (by omega)]
      exact hpe.2 q hq
  · intro q r hq hr
    obtain ⟨g1, g2⟩ := hst q r hq hr
    show (bt (upd (σ.2.1 4) p (σ.2.1 4 p &&& (set ^^^ (-1))) q) r = true → ∃ e, e ≤ d ∧ σ.2.1 5 (q * 12 + r) = nI e ∧ f (12 * q + r) = nI e) ∧ (bt (upd (σ.2.1 4) p (σ.2.1 4 p &&& (set ^^^ (-1))) q) r = false → f (12 * q + r) = -9)
    by_cases e : q = p
    · subst e
      rw [pk_us, hf r hr, b_and, pb_not (by omega)]
      cases e1 : bt set r
      · simpa using ⟨g1, g2⟩
      · simp
    · rw [pk_un e, hg q r hr e]
      exact ⟨g1, g2⟩
