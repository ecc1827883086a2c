/-! ===== pure: digest ===== -/
def dgF (f : Nat → Int32) (h : Int64) : Nat → Int64
  | 0 => h
  | k + 1 => 31 * dgF f h k + (f k).toInt64
/-- five values of each person -/
def dpF (t : Nat → Nat → Int32) (h : Int64) : Nat → Int64
  | 0 => h
  | p + 1 => dgF (t p) (dpF t h p) 5
/-- three values of each use -/
def duF (a b c : Nat → Int32) (h : Int64) : Nat → Int64
  | 0 => h
  | k + 1 => 31 * (31 * (31 * duF a b c h k + (a k).toInt64) + (b k).toInt64) + (c k).toInt64
/-- sheets: a size and so many ints -/
def dsF (sz : Nat → Int32) (len : Nat → Nat) (g : Nat → Nat → Int32) (h : Int64) : Nat → Int64
  | 0 => h
  | s + 1 => dgF (g s) (31 * dsF sz len g h s + (sz s).toInt64) (len s)
def tlF (σ : St) (u d sp se p k : Nat) : Int32 := match k with
  | 0 => σ.2.1 2 p
  | 1 => σ.2.1 3 p
  | 2 => xkept σ u d sp se p
  | 3 => σ.2.1 4 p
  | _ => nI (fb_ct (fun k => decide (σ.2.1 6 k = nI p)) u)
theorem q_xpeople {σ : St} {n u d sp se : Nat} {h0 : Int64} {post : Int64 → St → Prop} (hL : XLog σ u d sp se) (h6 : σ.1 6 = nI n) (hn : n ≤ 10) (h : post (dpF (tlF σ u d sp se) h0 n) (st_R σ 0 (fb_put (σ.2.1 0) (fun p => xkept σ u d sp se p) 0 n))) : wX9_digestOfPeople σ h0 post := by
  refine q_look hL h6 hn ?_
  have hg : ∀ p, p < n → fb_put (σ.2.1 0) (fun p => xkept σ u d sp se p) 0 n p = xkept σ u d sp se p := fun p hp => by rw [fb_put_in (by omega) (by omega)]; rfl
  obtain ⟨v, hv, hw⟩ := lp_val (Pt := Int64 → Prop) (fun K k i acc => lpX9_digestOfPeople_9 (st_R σ 0 (fb_put (σ.2.1 0) (fun p => xkept σ u d sp se p) 0 n)) K k acc i) (fun K acc => K acc)
    (fun i acc => acc = dpF (tlF σ u d sp se) h0 i) n
    (fun K acc k _ hp2 => by
      rw [lpX9_digestOfPeople_9, st_R1, h6]
      exact ⟨fun _ => hp2, fun h => absurd (nI_le (Nat.le_refl n) (by omega)) h⟩)
    (fun i acc hi hI => by
      refine ⟨_, rfl, fun K k h => ?_⟩
      rw [lpX9_digestOfPeople_9, st_R1, h6]
      refine ⟨fun h2 => absurd h2 (nI_ge hi (by omega)), fun _ => ?_⟩
      simp only [forall_eq, nI_1, nI_clamp (show i < 2 ^ 31 by omega)]
      refine ⟨in10 (by omega), in10 (by omega), in10 (by omega), in10 (by omega), q_xper (σ := st_R σ 0 (fb_put (σ.2.1 0) (fun p => xkept σ u d sp se p) 0 n)) (u := u) hL.1 hL.2.2.2.2.1.1 ?_⟩
      have e0 : (st_R σ 0 (fb_put (σ.2.1 0) (fun p => xkept σ u d sp se p) 0 n)).2.1 0 i = xkept σ u d sp se i := hg i hi
      rw [e0, hI]
      exact h)
    n 0 h0 (by omega) rfl
  exact ⟨_, hw _ (by rw [hv]; exact h)⟩
theorem q_xd37 {σ : St} {u : Nat} {h0 : Int64} {K : Int64 → Prop} (hu : σ.1 7 = nI u) (hu4 : u ≤ 400) (h : K (duF (σ.2.1 6) (σ.2.1 7) (σ.2.1 8) h0 u)) : ∃ n : Nat, lpX9_digest_37 σ K n h0 (0 : Int32) := by
  obtain ⟨v, hv, hw⟩ := lp_val (Pt := Int64 → Prop) (fun K k i acc => lpX9_digest_37 σ K k acc i) (fun K acc => K acc)
    (fun i acc => acc = duF (σ.2.1 6) (σ.2.1 7) (σ.2.1 8) h0 i) u
    (fun K acc k _ hp2 => by
      rw [lpX9_digest_37, hu]
      exact ⟨fun _ => hp2, fun h => absurd (nI_le (Nat.le_refl u) (by omega)) h⟩)
    (fun i acc hi hI => by
      refine ⟨_, rfl, fun K k h => ?_⟩
      rw [lpX9_digest_37, hu]
      refine ⟨fun h2 => absurd h2 (nI_ge hi (by omega)), fun _ => ?_⟩
      simp only [forall_eq, nI_1, nI_clamp (show i < 2 ^ 31 by omega)]
      rw [hI]
      exact ⟨in400 hi hu4, in400 hi hu4, in400 hi hu4, h⟩)
    u 0 h0 (by omega) rfl
  exact ⟨_, hw _ (by rw [hv]; exact h)⟩
theorem q_xd107 {σ : St} {h0 : Int64} {K : Int64 → Prop} (h : K (dgF (σ.2.1 17) h0 12)) : ∃ n : Nat, lpX9_digest_107 σ K n h0 (0 : Int32) := by
  obtain ⟨v, hv, hw⟩ := lp_val (Pt := Int64 → Prop) (fun K k i acc => lpX9_digest_107 σ K k acc i) (fun K acc => K acc)
    (fun i acc => acc = dgF (σ.2.1 17) h0 i) 12
    (fun K acc k _ hp2 => by
      rw [lpX9_digest_107]
      exact ⟨fun _ => hp2, fun h => absurd (nI_le (a := 12) (b := 12) (by omega) (by omega)) h⟩)
    (fun i acc hi hI => by
      refine ⟨_, rfl, fun K k h => ?_⟩
      rw [lpX9_digest_107]
      refine ⟨fun h2 => absurd h2 (nI_ge (a := i) (b := 12) hi (by omega)), fun _ => ?_⟩
      simp only [forall_eq, nI_1, nI_clamp (show i < 2 ^ 31 by omega)]
      rw [hI]
      exact ⟨in12 hi, h⟩)
    12 0 h0 (by omega) rfl
  exact ⟨_, hw _ (by rw [hv]; exact h)⟩
theorem q_md74 {τ : St} {u : Nat} {h0 : Int64} {K : Int64 → Prop} (hu : τ.1 7 = nI u) (hu4 : u ≤ 400) (h : K (duF (τ.2.1 4) (τ.2.1 5) (τ.2.1 6) h0 u)) : ∃ n : Nat, lpX10_digest_74 τ K n h0 (0 : Int32) := by
  obtain ⟨v, hv, hw⟩ := lp_val (Pt := Int64 → Prop) (fun K k i acc => lpX10_digest_74 τ K k acc i) (fun K acc => K acc)
    (fun i acc => acc = duF (τ.2.1 4) (τ.2.1 5) (τ.2.1 6) h0 i) u
    (fun K acc k _ hp2 => by
      rw [lpX10_digest_74, hu]
      exact ⟨fun _ => hp2, fun h => absurd (nI_le (Nat.le_refl u) (by omega)) h⟩)
    (fun i acc hi hI => by
      refine ⟨_, rfl, fun K k h => ?_⟩
      rw [lpX10_digest_74, hu]
      refine ⟨fun h2 => absurd h2 (nI_ge hi (by omega)), fun _ => ?_⟩
      simp only [forall_eq, nI_1, nI_clamp (show i < 2 ^ 31 by omega)]
      rw [hI]
      exact ⟨in400 hi hu4, in400 hi hu4, in400 hi hu4, h⟩)
    u 0 h0 (by omega) rfl
  exact ⟨_, hw _ (by rw [hv]; exact h)⟩
theorem q_md128 {τ : St} {h0 : Int64} {K : Int64 → Prop} (h : K (dgF (τ.2.1 14) h0 12)) : ∃ n : Nat, lpX10_digest_128 τ K n h0 (0 : Int32) := by
  obtain ⟨v, hv, hw⟩ := lp_val (Pt := Int64 → Prop) (fun K k i acc => lpX10_digest_128 τ K k acc i) (fun K acc => K acc)
    (fun i acc => acc = dgF (τ.2.1 14) h0 i) 12
    (fun K acc k _ hp2 => by
      rw [lpX10_digest_128]
      exact ⟨fun _ => hp2, fun h => absurd (nI_le (a := 12) (b := 12) (by omega) (by omega)) h⟩)
    (fun i acc hi hI => by
      refine ⟨_, rfl, fun K k h => ?_⟩
      rw [lpX10_digest_128]
      refine ⟨fun h2 => absurd h2 (nI_ge (a := i) (b := 12) hi (by omega)), fun _ => ?_⟩
      simp only [forall_eq, nI_1, nI_clamp (show i < 2 ^ 31 by omega)]
      rw [hI]
      exact ⟨in12 hi, h⟩)
    12 0 h0 (by omega) rfl
  exact ⟨_, hw _ (by rw [hv]; exact h)⟩
/-- how long a sheet is: 0 where it is missing -/
def shL (σ : St) (s : Nat) : Nat := if σ.2.1 19 s = -1 then 0 else (σ.2.1 19 s).toNatClampNeg
theorem shL_m {σ τ : St} {s : Nat} (h : (σ.2.1 19 s = -1 ∧ τ.2.1 16 s = -9)) : shL σ s = 0 := if_pos h.1
theorem shL_t {σ : St} {s z : Nat} (hz : z ≤ 10) (h : σ.2.1 19 s = nI z) : shL σ s = z := by
  unfold shL
  rw [h, if_neg (fun e => ?_), nI_clamp (by omega)]
  have := congrArg Int32.toInt e
  rw [nI_toInt (by omega)] at this
  have h4 : (-1 : Int32).toInt = -1 := rfl
  omega
theorem q_xd32 {σ τ : St} {s : Nat} {h0 : Int64} {K : Int64 → Prop} (hs : s < 4) (hsh : R_sh σ τ) (h : K (dgF (fun i => σ.2.1 20 (s * 10 + i)) h0 (shL σ s))) : ∃ n : Nat, lpX9_digestOfSheets_32 (nI s) σ K n h0 (0 : Int32) := by
  have cs : (nI s).toNatClampNeg = s := nI_clamp (by omega)
  rcases hsh s hs with hm | ⟨z, hz, x1, x2, hv⟩
  · rw [shL_m hm] at h
    refine ⟨1, ?_⟩
    rw [lpX9_digestOfSheets_32, cs, hm.1]
    exact ⟨in4 hs, fun _ => h, fun h2 => absurd (by decide) h2⟩
  · rw [shL_t hz x1] at h
    obtain ⟨v, hv, hw⟩ := lp_val (Pt := Int64 → Prop) (fun K k i acc => lpX9_digestOfSheets_32 (nI s) σ K k acc i) (fun K acc => K acc)
      (fun i acc => acc = dgF (fun i => σ.2.1 20 (s * 10 + i)) h0 i) z
      (fun K acc k _ hp2 => by
        rw [lpX9_digestOfSheets_32, cs, x1]
        exact ⟨in4 hs, fun _ => hp2, fun h => absurd (nI_le (Nat.le_refl z) (by omega)) h⟩)
      (fun i acc hi hI => by
        refine ⟨_, rfl, fun K k h => ?_⟩
        rw [lpX9_digestOfSheets_32, cs, x1]
        refine ⟨in4 hs, fun h2 => absurd h2 (nI_ge hi (by omega)), fun _ => ?_⟩
        unfold wX7_at
        simp only [forall_eq, nI_1, mulr10, nI_clamp (show s * 10 + i < 2 ^ 31 by omega)]
        rw [hI]
        exact ⟨vp_in_nI (by omega) (by omega), h⟩)
      z 0 h0 (by omega) rfl
    exact ⟨_, hw _ (by rw [hv]; exact h)⟩
theorem q_md191 {σ τ : St} {s : Nat} {h0 : Int64} {K : Int64 → Prop} (hs : s < 4) (hsh : R_sh σ τ) (h : K (dgF (fun i => σ.2.1 20 (s * 10 + i)) h0 (shL σ s))) : ∃ n : Nat, lpX10_digest_191 (nI s) τ K n h0 (0 : Int32) := by
  have cs : (nI s).toNatClampNeg = s := nI_clamp (by omega)
  rcases hsh s hs with hm | ⟨z, hz, x1, x2, hv9⟩
  · rw [shL_m hm] at h
    refine ⟨1, ?_⟩
    rw [lpX10_digest_191, cs, hm.2]
    exact ⟨in4 hs, fun _ => h, fun h2 => absurd (by decide) h2⟩
  · rw [shL_t hz x1] at h
    obtain ⟨v, hv, hw⟩ := lp_val (Pt := Int64 → Prop) (fun K k i acc => lpX10_digest_191 (nI s) τ K k acc i) (fun K acc => K acc)
      (fun i acc => acc = dgF (fun i => σ.2.1 20 (s * 10 + i)) h0 i) z
      (fun K acc k _ hp2 => by
        rw [lpX10_digest_191, cs, x2]
        exact ⟨in4 hs, fun _ => hp2, fun h => absurd (nI_le (Nat.le_refl z) (by omega)) h⟩)
      (fun i acc hi hI => by
        refine ⟨_, rfl, fun K k h => ?_⟩
        rw [lpX10_digest_191, cs, x2]
        refine ⟨in4 hs, fun h2 => absurd h2 (nI_ge hi (by omega)), fun _ => ?_⟩
        simp only [forall_eq, nI_1, mul10, nI_clamp (show 10 * s + i < 2 ^ 31 by omega)]
        rw [hI, ← (hv9 i hi).1]
        exact ⟨vp_in_nI (by omega) (by omega), h⟩)
      z 0 h0 (by omega) rfl
    exact ⟨_, hw _ (by rw [hv]; exact h)⟩
