/-! ===== pure: kinds, what is kept ===== -/
def anyB (f : Nat → Bool) : Nat → Bool
  | 0 => false
  | k + 1 => anyB f k || f k
theorem anyB_true {f : Nat → Bool} : ∀ {n : Nat}, anyB f n = true ↔ ∃ k, k < n ∧ f k = true
  | 0 => by simp [anyB]
  | n + 1 => by
    rw [anyB, Bool.or_eq_true, anyB_true (n := n)]
    constructor
    · rintro (⟨k, h1, h2⟩ | h)
      · exact ⟨k, by omega, h2⟩
      · exact ⟨n, by omega, h⟩
    · rintro ⟨k, h1, h2⟩
      by_cases e : k = n
      · subst e; exact Or.inr h2
      · exact Or.inl ⟨k, by omega, h2⟩
theorem anyB_false {f : Nat → Bool} {n : Nat} (h : ∀ k, k < n → f k = false) : anyB f n = false := by
  cases e : anyB f n
  · rfl
  · obtain ⟨k, h1, h2⟩ := anyB_true.mp e
    rw [h k h1] at h2; cases h2
/-- the set of those below n for which f says so -/
def mkS (f : Nat → Bool) : Nat → Int32
  | 0 => 0
  | k + 1 => if f k then mkS f k ||| ((1 : Int32) <<< (nI k &&& 31)) else mkS f k
theorem mkS_bt (f : Nat → Bool) : ∀ (n : Nat), n ≤ 32 → ∀ b, b < 32 → bt (mkS f n) b = (decide (b < n) && f b)
  | 0, _, b, hb => by simp [mkS, b_0]
  | n + 1, hn, b, hb => by
    rw [mkS]
    have ih := mkS_bt f n (by omega) b hb
    by_cases e : b = n
    · subst e
      cases hf : f b
      · rw [if_neg (by simp), ih]; simp
      · rw [if_pos rfl, b_or, pb_one (by omega) hb]; simp
    · have : (b < n + 1) ↔ b < n := by omega
      cases hf : f n
      · rw [if_neg (by simp), ih]; simp only [this]
      · rw [if_pos rfl, b_or, pb_one (by omega) hb, ih]; simp only [this]; simp [e]
theorem mkS_sm (f : Nat → Bool) : sm (mkS f 12) := by
  intro i hi
  rcases Nat.lt_or_ge i 32 with h | h
  · rw [mkS_bt f 12 (by omega) i h, decide_eq_false (by omega)]; rfl
  · exact b_big h
def uA (who which : Nat → Int32) (p r k : Nat) : Bool := decide (who k = nI p) && decide (which k = nI r)
def rcB (wen : Nat → Int32) (d sp k : Nat) : Bool := decide (d - (wen k).toNatClampNeg < sp)
def rdB (wen : Nat → Int32) (d sp se k : Nat) : Bool := decide (d - (wen k).toNatClampNeg ≤ (d - (wen k).toNatClampNeg + sp - 1) / se * se)
def usedB (who which wen : Nat → Int32) (u d sp p r : Nat) : Bool := anyB (fun k => uA who which p r k && rcB wen d sp k) u
def seldB (who which wen : Nat → Int32) (u d sp se p r : Nat) : Bool := anyB (fun k => uA who which p r k && (!rcB wen d sp k && rdB wen d sp se k)) u
def keptF (rights who which wen : Nat → Int32) (stb : Int32) (u d sp se p : Nat) : Int32 := mkS (fun b => bt (rights p) b && ((usedB who which wen u d sp p b || seldB who which wen u d sp se p b) || bt stb b)) 12
def kindF (who which wen : Nat → Int32) (stb : Int32) (u d sp se p r : Nat) : Int32 := if usedB who which wen u d sp p r then 1 else if seldB who which wen u d sp se p r then 2 else if bt stb r then 3 else 0
/-- the log of uses is as it should be -/
def LogOk (who which wen : Nat → Int32) (u d : Nat) : Prop := u ≤ 400 ∧ d ≤ 999 ∧ ∀ k, k < u → (∃ p, p < 10 ∧ who k = nI p) ∧ (∃ r, r < 12 ∧ which k = nI r) ∧ ∃ e, e ≤ d ∧ wen k = nI e
theorem seas_iff {x sp se : Nat} (h1 : 1 ≤ sp) (h2 : 1 ≤ se) : (∃ t, t < sp ∧ (x + t) % se = 0) ↔ x ≤ (x + sp - 1) / se * se := by
  constructor
  · rintro ⟨t, ht, h⟩
    obtain ⟨q, hq⟩ := Nat.dvd_of_mod_eq_zero h
    have h3 : q ≤ (x + sp - 1) / se := by
      rw [Nat.le_div_iff_mul_le (by omega), Nat.mul_comm]
      omega
    have h4 : q * se ≤ (x + sp - 1) / se * se := Nat.mul_le_mul_right _ h3
    rw [Nat.mul_comm] at hq
    omega
  · intro h
    have h3 : (x + sp - 1) / se * se ≤ x + sp - 1 := Nat.div_mul_le_self _ _
    refine ⟨(x + sp - 1) / se * se - x, by omega, ?_⟩
    rw [show x + ((x + sp - 1) / se * se - x) = (x + sp - 1) / se * se by omega]
    exact Nat.mul_mod_left _ _
theorem in400 {k u : Nat} (hk : k < u) (hu : u ≤ 400) : vp_in (nI k) 400 := vp_in_nI (by omega) (by omega)
theorem q_within {σ : St} {d e sp : Nat} {post : Int32 → Prop} (hd : σ.1 2 = nI d) (h9 : d ≤ 999) (he : e ≤ d) (hsp : sp ≤ 999) (h : post (if d - e < sp then 1 else 0)) : wX2_isWithinLast σ (nI e) (nI sp) post := by
  unfold wX2_isWithinLast
  rw [hd, pk_sub he]
  by_cases c : d - e < sp
  · rw [if_pos c] at h
    exact ⟨fun h2 => absurd h2 (nI_ge c (by omega)), fun _ => h⟩
  · rw [if_neg c] at h
    exact ⟨fun _ => h, fun h2 => absurd (nI_le (by omega) (by omega)) h2⟩
theorem q_round {σ : St} {d e sp se : Nat} {post : Int32 → Prop} (hd : σ.1 2 = nI d) (h9 : d ≤ 999) (he : e ≤ d) (h3 : σ.1 3 = nI sp) (hsp : 1 ≤ sp) (hsp2 : sp ≤ 999) (h4 : σ.1 4 = nI se) (hse : 1 ≤ se) (hse2 : se ≤ 999) (h : post (if d - e ≤ (d - e + sp - 1) / se * se then 1 else 0)) : wX2_comesRound σ (nI e) post := by
  unfold wX2_comesRound
  have e1 : nI (d - e) + nI sp - 1 = nI (d - e + sp - 1) := by rw [nI_add]; exact pk_sub (b := 1) (by omega)
  have e2 : nI (d - e + sp - 1) / nI se = nI ((d - e + sp - 1) / se) := pk_div (by omega) (by omega) (by omega)
  have hle : (d - e + sp - 1) / se * se ≤ d - e + sp - 1 := Nat.div_mul_le_self _ _
  simp only [forall_eq, hd, h3, h4, pk_sub he, e1, e2, pk_mul]
  refine ⟨fun _ => ⟨nI_ne0 (by omega) (by omega), ?_⟩, fun h2 => absurd (nI_le (a := 1) hse (by omega)) h2⟩
  by_cases c : d - e ≤ (d - e + sp - 1) / se * se
  · rw [if_pos c] at h
    exact ⟨fun h2 => absurd h2 (nI_nlt c (by omega)), fun _ => h⟩
  · rw [if_neg c] at h
    exact ⟨fun _ => h, fun h2 => absurd (nI_lt (by omega) (by omega)) h2⟩
/-- X's bits of a kind of use -/
theorem q_recent {σ : St} {u d sp p : Nat} (hu : σ.1 7 = nI u) (hd : σ.1 2 = nI d) (h3 : σ.1 3 = nI sp) (hsp2 : sp ≤ 999) (hL : LogOk (σ.2.1 6) (σ.2.1 7) (σ.2.1 8) u d) :
    ∃ v, (∀ b, b < 32 → bt v b = usedB (σ.2.1 6) (σ.2.1 7) (σ.2.1 8) u d sp p b) ∧ ∀ post : Int32 → Prop, post v → wX8_recent σ (nI p) post := by
  obtain ⟨hu4, hd9, hlog⟩ := hL
  obtain ⟨v, hv, hw⟩ := lp_val (Pt := Int32 → Prop) (fun post n i acc => lpX8_recent_5 (nI p) σ post n acc i) (fun post acc => post acc)
    (fun i acc => ∀ b, b < 32 → bt acc b = anyB (fun k => uA (σ.2.1 6) (σ.2.1 7) p b k && rcB (σ.2.1 8) d sp k) i) u
    (fun post acc n _ hp2 => by
      rw [lpX8_recent_5, hu]
      exact ⟨fun _ => hp2, fun h => absurd (nI_le (Nat.le_refl u) (by omega)) h⟩)
    (fun i acc hi hI => by
      obtain ⟨⟨p', hp', ep⟩, ⟨r, hr, er⟩, e, he, ee⟩ := hlog i hi
      have ci : (nI i).toNatClampNeg = i := nI_clamp (by omega)
      have ce : (σ.2.1 8 i).toNatClampNeg = e := by rw [ee]; exact nI_clamp (by omega)
      have hstep : ∀ b, anyB (fun k => uA (σ.2.1 6) (σ.2.1 7) p b k && rcB (σ.2.1 8) d sp k) (i + 1) = (anyB (fun k => uA (σ.2.1 6) (σ.2.1 7) p b k && rcB (σ.2.1 8) d sp k) i || (uA (σ.2.1 6) (σ.2.1 7) p b i && rcB (σ.2.1 8) d sp i)) := fun b => rfl
      by_cases c1 : σ.2.1 6 i = nI p
      · by_cases c2 : d - e < sp
        · refine ⟨acc ||| ((1 : Int32) <<< (nI r &&& 31)), fun b hb => ?_, fun post n h => ?_⟩
          · rw [hstep, b_or, pb_one (by omega) hb, hI b hb]
            have : (nI r = nI b) ↔ b = r := by rw [nI_eq (by omega) (by omega)]; omega
            simp [uA, rcB, c1, er, ce, c2, this]
          · rw [lpX8_recent_5, hu]
            refine ⟨fun h2 => absurd h2 (nI_ge hi (by omega)), fun _ => ⟨in400 hi hu4, ?_⟩⟩
            simp only [forall_eq, ci, nI_1]
            refine ⟨fun h2 => absurd c1 h2, fun _ => ⟨in400 hi hu4, ?_⟩⟩
            rw [ee, h3]
            refine q_within hd hd9 he hsp2 ?_
            rw [if_pos c2, er]
            exact ⟨fun h2 => absurd h2 n10, fun _ => ⟨in400 hi hu4, h⟩⟩
        · refine ⟨acc, fun b hb => ?_, fun post n h => ?_⟩
          · rw [hstep, hI b hb]
            simp [rcB, ce, c2]
          · rw [lpX8_recent_5, hu]
            refine ⟨fun h2 => absurd h2 (nI_ge hi (by omega)), fun _ => ⟨in400 hi hu4, ?_⟩⟩
            simp only [forall_eq, ci, nI_1]
            refine ⟨fun h2 => absurd c1 h2, fun _ => ⟨in400 hi hu4, ?_⟩⟩
            rw [ee, h3]
            refine q_within hd hd9 he hsp2 ?_
            rw [if_neg c2]
            exact ⟨fun _ => h, fun h2 => absurd rfl h2⟩
      · refine ⟨acc, fun b hb => ?_, fun post n h => ?_⟩
        · rw [hstep, hI b hb]
          simp [uA, c1]
        · rw [lpX8_recent_5, hu]
          refine ⟨fun h2 => absurd h2 (nI_ge hi (by omega)), fun _ => ⟨in400 hi hu4, ?_⟩⟩
          simp only [forall_eq, ci, nI_1]
          exact ⟨fun _ => h, fun h2 => absurd h2 c1⟩)
    u 0 0 (by omega) (fun b hb => by rw [b_0]; rfl)
  exact ⟨v, hv, fun post hp => ⟨_, hw post hp⟩⟩
theorem q_seasonal {σ : St} {u d sp se p : Nat} (hu : σ.1 7 = nI u) (hd : σ.1 2 = nI d) (h3 : σ.1 3 = nI sp) (hsp : 1 ≤ sp) (hsp2 : sp ≤ 999) (h4 : σ.1 4 = nI se) (hse : 1 ≤ se) (hse2 : se ≤ 999) (hL : LogOk (σ.2.1 6) (σ.2.1 7) (σ.2.1 8) u d) :
    ∃ v, (∀ b, b < 32 → bt v b = seldB (σ.2.1 6) (σ.2.1 7) (σ.2.1 8) u d sp se p b) ∧ ∀ post : Int32 → Prop, post v → wX8_seasonal σ (nI p) post := by
  obtain ⟨hu4, hd9, hlog⟩ := hL
  obtain ⟨v, hv, hw⟩ := lp_val (Pt := Int32 → Prop) (fun post n i acc => lpX8_seasonal_5 (nI p) σ post n acc i) (fun post acc => post acc)
    (fun i acc => ∀ b, b < 32 → bt acc b = anyB (fun k => uA (σ.2.1 6) (σ.2.1 7) p b k && (!rcB (σ.2.1 8) d sp k && rdB (σ.2.1 8) d sp se k)) i) u
    (fun post acc n _ hp2 => by
      rw [lpX8_seasonal_5, hu]
      exact ⟨fun _ => hp2, fun h => absurd (nI_le (Nat.le_refl u) (by omega)) h⟩)
    (fun i acc hi hI => by
      obtain ⟨⟨p', hp', ep⟩, ⟨r, hr, er⟩, e, he, ee⟩ := hlog i hi
      have ci : (nI i).toNatClampNeg = i := nI_clamp (by omega)
      have ce : (σ.2.1 8 i).toNatClampNeg = e := by rw [ee]; exact nI_clamp (by omega)
      have hstep : ∀ b, anyB (fun k => uA (σ.2.1 6) (σ.2.1 7) p b k && (!rcB (σ.2.1 8) d sp k && rdB (σ.2.1 8) d sp se k)) (i + 1) = (anyB (fun k => uA (σ.2.1 6) (σ.2.1 7) p b k && (!rcB (σ.2.1 8) d sp k && rdB (σ.2.1 8) d sp se k)) i || (uA (σ.2.1 6) (σ.2.1 7) p b i && (!rcB (σ.2.1 8) d sp i && rdB (σ.2.1 8) d sp se i))) := fun b => rfl
      have e00 : (0 : Int32) = 0 := rfl
      by_cases c1 : σ.2.1 6 i = nI p
      · by_cases c2 : d - e < sp
        · refine ⟨acc, fun b hb => ?_, fun post n h => ?_⟩
          · rw [hstep, hI b hb]
            simp [rcB, ce, c2]
          · rw [lpX8_seasonal_5, hu]
            refine ⟨fun h2 => absurd h2 (nI_ge hi (by omega)), fun _ => ⟨in400 hi hu4, ?_⟩⟩
            simp only [forall_eq, ci, nI_1]
            refine ⟨fun h2 => absurd c1 h2, fun _ => ⟨in400 hi hu4, ?_⟩⟩
            rw [ee, h3]
            refine q_within hd hd9 he hsp2 ?_
            rw [if_pos c2]
            exact ⟨fun _ => ⟨fun _ => h, fun h2 => absurd trivial h2⟩, fun h2 => absurd h2 n10⟩
        · by_cases c3 : d - e ≤ (d - e + sp - 1) / se * se
          · refine ⟨acc ||| ((1 : Int32) <<< (nI r &&& 31)), fun b hb => ?_, fun post n h => ?_⟩
            · rw [hstep, b_or, pb_one (by omega) hb, hI b hb]
              have : (nI r = nI b) ↔ b = r := by rw [nI_eq (by omega) (by omega)]; omega
              simp [uA, rcB, rdB, c1, er, ce, c2, c3, this]
            · rw [lpX8_seasonal_5, hu]
              refine ⟨fun h2 => absurd h2 (nI_ge hi (by omega)), fun _ => ⟨in400 hi hu4, ?_⟩⟩
              simp only [forall_eq, ci, nI_1]
              refine ⟨fun h2 => absurd c1 h2, fun _ => ⟨in400 hi hu4, ?_⟩⟩
              rw [ee, h3]
              refine q_within hd hd9 he hsp2 ?_
              rw [if_neg c2]
              refine ⟨fun h2 => absurd rfl h2, fun _ => ⟨fun h2 => absurd h2 n10, fun _ => ⟨in400 hi hu4, ?_⟩⟩⟩
              refine q_round hd hd9 he h3 hsp hsp2 h4 hse hse2 ?_
              rw [if_pos c3, er]
              exact ⟨fun h2 => absurd h2 n10, fun _ => ⟨in400 hi hu4, h⟩⟩
          · refine ⟨acc, fun b hb => ?_, fun post n h => ?_⟩
            · rw [hstep, hI b hb]
              simp [rdB, ce, c3]
            · rw [lpX8_seasonal_5, hu]
              refine ⟨fun h2 => absurd h2 (nI_ge hi (by omega)), fun _ => ⟨in400 hi hu4, ?_⟩⟩
              simp only [forall_eq, ci, nI_1]
              refine ⟨fun h2 => absurd c1 h2, fun _ => ⟨in400 hi hu4, ?_⟩⟩
              rw [ee, h3]
              refine q_within hd hd9 he hsp2 ?_
              rw [if_neg c2]
              refine ⟨fun h2 => absurd rfl h2, fun _ => ⟨fun h2 => absurd h2 n10, fun _ => ⟨in400 hi hu4, ?_⟩⟩⟩
              refine q_round hd hd9 he h3 hsp hsp2 h4 hse hse2 ?_
              rw [if_neg c3]
              exact ⟨fun _ => h, fun h2 => absurd rfl h2⟩
      · refine ⟨acc, fun b hb => ?_, fun post n h => ?_⟩
        · rw [hstep, hI b hb]
          simp [uA, c1]
        · rw [lpX8_seasonal_5, hu]
          refine ⟨fun h2 => absurd h2 (nI_ge hi (by omega)), fun _ => ⟨in400 hi hu4, ?_⟩⟩
          simp only [forall_eq, ci, nI_1]
          exact ⟨fun _ => ⟨fun _ => h, fun h2 => absurd trivial h2⟩, fun h2 => absurd h2 c1⟩)
    u 0 0 (by omega) (fun b hb => by rw [b_0]; rfl)
  exact ⟨v, hv, fun post hp => ⟨_, hw post hp⟩⟩
