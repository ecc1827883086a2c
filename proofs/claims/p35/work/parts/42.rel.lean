/-! ===== pure: what ties the class's state (σ) to the reference's (τ) ===== -/
def R_sc (σ τ : St) (n u d sp se gr : Nat) : Prop :=
  (σ.1 6 = nI n ∧ τ.1 1 = nI n ∧ n ≤ 10) ∧ (σ.1 7 = nI u ∧ τ.1 7 = nI u ∧ u ≤ 400) ∧ (σ.1 2 = nI d ∧ τ.1 6 = nI d ∧ d ≤ 999) ∧
  (σ.1 3 = nI sp ∧ τ.1 3 = nI sp ∧ 1 ≤ sp ∧ sp ≤ 999) ∧ (σ.1 4 = nI se ∧ τ.1 4 = nI se ∧ 1 ≤ se ∧ se ≤ 999) ∧ (σ.1 5 = nI gr ∧ τ.1 5 = nI gr ∧ gr ≤ 999) ∧
  (τ.1 2 = σ.1 0 ∧ sm (σ.1 0)) ∧ τ.1 8 = σ.1 1 ∧ τ.1 0 = σ.1 14
def R_ar (σ τ : St) : Prop :=
  τ.2.1 7 = σ.2.1 1 ∧ τ.2.1 0 = σ.2.1 21 ∧ τ.2.1 1 = σ.2.1 2 ∧ τ.2.1 2 = σ.2.1 3 ∧ τ.2.1 4 = σ.2.1 6 ∧ τ.2.1 5 = σ.2.1 7 ∧ τ.2.1 6 = σ.2.1 8 ∧ τ.2.1 14 = σ.2.1 17
def R_pe (σ : St) (n : Nat) : Prop := (∀ p : Nat, (∃ m : Nat, m < 256 ∧ σ.2.1 2 p = nI m) ∧ sm (σ.2.1 3 p) ∧ sm (σ.2.1 4 p) ∧ True) ∧ ∀ p, n ≤ p → σ.2.1 4 p = 0
def R_us (σ : St) (n u d : Nat) : Prop := ∀ k, k < u → (∃ p, p < n ∧ σ.2.1 6 k = nI p) ∧ (∃ r, r < 12 ∧ σ.2.1 7 k = nI r) ∧ ∃ e, e ≤ d ∧ σ.2.1 8 k = nI e
def R_st (σ τ : St) (d : Nat) : Prop := ∀ p r, p < 10 → r < 12 → (bt (σ.2.1 4 p) r = true → ∃ e, e ≤ d ∧ σ.2.1 5 (p * 12 + r) = nI e ∧ τ.2.1 3 (12 * p + r) = nI e) ∧ (bt (σ.2.1 4 p) r = false → τ.2.1 3 (12 * p + r) = -9)
def R_ro (σ τ : St) : Prop := (∃ m, m ≤ 12 ∧ σ.1 9 = nI m ∧ τ.1 10 = nI m ∧ ∀ i, i < m → σ.2.1 11 i = τ.2.1 10 i ∧ sm (σ.2.1 11 i)) ∧ τ.1 9 = σ.1 10
def R_pl (σ τ : St) (n : Nat) : Prop := (σ.1 12 = 0 ∧ τ.1 12 = -9) ∨ (σ.1 12 = 1 ∧ ∃ m, m ≤ n ∧ σ.1 13 = nI m ∧ τ.1 12 = nI m ∧ ∀ p, p < m → σ.2.1 18 p = τ.2.1 15 p ∧ sm (σ.2.1 18 p))
def R_sh (σ τ : St) : Prop := ∀ s, s < 4 → (σ.2.1 19 s = -1 ∧ τ.2.1 16 s = -9) ∨ ∃ z, z ≤ 10 ∧ σ.2.1 19 s = nI z ∧ τ.2.1 16 s = nI z ∧ ∀ i, i < z → σ.2.1 20 (s * 10 + i) = τ.2.1 17 (10 * s + i) ∧ sm (σ.2.1 20 (s * 10 + i))
def R_ba (σ : St) : Prop := (∀ r, sm (σ.2.1 17 r)) ∧ ∀ a b, bt (σ.2.1 17 a) b = bt (σ.2.1 17 b) a
def R_all (σ τ : St) (n u d sp se gr : Nat) : Prop := R_sc σ τ n u d sp se gr ∧ R_ar σ τ ∧ R_pe σ n ∧ R_us σ n u d ∧ R_st σ τ d ∧ R_ro σ τ ∧ R_pl σ τ n ∧ R_sh σ τ ∧ R_ba σ
def R_ok (σ τ : St) : Prop := ∃ n u d sp se gr : Nat, R_all σ τ n u d sp se gr
/-- both sides of a comparison in the law -/
def eqK (K : Prop) {α : Type} (r r' : α) : Prop := (r = r' → K) ∧ (¬ r = r' → False)
theorem eqK_of {K : Prop} {α : Type} {r r' : α} (h : r = r') (k : K) : eqK K r r' := ⟨fun _ => k, fun h2 => absurd h h2⟩
theorem lt31 {n N : Nat} (h : n < N) (hN : N ≤ 2147483648 := by omega) : n < 2 ^ 31 := Nat.lt_of_lt_of_le h hN
theorem q_noMark_ok {m : Nat} {post : Int32 → Prop} (hm : m < 256) (h : post 0) : wX9_noMarkSet (nI m) post := by
  unfold wX9_noMarkSet
  have h1 : ¬ nI m < 0 := nI_pos (by omega)
  have h2 : nI m < 256 := nI_lt (b := 256) hm (by omega)
  simp [h1, h2, h]
theorem q_noMark_bad {a : Int32} {post : Int32 → Prop} (ha : a < 0 ∨ nI 256 ≤ a) (h : post 1) : wX9_noMarkSet a post := by
  unfold wX9_noMarkSet
  refine ⟨fun _ => h, fun h1 => ⟨fun h2 => ?_, fun _ => h⟩⟩
  rcases ha with ha | ha
  · exact absurd ha h1
  · exact absurd h2 (Int32.not_lt.mpr ha)
theorem q_noRS_ok {m : Nat} {post : Int32 → Prop} (hm : m < 4096) (h : post 0) : wX9_noRightSet (nI m) post := by
  unfold wX9_noRightSet
  have h1 : ¬ nI m < 0 := nI_pos (by omega)
  have h2 : nI m < 4096 := nI_lt (b := 4096) hm (by omega)
  simp [h1, h2, h]
theorem q_noRS_bad {a : Int32} {post : Int32 → Prop} (ha : a < 0 ∨ nI 4096 ≤ a) (h : post 1) : wX9_noRightSet a post := by
  unfold wX9_noRightSet
  refine ⟨fun _ => h, fun h1 => ⟨fun h2 => ?_, fun _ => h⟩⟩
  rcases ha with ha | ha
  · exact absurd ha h1
  · exact absurd h2 (Int32.not_lt.mpr ha)
theorem q_noRight_ok {m : Nat} {post : Int32 → Prop} (hm : m < 12) (h : post 0) : wX9_noRight (nI m) post := by
  unfold wX9_noRight
  have h1 : ¬ nI m < 0 := nI_pos (by omega)
  have h2 : nI m < 12 := nI_lt (b := 12) hm (by omega)
  simp [h1, h2, h]
theorem q_noRight_bad {a : Int32} {post : Int32 → Prop} (ha : a < 0 ∨ nI 12 ≤ a) (h : post 1) : wX9_noRight a post := by
  unfold wX9_noRight
  refine ⟨fun _ => h, fun h1 => ⟨fun h2 => ?_, fun _ => h⟩⟩
  rcases ha with ha | ha
  · exact absurd ha h1
  · exact absurd h2 (Int32.not_lt.mpr ha)
theorem q_noSheet_ok {m : Nat} {post : Int32 → Prop} (hm : m < 4) (h : post 0) : wX9_noSheet (nI m) post := by
  unfold wX9_noSheet
  have h1 : ¬ nI m < 0 := nI_pos (by omega)
  have h2 : nI m < 4 := nI_lt (b := 4) hm (by omega)
  simp [h1, h2, h]
theorem q_noSheet_bad {a : Int32} {post : Int32 → Prop} (ha : a < 0 ∨ nI 4 ≤ a) (h : post 1) : wX9_noSheet a post := by
  unfold wX9_noSheet
  refine ⟨fun _ => h, fun h1 => ⟨fun h2 => ?_, fun _ => h⟩⟩
  rcases ha with ha | ha
  · exact absurd ha h1
  · exact absurd h2 (Int32.not_lt.mpr ha)
theorem q_noPerson_ok {σ : St} {p n : Nat} {post : Int32 → Prop} (h6 : σ.1 6 = nI n) (hn : n ≤ 10) (hp : p < n) (h : post 0) : wX9_noPerson σ (nI p) post := by
  unfold wX9_noPerson
  have h1 : ¬ nI p < 0 := nI_pos (by omega)
  have h2 : nI p < nI n := nI_lt hp (by omega)
  simp [h1, h2, h, h6]
theorem q_noPerson_bad {σ : St} {a : Int32} {n : Nat} {post : Int32 → Prop} (h6 : σ.1 6 = nI n) (ha : a < 0 ∨ nI n ≤ a) (h : post 1) : wX9_noPerson σ a post := by
  unfold wX9_noPerson
  rw [h6]
  refine ⟨fun _ => h, fun h1 => ⟨fun h2 => ?_, fun _ => h⟩⟩
  rcases ha with ha | ha
  · exact absurd ha h1
  · exact absurd h2 (Int32.not_lt.mpr ha)
theorem q_in_ok {a b c : Int32} {post : Int32 → Prop} (h1 : b ≤ a) (h2 : a ≤ c) (h : post 1) : wX10_in a b c post := by
  unfold wX10_in
  exact ⟨fun h3 => absurd h3 (Int32.not_lt.mpr h1), fun _ => ⟨fun h3 => absurd h3 (Int32.not_lt.mpr h2), fun _ => h⟩⟩
theorem q_in_bad {a b c : Int32} {post : Int32 → Prop} (h1 : a < b ∨ c < a) (h : post 0) : wX10_in a b c post := by
  unfold wX10_in
  refine ⟨fun _ => h, fun h3 => ⟨fun _ => h, fun h4 => ?_⟩⟩
  rcases h1 with h1 | h1
  · exact absurd h1 h3
  · exact absurd h1 h4
/-- a limit N of the class's form is one of the reference's, N - 1 -/
theorem lt_pre {a : Int32} {n : Nat} (hn : n + 1 < 2 ^ 31) (h : nI (n + 1) ≤ a) : nI n < a := by
  rw [fa_le, nI_toInt hn] at h
  rw [fa_lt, nI_toInt (by omega)]
  omega
theorem q_isRight_ok {m : Nat} {post : Int32 → Prop} (hm : m < 12) (h : post 1) : wX10_isRight (nI m) post :=
  q_in_ok (nI_pos' (by omega)) (nI_le (b := 11) (by omega) (by omega)) ⟨Or.inr rfl, h⟩
theorem q_isRight_bad {a : Int32} {post : Int32 → Prop} (ha : a < 0 ∨ nI 12 ≤ a) (h : post 0) : wX10_isRight a post :=
  q_in_bad (ha.imp id (fun h => lt_pre (n := 11) (by omega) h)) ⟨Or.inl rfl, h⟩
theorem q_isSheet_ok {m : Nat} {post : Int32 → Prop} (hm : m < 4) (h : post 1) : wX10_isSheet (nI m) post :=
  q_in_ok (nI_pos' (by omega)) (nI_le (b := 3) (by omega) (by omega)) ⟨Or.inr rfl, h⟩
theorem q_isSheet_bad {a : Int32} {post : Int32 → Prop} (ha : a < 0 ∨ nI 4 ≤ a) (h : post 0) : wX10_isSheet a post :=
  q_in_bad (ha.imp id (fun h => lt_pre (n := 3) (by omega) h)) ⟨Or.inl rfl, h⟩
theorem q_isPerson_ok {τ : St} {p n : Nat} {post : Int32 → Prop} (h1 : τ.1 1 = nI n) (hn : n ≤ 10) (hp : p < n) (h : post 1) : wX10_isPerson τ (nI p) post := by
  unfold wX10_isPerson
  rw [h1]
  obtain ⟨m, rfl⟩ : ∃ m, n = m + 1 := ⟨n - 1, by omega⟩
  rw [nI_pred]
  exact q_in_ok (nI_pos' (by omega)) (nI_le (by omega) (by omega)) ⟨Or.inr rfl, h⟩
theorem q_isPerson_bad {τ : St} {a : Int32} {n : Nat} {post : Int32 → Prop} (h1 : τ.1 1 = nI n) (hn : n ≤ 10) (ha : a < 0 ∨ nI n ≤ a) (h : post 0) : wX10_isPerson τ a post := by
  unfold wX10_isPerson
  rw [h1]
  refine q_in_bad (ha.imp id (fun h => ?_)) ⟨Or.inl rfl, h⟩
  rw [fa_le, nI_toInt (by omega)] at h
  have : (nI n - 1).toInt = (n : Int) - 1 := pk_sub_toInt (b := 1) (by omega) (by omega)
  rw [fa_lt, this]
  omega
theorem q_has {x : Int32} {k : Nat} {post : Int32 → Prop} (hk : k < 32) (h : post (if bt x k then 1 else 0)) : wX10_has x (nI k) post := by
  unfold wX10_has
  have := pb_has (x := x) hk
  cases e : bt x k <;> simp_all
theorem in10 {p : Nat} (hp : p < 10) : vp_in (nI p) 10 := vp_in_nI hp (by omega)
theorem cl {p : Nat} (hp : p < 2 ^ 31 := by omega) : (nI p).toNatClampNeg = p := nI_clamp hp
theorem q_xhas {σ : St} {p r : Nat} {post : Int32 → Prop} (hp : p < 10) (hr : r < 32) (h : post (if bt (σ.2.1 3 p) r then 1 else 0)) : wX5_has σ (nI p) (nI r) post := by
  unfold wX5_has
  have := pb_test (x := σ.2.1 3 p) hr
  refine ⟨in10 hp, ?_⟩
  rw [nI_clamp (show p < 2 ^ 31 by omega)]
  cases e : bt (σ.2.1 3 p) r <;> simp_all
/-- a loop that counts up: its end has a value, whatever comes behind it -/
theorem lp_val {α : Type} {Pt : Type} (lp : Pt → Nat → Int32 → α → Prop) (fin : Pt → α → Prop) (I : Nat → α → Prop) (N : Nat)
    (hfin : ∀ post acc n, I N acc → fin post acc → lp post (n + 1) (nI N) acc)
    (hstep : ∀ i acc, i < N → I i acc → ∃ acc', I (i + 1) acc' ∧ ∀ post n, lp post n (nI (i + 1)) acc' → lp post (n + 1) (nI i) acc) :
    ∀ (m i : Nat) (acc : α), i + m = N → I i acc → ∃ r, I N r ∧ ∀ post, fin post r → lp post (m + 1) (nI i) acc := by
  intro m
  induction m with
  | zero =>
    intro i acc e h
    have : i = N := by omega
    subst this
    exact ⟨acc, h, fun post hp => hfin post acc 0 h hp⟩
  | succ m ih =>
    intro i acc e h
    obtain ⟨acc', h1, h2⟩ := hstep i acc (by omega) h
    obtain ⟨r, h3, h4⟩ := ih (i + 1) acc' (by omega) h1
    exact ⟨r, h3, fun post hp => h2 post (m + 1) (h4 post hp)⟩
/-- the two sides answer alike, and stay tied -/
def Pair (wx wm : (Int32 → St → Prop) → Prop) : Prop := ∃ (r : Int32) (σ τ : St), (∀ post, post r σ → wx post) ∧ (∀ post, post r τ → wm post) ∧ R_ok σ τ
def PairR (wx wm : (Int32 → Prop) → Prop) : Prop := ∃ r : Int32, (∀ post, post r → wx post) ∧ ∀ post, post r → wm post
def PairX (wx : (Int32 → St → Prop) → Prop) (wm : (Int32 → Prop) → Prop) (τ : St) : Prop := ∃ (r : Int32) (σ : St), (∀ post, post r σ → wx post) ∧ (∀ post, post r → wm post) ∧ R_ok σ τ
theorem pair_bad {σ τ : St} {wx wm : (Int32 → St → Prop) → Prop} (r : Int32) (hR : R_ok σ τ) (h1 : ∀ post, post r σ → wx post) (h2 : ∀ post, post r τ → wm post) : Pair wx wm := ⟨r, σ, τ, h1, h2, hR⟩
