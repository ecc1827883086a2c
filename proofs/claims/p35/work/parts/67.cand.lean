/-! ===== pure: the candidates ===== -/
def lb (x : Int64) (i : Nat) : Bool := x.toBitVec.getLsbD i
theorem lb_or (x y : Int64) (i : Nat) : lb (x ||| y) i = (lb x i || lb y i) := by unfold lb; rw [Int64.toBitVec_or, BitVec.getLsbD_or]
theorem lb_and (x y : Int64) (i : Nat) : lb (x &&& y) i = (lb x i && lb y i) := by unfold lb; rw [Int64.toBitVec_and, BitVec.getLsbD_and]
theorem lb_0 (i : Nat) : lb 0 i = false := BitVec.getLsbD_zero
theorem lb_one : ∀ k, k < 64 → ∀ i, i < 64 → lb ((1 : Int64) <<< ((nI k).toInt64 &&& 63)) i = decide (i = k) := by decide +kernel
theorem l_ext {x y : Int64} (h : ∀ i, i < 64 → lb x i = lb y i) : x = y := Int64.toBitVec_inj.mp (BitVec.eq_of_getLsbD_eq (fun i hi => h i hi))
theorem lb_test {x : Int64} {k : Nat} (hk : k < 64) : lg_cmp (x &&& ((1 : Int64) <<< ((nI k).toInt64 &&& 63))) 0 = 0 ↔ lb x k = false := by
  rw [lg_cmp_eq]
  constructor
  · intro h
    have h2 : lb (x &&& ((1 : Int64) <<< ((nI k).toInt64 &&& 63))) k = lb 0 k := by rw [h]
    rw [lb_and, lb_one k hk k hk, lb_0] at h2
    simpa using h2
  · intro h
    refine l_ext (fun i hi => ?_)
    rw [lb_and, lb_one k hk i hi, lb_0]
    by_cases c : i = k
    · subst c; rw [h]; rfl
    · simp [c]
/-- the kept sets cut with one another, over the persons of T -/
def itN (K : Nat → Nat) (T : Nat) : Nat → Nat
  | 0 => 4095
  | p + 1 => if T.testBit p then itN K T p &&& K p else itN K T p
theorem itN_lt (K : Nat → Nat) (T : Nat) : ∀ p, itN K T p < 4096
  | 0 => by rw [itN]; omega
  | p + 1 => by
    have h := itN_lt K T p
    rw [itN]
    split
    · exact Nat.lt_of_le_of_lt Nat.and_le_left h
    · exact h
theorem itN_cong {K : Nat → Nat} {T U : Nat} : ∀ {p : Nat}, (∀ i, i < p → T.testBit i = U.testBit i) → itN K T p = itN K U p
  | 0, _ => rfl
  | p + 1, h => by rw [itN, itN, h p (by omega), itN_cong (p := p) (fun i hi => h i (by omega))]
theorem itN_0 (K : Nat → Nat) : ∀ p, itN K 0 p = 4095
  | 0 => rfl
  | p + 1 => by rw [itN, Nat.zero_testBit, if_neg (by simp)]; exact itN_0 K p
theorem and4095 {k : Nat} (h : k < 4096) : 4095 &&& k = k := by
  have e : k &&& (2 ^ 12 - 1) = k % 2 ^ 12 := Nat.and_two_pow_sub_one_eq_mod k 12
  rw [Nat.and_comm]
  rw [show (4095 : Nat) = 2 ^ 12 - 1 by decide, e]
  exact Nat.mod_eq_of_lt h
def cdB (K : Nat → Nat) (p s : Nat) : Bool := decide (s ≠ 0) && anyB (fun T => decide (itN K (T + 1) p = s)) (2 ^ p - 1)
theorem cd_iff {K : Nat → Nat} {p s : Nat} : cdB K p s = true ↔ s ≠ 0 ∧ ∃ T, 1 ≤ T ∧ T < 2 ^ p ∧ itN K T p = s := by
  rw [cdB, Bool.and_eq_true, decide_eq_true_eq, anyB_true]
  constructor
  · rintro ⟨h, T, h1, h2⟩
    exact ⟨h, T + 1, by omega, by omega, of_decide_eq_true h2⟩
  · rintro ⟨h, T, h1, h2, h3⟩
    refine ⟨h, T - 1, by omega, decide_eq_true ?_⟩
    rw [show T - 1 + 1 = T by omega]
    exact h3
theorem cd_lt {K : Nat → Nat} {p s : Nat} (h : cdB K p s = true) : s < 4096 := by
  obtain ⟨_, T, _, _, e⟩ := cd_iff.mp h
  rw [← e]
  exact itN_lt K T p
theorem cd_0 (K : Nat → Nat) (p : Nat) : cdB K p 0 = false := by rw [cdB]; simp
theorem cd_succ {K : Nat → Nat} {p s : Nat} (hK : K p < 4096) : cdB K (p + 1) s = true ↔ cdB K p s = true ∨ (s ≠ 0 ∧ s = K p) ∨ (s ≠ 0 ∧ ∃ t, t < 4096 ∧ cdB K p t = true ∧ t &&& K p = s) := by
  rw [cd_iff, cd_iff]
  constructor
  · rintro ⟨h0, T, h1, h2, h3⟩
    rw [itN] at h3
    cases c : T.testBit p
    · rw [c, if_neg (by simp)] at h3
      refine Or.inl ⟨h0, T, h1, ?_, h3⟩
      refine Nat.lt_pow_two_of_testBit T (fun i hi => ?_)
      by_cases e : i = p
      · rw [e]; exact c
      · exact Nat.testBit_lt_two_pow (Nat.lt_of_lt_of_le h2 (Nat.pow_le_pow_right (by omega) (by omega)))
    · rw [c, if_pos rfl] at h3
      have e : itN K T p = itN K (T % 2 ^ p) p := itN_cong (fun i hi => by rw [Nat.testBit_mod_two_pow]; simp [hi])
      rw [e] at h3
      by_cases z : T % 2 ^ p = 0
      · rw [z, itN_0, and4095 hK] at h3
        exact Or.inr (Or.inl ⟨h0, h3.symm⟩)
      · refine Or.inr (Or.inr ⟨h0, _, itN_lt _ _ _, cd_iff.mpr ⟨?_, T % 2 ^ p, by omega, Nat.mod_lt _ (Nat.two_pow_pos p), rfl⟩, h3⟩)
        intro w
        rw [w, Nat.zero_and] at h3
        exact h0 h3.symm
  · have hp : 2 ^ (p + 1) = 2 ^ p + 2 ^ p := by rw [Nat.pow_succ]; omega
    have pp : 0 < 2 ^ p := Nat.two_pow_pos p
    rintro (⟨h0, T, h1, h2, h3⟩ | ⟨h0, h⟩ | ⟨h0, t, ht, h, h3⟩)
    · refine ⟨h0, T, h1, by omega, ?_⟩
      rw [itN, Nat.testBit_lt_two_pow h2, if_neg (by simp)]
      exact h3
    · refine ⟨h0, 2 ^ p, by omega, by omega, ?_⟩
      have e : itN K (2 ^ p) p = itN K 0 p := itN_cong (fun i hi => by rw [Nat.testBit_two_pow, Nat.zero_testBit]; simp; omega)
      rw [itN, Nat.testBit_two_pow_self, if_pos rfl, e, itN_0, and4095 hK]
      exact h.symm
    · obtain ⟨h4, T, h1, h2, h5⟩ := cd_iff.mp h
      refine ⟨h0, 2 ^ p + T, by omega, by omega, ?_⟩
      have e : itN K (2 ^ p + T) p = itN K T p := itN_cong (fun i hi => Nat.testBit_two_pow_add_gt hi T)
      rw [itN, Nat.testBit_two_pow_add_eq, Nat.testBit_lt_two_pow h2, Bool.not_false, if_pos rfl, e, h5]
      exact h3
theorem cd_mono {K : Nat → Nat} {n s : Nat} (hK : ∀ p, p < n → K p < 4096) : ∀ {m p : Nat}, p + m = n → cdB K p s = true → cdB K n s = true
  | 0, p, e, h => by rw [← e]; exact h
  | m + 1, p, e, h => cd_mono hK (m := m) (p := p + 1) (by omega) ((cd_succ (hK p (by omega))).mpr (Or.inl h))
theorem img_le (h : Nat → Nat) (N : Nat) : ∀ M, fb_ct (fun s => anyB (fun T => decide (h T = s)) M) N ≤ M
  | 0 => by
    have : fb_ct (fun s => anyB (fun T => decide (h T = s)) 0) N = 0 := fb_ct_zero.mpr (fun _ _ => rfl)
    omega
  | M + 1 => by
    have ih := img_le h N M
    have e : (fun s => anyB (fun T => decide (h T = s)) (M + 1)) = (fun s => if s = h M then true else anyB (fun T => decide (h T = s)) M) := by
      funext s
      rw [anyB]
      by_cases c : s = h M
      · rw [if_pos c, c]; simp
      · rw [if_neg c, decide_eq_false (fun z => c z.symm), Bool.or_false]
    rw [e]
    rcases Nat.lt_or_ge (h M) N with c | c
    · have := fb_ct_upd (fun s => anyB (fun T => decide (h T = s)) M) true (i := h M) (n := N) c
      rw [if_pos rfl] at this
      omega
    · rw [fb_ct_out _ _ c]; omega
theorem cd_many (K : Nat → Nat) {n : Nat} (hn : n ≤ 10) : fb_ct (cdB K n) 4096 ≤ 1023 := by
  have h1 : fb_ct (cdB K n) 4096 ≤ fb_ct (fun s => anyB (fun T => decide (itN K (T + 1) n = s)) (2 ^ n - 1)) 4096 := fb_ct_sub (fun k _ h => by rw [cdB, Bool.and_eq_true] at h; exact h.2)
  have h2 := img_le (fun T => itN K (T + 1) n) 4096 (2 ^ n - 1)
  have h3 : 2 ^ n ≤ 2 ^ 10 := Nat.pow_le_pow_right (by omega) hn
  omega
/-- what gathering leaves as it was -/
def Fr (σ σ' : St) : Prop := (∀ j, j ≠ 8 → σ'.1 j = σ.1 j) ∧ ∀ a, a ≠ 9 → σ'.2.1 a = σ.2.1 a
theorem Fr_refl (σ : St) : Fr σ σ := ⟨fun _ _ => rfl, fun _ _ => rfl⟩
theorem Fr_tr {a b c : St} (h : Fr a b) (h2 : Fr b c) : Fr a c := ⟨fun j hj => (h2.1 j hj).trans (h.1 j hj), fun j hj => (h2.2 j hj).trans (h.2 j hj)⟩
def Gi (σ : St) (m : Nat) (N : Nat → Bool) : Prop := σ.1 8 = nI m ∧ m = fb_ct N 4096 ∧ (∀ s, s < 4096 → lb (σ.2.2 10 (s / 64)) (s % 64) = N s) ∧
  (∀ i, i < m → ∃ s, s < 4096 ∧ N s = true ∧ σ.2.1 9 i = nI s) ∧ ∀ s, s < 4096 → N s = true → ∃ i, i < m ∧ σ.2.1 9 i = nI s
theorem Gi_cong {σ : St} {m : Nat} {N M : Nat → Bool} (h : Gi σ m N) (e : ∀ s, s < 4096 → N s = M s) : Gi σ m M := by
  obtain ⟨h1, h2, h3, h4, h5⟩ := h
  refine ⟨h1, h2.trans (fb_ct_cong e), fun s hs => (h3 s hs).trans (e s hs), fun i hi => ?_, fun s hs z => h5 s hs ((e s hs).trans z)⟩
  obtain ⟨s, hs, z, w⟩ := h4 i hi
  exact ⟨s, hs, (e s hs).symm.trans z, w⟩
theorem q_isNoted {σ : St} {s : Nat} {post : Int32 → Prop} (hs : s < 4096) (h : post (if lb (σ.2.2 10 (s / 64)) (s % 64) then 1 else 0)) : wX1_isNoted σ (nI s) post := by
  unfold wX1_isNoted
  have e1 : nI s / (64 : Int32) = nI (s / 64) := pk_div (d := 64) (by omega) (by omega) (by omega)
  have e2 : nI s - nI s / (64 : Int32) * (64 : Int32) = nI (s % 64) := pk_rem (d := 64) (by omega) (by omega) (by omega)
  rw [e2, e1, cl (by omega), lb_test (by omega)]
  refine ⟨vp_in_nI (by omega) (by omega), ?_⟩
  cases c : lb (σ.2.2 10 (s / 64)) (s % 64)
  · rw [c] at h; exact ⟨fun _ => h, fun z => absurd rfl z⟩
  · rw [c] at h; exact ⟨fun z => (by cases z), fun _ => h⟩
def adN (N : Nat → Bool) (s k : Nat) : Bool := if k = s then (N s || decide (s ≠ 0)) else N k
theorem adN_at {N : Nat → Bool} {s k : Nat} (c : k = s) : adN N s k = (N s || decide (s ≠ 0)) := if_pos c
theorem adN_ne {N : Nat → Bool} {s k : Nat} (c : ¬ k = s) : adN N s k = N k := if_neg c
theorem q_note {σ : St} {m s : Nat} {N C : Nat → Bool} (hG : Gi σ m N) (hs : s < 4096) (hC : ∀ k, k < 4096 → N k = true → C k = true) (hc : fb_ct C 4096 ≤ 1023) (hsC : s ≠ 0 → C s = true) :
    ∃ (σ' : St) (m' : Nat), Gi σ' m' (adN N s) ∧ Fr σ σ' ∧ m ≤ m' ∧ (∀ i, i < m → σ'.2.1 9 i = σ.2.1 9 i) ∧ ∀ post : St → Prop, post σ' → wX1_note σ (nI s) post := by
  have hG' := hG
  obtain ⟨h1, h2, h3, h4, h5⟩ := hG
  by_cases z : s = 0
  · refine ⟨σ, m, Gi_cong hG' (fun k _ => ?_), Fr_refl σ, Nat.le_refl m, fun _ _ => rfl, fun post hp => ⟨fun _ => hp, fun h => absurd (by rw [z]; rfl) h⟩⟩
    by_cases c : k = s
    · rw [adN_at c, c, z]; simp
    · rw [adN_ne c]
  have z' : ¬ nI s = 0 := nI_ne0 (by omega) (by omega)
  cases cN : N s
  · have hm : m < 1023 := by
      have a1 := fb_ct_upd N true (i := s) (n := 4096) hs
      rw [cN, if_neg (by simp), if_pos rfl] at a1
      have a2 : fb_ct (fun k => if k = s then true else N k) 4096 ≤ fb_ct C 4096 := fb_ct_sub (fun k hk h => by
        by_cases c : k = s
        · rw [c]; exact hsC z
        · rw [if_neg c] at h; exact hC k hk h)
      omega
    have e1 : nI s / (64 : Int32) = nI (s / 64) := pk_div (d := 64) (by omega) (by omega) (by omega)
    have e2 : nI s - nI s / (64 : Int32) * (64 : Int32) = nI (s % 64) := pk_rem (d := 64) (by omega) (by omega) (by omega)
    refine ⟨st_S (st_A (st_J σ 10 (s / 64) ((σ.2.2 10 (s / 64)) ||| ((1 : Int64) <<< ((nI (s % 64)).toInt64 &&& 63)))) 9 m (nI s)) 8 (nI (m + 1)), m + 1, ⟨?_, ?_, ?_, ?_, ?_⟩, ⟨?_, ?_⟩, by omega, ?_, ?_⟩
    · rfl
    · have a1 := fb_ct_upd N true (i := s) (n := 4096) hs
      rw [cN, if_neg (by simp), if_pos rfl] at a1
      have a2 : adN N s = (fun k => if k = s then true else N k) := by
        funext k
        unfold adN
        rw [decide_eq_true z, Bool.or_true]
      rw [a2]
      omega
    · intro k hk
      show lb (vp_updL (σ.2.2 10) (s / 64) _ (k / 64)) (k % 64) = _
      unfold vp_updL
      by_cases c : k = s
      · rw [if_pos (by rw [c]), adN_at c, lb_or, c, lb_one _ (by omega) _ (by omega)]
        simp [z]
      · rw [adN_ne c]
        by_cases c2 : k / 64 = s / 64
        · rw [if_pos c2, lb_or, lb_one _ (by omega) _ (by omega), decide_eq_false (by omega), Bool.or_false, ← c2]
          exact h3 k hk
        · rw [if_neg c2]
          exact h3 k hk
    · intro i hi
      show ∃ t, t < 4096 ∧ _ ∧ upd (σ.2.1 9) m (nI s) i = nI t
      unfold upd
      by_cases c : i = m
      · exact ⟨s, hs, by rw [adN_at rfl]; simp [z], if_pos c⟩
      · obtain ⟨t, ht, a, b⟩ := h4 i (by omega)
        refine ⟨t, ht, ?_, by rw [if_neg c]; exact b⟩
        by_cases d : t = s
        · rw [adN_at d]; simp [z]
        · rw [adN_ne d]; exact a
    · intro t ht hN
      show ∃ i, i < m + 1 ∧ upd (σ.2.1 9) m (nI s) i = nI t
      unfold upd
      by_cases d : t = s
      · exact ⟨m, by omega, by rw [if_pos rfl, d]⟩
      · rw [adN_ne d] at hN
        obtain ⟨i, hi, e⟩ := h5 t ht hN
        exact ⟨i, by omega, by rw [if_neg (by omega)]; exact e⟩
    · intro j hj
      show (if j = 8 then _ else σ.1 j) = _
      rw [if_neg hj]
    · intro a ha
      show (if a = 9 then _ else σ.2.1 a) = _
      rw [if_neg ha]
    · intro i hi
      show upd (σ.2.1 9) m (nI s) i = _
      unfold upd
      rw [if_neg (by omega)]
    · intro post hp
      unfold wX1_note
      refine ⟨fun h => absurd h z', fun _ => q_isNoted hs ?_⟩
      rw [h3 s hs, cN, if_neg (by simp), e2, e1]
      refine ⟨fun h => absurd rfl h, fun _ => ⟨fun _ => ⟨vp_in_nI (by omega) (by omega), vp_in_nI (by omega) (by omega), ?_⟩, fun h => ?_⟩⟩
      · intro σ2 hσ2
        rw [cl (by omega)] at hσ2
        have e8 : σ2.1 8 = nI m := by rw [hσ2]; exact h1
        rw [e8]
        refine ⟨vp_in_nI (by omega) (by omega), ?_⟩
        intro σ3 hσ3 σ4 hσ4
        rw [cl (by omega)] at hσ3
        have e9 : σ3.1 8 = nI m := by rw [hσ3]; exact e8
        rw [hσ4, e9, nI_1, hσ3, hσ2]
        exact hp
      · rw [h1] at h
        exact absurd (nI_lt hm (by omega)) h
  · refine ⟨σ, m, Gi_cong hG' (fun k _ => ?_), Fr_refl σ, Nat.le_refl m, fun _ _ => rfl, fun post hp => ⟨fun h => absurd h z', fun _ => q_isNoted hs ?_⟩⟩
    · by_cases c : k = s
      · rw [adN_at c, c, cN]; rfl
      · rw [adN_ne c]
    · rw [h3 s hs, cN]
      exact ⟨fun _ => hp, fun h => absurd h n10⟩
theorem q_g45 {σ : St} {m n p : Nat} {K : Nat → Nat} {N C : Nat → Bool} (hG : Gi σ m N) (hp : p < 10) (h0 : σ.2.1 0 p = nI (K p)) (hC : ∀ k, k < 4096 → N k = true → C k = true) (hc : fb_ct C 4096 ≤ 1023)
    (hs : ∀ t, t < 4096 → N t = true → t &&& K p ≠ 0 → C (t &&& K p) = true) :
    ∃ (σ' : St) (m' : Nat) (N' : Nat → Bool), Gi σ' m' N' ∧ Fr σ σ' ∧ (∀ k, k < 4096 → (N' k = true ↔ N k = true ∨ (k ≠ 0 ∧ ∃ t, t < 4096 ∧ N t = true ∧ t &&& K p = k))) ∧ ∀ post : St → Prop, post σ' → ∃ c, lpX1_gather_45 (nI n) (nI p) (nI m) post c 0 σ := by
  have hm : m ≤ 1023 := by
    have := hG.2.1
    have h2 : fb_ct N 4096 ≤ fb_ct C 4096 := fb_ct_sub hC
    omega
  obtain ⟨σ', ⟨m', N', g1, g2, g3, g4, g5⟩, hw⟩ := lp_val (Pt := St → Prop) (α := St) (fun post c i acc => lpX1_gather_45 (nI n) (nI p) (nI m) post c i acc) (fun post acc => post acc)
    (fun i acc => ∃ (m' : Nat) (N' : Nat → Bool), Gi acc m' N' ∧ Fr σ acc ∧ m ≤ m' ∧ (∀ j, j < m → acc.2.1 9 j = σ.2.1 9 j) ∧ ∀ k, k < 4096 → (N' k = true ↔ N k = true ∨ (k ≠ 0 ∧ ∃ j, j < i ∧ ∃ t, t < 4096 ∧ N t = true ∧ σ.2.1 9 j = nI t ∧ t &&& K p = k))) m
    (fun post acc c _ hp2 => by
      rw [lpX1_gather_45]
      exact ⟨fun _ => hp2, fun h => absurd (nI_le (Nat.le_refl m) (by omega)) h⟩)
    (fun i acc hi hI => by
      obtain ⟨m1, N1, g1, g2, g3, g4, g5⟩ := hI
      obtain ⟨t, ht, hN, et⟩ := hG.2.2.2.1 i hi
      have ht2 : t &&& K p < 4096 := Nat.lt_of_le_of_lt Nat.and_le_left ht
      have hC1 : ∀ k, k < 4096 → N1 k = true → C k = true := fun k hk h => by
        rcases (g5 k hk).mp h with a | ⟨b, j, hj, u, hu, a1, a2, a3⟩
        · exact hC k hk a
        · rw [← a3]; exact hs u hu a1 (by rw [a3]; exact b)
      obtain ⟨σ2, m2, k1, k2, k3, k4, k5⟩ := q_note g1 ht2 hC1 hc (fun z => hs t ht hN z)
      refine ⟨σ2, ⟨m2, _, k1, Fr_tr g2 k2, by omega, fun j hj => (k4 j (by omega)).trans (g4 j hj), fun k hk => ?_⟩, fun post c h => ?_⟩
      · by_cases c : k = t &&& K p
        · rw [adN_at c, Bool.or_eq_true, decide_eq_true_eq, ← c, g5 k hk]
          constructor
          · rintro ((a | ⟨b, j, hj, r⟩) | a)
            · exact Or.inl a
            · exact Or.inr ⟨b, j, by omega, r⟩
            · exact Or.inr ⟨a, i, by omega, t, ht, hN, et, c.symm⟩
          · rintro (a | ⟨b, _⟩)
            · exact Or.inl (Or.inl a)
            · exact Or.inr b
        · rw [adN_ne c, g5 k hk]
          constructor
          · rintro (a | ⟨b, j, hj, r⟩)
            · exact Or.inl a
            · exact Or.inr ⟨b, j, by omega, r⟩
          · rintro (a | ⟨b, j, hj, u, hu, a1, a2, a3⟩)
            · exact Or.inl a
            · refine Or.inr ⟨b, j, ?_, u, hu, a1, a2, a3⟩
              by_cases d : j = i
              · exfalso
                rw [d, et] at a2
                have := (nI_eq (by omega) (by omega)).mp a2
                rw [← this] at a3
                exact c a3.symm
              · omega
      · rw [lpX1_gather_45]
        refine ⟨fun h2 => absurd h2 (nI_ge hi (by omega)), fun _ => ⟨vp_in_nI (by omega) (by omega), in10 hp, ?_⟩⟩
        rw [cl (by omega), cl (by omega), g4 i hi, et, g2.2 0 (by omega), h0, fa_and]
        refine k5 _ ?_
        intro x7 hx7
        rw [hx7, nI_1]
        exact h)
    m 0 σ (by omega) ⟨m, N, hG, Fr_refl σ, Nat.le_refl m, fun _ _ => rfl, fun k hk => ⟨fun h => Or.inl h, fun h => by
      rcases h with a | ⟨_, j, hj, _⟩
      · exact a
      · exact absurd hj (Nat.not_lt_zero j)⟩⟩
  refine ⟨σ', m', N', g1, g2, fun k hk => ?_, fun post hp2 => ⟨_, hw post hp2⟩⟩
  rw [g5 k hk]
  constructor
  · rintro (a | ⟨b, j, hj, t, ht, a1, a2, a3⟩)
    · exact Or.inl a
    · exact Or.inr ⟨b, t, ht, a1, a3⟩
  · rintro (a | ⟨b, t, ht, a1, a3⟩)
    · exact Or.inl a
    · obtain ⟨j, hj, e⟩ := hG.2.2.2.2 t ht a1
      exact Or.inr ⟨b, j, hj, t, ht, a1, e, a3⟩
theorem bool_iff {a b : Bool} (h : a = true ↔ b = true) : a = b := by
  cases a <;> cases b <;> simp_all
theorem q_g31 {σ : St} {n : Nat} {K : Nat → Nat} (hn : n ≤ 10) (hK : ∀ p, p < n → K p < 4096 ∧ σ.2.1 0 p = nI (K p)) (hG : Gi σ 0 (cdB K 0)) :
    ∃ (σ' : St) (m : Nat), Gi σ' m (cdB K n) ∧ Fr σ σ' ∧ ∀ post : St → Prop, post σ' → ∃ c, lpX1_gather_31 (nI n) post c 0 σ := by
  have hcm := cd_many K hn
  obtain ⟨σ', ⟨⟨m, g1⟩, g2⟩, hw⟩ := lp_val (Pt := St → Prop) (α := St) (fun post c i acc => lpX1_gather_31 (nI n) post c i acc) (fun post acc => post acc)
    (fun i acc => (∃ m, Gi acc m (cdB K i)) ∧ Fr σ acc) n
    (fun post acc c _ hp2 => by
      rw [lpX1_gather_31]
      exact ⟨fun _ => hp2, fun h => absurd (nI_le (Nat.le_refl n) (by omega)) h⟩)
    (fun i acc hi hI => by
      obtain ⟨⟨m, g1⟩, g2⟩ := hI
      have hKi := (hK i hi).1
      have h0 : acc.2.1 0 i = nI (K i) := by rw [g2.2 0 (by omega)]; exact (hK i hi).2
      have up : ∀ s, cdB K (i + 1) s = true → cdB K n s = true := fun s h => cd_mono (fun p hp => (hK p hp).1) (m := n - (i + 1)) (p := i + 1) (by omega) h
      obtain ⟨σ1, m1, N1, k1, k2, k3, k4⟩ := q_g45 (n := n) (p := i) (K := K) (C := cdB K n) g1 (by omega) h0 (fun k _ h => up k ((cd_succ hKi).mpr (Or.inl h))) hcm (fun t ht h z => up _ ((cd_succ hKi).mpr (Or.inr (Or.inr ⟨z, t, ht, h, rfl⟩))))
      have hN1 : ∀ k, k < 4096 → N1 k = true → cdB K n k = true := fun k hk h => by
        rcases (k3 k hk).mp h with a | ⟨b, t, ht, a1, a2⟩
        · exact up k ((cd_succ hKi).mpr (Or.inl a))
        · exact up k ((cd_succ hKi).mpr (Or.inr (Or.inr ⟨b, t, ht, a1, a2⟩)))
      obtain ⟨σ2, m2, l1, l2, l3, l4, l5⟩ := q_note k1 hKi hN1 hcm (fun z => up _ ((cd_succ hKi).mpr (Or.inr (Or.inl ⟨z, rfl⟩))))
      refine ⟨σ2, ⟨⟨m2, Gi_cong l1 (fun s hs => bool_iff ?_)⟩, Fr_tr g2 (Fr_tr k2 l2)⟩, fun post c h => ?_⟩
      · rw [cd_succ hKi]
        by_cases c : s = K i
        · rw [adN_at c, Bool.or_eq_true, decide_eq_true_eq, ← c, k3 s hs, ← c]
          constructor
          · rintro ((a | b) | a)
            · exact Or.inl a
            · exact Or.inr (Or.inr b)
            · exact Or.inr (Or.inl ⟨a, rfl⟩)
          · rintro (a | ⟨a, _⟩ | b)
            · exact Or.inl (Or.inl a)
            · exact Or.inr a
            · exact Or.inl (Or.inr b)
        · rw [adN_ne c, k3 s hs]
          constructor
          · rintro (a | b)
            · exact Or.inl a
            · exact Or.inr (Or.inr b)
          · rintro (a | ⟨_, a⟩ | b)
            · exact Or.inl a
            · exact absurd a c
            · exact Or.inr b
      · rw [lpX1_gather_31]
        refine ⟨fun h2 => absurd h2 (nI_ge hi (by omega)), fun _ => ?_⟩
        intro x5 hx5
        rw [hx5, g1.1]
        refine k4 _ ⟨in10 (by omega), ?_⟩
        rw [cl (by omega), k2.2 0 (by omega), h0]
        refine l5 _ ?_
        intro x10 hx
        rw [hx, nI_1]
        exact h)
    n 0 σ (by omega) ⟨⟨0, hG⟩, Fr_refl σ⟩
  exact ⟨σ', m, g1, g2, fun post hp => ⟨_, hw post hp⟩⟩
def Po (σ0 : St) (m : Nat) (N : Nat → Bool) (j : Nat) (σ : St) : Prop := Fr σ0 σ ∧ σ.1 8 = nI m ∧ (∀ s, s < 4096 → lb (σ.2.2 10 (s / 64)) (s % 64) = N s) ∧ ∀ s, s < j → N s = true → σ.2.1 9 (fb_ct N s) = nI s
theorem q_order {σ0 : St} {m : Nat} {N : Nat → Bool} (hm : m = fb_ct N 4096) (hm2 : m ≤ 1023) : ∀ (c j : Nat) (σ : St), j + c = 4096 → Po σ0 m N j σ →
    ∃ σ', Po σ0 m N 4096 σ' ∧ ∀ post : St → Prop, post σ' → lpX1_putInOrder_4 post (c + 1) (nI (fb_ct N j)) (nI j) σ := by
  intro c
  induction c with
  | zero =>
    intro j σ e h
    have : j = 4096 := by omega
    subst this
    refine ⟨σ, h, fun post hp => ?_⟩
    rw [lpX1_putInOrder_4]
    exact ⟨fun _ => hp, fun z => absurd (nI_le (Nat.le_refl 4096) (by omega)) z⟩
  | succ c ih =>
    intro j σ e h
    have hP := h
    obtain ⟨h1, h2, h3, h4⟩ := h
    have hle : fb_ct N j ≤ m := by rw [hm]; exact fb_ct_mono N (by omega)
    rcases Nat.lt_or_ge (fb_ct N j) m with hlt | hge
    · cases cN : N j
      · have e2 : fb_ct N (j + 1) = fb_ct N j := by rw [fb_ct_succ, cN]; simp
        obtain ⟨σ', p1, p2⟩ := ih (j + 1) σ (by omega) ⟨h1, h2, h3, fun s hs hN => by
          by_cases d : s = j
          · rw [d, cN] at hN; cases hN
          · exact h4 s (by omega) hN⟩
        refine ⟨σ', p1, fun post hp => ?_⟩
        rw [lpX1_putInOrder_4, h2]
        refine ⟨fun z => absurd z (nI_ge (b := 4096) (by omega) (by omega)), fun _ => ⟨fun z => absurd z (nI_ge hlt (by omega)), fun _ => q_isNoted (by omega) ?_⟩⟩
        rw [h3 j (by omega), cN, if_neg (by simp)]
        refine ⟨fun _ => ?_, fun z => absurd rfl z⟩
        intro x2 hx2
        rw [hx2, nI_1, ← e2]
        exact p2 post hp
      · have e2 : fb_ct N (j + 1) = fb_ct N j + 1 := by rw [fb_ct_succ, cN]; simp
        obtain ⟨σ', p1, p2⟩ := ih (j + 1) (st_A σ 9 (fb_ct N j) (nI j)) (by omega) ⟨⟨h1.1, fun a ha => by
            show (if a = 9 then _ else σ.2.1 a) = _
            rw [if_neg ha]; exact h1.2 a ha⟩, h2, h3, fun s hs hN => by
          show upd (σ.2.1 9) (fb_ct N j) (nI j) (fb_ct N s) = nI s
          unfold upd
          by_cases d : s = j
          · rw [d, if_pos rfl]
          · rw [if_neg (fun z => d (fb_ct_kth_one hN cN z))]
            exact h4 s (by omega) hN⟩
        refine ⟨σ', p1, fun post hp => ?_⟩
        rw [lpX1_putInOrder_4, h2]
        refine ⟨fun z => absurd z (nI_ge (b := 4096) (by omega) (by omega)), fun _ => ⟨fun z => absurd z (nI_ge hlt (by omega)), fun _ => q_isNoted (by omega) ?_⟩⟩
        rw [h3 j (by omega), cN, if_pos rfl]
        refine ⟨fun z => absurd z n10, fun _ => ⟨vp_in_nI (by omega) (by omega), ?_⟩⟩
        intro σ3 hσ3 x4 hx4 x5 hx5
        rw [cl (by omega)] at hσ3
        rw [hσ3, hx4, hx5, nI_1, nI_1, ← e2]
        exact p2 post hp
    · refine ⟨σ, ⟨h1, h2, h3, fun s hs hN => ?_⟩, fun post hp => ?_⟩
      · rcases Nat.lt_or_ge s j with d | d
        · exact h4 s d hN
        · exfalso
          have a1 : fb_ct N j ≤ fb_ct N s := fb_ct_mono N d
          have a2 : fb_ct N (s + 1) = fb_ct N s + 1 := by rw [fb_ct_succ, hN]; simp
          have a3 : fb_ct N (s + 1) ≤ fb_ct N 4096 := fb_ct_mono N (by omega)
          omega
      · rw [lpX1_putInOrder_4, h2]
        refine ⟨fun _ => hp, fun _ => ⟨fun _ => hp, fun z => absurd (nI_le hge (by omega)) z⟩⟩
theorem q_gather {σ : St} {n : Nat} {K : Nat → Nat} (hn : n ≤ 10) (hK : ∀ p, p < n → K p < 4096 ∧ σ.2.1 0 p = nI (K p)) :
    ∃ σ', Fr σ σ' ∧ σ'.1 8 = nI (fb_ct (cdB K n) 4096) ∧ (∀ s, cdB K n s = true → σ'.2.1 9 (fb_ct (cdB K n) s) = nI s) ∧ ∀ post : St → Prop, post σ' → wX1_gather σ (nI n) post := by
  obtain ⟨σ1, ⟨z1, z2⟩, hw⟩ := lp_val (Pt := St → Prop) (α := St) (fun post c i acc => lpX1_gather_2 (nI n) post c i acc) (fun post acc => post acc)
    (fun i acc => Fr σ acc ∧ ∀ j, j < i → acc.2.2 10 j = 0) 64
    (fun post acc c _ hp2 => by
      rw [lpX1_gather_2]
      exact ⟨fun _ => hp2, fun h => absurd (nI_le (Nat.le_refl 64) (by omega)) h⟩)
    (fun i acc hi hI => by
      refine ⟨st_J acc 10 i 0, ⟨⟨hI.1.1, hI.1.2⟩, fun j hj => ?_⟩, fun post c h => ?_⟩
      · show vp_updL (acc.2.2 10) i 0 j = 0
        unfold vp_updL
        by_cases d : j = i
        · rw [if_pos d]
        · rw [if_neg d]; exact hI.2 j (by omega)
      · rw [lpX1_gather_2]
        refine ⟨fun h2 => absurd h2 (nI_ge (b := 64) hi (by omega)), fun _ => ⟨vp_in_nI (by omega) (by omega), ?_⟩⟩
        intro σ1 h1 x2 hx
        rw [cl (by omega)] at h1
        rw [h1, hx, nI_1]
        exact h)
    64 0 σ (by omega) ⟨Fr_refl σ, fun j hj => absurd hj (Nat.not_lt_zero j)⟩
  have f1 : Fr σ (st_S σ1 8 0) := ⟨fun j hj => by
    show (if j = 8 then _ else σ1.1 j) = _
    rw [if_neg hj]; exact z1.1 j hj, z1.2⟩
  have c0 : ∀ s, cdB K 0 s = false := fun s => by rw [cdB]; simp [anyB]
  have g0 : Gi (st_S σ1 8 0) 0 (cdB K 0) := ⟨rfl, (fb_ct_zero.mpr (fun k _ => c0 k)).symm, fun s hs => by
    show lb (σ1.2.2 10 (s / 64)) (s % 64) = _
    rw [z2 (s / 64) (by omega), lb_0, c0], fun i hi => absurd hi (Nat.not_lt_zero i), fun s _ h => by rw [c0] at h; cases h⟩
  obtain ⟨σ2, m, g1, g2, g3⟩ := q_g31 hn (σ := st_S σ1 8 0) (fun p hp => ⟨(hK p hp).1, by rw [f1.2 0 (by omega)]; exact (hK p hp).2⟩) g0
  have hcm := cd_many K hn
  have em := g1.2.1
  obtain ⟨σ3, ⟨p1, p2, p3, p4⟩, p5⟩ := q_order (σ0 := σ) (m := m) (N := cdB K n) em (by omega) 4095 1 σ2 (by omega) ⟨Fr_tr f1 g2, g1.1, g1.2.2.1, fun s hs h => by
    have : s = 0 := by omega
    rw [this, cd_0] at h; cases h⟩
  refine ⟨σ3, p1, by rw [p2, em], fun s h => p4 s (cd_lt h) h, fun post hp => ?_⟩
  refine ⟨_, hw _ ?_⟩
  intro σ4 h4
  rw [h4]
  have := p5 (fun σ13 => post σ13) hp
  have e1 : fb_ct (cdB K n) 1 = 0 := by rw [fb_ct_succ, cd_0]; rfl
  rw [e1] at this
  exact g3 _ ⟨_, this⟩
/-- what setting the candidates leaves as it was -/
def FrM (τ τ' : St) : Prop := τ'.1 = τ.1 ∧ ∀ a, a ≠ 8 → a ≠ 9 → τ'.2.1 a = τ.2.1 a
theorem FrM_refl (τ : St) : FrM τ τ := ⟨rfl, fun _ _ _ => rfl⟩
theorem FrM_A {τ τ' : St} (h : FrM τ τ') {j i : Nat} {v : Int32} (hj : j = 8 ∨ j = 9) : FrM τ (st_A τ' j i v) := ⟨h.1, fun a h8 h9 => by
  show (if a = j then _ else τ'.2.1 a) = _
  rw [if_neg (by omega)]
  exact h.2 a h8 h9⟩
theorem MLog_fr {τ τ' : St} {u d sp se : Nat} (h : FrM τ τ') (hL : MLog τ u d sp se) : MLog τ' u d sp se := by
  unfold MLog
  rw [h.1, h.2 2 (by omega) (by omega), h.2 4 (by omega) (by omega), h.2 5 (by omega) (by omega), h.2 6 (by omega) (by omega)]
  exact hL
theorem mkept_fr {τ τ' : St} {u d sp se p : Nat} (h : FrM τ τ') : mkept τ' u d sp se p = mkept τ u d sp se p := by
  unfold mkept
  rw [h.1, h.2 2 (by omega) (by omega), h.2 4 (by omega) (by omega), h.2 5 (by omega) (by omega), h.2 6 (by omega) (by omega)]
theorem nar0 : vp_nar .boolean (0 : Int32) = 0 := by decide +kernel
theorem nar1 : vp_nar .boolean (1 : Int32) = 1 := by decide +kernel
theorem shl1 : ∀ n, n < 11 → ((1 : Int32) <<< (nI n &&& 31)) = nI (2 ^ n) := by decide +kernel
theorem q_inter {τ : St} {n T : Nat} {K : Nat → Nat} {post : Int32 → Prop} (h1 : τ.1 1 = nI n) (hn : n ≤ 10) (hK : ∀ p, p < n → τ.2.1 8 p = nI (K p)) (h : post (nI (itN K T n))) :
    ∃ c, lpX10_setCandidates_67 (nI T) τ post c (4095 : Int32) (0 : Int32) := by
  obtain ⟨v, hv, hw⟩ := lp_val (Pt := Int32 → Prop) (α := Int32) (fun post c i acc => lpX10_setCandidates_67 (nI T) τ post c acc i) (fun post acc => post acc)
    (fun i acc => acc = nI (itN K T i)) n
    (fun post acc c _ hp2 => by
      rw [lpX10_setCandidates_67, h1]
      exact ⟨fun _ => hp2, fun h => absurd (nI_le (Nat.le_refl n) (by omega)) h⟩)
    (fun i acc hi hI => by
      refine ⟨_, rfl, fun post c h => ?_⟩
      subst hI
      rw [lpX10_setCandidates_67, h1]
      refine ⟨fun h2 => absurd h2 (nI_ge hi (by omega)), fun _ => q_has (by omega) ?_⟩
      rw [pb_nI (by omega)]
      rw [itN] at h
      cases b : T.testBit i
      · rw [b, if_neg (by simp)] at h
        rw [if_neg (by simp)]
        refine ⟨fun _ => ?_, fun z => absurd rfl z⟩
        intro x9 h9 x10 h10
        have e : nI (itN K T i) &&& (4095 : Int32) = nI (itN K T i) := by
          have := fa_and (itN K T i) 4095
          rw [Nat.and_comm, and4095 (itN_lt K T i)] at this
          exact this
        rw [h9, h10, nI_1, e]
        exact h
      · rw [b, if_pos rfl] at h
        rw [if_pos rfl]
        refine ⟨fun z => absurd z n10, fun _ => ⟨in10 (by omega), ?_⟩⟩
        intro x9 h9 x10 h10
        rw [h9, h10, nI_1, cl (by omega), hK i hi, fa_and]
        exact h)
    n 0 (4095 : Int32) (by omega) rfl
  exact ⟨_, hw post (by rw [hv]; exact h)⟩
theorem q_setc {τ : St} {n u d sp se : Nat} {K : Nat → Nat} (hL : MLog τ u d sp se) (h1 : τ.1 1 = nI n) (hn : n ≤ 10) (hK : ∀ p, p < n → mkept τ u d sp se p = nI (K p)) :
    ∃ τ', FrM τ τ' ∧ (∀ p, p < n → τ'.2.1 8 p = nI (K p)) ∧ (∀ s, s < 4096 → τ'.2.1 9 s = if cdB K n s then 1 else 0) ∧ ∀ post : Int32 → St → Prop, post (nI (fb_ct (cdB K n) 4096)) τ' → wX10_setCandidates τ post := by
  have pw : 2 ^ n ≤ 2 ^ 10 := Nat.pow_le_pow_right (by omega) hn
  have pp : 0 < 2 ^ n := Nat.two_pow_pos n
  have e1 : ∀ τ', FrM τ τ' → τ'.1 1 = nI n := fun τ' h => by rw [h.1]; exact h1
  obtain ⟨τ1, ⟨a1, a2⟩, w1⟩ := lp_val (Pt := St → Prop) (α := St) (fun post c i acc => lpX10_setCandidates_2 post c i acc) (fun post acc => post acc)
    (fun i acc => FrM τ acc ∧ ∀ j, j < i → acc.2.1 9 j = 0) 4096
    (fun post acc c _ hp2 => by
      rw [lpX10_setCandidates_2]
      exact ⟨fun _ => hp2, fun h => absurd (nI_le (Nat.le_refl 4096) (by omega)) h⟩)
    (fun i acc hi hI => by
      refine ⟨st_A acc 9 i 0, ⟨FrM_A hI.1 (Or.inr rfl), fun j hj => ?_⟩, fun post c h => ?_⟩
      · show upd (acc.2.1 9) i 0 j = 0
        unfold upd
        by_cases d : j = i
        · rw [if_pos d]
        · rw [if_neg d]; exact hI.2 j (by omega)
      · rw [lpX10_setCandidates_2]
        refine ⟨fun h2 => absurd h2 (nI_ge (b := 4096) hi (by omega)), fun _ => ⟨vp_in_nI (by omega) (by omega), ?_⟩⟩
        intro σ1 h1 x2 hx
        rw [cl (by omega), nar0] at h1
        rw [h1, hx, nI_1]
        exact h)
    4096 0 τ (by omega) ⟨FrM_refl τ, fun j hj => absurd hj (Nat.not_lt_zero j)⟩
  obtain ⟨τ2, ⟨b1, b2, b3⟩, w2⟩ := lp_val (Pt := St → Prop) (α := St) (fun post c i acc => lpX10_setCandidates_24 post c i acc) (fun post acc => post acc)
    (fun i acc => FrM τ acc ∧ (∀ j, j < 4096 → acc.2.1 9 j = 0) ∧ ∀ p, p < i → acc.2.1 8 p = nI (K p)) n
    (fun post acc c hI hp2 => by
      rw [lpX10_setCandidates_24, e1 acc hI.1]
      exact ⟨fun _ => hp2, fun h => absurd (nI_le (Nat.le_refl n) (by omega)) h⟩)
    (fun i acc hi hI => by
      refine ⟨st_A acc 8 i (nI (K i)), ⟨FrM_A hI.1 (Or.inl rfl), hI.2.1, fun j hj => ?_⟩, fun post c h => ?_⟩
      · show upd (acc.2.1 8) i (nI (K i)) j = nI (K j)
        unfold upd
        by_cases d : j = i
        · rw [if_pos d, d]
        · rw [if_neg d]; exact hI.2.2 j (by omega)
      · rw [lpX10_setCandidates_24, e1 acc hI.1]
        refine ⟨fun h2 => absurd h2 (nI_ge hi (by omega)), fun _ => q_mkept (MLog_fr hI.1 hL) (by omega) ⟨in10 (by omega), ?_⟩⟩
        intro σ1 h1 x2 hx
        rw [cl (by omega), mkept_fr hI.1, hK i hi] at h1
        rw [h1, hx, nI_1]
        exact h)
    n 0 τ1 (by omega) ⟨a1, a2, fun j hj => absurd hj (Nat.not_lt_zero j)⟩
  obtain ⟨τ3, ⟨c1, c2, _, c3⟩, w3⟩ := lp_val (Pt := St → Prop) (α := St) (fun post c i acc => lpX10_setCandidates_51 post c i acc) (fun post acc => post acc)
    (fun i acc => FrM τ acc ∧ (∀ p, p < n → acc.2.1 8 p = nI (K p)) ∧ 1 ≤ i ∧ ∀ s, s < 4096 → acc.2.1 9 s = if (decide (s ≠ 0) && anyB (fun U => decide (itN K (U + 1) n = s)) (i - 1)) then 1 else 0) (2 ^ n)
    (fun post acc c hI hp2 => by
      rw [lpX10_setCandidates_51, e1 acc hI.1, shl1 n (by omega)]
      exact ⟨fun _ => hp2, fun h => absurd (nI_le (Nat.le_refl (2 ^ n)) (by omega)) h⟩)
    (fun i acc hi hI => by
      have hi0 : 1 ≤ i := hI.2.2.1
      refine ⟨st_A acc 9 (itN K i n) (if itN K i n = 0 then 0 else 1), ⟨FrM_A hI.1 (Or.inr rfl), hI.2.1, by omega, fun s hs => ?_⟩, fun post c h => ?_⟩
      · show upd (acc.2.1 9) (itN K i n) _ s = _
        unfold upd
        rw [show i + 1 - 1 = (i - 1) + 1 by omega, anyB, show i - 1 + 1 = i by omega]
        by_cases d : s = itN K i n
        · rw [if_pos d, ← d, decide_eq_true (rfl : s = s), Bool.or_true, Bool.and_true]
          by_cases z : s = 0
          · rw [if_pos z, z]; rfl
          · rw [if_neg z, decide_eq_true z]; rfl
        · rw [if_neg d, hI.2.2.2 s hs, decide_eq_false (show ¬ itN K i n = s from fun z => d z.symm), Bool.or_false]
      · rw [lpX10_setCandidates_51, e1 acc hI.1, shl1 n (by omega)]
        refine ⟨fun h2 => absurd h2 (nI_ge hi (by omega)), fun _ => q_inter (e1 acc hI.1) hn hI.2.1 ?_⟩
        have hit := itN_lt K i n
        refine ⟨fun z => ⟨vp_in_nI hit (by omega), ?_⟩, fun z => ⟨vp_in_nI hit (by omega), ?_⟩⟩
        · intro σ1 h1 x2 hx
          have z2 : itN K i n = 0 := (nI_eq (by omega) (by omega)).mp z
          rw [if_pos z2] at h
          rw [cl (by omega), nar0] at h1
          rw [h1, hx, nI_1]
          exact h
        · intro σ1 h1 x2 hx
          have z2 : ¬ itN K i n = 0 := fun w => z (by rw [w]; rfl)
          rw [if_neg z2] at h
          rw [cl (by omega), nar1] at h1
          rw [h1, hx, nI_1]
          exact h)
    (2 ^ n - 1) 1 τ2 (by omega) ⟨b1, b3, by omega, fun s hs => by rw [b2 s hs]; simp [anyB]⟩
  obtain ⟨v, hv, w4⟩ := lp_val (Pt := Int32 → St → Prop) (α := Int32) (fun post c i acc => lpX10_setCandidates_129 τ3 post c acc i) (fun post acc => post acc τ3)
    (fun i acc => acc = nI (fb_ct (cdB K n) i)) 4096
    (fun post acc c hI hp2 => by
      rw [lpX10_setCandidates_129]
      exact ⟨fun _ => hp2, fun h => absurd (nI_le (Nat.le_refl 4096) (by omega)) h⟩)
    (fun i acc hi hI => by
      refine ⟨_, rfl, fun post c h => ?_⟩
      subst hI
      rw [lpX10_setCandidates_129]
      refine ⟨fun h2 => absurd h2 (nI_ge (b := 4096) hi (by omega)), fun _ => ⟨vp_in_nI hi (by omega), ?_⟩⟩
      have e9 : τ3.2.1 9 i = if cdB K n i then 1 else 0 := c3 i hi
      rw [cl (by omega), e9]
      rw [fb_ct_succ] at h
      cases b : cdB K n i
      · rw [b] at h
        refine ⟨fun _ => ?_, fun z => absurd rfl z⟩
        intro x9 h9 x10 h10
        rw [h9, h10, nI_1]
        have e : nI (fb_ct (cdB K n) i) + (0 : Int32) = nI (fb_ct (cdB K n) i) := nI_add _ 0
        rw [e]
        exact h
      · rw [b] at h
        refine ⟨fun z => absurd z n10, fun _ => ?_⟩
        intro x9 h9 x10 h10
        rw [h9, h10, nI_1, nI_1]
        exact h)
    4095 1 (0 : Int32) (by omega) (by rw [fb_ct_succ, cd_0]; rfl)
  refine ⟨τ3, c1, c2, fun s hs => c3 s hs, fun post hp => ?_⟩
  refine ⟨_, w1 _ ⟨_, w2 _ ⟨_, w3 _ ⟨_, w4 _ ?_⟩⟩⟩⟩
  rw [hv]
  exact hp
theorem R_fr {σ τ σ' τ' : St} {n u d sp se gr : Nat} (hR : R_all σ τ n u d sp se gr) (f : Fr σ σ') (g : FrM τ τ') : R_all σ' τ' n u d sp se gr := by
  unfold R_all R_sc R_ar R_pe R_us R_st R_ro R_pl R_sh R_ba at *
  rw [g.1, g.2 0 (by omega) (by omega), g.2 1 (by omega) (by omega), g.2 2 (by omega) (by omega), g.2 3 (by omega) (by omega), g.2 4 (by omega) (by omega), g.2 5 (by omega) (by omega), g.2 6 (by omega) (by omega), g.2 7 (by omega) (by omega), g.2 10 (by omega) (by omega), g.2 14 (by omega) (by omega), g.2 15 (by omega) (by omega), g.2 16 (by omega) (by omega), g.2 17 (by omega) (by omega),
    f.1 0 (by omega), f.1 1 (by omega), f.1 2 (by omega), f.1 3 (by omega), f.1 4 (by omega), f.1 5 (by omega), f.1 6 (by omega), f.1 7 (by omega), f.1 9 (by omega), f.1 10 (by omega), f.1 12 (by omega), f.1 13 (by omega), f.1 14 (by omega),
    f.2 1 (by omega), f.2 2 (by omega), f.2 3 (by omega), f.2 4 (by omega), f.2 5 (by omega), f.2 6 (by omega), f.2 7 (by omega), f.2 8 (by omega), f.2 11 (by omega), f.2 17 (by omega), f.2 18 (by omega), f.2 19 (by omega), f.2 20 (by omega), f.2 21 (by omega)]
  exact hR
/-- both sides with their candidates set -/
def Cs (σ τ : St) (K : Nat → Nat) (n : Nat) : Prop := (∀ p, p < n → K p < 4096) ∧ (∀ p, p < n → σ.2.1 0 p = nI (K p)) ∧ (∀ p, p < n → τ.2.1 8 p = nI (K p)) ∧ σ.1 8 = nI (fb_ct (cdB K n) 4096) ∧
  (∀ s, cdB K n s = true → σ.2.1 9 (fb_ct (cdB K n) s) = nI s) ∧ ∀ s, s < 4096 → τ.2.1 9 s = if cdB K n s then 1 else 0
theorem q_both {σ τ : St} {n u d sp se gr : Nat} (hR : R_all σ τ n u d sp se gr) : ∃ (K : Nat → Nat) (σ' τ' : St), R_all σ' τ' n u d sp se gr ∧ Cs σ' τ' K n ∧
    (∀ post : St → Prop, post σ' → wX9_lookAtKept σ (fun σ1 => wX1_gather σ1 (σ1.1 6) post)) ∧ ∀ post : Int32 → St → Prop, post (nI (fb_ct (cdB K n) 4096)) τ' → wX10_setCandidates τ post := by
  have hxl := R_xlog hR
  have hml := R_mlog hR
  obtain ⟨⟨⟨h6, m1, hn⟩, _⟩, _⟩ := id hR
  have hk : ∀ p, xkept σ u d sp se p = nI ((xkept σ u d sp se p).toNatClampNeg) ∧ (xkept σ u d sp se p).toNatClampNeg < 4096 := fun p => by
    obtain ⟨k, k1, k2⟩ := sm_nat (keptF_sm (rights := σ.2.1 3) (who := σ.2.1 6) (which := σ.2.1 7) (wen := σ.2.1 8) (stb := σ.1 0) (u := u) (d := d) (sp := sp) (se := se) (p := p))
    have e : xkept σ u d sp se p = nI k := k2
    rw [e, cl (by omega)]
    exact ⟨rfl, k1⟩
  have hRs := R_scr (fb_put (σ.2.1 0) (fun p => xkept σ u d sp se p) 0 n) hR
  have hg : ∀ p, p < n → fb_put (σ.2.1 0) (fun p => xkept σ u d sp se p) 0 n p = xkept σ u d sp se p := fun p hp => by rw [fb_put_in (by omega) (by omega)]; rfl
  obtain ⟨σ', f1, f2, f3, f4⟩ := q_gather (σ := st_R σ 0 (fb_put (σ.2.1 0) (fun p => xkept σ u d sp se p) 0 n)) (K := fun p => (xkept σ u d sp se p).toNatClampNeg) hn (fun p hp => ⟨(hk p).2, by
    show fb_put (σ.2.1 0) (fun p => xkept σ u d sp se p) 0 n p = _
    rw [hg p hp]; exact (hk p).1⟩)
  obtain ⟨τ', g1, g2, g3, g4⟩ := q_setc (K := fun p => (xkept σ u d sp se p).toNatClampNeg) hml m1 hn (fun p hp => by rw [R_kept hR]; exact (hk p).1)
  refine ⟨fun p => (xkept σ u d sp se p).toNatClampNeg, σ', τ', R_fr hRs f1 g1, ⟨fun p _ => (hk p).2, fun p hp => ?_, g2, f2, f3, g3⟩, fun post hp => q_look hxl h6 hn ?_, g4⟩
  · rw [f1.2 0 (by omega)]
    show fb_put (σ.2.1 0) (fun p => xkept σ u d sp se p) 0 n p = _
    rw [hg p hp]; exact (hk p).1
  · have e : (st_R σ 0 (fb_put (σ.2.1 0) (fun p => xkept σ u d sp se p) 0 n)).1 6 = nI n := h6
    rw [e]
    exact f4 post hp
theorem pr_candidates {σ τ : St} (hR : R_ok σ τ) : Pair (wX9_candidates σ) (wX10_candidates τ) := by
  obtain ⟨n, u, d, sp, se, gr, ha⟩ := hR
  obtain ⟨K, σ', τ', h1, h2, h3, h4⟩ := q_both ha
  refine ⟨nI (fb_ct (cdB K n) 4096), σ', τ', fun post hp => h3 _ ?_, fun post hp => h4 _ hp, ⟨n, u, d, sp, se, gr, h1⟩⟩
  rw [h2.2.2.2.1]
  exact hp
