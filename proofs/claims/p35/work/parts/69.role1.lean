/-! ===== pure: the fewest roles, the next set of a place ===== -/
/-- a set that may stand at a place: a candidate with the right r, within the kept set k -/
def gdB (K : Nat → Nat) (n r k s : Nat) : Bool := cdB K n s && (bt (nI s) r && decide ((nI s &&& (nI k ^^^ (-1))) = 0))
theorem gd_iff {K : Nat → Nat} {n r k s : Nat} : gdB K n r k s = true ↔ cdB K n s = true ∧ bt (nI s) r = true ∧ (nI s &&& (nI k ^^^ (-1))) = 0 := by
  rw [gdB, Bool.and_eq_true, Bool.and_eq_true, decide_eq_true_eq]
theorem gd_le {K : Nat → Nat} {n r k s : Nat} (hk : k < 4096) (h : gdB K n r k s = true) : s ≤ k := by
  have h2 := gd_iff.mp h
  exact subS_le hk (pb_sub.mp h2.2.2) (cd_lt h2.1)
theorem gd_0 {K : Nat → Nat} {n r k : Nat} : gdB K n r k 0 = false := by rw [gdB, cd_0]; rfl
theorem ct_next {C : Nat → Bool} {j N : Nat} (hj : fb_ct C j < fb_ct C N) : ∃ i, j ≤ i ∧ i < N ∧ C i = true ∧ fb_ct C i = fb_ct C j ∧ ∀ t, j ≤ t → t < i → C t = false := by
  obtain ⟨i, h1, h2, h3⟩ := fb_ct_kth hj
  have e : fb_ct C (i + 1) = fb_ct C i + 1 := by rw [fb_ct_succ, h2]; simp
  refine ⟨i, ?_, h1, h2, h3, fun t ht ht2 => ?_⟩
  · rcases Nat.lt_or_ge i j with c | c
    · have := fb_ct_mono C (show i + 1 ≤ j by omega)
      omega
    · exact c
  · cases d : C t
    · rfl
    · exfalso
      have e2 : fb_ct C (t + 1) = fb_ct C t + 1 := by rw [fb_ct_succ, d]; simp
      have a1 := fb_ct_mono C ht
      have a2 := fb_ct_mono C (show t + 1 ≤ i by omega)
      omega
/-- what the class reads at a place -/
def Pl (σ : St) (K : Nat → Nat) (n L r k : Nat) : Prop := σ.1 8 = nI (fb_ct (cdB K n) 4096) ∧ (∀ s, cdB K n s = true → σ.2.1 9 (fb_ct (cdB K n) s) = nI s) ∧ fb_ct (cdB K n) 4096 ≤ 1023 ∧ σ.2.1 13 L = nI k ∧ σ.2.1 14 L = (1 : Int32) <<< (nI r &&& 31) ∧ r < 12 ∧ k < 4096 ∧ L ≤ 12
theorem qx_step {σ : St} {K : Nat → Nat} {n L r k i c : Nat} {Kf : Prop} {post : Int32 → St → Prop} (h : Pl σ K n L r k) (hi : cdB K n i = true) (hik : i ≤ k) (hg : gdB K n r k i = false)
    (hn : lpX6_nextOf_7 (nI L) σ Kf post c (nI (fb_ct (cdB K n) (i + 1)))) : lpX6_nextOf_7 (nI L) σ Kf post (c + 1) (nI (fb_ct (cdB K n) i)) := by
  obtain ⟨h8, h9, hm, h13, h14, hr, hk, hL⟩ := h
  have hi4 := cd_lt hi
  have e : fb_ct (cdB K n) (i + 1) = fb_ct (cdB K n) i + 1 := by rw [fb_ct_succ, hi]; simp
  have a1 := fb_ct_mono (cdB K n) (show i + 1 ≤ 4096 by omega)
  rw [lpX6_nextOf_7, h8, cl (by omega), h9 i hi, cl (by omega), h13, h14]
  refine ⟨fun z => absurd z (nI_ge (by omega) (by omega)), fun _ => ⟨vp_in_nI (by omega) (by omega), ?_⟩⟩
  intro x2 hx2
  subst hx2
  refine ⟨vp_in_nI (by omega) (by omega), fun _ => ⟨vp_in_nI (by omega) (by omega), ?_⟩, fun z => absurd (nI_le hik (by omega)) z⟩
  rw [pb_test (by omega)]
  rw [e] at hn
  refine ⟨fun _ => ?_, fun z => ⟨vp_in_nI (by omega) (by omega), fun _ => ?_, fun z2 => ?_⟩⟩
  · intro x3 h3
    rw [h3, nI_1]; exact hn
  · intro x3 h3
    rw [h3, nI_1]; exact hn
  · exfalso
    have : gdB K n r k i = true := gd_iff.mpr ⟨hi, by cases b : bt (nI i) r; exact absurd b z; rfl, z2⟩
    rw [hg] at this
    cases this
theorem qx_next_none {σ : St} {K : Nat → Nat} {n L r k : Nat} {Kf : Prop} {post : Int32 → St → Prop} (h : Pl σ K n L r k) (hf : Kf) : ∀ m j : Nat, 4096 - j ≤ m → j ≤ 4096 → (∀ t, j ≤ t → t < 4096 → gdB K n r k t = false) →
    ∃ c, lpX6_nextOf_7 (nI L) σ Kf post c (nI (fb_ct (cdB K n) j)) := by
  have h' := h
  obtain ⟨h8, h9, hm, h13, h14, hr, hk, hL⟩ := h
  intro m
  induction m with
  | zero =>
    intro j e1 e2 _
    have : j = 4096 := by omega
    subst this
    refine ⟨0 + 1, ?_⟩
    rw [lpX6_nextOf_7, h8]
    exact ⟨fun _ => hf, fun z => absurd (nI_le (Nat.le_refl _) (by omega)) z⟩
  | succ m ih =>
    intro j e1 e2 hg
    rcases Nat.lt_or_ge (fb_ct (cdB K n) j) (fb_ct (cdB K n) 4096) with c | c
    · obtain ⟨i, i1, i2, i3, i4, i5⟩ := ct_next c
      rcases Nat.lt_or_ge k i with d | d
      · refine ⟨0 + 1, ?_⟩
        rw [lpX6_nextOf_7, h8, cl (by omega), ← i4, h9 i i3, cl (by omega), h13]
        refine ⟨fun _ => hf, fun _ => ⟨vp_in_nI (by omega) (by omega), ?_⟩⟩
        intro x2 hx2
        subst hx2
        exact ⟨vp_in_nI (by omega) (by omega), fun z => absurd z (nI_ge d (by omega)), fun _ => hf⟩
      · obtain ⟨f, hf2⟩ := ih (i + 1) (by omega) (by omega) (fun t ht ht2 => hg t (by omega) ht2)
        exact ⟨f + 1, by rw [← i4]; exact qx_step h' i3 d (hg i i1 i2) hf2⟩
    · refine ⟨0 + 1, ?_⟩
      have := fb_ct_mono (cdB K n) e2
      rw [lpX6_nextOf_7, h8]
      exact ⟨fun _ => hf, fun z => absurd (nI_le c (by omega)) z⟩
theorem qx_next_some {σ : St} {K : Nat → Nat} {n L r k s : Nat} {Kf : Prop} {post : Int32 → St → Prop} (h : Pl σ K n L r k) (hs : gdB K n r k s = true) (hp : post (nI s) (st_A σ 15 L (nI (fb_ct (cdB K n) (s + 1))))) : ∀ m j : Nat, s - j ≤ m → j ≤ s → (∀ t, j ≤ t → t < s → gdB K n r k t = false) →
    ∃ c, lpX6_nextOf_7 (nI L) σ Kf post c (nI (fb_ct (cdB K n) j)) := by
  have h' := h
  obtain ⟨h8, h9, hm, h13, h14, hr, hk, hL⟩ := h
  have hs2 := gd_iff.mp hs
  have hs4 := cd_lt hs2.1
  have hsk := gd_le hk hs
  have e : fb_ct (cdB K n) (s + 1) = fb_ct (cdB K n) s + 1 := by rw [fb_ct_succ, hs2.1]; simp
  have a1 := fb_ct_mono (cdB K n) (show s + 1 ≤ 4096 by omega)
  intro m
  induction m with
  | zero =>
    intro j e1 e2 _
    have : j = s := by omega
    subst this
    refine ⟨0 + 1, ?_⟩
    rw [lpX6_nextOf_7, h8, cl (by omega), h9 j hs2.1, cl (by omega), h13, h14]
    refine ⟨fun z => absurd z (nI_ge (by omega) (by omega)), fun _ => ⟨vp_in_nI (by omega) (by omega), ?_⟩⟩
    intro x2 hx2
    subst hx2
    refine ⟨vp_in_nI (by omega) (by omega), fun _ => ⟨vp_in_nI (by omega) (by omega), ?_⟩, fun z => absurd (nI_le hsk (by omega)) z⟩
    rw [pb_test (by omega), hs2.2.1]
    refine ⟨fun z => (by cases z), fun _ => ⟨vp_in_nI (by omega) (by omega), fun z => absurd hs2.2.2 z, fun _ => ⟨vp_in_nI (by omega) (by omega), ?_⟩⟩⟩
    intro σ5 h5
    rw [h5, nI_1, ← e]
    exact hp
  | succ m ih =>
    intro j e1 e2 hg
    rcases Nat.lt_or_ge j s with c | c
    · have c2 : fb_ct (cdB K n) j < fb_ct (cdB K n) 4096 := by
        have := fb_ct_mono (cdB K n) (show j ≤ s by omega)
        omega
      obtain ⟨i, i1, i2, i3, i4, i5⟩ := ct_next c2
      have is : i ≤ s := by
        rcases Nat.lt_or_ge s i with d | d
        · have := i5 s (by omega) d
          rw [hs2.1] at this; cases this
        · exact d
      rcases Nat.lt_or_ge i s with d | d
      · obtain ⟨f, hf2⟩ := ih (i + 1) (by omega) (by omega) (fun t ht ht2 => hg t (by omega) ht2)
        exact ⟨f + 1, by rw [← i4]; exact qx_step h' i3 (by omega) (hg i i1 d) hf2⟩
      · have : i = s := by omega
        rw [← i4, this]
        exact ih s (by omega) (Nat.le_refl s) (fun t ht ht2 => by omega)
    · have : j = s := by omega
      rw [this]
      exact ih s (by omega) (Nat.le_refl s) (fun t ht ht2 => by omega)
theorem qx_nextOf_none {σ : St} {K : Nat → Nat} {n L r k w : Nat} {post : Int32 → St → Prop} (h : Pl σ K n L r k) (h15 : σ.2.1 15 L = nI (fb_ct (cdB K n) (w + 1))) (hw : w < 4096) (hg : ∀ t, w < t → t < 4096 → gdB K n r k t = false)
    (hp : post 0 (st_A σ 15 L (σ.1 8))) : wX6_nextOf σ (nI L) post := by
  have hL : L ≤ 12 := h.2.2.2.2.2.2.2
  refine ⟨vp_in_nI (by omega) (by omega), ?_⟩
  intro x1 hx1
  rw [cl (by omega), h15] at hx1
  rw [hx1]
  refine qx_next_none h ⟨vp_in_nI (by omega) (by omega), ?_⟩ (4096 - (w + 1)) (w + 1) (Nat.le_refl _) (by omega) (fun t ht ht2 => hg t (by omega) ht2)
  intro σ6 h6
  rw [cl (by omega)] at h6
  rw [h6]
  exact hp
theorem qx_nextOf_some {σ : St} {K : Nat → Nat} {n L r k w s : Nat} {post : Int32 → St → Prop} (h : Pl σ K n L r k) (h15 : σ.2.1 15 L = nI (fb_ct (cdB K n) (w + 1))) (hs : gdB K n r k s = true) (hw : w < s) (hg : ∀ t, w < t → t < s → gdB K n r k t = false)
    (hp : post (nI s) (st_A σ 15 L (nI (fb_ct (cdB K n) (s + 1))))) : wX6_nextOf σ (nI L) post := by
  have hL : L ≤ 12 := h.2.2.2.2.2.2.2
  refine ⟨vp_in_nI (by omega) (by omega), ?_⟩
  intro x1 hx1
  rw [cl (by omega), h15] at hx1
  rw [hx1]
  exact qx_next_some h hs hp (s - (w + 1)) (w + 1) (Nat.le_refl _) (by omega) (fun t ht ht2 => hg t (by omega) ht2)
/-- what the reference reads at a place -/
def Pm (τ : St) (K : Nat → Nat) (n L r P : Nat) : Prop := (∀ s, s < 4096 → τ.2.1 9 s = if cdB K n s then 1 else 0) ∧ τ.2.1 12 L = nI r ∧ r < 12 ∧ τ.2.1 13 L = nI P ∧ P < 10 ∧ τ.2.1 8 P = nI (K P) ∧ L ≤ 12
theorem qm_step {τ : St} {K : Nat → Nat} {n L r P i c : Nat} {Kf : Int32 → Prop} (h : Pm τ K n L r P) (hi : i < 4096) (hg : gdB K n r (K P) i = false) (hn : lpX10_isNext_9 (nI L) τ Kf c (nI (i + 1))) : lpX10_isNext_9 (nI L) τ Kf (c + 1) (nI i) := by
  obtain ⟨h9, h12, hr, h13, hP, h8, hL⟩ := h
  rw [lpX10_isNext_9, cl (by omega), h9 i hi, cl (by omega), h12, h13, cl (by omega), h8]
  refine ⟨fun z => absurd z (nI_ge (b := 4096) hi (by omega)), fun _ => ⟨vp_in_nI hi (by omega), fun _ => ?_, fun z => ⟨vp_in_nI (by omega) (by omega), q_has (by omega) ?_⟩⟩⟩
  · intro x2 h2
    rw [h2, nI_1]; exact hn
  · have hc : cdB K n i = true := by
      cases b : cdB K n i
      · rw [b] at z; exact absurd rfl z
      · rfl
    cases b : bt (nI i) r
    · rw [if_neg (by simp)]
      refine ⟨fun _ => ?_, fun z => absurd rfl z⟩
      intro x2 h2
      rw [h2, nI_1]; exact hn
    · rw [if_pos rfl]
      refine ⟨fun z => absurd z n10, fun _ => ⟨vp_in_nI (by omega) (by omega), in10 hP, fun z => ?_, fun _ => ?_⟩⟩
      · exfalso
        have : gdB K n r (K P) i = true := gd_iff.mpr ⟨hc, b, z⟩
        rw [hg] at this; cases this
      · intro x2 h2
        rw [h2, nI_1]; exact hn
theorem qm_next_none {τ : St} {K : Nat → Nat} {n L r P w : Nat} {post : Int32 → St → Prop} (h : Pm τ K n L r P) (h11 : τ.2.1 11 L = nI w) (hw : w < 4096) (hg : ∀ t, w < t → t < 4096 → gdB K n r (K P) t = false) (hp : post 0 (st_A τ 11 L (nI 4096))) : wX10_isNext τ (nI L) post := by
  have hL : L ≤ 12 := h.2.2.2.2.2.2
  obtain ⟨_, _, hv⟩ := lp_val (Pt := Int32 → Prop) (α := Unit) (fun Kf c i _ => lpX10_isNext_9 (nI L) τ Kf c i) (fun Kf _ => Kf (nI 4096)) (fun i _ => w < i) 4096
    (fun post acc c _ hp2 => by
      rw [lpX10_isNext_9]
      exact ⟨fun _ => hp2, fun h => absurd (nI_le (Nat.le_refl 4096) (by omega)) h⟩)
    (fun i acc hi hI => ⟨(), by omega, fun post c h2 => qm_step h hi (hg i hI hi) h2⟩)
    (4096 - (w + 1)) (w + 1) () (by omega) (by omega)
  refine ⟨vp_in_nI (by omega) (by omega), ?_⟩
  intro x1 hx1
  rw [cl (by omega), h11, nI_1] at hx1
  rw [hx1]
  refine ⟨_, hv _ ⟨vp_in_nI (by omega) (by omega), ?_⟩⟩
  intro σ7 h7
  rw [cl (by omega)] at h7
  rw [h7]
  exact ⟨fun _ => hp, fun z => absurd (nI_le (Nat.le_refl 4096) (by omega)) z⟩
theorem qm_next_some {τ : St} {K : Nat → Nat} {n L r P w s : Nat} {post : Int32 → St → Prop} (h : Pm τ K n L r P) (h11 : τ.2.1 11 L = nI w) (hs : gdB K n r (K P) s = true) (hw : w < s) (hg : ∀ t, w < t → t < s → gdB K n r (K P) t = false) (hp : post 1 (st_A τ 11 L (nI s))) : wX10_isNext τ (nI L) post := by
  have hs2 := gd_iff.mp hs
  have hs4 := cd_lt hs2.1
  have h' := h
  obtain ⟨h9, h12, hr, h13, hP, h8, hL⟩ := h
  obtain ⟨_, _, hv⟩ := lp_val (Pt := Int32 → Prop) (α := Unit) (fun Kf c i _ => lpX10_isNext_9 (nI L) τ Kf c i) (fun Kf _ => Kf (nI s)) (fun i _ => w < i) s
    (fun post acc c _ hp2 => by
      rw [lpX10_isNext_9, cl (by omega), h9 s hs4, cl (by omega), h12, h13, cl (by omega), h8, hs2.1, if_pos rfl]
      refine ⟨fun z => absurd z (nI_ge (b := 4096) hs4 (by omega)), fun _ => ⟨vp_in_nI hs4 (by omega), fun z => absurd z n10, fun _ => ⟨vp_in_nI (by omega) (by omega), q_has (by omega) ?_⟩⟩⟩
      rw [hs2.2.1, if_pos rfl]
      exact ⟨fun z => absurd z n10, fun _ => ⟨vp_in_nI (by omega) (by omega), in10 hP, fun _ => hp2, fun z => absurd hs2.2.2 z⟩⟩)
    (fun i acc hi hI => ⟨(), by omega, fun post c h2 => qm_step h' (by omega) (hg i hI hi) h2⟩)
    (s - (w + 1)) (w + 1) () (by omega) (by omega)
  refine ⟨vp_in_nI (by omega) (by omega), ?_⟩
  intro x1 hx1
  rw [cl (by omega), h11, nI_1] at hx1
  rw [hx1]
  refine ⟨_, hv _ ⟨vp_in_nI (by omega) (by omega), ?_⟩⟩
  intro σ7 h7
  rw [cl (by omega)] at h7
  rw [h7]
  exact ⟨fun z => absurd z (nI_ge (b := 4096) hs4 (by omega)), fun _ => hp⟩
/-- before the first solution: the first set with r is the cut of all kept sets that hold r -/
def tset (f : Nat → Bool) : Nat → Nat
  | 0 => 0
  | n + 1 => if f n then 2 ^ n + tset f n else tset f n
theorem tset_lt (f : Nat → Bool) : ∀ n, tset f n < 2 ^ n
  | 0 => by rw [tset]; omega
  | n + 1 => by
    have h := tset_lt f n
    have e : 2 ^ (n + 1) = 2 ^ n + 2 ^ n := by rw [Nat.pow_succ]; omega
    rw [tset]
    split <;> omega
theorem tset_bit (f : Nat → Bool) : ∀ {n q : Nat}, q < n → (tset f n).testBit q = f q
  | 0, q, h => absurd h (Nat.not_lt_zero q)
  | n + 1, q, h => by
    have hl := tset_lt f n
    rw [tset]
    by_cases e : q = n
    · subst e
      cases c : f q
      · rw [if_neg (by simp)]; exact Nat.testBit_lt_two_pow hl
      · rw [if_pos rfl, Nat.testBit_two_pow_add_eq, Nat.testBit_lt_two_pow hl]; rfl
    · have ih := tset_bit f (n := n) (q := q) (by omega)
      cases c : f n
      · rw [if_neg (by simp)]; exact ih
      · rw [if_pos rfl, Nat.testBit_two_pow_add_gt (by omega)]; exact ih
theorem itN_bit {K : Nat → Nat} {T i : Nat} : ∀ {p : Nat}, (itN K T p).testBit i = true ↔ i < 12 ∧ ∀ q, q < p → T.testBit q = true → (K q).testBit i = true
  | 0 => by
    rw [itN, show (4095 : Nat) = 2 ^ 12 - 1 by decide, Nat.testBit_two_pow_sub_one, decide_eq_true_eq]
    exact ⟨fun h => ⟨h, fun q hq => absurd hq (Nat.not_lt_zero q)⟩, fun h => h.1⟩
  | p + 1 => by
    have ih := itN_bit (K := K) (T := T) (i := i) (p := p)
    rw [itN]
    cases c : T.testBit p
    · rw [if_neg (by simp), ih]
      refine ⟨fun h => ⟨h.1, fun q hq hb => ?_⟩, fun h => ⟨h.1, fun q hq => h.2 q (by omega)⟩⟩
      by_cases e : q = p
      · rw [e, c] at hb; cases hb
      · exact h.2 q (by omega) hb
    · rw [if_pos rfl, Nat.testBit_and, Bool.and_eq_true, ih]
      refine ⟨fun h => ⟨h.1.1, fun q hq hb => ?_⟩, fun h => ⟨⟨h.1, fun q hq => h.2 q (by omega)⟩, h.2 p (by omega) c⟩⟩
      by_cases e : q = p
      · rw [e]; exact h.2
      · exact h.1.2 q (by omega) hb
def minR (K : Nat → Nat) (n r : Nat) : Nat := itN K (tset (fun q => (K q).testBit r) n) n
theorem minR_bit {K : Nat → Nat} {n r i : Nat} : (minR K n r).testBit i = true ↔ i < 12 ∧ ∀ q, q < n → (K q).testBit r = true → (K q).testBit i = true := by
  rw [minR, itN_bit]
  constructor
  · rintro ⟨h, h2⟩
    exact ⟨h, fun q hq hb => h2 q hq (by rw [tset_bit _ hq]; exact hb)⟩
  · rintro ⟨h, h2⟩
    exact ⟨h, fun q hq hb => h2 q hq (by rw [tset_bit _ hq] at hb; exact hb)⟩
theorem minR_sub {K : Nat → Nat} {n r p : Nat} (hp : p < n) (hb : (K p).testBit r = true) : (nI (minR K n r) &&& (nI (K p) ^^^ (-1))) = 0 := by
  rw [pb_sub]
  intro i hi h
  rw [pb_nI hi] at h ⊢
  exact (minR_bit.mp h).2 p hp hb
theorem minR_lt {K : Nat → Nat} {n r : Nat} : minR K n r < 4096 := itN_lt _ _ _
theorem minR_good {K : Nat → Nat} {n r p : Nat} (hr : r < 12) (hp : p < n) (hb : (K p).testBit r = true) : gdB K n r (K p) (minR K n r) = true := by
  have hr2 : (minR K n r).testBit r = true := minR_bit.mpr ⟨hr, fun q _ h => h⟩
  refine gd_iff.mpr ⟨cd_iff.mpr ⟨fun z => ?_, tset (fun q => (K q).testBit r) n, ?_, tset_lt _ _, rfl⟩, ?_, minR_sub hp hb⟩
  · rw [z, Nat.zero_testBit] at hr2; cases hr2
  · have e := tset_bit (fun q => (K q).testBit r) hp
    rcases Nat.eq_zero_or_pos (tset (fun q => (K q).testBit r) n) with z | z
    · rw [z, Nat.zero_testBit] at e
      rw [hb] at e
      cases e
    · exact z
  · rw [pb_nI (by omega)]; exact hr2
theorem first_min {K : Nat → Nat} {n r p s : Nat} (hr : r < 12) (hp : p < n) (hb : (K p).testBit r = true) (hs : gdB K n r (K p) s = true) (hm : ∀ t, t < s → gdB K n r (K p) t = false) : s = minR K n r := by
  have h1 := minR_good hr hp hb
  have hs2 := gd_iff.mp hs
  have hs4 := cd_lt hs2.1
  have h2 : ¬ minR K n r < s := fun z => by rw [hm _ z] at h1; cases h1
  have h3 : minR K n r ≤ s := by
    refine subS_le hs4 (fun i hi hbi => ?_) minR_lt
    rw [pb_nI hi] at hbi ⊢
    obtain ⟨_, U, u1, u2, u3⟩ := cd_iff.mp hs2.1
    have hsr := hs2.2.1
    rw [pb_nI (by omega), ← u3] at hsr
    have a := (itN_bit.mp hsr).2
    have b := minR_bit.mp hbi
    rw [← u3]
    exact itN_bit.mpr ⟨b.1, fun q hq hU => b.2 q hq (a q hq hU)⟩
  omega
