/-! ===== pure: the fewest roles, the pieces ===== -/
def lowB (k : Nat) : Bool := decide (k = 0) || decide ((nI k &&& (-(nI k))) = ((1 : Int32) <<< (nI (fa_first k.testBit 12) &&& 31)))
theorem low_tab : ∀ a, a < 64 → ∀ b, b < 64 → lowB (64 * a + b) = true := by decide +kernel
theorem low_bit {x : Int32} {r : Nat} (hx : sm x) (hr : r < 12) (h1 : bt x r = true) (h2 : ∀ q, q < r → bt x q = false) : x &&& (-x) = (1 : Int32) <<< (nI r &&& 31) := by
  obtain ⟨k, hk, e⟩ := sm_nat hx
  subst e
  have t := low_tab (k / 64) (by omega) (k % 64) (by omega)
  rw [show 64 * (k / 64) + k % 64 = k by omega, lowB, Bool.or_eq_true, decide_eq_true_eq, decide_eq_true_eq] at t
  rw [pb_nI (by omega)] at h1
  have k0 : k ≠ 0 := fun z => by rw [z, Nat.zero_testBit] at h1; cases h1
  have t2 := t.resolve_left k0
  have e : fa_first k.testBit 12 = r := by
    rcases Nat.lt_trichotomy (fa_first k.testBit 12) r with c | c | c
    · exfalso
      have a := fa_first_yes k.testBit 12 (by omega)
      have b := h2 _ c
      rw [pb_nI (by omega), a] at b
      cases b
    · exact c
    · exfalso
      have a := fa_first_no k.testBit 12 r c
      rw [a] at h1
      cases h1
  rw [e] at t2
  exact t2
/-- what the ways up to a level give to one whose kept set is k -/
def cv (w : Nat → Nat) (k : Nat) : Nat → Int32
  | 0 => 0
  | l + 1 => if (nI (w l) &&& (nI k ^^^ (-1))) = 0 then cv w k l ||| nI (w l) else cv w k l
theorem cv_cong {w v : Nat → Nat} {k : Nat} : ∀ {l : Nat}, (∀ i, i < l → w i = v i) → cv w k l = cv v k l
  | 0, _ => rfl
  | l + 1, h => by rw [cv, cv, h l (by omega), cv_cong (l := l) (fun i hi => h i (by omega))]
/-- what a person still wants -/
def opn (K w : Nat → Nat) (l p : Nat) : Int32 := nI (K p) &&& (cv w (K p) l ^^^ (-1))
theorem opn_sm {K w : Nat → Nat} {l p : Nat} (h : K p < 4096) : sm (opn K w l p) := sm_and (sm_of h)
theorem opn_zero {K w : Nat → Nat} {l p : Nat} (h : K p < 4096) : opn K w l p = 0 ↔ ∀ r, r < 12 → bt (opn K w l p) r = false := by
  constructor
  · intro e r _
    rw [e, b_0]
  · intro e
    refine sm_ext (opn_sm h) sm_0 (fun i hi => ?_)
    rw [e i hi, b_0]
theorem nI_mul10 (a b : Nat) : nI a * (10 : Int32) + nI b = nI (a * 10 + b) := by
  have e : nI a * (10 : Int32) = nI (a * 10) := (Int32.ofNat_mul a 10).symm
  rw [e, nI_add]
theorem qx_open_none {σ : St} {lev n : Nat} {post : Int32 → St → Prop} (hn : n ≤ 10) (hl : lev ≤ 12) (hz : ∀ p, p < n → (σ.2.1 0 p &&& (σ.2.1 16 (lev * 10 + p) ^^^ (-1))) = 0) (h : post 0 σ) : wX6_openPlace σ (nI lev) (nI n) post := by
  obtain ⟨_, _, hw⟩ := lp_val (Pt := Int32 → St → Prop) (α := Unit) (fun post c i _ => lpX6_openPlace_3 (nI lev) (nI n) σ post c i) (fun post _ => post 0 σ) (fun _ _ => True) n
    (fun post acc c _ hp2 => by
      rw [lpX6_openPlace_3]
      exact ⟨fun _ => hp2, fun h => absurd (nI_le (Nat.le_refl n) (by omega)) h⟩)
    (fun i acc hi _ => by
      refine ⟨(), trivial, fun post c h => ?_⟩
      rw [lpX6_openPlace_3, nI_mul10]
      refine ⟨fun h2 => absurd h2 (nI_ge hi (by omega)), fun _ => ⟨in10 (by omega), vp_in_nI (by omega) (by omega), ?_⟩⟩
      intro x1 hx1
      rw [cl (by omega), cl (by omega), hz i hi] at hx1
      refine ⟨fun _ => ?_, fun z => absurd hx1 z⟩
      intro x2 hx2
      rw [hx2, nI_1]
      exact h)
    n 0 () (by omega) trivial
  exact ⟨_, hw post h⟩
theorem qx_open_some {σ : St} {lev n p : Nat} {post : Int32 → St → Prop} (hn : n ≤ 10) (hl : lev ≤ 12) (hp : p < n) (hz : ∀ q, q < p → (σ.2.1 0 q &&& (σ.2.1 16 (lev * 10 + q) ^^^ (-1))) = 0) {x : Int32} (hx : x = σ.2.1 0 p &&& (σ.2.1 16 (lev * 10 + p) ^^^ (-1))) (hx0 : ¬ x = 0)
    (h : post 1 (st_A (st_A (st_A σ 13 lev (σ.2.1 0 p)) 14 lev (x &&& (-x))) 15 lev 0)) : wX6_openPlace σ (nI lev) (nI n) post := by
  obtain ⟨_, _, hw⟩ := lp_val (Pt := Int32 → St → Prop) (α := Unit) (fun post c i _ => lpX6_openPlace_3 (nI lev) (nI n) σ post c i) (fun post _ => post 1 (st_A (st_A (st_A σ 13 lev (σ.2.1 0 p)) 14 lev (x &&& (-x))) 15 lev 0)) (fun _ _ => True) p
    (fun post acc c _ hp2 => by
      rw [lpX6_openPlace_3, nI_mul10]
      refine ⟨fun h2 => absurd h2 (nI_ge hp (by omega)), fun _ => ⟨in10 (by omega), vp_in_nI (by omega) (by omega), ?_⟩⟩
      intro x1 hx1
      rw [cl (by omega), cl (by omega), ← hx] at hx1
      rw [hx1]
      refine ⟨fun z => absurd z hx0, fun _ => ⟨in10 (by omega), vp_in_nI (by omega) (by omega), ?_⟩⟩
      intro σ3 h3
      refine ⟨vp_in_nI (by omega) (by omega), ?_⟩
      intro σ4 h4
      refine ⟨vp_in_nI (by omega) (by omega), ?_⟩
      intro σ5 h5
      rw [cl (by omega)] at h3 h4 h5
      rw [cl (by omega)] at h3
      rw [h5, h4, h3]
      exact hp2)
    (fun i acc hi _ => by
      refine ⟨(), trivial, fun post c h => ?_⟩
      rw [lpX6_openPlace_3, nI_mul10]
      refine ⟨fun h2 => absurd h2 (nI_ge (show i < n by omega) (by omega)), fun _ => ⟨in10 (by omega), vp_in_nI (by omega) (by omega), ?_⟩⟩
      intro x1 hx1
      rw [cl (by omega), cl (by omega), hz i hi] at hx1
      refine ⟨fun _ => ?_, fun z => absurd hx1 z⟩
      intro x2 hx2
      rw [hx2, nI_1]
      exact h)
    p 0 () (by omega) trivial
  exact ⟨_, hw post h⟩
theorem qm_all {τ : St} {lev p : Nat} {K w : Nat → Nat} {post : Int32 → Prop} (hp : p < 10) (hl : lev ≤ 12) (h8 : τ.2.1 8 p = nI (K p)) (hw : ∀ i, i < lev → τ.2.1 11 i = nI (w i)) (h : post (cv w (K p) lev)) :
    ∃ c, lpX10_open_15 (nI lev) (nI p) τ post c (0 : Int32) (0 : Int32) := by
  obtain ⟨v, hv, hw⟩ := lp_val (Pt := Int32 → Prop) (α := Int32) (fun post c i acc => lpX10_open_15 (nI lev) (nI p) τ post c acc i) (fun post acc => post acc) (fun i acc => acc = cv w (K p) i) lev
    (fun post acc c _ hp2 => by
      rw [lpX10_open_15]
      exact ⟨fun _ => hp2, fun h => absurd (nI_le (Nat.le_refl lev) (by omega)) h⟩)
    (fun i acc hi hI => by
      refine ⟨_, rfl, fun post c h => ?_⟩
      subst hI
      rw [lpX10_open_15]
      refine ⟨fun h2 => absurd h2 (nI_ge hi (by omega)), fun _ => ⟨vp_in_nI (by omega) (by omega), in10 hp, ?_⟩⟩
      rw [cl (by omega), cl (by omega), h8, hw i hi]
      rw [cv] at h
      by_cases c2 : (nI (w i) &&& (nI (K p) ^^^ (-1))) = 0
      · rw [if_pos c2] at h
        refine ⟨fun z => absurd c2 z, fun _ => ⟨vp_in_nI (by omega) (by omega), ?_⟩⟩
        intro x3 h3 x4 h4
        rw [h3, h4, nI_1]
        exact h
      · rw [if_neg c2] at h
        refine ⟨fun _ => ?_, fun z => absurd z c2⟩
        intro x3 h3 x4 h4
        rw [h3, h4, nI_1, or0]
        exact h)
    lev 0 (0 : Int32) (by omega) rfl
  exact ⟨_, hw post (by rw [hv]; exact h)⟩
theorem qm_row_none {τ : St} {lev p : Nat} {K w : Nat → Nat} {Kk : Prop} {post : Int32 → Prop} (hp : p < 10) (h8 : τ.2.1 8 p = nI (K p)) (hK : K p < 4096) (h0 : opn K w lev p = 0) (h : Kk) : ∃ c, lpX10_open_63 (nI lev) (nI p) (cv w (K p) lev) τ Kk post c (0 : Int32) := by
  obtain ⟨_, _, hw⟩ := lp_val (Pt := Prop) (α := Unit) (fun Kk c i _ => lpX10_open_63 (nI lev) (nI p) (cv w (K p) lev) τ Kk post c i) (fun Kk _ => Kk) (fun _ _ => True) 12
    (fun post acc c _ hp2 => by
      rw [lpX10_open_63]
      exact ⟨fun _ => hp2, fun h => absurd (nI_le (Nat.le_refl 12) (by omega)) h⟩)
    (fun i acc hi _ => by
      refine ⟨(), trivial, fun post c h => ?_⟩
      rw [lpX10_open_63]
      refine ⟨fun h2 => absurd h2 (nI_ge (b := 12) hi (by omega)), fun _ => ⟨in10 hp, ?_⟩⟩
      rw [cl (by omega), h8]
      refine q_has (x := opn K w lev p) (by omega) ?_
      rw [(opn_zero hK).mp h0 i hi, if_neg (by simp)]
      refine ⟨fun _ => ?_, fun z => absurd rfl z⟩
      intro x2 hx2
      rw [hx2, nI_1]
      exact h)
    12 0 () (by omega) trivial
  exact ⟨_, hw Kk h⟩
theorem qm_row_some {τ : St} {lev p r : Nat} {K w : Nat → Nat} {Kk : Prop} {post : Int32 → Prop} (hp : p < 10) (h8 : τ.2.1 8 p = nI (K p)) (hr : r < 12) (h1 : bt (opn K w lev p) r = true) (h2 : ∀ q, q < r → bt (opn K w lev p) q = false) (h : post (nI (12 * p + r))) : ∃ c, lpX10_open_63 (nI lev) (nI p) (cv w (K p) lev) τ Kk post c (0 : Int32) := by
  obtain ⟨_, _, hw⟩ := lp_val (Pt := Int32 → Prop) (α := Unit) (fun post c i _ => lpX10_open_63 (nI lev) (nI p) (cv w (K p) lev) τ Kk post c i) (fun post _ => post (nI (12 * p + r))) (fun _ _ => True) r
    (fun post acc c _ hp2 => by
      rw [lpX10_open_63]
      refine ⟨fun h2 => absurd h2 (nI_ge (b := 12) hr (by omega)), fun _ => ⟨in10 hp, ?_⟩⟩
      rw [cl (by omega), h8]
      refine q_has (x := opn K w lev p) (by omega) ?_
      rw [h1, if_pos rfl]
      refine ⟨fun z => absurd z n10, fun _ => ?_⟩
      have e : (12 : Int32) * nI p + nI r = nI (12 * p + r) := by
        have e : (12 : Int32) * nI p = nI (12 * p) := (Int32.ofNat_mul 12 p).symm
        rw [e, nI_add]
      rw [e]
      exact hp2)
    (fun i acc hi _ => by
      refine ⟨(), trivial, fun post c h => ?_⟩
      rw [lpX10_open_63]
      refine ⟨fun h2 => absurd h2 (nI_ge (b := 12) (show i < 12 by omega) (by omega)), fun _ => ⟨in10 hp, ?_⟩⟩
      rw [cl (by omega), h8]
      refine q_has (x := opn K w lev p) (by omega) ?_
      rw [h2 i hi, if_neg (by simp)]
      refine ⟨fun _ => ?_, fun z => absurd rfl z⟩
      intro x2 hx2
      rw [hx2, nI_1]
      exact h)
    r 0 () (by omega) trivial
  exact ⟨_, hw post h⟩
theorem qm_open_none {τ : St} {lev n : Nat} {K w : Nat → Nat} {post : Int32 → Prop} (h1 : τ.1 1 = nI n) (hn : n ≤ 10) (hl : lev ≤ 12) (hK : ∀ p, p < n → K p < 4096) (h8 : ∀ p, p < n → τ.2.1 8 p = nI (K p)) (hw : ∀ i, i < lev → τ.2.1 11 i = nI (w i))
    (hz : ∀ p, p < n → opn K w lev p = 0) (h : post (-9)) : wX10_open τ (nI lev) post := by
  obtain ⟨_, _, hw⟩ := lp_val (Pt := Int32 → Prop) (α := Unit) (fun post c i _ => lpX10_open_2 (nI lev) τ post c i) (fun post _ => post (-9)) (fun _ _ => True) n
    (fun post acc c _ hp2 => by
      rw [lpX10_open_2, h1]
      exact ⟨fun _ => hp2, fun h => absurd (nI_le (Nat.le_refl n) (by omega)) h⟩)
    (fun i acc hi _ => by
      refine ⟨(), trivial, fun post c h => ?_⟩
      rw [lpX10_open_2, h1]
      refine ⟨fun h2 => absurd h2 (nI_ge hi (by omega)), fun _ => qm_all (K := K) (w := w) (by omega) hl (h8 i hi) hw (qm_row_none (by omega) (h8 i hi) (hK i hi) (hz i hi) ?_)⟩
      intro x2 hx2
      rw [hx2, nI_1]
      exact h)
    n 0 () (by omega) trivial
  exact ⟨_, hw post h⟩
theorem qm_open_some {τ : St} {lev n p r : Nat} {K w : Nat → Nat} {post : Int32 → Prop} (h1 : τ.1 1 = nI n) (hn : n ≤ 10) (hl : lev ≤ 12) (hK : ∀ p, p < n → K p < 4096) (h8 : ∀ p, p < n → τ.2.1 8 p = nI (K p)) (hw : ∀ i, i < lev → τ.2.1 11 i = nI (w i))
    (hp : p < n) (hz : ∀ q, q < p → opn K w lev q = 0) (hr : r < 12) (hb : bt (opn K w lev p) r = true) (hb2 : ∀ q, q < r → bt (opn K w lev p) q = false) (h : post (nI (12 * p + r))) : wX10_open τ (nI lev) post := by
  obtain ⟨_, _, hw⟩ := lp_val (Pt := Int32 → Prop) (α := Unit) (fun post c i _ => lpX10_open_2 (nI lev) τ post c i) (fun post _ => post (nI (12 * p + r))) (fun _ _ => True) p
    (fun post acc c _ hp2 => by
      rw [lpX10_open_2, h1]
      exact ⟨fun h2 => absurd h2 (nI_ge hp (by omega)), fun _ => qm_all (K := K) (w := w) (by omega) hl (h8 p hp) hw (qm_row_some (by omega) (h8 p hp) hr hb hb2 hp2)⟩)
    (fun i acc hi _ => by
      refine ⟨(), trivial, fun post c h => ?_⟩
      rw [lpX10_open_2, h1]
      refine ⟨fun h2 => absurd h2 (nI_ge (show i < n by omega) (by omega)), fun _ => qm_all (K := K) (w := w) (by omega) hl (h8 i (by omega)) hw (qm_row_none (by omega) (h8 i (by omega)) (hK i (by omega)) (hz i hi) ?_)⟩
      intro x2 hx2
      rw [hx2, nI_1]
      exact h)
    p 0 () (by omega) trivial
  exact ⟨_, hw post h⟩
/-- covering a level -/
theorem q_cover {σ : St} {lev s n : Nat} (hn : n ≤ 10) (hl : lev ≤ 11) : ∃ g : Nat → Int32, (∀ k, k < (lev + 1) * 10 → g k = σ.2.1 16 k) ∧
    (∀ p, p < n → g ((lev + 1) * 10 + p) = if (nI s &&& (σ.2.1 0 p ^^^ (-1))) = 0 then σ.2.1 16 (lev * 10 + p) ||| nI s else σ.2.1 16 (lev * 10 + p)) ∧ ∀ post : St → Prop, post (st_R σ 16 g) → wX6_cover σ (nI lev) (nI s) (nI n) post := by
  obtain ⟨g, ⟨g1, g2⟩, hw⟩ := lp_val (Pt := St → Prop) (α := Nat → Int32) (fun post c i g => lpX6_cover_9 (nI s) (nI n) (nI (lev * 10)) post c i (st_R σ 16 g)) (fun post g => post (st_R σ 16 g))
    (fun i g => (∀ k, k < (lev + 1) * 10 → g k = σ.2.1 16 k) ∧ (∀ p, p < i → g ((lev + 1) * 10 + p) = if (nI s &&& (σ.2.1 0 p ^^^ (-1))) = 0 then σ.2.1 16 (lev * 10 + p) ||| nI s else σ.2.1 16 (lev * 10 + p))) n
    (fun post acc c _ hp2 => by
      rw [lpX6_cover_9]
      exact ⟨fun _ => hp2, fun h => absurd (nI_le (Nat.le_refl n) (by omega)) h⟩)
    (fun i g hi hI => by
      refine ⟨upd g ((lev + 1) * 10 + i) (if (nI s &&& (σ.2.1 0 i ^^^ (-1))) = 0 then σ.2.1 16 (lev * 10 + i) ||| nI s else σ.2.1 16 (lev * 10 + i)), ⟨fun k hk => ?_, fun p hp => ?_⟩, fun post c h => ?_⟩
      · unfold upd
        rw [if_neg (by omega)]
        exact hI.1 k hk
      · unfold upd
        by_cases d : p = i
        · rw [d, if_pos rfl]
        · rw [if_neg (by omega)]
          exact hI.2 p (by omega)
      · rw [lpX6_cover_9]
        have e1 : nI (lev * 10) + nI i = nI (lev * 10 + i) := nI_add _ _
        have e2 : nI (lev * 10) + (10 : Int32) + nI i = nI ((lev + 1) * 10 + i) := by
          have e : nI (lev * 10) + (10 : Int32) = nI (lev * 10 + 10) := nI_add _ 10
          rw [e, nI_add, show lev * 10 + 10 + i = (lev + 1) * 10 + i by omega]
        rw [e1, e2, cl (by omega), cl (by omega), cl (by omega)]
        have e3 : (st_R σ 16 g).2.1 16 (lev * 10 + i) = σ.2.1 16 (lev * 10 + i) := hI.1 _ (by omega)
        have e4 : (st_R σ 16 g).2.1 0 i = σ.2.1 0 i := rfl
        rw [e3, e4, st_AR, st_AR, or0]
        refine ⟨fun h2 => absurd h2 (nI_ge hi (by omega)), fun _ => ⟨in10 (by omega), fun z => ⟨vp_in_nI (by omega) (by omega), vp_in_nI (by omega) (by omega), ?_⟩, fun z => ⟨vp_in_nI (by omega) (by omega), vp_in_nI (by omega) (by omega), ?_⟩⟩⟩
        · rw [if_neg z] at h
          intro σ2 h2 x3 h3
          rw [h2, h3, nI_1]
          exact h
        · rw [if_pos z] at h
          intro σ2 h2 x3 h3
          rw [h2, h3, nI_1]
          exact h)
    n 0 (σ.2.1 16) (by omega) ⟨fun _ _ => rfl, fun p hp => absurd hp (Nat.not_lt_zero p)⟩
  refine ⟨g, g1, g2, fun post hp => ?_⟩
  intro x1 hx1
  have e : nI lev * (10 : Int32) = nI (lev * 10) := (Int32.ofNat_mul lev 10).symm
  rw [hx1, e]
  have := hw post hp
  rw [st_Rself] at this
  exact ⟨_, this⟩
/-- copying the way into the row of the fewest -/
theorem qx_keep {σ : St} {m f : Nat} (h11 : σ.1 11 = nI f) (hm : m < f) (hf : f ≤ 122) (hm2 : m ≤ 12) : ∃ g : Nat → Int32, (∀ i, i < m → g i = σ.2.1 12 i) ∧ ∀ post : St → Prop, post (st_R (st_S σ 11 (nI m)) 11 g) → wX6_keepIfFewer σ (nI m) post := by
  obtain ⟨g, g1, hw⟩ := lp_val (Pt := St → Prop) (α := Nat → Int32) (fun post c i g => lpX6_keepIfFewer_16 (nI m) post c i (st_R (st_S σ 11 (nI m)) 11 g)) (fun post g => post (st_R (st_S σ 11 (nI m)) 11 g))
    (fun i g => ∀ j, j < i → g j = σ.2.1 12 j) m
    (fun post acc c _ hp2 => by
      rw [lpX6_keepIfFewer_16]
      exact ⟨fun _ => hp2, fun h => absurd (nI_le (Nat.le_refl m) (by omega)) h⟩)
    (fun i g hi hI => by
      refine ⟨upd g i (σ.2.1 12 i), fun j hj => ?_, fun post c h => ?_⟩
      · unfold upd
        by_cases d : j = i
        · rw [if_pos d, d]
        · rw [if_neg d]; exact hI j (by omega)
      · rw [lpX6_keepIfFewer_16]
        refine ⟨fun h2 => absurd h2 (nI_ge hi (by omega)), fun _ => ⟨vp_in_nI (by omega) (by omega), vp_in_nI (by omega) (by omega), ?_⟩⟩
        intro σ2 h2 x3 h3
        rw [cl (by omega), st_AR] at h2
        rw [h2, h3, nI_1]
        exact h)
    m 0 (σ.2.1 11) (by omega) (fun j hj => absurd hj (Nat.not_lt_zero j))
  refine ⟨g, g1, fun post hp => ⟨fun _ => ?_, fun z => absurd (by rw [h11]; exact nI_lt hm (by omega)) z⟩⟩
  intro σ1 hσ1
  have := hw post hp
  have e : st_R (st_S σ 11 (nI m)) 11 (σ.2.1 11) = st_S σ 11 (nI m) := st_Rself (st_S σ 11 (nI m)) 11
  rw [e] at this
  rw [hσ1]
  exact ⟨_, this⟩
theorem qm_keep {τ : St} {L : Nat} {u : Int32} (hm2 : L ≤ 11) : ∃ g : Nat → Int32, (∀ i, i < L + 1 → g i = τ.2.1 11 i) ∧ ∀ post : St → Prop, post (st_R τ 10 g) → ∃ c, lpX10_roles_143 u (nI L) post c 0 τ := by
  obtain ⟨g, g1, hw⟩ := lp_val (Pt := St → Prop) (α := Nat → Int32) (fun post c i g => lpX10_roles_143 u (nI L) post c i (st_R τ 10 g)) (fun post g => post (st_R τ 10 g))
    (fun i g => ∀ j, j < i → g j = τ.2.1 11 j) (L + 1)
    (fun post acc c _ hp2 => by
      rw [lpX10_roles_143]
      exact ⟨fun _ => hp2, fun h => absurd (nI_lt (Nat.lt_succ_self L) (by omega)) h⟩)
    (fun i g hi hI => by
      refine ⟨upd g i (τ.2.1 11 i), fun j hj => ?_, fun post c h => ?_⟩
      · unfold upd
        by_cases d : j = i
        · rw [if_pos d, d]
        · rw [if_neg d]; exact hI j (by omega)
      · rw [lpX10_roles_143]
        refine ⟨fun h2 => absurd h2 (nI_nlt (by omega) (by omega)), fun _ => ⟨vp_in_nI (by omega) (by omega), vp_in_nI (by omega) (by omega), ?_⟩⟩
        intro σ2 h2 x3 h3
        rw [cl (by omega), st_AR] at h2
        rw [h2, h3, nI_1]
        exact h)
    (L + 1) 0 (τ.2.1 10) (by omega) (fun j hj => absurd hj (Nat.not_lt_zero j))
  refine ⟨g, g1, fun post hp => ?_⟩
  have := hw post hp
  rw [st_Rself] at this
  exact ⟨_, this⟩
