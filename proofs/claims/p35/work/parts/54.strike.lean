/-! ===== pure: strike, ask, kind, uses ===== -/
theorem mulr12 (p r : Nat) : nI p * (12 : Int32) + nI r = nI (p * 12 + r) := by
  show nI p * nI 12 + nI r = _
  rw [pk_mul, nI_add]
theorem in120r {p r : Nat} (hp : p < 10) (hr : r < 12) : vp_in (nI (p * 12 + r)) 120 := vp_in_nI (by omega) (by omega)
def goB (rights set : Int32) (r : Nat) : Bool := bt rights r && !bt set r
theorem goB_bt {x y : Int32} {r : Nat} (hr : r < 32) : bt (x &&& (y ^^^ (-1))) r = goB x y r := by rw [b_and, pb_not hr]; rfl
theorem q_xleave {σ : St} {p d : Nat} {st : Int32} (hp : p < 10) (hs : sm (σ.2.1 3 p)) : ∃ f : Nat → Int32, (∀ r, r < 12 → f (p * 12 + r) = if goB (σ.2.1 3 p) st r then nI d else σ.2.1 5 (p * 12 + r)) ∧ (∀ q r, r < 12 → q ≠ p → f (q * 12 + r) = σ.2.1 5 (q * 12 + r)) ∧
    ∀ post : Int32 → St → Prop, post (nI (fb_ct (goB (σ.2.1 3 p) st) 12)) (st_R (st_A (st_A σ 3 p st) 4 p (σ.2.1 4 p ||| (σ.2.1 3 p &&& (st ^^^ (-1))))) 5 f) → wX5_leave σ (nI p) st (nI d) post := by
  obtain ⟨f, hf, hw⟩ := lp_val (Pt := St → Prop) (fun K n i f => lpX5_leave_33 (nI p) (nI d) (σ.2.1 3 p &&& (st ^^^ (-1))) K n i (st_R (st_A (st_A σ 3 p st) 4 p (σ.2.1 4 p ||| (σ.2.1 3 p &&& (st ^^^ (-1))))) 5 f)) (fun K f => K (st_R (st_A (st_A σ 3 p st) 4 p (σ.2.1 4 p ||| (σ.2.1 3 p &&& (st ^^^ (-1))))) 5 f))
    (fun i f => (∀ r, r < 12 → f (p * 12 + r) = if r < i ∧ goB (σ.2.1 3 p) st r = true then nI d else σ.2.1 5 (p * 12 + r)) ∧ ∀ q r, r < 12 → q ≠ p → f (q * 12 + r) = σ.2.1 5 (q * 12 + r)) 12
    (fun K acc n _ hp2 => by
      rw [lpX5_leave_33]
      exact ⟨fun _ => hp2, fun h => absurd (nI_le (a := 12) (b := 12) (by omega) (by omega)) h⟩)
    (fun i f hi hI => by
      refine ⟨if goB (σ.2.1 3 p) st i then upd f (p * 12 + i) (nI d) else f, ⟨fun r hr => ?_, fun q r hr hq => ?_⟩, fun K n h => ?_⟩
      · cases e1 : goB (σ.2.1 3 p) st i
        · rw [if_neg (by simp), hI.1 r hr]
          by_cases e : r = i
          · subst e; simp [e1]
          · have : (r < i + 1) ↔ r < i := by omega
            simp only [this]
        · rw [if_pos rfl]
          by_cases e : r = i
          · subst e; rw [pk_us]; simp [e1]
          · rw [pk_un (by omega), hI.1 r hr]
            have : (r < i + 1) ↔ r < i := by omega
            simp only [this]
      · cases e1 : goB (σ.2.1 3 p) st i
        · rw [if_neg (by simp)]; exact hI.2 q r hr hq
        · rw [if_pos rfl, pk_un (by omega)]; exact hI.2 q r hr hq
      · rw [lpX5_leave_33]
        refine ⟨fun h2 => absurd h2 (nI_ge (a := i) (b := 12) hi (by omega)), fun _ => ?_⟩
        simp only [forall_eq, pb_test (show i < 32 by omega), goB_bt (show i < 32 by omega), mulr12, st_AR, nI_1, nI_clamp (show p * 12 + i < 2 ^ 31 by omega)]
        cases e1 : goB (σ.2.1 3 p) st i
        · rw [e1, if_neg (by simp)] at h
          exact ⟨fun _ => h, fun h2 => absurd rfl h2⟩
        · rw [e1, if_pos rfl] at h
          exact ⟨fun h2 => by simp at h2, fun _ => ⟨in120r hp hi, h⟩⟩)
    12 0 (σ.2.1 5) (by omega) ⟨fun r hr => by simp, fun q r hr hq => rfl⟩
  refine ⟨f, fun r hr => by rw [hf.1 r hr]; simp [hr], hf.2, fun post hpost => ?_⟩
  unfold wX5_leave
  simp only [forall_eq, st_A2, nI_clamp (show p < 2 ^ 31 by omega)]
  refine ⟨in10 hp, in10 hp, in10 hp, in10 hp, 13, ?_⟩
  have hb : fb_ct (bt (σ.2.1 3 p &&& (st ^^^ (-1)))) 12 = fb_ct (goB (σ.2.1 3 p) st) 12 := fb_ct_cong (fun k hk => goB_bt (by omega))
  have := hw (fun (σ7 : St) => wJ6_bitCount_0f7a4 (σ.2.1 3 p &&& (st ^^^ (-1))) (fun (r8 : Int32) => post r8 σ7)) (q_bc (sm_and hs) (by rw [hb]; exact hpost))
  have e : st_R (st_A (st_A σ 3 p st) 4 p (σ.2.1 4 p ||| (σ.2.1 3 p &&& (st ^^^ (-1))))) 5 (σ.2.1 5) = st_A (st_A σ 3 p st) 4 p (σ.2.1 4 p ||| (σ.2.1 3 p &&& (st ^^^ (-1)))) := st_Rself (st_A (st_A σ 3 p st) 4 p (σ.2.1 4 p ||| (σ.2.1 3 p &&& (st ^^^ (-1))))) 5
  rw [e] at this
  exact this
theorem q_mstrike {τ : St} {p : Nat} {set : Int32} (hp : p < 10) : ∃ f : Nat → Int32, (∀ r, r < 12 → f (12 * p + r) = if goB (τ.2.1 2 p) set r then τ.1 6 else τ.2.1 3 (12 * p + r)) ∧ (∀ q r, r < 12 → q ≠ p → f (12 * q + r) = τ.2.1 3 (12 * q + r)) ∧
    ∀ post : Int32 → St → Prop, post (nI (fb_ct (goB (τ.2.1 2 p) set) 12)) (st_A (st_R τ 3 f) 2 p (τ.2.1 2 p &&& set)) → wX10_strikeBut τ (nI p) set post := by
  obtain ⟨⟨f, c⟩, hf, hw⟩ := lp_val (Pt := Int32 → St → Prop) (α := (Nat → Int32) × Int32) (fun K n i acc => lpX10_strikeBut_5 (nI p) set K n acc.2 i (st_R τ 3 acc.1)) (fun K acc => K acc.2 (st_R τ 3 acc.1))
    (fun i acc => (∀ r, r < 12 → acc.1 (12 * p + r) = if r < i ∧ goB (τ.2.1 2 p) set r = true then τ.1 6 else τ.2.1 3 (12 * p + r)) ∧ (∀ q r, r < 12 → q ≠ p → acc.1 (12 * q + r) = τ.2.1 3 (12 * q + r)) ∧ acc.2 = nI (fb_ct (goB (τ.2.1 2 p) set) i)) 12
    (fun K acc n _ hp2 => by
      rw [lpX10_strikeBut_5]
      exact ⟨fun _ => hp2, fun h => absurd (nI_le (a := 12) (b := 12) (by omega) (by omega)) h⟩)
    (fun i acc hi hI => by
      obtain ⟨f, c⟩ := acc
      obtain ⟨hI1, hI2, hI3⟩ := hI
      dsimp only at hI1 hI2 hI3
      refine ⟨(if goB (τ.2.1 2 p) set i then upd f (12 * p + i) (τ.1 6) else f, nI (fb_ct (goB (τ.2.1 2 p) set) (i + 1))), ⟨fun r hr => ?_, fun q r hr hq => ?_, rfl⟩, fun K n h => ?_⟩
      · dsimp only
        cases e1 : goB (τ.2.1 2 p) set i
        · rw [if_neg (by simp), hI1 r hr]
          by_cases e : r = i
          · subst e; simp [e1]
          · have : (r < i + 1) ↔ r < i := by omega
            simp only [this]
        · rw [if_pos rfl]
          by_cases e : r = i
          · subst e; rw [pk_us]; simp [e1]
          · rw [pk_un (by omega), hI1 r hr]
            have : (r < i + 1) ↔ r < i := by omega
            simp only [this]
      · dsimp only
        cases e1 : goB (τ.2.1 2 p) set i
        · rw [if_neg (by simp)]; exact hI2 q r hr hq
        · rw [if_pos rfl, pk_un (by omega)]; exact hI2 q r hr hq
      · dsimp only at h ⊢
        rw [lpX10_strikeBut_5]
        refine ⟨fun h2 => absurd h2 (nI_ge (a := i) (b := 12) hi (by omega)), fun _ => ⟨in10 hp, q_has (by omega) ?_⟩⟩
        simp only [forall_eq, mul12, (show (st_R τ 3 f).2.1 2 = τ.2.1 2 from rfl), st_R1, st_AR, nI_1, nI_clamp (show 12 * p + i < 2 ^ 31 by omega), nI_clamp (show p < 2 ^ 31 by omega)]
        rw [fb_ct_succ] at h
        rw [hI3]
        cases e1 : bt (τ.2.1 2 p) i
        · have eg : goB (τ.2.1 2 p) set i = false := by simp [goB, e1]
          rw [eg, if_neg (by simp)] at h
          exact ⟨fun _ => h, fun h2 => absurd rfl h2⟩
        · refine ⟨fun h2 => absurd h2 n10, fun _ => q_has (by omega) ?_⟩
          cases e2 : bt set i
          · have eg : goB (τ.2.1 2 p) set i = true := by simp [goB, e1, e2]
            rw [eg, if_pos rfl, if_pos rfl, ← nI_1] at h
            exact ⟨fun h2 => absurd rfl h2, fun _ => ⟨in120 hp hi, h⟩⟩
          · have eg : goB (τ.2.1 2 p) set i = false := by simp [goB, e1, e2]
            rw [eg, if_neg (by simp)] at h
            exact ⟨fun _ => h, fun h2 => absurd h2 n10⟩)
    12 0 (τ.2.1 3, 0) (by omega) ⟨fun r hr => by simp, fun q r hr hq => rfl, rfl⟩
  dsimp only at hf hw
  refine ⟨f, fun r hr => by rw [hf.1 r hr]; simp [hr], hf.2.1, fun post hpost => ?_⟩
  unfold wX10_strikeBut
  have := hw (fun (y8 : Int32) (σ9 : St) => vp_in (nI p) 10 ∧ (vp_in (nI p) 10 ∧ (∀ σ10 : St, σ10 = st_A σ9 2 (nI p).toNatClampNeg ((σ9.2.1 2 (nI p).toNatClampNeg) &&& set) → (post y8 σ10)))) (by
    simp only [forall_eq, nI_clamp (show p < 2 ^ 31 by omega)]
    refine ⟨in10 hp, in10 hp, ?_⟩
    rw [hf.2.2]
    exact hpost)
  rw [st_Rself] at this
  exact ⟨_, this⟩
theorem R_strike {σ τ : St} {n u d sp se gr p : Nat} {st : Int32} {f g : Nat → Int32} (hR : R_all σ τ n u d sp se gr) (hp : p < n)
    (hf : ∀ r, r < 12 → f (p * 12 + r) = if goB (σ.2.1 3 p) st r then nI d else σ.2.1 5 (p * 12 + r)) (hf2 : ∀ q r, r < 12 → q ≠ p → f (q * 12 + r) = σ.2.1 5 (q * 12 + r))
    (hg : ∀ r, r < 12 → g (12 * p + r) = if goB (τ.2.1 2 p) st r then τ.1 6 else τ.2.1 3 (12 * p + r)) (hg2 : ∀ q r, r < 12 → q ≠ p → g (12 * q + r) = τ.2.1 3 (12 * q + r)) :
    R_all (st_R (st_A (st_A σ 3 p (σ.2.1 3 p &&& st)) 4 p (σ.2.1 4 p ||| (σ.2.1 3 p &&& (st ^^^ (-1))))) 5 f) (st_A (st_R τ 3 g) 2 p (τ.2.1 2 p &&& st)) n u d sp se gr := by
  obtain ⟨hsc, har, hpe, hus, hst, hro, hpl, hsh, hba⟩ := hR
  have hn : n ≤ 10 := hsc.1.2.2
  have hd2 : τ.1 6 = nI d := hsc.2.2.1.2.1
  have a4 := har.2.2.2.1
  refine ⟨hsc, ?_, ?_, hus, ?_, hro, hpl, hsh, hba⟩
  · obtain ⟨r1, r2, r3, r4, r5⟩ := har
    exact ⟨r1, r2, r3, show upd (τ.2.1 2) p (τ.2.1 2 p &&& st) = upd (σ.2.1 3) p (σ.2.1 3 p &&& st) by rw [r4], r5⟩
  · refine ⟨fun q => ?_, fun q hq => ?_⟩
    · obtain ⟨g1, g2, g3, g4⟩ := hpe.1 q
      show (∃ m' : Nat, m' < 256 ∧ σ.2.1 2 q = nI m') ∧ sm (upd (σ.2.1 3) p (σ.2.1 3 p &&& st) q) ∧ sm (upd (σ.2.1 4) p (σ.2.1 4 p ||| (σ.2.1 3 p &&& (st ^^^ (-1)))) q) ∧ True
      by_cases e : q = p
      · subst e
        rw [pk_us, pk_us]
        exact ⟨g1, sm_and g2, sm_or g3 (sm_and g2), trivial⟩
      · rw [pk_un e, pk_un e]
        exact ⟨g1, g2, g3, g4⟩
    · show upd (σ.2.1 4) p _ q = 0
      rw [pk_un (by omega)]
      exact hpe.2 q hq
  · intro q r hq hr
    obtain ⟨g1, g2⟩ := hst q r hq hr
    show (bt (upd (σ.2.1 4) p (σ.2.1 4 p ||| (σ.2.1 3 p &&& (st ^^^ (-1)))) q) r = true → ∃ e, e ≤ d ∧ f (q * 12 + r) = nI e ∧ g (12 * q + r) = nI e) ∧ (bt (upd (σ.2.1 4) p (σ.2.1 4 p ||| (σ.2.1 3 p &&& (st ^^^ (-1)))) q) r = false → g (12 * q + r) = -9)
    by_cases e : q = p
    · subst e
      rw [pk_us, hf r hr, hg r hr, b_or, goB_bt (by omega), a4, hd2]
      cases e1 : goB (σ.2.1 3 q) st r
      · simpa using ⟨g1, g2⟩
      · simp only [Bool.or_true, if_true]
        exact ⟨fun _ => ⟨d, Nat.le_refl d, rfl, rfl⟩, fun h => by simp at h⟩
    · rw [pk_un e, hf2 q r hr e, hg2 q r hr e]
      exact ⟨g1, g2⟩
theorem R_leave {σ τ : St} {n u d sp se gr p : Nat} {st : Int32} {f g : Nat → Int32} (hR : R_all σ τ n u d sp se gr) (hp : p < n) (hs : sm st)
    (hf : ∀ r, r < 12 → f (p * 12 + r) = if goB (σ.2.1 3 p) st r then nI d else σ.2.1 5 (p * 12 + r)) (hf2 : ∀ q r, r < 12 → q ≠ p → f (q * 12 + r) = σ.2.1 5 (q * 12 + r))
    (hg : ∀ r, r < 12 → g (12 * p + r) = if goB (τ.2.1 2 p) st r then τ.1 6 else τ.2.1 3 (12 * p + r)) (hg2 : ∀ q r, r < 12 → q ≠ p → g (12 * q + r) = τ.2.1 3 (12 * q + r)) :
    R_all (st_R (st_A (st_A σ 3 p st) 4 p (σ.2.1 4 p ||| (σ.2.1 3 p &&& (st ^^^ (-1))))) 5 f) (st_A (st_R τ 3 g) 2 p st) n u d sp se gr := by
  obtain ⟨hsc, har, hpe, hus, hst, hro, hpl, hsh, hba⟩ := hR
  have hn : n ≤ 10 := hsc.1.2.2
  have hd2 : τ.1 6 = nI d := hsc.2.2.1.2.1
  have a4 := har.2.2.2.1
  refine ⟨hsc, ?_, ?_, hus, ?_, hro, hpl, hsh, hba⟩
  · obtain ⟨r1, r2, r3, r4, r5⟩ := har
    exact ⟨r1, r2, r3, show upd (τ.2.1 2) p st = upd (σ.2.1 3) p st by rw [r4], r5⟩
  · refine ⟨fun q => ?_, fun q hq => ?_⟩
    · obtain ⟨g1, g2, g3, g4⟩ := hpe.1 q
      show (∃ m' : Nat, m' < 256 ∧ σ.2.1 2 q = nI m') ∧ sm (upd (σ.2.1 3) p st q) ∧ sm (upd (σ.2.1 4) p (σ.2.1 4 p ||| (σ.2.1 3 p &&& (st ^^^ (-1)))) q) ∧ True
      by_cases e : q = p
      · subst e
        rw [pk_us, pk_us]
        exact ⟨g1, hs, sm_or g3 (sm_and g2), trivial⟩
      · rw [pk_un e, pk_un e]
        exact ⟨g1, g2, g3, g4⟩
    · show upd (σ.2.1 4) p _ q = 0
      rw [pk_un (by omega)]
      exact hpe.2 q hq
  · intro q r hq hr
    obtain ⟨g1, g2⟩ := hst q r hq hr
    show (bt (upd (σ.2.1 4) p (σ.2.1 4 p ||| (σ.2.1 3 p &&& (st ^^^ (-1)))) q) r = true → ∃ e, e ≤ d ∧ f (q * 12 + r) = nI e ∧ g (12 * q + r) = nI e) ∧ (bt (upd (σ.2.1 4) p (σ.2.1 4 p ||| (σ.2.1 3 p &&& (st ^^^ (-1)))) q) r = false → g (12 * q + r) = -9)
    by_cases e : q = p
    · subst e
      rw [pk_us, hf r hr, hg r hr, b_or, goB_bt (by omega), a4, hd2]
      cases e1 : goB (σ.2.1 3 q) st r
      · simpa using ⟨g1, g2⟩
      · simp only [Bool.or_true, if_true]
        exact ⟨fun _ => ⟨d, Nat.le_refl d, rfl, rfl⟩, fun h => by simp at h⟩
    · rw [pk_un e, hf2 q r hr e, hg2 q r hr e]
      exact ⟨g1, g2⟩
theorem pr_strike {σ τ : St} (hR : R_ok σ τ) (a : Int32) : Pair (wX9_strike σ a) (wX10_strike τ a) := by
  obtain ⟨n, u, d, sp, se, gr, ha9⟩ := id hR
  have hxl := R_xlog ha9
  have hml := R_mlog ha9
  obtain ⟨⟨⟨h6, m1, hn⟩, ⟨u1, u2, hu⟩, ⟨d1, d2, hd⟩, hsc⟩, har, hpe, hus, hst, hro, hpl, hsh, hba⟩ := id ha9
  rcases rg_cases a (n := n) (by omega) with ⟨p, hp, rfl⟩ | ha
  case inr =>
    refine pair_bad (-1) hR (fun post hp => ?_) (fun post hp => ?_)
    · exact q_noPerson_bad h6 ha ⟨fun h => absurd h n10, fun _ => hp⟩
    · exact q_isPerson_bad m1 hn ha ⟨fun _ => hp, fun h => absurd rfl h⟩
  have hp10 : p < 10 := by omega
  obtain ⟨f, hf, hf2, hw⟩ := q_xleave (σ := σ) (d := d) (st := xkept σ u d sp se p) hp10 (hpe.1 p).2.1
  obtain ⟨g, hg, hg2, hv⟩ := q_mstrike (τ := τ) (set := xkept σ u d sp se p) hp10
  have hks : sm (xkept σ u d sp se p) := mkS_sm _
  have hsub : σ.2.1 3 p &&& xkept σ u d sp se p = xkept σ u d sp se p := by
    refine sm_ext (sm_andr hks) hks (fun i hi => ?_)
    rw [b_and, xkept, keptF, mkS_bt _ 12 (by omega) i (by omega)]
    simp only [hi, decide_true, Bool.true_and]
    cases bt (σ.2.1 3 p) i <;> simp
  refine ⟨nI (fb_ct (goB (σ.2.1 3 p) (xkept σ u d sp se p)) 12), _, _, fun post hpo => ?_, fun post hpo => ?_, ⟨n, u, d, sp, se, gr, R_leave ha9 hp hks hf hf2 hg hg2⟩⟩
  · refine q_noPerson_ok h6 hn hp ⟨fun _ => q_xkept hxl hp10 ?_, fun h => absurd rfl h⟩
    rw [d1]
    exact hw _ hpo
  · refine q_isPerson_ok m1 hn hp ⟨fun h => absurd h n10, fun _ => q_mkept hml hp10 ?_⟩
    rw [R_kept ha9]
    refine hv _ ?_
    rw [har.2.2.2.1, hsub]
    exact hpo
