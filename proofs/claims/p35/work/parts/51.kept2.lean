/-! ===== pure: kinds, what is kept, on both sides ===== -/
/-- what the log, the days and the standby rights are, of the class's state -/
def XLog (σ : St) (u d sp se : Nat) : Prop := σ.1 7 = nI u ∧ σ.1 2 = nI d ∧ (σ.1 3 = nI sp ∧ 1 ≤ sp ∧ sp ≤ 999) ∧ (σ.1 4 = nI se ∧ 1 ≤ se ∧ se ≤ 999) ∧ LogOk (σ.2.1 6) (σ.2.1 7) (σ.2.1 8) u d ∧ ∀ p, sm (σ.2.1 3 p)
def MLog (τ : St) (u d sp se : Nat) : Prop := τ.1 7 = nI u ∧ τ.1 6 = nI d ∧ (τ.1 3 = nI sp ∧ 1 ≤ sp ∧ sp ≤ 999) ∧ (τ.1 4 = nI se ∧ 1 ≤ se ∧ se ≤ 999) ∧ LogOk (τ.2.1 4) (τ.2.1 5) (τ.2.1 6) u d ∧ ∀ p, sm (τ.2.1 2 p)
abbrev xkept (σ : St) (u d sp se p : Nat) : Int32 := keptF (σ.2.1 3) (σ.2.1 6) (σ.2.1 7) (σ.2.1 8) (σ.1 0) u d sp se p
abbrev mkept (τ : St) (u d sp se p : Nat) : Int32 := keptF (τ.2.1 2) (τ.2.1 4) (τ.2.1 5) (τ.2.1 6) (τ.1 2) u d sp se p
theorem R_xlog {σ τ : St} {n u d sp se gr : Nat} (hR : R_all σ τ n u d sp se gr) : XLog σ u d sp se := by
  obtain ⟨⟨⟨_, _, hn⟩, ⟨u1, u2, hu⟩, ⟨d1, d2, hd⟩, ⟨s1, s2, hs⟩, ⟨e1, e2, he⟩, _⟩, har, hpe, hus, _⟩ := hR
  refine ⟨u1, d1, ⟨s1, hs⟩, ⟨e1, he⟩, ⟨hu, hd, fun k hk => ?_⟩, fun p => (hpe.1 p).2.1⟩
  obtain ⟨⟨p, hp, a⟩, b⟩ := hus k hk
  exact ⟨⟨p, by omega, a⟩, b⟩
theorem R_mlog {σ τ : St} {n u d sp se gr : Nat} (hR : R_all σ τ n u d sp se gr) : MLog τ u d sp se := by
  have hX := R_xlog hR
  obtain ⟨⟨⟨_, _, hn⟩, ⟨u1, u2, hu⟩, ⟨d1, d2, hd⟩, ⟨s1, s2, hs⟩, ⟨e1, e2, he⟩, _⟩, ⟨_, _, _, a4, a5, a6, a7, _⟩, _⟩ := hR
  refine ⟨u2, d2, ⟨s2, hs⟩, ⟨e2, he⟩, ?_, ?_⟩
  · rw [a5, a6, a7]; exact hX.2.2.2.2.1
  · rw [a4]; exact hX.2.2.2.2.2
theorem R_kept {σ τ : St} {n u d sp se gr : Nat} (hR : R_all σ τ n u d sp se gr) (p : Nat) : mkept τ u d sp se p = xkept σ u d sp se p := by
  obtain ⟨⟨_, _, _, _, _, _, ⟨h7, _⟩, _⟩, ⟨_, _, _, a4, a5, a6, a7, _⟩, _⟩ := hR
  unfold mkept xkept
  rw [a4, a5, a6, a7, h7]
theorem q_xkept {σ : St} {u d sp se p : Nat} {post : Int32 → Prop} (hL : XLog σ u d sp se) (hp : p < 10) (h : post (xkept σ u d sp se p)) : wX9_keptOf σ (nI p) post := by
  obtain ⟨h7, h2, ⟨h3, hs1, hs2⟩, ⟨h4, he1, he2⟩, hlog, hsm⟩ := hL
  obtain ⟨v1, hv1, hw1⟩ := q_recent (p := p) h7 h2 h3 hs2 hlog
  obtain ⟨v2, hv2, hw2⟩ := q_seasonal (p := p) h7 h2 h3 hs1 hs2 h4 he1 he2 hlog
  unfold wX9_keptOf
  refine hw1 _ (hw2 _ ?_)
  simp only [forall_eq, nI_clamp (show p < 2 ^ 31 by omega)]
  refine ⟨in10 hp, ?_⟩
  have e : σ.2.1 3 p &&& ((v1 ||| v2) ||| σ.1 0) = xkept σ u d sp se p := by
    refine sm_ext (sm_and (hsm p)) (mkS_sm _) (fun i hi => ?_)
    rw [xkept, keptF, mkS_bt _ 12 (by omega) i (by omega), b_and, b_or, b_or, hv1 i (by omega), hv2 i (by omega)]
    simp [hi]
  rw [e]
  exact h
theorem q_xkind {σ : St} {u d sp se p r : Nat} {post : Int32 → Prop} (hL : XLog σ u d sp se) (hr : r < 12) (h : post (kindF (σ.2.1 6) (σ.2.1 7) (σ.2.1 8) (σ.1 0) u d sp se p r)) : wX9_kindOf σ (nI p) (nI r) post := by
  obtain ⟨h7, h2, ⟨h3, hs1, hs2⟩, ⟨h4, he1, he2⟩, hlog, hsm⟩ := hL
  obtain ⟨v1, hv1, hw1⟩ := q_recent (p := p) h7 h2 h3 hs2 hlog
  obtain ⟨v2, hv2, hw2⟩ := q_seasonal (p := p) h7 h2 h3 hs1 hs2 h4 he1 he2 hlog
  unfold wX9_kindOf
  simp only [forall_eq, pb_test (show r < 32 by omega)]
  unfold kindF at h
  refine hw1 _ ?_
  rw [hv1 r (by omega)]
  cases c1 : usedB (σ.2.1 6) (σ.2.1 7) (σ.2.1 8) u d sp p r
  · rw [c1, if_neg (by simp)] at h
    refine ⟨fun _ => hw2 _ ?_, fun h2 => absurd rfl h2⟩
    rw [hv2 r (by omega)]
    cases c2 : seldB (σ.2.1 6) (σ.2.1 7) (σ.2.1 8) u d sp se p r
    · rw [c2, if_neg (by simp)] at h
      refine ⟨fun _ => ?_, fun h2 => absurd rfl h2⟩
      cases c3 : bt (σ.1 0) r
      · rw [c3, if_neg (by simp)] at h
        exact ⟨fun _ => h, fun h2 => absurd rfl h2⟩
      · rw [c3, if_pos rfl] at h
        exact ⟨fun h2 => by simp at h2, fun _ => h⟩
    · rw [c2, if_pos rfl] at h
      exact ⟨fun h2 => by simp at h2, fun _ => h⟩
  · rw [c1, if_pos rfl] at h
    exact ⟨fun h2 => by simp at h2, fun _ => h⟩
/-- the reference's look over the days of the span -/
theorem q_mspan {τ : St} {u1 u2 u3 u5 : Int32} {sp se x : Nat} (h3 : τ.1 3 = nI sp) (hsp : 1 ≤ sp) (hsp2 : sp ≤ 999) (h4 : τ.1 4 = nI se) (hse : 1 ≤ se) (hse2 : se ≤ 999) (hx : x ≤ 999) (b : Bool) {K : Int32 → Prop}
    (h : K (if b || (!decide (x < sp) && decide (x ≤ (x + sp - 1) / se * se)) then 1 else 0)) : ∃ n : Nat, lpX10_kindOf_75 u1 u2 u3 u5 (nI x) τ K n (if b then 1 else 0) (0 : Int32) := by
  by_cases c : x < sp
  · refine ⟨1, ?_⟩
    rw [lpX10_kindOf_75, h3]
    have c' : nI x < nI sp := nI_lt c (by omega)
    simp only [c, decide_true, Bool.not_true, Bool.false_and, Bool.or_false] at h
    exact ⟨fun h2 => h, fun _ => ⟨fun _ => h, fun h2 => absurd c' h2⟩⟩
  · have c' : ¬ nI x < nI sp := nI_nlt (by omega) (by omega)
    obtain ⟨v, hv, hw⟩ := lp_val (Pt := Int32 → Prop) (fun K n i acc => lpX10_kindOf_75 u1 u2 u3 u5 (nI x) τ K n acc i) (fun K acc => K acc)
      (fun i acc => acc = if b || anyB (fun t => decide ((x + t) % se = 0)) i then 1 else 0) sp
      (fun K acc n _ hp2 => by
        rw [lpX10_kindOf_75, h3]
        exact ⟨fun _ => hp2, fun h => absurd (nI_le (Nat.le_refl sp) (by omega)) h⟩)
      (fun i acc hi hI => by
        refine ⟨_, rfl, fun K n h => ?_⟩
        rw [lpX10_kindOf_75, h3, h4]
        refine ⟨fun h2 => absurd h2 (nI_ge hi (by omega)), fun _ => ⟨fun h2 => absurd h2 c', fun _ => ?_⟩⟩
        have e1 : nI x + nI i - (nI x + nI i) / nI se * nI se = nI ((x + i) % se) := by rw [nI_add]; exact pk_rem (by omega) (by omega) (by omega)
        have e2 : (nI ((x + i) % se) = 0) ↔ (x + i) % se = 0 := nI_eq (b := 0) (by have := Nat.mod_lt (x + i) (show 0 < se by omega); omega) (by omega)
        simp only [forall_eq, nI_1, e1, e2]
        rw [anyB] at h
        cases e3 : (b || anyB (fun t => decide ((x + t) % se = 0)) i)
        · have e4 : (b || (anyB (fun t => decide ((x + t) % se = 0)) i || decide ((x + i) % se = 0))) = decide ((x + i) % se = 0) := by rw [← Bool.or_assoc, e3]; simp
          rw [e4] at h
          rw [hI, e3, if_neg (by simp)]
          refine ⟨fun h2 => absurd rfl h2, fun _ => ⟨nI_ne0 (by omega) (by omega), fun h2 => ?_, fun h2 => ?_⟩⟩
          · rw [decide_eq_false h2, if_neg (by simp)] at h; exact h
          · rw [decide_eq_true h2, if_pos rfl] at h; exact h
        · have e4 : (b || (anyB (fun t => decide ((x + t) % se = 0)) i || decide ((x + i) % se = 0))) = true := by rw [← Bool.or_assoc, e3]; simp
          rw [e4, if_pos rfl] at h
          rw [hI, e3, if_pos rfl]
          exact ⟨fun _ => h, fun h2 => absurd h2 n10⟩)
      sp 0 (if b then 1 else 0) (by omega) (by simp [anyB])
    refine ⟨_, hw K ?_⟩
    have e5 : anyB (fun t => decide ((x + t) % se = 0)) sp = decide (x ≤ (x + sp - 1) / se * se) := by
      rw [Bool.eq_iff_iff, anyB_true, decide_eq_true_eq, ← seas_iff hsp hse]
      simp
    rw [hv, e5]
    simpa [c] using h
theorem q_mkind {τ : St} {u d sp se p r : Nat} {post : Int32 → Prop} (hL : MLog τ u d sp se) (hr : r < 12) (h : post (kindF (τ.2.1 4) (τ.2.1 5) (τ.2.1 6) (τ.1 2) u d sp se p r)) : wX10_kindOf τ (nI p) (nI r) post := by
  obtain ⟨h7, h6, ⟨h3, hs1, hs2⟩, ⟨h4, he1, he2⟩, ⟨hu4, hd9, hlog⟩, hsm⟩ := hL
  obtain ⟨⟨v3, v4⟩, hv, hw⟩ := lp_val (Pt := Int32 → Int32 → Prop) (α := Int32 × Int32) (fun K n i acc => lpX10_kindOf_8 (nI p) (nI r) τ K n acc.1 acc.2 i) (fun K acc => K acc.1 acc.2)
    (fun i acc => acc = (if anyB (fun k => uA (τ.2.1 4) (τ.2.1 5) p r k && rcB (τ.2.1 6) d sp k) i then 1 else 0, if anyB (fun k => uA (τ.2.1 4) (τ.2.1 5) p r k && (!rcB (τ.2.1 6) d sp k && rdB (τ.2.1 6) d sp se k)) i then 1 else 0)) u
    (fun K acc n _ hp2 => by
      rw [lpX10_kindOf_8, h7]
      exact ⟨fun _ => hp2, fun h => absurd (nI_le (Nat.le_refl u) (by omega)) h⟩)
    (fun i acc hi hI => by
      obtain ⟨⟨p', hp', ep⟩, ⟨r', hr', er⟩, e, he, ee⟩ := hlog i hi
      have ci : (nI i).toNatClampNeg = i := nI_clamp (by omega)
      have ce : (τ.2.1 6 i).toNatClampNeg = e := by rw [ee]; exact nI_clamp (by omega)
      refine ⟨_, rfl, fun K n h => ?_⟩
      rw [lpX10_kindOf_8, h7]
      refine ⟨fun h2 => absurd h2 (nI_ge hi (by omega)), fun _ => ⟨in400 hi hu4, ?_⟩⟩
      simp only [forall_eq, ci, nI_1]
      rw [anyB, anyB] at h
      by_cases c1 : τ.2.1 4 i = nI p
      · refine ⟨fun h2 => absurd c1 h2, fun _ => ⟨in400 hi hu4, ?_⟩⟩
        by_cases c2 : τ.2.1 5 i = nI r
        · refine ⟨fun h2 => absurd c2 h2, fun _ => ⟨in400 hi hu4, ?_⟩⟩
          have eu : uA (τ.2.1 4) (τ.2.1 5) p r i = true := by simp [uA, c1, c2]
          have erc : rcB (τ.2.1 6) d sp i = decide (d - e < sp) := by rw [rcB, ce]
          have erd : rdB (τ.2.1 6) d sp se i = decide (d - e ≤ (d - e + sp - 1) / se * se) := by rw [rdB, ce]
          rw [eu, erc, erd, Bool.true_and, Bool.true_and] at h
          rw [ee, h6, pk_sub he, h3, hI]
          dsimp only at h ⊢
          cases e3 : anyB (fun k => uA (τ.2.1 4) (τ.2.1 5) p r k && rcB (τ.2.1 6) d sp k) i
          · rw [e3, Bool.false_or] at h
            rw [if_neg (by simp)]
            refine ⟨fun h2 => absurd rfl h2, fun _ => ⟨fun h2 => ?_, fun h2 => ?_⟩⟩
            · have c3 : ¬ d - e < sp := fun z => absurd h2 (nI_ge z (by omega))
              rw [decide_eq_false c3, if_neg (by simp)] at h
              refine q_mspan h3 hs1 hs2 h4 he1 he2 (by omega) _ ?_
              simpa [c3] using h
            · have c3 : d - e < sp := by
                rcases Nat.lt_or_ge (d - e) sp with z | z
                · exact z
                · exact absurd (nI_le z (by omega)) h2
              rw [decide_eq_true c3, if_pos rfl] at h
              refine q_mspan h3 hs1 hs2 h4 he1 he2 (by omega) _ ?_
              simpa [c3] using h
          · rw [e3, Bool.true_or, if_pos rfl] at h
            rw [if_pos rfl]
            refine ⟨fun _ => ?_, fun h2 => absurd h2 n10⟩
            exact q_mspan h3 hs1 hs2 h4 he1 he2 (by omega) _ h
        · have eu : uA (τ.2.1 4) (τ.2.1 5) p r i = false := by simp [uA, c2]
          rw [eu, Bool.false_and, Bool.false_and, Bool.or_false, Bool.or_false, ← hI] at h
          exact ⟨fun _ => h, fun h2 => absurd h2 c2⟩
      · have eu : uA (τ.2.1 4) (τ.2.1 5) p r i = false := by simp [uA, c1]
        rw [eu, Bool.false_and, Bool.false_and, Bool.or_false, Bool.or_false, ← hI] at h
        exact ⟨fun _ => h, fun h2 => absurd h2 c1⟩)
    u 0 (0, 0) (by omega) rfl
  refine ⟨_, hw _ ?_⟩
  have e1 := congrArg Prod.fst hv
  have e2 := congrArg Prod.snd hv
  dsimp only at e1 e2 ⊢
  unfold kindF usedB seldB at h
  cases c1 : anyB (fun k => uA (τ.2.1 4) (τ.2.1 5) p r k && rcB (τ.2.1 6) d sp k) u
  · rw [c1, if_neg (by simp)] at h e1
    rw [e1]
    refine ⟨fun _ => ?_, fun h2 => absurd rfl h2⟩
    cases c2 : anyB (fun k => uA (τ.2.1 4) (τ.2.1 5) p r k && (!rcB (τ.2.1 6) d sp k && rdB (τ.2.1 6) d sp se k)) u
    · rw [c2, if_neg (by simp)] at h e2
      rw [e2]
      refine ⟨fun _ => q_has (by omega) ?_, fun h2 => absurd rfl h2⟩
      cases c3 : bt (τ.1 2) r
      · rw [c3, if_neg (by simp)] at h
        exact ⟨fun _ => h, fun h2 => absurd rfl h2⟩
      · rw [c3, if_pos rfl] at h
        exact ⟨fun h2 => absurd h2 n10, fun _ => h⟩
    · rw [c2, if_pos rfl] at h e2
      rw [e2]
      exact ⟨fun h2 => absurd h2 n10, fun _ => h⟩
  · rw [c1, if_pos rfl] at h e1
    rw [e1]
    exact ⟨fun h2 => absurd h2 n10, fun _ => h⟩
