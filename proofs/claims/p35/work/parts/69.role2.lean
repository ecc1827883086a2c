/-! ===== pure: the fewest roles, both searches side by side ===== -/
def xCont (u2 u4 : Int32) (K165 : St → Prop) (post : Int32 → St → Prop) (n : Nat) (v5 v6 : Int32) : Int32 → St → Prop := fun (r9 : Int32) (σ10 : St) => (¬ r9 = 0 → ((r9 = 0 → (∀ x11 : Int32, x11 = v6 + (1 : Int32) → (lpX6_search_34 u2 u4 K165 post n v5 x11 σ10))) ∧ (¬ r9 = 0 → (((σ10.1 11) ≤ (v5 + (2 : Int32)) → (∀ x12 : Int32, x12 = v6 + (1 : Int32) → (lpX6_search_34 u2 u4 K165 post n v5 x12 σ10))) ∧ (¬ (σ10.1 11) ≤ (v5 + (2 : Int32)) → (((120 : Int32) ≤ (v5 + (1 : Int32)) → (∀ x13 : Int32, x13 = v6 + (1 : Int32) → (lpX6_search_34 u2 u4 K165 post n v5 x13 σ10))) ∧ (¬ (120 : Int32) ≤ (v5 + (1 : Int32)) → (∀ x14 : Int32, x14 = v5 + (1 : Int32) → (∀ x15 : Int32, x15 = v6 + (1 : Int32) → (lpX6_search_34 u2 u4 K165 post n x14 x15 σ10)))))))))) ∧ (r9 = 0 → (wX6_keepIfFewer σ10 (v5 + (1 : Int32)) (fun (σ16 : St) => (r9 = 0 → (∀ x17 : Int32, x17 = v6 + (1 : Int32) → (lpX6_search_34 u2 u4 K165 post n v5 x17 σ16))) ∧ (¬ r9 = 0 → (((σ16.1 11) ≤ (v5 + (2 : Int32)) → (∀ x18 : Int32, x18 = v6 + (1 : Int32) → (lpX6_search_34 u2 u4 K165 post n v5 x18 σ16))) ∧ (¬ (σ16.1 11) ≤ (v5 + (2 : Int32)) → (((120 : Int32) ≤ (v5 + (1 : Int32)) → (∀ x19 : Int32, x19 = v6 + (1 : Int32) → (lpX6_search_34 u2 u4 K165 post n v5 x19 σ16))) ∧ (¬ (120 : Int32) ≤ (v5 + (1 : Int32)) → (∀ x20 : Int32, x20 = v5 + (1 : Int32) → (∀ x21 : Int32, x21 = v6 + (1 : Int32) → (lpX6_search_34 u2 u4 K165 post n x20 x21 σ16)))))))))))
def mCont (u1 : Int32) (K200 : St → Prop) (post : Int32 → St → Prop) (n : Nat) (v3 : Int32) (σ11 : St) : Int32 → Prop := fun (r12 : Int32) => (0 ≤ r12 → ((r12 < 0 → (lpX10_roles_58 u1 K200 post n v3 σ11)) ∧ (¬ r12 < 0 → (((σ11.1 11) ≤ (v3 + (2 : Int32)) → (lpX10_roles_58 u1 K200 post n v3 σ11)) ∧ (¬ (σ11.1 11) ≤ (v3 + (2 : Int32)) → (∀ x13 : Int32, x13 = v3 + (1 : Int32) → (wX10_level σ11 x13 r12 (fun (σ14 : St) => lpX10_roles_58 u1 K200 post n x13 σ14)))))))) ∧ (¬ 0 ≤ r12 → (((σ11.1 11) ≤ (v3 + (1 : Int32)) → ((r12 < 0 → (lpX10_roles_58 u1 K200 post n v3 σ11)) ∧ (¬ r12 < 0 → (((σ11.1 11) ≤ (v3 + (2 : Int32)) → (lpX10_roles_58 u1 K200 post n v3 σ11)) ∧ (¬ (σ11.1 11) ≤ (v3 + (2 : Int32)) → (∀ x15 : Int32, x15 = v3 + (1 : Int32) → (wX10_level σ11 x15 r12 (fun (σ16 : St) => lpX10_roles_58 u1 K200 post n x15 σ16)))))))) ∧ (¬ (σ11.1 11) ≤ (v3 + (1 : Int32)) → (∀ σ17 : St, σ17 = st_S σ11 11 (v3 + (1 : Int32)) → (∀ σ18 : St, σ18 = st_S σ17 10 (v3 + (1 : Int32)) → (∃ n22 : Nat, lpX10_roles_143 u1 v3 (fun (σ21 : St) => lpX10_roles_58 u1 K200 post n v3 σ21) n22 (0 : Int32) σ18))))))
theorem nI_2 (a : Nat) : nI a + 2 = nI (a + 2) := nI_add a 2
theorem xc_none {u2 u4 : Int32} {Kx : St → Prop} {post : Int32 → St → Prop} {c L step : Nat} {σ10 σ16 : St} (hk : ∀ po : St → Prop, po σ16 → wX6_keepIfFewer σ10 (nI (L + 1)) po) (h : lpX6_search_34 u2 u4 Kx post c (nI L) (nI (step + 1)) σ16) : xCont u2 u4 Kx post c (nI L) (nI step) 0 σ10 := by
  unfold xCont
  refine ⟨fun z => absurd rfl z, fun _ => ?_⟩
  rw [nI_1 L]
  refine hk _ ⟨fun _ => ?_, fun z => absurd rfl z⟩
  intro x hx
  rw [hx, nI_1]
  exact h
theorem xc_stay {u2 u4 : Int32} {Kx : St → Prop} {post : Int32 → St → Prop} {c L step f : Nat} {σ10 : St} (hf : σ10.1 11 = nI f) (hl : f ≤ L + 2) (hL : L ≤ 11) (h : lpX6_search_34 u2 u4 Kx post c (nI L) (nI (step + 1)) σ10) : xCont u2 u4 Kx post c (nI L) (nI step) 1 σ10 := by
  unfold xCont
  refine ⟨fun _ => ⟨fun z => absurd z n10, fun _ => ?_⟩, fun z => absurd z n10⟩
  rw [hf, nI_2]
  refine ⟨fun _ => ?_, fun z => absurd (nI_le hl (by omega)) z⟩
  intro x hx
  rw [hx, nI_1]
  exact h
theorem xc_down {u2 u4 : Int32} {Kx : St → Prop} {post : Int32 → St → Prop} {c L step f : Nat} {σ10 : St} (hf : σ10.1 11 = nI f) (hf2 : f < 2000) (hl : L + 2 < f) (hL : L ≤ 11) (h : lpX6_search_34 u2 u4 Kx post c (nI (L + 1)) (nI (step + 1)) σ10) : xCont u2 u4 Kx post c (nI L) (nI step) 1 σ10 := by
  unfold xCont
  refine ⟨fun _ => ⟨fun z => absurd z n10, fun _ => ?_⟩, fun z => absurd z n10⟩
  rw [hf, nI_2, nI_1 L]
  refine ⟨fun z => absurd z (nI_ge hl (by omega)), fun _ => ⟨fun z => absurd z (nI_ge (b := 120) (by omega) (by omega)), fun _ => ?_⟩⟩
  intro x hx x2 hx2
  rw [hx, hx2, nI_1]
  exact h
theorem m9n : ¬ (0 : Int32) ≤ -9 := by decide
theorem m9l : (-9 : Int32) < 0 := by decide
theorem mc_skip {u1 : Int32} {Km : St → Prop} {post : Int32 → St → Prop} {c L f : Nat} {σ11 : St} (hf : σ11.1 11 = nI f) (hl : f ≤ L + 1) (hL : L ≤ 11) (h : lpX10_roles_58 u1 Km post c (nI L) σ11) : mCont u1 Km post c (nI L) σ11 (-9) := by
  unfold mCont
  refine ⟨fun z => absurd z m9n, fun _ => ?_⟩
  rw [hf, nI_1 L]
  exact ⟨fun _ => ⟨fun _ => h, fun z => absurd m9l z⟩, fun z => absurd (nI_le hl (by omega)) z⟩
theorem mc_keep {u1 : Int32} {Km : St → Prop} {post : Int32 → St → Prop} {c L f : Nat} {σ11 σ21 : St} (hf : σ11.1 11 = nI f) (hf2 : f < 2000) (hl : L + 1 < f) (hL : L ≤ 11)
    (hk : ∀ po : St → Prop, po σ21 → ∃ c', lpX10_roles_143 u1 (nI L) po c' 0 (st_S (st_S σ11 11 (nI (L + 1))) 10 (nI (L + 1)))) (h : lpX10_roles_58 u1 Km post c (nI L) σ21) : mCont u1 Km post c (nI L) σ11 (-9) := by
  unfold mCont
  refine ⟨fun z => absurd z m9n, fun _ => ?_⟩
  rw [hf, nI_1 L]
  refine ⟨fun z => absurd z (nI_ge hl (by omega)), fun _ => ?_⟩
  intro σ17 h17 σ18 h18
  rw [h18, h17]
  exact hk _ h
theorem mc_stay {u1 : Int32} {Km : St → Prop} {post : Int32 → St → Prop} {c L f x : Nat} {σ11 : St} (hx : x < 200) (hf : σ11.1 11 = nI f) (hl : f ≤ L + 2) (hL : L ≤ 11) (h : lpX10_roles_58 u1 Km post c (nI L) σ11) : mCont u1 Km post c (nI L) σ11 (nI x) := by
  unfold mCont
  refine ⟨fun _ => ⟨fun z => absurd z (nI_pos (by omega)), fun _ => ?_⟩, fun z => absurd (nI_pos' (by omega)) z⟩
  rw [hf, nI_2 L]
  exact ⟨fun _ => h, fun z => absurd (nI_le hl (by omega)) z⟩
theorem q_level {τ : St} {l p r : Nat} {post : St → Prop} (hl : l ≤ 12) (hp : p < 10) (hr : r < 12) (h : post (st_A (st_A (st_A τ 13 l (nI p)) 12 l (nI r)) 11 l 0)) : wX10_level τ (nI l) (nI (12 * p + r)) post := by
  unfold wX10_level
  have e1 : nI (12 * p + r) / (12 : Int32) = nI p := by
    have := pk_div (a := 12 * p + r) (d := 12) (by omega) (by omega) (by omega)
    rw [show (12 * p + r) / 12 = p by omega] at this
    exact this
  have e2 : nI (12 * p + r) - nI (12 * p + r) / (12 : Int32) * (12 : Int32) = nI r := by
    have := pk_rem (a := 12 * p + r) (d := 12) (by omega) (by omega) (by omega)
    rw [show (12 * p + r) % 12 = r by omega] at this
    exact this
  rw [e2, e1, cl (by omega)]
  refine ⟨vp_in_nI (by omega) (by omega), ?_⟩
  intro σ1 h1
  refine ⟨vp_in_nI (by omega) (by omega), ?_⟩
  intro σ2 h2
  refine ⟨vp_in_nI (by omega) (by omega), ?_⟩
  intro σ3 h3
  rw [h3, h2, h1]
  exact h
theorem mc_down {u1 : Int32} {Km : St → Prop} {post : Int32 → St → Prop} {c L f p r : Nat} {σ11 : St} (hp : p < 10) (hr : r < 12) (hf : σ11.1 11 = nI f) (hf2 : f < 2000) (hl : L + 2 < f) (hL : L ≤ 11)
    (h : lpX10_roles_58 u1 Km post c (nI (L + 1)) (st_A (st_A (st_A σ11 13 (L + 1) (nI p)) 12 (L + 1) (nI r)) 11 (L + 1) 0)) : mCont u1 Km post c (nI L) σ11 (nI (12 * p + r)) := by
  unfold mCont
  refine ⟨fun _ => ⟨fun z => absurd z (nI_pos (by omega)), fun _ => ?_⟩, fun z => absurd (nI_pos' (by omega)) z⟩
  rw [hf, nI_2 L]
  refine ⟨fun z => absurd z (nI_ge hl (by omega)), fun _ => ?_⟩
  intro x13 h13
  rw [h13, nI_1]
  exact q_level (by omega) hp hr h
/-! frames -/
def FrX (σ σ' : St) : Prop := (∀ j, j ≠ 9 → j ≠ 10 → j ≠ 11 → σ'.1 j = σ.1 j) ∧ ∀ a, (a < 11 ∨ 16 < a) → σ'.2.1 a = σ.2.1 a
def FrT (τ τ' : St) : Prop := (∀ j, j ≠ 9 → j ≠ 10 → j ≠ 11 → τ'.1 j = τ.1 j) ∧ ∀ a, (a < 10 ∨ 13 < a) → τ'.2.1 a = τ.2.1 a
theorem FrX_refl (σ : St) : FrX σ σ := ⟨fun _ _ _ _ => rfl, fun _ _ => rfl⟩
theorem FrT_refl (σ : St) : FrT σ σ := ⟨fun _ _ _ _ => rfl, fun _ _ => rfl⟩
theorem FrX_tr {a b c : St} (h : FrX a b) (h2 : FrX b c) : FrX a c := ⟨fun j x y z => (h2.1 j x y z).trans (h.1 j x y z), fun j x => (h2.2 j x).trans (h.2 j x)⟩
theorem FrT_tr {a b c : St} (h : FrT a b) (h2 : FrT b c) : FrT a c := ⟨fun j x y z => (h2.1 j x y z).trans (h.1 j x y z), fun j x => (h2.2 j x).trans (h.2 j x)⟩
theorem FrX_A {σ σ' : St} (h : FrX σ σ') {j i : Nat} {v : Int32} (hj : 11 ≤ j ∧ j ≤ 16) : FrX σ (st_A σ' j i v) := ⟨h.1, fun a ha => by
  show (if a = j then _ else σ'.2.1 a) = _
  rw [if_neg (by omega)]; exact h.2 a ha⟩
theorem FrX_R {σ σ' : St} (h : FrX σ σ') {j : Nat} {g : Nat → Int32} (hj : 11 ≤ j ∧ j ≤ 16) : FrX σ (st_R σ' j g) := ⟨h.1, fun a ha => by
  show (if a = j then _ else σ'.2.1 a) = _
  rw [if_neg (by omega)]; exact h.2 a ha⟩
theorem FrX_S {σ σ' : St} (h : FrX σ σ') {j : Nat} {v : Int32} (hj : j = 9 ∨ j = 10 ∨ j = 11) : FrX σ (st_S σ' j v) := ⟨fun k h9 h10 h11 => by
  show (if k = j then _ else σ'.1 k) = _
  rw [if_neg (by omega)]; exact h.1 k h9 h10 h11, h.2⟩
theorem FrT_A {σ σ' : St} (h : FrT σ σ') {j i : Nat} {v : Int32} (hj : 10 ≤ j ∧ j ≤ 13) : FrT σ (st_A σ' j i v) := ⟨h.1, fun a ha => by
  show (if a = j then _ else σ'.2.1 a) = _
  rw [if_neg (by omega)]; exact h.2 a ha⟩
theorem FrT_R {σ σ' : St} (h : FrT σ σ') {j : Nat} {g : Nat → Int32} (hj : 10 ≤ j ∧ j ≤ 13) : FrT σ (st_R σ' j g) := ⟨h.1, fun a ha => by
  show (if a = j then _ else σ'.2.1 a) = _
  rw [if_neg (by omega)]; exact h.2 a ha⟩
theorem FrT_S {σ σ' : St} (h : FrT σ σ') {j : Nat} {v : Int32} (hj : j = 9 ∨ j = 10 ∨ j = 11) : FrT σ (st_S σ' j v) := ⟨fun k h9 h10 h11 => by
  show (if k = j then _ else σ'.1 k) = _
  rw [if_neg (by omega)]; exact h.1 k h9 h10 h11, h.2⟩
theorem Cs_fr {σ τ σ' τ' : St} {K : Nat → Nat} {n : Nat} (h : Cs σ τ K n) (f : FrX σ σ') (g : FrT τ τ') : Cs σ' τ' K n := by
  unfold Cs at *
  rw [f.2 0 (by omega), f.1 8 (by omega) (by omega) (by omega), f.2 9 (by omega), g.2 8 (by omega), g.2 9 (by omega)]
  exact h
theorem R_fr2 {σ τ σ' τ' : St} {n u d sp se gr : Nat} (hR : R_all σ τ n u d sp se gr) (f : FrX σ σ') (g : FrT τ τ') (hr : R_ro σ' τ') : R_all σ' τ' n u d sp se gr := by
  obtain ⟨r1, r2, r3, r4, r5, r6, r7, r8, r9⟩ := hR
  refine ⟨?_, ?_, ?_, ?_, ?_, hr, ?_, ?_, ?_⟩
  · unfold R_sc at *
    rw [f.1 0 (by omega) (by omega) (by omega), f.1 1 (by omega) (by omega) (by omega), f.1 2 (by omega) (by omega) (by omega), f.1 3 (by omega) (by omega) (by omega), f.1 4 (by omega) (by omega) (by omega), f.1 5 (by omega) (by omega) (by omega), f.1 6 (by omega) (by omega) (by omega), f.1 7 (by omega) (by omega) (by omega), f.1 14 (by omega) (by omega) (by omega),
      g.1 0 (by omega) (by omega) (by omega), g.1 1 (by omega) (by omega) (by omega), g.1 2 (by omega) (by omega) (by omega), g.1 3 (by omega) (by omega) (by omega), g.1 4 (by omega) (by omega) (by omega), g.1 5 (by omega) (by omega) (by omega), g.1 6 (by omega) (by omega) (by omega), g.1 7 (by omega) (by omega) (by omega), g.1 8 (by omega) (by omega) (by omega)]
    exact r1
  · unfold R_ar at *
    rw [g.2 7 (by omega), g.2 0 (by omega), g.2 1 (by omega), g.2 2 (by omega), g.2 4 (by omega), g.2 5 (by omega), g.2 6 (by omega), g.2 14 (by omega), f.2 1 (by omega), f.2 21 (by omega), f.2 2 (by omega), f.2 3 (by omega), f.2 6 (by omega), f.2 7 (by omega), f.2 8 (by omega), f.2 17 (by omega)]
    exact r2
  · unfold R_pe at *
    rw [f.2 2 (by omega), f.2 3 (by omega), f.2 4 (by omega)]
    exact r3
  · unfold R_us at *
    rw [f.2 6 (by omega), f.2 7 (by omega), f.2 8 (by omega)]
    exact r4
  · unfold R_st at *
    rw [f.2 4 (by omega), f.2 5 (by omega), g.2 3 (by omega)]
    exact r5
  · unfold R_pl at *
    rw [f.1 12 (by omega) (by omega) (by omega), f.1 13 (by omega) (by omega) (by omega), g.1 12 (by omega) (by omega) (by omega), f.2 18 (by omega), g.2 15 (by omega)]
    exact r7
  · unfold R_sh at *
    rw [f.2 19 (by omega), f.2 20 (by omega), g.2 16 (by omega), g.2 17 (by omega)]
    exact r8
  · unfold R_ba at *
    rw [f.2 17 (by omega)]
    exact r9
/-! the tie at a level -/
def Lv (K : Nat → Nat) (n : Nat) (σ τ : St) (w P Q : Nat → Nat) (l : Nat) : Prop := w l < 4096 ∧ P l < n ∧ Q l < 12 ∧ τ.2.1 11 l = nI (w l) ∧ σ.2.1 15 l = nI (fb_ct (cdB K n) (w l + 1)) ∧ σ.2.1 13 l = nI (K (P l)) ∧ σ.2.1 14 l = (1 : Int32) <<< (nI (Q l) &&& 31) ∧ τ.2.1 13 l = nI (P l) ∧ τ.2.1 12 l = nI (Q l) ∧ ∀ p, p < n → σ.2.1 16 (l * 10 + p) = cv w (K p) l
theorem Lv_keep {K : Nat → Nat} {n : Nat} {σ τ σ' τ' : St} {w w' P P' Q Q' : Nat → Nat} {l : Nat} (h : Lv K n σ τ w P Q l) (a13 : σ'.2.1 13 l = σ.2.1 13 l) (a14 : σ'.2.1 14 l = σ.2.1 14 l) (a15 : σ'.2.1 15 l = σ.2.1 15 l) (a16 : ∀ p, p < n → σ'.2.1 16 (l * 10 + p) = σ.2.1 16 (l * 10 + p))
    (t11 : τ'.2.1 11 l = τ.2.1 11 l) (t12 : τ'.2.1 12 l = τ.2.1 12 l) (t13 : τ'.2.1 13 l = τ.2.1 13 l) (hw : ∀ i, i ≤ l → w' i = w i) (hP : P' l = P l) (hQ : Q' l = Q l) : Lv K n σ' τ' w' P' Q' l := by
  unfold Lv at *
  rw [a13, a14, a15, t11, t12, t13, hw l (Nat.le_refl l), hP, hQ]
  refine ⟨h.1, h.2.1, h.2.2.1, h.2.2.2.1, h.2.2.2.2.1, h.2.2.2.2.2.1, h.2.2.2.2.2.2.1, h.2.2.2.2.2.2.2.1, h.2.2.2.2.2.2.2.2.1, fun p hp => ?_⟩
  rw [a16 p hp, h.2.2.2.2.2.2.2.2.2 p hp]
  exact (cv_cong (fun i hi => hw i (by omega))).symm
def sN (f : Nat → Nat) (i v : Nat) : Nat → Nat := fun l => if l = i then v else f l
theorem sN_at (f : Nat → Nat) (i v : Nat) : sN f i v i = v := if_pos rfl
theorem sN_ne {f : Nat → Nat} {i v l : Nat} (h : l ≠ i) : sN f i v l = f l := if_neg h
theorem upd_ne {f : Nat → Int32} {i l : Nat} {v : Int32} (h : l ≠ i) : upd f i v l = f l := if_neg h
def Bs (K : Nat → Nat) (n L : Nat) (σ τ : St) (tried : Nat) (w P Q : Nat → Nat) : Prop := Cs σ τ K n ∧ τ.1 1 = nI n ∧ σ.1 9 = 0 ∧ σ.1 10 = nI tried ∧ τ.1 9 = nI tried ∧ ∀ l, l ≤ L → Lv K n σ τ w P Q l
def Wy (σ : St) (w : Nat → Nat) (L : Nat) : Prop := ∀ l, l < L → σ.2.1 12 l = nI (w l)
def PhA (K : Nat → Nat) (n : Nat) (σ τ : St) (w P Q : Nat → Nat) (L : Nat) : Prop := σ.1 11 = nI 122 ∧ τ.1 11 = nI 1000 ∧ w L = 0 ∧ (K (P L)).testBit (Q L) = true ∧ (∀ l, l < L → w l = minR K n (Q l)) ∧ ∀ l l', l < l' → l' < L + 1 → Q l ≠ Q l'
def PhB (σ τ : St) (L : Nat) : Prop := ∃ b, L + 1 ≤ b ∧ b ≤ 12 ∧ σ.1 11 = nI b ∧ τ.1 11 = nI b ∧ τ.1 10 = nI b ∧ ∀ i, i < b → σ.2.1 11 i = τ.2.1 10 i ∧ sm (σ.2.1 11 i)
def Fin (b : Bool) (σ τ : St) : Prop := τ.1 9 = σ.1 10 ∧ (b = true → ∃ m, m ≤ 12 ∧ σ.1 11 = nI m ∧ τ.1 10 = nI m ∧ ∀ i, i < m → σ.2.1 11 i = τ.2.1 10 i ∧ sm (σ.2.1 11 i)) ∧ (b = false → σ.1 9 = 0 ∧ τ.1 10 = 0)
/-- trying a set: the class's side up to the covering -/
theorem q_mid {K : Nat → Nat} {n L tried s : Nat} {σ τ : St} {w P Q : Nat → Nat} (hn : n ≤ 10) (hL : L ≤ 11) (hB : Bs K n L σ τ tried w P Q) (hW : Wy σ w L) (hs4 : s < 4096) :
    ∃ σ8, Bs K n L σ8 (st_S (st_A τ 11 L (nI s)) 9 (nI (tried + 1))) (tried + 1) (sN w L s) P Q ∧ Wy σ8 (sN w L s) (L + 1) ∧ (∀ p, p < n → σ8.2.1 16 ((L + 1) * 10 + p) = cv (sN w L s) (K p) (L + 1)) ∧ FrX σ σ8 ∧ σ8.1 11 = σ.1 11 ∧ σ8.2.1 11 = σ.2.1 11 ∧
      ∀ post : St → Prop, post σ8 → wX6_cover (st_A (st_S (st_A σ 15 L (nI (fb_ct (cdB K n) (s + 1)))) 10 (nI (tried + 1))) 12 L (nI s)) (nI L) (nI s) (nI n) post := by
  obtain ⟨b1, b2, b3, b4, b5, b6⟩ := hB
  obtain ⟨g, g1, g2, g3⟩ := q_cover (σ := st_A (st_S (st_A σ 15 L (nI (fb_ct (cdB K n) (s + 1)))) 10 (nI (tried + 1))) 12 L (nI s)) (lev := L) (s := s) hn hL
  have fx : FrX σ (st_R (st_A (st_S (st_A σ 15 L (nI (fb_ct (cdB K n) (s + 1)))) 10 (nI (tried + 1))) 12 L (nI s)) 16 g) := FrX_R (FrX_A (FrX_S (FrX_A (FrX_refl σ) (by omega)) (by omega)) (by omega)) (by omega)
  have ft : FrT τ (st_S (st_A τ 11 L (nI s)) 9 (nI (tried + 1))) := FrT_S (FrT_A (FrT_refl τ) (by omega)) (by omega)
  have hLv := b6 L (Nat.le_refl L)
  refine ⟨st_R (st_A (st_S (st_A σ 15 L (nI (fb_ct (cdB K n) (s + 1)))) 10 (nI (tried + 1))) 12 L (nI s)) 16 g, ⟨Cs_fr b1 fx ft, b2, b3, rfl, rfl, fun l hl => ?_⟩, fun l hl => ?_, fun p hp => ?_, fx, rfl, rfl, g3⟩
  · by_cases e : l = L
    · subst e
      obtain ⟨c1, c2, c3, c4, c5, c6, c7, c8, c9, c10⟩ := hLv
      refine ⟨by rw [sN_at]; exact hs4, c2, c3, ?_, ?_, c6, c7, c8, c9, fun p hp => ?_⟩
      · rw [sN_at]
        show upd (τ.2.1 11) l (nI s) l = nI s
        exact pk_us
      · rw [sN_at]
        show upd (σ.2.1 15) l _ l = _
        exact pk_us
      · show g (l * 10 + p) = _
        rw [g1 _ (by omega)]
        rw [cv_cong (v := w) (fun i hi => sN_ne (by omega))]
        exact c10 p hp
    · refine Lv_keep (b6 l hl) rfl rfl ?_ (fun p hp => ?_) ?_ rfl rfl (fun i hi => sN_ne (by omega)) rfl rfl
      · show upd (σ.2.1 15) L _ l = _
        exact upd_ne e
      · show g (l * 10 + p) = _
        rw [g1 _ (by omega)]
        rfl
      · show upd (τ.2.1 11) L _ l = _
        exact upd_ne e
  · show upd (σ.2.1 12) L (nI s) l = _
    by_cases e : l = L
    · rw [e, sN_at]; exact pk_us
    · rw [upd_ne e, sN_ne e]; exact hW l (by omega)
  · show g ((L + 1) * 10 + p) = _
    rw [g2 p hp, cv, sN_at, cv_cong (v := w) (fun i hi => sN_ne (by omega))]
    have e0 : (st_A (st_S (st_A σ 15 L (nI (fb_ct (cdB K n) (s + 1)))) 10 (nI (tried + 1))) 12 L (nI s)).2.1 0 p = nI (K p) := b1.2.1 p hp
    have e16 : (st_A (st_S (st_A σ 15 L (nI (fb_ct (cdB K n) (s + 1)))) 10 (nI (tried + 1))) 12 L (nI s)).2.1 16 (L * 10 + p) = cv w (K p) L := hLv.2.2.2.2.2.2.2.2.2 p hp
    rw [e0, e16]
/-- the first half of a round of the class's search -/
theorem xi_pre {K : Nat → Nat} {n L tried s most step c : Nat} {σ σ8 : St} {w : Nat → Nat} {r k : Nat} {Kx : St → Prop} {post : Int32 → St → Prop} (hL : L ≤ 11) (hst : step < 40002) (hmost : most ≤ 20000) (ht : tried < most) (hPl : Pl σ K n L r k) (h15 : σ.2.1 15 L = nI (fb_ct (cdB K n) (w L + 1))) (hs : gdB K n r k s = true) (hw : w L < s) (hg : ∀ t, w L < t → t < s → gdB K n r k t = false) (h10 : σ.1 10 = nI tried)
    (h8 : ∀ post : St → Prop, post σ8 → wX6_cover (st_A (st_S (st_A σ 15 L (nI (fb_ct (cdB K n) (s + 1)))) 10 (nI (tried + 1))) 12 L (nI s)) (nI L) (nI s) (nI n) post)
    (h : wX6_openPlace σ8 (nI (L + 1)) (nI n) (xCont (nI n) (nI most) Kx post c (nI L) (nI step))) : lpX6_search_34 (nI n) (nI most) Kx post (c + 1) (nI L) (nI step) σ := by
  rw [lpX6_search_34]
  have hs0 : ¬ nI s = 0 := nI_ne0 (by omega) (by have := cd_lt (gd_iff.mp hs).1; omega)
  refine ⟨fun z => absurd z (nI_pos (by omega)), fun _ => ⟨fun z => absurd z (nI_ge (b := 40002) hst (by omega)), fun _ => qx_nextOf_some hPl h15 hs hw hg ⟨fun _ => ⟨fun _ => ?_, fun z => ?_⟩, fun z => absurd z hs0⟩⟩⟩
  · intro σ6 h6
    have e : (st_A σ 15 L (nI (fb_ct (cdB K n) (s + 1)))).1 10 = nI tried := h10
    rw [e, nI_1] at h6
    refine ⟨vp_in_nI (by omega) (by omega), ?_⟩
    intro σ7 h7
    rw [cl (by omega), h6] at h7
    rw [h7]
    refine h8 _ ?_
    rw [← nI_1 L] at h
    exact h
  · have e : (st_A σ 15 L (nI (fb_ct (cdB K n) (s + 1)))).1 10 = nI tried := h10
    rw [e] at z
    exact absurd (nI_lt ht (by omega)) z
theorem mi_pre {K : Nat → Nat} {n L tried s most c P r : Nat} {τ : St} {w : Nat → Nat} {Km : St → Prop} {post : Int32 → St → Prop} (hL : L ≤ 11) (hmost : most ≤ 20000) (ht : tried < most) (hPm : Pm τ K n L r P) (h11 : τ.2.1 11 L = nI (w L)) (hs : gdB K n r (K P) s = true) (hw : w L < s) (hg : ∀ t, w L < t → t < s → gdB K n r (K P) t = false) (h9 : τ.1 9 = nI tried)
    (h : wX10_open (st_S (st_A τ 11 L (nI s)) 9 (nI (tried + 1))) (nI (L + 1)) (mCont (nI most) Km post c (nI L) (st_S (st_A τ 11 L (nI s)) 9 (nI (tried + 1))))) : lpX10_roles_58 (nI most) Km post (c + 1) (nI L) τ := by
  rw [lpX10_roles_58]
  refine ⟨fun z => absurd z (nI_pos (by omega)), fun _ => qm_next_some hPm h11 hs hw hg ⟨fun _ => ⟨fun _ => ?_, fun z => ?_⟩, fun z => absurd z n10⟩⟩
  · intro σ11 h11'
    have e : (st_A τ 11 L (nI s)).1 9 = nI tried := h9
    rw [e, nI_1] at h11'
    rw [h11']
    rw [← nI_1 L] at h
    exact h
  · have e : (st_A τ 11 L (nI s)).1 9 = nI tried := h9
    rw [e, nI_eq (by omega) (by omega)] at z
    omega
