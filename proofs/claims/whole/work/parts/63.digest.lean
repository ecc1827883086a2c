/-! ===== pure: digest ===== -/
def dgF (f : Nat → Int32) (h : Int64) : Nat → Int64
  | 0 => h
  | k + 1 => 31 * dgF f h k + (f k).toInt64
/-- five values of each person -/
def dpF (t : Nat → Nat → Int32) (h : Int64) : Nat → Int64
  | 0 => h
  | p + 1 => dgF (t p) (dpF t h p) 5
/-- three values of each use -/
def duF (a b c : Nat → Int32) (h : Int64) : Nat → Int64
  | 0 => h
  | k + 1 => 31 * (31 * (31 * duF a b c h k + (a k).toInt64) + (b k).toInt64) + (c k).toInt64
/-- sheets: a size and so many ints -/
def dsF (sz : Nat → Int32) (len : Nat → Nat) (g : Nat → Nat → Int32) (h : Int64) : Nat → Int64
  | 0 => h
  | s + 1 => dgF (g s) (31 * dsF sz len g h s + (sz s).toInt64) (len s)
def tlF (σ : St) (u d sp se p k : Nat) : Int32 := match k with
  | 0 => σ.2.1 2 p
  | 1 => σ.2.1 3 p
  | 2 => xkept σ u d sp se p
  | 3 => σ.2.1 4 p
  | _ => nI (fb_ct (fun k => decide (σ.2.1 6 k = nI p)) u)
theorem q_xpeople {σ : St} {n u d sp se : Nat} {h0 : Int64} {post : Int64 → St → Prop} (hL : XLog σ u d sp se) (h6 : σ.1 6 = nI n) (hn : n ≤ 10) (h : post (dpF (tlF σ u d sp se) h0 n) (st_R σ 0 (fb_put (σ.2.1 0) (fun p => xkept σ u d sp se p) 0 n))) : wX9_digestOfPeople σ h0 post := by
  refine q_look hL h6 hn ?_
  have hg : ∀ p, p < n → fb_put (σ.2.1 0) (fun p => xkept σ u d sp se p) 0 n p = xkept σ u d sp se p := fun p hp => by rw [fb_put_in (by omega) (by omega)]; rfl
  obtain ⟨v, hv, hw⟩ := lp_val (Pt := Int64 → Prop) (fun K k i acc => lpX9_digestOfPeople_9 (st_R σ 0 (fb_put (σ.2.1 0) (fun p => xkept σ u d sp se p) 0 n)) K k acc i) (fun K acc => K acc)
    (fun i acc => acc = dpF (tlF σ u d sp se) h0 i) n
    (fun K acc k _ hp2 => by
      rw [lpX9_digestOfPeople_9, st_R1, h6]
      exact ⟨fun _ => hp2, fun h => absurd (nI_le (Nat.le_refl n) (by omega)) h⟩)
    (fun i acc hi hI => by
      refine ⟨_, rfl, fun K k h => ?_⟩
      rw [lpX9_digestOfPeople_9, st_R1, h6]
      refine ⟨fun h2 => absurd h2 (nI_ge hi (by omega)), fun _ => ?_⟩
      simp only [forall_eq, nI_1, nI_clamp (show i < 2 ^ 31 by omega)]
      refine ⟨in10 (by omega), in10 (by omega), in10 (by omega), in10 (by omega), q_xper (σ := st_R σ 0 (fb_put (σ.2.1 0) (fun p => xkept σ u d sp se p) 0 n)) (u := u) hL.1 hL.2.2.2.2.1.1 ?_⟩
      have e0 : (st_R σ 0 (fb_put (σ.2.1 0) (fun p => xkept σ u d sp se p) 0 n)).2.1 0 i = xkept σ u d sp se i := hg i hi
      rw [e0, hI]
      exact h)
    n 0 h0 (by omega) rfl
  exact ⟨_, hw _ (by rw [hv]; exact h)⟩
