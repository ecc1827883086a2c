/-! X8_ofHolding X8_recent X8_seasonal X9_noMarkSet X9_noRightSet X9_person X9_noPerson X9_change X9_keptOf X9_told X9_standby X9_rule -/
def lpX8_ofHolding_5 (u1 : Int32) (u2 : Int32) (σ0 : St) (post : Int32 → Prop) : Nat → Int32 → Int32 → Prop
  | 0, _, _ => False
  | n + 1, v3, v4 => ((σ0.1 7) ≤ v4 → (post v3)) ∧ (¬ (σ0.1 7) ≤ v4 → (vp_in v4 400 ∧ ((¬ (σ0.2.1 6 v4.toNatClampNeg) = u1 → (∀ x1 : Int32, x1 = v4 + (1 : Int32) → (lpX8_ofHolding_5 u1 u2 σ0 post n v3 x1))) ∧ ((σ0.2.1 6 v4.toNatClampNeg) = u1 → (vp_in v4 400 ∧ ((¬ (σ0.2.1 7 v4.toNatClampNeg) = u2 → (∀ x2 : Int32, x2 = v4 + (1 : Int32) → (lpX8_ofHolding_5 u1 u2 σ0 post n v3 x2))) ∧ ((σ0.2.1 7 v4.toNatClampNeg) = u2 → (∀ x3 : Int32, x3 = v3 + (1 : Int32) → (∀ x4 : Int32, x4 = v4 + (1 : Int32) → (lpX8_ofHolding_5 u1 u2 σ0 post n x3 x4))))))))))
def wX8_ofHolding (σ0 : St) (a1 : Int32) (a2 : Int32) (post : Int32 → Prop) : Prop := ∃ n5 : Nat, lpX8_ofHolding_5 a1 a2 σ0 post n5 (0 : Int32) (0 : Int32)
set_option maxHeartbeats 4000000 in
set_option maxRecDepth 100000 in
theorem mtX8_ofHolding (l : Launch) (D : va_G) (ad : Nat → Nat) (cI cJ cZ : ClassId) (A : Nat → Prop) (hD : ∀ σ : St, va_D A (xw ad cI cJ cZ σ)) (σ0 : St) (a1 : Int32) (a2 : Int32) (post : Int32 → Prop) (hw : wX8_ofHolding σ0 a1 a2 post) : Met l yX8_ofHolding wsX8_ofHolding ({ frames := 0, cells := 0, slots := 0, locals := 0 } : Room) (va_Pc [.ref (ad 3), .int a1, .int a2] (wd_pre D (xw ad cI cJ cZ) (wd_tys cI cJ cZ) σ0)) (va_Qi (fun (r : Int32) (u : St) => post r ∧ u = σ0) (wd_B D (xw ad cI cJ cZ)) A) 0 0 A := by
  refine Met.ofW (cc := cX8_ofHolding) (maxL := 5) (ret := (some .int)) (by decide) rfl ?_
  intro p e s m args below meth c s₁ B hml hv
  obtain ⟨rfl, hP, hK, hN⟩ := hv
  have hx := B.exec
  have hb := B.bytes
  have hr := B.returns
  have hts := atoms_spec (ws := wsX8_ofHolding) B.pre
  have hown : s.vm.findClass RX8 = some m.cls := findClass_of_methodNamed B.named
  have hlocks := B.notSynchronized
  have hS : va_S A s.heap s.heap [] := va_S.rf
  have f9 := hts (.fieldLink RX8 9 "LeastRights$UseLog" "size" "I") (by decide +kernel)
  have iX8 : ∀ w ∈ wsX80, w ∈ wsX8_ofHolding := by decide +kernel
  have f15 := hts (.fieldLink RX8 15 "LeastRights$UseLog" "who" "[I") (by decide +kernel)
  have f19 := hts (.fieldLink RX8 19 "LeastRights$UseLog" "which" "[I") (by decide +kernel)
  have L5 : ∀ (u1 : Int32) (u2 : Int32) (n : Nat) (v3 : Int32) (v4 : Int32) (H : Heap) (locs : List Loc) (ls : Array Slot), lpX8_ofHolding_5 u1 u2 σ0 post n v3 v4 → va_P D vwCl (xw ad cI cJ cZ σ0) H → va_S A s.heap H locs → lv_has ls 5 [(0, .ref (ad 3)), (1, .int u1), (2, .int u2), (3, .int v3), (4, .int v4)] → W p l e (headSpec wsX8_ofHolding ({ frames := 0, cells := 0, slots := 0, locals := 0 } : Room)).room s m ([.ref (ad 3), .int a1, .int a2] : List Value).toArray below meth c H locs 0 0 (MQ below (va_Qi (fun (r : Int32) (u : St) => post r ∧ u = σ0) (wd_B D (xw ad cI cJ cZ)) A) ([.ref (ad 3), .int a1, .int a2] : List Value).toArray s 0 0 A) (F0 m 5 ls []) := by
    intro u1 u2 n
    induction n with
    | zero => intro v3 v4 H locs ls hw; exact hw.elim
    | succ n ih =>
      intro v3 v4 H locs ls hw hP hS hl
      rw [lpX8_ofHolding_5] at hw
      refine lv_iload hx hb dX8_ofHolding_5 (lv_at hl 4 rfl) ?_
      refine lv_aload_n hx hb dX8_ofHolding_7 rfl (lv_at hl 0 rfl) ?_
      refine va_get hx hb hts iX8 hown hK hP 3 (xw_q3 ad cI cJ cZ σ0) rfl 0 (by decide) f9 (fun _ h9 => h9) rfl dX8_ofHolding_8 ?_
      refine lv_icmp_ge (tgt := 45) hx hb dX8_ofHolding_11 (by decide) (fun c9 => ?_) (fun c9 => ?_)
      · have hw := hw.1 c9
        refine lv_iload_n hx hb dX8_ofHolding_45 rfl (lv_at hl 3 rfl) ?_
        exact wd_iret hx hb hr hlocks ⟨hw, rfl⟩ hP hS dX8_ofHolding_46
      · have hw := hw.2 c9
        refine lv_aload_n hx hb dX8_ofHolding_14 rfl (lv_at hl 0 rfl) ?_
        refine va_get hx hb hts iX8 hown hK hP 3 (xw_q3 ad cI cJ cZ σ0) rfl 1 (by decide) f15 (fun _ h9 => h9) rfl dX8_ofHolding_15 ?_
        refine lv_iload hx hb dX8_ofHolding_18 (lv_at hl 4 rfl) ?_
        obtain ⟨h9, hw⟩ := hw
        refine va_iald hx hb hK hP 16 0 (xw_q16 ad cI cJ cZ σ0) rfl h9 dX8_ofHolding_20 ?_
        refine lv_iload_n hx hb dX8_ofHolding_21 rfl (lv_at hl 1 rfl) ?_
        refine lv_icmp_ne (tgt := 39) hx hb dX8_ofHolding_22 (by decide) (fun c9 => ?_) (fun c9 => ?_)
        · have hw := hw.1 c9
          obtain ⟨x1, ex1⟩ : ∃ z : Int32, z = v4 + (1 : Int32) := ⟨_, rfl⟩
          refine lv_iinc (v := x1) (lv' := [(4, .int x1), (0, .ref (ad 3)), (1, .int u1), (2, .int u2), (3, .int v3)]) hx hb dX8_ofHolding_39 hl (k := 4) rfl (by rw [ex1]; rfl) (by decide) rfl (fun ls hl => ?_)
          have hw := hw x1 ex1
          refine lv_goto (tgt := 5) hx hb dX8_ofHolding_42 (by decide) ?_
          exact ih _ _ _ _ _ hw hP hS (lv_sub hl [1, 2, 3, 4, 0] rfl)
        · have hw := hw.2 c9
          refine lv_aload_n hx hb dX8_ofHolding_25 rfl (lv_at hl 0 rfl) ?_
          refine va_get hx hb hts iX8 hown hK hP 3 (xw_q3 ad cI cJ cZ σ0) rfl 2 (by decide) f19 (fun _ h9 => h9) rfl dX8_ofHolding_26 ?_
          refine lv_iload hx hb dX8_ofHolding_29 (lv_at hl 4 rfl) ?_
          obtain ⟨h9, hw⟩ := hw
          refine va_iald hx hb hK hP 17 0 (xw_q17 ad cI cJ cZ σ0) rfl h9 dX8_ofHolding_31 ?_
          refine lv_iload_n hx hb dX8_ofHolding_32 rfl (lv_at hl 2 rfl) ?_
          refine lv_icmp_ne (tgt := 39) hx hb dX8_ofHolding_33 (by decide) (fun c9 => ?_) (fun c9 => ?_)
          · have hw := hw.1 c9
            obtain ⟨x2, ex2⟩ : ∃ z : Int32, z = v4 + (1 : Int32) := ⟨_, rfl⟩
            refine lv_iinc (v := x2) (lv' := [(4, .int x2), (0, .ref (ad 3)), (1, .int u1), (2, .int u2), (3, .int v3)]) hx hb dX8_ofHolding_39 hl (k := 4) rfl (by rw [ex2]; rfl) (by decide) rfl (fun ls hl => ?_)
            have hw := hw x2 ex2
            refine lv_goto (tgt := 5) hx hb dX8_ofHolding_42 (by decide) ?_
            exact ih _ _ _ _ _ hw hP hS (lv_sub hl [1, 2, 3, 4, 0] rfl)
          · have hw := hw.2 c9
            obtain ⟨x3, ex3⟩ : ∃ z : Int32, z = v3 + (1 : Int32) := ⟨_, rfl⟩
            refine lv_iinc (v := x3) (lv' := [(3, .int x3), (0, .ref (ad 3)), (1, .int u1), (2, .int u2), (4, .int v4)]) hx hb dX8_ofHolding_36 hl (k := 3) rfl (by rw [ex3]; rfl) (by decide) rfl (fun ls hl => ?_)
            have hw := hw x3 ex3
            obtain ⟨x4, ex4⟩ : ∃ z : Int32, z = v4 + (1 : Int32) := ⟨_, rfl⟩
            refine lv_iinc (v := x4) (lv' := [(4, .int x4), (3, .int x3), (0, .ref (ad 3)), (1, .int u1), (2, .int u2)]) hx hb dX8_ofHolding_39 hl (k := 4) rfl (by rw [ex4]; rfl) (by decide) rfl (fun ls hl => ?_)
            have hw := hw x4 ex4
            refine lv_goto (tgt := 5) hx hb dX8_ofHolding_42 (by decide) ?_
            exact ih _ _ _ _ _ hw hP hS (lv_sub hl [2, 3, 4, 1, 0] rfl)
  have hl := lv_entry ([.ref (ad 3), .int a1, .int a2]) (n := 5) (Nat.le_of_ble_eq_true rfl)
  rw [lg_entry_eq]
  generalize (lg_sl ([.ref (ad 3), .int a1, .int a2]) ++ List.replicate (5 - (lg_sl ([.ref (ad 3), .int a1, .int a2])).length) Slot.unset).toArray = ls at hl ⊢
  have hl : lv_has ls 5 [(0, .ref (ad 3)), (1, .int a1), (2, .int a2)] := hl
  unfold wX8_ofHolding at hw
  refine lv_iconst (v := 0) hx hb dX8_ofHolding_0 (by decide) ?_
  refine lv_istore_n (lv' := [(3, .int (0 : Int32)), (0, .ref (ad 3)), (1, .int a1), (2, .int a2)]) hx hb dX8_ofHolding_1 rfl hl (by decide) rfl (fun ls hl => ?_)
  refine lv_iconst (v := 0) hx hb dX8_ofHolding_2 (by decide) ?_
  refine lv_istore (lv' := [(4, .int (0 : Int32)), (3, .int (0 : Int32)), (0, .ref (ad 3)), (1, .int a1), (2, .int a2)]) hx hb dX8_ofHolding_3 hl (by decide) rfl (fun ls hl => ?_)
  obtain ⟨n9, hw⟩ := hw
  refine L5 a1 a2 n9 (0 : Int32) (0 : Int32) _ _ _ hw hP hS (lv_sub hl [2, 3, 4, 1, 0] rfl)
def lpX8_recent_5 (u1 : Int32) (σ0 : St) (post : Int32 → Prop) : Nat → Int32 → Int32 → Prop
  | 0, _, _ => False
  | n + 1, v3, v4 => ((σ0.1 7) ≤ v4 → (post v3)) ∧ (¬ (σ0.1 7) ≤ v4 → (vp_in v4 400 ∧ ((¬ (σ0.2.1 6 v4.toNatClampNeg) = u1 → (∀ x1 : Int32, x1 = v4 + (1 : Int32) → (lpX8_recent_5 u1 σ0 post n v3 x1))) ∧ ((σ0.2.1 6 v4.toNatClampNeg) = u1 → (vp_in v4 400 ∧ (wX2_isWithinLast σ0 (σ0.2.1 8 v4.toNatClampNeg) (σ0.1 3) (fun (r2 : Int32) => (r2 = 0 → (∀ x3 : Int32, x3 = v4 + (1 : Int32) → (lpX8_recent_5 u1 σ0 post n v3 x3))) ∧ (¬ r2 = 0 → (vp_in v4 400 ∧ (∀ x4 : Int32, x4 = (v3 ||| ((1 : Int32) <<< ((σ0.2.1 7 v4.toNatClampNeg) &&& 31))) → (∀ x5 : Int32, x5 = v4 + (1 : Int32) → (lpX8_recent_5 u1 σ0 post n x4 x5))))))))))))
def wX8_recent (σ0 : St) (a1 : Int32) (post : Int32 → Prop) : Prop := ∃ n6 : Nat, lpX8_recent_5 a1 σ0 post n6 (0 : Int32) (0 : Int32)
set_option maxHeartbeats 4000000 in
set_option maxRecDepth 100000 in
theorem mtX8_recent (l : Launch) (D : va_G) (ad : Nat → Nat) (cI cJ cZ : ClassId) (A : Nat → Prop) (hD : ∀ σ : St, va_D A (xw ad cI cJ cZ σ)) (σ0 : St) (a1 : Int32) (post : Int32 → Prop) (hw : wX8_recent σ0 a1 post) : Met l yX8_recent wsX8_recent ({ frames := 1, cells := 0, slots := 0, locals := 22 } : Room) (va_Pc [.ref (ad 3), .int a1, .ref (ad 1)] (wd_pre D (xw ad cI cJ cZ) (wd_tys cI cJ cZ) σ0)) (va_Qi (fun (r : Int32) (u : St) => post r ∧ u = σ0) (wd_B D (xw ad cI cJ cZ)) A) 0 0 A := by
  refine Met.ofW (cc := cX8_recent) (maxL := 5) (ret := (some .int)) (by decide) rfl ?_
  intro p e s m args below meth c s₁ B hml hv
  obtain ⟨rfl, hP, hK, hN⟩ := hv
  have hx := B.exec
  have hb := B.bytes
  have hr := B.returns
  have hts := atoms_spec (ws := wsX8_recent) B.pre
  have hown : s.vm.findClass RX8 = some m.cls := findClass_of_methodNamed B.named
  have hlocks := B.notSynchronized
  have hS : va_S A s.heap s.heap [] := va_S.rf
  have f9 := hts (.fieldLink RX8 9 "LeastRights$UseLog" "size" "I") (by decide +kernel)
  have iX8 : ∀ w ∈ wsX80, w ∈ wsX8_recent := by decide +kernel
  have f15 := hts (.fieldLink RX8 15 "LeastRights$UseLog" "who" "[I") (by decide +kernel)
  have f22 := hts (.fieldLink RX8 22 "LeastRights$UseLog" "when" "[I") (by decide +kernel)
  have n25 := va_Nw.use (A := ([.ref (ad 3), .int a1, .ref (ad 1)] : List Value).toArray) rfl (hN.1 ("LeastRights$UseLog", 25, "LeastRights$Days", "span", "I") (by decide +kernel))
  have iX2 : ∀ w ∈ wsX20, w ∈ wsX8_recent := by decide +kernel
  have f19 := hts (.fieldLink RX8 19 "LeastRights$UseLog" "which" "[I") (by decide +kernel)
  have L5 : ∀ (u1 : Int32) (n : Nat) (v3 : Int32) (v4 : Int32) (H : Heap) (locs : List Loc) (ls : Array Slot), lpX8_recent_5 u1 σ0 post n v3 v4 → va_P D vwCl (xw ad cI cJ cZ σ0) H → va_S A s.heap H locs → lv_has ls 5 [(0, .ref (ad 3)), (2, .ref (ad 1)), (1, .int u1), (3, .int v3), (4, .int v4)] → W p l e (headSpec wsX8_recent ({ frames := 1, cells := 0, slots := 0, locals := 22 } : Room)).room s m ([.ref (ad 3), .int a1, .ref (ad 1)] : List Value).toArray below meth c H locs 0 0 (MQ below (va_Qi (fun (r : Int32) (u : St) => post r ∧ u = σ0) (wd_B D (xw ad cI cJ cZ)) A) ([.ref (ad 3), .int a1, .ref (ad 1)] : List Value).toArray s 0 0 A) (F0 m 5 ls []) := by
    intro u1 n
    induction n with
    | zero => intro v3 v4 H locs ls hw; exact hw.elim
    | succ n ih =>
      intro v3 v4 H locs ls hw hP hS hl
      rw [lpX8_recent_5] at hw
      refine lv_iload hx hb dX8_recent_5 (lv_at hl 4 rfl) ?_
      refine lv_aload_n hx hb dX8_recent_7 rfl (lv_at hl 0 rfl) ?_
      refine va_get hx hb hts iX8 hown hK hP 3 (xw_q3 ad cI cJ cZ σ0) rfl 0 (by decide) f9 (fun _ h9 => h9) rfl dX8_recent_8 ?_
      refine lv_icmp_ge (tgt := 61) hx hb dX8_recent_11 (by decide) (fun c9 => ?_) (fun c9 => ?_)
      · have hw := hw.1 c9
        refine lv_iload_n hx hb dX8_recent_61 rfl (lv_at hl 3 rfl) ?_
        exact wd_iret hx hb hr hlocks ⟨hw, rfl⟩ hP hS dX8_recent_62
      · have hw := hw.2 c9
        refine lv_aload_n hx hb dX8_recent_14 rfl (lv_at hl 0 rfl) ?_
        refine va_get hx hb hts iX8 hown hK hP 3 (xw_q3 ad cI cJ cZ σ0) rfl 1 (by decide) f15 (fun _ h9 => h9) rfl dX8_recent_15 ?_
        refine lv_iload hx hb dX8_recent_18 (lv_at hl 4 rfl) ?_
        obtain ⟨h9, hw⟩ := hw
        refine va_iald hx hb hK hP 16 0 (xw_q16 ad cI cJ cZ σ0) rfl h9 dX8_recent_20 ?_
        refine lv_iload_n hx hb dX8_recent_21 rfl (lv_at hl 2 rfl) ?_
        refine lv_icmp_ne (tgt := 55) hx hb dX8_recent_22 (by decide) (fun c9 => ?_) (fun c9 => ?_)
        · have hw := hw.1 c9
          obtain ⟨x1, ex1⟩ : ∃ z : Int32, z = v4 + (1 : Int32) := ⟨_, rfl⟩
          refine lv_iinc (v := x1) (lv' := [(4, .int x1), (0, .ref (ad 3)), (2, .ref (ad 1)), (1, .int u1), (3, .int v3)]) hx hb dX8_recent_55 hl (k := 4) rfl (by rw [ex1]; rfl) (by decide) rfl (fun ls hl => ?_)
          have hw := hw x1 ex1
          refine lv_goto (tgt := 5) hx hb dX8_recent_58 (by decide) ?_
          exact ih _ _ _ _ _ hw hP hS (lv_sub hl [1, 2, 3, 4, 0] rfl)
        · have hw := hw.2 c9
          refine lv_aload_n hx hb dX8_recent_25 rfl (lv_at hl 1 rfl) ?_
          refine lv_aload_n hx hb dX8_recent_26 rfl (lv_at hl 0 rfl) ?_
          refine va_get hx hb hts iX8 hown hK hP 3 (xw_q3 ad cI cJ cZ σ0) rfl 3 (by decide) f22 (fun _ h9 => h9) rfl dX8_recent_27 ?_
          refine lv_iload hx hb dX8_recent_30 (lv_at hl 4 rfl) ?_
          obtain ⟨h9, hw⟩ := hw
          refine va_iald hx hb hK hP 18 0 (xw_q18 ad cI cJ cZ σ0) rfl h9 dX8_recent_32 ?_
          refine lv_aload_n hx hb dX8_recent_33 rfl (lv_at hl 1 rfl) ?_
          refine va_getN hx hb hts iX2 hown hK hP 1 (xw_q1 ad cI cJ cZ σ0) rfl 1 (by decide) n25 (fun _ h9 => h9) rfl dX8_recent_34 ?_
          refine wd_cVi ⟨hx, hb, hml, hown, hts⟩ (mtX2_isWithinLast l D ad cI cJ cZ A hD σ0 (σ0.2.1 8 v4.toNatClampNeg) (σ0.1 3) _ hw) (cwV 2 hts gX8_recent_X2_isWithinLast rfl rfl rfl (by decide +kernel) ⟨(Nat.le_of_ble_eq_true rfl), (Nat.le_of_ble_eq_true rfl)⟩) (va_recv hK hP (ci := 2) (q0 := 1) rfl (xw_q1 ad cI cJ cZ σ0)) hK hN hP hS rfl hl.1 rfl (Nat.le_of_ble_eq_true rfl) dX8_recent_37 ⟨Nat.zero_le _, Nat.zero_le _⟩ (fun r2 u9 H locs hq hP hS => ?_)
          obtain ⟨hw, hu⟩ := hq
          rw [hu] at hP
          refine lv_if_eq (tgt := 55) hx hb dX8_recent_40 (by decide) (fun c9 => ?_) (fun c9 => ?_)
          · have hw := hw.1 c9
            obtain ⟨x3, ex3⟩ : ∃ z : Int32, z = v4 + (1 : Int32) := ⟨_, rfl⟩
            refine lv_iinc (v := x3) (lv' := [(4, .int x3), (0, .ref (ad 3)), (2, .ref (ad 1)), (1, .int u1), (3, .int v3)]) hx hb dX8_recent_55 hl (k := 4) rfl (by rw [ex3]; rfl) (by decide) rfl (fun ls hl => ?_)
            have hw := hw x3 ex3
            refine lv_goto (tgt := 5) hx hb dX8_recent_58 (by decide) ?_
            exact ih _ _ _ _ _ hw hP hS (lv_sub hl [1, 2, 3, 4, 0] rfl)
          · have hw := hw.2 c9
            refine lv_iload_n hx hb dX8_recent_43 rfl (lv_at hl 3 rfl) ?_
            refine lv_iconst (v := 1) hx hb dX8_recent_44 (by decide) ?_
            refine lv_aload_n hx hb dX8_recent_45 rfl (lv_at hl 0 rfl) ?_
            refine va_get hx hb hts iX8 hown hK hP 3 (xw_q3 ad cI cJ cZ σ0) rfl 2 (by decide) f19 (fun _ h9 => h9) rfl dX8_recent_46 ?_
            refine lv_iload hx hb dX8_recent_49 (lv_at hl 4 rfl) ?_
            obtain ⟨h9, hw⟩ := hw
            refine va_iald hx hb hK hP 17 0 (xw_q17 ad cI cJ cZ σ0) rfl h9 dX8_recent_51 ?_
            refine lv_ishl hx hb dX8_recent_52 ?_
            refine lv_ior hx hb dX8_recent_53 ?_
            refine lv_topi (fun x4 ex4 => ?_)
            have hw := hw x4 ex4
            refine lv_istore_n (lv' := [(3, .int x4), (0, .ref (ad 3)), (2, .ref (ad 1)), (1, .int u1), (4, .int v4)]) hx hb dX8_recent_54 rfl hl (by decide) rfl (fun ls hl => ?_)
            obtain ⟨x5, ex5⟩ : ∃ z : Int32, z = v4 + (1 : Int32) := ⟨_, rfl⟩
            refine lv_iinc (v := x5) (lv' := [(4, .int x5), (3, .int x4), (0, .ref (ad 3)), (2, .ref (ad 1)), (1, .int u1)]) hx hb dX8_recent_55 hl (k := 4) rfl (by rw [ex5]; rfl) (by decide) rfl (fun ls hl => ?_)
            have hw := hw x5 ex5
            refine lv_goto (tgt := 5) hx hb dX8_recent_58 (by decide) ?_
            exact ih _ _ _ _ _ hw hP hS (lv_sub hl [2, 3, 4, 1, 0] rfl)
  have hl := lv_entry ([.ref (ad 3), .int a1, .ref (ad 1)]) (n := 5) (Nat.le_of_ble_eq_true rfl)
  rw [lg_entry_eq]
  generalize (lg_sl ([.ref (ad 3), .int a1, .ref (ad 1)]) ++ List.replicate (5 - (lg_sl ([.ref (ad 3), .int a1, .ref (ad 1)])).length) Slot.unset).toArray = ls at hl ⊢
  have hl : lv_has ls 5 [(0, .ref (ad 3)), (1, .int a1), (2, .ref (ad 1))] := hl
  unfold wX8_recent at hw
  refine lv_iconst (v := 0) hx hb dX8_recent_0 (by decide) ?_
  refine lv_istore_n (lv' := [(3, .int (0 : Int32)), (0, .ref (ad 3)), (1, .int a1), (2, .ref (ad 1))]) hx hb dX8_recent_1 rfl hl (by decide) rfl (fun ls hl => ?_)
  refine lv_iconst (v := 0) hx hb dX8_recent_2 (by decide) ?_
  refine lv_istore (lv' := [(4, .int (0 : Int32)), (3, .int (0 : Int32)), (0, .ref (ad 3)), (1, .int a1), (2, .ref (ad 1))]) hx hb dX8_recent_3 hl (by decide) rfl (fun ls hl => ?_)
  obtain ⟨n9, hw⟩ := hw
  refine L5 a1 n9 (0 : Int32) (0 : Int32) _ _ _ hw hP hS (lv_sub hl [2, 4, 3, 1, 0] rfl)
def lpX8_seasonal_5 (u1 : Int32) (σ0 : St) (post : Int32 → Prop) : Nat → Int32 → Int32 → Prop
  | 0, _, _ => False
  | n + 1, v3, v4 => ((σ0.1 7) ≤ v4 → (post v3)) ∧ (¬ (σ0.1 7) ≤ v4 → (vp_in v4 400 ∧ ((¬ (σ0.2.1 6 v4.toNatClampNeg) = u1 → (((0 : Int32) = 0 → (∀ x1 : Int32, x1 = v4 + (1 : Int32) → (lpX8_seasonal_5 u1 σ0 post n v3 x1))) ∧ (¬ (0 : Int32) = 0 → (vp_in v4 400 ∧ (wX2_comesRound σ0 (σ0.2.1 8 v4.toNatClampNeg) (fun (r2 : Int32) => (r2 = 0 → (∀ x3 : Int32, x3 = v4 + (1 : Int32) → (lpX8_seasonal_5 u1 σ0 post n v3 x3))) ∧ (¬ r2 = 0 → (vp_in v4 400 ∧ (∀ x4 : Int32, x4 = (v3 ||| ((1 : Int32) <<< ((σ0.2.1 7 v4.toNatClampNeg) &&& 31))) → (∀ x5 : Int32, x5 = v4 + (1 : Int32) → (lpX8_seasonal_5 u1 σ0 post n x4 x5))))))))))) ∧ ((σ0.2.1 6 v4.toNatClampNeg) = u1 → (vp_in v4 400 ∧ (wX2_isWithinLast σ0 (σ0.2.1 8 v4.toNatClampNeg) (σ0.1 3) (fun (r6 : Int32) => (¬ r6 = 0 → (((0 : Int32) = 0 → (∀ x7 : Int32, x7 = v4 + (1 : Int32) → (lpX8_seasonal_5 u1 σ0 post n v3 x7))) ∧ (¬ (0 : Int32) = 0 → (vp_in v4 400 ∧ (wX2_comesRound σ0 (σ0.2.1 8 v4.toNatClampNeg) (fun (r8 : Int32) => (r8 = 0 → (∀ x9 : Int32, x9 = v4 + (1 : Int32) → (lpX8_seasonal_5 u1 σ0 post n v3 x9))) ∧ (¬ r8 = 0 → (vp_in v4 400 ∧ (∀ x10 : Int32, x10 = (v3 ||| ((1 : Int32) <<< ((σ0.2.1 7 v4.toNatClampNeg) &&& 31))) → (∀ x11 : Int32, x11 = v4 + (1 : Int32) → (lpX8_seasonal_5 u1 σ0 post n x10 x11))))))))))) ∧ (r6 = 0 → (((1 : Int32) = 0 → (∀ x12 : Int32, x12 = v4 + (1 : Int32) → (lpX8_seasonal_5 u1 σ0 post n v3 x12))) ∧ (¬ (1 : Int32) = 0 → (vp_in v4 400 ∧ (wX2_comesRound σ0 (σ0.2.1 8 v4.toNatClampNeg) (fun (r13 : Int32) => (r13 = 0 → (∀ x14 : Int32, x14 = v4 + (1 : Int32) → (lpX8_seasonal_5 u1 σ0 post n v3 x14))) ∧ (¬ r13 = 0 → (vp_in v4 400 ∧ (∀ x15 : Int32, x15 = (v3 ||| ((1 : Int32) <<< ((σ0.2.1 7 v4.toNatClampNeg) &&& 31))) → (∀ x16 : Int32, x16 = v4 + (1 : Int32) → (lpX8_seasonal_5 u1 σ0 post n x15 x16))))))))))))))))))
def wX8_seasonal (σ0 : St) (a1 : Int32) (post : Int32 → Prop) : Prop := ∃ n17 : Nat, lpX8_seasonal_5 a1 σ0 post n17 (0 : Int32) (0 : Int32)
set_option maxHeartbeats 4000000 in
set_option maxRecDepth 100000 in
theorem mtX8_seasonal (l : Launch) (D : va_G) (ad : Nat → Nat) (cI cJ cZ : ClassId) (A : Nat → Prop) (hD : ∀ σ : St, va_D A (xw ad cI cJ cZ σ)) (σ0 : St) (a1 : Int32) (post : Int32 → Prop) (hw : wX8_seasonal σ0 a1 post) : Met l yX8_seasonal wsX8_seasonal ({ frames := 1, cells := 0, slots := 0, locals := 23 } : Room) (va_Pc [.ref (ad 3), .int a1, .ref (ad 1)] (wd_pre D (xw ad cI cJ cZ) (wd_tys cI cJ cZ) σ0)) (va_Qi (fun (r : Int32) (u : St) => post r ∧ u = σ0) (wd_B D (xw ad cI cJ cZ)) A) 0 0 A := by
  refine Met.ofW (cc := cX8_seasonal) (maxL := 6) (ret := (some .int)) (by decide) rfl ?_
  intro p e s m args below meth c s₁ B hml hv
  obtain ⟨rfl, hP, hK, hN⟩ := hv
  have hx := B.exec
  have hb := B.bytes
  have hr := B.returns
  have hts := atoms_spec (ws := wsX8_seasonal) B.pre
  have hown : s.vm.findClass RX8 = some m.cls := findClass_of_methodNamed B.named
  have hlocks := B.notSynchronized
  have hS : va_S A s.heap s.heap [] := va_S.rf
  have f9 := hts (.fieldLink RX8 9 "LeastRights$UseLog" "size" "I") (by decide +kernel)
  have iX8 : ∀ w ∈ wsX80, w ∈ wsX8_seasonal := by decide +kernel
  have f15 := hts (.fieldLink RX8 15 "LeastRights$UseLog" "who" "[I") (by decide +kernel)
  have f22 := hts (.fieldLink RX8 22 "LeastRights$UseLog" "when" "[I") (by decide +kernel)
  have f19 := hts (.fieldLink RX8 19 "LeastRights$UseLog" "which" "[I") (by decide +kernel)
  have n25 := va_Nw.use (A := ([.ref (ad 3), .int a1, .ref (ad 1)] : List Value).toArray) rfl (hN.1 ("LeastRights$UseLog", 25, "LeastRights$Days", "span", "I") (by decide +kernel))
  have iX2 : ∀ w ∈ wsX20, w ∈ wsX8_seasonal := by decide +kernel
  have L5 : ∀ (u1 : Int32) (n : Nat) (v3 : Int32) (v4 : Int32) (H : Heap) (locs : List Loc) (ls : Array Slot), lpX8_seasonal_5 u1 σ0 post n v3 v4 → va_P D vwCl (xw ad cI cJ cZ σ0) H → va_S A s.heap H locs → lv_has ls 6 [(0, .ref (ad 3)), (2, .ref (ad 1)), (1, .int u1), (3, .int v3), (4, .int v4)] → W p l e (headSpec wsX8_seasonal ({ frames := 1, cells := 0, slots := 0, locals := 23 } : Room)).room s m ([.ref (ad 3), .int a1, .ref (ad 1)] : List Value).toArray below meth c H locs 0 0 (MQ below (va_Qi (fun (r : Int32) (u : St) => post r ∧ u = σ0) (wd_B D (xw ad cI cJ cZ)) A) ([.ref (ad 3), .int a1, .ref (ad 1)] : List Value).toArray s 0 0 A) (F0 m 5 ls []) := by
    intro u1 n
    induction n with
    | zero => intro v3 v4 H locs ls hw; exact hw.elim
    | succ n ih =>
      intro v3 v4 H locs ls hw hP hS hl
      rw [lpX8_seasonal_5] at hw
      refine lv_iload hx hb dX8_seasonal_5 (lv_at hl 4 rfl) ?_
      refine lv_aload_n hx hb dX8_seasonal_7 rfl (lv_at hl 0 rfl) ?_
      refine va_get hx hb hts iX8 hown hK hP 3 (xw_q3 ad cI cJ cZ σ0) rfl 0 (by decide) f9 (fun _ h9 => h9) rfl dX8_seasonal_8 ?_
      refine lv_icmp_ge (tgt := 87) hx hb dX8_seasonal_11 (by decide) (fun c9 => ?_) (fun c9 => ?_)
      · have hw := hw.1 c9
        refine lv_iload_n hx hb dX8_seasonal_87 rfl (lv_at hl 3 rfl) ?_
        exact wd_iret hx hb hr hlocks ⟨hw, rfl⟩ hP hS dX8_seasonal_88
      · have hw := hw.2 c9
        refine lv_aload_n hx hb dX8_seasonal_14 rfl (lv_at hl 0 rfl) ?_
        refine va_get hx hb hts iX8 hown hK hP 3 (xw_q3 ad cI cJ cZ σ0) rfl 1 (by decide) f15 (fun _ h9 => h9) rfl dX8_seasonal_15 ?_
        refine lv_iload hx hb dX8_seasonal_18 (lv_at hl 4 rfl) ?_
        obtain ⟨h9, hw⟩ := hw
        refine va_iald hx hb hK hP 16 0 (xw_q16 ad cI cJ cZ σ0) rfl h9 dX8_seasonal_20 ?_
        refine lv_iload_n hx hb dX8_seasonal_21 rfl (lv_at hl 2 rfl) ?_
        refine lv_icmp_ne (tgt := 47) hx hb dX8_seasonal_22 (by decide) (fun c9 => ?_) (fun c9 => ?_)
        · have hw := hw.1 c9
          refine lv_iconst (v := 0) hx hb dX8_seasonal_47 (by decide) ?_
          refine lv_istore (lv' := [(5, .int (0 : Int32)), (0, .ref (ad 3)), (2, .ref (ad 1)), (1, .int u1), (3, .int v3), (4, .int v4)]) hx hb dX8_seasonal_48 hl (by decide) rfl (fun ls hl => ?_)
          refine lv_iload hx hb dX8_seasonal_50 (lv_at hl 0 rfl) ?_
          refine lv_if_eq (tgt := 81) hx hb dX8_seasonal_52 (by decide) (fun c9 => ?_) (fun c9 => ?_)
          · have hw := hw.1 c9
            obtain ⟨x1, ex1⟩ : ∃ z : Int32, z = v4 + (1 : Int32) := ⟨_, rfl⟩
            refine lv_iinc (v := x1) (lv' := [(4, .int x1), (5, .int (0 : Int32)), (0, .ref (ad 3)), (2, .ref (ad 1)), (1, .int u1), (3, .int v3)]) hx hb dX8_seasonal_81 hl (k := 5) rfl (by rw [ex1]; rfl) (by decide) rfl (fun ls hl => ?_)
            have hw := hw x1 ex1
            refine lv_goto (tgt := 5) hx hb dX8_seasonal_84 (by decide) ?_
            exact ih _ _ _ _ _ hw hP hS (lv_sub hl [2, 3, 4, 5, 0] rfl)
          · have hw := hw.2 c9
            refine lv_aload_n hx hb dX8_seasonal_55 rfl (lv_at hl 2 rfl) ?_
            refine lv_aload_n hx hb dX8_seasonal_56 rfl (lv_at hl 1 rfl) ?_
            refine va_get hx hb hts iX8 hown hK hP 3 (xw_q3 ad cI cJ cZ σ0) rfl 3 (by decide) f22 (fun _ h9 => h9) rfl dX8_seasonal_57 ?_
            refine lv_iload hx hb dX8_seasonal_60 (lv_at hl 5 rfl) ?_
            obtain ⟨h9, hw⟩ := hw
            refine va_iald hx hb hK hP 18 0 (xw_q18 ad cI cJ cZ σ0) rfl h9 dX8_seasonal_62 ?_
            refine wd_cVi ⟨hx, hb, hml, hown, hts⟩ (mtX2_comesRound l D ad cI cJ cZ A hD σ0 (σ0.2.1 8 v4.toNatClampNeg) _ hw) (cwV 1 hts gX8_seasonal_X2_comesRound rfl rfl rfl (by decide +kernel) ⟨(Nat.le_of_ble_eq_true rfl), (Nat.le_of_ble_eq_true rfl)⟩) (va_recv hK hP (ci := 2) (q0 := 1) rfl (xw_q1 ad cI cJ cZ σ0)) hK hN hP hS rfl hl.1 rfl (Nat.le_of_ble_eq_true rfl) dX8_seasonal_63 ⟨Nat.zero_le _, Nat.zero_le _⟩ (fun r2 u9 H locs hq hP hS => ?_)
            obtain ⟨hw, hu⟩ := hq
            rw [hu] at hP
            refine lv_if_eq (tgt := 81) hx hb dX8_seasonal_66 (by decide) (fun c9 => ?_) (fun c9 => ?_)
            · have hw := hw.1 c9
              obtain ⟨x3, ex3⟩ : ∃ z : Int32, z = v4 + (1 : Int32) := ⟨_, rfl⟩
              refine lv_iinc (v := x3) (lv' := [(4, .int x3), (5, .int (0 : Int32)), (0, .ref (ad 3)), (2, .ref (ad 1)), (1, .int u1), (3, .int v3)]) hx hb dX8_seasonal_81 hl (k := 5) rfl (by rw [ex3]; rfl) (by decide) rfl (fun ls hl => ?_)
              have hw := hw x3 ex3
              refine lv_goto (tgt := 5) hx hb dX8_seasonal_84 (by decide) ?_
              exact ih _ _ _ _ _ hw hP hS (lv_sub hl [2, 3, 4, 5, 0] rfl)
            · have hw := hw.2 c9
              refine lv_iload_n hx hb dX8_seasonal_69 rfl (lv_at hl 4 rfl) ?_
              refine lv_iconst (v := 1) hx hb dX8_seasonal_70 (by decide) ?_
              refine lv_aload_n hx hb dX8_seasonal_71 rfl (lv_at hl 1 rfl) ?_
              refine va_get hx hb hts iX8 hown hK hP 3 (xw_q3 ad cI cJ cZ σ0) rfl 2 (by decide) f19 (fun _ h9 => h9) rfl dX8_seasonal_72 ?_
              refine lv_iload hx hb dX8_seasonal_75 (lv_at hl 5 rfl) ?_
              obtain ⟨h9, hw⟩ := hw
              refine va_iald hx hb hK hP 17 0 (xw_q17 ad cI cJ cZ σ0) rfl h9 dX8_seasonal_77 ?_
              refine lv_ishl hx hb dX8_seasonal_78 ?_
              refine lv_ior hx hb dX8_seasonal_79 ?_
              refine lv_topi (fun x4 ex4 => ?_)
              have hw := hw x4 ex4
              refine lv_istore_n (lv' := [(3, .int x4), (5, .int (0 : Int32)), (0, .ref (ad 3)), (2, .ref (ad 1)), (1, .int u1), (4, .int v4)]) hx hb dX8_seasonal_80 rfl hl (by decide) rfl (fun ls hl => ?_)
              obtain ⟨x5, ex5⟩ : ∃ z : Int32, z = v4 + (1 : Int32) := ⟨_, rfl⟩
              refine lv_iinc (v := x5) (lv' := [(4, .int x5), (3, .int x4), (5, .int (0 : Int32)), (0, .ref (ad 3)), (2, .ref (ad 1)), (1, .int u1)]) hx hb dX8_seasonal_81 hl (k := 5) rfl (by rw [ex5]; rfl) (by decide) rfl (fun ls hl => ?_)
              have hw := hw x5 ex5
              refine lv_goto (tgt := 5) hx hb dX8_seasonal_84 (by decide) ?_
              exact ih _ _ _ _ _ hw hP hS (lv_sub hl [3, 4, 5, 1, 0] rfl)
        · have hw := hw.2 c9
          refine lv_aload_n hx hb dX8_seasonal_25 rfl (lv_at hl 1 rfl) ?_
          refine lv_aload_n hx hb dX8_seasonal_26 rfl (lv_at hl 0 rfl) ?_
          refine va_get hx hb hts iX8 hown hK hP 3 (xw_q3 ad cI cJ cZ σ0) rfl 3 (by decide) f22 (fun _ h9 => h9) rfl dX8_seasonal_27 ?_
          refine lv_iload hx hb dX8_seasonal_30 (lv_at hl 4 rfl) ?_
          obtain ⟨h9, hw⟩ := hw
          refine va_iald hx hb hK hP 18 0 (xw_q18 ad cI cJ cZ σ0) rfl h9 dX8_seasonal_32 ?_
          refine lv_aload_n hx hb dX8_seasonal_33 rfl (lv_at hl 1 rfl) ?_
          refine va_getN hx hb hts iX2 hown hK hP 1 (xw_q1 ad cI cJ cZ σ0) rfl 1 (by decide) n25 (fun _ h9 => h9) rfl dX8_seasonal_34 ?_
          refine wd_cVi ⟨hx, hb, hml, hown, hts⟩ (mtX2_isWithinLast l D ad cI cJ cZ A hD σ0 (σ0.2.1 8 v4.toNatClampNeg) (σ0.1 3) _ hw) (cwV 2 hts gX8_seasonal_X2_isWithinLast rfl rfl rfl (by decide +kernel) ⟨(Nat.le_of_ble_eq_true rfl), (Nat.le_of_ble_eq_true rfl)⟩) (va_recv hK hP (ci := 2) (q0 := 1) rfl (xw_q1 ad cI cJ cZ σ0)) hK hN hP hS rfl hl.1 rfl (Nat.le_of_ble_eq_true rfl) dX8_seasonal_37 ⟨Nat.zero_le _, Nat.zero_le _⟩ (fun r6 u9 H locs hq hP hS => ?_)
          obtain ⟨hw, hu⟩ := hq
          rw [hu] at hP
          refine lv_if_ne (tgt := 47) hx hb dX8_seasonal_40 (by decide) (fun c9 => ?_) (fun c9 => ?_)
          · have hw := hw.1 c9
            refine lv_iconst (v := 0) hx hb dX8_seasonal_47 (by decide) ?_
            refine lv_istore (lv' := [(5, .int (0 : Int32)), (0, .ref (ad 3)), (2, .ref (ad 1)), (1, .int u1), (3, .int v3), (4, .int v4)]) hx hb dX8_seasonal_48 hl (by decide) rfl (fun ls hl => ?_)
            refine lv_iload hx hb dX8_seasonal_50 (lv_at hl 0 rfl) ?_
            refine lv_if_eq (tgt := 81) hx hb dX8_seasonal_52 (by decide) (fun c9 => ?_) (fun c9 => ?_)
            · have hw := hw.1 c9
              obtain ⟨x7, ex7⟩ : ∃ z : Int32, z = v4 + (1 : Int32) := ⟨_, rfl⟩
              refine lv_iinc (v := x7) (lv' := [(4, .int x7), (5, .int (0 : Int32)), (0, .ref (ad 3)), (2, .ref (ad 1)), (1, .int u1), (3, .int v3)]) hx hb dX8_seasonal_81 hl (k := 5) rfl (by rw [ex7]; rfl) (by decide) rfl (fun ls hl => ?_)
              have hw := hw x7 ex7
              refine lv_goto (tgt := 5) hx hb dX8_seasonal_84 (by decide) ?_
              exact ih _ _ _ _ _ hw hP hS (lv_sub hl [2, 3, 4, 5, 0] rfl)
            · have hw := hw.2 c9
              refine lv_aload_n hx hb dX8_seasonal_55 rfl (lv_at hl 2 rfl) ?_
              refine lv_aload_n hx hb dX8_seasonal_56 rfl (lv_at hl 1 rfl) ?_
              refine va_get hx hb hts iX8 hown hK hP 3 (xw_q3 ad cI cJ cZ σ0) rfl 3 (by decide) f22 (fun _ h9 => h9) rfl dX8_seasonal_57 ?_
              refine lv_iload hx hb dX8_seasonal_60 (lv_at hl 5 rfl) ?_
              obtain ⟨h9, hw⟩ := hw
              refine va_iald hx hb hK hP 18 0 (xw_q18 ad cI cJ cZ σ0) rfl h9 dX8_seasonal_62 ?_
              refine wd_cVi ⟨hx, hb, hml, hown, hts⟩ (mtX2_comesRound l D ad cI cJ cZ A hD σ0 (σ0.2.1 8 v4.toNatClampNeg) _ hw) (cwV 1 hts gX8_seasonal_X2_comesRound rfl rfl rfl (by decide +kernel) ⟨(Nat.le_of_ble_eq_true rfl), (Nat.le_of_ble_eq_true rfl)⟩) (va_recv hK hP (ci := 2) (q0 := 1) rfl (xw_q1 ad cI cJ cZ σ0)) hK hN hP hS rfl hl.1 rfl (Nat.le_of_ble_eq_true rfl) dX8_seasonal_63 ⟨Nat.zero_le _, Nat.zero_le _⟩ (fun r8 u9 H locs hq hP hS => ?_)
              obtain ⟨hw, hu⟩ := hq
              rw [hu] at hP
              refine lv_if_eq (tgt := 81) hx hb dX8_seasonal_66 (by decide) (fun c9 => ?_) (fun c9 => ?_)
              · have hw := hw.1 c9
                obtain ⟨x9, ex9⟩ : ∃ z : Int32, z = v4 + (1 : Int32) := ⟨_, rfl⟩
                refine lv_iinc (v := x9) (lv' := [(4, .int x9), (5, .int (0 : Int32)), (0, .ref (ad 3)), (2, .ref (ad 1)), (1, .int u1), (3, .int v3)]) hx hb dX8_seasonal_81 hl (k := 5) rfl (by rw [ex9]; rfl) (by decide) rfl (fun ls hl => ?_)
                have hw := hw x9 ex9
                refine lv_goto (tgt := 5) hx hb dX8_seasonal_84 (by decide) ?_
                exact ih _ _ _ _ _ hw hP hS (lv_sub hl [2, 3, 4, 5, 0] rfl)
              · have hw := hw.2 c9
                refine lv_iload_n hx hb dX8_seasonal_69 rfl (lv_at hl 4 rfl) ?_
                refine lv_iconst (v := 1) hx hb dX8_seasonal_70 (by decide) ?_
                refine lv_aload_n hx hb dX8_seasonal_71 rfl (lv_at hl 1 rfl) ?_
                refine va_get hx hb hts iX8 hown hK hP 3 (xw_q3 ad cI cJ cZ σ0) rfl 2 (by decide) f19 (fun _ h9 => h9) rfl dX8_seasonal_72 ?_
                refine lv_iload hx hb dX8_seasonal_75 (lv_at hl 5 rfl) ?_
                obtain ⟨h9, hw⟩ := hw
                refine va_iald hx hb hK hP 17 0 (xw_q17 ad cI cJ cZ σ0) rfl h9 dX8_seasonal_77 ?_
                refine lv_ishl hx hb dX8_seasonal_78 ?_
                refine lv_ior hx hb dX8_seasonal_79 ?_
                refine lv_topi (fun x10 ex10 => ?_)
                have hw := hw x10 ex10
                refine lv_istore_n (lv' := [(3, .int x10), (5, .int (0 : Int32)), (0, .ref (ad 3)), (2, .ref (ad 1)), (1, .int u1), (4, .int v4)]) hx hb dX8_seasonal_80 rfl hl (by decide) rfl (fun ls hl => ?_)
                obtain ⟨x11, ex11⟩ : ∃ z : Int32, z = v4 + (1 : Int32) := ⟨_, rfl⟩
                refine lv_iinc (v := x11) (lv' := [(4, .int x11), (3, .int x10), (5, .int (0 : Int32)), (0, .ref (ad 3)), (2, .ref (ad 1)), (1, .int u1)]) hx hb dX8_seasonal_81 hl (k := 5) rfl (by rw [ex11]; rfl) (by decide) rfl (fun ls hl => ?_)
                have hw := hw x11 ex11
                refine lv_goto (tgt := 5) hx hb dX8_seasonal_84 (by decide) ?_
                exact ih _ _ _ _ _ hw hP hS (lv_sub hl [3, 4, 5, 1, 0] rfl)
          · have hw := hw.2 c9
            refine lv_iconst (v := 1) hx hb dX8_seasonal_43 (by decide) ?_
            refine lv_goto (tgt := 48) hx hb dX8_seasonal_44 (by decide) ?_
            refine lv_istore (lv' := [(5, .int (1 : Int32)), (0, .ref (ad 3)), (2, .ref (ad 1)), (1, .int u1), (3, .int v3), (4, .int v4)]) hx hb dX8_seasonal_48 hl (by decide) rfl (fun ls hl => ?_)
            refine lv_iload hx hb dX8_seasonal_50 (lv_at hl 0 rfl) ?_
            refine lv_if_eq (tgt := 81) hx hb dX8_seasonal_52 (by decide) (fun c9 => ?_) (fun c9 => ?_)
            · have hw := hw.1 c9
              obtain ⟨x12, ex12⟩ : ∃ z : Int32, z = v4 + (1 : Int32) := ⟨_, rfl⟩
              refine lv_iinc (v := x12) (lv' := [(4, .int x12), (5, .int (1 : Int32)), (0, .ref (ad 3)), (2, .ref (ad 1)), (1, .int u1), (3, .int v3)]) hx hb dX8_seasonal_81 hl (k := 5) rfl (by rw [ex12]; rfl) (by decide) rfl (fun ls hl => ?_)
              have hw := hw x12 ex12
              refine lv_goto (tgt := 5) hx hb dX8_seasonal_84 (by decide) ?_
              exact ih _ _ _ _ _ hw hP hS (lv_sub hl [2, 3, 4, 5, 0] rfl)
            · have hw := hw.2 c9
              refine lv_aload_n hx hb dX8_seasonal_55 rfl (lv_at hl 2 rfl) ?_
              refine lv_aload_n hx hb dX8_seasonal_56 rfl (lv_at hl 1 rfl) ?_
              refine va_get hx hb hts iX8 hown hK hP 3 (xw_q3 ad cI cJ cZ σ0) rfl 3 (by decide) f22 (fun _ h9 => h9) rfl dX8_seasonal_57 ?_
              refine lv_iload hx hb dX8_seasonal_60 (lv_at hl 5 rfl) ?_
              obtain ⟨h9, hw⟩ := hw
              refine va_iald hx hb hK hP 18 0 (xw_q18 ad cI cJ cZ σ0) rfl h9 dX8_seasonal_62 ?_
              refine wd_cVi ⟨hx, hb, hml, hown, hts⟩ (mtX2_comesRound l D ad cI cJ cZ A hD σ0 (σ0.2.1 8 v4.toNatClampNeg) _ hw) (cwV 1 hts gX8_seasonal_X2_comesRound rfl rfl rfl (by decide +kernel) ⟨(Nat.le_of_ble_eq_true rfl), (Nat.le_of_ble_eq_true rfl)⟩) (va_recv hK hP (ci := 2) (q0 := 1) rfl (xw_q1 ad cI cJ cZ σ0)) hK hN hP hS rfl hl.1 rfl (Nat.le_of_ble_eq_true rfl) dX8_seasonal_63 ⟨Nat.zero_le _, Nat.zero_le _⟩ (fun r13 u9 H locs hq hP hS => ?_)
              obtain ⟨hw, hu⟩ := hq
              rw [hu] at hP
              refine lv_if_eq (tgt := 81) hx hb dX8_seasonal_66 (by decide) (fun c9 => ?_) (fun c9 => ?_)
              · have hw := hw.1 c9
                obtain ⟨x14, ex14⟩ : ∃ z : Int32, z = v4 + (1 : Int32) := ⟨_, rfl⟩
                refine lv_iinc (v := x14) (lv' := [(4, .int x14), (5, .int (1 : Int32)), (0, .ref (ad 3)), (2, .ref (ad 1)), (1, .int u1), (3, .int v3)]) hx hb dX8_seasonal_81 hl (k := 5) rfl (by rw [ex14]; rfl) (by decide) rfl (fun ls hl => ?_)
                have hw := hw x14 ex14
                refine lv_goto (tgt := 5) hx hb dX8_seasonal_84 (by decide) ?_
                exact ih _ _ _ _ _ hw hP hS (lv_sub hl [2, 3, 4, 5, 0] rfl)
              · have hw := hw.2 c9
                refine lv_iload_n hx hb dX8_seasonal_69 rfl (lv_at hl 4 rfl) ?_
                refine lv_iconst (v := 1) hx hb dX8_seasonal_70 (by decide) ?_
                refine lv_aload_n hx hb dX8_seasonal_71 rfl (lv_at hl 1 rfl) ?_
                refine va_get hx hb hts iX8 hown hK hP 3 (xw_q3 ad cI cJ cZ σ0) rfl 2 (by decide) f19 (fun _ h9 => h9) rfl dX8_seasonal_72 ?_
                refine lv_iload hx hb dX8_seasonal_75 (lv_at hl 5 rfl) ?_
                obtain ⟨h9, hw⟩ := hw
                refine va_iald hx hb hK hP 17 0 (xw_q17 ad cI cJ cZ σ0) rfl h9 dX8_seasonal_77 ?_
                refine lv_ishl hx hb dX8_seasonal_78 ?_
                refine lv_ior hx hb dX8_seasonal_79 ?_
                refine lv_topi (fun x15 ex15 => ?_)
                have hw := hw x15 ex15
                refine lv_istore_n (lv' := [(3, .int x15), (5, .int (1 : Int32)), (0, .ref (ad 3)), (2, .ref (ad 1)), (1, .int u1), (4, .int v4)]) hx hb dX8_seasonal_80 rfl hl (by decide) rfl (fun ls hl => ?_)
                obtain ⟨x16, ex16⟩ : ∃ z : Int32, z = v4 + (1 : Int32) := ⟨_, rfl⟩
                refine lv_iinc (v := x16) (lv' := [(4, .int x16), (3, .int x15), (5, .int (1 : Int32)), (0, .ref (ad 3)), (2, .ref (ad 1)), (1, .int u1)]) hx hb dX8_seasonal_81 hl (k := 5) rfl (by rw [ex16]; rfl) (by decide) rfl (fun ls hl => ?_)
                have hw := hw x16 ex16
                refine lv_goto (tgt := 5) hx hb dX8_seasonal_84 (by decide) ?_
                exact ih _ _ _ _ _ hw hP hS (lv_sub hl [3, 4, 5, 1, 0] rfl)
  have hl := lv_entry ([.ref (ad 3), .int a1, .ref (ad 1)]) (n := 6) (Nat.le_of_ble_eq_true rfl)
  rw [lg_entry_eq]
  generalize (lg_sl ([.ref (ad 3), .int a1, .ref (ad 1)]) ++ List.replicate (6 - (lg_sl ([.ref (ad 3), .int a1, .ref (ad 1)])).length) Slot.unset).toArray = ls at hl ⊢
  have hl : lv_has ls 6 [(0, .ref (ad 3)), (1, .int a1), (2, .ref (ad 1))] := hl
  unfold wX8_seasonal at hw
  refine lv_iconst (v := 0) hx hb dX8_seasonal_0 (by decide) ?_
  refine lv_istore_n (lv' := [(3, .int (0 : Int32)), (0, .ref (ad 3)), (1, .int a1), (2, .ref (ad 1))]) hx hb dX8_seasonal_1 rfl hl (by decide) rfl (fun ls hl => ?_)
  refine lv_iconst (v := 0) hx hb dX8_seasonal_2 (by decide) ?_
  refine lv_istore (lv' := [(4, .int (0 : Int32)), (3, .int (0 : Int32)), (0, .ref (ad 3)), (1, .int a1), (2, .ref (ad 1))]) hx hb dX8_seasonal_3 hl (by decide) rfl (fun ls hl => ?_)
  obtain ⟨n9, hw⟩ := hw
  refine L5 a1 n9 (0 : Int32) (0 : Int32) _ _ _ hw hP hS (lv_sub hl [2, 4, 3, 1, 0] rfl)
def wX9_noMarkSet (a0 : Int32) (post : Int32 → Prop) : Prop := (a0 < 0 → (post (1 : Int32))) ∧ (¬ a0 < 0 → ((a0 < (256 : Int32) → (post (0 : Int32))) ∧ (¬ a0 < (256 : Int32) → (post (1 : Int32)))))
set_option maxHeartbeats 4000000 in
set_option maxRecDepth 100000 in
theorem mtX9_noMarkSet (l : Launch) (D : va_G) (ad : Nat → Nat) (cI cJ cZ : ClassId) (A : Nat → Prop) (hD : ∀ σ : St, va_D A (xw ad cI cJ cZ σ)) (σ0 : St) (a0 : Int32) (post : Int32 → Prop) (hw : wX9_noMarkSet a0 post) : Met l yX9_noMarkSet wsX9_noMarkSet ({ frames := 0, cells := 0, slots := 0, locals := 0 } : Room) (va_Pc [.int a0] (wd_pre D (xw ad cI cJ cZ) (wd_tys cI cJ cZ) σ0)) (va_Qi (fun (r : Int32) (u : St) => post r ∧ u = σ0) (wd_B D (xw ad cI cJ cZ)) A) 0 0 A := by
  refine Met.ofW (cc := cX9_noMarkSet) (maxL := 1) (ret := (some .boolean)) (by decide) rfl ?_
  intro p e s m args below meth c s₁ B hml hv
  obtain ⟨rfl, hP, hK, hN⟩ := hv
  have hx := B.exec
  have hb := B.bytes
  have hr := B.returns
  have hts := atoms_spec (ws := wsX9_noMarkSet) B.pre
  have hown : s.vm.findClass RX9 = some m.cls := findClass_of_methodNamed B.named
  have hlocks := B.notSynchronized
  have hS : va_S A s.heap s.heap [] := va_S.rf
  have hl := lv_entry ([.int a0]) (n := 1) (Nat.le_of_ble_eq_true rfl)
  rw [lg_entry_eq]
  generalize (lg_sl ([.int a0]) ++ List.replicate (1 - (lg_sl ([.int a0])).length) Slot.unset).toArray = ls at hl ⊢
  have hl : lv_has ls 1 [(0, .int a0)] := hl
  unfold wX9_noMarkSet at hw
  refine lv_iload_n hx hb dX9_noMarkSet_0 rfl (lv_at hl 0 rfl) ?_
  refine lv_if_lt (tgt := 11) hx hb dX9_noMarkSet_1 (by decide) (fun c9 => ?_) (fun c9 => ?_)
  · have hw := hw.1 c9
    refine lv_iconst (v := 1) hx hb dX9_noMarkSet_11 (by decide) ?_
    refine lv_goto (tgt := 16) hx hb dX9_noMarkSet_12 (by decide) ?_
    exact wd_zret hx hb hr hlocks (by decide) ⟨hw, rfl⟩ hP hS dX9_noMarkSet_16
  · have hw := hw.2 c9
    refine lv_iload_n hx hb dX9_noMarkSet_4 rfl (lv_at hl 0 rfl) ?_
    refine lv_sipush (v := 256) hx hb dX9_noMarkSet_5 (by decide) ?_
    refine lv_icmp_lt (tgt := 15) hx hb dX9_noMarkSet_8 (by decide) (fun c9 => ?_) (fun c9 => ?_)
    · have hw := hw.1 c9
      refine lv_iconst (v := 0) hx hb dX9_noMarkSet_15 (by decide) ?_
      exact wd_zret hx hb hr hlocks (by decide) ⟨hw, rfl⟩ hP hS dX9_noMarkSet_16
    · have hw := hw.2 c9
      refine lv_iconst (v := 1) hx hb dX9_noMarkSet_11 (by decide) ?_
      refine lv_goto (tgt := 16) hx hb dX9_noMarkSet_12 (by decide) ?_
      exact wd_zret hx hb hr hlocks (by decide) ⟨hw, rfl⟩ hP hS dX9_noMarkSet_16
def wX9_noRightSet (a0 : Int32) (post : Int32 → Prop) : Prop := (a0 < 0 → (post (1 : Int32))) ∧ (¬ a0 < 0 → ((a0 < (4096 : Int32) → (post (0 : Int32))) ∧ (¬ a0 < (4096 : Int32) → (post (1 : Int32)))))
set_option maxHeartbeats 4000000 in
set_option maxRecDepth 100000 in
theorem mtX9_noRightSet (l : Launch) (D : va_G) (ad : Nat → Nat) (cI cJ cZ : ClassId) (A : Nat → Prop) (hD : ∀ σ : St, va_D A (xw ad cI cJ cZ σ)) (σ0 : St) (a0 : Int32) (post : Int32 → Prop) (hw : wX9_noRightSet a0 post) : Met l yX9_noRightSet wsX9_noRightSet ({ frames := 0, cells := 0, slots := 0, locals := 0 } : Room) (va_Pc [.int a0] (wd_pre D (xw ad cI cJ cZ) (wd_tys cI cJ cZ) σ0)) (va_Qi (fun (r : Int32) (u : St) => post r ∧ u = σ0) (wd_B D (xw ad cI cJ cZ)) A) 0 0 A := by
  refine Met.ofW (cc := cX9_noRightSet) (maxL := 1) (ret := (some .boolean)) (by decide) rfl ?_
  intro p e s m args below meth c s₁ B hml hv
  obtain ⟨rfl, hP, hK, hN⟩ := hv
  have hx := B.exec
  have hb := B.bytes
  have hr := B.returns
  have hts := atoms_spec (ws := wsX9_noRightSet) B.pre
  have hown : s.vm.findClass RX9 = some m.cls := findClass_of_methodNamed B.named
  have hlocks := B.notSynchronized
  have hS : va_S A s.heap s.heap [] := va_S.rf
  have hl := lv_entry ([.int a0]) (n := 1) (Nat.le_of_ble_eq_true rfl)
  rw [lg_entry_eq]
  generalize (lg_sl ([.int a0]) ++ List.replicate (1 - (lg_sl ([.int a0])).length) Slot.unset).toArray = ls at hl ⊢
  have hl : lv_has ls 1 [(0, .int a0)] := hl
  unfold wX9_noRightSet at hw
  refine lv_iload_n hx hb dX9_noRightSet_0 rfl (lv_at hl 0 rfl) ?_
  refine lv_if_lt (tgt := 11) hx hb dX9_noRightSet_1 (by decide) (fun c9 => ?_) (fun c9 => ?_)
  · have hw := hw.1 c9
    refine lv_iconst (v := 1) hx hb dX9_noRightSet_11 (by decide) ?_
    refine lv_goto (tgt := 16) hx hb dX9_noRightSet_12 (by decide) ?_
    exact wd_zret hx hb hr hlocks (by decide) ⟨hw, rfl⟩ hP hS dX9_noRightSet_16
  · have hw := hw.2 c9
    refine lv_iload_n hx hb dX9_noRightSet_4 rfl (lv_at hl 0 rfl) ?_
    refine lv_sipush (v := 4096) hx hb dX9_noRightSet_5 (by decide) ?_
    refine lv_icmp_lt (tgt := 15) hx hb dX9_noRightSet_8 (by decide) (fun c9 => ?_) (fun c9 => ?_)
    · have hw := hw.1 c9
      refine lv_iconst (v := 0) hx hb dX9_noRightSet_15 (by decide) ?_
      exact wd_zret hx hb hr hlocks (by decide) ⟨hw, rfl⟩ hP hS dX9_noRightSet_16
    · have hw := hw.2 c9
      refine lv_iconst (v := 1) hx hb dX9_noRightSet_11 (by decide) ?_
      refine lv_goto (tgt := 16) hx hb dX9_noRightSet_12 (by decide) ?_
      exact wd_zret hx hb hr hlocks (by decide) ⟨hw, rfl⟩ hP hS dX9_noRightSet_16
def wX9_person (σ0 : St) (a1 : Int32) (a2 : Int32) (post : Int32 → St → Prop) : Prop := wX9_noMarkSet a1 (fun (r1 : Int32) => (¬ r1 = 0 → (post (-1 : Int32) σ0)) ∧ (r1 = 0 → (wX9_noRightSet a2 (fun (r2 : Int32) => (r2 = 0 → (((σ0.1 6) < (10 : Int32) → (wX5_join σ0 a1 a2 (fun (r3 : Int32) (σ4 : St) => post r3 σ4))) ∧ (¬ (σ0.1 6) < (10 : Int32) → (post (-2 : Int32) σ0)))) ∧ (¬ r2 = 0 → (post (-1 : Int32) σ0))))))
set_option maxHeartbeats 4000000 in
set_option maxRecDepth 100000 in
theorem mtX9_person (l : Launch) (D : va_G) (ad : Nat → Nat) (cI cJ cZ : ClassId) (A : Nat → Prop) (hD : ∀ σ : St, va_D A (xw ad cI cJ cZ σ)) (σ0 : St) (a1 : Int32) (a2 : Int32) (post : Int32 → St → Prop) (hw : wX9_person σ0 a1 a2 post) : Met l yX9_person wsX9_person ({ frames := 1, cells := 0, slots := 0, locals := 22 } : Room) (va_Pc [.ref (ad 0), .int a1, .int a2] (wd_pre D (xw ad cI cJ cZ) (wd_tys cI cJ cZ) σ0)) (va_Qi post (wd_B D (xw ad cI cJ cZ)) A) 0 0 A := by
  refine Met.ofW (cc := cX9_person) (maxL := 3) (ret := (some .int)) (by decide) rfl ?_
  intro p e s m args below meth c s₁ B hml hv
  obtain ⟨rfl, hP, hK, hN⟩ := hv
  have hx := B.exec
  have hb := B.bytes
  have hr := B.returns
  have hts := atoms_spec (ws := wsX9_person) B.pre
  have hown : s.vm.findClass RX9 = some m.cls := findClass_of_methodNamed B.named
  have hlocks := B.notSynchronized
  have hS : va_S A s.heap s.heap [] := va_S.rf
  have f19 := hts (.fieldLink RX9 19 "LeastRights" "folk" "LLeastRights$Folk;") (by decide +kernel)
  have iX9 : ∀ w ∈ wsX90, w ∈ wsX9_person := by decide +kernel
  have n93 := va_Nw.use (A := ([.ref (ad 0), .int a1, .int a2] : List Value).toArray) rfl (hN.1 ("LeastRights", 93, "LeastRights$Folk", "size", "I") (by decide +kernel))
  have iX5 : ∀ w ∈ wsX50, w ∈ wsX9_person := by decide +kernel
  have hl := lv_entry ([.ref (ad 0), .int a1, .int a2]) (n := 3) (Nat.le_of_ble_eq_true rfl)
  rw [lg_entry_eq]
  generalize (lg_sl ([.ref (ad 0), .int a1, .int a2]) ++ List.replicate (3 - (lg_sl ([.ref (ad 0), .int a1, .int a2])).length) Slot.unset).toArray = ls at hl ⊢
  have hl : lv_has ls 3 [(0, .ref (ad 0)), (1, .int a1), (2, .int a2)] := hl
  unfold wX9_person at hw
  refine lv_iload_n hx hb dX9_person_0 rfl (lv_at hl 1 rfl) ?_
  refine wd_cSi ⟨hx, hb, hml, hown, hts⟩ (mtX9_noMarkSet l D ad cI cJ cZ A hD σ0 a1 _ hw) (va_cwS 1 hts gX9_person_X9_noMarkSet rfl rfl rfl (by decide +kernel) ⟨(Nat.le_of_ble_eq_true rfl), (Nat.le_of_ble_eq_true rfl)⟩) hK hN hP hS rfl hl.1 rfl (Nat.le_of_ble_eq_true rfl) dX9_person_1 ⟨Nat.zero_le _, Nat.zero_le _⟩ (fun r1 u9 H locs hq hP hS => ?_)
  obtain ⟨hw, hu⟩ := hq
  rw [hu] at hP
  refine lv_if_ne (tgt := 14) hx hb dX9_person_4 (by decide) (fun c9 => ?_) (fun c9 => ?_)
  · have hw := hw.1 c9
    refine lv_iconst (v := -1) hx hb dX9_person_14 (by decide) ?_
    exact wd_iret hx hb hr hlocks hw hP hS dX9_person_15
  · have hw := hw.2 c9
    refine lv_iload_n hx hb dX9_person_7 rfl (lv_at hl 2 rfl) ?_
    refine wd_cSi ⟨hx, hb, hml, hown, hts⟩ (mtX9_noRightSet l D ad cI cJ cZ A hD σ0 a2 _ hw) (va_cwS 1 hts gX9_person_X9_noRightSet rfl rfl rfl (by decide +kernel) ⟨(Nat.le_of_ble_eq_true rfl), (Nat.le_of_ble_eq_true rfl)⟩) hK hN hP hS rfl hl.1 rfl (Nat.le_of_ble_eq_true rfl) dX9_person_8 ⟨Nat.zero_le _, Nat.zero_le _⟩ (fun r2 u9 H locs hq hP hS => ?_)
    obtain ⟨hw, hu⟩ := hq
    rw [hu] at hP
    refine lv_if_eq (tgt := 16) hx hb dX9_person_11 (by decide) (fun c9 => ?_) (fun c9 => ?_)
    · have hw := hw.1 c9
      refine lv_aload_n hx hb dX9_person_16 rfl (lv_at hl 0 rfl) ?_
      refine va_get hx hb hts iX9 hown hK hP 0 (xw_q0 ad cI cJ cZ σ0) rfl 1 (by decide) f19 (fun _ h9 => h9) rfl dX9_person_17 ?_
      refine va_getN hx hb hts iX5 hown hK hP 2 (xw_q2 ad cI cJ cZ σ0) rfl 0 (by decide) n93 (fun _ h9 => h9) rfl dX9_person_20 ?_
      refine lv_bipush (v := 10) hx hb dX9_person_23 (by decide) ?_
      refine lv_icmp_lt (tgt := 31) hx hb dX9_person_25 (by decide) (fun c9 => ?_) (fun c9 => ?_)
      · have hw := hw.1 c9
        refine lv_aload_n hx hb dX9_person_31 rfl (lv_at hl 0 rfl) ?_
        refine va_get hx hb hts iX9 hown hK hP 0 (xw_q0 ad cI cJ cZ σ0) rfl 1 (by decide) f19 (fun _ h9 => h9) rfl dX9_person_32 ?_
        refine lv_iload_n hx hb dX9_person_35 rfl (lv_at hl 1 rfl) ?_
        refine lv_iload_n hx hb dX9_person_36 rfl (lv_at hl 2 rfl) ?_
        refine wd_cVi ⟨hx, hb, hml, hown, hts⟩ (mtX5_join l D ad cI cJ cZ A hD σ0 a1 a2 _ hw) (cwV 2 hts gX9_person_X5_join rfl rfl rfl (by decide +kernel) ⟨(Nat.le_of_ble_eq_true rfl), (Nat.le_of_ble_eq_true rfl)⟩) (va_recv hK hP (ci := 5) (q0 := 2) rfl (xw_q2 ad cI cJ cZ σ0)) hK hN hP hS rfl hl.1 rfl (Nat.le_of_ble_eq_true rfl) dX9_person_37 ⟨Nat.zero_le _, Nat.zero_le _⟩ (fun r3 σ4 H locs hw hP hS => ?_)
        exact wd_iret hx hb hr hlocks hw hP hS dX9_person_40
      · have hw := hw.2 c9
        refine lv_bipush (v := -2) hx hb dX9_person_28 (by decide) ?_
        exact wd_iret hx hb hr hlocks hw hP hS dX9_person_30
    · have hw := hw.2 c9
      refine lv_iconst (v := -1) hx hb dX9_person_14 (by decide) ?_
      exact wd_iret hx hb hr hlocks hw hP hS dX9_person_15
def wX9_noPerson (σ0 : St) (a1 : Int32) (post : Int32 → Prop) : Prop := (a1 < 0 → (post (1 : Int32))) ∧ (¬ a1 < 0 → ((a1 < (σ0.1 6) → (post (0 : Int32))) ∧ (¬ a1 < (σ0.1 6) → (post (1 : Int32)))))
set_option maxHeartbeats 4000000 in
set_option maxRecDepth 100000 in
theorem mtX9_noPerson (l : Launch) (D : va_G) (ad : Nat → Nat) (cI cJ cZ : ClassId) (A : Nat → Prop) (hD : ∀ σ : St, va_D A (xw ad cI cJ cZ σ)) (σ0 : St) (a1 : Int32) (post : Int32 → Prop) (hw : wX9_noPerson σ0 a1 post) : Met l yX9_noPerson wsX9_noPerson ({ frames := 0, cells := 0, slots := 0, locals := 0 } : Room) (va_Pc [.ref (ad 0), .int a1] (wd_pre D (xw ad cI cJ cZ) (wd_tys cI cJ cZ) σ0)) (va_Qi (fun (r : Int32) (u : St) => post r ∧ u = σ0) (wd_B D (xw ad cI cJ cZ)) A) 0 0 A := by
  refine Met.ofW (cc := cX9_noPerson) (maxL := 2) (ret := (some .boolean)) (by decide) rfl ?_
  intro p e s m args below meth c s₁ B hml hv
  obtain ⟨rfl, hP, hK, hN⟩ := hv
  have hx := B.exec
  have hb := B.bytes
  have hr := B.returns
  have hts := atoms_spec (ws := wsX9_noPerson) B.pre
  have hown : s.vm.findClass RX9 = some m.cls := findClass_of_methodNamed B.named
  have hlocks := B.notSynchronized
  have hS : va_S A s.heap s.heap [] := va_S.rf
  have f19 := hts (.fieldLink RX9 19 "LeastRights" "folk" "LLeastRights$Folk;") (by decide +kernel)
  have iX9 : ∀ w ∈ wsX90, w ∈ wsX9_noPerson := by decide +kernel
  have n93 := va_Nw.use (A := ([.ref (ad 0), .int a1] : List Value).toArray) rfl (hN.1 ("LeastRights", 93, "LeastRights$Folk", "size", "I") (by decide +kernel))
  have iX5 : ∀ w ∈ wsX50, w ∈ wsX9_noPerson := by decide +kernel
  have hl := lv_entry ([.ref (ad 0), .int a1]) (n := 2) (Nat.le_of_ble_eq_true rfl)
  rw [lg_entry_eq]
  generalize (lg_sl ([.ref (ad 0), .int a1]) ++ List.replicate (2 - (lg_sl ([.ref (ad 0), .int a1])).length) Slot.unset).toArray = ls at hl ⊢
  have hl : lv_has ls 2 [(0, .ref (ad 0)), (1, .int a1)] := hl
  unfold wX9_noPerson at hw
  refine lv_iload_n hx hb dX9_noPerson_0 rfl (lv_at hl 1 rfl) ?_
  refine lv_if_lt (tgt := 15) hx hb dX9_noPerson_1 (by decide) (fun c9 => ?_) (fun c9 => ?_)
  · have hw := hw.1 c9
    refine lv_iconst (v := 1) hx hb dX9_noPerson_15 (by decide) ?_
    refine lv_goto (tgt := 20) hx hb dX9_noPerson_16 (by decide) ?_
    exact wd_zret hx hb hr hlocks (by decide) ⟨hw, rfl⟩ hP hS dX9_noPerson_20
  · have hw := hw.2 c9
    refine lv_iload_n hx hb dX9_noPerson_4 rfl (lv_at hl 1 rfl) ?_
    refine lv_aload_n hx hb dX9_noPerson_5 rfl (lv_at hl 0 rfl) ?_
    refine va_get hx hb hts iX9 hown hK hP 0 (xw_q0 ad cI cJ cZ σ0) rfl 1 (by decide) f19 (fun _ h9 => h9) rfl dX9_noPerson_6 ?_
    refine va_getN hx hb hts iX5 hown hK hP 2 (xw_q2 ad cI cJ cZ σ0) rfl 0 (by decide) n93 (fun _ h9 => h9) rfl dX9_noPerson_9 ?_
    refine lv_icmp_lt (tgt := 19) hx hb dX9_noPerson_12 (by decide) (fun c9 => ?_) (fun c9 => ?_)
    · have hw := hw.1 c9
      refine lv_iconst (v := 0) hx hb dX9_noPerson_19 (by decide) ?_
      exact wd_zret hx hb hr hlocks (by decide) ⟨hw, rfl⟩ hP hS dX9_noPerson_20
    · have hw := hw.2 c9
      refine lv_iconst (v := 1) hx hb dX9_noPerson_15 (by decide) ?_
      refine lv_goto (tgt := 20) hx hb dX9_noPerson_16 (by decide) ?_
      exact wd_zret hx hb hr hlocks (by decide) ⟨hw, rfl⟩ hP hS dX9_noPerson_20
def wX9_change (σ0 : St) (a1 : Int32) (a2 : Int32) (a3 : Int32) (post : Int32 → St → Prop) : Prop := wX9_noPerson σ0 a1 (fun (r1 : Int32) => (r1 = 0 → ((¬ a2 = 0 → ((¬ a2 = (1 : Int32) → (post (-1 : Int32) σ0)) ∧ (a2 = (1 : Int32) → (wX9_noRightSet a3 (fun (r2 : Int32) => (r2 = 0 → (wX5_give σ0 a1 a3 (fun (r3 : Int32) (σ4 : St) => post r3 σ4))) ∧ (¬ r2 = 0 → (post (-1 : Int32) σ0))))))) ∧ (a2 = 0 → (wX9_noMarkSet a3 (fun (r5 : Int32) => (r5 = 0 → (wX5_remark σ0 a1 a3 (fun (r6 : Int32) (σ7 : St) => post r6 σ7))) ∧ (¬ r5 = 0 → (post (-1 : Int32) σ0))))))) ∧ (¬ r1 = 0 → (post (-1 : Int32) σ0)))
set_option maxHeartbeats 4000000 in
set_option maxRecDepth 100000 in
theorem mtX9_change (l : Launch) (D : va_G) (ad : Nat → Nat) (cI cJ cZ : ClassId) (A : Nat → Prop) (hD : ∀ σ : St, va_D A (xw ad cI cJ cZ σ)) (σ0 : St) (a1 : Int32) (a2 : Int32) (a3 : Int32) (post : Int32 → St → Prop) (hw : wX9_change σ0 a1 a2 a3 post) : Met l yX9_change wsX9_change ({ frames := 1, cells := 0, slots := 0, locals := 23 } : Room) (va_Pc [.ref (ad 0), .int a1, .int a2, .int a3] (wd_pre D (xw ad cI cJ cZ) (wd_tys cI cJ cZ) σ0)) (va_Qi post (wd_B D (xw ad cI cJ cZ)) A) 0 0 A := by
  refine Met.ofW (cc := cX9_change) (maxL := 4) (ret := (some .int)) (by decide) rfl ?_
  intro p e s m args below meth c s₁ B hml hv
  obtain ⟨rfl, hP, hK, hN⟩ := hv
  have hx := B.exec
  have hb := B.bytes
  have hr := B.returns
  have hts := atoms_spec (ws := wsX9_change) B.pre
  have hown : s.vm.findClass RX9 = some m.cls := findClass_of_methodNamed B.named
  have hlocks := B.notSynchronized
  have hS : va_S A s.heap s.heap [] := va_S.rf
  have f19 := hts (.fieldLink RX9 19 "LeastRights" "folk" "LLeastRights$Folk;") (by decide +kernel)
  have iX9 : ∀ w ∈ wsX90, w ∈ wsX9_change := by decide +kernel
  have hl := lv_entry ([.ref (ad 0), .int a1, .int a2, .int a3]) (n := 4) (Nat.le_of_ble_eq_true rfl)
  rw [lg_entry_eq]
  generalize (lg_sl ([.ref (ad 0), .int a1, .int a2, .int a3]) ++ List.replicate (4 - (lg_sl ([.ref (ad 0), .int a1, .int a2, .int a3])).length) Slot.unset).toArray = ls at hl ⊢
  have hl : lv_has ls 4 [(0, .ref (ad 0)), (1, .int a1), (2, .int a2), (3, .int a3)] := hl
  unfold wX9_change at hw
  refine lv_aload_n hx hb dX9_change_0 rfl (lv_at hl 0 rfl) ?_
  refine lv_iload_n hx hb dX9_change_1 rfl (lv_at hl 1 rfl) ?_
  refine wd_cVi ⟨hx, hb, hml, hown, hts⟩ (mtX9_noPerson l D ad cI cJ cZ A hD σ0 a1 _ hw) (cwV 1 hts gX9_change_X9_noPerson rfl rfl rfl (by decide +kernel) ⟨(Nat.le_of_ble_eq_true rfl), (Nat.le_of_ble_eq_true rfl)⟩) (va_recv hK hP (ci := 9) (q0 := 0) rfl (xw_q0 ad cI cJ cZ σ0)) hK hN hP hS rfl hl.1 rfl (Nat.le_of_ble_eq_true rfl) dX9_change_2 ⟨Nat.zero_le _, Nat.zero_le _⟩ (fun r1 u9 H locs hq hP hS => ?_)
  obtain ⟨hw, hu⟩ := hq
  rw [hu] at hP
  refine lv_if_eq (tgt := 10) hx hb dX9_change_5 (by decide) (fun c9 => ?_) (fun c9 => ?_)
  · have hw := hw.1 c9
    refine lv_iload_n hx hb dX9_change_10 rfl (lv_at hl 2 rfl) ?_
    refine lv_if_ne (tgt := 35) hx hb dX9_change_11 (by decide) (fun c9 => ?_) (fun c9 => ?_)
    · have hw := hw.1 c9
      refine lv_iload_n hx hb dX9_change_35 rfl (lv_at hl 2 rfl) ?_
      refine lv_iconst (v := 1) hx hb dX9_change_36 (by decide) ?_
      refine lv_icmp_ne (tgt := 61) hx hb dX9_change_37 (by decide) (fun c9 => ?_) (fun c9 => ?_)
      · have hw := hw.1 c9
        refine lv_iconst (v := -1) hx hb dX9_change_61 (by decide) ?_
        exact wd_iret hx hb hr hlocks hw hP hS dX9_change_62
      · have hw := hw.2 c9
        refine lv_iload_n hx hb dX9_change_40 rfl (lv_at hl 3 rfl) ?_
        refine wd_cSi ⟨hx, hb, hml, hown, hts⟩ (mtX9_noRightSet l D ad cI cJ cZ A hD σ0 a3 _ hw) (va_cwS 1 hts gX9_change_X9_noRightSet rfl rfl rfl (by decide +kernel) ⟨(Nat.le_of_ble_eq_true rfl), (Nat.le_of_ble_eq_true rfl)⟩) hK hN hP hS rfl hl.1 rfl (Nat.le_of_ble_eq_true rfl) dX9_change_41 ⟨Nat.zero_le _, Nat.zero_le _⟩ (fun r2 u9 H locs hq hP hS => ?_)
        obtain ⟨hw, hu⟩ := hq
        rw [hu] at hP
        refine lv_if_eq (tgt := 51) hx hb dX9_change_44 (by decide) (fun c9 => ?_) (fun c9 => ?_)
        · have hw := hw.1 c9
          refine lv_aload_n hx hb dX9_change_51 rfl (lv_at hl 0 rfl) ?_
          refine va_get hx hb hts iX9 hown hK hP 0 (xw_q0 ad cI cJ cZ σ0) rfl 1 (by decide) f19 (fun _ h9 => h9) rfl dX9_change_52 ?_
          refine lv_iload_n hx hb dX9_change_55 rfl (lv_at hl 1 rfl) ?_
          refine lv_iload_n hx hb dX9_change_56 rfl (lv_at hl 3 rfl) ?_
          refine wd_cVi ⟨hx, hb, hml, hown, hts⟩ (mtX5_give l D ad cI cJ cZ A hD σ0 a1 a3 _ hw) (cwV 2 hts gX9_change_X5_give rfl rfl rfl (by decide +kernel) ⟨(Nat.le_of_ble_eq_true rfl), (Nat.le_of_ble_eq_true rfl)⟩) (va_recv hK hP (ci := 5) (q0 := 2) rfl (xw_q2 ad cI cJ cZ σ0)) hK hN hP hS rfl hl.1 rfl (Nat.le_of_ble_eq_true rfl) dX9_change_57 ⟨Nat.zero_le _, Nat.zero_le _⟩ (fun r3 σ4 H locs hw hP hS => ?_)
          exact wd_iret hx hb hr hlocks hw hP hS dX9_change_60
        · have hw := hw.2 c9
          refine lv_iconst (v := -1) hx hb dX9_change_47 (by decide) ?_
          refine lv_goto (tgt := 60) hx hb dX9_change_48 (by decide) ?_
          exact wd_iret hx hb hr hlocks hw hP hS dX9_change_60
    · have hw := hw.2 c9
      refine lv_iload_n hx hb dX9_change_14 rfl (lv_at hl 3 rfl) ?_
      refine wd_cSi ⟨hx, hb, hml, hown, hts⟩ (mtX9_noMarkSet l D ad cI cJ cZ A hD σ0 a3 _ hw) (va_cwS 1 hts gX9_change_X9_noMarkSet rfl rfl rfl (by decide +kernel) ⟨(Nat.le_of_ble_eq_true rfl), (Nat.le_of_ble_eq_true rfl)⟩) hK hN hP hS rfl hl.1 rfl (Nat.le_of_ble_eq_true rfl) dX9_change_15 ⟨Nat.zero_le _, Nat.zero_le _⟩ (fun r5 u9 H locs hq hP hS => ?_)
      obtain ⟨hw, hu⟩ := hq
      rw [hu] at hP
      refine lv_if_eq (tgt := 25) hx hb dX9_change_18 (by decide) (fun c9 => ?_) (fun c9 => ?_)
      · have hw := hw.1 c9
        refine lv_aload_n hx hb dX9_change_25 rfl (lv_at hl 0 rfl) ?_
        refine va_get hx hb hts iX9 hown hK hP 0 (xw_q0 ad cI cJ cZ σ0) rfl 1 (by decide) f19 (fun _ h9 => h9) rfl dX9_change_26 ?_
        refine lv_iload_n hx hb dX9_change_29 rfl (lv_at hl 1 rfl) ?_
        refine lv_iload_n hx hb dX9_change_30 rfl (lv_at hl 3 rfl) ?_
        refine wd_cVi ⟨hx, hb, hml, hown, hts⟩ (mtX5_remark l D ad cI cJ cZ A hD σ0 a1 a3 _ hw) (cwV 2 hts gX9_change_X5_remark rfl rfl rfl (by decide +kernel) ⟨(Nat.le_of_ble_eq_true rfl), (Nat.le_of_ble_eq_true rfl)⟩) (va_recv hK hP (ci := 5) (q0 := 2) rfl (xw_q2 ad cI cJ cZ σ0)) hK hN hP hS rfl hl.1 rfl (Nat.le_of_ble_eq_true rfl) dX9_change_31 ⟨Nat.zero_le _, Nat.zero_le _⟩ (fun r6 σ7 H locs hw hP hS => ?_)
        exact wd_iret hx hb hr hlocks hw hP hS dX9_change_34
      · have hw := hw.2 c9
        refine lv_iconst (v := -1) hx hb dX9_change_21 (by decide) ?_
        refine lv_goto (tgt := 34) hx hb dX9_change_22 (by decide) ?_
        exact wd_iret hx hb hr hlocks hw hP hS dX9_change_34
  · have hw := hw.2 c9
    refine lv_iconst (v := -1) hx hb dX9_change_8 (by decide) ?_
    exact wd_iret hx hb hr hlocks hw hP hS dX9_change_9
def wX9_keptOf (σ0 : St) (a1 : Int32) (post : Int32 → Prop) : Prop := wX8_recent σ0 a1 (fun (r1 : Int32) => wX8_seasonal σ0 a1 (fun (r2 : Int32) => ∀ x3 : Int32, x3 = ((r1 ||| r2) ||| (σ0.1 0)) → (vp_in a1 10 ∧ (post ((σ0.2.1 3 a1.toNatClampNeg) &&& x3)))))
set_option maxHeartbeats 4000000 in
set_option maxRecDepth 100000 in
theorem mtX9_keptOf (l : Launch) (D : va_G) (ad : Nat → Nat) (cI cJ cZ : ClassId) (A : Nat → Prop) (hD : ∀ σ : St, va_D A (xw ad cI cJ cZ σ)) (σ0 : St) (a1 : Int32) (post : Int32 → Prop) (hw : wX9_keptOf σ0 a1 post) : Met l yX9_keptOf wsX9_keptOf ({ frames := 2, cells := 0, slots := 0, locals := 48 } : Room) (va_Pc [.ref (ad 0), .int a1] (wd_pre D (xw ad cI cJ cZ) (wd_tys cI cJ cZ) σ0)) (va_Qi (fun (r : Int32) (u : St) => post r ∧ u = σ0) (wd_B D (xw ad cI cJ cZ)) A) 0 0 A := by
  refine Met.ofW (cc := cX9_keptOf) (maxL := 3) (ret := (some .int)) (by decide) rfl ?_
  intro p e s m args below meth c s₁ B hml hv
  obtain ⟨rfl, hP, hK, hN⟩ := hv
  have hx := B.exec
  have hb := B.bytes
  have hr := B.returns
  have hts := atoms_spec (ws := wsX9_keptOf) B.pre
  have hown : s.vm.findClass RX9 = some m.cls := findClass_of_methodNamed B.named
  have hlocks := B.notSynchronized
  have hS : va_S A s.heap s.heap [] := va_S.rf
  have f26 := hts (.fieldLink RX9 26 "LeastRights" "log" "LLeastRights$UseLog;") (by decide +kernel)
  have iX9 : ∀ w ∈ wsX90, w ∈ wsX9_keptOf := by decide +kernel
  have f10 := hts (.fieldLink RX9 10 "LeastRights" "days" "LLeastRights$Days;") (by decide +kernel)
  have f79 := hts (.fieldLink RX9 79 "LeastRights" "standbyRights" "I") (by decide +kernel)
  have f19 := hts (.fieldLink RX9 19 "LeastRights" "folk" "LLeastRights$Folk;") (by decide +kernel)
  have n112 := va_Nw.use (A := ([.ref (ad 0), .int a1] : List Value).toArray) rfl (hN.1 ("LeastRights", 112, "LeastRights$Folk", "rights", "[I") (by decide +kernel))
  have iX5 : ∀ w ∈ wsX50, w ∈ wsX9_keptOf := by decide +kernel
  have hl := lv_entry ([.ref (ad 0), .int a1]) (n := 3) (Nat.le_of_ble_eq_true rfl)
  rw [lg_entry_eq]
  generalize (lg_sl ([.ref (ad 0), .int a1]) ++ List.replicate (3 - (lg_sl ([.ref (ad 0), .int a1])).length) Slot.unset).toArray = ls at hl ⊢
  have hl : lv_has ls 3 [(0, .ref (ad 0)), (1, .int a1)] := hl
  unfold wX9_keptOf at hw
  refine lv_aload_n hx hb dX9_keptOf_0 rfl (lv_at hl 0 rfl) ?_
  refine va_get hx hb hts iX9 hown hK hP 0 (xw_q0 ad cI cJ cZ σ0) rfl 2 (by decide) f26 (fun _ h9 => h9) rfl dX9_keptOf_1 ?_
  refine lv_iload_n hx hb dX9_keptOf_4 rfl (lv_at hl 1 rfl) ?_
  refine lv_aload_n hx hb dX9_keptOf_5 rfl (lv_at hl 0 rfl) ?_
  refine va_get hx hb hts iX9 hown hK hP 0 (xw_q0 ad cI cJ cZ σ0) rfl 0 (by decide) f10 (fun _ h9 => h9) rfl dX9_keptOf_6 ?_
  refine wd_cVi ⟨hx, hb, hml, hown, hts⟩ (mtX8_recent l D ad cI cJ cZ A hD σ0 a1 _ hw) (cwV 2 hts gX9_keptOf_X8_recent rfl rfl rfl (by decide +kernel) ⟨(Nat.le_of_ble_eq_true rfl), (Nat.le_of_ble_eq_true rfl)⟩) (va_recv hK hP (ci := 8) (q0 := 3) rfl (xw_q3 ad cI cJ cZ σ0)) hK hN hP hS rfl hl.1 rfl (Nat.le_of_ble_eq_true rfl) dX9_keptOf_9 ⟨Nat.zero_le _, Nat.zero_le _⟩ (fun r1 u9 H locs hq hP hS => ?_)
  obtain ⟨hw, hu⟩ := hq
  rw [hu] at hP
  refine lv_aload_n hx hb dX9_keptOf_12 rfl (lv_at hl 0 rfl) ?_
  refine va_get hx hb hts iX9 hown hK hP 0 (xw_q0 ad cI cJ cZ σ0) rfl 2 (by decide) f26 (fun _ h9 => h9) rfl dX9_keptOf_13 ?_
  refine lv_iload_n hx hb dX9_keptOf_16 rfl (lv_at hl 1 rfl) ?_
  refine lv_aload_n hx hb dX9_keptOf_17 rfl (lv_at hl 0 rfl) ?_
  refine va_get hx hb hts iX9 hown hK hP 0 (xw_q0 ad cI cJ cZ σ0) rfl 0 (by decide) f10 (fun _ h9 => h9) rfl dX9_keptOf_18 ?_
  refine wd_cVi ⟨hx, hb, hml, hown, hts⟩ (mtX8_seasonal l D ad cI cJ cZ A hD σ0 a1 _ hw) (cwV 2 hts gX9_keptOf_X8_seasonal rfl rfl rfl (by decide +kernel) ⟨(Nat.le_of_ble_eq_true rfl), (Nat.le_of_ble_eq_true rfl)⟩) (va_recv hK hP (ci := 8) (q0 := 3) rfl (xw_q3 ad cI cJ cZ σ0)) hK hN hP hS rfl hl.1 rfl (Nat.le_of_ble_eq_true rfl) dX9_keptOf_21 ⟨Nat.zero_le _, Nat.zero_le _⟩ (fun r2 u9 H locs hq hP hS => ?_)
  obtain ⟨hw, hu⟩ := hq
  rw [hu] at hP
  refine lv_ior hx hb dX9_keptOf_24 ?_
  refine lv_aload_n hx hb dX9_keptOf_25 rfl (lv_at hl 0 rfl) ?_
  refine va_get hx hb hts iX9 hown hK hP 0 (xw_q0 ad cI cJ cZ σ0) rfl 11 (by decide) f79 (fun _ h9 => h9) rfl dX9_keptOf_26 ?_
  refine lv_ior hx hb dX9_keptOf_29 ?_
  refine lv_topi (fun x3 ex3 => ?_)
  have hw := hw x3 ex3
  refine lv_istore_n (lv' := [(2, .int x3), (0, .ref (ad 0)), (1, .int a1)]) hx hb dX9_keptOf_30 rfl hl (by decide) rfl (fun ls hl => ?_)
  refine lv_aload_n hx hb dX9_keptOf_31 rfl (lv_at hl 1 rfl) ?_
  refine va_get hx hb hts iX9 hown hK hP 0 (xw_q0 ad cI cJ cZ σ0) rfl 1 (by decide) f19 (fun _ h9 => h9) rfl dX9_keptOf_32 ?_
  refine va_getN hx hb hts iX5 hown hK hP 2 (xw_q2 ad cI cJ cZ σ0) rfl 2 (by decide) n112 (fun _ h9 => h9) rfl dX9_keptOf_35 ?_
  refine lv_iload_n hx hb dX9_keptOf_38 rfl (lv_at hl 2 rfl) ?_
  obtain ⟨h9, hw⟩ := hw
  refine va_iald hx hb hK hP 13 0 (xw_q13 ad cI cJ cZ σ0) rfl h9 dX9_keptOf_39 ?_
  refine lv_iload_n hx hb dX9_keptOf_40 rfl (lv_at hl 0 rfl) ?_
  refine lv_iand hx hb dX9_keptOf_41 ?_
  exact wd_iret hx hb hr hlocks ⟨hw, rfl⟩ hP hS dX9_keptOf_42
def wX9_told (σ0 : St) (a1 : Int32) (a2 : Int32) (post : Int32 → Prop) : Prop := wX9_noPerson σ0 a1 (fun (r1 : Int32) => (r1 = 0 → ((a2 = 0 → (vp_in a1 10 ∧ (post (σ0.2.1 2 a1.toNatClampNeg)))) ∧ (¬ a2 = 0 → ((a2 = 1 → (vp_in a1 10 ∧ (post (σ0.2.1 3 a1.toNatClampNeg)))) ∧ (¬ a2 = 1 → ((a2 = 2 → (wX9_keptOf σ0 a1 (fun (r2 : Int32) => post r2))) ∧ (¬ a2 = 2 → ((a2 = 3 → (vp_in a1 10 ∧ (post (σ0.2.1 4 a1.toNatClampNeg)))) ∧ (¬ a2 = 3 → ((a2 = 4 → (wX8_ofPerson σ0 a1 (fun (r3 : Int32) => post r3))) ∧ (¬ a2 = 4 → (post (-1 : Int32))))))))))))) ∧ (¬ r1 = 0 → (post (-1 : Int32))))
set_option maxHeartbeats 4000000 in
set_option maxRecDepth 100000 in
theorem mtX9_told (l : Launch) (D : va_G) (ad : Nat → Nat) (cI cJ cZ : ClassId) (A : Nat → Prop) (hD : ∀ σ : St, va_D A (xw ad cI cJ cZ σ)) (σ0 : St) (a1 : Int32) (a2 : Int32) (post : Int32 → Prop) (hw : wX9_told σ0 a1 a2 post) : Met l yX9_told wsX9_told ({ frames := 3, cells := 0, slots := 0, locals := 70 } : Room) (va_Pc [.ref (ad 0), .int a1, .int a2] (wd_pre D (xw ad cI cJ cZ) (wd_tys cI cJ cZ) σ0)) (va_Qi (fun (r : Int32) (u : St) => post r ∧ u = σ0) (wd_B D (xw ad cI cJ cZ)) A) 0 0 A := by
  refine Met.ofW (cc := cX9_told) (maxL := 3) (ret := (some .int)) (by decide) rfl ?_
  intro p e s m args below meth c s₁ B hml hv
  obtain ⟨rfl, hP, hK, hN⟩ := hv
  have hx := B.exec
  have hb := B.bytes
  have hr := B.returns
  have hts := atoms_spec (ws := wsX9_told) B.pre
  have hown : s.vm.findClass RX9 = some m.cls := findClass_of_methodNamed B.named
  have hlocks := B.notSynchronized
  have hS : va_S A s.heap s.heap [] := va_S.rf
  have f19 := hts (.fieldLink RX9 19 "LeastRights" "folk" "LLeastRights$Folk;") (by decide +kernel)
  have iX9 : ∀ w ∈ wsX90, w ∈ wsX9_told := by decide +kernel
  have n109 := va_Nw.use (A := ([.ref (ad 0), .int a1, .int a2] : List Value).toArray) rfl (hN.1 ("LeastRights", 109, "LeastRights$Folk", "marks", "[I") (by decide +kernel))
  have iX5 : ∀ w ∈ wsX50, w ∈ wsX9_told := by decide +kernel
  have n112 := va_Nw.use (A := ([.ref (ad 0), .int a1, .int a2] : List Value).toArray) rfl (hN.1 ("LeastRights", 112, "LeastRights$Folk", "rights", "[I") (by decide +kernel))
  have n119 := va_Nw.use (A := ([.ref (ad 0), .int a1, .int a2] : List Value).toArray) rfl (hN.1 ("LeastRights", 119, "LeastRights$Folk", "struck", "[I") (by decide +kernel))
  have f26 := hts (.fieldLink RX9 26 "LeastRights" "log" "LLeastRights$UseLog;") (by decide +kernel)
  have hl := lv_entry ([.ref (ad 0), .int a1, .int a2]) (n := 3) (Nat.le_of_ble_eq_true rfl)
  rw [lg_entry_eq]
  generalize (lg_sl ([.ref (ad 0), .int a1, .int a2]) ++ List.replicate (3 - (lg_sl ([.ref (ad 0), .int a1, .int a2])).length) Slot.unset).toArray = ls at hl ⊢
  have hl : lv_has ls 3 [(0, .ref (ad 0)), (1, .int a1), (2, .int a2)] := hl
  unfold wX9_told at hw
  refine lv_aload_n hx hb dX9_told_0 rfl (lv_at hl 0 rfl) ?_
  refine lv_iload_n hx hb dX9_told_1 rfl (lv_at hl 1 rfl) ?_
  refine wd_cVi ⟨hx, hb, hml, hown, hts⟩ (mtX9_noPerson l D ad cI cJ cZ A hD σ0 a1 _ hw) (cwV 1 hts gX9_told_X9_noPerson rfl rfl rfl (by decide +kernel) ⟨(Nat.le_of_ble_eq_true rfl), (Nat.le_of_ble_eq_true rfl)⟩) (va_recv hK hP (ci := 9) (q0 := 0) rfl (xw_q0 ad cI cJ cZ σ0)) hK hN hP hS rfl hl.1 rfl (Nat.le_of_ble_eq_true rfl) dX9_told_2 ⟨Nat.zero_le _, Nat.zero_le _⟩ (fun r1 u9 H locs hq hP hS => ?_)
  obtain ⟨hw, hu⟩ := hq
  rw [hu] at hP
  refine lv_if_eq (tgt := 10) hx hb dX9_told_5 (by decide) (fun c9 => ?_) (fun c9 => ?_)
  · have hw := hw.1 c9
    refine lv_iload_n hx hb dX9_told_10 rfl (lv_at hl 2 rfl) ?_
    by_cases c0 : a2 = 0
    · have hw := hw.1 c0
      refine lv_tableIn (off := 33) (tgt := 44) hx hb dX9_told_11 (by rw [c0]; decide) (by rw [c0]; decide) (by rw [c0]; rfl) (by decide) ?_
      refine lv_aload_n hx hb dX9_told_44 rfl (lv_at hl 0 rfl) ?_
      refine va_get hx hb hts iX9 hown hK hP 0 (xw_q0 ad cI cJ cZ σ0) rfl 1 (by decide) f19 (fun _ h9 => h9) rfl dX9_told_45 ?_
      refine va_getN hx hb hts iX5 hown hK hP 2 (xw_q2 ad cI cJ cZ σ0) rfl 1 (by decide) n109 (fun _ h9 => h9) rfl dX9_told_48 ?_
      refine lv_iload_n hx hb dX9_told_51 rfl (lv_at hl 1 rfl) ?_
      obtain ⟨h9, hw⟩ := hw
      refine va_iald hx hb hK hP 12 0 (xw_q12 ad cI cJ cZ σ0) rfl h9 dX9_told_52 ?_
      exact wd_iret hx hb hr hlocks ⟨hw, rfl⟩ hP hS dX9_told_53
    · have hw := hw.2 c0
      by_cases c1 : a2 = 1
      · have hw := hw.1 c1
        refine lv_tableIn (off := 43) (tgt := 54) hx hb dX9_told_11 (by rw [c1]; decide) (by rw [c1]; decide) (by rw [c1]; rfl) (by decide) ?_
        refine lv_aload_n hx hb dX9_told_54 rfl (lv_at hl 0 rfl) ?_
        refine va_get hx hb hts iX9 hown hK hP 0 (xw_q0 ad cI cJ cZ σ0) rfl 1 (by decide) f19 (fun _ h9 => h9) rfl dX9_told_55 ?_
        refine va_getN hx hb hts iX5 hown hK hP 2 (xw_q2 ad cI cJ cZ σ0) rfl 2 (by decide) n112 (fun _ h9 => h9) rfl dX9_told_58 ?_
        refine lv_iload_n hx hb dX9_told_61 rfl (lv_at hl 1 rfl) ?_
        obtain ⟨h9, hw⟩ := hw
        refine va_iald hx hb hK hP 13 0 (xw_q13 ad cI cJ cZ σ0) rfl h9 dX9_told_62 ?_
        exact wd_iret hx hb hr hlocks ⟨hw, rfl⟩ hP hS dX9_told_63
      · have hw := hw.2 c1
        by_cases c2 : a2 = 2
        · have hw := hw.1 c2
          refine lv_tableIn (off := 53) (tgt := 64) hx hb dX9_told_11 (by rw [c2]; decide) (by rw [c2]; decide) (by rw [c2]; rfl) (by decide) ?_
          refine lv_aload_n hx hb dX9_told_64 rfl (lv_at hl 0 rfl) ?_
          refine lv_iload_n hx hb dX9_told_65 rfl (lv_at hl 1 rfl) ?_
          refine wd_cVi ⟨hx, hb, hml, hown, hts⟩ (mtX9_keptOf l D ad cI cJ cZ A hD σ0 a1 _ hw) (cwV 1 hts gX9_told_X9_keptOf rfl rfl rfl (by decide +kernel) ⟨(Nat.le_of_ble_eq_true rfl), (Nat.le_of_ble_eq_true rfl)⟩) (va_recv hK hP (ci := 9) (q0 := 0) rfl (xw_q0 ad cI cJ cZ σ0)) hK hN hP hS rfl hl.1 rfl (Nat.le_of_ble_eq_true rfl) dX9_told_66 ⟨Nat.zero_le _, Nat.zero_le _⟩ (fun r2 u9 H locs hq hP hS => ?_)
          obtain ⟨hw, hu⟩ := hq
          rw [hu] at hP
          exact wd_iret hx hb hr hlocks ⟨hw, rfl⟩ hP hS dX9_told_69
        · have hw := hw.2 c2
          by_cases c3 : a2 = 3
          · have hw := hw.1 c3
            refine lv_tableIn (off := 59) (tgt := 70) hx hb dX9_told_11 (by rw [c3]; decide) (by rw [c3]; decide) (by rw [c3]; rfl) (by decide) ?_
            refine lv_aload_n hx hb dX9_told_70 rfl (lv_at hl 0 rfl) ?_
            refine va_get hx hb hts iX9 hown hK hP 0 (xw_q0 ad cI cJ cZ σ0) rfl 1 (by decide) f19 (fun _ h9 => h9) rfl dX9_told_71 ?_
            refine va_getN hx hb hts iX5 hown hK hP 2 (xw_q2 ad cI cJ cZ σ0) rfl 3 (by decide) n119 (fun _ h9 => h9) rfl dX9_told_74 ?_
            refine lv_iload_n hx hb dX9_told_77 rfl (lv_at hl 1 rfl) ?_
            obtain ⟨h9, hw⟩ := hw
            refine va_iald hx hb hK hP 14 0 (xw_q14 ad cI cJ cZ σ0) rfl h9 dX9_told_78 ?_
            exact wd_iret hx hb hr hlocks ⟨hw, rfl⟩ hP hS dX9_told_79
          · have hw := hw.2 c3
            by_cases c4 : a2 = 4
            · have hw := hw.1 c4
              refine lv_tableIn (off := 69) (tgt := 80) hx hb dX9_told_11 (by rw [c4]; decide) (by rw [c4]; decide) (by rw [c4]; rfl) (by decide) ?_
              refine lv_aload_n hx hb dX9_told_80 rfl (lv_at hl 0 rfl) ?_
              refine va_get hx hb hts iX9 hown hK hP 0 (xw_q0 ad cI cJ cZ σ0) rfl 2 (by decide) f26 (fun _ h9 => h9) rfl dX9_told_81 ?_
              refine lv_iload_n hx hb dX9_told_84 rfl (lv_at hl 1 rfl) ?_
              refine wd_cVi ⟨hx, hb, hml, hown, hts⟩ (mtX8_ofPerson l D ad cI cJ cZ A hD σ0 a1 _ hw) (cwV 1 hts gX9_told_X8_ofPerson rfl rfl rfl (by decide +kernel) ⟨(Nat.le_of_ble_eq_true rfl), (Nat.le_of_ble_eq_true rfl)⟩) (va_recv hK hP (ci := 8) (q0 := 3) rfl (xw_q3 ad cI cJ cZ σ0)) hK hN hP hS rfl hl.1 rfl (Nat.le_of_ble_eq_true rfl) dX9_told_85 ⟨Nat.zero_le _, Nat.zero_le _⟩ (fun r3 u9 H locs hq hP hS => ?_)
              obtain ⟨hw, hu⟩ := hq
              rw [hu] at hP
              exact wd_iret hx hb hr hlocks ⟨hw, rfl⟩ hP hS dX9_told_88
            · have hw := hw.2 c4
              refine lv_tableOut (tgt := 89) hx hb dX9_told_11 (wd_sw4 a2 c0 c1 c2 c3 c4) (by decide) ?_
              refine lv_iconst (v := -1) hx hb dX9_told_89 (by decide) ?_
              exact wd_iret hx hb hr hlocks ⟨hw, rfl⟩ hP hS dX9_told_90
  · have hw := hw.2 c9
    refine lv_iconst (v := -1) hx hb dX9_told_8 (by decide) ?_
    exact wd_iret hx hb hr hlocks ⟨hw, rfl⟩ hP hS dX9_told_9
def wX9_standby (σ0 : St) (a1 : Int32) (post : Int32 → St → Prop) : Prop := wX9_noRightSet a1 (fun (r1 : Int32) => (r1 = 0 → (∀ x2 : Int32, x2 = (σ0.1 0) → (∀ σ3 : St, σ3 = st_S σ0 0 a1 → (post x2 σ3)))) ∧ (¬ r1 = 0 → (post (-1 : Int32) σ0)))
set_option maxHeartbeats 4000000 in
set_option maxRecDepth 100000 in
theorem mtX9_standby (l : Launch) (D : va_G) (ad : Nat → Nat) (cI cJ cZ : ClassId) (A : Nat → Prop) (hD : ∀ σ : St, va_D A (xw ad cI cJ cZ σ)) (σ0 : St) (a1 : Int32) (post : Int32 → St → Prop) (hw : wX9_standby σ0 a1 post) : Met l yX9_standby wsX9_standby ({ frames := 1, cells := 0, slots := 0, locals := 20 } : Room) (va_Pc [.ref (ad 0), .int a1] (wd_pre D (xw ad cI cJ cZ) (wd_tys cI cJ cZ) σ0)) (va_Qi post (wd_B D (xw ad cI cJ cZ)) A) 0 0 A := by
  refine Met.ofW (cc := cX9_standby) (maxL := 3) (ret := (some .int)) (by decide) rfl ?_
  intro p e s m args below meth c s₁ B hml hv
  obtain ⟨rfl, hP, hK, hN⟩ := hv
  have hx := B.exec
  have hb := B.bytes
  have hr := B.returns
  have hts := atoms_spec (ws := wsX9_standby) B.pre
  have hown : s.vm.findClass RX9 = some m.cls := findClass_of_methodNamed B.named
  have hlocks := B.notSynchronized
  have hS : va_S A s.heap s.heap [] := va_S.rf
  have f79 := hts (.fieldLink RX9 79 "LeastRights" "standbyRights" "I") (by decide +kernel)
  have iX9 : ∀ w ∈ wsX90, w ∈ wsX9_standby := by decide +kernel
  have hl := lv_entry ([.ref (ad 0), .int a1]) (n := 3) (Nat.le_of_ble_eq_true rfl)
  rw [lg_entry_eq]
  generalize (lg_sl ([.ref (ad 0), .int a1]) ++ List.replicate (3 - (lg_sl ([.ref (ad 0), .int a1])).length) Slot.unset).toArray = ls at hl ⊢
  have hl : lv_has ls 3 [(0, .ref (ad 0)), (1, .int a1)] := hl
  unfold wX9_standby at hw
  refine lv_iload_n hx hb dX9_standby_0 rfl (lv_at hl 1 rfl) ?_
  refine wd_cSi ⟨hx, hb, hml, hown, hts⟩ (mtX9_noRightSet l D ad cI cJ cZ A hD σ0 a1 _ hw) (va_cwS 1 hts gX9_standby_X9_noRightSet rfl rfl rfl (by decide +kernel) ⟨(Nat.le_of_ble_eq_true rfl), (Nat.le_of_ble_eq_true rfl)⟩) hK hN hP hS rfl hl.1 rfl (Nat.le_of_ble_eq_true rfl) dX9_standby_1 ⟨Nat.zero_le _, Nat.zero_le _⟩ (fun r1 u9 H locs hq hP hS => ?_)
  obtain ⟨hw, hu⟩ := hq
  rw [hu] at hP
  refine lv_if_eq (tgt := 9) hx hb dX9_standby_4 (by decide) (fun c9 => ?_) (fun c9 => ?_)
  · have hw := hw.1 c9
    refine lv_aload_n hx hb dX9_standby_9 rfl (lv_at hl 0 rfl) ?_
    refine va_get hx hb hts iX9 hown hK hP 0 (xw_q0 ad cI cJ cZ σ0) rfl 11 (by decide) f79 (fun _ h9 => h9) rfl dX9_standby_10 ?_
    refine lv_topi (fun x2 ex2 => ?_)
    have hw := hw x2 ex2
    refine lv_istore_n (lv' := [(2, .int x2), (0, .ref (ad 0)), (1, .int a1)]) hx hb dX9_standby_13 rfl hl (by decide) rfl (fun ls hl => ?_)
    refine lv_aload_n hx hb dX9_standby_14 rfl (lv_at hl 1 rfl) ?_
    refine lv_iload_n hx hb dX9_standby_15 rfl (lv_at hl 2 rfl) ?_
    refine wd_put 0 0 11 (ty := .int) tyX9 hx hb hts iX9 tyX9_ok nmX9 hown hK hP hD hS (xw_q0 ad cI cJ cZ σ0) rfl (by decide) f79 (fun _ h9 => h9) rfl (by decide +kernel) rfl rfl (Nat.le_of_ble_eq_true rfl) (xw_s0 ad cI cJ cZ σ0) dX9_standby_16 (fun H locs σ3 eσ3 hP hS => ?_)
    have hw := hw σ3 eσ3
    refine lv_iload_n hx hb dX9_standby_19 rfl (lv_at hl 0 rfl) ?_
    exact wd_iret hx hb hr hlocks hw hP hS dX9_standby_20
  · have hw := hw.2 c9
    refine lv_iconst (v := -1) hx hb dX9_standby_7 (by decide) ?_
    exact wd_iret hx hb hr hlocks hw hP hS dX9_standby_8
def wX9_rule (σ0 : St) (a1 : Int32) (a2 : Int32) (a3 : Int32) (post : Int32 → St → Prop) : Prop := (a1 < (1 : Int32) → (post (-1 : Int32) σ0)) ∧ (¬ a1 < (1 : Int32) → (((999 : Int32) < a1 → (post (-1 : Int32) σ0)) ∧ (¬ (999 : Int32) < a1 → ((a2 < (1 : Int32) → (post (-1 : Int32) σ0)) ∧ (¬ a2 < (1 : Int32) → ((a2 ≤ (999 : Int32) → ((a3 < 0 → (post (-1 : Int32) σ0)) ∧ (¬ a3 < 0 → ((a3 ≤ (999 : Int32) → (∀ σ1 : St, σ1 = st_S σ0 3 a1 → (∀ σ2 : St, σ2 = st_S σ1 4 a2 → (∀ σ3 : St, σ3 = st_S σ2 5 a3 → (post (1 : Int32) σ3))))) ∧ (¬ a3 ≤ (999 : Int32) → (post (-1 : Int32) σ0)))))) ∧ (¬ a2 ≤ (999 : Int32) → (post (-1 : Int32) σ0))))))))
set_option maxHeartbeats 4000000 in
set_option maxRecDepth 100000 in
theorem mtX9_rule (l : Launch) (D : va_G) (ad : Nat → Nat) (cI cJ cZ : ClassId) (A : Nat → Prop) (hD : ∀ σ : St, va_D A (xw ad cI cJ cZ σ)) (σ0 : St) (a1 : Int32) (a2 : Int32) (a3 : Int32) (post : Int32 → St → Prop) (hw : wX9_rule σ0 a1 a2 a3 post) : Met l yX9_rule wsX9_rule ({ frames := 0, cells := 0, slots := 0, locals := 0 } : Room) (va_Pc [.ref (ad 0), .int a1, .int a2, .int a3] (wd_pre D (xw ad cI cJ cZ) (wd_tys cI cJ cZ) σ0)) (va_Qi post (wd_B D (xw ad cI cJ cZ)) A) 0 0 A := by
  refine Met.ofW (cc := cX9_rule) (maxL := 4) (ret := (some .int)) (by decide) rfl ?_
  intro p e s m args below meth c s₁ B hml hv
  obtain ⟨rfl, hP, hK, hN⟩ := hv
  have hx := B.exec
  have hb := B.bytes
  have hr := B.returns
  have hts := atoms_spec (ws := wsX9_rule) B.pre
  have hown : s.vm.findClass RX9 = some m.cls := findClass_of_methodNamed B.named
  have hlocks := B.notSynchronized
  have hS : va_S A s.heap s.heap [] := va_S.rf
  have f10 := hts (.fieldLink RX9 10 "LeastRights" "days" "LLeastRights$Days;") (by decide +kernel)
  have iX9 : ∀ w ∈ wsX90, w ∈ wsX9_rule := by decide +kernel
  have n125 := va_Nw.use (A := ([.ref (ad 0), .int a1, .int a2, .int a3] : List Value).toArray) rfl (hN.1 ("LeastRights", 125, "LeastRights$Days", "span", "I") (by decide +kernel))
  have iX2 : ∀ w ∈ wsX20, w ∈ wsX9_rule := by decide +kernel
  have n128 := va_Nw.use (A := ([.ref (ad 0), .int a1, .int a2, .int a3] : List Value).toArray) rfl (hN.1 ("LeastRights", 128, "LeastRights$Days", "season", "I") (by decide +kernel))
  have n131 := va_Nw.use (A := ([.ref (ad 0), .int a1, .int a2, .int a3] : List Value).toArray) rfl (hN.1 ("LeastRights", 131, "LeastRights$Days", "grace", "I") (by decide +kernel))
  have hl := lv_entry ([.ref (ad 0), .int a1, .int a2, .int a3]) (n := 4) (Nat.le_of_ble_eq_true rfl)
  rw [lg_entry_eq]
  generalize (lg_sl ([.ref (ad 0), .int a1, .int a2, .int a3]) ++ List.replicate (4 - (lg_sl ([.ref (ad 0), .int a1, .int a2, .int a3])).length) Slot.unset).toArray = ls at hl ⊢
  have hl : lv_has ls 4 [(0, .ref (ad 0)), (1, .int a1), (2, .int a2), (3, .int a3)] := hl
  unfold wX9_rule at hw
  refine lv_iload_n hx hb dX9_rule_0 rfl (lv_at hl 1 rfl) ?_
  refine lv_iconst (v := 1) hx hb dX9_rule_1 (by decide) ?_
  refine lv_icmp_lt (tgt := 24) hx hb dX9_rule_2 (by decide) (fun c9 => ?_) (fun c9 => ?_)
  · have hw := hw.1 c9
    refine lv_iconst (v := -1) hx hb dX9_rule_24 (by decide) ?_
    exact wd_iret hx hb hr hlocks hw hP hS dX9_rule_25
  · have hw := hw.2 c9
    refine lv_iload_n hx hb dX9_rule_5 rfl (lv_at hl 1 rfl) ?_
    refine lv_sipush (v := 999) hx hb dX9_rule_6 (by decide) ?_
    refine lv_icmp_gt (tgt := 24) hx hb dX9_rule_9 (by decide) (fun c9 => ?_) (fun c9 => ?_)
    · have hw := hw.1 c9
      refine lv_iconst (v := -1) hx hb dX9_rule_24 (by decide) ?_
      exact wd_iret hx hb hr hlocks hw hP hS dX9_rule_25
    · have hw := hw.2 c9
      refine lv_iload_n hx hb dX9_rule_12 rfl (lv_at hl 2 rfl) ?_
      refine lv_iconst (v := 1) hx hb dX9_rule_13 (by decide) ?_
      refine lv_icmp_lt (tgt := 24) hx hb dX9_rule_14 (by decide) (fun c9 => ?_) (fun c9 => ?_)
      · have hw := hw.1 c9
        refine lv_iconst (v := -1) hx hb dX9_rule_24 (by decide) ?_
        exact wd_iret hx hb hr hlocks hw hP hS dX9_rule_25
      · have hw := hw.2 c9
        refine lv_iload_n hx hb dX9_rule_17 rfl (lv_at hl 2 rfl) ?_
        refine lv_sipush (v := 999) hx hb dX9_rule_18 (by decide) ?_
        refine lv_icmp_le (tgt := 26) hx hb dX9_rule_21 (by decide) (fun c9 => ?_) (fun c9 => ?_)
        · have hw := hw.1 c9
          refine lv_iload_n hx hb dX9_rule_26 rfl (lv_at hl 3 rfl) ?_
          refine lv_if_lt (tgt := 37) hx hb dX9_rule_27 (by decide) (fun c9 => ?_) (fun c9 => ?_)
          · have hw := hw.1 c9
            refine lv_iconst (v := -1) hx hb dX9_rule_37 (by decide) ?_
            exact wd_iret hx hb hr hlocks hw hP hS dX9_rule_38
          · have hw := hw.2 c9
            refine lv_iload_n hx hb dX9_rule_30 rfl (lv_at hl 3 rfl) ?_
            refine lv_sipush (v := 999) hx hb dX9_rule_31 (by decide) ?_
            refine lv_icmp_le (tgt := 39) hx hb dX9_rule_34 (by decide) (fun c9 => ?_) (fun c9 => ?_)
            · have hw := hw.1 c9
              refine lv_aload_n hx hb dX9_rule_39 rfl (lv_at hl 0 rfl) ?_
              refine va_get hx hb hts iX9 hown hK hP 0 (xw_q0 ad cI cJ cZ σ0) rfl 0 (by decide) f10 (fun _ h9 => h9) rfl dX9_rule_40 ?_
              refine lv_iload_n hx hb dX9_rule_43 rfl (lv_at hl 1 rfl) ?_
              refine wd_putN 3 1 1 (ty := .int) tyX2 hx hb hts iX2 tyX2_ok nmX2 hown hK hP hD hS (xw_q1 ad cI cJ cZ σ0) rfl (by decide) n125 (fun _ h9 => h9) rfl (by decide +kernel) rfl rfl (Nat.le_of_ble_eq_true rfl) (xw_s3 ad cI cJ cZ σ0) dX9_rule_44 (fun H locs σ1 eσ1 hP hS => ?_)
              have hw := hw σ1 eσ1
              refine lv_aload_n hx hb dX9_rule_47 rfl (lv_at hl 0 rfl) ?_
              refine va_get hx hb hts iX9 hown hK hP 0 (xw_q0 ad cI cJ cZ σ1) rfl 0 (by decide) f10 (fun _ h9 => h9) rfl dX9_rule_48 ?_
              refine lv_iload_n hx hb dX9_rule_51 rfl (lv_at hl 2 rfl) ?_
              refine wd_putN 4 1 2 (ty := .int) tyX2 hx hb hts iX2 tyX2_ok nmX2 hown hK hP hD hS (xw_q1 ad cI cJ cZ σ1) rfl (by decide) n128 (fun _ h9 => h9) rfl (by decide +kernel) rfl rfl (Nat.le_of_ble_eq_true rfl) (xw_s4 ad cI cJ cZ σ1) dX9_rule_52 (fun H locs σ2 eσ2 hP hS => ?_)
              have hw := hw σ2 eσ2
              refine lv_aload_n hx hb dX9_rule_55 rfl (lv_at hl 0 rfl) ?_
              refine va_get hx hb hts iX9 hown hK hP 0 (xw_q0 ad cI cJ cZ σ2) rfl 0 (by decide) f10 (fun _ h9 => h9) rfl dX9_rule_56 ?_
              refine lv_iload_n hx hb dX9_rule_59 rfl (lv_at hl 3 rfl) ?_
              refine wd_putN 5 1 3 (ty := .int) tyX2 hx hb hts iX2 tyX2_ok nmX2 hown hK hP hD hS (xw_q1 ad cI cJ cZ σ2) rfl (by decide) n131 (fun _ h9 => h9) rfl (by decide +kernel) rfl rfl (Nat.le_of_ble_eq_true rfl) (xw_s5 ad cI cJ cZ σ2) dX9_rule_60 (fun H locs σ3 eσ3 hP hS => ?_)
              have hw := hw σ3 eσ3
              refine lv_iconst (v := 1) hx hb dX9_rule_63 (by decide) ?_
              exact wd_iret hx hb hr hlocks hw hP hS dX9_rule_64
            · have hw := hw.2 c9
              refine lv_iconst (v := -1) hx hb dX9_rule_37 (by decide) ?_
              exact wd_iret hx hb hr hlocks hw hP hS dX9_rule_38
        · have hw := hw.2 c9
          refine lv_iconst (v := -1) hx hb dX9_rule_24 (by decide) ?_
          exact wd_iret hx hb hr hlocks hw hP hS dX9_rule_25
