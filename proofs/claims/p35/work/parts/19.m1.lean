/-! X10_told X10_standby X10_rule X10_later X10_use X10_kind X10_uses X10_strikeBut X10_strike X10_ask -/
def wX10_told (σ0 : St) (a1 : Int32) (a2 : Int32) (post : Int32 → Prop) : Prop := wX10_isPerson σ0 a1 (fun (r1 : Int32) => (r1 = 0 → (post (-1 : Int32))) ∧ (¬ r1 = 0 → (wX10_in a2 (0 : Int32) (4 : Int32) (fun (r2 : Int32) => (r2 = 0 → (post (-1 : Int32))) ∧ (¬ r2 = 0 → (wX10_tells σ0 a1 a2 (fun (r3 : Int32) => post r3)))))))
set_option maxHeartbeats 4000000 in
set_option maxRecDepth 100000 in
theorem mtX10_told (l : Launch) (D : va_G) (am : Nat → Nat) (cI cJ cZ : ClassId) (A : Nat → Prop) (hD : ∀ σ : St, va_D A (mw am cI cJ cZ σ)) (σ0 : St) (a1 : Int32) (a2 : Int32) (post : Int32 → Prop) (hw : wX10_told σ0 a1 a2 post) : Met l yX10_told wsX10_told ({ frames := 4, cells := 0, slots := 0, locals := 95 } : Room) (va_Pc [.ref (am 0), .int a1, .int a2] (wd_pre D (mw am cI cJ cZ) (wd_tys cI cJ cZ) σ0)) (va_Qi (fun (r : Int32) (u : St) => post r ∧ u = σ0) (wd_B D (mw am cI cJ cZ)) A) 0 0 A := by
  refine Met.ofW (cc := cX10_told) (maxL := 3) (ret := (some .int)) (by decide) rfl ?_
  intro p e s m args below meth c s₁ B hml hv
  obtain ⟨rfl, hP, hK, hN⟩ := hv
  have hx := B.exec
  have hb := B.bytes
  have hr := B.returns
  have hts := atoms_spec (ws := wsX10_told) B.pre
  have hown : s.vm.findClass RX10 = some m.cls := findClass_of_methodNamed B.named
  have hlocks := B.notSynchronized
  have hS : va_S A s.heap s.heap [] := va_S.rf
  have hl := lv_entry ([.ref (am 0), .int a1, .int a2]) (n := 3) (Nat.le_of_ble_eq_true rfl)
  rw [lg_entry_eq]
  generalize (lg_sl ([.ref (am 0), .int a1, .int a2]) ++ List.replicate (3 - (lg_sl ([.ref (am 0), .int a1, .int a2])).length) Slot.unset).toArray = ls at hl ⊢
  have hl : lv_has ls 3 [(0, .ref (am 0)), (1, .int a1), (2, .int a2)] := hl
  unfold wX10_told at hw
  refine lv_aload_n hx hb dX10_told_0 rfl (lv_at hl 0 rfl) ?_
  refine lv_iload_n hx hb dX10_told_1 rfl (lv_at hl 1 rfl) ?_
  refine wd_cVi ⟨hx, hb, hml, hown, hts⟩ (mtX10_isPerson l D am cI cJ cZ A hD σ0 a1 _ hw) (cwV 1 hts gX10_told_X10_isPerson rfl rfl rfl (by decide +kernel) ⟨(Nat.le_of_ble_eq_true rfl), (Nat.le_of_ble_eq_true rfl)⟩) (va_recv hK hP (ci := 10) (q0 := 0) rfl (mw_q0 am cI cJ cZ σ0)) hK hN hP hS rfl hl.1 rfl (Nat.le_of_ble_eq_true rfl) dX10_told_2 ⟨Nat.zero_le _, Nat.zero_le _⟩ (fun r1 u9 H locs hq hP hS => ?_)
  obtain ⟨hw, hu⟩ := hq
  rw [hu] at hP
  refine lv_if_eq (tgt := 26) hx hb dX10_told_5 (by decide) (fun c9 => ?_) (fun c9 => ?_)
  · have hw := hw.1 c9
    refine lv_iconst (v := -1) hx hb dX10_told_26 (by decide) ?_
    exact wd_iret hx hb hr hlocks ⟨hw, rfl⟩ hP hS dX10_told_27
  · have hw := hw.2 c9
    refine lv_iload_n hx hb dX10_told_8 rfl (lv_at hl 2 rfl) ?_
    refine lv_iconst (v := 0) hx hb dX10_told_9 (by decide) ?_
    refine lv_iconst (v := 4) hx hb dX10_told_10 (by decide) ?_
    refine wd_cSi ⟨hx, hb, hml, hown, hts⟩ (mtX10_in l D am cI cJ cZ A hD σ0 a2 (0 : Int32) (4 : Int32) _ hw) (va_cwS 3 hts gX10_told_X10_in rfl rfl rfl (by decide +kernel) ⟨(Nat.le_of_ble_eq_true rfl), (Nat.le_of_ble_eq_true rfl)⟩) hK hN hP hS rfl hl.1 rfl (Nat.le_of_ble_eq_true rfl) dX10_told_11 ⟨Nat.zero_le _, Nat.zero_le _⟩ (fun r2 u9 H locs hq hP hS => ?_)
    obtain ⟨hw, hu⟩ := hq
    rw [hu] at hP
    refine lv_if_eq (tgt := 26) hx hb dX10_told_14 (by decide) (fun c9 => ?_) (fun c9 => ?_)
    · have hw := hw.1 c9
      refine lv_iconst (v := -1) hx hb dX10_told_26 (by decide) ?_
      exact wd_iret hx hb hr hlocks ⟨hw, rfl⟩ hP hS dX10_told_27
    · have hw := hw.2 c9
      refine lv_aload_n hx hb dX10_told_17 rfl (lv_at hl 0 rfl) ?_
      refine lv_iload_n hx hb dX10_told_18 rfl (lv_at hl 1 rfl) ?_
      refine lv_iload_n hx hb dX10_told_19 rfl (lv_at hl 2 rfl) ?_
      refine wd_cVi ⟨hx, hb, hml, hown, hts⟩ (mtX10_tells l D am cI cJ cZ A hD σ0 a1 a2 _ hw) (cwV 2 hts gX10_told_X10_tells rfl rfl rfl (by decide +kernel) ⟨(Nat.le_of_ble_eq_true rfl), (Nat.le_of_ble_eq_true rfl)⟩) (va_recv hK hP (ci := 10) (q0 := 0) rfl (mw_q0 am cI cJ cZ σ0)) hK hN hP hS rfl hl.1 rfl (Nat.le_of_ble_eq_true rfl) dX10_told_20 ⟨Nat.zero_le _, Nat.zero_le _⟩ (fun r3 u9 H locs hq hP hS => ?_)
      obtain ⟨hw, hu⟩ := hq
      rw [hu] at hP
      refine lv_goto (tgt := 27) hx hb dX10_told_23 (by decide) ?_
      exact wd_iret hx hb hr hlocks ⟨hw, rfl⟩ hP hS dX10_told_27
def wX10_standby (σ0 : St) (a1 : Int32) (post : Int32 → St → Prop) : Prop := wX10_in a1 (0 : Int32) (4095 : Int32) (fun (r1 : Int32) => (¬ r1 = 0 → (∀ x2 : Int32, x2 = (σ0.1 2) → (∀ σ3 : St, σ3 = st_S σ0 2 a1 → (post x2 σ3)))) ∧ (r1 = 0 → (post (-1 : Int32) σ0)))
set_option maxHeartbeats 4000000 in
set_option maxRecDepth 100000 in
theorem mtX10_standby (l : Launch) (D : va_G) (am : Nat → Nat) (cI cJ cZ : ClassId) (A : Nat → Prop) (hD : ∀ σ : St, va_D A (mw am cI cJ cZ σ)) (σ0 : St) (a1 : Int32) (post : Int32 → St → Prop) (hw : wX10_standby σ0 a1 post) : Met l yX10_standby wsX10_standby ({ frames := 1, cells := 0, slots := 0, locals := 22 } : Room) (va_Pc [.ref (am 0), .int a1] (wd_pre D (mw am cI cJ cZ) (wd_tys cI cJ cZ) σ0)) (va_Qi post (wd_B D (mw am cI cJ cZ)) A) 0 0 A := by
  refine Met.ofW (cc := cX10_standby) (maxL := 3) (ret := (some .int)) (by decide) rfl ?_
  intro p e s m args below meth c s₁ B hml hv
  obtain ⟨rfl, hP, hK, hN⟩ := hv
  have hx := B.exec
  have hb := B.bytes
  have hr := B.returns
  have hts := atoms_spec (ws := wsX10_standby) B.pre
  have hown : s.vm.findClass RX10 = some m.cls := findClass_of_methodNamed B.named
  have hlocks := B.notSynchronized
  have hS : va_S A s.heap s.heap [] := va_S.rf
  have f109 := hts (.fieldLink RX10 109 "LeastRightsModel" "standby" "I") (by decide +kernel)
  have iX10 : ∀ w ∈ wsX100, w ∈ wsX10_standby := by decide +kernel
  have hl := lv_entry ([.ref (am 0), .int a1]) (n := 3) (Nat.le_of_ble_eq_true rfl)
  rw [lg_entry_eq]
  generalize (lg_sl ([.ref (am 0), .int a1]) ++ List.replicate (3 - (lg_sl ([.ref (am 0), .int a1])).length) Slot.unset).toArray = ls at hl ⊢
  have hl : lv_has ls 3 [(0, .ref (am 0)), (1, .int a1)] := hl
  unfold wX10_standby at hw
  refine lv_iload_n hx hb dX10_standby_0 rfl (lv_at hl 1 rfl) ?_
  refine lv_iconst (v := 0) hx hb dX10_standby_1 (by decide) ?_
  refine lv_sipush (v := 4095) hx hb dX10_standby_2 (by decide) ?_
  refine wd_cSi ⟨hx, hb, hml, hown, hts⟩ (mtX10_in l D am cI cJ cZ A hD σ0 a1 (0 : Int32) (4095 : Int32) _ hw) (va_cwS 3 hts gX10_standby_X10_in rfl rfl rfl (by decide +kernel) ⟨(Nat.le_of_ble_eq_true rfl), (Nat.le_of_ble_eq_true rfl)⟩) hK hN hP hS rfl hl.1 rfl (Nat.le_of_ble_eq_true rfl) dX10_standby_5 ⟨Nat.zero_le _, Nat.zero_le _⟩ (fun r1 u9 H locs hq hP hS => ?_)
  obtain ⟨hw, hu⟩ := hq
  rw [hu] at hP
  refine lv_if_ne (tgt := 13) hx hb dX10_standby_8 (by decide) (fun c9 => ?_) (fun c9 => ?_)
  · have hw := hw.1 c9
    refine lv_aload_n hx hb dX10_standby_13 rfl (lv_at hl 0 rfl) ?_
    refine va_get hx hb hts iX10 hown hK hP 0 (mw_q0 am cI cJ cZ σ0) rfl 6 (by decide) f109 (fun _ h9 => h9) rfl dX10_standby_14 ?_
    refine lv_topi (fun x2 ex2 => ?_)
    have hw := hw x2 ex2
    refine lv_istore_n (lv' := [(2, .int x2), (0, .ref (am 0)), (1, .int a1)]) hx hb dX10_standby_17 rfl hl (by decide) rfl (fun ls hl => ?_)
    refine lv_aload_n hx hb dX10_standby_18 rfl (lv_at hl 1 rfl) ?_
    refine lv_iload_n hx hb dX10_standby_19 rfl (lv_at hl 2 rfl) ?_
    refine wd_put 2 0 6 (ty := .int) tyX10 hx hb hts iX10 tyX10_ok nmX10 hown hK hP hD hS (mw_q0 am cI cJ cZ σ0) rfl (by decide) f109 (fun _ h9 => h9) rfl (by decide +kernel) rfl rfl (Nat.le_of_ble_eq_true rfl) (mw_s2 am cI cJ cZ σ0) dX10_standby_20 (fun H locs σ3 eσ3 hP hS => ?_)
    have hw := hw σ3 eσ3
    refine lv_iload_n hx hb dX10_standby_23 rfl (lv_at hl 0 rfl) ?_
    exact wd_iret hx hb hr hlocks hw hP hS dX10_standby_24
  · have hw := hw.2 c9
    refine lv_iconst (v := -1) hx hb dX10_standby_11 (by decide) ?_
    exact wd_iret hx hb hr hlocks hw hP hS dX10_standby_12
def wX10_rule (σ0 : St) (a1 : Int32) (a2 : Int32) (a3 : Int32) (post : Int32 → St → Prop) : Prop := wX10_in a1 (1 : Int32) (999 : Int32) (fun (r1 : Int32) => (r1 = 0 → (post (-1 : Int32) σ0)) ∧ (¬ r1 = 0 → (wX10_in a2 (1 : Int32) (999 : Int32) (fun (r2 : Int32) => (r2 = 0 → (post (-1 : Int32) σ0)) ∧ (¬ r2 = 0 → (wX10_in a3 (0 : Int32) (999 : Int32) (fun (r3 : Int32) => (¬ r3 = 0 → (∀ σ4 : St, σ4 = st_S σ0 3 a1 → (∀ σ5 : St, σ5 = st_S σ4 4 a2 → (∀ σ6 : St, σ6 = st_S σ5 5 a3 → (post (1 : Int32) σ6))))) ∧ (r3 = 0 → (post (-1 : Int32) σ0)))))))))
set_option maxHeartbeats 4000000 in
set_option maxRecDepth 100000 in
theorem mtX10_rule (l : Launch) (D : va_G) (am : Nat → Nat) (cI cJ cZ : ClassId) (A : Nat → Prop) (hD : ∀ σ : St, va_D A (mw am cI cJ cZ σ)) (σ0 : St) (a1 : Int32) (a2 : Int32) (a3 : Int32) (post : Int32 → St → Prop) (hw : wX10_rule σ0 a1 a2 a3 post) : Met l yX10_rule wsX10_rule ({ frames := 1, cells := 0, slots := 0, locals := 22 } : Room) (va_Pc [.ref (am 0), .int a1, .int a2, .int a3] (wd_pre D (mw am cI cJ cZ) (wd_tys cI cJ cZ) σ0)) (va_Qi post (wd_B D (mw am cI cJ cZ)) A) 0 0 A := by
  refine Met.ofW (cc := cX10_rule) (maxL := 4) (ret := (some .int)) (by decide) rfl ?_
  intro p e s m args below meth c s₁ B hml hv
  obtain ⟨rfl, hP, hK, hN⟩ := hv
  have hx := B.exec
  have hb := B.bytes
  have hr := B.returns
  have hts := atoms_spec (ws := wsX10_rule) B.pre
  have hown : s.vm.findClass RX10 = some m.cls := findClass_of_methodNamed B.named
  have hlocks := B.notSynchronized
  have hS : va_S A s.heap s.heap [] := va_S.rf
  have f22 := hts (.fieldLink RX10 22 "LeastRightsModel" "span" "I") (by decide +kernel)
  have iX10 : ∀ w ∈ wsX100, w ∈ wsX10_rule := by decide +kernel
  have f26 := hts (.fieldLink RX10 26 "LeastRightsModel" "season" "I") (by decide +kernel)
  have f29 := hts (.fieldLink RX10 29 "LeastRightsModel" "grace" "I") (by decide +kernel)
  have hl := lv_entry ([.ref (am 0), .int a1, .int a2, .int a3]) (n := 4) (Nat.le_of_ble_eq_true rfl)
  rw [lg_entry_eq]
  generalize (lg_sl ([.ref (am 0), .int a1, .int a2, .int a3]) ++ List.replicate (4 - (lg_sl ([.ref (am 0), .int a1, .int a2, .int a3])).length) Slot.unset).toArray = ls at hl ⊢
  have hl : lv_has ls 4 [(0, .ref (am 0)), (1, .int a1), (2, .int a2), (3, .int a3)] := hl
  unfold wX10_rule at hw
  refine lv_iload_n hx hb dX10_rule_0 rfl (lv_at hl 1 rfl) ?_
  refine lv_iconst (v := 1) hx hb dX10_rule_1 (by decide) ?_
  refine lv_sipush (v := 999) hx hb dX10_rule_2 (by decide) ?_
  refine wd_cSi ⟨hx, hb, hml, hown, hts⟩ (mtX10_in l D am cI cJ cZ A hD σ0 a1 (1 : Int32) (999 : Int32) _ hw) (va_cwS 3 hts gX10_rule_X10_in rfl rfl rfl (by decide +kernel) ⟨(Nat.le_of_ble_eq_true rfl), (Nat.le_of_ble_eq_true rfl)⟩) hK hN hP hS rfl hl.1 rfl (Nat.le_of_ble_eq_true rfl) dX10_rule_5 ⟨Nat.zero_le _, Nat.zero_le _⟩ (fun r1 u9 H locs hq hP hS => ?_)
  obtain ⟨hw, hu⟩ := hq
  rw [hu] at hP
  refine lv_if_eq (tgt := 33) hx hb dX10_rule_8 (by decide) (fun c9 => ?_) (fun c9 => ?_)
  · have hw := hw.1 c9
    refine lv_iconst (v := -1) hx hb dX10_rule_33 (by decide) ?_
    exact wd_iret hx hb hr hlocks hw hP hS dX10_rule_34
  · have hw := hw.2 c9
    refine lv_iload_n hx hb dX10_rule_11 rfl (lv_at hl 2 rfl) ?_
    refine lv_iconst (v := 1) hx hb dX10_rule_12 (by decide) ?_
    refine lv_sipush (v := 999) hx hb dX10_rule_13 (by decide) ?_
    refine wd_cSi ⟨hx, hb, hml, hown, hts⟩ (mtX10_in l D am cI cJ cZ A hD σ0 a2 (1 : Int32) (999 : Int32) _ hw) (va_cwS 3 hts gX10_rule_X10_in rfl rfl rfl (by decide +kernel) ⟨(Nat.le_of_ble_eq_true rfl), (Nat.le_of_ble_eq_true rfl)⟩) hK hN hP hS rfl hl.1 rfl (Nat.le_of_ble_eq_true rfl) dX10_rule_16 ⟨Nat.zero_le _, Nat.zero_le _⟩ (fun r2 u9 H locs hq hP hS => ?_)
    obtain ⟨hw, hu⟩ := hq
    rw [hu] at hP
    refine lv_if_eq (tgt := 33) hx hb dX10_rule_19 (by decide) (fun c9 => ?_) (fun c9 => ?_)
    · have hw := hw.1 c9
      refine lv_iconst (v := -1) hx hb dX10_rule_33 (by decide) ?_
      exact wd_iret hx hb hr hlocks hw hP hS dX10_rule_34
    · have hw := hw.2 c9
      refine lv_iload_n hx hb dX10_rule_22 rfl (lv_at hl 3 rfl) ?_
      refine lv_iconst (v := 0) hx hb dX10_rule_23 (by decide) ?_
      refine lv_sipush (v := 999) hx hb dX10_rule_24 (by decide) ?_
      refine wd_cSi ⟨hx, hb, hml, hown, hts⟩ (mtX10_in l D am cI cJ cZ A hD σ0 a3 (0 : Int32) (999 : Int32) _ hw) (va_cwS 3 hts gX10_rule_X10_in rfl rfl rfl (by decide +kernel) ⟨(Nat.le_of_ble_eq_true rfl), (Nat.le_of_ble_eq_true rfl)⟩) hK hN hP hS rfl hl.1 rfl (Nat.le_of_ble_eq_true rfl) dX10_rule_27 ⟨Nat.zero_le _, Nat.zero_le _⟩ (fun r3 u9 H locs hq hP hS => ?_)
      obtain ⟨hw, hu⟩ := hq
      rw [hu] at hP
      refine lv_if_ne (tgt := 35) hx hb dX10_rule_30 (by decide) (fun c9 => ?_) (fun c9 => ?_)
      · have hw := hw.1 c9
        refine lv_aload_n hx hb dX10_rule_35 rfl (lv_at hl 0 rfl) ?_
        refine lv_iload_n hx hb dX10_rule_36 rfl (lv_at hl 1 rfl) ?_
        refine wd_put 3 0 7 (ty := .int) tyX10 hx hb hts iX10 tyX10_ok nmX10 hown hK hP hD hS (mw_q0 am cI cJ cZ σ0) rfl (by decide) f22 (fun _ h9 => h9) rfl (by decide +kernel) rfl rfl (Nat.le_of_ble_eq_true rfl) (mw_s3 am cI cJ cZ σ0) dX10_rule_37 (fun H locs σ4 eσ4 hP hS => ?_)
        have hw := hw σ4 eσ4
        refine lv_aload_n hx hb dX10_rule_40 rfl (lv_at hl 0 rfl) ?_
        refine lv_iload_n hx hb dX10_rule_41 rfl (lv_at hl 2 rfl) ?_
        refine wd_put 4 0 8 (ty := .int) tyX10 hx hb hts iX10 tyX10_ok nmX10 hown hK hP hD hS (mw_q0 am cI cJ cZ σ4) rfl (by decide) f26 (fun _ h9 => h9) rfl (by decide +kernel) rfl rfl (Nat.le_of_ble_eq_true rfl) (mw_s4 am cI cJ cZ σ4) dX10_rule_42 (fun H locs σ5 eσ5 hP hS => ?_)
        have hw := hw σ5 eσ5
        refine lv_aload_n hx hb dX10_rule_45 rfl (lv_at hl 0 rfl) ?_
        refine lv_iload_n hx hb dX10_rule_46 rfl (lv_at hl 3 rfl) ?_
        refine wd_put 5 0 9 (ty := .int) tyX10 hx hb hts iX10 tyX10_ok nmX10 hown hK hP hD hS (mw_q0 am cI cJ cZ σ5) rfl (by decide) f29 (fun _ h9 => h9) rfl (by decide +kernel) rfl rfl (Nat.le_of_ble_eq_true rfl) (mw_s5 am cI cJ cZ σ5) dX10_rule_47 (fun H locs σ6 eσ6 hP hS => ?_)
        have hw := hw σ6 eσ6
        refine lv_iconst (v := 1) hx hb dX10_rule_50 (by decide) ?_
        exact wd_iret hx hb hr hlocks hw hP hS dX10_rule_51
      · have hw := hw.2 c9
        refine lv_iconst (v := -1) hx hb dX10_rule_33 (by decide) ?_
        exact wd_iret hx hb hr hlocks hw hP hS dX10_rule_34
def wX10_later (σ0 : St) (a1 : Int32) (post : Int32 → St → Prop) : Prop := (a1 < 0 → (post (-1 : Int32) σ0)) ∧ (¬ a1 < 0 → ((a1 ≤ ((999 : Int32) - (σ0.1 6)) → (∀ σ1 : St, σ1 = st_S σ0 6 ((σ0.1 6) + a1) → (post (σ1.1 6) σ1))) ∧ (¬ a1 ≤ ((999 : Int32) - (σ0.1 6)) → (post (-1 : Int32) σ0))))
set_option maxHeartbeats 4000000 in
set_option maxRecDepth 100000 in
theorem mtX10_later (l : Launch) (D : va_G) (am : Nat → Nat) (cI cJ cZ : ClassId) (A : Nat → Prop) (hD : ∀ σ : St, va_D A (mw am cI cJ cZ σ)) (σ0 : St) (a1 : Int32) (post : Int32 → St → Prop) (hw : wX10_later σ0 a1 post) : Met l yX10_later wsX10_later ({ frames := 0, cells := 0, slots := 0, locals := 0 } : Room) (va_Pc [.ref (am 0), .int a1] (wd_pre D (mw am cI cJ cZ) (wd_tys cI cJ cZ) σ0)) (va_Qi post (wd_B D (mw am cI cJ cZ)) A) 0 0 A := by
  refine Met.ofW (cc := cX10_later) (maxL := 2) (ret := (some .int)) (by decide) rfl ?_
  intro p e s m args below meth c s₁ B hml hv
  obtain ⟨rfl, hP, hK, hN⟩ := hv
  have hx := B.exec
  have hb := B.bytes
  have hr := B.returns
  have hts := atoms_spec (ws := wsX10_later) B.pre
  have hown : s.vm.findClass RX10 = some m.cls := findClass_of_methodNamed B.named
  have hlocks := B.notSynchronized
  have hS : va_S A s.heap s.heap [] := va_S.rf
  have f106 := hts (.fieldLink RX10 106 "LeastRightsModel" "day" "I") (by decide +kernel)
  have iX10 : ∀ w ∈ wsX100, w ∈ wsX10_later := by decide +kernel
  have hl := lv_entry ([.ref (am 0), .int a1]) (n := 2) (Nat.le_of_ble_eq_true rfl)
  rw [lg_entry_eq]
  generalize (lg_sl ([.ref (am 0), .int a1]) ++ List.replicate (2 - (lg_sl ([.ref (am 0), .int a1])).length) Slot.unset).toArray = ls at hl ⊢
  have hl : lv_has ls 2 [(0, .ref (am 0)), (1, .int a1)] := hl
  unfold wX10_later at hw
  refine lv_iload_n hx hb dX10_later_0 rfl (lv_at hl 1 rfl) ?_
  refine lv_if_lt (tgt := 16) hx hb dX10_later_1 (by decide) (fun c9 => ?_) (fun c9 => ?_)
  · have hw := hw.1 c9
    refine lv_iconst (v := -1) hx hb dX10_later_16 (by decide) ?_
    exact wd_iret hx hb hr hlocks hw hP hS dX10_later_17
  · have hw := hw.2 c9
    refine lv_iload_n hx hb dX10_later_4 rfl (lv_at hl 1 rfl) ?_
    refine lv_sipush (v := 999) hx hb dX10_later_5 (by decide) ?_
    refine lv_aload_n hx hb dX10_later_8 rfl (lv_at hl 0 rfl) ?_
    refine va_get hx hb hts iX10 hown hK hP 0 (mw_q0 am cI cJ cZ σ0) rfl 10 (by decide) f106 (fun _ h9 => h9) rfl dX10_later_9 ?_
    refine lv_isub hx hb dX10_later_12 ?_
    refine lv_icmp_le (tgt := 18) hx hb dX10_later_13 (by decide) (fun c9 => ?_) (fun c9 => ?_)
    · have hw := hw.1 c9
      refine lv_aload_n hx hb dX10_later_18 rfl (lv_at hl 0 rfl) ?_
      refine lv_dup hx hb dX10_later_19 rfl ?_
      refine va_get hx hb hts iX10 hown hK hP 0 (mw_q0 am cI cJ cZ σ0) rfl 10 (by decide) f106 (fun _ h9 => h9) rfl dX10_later_20 ?_
      refine lv_iload_n hx hb dX10_later_23 rfl (lv_at hl 1 rfl) ?_
      refine lv_iadd hx hb dX10_later_24 ?_
      refine wd_put 6 0 10 (ty := .int) tyX10 hx hb hts iX10 tyX10_ok nmX10 hown hK hP hD hS (mw_q0 am cI cJ cZ σ0) rfl (by decide) f106 (fun _ h9 => h9) rfl (by decide +kernel) rfl rfl (Nat.le_of_ble_eq_true rfl) (mw_s6 am cI cJ cZ σ0) dX10_later_25 (fun H locs σ1 eσ1 hP hS => ?_)
      have hw := hw σ1 eσ1
      refine lv_aload_n hx hb dX10_later_28 rfl (lv_at hl 0 rfl) ?_
      refine va_get hx hb hts iX10 hown hK hP 0 (mw_q0 am cI cJ cZ σ1) rfl 10 (by decide) f106 (fun _ h9 => h9) rfl dX10_later_29 ?_
      exact wd_iret hx hb hr hlocks hw hP hS dX10_later_32
    · have hw := hw.2 c9
      refine lv_iconst (v := -1) hx hb dX10_later_16 (by decide) ?_
      exact wd_iret hx hb hr hlocks hw hP hS dX10_later_17
def wX10_use (σ0 : St) (a1 : Int32) (a2 : Int32) (a3 : Int32) (post : Int32 → St → Prop) : Prop := wX10_isPerson σ0 a1 (fun (r1 : Int32) => (r1 = 0 → (post (-1 : Int32) σ0)) ∧ (¬ r1 = 0 → (wX10_isRight a2 (fun (r2 : Int32) => (r2 = 0 → (post (-1 : Int32) σ0)) ∧ (¬ r2 = 0 → (wX10_in a3 (0 : Int32) (σ0.1 6) (fun (r3 : Int32) => (¬ r3 = 0 → ((¬ (σ0.1 7) = (400 : Int32) → (vp_in a1 10 ∧ (wX10_has (σ0.2.1 2 a1.toNatClampNeg) a2 (fun (r4 : Int32) => (¬ r4 = 0 → (vp_in (σ0.1 7) 400 ∧ (∀ σ5 : St, σ5 = st_A σ0 4 (σ0.1 7).toNatClampNeg a1 → (vp_in (σ5.1 7) 400 ∧ (∀ σ6 : St, σ6 = st_A σ5 5 (σ5.1 7).toNatClampNeg a2 → (vp_in (σ6.1 7) 400 ∧ (∀ σ7 : St, σ7 = st_A σ6 6 (σ6.1 7).toNatClampNeg ((σ6.1 6) - a3) → (∀ σ8 : St, σ8 = st_S σ7 7 ((σ7.1 7) + (1 : Int32)) → (post (σ8.1 7) σ8))))))))) ∧ (r4 = 0 → (post (-4 : Int32) σ0)))))) ∧ ((σ0.1 7) = (400 : Int32) → (post (-2 : Int32) σ0)))) ∧ (r3 = 0 → (post (-1 : Int32) σ0)))))))))
set_option maxHeartbeats 4000000 in
set_option maxRecDepth 100000 in
theorem mtX10_use (l : Launch) (D : va_G) (am : Nat → Nat) (cI cJ cZ : ClassId) (A : Nat → Prop) (hD : ∀ σ : St, va_D A (mw am cI cJ cZ σ)) (σ0 : St) (a1 : Int32) (a2 : Int32) (a3 : Int32) (post : Int32 → St → Prop) (hw : wX10_use σ0 a1 a2 a3 post) : Met l yX10_use wsX10_use ({ frames := 2, cells := 0, slots := 0, locals := 43 } : Room) (va_Pc [.ref (am 0), .int a1, .int a2, .int a3] (wd_pre D (mw am cI cJ cZ) (wd_tys cI cJ cZ) σ0)) (va_Qi post (wd_B D (mw am cI cJ cZ)) A) 0 0 A := by
  refine Met.ofW (cc := cX10_use) (maxL := 4) (ret := (some .int)) (by decide) rfl ?_
  intro p e s m args below meth c s₁ B hml hv
  obtain ⟨rfl, hP, hK, hN⟩ := hv
  have hx := B.exec
  have hb := B.bytes
  have hr := B.returns
  have hts := atoms_spec (ws := wsX10_use) B.pre
  have hown : s.vm.findClass RX10 = some m.cls := findClass_of_methodNamed B.named
  have hlocks := B.notSynchronized
  have hS : va_S A s.heap s.heap [] := va_S.rf
  have f106 := hts (.fieldLink RX10 106 "LeastRightsModel" "day" "I") (by decide +kernel)
  have iX10 : ∀ w ∈ wsX100, w ∈ wsX10_use := by decide +kernel
  have f103 := hts (.fieldLink RX10 103 "LeastRightsModel" "uses" "I") (by decide +kernel)
  have f16 := hts (.fieldLink RX10 16 "LeastRightsModel" "rights" "[I") (by decide +kernel)
  have f32 := hts (.fieldLink RX10 32 "LeastRightsModel" "usePerson" "[I") (by decide +kernel)
  have f35 := hts (.fieldLink RX10 35 "LeastRightsModel" "useRight" "[I") (by decide +kernel)
  have f38 := hts (.fieldLink RX10 38 "LeastRightsModel" "useDay" "[I") (by decide +kernel)
  have hl := lv_entry ([.ref (am 0), .int a1, .int a2, .int a3]) (n := 4) (Nat.le_of_ble_eq_true rfl)
  rw [lg_entry_eq]
  generalize (lg_sl ([.ref (am 0), .int a1, .int a2, .int a3]) ++ List.replicate (4 - (lg_sl ([.ref (am 0), .int a1, .int a2, .int a3])).length) Slot.unset).toArray = ls at hl ⊢
  have hl : lv_has ls 4 [(0, .ref (am 0)), (1, .int a1), (2, .int a2), (3, .int a3)] := hl
  unfold wX10_use at hw
  refine lv_aload_n hx hb dX10_use_0 rfl (lv_at hl 0 rfl) ?_
  refine lv_iload_n hx hb dX10_use_1 rfl (lv_at hl 1 rfl) ?_
  refine wd_cVi ⟨hx, hb, hml, hown, hts⟩ (mtX10_isPerson l D am cI cJ cZ A hD σ0 a1 _ hw) (cwV 1 hts gX10_use_X10_isPerson rfl rfl rfl (by decide +kernel) ⟨(Nat.le_of_ble_eq_true rfl), (Nat.le_of_ble_eq_true rfl)⟩) (va_recv hK hP (ci := 10) (q0 := 0) rfl (mw_q0 am cI cJ cZ σ0)) hK hN hP hS rfl hl.1 rfl (Nat.le_of_ble_eq_true rfl) dX10_use_2 ⟨Nat.zero_le _, Nat.zero_le _⟩ (fun r1 u9 H locs hq hP hS => ?_)
  obtain ⟨hw, hu⟩ := hq
  rw [hu] at hP
  refine lv_if_eq (tgt := 27) hx hb dX10_use_5 (by decide) (fun c9 => ?_) (fun c9 => ?_)
  · have hw := hw.1 c9
    refine lv_iconst (v := -1) hx hb dX10_use_27 (by decide) ?_
    exact wd_iret hx hb hr hlocks hw hP hS dX10_use_28
  · have hw := hw.2 c9
    refine lv_iload_n hx hb dX10_use_8 rfl (lv_at hl 2 rfl) ?_
    refine wd_cSi ⟨hx, hb, hml, hown, hts⟩ (mtX10_isRight l D am cI cJ cZ A hD σ0 a2 _ hw) (va_cwS 1 hts gX10_use_X10_isRight rfl rfl rfl (by decide +kernel) ⟨(Nat.le_of_ble_eq_true rfl), (Nat.le_of_ble_eq_true rfl)⟩) hK hN hP hS rfl hl.1 rfl (Nat.le_of_ble_eq_true rfl) dX10_use_9 ⟨Nat.zero_le _, Nat.zero_le _⟩ (fun r2 u9 H locs hq hP hS => ?_)
    obtain ⟨hw, hu⟩ := hq
    rw [hu] at hP
    refine lv_if_eq (tgt := 27) hx hb dX10_use_12 (by decide) (fun c9 => ?_) (fun c9 => ?_)
    · have hw := hw.1 c9
      refine lv_iconst (v := -1) hx hb dX10_use_27 (by decide) ?_
      exact wd_iret hx hb hr hlocks hw hP hS dX10_use_28
    · have hw := hw.2 c9
      refine lv_iload_n hx hb dX10_use_15 rfl (lv_at hl 3 rfl) ?_
      refine lv_iconst (v := 0) hx hb dX10_use_16 (by decide) ?_
      refine lv_aload_n hx hb dX10_use_17 rfl (lv_at hl 0 rfl) ?_
      refine va_get hx hb hts iX10 hown hK hP 0 (mw_q0 am cI cJ cZ σ0) rfl 10 (by decide) f106 (fun _ h9 => h9) rfl dX10_use_18 ?_
      refine wd_cSi ⟨hx, hb, hml, hown, hts⟩ (mtX10_in l D am cI cJ cZ A hD σ0 a3 (0 : Int32) (σ0.1 6) _ hw) (va_cwS 3 hts gX10_use_X10_in rfl rfl rfl (by decide +kernel) ⟨(Nat.le_of_ble_eq_true rfl), (Nat.le_of_ble_eq_true rfl)⟩) hK hN hP hS rfl hl.1 rfl (Nat.le_of_ble_eq_true rfl) dX10_use_21 ⟨Nat.zero_le _, Nat.zero_le _⟩ (fun r3 u9 H locs hq hP hS => ?_)
      obtain ⟨hw, hu⟩ := hq
      rw [hu] at hP
      refine lv_if_ne (tgt := 29) hx hb dX10_use_24 (by decide) (fun c9 => ?_) (fun c9 => ?_)
      · have hw := hw.1 c9
        refine lv_aload_n hx hb dX10_use_29 rfl (lv_at hl 0 rfl) ?_
        refine va_get hx hb hts iX10 hown hK hP 0 (mw_q0 am cI cJ cZ σ0) rfl 11 (by decide) f103 (fun _ h9 => h9) rfl dX10_use_30 ?_
        refine lv_sipush (v := 400) hx hb dX10_use_33 (by decide) ?_
        refine lv_icmp_ne (tgt := 42) hx hb dX10_use_36 (by decide) (fun c9 => ?_) (fun c9 => ?_)
        · have hw := hw.1 c9
          refine lv_aload_n hx hb dX10_use_42 rfl (lv_at hl 0 rfl) ?_
          refine va_get hx hb hts iX10 hown hK hP 0 (mw_q0 am cI cJ cZ σ0) rfl 4 (by decide) f16 (fun _ h9 => h9) rfl dX10_use_43 ?_
          refine lv_iload_n hx hb dX10_use_46 rfl (lv_at hl 1 rfl) ?_
          obtain ⟨h9, hw⟩ := hw
          refine va_iald hx hb hK hP 3 0 (mw_q3 am cI cJ cZ σ0) rfl h9 dX10_use_47 ?_
          refine lv_iload_n hx hb dX10_use_48 rfl (lv_at hl 2 rfl) ?_
          refine wd_cSi ⟨hx, hb, hml, hown, hts⟩ (mtX10_has l D am cI cJ cZ A hD σ0 (σ0.2.1 2 a1.toNatClampNeg) a2 _ hw) (va_cwS 2 hts gX10_use_X10_has rfl rfl rfl (by decide +kernel) ⟨(Nat.le_of_ble_eq_true rfl), (Nat.le_of_ble_eq_true rfl)⟩) hK hN hP hS rfl hl.1 rfl (Nat.le_of_ble_eq_true rfl) dX10_use_49 ⟨Nat.zero_le _, Nat.zero_le _⟩ (fun r4 u9 H locs hq hP hS => ?_)
          obtain ⟨hw, hu⟩ := hq
          rw [hu] at hP
          refine lv_if_ne (tgt := 58) hx hb dX10_use_52 (by decide) (fun c9 => ?_) (fun c9 => ?_)
          · have hw := hw.1 c9
            refine lv_aload_n hx hb dX10_use_58 rfl (lv_at hl 0 rfl) ?_
            refine va_get hx hb hts iX10 hown hK hP 0 (mw_q0 am cI cJ cZ σ0) rfl 12 (by decide) f32 (fun _ h9 => h9) rfl dX10_use_59 ?_
            refine lv_aload_n hx hb dX10_use_62 rfl (lv_at hl 0 rfl) ?_
            refine va_get hx hb hts iX10 hown hK hP 0 (mw_q0 am cI cJ cZ σ0) rfl 11 (by decide) f103 (fun _ h9 => h9) rfl dX10_use_63 ?_
            refine lv_iload_n hx hb dX10_use_66 rfl (lv_at hl 1 rfl) ?_
            obtain ⟨h9, hw⟩ := hw
            refine wd_iast 4 5 hx hb hK hP hD hS (mw_q5 am cI cJ cZ σ0) rfl (mw_a4 am cI cJ cZ σ0) h9 dX10_use_67 (fun H locs σ5 eσ5 hP hS => ?_)
            have hw := hw σ5 eσ5
            refine lv_aload_n hx hb dX10_use_68 rfl (lv_at hl 0 rfl) ?_
            refine va_get hx hb hts iX10 hown hK hP 0 (mw_q0 am cI cJ cZ σ5) rfl 13 (by decide) f35 (fun _ h9 => h9) rfl dX10_use_69 ?_
            refine lv_aload_n hx hb dX10_use_72 rfl (lv_at hl 0 rfl) ?_
            refine va_get hx hb hts iX10 hown hK hP 0 (mw_q0 am cI cJ cZ σ5) rfl 11 (by decide) f103 (fun _ h9 => h9) rfl dX10_use_73 ?_
            refine lv_iload_n hx hb dX10_use_76 rfl (lv_at hl 2 rfl) ?_
            obtain ⟨h9, hw⟩ := hw
            refine wd_iast 5 6 hx hb hK hP hD hS (mw_q6 am cI cJ cZ σ5) rfl (mw_a5 am cI cJ cZ σ5) h9 dX10_use_77 (fun H locs σ6 eσ6 hP hS => ?_)
            have hw := hw σ6 eσ6
            refine lv_aload_n hx hb dX10_use_78 rfl (lv_at hl 0 rfl) ?_
            refine va_get hx hb hts iX10 hown hK hP 0 (mw_q0 am cI cJ cZ σ6) rfl 14 (by decide) f38 (fun _ h9 => h9) rfl dX10_use_79 ?_
            refine lv_aload_n hx hb dX10_use_82 rfl (lv_at hl 0 rfl) ?_
            refine va_get hx hb hts iX10 hown hK hP 0 (mw_q0 am cI cJ cZ σ6) rfl 11 (by decide) f103 (fun _ h9 => h9) rfl dX10_use_83 ?_
            refine lv_aload_n hx hb dX10_use_86 rfl (lv_at hl 0 rfl) ?_
            refine va_get hx hb hts iX10 hown hK hP 0 (mw_q0 am cI cJ cZ σ6) rfl 10 (by decide) f106 (fun _ h9 => h9) rfl dX10_use_87 ?_
            refine lv_iload_n hx hb dX10_use_90 rfl (lv_at hl 3 rfl) ?_
            refine lv_isub hx hb dX10_use_91 ?_
            obtain ⟨h9, hw⟩ := hw
            refine wd_iast 6 7 hx hb hK hP hD hS (mw_q7 am cI cJ cZ σ6) rfl (mw_a6 am cI cJ cZ σ6) h9 dX10_use_92 (fun H locs σ7 eσ7 hP hS => ?_)
            have hw := hw σ7 eσ7
            refine lv_aload_n hx hb dX10_use_93 rfl (lv_at hl 0 rfl) ?_
            refine lv_dup hx hb dX10_use_94 rfl ?_
            refine va_get hx hb hts iX10 hown hK hP 0 (mw_q0 am cI cJ cZ σ7) rfl 11 (by decide) f103 (fun _ h9 => h9) rfl dX10_use_95 ?_
            refine lv_iconst (v := 1) hx hb dX10_use_98 (by decide) ?_
            refine lv_iadd hx hb dX10_use_99 ?_
            refine wd_put 7 0 11 (ty := .int) tyX10 hx hb hts iX10 tyX10_ok nmX10 hown hK hP hD hS (mw_q0 am cI cJ cZ σ7) rfl (by decide) f103 (fun _ h9 => h9) rfl (by decide +kernel) rfl rfl (Nat.le_of_ble_eq_true rfl) (mw_s7 am cI cJ cZ σ7) dX10_use_100 (fun H locs σ8 eσ8 hP hS => ?_)
            have hw := hw σ8 eσ8
            refine lv_aload_n hx hb dX10_use_103 rfl (lv_at hl 0 rfl) ?_
            refine va_get hx hb hts iX10 hown hK hP 0 (mw_q0 am cI cJ cZ σ8) rfl 11 (by decide) f103 (fun _ h9 => h9) rfl dX10_use_104 ?_
            exact wd_iret hx hb hr hlocks hw hP hS dX10_use_107
          · have hw := hw.2 c9
            refine lv_bipush (v := -4) hx hb dX10_use_55 (by decide) ?_
            exact wd_iret hx hb hr hlocks hw hP hS dX10_use_57
        · have hw := hw.2 c9
          refine lv_bipush (v := -2) hx hb dX10_use_39 (by decide) ?_
          exact wd_iret hx hb hr hlocks hw hP hS dX10_use_41
      · have hw := hw.2 c9
        refine lv_iconst (v := -1) hx hb dX10_use_27 (by decide) ?_
        exact wd_iret hx hb hr hlocks hw hP hS dX10_use_28
def wX10_kind (σ0 : St) (a1 : Int32) (a2 : Int32) (post : Int32 → Prop) : Prop := wX10_isPerson σ0 a1 (fun (r1 : Int32) => (r1 = 0 → (post (-1 : Int32))) ∧ (¬ r1 = 0 → (wX10_isRight a2 (fun (r2 : Int32) => (¬ r2 = 0 → (vp_in a1 10 ∧ (wX10_has (σ0.2.1 2 a1.toNatClampNeg) a2 (fun (r3 : Int32) => (r3 = 0 → (post (-4 : Int32))) ∧ (¬ r3 = 0 → (wX10_kindOf σ0 a1 a2 (fun (r4 : Int32) => post r4))))))) ∧ (r2 = 0 → (post (-1 : Int32)))))))
set_option maxHeartbeats 4000000 in
set_option maxRecDepth 100000 in
theorem mtX10_kind (l : Launch) (D : va_G) (am : Nat → Nat) (cI cJ cZ : ClassId) (A : Nat → Prop) (hD : ∀ σ : St, va_D A (mw am cI cJ cZ σ)) (σ0 : St) (a1 : Int32) (a2 : Int32) (post : Int32 → Prop) (hw : wX10_kind σ0 a1 a2 post) : Met l yX10_kind wsX10_kind ({ frames := 2, cells := 0, slots := 0, locals := 48 } : Room) (va_Pc [.ref (am 0), .int a1, .int a2] (wd_pre D (mw am cI cJ cZ) (wd_tys cI cJ cZ) σ0)) (va_Qi (fun (r : Int32) (u : St) => post r ∧ u = σ0) (wd_B D (mw am cI cJ cZ)) A) 0 0 A := by
  refine Met.ofW (cc := cX10_kind) (maxL := 3) (ret := (some .int)) (by decide) rfl ?_
  intro p e s m args below meth c s₁ B hml hv
  obtain ⟨rfl, hP, hK, hN⟩ := hv
  have hx := B.exec
  have hb := B.bytes
  have hr := B.returns
  have hts := atoms_spec (ws := wsX10_kind) B.pre
  have hown : s.vm.findClass RX10 = some m.cls := findClass_of_methodNamed B.named
  have hlocks := B.notSynchronized
  have hS : va_S A s.heap s.heap [] := va_S.rf
  have f16 := hts (.fieldLink RX10 16 "LeastRightsModel" "rights" "[I") (by decide +kernel)
  have iX10 : ∀ w ∈ wsX100, w ∈ wsX10_kind := by decide +kernel
  have hl := lv_entry ([.ref (am 0), .int a1, .int a2]) (n := 3) (Nat.le_of_ble_eq_true rfl)
  rw [lg_entry_eq]
  generalize (lg_sl ([.ref (am 0), .int a1, .int a2]) ++ List.replicate (3 - (lg_sl ([.ref (am 0), .int a1, .int a2])).length) Slot.unset).toArray = ls at hl ⊢
  have hl : lv_has ls 3 [(0, .ref (am 0)), (1, .int a1), (2, .int a2)] := hl
  unfold wX10_kind at hw
  refine lv_aload_n hx hb dX10_kind_0 rfl (lv_at hl 0 rfl) ?_
  refine lv_iload_n hx hb dX10_kind_1 rfl (lv_at hl 1 rfl) ?_
  refine wd_cVi ⟨hx, hb, hml, hown, hts⟩ (mtX10_isPerson l D am cI cJ cZ A hD σ0 a1 _ hw) (cwV 1 hts gX10_kind_X10_isPerson rfl rfl rfl (by decide +kernel) ⟨(Nat.le_of_ble_eq_true rfl), (Nat.le_of_ble_eq_true rfl)⟩) (va_recv hK hP (ci := 10) (q0 := 0) rfl (mw_q0 am cI cJ cZ σ0)) hK hN hP hS rfl hl.1 rfl (Nat.le_of_ble_eq_true rfl) dX10_kind_2 ⟨Nat.zero_le _, Nat.zero_le _⟩ (fun r1 u9 H locs hq hP hS => ?_)
  obtain ⟨hw, hu⟩ := hq
  rw [hu] at hP
  refine lv_if_eq (tgt := 15) hx hb dX10_kind_5 (by decide) (fun c9 => ?_) (fun c9 => ?_)
  · have hw := hw.1 c9
    refine lv_iconst (v := -1) hx hb dX10_kind_15 (by decide) ?_
    exact wd_iret hx hb hr hlocks ⟨hw, rfl⟩ hP hS dX10_kind_16
  · have hw := hw.2 c9
    refine lv_iload_n hx hb dX10_kind_8 rfl (lv_at hl 2 rfl) ?_
    refine wd_cSi ⟨hx, hb, hml, hown, hts⟩ (mtX10_isRight l D am cI cJ cZ A hD σ0 a2 _ hw) (va_cwS 1 hts gX10_kind_X10_isRight rfl rfl rfl (by decide +kernel) ⟨(Nat.le_of_ble_eq_true rfl), (Nat.le_of_ble_eq_true rfl)⟩) hK hN hP hS rfl hl.1 rfl (Nat.le_of_ble_eq_true rfl) dX10_kind_9 ⟨Nat.zero_le _, Nat.zero_le _⟩ (fun r2 u9 H locs hq hP hS => ?_)
    obtain ⟨hw, hu⟩ := hq
    rw [hu] at hP
    refine lv_if_ne (tgt := 17) hx hb dX10_kind_12 (by decide) (fun c9 => ?_) (fun c9 => ?_)
    · have hw := hw.1 c9
      refine lv_aload_n hx hb dX10_kind_17 rfl (lv_at hl 0 rfl) ?_
      refine va_get hx hb hts iX10 hown hK hP 0 (mw_q0 am cI cJ cZ σ0) rfl 4 (by decide) f16 (fun _ h9 => h9) rfl dX10_kind_18 ?_
      refine lv_iload_n hx hb dX10_kind_21 rfl (lv_at hl 1 rfl) ?_
      obtain ⟨h9, hw⟩ := hw
      refine va_iald hx hb hK hP 3 0 (mw_q3 am cI cJ cZ σ0) rfl h9 dX10_kind_22 ?_
      refine lv_iload_n hx hb dX10_kind_23 rfl (lv_at hl 2 rfl) ?_
      refine wd_cSi ⟨hx, hb, hml, hown, hts⟩ (mtX10_has l D am cI cJ cZ A hD σ0 (σ0.2.1 2 a1.toNatClampNeg) a2 _ hw) (va_cwS 2 hts gX10_kind_X10_has rfl rfl rfl (by decide +kernel) ⟨(Nat.le_of_ble_eq_true rfl), (Nat.le_of_ble_eq_true rfl)⟩) hK hN hP hS rfl hl.1 rfl (Nat.le_of_ble_eq_true rfl) dX10_kind_24 ⟨Nat.zero_le _, Nat.zero_le _⟩ (fun r3 u9 H locs hq hP hS => ?_)
      obtain ⟨hw, hu⟩ := hq
      rw [hu] at hP
      refine lv_if_eq (tgt := 39) hx hb dX10_kind_27 (by decide) (fun c9 => ?_) (fun c9 => ?_)
      · have hw := hw.1 c9
        refine lv_bipush (v := -4) hx hb dX10_kind_39 (by decide) ?_
        exact wd_iret hx hb hr hlocks ⟨hw, rfl⟩ hP hS dX10_kind_41
      · have hw := hw.2 c9
        refine lv_aload_n hx hb dX10_kind_30 rfl (lv_at hl 0 rfl) ?_
        refine lv_iload_n hx hb dX10_kind_31 rfl (lv_at hl 1 rfl) ?_
        refine lv_iload_n hx hb dX10_kind_32 rfl (lv_at hl 2 rfl) ?_
        refine wd_cVi ⟨hx, hb, hml, hown, hts⟩ (mtX10_kindOf l D am cI cJ cZ A hD σ0 a1 a2 _ hw) (cwV 2 hts gX10_kind_X10_kindOf rfl rfl rfl (by decide +kernel) ⟨(Nat.le_of_ble_eq_true rfl), (Nat.le_of_ble_eq_true rfl)⟩) (va_recv hK hP (ci := 10) (q0 := 0) rfl (mw_q0 am cI cJ cZ σ0)) hK hN hP hS rfl hl.1 rfl (Nat.le_of_ble_eq_true rfl) dX10_kind_33 ⟨Nat.zero_le _, Nat.zero_le _⟩ (fun r4 u9 H locs hq hP hS => ?_)
        obtain ⟨hw, hu⟩ := hq
        rw [hu] at hP
        refine lv_goto (tgt := 41) hx hb dX10_kind_36 (by decide) ?_
        exact wd_iret hx hb hr hlocks ⟨hw, rfl⟩ hP hS dX10_kind_41
    · have hw := hw.2 c9
      refine lv_iconst (v := -1) hx hb dX10_kind_15 (by decide) ?_
      exact wd_iret hx hb hr hlocks ⟨hw, rfl⟩ hP hS dX10_kind_16
def lpX10_uses_83 (u1 : Int32) (u2 : Int32) (σ : St) (post : Int32 → St → Prop) : Nat → Int32 → Int32 → Prop
  | 0, _, _ => False
  | n + 1, v5, v6 => ((σ.1 7) ≤ v6 → (post v5 σ)) ∧ (¬ (σ.1 7) ≤ v6 → (vp_in v6 400 ∧ ((¬ (σ.2.1 4 v6.toNatClampNeg) = u1 → (∀ x6 : Int32, x6 = (v5 + (0 : Int32)) → (∀ x7 : Int32, x7 = v6 + (1 : Int32) → (lpX10_uses_83 u1 u2 σ post n x6 x7)))) ∧ ((σ.2.1 4 v6.toNatClampNeg) = u1 → (vp_in v6 400 ∧ ((¬ (σ.2.1 5 v6.toNatClampNeg) = u2 → (∀ x8 : Int32, x8 = (v5 + (0 : Int32)) → (∀ x9 : Int32, x9 = v6 + (1 : Int32) → (lpX10_uses_83 u1 u2 σ post n x8 x9)))) ∧ ((σ.2.1 5 v6.toNatClampNeg) = u2 → (∀ x10 : Int32, x10 = (v5 + (1 : Int32)) → (∀ x11 : Int32, x11 = v6 + (1 : Int32) → (lpX10_uses_83 u1 u2 σ post n x10 x11))))))))))
def wX10_uses (σ0 : St) (a1 : Int32) (a2 : Int32) (a3 : Int32) (post : Int32 → St → Prop) : Prop := wX10_isPerson σ0 a1 (fun (r1 : Int32) => (r1 = 0 → (post (-1 : Int32) σ0)) ∧ (¬ r1 = 0 → (wX10_isRight a2 (fun (r2 : Int32) => (r2 = 0 → (post (-1 : Int32) σ0)) ∧ (¬ r2 = 0 → (wX10_in a3 (0 : Int32) (3 : Int32) (fun (r3 : Int32) => (¬ r3 = 0 → (vp_in a1 10 ∧ (wX10_has (σ0.2.1 2 a1.toNatClampNeg) a2 (fun (r4 : Int32) => (¬ r4 = 0 → (wX10_kindOf σ0 a1 a2 (fun (r5 : Int32) => (a3 = 0 → (∃ n12 : Nat, lpX10_uses_83 a1 a2 σ0 post n12 (0 : Int32) (0 : Int32))) ∧ (¬ a3 = 0 → ((a3 = r5 → (∃ n13 : Nat, lpX10_uses_83 a1 a2 σ0 post n13 (0 : Int32) (0 : Int32))) ∧ (¬ a3 = r5 → ((¬ a3 = (1 : Int32) → (wX10_meets σ0 (3 : Int32) (fun (r14 : Int32) (σ15 : St) => post r14 σ15))) ∧ (a3 = (1 : Int32) → ((r5 = (2 : Int32) → (∃ n16 : Nat, lpX10_uses_83 a1 a2 σ0 post n16 (0 : Int32) (0 : Int32))) ∧ (¬ r5 = (2 : Int32) → (wX10_meets σ0 (3 : Int32) (fun (r17 : Int32) (σ18 : St) => post r17 σ18)))))))))))) ∧ (r4 = 0 → (post (-4 : Int32) σ0)))))) ∧ (r3 = 0 → (post (-1 : Int32) σ0)))))))))
set_option maxHeartbeats 4000000 in
set_option maxRecDepth 100000 in
theorem mtX10_uses (l : Launch) (D : va_G) (am : Nat → Nat) (cI cJ cZ : ClassId) (A : Nat → Prop) (hD : ∀ σ : St, va_D A (mw am cI cJ cZ σ)) (σ0 : St) (a1 : Int32) (a2 : Int32) (a3 : Int32) (post : Int32 → St → Prop) (hw : wX10_uses σ0 a1 a2 a3 post) : Met l yX10_uses wsX10_uses ({ frames := 2, cells := 0, slots := 0, locals := 48 } : Room) (va_Pc [.ref (am 0), .int a1, .int a2, .int a3] (wd_pre D (mw am cI cJ cZ) (wd_tys cI cJ cZ) σ0)) (va_Qi post (wd_B D (mw am cI cJ cZ)) A) 0 0 A := by
  refine Met.ofW (cc := cX10_uses) (maxL := 7) (ret := (some .int)) (by decide) rfl ?_
  intro p e s m args below meth c s₁ B hml hv
  obtain ⟨rfl, hP, hK, hN⟩ := hv
  have hx := B.exec
  have hb := B.bytes
  have hr := B.returns
  have hts := atoms_spec (ws := wsX10_uses) B.pre
  have hown : s.vm.findClass RX10 = some m.cls := findClass_of_methodNamed B.named
  have hlocks := B.notSynchronized
  have hS : va_S A s.heap s.heap [] := va_S.rf
  have f16 := hts (.fieldLink RX10 16 "LeastRightsModel" "rights" "[I") (by decide +kernel)
  have iX10 : ∀ w ∈ wsX100, w ∈ wsX10_uses := by decide +kernel
  have f103 := hts (.fieldLink RX10 103 "LeastRightsModel" "uses" "I") (by decide +kernel)
  have f32 := hts (.fieldLink RX10 32 "LeastRightsModel" "usePerson" "[I") (by decide +kernel)
  have f35 := hts (.fieldLink RX10 35 "LeastRightsModel" "useRight" "[I") (by decide +kernel)
  have L83 : ∀ (u1 : Int32) (u2 : Int32) (σ : St) (n : Nat) (v5 : Int32) (v6 : Int32) (H : Heap) (locs : List Loc) (ls : Array Slot), lpX10_uses_83 u1 u2 σ post n v5 v6 → va_P D vwCl (mw am cI cJ cZ σ) H → va_S A s.heap H locs → lv_has ls 7 [(0, .ref (am 0)), (1, .int u1), (2, .int u2), (5, .int v5), (6, .int v6)] → W p l e (headSpec wsX10_uses ({ frames := 2, cells := 0, slots := 0, locals := 48 } : Room)).room s m ([.ref (am 0), .int a1, .int a2, .int a3] : List Value).toArray below meth c H locs 0 0 (MQ below (va_Qi post (wd_B D (mw am cI cJ cZ)) A) ([.ref (am 0), .int a1, .int a2, .int a3] : List Value).toArray s 0 0 A) (F0 m 83 ls []) := by
    intro u1 u2 σ n
    induction n with
    | zero => intro v5 v6 H locs ls hw; exact hw.elim
    | succ n ih =>
      intro v5 v6 H locs ls hw hP hS hl
      rw [lpX10_uses_83] at hw
      refine lv_iload hx hb dX10_uses_83 (lv_at hl 4 rfl) ?_
      refine lv_aload_n hx hb dX10_uses_85 rfl (lv_at hl 0 rfl) ?_
      refine va_get hx hb hts iX10 hown hK hP 0 (mw_q0 am cI cJ cZ σ) rfl 11 (by decide) f103 (fun _ h9 => h9) rfl dX10_uses_86 ?_
      refine lv_icmp_ge (tgt := 130) hx hb dX10_uses_89 (by decide) (fun c9 => ?_) (fun c9 => ?_)
      · have hw := hw.1 c9
        refine lv_iload hx hb dX10_uses_130 (lv_at hl 3 rfl) ?_
        exact wd_iret hx hb hr hlocks hw hP hS dX10_uses_132
      · have hw := hw.2 c9
        refine lv_iload hx hb dX10_uses_92 (lv_at hl 3 rfl) ?_
        refine lv_aload_n hx hb dX10_uses_94 rfl (lv_at hl 0 rfl) ?_
        refine va_get hx hb hts iX10 hown hK hP 0 (mw_q0 am cI cJ cZ σ) rfl 12 (by decide) f32 (fun _ h9 => h9) rfl dX10_uses_95 ?_
        refine lv_iload hx hb dX10_uses_98 (lv_at hl 4 rfl) ?_
        obtain ⟨h9, hw⟩ := hw
        refine va_iald hx hb hK hP 5 0 (mw_q5 am cI cJ cZ σ) rfl h9 dX10_uses_100 ?_
        refine lv_iload_n hx hb dX10_uses_101 rfl (lv_at hl 1 rfl) ?_
        refine lv_icmp_ne (tgt := 120) hx hb dX10_uses_102 (by decide) (fun c9 => ?_) (fun c9 => ?_)
        · have hw := hw.1 c9
          refine lv_iconst (v := 0) hx hb dX10_uses_120 (by decide) ?_
          refine lv_iadd hx hb dX10_uses_121 ?_
          refine lv_topi (fun x6 ex6 => ?_)
          have hw := hw x6 ex6
          refine lv_istore (lv' := [(5, .int x6), (0, .ref (am 0)), (1, .int u1), (2, .int u2), (6, .int v6)]) hx hb dX10_uses_122 hl (by decide) rfl (fun ls hl => ?_)
          obtain ⟨x7, ex7⟩ : ∃ z : Int32, z = v6 + (1 : Int32) := ⟨_, rfl⟩
          refine lv_iinc (v := x7) (lv' := [(6, .int x7), (5, .int x6), (0, .ref (am 0)), (1, .int u1), (2, .int u2)]) hx hb dX10_uses_124 hl (k := 4) rfl (by rw [ex7]; rfl) (by decide) rfl (fun ls hl => ?_)
          have hw := hw x7 ex7
          refine lv_goto (tgt := 83) hx hb dX10_uses_127 (by decide) ?_
          exact ih _ _ _ _ _ hw hP hS (lv_sub hl [2, 3, 4, 1, 0] rfl)
        · have hw := hw.2 c9
          refine lv_aload_n hx hb dX10_uses_105 rfl (lv_at hl 0 rfl) ?_
          refine va_get hx hb hts iX10 hown hK hP 0 (mw_q0 am cI cJ cZ σ) rfl 13 (by decide) f35 (fun _ h9 => h9) rfl dX10_uses_106 ?_
          refine lv_iload hx hb dX10_uses_109 (lv_at hl 4 rfl) ?_
          obtain ⟨h9, hw⟩ := hw
          refine va_iald hx hb hK hP 6 0 (mw_q6 am cI cJ cZ σ) rfl h9 dX10_uses_111 ?_
          refine lv_iload_n hx hb dX10_uses_112 rfl (lv_at hl 2 rfl) ?_
          refine lv_icmp_ne (tgt := 120) hx hb dX10_uses_113 (by decide) (fun c9 => ?_) (fun c9 => ?_)
          · have hw := hw.1 c9
            refine lv_iconst (v := 0) hx hb dX10_uses_120 (by decide) ?_
            refine lv_iadd hx hb dX10_uses_121 ?_
            refine lv_topi (fun x8 ex8 => ?_)
            have hw := hw x8 ex8
            refine lv_istore (lv' := [(5, .int x8), (0, .ref (am 0)), (1, .int u1), (2, .int u2), (6, .int v6)]) hx hb dX10_uses_122 hl (by decide) rfl (fun ls hl => ?_)
            obtain ⟨x9, ex9⟩ : ∃ z : Int32, z = v6 + (1 : Int32) := ⟨_, rfl⟩
            refine lv_iinc (v := x9) (lv' := [(6, .int x9), (5, .int x8), (0, .ref (am 0)), (1, .int u1), (2, .int u2)]) hx hb dX10_uses_124 hl (k := 4) rfl (by rw [ex9]; rfl) (by decide) rfl (fun ls hl => ?_)
            have hw := hw x9 ex9
            refine lv_goto (tgt := 83) hx hb dX10_uses_127 (by decide) ?_
            exact ih _ _ _ _ _ hw hP hS (lv_sub hl [2, 3, 4, 1, 0] rfl)
          · have hw := hw.2 c9
            refine lv_iconst (v := 1) hx hb dX10_uses_116 (by decide) ?_
            refine lv_goto (tgt := 121) hx hb dX10_uses_117 (by decide) ?_
            refine lv_iadd hx hb dX10_uses_121 ?_
            refine lv_topi (fun x10 ex10 => ?_)
            have hw := hw x10 ex10
            refine lv_istore (lv' := [(5, .int x10), (0, .ref (am 0)), (1, .int u1), (2, .int u2), (6, .int v6)]) hx hb dX10_uses_122 hl (by decide) rfl (fun ls hl => ?_)
            obtain ⟨x11, ex11⟩ : ∃ z : Int32, z = v6 + (1 : Int32) := ⟨_, rfl⟩
            refine lv_iinc (v := x11) (lv' := [(6, .int x11), (5, .int x10), (0, .ref (am 0)), (1, .int u1), (2, .int u2)]) hx hb dX10_uses_124 hl (k := 4) rfl (by rw [ex11]; rfl) (by decide) rfl (fun ls hl => ?_)
            have hw := hw x11 ex11
            refine lv_goto (tgt := 83) hx hb dX10_uses_127 (by decide) ?_
            exact ih _ _ _ _ _ hw hP hS (lv_sub hl [2, 3, 4, 1, 0] rfl)
  have hl := lv_entry ([.ref (am 0), .int a1, .int a2, .int a3]) (n := 7) (Nat.le_of_ble_eq_true rfl)
  rw [lg_entry_eq]
  generalize (lg_sl ([.ref (am 0), .int a1, .int a2, .int a3]) ++ List.replicate (7 - (lg_sl ([.ref (am 0), .int a1, .int a2, .int a3])).length) Slot.unset).toArray = ls at hl ⊢
  have hl : lv_has ls 7 [(0, .ref (am 0)), (1, .int a1), (2, .int a2), (3, .int a3)] := hl
  unfold wX10_uses at hw
  refine lv_aload_n hx hb dX10_uses_0 rfl (lv_at hl 0 rfl) ?_
  refine lv_iload_n hx hb dX10_uses_1 rfl (lv_at hl 1 rfl) ?_
  refine wd_cVi ⟨hx, hb, hml, hown, hts⟩ (mtX10_isPerson l D am cI cJ cZ A hD σ0 a1 _ hw) (cwV 1 hts gX10_uses_X10_isPerson rfl rfl rfl (by decide +kernel) ⟨(Nat.le_of_ble_eq_true rfl), (Nat.le_of_ble_eq_true rfl)⟩) (va_recv hK hP (ci := 10) (q0 := 0) rfl (mw_q0 am cI cJ cZ σ0)) hK hN hP hS rfl hl.1 rfl (Nat.le_of_ble_eq_true rfl) dX10_uses_2 ⟨Nat.zero_le _, Nat.zero_le _⟩ (fun r1 u9 H locs hq hP hS => ?_)
  obtain ⟨hw, hu⟩ := hq
  rw [hu] at hP
  refine lv_if_eq (tgt := 24) hx hb dX10_uses_5 (by decide) (fun c9 => ?_) (fun c9 => ?_)
  · have hw := hw.1 c9
    refine lv_iconst (v := -1) hx hb dX10_uses_24 (by decide) ?_
    exact wd_iret hx hb hr hlocks hw hP hS dX10_uses_25
  · have hw := hw.2 c9
    refine lv_iload_n hx hb dX10_uses_8 rfl (lv_at hl 2 rfl) ?_
    refine wd_cSi ⟨hx, hb, hml, hown, hts⟩ (mtX10_isRight l D am cI cJ cZ A hD σ0 a2 _ hw) (va_cwS 1 hts gX10_uses_X10_isRight rfl rfl rfl (by decide +kernel) ⟨(Nat.le_of_ble_eq_true rfl), (Nat.le_of_ble_eq_true rfl)⟩) hK hN hP hS rfl hl.1 rfl (Nat.le_of_ble_eq_true rfl) dX10_uses_9 ⟨Nat.zero_le _, Nat.zero_le _⟩ (fun r2 u9 H locs hq hP hS => ?_)
    obtain ⟨hw, hu⟩ := hq
    rw [hu] at hP
    refine lv_if_eq (tgt := 24) hx hb dX10_uses_12 (by decide) (fun c9 => ?_) (fun c9 => ?_)
    · have hw := hw.1 c9
      refine lv_iconst (v := -1) hx hb dX10_uses_24 (by decide) ?_
      exact wd_iret hx hb hr hlocks hw hP hS dX10_uses_25
    · have hw := hw.2 c9
      refine lv_iload_n hx hb dX10_uses_15 rfl (lv_at hl 3 rfl) ?_
      refine lv_iconst (v := 0) hx hb dX10_uses_16 (by decide) ?_
      refine lv_iconst (v := 3) hx hb dX10_uses_17 (by decide) ?_
      refine wd_cSi ⟨hx, hb, hml, hown, hts⟩ (mtX10_in l D am cI cJ cZ A hD σ0 a3 (0 : Int32) (3 : Int32) _ hw) (va_cwS 3 hts gX10_uses_X10_in rfl rfl rfl (by decide +kernel) ⟨(Nat.le_of_ble_eq_true rfl), (Nat.le_of_ble_eq_true rfl)⟩) hK hN hP hS rfl hl.1 rfl (Nat.le_of_ble_eq_true rfl) dX10_uses_18 ⟨Nat.zero_le _, Nat.zero_le _⟩ (fun r3 u9 H locs hq hP hS => ?_)
      obtain ⟨hw, hu⟩ := hq
      rw [hu] at hP
      refine lv_if_ne (tgt := 26) hx hb dX10_uses_21 (by decide) (fun c9 => ?_) (fun c9 => ?_)
      · have hw := hw.1 c9
        refine lv_aload_n hx hb dX10_uses_26 rfl (lv_at hl 0 rfl) ?_
        refine va_get hx hb hts iX10 hown hK hP 0 (mw_q0 am cI cJ cZ σ0) rfl 4 (by decide) f16 (fun _ h9 => h9) rfl dX10_uses_27 ?_
        refine lv_iload_n hx hb dX10_uses_30 rfl (lv_at hl 1 rfl) ?_
        obtain ⟨h9, hw⟩ := hw
        refine va_iald hx hb hK hP 3 0 (mw_q3 am cI cJ cZ σ0) rfl h9 dX10_uses_31 ?_
        refine lv_iload_n hx hb dX10_uses_32 rfl (lv_at hl 2 rfl) ?_
        refine wd_cSi ⟨hx, hb, hml, hown, hts⟩ (mtX10_has l D am cI cJ cZ A hD σ0 (σ0.2.1 2 a1.toNatClampNeg) a2 _ hw) (va_cwS 2 hts gX10_uses_X10_has rfl rfl rfl (by decide +kernel) ⟨(Nat.le_of_ble_eq_true rfl), (Nat.le_of_ble_eq_true rfl)⟩) hK hN hP hS rfl hl.1 rfl (Nat.le_of_ble_eq_true rfl) dX10_uses_33 ⟨Nat.zero_le _, Nat.zero_le _⟩ (fun r4 u9 H locs hq hP hS => ?_)
        obtain ⟨hw, hu⟩ := hq
        rw [hu] at hP
        refine lv_if_ne (tgt := 42) hx hb dX10_uses_36 (by decide) (fun c9 => ?_) (fun c9 => ?_)
        · have hw := hw.1 c9
          refine lv_aload_n hx hb dX10_uses_42 rfl (lv_at hl 0 rfl) ?_
          refine lv_iload_n hx hb dX10_uses_43 rfl (lv_at hl 1 rfl) ?_
          refine lv_iload_n hx hb dX10_uses_44 rfl (lv_at hl 2 rfl) ?_
          refine wd_cVi ⟨hx, hb, hml, hown, hts⟩ (mtX10_kindOf l D am cI cJ cZ A hD σ0 a1 a2 _ hw) (cwV 2 hts gX10_uses_X10_kindOf rfl rfl rfl (by decide +kernel) ⟨(Nat.le_of_ble_eq_true rfl), (Nat.le_of_ble_eq_true rfl)⟩) (va_recv hK hP (ci := 10) (q0 := 0) rfl (mw_q0 am cI cJ cZ σ0)) hK hN hP hS rfl hl.1 rfl (Nat.le_of_ble_eq_true rfl) dX10_uses_45 ⟨Nat.zero_le _, Nat.zero_le _⟩ (fun r5 u9 H locs hq hP hS => ?_)
          obtain ⟨hw, hu⟩ := hq
          rw [hu] at hP
          refine lv_istore (lv' := [(4, .int r5), (0, .ref (am 0)), (1, .int a1), (2, .int a2), (3, .int a3)]) hx hb dX10_uses_48 hl (by decide) rfl (fun ls hl => ?_)
          refine lv_iload_n hx hb dX10_uses_50 rfl (lv_at hl 4 rfl) ?_
          refine lv_if_eq (tgt := 77) hx hb dX10_uses_51 (by decide) (fun c9 => ?_) (fun c9 => ?_)
          · have hw := hw.1 c9
            refine lv_iconst (v := 0) hx hb dX10_uses_77 (by decide) ?_
            refine lv_istore (lv' := [(5, .int (0 : Int32)), (4, .int r5), (0, .ref (am 0)), (1, .int a1), (2, .int a2), (3, .int a3)]) hx hb dX10_uses_78 hl (by decide) rfl (fun ls hl => ?_)
            refine lv_iconst (v := 0) hx hb dX10_uses_80 (by decide) ?_
            refine lv_istore (lv' := [(6, .int (0 : Int32)), (5, .int (0 : Int32)), (4, .int r5), (0, .ref (am 0)), (1, .int a1), (2, .int a2), (3, .int a3)]) hx hb dX10_uses_81 hl (by decide) rfl (fun ls hl => ?_)
            obtain ⟨n9, hw⟩ := hw
            refine L83 a1 a2 σ0 n9 (0 : Int32) (0 : Int32) _ _ _ hw hP hS (lv_sub hl [3, 4, 5, 1, 0] rfl)
          · have hw := hw.2 c9
            refine lv_iload_n hx hb dX10_uses_54 rfl (lv_at hl 4 rfl) ?_
            refine lv_iload hx hb dX10_uses_55 (lv_at hl 0 rfl) ?_
            refine lv_icmp_eq (tgt := 77) hx hb dX10_uses_57 (by decide) (fun c9 => ?_) (fun c9 => ?_)
            · have hw := hw.1 c9
              refine lv_iconst (v := 0) hx hb dX10_uses_77 (by decide) ?_
              refine lv_istore (lv' := [(5, .int (0 : Int32)), (4, .int r5), (0, .ref (am 0)), (1, .int a1), (2, .int a2), (3, .int a3)]) hx hb dX10_uses_78 hl (by decide) rfl (fun ls hl => ?_)
              refine lv_iconst (v := 0) hx hb dX10_uses_80 (by decide) ?_
              refine lv_istore (lv' := [(6, .int (0 : Int32)), (5, .int (0 : Int32)), (4, .int r5), (0, .ref (am 0)), (1, .int a1), (2, .int a2), (3, .int a3)]) hx hb dX10_uses_81 hl (by decide) rfl (fun ls hl => ?_)
              obtain ⟨n9, hw⟩ := hw
              refine L83 a1 a2 σ0 n9 (0 : Int32) (0 : Int32) _ _ _ hw hP hS (lv_sub hl [3, 4, 5, 1, 0] rfl)
            · have hw := hw.2 c9
              refine lv_iload_n hx hb dX10_uses_60 rfl (lv_at hl 4 rfl) ?_
              refine lv_iconst (v := 1) hx hb dX10_uses_61 (by decide) ?_
              refine lv_icmp_ne (tgt := 71) hx hb dX10_uses_62 (by decide) (fun c9 => ?_) (fun c9 => ?_)
              · have hw := hw.1 c9
                refine lv_aload_n hx hb dX10_uses_71 rfl (lv_at hl 1 rfl) ?_
                refine lv_iconst (v := 3) hx hb dX10_uses_72 (by decide) ?_
                refine wd_cVi ⟨hx, hb, hml, hown, hts⟩ (mtX10_meets l D am cI cJ cZ A hD σ0 (3 : Int32) _ hw) (cwV 1 hts gX10_uses_X10_meets rfl rfl rfl (by decide +kernel) ⟨(Nat.le_of_ble_eq_true rfl), (Nat.le_of_ble_eq_true rfl)⟩) (va_recv hK hP (ci := 10) (q0 := 0) rfl (mw_q0 am cI cJ cZ σ0)) hK hN hP hS rfl hl.1 rfl (Nat.le_of_ble_eq_true rfl) dX10_uses_73 ⟨Nat.zero_le _, Nat.zero_le _⟩ (fun r14 σ15 H locs hw hP hS => ?_)
                exact wd_iret hx hb hr hlocks hw hP hS dX10_uses_76
              · have hw := hw.2 c9
                refine lv_iload hx hb dX10_uses_65 (lv_at hl 0 rfl) ?_
                refine lv_iconst (v := 2) hx hb dX10_uses_67 (by decide) ?_
                refine lv_icmp_eq (tgt := 77) hx hb dX10_uses_68 (by decide) (fun c9 => ?_) (fun c9 => ?_)
                · have hw := hw.1 c9
                  refine lv_iconst (v := 0) hx hb dX10_uses_77 (by decide) ?_
                  refine lv_istore (lv' := [(5, .int (0 : Int32)), (4, .int r5), (0, .ref (am 0)), (1, .int a1), (2, .int a2), (3, .int a3)]) hx hb dX10_uses_78 hl (by decide) rfl (fun ls hl => ?_)
                  refine lv_iconst (v := 0) hx hb dX10_uses_80 (by decide) ?_
                  refine lv_istore (lv' := [(6, .int (0 : Int32)), (5, .int (0 : Int32)), (4, .int r5), (0, .ref (am 0)), (1, .int a1), (2, .int a2), (3, .int a3)]) hx hb dX10_uses_81 hl (by decide) rfl (fun ls hl => ?_)
                  obtain ⟨n9, hw⟩ := hw
                  refine L83 a1 a2 σ0 n9 (0 : Int32) (0 : Int32) _ _ _ hw hP hS (lv_sub hl [3, 4, 5, 1, 0] rfl)
                · have hw := hw.2 c9
                  refine lv_aload_n hx hb dX10_uses_71 rfl (lv_at hl 1 rfl) ?_
                  refine lv_iconst (v := 3) hx hb dX10_uses_72 (by decide) ?_
                  refine wd_cVi ⟨hx, hb, hml, hown, hts⟩ (mtX10_meets l D am cI cJ cZ A hD σ0 (3 : Int32) _ hw) (cwV 1 hts gX10_uses_X10_meets rfl rfl rfl (by decide +kernel) ⟨(Nat.le_of_ble_eq_true rfl), (Nat.le_of_ble_eq_true rfl)⟩) (va_recv hK hP (ci := 10) (q0 := 0) rfl (mw_q0 am cI cJ cZ σ0)) hK hN hP hS rfl hl.1 rfl (Nat.le_of_ble_eq_true rfl) dX10_uses_73 ⟨Nat.zero_le _, Nat.zero_le _⟩ (fun r17 σ18 H locs hw hP hS => ?_)
                  exact wd_iret hx hb hr hlocks hw hP hS dX10_uses_76
        · have hw := hw.2 c9
          refine lv_bipush (v := -4) hx hb dX10_uses_39 (by decide) ?_
          exact wd_iret hx hb hr hlocks hw hP hS dX10_uses_41
      · have hw := hw.2 c9
        refine lv_iconst (v := -1) hx hb dX10_uses_24 (by decide) ?_
        exact wd_iret hx hb hr hlocks hw hP hS dX10_uses_25
def lpX10_strikeBut_5 (u1 : Int32) (u2 : Int32) (K60 : Int32 → St → Prop) : Nat → Int32 → Int32 → St → Prop
  | 0, _, _, _ => False
  | n + 1, v3, v4, σ => ((12 : Int32) ≤ v4 → (K60 v3 σ)) ∧ (¬ (12 : Int32) ≤ v4 → (vp_in u1 10 ∧ (wX10_has (σ.2.1 2 u1.toNatClampNeg) v4 (fun (r1 : Int32) => (r1 = 0 → (∀ x2 : Int32, x2 = v4 + (1 : Int32) → (lpX10_strikeBut_5 u1 u2 K60 n v3 x2 σ))) ∧ (¬ r1 = 0 → (wX10_has u2 v4 (fun (r3 : Int32) => (¬ r3 = 0 → (∀ x4 : Int32, x4 = v4 + (1 : Int32) → (lpX10_strikeBut_5 u1 u2 K60 n v3 x4 σ))) ∧ (r3 = 0 → (vp_in (((12 : Int32) * u1) + v4) 120 ∧ (∀ σ5 : St, σ5 = st_A σ 3 (((12 : Int32) * u1) + v4).toNatClampNeg (σ.1 6) → (∀ x6 : Int32, x6 = v3 + (1 : Int32) → (∀ x7 : Int32, x7 = v4 + (1 : Int32) → (lpX10_strikeBut_5 u1 u2 K60 n x6 x7 σ5)))))))))))))
def wX10_strikeBut (σ0 : St) (a1 : Int32) (a2 : Int32) (post : Int32 → St → Prop) : Prop := ∃ n11 : Nat, lpX10_strikeBut_5 a1 a2 (fun (y8 : Int32) (σ9 : St) => vp_in a1 10 ∧ (vp_in a1 10 ∧ (∀ σ10 : St, σ10 = st_A σ9 2 a1.toNatClampNeg ((σ9.2.1 2 a1.toNatClampNeg) &&& a2) → (post y8 σ10)))) n11 (0 : Int32) (0 : Int32) σ0
set_option maxHeartbeats 4000000 in
set_option maxRecDepth 100000 in
theorem mtX10_strikeBut (l : Launch) (D : va_G) (am : Nat → Nat) (cI cJ cZ : ClassId) (A : Nat → Prop) (hD : ∀ σ : St, va_D A (mw am cI cJ cZ σ)) (σ0 : St) (a1 : Int32) (a2 : Int32) (post : Int32 → St → Prop) (hw : wX10_strikeBut σ0 a1 a2 post) : Met l yX10_strikeBut wsX10_strikeBut ({ frames := 1, cells := 0, slots := 0, locals := 21 } : Room) (va_Pc [.ref (am 0), .int a1, .int a2] (wd_pre D (mw am cI cJ cZ) (wd_tys cI cJ cZ) σ0)) (va_Qi post (wd_B D (mw am cI cJ cZ)) A) 0 0 A := by
  refine Met.ofW (cc := cX10_strikeBut) (maxL := 5) (ret := (some .int)) (by decide) rfl ?_
  intro p e s m args below meth c s₁ B hml hv
  obtain ⟨rfl, hP, hK, hN⟩ := hv
  have hx := B.exec
  have hb := B.bytes
  have hr := B.returns
  have hts := atoms_spec (ws := wsX10_strikeBut) B.pre
  have hown : s.vm.findClass RX10 = some m.cls := findClass_of_methodNamed B.named
  have hlocks := B.notSynchronized
  have hS : va_S A s.heap s.heap [] := va_S.rf
  have f16 := hts (.fieldLink RX10 16 "LeastRightsModel" "rights" "[I") (by decide +kernel)
  have iX10 : ∀ w ∈ wsX100, w ∈ wsX10_strikeBut := by decide +kernel
  have f19 := hts (.fieldLink RX10 19 "LeastRightsModel" "struck" "[I") (by decide +kernel)
  have f106 := hts (.fieldLink RX10 106 "LeastRightsModel" "day" "I") (by decide +kernel)
  have L5 : ∀ (u1 : Int32) (u2 : Int32) (K60 : Int32 → St → Prop) (_ : ∀ (v3 : Int32) (σ : St) (H : Heap) (locs : List Loc) (ls : Array Slot), K60 v3 σ → va_P D vwCl (mw am cI cJ cZ σ) H → va_S A s.heap H locs → lv_has ls 5 [(0, .ref (am 0)), (1, .int u1), (2, .int u2), (3, .int v3)] → W p l e (headSpec wsX10_strikeBut ({ frames := 1, cells := 0, slots := 0, locals := 21 } : Room)).room s m ([.ref (am 0), .int a1, .int a2] : List Value).toArray below meth c H locs 0 0 (MQ below (va_Qi post (wd_B D (mw am cI cJ cZ)) A) ([.ref (am 0), .int a1, .int a2] : List Value).toArray s 0 0 A) (F0 m 60 ls [])) (n : Nat) (v3 : Int32) (v4 : Int32) (σ : St) (H : Heap) (locs : List Loc) (ls : Array Slot), lpX10_strikeBut_5 u1 u2 K60 n v3 v4 σ → va_P D vwCl (mw am cI cJ cZ σ) H → va_S A s.heap H locs → lv_has ls 5 [(0, .ref (am 0)), (1, .int u1), (2, .int u2), (3, .int v3), (4, .int v4)] → W p l e (headSpec wsX10_strikeBut ({ frames := 1, cells := 0, slots := 0, locals := 21 } : Room)).room s m ([.ref (am 0), .int a1, .int a2] : List Value).toArray below meth c H locs 0 0 (MQ below (va_Qi post (wd_B D (mw am cI cJ cZ)) A) ([.ref (am 0), .int a1, .int a2] : List Value).toArray s 0 0 A) (F0 m 5 ls []) := by
    intro u1 u2 K60 hK60 n
    induction n with
    | zero => intro v3 v4 σ H locs ls hw; exact hw.elim
    | succ n ih =>
      intro v3 v4 σ H locs ls hw hP hS hl
      rw [lpX10_strikeBut_5] at hw
      refine lv_iload hx hb dX10_strikeBut_5 (lv_at hl 4 rfl) ?_
      refine lv_bipush (v := 12) hx hb dX10_strikeBut_7 (by decide) ?_
      refine lv_icmp_ge (tgt := 60) hx hb dX10_strikeBut_9 (by decide) (fun c9 => ?_) (fun c9 => ?_)
      · have hw := hw.1 c9
        exact hK60 _ _ _ _ _ hw hP hS (lv_sub hl [0, 1, 2, 3] rfl)
      · have hw := hw.2 c9
        refine lv_aload_n hx hb dX10_strikeBut_12 rfl (lv_at hl 0 rfl) ?_
        refine va_get hx hb hts iX10 hown hK hP 0 (mw_q0 am cI cJ cZ σ) rfl 4 (by decide) f16 (fun _ h9 => h9) rfl dX10_strikeBut_13 ?_
        refine lv_iload_n hx hb dX10_strikeBut_16 rfl (lv_at hl 1 rfl) ?_
        obtain ⟨h9, hw⟩ := hw
        refine va_iald hx hb hK hP 3 0 (mw_q3 am cI cJ cZ σ) rfl h9 dX10_strikeBut_17 ?_
        refine lv_iload hx hb dX10_strikeBut_18 (lv_at hl 4 rfl) ?_
        refine wd_cSi ⟨hx, hb, hml, hown, hts⟩ (mtX10_has l D am cI cJ cZ A hD σ (σ.2.1 2 u1.toNatClampNeg) v4 _ hw) (va_cwS 2 hts gX10_strikeBut_X10_has rfl rfl rfl (by decide +kernel) ⟨(Nat.le_of_ble_eq_true rfl), (Nat.le_of_ble_eq_true rfl)⟩) hK hN hP hS rfl hl.1 rfl (Nat.le_of_ble_eq_true rfl) dX10_strikeBut_20 ⟨Nat.zero_le _, Nat.zero_le _⟩ (fun r1 u9 H locs hq hP hS => ?_)
        obtain ⟨hw, hu⟩ := hq
        rw [hu] at hP
        refine lv_if_eq (tgt := 54) hx hb dX10_strikeBut_23 (by decide) (fun c9 => ?_) (fun c9 => ?_)
        · have hw := hw.1 c9
          obtain ⟨x2, ex2⟩ : ∃ z : Int32, z = v4 + (1 : Int32) := ⟨_, rfl⟩
          refine lv_iinc (v := x2) (lv' := [(4, .int x2), (0, .ref (am 0)), (1, .int u1), (2, .int u2), (3, .int v3)]) hx hb dX10_strikeBut_54 hl (k := 4) rfl (by rw [ex2]; rfl) (by decide) rfl (fun ls hl => ?_)
          have hw := hw x2 ex2
          refine lv_goto (tgt := 5) hx hb dX10_strikeBut_57 (by decide) ?_
          exact ih _ _ _ _ _ _ hw hP hS (lv_sub hl [1, 2, 3, 4, 0] rfl)
        · have hw := hw.2 c9
          refine lv_iload_n hx hb dX10_strikeBut_26 rfl (lv_at hl 2 rfl) ?_
          refine lv_iload hx hb dX10_strikeBut_27 (lv_at hl 4 rfl) ?_
          refine wd_cSi ⟨hx, hb, hml, hown, hts⟩ (mtX10_has l D am cI cJ cZ A hD σ u2 v4 _ hw) (va_cwS 2 hts gX10_strikeBut_X10_has rfl rfl rfl (by decide +kernel) ⟨(Nat.le_of_ble_eq_true rfl), (Nat.le_of_ble_eq_true rfl)⟩) hK hN hP hS rfl hl.1 rfl (Nat.le_of_ble_eq_true rfl) dX10_strikeBut_29 ⟨Nat.zero_le _, Nat.zero_le _⟩ (fun r3 u9 H locs hq hP hS => ?_)
          obtain ⟨hw, hu⟩ := hq
          rw [hu] at hP
          refine lv_if_ne (tgt := 54) hx hb dX10_strikeBut_32 (by decide) (fun c9 => ?_) (fun c9 => ?_)
          · have hw := hw.1 c9
            obtain ⟨x4, ex4⟩ : ∃ z : Int32, z = v4 + (1 : Int32) := ⟨_, rfl⟩
            refine lv_iinc (v := x4) (lv' := [(4, .int x4), (0, .ref (am 0)), (1, .int u1), (2, .int u2), (3, .int v3)]) hx hb dX10_strikeBut_54 hl (k := 4) rfl (by rw [ex4]; rfl) (by decide) rfl (fun ls hl => ?_)
            have hw := hw x4 ex4
            refine lv_goto (tgt := 5) hx hb dX10_strikeBut_57 (by decide) ?_
            exact ih _ _ _ _ _ _ hw hP hS (lv_sub hl [1, 2, 3, 4, 0] rfl)
          · have hw := hw.2 c9
            refine lv_aload_n hx hb dX10_strikeBut_35 rfl (lv_at hl 0 rfl) ?_
            refine va_get hx hb hts iX10 hown hK hP 0 (mw_q0 am cI cJ cZ σ) rfl 5 (by decide) f19 (fun _ h9 => h9) rfl dX10_strikeBut_36 ?_
            refine lv_bipush (v := 12) hx hb dX10_strikeBut_39 (by decide) ?_
            refine lv_iload_n hx hb dX10_strikeBut_41 rfl (lv_at hl 1 rfl) ?_
            refine lv_imul hx hb dX10_strikeBut_42 ?_
            refine lv_iload hx hb dX10_strikeBut_43 (lv_at hl 4 rfl) ?_
            refine lv_iadd hx hb dX10_strikeBut_45 ?_
            refine lv_aload_n hx hb dX10_strikeBut_46 rfl (lv_at hl 0 rfl) ?_
            refine va_get hx hb hts iX10 hown hK hP 0 (mw_q0 am cI cJ cZ σ) rfl 10 (by decide) f106 (fun _ h9 => h9) rfl dX10_strikeBut_47 ?_
            obtain ⟨h9, hw⟩ := hw
            refine wd_iast 3 4 hx hb hK hP hD hS (mw_q4 am cI cJ cZ σ) rfl (mw_a3 am cI cJ cZ σ) h9 dX10_strikeBut_50 (fun H locs σ5 eσ5 hP hS => ?_)
            have hw := hw σ5 eσ5
            obtain ⟨x6, ex6⟩ : ∃ z : Int32, z = v3 + (1 : Int32) := ⟨_, rfl⟩
            refine lv_iinc (v := x6) (lv' := [(3, .int x6), (0, .ref (am 0)), (1, .int u1), (2, .int u2), (4, .int v4)]) hx hb dX10_strikeBut_51 hl (k := 3) rfl (by rw [ex6]; rfl) (by decide) rfl (fun ls hl => ?_)
            have hw := hw x6 ex6
            obtain ⟨x7, ex7⟩ : ∃ z : Int32, z = v4 + (1 : Int32) := ⟨_, rfl⟩
            refine lv_iinc (v := x7) (lv' := [(4, .int x7), (3, .int x6), (0, .ref (am 0)), (1, .int u1), (2, .int u2)]) hx hb dX10_strikeBut_54 hl (k := 4) rfl (by rw [ex7]; rfl) (by decide) rfl (fun ls hl => ?_)
            have hw := hw x7 ex7
            refine lv_goto (tgt := 5) hx hb dX10_strikeBut_57 (by decide) ?_
            exact ih _ _ _ _ _ _ hw hP hS (lv_sub hl [2, 3, 4, 1, 0] rfl)
  have hl := lv_entry ([.ref (am 0), .int a1, .int a2]) (n := 5) (Nat.le_of_ble_eq_true rfl)
  rw [lg_entry_eq]
  generalize (lg_sl ([.ref (am 0), .int a1, .int a2]) ++ List.replicate (5 - (lg_sl ([.ref (am 0), .int a1, .int a2])).length) Slot.unset).toArray = ls at hl ⊢
  have hl : lv_has ls 5 [(0, .ref (am 0)), (1, .int a1), (2, .int a2)] := hl
  unfold wX10_strikeBut at hw
  refine lv_iconst (v := 0) hx hb dX10_strikeBut_0 (by decide) ?_
  refine lv_istore_n (lv' := [(3, .int (0 : Int32)), (0, .ref (am 0)), (1, .int a1), (2, .int a2)]) hx hb dX10_strikeBut_1 rfl hl (by decide) rfl (fun ls hl => ?_)
  refine lv_iconst (v := 0) hx hb dX10_strikeBut_2 (by decide) ?_
  refine lv_istore (lv' := [(4, .int (0 : Int32)), (3, .int (0 : Int32)), (0, .ref (am 0)), (1, .int a1), (2, .int a2)]) hx hb dX10_strikeBut_3 hl (by decide) rfl (fun ls hl => ?_)
  obtain ⟨n9, hw⟩ := hw
  refine L5 a1 a2 _ ?_ n9 (0 : Int32) (0 : Int32) σ0 _ _ _ hw hP hS (lv_sub hl [2, 3, 4, 1, 0] rfl)
  · intro y8 σ9 H locs ls hw hP hS hl
    refine lv_aload_n hx hb dX10_strikeBut_60 rfl (lv_at hl 0 rfl) ?_
    refine va_get hx hb hts iX10 hown hK hP 0 (mw_q0 am cI cJ cZ σ9) rfl 4 (by decide) f16 (fun _ h9 => h9) rfl dX10_strikeBut_61 ?_
    refine lv_iload_n hx hb dX10_strikeBut_64 rfl (lv_at hl 1 rfl) ?_
    refine lv_dup2_11 hx hb dX10_strikeBut_65 rfl rfl ?_
    obtain ⟨h9, hw⟩ := hw
    refine va_iald hx hb hK hP 3 0 (mw_q3 am cI cJ cZ σ9) rfl h9 dX10_strikeBut_66 ?_
    refine lv_iload_n hx hb dX10_strikeBut_67 rfl (lv_at hl 2 rfl) ?_
    refine lv_iand hx hb dX10_strikeBut_68 ?_
    obtain ⟨h9, hw⟩ := hw
    refine wd_iast 2 3 hx hb hK hP hD hS (mw_q3 am cI cJ cZ σ9) rfl (mw_a2 am cI cJ cZ σ9) h9 dX10_strikeBut_69 (fun H locs σ10 eσ10 hP hS => ?_)
    have hw := hw σ10 eσ10
    refine lv_iload_n hx hb dX10_strikeBut_70 rfl (lv_at hl 3 rfl) ?_
    exact wd_iret hx hb hr hlocks hw hP hS dX10_strikeBut_71
def wX10_strike (σ0 : St) (a1 : Int32) (post : Int32 → St → Prop) : Prop := wX10_isPerson σ0 a1 (fun (r1 : Int32) => (r1 = 0 → (post (-1 : Int32) σ0)) ∧ (¬ r1 = 0 → (wX10_keptOf σ0 a1 (fun (r2 : Int32) => wX10_strikeBut σ0 a1 r2 (fun (r3 : Int32) (σ4 : St) => post r3 σ4)))))
set_option maxHeartbeats 4000000 in
set_option maxRecDepth 100000 in
theorem mtX10_strike (l : Launch) (D : va_G) (am : Nat → Nat) (cI cJ cZ : ClassId) (A : Nat → Prop) (hD : ∀ σ : St, va_D A (mw am cI cJ cZ σ)) (σ0 : St) (a1 : Int32) (post : Int32 → St → Prop) (hw : wX10_strike σ0 a1 post) : Met l yX10_strike wsX10_strike ({ frames := 3, cells := 0, slots := 0, locals := 71 } : Room) (va_Pc [.ref (am 0), .int a1] (wd_pre D (mw am cI cJ cZ) (wd_tys cI cJ cZ) σ0)) (va_Qi post (wd_B D (mw am cI cJ cZ)) A) 0 0 A := by
  refine Met.ofW (cc := cX10_strike) (maxL := 2) (ret := (some .int)) (by decide) rfl ?_
  intro p e s m args below meth c s₁ B hml hv
  obtain ⟨rfl, hP, hK, hN⟩ := hv
  have hx := B.exec
  have hb := B.bytes
  have hr := B.returns
  have hts := atoms_spec (ws := wsX10_strike) B.pre
  have hown : s.vm.findClass RX10 = some m.cls := findClass_of_methodNamed B.named
  have hlocks := B.notSynchronized
  have hS : va_S A s.heap s.heap [] := va_S.rf
  have hl := lv_entry ([.ref (am 0), .int a1]) (n := 2) (Nat.le_of_ble_eq_true rfl)
  rw [lg_entry_eq]
  generalize (lg_sl ([.ref (am 0), .int a1]) ++ List.replicate (2 - (lg_sl ([.ref (am 0), .int a1])).length) Slot.unset).toArray = ls at hl ⊢
  have hl : lv_has ls 2 [(0, .ref (am 0)), (1, .int a1)] := hl
  unfold wX10_strike at hw
  refine lv_aload_n hx hb dX10_strike_0 rfl (lv_at hl 0 rfl) ?_
  refine lv_iload_n hx hb dX10_strike_1 rfl (lv_at hl 1 rfl) ?_
  refine wd_cVi ⟨hx, hb, hml, hown, hts⟩ (mtX10_isPerson l D am cI cJ cZ A hD σ0 a1 _ hw) (cwV 1 hts gX10_strike_X10_isPerson rfl rfl rfl (by decide +kernel) ⟨(Nat.le_of_ble_eq_true rfl), (Nat.le_of_ble_eq_true rfl)⟩) (va_recv hK hP (ci := 10) (q0 := 0) rfl (mw_q0 am cI cJ cZ σ0)) hK hN hP hS rfl hl.1 rfl (Nat.le_of_ble_eq_true rfl) dX10_strike_2 ⟨Nat.zero_le _, Nat.zero_le _⟩ (fun r1 u9 H locs hq hP hS => ?_)
  obtain ⟨hw, hu⟩ := hq
  rw [hu] at hP
  refine lv_if_eq (tgt := 21) hx hb dX10_strike_5 (by decide) (fun c9 => ?_) (fun c9 => ?_)
  · have hw := hw.1 c9
    refine lv_iconst (v := -1) hx hb dX10_strike_21 (by decide) ?_
    exact wd_iret hx hb hr hlocks hw hP hS dX10_strike_22
  · have hw := hw.2 c9
    refine lv_aload_n hx hb dX10_strike_8 rfl (lv_at hl 0 rfl) ?_
    refine lv_iload_n hx hb dX10_strike_9 rfl (lv_at hl 1 rfl) ?_
    refine lv_aload_n hx hb dX10_strike_10 rfl (lv_at hl 0 rfl) ?_
    refine lv_iload_n hx hb dX10_strike_11 rfl (lv_at hl 1 rfl) ?_
    refine wd_cVi ⟨hx, hb, hml, hown, hts⟩ (mtX10_keptOf l D am cI cJ cZ A hD σ0 a1 _ hw) (cwV 1 hts gX10_strike_X10_keptOf rfl rfl rfl (by decide +kernel) ⟨(Nat.le_of_ble_eq_true rfl), (Nat.le_of_ble_eq_true rfl)⟩) (va_recv hK hP (ci := 10) (q0 := 0) rfl (mw_q0 am cI cJ cZ σ0)) hK hN hP hS rfl hl.1 rfl (Nat.le_of_ble_eq_true rfl) dX10_strike_12 ⟨Nat.zero_le _, Nat.zero_le _⟩ (fun r2 u9 H locs hq hP hS => ?_)
    obtain ⟨hw, hu⟩ := hq
    rw [hu] at hP
    refine wd_cVi ⟨hx, hb, hml, hown, hts⟩ (mtX10_strikeBut l D am cI cJ cZ A hD σ0 a1 r2 _ hw) (cwV 2 hts gX10_strike_X10_strikeBut rfl rfl rfl (by decide +kernel) ⟨(Nat.le_of_ble_eq_true rfl), (Nat.le_of_ble_eq_true rfl)⟩) (va_recv hK hP (ci := 10) (q0 := 0) rfl (mw_q0 am cI cJ cZ σ0)) hK hN hP hS rfl hl.1 rfl (Nat.le_of_ble_eq_true rfl) dX10_strike_15 ⟨Nat.zero_le _, Nat.zero_le _⟩ (fun r3 σ4 H locs hw hP hS => ?_)
    refine lv_goto (tgt := 22) hx hb dX10_strike_18 (by decide) ?_
    exact wd_iret hx hb hr hlocks hw hP hS dX10_strike_22
def wX10_ask (σ0 : St) (a1 : Int32) (a2 : Int32) (post : Int32 → St → Prop) : Prop := wX10_isPerson σ0 a1 (fun (r1 : Int32) => (r1 = 0 → (post (-1 : Int32) σ0)) ∧ (¬ r1 = 0 → (wX10_isRight a2 (fun (r2 : Int32) => (¬ r2 = 0 → (vp_in (((12 : Int32) * a1) + a2) 120 ∧ (∀ x3 : Int32, x3 = (σ0.2.1 3 (((12 : Int32) * a1) + a2).toNatClampNeg) → (vp_in a1 10 ∧ (wX10_has (σ0.2.1 2 a1.toNatClampNeg) a2 (fun (r4 : Int32) => (r4 = 0 → ((x3 < 0 → ((¬ (0 : Int32) = (1 : Int32) → (vp_in (0 : Int32) 3 ∧ (vp_in (0 : Int32) 3 ∧ (∀ σ5 : St, σ5 = st_A σ0 7 (0 : Int32).toNatClampNeg ((σ0.2.1 7 (0 : Int32).toNatClampNeg) + (1 : Int32)) → (post (0 : Int32) σ5))))) ∧ ((0 : Int32) = (1 : Int32) → (vp_in a1 10 ∧ (vp_in a1 10 ∧ (∀ σ6 : St, σ6 = st_A σ0 2 a1.toNatClampNeg ((σ0.2.1 2 a1.toNatClampNeg) ||| ((1 : Int32) <<< (a2 &&& 31))) → (vp_in (((12 : Int32) * a1) + a2) 120 ∧ (∀ σ7 : St, σ7 = st_A σ6 3 (((12 : Int32) * a1) + a2).toNatClampNeg (-9 : Int32) → (vp_in (0 : Int32) 3 ∧ (vp_in (0 : Int32) 3 ∧ (∀ σ8 : St, σ8 = st_A σ7 7 (0 : Int32).toNatClampNeg ((σ7.2.1 7 (0 : Int32).toNatClampNeg) + (1 : Int32)) → (post (0 : Int32) σ8)))))))))))) ∧ (¬ x3 < 0 → (((σ0.1 5) < ((σ0.1 6) - x3) → ((¬ (0 : Int32) = (1 : Int32) → (vp_in (0 : Int32) 3 ∧ (vp_in (0 : Int32) 3 ∧ (∀ σ9 : St, σ9 = st_A σ0 7 (0 : Int32).toNatClampNeg ((σ0.2.1 7 (0 : Int32).toNatClampNeg) + (1 : Int32)) → (post (0 : Int32) σ9))))) ∧ ((0 : Int32) = (1 : Int32) → (vp_in a1 10 ∧ (vp_in a1 10 ∧ (∀ σ10 : St, σ10 = st_A σ0 2 a1.toNatClampNeg ((σ0.2.1 2 a1.toNatClampNeg) ||| ((1 : Int32) <<< (a2 &&& 31))) → (vp_in (((12 : Int32) * a1) + a2) 120 ∧ (∀ σ11 : St, σ11 = st_A σ10 3 (((12 : Int32) * a1) + a2).toNatClampNeg (-9 : Int32) → (vp_in (0 : Int32) 3 ∧ (vp_in (0 : Int32) 3 ∧ (∀ σ12 : St, σ12 = st_A σ11 7 (0 : Int32).toNatClampNeg ((σ11.2.1 7 (0 : Int32).toNatClampNeg) + (1 : Int32)) → (post (0 : Int32) σ12)))))))))))) ∧ (¬ (σ0.1 5) < ((σ0.1 6) - x3) → ((¬ (1 : Int32) = (1 : Int32) → (vp_in (1 : Int32) 3 ∧ (vp_in (1 : Int32) 3 ∧ (∀ σ13 : St, σ13 = st_A σ0 7 (1 : Int32).toNatClampNeg ((σ0.2.1 7 (1 : Int32).toNatClampNeg) + (1 : Int32)) → (post (1 : Int32) σ13))))) ∧ ((1 : Int32) = (1 : Int32) → (vp_in a1 10 ∧ (vp_in a1 10 ∧ (∀ σ14 : St, σ14 = st_A σ0 2 a1.toNatClampNeg ((σ0.2.1 2 a1.toNatClampNeg) ||| ((1 : Int32) <<< (a2 &&& 31))) → (vp_in (((12 : Int32) * a1) + a2) 120 ∧ (∀ σ15 : St, σ15 = st_A σ14 3 (((12 : Int32) * a1) + a2).toNatClampNeg (-9 : Int32) → (vp_in (1 : Int32) 3 ∧ (vp_in (1 : Int32) 3 ∧ (∀ σ16 : St, σ16 = st_A σ15 7 (1 : Int32).toNatClampNeg ((σ15.2.1 7 (1 : Int32).toNatClampNeg) + (1 : Int32)) → (post (1 : Int32) σ16)))))))))))))))) ∧ (¬ r4 = 0 → ((¬ (2 : Int32) = (1 : Int32) → (vp_in (2 : Int32) 3 ∧ (vp_in (2 : Int32) 3 ∧ (∀ σ17 : St, σ17 = st_A σ0 7 (2 : Int32).toNatClampNeg ((σ0.2.1 7 (2 : Int32).toNatClampNeg) + (1 : Int32)) → (post (2 : Int32) σ17))))) ∧ ((2 : Int32) = (1 : Int32) → (vp_in a1 10 ∧ (vp_in a1 10 ∧ (∀ σ18 : St, σ18 = st_A σ0 2 a1.toNatClampNeg ((σ0.2.1 2 a1.toNatClampNeg) ||| ((1 : Int32) <<< (a2 &&& 31))) → (vp_in (((12 : Int32) * a1) + a2) 120 ∧ (∀ σ19 : St, σ19 = st_A σ18 3 (((12 : Int32) * a1) + a2).toNatClampNeg (-9 : Int32) → (vp_in (2 : Int32) 3 ∧ (vp_in (2 : Int32) 3 ∧ (∀ σ20 : St, σ20 = st_A σ19 7 (2 : Int32).toNatClampNeg ((σ19.2.1 7 (2 : Int32).toNatClampNeg) + (1 : Int32)) → (post (2 : Int32) σ20)))))))))))))))))) ∧ (r2 = 0 → (post (-1 : Int32) σ0))))))
set_option maxHeartbeats 4000000 in
set_option maxRecDepth 100000 in
theorem mtX10_ask (l : Launch) (D : va_G) (am : Nat → Nat) (cI cJ cZ : ClassId) (A : Nat → Prop) (hD : ∀ σ : St, va_D A (mw am cI cJ cZ σ)) (σ0 : St) (a1 : Int32) (a2 : Int32) (post : Int32 → St → Prop) (hw : wX10_ask σ0 a1 a2 post) : Met l yX10_ask wsX10_ask ({ frames := 2, cells := 0, slots := 0, locals := 43 } : Room) (va_Pc [.ref (am 0), .int a1, .int a2] (wd_pre D (mw am cI cJ cZ) (wd_tys cI cJ cZ) σ0)) (va_Qi post (wd_B D (mw am cI cJ cZ)) A) 0 0 A := by
  refine Met.ofW (cc := cX10_ask) (maxL := 5) (ret := (some .int)) (by decide) rfl ?_
  intro p e s m args below meth c s₁ B hml hv
  obtain ⟨rfl, hP, hK, hN⟩ := hv
  have hx := B.exec
  have hb := B.bytes
  have hr := B.returns
  have hts := atoms_spec (ws := wsX10_ask) B.pre
  have hown : s.vm.findClass RX10 = some m.cls := findClass_of_methodNamed B.named
  have hlocks := B.notSynchronized
  have hS : va_S A s.heap s.heap [] := va_S.rf
  have f19 := hts (.fieldLink RX10 19 "LeastRightsModel" "struck" "[I") (by decide +kernel)
  have iX10 : ∀ w ∈ wsX100, w ∈ wsX10_ask := by decide +kernel
  have f16 := hts (.fieldLink RX10 16 "LeastRightsModel" "rights" "[I") (by decide +kernel)
  have f41 := hts (.fieldLink RX10 41 "LeastRightsModel" "askCounts" "[I") (by decide +kernel)
  have f106 := hts (.fieldLink RX10 106 "LeastRightsModel" "day" "I") (by decide +kernel)
  have f29 := hts (.fieldLink RX10 29 "LeastRightsModel" "grace" "I") (by decide +kernel)
  have hl := lv_entry ([.ref (am 0), .int a1, .int a2]) (n := 5) (Nat.le_of_ble_eq_true rfl)
  rw [lg_entry_eq]
  generalize (lg_sl ([.ref (am 0), .int a1, .int a2]) ++ List.replicate (5 - (lg_sl ([.ref (am 0), .int a1, .int a2])).length) Slot.unset).toArray = ls at hl ⊢
  have hl : lv_has ls 5 [(0, .ref (am 0)), (1, .int a1), (2, .int a2)] := hl
  unfold wX10_ask at hw
  refine lv_aload_n hx hb dX10_ask_0 rfl (lv_at hl 0 rfl) ?_
  refine lv_iload_n hx hb dX10_ask_1 rfl (lv_at hl 1 rfl) ?_
  refine wd_cVi ⟨hx, hb, hml, hown, hts⟩ (mtX10_isPerson l D am cI cJ cZ A hD σ0 a1 _ hw) (cwV 1 hts gX10_ask_X10_isPerson rfl rfl rfl (by decide +kernel) ⟨(Nat.le_of_ble_eq_true rfl), (Nat.le_of_ble_eq_true rfl)⟩) (va_recv hK hP (ci := 10) (q0 := 0) rfl (mw_q0 am cI cJ cZ σ0)) hK hN hP hS rfl hl.1 rfl (Nat.le_of_ble_eq_true rfl) dX10_ask_2 ⟨Nat.zero_le _, Nat.zero_le _⟩ (fun r1 u9 H locs hq hP hS => ?_)
  obtain ⟨hw, hu⟩ := hq
  rw [hu] at hP
  refine lv_if_eq (tgt := 15) hx hb dX10_ask_5 (by decide) (fun c9 => ?_) (fun c9 => ?_)
  · have hw := hw.1 c9
    refine lv_iconst (v := -1) hx hb dX10_ask_15 (by decide) ?_
    exact wd_iret hx hb hr hlocks hw hP hS dX10_ask_16
  · have hw := hw.2 c9
    refine lv_iload_n hx hb dX10_ask_8 rfl (lv_at hl 2 rfl) ?_
    refine wd_cSi ⟨hx, hb, hml, hown, hts⟩ (mtX10_isRight l D am cI cJ cZ A hD σ0 a2 _ hw) (va_cwS 1 hts gX10_ask_X10_isRight rfl rfl rfl (by decide +kernel) ⟨(Nat.le_of_ble_eq_true rfl), (Nat.le_of_ble_eq_true rfl)⟩) hK hN hP hS rfl hl.1 rfl (Nat.le_of_ble_eq_true rfl) dX10_ask_9 ⟨Nat.zero_le _, Nat.zero_le _⟩ (fun r2 u9 H locs hq hP hS => ?_)
    obtain ⟨hw, hu⟩ := hq
    rw [hu] at hP
    refine lv_if_ne (tgt := 17) hx hb dX10_ask_12 (by decide) (fun c9 => ?_) (fun c9 => ?_)
    · have hw := hw.1 c9
      refine lv_aload_n hx hb dX10_ask_17 rfl (lv_at hl 0 rfl) ?_
      refine va_get hx hb hts iX10 hown hK hP 0 (mw_q0 am cI cJ cZ σ0) rfl 5 (by decide) f19 (fun _ h9 => h9) rfl dX10_ask_18 ?_
      refine lv_bipush (v := 12) hx hb dX10_ask_21 (by decide) ?_
      refine lv_iload_n hx hb dX10_ask_23 rfl (lv_at hl 1 rfl) ?_
      refine lv_imul hx hb dX10_ask_24 ?_
      refine lv_iload_n hx hb dX10_ask_25 rfl (lv_at hl 2 rfl) ?_
      refine lv_iadd hx hb dX10_ask_26 ?_
      obtain ⟨h9, hw⟩ := hw
      refine va_iald hx hb hK hP 4 0 (mw_q4 am cI cJ cZ σ0) rfl h9 dX10_ask_27 ?_
      refine lv_topi (fun x3 ex3 => ?_)
      have hw := hw x3 ex3
      refine lv_istore_n (lv' := [(3, .int x3), (0, .ref (am 0)), (1, .int a1), (2, .int a2)]) hx hb dX10_ask_28 rfl hl (by decide) rfl (fun ls hl => ?_)
      refine lv_aload_n hx hb dX10_ask_29 rfl (lv_at hl 1 rfl) ?_
      refine va_get hx hb hts iX10 hown hK hP 0 (mw_q0 am cI cJ cZ σ0) rfl 4 (by decide) f16 (fun _ h9 => h9) rfl dX10_ask_30 ?_
      refine lv_iload_n hx hb dX10_ask_33 rfl (lv_at hl 2 rfl) ?_
      obtain ⟨h9, hw⟩ := hw
      refine va_iald hx hb hK hP 3 0 (mw_q3 am cI cJ cZ σ0) rfl h9 dX10_ask_34 ?_
      refine lv_iload_n hx hb dX10_ask_35 rfl (lv_at hl 3 rfl) ?_
      refine wd_cSi ⟨hx, hb, hml, hown, hts⟩ (mtX10_has l D am cI cJ cZ A hD σ0 (σ0.2.1 2 a1.toNatClampNeg) a2 _ hw) (va_cwS 2 hts gX10_ask_X10_has rfl rfl rfl (by decide +kernel) ⟨(Nat.le_of_ble_eq_true rfl), (Nat.le_of_ble_eq_true rfl)⟩) hK hN hP hS rfl hl.1 rfl (Nat.le_of_ble_eq_true rfl) dX10_ask_36 ⟨Nat.zero_le _, Nat.zero_le _⟩ (fun r4 u9 H locs hq hP hS => ?_)
      obtain ⟨hw, hu⟩ := hq
      rw [hu] at hP
      refine lv_if_eq (tgt := 46) hx hb dX10_ask_39 (by decide) (fun c9 => ?_) (fun c9 => ?_)
      · have hw := hw.1 c9
        refine lv_iload_n hx hb dX10_ask_46 rfl (lv_at hl 0 rfl) ?_
        refine lv_if_lt (tgt := 67) hx hb dX10_ask_47 (by decide) (fun c9 => ?_) (fun c9 => ?_)
        · have hw := hw.1 c9
          refine lv_iconst (v := 0) hx hb dX10_ask_67 (by decide) ?_
          refine lv_istore (lv' := [(4, .int (0 : Int32)), (3, .int x3), (0, .ref (am 0)), (1, .int a1), (2, .int a2)]) hx hb dX10_ask_68 hl (by decide) rfl (fun ls hl => ?_)
          refine lv_iload hx hb dX10_ask_70 (lv_at hl 0 rfl) ?_
          refine lv_iconst (v := 1) hx hb dX10_ask_72 (by decide) ?_
          refine lv_icmp_ne (tgt := 101) hx hb dX10_ask_73 (by decide) (fun c9 => ?_) (fun c9 => ?_)
          · have hw := hw.1 c9
            refine lv_aload_n hx hb dX10_ask_101 rfl (lv_at hl 2 rfl) ?_
            refine va_get hx hb hts iX10 hown hK hP 0 (mw_q0 am cI cJ cZ σ0) rfl 15 (by decide) f41 (fun _ h9 => h9) rfl dX10_ask_102 ?_
            refine lv_iload hx hb dX10_ask_105 (lv_at hl 0 rfl) ?_
            refine lv_dup2_11 hx hb dX10_ask_107 rfl rfl ?_
            obtain ⟨h9, hw⟩ := hw
            refine va_iald hx hb hK hP 8 0 (mw_q8 am cI cJ cZ σ0) rfl h9 dX10_ask_108 ?_
            refine lv_iconst (v := 1) hx hb dX10_ask_109 (by decide) ?_
            refine lv_iadd hx hb dX10_ask_110 ?_
            obtain ⟨h9, hw⟩ := hw
            refine wd_iast 7 8 hx hb hK hP hD hS (mw_q8 am cI cJ cZ σ0) rfl (mw_a7 am cI cJ cZ σ0) h9 dX10_ask_111 (fun H locs σ5 eσ5 hP hS => ?_)
            have hw := hw σ5 eσ5
            refine lv_iload hx hb dX10_ask_112 (lv_at hl 0 rfl) ?_
            exact wd_iret hx hb hr hlocks hw hP hS dX10_ask_114
          · have hw := hw.2 c9
            refine lv_aload_n hx hb dX10_ask_76 rfl (lv_at hl 2 rfl) ?_
            refine va_get hx hb hts iX10 hown hK hP 0 (mw_q0 am cI cJ cZ σ0) rfl 4 (by decide) f16 (fun _ h9 => h9) rfl dX10_ask_77 ?_
            refine lv_iload_n hx hb dX10_ask_80 rfl (lv_at hl 3 rfl) ?_
            refine lv_dup2_11 hx hb dX10_ask_81 rfl rfl ?_
            obtain ⟨h9, hw⟩ := hw
            refine va_iald hx hb hK hP 3 0 (mw_q3 am cI cJ cZ σ0) rfl h9 dX10_ask_82 ?_
            refine lv_iconst (v := 1) hx hb dX10_ask_83 (by decide) ?_
            refine lv_iload_n hx hb dX10_ask_84 rfl (lv_at hl 4 rfl) ?_
            refine lv_ishl hx hb dX10_ask_85 ?_
            refine lv_ior hx hb dX10_ask_86 ?_
            obtain ⟨h9, hw⟩ := hw
            refine wd_iast 2 3 hx hb hK hP hD hS (mw_q3 am cI cJ cZ σ0) rfl (mw_a2 am cI cJ cZ σ0) h9 dX10_ask_87 (fun H locs σ6 eσ6 hP hS => ?_)
            have hw := hw σ6 eσ6
            refine lv_aload_n hx hb dX10_ask_88 rfl (lv_at hl 2 rfl) ?_
            refine va_get hx hb hts iX10 hown hK hP 0 (mw_q0 am cI cJ cZ σ6) rfl 5 (by decide) f19 (fun _ h9 => h9) rfl dX10_ask_89 ?_
            refine lv_bipush (v := 12) hx hb dX10_ask_92 (by decide) ?_
            refine lv_iload_n hx hb dX10_ask_94 rfl (lv_at hl 3 rfl) ?_
            refine lv_imul hx hb dX10_ask_95 ?_
            refine lv_iload_n hx hb dX10_ask_96 rfl (lv_at hl 4 rfl) ?_
            refine lv_iadd hx hb dX10_ask_97 ?_
            refine lv_bipush (v := -9) hx hb dX10_ask_98 (by decide) ?_
            obtain ⟨h9, hw⟩ := hw
            refine wd_iast 3 4 hx hb hK hP hD hS (mw_q4 am cI cJ cZ σ6) rfl (mw_a3 am cI cJ cZ σ6) h9 dX10_ask_100 (fun H locs σ7 eσ7 hP hS => ?_)
            have hw := hw σ7 eσ7
            refine lv_aload_n hx hb dX10_ask_101 rfl (lv_at hl 2 rfl) ?_
            refine va_get hx hb hts iX10 hown hK hP 0 (mw_q0 am cI cJ cZ σ7) rfl 15 (by decide) f41 (fun _ h9 => h9) rfl dX10_ask_102 ?_
            refine lv_iload hx hb dX10_ask_105 (lv_at hl 0 rfl) ?_
            refine lv_dup2_11 hx hb dX10_ask_107 rfl rfl ?_
            obtain ⟨h9, hw⟩ := hw
            refine va_iald hx hb hK hP 8 0 (mw_q8 am cI cJ cZ σ7) rfl h9 dX10_ask_108 ?_
            refine lv_iconst (v := 1) hx hb dX10_ask_109 (by decide) ?_
            refine lv_iadd hx hb dX10_ask_110 ?_
            obtain ⟨h9, hw⟩ := hw
            refine wd_iast 7 8 hx hb hK hP hD hS (mw_q8 am cI cJ cZ σ7) rfl (mw_a7 am cI cJ cZ σ7) h9 dX10_ask_111 (fun H locs σ8 eσ8 hP hS => ?_)
            have hw := hw σ8 eσ8
            refine lv_iload hx hb dX10_ask_112 (lv_at hl 0 rfl) ?_
            exact wd_iret hx hb hr hlocks hw hP hS dX10_ask_114
        · have hw := hw.2 c9
          refine lv_aload_n hx hb dX10_ask_50 rfl (lv_at hl 1 rfl) ?_
          refine va_get hx hb hts iX10 hown hK hP 0 (mw_q0 am cI cJ cZ σ0) rfl 10 (by decide) f106 (fun _ h9 => h9) rfl dX10_ask_51 ?_
          refine lv_iload_n hx hb dX10_ask_54 rfl (lv_at hl 0 rfl) ?_
          refine lv_isub hx hb dX10_ask_55 ?_
          refine lv_aload_n hx hb dX10_ask_56 rfl (lv_at hl 1 rfl) ?_
          refine va_get hx hb hts iX10 hown hK hP 0 (mw_q0 am cI cJ cZ σ0) rfl 9 (by decide) f29 (fun _ h9 => h9) rfl dX10_ask_57 ?_
          refine lv_icmp_gt (tgt := 67) hx hb dX10_ask_60 (by decide) (fun c9 => ?_) (fun c9 => ?_)
          · have hw := hw.1 c9
            refine lv_iconst (v := 0) hx hb dX10_ask_67 (by decide) ?_
            refine lv_istore (lv' := [(4, .int (0 : Int32)), (3, .int x3), (0, .ref (am 0)), (1, .int a1), (2, .int a2)]) hx hb dX10_ask_68 hl (by decide) rfl (fun ls hl => ?_)
            refine lv_iload hx hb dX10_ask_70 (lv_at hl 0 rfl) ?_
            refine lv_iconst (v := 1) hx hb dX10_ask_72 (by decide) ?_
            refine lv_icmp_ne (tgt := 101) hx hb dX10_ask_73 (by decide) (fun c9 => ?_) (fun c9 => ?_)
            · have hw := hw.1 c9
              refine lv_aload_n hx hb dX10_ask_101 rfl (lv_at hl 2 rfl) ?_
              refine va_get hx hb hts iX10 hown hK hP 0 (mw_q0 am cI cJ cZ σ0) rfl 15 (by decide) f41 (fun _ h9 => h9) rfl dX10_ask_102 ?_
              refine lv_iload hx hb dX10_ask_105 (lv_at hl 0 rfl) ?_
              refine lv_dup2_11 hx hb dX10_ask_107 rfl rfl ?_
              obtain ⟨h9, hw⟩ := hw
              refine va_iald hx hb hK hP 8 0 (mw_q8 am cI cJ cZ σ0) rfl h9 dX10_ask_108 ?_
              refine lv_iconst (v := 1) hx hb dX10_ask_109 (by decide) ?_
              refine lv_iadd hx hb dX10_ask_110 ?_
              obtain ⟨h9, hw⟩ := hw
              refine wd_iast 7 8 hx hb hK hP hD hS (mw_q8 am cI cJ cZ σ0) rfl (mw_a7 am cI cJ cZ σ0) h9 dX10_ask_111 (fun H locs σ9 eσ9 hP hS => ?_)
              have hw := hw σ9 eσ9
              refine lv_iload hx hb dX10_ask_112 (lv_at hl 0 rfl) ?_
              exact wd_iret hx hb hr hlocks hw hP hS dX10_ask_114
            · have hw := hw.2 c9
              refine lv_aload_n hx hb dX10_ask_76 rfl (lv_at hl 2 rfl) ?_
              refine va_get hx hb hts iX10 hown hK hP 0 (mw_q0 am cI cJ cZ σ0) rfl 4 (by decide) f16 (fun _ h9 => h9) rfl dX10_ask_77 ?_
              refine lv_iload_n hx hb dX10_ask_80 rfl (lv_at hl 3 rfl) ?_
              refine lv_dup2_11 hx hb dX10_ask_81 rfl rfl ?_
              obtain ⟨h9, hw⟩ := hw
              refine va_iald hx hb hK hP 3 0 (mw_q3 am cI cJ cZ σ0) rfl h9 dX10_ask_82 ?_
              refine lv_iconst (v := 1) hx hb dX10_ask_83 (by decide) ?_
              refine lv_iload_n hx hb dX10_ask_84 rfl (lv_at hl 4 rfl) ?_
              refine lv_ishl hx hb dX10_ask_85 ?_
              refine lv_ior hx hb dX10_ask_86 ?_
              obtain ⟨h9, hw⟩ := hw
              refine wd_iast 2 3 hx hb hK hP hD hS (mw_q3 am cI cJ cZ σ0) rfl (mw_a2 am cI cJ cZ σ0) h9 dX10_ask_87 (fun H locs σ10 eσ10 hP hS => ?_)
              have hw := hw σ10 eσ10
              refine lv_aload_n hx hb dX10_ask_88 rfl (lv_at hl 2 rfl) ?_
              refine va_get hx hb hts iX10 hown hK hP 0 (mw_q0 am cI cJ cZ σ10) rfl 5 (by decide) f19 (fun _ h9 => h9) rfl dX10_ask_89 ?_
              refine lv_bipush (v := 12) hx hb dX10_ask_92 (by decide) ?_
              refine lv_iload_n hx hb dX10_ask_94 rfl (lv_at hl 3 rfl) ?_
              refine lv_imul hx hb dX10_ask_95 ?_
              refine lv_iload_n hx hb dX10_ask_96 rfl (lv_at hl 4 rfl) ?_
              refine lv_iadd hx hb dX10_ask_97 ?_
              refine lv_bipush (v := -9) hx hb dX10_ask_98 (by decide) ?_
              obtain ⟨h9, hw⟩ := hw
              refine wd_iast 3 4 hx hb hK hP hD hS (mw_q4 am cI cJ cZ σ10) rfl (mw_a3 am cI cJ cZ σ10) h9 dX10_ask_100 (fun H locs σ11 eσ11 hP hS => ?_)
              have hw := hw σ11 eσ11
              refine lv_aload_n hx hb dX10_ask_101 rfl (lv_at hl 2 rfl) ?_
              refine va_get hx hb hts iX10 hown hK hP 0 (mw_q0 am cI cJ cZ σ11) rfl 15 (by decide) f41 (fun _ h9 => h9) rfl dX10_ask_102 ?_
              refine lv_iload hx hb dX10_ask_105 (lv_at hl 0 rfl) ?_
              refine lv_dup2_11 hx hb dX10_ask_107 rfl rfl ?_
              obtain ⟨h9, hw⟩ := hw
              refine va_iald hx hb hK hP 8 0 (mw_q8 am cI cJ cZ σ11) rfl h9 dX10_ask_108 ?_
              refine lv_iconst (v := 1) hx hb dX10_ask_109 (by decide) ?_
              refine lv_iadd hx hb dX10_ask_110 ?_
              obtain ⟨h9, hw⟩ := hw
              refine wd_iast 7 8 hx hb hK hP hD hS (mw_q8 am cI cJ cZ σ11) rfl (mw_a7 am cI cJ cZ σ11) h9 dX10_ask_111 (fun H locs σ12 eσ12 hP hS => ?_)
              have hw := hw σ12 eσ12
              refine lv_iload hx hb dX10_ask_112 (lv_at hl 0 rfl) ?_
              exact wd_iret hx hb hr hlocks hw hP hS dX10_ask_114
          · have hw := hw.2 c9
            refine lv_iconst (v := 1) hx hb dX10_ask_63 (by decide) ?_
            refine lv_goto (tgt := 68) hx hb dX10_ask_64 (by decide) ?_
            refine lv_istore (lv' := [(4, .int (1 : Int32)), (3, .int x3), (0, .ref (am 0)), (1, .int a1), (2, .int a2)]) hx hb dX10_ask_68 hl (by decide) rfl (fun ls hl => ?_)
            refine lv_iload hx hb dX10_ask_70 (lv_at hl 0 rfl) ?_
            refine lv_iconst (v := 1) hx hb dX10_ask_72 (by decide) ?_
            refine lv_icmp_ne (tgt := 101) hx hb dX10_ask_73 (by decide) (fun c9 => ?_) (fun c9 => ?_)
            · have hw := hw.1 c9
              refine lv_aload_n hx hb dX10_ask_101 rfl (lv_at hl 2 rfl) ?_
              refine va_get hx hb hts iX10 hown hK hP 0 (mw_q0 am cI cJ cZ σ0) rfl 15 (by decide) f41 (fun _ h9 => h9) rfl dX10_ask_102 ?_
              refine lv_iload hx hb dX10_ask_105 (lv_at hl 0 rfl) ?_
              refine lv_dup2_11 hx hb dX10_ask_107 rfl rfl ?_
              obtain ⟨h9, hw⟩ := hw
              refine va_iald hx hb hK hP 8 0 (mw_q8 am cI cJ cZ σ0) rfl h9 dX10_ask_108 ?_
              refine lv_iconst (v := 1) hx hb dX10_ask_109 (by decide) ?_
              refine lv_iadd hx hb dX10_ask_110 ?_
              obtain ⟨h9, hw⟩ := hw
              refine wd_iast 7 8 hx hb hK hP hD hS (mw_q8 am cI cJ cZ σ0) rfl (mw_a7 am cI cJ cZ σ0) h9 dX10_ask_111 (fun H locs σ13 eσ13 hP hS => ?_)
              have hw := hw σ13 eσ13
              refine lv_iload hx hb dX10_ask_112 (lv_at hl 0 rfl) ?_
              exact wd_iret hx hb hr hlocks hw hP hS dX10_ask_114
            · have hw := hw.2 c9
              refine lv_aload_n hx hb dX10_ask_76 rfl (lv_at hl 2 rfl) ?_
              refine va_get hx hb hts iX10 hown hK hP 0 (mw_q0 am cI cJ cZ σ0) rfl 4 (by decide) f16 (fun _ h9 => h9) rfl dX10_ask_77 ?_
              refine lv_iload_n hx hb dX10_ask_80 rfl (lv_at hl 3 rfl) ?_
              refine lv_dup2_11 hx hb dX10_ask_81 rfl rfl ?_
              obtain ⟨h9, hw⟩ := hw
              refine va_iald hx hb hK hP 3 0 (mw_q3 am cI cJ cZ σ0) rfl h9 dX10_ask_82 ?_
              refine lv_iconst (v := 1) hx hb dX10_ask_83 (by decide) ?_
              refine lv_iload_n hx hb dX10_ask_84 rfl (lv_at hl 4 rfl) ?_
              refine lv_ishl hx hb dX10_ask_85 ?_
              refine lv_ior hx hb dX10_ask_86 ?_
              obtain ⟨h9, hw⟩ := hw
              refine wd_iast 2 3 hx hb hK hP hD hS (mw_q3 am cI cJ cZ σ0) rfl (mw_a2 am cI cJ cZ σ0) h9 dX10_ask_87 (fun H locs σ14 eσ14 hP hS => ?_)
              have hw := hw σ14 eσ14
              refine lv_aload_n hx hb dX10_ask_88 rfl (lv_at hl 2 rfl) ?_
              refine va_get hx hb hts iX10 hown hK hP 0 (mw_q0 am cI cJ cZ σ14) rfl 5 (by decide) f19 (fun _ h9 => h9) rfl dX10_ask_89 ?_
              refine lv_bipush (v := 12) hx hb dX10_ask_92 (by decide) ?_
              refine lv_iload_n hx hb dX10_ask_94 rfl (lv_at hl 3 rfl) ?_
              refine lv_imul hx hb dX10_ask_95 ?_
              refine lv_iload_n hx hb dX10_ask_96 rfl (lv_at hl 4 rfl) ?_
              refine lv_iadd hx hb dX10_ask_97 ?_
              refine lv_bipush (v := -9) hx hb dX10_ask_98 (by decide) ?_
              obtain ⟨h9, hw⟩ := hw
              refine wd_iast 3 4 hx hb hK hP hD hS (mw_q4 am cI cJ cZ σ14) rfl (mw_a3 am cI cJ cZ σ14) h9 dX10_ask_100 (fun H locs σ15 eσ15 hP hS => ?_)
              have hw := hw σ15 eσ15
              refine lv_aload_n hx hb dX10_ask_101 rfl (lv_at hl 2 rfl) ?_
              refine va_get hx hb hts iX10 hown hK hP 0 (mw_q0 am cI cJ cZ σ15) rfl 15 (by decide) f41 (fun _ h9 => h9) rfl dX10_ask_102 ?_
              refine lv_iload hx hb dX10_ask_105 (lv_at hl 0 rfl) ?_
              refine lv_dup2_11 hx hb dX10_ask_107 rfl rfl ?_
              obtain ⟨h9, hw⟩ := hw
              refine va_iald hx hb hK hP 8 0 (mw_q8 am cI cJ cZ σ15) rfl h9 dX10_ask_108 ?_
              refine lv_iconst (v := 1) hx hb dX10_ask_109 (by decide) ?_
              refine lv_iadd hx hb dX10_ask_110 ?_
              obtain ⟨h9, hw⟩ := hw
              refine wd_iast 7 8 hx hb hK hP hD hS (mw_q8 am cI cJ cZ σ15) rfl (mw_a7 am cI cJ cZ σ15) h9 dX10_ask_111 (fun H locs σ16 eσ16 hP hS => ?_)
              have hw := hw σ16 eσ16
              refine lv_iload hx hb dX10_ask_112 (lv_at hl 0 rfl) ?_
              exact wd_iret hx hb hr hlocks hw hP hS dX10_ask_114
      · have hw := hw.2 c9
        refine lv_iconst (v := 2) hx hb dX10_ask_42 (by decide) ?_
        refine lv_goto (tgt := 68) hx hb dX10_ask_43 (by decide) ?_
        refine lv_istore (lv' := [(4, .int (2 : Int32)), (3, .int x3), (0, .ref (am 0)), (1, .int a1), (2, .int a2)]) hx hb dX10_ask_68 hl (by decide) rfl (fun ls hl => ?_)
        refine lv_iload hx hb dX10_ask_70 (lv_at hl 0 rfl) ?_
        refine lv_iconst (v := 1) hx hb dX10_ask_72 (by decide) ?_
        refine lv_icmp_ne (tgt := 101) hx hb dX10_ask_73 (by decide) (fun c9 => ?_) (fun c9 => ?_)
        · have hw := hw.1 c9
          refine lv_aload_n hx hb dX10_ask_101 rfl (lv_at hl 2 rfl) ?_
          refine va_get hx hb hts iX10 hown hK hP 0 (mw_q0 am cI cJ cZ σ0) rfl 15 (by decide) f41 (fun _ h9 => h9) rfl dX10_ask_102 ?_
          refine lv_iload hx hb dX10_ask_105 (lv_at hl 0 rfl) ?_
          refine lv_dup2_11 hx hb dX10_ask_107 rfl rfl ?_
          obtain ⟨h9, hw⟩ := hw
          refine va_iald hx hb hK hP 8 0 (mw_q8 am cI cJ cZ σ0) rfl h9 dX10_ask_108 ?_
          refine lv_iconst (v := 1) hx hb dX10_ask_109 (by decide) ?_
          refine lv_iadd hx hb dX10_ask_110 ?_
          obtain ⟨h9, hw⟩ := hw
          refine wd_iast 7 8 hx hb hK hP hD hS (mw_q8 am cI cJ cZ σ0) rfl (mw_a7 am cI cJ cZ σ0) h9 dX10_ask_111 (fun H locs σ17 eσ17 hP hS => ?_)
          have hw := hw σ17 eσ17
          refine lv_iload hx hb dX10_ask_112 (lv_at hl 0 rfl) ?_
          exact wd_iret hx hb hr hlocks hw hP hS dX10_ask_114
        · have hw := hw.2 c9
          refine lv_aload_n hx hb dX10_ask_76 rfl (lv_at hl 2 rfl) ?_
          refine va_get hx hb hts iX10 hown hK hP 0 (mw_q0 am cI cJ cZ σ0) rfl 4 (by decide) f16 (fun _ h9 => h9) rfl dX10_ask_77 ?_
          refine lv_iload_n hx hb dX10_ask_80 rfl (lv_at hl 3 rfl) ?_
          refine lv_dup2_11 hx hb dX10_ask_81 rfl rfl ?_
          obtain ⟨h9, hw⟩ := hw
          refine va_iald hx hb hK hP 3 0 (mw_q3 am cI cJ cZ σ0) rfl h9 dX10_ask_82 ?_
          refine lv_iconst (v := 1) hx hb dX10_ask_83 (by decide) ?_
          refine lv_iload_n hx hb dX10_ask_84 rfl (lv_at hl 4 rfl) ?_
          refine lv_ishl hx hb dX10_ask_85 ?_
          refine lv_ior hx hb dX10_ask_86 ?_
          obtain ⟨h9, hw⟩ := hw
          refine wd_iast 2 3 hx hb hK hP hD hS (mw_q3 am cI cJ cZ σ0) rfl (mw_a2 am cI cJ cZ σ0) h9 dX10_ask_87 (fun H locs σ18 eσ18 hP hS => ?_)
          have hw := hw σ18 eσ18
          refine lv_aload_n hx hb dX10_ask_88 rfl (lv_at hl 2 rfl) ?_
          refine va_get hx hb hts iX10 hown hK hP 0 (mw_q0 am cI cJ cZ σ18) rfl 5 (by decide) f19 (fun _ h9 => h9) rfl dX10_ask_89 ?_
          refine lv_bipush (v := 12) hx hb dX10_ask_92 (by decide) ?_
          refine lv_iload_n hx hb dX10_ask_94 rfl (lv_at hl 3 rfl) ?_
          refine lv_imul hx hb dX10_ask_95 ?_
          refine lv_iload_n hx hb dX10_ask_96 rfl (lv_at hl 4 rfl) ?_
          refine lv_iadd hx hb dX10_ask_97 ?_
          refine lv_bipush (v := -9) hx hb dX10_ask_98 (by decide) ?_
          obtain ⟨h9, hw⟩ := hw
          refine wd_iast 3 4 hx hb hK hP hD hS (mw_q4 am cI cJ cZ σ18) rfl (mw_a3 am cI cJ cZ σ18) h9 dX10_ask_100 (fun H locs σ19 eσ19 hP hS => ?_)
          have hw := hw σ19 eσ19
          refine lv_aload_n hx hb dX10_ask_101 rfl (lv_at hl 2 rfl) ?_
          refine va_get hx hb hts iX10 hown hK hP 0 (mw_q0 am cI cJ cZ σ19) rfl 15 (by decide) f41 (fun _ h9 => h9) rfl dX10_ask_102 ?_
          refine lv_iload hx hb dX10_ask_105 (lv_at hl 0 rfl) ?_
          refine lv_dup2_11 hx hb dX10_ask_107 rfl rfl ?_
          obtain ⟨h9, hw⟩ := hw
          refine va_iald hx hb hK hP 8 0 (mw_q8 am cI cJ cZ σ19) rfl h9 dX10_ask_108 ?_
          refine lv_iconst (v := 1) hx hb dX10_ask_109 (by decide) ?_
          refine lv_iadd hx hb dX10_ask_110 ?_
          obtain ⟨h9, hw⟩ := hw
          refine wd_iast 7 8 hx hb hK hP hD hS (mw_q8 am cI cJ cZ σ19) rfl (mw_a7 am cI cJ cZ σ19) h9 dX10_ask_111 (fun H locs σ20 eσ20 hP hS => ?_)
          have hw := hw σ20 eσ20
          refine lv_iload hx hb dX10_ask_112 (lv_at hl 0 rfl) ?_
          exact wd_iret hx hb hr hlocks hw hP hS dX10_ask_114
    · have hw := hw.2 c9
      refine lv_iconst (v := -1) hx hb dX10_ask_15 (by decide) ?_
      exact wd_iret hx hb hr hlocks hw hP hS dX10_ask_16
