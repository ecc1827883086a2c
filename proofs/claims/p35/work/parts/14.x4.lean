/-! X9_later X9_noRight X9_use X9_kindOf X9_kind X9_isOfKind X9_uses X9_strike X9_ask X9_asks X9_lookAtKept X9_candidates X9_roles X9_tries X9_role X9_rolesOf X9_marksOf -/
def wX9_later (σ0 : St) (a1 : Int32) (post : Int32 → St → Prop) : Prop := (a1 < 0 → (post (-1 : Int32) σ0)) ∧ (¬ a1 < 0 → ((a1 ≤ ((999 : Int32) - (σ0.1 2)) → (∀ σ1 : St, σ1 = st_S σ0 2 ((σ0.1 2) + a1) → (post (σ1.1 2) σ1))) ∧ (¬ a1 ≤ ((999 : Int32) - (σ0.1 2)) → (post (-1 : Int32) σ0))))
set_option maxHeartbeats 4000000 in
set_option maxRecDepth 100000 in
theorem mtX9_later (l : Launch) (D : va_G) (ad : Nat → Nat) (cI cJ cZ : ClassId) (A : Nat → Prop) (hD : ∀ σ : St, va_D A (xw ad cI cJ cZ σ)) (σ0 : St) (a1 : Int32) (post : Int32 → St → Prop) (hw : wX9_later σ0 a1 post) : Met l yX9_later wsX9_later ({ frames := 0, cells := 0, slots := 0, locals := 0 } : Room) (va_Pc [.ref (ad 0), .int a1] (wd_pre D (xw ad cI cJ cZ) (wd_tys cI cJ cZ) σ0)) (va_Qi post (wd_B D (xw ad cI cJ cZ)) A) 0 0 A := by
  refine Met.ofW (cc := cX9_later) (maxL := 2) (ret := (some .int)) (by decide) rfl ?_
  intro p e s m args below meth c s₁ B hml hv
  obtain ⟨rfl, hP, hK, hN⟩ := hv
  have hx := B.exec
  have hb := B.bytes
  have hr := B.returns
  have hts := atoms_spec (ws := wsX9_later) B.pre
  have hown : s.vm.findClass RX9 = some m.cls := findClass_of_methodNamed B.named
  have hlocks := B.notSynchronized
  have hS : va_S A s.heap s.heap [] := va_S.rf
  have f10 := hts (.fieldLink RX9 10 "LeastRights" "days" "LLeastRights$Days;") (by decide +kernel)
  have iX9 : ∀ w ∈ wsX90, w ∈ wsX9_later := by decide +kernel
  have n134 := va_Nw.use (A := ([.ref (ad 0), .int a1] : List Value).toArray) rfl (hN.1 ("LeastRights", 134, "LeastRights$Days", "present", "I") (by decide +kernel))
  have iX2 : ∀ w ∈ wsX20, w ∈ wsX9_later := by decide +kernel
  have hl := lv_entry ([.ref (ad 0), .int a1]) (n := 2) (Nat.le_of_ble_eq_true rfl)
  rw [lg_entry_eq]
  generalize (lg_sl ([.ref (ad 0), .int a1]) ++ List.replicate (2 - (lg_sl ([.ref (ad 0), .int a1])).length) Slot.unset).toArray = ls at hl ⊢
  have hl : lv_has ls 2 [(0, .ref (ad 0)), (1, .int a1)] := hl
  unfold wX9_later at hw
  refine lv_iload_n hx hb dX9_later_0 rfl (lv_at hl 1 rfl) ?_
  refine lv_if_lt (tgt := 19) hx hb dX9_later_1 (by decide) (fun c9 => ?_) (fun c9 => ?_)
  · have hw := hw.1 c9
    refine lv_iconst (v := -1) hx hb dX9_later_19 (by decide) ?_
    exact wd_iret hx hb hr hlocks hw hP hS dX9_later_20
  · have hw := hw.2 c9
    refine lv_iload_n hx hb dX9_later_4 rfl (lv_at hl 1 rfl) ?_
    refine lv_sipush (v := 999) hx hb dX9_later_5 (by decide) ?_
    refine lv_aload_n hx hb dX9_later_8 rfl (lv_at hl 0 rfl) ?_
    refine va_get hx hb hts iX9 hown hK hP 0 (xw_q0 ad cI cJ cZ σ0) rfl 0 (by decide) f10 (fun _ h9 => h9) rfl dX9_later_9 ?_
    refine va_getN hx hb hts iX2 hown hK hP 1 (xw_q1 ad cI cJ cZ σ0) rfl 0 (by decide) n134 (fun _ h9 => h9) rfl dX9_later_12 ?_
    refine lv_isub hx hb dX9_later_15 ?_
    refine lv_icmp_le (tgt := 21) hx hb dX9_later_16 (by decide) (fun c9 => ?_) (fun c9 => ?_)
    · have hw := hw.1 c9
      refine lv_aload_n hx hb dX9_later_21 rfl (lv_at hl 0 rfl) ?_
      refine va_get hx hb hts iX9 hown hK hP 0 (xw_q0 ad cI cJ cZ σ0) rfl 0 (by decide) f10 (fun _ h9 => h9) rfl dX9_later_22 ?_
      refine lv_dup hx hb dX9_later_25 rfl ?_
      refine va_getN hx hb hts iX2 hown hK hP 1 (xw_q1 ad cI cJ cZ σ0) rfl 0 (by decide) n134 (fun _ h9 => h9) rfl dX9_later_26 ?_
      refine lv_iload_n hx hb dX9_later_29 rfl (lv_at hl 1 rfl) ?_
      refine lv_iadd hx hb dX9_later_30 ?_
      refine wd_putN 2 1 0 (ty := .int) tyX2 hx hb hts iX2 tyX2_ok nmX2 hown hK hP hD hS (xw_q1 ad cI cJ cZ σ0) rfl (by decide) n134 (fun _ h9 => h9) rfl (by decide +kernel) rfl rfl (Nat.le_of_ble_eq_true rfl) (xw_s2 ad cI cJ cZ σ0) dX9_later_31 (fun H locs σ1 eσ1 hP hS => ?_)
      have hw := hw σ1 eσ1
      refine lv_aload_n hx hb dX9_later_34 rfl (lv_at hl 0 rfl) ?_
      refine va_get hx hb hts iX9 hown hK hP 0 (xw_q0 ad cI cJ cZ σ1) rfl 0 (by decide) f10 (fun _ h9 => h9) rfl dX9_later_35 ?_
      refine va_getN hx hb hts iX2 hown hK hP 1 (xw_q1 ad cI cJ cZ σ1) rfl 0 (by decide) n134 (fun _ h9 => h9) rfl dX9_later_38 ?_
      exact wd_iret hx hb hr hlocks hw hP hS dX9_later_41
    · have hw := hw.2 c9
      refine lv_iconst (v := -1) hx hb dX9_later_19 (by decide) ?_
      exact wd_iret hx hb hr hlocks hw hP hS dX9_later_20
def wX9_noRight (a0 : Int32) (post : Int32 → Prop) : Prop := (a0 < 0 → (post (1 : Int32))) ∧ (¬ a0 < 0 → ((a0 < (12 : Int32) → (post (0 : Int32))) ∧ (¬ a0 < (12 : Int32) → (post (1 : Int32)))))
set_option maxHeartbeats 4000000 in
set_option maxRecDepth 100000 in
theorem mtX9_noRight (l : Launch) (D : va_G) (ad : Nat → Nat) (cI cJ cZ : ClassId) (A : Nat → Prop) (hD : ∀ σ : St, va_D A (xw ad cI cJ cZ σ)) (σ0 : St) (a0 : Int32) (post : Int32 → Prop) (hw : wX9_noRight a0 post) : Met l yX9_noRight wsX9_noRight ({ frames := 0, cells := 0, slots := 0, locals := 0 } : Room) (va_Pc [.int a0] (wd_pre D (xw ad cI cJ cZ) (wd_tys cI cJ cZ) σ0)) (va_Qi (fun (r : Int32) (u : St) => post r ∧ u = σ0) (wd_B D (xw ad cI cJ cZ)) A) 0 0 A := by
  refine Met.ofW (cc := cX9_noRight) (maxL := 1) (ret := (some .boolean)) (by decide) rfl ?_
  intro p e s m args below meth c s₁ B hml hv
  obtain ⟨rfl, hP, hK, hN⟩ := hv
  have hx := B.exec
  have hb := B.bytes
  have hr := B.returns
  have hts := atoms_spec (ws := wsX9_noRight) B.pre
  have hown : s.vm.findClass RX9 = some m.cls := findClass_of_methodNamed B.named
  have hlocks := B.notSynchronized
  have hS : va_S A s.heap s.heap [] := va_S.rf
  have hl := lv_entry ([.int a0]) (n := 1) (Nat.le_of_ble_eq_true rfl)
  rw [lg_entry_eq]
  generalize (lg_sl ([.int a0]) ++ List.replicate (1 - (lg_sl ([.int a0])).length) Slot.unset).toArray = ls at hl ⊢
  have hl : lv_has ls 1 [(0, .int a0)] := hl
  unfold wX9_noRight at hw
  refine lv_iload_n hx hb dX9_noRight_0 rfl (lv_at hl 0 rfl) ?_
  refine lv_if_lt (tgt := 10) hx hb dX9_noRight_1 (by decide) (fun c9 => ?_) (fun c9 => ?_)
  · have hw := hw.1 c9
    refine lv_iconst (v := 1) hx hb dX9_noRight_10 (by decide) ?_
    refine lv_goto (tgt := 15) hx hb dX9_noRight_11 (by decide) ?_
    exact wd_zret hx hb hr hlocks (by decide) ⟨hw, rfl⟩ hP hS dX9_noRight_15
  · have hw := hw.2 c9
    refine lv_iload_n hx hb dX9_noRight_4 rfl (lv_at hl 0 rfl) ?_
    refine lv_bipush (v := 12) hx hb dX9_noRight_5 (by decide) ?_
    refine lv_icmp_lt (tgt := 14) hx hb dX9_noRight_7 (by decide) (fun c9 => ?_) (fun c9 => ?_)
    · have hw := hw.1 c9
      refine lv_iconst (v := 0) hx hb dX9_noRight_14 (by decide) ?_
      exact wd_zret hx hb hr hlocks (by decide) ⟨hw, rfl⟩ hP hS dX9_noRight_15
    · have hw := hw.2 c9
      refine lv_iconst (v := 1) hx hb dX9_noRight_10 (by decide) ?_
      refine lv_goto (tgt := 15) hx hb dX9_noRight_11 (by decide) ?_
      exact wd_zret hx hb hr hlocks (by decide) ⟨hw, rfl⟩ hP hS dX9_noRight_15
def wX9_use (σ0 : St) (a1 : Int32) (a2 : Int32) (a3 : Int32) (post : Int32 → St → Prop) : Prop := wX9_noPerson σ0 a1 (fun (r1 : Int32) => (¬ r1 = 0 → (post (-1 : Int32) σ0)) ∧ (r1 = 0 → (wX9_noRight a2 (fun (r2 : Int32) => (¬ r2 = 0 → (post (-1 : Int32) σ0)) ∧ (r2 = 0 → ((a3 < 0 → (post (-1 : Int32) σ0)) ∧ (¬ a3 < 0 → ((a3 ≤ (σ0.1 2) → (((σ0.1 7) < (400 : Int32) → (wX5_has σ0 a1 a2 (fun (r3 : Int32) => (¬ r3 = 0 → (wX8_enter σ0 a1 a2 ((σ0.1 2) - a3) (fun (r4 : Int32) (σ5 : St) => post r4 σ5))) ∧ (r3 = 0 → (post (-4 : Int32) σ0))))) ∧ (¬ (σ0.1 7) < (400 : Int32) → (post (-2 : Int32) σ0)))) ∧ (¬ a3 ≤ (σ0.1 2) → (post (-1 : Int32) σ0))))))))))
set_option maxHeartbeats 4000000 in
set_option maxRecDepth 100000 in
theorem mtX9_use (l : Launch) (D : va_G) (ad : Nat → Nat) (cI cJ cZ : ClassId) (A : Nat → Prop) (hD : ∀ σ : St, va_D A (xw ad cI cJ cZ σ)) (σ0 : St) (a1 : Int32) (a2 : Int32) (a3 : Int32) (post : Int32 → St → Prop) (hw : wX9_use σ0 a1 a2 a3 post) : Met l yX9_use wsX9_use ({ frames := 1, cells := 0, slots := 0, locals := 23 } : Room) (va_Pc [.ref (ad 0), .int a1, .int a2, .int a3] (wd_pre D (xw ad cI cJ cZ) (wd_tys cI cJ cZ) σ0)) (va_Qi post (wd_B D (xw ad cI cJ cZ)) A) 0 0 A := by
  refine Met.ofW (cc := cX9_use) (maxL := 4) (ret := (some .int)) (by decide) rfl ?_
  intro p e s m args below meth c s₁ B hml hv
  obtain ⟨rfl, hP, hK, hN⟩ := hv
  have hx := B.exec
  have hb := B.bytes
  have hr := B.returns
  have hts := atoms_spec (ws := wsX9_use) B.pre
  have hown : s.vm.findClass RX9 = some m.cls := findClass_of_methodNamed B.named
  have hlocks := B.notSynchronized
  have hS : va_S A s.heap s.heap [] := va_S.rf
  have f10 := hts (.fieldLink RX9 10 "LeastRights" "days" "LLeastRights$Days;") (by decide +kernel)
  have iX9 : ∀ w ∈ wsX90, w ∈ wsX9_use := by decide +kernel
  have n134 := va_Nw.use (A := ([.ref (ad 0), .int a1, .int a2, .int a3] : List Value).toArray) rfl (hN.1 ("LeastRights", 134, "LeastRights$Days", "present", "I") (by decide +kernel))
  have iX2 : ∀ w ∈ wsX20, w ∈ wsX9_use := by decide +kernel
  have f26 := hts (.fieldLink RX9 26 "LeastRights" "log" "LLeastRights$UseLog;") (by decide +kernel)
  have n140 := va_Nw.use (A := ([.ref (ad 0), .int a1, .int a2, .int a3] : List Value).toArray) rfl (hN.1 ("LeastRights", 140, "LeastRights$UseLog", "size", "I") (by decide +kernel))
  have iX8 : ∀ w ∈ wsX80, w ∈ wsX9_use := by decide +kernel
  have f19 := hts (.fieldLink RX9 19 "LeastRights" "folk" "LLeastRights$Folk;") (by decide +kernel)
  have hl := lv_entry ([.ref (ad 0), .int a1, .int a2, .int a3]) (n := 4) (Nat.le_of_ble_eq_true rfl)
  rw [lg_entry_eq]
  generalize (lg_sl ([.ref (ad 0), .int a1, .int a2, .int a3]) ++ List.replicate (4 - (lg_sl ([.ref (ad 0), .int a1, .int a2, .int a3])).length) Slot.unset).toArray = ls at hl ⊢
  have hl : lv_has ls 4 [(0, .ref (ad 0)), (1, .int a1), (2, .int a2), (3, .int a3)] := hl
  unfold wX9_use at hw
  refine lv_aload_n hx hb dX9_use_0 rfl (lv_at hl 0 rfl) ?_
  refine lv_iload_n hx hb dX9_use_1 rfl (lv_at hl 1 rfl) ?_
  refine wd_cVi ⟨hx, hb, hml, hown, hts⟩ (mtX9_noPerson l D ad cI cJ cZ A hD σ0 a1 _ hw) (cwV 1 hts gX9_use_X9_noPerson rfl rfl rfl (by decide +kernel) ⟨(Nat.le_of_ble_eq_true rfl), (Nat.le_of_ble_eq_true rfl)⟩) (va_recv hK hP (ci := 9) (q0 := 0) rfl (xw_q0 ad cI cJ cZ σ0)) hK hN hP hS rfl hl.1 rfl (Nat.le_of_ble_eq_true rfl) dX9_use_2 ⟨Nat.zero_le _, Nat.zero_le _⟩ (fun r1 u9 H locs hq hP hS => ?_)
  obtain ⟨hw, hu⟩ := hq
  rw [hu] at hP
  refine lv_if_ne (tgt := 30) hx hb dX9_use_5 (by decide) (fun c9 => ?_) (fun c9 => ?_)
  · have hw := hw.1 c9
    refine lv_iconst (v := -1) hx hb dX9_use_30 (by decide) ?_
    exact wd_iret hx hb hr hlocks hw hP hS dX9_use_31
  · have hw := hw.2 c9
    refine lv_iload_n hx hb dX9_use_8 rfl (lv_at hl 2 rfl) ?_
    refine wd_cSi ⟨hx, hb, hml, hown, hts⟩ (mtX9_noRight l D ad cI cJ cZ A hD σ0 a2 _ hw) (va_cwS 1 hts gX9_use_X9_noRight rfl rfl rfl (by decide +kernel) ⟨(Nat.le_of_ble_eq_true rfl), (Nat.le_of_ble_eq_true rfl)⟩) hK hN hP hS rfl hl.1 rfl (Nat.le_of_ble_eq_true rfl) dX9_use_9 ⟨Nat.zero_le _, Nat.zero_le _⟩ (fun r2 u9 H locs hq hP hS => ?_)
    obtain ⟨hw, hu⟩ := hq
    rw [hu] at hP
    refine lv_if_ne (tgt := 30) hx hb dX9_use_12 (by decide) (fun c9 => ?_) (fun c9 => ?_)
    · have hw := hw.1 c9
      refine lv_iconst (v := -1) hx hb dX9_use_30 (by decide) ?_
      exact wd_iret hx hb hr hlocks hw hP hS dX9_use_31
    · have hw := hw.2 c9
      refine lv_iload_n hx hb dX9_use_15 rfl (lv_at hl 3 rfl) ?_
      refine lv_if_lt (tgt := 30) hx hb dX9_use_16 (by decide) (fun c9 => ?_) (fun c9 => ?_)
      · have hw := hw.1 c9
        refine lv_iconst (v := -1) hx hb dX9_use_30 (by decide) ?_
        exact wd_iret hx hb hr hlocks hw hP hS dX9_use_31
      · have hw := hw.2 c9
        refine lv_iload_n hx hb dX9_use_19 rfl (lv_at hl 3 rfl) ?_
        refine lv_aload_n hx hb dX9_use_20 rfl (lv_at hl 0 rfl) ?_
        refine va_get hx hb hts iX9 hown hK hP 0 (xw_q0 ad cI cJ cZ σ0) rfl 0 (by decide) f10 (fun _ h9 => h9) rfl dX9_use_21 ?_
        refine va_getN hx hb hts iX2 hown hK hP 1 (xw_q1 ad cI cJ cZ σ0) rfl 0 (by decide) n134 (fun _ h9 => h9) rfl dX9_use_24 ?_
        refine lv_icmp_le (tgt := 32) hx hb dX9_use_27 (by decide) (fun c9 => ?_) (fun c9 => ?_)
        · have hw := hw.1 c9
          refine lv_aload_n hx hb dX9_use_32 rfl (lv_at hl 0 rfl) ?_
          refine va_get hx hb hts iX9 hown hK hP 0 (xw_q0 ad cI cJ cZ σ0) rfl 2 (by decide) f26 (fun _ h9 => h9) rfl dX9_use_33 ?_
          refine va_getN hx hb hts iX8 hown hK hP 3 (xw_q3 ad cI cJ cZ σ0) rfl 0 (by decide) n140 (fun _ h9 => h9) rfl dX9_use_36 ?_
          refine lv_sipush (v := 400) hx hb dX9_use_39 (by decide) ?_
          refine lv_icmp_lt (tgt := 48) hx hb dX9_use_42 (by decide) (fun c9 => ?_) (fun c9 => ?_)
          · have hw := hw.1 c9
            refine lv_aload_n hx hb dX9_use_48 rfl (lv_at hl 0 rfl) ?_
            refine va_get hx hb hts iX9 hown hK hP 0 (xw_q0 ad cI cJ cZ σ0) rfl 1 (by decide) f19 (fun _ h9 => h9) rfl dX9_use_49 ?_
            refine lv_iload_n hx hb dX9_use_52 rfl (lv_at hl 1 rfl) ?_
            refine lv_iload_n hx hb dX9_use_53 rfl (lv_at hl 2 rfl) ?_
            refine wd_cVi ⟨hx, hb, hml, hown, hts⟩ (mtX5_has l D ad cI cJ cZ A hD σ0 a1 a2 _ hw) (cwV 2 hts gX9_use_X5_has rfl rfl rfl (by decide +kernel) ⟨(Nat.le_of_ble_eq_true rfl), (Nat.le_of_ble_eq_true rfl)⟩) (va_recv hK hP (ci := 5) (q0 := 2) rfl (xw_q2 ad cI cJ cZ σ0)) hK hN hP hS rfl hl.1 rfl (Nat.le_of_ble_eq_true rfl) dX9_use_54 ⟨Nat.zero_le _, Nat.zero_le _⟩ (fun r3 u9 H locs hq hP hS => ?_)
            obtain ⟨hw, hu⟩ := hq
            rw [hu] at hP
            refine lv_if_ne (tgt := 63) hx hb dX9_use_57 (by decide) (fun c9 => ?_) (fun c9 => ?_)
            · have hw := hw.1 c9
              refine lv_aload_n hx hb dX9_use_63 rfl (lv_at hl 0 rfl) ?_
              refine va_get hx hb hts iX9 hown hK hP 0 (xw_q0 ad cI cJ cZ σ0) rfl 2 (by decide) f26 (fun _ h9 => h9) rfl dX9_use_64 ?_
              refine lv_iload_n hx hb dX9_use_67 rfl (lv_at hl 1 rfl) ?_
              refine lv_iload_n hx hb dX9_use_68 rfl (lv_at hl 2 rfl) ?_
              refine lv_aload_n hx hb dX9_use_69 rfl (lv_at hl 0 rfl) ?_
              refine va_get hx hb hts iX9 hown hK hP 0 (xw_q0 ad cI cJ cZ σ0) rfl 0 (by decide) f10 (fun _ h9 => h9) rfl dX9_use_70 ?_
              refine va_getN hx hb hts iX2 hown hK hP 1 (xw_q1 ad cI cJ cZ σ0) rfl 0 (by decide) n134 (fun _ h9 => h9) rfl dX9_use_73 ?_
              refine lv_iload_n hx hb dX9_use_76 rfl (lv_at hl 3 rfl) ?_
              refine lv_isub hx hb dX9_use_77 ?_
              refine wd_cVi ⟨hx, hb, hml, hown, hts⟩ (mtX8_enter l D ad cI cJ cZ A hD σ0 a1 a2 ((σ0.1 2) - a3) _ hw) (cwV 3 hts gX9_use_X8_enter rfl rfl rfl (by decide +kernel) ⟨(Nat.le_of_ble_eq_true rfl), (Nat.le_of_ble_eq_true rfl)⟩) (va_recv hK hP (ci := 8) (q0 := 3) rfl (xw_q3 ad cI cJ cZ σ0)) hK hN hP hS rfl hl.1 rfl (Nat.le_of_ble_eq_true rfl) dX9_use_78 ⟨Nat.zero_le _, Nat.zero_le _⟩ (fun r4 σ5 H locs hw hP hS => ?_)
              exact wd_iret hx hb hr hlocks hw hP hS dX9_use_81
            · have hw := hw.2 c9
              refine lv_bipush (v := -4) hx hb dX9_use_60 (by decide) ?_
              exact wd_iret hx hb hr hlocks hw hP hS dX9_use_62
          · have hw := hw.2 c9
            refine lv_bipush (v := -2) hx hb dX9_use_45 (by decide) ?_
            exact wd_iret hx hb hr hlocks hw hP hS dX9_use_47
        · have hw := hw.2 c9
          refine lv_iconst (v := -1) hx hb dX9_use_30 (by decide) ?_
          exact wd_iret hx hb hr hlocks hw hP hS dX9_use_31
def wX9_kindOf (σ0 : St) (a1 : Int32) (a2 : Int32) (post : Int32 → Prop) : Prop := ∀ x1 : Int32, x1 = ((1 : Int32) <<< (a2 &&& 31)) → (wX8_recent σ0 a1 (fun (r2 : Int32) => ((r2 &&& x1) = 0 → (wX8_seasonal σ0 a1 (fun (r3 : Int32) => ((r3 &&& x1) = 0 → ((((σ0.1 0) &&& x1) = 0 → (post (0 : Int32))) ∧ (¬ ((σ0.1 0) &&& x1) = 0 → (post (3 : Int32))))) ∧ (¬ (r3 &&& x1) = 0 → (post (2 : Int32)))))) ∧ (¬ (r2 &&& x1) = 0 → (post (1 : Int32)))))
set_option maxHeartbeats 4000000 in
set_option maxRecDepth 100000 in
theorem mtX9_kindOf (l : Launch) (D : va_G) (ad : Nat → Nat) (cI cJ cZ : ClassId) (A : Nat → Prop) (hD : ∀ σ : St, va_D A (xw ad cI cJ cZ σ)) (σ0 : St) (a1 : Int32) (a2 : Int32) (post : Int32 → Prop) (hw : wX9_kindOf σ0 a1 a2 post) : Met l yX9_kindOf wsX9_kindOf ({ frames := 2, cells := 0, slots := 0, locals := 48 } : Room) (va_Pc [.ref (ad 0), .int a1, .int a2] (wd_pre D (xw ad cI cJ cZ) (wd_tys cI cJ cZ) σ0)) (va_Qi (fun (r : Int32) (u : St) => post r ∧ u = σ0) (wd_B D (xw ad cI cJ cZ)) A) 0 0 A := by
  refine Met.ofW (cc := cX9_kindOf) (maxL := 4) (ret := (some .int)) (by decide) rfl ?_
  intro p e s m args below meth c s₁ B hml hv
  obtain ⟨rfl, hP, hK, hN⟩ := hv
  have hx := B.exec
  have hb := B.bytes
  have hr := B.returns
  have hts := atoms_spec (ws := wsX9_kindOf) B.pre
  have hown : s.vm.findClass RX9 = some m.cls := findClass_of_methodNamed B.named
  have hlocks := B.notSynchronized
  have hS : va_S A s.heap s.heap [] := va_S.rf
  have f26 := hts (.fieldLink RX9 26 "LeastRights" "log" "LLeastRights$UseLog;") (by decide +kernel)
  have iX9 : ∀ w ∈ wsX90, w ∈ wsX9_kindOf := by decide +kernel
  have f10 := hts (.fieldLink RX9 10 "LeastRights" "days" "LLeastRights$Days;") (by decide +kernel)
  have f79 := hts (.fieldLink RX9 79 "LeastRights" "standbyRights" "I") (by decide +kernel)
  have hl := lv_entry ([.ref (ad 0), .int a1, .int a2]) (n := 4) (Nat.le_of_ble_eq_true rfl)
  rw [lg_entry_eq]
  generalize (lg_sl ([.ref (ad 0), .int a1, .int a2]) ++ List.replicate (4 - (lg_sl ([.ref (ad 0), .int a1, .int a2])).length) Slot.unset).toArray = ls at hl ⊢
  have hl : lv_has ls 4 [(0, .ref (ad 0)), (1, .int a1), (2, .int a2)] := hl
  unfold wX9_kindOf at hw
  refine lv_iconst (v := 1) hx hb dX9_kindOf_0 (by decide) ?_
  refine lv_iload_n hx hb dX9_kindOf_1 rfl (lv_at hl 2 rfl) ?_
  refine lv_ishl hx hb dX9_kindOf_2 ?_
  refine lv_topi (fun x1 ex1 => ?_)
  have hw := hw x1 ex1
  refine lv_istore_n (lv' := [(3, .int x1), (0, .ref (ad 0)), (1, .int a1), (2, .int a2)]) hx hb dX9_kindOf_3 rfl hl (by decide) rfl (fun ls hl => ?_)
  refine lv_aload_n hx hb dX9_kindOf_4 rfl (lv_at hl 1 rfl) ?_
  refine va_get hx hb hts iX9 hown hK hP 0 (xw_q0 ad cI cJ cZ σ0) rfl 2 (by decide) f26 (fun _ h9 => h9) rfl dX9_kindOf_5 ?_
  refine lv_iload_n hx hb dX9_kindOf_8 rfl (lv_at hl 2 rfl) ?_
  refine lv_aload_n hx hb dX9_kindOf_9 rfl (lv_at hl 1 rfl) ?_
  refine va_get hx hb hts iX9 hown hK hP 0 (xw_q0 ad cI cJ cZ σ0) rfl 0 (by decide) f10 (fun _ h9 => h9) rfl dX9_kindOf_10 ?_
  refine wd_cVi ⟨hx, hb, hml, hown, hts⟩ (mtX8_recent l D ad cI cJ cZ A hD σ0 a1 _ hw) (cwV 2 hts gX9_kindOf_X8_recent rfl rfl rfl (by decide +kernel) ⟨(Nat.le_of_ble_eq_true rfl), (Nat.le_of_ble_eq_true rfl)⟩) (va_recv hK hP (ci := 8) (q0 := 3) rfl (xw_q3 ad cI cJ cZ σ0)) hK hN hP hS rfl hl.1 rfl (Nat.le_of_ble_eq_true rfl) dX9_kindOf_13 ⟨Nat.zero_le _, Nat.zero_le _⟩ (fun r2 u9 H locs hq hP hS => ?_)
  obtain ⟨hw, hu⟩ := hq
  rw [hu] at hP
  refine lv_iload_n hx hb dX9_kindOf_16 rfl (lv_at hl 0 rfl) ?_
  refine lv_iand hx hb dX9_kindOf_17 ?_
  refine lv_if_eq (tgt := 23) hx hb dX9_kindOf_18 (by decide) (fun c9 => ?_) (fun c9 => ?_)
  · have hw := hw.1 c9
    refine lv_aload_n hx hb dX9_kindOf_23 rfl (lv_at hl 1 rfl) ?_
    refine va_get hx hb hts iX9 hown hK hP 0 (xw_q0 ad cI cJ cZ σ0) rfl 2 (by decide) f26 (fun _ h9 => h9) rfl dX9_kindOf_24 ?_
    refine lv_iload_n hx hb dX9_kindOf_27 rfl (lv_at hl 2 rfl) ?_
    refine lv_aload_n hx hb dX9_kindOf_28 rfl (lv_at hl 1 rfl) ?_
    refine va_get hx hb hts iX9 hown hK hP 0 (xw_q0 ad cI cJ cZ σ0) rfl 0 (by decide) f10 (fun _ h9 => h9) rfl dX9_kindOf_29 ?_
    refine wd_cVi ⟨hx, hb, hml, hown, hts⟩ (mtX8_seasonal l D ad cI cJ cZ A hD σ0 a1 _ hw) (cwV 2 hts gX9_kindOf_X8_seasonal rfl rfl rfl (by decide +kernel) ⟨(Nat.le_of_ble_eq_true rfl), (Nat.le_of_ble_eq_true rfl)⟩) (va_recv hK hP (ci := 8) (q0 := 3) rfl (xw_q3 ad cI cJ cZ σ0)) hK hN hP hS rfl hl.1 rfl (Nat.le_of_ble_eq_true rfl) dX9_kindOf_32 ⟨Nat.zero_le _, Nat.zero_le _⟩ (fun r3 u9 H locs hq hP hS => ?_)
    obtain ⟨hw, hu⟩ := hq
    rw [hu] at hP
    refine lv_iload_n hx hb dX9_kindOf_35 rfl (lv_at hl 0 rfl) ?_
    refine lv_iand hx hb dX9_kindOf_36 ?_
    refine lv_if_eq (tgt := 42) hx hb dX9_kindOf_37 (by decide) (fun c9 => ?_) (fun c9 => ?_)
    · have hw := hw.1 c9
      refine lv_aload_n hx hb dX9_kindOf_42 rfl (lv_at hl 1 rfl) ?_
      refine va_get hx hb hts iX9 hown hK hP 0 (xw_q0 ad cI cJ cZ σ0) rfl 11 (by decide) f79 (fun _ h9 => h9) rfl dX9_kindOf_43 ?_
      refine lv_iload_n hx hb dX9_kindOf_46 rfl (lv_at hl 0 rfl) ?_
      refine lv_iand hx hb dX9_kindOf_47 ?_
      refine lv_if_eq (tgt := 55) hx hb dX9_kindOf_48 (by decide) (fun c9 => ?_) (fun c9 => ?_)
      · have hw := hw.1 c9
        refine lv_iconst (v := 0) hx hb dX9_kindOf_55 (by decide) ?_
        exact wd_iret hx hb hr hlocks ⟨hw, rfl⟩ hP hS dX9_kindOf_56
      · have hw := hw.2 c9
        refine lv_iconst (v := 3) hx hb dX9_kindOf_51 (by decide) ?_
        refine lv_goto (tgt := 56) hx hb dX9_kindOf_52 (by decide) ?_
        exact wd_iret hx hb hr hlocks ⟨hw, rfl⟩ hP hS dX9_kindOf_56
    · have hw := hw.2 c9
      refine lv_iconst (v := 2) hx hb dX9_kindOf_40 (by decide) ?_
      exact wd_iret hx hb hr hlocks ⟨hw, rfl⟩ hP hS dX9_kindOf_41
  · have hw := hw.2 c9
    refine lv_iconst (v := 1) hx hb dX9_kindOf_21 (by decide) ?_
    exact wd_iret hx hb hr hlocks ⟨hw, rfl⟩ hP hS dX9_kindOf_22
def wX9_kind (σ0 : St) (a1 : Int32) (a2 : Int32) (post : Int32 → Prop) : Prop := wX9_noPerson σ0 a1 (fun (r1 : Int32) => (¬ r1 = 0 → (post (-1 : Int32))) ∧ (r1 = 0 → (wX9_noRight a2 (fun (r2 : Int32) => (r2 = 0 → (wX5_has σ0 a1 a2 (fun (r3 : Int32) => (¬ r3 = 0 → (wX9_kindOf σ0 a1 a2 (fun (r4 : Int32) => post r4))) ∧ (r3 = 0 → (post (-4 : Int32)))))) ∧ (¬ r2 = 0 → (post (-1 : Int32)))))))
set_option maxHeartbeats 4000000 in
set_option maxRecDepth 100000 in
theorem mtX9_kind (l : Launch) (D : va_G) (ad : Nat → Nat) (cI cJ cZ : ClassId) (A : Nat → Prop) (hD : ∀ σ : St, va_D A (xw ad cI cJ cZ σ)) (σ0 : St) (a1 : Int32) (a2 : Int32) (post : Int32 → Prop) (hw : wX9_kind σ0 a1 a2 post) : Met l yX9_kind wsX9_kind ({ frames := 3, cells := 0, slots := 0, locals := 71 } : Room) (va_Pc [.ref (ad 0), .int a1, .int a2] (wd_pre D (xw ad cI cJ cZ) (wd_tys cI cJ cZ) σ0)) (va_Qi (fun (r : Int32) (u : St) => post r ∧ u = σ0) (wd_B D (xw ad cI cJ cZ)) A) 0 0 A := by
  refine Met.ofW (cc := cX9_kind) (maxL := 3) (ret := (some .int)) (by decide) rfl ?_
  intro p e s m args below meth c s₁ B hml hv
  obtain ⟨rfl, hP, hK, hN⟩ := hv
  have hx := B.exec
  have hb := B.bytes
  have hr := B.returns
  have hts := atoms_spec (ws := wsX9_kind) B.pre
  have hown : s.vm.findClass RX9 = some m.cls := findClass_of_methodNamed B.named
  have hlocks := B.notSynchronized
  have hS : va_S A s.heap s.heap [] := va_S.rf
  have f19 := hts (.fieldLink RX9 19 "LeastRights" "folk" "LLeastRights$Folk;") (by decide +kernel)
  have iX9 : ∀ w ∈ wsX90, w ∈ wsX9_kind := by decide +kernel
  have hl := lv_entry ([.ref (ad 0), .int a1, .int a2]) (n := 3) (Nat.le_of_ble_eq_true rfl)
  rw [lg_entry_eq]
  generalize (lg_sl ([.ref (ad 0), .int a1, .int a2]) ++ List.replicate (3 - (lg_sl ([.ref (ad 0), .int a1, .int a2])).length) Slot.unset).toArray = ls at hl ⊢
  have hl : lv_has ls 3 [(0, .ref (ad 0)), (1, .int a1), (2, .int a2)] := hl
  unfold wX9_kind at hw
  refine lv_aload_n hx hb dX9_kind_0 rfl (lv_at hl 0 rfl) ?_
  refine lv_iload_n hx hb dX9_kind_1 rfl (lv_at hl 1 rfl) ?_
  refine wd_cVi ⟨hx, hb, hml, hown, hts⟩ (mtX9_noPerson l D ad cI cJ cZ A hD σ0 a1 _ hw) (cwV 1 hts gX9_kind_X9_noPerson rfl rfl rfl (by decide +kernel) ⟨(Nat.le_of_ble_eq_true rfl), (Nat.le_of_ble_eq_true rfl)⟩) (va_recv hK hP (ci := 9) (q0 := 0) rfl (xw_q0 ad cI cJ cZ σ0)) hK hN hP hS rfl hl.1 rfl (Nat.le_of_ble_eq_true rfl) dX9_kind_2 ⟨Nat.zero_le _, Nat.zero_le _⟩ (fun r1 u9 H locs hq hP hS => ?_)
  obtain ⟨hw, hu⟩ := hq
  rw [hu] at hP
  refine lv_if_ne (tgt := 15) hx hb dX9_kind_5 (by decide) (fun c9 => ?_) (fun c9 => ?_)
  · have hw := hw.1 c9
    refine lv_iconst (v := -1) hx hb dX9_kind_15 (by decide) ?_
    exact wd_iret hx hb hr hlocks ⟨hw, rfl⟩ hP hS dX9_kind_16
  · have hw := hw.2 c9
    refine lv_iload_n hx hb dX9_kind_8 rfl (lv_at hl 2 rfl) ?_
    refine wd_cSi ⟨hx, hb, hml, hown, hts⟩ (mtX9_noRight l D ad cI cJ cZ A hD σ0 a2 _ hw) (va_cwS 1 hts gX9_kind_X9_noRight rfl rfl rfl (by decide +kernel) ⟨(Nat.le_of_ble_eq_true rfl), (Nat.le_of_ble_eq_true rfl)⟩) hK hN hP hS rfl hl.1 rfl (Nat.le_of_ble_eq_true rfl) dX9_kind_9 ⟨Nat.zero_le _, Nat.zero_le _⟩ (fun r2 u9 H locs hq hP hS => ?_)
    obtain ⟨hw, hu⟩ := hq
    rw [hu] at hP
    refine lv_if_eq (tgt := 17) hx hb dX9_kind_12 (by decide) (fun c9 => ?_) (fun c9 => ?_)
    · have hw := hw.1 c9
      refine lv_aload_n hx hb dX9_kind_17 rfl (lv_at hl 0 rfl) ?_
      refine va_get hx hb hts iX9 hown hK hP 0 (xw_q0 ad cI cJ cZ σ0) rfl 1 (by decide) f19 (fun _ h9 => h9) rfl dX9_kind_18 ?_
      refine lv_iload_n hx hb dX9_kind_21 rfl (lv_at hl 1 rfl) ?_
      refine lv_iload_n hx hb dX9_kind_22 rfl (lv_at hl 2 rfl) ?_
      refine wd_cVi ⟨hx, hb, hml, hown, hts⟩ (mtX5_has l D ad cI cJ cZ A hD σ0 a1 a2 _ hw) (cwV 2 hts gX9_kind_X5_has rfl rfl rfl (by decide +kernel) ⟨(Nat.le_of_ble_eq_true rfl), (Nat.le_of_ble_eq_true rfl)⟩) (va_recv hK hP (ci := 5) (q0 := 2) rfl (xw_q2 ad cI cJ cZ σ0)) hK hN hP hS rfl hl.1 rfl (Nat.le_of_ble_eq_true rfl) dX9_kind_23 ⟨Nat.zero_le _, Nat.zero_le _⟩ (fun r3 u9 H locs hq hP hS => ?_)
      obtain ⟨hw, hu⟩ := hq
      rw [hu] at hP
      refine lv_if_ne (tgt := 32) hx hb dX9_kind_26 (by decide) (fun c9 => ?_) (fun c9 => ?_)
      · have hw := hw.1 c9
        refine lv_aload_n hx hb dX9_kind_32 rfl (lv_at hl 0 rfl) ?_
        refine lv_iload_n hx hb dX9_kind_33 rfl (lv_at hl 1 rfl) ?_
        refine lv_iload_n hx hb dX9_kind_34 rfl (lv_at hl 2 rfl) ?_
        refine wd_cVi ⟨hx, hb, hml, hown, hts⟩ (mtX9_kindOf l D ad cI cJ cZ A hD σ0 a1 a2 _ hw) (cwV 2 hts gX9_kind_X9_kindOf rfl rfl rfl (by decide +kernel) ⟨(Nat.le_of_ble_eq_true rfl), (Nat.le_of_ble_eq_true rfl)⟩) (va_recv hK hP (ci := 9) (q0 := 0) rfl (xw_q0 ad cI cJ cZ σ0)) hK hN hP hS rfl hl.1 rfl (Nat.le_of_ble_eq_true rfl) dX9_kind_35 ⟨Nat.zero_le _, Nat.zero_le _⟩ (fun r4 u9 H locs hq hP hS => ?_)
        obtain ⟨hw, hu⟩ := hq
        rw [hu] at hP
        exact wd_iret hx hb hr hlocks ⟨hw, rfl⟩ hP hS dX9_kind_38
      · have hw := hw.2 c9
        refine lv_bipush (v := -4) hx hb dX9_kind_29 (by decide) ?_
        exact wd_iret hx hb hr hlocks ⟨hw, rfl⟩ hP hS dX9_kind_31
    · have hw := hw.2 c9
      refine lv_iconst (v := -1) hx hb dX9_kind_15 (by decide) ?_
      exact wd_iret hx hb hr hlocks ⟨hw, rfl⟩ hP hS dX9_kind_16
def wX9_isOfKind (a0 : Int32) (a1 : Int32) (post : Int32 → Prop) : Prop := (a1 = 0 → (post (1 : Int32))) ∧ (¬ a1 = 0 → ((a0 = a1 → (post (1 : Int32))) ∧ (¬ a0 = a1 → ((¬ a1 = (1 : Int32) → (post (0 : Int32))) ∧ (a1 = (1 : Int32) → ((¬ a0 = (2 : Int32) → (post (0 : Int32))) ∧ (a0 = (2 : Int32) → (post (1 : Int32)))))))))
set_option maxHeartbeats 4000000 in
set_option maxRecDepth 100000 in
theorem mtX9_isOfKind (l : Launch) (D : va_G) (ad : Nat → Nat) (cI cJ cZ : ClassId) (A : Nat → Prop) (hD : ∀ σ : St, va_D A (xw ad cI cJ cZ σ)) (σ0 : St) (a0 : Int32) (a1 : Int32) (post : Int32 → Prop) (hw : wX9_isOfKind a0 a1 post) : Met l yX9_isOfKind wsX9_isOfKind ({ frames := 0, cells := 0, slots := 0, locals := 0 } : Room) (va_Pc [.int a0, .int a1] (wd_pre D (xw ad cI cJ cZ) (wd_tys cI cJ cZ) σ0)) (va_Qi (fun (r : Int32) (u : St) => post r ∧ u = σ0) (wd_B D (xw ad cI cJ cZ)) A) 0 0 A := by
  refine Met.ofW (cc := cX9_isOfKind) (maxL := 2) (ret := (some .boolean)) (by decide) rfl ?_
  intro p e s m args below meth c s₁ B hml hv
  obtain ⟨rfl, hP, hK, hN⟩ := hv
  have hx := B.exec
  have hb := B.bytes
  have hr := B.returns
  have hts := atoms_spec (ws := wsX9_isOfKind) B.pre
  have hown : s.vm.findClass RX9 = some m.cls := findClass_of_methodNamed B.named
  have hlocks := B.notSynchronized
  have hS : va_S A s.heap s.heap [] := va_S.rf
  have hl := lv_entry ([.int a0, .int a1]) (n := 2) (Nat.le_of_ble_eq_true rfl)
  rw [lg_entry_eq]
  generalize (lg_sl ([.int a0, .int a1]) ++ List.replicate (2 - (lg_sl ([.int a0, .int a1])).length) Slot.unset).toArray = ls at hl ⊢
  have hl : lv_has ls 2 [(0, .int a0), (1, .int a1)] := hl
  unfold wX9_isOfKind at hw
  refine lv_iload_n hx hb dX9_isOfKind_0 rfl (lv_at hl 1 rfl) ?_
  refine lv_if_eq (tgt := 19) hx hb dX9_isOfKind_1 (by decide) (fun c9 => ?_) (fun c9 => ?_)
  · have hw := hw.1 c9
    refine lv_iconst (v := 1) hx hb dX9_isOfKind_19 (by decide) ?_
    refine lv_goto (tgt := 24) hx hb dX9_isOfKind_20 (by decide) ?_
    exact wd_zret hx hb hr hlocks (by decide) ⟨hw, rfl⟩ hP hS dX9_isOfKind_24
  · have hw := hw.2 c9
    refine lv_iload_n hx hb dX9_isOfKind_4 rfl (lv_at hl 0 rfl) ?_
    refine lv_iload_n hx hb dX9_isOfKind_5 rfl (lv_at hl 1 rfl) ?_
    refine lv_icmp_eq (tgt := 19) hx hb dX9_isOfKind_6 (by decide) (fun c9 => ?_) (fun c9 => ?_)
    · have hw := hw.1 c9
      refine lv_iconst (v := 1) hx hb dX9_isOfKind_19 (by decide) ?_
      refine lv_goto (tgt := 24) hx hb dX9_isOfKind_20 (by decide) ?_
      exact wd_zret hx hb hr hlocks (by decide) ⟨hw, rfl⟩ hP hS dX9_isOfKind_24
    · have hw := hw.2 c9
      refine lv_iload_n hx hb dX9_isOfKind_9 rfl (lv_at hl 1 rfl) ?_
      refine lv_iconst (v := 1) hx hb dX9_isOfKind_10 (by decide) ?_
      refine lv_icmp_ne (tgt := 23) hx hb dX9_isOfKind_11 (by decide) (fun c9 => ?_) (fun c9 => ?_)
      · have hw := hw.1 c9
        refine lv_iconst (v := 0) hx hb dX9_isOfKind_23 (by decide) ?_
        exact wd_zret hx hb hr hlocks (by decide) ⟨hw, rfl⟩ hP hS dX9_isOfKind_24
      · have hw := hw.2 c9
        refine lv_iload_n hx hb dX9_isOfKind_14 rfl (lv_at hl 0 rfl) ?_
        refine lv_iconst (v := 2) hx hb dX9_isOfKind_15 (by decide) ?_
        refine lv_icmp_ne (tgt := 23) hx hb dX9_isOfKind_16 (by decide) (fun c9 => ?_) (fun c9 => ?_)
        · have hw := hw.1 c9
          refine lv_iconst (v := 0) hx hb dX9_isOfKind_23 (by decide) ?_
          exact wd_zret hx hb hr hlocks (by decide) ⟨hw, rfl⟩ hP hS dX9_isOfKind_24
        · have hw := hw.2 c9
          refine lv_iconst (v := 1) hx hb dX9_isOfKind_19 (by decide) ?_
          refine lv_goto (tgt := 24) hx hb dX9_isOfKind_20 (by decide) ?_
          exact wd_zret hx hb hr hlocks (by decide) ⟨hw, rfl⟩ hP hS dX9_isOfKind_24
def wX9_uses (σ0 : St) (a1 : Int32) (a2 : Int32) (a3 : Int32) (post : Int32 → St → Prop) : Prop := wX9_noPerson σ0 a1 (fun (r1 : Int32) => (¬ r1 = 0 → (post (-1 : Int32) σ0)) ∧ (r1 = 0 → (wX9_noRight a2 (fun (r2 : Int32) => (¬ r2 = 0 → (post (-1 : Int32) σ0)) ∧ (r2 = 0 → ((a3 < 0 → (post (-1 : Int32) σ0)) ∧ (¬ a3 < 0 → ((a3 ≤ (3 : Int32) → (wX5_has σ0 a1 a2 (fun (r3 : Int32) => (¬ r3 = 0 → (wX9_kindOf σ0 a1 a2 (fun (r4 : Int32) => wX9_isOfKind r4 a3 (fun (r5 : Int32) => (¬ r5 = 0 → (wX8_ofHolding σ0 a1 a2 (fun (r6 : Int32) => post r6 σ0))) ∧ (r5 = 0 → (wX4_answer σ0 (3 : Int32) (fun (r7 : Int32) (σ8 : St) => post r7 σ8))))))) ∧ (r3 = 0 → (post (-4 : Int32) σ0))))) ∧ (¬ a3 ≤ (3 : Int32) → (post (-1 : Int32) σ0))))))))))
set_option maxHeartbeats 4000000 in
set_option maxRecDepth 100000 in
theorem mtX9_uses (l : Launch) (D : va_G) (ad : Nat → Nat) (cI cJ cZ : ClassId) (A : Nat → Prop) (hD : ∀ σ : St, va_D A (xw ad cI cJ cZ σ)) (σ0 : St) (a1 : Int32) (a2 : Int32) (a3 : Int32) (post : Int32 → St → Prop) (hw : wX9_uses σ0 a1 a2 a3 post) : Met l yX9_uses wsX9_uses ({ frames := 3, cells := 0, slots := 0, locals := 71 } : Room) (va_Pc [.ref (ad 0), .int a1, .int a2, .int a3] (wd_pre D (xw ad cI cJ cZ) (wd_tys cI cJ cZ) σ0)) (va_Qi post (wd_B D (xw ad cI cJ cZ)) A) 0 0 A := by
  refine Met.ofW (cc := cX9_uses) (maxL := 4) (ret := (some .int)) (by decide) rfl ?_
  intro p e s m args below meth c s₁ B hml hv
  obtain ⟨rfl, hP, hK, hN⟩ := hv
  have hx := B.exec
  have hb := B.bytes
  have hr := B.returns
  have hts := atoms_spec (ws := wsX9_uses) B.pre
  have hown : s.vm.findClass RX9 = some m.cls := findClass_of_methodNamed B.named
  have hlocks := B.notSynchronized
  have hS : va_S A s.heap s.heap [] := va_S.rf
  have f19 := hts (.fieldLink RX9 19 "LeastRights" "folk" "LLeastRights$Folk;") (by decide +kernel)
  have iX9 : ∀ w ∈ wsX90, w ∈ wsX9_uses := by decide +kernel
  have f26 := hts (.fieldLink RX9 26 "LeastRights" "log" "LLeastRights$UseLog;") (by decide +kernel)
  have f68 := hts (.fieldLink RX9 68 "LeastRights" "tally" "LLeastRights$Findings;") (by decide +kernel)
  have hl := lv_entry ([.ref (ad 0), .int a1, .int a2, .int a3]) (n := 4) (Nat.le_of_ble_eq_true rfl)
  rw [lg_entry_eq]
  generalize (lg_sl ([.ref (ad 0), .int a1, .int a2, .int a3]) ++ List.replicate (4 - (lg_sl ([.ref (ad 0), .int a1, .int a2, .int a3])).length) Slot.unset).toArray = ls at hl ⊢
  have hl : lv_has ls 4 [(0, .ref (ad 0)), (1, .int a1), (2, .int a2), (3, .int a3)] := hl
  unfold wX9_uses at hw
  refine lv_aload_n hx hb dX9_uses_0 rfl (lv_at hl 0 rfl) ?_
  refine lv_iload_n hx hb dX9_uses_1 rfl (lv_at hl 1 rfl) ?_
  refine wd_cVi ⟨hx, hb, hml, hown, hts⟩ (mtX9_noPerson l D ad cI cJ cZ A hD σ0 a1 _ hw) (cwV 1 hts gX9_uses_X9_noPerson rfl rfl rfl (by decide +kernel) ⟨(Nat.le_of_ble_eq_true rfl), (Nat.le_of_ble_eq_true rfl)⟩) (va_recv hK hP (ci := 9) (q0 := 0) rfl (xw_q0 ad cI cJ cZ σ0)) hK hN hP hS rfl hl.1 rfl (Nat.le_of_ble_eq_true rfl) dX9_uses_2 ⟨Nat.zero_le _, Nat.zero_le _⟩ (fun r1 u9 H locs hq hP hS => ?_)
  obtain ⟨hw, hu⟩ := hq
  rw [hu] at hP
  refine lv_if_ne (tgt := 24) hx hb dX9_uses_5 (by decide) (fun c9 => ?_) (fun c9 => ?_)
  · have hw := hw.1 c9
    refine lv_iconst (v := -1) hx hb dX9_uses_24 (by decide) ?_
    exact wd_iret hx hb hr hlocks hw hP hS dX9_uses_25
  · have hw := hw.2 c9
    refine lv_iload_n hx hb dX9_uses_8 rfl (lv_at hl 2 rfl) ?_
    refine wd_cSi ⟨hx, hb, hml, hown, hts⟩ (mtX9_noRight l D ad cI cJ cZ A hD σ0 a2 _ hw) (va_cwS 1 hts gX9_uses_X9_noRight rfl rfl rfl (by decide +kernel) ⟨(Nat.le_of_ble_eq_true rfl), (Nat.le_of_ble_eq_true rfl)⟩) hK hN hP hS rfl hl.1 rfl (Nat.le_of_ble_eq_true rfl) dX9_uses_9 ⟨Nat.zero_le _, Nat.zero_le _⟩ (fun r2 u9 H locs hq hP hS => ?_)
    obtain ⟨hw, hu⟩ := hq
    rw [hu] at hP
    refine lv_if_ne (tgt := 24) hx hb dX9_uses_12 (by decide) (fun c9 => ?_) (fun c9 => ?_)
    · have hw := hw.1 c9
      refine lv_iconst (v := -1) hx hb dX9_uses_24 (by decide) ?_
      exact wd_iret hx hb hr hlocks hw hP hS dX9_uses_25
    · have hw := hw.2 c9
      refine lv_iload_n hx hb dX9_uses_15 rfl (lv_at hl 3 rfl) ?_
      refine lv_if_lt (tgt := 24) hx hb dX9_uses_16 (by decide) (fun c9 => ?_) (fun c9 => ?_)
      · have hw := hw.1 c9
        refine lv_iconst (v := -1) hx hb dX9_uses_24 (by decide) ?_
        exact wd_iret hx hb hr hlocks hw hP hS dX9_uses_25
      · have hw := hw.2 c9
        refine lv_iload_n hx hb dX9_uses_19 rfl (lv_at hl 3 rfl) ?_
        refine lv_iconst (v := 3) hx hb dX9_uses_20 (by decide) ?_
        refine lv_icmp_le (tgt := 26) hx hb dX9_uses_21 (by decide) (fun c9 => ?_) (fun c9 => ?_)
        · have hw := hw.1 c9
          refine lv_aload_n hx hb dX9_uses_26 rfl (lv_at hl 0 rfl) ?_
          refine va_get hx hb hts iX9 hown hK hP 0 (xw_q0 ad cI cJ cZ σ0) rfl 1 (by decide) f19 (fun _ h9 => h9) rfl dX9_uses_27 ?_
          refine lv_iload_n hx hb dX9_uses_30 rfl (lv_at hl 1 rfl) ?_
          refine lv_iload_n hx hb dX9_uses_31 rfl (lv_at hl 2 rfl) ?_
          refine wd_cVi ⟨hx, hb, hml, hown, hts⟩ (mtX5_has l D ad cI cJ cZ A hD σ0 a1 a2 _ hw) (cwV 2 hts gX9_uses_X5_has rfl rfl rfl (by decide +kernel) ⟨(Nat.le_of_ble_eq_true rfl), (Nat.le_of_ble_eq_true rfl)⟩) (va_recv hK hP (ci := 5) (q0 := 2) rfl (xw_q2 ad cI cJ cZ σ0)) hK hN hP hS rfl hl.1 rfl (Nat.le_of_ble_eq_true rfl) dX9_uses_32 ⟨Nat.zero_le _, Nat.zero_le _⟩ (fun r3 u9 H locs hq hP hS => ?_)
          obtain ⟨hw, hu⟩ := hq
          rw [hu] at hP
          refine lv_if_ne (tgt := 41) hx hb dX9_uses_35 (by decide) (fun c9 => ?_) (fun c9 => ?_)
          · have hw := hw.1 c9
            refine lv_aload_n hx hb dX9_uses_41 rfl (lv_at hl 0 rfl) ?_
            refine lv_iload_n hx hb dX9_uses_42 rfl (lv_at hl 1 rfl) ?_
            refine lv_iload_n hx hb dX9_uses_43 rfl (lv_at hl 2 rfl) ?_
            refine wd_cVi ⟨hx, hb, hml, hown, hts⟩ (mtX9_kindOf l D ad cI cJ cZ A hD σ0 a1 a2 _ hw) (cwV 2 hts gX9_uses_X9_kindOf rfl rfl rfl (by decide +kernel) ⟨(Nat.le_of_ble_eq_true rfl), (Nat.le_of_ble_eq_true rfl)⟩) (va_recv hK hP (ci := 9) (q0 := 0) rfl (xw_q0 ad cI cJ cZ σ0)) hK hN hP hS rfl hl.1 rfl (Nat.le_of_ble_eq_true rfl) dX9_uses_44 ⟨Nat.zero_le _, Nat.zero_le _⟩ (fun r4 u9 H locs hq hP hS => ?_)
            obtain ⟨hw, hu⟩ := hq
            rw [hu] at hP
            refine lv_iload_n hx hb dX9_uses_47 rfl (lv_at hl 3 rfl) ?_
            refine wd_cSi ⟨hx, hb, hml, hown, hts⟩ (mtX9_isOfKind l D ad cI cJ cZ A hD σ0 r4 a3 _ hw) (va_cwS 2 hts gX9_uses_X9_isOfKind rfl rfl rfl (by decide +kernel) ⟨(Nat.le_of_ble_eq_true rfl), (Nat.le_of_ble_eq_true rfl)⟩) hK hN hP hS rfl hl.1 rfl (Nat.le_of_ble_eq_true rfl) dX9_uses_48 ⟨Nat.zero_le _, Nat.zero_le _⟩ (fun r5 u9 H locs hq hP hS => ?_)
            obtain ⟨hw, hu⟩ := hq
            rw [hu] at hP
            refine lv_if_ne (tgt := 63) hx hb dX9_uses_51 (by decide) (fun c9 => ?_) (fun c9 => ?_)
            · have hw := hw.1 c9
              refine lv_aload_n hx hb dX9_uses_63 rfl (lv_at hl 0 rfl) ?_
              refine va_get hx hb hts iX9 hown hK hP 0 (xw_q0 ad cI cJ cZ σ0) rfl 2 (by decide) f26 (fun _ h9 => h9) rfl dX9_uses_64 ?_
              refine lv_iload_n hx hb dX9_uses_67 rfl (lv_at hl 1 rfl) ?_
              refine lv_iload_n hx hb dX9_uses_68 rfl (lv_at hl 2 rfl) ?_
              refine wd_cVi ⟨hx, hb, hml, hown, hts⟩ (mtX8_ofHolding l D ad cI cJ cZ A hD σ0 a1 a2 _ hw) (cwV 2 hts gX9_uses_X8_ofHolding rfl rfl rfl (by decide +kernel) ⟨(Nat.le_of_ble_eq_true rfl), (Nat.le_of_ble_eq_true rfl)⟩) (va_recv hK hP (ci := 8) (q0 := 3) rfl (xw_q3 ad cI cJ cZ σ0)) hK hN hP hS rfl hl.1 rfl (Nat.le_of_ble_eq_true rfl) dX9_uses_69 ⟨Nat.zero_le _, Nat.zero_le _⟩ (fun r6 u9 H locs hq hP hS => ?_)
              obtain ⟨hw, hu⟩ := hq
              rw [hu] at hP
              exact wd_iret hx hb hr hlocks hw hP hS dX9_uses_72
            · have hw := hw.2 c9
              refine lv_aload_n hx hb dX9_uses_54 rfl (lv_at hl 0 rfl) ?_
              refine va_get hx hb hts iX9 hown hK hP 0 (xw_q0 ad cI cJ cZ σ0) rfl 8 (by decide) f68 (fun _ h9 => h9) rfl dX9_uses_55 ?_
              refine lv_iconst (v := 3) hx hb dX9_uses_58 (by decide) ?_
              refine wd_cVi ⟨hx, hb, hml, hown, hts⟩ (mtX4_answer l D ad cI cJ cZ A hD σ0 (3 : Int32) _ hw) (cwV 1 hts gX9_uses_X4_answer rfl rfl rfl (by decide +kernel) ⟨(Nat.le_of_ble_eq_true rfl), (Nat.le_of_ble_eq_true rfl)⟩) (va_recv hK hP (ci := 4) (q0 := 9) rfl (xw_q9 ad cI cJ cZ σ0)) hK hN hP hS rfl hl.1 rfl (Nat.le_of_ble_eq_true rfl) dX9_uses_59 ⟨Nat.zero_le _, Nat.zero_le _⟩ (fun r7 σ8 H locs hw hP hS => ?_)
              exact wd_iret hx hb hr hlocks hw hP hS dX9_uses_62
          · have hw := hw.2 c9
            refine lv_bipush (v := -4) hx hb dX9_uses_38 (by decide) ?_
            exact wd_iret hx hb hr hlocks hw hP hS dX9_uses_40
        · have hw := hw.2 c9
          refine lv_iconst (v := -1) hx hb dX9_uses_24 (by decide) ?_
          exact wd_iret hx hb hr hlocks hw hP hS dX9_uses_25
def wX9_strike (σ0 : St) (a1 : Int32) (post : Int32 → St → Prop) : Prop := wX9_noPerson σ0 a1 (fun (r1 : Int32) => (r1 = 0 → (wX9_keptOf σ0 a1 (fun (r2 : Int32) => wX5_leave σ0 a1 r2 (σ0.1 2) (fun (r3 : Int32) (σ4 : St) => post r3 σ4)))) ∧ (¬ r1 = 0 → (post (-1 : Int32) σ0)))
set_option maxHeartbeats 4000000 in
set_option maxRecDepth 100000 in
theorem mtX9_strike (l : Launch) (D : va_G) (ad : Nat → Nat) (cI cJ cZ : ClassId) (A : Nat → Prop) (hD : ∀ σ : St, va_D A (xw ad cI cJ cZ σ)) (σ0 : St) (a1 : Int32) (post : Int32 → St → Prop) (hw : wX9_strike σ0 a1 post) : Met l yX9_strike wsX9_strike ({ frames := 3, cells := 0, slots := 0, locals := 70 } : Room) (va_Pc [.ref (ad 0), .int a1] (wd_pre D (xw ad cI cJ cZ) (wd_tys cI cJ cZ) σ0)) (va_Qi post (wd_B D (xw ad cI cJ cZ)) A) 0 0 A := by
  refine Met.ofW (cc := cX9_strike) (maxL := 2) (ret := (some .int)) (by decide) rfl ?_
  intro p e s m args below meth c s₁ B hml hv
  obtain ⟨rfl, hP, hK, hN⟩ := hv
  have hx := B.exec
  have hb := B.bytes
  have hr := B.returns
  have hts := atoms_spec (ws := wsX9_strike) B.pre
  have hown : s.vm.findClass RX9 = some m.cls := findClass_of_methodNamed B.named
  have hlocks := B.notSynchronized
  have hS : va_S A s.heap s.heap [] := va_S.rf
  have f19 := hts (.fieldLink RX9 19 "LeastRights" "folk" "LLeastRights$Folk;") (by decide +kernel)
  have iX9 : ∀ w ∈ wsX90, w ∈ wsX9_strike := by decide +kernel
  have f10 := hts (.fieldLink RX9 10 "LeastRights" "days" "LLeastRights$Days;") (by decide +kernel)
  have n134 := va_Nw.use (A := ([.ref (ad 0), .int a1] : List Value).toArray) rfl (hN.1 ("LeastRights", 134, "LeastRights$Days", "present", "I") (by decide +kernel))
  have iX2 : ∀ w ∈ wsX20, w ∈ wsX9_strike := by decide +kernel
  have hl := lv_entry ([.ref (ad 0), .int a1]) (n := 2) (Nat.le_of_ble_eq_true rfl)
  rw [lg_entry_eq]
  generalize (lg_sl ([.ref (ad 0), .int a1]) ++ List.replicate (2 - (lg_sl ([.ref (ad 0), .int a1])).length) Slot.unset).toArray = ls at hl ⊢
  have hl : lv_has ls 2 [(0, .ref (ad 0)), (1, .int a1)] := hl
  unfold wX9_strike at hw
  refine lv_aload_n hx hb dX9_strike_0 rfl (lv_at hl 0 rfl) ?_
  refine lv_iload_n hx hb dX9_strike_1 rfl (lv_at hl 1 rfl) ?_
  refine wd_cVi ⟨hx, hb, hml, hown, hts⟩ (mtX9_noPerson l D ad cI cJ cZ A hD σ0 a1 _ hw) (cwV 1 hts gX9_strike_X9_noPerson rfl rfl rfl (by decide +kernel) ⟨(Nat.le_of_ble_eq_true rfl), (Nat.le_of_ble_eq_true rfl)⟩) (va_recv hK hP (ci := 9) (q0 := 0) rfl (xw_q0 ad cI cJ cZ σ0)) hK hN hP hS rfl hl.1 rfl (Nat.le_of_ble_eq_true rfl) dX9_strike_2 ⟨Nat.zero_le _, Nat.zero_le _⟩ (fun r1 u9 H locs hq hP hS => ?_)
  obtain ⟨hw, hu⟩ := hq
  rw [hu] at hP
  refine lv_if_eq (tgt := 10) hx hb dX9_strike_5 (by decide) (fun c9 => ?_) (fun c9 => ?_)
  · have hw := hw.1 c9
    refine lv_aload_n hx hb dX9_strike_10 rfl (lv_at hl 0 rfl) ?_
    refine va_get hx hb hts iX9 hown hK hP 0 (xw_q0 ad cI cJ cZ σ0) rfl 1 (by decide) f19 (fun _ h9 => h9) rfl dX9_strike_11 ?_
    refine lv_iload_n hx hb dX9_strike_14 rfl (lv_at hl 1 rfl) ?_
    refine lv_aload_n hx hb dX9_strike_15 rfl (lv_at hl 0 rfl) ?_
    refine lv_iload_n hx hb dX9_strike_16 rfl (lv_at hl 1 rfl) ?_
    refine wd_cVi ⟨hx, hb, hml, hown, hts⟩ (mtX9_keptOf l D ad cI cJ cZ A hD σ0 a1 _ hw) (cwV 1 hts gX9_strike_X9_keptOf rfl rfl rfl (by decide +kernel) ⟨(Nat.le_of_ble_eq_true rfl), (Nat.le_of_ble_eq_true rfl)⟩) (va_recv hK hP (ci := 9) (q0 := 0) rfl (xw_q0 ad cI cJ cZ σ0)) hK hN hP hS rfl hl.1 rfl (Nat.le_of_ble_eq_true rfl) dX9_strike_17 ⟨Nat.zero_le _, Nat.zero_le _⟩ (fun r2 u9 H locs hq hP hS => ?_)
    obtain ⟨hw, hu⟩ := hq
    rw [hu] at hP
    refine lv_aload_n hx hb dX9_strike_20 rfl (lv_at hl 0 rfl) ?_
    refine va_get hx hb hts iX9 hown hK hP 0 (xw_q0 ad cI cJ cZ σ0) rfl 0 (by decide) f10 (fun _ h9 => h9) rfl dX9_strike_21 ?_
    refine va_getN hx hb hts iX2 hown hK hP 1 (xw_q1 ad cI cJ cZ σ0) rfl 0 (by decide) n134 (fun _ h9 => h9) rfl dX9_strike_24 ?_
    refine wd_cVi ⟨hx, hb, hml, hown, hts⟩ (mtX5_leave l D ad cI cJ cZ A hD σ0 a1 r2 (σ0.1 2) _ hw) (cwV 3 hts gX9_strike_X5_leave rfl rfl rfl (by decide +kernel) ⟨(Nat.le_of_ble_eq_true rfl), (Nat.le_of_ble_eq_true rfl)⟩) (va_recv hK hP (ci := 5) (q0 := 2) rfl (xw_q2 ad cI cJ cZ σ0)) hK hN hP hS rfl hl.1 rfl (Nat.le_of_ble_eq_true rfl) dX9_strike_27 ⟨Nat.zero_le _, Nat.zero_le _⟩ (fun r3 σ4 H locs hw hP hS => ?_)
    exact wd_iret hx hb hr hlocks hw hP hS dX9_strike_30
  · have hw := hw.2 c9
    refine lv_iconst (v := -1) hx hb dX9_strike_8 (by decide) ?_
    exact wd_iret hx hb hr hlocks hw hP hS dX9_strike_9
def wX9_ask (σ0 : St) (a1 : Int32) (a2 : Int32) (post : Int32 → St → Prop) : Prop := wX9_noPerson σ0 a1 (fun (r1 : Int32) => (¬ r1 = 0 → (post (-1 : Int32) σ0)) ∧ (r1 = 0 → (wX9_noRight a2 (fun (r2 : Int32) => (r2 = 0 → (wX5_request σ0 a1 a2 (fun (r3 : Int32) (σ4 : St) => vp_in r3 3 ∧ (vp_in r3 3 ∧ (∀ σ5 : St, σ5 = st_A σ4 1 r3.toNatClampNeg ((σ4.2.1 1 r3.toNatClampNeg) + (1 : Int32)) → (post r3 σ5)))))) ∧ (¬ r2 = 0 → (post (-1 : Int32) σ0))))))
set_option maxHeartbeats 4000000 in
set_option maxRecDepth 100000 in
theorem mtX9_ask (l : Launch) (D : va_G) (ad : Nat → Nat) (cI cJ cZ : ClassId) (A : Nat → Prop) (hD : ∀ σ : St, va_D A (xw ad cI cJ cZ σ)) (σ0 : St) (a1 : Int32) (a2 : Int32) (post : Int32 → St → Prop) (hw : wX9_ask σ0 a1 a2 post) : Met l yX9_ask wsX9_ask ({ frames := 2, cells := 0, slots := 0, locals := 45 } : Room) (va_Pc [.ref (ad 0), .int a1, .int a2] (wd_pre D (xw ad cI cJ cZ) (wd_tys cI cJ cZ) σ0)) (va_Qi post (wd_B D (xw ad cI cJ cZ)) A) 0 0 A := by
  refine Met.ofW (cc := cX9_ask) (maxL := 4) (ret := (some .int)) (by decide) rfl ?_
  intro p e s m args below meth c s₁ B hml hv
  obtain ⟨rfl, hP, hK, hN⟩ := hv
  have hx := B.exec
  have hb := B.bytes
  have hr := B.returns
  have hts := atoms_spec (ws := wsX9_ask) B.pre
  have hown : s.vm.findClass RX9 = some m.cls := findClass_of_methodNamed B.named
  have hlocks := B.notSynchronized
  have hS : va_S A s.heap s.heap [] := va_S.rf
  have f19 := hts (.fieldLink RX9 19 "LeastRights" "folk" "LLeastRights$Folk;") (by decide +kernel)
  have iX9 : ∀ w ∈ wsX90, w ∈ wsX9_ask := by decide +kernel
  have f10 := hts (.fieldLink RX9 10 "LeastRights" "days" "LLeastRights$Days;") (by decide +kernel)
  have f76 := hts (.fieldLink RX9 76 "LeastRights" "askAnswers" "[I") (by decide +kernel)
  have hl := lv_entry ([.ref (ad 0), .int a1, .int a2]) (n := 4) (Nat.le_of_ble_eq_true rfl)
  rw [lg_entry_eq]
  generalize (lg_sl ([.ref (ad 0), .int a1, .int a2]) ++ List.replicate (4 - (lg_sl ([.ref (ad 0), .int a1, .int a2])).length) Slot.unset).toArray = ls at hl ⊢
  have hl : lv_has ls 4 [(0, .ref (ad 0)), (1, .int a1), (2, .int a2)] := hl
  unfold wX9_ask at hw
  refine lv_aload_n hx hb dX9_ask_0 rfl (lv_at hl 0 rfl) ?_
  refine lv_iload_n hx hb dX9_ask_1 rfl (lv_at hl 1 rfl) ?_
  refine wd_cVi ⟨hx, hb, hml, hown, hts⟩ (mtX9_noPerson l D ad cI cJ cZ A hD σ0 a1 _ hw) (cwV 1 hts gX9_ask_X9_noPerson rfl rfl rfl (by decide +kernel) ⟨(Nat.le_of_ble_eq_true rfl), (Nat.le_of_ble_eq_true rfl)⟩) (va_recv hK hP (ci := 9) (q0 := 0) rfl (xw_q0 ad cI cJ cZ σ0)) hK hN hP hS rfl hl.1 rfl (Nat.le_of_ble_eq_true rfl) dX9_ask_2 ⟨Nat.zero_le _, Nat.zero_le _⟩ (fun r1 u9 H locs hq hP hS => ?_)
  obtain ⟨hw, hu⟩ := hq
  rw [hu] at hP
  refine lv_if_ne (tgt := 15) hx hb dX9_ask_5 (by decide) (fun c9 => ?_) (fun c9 => ?_)
  · have hw := hw.1 c9
    refine lv_iconst (v := -1) hx hb dX9_ask_15 (by decide) ?_
    exact wd_iret hx hb hr hlocks hw hP hS dX9_ask_16
  · have hw := hw.2 c9
    refine lv_iload_n hx hb dX9_ask_8 rfl (lv_at hl 2 rfl) ?_
    refine wd_cSi ⟨hx, hb, hml, hown, hts⟩ (mtX9_noRight l D ad cI cJ cZ A hD σ0 a2 _ hw) (va_cwS 1 hts gX9_ask_X9_noRight rfl rfl rfl (by decide +kernel) ⟨(Nat.le_of_ble_eq_true rfl), (Nat.le_of_ble_eq_true rfl)⟩) hK hN hP hS rfl hl.1 rfl (Nat.le_of_ble_eq_true rfl) dX9_ask_9 ⟨Nat.zero_le _, Nat.zero_le _⟩ (fun r2 u9 H locs hq hP hS => ?_)
    obtain ⟨hw, hu⟩ := hq
    rw [hu] at hP
    refine lv_if_eq (tgt := 17) hx hb dX9_ask_12 (by decide) (fun c9 => ?_) (fun c9 => ?_)
    · have hw := hw.1 c9
      refine lv_aload_n hx hb dX9_ask_17 rfl (lv_at hl 0 rfl) ?_
      refine va_get hx hb hts iX9 hown hK hP 0 (xw_q0 ad cI cJ cZ σ0) rfl 1 (by decide) f19 (fun _ h9 => h9) rfl dX9_ask_18 ?_
      refine lv_iload_n hx hb dX9_ask_21 rfl (lv_at hl 1 rfl) ?_
      refine lv_iload_n hx hb dX9_ask_22 rfl (lv_at hl 2 rfl) ?_
      refine lv_aload_n hx hb dX9_ask_23 rfl (lv_at hl 0 rfl) ?_
      refine va_get hx hb hts iX9 hown hK hP 0 (xw_q0 ad cI cJ cZ σ0) rfl 0 (by decide) f10 (fun _ h9 => h9) rfl dX9_ask_24 ?_
      refine wd_cVi ⟨hx, hb, hml, hown, hts⟩ (mtX5_request l D ad cI cJ cZ A hD σ0 a1 a2 _ hw) (cwV 3 hts gX9_ask_X5_request rfl rfl rfl (by decide +kernel) ⟨(Nat.le_of_ble_eq_true rfl), (Nat.le_of_ble_eq_true rfl)⟩) (va_recv hK hP (ci := 5) (q0 := 2) rfl (xw_q2 ad cI cJ cZ σ0)) hK hN hP hS rfl hl.1 rfl (Nat.le_of_ble_eq_true rfl) dX9_ask_27 ⟨Nat.zero_le _, Nat.zero_le _⟩ (fun r3 σ4 H locs hw hP hS => ?_)
      refine lv_istore_n (lv' := [(3, .int r3), (0, .ref (ad 0)), (1, .int a1), (2, .int a2)]) hx hb dX9_ask_30 rfl hl (by decide) rfl (fun ls hl => ?_)
      refine lv_aload_n hx hb dX9_ask_31 rfl (lv_at hl 1 rfl) ?_
      refine va_get hx hb hts iX9 hown hK hP 0 (xw_q0 ad cI cJ cZ σ4) rfl 10 (by decide) f76 (fun _ h9 => h9) rfl dX9_ask_32 ?_
      refine lv_iload_n hx hb dX9_ask_35 rfl (lv_at hl 0 rfl) ?_
      refine lv_dup2_11 hx hb dX9_ask_36 rfl rfl ?_
      obtain ⟨h9, hw⟩ := hw
      refine va_iald hx hb hK hP 11 0 (xw_q11 ad cI cJ cZ σ4) rfl h9 dX9_ask_37 ?_
      refine lv_iconst (v := 1) hx hb dX9_ask_38 (by decide) ?_
      refine lv_iadd hx hb dX9_ask_39 ?_
      obtain ⟨h9, hw⟩ := hw
      refine wd_iast 1 11 hx hb hK hP hD hS (xw_q11 ad cI cJ cZ σ4) rfl (xw_a1 ad cI cJ cZ σ4) h9 dX9_ask_40 (fun H locs σ5 eσ5 hP hS => ?_)
      have hw := hw σ5 eσ5
      refine lv_iload_n hx hb dX9_ask_41 rfl (lv_at hl 0 rfl) ?_
      exact wd_iret hx hb hr hlocks hw hP hS dX9_ask_42
    · have hw := hw.2 c9
      refine lv_iconst (v := -1) hx hb dX9_ask_15 (by decide) ?_
      exact wd_iret hx hb hr hlocks hw hP hS dX9_ask_16
def wX9_asks (σ0 : St) (a1 : Int32) (post : Int32 → Prop) : Prop := (a1 < 0 → (post (-1 : Int32))) ∧ (¬ a1 < 0 → ((a1 < (3 : Int32) → (vp_in a1 3 ∧ (post (σ0.2.1 1 a1.toNatClampNeg)))) ∧ (¬ a1 < (3 : Int32) → (post (-1 : Int32)))))
set_option maxHeartbeats 4000000 in
set_option maxRecDepth 100000 in
theorem mtX9_asks (l : Launch) (D : va_G) (ad : Nat → Nat) (cI cJ cZ : ClassId) (A : Nat → Prop) (hD : ∀ σ : St, va_D A (xw ad cI cJ cZ σ)) (σ0 : St) (a1 : Int32) (post : Int32 → Prop) (hw : wX9_asks σ0 a1 post) : Met l yX9_asks wsX9_asks ({ frames := 0, cells := 0, slots := 0, locals := 0 } : Room) (va_Pc [.ref (ad 0), .int a1] (wd_pre D (xw ad cI cJ cZ) (wd_tys cI cJ cZ) σ0)) (va_Qi (fun (r : Int32) (u : St) => post r ∧ u = σ0) (wd_B D (xw ad cI cJ cZ)) A) 0 0 A := by
  refine Met.ofW (cc := cX9_asks) (maxL := 2) (ret := (some .int)) (by decide) rfl ?_
  intro p e s m args below meth c s₁ B hml hv
  obtain ⟨rfl, hP, hK, hN⟩ := hv
  have hx := B.exec
  have hb := B.bytes
  have hr := B.returns
  have hts := atoms_spec (ws := wsX9_asks) B.pre
  have hown : s.vm.findClass RX9 = some m.cls := findClass_of_methodNamed B.named
  have hlocks := B.notSynchronized
  have hS : va_S A s.heap s.heap [] := va_S.rf
  have f76 := hts (.fieldLink RX9 76 "LeastRights" "askAnswers" "[I") (by decide +kernel)
  have iX9 : ∀ w ∈ wsX90, w ∈ wsX9_asks := by decide +kernel
  have hl := lv_entry ([.ref (ad 0), .int a1]) (n := 2) (Nat.le_of_ble_eq_true rfl)
  rw [lg_entry_eq]
  generalize (lg_sl ([.ref (ad 0), .int a1]) ++ List.replicate (2 - (lg_sl ([.ref (ad 0), .int a1])).length) Slot.unset).toArray = ls at hl ⊢
  have hl : lv_has ls 2 [(0, .ref (ad 0)), (1, .int a1)] := hl
  unfold wX9_asks at hw
  refine lv_iload_n hx hb dX9_asks_0 rfl (lv_at hl 1 rfl) ?_
  refine lv_if_lt (tgt := 13) hx hb dX9_asks_1 (by decide) (fun c9 => ?_) (fun c9 => ?_)
  · have hw := hw.1 c9
    refine lv_iconst (v := -1) hx hb dX9_asks_13 (by decide) ?_
    exact wd_iret hx hb hr hlocks ⟨hw, rfl⟩ hP hS dX9_asks_14
  · have hw := hw.2 c9
    refine lv_iload_n hx hb dX9_asks_4 rfl (lv_at hl 1 rfl) ?_
    refine lv_aload_n hx hb dX9_asks_5 rfl (lv_at hl 0 rfl) ?_
    refine va_get hx hb hts iX9 hown hK hP 0 (xw_q0 ad cI cJ cZ σ0) rfl 10 (by decide) f76 (fun _ h9 => h9) rfl dX9_asks_6 ?_
    refine va_alen hx hb hK hP 11 0 (xw_q11 ad cI cJ cZ σ0) rfl (v := (3 : Int32)) rfl dX9_asks_9 ?_
    refine lv_icmp_lt (tgt := 15) hx hb dX9_asks_10 (by decide) (fun c9 => ?_) (fun c9 => ?_)
    · have hw := hw.1 c9
      refine lv_aload_n hx hb dX9_asks_15 rfl (lv_at hl 0 rfl) ?_
      refine va_get hx hb hts iX9 hown hK hP 0 (xw_q0 ad cI cJ cZ σ0) rfl 10 (by decide) f76 (fun _ h9 => h9) rfl dX9_asks_16 ?_
      refine lv_iload_n hx hb dX9_asks_19 rfl (lv_at hl 1 rfl) ?_
      obtain ⟨h9, hw⟩ := hw
      refine va_iald hx hb hK hP 11 0 (xw_q11 ad cI cJ cZ σ0) rfl h9 dX9_asks_20 ?_
      exact wd_iret hx hb hr hlocks ⟨hw, rfl⟩ hP hS dX9_asks_21
    · have hw := hw.2 c9
      refine lv_iconst (v := -1) hx hb dX9_asks_13 (by decide) ?_
      exact wd_iret hx hb hr hlocks ⟨hw, rfl⟩ hP hS dX9_asks_14
def lpX9_lookAtKept_2 (post : St → Prop) : Nat → Int32 → St → Prop
  | 0, _, _ => False
  | n + 1, v1, σ => ((σ.1 6) ≤ v1 → (post σ)) ∧ (¬ (σ.1 6) ≤ v1 → (wX9_keptOf σ v1 (fun (r1 : Int32) => vp_in v1 10 ∧ (∀ σ2 : St, σ2 = st_A σ 0 v1.toNatClampNeg r1 → (∀ x3 : Int32, x3 = v1 + (1 : Int32) → (lpX9_lookAtKept_2 post n x3 σ2))))))
def wX9_lookAtKept (σ0 : St) (post : St → Prop) : Prop := ∃ n4 : Nat, lpX9_lookAtKept_2 post n4 (0 : Int32) σ0
set_option maxHeartbeats 4000000 in
set_option maxRecDepth 100000 in
theorem mtX9_lookAtKept (l : Launch) (D : va_G) (ad : Nat → Nat) (cI cJ cZ : ClassId) (A : Nat → Prop) (hD : ∀ σ : St, va_D A (xw ad cI cJ cZ σ)) (σ0 : St) (post : St → Prop) (hw : wX9_lookAtKept σ0 post) : Met l yX9_lookAtKept wsX9_lookAtKept ({ frames := 3, cells := 0, slots := 0, locals := 70 } : Room) (va_Pc [.ref (ad 0)] (wd_pre D (xw ad cI cJ cZ) (wd_tys cI cJ cZ) σ0)) (va_Qv post (wd_B D (xw ad cI cJ cZ)) A) 0 0 A := by
  refine Met.ofW (cc := cX9_lookAtKept) (maxL := 2) (ret := none) (by decide) rfl ?_
  intro p e s m args below meth c s₁ B hml hv
  obtain ⟨rfl, hP, hK, hN⟩ := hv
  have hx := B.exec
  have hb := B.bytes
  have hr := B.returns
  have hts := atoms_spec (ws := wsX9_lookAtKept) B.pre
  have hown : s.vm.findClass RX9 = some m.cls := findClass_of_methodNamed B.named
  have hlocks := B.notSynchronized
  have hS : va_S A s.heap s.heap [] := va_S.rf
  have f19 := hts (.fieldLink RX9 19 "LeastRights" "folk" "LLeastRights$Folk;") (by decide +kernel)
  have iX9 : ∀ w ∈ wsX90, w ∈ wsX9_lookAtKept := by decide +kernel
  have n93 := va_Nw.use (A := ([.ref (ad 0)] : List Value).toArray) rfl (hN.1 ("LeastRights", 93, "LeastRights$Folk", "size", "I") (by decide +kernel))
  have iX5 : ∀ w ∈ wsX50, w ∈ wsX9_lookAtKept := by decide +kernel
  have f72 := hts (.fieldLink RX9 72 "LeastRights" "keptRow" "[I") (by decide +kernel)
  have L2 : ∀ (n : Nat) (v1 : Int32) (σ : St) (H : Heap) (locs : List Loc) (ls : Array Slot), lpX9_lookAtKept_2 post n v1 σ → va_P D vwCl (xw ad cI cJ cZ σ) H → va_S A s.heap H locs → lv_has ls 2 [(0, .ref (ad 0)), (1, .int v1)] → W p l e (headSpec wsX9_lookAtKept ({ frames := 3, cells := 0, slots := 0, locals := 70 } : Room)).room s m ([.ref (ad 0)] : List Value).toArray below meth c H locs 0 0 (MQ below (va_Qv post (wd_B D (xw ad cI cJ cZ)) A) ([.ref (ad 0)] : List Value).toArray s 0 0 A) (F0 m 2 ls []) := by
    intro n
    induction n with
    | zero => intro v1 σ H locs ls hw; exact hw.elim
    | succ n ih =>
      intro v1 σ H locs ls hw hP hS hl
      rw [lpX9_lookAtKept_2] at hw
      refine lv_iload_n hx hb dX9_lookAtKept_2 rfl (lv_at hl 1 rfl) ?_
      refine lv_aload_n hx hb dX9_lookAtKept_3 rfl (lv_at hl 0 rfl) ?_
      refine va_get hx hb hts iX9 hown hK hP 0 (xw_q0 ad cI cJ cZ σ) rfl 1 (by decide) f19 (fun _ h9 => h9) rfl dX9_lookAtKept_4 ?_
      refine va_getN hx hb hts iX5 hown hK hP 2 (xw_q2 ad cI cJ cZ σ) rfl 0 (by decide) n93 (fun _ h9 => h9) rfl dX9_lookAtKept_7 ?_
      refine lv_icmp_ge (tgt := 30) hx hb dX9_lookAtKept_10 (by decide) (fun c9 => ?_) (fun c9 => ?_)
      · have hw := hw.1 c9
        exact wd_vret hx hb hr hlocks hw hP hS dX9_lookAtKept_30
      · have hw := hw.2 c9
        refine lv_aload_n hx hb dX9_lookAtKept_13 rfl (lv_at hl 0 rfl) ?_
        refine va_get hx hb hts iX9 hown hK hP 0 (xw_q0 ad cI cJ cZ σ) rfl 9 (by decide) f72 (fun _ h9 => h9) rfl dX9_lookAtKept_14 ?_
        refine lv_iload_n hx hb dX9_lookAtKept_17 rfl (lv_at hl 1 rfl) ?_
        refine lv_aload_n hx hb dX9_lookAtKept_18 rfl (lv_at hl 0 rfl) ?_
        refine lv_iload_n hx hb dX9_lookAtKept_19 rfl (lv_at hl 1 rfl) ?_
        refine wd_cVi ⟨hx, hb, hml, hown, hts⟩ (mtX9_keptOf l D ad cI cJ cZ A hD σ v1 _ hw) (cwV 1 hts gX9_lookAtKept_X9_keptOf rfl rfl rfl (by decide +kernel) ⟨(Nat.le_of_ble_eq_true rfl), (Nat.le_of_ble_eq_true rfl)⟩) (va_recv hK hP (ci := 9) (q0 := 0) rfl (xw_q0 ad cI cJ cZ σ)) hK hN hP hS rfl hl.1 rfl (Nat.le_of_ble_eq_true rfl) dX9_lookAtKept_20 ⟨Nat.zero_le _, Nat.zero_le _⟩ (fun r1 u9 H locs hq hP hS => ?_)
        obtain ⟨hw, hu⟩ := hq
        rw [hu] at hP
        obtain ⟨h9, hw⟩ := hw
        refine wd_iast 0 10 hx hb hK hP hD hS (xw_q10 ad cI cJ cZ σ) rfl (xw_a0 ad cI cJ cZ σ) h9 dX9_lookAtKept_23 (fun H locs σ2 eσ2 hP hS => ?_)
        have hw := hw σ2 eσ2
        obtain ⟨x3, ex3⟩ : ∃ z : Int32, z = v1 + (1 : Int32) := ⟨_, rfl⟩
        refine lv_iinc (v := x3) (lv' := [(1, .int x3), (0, .ref (ad 0))]) hx hb dX9_lookAtKept_24 hl (k := 1) rfl (by rw [ex3]; rfl) (by decide) rfl (fun ls hl => ?_)
        have hw := hw x3 ex3
        refine lv_goto (tgt := 2) hx hb dX9_lookAtKept_27 (by decide) ?_
        exact ih _ _ _ _ _ hw hP hS (lv_sub hl [1, 0] rfl)
  have hl := lv_entry ([.ref (ad 0)]) (n := 2) (Nat.le_of_ble_eq_true rfl)
  rw [lg_entry_eq]
  generalize (lg_sl ([.ref (ad 0)]) ++ List.replicate (2 - (lg_sl ([.ref (ad 0)])).length) Slot.unset).toArray = ls at hl ⊢
  have hl : lv_has ls 2 [(0, .ref (ad 0))] := hl
  unfold wX9_lookAtKept at hw
  refine lv_iconst (v := 0) hx hb dX9_lookAtKept_0 (by decide) ?_
  refine lv_istore_n (lv' := [(1, .int (0 : Int32)), (0, .ref (ad 0))]) hx hb dX9_lookAtKept_1 rfl hl (by decide) rfl (fun ls hl => ?_)
  obtain ⟨n9, hw⟩ := hw
  refine L2 n9 (0 : Int32) σ0 _ _ _ hw hP hS (lv_sub hl [1, 0] rfl)
def wX9_candidates (σ0 : St) (post : Int32 → St → Prop) : Prop := wX9_lookAtKept σ0 (fun (σ1 : St) => wX1_gather σ1 (σ1.1 6) (fun (σ2 : St) => post (σ2.1 8) σ2))
set_option maxHeartbeats 4000000 in
set_option maxRecDepth 100000 in
theorem mtX9_candidates (l : Launch) (D : va_G) (ad : Nat → Nat) (cI cJ cZ : ClassId) (A : Nat → Prop) (hD : ∀ σ : St, va_D A (xw ad cI cJ cZ σ)) (σ0 : St) (post : Int32 → St → Prop) (hw : wX9_candidates σ0 post) : Met l yX9_candidates wsX9_candidates ({ frames := 4, cells := 0, slots := 0, locals := 91 } : Room) (va_Pc [.ref (ad 0)] (wd_pre D (xw ad cI cJ cZ) (wd_tys cI cJ cZ) σ0)) (va_Qi post (wd_B D (xw ad cI cJ cZ)) A) 0 0 A := by
  refine Met.ofW (cc := cX9_candidates) (maxL := 1) (ret := (some .int)) (by decide) rfl ?_
  intro p e s m args below meth c s₁ B hml hv
  obtain ⟨rfl, hP, hK, hN⟩ := hv
  have hx := B.exec
  have hb := B.bytes
  have hr := B.returns
  have hts := atoms_spec (ws := wsX9_candidates) B.pre
  have hown : s.vm.findClass RX9 = some m.cls := findClass_of_methodNamed B.named
  have hlocks := B.notSynchronized
  have hS : va_S A s.heap s.heap [] := va_S.rf
  have f33 := hts (.fieldLink RX9 33 "LeastRights" "choice" "LLeastRights$Candidates;") (by decide +kernel)
  have iX9 : ∀ w ∈ wsX90, w ∈ wsX9_candidates := by decide +kernel
  have f72 := hts (.fieldLink RX9 72 "LeastRights" "keptRow" "[I") (by decide +kernel)
  have f19 := hts (.fieldLink RX9 19 "LeastRights" "folk" "LLeastRights$Folk;") (by decide +kernel)
  have n93 := va_Nw.use (A := ([.ref (ad 0)] : List Value).toArray) rfl (hN.1 ("LeastRights", 93, "LeastRights$Folk", "size", "I") (by decide +kernel))
  have iX5 : ∀ w ∈ wsX50, w ∈ wsX9_candidates := by decide +kernel
  have n175 := va_Nw.use (A := ([.ref (ad 0)] : List Value).toArray) rfl (hN.1 ("LeastRights", 175, "LeastRights$Candidates", "size", "I") (by decide +kernel))
  have iX1 : ∀ w ∈ wsX10, w ∈ wsX9_candidates := by decide +kernel
  have hl := lv_entry ([.ref (ad 0)]) (n := 1) (Nat.le_of_ble_eq_true rfl)
  rw [lg_entry_eq]
  generalize (lg_sl ([.ref (ad 0)]) ++ List.replicate (1 - (lg_sl ([.ref (ad 0)])).length) Slot.unset).toArray = ls at hl ⊢
  have hl : lv_has ls 1 [(0, .ref (ad 0))] := hl
  unfold wX9_candidates at hw
  refine lv_aload_n hx hb dX9_candidates_0 rfl (lv_at hl 0 rfl) ?_
  refine wd_cVv ⟨hx, hb, hml, hown, hts⟩ (mtX9_lookAtKept l D ad cI cJ cZ A hD σ0  _ hw) (cwV 0 hts gX9_candidates_X9_lookAtKept rfl rfl rfl (by decide +kernel) ⟨(Nat.le_of_ble_eq_true rfl), (Nat.le_of_ble_eq_true rfl)⟩) (va_recv hK hP (ci := 9) (q0 := 0) rfl (xw_q0 ad cI cJ cZ σ0)) hK hN hP hS rfl hl.1 rfl (Nat.le_of_ble_eq_true rfl) dX9_candidates_1 ⟨Nat.zero_le _, Nat.zero_le _⟩ (fun σ1 H locs hw hP hS => ?_)
  refine lv_aload_n hx hb dX9_candidates_4 rfl (lv_at hl 0 rfl) ?_
  refine va_get hx hb hts iX9 hown hK hP 0 (xw_q0 ad cI cJ cZ σ1) rfl 3 (by decide) f33 (fun _ h9 => h9) rfl dX9_candidates_5 ?_
  refine lv_aload_n hx hb dX9_candidates_8 rfl (lv_at hl 0 rfl) ?_
  refine va_get hx hb hts iX9 hown hK hP 0 (xw_q0 ad cI cJ cZ σ1) rfl 9 (by decide) f72 (fun _ h9 => h9) rfl dX9_candidates_9 ?_
  refine lv_aload_n hx hb dX9_candidates_12 rfl (lv_at hl 0 rfl) ?_
  refine va_get hx hb hts iX9 hown hK hP 0 (xw_q0 ad cI cJ cZ σ1) rfl 1 (by decide) f19 (fun _ h9 => h9) rfl dX9_candidates_13 ?_
  refine va_getN hx hb hts iX5 hown hK hP 2 (xw_q2 ad cI cJ cZ σ1) rfl 0 (by decide) n93 (fun _ h9 => h9) rfl dX9_candidates_16 ?_
  refine wd_cVv ⟨hx, hb, hml, hown, hts⟩ (mtX1_gather l D ad cI cJ cZ A hD σ1 (σ1.1 6) _ hw) (cwV 2 hts gX9_candidates_X1_gather rfl rfl rfl (by decide +kernel) ⟨(Nat.le_of_ble_eq_true rfl), (Nat.le_of_ble_eq_true rfl)⟩) (va_recv hK hP (ci := 1) (q0 := 4) rfl (xw_q4 ad cI cJ cZ σ1)) hK hN hP hS rfl hl.1 rfl (Nat.le_of_ble_eq_true rfl) dX9_candidates_19 ⟨Nat.zero_le _, Nat.zero_le _⟩ (fun σ2 H locs hw hP hS => ?_)
  refine lv_aload_n hx hb dX9_candidates_22 rfl (lv_at hl 0 rfl) ?_
  refine va_get hx hb hts iX9 hown hK hP 0 (xw_q0 ad cI cJ cZ σ2) rfl 3 (by decide) f33 (fun _ h9 => h9) rfl dX9_candidates_23 ?_
  refine va_getN hx hb hts iX1 hown hK hP 4 (xw_q4 ad cI cJ cZ σ2) rfl 0 (by decide) n175 (fun _ h9 => h9) rfl dX9_candidates_26 ?_
  exact wd_iret hx hb hr hlocks hw hP hS dX9_candidates_29
def wX9_roles (σ0 : St) (a1 : Int32) (post : Int32 → St → Prop) : Prop := (a1 < (1 : Int32) → (post (-1 : Int32) σ0)) ∧ (¬ a1 < (1 : Int32) → ((a1 ≤ (20000 : Int32) → (wX9_lookAtKept σ0 (fun (σ1 : St) => wX1_gather σ1 (σ1.1 6) (fun (σ2 : St) => wX6_search σ2 (σ2.1 6) a1 (fun (r3 : Int32) (σ4 : St) => (r3 = 0 → (post (-6 : Int32) σ4)) ∧ (¬ r3 = 0 → (post (σ4.1 9) σ4))))))) ∧ (¬ a1 ≤ (20000 : Int32) → (post (-1 : Int32) σ0))))
set_option maxHeartbeats 4000000 in
set_option maxRecDepth 100000 in
theorem mtX9_roles (l : Launch) (D : va_G) (ad : Nat → Nat) (cI cJ cZ : ClassId) (A : Nat → Prop) (hD : ∀ σ : St, va_D A (xw ad cI cJ cZ σ)) (σ0 : St) (a1 : Int32) (post : Int32 → St → Prop) (hw : wX9_roles σ0 a1 post) : Met l yX9_roles wsX9_roles ({ frames := 4, cells := 0, slots := 0, locals := 91 } : Room) (va_Pc [.ref (ad 0), .int a1] (wd_pre D (xw ad cI cJ cZ) (wd_tys cI cJ cZ) σ0)) (va_Qi post (wd_B D (xw ad cI cJ cZ)) A) 0 0 A := by
  refine Met.ofW (cc := cX9_roles) (maxL := 2) (ret := (some .int)) (by decide) rfl ?_
  intro p e s m args below meth c s₁ B hml hv
  obtain ⟨rfl, hP, hK, hN⟩ := hv
  have hx := B.exec
  have hb := B.bytes
  have hr := B.returns
  have hts := atoms_spec (ws := wsX9_roles) B.pre
  have hown : s.vm.findClass RX9 = some m.cls := findClass_of_methodNamed B.named
  have hlocks := B.notSynchronized
  have hS : va_S A s.heap s.heap [] := va_S.rf
  have f33 := hts (.fieldLink RX9 33 "LeastRights" "choice" "LLeastRights$Candidates;") (by decide +kernel)
  have iX9 : ∀ w ∈ wsX90, w ∈ wsX9_roles := by decide +kernel
  have f72 := hts (.fieldLink RX9 72 "LeastRights" "keptRow" "[I") (by decide +kernel)
  have f19 := hts (.fieldLink RX9 19 "LeastRights" "folk" "LLeastRights$Folk;") (by decide +kernel)
  have n93 := va_Nw.use (A := ([.ref (ad 0), .int a1] : List Value).toArray) rfl (hN.1 ("LeastRights", 93, "LeastRights$Folk", "size", "I") (by decide +kernel))
  have iX5 : ∀ w ∈ wsX50, w ∈ wsX9_roles := by decide +kernel
  have f40 := hts (.fieldLink RX9 40 "LeastRights" "tree" "LLeastRights$RoleTree;") (by decide +kernel)
  have n180 := va_Nw.use (A := ([.ref (ad 0), .int a1] : List Value).toArray) rfl (hN.1 ("LeastRights", 180, "LeastRights$RoleTree", "size", "I") (by decide +kernel))
  have iX6 : ∀ w ∈ wsX60, w ∈ wsX9_roles := by decide +kernel
  have hl := lv_entry ([.ref (ad 0), .int a1]) (n := 2) (Nat.le_of_ble_eq_true rfl)
  rw [lg_entry_eq]
  generalize (lg_sl ([.ref (ad 0), .int a1]) ++ List.replicate (2 - (lg_sl ([.ref (ad 0), .int a1])).length) Slot.unset).toArray = ls at hl ⊢
  have hl : lv_has ls 2 [(0, .ref (ad 0)), (1, .int a1)] := hl
  unfold wX9_roles at hw
  refine lv_iload_n hx hb dX9_roles_0 rfl (lv_at hl 1 rfl) ?_
  refine lv_iconst (v := 1) hx hb dX9_roles_1 (by decide) ?_
  refine lv_icmp_lt (tgt := 12) hx hb dX9_roles_2 (by decide) (fun c9 => ?_) (fun c9 => ?_)
  · have hw := hw.1 c9
    refine lv_iconst (v := -1) hx hb dX9_roles_12 (by decide) ?_
    exact wd_iret hx hb hr hlocks hw hP hS dX9_roles_13
  · have hw := hw.2 c9
    refine lv_iload_n hx hb dX9_roles_5 rfl (lv_at hl 1 rfl) ?_
    refine lv_sipush (v := 20000) hx hb dX9_roles_6 (by decide) ?_
    refine lv_icmp_le (tgt := 14) hx hb dX9_roles_9 (by decide) (fun c9 => ?_) (fun c9 => ?_)
    · have hw := hw.1 c9
      refine lv_aload_n hx hb dX9_roles_14 rfl (lv_at hl 0 rfl) ?_
      refine wd_cVv ⟨hx, hb, hml, hown, hts⟩ (mtX9_lookAtKept l D ad cI cJ cZ A hD σ0  _ hw) (cwV 0 hts gX9_roles_X9_lookAtKept rfl rfl rfl (by decide +kernel) ⟨(Nat.le_of_ble_eq_true rfl), (Nat.le_of_ble_eq_true rfl)⟩) (va_recv hK hP (ci := 9) (q0 := 0) rfl (xw_q0 ad cI cJ cZ σ0)) hK hN hP hS rfl hl.1 rfl (Nat.le_of_ble_eq_true rfl) dX9_roles_15 ⟨Nat.zero_le _, Nat.zero_le _⟩ (fun σ1 H locs hw hP hS => ?_)
      refine lv_aload_n hx hb dX9_roles_18 rfl (lv_at hl 0 rfl) ?_
      refine va_get hx hb hts iX9 hown hK hP 0 (xw_q0 ad cI cJ cZ σ1) rfl 3 (by decide) f33 (fun _ h9 => h9) rfl dX9_roles_19 ?_
      refine lv_aload_n hx hb dX9_roles_22 rfl (lv_at hl 0 rfl) ?_
      refine va_get hx hb hts iX9 hown hK hP 0 (xw_q0 ad cI cJ cZ σ1) rfl 9 (by decide) f72 (fun _ h9 => h9) rfl dX9_roles_23 ?_
      refine lv_aload_n hx hb dX9_roles_26 rfl (lv_at hl 0 rfl) ?_
      refine va_get hx hb hts iX9 hown hK hP 0 (xw_q0 ad cI cJ cZ σ1) rfl 1 (by decide) f19 (fun _ h9 => h9) rfl dX9_roles_27 ?_
      refine va_getN hx hb hts iX5 hown hK hP 2 (xw_q2 ad cI cJ cZ σ1) rfl 0 (by decide) n93 (fun _ h9 => h9) rfl dX9_roles_30 ?_
      refine wd_cVv ⟨hx, hb, hml, hown, hts⟩ (mtX1_gather l D ad cI cJ cZ A hD σ1 (σ1.1 6) _ hw) (cwV 2 hts gX9_roles_X1_gather rfl rfl rfl (by decide +kernel) ⟨(Nat.le_of_ble_eq_true rfl), (Nat.le_of_ble_eq_true rfl)⟩) (va_recv hK hP (ci := 1) (q0 := 4) rfl (xw_q4 ad cI cJ cZ σ1)) hK hN hP hS rfl hl.1 rfl (Nat.le_of_ble_eq_true rfl) dX9_roles_33 ⟨Nat.zero_le _, Nat.zero_le _⟩ (fun σ2 H locs hw hP hS => ?_)
      refine lv_aload_n hx hb dX9_roles_36 rfl (lv_at hl 0 rfl) ?_
      refine va_get hx hb hts iX9 hown hK hP 0 (xw_q0 ad cI cJ cZ σ2) rfl 4 (by decide) f40 (fun _ h9 => h9) rfl dX9_roles_37 ?_
      refine lv_aload_n hx hb dX9_roles_40 rfl (lv_at hl 0 rfl) ?_
      refine va_get hx hb hts iX9 hown hK hP 0 (xw_q0 ad cI cJ cZ σ2) rfl 9 (by decide) f72 (fun _ h9 => h9) rfl dX9_roles_41 ?_
      refine lv_aload_n hx hb dX9_roles_44 rfl (lv_at hl 0 rfl) ?_
      refine va_get hx hb hts iX9 hown hK hP 0 (xw_q0 ad cI cJ cZ σ2) rfl 1 (by decide) f19 (fun _ h9 => h9) rfl dX9_roles_45 ?_
      refine va_getN hx hb hts iX5 hown hK hP 2 (xw_q2 ad cI cJ cZ σ2) rfl 0 (by decide) n93 (fun _ h9 => h9) rfl dX9_roles_48 ?_
      refine lv_aload_n hx hb dX9_roles_51 rfl (lv_at hl 0 rfl) ?_
      refine va_get hx hb hts iX9 hown hK hP 0 (xw_q0 ad cI cJ cZ σ2) rfl 3 (by decide) f33 (fun _ h9 => h9) rfl dX9_roles_52 ?_
      refine lv_iload_n hx hb dX9_roles_55 rfl (lv_at hl 1 rfl) ?_
      refine wd_cVi ⟨hx, hb, hml, hown, hts⟩ (mtX6_search l D ad cI cJ cZ A hD σ2 (σ2.1 6) a1 _ hw) (cwV 4 hts gX9_roles_X6_search rfl rfl rfl (by decide +kernel) ⟨(Nat.le_of_ble_eq_true rfl), (Nat.le_of_ble_eq_true rfl)⟩) (va_recv hK hP (ci := 6) (q0 := 5) rfl (xw_q5 ad cI cJ cZ σ2)) hK hN hP hS rfl hl.1 rfl (Nat.le_of_ble_eq_true rfl) dX9_roles_56 ⟨Nat.zero_le _, Nat.zero_le _⟩ (fun r3 σ4 H locs hw hP hS => ?_)
      refine lv_if_eq (tgt := 72) hx hb dX9_roles_59 (by decide) (fun c9 => ?_) (fun c9 => ?_)
      · have hw := hw.1 c9
        refine lv_bipush (v := -6) hx hb dX9_roles_72 (by decide) ?_
        exact wd_iret hx hb hr hlocks hw hP hS dX9_roles_74
      · have hw := hw.2 c9
        refine lv_aload_n hx hb dX9_roles_62 rfl (lv_at hl 0 rfl) ?_
        refine va_get hx hb hts iX9 hown hK hP 0 (xw_q0 ad cI cJ cZ σ4) rfl 4 (by decide) f40 (fun _ h9 => h9) rfl dX9_roles_63 ?_
        refine va_getN hx hb hts iX6 hown hK hP 5 (xw_q5 ad cI cJ cZ σ4) rfl 0 (by decide) n180 (fun _ h9 => h9) rfl dX9_roles_66 ?_
        refine lv_goto (tgt := 74) hx hb dX9_roles_69 (by decide) ?_
        exact wd_iret hx hb hr hlocks hw hP hS dX9_roles_74
    · have hw := hw.2 c9
      refine lv_iconst (v := -1) hx hb dX9_roles_12 (by decide) ?_
      exact wd_iret hx hb hr hlocks hw hP hS dX9_roles_13
def wX9_tries (σ0 : St) (post : Int32 → Prop) : Prop := post (σ0.1 10)
set_option maxHeartbeats 4000000 in
set_option maxRecDepth 100000 in
theorem mtX9_tries (l : Launch) (D : va_G) (ad : Nat → Nat) (cI cJ cZ : ClassId) (A : Nat → Prop) (hD : ∀ σ : St, va_D A (xw ad cI cJ cZ σ)) (σ0 : St) (post : Int32 → Prop) (hw : wX9_tries σ0 post) : Met l yX9_tries wsX9_tries ({ frames := 0, cells := 0, slots := 0, locals := 0 } : Room) (va_Pc [.ref (ad 0)] (wd_pre D (xw ad cI cJ cZ) (wd_tys cI cJ cZ) σ0)) (va_Qi (fun (r : Int32) (u : St) => post r ∧ u = σ0) (wd_B D (xw ad cI cJ cZ)) A) 0 0 A := by
  refine Met.ofW (cc := cX9_tries) (maxL := 1) (ret := (some .int)) (by decide) rfl ?_
  intro p e s m args below meth c s₁ B hml hv
  obtain ⟨rfl, hP, hK, hN⟩ := hv
  have hx := B.exec
  have hb := B.bytes
  have hr := B.returns
  have hts := atoms_spec (ws := wsX9_tries) B.pre
  have hown : s.vm.findClass RX9 = some m.cls := findClass_of_methodNamed B.named
  have hlocks := B.notSynchronized
  have hS : va_S A s.heap s.heap [] := va_S.rf
  have f40 := hts (.fieldLink RX9 40 "LeastRights" "tree" "LLeastRights$RoleTree;") (by decide +kernel)
  have iX9 : ∀ w ∈ wsX90, w ∈ wsX9_tries := by decide +kernel
  have n181 := va_Nw.use (A := ([.ref (ad 0)] : List Value).toArray) rfl (hN.1 ("LeastRights", 181, "LeastRights$RoleTree", "tried", "I") (by decide +kernel))
  have iX6 : ∀ w ∈ wsX60, w ∈ wsX9_tries := by decide +kernel
  have hl := lv_entry ([.ref (ad 0)]) (n := 1) (Nat.le_of_ble_eq_true rfl)
  rw [lg_entry_eq]
  generalize (lg_sl ([.ref (ad 0)]) ++ List.replicate (1 - (lg_sl ([.ref (ad 0)])).length) Slot.unset).toArray = ls at hl ⊢
  have hl : lv_has ls 1 [(0, .ref (ad 0))] := hl
  unfold wX9_tries at hw
  refine lv_aload_n hx hb dX9_tries_0 rfl (lv_at hl 0 rfl) ?_
  refine va_get hx hb hts iX9 hown hK hP 0 (xw_q0 ad cI cJ cZ σ0) rfl 4 (by decide) f40 (fun _ h9 => h9) rfl dX9_tries_1 ?_
  refine va_getN hx hb hts iX6 hown hK hP 5 (xw_q5 ad cI cJ cZ σ0) rfl 1 (by decide) n181 (fun _ h9 => h9) rfl dX9_tries_4 ?_
  exact wd_iret hx hb hr hlocks ⟨hw, rfl⟩ hP hS dX9_tries_7
def wX9_role (σ0 : St) (a1 : Int32) (post : Int32 → Prop) : Prop := (a1 < 0 → (post (-9 : Int32))) ∧ (¬ a1 < 0 → ((a1 < (σ0.1 9) → (vp_in a1 120 ∧ (post (σ0.2.1 11 a1.toNatClampNeg)))) ∧ (¬ a1 < (σ0.1 9) → (post (-9 : Int32)))))
set_option maxHeartbeats 4000000 in
set_option maxRecDepth 100000 in
theorem mtX9_role (l : Launch) (D : va_G) (ad : Nat → Nat) (cI cJ cZ : ClassId) (A : Nat → Prop) (hD : ∀ σ : St, va_D A (xw ad cI cJ cZ σ)) (σ0 : St) (a1 : Int32) (post : Int32 → Prop) (hw : wX9_role σ0 a1 post) : Met l yX9_role wsX9_role ({ frames := 0, cells := 0, slots := 0, locals := 0 } : Room) (va_Pc [.ref (ad 0), .int a1] (wd_pre D (xw ad cI cJ cZ) (wd_tys cI cJ cZ) σ0)) (va_Qi (fun (r : Int32) (u : St) => post r ∧ u = σ0) (wd_B D (xw ad cI cJ cZ)) A) 0 0 A := by
  refine Met.ofW (cc := cX9_role) (maxL := 2) (ret := (some .int)) (by decide) rfl ?_
  intro p e s m args below meth c s₁ B hml hv
  obtain ⟨rfl, hP, hK, hN⟩ := hv
  have hx := B.exec
  have hb := B.bytes
  have hr := B.returns
  have hts := atoms_spec (ws := wsX9_role) B.pre
  have hown : s.vm.findClass RX9 = some m.cls := findClass_of_methodNamed B.named
  have hlocks := B.notSynchronized
  have hS : va_S A s.heap s.heap [] := va_S.rf
  have f40 := hts (.fieldLink RX9 40 "LeastRights" "tree" "LLeastRights$RoleTree;") (by decide +kernel)
  have iX9 : ∀ w ∈ wsX90, w ∈ wsX9_role := by decide +kernel
  have n180 := va_Nw.use (A := ([.ref (ad 0), .int a1] : List Value).toArray) rfl (hN.1 ("LeastRights", 180, "LeastRights$RoleTree", "size", "I") (by decide +kernel))
  have iX6 : ∀ w ∈ wsX60, w ∈ wsX9_role := by decide +kernel
  have n184 := va_Nw.use (A := ([.ref (ad 0), .int a1] : List Value).toArray) rfl (hN.1 ("LeastRights", 184, "LeastRights$RoleTree", "fewestRow", "[I") (by decide +kernel))
  have hl := lv_entry ([.ref (ad 0), .int a1]) (n := 2) (Nat.le_of_ble_eq_true rfl)
  rw [lg_entry_eq]
  generalize (lg_sl ([.ref (ad 0), .int a1]) ++ List.replicate (2 - (lg_sl ([.ref (ad 0), .int a1])).length) Slot.unset).toArray = ls at hl ⊢
  have hl : lv_has ls 2 [(0, .ref (ad 0)), (1, .int a1)] := hl
  unfold wX9_role at hw
  refine lv_iload_n hx hb dX9_role_0 rfl (lv_at hl 1 rfl) ?_
  refine lv_if_lt (tgt := 15) hx hb dX9_role_1 (by decide) (fun c9 => ?_) (fun c9 => ?_)
  · have hw := hw.1 c9
    refine lv_bipush (v := -9) hx hb dX9_role_15 (by decide) ?_
    exact wd_iret hx hb hr hlocks ⟨hw, rfl⟩ hP hS dX9_role_17
  · have hw := hw.2 c9
    refine lv_iload_n hx hb dX9_role_4 rfl (lv_at hl 1 rfl) ?_
    refine lv_aload_n hx hb dX9_role_5 rfl (lv_at hl 0 rfl) ?_
    refine va_get hx hb hts iX9 hown hK hP 0 (xw_q0 ad cI cJ cZ σ0) rfl 4 (by decide) f40 (fun _ h9 => h9) rfl dX9_role_6 ?_
    refine va_getN hx hb hts iX6 hown hK hP 5 (xw_q5 ad cI cJ cZ σ0) rfl 0 (by decide) n180 (fun _ h9 => h9) rfl dX9_role_9 ?_
    refine lv_icmp_lt (tgt := 18) hx hb dX9_role_12 (by decide) (fun c9 => ?_) (fun c9 => ?_)
    · have hw := hw.1 c9
      refine lv_aload_n hx hb dX9_role_18 rfl (lv_at hl 0 rfl) ?_
      refine va_get hx hb hts iX9 hown hK hP 0 (xw_q0 ad cI cJ cZ σ0) rfl 4 (by decide) f40 (fun _ h9 => h9) rfl dX9_role_19 ?_
      refine va_getN hx hb hts iX6 hown hK hP 5 (xw_q5 ad cI cJ cZ σ0) rfl 3 (by decide) n184 (fun _ h9 => h9) rfl dX9_role_22 ?_
      refine lv_iload_n hx hb dX9_role_25 rfl (lv_at hl 1 rfl) ?_
      obtain ⟨h9, hw⟩ := hw
      refine va_iald hx hb hK hP 21 0 (xw_q21 ad cI cJ cZ σ0) rfl h9 dX9_role_26 ?_
      exact wd_iret hx hb hr hlocks ⟨hw, rfl⟩ hP hS dX9_role_27
    · have hw := hw.2 c9
      refine lv_bipush (v := -9) hx hb dX9_role_15 (by decide) ?_
      exact wd_iret hx hb hr hlocks ⟨hw, rfl⟩ hP hS dX9_role_17
def wX9_rolesOf (σ0 : St) (a1 : Int32) (post : Int32 → Prop) : Prop := wX9_noPerson σ0 a1 (fun (r1 : Int32) => (r1 = 0 → (wX9_keptOf σ0 a1 (fun (r2 : Int32) => wX6_rolesWithin σ0 r2 (fun (r3 : Int32) => post r3)))) ∧ (¬ r1 = 0 → (post (-1 : Int32))))
set_option maxHeartbeats 4000000 in
set_option maxRecDepth 100000 in
theorem mtX9_rolesOf (l : Launch) (D : va_G) (ad : Nat → Nat) (cI cJ cZ : ClassId) (A : Nat → Prop) (hD : ∀ σ : St, va_D A (xw ad cI cJ cZ σ)) (σ0 : St) (a1 : Int32) (post : Int32 → Prop) (hw : wX9_rolesOf σ0 a1 post) : Met l yX9_rolesOf wsX9_rolesOf ({ frames := 3, cells := 0, slots := 0, locals := 70 } : Room) (va_Pc [.ref (ad 0), .int a1] (wd_pre D (xw ad cI cJ cZ) (wd_tys cI cJ cZ) σ0)) (va_Qi (fun (r : Int32) (u : St) => post r ∧ u = σ0) (wd_B D (xw ad cI cJ cZ)) A) 0 0 A := by
  refine Met.ofW (cc := cX9_rolesOf) (maxL := 2) (ret := (some .int)) (by decide) rfl ?_
  intro p e s m args below meth c s₁ B hml hv
  obtain ⟨rfl, hP, hK, hN⟩ := hv
  have hx := B.exec
  have hb := B.bytes
  have hr := B.returns
  have hts := atoms_spec (ws := wsX9_rolesOf) B.pre
  have hown : s.vm.findClass RX9 = some m.cls := findClass_of_methodNamed B.named
  have hlocks := B.notSynchronized
  have hS : va_S A s.heap s.heap [] := va_S.rf
  have f40 := hts (.fieldLink RX9 40 "LeastRights" "tree" "LLeastRights$RoleTree;") (by decide +kernel)
  have iX9 : ∀ w ∈ wsX90, w ∈ wsX9_rolesOf := by decide +kernel
  have hl := lv_entry ([.ref (ad 0), .int a1]) (n := 2) (Nat.le_of_ble_eq_true rfl)
  rw [lg_entry_eq]
  generalize (lg_sl ([.ref (ad 0), .int a1]) ++ List.replicate (2 - (lg_sl ([.ref (ad 0), .int a1])).length) Slot.unset).toArray = ls at hl ⊢
  have hl : lv_has ls 2 [(0, .ref (ad 0)), (1, .int a1)] := hl
  unfold wX9_rolesOf at hw
  refine lv_aload_n hx hb dX9_rolesOf_0 rfl (lv_at hl 0 rfl) ?_
  refine lv_iload_n hx hb dX9_rolesOf_1 rfl (lv_at hl 1 rfl) ?_
  refine wd_cVi ⟨hx, hb, hml, hown, hts⟩ (mtX9_noPerson l D ad cI cJ cZ A hD σ0 a1 _ hw) (cwV 1 hts gX9_rolesOf_X9_noPerson rfl rfl rfl (by decide +kernel) ⟨(Nat.le_of_ble_eq_true rfl), (Nat.le_of_ble_eq_true rfl)⟩) (va_recv hK hP (ci := 9) (q0 := 0) rfl (xw_q0 ad cI cJ cZ σ0)) hK hN hP hS rfl hl.1 rfl (Nat.le_of_ble_eq_true rfl) dX9_rolesOf_2 ⟨Nat.zero_le _, Nat.zero_le _⟩ (fun r1 u9 H locs hq hP hS => ?_)
  obtain ⟨hw, hu⟩ := hq
  rw [hu] at hP
  refine lv_if_eq (tgt := 10) hx hb dX9_rolesOf_5 (by decide) (fun c9 => ?_) (fun c9 => ?_)
  · have hw := hw.1 c9
    refine lv_aload_n hx hb dX9_rolesOf_10 rfl (lv_at hl 0 rfl) ?_
    refine va_get hx hb hts iX9 hown hK hP 0 (xw_q0 ad cI cJ cZ σ0) rfl 4 (by decide) f40 (fun _ h9 => h9) rfl dX9_rolesOf_11 ?_
    refine lv_aload_n hx hb dX9_rolesOf_14 rfl (lv_at hl 0 rfl) ?_
    refine lv_iload_n hx hb dX9_rolesOf_15 rfl (lv_at hl 1 rfl) ?_
    refine wd_cVi ⟨hx, hb, hml, hown, hts⟩ (mtX9_keptOf l D ad cI cJ cZ A hD σ0 a1 _ hw) (cwV 1 hts gX9_rolesOf_X9_keptOf rfl rfl rfl (by decide +kernel) ⟨(Nat.le_of_ble_eq_true rfl), (Nat.le_of_ble_eq_true rfl)⟩) (va_recv hK hP (ci := 9) (q0 := 0) rfl (xw_q0 ad cI cJ cZ σ0)) hK hN hP hS rfl hl.1 rfl (Nat.le_of_ble_eq_true rfl) dX9_rolesOf_16 ⟨Nat.zero_le _, Nat.zero_le _⟩ (fun r2 u9 H locs hq hP hS => ?_)
    obtain ⟨hw, hu⟩ := hq
    rw [hu] at hP
    refine wd_cVi ⟨hx, hb, hml, hown, hts⟩ (mtX6_rolesWithin l D ad cI cJ cZ A hD σ0 r2 _ hw) (cwV 1 hts gX9_rolesOf_X6_rolesWithin rfl rfl rfl (by decide +kernel) ⟨(Nat.le_of_ble_eq_true rfl), (Nat.le_of_ble_eq_true rfl)⟩) (va_recv hK hP (ci := 6) (q0 := 5) rfl (xw_q5 ad cI cJ cZ σ0)) hK hN hP hS rfl hl.1 rfl (Nat.le_of_ble_eq_true rfl) dX9_rolesOf_19 ⟨Nat.zero_le _, Nat.zero_le _⟩ (fun r3 u9 H locs hq hP hS => ?_)
    obtain ⟨hw, hu⟩ := hq
    rw [hu] at hP
    exact wd_iret hx hb hr hlocks ⟨hw, rfl⟩ hP hS dX9_rolesOf_22
  · have hw := hw.2 c9
    refine lv_iconst (v := -1) hx hb dX9_rolesOf_8 (by decide) ?_
    exact wd_iret hx hb hr hlocks ⟨hw, rfl⟩ hP hS dX9_rolesOf_9
def lpX9_marksOf_40 (u1 : Int32) (σ : St) (K111 : Int32 → Int32 → Prop) : Nat → Int32 → Int32 → Int32 → Prop
  | 0, _, _, _ => False
  | n + 1, v2, v3, v4 => ((256 : Int32) ≤ v4 → (K111 v2 v3)) ∧ (¬ (256 : Int32) ≤ v4 → (wX5_mistold σ u1 v4 (fun (r4 : Int32) => wJ6_bitCount_0f7a4 r4 (fun (r5 : Int32) => wJ6_bitCount_0f7a4 v4 (fun (r6 : Int32) => wJ6_bitCount_0f7a4 v2 (fun (r7 : Int32) => (r7 ≤ r6 → ((r5 < v3 → (∀ x8 : Int32, x8 = v4 + (1 : Int32) → (lpX9_marksOf_40 u1 σ K111 n v4 r5 x8))) ∧ (¬ r5 < v3 → ((¬ r5 = v3 → (∀ x9 : Int32, x9 = v4 + (1 : Int32) → (lpX9_marksOf_40 u1 σ K111 n v2 v3 x9))) ∧ (r5 = v3 → (((0 : Int32) = 0 → (∀ x10 : Int32, x10 = v4 + (1 : Int32) → (lpX9_marksOf_40 u1 σ K111 n v2 v3 x10))) ∧ (¬ (0 : Int32) = 0 → (∀ x11 : Int32, x11 = v4 + (1 : Int32) → (lpX9_marksOf_40 u1 σ K111 n v4 r5 x11))))))))) ∧ (¬ r7 ≤ r6 → ((r5 < v3 → (∀ x12 : Int32, x12 = v4 + (1 : Int32) → (lpX9_marksOf_40 u1 σ K111 n v4 r5 x12))) ∧ (¬ r5 < v3 → ((¬ r5 = v3 → (∀ x13 : Int32, x13 = v4 + (1 : Int32) → (lpX9_marksOf_40 u1 σ K111 n v2 v3 x13))) ∧ (r5 = v3 → (((1 : Int32) = 0 → (∀ x14 : Int32, x14 = v4 + (1 : Int32) → (lpX9_marksOf_40 u1 σ K111 n v2 v3 x14))) ∧ (¬ (1 : Int32) = 0 → (∀ x15 : Int32, x15 = v4 + (1 : Int32) → (lpX9_marksOf_40 u1 σ K111 n v4 r5 x15)))))))))))))))
def wX9_marksOf (σ0 : St) (a1 : Int32) (post : Int32 → St → Prop) : Prop := wX9_noRight a1 (fun (r1 : Int32) => (r1 = 0 → ((¬ (σ0.1 6) = 0 → (wX5_mistold σ0 a1 (0 : Int32) (fun (r2 : Int32) => wJ6_bitCount_0f7a4 r2 (fun (r3 : Int32) => ∃ n19 : Nat, lpX9_marksOf_40 a1 σ0 (fun (y16 : Int32) (y17 : Int32) => ∀ σ18 : St, σ18 = st_S σ0 1 y17 → (post y16 σ18)) n19 (0 : Int32) r3 (1 : Int32))))) ∧ ((σ0.1 6) = 0 → (post (-4 : Int32) σ0)))) ∧ (¬ r1 = 0 → (post (-1 : Int32) σ0)))
set_option maxHeartbeats 4000000 in
set_option maxRecDepth 100000 in
theorem mtX9_marksOf (l : Launch) (D : va_G) (ad : Nat → Nat) (cI cJ cZ : ClassId) (A : Nat → Prop) (hD : ∀ σ : St, va_D A (xw ad cI cJ cZ σ)) (σ0 : St) (a1 : Int32) (post : Int32 → St → Prop) (hw : wX9_marksOf σ0 a1 post) : Met l yX9_marksOf wsX9_marksOf ({ frames := 2, cells := 0, slots := 0, locals := 47 } : Room) (va_Pc [.ref (ad 0), .int a1] (wd_pre D (xw ad cI cJ cZ) (wd_tys cI cJ cZ) σ0)) (va_Qi post (wd_B D (xw ad cI cJ cZ)) A) 0 0 A := by
  refine Met.ofW (cc := cX9_marksOf) (maxL := 7) (ret := (some .int)) (by decide) rfl ?_
  intro p e s m args below meth c s₁ B hml hv
  obtain ⟨rfl, hP, hK, hN⟩ := hv
  have hx := B.exec
  have hb := B.bytes
  have hr := B.returns
  have hts := atoms_spec (ws := wsX9_marksOf) B.pre
  have hown : s.vm.findClass RX9 = some m.cls := findClass_of_methodNamed B.named
  have hlocks := B.notSynchronized
  have hS : va_S A s.heap s.heap [] := va_S.rf
  have f19 := hts (.fieldLink RX9 19 "LeastRights" "folk" "LLeastRights$Folk;") (by decide +kernel)
  have iX9 : ∀ w ∈ wsX90, w ∈ wsX9_marksOf := by decide +kernel
  have n93 := va_Nw.use (A := ([.ref (ad 0), .int a1] : List Value).toArray) rfl (hN.1 ("LeastRights", 93, "LeastRights$Folk", "size", "I") (by decide +kernel))
  have iX5 : ∀ w ∈ wsX50, w ∈ wsX9_marksOf := by decide +kernel
  have f83 := hts (.fieldLink RX9 83 "LeastRights" "exceptionsTold" "I") (by decide +kernel)
  have L40 : ∀ (u1 : Int32) (σ : St) (K111 : Int32 → Int32 → Prop) (_ : ∀ (v2 : Int32) (v3 : Int32) (H : Heap) (locs : List Loc) (ls : Array Slot), K111 v2 v3 → va_P D vwCl (xw ad cI cJ cZ σ) H → va_S A s.heap H locs → lv_has ls 7 [(0, .ref (ad 0)), (1, .int u1), (2, .int v2), (3, .int v3)] → W p l e (headSpec wsX9_marksOf ({ frames := 2, cells := 0, slots := 0, locals := 47 } : Room)).room s m ([.ref (ad 0), .int a1] : List Value).toArray below meth c H locs 0 0 (MQ below (va_Qi post (wd_B D (xw ad cI cJ cZ)) A) ([.ref (ad 0), .int a1] : List Value).toArray s 0 0 A) (F0 m 111 ls [])) (n : Nat) (v2 : Int32) (v3 : Int32) (v4 : Int32) (H : Heap) (locs : List Loc) (ls : Array Slot), lpX9_marksOf_40 u1 σ K111 n v2 v3 v4 → va_P D vwCl (xw ad cI cJ cZ σ) H → va_S A s.heap H locs → lv_has ls 7 [(0, .ref (ad 0)), (1, .int u1), (2, .int v2), (3, .int v3), (4, .int v4)] → W p l e (headSpec wsX9_marksOf ({ frames := 2, cells := 0, slots := 0, locals := 47 } : Room)).room s m ([.ref (ad 0), .int a1] : List Value).toArray below meth c H locs 0 0 (MQ below (va_Qi post (wd_B D (xw ad cI cJ cZ)) A) ([.ref (ad 0), .int a1] : List Value).toArray s 0 0 A) (F0 m 40 ls []) := by
    intro u1 σ K111 hK111 n
    induction n with
    | zero => intro v2 v3 v4 H locs ls hw; exact hw.elim
    | succ n ih =>
      intro v2 v3 v4 H locs ls hw hP hS hl
      rw [lpX9_marksOf_40] at hw
      refine lv_iload hx hb dX9_marksOf_40 (lv_at hl 4 rfl) ?_
      refine lv_sipush (v := 256) hx hb dX9_marksOf_42 (by decide) ?_
      refine lv_icmp_ge (tgt := 111) hx hb dX9_marksOf_45 (by decide) (fun c9 => ?_) (fun c9 => ?_)
      · have hw := hw.1 c9
        exact hK111 _ _ _ _ _ hw hP hS (lv_sub hl [0, 1, 2, 3] rfl)
      · have hw := hw.2 c9
        refine lv_aload_n hx hb dX9_marksOf_48 rfl (lv_at hl 0 rfl) ?_
        refine va_get hx hb hts iX9 hown hK hP 0 (xw_q0 ad cI cJ cZ σ) rfl 1 (by decide) f19 (fun _ h9 => h9) rfl dX9_marksOf_49 ?_
        refine lv_iload_n hx hb dX9_marksOf_52 rfl (lv_at hl 1 rfl) ?_
        refine lv_iload hx hb dX9_marksOf_53 (lv_at hl 4 rfl) ?_
        refine wd_cVi ⟨hx, hb, hml, hown, hts⟩ (mtX5_mistold l D ad cI cJ cZ A hD σ u1 v4 _ hw) (cwV 2 hts gX9_marksOf_X5_mistold rfl rfl rfl (by decide +kernel) ⟨(Nat.le_of_ble_eq_true rfl), (Nat.le_of_ble_eq_true rfl)⟩) (va_recv hK hP (ci := 5) (q0 := 2) rfl (xw_q2 ad cI cJ cZ σ)) hK hN hP hS rfl hl.1 rfl (Nat.le_of_ble_eq_true rfl) dX9_marksOf_55 ⟨Nat.zero_le _, Nat.zero_le _⟩ (fun r4 u9 H locs hq hP hS => ?_)
        obtain ⟨hw, hu⟩ := hq
        rw [hu] at hP
        refine wd_cSi ⟨hx, hb, hml, hown, hts⟩ (mtJ6_bitCount_0f7a4 l D ad cI cJ cZ A hD σ r4 _ hw) (va_cwS 1 hts gX9_marksOf_J6_bitCount_0f7a4 rfl rfl rfl (by decide +kernel) ⟨(Nat.le_of_ble_eq_true rfl), (Nat.le_of_ble_eq_true rfl)⟩) hK hN hP hS rfl hl.1 rfl (Nat.le_of_ble_eq_true rfl) dX9_marksOf_58 ⟨Nat.zero_le _, Nat.zero_le _⟩ (fun r5 u9 H locs hq hP hS => ?_)
        obtain ⟨hw, hu⟩ := hq
        rw [hu] at hP
        refine lv_istore (lv' := [(5, .int r5), (0, .ref (ad 0)), (1, .int u1), (2, .int v2), (3, .int v3), (4, .int v4)]) hx hb dX9_marksOf_61 hl (by decide) rfl (fun ls hl => ?_)
        refine lv_iload hx hb dX9_marksOf_63 (lv_at hl 5 rfl) ?_
        refine wd_cSi ⟨hx, hb, hml, hown, hts⟩ (mtJ6_bitCount_0f7a4 l D ad cI cJ cZ A hD σ v4 _ hw) (va_cwS 1 hts gX9_marksOf_J6_bitCount_0f7a4 rfl rfl rfl (by decide +kernel) ⟨(Nat.le_of_ble_eq_true rfl), (Nat.le_of_ble_eq_true rfl)⟩) hK hN hP hS rfl hl.1 rfl (Nat.le_of_ble_eq_true rfl) dX9_marksOf_65 ⟨Nat.zero_le _, Nat.zero_le _⟩ (fun r6 u9 H locs hq hP hS => ?_)
        obtain ⟨hw, hu⟩ := hq
        rw [hu] at hP
        refine lv_iload_n hx hb dX9_marksOf_68 rfl (lv_at hl 3 rfl) ?_
        refine wd_cSi ⟨hx, hb, hml, hown, hts⟩ (mtJ6_bitCount_0f7a4 l D ad cI cJ cZ A hD σ v2 _ hw) (va_cwS 1 hts gX9_marksOf_J6_bitCount_0f7a4 rfl rfl rfl (by decide +kernel) ⟨(Nat.le_of_ble_eq_true rfl), (Nat.le_of_ble_eq_true rfl)⟩) hK hN hP hS rfl hl.1 rfl (Nat.le_of_ble_eq_true rfl) dX9_marksOf_69 ⟨Nat.zero_le _, Nat.zero_le _⟩ (fun r7 u9 H locs hq hP hS => ?_)
        obtain ⟨hw, hu⟩ := hq
        rw [hu] at hP
        refine lv_icmp_ge (tgt := 79) hx hb dX9_marksOf_72 (by decide) (fun c9 => ?_) (fun c9 => ?_)
        · have hw := hw.1 c9
          refine lv_iconst (v := 0) hx hb dX9_marksOf_79 (by decide) ?_
          refine lv_istore (lv' := [(6, .int (0 : Int32)), (5, .int r5), (0, .ref (ad 0)), (1, .int u1), (2, .int v2), (3, .int v3), (4, .int v4)]) hx hb dX9_marksOf_80 hl (by decide) rfl (fun ls hl => ?_)
          refine lv_iload hx hb dX9_marksOf_82 (lv_at hl 1 rfl) ?_
          refine lv_iload_n hx hb dX9_marksOf_84 rfl (lv_at hl 5 rfl) ?_
          refine lv_icmp_lt (tgt := 99) hx hb dX9_marksOf_85 (by decide) (fun c9 => ?_) (fun c9 => ?_)
          · have hw := hw.1 c9
            refine lv_iload hx hb dX9_marksOf_99 (lv_at hl 6 rfl) ?_
            refine lv_istore_n (lv' := [(2, .int v4), (6, .int (0 : Int32)), (5, .int r5), (0, .ref (ad 0)), (1, .int u1), (3, .int v3), (4, .int v4)]) hx hb dX9_marksOf_101 rfl hl (by decide) rfl (fun ls hl => ?_)
            refine lv_iload hx hb dX9_marksOf_102 (lv_at hl 2 rfl) ?_
            refine lv_istore_n (lv' := [(3, .int r5), (2, .int v4), (6, .int (0 : Int32)), (5, .int r5), (0, .ref (ad 0)), (1, .int u1), (4, .int v4)]) hx hb dX9_marksOf_104 rfl hl (by decide) rfl (fun ls hl => ?_)
            obtain ⟨x8, ex8⟩ : ∃ z : Int32, z = v4 + (1 : Int32) := ⟨_, rfl⟩
            refine lv_iinc (v := x8) (lv' := [(4, .int x8), (3, .int r5), (2, .int v4), (6, .int (0 : Int32)), (5, .int r5), (0, .ref (ad 0)), (1, .int u1)]) hx hb dX9_marksOf_105 hl (k := 6) rfl (by rw [ex8]; rfl) (by decide) rfl (fun ls hl => ?_)
            have hw := hw x8 ex8
            refine lv_goto (tgt := 40) hx hb dX9_marksOf_108 (by decide) ?_
            exact ih _ _ _ _ _ _ hw hP hS (lv_sub hl [5, 6, 2, 1, 0] rfl)
          · have hw := hw.2 c9
            refine lv_iload hx hb dX9_marksOf_88 (lv_at hl 1 rfl) ?_
            refine lv_iload_n hx hb dX9_marksOf_90 rfl (lv_at hl 5 rfl) ?_
            refine lv_icmp_ne (tgt := 105) hx hb dX9_marksOf_91 (by decide) (fun c9 => ?_) (fun c9 => ?_)
            · have hw := hw.1 c9
              obtain ⟨x9, ex9⟩ : ∃ z : Int32, z = v4 + (1 : Int32) := ⟨_, rfl⟩
              refine lv_iinc (v := x9) (lv' := [(4, .int x9), (6, .int (0 : Int32)), (5, .int r5), (0, .ref (ad 0)), (1, .int u1), (2, .int v2), (3, .int v3)]) hx hb dX9_marksOf_105 hl (k := 6) rfl (by rw [ex9]; rfl) (by decide) rfl (fun ls hl => ?_)
              have hw := hw x9 ex9
              refine lv_goto (tgt := 40) hx hb dX9_marksOf_108 (by decide) ?_
              exact ih _ _ _ _ _ _ hw hP hS (lv_sub hl [3, 4, 5, 6, 0] rfl)
            · have hw := hw.2 c9
              refine lv_iload hx hb dX9_marksOf_94 (lv_at hl 0 rfl) ?_
              refine lv_if_eq (tgt := 105) hx hb dX9_marksOf_96 (by decide) (fun c9 => ?_) (fun c9 => ?_)
              · have hw := hw.1 c9
                obtain ⟨x10, ex10⟩ : ∃ z : Int32, z = v4 + (1 : Int32) := ⟨_, rfl⟩
                refine lv_iinc (v := x10) (lv' := [(4, .int x10), (6, .int (0 : Int32)), (5, .int r5), (0, .ref (ad 0)), (1, .int u1), (2, .int v2), (3, .int v3)]) hx hb dX9_marksOf_105 hl (k := 6) rfl (by rw [ex10]; rfl) (by decide) rfl (fun ls hl => ?_)
                have hw := hw x10 ex10
                refine lv_goto (tgt := 40) hx hb dX9_marksOf_108 (by decide) ?_
                exact ih _ _ _ _ _ _ hw hP hS (lv_sub hl [3, 4, 5, 6, 0] rfl)
              · have hw := hw.2 c9
                refine lv_iload hx hb dX9_marksOf_99 (lv_at hl 6 rfl) ?_
                refine lv_istore_n (lv' := [(2, .int v4), (6, .int (0 : Int32)), (5, .int r5), (0, .ref (ad 0)), (1, .int u1), (3, .int v3), (4, .int v4)]) hx hb dX9_marksOf_101 rfl hl (by decide) rfl (fun ls hl => ?_)
                refine lv_iload hx hb dX9_marksOf_102 (lv_at hl 2 rfl) ?_
                refine lv_istore_n (lv' := [(3, .int r5), (2, .int v4), (6, .int (0 : Int32)), (5, .int r5), (0, .ref (ad 0)), (1, .int u1), (4, .int v4)]) hx hb dX9_marksOf_104 rfl hl (by decide) rfl (fun ls hl => ?_)
                obtain ⟨x11, ex11⟩ : ∃ z : Int32, z = v4 + (1 : Int32) := ⟨_, rfl⟩
                refine lv_iinc (v := x11) (lv' := [(4, .int x11), (3, .int r5), (2, .int v4), (6, .int (0 : Int32)), (5, .int r5), (0, .ref (ad 0)), (1, .int u1)]) hx hb dX9_marksOf_105 hl (k := 6) rfl (by rw [ex11]; rfl) (by decide) rfl (fun ls hl => ?_)
                have hw := hw x11 ex11
                refine lv_goto (tgt := 40) hx hb dX9_marksOf_108 (by decide) ?_
                exact ih _ _ _ _ _ _ hw hP hS (lv_sub hl [5, 6, 2, 1, 0] rfl)
        · have hw := hw.2 c9
          refine lv_iconst (v := 1) hx hb dX9_marksOf_75 (by decide) ?_
          refine lv_goto (tgt := 80) hx hb dX9_marksOf_76 (by decide) ?_
          refine lv_istore (lv' := [(6, .int (1 : Int32)), (5, .int r5), (0, .ref (ad 0)), (1, .int u1), (2, .int v2), (3, .int v3), (4, .int v4)]) hx hb dX9_marksOf_80 hl (by decide) rfl (fun ls hl => ?_)
          refine lv_iload hx hb dX9_marksOf_82 (lv_at hl 1 rfl) ?_
          refine lv_iload_n hx hb dX9_marksOf_84 rfl (lv_at hl 5 rfl) ?_
          refine lv_icmp_lt (tgt := 99) hx hb dX9_marksOf_85 (by decide) (fun c9 => ?_) (fun c9 => ?_)
          · have hw := hw.1 c9
            refine lv_iload hx hb dX9_marksOf_99 (lv_at hl 6 rfl) ?_
            refine lv_istore_n (lv' := [(2, .int v4), (6, .int (1 : Int32)), (5, .int r5), (0, .ref (ad 0)), (1, .int u1), (3, .int v3), (4, .int v4)]) hx hb dX9_marksOf_101 rfl hl (by decide) rfl (fun ls hl => ?_)
            refine lv_iload hx hb dX9_marksOf_102 (lv_at hl 2 rfl) ?_
            refine lv_istore_n (lv' := [(3, .int r5), (2, .int v4), (6, .int (1 : Int32)), (5, .int r5), (0, .ref (ad 0)), (1, .int u1), (4, .int v4)]) hx hb dX9_marksOf_104 rfl hl (by decide) rfl (fun ls hl => ?_)
            obtain ⟨x12, ex12⟩ : ∃ z : Int32, z = v4 + (1 : Int32) := ⟨_, rfl⟩
            refine lv_iinc (v := x12) (lv' := [(4, .int x12), (3, .int r5), (2, .int v4), (6, .int (1 : Int32)), (5, .int r5), (0, .ref (ad 0)), (1, .int u1)]) hx hb dX9_marksOf_105 hl (k := 6) rfl (by rw [ex12]; rfl) (by decide) rfl (fun ls hl => ?_)
            have hw := hw x12 ex12
            refine lv_goto (tgt := 40) hx hb dX9_marksOf_108 (by decide) ?_
            exact ih _ _ _ _ _ _ hw hP hS (lv_sub hl [5, 6, 2, 1, 0] rfl)
          · have hw := hw.2 c9
            refine lv_iload hx hb dX9_marksOf_88 (lv_at hl 1 rfl) ?_
            refine lv_iload_n hx hb dX9_marksOf_90 rfl (lv_at hl 5 rfl) ?_
            refine lv_icmp_ne (tgt := 105) hx hb dX9_marksOf_91 (by decide) (fun c9 => ?_) (fun c9 => ?_)
            · have hw := hw.1 c9
              obtain ⟨x13, ex13⟩ : ∃ z : Int32, z = v4 + (1 : Int32) := ⟨_, rfl⟩
              refine lv_iinc (v := x13) (lv' := [(4, .int x13), (6, .int (1 : Int32)), (5, .int r5), (0, .ref (ad 0)), (1, .int u1), (2, .int v2), (3, .int v3)]) hx hb dX9_marksOf_105 hl (k := 6) rfl (by rw [ex13]; rfl) (by decide) rfl (fun ls hl => ?_)
              have hw := hw x13 ex13
              refine lv_goto (tgt := 40) hx hb dX9_marksOf_108 (by decide) ?_
              exact ih _ _ _ _ _ _ hw hP hS (lv_sub hl [3, 4, 5, 6, 0] rfl)
            · have hw := hw.2 c9
              refine lv_iload hx hb dX9_marksOf_94 (lv_at hl 0 rfl) ?_
              refine lv_if_eq (tgt := 105) hx hb dX9_marksOf_96 (by decide) (fun c9 => ?_) (fun c9 => ?_)
              · have hw := hw.1 c9
                obtain ⟨x14, ex14⟩ : ∃ z : Int32, z = v4 + (1 : Int32) := ⟨_, rfl⟩
                refine lv_iinc (v := x14) (lv' := [(4, .int x14), (6, .int (1 : Int32)), (5, .int r5), (0, .ref (ad 0)), (1, .int u1), (2, .int v2), (3, .int v3)]) hx hb dX9_marksOf_105 hl (k := 6) rfl (by rw [ex14]; rfl) (by decide) rfl (fun ls hl => ?_)
                have hw := hw x14 ex14
                refine lv_goto (tgt := 40) hx hb dX9_marksOf_108 (by decide) ?_
                exact ih _ _ _ _ _ _ hw hP hS (lv_sub hl [3, 4, 5, 6, 0] rfl)
              · have hw := hw.2 c9
                refine lv_iload hx hb dX9_marksOf_99 (lv_at hl 6 rfl) ?_
                refine lv_istore_n (lv' := [(2, .int v4), (6, .int (1 : Int32)), (5, .int r5), (0, .ref (ad 0)), (1, .int u1), (3, .int v3), (4, .int v4)]) hx hb dX9_marksOf_101 rfl hl (by decide) rfl (fun ls hl => ?_)
                refine lv_iload hx hb dX9_marksOf_102 (lv_at hl 2 rfl) ?_
                refine lv_istore_n (lv' := [(3, .int r5), (2, .int v4), (6, .int (1 : Int32)), (5, .int r5), (0, .ref (ad 0)), (1, .int u1), (4, .int v4)]) hx hb dX9_marksOf_104 rfl hl (by decide) rfl (fun ls hl => ?_)
                obtain ⟨x15, ex15⟩ : ∃ z : Int32, z = v4 + (1 : Int32) := ⟨_, rfl⟩
                refine lv_iinc (v := x15) (lv' := [(4, .int x15), (3, .int r5), (2, .int v4), (6, .int (1 : Int32)), (5, .int r5), (0, .ref (ad 0)), (1, .int u1)]) hx hb dX9_marksOf_105 hl (k := 6) rfl (by rw [ex15]; rfl) (by decide) rfl (fun ls hl => ?_)
                have hw := hw x15 ex15
                refine lv_goto (tgt := 40) hx hb dX9_marksOf_108 (by decide) ?_
                exact ih _ _ _ _ _ _ hw hP hS (lv_sub hl [5, 6, 2, 1, 0] rfl)
  have hl := lv_entry ([.ref (ad 0), .int a1]) (n := 7) (Nat.le_of_ble_eq_true rfl)
  rw [lg_entry_eq]
  generalize (lg_sl ([.ref (ad 0), .int a1]) ++ List.replicate (7 - (lg_sl ([.ref (ad 0), .int a1])).length) Slot.unset).toArray = ls at hl ⊢
  have hl : lv_has ls 7 [(0, .ref (ad 0)), (1, .int a1)] := hl
  unfold wX9_marksOf at hw
  refine lv_iload_n hx hb dX9_marksOf_0 rfl (lv_at hl 1 rfl) ?_
  refine wd_cSi ⟨hx, hb, hml, hown, hts⟩ (mtX9_noRight l D ad cI cJ cZ A hD σ0 a1 _ hw) (va_cwS 1 hts gX9_marksOf_X9_noRight rfl rfl rfl (by decide +kernel) ⟨(Nat.le_of_ble_eq_true rfl), (Nat.le_of_ble_eq_true rfl)⟩) hK hN hP hS rfl hl.1 rfl (Nat.le_of_ble_eq_true rfl) dX9_marksOf_1 ⟨Nat.zero_le _, Nat.zero_le _⟩ (fun r1 u9 H locs hq hP hS => ?_)
  obtain ⟨hw, hu⟩ := hq
  rw [hu] at hP
  refine lv_if_eq (tgt := 9) hx hb dX9_marksOf_4 (by decide) (fun c9 => ?_) (fun c9 => ?_)
  · have hw := hw.1 c9
    refine lv_aload_n hx hb dX9_marksOf_9 rfl (lv_at hl 0 rfl) ?_
    refine va_get hx hb hts iX9 hown hK hP 0 (xw_q0 ad cI cJ cZ σ0) rfl 1 (by decide) f19 (fun _ h9 => h9) rfl dX9_marksOf_10 ?_
    refine va_getN hx hb hts iX5 hown hK hP 2 (xw_q2 ad cI cJ cZ σ0) rfl 0 (by decide) n93 (fun _ h9 => h9) rfl dX9_marksOf_13 ?_
    refine lv_if_ne (tgt := 22) hx hb dX9_marksOf_16 (by decide) (fun c9 => ?_) (fun c9 => ?_)
    · have hw := hw.1 c9
      refine lv_iconst (v := 0) hx hb dX9_marksOf_22 (by decide) ?_
      refine lv_istore_n (lv' := [(2, .int (0 : Int32)), (0, .ref (ad 0)), (1, .int a1)]) hx hb dX9_marksOf_23 rfl hl (by decide) rfl (fun ls hl => ?_)
      refine lv_aload_n hx hb dX9_marksOf_24 rfl (lv_at hl 1 rfl) ?_
      refine va_get hx hb hts iX9 hown hK hP 0 (xw_q0 ad cI cJ cZ σ0) rfl 1 (by decide) f19 (fun _ h9 => h9) rfl dX9_marksOf_25 ?_
      refine lv_iload_n hx hb dX9_marksOf_28 rfl (lv_at hl 2 rfl) ?_
      refine lv_iload_n hx hb dX9_marksOf_29 rfl (lv_at hl 0 rfl) ?_
      refine wd_cVi ⟨hx, hb, hml, hown, hts⟩ (mtX5_mistold l D ad cI cJ cZ A hD σ0 a1 (0 : Int32) _ hw) (cwV 2 hts gX9_marksOf_X5_mistold rfl rfl rfl (by decide +kernel) ⟨(Nat.le_of_ble_eq_true rfl), (Nat.le_of_ble_eq_true rfl)⟩) (va_recv hK hP (ci := 5) (q0 := 2) rfl (xw_q2 ad cI cJ cZ σ0)) hK hN hP hS rfl hl.1 rfl (Nat.le_of_ble_eq_true rfl) dX9_marksOf_30 ⟨Nat.zero_le _, Nat.zero_le _⟩ (fun r2 u9 H locs hq hP hS => ?_)
      obtain ⟨hw, hu⟩ := hq
      rw [hu] at hP
      refine wd_cSi ⟨hx, hb, hml, hown, hts⟩ (mtJ6_bitCount_0f7a4 l D ad cI cJ cZ A hD σ0 r2 _ hw) (va_cwS 1 hts gX9_marksOf_J6_bitCount_0f7a4 rfl rfl rfl (by decide +kernel) ⟨(Nat.le_of_ble_eq_true rfl), (Nat.le_of_ble_eq_true rfl)⟩) hK hN hP hS rfl hl.1 rfl (Nat.le_of_ble_eq_true rfl) dX9_marksOf_33 ⟨Nat.zero_le _, Nat.zero_le _⟩ (fun r3 u9 H locs hq hP hS => ?_)
      obtain ⟨hw, hu⟩ := hq
      rw [hu] at hP
      refine lv_istore_n (lv' := [(3, .int r3), (2, .int (0 : Int32)), (0, .ref (ad 0)), (1, .int a1)]) hx hb dX9_marksOf_36 rfl hl (by decide) rfl (fun ls hl => ?_)
      refine lv_iconst (v := 1) hx hb dX9_marksOf_37 (by decide) ?_
      refine lv_istore (lv' := [(4, .int (1 : Int32)), (3, .int r3), (2, .int (0 : Int32)), (0, .ref (ad 0)), (1, .int a1)]) hx hb dX9_marksOf_38 hl (by decide) rfl (fun ls hl => ?_)
      obtain ⟨n9, hw⟩ := hw
      refine L40 a1 σ0 _ ?_ n9 (0 : Int32) r3 (1 : Int32) _ _ _ hw hP hS (lv_sub hl [3, 4, 2, 1, 0] rfl)
      · intro y16 y17 H locs ls hw hP hS hl
        refine lv_aload_n hx hb dX9_marksOf_111 rfl (lv_at hl 0 rfl) ?_
        refine lv_iload_n hx hb dX9_marksOf_112 rfl (lv_at hl 3 rfl) ?_
        refine wd_put 1 0 12 (ty := .int) tyX9 hx hb hts iX9 tyX9_ok nmX9 hown hK hP hD hS (xw_q0 ad cI cJ cZ σ0) rfl (by decide) f83 (fun _ h9 => h9) rfl (by decide +kernel) rfl rfl (Nat.le_of_ble_eq_true rfl) (xw_s1 ad cI cJ cZ σ0) dX9_marksOf_113 (fun H locs σ18 eσ18 hP hS => ?_)
        have hw := hw σ18 eσ18
        refine lv_iload_n hx hb dX9_marksOf_116 rfl (lv_at hl 2 rfl) ?_
        exact wd_iret hx hb hr hlocks hw hP hS dX9_marksOf_117
    · have hw := hw.2 c9
      refine lv_bipush (v := -4) hx hb dX9_marksOf_19 (by decide) ?_
      exact wd_iret hx hb hr hlocks hw hP hS dX9_marksOf_21
  · have hw := hw.2 c9
    refine lv_iconst (v := -1) hx hb dX9_marksOf_7 (by decide) ?_
    exact wd_iret hx hb hr hlocks hw hP hS dX9_marksOf_8
