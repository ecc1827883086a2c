/-! X3_allows X4_answer X5_join X5_has X5_remark X5_give X5_leave X5_request X5_mistold X6_begin X6_openPlace X6_nextOf X6_cover -/
def wX3_allows (σ0 : St) (a1 : Int32) (a2 : Int32) (post : Int32 → Prop) : Prop := ((σ0.1 13) ≤ a1 → (post (0 : Int32))) ∧ (¬ (σ0.1 13) ≤ a1 → (vp_in a1 10 ∧ ((((σ0.2.1 18 a1.toNatClampNeg) &&& ((1 : Int32) <<< (a2 &&& 31))) = 0 → (post (0 : Int32))) ∧ (¬ ((σ0.2.1 18 a1.toNatClampNeg) &&& ((1 : Int32) <<< (a2 &&& 31))) = 0 → (post (1 : Int32))))))
set_option maxHeartbeats 4000000 in
set_option maxRecDepth 100000 in
theorem mtX3_allows (l : Launch) (D : va_G) (ad : Nat → Nat) (cI cJ cZ : ClassId) (A : Nat → Prop) (hD : ∀ σ : St, va_D A (xw ad cI cJ cZ σ)) (σ0 : St) (a1 : Int32) (a2 : Int32) (post : Int32 → Prop) (hw : wX3_allows σ0 a1 a2 post) : Met l yX3_allows wsX3_allows ({ frames := 0, cells := 0, slots := 0, locals := 0 } : Room) (va_Pc [.ref (ad 7), .int a1, .int a2] (wd_pre D (xw ad cI cJ cZ) (wd_tys cI cJ cZ) σ0)) (va_Qi (fun (r : Int32) (u : St) => post r ∧ u = σ0) (wd_B D (xw ad cI cJ cZ)) A) 0 0 A := by
  refine Met.ofW (cc := cX3_allows) (maxL := 3) (ret := (some .boolean)) (by decide) rfl ?_
  intro p e s m args below meth c s₁ B hml hv
  obtain ⟨rfl, hP, hK, hN⟩ := hv
  have hx := B.exec
  have hb := B.bytes
  have hr := B.returns
  have hts := atoms_spec (ws := wsX3_allows) B.pre
  have hown : s.vm.findClass RX3 = some m.cls := findClass_of_methodNamed B.named
  have hlocks := B.notSynchronized
  have hS : va_S A s.heap s.heap [] := va_S.rf
  have f15 := hts (.fieldLink RX3 15 "LeastRights$Draft" "size" "I") (by decide +kernel)
  have iX3 : ∀ w ∈ wsX30, w ∈ wsX3_allows := by decide +kernel
  have f19 := hts (.fieldLink RX3 19 "LeastRights$Draft" "rights" "[I") (by decide +kernel)
  have hl := lv_entry ([.ref (ad 7), .int a1, .int a2]) (n := 3) (Nat.le_of_ble_eq_true rfl)
  rw [lg_entry_eq]
  generalize (lg_sl ([.ref (ad 7), .int a1, .int a2]) ++ List.replicate (3 - (lg_sl ([.ref (ad 7), .int a1, .int a2])).length) Slot.unset).toArray = ls at hl ⊢
  have hl : lv_has ls 3 [(0, .ref (ad 7)), (1, .int a1), (2, .int a2)] := hl
  unfold wX3_allows at hw
  refine lv_iload_n hx hb dX3_allows_0 rfl (lv_at hl 1 rfl) ?_
  refine lv_aload_n hx hb dX3_allows_1 rfl (lv_at hl 0 rfl) ?_
  refine va_get hx hb hts iX3 hown hK hP 7 (xw_q7 ad cI cJ cZ σ0) rfl 1 (by decide) f15 (fun _ h9 => h9) rfl dX3_allows_2 ?_
  refine lv_icmp_ge (tgt := 25) hx hb dX3_allows_5 (by decide) (fun c9 => ?_) (fun c9 => ?_)
  · have hw := hw.1 c9
    refine lv_iconst (v := 0) hx hb dX3_allows_25 (by decide) ?_
    exact wd_zret hx hb hr hlocks (by decide) ⟨hw, rfl⟩ hP hS dX3_allows_26
  · have hw := hw.2 c9
    refine lv_aload_n hx hb dX3_allows_8 rfl (lv_at hl 0 rfl) ?_
    refine va_get hx hb hts iX3 hown hK hP 7 (xw_q7 ad cI cJ cZ σ0) rfl 2 (by decide) f19 (fun _ h9 => h9) rfl dX3_allows_9 ?_
    refine lv_iload_n hx hb dX3_allows_12 rfl (lv_at hl 1 rfl) ?_
    obtain ⟨h9, hw⟩ := hw
    refine va_iald hx hb hK hP 28 0 (xw_q28 ad cI cJ cZ σ0) rfl h9 dX3_allows_13 ?_
    refine lv_iconst (v := 1) hx hb dX3_allows_14 (by decide) ?_
    refine lv_iload_n hx hb dX3_allows_15 rfl (lv_at hl 2 rfl) ?_
    refine lv_ishl hx hb dX3_allows_16 ?_
    refine lv_iand hx hb dX3_allows_17 ?_
    refine lv_if_eq (tgt := 25) hx hb dX3_allows_18 (by decide) (fun c9 => ?_) (fun c9 => ?_)
    · have hw := hw.1 c9
      refine lv_iconst (v := 0) hx hb dX3_allows_25 (by decide) ?_
      exact wd_zret hx hb hr hlocks (by decide) ⟨hw, rfl⟩ hP hS dX3_allows_26
    · have hw := hw.2 c9
      refine lv_iconst (v := 1) hx hb dX3_allows_21 (by decide) ?_
      refine lv_goto (tgt := 26) hx hb dX3_allows_22 (by decide) ?_
      exact wd_zret hx hb hr hlocks (by decide) ⟨hw, rfl⟩ hP hS dX3_allows_26
def wX4_answer (σ0 : St) (a1 : Int32) (post : Int32 → St → Prop) : Prop := ∀ σ1 : St, σ1 = st_S σ0 14 a1 → (vp_in a1 5 ∧ (vp_in a1 5 ∧ (∀ σ2 : St, σ2 = st_A σ1 21 a1.toNatClampNeg ((σ1.2.1 21 a1.toNatClampNeg) + (1 : Int32)) → (post (-3 : Int32) σ2))))
set_option maxHeartbeats 4000000 in
set_option maxRecDepth 100000 in
theorem mtX4_answer (l : Launch) (D : va_G) (ad : Nat → Nat) (cI cJ cZ : ClassId) (A : Nat → Prop) (hD : ∀ σ : St, va_D A (xw ad cI cJ cZ σ)) (σ0 : St) (a1 : Int32) (post : Int32 → St → Prop) (hw : wX4_answer σ0 a1 post) : Met l yX4_answer wsX4_answer ({ frames := 0, cells := 0, slots := 0, locals := 0 } : Room) (va_Pc [.ref (ad 9), .int a1] (wd_pre D (xw ad cI cJ cZ) (wd_tys cI cJ cZ) σ0)) (va_Qi post (wd_B D (xw ad cI cJ cZ)) A) 0 0 A := by
  refine Met.ofW (cc := cX4_answer) (maxL := 2) (ret := (some .int)) (by decide) rfl ?_
  intro p e s m args below meth c s₁ B hml hv
  obtain ⟨rfl, hP, hK, hN⟩ := hv
  have hx := B.exec
  have hb := B.bytes
  have hr := B.returns
  have hts := atoms_spec (ws := wsX4_answer) B.pre
  have hown : s.vm.findClass RX4 = some m.cls := findClass_of_methodNamed B.named
  have hlocks := B.notSynchronized
  have hS : va_S A s.heap s.heap [] := va_S.rf
  have f9 := hts (.fieldLink RX4 9 "LeastRights$Findings" "latest" "I") (by decide +kernel)
  have iX4 : ∀ w ∈ wsX40, w ∈ wsX4_answer := by decide +kernel
  have f15 := hts (.fieldLink RX4 15 "LeastRights$Findings" "times" "[I") (by decide +kernel)
  have hl := lv_entry ([.ref (ad 9), .int a1]) (n := 2) (Nat.le_of_ble_eq_true rfl)
  rw [lg_entry_eq]
  generalize (lg_sl ([.ref (ad 9), .int a1]) ++ List.replicate (2 - (lg_sl ([.ref (ad 9), .int a1])).length) Slot.unset).toArray = ls at hl ⊢
  have hl : lv_has ls 2 [(0, .ref (ad 9)), (1, .int a1)] := hl
  unfold wX4_answer at hw
  refine lv_aload_n hx hb dX4_answer_0 rfl (lv_at hl 0 rfl) ?_
  refine lv_iload_n hx hb dX4_answer_1 rfl (lv_at hl 1 rfl) ?_
  refine wd_put 14 9 0 (ty := .int) tyX4 hx hb hts iX4 tyX4_ok nmX4 hown hK hP hD hS (xw_q9 ad cI cJ cZ σ0) rfl (by decide) f9 (fun _ h9 => h9) rfl (by decide +kernel) rfl rfl (Nat.le_of_ble_eq_true rfl) (xw_s14 ad cI cJ cZ σ0) dX4_answer_2 (fun H locs σ1 eσ1 hP hS => ?_)
  have hw := hw σ1 eσ1
  refine lv_aload_n hx hb dX4_answer_5 rfl (lv_at hl 0 rfl) ?_
  refine va_get hx hb hts iX4 hown hK hP 9 (xw_q9 ad cI cJ cZ σ1) rfl 1 (by decide) f15 (fun _ h9 => h9) rfl dX4_answer_6 ?_
  refine lv_iload_n hx hb dX4_answer_9 rfl (lv_at hl 1 rfl) ?_
  refine lv_dup2_11 hx hb dX4_answer_10 rfl rfl ?_
  obtain ⟨h9, hw⟩ := hw
  refine va_iald hx hb hK hP 31 0 (xw_q31 ad cI cJ cZ σ1) rfl h9 dX4_answer_11 ?_
  refine lv_iconst (v := 1) hx hb dX4_answer_12 (by decide) ?_
  refine lv_iadd hx hb dX4_answer_13 ?_
  obtain ⟨h9, hw⟩ := hw
  refine wd_iast 21 31 hx hb hK hP hD hS (xw_q31 ad cI cJ cZ σ1) rfl (xw_a21 ad cI cJ cZ σ1) h9 dX4_answer_14 (fun H locs σ2 eσ2 hP hS => ?_)
  have hw := hw σ2 eσ2
  refine lv_bipush (v := -3) hx hb dX4_answer_15 (by decide) ?_
  exact wd_iret hx hb hr hlocks hw hP hS dX4_answer_17
def wX5_join (σ0 : St) (a1 : Int32) (a2 : Int32) (post : Int32 → St → Prop) : Prop := vp_in (σ0.1 6) 10 ∧ (∀ σ1 : St, σ1 = st_A σ0 2 (σ0.1 6).toNatClampNeg a1 → (vp_in (σ1.1 6) 10 ∧ (∀ σ2 : St, σ2 = st_A σ1 3 (σ1.1 6).toNatClampNeg a2 → (∀ σ3 : St, σ3 = st_S σ2 6 ((σ2.1 6) + (1 : Int32)) → (post ((σ3.1 6) - (1 : Int32)) σ3)))))
set_option maxHeartbeats 4000000 in
set_option maxRecDepth 100000 in
theorem mtX5_join (l : Launch) (D : va_G) (ad : Nat → Nat) (cI cJ cZ : ClassId) (A : Nat → Prop) (hD : ∀ σ : St, va_D A (xw ad cI cJ cZ σ)) (σ0 : St) (a1 : Int32) (a2 : Int32) (post : Int32 → St → Prop) (hw : wX5_join σ0 a1 a2 post) : Met l yX5_join wsX5_join ({ frames := 0, cells := 0, slots := 0, locals := 0 } : Room) (va_Pc [.ref (ad 2), .int a1, .int a2] (wd_pre D (xw ad cI cJ cZ) (wd_tys cI cJ cZ) σ0)) (va_Qi post (wd_B D (xw ad cI cJ cZ)) A) 0 0 A := by
  refine Met.ofW (cc := cX5_join) (maxL := 3) (ret := (some .int)) (by decide) rfl ?_
  intro p e s m args below meth c s₁ B hml hv
  obtain ⟨rfl, hP, hK, hN⟩ := hv
  have hx := B.exec
  have hb := B.bytes
  have hr := B.returns
  have hts := atoms_spec (ws := wsX5_join) B.pre
  have hown : s.vm.findClass RX5 = some m.cls := findClass_of_methodNamed B.named
  have hlocks := B.notSynchronized
  have hS : va_S A s.heap s.heap [] := va_S.rf
  have f15 := hts (.fieldLink RX5 15 "LeastRights$Folk" "marks" "[I") (by decide +kernel)
  have iX5 : ∀ w ∈ wsX50, w ∈ wsX5_join := by decide +kernel
  have f9 := hts (.fieldLink RX5 9 "LeastRights$Folk" "size" "I") (by decide +kernel)
  have f19 := hts (.fieldLink RX5 19 "LeastRights$Folk" "rights" "[I") (by decide +kernel)
  have hl := lv_entry ([.ref (ad 2), .int a1, .int a2]) (n := 3) (Nat.le_of_ble_eq_true rfl)
  rw [lg_entry_eq]
  generalize (lg_sl ([.ref (ad 2), .int a1, .int a2]) ++ List.replicate (3 - (lg_sl ([.ref (ad 2), .int a1, .int a2])).length) Slot.unset).toArray = ls at hl ⊢
  have hl : lv_has ls 3 [(0, .ref (ad 2)), (1, .int a1), (2, .int a2)] := hl
  unfold wX5_join at hw
  refine lv_aload_n hx hb dX5_join_0 rfl (lv_at hl 0 rfl) ?_
  refine va_get hx hb hts iX5 hown hK hP 2 (xw_q2 ad cI cJ cZ σ0) rfl 1 (by decide) f15 (fun _ h9 => h9) rfl dX5_join_1 ?_
  refine lv_aload_n hx hb dX5_join_4 rfl (lv_at hl 0 rfl) ?_
  refine va_get hx hb hts iX5 hown hK hP 2 (xw_q2 ad cI cJ cZ σ0) rfl 0 (by decide) f9 (fun _ h9 => h9) rfl dX5_join_5 ?_
  refine lv_iload_n hx hb dX5_join_8 rfl (lv_at hl 1 rfl) ?_
  obtain ⟨h9, hw⟩ := hw
  refine wd_iast 2 12 hx hb hK hP hD hS (xw_q12 ad cI cJ cZ σ0) rfl (xw_a2 ad cI cJ cZ σ0) h9 dX5_join_9 (fun H locs σ1 eσ1 hP hS => ?_)
  have hw := hw σ1 eσ1
  refine lv_aload_n hx hb dX5_join_10 rfl (lv_at hl 0 rfl) ?_
  refine va_get hx hb hts iX5 hown hK hP 2 (xw_q2 ad cI cJ cZ σ1) rfl 2 (by decide) f19 (fun _ h9 => h9) rfl dX5_join_11 ?_
  refine lv_aload_n hx hb dX5_join_14 rfl (lv_at hl 0 rfl) ?_
  refine va_get hx hb hts iX5 hown hK hP 2 (xw_q2 ad cI cJ cZ σ1) rfl 0 (by decide) f9 (fun _ h9 => h9) rfl dX5_join_15 ?_
  refine lv_iload_n hx hb dX5_join_18 rfl (lv_at hl 2 rfl) ?_
  obtain ⟨h9, hw⟩ := hw
  refine wd_iast 3 13 hx hb hK hP hD hS (xw_q13 ad cI cJ cZ σ1) rfl (xw_a3 ad cI cJ cZ σ1) h9 dX5_join_19 (fun H locs σ2 eσ2 hP hS => ?_)
  have hw := hw σ2 eσ2
  refine lv_aload_n hx hb dX5_join_20 rfl (lv_at hl 0 rfl) ?_
  refine lv_dup hx hb dX5_join_21 rfl ?_
  refine va_get hx hb hts iX5 hown hK hP 2 (xw_q2 ad cI cJ cZ σ2) rfl 0 (by decide) f9 (fun _ h9 => h9) rfl dX5_join_22 ?_
  refine lv_iconst (v := 1) hx hb dX5_join_25 (by decide) ?_
  refine lv_iadd hx hb dX5_join_26 ?_
  refine wd_put 6 2 0 (ty := .int) tyX5 hx hb hts iX5 tyX5_ok nmX5 hown hK hP hD hS (xw_q2 ad cI cJ cZ σ2) rfl (by decide) f9 (fun _ h9 => h9) rfl (by decide +kernel) rfl rfl (Nat.le_of_ble_eq_true rfl) (xw_s6 ad cI cJ cZ σ2) dX5_join_27 (fun H locs σ3 eσ3 hP hS => ?_)
  have hw := hw σ3 eσ3
  refine lv_aload_n hx hb dX5_join_30 rfl (lv_at hl 0 rfl) ?_
  refine va_get hx hb hts iX5 hown hK hP 2 (xw_q2 ad cI cJ cZ σ3) rfl 0 (by decide) f9 (fun _ h9 => h9) rfl dX5_join_31 ?_
  refine lv_iconst (v := 1) hx hb dX5_join_34 (by decide) ?_
  refine lv_isub hx hb dX5_join_35 ?_
  exact wd_iret hx hb hr hlocks hw hP hS dX5_join_36
def wX5_has (σ0 : St) (a1 : Int32) (a2 : Int32) (post : Int32 → Prop) : Prop := vp_in a1 10 ∧ ((((σ0.2.1 3 a1.toNatClampNeg) &&& ((1 : Int32) <<< (a2 &&& 31))) = 0 → (post (0 : Int32))) ∧ (¬ ((σ0.2.1 3 a1.toNatClampNeg) &&& ((1 : Int32) <<< (a2 &&& 31))) = 0 → (post (1 : Int32))))
set_option maxHeartbeats 4000000 in
set_option maxRecDepth 100000 in
theorem mtX5_has (l : Launch) (D : va_G) (ad : Nat → Nat) (cI cJ cZ : ClassId) (A : Nat → Prop) (hD : ∀ σ : St, va_D A (xw ad cI cJ cZ σ)) (σ0 : St) (a1 : Int32) (a2 : Int32) (post : Int32 → Prop) (hw : wX5_has σ0 a1 a2 post) : Met l yX5_has wsX5_has ({ frames := 0, cells := 0, slots := 0, locals := 0 } : Room) (va_Pc [.ref (ad 2), .int a1, .int a2] (wd_pre D (xw ad cI cJ cZ) (wd_tys cI cJ cZ) σ0)) (va_Qi (fun (r : Int32) (u : St) => post r ∧ u = σ0) (wd_B D (xw ad cI cJ cZ)) A) 0 0 A := by
  refine Met.ofW (cc := cX5_has) (maxL := 3) (ret := (some .boolean)) (by decide) rfl ?_
  intro p e s m args below meth c s₁ B hml hv
  obtain ⟨rfl, hP, hK, hN⟩ := hv
  have hx := B.exec
  have hb := B.bytes
  have hr := B.returns
  have hts := atoms_spec (ws := wsX5_has) B.pre
  have hown : s.vm.findClass RX5 = some m.cls := findClass_of_methodNamed B.named
  have hlocks := B.notSynchronized
  have hS : va_S A s.heap s.heap [] := va_S.rf
  have f19 := hts (.fieldLink RX5 19 "LeastRights$Folk" "rights" "[I") (by decide +kernel)
  have iX5 : ∀ w ∈ wsX50, w ∈ wsX5_has := by decide +kernel
  have hl := lv_entry ([.ref (ad 2), .int a1, .int a2]) (n := 3) (Nat.le_of_ble_eq_true rfl)
  rw [lg_entry_eq]
  generalize (lg_sl ([.ref (ad 2), .int a1, .int a2]) ++ List.replicate (3 - (lg_sl ([.ref (ad 2), .int a1, .int a2])).length) Slot.unset).toArray = ls at hl ⊢
  have hl : lv_has ls 3 [(0, .ref (ad 2)), (1, .int a1), (2, .int a2)] := hl
  unfold wX5_has at hw
  refine lv_aload_n hx hb dX5_has_0 rfl (lv_at hl 0 rfl) ?_
  refine va_get hx hb hts iX5 hown hK hP 2 (xw_q2 ad cI cJ cZ σ0) rfl 2 (by decide) f19 (fun _ h9 => h9) rfl dX5_has_1 ?_
  refine lv_iload_n hx hb dX5_has_4 rfl (lv_at hl 1 rfl) ?_
  obtain ⟨h9, hw⟩ := hw
  refine va_iald hx hb hK hP 13 0 (xw_q13 ad cI cJ cZ σ0) rfl h9 dX5_has_5 ?_
  refine lv_iconst (v := 1) hx hb dX5_has_6 (by decide) ?_
  refine lv_iload_n hx hb dX5_has_7 rfl (lv_at hl 2 rfl) ?_
  refine lv_ishl hx hb dX5_has_8 ?_
  refine lv_iand hx hb dX5_has_9 ?_
  refine lv_if_eq (tgt := 17) hx hb dX5_has_10 (by decide) (fun c9 => ?_) (fun c9 => ?_)
  · have hw := hw.1 c9
    refine lv_iconst (v := 0) hx hb dX5_has_17 (by decide) ?_
    exact wd_zret hx hb hr hlocks (by decide) ⟨hw, rfl⟩ hP hS dX5_has_18
  · have hw := hw.2 c9
    refine lv_iconst (v := 1) hx hb dX5_has_13 (by decide) ?_
    refine lv_goto (tgt := 18) hx hb dX5_has_14 (by decide) ?_
    exact wd_zret hx hb hr hlocks (by decide) ⟨hw, rfl⟩ hP hS dX5_has_18
def wX5_remark (σ0 : St) (a1 : Int32) (a2 : Int32) (post : Int32 → St → Prop) : Prop := vp_in a1 10 ∧ (∀ x1 : Int32, x1 = (σ0.2.1 2 a1.toNatClampNeg) → (vp_in a1 10 ∧ (∀ σ2 : St, σ2 = st_A σ0 2 a1.toNatClampNeg a2 → (post x1 σ2))))
set_option maxHeartbeats 4000000 in
set_option maxRecDepth 100000 in
theorem mtX5_remark (l : Launch) (D : va_G) (ad : Nat → Nat) (cI cJ cZ : ClassId) (A : Nat → Prop) (hD : ∀ σ : St, va_D A (xw ad cI cJ cZ σ)) (σ0 : St) (a1 : Int32) (a2 : Int32) (post : Int32 → St → Prop) (hw : wX5_remark σ0 a1 a2 post) : Met l yX5_remark wsX5_remark ({ frames := 0, cells := 0, slots := 0, locals := 0 } : Room) (va_Pc [.ref (ad 2), .int a1, .int a2] (wd_pre D (xw ad cI cJ cZ) (wd_tys cI cJ cZ) σ0)) (va_Qi post (wd_B D (xw ad cI cJ cZ)) A) 0 0 A := by
  refine Met.ofW (cc := cX5_remark) (maxL := 4) (ret := (some .int)) (by decide) rfl ?_
  intro p e s m args below meth c s₁ B hml hv
  obtain ⟨rfl, hP, hK, hN⟩ := hv
  have hx := B.exec
  have hb := B.bytes
  have hr := B.returns
  have hts := atoms_spec (ws := wsX5_remark) B.pre
  have hown : s.vm.findClass RX5 = some m.cls := findClass_of_methodNamed B.named
  have hlocks := B.notSynchronized
  have hS : va_S A s.heap s.heap [] := va_S.rf
  have f15 := hts (.fieldLink RX5 15 "LeastRights$Folk" "marks" "[I") (by decide +kernel)
  have iX5 : ∀ w ∈ wsX50, w ∈ wsX5_remark := by decide +kernel
  have hl := lv_entry ([.ref (ad 2), .int a1, .int a2]) (n := 4) (Nat.le_of_ble_eq_true rfl)
  rw [lg_entry_eq]
  generalize (lg_sl ([.ref (ad 2), .int a1, .int a2]) ++ List.replicate (4 - (lg_sl ([.ref (ad 2), .int a1, .int a2])).length) Slot.unset).toArray = ls at hl ⊢
  have hl : lv_has ls 4 [(0, .ref (ad 2)), (1, .int a1), (2, .int a2)] := hl
  unfold wX5_remark at hw
  refine lv_aload_n hx hb dX5_remark_0 rfl (lv_at hl 0 rfl) ?_
  refine va_get hx hb hts iX5 hown hK hP 2 (xw_q2 ad cI cJ cZ σ0) rfl 1 (by decide) f15 (fun _ h9 => h9) rfl dX5_remark_1 ?_
  refine lv_iload_n hx hb dX5_remark_4 rfl (lv_at hl 1 rfl) ?_
  obtain ⟨h9, hw⟩ := hw
  refine va_iald hx hb hK hP 12 0 (xw_q12 ad cI cJ cZ σ0) rfl h9 dX5_remark_5 ?_
  refine lv_topi (fun x1 ex1 => ?_)
  have hw := hw x1 ex1
  refine lv_istore_n (lv' := [(3, .int x1), (0, .ref (ad 2)), (1, .int a1), (2, .int a2)]) hx hb dX5_remark_6 rfl hl (by decide) rfl (fun ls hl => ?_)
  refine lv_aload_n hx hb dX5_remark_7 rfl (lv_at hl 1 rfl) ?_
  refine va_get hx hb hts iX5 hown hK hP 2 (xw_q2 ad cI cJ cZ σ0) rfl 1 (by decide) f15 (fun _ h9 => h9) rfl dX5_remark_8 ?_
  refine lv_iload_n hx hb dX5_remark_11 rfl (lv_at hl 2 rfl) ?_
  refine lv_iload_n hx hb dX5_remark_12 rfl (lv_at hl 3 rfl) ?_
  obtain ⟨h9, hw⟩ := hw
  refine wd_iast 2 12 hx hb hK hP hD hS (xw_q12 ad cI cJ cZ σ0) rfl (xw_a2 ad cI cJ cZ σ0) h9 dX5_remark_13 (fun H locs σ2 eσ2 hP hS => ?_)
  have hw := hw σ2 eσ2
  refine lv_iload_n hx hb dX5_remark_14 rfl (lv_at hl 0 rfl) ?_
  exact wd_iret hx hb hr hlocks hw hP hS dX5_remark_15
def wX5_give (σ0 : St) (a1 : Int32) (a2 : Int32) (post : Int32 → St → Prop) : Prop := vp_in a1 10 ∧ (∀ x1 : Int32, x1 = (σ0.2.1 3 a1.toNatClampNeg) → (vp_in a1 10 ∧ (∀ σ2 : St, σ2 = st_A σ0 3 a1.toNatClampNeg a2 → (vp_in a1 10 ∧ (vp_in a1 10 ∧ (∀ σ3 : St, σ3 = st_A σ2 4 a1.toNatClampNeg ((σ2.2.1 4 a1.toNatClampNeg) &&& (a2 ^^^ (-1 : Int32))) → (post x1 σ3)))))))
set_option maxHeartbeats 4000000 in
set_option maxRecDepth 100000 in
theorem mtX5_give (l : Launch) (D : va_G) (ad : Nat → Nat) (cI cJ cZ : ClassId) (A : Nat → Prop) (hD : ∀ σ : St, va_D A (xw ad cI cJ cZ σ)) (σ0 : St) (a1 : Int32) (a2 : Int32) (post : Int32 → St → Prop) (hw : wX5_give σ0 a1 a2 post) : Met l yX5_give wsX5_give ({ frames := 0, cells := 0, slots := 0, locals := 0 } : Room) (va_Pc [.ref (ad 2), .int a1, .int a2] (wd_pre D (xw ad cI cJ cZ) (wd_tys cI cJ cZ) σ0)) (va_Qi post (wd_B D (xw ad cI cJ cZ)) A) 0 0 A := by
  refine Met.ofW (cc := cX5_give) (maxL := 4) (ret := (some .int)) (by decide) rfl ?_
  intro p e s m args below meth c s₁ B hml hv
  obtain ⟨rfl, hP, hK, hN⟩ := hv
  have hx := B.exec
  have hb := B.bytes
  have hr := B.returns
  have hts := atoms_spec (ws := wsX5_give) B.pre
  have hown : s.vm.findClass RX5 = some m.cls := findClass_of_methodNamed B.named
  have hlocks := B.notSynchronized
  have hS : va_S A s.heap s.heap [] := va_S.rf
  have f19 := hts (.fieldLink RX5 19 "LeastRights$Folk" "rights" "[I") (by decide +kernel)
  have iX5 : ∀ w ∈ wsX50, w ∈ wsX5_give := by decide +kernel
  have f22 := hts (.fieldLink RX5 22 "LeastRights$Folk" "struck" "[I") (by decide +kernel)
  have hl := lv_entry ([.ref (ad 2), .int a1, .int a2]) (n := 4) (Nat.le_of_ble_eq_true rfl)
  rw [lg_entry_eq]
  generalize (lg_sl ([.ref (ad 2), .int a1, .int a2]) ++ List.replicate (4 - (lg_sl ([.ref (ad 2), .int a1, .int a2])).length) Slot.unset).toArray = ls at hl ⊢
  have hl : lv_has ls 4 [(0, .ref (ad 2)), (1, .int a1), (2, .int a2)] := hl
  unfold wX5_give at hw
  refine lv_aload_n hx hb dX5_give_0 rfl (lv_at hl 0 rfl) ?_
  refine va_get hx hb hts iX5 hown hK hP 2 (xw_q2 ad cI cJ cZ σ0) rfl 2 (by decide) f19 (fun _ h9 => h9) rfl dX5_give_1 ?_
  refine lv_iload_n hx hb dX5_give_4 rfl (lv_at hl 1 rfl) ?_
  obtain ⟨h9, hw⟩ := hw
  refine va_iald hx hb hK hP 13 0 (xw_q13 ad cI cJ cZ σ0) rfl h9 dX5_give_5 ?_
  refine lv_topi (fun x1 ex1 => ?_)
  have hw := hw x1 ex1
  refine lv_istore_n (lv' := [(3, .int x1), (0, .ref (ad 2)), (1, .int a1), (2, .int a2)]) hx hb dX5_give_6 rfl hl (by decide) rfl (fun ls hl => ?_)
  refine lv_aload_n hx hb dX5_give_7 rfl (lv_at hl 1 rfl) ?_
  refine va_get hx hb hts iX5 hown hK hP 2 (xw_q2 ad cI cJ cZ σ0) rfl 2 (by decide) f19 (fun _ h9 => h9) rfl dX5_give_8 ?_
  refine lv_iload_n hx hb dX5_give_11 rfl (lv_at hl 2 rfl) ?_
  refine lv_iload_n hx hb dX5_give_12 rfl (lv_at hl 3 rfl) ?_
  obtain ⟨h9, hw⟩ := hw
  refine wd_iast 3 13 hx hb hK hP hD hS (xw_q13 ad cI cJ cZ σ0) rfl (xw_a3 ad cI cJ cZ σ0) h9 dX5_give_13 (fun H locs σ2 eσ2 hP hS => ?_)
  have hw := hw σ2 eσ2
  refine lv_aload_n hx hb dX5_give_14 rfl (lv_at hl 1 rfl) ?_
  refine va_get hx hb hts iX5 hown hK hP 2 (xw_q2 ad cI cJ cZ σ2) rfl 3 (by decide) f22 (fun _ h9 => h9) rfl dX5_give_15 ?_
  refine lv_iload_n hx hb dX5_give_18 rfl (lv_at hl 2 rfl) ?_
  refine lv_dup2_11 hx hb dX5_give_19 rfl rfl ?_
  obtain ⟨h9, hw⟩ := hw
  refine va_iald hx hb hK hP 14 0 (xw_q14 ad cI cJ cZ σ2) rfl h9 dX5_give_20 ?_
  refine lv_iload_n hx hb dX5_give_21 rfl (lv_at hl 3 rfl) ?_
  refine lv_iconst (v := -1) hx hb dX5_give_22 (by decide) ?_
  refine lv_ixor hx hb dX5_give_23 ?_
  refine lv_iand hx hb dX5_give_24 ?_
  obtain ⟨h9, hw⟩ := hw
  refine wd_iast 4 14 hx hb hK hP hD hS (xw_q14 ad cI cJ cZ σ2) rfl (xw_a4 ad cI cJ cZ σ2) h9 dX5_give_25 (fun H locs σ3 eσ3 hP hS => ?_)
  have hw := hw σ3 eσ3
  refine lv_iload_n hx hb dX5_give_26 rfl (lv_at hl 0 rfl) ?_
  exact wd_iret hx hb hr hlocks hw hP hS dX5_give_27
def lpX5_leave_33 (u1 : Int32) (u3 : Int32) (u4 : Int32) (K69 : St → Prop) : Nat → Int32 → St → Prop
  | 0, _, _ => False
  | n + 1, v5, σ => ((12 : Int32) ≤ v5 → (K69 σ)) ∧ (¬ (12 : Int32) ≤ v5 → (((u4 &&& ((1 : Int32) <<< (v5 &&& 31))) = 0 → (∀ x4 : Int32, x4 = v5 + (1 : Int32) → (lpX5_leave_33 u1 u3 u4 K69 n x4 σ))) ∧ (¬ (u4 &&& ((1 : Int32) <<< (v5 &&& 31))) = 0 → (vp_in ((u1 * (12 : Int32)) + v5) 120 ∧ (∀ σ5 : St, σ5 = st_A σ 5 ((u1 * (12 : Int32)) + v5).toNatClampNeg u3 → (∀ x6 : Int32, x6 = v5 + (1 : Int32) → (lpX5_leave_33 u1 u3 u4 K69 n x6 σ5)))))))
def wX5_leave (σ0 : St) (a1 : Int32) (a2 : Int32) (a3 : Int32) (post : Int32 → St → Prop) : Prop := vp_in a1 10 ∧ (∀ x1 : Int32, x1 = ((σ0.2.1 3 a1.toNatClampNeg) &&& (a2 ^^^ (-1 : Int32))) → (vp_in a1 10 ∧ (∀ σ2 : St, σ2 = st_A σ0 3 a1.toNatClampNeg a2 → (vp_in a1 10 ∧ (vp_in a1 10 ∧ (∀ σ3 : St, σ3 = st_A σ2 4 a1.toNatClampNeg ((σ2.2.1 4 a1.toNatClampNeg) ||| x1) → (∃ n9 : Nat, lpX5_leave_33 a1 a3 x1 (fun (σ7 : St) => wJ6_bitCount_0f7a4 x1 (fun (r8 : Int32) => post r8 σ7)) n9 (0 : Int32) σ3)))))))
set_option maxHeartbeats 4000000 in
set_option maxRecDepth 100000 in
theorem mtX5_leave (l : Launch) (D : va_G) (ad : Nat → Nat) (cI cJ cZ : ClassId) (A : Nat → Prop) (hD : ∀ σ : St, va_D A (xw ad cI cJ cZ σ)) (σ0 : St) (a1 : Int32) (a2 : Int32) (a3 : Int32) (post : Int32 → St → Prop) (hw : wX5_leave σ0 a1 a2 a3 post) : Met l yX5_leave wsX5_leave ({ frames := 1, cells := 0, slots := 0, locals := 20 } : Room) (va_Pc [.ref (ad 2), .int a1, .int a2, .int a3] (wd_pre D (xw ad cI cJ cZ) (wd_tys cI cJ cZ) σ0)) (va_Qi post (wd_B D (xw ad cI cJ cZ)) A) 0 0 A := by
  refine Met.ofW (cc := cX5_leave) (maxL := 6) (ret := (some .int)) (by decide) rfl ?_
  intro p e s m args below meth c s₁ B hml hv
  obtain ⟨rfl, hP, hK, hN⟩ := hv
  have hx := B.exec
  have hb := B.bytes
  have hr := B.returns
  have hts := atoms_spec (ws := wsX5_leave) B.pre
  have hown : s.vm.findClass RX5 = some m.cls := findClass_of_methodNamed B.named
  have hlocks := B.notSynchronized
  have hS : va_S A s.heap s.heap [] := va_S.rf
  have f19 := hts (.fieldLink RX5 19 "LeastRights$Folk" "rights" "[I") (by decide +kernel)
  have iX5 : ∀ w ∈ wsX50, w ∈ wsX5_leave := by decide +kernel
  have f22 := hts (.fieldLink RX5 22 "LeastRights$Folk" "struck" "[I") (by decide +kernel)
  have f25 := hts (.fieldLink RX5 25 "LeastRights$Folk" "struckOn" "[I") (by decide +kernel)
  have L33 : ∀ (u1 : Int32) (u3 : Int32) (u4 : Int32) (K69 : St → Prop) (_ : ∀ (σ : St) (H : Heap) (locs : List Loc) (ls : Array Slot), K69 σ → va_P D vwCl (xw ad cI cJ cZ σ) H → va_S A s.heap H locs → lv_has ls 6 [(0, .ref (ad 2)), (1, .int u1), (3, .int u3), (4, .int u4)] → W p l e (headSpec wsX5_leave ({ frames := 1, cells := 0, slots := 0, locals := 20 } : Room)).room s m ([.ref (ad 2), .int a1, .int a2, .int a3] : List Value).toArray below meth c H locs 0 0 (MQ below (va_Qi post (wd_B D (xw ad cI cJ cZ)) A) ([.ref (ad 2), .int a1, .int a2, .int a3] : List Value).toArray s 0 0 A) (F0 m 69 ls [])) (n : Nat) (v5 : Int32) (σ : St) (H : Heap) (locs : List Loc) (ls : Array Slot), lpX5_leave_33 u1 u3 u4 K69 n v5 σ → va_P D vwCl (xw ad cI cJ cZ σ) H → va_S A s.heap H locs → lv_has ls 6 [(0, .ref (ad 2)), (1, .int u1), (3, .int u3), (4, .int u4), (5, .int v5)] → W p l e (headSpec wsX5_leave ({ frames := 1, cells := 0, slots := 0, locals := 20 } : Room)).room s m ([.ref (ad 2), .int a1, .int a2, .int a3] : List Value).toArray below meth c H locs 0 0 (MQ below (va_Qi post (wd_B D (xw ad cI cJ cZ)) A) ([.ref (ad 2), .int a1, .int a2, .int a3] : List Value).toArray s 0 0 A) (F0 m 33 ls []) := by
    intro u1 u3 u4 K69 hK69 n
    induction n with
    | zero => intro v5 σ H locs ls hw; exact hw.elim
    | succ n ih =>
      intro v5 σ H locs ls hw hP hS hl
      rw [lpX5_leave_33] at hw
      refine lv_iload hx hb dX5_leave_33 (lv_at hl 4 rfl) ?_
      refine lv_bipush (v := 12) hx hb dX5_leave_35 (by decide) ?_
      refine lv_icmp_ge (tgt := 69) hx hb dX5_leave_37 (by decide) (fun c9 => ?_) (fun c9 => ?_)
      · have hw := hw.1 c9
        exact hK69 _ _ _ _ hw hP hS (lv_sub hl [0, 1, 2, 3] rfl)
      · have hw := hw.2 c9
        refine lv_iload hx hb dX5_leave_40 (lv_at hl 3 rfl) ?_
        refine lv_iconst (v := 1) hx hb dX5_leave_42 (by decide) ?_
        refine lv_iload hx hb dX5_leave_43 (lv_at hl 4 rfl) ?_
        refine lv_ishl hx hb dX5_leave_45 ?_
        refine lv_iand hx hb dX5_leave_46 ?_
        refine lv_if_eq (tgt := 63) hx hb dX5_leave_47 (by decide) (fun c9 => ?_) (fun c9 => ?_)
        · have hw := hw.1 c9
          obtain ⟨x4, ex4⟩ : ∃ z : Int32, z = v5 + (1 : Int32) := ⟨_, rfl⟩
          refine lv_iinc (v := x4) (lv' := [(5, .int x4), (0, .ref (ad 2)), (1, .int u1), (3, .int u3), (4, .int u4)]) hx hb dX5_leave_63 hl (k := 4) rfl (by rw [ex4]; rfl) (by decide) rfl (fun ls hl => ?_)
          have hw := hw x4 ex4
          refine lv_goto (tgt := 33) hx hb dX5_leave_66 (by decide) ?_
          exact ih _ _ _ _ _ hw hP hS (lv_sub hl [1, 2, 3, 4, 0] rfl)
        · have hw := hw.2 c9
          refine lv_aload_n hx hb dX5_leave_50 rfl (lv_at hl 0 rfl) ?_
          refine va_get hx hb hts iX5 hown hK hP 2 (xw_q2 ad cI cJ cZ σ) rfl 4 (by decide) f25 (fun _ h9 => h9) rfl dX5_leave_51 ?_
          refine lv_iload_n hx hb dX5_leave_54 rfl (lv_at hl 1 rfl) ?_
          refine lv_bipush (v := 12) hx hb dX5_leave_55 (by decide) ?_
          refine lv_imul hx hb dX5_leave_57 ?_
          refine lv_iload hx hb dX5_leave_58 (lv_at hl 4 rfl) ?_
          refine lv_iadd hx hb dX5_leave_60 ?_
          refine lv_iload_n hx hb dX5_leave_61 rfl (lv_at hl 2 rfl) ?_
          obtain ⟨h9, hw⟩ := hw
          refine wd_iast 5 15 hx hb hK hP hD hS (xw_q15 ad cI cJ cZ σ) rfl (xw_a5 ad cI cJ cZ σ) h9 dX5_leave_62 (fun H locs σ5 eσ5 hP hS => ?_)
          have hw := hw σ5 eσ5
          obtain ⟨x6, ex6⟩ : ∃ z : Int32, z = v5 + (1 : Int32) := ⟨_, rfl⟩
          refine lv_iinc (v := x6) (lv' := [(5, .int x6), (0, .ref (ad 2)), (1, .int u1), (3, .int u3), (4, .int u4)]) hx hb dX5_leave_63 hl (k := 4) rfl (by rw [ex6]; rfl) (by decide) rfl (fun ls hl => ?_)
          have hw := hw x6 ex6
          refine lv_goto (tgt := 33) hx hb dX5_leave_66 (by decide) ?_
          exact ih _ _ _ _ _ hw hP hS (lv_sub hl [1, 2, 3, 4, 0] rfl)
  have hl := lv_entry ([.ref (ad 2), .int a1, .int a2, .int a3]) (n := 6) (Nat.le_of_ble_eq_true rfl)
  rw [lg_entry_eq]
  generalize (lg_sl ([.ref (ad 2), .int a1, .int a2, .int a3]) ++ List.replicate (6 - (lg_sl ([.ref (ad 2), .int a1, .int a2, .int a3])).length) Slot.unset).toArray = ls at hl ⊢
  have hl : lv_has ls 6 [(0, .ref (ad 2)), (1, .int a1), (2, .int a2), (3, .int a3)] := hl
  unfold wX5_leave at hw
  refine lv_aload_n hx hb dX5_leave_0 rfl (lv_at hl 0 rfl) ?_
  refine va_get hx hb hts iX5 hown hK hP 2 (xw_q2 ad cI cJ cZ σ0) rfl 2 (by decide) f19 (fun _ h9 => h9) rfl dX5_leave_1 ?_
  refine lv_iload_n hx hb dX5_leave_4 rfl (lv_at hl 1 rfl) ?_
  obtain ⟨h9, hw⟩ := hw
  refine va_iald hx hb hK hP 13 0 (xw_q13 ad cI cJ cZ σ0) rfl h9 dX5_leave_5 ?_
  refine lv_iload_n hx hb dX5_leave_6 rfl (lv_at hl 2 rfl) ?_
  refine lv_iconst (v := -1) hx hb dX5_leave_7 (by decide) ?_
  refine lv_ixor hx hb dX5_leave_8 ?_
  refine lv_iand hx hb dX5_leave_9 ?_
  refine lv_topi (fun x1 ex1 => ?_)
  have hw := hw x1 ex1
  refine lv_istore (lv' := [(4, .int x1), (0, .ref (ad 2)), (1, .int a1), (2, .int a2), (3, .int a3)]) hx hb dX5_leave_10 hl (by decide) rfl (fun ls hl => ?_)
  refine lv_aload_n hx hb dX5_leave_12 rfl (lv_at hl 1 rfl) ?_
  refine va_get hx hb hts iX5 hown hK hP 2 (xw_q2 ad cI cJ cZ σ0) rfl 2 (by decide) f19 (fun _ h9 => h9) rfl dX5_leave_13 ?_
  refine lv_iload_n hx hb dX5_leave_16 rfl (lv_at hl 2 rfl) ?_
  refine lv_iload_n hx hb dX5_leave_17 rfl (lv_at hl 3 rfl) ?_
  obtain ⟨h9, hw⟩ := hw
  refine wd_iast 3 13 hx hb hK hP hD hS (xw_q13 ad cI cJ cZ σ0) rfl (xw_a3 ad cI cJ cZ σ0) h9 dX5_leave_18 (fun H locs σ2 eσ2 hP hS => ?_)
  have hw := hw σ2 eσ2
  refine lv_aload_n hx hb dX5_leave_19 rfl (lv_at hl 1 rfl) ?_
  refine va_get hx hb hts iX5 hown hK hP 2 (xw_q2 ad cI cJ cZ σ2) rfl 3 (by decide) f22 (fun _ h9 => h9) rfl dX5_leave_20 ?_
  refine lv_iload_n hx hb dX5_leave_23 rfl (lv_at hl 2 rfl) ?_
  refine lv_dup2_11 hx hb dX5_leave_24 rfl rfl ?_
  obtain ⟨h9, hw⟩ := hw
  refine va_iald hx hb hK hP 14 0 (xw_q14 ad cI cJ cZ σ2) rfl h9 dX5_leave_25 ?_
  refine lv_iload hx hb dX5_leave_26 (lv_at hl 0 rfl) ?_
  refine lv_ior hx hb dX5_leave_28 ?_
  obtain ⟨h9, hw⟩ := hw
  refine wd_iast 4 14 hx hb hK hP hD hS (xw_q14 ad cI cJ cZ σ2) rfl (xw_a4 ad cI cJ cZ σ2) h9 dX5_leave_29 (fun H locs σ3 eσ3 hP hS => ?_)
  have hw := hw σ3 eσ3
  refine lv_iconst (v := 0) hx hb dX5_leave_30 (by decide) ?_
  refine lv_istore (lv' := [(5, .int (0 : Int32)), (4, .int x1), (0, .ref (ad 2)), (1, .int a1), (2, .int a2), (3, .int a3)]) hx hb dX5_leave_31 hl (by decide) rfl (fun ls hl => ?_)
  obtain ⟨n9, hw⟩ := hw
  refine L33 a1 a3 x1 _ ?_ n9 (0 : Int32) σ3 _ _ _ hw hP hS (lv_sub hl [2, 3, 5, 1, 0] rfl)
  · intro σ7 H locs ls hw hP hS hl
    refine lv_iload hx hb dX5_leave_69 (lv_at hl 3 rfl) ?_
    refine wd_cSi ⟨hx, hb, hml, hown, hts⟩ (mtJ6_bitCount_0f7a4 l D ad cI cJ cZ A hD σ7 x1 _ hw) (va_cwS 1 hts gX5_leave_J6_bitCount_0f7a4 rfl rfl rfl (by decide +kernel) ⟨(Nat.le_of_ble_eq_true rfl), (Nat.le_of_ble_eq_true rfl)⟩) hK hN hP hS rfl hl.1 rfl (Nat.le_of_ble_eq_true rfl) dX5_leave_71 ⟨Nat.zero_le _, Nat.zero_le _⟩ (fun r8 u9 H locs hq hP hS => ?_)
    obtain ⟨hw, hu⟩ := hq
    rw [hu] at hP
    exact wd_iret hx hb hr hlocks hw hP hS dX5_leave_74
def wX5_request (σ0 : St) (a1 : Int32) (a2 : Int32) (post : Int32 → St → Prop) : Prop := ∀ x1 : Int32, x1 = ((1 : Int32) <<< (a2 &&& 31)) → (vp_in a1 10 ∧ ((((σ0.2.1 3 a1.toNatClampNeg) &&& x1) = 0 → (vp_in a1 10 ∧ ((((σ0.2.1 4 a1.toNatClampNeg) &&& x1) = 0 → (post (0 : Int32) σ0)) ∧ (¬ ((σ0.2.1 4 a1.toNatClampNeg) &&& x1) = 0 → (vp_in ((a1 * (12 : Int32)) + a2) 120 ∧ (wX2_isInGrace σ0 (σ0.2.1 5 ((a1 * (12 : Int32)) + a2).toNatClampNeg) (fun (r2 : Int32) => (¬ r2 = 0 → (vp_in a1 10 ∧ (vp_in a1 10 ∧ (∀ σ3 : St, σ3 = st_A σ0 3 a1.toNatClampNeg ((σ0.2.1 3 a1.toNatClampNeg) ||| x1) → (vp_in a1 10 ∧ (vp_in a1 10 ∧ (∀ σ4 : St, σ4 = st_A σ3 4 a1.toNatClampNeg ((σ3.2.1 4 a1.toNatClampNeg) &&& (x1 ^^^ (-1 : Int32))) → (post (1 : Int32) σ4)))))))) ∧ (r2 = 0 → (post (0 : Int32) σ0))))))))) ∧ (¬ ((σ0.2.1 3 a1.toNatClampNeg) &&& x1) = 0 → (post (2 : Int32) σ0))))
set_option maxHeartbeats 4000000 in
set_option maxRecDepth 100000 in
theorem mtX5_request (l : Launch) (D : va_G) (ad : Nat → Nat) (cI cJ cZ : ClassId) (A : Nat → Prop) (hD : ∀ σ : St, va_D A (xw ad cI cJ cZ σ)) (σ0 : St) (a1 : Int32) (a2 : Int32) (post : Int32 → St → Prop) (hw : wX5_request σ0 a1 a2 post) : Met l yX5_request wsX5_request ({ frames := 1, cells := 0, slots := 0, locals := 21 } : Room) (va_Pc [.ref (ad 2), .int a1, .int a2, .ref (ad 1)] (wd_pre D (xw ad cI cJ cZ) (wd_tys cI cJ cZ) σ0)) (va_Qi post (wd_B D (xw ad cI cJ cZ)) A) 0 0 A := by
  refine Met.ofW (cc := cX5_request) (maxL := 5) (ret := (some .int)) (by decide) rfl ?_
  intro p e s m args below meth c s₁ B hml hv
  obtain ⟨rfl, hP, hK, hN⟩ := hv
  have hx := B.exec
  have hb := B.bytes
  have hr := B.returns
  have hts := atoms_spec (ws := wsX5_request) B.pre
  have hown : s.vm.findClass RX5 = some m.cls := findClass_of_methodNamed B.named
  have hlocks := B.notSynchronized
  have hS : va_S A s.heap s.heap [] := va_S.rf
  have f19 := hts (.fieldLink RX5 19 "LeastRights$Folk" "rights" "[I") (by decide +kernel)
  have iX5 : ∀ w ∈ wsX50, w ∈ wsX5_request := by decide +kernel
  have f22 := hts (.fieldLink RX5 22 "LeastRights$Folk" "struck" "[I") (by decide +kernel)
  have f25 := hts (.fieldLink RX5 25 "LeastRights$Folk" "struckOn" "[I") (by decide +kernel)
  have hl := lv_entry ([.ref (ad 2), .int a1, .int a2, .ref (ad 1)]) (n := 5) (Nat.le_of_ble_eq_true rfl)
  rw [lg_entry_eq]
  generalize (lg_sl ([.ref (ad 2), .int a1, .int a2, .ref (ad 1)]) ++ List.replicate (5 - (lg_sl ([.ref (ad 2), .int a1, .int a2, .ref (ad 1)])).length) Slot.unset).toArray = ls at hl ⊢
  have hl : lv_has ls 5 [(0, .ref (ad 2)), (1, .int a1), (2, .int a2), (3, .ref (ad 1))] := hl
  unfold wX5_request at hw
  refine lv_iconst (v := 1) hx hb dX5_request_0 (by decide) ?_
  refine lv_iload_n hx hb dX5_request_1 rfl (lv_at hl 2 rfl) ?_
  refine lv_ishl hx hb dX5_request_2 ?_
  refine lv_topi (fun x1 ex1 => ?_)
  have hw := hw x1 ex1
  refine lv_istore (lv' := [(4, .int x1), (0, .ref (ad 2)), (1, .int a1), (2, .int a2), (3, .ref (ad 1))]) hx hb dX5_request_3 hl (by decide) rfl (fun ls hl => ?_)
  refine lv_aload_n hx hb dX5_request_5 rfl (lv_at hl 1 rfl) ?_
  refine va_get hx hb hts iX5 hown hK hP 2 (xw_q2 ad cI cJ cZ σ0) rfl 2 (by decide) f19 (fun _ h9 => h9) rfl dX5_request_6 ?_
  refine lv_iload_n hx hb dX5_request_9 rfl (lv_at hl 2 rfl) ?_
  obtain ⟨h9, hw⟩ := hw
  refine va_iald hx hb hK hP 13 0 (xw_q13 ad cI cJ cZ σ0) rfl h9 dX5_request_10 ?_
  refine lv_iload hx hb dX5_request_11 (lv_at hl 0 rfl) ?_
  refine lv_iand hx hb dX5_request_13 ?_
  refine lv_if_eq (tgt := 19) hx hb dX5_request_14 (by decide) (fun c9 => ?_) (fun c9 => ?_)
  · have hw := hw.1 c9
    refine lv_aload_n hx hb dX5_request_19 rfl (lv_at hl 1 rfl) ?_
    refine va_get hx hb hts iX5 hown hK hP 2 (xw_q2 ad cI cJ cZ σ0) rfl 3 (by decide) f22 (fun _ h9 => h9) rfl dX5_request_20 ?_
    refine lv_iload_n hx hb dX5_request_23 rfl (lv_at hl 2 rfl) ?_
    obtain ⟨h9, hw⟩ := hw
    refine va_iald hx hb hK hP 14 0 (xw_q14 ad cI cJ cZ σ0) rfl h9 dX5_request_24 ?_
    refine lv_iload hx hb dX5_request_25 (lv_at hl 0 rfl) ?_
    refine lv_iand hx hb dX5_request_27 ?_
    refine lv_if_eq (tgt := 49) hx hb dX5_request_28 (by decide) (fun c9 => ?_) (fun c9 => ?_)
    · have hw := hw.1 c9
      refine lv_iconst (v := 0) hx hb dX5_request_49 (by decide) ?_
      exact wd_iret hx hb hr hlocks hw hP hS dX5_request_50
    · have hw := hw.2 c9
      refine lv_aload_n hx hb dX5_request_31 rfl (lv_at hl 4 rfl) ?_
      refine lv_aload_n hx hb dX5_request_32 rfl (lv_at hl 1 rfl) ?_
      refine va_get hx hb hts iX5 hown hK hP 2 (xw_q2 ad cI cJ cZ σ0) rfl 4 (by decide) f25 (fun _ h9 => h9) rfl dX5_request_33 ?_
      refine lv_iload_n hx hb dX5_request_36 rfl (lv_at hl 2 rfl) ?_
      refine lv_bipush (v := 12) hx hb dX5_request_37 (by decide) ?_
      refine lv_imul hx hb dX5_request_39 ?_
      refine lv_iload_n hx hb dX5_request_40 rfl (lv_at hl 3 rfl) ?_
      refine lv_iadd hx hb dX5_request_41 ?_
      obtain ⟨h9, hw⟩ := hw
      refine va_iald hx hb hK hP 15 0 (xw_q15 ad cI cJ cZ σ0) rfl h9 dX5_request_42 ?_
      refine wd_cVi ⟨hx, hb, hml, hown, hts⟩ (mtX2_isInGrace l D ad cI cJ cZ A hD σ0 (σ0.2.1 5 ((a1 * (12 : Int32)) + a2).toNatClampNeg) _ hw) (cwV 1 hts gX5_request_X2_isInGrace rfl rfl rfl (by decide +kernel) ⟨(Nat.le_of_ble_eq_true rfl), (Nat.le_of_ble_eq_true rfl)⟩) (va_recv hK hP (ci := 2) (q0 := 1) rfl (xw_q1 ad cI cJ cZ σ0)) hK hN hP hS rfl hl.1 rfl (Nat.le_of_ble_eq_true rfl) dX5_request_43 ⟨Nat.zero_le _, Nat.zero_le _⟩ (fun r2 u9 H locs hq hP hS => ?_)
      obtain ⟨hw, hu⟩ := hq
      rw [hu] at hP
      refine lv_if_ne (tgt := 51) hx hb dX5_request_46 (by decide) (fun c9 => ?_) (fun c9 => ?_)
      · have hw := hw.1 c9
        refine lv_aload_n hx hb dX5_request_51 rfl (lv_at hl 1 rfl) ?_
        refine va_get hx hb hts iX5 hown hK hP 2 (xw_q2 ad cI cJ cZ σ0) rfl 2 (by decide) f19 (fun _ h9 => h9) rfl dX5_request_52 ?_
        refine lv_iload_n hx hb dX5_request_55 rfl (lv_at hl 2 rfl) ?_
        refine lv_dup2_11 hx hb dX5_request_56 rfl rfl ?_
        obtain ⟨h9, hw⟩ := hw
        refine va_iald hx hb hK hP 13 0 (xw_q13 ad cI cJ cZ σ0) rfl h9 dX5_request_57 ?_
        refine lv_iload hx hb dX5_request_58 (lv_at hl 0 rfl) ?_
        refine lv_ior hx hb dX5_request_60 ?_
        obtain ⟨h9, hw⟩ := hw
        refine wd_iast 3 13 hx hb hK hP hD hS (xw_q13 ad cI cJ cZ σ0) rfl (xw_a3 ad cI cJ cZ σ0) h9 dX5_request_61 (fun H locs σ3 eσ3 hP hS => ?_)
        have hw := hw σ3 eσ3
        refine lv_aload_n hx hb dX5_request_62 rfl (lv_at hl 1 rfl) ?_
        refine va_get hx hb hts iX5 hown hK hP 2 (xw_q2 ad cI cJ cZ σ3) rfl 3 (by decide) f22 (fun _ h9 => h9) rfl dX5_request_63 ?_
        refine lv_iload_n hx hb dX5_request_66 rfl (lv_at hl 2 rfl) ?_
        refine lv_dup2_11 hx hb dX5_request_67 rfl rfl ?_
        obtain ⟨h9, hw⟩ := hw
        refine va_iald hx hb hK hP 14 0 (xw_q14 ad cI cJ cZ σ3) rfl h9 dX5_request_68 ?_
        refine lv_iload hx hb dX5_request_69 (lv_at hl 0 rfl) ?_
        refine lv_iconst (v := -1) hx hb dX5_request_71 (by decide) ?_
        refine lv_ixor hx hb dX5_request_72 ?_
        refine lv_iand hx hb dX5_request_73 ?_
        obtain ⟨h9, hw⟩ := hw
        refine wd_iast 4 14 hx hb hK hP hD hS (xw_q14 ad cI cJ cZ σ3) rfl (xw_a4 ad cI cJ cZ σ3) h9 dX5_request_74 (fun H locs σ4 eσ4 hP hS => ?_)
        have hw := hw σ4 eσ4
        refine lv_iconst (v := 1) hx hb dX5_request_75 (by decide) ?_
        exact wd_iret hx hb hr hlocks hw hP hS dX5_request_76
      · have hw := hw.2 c9
        refine lv_iconst (v := 0) hx hb dX5_request_49 (by decide) ?_
        exact wd_iret hx hb hr hlocks hw hP hS dX5_request_50
  · have hw := hw.2 c9
    refine lv_iconst (v := 2) hx hb dX5_request_17 (by decide) ?_
    exact wd_iret hx hb hr hlocks hw hP hS dX5_request_18
def lpX5_mistold_5 (u1 : Int32) (u2 : Int32) (σ0 : St) (post : Int32 → Prop) : Nat → Int32 → Int32 → Prop
  | 0, _, _ => False
  | n + 1, v3, v4 => ((σ0.1 6) ≤ v4 → (post v3)) ∧ (¬ (σ0.1 6) ≤ v4 → (vp_in v4 10 ∧ ((¬ ((σ0.2.1 2 v4.toNatClampNeg) &&& u2) = u2 → (wX5_has σ0 v4 u1 (fun (r1 : Int32) => ((0 : Int32) = r1 → (∀ x2 : Int32, x2 = v4 + (1 : Int32) → (lpX5_mistold_5 u1 u2 σ0 post n v3 x2))) ∧ (¬ (0 : Int32) = r1 → (∀ x3 : Int32, x3 = (v3 ||| ((1 : Int32) <<< (v4 &&& 31))) → (∀ x4 : Int32, x4 = v4 + (1 : Int32) → (lpX5_mistold_5 u1 u2 σ0 post n x3 x4))))))) ∧ (((σ0.2.1 2 v4.toNatClampNeg) &&& u2) = u2 → (wX5_has σ0 v4 u1 (fun (r5 : Int32) => ((1 : Int32) = r5 → (∀ x6 : Int32, x6 = v4 + (1 : Int32) → (lpX5_mistold_5 u1 u2 σ0 post n v3 x6))) ∧ (¬ (1 : Int32) = r5 → (∀ x7 : Int32, x7 = (v3 ||| ((1 : Int32) <<< (v4 &&& 31))) → (∀ x8 : Int32, x8 = v4 + (1 : Int32) → (lpX5_mistold_5 u1 u2 σ0 post n x7 x8))))))))))
def wX5_mistold (σ0 : St) (a1 : Int32) (a2 : Int32) (post : Int32 → Prop) : Prop := ∃ n9 : Nat, lpX5_mistold_5 a1 a2 σ0 post n9 (0 : Int32) (0 : Int32)
set_option maxHeartbeats 4000000 in
set_option maxRecDepth 100000 in
theorem mtX5_mistold (l : Launch) (D : va_G) (ad : Nat → Nat) (cI cJ cZ : ClassId) (A : Nat → Prop) (hD : ∀ σ : St, va_D A (xw ad cI cJ cZ σ)) (σ0 : St) (a1 : Int32) (a2 : Int32) (post : Int32 → Prop) (hw : wX5_mistold σ0 a1 a2 post) : Met l yX5_mistold wsX5_mistold ({ frames := 1, cells := 0, slots := 0, locals := 22 } : Room) (va_Pc [.ref (ad 2), .int a1, .int a2] (wd_pre D (xw ad cI cJ cZ) (wd_tys cI cJ cZ) σ0)) (va_Qi (fun (r : Int32) (u : St) => post r ∧ u = σ0) (wd_B D (xw ad cI cJ cZ)) A) 0 0 A := by
  refine Met.ofW (cc := cX5_mistold) (maxL := 6) (ret := (some .int)) (by decide) rfl ?_
  intro p e s m args below meth c s₁ B hml hv
  obtain ⟨rfl, hP, hK, hN⟩ := hv
  have hx := B.exec
  have hb := B.bytes
  have hr := B.returns
  have hts := atoms_spec (ws := wsX5_mistold) B.pre
  have hown : s.vm.findClass RX5 = some m.cls := findClass_of_methodNamed B.named
  have hlocks := B.notSynchronized
  have hS : va_S A s.heap s.heap [] := va_S.rf
  have f9 := hts (.fieldLink RX5 9 "LeastRights$Folk" "size" "I") (by decide +kernel)
  have iX5 : ∀ w ∈ wsX50, w ∈ wsX5_mistold := by decide +kernel
  have f15 := hts (.fieldLink RX5 15 "LeastRights$Folk" "marks" "[I") (by decide +kernel)
  have L5 : ∀ (u1 : Int32) (u2 : Int32) (n : Nat) (v3 : Int32) (v4 : Int32) (H : Heap) (locs : List Loc) (ls : Array Slot), lpX5_mistold_5 u1 u2 σ0 post n v3 v4 → va_P D vwCl (xw ad cI cJ cZ σ0) H → va_S A s.heap H locs → lv_has ls 6 [(0, .ref (ad 2)), (1, .int u1), (2, .int u2), (3, .int v3), (4, .int v4)] → W p l e (headSpec wsX5_mistold ({ frames := 1, cells := 0, slots := 0, locals := 22 } : Room)).room s m ([.ref (ad 2), .int a1, .int a2] : List Value).toArray below meth c H locs 0 0 (MQ below (va_Qi (fun (r : Int32) (u : St) => post r ∧ u = σ0) (wd_B D (xw ad cI cJ cZ)) A) ([.ref (ad 2), .int a1, .int a2] : List Value).toArray s 0 0 A) (F0 m 5 ls []) := by
    intro u1 u2 n
    induction n with
    | zero => intro v3 v4 H locs ls hw; exact hw.elim
    | succ n ih =>
      intro v3 v4 H locs ls hw hP hS hl
      rw [lpX5_mistold_5] at hw
      refine lv_iload hx hb dX5_mistold_5 (lv_at hl 4 rfl) ?_
      refine lv_aload_n hx hb dX5_mistold_7 rfl (lv_at hl 0 rfl) ?_
      refine va_get hx hb hts iX5 hown hK hP 2 (xw_q2 ad cI cJ cZ σ0) rfl 0 (by decide) f9 (fun _ h9 => h9) rfl dX5_mistold_8 ?_
      refine lv_icmp_ge (tgt := 59) hx hb dX5_mistold_11 (by decide) (fun c9 => ?_) (fun c9 => ?_)
      · have hw := hw.1 c9
        refine lv_iload_n hx hb dX5_mistold_59 rfl (lv_at hl 3 rfl) ?_
        exact wd_iret hx hb hr hlocks ⟨hw, rfl⟩ hP hS dX5_mistold_60
      · have hw := hw.2 c9
        refine lv_aload_n hx hb dX5_mistold_14 rfl (lv_at hl 0 rfl) ?_
        refine va_get hx hb hts iX5 hown hK hP 2 (xw_q2 ad cI cJ cZ σ0) rfl 1 (by decide) f15 (fun _ h9 => h9) rfl dX5_mistold_15 ?_
        refine lv_iload hx hb dX5_mistold_18 (lv_at hl 4 rfl) ?_
        obtain ⟨h9, hw⟩ := hw
        refine va_iald hx hb hK hP 12 0 (xw_q12 ad cI cJ cZ σ0) rfl h9 dX5_mistold_20 ?_
        refine lv_iload_n hx hb dX5_mistold_21 rfl (lv_at hl 2 rfl) ?_
        refine lv_iand hx hb dX5_mistold_22 ?_
        refine lv_iload_n hx hb dX5_mistold_23 rfl (lv_at hl 2 rfl) ?_
        refine lv_icmp_ne (tgt := 31) hx hb dX5_mistold_24 (by decide) (fun c9 => ?_) (fun c9 => ?_)
        · have hw := hw.1 c9
          refine lv_iconst (v := 0) hx hb dX5_mistold_31 (by decide) ?_
          refine lv_istore (lv' := [(5, .int (0 : Int32)), (0, .ref (ad 2)), (1, .int u1), (2, .int u2), (3, .int v3), (4, .int v4)]) hx hb dX5_mistold_32 hl (by decide) rfl (fun ls hl => ?_)
          refine lv_iload hx hb dX5_mistold_34 (lv_at hl 0 rfl) ?_
          refine lv_aload_n hx hb dX5_mistold_36 rfl (lv_at hl 1 rfl) ?_
          refine lv_iload hx hb dX5_mistold_37 (lv_at hl 5 rfl) ?_
          refine lv_iload_n hx hb dX5_mistold_39 rfl (lv_at hl 2 rfl) ?_
          refine wd_cVi ⟨hx, hb, hml, hown, hts⟩ (mtX5_has l D ad cI cJ cZ A hD σ0 v4 u1 _ hw) (cwV 2 hts gX5_mistold_X5_has rfl rfl rfl (by decide +kernel) ⟨(Nat.le_of_ble_eq_true rfl), (Nat.le_of_ble_eq_true rfl)⟩) (va_recv hK hP (ci := 5) (q0 := 2) rfl (xw_q2 ad cI cJ cZ σ0)) hK hN hP hS rfl hl.1 rfl (Nat.le_of_ble_eq_true rfl) dX5_mistold_40 ⟨Nat.zero_le _, Nat.zero_le _⟩ (fun r1 u9 H locs hq hP hS => ?_)
          obtain ⟨hw, hu⟩ := hq
          rw [hu] at hP
          refine lv_icmp_eq (tgt := 53) hx hb dX5_mistold_43 (by decide) (fun c9 => ?_) (fun c9 => ?_)
          · have hw := hw.1 c9
            obtain ⟨x2, ex2⟩ : ∃ z : Int32, z = v4 + (1 : Int32) := ⟨_, rfl⟩
            refine lv_iinc (v := x2) (lv' := [(4, .int x2), (5, .int (0 : Int32)), (0, .ref (ad 2)), (1, .int u1), (2, .int u2), (3, .int v3)]) hx hb dX5_mistold_53 hl (k := 5) rfl (by rw [ex2]; rfl) (by decide) rfl (fun ls hl => ?_)
            have hw := hw x2 ex2
            refine lv_goto (tgt := 5) hx hb dX5_mistold_56 (by decide) ?_
            exact ih _ _ _ _ _ hw hP hS (lv_sub hl [2, 3, 4, 5, 0] rfl)
          · have hw := hw.2 c9
            refine lv_iload_n hx hb dX5_mistold_46 rfl (lv_at hl 4 rfl) ?_
            refine lv_iconst (v := 1) hx hb dX5_mistold_47 (by decide) ?_
            refine lv_iload hx hb dX5_mistold_48 (lv_at hl 5 rfl) ?_
            refine lv_ishl hx hb dX5_mistold_50 ?_
            refine lv_ior hx hb dX5_mistold_51 ?_
            refine lv_topi (fun x3 ex3 => ?_)
            have hw := hw x3 ex3
            refine lv_istore_n (lv' := [(3, .int x3), (5, .int (0 : Int32)), (0, .ref (ad 2)), (1, .int u1), (2, .int u2), (4, .int v4)]) hx hb dX5_mistold_52 rfl hl (by decide) rfl (fun ls hl => ?_)
            obtain ⟨x4, ex4⟩ : ∃ z : Int32, z = v4 + (1 : Int32) := ⟨_, rfl⟩
            refine lv_iinc (v := x4) (lv' := [(4, .int x4), (3, .int x3), (5, .int (0 : Int32)), (0, .ref (ad 2)), (1, .int u1), (2, .int u2)]) hx hb dX5_mistold_53 hl (k := 5) rfl (by rw [ex4]; rfl) (by decide) rfl (fun ls hl => ?_)
            have hw := hw x4 ex4
            refine lv_goto (tgt := 5) hx hb dX5_mistold_56 (by decide) ?_
            exact ih _ _ _ _ _ hw hP hS (lv_sub hl [3, 4, 5, 1, 0] rfl)
        · have hw := hw.2 c9
          refine lv_iconst (v := 1) hx hb dX5_mistold_27 (by decide) ?_
          refine lv_goto (tgt := 32) hx hb dX5_mistold_28 (by decide) ?_
          refine lv_istore (lv' := [(5, .int (1 : Int32)), (0, .ref (ad 2)), (1, .int u1), (2, .int u2), (3, .int v3), (4, .int v4)]) hx hb dX5_mistold_32 hl (by decide) rfl (fun ls hl => ?_)
          refine lv_iload hx hb dX5_mistold_34 (lv_at hl 0 rfl) ?_
          refine lv_aload_n hx hb dX5_mistold_36 rfl (lv_at hl 1 rfl) ?_
          refine lv_iload hx hb dX5_mistold_37 (lv_at hl 5 rfl) ?_
          refine lv_iload_n hx hb dX5_mistold_39 rfl (lv_at hl 2 rfl) ?_
          refine wd_cVi ⟨hx, hb, hml, hown, hts⟩ (mtX5_has l D ad cI cJ cZ A hD σ0 v4 u1 _ hw) (cwV 2 hts gX5_mistold_X5_has rfl rfl rfl (by decide +kernel) ⟨(Nat.le_of_ble_eq_true rfl), (Nat.le_of_ble_eq_true rfl)⟩) (va_recv hK hP (ci := 5) (q0 := 2) rfl (xw_q2 ad cI cJ cZ σ0)) hK hN hP hS rfl hl.1 rfl (Nat.le_of_ble_eq_true rfl) dX5_mistold_40 ⟨Nat.zero_le _, Nat.zero_le _⟩ (fun r5 u9 H locs hq hP hS => ?_)
          obtain ⟨hw, hu⟩ := hq
          rw [hu] at hP
          refine lv_icmp_eq (tgt := 53) hx hb dX5_mistold_43 (by decide) (fun c9 => ?_) (fun c9 => ?_)
          · have hw := hw.1 c9
            obtain ⟨x6, ex6⟩ : ∃ z : Int32, z = v4 + (1 : Int32) := ⟨_, rfl⟩
            refine lv_iinc (v := x6) (lv' := [(4, .int x6), (5, .int (1 : Int32)), (0, .ref (ad 2)), (1, .int u1), (2, .int u2), (3, .int v3)]) hx hb dX5_mistold_53 hl (k := 5) rfl (by rw [ex6]; rfl) (by decide) rfl (fun ls hl => ?_)
            have hw := hw x6 ex6
            refine lv_goto (tgt := 5) hx hb dX5_mistold_56 (by decide) ?_
            exact ih _ _ _ _ _ hw hP hS (lv_sub hl [2, 3, 4, 5, 0] rfl)
          · have hw := hw.2 c9
            refine lv_iload_n hx hb dX5_mistold_46 rfl (lv_at hl 4 rfl) ?_
            refine lv_iconst (v := 1) hx hb dX5_mistold_47 (by decide) ?_
            refine lv_iload hx hb dX5_mistold_48 (lv_at hl 5 rfl) ?_
            refine lv_ishl hx hb dX5_mistold_50 ?_
            refine lv_ior hx hb dX5_mistold_51 ?_
            refine lv_topi (fun x7 ex7 => ?_)
            have hw := hw x7 ex7
            refine lv_istore_n (lv' := [(3, .int x7), (5, .int (1 : Int32)), (0, .ref (ad 2)), (1, .int u1), (2, .int u2), (4, .int v4)]) hx hb dX5_mistold_52 rfl hl (by decide) rfl (fun ls hl => ?_)
            obtain ⟨x8, ex8⟩ : ∃ z : Int32, z = v4 + (1 : Int32) := ⟨_, rfl⟩
            refine lv_iinc (v := x8) (lv' := [(4, .int x8), (3, .int x7), (5, .int (1 : Int32)), (0, .ref (ad 2)), (1, .int u1), (2, .int u2)]) hx hb dX5_mistold_53 hl (k := 5) rfl (by rw [ex8]; rfl) (by decide) rfl (fun ls hl => ?_)
            have hw := hw x8 ex8
            refine lv_goto (tgt := 5) hx hb dX5_mistold_56 (by decide) ?_
            exact ih _ _ _ _ _ hw hP hS (lv_sub hl [3, 4, 5, 1, 0] rfl)
  have hl := lv_entry ([.ref (ad 2), .int a1, .int a2]) (n := 6) (Nat.le_of_ble_eq_true rfl)
  rw [lg_entry_eq]
  generalize (lg_sl ([.ref (ad 2), .int a1, .int a2]) ++ List.replicate (6 - (lg_sl ([.ref (ad 2), .int a1, .int a2])).length) Slot.unset).toArray = ls at hl ⊢
  have hl : lv_has ls 6 [(0, .ref (ad 2)), (1, .int a1), (2, .int a2)] := hl
  unfold wX5_mistold at hw
  refine lv_iconst (v := 0) hx hb dX5_mistold_0 (by decide) ?_
  refine lv_istore_n (lv' := [(3, .int (0 : Int32)), (0, .ref (ad 2)), (1, .int a1), (2, .int a2)]) hx hb dX5_mistold_1 rfl hl (by decide) rfl (fun ls hl => ?_)
  refine lv_iconst (v := 0) hx hb dX5_mistold_2 (by decide) ?_
  refine lv_istore (lv' := [(4, .int (0 : Int32)), (3, .int (0 : Int32)), (0, .ref (ad 2)), (1, .int a1), (2, .int a2)]) hx hb dX5_mistold_3 hl (by decide) rfl (fun ls hl => ?_)
  obtain ⟨n9, hw⟩ := hw
  refine L5 a1 a2 n9 (0 : Int32) (0 : Int32) _ _ _ hw hP hS (lv_sub hl [2, 3, 4, 1, 0] rfl)
def lpX6_begin_18 (post : St → Prop) : Nat → Int32 → St → Prop
  | 0, _, _ => False
  | n + 1, v1, σ => ((10 : Int32) ≤ v1 → (post σ)) ∧ (¬ (10 : Int32) ≤ v1 → (vp_in v1 1210 ∧ (∀ σ4 : St, σ4 = st_A σ 16 v1.toNatClampNeg (0 : Int32) → (∀ x5 : Int32, x5 = v1 + (1 : Int32) → (lpX6_begin_18 post n x5 σ4)))))
def wX6_begin (σ0 : St) (post : St → Prop) : Prop := ∀ σ1 : St, σ1 = st_S σ0 9 (0 : Int32) → (∀ σ2 : St, σ2 = st_S σ1 10 (0 : Int32) → (∀ σ3 : St, σ3 = st_S σ2 11 (122 : Int32) → (∃ n6 : Nat, lpX6_begin_18 post n6 (0 : Int32) σ3)))
set_option maxHeartbeats 4000000 in
set_option maxRecDepth 100000 in
theorem mtX6_begin (l : Launch) (D : va_G) (ad : Nat → Nat) (cI cJ cZ : ClassId) (A : Nat → Prop) (hD : ∀ σ : St, va_D A (xw ad cI cJ cZ σ)) (σ0 : St) (post : St → Prop) (hw : wX6_begin σ0 post) : Met l yX6_begin wsX6_begin ({ frames := 0, cells := 0, slots := 0, locals := 0 } : Room) (va_Pc [.ref (ad 5)] (wd_pre D (xw ad cI cJ cZ) (wd_tys cI cJ cZ) σ0)) (va_Qv post (wd_B D (xw ad cI cJ cZ)) A) 0 0 A := by
  refine Met.ofW (cc := cX6_begin) (maxL := 2) (ret := none) (by decide) rfl ?_
  intro p e s m args below meth c s₁ B hml hv
  obtain ⟨rfl, hP, hK, hN⟩ := hv
  have hx := B.exec
  have hb := B.bytes
  have hr := B.returns
  have hts := atoms_spec (ws := wsX6_begin) B.pre
  have hown : s.vm.findClass RX6 = some m.cls := findClass_of_methodNamed B.named
  have hlocks := B.notSynchronized
  have hS : va_S A s.heap s.heap [] := va_S.rf
  have f11 := hts (.fieldLink RX6 11 "LeastRights$RoleTree" "size" "I") (by decide +kernel)
  have iX6 : ∀ w ∈ wsX60, w ∈ wsX6_begin := by decide +kernel
  have f15 := hts (.fieldLink RX6 15 "LeastRights$RoleTree" "tried" "I") (by decide +kernel)
  have f18 := hts (.fieldLink RX6 18 "LeastRights$RoleTree" "fewest" "I") (by decide +kernel)
  have f37 := hts (.fieldLink RX6 37 "LeastRights$RoleTree" "covered" "[I") (by decide +kernel)
  have L18 : ∀ (n : Nat) (v1 : Int32) (σ : St) (H : Heap) (locs : List Loc) (ls : Array Slot), lpX6_begin_18 post n v1 σ → va_P D vwCl (xw ad cI cJ cZ σ) H → va_S A s.heap H locs → lv_has ls 2 [(0, .ref (ad 5)), (1, .int v1)] → W p l e (headSpec wsX6_begin ({ frames := 0, cells := 0, slots := 0, locals := 0 } : Room)).room s m ([.ref (ad 5)] : List Value).toArray below meth c H locs 0 0 (MQ below (va_Qv post (wd_B D (xw ad cI cJ cZ)) A) ([.ref (ad 5)] : List Value).toArray s 0 0 A) (F0 m 18 ls []) := by
    intro n
    induction n with
    | zero => intro v1 σ H locs ls hw; exact hw.elim
    | succ n ih =>
      intro v1 σ H locs ls hw hP hS hl
      rw [lpX6_begin_18] at hw
      refine lv_iload_n hx hb dX6_begin_18 rfl (lv_at hl 1 rfl) ?_
      refine lv_bipush (v := 10) hx hb dX6_begin_19 (by decide) ?_
      refine lv_icmp_ge (tgt := 37) hx hb dX6_begin_21 (by decide) (fun c9 => ?_) (fun c9 => ?_)
      · have hw := hw.1 c9
        exact wd_vret hx hb hr hlocks hw hP hS dX6_begin_37
      · have hw := hw.2 c9
        refine lv_aload_n hx hb dX6_begin_24 rfl (lv_at hl 0 rfl) ?_
        refine va_get hx hb hts iX6 hown hK hP 5 (xw_q5 ad cI cJ cZ σ) rfl 8 (by decide) f37 (fun _ h9 => h9) rfl dX6_begin_25 ?_
        refine lv_iload_n hx hb dX6_begin_28 rfl (lv_at hl 1 rfl) ?_
        refine lv_iconst (v := 0) hx hb dX6_begin_29 (by decide) ?_
        obtain ⟨h9, hw⟩ := hw
        refine wd_iast 16 26 hx hb hK hP hD hS (xw_q26 ad cI cJ cZ σ) rfl (xw_a16 ad cI cJ cZ σ) h9 dX6_begin_30 (fun H locs σ4 eσ4 hP hS => ?_)
        have hw := hw σ4 eσ4
        obtain ⟨x5, ex5⟩ : ∃ z : Int32, z = v1 + (1 : Int32) := ⟨_, rfl⟩
        refine lv_iinc (v := x5) (lv' := [(1, .int x5), (0, .ref (ad 5))]) hx hb dX6_begin_31 hl (k := 1) rfl (by rw [ex5]; rfl) (by decide) rfl (fun ls hl => ?_)
        have hw := hw x5 ex5
        refine lv_goto (tgt := 18) hx hb dX6_begin_34 (by decide) ?_
        exact ih _ _ _ _ _ hw hP hS (lv_sub hl [1, 0] rfl)
  have hl := lv_entry ([.ref (ad 5)]) (n := 2) (Nat.le_of_ble_eq_true rfl)
  rw [lg_entry_eq]
  generalize (lg_sl ([.ref (ad 5)]) ++ List.replicate (2 - (lg_sl ([.ref (ad 5)])).length) Slot.unset).toArray = ls at hl ⊢
  have hl : lv_has ls 2 [(0, .ref (ad 5))] := hl
  unfold wX6_begin at hw
  refine lv_aload_n hx hb dX6_begin_0 rfl (lv_at hl 0 rfl) ?_
  refine lv_iconst (v := 0) hx hb dX6_begin_1 (by decide) ?_
  refine wd_put 9 5 0 (ty := .int) tyX6 hx hb hts iX6 tyX6_ok nmX6 hown hK hP hD hS (xw_q5 ad cI cJ cZ σ0) rfl (by decide) f11 (fun _ h9 => h9) rfl (by decide +kernel) rfl rfl (Nat.le_of_ble_eq_true rfl) (xw_s9 ad cI cJ cZ σ0) dX6_begin_2 (fun H locs σ1 eσ1 hP hS => ?_)
  have hw := hw σ1 eσ1
  refine lv_aload_n hx hb dX6_begin_5 rfl (lv_at hl 0 rfl) ?_
  refine lv_iconst (v := 0) hx hb dX6_begin_6 (by decide) ?_
  refine wd_put 10 5 1 (ty := .int) tyX6 hx hb hts iX6 tyX6_ok nmX6 hown hK hP hD hS (xw_q5 ad cI cJ cZ σ1) rfl (by decide) f15 (fun _ h9 => h9) rfl (by decide +kernel) rfl rfl (Nat.le_of_ble_eq_true rfl) (xw_s10 ad cI cJ cZ σ1) dX6_begin_7 (fun H locs σ2 eσ2 hP hS => ?_)
  have hw := hw σ2 eσ2
  refine lv_aload_n hx hb dX6_begin_10 rfl (lv_at hl 0 rfl) ?_
  refine lv_bipush (v := 122) hx hb dX6_begin_11 (by decide) ?_
  refine wd_put 11 5 2 (ty := .int) tyX6 hx hb hts iX6 tyX6_ok nmX6 hown hK hP hD hS (xw_q5 ad cI cJ cZ σ2) rfl (by decide) f18 (fun _ h9 => h9) rfl (by decide +kernel) rfl rfl (Nat.le_of_ble_eq_true rfl) (xw_s11 ad cI cJ cZ σ2) dX6_begin_13 (fun H locs σ3 eσ3 hP hS => ?_)
  have hw := hw σ3 eσ3
  refine lv_iconst (v := 0) hx hb dX6_begin_16 (by decide) ?_
  refine lv_istore_n (lv' := [(1, .int (0 : Int32)), (0, .ref (ad 5))]) hx hb dX6_begin_17 rfl hl (by decide) rfl (fun ls hl => ?_)
  obtain ⟨n9, hw⟩ := hw
  refine L18 n9 (0 : Int32) σ3 _ _ _ hw hP hS (lv_sub hl [1, 0] rfl)
def lpX6_openPlace_3 (u1 : Int32) (u3 : Int32) (σ : St) (post : Int32 → St → Prop) : Nat → Int32 → Prop
  | 0, _ => False
  | n + 1, v4 => (u3 ≤ v4 → (post (0 : Int32) σ)) ∧ (¬ u3 ≤ v4 → (vp_in v4 10 ∧ (vp_in ((u1 * (10 : Int32)) + v4) 1210 ∧ (∀ x1 : Int32, x1 = ((σ.2.1 0 v4.toNatClampNeg) &&& ((σ.2.1 16 ((u1 * (10 : Int32)) + v4).toNatClampNeg) ^^^ (-1 : Int32))) → ((x1 = 0 → (∀ x2 : Int32, x2 = v4 + (1 : Int32) → (lpX6_openPlace_3 u1 u3 σ post n x2))) ∧ (¬ x1 = 0 → (vp_in v4 10 ∧ (vp_in u1 121 ∧ (∀ σ3 : St, σ3 = st_A σ 13 u1.toNatClampNeg (σ.2.1 0 v4.toNatClampNeg) → (vp_in u1 121 ∧ (∀ σ4 : St, σ4 = st_A σ3 14 u1.toNatClampNeg (x1 &&& (-x1)) → (vp_in u1 121 ∧ (∀ σ5 : St, σ5 = st_A σ4 15 u1.toNatClampNeg (0 : Int32) → (post (1 : Int32) σ5))))))))))))))
def wX6_openPlace (σ0 : St) (a1 : Int32) (a3 : Int32) (post : Int32 → St → Prop) : Prop := ∃ n6 : Nat, lpX6_openPlace_3 a1 a3 σ0 post n6 (0 : Int32)
set_option maxHeartbeats 4000000 in
set_option maxRecDepth 100000 in
theorem mtX6_openPlace (l : Launch) (D : va_G) (ad : Nat → Nat) (cI cJ cZ : ClassId) (A : Nat → Prop) (hD : ∀ σ : St, va_D A (xw ad cI cJ cZ σ)) (σ0 : St) (a1 : Int32) (a3 : Int32) (post : Int32 → St → Prop) (hw : wX6_openPlace σ0 a1 a3 post) : Met l yX6_openPlace wsX6_openPlace ({ frames := 0, cells := 0, slots := 0, locals := 0 } : Room) (va_Pc [.ref (ad 5), .int a1, .ref (ad 10), .int a3] (wd_pre D (xw ad cI cJ cZ) (wd_tys cI cJ cZ) σ0)) (va_Qi post (wd_B D (xw ad cI cJ cZ)) A) 0 0 A := by
  refine Met.ofW (cc := cX6_openPlace) (maxL := 6) (ret := (some .boolean)) (by decide) rfl ?_
  intro p e s m args below meth c s₁ B hml hv
  obtain ⟨rfl, hP, hK, hN⟩ := hv
  have hx := B.exec
  have hb := B.bytes
  have hr := B.returns
  have hts := atoms_spec (ws := wsX6_openPlace) B.pre
  have hown : s.vm.findClass RX6 = some m.cls := findClass_of_methodNamed B.named
  have hlocks := B.notSynchronized
  have hS : va_S A s.heap s.heap [] := va_S.rf
  have f37 := hts (.fieldLink RX6 37 "LeastRights$RoleTree" "covered" "[I") (by decide +kernel)
  have iX6 : ∀ w ∈ wsX60, w ∈ wsX6_openPlace := by decide +kernel
  have f28 := hts (.fieldLink RX6 28 "LeastRights$RoleTree" "bound" "[I") (by decide +kernel)
  have f31 := hts (.fieldLink RX6 31 "LeastRights$RoleTree" "rightBit" "[I") (by decide +kernel)
  have f34 := hts (.fieldLink RX6 34 "LeastRights$RoleTree" "next" "[I") (by decide +kernel)
  have L3 : ∀ (u1 : Int32) (u3 : Int32) (σ : St) (n : Nat) (v4 : Int32) (H : Heap) (locs : List Loc) (ls : Array Slot), lpX6_openPlace_3 u1 u3 σ post n v4 → va_P D vwCl (xw ad cI cJ cZ σ) H → va_S A s.heap H locs → lv_has ls 6 [(0, .ref (ad 5)), (2, .ref (ad 10)), (1, .int u1), (3, .int u3), (4, .int v4)] → W p l e (headSpec wsX6_openPlace ({ frames := 0, cells := 0, slots := 0, locals := 0 } : Room)).room s m ([.ref (ad 5), .int a1, .ref (ad 10), .int a3] : List Value).toArray below meth c H locs 0 0 (MQ below (va_Qi post (wd_B D (xw ad cI cJ cZ)) A) ([.ref (ad 5), .int a1, .ref (ad 10), .int a3] : List Value).toArray s 0 0 A) (F0 m 3 ls []) := by
    intro u1 u3 σ n
    induction n with
    | zero => intro v4 H locs ls hw; exact hw.elim
    | succ n ih =>
      intro v4 H locs ls hw hP hS hl
      rw [lpX6_openPlace_3] at hw
      refine lv_iload hx hb dX6_openPlace_3 (lv_at hl 4 rfl) ?_
      refine lv_iload_n hx hb dX6_openPlace_5 rfl (lv_at hl 3 rfl) ?_
      refine lv_icmp_ge (tgt := 72) hx hb dX6_openPlace_6 (by decide) (fun c9 => ?_) (fun c9 => ?_)
      · have hw := hw.1 c9
        refine lv_iconst (v := 0) hx hb dX6_openPlace_72 (by decide) ?_
        exact wd_zret hx hb hr hlocks (by decide) hw hP hS dX6_openPlace_73
      · have hw := hw.2 c9
        refine lv_aload_n hx hb dX6_openPlace_9 rfl (lv_at hl 1 rfl) ?_
        refine lv_iload hx hb dX6_openPlace_10 (lv_at hl 4 rfl) ?_
        obtain ⟨h9, hw⟩ := hw
        refine va_iald hx hb hK hP 10 0 (xw_q10 ad cI cJ cZ σ) rfl h9 dX6_openPlace_12 ?_
        refine lv_aload_n hx hb dX6_openPlace_13 rfl (lv_at hl 0 rfl) ?_
        refine va_get hx hb hts iX6 hown hK hP 5 (xw_q5 ad cI cJ cZ σ) rfl 8 (by decide) f37 (fun _ h9 => h9) rfl dX6_openPlace_14 ?_
        refine lv_iload_n hx hb dX6_openPlace_17 rfl (lv_at hl 2 rfl) ?_
        refine lv_bipush (v := 10) hx hb dX6_openPlace_18 (by decide) ?_
        refine lv_imul hx hb dX6_openPlace_20 ?_
        refine lv_iload hx hb dX6_openPlace_21 (lv_at hl 4 rfl) ?_
        refine lv_iadd hx hb dX6_openPlace_23 ?_
        obtain ⟨h9, hw⟩ := hw
        refine va_iald hx hb hK hP 26 0 (xw_q26 ad cI cJ cZ σ) rfl h9 dX6_openPlace_24 ?_
        refine lv_iconst (v := -1) hx hb dX6_openPlace_25 (by decide) ?_
        refine lv_ixor hx hb dX6_openPlace_26 ?_
        refine lv_iand hx hb dX6_openPlace_27 ?_
        refine lv_topi (fun x1 ex1 => ?_)
        have hw := hw x1 ex1
        refine lv_istore (lv' := [(5, .int x1), (0, .ref (ad 5)), (2, .ref (ad 10)), (1, .int u1), (3, .int u3), (4, .int v4)]) hx hb dX6_openPlace_28 hl (by decide) rfl (fun ls hl => ?_)
        refine lv_iload hx hb dX6_openPlace_30 (lv_at hl 0 rfl) ?_
        refine lv_if_eq (tgt := 66) hx hb dX6_openPlace_32 (by decide) (fun c9 => ?_) (fun c9 => ?_)
        · have hw := hw.1 c9
          obtain ⟨x2, ex2⟩ : ∃ z : Int32, z = v4 + (1 : Int32) := ⟨_, rfl⟩
          refine lv_iinc (v := x2) (lv' := [(4, .int x2), (5, .int x1), (0, .ref (ad 5)), (2, .ref (ad 10)), (1, .int u1), (3, .int u3)]) hx hb dX6_openPlace_66 hl (k := 5) rfl (by rw [ex2]; rfl) (by decide) rfl (fun ls hl => ?_)
          have hw := hw x2 ex2
          refine lv_goto (tgt := 3) hx hb dX6_openPlace_69 (by decide) ?_
          exact ih _ _ _ _ hw hP hS (lv_sub hl [2, 3, 4, 5, 0] rfl)
        · have hw := hw.2 c9
          refine lv_aload_n hx hb dX6_openPlace_35 rfl (lv_at hl 1 rfl) ?_
          refine va_get hx hb hts iX6 hown hK hP 5 (xw_q5 ad cI cJ cZ σ) rfl 5 (by decide) f28 (fun _ h9 => h9) rfl dX6_openPlace_36 ?_
          refine lv_iload_n hx hb dX6_openPlace_39 rfl (lv_at hl 3 rfl) ?_
          refine lv_aload_n hx hb dX6_openPlace_40 rfl (lv_at hl 2 rfl) ?_
          refine lv_iload hx hb dX6_openPlace_41 (lv_at hl 5 rfl) ?_
          obtain ⟨h9, hw⟩ := hw
          refine va_iald hx hb hK hP 10 0 (xw_q10 ad cI cJ cZ σ) rfl h9 dX6_openPlace_43 ?_
          obtain ⟨h9, hw⟩ := hw
          refine wd_iast 13 23 hx hb hK hP hD hS (xw_q23 ad cI cJ cZ σ) rfl (xw_a13 ad cI cJ cZ σ) h9 dX6_openPlace_44 (fun H locs σ3 eσ3 hP hS => ?_)
          have hw := hw σ3 eσ3
          refine lv_aload_n hx hb dX6_openPlace_45 rfl (lv_at hl 1 rfl) ?_
          refine va_get hx hb hts iX6 hown hK hP 5 (xw_q5 ad cI cJ cZ σ3) rfl 6 (by decide) f31 (fun _ h9 => h9) rfl dX6_openPlace_46 ?_
          refine lv_iload_n hx hb dX6_openPlace_49 rfl (lv_at hl 3 rfl) ?_
          refine lv_iload hx hb dX6_openPlace_50 (lv_at hl 0 rfl) ?_
          refine lv_iload hx hb dX6_openPlace_52 (lv_at hl 0 rfl) ?_
          refine lv_ineg hx hb dX6_openPlace_54 ?_
          refine lv_iand hx hb dX6_openPlace_55 ?_
          obtain ⟨h9, hw⟩ := hw
          refine wd_iast 14 24 hx hb hK hP hD hS (xw_q24 ad cI cJ cZ σ3) rfl (xw_a14 ad cI cJ cZ σ3) h9 dX6_openPlace_56 (fun H locs σ4 eσ4 hP hS => ?_)
          have hw := hw σ4 eσ4
          refine lv_aload_n hx hb dX6_openPlace_57 rfl (lv_at hl 1 rfl) ?_
          refine va_get hx hb hts iX6 hown hK hP 5 (xw_q5 ad cI cJ cZ σ4) rfl 7 (by decide) f34 (fun _ h9 => h9) rfl dX6_openPlace_58 ?_
          refine lv_iload_n hx hb dX6_openPlace_61 rfl (lv_at hl 3 rfl) ?_
          refine lv_iconst (v := 0) hx hb dX6_openPlace_62 (by decide) ?_
          obtain ⟨h9, hw⟩ := hw
          refine wd_iast 15 25 hx hb hK hP hD hS (xw_q25 ad cI cJ cZ σ4) rfl (xw_a15 ad cI cJ cZ σ4) h9 dX6_openPlace_63 (fun H locs σ5 eσ5 hP hS => ?_)
          have hw := hw σ5 eσ5
          refine lv_iconst (v := 1) hx hb dX6_openPlace_64 (by decide) ?_
          exact wd_zret hx hb hr hlocks (by decide) hw hP hS dX6_openPlace_65
  have hl := lv_entry ([.ref (ad 5), .int a1, .ref (ad 10), .int a3]) (n := 6) (Nat.le_of_ble_eq_true rfl)
  rw [lg_entry_eq]
  generalize (lg_sl ([.ref (ad 5), .int a1, .ref (ad 10), .int a3]) ++ List.replicate (6 - (lg_sl ([.ref (ad 5), .int a1, .ref (ad 10), .int a3])).length) Slot.unset).toArray = ls at hl ⊢
  have hl : lv_has ls 6 [(0, .ref (ad 5)), (1, .int a1), (2, .ref (ad 10)), (3, .int a3)] := hl
  unfold wX6_openPlace at hw
  refine lv_iconst (v := 0) hx hb dX6_openPlace_0 (by decide) ?_
  refine lv_istore (lv' := [(4, .int (0 : Int32)), (0, .ref (ad 5)), (1, .int a1), (2, .ref (ad 10)), (3, .int a3)]) hx hb dX6_openPlace_1 hl (by decide) rfl (fun ls hl => ?_)
  obtain ⟨n9, hw⟩ := hw
  refine L3 a1 a3 σ0 n9 (0 : Int32) _ _ _ hw hP hS (lv_sub hl [1, 3, 2, 4, 0] rfl)
def lpX6_nextOf_7 (u1 : Int32) (σ : St) (K81 : Prop) (post : Int32 → St → Prop) : Nat → Int32 → Prop
  | 0, _ => False
  | n + 1, v3 => ((σ.1 8) ≤ v3 → (K81)) ∧ (¬ (σ.1 8) ≤ v3 → (vp_in v3 1023 ∧ (∀ x2 : Int32, x2 = (σ.2.1 9 v3.toNatClampNeg) → (vp_in u1 121 ∧ ((x2 ≤ (σ.2.1 13 u1.toNatClampNeg) → (vp_in u1 121 ∧ (((x2 &&& (σ.2.1 14 u1.toNatClampNeg)) = 0 → (∀ x3 : Int32, x3 = v3 + (1 : Int32) → (lpX6_nextOf_7 u1 σ K81 post n x3))) ∧ (¬ (x2 &&& (σ.2.1 14 u1.toNatClampNeg)) = 0 → (vp_in u1 121 ∧ ((¬ (x2 &&& ((σ.2.1 13 u1.toNatClampNeg) ^^^ (-1 : Int32))) = 0 → (∀ x4 : Int32, x4 = v3 + (1 : Int32) → (lpX6_nextOf_7 u1 σ K81 post n x4))) ∧ ((x2 &&& ((σ.2.1 13 u1.toNatClampNeg) ^^^ (-1 : Int32))) = 0 → (vp_in u1 121 ∧ (∀ σ5 : St, σ5 = st_A σ 15 u1.toNatClampNeg (v3 + (1 : Int32)) → (post x2 σ5)))))))))) ∧ (¬ x2 ≤ (σ.2.1 13 u1.toNatClampNeg) → (K81)))))))
def wX6_nextOf (σ0 : St) (a1 : Int32) (post : Int32 → St → Prop) : Prop := vp_in a1 121 ∧ (∀ x1 : Int32, x1 = (σ0.2.1 15 a1.toNatClampNeg) → (∃ n7 : Nat, lpX6_nextOf_7 a1 σ0 (vp_in a1 121 ∧ (∀ σ6 : St, σ6 = st_A σ0 15 a1.toNatClampNeg (σ0.1 8) → (post (0 : Int32) σ6))) post n7 x1))
set_option maxHeartbeats 4000000 in
set_option maxRecDepth 100000 in
theorem mtX6_nextOf (l : Launch) (D : va_G) (ad : Nat → Nat) (cI cJ cZ : ClassId) (A : Nat → Prop) (hD : ∀ σ : St, va_D A (xw ad cI cJ cZ σ)) (σ0 : St) (a1 : Int32) (post : Int32 → St → Prop) (hw : wX6_nextOf σ0 a1 post) : Met l yX6_nextOf wsX6_nextOf ({ frames := 0, cells := 0, slots := 0, locals := 0 } : Room) (va_Pc [.ref (ad 5), .int a1, .ref (ad 4)] (wd_pre D (xw ad cI cJ cZ) (wd_tys cI cJ cZ) σ0)) (va_Qi post (wd_B D (xw ad cI cJ cZ)) A) 0 0 A := by
  refine Met.ofW (cc := cX6_nextOf) (maxL := 5) (ret := (some .int)) (by decide) rfl ?_
  intro p e s m args below meth c s₁ B hml hv
  obtain ⟨rfl, hP, hK, hN⟩ := hv
  have hx := B.exec
  have hb := B.bytes
  have hr := B.returns
  have hts := atoms_spec (ws := wsX6_nextOf) B.pre
  have hown : s.vm.findClass RX6 = some m.cls := findClass_of_methodNamed B.named
  have hlocks := B.notSynchronized
  have hS : va_S A s.heap s.heap [] := va_S.rf
  have f34 := hts (.fieldLink RX6 34 "LeastRights$RoleTree" "next" "[I") (by decide +kernel)
  have iX6 : ∀ w ∈ wsX60, w ∈ wsX6_nextOf := by decide +kernel
  have n60 := va_Nw.use (A := ([.ref (ad 5), .int a1, .ref (ad 4)] : List Value).toArray) rfl (hN.1 ("LeastRights$RoleTree", 60, "LeastRights$Candidates", "size", "I") (by decide +kernel))
  have iX1 : ∀ w ∈ wsX10, w ∈ wsX6_nextOf := by decide +kernel
  have n63 := va_Nw.use (A := ([.ref (ad 5), .int a1, .ref (ad 4)] : List Value).toArray) rfl (hN.1 ("LeastRights$RoleTree", 63, "LeastRights$Candidates", "sets", "[I") (by decide +kernel))
  have f28 := hts (.fieldLink RX6 28 "LeastRights$RoleTree" "bound" "[I") (by decide +kernel)
  have f31 := hts (.fieldLink RX6 31 "LeastRights$RoleTree" "rightBit" "[I") (by decide +kernel)
  have L7 : ∀ (u1 : Int32) (σ : St) (K81 : Prop) (_ : ∀ (H : Heap) (locs : List Loc) (ls : Array Slot), K81 → va_P D vwCl (xw ad cI cJ cZ σ) H → va_S A s.heap H locs → lv_has ls 5 [(0, .ref (ad 5)), (2, .ref (ad 4)), (1, .int u1)] → W p l e (headSpec wsX6_nextOf ({ frames := 0, cells := 0, slots := 0, locals := 0 } : Room)).room s m ([.ref (ad 5), .int a1, .ref (ad 4)] : List Value).toArray below meth c H locs 0 0 (MQ below (va_Qi post (wd_B D (xw ad cI cJ cZ)) A) ([.ref (ad 5), .int a1, .ref (ad 4)] : List Value).toArray s 0 0 A) (F0 m 81 ls [])) (n : Nat) (v3 : Int32) (H : Heap) (locs : List Loc) (ls : Array Slot), lpX6_nextOf_7 u1 σ K81 post n v3 → va_P D vwCl (xw ad cI cJ cZ σ) H → va_S A s.heap H locs → lv_has ls 5 [(0, .ref (ad 5)), (2, .ref (ad 4)), (1, .int u1), (3, .int v3)] → W p l e (headSpec wsX6_nextOf ({ frames := 0, cells := 0, slots := 0, locals := 0 } : Room)).room s m ([.ref (ad 5), .int a1, .ref (ad 4)] : List Value).toArray below meth c H locs 0 0 (MQ below (va_Qi post (wd_B D (xw ad cI cJ cZ)) A) ([.ref (ad 5), .int a1, .ref (ad 4)] : List Value).toArray s 0 0 A) (F0 m 7 ls []) := by
    intro u1 σ K81 hK81 n
    induction n with
    | zero => intro v3 H locs ls hw; exact hw.elim
    | succ n ih =>
      intro v3 H locs ls hw hP hS hl
      rw [lpX6_nextOf_7] at hw
      refine lv_iload_n hx hb dX6_nextOf_7 rfl (lv_at hl 3 rfl) ?_
      refine lv_aload_n hx hb dX6_nextOf_8 rfl (lv_at hl 1 rfl) ?_
      refine va_getN hx hb hts iX1 hown hK hP 4 (xw_q4 ad cI cJ cZ σ) rfl 0 (by decide) n60 (fun _ h9 => h9) rfl dX6_nextOf_9 ?_
      refine lv_icmp_ge (tgt := 81) hx hb dX6_nextOf_12 (by decide) (fun c9 => ?_) (fun c9 => ?_)
      · have hw := hw.1 c9
        exact hK81 _ _ _ hw hP hS (lv_sub hl [0, 1, 2] rfl)
      · have hw := hw.2 c9
        refine lv_aload_n hx hb dX6_nextOf_15 rfl (lv_at hl 1 rfl) ?_
        refine va_getN hx hb hts iX1 hown hK hP 4 (xw_q4 ad cI cJ cZ σ) rfl 1 (by decide) n63 (fun _ h9 => h9) rfl dX6_nextOf_16 ?_
        refine lv_iload_n hx hb dX6_nextOf_19 rfl (lv_at hl 3 rfl) ?_
        obtain ⟨h9, hw⟩ := hw
        refine va_iald hx hb hK hP 19 0 (xw_q19 ad cI cJ cZ σ) rfl h9 dX6_nextOf_20 ?_
        refine lv_topi (fun x2 ex2 => ?_)
        have hw := hw x2 ex2
        refine lv_istore (lv' := [(4, .int x2), (0, .ref (ad 5)), (2, .ref (ad 4)), (1, .int u1), (3, .int v3)]) hx hb dX6_nextOf_21 hl (by decide) rfl (fun ls hl => ?_)
        refine lv_iload hx hb dX6_nextOf_23 (lv_at hl 0 rfl) ?_
        refine lv_aload_n hx hb dX6_nextOf_25 rfl (lv_at hl 1 rfl) ?_
        refine va_get hx hb hts iX6 hown hK hP 5 (xw_q5 ad cI cJ cZ σ) rfl 5 (by decide) f28 (fun _ h9 => h9) rfl dX6_nextOf_26 ?_
        refine lv_iload_n hx hb dX6_nextOf_29 rfl (lv_at hl 3 rfl) ?_
        obtain ⟨h9, hw⟩ := hw
        refine va_iald hx hb hK hP 23 0 (xw_q23 ad cI cJ cZ σ) rfl h9 dX6_nextOf_30 ?_
        refine lv_icmp_le (tgt := 37) hx hb dX6_nextOf_31 (by decide) (fun c9 => ?_) (fun c9 => ?_)
        · have hw := hw.1 c9
          refine lv_iload hx hb dX6_nextOf_37 (lv_at hl 0 rfl) ?_
          refine lv_aload_n hx hb dX6_nextOf_39 rfl (lv_at hl 1 rfl) ?_
          refine va_get hx hb hts iX6 hown hK hP 5 (xw_q5 ad cI cJ cZ σ) rfl 6 (by decide) f31 (fun _ h9 => h9) rfl dX6_nextOf_40 ?_
          refine lv_iload_n hx hb dX6_nextOf_43 rfl (lv_at hl 3 rfl) ?_
          obtain ⟨h9, hw⟩ := hw
          refine va_iald hx hb hK hP 24 0 (xw_q24 ad cI cJ cZ σ) rfl h9 dX6_nextOf_44 ?_
          refine lv_iand hx hb dX6_nextOf_45 ?_
          refine lv_if_eq (tgt := 75) hx hb dX6_nextOf_46 (by decide) (fun c9 => ?_) (fun c9 => ?_)
          · have hw := hw.1 c9
            obtain ⟨x3, ex3⟩ : ∃ z : Int32, z = v3 + (1 : Int32) := ⟨_, rfl⟩
            refine lv_iinc (v := x3) (lv' := [(3, .int x3), (4, .int x2), (0, .ref (ad 5)), (2, .ref (ad 4)), (1, .int u1)]) hx hb dX6_nextOf_75 hl (k := 4) rfl (by rw [ex3]; rfl) (by decide) rfl (fun ls hl => ?_)
            have hw := hw x3 ex3
            refine lv_goto (tgt := 7) hx hb dX6_nextOf_78 (by decide) ?_
            exact ih _ _ _ _ hw hP hS (lv_sub hl [2, 3, 4, 0] rfl)
          · have hw := hw.2 c9
            refine lv_iload hx hb dX6_nextOf_49 (lv_at hl 0 rfl) ?_
            refine lv_aload_n hx hb dX6_nextOf_51 rfl (lv_at hl 1 rfl) ?_
            refine va_get hx hb hts iX6 hown hK hP 5 (xw_q5 ad cI cJ cZ σ) rfl 5 (by decide) f28 (fun _ h9 => h9) rfl dX6_nextOf_52 ?_
            refine lv_iload_n hx hb dX6_nextOf_55 rfl (lv_at hl 3 rfl) ?_
            obtain ⟨h9, hw⟩ := hw
            refine va_iald hx hb hK hP 23 0 (xw_q23 ad cI cJ cZ σ) rfl h9 dX6_nextOf_56 ?_
            refine lv_iconst (v := -1) hx hb dX6_nextOf_57 (by decide) ?_
            refine lv_ixor hx hb dX6_nextOf_58 ?_
            refine lv_iand hx hb dX6_nextOf_59 ?_
            refine lv_if_ne (tgt := 75) hx hb dX6_nextOf_60 (by decide) (fun c9 => ?_) (fun c9 => ?_)
            · have hw := hw.1 c9
              obtain ⟨x4, ex4⟩ : ∃ z : Int32, z = v3 + (1 : Int32) := ⟨_, rfl⟩
              refine lv_iinc (v := x4) (lv' := [(3, .int x4), (4, .int x2), (0, .ref (ad 5)), (2, .ref (ad 4)), (1, .int u1)]) hx hb dX6_nextOf_75 hl (k := 4) rfl (by rw [ex4]; rfl) (by decide) rfl (fun ls hl => ?_)
              have hw := hw x4 ex4
              refine lv_goto (tgt := 7) hx hb dX6_nextOf_78 (by decide) ?_
              exact ih _ _ _ _ hw hP hS (lv_sub hl [2, 3, 4, 0] rfl)
            · have hw := hw.2 c9
              refine lv_aload_n hx hb dX6_nextOf_63 rfl (lv_at hl 1 rfl) ?_
              refine va_get hx hb hts iX6 hown hK hP 5 (xw_q5 ad cI cJ cZ σ) rfl 7 (by decide) f34 (fun _ h9 => h9) rfl dX6_nextOf_64 ?_
              refine lv_iload_n hx hb dX6_nextOf_67 rfl (lv_at hl 3 rfl) ?_
              refine lv_iload_n hx hb dX6_nextOf_68 rfl (lv_at hl 4 rfl) ?_
              refine lv_iconst (v := 1) hx hb dX6_nextOf_69 (by decide) ?_
              refine lv_iadd hx hb dX6_nextOf_70 ?_
              obtain ⟨h9, hw⟩ := hw
              refine wd_iast 15 25 hx hb hK hP hD hS (xw_q25 ad cI cJ cZ σ) rfl (xw_a15 ad cI cJ cZ σ) h9 dX6_nextOf_71 (fun H locs σ5 eσ5 hP hS => ?_)
              have hw := hw σ5 eσ5
              refine lv_iload hx hb dX6_nextOf_72 (lv_at hl 0 rfl) ?_
              exact wd_iret hx hb hr hlocks hw hP hS dX6_nextOf_74
        · have hw := hw.2 c9
          refine lv_goto (tgt := 81) hx hb dX6_nextOf_34 (by decide) ?_
          exact hK81 _ _ _ hw hP hS (lv_sub hl [1, 2, 3] rfl)
  have hl := lv_entry ([.ref (ad 5), .int a1, .ref (ad 4)]) (n := 5) (Nat.le_of_ble_eq_true rfl)
  rw [lg_entry_eq]
  generalize (lg_sl ([.ref (ad 5), .int a1, .ref (ad 4)]) ++ List.replicate (5 - (lg_sl ([.ref (ad 5), .int a1, .ref (ad 4)])).length) Slot.unset).toArray = ls at hl ⊢
  have hl : lv_has ls 5 [(0, .ref (ad 5)), (1, .int a1), (2, .ref (ad 4))] := hl
  unfold wX6_nextOf at hw
  refine lv_aload_n hx hb dX6_nextOf_0 rfl (lv_at hl 0 rfl) ?_
  refine va_get hx hb hts iX6 hown hK hP 5 (xw_q5 ad cI cJ cZ σ0) rfl 7 (by decide) f34 (fun _ h9 => h9) rfl dX6_nextOf_1 ?_
  refine lv_iload_n hx hb dX6_nextOf_4 rfl (lv_at hl 1 rfl) ?_
  obtain ⟨h9, hw⟩ := hw
  refine va_iald hx hb hK hP 25 0 (xw_q25 ad cI cJ cZ σ0) rfl h9 dX6_nextOf_5 ?_
  refine lv_topi (fun x1 ex1 => ?_)
  have hw := hw x1 ex1
  refine lv_istore_n (lv' := [(3, .int x1), (0, .ref (ad 5)), (1, .int a1), (2, .ref (ad 4))]) hx hb dX6_nextOf_6 rfl hl (by decide) rfl (fun ls hl => ?_)
  obtain ⟨n9, hw⟩ := hw
  refine L7 a1 σ0 _ ?_ n9 x1 _ _ _ hw hP hS (lv_sub hl [1, 3, 2, 0] rfl)
  · intro H locs ls hw hP hS hl
    refine lv_aload_n hx hb dX6_nextOf_81 rfl (lv_at hl 0 rfl) ?_
    refine va_get hx hb hts iX6 hown hK hP 5 (xw_q5 ad cI cJ cZ σ0) rfl 7 (by decide) f34 (fun _ h9 => h9) rfl dX6_nextOf_82 ?_
    refine lv_iload_n hx hb dX6_nextOf_85 rfl (lv_at hl 2 rfl) ?_
    refine lv_aload_n hx hb dX6_nextOf_86 rfl (lv_at hl 1 rfl) ?_
    refine va_getN hx hb hts iX1 hown hK hP 4 (xw_q4 ad cI cJ cZ σ0) rfl 0 (by decide) n60 (fun _ h9 => h9) rfl dX6_nextOf_87 ?_
    obtain ⟨h9, hw⟩ := hw
    refine wd_iast 15 25 hx hb hK hP hD hS (xw_q25 ad cI cJ cZ σ0) rfl (xw_a15 ad cI cJ cZ σ0) h9 dX6_nextOf_90 (fun H locs σ6 eσ6 hP hS => ?_)
    have hw := hw σ6 eσ6
    refine lv_iconst (v := 0) hx hb dX6_nextOf_91 (by decide) ?_
    exact wd_iret hx hb hr hlocks hw hP hS dX6_nextOf_92
def lpX6_cover_9 (u2 : Int32) (u4 : Int32) (u5 : Int32) (post : St → Prop) : Nat → Int32 → St → Prop
  | 0, _, _ => False
  | n + 1, v6, σ => (u4 ≤ v6 → (post σ)) ∧ (¬ u4 ≤ v6 → (vp_in v6 10 ∧ ((¬ (u2 &&& ((σ.2.1 0 v6.toNatClampNeg) ^^^ (-1 : Int32))) = 0 → (vp_in (u5 + v6) 1210 ∧ (vp_in ((u5 + (10 : Int32)) + v6) 1210 ∧ (∀ σ2 : St, σ2 = st_A σ 16 ((u5 + (10 : Int32)) + v6).toNatClampNeg ((σ.2.1 16 (u5 + v6).toNatClampNeg) ||| (0 : Int32)) → (∀ x3 : Int32, x3 = v6 + (1 : Int32) → (lpX6_cover_9 u2 u4 u5 post n x3 σ2)))))) ∧ ((u2 &&& ((σ.2.1 0 v6.toNatClampNeg) ^^^ (-1 : Int32))) = 0 → (vp_in (u5 + v6) 1210 ∧ (vp_in ((u5 + (10 : Int32)) + v6) 1210 ∧ (∀ σ4 : St, σ4 = st_A σ 16 ((u5 + (10 : Int32)) + v6).toNatClampNeg ((σ.2.1 16 (u5 + v6).toNatClampNeg) ||| u2) → (∀ x5 : Int32, x5 = v6 + (1 : Int32) → (lpX6_cover_9 u2 u4 u5 post n x5 σ4)))))))))
def wX6_cover (σ0 : St) (a1 : Int32) (a2 : Int32) (a4 : Int32) (post : St → Prop) : Prop := ∀ x1 : Int32, x1 = (a1 * (10 : Int32)) → (∃ n6 : Nat, lpX6_cover_9 a2 a4 x1 post n6 (0 : Int32) σ0)
set_option maxHeartbeats 4000000 in
set_option maxRecDepth 100000 in
theorem mtX6_cover (l : Launch) (D : va_G) (ad : Nat → Nat) (cI cJ cZ : ClassId) (A : Nat → Prop) (hD : ∀ σ : St, va_D A (xw ad cI cJ cZ σ)) (σ0 : St) (a1 : Int32) (a2 : Int32) (a4 : Int32) (post : St → Prop) (hw : wX6_cover σ0 a1 a2 a4 post) : Met l yX6_cover wsX6_cover ({ frames := 0, cells := 0, slots := 0, locals := 0 } : Room) (va_Pc [.ref (ad 5), .int a1, .int a2, .ref (ad 10), .int a4] (wd_pre D (xw ad cI cJ cZ) (wd_tys cI cJ cZ) σ0)) (va_Qv post (wd_B D (xw ad cI cJ cZ)) A) 0 0 A := by
  refine Met.ofW (cc := cX6_cover) (maxL := 8) (ret := none) (by decide) rfl ?_
  intro p e s m args below meth c s₁ B hml hv
  obtain ⟨rfl, hP, hK, hN⟩ := hv
  have hx := B.exec
  have hb := B.bytes
  have hr := B.returns
  have hts := atoms_spec (ws := wsX6_cover) B.pre
  have hown : s.vm.findClass RX6 = some m.cls := findClass_of_methodNamed B.named
  have hlocks := B.notSynchronized
  have hS : va_S A s.heap s.heap [] := va_S.rf
  have f37 := hts (.fieldLink RX6 37 "LeastRights$RoleTree" "covered" "[I") (by decide +kernel)
  have iX6 : ∀ w ∈ wsX60, w ∈ wsX6_cover := by decide +kernel
  have L9 : ∀ (u2 : Int32) (u4 : Int32) (u5 : Int32) (n : Nat) (v6 : Int32) (σ : St) (H : Heap) (locs : List Loc) (ls : Array Slot), lpX6_cover_9 u2 u4 u5 post n v6 σ → va_P D vwCl (xw ad cI cJ cZ σ) H → va_S A s.heap H locs → lv_has ls 8 [(0, .ref (ad 5)), (3, .ref (ad 10)), (2, .int u2), (4, .int u4), (5, .int u5), (6, .int v6)] → W p l e (headSpec wsX6_cover ({ frames := 0, cells := 0, slots := 0, locals := 0 } : Room)).room s m ([.ref (ad 5), .int a1, .int a2, .ref (ad 10), .int a4] : List Value).toArray below meth c H locs 0 0 (MQ below (va_Qv post (wd_B D (xw ad cI cJ cZ)) A) ([.ref (ad 5), .int a1, .int a2, .ref (ad 10), .int a4] : List Value).toArray s 0 0 A) (F0 m 9 ls []) := by
    intro u2 u4 u5 n
    induction n with
    | zero => intro v6 σ H locs ls hw; exact hw.elim
    | succ n ih =>
      intro v6 σ H locs ls hw hP hS hl
      rw [lpX6_cover_9] at hw
      refine lv_iload hx hb dX6_cover_9 (lv_at hl 5 rfl) ?_
      refine lv_iload hx hb dX6_cover_11 (lv_at hl 3 rfl) ?_
      refine lv_icmp_ge (tgt := 66) hx hb dX6_cover_13 (by decide) (fun c9 => ?_) (fun c9 => ?_)
      · have hw := hw.1 c9
        exact wd_vret hx hb hr hlocks hw hP hS dX6_cover_66
      · have hw := hw.2 c9
        refine lv_iload_n hx hb dX6_cover_16 rfl (lv_at hl 2 rfl) ?_
        refine lv_aload_n hx hb dX6_cover_17 rfl (lv_at hl 1 rfl) ?_
        refine lv_iload hx hb dX6_cover_18 (lv_at hl 5 rfl) ?_
        obtain ⟨h9, hw⟩ := hw
        refine va_iald hx hb hK hP 10 0 (xw_q10 ad cI cJ cZ σ) rfl h9 dX6_cover_20 ?_
        refine lv_iconst (v := -1) hx hb dX6_cover_21 (by decide) ?_
        refine lv_ixor hx hb dX6_cover_22 ?_
        refine lv_iand hx hb dX6_cover_23 ?_
        refine lv_if_ne (tgt := 31) hx hb dX6_cover_24 (by decide) (fun c9 => ?_) (fun c9 => ?_)
        · have hw := hw.1 c9
          refine lv_iconst (v := 0) hx hb dX6_cover_31 (by decide) ?_
          refine lv_istore (lv' := [(7, .int (0 : Int32)), (0, .ref (ad 5)), (3, .ref (ad 10)), (2, .int u2), (4, .int u4), (5, .int u5), (6, .int v6)]) hx hb dX6_cover_32 hl (by decide) rfl (fun ls hl => ?_)
          refine lv_aload_n hx hb dX6_cover_34 rfl (lv_at hl 1 rfl) ?_
          refine va_get hx hb hts iX6 hown hK hP 5 (xw_q5 ad cI cJ cZ σ) rfl 8 (by decide) f37 (fun _ h9 => h9) rfl dX6_cover_35 ?_
          refine lv_iload hx hb dX6_cover_38 (lv_at hl 5 rfl) ?_
          refine lv_bipush (v := 10) hx hb dX6_cover_40 (by decide) ?_
          refine lv_iadd hx hb dX6_cover_42 ?_
          refine lv_iload hx hb dX6_cover_43 (lv_at hl 6 rfl) ?_
          refine lv_iadd hx hb dX6_cover_45 ?_
          refine lv_aload_n hx hb dX6_cover_46 rfl (lv_at hl 1 rfl) ?_
          refine va_get hx hb hts iX6 hown hK hP 5 (xw_q5 ad cI cJ cZ σ) rfl 8 (by decide) f37 (fun _ h9 => h9) rfl dX6_cover_47 ?_
          refine lv_iload hx hb dX6_cover_50 (lv_at hl 5 rfl) ?_
          refine lv_iload hx hb dX6_cover_52 (lv_at hl 6 rfl) ?_
          refine lv_iadd hx hb dX6_cover_54 ?_
          obtain ⟨h9, hw⟩ := hw
          refine va_iald hx hb hK hP 26 0 (xw_q26 ad cI cJ cZ σ) rfl h9 dX6_cover_55 ?_
          refine lv_iload hx hb dX6_cover_56 (lv_at hl 0 rfl) ?_
          refine lv_ior hx hb dX6_cover_58 ?_
          obtain ⟨h9, hw⟩ := hw
          refine wd_iast 16 26 hx hb hK hP hD hS (xw_q26 ad cI cJ cZ σ) rfl (xw_a16 ad cI cJ cZ σ) h9 dX6_cover_59 (fun H locs σ2 eσ2 hP hS => ?_)
          have hw := hw σ2 eσ2
          obtain ⟨x3, ex3⟩ : ∃ z : Int32, z = v6 + (1 : Int32) := ⟨_, rfl⟩
          refine lv_iinc (v := x3) (lv' := [(6, .int x3), (7, .int (0 : Int32)), (0, .ref (ad 5)), (3, .ref (ad 10)), (2, .int u2), (4, .int u4), (5, .int u5)]) hx hb dX6_cover_60 hl (k := 6) rfl (by rw [ex3]; rfl) (by decide) rfl (fun ls hl => ?_)
          have hw := hw x3 ex3
          refine lv_goto (tgt := 9) hx hb dX6_cover_63 (by decide) ?_
          exact ih _ _ _ _ _ hw hP hS (lv_sub hl [2, 3, 4, 5, 6, 0] rfl)
        · have hw := hw.2 c9
          refine lv_iload_n hx hb dX6_cover_27 rfl (lv_at hl 2 rfl) ?_
          refine lv_goto (tgt := 32) hx hb dX6_cover_28 (by decide) ?_
          refine lv_istore (lv' := [(7, .int u2), (0, .ref (ad 5)), (3, .ref (ad 10)), (2, .int u2), (4, .int u4), (5, .int u5), (6, .int v6)]) hx hb dX6_cover_32 hl (by decide) rfl (fun ls hl => ?_)
          refine lv_aload_n hx hb dX6_cover_34 rfl (lv_at hl 1 rfl) ?_
          refine va_get hx hb hts iX6 hown hK hP 5 (xw_q5 ad cI cJ cZ σ) rfl 8 (by decide) f37 (fun _ h9 => h9) rfl dX6_cover_35 ?_
          refine lv_iload hx hb dX6_cover_38 (lv_at hl 5 rfl) ?_
          refine lv_bipush (v := 10) hx hb dX6_cover_40 (by decide) ?_
          refine lv_iadd hx hb dX6_cover_42 ?_
          refine lv_iload hx hb dX6_cover_43 (lv_at hl 6 rfl) ?_
          refine lv_iadd hx hb dX6_cover_45 ?_
          refine lv_aload_n hx hb dX6_cover_46 rfl (lv_at hl 1 rfl) ?_
          refine va_get hx hb hts iX6 hown hK hP 5 (xw_q5 ad cI cJ cZ σ) rfl 8 (by decide) f37 (fun _ h9 => h9) rfl dX6_cover_47 ?_
          refine lv_iload hx hb dX6_cover_50 (lv_at hl 5 rfl) ?_
          refine lv_iload hx hb dX6_cover_52 (lv_at hl 6 rfl) ?_
          refine lv_iadd hx hb dX6_cover_54 ?_
          obtain ⟨h9, hw⟩ := hw
          refine va_iald hx hb hK hP 26 0 (xw_q26 ad cI cJ cZ σ) rfl h9 dX6_cover_55 ?_
          refine lv_iload hx hb dX6_cover_56 (lv_at hl 0 rfl) ?_
          refine lv_ior hx hb dX6_cover_58 ?_
          obtain ⟨h9, hw⟩ := hw
          refine wd_iast 16 26 hx hb hK hP hD hS (xw_q26 ad cI cJ cZ σ) rfl (xw_a16 ad cI cJ cZ σ) h9 dX6_cover_59 (fun H locs σ4 eσ4 hP hS => ?_)
          have hw := hw σ4 eσ4
          obtain ⟨x5, ex5⟩ : ∃ z : Int32, z = v6 + (1 : Int32) := ⟨_, rfl⟩
          refine lv_iinc (v := x5) (lv' := [(6, .int x5), (7, .int u2), (0, .ref (ad 5)), (3, .ref (ad 10)), (2, .int u2), (4, .int u4), (5, .int u5)]) hx hb dX6_cover_60 hl (k := 6) rfl (by rw [ex5]; rfl) (by decide) rfl (fun ls hl => ?_)
          have hw := hw x5 ex5
          refine lv_goto (tgt := 9) hx hb dX6_cover_63 (by decide) ?_
          exact ih _ _ _ _ _ hw hP hS (lv_sub hl [2, 3, 4, 5, 6, 0] rfl)
  have hl := lv_entry ([.ref (ad 5), .int a1, .int a2, .ref (ad 10), .int a4]) (n := 8) (Nat.le_of_ble_eq_true rfl)
  rw [lg_entry_eq]
  generalize (lg_sl ([.ref (ad 5), .int a1, .int a2, .ref (ad 10), .int a4]) ++ List.replicate (8 - (lg_sl ([.ref (ad 5), .int a1, .int a2, .ref (ad 10), .int a4])).length) Slot.unset).toArray = ls at hl ⊢
  have hl : lv_has ls 8 [(0, .ref (ad 5)), (1, .int a1), (2, .int a2), (3, .ref (ad 10)), (4, .int a4)] := hl
  unfold wX6_cover at hw
  refine lv_iload_n hx hb dX6_cover_0 rfl (lv_at hl 1 rfl) ?_
  refine lv_bipush (v := 10) hx hb dX6_cover_1 (by decide) ?_
  refine lv_imul hx hb dX6_cover_3 ?_
  refine lv_topi (fun x1 ex1 => ?_)
  have hw := hw x1 ex1
  refine lv_istore (lv' := [(5, .int x1), (0, .ref (ad 5)), (1, .int a1), (2, .int a2), (3, .ref (ad 10)), (4, .int a4)]) hx hb dX6_cover_4 hl (by decide) rfl (fun ls hl => ?_)
  refine lv_iconst (v := 0) hx hb dX6_cover_6 (by decide) ?_
  refine lv_istore (lv' := [(6, .int (0 : Int32)), (5, .int x1), (0, .ref (ad 5)), (1, .int a1), (2, .int a2), (3, .ref (ad 10)), (4, .int a4)]) hx hb dX6_cover_7 hl (by decide) rfl (fun ls hl => ?_)
  obtain ⟨n9, hw⟩ := hw
  refine L9 a2 a4 x1 n9 (0 : Int32) σ0 _ _ _ hw hP hS (lv_sub hl [2, 5, 4, 6, 1, 0] rfl)
