/-! X10_in X10_meets X10_has X10_bits X10_isPerson X10_isRight X10_person X10_give X10_change X10_kindOf X10_keptOf X10_tells -/
def wX10_in (a0 : Int32) (a1 : Int32) (a2 : Int32) (post : Int32 → Prop) : Prop := (a0 < a1 → (post (0 : Int32))) ∧ (¬ a0 < a1 → ((a2 < a0 → (post (0 : Int32))) ∧ (¬ a2 < a0 → (post (1 : Int32)))))
set_option maxHeartbeats 4000000 in
set_option maxRecDepth 100000 in
theorem mtX10_in (l : Launch) (D : va_G) (am : Nat → Nat) (cI cJ cZ : ClassId) (A : Nat → Prop) (hD : ∀ σ : St, va_D A (mw am cI cJ cZ σ)) (σ0 : St) (a0 : Int32) (a1 : Int32) (a2 : Int32) (post : Int32 → Prop) (hw : wX10_in a0 a1 a2 post) : Met l yX10_in wsX10_in ({ frames := 0, cells := 0, slots := 0, locals := 0 } : Room) (va_Pc [.int a0, .int a1, .int a2] (wd_pre D (mw am cI cJ cZ) (wd_tys cI cJ cZ) σ0)) (va_Qi (fun (r : Int32) (u : St) => post r ∧ u = σ0) (wd_B D (mw am cI cJ cZ)) A) 0 0 A := by
  refine Met.ofW (cc := cX10_in) (maxL := 3) (ret := (some .boolean)) (by decide) rfl ?_
  intro p e s m args below meth c s₁ B hml hv
  obtain ⟨rfl, hP, hK, hN⟩ := hv
  have hx := B.exec
  have hb := B.bytes
  have hr := B.returns
  have hts := atoms_spec (ws := wsX10_in) B.pre
  have hown : s.vm.findClass RX10 = some m.cls := findClass_of_methodNamed B.named
  have hlocks := B.notSynchronized
  have hS : va_S A s.heap s.heap [] := va_S.rf
  have hl := lv_entry ([.int a0, .int a1, .int a2]) (n := 3) (Nat.le_of_ble_eq_true rfl)
  rw [lg_entry_eq]
  generalize (lg_sl ([.int a0, .int a1, .int a2]) ++ List.replicate (3 - (lg_sl ([.int a0, .int a1, .int a2])).length) Slot.unset).toArray = ls at hl ⊢
  have hl : lv_has ls 3 [(0, .int a0), (1, .int a1), (2, .int a2)] := hl
  unfold wX10_in at hw
  refine lv_iload_n hx hb dX10_in_0 rfl (lv_at hl 0 rfl) ?_
  refine lv_iload_n hx hb dX10_in_1 rfl (lv_at hl 1 rfl) ?_
  refine lv_icmp_lt (tgt := 14) hx hb dX10_in_2 (by decide) (fun c9 => ?_) (fun c9 => ?_)
  · have hw := hw.1 c9
    refine lv_iconst (v := 0) hx hb dX10_in_14 (by decide) ?_
    exact wd_zret hx hb hr hlocks (by decide) ⟨hw, rfl⟩ hP hS dX10_in_15
  · have hw := hw.2 c9
    refine lv_iload_n hx hb dX10_in_5 rfl (lv_at hl 0 rfl) ?_
    refine lv_iload_n hx hb dX10_in_6 rfl (lv_at hl 2 rfl) ?_
    refine lv_icmp_gt (tgt := 14) hx hb dX10_in_7 (by decide) (fun c9 => ?_) (fun c9 => ?_)
    · have hw := hw.1 c9
      refine lv_iconst (v := 0) hx hb dX10_in_14 (by decide) ?_
      exact wd_zret hx hb hr hlocks (by decide) ⟨hw, rfl⟩ hP hS dX10_in_15
    · have hw := hw.2 c9
      refine lv_iconst (v := 1) hx hb dX10_in_10 (by decide) ?_
      refine lv_goto (tgt := 15) hx hb dX10_in_11 (by decide) ?_
      exact wd_zret hx hb hr hlocks (by decide) ⟨hw, rfl⟩ hP hS dX10_in_15
def wX10_meets (σ0 : St) (a1 : Int32) (post : Int32 → St → Prop) : Prop := ∀ σ1 : St, σ1 = st_S σ0 0 a1 → (vp_in a1 5 ∧ (vp_in a1 5 ∧ (∀ σ2 : St, σ2 = st_A σ1 0 a1.toNatClampNeg ((σ1.2.1 0 a1.toNatClampNeg) + (1 : Int32)) → (post (-3 : Int32) σ2))))
set_option maxHeartbeats 4000000 in
set_option maxRecDepth 100000 in
theorem mtX10_meets (l : Launch) (D : va_G) (am : Nat → Nat) (cI cJ cZ : ClassId) (A : Nat → Prop) (hD : ∀ σ : St, va_D A (mw am cI cJ cZ σ)) (σ0 : St) (a1 : Int32) (post : Int32 → St → Prop) (hw : wX10_meets σ0 a1 post) : Met l yX10_meets wsX10_meets ({ frames := 0, cells := 0, slots := 0, locals := 0 } : Room) (va_Pc [.ref (am 0), .int a1] (wd_pre D (mw am cI cJ cZ) (wd_tys cI cJ cZ) σ0)) (va_Qi post (wd_B D (mw am cI cJ cZ)) A) 0 0 A := by
  refine Met.ofW (cc := cX10_meets) (maxL := 2) (ret := (some .int)) (by decide) rfl ?_
  intro p e s m args below meth c s₁ B hml hv
  obtain ⟨rfl, hP, hK, hN⟩ := hv
  have hx := B.exec
  have hb := B.bytes
  have hr := B.returns
  have hts := atoms_spec (ws := wsX10_meets) B.pre
  have hown : s.vm.findClass RX10 = some m.cls := findClass_of_methodNamed B.named
  have hlocks := B.notSynchronized
  have hS : va_S A s.heap s.heap [] := va_S.rf
  have f81 := hts (.fieldLink RX10 81 "LeastRightsModel" "finding" "I") (by decide +kernel)
  have iX10 : ∀ w ∈ wsX100, w ∈ wsX10_meets := by decide +kernel
  have f7 := hts (.fieldLink RX10 7 "LeastRightsModel" "findings" "[I") (by decide +kernel)
  have hl := lv_entry ([.ref (am 0), .int a1]) (n := 2) (Nat.le_of_ble_eq_true rfl)
  rw [lg_entry_eq]
  generalize (lg_sl ([.ref (am 0), .int a1]) ++ List.replicate (2 - (lg_sl ([.ref (am 0), .int a1])).length) Slot.unset).toArray = ls at hl ⊢
  have hl : lv_has ls 2 [(0, .ref (am 0)), (1, .int a1)] := hl
  unfold wX10_meets at hw
  refine lv_aload_n hx hb dX10_meets_0 rfl (lv_at hl 0 rfl) ?_
  refine lv_iload_n hx hb dX10_meets_1 rfl (lv_at hl 1 rfl) ?_
  refine wd_put 0 0 0 (ty := .int) tyX10 hx hb hts iX10 tyX10_ok nmX10 hown hK hP hD hS (mw_q0 am cI cJ cZ σ0) rfl (by decide) f81 (fun _ h9 => h9) rfl (by decide +kernel) rfl rfl (Nat.le_of_ble_eq_true rfl) (mw_s0 am cI cJ cZ σ0) dX10_meets_2 (fun H locs σ1 eσ1 hP hS => ?_)
  have hw := hw σ1 eσ1
  refine lv_aload_n hx hb dX10_meets_5 rfl (lv_at hl 0 rfl) ?_
  refine va_get hx hb hts iX10 hown hK hP 0 (mw_q0 am cI cJ cZ σ1) rfl 1 (by decide) f7 (fun _ h9 => h9) rfl dX10_meets_6 ?_
  refine lv_iload_n hx hb dX10_meets_9 rfl (lv_at hl 1 rfl) ?_
  refine lv_dup2_11 hx hb dX10_meets_10 rfl rfl ?_
  obtain ⟨h9, hw⟩ := hw
  refine va_iald hx hb hK hP 1 0 (mw_q1 am cI cJ cZ σ1) rfl h9 dX10_meets_11 ?_
  refine lv_iconst (v := 1) hx hb dX10_meets_12 (by decide) ?_
  refine lv_iadd hx hb dX10_meets_13 ?_
  obtain ⟨h9, hw⟩ := hw
  refine wd_iast 0 1 hx hb hK hP hD hS (mw_q1 am cI cJ cZ σ1) rfl (mw_a0 am cI cJ cZ σ1) h9 dX10_meets_14 (fun H locs σ2 eσ2 hP hS => ?_)
  have hw := hw σ2 eσ2
  refine lv_bipush (v := -3) hx hb dX10_meets_15 (by decide) ?_
  exact wd_iret hx hb hr hlocks hw hP hS dX10_meets_17
def wX10_has (a0 : Int32) (a1 : Int32) (post : Int32 → Prop) : Prop := (¬ ((a0 >>> (a1 &&& 31)) &&& (1 : Int32)) = (1 : Int32) → (post (0 : Int32))) ∧ (((a0 >>> (a1 &&& 31)) &&& (1 : Int32)) = (1 : Int32) → (post (1 : Int32)))
set_option maxHeartbeats 4000000 in
set_option maxRecDepth 100000 in
theorem mtX10_has (l : Launch) (D : va_G) (am : Nat → Nat) (cI cJ cZ : ClassId) (A : Nat → Prop) (hD : ∀ σ : St, va_D A (mw am cI cJ cZ σ)) (σ0 : St) (a0 : Int32) (a1 : Int32) (post : Int32 → Prop) (hw : wX10_has a0 a1 post) : Met l yX10_has wsX10_has ({ frames := 0, cells := 0, slots := 0, locals := 0 } : Room) (va_Pc [.int a0, .int a1] (wd_pre D (mw am cI cJ cZ) (wd_tys cI cJ cZ) σ0)) (va_Qi (fun (r : Int32) (u : St) => post r ∧ u = σ0) (wd_B D (mw am cI cJ cZ)) A) 0 0 A := by
  refine Met.ofW (cc := cX10_has) (maxL := 2) (ret := (some .boolean)) (by decide) rfl ?_
  intro p e s m args below meth c s₁ B hml hv
  obtain ⟨rfl, hP, hK, hN⟩ := hv
  have hx := B.exec
  have hb := B.bytes
  have hr := B.returns
  have hts := atoms_spec (ws := wsX10_has) B.pre
  have hown : s.vm.findClass RX10 = some m.cls := findClass_of_methodNamed B.named
  have hlocks := B.notSynchronized
  have hS : va_S A s.heap s.heap [] := va_S.rf
  have hl := lv_entry ([.int a0, .int a1]) (n := 2) (Nat.le_of_ble_eq_true rfl)
  rw [lg_entry_eq]
  generalize (lg_sl ([.int a0, .int a1]) ++ List.replicate (2 - (lg_sl ([.int a0, .int a1])).length) Slot.unset).toArray = ls at hl ⊢
  have hl : lv_has ls 2 [(0, .int a0), (1, .int a1)] := hl
  unfold wX10_has at hw
  refine lv_iload_n hx hb dX10_has_0 rfl (lv_at hl 0 rfl) ?_
  refine lv_iload_n hx hb dX10_has_1 rfl (lv_at hl 1 rfl) ?_
  refine lv_ishr hx hb dX10_has_2 ?_
  refine lv_iconst (v := 1) hx hb dX10_has_3 (by decide) ?_
  refine lv_iand hx hb dX10_has_4 ?_
  refine lv_iconst (v := 1) hx hb dX10_has_5 (by decide) ?_
  refine lv_icmp_ne (tgt := 13) hx hb dX10_has_6 (by decide) (fun c9 => ?_) (fun c9 => ?_)
  · have hw := hw.1 c9
    refine lv_iconst (v := 0) hx hb dX10_has_13 (by decide) ?_
    exact wd_zret hx hb hr hlocks (by decide) ⟨hw, rfl⟩ hP hS dX10_has_14
  · have hw := hw.2 c9
    refine lv_iconst (v := 1) hx hb dX10_has_9 (by decide) ?_
    refine lv_goto (tgt := 14) hx hb dX10_has_10 (by decide) ?_
    exact wd_zret hx hb hr hlocks (by decide) ⟨hw, rfl⟩ hP hS dX10_has_14
def lpX10_bits_4 (u0 : Int32) (post : Int32 → Prop) : Nat → Int32 → Int32 → Prop
  | 0, _, _ => False
  | n + 1, v1, v2 => ((12 : Int32) ≤ v2 → (post v1)) ∧ (¬ (12 : Int32) ≤ v2 → (∀ x1 : Int32, x1 = (v1 + ((u0 >>> (v2 &&& 31)) &&& (1 : Int32))) → (∀ x2 : Int32, x2 = v2 + (1 : Int32) → (lpX10_bits_4 u0 post n x1 x2))))
def wX10_bits (a0 : Int32) (post : Int32 → Prop) : Prop := ∃ n3 : Nat, lpX10_bits_4 a0 post n3 (0 : Int32) (0 : Int32)
set_option maxHeartbeats 4000000 in
set_option maxRecDepth 100000 in
theorem mtX10_bits (l : Launch) (D : va_G) (am : Nat → Nat) (cI cJ cZ : ClassId) (A : Nat → Prop) (hD : ∀ σ : St, va_D A (mw am cI cJ cZ σ)) (σ0 : St) (a0 : Int32) (post : Int32 → Prop) (hw : wX10_bits a0 post) : Met l yX10_bits wsX10_bits ({ frames := 0, cells := 0, slots := 0, locals := 0 } : Room) (va_Pc [.int a0] (wd_pre D (mw am cI cJ cZ) (wd_tys cI cJ cZ) σ0)) (va_Qi (fun (r : Int32) (u : St) => post r ∧ u = σ0) (wd_B D (mw am cI cJ cZ)) A) 0 0 A := by
  refine Met.ofW (cc := cX10_bits) (maxL := 3) (ret := (some .int)) (by decide) rfl ?_
  intro p e s m args below meth c s₁ B hml hv
  obtain ⟨rfl, hP, hK, hN⟩ := hv
  have hx := B.exec
  have hb := B.bytes
  have hr := B.returns
  have hts := atoms_spec (ws := wsX10_bits) B.pre
  have hown : s.vm.findClass RX10 = some m.cls := findClass_of_methodNamed B.named
  have hlocks := B.notSynchronized
  have hS : va_S A s.heap s.heap [] := va_S.rf
  have L4 : ∀ (u0 : Int32) (n : Nat) (v1 : Int32) (v2 : Int32) (H : Heap) (locs : List Loc) (ls : Array Slot), lpX10_bits_4 u0 post n v1 v2 → va_P D vwCl (mw am cI cJ cZ σ0) H → va_S A s.heap H locs → lv_has ls 3 [(0, .int u0), (1, .int v1), (2, .int v2)] → W p l e (headSpec wsX10_bits ({ frames := 0, cells := 0, slots := 0, locals := 0 } : Room)).room s m ([.int a0] : List Value).toArray below meth c H locs 0 0 (MQ below (va_Qi (fun (r : Int32) (u : St) => post r ∧ u = σ0) (wd_B D (mw am cI cJ cZ)) A) ([.int a0] : List Value).toArray s 0 0 A) (F0 m 4 ls []) := by
    intro u0 n
    induction n with
    | zero => intro v1 v2 H locs ls hw; exact hw.elim
    | succ n ih =>
      intro v1 v2 H locs ls hw hP hS hl
      rw [lpX10_bits_4] at hw
      refine lv_iload_n hx hb dX10_bits_4 rfl (lv_at hl 2 rfl) ?_
      refine lv_bipush (v := 12) hx hb dX10_bits_5 (by decide) ?_
      refine lv_icmp_ge (tgt := 24) hx hb dX10_bits_7 (by decide) (fun c9 => ?_) (fun c9 => ?_)
      · have hw := hw.1 c9
        refine lv_iload_n hx hb dX10_bits_24 rfl (lv_at hl 1 rfl) ?_
        exact wd_iret hx hb hr hlocks ⟨hw, rfl⟩ hP hS dX10_bits_25
      · have hw := hw.2 c9
        refine lv_iload_n hx hb dX10_bits_10 rfl (lv_at hl 1 rfl) ?_
        refine lv_iload_n hx hb dX10_bits_11 rfl (lv_at hl 0 rfl) ?_
        refine lv_iload_n hx hb dX10_bits_12 rfl (lv_at hl 2 rfl) ?_
        refine lv_ishr hx hb dX10_bits_13 ?_
        refine lv_iconst (v := 1) hx hb dX10_bits_14 (by decide) ?_
        refine lv_iand hx hb dX10_bits_15 ?_
        refine lv_iadd hx hb dX10_bits_16 ?_
        refine lv_topi (fun x1 ex1 => ?_)
        have hw := hw x1 ex1
        refine lv_istore_n (lv' := [(1, .int x1), (0, .int u0), (2, .int v2)]) hx hb dX10_bits_17 rfl hl (by decide) rfl (fun ls hl => ?_)
        obtain ⟨x2, ex2⟩ : ∃ z : Int32, z = v2 + (1 : Int32) := ⟨_, rfl⟩
        refine lv_iinc (v := x2) (lv' := [(2, .int x2), (1, .int x1), (0, .int u0)]) hx hb dX10_bits_18 hl (k := 2) rfl (by rw [ex2]; rfl) (by decide) rfl (fun ls hl => ?_)
        have hw := hw x2 ex2
        refine lv_goto (tgt := 4) hx hb dX10_bits_21 (by decide) ?_
        exact ih _ _ _ _ _ hw hP hS (lv_sub hl [2, 1, 0] rfl)
  have hl := lv_entry ([.int a0]) (n := 3) (Nat.le_of_ble_eq_true rfl)
  rw [lg_entry_eq]
  generalize (lg_sl ([.int a0]) ++ List.replicate (3 - (lg_sl ([.int a0])).length) Slot.unset).toArray = ls at hl ⊢
  have hl : lv_has ls 3 [(0, .int a0)] := hl
  unfold wX10_bits at hw
  refine lv_iconst (v := 0) hx hb dX10_bits_0 (by decide) ?_
  refine lv_istore_n (lv' := [(1, .int (0 : Int32)), (0, .int a0)]) hx hb dX10_bits_1 rfl hl (by decide) rfl (fun ls hl => ?_)
  refine lv_iconst (v := 0) hx hb dX10_bits_2 (by decide) ?_
  refine lv_istore_n (lv' := [(2, .int (0 : Int32)), (1, .int (0 : Int32)), (0, .int a0)]) hx hb dX10_bits_3 rfl hl (by decide) rfl (fun ls hl => ?_)
  obtain ⟨n9, hw⟩ := hw
  refine L4 a0 n9 (0 : Int32) (0 : Int32) _ _ _ hw hP hS (lv_sub hl [2, 1, 0] rfl)
def wX10_isPerson (σ0 : St) (a1 : Int32) (post : Int32 → Prop) : Prop := wX10_in a1 (0 : Int32) ((σ0.1 1) - (1 : Int32)) (fun (r1 : Int32) => (r1 = 0 ∨ r1 = 1) ∧ post r1)
set_option maxHeartbeats 4000000 in
set_option maxRecDepth 100000 in
theorem mtX10_isPerson (l : Launch) (D : va_G) (am : Nat → Nat) (cI cJ cZ : ClassId) (A : Nat → Prop) (hD : ∀ σ : St, va_D A (mw am cI cJ cZ σ)) (σ0 : St) (a1 : Int32) (post : Int32 → Prop) (hw : wX10_isPerson σ0 a1 post) : Met l yX10_isPerson wsX10_isPerson ({ frames := 1, cells := 0, slots := 0, locals := 22 } : Room) (va_Pc [.ref (am 0), .int a1] (wd_pre D (mw am cI cJ cZ) (wd_tys cI cJ cZ) σ0)) (va_Qi (fun (r : Int32) (u : St) => post r ∧ u = σ0) (wd_B D (mw am cI cJ cZ)) A) 0 0 A := by
  refine Met.ofW (cc := cX10_isPerson) (maxL := 2) (ret := (some .boolean)) (by decide) rfl ?_
  intro p e s m args below meth c s₁ B hml hv
  obtain ⟨rfl, hP, hK, hN⟩ := hv
  have hx := B.exec
  have hb := B.bytes
  have hr := B.returns
  have hts := atoms_spec (ws := wsX10_isPerson) B.pre
  have hown : s.vm.findClass RX10 = some m.cls := findClass_of_methodNamed B.named
  have hlocks := B.notSynchronized
  have hS : va_S A s.heap s.heap [] := va_S.rf
  have f84 := hts (.fieldLink RX10 84 "LeastRightsModel" "people" "I") (by decide +kernel)
  have iX10 : ∀ w ∈ wsX100, w ∈ wsX10_isPerson := by decide +kernel
  have hl := lv_entry ([.ref (am 0), .int a1]) (n := 2) (Nat.le_of_ble_eq_true rfl)
  rw [lg_entry_eq]
  generalize (lg_sl ([.ref (am 0), .int a1]) ++ List.replicate (2 - (lg_sl ([.ref (am 0), .int a1])).length) Slot.unset).toArray = ls at hl ⊢
  have hl : lv_has ls 2 [(0, .ref (am 0)), (1, .int a1)] := hl
  unfold wX10_isPerson at hw
  refine lv_iload_n hx hb dX10_isPerson_0 rfl (lv_at hl 1 rfl) ?_
  refine lv_iconst (v := 0) hx hb dX10_isPerson_1 (by decide) ?_
  refine lv_aload_n hx hb dX10_isPerson_2 rfl (lv_at hl 0 rfl) ?_
  refine va_get hx hb hts iX10 hown hK hP 0 (mw_q0 am cI cJ cZ σ0) rfl 2 (by decide) f84 (fun _ h9 => h9) rfl dX10_isPerson_3 ?_
  refine lv_iconst (v := 1) hx hb dX10_isPerson_6 (by decide) ?_
  refine lv_isub hx hb dX10_isPerson_7 ?_
  refine wd_cSi ⟨hx, hb, hml, hown, hts⟩ (mtX10_in l D am cI cJ cZ A hD σ0 a1 (0 : Int32) ((σ0.1 1) - (1 : Int32)) _ hw) (va_cwS 3 hts gX10_isPerson_X10_in rfl rfl rfl (by decide +kernel) ⟨(Nat.le_of_ble_eq_true rfl), (Nat.le_of_ble_eq_true rfl)⟩) hK hN hP hS rfl hl.1 rfl (Nat.le_of_ble_eq_true rfl) dX10_isPerson_8 ⟨Nat.zero_le _, Nat.zero_le _⟩ (fun r1 u9 H locs hq hP hS => ?_)
  obtain ⟨hw, hu⟩ := hq
  rw [hu] at hP
  obtain ⟨h9, hw⟩ := hw
  exact wd_zret hx hb hr hlocks h9 ⟨hw, rfl⟩ hP hS dX10_isPerson_11
def wX10_isRight (a0 : Int32) (post : Int32 → Prop) : Prop := wX10_in a0 (0 : Int32) (11 : Int32) (fun (r1 : Int32) => (r1 = 0 ∨ r1 = 1) ∧ post r1)
set_option maxHeartbeats 4000000 in
set_option maxRecDepth 100000 in
theorem mtX10_isRight (l : Launch) (D : va_G) (am : Nat → Nat) (cI cJ cZ : ClassId) (A : Nat → Prop) (hD : ∀ σ : St, va_D A (mw am cI cJ cZ σ)) (σ0 : St) (a0 : Int32) (post : Int32 → Prop) (hw : wX10_isRight a0 post) : Met l yX10_isRight wsX10_isRight ({ frames := 1, cells := 0, slots := 0, locals := 22 } : Room) (va_Pc [.int a0] (wd_pre D (mw am cI cJ cZ) (wd_tys cI cJ cZ) σ0)) (va_Qi (fun (r : Int32) (u : St) => post r ∧ u = σ0) (wd_B D (mw am cI cJ cZ)) A) 0 0 A := by
  refine Met.ofW (cc := cX10_isRight) (maxL := 1) (ret := (some .boolean)) (by decide) rfl ?_
  intro p e s m args below meth c s₁ B hml hv
  obtain ⟨rfl, hP, hK, hN⟩ := hv
  have hx := B.exec
  have hb := B.bytes
  have hr := B.returns
  have hts := atoms_spec (ws := wsX10_isRight) B.pre
  have hown : s.vm.findClass RX10 = some m.cls := findClass_of_methodNamed B.named
  have hlocks := B.notSynchronized
  have hS : va_S A s.heap s.heap [] := va_S.rf
  have hl := lv_entry ([.int a0]) (n := 1) (Nat.le_of_ble_eq_true rfl)
  rw [lg_entry_eq]
  generalize (lg_sl ([.int a0]) ++ List.replicate (1 - (lg_sl ([.int a0])).length) Slot.unset).toArray = ls at hl ⊢
  have hl : lv_has ls 1 [(0, .int a0)] := hl
  unfold wX10_isRight at hw
  refine lv_iload_n hx hb dX10_isRight_0 rfl (lv_at hl 0 rfl) ?_
  refine lv_iconst (v := 0) hx hb dX10_isRight_1 (by decide) ?_
  refine lv_bipush (v := 11) hx hb dX10_isRight_2 (by decide) ?_
  refine wd_cSi ⟨hx, hb, hml, hown, hts⟩ (mtX10_in l D am cI cJ cZ A hD σ0 a0 (0 : Int32) (11 : Int32) _ hw) (va_cwS 3 hts gX10_isRight_X10_in rfl rfl rfl (by decide +kernel) ⟨(Nat.le_of_ble_eq_true rfl), (Nat.le_of_ble_eq_true rfl)⟩) hK hN hP hS rfl hl.1 rfl (Nat.le_of_ble_eq_true rfl) dX10_isRight_4 ⟨Nat.zero_le _, Nat.zero_le _⟩ (fun r1 u9 H locs hq hP hS => ?_)
  obtain ⟨hw, hu⟩ := hq
  rw [hu] at hP
  obtain ⟨h9, hw⟩ := hw
  exact wd_zret hx hb hr hlocks h9 ⟨hw, rfl⟩ hP hS dX10_isRight_7
def wX10_person (σ0 : St) (a1 : Int32) (a2 : Int32) (post : Int32 → St → Prop) : Prop := wX10_in a1 (0 : Int32) (255 : Int32) (fun (r1 : Int32) => (r1 = 0 → (post (-1 : Int32) σ0)) ∧ (¬ r1 = 0 → (wX10_in a2 (0 : Int32) (4095 : Int32) (fun (r2 : Int32) => (¬ r2 = 0 → ((¬ (σ0.1 1) = (10 : Int32) → (vp_in (σ0.1 1) 10 ∧ (∀ σ3 : St, σ3 = st_A σ0 1 (σ0.1 1).toNatClampNeg a1 → (vp_in (σ3.1 1) 10 ∧ (∀ σ4 : St, σ4 = st_A σ3 2 (σ3.1 1).toNatClampNeg a2 → (∀ σ5 : St, σ5 = st_S σ4 1 ((σ4.1 1) + (1 : Int32)) → (post ((σ5.1 1) - (1 : Int32)) σ5))))))) ∧ ((σ0.1 1) = (10 : Int32) → (post (-2 : Int32) σ0)))) ∧ (r2 = 0 → (post (-1 : Int32) σ0))))))
set_option maxHeartbeats 4000000 in
set_option maxRecDepth 100000 in
theorem mtX10_person (l : Launch) (D : va_G) (am : Nat → Nat) (cI cJ cZ : ClassId) (A : Nat → Prop) (hD : ∀ σ : St, va_D A (mw am cI cJ cZ σ)) (σ0 : St) (a1 : Int32) (a2 : Int32) (post : Int32 → St → Prop) (hw : wX10_person σ0 a1 a2 post) : Met l yX10_person wsX10_person ({ frames := 1, cells := 0, slots := 0, locals := 22 } : Room) (va_Pc [.ref (am 0), .int a1, .int a2] (wd_pre D (mw am cI cJ cZ) (wd_tys cI cJ cZ) σ0)) (va_Qi post (wd_B D (mw am cI cJ cZ)) A) 0 0 A := by
  refine Met.ofW (cc := cX10_person) (maxL := 3) (ret := (some .int)) (by decide) rfl ?_
  intro p e s m args below meth c s₁ B hml hv
  obtain ⟨rfl, hP, hK, hN⟩ := hv
  have hx := B.exec
  have hb := B.bytes
  have hr := B.returns
  have hts := atoms_spec (ws := wsX10_person) B.pre
  have hown : s.vm.findClass RX10 = some m.cls := findClass_of_methodNamed B.named
  have hlocks := B.notSynchronized
  have hS : va_S A s.heap s.heap [] := va_S.rf
  have f84 := hts (.fieldLink RX10 84 "LeastRightsModel" "people" "I") (by decide +kernel)
  have iX10 : ∀ w ∈ wsX100, w ∈ wsX10_person := by decide +kernel
  have f13 := hts (.fieldLink RX10 13 "LeastRightsModel" "marks" "[I") (by decide +kernel)
  have f16 := hts (.fieldLink RX10 16 "LeastRightsModel" "rights" "[I") (by decide +kernel)
  have hl := lv_entry ([.ref (am 0), .int a1, .int a2]) (n := 3) (Nat.le_of_ble_eq_true rfl)
  rw [lg_entry_eq]
  generalize (lg_sl ([.ref (am 0), .int a1, .int a2]) ++ List.replicate (3 - (lg_sl ([.ref (am 0), .int a1, .int a2])).length) Slot.unset).toArray = ls at hl ⊢
  have hl : lv_has ls 3 [(0, .ref (am 0)), (1, .int a1), (2, .int a2)] := hl
  unfold wX10_person at hw
  refine lv_iload_n hx hb dX10_person_0 rfl (lv_at hl 1 rfl) ?_
  refine lv_iconst (v := 0) hx hb dX10_person_1 (by decide) ?_
  refine lv_sipush (v := 255) hx hb dX10_person_2 (by decide) ?_
  refine wd_cSi ⟨hx, hb, hml, hown, hts⟩ (mtX10_in l D am cI cJ cZ A hD σ0 a1 (0 : Int32) (255 : Int32) _ hw) (va_cwS 3 hts gX10_person_X10_in rfl rfl rfl (by decide +kernel) ⟨(Nat.le_of_ble_eq_true rfl), (Nat.le_of_ble_eq_true rfl)⟩) hK hN hP hS rfl hl.1 rfl (Nat.le_of_ble_eq_true rfl) dX10_person_5 ⟨Nat.zero_le _, Nat.zero_le _⟩ (fun r1 u9 H locs hq hP hS => ?_)
  obtain ⟨hw, hu⟩ := hq
  rw [hu] at hP
  refine lv_if_eq (tgt := 22) hx hb dX10_person_8 (by decide) (fun c9 => ?_) (fun c9 => ?_)
  · have hw := hw.1 c9
    refine lv_iconst (v := -1) hx hb dX10_person_22 (by decide) ?_
    exact wd_iret hx hb hr hlocks hw hP hS dX10_person_23
  · have hw := hw.2 c9
    refine lv_iload_n hx hb dX10_person_11 rfl (lv_at hl 2 rfl) ?_
    refine lv_iconst (v := 0) hx hb dX10_person_12 (by decide) ?_
    refine lv_sipush (v := 4095) hx hb dX10_person_13 (by decide) ?_
    refine wd_cSi ⟨hx, hb, hml, hown, hts⟩ (mtX10_in l D am cI cJ cZ A hD σ0 a2 (0 : Int32) (4095 : Int32) _ hw) (va_cwS 3 hts gX10_person_X10_in rfl rfl rfl (by decide +kernel) ⟨(Nat.le_of_ble_eq_true rfl), (Nat.le_of_ble_eq_true rfl)⟩) hK hN hP hS rfl hl.1 rfl (Nat.le_of_ble_eq_true rfl) dX10_person_16 ⟨Nat.zero_le _, Nat.zero_le _⟩ (fun r2 u9 H locs hq hP hS => ?_)
    obtain ⟨hw, hu⟩ := hq
    rw [hu] at hP
    refine lv_if_ne (tgt := 24) hx hb dX10_person_19 (by decide) (fun c9 => ?_) (fun c9 => ?_)
    · have hw := hw.1 c9
      refine lv_aload_n hx hb dX10_person_24 rfl (lv_at hl 0 rfl) ?_
      refine va_get hx hb hts iX10 hown hK hP 0 (mw_q0 am cI cJ cZ σ0) rfl 2 (by decide) f84 (fun _ h9 => h9) rfl dX10_person_25 ?_
      refine lv_bipush (v := 10) hx hb dX10_person_28 (by decide) ?_
      refine lv_icmp_ne (tgt := 36) hx hb dX10_person_30 (by decide) (fun c9 => ?_) (fun c9 => ?_)
      · have hw := hw.1 c9
        refine lv_aload_n hx hb dX10_person_36 rfl (lv_at hl 0 rfl) ?_
        refine va_get hx hb hts iX10 hown hK hP 0 (mw_q0 am cI cJ cZ σ0) rfl 3 (by decide) f13 (fun _ h9 => h9) rfl dX10_person_37 ?_
        refine lv_aload_n hx hb dX10_person_40 rfl (lv_at hl 0 rfl) ?_
        refine va_get hx hb hts iX10 hown hK hP 0 (mw_q0 am cI cJ cZ σ0) rfl 2 (by decide) f84 (fun _ h9 => h9) rfl dX10_person_41 ?_
        refine lv_iload_n hx hb dX10_person_44 rfl (lv_at hl 1 rfl) ?_
        obtain ⟨h9, hw⟩ := hw
        refine wd_iast 1 2 hx hb hK hP hD hS (mw_q2 am cI cJ cZ σ0) rfl (mw_a1 am cI cJ cZ σ0) h9 dX10_person_45 (fun H locs σ3 eσ3 hP hS => ?_)
        have hw := hw σ3 eσ3
        refine lv_aload_n hx hb dX10_person_46 rfl (lv_at hl 0 rfl) ?_
        refine va_get hx hb hts iX10 hown hK hP 0 (mw_q0 am cI cJ cZ σ3) rfl 4 (by decide) f16 (fun _ h9 => h9) rfl dX10_person_47 ?_
        refine lv_aload_n hx hb dX10_person_50 rfl (lv_at hl 0 rfl) ?_
        refine va_get hx hb hts iX10 hown hK hP 0 (mw_q0 am cI cJ cZ σ3) rfl 2 (by decide) f84 (fun _ h9 => h9) rfl dX10_person_51 ?_
        refine lv_iload_n hx hb dX10_person_54 rfl (lv_at hl 2 rfl) ?_
        obtain ⟨h9, hw⟩ := hw
        refine wd_iast 2 3 hx hb hK hP hD hS (mw_q3 am cI cJ cZ σ3) rfl (mw_a2 am cI cJ cZ σ3) h9 dX10_person_55 (fun H locs σ4 eσ4 hP hS => ?_)
        have hw := hw σ4 eσ4
        refine lv_aload_n hx hb dX10_person_56 rfl (lv_at hl 0 rfl) ?_
        refine lv_dup hx hb dX10_person_57 rfl ?_
        refine va_get hx hb hts iX10 hown hK hP 0 (mw_q0 am cI cJ cZ σ4) rfl 2 (by decide) f84 (fun _ h9 => h9) rfl dX10_person_58 ?_
        refine lv_iconst (v := 1) hx hb dX10_person_61 (by decide) ?_
        refine lv_iadd hx hb dX10_person_62 ?_
        refine wd_put 1 0 2 (ty := .int) tyX10 hx hb hts iX10 tyX10_ok nmX10 hown hK hP hD hS (mw_q0 am cI cJ cZ σ4) rfl (by decide) f84 (fun _ h9 => h9) rfl (by decide +kernel) rfl rfl (Nat.le_of_ble_eq_true rfl) (mw_s1 am cI cJ cZ σ4) dX10_person_63 (fun H locs σ5 eσ5 hP hS => ?_)
        have hw := hw σ5 eσ5
        refine lv_aload_n hx hb dX10_person_66 rfl (lv_at hl 0 rfl) ?_
        refine va_get hx hb hts iX10 hown hK hP 0 (mw_q0 am cI cJ cZ σ5) rfl 2 (by decide) f84 (fun _ h9 => h9) rfl dX10_person_67 ?_
        refine lv_iconst (v := 1) hx hb dX10_person_70 (by decide) ?_
        refine lv_isub hx hb dX10_person_71 ?_
        exact wd_iret hx hb hr hlocks hw hP hS dX10_person_72
      · have hw := hw.2 c9
        refine lv_bipush (v := -2) hx hb dX10_person_33 (by decide) ?_
        exact wd_iret hx hb hr hlocks hw hP hS dX10_person_35
    · have hw := hw.2 c9
      refine lv_iconst (v := -1) hx hb dX10_person_22 (by decide) ?_
      exact wd_iret hx hb hr hlocks hw hP hS dX10_person_23
def lpX10_give_17 (u1 : Int32) (u2 : Int32) (u3 : Int32) (post : Int32 → St → Prop) : Nat → Int32 → St → Prop
  | 0, _, _ => False
  | n + 1, v4, σ => ((12 : Int32) ≤ v4 → (post u3 σ)) ∧ (¬ (12 : Int32) ≤ v4 → (wX10_has u2 v4 (fun (r3 : Int32) => (r3 = 0 → (vp_in (((12 : Int32) * u1) + v4) 120 ∧ (vp_in (((12 : Int32) * u1) + v4) 120 ∧ (∀ σ4 : St, σ4 = st_A σ 3 (((12 : Int32) * u1) + v4).toNatClampNeg (σ.2.1 3 (((12 : Int32) * u1) + v4).toNatClampNeg) → (∀ x5 : Int32, x5 = v4 + (1 : Int32) → (lpX10_give_17 u1 u2 u3 post n x5 σ4)))))) ∧ (¬ r3 = 0 → (vp_in (((12 : Int32) * u1) + v4) 120 ∧ (∀ σ6 : St, σ6 = st_A σ 3 (((12 : Int32) * u1) + v4).toNatClampNeg (-9 : Int32) → (∀ x7 : Int32, x7 = v4 + (1 : Int32) → (lpX10_give_17 u1 u2 u3 post n x7 σ6))))))))
def wX10_give (σ0 : St) (a1 : Int32) (a2 : Int32) (post : Int32 → St → Prop) : Prop := vp_in a1 10 ∧ (∀ x1 : Int32, x1 = (σ0.2.1 2 a1.toNatClampNeg) → (vp_in a1 10 ∧ (∀ σ2 : St, σ2 = st_A σ0 2 a1.toNatClampNeg a2 → (∃ n8 : Nat, lpX10_give_17 a1 a2 x1 post n8 (0 : Int32) σ2))))
set_option maxHeartbeats 4000000 in
set_option maxRecDepth 100000 in
theorem mtX10_give (l : Launch) (D : va_G) (am : Nat → Nat) (cI cJ cZ : ClassId) (A : Nat → Prop) (hD : ∀ σ : St, va_D A (mw am cI cJ cZ σ)) (σ0 : St) (a1 : Int32) (a2 : Int32) (post : Int32 → St → Prop) (hw : wX10_give σ0 a1 a2 post) : Met l yX10_give wsX10_give ({ frames := 1, cells := 0, slots := 0, locals := 21 } : Room) (va_Pc [.ref (am 0), .int a1, .int a2] (wd_pre D (mw am cI cJ cZ) (wd_tys cI cJ cZ) σ0)) (va_Qi post (wd_B D (mw am cI cJ cZ)) A) 0 0 A := by
  refine Met.ofW (cc := cX10_give) (maxL := 5) (ret := (some .int)) (by decide) rfl ?_
  intro p e s m args below meth c s₁ B hml hv
  obtain ⟨rfl, hP, hK, hN⟩ := hv
  have hx := B.exec
  have hb := B.bytes
  have hr := B.returns
  have hts := atoms_spec (ws := wsX10_give) B.pre
  have hown : s.vm.findClass RX10 = some m.cls := findClass_of_methodNamed B.named
  have hlocks := B.notSynchronized
  have hS : va_S A s.heap s.heap [] := va_S.rf
  have f16 := hts (.fieldLink RX10 16 "LeastRightsModel" "rights" "[I") (by decide +kernel)
  have iX10 : ∀ w ∈ wsX100, w ∈ wsX10_give := by decide +kernel
  have f19 := hts (.fieldLink RX10 19 "LeastRightsModel" "struck" "[I") (by decide +kernel)
  have L17 : ∀ (u1 : Int32) (u2 : Int32) (u3 : Int32) (n : Nat) (v4 : Int32) (σ : St) (H : Heap) (locs : List Loc) (ls : Array Slot), lpX10_give_17 u1 u2 u3 post n v4 σ → va_P D vwCl (mw am cI cJ cZ σ) H → va_S A s.heap H locs → lv_has ls 5 [(0, .ref (am 0)), (1, .int u1), (2, .int u2), (3, .int u3), (4, .int v4)] → W p l e (headSpec wsX10_give ({ frames := 1, cells := 0, slots := 0, locals := 21 } : Room)).room s m ([.ref (am 0), .int a1, .int a2] : List Value).toArray below meth c H locs 0 0 (MQ below (va_Qi post (wd_B D (mw am cI cJ cZ)) A) ([.ref (am 0), .int a1, .int a2] : List Value).toArray s 0 0 A) (F0 m 17 ls []) := by
    intro u1 u2 u3 n
    induction n with
    | zero => intro v4 σ H locs ls hw; exact hw.elim
    | succ n ih =>
      intro v4 σ H locs ls hw hP hS hl
      rw [lpX10_give_17] at hw
      refine lv_iload hx hb dX10_give_17 (lv_at hl 4 rfl) ?_
      refine lv_bipush (v := 12) hx hb dX10_give_19 (by decide) ?_
      refine lv_icmp_ge (tgt := 68) hx hb dX10_give_21 (by decide) (fun c9 => ?_) (fun c9 => ?_)
      · have hw := hw.1 c9
        refine lv_iload_n hx hb dX10_give_68 rfl (lv_at hl 3 rfl) ?_
        exact wd_iret hx hb hr hlocks hw hP hS dX10_give_69
      · have hw := hw.2 c9
        refine lv_aload_n hx hb dX10_give_24 rfl (lv_at hl 0 rfl) ?_
        refine va_get hx hb hts iX10 hown hK hP 0 (mw_q0 am cI cJ cZ σ) rfl 5 (by decide) f19 (fun _ h9 => h9) rfl dX10_give_25 ?_
        refine lv_bipush (v := 12) hx hb dX10_give_28 (by decide) ?_
        refine lv_iload_n hx hb dX10_give_30 rfl (lv_at hl 1 rfl) ?_
        refine lv_imul hx hb dX10_give_31 ?_
        refine lv_iload hx hb dX10_give_32 (lv_at hl 4 rfl) ?_
        refine lv_iadd hx hb dX10_give_34 ?_
        refine lv_iload_n hx hb dX10_give_35 rfl (lv_at hl 2 rfl) ?_
        refine lv_iload hx hb dX10_give_36 (lv_at hl 4 rfl) ?_
        refine wd_cSi ⟨hx, hb, hml, hown, hts⟩ (mtX10_has l D am cI cJ cZ A hD σ u2 v4 _ hw) (va_cwS 2 hts gX10_give_X10_has rfl rfl rfl (by decide +kernel) ⟨(Nat.le_of_ble_eq_true rfl), (Nat.le_of_ble_eq_true rfl)⟩) hK hN hP hS rfl hl.1 rfl (Nat.le_of_ble_eq_true rfl) dX10_give_38 ⟨Nat.zero_le _, Nat.zero_le _⟩ (fun r3 u9 H locs hq hP hS => ?_)
        obtain ⟨hw, hu⟩ := hq
        rw [hu] at hP
        refine lv_if_eq (tgt := 49) hx hb dX10_give_41 (by decide) (fun c9 => ?_) (fun c9 => ?_)
        · have hw := hw.1 c9
          refine lv_aload_n hx hb dX10_give_49 rfl (lv_at hl 0 rfl) ?_
          refine va_get hx hb hts iX10 hown hK hP 0 (mw_q0 am cI cJ cZ σ) rfl 5 (by decide) f19 (fun _ h9 => h9) rfl dX10_give_50 ?_
          refine lv_bipush (v := 12) hx hb dX10_give_53 (by decide) ?_
          refine lv_iload_n hx hb dX10_give_55 rfl (lv_at hl 1 rfl) ?_
          refine lv_imul hx hb dX10_give_56 ?_
          refine lv_iload hx hb dX10_give_57 (lv_at hl 4 rfl) ?_
          refine lv_iadd hx hb dX10_give_59 ?_
          obtain ⟨h9, hw⟩ := hw
          refine va_iald hx hb hK hP 4 0 (mw_q4 am cI cJ cZ σ) rfl h9 dX10_give_60 ?_
          obtain ⟨h9, hw⟩ := hw
          refine wd_iast 3 4 hx hb hK hP hD hS (mw_q4 am cI cJ cZ σ) rfl (mw_a3 am cI cJ cZ σ) h9 dX10_give_61 (fun H locs σ4 eσ4 hP hS => ?_)
          have hw := hw σ4 eσ4
          obtain ⟨x5, ex5⟩ : ∃ z : Int32, z = v4 + (1 : Int32) := ⟨_, rfl⟩
          refine lv_iinc (v := x5) (lv' := [(4, .int x5), (0, .ref (am 0)), (1, .int u1), (2, .int u2), (3, .int u3)]) hx hb dX10_give_62 hl (k := 4) rfl (by rw [ex5]; rfl) (by decide) rfl (fun ls hl => ?_)
          have hw := hw x5 ex5
          refine lv_goto (tgt := 17) hx hb dX10_give_65 (by decide) ?_
          exact ih _ _ _ _ _ hw hP hS (lv_sub hl [1, 2, 3, 4, 0] rfl)
        · have hw := hw.2 c9
          refine lv_bipush (v := -9) hx hb dX10_give_44 (by decide) ?_
          refine lv_goto (tgt := 61) hx hb dX10_give_46 (by decide) ?_
          obtain ⟨h9, hw⟩ := hw
          refine wd_iast 3 4 hx hb hK hP hD hS (mw_q4 am cI cJ cZ σ) rfl (mw_a3 am cI cJ cZ σ) h9 dX10_give_61 (fun H locs σ6 eσ6 hP hS => ?_)
          have hw := hw σ6 eσ6
          obtain ⟨x7, ex7⟩ : ∃ z : Int32, z = v4 + (1 : Int32) := ⟨_, rfl⟩
          refine lv_iinc (v := x7) (lv' := [(4, .int x7), (0, .ref (am 0)), (1, .int u1), (2, .int u2), (3, .int u3)]) hx hb dX10_give_62 hl (k := 4) rfl (by rw [ex7]; rfl) (by decide) rfl (fun ls hl => ?_)
          have hw := hw x7 ex7
          refine lv_goto (tgt := 17) hx hb dX10_give_65 (by decide) ?_
          exact ih _ _ _ _ _ hw hP hS (lv_sub hl [1, 2, 3, 4, 0] rfl)
  have hl := lv_entry ([.ref (am 0), .int a1, .int a2]) (n := 5) (Nat.le_of_ble_eq_true rfl)
  rw [lg_entry_eq]
  generalize (lg_sl ([.ref (am 0), .int a1, .int a2]) ++ List.replicate (5 - (lg_sl ([.ref (am 0), .int a1, .int a2])).length) Slot.unset).toArray = ls at hl ⊢
  have hl : lv_has ls 5 [(0, .ref (am 0)), (1, .int a1), (2, .int a2)] := hl
  unfold wX10_give at hw
  refine lv_aload_n hx hb dX10_give_0 rfl (lv_at hl 0 rfl) ?_
  refine va_get hx hb hts iX10 hown hK hP 0 (mw_q0 am cI cJ cZ σ0) rfl 4 (by decide) f16 (fun _ h9 => h9) rfl dX10_give_1 ?_
  refine lv_iload_n hx hb dX10_give_4 rfl (lv_at hl 1 rfl) ?_
  obtain ⟨h9, hw⟩ := hw
  refine va_iald hx hb hK hP 3 0 (mw_q3 am cI cJ cZ σ0) rfl h9 dX10_give_5 ?_
  refine lv_topi (fun x1 ex1 => ?_)
  have hw := hw x1 ex1
  refine lv_istore_n (lv' := [(3, .int x1), (0, .ref (am 0)), (1, .int a1), (2, .int a2)]) hx hb dX10_give_6 rfl hl (by decide) rfl (fun ls hl => ?_)
  refine lv_aload_n hx hb dX10_give_7 rfl (lv_at hl 1 rfl) ?_
  refine va_get hx hb hts iX10 hown hK hP 0 (mw_q0 am cI cJ cZ σ0) rfl 4 (by decide) f16 (fun _ h9 => h9) rfl dX10_give_8 ?_
  refine lv_iload_n hx hb dX10_give_11 rfl (lv_at hl 2 rfl) ?_
  refine lv_iload_n hx hb dX10_give_12 rfl (lv_at hl 3 rfl) ?_
  obtain ⟨h9, hw⟩ := hw
  refine wd_iast 2 3 hx hb hK hP hD hS (mw_q3 am cI cJ cZ σ0) rfl (mw_a2 am cI cJ cZ σ0) h9 dX10_give_13 (fun H locs σ2 eσ2 hP hS => ?_)
  have hw := hw σ2 eσ2
  refine lv_iconst (v := 0) hx hb dX10_give_14 (by decide) ?_
  refine lv_istore (lv' := [(4, .int (0 : Int32)), (3, .int x1), (0, .ref (am 0)), (1, .int a1), (2, .int a2)]) hx hb dX10_give_15 hl (by decide) rfl (fun ls hl => ?_)
  obtain ⟨n9, hw⟩ := hw
  refine L17 a1 a2 x1 n9 (0 : Int32) σ2 _ _ _ hw hP hS (lv_sub hl [2, 3, 4, 1, 0] rfl)
def wX10_change (σ0 : St) (a1 : Int32) (a2 : Int32) (a3 : Int32) (post : Int32 → St → Prop) : Prop := wX10_isPerson σ0 a1 (fun (r1 : Int32) => (r1 = 0 → (post (-1 : Int32) σ0)) ∧ (¬ r1 = 0 → (wX10_in a2 (0 : Int32) (1 : Int32) (fun (r2 : Int32) => (r2 = 0 → (post (-1 : Int32) σ0)) ∧ (¬ r2 = 0 → ((¬ a2 = 0 → (wX10_in a3 (0 : Int32) (4095 : Int32) (fun (r3 : Int32) => (¬ r3 = 0 → ((¬ a2 = (1 : Int32) → (vp_in a1 10 ∧ (∀ x4 : Int32, x4 = (σ0.2.1 1 a1.toNatClampNeg) → (vp_in a1 10 ∧ (∀ σ5 : St, σ5 = st_A σ0 1 a1.toNatClampNeg a3 → (post x4 σ5)))))) ∧ (a2 = (1 : Int32) → (wX10_give σ0 a1 a3 (fun (r6 : Int32) (σ7 : St) => post r6 σ7))))) ∧ (r3 = 0 → (post (-1 : Int32) σ0))))) ∧ (a2 = 0 → (wX10_in a3 (0 : Int32) (255 : Int32) (fun (r8 : Int32) => (¬ r8 = 0 → ((¬ a2 = (1 : Int32) → (vp_in a1 10 ∧ (∀ x9 : Int32, x9 = (σ0.2.1 1 a1.toNatClampNeg) → (vp_in a1 10 ∧ (∀ σ10 : St, σ10 = st_A σ0 1 a1.toNatClampNeg a3 → (post x9 σ10)))))) ∧ (a2 = (1 : Int32) → (wX10_give σ0 a1 a3 (fun (r11 : Int32) (σ12 : St) => post r11 σ12))))) ∧ (r8 = 0 → (post (-1 : Int32) σ0)))))))))))
set_option maxHeartbeats 4000000 in
set_option maxRecDepth 100000 in
theorem mtX10_change (l : Launch) (D : va_G) (am : Nat → Nat) (cI cJ cZ : ClassId) (A : Nat → Prop) (hD : ∀ σ : St, va_D A (mw am cI cJ cZ σ)) (σ0 : St) (a1 : Int32) (a2 : Int32) (a3 : Int32) (post : Int32 → St → Prop) (hw : wX10_change σ0 a1 a2 a3 post) : Met l yX10_change wsX10_change ({ frames := 2, cells := 0, slots := 0, locals := 45 } : Room) (va_Pc [.ref (am 0), .int a1, .int a2, .int a3] (wd_pre D (mw am cI cJ cZ) (wd_tys cI cJ cZ) σ0)) (va_Qi post (wd_B D (mw am cI cJ cZ)) A) 0 0 A := by
  refine Met.ofW (cc := cX10_change) (maxL := 5) (ret := (some .int)) (by decide) rfl ?_
  intro p e s m args below meth c s₁ B hml hv
  obtain ⟨rfl, hP, hK, hN⟩ := hv
  have hx := B.exec
  have hb := B.bytes
  have hr := B.returns
  have hts := atoms_spec (ws := wsX10_change) B.pre
  have hown : s.vm.findClass RX10 = some m.cls := findClass_of_methodNamed B.named
  have hlocks := B.notSynchronized
  have hS : va_S A s.heap s.heap [] := va_S.rf
  have f13 := hts (.fieldLink RX10 13 "LeastRightsModel" "marks" "[I") (by decide +kernel)
  have iX10 : ∀ w ∈ wsX100, w ∈ wsX10_change := by decide +kernel
  have hl := lv_entry ([.ref (am 0), .int a1, .int a2, .int a3]) (n := 5) (Nat.le_of_ble_eq_true rfl)
  rw [lg_entry_eq]
  generalize (lg_sl ([.ref (am 0), .int a1, .int a2, .int a3]) ++ List.replicate (5 - (lg_sl ([.ref (am 0), .int a1, .int a2, .int a3])).length) Slot.unset).toArray = ls at hl ⊢
  have hl : lv_has ls 5 [(0, .ref (am 0)), (1, .int a1), (2, .int a2), (3, .int a3)] := hl
  unfold wX10_change at hw
  refine lv_aload_n hx hb dX10_change_0 rfl (lv_at hl 0 rfl) ?_
  refine lv_iload_n hx hb dX10_change_1 rfl (lv_at hl 1 rfl) ?_
  refine wd_cVi ⟨hx, hb, hml, hown, hts⟩ (mtX10_isPerson l D am cI cJ cZ A hD σ0 a1 _ hw) (cwV 1 hts gX10_change_X10_isPerson rfl rfl rfl (by decide +kernel) ⟨(Nat.le_of_ble_eq_true rfl), (Nat.le_of_ble_eq_true rfl)⟩) (va_recv hK hP (ci := 10) (q0 := 0) rfl (mw_q0 am cI cJ cZ σ0)) hK hN hP hS rfl hl.1 rfl (Nat.le_of_ble_eq_true rfl) dX10_change_2 ⟨Nat.zero_le _, Nat.zero_le _⟩ (fun r1 u9 H locs hq hP hS => ?_)
  obtain ⟨hw, hu⟩ := hq
  rw [hu] at hP
  refine lv_if_eq (tgt := 38) hx hb dX10_change_5 (by decide) (fun c9 => ?_) (fun c9 => ?_)
  · have hw := hw.1 c9
    refine lv_iconst (v := -1) hx hb dX10_change_38 (by decide) ?_
    exact wd_iret hx hb hr hlocks hw hP hS dX10_change_39
  · have hw := hw.2 c9
    refine lv_iload_n hx hb dX10_change_8 rfl (lv_at hl 2 rfl) ?_
    refine lv_iconst (v := 0) hx hb dX10_change_9 (by decide) ?_
    refine lv_iconst (v := 1) hx hb dX10_change_10 (by decide) ?_
    refine wd_cSi ⟨hx, hb, hml, hown, hts⟩ (mtX10_in l D am cI cJ cZ A hD σ0 a2 (0 : Int32) (1 : Int32) _ hw) (va_cwS 3 hts gX10_change_X10_in rfl rfl rfl (by decide +kernel) ⟨(Nat.le_of_ble_eq_true rfl), (Nat.le_of_ble_eq_true rfl)⟩) hK hN hP hS rfl hl.1 rfl (Nat.le_of_ble_eq_true rfl) dX10_change_11 ⟨Nat.zero_le _, Nat.zero_le _⟩ (fun r2 u9 H locs hq hP hS => ?_)
    obtain ⟨hw, hu⟩ := hq
    rw [hu] at hP
    refine lv_if_eq (tgt := 38) hx hb dX10_change_14 (by decide) (fun c9 => ?_) (fun c9 => ?_)
    · have hw := hw.1 c9
      refine lv_iconst (v := -1) hx hb dX10_change_38 (by decide) ?_
      exact wd_iret hx hb hr hlocks hw hP hS dX10_change_39
    · have hw := hw.2 c9
      refine lv_iload_n hx hb dX10_change_17 rfl (lv_at hl 3 rfl) ?_
      refine lv_iconst (v := 0) hx hb dX10_change_18 (by decide) ?_
      refine lv_iload_n hx hb dX10_change_19 rfl (lv_at hl 2 rfl) ?_
      refine lv_if_ne (tgt := 29) hx hb dX10_change_20 (by decide) (fun c9 => ?_) (fun c9 => ?_)
      · have hw := hw.1 c9
        refine lv_sipush (v := 4095) hx hb dX10_change_29 (by decide) ?_
        refine wd_cSi ⟨hx, hb, hml, hown, hts⟩ (mtX10_in l D am cI cJ cZ A hD σ0 a3 (0 : Int32) (4095 : Int32) _ hw) (va_cwS 3 hts gX10_change_X10_in rfl rfl rfl (by decide +kernel) ⟨(Nat.le_of_ble_eq_true rfl), (Nat.le_of_ble_eq_true rfl)⟩) hK hN hP hS rfl hl.1 rfl (Nat.le_of_ble_eq_true rfl) dX10_change_32 ⟨Nat.zero_le _, Nat.zero_le _⟩ (fun r3 u9 H locs hq hP hS => ?_)
        obtain ⟨hw, hu⟩ := hq
        rw [hu] at hP
        refine lv_if_ne (tgt := 40) hx hb dX10_change_35 (by decide) (fun c9 => ?_) (fun c9 => ?_)
        · have hw := hw.1 c9
          refine lv_iload_n hx hb dX10_change_40 rfl (lv_at hl 2 rfl) ?_
          refine lv_iconst (v := 1) hx hb dX10_change_41 (by decide) ?_
          refine lv_icmp_ne (tgt := 52) hx hb dX10_change_42 (by decide) (fun c9 => ?_) (fun c9 => ?_)
          · have hw := hw.1 c9
            refine lv_aload_n hx hb dX10_change_52 rfl (lv_at hl 0 rfl) ?_
            refine va_get hx hb hts iX10 hown hK hP 0 (mw_q0 am cI cJ cZ σ0) rfl 3 (by decide) f13 (fun _ h9 => h9) rfl dX10_change_53 ?_
            refine lv_iload_n hx hb dX10_change_56 rfl (lv_at hl 1 rfl) ?_
            obtain ⟨h9, hw⟩ := hw
            refine va_iald hx hb hK hP 2 0 (mw_q2 am cI cJ cZ σ0) rfl h9 dX10_change_57 ?_
            refine lv_topi (fun x4 ex4 => ?_)
            have hw := hw x4 ex4
            refine lv_istore (lv' := [(4, .int x4), (0, .ref (am 0)), (1, .int a1), (2, .int a2), (3, .int a3)]) hx hb dX10_change_58 hl (by decide) rfl (fun ls hl => ?_)
            refine lv_aload_n hx hb dX10_change_60 rfl (lv_at hl 1 rfl) ?_
            refine va_get hx hb hts iX10 hown hK hP 0 (mw_q0 am cI cJ cZ σ0) rfl 3 (by decide) f13 (fun _ h9 => h9) rfl dX10_change_61 ?_
            refine lv_iload_n hx hb dX10_change_64 rfl (lv_at hl 2 rfl) ?_
            refine lv_iload_n hx hb dX10_change_65 rfl (lv_at hl 4 rfl) ?_
            obtain ⟨h9, hw⟩ := hw
            refine wd_iast 1 2 hx hb hK hP hD hS (mw_q2 am cI cJ cZ σ0) rfl (mw_a1 am cI cJ cZ σ0) h9 dX10_change_66 (fun H locs σ5 eσ5 hP hS => ?_)
            have hw := hw σ5 eσ5
            refine lv_iload hx hb dX10_change_67 (lv_at hl 0 rfl) ?_
            exact wd_iret hx hb hr hlocks hw hP hS dX10_change_69
          · have hw := hw.2 c9
            refine lv_aload_n hx hb dX10_change_45 rfl (lv_at hl 0 rfl) ?_
            refine lv_iload_n hx hb dX10_change_46 rfl (lv_at hl 1 rfl) ?_
            refine lv_iload_n hx hb dX10_change_47 rfl (lv_at hl 3 rfl) ?_
            refine wd_cVi ⟨hx, hb, hml, hown, hts⟩ (mtX10_give l D am cI cJ cZ A hD σ0 a1 a3 _ hw) (cwV 2 hts gX10_change_X10_give rfl rfl rfl (by decide +kernel) ⟨(Nat.le_of_ble_eq_true rfl), (Nat.le_of_ble_eq_true rfl)⟩) (va_recv hK hP (ci := 10) (q0 := 0) rfl (mw_q0 am cI cJ cZ σ0)) hK hN hP hS rfl hl.1 rfl (Nat.le_of_ble_eq_true rfl) dX10_change_48 ⟨Nat.zero_le _, Nat.zero_le _⟩ (fun r6 σ7 H locs hw hP hS => ?_)
            exact wd_iret hx hb hr hlocks hw hP hS dX10_change_51
        · have hw := hw.2 c9
          refine lv_iconst (v := -1) hx hb dX10_change_38 (by decide) ?_
          exact wd_iret hx hb hr hlocks hw hP hS dX10_change_39
      · have hw := hw.2 c9
        refine lv_sipush (v := 255) hx hb dX10_change_23 (by decide) ?_
        refine lv_goto (tgt := 32) hx hb dX10_change_26 (by decide) ?_
        refine wd_cSi ⟨hx, hb, hml, hown, hts⟩ (mtX10_in l D am cI cJ cZ A hD σ0 a3 (0 : Int32) (255 : Int32) _ hw) (va_cwS 3 hts gX10_change_X10_in rfl rfl rfl (by decide +kernel) ⟨(Nat.le_of_ble_eq_true rfl), (Nat.le_of_ble_eq_true rfl)⟩) hK hN hP hS rfl hl.1 rfl (Nat.le_of_ble_eq_true rfl) dX10_change_32 ⟨Nat.zero_le _, Nat.zero_le _⟩ (fun r8 u9 H locs hq hP hS => ?_)
        obtain ⟨hw, hu⟩ := hq
        rw [hu] at hP
        refine lv_if_ne (tgt := 40) hx hb dX10_change_35 (by decide) (fun c9 => ?_) (fun c9 => ?_)
        · have hw := hw.1 c9
          refine lv_iload_n hx hb dX10_change_40 rfl (lv_at hl 2 rfl) ?_
          refine lv_iconst (v := 1) hx hb dX10_change_41 (by decide) ?_
          refine lv_icmp_ne (tgt := 52) hx hb dX10_change_42 (by decide) (fun c9 => ?_) (fun c9 => ?_)
          · have hw := hw.1 c9
            refine lv_aload_n hx hb dX10_change_52 rfl (lv_at hl 0 rfl) ?_
            refine va_get hx hb hts iX10 hown hK hP 0 (mw_q0 am cI cJ cZ σ0) rfl 3 (by decide) f13 (fun _ h9 => h9) rfl dX10_change_53 ?_
            refine lv_iload_n hx hb dX10_change_56 rfl (lv_at hl 1 rfl) ?_
            obtain ⟨h9, hw⟩ := hw
            refine va_iald hx hb hK hP 2 0 (mw_q2 am cI cJ cZ σ0) rfl h9 dX10_change_57 ?_
            refine lv_topi (fun x9 ex9 => ?_)
            have hw := hw x9 ex9
            refine lv_istore (lv' := [(4, .int x9), (0, .ref (am 0)), (1, .int a1), (2, .int a2), (3, .int a3)]) hx hb dX10_change_58 hl (by decide) rfl (fun ls hl => ?_)
            refine lv_aload_n hx hb dX10_change_60 rfl (lv_at hl 1 rfl) ?_
            refine va_get hx hb hts iX10 hown hK hP 0 (mw_q0 am cI cJ cZ σ0) rfl 3 (by decide) f13 (fun _ h9 => h9) rfl dX10_change_61 ?_
            refine lv_iload_n hx hb dX10_change_64 rfl (lv_at hl 2 rfl) ?_
            refine lv_iload_n hx hb dX10_change_65 rfl (lv_at hl 4 rfl) ?_
            obtain ⟨h9, hw⟩ := hw
            refine wd_iast 1 2 hx hb hK hP hD hS (mw_q2 am cI cJ cZ σ0) rfl (mw_a1 am cI cJ cZ σ0) h9 dX10_change_66 (fun H locs σ10 eσ10 hP hS => ?_)
            have hw := hw σ10 eσ10
            refine lv_iload hx hb dX10_change_67 (lv_at hl 0 rfl) ?_
            exact wd_iret hx hb hr hlocks hw hP hS dX10_change_69
          · have hw := hw.2 c9
            refine lv_aload_n hx hb dX10_change_45 rfl (lv_at hl 0 rfl) ?_
            refine lv_iload_n hx hb dX10_change_46 rfl (lv_at hl 1 rfl) ?_
            refine lv_iload_n hx hb dX10_change_47 rfl (lv_at hl 3 rfl) ?_
            refine wd_cVi ⟨hx, hb, hml, hown, hts⟩ (mtX10_give l D am cI cJ cZ A hD σ0 a1 a3 _ hw) (cwV 2 hts gX10_change_X10_give rfl rfl rfl (by decide +kernel) ⟨(Nat.le_of_ble_eq_true rfl), (Nat.le_of_ble_eq_true rfl)⟩) (va_recv hK hP (ci := 10) (q0 := 0) rfl (mw_q0 am cI cJ cZ σ0)) hK hN hP hS rfl hl.1 rfl (Nat.le_of_ble_eq_true rfl) dX10_change_48 ⟨Nat.zero_le _, Nat.zero_le _⟩ (fun r11 σ12 H locs hw hP hS => ?_)
            exact wd_iret hx hb hr hlocks hw hP hS dX10_change_51
        · have hw := hw.2 c9
          refine lv_iconst (v := -1) hx hb dX10_change_38 (by decide) ?_
          exact wd_iret hx hb hr hlocks hw hP hS dX10_change_39
def lpX10_kindOf_75 (u1 : Int32) (u2 : Int32) (u3 : Int32) (u5 : Int32) (u6 : Int32) (σ0 : St) (K124 : Int32 → Prop) : Nat → Int32 → Int32 → Prop
  | 0, _, _ => False
  | n + 1, v4, v7 => ((σ0.1 3) ≤ v7 → (K124 v4)) ∧ (¬ (σ0.1 3) ≤ v7 → ((u6 < (σ0.1 3) → (K124 v4)) ∧ (¬ u6 < (σ0.1 3) → ((¬ v4 = 0 → (∀ x4 : Int32, x4 = v7 + (1 : Int32) → (lpX10_kindOf_75 u1 u2 u3 u5 u6 σ0 K124 n (1 : Int32) x4))) ∧ (v4 = 0 → (¬ (σ0.1 4) = 0 ∧ ((¬ ((u6 + v7) - (u6 + v7) / (σ0.1 4) * (σ0.1 4)) = 0 → (∀ x5 : Int32, x5 = v7 + (1 : Int32) → (lpX10_kindOf_75 u1 u2 u3 u5 u6 σ0 K124 n (0 : Int32) x5))) ∧ (((u6 + v7) - (u6 + v7) / (σ0.1 4) * (σ0.1 4)) = 0 → (∀ x6 : Int32, x6 = v7 + (1 : Int32) → (lpX10_kindOf_75 u1 u2 u3 u5 u6 σ0 K124 n (1 : Int32) x6))))))))))
def lpX10_kindOf_8 (u1 : Int32) (u2 : Int32) (σ0 : St) (K130 : Int32 → Int32 → Prop) : Nat → Int32 → Int32 → Int32 → Prop
  | 0, _, _, _ => False
  | n + 1, v3, v4, v5 => ((σ0.1 7) ≤ v5 → (K130 v3 v4)) ∧ (¬ (σ0.1 7) ≤ v5 → (vp_in v5 400 ∧ ((¬ (σ0.2.1 4 v5.toNatClampNeg) = u1 → (∀ x1 : Int32, x1 = v5 + (1 : Int32) → (lpX10_kindOf_8 u1 u2 σ0 K130 n v3 v4 x1))) ∧ ((σ0.2.1 4 v5.toNatClampNeg) = u1 → (vp_in v5 400 ∧ ((¬ (σ0.2.1 5 v5.toNatClampNeg) = u2 → (∀ x2 : Int32, x2 = v5 + (1 : Int32) → (lpX10_kindOf_8 u1 u2 σ0 K130 n v3 v4 x2))) ∧ ((σ0.2.1 5 v5.toNatClampNeg) = u2 → (vp_in v5 400 ∧ (∀ x3 : Int32, x3 = ((σ0.1 6) - (σ0.2.1 6 v5.toNatClampNeg)) → ((¬ v3 = 0 → (∃ n9 : Nat, lpX10_kindOf_75 u1 u2 (1 : Int32) v5 x3 σ0 (fun (y7 : Int32) => ∀ x8 : Int32, x8 = v5 + (1 : Int32) → (lpX10_kindOf_8 u1 u2 σ0 K130 n (1 : Int32) y7 x8)) n9 v4 (0 : Int32))) ∧ (v3 = 0 → (((σ0.1 3) ≤ x3 → (∃ n12 : Nat, lpX10_kindOf_75 u1 u2 (0 : Int32) v5 x3 σ0 (fun (y10 : Int32) => ∀ x11 : Int32, x11 = v5 + (1 : Int32) → (lpX10_kindOf_8 u1 u2 σ0 K130 n (0 : Int32) y10 x11)) n12 v4 (0 : Int32))) ∧ (¬ (σ0.1 3) ≤ x3 → (∃ n15 : Nat, lpX10_kindOf_75 u1 u2 (1 : Int32) v5 x3 σ0 (fun (y13 : Int32) => ∀ x14 : Int32, x14 = v5 + (1 : Int32) → (lpX10_kindOf_8 u1 u2 σ0 K130 n (1 : Int32) y13 x14)) n15 v4 (0 : Int32)))))))))))))))
def wX10_kindOf (σ0 : St) (a1 : Int32) (a2 : Int32) (post : Int32 → Prop) : Prop := ∃ n19 : Nat, lpX10_kindOf_8 a1 a2 σ0 (fun (y16 : Int32) (y17 : Int32) => (y16 = 0 → ((y17 = 0 → (wX10_has (σ0.1 2) a2 (fun (r18 : Int32) => (r18 = 0 → (post (0 : Int32))) ∧ (¬ r18 = 0 → (post (3 : Int32)))))) ∧ (¬ y17 = 0 → (post (2 : Int32))))) ∧ (¬ y16 = 0 → (post (1 : Int32)))) n19 (0 : Int32) (0 : Int32) (0 : Int32)
set_option maxHeartbeats 4000000 in
set_option maxRecDepth 100000 in
theorem mtX10_kindOf (l : Launch) (D : va_G) (am : Nat → Nat) (cI cJ cZ : ClassId) (A : Nat → Prop) (hD : ∀ σ : St, va_D A (mw am cI cJ cZ σ)) (σ0 : St) (a1 : Int32) (a2 : Int32) (post : Int32 → Prop) (hw : wX10_kindOf σ0 a1 a2 post) : Met l yX10_kindOf wsX10_kindOf ({ frames := 1, cells := 0, slots := 0, locals := 21 } : Room) (va_Pc [.ref (am 0), .int a1, .int a2] (wd_pre D (mw am cI cJ cZ) (wd_tys cI cJ cZ) σ0)) (va_Qi (fun (r : Int32) (u : St) => post r ∧ u = σ0) (wd_B D (mw am cI cJ cZ)) A) 0 0 A := by
  refine Met.ofW (cc := cX10_kindOf) (maxL := 8) (ret := (some .int)) (by decide) rfl ?_
  intro p e s m args below meth c s₁ B hml hv
  obtain ⟨rfl, hP, hK, hN⟩ := hv
  have hx := B.exec
  have hb := B.bytes
  have hr := B.returns
  have hts := atoms_spec (ws := wsX10_kindOf) B.pre
  have hown : s.vm.findClass RX10 = some m.cls := findClass_of_methodNamed B.named
  have hlocks := B.notSynchronized
  have hS : va_S A s.heap s.heap [] := va_S.rf
  have f103 := hts (.fieldLink RX10 103 "LeastRightsModel" "uses" "I") (by decide +kernel)
  have iX10 : ∀ w ∈ wsX100, w ∈ wsX10_kindOf := by decide +kernel
  have f32 := hts (.fieldLink RX10 32 "LeastRightsModel" "usePerson" "[I") (by decide +kernel)
  have f35 := hts (.fieldLink RX10 35 "LeastRightsModel" "useRight" "[I") (by decide +kernel)
  have f106 := hts (.fieldLink RX10 106 "LeastRightsModel" "day" "I") (by decide +kernel)
  have f38 := hts (.fieldLink RX10 38 "LeastRightsModel" "useDay" "[I") (by decide +kernel)
  have f22 := hts (.fieldLink RX10 22 "LeastRightsModel" "span" "I") (by decide +kernel)
  have f26 := hts (.fieldLink RX10 26 "LeastRightsModel" "season" "I") (by decide +kernel)
  have f109 := hts (.fieldLink RX10 109 "LeastRightsModel" "standby" "I") (by decide +kernel)
  have L75 : ∀ (u1 : Int32) (u2 : Int32) (u3 : Int32) (u5 : Int32) (u6 : Int32) (K124 : Int32 → Prop) (_ : ∀ (v4 : Int32) (H : Heap) (locs : List Loc) (ls : Array Slot), K124 v4 → va_P D vwCl (mw am cI cJ cZ σ0) H → va_S A s.heap H locs → lv_has ls 8 [(0, .ref (am 0)), (1, .int u1), (2, .int u2), (3, .int u3), (5, .int u5), (6, .int u6), (4, .int v4)] → W p l e (headSpec wsX10_kindOf ({ frames := 1, cells := 0, slots := 0, locals := 21 } : Room)).room s m ([.ref (am 0), .int a1, .int a2] : List Value).toArray below meth c H locs 0 0 (MQ below (va_Qi (fun (r : Int32) (u : St) => post r ∧ u = σ0) (wd_B D (mw am cI cJ cZ)) A) ([.ref (am 0), .int a1, .int a2] : List Value).toArray s 0 0 A) (F0 m 124 ls [])) (n : Nat) (v4 : Int32) (v7 : Int32) (H : Heap) (locs : List Loc) (ls : Array Slot), lpX10_kindOf_75 u1 u2 u3 u5 u6 σ0 K124 n v4 v7 → va_P D vwCl (mw am cI cJ cZ σ0) H → va_S A s.heap H locs → lv_has ls 8 [(0, .ref (am 0)), (1, .int u1), (2, .int u2), (3, .int u3), (5, .int u5), (6, .int u6), (4, .int v4), (7, .int v7)] → W p l e (headSpec wsX10_kindOf ({ frames := 1, cells := 0, slots := 0, locals := 21 } : Room)).room s m ([.ref (am 0), .int a1, .int a2] : List Value).toArray below meth c H locs 0 0 (MQ below (va_Qi (fun (r : Int32) (u : St) => post r ∧ u = σ0) (wd_B D (mw am cI cJ cZ)) A) ([.ref (am 0), .int a1, .int a2] : List Value).toArray s 0 0 A) (F0 m 75 ls []) := by
    intro u1 u2 u3 u5 u6 K124 hK124 n
    induction n with
    | zero => intro v4 v7 H locs ls hw; exact hw.elim
    | succ n ih =>
      intro v4 v7 H locs ls hw hP hS hl
      rw [lpX10_kindOf_75] at hw
      refine lv_iload hx hb dX10_kindOf_75 (lv_at hl 7 rfl) ?_
      refine lv_aload_n hx hb dX10_kindOf_77 rfl (lv_at hl 0 rfl) ?_
      refine va_get hx hb hts iX10 hown hK hP 0 (mw_q0 am cI cJ cZ σ0) rfl 7 (by decide) f22 (fun _ h9 => h9) rfl dX10_kindOf_78 ?_
      refine lv_icmp_ge (tgt := 124) hx hb dX10_kindOf_81 (by decide) (fun c9 => ?_) (fun c9 => ?_)
      · have hw := hw.1 c9
        exact hK124 _ _ _ _ hw hP hS (lv_sub hl [0, 1, 2, 3, 4, 5, 6] rfl)
      · have hw := hw.2 c9
        refine lv_iload hx hb dX10_kindOf_84 (lv_at hl 5 rfl) ?_
        refine lv_aload_n hx hb dX10_kindOf_86 rfl (lv_at hl 0 rfl) ?_
        refine va_get hx hb hts iX10 hown hK hP 0 (mw_q0 am cI cJ cZ σ0) rfl 7 (by decide) f22 (fun _ h9 => h9) rfl dX10_kindOf_87 ?_
        refine lv_icmp_lt (tgt := 124) hx hb dX10_kindOf_90 (by decide) (fun c9 => ?_) (fun c9 => ?_)
        · have hw := hw.1 c9
          exact hK124 _ _ _ _ hw hP hS (lv_sub hl [0, 1, 2, 3, 4, 5, 6] rfl)
        · have hw := hw.2 c9
          refine lv_iload hx hb dX10_kindOf_93 (lv_at hl 6 rfl) ?_
          refine lv_if_ne (tgt := 111) hx hb dX10_kindOf_95 (by decide) (fun c9 => ?_) (fun c9 => ?_)
          · have hw := hw.1 c9
            refine lv_iconst (v := 1) hx hb dX10_kindOf_111 (by decide) ?_
            refine lv_goto (tgt := 116) hx hb dX10_kindOf_112 (by decide) ?_
            refine lv_istore (lv' := [(4, .int (1 : Int32)), (0, .ref (am 0)), (1, .int u1), (2, .int u2), (3, .int u3), (5, .int u5), (6, .int u6), (7, .int v7)]) hx hb dX10_kindOf_116 hl (by decide) rfl (fun ls hl => ?_)
            obtain ⟨x4, ex4⟩ : ∃ z : Int32, z = v7 + (1 : Int32) := ⟨_, rfl⟩
            refine lv_iinc (v := x4) (lv' := [(7, .int x4), (4, .int (1 : Int32)), (0, .ref (am 0)), (1, .int u1), (2, .int u2), (3, .int u3), (5, .int u5), (6, .int u6)]) hx hb dX10_kindOf_118 hl (k := 7) rfl (by rw [ex4]; rfl) (by decide) rfl (fun ls hl => ?_)
            have hw := hw x4 ex4
            refine lv_goto (tgt := 75) hx hb dX10_kindOf_121 (by decide) ?_
            exact ih _ _ _ _ _ hw hP hS (lv_sub hl [2, 3, 4, 5, 6, 7, 1, 0] rfl)
          · have hw := hw.2 c9
            refine lv_iload hx hb dX10_kindOf_98 (lv_at hl 5 rfl) ?_
            refine lv_iload hx hb dX10_kindOf_100 (lv_at hl 7 rfl) ?_
            refine lv_iadd hx hb dX10_kindOf_102 ?_
            refine lv_aload_n hx hb dX10_kindOf_103 rfl (lv_at hl 0 rfl) ?_
            refine va_get hx hb hts iX10 hown hK hP 0 (mw_q0 am cI cJ cZ σ0) rfl 8 (by decide) f26 (fun _ h9 => h9) rfl dX10_kindOf_104 ?_
            obtain ⟨h0, hw⟩ := hw
            refine lv_irem hx hb dX10_kindOf_107 h0 ?_
            refine lv_if_ne (tgt := 115) hx hb dX10_kindOf_108 (by decide) (fun c9 => ?_) (fun c9 => ?_)
            · have hw := hw.1 c9
              refine lv_iconst (v := 0) hx hb dX10_kindOf_115 (by decide) ?_
              refine lv_istore (lv' := [(4, .int (0 : Int32)), (0, .ref (am 0)), (1, .int u1), (2, .int u2), (3, .int u3), (5, .int u5), (6, .int u6), (7, .int v7)]) hx hb dX10_kindOf_116 hl (by decide) rfl (fun ls hl => ?_)
              obtain ⟨x5, ex5⟩ : ∃ z : Int32, z = v7 + (1 : Int32) := ⟨_, rfl⟩
              refine lv_iinc (v := x5) (lv' := [(7, .int x5), (4, .int (0 : Int32)), (0, .ref (am 0)), (1, .int u1), (2, .int u2), (3, .int u3), (5, .int u5), (6, .int u6)]) hx hb dX10_kindOf_118 hl (k := 7) rfl (by rw [ex5]; rfl) (by decide) rfl (fun ls hl => ?_)
              have hw := hw x5 ex5
              refine lv_goto (tgt := 75) hx hb dX10_kindOf_121 (by decide) ?_
              exact ih _ _ _ _ _ hw hP hS (lv_sub hl [2, 3, 4, 5, 6, 7, 1, 0] rfl)
            · have hw := hw.2 c9
              refine lv_iconst (v := 1) hx hb dX10_kindOf_111 (by decide) ?_
              refine lv_goto (tgt := 116) hx hb dX10_kindOf_112 (by decide) ?_
              refine lv_istore (lv' := [(4, .int (1 : Int32)), (0, .ref (am 0)), (1, .int u1), (2, .int u2), (3, .int u3), (5, .int u5), (6, .int u6), (7, .int v7)]) hx hb dX10_kindOf_116 hl (by decide) rfl (fun ls hl => ?_)
              obtain ⟨x6, ex6⟩ : ∃ z : Int32, z = v7 + (1 : Int32) := ⟨_, rfl⟩
              refine lv_iinc (v := x6) (lv' := [(7, .int x6), (4, .int (1 : Int32)), (0, .ref (am 0)), (1, .int u1), (2, .int u2), (3, .int u3), (5, .int u5), (6, .int u6)]) hx hb dX10_kindOf_118 hl (k := 7) rfl (by rw [ex6]; rfl) (by decide) rfl (fun ls hl => ?_)
              have hw := hw x6 ex6
              refine lv_goto (tgt := 75) hx hb dX10_kindOf_121 (by decide) ?_
              exact ih _ _ _ _ _ hw hP hS (lv_sub hl [2, 3, 4, 5, 6, 7, 1, 0] rfl)
  have L8 : ∀ (u1 : Int32) (u2 : Int32) (K130 : Int32 → Int32 → Prop) (_ : ∀ (v3 : Int32) (v4 : Int32) (H : Heap) (locs : List Loc) (ls : Array Slot), K130 v3 v4 → va_P D vwCl (mw am cI cJ cZ σ0) H → va_S A s.heap H locs → lv_has ls 8 [(0, .ref (am 0)), (1, .int u1), (2, .int u2), (3, .int v3), (4, .int v4)] → W p l e (headSpec wsX10_kindOf ({ frames := 1, cells := 0, slots := 0, locals := 21 } : Room)).room s m ([.ref (am 0), .int a1, .int a2] : List Value).toArray below meth c H locs 0 0 (MQ below (va_Qi (fun (r : Int32) (u : St) => post r ∧ u = σ0) (wd_B D (mw am cI cJ cZ)) A) ([.ref (am 0), .int a1, .int a2] : List Value).toArray s 0 0 A) (F0 m 130 ls [])) (n : Nat) (v3 : Int32) (v4 : Int32) (v5 : Int32) (H : Heap) (locs : List Loc) (ls : Array Slot), lpX10_kindOf_8 u1 u2 σ0 K130 n v3 v4 v5 → va_P D vwCl (mw am cI cJ cZ σ0) H → va_S A s.heap H locs → lv_has ls 8 [(0, .ref (am 0)), (1, .int u1), (2, .int u2), (3, .int v3), (4, .int v4), (5, .int v5)] → W p l e (headSpec wsX10_kindOf ({ frames := 1, cells := 0, slots := 0, locals := 21 } : Room)).room s m ([.ref (am 0), .int a1, .int a2] : List Value).toArray below meth c H locs 0 0 (MQ below (va_Qi (fun (r : Int32) (u : St) => post r ∧ u = σ0) (wd_B D (mw am cI cJ cZ)) A) ([.ref (am 0), .int a1, .int a2] : List Value).toArray s 0 0 A) (F0 m 8 ls []) := by
    intro u1 u2 K130 hK130 n
    induction n with
    | zero => intro v3 v4 v5 H locs ls hw; exact hw.elim
    | succ n ih =>
      intro v3 v4 v5 H locs ls hw hP hS hl
      rw [lpX10_kindOf_8] at hw
      refine lv_iload hx hb dX10_kindOf_8 (lv_at hl 5 rfl) ?_
      refine lv_aload_n hx hb dX10_kindOf_10 rfl (lv_at hl 0 rfl) ?_
      refine va_get hx hb hts iX10 hown hK hP 0 (mw_q0 am cI cJ cZ σ0) rfl 11 (by decide) f103 (fun _ h9 => h9) rfl dX10_kindOf_11 ?_
      refine lv_icmp_ge (tgt := 130) hx hb dX10_kindOf_14 (by decide) (fun c9 => ?_) (fun c9 => ?_)
      · have hw := hw.1 c9
        exact hK130 _ _ _ _ _ hw hP hS (lv_sub hl [0, 1, 2, 3, 4] rfl)
      · have hw := hw.2 c9
        refine lv_aload_n hx hb dX10_kindOf_17 rfl (lv_at hl 0 rfl) ?_
        refine va_get hx hb hts iX10 hown hK hP 0 (mw_q0 am cI cJ cZ σ0) rfl 12 (by decide) f32 (fun _ h9 => h9) rfl dX10_kindOf_18 ?_
        refine lv_iload hx hb dX10_kindOf_21 (lv_at hl 5 rfl) ?_
        obtain ⟨h9, hw⟩ := hw
        refine va_iald hx hb hK hP 5 0 (mw_q5 am cI cJ cZ σ0) rfl h9 dX10_kindOf_23 ?_
        refine lv_iload_n hx hb dX10_kindOf_24 rfl (lv_at hl 1 rfl) ?_
        refine lv_icmp_ne (tgt := 124) hx hb dX10_kindOf_25 (by decide) (fun c9 => ?_) (fun c9 => ?_)
        · have hw := hw.1 c9
          obtain ⟨x1, ex1⟩ : ∃ z : Int32, z = v5 + (1 : Int32) := ⟨_, rfl⟩
          refine lv_iinc (v := x1) (lv' := [(5, .int x1), (0, .ref (am 0)), (1, .int u1), (2, .int u2), (3, .int v3), (4, .int v4)]) hx hb dX10_kindOf_124 hl (k := 5) rfl (by rw [ex1]; rfl) (by decide) rfl (fun ls hl => ?_)
          have hw := hw x1 ex1
          refine lv_goto (tgt := 8) hx hb dX10_kindOf_127 (by decide) ?_
          exact ih _ _ _ _ _ _ hw hP hS (lv_sub hl [1, 2, 3, 4, 5, 0] rfl)
        · have hw := hw.2 c9
          refine lv_aload_n hx hb dX10_kindOf_28 rfl (lv_at hl 0 rfl) ?_
          refine va_get hx hb hts iX10 hown hK hP 0 (mw_q0 am cI cJ cZ σ0) rfl 13 (by decide) f35 (fun _ h9 => h9) rfl dX10_kindOf_29 ?_
          refine lv_iload hx hb dX10_kindOf_32 (lv_at hl 5 rfl) ?_
          obtain ⟨h9, hw⟩ := hw
          refine va_iald hx hb hK hP 6 0 (mw_q6 am cI cJ cZ σ0) rfl h9 dX10_kindOf_34 ?_
          refine lv_iload_n hx hb dX10_kindOf_35 rfl (lv_at hl 2 rfl) ?_
          refine lv_icmp_ne (tgt := 124) hx hb dX10_kindOf_36 (by decide) (fun c9 => ?_) (fun c9 => ?_)
          · have hw := hw.1 c9
            obtain ⟨x2, ex2⟩ : ∃ z : Int32, z = v5 + (1 : Int32) := ⟨_, rfl⟩
            refine lv_iinc (v := x2) (lv' := [(5, .int x2), (0, .ref (am 0)), (1, .int u1), (2, .int u2), (3, .int v3), (4, .int v4)]) hx hb dX10_kindOf_124 hl (k := 5) rfl (by rw [ex2]; rfl) (by decide) rfl (fun ls hl => ?_)
            have hw := hw x2 ex2
            refine lv_goto (tgt := 8) hx hb dX10_kindOf_127 (by decide) ?_
            exact ih _ _ _ _ _ _ hw hP hS (lv_sub hl [1, 2, 3, 4, 5, 0] rfl)
          · have hw := hw.2 c9
            refine lv_aload_n hx hb dX10_kindOf_39 rfl (lv_at hl 0 rfl) ?_
            refine va_get hx hb hts iX10 hown hK hP 0 (mw_q0 am cI cJ cZ σ0) rfl 10 (by decide) f106 (fun _ h9 => h9) rfl dX10_kindOf_40 ?_
            refine lv_aload_n hx hb dX10_kindOf_43 rfl (lv_at hl 0 rfl) ?_
            refine va_get hx hb hts iX10 hown hK hP 0 (mw_q0 am cI cJ cZ σ0) rfl 14 (by decide) f38 (fun _ h9 => h9) rfl dX10_kindOf_44 ?_
            refine lv_iload hx hb dX10_kindOf_47 (lv_at hl 5 rfl) ?_
            obtain ⟨h9, hw⟩ := hw
            refine va_iald hx hb hK hP 7 0 (mw_q7 am cI cJ cZ σ0) rfl h9 dX10_kindOf_49 ?_
            refine lv_isub hx hb dX10_kindOf_50 ?_
            refine lv_topi (fun x3 ex3 => ?_)
            have hw := hw x3 ex3
            refine lv_istore (lv' := [(6, .int x3), (0, .ref (am 0)), (1, .int u1), (2, .int u2), (3, .int v3), (4, .int v4), (5, .int v5)]) hx hb dX10_kindOf_51 hl (by decide) rfl (fun ls hl => ?_)
            refine lv_iload_n hx hb dX10_kindOf_53 rfl (lv_at hl 4 rfl) ?_
            refine lv_if_ne (tgt := 66) hx hb dX10_kindOf_54 (by decide) (fun c9 => ?_) (fun c9 => ?_)
            · have hw := hw.1 c9
              refine lv_iconst (v := 1) hx hb dX10_kindOf_66 (by decide) ?_
              refine lv_goto (tgt := 71) hx hb dX10_kindOf_67 (by decide) ?_
              refine lv_istore_n (lv' := [(3, .int (1 : Int32)), (6, .int x3), (0, .ref (am 0)), (1, .int u1), (2, .int u2), (4, .int v4), (5, .int v5)]) hx hb dX10_kindOf_71 rfl hl (by decide) rfl (fun ls hl => ?_)
              refine lv_iconst (v := 0) hx hb dX10_kindOf_72 (by decide) ?_
              refine lv_istore (lv' := [(7, .int (0 : Int32)), (3, .int (1 : Int32)), (6, .int x3), (0, .ref (am 0)), (1, .int u1), (2, .int u2), (4, .int v4), (5, .int v5)]) hx hb dX10_kindOf_73 hl (by decide) rfl (fun ls hl => ?_)
              obtain ⟨n9, hw⟩ := hw
              refine L75 u1 u2 (1 : Int32) v5 x3 _ ?_ n9 v4 (0 : Int32) _ _ _ hw hP hS (lv_sub hl [3, 4, 5, 1, 7, 2, 6, 0] rfl)
              · intro y7 H locs ls hw hP hS hl
                obtain ⟨x8, ex8⟩ : ∃ z : Int32, z = v5 + (1 : Int32) := ⟨_, rfl⟩
                refine lv_iinc (v := x8) (lv' := [(5, .int x8), (0, .ref (am 0)), (1, .int u1), (2, .int u2), (3, .int (1 : Int32)), (6, .int x3), (4, .int y7)]) hx hb dX10_kindOf_124 hl (k := 4) rfl (by rw [ex8]; rfl) (by decide) rfl (fun ls hl => ?_)
                have hw := hw x8 ex8
                refine lv_goto (tgt := 8) hx hb dX10_kindOf_127 (by decide) ?_
                exact ih _ _ _ _ _ _ hw hP hS (lv_sub hl [1, 2, 3, 4, 6, 0] rfl)
            · have hw := hw.2 c9
              refine lv_iload hx hb dX10_kindOf_57 (lv_at hl 0 rfl) ?_
              refine lv_aload_n hx hb dX10_kindOf_59 rfl (lv_at hl 1 rfl) ?_
              refine va_get hx hb hts iX10 hown hK hP 0 (mw_q0 am cI cJ cZ σ0) rfl 7 (by decide) f22 (fun _ h9 => h9) rfl dX10_kindOf_60 ?_
              refine lv_icmp_ge (tgt := 70) hx hb dX10_kindOf_63 (by decide) (fun c9 => ?_) (fun c9 => ?_)
              · have hw := hw.1 c9
                refine lv_iconst (v := 0) hx hb dX10_kindOf_70 (by decide) ?_
                refine lv_istore_n (lv' := [(3, .int (0 : Int32)), (6, .int x3), (0, .ref (am 0)), (1, .int u1), (2, .int u2), (4, .int v4), (5, .int v5)]) hx hb dX10_kindOf_71 rfl hl (by decide) rfl (fun ls hl => ?_)
                refine lv_iconst (v := 0) hx hb dX10_kindOf_72 (by decide) ?_
                refine lv_istore (lv' := [(7, .int (0 : Int32)), (3, .int (0 : Int32)), (6, .int x3), (0, .ref (am 0)), (1, .int u1), (2, .int u2), (4, .int v4), (5, .int v5)]) hx hb dX10_kindOf_73 hl (by decide) rfl (fun ls hl => ?_)
                obtain ⟨n9, hw⟩ := hw
                refine L75 u1 u2 (0 : Int32) v5 x3 _ ?_ n9 v4 (0 : Int32) _ _ _ hw hP hS (lv_sub hl [3, 4, 5, 1, 7, 2, 6, 0] rfl)
                · intro y10 H locs ls hw hP hS hl
                  obtain ⟨x11, ex11⟩ : ∃ z : Int32, z = v5 + (1 : Int32) := ⟨_, rfl⟩
                  refine lv_iinc (v := x11) (lv' := [(5, .int x11), (0, .ref (am 0)), (1, .int u1), (2, .int u2), (3, .int (0 : Int32)), (6, .int x3), (4, .int y10)]) hx hb dX10_kindOf_124 hl (k := 4) rfl (by rw [ex11]; rfl) (by decide) rfl (fun ls hl => ?_)
                  have hw := hw x11 ex11
                  refine lv_goto (tgt := 8) hx hb dX10_kindOf_127 (by decide) ?_
                  exact ih _ _ _ _ _ _ hw hP hS (lv_sub hl [1, 2, 3, 4, 6, 0] rfl)
              · have hw := hw.2 c9
                refine lv_iconst (v := 1) hx hb dX10_kindOf_66 (by decide) ?_
                refine lv_goto (tgt := 71) hx hb dX10_kindOf_67 (by decide) ?_
                refine lv_istore_n (lv' := [(3, .int (1 : Int32)), (6, .int x3), (0, .ref (am 0)), (1, .int u1), (2, .int u2), (4, .int v4), (5, .int v5)]) hx hb dX10_kindOf_71 rfl hl (by decide) rfl (fun ls hl => ?_)
                refine lv_iconst (v := 0) hx hb dX10_kindOf_72 (by decide) ?_
                refine lv_istore (lv' := [(7, .int (0 : Int32)), (3, .int (1 : Int32)), (6, .int x3), (0, .ref (am 0)), (1, .int u1), (2, .int u2), (4, .int v4), (5, .int v5)]) hx hb dX10_kindOf_73 hl (by decide) rfl (fun ls hl => ?_)
                obtain ⟨n9, hw⟩ := hw
                refine L75 u1 u2 (1 : Int32) v5 x3 _ ?_ n9 v4 (0 : Int32) _ _ _ hw hP hS (lv_sub hl [3, 4, 5, 1, 7, 2, 6, 0] rfl)
                · intro y13 H locs ls hw hP hS hl
                  obtain ⟨x14, ex14⟩ : ∃ z : Int32, z = v5 + (1 : Int32) := ⟨_, rfl⟩
                  refine lv_iinc (v := x14) (lv' := [(5, .int x14), (0, .ref (am 0)), (1, .int u1), (2, .int u2), (3, .int (1 : Int32)), (6, .int x3), (4, .int y13)]) hx hb dX10_kindOf_124 hl (k := 4) rfl (by rw [ex14]; rfl) (by decide) rfl (fun ls hl => ?_)
                  have hw := hw x14 ex14
                  refine lv_goto (tgt := 8) hx hb dX10_kindOf_127 (by decide) ?_
                  exact ih _ _ _ _ _ _ hw hP hS (lv_sub hl [1, 2, 3, 4, 6, 0] rfl)
  have hl := lv_entry ([.ref (am 0), .int a1, .int a2]) (n := 8) (Nat.le_of_ble_eq_true rfl)
  rw [lg_entry_eq]
  generalize (lg_sl ([.ref (am 0), .int a1, .int a2]) ++ List.replicate (8 - (lg_sl ([.ref (am 0), .int a1, .int a2])).length) Slot.unset).toArray = ls at hl ⊢
  have hl : lv_has ls 8 [(0, .ref (am 0)), (1, .int a1), (2, .int a2)] := hl
  unfold wX10_kindOf at hw
  refine lv_iconst (v := 0) hx hb dX10_kindOf_0 (by decide) ?_
  refine lv_istore_n (lv' := [(3, .int (0 : Int32)), (0, .ref (am 0)), (1, .int a1), (2, .int a2)]) hx hb dX10_kindOf_1 rfl hl (by decide) rfl (fun ls hl => ?_)
  refine lv_iconst (v := 0) hx hb dX10_kindOf_2 (by decide) ?_
  refine lv_istore (lv' := [(4, .int (0 : Int32)), (3, .int (0 : Int32)), (0, .ref (am 0)), (1, .int a1), (2, .int a2)]) hx hb dX10_kindOf_3 hl (by decide) rfl (fun ls hl => ?_)
  refine lv_iconst (v := 0) hx hb dX10_kindOf_5 (by decide) ?_
  refine lv_istore (lv' := [(5, .int (0 : Int32)), (4, .int (0 : Int32)), (3, .int (0 : Int32)), (0, .ref (am 0)), (1, .int a1), (2, .int a2)]) hx hb dX10_kindOf_6 hl (by decide) rfl (fun ls hl => ?_)
  obtain ⟨n9, hw⟩ := hw
  refine L8 a1 a2 _ ?_ n9 (0 : Int32) (0 : Int32) (0 : Int32) _ _ _ hw hP hS (lv_sub hl [3, 4, 5, 2, 1, 0] rfl)
  · intro y16 y17 H locs ls hw hP hS hl
    refine lv_iload_n hx hb dX10_kindOf_130 rfl (lv_at hl 3 rfl) ?_
    refine lv_if_eq (tgt := 138) hx hb dX10_kindOf_131 (by decide) (fun c9 => ?_) (fun c9 => ?_)
    · have hw := hw.1 c9
      refine lv_iload hx hb dX10_kindOf_138 (lv_at hl 4 rfl) ?_
      refine lv_if_eq (tgt := 147) hx hb dX10_kindOf_140 (by decide) (fun c9 => ?_) (fun c9 => ?_)
      · have hw := hw.1 c9
        refine lv_aload_n hx hb dX10_kindOf_147 rfl (lv_at hl 0 rfl) ?_
        refine va_get hx hb hts iX10 hown hK hP 0 (mw_q0 am cI cJ cZ σ0) rfl 6 (by decide) f109 (fun _ h9 => h9) rfl dX10_kindOf_148 ?_
        refine lv_iload_n hx hb dX10_kindOf_151 rfl (lv_at hl 2 rfl) ?_
        refine wd_cSi ⟨hx, hb, hml, hown, hts⟩ (mtX10_has l D am cI cJ cZ A hD σ0 (σ0.1 2) a2 _ hw) (va_cwS 2 hts gX10_kindOf_X10_has rfl rfl rfl (by decide +kernel) ⟨(Nat.le_of_ble_eq_true rfl), (Nat.le_of_ble_eq_true rfl)⟩) hK hN hP hS rfl hl.1 rfl (Nat.le_of_ble_eq_true rfl) dX10_kindOf_152 ⟨Nat.zero_le _, Nat.zero_le _⟩ (fun r18 u9 H locs hq hP hS => ?_)
        obtain ⟨hw, hu⟩ := hq
        rw [hu] at hP
        refine lv_if_eq (tgt := 162) hx hb dX10_kindOf_155 (by decide) (fun c9 => ?_) (fun c9 => ?_)
        · have hw := hw.1 c9
          refine lv_iconst (v := 0) hx hb dX10_kindOf_162 (by decide) ?_
          exact wd_iret hx hb hr hlocks ⟨hw, rfl⟩ hP hS dX10_kindOf_163
        · have hw := hw.2 c9
          refine lv_iconst (v := 3) hx hb dX10_kindOf_158 (by decide) ?_
          refine lv_goto (tgt := 163) hx hb dX10_kindOf_159 (by decide) ?_
          exact wd_iret hx hb hr hlocks ⟨hw, rfl⟩ hP hS dX10_kindOf_163
      · have hw := hw.2 c9
        refine lv_iconst (v := 2) hx hb dX10_kindOf_143 (by decide) ?_
        refine lv_goto (tgt := 163) hx hb dX10_kindOf_144 (by decide) ?_
        exact wd_iret hx hb hr hlocks ⟨hw, rfl⟩ hP hS dX10_kindOf_163
    · have hw := hw.2 c9
      refine lv_iconst (v := 1) hx hb dX10_kindOf_134 (by decide) ?_
      refine lv_goto (tgt := 163) hx hb dX10_kindOf_135 (by decide) ?_
      exact wd_iret hx hb hr hlocks ⟨hw, rfl⟩ hP hS dX10_kindOf_163
def lpX10_keptOf_4 (u1 : Int32) (σ0 : St) (post : Int32 → Prop) : Nat → Int32 → Int32 → Prop
  | 0, _, _ => False
  | n + 1, v2, v3 => ((12 : Int32) ≤ v3 → (post v2)) ∧ (¬ (12 : Int32) ≤ v3 → (vp_in u1 10 ∧ (wX10_has (σ0.2.1 2 u1.toNatClampNeg) v3 (fun (r1 : Int32) => (r1 = 0 → (∀ x2 : Int32, x2 = (v2 ||| (0 : Int32)) → (∀ x3 : Int32, x3 = v3 + (1 : Int32) → (lpX10_keptOf_4 u1 σ0 post n x2 x3)))) ∧ (¬ r1 = 0 → (wX10_kindOf σ0 u1 v3 (fun (r4 : Int32) => (r4 ≤ 0 → (∀ x5 : Int32, x5 = (v2 ||| (0 : Int32)) → (∀ x6 : Int32, x6 = v3 + (1 : Int32) → (lpX10_keptOf_4 u1 σ0 post n x5 x6)))) ∧ (¬ r4 ≤ 0 → (∀ x7 : Int32, x7 = (v2 ||| ((1 : Int32) <<< (v3 &&& 31))) → (∀ x8 : Int32, x8 = v3 + (1 : Int32) → (lpX10_keptOf_4 u1 σ0 post n x7 x8)))))))))))
def wX10_keptOf (σ0 : St) (a1 : Int32) (post : Int32 → Prop) : Prop := ∃ n9 : Nat, lpX10_keptOf_4 a1 σ0 post n9 (0 : Int32) (0 : Int32)
set_option maxHeartbeats 4000000 in
set_option maxRecDepth 100000 in
theorem mtX10_keptOf (l : Launch) (D : va_G) (am : Nat → Nat) (cI cJ cZ : ClassId) (A : Nat → Prop) (hD : ∀ σ : St, va_D A (mw am cI cJ cZ σ)) (σ0 : St) (a1 : Int32) (post : Int32 → Prop) (hw : wX10_keptOf σ0 a1 post) : Met l yX10_keptOf wsX10_keptOf ({ frames := 2, cells := 0, slots := 0, locals := 48 } : Room) (va_Pc [.ref (am 0), .int a1] (wd_pre D (mw am cI cJ cZ) (wd_tys cI cJ cZ) σ0)) (va_Qi (fun (r : Int32) (u : St) => post r ∧ u = σ0) (wd_B D (mw am cI cJ cZ)) A) 0 0 A := by
  refine Met.ofW (cc := cX10_keptOf) (maxL := 4) (ret := (some .int)) (by decide) rfl ?_
  intro p e s m args below meth c s₁ B hml hv
  obtain ⟨rfl, hP, hK, hN⟩ := hv
  have hx := B.exec
  have hb := B.bytes
  have hr := B.returns
  have hts := atoms_spec (ws := wsX10_keptOf) B.pre
  have hown : s.vm.findClass RX10 = some m.cls := findClass_of_methodNamed B.named
  have hlocks := B.notSynchronized
  have hS : va_S A s.heap s.heap [] := va_S.rf
  have f16 := hts (.fieldLink RX10 16 "LeastRightsModel" "rights" "[I") (by decide +kernel)
  have iX10 : ∀ w ∈ wsX100, w ∈ wsX10_keptOf := by decide +kernel
  have L4 : ∀ (u1 : Int32) (n : Nat) (v2 : Int32) (v3 : Int32) (H : Heap) (locs : List Loc) (ls : Array Slot), lpX10_keptOf_4 u1 σ0 post n v2 v3 → va_P D vwCl (mw am cI cJ cZ σ0) H → va_S A s.heap H locs → lv_has ls 4 [(0, .ref (am 0)), (1, .int u1), (2, .int v2), (3, .int v3)] → W p l e (headSpec wsX10_keptOf ({ frames := 2, cells := 0, slots := 0, locals := 48 } : Room)).room s m ([.ref (am 0), .int a1] : List Value).toArray below meth c H locs 0 0 (MQ below (va_Qi (fun (r : Int32) (u : St) => post r ∧ u = σ0) (wd_B D (mw am cI cJ cZ)) A) ([.ref (am 0), .int a1] : List Value).toArray s 0 0 A) (F0 m 4 ls []) := by
    intro u1 n
    induction n with
    | zero => intro v2 v3 H locs ls hw; exact hw.elim
    | succ n ih =>
      intro v2 v3 H locs ls hw hP hS hl
      rw [lpX10_keptOf_4] at hw
      refine lv_iload_n hx hb dX10_keptOf_4 rfl (lv_at hl 3 rfl) ?_
      refine lv_bipush (v := 12) hx hb dX10_keptOf_5 (by decide) ?_
      refine lv_icmp_ge (tgt := 48) hx hb dX10_keptOf_7 (by decide) (fun c9 => ?_) (fun c9 => ?_)
      · have hw := hw.1 c9
        refine lv_iload_n hx hb dX10_keptOf_48 rfl (lv_at hl 2 rfl) ?_
        exact wd_iret hx hb hr hlocks ⟨hw, rfl⟩ hP hS dX10_keptOf_49
      · have hw := hw.2 c9
        refine lv_iload_n hx hb dX10_keptOf_10 rfl (lv_at hl 2 rfl) ?_
        refine lv_aload_n hx hb dX10_keptOf_11 rfl (lv_at hl 0 rfl) ?_
        refine va_get hx hb hts iX10 hown hK hP 0 (mw_q0 am cI cJ cZ σ0) rfl 4 (by decide) f16 (fun _ h9 => h9) rfl dX10_keptOf_12 ?_
        refine lv_iload_n hx hb dX10_keptOf_15 rfl (lv_at hl 1 rfl) ?_
        obtain ⟨h9, hw⟩ := hw
        refine va_iald hx hb hK hP 3 0 (mw_q3 am cI cJ cZ σ0) rfl h9 dX10_keptOf_16 ?_
        refine lv_iload_n hx hb dX10_keptOf_17 rfl (lv_at hl 3 rfl) ?_
        refine wd_cSi ⟨hx, hb, hml, hown, hts⟩ (mtX10_has l D am cI cJ cZ A hD σ0 (σ0.2.1 2 u1.toNatClampNeg) v3 _ hw) (va_cwS 2 hts gX10_keptOf_X10_has rfl rfl rfl (by decide +kernel) ⟨(Nat.le_of_ble_eq_true rfl), (Nat.le_of_ble_eq_true rfl)⟩) hK hN hP hS rfl hl.1 rfl (Nat.le_of_ble_eq_true rfl) dX10_keptOf_18 ⟨Nat.zero_le _, Nat.zero_le _⟩ (fun r1 u9 H locs hq hP hS => ?_)
        obtain ⟨hw, hu⟩ := hq
        rw [hu] at hP
        refine lv_if_eq (tgt := 39) hx hb dX10_keptOf_21 (by decide) (fun c9 => ?_) (fun c9 => ?_)
        · have hw := hw.1 c9
          refine lv_iconst (v := 0) hx hb dX10_keptOf_39 (by decide) ?_
          refine lv_ior hx hb dX10_keptOf_40 ?_
          refine lv_topi (fun x2 ex2 => ?_)
          have hw := hw x2 ex2
          refine lv_istore_n (lv' := [(2, .int x2), (0, .ref (am 0)), (1, .int u1), (3, .int v3)]) hx hb dX10_keptOf_41 rfl hl (by decide) rfl (fun ls hl => ?_)
          obtain ⟨x3, ex3⟩ : ∃ z : Int32, z = v3 + (1 : Int32) := ⟨_, rfl⟩
          refine lv_iinc (v := x3) (lv' := [(3, .int x3), (2, .int x2), (0, .ref (am 0)), (1, .int u1)]) hx hb dX10_keptOf_42 hl (k := 3) rfl (by rw [ex3]; rfl) (by decide) rfl (fun ls hl => ?_)
          have hw := hw x3 ex3
          refine lv_goto (tgt := 4) hx hb dX10_keptOf_45 (by decide) ?_
          exact ih _ _ _ _ _ hw hP hS (lv_sub hl [2, 3, 1, 0] rfl)
        · have hw := hw.2 c9
          refine lv_aload_n hx hb dX10_keptOf_24 rfl (lv_at hl 0 rfl) ?_
          refine lv_iload_n hx hb dX10_keptOf_25 rfl (lv_at hl 1 rfl) ?_
          refine lv_iload_n hx hb dX10_keptOf_26 rfl (lv_at hl 3 rfl) ?_
          refine wd_cVi ⟨hx, hb, hml, hown, hts⟩ (mtX10_kindOf l D am cI cJ cZ A hD σ0 u1 v3 _ hw) (cwV 2 hts gX10_keptOf_X10_kindOf rfl rfl rfl (by decide +kernel) ⟨(Nat.le_of_ble_eq_true rfl), (Nat.le_of_ble_eq_true rfl)⟩) (va_recv hK hP (ci := 10) (q0 := 0) rfl (mw_q0 am cI cJ cZ σ0)) hK hN hP hS rfl hl.1 rfl (Nat.le_of_ble_eq_true rfl) dX10_keptOf_27 ⟨Nat.zero_le _, Nat.zero_le _⟩ (fun r4 u9 H locs hq hP hS => ?_)
          obtain ⟨hw, hu⟩ := hq
          rw [hu] at hP
          refine lv_if_le (tgt := 39) hx hb dX10_keptOf_30 (by decide) (fun c9 => ?_) (fun c9 => ?_)
          · have hw := hw.1 c9
            refine lv_iconst (v := 0) hx hb dX10_keptOf_39 (by decide) ?_
            refine lv_ior hx hb dX10_keptOf_40 ?_
            refine lv_topi (fun x5 ex5 => ?_)
            have hw := hw x5 ex5
            refine lv_istore_n (lv' := [(2, .int x5), (0, .ref (am 0)), (1, .int u1), (3, .int v3)]) hx hb dX10_keptOf_41 rfl hl (by decide) rfl (fun ls hl => ?_)
            obtain ⟨x6, ex6⟩ : ∃ z : Int32, z = v3 + (1 : Int32) := ⟨_, rfl⟩
            refine lv_iinc (v := x6) (lv' := [(3, .int x6), (2, .int x5), (0, .ref (am 0)), (1, .int u1)]) hx hb dX10_keptOf_42 hl (k := 3) rfl (by rw [ex6]; rfl) (by decide) rfl (fun ls hl => ?_)
            have hw := hw x6 ex6
            refine lv_goto (tgt := 4) hx hb dX10_keptOf_45 (by decide) ?_
            exact ih _ _ _ _ _ hw hP hS (lv_sub hl [2, 3, 1, 0] rfl)
          · have hw := hw.2 c9
            refine lv_iconst (v := 1) hx hb dX10_keptOf_33 (by decide) ?_
            refine lv_iload_n hx hb dX10_keptOf_34 rfl (lv_at hl 3 rfl) ?_
            refine lv_ishl hx hb dX10_keptOf_35 ?_
            refine lv_goto (tgt := 40) hx hb dX10_keptOf_36 (by decide) ?_
            refine lv_ior hx hb dX10_keptOf_40 ?_
            refine lv_topi (fun x7 ex7 => ?_)
            have hw := hw x7 ex7
            refine lv_istore_n (lv' := [(2, .int x7), (0, .ref (am 0)), (1, .int u1), (3, .int v3)]) hx hb dX10_keptOf_41 rfl hl (by decide) rfl (fun ls hl => ?_)
            obtain ⟨x8, ex8⟩ : ∃ z : Int32, z = v3 + (1 : Int32) := ⟨_, rfl⟩
            refine lv_iinc (v := x8) (lv' := [(3, .int x8), (2, .int x7), (0, .ref (am 0)), (1, .int u1)]) hx hb dX10_keptOf_42 hl (k := 3) rfl (by rw [ex8]; rfl) (by decide) rfl (fun ls hl => ?_)
            have hw := hw x8 ex8
            refine lv_goto (tgt := 4) hx hb dX10_keptOf_45 (by decide) ?_
            exact ih _ _ _ _ _ hw hP hS (lv_sub hl [2, 3, 1, 0] rfl)
  have hl := lv_entry ([.ref (am 0), .int a1]) (n := 4) (Nat.le_of_ble_eq_true rfl)
  rw [lg_entry_eq]
  generalize (lg_sl ([.ref (am 0), .int a1]) ++ List.replicate (4 - (lg_sl ([.ref (am 0), .int a1])).length) Slot.unset).toArray = ls at hl ⊢
  have hl : lv_has ls 4 [(0, .ref (am 0)), (1, .int a1)] := hl
  unfold wX10_keptOf at hw
  refine lv_iconst (v := 0) hx hb dX10_keptOf_0 (by decide) ?_
  refine lv_istore_n (lv' := [(2, .int (0 : Int32)), (0, .ref (am 0)), (1, .int a1)]) hx hb dX10_keptOf_1 rfl hl (by decide) rfl (fun ls hl => ?_)
  refine lv_iconst (v := 0) hx hb dX10_keptOf_2 (by decide) ?_
  refine lv_istore_n (lv' := [(3, .int (0 : Int32)), (2, .int (0 : Int32)), (0, .ref (am 0)), (1, .int a1)]) hx hb dX10_keptOf_3 rfl hl (by decide) rfl (fun ls hl => ?_)
  obtain ⟨n9, hw⟩ := hw
  refine L4 a1 n9 (0 : Int32) (0 : Int32) _ _ _ hw hP hS (lv_sub hl [2, 3, 1, 0] rfl)
def lpX10_tells_55 (u1 : Int32) (σ0 : St) (post : Int32 → Prop) : Nat → Int32 → Int32 → Prop
  | 0, _, _ => False
  | n + 1, v3, v4 => ((12 : Int32) ≤ v4 → (post v3)) ∧ (¬ (12 : Int32) ≤ v4 → (vp_in (((12 : Int32) * u1) + v4) 120 ∧ (((σ0.2.1 3 (((12 : Int32) * u1) + v4).toNatClampNeg) < 0 → (∀ x2 : Int32, x2 = (v3 ||| (0 : Int32)) → (∀ x3 : Int32, x3 = v4 + (1 : Int32) → (lpX10_tells_55 u1 σ0 post n x2 x3)))) ∧ (¬ (σ0.2.1 3 (((12 : Int32) * u1) + v4).toNatClampNeg) < 0 → (∀ x4 : Int32, x4 = (v3 ||| ((1 : Int32) <<< (v4 &&& 31))) → (∀ x5 : Int32, x5 = v4 + (1 : Int32) → (lpX10_tells_55 u1 σ0 post n x4 x5)))))))
def lpX10_tells_99 (u1 : Int32) (σ0 : St) (post : Int32 → Prop) : Nat → Int32 → Int32 → Prop
  | 0, _, _ => False
  | n + 1, v3, v4 => ((σ0.1 7) ≤ v4 → (post v3)) ∧ (¬ (σ0.1 7) ≤ v4 → (vp_in v4 400 ∧ ((¬ (σ0.2.1 4 v4.toNatClampNeg) = u1 → (∀ x7 : Int32, x7 = (v3 + (0 : Int32)) → (∀ x8 : Int32, x8 = v4 + (1 : Int32) → (lpX10_tells_99 u1 σ0 post n x7 x8)))) ∧ ((σ0.2.1 4 v4.toNatClampNeg) = u1 → (∀ x9 : Int32, x9 = (v3 + (1 : Int32)) → (∀ x10 : Int32, x10 = v4 + (1 : Int32) → (lpX10_tells_99 u1 σ0 post n x9 x10)))))))
def wX10_tells (σ0 : St) (a1 : Int32) (a2 : Int32) (post : Int32 → Prop) : Prop := (a2 = 0 → (vp_in a1 10 ∧ (post (σ0.2.1 1 a1.toNatClampNeg)))) ∧ (¬ a2 = 0 → ((a2 = 1 → (vp_in a1 10 ∧ (post (σ0.2.1 2 a1.toNatClampNeg)))) ∧ (¬ a2 = 1 → ((a2 = 2 → (wX10_keptOf σ0 a1 (fun (r1 : Int32) => post r1))) ∧ (¬ a2 = 2 → ((a2 = 3 → (∃ n6 : Nat, lpX10_tells_55 a1 σ0 post n6 (0 : Int32) (0 : Int32))) ∧ (¬ a2 = 3 → (∃ n11 : Nat, lpX10_tells_99 a1 σ0 post n11 (0 : Int32) (0 : Int32)))))))))
set_option maxHeartbeats 4000000 in
set_option maxRecDepth 100000 in
theorem mtX10_tells (l : Launch) (D : va_G) (am : Nat → Nat) (cI cJ cZ : ClassId) (A : Nat → Prop) (hD : ∀ σ : St, va_D A (mw am cI cJ cZ σ)) (σ0 : St) (a1 : Int32) (a2 : Int32) (post : Int32 → Prop) (hw : wX10_tells σ0 a1 a2 post) : Met l yX10_tells wsX10_tells ({ frames := 3, cells := 0, slots := 0, locals := 71 } : Room) (va_Pc [.ref (am 0), .int a1, .int a2] (wd_pre D (mw am cI cJ cZ) (wd_tys cI cJ cZ) σ0)) (va_Qi (fun (r : Int32) (u : St) => post r ∧ u = σ0) (wd_B D (mw am cI cJ cZ)) A) 0 0 A := by
  refine Met.ofW (cc := cX10_tells) (maxL := 5) (ret := (some .int)) (by decide) rfl ?_
  intro p e s m args below meth c s₁ B hml hv
  obtain ⟨rfl, hP, hK, hN⟩ := hv
  have hx := B.exec
  have hb := B.bytes
  have hr := B.returns
  have hts := atoms_spec (ws := wsX10_tells) B.pre
  have hown : s.vm.findClass RX10 = some m.cls := findClass_of_methodNamed B.named
  have hlocks := B.notSynchronized
  have hS : va_S A s.heap s.heap [] := va_S.rf
  have f13 := hts (.fieldLink RX10 13 "LeastRightsModel" "marks" "[I") (by decide +kernel)
  have iX10 : ∀ w ∈ wsX100, w ∈ wsX10_tells := by decide +kernel
  have f16 := hts (.fieldLink RX10 16 "LeastRightsModel" "rights" "[I") (by decide +kernel)
  have f19 := hts (.fieldLink RX10 19 "LeastRightsModel" "struck" "[I") (by decide +kernel)
  have f103 := hts (.fieldLink RX10 103 "LeastRightsModel" "uses" "I") (by decide +kernel)
  have f32 := hts (.fieldLink RX10 32 "LeastRightsModel" "usePerson" "[I") (by decide +kernel)
  have L55 : ∀ (u1 : Int32) (n : Nat) (v3 : Int32) (v4 : Int32) (H : Heap) (locs : List Loc) (ls : Array Slot), lpX10_tells_55 u1 σ0 post n v3 v4 → va_P D vwCl (mw am cI cJ cZ σ0) H → va_S A s.heap H locs → lv_has ls 5 [(0, .ref (am 0)), (1, .int u1), (3, .int v3), (4, .int v4)] → W p l e (headSpec wsX10_tells ({ frames := 3, cells := 0, slots := 0, locals := 71 } : Room)).room s m ([.ref (am 0), .int a1, .int a2] : List Value).toArray below meth c H locs 0 0 (MQ below (va_Qi (fun (r : Int32) (u : St) => post r ∧ u = σ0) (wd_B D (mw am cI cJ cZ)) A) ([.ref (am 0), .int a1, .int a2] : List Value).toArray s 0 0 A) (F0 m 55 ls []) := by
    intro u1 n
    induction n with
    | zero => intro v3 v4 H locs ls hw; exact hw.elim
    | succ n ih =>
      intro v3 v4 H locs ls hw hP hS hl
      rw [lpX10_tells_55] at hw
      refine lv_iload hx hb dX10_tells_55 (lv_at hl 3 rfl) ?_
      refine lv_bipush (v := 12) hx hb dX10_tells_57 (by decide) ?_
      refine lv_icmp_ge (tgt := 94) hx hb dX10_tells_59 (by decide) (fun c9 => ?_) (fun c9 => ?_)
      · have hw := hw.1 c9
        refine lv_iload_n hx hb dX10_tells_94 rfl (lv_at hl 2 rfl) ?_
        exact wd_iret hx hb hr hlocks ⟨hw, rfl⟩ hP hS dX10_tells_95
      · have hw := hw.2 c9
        refine lv_iload_n hx hb dX10_tells_62 rfl (lv_at hl 2 rfl) ?_
        refine lv_aload_n hx hb dX10_tells_63 rfl (lv_at hl 0 rfl) ?_
        refine va_get hx hb hts iX10 hown hK hP 0 (mw_q0 am cI cJ cZ σ0) rfl 5 (by decide) f19 (fun _ h9 => h9) rfl dX10_tells_64 ?_
        refine lv_bipush (v := 12) hx hb dX10_tells_67 (by decide) ?_
        refine lv_iload_n hx hb dX10_tells_69 rfl (lv_at hl 1 rfl) ?_
        refine lv_imul hx hb dX10_tells_70 ?_
        refine lv_iload hx hb dX10_tells_71 (lv_at hl 3 rfl) ?_
        refine lv_iadd hx hb dX10_tells_73 ?_
        obtain ⟨h9, hw⟩ := hw
        refine va_iald hx hb hK hP 4 0 (mw_q4 am cI cJ cZ σ0) rfl h9 dX10_tells_74 ?_
        refine lv_if_lt (tgt := 85) hx hb dX10_tells_75 (by decide) (fun c9 => ?_) (fun c9 => ?_)
        · have hw := hw.1 c9
          refine lv_iconst (v := 0) hx hb dX10_tells_85 (by decide) ?_
          refine lv_ior hx hb dX10_tells_86 ?_
          refine lv_topi (fun x2 ex2 => ?_)
          have hw := hw x2 ex2
          refine lv_istore_n (lv' := [(3, .int x2), (0, .ref (am 0)), (1, .int u1), (4, .int v4)]) hx hb dX10_tells_87 rfl hl (by decide) rfl (fun ls hl => ?_)
          obtain ⟨x3, ex3⟩ : ∃ z : Int32, z = v4 + (1 : Int32) := ⟨_, rfl⟩
          refine lv_iinc (v := x3) (lv' := [(4, .int x3), (3, .int x2), (0, .ref (am 0)), (1, .int u1)]) hx hb dX10_tells_88 hl (k := 3) rfl (by rw [ex3]; rfl) (by decide) rfl (fun ls hl => ?_)
          have hw := hw x3 ex3
          refine lv_goto (tgt := 55) hx hb dX10_tells_91 (by decide) ?_
          exact ih _ _ _ _ _ hw hP hS (lv_sub hl [2, 3, 1, 0] rfl)
        · have hw := hw.2 c9
          refine lv_iconst (v := 1) hx hb dX10_tells_78 (by decide) ?_
          refine lv_iload hx hb dX10_tells_79 (lv_at hl 3 rfl) ?_
          refine lv_ishl hx hb dX10_tells_81 ?_
          refine lv_goto (tgt := 86) hx hb dX10_tells_82 (by decide) ?_
          refine lv_ior hx hb dX10_tells_86 ?_
          refine lv_topi (fun x4 ex4 => ?_)
          have hw := hw x4 ex4
          refine lv_istore_n (lv' := [(3, .int x4), (0, .ref (am 0)), (1, .int u1), (4, .int v4)]) hx hb dX10_tells_87 rfl hl (by decide) rfl (fun ls hl => ?_)
          obtain ⟨x5, ex5⟩ : ∃ z : Int32, z = v4 + (1 : Int32) := ⟨_, rfl⟩
          refine lv_iinc (v := x5) (lv' := [(4, .int x5), (3, .int x4), (0, .ref (am 0)), (1, .int u1)]) hx hb dX10_tells_88 hl (k := 3) rfl (by rw [ex5]; rfl) (by decide) rfl (fun ls hl => ?_)
          have hw := hw x5 ex5
          refine lv_goto (tgt := 55) hx hb dX10_tells_91 (by decide) ?_
          exact ih _ _ _ _ _ hw hP hS (lv_sub hl [2, 3, 1, 0] rfl)
  have L99 : ∀ (u1 : Int32) (n : Nat) (v3 : Int32) (v4 : Int32) (H : Heap) (locs : List Loc) (ls : Array Slot), lpX10_tells_99 u1 σ0 post n v3 v4 → va_P D vwCl (mw am cI cJ cZ σ0) H → va_S A s.heap H locs → lv_has ls 5 [(0, .ref (am 0)), (1, .int u1), (3, .int v3), (4, .int v4)] → W p l e (headSpec wsX10_tells ({ frames := 3, cells := 0, slots := 0, locals := 71 } : Room)).room s m ([.ref (am 0), .int a1, .int a2] : List Value).toArray below meth c H locs 0 0 (MQ below (va_Qi (fun (r : Int32) (u : St) => post r ∧ u = σ0) (wd_B D (mw am cI cJ cZ)) A) ([.ref (am 0), .int a1, .int a2] : List Value).toArray s 0 0 A) (F0 m 99 ls []) := by
    intro u1 n
    induction n with
    | zero => intro v3 v4 H locs ls hw; exact hw.elim
    | succ n ih =>
      intro v3 v4 H locs ls hw hP hS hl
      rw [lpX10_tells_99] at hw
      refine lv_iload hx hb dX10_tells_99 (lv_at hl 3 rfl) ?_
      refine lv_aload_n hx hb dX10_tells_101 rfl (lv_at hl 0 rfl) ?_
      refine va_get hx hb hts iX10 hown hK hP 0 (mw_q0 am cI cJ cZ σ0) rfl 11 (by decide) f103 (fun _ h9 => h9) rfl dX10_tells_102 ?_
      refine lv_icmp_ge (tgt := 133) hx hb dX10_tells_105 (by decide) (fun c9 => ?_) (fun c9 => ?_)
      · have hw := hw.1 c9
        refine lv_iload_n hx hb dX10_tells_133 rfl (lv_at hl 2 rfl) ?_
        exact wd_iret hx hb hr hlocks ⟨hw, rfl⟩ hP hS dX10_tells_134
      · have hw := hw.2 c9
        refine lv_iload_n hx hb dX10_tells_108 rfl (lv_at hl 2 rfl) ?_
        refine lv_aload_n hx hb dX10_tells_109 rfl (lv_at hl 0 rfl) ?_
        refine va_get hx hb hts iX10 hown hK hP 0 (mw_q0 am cI cJ cZ σ0) rfl 12 (by decide) f32 (fun _ h9 => h9) rfl dX10_tells_110 ?_
        refine lv_iload hx hb dX10_tells_113 (lv_at hl 3 rfl) ?_
        obtain ⟨h9, hw⟩ := hw
        refine va_iald hx hb hK hP 5 0 (mw_q5 am cI cJ cZ σ0) rfl h9 dX10_tells_115 ?_
        refine lv_iload_n hx hb dX10_tells_116 rfl (lv_at hl 1 rfl) ?_
        refine lv_icmp_ne (tgt := 124) hx hb dX10_tells_117 (by decide) (fun c9 => ?_) (fun c9 => ?_)
        · have hw := hw.1 c9
          refine lv_iconst (v := 0) hx hb dX10_tells_124 (by decide) ?_
          refine lv_iadd hx hb dX10_tells_125 ?_
          refine lv_topi (fun x7 ex7 => ?_)
          have hw := hw x7 ex7
          refine lv_istore_n (lv' := [(3, .int x7), (0, .ref (am 0)), (1, .int u1), (4, .int v4)]) hx hb dX10_tells_126 rfl hl (by decide) rfl (fun ls hl => ?_)
          obtain ⟨x8, ex8⟩ : ∃ z : Int32, z = v4 + (1 : Int32) := ⟨_, rfl⟩
          refine lv_iinc (v := x8) (lv' := [(4, .int x8), (3, .int x7), (0, .ref (am 0)), (1, .int u1)]) hx hb dX10_tells_127 hl (k := 3) rfl (by rw [ex8]; rfl) (by decide) rfl (fun ls hl => ?_)
          have hw := hw x8 ex8
          refine lv_goto (tgt := 99) hx hb dX10_tells_130 (by decide) ?_
          exact ih _ _ _ _ _ hw hP hS (lv_sub hl [2, 3, 1, 0] rfl)
        · have hw := hw.2 c9
          refine lv_iconst (v := 1) hx hb dX10_tells_120 (by decide) ?_
          refine lv_goto (tgt := 125) hx hb dX10_tells_121 (by decide) ?_
          refine lv_iadd hx hb dX10_tells_125 ?_
          refine lv_topi (fun x9 ex9 => ?_)
          have hw := hw x9 ex9
          refine lv_istore_n (lv' := [(3, .int x9), (0, .ref (am 0)), (1, .int u1), (4, .int v4)]) hx hb dX10_tells_126 rfl hl (by decide) rfl (fun ls hl => ?_)
          obtain ⟨x10, ex10⟩ : ∃ z : Int32, z = v4 + (1 : Int32) := ⟨_, rfl⟩
          refine lv_iinc (v := x10) (lv' := [(4, .int x10), (3, .int x9), (0, .ref (am 0)), (1, .int u1)]) hx hb dX10_tells_127 hl (k := 3) rfl (by rw [ex10]; rfl) (by decide) rfl (fun ls hl => ?_)
          have hw := hw x10 ex10
          refine lv_goto (tgt := 99) hx hb dX10_tells_130 (by decide) ?_
          exact ih _ _ _ _ _ hw hP hS (lv_sub hl [2, 3, 1, 0] rfl)
  have hl := lv_entry ([.ref (am 0), .int a1, .int a2]) (n := 5) (Nat.le_of_ble_eq_true rfl)
  rw [lg_entry_eq]
  generalize (lg_sl ([.ref (am 0), .int a1, .int a2]) ++ List.replicate (5 - (lg_sl ([.ref (am 0), .int a1, .int a2])).length) Slot.unset).toArray = ls at hl ⊢
  have hl : lv_has ls 5 [(0, .ref (am 0)), (1, .int a1), (2, .int a2)] := hl
  unfold wX10_tells at hw
  refine lv_iconst (v := 0) hx hb dX10_tells_0 (by decide) ?_
  refine lv_istore_n (lv' := [(3, .int (0 : Int32)), (0, .ref (am 0)), (1, .int a1), (2, .int a2)]) hx hb dX10_tells_1 rfl hl (by decide) rfl (fun ls hl => ?_)
  refine lv_iload_n hx hb dX10_tells_2 rfl (lv_at hl 3 rfl) ?_
  by_cases c0 : a2 = 0
  · have hw := hw.1 c0
    refine lv_tableIn (off := 29) (tgt := 32) hx hb dX10_tells_3 (by rw [c0]; decide) (by rw [c0]; decide) (by rw [c0]; rfl) (by decide) ?_
    refine lv_aload_n hx hb dX10_tells_32 rfl (lv_at hl 1 rfl) ?_
    refine va_get hx hb hts iX10 hown hK hP 0 (mw_q0 am cI cJ cZ σ0) rfl 3 (by decide) f13 (fun _ h9 => h9) rfl dX10_tells_33 ?_
    refine lv_iload_n hx hb dX10_tells_36 rfl (lv_at hl 2 rfl) ?_
    obtain ⟨h9, hw⟩ := hw
    refine va_iald hx hb hK hP 2 0 (mw_q2 am cI cJ cZ σ0) rfl h9 dX10_tells_37 ?_
    exact wd_iret hx hb hr hlocks ⟨hw, rfl⟩ hP hS dX10_tells_38
  · have hw := hw.2 c0
    by_cases c1 : a2 = 1
    · have hw := hw.1 c1
      refine lv_tableIn (off := 36) (tgt := 39) hx hb dX10_tells_3 (by rw [c1]; decide) (by rw [c1]; decide) (by rw [c1]; rfl) (by decide) ?_
      refine lv_aload_n hx hb dX10_tells_39 rfl (lv_at hl 1 rfl) ?_
      refine va_get hx hb hts iX10 hown hK hP 0 (mw_q0 am cI cJ cZ σ0) rfl 4 (by decide) f16 (fun _ h9 => h9) rfl dX10_tells_40 ?_
      refine lv_iload_n hx hb dX10_tells_43 rfl (lv_at hl 2 rfl) ?_
      obtain ⟨h9, hw⟩ := hw
      refine va_iald hx hb hK hP 3 0 (mw_q3 am cI cJ cZ σ0) rfl h9 dX10_tells_44 ?_
      exact wd_iret hx hb hr hlocks ⟨hw, rfl⟩ hP hS dX10_tells_45
    · have hw := hw.2 c1
      by_cases c2 : a2 = 2
      · have hw := hw.1 c2
        refine lv_tableIn (off := 43) (tgt := 46) hx hb dX10_tells_3 (by rw [c2]; decide) (by rw [c2]; decide) (by rw [c2]; rfl) (by decide) ?_
        refine lv_aload_n hx hb dX10_tells_46 rfl (lv_at hl 1 rfl) ?_
        refine lv_iload_n hx hb dX10_tells_47 rfl (lv_at hl 2 rfl) ?_
        refine wd_cVi ⟨hx, hb, hml, hown, hts⟩ (mtX10_keptOf l D am cI cJ cZ A hD σ0 a1 _ hw) (cwV 1 hts gX10_tells_X10_keptOf rfl rfl rfl (by decide +kernel) ⟨(Nat.le_of_ble_eq_true rfl), (Nat.le_of_ble_eq_true rfl)⟩) (va_recv hK hP (ci := 10) (q0 := 0) rfl (mw_q0 am cI cJ cZ σ0)) hK hN hP hS rfl hl.1 rfl (Nat.le_of_ble_eq_true rfl) dX10_tells_48 ⟨Nat.zero_le _, Nat.zero_le _⟩ (fun r1 u9 H locs hq hP hS => ?_)
        obtain ⟨hw, hu⟩ := hq
        rw [hu] at hP
        exact wd_iret hx hb hr hlocks ⟨hw, rfl⟩ hP hS dX10_tells_51
      · have hw := hw.2 c2
        by_cases c3 : a2 = 3
        · have hw := hw.1 c3
          refine lv_tableIn (off := 49) (tgt := 52) hx hb dX10_tells_3 (by rw [c3]; decide) (by rw [c3]; decide) (by rw [c3]; rfl) (by decide) ?_
          refine lv_iconst (v := 0) hx hb dX10_tells_52 (by decide) ?_
          refine lv_istore (lv' := [(4, .int (0 : Int32)), (3, .int (0 : Int32)), (0, .ref (am 0)), (1, .int a1), (2, .int a2)]) hx hb dX10_tells_53 hl (by decide) rfl (fun ls hl => ?_)
          obtain ⟨n9, hw⟩ := hw
          refine L55 a1 n9 (0 : Int32) (0 : Int32) _ _ _ hw hP hS (lv_sub hl [2, 3, 1, 0] rfl)
        · have hw := hw.2 c3
          refine lv_tableOut (tgt := 96) hx hb dX10_tells_3 (wd_sw3 a2 c0 c1 c2 c3) (by decide) ?_
          refine lv_iconst (v := 0) hx hb dX10_tells_96 (by decide) ?_
          refine lv_istore (lv' := [(4, .int (0 : Int32)), (3, .int (0 : Int32)), (0, .ref (am 0)), (1, .int a1), (2, .int a2)]) hx hb dX10_tells_97 hl (by decide) rfl (fun ls hl => ?_)
          obtain ⟨n9, hw⟩ := hw
          refine L99 a1 n9 (0 : Int32) (0 : Int32) _ _ _ hw hP hS (lv_sub hl [2, 3, 1, 0] rfl)
