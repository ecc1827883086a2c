/-! X10_isSheet X10_sheet X10_save X10_load X10_tear X10_copy X10_asked X10_count X10_finding X10_findings X10_digest -/
def wX10_isSheet (a0 : Int32) (post : Int32 → Prop) : Prop := wX10_in a0 (0 : Int32) (3 : Int32) (fun (r1 : Int32) => (r1 = 0 ∨ r1 = 1) ∧ post r1)
set_option maxHeartbeats 4000000 in
set_option maxRecDepth 100000 in
theorem mtX10_isSheet (l : Launch) (D : va_G) (am : Nat → Nat) (cI cJ cZ : ClassId) (A : Nat → Prop) (hD : ∀ σ : St, va_D A (mw am cI cJ cZ σ)) (σ0 : St) (a0 : Int32) (post : Int32 → Prop) (hw : wX10_isSheet a0 post) : Met l yX10_isSheet wsX10_isSheet ({ frames := 1, cells := 0, slots := 0, locals := 22 } : Room) (va_Pc [.int a0] (wd_pre D (mw am cI cJ cZ) (wd_tys cI cJ cZ) σ0)) (va_Qi (fun (r : Int32) (u : St) => post r ∧ u = σ0) (wd_B D (mw am cI cJ cZ)) A) 0 0 A := by
  refine Met.ofW (cc := cX10_isSheet) (maxL := 1) (ret := (some .boolean)) (by decide) rfl ?_
  intro p e s m args below meth c s₁ B hml hv
  obtain ⟨rfl, hP, hK, hN⟩ := hv
  have hx := B.exec
  have hb := B.bytes
  have hr := B.returns
  have hts := atoms_spec (ws := wsX10_isSheet) B.pre
  have hown : s.vm.findClass RX10 = some m.cls := findClass_of_methodNamed B.named
  have hlocks := B.notSynchronized
  have hS : va_S A s.heap s.heap [] := va_S.rf
  have hl := lv_entry ([.int a0]) (n := 1) (Nat.le_of_ble_eq_true rfl)
  rw [lg_entry_eq]
  generalize (lg_sl ([.int a0]) ++ List.replicate (1 - (lg_sl ([.int a0])).length) Slot.unset).toArray = ls at hl ⊢
  have hl : lv_has ls 1 [(0, .int a0)] := hl
  unfold wX10_isSheet at hw
  refine lv_iload_n hx hb dX10_isSheet_0 rfl (lv_at hl 0 rfl) ?_
  refine lv_iconst (v := 0) hx hb dX10_isSheet_1 (by decide) ?_
  refine lv_iconst (v := 3) hx hb dX10_isSheet_2 (by decide) ?_
  refine wd_cSi ⟨hx, hb, hml, hown, hts⟩ (mtX10_in l D am cI cJ cZ A hD σ0 a0 (0 : Int32) (3 : Int32) _ hw) (va_cwS 3 hts gX10_isSheet_X10_in rfl rfl rfl (by decide +kernel) ⟨(Nat.le_of_ble_eq_true rfl), (Nat.le_of_ble_eq_true rfl)⟩) hK hN hP hS rfl hl.1 rfl (Nat.le_of_ble_eq_true rfl) dX10_isSheet_3 ⟨Nat.zero_le _, Nat.zero_le _⟩ (fun r1 u9 H locs hq hP hS => ?_)
  obtain ⟨hw, hu⟩ := hq
  rw [hu] at hP
  obtain ⟨h9, hw⟩ := hw
  exact wd_zret hx hb hr hlocks h9 ⟨hw, rfl⟩ hP hS dX10_isSheet_6
def lpX10_sheet_34 (u1 : Int32) (u2 : Int32) (post : Int32 → St → Prop) : Nat → Int32 → St → Prop
  | 0, _, _ => False
  | n + 1, v3, σ => ((10 : Int32) ≤ v3 → (post u2 σ)) ∧ (¬ (10 : Int32) ≤ v3 → (vp_in (((10 : Int32) * u1) + v3) 40 ∧ (∀ σ3 : St, σ3 = st_A σ 17 (((10 : Int32) * u1) + v3).toNatClampNeg (0 : Int32) → (∀ x4 : Int32, x4 = v3 + (1 : Int32) → (lpX10_sheet_34 u1 u2 post n x4 σ3)))))
def wX10_sheet (σ0 : St) (a1 : Int32) (a2 : Int32) (post : Int32 → St → Prop) : Prop := wX10_isSheet a1 (fun (r1 : Int32) => (r1 = 0 → (post (-1 : Int32) σ0)) ∧ (¬ r1 = 0 → ((a2 ≤ (10 : Int32) → ((0 ≤ a2 → (vp_in a1 4 ∧ (∀ σ2 : St, σ2 = st_A σ0 16 a1.toNatClampNeg a2 → (∃ n5 : Nat, lpX10_sheet_34 a1 a2 post n5 (0 : Int32) σ2)))) ∧ (¬ 0 ≤ a2 → (wX10_meets σ0 (4 : Int32) (fun (r6 : Int32) (σ7 : St) => post r6 σ7))))) ∧ (¬ a2 ≤ (10 : Int32) → (post (-1 : Int32) σ0)))))
set_option maxHeartbeats 4000000 in
set_option maxRecDepth 100000 in
theorem mtX10_sheet (l : Launch) (D : va_G) (am : Nat → Nat) (cI cJ cZ : ClassId) (A : Nat → Prop) (hD : ∀ σ : St, va_D A (mw am cI cJ cZ σ)) (σ0 : St) (a1 : Int32) (a2 : Int32) (post : Int32 → St → Prop) (hw : wX10_sheet σ0 a1 a2 post) : Met l yX10_sheet wsX10_sheet ({ frames := 2, cells := 0, slots := 0, locals := 42 } : Room) (va_Pc [.ref (am 0), .int a1, .int a2] (wd_pre D (mw am cI cJ cZ) (wd_tys cI cJ cZ) σ0)) (va_Qi post (wd_B D (mw am cI cJ cZ)) A) 0 0 A := by
  refine Met.ofW (cc := cX10_sheet) (maxL := 4) (ret := (some .int)) (by decide) rfl ?_
  intro p e s m args below meth c s₁ B hml hv
  obtain ⟨rfl, hP, hK, hN⟩ := hv
  have hx := B.exec
  have hb := B.bytes
  have hr := B.returns
  have hts := atoms_spec (ws := wsX10_sheet) B.pre
  have hown : s.vm.findClass RX10 = some m.cls := findClass_of_methodNamed B.named
  have hlocks := B.notSynchronized
  have hS : va_S A s.heap s.heap [] := va_S.rf
  have f72 := hts (.fieldLink RX10 72 "LeastRightsModel" "sizes" "[I") (by decide +kernel)
  have iX10 : ∀ w ∈ wsX100, w ∈ wsX10_sheet := by decide +kernel
  have f75 := hts (.fieldLink RX10 75 "LeastRightsModel" "sheets" "[I") (by decide +kernel)
  have L34 : ∀ (u1 : Int32) (u2 : Int32) (n : Nat) (v3 : Int32) (σ : St) (H : Heap) (locs : List Loc) (ls : Array Slot), lpX10_sheet_34 u1 u2 post n v3 σ → va_P D vwCl (mw am cI cJ cZ σ) H → va_S A s.heap H locs → lv_has ls 4 [(0, .ref (am 0)), (1, .int u1), (2, .int u2), (3, .int v3)] → W p l e (headSpec wsX10_sheet ({ frames := 2, cells := 0, slots := 0, locals := 42 } : Room)).room s m ([.ref (am 0), .int a1, .int a2] : List Value).toArray below meth c H locs 0 0 (MQ below (va_Qi post (wd_B D (mw am cI cJ cZ)) A) ([.ref (am 0), .int a1, .int a2] : List Value).toArray s 0 0 A) (F0 m 34 ls []) := by
    intro u1 u2 n
    induction n with
    | zero => intro v3 σ H locs ls hw; exact hw.elim
    | succ n ih =>
      intro v3 σ H locs ls hw hP hS hl
      rw [lpX10_sheet_34] at hw
      refine lv_iload_n hx hb dX10_sheet_34 rfl (lv_at hl 3 rfl) ?_
      refine lv_bipush (v := 10) hx hb dX10_sheet_35 (by decide) ?_
      refine lv_icmp_ge (tgt := 58) hx hb dX10_sheet_37 (by decide) (fun c9 => ?_) (fun c9 => ?_)
      · have hw := hw.1 c9
        refine lv_iload_n hx hb dX10_sheet_58 rfl (lv_at hl 2 rfl) ?_
        exact wd_iret hx hb hr hlocks hw hP hS dX10_sheet_59
      · have hw := hw.2 c9
        refine lv_aload_n hx hb dX10_sheet_40 rfl (lv_at hl 0 rfl) ?_
        refine va_get hx hb hts iX10 hown hK hP 0 (mw_q0 am cI cJ cZ σ) rfl 30 (by decide) f75 (fun _ h9 => h9) rfl dX10_sheet_41 ?_
        refine lv_bipush (v := 10) hx hb dX10_sheet_44 (by decide) ?_
        refine lv_iload_n hx hb dX10_sheet_46 rfl (lv_at hl 1 rfl) ?_
        refine lv_imul hx hb dX10_sheet_47 ?_
        refine lv_iload_n hx hb dX10_sheet_48 rfl (lv_at hl 3 rfl) ?_
        refine lv_iadd hx hb dX10_sheet_49 ?_
        refine lv_iconst (v := 0) hx hb dX10_sheet_50 (by decide) ?_
        obtain ⟨h9, hw⟩ := hw
        refine wd_iast 17 18 hx hb hK hP hD hS (mw_q18 am cI cJ cZ σ) rfl (mw_a17 am cI cJ cZ σ) h9 dX10_sheet_51 (fun H locs σ3 eσ3 hP hS => ?_)
        have hw := hw σ3 eσ3
        obtain ⟨x4, ex4⟩ : ∃ z : Int32, z = v3 + (1 : Int32) := ⟨_, rfl⟩
        refine lv_iinc (v := x4) (lv' := [(3, .int x4), (0, .ref (am 0)), (1, .int u1), (2, .int u2)]) hx hb dX10_sheet_52 hl (k := 3) rfl (by rw [ex4]; rfl) (by decide) rfl (fun ls hl => ?_)
        have hw := hw x4 ex4
        refine lv_goto (tgt := 34) hx hb dX10_sheet_55 (by decide) ?_
        exact ih _ _ _ _ _ hw hP hS (lv_sub hl [1, 2, 3, 0] rfl)
  have hl := lv_entry ([.ref (am 0), .int a1, .int a2]) (n := 4) (Nat.le_of_ble_eq_true rfl)
  rw [lg_entry_eq]
  generalize (lg_sl ([.ref (am 0), .int a1, .int a2]) ++ List.replicate (4 - (lg_sl ([.ref (am 0), .int a1, .int a2])).length) Slot.unset).toArray = ls at hl ⊢
  have hl : lv_has ls 4 [(0, .ref (am 0)), (1, .int a1), (2, .int a2)] := hl
  unfold wX10_sheet at hw
  refine lv_iload_n hx hb dX10_sheet_0 rfl (lv_at hl 1 rfl) ?_
  refine wd_cSi ⟨hx, hb, hml, hown, hts⟩ (mtX10_isSheet l D am cI cJ cZ A hD σ0 a1 _ hw) (va_cwS 1 hts gX10_sheet_X10_isSheet rfl rfl rfl (by decide +kernel) ⟨(Nat.le_of_ble_eq_true rfl), (Nat.le_of_ble_eq_true rfl)⟩) hK hN hP hS rfl hl.1 rfl (Nat.le_of_ble_eq_true rfl) dX10_sheet_1 ⟨Nat.zero_le _, Nat.zero_le _⟩ (fun r1 u9 H locs hq hP hS => ?_)
  obtain ⟨hw, hu⟩ := hq
  rw [hu] at hP
  refine lv_if_eq (tgt := 13) hx hb dX10_sheet_4 (by decide) (fun c9 => ?_) (fun c9 => ?_)
  · have hw := hw.1 c9
    refine lv_iconst (v := -1) hx hb dX10_sheet_13 (by decide) ?_
    exact wd_iret hx hb hr hlocks hw hP hS dX10_sheet_14
  · have hw := hw.2 c9
    refine lv_iload_n hx hb dX10_sheet_7 rfl (lv_at hl 2 rfl) ?_
    refine lv_bipush (v := 10) hx hb dX10_sheet_8 (by decide) ?_
    refine lv_icmp_le (tgt := 15) hx hb dX10_sheet_10 (by decide) (fun c9 => ?_) (fun c9 => ?_)
    · have hw := hw.1 c9
      refine lv_iload_n hx hb dX10_sheet_15 rfl (lv_at hl 2 rfl) ?_
      refine lv_if_ge (tgt := 25) hx hb dX10_sheet_16 (by decide) (fun c9 => ?_) (fun c9 => ?_)
      · have hw := hw.1 c9
        refine lv_aload_n hx hb dX10_sheet_25 rfl (lv_at hl 0 rfl) ?_
        refine va_get hx hb hts iX10 hown hK hP 0 (mw_q0 am cI cJ cZ σ0) rfl 29 (by decide) f72 (fun _ h9 => h9) rfl dX10_sheet_26 ?_
        refine lv_iload_n hx hb dX10_sheet_29 rfl (lv_at hl 1 rfl) ?_
        refine lv_iload_n hx hb dX10_sheet_30 rfl (lv_at hl 2 rfl) ?_
        obtain ⟨h9, hw⟩ := hw
        refine wd_iast 16 17 hx hb hK hP hD hS (mw_q17 am cI cJ cZ σ0) rfl (mw_a16 am cI cJ cZ σ0) h9 dX10_sheet_31 (fun H locs σ2 eσ2 hP hS => ?_)
        have hw := hw σ2 eσ2
        refine lv_iconst (v := 0) hx hb dX10_sheet_32 (by decide) ?_
        refine lv_istore_n (lv' := [(3, .int (0 : Int32)), (0, .ref (am 0)), (1, .int a1), (2, .int a2)]) hx hb dX10_sheet_33 rfl hl (by decide) rfl (fun ls hl => ?_)
        obtain ⟨n9, hw⟩ := hw
        refine L34 a1 a2 n9 (0 : Int32) σ2 _ _ _ hw hP hS (lv_sub hl [1, 2, 3, 0] rfl)
      · have hw := hw.2 c9
        refine lv_aload_n hx hb dX10_sheet_19 rfl (lv_at hl 0 rfl) ?_
        refine lv_iconst (v := 4) hx hb dX10_sheet_20 (by decide) ?_
        refine wd_cVi ⟨hx, hb, hml, hown, hts⟩ (mtX10_meets l D am cI cJ cZ A hD σ0 (4 : Int32) _ hw) (cwV 1 hts gX10_sheet_X10_meets rfl rfl rfl (by decide +kernel) ⟨(Nat.le_of_ble_eq_true rfl), (Nat.le_of_ble_eq_true rfl)⟩) (va_recv hK hP (ci := 10) (q0 := 0) rfl (mw_q0 am cI cJ cZ σ0)) hK hN hP hS rfl hl.1 rfl (Nat.le_of_ble_eq_true rfl) dX10_sheet_21 ⟨Nat.zero_le _, Nat.zero_le _⟩ (fun r6 σ7 H locs hw hP hS => ?_)
        exact wd_iret hx hb hr hlocks hw hP hS dX10_sheet_24
    · have hw := hw.2 c9
      refine lv_iconst (v := -1) hx hb dX10_sheet_13 (by decide) ?_
      exact wd_iret hx hb hr hlocks hw hP hS dX10_sheet_14
def lpX10_save_53 (u1 : Int32) (u2 : Int32) (post : Int32 → St → Prop) : Nat → Int32 → St → Prop
  | 0, _, _ => False
  | n + 1, v3, σ => (u2 ≤ v3 → (post u2 σ)) ∧ (¬ u2 ≤ v3 → (vp_in v3 10 ∧ (vp_in (((10 : Int32) * u1) + v3) 40 ∧ (∀ σ3 : St, σ3 = st_A σ 17 (((10 : Int32) * u1) + v3).toNatClampNeg (σ.2.1 2 v3.toNatClampNeg) → (∀ x4 : Int32, x4 = v3 + (1 : Int32) → (lpX10_save_53 u1 u2 post n x4 σ3))))))
def wX10_save (σ0 : St) (a1 : Int32) (post : Int32 → St → Prop) : Prop := wX10_isSheet a1 (fun (r1 : Int32) => (¬ r1 = 0 → (vp_in a1 4 ∧ ((0 ≤ (σ0.2.1 16 a1.toNatClampNeg) → (vp_in a1 4 ∧ (((σ0.2.1 16 a1.toNatClampNeg) ≤ (σ0.1 1) → (vp_in a1 4 ∧ (∀ x2 : Int32, x2 = (σ0.2.1 16 a1.toNatClampNeg) → (∃ n5 : Nat, lpX10_save_53 a1 x2 post n5 (0 : Int32) σ0)))) ∧ (¬ (σ0.2.1 16 a1.toNatClampNeg) ≤ (σ0.1 1) → (∀ x6 : Int32, x6 = (σ0.1 1) → (∃ n7 : Nat, lpX10_save_53 a1 x6 post n7 (0 : Int32) σ0)))))) ∧ (¬ 0 ≤ (σ0.2.1 16 a1.toNatClampNeg) → (wX10_meets σ0 (1 : Int32) (fun (r8 : Int32) (σ9 : St) => post r8 σ9)))))) ∧ (r1 = 0 → (post (-1 : Int32) σ0)))
set_option maxHeartbeats 4000000 in
set_option maxRecDepth 100000 in
theorem mtX10_save (l : Launch) (D : va_G) (am : Nat → Nat) (cI cJ cZ : ClassId) (A : Nat → Prop) (hD : ∀ σ : St, va_D A (mw am cI cJ cZ σ)) (σ0 : St) (a1 : Int32) (post : Int32 → St → Prop) (hw : wX10_save σ0 a1 post) : Met l yX10_save wsX10_save ({ frames := 2, cells := 0, slots := 0, locals := 42 } : Room) (va_Pc [.ref (am 0), .int a1] (wd_pre D (mw am cI cJ cZ) (wd_tys cI cJ cZ) σ0)) (va_Qi post (wd_B D (mw am cI cJ cZ)) A) 0 0 A := by
  refine Met.ofW (cc := cX10_save) (maxL := 4) (ret := (some .int)) (by decide) rfl ?_
  intro p e s m args below meth c s₁ B hml hv
  obtain ⟨rfl, hP, hK, hN⟩ := hv
  have hx := B.exec
  have hb := B.bytes
  have hr := B.returns
  have hts := atoms_spec (ws := wsX10_save) B.pre
  have hown : s.vm.findClass RX10 = some m.cls := findClass_of_methodNamed B.named
  have hlocks := B.notSynchronized
  have hS : va_S A s.heap s.heap [] := va_S.rf
  have f72 := hts (.fieldLink RX10 72 "LeastRightsModel" "sizes" "[I") (by decide +kernel)
  have iX10 : ∀ w ∈ wsX100, w ∈ wsX10_save := by decide +kernel
  have f84 := hts (.fieldLink RX10 84 "LeastRightsModel" "people" "I") (by decide +kernel)
  have f75 := hts (.fieldLink RX10 75 "LeastRightsModel" "sheets" "[I") (by decide +kernel)
  have f16 := hts (.fieldLink RX10 16 "LeastRightsModel" "rights" "[I") (by decide +kernel)
  have L53 : ∀ (u1 : Int32) (u2 : Int32) (n : Nat) (v3 : Int32) (σ : St) (H : Heap) (locs : List Loc) (ls : Array Slot), lpX10_save_53 u1 u2 post n v3 σ → va_P D vwCl (mw am cI cJ cZ σ) H → va_S A s.heap H locs → lv_has ls 4 [(0, .ref (am 0)), (1, .int u1), (2, .int u2), (3, .int v3)] → W p l e (headSpec wsX10_save ({ frames := 2, cells := 0, slots := 0, locals := 42 } : Room)).room s m ([.ref (am 0), .int a1] : List Value).toArray below meth c H locs 0 0 (MQ below (va_Qi post (wd_B D (mw am cI cJ cZ)) A) ([.ref (am 0), .int a1] : List Value).toArray s 0 0 A) (F0 m 53 ls []) := by
    intro u1 u2 n
    induction n with
    | zero => intro v3 σ H locs ls hw; exact hw.elim
    | succ n ih =>
      intro v3 σ H locs ls hw hP hS hl
      rw [lpX10_save_53] at hw
      refine lv_iload_n hx hb dX10_save_53 rfl (lv_at hl 3 rfl) ?_
      refine lv_iload_n hx hb dX10_save_54 rfl (lv_at hl 2 rfl) ?_
      refine lv_icmp_ge (tgt := 81) hx hb dX10_save_55 (by decide) (fun c9 => ?_) (fun c9 => ?_)
      · have hw := hw.1 c9
        refine lv_iload_n hx hb dX10_save_81 rfl (lv_at hl 2 rfl) ?_
        exact wd_iret hx hb hr hlocks hw hP hS dX10_save_82
      · have hw := hw.2 c9
        refine lv_aload_n hx hb dX10_save_58 rfl (lv_at hl 0 rfl) ?_
        refine va_get hx hb hts iX10 hown hK hP 0 (mw_q0 am cI cJ cZ σ) rfl 30 (by decide) f75 (fun _ h9 => h9) rfl dX10_save_59 ?_
        refine lv_bipush (v := 10) hx hb dX10_save_62 (by decide) ?_
        refine lv_iload_n hx hb dX10_save_64 rfl (lv_at hl 1 rfl) ?_
        refine lv_imul hx hb dX10_save_65 ?_
        refine lv_iload_n hx hb dX10_save_66 rfl (lv_at hl 3 rfl) ?_
        refine lv_iadd hx hb dX10_save_67 ?_
        refine lv_aload_n hx hb dX10_save_68 rfl (lv_at hl 0 rfl) ?_
        refine va_get hx hb hts iX10 hown hK hP 0 (mw_q0 am cI cJ cZ σ) rfl 4 (by decide) f16 (fun _ h9 => h9) rfl dX10_save_69 ?_
        refine lv_iload_n hx hb dX10_save_72 rfl (lv_at hl 3 rfl) ?_
        obtain ⟨h9, hw⟩ := hw
        refine va_iald hx hb hK hP 3 0 (mw_q3 am cI cJ cZ σ) rfl h9 dX10_save_73 ?_
        obtain ⟨h9, hw⟩ := hw
        refine wd_iast 17 18 hx hb hK hP hD hS (mw_q18 am cI cJ cZ σ) rfl (mw_a17 am cI cJ cZ σ) h9 dX10_save_74 (fun H locs σ3 eσ3 hP hS => ?_)
        have hw := hw σ3 eσ3
        obtain ⟨x4, ex4⟩ : ∃ z : Int32, z = v3 + (1 : Int32) := ⟨_, rfl⟩
        refine lv_iinc (v := x4) (lv' := [(3, .int x4), (0, .ref (am 0)), (1, .int u1), (2, .int u2)]) hx hb dX10_save_75 hl (k := 3) rfl (by rw [ex4]; rfl) (by decide) rfl (fun ls hl => ?_)
        have hw := hw x4 ex4
        refine lv_goto (tgt := 53) hx hb dX10_save_78 (by decide) ?_
        exact ih _ _ _ _ _ hw hP hS (lv_sub hl [1, 2, 3, 0] rfl)
  have hl := lv_entry ([.ref (am 0), .int a1]) (n := 4) (Nat.le_of_ble_eq_true rfl)
  rw [lg_entry_eq]
  generalize (lg_sl ([.ref (am 0), .int a1]) ++ List.replicate (4 - (lg_sl ([.ref (am 0), .int a1])).length) Slot.unset).toArray = ls at hl ⊢
  have hl : lv_has ls 4 [(0, .ref (am 0)), (1, .int a1)] := hl
  unfold wX10_save at hw
  refine lv_iload_n hx hb dX10_save_0 rfl (lv_at hl 1 rfl) ?_
  refine wd_cSi ⟨hx, hb, hml, hown, hts⟩ (mtX10_isSheet l D am cI cJ cZ A hD σ0 a1 _ hw) (va_cwS 1 hts gX10_save_X10_isSheet rfl rfl rfl (by decide +kernel) ⟨(Nat.le_of_ble_eq_true rfl), (Nat.le_of_ble_eq_true rfl)⟩) hK hN hP hS rfl hl.1 rfl (Nat.le_of_ble_eq_true rfl) dX10_save_1 ⟨Nat.zero_le _, Nat.zero_le _⟩ (fun r1 u9 H locs hq hP hS => ?_)
  obtain ⟨hw, hu⟩ := hq
  rw [hu] at hP
  refine lv_if_ne (tgt := 9) hx hb dX10_save_4 (by decide) (fun c9 => ?_) (fun c9 => ?_)
  · have hw := hw.1 c9
    refine lv_aload_n hx hb dX10_save_9 rfl (lv_at hl 0 rfl) ?_
    refine va_get hx hb hts iX10 hown hK hP 0 (mw_q0 am cI cJ cZ σ0) rfl 29 (by decide) f72 (fun _ h9 => h9) rfl dX10_save_10 ?_
    refine lv_iload_n hx hb dX10_save_13 rfl (lv_at hl 1 rfl) ?_
    obtain ⟨h9, hw⟩ := hw
    refine va_iald hx hb hK hP 17 0 (mw_q17 am cI cJ cZ σ0) rfl h9 dX10_save_14 ?_
    refine lv_if_ge (tgt := 24) hx hb dX10_save_15 (by decide) (fun c9 => ?_) (fun c9 => ?_)
    · have hw := hw.1 c9
      refine lv_aload_n hx hb dX10_save_24 rfl (lv_at hl 0 rfl) ?_
      refine va_get hx hb hts iX10 hown hK hP 0 (mw_q0 am cI cJ cZ σ0) rfl 2 (by decide) f84 (fun _ h9 => h9) rfl dX10_save_25 ?_
      refine lv_aload_n hx hb dX10_save_28 rfl (lv_at hl 0 rfl) ?_
      refine va_get hx hb hts iX10 hown hK hP 0 (mw_q0 am cI cJ cZ σ0) rfl 29 (by decide) f72 (fun _ h9 => h9) rfl dX10_save_29 ?_
      refine lv_iload_n hx hb dX10_save_32 rfl (lv_at hl 1 rfl) ?_
      obtain ⟨h9, hw⟩ := hw
      refine va_iald hx hb hK hP 17 0 (mw_q17 am cI cJ cZ σ0) rfl h9 dX10_save_33 ?_
      refine lv_icmp_ge (tgt := 44) hx hb dX10_save_34 (by decide) (fun c9 => ?_) (fun c9 => ?_)
      · have hw := hw.1 c9
        refine lv_aload_n hx hb dX10_save_44 rfl (lv_at hl 0 rfl) ?_
        refine va_get hx hb hts iX10 hown hK hP 0 (mw_q0 am cI cJ cZ σ0) rfl 29 (by decide) f72 (fun _ h9 => h9) rfl dX10_save_45 ?_
        refine lv_iload_n hx hb dX10_save_48 rfl (lv_at hl 1 rfl) ?_
        obtain ⟨h9, hw⟩ := hw
        refine va_iald hx hb hK hP 17 0 (mw_q17 am cI cJ cZ σ0) rfl h9 dX10_save_49 ?_
        refine lv_topi (fun x2 ex2 => ?_)
        have hw := hw x2 ex2
        refine lv_istore_n (lv' := [(2, .int x2), (0, .ref (am 0)), (1, .int a1)]) hx hb dX10_save_50 rfl hl (by decide) rfl (fun ls hl => ?_)
        refine lv_iconst (v := 0) hx hb dX10_save_51 (by decide) ?_
        refine lv_istore_n (lv' := [(3, .int (0 : Int32)), (2, .int x2), (0, .ref (am 0)), (1, .int a1)]) hx hb dX10_save_52 rfl hl (by decide) rfl (fun ls hl => ?_)
        obtain ⟨n9, hw⟩ := hw
        refine L53 a1 x2 n9 (0 : Int32) σ0 _ _ _ hw hP hS (lv_sub hl [2, 3, 1, 0] rfl)
      · have hw := hw.2 c9
        refine lv_aload_n hx hb dX10_save_37 rfl (lv_at hl 0 rfl) ?_
        refine va_get hx hb hts iX10 hown hK hP 0 (mw_q0 am cI cJ cZ σ0) rfl 2 (by decide) f84 (fun _ h9 => h9) rfl dX10_save_38 ?_
        refine lv_goto (tgt := 50) hx hb dX10_save_41 (by decide) ?_
        refine lv_topi (fun x6 ex6 => ?_)
        have hw := hw x6 ex6
        refine lv_istore_n (lv' := [(2, .int x6), (0, .ref (am 0)), (1, .int a1)]) hx hb dX10_save_50 rfl hl (by decide) rfl (fun ls hl => ?_)
        refine lv_iconst (v := 0) hx hb dX10_save_51 (by decide) ?_
        refine lv_istore_n (lv' := [(3, .int (0 : Int32)), (2, .int x6), (0, .ref (am 0)), (1, .int a1)]) hx hb dX10_save_52 rfl hl (by decide) rfl (fun ls hl => ?_)
        obtain ⟨n9, hw⟩ := hw
        refine L53 a1 x6 n9 (0 : Int32) σ0 _ _ _ hw hP hS (lv_sub hl [2, 3, 1, 0] rfl)
    · have hw := hw.2 c9
      refine lv_aload_n hx hb dX10_save_18 rfl (lv_at hl 0 rfl) ?_
      refine lv_iconst (v := 1) hx hb dX10_save_19 (by decide) ?_
      refine wd_cVi ⟨hx, hb, hml, hown, hts⟩ (mtX10_meets l D am cI cJ cZ A hD σ0 (1 : Int32) _ hw) (cwV 1 hts gX10_save_X10_meets rfl rfl rfl (by decide +kernel) ⟨(Nat.le_of_ble_eq_true rfl), (Nat.le_of_ble_eq_true rfl)⟩) (va_recv hK hP (ci := 10) (q0 := 0) rfl (mw_q0 am cI cJ cZ σ0)) hK hN hP hS rfl hl.1 rfl (Nat.le_of_ble_eq_true rfl) dX10_save_20 ⟨Nat.zero_le _, Nat.zero_le _⟩ (fun r8 σ9 H locs hw hP hS => ?_)
      exact wd_iret hx hb hr hlocks hw hP hS dX10_save_23
  · have hw := hw.2 c9
    refine lv_iconst (v := -1) hx hb dX10_save_7 (by decide) ?_
    exact wd_iret hx hb hr hlocks hw hP hS dX10_save_8
def wX10_load (σ0 : St) (a1 : Int32) (a2 : Int32) (a3 : Int32) (post : Int32 → St → Prop) : Prop := wX10_isSheet a1 (fun (r1 : Int32) => (r1 = 0 → (post (-1 : Int32) σ0)) ∧ (¬ r1 = 0 → (wX10_isPerson σ0 a3 (fun (r2 : Int32) => (¬ r2 = 0 → (vp_in a1 4 ∧ ((0 ≤ (σ0.2.1 16 a1.toNatClampNeg) → (vp_in a1 4 ∧ (wX10_in a2 (0 : Int32) ((σ0.2.1 16 a1.toNatClampNeg) - (1 : Int32)) (fun (r3 : Int32) => (¬ r3 = 0 → (vp_in (((10 : Int32) * a1) + a2) 40 ∧ (wX10_give σ0 a3 (σ0.2.1 17 (((10 : Int32) * a1) + a2).toNatClampNeg) (fun (r4 : Int32) (σ5 : St) => post (1 : Int32) σ5)))) ∧ (r3 = 0 → (wX10_meets σ0 (2 : Int32) (fun (r6 : Int32) (σ7 : St) => post r6 σ7))))))) ∧ (¬ 0 ≤ (σ0.2.1 16 a1.toNatClampNeg) → (wX10_meets σ0 (1 : Int32) (fun (r8 : Int32) (σ9 : St) => post r8 σ9)))))) ∧ (r2 = 0 → (post (-1 : Int32) σ0))))))
set_option maxHeartbeats 4000000 in
set_option maxRecDepth 100000 in
theorem mtX10_load (l : Launch) (D : va_G) (am : Nat → Nat) (cI cJ cZ : ClassId) (A : Nat → Prop) (hD : ∀ σ : St, va_D A (mw am cI cJ cZ σ)) (σ0 : St) (a1 : Int32) (a2 : Int32) (a3 : Int32) (post : Int32 → St → Prop) (hw : wX10_load σ0 a1 a2 a3 post) : Met l yX10_load wsX10_load ({ frames := 2, cells := 0, slots := 0, locals := 45 } : Room) (va_Pc [.ref (am 0), .int a1, .int a2, .int a3] (wd_pre D (mw am cI cJ cZ) (wd_tys cI cJ cZ) σ0)) (va_Qi post (wd_B D (mw am cI cJ cZ)) A) 0 0 A := by
  refine Met.ofW (cc := cX10_load) (maxL := 5) (ret := (some .int)) (by decide) rfl ?_
  intro p e s m args below meth c s₁ B hml hv
  obtain ⟨rfl, hP, hK, hN⟩ := hv
  have hx := B.exec
  have hb := B.bytes
  have hr := B.returns
  have hts := atoms_spec (ws := wsX10_load) B.pre
  have hown : s.vm.findClass RX10 = some m.cls := findClass_of_methodNamed B.named
  have hlocks := B.notSynchronized
  have hS : va_S A s.heap s.heap [] := va_S.rf
  have f72 := hts (.fieldLink RX10 72 "LeastRightsModel" "sizes" "[I") (by decide +kernel)
  have iX10 : ∀ w ∈ wsX100, w ∈ wsX10_load := by decide +kernel
  have f75 := hts (.fieldLink RX10 75 "LeastRightsModel" "sheets" "[I") (by decide +kernel)
  have hl := lv_entry ([.ref (am 0), .int a1, .int a2, .int a3]) (n := 5) (Nat.le_of_ble_eq_true rfl)
  rw [lg_entry_eq]
  generalize (lg_sl ([.ref (am 0), .int a1, .int a2, .int a3]) ++ List.replicate (5 - (lg_sl ([.ref (am 0), .int a1, .int a2, .int a3])).length) Slot.unset).toArray = ls at hl ⊢
  have hl : lv_has ls 5 [(0, .ref (am 0)), (1, .int a1), (2, .int a2), (3, .int a3)] := hl
  unfold wX10_load at hw
  refine lv_iload_n hx hb dX10_load_0 rfl (lv_at hl 1 rfl) ?_
  refine wd_cSi ⟨hx, hb, hml, hown, hts⟩ (mtX10_isSheet l D am cI cJ cZ A hD σ0 a1 _ hw) (va_cwS 1 hts gX10_load_X10_isSheet rfl rfl rfl (by decide +kernel) ⟨(Nat.le_of_ble_eq_true rfl), (Nat.le_of_ble_eq_true rfl)⟩) hK hN hP hS rfl hl.1 rfl (Nat.le_of_ble_eq_true rfl) dX10_load_1 ⟨Nat.zero_le _, Nat.zero_le _⟩ (fun r1 u9 H locs hq hP hS => ?_)
  obtain ⟨hw, hu⟩ := hq
  rw [hu] at hP
  refine lv_if_eq (tgt := 15) hx hb dX10_load_4 (by decide) (fun c9 => ?_) (fun c9 => ?_)
  · have hw := hw.1 c9
    refine lv_iconst (v := -1) hx hb dX10_load_15 (by decide) ?_
    exact wd_iret hx hb hr hlocks hw hP hS dX10_load_16
  · have hw := hw.2 c9
    refine lv_aload_n hx hb dX10_load_7 rfl (lv_at hl 0 rfl) ?_
    refine lv_iload_n hx hb dX10_load_8 rfl (lv_at hl 3 rfl) ?_
    refine wd_cVi ⟨hx, hb, hml, hown, hts⟩ (mtX10_isPerson l D am cI cJ cZ A hD σ0 a3 _ hw) (cwV 1 hts gX10_load_X10_isPerson rfl rfl rfl (by decide +kernel) ⟨(Nat.le_of_ble_eq_true rfl), (Nat.le_of_ble_eq_true rfl)⟩) (va_recv hK hP (ci := 10) (q0 := 0) rfl (mw_q0 am cI cJ cZ σ0)) hK hN hP hS rfl hl.1 rfl (Nat.le_of_ble_eq_true rfl) dX10_load_9 ⟨Nat.zero_le _, Nat.zero_le _⟩ (fun r2 u9 H locs hq hP hS => ?_)
    obtain ⟨hw, hu⟩ := hq
    rw [hu] at hP
    refine lv_if_ne (tgt := 17) hx hb dX10_load_12 (by decide) (fun c9 => ?_) (fun c9 => ?_)
    · have hw := hw.1 c9
      refine lv_aload_n hx hb dX10_load_17 rfl (lv_at hl 0 rfl) ?_
      refine va_get hx hb hts iX10 hown hK hP 0 (mw_q0 am cI cJ cZ σ0) rfl 29 (by decide) f72 (fun _ h9 => h9) rfl dX10_load_18 ?_
      refine lv_iload_n hx hb dX10_load_21 rfl (lv_at hl 1 rfl) ?_
      obtain ⟨h9, hw⟩ := hw
      refine va_iald hx hb hK hP 17 0 (mw_q17 am cI cJ cZ σ0) rfl h9 dX10_load_22 ?_
      refine lv_if_ge (tgt := 32) hx hb dX10_load_23 (by decide) (fun c9 => ?_) (fun c9 => ?_)
      · have hw := hw.1 c9
        refine lv_iload_n hx hb dX10_load_32 rfl (lv_at hl 2 rfl) ?_
        refine lv_iconst (v := 0) hx hb dX10_load_33 (by decide) ?_
        refine lv_aload_n hx hb dX10_load_34 rfl (lv_at hl 0 rfl) ?_
        refine va_get hx hb hts iX10 hown hK hP 0 (mw_q0 am cI cJ cZ σ0) rfl 29 (by decide) f72 (fun _ h9 => h9) rfl dX10_load_35 ?_
        refine lv_iload_n hx hb dX10_load_38 rfl (lv_at hl 1 rfl) ?_
        obtain ⟨h9, hw⟩ := hw
        refine va_iald hx hb hK hP 17 0 (mw_q17 am cI cJ cZ σ0) rfl h9 dX10_load_39 ?_
        refine lv_iconst (v := 1) hx hb dX10_load_40 (by decide) ?_
        refine lv_isub hx hb dX10_load_41 ?_
        refine wd_cSi ⟨hx, hb, hml, hown, hts⟩ (mtX10_in l D am cI cJ cZ A hD σ0 a2 (0 : Int32) ((σ0.2.1 16 a1.toNatClampNeg) - (1 : Int32)) _ hw) (va_cwS 3 hts gX10_load_X10_in rfl rfl rfl (by decide +kernel) ⟨(Nat.le_of_ble_eq_true rfl), (Nat.le_of_ble_eq_true rfl)⟩) hK hN hP hS rfl hl.1 rfl (Nat.le_of_ble_eq_true rfl) dX10_load_42 ⟨Nat.zero_le _, Nat.zero_le _⟩ (fun r3 u9 H locs hq hP hS => ?_)
        obtain ⟨hw, hu⟩ := hq
        rw [hu] at hP
        refine lv_if_ne (tgt := 54) hx hb dX10_load_45 (by decide) (fun c9 => ?_) (fun c9 => ?_)
        · have hw := hw.1 c9
          refine lv_aload_n hx hb dX10_load_54 rfl (lv_at hl 0 rfl) ?_
          refine lv_iload_n hx hb dX10_load_55 rfl (lv_at hl 3 rfl) ?_
          refine lv_aload_n hx hb dX10_load_56 rfl (lv_at hl 0 rfl) ?_
          refine va_get hx hb hts iX10 hown hK hP 0 (mw_q0 am cI cJ cZ σ0) rfl 30 (by decide) f75 (fun _ h9 => h9) rfl dX10_load_57 ?_
          refine lv_bipush (v := 10) hx hb dX10_load_60 (by decide) ?_
          refine lv_iload_n hx hb dX10_load_62 rfl (lv_at hl 1 rfl) ?_
          refine lv_imul hx hb dX10_load_63 ?_
          refine lv_iload_n hx hb dX10_load_64 rfl (lv_at hl 2 rfl) ?_
          refine lv_iadd hx hb dX10_load_65 ?_
          obtain ⟨h9, hw⟩ := hw
          refine va_iald hx hb hK hP 18 0 (mw_q18 am cI cJ cZ σ0) rfl h9 dX10_load_66 ?_
          refine wd_cVi ⟨hx, hb, hml, hown, hts⟩ (mtX10_give l D am cI cJ cZ A hD σ0 a3 (σ0.2.1 17 (((10 : Int32) * a1) + a2).toNatClampNeg) _ hw) (cwV 2 hts gX10_load_X10_give rfl rfl rfl (by decide +kernel) ⟨(Nat.le_of_ble_eq_true rfl), (Nat.le_of_ble_eq_true rfl)⟩) (va_recv hK hP (ci := 10) (q0 := 0) rfl (mw_q0 am cI cJ cZ σ0)) hK hN hP hS rfl hl.1 rfl (Nat.le_of_ble_eq_true rfl) dX10_load_67 ⟨Nat.zero_le _, Nat.zero_le _⟩ (fun r4 σ5 H locs hw hP hS => ?_)
          refine lv_istore (lv' := [(4, .int r4), (0, .ref (am 0)), (1, .int a1), (2, .int a2), (3, .int a3)]) hx hb dX10_load_70 hl (by decide) rfl (fun ls hl => ?_)
          refine lv_iconst (v := 1) hx hb dX10_load_72 (by decide) ?_
          exact wd_iret hx hb hr hlocks hw hP hS dX10_load_73
        · have hw := hw.2 c9
          refine lv_aload_n hx hb dX10_load_48 rfl (lv_at hl 0 rfl) ?_
          refine lv_iconst (v := 2) hx hb dX10_load_49 (by decide) ?_
          refine wd_cVi ⟨hx, hb, hml, hown, hts⟩ (mtX10_meets l D am cI cJ cZ A hD σ0 (2 : Int32) _ hw) (cwV 1 hts gX10_load_X10_meets rfl rfl rfl (by decide +kernel) ⟨(Nat.le_of_ble_eq_true rfl), (Nat.le_of_ble_eq_true rfl)⟩) (va_recv hK hP (ci := 10) (q0 := 0) rfl (mw_q0 am cI cJ cZ σ0)) hK hN hP hS rfl hl.1 rfl (Nat.le_of_ble_eq_true rfl) dX10_load_50 ⟨Nat.zero_le _, Nat.zero_le _⟩ (fun r6 σ7 H locs hw hP hS => ?_)
          exact wd_iret hx hb hr hlocks hw hP hS dX10_load_53
      · have hw := hw.2 c9
        refine lv_aload_n hx hb dX10_load_26 rfl (lv_at hl 0 rfl) ?_
        refine lv_iconst (v := 1) hx hb dX10_load_27 (by decide) ?_
        refine wd_cVi ⟨hx, hb, hml, hown, hts⟩ (mtX10_meets l D am cI cJ cZ A hD σ0 (1 : Int32) _ hw) (cwV 1 hts gX10_load_X10_meets rfl rfl rfl (by decide +kernel) ⟨(Nat.le_of_ble_eq_true rfl), (Nat.le_of_ble_eq_true rfl)⟩) (va_recv hK hP (ci := 10) (q0 := 0) rfl (mw_q0 am cI cJ cZ σ0)) hK hN hP hS rfl hl.1 rfl (Nat.le_of_ble_eq_true rfl) dX10_load_28 ⟨Nat.zero_le _, Nat.zero_le _⟩ (fun r8 σ9 H locs hw hP hS => ?_)
        exact wd_iret hx hb hr hlocks hw hP hS dX10_load_31
    · have hw := hw.2 c9
      refine lv_iconst (v := -1) hx hb dX10_load_15 (by decide) ?_
      exact wd_iret hx hb hr hlocks hw hP hS dX10_load_16
def wX10_tear (σ0 : St) (a1 : Int32) (post : Int32 → St → Prop) : Prop := wX10_isSheet a1 (fun (r1 : Int32) => (¬ r1 = 0 → (vp_in a1 4 ∧ ((0 ≤ (σ0.2.1 16 a1.toNatClampNeg) → (vp_in a1 4 ∧ (∀ σ2 : St, σ2 = st_A σ0 16 a1.toNatClampNeg (-9 : Int32) → (post (1 : Int32) σ2)))) ∧ (¬ 0 ≤ (σ0.2.1 16 a1.toNatClampNeg) → (wX10_meets σ0 (1 : Int32) (fun (r3 : Int32) (σ4 : St) => post r3 σ4)))))) ∧ (r1 = 0 → (post (-1 : Int32) σ0)))
set_option maxHeartbeats 4000000 in
set_option maxRecDepth 100000 in
theorem mtX10_tear (l : Launch) (D : va_G) (am : Nat → Nat) (cI cJ cZ : ClassId) (A : Nat → Prop) (hD : ∀ σ : St, va_D A (mw am cI cJ cZ σ)) (σ0 : St) (a1 : Int32) (post : Int32 → St → Prop) (hw : wX10_tear σ0 a1 post) : Met l yX10_tear wsX10_tear ({ frames := 2, cells := 0, slots := 0, locals := 42 } : Room) (va_Pc [.ref (am 0), .int a1] (wd_pre D (mw am cI cJ cZ) (wd_tys cI cJ cZ) σ0)) (va_Qi post (wd_B D (mw am cI cJ cZ)) A) 0 0 A := by
  refine Met.ofW (cc := cX10_tear) (maxL := 2) (ret := (some .int)) (by decide) rfl ?_
  intro p e s m args below meth c s₁ B hml hv
  obtain ⟨rfl, hP, hK, hN⟩ := hv
  have hx := B.exec
  have hb := B.bytes
  have hr := B.returns
  have hts := atoms_spec (ws := wsX10_tear) B.pre
  have hown : s.vm.findClass RX10 = some m.cls := findClass_of_methodNamed B.named
  have hlocks := B.notSynchronized
  have hS : va_S A s.heap s.heap [] := va_S.rf
  have f72 := hts (.fieldLink RX10 72 "LeastRightsModel" "sizes" "[I") (by decide +kernel)
  have iX10 : ∀ w ∈ wsX100, w ∈ wsX10_tear := by decide +kernel
  have hl := lv_entry ([.ref (am 0), .int a1]) (n := 2) (Nat.le_of_ble_eq_true rfl)
  rw [lg_entry_eq]
  generalize (lg_sl ([.ref (am 0), .int a1]) ++ List.replicate (2 - (lg_sl ([.ref (am 0), .int a1])).length) Slot.unset).toArray = ls at hl ⊢
  have hl : lv_has ls 2 [(0, .ref (am 0)), (1, .int a1)] := hl
  unfold wX10_tear at hw
  refine lv_iload_n hx hb dX10_tear_0 rfl (lv_at hl 1 rfl) ?_
  refine wd_cSi ⟨hx, hb, hml, hown, hts⟩ (mtX10_isSheet l D am cI cJ cZ A hD σ0 a1 _ hw) (va_cwS 1 hts gX10_tear_X10_isSheet rfl rfl rfl (by decide +kernel) ⟨(Nat.le_of_ble_eq_true rfl), (Nat.le_of_ble_eq_true rfl)⟩) hK hN hP hS rfl hl.1 rfl (Nat.le_of_ble_eq_true rfl) dX10_tear_1 ⟨Nat.zero_le _, Nat.zero_le _⟩ (fun r1 u9 H locs hq hP hS => ?_)
  obtain ⟨hw, hu⟩ := hq
  rw [hu] at hP
  refine lv_if_ne (tgt := 9) hx hb dX10_tear_4 (by decide) (fun c9 => ?_) (fun c9 => ?_)
  · have hw := hw.1 c9
    refine lv_aload_n hx hb dX10_tear_9 rfl (lv_at hl 0 rfl) ?_
    refine va_get hx hb hts iX10 hown hK hP 0 (mw_q0 am cI cJ cZ σ0) rfl 29 (by decide) f72 (fun _ h9 => h9) rfl dX10_tear_10 ?_
    refine lv_iload_n hx hb dX10_tear_13 rfl (lv_at hl 1 rfl) ?_
    obtain ⟨h9, hw⟩ := hw
    refine va_iald hx hb hK hP 17 0 (mw_q17 am cI cJ cZ σ0) rfl h9 dX10_tear_14 ?_
    refine lv_if_ge (tgt := 24) hx hb dX10_tear_15 (by decide) (fun c9 => ?_) (fun c9 => ?_)
    · have hw := hw.1 c9
      refine lv_aload_n hx hb dX10_tear_24 rfl (lv_at hl 0 rfl) ?_
      refine va_get hx hb hts iX10 hown hK hP 0 (mw_q0 am cI cJ cZ σ0) rfl 29 (by decide) f72 (fun _ h9 => h9) rfl dX10_tear_25 ?_
      refine lv_iload_n hx hb dX10_tear_28 rfl (lv_at hl 1 rfl) ?_
      refine lv_bipush (v := -9) hx hb dX10_tear_29 (by decide) ?_
      obtain ⟨h9, hw⟩ := hw
      refine wd_iast 16 17 hx hb hK hP hD hS (mw_q17 am cI cJ cZ σ0) rfl (mw_a16 am cI cJ cZ σ0) h9 dX10_tear_31 (fun H locs σ2 eσ2 hP hS => ?_)
      have hw := hw σ2 eσ2
      refine lv_iconst (v := 1) hx hb dX10_tear_32 (by decide) ?_
      exact wd_iret hx hb hr hlocks hw hP hS dX10_tear_33
    · have hw := hw.2 c9
      refine lv_aload_n hx hb dX10_tear_18 rfl (lv_at hl 0 rfl) ?_
      refine lv_iconst (v := 1) hx hb dX10_tear_19 (by decide) ?_
      refine wd_cVi ⟨hx, hb, hml, hown, hts⟩ (mtX10_meets l D am cI cJ cZ A hD σ0 (1 : Int32) _ hw) (cwV 1 hts gX10_tear_X10_meets rfl rfl rfl (by decide +kernel) ⟨(Nat.le_of_ble_eq_true rfl), (Nat.le_of_ble_eq_true rfl)⟩) (va_recv hK hP (ci := 10) (q0 := 0) rfl (mw_q0 am cI cJ cZ σ0)) hK hN hP hS rfl hl.1 rfl (Nat.le_of_ble_eq_true rfl) dX10_tear_20 ⟨Nat.zero_le _, Nat.zero_le _⟩ (fun r3 σ4 H locs hw hP hS => ?_)
      exact wd_iret hx hb hr hlocks hw hP hS dX10_tear_23
  · have hw := hw.2 c9
    refine lv_iconst (v := -1) hx hb dX10_tear_7 (by decide) ?_
    exact wd_iret hx hb hr hlocks hw hP hS dX10_tear_8
def lpX10_copy_104 (u1 : Int32) (u2 : Int32) (u3 : Int32) (u4 : Int32) (u5 : Int32) (K138 : St → Prop) : Nat → Int32 → St → Prop
  | 0, _, _ => False
  | n + 1, v6, σ => (u5 ≤ v6 → (K138 σ)) ∧ (¬ u5 ≤ v6 → (vp_in ((((10 : Int32) * u1) + u2) + v6) 40 ∧ (vp_in v6 10 ∧ (∀ σ11 : St, σ11 = st_A σ 18 v6.toNatClampNeg (σ.2.1 17 ((((10 : Int32) * u1) + u2) + v6).toNatClampNeg) → (∀ x12 : Int32, x12 = v6 + (1 : Int32) → (lpX10_copy_104 u1 u2 u3 u4 u5 K138 n x12 σ11))))))
def lpX10_copy_141 (u3 : Int32) (u4 : Int32) (u5 : Int32) (post : Int32 → St → Prop) : Nat → Int32 → St → Prop
  | 0, _, _ => False
  | n + 1, v6, σ => (u5 ≤ v6 → (post (1 : Int32) σ)) ∧ (¬ u5 ≤ v6 → (vp_in v6 10 ∧ (vp_in ((((10 : Int32) * u3) + u4) + v6) 40 ∧ (∀ σ14 : St, σ14 = st_A σ 17 ((((10 : Int32) * u3) + u4) + v6).toNatClampNeg (σ.2.1 18 v6.toNatClampNeg) → (∀ x15 : Int32, x15 = v6 + (1 : Int32) → (lpX10_copy_141 u3 u4 u5 post n x15 σ14))))))
def wX10_copy (σ0 : St) (a1 : Int32) (a2 : Int32) (a3 : Int32) (a4 : Int32) (a5 : Int32) (post : Int32 → St → Prop) : Prop := wX10_isSheet a1 (fun (r1 : Int32) => (r1 = 0 → (post (-1 : Int32) σ0)) ∧ (¬ r1 = 0 → (wX10_isSheet a3 (fun (r2 : Int32) => (¬ r2 = 0 → ((0 ≤ a5 → (vp_in a1 4 ∧ (((σ0.2.1 16 a1.toNatClampNeg) < 0 → (wX10_meets σ0 (1 : Int32) (fun (r3 : Int32) (σ4 : St) => post r3 σ4))) ∧ (¬ (σ0.2.1 16 a1.toNatClampNeg) < 0 → (vp_in a3 4 ∧ ((0 ≤ (σ0.2.1 16 a3.toNatClampNeg) → ((a2 < 0 → (wX10_meets σ0 (2 : Int32) (fun (r5 : Int32) (σ6 : St) => post r5 σ6))) ∧ (¬ a2 < 0 → ((a4 < 0 → (wX10_meets σ0 (2 : Int32) (fun (r7 : Int32) (σ8 : St) => post r7 σ8))) ∧ (¬ a4 < 0 → (vp_in a1 4 ∧ ((0 < (lg_cmp ((a2.toInt64) + (a5.toInt64)) ((σ0.2.1 16 a1.toNatClampNeg).toInt64)) → (wX10_meets σ0 (2 : Int32) (fun (r9 : Int32) (σ10 : St) => post r9 σ10))) ∧ (¬ 0 < (lg_cmp ((a2.toInt64) + (a5.toInt64)) ((σ0.2.1 16 a1.toNatClampNeg).toInt64)) → (vp_in a3 4 ∧ (((lg_cmp ((a4.toInt64) + (a5.toInt64)) ((σ0.2.1 16 a3.toNatClampNeg).toInt64)) ≤ 0 → (∃ n17 : Nat, lpX10_copy_104 a1 a2 a3 a4 a5 (fun (σ13 : St) => ∃ n16 : Nat, lpX10_copy_141 a3 a4 a5 post n16 (0 : Int32) σ13) n17 (0 : Int32) σ0)) ∧ (¬ (lg_cmp ((a4.toInt64) + (a5.toInt64)) ((σ0.2.1 16 a3.toNatClampNeg).toInt64)) ≤ 0 → (wX10_meets σ0 (2 : Int32) (fun (r18 : Int32) (σ19 : St) => post r18 σ19))))))))))))) ∧ (¬ 0 ≤ (σ0.2.1 16 a3.toNatClampNeg) → (wX10_meets σ0 (1 : Int32) (fun (r20 : Int32) (σ21 : St) => post r20 σ21))))))))) ∧ (¬ 0 ≤ a5 → (wX10_meets σ0 (4 : Int32) (fun (r22 : Int32) (σ23 : St) => post r22 σ23))))) ∧ (r2 = 0 → (post (-1 : Int32) σ0))))))
set_option maxHeartbeats 4000000 in
set_option maxRecDepth 100000 in
theorem mtX10_copy (l : Launch) (D : va_G) (am : Nat → Nat) (cI cJ cZ : ClassId) (A : Nat → Prop) (hD : ∀ σ : St, va_D A (mw am cI cJ cZ σ)) (σ0 : St) (a1 : Int32) (a2 : Int32) (a3 : Int32) (a4 : Int32) (a5 : Int32) (post : Int32 → St → Prop) (hw : wX10_copy σ0 a1 a2 a3 a4 a5 post) : Met l yX10_copy wsX10_copy ({ frames := 2, cells := 0, slots := 0, locals := 42 } : Room) (va_Pc [.ref (am 0), .int a1, .int a2, .int a3, .int a4, .int a5] (wd_pre D (mw am cI cJ cZ) (wd_tys cI cJ cZ) σ0)) (va_Qi post (wd_B D (mw am cI cJ cZ)) A) 0 0 A := by
  refine Met.ofW (cc := cX10_copy) (maxL := 7) (ret := (some .int)) (by decide) rfl ?_
  intro p e s m args below meth c s₁ B hml hv
  obtain ⟨rfl, hP, hK, hN⟩ := hv
  have hx := B.exec
  have hb := B.bytes
  have hr := B.returns
  have hts := atoms_spec (ws := wsX10_copy) B.pre
  have hown : s.vm.findClass RX10 = some m.cls := findClass_of_methodNamed B.named
  have hlocks := B.notSynchronized
  have hS : va_S A s.heap s.heap [] := va_S.rf
  have f72 := hts (.fieldLink RX10 72 "LeastRightsModel" "sizes" "[I") (by decide +kernel)
  have iX10 : ∀ w ∈ wsX100, w ∈ wsX10_copy := by decide +kernel
  have f78 := hts (.fieldLink RX10 78 "LeastRightsModel" "moving" "[I") (by decide +kernel)
  have f75 := hts (.fieldLink RX10 75 "LeastRightsModel" "sheets" "[I") (by decide +kernel)
  have L104 : ∀ (u1 : Int32) (u2 : Int32) (u3 : Int32) (u4 : Int32) (u5 : Int32) (K138 : St → Prop) (_ : ∀ (σ : St) (H : Heap) (locs : List Loc) (ls : Array Slot), K138 σ → va_P D vwCl (mw am cI cJ cZ σ) H → va_S A s.heap H locs → lv_has ls 7 [(0, .ref (am 0)), (1, .int u1), (2, .int u2), (3, .int u3), (4, .int u4), (5, .int u5)] → W p l e (headSpec wsX10_copy ({ frames := 2, cells := 0, slots := 0, locals := 42 } : Room)).room s m ([.ref (am 0), .int a1, .int a2, .int a3, .int a4, .int a5] : List Value).toArray below meth c H locs 0 0 (MQ below (va_Qi post (wd_B D (mw am cI cJ cZ)) A) ([.ref (am 0), .int a1, .int a2, .int a3, .int a4, .int a5] : List Value).toArray s 0 0 A) (F0 m 138 ls [])) (n : Nat) (v6 : Int32) (σ : St) (H : Heap) (locs : List Loc) (ls : Array Slot), lpX10_copy_104 u1 u2 u3 u4 u5 K138 n v6 σ → va_P D vwCl (mw am cI cJ cZ σ) H → va_S A s.heap H locs → lv_has ls 7 [(0, .ref (am 0)), (1, .int u1), (2, .int u2), (3, .int u3), (4, .int u4), (5, .int u5), (6, .int v6)] → W p l e (headSpec wsX10_copy ({ frames := 2, cells := 0, slots := 0, locals := 42 } : Room)).room s m ([.ref (am 0), .int a1, .int a2, .int a3, .int a4, .int a5] : List Value).toArray below meth c H locs 0 0 (MQ below (va_Qi post (wd_B D (mw am cI cJ cZ)) A) ([.ref (am 0), .int a1, .int a2, .int a3, .int a4, .int a5] : List Value).toArray s 0 0 A) (F0 m 104 ls []) := by
    intro u1 u2 u3 u4 u5 K138 hK138 n
    induction n with
    | zero => intro v6 σ H locs ls hw; exact hw.elim
    | succ n ih =>
      intro v6 σ H locs ls hw hP hS hl
      rw [lpX10_copy_104] at hw
      refine lv_iload hx hb dX10_copy_104 (lv_at hl 6 rfl) ?_
      refine lv_iload hx hb dX10_copy_106 (lv_at hl 5 rfl) ?_
      refine lv_icmp_ge (tgt := 138) hx hb dX10_copy_108 (by decide) (fun c9 => ?_) (fun c9 => ?_)
      · have hw := hw.1 c9
        exact hK138 _ _ _ _ hw hP hS (lv_sub hl [0, 1, 2, 3, 4, 5] rfl)
      · have hw := hw.2 c9
        refine lv_aload_n hx hb dX10_copy_111 rfl (lv_at hl 0 rfl) ?_
        refine va_get hx hb hts iX10 hown hK hP 0 (mw_q0 am cI cJ cZ σ) rfl 31 (by decide) f78 (fun _ h9 => h9) rfl dX10_copy_112 ?_
        refine lv_iload hx hb dX10_copy_115 (lv_at hl 6 rfl) ?_
        refine lv_aload_n hx hb dX10_copy_117 rfl (lv_at hl 0 rfl) ?_
        refine va_get hx hb hts iX10 hown hK hP 0 (mw_q0 am cI cJ cZ σ) rfl 30 (by decide) f75 (fun _ h9 => h9) rfl dX10_copy_118 ?_
        refine lv_bipush (v := 10) hx hb dX10_copy_121 (by decide) ?_
        refine lv_iload_n hx hb dX10_copy_123 rfl (lv_at hl 1 rfl) ?_
        refine lv_imul hx hb dX10_copy_124 ?_
        refine lv_iload_n hx hb dX10_copy_125 rfl (lv_at hl 2 rfl) ?_
        refine lv_iadd hx hb dX10_copy_126 ?_
        refine lv_iload hx hb dX10_copy_127 (lv_at hl 6 rfl) ?_
        refine lv_iadd hx hb dX10_copy_129 ?_
        obtain ⟨h9, hw⟩ := hw
        refine va_iald hx hb hK hP 18 0 (mw_q18 am cI cJ cZ σ) rfl h9 dX10_copy_130 ?_
        obtain ⟨h9, hw⟩ := hw
        refine wd_iast 18 19 hx hb hK hP hD hS (mw_q19 am cI cJ cZ σ) rfl (mw_a18 am cI cJ cZ σ) h9 dX10_copy_131 (fun H locs σ11 eσ11 hP hS => ?_)
        have hw := hw σ11 eσ11
        obtain ⟨x12, ex12⟩ : ∃ z : Int32, z = v6 + (1 : Int32) := ⟨_, rfl⟩
        refine lv_iinc (v := x12) (lv' := [(6, .int x12), (0, .ref (am 0)), (1, .int u1), (2, .int u2), (3, .int u3), (4, .int u4), (5, .int u5)]) hx hb dX10_copy_132 hl (k := 6) rfl (by rw [ex12]; rfl) (by decide) rfl (fun ls hl => ?_)
        have hw := hw x12 ex12
        refine lv_goto (tgt := 104) hx hb dX10_copy_135 (by decide) ?_
        exact ih _ _ _ _ _ hw hP hS (lv_sub hl [1, 2, 3, 4, 5, 6, 0] rfl)
  have L141 : ∀ (u3 : Int32) (u4 : Int32) (u5 : Int32) (n : Nat) (v6 : Int32) (σ : St) (H : Heap) (locs : List Loc) (ls : Array Slot), lpX10_copy_141 u3 u4 u5 post n v6 σ → va_P D vwCl (mw am cI cJ cZ σ) H → va_S A s.heap H locs → lv_has ls 7 [(0, .ref (am 0)), (3, .int u3), (4, .int u4), (5, .int u5), (6, .int v6)] → W p l e (headSpec wsX10_copy ({ frames := 2, cells := 0, slots := 0, locals := 42 } : Room)).room s m ([.ref (am 0), .int a1, .int a2, .int a3, .int a4, .int a5] : List Value).toArray below meth c H locs 0 0 (MQ below (va_Qi post (wd_B D (mw am cI cJ cZ)) A) ([.ref (am 0), .int a1, .int a2, .int a3, .int a4, .int a5] : List Value).toArray s 0 0 A) (F0 m 141 ls []) := by
    intro u3 u4 u5 n
    induction n with
    | zero => intro v6 σ H locs ls hw; exact hw.elim
    | succ n ih =>
      intro v6 σ H locs ls hw hP hS hl
      rw [lpX10_copy_141] at hw
      refine lv_iload hx hb dX10_copy_141 (lv_at hl 4 rfl) ?_
      refine lv_iload hx hb dX10_copy_143 (lv_at hl 3 rfl) ?_
      refine lv_icmp_ge (tgt := 176) hx hb dX10_copy_145 (by decide) (fun c9 => ?_) (fun c9 => ?_)
      · have hw := hw.1 c9
        refine lv_iconst (v := 1) hx hb dX10_copy_176 (by decide) ?_
        exact wd_iret hx hb hr hlocks hw hP hS dX10_copy_177
      · have hw := hw.2 c9
        refine lv_aload_n hx hb dX10_copy_148 rfl (lv_at hl 0 rfl) ?_
        refine va_get hx hb hts iX10 hown hK hP 0 (mw_q0 am cI cJ cZ σ) rfl 30 (by decide) f75 (fun _ h9 => h9) rfl dX10_copy_149 ?_
        refine lv_bipush (v := 10) hx hb dX10_copy_152 (by decide) ?_
        refine lv_iload_n hx hb dX10_copy_154 rfl (lv_at hl 1 rfl) ?_
        refine lv_imul hx hb dX10_copy_155 ?_
        refine lv_iload hx hb dX10_copy_156 (lv_at hl 2 rfl) ?_
        refine lv_iadd hx hb dX10_copy_158 ?_
        refine lv_iload hx hb dX10_copy_159 (lv_at hl 4 rfl) ?_
        refine lv_iadd hx hb dX10_copy_161 ?_
        refine lv_aload_n hx hb dX10_copy_162 rfl (lv_at hl 0 rfl) ?_
        refine va_get hx hb hts iX10 hown hK hP 0 (mw_q0 am cI cJ cZ σ) rfl 31 (by decide) f78 (fun _ h9 => h9) rfl dX10_copy_163 ?_
        refine lv_iload hx hb dX10_copy_166 (lv_at hl 4 rfl) ?_
        obtain ⟨h9, hw⟩ := hw
        refine va_iald hx hb hK hP 19 0 (mw_q19 am cI cJ cZ σ) rfl h9 dX10_copy_168 ?_
        obtain ⟨h9, hw⟩ := hw
        refine wd_iast 17 18 hx hb hK hP hD hS (mw_q18 am cI cJ cZ σ) rfl (mw_a17 am cI cJ cZ σ) h9 dX10_copy_169 (fun H locs σ14 eσ14 hP hS => ?_)
        have hw := hw σ14 eσ14
        obtain ⟨x15, ex15⟩ : ∃ z : Int32, z = v6 + (1 : Int32) := ⟨_, rfl⟩
        refine lv_iinc (v := x15) (lv' := [(6, .int x15), (0, .ref (am 0)), (3, .int u3), (4, .int u4), (5, .int u5)]) hx hb dX10_copy_170 hl (k := 4) rfl (by rw [ex15]; rfl) (by decide) rfl (fun ls hl => ?_)
        have hw := hw x15 ex15
        refine lv_goto (tgt := 141) hx hb dX10_copy_173 (by decide) ?_
        exact ih _ _ _ _ _ hw hP hS (lv_sub hl [1, 2, 3, 4, 0] rfl)
  have hl := lv_entry ([.ref (am 0), .int a1, .int a2, .int a3, .int a4, .int a5]) (n := 7) (Nat.le_of_ble_eq_true rfl)
  rw [lg_entry_eq]
  generalize (lg_sl ([.ref (am 0), .int a1, .int a2, .int a3, .int a4, .int a5]) ++ List.replicate (7 - (lg_sl ([.ref (am 0), .int a1, .int a2, .int a3, .int a4, .int a5])).length) Slot.unset).toArray = ls at hl ⊢
  have hl : lv_has ls 7 [(0, .ref (am 0)), (1, .int a1), (2, .int a2), (3, .int a3), (4, .int a4), (5, .int a5)] := hl
  unfold wX10_copy at hw
  refine lv_iload_n hx hb dX10_copy_0 rfl (lv_at hl 1 rfl) ?_
  refine wd_cSi ⟨hx, hb, hml, hown, hts⟩ (mtX10_isSheet l D am cI cJ cZ A hD σ0 a1 _ hw) (va_cwS 1 hts gX10_copy_X10_isSheet rfl rfl rfl (by decide +kernel) ⟨(Nat.le_of_ble_eq_true rfl), (Nat.le_of_ble_eq_true rfl)⟩) hK hN hP hS rfl hl.1 rfl (Nat.le_of_ble_eq_true rfl) dX10_copy_1 ⟨Nat.zero_le _, Nat.zero_le _⟩ (fun r1 u9 H locs hq hP hS => ?_)
  obtain ⟨hw, hu⟩ := hq
  rw [hu] at hP
  refine lv_if_eq (tgt := 14) hx hb dX10_copy_4 (by decide) (fun c9 => ?_) (fun c9 => ?_)
  · have hw := hw.1 c9
    refine lv_iconst (v := -1) hx hb dX10_copy_14 (by decide) ?_
    exact wd_iret hx hb hr hlocks hw hP hS dX10_copy_15
  · have hw := hw.2 c9
    refine lv_iload_n hx hb dX10_copy_7 rfl (lv_at hl 3 rfl) ?_
    refine wd_cSi ⟨hx, hb, hml, hown, hts⟩ (mtX10_isSheet l D am cI cJ cZ A hD σ0 a3 _ hw) (va_cwS 1 hts gX10_copy_X10_isSheet rfl rfl rfl (by decide +kernel) ⟨(Nat.le_of_ble_eq_true rfl), (Nat.le_of_ble_eq_true rfl)⟩) hK hN hP hS rfl hl.1 rfl (Nat.le_of_ble_eq_true rfl) dX10_copy_8 ⟨Nat.zero_le _, Nat.zero_le _⟩ (fun r2 u9 H locs hq hP hS => ?_)
    obtain ⟨hw, hu⟩ := hq
    rw [hu] at hP
    refine lv_if_ne (tgt := 16) hx hb dX10_copy_11 (by decide) (fun c9 => ?_) (fun c9 => ?_)
    · have hw := hw.1 c9
      refine lv_iload hx hb dX10_copy_16 (lv_at hl 5 rfl) ?_
      refine lv_if_ge (tgt := 27) hx hb dX10_copy_18 (by decide) (fun c9 => ?_) (fun c9 => ?_)
      · have hw := hw.1 c9
        refine lv_aload_n hx hb dX10_copy_27 rfl (lv_at hl 0 rfl) ?_
        refine va_get hx hb hts iX10 hown hK hP 0 (mw_q0 am cI cJ cZ σ0) rfl 29 (by decide) f72 (fun _ h9 => h9) rfl dX10_copy_28 ?_
        refine lv_iload_n hx hb dX10_copy_31 rfl (lv_at hl 1 rfl) ?_
        obtain ⟨h9, hw⟩ := hw
        refine va_iald hx hb hK hP 17 0 (mw_q17 am cI cJ cZ σ0) rfl h9 dX10_copy_32 ?_
        refine lv_if_lt (tgt := 45) hx hb dX10_copy_33 (by decide) (fun c9 => ?_) (fun c9 => ?_)
        · have hw := hw.1 c9
          refine lv_aload_n hx hb dX10_copy_45 rfl (lv_at hl 0 rfl) ?_
          refine lv_iconst (v := 1) hx hb dX10_copy_46 (by decide) ?_
          refine wd_cVi ⟨hx, hb, hml, hown, hts⟩ (mtX10_meets l D am cI cJ cZ A hD σ0 (1 : Int32) _ hw) (cwV 1 hts gX10_copy_X10_meets rfl rfl rfl (by decide +kernel) ⟨(Nat.le_of_ble_eq_true rfl), (Nat.le_of_ble_eq_true rfl)⟩) (va_recv hK hP (ci := 10) (q0 := 0) rfl (mw_q0 am cI cJ cZ σ0)) hK hN hP hS rfl hl.1 rfl (Nat.le_of_ble_eq_true rfl) dX10_copy_47 ⟨Nat.zero_le _, Nat.zero_le _⟩ (fun r3 σ4 H locs hw hP hS => ?_)
          exact wd_iret hx hb hr hlocks hw hP hS dX10_copy_50
        · have hw := hw.2 c9
          refine lv_aload_n hx hb dX10_copy_36 rfl (lv_at hl 0 rfl) ?_
          refine va_get hx hb hts iX10 hown hK hP 0 (mw_q0 am cI cJ cZ σ0) rfl 29 (by decide) f72 (fun _ h9 => h9) rfl dX10_copy_37 ?_
          refine lv_iload_n hx hb dX10_copy_40 rfl (lv_at hl 3 rfl) ?_
          obtain ⟨h9, hw⟩ := hw
          refine va_iald hx hb hK hP 17 0 (mw_q17 am cI cJ cZ σ0) rfl h9 dX10_copy_41 ?_
          refine lv_if_ge (tgt := 51) hx hb dX10_copy_42 (by decide) (fun c9 => ?_) (fun c9 => ?_)
          · have hw := hw.1 c9
            refine lv_iload_n hx hb dX10_copy_51 rfl (lv_at hl 2 rfl) ?_
            refine lv_if_lt (tgt := 95) hx hb dX10_copy_52 (by decide) (fun c9 => ?_) (fun c9 => ?_)
            · have hw := hw.1 c9
              refine lv_aload_n hx hb dX10_copy_95 rfl (lv_at hl 0 rfl) ?_
              refine lv_iconst (v := 2) hx hb dX10_copy_96 (by decide) ?_
              refine wd_cVi ⟨hx, hb, hml, hown, hts⟩ (mtX10_meets l D am cI cJ cZ A hD σ0 (2 : Int32) _ hw) (cwV 1 hts gX10_copy_X10_meets rfl rfl rfl (by decide +kernel) ⟨(Nat.le_of_ble_eq_true rfl), (Nat.le_of_ble_eq_true rfl)⟩) (va_recv hK hP (ci := 10) (q0 := 0) rfl (mw_q0 am cI cJ cZ σ0)) hK hN hP hS rfl hl.1 rfl (Nat.le_of_ble_eq_true rfl) dX10_copy_97 ⟨Nat.zero_le _, Nat.zero_le _⟩ (fun r5 σ6 H locs hw hP hS => ?_)
              exact wd_iret hx hb hr hlocks hw hP hS dX10_copy_100
            · have hw := hw.2 c9
              refine lv_iload hx hb dX10_copy_55 (lv_at hl 4 rfl) ?_
              refine lv_if_lt (tgt := 95) hx hb dX10_copy_57 (by decide) (fun c9 => ?_) (fun c9 => ?_)
              · have hw := hw.1 c9
                refine lv_aload_n hx hb dX10_copy_95 rfl (lv_at hl 0 rfl) ?_
                refine lv_iconst (v := 2) hx hb dX10_copy_96 (by decide) ?_
                refine wd_cVi ⟨hx, hb, hml, hown, hts⟩ (mtX10_meets l D am cI cJ cZ A hD σ0 (2 : Int32) _ hw) (cwV 1 hts gX10_copy_X10_meets rfl rfl rfl (by decide +kernel) ⟨(Nat.le_of_ble_eq_true rfl), (Nat.le_of_ble_eq_true rfl)⟩) (va_recv hK hP (ci := 10) (q0 := 0) rfl (mw_q0 am cI cJ cZ σ0)) hK hN hP hS rfl hl.1 rfl (Nat.le_of_ble_eq_true rfl) dX10_copy_97 ⟨Nat.zero_le _, Nat.zero_le _⟩ (fun r7 σ8 H locs hw hP hS => ?_)
                exact wd_iret hx hb hr hlocks hw hP hS dX10_copy_100
              · have hw := hw.2 c9
                refine lv_iload_n hx hb dX10_copy_60 rfl (lv_at hl 2 rfl) ?_
                refine lv_i2l hx hb dX10_copy_61 rfl ?_
                refine lv_iload hx hb dX10_copy_62 (lv_at hl 5 rfl) ?_
                refine lv_i2l hx hb dX10_copy_64 rfl ?_
                refine lv_ladd hx hb dX10_copy_65 ?_
                refine lv_aload_n hx hb dX10_copy_66 rfl (lv_at hl 0 rfl) ?_
                refine va_get hx hb hts iX10 hown hK hP 0 (mw_q0 am cI cJ cZ σ0) rfl 29 (by decide) f72 (fun _ h9 => h9) rfl dX10_copy_67 ?_
                refine lv_iload_n hx hb dX10_copy_70 rfl (lv_at hl 1 rfl) ?_
                obtain ⟨h9, hw⟩ := hw
                refine va_iald hx hb hK hP 17 0 (mw_q17 am cI cJ cZ σ0) rfl h9 dX10_copy_71 ?_
                refine lv_i2l hx hb dX10_copy_72 rfl ?_
                refine W.lcmp hx hb dX10_copy_73 ?_
                refine lv_if_gt (tgt := 95) hx hb dX10_copy_74 (by decide) (fun c9 => ?_) (fun c9 => ?_)
                · have hw := hw.1 c9
                  refine lv_aload_n hx hb dX10_copy_95 rfl (lv_at hl 0 rfl) ?_
                  refine lv_iconst (v := 2) hx hb dX10_copy_96 (by decide) ?_
                  refine wd_cVi ⟨hx, hb, hml, hown, hts⟩ (mtX10_meets l D am cI cJ cZ A hD σ0 (2 : Int32) _ hw) (cwV 1 hts gX10_copy_X10_meets rfl rfl rfl (by decide +kernel) ⟨(Nat.le_of_ble_eq_true rfl), (Nat.le_of_ble_eq_true rfl)⟩) (va_recv hK hP (ci := 10) (q0 := 0) rfl (mw_q0 am cI cJ cZ σ0)) hK hN hP hS rfl hl.1 rfl (Nat.le_of_ble_eq_true rfl) dX10_copy_97 ⟨Nat.zero_le _, Nat.zero_le _⟩ (fun r9 σ10 H locs hw hP hS => ?_)
                  exact wd_iret hx hb hr hlocks hw hP hS dX10_copy_100
                · have hw := hw.2 c9
                  refine lv_iload hx hb dX10_copy_77 (lv_at hl 4 rfl) ?_
                  refine lv_i2l hx hb dX10_copy_79 rfl ?_
                  refine lv_iload hx hb dX10_copy_80 (lv_at hl 5 rfl) ?_
                  refine lv_i2l hx hb dX10_copy_82 rfl ?_
                  refine lv_ladd hx hb dX10_copy_83 ?_
                  refine lv_aload_n hx hb dX10_copy_84 rfl (lv_at hl 0 rfl) ?_
                  refine va_get hx hb hts iX10 hown hK hP 0 (mw_q0 am cI cJ cZ σ0) rfl 29 (by decide) f72 (fun _ h9 => h9) rfl dX10_copy_85 ?_
                  refine lv_iload_n hx hb dX10_copy_88 rfl (lv_at hl 3 rfl) ?_
                  obtain ⟨h9, hw⟩ := hw
                  refine va_iald hx hb hK hP 17 0 (mw_q17 am cI cJ cZ σ0) rfl h9 dX10_copy_89 ?_
                  refine lv_i2l hx hb dX10_copy_90 rfl ?_
                  refine W.lcmp hx hb dX10_copy_91 ?_
                  refine lv_if_le (tgt := 101) hx hb dX10_copy_92 (by decide) (fun c9 => ?_) (fun c9 => ?_)
                  · have hw := hw.1 c9
                    refine lv_iconst (v := 0) hx hb dX10_copy_101 (by decide) ?_
                    refine lv_istore (lv' := [(6, .int (0 : Int32)), (0, .ref (am 0)), (1, .int a1), (2, .int a2), (3, .int a3), (4, .int a4), (5, .int a5)]) hx hb dX10_copy_102 hl (by decide) rfl (fun ls hl => ?_)
                    obtain ⟨n9, hw⟩ := hw
                    refine L104 a1 a2 a3 a4 a5 _ ?_ n9 (0 : Int32) σ0 _ _ _ hw hP hS (lv_sub hl [1, 2, 3, 4, 5, 6, 0] rfl)
                    · intro σ13 H locs ls hw hP hS hl
                      refine lv_iconst (v := 0) hx hb dX10_copy_138 (by decide) ?_
                      refine lv_istore (lv' := [(6, .int (0 : Int32)), (0, .ref (am 0)), (1, .int a1), (2, .int a2), (3, .int a3), (4, .int a4), (5, .int a5)]) hx hb dX10_copy_139 hl (by decide) rfl (fun ls hl => ?_)
                      obtain ⟨n9, hw⟩ := hw
                      refine L141 a3 a4 a5 n9 (0 : Int32) σ13 _ _ _ hw hP hS (lv_sub hl [1, 4, 5, 6, 0] rfl)
                  · have hw := hw.2 c9
                    refine lv_aload_n hx hb dX10_copy_95 rfl (lv_at hl 0 rfl) ?_
                    refine lv_iconst (v := 2) hx hb dX10_copy_96 (by decide) ?_
                    refine wd_cVi ⟨hx, hb, hml, hown, hts⟩ (mtX10_meets l D am cI cJ cZ A hD σ0 (2 : Int32) _ hw) (cwV 1 hts gX10_copy_X10_meets rfl rfl rfl (by decide +kernel) ⟨(Nat.le_of_ble_eq_true rfl), (Nat.le_of_ble_eq_true rfl)⟩) (va_recv hK hP (ci := 10) (q0 := 0) rfl (mw_q0 am cI cJ cZ σ0)) hK hN hP hS rfl hl.1 rfl (Nat.le_of_ble_eq_true rfl) dX10_copy_97 ⟨Nat.zero_le _, Nat.zero_le _⟩ (fun r18 σ19 H locs hw hP hS => ?_)
                    exact wd_iret hx hb hr hlocks hw hP hS dX10_copy_100
          · have hw := hw.2 c9
            refine lv_aload_n hx hb dX10_copy_45 rfl (lv_at hl 0 rfl) ?_
            refine lv_iconst (v := 1) hx hb dX10_copy_46 (by decide) ?_
            refine wd_cVi ⟨hx, hb, hml, hown, hts⟩ (mtX10_meets l D am cI cJ cZ A hD σ0 (1 : Int32) _ hw) (cwV 1 hts gX10_copy_X10_meets rfl rfl rfl (by decide +kernel) ⟨(Nat.le_of_ble_eq_true rfl), (Nat.le_of_ble_eq_true rfl)⟩) (va_recv hK hP (ci := 10) (q0 := 0) rfl (mw_q0 am cI cJ cZ σ0)) hK hN hP hS rfl hl.1 rfl (Nat.le_of_ble_eq_true rfl) dX10_copy_47 ⟨Nat.zero_le _, Nat.zero_le _⟩ (fun r20 σ21 H locs hw hP hS => ?_)
            exact wd_iret hx hb hr hlocks hw hP hS dX10_copy_50
      · have hw := hw.2 c9
        refine lv_aload_n hx hb dX10_copy_21 rfl (lv_at hl 0 rfl) ?_
        refine lv_iconst (v := 4) hx hb dX10_copy_22 (by decide) ?_
        refine wd_cVi ⟨hx, hb, hml, hown, hts⟩ (mtX10_meets l D am cI cJ cZ A hD σ0 (4 : Int32) _ hw) (cwV 1 hts gX10_copy_X10_meets rfl rfl rfl (by decide +kernel) ⟨(Nat.le_of_ble_eq_true rfl), (Nat.le_of_ble_eq_true rfl)⟩) (va_recv hK hP (ci := 10) (q0 := 0) rfl (mw_q0 am cI cJ cZ σ0)) hK hN hP hS rfl hl.1 rfl (Nat.le_of_ble_eq_true rfl) dX10_copy_23 ⟨Nat.zero_le _, Nat.zero_le _⟩ (fun r22 σ23 H locs hw hP hS => ?_)
        exact wd_iret hx hb hr hlocks hw hP hS dX10_copy_26
    · have hw := hw.2 c9
      refine lv_iconst (v := -1) hx hb dX10_copy_14 (by decide) ?_
      exact wd_iret hx hb hr hlocks hw hP hS dX10_copy_15
def wX10_asked (σ0 : St) (post : Int32 → Prop) : Prop := post (σ0.1 8)
set_option maxHeartbeats 4000000 in
set_option maxRecDepth 100000 in
theorem mtX10_asked (l : Launch) (D : va_G) (am : Nat → Nat) (cI cJ cZ : ClassId) (A : Nat → Prop) (hD : ∀ σ : St, va_D A (mw am cI cJ cZ σ)) (σ0 : St) (post : Int32 → Prop) (hw : wX10_asked σ0 post) : Met l yX10_asked wsX10_asked ({ frames := 0, cells := 0, slots := 0, locals := 0 } : Room) (va_Pc [.ref (am 0)] (wd_pre D (mw am cI cJ cZ) (wd_tys cI cJ cZ) σ0)) (va_Qi (fun (r : Int32) (u : St) => post r ∧ u = σ0) (wd_B D (mw am cI cJ cZ)) A) 0 0 A := by
  refine Met.ofW (cc := cX10_asked) (maxL := 1) (ret := (some .int)) (by decide) rfl ?_
  intro p e s m args below meth c s₁ B hml hv
  obtain ⟨rfl, hP, hK, hN⟩ := hv
  have hx := B.exec
  have hb := B.bytes
  have hr := B.returns
  have hts := atoms_spec (ws := wsX10_asked) B.pre
  have hown : s.vm.findClass RX10 = some m.cls := findClass_of_methodNamed B.named
  have hlocks := B.notSynchronized
  have hS : va_S A s.heap s.heap [] := va_S.rf
  have f160 := hts (.fieldLink RX10 160 "LeastRightsModel" "asked" "I") (by decide +kernel)
  have iX10 : ∀ w ∈ wsX100, w ∈ wsX10_asked := by decide +kernel
  have hl := lv_entry ([.ref (am 0)]) (n := 1) (Nat.le_of_ble_eq_true rfl)
  rw [lg_entry_eq]
  generalize (lg_sl ([.ref (am 0)]) ++ List.replicate (1 - (lg_sl ([.ref (am 0)])).length) Slot.unset).toArray = ls at hl ⊢
  have hl : lv_has ls 1 [(0, .ref (am 0))] := hl
  unfold wX10_asked at hw
  refine lv_aload_n hx hb dX10_asked_0 rfl (lv_at hl 0 rfl) ?_
  refine va_get hx hb hts iX10 hown hK hP 0 (mw_q0 am cI cJ cZ σ0) rfl 16 (by decide) f160 (fun _ h9 => h9) rfl dX10_asked_1 ?_
  exact wd_iret hx hb hr hlocks ⟨hw, rfl⟩ hP hS dX10_asked_4
def lpX10_count_57 (σ0 : St) (post : Int32 → Prop) : Nat → Int32 → Int32 → Prop
  | 0, _, _ => False
  | n + 1, v2, v3 => ((σ0.1 1) ≤ v3 → (post v2)) ∧ (¬ (σ0.1 1) ≤ v3 → (vp_in v3 10 ∧ (wX10_bits (σ0.2.1 2 v3.toNatClampNeg) (fun (r1 : Int32) => ∀ x2 : Int32, x2 = (v2 + r1) → (∀ x3 : Int32, x3 = v3 + (1 : Int32) → (lpX10_count_57 σ0 post n x2 x3))))))
def lpX10_count_87 (σ0 : St) (post : Int32 → Prop) : Nat → Int32 → Int32 → Prop
  | 0, _, _ => False
  | n + 1, v2, v3 => ((σ0.1 1) ≤ v3 → (post v2)) ∧ (¬ (σ0.1 1) ≤ v3 → (wX10_keptOf σ0 v3 (fun (r5 : Int32) => wX10_bits r5 (fun (r6 : Int32) => ∀ x7 : Int32, x7 = (v2 + r6) → (∀ x8 : Int32, x8 = v3 + (1 : Int32) → (lpX10_count_87 σ0 post n x7 x8))))))
def lpX10_count_116 (σ0 : St) (K140 : Int32 → Prop) : Nat → Int32 → Int32 → Prop
  | 0, _, _ => False
  | n + 1, v2, v3 => ((12 : Int32) ≤ v3 → (K140 v2)) ∧ (¬ (12 : Int32) ≤ v3 → (vp_in v3 12 ∧ (wX10_bits (σ0.2.1 14 v3.toNatClampNeg) (fun (r10 : Int32) => ∀ x11 : Int32, x11 = (v2 + r10) → (∀ x12 : Int32, x12 = v3 + (1 : Int32) → (lpX10_count_116 σ0 K140 n x11 x12))))))
def wX10_count (σ0 : St) (a1 : Int32) (post : Int32 → Prop) : Prop := (a1 = 0 → (post (σ0.1 1))) ∧ (¬ a1 = 0 → ((a1 = 1 → (post (σ0.1 6))) ∧ (¬ a1 = 1 → ((a1 = 2 → (post (σ0.1 7))) ∧ (¬ a1 = 2 → ((a1 = 3 → (∃ n4 : Nat, lpX10_count_57 σ0 post n4 (0 : Int32) (0 : Int32))) ∧ (¬ a1 = 3 → ((a1 = 4 → (∃ n9 : Nat, lpX10_count_87 σ0 post n9 (0 : Int32) (0 : Int32))) ∧ (¬ a1 = 4 → ((a1 = 5 → (∃ n14 : Nat, lpX10_count_116 σ0 (fun (y13 : Int32) => post (y13 / (2 : Int32))) n14 (0 : Int32) (0 : Int32))) ∧ (¬ a1 = 5 → (post (-1 : Int32)))))))))))))
set_option maxHeartbeats 4000000 in
set_option maxRecDepth 100000 in
theorem mtX10_count (l : Launch) (D : va_G) (am : Nat → Nat) (cI cJ cZ : ClassId) (A : Nat → Prop) (hD : ∀ σ : St, va_D A (mw am cI cJ cZ σ)) (σ0 : St) (a1 : Int32) (post : Int32 → Prop) (hw : wX10_count σ0 a1 post) : Met l yX10_count wsX10_count ({ frames := 3, cells := 0, slots := 0, locals := 71 } : Room) (va_Pc [.ref (am 0), .int a1] (wd_pre D (mw am cI cJ cZ) (wd_tys cI cJ cZ) σ0)) (va_Qi (fun (r : Int32) (u : St) => post r ∧ u = σ0) (wd_B D (mw am cI cJ cZ)) A) 0 0 A := by
  refine Met.ofW (cc := cX10_count) (maxL := 4) (ret := (some .int)) (by decide) rfl ?_
  intro p e s m args below meth c s₁ B hml hv
  obtain ⟨rfl, hP, hK, hN⟩ := hv
  have hx := B.exec
  have hb := B.bytes
  have hr := B.returns
  have hts := atoms_spec (ws := wsX10_count) B.pre
  have hown : s.vm.findClass RX10 = some m.cls := findClass_of_methodNamed B.named
  have hlocks := B.notSynchronized
  have hS : va_S A s.heap s.heap [] := va_S.rf
  have f84 := hts (.fieldLink RX10 84 "LeastRightsModel" "people" "I") (by decide +kernel)
  have iX10 : ∀ w ∈ wsX100, w ∈ wsX10_count := by decide +kernel
  have f106 := hts (.fieldLink RX10 106 "LeastRightsModel" "day" "I") (by decide +kernel)
  have f103 := hts (.fieldLink RX10 103 "LeastRightsModel" "uses" "I") (by decide +kernel)
  have f16 := hts (.fieldLink RX10 16 "LeastRightsModel" "rights" "[I") (by decide +kernel)
  have f63 := hts (.fieldLink RX10 63 "LeastRightsModel" "banned" "[I") (by decide +kernel)
  have L57 : ∀ (n : Nat) (v2 : Int32) (v3 : Int32) (H : Heap) (locs : List Loc) (ls : Array Slot), lpX10_count_57 σ0 post n v2 v3 → va_P D vwCl (mw am cI cJ cZ σ0) H → va_S A s.heap H locs → lv_has ls 4 [(0, .ref (am 0)), (2, .int v2), (3, .int v3)] → W p l e (headSpec wsX10_count ({ frames := 3, cells := 0, slots := 0, locals := 71 } : Room)).room s m ([.ref (am 0), .int a1] : List Value).toArray below meth c H locs 0 0 (MQ below (va_Qi (fun (r : Int32) (u : St) => post r ∧ u = σ0) (wd_B D (mw am cI cJ cZ)) A) ([.ref (am 0), .int a1] : List Value).toArray s 0 0 A) (F0 m 57 ls []) := by
    intro n
    induction n with
    | zero => intro v2 v3 H locs ls hw; exact hw.elim
    | succ n ih =>
      intro v2 v3 H locs ls hw hP hS hl
      rw [lpX10_count_57] at hw
      refine lv_iload_n hx hb dX10_count_57 rfl (lv_at hl 2 rfl) ?_
      refine lv_aload_n hx hb dX10_count_58 rfl (lv_at hl 0 rfl) ?_
      refine va_get hx hb hts iX10 hown hK hP 0 (mw_q0 am cI cJ cZ σ0) rfl 2 (by decide) f84 (fun _ h9 => h9) rfl dX10_count_59 ?_
      refine lv_icmp_ge (tgt := 83) hx hb dX10_count_62 (by decide) (fun c9 => ?_) (fun c9 => ?_)
      · have hw := hw.1 c9
        refine lv_iload_n hx hb dX10_count_83 rfl (lv_at hl 1 rfl) ?_
        exact wd_iret hx hb hr hlocks ⟨hw, rfl⟩ hP hS dX10_count_84
      · have hw := hw.2 c9
        refine lv_iload_n hx hb dX10_count_65 rfl (lv_at hl 1 rfl) ?_
        refine lv_aload_n hx hb dX10_count_66 rfl (lv_at hl 0 rfl) ?_
        refine va_get hx hb hts iX10 hown hK hP 0 (mw_q0 am cI cJ cZ σ0) rfl 4 (by decide) f16 (fun _ h9 => h9) rfl dX10_count_67 ?_
        refine lv_iload_n hx hb dX10_count_70 rfl (lv_at hl 2 rfl) ?_
        obtain ⟨h9, hw⟩ := hw
        refine va_iald hx hb hK hP 3 0 (mw_q3 am cI cJ cZ σ0) rfl h9 dX10_count_71 ?_
        refine wd_cSi ⟨hx, hb, hml, hown, hts⟩ (mtX10_bits l D am cI cJ cZ A hD σ0 (σ0.2.1 2 v3.toNatClampNeg) _ hw) (va_cwS 1 hts gX10_count_X10_bits rfl rfl rfl (by decide +kernel) ⟨(Nat.le_of_ble_eq_true rfl), (Nat.le_of_ble_eq_true rfl)⟩) hK hN hP hS rfl hl.1 rfl (Nat.le_of_ble_eq_true rfl) dX10_count_72 ⟨Nat.zero_le _, Nat.zero_le _⟩ (fun r1 u9 H locs hq hP hS => ?_)
        obtain ⟨hw, hu⟩ := hq
        rw [hu] at hP
        refine lv_iadd hx hb dX10_count_75 ?_
        refine lv_topi (fun x2 ex2 => ?_)
        have hw := hw x2 ex2
        refine lv_istore_n (lv' := [(2, .int x2), (0, .ref (am 0)), (3, .int v3)]) hx hb dX10_count_76 rfl hl (by decide) rfl (fun ls hl => ?_)
        obtain ⟨x3, ex3⟩ : ∃ z : Int32, z = v3 + (1 : Int32) := ⟨_, rfl⟩
        refine lv_iinc (v := x3) (lv' := [(3, .int x3), (2, .int x2), (0, .ref (am 0))]) hx hb dX10_count_77 hl (k := 2) rfl (by rw [ex3]; rfl) (by decide) rfl (fun ls hl => ?_)
        have hw := hw x3 ex3
        refine lv_goto (tgt := 57) hx hb dX10_count_80 (by decide) ?_
        exact ih _ _ _ _ _ hw hP hS (lv_sub hl [2, 1, 0] rfl)
  have L87 : ∀ (n : Nat) (v2 : Int32) (v3 : Int32) (H : Heap) (locs : List Loc) (ls : Array Slot), lpX10_count_87 σ0 post n v2 v3 → va_P D vwCl (mw am cI cJ cZ σ0) H → va_S A s.heap H locs → lv_has ls 4 [(0, .ref (am 0)), (2, .int v2), (3, .int v3)] → W p l e (headSpec wsX10_count ({ frames := 3, cells := 0, slots := 0, locals := 71 } : Room)).room s m ([.ref (am 0), .int a1] : List Value).toArray below meth c H locs 0 0 (MQ below (va_Qi (fun (r : Int32) (u : St) => post r ∧ u = σ0) (wd_B D (mw am cI cJ cZ)) A) ([.ref (am 0), .int a1] : List Value).toArray s 0 0 A) (F0 m 87 ls []) := by
    intro n
    induction n with
    | zero => intro v2 v3 H locs ls hw; exact hw.elim
    | succ n ih =>
      intro v2 v3 H locs ls hw hP hS hl
      rw [lpX10_count_87] at hw
      refine lv_iload_n hx hb dX10_count_87 rfl (lv_at hl 2 rfl) ?_
      refine lv_aload_n hx hb dX10_count_88 rfl (lv_at hl 0 rfl) ?_
      refine va_get hx hb hts iX10 hown hK hP 0 (mw_q0 am cI cJ cZ σ0) rfl 2 (by decide) f84 (fun _ h9 => h9) rfl dX10_count_89 ?_
      refine lv_icmp_ge (tgt := 112) hx hb dX10_count_92 (by decide) (fun c9 => ?_) (fun c9 => ?_)
      · have hw := hw.1 c9
        refine lv_iload_n hx hb dX10_count_112 rfl (lv_at hl 1 rfl) ?_
        exact wd_iret hx hb hr hlocks ⟨hw, rfl⟩ hP hS dX10_count_113
      · have hw := hw.2 c9
        refine lv_iload_n hx hb dX10_count_95 rfl (lv_at hl 1 rfl) ?_
        refine lv_aload_n hx hb dX10_count_96 rfl (lv_at hl 0 rfl) ?_
        refine lv_iload_n hx hb dX10_count_97 rfl (lv_at hl 2 rfl) ?_
        refine wd_cVi ⟨hx, hb, hml, hown, hts⟩ (mtX10_keptOf l D am cI cJ cZ A hD σ0 v3 _ hw) (cwV 1 hts gX10_count_X10_keptOf rfl rfl rfl (by decide +kernel) ⟨(Nat.le_of_ble_eq_true rfl), (Nat.le_of_ble_eq_true rfl)⟩) (va_recv hK hP (ci := 10) (q0 := 0) rfl (mw_q0 am cI cJ cZ σ0)) hK hN hP hS rfl hl.1 rfl (Nat.le_of_ble_eq_true rfl) dX10_count_98 ⟨Nat.zero_le _, Nat.zero_le _⟩ (fun r5 u9 H locs hq hP hS => ?_)
        obtain ⟨hw, hu⟩ := hq
        rw [hu] at hP
        refine wd_cSi ⟨hx, hb, hml, hown, hts⟩ (mtX10_bits l D am cI cJ cZ A hD σ0 r5 _ hw) (va_cwS 1 hts gX10_count_X10_bits rfl rfl rfl (by decide +kernel) ⟨(Nat.le_of_ble_eq_true rfl), (Nat.le_of_ble_eq_true rfl)⟩) hK hN hP hS rfl hl.1 rfl (Nat.le_of_ble_eq_true rfl) dX10_count_101 ⟨Nat.zero_le _, Nat.zero_le _⟩ (fun r6 u9 H locs hq hP hS => ?_)
        obtain ⟨hw, hu⟩ := hq
        rw [hu] at hP
        refine lv_iadd hx hb dX10_count_104 ?_
        refine lv_topi (fun x7 ex7 => ?_)
        have hw := hw x7 ex7
        refine lv_istore_n (lv' := [(2, .int x7), (0, .ref (am 0)), (3, .int v3)]) hx hb dX10_count_105 rfl hl (by decide) rfl (fun ls hl => ?_)
        obtain ⟨x8, ex8⟩ : ∃ z : Int32, z = v3 + (1 : Int32) := ⟨_, rfl⟩
        refine lv_iinc (v := x8) (lv' := [(3, .int x8), (2, .int x7), (0, .ref (am 0))]) hx hb dX10_count_106 hl (k := 2) rfl (by rw [ex8]; rfl) (by decide) rfl (fun ls hl => ?_)
        have hw := hw x8 ex8
        refine lv_goto (tgt := 87) hx hb dX10_count_109 (by decide) ?_
        exact ih _ _ _ _ _ hw hP hS (lv_sub hl [2, 1, 0] rfl)
  have L116 : ∀ (K140 : Int32 → Prop) (_ : ∀ (v2 : Int32) (H : Heap) (locs : List Loc) (ls : Array Slot), K140 v2 → va_P D vwCl (mw am cI cJ cZ σ0) H → va_S A s.heap H locs → lv_has ls 4 [(0, .ref (am 0)), (2, .int v2)] → W p l e (headSpec wsX10_count ({ frames := 3, cells := 0, slots := 0, locals := 71 } : Room)).room s m ([.ref (am 0), .int a1] : List Value).toArray below meth c H locs 0 0 (MQ below (va_Qi (fun (r : Int32) (u : St) => post r ∧ u = σ0) (wd_B D (mw am cI cJ cZ)) A) ([.ref (am 0), .int a1] : List Value).toArray s 0 0 A) (F0 m 140 ls [])) (n : Nat) (v2 : Int32) (v3 : Int32) (H : Heap) (locs : List Loc) (ls : Array Slot), lpX10_count_116 σ0 K140 n v2 v3 → va_P D vwCl (mw am cI cJ cZ σ0) H → va_S A s.heap H locs → lv_has ls 4 [(0, .ref (am 0)), (2, .int v2), (3, .int v3)] → W p l e (headSpec wsX10_count ({ frames := 3, cells := 0, slots := 0, locals := 71 } : Room)).room s m ([.ref (am 0), .int a1] : List Value).toArray below meth c H locs 0 0 (MQ below (va_Qi (fun (r : Int32) (u : St) => post r ∧ u = σ0) (wd_B D (mw am cI cJ cZ)) A) ([.ref (am 0), .int a1] : List Value).toArray s 0 0 A) (F0 m 116 ls []) := by
    intro K140 hK140 n
    induction n with
    | zero => intro v2 v3 H locs ls hw; exact hw.elim
    | succ n ih =>
      intro v2 v3 H locs ls hw hP hS hl
      rw [lpX10_count_116] at hw
      refine lv_iload_n hx hb dX10_count_116 rfl (lv_at hl 2 rfl) ?_
      refine lv_bipush (v := 12) hx hb dX10_count_117 (by decide) ?_
      refine lv_icmp_ge (tgt := 140) hx hb dX10_count_119 (by decide) (fun c9 => ?_) (fun c9 => ?_)
      · have hw := hw.1 c9
        exact hK140 _ _ _ _ hw hP hS (lv_sub hl [0, 1] rfl)
      · have hw := hw.2 c9
        refine lv_iload_n hx hb dX10_count_122 rfl (lv_at hl 1 rfl) ?_
        refine lv_aload_n hx hb dX10_count_123 rfl (lv_at hl 0 rfl) ?_
        refine va_get hx hb hts iX10 hown hK hP 0 (mw_q0 am cI cJ cZ σ0) rfl 26 (by decide) f63 (fun _ h9 => h9) rfl dX10_count_124 ?_
        refine lv_iload_n hx hb dX10_count_127 rfl (lv_at hl 2 rfl) ?_
        obtain ⟨h9, hw⟩ := hw
        refine va_iald hx hb hK hP 15 0 (mw_q15 am cI cJ cZ σ0) rfl h9 dX10_count_128 ?_
        refine wd_cSi ⟨hx, hb, hml, hown, hts⟩ (mtX10_bits l D am cI cJ cZ A hD σ0 (σ0.2.1 14 v3.toNatClampNeg) _ hw) (va_cwS 1 hts gX10_count_X10_bits rfl rfl rfl (by decide +kernel) ⟨(Nat.le_of_ble_eq_true rfl), (Nat.le_of_ble_eq_true rfl)⟩) hK hN hP hS rfl hl.1 rfl (Nat.le_of_ble_eq_true rfl) dX10_count_129 ⟨Nat.zero_le _, Nat.zero_le _⟩ (fun r10 u9 H locs hq hP hS => ?_)
        obtain ⟨hw, hu⟩ := hq
        rw [hu] at hP
        refine lv_iadd hx hb dX10_count_132 ?_
        refine lv_topi (fun x11 ex11 => ?_)
        have hw := hw x11 ex11
        refine lv_istore_n (lv' := [(2, .int x11), (0, .ref (am 0)), (3, .int v3)]) hx hb dX10_count_133 rfl hl (by decide) rfl (fun ls hl => ?_)
        obtain ⟨x12, ex12⟩ : ∃ z : Int32, z = v3 + (1 : Int32) := ⟨_, rfl⟩
        refine lv_iinc (v := x12) (lv' := [(3, .int x12), (2, .int x11), (0, .ref (am 0))]) hx hb dX10_count_134 hl (k := 2) rfl (by rw [ex12]; rfl) (by decide) rfl (fun ls hl => ?_)
        have hw := hw x12 ex12
        refine lv_goto (tgt := 116) hx hb dX10_count_137 (by decide) ?_
        exact ih _ _ _ _ _ hw hP hS (lv_sub hl [2, 1, 0] rfl)
  have hl := lv_entry ([.ref (am 0), .int a1]) (n := 4) (Nat.le_of_ble_eq_true rfl)
  rw [lg_entry_eq]
  generalize (lg_sl ([.ref (am 0), .int a1]) ++ List.replicate (4 - (lg_sl ([.ref (am 0), .int a1])).length) Slot.unset).toArray = ls at hl ⊢
  have hl : lv_has ls 4 [(0, .ref (am 0)), (1, .int a1)] := hl
  unfold wX10_count at hw
  refine lv_iconst (v := 0) hx hb dX10_count_0 (by decide) ?_
  refine lv_istore_n (lv' := [(2, .int (0 : Int32)), (0, .ref (am 0)), (1, .int a1)]) hx hb dX10_count_1 rfl hl (by decide) rfl (fun ls hl => ?_)
  refine lv_iload_n hx hb dX10_count_2 rfl (lv_at hl 2 rfl) ?_
  by_cases c0 : a1 = 0
  · have hw := hw.1 c0
    refine lv_tableIn (off := 37) (tgt := 40) hx hb dX10_count_3 (by rw [c0]; decide) (by rw [c0]; decide) (by rw [c0]; rfl) (by decide) ?_
    refine lv_aload_n hx hb dX10_count_40 rfl (lv_at hl 1 rfl) ?_
    refine va_get hx hb hts iX10 hown hK hP 0 (mw_q0 am cI cJ cZ σ0) rfl 2 (by decide) f84 (fun _ h9 => h9) rfl dX10_count_41 ?_
    exact wd_iret hx hb hr hlocks ⟨hw, rfl⟩ hP hS dX10_count_44
  · have hw := hw.2 c0
    by_cases c1 : a1 = 1
    · have hw := hw.1 c1
      refine lv_tableIn (off := 42) (tgt := 45) hx hb dX10_count_3 (by rw [c1]; decide) (by rw [c1]; decide) (by rw [c1]; rfl) (by decide) ?_
      refine lv_aload_n hx hb dX10_count_45 rfl (lv_at hl 1 rfl) ?_
      refine va_get hx hb hts iX10 hown hK hP 0 (mw_q0 am cI cJ cZ σ0) rfl 10 (by decide) f106 (fun _ h9 => h9) rfl dX10_count_46 ?_
      exact wd_iret hx hb hr hlocks ⟨hw, rfl⟩ hP hS dX10_count_49
    · have hw := hw.2 c1
      by_cases c2 : a1 = 2
      · have hw := hw.1 c2
        refine lv_tableIn (off := 47) (tgt := 50) hx hb dX10_count_3 (by rw [c2]; decide) (by rw [c2]; decide) (by rw [c2]; rfl) (by decide) ?_
        refine lv_aload_n hx hb dX10_count_50 rfl (lv_at hl 1 rfl) ?_
        refine va_get hx hb hts iX10 hown hK hP 0 (mw_q0 am cI cJ cZ σ0) rfl 11 (by decide) f103 (fun _ h9 => h9) rfl dX10_count_51 ?_
        exact wd_iret hx hb hr hlocks ⟨hw, rfl⟩ hP hS dX10_count_54
      · have hw := hw.2 c2
        by_cases c3 : a1 = 3
        · have hw := hw.1 c3
          refine lv_tableIn (off := 52) (tgt := 55) hx hb dX10_count_3 (by rw [c3]; decide) (by rw [c3]; decide) (by rw [c3]; rfl) (by decide) ?_
          refine lv_iconst (v := 0) hx hb dX10_count_55 (by decide) ?_
          refine lv_istore_n (lv' := [(3, .int (0 : Int32)), (2, .int (0 : Int32)), (0, .ref (am 0)), (1, .int a1)]) hx hb dX10_count_56 rfl hl (by decide) rfl (fun ls hl => ?_)
          obtain ⟨n9, hw⟩ := hw
          refine L57 n9 (0 : Int32) (0 : Int32) _ _ _ hw hP hS (lv_sub hl [2, 1, 0] rfl)
        · have hw := hw.2 c3
          by_cases c4 : a1 = 4
          · have hw := hw.1 c4
            refine lv_tableIn (off := 82) (tgt := 85) hx hb dX10_count_3 (by rw [c4]; decide) (by rw [c4]; decide) (by rw [c4]; rfl) (by decide) ?_
            refine lv_iconst (v := 0) hx hb dX10_count_85 (by decide) ?_
            refine lv_istore_n (lv' := [(3, .int (0 : Int32)), (2, .int (0 : Int32)), (0, .ref (am 0)), (1, .int a1)]) hx hb dX10_count_86 rfl hl (by decide) rfl (fun ls hl => ?_)
            obtain ⟨n9, hw⟩ := hw
            refine L87 n9 (0 : Int32) (0 : Int32) _ _ _ hw hP hS (lv_sub hl [2, 1, 0] rfl)
          · have hw := hw.2 c4
            by_cases c5 : a1 = 5
            · have hw := hw.1 c5
              refine lv_tableIn (off := 111) (tgt := 114) hx hb dX10_count_3 (by rw [c5]; decide) (by rw [c5]; decide) (by rw [c5]; rfl) (by decide) ?_
              refine lv_iconst (v := 0) hx hb dX10_count_114 (by decide) ?_
              refine lv_istore_n (lv' := [(3, .int (0 : Int32)), (2, .int (0 : Int32)), (0, .ref (am 0)), (1, .int a1)]) hx hb dX10_count_115 rfl hl (by decide) rfl (fun ls hl => ?_)
              obtain ⟨n9, hw⟩ := hw
              refine L116 _ ?_ n9 (0 : Int32) (0 : Int32) _ _ _ hw hP hS (lv_sub hl [2, 1, 0] rfl)
              · intro y13 H locs ls hw hP hS hl
                refine lv_iload_n hx hb dX10_count_140 rfl (lv_at hl 1 rfl) ?_
                refine lv_iconst (v := 2) hx hb dX10_count_141 (by decide) ?_
                refine lv_idiv hx hb dX10_count_142 (by decide) ?_
                exact wd_iret hx hb hr hlocks ⟨hw, rfl⟩ hP hS dX10_count_143
            · have hw := hw.2 c5
              refine lv_tableOut (tgt := 144) hx hb dX10_count_3 (wd_sw5 a1 c0 c1 c2 c3 c4 c5) (by decide) ?_
              refine lv_iconst (v := -1) hx hb dX10_count_144 (by decide) ?_
              exact wd_iret hx hb hr hlocks ⟨hw, rfl⟩ hP hS dX10_count_145
def wX10_finding (σ0 : St) (post : Int32 → Prop) : Prop := post (σ0.1 0)
set_option maxHeartbeats 4000000 in
set_option maxRecDepth 100000 in
theorem mtX10_finding (l : Launch) (D : va_G) (am : Nat → Nat) (cI cJ cZ : ClassId) (A : Nat → Prop) (hD : ∀ σ : St, va_D A (mw am cI cJ cZ σ)) (σ0 : St) (post : Int32 → Prop) (hw : wX10_finding σ0 post) : Met l yX10_finding wsX10_finding ({ frames := 0, cells := 0, slots := 0, locals := 0 } : Room) (va_Pc [.ref (am 0)] (wd_pre D (mw am cI cJ cZ) (wd_tys cI cJ cZ) σ0)) (va_Qi (fun (r : Int32) (u : St) => post r ∧ u = σ0) (wd_B D (mw am cI cJ cZ)) A) 0 0 A := by
  refine Met.ofW (cc := cX10_finding) (maxL := 1) (ret := (some .int)) (by decide) rfl ?_
  intro p e s m args below meth c s₁ B hml hv
  obtain ⟨rfl, hP, hK, hN⟩ := hv
  have hx := B.exec
  have hb := B.bytes
  have hr := B.returns
  have hts := atoms_spec (ws := wsX10_finding) B.pre
  have hown : s.vm.findClass RX10 = some m.cls := findClass_of_methodNamed B.named
  have hlocks := B.notSynchronized
  have hS : va_S A s.heap s.heap [] := va_S.rf
  have f81 := hts (.fieldLink RX10 81 "LeastRightsModel" "finding" "I") (by decide +kernel)
  have iX10 : ∀ w ∈ wsX100, w ∈ wsX10_finding := by decide +kernel
  have hl := lv_entry ([.ref (am 0)]) (n := 1) (Nat.le_of_ble_eq_true rfl)
  rw [lg_entry_eq]
  generalize (lg_sl ([.ref (am 0)]) ++ List.replicate (1 - (lg_sl ([.ref (am 0)])).length) Slot.unset).toArray = ls at hl ⊢
  have hl : lv_has ls 1 [(0, .ref (am 0))] := hl
  unfold wX10_finding at hw
  refine lv_aload_n hx hb dX10_finding_0 rfl (lv_at hl 0 rfl) ?_
  refine va_get hx hb hts iX10 hown hK hP 0 (mw_q0 am cI cJ cZ σ0) rfl 0 (by decide) f81 (fun _ h9 => h9) rfl dX10_finding_1 ?_
  exact wd_iret hx hb hr hlocks ⟨hw, rfl⟩ hP hS dX10_finding_4
def wX10_findings (σ0 : St) (a1 : Int32) (post : Int32 → Prop) : Prop := wX10_in a1 (1 : Int32) (4 : Int32) (fun (r1 : Int32) => (r1 = 0 → (post (-1 : Int32))) ∧ (¬ r1 = 0 → (vp_in a1 5 ∧ (post (σ0.2.1 0 a1.toNatClampNeg)))))
set_option maxHeartbeats 4000000 in
set_option maxRecDepth 100000 in
theorem mtX10_findings (l : Launch) (D : va_G) (am : Nat → Nat) (cI cJ cZ : ClassId) (A : Nat → Prop) (hD : ∀ σ : St, va_D A (mw am cI cJ cZ σ)) (σ0 : St) (a1 : Int32) (post : Int32 → Prop) (hw : wX10_findings σ0 a1 post) : Met l yX10_findings wsX10_findings ({ frames := 1, cells := 0, slots := 0, locals := 22 } : Room) (va_Pc [.ref (am 0), .int a1] (wd_pre D (mw am cI cJ cZ) (wd_tys cI cJ cZ) σ0)) (va_Qi (fun (r : Int32) (u : St) => post r ∧ u = σ0) (wd_B D (mw am cI cJ cZ)) A) 0 0 A := by
  refine Met.ofW (cc := cX10_findings) (maxL := 2) (ret := (some .int)) (by decide) rfl ?_
  intro p e s m args below meth c s₁ B hml hv
  obtain ⟨rfl, hP, hK, hN⟩ := hv
  have hx := B.exec
  have hb := B.bytes
  have hr := B.returns
  have hts := atoms_spec (ws := wsX10_findings) B.pre
  have hown : s.vm.findClass RX10 = some m.cls := findClass_of_methodNamed B.named
  have hlocks := B.notSynchronized
  have hS : va_S A s.heap s.heap [] := va_S.rf
  have f7 := hts (.fieldLink RX10 7 "LeastRightsModel" "findings" "[I") (by decide +kernel)
  have iX10 : ∀ w ∈ wsX100, w ∈ wsX10_findings := by decide +kernel
  have hl := lv_entry ([.ref (am 0), .int a1]) (n := 2) (Nat.le_of_ble_eq_true rfl)
  rw [lg_entry_eq]
  generalize (lg_sl ([.ref (am 0), .int a1]) ++ List.replicate (2 - (lg_sl ([.ref (am 0), .int a1])).length) Slot.unset).toArray = ls at hl ⊢
  have hl : lv_has ls 2 [(0, .ref (am 0)), (1, .int a1)] := hl
  unfold wX10_findings at hw
  refine lv_iload_n hx hb dX10_findings_0 rfl (lv_at hl 1 rfl) ?_
  refine lv_iconst (v := 1) hx hb dX10_findings_1 (by decide) ?_
  refine lv_iconst (v := 4) hx hb dX10_findings_2 (by decide) ?_
  refine wd_cSi ⟨hx, hb, hml, hown, hts⟩ (mtX10_in l D am cI cJ cZ A hD σ0 a1 (1 : Int32) (4 : Int32) _ hw) (va_cwS 3 hts gX10_findings_X10_in rfl rfl rfl (by decide +kernel) ⟨(Nat.le_of_ble_eq_true rfl), (Nat.le_of_ble_eq_true rfl)⟩) hK hN hP hS rfl hl.1 rfl (Nat.le_of_ble_eq_true rfl) dX10_findings_3 ⟨Nat.zero_le _, Nat.zero_le _⟩ (fun r1 u9 H locs hq hP hS => ?_)
  obtain ⟨hw, hu⟩ := hq
  rw [hu] at hP
  refine lv_if_eq (tgt := 18) hx hb dX10_findings_6 (by decide) (fun c9 => ?_) (fun c9 => ?_)
  · have hw := hw.1 c9
    refine lv_iconst (v := -1) hx hb dX10_findings_18 (by decide) ?_
    exact wd_iret hx hb hr hlocks ⟨hw, rfl⟩ hP hS dX10_findings_19
  · have hw := hw.2 c9
    refine lv_aload_n hx hb dX10_findings_9 rfl (lv_at hl 0 rfl) ?_
    refine va_get hx hb hts iX10 hown hK hP 0 (mw_q0 am cI cJ cZ σ0) rfl 1 (by decide) f7 (fun _ h9 => h9) rfl dX10_findings_10 ?_
    refine lv_iload_n hx hb dX10_findings_13 rfl (lv_at hl 1 rfl) ?_
    obtain ⟨h9, hw⟩ := hw
    refine va_iald hx hb hK hP 1 0 (mw_q1 am cI cJ cZ σ0) rfl h9 dX10_findings_14 ?_
    refine lv_goto (tgt := 19) hx hb dX10_findings_15 (by decide) ?_
    exact wd_iret hx hb hr hlocks ⟨hw, rfl⟩ hP hS dX10_findings_19
def lpX10_digest_17 (u3 : Int32) (σ0 : St) (K44 : Int64 → Prop) : Nat → Int64 → Int32 → Prop
  | 0, _, _ => False
  | n + 1, v1, v4 => ((4 : Int32) < v4 → (K44 v1)) ∧ (¬ (4 : Int32) < v4 → (wX10_tells σ0 u3 v4 (fun (r1 : Int32) => ∀ x2 : Int64, x2 = (((31 : Int64) * v1) + (r1.toInt64)) → (∀ x3 : Int32, x3 = v4 + (1 : Int32) → (lpX10_digest_17 u3 σ0 K44 n x2 x3)))))
def lpX10_digest_6 (σ0 : St) (K50 : Int64 → Prop) : Nat → Int64 → Int32 → Prop
  | 0, _, _ => False
  | n + 1, v1, v3 => ((σ0.1 1) ≤ v3 → (K50 v1)) ∧ (¬ (σ0.1 1) ≤ v3 → (∃ n6 : Nat, lpX10_digest_17 v3 σ0 (fun (y4 : Int64) => ∀ x5 : Int32, x5 = v3 + (1 : Int32) → (lpX10_digest_6 σ0 K50 n y4 x5)) n6 v1 (0 : Int32)))
def lpX10_digest_74 (σ0 : St) (K126 : Int64 → Prop) : Nat → Int64 → Int32 → Prop
  | 0, _, _ => False
  | n + 1, v1, v3 => ((σ0.1 7) ≤ v3 → (K126 v1)) ∧ (¬ (σ0.1 7) ≤ v3 → (vp_in v3 400 ∧ (vp_in v3 400 ∧ (vp_in v3 400 ∧ (∀ x9 : Int64, x9 = (((31 : Int64) * (((31 : Int64) * (((31 : Int64) * v1) + ((σ0.2.1 4 v3.toNatClampNeg).toInt64))) + ((σ0.2.1 5 v3.toNatClampNeg).toInt64))) + ((σ0.2.1 6 v3.toNatClampNeg).toInt64)) → (∀ x10 : Int32, x10 = v3 + (1 : Int32) → (lpX10_digest_74 σ0 K126 n x9 x10)))))))
def lpX10_digest_128 (σ0 : St) (K154 : Int64 → Prop) : Nat → Int64 → Int32 → Prop
  | 0, _, _ => False
  | n + 1, v1, v3 => ((12 : Int32) ≤ v3 → (K154 v1)) ∧ (¬ (12 : Int32) ≤ v3 → (vp_in v3 12 ∧ (∀ x12 : Int64, x12 = (((31 : Int64) * v1) + ((σ0.2.1 14 v3.toNatClampNeg).toInt64)) → (∀ x13 : Int32, x13 = v3 + (1 : Int32) → (lpX10_digest_128 σ0 K154 n x12 x13)))))
def lpX10_digest_191 (u3 : Int32) (σ0 : St) (K228 : Int64 → Prop) : Nat → Int64 → Int32 → Prop
  | 0, _, _ => False
  | n + 1, v1, v4 => vp_in u3 4 ∧ (((σ0.2.1 16 u3.toNatClampNeg) ≤ v4 → (K228 v1)) ∧ (¬ (σ0.2.1 16 u3.toNatClampNeg) ≤ v4 → (vp_in (((10 : Int32) * u3) + v4) 40 ∧ (∀ x16 : Int64, x16 = (((31 : Int64) * v1) + ((σ0.2.1 17 (((10 : Int32) * u3) + v4).toNatClampNeg).toInt64)) → (∀ x17 : Int32, x17 = v4 + (1 : Int32) → (lpX10_digest_191 u3 σ0 K228 n x16 x17))))))
def lpX10_digest_156 (σ0 : St) (K234 : Int64 → Prop) : Nat → Int64 → Int32 → Prop
  | 0, _, _ => False
  | n + 1, v1, v3 => ((4 : Int32) ≤ v3 → (K234 v1)) ∧ (¬ (4 : Int32) ≤ v3 → (vp_in v3 4 ∧ ((0 ≤ (σ0.2.1 16 v3.toNatClampNeg) → (vp_in v3 4 ∧ (∀ x15 : Int64, x15 = (((31 : Int64) * v1) + ((σ0.2.1 16 v3.toNatClampNeg).toInt64)) → (∃ n20 : Nat, lpX10_digest_191 v3 σ0 (fun (y18 : Int64) => ∀ x19 : Int32, x19 = v3 + (1 : Int32) → (lpX10_digest_156 σ0 K234 n y18 x19)) n20 x15 (0 : Int32))))) ∧ (¬ 0 ≤ (σ0.2.1 16 v3.toNatClampNeg) → (∀ x21 : Int64, x21 = (((31 : Int64) * v1) + ((-1 : Int32).toInt64)) → (∃ n24 : Nat, lpX10_digest_191 v3 σ0 (fun (y22 : Int64) => ∀ x23 : Int32, x23 = v3 + (1 : Int32) → (lpX10_digest_156 σ0 K234 n y22 x23)) n24 x21 (0 : Int32)))))))
def wX10_digest (σ0 : St) (post : Int64 → Prop) : Prop := ∃ n29 : Nat, lpX10_digest_6 σ0 (fun (y7 : Int64) => ∀ x8 : Int64, x8 = (((31 : Int64) * (((31 : Int64) * y7) + ((σ0.1 2).toInt64))) + ((σ0.1 6).toInt64)) → (∃ n28 : Nat, lpX10_digest_74 σ0 (fun (y11 : Int64) => ∃ n27 : Nat, lpX10_digest_128 σ0 (fun (y14 : Int64) => ∃ n26 : Nat, lpX10_digest_156 σ0 (fun (y25 : Int64) => post y25) n26 y14 (0 : Int32)) n27 y11 (0 : Int32)) n28 x8 (0 : Int32))) n29 (17 : Int64) (0 : Int32)
set_option maxHeartbeats 4000000 in
set_option maxRecDepth 100000 in
theorem mtX10_digest (l : Launch) (D : va_G) (am : Nat → Nat) (cI cJ cZ : ClassId) (A : Nat → Prop) (hD : ∀ σ : St, va_D A (mw am cI cJ cZ σ)) (σ0 : St) (post : Int64 → Prop) (hw : wX10_digest σ0 post) : Met l yX10_digest wsX10_digest ({ frames := 4, cells := 0, slots := 0, locals := 95 } : Room) (va_Pc [.ref (am 0)] (wd_pre D (mw am cI cJ cZ) (wd_tys cI cJ cZ) σ0)) (va_Ql (fun (r : Int64) (u : St) => post r ∧ u = σ0) (wd_B D (mw am cI cJ cZ)) A) 0 0 A := by
  refine Met.ofW (cc := cX10_digest) (maxL := 5) (ret := (some .long)) (by decide) rfl ?_
  intro p e s m args below meth c s₁ B hml hv
  obtain ⟨rfl, hP, hK, hN⟩ := hv
  have hx := B.exec
  have hb := B.bytes
  have hr := B.returns
  have hts := atoms_spec (ws := wsX10_digest) B.pre
  have hown : s.vm.findClass RX10 = some m.cls := findClass_of_methodNamed B.named
  have hlocks := B.notSynchronized
  have hS : va_S A s.heap s.heap [] := va_S.rf
  have k172 := hts (.constantLong RX10 172 (17)) (by decide +kernel)
  have f84 := hts (.fieldLink RX10 84 "LeastRightsModel" "people" "I") (by decide +kernel)
  have iX10 : ∀ w ∈ wsX100, w ∈ wsX10_digest := by decide +kernel
  have k174 := hts (.constantLong RX10 174 (31)) (by decide +kernel)
  have f109 := hts (.fieldLink RX10 109 "LeastRightsModel" "standby" "I") (by decide +kernel)
  have f106 := hts (.fieldLink RX10 106 "LeastRightsModel" "day" "I") (by decide +kernel)
  have f103 := hts (.fieldLink RX10 103 "LeastRightsModel" "uses" "I") (by decide +kernel)
  have f32 := hts (.fieldLink RX10 32 "LeastRightsModel" "usePerson" "[I") (by decide +kernel)
  have f35 := hts (.fieldLink RX10 35 "LeastRightsModel" "useRight" "[I") (by decide +kernel)
  have f38 := hts (.fieldLink RX10 38 "LeastRightsModel" "useDay" "[I") (by decide +kernel)
  have f63 := hts (.fieldLink RX10 63 "LeastRightsModel" "banned" "[I") (by decide +kernel)
  have f72 := hts (.fieldLink RX10 72 "LeastRightsModel" "sizes" "[I") (by decide +kernel)
  have f75 := hts (.fieldLink RX10 75 "LeastRightsModel" "sheets" "[I") (by decide +kernel)
  have L17 : ∀ (u3 : Int32) (K44 : Int64 → Prop) (_ : ∀ (v1 : Int64) (H : Heap) (locs : List Loc) (ls : Array Slot), K44 v1 → va_P D vwCl (mw am cI cJ cZ σ0) H → va_S A s.heap H locs → lv_has ls 5 [(0, .ref (am 0)), (3, .int u3), (1, .long v1)] → W p l e (headSpec wsX10_digest ({ frames := 4, cells := 0, slots := 0, locals := 95 } : Room)).room s m ([.ref (am 0)] : List Value).toArray below meth c H locs 0 0 (MQ below (va_Ql (fun (r : Int64) (u : St) => post r ∧ u = σ0) (wd_B D (mw am cI cJ cZ)) A) ([.ref (am 0)] : List Value).toArray s 0 0 A) (F0 m 44 ls [])) (n : Nat) (v1 : Int64) (v4 : Int32) (H : Heap) (locs : List Loc) (ls : Array Slot), lpX10_digest_17 u3 σ0 K44 n v1 v4 → va_P D vwCl (mw am cI cJ cZ σ0) H → va_S A s.heap H locs → lv_has ls 5 [(0, .ref (am 0)), (3, .int u3), (1, .long v1), (4, .int v4)] → W p l e (headSpec wsX10_digest ({ frames := 4, cells := 0, slots := 0, locals := 95 } : Room)).room s m ([.ref (am 0)] : List Value).toArray below meth c H locs 0 0 (MQ below (va_Ql (fun (r : Int64) (u : St) => post r ∧ u = σ0) (wd_B D (mw am cI cJ cZ)) A) ([.ref (am 0)] : List Value).toArray s 0 0 A) (F0 m 17 ls []) := by
    intro u3 K44 hK44 n
    induction n with
    | zero => intro v1 v4 H locs ls hw; exact hw.elim
    | succ n ih =>
      intro v1 v4 H locs ls hw hP hS hl
      rw [lpX10_digest_17] at hw
      refine lv_iload hx hb dX10_digest_17 (lv_at hl 3 rfl) ?_
      refine lv_iconst (v := 4) hx hb dX10_digest_19 (by decide) ?_
      refine lv_icmp_gt (tgt := 44) hx hb dX10_digest_20 (by decide) (fun c9 => ?_) (fun c9 => ?_)
      · have hw := hw.1 c9
        exact hK44 _ _ _ _ hw hP hS (lv_sub hl [0, 1, 2] rfl)
      · have hw := hw.2 c9
        refine lv_ldc2 hx hb hown k174 dX10_digest_23 ?_
        refine lv_lload_n hx hb dX10_digest_26 rfl (lv_at hl 2 rfl) ?_
        refine lv_lmul hx hb dX10_digest_27 ?_
        refine lv_aload_n hx hb dX10_digest_28 rfl (lv_at hl 0 rfl) ?_
        refine lv_iload_n hx hb dX10_digest_29 rfl (lv_at hl 1 rfl) ?_
        refine lv_iload hx hb dX10_digest_30 (lv_at hl 3 rfl) ?_
        refine wd_cVi ⟨hx, hb, hml, hown, hts⟩ (mtX10_tells l D am cI cJ cZ A hD σ0 u3 v4 _ hw) (cwV 2 hts gX10_digest_X10_tells rfl rfl rfl (by decide +kernel) ⟨(Nat.le_of_ble_eq_true rfl), (Nat.le_of_ble_eq_true rfl)⟩) (va_recv hK hP (ci := 10) (q0 := 0) rfl (mw_q0 am cI cJ cZ σ0)) hK hN hP hS rfl hl.1 rfl (Nat.le_of_ble_eq_true rfl) dX10_digest_32 ⟨Nat.zero_le _, Nat.zero_le _⟩ (fun r1 u9 H locs hq hP hS => ?_)
        obtain ⟨hw, hu⟩ := hq
        rw [hu] at hP
        refine lv_i2l hx hb dX10_digest_35 rfl ?_
        refine lv_ladd hx hb dX10_digest_36 ?_
        refine lv_topl (fun x2 ex2 => ?_)
        have hw := hw x2 ex2
        refine lv_lstore_n (lv' := [(1, .long x2), (0, .ref (am 0)), (3, .int u3), (4, .int v4)]) hx hb dX10_digest_37 rfl hl (by decide) rfl (fun ls hl => ?_)
        obtain ⟨x3, ex3⟩ : ∃ z : Int32, z = v4 + (1 : Int32) := ⟨_, rfl⟩
        refine lv_iinc (v := x3) (lv' := [(4, .int x3), (1, .long x2), (0, .ref (am 0)), (3, .int u3)]) hx hb dX10_digest_38 hl (k := 3) rfl (by rw [ex3]; rfl) (by decide) rfl (fun ls hl => ?_)
        have hw := hw x3 ex3
        refine lv_goto (tgt := 17) hx hb dX10_digest_41 (by decide) ?_
        exact ih _ _ _ _ _ hw hP hS (lv_sub hl [2, 3, 1, 0] rfl)
  have L6 : ∀ (K50 : Int64 → Prop) (_ : ∀ (v1 : Int64) (H : Heap) (locs : List Loc) (ls : Array Slot), K50 v1 → va_P D vwCl (mw am cI cJ cZ σ0) H → va_S A s.heap H locs → lv_has ls 5 [(0, .ref (am 0)), (1, .long v1)] → W p l e (headSpec wsX10_digest ({ frames := 4, cells := 0, slots := 0, locals := 95 } : Room)).room s m ([.ref (am 0)] : List Value).toArray below meth c H locs 0 0 (MQ below (va_Ql (fun (r : Int64) (u : St) => post r ∧ u = σ0) (wd_B D (mw am cI cJ cZ)) A) ([.ref (am 0)] : List Value).toArray s 0 0 A) (F0 m 50 ls [])) (n : Nat) (v1 : Int64) (v3 : Int32) (H : Heap) (locs : List Loc) (ls : Array Slot), lpX10_digest_6 σ0 K50 n v1 v3 → va_P D vwCl (mw am cI cJ cZ σ0) H → va_S A s.heap H locs → lv_has ls 5 [(0, .ref (am 0)), (1, .long v1), (3, .int v3)] → W p l e (headSpec wsX10_digest ({ frames := 4, cells := 0, slots := 0, locals := 95 } : Room)).room s m ([.ref (am 0)] : List Value).toArray below meth c H locs 0 0 (MQ below (va_Ql (fun (r : Int64) (u : St) => post r ∧ u = σ0) (wd_B D (mw am cI cJ cZ)) A) ([.ref (am 0)] : List Value).toArray s 0 0 A) (F0 m 6 ls []) := by
    intro K50 hK50 n
    induction n with
    | zero => intro v1 v3 H locs ls hw; exact hw.elim
    | succ n ih =>
      intro v1 v3 H locs ls hw hP hS hl
      rw [lpX10_digest_6] at hw
      refine lv_iload_n hx hb dX10_digest_6 rfl (lv_at hl 2 rfl) ?_
      refine lv_aload_n hx hb dX10_digest_7 rfl (lv_at hl 0 rfl) ?_
      refine va_get hx hb hts iX10 hown hK hP 0 (mw_q0 am cI cJ cZ σ0) rfl 2 (by decide) f84 (fun _ h9 => h9) rfl dX10_digest_8 ?_
      refine lv_icmp_ge (tgt := 50) hx hb dX10_digest_11 (by decide) (fun c9 => ?_) (fun c9 => ?_)
      · have hw := hw.1 c9
        exact hK50 _ _ _ _ hw hP hS (lv_sub hl [0, 1] rfl)
      · have hw := hw.2 c9
        refine lv_iconst (v := 0) hx hb dX10_digest_14 (by decide) ?_
        refine lv_istore (lv' := [(4, .int (0 : Int32)), (0, .ref (am 0)), (1, .long v1), (3, .int v3)]) hx hb dX10_digest_15 hl (by decide) rfl (fun ls hl => ?_)
        obtain ⟨n9, hw⟩ := hw
        refine L17 v3 _ ?_ n9 v1 (0 : Int32) _ _ _ hw hP hS (lv_sub hl [1, 3, 2, 0] rfl)
        · intro y4 H locs ls hw hP hS hl
          obtain ⟨x5, ex5⟩ : ∃ z : Int32, z = v3 + (1 : Int32) := ⟨_, rfl⟩
          refine lv_iinc (v := x5) (lv' := [(3, .int x5), (0, .ref (am 0)), (1, .long y4)]) hx hb dX10_digest_44 hl (k := 1) rfl (by rw [ex5]; rfl) (by decide) rfl (fun ls hl => ?_)
          have hw := hw x5 ex5
          refine lv_goto (tgt := 6) hx hb dX10_digest_47 (by decide) ?_
          exact ih _ _ _ _ _ hw hP hS (lv_sub hl [1, 2, 0] rfl)
  have L74 : ∀ (K126 : Int64 → Prop) (_ : ∀ (v1 : Int64) (H : Heap) (locs : List Loc) (ls : Array Slot), K126 v1 → va_P D vwCl (mw am cI cJ cZ σ0) H → va_S A s.heap H locs → lv_has ls 5 [(0, .ref (am 0)), (1, .long v1)] → W p l e (headSpec wsX10_digest ({ frames := 4, cells := 0, slots := 0, locals := 95 } : Room)).room s m ([.ref (am 0)] : List Value).toArray below meth c H locs 0 0 (MQ below (va_Ql (fun (r : Int64) (u : St) => post r ∧ u = σ0) (wd_B D (mw am cI cJ cZ)) A) ([.ref (am 0)] : List Value).toArray s 0 0 A) (F0 m 126 ls [])) (n : Nat) (v1 : Int64) (v3 : Int32) (H : Heap) (locs : List Loc) (ls : Array Slot), lpX10_digest_74 σ0 K126 n v1 v3 → va_P D vwCl (mw am cI cJ cZ σ0) H → va_S A s.heap H locs → lv_has ls 5 [(0, .ref (am 0)), (1, .long v1), (3, .int v3)] → W p l e (headSpec wsX10_digest ({ frames := 4, cells := 0, slots := 0, locals := 95 } : Room)).room s m ([.ref (am 0)] : List Value).toArray below meth c H locs 0 0 (MQ below (va_Ql (fun (r : Int64) (u : St) => post r ∧ u = σ0) (wd_B D (mw am cI cJ cZ)) A) ([.ref (am 0)] : List Value).toArray s 0 0 A) (F0 m 74 ls []) := by
    intro K126 hK126 n
    induction n with
    | zero => intro v1 v3 H locs ls hw; exact hw.elim
    | succ n ih =>
      intro v1 v3 H locs ls hw hP hS hl
      rw [lpX10_digest_74] at hw
      refine lv_iload_n hx hb dX10_digest_74 rfl (lv_at hl 2 rfl) ?_
      refine lv_aload_n hx hb dX10_digest_75 rfl (lv_at hl 0 rfl) ?_
      refine va_get hx hb hts iX10 hown hK hP 0 (mw_q0 am cI cJ cZ σ0) rfl 11 (by decide) f103 (fun _ h9 => h9) rfl dX10_digest_76 ?_
      refine lv_icmp_ge (tgt := 126) hx hb dX10_digest_79 (by decide) (fun c9 => ?_) (fun c9 => ?_)
      · have hw := hw.1 c9
        exact hK126 _ _ _ _ hw hP hS (lv_sub hl [0, 1] rfl)
      · have hw := hw.2 c9
        refine lv_ldc2 hx hb hown k174 dX10_digest_82 ?_
        refine lv_ldc2 hx hb hown k174 dX10_digest_85 ?_
        refine lv_ldc2 hx hb hown k174 dX10_digest_88 ?_
        refine lv_lload_n hx hb dX10_digest_91 rfl (lv_at hl 1 rfl) ?_
        refine lv_lmul hx hb dX10_digest_92 ?_
        refine lv_aload_n hx hb dX10_digest_93 rfl (lv_at hl 0 rfl) ?_
        refine va_get hx hb hts iX10 hown hK hP 0 (mw_q0 am cI cJ cZ σ0) rfl 12 (by decide) f32 (fun _ h9 => h9) rfl dX10_digest_94 ?_
        refine lv_iload_n hx hb dX10_digest_97 rfl (lv_at hl 2 rfl) ?_
        obtain ⟨h9, hw⟩ := hw
        refine va_iald hx hb hK hP 5 0 (mw_q5 am cI cJ cZ σ0) rfl h9 dX10_digest_98 ?_
        refine lv_i2l hx hb dX10_digest_99 rfl ?_
        refine lv_ladd hx hb dX10_digest_100 ?_
        refine lv_lmul hx hb dX10_digest_101 ?_
        refine lv_aload_n hx hb dX10_digest_102 rfl (lv_at hl 0 rfl) ?_
        refine va_get hx hb hts iX10 hown hK hP 0 (mw_q0 am cI cJ cZ σ0) rfl 13 (by decide) f35 (fun _ h9 => h9) rfl dX10_digest_103 ?_
        refine lv_iload_n hx hb dX10_digest_106 rfl (lv_at hl 2 rfl) ?_
        obtain ⟨h9, hw⟩ := hw
        refine va_iald hx hb hK hP 6 0 (mw_q6 am cI cJ cZ σ0) rfl h9 dX10_digest_107 ?_
        refine lv_i2l hx hb dX10_digest_108 rfl ?_
        refine lv_ladd hx hb dX10_digest_109 ?_
        refine lv_lmul hx hb dX10_digest_110 ?_
        refine lv_aload_n hx hb dX10_digest_111 rfl (lv_at hl 0 rfl) ?_
        refine va_get hx hb hts iX10 hown hK hP 0 (mw_q0 am cI cJ cZ σ0) rfl 14 (by decide) f38 (fun _ h9 => h9) rfl dX10_digest_112 ?_
        refine lv_iload_n hx hb dX10_digest_115 rfl (lv_at hl 2 rfl) ?_
        obtain ⟨h9, hw⟩ := hw
        refine va_iald hx hb hK hP 7 0 (mw_q7 am cI cJ cZ σ0) rfl h9 dX10_digest_116 ?_
        refine lv_i2l hx hb dX10_digest_117 rfl ?_
        refine lv_ladd hx hb dX10_digest_118 ?_
        refine lv_topl (fun x9 ex9 => ?_)
        have hw := hw x9 ex9
        refine lv_lstore_n (lv' := [(1, .long x9), (0, .ref (am 0)), (3, .int v3)]) hx hb dX10_digest_119 rfl hl (by decide) rfl (fun ls hl => ?_)
        obtain ⟨x10, ex10⟩ : ∃ z : Int32, z = v3 + (1 : Int32) := ⟨_, rfl⟩
        refine lv_iinc (v := x10) (lv' := [(3, .int x10), (1, .long x9), (0, .ref (am 0))]) hx hb dX10_digest_120 hl (k := 2) rfl (by rw [ex10]; rfl) (by decide) rfl (fun ls hl => ?_)
        have hw := hw x10 ex10
        refine lv_goto (tgt := 74) hx hb dX10_digest_123 (by decide) ?_
        exact ih _ _ _ _ _ hw hP hS (lv_sub hl [2, 1, 0] rfl)
  have L128 : ∀ (K154 : Int64 → Prop) (_ : ∀ (v1 : Int64) (H : Heap) (locs : List Loc) (ls : Array Slot), K154 v1 → va_P D vwCl (mw am cI cJ cZ σ0) H → va_S A s.heap H locs → lv_has ls 5 [(0, .ref (am 0)), (1, .long v1)] → W p l e (headSpec wsX10_digest ({ frames := 4, cells := 0, slots := 0, locals := 95 } : Room)).room s m ([.ref (am 0)] : List Value).toArray below meth c H locs 0 0 (MQ below (va_Ql (fun (r : Int64) (u : St) => post r ∧ u = σ0) (wd_B D (mw am cI cJ cZ)) A) ([.ref (am 0)] : List Value).toArray s 0 0 A) (F0 m 154 ls [])) (n : Nat) (v1 : Int64) (v3 : Int32) (H : Heap) (locs : List Loc) (ls : Array Slot), lpX10_digest_128 σ0 K154 n v1 v3 → va_P D vwCl (mw am cI cJ cZ σ0) H → va_S A s.heap H locs → lv_has ls 5 [(0, .ref (am 0)), (1, .long v1), (3, .int v3)] → W p l e (headSpec wsX10_digest ({ frames := 4, cells := 0, slots := 0, locals := 95 } : Room)).room s m ([.ref (am 0)] : List Value).toArray below meth c H locs 0 0 (MQ below (va_Ql (fun (r : Int64) (u : St) => post r ∧ u = σ0) (wd_B D (mw am cI cJ cZ)) A) ([.ref (am 0)] : List Value).toArray s 0 0 A) (F0 m 128 ls []) := by
    intro K154 hK154 n
    induction n with
    | zero => intro v1 v3 H locs ls hw; exact hw.elim
    | succ n ih =>
      intro v1 v3 H locs ls hw hP hS hl
      rw [lpX10_digest_128] at hw
      refine lv_iload_n hx hb dX10_digest_128 rfl (lv_at hl 2 rfl) ?_
      refine lv_bipush (v := 12) hx hb dX10_digest_129 (by decide) ?_
      refine lv_icmp_ge (tgt := 154) hx hb dX10_digest_131 (by decide) (fun c9 => ?_) (fun c9 => ?_)
      · have hw := hw.1 c9
        exact hK154 _ _ _ _ hw hP hS (lv_sub hl [0, 1] rfl)
      · have hw := hw.2 c9
        refine lv_ldc2 hx hb hown k174 dX10_digest_134 ?_
        refine lv_lload_n hx hb dX10_digest_137 rfl (lv_at hl 1 rfl) ?_
        refine lv_lmul hx hb dX10_digest_138 ?_
        refine lv_aload_n hx hb dX10_digest_139 rfl (lv_at hl 0 rfl) ?_
        refine va_get hx hb hts iX10 hown hK hP 0 (mw_q0 am cI cJ cZ σ0) rfl 26 (by decide) f63 (fun _ h9 => h9) rfl dX10_digest_140 ?_
        refine lv_iload_n hx hb dX10_digest_143 rfl (lv_at hl 2 rfl) ?_
        obtain ⟨h9, hw⟩ := hw
        refine va_iald hx hb hK hP 15 0 (mw_q15 am cI cJ cZ σ0) rfl h9 dX10_digest_144 ?_
        refine lv_i2l hx hb dX10_digest_145 rfl ?_
        refine lv_ladd hx hb dX10_digest_146 ?_
        refine lv_topl (fun x12 ex12 => ?_)
        have hw := hw x12 ex12
        refine lv_lstore_n (lv' := [(1, .long x12), (0, .ref (am 0)), (3, .int v3)]) hx hb dX10_digest_147 rfl hl (by decide) rfl (fun ls hl => ?_)
        obtain ⟨x13, ex13⟩ : ∃ z : Int32, z = v3 + (1 : Int32) := ⟨_, rfl⟩
        refine lv_iinc (v := x13) (lv' := [(3, .int x13), (1, .long x12), (0, .ref (am 0))]) hx hb dX10_digest_148 hl (k := 2) rfl (by rw [ex13]; rfl) (by decide) rfl (fun ls hl => ?_)
        have hw := hw x13 ex13
        refine lv_goto (tgt := 128) hx hb dX10_digest_151 (by decide) ?_
        exact ih _ _ _ _ _ hw hP hS (lv_sub hl [2, 1, 0] rfl)
  have L191 : ∀ (u3 : Int32) (K228 : Int64 → Prop) (_ : ∀ (v1 : Int64) (H : Heap) (locs : List Loc) (ls : Array Slot), K228 v1 → va_P D vwCl (mw am cI cJ cZ σ0) H → va_S A s.heap H locs → lv_has ls 5 [(0, .ref (am 0)), (3, .int u3), (1, .long v1)] → W p l e (headSpec wsX10_digest ({ frames := 4, cells := 0, slots := 0, locals := 95 } : Room)).room s m ([.ref (am 0)] : List Value).toArray below meth c H locs 0 0 (MQ below (va_Ql (fun (r : Int64) (u : St) => post r ∧ u = σ0) (wd_B D (mw am cI cJ cZ)) A) ([.ref (am 0)] : List Value).toArray s 0 0 A) (F0 m 228 ls [])) (n : Nat) (v1 : Int64) (v4 : Int32) (H : Heap) (locs : List Loc) (ls : Array Slot), lpX10_digest_191 u3 σ0 K228 n v1 v4 → va_P D vwCl (mw am cI cJ cZ σ0) H → va_S A s.heap H locs → lv_has ls 5 [(0, .ref (am 0)), (3, .int u3), (1, .long v1), (4, .int v4)] → W p l e (headSpec wsX10_digest ({ frames := 4, cells := 0, slots := 0, locals := 95 } : Room)).room s m ([.ref (am 0)] : List Value).toArray below meth c H locs 0 0 (MQ below (va_Ql (fun (r : Int64) (u : St) => post r ∧ u = σ0) (wd_B D (mw am cI cJ cZ)) A) ([.ref (am 0)] : List Value).toArray s 0 0 A) (F0 m 191 ls []) := by
    intro u3 K228 hK228 n
    induction n with
    | zero => intro v1 v4 H locs ls hw; exact hw.elim
    | succ n ih =>
      intro v1 v4 H locs ls hw hP hS hl
      rw [lpX10_digest_191] at hw
      refine lv_iload hx hb dX10_digest_191 (lv_at hl 3 rfl) ?_
      refine lv_aload_n hx hb dX10_digest_193 rfl (lv_at hl 0 rfl) ?_
      refine va_get hx hb hts iX10 hown hK hP 0 (mw_q0 am cI cJ cZ σ0) rfl 29 (by decide) f72 (fun _ h9 => h9) rfl dX10_digest_194 ?_
      refine lv_iload_n hx hb dX10_digest_197 rfl (lv_at hl 1 rfl) ?_
      obtain ⟨h9, hw⟩ := hw
      refine va_iald hx hb hK hP 17 0 (mw_q17 am cI cJ cZ σ0) rfl h9 dX10_digest_198 ?_
      refine lv_icmp_ge (tgt := 228) hx hb dX10_digest_199 (by decide) (fun c9 => ?_) (fun c9 => ?_)
      · have hw := hw.1 c9
        exact hK228 _ _ _ _ hw hP hS (lv_sub hl [0, 1, 2] rfl)
      · have hw := hw.2 c9
        refine lv_ldc2 hx hb hown k174 dX10_digest_202 ?_
        refine lv_lload_n hx hb dX10_digest_205 rfl (lv_at hl 2 rfl) ?_
        refine lv_lmul hx hb dX10_digest_206 ?_
        refine lv_aload_n hx hb dX10_digest_207 rfl (lv_at hl 0 rfl) ?_
        refine va_get hx hb hts iX10 hown hK hP 0 (mw_q0 am cI cJ cZ σ0) rfl 30 (by decide) f75 (fun _ h9 => h9) rfl dX10_digest_208 ?_
        refine lv_bipush (v := 10) hx hb dX10_digest_211 (by decide) ?_
        refine lv_iload_n hx hb dX10_digest_213 rfl (lv_at hl 1 rfl) ?_
        refine lv_imul hx hb dX10_digest_214 ?_
        refine lv_iload hx hb dX10_digest_215 (lv_at hl 3 rfl) ?_
        refine lv_iadd hx hb dX10_digest_217 ?_
        obtain ⟨h9, hw⟩ := hw
        refine va_iald hx hb hK hP 18 0 (mw_q18 am cI cJ cZ σ0) rfl h9 dX10_digest_218 ?_
        refine lv_i2l hx hb dX10_digest_219 rfl ?_
        refine lv_ladd hx hb dX10_digest_220 ?_
        refine lv_topl (fun x16 ex16 => ?_)
        have hw := hw x16 ex16
        refine lv_lstore_n (lv' := [(1, .long x16), (0, .ref (am 0)), (3, .int u3), (4, .int v4)]) hx hb dX10_digest_221 rfl hl (by decide) rfl (fun ls hl => ?_)
        obtain ⟨x17, ex17⟩ : ∃ z : Int32, z = v4 + (1 : Int32) := ⟨_, rfl⟩
        refine lv_iinc (v := x17) (lv' := [(4, .int x17), (1, .long x16), (0, .ref (am 0)), (3, .int u3)]) hx hb dX10_digest_222 hl (k := 3) rfl (by rw [ex17]; rfl) (by decide) rfl (fun ls hl => ?_)
        have hw := hw x17 ex17
        refine lv_goto (tgt := 191) hx hb dX10_digest_225 (by decide) ?_
        exact ih _ _ _ _ _ hw hP hS (lv_sub hl [2, 3, 1, 0] rfl)
  have L156 : ∀ (K234 : Int64 → Prop) (_ : ∀ (v1 : Int64) (H : Heap) (locs : List Loc) (ls : Array Slot), K234 v1 → va_P D vwCl (mw am cI cJ cZ σ0) H → va_S A s.heap H locs → lv_has ls 5 [(0, .ref (am 0)), (1, .long v1)] → W p l e (headSpec wsX10_digest ({ frames := 4, cells := 0, slots := 0, locals := 95 } : Room)).room s m ([.ref (am 0)] : List Value).toArray below meth c H locs 0 0 (MQ below (va_Ql (fun (r : Int64) (u : St) => post r ∧ u = σ0) (wd_B D (mw am cI cJ cZ)) A) ([.ref (am 0)] : List Value).toArray s 0 0 A) (F0 m 234 ls [])) (n : Nat) (v1 : Int64) (v3 : Int32) (H : Heap) (locs : List Loc) (ls : Array Slot), lpX10_digest_156 σ0 K234 n v1 v3 → va_P D vwCl (mw am cI cJ cZ σ0) H → va_S A s.heap H locs → lv_has ls 5 [(0, .ref (am 0)), (1, .long v1), (3, .int v3)] → W p l e (headSpec wsX10_digest ({ frames := 4, cells := 0, slots := 0, locals := 95 } : Room)).room s m ([.ref (am 0)] : List Value).toArray below meth c H locs 0 0 (MQ below (va_Ql (fun (r : Int64) (u : St) => post r ∧ u = σ0) (wd_B D (mw am cI cJ cZ)) A) ([.ref (am 0)] : List Value).toArray s 0 0 A) (F0 m 156 ls []) := by
    intro K234 hK234 n
    induction n with
    | zero => intro v1 v3 H locs ls hw; exact hw.elim
    | succ n ih =>
      intro v1 v3 H locs ls hw hP hS hl
      rw [lpX10_digest_156] at hw
      refine lv_iload_n hx hb dX10_digest_156 rfl (lv_at hl 2 rfl) ?_
      refine lv_iconst (v := 4) hx hb dX10_digest_157 (by decide) ?_
      refine lv_icmp_ge (tgt := 234) hx hb dX10_digest_158 (by decide) (fun c9 => ?_) (fun c9 => ?_)
      · have hw := hw.1 c9
        exact hK234 _ _ _ _ hw hP hS (lv_sub hl [0, 1] rfl)
      · have hw := hw.2 c9
        refine lv_ldc2 hx hb hown k174 dX10_digest_161 ?_
        refine lv_lload_n hx hb dX10_digest_164 rfl (lv_at hl 1 rfl) ?_
        refine lv_lmul hx hb dX10_digest_165 ?_
        refine lv_aload_n hx hb dX10_digest_166 rfl (lv_at hl 0 rfl) ?_
        refine va_get hx hb hts iX10 hown hK hP 0 (mw_q0 am cI cJ cZ σ0) rfl 29 (by decide) f72 (fun _ h9 => h9) rfl dX10_digest_167 ?_
        refine lv_iload_n hx hb dX10_digest_170 rfl (lv_at hl 2 rfl) ?_
        obtain ⟨h9, hw⟩ := hw
        refine va_iald hx hb hK hP 17 0 (mw_q17 am cI cJ cZ σ0) rfl h9 dX10_digest_171 ?_
        refine lv_if_ge (tgt := 179) hx hb dX10_digest_172 (by decide) (fun c9 => ?_) (fun c9 => ?_)
        · have hw := hw.1 c9
          refine lv_aload_n hx hb dX10_digest_179 rfl (lv_at hl 0 rfl) ?_
          refine va_get hx hb hts iX10 hown hK hP 0 (mw_q0 am cI cJ cZ σ0) rfl 29 (by decide) f72 (fun _ h9 => h9) rfl dX10_digest_180 ?_
          refine lv_iload_n hx hb dX10_digest_183 rfl (lv_at hl 2 rfl) ?_
          obtain ⟨h9, hw⟩ := hw
          refine va_iald hx hb hK hP 17 0 (mw_q17 am cI cJ cZ σ0) rfl h9 dX10_digest_184 ?_
          refine lv_i2l hx hb dX10_digest_185 rfl ?_
          refine lv_ladd hx hb dX10_digest_186 ?_
          refine lv_topl (fun x15 ex15 => ?_)
          have hw := hw x15 ex15
          refine lv_lstore_n (lv' := [(1, .long x15), (0, .ref (am 0)), (3, .int v3)]) hx hb dX10_digest_187 rfl hl (by decide) rfl (fun ls hl => ?_)
          refine lv_iconst (v := 0) hx hb dX10_digest_188 (by decide) ?_
          refine lv_istore (lv' := [(4, .int (0 : Int32)), (1, .long x15), (0, .ref (am 0)), (3, .int v3)]) hx hb dX10_digest_189 hl (by decide) rfl (fun ls hl => ?_)
          obtain ⟨n9, hw⟩ := hw
          refine L191 v3 _ ?_ n9 x15 (0 : Int32) _ _ _ hw hP hS (lv_sub hl [2, 3, 1, 0] rfl)
          · intro y18 H locs ls hw hP hS hl
            obtain ⟨x19, ex19⟩ : ∃ z : Int32, z = v3 + (1 : Int32) := ⟨_, rfl⟩
            refine lv_iinc (v := x19) (lv' := [(3, .int x19), (0, .ref (am 0)), (1, .long y18)]) hx hb dX10_digest_228 hl (k := 1) rfl (by rw [ex19]; rfl) (by decide) rfl (fun ls hl => ?_)
            have hw := hw x19 ex19
            refine lv_goto (tgt := 156) hx hb dX10_digest_231 (by decide) ?_
            exact ih _ _ _ _ _ hw hP hS (lv_sub hl [1, 2, 0] rfl)
        · have hw := hw.2 c9
          refine lv_iconst (v := -1) hx hb dX10_digest_175 (by decide) ?_
          refine lv_goto (tgt := 185) hx hb dX10_digest_176 (by decide) ?_
          refine lv_i2l hx hb dX10_digest_185 rfl ?_
          refine lv_ladd hx hb dX10_digest_186 ?_
          refine lv_topl (fun x21 ex21 => ?_)
          have hw := hw x21 ex21
          refine lv_lstore_n (lv' := [(1, .long x21), (0, .ref (am 0)), (3, .int v3)]) hx hb dX10_digest_187 rfl hl (by decide) rfl (fun ls hl => ?_)
          refine lv_iconst (v := 0) hx hb dX10_digest_188 (by decide) ?_
          refine lv_istore (lv' := [(4, .int (0 : Int32)), (1, .long x21), (0, .ref (am 0)), (3, .int v3)]) hx hb dX10_digest_189 hl (by decide) rfl (fun ls hl => ?_)
          obtain ⟨n9, hw⟩ := hw
          refine L191 v3 _ ?_ n9 x21 (0 : Int32) _ _ _ hw hP hS (lv_sub hl [2, 3, 1, 0] rfl)
          · intro y22 H locs ls hw hP hS hl
            obtain ⟨x23, ex23⟩ : ∃ z : Int32, z = v3 + (1 : Int32) := ⟨_, rfl⟩
            refine lv_iinc (v := x23) (lv' := [(3, .int x23), (0, .ref (am 0)), (1, .long y22)]) hx hb dX10_digest_228 hl (k := 1) rfl (by rw [ex23]; rfl) (by decide) rfl (fun ls hl => ?_)
            have hw := hw x23 ex23
            refine lv_goto (tgt := 156) hx hb dX10_digest_231 (by decide) ?_
            exact ih _ _ _ _ _ hw hP hS (lv_sub hl [1, 2, 0] rfl)
  have hl := lv_entry ([.ref (am 0)]) (n := 5) (Nat.le_of_ble_eq_true rfl)
  rw [lg_entry_eq]
  generalize (lg_sl ([.ref (am 0)]) ++ List.replicate (5 - (lg_sl ([.ref (am 0)])).length) Slot.unset).toArray = ls at hl ⊢
  have hl : lv_has ls 5 [(0, .ref (am 0))] := hl
  unfold wX10_digest at hw
  refine lv_ldc2 hx hb hown k172 dX10_digest_0 ?_
  refine lv_lstore_n (lv' := [(1, .long (17 : Int64)), (0, .ref (am 0))]) hx hb dX10_digest_3 rfl hl (by decide) rfl (fun ls hl => ?_)
  refine lv_iconst (v := 0) hx hb dX10_digest_4 (by decide) ?_
  refine lv_istore_n (lv' := [(3, .int (0 : Int32)), (1, .long (17 : Int64)), (0, .ref (am 0))]) hx hb dX10_digest_5 rfl hl (by decide) rfl (fun ls hl => ?_)
  obtain ⟨n9, hw⟩ := hw
  refine L6 _ ?_ n9 (17 : Int64) (0 : Int32) _ _ _ hw hP hS (lv_sub hl [2, 1, 0] rfl)
  · intro y7 H locs ls hw hP hS hl
    refine lv_ldc2 hx hb hown k174 dX10_digest_50 ?_
    refine lv_ldc2 hx hb hown k174 dX10_digest_53 ?_
    refine lv_lload_n hx hb dX10_digest_56 rfl (lv_at hl 1 rfl) ?_
    refine lv_lmul hx hb dX10_digest_57 ?_
    refine lv_aload_n hx hb dX10_digest_58 rfl (lv_at hl 0 rfl) ?_
    refine va_get hx hb hts iX10 hown hK hP 0 (mw_q0 am cI cJ cZ σ0) rfl 6 (by decide) f109 (fun _ h9 => h9) rfl dX10_digest_59 ?_
    refine lv_i2l hx hb dX10_digest_62 rfl ?_
    refine lv_ladd hx hb dX10_digest_63 ?_
    refine lv_lmul hx hb dX10_digest_64 ?_
    refine lv_aload_n hx hb dX10_digest_65 rfl (lv_at hl 0 rfl) ?_
    refine va_get hx hb hts iX10 hown hK hP 0 (mw_q0 am cI cJ cZ σ0) rfl 10 (by decide) f106 (fun _ h9 => h9) rfl dX10_digest_66 ?_
    refine lv_i2l hx hb dX10_digest_69 rfl ?_
    refine lv_ladd hx hb dX10_digest_70 ?_
    refine lv_topl (fun x8 ex8 => ?_)
    have hw := hw x8 ex8
    refine lv_lstore_n (lv' := [(1, .long x8), (0, .ref (am 0))]) hx hb dX10_digest_71 rfl hl (by decide) rfl (fun ls hl => ?_)
    refine lv_iconst (v := 0) hx hb dX10_digest_72 (by decide) ?_
    refine lv_istore_n (lv' := [(3, .int (0 : Int32)), (1, .long x8), (0, .ref (am 0))]) hx hb dX10_digest_73 rfl hl (by decide) rfl (fun ls hl => ?_)
    obtain ⟨n9, hw⟩ := hw
    refine L74 _ ?_ n9 x8 (0 : Int32) _ _ _ hw hP hS (lv_sub hl [2, 1, 0] rfl)
    · intro y11 H locs ls hw hP hS hl
      refine lv_iconst (v := 0) hx hb dX10_digest_126 (by decide) ?_
      refine lv_istore_n (lv' := [(3, .int (0 : Int32)), (0, .ref (am 0)), (1, .long y11)]) hx hb dX10_digest_127 rfl hl (by decide) rfl (fun ls hl => ?_)
      obtain ⟨n9, hw⟩ := hw
      refine L128 _ ?_ n9 y11 (0 : Int32) _ _ _ hw hP hS (lv_sub hl [1, 2, 0] rfl)
      · intro y14 H locs ls hw hP hS hl
        refine lv_iconst (v := 0) hx hb dX10_digest_154 (by decide) ?_
        refine lv_istore_n (lv' := [(3, .int (0 : Int32)), (0, .ref (am 0)), (1, .long y14)]) hx hb dX10_digest_155 rfl hl (by decide) rfl (fun ls hl => ?_)
        obtain ⟨n9, hw⟩ := hw
        refine L156 _ ?_ n9 y14 (0 : Int32) _ _ _ hw hP hS (lv_sub hl [1, 2, 0] rfl)
        · intro y25 H locs ls hw hP hS hl
          refine lv_lload_n hx hb dX10_digest_234 rfl (lv_at hl 1 rfl) ?_
          exact wd_lret hx hb hr hlocks ⟨hw, rfl⟩ hP hS dX10_digest_235
