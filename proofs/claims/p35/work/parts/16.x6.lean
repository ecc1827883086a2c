/-! X9_apply X9_noSheet X9_sheet X9_save X9_load X9_tear X9_copy X9_asked X9_count X9_finding X9_findings X9_digestOfPeople X9_digestOfSheets -/
def lpX9_apply_34 (post : Int32 → St → Prop) : Nat → Int32 → Int32 → St → Prop
  | 0, _, _, _ => False
  | n + 1, v1, v2, σ => ((σ.1 6) ≤ v2 → (post v1 σ)) ∧ (¬ (σ.1 6) ≤ v2 → (vp_in v2 10 ∧ (wX5_leave σ v2 (σ.2.1 18 v2.toNatClampNeg) (σ.1 2) (fun (r1 : Int32) (σ2 : St) => ∀ x3 : Int32, x3 = (v1 + r1) → (∀ x4 : Int32, x4 = v2 + (1 : Int32) → (lpX9_apply_34 post n x3 x4 σ2))))))
def wX9_apply (σ0 : St) (post : Int32 → St → Prop) : Prop := ((σ0.1 12) = 0 → (post (-4 : Int32) σ0)) ∧ (¬ (σ0.1 12) = 0 → (((σ0.1 13) = (σ0.1 6) → (∃ n5 : Nat, lpX9_apply_34 post n5 (0 : Int32) (0 : Int32) σ0)) ∧ (¬ (σ0.1 13) = (σ0.1 6) → (post (-4 : Int32) σ0))))
set_option maxHeartbeats 4000000 in
set_option maxRecDepth 100000 in
theorem mtX9_apply (l : Launch) (D : va_G) (ad : Nat → Nat) (cI cJ cZ : ClassId) (A : Nat → Prop) (hD : ∀ σ : St, va_D A (xw ad cI cJ cZ σ)) (σ0 : St) (post : Int32 → St → Prop) (hw : wX9_apply σ0 post) : Met l yX9_apply wsX9_apply ({ frames := 2, cells := 0, slots := 0, locals := 45 } : Room) (va_Pc [.ref (ad 0)] (wd_pre D (xw ad cI cJ cZ) (wd_tys cI cJ cZ) σ0)) (va_Qi post (wd_B D (xw ad cI cJ cZ)) A) 0 0 A := by
  refine Met.ofW (cc := cX9_apply) (maxL := 3) (ret := (some .int)) (by decide) rfl ?_
  intro p e s m args below meth c s₁ B hml hv
  obtain ⟨rfl, hP, hK, hN⟩ := hv
  have hx := B.exec
  have hb := B.bytes
  have hr := B.returns
  have hts := atoms_spec (ws := wsX9_apply) B.pre
  have hown : s.vm.findClass RX9 = some m.cls := findClass_of_methodNamed B.named
  have hlocks := B.notSynchronized
  have hS : va_S A s.heap s.heap [] := va_S.rf
  have f54 := hts (.fieldLink RX9 54 "LeastRights" "draft" "LLeastRights$Draft;") (by decide +kernel)
  have iX9 : ∀ w ∈ wsX90, w ∈ wsX9_apply := by decide +kernel
  have n213 := va_Nw.use (A := ([.ref (ad 0)] : List Value).toArray) rfl (hN.1 ("LeastRights", 213, "LeastRights$Draft", "made", "Z") (by decide +kernel))
  have iX3 : ∀ w ∈ wsX30, w ∈ wsX9_apply := by decide +kernel
  have n217 := va_Nw.use (A := ([.ref (ad 0)] : List Value).toArray) rfl (hN.1 ("LeastRights", 217, "LeastRights$Draft", "size", "I") (by decide +kernel))
  have f19 := hts (.fieldLink RX9 19 "LeastRights" "folk" "LLeastRights$Folk;") (by decide +kernel)
  have n93 := va_Nw.use (A := ([.ref (ad 0)] : List Value).toArray) rfl (hN.1 ("LeastRights", 93, "LeastRights$Folk", "size", "I") (by decide +kernel))
  have iX5 : ∀ w ∈ wsX50, w ∈ wsX9_apply := by decide +kernel
  have n236 := va_Nw.use (A := ([.ref (ad 0)] : List Value).toArray) rfl (hN.1 ("LeastRights", 236, "LeastRights$Draft", "rights", "[I") (by decide +kernel))
  have f10 := hts (.fieldLink RX9 10 "LeastRights" "days" "LLeastRights$Days;") (by decide +kernel)
  have n134 := va_Nw.use (A := ([.ref (ad 0)] : List Value).toArray) rfl (hN.1 ("LeastRights", 134, "LeastRights$Days", "present", "I") (by decide +kernel))
  have iX2 : ∀ w ∈ wsX20, w ∈ wsX9_apply := by decide +kernel
  have L34 : ∀ (n : Nat) (v1 : Int32) (v2 : Int32) (σ : St) (H : Heap) (locs : List Loc) (ls : Array Slot), lpX9_apply_34 post n v1 v2 σ → va_P D vwCl (xw ad cI cJ cZ σ) H → va_S A s.heap H locs → lv_has ls 3 [(0, .ref (ad 0)), (1, .int v1), (2, .int v2)] → W p l e (headSpec wsX9_apply ({ frames := 2, cells := 0, slots := 0, locals := 45 } : Room)).room s m ([.ref (ad 0)] : List Value).toArray below meth c H locs 0 0 (MQ below (va_Qi post (wd_B D (xw ad cI cJ cZ)) A) ([.ref (ad 0)] : List Value).toArray s 0 0 A) (F0 m 34 ls []) := by
    intro n
    induction n with
    | zero => intro v1 v2 σ H locs ls hw; exact hw.elim
    | succ n ih =>
      intro v1 v2 σ H locs ls hw hP hS hl
      rw [lpX9_apply_34] at hw
      refine lv_iload_n hx hb dX9_apply_34 rfl (lv_at hl 2 rfl) ?_
      refine lv_aload_n hx hb dX9_apply_35 rfl (lv_at hl 0 rfl) ?_
      refine va_get hx hb hts iX9 hown hK hP 0 (xw_q0 ad cI cJ cZ σ) rfl 1 (by decide) f19 (fun _ h9 => h9) rfl dX9_apply_36 ?_
      refine va_getN hx hb hts iX5 hown hK hP 2 (xw_q2 ad cI cJ cZ σ) rfl 0 (by decide) n93 (fun _ h9 => h9) rfl dX9_apply_39 ?_
      refine lv_icmp_ge (tgt := 78) hx hb dX9_apply_42 (by decide) (fun c9 => ?_) (fun c9 => ?_)
      · have hw := hw.1 c9
        refine lv_iload_n hx hb dX9_apply_78 rfl (lv_at hl 1 rfl) ?_
        exact wd_iret hx hb hr hlocks hw hP hS dX9_apply_79
      · have hw := hw.2 c9
        refine lv_iload_n hx hb dX9_apply_45 rfl (lv_at hl 1 rfl) ?_
        refine lv_aload_n hx hb dX9_apply_46 rfl (lv_at hl 0 rfl) ?_
        refine va_get hx hb hts iX9 hown hK hP 0 (xw_q0 ad cI cJ cZ σ) rfl 1 (by decide) f19 (fun _ h9 => h9) rfl dX9_apply_47 ?_
        refine lv_iload_n hx hb dX9_apply_50 rfl (lv_at hl 2 rfl) ?_
        refine lv_aload_n hx hb dX9_apply_51 rfl (lv_at hl 0 rfl) ?_
        refine va_get hx hb hts iX9 hown hK hP 0 (xw_q0 ad cI cJ cZ σ) rfl 6 (by decide) f54 (fun _ h9 => h9) rfl dX9_apply_52 ?_
        refine va_getN hx hb hts iX3 hown hK hP 7 (xw_q7 ad cI cJ cZ σ) rfl 2 (by decide) n236 (fun _ h9 => h9) rfl dX9_apply_55 ?_
        refine lv_iload_n hx hb dX9_apply_58 rfl (lv_at hl 2 rfl) ?_
        obtain ⟨h9, hw⟩ := hw
        refine va_iald hx hb hK hP 28 0 (xw_q28 ad cI cJ cZ σ) rfl h9 dX9_apply_59 ?_
        refine lv_aload_n hx hb dX9_apply_60 rfl (lv_at hl 0 rfl) ?_
        refine va_get hx hb hts iX9 hown hK hP 0 (xw_q0 ad cI cJ cZ σ) rfl 0 (by decide) f10 (fun _ h9 => h9) rfl dX9_apply_61 ?_
        refine va_getN hx hb hts iX2 hown hK hP 1 (xw_q1 ad cI cJ cZ σ) rfl 0 (by decide) n134 (fun _ h9 => h9) rfl dX9_apply_64 ?_
        refine wd_cVi ⟨hx, hb, hml, hown, hts⟩ (mtX5_leave l D ad cI cJ cZ A hD σ v2 (σ.2.1 18 v2.toNatClampNeg) (σ.1 2) _ hw) (cwV 3 hts gX9_apply_X5_leave rfl rfl rfl (by decide +kernel) ⟨(Nat.le_of_ble_eq_true rfl), (Nat.le_of_ble_eq_true rfl)⟩) (va_recv hK hP (ci := 5) (q0 := 2) rfl (xw_q2 ad cI cJ cZ σ)) hK hN hP hS rfl hl.1 rfl (Nat.le_of_ble_eq_true rfl) dX9_apply_67 ⟨Nat.zero_le _, Nat.zero_le _⟩ (fun r1 σ2 H locs hw hP hS => ?_)
        refine lv_iadd hx hb dX9_apply_70 ?_
        refine lv_topi (fun x3 ex3 => ?_)
        have hw := hw x3 ex3
        refine lv_istore_n (lv' := [(1, .int x3), (0, .ref (ad 0)), (2, .int v2)]) hx hb dX9_apply_71 rfl hl (by decide) rfl (fun ls hl => ?_)
        obtain ⟨x4, ex4⟩ : ∃ z : Int32, z = v2 + (1 : Int32) := ⟨_, rfl⟩
        refine lv_iinc (v := x4) (lv' := [(2, .int x4), (1, .int x3), (0, .ref (ad 0))]) hx hb dX9_apply_72 hl (k := 2) rfl (by rw [ex4]; rfl) (by decide) rfl (fun ls hl => ?_)
        have hw := hw x4 ex4
        refine lv_goto (tgt := 34) hx hb dX9_apply_75 (by decide) ?_
        exact ih _ _ _ _ _ _ hw hP hS (lv_sub hl [2, 1, 0] rfl)
  have hl := lv_entry ([.ref (ad 0)]) (n := 3) (Nat.le_of_ble_eq_true rfl)
  rw [lg_entry_eq]
  generalize (lg_sl ([.ref (ad 0)]) ++ List.replicate (3 - (lg_sl ([.ref (ad 0)])).length) Slot.unset).toArray = ls at hl ⊢
  have hl : lv_has ls 3 [(0, .ref (ad 0))] := hl
  unfold wX9_apply at hw
  refine lv_aload_n hx hb dX9_apply_0 rfl (lv_at hl 0 rfl) ?_
  refine va_get hx hb hts iX9 hown hK hP 0 (xw_q0 ad cI cJ cZ σ0) rfl 6 (by decide) f54 (fun _ h9 => h9) rfl dX9_apply_1 ?_
  refine va_getN hx hb hts iX3 hown hK hP 7 (xw_q7 ad cI cJ cZ σ0) rfl 0 (by decide) n213 (fun _ h9 => h9) rfl dX9_apply_4 ?_
  refine lv_if_eq (tgt := 27) hx hb dX9_apply_7 (by decide) (fun c9 => ?_) (fun c9 => ?_)
  · have hw := hw.1 c9
    refine lv_bipush (v := -4) hx hb dX9_apply_27 (by decide) ?_
    exact wd_iret hx hb hr hlocks hw hP hS dX9_apply_29
  · have hw := hw.2 c9
    refine lv_aload_n hx hb dX9_apply_10 rfl (lv_at hl 0 rfl) ?_
    refine va_get hx hb hts iX9 hown hK hP 0 (xw_q0 ad cI cJ cZ σ0) rfl 6 (by decide) f54 (fun _ h9 => h9) rfl dX9_apply_11 ?_
    refine va_getN hx hb hts iX3 hown hK hP 7 (xw_q7 ad cI cJ cZ σ0) rfl 1 (by decide) n217 (fun _ h9 => h9) rfl dX9_apply_14 ?_
    refine lv_aload_n hx hb dX9_apply_17 rfl (lv_at hl 0 rfl) ?_
    refine va_get hx hb hts iX9 hown hK hP 0 (xw_q0 ad cI cJ cZ σ0) rfl 1 (by decide) f19 (fun _ h9 => h9) rfl dX9_apply_18 ?_
    refine va_getN hx hb hts iX5 hown hK hP 2 (xw_q2 ad cI cJ cZ σ0) rfl 0 (by decide) n93 (fun _ h9 => h9) rfl dX9_apply_21 ?_
    refine lv_icmp_eq (tgt := 30) hx hb dX9_apply_24 (by decide) (fun c9 => ?_) (fun c9 => ?_)
    · have hw := hw.1 c9
      refine lv_iconst (v := 0) hx hb dX9_apply_30 (by decide) ?_
      refine lv_istore_n (lv' := [(1, .int (0 : Int32)), (0, .ref (ad 0))]) hx hb dX9_apply_31 rfl hl (by decide) rfl (fun ls hl => ?_)
      refine lv_iconst (v := 0) hx hb dX9_apply_32 (by decide) ?_
      refine lv_istore_n (lv' := [(2, .int (0 : Int32)), (1, .int (0 : Int32)), (0, .ref (ad 0))]) hx hb dX9_apply_33 rfl hl (by decide) rfl (fun ls hl => ?_)
      obtain ⟨n9, hw⟩ := hw
      refine L34 n9 (0 : Int32) (0 : Int32) σ0 _ _ _ hw hP hS (lv_sub hl [2, 1, 0] rfl)
    · have hw := hw.2 c9
      refine lv_bipush (v := -4) hx hb dX9_apply_27 (by decide) ?_
      exact wd_iret hx hb hr hlocks hw hP hS dX9_apply_29
def wX9_noSheet (a0 : Int32) (post : Int32 → Prop) : Prop := (a0 < 0 → (post (1 : Int32))) ∧ (¬ a0 < 0 → ((a0 < (4 : Int32) → (post (0 : Int32))) ∧ (¬ a0 < (4 : Int32) → (post (1 : Int32)))))
set_option maxHeartbeats 4000000 in
set_option maxRecDepth 100000 in
theorem mtX9_noSheet (l : Launch) (D : va_G) (ad : Nat → Nat) (cI cJ cZ : ClassId) (A : Nat → Prop) (hD : ∀ σ : St, va_D A (xw ad cI cJ cZ σ)) (σ0 : St) (a0 : Int32) (post : Int32 → Prop) (hw : wX9_noSheet a0 post) : Met l yX9_noSheet wsX9_noSheet ({ frames := 0, cells := 0, slots := 0, locals := 0 } : Room) (va_Pc [.int a0] (wd_pre D (xw ad cI cJ cZ) (wd_tys cI cJ cZ) σ0)) (va_Qi (fun (r : Int32) (u : St) => post r ∧ u = σ0) (wd_B D (xw ad cI cJ cZ)) A) 0 0 A := by
  refine Met.ofW (cc := cX9_noSheet) (maxL := 1) (ret := (some .boolean)) (by decide) rfl ?_
  intro p e s m args below meth c s₁ B hml hv
  obtain ⟨rfl, hP, hK, hN⟩ := hv
  have hx := B.exec
  have hb := B.bytes
  have hr := B.returns
  have hts := atoms_spec (ws := wsX9_noSheet) B.pre
  have hown : s.vm.findClass RX9 = some m.cls := findClass_of_methodNamed B.named
  have hlocks := B.notSynchronized
  have hS : va_S A s.heap s.heap [] := va_S.rf
  have hl := lv_entry ([.int a0]) (n := 1) (Nat.le_of_ble_eq_true rfl)
  rw [lg_entry_eq]
  generalize (lg_sl ([.int a0]) ++ List.replicate (1 - (lg_sl ([.int a0])).length) Slot.unset).toArray = ls at hl ⊢
  have hl : lv_has ls 1 [(0, .int a0)] := hl
  unfold wX9_noSheet at hw
  refine lv_iload_n hx hb dX9_noSheet_0 rfl (lv_at hl 0 rfl) ?_
  refine lv_if_lt (tgt := 9) hx hb dX9_noSheet_1 (by decide) (fun c9 => ?_) (fun c9 => ?_)
  · have hw := hw.1 c9
    refine lv_iconst (v := 1) hx hb dX9_noSheet_9 (by decide) ?_
    refine lv_goto (tgt := 14) hx hb dX9_noSheet_10 (by decide) ?_
    exact wd_zret hx hb hr hlocks (by decide) ⟨hw, rfl⟩ hP hS dX9_noSheet_14
  · have hw := hw.2 c9
    refine lv_iload_n hx hb dX9_noSheet_4 rfl (lv_at hl 0 rfl) ?_
    refine lv_iconst (v := 4) hx hb dX9_noSheet_5 (by decide) ?_
    refine lv_icmp_lt (tgt := 13) hx hb dX9_noSheet_6 (by decide) (fun c9 => ?_) (fun c9 => ?_)
    · have hw := hw.1 c9
      refine lv_iconst (v := 0) hx hb dX9_noSheet_13 (by decide) ?_
      exact wd_zret hx hb hr hlocks (by decide) ⟨hw, rfl⟩ hP hS dX9_noSheet_14
    · have hw := hw.2 c9
      refine lv_iconst (v := 1) hx hb dX9_noSheet_9 (by decide) ?_
      refine lv_goto (tgt := 14) hx hb dX9_noSheet_10 (by decide) ?_
      exact wd_zret hx hb hr hlocks (by decide) ⟨hw, rfl⟩ hP hS dX9_noSheet_14
def wX9_sheet (σ0 : St) (a1 : Int32) (a2 : Int32) (post : Int32 → St → Prop) : Prop := wX9_noSheet a1 (fun (r1 : Int32) => (¬ r1 = 0 → (post (-1 : Int32) σ0)) ∧ (r1 = 0 → ((a2 ≤ (10 : Int32) → ((0 ≤ a2 → (wX7_lay σ0 a1 a2 (fun (r2 : Int32) (σ3 : St) => post r2 σ3))) ∧ (¬ 0 ≤ a2 → (wX4_answer σ0 (4 : Int32) (fun (r4 : Int32) (σ5 : St) => post r4 σ5))))) ∧ (¬ a2 ≤ (10 : Int32) → (post (-1 : Int32) σ0)))))
set_option maxHeartbeats 4000000 in
set_option maxRecDepth 100000 in
theorem mtX9_sheet (l : Launch) (D : va_G) (ad : Nat → Nat) (cI cJ cZ : ClassId) (A : Nat → Prop) (hD : ∀ σ : St, va_D A (xw ad cI cJ cZ σ)) (σ0 : St) (a1 : Int32) (a2 : Int32) (post : Int32 → St → Prop) (hw : wX9_sheet σ0 a1 a2 post) : Met l yX9_sheet wsX9_sheet ({ frames := 1, cells := 0, slots := 0, locals := 23 } : Room) (va_Pc [.ref (ad 0), .int a1, .int a2] (wd_pre D (xw ad cI cJ cZ) (wd_tys cI cJ cZ) σ0)) (va_Qi post (wd_B D (xw ad cI cJ cZ)) A) 0 0 A := by
  refine Met.ofW (cc := cX9_sheet) (maxL := 3) (ret := (some .int)) (by decide) rfl ?_
  intro p e s m args below meth c s₁ B hml hv
  obtain ⟨rfl, hP, hK, hN⟩ := hv
  have hx := B.exec
  have hb := B.bytes
  have hr := B.returns
  have hts := atoms_spec (ws := wsX9_sheet) B.pre
  have hown : s.vm.findClass RX9 = some m.cls := findClass_of_methodNamed B.named
  have hlocks := B.notSynchronized
  have hS : va_S A s.heap s.heap [] := va_S.rf
  have f61 := hts (.fieldLink RX9 61 "LeastRights" "sheets" "LLeastRights$Sheets;") (by decide +kernel)
  have iX9 : ∀ w ∈ wsX90, w ∈ wsX9_sheet := by decide +kernel
  have f68 := hts (.fieldLink RX9 68 "LeastRights" "tally" "LLeastRights$Findings;") (by decide +kernel)
  have hl := lv_entry ([.ref (ad 0), .int a1, .int a2]) (n := 3) (Nat.le_of_ble_eq_true rfl)
  rw [lg_entry_eq]
  generalize (lg_sl ([.ref (ad 0), .int a1, .int a2]) ++ List.replicate (3 - (lg_sl ([.ref (ad 0), .int a1, .int a2])).length) Slot.unset).toArray = ls at hl ⊢
  have hl : lv_has ls 3 [(0, .ref (ad 0)), (1, .int a1), (2, .int a2)] := hl
  unfold wX9_sheet at hw
  refine lv_iload_n hx hb dX9_sheet_0 rfl (lv_at hl 1 rfl) ?_
  refine wd_cSi ⟨hx, hb, hml, hown, hts⟩ (mtX9_noSheet l D ad cI cJ cZ A hD σ0 a1 _ hw) (va_cwS 1 hts gX9_sheet_X9_noSheet rfl rfl rfl (by decide +kernel) ⟨(Nat.le_of_ble_eq_true rfl), (Nat.le_of_ble_eq_true rfl)⟩) hK hN hP hS rfl hl.1 rfl (Nat.le_of_ble_eq_true rfl) dX9_sheet_1 ⟨Nat.zero_le _, Nat.zero_le _⟩ (fun r1 u9 H locs hq hP hS => ?_)
  obtain ⟨hw, hu⟩ := hq
  rw [hu] at hP
  refine lv_if_ne (tgt := 13) hx hb dX9_sheet_4 (by decide) (fun c9 => ?_) (fun c9 => ?_)
  · have hw := hw.1 c9
    refine lv_iconst (v := -1) hx hb dX9_sheet_13 (by decide) ?_
    exact wd_iret hx hb hr hlocks hw hP hS dX9_sheet_14
  · have hw := hw.2 c9
    refine lv_iload_n hx hb dX9_sheet_7 rfl (lv_at hl 2 rfl) ?_
    refine lv_bipush (v := 10) hx hb dX9_sheet_8 (by decide) ?_
    refine lv_icmp_le (tgt := 15) hx hb dX9_sheet_10 (by decide) (fun c9 => ?_) (fun c9 => ?_)
    · have hw := hw.1 c9
      refine lv_iload_n hx hb dX9_sheet_15 rfl (lv_at hl 2 rfl) ?_
      refine lv_if_ge (tgt := 28) hx hb dX9_sheet_16 (by decide) (fun c9 => ?_) (fun c9 => ?_)
      · have hw := hw.1 c9
        refine lv_aload_n hx hb dX9_sheet_28 rfl (lv_at hl 0 rfl) ?_
        refine va_get hx hb hts iX9 hown hK hP 0 (xw_q0 ad cI cJ cZ σ0) rfl 7 (by decide) f61 (fun _ h9 => h9) rfl dX9_sheet_29 ?_
        refine lv_iload_n hx hb dX9_sheet_32 rfl (lv_at hl 1 rfl) ?_
        refine lv_iload_n hx hb dX9_sheet_33 rfl (lv_at hl 2 rfl) ?_
        refine wd_cVi ⟨hx, hb, hml, hown, hts⟩ (mtX7_lay l D ad cI cJ cZ A hD σ0 a1 a2 _ hw) (cwV 2 hts gX9_sheet_X7_lay rfl rfl rfl (by decide +kernel) ⟨(Nat.le_of_ble_eq_true rfl), (Nat.le_of_ble_eq_true rfl)⟩) (va_recv hK hP (ci := 7) (q0 := 8) rfl (xw_q8 ad cI cJ cZ σ0)) hK hN hP hS rfl hl.1 rfl (Nat.le_of_ble_eq_true rfl) dX9_sheet_34 ⟨Nat.zero_le _, Nat.zero_le _⟩ (fun r2 σ3 H locs hw hP hS => ?_)
        exact wd_iret hx hb hr hlocks hw hP hS dX9_sheet_37
      · have hw := hw.2 c9
        refine lv_aload_n hx hb dX9_sheet_19 rfl (lv_at hl 0 rfl) ?_
        refine va_get hx hb hts iX9 hown hK hP 0 (xw_q0 ad cI cJ cZ σ0) rfl 8 (by decide) f68 (fun _ h9 => h9) rfl dX9_sheet_20 ?_
        refine lv_iconst (v := 4) hx hb dX9_sheet_23 (by decide) ?_
        refine wd_cVi ⟨hx, hb, hml, hown, hts⟩ (mtX4_answer l D ad cI cJ cZ A hD σ0 (4 : Int32) _ hw) (cwV 1 hts gX9_sheet_X4_answer rfl rfl rfl (by decide +kernel) ⟨(Nat.le_of_ble_eq_true rfl), (Nat.le_of_ble_eq_true rfl)⟩) (va_recv hK hP (ci := 4) (q0 := 9) rfl (xw_q9 ad cI cJ cZ σ0)) hK hN hP hS rfl hl.1 rfl (Nat.le_of_ble_eq_true rfl) dX9_sheet_24 ⟨Nat.zero_le _, Nat.zero_le _⟩ (fun r4 σ5 H locs hw hP hS => ?_)
        exact wd_iret hx hb hr hlocks hw hP hS dX9_sheet_27
    · have hw := hw.2 c9
      refine lv_iconst (v := -1) hx hb dX9_sheet_13 (by decide) ?_
      exact wd_iret hx hb hr hlocks hw hP hS dX9_sheet_14
def wX9_save (σ0 : St) (a1 : Int32) (post : Int32 → St → Prop) : Prop := wX9_noSheet a1 (fun (r1 : Int32) => (r1 = 0 → (wX7_isMissing σ0 a1 (fun (r2 : Int32) => (r2 = 0 → (wX7_write σ0 a1 (σ0.1 6) (fun (r3 : Int32) (σ4 : St) => post r3 σ4))) ∧ (¬ r2 = 0 → (wX4_answer σ0 (1 : Int32) (fun (r5 : Int32) (σ6 : St) => post r5 σ6)))))) ∧ (¬ r1 = 0 → (post (-1 : Int32) σ0)))
set_option maxHeartbeats 4000000 in
set_option maxRecDepth 100000 in
theorem mtX9_save (l : Launch) (D : va_G) (ad : Nat → Nat) (cI cJ cZ : ClassId) (A : Nat → Prop) (hD : ∀ σ : St, va_D A (xw ad cI cJ cZ σ)) (σ0 : St) (a1 : Int32) (post : Int32 → St → Prop) (hw : wX9_save σ0 a1 post) : Met l yX9_save wsX9_save ({ frames := 2, cells := 0, slots := 0, locals := 46 } : Room) (va_Pc [.ref (ad 0), .int a1] (wd_pre D (xw ad cI cJ cZ) (wd_tys cI cJ cZ) σ0)) (va_Qi post (wd_B D (xw ad cI cJ cZ)) A) 0 0 A := by
  refine Met.ofW (cc := cX9_save) (maxL := 2) (ret := (some .int)) (by decide) rfl ?_
  intro p e s m args below meth c s₁ B hml hv
  obtain ⟨rfl, hP, hK, hN⟩ := hv
  have hx := B.exec
  have hb := B.bytes
  have hr := B.returns
  have hts := atoms_spec (ws := wsX9_save) B.pre
  have hown : s.vm.findClass RX9 = some m.cls := findClass_of_methodNamed B.named
  have hlocks := B.notSynchronized
  have hS : va_S A s.heap s.heap [] := va_S.rf
  have f61 := hts (.fieldLink RX9 61 "LeastRights" "sheets" "LLeastRights$Sheets;") (by decide +kernel)
  have iX9 : ∀ w ∈ wsX90, w ∈ wsX9_save := by decide +kernel
  have f19 := hts (.fieldLink RX9 19 "LeastRights" "folk" "LLeastRights$Folk;") (by decide +kernel)
  have n112 := va_Nw.use (A := ([.ref (ad 0), .int a1] : List Value).toArray) rfl (hN.1 ("LeastRights", 112, "LeastRights$Folk", "rights", "[I") (by decide +kernel))
  have iX5 : ∀ w ∈ wsX50, w ∈ wsX9_save := by decide +kernel
  have n93 := va_Nw.use (A := ([.ref (ad 0), .int a1] : List Value).toArray) rfl (hN.1 ("LeastRights", 93, "LeastRights$Folk", "size", "I") (by decide +kernel))
  have f68 := hts (.fieldLink RX9 68 "LeastRights" "tally" "LLeastRights$Findings;") (by decide +kernel)
  have hl := lv_entry ([.ref (ad 0), .int a1]) (n := 2) (Nat.le_of_ble_eq_true rfl)
  rw [lg_entry_eq]
  generalize (lg_sl ([.ref (ad 0), .int a1]) ++ List.replicate (2 - (lg_sl ([.ref (ad 0), .int a1])).length) Slot.unset).toArray = ls at hl ⊢
  have hl : lv_has ls 2 [(0, .ref (ad 0)), (1, .int a1)] := hl
  unfold wX9_save at hw
  refine lv_iload_n hx hb dX9_save_0 rfl (lv_at hl 1 rfl) ?_
  refine wd_cSi ⟨hx, hb, hml, hown, hts⟩ (mtX9_noSheet l D ad cI cJ cZ A hD σ0 a1 _ hw) (va_cwS 1 hts gX9_save_X9_noSheet rfl rfl rfl (by decide +kernel) ⟨(Nat.le_of_ble_eq_true rfl), (Nat.le_of_ble_eq_true rfl)⟩) hK hN hP hS rfl hl.1 rfl (Nat.le_of_ble_eq_true rfl) dX9_save_1 ⟨Nat.zero_le _, Nat.zero_le _⟩ (fun r1 u9 H locs hq hP hS => ?_)
  obtain ⟨hw, hu⟩ := hq
  rw [hu] at hP
  refine lv_if_eq (tgt := 9) hx hb dX9_save_4 (by decide) (fun c9 => ?_) (fun c9 => ?_)
  · have hw := hw.1 c9
    refine lv_aload_n hx hb dX9_save_9 rfl (lv_at hl 0 rfl) ?_
    refine va_get hx hb hts iX9 hown hK hP 0 (xw_q0 ad cI cJ cZ σ0) rfl 7 (by decide) f61 (fun _ h9 => h9) rfl dX9_save_10 ?_
    refine lv_iload_n hx hb dX9_save_13 rfl (lv_at hl 1 rfl) ?_
    refine wd_cVi ⟨hx, hb, hml, hown, hts⟩ (mtX7_isMissing l D ad cI cJ cZ A hD σ0 a1 _ hw) (cwV 1 hts gX9_save_X7_isMissing rfl rfl rfl (by decide +kernel) ⟨(Nat.le_of_ble_eq_true rfl), (Nat.le_of_ble_eq_true rfl)⟩) (va_recv hK hP (ci := 7) (q0 := 8) rfl (xw_q8 ad cI cJ cZ σ0)) hK hN hP hS rfl hl.1 rfl (Nat.le_of_ble_eq_true rfl) dX9_save_14 ⟨Nat.zero_le _, Nat.zero_le _⟩ (fun r2 u9 H locs hq hP hS => ?_)
    obtain ⟨hw, hu⟩ := hq
    rw [hu] at hP
    refine lv_if_eq (tgt := 29) hx hb dX9_save_17 (by decide) (fun c9 => ?_) (fun c9 => ?_)
    · have hw := hw.1 c9
      refine lv_aload_n hx hb dX9_save_29 rfl (lv_at hl 0 rfl) ?_
      refine va_get hx hb hts iX9 hown hK hP 0 (xw_q0 ad cI cJ cZ σ0) rfl 7 (by decide) f61 (fun _ h9 => h9) rfl dX9_save_30 ?_
      refine lv_iload_n hx hb dX9_save_33 rfl (lv_at hl 1 rfl) ?_
      refine lv_aload_n hx hb dX9_save_34 rfl (lv_at hl 0 rfl) ?_
      refine va_get hx hb hts iX9 hown hK hP 0 (xw_q0 ad cI cJ cZ σ0) rfl 1 (by decide) f19 (fun _ h9 => h9) rfl dX9_save_35 ?_
      refine va_getN hx hb hts iX5 hown hK hP 2 (xw_q2 ad cI cJ cZ σ0) rfl 2 (by decide) n112 (fun _ h9 => h9) rfl dX9_save_38 ?_
      refine lv_aload_n hx hb dX9_save_41 rfl (lv_at hl 0 rfl) ?_
      refine va_get hx hb hts iX9 hown hK hP 0 (xw_q0 ad cI cJ cZ σ0) rfl 1 (by decide) f19 (fun _ h9 => h9) rfl dX9_save_42 ?_
      refine va_getN hx hb hts iX5 hown hK hP 2 (xw_q2 ad cI cJ cZ σ0) rfl 0 (by decide) n93 (fun _ h9 => h9) rfl dX9_save_45 ?_
      refine wd_cVi ⟨hx, hb, hml, hown, hts⟩ (mtX7_write l D ad cI cJ cZ A hD σ0 a1 (σ0.1 6) _ hw) (cwV 3 hts gX9_save_X7_write rfl rfl rfl (by decide +kernel) ⟨(Nat.le_of_ble_eq_true rfl), (Nat.le_of_ble_eq_true rfl)⟩) (va_recv hK hP (ci := 7) (q0 := 8) rfl (xw_q8 ad cI cJ cZ σ0)) hK hN hP hS rfl hl.1 rfl (Nat.le_of_ble_eq_true rfl) dX9_save_48 ⟨Nat.zero_le _, Nat.zero_le _⟩ (fun r3 σ4 H locs hw hP hS => ?_)
      exact wd_iret hx hb hr hlocks hw hP hS dX9_save_51
    · have hw := hw.2 c9
      refine lv_aload_n hx hb dX9_save_20 rfl (lv_at hl 0 rfl) ?_
      refine va_get hx hb hts iX9 hown hK hP 0 (xw_q0 ad cI cJ cZ σ0) rfl 8 (by decide) f68 (fun _ h9 => h9) rfl dX9_save_21 ?_
      refine lv_iconst (v := 1) hx hb dX9_save_24 (by decide) ?_
      refine wd_cVi ⟨hx, hb, hml, hown, hts⟩ (mtX4_answer l D ad cI cJ cZ A hD σ0 (1 : Int32) _ hw) (cwV 1 hts gX9_save_X4_answer rfl rfl rfl (by decide +kernel) ⟨(Nat.le_of_ble_eq_true rfl), (Nat.le_of_ble_eq_true rfl)⟩) (va_recv hK hP (ci := 4) (q0 := 9) rfl (xw_q9 ad cI cJ cZ σ0)) hK hN hP hS rfl hl.1 rfl (Nat.le_of_ble_eq_true rfl) dX9_save_25 ⟨Nat.zero_le _, Nat.zero_le _⟩ (fun r5 σ6 H locs hw hP hS => ?_)
      exact wd_iret hx hb hr hlocks hw hP hS dX9_save_28
  · have hw := hw.2 c9
    refine lv_iconst (v := -1) hx hb dX9_save_7 (by decide) ?_
    exact wd_iret hx hb hr hlocks hw hP hS dX9_save_8
def wX9_load (σ0 : St) (a1 : Int32) (a2 : Int32) (a3 : Int32) (post : Int32 → St → Prop) : Prop := wX9_noSheet a1 (fun (r1 : Int32) => (¬ r1 = 0 → (post (-1 : Int32) σ0)) ∧ (r1 = 0 → (wX9_noPerson σ0 a3 (fun (r2 : Int32) => (r2 = 0 → (wX7_isMissing σ0 a1 (fun (r3 : Int32) => (r3 = 0 → ((a2 < 0 → (wX4_answer σ0 (2 : Int32) (fun (r4 : Int32) (σ5 : St) => post r4 σ5))) ∧ (¬ a2 < 0 → (vp_in a1 4 ∧ ((a2 < (σ0.2.1 19 a1.toNatClampNeg) → (wX7_at σ0 a1 a2 (fun (r6 : Int32) => wX5_give σ0 a3 r6 (fun (r7 : Int32) (σ8 : St) => post (1 : Int32) σ8)))) ∧ (¬ a2 < (σ0.2.1 19 a1.toNatClampNeg) → (wX4_answer σ0 (2 : Int32) (fun (r9 : Int32) (σ10 : St) => post r9 σ10)))))))) ∧ (¬ r3 = 0 → (wX4_answer σ0 (1 : Int32) (fun (r11 : Int32) (σ12 : St) => post r11 σ12)))))) ∧ (¬ r2 = 0 → (post (-1 : Int32) σ0))))))
set_option maxHeartbeats 4000000 in
set_option maxRecDepth 100000 in
theorem mtX9_load (l : Launch) (D : va_G) (ad : Nat → Nat) (cI cJ cZ : ClassId) (A : Nat → Prop) (hD : ∀ σ : St, va_D A (xw ad cI cJ cZ σ)) (σ0 : St) (a1 : Int32) (a2 : Int32) (a3 : Int32) (post : Int32 → St → Prop) (hw : wX9_load σ0 a1 a2 a3 post) : Met l yX9_load wsX9_load ({ frames := 1, cells := 0, slots := 0, locals := 23 } : Room) (va_Pc [.ref (ad 0), .int a1, .int a2, .int a3] (wd_pre D (xw ad cI cJ cZ) (wd_tys cI cJ cZ) σ0)) (va_Qi post (wd_B D (xw ad cI cJ cZ)) A) 0 0 A := by
  refine Met.ofW (cc := cX9_load) (maxL := 4) (ret := (some .int)) (by decide) rfl ?_
  intro p e s m args below meth c s₁ B hml hv
  obtain ⟨rfl, hP, hK, hN⟩ := hv
  have hx := B.exec
  have hb := B.bytes
  have hr := B.returns
  have hts := atoms_spec (ws := wsX9_load) B.pre
  have hown : s.vm.findClass RX9 = some m.cls := findClass_of_methodNamed B.named
  have hlocks := B.notSynchronized
  have hS : va_S A s.heap s.heap [] := va_S.rf
  have f61 := hts (.fieldLink RX9 61 "LeastRights" "sheets" "LLeastRights$Sheets;") (by decide +kernel)
  have iX9 : ∀ w ∈ wsX90, w ∈ wsX9_load := by decide +kernel
  have f68 := hts (.fieldLink RX9 68 "LeastRights" "tally" "LLeastRights$Findings;") (by decide +kernel)
  have n250 := va_Nw.use (A := ([.ref (ad 0), .int a1, .int a2, .int a3] : List Value).toArray) rfl (hN.1 ("LeastRights", 250, "LeastRights$Sheets", "sizes", "[I") (by decide +kernel))
  have iX7 : ∀ w ∈ wsX70, w ∈ wsX9_load := by decide +kernel
  have f19 := hts (.fieldLink RX9 19 "LeastRights" "folk" "LLeastRights$Folk;") (by decide +kernel)
  have hl := lv_entry ([.ref (ad 0), .int a1, .int a2, .int a3]) (n := 4) (Nat.le_of_ble_eq_true rfl)
  rw [lg_entry_eq]
  generalize (lg_sl ([.ref (ad 0), .int a1, .int a2, .int a3]) ++ List.replicate (4 - (lg_sl ([.ref (ad 0), .int a1, .int a2, .int a3])).length) Slot.unset).toArray = ls at hl ⊢
  have hl : lv_has ls 4 [(0, .ref (ad 0)), (1, .int a1), (2, .int a2), (3, .int a3)] := hl
  unfold wX9_load at hw
  refine lv_iload_n hx hb dX9_load_0 rfl (lv_at hl 1 rfl) ?_
  refine wd_cSi ⟨hx, hb, hml, hown, hts⟩ (mtX9_noSheet l D ad cI cJ cZ A hD σ0 a1 _ hw) (va_cwS 1 hts gX9_load_X9_noSheet rfl rfl rfl (by decide +kernel) ⟨(Nat.le_of_ble_eq_true rfl), (Nat.le_of_ble_eq_true rfl)⟩) hK hN hP hS rfl hl.1 rfl (Nat.le_of_ble_eq_true rfl) dX9_load_1 ⟨Nat.zero_le _, Nat.zero_le _⟩ (fun r1 u9 H locs hq hP hS => ?_)
  obtain ⟨hw, hu⟩ := hq
  rw [hu] at hP
  refine lv_if_ne (tgt := 15) hx hb dX9_load_4 (by decide) (fun c9 => ?_) (fun c9 => ?_)
  · have hw := hw.1 c9
    refine lv_iconst (v := -1) hx hb dX9_load_15 (by decide) ?_
    exact wd_iret hx hb hr hlocks hw hP hS dX9_load_16
  · have hw := hw.2 c9
    refine lv_aload_n hx hb dX9_load_7 rfl (lv_at hl 0 rfl) ?_
    refine lv_iload_n hx hb dX9_load_8 rfl (lv_at hl 3 rfl) ?_
    refine wd_cVi ⟨hx, hb, hml, hown, hts⟩ (mtX9_noPerson l D ad cI cJ cZ A hD σ0 a3 _ hw) (cwV 1 hts gX9_load_X9_noPerson rfl rfl rfl (by decide +kernel) ⟨(Nat.le_of_ble_eq_true rfl), (Nat.le_of_ble_eq_true rfl)⟩) (va_recv hK hP (ci := 9) (q0 := 0) rfl (xw_q0 ad cI cJ cZ σ0)) hK hN hP hS rfl hl.1 rfl (Nat.le_of_ble_eq_true rfl) dX9_load_9 ⟨Nat.zero_le _, Nat.zero_le _⟩ (fun r2 u9 H locs hq hP hS => ?_)
    obtain ⟨hw, hu⟩ := hq
    rw [hu] at hP
    refine lv_if_eq (tgt := 17) hx hb dX9_load_12 (by decide) (fun c9 => ?_) (fun c9 => ?_)
    · have hw := hw.1 c9
      refine lv_aload_n hx hb dX9_load_17 rfl (lv_at hl 0 rfl) ?_
      refine va_get hx hb hts iX9 hown hK hP 0 (xw_q0 ad cI cJ cZ σ0) rfl 7 (by decide) f61 (fun _ h9 => h9) rfl dX9_load_18 ?_
      refine lv_iload_n hx hb dX9_load_21 rfl (lv_at hl 1 rfl) ?_
      refine wd_cVi ⟨hx, hb, hml, hown, hts⟩ (mtX7_isMissing l D ad cI cJ cZ A hD σ0 a1 _ hw) (cwV 1 hts gX9_load_X7_isMissing rfl rfl rfl (by decide +kernel) ⟨(Nat.le_of_ble_eq_true rfl), (Nat.le_of_ble_eq_true rfl)⟩) (va_recv hK hP (ci := 7) (q0 := 8) rfl (xw_q8 ad cI cJ cZ σ0)) hK hN hP hS rfl hl.1 rfl (Nat.le_of_ble_eq_true rfl) dX9_load_22 ⟨Nat.zero_le _, Nat.zero_le _⟩ (fun r3 u9 H locs hq hP hS => ?_)
      obtain ⟨hw, hu⟩ := hq
      rw [hu] at hP
      refine lv_if_eq (tgt := 37) hx hb dX9_load_25 (by decide) (fun c9 => ?_) (fun c9 => ?_)
      · have hw := hw.1 c9
        refine lv_iload_n hx hb dX9_load_37 rfl (lv_at hl 2 rfl) ?_
        refine lv_if_lt (tgt := 54) hx hb dX9_load_38 (by decide) (fun c9 => ?_) (fun c9 => ?_)
        · have hw := hw.1 c9
          refine lv_aload_n hx hb dX9_load_54 rfl (lv_at hl 0 rfl) ?_
          refine va_get hx hb hts iX9 hown hK hP 0 (xw_q0 ad cI cJ cZ σ0) rfl 8 (by decide) f68 (fun _ h9 => h9) rfl dX9_load_55 ?_
          refine lv_iconst (v := 2) hx hb dX9_load_58 (by decide) ?_
          refine wd_cVi ⟨hx, hb, hml, hown, hts⟩ (mtX4_answer l D ad cI cJ cZ A hD σ0 (2 : Int32) _ hw) (cwV 1 hts gX9_load_X4_answer rfl rfl rfl (by decide +kernel) ⟨(Nat.le_of_ble_eq_true rfl), (Nat.le_of_ble_eq_true rfl)⟩) (va_recv hK hP (ci := 4) (q0 := 9) rfl (xw_q9 ad cI cJ cZ σ0)) hK hN hP hS rfl hl.1 rfl (Nat.le_of_ble_eq_true rfl) dX9_load_59 ⟨Nat.zero_le _, Nat.zero_le _⟩ (fun r4 σ5 H locs hw hP hS => ?_)
          exact wd_iret hx hb hr hlocks hw hP hS dX9_load_62
        · have hw := hw.2 c9
          refine lv_iload_n hx hb dX9_load_41 rfl (lv_at hl 2 rfl) ?_
          refine lv_aload_n hx hb dX9_load_42 rfl (lv_at hl 0 rfl) ?_
          refine va_get hx hb hts iX9 hown hK hP 0 (xw_q0 ad cI cJ cZ σ0) rfl 7 (by decide) f61 (fun _ h9 => h9) rfl dX9_load_43 ?_
          refine va_getN hx hb hts iX7 hown hK hP 8 (xw_q8 ad cI cJ cZ σ0) rfl 0 (by decide) n250 (fun _ h9 => h9) rfl dX9_load_46 ?_
          refine lv_iload_n hx hb dX9_load_49 rfl (lv_at hl 1 rfl) ?_
          obtain ⟨h9, hw⟩ := hw
          refine va_iald hx hb hK hP 29 0 (xw_q29 ad cI cJ cZ σ0) rfl h9 dX9_load_50 ?_
          refine lv_icmp_lt (tgt := 63) hx hb dX9_load_51 (by decide) (fun c9 => ?_) (fun c9 => ?_)
          · have hw := hw.1 c9
            refine lv_aload_n hx hb dX9_load_63 rfl (lv_at hl 0 rfl) ?_
            refine va_get hx hb hts iX9 hown hK hP 0 (xw_q0 ad cI cJ cZ σ0) rfl 1 (by decide) f19 (fun _ h9 => h9) rfl dX9_load_64 ?_
            refine lv_iload_n hx hb dX9_load_67 rfl (lv_at hl 3 rfl) ?_
            refine lv_aload_n hx hb dX9_load_68 rfl (lv_at hl 0 rfl) ?_
            refine va_get hx hb hts iX9 hown hK hP 0 (xw_q0 ad cI cJ cZ σ0) rfl 7 (by decide) f61 (fun _ h9 => h9) rfl dX9_load_69 ?_
            refine lv_iload_n hx hb dX9_load_72 rfl (lv_at hl 1 rfl) ?_
            refine lv_iload_n hx hb dX9_load_73 rfl (lv_at hl 2 rfl) ?_
            refine wd_cVi ⟨hx, hb, hml, hown, hts⟩ (mtX7_at l D ad cI cJ cZ A hD σ0 a1 a2 _ hw) (cwV 2 hts gX9_load_X7_at rfl rfl rfl (by decide +kernel) ⟨(Nat.le_of_ble_eq_true rfl), (Nat.le_of_ble_eq_true rfl)⟩) (va_recv hK hP (ci := 7) (q0 := 8) rfl (xw_q8 ad cI cJ cZ σ0)) hK hN hP hS rfl hl.1 rfl (Nat.le_of_ble_eq_true rfl) dX9_load_74 ⟨Nat.zero_le _, Nat.zero_le _⟩ (fun r6 u9 H locs hq hP hS => ?_)
            obtain ⟨hw, hu⟩ := hq
            rw [hu] at hP
            refine wd_cVi ⟨hx, hb, hml, hown, hts⟩ (mtX5_give l D ad cI cJ cZ A hD σ0 a3 r6 _ hw) (cwV 2 hts gX9_load_X5_give rfl rfl rfl (by decide +kernel) ⟨(Nat.le_of_ble_eq_true rfl), (Nat.le_of_ble_eq_true rfl)⟩) (va_recv hK hP (ci := 5) (q0 := 2) rfl (xw_q2 ad cI cJ cZ σ0)) hK hN hP hS rfl hl.1 rfl (Nat.le_of_ble_eq_true rfl) dX9_load_77 ⟨Nat.zero_le _, Nat.zero_le _⟩ (fun r7 σ8 H locs hw hP hS => ?_)
            refine lv_pop hx hb dX9_load_80 rfl ?_
            refine lv_iconst (v := 1) hx hb dX9_load_81 (by decide) ?_
            exact wd_iret hx hb hr hlocks hw hP hS dX9_load_82
          · have hw := hw.2 c9
            refine lv_aload_n hx hb dX9_load_54 rfl (lv_at hl 0 rfl) ?_
            refine va_get hx hb hts iX9 hown hK hP 0 (xw_q0 ad cI cJ cZ σ0) rfl 8 (by decide) f68 (fun _ h9 => h9) rfl dX9_load_55 ?_
            refine lv_iconst (v := 2) hx hb dX9_load_58 (by decide) ?_
            refine wd_cVi ⟨hx, hb, hml, hown, hts⟩ (mtX4_answer l D ad cI cJ cZ A hD σ0 (2 : Int32) _ hw) (cwV 1 hts gX9_load_X4_answer rfl rfl rfl (by decide +kernel) ⟨(Nat.le_of_ble_eq_true rfl), (Nat.le_of_ble_eq_true rfl)⟩) (va_recv hK hP (ci := 4) (q0 := 9) rfl (xw_q9 ad cI cJ cZ σ0)) hK hN hP hS rfl hl.1 rfl (Nat.le_of_ble_eq_true rfl) dX9_load_59 ⟨Nat.zero_le _, Nat.zero_le _⟩ (fun r9 σ10 H locs hw hP hS => ?_)
            exact wd_iret hx hb hr hlocks hw hP hS dX9_load_62
      · have hw := hw.2 c9
        refine lv_aload_n hx hb dX9_load_28 rfl (lv_at hl 0 rfl) ?_
        refine va_get hx hb hts iX9 hown hK hP 0 (xw_q0 ad cI cJ cZ σ0) rfl 8 (by decide) f68 (fun _ h9 => h9) rfl dX9_load_29 ?_
        refine lv_iconst (v := 1) hx hb dX9_load_32 (by decide) ?_
        refine wd_cVi ⟨hx, hb, hml, hown, hts⟩ (mtX4_answer l D ad cI cJ cZ A hD σ0 (1 : Int32) _ hw) (cwV 1 hts gX9_load_X4_answer rfl rfl rfl (by decide +kernel) ⟨(Nat.le_of_ble_eq_true rfl), (Nat.le_of_ble_eq_true rfl)⟩) (va_recv hK hP (ci := 4) (q0 := 9) rfl (xw_q9 ad cI cJ cZ σ0)) hK hN hP hS rfl hl.1 rfl (Nat.le_of_ble_eq_true rfl) dX9_load_33 ⟨Nat.zero_le _, Nat.zero_le _⟩ (fun r11 σ12 H locs hw hP hS => ?_)
        exact wd_iret hx hb hr hlocks hw hP hS dX9_load_36
    · have hw := hw.2 c9
      refine lv_iconst (v := -1) hx hb dX9_load_15 (by decide) ?_
      exact wd_iret hx hb hr hlocks hw hP hS dX9_load_16
def wX9_tear (σ0 : St) (a1 : Int32) (post : Int32 → St → Prop) : Prop := wX9_noSheet a1 (fun (r1 : Int32) => (r1 = 0 → (wX7_isMissing σ0 a1 (fun (r2 : Int32) => (r2 = 0 → (vp_in a1 4 ∧ (∀ σ3 : St, σ3 = st_A σ0 19 a1.toNatClampNeg (-1 : Int32) → (post (1 : Int32) σ3)))) ∧ (¬ r2 = 0 → (wX4_answer σ0 (1 : Int32) (fun (r4 : Int32) (σ5 : St) => post r4 σ5)))))) ∧ (¬ r1 = 0 → (post (-1 : Int32) σ0)))
set_option maxHeartbeats 4000000 in
set_option maxRecDepth 100000 in
theorem mtX9_tear (l : Launch) (D : va_G) (ad : Nat → Nat) (cI cJ cZ : ClassId) (A : Nat → Prop) (hD : ∀ σ : St, va_D A (xw ad cI cJ cZ σ)) (σ0 : St) (a1 : Int32) (post : Int32 → St → Prop) (hw : wX9_tear σ0 a1 post) : Met l yX9_tear wsX9_tear ({ frames := 1, cells := 0, slots := 0, locals := 21 } : Room) (va_Pc [.ref (ad 0), .int a1] (wd_pre D (xw ad cI cJ cZ) (wd_tys cI cJ cZ) σ0)) (va_Qi post (wd_B D (xw ad cI cJ cZ)) A) 0 0 A := by
  refine Met.ofW (cc := cX9_tear) (maxL := 2) (ret := (some .int)) (by decide) rfl ?_
  intro p e s m args below meth c s₁ B hml hv
  obtain ⟨rfl, hP, hK, hN⟩ := hv
  have hx := B.exec
  have hb := B.bytes
  have hr := B.returns
  have hts := atoms_spec (ws := wsX9_tear) B.pre
  have hown : s.vm.findClass RX9 = some m.cls := findClass_of_methodNamed B.named
  have hlocks := B.notSynchronized
  have hS : va_S A s.heap s.heap [] := va_S.rf
  have f61 := hts (.fieldLink RX9 61 "LeastRights" "sheets" "LLeastRights$Sheets;") (by decide +kernel)
  have iX9 : ∀ w ∈ wsX90, w ∈ wsX9_tear := by decide +kernel
  have n250 := va_Nw.use (A := ([.ref (ad 0), .int a1] : List Value).toArray) rfl (hN.1 ("LeastRights", 250, "LeastRights$Sheets", "sizes", "[I") (by decide +kernel))
  have iX7 : ∀ w ∈ wsX70, w ∈ wsX9_tear := by decide +kernel
  have f68 := hts (.fieldLink RX9 68 "LeastRights" "tally" "LLeastRights$Findings;") (by decide +kernel)
  have hl := lv_entry ([.ref (ad 0), .int a1]) (n := 2) (Nat.le_of_ble_eq_true rfl)
  rw [lg_entry_eq]
  generalize (lg_sl ([.ref (ad 0), .int a1]) ++ List.replicate (2 - (lg_sl ([.ref (ad 0), .int a1])).length) Slot.unset).toArray = ls at hl ⊢
  have hl : lv_has ls 2 [(0, .ref (ad 0)), (1, .int a1)] := hl
  unfold wX9_tear at hw
  refine lv_iload_n hx hb dX9_tear_0 rfl (lv_at hl 1 rfl) ?_
  refine wd_cSi ⟨hx, hb, hml, hown, hts⟩ (mtX9_noSheet l D ad cI cJ cZ A hD σ0 a1 _ hw) (va_cwS 1 hts gX9_tear_X9_noSheet rfl rfl rfl (by decide +kernel) ⟨(Nat.le_of_ble_eq_true rfl), (Nat.le_of_ble_eq_true rfl)⟩) hK hN hP hS rfl hl.1 rfl (Nat.le_of_ble_eq_true rfl) dX9_tear_1 ⟨Nat.zero_le _, Nat.zero_le _⟩ (fun r1 u9 H locs hq hP hS => ?_)
  obtain ⟨hw, hu⟩ := hq
  rw [hu] at hP
  refine lv_if_eq (tgt := 9) hx hb dX9_tear_4 (by decide) (fun c9 => ?_) (fun c9 => ?_)
  · have hw := hw.1 c9
    refine lv_aload_n hx hb dX9_tear_9 rfl (lv_at hl 0 rfl) ?_
    refine va_get hx hb hts iX9 hown hK hP 0 (xw_q0 ad cI cJ cZ σ0) rfl 7 (by decide) f61 (fun _ h9 => h9) rfl dX9_tear_10 ?_
    refine lv_iload_n hx hb dX9_tear_13 rfl (lv_at hl 1 rfl) ?_
    refine wd_cVi ⟨hx, hb, hml, hown, hts⟩ (mtX7_isMissing l D ad cI cJ cZ A hD σ0 a1 _ hw) (cwV 1 hts gX9_tear_X7_isMissing rfl rfl rfl (by decide +kernel) ⟨(Nat.le_of_ble_eq_true rfl), (Nat.le_of_ble_eq_true rfl)⟩) (va_recv hK hP (ci := 7) (q0 := 8) rfl (xw_q8 ad cI cJ cZ σ0)) hK hN hP hS rfl hl.1 rfl (Nat.le_of_ble_eq_true rfl) dX9_tear_14 ⟨Nat.zero_le _, Nat.zero_le _⟩ (fun r2 u9 H locs hq hP hS => ?_)
    obtain ⟨hw, hu⟩ := hq
    rw [hu] at hP
    refine lv_if_eq (tgt := 29) hx hb dX9_tear_17 (by decide) (fun c9 => ?_) (fun c9 => ?_)
    · have hw := hw.1 c9
      refine lv_aload_n hx hb dX9_tear_29 rfl (lv_at hl 0 rfl) ?_
      refine va_get hx hb hts iX9 hown hK hP 0 (xw_q0 ad cI cJ cZ σ0) rfl 7 (by decide) f61 (fun _ h9 => h9) rfl dX9_tear_30 ?_
      refine va_getN hx hb hts iX7 hown hK hP 8 (xw_q8 ad cI cJ cZ σ0) rfl 0 (by decide) n250 (fun _ h9 => h9) rfl dX9_tear_33 ?_
      refine lv_iload_n hx hb dX9_tear_36 rfl (lv_at hl 1 rfl) ?_
      refine lv_iconst (v := -1) hx hb dX9_tear_37 (by decide) ?_
      obtain ⟨h9, hw⟩ := hw
      refine wd_iast 19 29 hx hb hK hP hD hS (xw_q29 ad cI cJ cZ σ0) rfl (xw_a19 ad cI cJ cZ σ0) h9 dX9_tear_38 (fun H locs σ3 eσ3 hP hS => ?_)
      have hw := hw σ3 eσ3
      refine lv_iconst (v := 1) hx hb dX9_tear_39 (by decide) ?_
      exact wd_iret hx hb hr hlocks hw hP hS dX9_tear_40
    · have hw := hw.2 c9
      refine lv_aload_n hx hb dX9_tear_20 rfl (lv_at hl 0 rfl) ?_
      refine va_get hx hb hts iX9 hown hK hP 0 (xw_q0 ad cI cJ cZ σ0) rfl 8 (by decide) f68 (fun _ h9 => h9) rfl dX9_tear_21 ?_
      refine lv_iconst (v := 1) hx hb dX9_tear_24 (by decide) ?_
      refine wd_cVi ⟨hx, hb, hml, hown, hts⟩ (mtX4_answer l D ad cI cJ cZ A hD σ0 (1 : Int32) _ hw) (cwV 1 hts gX9_tear_X4_answer rfl rfl rfl (by decide +kernel) ⟨(Nat.le_of_ble_eq_true rfl), (Nat.le_of_ble_eq_true rfl)⟩) (va_recv hK hP (ci := 4) (q0 := 9) rfl (xw_q9 ad cI cJ cZ σ0)) hK hN hP hS rfl hl.1 rfl (Nat.le_of_ble_eq_true rfl) dX9_tear_25 ⟨Nat.zero_le _, Nat.zero_le _⟩ (fun r4 σ5 H locs hw hP hS => ?_)
      exact wd_iret hx hb hr hlocks hw hP hS dX9_tear_28
  · have hw := hw.2 c9
    refine lv_iconst (v := -1) hx hb dX9_tear_7 (by decide) ?_
    exact wd_iret hx hb hr hlocks hw hP hS dX9_tear_8
def wX9_copy (σ0 : St) (a1 : Int32) (a2 : Int32) (a3 : Int32) (a4 : Int32) (a5 : Int32) (post : Int32 → St → Prop) : Prop := wX9_noSheet a1 (fun (r1 : Int32) => (¬ r1 = 0 → (post (-1 : Int32) σ0)) ∧ (r1 = 0 → (wX9_noSheet a3 (fun (r2 : Int32) => (r2 = 0 → ((0 ≤ a5 → (wX7_isMissing σ0 a1 (fun (r3 : Int32) => (¬ r3 = 0 → (wX4_answer σ0 (1 : Int32) (fun (r4 : Int32) (σ5 : St) => post r4 σ5))) ∧ (r3 = 0 → (wX7_isMissing σ0 a3 (fun (r6 : Int32) => (r6 = 0 → (wX7_spans σ0 a1 a2 a5 (fun (r7 : Int32) => (r7 = 0 → (wX4_answer σ0 (2 : Int32) (fun (r8 : Int32) (σ9 : St) => post r8 σ9))) ∧ (¬ r7 = 0 → (wX7_spans σ0 a3 a4 a5 (fun (r10 : Int32) => (¬ r10 = 0 → (wX7_move σ0 a1 a2 a3 a4 a5 (fun (σ11 : St) => post (1 : Int32) σ11))) ∧ (r10 = 0 → (wX4_answer σ0 (2 : Int32) (fun (r12 : Int32) (σ13 : St) => post r12 σ13))))))))) ∧ (¬ r6 = 0 → (wX4_answer σ0 (1 : Int32) (fun (r14 : Int32) (σ15 : St) => post r14 σ15))))))))) ∧ (¬ 0 ≤ a5 → (wX4_answer σ0 (4 : Int32) (fun (r16 : Int32) (σ17 : St) => post r16 σ17))))) ∧ (¬ r2 = 0 → (post (-1 : Int32) σ0))))))
set_option maxHeartbeats 4000000 in
set_option maxRecDepth 100000 in
theorem mtX9_copy (l : Launch) (D : va_G) (ad : Nat → Nat) (cI cJ cZ : ClassId) (A : Nat → Prop) (hD : ∀ σ : St, va_D A (xw ad cI cJ cZ σ)) (σ0 : St) (a1 : Int32) (a2 : Int32) (a3 : Int32) (a4 : Int32) (a5 : Int32) (post : Int32 → St → Prop) (hw : wX9_copy σ0 a1 a2 a3 a4 a5 post) : Met l yX9_copy wsX9_copy ({ frames := 2, cells := 0, slots := 0, locals := 65 } : Room) (va_Pc [.ref (ad 0), .int a1, .int a2, .int a3, .int a4, .int a5] (wd_pre D (xw ad cI cJ cZ) (wd_tys cI cJ cZ) σ0)) (va_Qi post (wd_B D (xw ad cI cJ cZ)) A) 0 0 A := by
  refine Met.ofW (cc := cX9_copy) (maxL := 6) (ret := (some .int)) (by decide) rfl ?_
  intro p e s m args below meth c s₁ B hml hv
  obtain ⟨rfl, hP, hK, hN⟩ := hv
  have hx := B.exec
  have hb := B.bytes
  have hr := B.returns
  have hts := atoms_spec (ws := wsX9_copy) B.pre
  have hown : s.vm.findClass RX9 = some m.cls := findClass_of_methodNamed B.named
  have hlocks := B.notSynchronized
  have hS : va_S A s.heap s.heap [] := va_S.rf
  have f61 := hts (.fieldLink RX9 61 "LeastRights" "sheets" "LLeastRights$Sheets;") (by decide +kernel)
  have iX9 : ∀ w ∈ wsX90, w ∈ wsX9_copy := by decide +kernel
  have f68 := hts (.fieldLink RX9 68 "LeastRights" "tally" "LLeastRights$Findings;") (by decide +kernel)
  have hl := lv_entry ([.ref (ad 0), .int a1, .int a2, .int a3, .int a4, .int a5]) (n := 6) (Nat.le_of_ble_eq_true rfl)
  rw [lg_entry_eq]
  generalize (lg_sl ([.ref (ad 0), .int a1, .int a2, .int a3, .int a4, .int a5]) ++ List.replicate (6 - (lg_sl ([.ref (ad 0), .int a1, .int a2, .int a3, .int a4, .int a5])).length) Slot.unset).toArray = ls at hl ⊢
  have hl : lv_has ls 6 [(0, .ref (ad 0)), (1, .int a1), (2, .int a2), (3, .int a3), (4, .int a4), (5, .int a5)] := hl
  unfold wX9_copy at hw
  refine lv_iload_n hx hb dX9_copy_0 rfl (lv_at hl 1 rfl) ?_
  refine wd_cSi ⟨hx, hb, hml, hown, hts⟩ (mtX9_noSheet l D ad cI cJ cZ A hD σ0 a1 _ hw) (va_cwS 1 hts gX9_copy_X9_noSheet rfl rfl rfl (by decide +kernel) ⟨(Nat.le_of_ble_eq_true rfl), (Nat.le_of_ble_eq_true rfl)⟩) hK hN hP hS rfl hl.1 rfl (Nat.le_of_ble_eq_true rfl) dX9_copy_1 ⟨Nat.zero_le _, Nat.zero_le _⟩ (fun r1 u9 H locs hq hP hS => ?_)
  obtain ⟨hw, hu⟩ := hq
  rw [hu] at hP
  refine lv_if_ne (tgt := 14) hx hb dX9_copy_4 (by decide) (fun c9 => ?_) (fun c9 => ?_)
  · have hw := hw.1 c9
    refine lv_iconst (v := -1) hx hb dX9_copy_14 (by decide) ?_
    exact wd_iret hx hb hr hlocks hw hP hS dX9_copy_15
  · have hw := hw.2 c9
    refine lv_iload_n hx hb dX9_copy_7 rfl (lv_at hl 3 rfl) ?_
    refine wd_cSi ⟨hx, hb, hml, hown, hts⟩ (mtX9_noSheet l D ad cI cJ cZ A hD σ0 a3 _ hw) (va_cwS 1 hts gX9_copy_X9_noSheet rfl rfl rfl (by decide +kernel) ⟨(Nat.le_of_ble_eq_true rfl), (Nat.le_of_ble_eq_true rfl)⟩) hK hN hP hS rfl hl.1 rfl (Nat.le_of_ble_eq_true rfl) dX9_copy_8 ⟨Nat.zero_le _, Nat.zero_le _⟩ (fun r2 u9 H locs hq hP hS => ?_)
    obtain ⟨hw, hu⟩ := hq
    rw [hu] at hP
    refine lv_if_eq (tgt := 16) hx hb dX9_copy_11 (by decide) (fun c9 => ?_) (fun c9 => ?_)
    · have hw := hw.1 c9
      refine lv_iload hx hb dX9_copy_16 (lv_at hl 5 rfl) ?_
      refine lv_if_ge (tgt := 30) hx hb dX9_copy_18 (by decide) (fun c9 => ?_) (fun c9 => ?_)
      · have hw := hw.1 c9
        refine lv_aload_n hx hb dX9_copy_30 rfl (lv_at hl 0 rfl) ?_
        refine va_get hx hb hts iX9 hown hK hP 0 (xw_q0 ad cI cJ cZ σ0) rfl 7 (by decide) f61 (fun _ h9 => h9) rfl dX9_copy_31 ?_
        refine lv_iload_n hx hb dX9_copy_34 rfl (lv_at hl 1 rfl) ?_
        refine wd_cVi ⟨hx, hb, hml, hown, hts⟩ (mtX7_isMissing l D ad cI cJ cZ A hD σ0 a1 _ hw) (cwV 1 hts gX9_copy_X7_isMissing rfl rfl rfl (by decide +kernel) ⟨(Nat.le_of_ble_eq_true rfl), (Nat.le_of_ble_eq_true rfl)⟩) (va_recv hK hP (ci := 7) (q0 := 8) rfl (xw_q8 ad cI cJ cZ σ0)) hK hN hP hS rfl hl.1 rfl (Nat.le_of_ble_eq_true rfl) dX9_copy_35 ⟨Nat.zero_le _, Nat.zero_le _⟩ (fun r3 u9 H locs hq hP hS => ?_)
        obtain ⟨hw, hu⟩ := hq
        rw [hu] at hP
        refine lv_if_ne (tgt := 52) hx hb dX9_copy_38 (by decide) (fun c9 => ?_) (fun c9 => ?_)
        · have hw := hw.1 c9
          refine lv_aload_n hx hb dX9_copy_52 rfl (lv_at hl 0 rfl) ?_
          refine va_get hx hb hts iX9 hown hK hP 0 (xw_q0 ad cI cJ cZ σ0) rfl 8 (by decide) f68 (fun _ h9 => h9) rfl dX9_copy_53 ?_
          refine lv_iconst (v := 1) hx hb dX9_copy_56 (by decide) ?_
          refine wd_cVi ⟨hx, hb, hml, hown, hts⟩ (mtX4_answer l D ad cI cJ cZ A hD σ0 (1 : Int32) _ hw) (cwV 1 hts gX9_copy_X4_answer rfl rfl rfl (by decide +kernel) ⟨(Nat.le_of_ble_eq_true rfl), (Nat.le_of_ble_eq_true rfl)⟩) (va_recv hK hP (ci := 4) (q0 := 9) rfl (xw_q9 ad cI cJ cZ σ0)) hK hN hP hS rfl hl.1 rfl (Nat.le_of_ble_eq_true rfl) dX9_copy_57 ⟨Nat.zero_le _, Nat.zero_le _⟩ (fun r4 σ5 H locs hw hP hS => ?_)
          exact wd_iret hx hb hr hlocks hw hP hS dX9_copy_60
        · have hw := hw.2 c9
          refine lv_aload_n hx hb dX9_copy_41 rfl (lv_at hl 0 rfl) ?_
          refine va_get hx hb hts iX9 hown hK hP 0 (xw_q0 ad cI cJ cZ σ0) rfl 7 (by decide) f61 (fun _ h9 => h9) rfl dX9_copy_42 ?_
          refine lv_iload_n hx hb dX9_copy_45 rfl (lv_at hl 3 rfl) ?_
          refine wd_cVi ⟨hx, hb, hml, hown, hts⟩ (mtX7_isMissing l D ad cI cJ cZ A hD σ0 a3 _ hw) (cwV 1 hts gX9_copy_X7_isMissing rfl rfl rfl (by decide +kernel) ⟨(Nat.le_of_ble_eq_true rfl), (Nat.le_of_ble_eq_true rfl)⟩) (va_recv hK hP (ci := 7) (q0 := 8) rfl (xw_q8 ad cI cJ cZ σ0)) hK hN hP hS rfl hl.1 rfl (Nat.le_of_ble_eq_true rfl) dX9_copy_46 ⟨Nat.zero_le _, Nat.zero_le _⟩ (fun r6 u9 H locs hq hP hS => ?_)
          obtain ⟨hw, hu⟩ := hq
          rw [hu] at hP
          refine lv_if_eq (tgt := 61) hx hb dX9_copy_49 (by decide) (fun c9 => ?_) (fun c9 => ?_)
          · have hw := hw.1 c9
            refine lv_aload_n hx hb dX9_copy_61 rfl (lv_at hl 0 rfl) ?_
            refine va_get hx hb hts iX9 hown hK hP 0 (xw_q0 ad cI cJ cZ σ0) rfl 7 (by decide) f61 (fun _ h9 => h9) rfl dX9_copy_62 ?_
            refine lv_iload_n hx hb dX9_copy_65 rfl (lv_at hl 1 rfl) ?_
            refine lv_iload_n hx hb dX9_copy_66 rfl (lv_at hl 2 rfl) ?_
            refine lv_iload hx hb dX9_copy_67 (lv_at hl 5 rfl) ?_
            refine wd_cVi ⟨hx, hb, hml, hown, hts⟩ (mtX7_spans l D ad cI cJ cZ A hD σ0 a1 a2 a5 _ hw) (cwV 3 hts gX9_copy_X7_spans rfl rfl rfl (by decide +kernel) ⟨(Nat.le_of_ble_eq_true rfl), (Nat.le_of_ble_eq_true rfl)⟩) (va_recv hK hP (ci := 7) (q0 := 8) rfl (xw_q8 ad cI cJ cZ σ0)) hK hN hP hS rfl hl.1 rfl (Nat.le_of_ble_eq_true rfl) dX9_copy_69 ⟨Nat.zero_le _, Nat.zero_le _⟩ (fun r7 u9 H locs hq hP hS => ?_)
            obtain ⟨hw, hu⟩ := hq
            rw [hu] at hP
            refine lv_if_eq (tgt := 90) hx hb dX9_copy_72 (by decide) (fun c9 => ?_) (fun c9 => ?_)
            · have hw := hw.1 c9
              refine lv_aload_n hx hb dX9_copy_90 rfl (lv_at hl 0 rfl) ?_
              refine va_get hx hb hts iX9 hown hK hP 0 (xw_q0 ad cI cJ cZ σ0) rfl 8 (by decide) f68 (fun _ h9 => h9) rfl dX9_copy_91 ?_
              refine lv_iconst (v := 2) hx hb dX9_copy_94 (by decide) ?_
              refine wd_cVi ⟨hx, hb, hml, hown, hts⟩ (mtX4_answer l D ad cI cJ cZ A hD σ0 (2 : Int32) _ hw) (cwV 1 hts gX9_copy_X4_answer rfl rfl rfl (by decide +kernel) ⟨(Nat.le_of_ble_eq_true rfl), (Nat.le_of_ble_eq_true rfl)⟩) (va_recv hK hP (ci := 4) (q0 := 9) rfl (xw_q9 ad cI cJ cZ σ0)) hK hN hP hS rfl hl.1 rfl (Nat.le_of_ble_eq_true rfl) dX9_copy_95 ⟨Nat.zero_le _, Nat.zero_le _⟩ (fun r8 σ9 H locs hw hP hS => ?_)
              exact wd_iret hx hb hr hlocks hw hP hS dX9_copy_98
            · have hw := hw.2 c9
              refine lv_aload_n hx hb dX9_copy_75 rfl (lv_at hl 0 rfl) ?_
              refine va_get hx hb hts iX9 hown hK hP 0 (xw_q0 ad cI cJ cZ σ0) rfl 7 (by decide) f61 (fun _ h9 => h9) rfl dX9_copy_76 ?_
              refine lv_iload_n hx hb dX9_copy_79 rfl (lv_at hl 3 rfl) ?_
              refine lv_iload hx hb dX9_copy_80 (lv_at hl 4 rfl) ?_
              refine lv_iload hx hb dX9_copy_82 (lv_at hl 5 rfl) ?_
              refine wd_cVi ⟨hx, hb, hml, hown, hts⟩ (mtX7_spans l D ad cI cJ cZ A hD σ0 a3 a4 a5 _ hw) (cwV 3 hts gX9_copy_X7_spans rfl rfl rfl (by decide +kernel) ⟨(Nat.le_of_ble_eq_true rfl), (Nat.le_of_ble_eq_true rfl)⟩) (va_recv hK hP (ci := 7) (q0 := 8) rfl (xw_q8 ad cI cJ cZ σ0)) hK hN hP hS rfl hl.1 rfl (Nat.le_of_ble_eq_true rfl) dX9_copy_84 ⟨Nat.zero_le _, Nat.zero_le _⟩ (fun r10 u9 H locs hq hP hS => ?_)
              obtain ⟨hw, hu⟩ := hq
              rw [hu] at hP
              refine lv_if_ne (tgt := 99) hx hb dX9_copy_87 (by decide) (fun c9 => ?_) (fun c9 => ?_)
              · have hw := hw.1 c9
                refine lv_aload_n hx hb dX9_copy_99 rfl (lv_at hl 0 rfl) ?_
                refine va_get hx hb hts iX9 hown hK hP 0 (xw_q0 ad cI cJ cZ σ0) rfl 7 (by decide) f61 (fun _ h9 => h9) rfl dX9_copy_100 ?_
                refine lv_iload_n hx hb dX9_copy_103 rfl (lv_at hl 1 rfl) ?_
                refine lv_iload_n hx hb dX9_copy_104 rfl (lv_at hl 2 rfl) ?_
                refine lv_iload_n hx hb dX9_copy_105 rfl (lv_at hl 3 rfl) ?_
                refine lv_iload hx hb dX9_copy_106 (lv_at hl 4 rfl) ?_
                refine lv_iload hx hb dX9_copy_108 (lv_at hl 5 rfl) ?_
                refine wd_cVv ⟨hx, hb, hml, hown, hts⟩ (mtX7_move l D ad cI cJ cZ A hD σ0 a1 a2 a3 a4 a5 _ hw) (cwV 5 hts gX9_copy_X7_move rfl rfl rfl (by decide +kernel) ⟨(Nat.le_of_ble_eq_true rfl), (Nat.le_of_ble_eq_true rfl)⟩) (va_recv hK hP (ci := 7) (q0 := 8) rfl (xw_q8 ad cI cJ cZ σ0)) hK hN hP hS rfl hl.1 rfl (Nat.le_of_ble_eq_true rfl) dX9_copy_110 ⟨Nat.zero_le _, Nat.zero_le _⟩ (fun σ11 H locs hw hP hS => ?_)
                refine lv_iconst (v := 1) hx hb dX9_copy_113 (by decide) ?_
                exact wd_iret hx hb hr hlocks hw hP hS dX9_copy_114
              · have hw := hw.2 c9
                refine lv_aload_n hx hb dX9_copy_90 rfl (lv_at hl 0 rfl) ?_
                refine va_get hx hb hts iX9 hown hK hP 0 (xw_q0 ad cI cJ cZ σ0) rfl 8 (by decide) f68 (fun _ h9 => h9) rfl dX9_copy_91 ?_
                refine lv_iconst (v := 2) hx hb dX9_copy_94 (by decide) ?_
                refine wd_cVi ⟨hx, hb, hml, hown, hts⟩ (mtX4_answer l D ad cI cJ cZ A hD σ0 (2 : Int32) _ hw) (cwV 1 hts gX9_copy_X4_answer rfl rfl rfl (by decide +kernel) ⟨(Nat.le_of_ble_eq_true rfl), (Nat.le_of_ble_eq_true rfl)⟩) (va_recv hK hP (ci := 4) (q0 := 9) rfl (xw_q9 ad cI cJ cZ σ0)) hK hN hP hS rfl hl.1 rfl (Nat.le_of_ble_eq_true rfl) dX9_copy_95 ⟨Nat.zero_le _, Nat.zero_le _⟩ (fun r12 σ13 H locs hw hP hS => ?_)
                exact wd_iret hx hb hr hlocks hw hP hS dX9_copy_98
          · have hw := hw.2 c9
            refine lv_aload_n hx hb dX9_copy_52 rfl (lv_at hl 0 rfl) ?_
            refine va_get hx hb hts iX9 hown hK hP 0 (xw_q0 ad cI cJ cZ σ0) rfl 8 (by decide) f68 (fun _ h9 => h9) rfl dX9_copy_53 ?_
            refine lv_iconst (v := 1) hx hb dX9_copy_56 (by decide) ?_
            refine wd_cVi ⟨hx, hb, hml, hown, hts⟩ (mtX4_answer l D ad cI cJ cZ A hD σ0 (1 : Int32) _ hw) (cwV 1 hts gX9_copy_X4_answer rfl rfl rfl (by decide +kernel) ⟨(Nat.le_of_ble_eq_true rfl), (Nat.le_of_ble_eq_true rfl)⟩) (va_recv hK hP (ci := 4) (q0 := 9) rfl (xw_q9 ad cI cJ cZ σ0)) hK hN hP hS rfl hl.1 rfl (Nat.le_of_ble_eq_true rfl) dX9_copy_57 ⟨Nat.zero_le _, Nat.zero_le _⟩ (fun r14 σ15 H locs hw hP hS => ?_)
            exact wd_iret hx hb hr hlocks hw hP hS dX9_copy_60
      · have hw := hw.2 c9
        refine lv_aload_n hx hb dX9_copy_21 rfl (lv_at hl 0 rfl) ?_
        refine va_get hx hb hts iX9 hown hK hP 0 (xw_q0 ad cI cJ cZ σ0) rfl 8 (by decide) f68 (fun _ h9 => h9) rfl dX9_copy_22 ?_
        refine lv_iconst (v := 4) hx hb dX9_copy_25 (by decide) ?_
        refine wd_cVi ⟨hx, hb, hml, hown, hts⟩ (mtX4_answer l D ad cI cJ cZ A hD σ0 (4 : Int32) _ hw) (cwV 1 hts gX9_copy_X4_answer rfl rfl rfl (by decide +kernel) ⟨(Nat.le_of_ble_eq_true rfl), (Nat.le_of_ble_eq_true rfl)⟩) (va_recv hK hP (ci := 4) (q0 := 9) rfl (xw_q9 ad cI cJ cZ σ0)) hK hN hP hS rfl hl.1 rfl (Nat.le_of_ble_eq_true rfl) dX9_copy_26 ⟨Nat.zero_le _, Nat.zero_le _⟩ (fun r16 σ17 H locs hw hP hS => ?_)
        exact wd_iret hx hb hr hlocks hw hP hS dX9_copy_29
    · have hw := hw.2 c9
      refine lv_iconst (v := -1) hx hb dX9_copy_14 (by decide) ?_
      exact wd_iret hx hb hr hlocks hw hP hS dX9_copy_15
def wX9_asked (σ0 : St) (post : Int32 → Prop) : Prop := post (σ0.1 1)
set_option maxHeartbeats 4000000 in
set_option maxRecDepth 100000 in
theorem mtX9_asked (l : Launch) (D : va_G) (ad : Nat → Nat) (cI cJ cZ : ClassId) (A : Nat → Prop) (hD : ∀ σ : St, va_D A (xw ad cI cJ cZ σ)) (σ0 : St) (post : Int32 → Prop) (hw : wX9_asked σ0 post) : Met l yX9_asked wsX9_asked ({ frames := 0, cells := 0, slots := 0, locals := 0 } : Room) (va_Pc [.ref (ad 0)] (wd_pre D (xw ad cI cJ cZ) (wd_tys cI cJ cZ) σ0)) (va_Qi (fun (r : Int32) (u : St) => post r ∧ u = σ0) (wd_B D (xw ad cI cJ cZ)) A) 0 0 A := by
  refine Met.ofW (cc := cX9_asked) (maxL := 1) (ret := (some .int)) (by decide) rfl ?_
  intro p e s m args below meth c s₁ B hml hv
  obtain ⟨rfl, hP, hK, hN⟩ := hv
  have hx := B.exec
  have hb := B.bytes
  have hr := B.returns
  have hts := atoms_spec (ws := wsX9_asked) B.pre
  have hown : s.vm.findClass RX9 = some m.cls := findClass_of_methodNamed B.named
  have hlocks := B.notSynchronized
  have hS : va_S A s.heap s.heap [] := va_S.rf
  have f83 := hts (.fieldLink RX9 83 "LeastRights" "exceptionsTold" "I") (by decide +kernel)
  have iX9 : ∀ w ∈ wsX90, w ∈ wsX9_asked := by decide +kernel
  have hl := lv_entry ([.ref (ad 0)]) (n := 1) (Nat.le_of_ble_eq_true rfl)
  rw [lg_entry_eq]
  generalize (lg_sl ([.ref (ad 0)]) ++ List.replicate (1 - (lg_sl ([.ref (ad 0)])).length) Slot.unset).toArray = ls at hl ⊢
  have hl : lv_has ls 1 [(0, .ref (ad 0))] := hl
  unfold wX9_asked at hw
  refine lv_aload_n hx hb dX9_asked_0 rfl (lv_at hl 0 rfl) ?_
  refine va_get hx hb hts iX9 hown hK hP 0 (xw_q0 ad cI cJ cZ σ0) rfl 12 (by decide) f83 (fun _ h9 => h9) rfl dX9_asked_1 ?_
  exact wd_iret hx hb hr hlocks ⟨hw, rfl⟩ hP hS dX9_asked_4
def wX9_count (σ0 : St) (a1 : Int32) (post : Int32 → St → Prop) : Prop := (a1 = 0 → (post (σ0.1 6) σ0)) ∧ (¬ a1 = 0 → ((a1 = 1 → (post (σ0.1 2) σ0)) ∧ (¬ a1 = 1 → ((a1 = 2 → (post (σ0.1 7) σ0)) ∧ (¬ a1 = 2 → ((a1 = 3 → (wX9_totalOf σ0 3 10 (σ0.1 6) (fun (r1 : Int32) => post r1 σ0))) ∧ (¬ a1 = 3 → ((a1 = 4 → (wX9_lookAtKept σ0 (fun (σ2 : St) => wX9_totalOf σ2 0 10 (σ2.1 6) (fun (r3 : Int32) => post r3 σ2)))) ∧ (¬ a1 = 4 → ((a1 = 5 → (wX9_totalOf σ0 17 12 (12 : Int32) (fun (r4 : Int32) => post (r4 / (2 : Int32)) σ0))) ∧ (¬ a1 = 5 → (post (-1 : Int32) σ0))))))))))))
set_option maxHeartbeats 4000000 in
set_option maxRecDepth 100000 in
theorem mtX9_count (l : Launch) (D : va_G) (ad : Nat → Nat) (cI cJ cZ : ClassId) (A : Nat → Prop) (hD : ∀ σ : St, va_D A (xw ad cI cJ cZ σ)) (σ0 : St) (a1 : Int32) (post : Int32 → St → Prop) (hw : wX9_count σ0 a1 post) : Met l yX9_count wsX9_count ({ frames := 4, cells := 0, slots := 0, locals := 91 } : Room) (va_Pc [.ref (ad 0), .int a1] (wd_pre D (xw ad cI cJ cZ) (wd_tys cI cJ cZ) σ0)) (va_Qi post (wd_B D (xw ad cI cJ cZ)) A) 0 0 A := by
  refine Met.ofW (cc := cX9_count) (maxL := 2) (ret := (some .int)) (by decide) rfl ?_
  intro p e s m args below meth c s₁ B hml hv
  obtain ⟨rfl, hP, hK, hN⟩ := hv
  have hx := B.exec
  have hb := B.bytes
  have hr := B.returns
  have hts := atoms_spec (ws := wsX9_count) B.pre
  have hown : s.vm.findClass RX9 = some m.cls := findClass_of_methodNamed B.named
  have hlocks := B.notSynchronized
  have hS : va_S A s.heap s.heap [] := va_S.rf
  have f19 := hts (.fieldLink RX9 19 "LeastRights" "folk" "LLeastRights$Folk;") (by decide +kernel)
  have iX9 : ∀ w ∈ wsX90, w ∈ wsX9_count := by decide +kernel
  have n93 := va_Nw.use (A := ([.ref (ad 0), .int a1] : List Value).toArray) rfl (hN.1 ("LeastRights", 93, "LeastRights$Folk", "size", "I") (by decide +kernel))
  have iX5 : ∀ w ∈ wsX50, w ∈ wsX9_count := by decide +kernel
  have f10 := hts (.fieldLink RX9 10 "LeastRights" "days" "LLeastRights$Days;") (by decide +kernel)
  have n134 := va_Nw.use (A := ([.ref (ad 0), .int a1] : List Value).toArray) rfl (hN.1 ("LeastRights", 134, "LeastRights$Days", "present", "I") (by decide +kernel))
  have iX2 : ∀ w ∈ wsX20, w ∈ wsX9_count := by decide +kernel
  have f26 := hts (.fieldLink RX9 26 "LeastRights" "log" "LLeastRights$UseLog;") (by decide +kernel)
  have n140 := va_Nw.use (A := ([.ref (ad 0), .int a1] : List Value).toArray) rfl (hN.1 ("LeastRights", 140, "LeastRights$UseLog", "size", "I") (by decide +kernel))
  have iX8 : ∀ w ∈ wsX80, w ∈ wsX9_count := by decide +kernel
  have n112 := va_Nw.use (A := ([.ref (ad 0), .int a1] : List Value).toArray) rfl (hN.1 ("LeastRights", 112, "LeastRights$Folk", "rights", "[I") (by decide +kernel))
  have f72 := hts (.fieldLink RX9 72 "LeastRights" "keptRow" "[I") (by decide +kernel)
  have f47 := hts (.fieldLink RX9 47 "LeastRights" "bans" "LLeastRights$Bans;") (by decide +kernel)
  have n266 := va_Nw.use (A := ([.ref (ad 0), .int a1] : List Value).toArray) rfl (hN.1 ("LeastRights", 266, "LeastRights$Bans", "with", "[I") (by decide +kernel))
  have iX0 : ∀ w ∈ wsX00, w ∈ wsX9_count := by decide +kernel
  have hl := lv_entry ([.ref (ad 0), .int a1]) (n := 2) (Nat.le_of_ble_eq_true rfl)
  rw [lg_entry_eq]
  generalize (lg_sl ([.ref (ad 0), .int a1]) ++ List.replicate (2 - (lg_sl ([.ref (ad 0), .int a1])).length) Slot.unset).toArray = ls at hl ⊢
  have hl : lv_has ls 2 [(0, .ref (ad 0)), (1, .int a1)] := hl
  unfold wX9_count at hw
  refine lv_iload_n hx hb dX9_count_0 rfl (lv_at hl 1 rfl) ?_
  by_cases c0 : a1 = 0
  · have hw := hw.1 c0
    refine lv_tableIn (off := 39) (tgt := 40) hx hb dX9_count_1 (by rw [c0]; decide) (by rw [c0]; decide) (by rw [c0]; rfl) (by decide) ?_
    refine lv_aload_n hx hb dX9_count_40 rfl (lv_at hl 0 rfl) ?_
    refine va_get hx hb hts iX9 hown hK hP 0 (xw_q0 ad cI cJ cZ σ0) rfl 1 (by decide) f19 (fun _ h9 => h9) rfl dX9_count_41 ?_
    refine va_getN hx hb hts iX5 hown hK hP 2 (xw_q2 ad cI cJ cZ σ0) rfl 0 (by decide) n93 (fun _ h9 => h9) rfl dX9_count_44 ?_
    exact wd_iret hx hb hr hlocks hw hP hS dX9_count_47
  · have hw := hw.2 c0
    by_cases c1 : a1 = 1
    · have hw := hw.1 c1
      refine lv_tableIn (off := 47) (tgt := 48) hx hb dX9_count_1 (by rw [c1]; decide) (by rw [c1]; decide) (by rw [c1]; rfl) (by decide) ?_
      refine lv_aload_n hx hb dX9_count_48 rfl (lv_at hl 0 rfl) ?_
      refine va_get hx hb hts iX9 hown hK hP 0 (xw_q0 ad cI cJ cZ σ0) rfl 0 (by decide) f10 (fun _ h9 => h9) rfl dX9_count_49 ?_
      refine va_getN hx hb hts iX2 hown hK hP 1 (xw_q1 ad cI cJ cZ σ0) rfl 0 (by decide) n134 (fun _ h9 => h9) rfl dX9_count_52 ?_
      exact wd_iret hx hb hr hlocks hw hP hS dX9_count_55
    · have hw := hw.2 c1
      by_cases c2 : a1 = 2
      · have hw := hw.1 c2
        refine lv_tableIn (off := 55) (tgt := 56) hx hb dX9_count_1 (by rw [c2]; decide) (by rw [c2]; decide) (by rw [c2]; rfl) (by decide) ?_
        refine lv_aload_n hx hb dX9_count_56 rfl (lv_at hl 0 rfl) ?_
        refine va_get hx hb hts iX9 hown hK hP 0 (xw_q0 ad cI cJ cZ σ0) rfl 2 (by decide) f26 (fun _ h9 => h9) rfl dX9_count_57 ?_
        refine va_getN hx hb hts iX8 hown hK hP 3 (xw_q3 ad cI cJ cZ σ0) rfl 0 (by decide) n140 (fun _ h9 => h9) rfl dX9_count_60 ?_
        exact wd_iret hx hb hr hlocks hw hP hS dX9_count_63
      · have hw := hw.2 c2
        by_cases c3 : a1 = 3
        · have hw := hw.1 c3
          refine lv_tableIn (off := 63) (tgt := 64) hx hb dX9_count_1 (by rw [c3]; decide) (by rw [c3]; decide) (by rw [c3]; rfl) (by decide) ?_
          refine lv_aload_n hx hb dX9_count_64 rfl (lv_at hl 0 rfl) ?_
          refine va_get hx hb hts iX9 hown hK hP 0 (xw_q0 ad cI cJ cZ σ0) rfl 1 (by decide) f19 (fun _ h9 => h9) rfl dX9_count_65 ?_
          refine va_getN hx hb hts iX5 hown hK hP 2 (xw_q2 ad cI cJ cZ σ0) rfl 2 (by decide) n112 (fun _ h9 => h9) rfl dX9_count_68 ?_
          refine lv_aload_n hx hb dX9_count_71 rfl (lv_at hl 0 rfl) ?_
          refine va_get hx hb hts iX9 hown hK hP 0 (xw_q0 ad cI cJ cZ σ0) rfl 1 (by decide) f19 (fun _ h9 => h9) rfl dX9_count_72 ?_
          refine va_getN hx hb hts iX5 hown hK hP 2 (xw_q2 ad cI cJ cZ σ0) rfl 0 (by decide) n93 (fun _ h9 => h9) rfl dX9_count_75 ?_
          refine wd_cSi ⟨hx, hb, hml, hown, hts⟩ (mtX9_totalOf l D ad cI cJ cZ A hD σ0 (ad 13) 13 3 10 (xw_q13 ad cI cJ cZ) (σ0.1 6) _ hw) (va_cwS 2 hts gX9_count_X9_totalOf rfl rfl rfl (by decide +kernel) ⟨(Nat.le_of_ble_eq_true rfl), (Nat.le_of_ble_eq_true rfl)⟩) hK hN hP hS rfl hl.1 rfl (Nat.le_of_ble_eq_true rfl) dX9_count_78 ⟨Nat.zero_le _, Nat.zero_le _⟩ (fun r1 u9 H locs hq hP hS => ?_)
          obtain ⟨hw, hu⟩ := hq
          rw [hu] at hP
          exact wd_iret hx hb hr hlocks hw hP hS dX9_count_81
        · have hw := hw.2 c3
          by_cases c4 : a1 = 4
          · have hw := hw.1 c4
            refine lv_tableIn (off := 81) (tgt := 82) hx hb dX9_count_1 (by rw [c4]; decide) (by rw [c4]; decide) (by rw [c4]; rfl) (by decide) ?_
            refine lv_aload_n hx hb dX9_count_82 rfl (lv_at hl 0 rfl) ?_
            refine wd_cVv ⟨hx, hb, hml, hown, hts⟩ (mtX9_lookAtKept l D ad cI cJ cZ A hD σ0  _ hw) (cwV 0 hts gX9_count_X9_lookAtKept rfl rfl rfl (by decide +kernel) ⟨(Nat.le_of_ble_eq_true rfl), (Nat.le_of_ble_eq_true rfl)⟩) (va_recv hK hP (ci := 9) (q0 := 0) rfl (xw_q0 ad cI cJ cZ σ0)) hK hN hP hS rfl hl.1 rfl (Nat.le_of_ble_eq_true rfl) dX9_count_83 ⟨Nat.zero_le _, Nat.zero_le _⟩ (fun σ2 H locs hw hP hS => ?_)
            refine lv_aload_n hx hb dX9_count_86 rfl (lv_at hl 0 rfl) ?_
            refine va_get hx hb hts iX9 hown hK hP 0 (xw_q0 ad cI cJ cZ σ2) rfl 9 (by decide) f72 (fun _ h9 => h9) rfl dX9_count_87 ?_
            refine lv_aload_n hx hb dX9_count_90 rfl (lv_at hl 0 rfl) ?_
            refine va_get hx hb hts iX9 hown hK hP 0 (xw_q0 ad cI cJ cZ σ2) rfl 1 (by decide) f19 (fun _ h9 => h9) rfl dX9_count_91 ?_
            refine va_getN hx hb hts iX5 hown hK hP 2 (xw_q2 ad cI cJ cZ σ2) rfl 0 (by decide) n93 (fun _ h9 => h9) rfl dX9_count_94 ?_
            refine wd_cSi ⟨hx, hb, hml, hown, hts⟩ (mtX9_totalOf l D ad cI cJ cZ A hD σ2 (ad 10) 10 0 10 (xw_q10 ad cI cJ cZ) (σ2.1 6) _ hw) (va_cwS 2 hts gX9_count_X9_totalOf rfl rfl rfl (by decide +kernel) ⟨(Nat.le_of_ble_eq_true rfl), (Nat.le_of_ble_eq_true rfl)⟩) hK hN hP hS rfl hl.1 rfl (Nat.le_of_ble_eq_true rfl) dX9_count_97 ⟨Nat.zero_le _, Nat.zero_le _⟩ (fun r3 u9 H locs hq hP hS => ?_)
            obtain ⟨hw, hu⟩ := hq
            rw [hu] at hP
            exact wd_iret hx hb hr hlocks hw hP hS dX9_count_100
          · have hw := hw.2 c4
            by_cases c5 : a1 = 5
            · have hw := hw.1 c5
              refine lv_tableIn (off := 100) (tgt := 101) hx hb dX9_count_1 (by rw [c5]; decide) (by rw [c5]; decide) (by rw [c5]; rfl) (by decide) ?_
              refine lv_aload_n hx hb dX9_count_101 rfl (lv_at hl 0 rfl) ?_
              refine va_get hx hb hts iX9 hown hK hP 0 (xw_q0 ad cI cJ cZ σ0) rfl 5 (by decide) f47 (fun _ h9 => h9) rfl dX9_count_102 ?_
              refine va_getN hx hb hts iX0 hown hK hP 6 (xw_q6 ad cI cJ cZ σ0) rfl 0 (by decide) n266 (fun _ h9 => h9) rfl dX9_count_105 ?_
              refine lv_bipush (v := 12) hx hb dX9_count_108 (by decide) ?_
              refine wd_cSi ⟨hx, hb, hml, hown, hts⟩ (mtX9_totalOf l D ad cI cJ cZ A hD σ0 (ad 27) 27 17 12 (xw_q27 ad cI cJ cZ) (12 : Int32) _ hw) (va_cwS 2 hts gX9_count_X9_totalOf rfl rfl rfl (by decide +kernel) ⟨(Nat.le_of_ble_eq_true rfl), (Nat.le_of_ble_eq_true rfl)⟩) hK hN hP hS rfl hl.1 rfl (Nat.le_of_ble_eq_true rfl) dX9_count_110 ⟨Nat.zero_le _, Nat.zero_le _⟩ (fun r4 u9 H locs hq hP hS => ?_)
              obtain ⟨hw, hu⟩ := hq
              rw [hu] at hP
              refine lv_iconst (v := 2) hx hb dX9_count_113 (by decide) ?_
              refine lv_idiv hx hb dX9_count_114 (by decide) ?_
              exact wd_iret hx hb hr hlocks hw hP hS dX9_count_115
            · have hw := hw.2 c5
              refine lv_tableOut (tgt := 116) hx hb dX9_count_1 (wd_sw5 a1 c0 c1 c2 c3 c4 c5) (by decide) ?_
              refine lv_iconst (v := -1) hx hb dX9_count_116 (by decide) ?_
              exact wd_iret hx hb hr hlocks hw hP hS dX9_count_117
def wX9_finding (σ0 : St) (post : Int32 → Prop) : Prop := post (σ0.1 14)
set_option maxHeartbeats 4000000 in
set_option maxRecDepth 100000 in
theorem mtX9_finding (l : Launch) (D : va_G) (ad : Nat → Nat) (cI cJ cZ : ClassId) (A : Nat → Prop) (hD : ∀ σ : St, va_D A (xw ad cI cJ cZ σ)) (σ0 : St) (post : Int32 → Prop) (hw : wX9_finding σ0 post) : Met l yX9_finding wsX9_finding ({ frames := 0, cells := 0, slots := 0, locals := 0 } : Room) (va_Pc [.ref (ad 0)] (wd_pre D (xw ad cI cJ cZ) (wd_tys cI cJ cZ) σ0)) (va_Qi (fun (r : Int32) (u : St) => post r ∧ u = σ0) (wd_B D (xw ad cI cJ cZ)) A) 0 0 A := by
  refine Met.ofW (cc := cX9_finding) (maxL := 1) (ret := (some .int)) (by decide) rfl ?_
  intro p e s m args below meth c s₁ B hml hv
  obtain ⟨rfl, hP, hK, hN⟩ := hv
  have hx := B.exec
  have hb := B.bytes
  have hr := B.returns
  have hts := atoms_spec (ws := wsX9_finding) B.pre
  have hown : s.vm.findClass RX9 = some m.cls := findClass_of_methodNamed B.named
  have hlocks := B.notSynchronized
  have hS : va_S A s.heap s.heap [] := va_S.rf
  have f68 := hts (.fieldLink RX9 68 "LeastRights" "tally" "LLeastRights$Findings;") (by decide +kernel)
  have iX9 : ∀ w ∈ wsX90, w ∈ wsX9_finding := by decide +kernel
  have n269 := va_Nw.use (A := ([.ref (ad 0)] : List Value).toArray) rfl (hN.1 ("LeastRights", 269, "LeastRights$Findings", "latest", "I") (by decide +kernel))
  have iX4 : ∀ w ∈ wsX40, w ∈ wsX9_finding := by decide +kernel
  have hl := lv_entry ([.ref (ad 0)]) (n := 1) (Nat.le_of_ble_eq_true rfl)
  rw [lg_entry_eq]
  generalize (lg_sl ([.ref (ad 0)]) ++ List.replicate (1 - (lg_sl ([.ref (ad 0)])).length) Slot.unset).toArray = ls at hl ⊢
  have hl : lv_has ls 1 [(0, .ref (ad 0))] := hl
  unfold wX9_finding at hw
  refine lv_aload_n hx hb dX9_finding_0 rfl (lv_at hl 0 rfl) ?_
  refine va_get hx hb hts iX9 hown hK hP 0 (xw_q0 ad cI cJ cZ σ0) rfl 8 (by decide) f68 (fun _ h9 => h9) rfl dX9_finding_1 ?_
  refine va_getN hx hb hts iX4 hown hK hP 9 (xw_q9 ad cI cJ cZ σ0) rfl 0 (by decide) n269 (fun _ h9 => h9) rfl dX9_finding_4 ?_
  exact wd_iret hx hb hr hlocks ⟨hw, rfl⟩ hP hS dX9_finding_7
def wX9_findings (σ0 : St) (a1 : Int32) (post : Int32 → Prop) : Prop := (a1 < (1 : Int32) → (post (-1 : Int32))) ∧ (¬ a1 < (1 : Int32) → ((a1 ≤ (4 : Int32) → (vp_in a1 5 ∧ (post (σ0.2.1 21 a1.toNatClampNeg)))) ∧ (¬ a1 ≤ (4 : Int32) → (post (-1 : Int32)))))
set_option maxHeartbeats 4000000 in
set_option maxRecDepth 100000 in
theorem mtX9_findings (l : Launch) (D : va_G) (ad : Nat → Nat) (cI cJ cZ : ClassId) (A : Nat → Prop) (hD : ∀ σ : St, va_D A (xw ad cI cJ cZ σ)) (σ0 : St) (a1 : Int32) (post : Int32 → Prop) (hw : wX9_findings σ0 a1 post) : Met l yX9_findings wsX9_findings ({ frames := 0, cells := 0, slots := 0, locals := 0 } : Room) (va_Pc [.ref (ad 0), .int a1] (wd_pre D (xw ad cI cJ cZ) (wd_tys cI cJ cZ) σ0)) (va_Qi (fun (r : Int32) (u : St) => post r ∧ u = σ0) (wd_B D (xw ad cI cJ cZ)) A) 0 0 A := by
  refine Met.ofW (cc := cX9_findings) (maxL := 2) (ret := (some .int)) (by decide) rfl ?_
  intro p e s m args below meth c s₁ B hml hv
  obtain ⟨rfl, hP, hK, hN⟩ := hv
  have hx := B.exec
  have hb := B.bytes
  have hr := B.returns
  have hts := atoms_spec (ws := wsX9_findings) B.pre
  have hown : s.vm.findClass RX9 = some m.cls := findClass_of_methodNamed B.named
  have hlocks := B.notSynchronized
  have hS : va_S A s.heap s.heap [] := va_S.rf
  have f68 := hts (.fieldLink RX9 68 "LeastRights" "tally" "LLeastRights$Findings;") (by decide +kernel)
  have iX9 : ∀ w ∈ wsX90, w ∈ wsX9_findings := by decide +kernel
  have n272 := va_Nw.use (A := ([.ref (ad 0), .int a1] : List Value).toArray) rfl (hN.1 ("LeastRights", 272, "LeastRights$Findings", "times", "[I") (by decide +kernel))
  have iX4 : ∀ w ∈ wsX40, w ∈ wsX9_findings := by decide +kernel
  have hl := lv_entry ([.ref (ad 0), .int a1]) (n := 2) (Nat.le_of_ble_eq_true rfl)
  rw [lg_entry_eq]
  generalize (lg_sl ([.ref (ad 0), .int a1]) ++ List.replicate (2 - (lg_sl ([.ref (ad 0), .int a1])).length) Slot.unset).toArray = ls at hl ⊢
  have hl : lv_has ls 2 [(0, .ref (ad 0)), (1, .int a1)] := hl
  unfold wX9_findings at hw
  refine lv_iload_n hx hb dX9_findings_0 rfl (lv_at hl 1 rfl) ?_
  refine lv_iconst (v := 1) hx hb dX9_findings_1 (by decide) ?_
  refine lv_icmp_lt (tgt := 10) hx hb dX9_findings_2 (by decide) (fun c9 => ?_) (fun c9 => ?_)
  · have hw := hw.1 c9
    refine lv_iconst (v := -1) hx hb dX9_findings_10 (by decide) ?_
    exact wd_iret hx hb hr hlocks ⟨hw, rfl⟩ hP hS dX9_findings_11
  · have hw := hw.2 c9
    refine lv_iload_n hx hb dX9_findings_5 rfl (lv_at hl 1 rfl) ?_
    refine lv_iconst (v := 4) hx hb dX9_findings_6 (by decide) ?_
    refine lv_icmp_le (tgt := 12) hx hb dX9_findings_7 (by decide) (fun c9 => ?_) (fun c9 => ?_)
    · have hw := hw.1 c9
      refine lv_aload_n hx hb dX9_findings_12 rfl (lv_at hl 0 rfl) ?_
      refine va_get hx hb hts iX9 hown hK hP 0 (xw_q0 ad cI cJ cZ σ0) rfl 8 (by decide) f68 (fun _ h9 => h9) rfl dX9_findings_13 ?_
      refine va_getN hx hb hts iX4 hown hK hP 9 (xw_q9 ad cI cJ cZ σ0) rfl 1 (by decide) n272 (fun _ h9 => h9) rfl dX9_findings_16 ?_
      refine lv_iload_n hx hb dX9_findings_19 rfl (lv_at hl 1 rfl) ?_
      obtain ⟨h9, hw⟩ := hw
      refine va_iald hx hb hK hP 31 0 (xw_q31 ad cI cJ cZ σ0) rfl h9 dX9_findings_20 ?_
      exact wd_iret hx hb hr hlocks ⟨hw, rfl⟩ hP hS dX9_findings_21
    · have hw := hw.2 c9
      refine lv_iconst (v := -1) hx hb dX9_findings_10 (by decide) ?_
      exact wd_iret hx hb hr hlocks ⟨hw, rfl⟩ hP hS dX9_findings_11
def lpX9_digestOfPeople_9 (σ : St) (K113 : Int64 → Prop) : Nat → Int64 → Int32 → Prop
  | 0, _, _ => False
  | n + 1, v3, v5 => ((σ.1 6) ≤ v5 → (K113 v3)) ∧ (¬ (σ.1 6) ≤ v5 → (vp_in v5 10 ∧ (∀ x2 : Int64, x2 = (((31 : Int64) * v3) + ((σ.2.1 2 v5.toNatClampNeg).toInt64)) → (vp_in v5 10 ∧ (∀ x3 : Int64, x3 = (((31 : Int64) * x2) + ((σ.2.1 3 v5.toNatClampNeg).toInt64)) → (vp_in v5 10 ∧ (∀ x4 : Int64, x4 = (((31 : Int64) * x3) + ((σ.2.1 0 v5.toNatClampNeg).toInt64)) → (vp_in v5 10 ∧ (∀ x5 : Int64, x5 = (((31 : Int64) * x4) + ((σ.2.1 4 v5.toNatClampNeg).toInt64)) → (wX8_ofPerson σ v5 (fun (r6 : Int32) => ∀ x7 : Int64, x7 = (((31 : Int64) * x5) + (r6.toInt64)) → (∀ x8 : Int32, x8 = v5 + (1 : Int32) → (lpX9_digestOfPeople_9 σ K113 n x7 x8)))))))))))))
def wX9_digestOfPeople (σ0 : St) (a1 : Int64) (post : Int64 → St → Prop) : Prop := wX9_lookAtKept σ0 (fun (σ1 : St) => ∃ n10 : Nat, lpX9_digestOfPeople_9 σ1 (fun (y9 : Int64) => post y9 σ1) n10 a1 (0 : Int32))
set_option maxHeartbeats 4000000 in
set_option maxRecDepth 100000 in
theorem mtX9_digestOfPeople (l : Launch) (D : va_G) (ad : Nat → Nat) (cI cJ cZ : ClassId) (A : Nat → Prop) (hD : ∀ σ : St, va_D A (xw ad cI cJ cZ σ)) (σ0 : St) (a1 : Int64) (post : Int64 → St → Prop) (hw : wX9_digestOfPeople σ0 a1 post) : Met l yX9_digestOfPeople wsX9_digestOfPeople ({ frames := 4, cells := 0, slots := 0, locals := 91 } : Room) (va_Pc [.ref (ad 0), .long a1] (wd_pre D (xw ad cI cJ cZ) (wd_tys cI cJ cZ) σ0)) (va_Ql post (wd_B D (xw ad cI cJ cZ)) A) 0 0 A := by
  refine Met.ofW (cc := cX9_digestOfPeople) (maxL := 6) (ret := (some .long)) (by decide) rfl ?_
  intro p e s m args below meth c s₁ B hml hv
  obtain ⟨rfl, hP, hK, hN⟩ := hv
  have hx := B.exec
  have hb := B.bytes
  have hr := B.returns
  have hts := atoms_spec (ws := wsX9_digestOfPeople) B.pre
  have hown : s.vm.findClass RX9 = some m.cls := findClass_of_methodNamed B.named
  have hlocks := B.notSynchronized
  have hS : va_S A s.heap s.heap [] := va_S.rf
  have f19 := hts (.fieldLink RX9 19 "LeastRights" "folk" "LLeastRights$Folk;") (by decide +kernel)
  have iX9 : ∀ w ∈ wsX90, w ∈ wsX9_digestOfPeople := by decide +kernel
  have n93 := va_Nw.use (A := ([.ref (ad 0), .long a1] : List Value).toArray) rfl (hN.1 ("LeastRights", 93, "LeastRights$Folk", "size", "I") (by decide +kernel))
  have iX5 : ∀ w ∈ wsX50, w ∈ wsX9_digestOfPeople := by decide +kernel
  have k281 := hts (.constantLong RX9 281 (31)) (by decide +kernel)
  have n109 := va_Nw.use (A := ([.ref (ad 0), .long a1] : List Value).toArray) rfl (hN.1 ("LeastRights", 109, "LeastRights$Folk", "marks", "[I") (by decide +kernel))
  have n112 := va_Nw.use (A := ([.ref (ad 0), .long a1] : List Value).toArray) rfl (hN.1 ("LeastRights", 112, "LeastRights$Folk", "rights", "[I") (by decide +kernel))
  have f72 := hts (.fieldLink RX9 72 "LeastRights" "keptRow" "[I") (by decide +kernel)
  have n119 := va_Nw.use (A := ([.ref (ad 0), .long a1] : List Value).toArray) rfl (hN.1 ("LeastRights", 119, "LeastRights$Folk", "struck", "[I") (by decide +kernel))
  have f26 := hts (.fieldLink RX9 26 "LeastRights" "log" "LLeastRights$UseLog;") (by decide +kernel)
  have L9 : ∀ (σ : St) (K113 : Int64 → Prop) (_ : ∀ (v3 : Int64) (H : Heap) (locs : List Loc) (ls : Array Slot), K113 v3 → va_P D vwCl (xw ad cI cJ cZ σ) H → va_S A s.heap H locs → lv_has ls 6 [(0, .ref (ad 0)), (3, .long v3)] → W p l e (headSpec wsX9_digestOfPeople ({ frames := 4, cells := 0, slots := 0, locals := 91 } : Room)).room s m ([.ref (ad 0), .long a1] : List Value).toArray below meth c H locs 0 0 (MQ below (va_Ql post (wd_B D (xw ad cI cJ cZ)) A) ([.ref (ad 0), .long a1] : List Value).toArray s 0 0 A) (F0 m 113 ls [])) (n : Nat) (v3 : Int64) (v5 : Int32) (H : Heap) (locs : List Loc) (ls : Array Slot), lpX9_digestOfPeople_9 σ K113 n v3 v5 → va_P D vwCl (xw ad cI cJ cZ σ) H → va_S A s.heap H locs → lv_has ls 6 [(0, .ref (ad 0)), (3, .long v3), (5, .int v5)] → W p l e (headSpec wsX9_digestOfPeople ({ frames := 4, cells := 0, slots := 0, locals := 91 } : Room)).room s m ([.ref (ad 0), .long a1] : List Value).toArray below meth c H locs 0 0 (MQ below (va_Ql post (wd_B D (xw ad cI cJ cZ)) A) ([.ref (ad 0), .long a1] : List Value).toArray s 0 0 A) (F0 m 9 ls []) := by
    intro σ K113 hK113 n
    induction n with
    | zero => intro v3 v5 H locs ls hw; exact hw.elim
    | succ n ih =>
      intro v3 v5 H locs ls hw hP hS hl
      rw [lpX9_digestOfPeople_9] at hw
      refine lv_iload hx hb dX9_digestOfPeople_9 (lv_at hl 2 rfl) ?_
      refine lv_aload_n hx hb dX9_digestOfPeople_11 rfl (lv_at hl 0 rfl) ?_
      refine va_get hx hb hts iX9 hown hK hP 0 (xw_q0 ad cI cJ cZ σ) rfl 1 (by decide) f19 (fun _ h9 => h9) rfl dX9_digestOfPeople_12 ?_
      refine va_getN hx hb hts iX5 hown hK hP 2 (xw_q2 ad cI cJ cZ σ) rfl 0 (by decide) n93 (fun _ h9 => h9) rfl dX9_digestOfPeople_15 ?_
      refine lv_icmp_ge (tgt := 113) hx hb dX9_digestOfPeople_18 (by decide) (fun c9 => ?_) (fun c9 => ?_)
      · have hw := hw.1 c9
        exact hK113 _ _ _ _ hw hP hS (lv_sub hl [0, 1] rfl)
      · have hw := hw.2 c9
        refine lv_ldc2 hx hb hown k281 dX9_digestOfPeople_21 ?_
        refine lv_lload_n hx hb dX9_digestOfPeople_24 rfl (lv_at hl 1 rfl) ?_
        refine lv_lmul hx hb dX9_digestOfPeople_25 ?_
        refine lv_aload_n hx hb dX9_digestOfPeople_26 rfl (lv_at hl 0 rfl) ?_
        refine va_get hx hb hts iX9 hown hK hP 0 (xw_q0 ad cI cJ cZ σ) rfl 1 (by decide) f19 (fun _ h9 => h9) rfl dX9_digestOfPeople_27 ?_
        refine va_getN hx hb hts iX5 hown hK hP 2 (xw_q2 ad cI cJ cZ σ) rfl 1 (by decide) n109 (fun _ h9 => h9) rfl dX9_digestOfPeople_30 ?_
        refine lv_iload hx hb dX9_digestOfPeople_33 (lv_at hl 2 rfl) ?_
        obtain ⟨h9, hw⟩ := hw
        refine va_iald hx hb hK hP 12 0 (xw_q12 ad cI cJ cZ σ) rfl h9 dX9_digestOfPeople_35 ?_
        refine lv_i2l hx hb dX9_digestOfPeople_36 rfl ?_
        refine lv_ladd hx hb dX9_digestOfPeople_37 ?_
        refine lv_topl (fun x2 ex2 => ?_)
        have hw := hw x2 ex2
        refine lv_lstore_n (lv' := [(3, .long x2), (0, .ref (ad 0)), (5, .int v5)]) hx hb dX9_digestOfPeople_38 rfl hl (by decide) rfl (fun ls hl => ?_)
        refine lv_ldc2 hx hb hown k281 dX9_digestOfPeople_39 ?_
        refine lv_lload_n hx hb dX9_digestOfPeople_42 rfl (lv_at hl 0 rfl) ?_
        refine lv_lmul hx hb dX9_digestOfPeople_43 ?_
        refine lv_aload_n hx hb dX9_digestOfPeople_44 rfl (lv_at hl 1 rfl) ?_
        refine va_get hx hb hts iX9 hown hK hP 0 (xw_q0 ad cI cJ cZ σ) rfl 1 (by decide) f19 (fun _ h9 => h9) rfl dX9_digestOfPeople_45 ?_
        refine va_getN hx hb hts iX5 hown hK hP 2 (xw_q2 ad cI cJ cZ σ) rfl 2 (by decide) n112 (fun _ h9 => h9) rfl dX9_digestOfPeople_48 ?_
        refine lv_iload hx hb dX9_digestOfPeople_51 (lv_at hl 2 rfl) ?_
        obtain ⟨h9, hw⟩ := hw
        refine va_iald hx hb hK hP 13 0 (xw_q13 ad cI cJ cZ σ) rfl h9 dX9_digestOfPeople_53 ?_
        refine lv_i2l hx hb dX9_digestOfPeople_54 rfl ?_
        refine lv_ladd hx hb dX9_digestOfPeople_55 ?_
        refine lv_topl (fun x3 ex3 => ?_)
        have hw := hw x3 ex3
        refine lv_lstore_n (lv' := [(3, .long x3), (0, .ref (ad 0)), (5, .int v5)]) hx hb dX9_digestOfPeople_56 rfl hl (by decide) rfl (fun ls hl => ?_)
        refine lv_ldc2 hx hb hown k281 dX9_digestOfPeople_57 ?_
        refine lv_lload_n hx hb dX9_digestOfPeople_60 rfl (lv_at hl 0 rfl) ?_
        refine lv_lmul hx hb dX9_digestOfPeople_61 ?_
        refine lv_aload_n hx hb dX9_digestOfPeople_62 rfl (lv_at hl 1 rfl) ?_
        refine va_get hx hb hts iX9 hown hK hP 0 (xw_q0 ad cI cJ cZ σ) rfl 9 (by decide) f72 (fun _ h9 => h9) rfl dX9_digestOfPeople_63 ?_
        refine lv_iload hx hb dX9_digestOfPeople_66 (lv_at hl 2 rfl) ?_
        obtain ⟨h9, hw⟩ := hw
        refine va_iald hx hb hK hP 10 0 (xw_q10 ad cI cJ cZ σ) rfl h9 dX9_digestOfPeople_68 ?_
        refine lv_i2l hx hb dX9_digestOfPeople_69 rfl ?_
        refine lv_ladd hx hb dX9_digestOfPeople_70 ?_
        refine lv_topl (fun x4 ex4 => ?_)
        have hw := hw x4 ex4
        refine lv_lstore_n (lv' := [(3, .long x4), (0, .ref (ad 0)), (5, .int v5)]) hx hb dX9_digestOfPeople_71 rfl hl (by decide) rfl (fun ls hl => ?_)
        refine lv_ldc2 hx hb hown k281 dX9_digestOfPeople_72 ?_
        refine lv_lload_n hx hb dX9_digestOfPeople_75 rfl (lv_at hl 0 rfl) ?_
        refine lv_lmul hx hb dX9_digestOfPeople_76 ?_
        refine lv_aload_n hx hb dX9_digestOfPeople_77 rfl (lv_at hl 1 rfl) ?_
        refine va_get hx hb hts iX9 hown hK hP 0 (xw_q0 ad cI cJ cZ σ) rfl 1 (by decide) f19 (fun _ h9 => h9) rfl dX9_digestOfPeople_78 ?_
        refine va_getN hx hb hts iX5 hown hK hP 2 (xw_q2 ad cI cJ cZ σ) rfl 3 (by decide) n119 (fun _ h9 => h9) rfl dX9_digestOfPeople_81 ?_
        refine lv_iload hx hb dX9_digestOfPeople_84 (lv_at hl 2 rfl) ?_
        obtain ⟨h9, hw⟩ := hw
        refine va_iald hx hb hK hP 14 0 (xw_q14 ad cI cJ cZ σ) rfl h9 dX9_digestOfPeople_86 ?_
        refine lv_i2l hx hb dX9_digestOfPeople_87 rfl ?_
        refine lv_ladd hx hb dX9_digestOfPeople_88 ?_
        refine lv_topl (fun x5 ex5 => ?_)
        have hw := hw x5 ex5
        refine lv_lstore_n (lv' := [(3, .long x5), (0, .ref (ad 0)), (5, .int v5)]) hx hb dX9_digestOfPeople_89 rfl hl (by decide) rfl (fun ls hl => ?_)
        refine lv_ldc2 hx hb hown k281 dX9_digestOfPeople_90 ?_
        refine lv_lload_n hx hb dX9_digestOfPeople_93 rfl (lv_at hl 0 rfl) ?_
        refine lv_lmul hx hb dX9_digestOfPeople_94 ?_
        refine lv_aload_n hx hb dX9_digestOfPeople_95 rfl (lv_at hl 1 rfl) ?_
        refine va_get hx hb hts iX9 hown hK hP 0 (xw_q0 ad cI cJ cZ σ) rfl 2 (by decide) f26 (fun _ h9 => h9) rfl dX9_digestOfPeople_96 ?_
        refine lv_iload hx hb dX9_digestOfPeople_99 (lv_at hl 2 rfl) ?_
        refine wd_cVi ⟨hx, hb, hml, hown, hts⟩ (mtX8_ofPerson l D ad cI cJ cZ A hD σ v5 _ hw) (cwV 1 hts gX9_digestOfPeople_X8_ofPerson rfl rfl rfl (by decide +kernel) ⟨(Nat.le_of_ble_eq_true rfl), (Nat.le_of_ble_eq_true rfl)⟩) (va_recv hK hP (ci := 8) (q0 := 3) rfl (xw_q3 ad cI cJ cZ σ)) hK hN hP hS rfl hl.1 rfl (Nat.le_of_ble_eq_true rfl) dX9_digestOfPeople_101 ⟨Nat.zero_le _, Nat.zero_le _⟩ (fun r6 u9 H locs hq hP hS => ?_)
        obtain ⟨hw, hu⟩ := hq
        rw [hu] at hP
        refine lv_i2l hx hb dX9_digestOfPeople_104 rfl ?_
        refine lv_ladd hx hb dX9_digestOfPeople_105 ?_
        refine lv_topl (fun x7 ex7 => ?_)
        have hw := hw x7 ex7
        refine lv_lstore_n (lv' := [(3, .long x7), (0, .ref (ad 0)), (5, .int v5)]) hx hb dX9_digestOfPeople_106 rfl hl (by decide) rfl (fun ls hl => ?_)
        obtain ⟨x8, ex8⟩ : ∃ z : Int32, z = v5 + (1 : Int32) := ⟨_, rfl⟩
        refine lv_iinc (v := x8) (lv' := [(5, .int x8), (3, .long x7), (0, .ref (ad 0))]) hx hb dX9_digestOfPeople_107 hl (k := 2) rfl (by rw [ex8]; rfl) (by decide) rfl (fun ls hl => ?_)
        have hw := hw x8 ex8
        refine lv_goto (tgt := 9) hx hb dX9_digestOfPeople_110 (by decide) ?_
        exact ih _ _ _ _ _ hw hP hS (lv_sub hl [2, 1, 0] rfl)
  have hl := lv_entry ([.ref (ad 0), .long a1]) (n := 6) (Nat.le_of_ble_eq_true rfl)
  rw [lg_entry_eq]
  generalize (lg_sl ([.ref (ad 0), .long a1]) ++ List.replicate (6 - (lg_sl ([.ref (ad 0), .long a1])).length) Slot.unset).toArray = ls at hl ⊢
  have hl : lv_has ls 6 [(0, .ref (ad 0)), (1, .long a1)] := hl
  unfold wX9_digestOfPeople at hw
  refine lv_lload_n hx hb dX9_digestOfPeople_0 rfl (lv_at hl 1 rfl) ?_
  refine lv_lstore_n (lv' := [(3, .long a1), (0, .ref (ad 0)), (1, .long a1)]) hx hb dX9_digestOfPeople_1 rfl hl (by decide) rfl (fun ls hl => ?_)
  refine lv_aload_n hx hb dX9_digestOfPeople_2 rfl (lv_at hl 1 rfl) ?_
  refine wd_cVv ⟨hx, hb, hml, hown, hts⟩ (mtX9_lookAtKept l D ad cI cJ cZ A hD σ0  _ hw) (cwV 0 hts gX9_digestOfPeople_X9_lookAtKept rfl rfl rfl (by decide +kernel) ⟨(Nat.le_of_ble_eq_true rfl), (Nat.le_of_ble_eq_true rfl)⟩) (va_recv hK hP (ci := 9) (q0 := 0) rfl (xw_q0 ad cI cJ cZ σ0)) hK hN hP hS rfl hl.1 rfl (Nat.le_of_ble_eq_true rfl) dX9_digestOfPeople_3 ⟨Nat.zero_le _, Nat.zero_le _⟩ (fun σ1 H locs hw hP hS => ?_)
  refine lv_iconst (v := 0) hx hb dX9_digestOfPeople_6 (by decide) ?_
  refine lv_istore (lv' := [(5, .int (0 : Int32)), (3, .long a1), (0, .ref (ad 0)), (1, .long a1)]) hx hb dX9_digestOfPeople_7 hl (by decide) rfl (fun ls hl => ?_)
  obtain ⟨n9, hw⟩ := hw
  refine L9 σ1 _ ?_ n9 a1 (0 : Int32) _ _ _ hw hP hS (lv_sub hl [2, 1, 0] rfl)
  · intro y9 H locs ls hw hP hS hl
    refine lv_lload_n hx hb dX9_digestOfPeople_113 rfl (lv_at hl 1 rfl) ?_
    exact wd_lret hx hb hr hlocks hw hP hS dX9_digestOfPeople_114
def lpX9_digestOfSheets_32 (u5 : Int32) (σ0 : St) (K72 : Int64 → Prop) : Nat → Int64 → Int32 → Prop
  | 0, _, _ => False
  | n + 1, v3, v6 => vp_in u5 4 ∧ (((σ0.2.1 19 u5.toNatClampNeg) ≤ v6 → (K72 v3)) ∧ (¬ (σ0.2.1 19 u5.toNatClampNeg) ≤ v6 → (wX7_at σ0 u5 v6 (fun (r2 : Int32) => ∀ x3 : Int64, x3 = (((31 : Int64) * v3) + (r2.toInt64)) → (∀ x4 : Int32, x4 = v6 + (1 : Int32) → (lpX9_digestOfSheets_32 u5 σ0 K72 n x3 x4))))))
def lpX9_digestOfSheets_5 (σ0 : St) (K78 : Int64 → Prop) : Nat → Int64 → Int32 → Prop
  | 0, _, _ => False
  | n + 1, v3, v5 => ((4 : Int32) ≤ v5 → (K78 v3)) ∧ (¬ (4 : Int32) ≤ v5 → (vp_in v5 4 ∧ (∀ x1 : Int64, x1 = (((31 : Int64) * v3) + ((σ0.2.1 19 v5.toNatClampNeg).toInt64)) → (∃ n7 : Nat, lpX9_digestOfSheets_32 v5 σ0 (fun (y5 : Int64) => ∀ x6 : Int32, x6 = v5 + (1 : Int32) → (lpX9_digestOfSheets_5 σ0 K78 n y5 x6)) n7 x1 (0 : Int32)))))
def wX9_digestOfSheets (σ0 : St) (a1 : Int64) (post : Int64 → Prop) : Prop := ∃ n9 : Nat, lpX9_digestOfSheets_5 σ0 (fun (y8 : Int64) => post y8) n9 a1 (0 : Int32)
set_option maxHeartbeats 4000000 in
set_option maxRecDepth 100000 in
theorem mtX9_digestOfSheets (l : Launch) (D : va_G) (ad : Nat → Nat) (cI cJ cZ : ClassId) (A : Nat → Prop) (hD : ∀ σ : St, va_D A (xw ad cI cJ cZ σ)) (σ0 : St) (a1 : Int64) (post : Int64 → Prop) (hw : wX9_digestOfSheets σ0 a1 post) : Met l yX9_digestOfSheets wsX9_digestOfSheets ({ frames := 1, cells := 0, slots := 0, locals := 22 } : Room) (va_Pc [.ref (ad 0), .long a1] (wd_pre D (xw ad cI cJ cZ) (wd_tys cI cJ cZ) σ0)) (va_Ql (fun (r : Int64) (u : St) => post r ∧ u = σ0) (wd_B D (xw ad cI cJ cZ)) A) 0 0 A := by
  refine Met.ofW (cc := cX9_digestOfSheets) (maxL := 7) (ret := (some .long)) (by decide) rfl ?_
  intro p e s m args below meth c s₁ B hml hv
  obtain ⟨rfl, hP, hK, hN⟩ := hv
  have hx := B.exec
  have hb := B.bytes
  have hr := B.returns
  have hts := atoms_spec (ws := wsX9_digestOfSheets) B.pre
  have hown : s.vm.findClass RX9 = some m.cls := findClass_of_methodNamed B.named
  have hlocks := B.notSynchronized
  have hS : va_S A s.heap s.heap [] := va_S.rf
  have k281 := hts (.constantLong RX9 281 (31)) (by decide +kernel)
  have f61 := hts (.fieldLink RX9 61 "LeastRights" "sheets" "LLeastRights$Sheets;") (by decide +kernel)
  have iX9 : ∀ w ∈ wsX90, w ∈ wsX9_digestOfSheets := by decide +kernel
  have n250 := va_Nw.use (A := ([.ref (ad 0), .long a1] : List Value).toArray) rfl (hN.1 ("LeastRights", 250, "LeastRights$Sheets", "sizes", "[I") (by decide +kernel))
  have iX7 : ∀ w ∈ wsX70, w ∈ wsX9_digestOfSheets := by decide +kernel
  have L32 : ∀ (u5 : Int32) (K72 : Int64 → Prop) (_ : ∀ (v3 : Int64) (H : Heap) (locs : List Loc) (ls : Array Slot), K72 v3 → va_P D vwCl (xw ad cI cJ cZ σ0) H → va_S A s.heap H locs → lv_has ls 7 [(0, .ref (ad 0)), (5, .int u5), (3, .long v3)] → W p l e (headSpec wsX9_digestOfSheets ({ frames := 1, cells := 0, slots := 0, locals := 22 } : Room)).room s m ([.ref (ad 0), .long a1] : List Value).toArray below meth c H locs 0 0 (MQ below (va_Ql (fun (r : Int64) (u : St) => post r ∧ u = σ0) (wd_B D (xw ad cI cJ cZ)) A) ([.ref (ad 0), .long a1] : List Value).toArray s 0 0 A) (F0 m 72 ls [])) (n : Nat) (v3 : Int64) (v6 : Int32) (H : Heap) (locs : List Loc) (ls : Array Slot), lpX9_digestOfSheets_32 u5 σ0 K72 n v3 v6 → va_P D vwCl (xw ad cI cJ cZ σ0) H → va_S A s.heap H locs → lv_has ls 7 [(0, .ref (ad 0)), (5, .int u5), (3, .long v3), (6, .int v6)] → W p l e (headSpec wsX9_digestOfSheets ({ frames := 1, cells := 0, slots := 0, locals := 22 } : Room)).room s m ([.ref (ad 0), .long a1] : List Value).toArray below meth c H locs 0 0 (MQ below (va_Ql (fun (r : Int64) (u : St) => post r ∧ u = σ0) (wd_B D (xw ad cI cJ cZ)) A) ([.ref (ad 0), .long a1] : List Value).toArray s 0 0 A) (F0 m 32 ls []) := by
    intro u5 K72 hK72 n
    induction n with
    | zero => intro v3 v6 H locs ls hw; exact hw.elim
    | succ n ih =>
      intro v3 v6 H locs ls hw hP hS hl
      rw [lpX9_digestOfSheets_32] at hw
      refine lv_iload hx hb dX9_digestOfSheets_32 (lv_at hl 3 rfl) ?_
      refine lv_aload_n hx hb dX9_digestOfSheets_34 rfl (lv_at hl 0 rfl) ?_
      refine va_get hx hb hts iX9 hown hK hP 0 (xw_q0 ad cI cJ cZ σ0) rfl 7 (by decide) f61 (fun _ h9 => h9) rfl dX9_digestOfSheets_35 ?_
      refine va_getN hx hb hts iX7 hown hK hP 8 (xw_q8 ad cI cJ cZ σ0) rfl 0 (by decide) n250 (fun _ h9 => h9) rfl dX9_digestOfSheets_38 ?_
      refine lv_iload hx hb dX9_digestOfSheets_41 (lv_at hl 1 rfl) ?_
      obtain ⟨h9, hw⟩ := hw
      refine va_iald hx hb hK hP 29 0 (xw_q29 ad cI cJ cZ σ0) rfl h9 dX9_digestOfSheets_43 ?_
      refine lv_icmp_ge (tgt := 72) hx hb dX9_digestOfSheets_44 (by decide) (fun c9 => ?_) (fun c9 => ?_)
      · have hw := hw.1 c9
        exact hK72 _ _ _ _ hw hP hS (lv_sub hl [0, 1, 2] rfl)
      · have hw := hw.2 c9
        refine lv_ldc2 hx hb hown k281 dX9_digestOfSheets_47 ?_
        refine lv_lload_n hx hb dX9_digestOfSheets_50 rfl (lv_at hl 2 rfl) ?_
        refine lv_lmul hx hb dX9_digestOfSheets_51 ?_
        refine lv_aload_n hx hb dX9_digestOfSheets_52 rfl (lv_at hl 0 rfl) ?_
        refine va_get hx hb hts iX9 hown hK hP 0 (xw_q0 ad cI cJ cZ σ0) rfl 7 (by decide) f61 (fun _ h9 => h9) rfl dX9_digestOfSheets_53 ?_
        refine lv_iload hx hb dX9_digestOfSheets_56 (lv_at hl 1 rfl) ?_
        refine lv_iload hx hb dX9_digestOfSheets_58 (lv_at hl 3 rfl) ?_
        refine wd_cVi ⟨hx, hb, hml, hown, hts⟩ (mtX7_at l D ad cI cJ cZ A hD σ0 u5 v6 _ hw) (cwV 2 hts gX9_digestOfSheets_X7_at rfl rfl rfl (by decide +kernel) ⟨(Nat.le_of_ble_eq_true rfl), (Nat.le_of_ble_eq_true rfl)⟩) (va_recv hK hP (ci := 7) (q0 := 8) rfl (xw_q8 ad cI cJ cZ σ0)) hK hN hP hS rfl hl.1 rfl (Nat.le_of_ble_eq_true rfl) dX9_digestOfSheets_60 ⟨Nat.zero_le _, Nat.zero_le _⟩ (fun r2 u9 H locs hq hP hS => ?_)
        obtain ⟨hw, hu⟩ := hq
        rw [hu] at hP
        refine lv_i2l hx hb dX9_digestOfSheets_63 rfl ?_
        refine lv_ladd hx hb dX9_digestOfSheets_64 ?_
        refine lv_topl (fun x3 ex3 => ?_)
        have hw := hw x3 ex3
        refine lv_lstore_n (lv' := [(3, .long x3), (0, .ref (ad 0)), (5, .int u5), (6, .int v6)]) hx hb dX9_digestOfSheets_65 rfl hl (by decide) rfl (fun ls hl => ?_)
        obtain ⟨x4, ex4⟩ : ∃ z : Int32, z = v6 + (1 : Int32) := ⟨_, rfl⟩
        refine lv_iinc (v := x4) (lv' := [(6, .int x4), (3, .long x3), (0, .ref (ad 0)), (5, .int u5)]) hx hb dX9_digestOfSheets_66 hl (k := 3) rfl (by rw [ex4]; rfl) (by decide) rfl (fun ls hl => ?_)
        have hw := hw x4 ex4
        refine lv_goto (tgt := 32) hx hb dX9_digestOfSheets_69 (by decide) ?_
        exact ih _ _ _ _ _ hw hP hS (lv_sub hl [2, 3, 1, 0] rfl)
  have L5 : ∀ (K78 : Int64 → Prop) (_ : ∀ (v3 : Int64) (H : Heap) (locs : List Loc) (ls : Array Slot), K78 v3 → va_P D vwCl (xw ad cI cJ cZ σ0) H → va_S A s.heap H locs → lv_has ls 7 [(0, .ref (ad 0)), (3, .long v3)] → W p l e (headSpec wsX9_digestOfSheets ({ frames := 1, cells := 0, slots := 0, locals := 22 } : Room)).room s m ([.ref (ad 0), .long a1] : List Value).toArray below meth c H locs 0 0 (MQ below (va_Ql (fun (r : Int64) (u : St) => post r ∧ u = σ0) (wd_B D (xw ad cI cJ cZ)) A) ([.ref (ad 0), .long a1] : List Value).toArray s 0 0 A) (F0 m 78 ls [])) (n : Nat) (v3 : Int64) (v5 : Int32) (H : Heap) (locs : List Loc) (ls : Array Slot), lpX9_digestOfSheets_5 σ0 K78 n v3 v5 → va_P D vwCl (xw ad cI cJ cZ σ0) H → va_S A s.heap H locs → lv_has ls 7 [(0, .ref (ad 0)), (3, .long v3), (5, .int v5)] → W p l e (headSpec wsX9_digestOfSheets ({ frames := 1, cells := 0, slots := 0, locals := 22 } : Room)).room s m ([.ref (ad 0), .long a1] : List Value).toArray below meth c H locs 0 0 (MQ below (va_Ql (fun (r : Int64) (u : St) => post r ∧ u = σ0) (wd_B D (xw ad cI cJ cZ)) A) ([.ref (ad 0), .long a1] : List Value).toArray s 0 0 A) (F0 m 5 ls []) := by
    intro K78 hK78 n
    induction n with
    | zero => intro v3 v5 H locs ls hw; exact hw.elim
    | succ n ih =>
      intro v3 v5 H locs ls hw hP hS hl
      rw [lpX9_digestOfSheets_5] at hw
      refine lv_iload hx hb dX9_digestOfSheets_5 (lv_at hl 2 rfl) ?_
      refine lv_iconst (v := 4) hx hb dX9_digestOfSheets_7 (by decide) ?_
      refine lv_icmp_ge (tgt := 78) hx hb dX9_digestOfSheets_8 (by decide) (fun c9 => ?_) (fun c9 => ?_)
      · have hw := hw.1 c9
        exact hK78 _ _ _ _ hw hP hS (lv_sub hl [0, 1] rfl)
      · have hw := hw.2 c9
        refine lv_ldc2 hx hb hown k281 dX9_digestOfSheets_11 ?_
        refine lv_lload_n hx hb dX9_digestOfSheets_14 rfl (lv_at hl 1 rfl) ?_
        refine lv_lmul hx hb dX9_digestOfSheets_15 ?_
        refine lv_aload_n hx hb dX9_digestOfSheets_16 rfl (lv_at hl 0 rfl) ?_
        refine va_get hx hb hts iX9 hown hK hP 0 (xw_q0 ad cI cJ cZ σ0) rfl 7 (by decide) f61 (fun _ h9 => h9) rfl dX9_digestOfSheets_17 ?_
        refine va_getN hx hb hts iX7 hown hK hP 8 (xw_q8 ad cI cJ cZ σ0) rfl 0 (by decide) n250 (fun _ h9 => h9) rfl dX9_digestOfSheets_20 ?_
        refine lv_iload hx hb dX9_digestOfSheets_23 (lv_at hl 2 rfl) ?_
        obtain ⟨h9, hw⟩ := hw
        refine va_iald hx hb hK hP 29 0 (xw_q29 ad cI cJ cZ σ0) rfl h9 dX9_digestOfSheets_25 ?_
        refine lv_i2l hx hb dX9_digestOfSheets_26 rfl ?_
        refine lv_ladd hx hb dX9_digestOfSheets_27 ?_
        refine lv_topl (fun x1 ex1 => ?_)
        have hw := hw x1 ex1
        refine lv_lstore_n (lv' := [(3, .long x1), (0, .ref (ad 0)), (5, .int v5)]) hx hb dX9_digestOfSheets_28 rfl hl (by decide) rfl (fun ls hl => ?_)
        refine lv_iconst (v := 0) hx hb dX9_digestOfSheets_29 (by decide) ?_
        refine lv_istore (lv' := [(6, .int (0 : Int32)), (3, .long x1), (0, .ref (ad 0)), (5, .int v5)]) hx hb dX9_digestOfSheets_30 hl (by decide) rfl (fun ls hl => ?_)
        obtain ⟨n9, hw⟩ := hw
        refine L32 v5 _ ?_ n9 x1 (0 : Int32) _ _ _ hw hP hS (lv_sub hl [2, 3, 1, 0] rfl)
        · intro y5 H locs ls hw hP hS hl
          obtain ⟨x6, ex6⟩ : ∃ z : Int32, z = v5 + (1 : Int32) := ⟨_, rfl⟩
          refine lv_iinc (v := x6) (lv' := [(5, .int x6), (0, .ref (ad 0)), (3, .long y5)]) hx hb dX9_digestOfSheets_72 hl (k := 1) rfl (by rw [ex6]; rfl) (by decide) rfl (fun ls hl => ?_)
          have hw := hw x6 ex6
          refine lv_goto (tgt := 5) hx hb dX9_digestOfSheets_75 (by decide) ?_
          exact ih _ _ _ _ _ hw hP hS (lv_sub hl [1, 2, 0] rfl)
  have hl := lv_entry ([.ref (ad 0), .long a1]) (n := 7) (Nat.le_of_ble_eq_true rfl)
  rw [lg_entry_eq]
  generalize (lg_sl ([.ref (ad 0), .long a1]) ++ List.replicate (7 - (lg_sl ([.ref (ad 0), .long a1])).length) Slot.unset).toArray = ls at hl ⊢
  have hl : lv_has ls 7 [(0, .ref (ad 0)), (1, .long a1)] := hl
  unfold wX9_digestOfSheets at hw
  refine lv_lload_n hx hb dX9_digestOfSheets_0 rfl (lv_at hl 1 rfl) ?_
  refine lv_lstore_n (lv' := [(3, .long a1), (0, .ref (ad 0)), (1, .long a1)]) hx hb dX9_digestOfSheets_1 rfl hl (by decide) rfl (fun ls hl => ?_)
  refine lv_iconst (v := 0) hx hb dX9_digestOfSheets_2 (by decide) ?_
  refine lv_istore (lv' := [(5, .int (0 : Int32)), (3, .long a1), (0, .ref (ad 0)), (1, .long a1)]) hx hb dX9_digestOfSheets_3 hl (by decide) rfl (fun ls hl => ?_)
  obtain ⟨n9, hw⟩ := hw
  refine L5 _ ?_ n9 a1 (0 : Int32) _ _ _ hw hP hS (lv_sub hl [2, 1, 0] rfl)
  · intro y8 H locs ls hw hP hS hl
    refine lv_lload_n hx hb dX9_digestOfSheets_78 rfl (lv_at hl 1 rfl) ?_
    exact wd_lret hx hb hr hlocks ⟨hw, rfl⟩ hP hS dX9_digestOfSheets_79
