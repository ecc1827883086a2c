/-! X9_exceptions X9_ban X9_breach X9_isLighter X9_least X9_badRole X9_plan X9_takeOut X9_noLastDays X9_isStopped X9_stopped X9_stop X9_used -/
def wX9_exceptions (σ0 : St) (a1 : Int32) (a2 : Int32) (post : Int32 → Prop) : Prop := wX9_noRight a1 (fun (r1 : Int32) => (¬ r1 = 0 → (post (-1 : Int32))) ∧ (r1 = 0 → (wX9_noMarkSet a2 (fun (r2 : Int32) => (r2 = 0 → (wX5_mistold σ0 a1 a2 (fun (r3 : Int32) => post r3))) ∧ (¬ r2 = 0 → (post (-1 : Int32)))))))
set_option maxHeartbeats 4000000 in
set_option maxRecDepth 100000 in
theorem mtX9_exceptions (l : Launch) (D : va_G) (ad : Nat → Nat) (cI cJ cZ : ClassId) (A : Nat → Prop) (hD : ∀ σ : St, va_D A (xw ad cI cJ cZ σ)) (σ0 : St) (a1 : Int32) (a2 : Int32) (post : Int32 → Prop) (hw : wX9_exceptions σ0 a1 a2 post) : Met l yX9_exceptions wsX9_exceptions ({ frames := 2, cells := 0, slots := 0, locals := 47 } : Room) (va_Pc [.ref (ad 0), .int a1, .int a2] (wd_pre D (xw ad cI cJ cZ) (wd_tys cI cJ cZ) σ0)) (va_Qi (fun (r : Int32) (u : St) => post r ∧ u = σ0) (wd_B D (xw ad cI cJ cZ)) A) 0 0 A := by
  refine Met.ofW (cc := cX9_exceptions) (maxL := 3) (ret := (some .int)) (by decide) rfl ?_
  intro p e s m args below meth c s₁ B hml hv
  obtain ⟨rfl, hP, hK, hN⟩ := hv
  have hx := B.exec
  have hb := B.bytes
  have hr := B.returns
  have hts := atoms_spec (ws := wsX9_exceptions) B.pre
  have hown : s.vm.findClass RX9 = some m.cls := findClass_of_methodNamed B.named
  have hlocks := B.notSynchronized
  have hS : va_S A s.heap s.heap [] := va_S.rf
  have f19 := hts (.fieldLink RX9 19 "LeastRights" "folk" "LLeastRights$Folk;") (by decide +kernel)
  have iX9 : ∀ w ∈ wsX90, w ∈ wsX9_exceptions := by decide +kernel
  have hl := lv_entry ([.ref (ad 0), .int a1, .int a2]) (n := 3) (Nat.le_of_ble_eq_true rfl)
  rw [lg_entry_eq]
  generalize (lg_sl ([.ref (ad 0), .int a1, .int a2]) ++ List.replicate (3 - (lg_sl ([.ref (ad 0), .int a1, .int a2])).length) Slot.unset).toArray = ls at hl ⊢
  have hl : lv_has ls 3 [(0, .ref (ad 0)), (1, .int a1), (2, .int a2)] := hl
  unfold wX9_exceptions at hw
  refine lv_iload_n hx hb dX9_exceptions_0 rfl (lv_at hl 1 rfl) ?_
  refine wd_cSi ⟨hx, hb, hml, hown, hts⟩ (mtX9_noRight l D ad cI cJ cZ A hD σ0 a1 _ hw) (va_cwS 1 hts gX9_exceptions_X9_noRight rfl rfl rfl (by decide +kernel) ⟨(Nat.le_of_ble_eq_true rfl), (Nat.le_of_ble_eq_true rfl)⟩) hK hN hP hS rfl hl.1 rfl (Nat.le_of_ble_eq_true rfl) dX9_exceptions_1 ⟨Nat.zero_le _, Nat.zero_le _⟩ (fun r1 u9 H locs hq hP hS => ?_)
  obtain ⟨hw, hu⟩ := hq
  rw [hu] at hP
  refine lv_if_ne (tgt := 14) hx hb dX9_exceptions_4 (by decide) (fun c9 => ?_) (fun c9 => ?_)
  · have hw := hw.1 c9
    refine lv_iconst (v := -1) hx hb dX9_exceptions_14 (by decide) ?_
    exact wd_iret hx hb hr hlocks ⟨hw, rfl⟩ hP hS dX9_exceptions_15
  · have hw := hw.2 c9
    refine lv_iload_n hx hb dX9_exceptions_7 rfl (lv_at hl 2 rfl) ?_
    refine wd_cSi ⟨hx, hb, hml, hown, hts⟩ (mtX9_noMarkSet l D ad cI cJ cZ A hD σ0 a2 _ hw) (va_cwS 1 hts gX9_exceptions_X9_noMarkSet rfl rfl rfl (by decide +kernel) ⟨(Nat.le_of_ble_eq_true rfl), (Nat.le_of_ble_eq_true rfl)⟩) hK hN hP hS rfl hl.1 rfl (Nat.le_of_ble_eq_true rfl) dX9_exceptions_8 ⟨Nat.zero_le _, Nat.zero_le _⟩ (fun r2 u9 H locs hq hP hS => ?_)
    obtain ⟨hw, hu⟩ := hq
    rw [hu] at hP
    refine lv_if_eq (tgt := 16) hx hb dX9_exceptions_11 (by decide) (fun c9 => ?_) (fun c9 => ?_)
    · have hw := hw.1 c9
      refine lv_aload_n hx hb dX9_exceptions_16 rfl (lv_at hl 0 rfl) ?_
      refine va_get hx hb hts iX9 hown hK hP 0 (xw_q0 ad cI cJ cZ σ0) rfl 1 (by decide) f19 (fun _ h9 => h9) rfl dX9_exceptions_17 ?_
      refine lv_iload_n hx hb dX9_exceptions_20 rfl (lv_at hl 1 rfl) ?_
      refine lv_iload_n hx hb dX9_exceptions_21 rfl (lv_at hl 2 rfl) ?_
      refine wd_cVi ⟨hx, hb, hml, hown, hts⟩ (mtX5_mistold l D ad cI cJ cZ A hD σ0 a1 a2 _ hw) (cwV 2 hts gX9_exceptions_X5_mistold rfl rfl rfl (by decide +kernel) ⟨(Nat.le_of_ble_eq_true rfl), (Nat.le_of_ble_eq_true rfl)⟩) (va_recv hK hP (ci := 5) (q0 := 2) rfl (xw_q2 ad cI cJ cZ σ0)) hK hN hP hS rfl hl.1 rfl (Nat.le_of_ble_eq_true rfl) dX9_exceptions_22 ⟨Nat.zero_le _, Nat.zero_le _⟩ (fun r3 u9 H locs hq hP hS => ?_)
      obtain ⟨hw, hu⟩ := hq
      rw [hu] at hP
      exact wd_iret hx hb hr hlocks ⟨hw, rfl⟩ hP hS dX9_exceptions_25
    · have hw := hw.2 c9
      refine lv_iconst (v := -1) hx hb dX9_exceptions_14 (by decide) ?_
      exact wd_iret hx hb hr hlocks ⟨hw, rfl⟩ hP hS dX9_exceptions_15
def wX9_ban (σ0 : St) (a1 : Int32) (a2 : Int32) (a3 : Int32) (post : Int32 → St → Prop) : Prop := wX9_noRight a1 (fun (r1 : Int32) => (¬ r1 = 0 → (post (-1 : Int32) σ0)) ∧ (r1 = 0 → (wX9_noRight a2 (fun (r2 : Int32) => (¬ r2 = 0 → (post (-1 : Int32) σ0)) ∧ (r2 = 0 → ((¬ a1 = a2 → (wX0_put σ0 a1 a2 a3 (fun (r3 : Int32) (σ4 : St) => post r3 σ4))) ∧ (a1 = a2 → (post (-1 : Int32) σ0))))))))
set_option maxHeartbeats 4000000 in
set_option maxRecDepth 100000 in
theorem mtX9_ban (l : Launch) (D : va_G) (ad : Nat → Nat) (cI cJ cZ : ClassId) (A : Nat → Prop) (hD : ∀ σ : St, va_D A (xw ad cI cJ cZ σ)) (σ0 : St) (a1 : Int32) (a2 : Int32) (a3 : Int32) (post : Int32 → St → Prop) (hw : wX9_ban σ0 a1 a2 a3 post) : Met l yX9_ban wsX9_ban ({ frames := 1, cells := 0, slots := 0, locals := 24 } : Room) (va_Pc [.ref (ad 0), .int a1, .int a2, .int a3] (wd_pre D (xw ad cI cJ cZ) (wd_tys cI cJ cZ) σ0)) (va_Qi post (wd_B D (xw ad cI cJ cZ)) A) 0 0 A := by
  refine Met.ofW (cc := cX9_ban) (maxL := 4) (ret := (some .int)) (by decide) rfl ?_
  intro p e s m args below meth c s₁ B hml hv
  obtain ⟨rfl, hP, hK, hN⟩ := hv
  have hx := B.exec
  have hb := B.bytes
  have hr := B.returns
  have hts := atoms_spec (ws := wsX9_ban) B.pre
  have hown : s.vm.findClass RX9 = some m.cls := findClass_of_methodNamed B.named
  have hlocks := B.notSynchronized
  have hS : va_S A s.heap s.heap [] := va_S.rf
  have f47 := hts (.fieldLink RX9 47 "LeastRights" "bans" "LLeastRights$Bans;") (by decide +kernel)
  have iX9 : ∀ w ∈ wsX90, w ∈ wsX9_ban := by decide +kernel
  have hl := lv_entry ([.ref (ad 0), .int a1, .int a2, .int a3]) (n := 4) (Nat.le_of_ble_eq_true rfl)
  rw [lg_entry_eq]
  generalize (lg_sl ([.ref (ad 0), .int a1, .int a2, .int a3]) ++ List.replicate (4 - (lg_sl ([.ref (ad 0), .int a1, .int a2, .int a3])).length) Slot.unset).toArray = ls at hl ⊢
  have hl : lv_has ls 4 [(0, .ref (ad 0)), (1, .int a1), (2, .int a2), (3, .int a3)] := hl
  unfold wX9_ban at hw
  refine lv_iload_n hx hb dX9_ban_0 rfl (lv_at hl 1 rfl) ?_
  refine wd_cSi ⟨hx, hb, hml, hown, hts⟩ (mtX9_noRight l D ad cI cJ cZ A hD σ0 a1 _ hw) (va_cwS 1 hts gX9_ban_X9_noRight rfl rfl rfl (by decide +kernel) ⟨(Nat.le_of_ble_eq_true rfl), (Nat.le_of_ble_eq_true rfl)⟩) hK hN hP hS rfl hl.1 rfl (Nat.le_of_ble_eq_true rfl) dX9_ban_1 ⟨Nat.zero_le _, Nat.zero_le _⟩ (fun r1 u9 H locs hq hP hS => ?_)
  obtain ⟨hw, hu⟩ := hq
  rw [hu] at hP
  refine lv_if_ne (tgt := 19) hx hb dX9_ban_4 (by decide) (fun c9 => ?_) (fun c9 => ?_)
  · have hw := hw.1 c9
    refine lv_iconst (v := -1) hx hb dX9_ban_19 (by decide) ?_
    exact wd_iret hx hb hr hlocks hw hP hS dX9_ban_20
  · have hw := hw.2 c9
    refine lv_iload_n hx hb dX9_ban_7 rfl (lv_at hl 2 rfl) ?_
    refine wd_cSi ⟨hx, hb, hml, hown, hts⟩ (mtX9_noRight l D ad cI cJ cZ A hD σ0 a2 _ hw) (va_cwS 1 hts gX9_ban_X9_noRight rfl rfl rfl (by decide +kernel) ⟨(Nat.le_of_ble_eq_true rfl), (Nat.le_of_ble_eq_true rfl)⟩) hK hN hP hS rfl hl.1 rfl (Nat.le_of_ble_eq_true rfl) dX9_ban_8 ⟨Nat.zero_le _, Nat.zero_le _⟩ (fun r2 u9 H locs hq hP hS => ?_)
    obtain ⟨hw, hu⟩ := hq
    rw [hu] at hP
    refine lv_if_ne (tgt := 19) hx hb dX9_ban_11 (by decide) (fun c9 => ?_) (fun c9 => ?_)
    · have hw := hw.1 c9
      refine lv_iconst (v := -1) hx hb dX9_ban_19 (by decide) ?_
      exact wd_iret hx hb hr hlocks hw hP hS dX9_ban_20
    · have hw := hw.2 c9
      refine lv_iload_n hx hb dX9_ban_14 rfl (lv_at hl 1 rfl) ?_
      refine lv_iload_n hx hb dX9_ban_15 rfl (lv_at hl 2 rfl) ?_
      refine lv_icmp_ne (tgt := 21) hx hb dX9_ban_16 (by decide) (fun c9 => ?_) (fun c9 => ?_)
      · have hw := hw.1 c9
        refine lv_aload_n hx hb dX9_ban_21 rfl (lv_at hl 0 rfl) ?_
        refine va_get hx hb hts iX9 hown hK hP 0 (xw_q0 ad cI cJ cZ σ0) rfl 5 (by decide) f47 (fun _ h9 => h9) rfl dX9_ban_22 ?_
        refine lv_iload_n hx hb dX9_ban_25 rfl (lv_at hl 1 rfl) ?_
        refine lv_iload_n hx hb dX9_ban_26 rfl (lv_at hl 2 rfl) ?_
        refine lv_iload_n hx hb dX9_ban_27 rfl (lv_at hl 3 rfl) ?_
        refine wd_cVi ⟨hx, hb, hml, hown, hts⟩ (mtX0_put l D ad cI cJ cZ A hD σ0 a1 a2 a3 _ hw) (cwV 3 hts gX9_ban_X0_put rfl rfl rfl (by decide +kernel) ⟨(Nat.le_of_ble_eq_true rfl), (Nat.le_of_ble_eq_true rfl)⟩) (va_recv hK hP (ci := 0) (q0 := 6) rfl (xw_q6 ad cI cJ cZ σ0)) hK hN hP hS rfl hl.1 rfl (Nat.le_of_ble_eq_true rfl) dX9_ban_28 ⟨Nat.zero_le _, Nat.zero_le _⟩ (fun r3 σ4 H locs hw hP hS => ?_)
        exact wd_iret hx hb hr hlocks hw hP hS dX9_ban_31
      · have hw := hw.2 c9
        refine lv_iconst (v := -1) hx hb dX9_ban_19 (by decide) ?_
        exact wd_iret hx hb hr hlocks hw hP hS dX9_ban_20
def lpX9_breach_4 (σ0 : St) (post : Int32 → Prop) : Nat → Int32 → Int32 → Prop
  | 0, _, _ => False
  | n + 1, v1, v2 => ((σ0.1 6) ≤ v2 → (post v1)) ∧ (¬ (σ0.1 6) ≤ v2 → (vp_in v2 10 ∧ (wX0_clashing σ0 (σ0.2.1 3 v2.toNatClampNeg) (fun (r1 : Int32) => (r1 = 0 → (∀ x2 : Int32, x2 = v2 + (1 : Int32) → (lpX9_breach_4 σ0 post n v1 x2))) ∧ (¬ r1 = 0 → (∀ x3 : Int32, x3 = (v1 ||| ((1 : Int32) <<< (v2 &&& 31))) → (∀ x4 : Int32, x4 = v2 + (1 : Int32) → (lpX9_breach_4 σ0 post n x3 x4))))))))
def wX9_breach (σ0 : St) (post : Int32 → Prop) : Prop := ∃ n5 : Nat, lpX9_breach_4 σ0 post n5 (0 : Int32) (0 : Int32)
set_option maxHeartbeats 4000000 in
set_option maxRecDepth 100000 in
theorem mtX9_breach (l : Launch) (D : va_G) (ad : Nat → Nat) (cI cJ cZ : ClassId) (A : Nat → Prop) (hD : ∀ σ : St, va_D A (xw ad cI cJ cZ σ)) (σ0 : St) (post : Int32 → Prop) (hw : wX9_breach σ0 post) : Met l yX9_breach wsX9_breach ({ frames := 1, cells := 0, slots := 0, locals := 23 } : Room) (va_Pc [.ref (ad 0)] (wd_pre D (xw ad cI cJ cZ) (wd_tys cI cJ cZ) σ0)) (va_Qi (fun (r : Int32) (u : St) => post r ∧ u = σ0) (wd_B D (xw ad cI cJ cZ)) A) 0 0 A := by
  refine Met.ofW (cc := cX9_breach) (maxL := 3) (ret := (some .int)) (by decide) rfl ?_
  intro p e s m args below meth c s₁ B hml hv
  obtain ⟨rfl, hP, hK, hN⟩ := hv
  have hx := B.exec
  have hb := B.bytes
  have hr := B.returns
  have hts := atoms_spec (ws := wsX9_breach) B.pre
  have hown : s.vm.findClass RX9 = some m.cls := findClass_of_methodNamed B.named
  have hlocks := B.notSynchronized
  have hS : va_S A s.heap s.heap [] := va_S.rf
  have f19 := hts (.fieldLink RX9 19 "LeastRights" "folk" "LLeastRights$Folk;") (by decide +kernel)
  have iX9 : ∀ w ∈ wsX90, w ∈ wsX9_breach := by decide +kernel
  have n93 := va_Nw.use (A := ([.ref (ad 0)] : List Value).toArray) rfl (hN.1 ("LeastRights", 93, "LeastRights$Folk", "size", "I") (by decide +kernel))
  have iX5 : ∀ w ∈ wsX50, w ∈ wsX9_breach := by decide +kernel
  have f47 := hts (.fieldLink RX9 47 "LeastRights" "bans" "LLeastRights$Bans;") (by decide +kernel)
  have n112 := va_Nw.use (A := ([.ref (ad 0)] : List Value).toArray) rfl (hN.1 ("LeastRights", 112, "LeastRights$Folk", "rights", "[I") (by decide +kernel))
  have L4 : ∀ (n : Nat) (v1 : Int32) (v2 : Int32) (H : Heap) (locs : List Loc) (ls : Array Slot), lpX9_breach_4 σ0 post n v1 v2 → va_P D vwCl (xw ad cI cJ cZ σ0) H → va_S A s.heap H locs → lv_has ls 3 [(0, .ref (ad 0)), (1, .int v1), (2, .int v2)] → W p l e (headSpec wsX9_breach ({ frames := 1, cells := 0, slots := 0, locals := 23 } : Room)).room s m ([.ref (ad 0)] : List Value).toArray below meth c H locs 0 0 (MQ below (va_Qi (fun (r : Int32) (u : St) => post r ∧ u = σ0) (wd_B D (xw ad cI cJ cZ)) A) ([.ref (ad 0)] : List Value).toArray s 0 0 A) (F0 m 4 ls []) := by
    intro n
    induction n with
    | zero => intro v1 v2 H locs ls hw; exact hw.elim
    | succ n ih =>
      intro v1 v2 H locs ls hw hP hS hl
      rw [lpX9_breach_4] at hw
      refine lv_iload_n hx hb dX9_breach_4 rfl (lv_at hl 2 rfl) ?_
      refine lv_aload_n hx hb dX9_breach_5 rfl (lv_at hl 0 rfl) ?_
      refine va_get hx hb hts iX9 hown hK hP 0 (xw_q0 ad cI cJ cZ σ0) rfl 1 (by decide) f19 (fun _ h9 => h9) rfl dX9_breach_6 ?_
      refine va_getN hx hb hts iX5 hown hK hP 2 (xw_q2 ad cI cJ cZ σ0) rfl 0 (by decide) n93 (fun _ h9 => h9) rfl dX9_breach_9 ?_
      refine lv_icmp_ge (tgt := 46) hx hb dX9_breach_12 (by decide) (fun c9 => ?_) (fun c9 => ?_)
      · have hw := hw.1 c9
        refine lv_iload_n hx hb dX9_breach_46 rfl (lv_at hl 1 rfl) ?_
        exact wd_iret hx hb hr hlocks ⟨hw, rfl⟩ hP hS dX9_breach_47
      · have hw := hw.2 c9
        refine lv_aload_n hx hb dX9_breach_15 rfl (lv_at hl 0 rfl) ?_
        refine va_get hx hb hts iX9 hown hK hP 0 (xw_q0 ad cI cJ cZ σ0) rfl 5 (by decide) f47 (fun _ h9 => h9) rfl dX9_breach_16 ?_
        refine lv_aload_n hx hb dX9_breach_19 rfl (lv_at hl 0 rfl) ?_
        refine va_get hx hb hts iX9 hown hK hP 0 (xw_q0 ad cI cJ cZ σ0) rfl 1 (by decide) f19 (fun _ h9 => h9) rfl dX9_breach_20 ?_
        refine va_getN hx hb hts iX5 hown hK hP 2 (xw_q2 ad cI cJ cZ σ0) rfl 2 (by decide) n112 (fun _ h9 => h9) rfl dX9_breach_23 ?_
        refine lv_iload_n hx hb dX9_breach_26 rfl (lv_at hl 2 rfl) ?_
        obtain ⟨h9, hw⟩ := hw
        refine va_iald hx hb hK hP 13 0 (xw_q13 ad cI cJ cZ σ0) rfl h9 dX9_breach_27 ?_
        refine wd_cVi ⟨hx, hb, hml, hown, hts⟩ (mtX0_clashing l D ad cI cJ cZ A hD σ0 (σ0.2.1 3 v2.toNatClampNeg) _ hw) (cwV 1 hts gX9_breach_X0_clashing rfl rfl rfl (by decide +kernel) ⟨(Nat.le_of_ble_eq_true rfl), (Nat.le_of_ble_eq_true rfl)⟩) (va_recv hK hP (ci := 0) (q0 := 6) rfl (xw_q6 ad cI cJ cZ σ0)) hK hN hP hS rfl hl.1 rfl (Nat.le_of_ble_eq_true rfl) dX9_breach_28 ⟨Nat.zero_le _, Nat.zero_le _⟩ (fun r1 u9 H locs hq hP hS => ?_)
        obtain ⟨hw, hu⟩ := hq
        rw [hu] at hP
        refine lv_if_eq (tgt := 40) hx hb dX9_breach_31 (by decide) (fun c9 => ?_) (fun c9 => ?_)
        · have hw := hw.1 c9
          obtain ⟨x2, ex2⟩ : ∃ z : Int32, z = v2 + (1 : Int32) := ⟨_, rfl⟩
          refine lv_iinc (v := x2) (lv' := [(2, .int x2), (0, .ref (ad 0)), (1, .int v1)]) hx hb dX9_breach_40 hl (k := 2) rfl (by rw [ex2]; rfl) (by decide) rfl (fun ls hl => ?_)
          have hw := hw x2 ex2
          refine lv_goto (tgt := 4) hx hb dX9_breach_43 (by decide) ?_
          exact ih _ _ _ _ _ hw hP hS (lv_sub hl [1, 2, 0] rfl)
        · have hw := hw.2 c9
          refine lv_iload_n hx hb dX9_breach_34 rfl (lv_at hl 1 rfl) ?_
          refine lv_iconst (v := 1) hx hb dX9_breach_35 (by decide) ?_
          refine lv_iload_n hx hb dX9_breach_36 rfl (lv_at hl 2 rfl) ?_
          refine lv_ishl hx hb dX9_breach_37 ?_
          refine lv_ior hx hb dX9_breach_38 ?_
          refine lv_topi (fun x3 ex3 => ?_)
          have hw := hw x3 ex3
          refine lv_istore_n (lv' := [(1, .int x3), (0, .ref (ad 0)), (2, .int v2)]) hx hb dX9_breach_39 rfl hl (by decide) rfl (fun ls hl => ?_)
          obtain ⟨x4, ex4⟩ : ∃ z : Int32, z = v2 + (1 : Int32) := ⟨_, rfl⟩
          refine lv_iinc (v := x4) (lv' := [(2, .int x4), (1, .int x3), (0, .ref (ad 0))]) hx hb dX9_breach_40 hl (k := 2) rfl (by rw [ex4]; rfl) (by decide) rfl (fun ls hl => ?_)
          have hw := hw x4 ex4
          refine lv_goto (tgt := 4) hx hb dX9_breach_43 (by decide) ?_
          exact ih _ _ _ _ _ hw hP hS (lv_sub hl [2, 1, 0] rfl)
  have hl := lv_entry ([.ref (ad 0)]) (n := 3) (Nat.le_of_ble_eq_true rfl)
  rw [lg_entry_eq]
  generalize (lg_sl ([.ref (ad 0)]) ++ List.replicate (3 - (lg_sl ([.ref (ad 0)])).length) Slot.unset).toArray = ls at hl ⊢
  have hl : lv_has ls 3 [(0, .ref (ad 0))] := hl
  unfold wX9_breach at hw
  refine lv_iconst (v := 0) hx hb dX9_breach_0 (by decide) ?_
  refine lv_istore_n (lv' := [(1, .int (0 : Int32)), (0, .ref (ad 0))]) hx hb dX9_breach_1 rfl hl (by decide) rfl (fun ls hl => ?_)
  refine lv_iconst (v := 0) hx hb dX9_breach_2 (by decide) ?_
  refine lv_istore_n (lv' := [(2, .int (0 : Int32)), (1, .int (0 : Int32)), (0, .ref (ad 0))]) hx hb dX9_breach_3 rfl hl (by decide) rfl (fun ls hl => ?_)
  obtain ⟨n9, hw⟩ := hw
  refine L4 n9 (0 : Int32) (0 : Int32) _ _ _ hw hP hS (lv_sub hl [2, 1, 0] rfl)
def wX9_isLighter (a0 : Int32) (a1 : Int32) (a2 : Int32) (post : Int32 → Prop) : Prop := wJ6_bitCount_0f7a4 a0 (fun (r1 : Int32) => wJ6_bitCount_0f7a4 a1 (fun (r2 : Int32) => ∀ x3 : Int32, x3 = (r1 - r2) → ((x3 = 0 → (wJ6_bitCount_0f7a4 (a0 &&& a2) (fun (r4 : Int32) => wJ6_bitCount_0f7a4 (a1 &&& a2) (fun (r5 : Int32) => (r5 ≤ r4 → (post (0 : Int32))) ∧ (¬ r5 ≤ r4 → (post (1 : Int32))))))) ∧ (¬ x3 = 0 → ((0 ≤ x3 → (post (0 : Int32))) ∧ (¬ 0 ≤ x3 → (post (1 : Int32))))))))
set_option maxHeartbeats 4000000 in
set_option maxRecDepth 100000 in
theorem mtX9_isLighter (l : Launch) (D : va_G) (ad : Nat → Nat) (cI cJ cZ : ClassId) (A : Nat → Prop) (hD : ∀ σ : St, va_D A (xw ad cI cJ cZ σ)) (σ0 : St) (a0 : Int32) (a1 : Int32) (a2 : Int32) (post : Int32 → Prop) (hw : wX9_isLighter a0 a1 a2 post) : Met l yX9_isLighter wsX9_isLighter ({ frames := 1, cells := 0, slots := 0, locals := 20 } : Room) (va_Pc [.int a0, .int a1, .int a2] (wd_pre D (xw ad cI cJ cZ) (wd_tys cI cJ cZ) σ0)) (va_Qi (fun (r : Int32) (u : St) => post r ∧ u = σ0) (wd_B D (xw ad cI cJ cZ)) A) 0 0 A := by
  refine Met.ofW (cc := cX9_isLighter) (maxL := 4) (ret := (some .boolean)) (by decide) rfl ?_
  intro p e s m args below meth c s₁ B hml hv
  obtain ⟨rfl, hP, hK, hN⟩ := hv
  have hx := B.exec
  have hb := B.bytes
  have hr := B.returns
  have hts := atoms_spec (ws := wsX9_isLighter) B.pre
  have hown : s.vm.findClass RX9 = some m.cls := findClass_of_methodNamed B.named
  have hlocks := B.notSynchronized
  have hS : va_S A s.heap s.heap [] := va_S.rf
  have hl := lv_entry ([.int a0, .int a1, .int a2]) (n := 4) (Nat.le_of_ble_eq_true rfl)
  rw [lg_entry_eq]
  generalize (lg_sl ([.int a0, .int a1, .int a2]) ++ List.replicate (4 - (lg_sl ([.int a0, .int a1, .int a2])).length) Slot.unset).toArray = ls at hl ⊢
  have hl : lv_has ls 4 [(0, .int a0), (1, .int a1), (2, .int a2)] := hl
  unfold wX9_isLighter at hw
  refine lv_iload_n hx hb dX9_isLighter_0 rfl (lv_at hl 0 rfl) ?_
  refine wd_cSi ⟨hx, hb, hml, hown, hts⟩ (mtJ6_bitCount_0f7a4 l D ad cI cJ cZ A hD σ0 a0 _ hw) (va_cwS 1 hts gX9_isLighter_J6_bitCount_0f7a4 rfl rfl rfl (by decide +kernel) ⟨(Nat.le_of_ble_eq_true rfl), (Nat.le_of_ble_eq_true rfl)⟩) hK hN hP hS rfl hl.1 rfl (Nat.le_of_ble_eq_true rfl) dX9_isLighter_1 ⟨Nat.zero_le _, Nat.zero_le _⟩ (fun r1 u9 H locs hq hP hS => ?_)
  obtain ⟨hw, hu⟩ := hq
  rw [hu] at hP
  refine lv_iload_n hx hb dX9_isLighter_4 rfl (lv_at hl 1 rfl) ?_
  refine wd_cSi ⟨hx, hb, hml, hown, hts⟩ (mtJ6_bitCount_0f7a4 l D ad cI cJ cZ A hD σ0 a1 _ hw) (va_cwS 1 hts gX9_isLighter_J6_bitCount_0f7a4 rfl rfl rfl (by decide +kernel) ⟨(Nat.le_of_ble_eq_true rfl), (Nat.le_of_ble_eq_true rfl)⟩) hK hN hP hS rfl hl.1 rfl (Nat.le_of_ble_eq_true rfl) dX9_isLighter_5 ⟨Nat.zero_le _, Nat.zero_le _⟩ (fun r2 u9 H locs hq hP hS => ?_)
  obtain ⟨hw, hu⟩ := hq
  rw [hu] at hP
  refine lv_isub hx hb dX9_isLighter_8 ?_
  refine lv_topi (fun x3 ex3 => ?_)
  have hw := hw x3 ex3
  refine lv_istore_n (lv' := [(3, .int x3), (0, .int a0), (1, .int a1), (2, .int a2)]) hx hb dX9_isLighter_9 rfl hl (by decide) rfl (fun ls hl => ?_)
  refine lv_iload_n hx hb dX9_isLighter_10 rfl (lv_at hl 0 rfl) ?_
  refine lv_if_eq (tgt := 24) hx hb dX9_isLighter_11 (by decide) (fun c9 => ?_) (fun c9 => ?_)
  · have hw := hw.1 c9
    refine lv_iload_n hx hb dX9_isLighter_24 rfl (lv_at hl 1 rfl) ?_
    refine lv_iload_n hx hb dX9_isLighter_25 rfl (lv_at hl 3 rfl) ?_
    refine lv_iand hx hb dX9_isLighter_26 ?_
    refine wd_cSi ⟨hx, hb, hml, hown, hts⟩ (mtJ6_bitCount_0f7a4 l D ad cI cJ cZ A hD σ0 (a0 &&& a2) _ hw) (va_cwS 1 hts gX9_isLighter_J6_bitCount_0f7a4 rfl rfl rfl (by decide +kernel) ⟨(Nat.le_of_ble_eq_true rfl), (Nat.le_of_ble_eq_true rfl)⟩) hK hN hP hS rfl hl.1 rfl (Nat.le_of_ble_eq_true rfl) dX9_isLighter_27 ⟨Nat.zero_le _, Nat.zero_le _⟩ (fun r4 u9 H locs hq hP hS => ?_)
    obtain ⟨hw, hu⟩ := hq
    rw [hu] at hP
    refine lv_iload_n hx hb dX9_isLighter_30 rfl (lv_at hl 2 rfl) ?_
    refine lv_iload_n hx hb dX9_isLighter_31 rfl (lv_at hl 3 rfl) ?_
    refine lv_iand hx hb dX9_isLighter_32 ?_
    refine wd_cSi ⟨hx, hb, hml, hown, hts⟩ (mtJ6_bitCount_0f7a4 l D ad cI cJ cZ A hD σ0 (a1 &&& a2) _ hw) (va_cwS 1 hts gX9_isLighter_J6_bitCount_0f7a4 rfl rfl rfl (by decide +kernel) ⟨(Nat.le_of_ble_eq_true rfl), (Nat.le_of_ble_eq_true rfl)⟩) hK hN hP hS rfl hl.1 rfl (Nat.le_of_ble_eq_true rfl) dX9_isLighter_33 ⟨Nat.zero_le _, Nat.zero_le _⟩ (fun r5 u9 H locs hq hP hS => ?_)
    obtain ⟨hw, hu⟩ := hq
    rw [hu] at hP
    refine lv_icmp_ge (tgt := 43) hx hb dX9_isLighter_36 (by decide) (fun c9 => ?_) (fun c9 => ?_)
    · have hw := hw.1 c9
      refine lv_iconst (v := 0) hx hb dX9_isLighter_43 (by decide) ?_
      exact wd_zret hx hb hr hlocks (by decide) ⟨hw, rfl⟩ hP hS dX9_isLighter_44
    · have hw := hw.2 c9
      refine lv_iconst (v := 1) hx hb dX9_isLighter_39 (by decide) ?_
      refine lv_goto (tgt := 44) hx hb dX9_isLighter_40 (by decide) ?_
      exact wd_zret hx hb hr hlocks (by decide) ⟨hw, rfl⟩ hP hS dX9_isLighter_44
  · have hw := hw.2 c9
    refine lv_iload_n hx hb dX9_isLighter_14 rfl (lv_at hl 0 rfl) ?_
    refine lv_if_ge (tgt := 22) hx hb dX9_isLighter_15 (by decide) (fun c9 => ?_) (fun c9 => ?_)
    · have hw := hw.1 c9
      refine lv_iconst (v := 0) hx hb dX9_isLighter_22 (by decide) ?_
      exact wd_zret hx hb hr hlocks (by decide) ⟨hw, rfl⟩ hP hS dX9_isLighter_23
    · have hw := hw.2 c9
      refine lv_iconst (v := 1) hx hb dX9_isLighter_18 (by decide) ?_
      refine lv_goto (tgt := 23) hx hb dX9_isLighter_19 (by decide) ?_
      exact wd_zret hx hb hr hlocks (by decide) ⟨hw, rfl⟩ hP hS dX9_isLighter_23
def lpX9_least_48 (u2 : Int32) (u3 : Int32) (u4 : Int32) (σ0 : St) (post : Int32 → Prop) : Nat → Int32 → Int32 → Prop
  | 0, _, _ => False
  | n + 1, v5, v6 => (u3 ≤ v6 → (post v5)) ∧ (¬ u3 ≤ v6 → ((¬ (v6 &&& (u3 ^^^ (-1 : Int32))) = 0 → (∀ x5 : Int32, x5 = v6 + (1 : Int32) → (lpX9_least_48 u2 u3 u4 σ0 post n v5 x5))) ∧ ((v6 &&& (u3 ^^^ (-1 : Int32))) = 0 → (wX9_isLighter v6 v5 u4 (fun (r6 : Int32) => (r6 = 0 → (∀ x7 : Int32, x7 = v6 + (1 : Int32) → (lpX9_least_48 u2 u3 u4 σ0 post n v5 x7))) ∧ (¬ r6 = 0 → (wX0_clashing σ0 (u2 &&& (v6 ^^^ (-1 : Int32))) (fun (r8 : Int32) => (¬ r8 = 0 → (∀ x9 : Int32, x9 = v6 + (1 : Int32) → (lpX9_least_48 u2 u3 u4 σ0 post n v5 x9))) ∧ (r8 = 0 → (∀ x10 : Int32, x10 = v6 + (1 : Int32) → (lpX9_least_48 u2 u3 u4 σ0 post n v6 x10)))))))))))
def wX9_least (σ0 : St) (a1 : Int32) (post : Int32 → Prop) : Prop := wX9_noPerson σ0 a1 (fun (r1 : Int32) => (r1 = 0 → (vp_in a1 10 ∧ (∀ x2 : Int32, x2 = (σ0.2.1 3 a1.toNatClampNeg) → (wX0_clashing σ0 x2 (fun (r3 : Int32) => (¬ r3 = 0 → (wX9_keptOf σ0 a1 (fun (r4 : Int32) => ∃ n11 : Nat, lpX9_least_48 x2 r3 r4 σ0 post n11 r3 (1 : Int32)))) ∧ (r3 = 0 → (post (0 : Int32)))))))) ∧ (¬ r1 = 0 → (post (-1 : Int32))))
set_option maxHeartbeats 4000000 in
set_option maxRecDepth 100000 in
theorem mtX9_least (l : Launch) (D : va_G) (ad : Nat → Nat) (cI cJ cZ : ClassId) (A : Nat → Prop) (hD : ∀ σ : St, va_D A (xw ad cI cJ cZ σ)) (σ0 : St) (a1 : Int32) (post : Int32 → Prop) (hw : wX9_least σ0 a1 post) : Met l yX9_least wsX9_least ({ frames := 3, cells := 0, slots := 0, locals := 70 } : Room) (va_Pc [.ref (ad 0), .int a1] (wd_pre D (xw ad cI cJ cZ) (wd_tys cI cJ cZ) σ0)) (va_Qi (fun (r : Int32) (u : St) => post r ∧ u = σ0) (wd_B D (xw ad cI cJ cZ)) A) 0 0 A := by
  refine Met.ofW (cc := cX9_least) (maxL := 7) (ret := (some .int)) (by decide) rfl ?_
  intro p e s m args below meth c s₁ B hml hv
  obtain ⟨rfl, hP, hK, hN⟩ := hv
  have hx := B.exec
  have hb := B.bytes
  have hr := B.returns
  have hts := atoms_spec (ws := wsX9_least) B.pre
  have hown : s.vm.findClass RX9 = some m.cls := findClass_of_methodNamed B.named
  have hlocks := B.notSynchronized
  have hS : va_S A s.heap s.heap [] := va_S.rf
  have f19 := hts (.fieldLink RX9 19 "LeastRights" "folk" "LLeastRights$Folk;") (by decide +kernel)
  have iX9 : ∀ w ∈ wsX90, w ∈ wsX9_least := by decide +kernel
  have n112 := va_Nw.use (A := ([.ref (ad 0), .int a1] : List Value).toArray) rfl (hN.1 ("LeastRights", 112, "LeastRights$Folk", "rights", "[I") (by decide +kernel))
  have iX5 : ∀ w ∈ wsX50, w ∈ wsX9_least := by decide +kernel
  have f47 := hts (.fieldLink RX9 47 "LeastRights" "bans" "LLeastRights$Bans;") (by decide +kernel)
  have L48 : ∀ (u2 : Int32) (u3 : Int32) (u4 : Int32) (n : Nat) (v5 : Int32) (v6 : Int32) (H : Heap) (locs : List Loc) (ls : Array Slot), lpX9_least_48 u2 u3 u4 σ0 post n v5 v6 → va_P D vwCl (xw ad cI cJ cZ σ0) H → va_S A s.heap H locs → lv_has ls 7 [(0, .ref (ad 0)), (2, .int u2), (3, .int u3), (4, .int u4), (5, .int v5), (6, .int v6)] → W p l e (headSpec wsX9_least ({ frames := 3, cells := 0, slots := 0, locals := 70 } : Room)).room s m ([.ref (ad 0), .int a1] : List Value).toArray below meth c H locs 0 0 (MQ below (va_Qi (fun (r : Int32) (u : St) => post r ∧ u = σ0) (wd_B D (xw ad cI cJ cZ)) A) ([.ref (ad 0), .int a1] : List Value).toArray s 0 0 A) (F0 m 48 ls []) := by
    intro u2 u3 u4 n
    induction n with
    | zero => intro v5 v6 H locs ls hw; exact hw.elim
    | succ n ih =>
      intro v5 v6 H locs ls hw hP hS hl
      rw [lpX9_least_48] at hw
      refine lv_iload hx hb dX9_least_48 (lv_at hl 5 rfl) ?_
      refine lv_iload_n hx hb dX9_least_50 rfl (lv_at hl 2 rfl) ?_
      refine lv_icmp_ge (tgt := 101) hx hb dX9_least_51 (by decide) (fun c9 => ?_) (fun c9 => ?_)
      · have hw := hw.1 c9
        refine lv_iload hx hb dX9_least_101 (lv_at hl 4 rfl) ?_
        exact wd_iret hx hb hr hlocks ⟨hw, rfl⟩ hP hS dX9_least_103
      · have hw := hw.2 c9
        refine lv_iload hx hb dX9_least_54 (lv_at hl 5 rfl) ?_
        refine lv_iload_n hx hb dX9_least_56 rfl (lv_at hl 2 rfl) ?_
        refine lv_iconst (v := -1) hx hb dX9_least_57 (by decide) ?_
        refine lv_ixor hx hb dX9_least_58 ?_
        refine lv_iand hx hb dX9_least_59 ?_
        refine lv_if_ne (tgt := 95) hx hb dX9_least_60 (by decide) (fun c9 => ?_) (fun c9 => ?_)
        · have hw := hw.1 c9
          obtain ⟨x5, ex5⟩ : ∃ z : Int32, z = v6 + (1 : Int32) := ⟨_, rfl⟩
          refine lv_iinc (v := x5) (lv' := [(6, .int x5), (0, .ref (ad 0)), (2, .int u2), (3, .int u3), (4, .int u4), (5, .int v5)]) hx hb dX9_least_95 hl (k := 5) rfl (by rw [ex5]; rfl) (by decide) rfl (fun ls hl => ?_)
          have hw := hw x5 ex5
          refine lv_goto (tgt := 48) hx hb dX9_least_98 (by decide) ?_
          exact ih _ _ _ _ _ hw hP hS (lv_sub hl [1, 2, 3, 4, 5, 0] rfl)
        · have hw := hw.2 c9
          refine lv_iload hx hb dX9_least_63 (lv_at hl 5 rfl) ?_
          refine lv_iload hx hb dX9_least_65 (lv_at hl 4 rfl) ?_
          refine lv_iload hx hb dX9_least_67 (lv_at hl 3 rfl) ?_
          refine wd_cSi ⟨hx, hb, hml, hown, hts⟩ (mtX9_isLighter l D ad cI cJ cZ A hD σ0 v6 v5 u4 _ hw) (va_cwS 3 hts gX9_least_X9_isLighter rfl rfl rfl (by decide +kernel) ⟨(Nat.le_of_ble_eq_true rfl), (Nat.le_of_ble_eq_true rfl)⟩) hK hN hP hS rfl hl.1 rfl (Nat.le_of_ble_eq_true rfl) dX9_least_69 ⟨Nat.zero_le _, Nat.zero_le _⟩ (fun r6 u9 H locs hq hP hS => ?_)
          obtain ⟨hw, hu⟩ := hq
          rw [hu] at hP
          refine lv_if_eq (tgt := 95) hx hb dX9_least_72 (by decide) (fun c9 => ?_) (fun c9 => ?_)
          · have hw := hw.1 c9
            obtain ⟨x7, ex7⟩ : ∃ z : Int32, z = v6 + (1 : Int32) := ⟨_, rfl⟩
            refine lv_iinc (v := x7) (lv' := [(6, .int x7), (0, .ref (ad 0)), (2, .int u2), (3, .int u3), (4, .int u4), (5, .int v5)]) hx hb dX9_least_95 hl (k := 5) rfl (by rw [ex7]; rfl) (by decide) rfl (fun ls hl => ?_)
            have hw := hw x7 ex7
            refine lv_goto (tgt := 48) hx hb dX9_least_98 (by decide) ?_
            exact ih _ _ _ _ _ hw hP hS (lv_sub hl [1, 2, 3, 4, 5, 0] rfl)
          · have hw := hw.2 c9
            refine lv_aload_n hx hb dX9_least_75 rfl (lv_at hl 0 rfl) ?_
            refine va_get hx hb hts iX9 hown hK hP 0 (xw_q0 ad cI cJ cZ σ0) rfl 5 (by decide) f47 (fun _ h9 => h9) rfl dX9_least_76 ?_
            refine lv_iload_n hx hb dX9_least_79 rfl (lv_at hl 1 rfl) ?_
            refine lv_iload hx hb dX9_least_80 (lv_at hl 5 rfl) ?_
            refine lv_iconst (v := -1) hx hb dX9_least_82 (by decide) ?_
            refine lv_ixor hx hb dX9_least_83 ?_
            refine lv_iand hx hb dX9_least_84 ?_
            refine wd_cVi ⟨hx, hb, hml, hown, hts⟩ (mtX0_clashing l D ad cI cJ cZ A hD σ0 (u2 &&& (v6 ^^^ (-1 : Int32))) _ hw) (cwV 1 hts gX9_least_X0_clashing rfl rfl rfl (by decide +kernel) ⟨(Nat.le_of_ble_eq_true rfl), (Nat.le_of_ble_eq_true rfl)⟩) (va_recv hK hP (ci := 0) (q0 := 6) rfl (xw_q6 ad cI cJ cZ σ0)) hK hN hP hS rfl hl.1 rfl (Nat.le_of_ble_eq_true rfl) dX9_least_85 ⟨Nat.zero_le _, Nat.zero_le _⟩ (fun r8 u9 H locs hq hP hS => ?_)
            obtain ⟨hw, hu⟩ := hq
            rw [hu] at hP
            refine lv_if_ne (tgt := 95) hx hb dX9_least_88 (by decide) (fun c9 => ?_) (fun c9 => ?_)
            · have hw := hw.1 c9
              obtain ⟨x9, ex9⟩ : ∃ z : Int32, z = v6 + (1 : Int32) := ⟨_, rfl⟩
              refine lv_iinc (v := x9) (lv' := [(6, .int x9), (0, .ref (ad 0)), (2, .int u2), (3, .int u3), (4, .int u4), (5, .int v5)]) hx hb dX9_least_95 hl (k := 5) rfl (by rw [ex9]; rfl) (by decide) rfl (fun ls hl => ?_)
              have hw := hw x9 ex9
              refine lv_goto (tgt := 48) hx hb dX9_least_98 (by decide) ?_
              exact ih _ _ _ _ _ hw hP hS (lv_sub hl [1, 2, 3, 4, 5, 0] rfl)
            · have hw := hw.2 c9
              refine lv_iload hx hb dX9_least_91 (lv_at hl 5 rfl) ?_
              refine lv_istore (lv' := [(5, .int v6), (0, .ref (ad 0)), (2, .int u2), (3, .int u3), (4, .int u4), (6, .int v6)]) hx hb dX9_least_93 hl (by decide) rfl (fun ls hl => ?_)
              obtain ⟨x10, ex10⟩ : ∃ z : Int32, z = v6 + (1 : Int32) := ⟨_, rfl⟩
              refine lv_iinc (v := x10) (lv' := [(6, .int x10), (5, .int v6), (0, .ref (ad 0)), (2, .int u2), (3, .int u3), (4, .int u4)]) hx hb dX9_least_95 hl (k := 5) rfl (by rw [ex10]; rfl) (by decide) rfl (fun ls hl => ?_)
              have hw := hw x10 ex10
              refine lv_goto (tgt := 48) hx hb dX9_least_98 (by decide) ?_
              exact ih _ _ _ _ _ hw hP hS (lv_sub hl [2, 3, 4, 5, 1, 0] rfl)
  have hl := lv_entry ([.ref (ad 0), .int a1]) (n := 7) (Nat.le_of_ble_eq_true rfl)
  rw [lg_entry_eq]
  generalize (lg_sl ([.ref (ad 0), .int a1]) ++ List.replicate (7 - (lg_sl ([.ref (ad 0), .int a1])).length) Slot.unset).toArray = ls at hl ⊢
  have hl : lv_has ls 7 [(0, .ref (ad 0)), (1, .int a1)] := hl
  unfold wX9_least at hw
  refine lv_aload_n hx hb dX9_least_0 rfl (lv_at hl 0 rfl) ?_
  refine lv_iload_n hx hb dX9_least_1 rfl (lv_at hl 1 rfl) ?_
  refine wd_cVi ⟨hx, hb, hml, hown, hts⟩ (mtX9_noPerson l D ad cI cJ cZ A hD σ0 a1 _ hw) (cwV 1 hts gX9_least_X9_noPerson rfl rfl rfl (by decide +kernel) ⟨(Nat.le_of_ble_eq_true rfl), (Nat.le_of_ble_eq_true rfl)⟩) (va_recv hK hP (ci := 9) (q0 := 0) rfl (xw_q0 ad cI cJ cZ σ0)) hK hN hP hS rfl hl.1 rfl (Nat.le_of_ble_eq_true rfl) dX9_least_2 ⟨Nat.zero_le _, Nat.zero_le _⟩ (fun r1 u9 H locs hq hP hS => ?_)
  obtain ⟨hw, hu⟩ := hq
  rw [hu] at hP
  refine lv_if_eq (tgt := 10) hx hb dX9_least_5 (by decide) (fun c9 => ?_) (fun c9 => ?_)
  · have hw := hw.1 c9
    refine lv_aload_n hx hb dX9_least_10 rfl (lv_at hl 0 rfl) ?_
    refine va_get hx hb hts iX9 hown hK hP 0 (xw_q0 ad cI cJ cZ σ0) rfl 1 (by decide) f19 (fun _ h9 => h9) rfl dX9_least_11 ?_
    refine va_getN hx hb hts iX5 hown hK hP 2 (xw_q2 ad cI cJ cZ σ0) rfl 2 (by decide) n112 (fun _ h9 => h9) rfl dX9_least_14 ?_
    refine lv_iload_n hx hb dX9_least_17 rfl (lv_at hl 1 rfl) ?_
    obtain ⟨h9, hw⟩ := hw
    refine va_iald hx hb hK hP 13 0 (xw_q13 ad cI cJ cZ σ0) rfl h9 dX9_least_18 ?_
    refine lv_topi (fun x2 ex2 => ?_)
    have hw := hw x2 ex2
    refine lv_istore_n (lv' := [(2, .int x2), (0, .ref (ad 0)), (1, .int a1)]) hx hb dX9_least_19 rfl hl (by decide) rfl (fun ls hl => ?_)
    refine lv_aload_n hx hb dX9_least_20 rfl (lv_at hl 1 rfl) ?_
    refine va_get hx hb hts iX9 hown hK hP 0 (xw_q0 ad cI cJ cZ σ0) rfl 5 (by decide) f47 (fun _ h9 => h9) rfl dX9_least_21 ?_
    refine lv_iload_n hx hb dX9_least_24 rfl (lv_at hl 0 rfl) ?_
    refine wd_cVi ⟨hx, hb, hml, hown, hts⟩ (mtX0_clashing l D ad cI cJ cZ A hD σ0 x2 _ hw) (cwV 1 hts gX9_least_X0_clashing rfl rfl rfl (by decide +kernel) ⟨(Nat.le_of_ble_eq_true rfl), (Nat.le_of_ble_eq_true rfl)⟩) (va_recv hK hP (ci := 0) (q0 := 6) rfl (xw_q6 ad cI cJ cZ σ0)) hK hN hP hS rfl hl.1 rfl (Nat.le_of_ble_eq_true rfl) dX9_least_25 ⟨Nat.zero_le _, Nat.zero_le _⟩ (fun r3 u9 H locs hq hP hS => ?_)
    obtain ⟨hw, hu⟩ := hq
    rw [hu] at hP
    refine lv_istore_n (lv' := [(3, .int r3), (2, .int x2), (0, .ref (ad 0)), (1, .int a1)]) hx hb dX9_least_28 rfl hl (by decide) rfl (fun ls hl => ?_)
    refine lv_iload_n hx hb dX9_least_29 rfl (lv_at hl 0 rfl) ?_
    refine lv_if_ne (tgt := 35) hx hb dX9_least_30 (by decide) (fun c9 => ?_) (fun c9 => ?_)
    · have hw := hw.1 c9
      refine lv_aload_n hx hb dX9_least_35 rfl (lv_at hl 2 rfl) ?_
      refine lv_iload_n hx hb dX9_least_36 rfl (lv_at hl 3 rfl) ?_
      refine wd_cVi ⟨hx, hb, hml, hown, hts⟩ (mtX9_keptOf l D ad cI cJ cZ A hD σ0 a1 _ hw) (cwV 1 hts gX9_least_X9_keptOf rfl rfl rfl (by decide +kernel) ⟨(Nat.le_of_ble_eq_true rfl), (Nat.le_of_ble_eq_true rfl)⟩) (va_recv hK hP (ci := 9) (q0 := 0) rfl (xw_q0 ad cI cJ cZ σ0)) hK hN hP hS rfl hl.1 rfl (Nat.le_of_ble_eq_true rfl) dX9_least_37 ⟨Nat.zero_le _, Nat.zero_le _⟩ (fun r4 u9 H locs hq hP hS => ?_)
      obtain ⟨hw, hu⟩ := hq
      rw [hu] at hP
      refine lv_istore (lv' := [(4, .int r4), (3, .int r3), (2, .int x2), (0, .ref (ad 0)), (1, .int a1)]) hx hb dX9_least_40 hl (by decide) rfl (fun ls hl => ?_)
      refine lv_iload_n hx hb dX9_least_42 rfl (lv_at hl 1 rfl) ?_
      refine lv_istore (lv' := [(5, .int r3), (4, .int r4), (3, .int r3), (2, .int x2), (0, .ref (ad 0)), (1, .int a1)]) hx hb dX9_least_43 hl (by decide) rfl (fun ls hl => ?_)
      refine lv_iconst (v := 1) hx hb dX9_least_45 (by decide) ?_
      refine lv_istore (lv' := [(6, .int (1 : Int32)), (5, .int r3), (4, .int r4), (3, .int r3), (2, .int x2), (0, .ref (ad 0)), (1, .int a1)]) hx hb dX9_least_46 hl (by decide) rfl (fun ls hl => ?_)
      obtain ⟨n9, hw⟩ := hw
      refine L48 x2 r3 r4 n9 r3 (1 : Int32) _ _ _ hw hP hS (lv_sub hl [5, 4, 3, 2, 1, 0] rfl)
    · have hw := hw.2 c9
      refine lv_iconst (v := 0) hx hb dX9_least_33 (by decide) ?_
      exact wd_iret hx hb hr hlocks ⟨hw, rfl⟩ hP hS dX9_least_34
  · have hw := hw.2 c9
    refine lv_iconst (v := -1) hx hb dX9_least_8 (by decide) ?_
    exact wd_iret hx hb hr hlocks ⟨hw, rfl⟩ hP hS dX9_least_9
def lpX9_badRole_2 (σ0 : St) (post : Int32 → Prop) : Nat → Int32 → Prop
  | 0, _ => False
  | n + 1, v1 => ((σ0.1 9) ≤ v1 → (post (-9 : Int32))) ∧ (¬ (σ0.1 9) ≤ v1 → (vp_in v1 120 ∧ (wX0_clashing σ0 (σ0.2.1 11 v1.toNatClampNeg) (fun (r1 : Int32) => (r1 = 0 → (∀ x2 : Int32, x2 = v1 + (1 : Int32) → (lpX9_badRole_2 σ0 post n x2))) ∧ (¬ r1 = 0 → (post v1))))))
def wX9_badRole (σ0 : St) (post : Int32 → Prop) : Prop := ∃ n3 : Nat, lpX9_badRole_2 σ0 post n3 (0 : Int32)
set_option maxHeartbeats 4000000 in
set_option maxRecDepth 100000 in
theorem mtX9_badRole (l : Launch) (D : va_G) (ad : Nat → Nat) (cI cJ cZ : ClassId) (A : Nat → Prop) (hD : ∀ σ : St, va_D A (xw ad cI cJ cZ σ)) (σ0 : St) (post : Int32 → Prop) (hw : wX9_badRole σ0 post) : Met l yX9_badRole wsX9_badRole ({ frames := 1, cells := 0, slots := 0, locals := 23 } : Room) (va_Pc [.ref (ad 0)] (wd_pre D (xw ad cI cJ cZ) (wd_tys cI cJ cZ) σ0)) (va_Qi (fun (r : Int32) (u : St) => post r ∧ u = σ0) (wd_B D (xw ad cI cJ cZ)) A) 0 0 A := by
  refine Met.ofW (cc := cX9_badRole) (maxL := 2) (ret := (some .int)) (by decide) rfl ?_
  intro p e s m args below meth c s₁ B hml hv
  obtain ⟨rfl, hP, hK, hN⟩ := hv
  have hx := B.exec
  have hb := B.bytes
  have hr := B.returns
  have hts := atoms_spec (ws := wsX9_badRole) B.pre
  have hown : s.vm.findClass RX9 = some m.cls := findClass_of_methodNamed B.named
  have hlocks := B.notSynchronized
  have hS : va_S A s.heap s.heap [] := va_S.rf
  have f40 := hts (.fieldLink RX9 40 "LeastRights" "tree" "LLeastRights$RoleTree;") (by decide +kernel)
  have iX9 : ∀ w ∈ wsX90, w ∈ wsX9_badRole := by decide +kernel
  have n180 := va_Nw.use (A := ([.ref (ad 0)] : List Value).toArray) rfl (hN.1 ("LeastRights", 180, "LeastRights$RoleTree", "size", "I") (by decide +kernel))
  have iX6 : ∀ w ∈ wsX60, w ∈ wsX9_badRole := by decide +kernel
  have f47 := hts (.fieldLink RX9 47 "LeastRights" "bans" "LLeastRights$Bans;") (by decide +kernel)
  have n184 := va_Nw.use (A := ([.ref (ad 0)] : List Value).toArray) rfl (hN.1 ("LeastRights", 184, "LeastRights$RoleTree", "fewestRow", "[I") (by decide +kernel))
  have L2 : ∀ (n : Nat) (v1 : Int32) (H : Heap) (locs : List Loc) (ls : Array Slot), lpX9_badRole_2 σ0 post n v1 → va_P D vwCl (xw ad cI cJ cZ σ0) H → va_S A s.heap H locs → lv_has ls 2 [(0, .ref (ad 0)), (1, .int v1)] → W p l e (headSpec wsX9_badRole ({ frames := 1, cells := 0, slots := 0, locals := 23 } : Room)).room s m ([.ref (ad 0)] : List Value).toArray below meth c H locs 0 0 (MQ below (va_Qi (fun (r : Int32) (u : St) => post r ∧ u = σ0) (wd_B D (xw ad cI cJ cZ)) A) ([.ref (ad 0)] : List Value).toArray s 0 0 A) (F0 m 2 ls []) := by
    intro n
    induction n with
    | zero => intro v1 H locs ls hw; exact hw.elim
    | succ n ih =>
      intro v1 H locs ls hw hP hS hl
      rw [lpX9_badRole_2] at hw
      refine lv_iload_n hx hb dX9_badRole_2 rfl (lv_at hl 1 rfl) ?_
      refine lv_aload_n hx hb dX9_badRole_3 rfl (lv_at hl 0 rfl) ?_
      refine va_get hx hb hts iX9 hown hK hP 0 (xw_q0 ad cI cJ cZ σ0) rfl 4 (by decide) f40 (fun _ h9 => h9) rfl dX9_badRole_4 ?_
      refine va_getN hx hb hts iX6 hown hK hP 5 (xw_q5 ad cI cJ cZ σ0) rfl 0 (by decide) n180 (fun _ h9 => h9) rfl dX9_badRole_7 ?_
      refine lv_icmp_ge (tgt := 40) hx hb dX9_badRole_10 (by decide) (fun c9 => ?_) (fun c9 => ?_)
      · have hw := hw.1 c9
        refine lv_bipush (v := -9) hx hb dX9_badRole_40 (by decide) ?_
        exact wd_iret hx hb hr hlocks ⟨hw, rfl⟩ hP hS dX9_badRole_42
      · have hw := hw.2 c9
        refine lv_aload_n hx hb dX9_badRole_13 rfl (lv_at hl 0 rfl) ?_
        refine va_get hx hb hts iX9 hown hK hP 0 (xw_q0 ad cI cJ cZ σ0) rfl 5 (by decide) f47 (fun _ h9 => h9) rfl dX9_badRole_14 ?_
        refine lv_aload_n hx hb dX9_badRole_17 rfl (lv_at hl 0 rfl) ?_
        refine va_get hx hb hts iX9 hown hK hP 0 (xw_q0 ad cI cJ cZ σ0) rfl 4 (by decide) f40 (fun _ h9 => h9) rfl dX9_badRole_18 ?_
        refine va_getN hx hb hts iX6 hown hK hP 5 (xw_q5 ad cI cJ cZ σ0) rfl 3 (by decide) n184 (fun _ h9 => h9) rfl dX9_badRole_21 ?_
        refine lv_iload_n hx hb dX9_badRole_24 rfl (lv_at hl 1 rfl) ?_
        obtain ⟨h9, hw⟩ := hw
        refine va_iald hx hb hK hP 21 0 (xw_q21 ad cI cJ cZ σ0) rfl h9 dX9_badRole_25 ?_
        refine wd_cVi ⟨hx, hb, hml, hown, hts⟩ (mtX0_clashing l D ad cI cJ cZ A hD σ0 (σ0.2.1 11 v1.toNatClampNeg) _ hw) (cwV 1 hts gX9_badRole_X0_clashing rfl rfl rfl (by decide +kernel) ⟨(Nat.le_of_ble_eq_true rfl), (Nat.le_of_ble_eq_true rfl)⟩) (va_recv hK hP (ci := 0) (q0 := 6) rfl (xw_q6 ad cI cJ cZ σ0)) hK hN hP hS rfl hl.1 rfl (Nat.le_of_ble_eq_true rfl) dX9_badRole_26 ⟨Nat.zero_le _, Nat.zero_le _⟩ (fun r1 u9 H locs hq hP hS => ?_)
        obtain ⟨hw, hu⟩ := hq
        rw [hu] at hP
        refine lv_if_eq (tgt := 34) hx hb dX9_badRole_29 (by decide) (fun c9 => ?_) (fun c9 => ?_)
        · have hw := hw.1 c9
          obtain ⟨x2, ex2⟩ : ∃ z : Int32, z = v1 + (1 : Int32) := ⟨_, rfl⟩
          refine lv_iinc (v := x2) (lv' := [(1, .int x2), (0, .ref (ad 0))]) hx hb dX9_badRole_34 hl (k := 1) rfl (by rw [ex2]; rfl) (by decide) rfl (fun ls hl => ?_)
          have hw := hw x2 ex2
          refine lv_goto (tgt := 2) hx hb dX9_badRole_37 (by decide) ?_
          exact ih _ _ _ _ hw hP hS (lv_sub hl [1, 0] rfl)
        · have hw := hw.2 c9
          refine lv_iload_n hx hb dX9_badRole_32 rfl (lv_at hl 1 rfl) ?_
          exact wd_iret hx hb hr hlocks ⟨hw, rfl⟩ hP hS dX9_badRole_33
  have hl := lv_entry ([.ref (ad 0)]) (n := 2) (Nat.le_of_ble_eq_true rfl)
  rw [lg_entry_eq]
  generalize (lg_sl ([.ref (ad 0)]) ++ List.replicate (2 - (lg_sl ([.ref (ad 0)])).length) Slot.unset).toArray = ls at hl ⊢
  have hl : lv_has ls 2 [(0, .ref (ad 0))] := hl
  unfold wX9_badRole at hw
  refine lv_iconst (v := 0) hx hb dX9_badRole_0 (by decide) ?_
  refine lv_istore_n (lv' := [(1, .int (0 : Int32)), (0, .ref (ad 0))]) hx hb dX9_badRole_1 rfl hl (by decide) rfl (fun ls hl => ?_)
  obtain ⟨n9, hw⟩ := hw
  refine L2 n9 (0 : Int32) _ _ _ hw hP hS (lv_sub hl [1, 0] rfl)
def wX9_plan (σ0 : St) (a1 : Int32) (post : Int32 → St → Prop) : Prop := (a1 = 0 → ((a1 = 0 → (wX3_make σ0 3 10 (σ0.1 6) (fun (r1 : Int32) (σ2 : St) => post r1 σ2))) ∧ (¬ a1 = 0 → (wX3_make σ0 0 10 (σ0.1 6) (fun (r3 : Int32) (σ4 : St) => post r3 σ4))))) ∧ (¬ a1 = 0 → (wX9_lookAtKept σ0 (fun (σ5 : St) => (a1 = 0 → (wX3_make σ5 3 10 (σ5.1 6) (fun (r6 : Int32) (σ7 : St) => post r6 σ7))) ∧ (¬ a1 = 0 → (wX3_make σ5 0 10 (σ5.1 6) (fun (r8 : Int32) (σ9 : St) => post r8 σ9))))))
set_option maxHeartbeats 4000000 in
set_option maxRecDepth 100000 in
theorem mtX9_plan (l : Launch) (D : va_G) (ad : Nat → Nat) (cI cJ cZ : ClassId) (A : Nat → Prop) (hD : ∀ σ : St, va_D A (xw ad cI cJ cZ σ)) (σ0 : St) (a1 : Int32) (post : Int32 → St → Prop) (hw : wX9_plan σ0 a1 post) : Met l yX9_plan wsX9_plan ({ frames := 4, cells := 0, slots := 0, locals := 91 } : Room) (va_Pc [.ref (ad 0), .int a1] (wd_pre D (xw ad cI cJ cZ) (wd_tys cI cJ cZ) σ0)) (va_Qi post (wd_B D (xw ad cI cJ cZ)) A) 0 0 A := by
  refine Met.ofW (cc := cX9_plan) (maxL := 2) (ret := (some .int)) (by decide) rfl ?_
  intro p e s m args below meth c s₁ B hml hv
  obtain ⟨rfl, hP, hK, hN⟩ := hv
  have hx := B.exec
  have hb := B.bytes
  have hr := B.returns
  have hts := atoms_spec (ws := wsX9_plan) B.pre
  have hown : s.vm.findClass RX9 = some m.cls := findClass_of_methodNamed B.named
  have hlocks := B.notSynchronized
  have hS : va_S A s.heap s.heap [] := va_S.rf
  have f54 := hts (.fieldLink RX9 54 "LeastRights" "draft" "LLeastRights$Draft;") (by decide +kernel)
  have iX9 : ∀ w ∈ wsX90, w ∈ wsX9_plan := by decide +kernel
  have f19 := hts (.fieldLink RX9 19 "LeastRights" "folk" "LLeastRights$Folk;") (by decide +kernel)
  have n112 := va_Nw.use (A := ([.ref (ad 0), .int a1] : List Value).toArray) rfl (hN.1 ("LeastRights", 112, "LeastRights$Folk", "rights", "[I") (by decide +kernel))
  have iX5 : ∀ w ∈ wsX50, w ∈ wsX9_plan := by decide +kernel
  have n93 := va_Nw.use (A := ([.ref (ad 0), .int a1] : List Value).toArray) rfl (hN.1 ("LeastRights", 93, "LeastRights$Folk", "size", "I") (by decide +kernel))
  have f72 := hts (.fieldLink RX9 72 "LeastRights" "keptRow" "[I") (by decide +kernel)
  have hl := lv_entry ([.ref (ad 0), .int a1]) (n := 2) (Nat.le_of_ble_eq_true rfl)
  rw [lg_entry_eq]
  generalize (lg_sl ([.ref (ad 0), .int a1]) ++ List.replicate (2 - (lg_sl ([.ref (ad 0), .int a1])).length) Slot.unset).toArray = ls at hl ⊢
  have hl : lv_has ls 2 [(0, .ref (ad 0)), (1, .int a1)] := hl
  unfold wX9_plan at hw
  refine lv_iload_n hx hb dX9_plan_0 rfl (lv_at hl 1 rfl) ?_
  refine lv_if_eq (tgt := 8) hx hb dX9_plan_1 (by decide) (fun c9 => ?_) (fun c9 => ?_)
  · have hw := hw.1 c9
    refine lv_aload_n hx hb dX9_plan_8 rfl (lv_at hl 0 rfl) ?_
    refine va_get hx hb hts iX9 hown hK hP 0 (xw_q0 ad cI cJ cZ σ0) rfl 6 (by decide) f54 (fun _ h9 => h9) rfl dX9_plan_9 ?_
    refine lv_iload_n hx hb dX9_plan_12 rfl (lv_at hl 1 rfl) ?_
    refine lv_if_eq (tgt := 23) hx hb dX9_plan_13 (by decide) (fun c9 => ?_) (fun c9 => ?_)
    · have hw := hw.1 c9
      refine lv_aload_n hx hb dX9_plan_23 rfl (lv_at hl 0 rfl) ?_
      refine va_get hx hb hts iX9 hown hK hP 0 (xw_q0 ad cI cJ cZ σ0) rfl 1 (by decide) f19 (fun _ h9 => h9) rfl dX9_plan_24 ?_
      refine va_getN hx hb hts iX5 hown hK hP 2 (xw_q2 ad cI cJ cZ σ0) rfl 2 (by decide) n112 (fun _ h9 => h9) rfl dX9_plan_27 ?_
      refine lv_aload_n hx hb dX9_plan_30 rfl (lv_at hl 0 rfl) ?_
      refine va_get hx hb hts iX9 hown hK hP 0 (xw_q0 ad cI cJ cZ σ0) rfl 1 (by decide) f19 (fun _ h9 => h9) rfl dX9_plan_31 ?_
      refine va_getN hx hb hts iX5 hown hK hP 2 (xw_q2 ad cI cJ cZ σ0) rfl 0 (by decide) n93 (fun _ h9 => h9) rfl dX9_plan_34 ?_
      refine wd_cVi ⟨hx, hb, hml, hown, hts⟩ (mtX3_make l D ad cI cJ cZ A hD σ0 (ad 13) 13 3 10 (xw_q13 ad cI cJ cZ) (σ0.1 6) _ hw) (cwV 2 hts gX9_plan_X3_make rfl rfl rfl (by decide +kernel) ⟨(Nat.le_of_ble_eq_true rfl), (Nat.le_of_ble_eq_true rfl)⟩) (va_recv hK hP (ci := 3) (q0 := 7) rfl (xw_q7 ad cI cJ cZ σ0)) hK hN hP hS rfl hl.1 rfl (Nat.le_of_ble_eq_true rfl) dX9_plan_37 ⟨Nat.zero_le _, Nat.zero_le _⟩ (fun r1 σ2 H locs hw hP hS => ?_)
      exact wd_iret hx hb hr hlocks hw hP hS dX9_plan_40
    · have hw := hw.2 c9
      refine lv_aload_n hx hb dX9_plan_16 rfl (lv_at hl 0 rfl) ?_
      refine va_get hx hb hts iX9 hown hK hP 0 (xw_q0 ad cI cJ cZ σ0) rfl 9 (by decide) f72 (fun _ h9 => h9) rfl dX9_plan_17 ?_
      refine lv_goto (tgt := 30) hx hb dX9_plan_20 (by decide) ?_
      refine lv_aload_n hx hb dX9_plan_30 rfl (lv_at hl 0 rfl) ?_
      refine va_get hx hb hts iX9 hown hK hP 0 (xw_q0 ad cI cJ cZ σ0) rfl 1 (by decide) f19 (fun _ h9 => h9) rfl dX9_plan_31 ?_
      refine va_getN hx hb hts iX5 hown hK hP 2 (xw_q2 ad cI cJ cZ σ0) rfl 0 (by decide) n93 (fun _ h9 => h9) rfl dX9_plan_34 ?_
      refine wd_cVi ⟨hx, hb, hml, hown, hts⟩ (mtX3_make l D ad cI cJ cZ A hD σ0 (ad 10) 10 0 10 (xw_q10 ad cI cJ cZ) (σ0.1 6) _ hw) (cwV 2 hts gX9_plan_X3_make rfl rfl rfl (by decide +kernel) ⟨(Nat.le_of_ble_eq_true rfl), (Nat.le_of_ble_eq_true rfl)⟩) (va_recv hK hP (ci := 3) (q0 := 7) rfl (xw_q7 ad cI cJ cZ σ0)) hK hN hP hS rfl hl.1 rfl (Nat.le_of_ble_eq_true rfl) dX9_plan_37 ⟨Nat.zero_le _, Nat.zero_le _⟩ (fun r3 σ4 H locs hw hP hS => ?_)
      exact wd_iret hx hb hr hlocks hw hP hS dX9_plan_40
  · have hw := hw.2 c9
    refine lv_aload_n hx hb dX9_plan_4 rfl (lv_at hl 0 rfl) ?_
    refine wd_cVv ⟨hx, hb, hml, hown, hts⟩ (mtX9_lookAtKept l D ad cI cJ cZ A hD σ0  _ hw) (cwV 0 hts gX9_plan_X9_lookAtKept rfl rfl rfl (by decide +kernel) ⟨(Nat.le_of_ble_eq_true rfl), (Nat.le_of_ble_eq_true rfl)⟩) (va_recv hK hP (ci := 9) (q0 := 0) rfl (xw_q0 ad cI cJ cZ σ0)) hK hN hP hS rfl hl.1 rfl (Nat.le_of_ble_eq_true rfl) dX9_plan_5 ⟨Nat.zero_le _, Nat.zero_le _⟩ (fun σ5 H locs hw hP hS => ?_)
    refine lv_aload_n hx hb dX9_plan_8 rfl (lv_at hl 0 rfl) ?_
    refine va_get hx hb hts iX9 hown hK hP 0 (xw_q0 ad cI cJ cZ σ5) rfl 6 (by decide) f54 (fun _ h9 => h9) rfl dX9_plan_9 ?_
    refine lv_iload_n hx hb dX9_plan_12 rfl (lv_at hl 1 rfl) ?_
    refine lv_if_eq (tgt := 23) hx hb dX9_plan_13 (by decide) (fun c9 => ?_) (fun c9 => ?_)
    · have hw := hw.1 c9
      refine lv_aload_n hx hb dX9_plan_23 rfl (lv_at hl 0 rfl) ?_
      refine va_get hx hb hts iX9 hown hK hP 0 (xw_q0 ad cI cJ cZ σ5) rfl 1 (by decide) f19 (fun _ h9 => h9) rfl dX9_plan_24 ?_
      refine va_getN hx hb hts iX5 hown hK hP 2 (xw_q2 ad cI cJ cZ σ5) rfl 2 (by decide) n112 (fun _ h9 => h9) rfl dX9_plan_27 ?_
      refine lv_aload_n hx hb dX9_plan_30 rfl (lv_at hl 0 rfl) ?_
      refine va_get hx hb hts iX9 hown hK hP 0 (xw_q0 ad cI cJ cZ σ5) rfl 1 (by decide) f19 (fun _ h9 => h9) rfl dX9_plan_31 ?_
      refine va_getN hx hb hts iX5 hown hK hP 2 (xw_q2 ad cI cJ cZ σ5) rfl 0 (by decide) n93 (fun _ h9 => h9) rfl dX9_plan_34 ?_
      refine wd_cVi ⟨hx, hb, hml, hown, hts⟩ (mtX3_make l D ad cI cJ cZ A hD σ5 (ad 13) 13 3 10 (xw_q13 ad cI cJ cZ) (σ5.1 6) _ hw) (cwV 2 hts gX9_plan_X3_make rfl rfl rfl (by decide +kernel) ⟨(Nat.le_of_ble_eq_true rfl), (Nat.le_of_ble_eq_true rfl)⟩) (va_recv hK hP (ci := 3) (q0 := 7) rfl (xw_q7 ad cI cJ cZ σ5)) hK hN hP hS rfl hl.1 rfl (Nat.le_of_ble_eq_true rfl) dX9_plan_37 ⟨Nat.zero_le _, Nat.zero_le _⟩ (fun r6 σ7 H locs hw hP hS => ?_)
      exact wd_iret hx hb hr hlocks hw hP hS dX9_plan_40
    · have hw := hw.2 c9
      refine lv_aload_n hx hb dX9_plan_16 rfl (lv_at hl 0 rfl) ?_
      refine va_get hx hb hts iX9 hown hK hP 0 (xw_q0 ad cI cJ cZ σ5) rfl 9 (by decide) f72 (fun _ h9 => h9) rfl dX9_plan_17 ?_
      refine lv_goto (tgt := 30) hx hb dX9_plan_20 (by decide) ?_
      refine lv_aload_n hx hb dX9_plan_30 rfl (lv_at hl 0 rfl) ?_
      refine va_get hx hb hts iX9 hown hK hP 0 (xw_q0 ad cI cJ cZ σ5) rfl 1 (by decide) f19 (fun _ h9 => h9) rfl dX9_plan_31 ?_
      refine va_getN hx hb hts iX5 hown hK hP 2 (xw_q2 ad cI cJ cZ σ5) rfl 0 (by decide) n93 (fun _ h9 => h9) rfl dX9_plan_34 ?_
      refine wd_cVi ⟨hx, hb, hml, hown, hts⟩ (mtX3_make l D ad cI cJ cZ A hD σ5 (ad 10) 10 0 10 (xw_q10 ad cI cJ cZ) (σ5.1 6) _ hw) (cwV 2 hts gX9_plan_X3_make rfl rfl rfl (by decide +kernel) ⟨(Nat.le_of_ble_eq_true rfl), (Nat.le_of_ble_eq_true rfl)⟩) (va_recv hK hP (ci := 3) (q0 := 7) rfl (xw_q7 ad cI cJ cZ σ5)) hK hN hP hS rfl hl.1 rfl (Nat.le_of_ble_eq_true rfl) dX9_plan_37 ⟨Nat.zero_le _, Nat.zero_le _⟩ (fun r8 σ9 H locs hw hP hS => ?_)
      exact wd_iret hx hb hr hlocks hw hP hS dX9_plan_40
def wX9_takeOut (σ0 : St) (a1 : Int32) (a2 : Int32) (post : Int32 → St → Prop) : Prop := wX9_noPerson σ0 a1 (fun (r1 : Int32) => (¬ r1 = 0 → (post (-1 : Int32) σ0)) ∧ (r1 = 0 → (wX9_noRight a2 (fun (r2 : Int32) => (¬ r2 = 0 → (post (-1 : Int32) σ0)) ∧ (r2 = 0 → (((σ0.1 12) = 0 → ((¬ (σ0.1 12) = 0 → (wX3_drop σ0 a1 a2 (fun (r3 : Int32) (σ4 : St) => post r3 σ4))) ∧ ((σ0.1 12) = 0 → (post (-4 : Int32) σ0)))) ∧ (¬ (σ0.1 12) = 0 → ((a1 < (σ0.1 13) → ((¬ (σ0.1 12) = 0 → (wX3_drop σ0 a1 a2 (fun (r5 : Int32) (σ6 : St) => post r5 σ6))) ∧ ((σ0.1 12) = 0 → (post (-4 : Int32) σ0)))) ∧ (¬ a1 < (σ0.1 13) → (post (-1 : Int32) σ0))))))))))
set_option maxHeartbeats 4000000 in
set_option maxRecDepth 100000 in
theorem mtX9_takeOut (l : Launch) (D : va_G) (ad : Nat → Nat) (cI cJ cZ : ClassId) (A : Nat → Prop) (hD : ∀ σ : St, va_D A (xw ad cI cJ cZ σ)) (σ0 : St) (a1 : Int32) (a2 : Int32) (post : Int32 → St → Prop) (hw : wX9_takeOut σ0 a1 a2 post) : Met l yX9_takeOut wsX9_takeOut ({ frames := 1, cells := 0, slots := 0, locals := 23 } : Room) (va_Pc [.ref (ad 0), .int a1, .int a2] (wd_pre D (xw ad cI cJ cZ) (wd_tys cI cJ cZ) σ0)) (va_Qi post (wd_B D (xw ad cI cJ cZ)) A) 0 0 A := by
  refine Met.ofW (cc := cX9_takeOut) (maxL := 3) (ret := (some .int)) (by decide) rfl ?_
  intro p e s m args below meth c s₁ B hml hv
  obtain ⟨rfl, hP, hK, hN⟩ := hv
  have hx := B.exec
  have hb := B.bytes
  have hr := B.returns
  have hts := atoms_spec (ws := wsX9_takeOut) B.pre
  have hown : s.vm.findClass RX9 = some m.cls := findClass_of_methodNamed B.named
  have hlocks := B.notSynchronized
  have hS : va_S A s.heap s.heap [] := va_S.rf
  have f54 := hts (.fieldLink RX9 54 "LeastRights" "draft" "LLeastRights$Draft;") (by decide +kernel)
  have iX9 : ∀ w ∈ wsX90, w ∈ wsX9_takeOut := by decide +kernel
  have n213 := va_Nw.use (A := ([.ref (ad 0), .int a1, .int a2] : List Value).toArray) rfl (hN.1 ("LeastRights", 213, "LeastRights$Draft", "made", "Z") (by decide +kernel))
  have iX3 : ∀ w ∈ wsX30, w ∈ wsX9_takeOut := by decide +kernel
  have n217 := va_Nw.use (A := ([.ref (ad 0), .int a1, .int a2] : List Value).toArray) rfl (hN.1 ("LeastRights", 217, "LeastRights$Draft", "size", "I") (by decide +kernel))
  have hl := lv_entry ([.ref (ad 0), .int a1, .int a2]) (n := 3) (Nat.le_of_ble_eq_true rfl)
  rw [lg_entry_eq]
  generalize (lg_sl ([.ref (ad 0), .int a1, .int a2]) ++ List.replicate (3 - (lg_sl ([.ref (ad 0), .int a1, .int a2])).length) Slot.unset).toArray = ls at hl ⊢
  have hl : lv_has ls 3 [(0, .ref (ad 0)), (1, .int a1), (2, .int a2)] := hl
  unfold wX9_takeOut at hw
  refine lv_aload_n hx hb dX9_takeOut_0 rfl (lv_at hl 0 rfl) ?_
  refine lv_iload_n hx hb dX9_takeOut_1 rfl (lv_at hl 1 rfl) ?_
  refine wd_cVi ⟨hx, hb, hml, hown, hts⟩ (mtX9_noPerson l D ad cI cJ cZ A hD σ0 a1 _ hw) (cwV 1 hts gX9_takeOut_X9_noPerson rfl rfl rfl (by decide +kernel) ⟨(Nat.le_of_ble_eq_true rfl), (Nat.le_of_ble_eq_true rfl)⟩) (va_recv hK hP (ci := 9) (q0 := 0) rfl (xw_q0 ad cI cJ cZ σ0)) hK hN hP hS rfl hl.1 rfl (Nat.le_of_ble_eq_true rfl) dX9_takeOut_2 ⟨Nat.zero_le _, Nat.zero_le _⟩ (fun r1 u9 H locs hq hP hS => ?_)
  obtain ⟨hw, hu⟩ := hq
  rw [hu] at hP
  refine lv_if_ne (tgt := 36) hx hb dX9_takeOut_5 (by decide) (fun c9 => ?_) (fun c9 => ?_)
  · have hw := hw.1 c9
    refine lv_iconst (v := -1) hx hb dX9_takeOut_36 (by decide) ?_
    exact wd_iret hx hb hr hlocks hw hP hS dX9_takeOut_37
  · have hw := hw.2 c9
    refine lv_iload_n hx hb dX9_takeOut_8 rfl (lv_at hl 2 rfl) ?_
    refine wd_cSi ⟨hx, hb, hml, hown, hts⟩ (mtX9_noRight l D ad cI cJ cZ A hD σ0 a2 _ hw) (va_cwS 1 hts gX9_takeOut_X9_noRight rfl rfl rfl (by decide +kernel) ⟨(Nat.le_of_ble_eq_true rfl), (Nat.le_of_ble_eq_true rfl)⟩) hK hN hP hS rfl hl.1 rfl (Nat.le_of_ble_eq_true rfl) dX9_takeOut_9 ⟨Nat.zero_le _, Nat.zero_le _⟩ (fun r2 u9 H locs hq hP hS => ?_)
    obtain ⟨hw, hu⟩ := hq
    rw [hu] at hP
    refine lv_if_ne (tgt := 36) hx hb dX9_takeOut_12 (by decide) (fun c9 => ?_) (fun c9 => ?_)
    · have hw := hw.1 c9
      refine lv_iconst (v := -1) hx hb dX9_takeOut_36 (by decide) ?_
      exact wd_iret hx hb hr hlocks hw hP hS dX9_takeOut_37
    · have hw := hw.2 c9
      refine lv_aload_n hx hb dX9_takeOut_15 rfl (lv_at hl 0 rfl) ?_
      refine va_get hx hb hts iX9 hown hK hP 0 (xw_q0 ad cI cJ cZ σ0) rfl 6 (by decide) f54 (fun _ h9 => h9) rfl dX9_takeOut_16 ?_
      refine va_getN hx hb hts iX3 hown hK hP 7 (xw_q7 ad cI cJ cZ σ0) rfl 0 (by decide) n213 (fun _ h9 => h9) rfl dX9_takeOut_19 ?_
      refine lv_if_eq (tgt := 38) hx hb dX9_takeOut_22 (by decide) (fun c9 => ?_) (fun c9 => ?_)
      · have hw := hw.1 c9
        refine lv_aload_n hx hb dX9_takeOut_38 rfl (lv_at hl 0 rfl) ?_
        refine va_get hx hb hts iX9 hown hK hP 0 (xw_q0 ad cI cJ cZ σ0) rfl 6 (by decide) f54 (fun _ h9 => h9) rfl dX9_takeOut_39 ?_
        refine va_getN hx hb hts iX3 hown hK hP 7 (xw_q7 ad cI cJ cZ σ0) rfl 0 (by decide) n213 (fun _ h9 => h9) rfl dX9_takeOut_42 ?_
        refine lv_if_ne (tgt := 51) hx hb dX9_takeOut_45 (by decide) (fun c9 => ?_) (fun c9 => ?_)
        · have hw := hw.1 c9
          refine lv_aload_n hx hb dX9_takeOut_51 rfl (lv_at hl 0 rfl) ?_
          refine va_get hx hb hts iX9 hown hK hP 0 (xw_q0 ad cI cJ cZ σ0) rfl 6 (by decide) f54 (fun _ h9 => h9) rfl dX9_takeOut_52 ?_
          refine lv_iload_n hx hb dX9_takeOut_55 rfl (lv_at hl 1 rfl) ?_
          refine lv_iload_n hx hb dX9_takeOut_56 rfl (lv_at hl 2 rfl) ?_
          refine wd_cVi ⟨hx, hb, hml, hown, hts⟩ (mtX3_drop l D ad cI cJ cZ A hD σ0 a1 a2 _ hw) (cwV 2 hts gX9_takeOut_X3_drop rfl rfl rfl (by decide +kernel) ⟨(Nat.le_of_ble_eq_true rfl), (Nat.le_of_ble_eq_true rfl)⟩) (va_recv hK hP (ci := 3) (q0 := 7) rfl (xw_q7 ad cI cJ cZ σ0)) hK hN hP hS rfl hl.1 rfl (Nat.le_of_ble_eq_true rfl) dX9_takeOut_57 ⟨Nat.zero_le _, Nat.zero_le _⟩ (fun r3 σ4 H locs hw hP hS => ?_)
          exact wd_iret hx hb hr hlocks hw hP hS dX9_takeOut_60
        · have hw := hw.2 c9
          refine lv_bipush (v := -4) hx hb dX9_takeOut_48 (by decide) ?_
          exact wd_iret hx hb hr hlocks hw hP hS dX9_takeOut_50
      · have hw := hw.2 c9
        refine lv_iload_n hx hb dX9_takeOut_25 rfl (lv_at hl 1 rfl) ?_
        refine lv_aload_n hx hb dX9_takeOut_26 rfl (lv_at hl 0 rfl) ?_
        refine va_get hx hb hts iX9 hown hK hP 0 (xw_q0 ad cI cJ cZ σ0) rfl 6 (by decide) f54 (fun _ h9 => h9) rfl dX9_takeOut_27 ?_
        refine va_getN hx hb hts iX3 hown hK hP 7 (xw_q7 ad cI cJ cZ σ0) rfl 1 (by decide) n217 (fun _ h9 => h9) rfl dX9_takeOut_30 ?_
        refine lv_icmp_lt (tgt := 38) hx hb dX9_takeOut_33 (by decide) (fun c9 => ?_) (fun c9 => ?_)
        · have hw := hw.1 c9
          refine lv_aload_n hx hb dX9_takeOut_38 rfl (lv_at hl 0 rfl) ?_
          refine va_get hx hb hts iX9 hown hK hP 0 (xw_q0 ad cI cJ cZ σ0) rfl 6 (by decide) f54 (fun _ h9 => h9) rfl dX9_takeOut_39 ?_
          refine va_getN hx hb hts iX3 hown hK hP 7 (xw_q7 ad cI cJ cZ σ0) rfl 0 (by decide) n213 (fun _ h9 => h9) rfl dX9_takeOut_42 ?_
          refine lv_if_ne (tgt := 51) hx hb dX9_takeOut_45 (by decide) (fun c9 => ?_) (fun c9 => ?_)
          · have hw := hw.1 c9
            refine lv_aload_n hx hb dX9_takeOut_51 rfl (lv_at hl 0 rfl) ?_
            refine va_get hx hb hts iX9 hown hK hP 0 (xw_q0 ad cI cJ cZ σ0) rfl 6 (by decide) f54 (fun _ h9 => h9) rfl dX9_takeOut_52 ?_
            refine lv_iload_n hx hb dX9_takeOut_55 rfl (lv_at hl 1 rfl) ?_
            refine lv_iload_n hx hb dX9_takeOut_56 rfl (lv_at hl 2 rfl) ?_
            refine wd_cVi ⟨hx, hb, hml, hown, hts⟩ (mtX3_drop l D ad cI cJ cZ A hD σ0 a1 a2 _ hw) (cwV 2 hts gX9_takeOut_X3_drop rfl rfl rfl (by decide +kernel) ⟨(Nat.le_of_ble_eq_true rfl), (Nat.le_of_ble_eq_true rfl)⟩) (va_recv hK hP (ci := 3) (q0 := 7) rfl (xw_q7 ad cI cJ cZ σ0)) hK hN hP hS rfl hl.1 rfl (Nat.le_of_ble_eq_true rfl) dX9_takeOut_57 ⟨Nat.zero_le _, Nat.zero_le _⟩ (fun r5 σ6 H locs hw hP hS => ?_)
            exact wd_iret hx hb hr hlocks hw hP hS dX9_takeOut_60
          · have hw := hw.2 c9
            refine lv_bipush (v := -4) hx hb dX9_takeOut_48 (by decide) ?_
            exact wd_iret hx hb hr hlocks hw hP hS dX9_takeOut_50
        · have hw := hw.2 c9
          refine lv_iconst (v := -1) hx hb dX9_takeOut_36 (by decide) ?_
          exact wd_iret hx hb hr hlocks hw hP hS dX9_takeOut_37
def wX9_noLastDays (a0 : Int32) (post : Int32 → Prop) : Prop := (a0 < (1 : Int32) → (post (1 : Int32))) ∧ (¬ a0 < (1 : Int32) → ((a0 ≤ (1000 : Int32) → (post (0 : Int32))) ∧ (¬ a0 ≤ (1000 : Int32) → (post (1 : Int32)))))
set_option maxHeartbeats 4000000 in
set_option maxRecDepth 100000 in
theorem mtX9_noLastDays (l : Launch) (D : va_G) (ad : Nat → Nat) (cI cJ cZ : ClassId) (A : Nat → Prop) (hD : ∀ σ : St, va_D A (xw ad cI cJ cZ σ)) (σ0 : St) (a0 : Int32) (post : Int32 → Prop) (hw : wX9_noLastDays a0 post) : Met l yX9_noLastDays wsX9_noLastDays ({ frames := 0, cells := 0, slots := 0, locals := 0 } : Room) (va_Pc [.int a0] (wd_pre D (xw ad cI cJ cZ) (wd_tys cI cJ cZ) σ0)) (va_Qi (fun (r : Int32) (u : St) => post r ∧ u = σ0) (wd_B D (xw ad cI cJ cZ)) A) 0 0 A := by
  refine Met.ofW (cc := cX9_noLastDays) (maxL := 1) (ret := (some .boolean)) (by decide) rfl ?_
  intro p e s m args below meth c s₁ B hml hv
  obtain ⟨rfl, hP, hK, hN⟩ := hv
  have hx := B.exec
  have hb := B.bytes
  have hr := B.returns
  have hts := atoms_spec (ws := wsX9_noLastDays) B.pre
  have hown : s.vm.findClass RX9 = some m.cls := findClass_of_methodNamed B.named
  have hlocks := B.notSynchronized
  have hS : va_S A s.heap s.heap [] := va_S.rf
  have hl := lv_entry ([.int a0]) (n := 1) (Nat.le_of_ble_eq_true rfl)
  rw [lg_entry_eq]
  generalize (lg_sl ([.int a0]) ++ List.replicate (1 - (lg_sl ([.int a0])).length) Slot.unset).toArray = ls at hl ⊢
  have hl : lv_has ls 1 [(0, .int a0)] := hl
  unfold wX9_noLastDays at hw
  refine lv_iload_n hx hb dX9_noLastDays_0 rfl (lv_at hl 0 rfl) ?_
  refine lv_iconst (v := 1) hx hb dX9_noLastDays_1 (by decide) ?_
  refine lv_icmp_lt (tgt := 12) hx hb dX9_noLastDays_2 (by decide) (fun c9 => ?_) (fun c9 => ?_)
  · have hw := hw.1 c9
    refine lv_iconst (v := 1) hx hb dX9_noLastDays_12 (by decide) ?_
    refine lv_goto (tgt := 17) hx hb dX9_noLastDays_13 (by decide) ?_
    exact wd_zret hx hb hr hlocks (by decide) ⟨hw, rfl⟩ hP hS dX9_noLastDays_17
  · have hw := hw.2 c9
    refine lv_iload_n hx hb dX9_noLastDays_5 rfl (lv_at hl 0 rfl) ?_
    refine lv_sipush (v := 1000) hx hb dX9_noLastDays_6 (by decide) ?_
    refine lv_icmp_le (tgt := 16) hx hb dX9_noLastDays_9 (by decide) (fun c9 => ?_) (fun c9 => ?_)
    · have hw := hw.1 c9
      refine lv_iconst (v := 0) hx hb dX9_noLastDays_16 (by decide) ?_
      exact wd_zret hx hb hr hlocks (by decide) ⟨hw, rfl⟩ hP hS dX9_noLastDays_17
    · have hw := hw.2 c9
      refine lv_iconst (v := 1) hx hb dX9_noLastDays_12 (by decide) ?_
      refine lv_goto (tgt := 17) hx hb dX9_noLastDays_13 (by decide) ?_
      exact wd_zret hx hb hr hlocks (by decide) ⟨hw, rfl⟩ hP hS dX9_noLastDays_17
def wX9_isStopped (σ0 : St) (a1 : Int32) (a2 : Int32) (post : Int32 → Prop) : Prop := vp_in a1 400 ∧ (wX2_isWithinLast σ0 (σ0.2.1 8 a1.toNatClampNeg) a2 (fun (r1 : Int32) => (r1 = 0 → (post (0 : Int32))) ∧ (¬ r1 = 0 → (vp_in a1 400 ∧ (vp_in a1 400 ∧ (wX3_allows σ0 (σ0.2.1 6 a1.toNatClampNeg) (σ0.2.1 7 a1.toNatClampNeg) (fun (r2 : Int32) => (¬ r2 = 0 → (post (0 : Int32))) ∧ (r2 = 0 → (post (1 : Int32))))))))))
set_option maxHeartbeats 4000000 in
set_option maxRecDepth 100000 in
theorem mtX9_isStopped (l : Launch) (D : va_G) (ad : Nat → Nat) (cI cJ cZ : ClassId) (A : Nat → Prop) (hD : ∀ σ : St, va_D A (xw ad cI cJ cZ σ)) (σ0 : St) (a1 : Int32) (a2 : Int32) (post : Int32 → Prop) (hw : wX9_isStopped σ0 a1 a2 post) : Met l yX9_isStopped wsX9_isStopped ({ frames := 1, cells := 0, slots := 0, locals := 22 } : Room) (va_Pc [.ref (ad 0), .int a1, .int a2] (wd_pre D (xw ad cI cJ cZ) (wd_tys cI cJ cZ) σ0)) (va_Qi (fun (r : Int32) (u : St) => post r ∧ u = σ0) (wd_B D (xw ad cI cJ cZ)) A) 0 0 A := by
  refine Met.ofW (cc := cX9_isStopped) (maxL := 3) (ret := (some .boolean)) (by decide) rfl ?_
  intro p e s m args below meth c s₁ B hml hv
  obtain ⟨rfl, hP, hK, hN⟩ := hv
  have hx := B.exec
  have hb := B.bytes
  have hr := B.returns
  have hts := atoms_spec (ws := wsX9_isStopped) B.pre
  have hown : s.vm.findClass RX9 = some m.cls := findClass_of_methodNamed B.named
  have hlocks := B.notSynchronized
  have hS : va_S A s.heap s.heap [] := va_S.rf
  have f10 := hts (.fieldLink RX9 10 "LeastRights" "days" "LLeastRights$Days;") (by decide +kernel)
  have iX9 : ∀ w ∈ wsX90, w ∈ wsX9_isStopped := by decide +kernel
  have f26 := hts (.fieldLink RX9 26 "LeastRights" "log" "LLeastRights$UseLog;") (by decide +kernel)
  have n233 := va_Nw.use (A := ([.ref (ad 0), .int a1, .int a2] : List Value).toArray) rfl (hN.1 ("LeastRights", 233, "LeastRights$UseLog", "when", "[I") (by decide +kernel))
  have iX8 : ∀ w ∈ wsX80, w ∈ wsX9_isStopped := by decide +kernel
  have f54 := hts (.fieldLink RX9 54 "LeastRights" "draft" "LLeastRights$Draft;") (by decide +kernel)
  have n227 := va_Nw.use (A := ([.ref (ad 0), .int a1, .int a2] : List Value).toArray) rfl (hN.1 ("LeastRights", 227, "LeastRights$UseLog", "who", "[I") (by decide +kernel))
  have n230 := va_Nw.use (A := ([.ref (ad 0), .int a1, .int a2] : List Value).toArray) rfl (hN.1 ("LeastRights", 230, "LeastRights$UseLog", "which", "[I") (by decide +kernel))
  have hl := lv_entry ([.ref (ad 0), .int a1, .int a2]) (n := 3) (Nat.le_of_ble_eq_true rfl)
  rw [lg_entry_eq]
  generalize (lg_sl ([.ref (ad 0), .int a1, .int a2]) ++ List.replicate (3 - (lg_sl ([.ref (ad 0), .int a1, .int a2])).length) Slot.unset).toArray = ls at hl ⊢
  have hl : lv_has ls 3 [(0, .ref (ad 0)), (1, .int a1), (2, .int a2)] := hl
  unfold wX9_isStopped at hw
  refine lv_aload_n hx hb dX9_isStopped_0 rfl (lv_at hl 0 rfl) ?_
  refine va_get hx hb hts iX9 hown hK hP 0 (xw_q0 ad cI cJ cZ σ0) rfl 0 (by decide) f10 (fun _ h9 => h9) rfl dX9_isStopped_1 ?_
  refine lv_aload_n hx hb dX9_isStopped_4 rfl (lv_at hl 0 rfl) ?_
  refine va_get hx hb hts iX9 hown hK hP 0 (xw_q0 ad cI cJ cZ σ0) rfl 2 (by decide) f26 (fun _ h9 => h9) rfl dX9_isStopped_5 ?_
  refine va_getN hx hb hts iX8 hown hK hP 3 (xw_q3 ad cI cJ cZ σ0) rfl 3 (by decide) n233 (fun _ h9 => h9) rfl dX9_isStopped_8 ?_
  refine lv_iload_n hx hb dX9_isStopped_11 rfl (lv_at hl 1 rfl) ?_
  obtain ⟨h9, hw⟩ := hw
  refine va_iald hx hb hK hP 18 0 (xw_q18 ad cI cJ cZ σ0) rfl h9 dX9_isStopped_12 ?_
  refine lv_iload_n hx hb dX9_isStopped_13 rfl (lv_at hl 2 rfl) ?_
  refine wd_cVi ⟨hx, hb, hml, hown, hts⟩ (mtX2_isWithinLast l D ad cI cJ cZ A hD σ0 (σ0.2.1 8 a1.toNatClampNeg) a2 _ hw) (cwV 2 hts gX9_isStopped_X2_isWithinLast rfl rfl rfl (by decide +kernel) ⟨(Nat.le_of_ble_eq_true rfl), (Nat.le_of_ble_eq_true rfl)⟩) (va_recv hK hP (ci := 2) (q0 := 1) rfl (xw_q1 ad cI cJ cZ σ0)) hK hN hP hS rfl hl.1 rfl (Nat.le_of_ble_eq_true rfl) dX9_isStopped_14 ⟨Nat.zero_le _, Nat.zero_le _⟩ (fun r1 u9 H locs hq hP hS => ?_)
  obtain ⟨hw, hu⟩ := hq
  rw [hu] at hP
  refine lv_if_eq (tgt := 52) hx hb dX9_isStopped_17 (by decide) (fun c9 => ?_) (fun c9 => ?_)
  · have hw := hw.1 c9
    refine lv_iconst (v := 0) hx hb dX9_isStopped_52 (by decide) ?_
    exact wd_zret hx hb hr hlocks (by decide) ⟨hw, rfl⟩ hP hS dX9_isStopped_53
  · have hw := hw.2 c9
    refine lv_aload_n hx hb dX9_isStopped_20 rfl (lv_at hl 0 rfl) ?_
    refine va_get hx hb hts iX9 hown hK hP 0 (xw_q0 ad cI cJ cZ σ0) rfl 6 (by decide) f54 (fun _ h9 => h9) rfl dX9_isStopped_21 ?_
    refine lv_aload_n hx hb dX9_isStopped_24 rfl (lv_at hl 0 rfl) ?_
    refine va_get hx hb hts iX9 hown hK hP 0 (xw_q0 ad cI cJ cZ σ0) rfl 2 (by decide) f26 (fun _ h9 => h9) rfl dX9_isStopped_25 ?_
    refine va_getN hx hb hts iX8 hown hK hP 3 (xw_q3 ad cI cJ cZ σ0) rfl 1 (by decide) n227 (fun _ h9 => h9) rfl dX9_isStopped_28 ?_
    refine lv_iload_n hx hb dX9_isStopped_31 rfl (lv_at hl 1 rfl) ?_
    obtain ⟨h9, hw⟩ := hw
    refine va_iald hx hb hK hP 16 0 (xw_q16 ad cI cJ cZ σ0) rfl h9 dX9_isStopped_32 ?_
    refine lv_aload_n hx hb dX9_isStopped_33 rfl (lv_at hl 0 rfl) ?_
    refine va_get hx hb hts iX9 hown hK hP 0 (xw_q0 ad cI cJ cZ σ0) rfl 2 (by decide) f26 (fun _ h9 => h9) rfl dX9_isStopped_34 ?_
    refine va_getN hx hb hts iX8 hown hK hP 3 (xw_q3 ad cI cJ cZ σ0) rfl 2 (by decide) n230 (fun _ h9 => h9) rfl dX9_isStopped_37 ?_
    refine lv_iload_n hx hb dX9_isStopped_40 rfl (lv_at hl 1 rfl) ?_
    obtain ⟨h9, hw⟩ := hw
    refine va_iald hx hb hK hP 17 0 (xw_q17 ad cI cJ cZ σ0) rfl h9 dX9_isStopped_41 ?_
    refine wd_cVi ⟨hx, hb, hml, hown, hts⟩ (mtX3_allows l D ad cI cJ cZ A hD σ0 (σ0.2.1 6 a1.toNatClampNeg) (σ0.2.1 7 a1.toNatClampNeg) _ hw) (cwV 2 hts gX9_isStopped_X3_allows rfl rfl rfl (by decide +kernel) ⟨(Nat.le_of_ble_eq_true rfl), (Nat.le_of_ble_eq_true rfl)⟩) (va_recv hK hP (ci := 3) (q0 := 7) rfl (xw_q7 ad cI cJ cZ σ0)) hK hN hP hS rfl hl.1 rfl (Nat.le_of_ble_eq_true rfl) dX9_isStopped_42 ⟨Nat.zero_le _, Nat.zero_le _⟩ (fun r2 u9 H locs hq hP hS => ?_)
    obtain ⟨hw, hu⟩ := hq
    rw [hu] at hP
    refine lv_if_ne (tgt := 52) hx hb dX9_isStopped_45 (by decide) (fun c9 => ?_) (fun c9 => ?_)
    · have hw := hw.1 c9
      refine lv_iconst (v := 0) hx hb dX9_isStopped_52 (by decide) ?_
      exact wd_zret hx hb hr hlocks (by decide) ⟨hw, rfl⟩ hP hS dX9_isStopped_53
    · have hw := hw.2 c9
      refine lv_iconst (v := 1) hx hb dX9_isStopped_48 (by decide) ?_
      refine lv_goto (tgt := 53) hx hb dX9_isStopped_49 (by decide) ?_
      exact wd_zret hx hb hr hlocks (by decide) ⟨hw, rfl⟩ hP hS dX9_isStopped_53
def lpX9_stopped_26 (u1 : Int32) (σ0 : St) (post : Int32 → Prop) : Nat → Int32 → Int32 → Prop
  | 0, _, _ => False
  | n + 1, v2, v3 => ((σ0.1 7) ≤ v3 → (post v2)) ∧ (¬ (σ0.1 7) ≤ v3 → (wX9_isStopped σ0 v3 u1 (fun (r2 : Int32) => (r2 = 0 → (∀ x3 : Int32, x3 = v3 + (1 : Int32) → (lpX9_stopped_26 u1 σ0 post n v2 x3))) ∧ (¬ r2 = 0 → (∀ x4 : Int32, x4 = v2 + (1 : Int32) → (∀ x5 : Int32, x5 = v3 + (1 : Int32) → (lpX9_stopped_26 u1 σ0 post n x4 x5)))))))
def wX9_stopped (σ0 : St) (a1 : Int32) (post : Int32 → Prop) : Prop := wX9_noLastDays a1 (fun (r1 : Int32) => (r1 = 0 → ((¬ (σ0.1 12) = 0 → (∃ n6 : Nat, lpX9_stopped_26 a1 σ0 post n6 (0 : Int32) (0 : Int32))) ∧ ((σ0.1 12) = 0 → (post (-4 : Int32))))) ∧ (¬ r1 = 0 → (post (-1 : Int32))))
set_option maxHeartbeats 4000000 in
set_option maxRecDepth 100000 in
theorem mtX9_stopped (l : Launch) (D : va_G) (ad : Nat → Nat) (cI cJ cZ : ClassId) (A : Nat → Prop) (hD : ∀ σ : St, va_D A (xw ad cI cJ cZ σ)) (σ0 : St) (a1 : Int32) (post : Int32 → Prop) (hw : wX9_stopped σ0 a1 post) : Met l yX9_stopped wsX9_stopped ({ frames := 2, cells := 0, slots := 0, locals := 44 } : Room) (va_Pc [.ref (ad 0), .int a1] (wd_pre D (xw ad cI cJ cZ) (wd_tys cI cJ cZ) σ0)) (va_Qi (fun (r : Int32) (u : St) => post r ∧ u = σ0) (wd_B D (xw ad cI cJ cZ)) A) 0 0 A := by
  refine Met.ofW (cc := cX9_stopped) (maxL := 4) (ret := (some .int)) (by decide) rfl ?_
  intro p e s m args below meth c s₁ B hml hv
  obtain ⟨rfl, hP, hK, hN⟩ := hv
  have hx := B.exec
  have hb := B.bytes
  have hr := B.returns
  have hts := atoms_spec (ws := wsX9_stopped) B.pre
  have hown : s.vm.findClass RX9 = some m.cls := findClass_of_methodNamed B.named
  have hlocks := B.notSynchronized
  have hS : va_S A s.heap s.heap [] := va_S.rf
  have f54 := hts (.fieldLink RX9 54 "LeastRights" "draft" "LLeastRights$Draft;") (by decide +kernel)
  have iX9 : ∀ w ∈ wsX90, w ∈ wsX9_stopped := by decide +kernel
  have n213 := va_Nw.use (A := ([.ref (ad 0), .int a1] : List Value).toArray) rfl (hN.1 ("LeastRights", 213, "LeastRights$Draft", "made", "Z") (by decide +kernel))
  have iX3 : ∀ w ∈ wsX30, w ∈ wsX9_stopped := by decide +kernel
  have f26 := hts (.fieldLink RX9 26 "LeastRights" "log" "LLeastRights$UseLog;") (by decide +kernel)
  have n140 := va_Nw.use (A := ([.ref (ad 0), .int a1] : List Value).toArray) rfl (hN.1 ("LeastRights", 140, "LeastRights$UseLog", "size", "I") (by decide +kernel))
  have iX8 : ∀ w ∈ wsX80, w ∈ wsX9_stopped := by decide +kernel
  have L26 : ∀ (u1 : Int32) (n : Nat) (v2 : Int32) (v3 : Int32) (H : Heap) (locs : List Loc) (ls : Array Slot), lpX9_stopped_26 u1 σ0 post n v2 v3 → va_P D vwCl (xw ad cI cJ cZ σ0) H → va_S A s.heap H locs → lv_has ls 4 [(0, .ref (ad 0)), (1, .int u1), (2, .int v2), (3, .int v3)] → W p l e (headSpec wsX9_stopped ({ frames := 2, cells := 0, slots := 0, locals := 44 } : Room)).room s m ([.ref (ad 0), .int a1] : List Value).toArray below meth c H locs 0 0 (MQ below (va_Qi (fun (r : Int32) (u : St) => post r ∧ u = σ0) (wd_B D (xw ad cI cJ cZ)) A) ([.ref (ad 0), .int a1] : List Value).toArray s 0 0 A) (F0 m 26 ls []) := by
    intro u1 n
    induction n with
    | zero => intro v2 v3 H locs ls hw; exact hw.elim
    | succ n ih =>
      intro v2 v3 H locs ls hw hP hS hl
      rw [lpX9_stopped_26] at hw
      refine lv_iload_n hx hb dX9_stopped_26 rfl (lv_at hl 3 rfl) ?_
      refine lv_aload_n hx hb dX9_stopped_27 rfl (lv_at hl 0 rfl) ?_
      refine va_get hx hb hts iX9 hown hK hP 0 (xw_q0 ad cI cJ cZ σ0) rfl 2 (by decide) f26 (fun _ h9 => h9) rfl dX9_stopped_28 ?_
      refine va_getN hx hb hts iX8 hown hK hP 3 (xw_q3 ad cI cJ cZ σ0) rfl 0 (by decide) n140 (fun _ h9 => h9) rfl dX9_stopped_31 ?_
      refine lv_icmp_ge (tgt := 55) hx hb dX9_stopped_34 (by decide) (fun c9 => ?_) (fun c9 => ?_)
      · have hw := hw.1 c9
        refine lv_iload_n hx hb dX9_stopped_55 rfl (lv_at hl 2 rfl) ?_
        exact wd_iret hx hb hr hlocks ⟨hw, rfl⟩ hP hS dX9_stopped_56
      · have hw := hw.2 c9
        refine lv_aload_n hx hb dX9_stopped_37 rfl (lv_at hl 0 rfl) ?_
        refine lv_iload_n hx hb dX9_stopped_38 rfl (lv_at hl 3 rfl) ?_
        refine lv_iload_n hx hb dX9_stopped_39 rfl (lv_at hl 1 rfl) ?_
        refine wd_cVi ⟨hx, hb, hml, hown, hts⟩ (mtX9_isStopped l D ad cI cJ cZ A hD σ0 v3 u1 _ hw) (cwV 2 hts gX9_stopped_X9_isStopped rfl rfl rfl (by decide +kernel) ⟨(Nat.le_of_ble_eq_true rfl), (Nat.le_of_ble_eq_true rfl)⟩) (va_recv hK hP (ci := 9) (q0 := 0) rfl (xw_q0 ad cI cJ cZ σ0)) hK hN hP hS rfl hl.1 rfl (Nat.le_of_ble_eq_true rfl) dX9_stopped_40 ⟨Nat.zero_le _, Nat.zero_le _⟩ (fun r2 u9 H locs hq hP hS => ?_)
        obtain ⟨hw, hu⟩ := hq
        rw [hu] at hP
        refine lv_if_eq (tgt := 49) hx hb dX9_stopped_43 (by decide) (fun c9 => ?_) (fun c9 => ?_)
        · have hw := hw.1 c9
          obtain ⟨x3, ex3⟩ : ∃ z : Int32, z = v3 + (1 : Int32) := ⟨_, rfl⟩
          refine lv_iinc (v := x3) (lv' := [(3, .int x3), (0, .ref (ad 0)), (1, .int u1), (2, .int v2)]) hx hb dX9_stopped_49 hl (k := 3) rfl (by rw [ex3]; rfl) (by decide) rfl (fun ls hl => ?_)
          have hw := hw x3 ex3
          refine lv_goto (tgt := 26) hx hb dX9_stopped_52 (by decide) ?_
          exact ih _ _ _ _ _ hw hP hS (lv_sub hl [1, 2, 3, 0] rfl)
        · have hw := hw.2 c9
          obtain ⟨x4, ex4⟩ : ∃ z : Int32, z = v2 + (1 : Int32) := ⟨_, rfl⟩
          refine lv_iinc (v := x4) (lv' := [(2, .int x4), (0, .ref (ad 0)), (1, .int u1), (3, .int v3)]) hx hb dX9_stopped_46 hl (k := 2) rfl (by rw [ex4]; rfl) (by decide) rfl (fun ls hl => ?_)
          have hw := hw x4 ex4
          obtain ⟨x5, ex5⟩ : ∃ z : Int32, z = v3 + (1 : Int32) := ⟨_, rfl⟩
          refine lv_iinc (v := x5) (lv' := [(3, .int x5), (2, .int x4), (0, .ref (ad 0)), (1, .int u1)]) hx hb dX9_stopped_49 hl (k := 3) rfl (by rw [ex5]; rfl) (by decide) rfl (fun ls hl => ?_)
          have hw := hw x5 ex5
          refine lv_goto (tgt := 26) hx hb dX9_stopped_52 (by decide) ?_
          exact ih _ _ _ _ _ hw hP hS (lv_sub hl [2, 3, 1, 0] rfl)
  have hl := lv_entry ([.ref (ad 0), .int a1]) (n := 4) (Nat.le_of_ble_eq_true rfl)
  rw [lg_entry_eq]
  generalize (lg_sl ([.ref (ad 0), .int a1]) ++ List.replicate (4 - (lg_sl ([.ref (ad 0), .int a1])).length) Slot.unset).toArray = ls at hl ⊢
  have hl : lv_has ls 4 [(0, .ref (ad 0)), (1, .int a1)] := hl
  unfold wX9_stopped at hw
  refine lv_iload_n hx hb dX9_stopped_0 rfl (lv_at hl 1 rfl) ?_
  refine wd_cSi ⟨hx, hb, hml, hown, hts⟩ (mtX9_noLastDays l D ad cI cJ cZ A hD σ0 a1 _ hw) (va_cwS 1 hts gX9_stopped_X9_noLastDays rfl rfl rfl (by decide +kernel) ⟨(Nat.le_of_ble_eq_true rfl), (Nat.le_of_ble_eq_true rfl)⟩) hK hN hP hS rfl hl.1 rfl (Nat.le_of_ble_eq_true rfl) dX9_stopped_1 ⟨Nat.zero_le _, Nat.zero_le _⟩ (fun r1 u9 H locs hq hP hS => ?_)
  obtain ⟨hw, hu⟩ := hq
  rw [hu] at hP
  refine lv_if_eq (tgt := 9) hx hb dX9_stopped_4 (by decide) (fun c9 => ?_) (fun c9 => ?_)
  · have hw := hw.1 c9
    refine lv_aload_n hx hb dX9_stopped_9 rfl (lv_at hl 0 rfl) ?_
    refine va_get hx hb hts iX9 hown hK hP 0 (xw_q0 ad cI cJ cZ σ0) rfl 6 (by decide) f54 (fun _ h9 => h9) rfl dX9_stopped_10 ?_
    refine va_getN hx hb hts iX3 hown hK hP 7 (xw_q7 ad cI cJ cZ σ0) rfl 0 (by decide) n213 (fun _ h9 => h9) rfl dX9_stopped_13 ?_
    refine lv_if_ne (tgt := 22) hx hb dX9_stopped_16 (by decide) (fun c9 => ?_) (fun c9 => ?_)
    · have hw := hw.1 c9
      refine lv_iconst (v := 0) hx hb dX9_stopped_22 (by decide) ?_
      refine lv_istore_n (lv' := [(2, .int (0 : Int32)), (0, .ref (ad 0)), (1, .int a1)]) hx hb dX9_stopped_23 rfl hl (by decide) rfl (fun ls hl => ?_)
      refine lv_iconst (v := 0) hx hb dX9_stopped_24 (by decide) ?_
      refine lv_istore_n (lv' := [(3, .int (0 : Int32)), (2, .int (0 : Int32)), (0, .ref (ad 0)), (1, .int a1)]) hx hb dX9_stopped_25 rfl hl (by decide) rfl (fun ls hl => ?_)
      obtain ⟨n9, hw⟩ := hw
      refine L26 a1 n9 (0 : Int32) (0 : Int32) _ _ _ hw hP hS (lv_sub hl [2, 3, 1, 0] rfl)
    · have hw := hw.2 c9
      refine lv_bipush (v := -4) hx hb dX9_stopped_19 (by decide) ?_
      exact wd_iret hx hb hr hlocks ⟨hw, rfl⟩ hP hS dX9_stopped_21
  · have hw := hw.2 c9
    refine lv_iconst (v := -1) hx hb dX9_stopped_7 (by decide) ?_
    exact wd_iret hx hb hr hlocks ⟨hw, rfl⟩ hP hS dX9_stopped_8
def lpX9_stop_28 (u1 : Int32) (σ0 : St) (post : Int32 → Prop) : Nat → Int32 → Prop
  | 0, _ => False
  | n + 1, v3 => ((σ0.1 7) ≤ v3 → (post (-9 : Int32))) ∧ (¬ (σ0.1 7) ≤ v3 → (wX9_isStopped σ0 v3 u1 (fun (r2 : Int32) => (r2 = 0 → (∀ x3 : Int32, x3 = v3 + (1 : Int32) → (lpX9_stop_28 u1 σ0 post n x3))) ∧ (¬ r2 = 0 → (post v3)))))
def wX9_stop (σ0 : St) (a1 : Int32) (a2 : Int32) (post : Int32 → Prop) : Prop := wX9_noLastDays a1 (fun (r1 : Int32) => (¬ r1 = 0 → (post (-1 : Int32))) ∧ (r1 = 0 → ((0 ≤ a2 → ((¬ (σ0.1 12) = 0 → (∃ n4 : Nat, lpX9_stop_28 a1 σ0 post n4 a2)) ∧ ((σ0.1 12) = 0 → (post (-4 : Int32))))) ∧ (¬ 0 ≤ a2 → (post (-1 : Int32))))))
set_option maxHeartbeats 4000000 in
set_option maxRecDepth 100000 in
theorem mtX9_stop (l : Launch) (D : va_G) (ad : Nat → Nat) (cI cJ cZ : ClassId) (A : Nat → Prop) (hD : ∀ σ : St, va_D A (xw ad cI cJ cZ σ)) (σ0 : St) (a1 : Int32) (a2 : Int32) (post : Int32 → Prop) (hw : wX9_stop σ0 a1 a2 post) : Met l yX9_stop wsX9_stop ({ frames := 2, cells := 0, slots := 0, locals := 44 } : Room) (va_Pc [.ref (ad 0), .int a1, .int a2] (wd_pre D (xw ad cI cJ cZ) (wd_tys cI cJ cZ) σ0)) (va_Qi (fun (r : Int32) (u : St) => post r ∧ u = σ0) (wd_B D (xw ad cI cJ cZ)) A) 0 0 A := by
  refine Met.ofW (cc := cX9_stop) (maxL := 4) (ret := (some .int)) (by decide) rfl ?_
  intro p e s m args below meth c s₁ B hml hv
  obtain ⟨rfl, hP, hK, hN⟩ := hv
  have hx := B.exec
  have hb := B.bytes
  have hr := B.returns
  have hts := atoms_spec (ws := wsX9_stop) B.pre
  have hown : s.vm.findClass RX9 = some m.cls := findClass_of_methodNamed B.named
  have hlocks := B.notSynchronized
  have hS : va_S A s.heap s.heap [] := va_S.rf
  have f54 := hts (.fieldLink RX9 54 "LeastRights" "draft" "LLeastRights$Draft;") (by decide +kernel)
  have iX9 : ∀ w ∈ wsX90, w ∈ wsX9_stop := by decide +kernel
  have n213 := va_Nw.use (A := ([.ref (ad 0), .int a1, .int a2] : List Value).toArray) rfl (hN.1 ("LeastRights", 213, "LeastRights$Draft", "made", "Z") (by decide +kernel))
  have iX3 : ∀ w ∈ wsX30, w ∈ wsX9_stop := by decide +kernel
  have f26 := hts (.fieldLink RX9 26 "LeastRights" "log" "LLeastRights$UseLog;") (by decide +kernel)
  have n140 := va_Nw.use (A := ([.ref (ad 0), .int a1, .int a2] : List Value).toArray) rfl (hN.1 ("LeastRights", 140, "LeastRights$UseLog", "size", "I") (by decide +kernel))
  have iX8 : ∀ w ∈ wsX80, w ∈ wsX9_stop := by decide +kernel
  have L28 : ∀ (u1 : Int32) (n : Nat) (v3 : Int32) (H : Heap) (locs : List Loc) (ls : Array Slot), lpX9_stop_28 u1 σ0 post n v3 → va_P D vwCl (xw ad cI cJ cZ σ0) H → va_S A s.heap H locs → lv_has ls 4 [(0, .ref (ad 0)), (1, .int u1), (3, .int v3)] → W p l e (headSpec wsX9_stop ({ frames := 2, cells := 0, slots := 0, locals := 44 } : Room)).room s m ([.ref (ad 0), .int a1, .int a2] : List Value).toArray below meth c H locs 0 0 (MQ below (va_Qi (fun (r : Int32) (u : St) => post r ∧ u = σ0) (wd_B D (xw ad cI cJ cZ)) A) ([.ref (ad 0), .int a1, .int a2] : List Value).toArray s 0 0 A) (F0 m 28 ls []) := by
    intro u1 n
    induction n with
    | zero => intro v3 H locs ls hw; exact hw.elim
    | succ n ih =>
      intro v3 H locs ls hw hP hS hl
      rw [lpX9_stop_28] at hw
      refine lv_iload_n hx hb dX9_stop_28 rfl (lv_at hl 2 rfl) ?_
      refine lv_aload_n hx hb dX9_stop_29 rfl (lv_at hl 0 rfl) ?_
      refine va_get hx hb hts iX9 hown hK hP 0 (xw_q0 ad cI cJ cZ σ0) rfl 2 (by decide) f26 (fun _ h9 => h9) rfl dX9_stop_30 ?_
      refine va_getN hx hb hts iX8 hown hK hP 3 (xw_q3 ad cI cJ cZ σ0) rfl 0 (by decide) n140 (fun _ h9 => h9) rfl dX9_stop_33 ?_
      refine lv_icmp_ge (tgt := 56) hx hb dX9_stop_36 (by decide) (fun c9 => ?_) (fun c9 => ?_)
      · have hw := hw.1 c9
        refine lv_bipush (v := -9) hx hb dX9_stop_56 (by decide) ?_
        exact wd_iret hx hb hr hlocks ⟨hw, rfl⟩ hP hS dX9_stop_58
      · have hw := hw.2 c9
        refine lv_aload_n hx hb dX9_stop_39 rfl (lv_at hl 0 rfl) ?_
        refine lv_iload_n hx hb dX9_stop_40 rfl (lv_at hl 2 rfl) ?_
        refine lv_iload_n hx hb dX9_stop_41 rfl (lv_at hl 1 rfl) ?_
        refine wd_cVi ⟨hx, hb, hml, hown, hts⟩ (mtX9_isStopped l D ad cI cJ cZ A hD σ0 v3 u1 _ hw) (cwV 2 hts gX9_stop_X9_isStopped rfl rfl rfl (by decide +kernel) ⟨(Nat.le_of_ble_eq_true rfl), (Nat.le_of_ble_eq_true rfl)⟩) (va_recv hK hP (ci := 9) (q0 := 0) rfl (xw_q0 ad cI cJ cZ σ0)) hK hN hP hS rfl hl.1 rfl (Nat.le_of_ble_eq_true rfl) dX9_stop_42 ⟨Nat.zero_le _, Nat.zero_le _⟩ (fun r2 u9 H locs hq hP hS => ?_)
        obtain ⟨hw, hu⟩ := hq
        rw [hu] at hP
        refine lv_if_eq (tgt := 50) hx hb dX9_stop_45 (by decide) (fun c9 => ?_) (fun c9 => ?_)
        · have hw := hw.1 c9
          obtain ⟨x3, ex3⟩ : ∃ z : Int32, z = v3 + (1 : Int32) := ⟨_, rfl⟩
          refine lv_iinc (v := x3) (lv' := [(3, .int x3), (0, .ref (ad 0)), (1, .int u1)]) hx hb dX9_stop_50 hl (k := 2) rfl (by rw [ex3]; rfl) (by decide) rfl (fun ls hl => ?_)
          have hw := hw x3 ex3
          refine lv_goto (tgt := 28) hx hb dX9_stop_53 (by decide) ?_
          exact ih _ _ _ _ hw hP hS (lv_sub hl [1, 2, 0] rfl)
        · have hw := hw.2 c9
          refine lv_iload_n hx hb dX9_stop_48 rfl (lv_at hl 2 rfl) ?_
          exact wd_iret hx hb hr hlocks ⟨hw, rfl⟩ hP hS dX9_stop_49
  have hl := lv_entry ([.ref (ad 0), .int a1, .int a2]) (n := 4) (Nat.le_of_ble_eq_true rfl)
  rw [lg_entry_eq]
  generalize (lg_sl ([.ref (ad 0), .int a1, .int a2]) ++ List.replicate (4 - (lg_sl ([.ref (ad 0), .int a1, .int a2])).length) Slot.unset).toArray = ls at hl ⊢
  have hl : lv_has ls 4 [(0, .ref (ad 0)), (1, .int a1), (2, .int a2)] := hl
  unfold wX9_stop at hw
  refine lv_iload_n hx hb dX9_stop_0 rfl (lv_at hl 1 rfl) ?_
  refine wd_cSi ⟨hx, hb, hml, hown, hts⟩ (mtX9_noLastDays l D ad cI cJ cZ A hD σ0 a1 _ hw) (va_cwS 1 hts gX9_stop_X9_noLastDays rfl rfl rfl (by decide +kernel) ⟨(Nat.le_of_ble_eq_true rfl), (Nat.le_of_ble_eq_true rfl)⟩) hK hN hP hS rfl hl.1 rfl (Nat.le_of_ble_eq_true rfl) dX9_stop_1 ⟨Nat.zero_le _, Nat.zero_le _⟩ (fun r1 u9 H locs hq hP hS => ?_)
  obtain ⟨hw, hu⟩ := hq
  rw [hu] at hP
  refine lv_if_ne (tgt := 11) hx hb dX9_stop_4 (by decide) (fun c9 => ?_) (fun c9 => ?_)
  · have hw := hw.1 c9
    refine lv_iconst (v := -1) hx hb dX9_stop_11 (by decide) ?_
    exact wd_iret hx hb hr hlocks ⟨hw, rfl⟩ hP hS dX9_stop_12
  · have hw := hw.2 c9
    refine lv_iload_n hx hb dX9_stop_7 rfl (lv_at hl 2 rfl) ?_
    refine lv_if_ge (tgt := 13) hx hb dX9_stop_8 (by decide) (fun c9 => ?_) (fun c9 => ?_)
    · have hw := hw.1 c9
      refine lv_aload_n hx hb dX9_stop_13 rfl (lv_at hl 0 rfl) ?_
      refine va_get hx hb hts iX9 hown hK hP 0 (xw_q0 ad cI cJ cZ σ0) rfl 6 (by decide) f54 (fun _ h9 => h9) rfl dX9_stop_14 ?_
      refine va_getN hx hb hts iX3 hown hK hP 7 (xw_q7 ad cI cJ cZ σ0) rfl 0 (by decide) n213 (fun _ h9 => h9) rfl dX9_stop_17 ?_
      refine lv_if_ne (tgt := 26) hx hb dX9_stop_20 (by decide) (fun c9 => ?_) (fun c9 => ?_)
      · have hw := hw.1 c9
        refine lv_iload_n hx hb dX9_stop_26 rfl (lv_at hl 2 rfl) ?_
        refine lv_istore_n (lv' := [(3, .int a2), (0, .ref (ad 0)), (1, .int a1), (2, .int a2)]) hx hb dX9_stop_27 rfl hl (by decide) rfl (fun ls hl => ?_)
        obtain ⟨n9, hw⟩ := hw
        refine L28 a1 n9 a2 _ _ _ hw hP hS (lv_sub hl [1, 2, 0] rfl)
      · have hw := hw.2 c9
        refine lv_bipush (v := -4) hx hb dX9_stop_23 (by decide) ?_
        exact wd_iret hx hb hr hlocks ⟨hw, rfl⟩ hP hS dX9_stop_25
    · have hw := hw.2 c9
      refine lv_iconst (v := -1) hx hb dX9_stop_11 (by decide) ?_
      exact wd_iret hx hb hr hlocks ⟨hw, rfl⟩ hP hS dX9_stop_12
def wX9_used (σ0 : St) (a1 : Int32) (a2 : Int32) (post : Int32 → Prop) : Prop := (a1 < 0 → (post (-1 : Int32))) ∧ (¬ a1 < 0 → ((a1 < (σ0.1 7) → ((a2 = 0 → (vp_in a1 400 ∧ (post (σ0.2.1 6 a1.toNatClampNeg)))) ∧ (¬ a2 = 0 → ((a2 = 1 → (vp_in a1 400 ∧ (post (σ0.2.1 7 a1.toNatClampNeg)))) ∧ (¬ a2 = 1 → ((a2 = 2 → (vp_in a1 400 ∧ (post (σ0.2.1 8 a1.toNatClampNeg)))) ∧ (¬ a2 = 2 → (post (-1 : Int32))))))))) ∧ (¬ a1 < (σ0.1 7) → (post (-1 : Int32)))))
set_option maxHeartbeats 4000000 in
set_option maxRecDepth 100000 in
theorem mtX9_used (l : Launch) (D : va_G) (ad : Nat → Nat) (cI cJ cZ : ClassId) (A : Nat → Prop) (hD : ∀ σ : St, va_D A (xw ad cI cJ cZ σ)) (σ0 : St) (a1 : Int32) (a2 : Int32) (post : Int32 → Prop) (hw : wX9_used σ0 a1 a2 post) : Met l yX9_used wsX9_used ({ frames := 0, cells := 0, slots := 0, locals := 0 } : Room) (va_Pc [.ref (ad 0), .int a1, .int a2] (wd_pre D (xw ad cI cJ cZ) (wd_tys cI cJ cZ) σ0)) (va_Qi (fun (r : Int32) (u : St) => post r ∧ u = σ0) (wd_B D (xw ad cI cJ cZ)) A) 0 0 A := by
  refine Met.ofW (cc := cX9_used) (maxL := 3) (ret := (some .int)) (by decide) rfl ?_
  intro p e s m args below meth c s₁ B hml hv
  obtain ⟨rfl, hP, hK, hN⟩ := hv
  have hx := B.exec
  have hb := B.bytes
  have hr := B.returns
  have hts := atoms_spec (ws := wsX9_used) B.pre
  have hown : s.vm.findClass RX9 = some m.cls := findClass_of_methodNamed B.named
  have hlocks := B.notSynchronized
  have hS : va_S A s.heap s.heap [] := va_S.rf
  have f26 := hts (.fieldLink RX9 26 "LeastRights" "log" "LLeastRights$UseLog;") (by decide +kernel)
  have iX9 : ∀ w ∈ wsX90, w ∈ wsX9_used := by decide +kernel
  have n140 := va_Nw.use (A := ([.ref (ad 0), .int a1, .int a2] : List Value).toArray) rfl (hN.1 ("LeastRights", 140, "LeastRights$UseLog", "size", "I") (by decide +kernel))
  have iX8 : ∀ w ∈ wsX80, w ∈ wsX9_used := by decide +kernel
  have n227 := va_Nw.use (A := ([.ref (ad 0), .int a1, .int a2] : List Value).toArray) rfl (hN.1 ("LeastRights", 227, "LeastRights$UseLog", "who", "[I") (by decide +kernel))
  have n230 := va_Nw.use (A := ([.ref (ad 0), .int a1, .int a2] : List Value).toArray) rfl (hN.1 ("LeastRights", 230, "LeastRights$UseLog", "which", "[I") (by decide +kernel))
  have n233 := va_Nw.use (A := ([.ref (ad 0), .int a1, .int a2] : List Value).toArray) rfl (hN.1 ("LeastRights", 233, "LeastRights$UseLog", "when", "[I") (by decide +kernel))
  have hl := lv_entry ([.ref (ad 0), .int a1, .int a2]) (n := 3) (Nat.le_of_ble_eq_true rfl)
  rw [lg_entry_eq]
  generalize (lg_sl ([.ref (ad 0), .int a1, .int a2]) ++ List.replicate (3 - (lg_sl ([.ref (ad 0), .int a1, .int a2])).length) Slot.unset).toArray = ls at hl ⊢
  have hl : lv_has ls 3 [(0, .ref (ad 0)), (1, .int a1), (2, .int a2)] := hl
  unfold wX9_used at hw
  refine lv_iload_n hx hb dX9_used_0 rfl (lv_at hl 1 rfl) ?_
  refine lv_if_lt (tgt := 15) hx hb dX9_used_1 (by decide) (fun c9 => ?_) (fun c9 => ?_)
  · have hw := hw.1 c9
    refine lv_iconst (v := -1) hx hb dX9_used_15 (by decide) ?_
    exact wd_iret hx hb hr hlocks ⟨hw, rfl⟩ hP hS dX9_used_16
  · have hw := hw.2 c9
    refine lv_iload_n hx hb dX9_used_4 rfl (lv_at hl 1 rfl) ?_
    refine lv_aload_n hx hb dX9_used_5 rfl (lv_at hl 0 rfl) ?_
    refine va_get hx hb hts iX9 hown hK hP 0 (xw_q0 ad cI cJ cZ σ0) rfl 2 (by decide) f26 (fun _ h9 => h9) rfl dX9_used_6 ?_
    refine va_getN hx hb hts iX8 hown hK hP 3 (xw_q3 ad cI cJ cZ σ0) rfl 0 (by decide) n140 (fun _ h9 => h9) rfl dX9_used_9 ?_
    refine lv_icmp_lt (tgt := 17) hx hb dX9_used_12 (by decide) (fun c9 => ?_) (fun c9 => ?_)
    · have hw := hw.1 c9
      refine lv_iload_n hx hb dX9_used_17 rfl (lv_at hl 2 rfl) ?_
      by_cases c0 : a2 = 0
      · have hw := hw.1 c0
        refine lv_tableIn (off := 26) (tgt := 44) hx hb dX9_used_18 (by rw [c0]; decide) (by rw [c0]; decide) (by rw [c0]; rfl) (by decide) ?_
        refine lv_aload_n hx hb dX9_used_44 rfl (lv_at hl 0 rfl) ?_
        refine va_get hx hb hts iX9 hown hK hP 0 (xw_q0 ad cI cJ cZ σ0) rfl 2 (by decide) f26 (fun _ h9 => h9) rfl dX9_used_45 ?_
        refine va_getN hx hb hts iX8 hown hK hP 3 (xw_q3 ad cI cJ cZ σ0) rfl 1 (by decide) n227 (fun _ h9 => h9) rfl dX9_used_48 ?_
        refine lv_iload_n hx hb dX9_used_51 rfl (lv_at hl 1 rfl) ?_
        obtain ⟨h9, hw⟩ := hw
        refine va_iald hx hb hK hP 16 0 (xw_q16 ad cI cJ cZ σ0) rfl h9 dX9_used_52 ?_
        exact wd_iret hx hb hr hlocks ⟨hw, rfl⟩ hP hS dX9_used_53
      · have hw := hw.2 c0
        by_cases c1 : a2 = 1
        · have hw := hw.1 c1
          refine lv_tableIn (off := 36) (tgt := 54) hx hb dX9_used_18 (by rw [c1]; decide) (by rw [c1]; decide) (by rw [c1]; rfl) (by decide) ?_
          refine lv_aload_n hx hb dX9_used_54 rfl (lv_at hl 0 rfl) ?_
          refine va_get hx hb hts iX9 hown hK hP 0 (xw_q0 ad cI cJ cZ σ0) rfl 2 (by decide) f26 (fun _ h9 => h9) rfl dX9_used_55 ?_
          refine va_getN hx hb hts iX8 hown hK hP 3 (xw_q3 ad cI cJ cZ σ0) rfl 2 (by decide) n230 (fun _ h9 => h9) rfl dX9_used_58 ?_
          refine lv_iload_n hx hb dX9_used_61 rfl (lv_at hl 1 rfl) ?_
          obtain ⟨h9, hw⟩ := hw
          refine va_iald hx hb hK hP 17 0 (xw_q17 ad cI cJ cZ σ0) rfl h9 dX9_used_62 ?_
          exact wd_iret hx hb hr hlocks ⟨hw, rfl⟩ hP hS dX9_used_63
        · have hw := hw.2 c1
          by_cases c2 : a2 = 2
          · have hw := hw.1 c2
            refine lv_tableIn (off := 46) (tgt := 64) hx hb dX9_used_18 (by rw [c2]; decide) (by rw [c2]; decide) (by rw [c2]; rfl) (by decide) ?_
            refine lv_aload_n hx hb dX9_used_64 rfl (lv_at hl 0 rfl) ?_
            refine va_get hx hb hts iX9 hown hK hP 0 (xw_q0 ad cI cJ cZ σ0) rfl 2 (by decide) f26 (fun _ h9 => h9) rfl dX9_used_65 ?_
            refine va_getN hx hb hts iX8 hown hK hP 3 (xw_q3 ad cI cJ cZ σ0) rfl 3 (by decide) n233 (fun _ h9 => h9) rfl dX9_used_68 ?_
            refine lv_iload_n hx hb dX9_used_71 rfl (lv_at hl 1 rfl) ?_
            obtain ⟨h9, hw⟩ := hw
            refine va_iald hx hb hK hP 18 0 (xw_q18 ad cI cJ cZ σ0) rfl h9 dX9_used_72 ?_
            exact wd_iret hx hb hr hlocks ⟨hw, rfl⟩ hP hS dX9_used_73
          · have hw := hw.2 c2
            refine lv_tableOut (tgt := 74) hx hb dX9_used_18 (wd_sw2 a2 c0 c1 c2) (by decide) ?_
            refine lv_iconst (v := -1) hx hb dX9_used_74 (by decide) ?_
            exact wd_iret hx hb hr hlocks ⟨hw, rfl⟩ hP hS dX9_used_75
    · have hw := hw.2 c9
      refine lv_iconst (v := -1) hx hb dX9_used_15 (by decide) ?_
      exact wd_iret hx hb hr hlocks ⟨hw, rfl⟩ hP hS dX9_used_16
