/-! X10_asks X10_setCandidates X10_candidates X10_open X10_level X10_isNext X10_roles X10_tries -/
def wX10_asks (σ0 : St) (a1 : Int32) (post : Int32 → Prop) : Prop := wX10_in a1 (0 : Int32) (2 : Int32) (fun (r1 : Int32) => (r1 = 0 → (post (-1 : Int32))) ∧ (¬ r1 = 0 → (vp_in a1 3 ∧ (post (σ0.2.1 7 a1.toNatClampNeg)))))
set_option maxHeartbeats 4000000 in
set_option maxRecDepth 100000 in
theorem mtX10_asks (l : Launch) (D : va_G) (am : Nat → Nat) (cI cJ cZ : ClassId) (A : Nat → Prop) (hD : ∀ σ : St, va_D A (mw am cI cJ cZ σ)) (σ0 : St) (a1 : Int32) (post : Int32 → Prop) (hw : wX10_asks σ0 a1 post) : Met l yX10_asks wsX10_asks ({ frames := 1, cells := 0, slots := 0, locals := 22 } : Room) (va_Pc [.ref (am 0), .int a1] (wd_pre D (mw am cI cJ cZ) (wd_tys cI cJ cZ) σ0)) (va_Qi (fun (r : Int32) (u : St) => post r ∧ u = σ0) (wd_B D (mw am cI cJ cZ)) A) 0 0 A := by
  refine Met.ofW (cc := cX10_asks) (maxL := 2) (ret := (some .int)) (by decide) rfl ?_
  intro p e s m args below meth c s₁ B hml hv
  obtain ⟨rfl, hP, hK, hN⟩ := hv
  have hx := B.exec
  have hb := B.bytes
  have hr := B.returns
  have hts := atoms_spec (ws := wsX10_asks) B.pre
  have hown : s.vm.findClass RX10 = some m.cls := findClass_of_methodNamed B.named
  have hlocks := B.notSynchronized
  have hS : va_S A s.heap s.heap [] := va_S.rf
  have f41 := hts (.fieldLink RX10 41 "LeastRightsModel" "askCounts" "[I") (by decide +kernel)
  have iX10 : ∀ w ∈ wsX100, w ∈ wsX10_asks := by decide +kernel
  have hl := lv_entry ([.ref (am 0), .int a1]) (n := 2) (Nat.le_of_ble_eq_true rfl)
  rw [lg_entry_eq]
  generalize (lg_sl ([.ref (am 0), .int a1]) ++ List.replicate (2 - (lg_sl ([.ref (am 0), .int a1])).length) Slot.unset).toArray = ls at hl ⊢
  have hl : lv_has ls 2 [(0, .ref (am 0)), (1, .int a1)] := hl
  unfold wX10_asks at hw
  refine lv_iload_n hx hb dX10_asks_0 rfl (lv_at hl 1 rfl) ?_
  refine lv_iconst (v := 0) hx hb dX10_asks_1 (by decide) ?_
  refine lv_iconst (v := 2) hx hb dX10_asks_2 (by decide) ?_
  refine wd_cSi ⟨hx, hb, hml, hown, hts⟩ (mtX10_in l D am cI cJ cZ A hD σ0 a1 (0 : Int32) (2 : Int32) _ hw) (va_cwS 3 hts gX10_asks_X10_in rfl rfl rfl (by decide +kernel) ⟨(Nat.le_of_ble_eq_true rfl), (Nat.le_of_ble_eq_true rfl)⟩) hK hN hP hS rfl hl.1 rfl (Nat.le_of_ble_eq_true rfl) dX10_asks_3 ⟨Nat.zero_le _, Nat.zero_le _⟩ (fun r1 u9 H locs hq hP hS => ?_)
  obtain ⟨hw, hu⟩ := hq
  rw [hu] at hP
  refine lv_if_eq (tgt := 18) hx hb dX10_asks_6 (by decide) (fun c9 => ?_) (fun c9 => ?_)
  · have hw := hw.1 c9
    refine lv_iconst (v := -1) hx hb dX10_asks_18 (by decide) ?_
    exact wd_iret hx hb hr hlocks ⟨hw, rfl⟩ hP hS dX10_asks_19
  · have hw := hw.2 c9
    refine lv_aload_n hx hb dX10_asks_9 rfl (lv_at hl 0 rfl) ?_
    refine va_get hx hb hts iX10 hown hK hP 0 (mw_q0 am cI cJ cZ σ0) rfl 15 (by decide) f41 (fun _ h9 => h9) rfl dX10_asks_10 ?_
    refine lv_iload_n hx hb dX10_asks_13 rfl (lv_at hl 1 rfl) ?_
    obtain ⟨h9, hw⟩ := hw
    refine va_iald hx hb hK hP 8 0 (mw_q8 am cI cJ cZ σ0) rfl h9 dX10_asks_14 ?_
    refine lv_goto (tgt := 19) hx hb dX10_asks_15 (by decide) ?_
    exact wd_iret hx hb hr hlocks ⟨hw, rfl⟩ hP hS dX10_asks_19
def lpX10_setCandidates_2 (K22 : St → Prop) : Nat → Int32 → St → Prop
  | 0, _, _ => False
  | n + 1, v1, σ => ((4096 : Int32) ≤ v1 → (K22 σ)) ∧ (¬ (4096 : Int32) ≤ v1 → (vp_in v1 4096 ∧ (∀ σ1 : St, σ1 = st_A σ 9 v1.toNatClampNeg (vp_nar .boolean (0 : Int32)) → (∀ x2 : Int32, x2 = v1 + (1 : Int32) → (lpX10_setCandidates_2 K22 n x2 σ1)))))
def lpX10_setCandidates_24 (K49 : St → Prop) : Nat → Int32 → St → Prop
  | 0, _, _ => False
  | n + 1, v1, σ => ((σ.1 1) ≤ v1 → (K49 σ)) ∧ (¬ (σ.1 1) ≤ v1 → (wX10_keptOf σ v1 (fun (r4 : Int32) => vp_in v1 10 ∧ (∀ σ5 : St, σ5 = st_A σ 8 v1.toNatClampNeg r4 → (∀ x6 : Int32, x6 = v1 + (1 : Int32) → (lpX10_setCandidates_24 K49 n x6 σ5))))))
def lpX10_setCandidates_67 (u1 : Int32) (σ : St) (K104 : Int32 → Prop) : Nat → Int32 → Int32 → Prop
  | 0, _, _ => False
  | n + 1, v2, v3 => ((σ.1 1) ≤ v3 → (K104 v2)) ∧ (¬ (σ.1 1) ≤ v3 → (wX10_has u1 v3 (fun (r8 : Int32) => (r8 = 0 → (∀ x9 : Int32, x9 = (v2 &&& (4095 : Int32)) → (∀ x10 : Int32, x10 = v3 + (1 : Int32) → (lpX10_setCandidates_67 u1 σ K104 n x9 x10)))) ∧ (¬ r8 = 0 → (vp_in v3 10 ∧ (∀ x11 : Int32, x11 = (v2 &&& (σ.2.1 8 v3.toNatClampNeg)) → (∀ x12 : Int32, x12 = v3 + (1 : Int32) → (lpX10_setCandidates_67 u1 σ K104 n x11 x12))))))))
def lpX10_setCandidates_51 (K125 : St → Prop) : Nat → Int32 → St → Prop
  | 0, _, _ => False
  | n + 1, v1, σ => (((1 : Int32) <<< ((σ.1 1) &&& 31)) ≤ v1 → (K125 σ)) ∧ (¬ ((1 : Int32) <<< ((σ.1 1) &&& 31)) ≤ v1 → (∃ n18 : Nat, lpX10_setCandidates_67 v1 σ (fun (y13 : Int32) => (y13 = 0 → (vp_in y13 4096 ∧ (∀ σ14 : St, σ14 = st_A σ 9 y13.toNatClampNeg (vp_nar .boolean (0 : Int32)) → (∀ x15 : Int32, x15 = v1 + (1 : Int32) → (lpX10_setCandidates_51 K125 n x15 σ14))))) ∧ (¬ y13 = 0 → (vp_in y13 4096 ∧ (∀ σ16 : St, σ16 = st_A σ 9 y13.toNatClampNeg (vp_nar .boolean (1 : Int32)) → (∀ x17 : Int32, x17 = v1 + (1 : Int32) → (lpX10_setCandidates_51 K125 n x17 σ16)))))) n18 (4095 : Int32) (0 : Int32)))
def lpX10_setCandidates_129 (σ : St) (post : Int32 → St → Prop) : Nat → Int32 → Int32 → Prop
  | 0, _, _ => False
  | n + 1, v1, v2 => ((4096 : Int32) ≤ v2 → (post v1 σ)) ∧ (¬ (4096 : Int32) ≤ v2 → (vp_in v2 4096 ∧ (((σ.2.1 9 v2.toNatClampNeg) = 0 → (∀ x20 : Int32, x20 = (v1 + (0 : Int32)) → (∀ x21 : Int32, x21 = v2 + (1 : Int32) → (lpX10_setCandidates_129 σ post n x20 x21)))) ∧ (¬ (σ.2.1 9 v2.toNatClampNeg) = 0 → (∀ x22 : Int32, x22 = (v1 + (1 : Int32)) → (∀ x23 : Int32, x23 = v2 + (1 : Int32) → (lpX10_setCandidates_129 σ post n x22 x23)))))))
def wX10_setCandidates (σ0 : St) (post : Int32 → St → Prop) : Prop := ∃ n27 : Nat, lpX10_setCandidates_2 (fun (σ3 : St) => ∃ n26 : Nat, lpX10_setCandidates_24 (fun (σ7 : St) => ∃ n25 : Nat, lpX10_setCandidates_51 (fun (σ19 : St) => ∃ n24 : Nat, lpX10_setCandidates_129 σ19 post n24 (0 : Int32) (1 : Int32)) n25 (1 : Int32) σ7) n26 (0 : Int32) σ3) n27 (0 : Int32) σ0
set_option maxHeartbeats 4000000 in
set_option maxRecDepth 100000 in
theorem mtX10_setCandidates (l : Launch) (D : va_G) (am : Nat → Nat) (cI cJ cZ : ClassId) (A : Nat → Prop) (hD : ∀ σ : St, va_D A (mw am cI cJ cZ σ)) (σ0 : St) (post : Int32 → St → Prop) (hw : wX10_setCandidates σ0 post) : Met l yX10_setCandidates wsX10_setCandidates ({ frames := 3, cells := 0, slots := 0, locals := 71 } : Room) (va_Pc [.ref (am 0)] (wd_pre D (mw am cI cJ cZ) (wd_tys cI cJ cZ) σ0)) (va_Qi post (wd_B D (mw am cI cJ cZ)) A) 0 0 A := by
  refine Met.ofW (cc := cX10_setCandidates) (maxL := 4) (ret := (some .int)) (by decide) rfl ?_
  intro p e s m args below meth c s₁ B hml hv
  obtain ⟨rfl, hP, hK, hN⟩ := hv
  have hx := B.exec
  have hb := B.bytes
  have hr := B.returns
  have hts := atoms_spec (ws := wsX10_setCandidates) B.pre
  have hown : s.vm.findClass RX10 = some m.cls := findClass_of_methodNamed B.named
  have hlocks := B.notSynchronized
  have hS : va_S A s.heap s.heap [] := va_S.rf
  have f47 := hts (.fieldLink RX10 47 "LeastRightsModel" "isCandidate" "[Z") (by decide +kernel)
  have iX10 : ∀ w ∈ wsX100, w ∈ wsX10_setCandidates := by decide +kernel
  have f84 := hts (.fieldLink RX10 84 "LeastRightsModel" "people" "I") (by decide +kernel)
  have f44 := hts (.fieldLink RX10 44 "LeastRightsModel" "kept" "[I") (by decide +kernel)
  have L2 : ∀ (K22 : St → Prop) (_ : ∀ (σ : St) (H : Heap) (locs : List Loc) (ls : Array Slot), K22 σ → va_P D vwCl (mw am cI cJ cZ σ) H → va_S A s.heap H locs → lv_has ls 4 [(0, .ref (am 0))] → W p l e (headSpec wsX10_setCandidates ({ frames := 3, cells := 0, slots := 0, locals := 71 } : Room)).room s m ([.ref (am 0)] : List Value).toArray below meth c H locs 0 0 (MQ below (va_Qi post (wd_B D (mw am cI cJ cZ)) A) ([.ref (am 0)] : List Value).toArray s 0 0 A) (F0 m 22 ls [])) (n : Nat) (v1 : Int32) (σ : St) (H : Heap) (locs : List Loc) (ls : Array Slot), lpX10_setCandidates_2 K22 n v1 σ → va_P D vwCl (mw am cI cJ cZ σ) H → va_S A s.heap H locs → lv_has ls 4 [(0, .ref (am 0)), (1, .int v1)] → W p l e (headSpec wsX10_setCandidates ({ frames := 3, cells := 0, slots := 0, locals := 71 } : Room)).room s m ([.ref (am 0)] : List Value).toArray below meth c H locs 0 0 (MQ below (va_Qi post (wd_B D (mw am cI cJ cZ)) A) ([.ref (am 0)] : List Value).toArray s 0 0 A) (F0 m 2 ls []) := by
    intro K22 hK22 n
    induction n with
    | zero => intro v1 σ H locs ls hw; exact hw.elim
    | succ n ih =>
      intro v1 σ H locs ls hw hP hS hl
      rw [lpX10_setCandidates_2] at hw
      refine lv_iload_n hx hb dX10_setCandidates_2 rfl (lv_at hl 1 rfl) ?_
      refine lv_sipush (v := 4096) hx hb dX10_setCandidates_3 (by decide) ?_
      refine lv_icmp_ge (tgt := 22) hx hb dX10_setCandidates_6 (by decide) (fun c9 => ?_) (fun c9 => ?_)
      · have hw := hw.1 c9
        exact hK22 _ _ _ _ hw hP hS (lv_sub hl [0] rfl)
      · have hw := hw.2 c9
        refine lv_aload_n hx hb dX10_setCandidates_9 rfl (lv_at hl 0 rfl) ?_
        refine va_get hx hb hts iX10 hown hK hP 0 (mw_q0 am cI cJ cZ σ) rfl 18 (by decide) f47 (fun _ h9 => h9) rfl dX10_setCandidates_10 ?_
        refine lv_iload_n hx hb dX10_setCandidates_13 rfl (lv_at hl 1 rfl) ?_
        refine lv_iconst (v := 0) hx hb dX10_setCandidates_14 (by decide) ?_
        obtain ⟨h9, hw⟩ := hw
        refine wd_zast 9 10 hx hb hK hP hD hS (mw_q10 am cI cJ cZ σ) rfl (mw_a9 am cI cJ cZ σ) h9 dX10_setCandidates_15 (fun H locs σ1 eσ1 hP hS => ?_)
        have hw := hw σ1 eσ1
        obtain ⟨x2, ex2⟩ : ∃ z : Int32, z = v1 + (1 : Int32) := ⟨_, rfl⟩
        refine lv_iinc (v := x2) (lv' := [(1, .int x2), (0, .ref (am 0))]) hx hb dX10_setCandidates_16 hl (k := 1) rfl (by rw [ex2]; rfl) (by decide) rfl (fun ls hl => ?_)
        have hw := hw x2 ex2
        refine lv_goto (tgt := 2) hx hb dX10_setCandidates_19 (by decide) ?_
        exact ih _ _ _ _ _ hw hP hS (lv_sub hl [1, 0] rfl)
  have L24 : ∀ (K49 : St → Prop) (_ : ∀ (σ : St) (H : Heap) (locs : List Loc) (ls : Array Slot), K49 σ → va_P D vwCl (mw am cI cJ cZ σ) H → va_S A s.heap H locs → lv_has ls 4 [(0, .ref (am 0))] → W p l e (headSpec wsX10_setCandidates ({ frames := 3, cells := 0, slots := 0, locals := 71 } : Room)).room s m ([.ref (am 0)] : List Value).toArray below meth c H locs 0 0 (MQ below (va_Qi post (wd_B D (mw am cI cJ cZ)) A) ([.ref (am 0)] : List Value).toArray s 0 0 A) (F0 m 49 ls [])) (n : Nat) (v1 : Int32) (σ : St) (H : Heap) (locs : List Loc) (ls : Array Slot), lpX10_setCandidates_24 K49 n v1 σ → va_P D vwCl (mw am cI cJ cZ σ) H → va_S A s.heap H locs → lv_has ls 4 [(0, .ref (am 0)), (1, .int v1)] → W p l e (headSpec wsX10_setCandidates ({ frames := 3, cells := 0, slots := 0, locals := 71 } : Room)).room s m ([.ref (am 0)] : List Value).toArray below meth c H locs 0 0 (MQ below (va_Qi post (wd_B D (mw am cI cJ cZ)) A) ([.ref (am 0)] : List Value).toArray s 0 0 A) (F0 m 24 ls []) := by
    intro K49 hK49 n
    induction n with
    | zero => intro v1 σ H locs ls hw; exact hw.elim
    | succ n ih =>
      intro v1 σ H locs ls hw hP hS hl
      rw [lpX10_setCandidates_24] at hw
      refine lv_iload_n hx hb dX10_setCandidates_24 rfl (lv_at hl 1 rfl) ?_
      refine lv_aload_n hx hb dX10_setCandidates_25 rfl (lv_at hl 0 rfl) ?_
      refine va_get hx hb hts iX10 hown hK hP 0 (mw_q0 am cI cJ cZ σ) rfl 2 (by decide) f84 (fun _ h9 => h9) rfl dX10_setCandidates_26 ?_
      refine lv_icmp_ge (tgt := 49) hx hb dX10_setCandidates_29 (by decide) (fun c9 => ?_) (fun c9 => ?_)
      · have hw := hw.1 c9
        exact hK49 _ _ _ _ hw hP hS (lv_sub hl [0] rfl)
      · have hw := hw.2 c9
        refine lv_aload_n hx hb dX10_setCandidates_32 rfl (lv_at hl 0 rfl) ?_
        refine va_get hx hb hts iX10 hown hK hP 0 (mw_q0 am cI cJ cZ σ) rfl 17 (by decide) f44 (fun _ h9 => h9) rfl dX10_setCandidates_33 ?_
        refine lv_iload_n hx hb dX10_setCandidates_36 rfl (lv_at hl 1 rfl) ?_
        refine lv_aload_n hx hb dX10_setCandidates_37 rfl (lv_at hl 0 rfl) ?_
        refine lv_iload_n hx hb dX10_setCandidates_38 rfl (lv_at hl 1 rfl) ?_
        refine wd_cVi ⟨hx, hb, hml, hown, hts⟩ (mtX10_keptOf l D am cI cJ cZ A hD σ v1 _ hw) (cwV 1 hts gX10_setCandidates_X10_keptOf rfl rfl rfl (by decide +kernel) ⟨(Nat.le_of_ble_eq_true rfl), (Nat.le_of_ble_eq_true rfl)⟩) (va_recv hK hP (ci := 10) (q0 := 0) rfl (mw_q0 am cI cJ cZ σ)) hK hN hP hS rfl hl.1 rfl (Nat.le_of_ble_eq_true rfl) dX10_setCandidates_39 ⟨Nat.zero_le _, Nat.zero_le _⟩ (fun r4 u9 H locs hq hP hS => ?_)
        obtain ⟨hw, hu⟩ := hq
        rw [hu] at hP
        obtain ⟨h9, hw⟩ := hw
        refine wd_iast 8 9 hx hb hK hP hD hS (mw_q9 am cI cJ cZ σ) rfl (mw_a8 am cI cJ cZ σ) h9 dX10_setCandidates_42 (fun H locs σ5 eσ5 hP hS => ?_)
        have hw := hw σ5 eσ5
        obtain ⟨x6, ex6⟩ : ∃ z : Int32, z = v1 + (1 : Int32) := ⟨_, rfl⟩
        refine lv_iinc (v := x6) (lv' := [(1, .int x6), (0, .ref (am 0))]) hx hb dX10_setCandidates_43 hl (k := 1) rfl (by rw [ex6]; rfl) (by decide) rfl (fun ls hl => ?_)
        have hw := hw x6 ex6
        refine lv_goto (tgt := 24) hx hb dX10_setCandidates_46 (by decide) ?_
        exact ih _ _ _ _ _ hw hP hS (lv_sub hl [1, 0] rfl)
  have L67 : ∀ (u1 : Int32) (σ : St) (K104 : Int32 → Prop) (_ : ∀ (v2 : Int32) (H : Heap) (locs : List Loc) (ls : Array Slot), K104 v2 → va_P D vwCl (mw am cI cJ cZ σ) H → va_S A s.heap H locs → lv_has ls 4 [(0, .ref (am 0)), (1, .int u1), (2, .int v2)] → W p l e (headSpec wsX10_setCandidates ({ frames := 3, cells := 0, slots := 0, locals := 71 } : Room)).room s m ([.ref (am 0)] : List Value).toArray below meth c H locs 0 0 (MQ below (va_Qi post (wd_B D (mw am cI cJ cZ)) A) ([.ref (am 0)] : List Value).toArray s 0 0 A) (F0 m 104 ls [])) (n : Nat) (v2 : Int32) (v3 : Int32) (H : Heap) (locs : List Loc) (ls : Array Slot), lpX10_setCandidates_67 u1 σ K104 n v2 v3 → va_P D vwCl (mw am cI cJ cZ σ) H → va_S A s.heap H locs → lv_has ls 4 [(0, .ref (am 0)), (1, .int u1), (2, .int v2), (3, .int v3)] → W p l e (headSpec wsX10_setCandidates ({ frames := 3, cells := 0, slots := 0, locals := 71 } : Room)).room s m ([.ref (am 0)] : List Value).toArray below meth c H locs 0 0 (MQ below (va_Qi post (wd_B D (mw am cI cJ cZ)) A) ([.ref (am 0)] : List Value).toArray s 0 0 A) (F0 m 67 ls []) := by
    intro u1 σ K104 hK104 n
    induction n with
    | zero => intro v2 v3 H locs ls hw; exact hw.elim
    | succ n ih =>
      intro v2 v3 H locs ls hw hP hS hl
      rw [lpX10_setCandidates_67] at hw
      refine lv_iload_n hx hb dX10_setCandidates_67 rfl (lv_at hl 3 rfl) ?_
      refine lv_aload_n hx hb dX10_setCandidates_68 rfl (lv_at hl 0 rfl) ?_
      refine va_get hx hb hts iX10 hown hK hP 0 (mw_q0 am cI cJ cZ σ) rfl 2 (by decide) f84 (fun _ h9 => h9) rfl dX10_setCandidates_69 ?_
      refine lv_icmp_ge (tgt := 104) hx hb dX10_setCandidates_72 (by decide) (fun c9 => ?_) (fun c9 => ?_)
      · have hw := hw.1 c9
        exact hK104 _ _ _ _ hw hP hS (lv_sub hl [0, 1, 2] rfl)
      · have hw := hw.2 c9
        refine lv_iload_n hx hb dX10_setCandidates_75 rfl (lv_at hl 2 rfl) ?_
        refine lv_iload_n hx hb dX10_setCandidates_76 rfl (lv_at hl 1 rfl) ?_
        refine lv_iload_n hx hb dX10_setCandidates_77 rfl (lv_at hl 3 rfl) ?_
        refine wd_cSi ⟨hx, hb, hml, hown, hts⟩ (mtX10_has l D am cI cJ cZ A hD σ u1 v3 _ hw) (va_cwS 2 hts gX10_setCandidates_X10_has rfl rfl rfl (by decide +kernel) ⟨(Nat.le_of_ble_eq_true rfl), (Nat.le_of_ble_eq_true rfl)⟩) hK hN hP hS rfl hl.1 rfl (Nat.le_of_ble_eq_true rfl) dX10_setCandidates_78 ⟨Nat.zero_le _, Nat.zero_le _⟩ (fun r8 u9 H locs hq hP hS => ?_)
        obtain ⟨hw, hu⟩ := hq
        rw [hu] at hP
        refine lv_if_eq (tgt := 93) hx hb dX10_setCandidates_81 (by decide) (fun c9 => ?_) (fun c9 => ?_)
        · have hw := hw.1 c9
          refine lv_sipush (v := 4095) hx hb dX10_setCandidates_93 (by decide) ?_
          refine lv_iand hx hb dX10_setCandidates_96 ?_
          refine lv_topi (fun x9 ex9 => ?_)
          have hw := hw x9 ex9
          refine lv_istore_n (lv' := [(2, .int x9), (0, .ref (am 0)), (1, .int u1), (3, .int v3)]) hx hb dX10_setCandidates_97 rfl hl (by decide) rfl (fun ls hl => ?_)
          obtain ⟨x10, ex10⟩ : ∃ z : Int32, z = v3 + (1 : Int32) := ⟨_, rfl⟩
          refine lv_iinc (v := x10) (lv' := [(3, .int x10), (2, .int x9), (0, .ref (am 0)), (1, .int u1)]) hx hb dX10_setCandidates_98 hl (k := 3) rfl (by rw [ex10]; rfl) (by decide) rfl (fun ls hl => ?_)
          have hw := hw x10 ex10
          refine lv_goto (tgt := 67) hx hb dX10_setCandidates_101 (by decide) ?_
          exact ih _ _ _ _ _ hw hP hS (lv_sub hl [2, 3, 1, 0] rfl)
        · have hw := hw.2 c9
          refine lv_aload_n hx hb dX10_setCandidates_84 rfl (lv_at hl 0 rfl) ?_
          refine va_get hx hb hts iX10 hown hK hP 0 (mw_q0 am cI cJ cZ σ) rfl 17 (by decide) f44 (fun _ h9 => h9) rfl dX10_setCandidates_85 ?_
          refine lv_iload_n hx hb dX10_setCandidates_88 rfl (lv_at hl 3 rfl) ?_
          obtain ⟨h9, hw⟩ := hw
          refine va_iald hx hb hK hP 9 0 (mw_q9 am cI cJ cZ σ) rfl h9 dX10_setCandidates_89 ?_
          refine lv_goto (tgt := 96) hx hb dX10_setCandidates_90 (by decide) ?_
          refine lv_iand hx hb dX10_setCandidates_96 ?_
          refine lv_topi (fun x11 ex11 => ?_)
          have hw := hw x11 ex11
          refine lv_istore_n (lv' := [(2, .int x11), (0, .ref (am 0)), (1, .int u1), (3, .int v3)]) hx hb dX10_setCandidates_97 rfl hl (by decide) rfl (fun ls hl => ?_)
          obtain ⟨x12, ex12⟩ : ∃ z : Int32, z = v3 + (1 : Int32) := ⟨_, rfl⟩
          refine lv_iinc (v := x12) (lv' := [(3, .int x12), (2, .int x11), (0, .ref (am 0)), (1, .int u1)]) hx hb dX10_setCandidates_98 hl (k := 3) rfl (by rw [ex12]; rfl) (by decide) rfl (fun ls hl => ?_)
          have hw := hw x12 ex12
          refine lv_goto (tgt := 67) hx hb dX10_setCandidates_101 (by decide) ?_
          exact ih _ _ _ _ _ hw hP hS (lv_sub hl [2, 3, 1, 0] rfl)
  have L51 : ∀ (K125 : St → Prop) (_ : ∀ (σ : St) (H : Heap) (locs : List Loc) (ls : Array Slot), K125 σ → va_P D vwCl (mw am cI cJ cZ σ) H → va_S A s.heap H locs → lv_has ls 4 [(0, .ref (am 0))] → W p l e (headSpec wsX10_setCandidates ({ frames := 3, cells := 0, slots := 0, locals := 71 } : Room)).room s m ([.ref (am 0)] : List Value).toArray below meth c H locs 0 0 (MQ below (va_Qi post (wd_B D (mw am cI cJ cZ)) A) ([.ref (am 0)] : List Value).toArray s 0 0 A) (F0 m 125 ls [])) (n : Nat) (v1 : Int32) (σ : St) (H : Heap) (locs : List Loc) (ls : Array Slot), lpX10_setCandidates_51 K125 n v1 σ → va_P D vwCl (mw am cI cJ cZ σ) H → va_S A s.heap H locs → lv_has ls 4 [(0, .ref (am 0)), (1, .int v1)] → W p l e (headSpec wsX10_setCandidates ({ frames := 3, cells := 0, slots := 0, locals := 71 } : Room)).room s m ([.ref (am 0)] : List Value).toArray below meth c H locs 0 0 (MQ below (va_Qi post (wd_B D (mw am cI cJ cZ)) A) ([.ref (am 0)] : List Value).toArray s 0 0 A) (F0 m 51 ls []) := by
    intro K125 hK125 n
    induction n with
    | zero => intro v1 σ H locs ls hw; exact hw.elim
    | succ n ih =>
      intro v1 σ H locs ls hw hP hS hl
      rw [lpX10_setCandidates_51] at hw
      refine lv_iload_n hx hb dX10_setCandidates_51 rfl (lv_at hl 1 rfl) ?_
      refine lv_iconst (v := 1) hx hb dX10_setCandidates_52 (by decide) ?_
      refine lv_aload_n hx hb dX10_setCandidates_53 rfl (lv_at hl 0 rfl) ?_
      refine va_get hx hb hts iX10 hown hK hP 0 (mw_q0 am cI cJ cZ σ) rfl 2 (by decide) f84 (fun _ h9 => h9) rfl dX10_setCandidates_54 ?_
      refine lv_ishl hx hb dX10_setCandidates_57 ?_
      refine lv_icmp_ge (tgt := 125) hx hb dX10_setCandidates_58 (by decide) (fun c9 => ?_) (fun c9 => ?_)
      · have hw := hw.1 c9
        exact hK125 _ _ _ _ hw hP hS (lv_sub hl [0] rfl)
      · have hw := hw.2 c9
        refine lv_sipush (v := 4095) hx hb dX10_setCandidates_61 (by decide) ?_
        refine lv_istore_n (lv' := [(2, .int (4095 : Int32)), (0, .ref (am 0)), (1, .int v1)]) hx hb dX10_setCandidates_64 rfl hl (by decide) rfl (fun ls hl => ?_)
        refine lv_iconst (v := 0) hx hb dX10_setCandidates_65 (by decide) ?_
        refine lv_istore_n (lv' := [(3, .int (0 : Int32)), (2, .int (4095 : Int32)), (0, .ref (am 0)), (1, .int v1)]) hx hb dX10_setCandidates_66 rfl hl (by decide) rfl (fun ls hl => ?_)
        obtain ⟨n9, hw⟩ := hw
        refine L67 v1 σ _ ?_ n9 (4095 : Int32) (0 : Int32) _ _ _ hw hP hS (lv_sub hl [2, 3, 1, 0] rfl)
        · intro y13 H locs ls hw hP hS hl
          refine lv_aload_n hx hb dX10_setCandidates_104 rfl (lv_at hl 0 rfl) ?_
          refine va_get hx hb hts iX10 hown hK hP 0 (mw_q0 am cI cJ cZ σ) rfl 18 (by decide) f47 (fun _ h9 => h9) rfl dX10_setCandidates_105 ?_
          refine lv_iload_n hx hb dX10_setCandidates_108 rfl (lv_at hl 2 rfl) ?_
          refine lv_iload_n hx hb dX10_setCandidates_109 rfl (lv_at hl 2 rfl) ?_
          refine lv_if_eq (tgt := 117) hx hb dX10_setCandidates_110 (by decide) (fun c9 => ?_) (fun c9 => ?_)
          · have hw := hw.1 c9
            refine lv_iconst (v := 0) hx hb dX10_setCandidates_117 (by decide) ?_
            obtain ⟨h9, hw⟩ := hw
            refine wd_zast 9 10 hx hb hK hP hD hS (mw_q10 am cI cJ cZ σ) rfl (mw_a9 am cI cJ cZ σ) h9 dX10_setCandidates_118 (fun H locs σ14 eσ14 hP hS => ?_)
            have hw := hw σ14 eσ14
            obtain ⟨x15, ex15⟩ : ∃ z : Int32, z = v1 + (1 : Int32) := ⟨_, rfl⟩
            refine lv_iinc (v := x15) (lv' := [(1, .int x15), (0, .ref (am 0)), (2, .int y13)]) hx hb dX10_setCandidates_119 hl (k := 1) rfl (by rw [ex15]; rfl) (by decide) rfl (fun ls hl => ?_)
            have hw := hw x15 ex15
            refine lv_goto (tgt := 51) hx hb dX10_setCandidates_122 (by decide) ?_
            exact ih _ _ _ _ _ hw hP hS (lv_sub hl [1, 0] rfl)
          · have hw := hw.2 c9
            refine lv_iconst (v := 1) hx hb dX10_setCandidates_113 (by decide) ?_
            refine lv_goto (tgt := 118) hx hb dX10_setCandidates_114 (by decide) ?_
            obtain ⟨h9, hw⟩ := hw
            refine wd_zast 9 10 hx hb hK hP hD hS (mw_q10 am cI cJ cZ σ) rfl (mw_a9 am cI cJ cZ σ) h9 dX10_setCandidates_118 (fun H locs σ16 eσ16 hP hS => ?_)
            have hw := hw σ16 eσ16
            obtain ⟨x17, ex17⟩ : ∃ z : Int32, z = v1 + (1 : Int32) := ⟨_, rfl⟩
            refine lv_iinc (v := x17) (lv' := [(1, .int x17), (0, .ref (am 0)), (2, .int y13)]) hx hb dX10_setCandidates_119 hl (k := 1) rfl (by rw [ex17]; rfl) (by decide) rfl (fun ls hl => ?_)
            have hw := hw x17 ex17
            refine lv_goto (tgt := 51) hx hb dX10_setCandidates_122 (by decide) ?_
            exact ih _ _ _ _ _ hw hP hS (lv_sub hl [1, 0] rfl)
  have L129 : ∀ (σ : St) (n : Nat) (v1 : Int32) (v2 : Int32) (H : Heap) (locs : List Loc) (ls : Array Slot), lpX10_setCandidates_129 σ post n v1 v2 → va_P D vwCl (mw am cI cJ cZ σ) H → va_S A s.heap H locs → lv_has ls 4 [(0, .ref (am 0)), (1, .int v1), (2, .int v2)] → W p l e (headSpec wsX10_setCandidates ({ frames := 3, cells := 0, slots := 0, locals := 71 } : Room)).room s m ([.ref (am 0)] : List Value).toArray below meth c H locs 0 0 (MQ below (va_Qi post (wd_B D (mw am cI cJ cZ)) A) ([.ref (am 0)] : List Value).toArray s 0 0 A) (F0 m 129 ls []) := by
    intro σ n
    induction n with
    | zero => intro v1 v2 H locs ls hw; exact hw.elim
    | succ n ih =>
      intro v1 v2 H locs ls hw hP hS hl
      rw [lpX10_setCandidates_129] at hw
      refine lv_iload_n hx hb dX10_setCandidates_129 rfl (lv_at hl 2 rfl) ?_
      refine lv_sipush (v := 4096) hx hb dX10_setCandidates_130 (by decide) ?_
      refine lv_icmp_ge (tgt := 159) hx hb dX10_setCandidates_133 (by decide) (fun c9 => ?_) (fun c9 => ?_)
      · have hw := hw.1 c9
        refine lv_iload_n hx hb dX10_setCandidates_159 rfl (lv_at hl 1 rfl) ?_
        exact wd_iret hx hb hr hlocks hw hP hS dX10_setCandidates_160
      · have hw := hw.2 c9
        refine lv_iload_n hx hb dX10_setCandidates_136 rfl (lv_at hl 1 rfl) ?_
        refine lv_aload_n hx hb dX10_setCandidates_137 rfl (lv_at hl 0 rfl) ?_
        refine va_get hx hb hts iX10 hown hK hP 0 (mw_q0 am cI cJ cZ σ) rfl 18 (by decide) f47 (fun _ h9 => h9) rfl dX10_setCandidates_138 ?_
        refine lv_iload_n hx hb dX10_setCandidates_141 rfl (lv_at hl 2 rfl) ?_
        obtain ⟨h9, hw⟩ := hw
        refine va_zald hx hb hK hP 10 2 (mw_q10 am cI cJ cZ σ) rfl h9 dX10_setCandidates_142 ?_
        refine lv_if_eq (tgt := 150) hx hb dX10_setCandidates_143 (by decide) (fun c9 => ?_) (fun c9 => ?_)
        · have hw := hw.1 c9
          refine lv_iconst (v := 0) hx hb dX10_setCandidates_150 (by decide) ?_
          refine lv_iadd hx hb dX10_setCandidates_151 ?_
          refine lv_topi (fun x20 ex20 => ?_)
          have hw := hw x20 ex20
          refine lv_istore_n (lv' := [(1, .int x20), (0, .ref (am 0)), (2, .int v2)]) hx hb dX10_setCandidates_152 rfl hl (by decide) rfl (fun ls hl => ?_)
          obtain ⟨x21, ex21⟩ : ∃ z : Int32, z = v2 + (1 : Int32) := ⟨_, rfl⟩
          refine lv_iinc (v := x21) (lv' := [(2, .int x21), (1, .int x20), (0, .ref (am 0))]) hx hb dX10_setCandidates_153 hl (k := 2) rfl (by rw [ex21]; rfl) (by decide) rfl (fun ls hl => ?_)
          have hw := hw x21 ex21
          refine lv_goto (tgt := 129) hx hb dX10_setCandidates_156 (by decide) ?_
          exact ih _ _ _ _ _ hw hP hS (lv_sub hl [2, 1, 0] rfl)
        · have hw := hw.2 c9
          refine lv_iconst (v := 1) hx hb dX10_setCandidates_146 (by decide) ?_
          refine lv_goto (tgt := 151) hx hb dX10_setCandidates_147 (by decide) ?_
          refine lv_iadd hx hb dX10_setCandidates_151 ?_
          refine lv_topi (fun x22 ex22 => ?_)
          have hw := hw x22 ex22
          refine lv_istore_n (lv' := [(1, .int x22), (0, .ref (am 0)), (2, .int v2)]) hx hb dX10_setCandidates_152 rfl hl (by decide) rfl (fun ls hl => ?_)
          obtain ⟨x23, ex23⟩ : ∃ z : Int32, z = v2 + (1 : Int32) := ⟨_, rfl⟩
          refine lv_iinc (v := x23) (lv' := [(2, .int x23), (1, .int x22), (0, .ref (am 0))]) hx hb dX10_setCandidates_153 hl (k := 2) rfl (by rw [ex23]; rfl) (by decide) rfl (fun ls hl => ?_)
          have hw := hw x23 ex23
          refine lv_goto (tgt := 129) hx hb dX10_setCandidates_156 (by decide) ?_
          exact ih _ _ _ _ _ hw hP hS (lv_sub hl [2, 1, 0] rfl)
  have hl := lv_entry ([.ref (am 0)]) (n := 4) (Nat.le_of_ble_eq_true rfl)
  rw [lg_entry_eq]
  generalize (lg_sl ([.ref (am 0)]) ++ List.replicate (4 - (lg_sl ([.ref (am 0)])).length) Slot.unset).toArray = ls at hl ⊢
  have hl : lv_has ls 4 [(0, .ref (am 0))] := hl
  unfold wX10_setCandidates at hw
  refine lv_iconst (v := 0) hx hb dX10_setCandidates_0 (by decide) ?_
  refine lv_istore_n (lv' := [(1, .int (0 : Int32)), (0, .ref (am 0))]) hx hb dX10_setCandidates_1 rfl hl (by decide) rfl (fun ls hl => ?_)
  obtain ⟨n9, hw⟩ := hw
  refine L2 _ ?_ n9 (0 : Int32) σ0 _ _ _ hw hP hS (lv_sub hl [1, 0] rfl)
  · intro σ3 H locs ls hw hP hS hl
    refine lv_iconst (v := 0) hx hb dX10_setCandidates_22 (by decide) ?_
    refine lv_istore_n (lv' := [(1, .int (0 : Int32)), (0, .ref (am 0))]) hx hb dX10_setCandidates_23 rfl hl (by decide) rfl (fun ls hl => ?_)
    obtain ⟨n9, hw⟩ := hw
    refine L24 _ ?_ n9 (0 : Int32) σ3 _ _ _ hw hP hS (lv_sub hl [1, 0] rfl)
    · intro σ7 H locs ls hw hP hS hl
      refine lv_iconst (v := 1) hx hb dX10_setCandidates_49 (by decide) ?_
      refine lv_istore_n (lv' := [(1, .int (1 : Int32)), (0, .ref (am 0))]) hx hb dX10_setCandidates_50 rfl hl (by decide) rfl (fun ls hl => ?_)
      obtain ⟨n9, hw⟩ := hw
      refine L51 _ ?_ n9 (1 : Int32) σ7 _ _ _ hw hP hS (lv_sub hl [1, 0] rfl)
      · intro σ19 H locs ls hw hP hS hl
        refine lv_iconst (v := 0) hx hb dX10_setCandidates_125 (by decide) ?_
        refine lv_istore_n (lv' := [(1, .int (0 : Int32)), (0, .ref (am 0))]) hx hb dX10_setCandidates_126 rfl hl (by decide) rfl (fun ls hl => ?_)
        refine lv_iconst (v := 1) hx hb dX10_setCandidates_127 (by decide) ?_
        refine lv_istore_n (lv' := [(2, .int (1 : Int32)), (1, .int (0 : Int32)), (0, .ref (am 0))]) hx hb dX10_setCandidates_128 rfl hl (by decide) rfl (fun ls hl => ?_)
        obtain ⟨n9, hw⟩ := hw
        refine L129 σ19 n9 (0 : Int32) (1 : Int32) _ _ _ hw hP hS (lv_sub hl [2, 1, 0] rfl)
def wX10_candidates (σ0 : St) (post : Int32 → St → Prop) : Prop := wX10_setCandidates σ0 (fun (r1 : Int32) (σ2 : St) => post r1 σ2)
set_option maxHeartbeats 4000000 in
set_option maxRecDepth 100000 in
theorem mtX10_candidates (l : Launch) (D : va_G) (am : Nat → Nat) (cI cJ cZ : ClassId) (A : Nat → Prop) (hD : ∀ σ : St, va_D A (mw am cI cJ cZ σ)) (σ0 : St) (post : Int32 → St → Prop) (hw : wX10_candidates σ0 post) : Met l yX10_candidates wsX10_candidates ({ frames := 4, cells := 0, slots := 0, locals := 94 } : Room) (va_Pc [.ref (am 0)] (wd_pre D (mw am cI cJ cZ) (wd_tys cI cJ cZ) σ0)) (va_Qi post (wd_B D (mw am cI cJ cZ)) A) 0 0 A := by
  refine Met.ofW (cc := cX10_candidates) (maxL := 1) (ret := (some .int)) (by decide) rfl ?_
  intro p e s m args below meth c s₁ B hml hv
  obtain ⟨rfl, hP, hK, hN⟩ := hv
  have hx := B.exec
  have hb := B.bytes
  have hr := B.returns
  have hts := atoms_spec (ws := wsX10_candidates) B.pre
  have hown : s.vm.findClass RX10 = some m.cls := findClass_of_methodNamed B.named
  have hlocks := B.notSynchronized
  have hS : va_S A s.heap s.heap [] := va_S.rf
  have hl := lv_entry ([.ref (am 0)]) (n := 1) (Nat.le_of_ble_eq_true rfl)
  rw [lg_entry_eq]
  generalize (lg_sl ([.ref (am 0)]) ++ List.replicate (1 - (lg_sl ([.ref (am 0)])).length) Slot.unset).toArray = ls at hl ⊢
  have hl : lv_has ls 1 [(0, .ref (am 0))] := hl
  unfold wX10_candidates at hw
  refine lv_aload_n hx hb dX10_candidates_0 rfl (lv_at hl 0 rfl) ?_
  refine wd_cVi ⟨hx, hb, hml, hown, hts⟩ (mtX10_setCandidates l D am cI cJ cZ A hD σ0  _ hw) (cwV 0 hts gX10_candidates_X10_setCandidates rfl rfl rfl (by decide +kernel) ⟨(Nat.le_of_ble_eq_true rfl), (Nat.le_of_ble_eq_true rfl)⟩) (va_recv hK hP (ci := 10) (q0 := 0) rfl (mw_q0 am cI cJ cZ σ0)) hK hN hP hS rfl hl.1 rfl (Nat.le_of_ble_eq_true rfl) dX10_candidates_1 ⟨Nat.zero_le _, Nat.zero_le _⟩ (fun r1 σ2 H locs hw hP hS => ?_)
  exact wd_iret hx hb hr hlocks hw hP hS dX10_candidates_4
def lpX10_open_15 (u1 : Int32) (u2 : Int32) (σ0 : St) (K60 : Int32 → Prop) : Nat → Int32 → Int32 → Prop
  | 0, _, _ => False
  | n + 1, v3, v4 => (u1 ≤ v4 → (K60 v3)) ∧ (¬ u1 ≤ v4 → (vp_in v4 64 ∧ (vp_in u2 10 ∧ ((¬ ((σ0.2.1 11 v4.toNatClampNeg) &&& ((σ0.2.1 8 u2.toNatClampNeg) ^^^ (-1 : Int32))) = 0 → (∀ x1 : Int32, x1 = (v3 ||| (0 : Int32)) → (∀ x2 : Int32, x2 = v4 + (1 : Int32) → (lpX10_open_15 u1 u2 σ0 K60 n x1 x2)))) ∧ (((σ0.2.1 11 v4.toNatClampNeg) &&& ((σ0.2.1 8 u2.toNatClampNeg) ^^^ (-1 : Int32))) = 0 → (vp_in v4 64 ∧ (∀ x3 : Int32, x3 = (v3 ||| (σ0.2.1 11 v4.toNatClampNeg)) → (∀ x4 : Int32, x4 = v4 + (1 : Int32) → (lpX10_open_15 u1 u2 σ0 K60 n x3 x4)))))))))
def lpX10_open_63 (u1 : Int32) (u2 : Int32) (u3 : Int32) (σ0 : St) (K102 : Prop) (post : Int32 → Prop) : Nat → Int32 → Prop
  | 0, _ => False
  | n + 1, v4 => ((12 : Int32) ≤ v4 → (K102)) ∧ (¬ (12 : Int32) ≤ v4 → (vp_in u2 10 ∧ (wX10_has ((σ0.2.1 8 u2.toNatClampNeg) &&& (u3 ^^^ (-1 : Int32))) v4 (fun (r6 : Int32) => (r6 = 0 → (∀ x7 : Int32, x7 = v4 + (1 : Int32) → (lpX10_open_63 u1 u2 u3 σ0 K102 post n x7))) ∧ (¬ r6 = 0 → (post (((12 : Int32) * u2) + v4)))))))
def lpX10_open_2 (u1 : Int32) (σ0 : St) (post : Int32 → Prop) : Nat → Int32 → Prop
  | 0, _ => False
  | n + 1, v2 => ((σ0.1 1) ≤ v2 → (post (-9 : Int32))) ∧ (¬ (σ0.1 1) ≤ v2 → (∃ n10 : Nat, lpX10_open_15 u1 v2 σ0 (fun (y5 : Int32) => ∃ n9 : Nat, lpX10_open_63 u1 v2 y5 σ0 (∀ x8 : Int32, x8 = v2 + (1 : Int32) → (lpX10_open_2 u1 σ0 post n x8)) post n9 (0 : Int32)) n10 (0 : Int32) (0 : Int32)))
def wX10_open (σ0 : St) (a1 : Int32) (post : Int32 → Prop) : Prop := ∃ n11 : Nat, lpX10_open_2 a1 σ0 post n11 (0 : Int32)
set_option maxHeartbeats 4000000 in
set_option maxRecDepth 100000 in
theorem mtX10_open (l : Launch) (D : va_G) (am : Nat → Nat) (cI cJ cZ : ClassId) (A : Nat → Prop) (hD : ∀ σ : St, va_D A (mw am cI cJ cZ σ)) (σ0 : St) (a1 : Int32) (post : Int32 → Prop) (hw : wX10_open σ0 a1 post) : Met l yX10_open wsX10_open ({ frames := 1, cells := 0, slots := 0, locals := 21 } : Room) (va_Pc [.ref (am 0), .int a1] (wd_pre D (mw am cI cJ cZ) (wd_tys cI cJ cZ) σ0)) (va_Qi (fun (r : Int32) (u : St) => post r ∧ u = σ0) (wd_B D (mw am cI cJ cZ)) A) 0 0 A := by
  refine Met.ofW (cc := cX10_open) (maxL := 5) (ret := (some .int)) (by decide) rfl ?_
  intro p e s m args below meth c s₁ B hml hv
  obtain ⟨rfl, hP, hK, hN⟩ := hv
  have hx := B.exec
  have hb := B.bytes
  have hr := B.returns
  have hts := atoms_spec (ws := wsX10_open) B.pre
  have hown : s.vm.findClass RX10 = some m.cls := findClass_of_methodNamed B.named
  have hlocks := B.notSynchronized
  have hS : va_S A s.heap s.heap [] := va_S.rf
  have f84 := hts (.fieldLink RX10 84 "LeastRightsModel" "people" "I") (by decide +kernel)
  have iX10 : ∀ w ∈ wsX100, w ∈ wsX10_open := by decide +kernel
  have f54 := hts (.fieldLink RX10 54 "LeastRightsModel" "path" "[I") (by decide +kernel)
  have f44 := hts (.fieldLink RX10 44 "LeastRightsModel" "kept" "[I") (by decide +kernel)
  have L15 : ∀ (u1 : Int32) (u2 : Int32) (K60 : Int32 → Prop) (_ : ∀ (v3 : Int32) (H : Heap) (locs : List Loc) (ls : Array Slot), K60 v3 → va_P D vwCl (mw am cI cJ cZ σ0) H → va_S A s.heap H locs → lv_has ls 5 [(0, .ref (am 0)), (1, .int u1), (2, .int u2), (3, .int v3)] → W p l e (headSpec wsX10_open ({ frames := 1, cells := 0, slots := 0, locals := 21 } : Room)).room s m ([.ref (am 0), .int a1] : List Value).toArray below meth c H locs 0 0 (MQ below (va_Qi (fun (r : Int32) (u : St) => post r ∧ u = σ0) (wd_B D (mw am cI cJ cZ)) A) ([.ref (am 0), .int a1] : List Value).toArray s 0 0 A) (F0 m 60 ls [])) (n : Nat) (v3 : Int32) (v4 : Int32) (H : Heap) (locs : List Loc) (ls : Array Slot), lpX10_open_15 u1 u2 σ0 K60 n v3 v4 → va_P D vwCl (mw am cI cJ cZ σ0) H → va_S A s.heap H locs → lv_has ls 5 [(0, .ref (am 0)), (1, .int u1), (2, .int u2), (3, .int v3), (4, .int v4)] → W p l e (headSpec wsX10_open ({ frames := 1, cells := 0, slots := 0, locals := 21 } : Room)).room s m ([.ref (am 0), .int a1] : List Value).toArray below meth c H locs 0 0 (MQ below (va_Qi (fun (r : Int32) (u : St) => post r ∧ u = σ0) (wd_B D (mw am cI cJ cZ)) A) ([.ref (am 0), .int a1] : List Value).toArray s 0 0 A) (F0 m 15 ls []) := by
    intro u1 u2 K60 hK60 n
    induction n with
    | zero => intro v3 v4 H locs ls hw; exact hw.elim
    | succ n ih =>
      intro v3 v4 H locs ls hw hP hS hl
      rw [lpX10_open_15] at hw
      refine lv_iload hx hb dX10_open_15 (lv_at hl 4 rfl) ?_
      refine lv_iload_n hx hb dX10_open_17 rfl (lv_at hl 1 rfl) ?_
      refine lv_icmp_ge (tgt := 60) hx hb dX10_open_18 (by decide) (fun c9 => ?_) (fun c9 => ?_)
      · have hw := hw.1 c9
        exact hK60 _ _ _ _ hw hP hS (lv_sub hl [0, 1, 2, 3] rfl)
      · have hw := hw.2 c9
        refine lv_iload_n hx hb dX10_open_21 rfl (lv_at hl 3 rfl) ?_
        refine lv_aload_n hx hb dX10_open_22 rfl (lv_at hl 0 rfl) ?_
        refine va_get hx hb hts iX10 hown hK hP 0 (mw_q0 am cI cJ cZ σ0) rfl 22 (by decide) f54 (fun _ h9 => h9) rfl dX10_open_23 ?_
        refine lv_iload hx hb dX10_open_26 (lv_at hl 4 rfl) ?_
        obtain ⟨h9, hw⟩ := hw
        refine va_iald hx hb hK hP 12 0 (mw_q12 am cI cJ cZ σ0) rfl h9 dX10_open_28 ?_
        refine lv_aload_n hx hb dX10_open_29 rfl (lv_at hl 0 rfl) ?_
        refine va_get hx hb hts iX10 hown hK hP 0 (mw_q0 am cI cJ cZ σ0) rfl 17 (by decide) f44 (fun _ h9 => h9) rfl dX10_open_30 ?_
        refine lv_iload_n hx hb dX10_open_33 rfl (lv_at hl 2 rfl) ?_
        obtain ⟨h9, hw⟩ := hw
        refine va_iald hx hb hK hP 9 0 (mw_q9 am cI cJ cZ σ0) rfl h9 dX10_open_34 ?_
        refine lv_iconst (v := -1) hx hb dX10_open_35 (by decide) ?_
        refine lv_ixor hx hb dX10_open_36 ?_
        refine lv_iand hx hb dX10_open_37 ?_
        refine lv_if_ne (tgt := 51) hx hb dX10_open_38 (by decide) (fun c9 => ?_) (fun c9 => ?_)
        · have hw := hw.1 c9
          refine lv_iconst (v := 0) hx hb dX10_open_51 (by decide) ?_
          refine lv_ior hx hb dX10_open_52 ?_
          refine lv_topi (fun x1 ex1 => ?_)
          have hw := hw x1 ex1
          refine lv_istore_n (lv' := [(3, .int x1), (0, .ref (am 0)), (1, .int u1), (2, .int u2), (4, .int v4)]) hx hb dX10_open_53 rfl hl (by decide) rfl (fun ls hl => ?_)
          obtain ⟨x2, ex2⟩ : ∃ z : Int32, z = v4 + (1 : Int32) := ⟨_, rfl⟩
          refine lv_iinc (v := x2) (lv' := [(4, .int x2), (3, .int x1), (0, .ref (am 0)), (1, .int u1), (2, .int u2)]) hx hb dX10_open_54 hl (k := 4) rfl (by rw [ex2]; rfl) (by decide) rfl (fun ls hl => ?_)
          have hw := hw x2 ex2
          refine lv_goto (tgt := 15) hx hb dX10_open_57 (by decide) ?_
          exact ih _ _ _ _ _ hw hP hS (lv_sub hl [2, 3, 4, 1, 0] rfl)
        · have hw := hw.2 c9
          refine lv_aload_n hx hb dX10_open_41 rfl (lv_at hl 0 rfl) ?_
          refine va_get hx hb hts iX10 hown hK hP 0 (mw_q0 am cI cJ cZ σ0) rfl 22 (by decide) f54 (fun _ h9 => h9) rfl dX10_open_42 ?_
          refine lv_iload hx hb dX10_open_45 (lv_at hl 4 rfl) ?_
          obtain ⟨h9, hw⟩ := hw
          refine va_iald hx hb hK hP 12 0 (mw_q12 am cI cJ cZ σ0) rfl h9 dX10_open_47 ?_
          refine lv_goto (tgt := 52) hx hb dX10_open_48 (by decide) ?_
          refine lv_ior hx hb dX10_open_52 ?_
          refine lv_topi (fun x3 ex3 => ?_)
          have hw := hw x3 ex3
          refine lv_istore_n (lv' := [(3, .int x3), (0, .ref (am 0)), (1, .int u1), (2, .int u2), (4, .int v4)]) hx hb dX10_open_53 rfl hl (by decide) rfl (fun ls hl => ?_)
          obtain ⟨x4, ex4⟩ : ∃ z : Int32, z = v4 + (1 : Int32) := ⟨_, rfl⟩
          refine lv_iinc (v := x4) (lv' := [(4, .int x4), (3, .int x3), (0, .ref (am 0)), (1, .int u1), (2, .int u2)]) hx hb dX10_open_54 hl (k := 4) rfl (by rw [ex4]; rfl) (by decide) rfl (fun ls hl => ?_)
          have hw := hw x4 ex4
          refine lv_goto (tgt := 15) hx hb dX10_open_57 (by decide) ?_
          exact ih _ _ _ _ _ hw hP hS (lv_sub hl [2, 3, 4, 1, 0] rfl)
  have L63 : ∀ (u1 : Int32) (u2 : Int32) (u3 : Int32) (K102 : Prop) (_ : ∀ (H : Heap) (locs : List Loc) (ls : Array Slot), K102 → va_P D vwCl (mw am cI cJ cZ σ0) H → va_S A s.heap H locs → lv_has ls 5 [(0, .ref (am 0)), (1, .int u1), (2, .int u2), (3, .int u3)] → W p l e (headSpec wsX10_open ({ frames := 1, cells := 0, slots := 0, locals := 21 } : Room)).room s m ([.ref (am 0), .int a1] : List Value).toArray below meth c H locs 0 0 (MQ below (va_Qi (fun (r : Int32) (u : St) => post r ∧ u = σ0) (wd_B D (mw am cI cJ cZ)) A) ([.ref (am 0), .int a1] : List Value).toArray s 0 0 A) (F0 m 102 ls [])) (n : Nat) (v4 : Int32) (H : Heap) (locs : List Loc) (ls : Array Slot), lpX10_open_63 u1 u2 u3 σ0 K102 post n v4 → va_P D vwCl (mw am cI cJ cZ σ0) H → va_S A s.heap H locs → lv_has ls 5 [(0, .ref (am 0)), (1, .int u1), (2, .int u2), (3, .int u3), (4, .int v4)] → W p l e (headSpec wsX10_open ({ frames := 1, cells := 0, slots := 0, locals := 21 } : Room)).room s m ([.ref (am 0), .int a1] : List Value).toArray below meth c H locs 0 0 (MQ below (va_Qi (fun (r : Int32) (u : St) => post r ∧ u = σ0) (wd_B D (mw am cI cJ cZ)) A) ([.ref (am 0), .int a1] : List Value).toArray s 0 0 A) (F0 m 63 ls []) := by
    intro u1 u2 u3 K102 hK102 n
    induction n with
    | zero => intro v4 H locs ls hw; exact hw.elim
    | succ n ih =>
      intro v4 H locs ls hw hP hS hl
      rw [lpX10_open_63] at hw
      refine lv_iload hx hb dX10_open_63 (lv_at hl 4 rfl) ?_
      refine lv_bipush (v := 12) hx hb dX10_open_65 (by decide) ?_
      refine lv_icmp_ge (tgt := 102) hx hb dX10_open_67 (by decide) (fun c9 => ?_) (fun c9 => ?_)
      · have hw := hw.1 c9
        exact hK102 _ _ _ hw hP hS (lv_sub hl [0, 1, 2, 3] rfl)
      · have hw := hw.2 c9
        refine lv_aload_n hx hb dX10_open_70 rfl (lv_at hl 0 rfl) ?_
        refine va_get hx hb hts iX10 hown hK hP 0 (mw_q0 am cI cJ cZ σ0) rfl 17 (by decide) f44 (fun _ h9 => h9) rfl dX10_open_71 ?_
        refine lv_iload_n hx hb dX10_open_74 rfl (lv_at hl 2 rfl) ?_
        obtain ⟨h9, hw⟩ := hw
        refine va_iald hx hb hK hP 9 0 (mw_q9 am cI cJ cZ σ0) rfl h9 dX10_open_75 ?_
        refine lv_iload_n hx hb dX10_open_76 rfl (lv_at hl 3 rfl) ?_
        refine lv_iconst (v := -1) hx hb dX10_open_77 (by decide) ?_
        refine lv_ixor hx hb dX10_open_78 ?_
        refine lv_iand hx hb dX10_open_79 ?_
        refine lv_iload hx hb dX10_open_80 (lv_at hl 4 rfl) ?_
        refine wd_cSi ⟨hx, hb, hml, hown, hts⟩ (mtX10_has l D am cI cJ cZ A hD σ0 ((σ0.2.1 8 u2.toNatClampNeg) &&& (u3 ^^^ (-1 : Int32))) v4 _ hw) (va_cwS 2 hts gX10_open_X10_has rfl rfl rfl (by decide +kernel) ⟨(Nat.le_of_ble_eq_true rfl), (Nat.le_of_ble_eq_true rfl)⟩) hK hN hP hS rfl hl.1 rfl (Nat.le_of_ble_eq_true rfl) dX10_open_82 ⟨Nat.zero_le _, Nat.zero_le _⟩ (fun r6 u9 H locs hq hP hS => ?_)
        obtain ⟨hw, hu⟩ := hq
        rw [hu] at hP
        refine lv_if_eq (tgt := 96) hx hb dX10_open_85 (by decide) (fun c9 => ?_) (fun c9 => ?_)
        · have hw := hw.1 c9
          obtain ⟨x7, ex7⟩ : ∃ z : Int32, z = v4 + (1 : Int32) := ⟨_, rfl⟩
          refine lv_iinc (v := x7) (lv' := [(4, .int x7), (0, .ref (am 0)), (1, .int u1), (2, .int u2), (3, .int u3)]) hx hb dX10_open_96 hl (k := 4) rfl (by rw [ex7]; rfl) (by decide) rfl (fun ls hl => ?_)
          have hw := hw x7 ex7
          refine lv_goto (tgt := 63) hx hb dX10_open_99 (by decide) ?_
          exact ih _ _ _ _ hw hP hS (lv_sub hl [1, 2, 3, 4, 0] rfl)
        · have hw := hw.2 c9
          refine lv_bipush (v := 12) hx hb dX10_open_88 (by decide) ?_
          refine lv_iload_n hx hb dX10_open_90 rfl (lv_at hl 2 rfl) ?_
          refine lv_imul hx hb dX10_open_91 ?_
          refine lv_iload hx hb dX10_open_92 (lv_at hl 4 rfl) ?_
          refine lv_iadd hx hb dX10_open_94 ?_
          exact wd_iret hx hb hr hlocks ⟨hw, rfl⟩ hP hS dX10_open_95
  have L2 : ∀ (u1 : Int32) (n : Nat) (v2 : Int32) (H : Heap) (locs : List Loc) (ls : Array Slot), lpX10_open_2 u1 σ0 post n v2 → va_P D vwCl (mw am cI cJ cZ σ0) H → va_S A s.heap H locs → lv_has ls 5 [(0, .ref (am 0)), (1, .int u1), (2, .int v2)] → W p l e (headSpec wsX10_open ({ frames := 1, cells := 0, slots := 0, locals := 21 } : Room)).room s m ([.ref (am 0), .int a1] : List Value).toArray below meth c H locs 0 0 (MQ below (va_Qi (fun (r : Int32) (u : St) => post r ∧ u = σ0) (wd_B D (mw am cI cJ cZ)) A) ([.ref (am 0), .int a1] : List Value).toArray s 0 0 A) (F0 m 2 ls []) := by
    intro u1 n
    induction n with
    | zero => intro v2 H locs ls hw; exact hw.elim
    | succ n ih =>
      intro v2 H locs ls hw hP hS hl
      rw [lpX10_open_2] at hw
      refine lv_iload_n hx hb dX10_open_2 rfl (lv_at hl 2 rfl) ?_
      refine lv_aload_n hx hb dX10_open_3 rfl (lv_at hl 0 rfl) ?_
      refine va_get hx hb hts iX10 hown hK hP 0 (mw_q0 am cI cJ cZ σ0) rfl 2 (by decide) f84 (fun _ h9 => h9) rfl dX10_open_4 ?_
      refine lv_icmp_ge (tgt := 108) hx hb dX10_open_7 (by decide) (fun c9 => ?_) (fun c9 => ?_)
      · have hw := hw.1 c9
        refine lv_bipush (v := -9) hx hb dX10_open_108 (by decide) ?_
        exact wd_iret hx hb hr hlocks ⟨hw, rfl⟩ hP hS dX10_open_110
      · have hw := hw.2 c9
        refine lv_iconst (v := 0) hx hb dX10_open_10 (by decide) ?_
        refine lv_istore_n (lv' := [(3, .int (0 : Int32)), (0, .ref (am 0)), (1, .int u1), (2, .int v2)]) hx hb dX10_open_11 rfl hl (by decide) rfl (fun ls hl => ?_)
        refine lv_iconst (v := 0) hx hb dX10_open_12 (by decide) ?_
        refine lv_istore (lv' := [(4, .int (0 : Int32)), (3, .int (0 : Int32)), (0, .ref (am 0)), (1, .int u1), (2, .int v2)]) hx hb dX10_open_13 hl (by decide) rfl (fun ls hl => ?_)
        obtain ⟨n9, hw⟩ := hw
        refine L15 u1 v2 _ ?_ n9 (0 : Int32) (0 : Int32) _ _ _ hw hP hS (lv_sub hl [2, 3, 4, 1, 0] rfl)
        · intro y5 H locs ls hw hP hS hl
          refine lv_iconst (v := 0) hx hb dX10_open_60 (by decide) ?_
          refine lv_istore (lv' := [(4, .int (0 : Int32)), (0, .ref (am 0)), (1, .int u1), (2, .int v2), (3, .int y5)]) hx hb dX10_open_61 hl (by decide) rfl (fun ls hl => ?_)
          obtain ⟨n9, hw⟩ := hw
          refine L63 u1 v2 y5 _ ?_ n9 (0 : Int32) _ _ _ hw hP hS (lv_sub hl [1, 2, 3, 4, 0] rfl)
          · intro H locs ls hw hP hS hl
            obtain ⟨x8, ex8⟩ : ∃ z : Int32, z = v2 + (1 : Int32) := ⟨_, rfl⟩
            refine lv_iinc (v := x8) (lv' := [(2, .int x8), (0, .ref (am 0)), (1, .int u1), (3, .int y5)]) hx hb dX10_open_102 hl (k := 2) rfl (by rw [ex8]; rfl) (by decide) rfl (fun ls hl => ?_)
            have hw := hw x8 ex8
            refine lv_goto (tgt := 2) hx hb dX10_open_105 (by decide) ?_
            exact ih _ _ _ _ hw hP hS (lv_sub hl [1, 2, 0] rfl)
  have hl := lv_entry ([.ref (am 0), .int a1]) (n := 5) (Nat.le_of_ble_eq_true rfl)
  rw [lg_entry_eq]
  generalize (lg_sl ([.ref (am 0), .int a1]) ++ List.replicate (5 - (lg_sl ([.ref (am 0), .int a1])).length) Slot.unset).toArray = ls at hl ⊢
  have hl : lv_has ls 5 [(0, .ref (am 0)), (1, .int a1)] := hl
  unfold wX10_open at hw
  refine lv_iconst (v := 0) hx hb dX10_open_0 (by decide) ?_
  refine lv_istore_n (lv' := [(2, .int (0 : Int32)), (0, .ref (am 0)), (1, .int a1)]) hx hb dX10_open_1 rfl hl (by decide) rfl (fun ls hl => ?_)
  obtain ⟨n9, hw⟩ := hw
  refine L2 a1 n9 (0 : Int32) _ _ _ hw hP hS (lv_sub hl [1, 2, 0] rfl)
def wX10_level (σ0 : St) (a1 : Int32) (a2 : Int32) (post : St → Prop) : Prop := vp_in a1 64 ∧ (∀ σ1 : St, σ1 = st_A σ0 13 a1.toNatClampNeg (a2 / (12 : Int32)) → (vp_in a1 64 ∧ (∀ σ2 : St, σ2 = st_A σ1 12 a1.toNatClampNeg (a2 - a2 / (12 : Int32) * (12 : Int32)) → (vp_in a1 64 ∧ (∀ σ3 : St, σ3 = st_A σ2 11 a1.toNatClampNeg (0 : Int32) → (post σ3))))))
set_option maxHeartbeats 4000000 in
set_option maxRecDepth 100000 in
theorem mtX10_level (l : Launch) (D : va_G) (am : Nat → Nat) (cI cJ cZ : ClassId) (A : Nat → Prop) (hD : ∀ σ : St, va_D A (mw am cI cJ cZ σ)) (σ0 : St) (a1 : Int32) (a2 : Int32) (post : St → Prop) (hw : wX10_level σ0 a1 a2 post) : Met l yX10_level wsX10_level ({ frames := 0, cells := 0, slots := 0, locals := 0 } : Room) (va_Pc [.ref (am 0), .int a1, .int a2] (wd_pre D (mw am cI cJ cZ) (wd_tys cI cJ cZ) σ0)) (va_Qv post (wd_B D (mw am cI cJ cZ)) A) 0 0 A := by
  refine Met.ofW (cc := cX10_level) (maxL := 3) (ret := none) (by decide) rfl ?_
  intro p e s m args below meth c s₁ B hml hv
  obtain ⟨rfl, hP, hK, hN⟩ := hv
  have hx := B.exec
  have hb := B.bytes
  have hr := B.returns
  have hts := atoms_spec (ws := wsX10_level) B.pre
  have hown : s.vm.findClass RX10 = some m.cls := findClass_of_methodNamed B.named
  have hlocks := B.notSynchronized
  have hS : va_S A s.heap s.heap [] := va_S.rf
  have f60 := hts (.fieldLink RX10 60 "LeastRightsModel" "wanters" "[I") (by decide +kernel)
  have iX10 : ∀ w ∈ wsX100, w ∈ wsX10_level := by decide +kernel
  have f57 := hts (.fieldLink RX10 57 "LeastRightsModel" "wants" "[I") (by decide +kernel)
  have f54 := hts (.fieldLink RX10 54 "LeastRightsModel" "path" "[I") (by decide +kernel)
  have hl := lv_entry ([.ref (am 0), .int a1, .int a2]) (n := 3) (Nat.le_of_ble_eq_true rfl)
  rw [lg_entry_eq]
  generalize (lg_sl ([.ref (am 0), .int a1, .int a2]) ++ List.replicate (3 - (lg_sl ([.ref (am 0), .int a1, .int a2])).length) Slot.unset).toArray = ls at hl ⊢
  have hl : lv_has ls 3 [(0, .ref (am 0)), (1, .int a1), (2, .int a2)] := hl
  unfold wX10_level at hw
  refine lv_aload_n hx hb dX10_level_0 rfl (lv_at hl 0 rfl) ?_
  refine va_get hx hb hts iX10 hown hK hP 0 (mw_q0 am cI cJ cZ σ0) rfl 24 (by decide) f60 (fun _ h9 => h9) rfl dX10_level_1 ?_
  refine lv_iload_n hx hb dX10_level_4 rfl (lv_at hl 1 rfl) ?_
  refine lv_iload_n hx hb dX10_level_5 rfl (lv_at hl 2 rfl) ?_
  refine lv_bipush (v := 12) hx hb dX10_level_6 (by decide) ?_
  refine lv_idiv hx hb dX10_level_8 (by decide) ?_
  obtain ⟨h9, hw⟩ := hw
  refine wd_iast 13 14 hx hb hK hP hD hS (mw_q14 am cI cJ cZ σ0) rfl (mw_a13 am cI cJ cZ σ0) h9 dX10_level_9 (fun H locs σ1 eσ1 hP hS => ?_)
  have hw := hw σ1 eσ1
  refine lv_aload_n hx hb dX10_level_10 rfl (lv_at hl 0 rfl) ?_
  refine va_get hx hb hts iX10 hown hK hP 0 (mw_q0 am cI cJ cZ σ1) rfl 23 (by decide) f57 (fun _ h9 => h9) rfl dX10_level_11 ?_
  refine lv_iload_n hx hb dX10_level_14 rfl (lv_at hl 1 rfl) ?_
  refine lv_iload_n hx hb dX10_level_15 rfl (lv_at hl 2 rfl) ?_
  refine lv_bipush (v := 12) hx hb dX10_level_16 (by decide) ?_
  refine lv_irem hx hb dX10_level_18 (by decide) ?_
  obtain ⟨h9, hw⟩ := hw
  refine wd_iast 12 13 hx hb hK hP hD hS (mw_q13 am cI cJ cZ σ1) rfl (mw_a12 am cI cJ cZ σ1) h9 dX10_level_19 (fun H locs σ2 eσ2 hP hS => ?_)
  have hw := hw σ2 eσ2
  refine lv_aload_n hx hb dX10_level_20 rfl (lv_at hl 0 rfl) ?_
  refine va_get hx hb hts iX10 hown hK hP 0 (mw_q0 am cI cJ cZ σ2) rfl 22 (by decide) f54 (fun _ h9 => h9) rfl dX10_level_21 ?_
  refine lv_iload_n hx hb dX10_level_24 rfl (lv_at hl 1 rfl) ?_
  refine lv_iconst (v := 0) hx hb dX10_level_25 (by decide) ?_
  obtain ⟨h9, hw⟩ := hw
  refine wd_iast 11 12 hx hb hK hP hD hS (mw_q12 am cI cJ cZ σ2) rfl (mw_a11 am cI cJ cZ σ2) h9 dX10_level_26 (fun H locs σ3 eσ3 hP hS => ?_)
  have hw := hw σ3 eσ3
  exact wd_vret hx hb hr hlocks hw hP hS dX10_level_27
def lpX10_isNext_9 (u1 : Int32) (σ : St) (K62 : Int32 → Prop) : Nat → Int32 → Prop
  | 0, _ => False
  | n + 1, v2 => ((4096 : Int32) ≤ v2 → (K62 v2)) ∧ (¬ (4096 : Int32) ≤ v2 → (vp_in v2 4096 ∧ (((σ.2.1 9 v2.toNatClampNeg) = 0 → (∀ x2 : Int32, x2 = v2 + (1 : Int32) → (lpX10_isNext_9 u1 σ K62 n x2))) ∧ (¬ (σ.2.1 9 v2.toNatClampNeg) = 0 → (vp_in u1 64 ∧ (wX10_has v2 (σ.2.1 12 u1.toNatClampNeg) (fun (r3 : Int32) => (r3 = 0 → (∀ x4 : Int32, x4 = v2 + (1 : Int32) → (lpX10_isNext_9 u1 σ K62 n x4))) ∧ (¬ r3 = 0 → (vp_in u1 64 ∧ (vp_in (σ.2.1 13 u1.toNatClampNeg) 10 ∧ (((v2 &&& ((σ.2.1 8 (σ.2.1 13 u1.toNatClampNeg).toNatClampNeg) ^^^ (-1 : Int32))) = 0 → (K62 v2)) ∧ (¬ (v2 &&& ((σ.2.1 8 (σ.2.1 13 u1.toNatClampNeg).toNatClampNeg) ^^^ (-1 : Int32))) = 0 → (∀ x5 : Int32, x5 = v2 + (1 : Int32) → (lpX10_isNext_9 u1 σ K62 n x5))))))))))))))
def wX10_isNext (σ0 : St) (a1 : Int32) (post : Int32 → St → Prop) : Prop := vp_in a1 64 ∧ (∀ x1 : Int32, x1 = ((σ0.2.1 11 a1.toNatClampNeg) + (1 : Int32)) → (∃ n8 : Nat, lpX10_isNext_9 a1 σ0 (fun (y6 : Int32) => vp_in a1 64 ∧ (∀ σ7 : St, σ7 = st_A σ0 11 a1.toNatClampNeg y6 → (((4096 : Int32) ≤ y6 → (post (0 : Int32) σ7)) ∧ (¬ (4096 : Int32) ≤ y6 → (post (1 : Int32) σ7))))) n8 x1))
set_option maxHeartbeats 4000000 in
set_option maxRecDepth 100000 in
theorem mtX10_isNext (l : Launch) (D : va_G) (am : Nat → Nat) (cI cJ cZ : ClassId) (A : Nat → Prop) (hD : ∀ σ : St, va_D A (mw am cI cJ cZ σ)) (σ0 : St) (a1 : Int32) (post : Int32 → St → Prop) (hw : wX10_isNext σ0 a1 post) : Met l yX10_isNext wsX10_isNext ({ frames := 1, cells := 0, slots := 0, locals := 21 } : Room) (va_Pc [.ref (am 0), .int a1] (wd_pre D (mw am cI cJ cZ) (wd_tys cI cJ cZ) σ0)) (va_Qi post (wd_B D (mw am cI cJ cZ)) A) 0 0 A := by
  refine Met.ofW (cc := cX10_isNext) (maxL := 3) (ret := (some .boolean)) (by decide) rfl ?_
  intro p e s m args below meth c s₁ B hml hv
  obtain ⟨rfl, hP, hK, hN⟩ := hv
  have hx := B.exec
  have hb := B.bytes
  have hr := B.returns
  have hts := atoms_spec (ws := wsX10_isNext) B.pre
  have hown : s.vm.findClass RX10 = some m.cls := findClass_of_methodNamed B.named
  have hlocks := B.notSynchronized
  have hS : va_S A s.heap s.heap [] := va_S.rf
  have f54 := hts (.fieldLink RX10 54 "LeastRightsModel" "path" "[I") (by decide +kernel)
  have iX10 : ∀ w ∈ wsX100, w ∈ wsX10_isNext := by decide +kernel
  have f47 := hts (.fieldLink RX10 47 "LeastRightsModel" "isCandidate" "[Z") (by decide +kernel)
  have f57 := hts (.fieldLink RX10 57 "LeastRightsModel" "wants" "[I") (by decide +kernel)
  have f44 := hts (.fieldLink RX10 44 "LeastRightsModel" "kept" "[I") (by decide +kernel)
  have f60 := hts (.fieldLink RX10 60 "LeastRightsModel" "wanters" "[I") (by decide +kernel)
  have L9 : ∀ (u1 : Int32) (σ : St) (K62 : Int32 → Prop) (_ : ∀ (v2 : Int32) (H : Heap) (locs : List Loc) (ls : Array Slot), K62 v2 → va_P D vwCl (mw am cI cJ cZ σ) H → va_S A s.heap H locs → lv_has ls 3 [(0, .ref (am 0)), (1, .int u1), (2, .int v2)] → W p l e (headSpec wsX10_isNext ({ frames := 1, cells := 0, slots := 0, locals := 21 } : Room)).room s m ([.ref (am 0), .int a1] : List Value).toArray below meth c H locs 0 0 (MQ below (va_Qi post (wd_B D (mw am cI cJ cZ)) A) ([.ref (am 0), .int a1] : List Value).toArray s 0 0 A) (F0 m 62 ls [])) (n : Nat) (v2 : Int32) (H : Heap) (locs : List Loc) (ls : Array Slot), lpX10_isNext_9 u1 σ K62 n v2 → va_P D vwCl (mw am cI cJ cZ σ) H → va_S A s.heap H locs → lv_has ls 3 [(0, .ref (am 0)), (1, .int u1), (2, .int v2)] → W p l e (headSpec wsX10_isNext ({ frames := 1, cells := 0, slots := 0, locals := 21 } : Room)).room s m ([.ref (am 0), .int a1] : List Value).toArray below meth c H locs 0 0 (MQ below (va_Qi post (wd_B D (mw am cI cJ cZ)) A) ([.ref (am 0), .int a1] : List Value).toArray s 0 0 A) (F0 m 9 ls []) := by
    intro u1 σ K62 hK62 n
    induction n with
    | zero => intro v2 H locs ls hw; exact hw.elim
    | succ n ih =>
      intro v2 H locs ls hw hP hS hl
      rw [lpX10_isNext_9] at hw
      refine lv_iload_n hx hb dX10_isNext_9 rfl (lv_at hl 2 rfl) ?_
      refine lv_sipush (v := 4096) hx hb dX10_isNext_10 (by decide) ?_
      refine lv_icmp_ge (tgt := 62) hx hb dX10_isNext_13 (by decide) (fun c9 => ?_) (fun c9 => ?_)
      · have hw := hw.1 c9
        exact hK62 _ _ _ _ hw hP hS (lv_sub hl [0, 1, 2] rfl)
      · have hw := hw.2 c9
        refine lv_aload_n hx hb dX10_isNext_16 rfl (lv_at hl 0 rfl) ?_
        refine va_get hx hb hts iX10 hown hK hP 0 (mw_q0 am cI cJ cZ σ) rfl 18 (by decide) f47 (fun _ h9 => h9) rfl dX10_isNext_17 ?_
        refine lv_iload_n hx hb dX10_isNext_20 rfl (lv_at hl 2 rfl) ?_
        obtain ⟨h9, hw⟩ := hw
        refine va_zald hx hb hK hP 10 2 (mw_q10 am cI cJ cZ σ) rfl h9 dX10_isNext_21 ?_
        refine lv_if_eq (tgt := 56) hx hb dX10_isNext_22 (by decide) (fun c9 => ?_) (fun c9 => ?_)
        · have hw := hw.1 c9
          obtain ⟨x2, ex2⟩ : ∃ z : Int32, z = v2 + (1 : Int32) := ⟨_, rfl⟩
          refine lv_iinc (v := x2) (lv' := [(2, .int x2), (0, .ref (am 0)), (1, .int u1)]) hx hb dX10_isNext_56 hl (k := 2) rfl (by rw [ex2]; rfl) (by decide) rfl (fun ls hl => ?_)
          have hw := hw x2 ex2
          refine lv_goto (tgt := 9) hx hb dX10_isNext_59 (by decide) ?_
          exact ih _ _ _ _ hw hP hS (lv_sub hl [1, 2, 0] rfl)
        · have hw := hw.2 c9
          refine lv_iload_n hx hb dX10_isNext_25 rfl (lv_at hl 2 rfl) ?_
          refine lv_aload_n hx hb dX10_isNext_26 rfl (lv_at hl 0 rfl) ?_
          refine va_get hx hb hts iX10 hown hK hP 0 (mw_q0 am cI cJ cZ σ) rfl 23 (by decide) f57 (fun _ h9 => h9) rfl dX10_isNext_27 ?_
          refine lv_iload_n hx hb dX10_isNext_30 rfl (lv_at hl 1 rfl) ?_
          obtain ⟨h9, hw⟩ := hw
          refine va_iald hx hb hK hP 13 0 (mw_q13 am cI cJ cZ σ) rfl h9 dX10_isNext_31 ?_
          refine wd_cSi ⟨hx, hb, hml, hown, hts⟩ (mtX10_has l D am cI cJ cZ A hD σ v2 (σ.2.1 12 u1.toNatClampNeg) _ hw) (va_cwS 2 hts gX10_isNext_X10_has rfl rfl rfl (by decide +kernel) ⟨(Nat.le_of_ble_eq_true rfl), (Nat.le_of_ble_eq_true rfl)⟩) hK hN hP hS rfl hl.1 rfl (Nat.le_of_ble_eq_true rfl) dX10_isNext_32 ⟨Nat.zero_le _, Nat.zero_le _⟩ (fun r3 u9 H locs hq hP hS => ?_)
          obtain ⟨hw, hu⟩ := hq
          rw [hu] at hP
          refine lv_if_eq (tgt := 56) hx hb dX10_isNext_35 (by decide) (fun c9 => ?_) (fun c9 => ?_)
          · have hw := hw.1 c9
            obtain ⟨x4, ex4⟩ : ∃ z : Int32, z = v2 + (1 : Int32) := ⟨_, rfl⟩
            refine lv_iinc (v := x4) (lv' := [(2, .int x4), (0, .ref (am 0)), (1, .int u1)]) hx hb dX10_isNext_56 hl (k := 2) rfl (by rw [ex4]; rfl) (by decide) rfl (fun ls hl => ?_)
            have hw := hw x4 ex4
            refine lv_goto (tgt := 9) hx hb dX10_isNext_59 (by decide) ?_
            exact ih _ _ _ _ hw hP hS (lv_sub hl [1, 2, 0] rfl)
          · have hw := hw.2 c9
            refine lv_iload_n hx hb dX10_isNext_38 rfl (lv_at hl 2 rfl) ?_
            refine lv_aload_n hx hb dX10_isNext_39 rfl (lv_at hl 0 rfl) ?_
            refine va_get hx hb hts iX10 hown hK hP 0 (mw_q0 am cI cJ cZ σ) rfl 17 (by decide) f44 (fun _ h9 => h9) rfl dX10_isNext_40 ?_
            refine lv_aload_n hx hb dX10_isNext_43 rfl (lv_at hl 0 rfl) ?_
            refine va_get hx hb hts iX10 hown hK hP 0 (mw_q0 am cI cJ cZ σ) rfl 24 (by decide) f60 (fun _ h9 => h9) rfl dX10_isNext_44 ?_
            refine lv_iload_n hx hb dX10_isNext_47 rfl (lv_at hl 1 rfl) ?_
            obtain ⟨h9, hw⟩ := hw
            refine va_iald hx hb hK hP 14 0 (mw_q14 am cI cJ cZ σ) rfl h9 dX10_isNext_48 ?_
            obtain ⟨h9, hw⟩ := hw
            refine va_iald hx hb hK hP 9 0 (mw_q9 am cI cJ cZ σ) rfl h9 dX10_isNext_49 ?_
            refine lv_iconst (v := -1) hx hb dX10_isNext_50 (by decide) ?_
            refine lv_ixor hx hb dX10_isNext_51 ?_
            refine lv_iand hx hb dX10_isNext_52 ?_
            refine lv_if_eq (tgt := 62) hx hb dX10_isNext_53 (by decide) (fun c9 => ?_) (fun c9 => ?_)
            · have hw := hw.1 c9
              exact hK62 _ _ _ _ hw hP hS (lv_sub hl [0, 1, 2] rfl)
            · have hw := hw.2 c9
              obtain ⟨x5, ex5⟩ : ∃ z : Int32, z = v2 + (1 : Int32) := ⟨_, rfl⟩
              refine lv_iinc (v := x5) (lv' := [(2, .int x5), (0, .ref (am 0)), (1, .int u1)]) hx hb dX10_isNext_56 hl (k := 2) rfl (by rw [ex5]; rfl) (by decide) rfl (fun ls hl => ?_)
              have hw := hw x5 ex5
              refine lv_goto (tgt := 9) hx hb dX10_isNext_59 (by decide) ?_
              exact ih _ _ _ _ hw hP hS (lv_sub hl [1, 2, 0] rfl)
  have hl := lv_entry ([.ref (am 0), .int a1]) (n := 3) (Nat.le_of_ble_eq_true rfl)
  rw [lg_entry_eq]
  generalize (lg_sl ([.ref (am 0), .int a1]) ++ List.replicate (3 - (lg_sl ([.ref (am 0), .int a1])).length) Slot.unset).toArray = ls at hl ⊢
  have hl : lv_has ls 3 [(0, .ref (am 0)), (1, .int a1)] := hl
  unfold wX10_isNext at hw
  refine lv_aload_n hx hb dX10_isNext_0 rfl (lv_at hl 0 rfl) ?_
  refine va_get hx hb hts iX10 hown hK hP 0 (mw_q0 am cI cJ cZ σ0) rfl 22 (by decide) f54 (fun _ h9 => h9) rfl dX10_isNext_1 ?_
  refine lv_iload_n hx hb dX10_isNext_4 rfl (lv_at hl 1 rfl) ?_
  obtain ⟨h9, hw⟩ := hw
  refine va_iald hx hb hK hP 12 0 (mw_q12 am cI cJ cZ σ0) rfl h9 dX10_isNext_5 ?_
  refine lv_iconst (v := 1) hx hb dX10_isNext_6 (by decide) ?_
  refine lv_iadd hx hb dX10_isNext_7 ?_
  refine lv_topi (fun x1 ex1 => ?_)
  have hw := hw x1 ex1
  refine lv_istore_n (lv' := [(2, .int x1), (0, .ref (am 0)), (1, .int a1)]) hx hb dX10_isNext_8 rfl hl (by decide) rfl (fun ls hl => ?_)
  obtain ⟨n9, hw⟩ := hw
  refine L9 a1 σ0 _ ?_ n9 x1 _ _ _ hw hP hS (lv_sub hl [1, 2, 0] rfl)
  · intro y6 H locs ls hw hP hS hl
    refine lv_aload_n hx hb dX10_isNext_62 rfl (lv_at hl 0 rfl) ?_
    refine va_get hx hb hts iX10 hown hK hP 0 (mw_q0 am cI cJ cZ σ0) rfl 22 (by decide) f54 (fun _ h9 => h9) rfl dX10_isNext_63 ?_
    refine lv_iload_n hx hb dX10_isNext_66 rfl (lv_at hl 1 rfl) ?_
    refine lv_iload_n hx hb dX10_isNext_67 rfl (lv_at hl 2 rfl) ?_
    obtain ⟨h9, hw⟩ := hw
    refine wd_iast 11 12 hx hb hK hP hD hS (mw_q12 am cI cJ cZ σ0) rfl (mw_a11 am cI cJ cZ σ0) h9 dX10_isNext_68 (fun H locs σ7 eσ7 hP hS => ?_)
    have hw := hw σ7 eσ7
    refine lv_iload_n hx hb dX10_isNext_69 rfl (lv_at hl 2 rfl) ?_
    refine lv_sipush (v := 4096) hx hb dX10_isNext_70 (by decide) ?_
    refine lv_icmp_ge (tgt := 80) hx hb dX10_isNext_73 (by decide) (fun c9 => ?_) (fun c9 => ?_)
    · have hw := hw.1 c9
      refine lv_iconst (v := 0) hx hb dX10_isNext_80 (by decide) ?_
      exact wd_zret hx hb hr hlocks (by decide) hw hP hS dX10_isNext_81
    · have hw := hw.2 c9
      refine lv_iconst (v := 1) hx hb dX10_isNext_76 (by decide) ?_
      refine lv_goto (tgt := 81) hx hb dX10_isNext_77 (by decide) ?_
      exact wd_zret hx hb hr hlocks (by decide) hw hP hS dX10_isNext_81
def lpX10_roles_143 (u1 : Int32) (u3 : Int32) (K169 : St → Prop) : Nat → Int32 → St → Prop
  | 0, _, _ => False
  | n + 1, v6, σ => (u3 < v6 → (K169 σ)) ∧ (¬ u3 < v6 → (vp_in v6 64 ∧ (vp_in v6 64 ∧ (∀ σ19 : St, σ19 = st_A σ 10 v6.toNatClampNeg (σ.2.1 11 v6.toNatClampNeg) → (∀ x20 : Int32, x20 = v6 + (1 : Int32) → (lpX10_roles_143 u1 u3 K169 n x20 σ19))))))
def lpX10_roles_58 (u1 : Int32) (K200 : St → Prop) (post : Int32 → St → Prop) : Nat → Int32 → St → Prop
  | 0, _, _ => False
  | n + 1, v3, σ => (v3 < 0 → (K200 σ)) ∧ (¬ v3 < 0 → (wX10_isNext σ v3 (fun (r9 : Int32) (σ10 : St) => (¬ r9 = 0 → ((¬ (σ10.1 9) = u1 → (∀ σ11 : St, σ11 = st_S σ10 9 ((σ10.1 9) + (1 : Int32)) → (wX10_open σ11 (v3 + (1 : Int32)) (fun (r12 : Int32) => (0 ≤ r12 → ((r12 < 0 → (lpX10_roles_58 u1 K200 post n v3 σ11)) ∧ (¬ r12 < 0 → (((σ11.1 11) ≤ (v3 + (2 : Int32)) → (lpX10_roles_58 u1 K200 post n v3 σ11)) ∧ (¬ (σ11.1 11) ≤ (v3 + (2 : Int32)) → (∀ x13 : Int32, x13 = v3 + (1 : Int32) → (wX10_level σ11 x13 r12 (fun (σ14 : St) => lpX10_roles_58 u1 K200 post n x13 σ14)))))))) ∧ (¬ 0 ≤ r12 → (((σ11.1 11) ≤ (v3 + (1 : Int32)) → ((r12 < 0 → (lpX10_roles_58 u1 K200 post n v3 σ11)) ∧ (¬ r12 < 0 → (((σ11.1 11) ≤ (v3 + (2 : Int32)) → (lpX10_roles_58 u1 K200 post n v3 σ11)) ∧ (¬ (σ11.1 11) ≤ (v3 + (2 : Int32)) → (∀ x15 : Int32, x15 = v3 + (1 : Int32) → (wX10_level σ11 x15 r12 (fun (σ16 : St) => lpX10_roles_58 u1 K200 post n x15 σ16)))))))) ∧ (¬ (σ11.1 11) ≤ (v3 + (1 : Int32)) → (∀ σ17 : St, σ17 = st_S σ11 11 (v3 + (1 : Int32)) → (∀ σ18 : St, σ18 = st_S σ17 10 (v3 + (1 : Int32)) → (∃ n22 : Nat, lpX10_roles_143 u1 v3 (fun (σ21 : St) => lpX10_roles_58 u1 K200 post n v3 σ21) n22 (0 : Int32) σ18)))))))))) ∧ ((σ10.1 9) = u1 → (∀ σ23 : St, σ23 = st_S σ10 10 (0 : Int32) → (post (-6 : Int32) σ23))))) ∧ (r9 = 0 → (∀ x24 : Int32, x24 = v3 + (-1 : Int32) → (lpX10_roles_58 u1 K200 post n x24 σ10))))))
def wX10_roles (σ0 : St) (a1 : Int32) (post : Int32 → St → Prop) : Prop := wX10_in a1 (1 : Int32) (20000 : Int32) (fun (r1 : Int32) => (¬ r1 = 0 → (wX10_setCandidates σ0 (fun (r2 : Int32) (σ3 : St) => ∀ σ4 : St, σ4 = st_S σ3 9 (0 : Int32) → (∀ σ5 : St, σ5 = st_S σ4 10 (0 : Int32) → (∀ σ6 : St, σ6 = st_S σ5 11 (1000 : Int32) → (wX10_open σ6 (0 : Int32) (fun (r7 : Int32) => (0 ≤ r7 → (wX10_level σ6 (0 : Int32) r7 (fun (σ8 : St) => ∃ n26 : Nat, lpX10_roles_58 a1 (fun (σ25 : St) => post (σ25.1 10) σ25) post n26 (0 : Int32) σ8))) ∧ (¬ 0 ≤ r7 → (post (0 : Int32) σ6))))))))) ∧ (r1 = 0 → (post (-1 : Int32) σ0)))
set_option maxHeartbeats 4000000 in
set_option maxRecDepth 100000 in
theorem mtX10_roles (l : Launch) (D : va_G) (am : Nat → Nat) (cI cJ cZ : ClassId) (A : Nat → Prop) (hD : ∀ σ : St, va_D A (mw am cI cJ cZ σ)) (σ0 : St) (a1 : Int32) (post : Int32 → St → Prop) (hw : wX10_roles σ0 a1 post) : Met l yX10_roles wsX10_roles ({ frames := 4, cells := 0, slots := 0, locals := 94 } : Room) (va_Pc [.ref (am 0), .int a1] (wd_pre D (mw am cI cJ cZ) (wd_tys cI cJ cZ) σ0)) (va_Qi post (wd_B D (mw am cI cJ cZ)) A) 0 0 A := by
  refine Met.ofW (cc := cX10_roles) (maxL := 7) (ret := (some .int)) (by decide) rfl ?_
  intro p e s m args below meth c s₁ B hml hv
  obtain ⟨rfl, hP, hK, hN⟩ := hv
  have hx := B.exec
  have hb := B.bytes
  have hr := B.returns
  have hts := atoms_spec (ws := wsX10_roles) B.pre
  have hown : s.vm.findClass RX10 = some m.cls := findClass_of_methodNamed B.named
  have hlocks := B.notSynchronized
  have hS : va_S A s.heap s.heap [] := va_S.rf
  have f135 := hts (.fieldLink RX10 135 "LeastRightsModel" "tries" "I") (by decide +kernel)
  have iX10 : ∀ w ∈ wsX100, w ∈ wsX10_roles := by decide +kernel
  have f138 := hts (.fieldLink RX10 138 "LeastRightsModel" "roleMany" "I") (by decide +kernel)
  have f141 := hts (.fieldLink RX10 141 "LeastRightsModel" "bestMany" "I") (by decide +kernel)
  have f51 := hts (.fieldLink RX10 51 "LeastRightsModel" "roles" "[I") (by decide +kernel)
  have f54 := hts (.fieldLink RX10 54 "LeastRightsModel" "path" "[I") (by decide +kernel)
  have L143 : ∀ (u1 : Int32) (u3 : Int32) (K169 : St → Prop) (_ : ∀ (σ : St) (H : Heap) (locs : List Loc) (ls : Array Slot), K169 σ → va_P D vwCl (mw am cI cJ cZ σ) H → va_S A s.heap H locs → lv_has ls 7 [(0, .ref (am 0)), (1, .int u1), (3, .int u3)] → W p l e (headSpec wsX10_roles ({ frames := 4, cells := 0, slots := 0, locals := 94 } : Room)).room s m ([.ref (am 0), .int a1] : List Value).toArray below meth c H locs 0 0 (MQ below (va_Qi post (wd_B D (mw am cI cJ cZ)) A) ([.ref (am 0), .int a1] : List Value).toArray s 0 0 A) (F0 m 169 ls [])) (n : Nat) (v6 : Int32) (σ : St) (H : Heap) (locs : List Loc) (ls : Array Slot), lpX10_roles_143 u1 u3 K169 n v6 σ → va_P D vwCl (mw am cI cJ cZ σ) H → va_S A s.heap H locs → lv_has ls 7 [(0, .ref (am 0)), (1, .int u1), (3, .int u3), (6, .int v6)] → W p l e (headSpec wsX10_roles ({ frames := 4, cells := 0, slots := 0, locals := 94 } : Room)).room s m ([.ref (am 0), .int a1] : List Value).toArray below meth c H locs 0 0 (MQ below (va_Qi post (wd_B D (mw am cI cJ cZ)) A) ([.ref (am 0), .int a1] : List Value).toArray s 0 0 A) (F0 m 143 ls []) := by
    intro u1 u3 K169 hK169 n
    induction n with
    | zero => intro v6 σ H locs ls hw; exact hw.elim
    | succ n ih =>
      intro v6 σ H locs ls hw hP hS hl
      rw [lpX10_roles_143] at hw
      refine lv_iload hx hb dX10_roles_143 (lv_at hl 3 rfl) ?_
      refine lv_iload_n hx hb dX10_roles_145 rfl (lv_at hl 2 rfl) ?_
      refine lv_icmp_gt (tgt := 169) hx hb dX10_roles_146 (by decide) (fun c9 => ?_) (fun c9 => ?_)
      · have hw := hw.1 c9
        exact hK169 _ _ _ _ hw hP hS (lv_sub hl [0, 1, 2] rfl)
      · have hw := hw.2 c9
        refine lv_aload_n hx hb dX10_roles_149 rfl (lv_at hl 0 rfl) ?_
        refine va_get hx hb hts iX10 hown hK hP 0 (mw_q0 am cI cJ cZ σ) rfl 21 (by decide) f51 (fun _ h9 => h9) rfl dX10_roles_150 ?_
        refine lv_iload hx hb dX10_roles_153 (lv_at hl 3 rfl) ?_
        refine lv_aload_n hx hb dX10_roles_155 rfl (lv_at hl 0 rfl) ?_
        refine va_get hx hb hts iX10 hown hK hP 0 (mw_q0 am cI cJ cZ σ) rfl 22 (by decide) f54 (fun _ h9 => h9) rfl dX10_roles_156 ?_
        refine lv_iload hx hb dX10_roles_159 (lv_at hl 3 rfl) ?_
        obtain ⟨h9, hw⟩ := hw
        refine va_iald hx hb hK hP 12 0 (mw_q12 am cI cJ cZ σ) rfl h9 dX10_roles_161 ?_
        obtain ⟨h9, hw⟩ := hw
        refine wd_iast 10 11 hx hb hK hP hD hS (mw_q11 am cI cJ cZ σ) rfl (mw_a10 am cI cJ cZ σ) h9 dX10_roles_162 (fun H locs σ19 eσ19 hP hS => ?_)
        have hw := hw σ19 eσ19
        obtain ⟨x20, ex20⟩ : ∃ z : Int32, z = v6 + (1 : Int32) := ⟨_, rfl⟩
        refine lv_iinc (v := x20) (lv' := [(6, .int x20), (0, .ref (am 0)), (1, .int u1), (3, .int u3)]) hx hb dX10_roles_163 hl (k := 3) rfl (by rw [ex20]; rfl) (by decide) rfl (fun ls hl => ?_)
        have hw := hw x20 ex20
        refine lv_goto (tgt := 143) hx hb dX10_roles_166 (by decide) ?_
        exact ih _ _ _ _ _ hw hP hS (lv_sub hl [1, 2, 3, 0] rfl)
  have L58 : ∀ (u1 : Int32) (K200 : St → Prop) (_ : ∀ (σ : St) (H : Heap) (locs : List Loc) (ls : Array Slot), K200 σ → va_P D vwCl (mw am cI cJ cZ σ) H → va_S A s.heap H locs → lv_has ls 7 [(0, .ref (am 0)), (1, .int u1)] → W p l e (headSpec wsX10_roles ({ frames := 4, cells := 0, slots := 0, locals := 94 } : Room)).room s m ([.ref (am 0), .int a1] : List Value).toArray below meth c H locs 0 0 (MQ below (va_Qi post (wd_B D (mw am cI cJ cZ)) A) ([.ref (am 0), .int a1] : List Value).toArray s 0 0 A) (F0 m 200 ls [])) (n : Nat) (v3 : Int32) (σ : St) (H : Heap) (locs : List Loc) (ls : Array Slot), lpX10_roles_58 u1 K200 post n v3 σ → va_P D vwCl (mw am cI cJ cZ σ) H → va_S A s.heap H locs → lv_has ls 7 [(0, .ref (am 0)), (1, .int u1), (3, .int v3)] → W p l e (headSpec wsX10_roles ({ frames := 4, cells := 0, slots := 0, locals := 94 } : Room)).room s m ([.ref (am 0), .int a1] : List Value).toArray below meth c H locs 0 0 (MQ below (va_Qi post (wd_B D (mw am cI cJ cZ)) A) ([.ref (am 0), .int a1] : List Value).toArray s 0 0 A) (F0 m 58 ls []) := by
    intro u1 K200 hK200 n
    induction n with
    | zero => intro v3 σ H locs ls hw; exact hw.elim
    | succ n ih =>
      intro v3 σ H locs ls hw hP hS hl
      rw [lpX10_roles_58] at hw
      refine lv_iload_n hx hb dX10_roles_58 rfl (lv_at hl 2 rfl) ?_
      refine lv_if_lt (tgt := 200) hx hb dX10_roles_59 (by decide) (fun c9 => ?_) (fun c9 => ?_)
      · have hw := hw.1 c9
        exact hK200 _ _ _ _ hw hP hS (lv_sub hl [0, 1] rfl)
      · have hw := hw.2 c9
        refine lv_aload_n hx hb dX10_roles_62 rfl (lv_at hl 0 rfl) ?_
        refine lv_iload_n hx hb dX10_roles_63 rfl (lv_at hl 2 rfl) ?_
        refine wd_cVi ⟨hx, hb, hml, hown, hts⟩ (mtX10_isNext l D am cI cJ cZ A hD σ v3 _ hw) (cwV 1 hts gX10_roles_X10_isNext rfl rfl rfl (by decide +kernel) ⟨(Nat.le_of_ble_eq_true rfl), (Nat.le_of_ble_eq_true rfl)⟩) (va_recv hK hP (ci := 10) (q0 := 0) rfl (mw_q0 am cI cJ cZ σ)) hK hN hP hS rfl hl.1 rfl (Nat.le_of_ble_eq_true rfl) dX10_roles_64 ⟨Nat.zero_le _, Nat.zero_le _⟩ (fun r9 σ10 H locs hw hP hS => ?_)
        refine lv_if_ne (tgt := 76) hx hb dX10_roles_67 (by decide) (fun c9 => ?_) (fun c9 => ?_)
        · have hw := hw.1 c9
          refine lv_aload_n hx hb dX10_roles_76 rfl (lv_at hl 0 rfl) ?_
          refine va_get hx hb hts iX10 hown hK hP 0 (mw_q0 am cI cJ cZ σ10) rfl 19 (by decide) f135 (fun _ h9 => h9) rfl dX10_roles_77 ?_
          refine lv_iload_n hx hb dX10_roles_80 rfl (lv_at hl 1 rfl) ?_
          refine lv_icmp_ne (tgt := 92) hx hb dX10_roles_81 (by decide) (fun c9 => ?_) (fun c9 => ?_)
          · have hw := hw.1 c9
            refine lv_aload_n hx hb dX10_roles_92 rfl (lv_at hl 0 rfl) ?_
            refine lv_dup hx hb dX10_roles_93 rfl ?_
            refine va_get hx hb hts iX10 hown hK hP 0 (mw_q0 am cI cJ cZ σ10) rfl 19 (by decide) f135 (fun _ h9 => h9) rfl dX10_roles_94 ?_
            refine lv_iconst (v := 1) hx hb dX10_roles_97 (by decide) ?_
            refine lv_iadd hx hb dX10_roles_98 ?_
            refine wd_put 9 0 19 (ty := .int) tyX10 hx hb hts iX10 tyX10_ok nmX10 hown hK hP hD hS (mw_q0 am cI cJ cZ σ10) rfl (by decide) f135 (fun _ h9 => h9) rfl (by decide +kernel) rfl rfl (Nat.le_of_ble_eq_true rfl) (mw_s9 am cI cJ cZ σ10) dX10_roles_99 (fun H locs σ11 eσ11 hP hS => ?_)
            have hw := hw σ11 eσ11
            refine lv_aload_n hx hb dX10_roles_102 rfl (lv_at hl 0 rfl) ?_
            refine lv_iload_n hx hb dX10_roles_103 rfl (lv_at hl 2 rfl) ?_
            refine lv_iconst (v := 1) hx hb dX10_roles_104 (by decide) ?_
            refine lv_iadd hx hb dX10_roles_105 ?_
            refine wd_cVi ⟨hx, hb, hml, hown, hts⟩ (mtX10_open l D am cI cJ cZ A hD σ11 (v3 + (1 : Int32)) _ hw) (cwV 1 hts gX10_roles_X10_open rfl rfl rfl (by decide +kernel) ⟨(Nat.le_of_ble_eq_true rfl), (Nat.le_of_ble_eq_true rfl)⟩) (va_recv hK hP (ci := 10) (q0 := 0) rfl (mw_q0 am cI cJ cZ σ11)) hK hN hP hS rfl hl.1 rfl (Nat.le_of_ble_eq_true rfl) dX10_roles_106 ⟨Nat.zero_le _, Nat.zero_le _⟩ (fun r12 u9 H locs hq hP hS => ?_)
            obtain ⟨hw, hu⟩ := hq
            rw [hu] at hP
            refine lv_istore (lv' := [(5, .int r12), (0, .ref (am 0)), (1, .int u1), (3, .int v3)]) hx hb dX10_roles_109 hl (by decide) rfl (fun ls hl => ?_)
            refine lv_iload hx hb dX10_roles_111 (lv_at hl 0 rfl) ?_
            refine lv_if_ge (tgt := 172) hx hb dX10_roles_113 (by decide) (fun c9 => ?_) (fun c9 => ?_)
            · have hw := hw.1 c9
              refine lv_iload hx hb dX10_roles_172 (lv_at hl 0 rfl) ?_
              refine lv_if_lt (tgt := 197) hx hb dX10_roles_174 (by decide) (fun c9 => ?_) (fun c9 => ?_)
              · have hw := hw.1 c9
                refine lv_goto (tgt := 58) hx hb dX10_roles_197 (by decide) ?_
                exact ih _ _ _ _ _ hw hP hS (lv_sub hl [1, 2, 3] rfl)
              · have hw := hw.2 c9
                refine lv_iload_n hx hb dX10_roles_177 rfl (lv_at hl 3 rfl) ?_
                refine lv_iconst (v := 2) hx hb dX10_roles_178 (by decide) ?_
                refine lv_iadd hx hb dX10_roles_179 ?_
                refine lv_aload_n hx hb dX10_roles_180 rfl (lv_at hl 1 rfl) ?_
                refine va_get hx hb hts iX10 hown hK hP 0 (mw_q0 am cI cJ cZ σ11) rfl 25 (by decide) f141 (fun _ h9 => h9) rfl dX10_roles_181 ?_
                refine lv_icmp_ge (tgt := 197) hx hb dX10_roles_184 (by decide) (fun c9 => ?_) (fun c9 => ?_)
                · have hw := hw.1 c9
                  refine lv_goto (tgt := 58) hx hb dX10_roles_197 (by decide) ?_
                  exact ih _ _ _ _ _ hw hP hS (lv_sub hl [1, 2, 3] rfl)
                · have hw := hw.2 c9
                  obtain ⟨x13, ex13⟩ : ∃ z : Int32, z = v3 + (1 : Int32) := ⟨_, rfl⟩
                  refine lv_iinc (v := x13) (lv' := [(3, .int x13), (5, .int r12), (0, .ref (am 0)), (1, .int u1)]) hx hb dX10_roles_187 hl (k := 3) rfl (by rw [ex13]; rfl) (by decide) rfl (fun ls hl => ?_)
                  have hw := hw x13 ex13
                  refine lv_aload_n hx hb dX10_roles_190 rfl (lv_at hl 2 rfl) ?_
                  refine lv_iload_n hx hb dX10_roles_191 rfl (lv_at hl 0 rfl) ?_
                  refine lv_iload hx hb dX10_roles_192 (lv_at hl 1 rfl) ?_
                  refine wd_cVv ⟨hx, hb, hml, hown, hts⟩ (mtX10_level l D am cI cJ cZ A hD σ11 x13 r12 _ hw) (cwV 2 hts gX10_roles_X10_level rfl rfl rfl (by decide +kernel) ⟨(Nat.le_of_ble_eq_true rfl), (Nat.le_of_ble_eq_true rfl)⟩) (va_recv hK hP (ci := 10) (q0 := 0) rfl (mw_q0 am cI cJ cZ σ11)) hK hN hP hS rfl hl.1 rfl (Nat.le_of_ble_eq_true rfl) dX10_roles_194 ⟨Nat.zero_le _, Nat.zero_le _⟩ (fun σ14 H locs hw hP hS => ?_)
                  refine lv_goto (tgt := 58) hx hb dX10_roles_197 (by decide) ?_
                  exact ih _ _ _ _ _ hw hP hS (lv_sub hl [2, 3, 0] rfl)
            · have hw := hw.2 c9
              refine lv_iload_n hx hb dX10_roles_116 rfl (lv_at hl 3 rfl) ?_
              refine lv_iconst (v := 1) hx hb dX10_roles_117 (by decide) ?_
              refine lv_iadd hx hb dX10_roles_118 ?_
              refine lv_aload_n hx hb dX10_roles_119 rfl (lv_at hl 1 rfl) ?_
              refine va_get hx hb hts iX10 hown hK hP 0 (mw_q0 am cI cJ cZ σ11) rfl 25 (by decide) f141 (fun _ h9 => h9) rfl dX10_roles_120 ?_
              refine lv_icmp_ge (tgt := 172) hx hb dX10_roles_123 (by decide) (fun c9 => ?_) (fun c9 => ?_)
              · have hw := hw.1 c9
                refine lv_iload hx hb dX10_roles_172 (lv_at hl 0 rfl) ?_
                refine lv_if_lt (tgt := 197) hx hb dX10_roles_174 (by decide) (fun c9 => ?_) (fun c9 => ?_)
                · have hw := hw.1 c9
                  refine lv_goto (tgt := 58) hx hb dX10_roles_197 (by decide) ?_
                  exact ih _ _ _ _ _ hw hP hS (lv_sub hl [1, 2, 3] rfl)
                · have hw := hw.2 c9
                  refine lv_iload_n hx hb dX10_roles_177 rfl (lv_at hl 3 rfl) ?_
                  refine lv_iconst (v := 2) hx hb dX10_roles_178 (by decide) ?_
                  refine lv_iadd hx hb dX10_roles_179 ?_
                  refine lv_aload_n hx hb dX10_roles_180 rfl (lv_at hl 1 rfl) ?_
                  refine va_get hx hb hts iX10 hown hK hP 0 (mw_q0 am cI cJ cZ σ11) rfl 25 (by decide) f141 (fun _ h9 => h9) rfl dX10_roles_181 ?_
                  refine lv_icmp_ge (tgt := 197) hx hb dX10_roles_184 (by decide) (fun c9 => ?_) (fun c9 => ?_)
                  · have hw := hw.1 c9
                    refine lv_goto (tgt := 58) hx hb dX10_roles_197 (by decide) ?_
                    exact ih _ _ _ _ _ hw hP hS (lv_sub hl [1, 2, 3] rfl)
                  · have hw := hw.2 c9
                    obtain ⟨x15, ex15⟩ : ∃ z : Int32, z = v3 + (1 : Int32) := ⟨_, rfl⟩
                    refine lv_iinc (v := x15) (lv' := [(3, .int x15), (5, .int r12), (0, .ref (am 0)), (1, .int u1)]) hx hb dX10_roles_187 hl (k := 3) rfl (by rw [ex15]; rfl) (by decide) rfl (fun ls hl => ?_)
                    have hw := hw x15 ex15
                    refine lv_aload_n hx hb dX10_roles_190 rfl (lv_at hl 2 rfl) ?_
                    refine lv_iload_n hx hb dX10_roles_191 rfl (lv_at hl 0 rfl) ?_
                    refine lv_iload hx hb dX10_roles_192 (lv_at hl 1 rfl) ?_
                    refine wd_cVv ⟨hx, hb, hml, hown, hts⟩ (mtX10_level l D am cI cJ cZ A hD σ11 x15 r12 _ hw) (cwV 2 hts gX10_roles_X10_level rfl rfl rfl (by decide +kernel) ⟨(Nat.le_of_ble_eq_true rfl), (Nat.le_of_ble_eq_true rfl)⟩) (va_recv hK hP (ci := 10) (q0 := 0) rfl (mw_q0 am cI cJ cZ σ11)) hK hN hP hS rfl hl.1 rfl (Nat.le_of_ble_eq_true rfl) dX10_roles_194 ⟨Nat.zero_le _, Nat.zero_le _⟩ (fun σ16 H locs hw hP hS => ?_)
                    refine lv_goto (tgt := 58) hx hb dX10_roles_197 (by decide) ?_
                    exact ih _ _ _ _ _ hw hP hS (lv_sub hl [2, 3, 0] rfl)
              · have hw := hw.2 c9
                refine lv_aload_n hx hb dX10_roles_126 rfl (lv_at hl 1 rfl) ?_
                refine lv_iload_n hx hb dX10_roles_127 rfl (lv_at hl 3 rfl) ?_
                refine lv_iconst (v := 1) hx hb dX10_roles_128 (by decide) ?_
                refine lv_iadd hx hb dX10_roles_129 ?_
                refine wd_put 11 0 25 (ty := .int) tyX10 hx hb hts iX10 tyX10_ok nmX10 hown hK hP hD hS (mw_q0 am cI cJ cZ σ11) rfl (by decide) f141 (fun _ h9 => h9) rfl (by decide +kernel) rfl rfl (Nat.le_of_ble_eq_true rfl) (mw_s11 am cI cJ cZ σ11) dX10_roles_130 (fun H locs σ17 eσ17 hP hS => ?_)
                have hw := hw σ17 eσ17
                refine lv_aload_n hx hb dX10_roles_133 rfl (lv_at hl 1 rfl) ?_
                refine lv_iload_n hx hb dX10_roles_134 rfl (lv_at hl 3 rfl) ?_
                refine lv_iconst (v := 1) hx hb dX10_roles_135 (by decide) ?_
                refine lv_iadd hx hb dX10_roles_136 ?_
                refine wd_put 10 0 20 (ty := .int) tyX10 hx hb hts iX10 tyX10_ok nmX10 hown hK hP hD hS (mw_q0 am cI cJ cZ σ17) rfl (by decide) f138 (fun _ h9 => h9) rfl (by decide +kernel) rfl rfl (Nat.le_of_ble_eq_true rfl) (mw_s10 am cI cJ cZ σ17) dX10_roles_137 (fun H locs σ18 eσ18 hP hS => ?_)
                have hw := hw σ18 eσ18
                refine lv_iconst (v := 0) hx hb dX10_roles_140 (by decide) ?_
                refine lv_istore (lv' := [(6, .int (0 : Int32)), (5, .int r12), (0, .ref (am 0)), (1, .int u1), (3, .int v3)]) hx hb dX10_roles_141 hl (by decide) rfl (fun ls hl => ?_)
                obtain ⟨n9, hw⟩ := hw
                refine L143 u1 v3 _ ?_ n9 (0 : Int32) σ18 _ _ _ hw hP hS (lv_sub hl [2, 3, 4, 0] rfl)
                · intro σ21 H locs ls hw hP hS hl
                  refine lv_goto (tgt := 197) hx hb dX10_roles_169 (by decide) ?_
                  refine lv_goto (tgt := 58) hx hb dX10_roles_197 (by decide) ?_
                  exact ih _ _ _ _ _ hw hP hS (lv_sub hl [0, 1, 2] rfl)
          · have hw := hw.2 c9
            refine lv_aload_n hx hb dX10_roles_84 rfl (lv_at hl 0 rfl) ?_
            refine lv_iconst (v := 0) hx hb dX10_roles_85 (by decide) ?_
            refine wd_put 10 0 20 (ty := .int) tyX10 hx hb hts iX10 tyX10_ok nmX10 hown hK hP hD hS (mw_q0 am cI cJ cZ σ10) rfl (by decide) f138 (fun _ h9 => h9) rfl (by decide +kernel) rfl rfl (Nat.le_of_ble_eq_true rfl) (mw_s10 am cI cJ cZ σ10) dX10_roles_86 (fun H locs σ23 eσ23 hP hS => ?_)
            have hw := hw σ23 eσ23
            refine lv_bipush (v := -6) hx hb dX10_roles_89 (by decide) ?_
            exact wd_iret hx hb hr hlocks hw hP hS dX10_roles_91
        · have hw := hw.2 c9
          obtain ⟨x24, ex24⟩ : ∃ z : Int32, z = v3 + (-1 : Int32) := ⟨_, rfl⟩
          refine lv_iinc (v := x24) (lv' := [(3, .int x24), (0, .ref (am 0)), (1, .int u1)]) hx hb dX10_roles_70 hl (k := 2) rfl (by rw [ex24]; rfl) (by decide) rfl (fun ls hl => ?_)
          have hw := hw x24 ex24
          refine lv_goto (tgt := 58) hx hb dX10_roles_73 (by decide) ?_
          exact ih _ _ _ _ _ hw hP hS (lv_sub hl [1, 2, 0] rfl)
  have hl := lv_entry ([.ref (am 0), .int a1]) (n := 7) (Nat.le_of_ble_eq_true rfl)
  rw [lg_entry_eq]
  generalize (lg_sl ([.ref (am 0), .int a1]) ++ List.replicate (7 - (lg_sl ([.ref (am 0), .int a1])).length) Slot.unset).toArray = ls at hl ⊢
  have hl : lv_has ls 7 [(0, .ref (am 0)), (1, .int a1)] := hl
  unfold wX10_roles at hw
  refine lv_iload_n hx hb dX10_roles_0 rfl (lv_at hl 1 rfl) ?_
  refine lv_iconst (v := 1) hx hb dX10_roles_1 (by decide) ?_
  refine lv_sipush (v := 20000) hx hb dX10_roles_2 (by decide) ?_
  refine wd_cSi ⟨hx, hb, hml, hown, hts⟩ (mtX10_in l D am cI cJ cZ A hD σ0 a1 (1 : Int32) (20000 : Int32) _ hw) (va_cwS 3 hts gX10_roles_X10_in rfl rfl rfl (by decide +kernel) ⟨(Nat.le_of_ble_eq_true rfl), (Nat.le_of_ble_eq_true rfl)⟩) hK hN hP hS rfl hl.1 rfl (Nat.le_of_ble_eq_true rfl) dX10_roles_5 ⟨Nat.zero_le _, Nat.zero_le _⟩ (fun r1 u9 H locs hq hP hS => ?_)
  obtain ⟨hw, hu⟩ := hq
  rw [hu] at hP
  refine lv_if_ne (tgt := 13) hx hb dX10_roles_8 (by decide) (fun c9 => ?_) (fun c9 => ?_)
  · have hw := hw.1 c9
    refine lv_aload_n hx hb dX10_roles_13 rfl (lv_at hl 0 rfl) ?_
    refine wd_cVi ⟨hx, hb, hml, hown, hts⟩ (mtX10_setCandidates l D am cI cJ cZ A hD σ0  _ hw) (cwV 0 hts gX10_roles_X10_setCandidates rfl rfl rfl (by decide +kernel) ⟨(Nat.le_of_ble_eq_true rfl), (Nat.le_of_ble_eq_true rfl)⟩) (va_recv hK hP (ci := 10) (q0 := 0) rfl (mw_q0 am cI cJ cZ σ0)) hK hN hP hS rfl hl.1 rfl (Nat.le_of_ble_eq_true rfl) dX10_roles_14 ⟨Nat.zero_le _, Nat.zero_le _⟩ (fun r2 σ3 H locs hw hP hS => ?_)
    refine lv_istore_n (lv' := [(2, .int r2), (0, .ref (am 0)), (1, .int a1)]) hx hb dX10_roles_17 rfl hl (by decide) rfl (fun ls hl => ?_)
    refine lv_aload_n hx hb dX10_roles_18 rfl (lv_at hl 1 rfl) ?_
    refine lv_iconst (v := 0) hx hb dX10_roles_19 (by decide) ?_
    refine wd_put 9 0 19 (ty := .int) tyX10 hx hb hts iX10 tyX10_ok nmX10 hown hK hP hD hS (mw_q0 am cI cJ cZ σ3) rfl (by decide) f135 (fun _ h9 => h9) rfl (by decide +kernel) rfl rfl (Nat.le_of_ble_eq_true rfl) (mw_s9 am cI cJ cZ σ3) dX10_roles_20 (fun H locs σ4 eσ4 hP hS => ?_)
    have hw := hw σ4 eσ4
    refine lv_aload_n hx hb dX10_roles_23 rfl (lv_at hl 1 rfl) ?_
    refine lv_iconst (v := 0) hx hb dX10_roles_24 (by decide) ?_
    refine wd_put 10 0 20 (ty := .int) tyX10 hx hb hts iX10 tyX10_ok nmX10 hown hK hP hD hS (mw_q0 am cI cJ cZ σ4) rfl (by decide) f138 (fun _ h9 => h9) rfl (by decide +kernel) rfl rfl (Nat.le_of_ble_eq_true rfl) (mw_s10 am cI cJ cZ σ4) dX10_roles_25 (fun H locs σ5 eσ5 hP hS => ?_)
    have hw := hw σ5 eσ5
    refine lv_aload_n hx hb dX10_roles_28 rfl (lv_at hl 1 rfl) ?_
    refine lv_sipush (v := 1000) hx hb dX10_roles_29 (by decide) ?_
    refine wd_put 11 0 25 (ty := .int) tyX10 hx hb hts iX10 tyX10_ok nmX10 hown hK hP hD hS (mw_q0 am cI cJ cZ σ5) rfl (by decide) f141 (fun _ h9 => h9) rfl (by decide +kernel) rfl rfl (Nat.le_of_ble_eq_true rfl) (mw_s11 am cI cJ cZ σ5) dX10_roles_32 (fun H locs σ6 eσ6 hP hS => ?_)
    have hw := hw σ6 eσ6
    refine lv_iconst (v := 0) hx hb dX10_roles_35 (by decide) ?_
    refine lv_istore_n (lv' := [(3, .int (0 : Int32)), (2, .int r2), (0, .ref (am 0)), (1, .int a1)]) hx hb dX10_roles_36 rfl hl (by decide) rfl (fun ls hl => ?_)
    refine lv_aload_n hx hb dX10_roles_37 rfl (lv_at hl 2 rfl) ?_
    refine lv_iconst (v := 0) hx hb dX10_roles_38 (by decide) ?_
    refine wd_cVi ⟨hx, hb, hml, hown, hts⟩ (mtX10_open l D am cI cJ cZ A hD σ6 (0 : Int32) _ hw) (cwV 1 hts gX10_roles_X10_open rfl rfl rfl (by decide +kernel) ⟨(Nat.le_of_ble_eq_true rfl), (Nat.le_of_ble_eq_true rfl)⟩) (va_recv hK hP (ci := 10) (q0 := 0) rfl (mw_q0 am cI cJ cZ σ6)) hK hN hP hS rfl hl.1 rfl (Nat.le_of_ble_eq_true rfl) dX10_roles_39 ⟨Nat.zero_le _, Nat.zero_le _⟩ (fun r7 u9 H locs hq hP hS => ?_)
    obtain ⟨hw, hu⟩ := hq
    rw [hu] at hP
    refine lv_istore (lv' := [(4, .int r7), (3, .int (0 : Int32)), (2, .int r2), (0, .ref (am 0)), (1, .int a1)]) hx hb dX10_roles_42 hl (by decide) rfl (fun ls hl => ?_)
    refine lv_iload hx hb dX10_roles_44 (lv_at hl 0 rfl) ?_
    refine lv_if_ge (tgt := 51) hx hb dX10_roles_46 (by decide) (fun c9 => ?_) (fun c9 => ?_)
    · have hw := hw.1 c9
      refine lv_aload_n hx hb dX10_roles_51 rfl (lv_at hl 3 rfl) ?_
      refine lv_iconst (v := 0) hx hb dX10_roles_52 (by decide) ?_
      refine lv_iload hx hb dX10_roles_53 (lv_at hl 0 rfl) ?_
      refine wd_cVv ⟨hx, hb, hml, hown, hts⟩ (mtX10_level l D am cI cJ cZ A hD σ6 (0 : Int32) r7 _ hw) (cwV 2 hts gX10_roles_X10_level rfl rfl rfl (by decide +kernel) ⟨(Nat.le_of_ble_eq_true rfl), (Nat.le_of_ble_eq_true rfl)⟩) (va_recv hK hP (ci := 10) (q0 := 0) rfl (mw_q0 am cI cJ cZ σ6)) hK hN hP hS rfl hl.1 rfl (Nat.le_of_ble_eq_true rfl) dX10_roles_55 ⟨Nat.zero_le _, Nat.zero_le _⟩ (fun σ8 H locs hw hP hS => ?_)
      obtain ⟨n9, hw⟩ := hw
      refine L58 a1 _ ?_ n9 (0 : Int32) σ8 _ _ _ hw hP hS (lv_sub hl [3, 4, 1] rfl)
      · intro σ25 H locs ls hw hP hS hl
        refine lv_aload_n hx hb dX10_roles_200 rfl (lv_at hl 0 rfl) ?_
        refine va_get hx hb hts iX10 hown hK hP 0 (mw_q0 am cI cJ cZ σ25) rfl 20 (by decide) f138 (fun _ h9 => h9) rfl dX10_roles_201 ?_
        exact wd_iret hx hb hr hlocks hw hP hS dX10_roles_204
    · have hw := hw.2 c9
      refine lv_iconst (v := 0) hx hb dX10_roles_49 (by decide) ?_
      exact wd_iret hx hb hr hlocks hw hP hS dX10_roles_50
  · have hw := hw.2 c9
    refine lv_iconst (v := -1) hx hb dX10_roles_11 (by decide) ?_
    exact wd_iret hx hb hr hlocks hw hP hS dX10_roles_12
def wX10_tries (σ0 : St) (post : Int32 → Prop) : Prop := post (σ0.1 9)
set_option maxHeartbeats 4000000 in
set_option maxRecDepth 100000 in
theorem mtX10_tries (l : Launch) (D : va_G) (am : Nat → Nat) (cI cJ cZ : ClassId) (A : Nat → Prop) (hD : ∀ σ : St, va_D A (mw am cI cJ cZ σ)) (σ0 : St) (post : Int32 → Prop) (hw : wX10_tries σ0 post) : Met l yX10_tries wsX10_tries ({ frames := 0, cells := 0, slots := 0, locals := 0 } : Room) (va_Pc [.ref (am 0)] (wd_pre D (mw am cI cJ cZ) (wd_tys cI cJ cZ) σ0)) (va_Qi (fun (r : Int32) (u : St) => post r ∧ u = σ0) (wd_B D (mw am cI cJ cZ)) A) 0 0 A := by
  refine Met.ofW (cc := cX10_tries) (maxL := 1) (ret := (some .int)) (by decide) rfl ?_
  intro p e s m args below meth c s₁ B hml hv
  obtain ⟨rfl, hP, hK, hN⟩ := hv
  have hx := B.exec
  have hb := B.bytes
  have hr := B.returns
  have hts := atoms_spec (ws := wsX10_tries) B.pre
  have hown : s.vm.findClass RX10 = some m.cls := findClass_of_methodNamed B.named
  have hlocks := B.notSynchronized
  have hS : va_S A s.heap s.heap [] := va_S.rf
  have f135 := hts (.fieldLink RX10 135 "LeastRightsModel" "tries" "I") (by decide +kernel)
  have iX10 : ∀ w ∈ wsX100, w ∈ wsX10_tries := by decide +kernel
  have hl := lv_entry ([.ref (am 0)]) (n := 1) (Nat.le_of_ble_eq_true rfl)
  rw [lg_entry_eq]
  generalize (lg_sl ([.ref (am 0)]) ++ List.replicate (1 - (lg_sl ([.ref (am 0)])).length) Slot.unset).toArray = ls at hl ⊢
  have hl : lv_has ls 1 [(0, .ref (am 0))] := hl
  unfold wX10_tries at hw
  refine lv_aload_n hx hb dX10_tries_0 rfl (lv_at hl 0 rfl) ?_
  refine va_get hx hb hts iX10 hown hK hP 0 (mw_q0 am cI cJ cZ σ0) rfl 19 (by decide) f135 (fun _ h9 => h9) rfl dX10_tries_1 ?_
  exact wd_iret hx hb hr hlocks ⟨hw, rfl⟩ hP hS dX10_tries_4
