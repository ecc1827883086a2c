/-! X10_role X10_rolesOf X10_exceptionsTo X10_marksOf X10_exceptions X10_ban X10_isBad X10_breach -/
def wX10_role (σ0 : St) (a1 : Int32) (post : Int32 → Prop) : Prop := wX10_in a1 (0 : Int32) ((σ0.1 10) - (1 : Int32)) (fun (r1 : Int32) => (r1 = 0 → (post (-9 : Int32))) ∧ (¬ r1 = 0 → (vp_in a1 64 ∧ (post (σ0.2.1 10 a1.toNatClampNeg)))))
set_option maxHeartbeats 4000000 in
set_option maxRecDepth 100000 in
theorem mtX10_role (l : Launch) (D : va_G) (am : Nat → Nat) (cI cJ cZ : ClassId) (A : Nat → Prop) (hD : ∀ σ : St, va_D A (mw am cI cJ cZ σ)) (σ0 : St) (a1 : Int32) (post : Int32 → Prop) (hw : wX10_role σ0 a1 post) : Met l yX10_role wsX10_role ({ frames := 1, cells := 0, slots := 0, locals := 22 } : Room) (va_Pc [.ref (am 0), .int a1] (wd_pre D (mw am cI cJ cZ) (wd_tys cI cJ cZ) σ0)) (va_Qi (fun (r : Int32) (u : St) => post r ∧ u = σ0) (wd_B D (mw am cI cJ cZ)) A) 0 0 A := by
  refine Met.ofW (cc := cX10_role) (maxL := 2) (ret := (some .int)) (by decide) rfl ?_
  intro p e s m args below meth c s₁ B hml hv
  obtain ⟨rfl, hP, hK, hN⟩ := hv
  have hx := B.exec
  have hb := B.bytes
  have hr := B.returns
  have hts := atoms_spec (ws := wsX10_role) B.pre
  have hown : s.vm.findClass RX10 = some m.cls := findClass_of_methodNamed B.named
  have hlocks := B.notSynchronized
  have hS : va_S A s.heap s.heap [] := va_S.rf
  have f138 := hts (.fieldLink RX10 138 "LeastRightsModel" "roleMany" "I") (by decide +kernel)
  have iX10 : ∀ w ∈ wsX100, w ∈ wsX10_role := by decide +kernel
  have f51 := hts (.fieldLink RX10 51 "LeastRightsModel" "roles" "[I") (by decide +kernel)
  have hl := lv_entry ([.ref (am 0), .int a1]) (n := 2) (Nat.le_of_ble_eq_true rfl)
  rw [lg_entry_eq]
  generalize (lg_sl ([.ref (am 0), .int a1]) ++ List.replicate (2 - (lg_sl ([.ref (am 0), .int a1])).length) Slot.unset).toArray = ls at hl ⊢
  have hl : lv_has ls 2 [(0, .ref (am 0)), (1, .int a1)] := hl
  unfold wX10_role at hw
  refine lv_iload_n hx hb dX10_role_0 rfl (lv_at hl 1 rfl) ?_
  refine lv_iconst (v := 0) hx hb dX10_role_1 (by decide) ?_
  refine lv_aload_n hx hb dX10_role_2 rfl (lv_at hl 0 rfl) ?_
  refine va_get hx hb hts iX10 hown hK hP 0 (mw_q0 am cI cJ cZ σ0) rfl 20 (by decide) f138 (fun _ h9 => h9) rfl dX10_role_3 ?_
  refine lv_iconst (v := 1) hx hb dX10_role_6 (by decide) ?_
  refine lv_isub hx hb dX10_role_7 ?_
  refine wd_cSi ⟨hx, hb, hml, hown, hts⟩ (mtX10_in l D am cI cJ cZ A hD σ0 a1 (0 : Int32) ((σ0.1 10) - (1 : Int32)) _ hw) (va_cwS 3 hts gX10_role_X10_in rfl rfl rfl (by decide +kernel) ⟨(Nat.le_of_ble_eq_true rfl), (Nat.le_of_ble_eq_true rfl)⟩) hK hN hP hS rfl hl.1 rfl (Nat.le_of_ble_eq_true rfl) dX10_role_8 ⟨Nat.zero_le _, Nat.zero_le _⟩ (fun r1 u9 H locs hq hP hS => ?_)
  obtain ⟨hw, hu⟩ := hq
  rw [hu] at hP
  refine lv_if_eq (tgt := 23) hx hb dX10_role_11 (by decide) (fun c9 => ?_) (fun c9 => ?_)
  · have hw := hw.1 c9
    refine lv_bipush (v := -9) hx hb dX10_role_23 (by decide) ?_
    exact wd_iret hx hb hr hlocks ⟨hw, rfl⟩ hP hS dX10_role_25
  · have hw := hw.2 c9
    refine lv_aload_n hx hb dX10_role_14 rfl (lv_at hl 0 rfl) ?_
    refine va_get hx hb hts iX10 hown hK hP 0 (mw_q0 am cI cJ cZ σ0) rfl 21 (by decide) f51 (fun _ h9 => h9) rfl dX10_role_15 ?_
    refine lv_iload_n hx hb dX10_role_18 rfl (lv_at hl 1 rfl) ?_
    obtain ⟨h9, hw⟩ := hw
    refine va_iald hx hb hK hP 11 0 (mw_q11 am cI cJ cZ σ0) rfl h9 dX10_role_19 ?_
    refine lv_goto (tgt := 25) hx hb dX10_role_20 (by decide) ?_
    exact wd_iret hx hb hr hlocks ⟨hw, rfl⟩ hP hS dX10_role_25
def lpX10_rolesOf_21 (u2 : Int32) (σ0 : St) (post : Int32 → Prop) : Nat → Int32 → Int32 → Prop
  | 0, _, _ => False
  | n + 1, v3, v4 => ((σ0.1 10) ≤ v4 → (post v3)) ∧ (¬ (σ0.1 10) ≤ v4 → (vp_in v4 64 ∧ ((¬ ((σ0.2.1 10 v4.toNatClampNeg) &&& (u2 ^^^ (-1 : Int32))) = 0 → (∀ x3 : Int32, x3 = (v3 ||| (0 : Int32)) → (∀ x4 : Int32, x4 = v4 + (1 : Int32) → (lpX10_rolesOf_21 u2 σ0 post n x3 x4)))) ∧ (((σ0.2.1 10 v4.toNatClampNeg) &&& (u2 ^^^ (-1 : Int32))) = 0 → (∀ x5 : Int32, x5 = (v3 ||| ((1 : Int32) <<< (v4 &&& 31))) → (∀ x6 : Int32, x6 = v4 + (1 : Int32) → (lpX10_rolesOf_21 u2 σ0 post n x5 x6)))))))
def wX10_rolesOf (σ0 : St) (a1 : Int32) (post : Int32 → Prop) : Prop := wX10_isPerson σ0 a1 (fun (r1 : Int32) => (¬ r1 = 0 → (wX10_keptOf σ0 a1 (fun (r2 : Int32) => ∃ n7 : Nat, lpX10_rolesOf_21 r2 σ0 post n7 (0 : Int32) (0 : Int32)))) ∧ (r1 = 0 → (post (-1 : Int32))))
set_option maxHeartbeats 4000000 in
set_option maxRecDepth 100000 in
theorem mtX10_rolesOf (l : Launch) (D : va_G) (am : Nat → Nat) (cI cJ cZ : ClassId) (A : Nat → Prop) (hD : ∀ σ : St, va_D A (mw am cI cJ cZ σ)) (σ0 : St) (a1 : Int32) (post : Int32 → Prop) (hw : wX10_rolesOf σ0 a1 post) : Met l yX10_rolesOf wsX10_rolesOf ({ frames := 3, cells := 0, slots := 0, locals := 71 } : Room) (va_Pc [.ref (am 0), .int a1] (wd_pre D (mw am cI cJ cZ) (wd_tys cI cJ cZ) σ0)) (va_Qi (fun (r : Int32) (u : St) => post r ∧ u = σ0) (wd_B D (mw am cI cJ cZ)) A) 0 0 A := by
  refine Met.ofW (cc := cX10_rolesOf) (maxL := 5) (ret := (some .int)) (by decide) rfl ?_
  intro p e s m args below meth c s₁ B hml hv
  obtain ⟨rfl, hP, hK, hN⟩ := hv
  have hx := B.exec
  have hb := B.bytes
  have hr := B.returns
  have hts := atoms_spec (ws := wsX10_rolesOf) B.pre
  have hown : s.vm.findClass RX10 = some m.cls := findClass_of_methodNamed B.named
  have hlocks := B.notSynchronized
  have hS : va_S A s.heap s.heap [] := va_S.rf
  have f138 := hts (.fieldLink RX10 138 "LeastRightsModel" "roleMany" "I") (by decide +kernel)
  have iX10 : ∀ w ∈ wsX100, w ∈ wsX10_rolesOf := by decide +kernel
  have f51 := hts (.fieldLink RX10 51 "LeastRightsModel" "roles" "[I") (by decide +kernel)
  have L21 : ∀ (u2 : Int32) (n : Nat) (v3 : Int32) (v4 : Int32) (H : Heap) (locs : List Loc) (ls : Array Slot), lpX10_rolesOf_21 u2 σ0 post n v3 v4 → va_P D vwCl (mw am cI cJ cZ σ0) H → va_S A s.heap H locs → lv_has ls 5 [(0, .ref (am 0)), (2, .int u2), (3, .int v3), (4, .int v4)] → W p l e (headSpec wsX10_rolesOf ({ frames := 3, cells := 0, slots := 0, locals := 71 } : Room)).room s m ([.ref (am 0), .int a1] : List Value).toArray below meth c H locs 0 0 (MQ below (va_Qi (fun (r : Int32) (u : St) => post r ∧ u = σ0) (wd_B D (mw am cI cJ cZ)) A) ([.ref (am 0), .int a1] : List Value).toArray s 0 0 A) (F0 m 21 ls []) := by
    intro u2 n
    induction n with
    | zero => intro v3 v4 H locs ls hw; exact hw.elim
    | succ n ih =>
      intro v3 v4 H locs ls hw hP hS hl
      rw [lpX10_rolesOf_21] at hw
      refine lv_iload hx hb dX10_rolesOf_21 (lv_at hl 3 rfl) ?_
      refine lv_aload_n hx hb dX10_rolesOf_23 rfl (lv_at hl 0 rfl) ?_
      refine va_get hx hb hts iX10 hown hK hP 0 (mw_q0 am cI cJ cZ σ0) rfl 20 (by decide) f138 (fun _ h9 => h9) rfl dX10_rolesOf_24 ?_
      refine lv_icmp_ge (tgt := 61) hx hb dX10_rolesOf_27 (by decide) (fun c9 => ?_) (fun c9 => ?_)
      · have hw := hw.1 c9
        refine lv_iload_n hx hb dX10_rolesOf_61 rfl (lv_at hl 2 rfl) ?_
        exact wd_iret hx hb hr hlocks ⟨hw, rfl⟩ hP hS dX10_rolesOf_62
      · have hw := hw.2 c9
        refine lv_iload_n hx hb dX10_rolesOf_30 rfl (lv_at hl 2 rfl) ?_
        refine lv_aload_n hx hb dX10_rolesOf_31 rfl (lv_at hl 0 rfl) ?_
        refine va_get hx hb hts iX10 hown hK hP 0 (mw_q0 am cI cJ cZ σ0) rfl 21 (by decide) f51 (fun _ h9 => h9) rfl dX10_rolesOf_32 ?_
        refine lv_iload hx hb dX10_rolesOf_35 (lv_at hl 3 rfl) ?_
        obtain ⟨h9, hw⟩ := hw
        refine va_iald hx hb hK hP 11 0 (mw_q11 am cI cJ cZ σ0) rfl h9 dX10_rolesOf_37 ?_
        refine lv_iload_n hx hb dX10_rolesOf_38 rfl (lv_at hl 1 rfl) ?_
        refine lv_iconst (v := -1) hx hb dX10_rolesOf_39 (by decide) ?_
        refine lv_ixor hx hb dX10_rolesOf_40 ?_
        refine lv_iand hx hb dX10_rolesOf_41 ?_
        refine lv_if_ne (tgt := 52) hx hb dX10_rolesOf_42 (by decide) (fun c9 => ?_) (fun c9 => ?_)
        · have hw := hw.1 c9
          refine lv_iconst (v := 0) hx hb dX10_rolesOf_52 (by decide) ?_
          refine lv_ior hx hb dX10_rolesOf_53 ?_
          refine lv_topi (fun x3 ex3 => ?_)
          have hw := hw x3 ex3
          refine lv_istore_n (lv' := [(3, .int x3), (0, .ref (am 0)), (2, .int u2), (4, .int v4)]) hx hb dX10_rolesOf_54 rfl hl (by decide) rfl (fun ls hl => ?_)
          obtain ⟨x4, ex4⟩ : ∃ z : Int32, z = v4 + (1 : Int32) := ⟨_, rfl⟩
          refine lv_iinc (v := x4) (lv' := [(4, .int x4), (3, .int x3), (0, .ref (am 0)), (2, .int u2)]) hx hb dX10_rolesOf_55 hl (k := 3) rfl (by rw [ex4]; rfl) (by decide) rfl (fun ls hl => ?_)
          have hw := hw x4 ex4
          refine lv_goto (tgt := 21) hx hb dX10_rolesOf_58 (by decide) ?_
          exact ih _ _ _ _ _ hw hP hS (lv_sub hl [2, 3, 1, 0] rfl)
        · have hw := hw.2 c9
          refine lv_iconst (v := 1) hx hb dX10_rolesOf_45 (by decide) ?_
          refine lv_iload hx hb dX10_rolesOf_46 (lv_at hl 3 rfl) ?_
          refine lv_ishl hx hb dX10_rolesOf_48 ?_
          refine lv_goto (tgt := 53) hx hb dX10_rolesOf_49 (by decide) ?_
          refine lv_ior hx hb dX10_rolesOf_53 ?_
          refine lv_topi (fun x5 ex5 => ?_)
          have hw := hw x5 ex5
          refine lv_istore_n (lv' := [(3, .int x5), (0, .ref (am 0)), (2, .int u2), (4, .int v4)]) hx hb dX10_rolesOf_54 rfl hl (by decide) rfl (fun ls hl => ?_)
          obtain ⟨x6, ex6⟩ : ∃ z : Int32, z = v4 + (1 : Int32) := ⟨_, rfl⟩
          refine lv_iinc (v := x6) (lv' := [(4, .int x6), (3, .int x5), (0, .ref (am 0)), (2, .int u2)]) hx hb dX10_rolesOf_55 hl (k := 3) rfl (by rw [ex6]; rfl) (by decide) rfl (fun ls hl => ?_)
          have hw := hw x6 ex6
          refine lv_goto (tgt := 21) hx hb dX10_rolesOf_58 (by decide) ?_
          exact ih _ _ _ _ _ hw hP hS (lv_sub hl [2, 3, 1, 0] rfl)
  have hl := lv_entry ([.ref (am 0), .int a1]) (n := 5) (Nat.le_of_ble_eq_true rfl)
  rw [lg_entry_eq]
  generalize (lg_sl ([.ref (am 0), .int a1]) ++ List.replicate (5 - (lg_sl ([.ref (am 0), .int a1])).length) Slot.unset).toArray = ls at hl ⊢
  have hl : lv_has ls 5 [(0, .ref (am 0)), (1, .int a1)] := hl
  unfold wX10_rolesOf at hw
  refine lv_aload_n hx hb dX10_rolesOf_0 rfl (lv_at hl 0 rfl) ?_
  refine lv_iload_n hx hb dX10_rolesOf_1 rfl (lv_at hl 1 rfl) ?_
  refine wd_cVi ⟨hx, hb, hml, hown, hts⟩ (mtX10_isPerson l D am cI cJ cZ A hD σ0 a1 _ hw) (cwV 1 hts gX10_rolesOf_X10_isPerson rfl rfl rfl (by decide +kernel) ⟨(Nat.le_of_ble_eq_true rfl), (Nat.le_of_ble_eq_true rfl)⟩) (va_recv hK hP (ci := 10) (q0 := 0) rfl (mw_q0 am cI cJ cZ σ0)) hK hN hP hS rfl hl.1 rfl (Nat.le_of_ble_eq_true rfl) dX10_rolesOf_2 ⟨Nat.zero_le _, Nat.zero_le _⟩ (fun r1 u9 H locs hq hP hS => ?_)
  obtain ⟨hw, hu⟩ := hq
  rw [hu] at hP
  refine lv_if_ne (tgt := 10) hx hb dX10_rolesOf_5 (by decide) (fun c9 => ?_) (fun c9 => ?_)
  · have hw := hw.1 c9
    refine lv_aload_n hx hb dX10_rolesOf_10 rfl (lv_at hl 0 rfl) ?_
    refine lv_iload_n hx hb dX10_rolesOf_11 rfl (lv_at hl 1 rfl) ?_
    refine wd_cVi ⟨hx, hb, hml, hown, hts⟩ (mtX10_keptOf l D am cI cJ cZ A hD σ0 a1 _ hw) (cwV 1 hts gX10_rolesOf_X10_keptOf rfl rfl rfl (by decide +kernel) ⟨(Nat.le_of_ble_eq_true rfl), (Nat.le_of_ble_eq_true rfl)⟩) (va_recv hK hP (ci := 10) (q0 := 0) rfl (mw_q0 am cI cJ cZ σ0)) hK hN hP hS rfl hl.1 rfl (Nat.le_of_ble_eq_true rfl) dX10_rolesOf_12 ⟨Nat.zero_le _, Nat.zero_le _⟩ (fun r2 u9 H locs hq hP hS => ?_)
    obtain ⟨hw, hu⟩ := hq
    rw [hu] at hP
    refine lv_istore_n (lv' := [(2, .int r2), (0, .ref (am 0)), (1, .int a1)]) hx hb dX10_rolesOf_15 rfl hl (by decide) rfl (fun ls hl => ?_)
    refine lv_iconst (v := 0) hx hb dX10_rolesOf_16 (by decide) ?_
    refine lv_istore_n (lv' := [(3, .int (0 : Int32)), (2, .int r2), (0, .ref (am 0)), (1, .int a1)]) hx hb dX10_rolesOf_17 rfl hl (by decide) rfl (fun ls hl => ?_)
    refine lv_iconst (v := 0) hx hb dX10_rolesOf_18 (by decide) ?_
    refine lv_istore (lv' := [(4, .int (0 : Int32)), (3, .int (0 : Int32)), (2, .int r2), (0, .ref (am 0)), (1, .int a1)]) hx hb dX10_rolesOf_19 hl (by decide) rfl (fun ls hl => ?_)
    obtain ⟨n9, hw⟩ := hw
    refine L21 r2 n9 (0 : Int32) (0 : Int32) _ _ _ hw hP hS (lv_sub hl [3, 2, 1, 0] rfl)
  · have hw := hw.2 c9
    refine lv_iconst (v := -1) hx hb dX10_rolesOf_8 (by decide) ?_
    exact wd_iret hx hb hr hlocks ⟨hw, rfl⟩ hP hS dX10_rolesOf_9
def lpX10_exceptionsTo_5 (u1 : Int32) (u2 : Int32) (σ0 : St) (post : Int32 → Prop) : Nat → Int32 → Int32 → Prop
  | 0, _, _ => False
  | n + 1, v3, v4 => ((σ0.1 1) ≤ v4 → (post v3)) ∧ (¬ (σ0.1 1) ≤ v4 → (vp_in v4 10 ∧ ((¬ (u2 &&& ((σ0.2.1 1 v4.toNatClampNeg) ^^^ (-1 : Int32))) = 0 → (vp_in v4 10 ∧ (wX10_has (σ0.2.1 2 v4.toNatClampNeg) u1 (fun (r1 : Int32) => ((0 : Int32) = r1 → (∀ x2 : Int32, x2 = (v3 ||| (0 : Int32)) → (∀ x3 : Int32, x3 = v4 + (1 : Int32) → (lpX10_exceptionsTo_5 u1 u2 σ0 post n x2 x3)))) ∧ (¬ (0 : Int32) = r1 → (∀ x4 : Int32, x4 = (v3 ||| ((1 : Int32) <<< (v4 &&& 31))) → (∀ x5 : Int32, x5 = v4 + (1 : Int32) → (lpX10_exceptionsTo_5 u1 u2 σ0 post n x4 x5)))))))) ∧ ((u2 &&& ((σ0.2.1 1 v4.toNatClampNeg) ^^^ (-1 : Int32))) = 0 → (vp_in v4 10 ∧ (wX10_has (σ0.2.1 2 v4.toNatClampNeg) u1 (fun (r6 : Int32) => ((1 : Int32) = r6 → (∀ x7 : Int32, x7 = (v3 ||| (0 : Int32)) → (∀ x8 : Int32, x8 = v4 + (1 : Int32) → (lpX10_exceptionsTo_5 u1 u2 σ0 post n x7 x8)))) ∧ (¬ (1 : Int32) = r6 → (∀ x9 : Int32, x9 = (v3 ||| ((1 : Int32) <<< (v4 &&& 31))) → (∀ x10 : Int32, x10 = v4 + (1 : Int32) → (lpX10_exceptionsTo_5 u1 u2 σ0 post n x9 x10)))))))))))
def wX10_exceptionsTo (σ0 : St) (a1 : Int32) (a2 : Int32) (post : Int32 → Prop) : Prop := ∃ n11 : Nat, lpX10_exceptionsTo_5 a1 a2 σ0 post n11 (0 : Int32) (0 : Int32)
set_option maxHeartbeats 4000000 in
set_option maxRecDepth 100000 in
theorem mtX10_exceptionsTo (l : Launch) (D : va_G) (am : Nat → Nat) (cI cJ cZ : ClassId) (A : Nat → Prop) (hD : ∀ σ : St, va_D A (mw am cI cJ cZ σ)) (σ0 : St) (a1 : Int32) (a2 : Int32) (post : Int32 → Prop) (hw : wX10_exceptionsTo σ0 a1 a2 post) : Met l yX10_exceptionsTo wsX10_exceptionsTo ({ frames := 1, cells := 0, slots := 0, locals := 21 } : Room) (va_Pc [.ref (am 0), .int a1, .int a2] (wd_pre D (mw am cI cJ cZ) (wd_tys cI cJ cZ) σ0)) (va_Qi (fun (r : Int32) (u : St) => post r ∧ u = σ0) (wd_B D (mw am cI cJ cZ)) A) 0 0 A := by
  refine Met.ofW (cc := cX10_exceptionsTo) (maxL := 6) (ret := (some .int)) (by decide) rfl ?_
  intro p e s m args below meth c s₁ B hml hv
  obtain ⟨rfl, hP, hK, hN⟩ := hv
  have hx := B.exec
  have hb := B.bytes
  have hr := B.returns
  have hts := atoms_spec (ws := wsX10_exceptionsTo) B.pre
  have hown : s.vm.findClass RX10 = some m.cls := findClass_of_methodNamed B.named
  have hlocks := B.notSynchronized
  have hS : va_S A s.heap s.heap [] := va_S.rf
  have f84 := hts (.fieldLink RX10 84 "LeastRightsModel" "people" "I") (by decide +kernel)
  have iX10 : ∀ w ∈ wsX100, w ∈ wsX10_exceptionsTo := by decide +kernel
  have f13 := hts (.fieldLink RX10 13 "LeastRightsModel" "marks" "[I") (by decide +kernel)
  have f16 := hts (.fieldLink RX10 16 "LeastRightsModel" "rights" "[I") (by decide +kernel)
  have L5 : ∀ (u1 : Int32) (u2 : Int32) (n : Nat) (v3 : Int32) (v4 : Int32) (H : Heap) (locs : List Loc) (ls : Array Slot), lpX10_exceptionsTo_5 u1 u2 σ0 post n v3 v4 → va_P D vwCl (mw am cI cJ cZ σ0) H → va_S A s.heap H locs → lv_has ls 6 [(0, .ref (am 0)), (1, .int u1), (2, .int u2), (3, .int v3), (4, .int v4)] → W p l e (headSpec wsX10_exceptionsTo ({ frames := 1, cells := 0, slots := 0, locals := 21 } : Room)).room s m ([.ref (am 0), .int a1, .int a2] : List Value).toArray below meth c H locs 0 0 (MQ below (va_Qi (fun (r : Int32) (u : St) => post r ∧ u = σ0) (wd_B D (mw am cI cJ cZ)) A) ([.ref (am 0), .int a1, .int a2] : List Value).toArray s 0 0 A) (F0 m 5 ls []) := by
    intro u1 u2 n
    induction n with
    | zero => intro v3 v4 H locs ls hw; exact hw.elim
    | succ n ih =>
      intro v3 v4 H locs ls hw hP hS hl
      rw [lpX10_exceptionsTo_5] at hw
      refine lv_iload hx hb dX10_exceptionsTo_5 (lv_at hl 4 rfl) ?_
      refine lv_aload_n hx hb dX10_exceptionsTo_7 rfl (lv_at hl 0 rfl) ?_
      refine va_get hx hb hts iX10 hown hK hP 0 (mw_q0 am cI cJ cZ σ0) rfl 2 (by decide) f84 (fun _ h9 => h9) rfl dX10_exceptionsTo_8 ?_
      refine lv_icmp_ge (tgt := 68) hx hb dX10_exceptionsTo_11 (by decide) (fun c9 => ?_) (fun c9 => ?_)
      · have hw := hw.1 c9
        refine lv_iload_n hx hb dX10_exceptionsTo_68 rfl (lv_at hl 3 rfl) ?_
        exact wd_iret hx hb hr hlocks ⟨hw, rfl⟩ hP hS dX10_exceptionsTo_69
      · have hw := hw.2 c9
        refine lv_iload_n hx hb dX10_exceptionsTo_14 rfl (lv_at hl 2 rfl) ?_
        refine lv_aload_n hx hb dX10_exceptionsTo_15 rfl (lv_at hl 0 rfl) ?_
        refine va_get hx hb hts iX10 hown hK hP 0 (mw_q0 am cI cJ cZ σ0) rfl 3 (by decide) f13 (fun _ h9 => h9) rfl dX10_exceptionsTo_16 ?_
        refine lv_iload hx hb dX10_exceptionsTo_19 (lv_at hl 4 rfl) ?_
        obtain ⟨h9, hw⟩ := hw
        refine va_iald hx hb hK hP 2 0 (mw_q2 am cI cJ cZ σ0) rfl h9 dX10_exceptionsTo_21 ?_
        refine lv_iconst (v := -1) hx hb dX10_exceptionsTo_22 (by decide) ?_
        refine lv_ixor hx hb dX10_exceptionsTo_23 ?_
        refine lv_iand hx hb dX10_exceptionsTo_24 ?_
        refine lv_if_ne (tgt := 32) hx hb dX10_exceptionsTo_25 (by decide) (fun c9 => ?_) (fun c9 => ?_)
        · have hw := hw.1 c9
          refine lv_iconst (v := 0) hx hb dX10_exceptionsTo_32 (by decide) ?_
          refine lv_istore (lv' := [(5, .int (0 : Int32)), (0, .ref (am 0)), (1, .int u1), (2, .int u2), (3, .int v3), (4, .int v4)]) hx hb dX10_exceptionsTo_33 hl (by decide) rfl (fun ls hl => ?_)
          refine lv_iload_n hx hb dX10_exceptionsTo_35 rfl (lv_at hl 4 rfl) ?_
          refine lv_iload hx hb dX10_exceptionsTo_36 (lv_at hl 0 rfl) ?_
          refine lv_aload_n hx hb dX10_exceptionsTo_38 rfl (lv_at hl 1 rfl) ?_
          refine va_get hx hb hts iX10 hown hK hP 0 (mw_q0 am cI cJ cZ σ0) rfl 4 (by decide) f16 (fun _ h9 => h9) rfl dX10_exceptionsTo_39 ?_
          refine lv_iload hx hb dX10_exceptionsTo_42 (lv_at hl 5 rfl) ?_
          obtain ⟨h9, hw⟩ := hw
          refine va_iald hx hb hK hP 3 0 (mw_q3 am cI cJ cZ σ0) rfl h9 dX10_exceptionsTo_44 ?_
          refine lv_iload_n hx hb dX10_exceptionsTo_45 rfl (lv_at hl 2 rfl) ?_
          refine wd_cSi ⟨hx, hb, hml, hown, hts⟩ (mtX10_has l D am cI cJ cZ A hD σ0 (σ0.2.1 2 v4.toNatClampNeg) u1 _ hw) (va_cwS 2 hts gX10_exceptionsTo_X10_has rfl rfl rfl (by decide +kernel) ⟨(Nat.le_of_ble_eq_true rfl), (Nat.le_of_ble_eq_true rfl)⟩) hK hN hP hS rfl hl.1 rfl (Nat.le_of_ble_eq_true rfl) dX10_exceptionsTo_46 ⟨Nat.zero_le _, Nat.zero_le _⟩ (fun r1 u9 H locs hq hP hS => ?_)
          obtain ⟨hw, hu⟩ := hq
          rw [hu] at hP
          refine lv_icmp_eq (tgt := 59) hx hb dX10_exceptionsTo_49 (by decide) (fun c9 => ?_) (fun c9 => ?_)
          · have hw := hw.1 c9
            refine lv_iconst (v := 0) hx hb dX10_exceptionsTo_59 (by decide) ?_
            refine lv_ior hx hb dX10_exceptionsTo_60 ?_
            refine lv_topi (fun x2 ex2 => ?_)
            have hw := hw x2 ex2
            refine lv_istore_n (lv' := [(3, .int x2), (5, .int (0 : Int32)), (0, .ref (am 0)), (1, .int u1), (2, .int u2), (4, .int v4)]) hx hb dX10_exceptionsTo_61 rfl hl (by decide) rfl (fun ls hl => ?_)
            obtain ⟨x3, ex3⟩ : ∃ z : Int32, z = v4 + (1 : Int32) := ⟨_, rfl⟩
            refine lv_iinc (v := x3) (lv' := [(4, .int x3), (3, .int x2), (5, .int (0 : Int32)), (0, .ref (am 0)), (1, .int u1), (2, .int u2)]) hx hb dX10_exceptionsTo_62 hl (k := 5) rfl (by rw [ex3]; rfl) (by decide) rfl (fun ls hl => ?_)
            have hw := hw x3 ex3
            refine lv_goto (tgt := 5) hx hb dX10_exceptionsTo_65 (by decide) ?_
            exact ih _ _ _ _ _ hw hP hS (lv_sub hl [3, 4, 5, 1, 0] rfl)
          · have hw := hw.2 c9
            refine lv_iconst (v := 1) hx hb dX10_exceptionsTo_52 (by decide) ?_
            refine lv_iload hx hb dX10_exceptionsTo_53 (lv_at hl 5 rfl) ?_
            refine lv_ishl hx hb dX10_exceptionsTo_55 ?_
            refine lv_goto (tgt := 60) hx hb dX10_exceptionsTo_56 (by decide) ?_
            refine lv_ior hx hb dX10_exceptionsTo_60 ?_
            refine lv_topi (fun x4 ex4 => ?_)
            have hw := hw x4 ex4
            refine lv_istore_n (lv' := [(3, .int x4), (5, .int (0 : Int32)), (0, .ref (am 0)), (1, .int u1), (2, .int u2), (4, .int v4)]) hx hb dX10_exceptionsTo_61 rfl hl (by decide) rfl (fun ls hl => ?_)
            obtain ⟨x5, ex5⟩ : ∃ z : Int32, z = v4 + (1 : Int32) := ⟨_, rfl⟩
            refine lv_iinc (v := x5) (lv' := [(4, .int x5), (3, .int x4), (5, .int (0 : Int32)), (0, .ref (am 0)), (1, .int u1), (2, .int u2)]) hx hb dX10_exceptionsTo_62 hl (k := 5) rfl (by rw [ex5]; rfl) (by decide) rfl (fun ls hl => ?_)
            have hw := hw x5 ex5
            refine lv_goto (tgt := 5) hx hb dX10_exceptionsTo_65 (by decide) ?_
            exact ih _ _ _ _ _ hw hP hS (lv_sub hl [3, 4, 5, 1, 0] rfl)
        · have hw := hw.2 c9
          refine lv_iconst (v := 1) hx hb dX10_exceptionsTo_28 (by decide) ?_
          refine lv_goto (tgt := 33) hx hb dX10_exceptionsTo_29 (by decide) ?_
          refine lv_istore (lv' := [(5, .int (1 : Int32)), (0, .ref (am 0)), (1, .int u1), (2, .int u2), (3, .int v3), (4, .int v4)]) hx hb dX10_exceptionsTo_33 hl (by decide) rfl (fun ls hl => ?_)
          refine lv_iload_n hx hb dX10_exceptionsTo_35 rfl (lv_at hl 4 rfl) ?_
          refine lv_iload hx hb dX10_exceptionsTo_36 (lv_at hl 0 rfl) ?_
          refine lv_aload_n hx hb dX10_exceptionsTo_38 rfl (lv_at hl 1 rfl) ?_
          refine va_get hx hb hts iX10 hown hK hP 0 (mw_q0 am cI cJ cZ σ0) rfl 4 (by decide) f16 (fun _ h9 => h9) rfl dX10_exceptionsTo_39 ?_
          refine lv_iload hx hb dX10_exceptionsTo_42 (lv_at hl 5 rfl) ?_
          obtain ⟨h9, hw⟩ := hw
          refine va_iald hx hb hK hP 3 0 (mw_q3 am cI cJ cZ σ0) rfl h9 dX10_exceptionsTo_44 ?_
          refine lv_iload_n hx hb dX10_exceptionsTo_45 rfl (lv_at hl 2 rfl) ?_
          refine wd_cSi ⟨hx, hb, hml, hown, hts⟩ (mtX10_has l D am cI cJ cZ A hD σ0 (σ0.2.1 2 v4.toNatClampNeg) u1 _ hw) (va_cwS 2 hts gX10_exceptionsTo_X10_has rfl rfl rfl (by decide +kernel) ⟨(Nat.le_of_ble_eq_true rfl), (Nat.le_of_ble_eq_true rfl)⟩) hK hN hP hS rfl hl.1 rfl (Nat.le_of_ble_eq_true rfl) dX10_exceptionsTo_46 ⟨Nat.zero_le _, Nat.zero_le _⟩ (fun r6 u9 H locs hq hP hS => ?_)
          obtain ⟨hw, hu⟩ := hq
          rw [hu] at hP
          refine lv_icmp_eq (tgt := 59) hx hb dX10_exceptionsTo_49 (by decide) (fun c9 => ?_) (fun c9 => ?_)
          · have hw := hw.1 c9
            refine lv_iconst (v := 0) hx hb dX10_exceptionsTo_59 (by decide) ?_
            refine lv_ior hx hb dX10_exceptionsTo_60 ?_
            refine lv_topi (fun x7 ex7 => ?_)
            have hw := hw x7 ex7
            refine lv_istore_n (lv' := [(3, .int x7), (5, .int (1 : Int32)), (0, .ref (am 0)), (1, .int u1), (2, .int u2), (4, .int v4)]) hx hb dX10_exceptionsTo_61 rfl hl (by decide) rfl (fun ls hl => ?_)
            obtain ⟨x8, ex8⟩ : ∃ z : Int32, z = v4 + (1 : Int32) := ⟨_, rfl⟩
            refine lv_iinc (v := x8) (lv' := [(4, .int x8), (3, .int x7), (5, .int (1 : Int32)), (0, .ref (am 0)), (1, .int u1), (2, .int u2)]) hx hb dX10_exceptionsTo_62 hl (k := 5) rfl (by rw [ex8]; rfl) (by decide) rfl (fun ls hl => ?_)
            have hw := hw x8 ex8
            refine lv_goto (tgt := 5) hx hb dX10_exceptionsTo_65 (by decide) ?_
            exact ih _ _ _ _ _ hw hP hS (lv_sub hl [3, 4, 5, 1, 0] rfl)
          · have hw := hw.2 c9
            refine lv_iconst (v := 1) hx hb dX10_exceptionsTo_52 (by decide) ?_
            refine lv_iload hx hb dX10_exceptionsTo_53 (lv_at hl 5 rfl) ?_
            refine lv_ishl hx hb dX10_exceptionsTo_55 ?_
            refine lv_goto (tgt := 60) hx hb dX10_exceptionsTo_56 (by decide) ?_
            refine lv_ior hx hb dX10_exceptionsTo_60 ?_
            refine lv_topi (fun x9 ex9 => ?_)
            have hw := hw x9 ex9
            refine lv_istore_n (lv' := [(3, .int x9), (5, .int (1 : Int32)), (0, .ref (am 0)), (1, .int u1), (2, .int u2), (4, .int v4)]) hx hb dX10_exceptionsTo_61 rfl hl (by decide) rfl (fun ls hl => ?_)
            obtain ⟨x10, ex10⟩ : ∃ z : Int32, z = v4 + (1 : Int32) := ⟨_, rfl⟩
            refine lv_iinc (v := x10) (lv' := [(4, .int x10), (3, .int x9), (5, .int (1 : Int32)), (0, .ref (am 0)), (1, .int u1), (2, .int u2)]) hx hb dX10_exceptionsTo_62 hl (k := 5) rfl (by rw [ex10]; rfl) (by decide) rfl (fun ls hl => ?_)
            have hw := hw x10 ex10
            refine lv_goto (tgt := 5) hx hb dX10_exceptionsTo_65 (by decide) ?_
            exact ih _ _ _ _ _ hw hP hS (lv_sub hl [3, 4, 5, 1, 0] rfl)
  have hl := lv_entry ([.ref (am 0), .int a1, .int a2]) (n := 6) (Nat.le_of_ble_eq_true rfl)
  rw [lg_entry_eq]
  generalize (lg_sl ([.ref (am 0), .int a1, .int a2]) ++ List.replicate (6 - (lg_sl ([.ref (am 0), .int a1, .int a2])).length) Slot.unset).toArray = ls at hl ⊢
  have hl : lv_has ls 6 [(0, .ref (am 0)), (1, .int a1), (2, .int a2)] := hl
  unfold wX10_exceptionsTo at hw
  refine lv_iconst (v := 0) hx hb dX10_exceptionsTo_0 (by decide) ?_
  refine lv_istore_n (lv' := [(3, .int (0 : Int32)), (0, .ref (am 0)), (1, .int a1), (2, .int a2)]) hx hb dX10_exceptionsTo_1 rfl hl (by decide) rfl (fun ls hl => ?_)
  refine lv_iconst (v := 0) hx hb dX10_exceptionsTo_2 (by decide) ?_
  refine lv_istore (lv' := [(4, .int (0 : Int32)), (3, .int (0 : Int32)), (0, .ref (am 0)), (1, .int a1), (2, .int a2)]) hx hb dX10_exceptionsTo_3 hl (by decide) rfl (fun ls hl => ?_)
  obtain ⟨n9, hw⟩ := hw
  refine L5 a1 a2 n9 (0 : Int32) (0 : Int32) _ _ _ hw hP hS (lv_sub hl [2, 3, 4, 1, 0] rfl)
def lpX10_marksOf_23 (u1 : Int32) (σ : St) (K84 : Int32 → Prop) : Nat → Int32 → Int32 → Prop
  | 0, _, _ => False
  | n + 1, v2, v3 => ((256 : Int32) ≤ v3 → (K84 v2)) ∧ (¬ (256 : Int32) ≤ v3 → (wX10_exceptionsTo σ u1 v3 (fun (r2 : Int32) => wX10_bits r2 (fun (r3 : Int32) => wX10_exceptionsTo σ u1 v2 (fun (r4 : Int32) => wX10_bits r4 (fun (r5 : Int32) => ∀ x6 : Int32, x6 = (r3 - r5) → ((x6 < 0 → (∀ x7 : Int32, x7 = v3 + (1 : Int32) → (lpX10_marksOf_23 u1 σ K84 n v3 x7))) ∧ (¬ x6 < 0 → ((¬ x6 = 0 → (∀ x8 : Int32, x8 = v3 + (1 : Int32) → (lpX10_marksOf_23 u1 σ K84 n v2 x8))) ∧ (x6 = 0 → (wX10_bits v3 (fun (r9 : Int32) => wX10_bits v2 (fun (r10 : Int32) => (r10 ≤ r9 → (∀ x11 : Int32, x11 = v3 + (1 : Int32) → (lpX10_marksOf_23 u1 σ K84 n v2 x11))) ∧ (¬ r10 ≤ r9 → (∀ x12 : Int32, x12 = v3 + (1 : Int32) → (lpX10_marksOf_23 u1 σ K84 n v3 x12))))))))))))))))
def wX10_marksOf (σ0 : St) (a1 : Int32) (post : Int32 → St → Prop) : Prop := wX10_isRight a1 (fun (r1 : Int32) => (¬ r1 = 0 → ((¬ (σ0.1 1) = 0 → (∃ n17 : Nat, lpX10_marksOf_23 a1 σ0 (fun (y13 : Int32) => wX10_exceptionsTo σ0 a1 y13 (fun (r14 : Int32) => wX10_bits r14 (fun (r15 : Int32) => ∀ σ16 : St, σ16 = st_S σ0 8 r15 → (post y13 σ16)))) n17 (0 : Int32) (1 : Int32))) ∧ ((σ0.1 1) = 0 → (post (-4 : Int32) σ0)))) ∧ (r1 = 0 → (post (-1 : Int32) σ0)))
set_option maxHeartbeats 4000000 in
set_option maxRecDepth 100000 in
theorem mtX10_marksOf (l : Launch) (D : va_G) (am : Nat → Nat) (cI cJ cZ : ClassId) (A : Nat → Prop) (hD : ∀ σ : St, va_D A (mw am cI cJ cZ σ)) (σ0 : St) (a1 : Int32) (post : Int32 → St → Prop) (hw : wX10_marksOf σ0 a1 post) : Met l yX10_marksOf wsX10_marksOf ({ frames := 2, cells := 0, slots := 0, locals := 46 } : Room) (va_Pc [.ref (am 0), .int a1] (wd_pre D (mw am cI cJ cZ) (wd_tys cI cJ cZ) σ0)) (va_Qi post (wd_B D (mw am cI cJ cZ)) A) 0 0 A := by
  refine Met.ofW (cc := cX10_marksOf) (maxL := 5) (ret := (some .int)) (by decide) rfl ?_
  intro p e s m args below meth c s₁ B hml hv
  obtain ⟨rfl, hP, hK, hN⟩ := hv
  have hx := B.exec
  have hb := B.bytes
  have hr := B.returns
  have hts := atoms_spec (ws := wsX10_marksOf) B.pre
  have hown : s.vm.findClass RX10 = some m.cls := findClass_of_methodNamed B.named
  have hlocks := B.notSynchronized
  have hS : va_S A s.heap s.heap [] := va_S.rf
  have f84 := hts (.fieldLink RX10 84 "LeastRightsModel" "people" "I") (by decide +kernel)
  have iX10 : ∀ w ∈ wsX100, w ∈ wsX10_marksOf := by decide +kernel
  have f160 := hts (.fieldLink RX10 160 "LeastRightsModel" "asked" "I") (by decide +kernel)
  have L23 : ∀ (u1 : Int32) (σ : St) (K84 : Int32 → Prop) (_ : ∀ (v2 : Int32) (H : Heap) (locs : List Loc) (ls : Array Slot), K84 v2 → va_P D vwCl (mw am cI cJ cZ σ) H → va_S A s.heap H locs → lv_has ls 5 [(0, .ref (am 0)), (1, .int u1), (2, .int v2)] → W p l e (headSpec wsX10_marksOf ({ frames := 2, cells := 0, slots := 0, locals := 46 } : Room)).room s m ([.ref (am 0), .int a1] : List Value).toArray below meth c H locs 0 0 (MQ below (va_Qi post (wd_B D (mw am cI cJ cZ)) A) ([.ref (am 0), .int a1] : List Value).toArray s 0 0 A) (F0 m 84 ls [])) (n : Nat) (v2 : Int32) (v3 : Int32) (H : Heap) (locs : List Loc) (ls : Array Slot), lpX10_marksOf_23 u1 σ K84 n v2 v3 → va_P D vwCl (mw am cI cJ cZ σ) H → va_S A s.heap H locs → lv_has ls 5 [(0, .ref (am 0)), (1, .int u1), (2, .int v2), (3, .int v3)] → W p l e (headSpec wsX10_marksOf ({ frames := 2, cells := 0, slots := 0, locals := 46 } : Room)).room s m ([.ref (am 0), .int a1] : List Value).toArray below meth c H locs 0 0 (MQ below (va_Qi post (wd_B D (mw am cI cJ cZ)) A) ([.ref (am 0), .int a1] : List Value).toArray s 0 0 A) (F0 m 23 ls []) := by
    intro u1 σ K84 hK84 n
    induction n with
    | zero => intro v2 v3 H locs ls hw; exact hw.elim
    | succ n ih =>
      intro v2 v3 H locs ls hw hP hS hl
      rw [lpX10_marksOf_23] at hw
      refine lv_iload_n hx hb dX10_marksOf_23 rfl (lv_at hl 3 rfl) ?_
      refine lv_sipush (v := 256) hx hb dX10_marksOf_24 (by decide) ?_
      refine lv_icmp_ge (tgt := 84) hx hb dX10_marksOf_27 (by decide) (fun c9 => ?_) (fun c9 => ?_)
      · have hw := hw.1 c9
        exact hK84 _ _ _ _ hw hP hS (lv_sub hl [0, 1, 2] rfl)
      · have hw := hw.2 c9
        refine lv_aload_n hx hb dX10_marksOf_30 rfl (lv_at hl 0 rfl) ?_
        refine lv_iload_n hx hb dX10_marksOf_31 rfl (lv_at hl 1 rfl) ?_
        refine lv_iload_n hx hb dX10_marksOf_32 rfl (lv_at hl 3 rfl) ?_
        refine wd_cVi ⟨hx, hb, hml, hown, hts⟩ (mtX10_exceptionsTo l D am cI cJ cZ A hD σ u1 v3 _ hw) (cwV 2 hts gX10_marksOf_X10_exceptionsTo rfl rfl rfl (by decide +kernel) ⟨(Nat.le_of_ble_eq_true rfl), (Nat.le_of_ble_eq_true rfl)⟩) (va_recv hK hP (ci := 10) (q0 := 0) rfl (mw_q0 am cI cJ cZ σ)) hK hN hP hS rfl hl.1 rfl (Nat.le_of_ble_eq_true rfl) dX10_marksOf_33 ⟨Nat.zero_le _, Nat.zero_le _⟩ (fun r2 u9 H locs hq hP hS => ?_)
        obtain ⟨hw, hu⟩ := hq
        rw [hu] at hP
        refine wd_cSi ⟨hx, hb, hml, hown, hts⟩ (mtX10_bits l D am cI cJ cZ A hD σ r2 _ hw) (va_cwS 1 hts gX10_marksOf_X10_bits rfl rfl rfl (by decide +kernel) ⟨(Nat.le_of_ble_eq_true rfl), (Nat.le_of_ble_eq_true rfl)⟩) hK hN hP hS rfl hl.1 rfl (Nat.le_of_ble_eq_true rfl) dX10_marksOf_36 ⟨Nat.zero_le _, Nat.zero_le _⟩ (fun r3 u9 H locs hq hP hS => ?_)
        obtain ⟨hw, hu⟩ := hq
        rw [hu] at hP
        refine lv_aload_n hx hb dX10_marksOf_39 rfl (lv_at hl 0 rfl) ?_
        refine lv_iload_n hx hb dX10_marksOf_40 rfl (lv_at hl 1 rfl) ?_
        refine lv_iload_n hx hb dX10_marksOf_41 rfl (lv_at hl 2 rfl) ?_
        refine wd_cVi ⟨hx, hb, hml, hown, hts⟩ (mtX10_exceptionsTo l D am cI cJ cZ A hD σ u1 v2 _ hw) (cwV 2 hts gX10_marksOf_X10_exceptionsTo rfl rfl rfl (by decide +kernel) ⟨(Nat.le_of_ble_eq_true rfl), (Nat.le_of_ble_eq_true rfl)⟩) (va_recv hK hP (ci := 10) (q0 := 0) rfl (mw_q0 am cI cJ cZ σ)) hK hN hP hS rfl hl.1 rfl (Nat.le_of_ble_eq_true rfl) dX10_marksOf_42 ⟨Nat.zero_le _, Nat.zero_le _⟩ (fun r4 u9 H locs hq hP hS => ?_)
        obtain ⟨hw, hu⟩ := hq
        rw [hu] at hP
        refine wd_cSi ⟨hx, hb, hml, hown, hts⟩ (mtX10_bits l D am cI cJ cZ A hD σ r4 _ hw) (va_cwS 1 hts gX10_marksOf_X10_bits rfl rfl rfl (by decide +kernel) ⟨(Nat.le_of_ble_eq_true rfl), (Nat.le_of_ble_eq_true rfl)⟩) hK hN hP hS rfl hl.1 rfl (Nat.le_of_ble_eq_true rfl) dX10_marksOf_45 ⟨Nat.zero_le _, Nat.zero_le _⟩ (fun r5 u9 H locs hq hP hS => ?_)
        obtain ⟨hw, hu⟩ := hq
        rw [hu] at hP
        refine lv_isub hx hb dX10_marksOf_48 ?_
        refine lv_topi (fun x6 ex6 => ?_)
        have hw := hw x6 ex6
        refine lv_istore (lv' := [(4, .int x6), (0, .ref (am 0)), (1, .int u1), (2, .int v2), (3, .int v3)]) hx hb dX10_marksOf_49 hl (by decide) rfl (fun ls hl => ?_)
        refine lv_iload hx hb dX10_marksOf_51 (lv_at hl 0 rfl) ?_
        refine lv_if_lt (tgt := 72) hx hb dX10_marksOf_53 (by decide) (fun c9 => ?_) (fun c9 => ?_)
        · have hw := hw.1 c9
          refine lv_iload_n hx hb dX10_marksOf_72 rfl (lv_at hl 4 rfl) ?_
          refine lv_goto (tgt := 77) hx hb dX10_marksOf_73 (by decide) ?_
          refine lv_istore_n (lv' := [(2, .int v3), (4, .int x6), (0, .ref (am 0)), (1, .int u1), (3, .int v3)]) hx hb dX10_marksOf_77 rfl hl (by decide) rfl (fun ls hl => ?_)
          obtain ⟨x7, ex7⟩ : ∃ z : Int32, z = v3 + (1 : Int32) := ⟨_, rfl⟩
          refine lv_iinc (v := x7) (lv' := [(3, .int x7), (2, .int v3), (4, .int x6), (0, .ref (am 0)), (1, .int u1)]) hx hb dX10_marksOf_78 hl (k := 4) rfl (by rw [ex7]; rfl) (by decide) rfl (fun ls hl => ?_)
          have hw := hw x7 ex7
          refine lv_goto (tgt := 23) hx hb dX10_marksOf_81 (by decide) ?_
          exact ih _ _ _ _ _ hw hP hS (lv_sub hl [3, 4, 1, 0] rfl)
        · have hw := hw.2 c9
          refine lv_iload hx hb dX10_marksOf_56 (lv_at hl 0 rfl) ?_
          refine lv_if_ne (tgt := 76) hx hb dX10_marksOf_58 (by decide) (fun c9 => ?_) (fun c9 => ?_)
          · have hw := hw.1 c9
            refine lv_iload_n hx hb dX10_marksOf_76 rfl (lv_at hl 3 rfl) ?_
            refine lv_istore_n (lv' := [(2, .int v2), (4, .int x6), (0, .ref (am 0)), (1, .int u1), (3, .int v3)]) hx hb dX10_marksOf_77 rfl hl (by decide) rfl (fun ls hl => ?_)
            obtain ⟨x8, ex8⟩ : ∃ z : Int32, z = v3 + (1 : Int32) := ⟨_, rfl⟩
            refine lv_iinc (v := x8) (lv' := [(3, .int x8), (2, .int v2), (4, .int x6), (0, .ref (am 0)), (1, .int u1)]) hx hb dX10_marksOf_78 hl (k := 4) rfl (by rw [ex8]; rfl) (by decide) rfl (fun ls hl => ?_)
            have hw := hw x8 ex8
            refine lv_goto (tgt := 23) hx hb dX10_marksOf_81 (by decide) ?_
            exact ih _ _ _ _ _ hw hP hS (lv_sub hl [3, 4, 1, 0] rfl)
          · have hw := hw.2 c9
            refine lv_iload_n hx hb dX10_marksOf_61 rfl (lv_at hl 4 rfl) ?_
            refine wd_cSi ⟨hx, hb, hml, hown, hts⟩ (mtX10_bits l D am cI cJ cZ A hD σ v3 _ hw) (va_cwS 1 hts gX10_marksOf_X10_bits rfl rfl rfl (by decide +kernel) ⟨(Nat.le_of_ble_eq_true rfl), (Nat.le_of_ble_eq_true rfl)⟩) hK hN hP hS rfl hl.1 rfl (Nat.le_of_ble_eq_true rfl) dX10_marksOf_62 ⟨Nat.zero_le _, Nat.zero_le _⟩ (fun r9 u9 H locs hq hP hS => ?_)
            obtain ⟨hw, hu⟩ := hq
            rw [hu] at hP
            refine lv_iload_n hx hb dX10_marksOf_65 rfl (lv_at hl 3 rfl) ?_
            refine wd_cSi ⟨hx, hb, hml, hown, hts⟩ (mtX10_bits l D am cI cJ cZ A hD σ v2 _ hw) (va_cwS 1 hts gX10_marksOf_X10_bits rfl rfl rfl (by decide +kernel) ⟨(Nat.le_of_ble_eq_true rfl), (Nat.le_of_ble_eq_true rfl)⟩) hK hN hP hS rfl hl.1 rfl (Nat.le_of_ble_eq_true rfl) dX10_marksOf_66 ⟨Nat.zero_le _, Nat.zero_le _⟩ (fun r10 u9 H locs hq hP hS => ?_)
            obtain ⟨hw, hu⟩ := hq
            rw [hu] at hP
            refine lv_icmp_ge (tgt := 76) hx hb dX10_marksOf_69 (by decide) (fun c9 => ?_) (fun c9 => ?_)
            · have hw := hw.1 c9
              refine lv_iload_n hx hb dX10_marksOf_76 rfl (lv_at hl 3 rfl) ?_
              refine lv_istore_n (lv' := [(2, .int v2), (4, .int x6), (0, .ref (am 0)), (1, .int u1), (3, .int v3)]) hx hb dX10_marksOf_77 rfl hl (by decide) rfl (fun ls hl => ?_)
              obtain ⟨x11, ex11⟩ : ∃ z : Int32, z = v3 + (1 : Int32) := ⟨_, rfl⟩
              refine lv_iinc (v := x11) (lv' := [(3, .int x11), (2, .int v2), (4, .int x6), (0, .ref (am 0)), (1, .int u1)]) hx hb dX10_marksOf_78 hl (k := 4) rfl (by rw [ex11]; rfl) (by decide) rfl (fun ls hl => ?_)
              have hw := hw x11 ex11
              refine lv_goto (tgt := 23) hx hb dX10_marksOf_81 (by decide) ?_
              exact ih _ _ _ _ _ hw hP hS (lv_sub hl [3, 4, 1, 0] rfl)
            · have hw := hw.2 c9
              refine lv_iload_n hx hb dX10_marksOf_72 rfl (lv_at hl 4 rfl) ?_
              refine lv_goto (tgt := 77) hx hb dX10_marksOf_73 (by decide) ?_
              refine lv_istore_n (lv' := [(2, .int v3), (4, .int x6), (0, .ref (am 0)), (1, .int u1), (3, .int v3)]) hx hb dX10_marksOf_77 rfl hl (by decide) rfl (fun ls hl => ?_)
              obtain ⟨x12, ex12⟩ : ∃ z : Int32, z = v3 + (1 : Int32) := ⟨_, rfl⟩
              refine lv_iinc (v := x12) (lv' := [(3, .int x12), (2, .int v3), (4, .int x6), (0, .ref (am 0)), (1, .int u1)]) hx hb dX10_marksOf_78 hl (k := 4) rfl (by rw [ex12]; rfl) (by decide) rfl (fun ls hl => ?_)
              have hw := hw x12 ex12
              refine lv_goto (tgt := 23) hx hb dX10_marksOf_81 (by decide) ?_
              exact ih _ _ _ _ _ hw hP hS (lv_sub hl [3, 4, 1, 0] rfl)
  have hl := lv_entry ([.ref (am 0), .int a1]) (n := 5) (Nat.le_of_ble_eq_true rfl)
  rw [lg_entry_eq]
  generalize (lg_sl ([.ref (am 0), .int a1]) ++ List.replicate (5 - (lg_sl ([.ref (am 0), .int a1])).length) Slot.unset).toArray = ls at hl ⊢
  have hl : lv_has ls 5 [(0, .ref (am 0)), (1, .int a1)] := hl
  unfold wX10_marksOf at hw
  refine lv_iload_n hx hb dX10_marksOf_0 rfl (lv_at hl 1 rfl) ?_
  refine wd_cSi ⟨hx, hb, hml, hown, hts⟩ (mtX10_isRight l D am cI cJ cZ A hD σ0 a1 _ hw) (va_cwS 1 hts gX10_marksOf_X10_isRight rfl rfl rfl (by decide +kernel) ⟨(Nat.le_of_ble_eq_true rfl), (Nat.le_of_ble_eq_true rfl)⟩) hK hN hP hS rfl hl.1 rfl (Nat.le_of_ble_eq_true rfl) dX10_marksOf_1 ⟨Nat.zero_le _, Nat.zero_le _⟩ (fun r1 u9 H locs hq hP hS => ?_)
  obtain ⟨hw, hu⟩ := hq
  rw [hu] at hP
  refine lv_if_ne (tgt := 9) hx hb dX10_marksOf_4 (by decide) (fun c9 => ?_) (fun c9 => ?_)
  · have hw := hw.1 c9
    refine lv_aload_n hx hb dX10_marksOf_9 rfl (lv_at hl 0 rfl) ?_
    refine va_get hx hb hts iX10 hown hK hP 0 (mw_q0 am cI cJ cZ σ0) rfl 2 (by decide) f84 (fun _ h9 => h9) rfl dX10_marksOf_10 ?_
    refine lv_if_ne (tgt := 19) hx hb dX10_marksOf_13 (by decide) (fun c9 => ?_) (fun c9 => ?_)
    · have hw := hw.1 c9
      refine lv_iconst (v := 0) hx hb dX10_marksOf_19 (by decide) ?_
      refine lv_istore_n (lv' := [(2, .int (0 : Int32)), (0, .ref (am 0)), (1, .int a1)]) hx hb dX10_marksOf_20 rfl hl (by decide) rfl (fun ls hl => ?_)
      refine lv_iconst (v := 1) hx hb dX10_marksOf_21 (by decide) ?_
      refine lv_istore_n (lv' := [(3, .int (1 : Int32)), (2, .int (0 : Int32)), (0, .ref (am 0)), (1, .int a1)]) hx hb dX10_marksOf_22 rfl hl (by decide) rfl (fun ls hl => ?_)
      obtain ⟨n9, hw⟩ := hw
      refine L23 a1 σ0 _ ?_ n9 (0 : Int32) (1 : Int32) _ _ _ hw hP hS (lv_sub hl [2, 3, 1, 0] rfl)
      · intro y13 H locs ls hw hP hS hl
        refine lv_aload_n hx hb dX10_marksOf_84 rfl (lv_at hl 0 rfl) ?_
        refine lv_aload_n hx hb dX10_marksOf_85 rfl (lv_at hl 0 rfl) ?_
        refine lv_iload_n hx hb dX10_marksOf_86 rfl (lv_at hl 1 rfl) ?_
        refine lv_iload_n hx hb dX10_marksOf_87 rfl (lv_at hl 2 rfl) ?_
        refine wd_cVi ⟨hx, hb, hml, hown, hts⟩ (mtX10_exceptionsTo l D am cI cJ cZ A hD σ0 a1 y13 _ hw) (cwV 2 hts gX10_marksOf_X10_exceptionsTo rfl rfl rfl (by decide +kernel) ⟨(Nat.le_of_ble_eq_true rfl), (Nat.le_of_ble_eq_true rfl)⟩) (va_recv hK hP (ci := 10) (q0 := 0) rfl (mw_q0 am cI cJ cZ σ0)) hK hN hP hS rfl hl.1 rfl (Nat.le_of_ble_eq_true rfl) dX10_marksOf_88 ⟨Nat.zero_le _, Nat.zero_le _⟩ (fun r14 u9 H locs hq hP hS => ?_)
        obtain ⟨hw, hu⟩ := hq
        rw [hu] at hP
        refine wd_cSi ⟨hx, hb, hml, hown, hts⟩ (mtX10_bits l D am cI cJ cZ A hD σ0 r14 _ hw) (va_cwS 1 hts gX10_marksOf_X10_bits rfl rfl rfl (by decide +kernel) ⟨(Nat.le_of_ble_eq_true rfl), (Nat.le_of_ble_eq_true rfl)⟩) hK hN hP hS rfl hl.1 rfl (Nat.le_of_ble_eq_true rfl) dX10_marksOf_91 ⟨Nat.zero_le _, Nat.zero_le _⟩ (fun r15 u9 H locs hq hP hS => ?_)
        obtain ⟨hw, hu⟩ := hq
        rw [hu] at hP
        refine wd_put 8 0 16 (ty := .int) tyX10 hx hb hts iX10 tyX10_ok nmX10 hown hK hP hD hS (mw_q0 am cI cJ cZ σ0) rfl (by decide) f160 (fun _ h9 => h9) rfl (by decide +kernel) rfl rfl (Nat.le_of_ble_eq_true rfl) (mw_s8 am cI cJ cZ σ0) dX10_marksOf_94 (fun H locs σ16 eσ16 hP hS => ?_)
        have hw := hw σ16 eσ16
        refine lv_iload_n hx hb dX10_marksOf_97 rfl (lv_at hl 2 rfl) ?_
        exact wd_iret hx hb hr hlocks hw hP hS dX10_marksOf_98
    · have hw := hw.2 c9
      refine lv_bipush (v := -4) hx hb dX10_marksOf_16 (by decide) ?_
      exact wd_iret hx hb hr hlocks hw hP hS dX10_marksOf_18
  · have hw := hw.2 c9
    refine lv_iconst (v := -1) hx hb dX10_marksOf_7 (by decide) ?_
    exact wd_iret hx hb hr hlocks hw hP hS dX10_marksOf_8
def wX10_exceptions (σ0 : St) (a1 : Int32) (a2 : Int32) (post : Int32 → Prop) : Prop := wX10_isRight a1 (fun (r1 : Int32) => (r1 = 0 → (post (-1 : Int32))) ∧ (¬ r1 = 0 → (wX10_in a2 (0 : Int32) (255 : Int32) (fun (r2 : Int32) => (r2 = 0 → (post (-1 : Int32))) ∧ (¬ r2 = 0 → (wX10_exceptionsTo σ0 a1 a2 (fun (r3 : Int32) => post r3)))))))
set_option maxHeartbeats 4000000 in
set_option maxRecDepth 100000 in
theorem mtX10_exceptions (l : Launch) (D : va_G) (am : Nat → Nat) (cI cJ cZ : ClassId) (A : Nat → Prop) (hD : ∀ σ : St, va_D A (mw am cI cJ cZ σ)) (σ0 : St) (a1 : Int32) (a2 : Int32) (post : Int32 → Prop) (hw : wX10_exceptions σ0 a1 a2 post) : Met l yX10_exceptions wsX10_exceptions ({ frames := 2, cells := 0, slots := 0, locals := 46 } : Room) (va_Pc [.ref (am 0), .int a1, .int a2] (wd_pre D (mw am cI cJ cZ) (wd_tys cI cJ cZ) σ0)) (va_Qi (fun (r : Int32) (u : St) => post r ∧ u = σ0) (wd_B D (mw am cI cJ cZ)) A) 0 0 A := by
  refine Met.ofW (cc := cX10_exceptions) (maxL := 3) (ret := (some .int)) (by decide) rfl ?_
  intro p e s m args below meth c s₁ B hml hv
  obtain ⟨rfl, hP, hK, hN⟩ := hv
  have hx := B.exec
  have hb := B.bytes
  have hr := B.returns
  have hts := atoms_spec (ws := wsX10_exceptions) B.pre
  have hown : s.vm.findClass RX10 = some m.cls := findClass_of_methodNamed B.named
  have hlocks := B.notSynchronized
  have hS : va_S A s.heap s.heap [] := va_S.rf
  have hl := lv_entry ([.ref (am 0), .int a1, .int a2]) (n := 3) (Nat.le_of_ble_eq_true rfl)
  rw [lg_entry_eq]
  generalize (lg_sl ([.ref (am 0), .int a1, .int a2]) ++ List.replicate (3 - (lg_sl ([.ref (am 0), .int a1, .int a2])).length) Slot.unset).toArray = ls at hl ⊢
  have hl : lv_has ls 3 [(0, .ref (am 0)), (1, .int a1), (2, .int a2)] := hl
  unfold wX10_exceptions at hw
  refine lv_iload_n hx hb dX10_exceptions_0 rfl (lv_at hl 1 rfl) ?_
  refine wd_cSi ⟨hx, hb, hml, hown, hts⟩ (mtX10_isRight l D am cI cJ cZ A hD σ0 a1 _ hw) (va_cwS 1 hts gX10_exceptions_X10_isRight rfl rfl rfl (by decide +kernel) ⟨(Nat.le_of_ble_eq_true rfl), (Nat.le_of_ble_eq_true rfl)⟩) hK hN hP hS rfl hl.1 rfl (Nat.le_of_ble_eq_true rfl) dX10_exceptions_1 ⟨Nat.zero_le _, Nat.zero_le _⟩ (fun r1 u9 H locs hq hP hS => ?_)
  obtain ⟨hw, hu⟩ := hq
  rw [hu] at hP
  refine lv_if_eq (tgt := 27) hx hb dX10_exceptions_4 (by decide) (fun c9 => ?_) (fun c9 => ?_)
  · have hw := hw.1 c9
    refine lv_iconst (v := -1) hx hb dX10_exceptions_27 (by decide) ?_
    exact wd_iret hx hb hr hlocks ⟨hw, rfl⟩ hP hS dX10_exceptions_28
  · have hw := hw.2 c9
    refine lv_iload_n hx hb dX10_exceptions_7 rfl (lv_at hl 2 rfl) ?_
    refine lv_iconst (v := 0) hx hb dX10_exceptions_8 (by decide) ?_
    refine lv_sipush (v := 255) hx hb dX10_exceptions_9 (by decide) ?_
    refine wd_cSi ⟨hx, hb, hml, hown, hts⟩ (mtX10_in l D am cI cJ cZ A hD σ0 a2 (0 : Int32) (255 : Int32) _ hw) (va_cwS 3 hts gX10_exceptions_X10_in rfl rfl rfl (by decide +kernel) ⟨(Nat.le_of_ble_eq_true rfl), (Nat.le_of_ble_eq_true rfl)⟩) hK hN hP hS rfl hl.1 rfl (Nat.le_of_ble_eq_true rfl) dX10_exceptions_12 ⟨Nat.zero_le _, Nat.zero_le _⟩ (fun r2 u9 H locs hq hP hS => ?_)
    obtain ⟨hw, hu⟩ := hq
    rw [hu] at hP
    refine lv_if_eq (tgt := 27) hx hb dX10_exceptions_15 (by decide) (fun c9 => ?_) (fun c9 => ?_)
    · have hw := hw.1 c9
      refine lv_iconst (v := -1) hx hb dX10_exceptions_27 (by decide) ?_
      exact wd_iret hx hb hr hlocks ⟨hw, rfl⟩ hP hS dX10_exceptions_28
    · have hw := hw.2 c9
      refine lv_aload_n hx hb dX10_exceptions_18 rfl (lv_at hl 0 rfl) ?_
      refine lv_iload_n hx hb dX10_exceptions_19 rfl (lv_at hl 1 rfl) ?_
      refine lv_iload_n hx hb dX10_exceptions_20 rfl (lv_at hl 2 rfl) ?_
      refine wd_cVi ⟨hx, hb, hml, hown, hts⟩ (mtX10_exceptionsTo l D am cI cJ cZ A hD σ0 a1 a2 _ hw) (cwV 2 hts gX10_exceptions_X10_exceptionsTo rfl rfl rfl (by decide +kernel) ⟨(Nat.le_of_ble_eq_true rfl), (Nat.le_of_ble_eq_true rfl)⟩) (va_recv hK hP (ci := 10) (q0 := 0) rfl (mw_q0 am cI cJ cZ σ0)) hK hN hP hS rfl hl.1 rfl (Nat.le_of_ble_eq_true rfl) dX10_exceptions_21 ⟨Nat.zero_le _, Nat.zero_le _⟩ (fun r3 u9 H locs hq hP hS => ?_)
      obtain ⟨hw, hu⟩ := hq
      rw [hu] at hP
      refine lv_goto (tgt := 28) hx hb dX10_exceptions_24 (by decide) ?_
      exact wd_iret hx hb hr hlocks ⟨hw, rfl⟩ hP hS dX10_exceptions_28
def wX10_ban (σ0 : St) (a1 : Int32) (a2 : Int32) (a3 : Int32) (post : Int32 → St → Prop) : Prop := wX10_isRight a1 (fun (r1 : Int32) => (r1 = 0 → (post (-1 : Int32) σ0)) ∧ (¬ r1 = 0 → (wX10_isRight a2 (fun (r2 : Int32) => (r2 = 0 → (post (-1 : Int32) σ0)) ∧ (¬ r2 = 0 → ((¬ a1 = a2 → (vp_in a1 12 ∧ (wX10_has (σ0.2.1 14 a1.toNatClampNeg) a2 (fun (r3 : Int32) => (r3 = 0 → ((a3 = 0 → (vp_in a1 12 ∧ (vp_in a1 12 ∧ (∀ σ4 : St, σ4 = st_A σ0 14 a1.toNatClampNeg ((σ0.2.1 14 a1.toNatClampNeg) &&& (((1 : Int32) <<< (a2 &&& 31)) ^^^ (-1 : Int32))) → ((a3 = 0 → (vp_in a2 12 ∧ (vp_in a2 12 ∧ (∀ σ5 : St, σ5 = st_A σ4 14 a2.toNatClampNeg ((σ4.2.1 14 a2.toNatClampNeg) &&& (((1 : Int32) <<< (a1 &&& 31)) ^^^ (-1 : Int32))) → (post (0 : Int32) σ5))))) ∧ (¬ a3 = 0 → (vp_in a2 12 ∧ (vp_in a2 12 ∧ (∀ σ6 : St, σ6 = st_A σ4 14 a2.toNatClampNeg ((σ4.2.1 14 a2.toNatClampNeg) ||| ((1 : Int32) <<< (a1 &&& 31))) → (post (0 : Int32) σ6)))))))))) ∧ (¬ a3 = 0 → (vp_in a1 12 ∧ (vp_in a1 12 ∧ (∀ σ7 : St, σ7 = st_A σ0 14 a1.toNatClampNeg ((σ0.2.1 14 a1.toNatClampNeg) ||| ((1 : Int32) <<< (a2 &&& 31))) → ((a3 = 0 → (vp_in a2 12 ∧ (vp_in a2 12 ∧ (∀ σ8 : St, σ8 = st_A σ7 14 a2.toNatClampNeg ((σ7.2.1 14 a2.toNatClampNeg) &&& (((1 : Int32) <<< (a1 &&& 31)) ^^^ (-1 : Int32))) → (post (0 : Int32) σ8))))) ∧ (¬ a3 = 0 → (vp_in a2 12 ∧ (vp_in a2 12 ∧ (∀ σ9 : St, σ9 = st_A σ7 14 a2.toNatClampNeg ((σ7.2.1 14 a2.toNatClampNeg) ||| ((1 : Int32) <<< (a1 &&& 31))) → (post (0 : Int32) σ9)))))))))))) ∧ (¬ r3 = 0 → ((a3 = 0 → (vp_in a1 12 ∧ (vp_in a1 12 ∧ (∀ σ10 : St, σ10 = st_A σ0 14 a1.toNatClampNeg ((σ0.2.1 14 a1.toNatClampNeg) &&& (((1 : Int32) <<< (a2 &&& 31)) ^^^ (-1 : Int32))) → ((a3 = 0 → (vp_in a2 12 ∧ (vp_in a2 12 ∧ (∀ σ11 : St, σ11 = st_A σ10 14 a2.toNatClampNeg ((σ10.2.1 14 a2.toNatClampNeg) &&& (((1 : Int32) <<< (a1 &&& 31)) ^^^ (-1 : Int32))) → (post (1 : Int32) σ11))))) ∧ (¬ a3 = 0 → (vp_in a2 12 ∧ (vp_in a2 12 ∧ (∀ σ12 : St, σ12 = st_A σ10 14 a2.toNatClampNeg ((σ10.2.1 14 a2.toNatClampNeg) ||| ((1 : Int32) <<< (a1 &&& 31))) → (post (1 : Int32) σ12)))))))))) ∧ (¬ a3 = 0 → (vp_in a1 12 ∧ (vp_in a1 12 ∧ (∀ σ13 : St, σ13 = st_A σ0 14 a1.toNatClampNeg ((σ0.2.1 14 a1.toNatClampNeg) ||| ((1 : Int32) <<< (a2 &&& 31))) → ((a3 = 0 → (vp_in a2 12 ∧ (vp_in a2 12 ∧ (∀ σ14 : St, σ14 = st_A σ13 14 a2.toNatClampNeg ((σ13.2.1 14 a2.toNatClampNeg) &&& (((1 : Int32) <<< (a1 &&& 31)) ^^^ (-1 : Int32))) → (post (1 : Int32) σ14))))) ∧ (¬ a3 = 0 → (vp_in a2 12 ∧ (vp_in a2 12 ∧ (∀ σ15 : St, σ15 = st_A σ13 14 a2.toNatClampNeg ((σ13.2.1 14 a2.toNatClampNeg) ||| ((1 : Int32) <<< (a1 &&& 31))) → (post (1 : Int32) σ15)))))))))))))))) ∧ (a1 = a2 → (post (-1 : Int32) σ0))))))))
set_option maxHeartbeats 4000000 in
set_option maxRecDepth 100000 in
theorem mtX10_ban (l : Launch) (D : va_G) (am : Nat → Nat) (cI cJ cZ : ClassId) (A : Nat → Prop) (hD : ∀ σ : St, va_D A (mw am cI cJ cZ σ)) (σ0 : St) (a1 : Int32) (a2 : Int32) (a3 : Int32) (post : Int32 → St → Prop) (hw : wX10_ban σ0 a1 a2 a3 post) : Met l yX10_ban wsX10_ban ({ frames := 2, cells := 0, slots := 0, locals := 42 } : Room) (va_Pc [.ref (am 0), .int a1, .int a2, .int a3] (wd_pre D (mw am cI cJ cZ) (wd_tys cI cJ cZ) σ0)) (va_Qi post (wd_B D (mw am cI cJ cZ)) A) 0 0 A := by
  refine Met.ofW (cc := cX10_ban) (maxL := 5) (ret := (some .int)) (by decide) rfl ?_
  intro p e s m args below meth c s₁ B hml hv
  obtain ⟨rfl, hP, hK, hN⟩ := hv
  have hx := B.exec
  have hb := B.bytes
  have hr := B.returns
  have hts := atoms_spec (ws := wsX10_ban) B.pre
  have hown : s.vm.findClass RX10 = some m.cls := findClass_of_methodNamed B.named
  have hlocks := B.notSynchronized
  have hS : va_S A s.heap s.heap [] := va_S.rf
  have f63 := hts (.fieldLink RX10 63 "LeastRightsModel" "banned" "[I") (by decide +kernel)
  have iX10 : ∀ w ∈ wsX100, w ∈ wsX10_ban := by decide +kernel
  have hl := lv_entry ([.ref (am 0), .int a1, .int a2, .int a3]) (n := 5) (Nat.le_of_ble_eq_true rfl)
  rw [lg_entry_eq]
  generalize (lg_sl ([.ref (am 0), .int a1, .int a2, .int a3]) ++ List.replicate (5 - (lg_sl ([.ref (am 0), .int a1, .int a2, .int a3])).length) Slot.unset).toArray = ls at hl ⊢
  have hl : lv_has ls 5 [(0, .ref (am 0)), (1, .int a1), (2, .int a2), (3, .int a3)] := hl
  unfold wX10_ban at hw
  refine lv_iload_n hx hb dX10_ban_0 rfl (lv_at hl 1 rfl) ?_
  refine wd_cSi ⟨hx, hb, hml, hown, hts⟩ (mtX10_isRight l D am cI cJ cZ A hD σ0 a1 _ hw) (va_cwS 1 hts gX10_ban_X10_isRight rfl rfl rfl (by decide +kernel) ⟨(Nat.le_of_ble_eq_true rfl), (Nat.le_of_ble_eq_true rfl)⟩) hK hN hP hS rfl hl.1 rfl (Nat.le_of_ble_eq_true rfl) dX10_ban_1 ⟨Nat.zero_le _, Nat.zero_le _⟩ (fun r1 u9 H locs hq hP hS => ?_)
  obtain ⟨hw, hu⟩ := hq
  rw [hu] at hP
  refine lv_if_eq (tgt := 19) hx hb dX10_ban_4 (by decide) (fun c9 => ?_) (fun c9 => ?_)
  · have hw := hw.1 c9
    refine lv_iconst (v := -1) hx hb dX10_ban_19 (by decide) ?_
    exact wd_iret hx hb hr hlocks hw hP hS dX10_ban_20
  · have hw := hw.2 c9
    refine lv_iload_n hx hb dX10_ban_7 rfl (lv_at hl 2 rfl) ?_
    refine wd_cSi ⟨hx, hb, hml, hown, hts⟩ (mtX10_isRight l D am cI cJ cZ A hD σ0 a2 _ hw) (va_cwS 1 hts gX10_ban_X10_isRight rfl rfl rfl (by decide +kernel) ⟨(Nat.le_of_ble_eq_true rfl), (Nat.le_of_ble_eq_true rfl)⟩) hK hN hP hS rfl hl.1 rfl (Nat.le_of_ble_eq_true rfl) dX10_ban_8 ⟨Nat.zero_le _, Nat.zero_le _⟩ (fun r2 u9 H locs hq hP hS => ?_)
    obtain ⟨hw, hu⟩ := hq
    rw [hu] at hP
    refine lv_if_eq (tgt := 19) hx hb dX10_ban_11 (by decide) (fun c9 => ?_) (fun c9 => ?_)
    · have hw := hw.1 c9
      refine lv_iconst (v := -1) hx hb dX10_ban_19 (by decide) ?_
      exact wd_iret hx hb hr hlocks hw hP hS dX10_ban_20
    · have hw := hw.2 c9
      refine lv_iload_n hx hb dX10_ban_14 rfl (lv_at hl 1 rfl) ?_
      refine lv_iload_n hx hb dX10_ban_15 rfl (lv_at hl 2 rfl) ?_
      refine lv_icmp_ne (tgt := 21) hx hb dX10_ban_16 (by decide) (fun c9 => ?_) (fun c9 => ?_)
      · have hw := hw.1 c9
        refine lv_aload_n hx hb dX10_ban_21 rfl (lv_at hl 0 rfl) ?_
        refine va_get hx hb hts iX10 hown hK hP 0 (mw_q0 am cI cJ cZ σ0) rfl 26 (by decide) f63 (fun _ h9 => h9) rfl dX10_ban_22 ?_
        refine lv_iload_n hx hb dX10_ban_25 rfl (lv_at hl 1 rfl) ?_
        obtain ⟨h9, hw⟩ := hw
        refine va_iald hx hb hK hP 15 0 (mw_q15 am cI cJ cZ σ0) rfl h9 dX10_ban_26 ?_
        refine lv_iload_n hx hb dX10_ban_27 rfl (lv_at hl 2 rfl) ?_
        refine wd_cSi ⟨hx, hb, hml, hown, hts⟩ (mtX10_has l D am cI cJ cZ A hD σ0 (σ0.2.1 14 a1.toNatClampNeg) a2 _ hw) (va_cwS 2 hts gX10_ban_X10_has rfl rfl rfl (by decide +kernel) ⟨(Nat.le_of_ble_eq_true rfl), (Nat.le_of_ble_eq_true rfl)⟩) hK hN hP hS rfl hl.1 rfl (Nat.le_of_ble_eq_true rfl) dX10_ban_28 ⟨Nat.zero_le _, Nat.zero_le _⟩ (fun r3 u9 H locs hq hP hS => ?_)
        obtain ⟨hw, hu⟩ := hq
        rw [hu] at hP
        refine lv_if_eq (tgt := 38) hx hb dX10_ban_31 (by decide) (fun c9 => ?_) (fun c9 => ?_)
        · have hw := hw.1 c9
          refine lv_iconst (v := 0) hx hb dX10_ban_38 (by decide) ?_
          refine lv_istore (lv' := [(4, .int (0 : Int32)), (0, .ref (am 0)), (1, .int a1), (2, .int a2), (3, .int a3)]) hx hb dX10_ban_39 hl (by decide) rfl (fun ls hl => ?_)
          refine lv_aload_n hx hb dX10_ban_41 rfl (lv_at hl 1 rfl) ?_
          refine va_get hx hb hts iX10 hown hK hP 0 (mw_q0 am cI cJ cZ σ0) rfl 26 (by decide) f63 (fun _ h9 => h9) rfl dX10_ban_42 ?_
          refine lv_iload_n hx hb dX10_ban_45 rfl (lv_at hl 2 rfl) ?_
          refine lv_iload_n hx hb dX10_ban_46 rfl (lv_at hl 4 rfl) ?_
          refine lv_if_eq (tgt := 63) hx hb dX10_ban_47 (by decide) (fun c9 => ?_) (fun c9 => ?_)
          · have hw := hw.1 c9
            refine lv_aload_n hx hb dX10_ban_63 rfl (lv_at hl 1 rfl) ?_
            refine va_get hx hb hts iX10 hown hK hP 0 (mw_q0 am cI cJ cZ σ0) rfl 26 (by decide) f63 (fun _ h9 => h9) rfl dX10_ban_64 ?_
            refine lv_iload_n hx hb dX10_ban_67 rfl (lv_at hl 2 rfl) ?_
            obtain ⟨h9, hw⟩ := hw
            refine va_iald hx hb hK hP 15 0 (mw_q15 am cI cJ cZ σ0) rfl h9 dX10_ban_68 ?_
            refine lv_iconst (v := 1) hx hb dX10_ban_69 (by decide) ?_
            refine lv_iload_n hx hb dX10_ban_70 rfl (lv_at hl 3 rfl) ?_
            refine lv_ishl hx hb dX10_ban_71 ?_
            refine lv_iconst (v := -1) hx hb dX10_ban_72 (by decide) ?_
            refine lv_ixor hx hb dX10_ban_73 ?_
            refine lv_iand hx hb dX10_ban_74 ?_
            obtain ⟨h9, hw⟩ := hw
            refine wd_iast 14 15 hx hb hK hP hD hS (mw_q15 am cI cJ cZ σ0) rfl (mw_a14 am cI cJ cZ σ0) h9 dX10_ban_75 (fun H locs σ4 eσ4 hP hS => ?_)
            have hw := hw σ4 eσ4
            refine lv_aload_n hx hb dX10_ban_76 rfl (lv_at hl 1 rfl) ?_
            refine va_get hx hb hts iX10 hown hK hP 0 (mw_q0 am cI cJ cZ σ4) rfl 26 (by decide) f63 (fun _ h9 => h9) rfl dX10_ban_77 ?_
            refine lv_iload_n hx hb dX10_ban_80 rfl (lv_at hl 3 rfl) ?_
            refine lv_iload_n hx hb dX10_ban_81 rfl (lv_at hl 4 rfl) ?_
            refine lv_if_eq (tgt := 98) hx hb dX10_ban_82 (by decide) (fun c9 => ?_) (fun c9 => ?_)
            · have hw := hw.1 c9
              refine lv_aload_n hx hb dX10_ban_98 rfl (lv_at hl 1 rfl) ?_
              refine va_get hx hb hts iX10 hown hK hP 0 (mw_q0 am cI cJ cZ σ4) rfl 26 (by decide) f63 (fun _ h9 => h9) rfl dX10_ban_99 ?_
              refine lv_iload_n hx hb dX10_ban_102 rfl (lv_at hl 3 rfl) ?_
              obtain ⟨h9, hw⟩ := hw
              refine va_iald hx hb hK hP 15 0 (mw_q15 am cI cJ cZ σ4) rfl h9 dX10_ban_103 ?_
              refine lv_iconst (v := 1) hx hb dX10_ban_104 (by decide) ?_
              refine lv_iload_n hx hb dX10_ban_105 rfl (lv_at hl 2 rfl) ?_
              refine lv_ishl hx hb dX10_ban_106 ?_
              refine lv_iconst (v := -1) hx hb dX10_ban_107 (by decide) ?_
              refine lv_ixor hx hb dX10_ban_108 ?_
              refine lv_iand hx hb dX10_ban_109 ?_
              obtain ⟨h9, hw⟩ := hw
              refine wd_iast 14 15 hx hb hK hP hD hS (mw_q15 am cI cJ cZ σ4) rfl (mw_a14 am cI cJ cZ σ4) h9 dX10_ban_110 (fun H locs σ5 eσ5 hP hS => ?_)
              have hw := hw σ5 eσ5
              refine lv_iload hx hb dX10_ban_111 (lv_at hl 0 rfl) ?_
              exact wd_iret hx hb hr hlocks hw hP hS dX10_ban_113
            · have hw := hw.2 c9
              refine lv_aload_n hx hb dX10_ban_85 rfl (lv_at hl 1 rfl) ?_
              refine va_get hx hb hts iX10 hown hK hP 0 (mw_q0 am cI cJ cZ σ4) rfl 26 (by decide) f63 (fun _ h9 => h9) rfl dX10_ban_86 ?_
              refine lv_iload_n hx hb dX10_ban_89 rfl (lv_at hl 3 rfl) ?_
              obtain ⟨h9, hw⟩ := hw
              refine va_iald hx hb hK hP 15 0 (mw_q15 am cI cJ cZ σ4) rfl h9 dX10_ban_90 ?_
              refine lv_iconst (v := 1) hx hb dX10_ban_91 (by decide) ?_
              refine lv_iload_n hx hb dX10_ban_92 rfl (lv_at hl 2 rfl) ?_
              refine lv_ishl hx hb dX10_ban_93 ?_
              refine lv_ior hx hb dX10_ban_94 ?_
              refine lv_goto (tgt := 110) hx hb dX10_ban_95 (by decide) ?_
              obtain ⟨h9, hw⟩ := hw
              refine wd_iast 14 15 hx hb hK hP hD hS (mw_q15 am cI cJ cZ σ4) rfl (mw_a14 am cI cJ cZ σ4) h9 dX10_ban_110 (fun H locs σ6 eσ6 hP hS => ?_)
              have hw := hw σ6 eσ6
              refine lv_iload hx hb dX10_ban_111 (lv_at hl 0 rfl) ?_
              exact wd_iret hx hb hr hlocks hw hP hS dX10_ban_113
          · have hw := hw.2 c9
            refine lv_aload_n hx hb dX10_ban_50 rfl (lv_at hl 1 rfl) ?_
            refine va_get hx hb hts iX10 hown hK hP 0 (mw_q0 am cI cJ cZ σ0) rfl 26 (by decide) f63 (fun _ h9 => h9) rfl dX10_ban_51 ?_
            refine lv_iload_n hx hb dX10_ban_54 rfl (lv_at hl 2 rfl) ?_
            obtain ⟨h9, hw⟩ := hw
            refine va_iald hx hb hK hP 15 0 (mw_q15 am cI cJ cZ σ0) rfl h9 dX10_ban_55 ?_
            refine lv_iconst (v := 1) hx hb dX10_ban_56 (by decide) ?_
            refine lv_iload_n hx hb dX10_ban_57 rfl (lv_at hl 3 rfl) ?_
            refine lv_ishl hx hb dX10_ban_58 ?_
            refine lv_ior hx hb dX10_ban_59 ?_
            refine lv_goto (tgt := 75) hx hb dX10_ban_60 (by decide) ?_
            obtain ⟨h9, hw⟩ := hw
            refine wd_iast 14 15 hx hb hK hP hD hS (mw_q15 am cI cJ cZ σ0) rfl (mw_a14 am cI cJ cZ σ0) h9 dX10_ban_75 (fun H locs σ7 eσ7 hP hS => ?_)
            have hw := hw σ7 eσ7
            refine lv_aload_n hx hb dX10_ban_76 rfl (lv_at hl 1 rfl) ?_
            refine va_get hx hb hts iX10 hown hK hP 0 (mw_q0 am cI cJ cZ σ7) rfl 26 (by decide) f63 (fun _ h9 => h9) rfl dX10_ban_77 ?_
            refine lv_iload_n hx hb dX10_ban_80 rfl (lv_at hl 3 rfl) ?_
            refine lv_iload_n hx hb dX10_ban_81 rfl (lv_at hl 4 rfl) ?_
            refine lv_if_eq (tgt := 98) hx hb dX10_ban_82 (by decide) (fun c9 => ?_) (fun c9 => ?_)
            · have hw := hw.1 c9
              refine lv_aload_n hx hb dX10_ban_98 rfl (lv_at hl 1 rfl) ?_
              refine va_get hx hb hts iX10 hown hK hP 0 (mw_q0 am cI cJ cZ σ7) rfl 26 (by decide) f63 (fun _ h9 => h9) rfl dX10_ban_99 ?_
              refine lv_iload_n hx hb dX10_ban_102 rfl (lv_at hl 3 rfl) ?_
              obtain ⟨h9, hw⟩ := hw
              refine va_iald hx hb hK hP 15 0 (mw_q15 am cI cJ cZ σ7) rfl h9 dX10_ban_103 ?_
              refine lv_iconst (v := 1) hx hb dX10_ban_104 (by decide) ?_
              refine lv_iload_n hx hb dX10_ban_105 rfl (lv_at hl 2 rfl) ?_
              refine lv_ishl hx hb dX10_ban_106 ?_
              refine lv_iconst (v := -1) hx hb dX10_ban_107 (by decide) ?_
              refine lv_ixor hx hb dX10_ban_108 ?_
              refine lv_iand hx hb dX10_ban_109 ?_
              obtain ⟨h9, hw⟩ := hw
              refine wd_iast 14 15 hx hb hK hP hD hS (mw_q15 am cI cJ cZ σ7) rfl (mw_a14 am cI cJ cZ σ7) h9 dX10_ban_110 (fun H locs σ8 eσ8 hP hS => ?_)
              have hw := hw σ8 eσ8
              refine lv_iload hx hb dX10_ban_111 (lv_at hl 0 rfl) ?_
              exact wd_iret hx hb hr hlocks hw hP hS dX10_ban_113
            · have hw := hw.2 c9
              refine lv_aload_n hx hb dX10_ban_85 rfl (lv_at hl 1 rfl) ?_
              refine va_get hx hb hts iX10 hown hK hP 0 (mw_q0 am cI cJ cZ σ7) rfl 26 (by decide) f63 (fun _ h9 => h9) rfl dX10_ban_86 ?_
              refine lv_iload_n hx hb dX10_ban_89 rfl (lv_at hl 3 rfl) ?_
              obtain ⟨h9, hw⟩ := hw
              refine va_iald hx hb hK hP 15 0 (mw_q15 am cI cJ cZ σ7) rfl h9 dX10_ban_90 ?_
              refine lv_iconst (v := 1) hx hb dX10_ban_91 (by decide) ?_
              refine lv_iload_n hx hb dX10_ban_92 rfl (lv_at hl 2 rfl) ?_
              refine lv_ishl hx hb dX10_ban_93 ?_
              refine lv_ior hx hb dX10_ban_94 ?_
              refine lv_goto (tgt := 110) hx hb dX10_ban_95 (by decide) ?_
              obtain ⟨h9, hw⟩ := hw
              refine wd_iast 14 15 hx hb hK hP hD hS (mw_q15 am cI cJ cZ σ7) rfl (mw_a14 am cI cJ cZ σ7) h9 dX10_ban_110 (fun H locs σ9 eσ9 hP hS => ?_)
              have hw := hw σ9 eσ9
              refine lv_iload hx hb dX10_ban_111 (lv_at hl 0 rfl) ?_
              exact wd_iret hx hb hr hlocks hw hP hS dX10_ban_113
        · have hw := hw.2 c9
          refine lv_iconst (v := 1) hx hb dX10_ban_34 (by decide) ?_
          refine lv_goto (tgt := 39) hx hb dX10_ban_35 (by decide) ?_
          refine lv_istore (lv' := [(4, .int (1 : Int32)), (0, .ref (am 0)), (1, .int a1), (2, .int a2), (3, .int a3)]) hx hb dX10_ban_39 hl (by decide) rfl (fun ls hl => ?_)
          refine lv_aload_n hx hb dX10_ban_41 rfl (lv_at hl 1 rfl) ?_
          refine va_get hx hb hts iX10 hown hK hP 0 (mw_q0 am cI cJ cZ σ0) rfl 26 (by decide) f63 (fun _ h9 => h9) rfl dX10_ban_42 ?_
          refine lv_iload_n hx hb dX10_ban_45 rfl (lv_at hl 2 rfl) ?_
          refine lv_iload_n hx hb dX10_ban_46 rfl (lv_at hl 4 rfl) ?_
          refine lv_if_eq (tgt := 63) hx hb dX10_ban_47 (by decide) (fun c9 => ?_) (fun c9 => ?_)
          · have hw := hw.1 c9
            refine lv_aload_n hx hb dX10_ban_63 rfl (lv_at hl 1 rfl) ?_
            refine va_get hx hb hts iX10 hown hK hP 0 (mw_q0 am cI cJ cZ σ0) rfl 26 (by decide) f63 (fun _ h9 => h9) rfl dX10_ban_64 ?_
            refine lv_iload_n hx hb dX10_ban_67 rfl (lv_at hl 2 rfl) ?_
            obtain ⟨h9, hw⟩ := hw
            refine va_iald hx hb hK hP 15 0 (mw_q15 am cI cJ cZ σ0) rfl h9 dX10_ban_68 ?_
            refine lv_iconst (v := 1) hx hb dX10_ban_69 (by decide) ?_
            refine lv_iload_n hx hb dX10_ban_70 rfl (lv_at hl 3 rfl) ?_
            refine lv_ishl hx hb dX10_ban_71 ?_
            refine lv_iconst (v := -1) hx hb dX10_ban_72 (by decide) ?_
            refine lv_ixor hx hb dX10_ban_73 ?_
            refine lv_iand hx hb dX10_ban_74 ?_
            obtain ⟨h9, hw⟩ := hw
            refine wd_iast 14 15 hx hb hK hP hD hS (mw_q15 am cI cJ cZ σ0) rfl (mw_a14 am cI cJ cZ σ0) h9 dX10_ban_75 (fun H locs σ10 eσ10 hP hS => ?_)
            have hw := hw σ10 eσ10
            refine lv_aload_n hx hb dX10_ban_76 rfl (lv_at hl 1 rfl) ?_
            refine va_get hx hb hts iX10 hown hK hP 0 (mw_q0 am cI cJ cZ σ10) rfl 26 (by decide) f63 (fun _ h9 => h9) rfl dX10_ban_77 ?_
            refine lv_iload_n hx hb dX10_ban_80 rfl (lv_at hl 3 rfl) ?_
            refine lv_iload_n hx hb dX10_ban_81 rfl (lv_at hl 4 rfl) ?_
            refine lv_if_eq (tgt := 98) hx hb dX10_ban_82 (by decide) (fun c9 => ?_) (fun c9 => ?_)
            · have hw := hw.1 c9
              refine lv_aload_n hx hb dX10_ban_98 rfl (lv_at hl 1 rfl) ?_
              refine va_get hx hb hts iX10 hown hK hP 0 (mw_q0 am cI cJ cZ σ10) rfl 26 (by decide) f63 (fun _ h9 => h9) rfl dX10_ban_99 ?_
              refine lv_iload_n hx hb dX10_ban_102 rfl (lv_at hl 3 rfl) ?_
              obtain ⟨h9, hw⟩ := hw
              refine va_iald hx hb hK hP 15 0 (mw_q15 am cI cJ cZ σ10) rfl h9 dX10_ban_103 ?_
              refine lv_iconst (v := 1) hx hb dX10_ban_104 (by decide) ?_
              refine lv_iload_n hx hb dX10_ban_105 rfl (lv_at hl 2 rfl) ?_
              refine lv_ishl hx hb dX10_ban_106 ?_
              refine lv_iconst (v := -1) hx hb dX10_ban_107 (by decide) ?_
              refine lv_ixor hx hb dX10_ban_108 ?_
              refine lv_iand hx hb dX10_ban_109 ?_
              obtain ⟨h9, hw⟩ := hw
              refine wd_iast 14 15 hx hb hK hP hD hS (mw_q15 am cI cJ cZ σ10) rfl (mw_a14 am cI cJ cZ σ10) h9 dX10_ban_110 (fun H locs σ11 eσ11 hP hS => ?_)
              have hw := hw σ11 eσ11
              refine lv_iload hx hb dX10_ban_111 (lv_at hl 0 rfl) ?_
              exact wd_iret hx hb hr hlocks hw hP hS dX10_ban_113
            · have hw := hw.2 c9
              refine lv_aload_n hx hb dX10_ban_85 rfl (lv_at hl 1 rfl) ?_
              refine va_get hx hb hts iX10 hown hK hP 0 (mw_q0 am cI cJ cZ σ10) rfl 26 (by decide) f63 (fun _ h9 => h9) rfl dX10_ban_86 ?_
              refine lv_iload_n hx hb dX10_ban_89 rfl (lv_at hl 3 rfl) ?_
              obtain ⟨h9, hw⟩ := hw
              refine va_iald hx hb hK hP 15 0 (mw_q15 am cI cJ cZ σ10) rfl h9 dX10_ban_90 ?_
              refine lv_iconst (v := 1) hx hb dX10_ban_91 (by decide) ?_
              refine lv_iload_n hx hb dX10_ban_92 rfl (lv_at hl 2 rfl) ?_
              refine lv_ishl hx hb dX10_ban_93 ?_
              refine lv_ior hx hb dX10_ban_94 ?_
              refine lv_goto (tgt := 110) hx hb dX10_ban_95 (by decide) ?_
              obtain ⟨h9, hw⟩ := hw
              refine wd_iast 14 15 hx hb hK hP hD hS (mw_q15 am cI cJ cZ σ10) rfl (mw_a14 am cI cJ cZ σ10) h9 dX10_ban_110 (fun H locs σ12 eσ12 hP hS => ?_)
              have hw := hw σ12 eσ12
              refine lv_iload hx hb dX10_ban_111 (lv_at hl 0 rfl) ?_
              exact wd_iret hx hb hr hlocks hw hP hS dX10_ban_113
          · have hw := hw.2 c9
            refine lv_aload_n hx hb dX10_ban_50 rfl (lv_at hl 1 rfl) ?_
            refine va_get hx hb hts iX10 hown hK hP 0 (mw_q0 am cI cJ cZ σ0) rfl 26 (by decide) f63 (fun _ h9 => h9) rfl dX10_ban_51 ?_
            refine lv_iload_n hx hb dX10_ban_54 rfl (lv_at hl 2 rfl) ?_
            obtain ⟨h9, hw⟩ := hw
            refine va_iald hx hb hK hP 15 0 (mw_q15 am cI cJ cZ σ0) rfl h9 dX10_ban_55 ?_
            refine lv_iconst (v := 1) hx hb dX10_ban_56 (by decide) ?_
            refine lv_iload_n hx hb dX10_ban_57 rfl (lv_at hl 3 rfl) ?_
            refine lv_ishl hx hb dX10_ban_58 ?_
            refine lv_ior hx hb dX10_ban_59 ?_
            refine lv_goto (tgt := 75) hx hb dX10_ban_60 (by decide) ?_
            obtain ⟨h9, hw⟩ := hw
            refine wd_iast 14 15 hx hb hK hP hD hS (mw_q15 am cI cJ cZ σ0) rfl (mw_a14 am cI cJ cZ σ0) h9 dX10_ban_75 (fun H locs σ13 eσ13 hP hS => ?_)
            have hw := hw σ13 eσ13
            refine lv_aload_n hx hb dX10_ban_76 rfl (lv_at hl 1 rfl) ?_
            refine va_get hx hb hts iX10 hown hK hP 0 (mw_q0 am cI cJ cZ σ13) rfl 26 (by decide) f63 (fun _ h9 => h9) rfl dX10_ban_77 ?_
            refine lv_iload_n hx hb dX10_ban_80 rfl (lv_at hl 3 rfl) ?_
            refine lv_iload_n hx hb dX10_ban_81 rfl (lv_at hl 4 rfl) ?_
            refine lv_if_eq (tgt := 98) hx hb dX10_ban_82 (by decide) (fun c9 => ?_) (fun c9 => ?_)
            · have hw := hw.1 c9
              refine lv_aload_n hx hb dX10_ban_98 rfl (lv_at hl 1 rfl) ?_
              refine va_get hx hb hts iX10 hown hK hP 0 (mw_q0 am cI cJ cZ σ13) rfl 26 (by decide) f63 (fun _ h9 => h9) rfl dX10_ban_99 ?_
              refine lv_iload_n hx hb dX10_ban_102 rfl (lv_at hl 3 rfl) ?_
              obtain ⟨h9, hw⟩ := hw
              refine va_iald hx hb hK hP 15 0 (mw_q15 am cI cJ cZ σ13) rfl h9 dX10_ban_103 ?_
              refine lv_iconst (v := 1) hx hb dX10_ban_104 (by decide) ?_
              refine lv_iload_n hx hb dX10_ban_105 rfl (lv_at hl 2 rfl) ?_
              refine lv_ishl hx hb dX10_ban_106 ?_
              refine lv_iconst (v := -1) hx hb dX10_ban_107 (by decide) ?_
              refine lv_ixor hx hb dX10_ban_108 ?_
              refine lv_iand hx hb dX10_ban_109 ?_
              obtain ⟨h9, hw⟩ := hw
              refine wd_iast 14 15 hx hb hK hP hD hS (mw_q15 am cI cJ cZ σ13) rfl (mw_a14 am cI cJ cZ σ13) h9 dX10_ban_110 (fun H locs σ14 eσ14 hP hS => ?_)
              have hw := hw σ14 eσ14
              refine lv_iload hx hb dX10_ban_111 (lv_at hl 0 rfl) ?_
              exact wd_iret hx hb hr hlocks hw hP hS dX10_ban_113
            · have hw := hw.2 c9
              refine lv_aload_n hx hb dX10_ban_85 rfl (lv_at hl 1 rfl) ?_
              refine va_get hx hb hts iX10 hown hK hP 0 (mw_q0 am cI cJ cZ σ13) rfl 26 (by decide) f63 (fun _ h9 => h9) rfl dX10_ban_86 ?_
              refine lv_iload_n hx hb dX10_ban_89 rfl (lv_at hl 3 rfl) ?_
              obtain ⟨h9, hw⟩ := hw
              refine va_iald hx hb hK hP 15 0 (mw_q15 am cI cJ cZ σ13) rfl h9 dX10_ban_90 ?_
              refine lv_iconst (v := 1) hx hb dX10_ban_91 (by decide) ?_
              refine lv_iload_n hx hb dX10_ban_92 rfl (lv_at hl 2 rfl) ?_
              refine lv_ishl hx hb dX10_ban_93 ?_
              refine lv_ior hx hb dX10_ban_94 ?_
              refine lv_goto (tgt := 110) hx hb dX10_ban_95 (by decide) ?_
              obtain ⟨h9, hw⟩ := hw
              refine wd_iast 14 15 hx hb hK hP hD hS (mw_q15 am cI cJ cZ σ13) rfl (mw_a14 am cI cJ cZ σ13) h9 dX10_ban_110 (fun H locs σ15 eσ15 hP hS => ?_)
              have hw := hw σ15 eσ15
              refine lv_iload hx hb dX10_ban_111 (lv_at hl 0 rfl) ?_
              exact wd_iret hx hb hr hlocks hw hP hS dX10_ban_113
      · have hw := hw.2 c9
        refine lv_iconst (v := -1) hx hb dX10_ban_19 (by decide) ?_
        exact wd_iret hx hb hr hlocks hw hP hS dX10_ban_20
def lpX10_isBad_4 (u1 : Int32) (σ0 : St) (post : Int32 → Prop) : Nat → Int32 → Int32 → Prop
  | 0, _, _ => False
  | n + 1, v2, v3 => ((12 : Int32) ≤ v3 → ((v2 = 0 ∨ v2 = 1) ∧ post v2)) ∧ (¬ (12 : Int32) ≤ v3 → ((¬ v2 = 0 → (∀ x1 : Int32, x1 = v3 + (1 : Int32) → (lpX10_isBad_4 u1 σ0 post n (1 : Int32) x1))) ∧ (v2 = 0 → (wX10_has u1 v3 (fun (r2 : Int32) => (r2 = 0 → (∀ x3 : Int32, x3 = v3 + (1 : Int32) → (lpX10_isBad_4 u1 σ0 post n (0 : Int32) x3))) ∧ (¬ r2 = 0 → (vp_in v3 12 ∧ ((((σ0.2.1 14 v3.toNatClampNeg) &&& u1) = 0 → (∀ x4 : Int32, x4 = v3 + (1 : Int32) → (lpX10_isBad_4 u1 σ0 post n (0 : Int32) x4))) ∧ (¬ ((σ0.2.1 14 v3.toNatClampNeg) &&& u1) = 0 → (∀ x5 : Int32, x5 = v3 + (1 : Int32) → (lpX10_isBad_4 u1 σ0 post n (1 : Int32) x5)))))))))))
def wX10_isBad (σ0 : St) (a1 : Int32) (post : Int32 → Prop) : Prop := ∃ n6 : Nat, lpX10_isBad_4 a1 σ0 post n6 (0 : Int32) (0 : Int32)
set_option maxHeartbeats 4000000 in
set_option maxRecDepth 100000 in
theorem mtX10_isBad (l : Launch) (D : va_G) (am : Nat → Nat) (cI cJ cZ : ClassId) (A : Nat → Prop) (hD : ∀ σ : St, va_D A (mw am cI cJ cZ σ)) (σ0 : St) (a1 : Int32) (post : Int32 → Prop) (hw : wX10_isBad σ0 a1 post) : Met l yX10_isBad wsX10_isBad ({ frames := 1, cells := 0, slots := 0, locals := 21 } : Room) (va_Pc [.ref (am 0), .int a1] (wd_pre D (mw am cI cJ cZ) (wd_tys cI cJ cZ) σ0)) (va_Qi (fun (r : Int32) (u : St) => post r ∧ u = σ0) (wd_B D (mw am cI cJ cZ)) A) 0 0 A := by
  refine Met.ofW (cc := cX10_isBad) (maxL := 4) (ret := (some .boolean)) (by decide) rfl ?_
  intro p e s m args below meth c s₁ B hml hv
  obtain ⟨rfl, hP, hK, hN⟩ := hv
  have hx := B.exec
  have hb := B.bytes
  have hr := B.returns
  have hts := atoms_spec (ws := wsX10_isBad) B.pre
  have hown : s.vm.findClass RX10 = some m.cls := findClass_of_methodNamed B.named
  have hlocks := B.notSynchronized
  have hS : va_S A s.heap s.heap [] := va_S.rf
  have f63 := hts (.fieldLink RX10 63 "LeastRightsModel" "banned" "[I") (by decide +kernel)
  have iX10 : ∀ w ∈ wsX100, w ∈ wsX10_isBad := by decide +kernel
  have L4 : ∀ (u1 : Int32) (n : Nat) (v2 : Int32) (v3 : Int32) (H : Heap) (locs : List Loc) (ls : Array Slot), lpX10_isBad_4 u1 σ0 post n v2 v3 → va_P D vwCl (mw am cI cJ cZ σ0) H → va_S A s.heap H locs → lv_has ls 4 [(0, .ref (am 0)), (1, .int u1), (2, .int v2), (3, .int v3)] → W p l e (headSpec wsX10_isBad ({ frames := 1, cells := 0, slots := 0, locals := 21 } : Room)).room s m ([.ref (am 0), .int a1] : List Value).toArray below meth c H locs 0 0 (MQ below (va_Qi (fun (r : Int32) (u : St) => post r ∧ u = σ0) (wd_B D (mw am cI cJ cZ)) A) ([.ref (am 0), .int a1] : List Value).toArray s 0 0 A) (F0 m 4 ls []) := by
    intro u1 n
    induction n with
    | zero => intro v2 v3 H locs ls hw; exact hw.elim
    | succ n ih =>
      intro v2 v3 H locs ls hw hP hS hl
      rw [lpX10_isBad_4] at hw
      refine lv_iload_n hx hb dX10_isBad_4 rfl (lv_at hl 3 rfl) ?_
      refine lv_bipush (v := 12) hx hb dX10_isBad_5 (by decide) ?_
      refine lv_icmp_ge (tgt := 45) hx hb dX10_isBad_7 (by decide) (fun c9 => ?_) (fun c9 => ?_)
      · have hw := hw.1 c9
        refine lv_iload_n hx hb dX10_isBad_45 rfl (lv_at hl 2 rfl) ?_
        obtain ⟨h9, hw⟩ := hw
        exact wd_zret hx hb hr hlocks h9 ⟨hw, rfl⟩ hP hS dX10_isBad_46
      · have hw := hw.2 c9
        refine lv_iload_n hx hb dX10_isBad_10 rfl (lv_at hl 2 rfl) ?_
        refine lv_if_ne (tgt := 33) hx hb dX10_isBad_11 (by decide) (fun c9 => ?_) (fun c9 => ?_)
        · have hw := hw.1 c9
          refine lv_iconst (v := 1) hx hb dX10_isBad_33 (by decide) ?_
          refine lv_goto (tgt := 38) hx hb dX10_isBad_34 (by decide) ?_
          refine lv_istore_n (lv' := [(2, .int (1 : Int32)), (0, .ref (am 0)), (1, .int u1), (3, .int v3)]) hx hb dX10_isBad_38 rfl hl (by decide) rfl (fun ls hl => ?_)
          obtain ⟨x1, ex1⟩ : ∃ z : Int32, z = v3 + (1 : Int32) := ⟨_, rfl⟩
          refine lv_iinc (v := x1) (lv' := [(3, .int x1), (2, .int (1 : Int32)), (0, .ref (am 0)), (1, .int u1)]) hx hb dX10_isBad_39 hl (k := 3) rfl (by rw [ex1]; rfl) (by decide) rfl (fun ls hl => ?_)
          have hw := hw x1 ex1
          refine lv_goto (tgt := 4) hx hb dX10_isBad_42 (by decide) ?_
          exact ih _ _ _ _ _ hw hP hS (lv_sub hl [2, 3, 1, 0] rfl)
        · have hw := hw.2 c9
          refine lv_iload_n hx hb dX10_isBad_14 rfl (lv_at hl 1 rfl) ?_
          refine lv_iload_n hx hb dX10_isBad_15 rfl (lv_at hl 3 rfl) ?_
          refine wd_cSi ⟨hx, hb, hml, hown, hts⟩ (mtX10_has l D am cI cJ cZ A hD σ0 u1 v3 _ hw) (va_cwS 2 hts gX10_isBad_X10_has rfl rfl rfl (by decide +kernel) ⟨(Nat.le_of_ble_eq_true rfl), (Nat.le_of_ble_eq_true rfl)⟩) hK hN hP hS rfl hl.1 rfl (Nat.le_of_ble_eq_true rfl) dX10_isBad_16 ⟨Nat.zero_le _, Nat.zero_le _⟩ (fun r2 u9 H locs hq hP hS => ?_)
          obtain ⟨hw, hu⟩ := hq
          rw [hu] at hP
          refine lv_if_eq (tgt := 37) hx hb dX10_isBad_19 (by decide) (fun c9 => ?_) (fun c9 => ?_)
          · have hw := hw.1 c9
            refine lv_iconst (v := 0) hx hb dX10_isBad_37 (by decide) ?_
            refine lv_istore_n (lv' := [(2, .int (0 : Int32)), (0, .ref (am 0)), (1, .int u1), (3, .int v3)]) hx hb dX10_isBad_38 rfl hl (by decide) rfl (fun ls hl => ?_)
            obtain ⟨x3, ex3⟩ : ∃ z : Int32, z = v3 + (1 : Int32) := ⟨_, rfl⟩
            refine lv_iinc (v := x3) (lv' := [(3, .int x3), (2, .int (0 : Int32)), (0, .ref (am 0)), (1, .int u1)]) hx hb dX10_isBad_39 hl (k := 3) rfl (by rw [ex3]; rfl) (by decide) rfl (fun ls hl => ?_)
            have hw := hw x3 ex3
            refine lv_goto (tgt := 4) hx hb dX10_isBad_42 (by decide) ?_
            exact ih _ _ _ _ _ hw hP hS (lv_sub hl [2, 3, 1, 0] rfl)
          · have hw := hw.2 c9
            refine lv_aload_n hx hb dX10_isBad_22 rfl (lv_at hl 0 rfl) ?_
            refine va_get hx hb hts iX10 hown hK hP 0 (mw_q0 am cI cJ cZ σ0) rfl 26 (by decide) f63 (fun _ h9 => h9) rfl dX10_isBad_23 ?_
            refine lv_iload_n hx hb dX10_isBad_26 rfl (lv_at hl 3 rfl) ?_
            obtain ⟨h9, hw⟩ := hw
            refine va_iald hx hb hK hP 15 0 (mw_q15 am cI cJ cZ σ0) rfl h9 dX10_isBad_27 ?_
            refine lv_iload_n hx hb dX10_isBad_28 rfl (lv_at hl 1 rfl) ?_
            refine lv_iand hx hb dX10_isBad_29 ?_
            refine lv_if_eq (tgt := 37) hx hb dX10_isBad_30 (by decide) (fun c9 => ?_) (fun c9 => ?_)
            · have hw := hw.1 c9
              refine lv_iconst (v := 0) hx hb dX10_isBad_37 (by decide) ?_
              refine lv_istore_n (lv' := [(2, .int (0 : Int32)), (0, .ref (am 0)), (1, .int u1), (3, .int v3)]) hx hb dX10_isBad_38 rfl hl (by decide) rfl (fun ls hl => ?_)
              obtain ⟨x4, ex4⟩ : ∃ z : Int32, z = v3 + (1 : Int32) := ⟨_, rfl⟩
              refine lv_iinc (v := x4) (lv' := [(3, .int x4), (2, .int (0 : Int32)), (0, .ref (am 0)), (1, .int u1)]) hx hb dX10_isBad_39 hl (k := 3) rfl (by rw [ex4]; rfl) (by decide) rfl (fun ls hl => ?_)
              have hw := hw x4 ex4
              refine lv_goto (tgt := 4) hx hb dX10_isBad_42 (by decide) ?_
              exact ih _ _ _ _ _ hw hP hS (lv_sub hl [2, 3, 1, 0] rfl)
            · have hw := hw.2 c9
              refine lv_iconst (v := 1) hx hb dX10_isBad_33 (by decide) ?_
              refine lv_goto (tgt := 38) hx hb dX10_isBad_34 (by decide) ?_
              refine lv_istore_n (lv' := [(2, .int (1 : Int32)), (0, .ref (am 0)), (1, .int u1), (3, .int v3)]) hx hb dX10_isBad_38 rfl hl (by decide) rfl (fun ls hl => ?_)
              obtain ⟨x5, ex5⟩ : ∃ z : Int32, z = v3 + (1 : Int32) := ⟨_, rfl⟩
              refine lv_iinc (v := x5) (lv' := [(3, .int x5), (2, .int (1 : Int32)), (0, .ref (am 0)), (1, .int u1)]) hx hb dX10_isBad_39 hl (k := 3) rfl (by rw [ex5]; rfl) (by decide) rfl (fun ls hl => ?_)
              have hw := hw x5 ex5
              refine lv_goto (tgt := 4) hx hb dX10_isBad_42 (by decide) ?_
              exact ih _ _ _ _ _ hw hP hS (lv_sub hl [2, 3, 1, 0] rfl)
  have hl := lv_entry ([.ref (am 0), .int a1]) (n := 4) (Nat.le_of_ble_eq_true rfl)
  rw [lg_entry_eq]
  generalize (lg_sl ([.ref (am 0), .int a1]) ++ List.replicate (4 - (lg_sl ([.ref (am 0), .int a1])).length) Slot.unset).toArray = ls at hl ⊢
  have hl : lv_has ls 4 [(0, .ref (am 0)), (1, .int a1)] := hl
  unfold wX10_isBad at hw
  refine lv_iconst (v := 0) hx hb dX10_isBad_0 (by decide) ?_
  refine lv_istore_n (lv' := [(2, .int (0 : Int32)), (0, .ref (am 0)), (1, .int a1)]) hx hb dX10_isBad_1 rfl hl (by decide) rfl (fun ls hl => ?_)
  refine lv_iconst (v := 0) hx hb dX10_isBad_2 (by decide) ?_
  refine lv_istore_n (lv' := [(3, .int (0 : Int32)), (2, .int (0 : Int32)), (0, .ref (am 0)), (1, .int a1)]) hx hb dX10_isBad_3 rfl hl (by decide) rfl (fun ls hl => ?_)
  obtain ⟨n9, hw⟩ := hw
  refine L4 a1 n9 (0 : Int32) (0 : Int32) _ _ _ hw hP hS (lv_sub hl [2, 3, 1, 0] rfl)
def lpX10_breach_4 (σ0 : St) (post : Int32 → Prop) : Nat → Int32 → Int32 → Prop
  | 0, _, _ => False
  | n + 1, v1, v2 => ((σ0.1 1) ≤ v2 → (post v1)) ∧ (¬ (σ0.1 1) ≤ v2 → (vp_in v2 10 ∧ (wX10_isBad σ0 (σ0.2.1 2 v2.toNatClampNeg) (fun (r1 : Int32) => (r1 = 0 → (∀ x2 : Int32, x2 = (v1 ||| (0 : Int32)) → (∀ x3 : Int32, x3 = v2 + (1 : Int32) → (lpX10_breach_4 σ0 post n x2 x3)))) ∧ (¬ r1 = 0 → (∀ x4 : Int32, x4 = (v1 ||| ((1 : Int32) <<< (v2 &&& 31))) → (∀ x5 : Int32, x5 = v2 + (1 : Int32) → (lpX10_breach_4 σ0 post n x4 x5))))))))
def wX10_breach (σ0 : St) (post : Int32 → Prop) : Prop := ∃ n6 : Nat, lpX10_breach_4 σ0 post n6 (0 : Int32) (0 : Int32)
set_option maxHeartbeats 4000000 in
set_option maxRecDepth 100000 in
theorem mtX10_breach (l : Launch) (D : va_G) (am : Nat → Nat) (cI cJ cZ : ClassId) (A : Nat → Prop) (hD : ∀ σ : St, va_D A (mw am cI cJ cZ σ)) (σ0 : St) (post : Int32 → Prop) (hw : wX10_breach σ0 post) : Met l yX10_breach wsX10_breach ({ frames := 2, cells := 0, slots := 0, locals := 44 } : Room) (va_Pc [.ref (am 0)] (wd_pre D (mw am cI cJ cZ) (wd_tys cI cJ cZ) σ0)) (va_Qi (fun (r : Int32) (u : St) => post r ∧ u = σ0) (wd_B D (mw am cI cJ cZ)) A) 0 0 A := by
  refine Met.ofW (cc := cX10_breach) (maxL := 3) (ret := (some .int)) (by decide) rfl ?_
  intro p e s m args below meth c s₁ B hml hv
  obtain ⟨rfl, hP, hK, hN⟩ := hv
  have hx := B.exec
  have hb := B.bytes
  have hr := B.returns
  have hts := atoms_spec (ws := wsX10_breach) B.pre
  have hown : s.vm.findClass RX10 = some m.cls := findClass_of_methodNamed B.named
  have hlocks := B.notSynchronized
  have hS : va_S A s.heap s.heap [] := va_S.rf
  have f84 := hts (.fieldLink RX10 84 "LeastRightsModel" "people" "I") (by decide +kernel)
  have iX10 : ∀ w ∈ wsX100, w ∈ wsX10_breach := by decide +kernel
  have f16 := hts (.fieldLink RX10 16 "LeastRightsModel" "rights" "[I") (by decide +kernel)
  have L4 : ∀ (n : Nat) (v1 : Int32) (v2 : Int32) (H : Heap) (locs : List Loc) (ls : Array Slot), lpX10_breach_4 σ0 post n v1 v2 → va_P D vwCl (mw am cI cJ cZ σ0) H → va_S A s.heap H locs → lv_has ls 3 [(0, .ref (am 0)), (1, .int v1), (2, .int v2)] → W p l e (headSpec wsX10_breach ({ frames := 2, cells := 0, slots := 0, locals := 44 } : Room)).room s m ([.ref (am 0)] : List Value).toArray below meth c H locs 0 0 (MQ below (va_Qi (fun (r : Int32) (u : St) => post r ∧ u = σ0) (wd_B D (mw am cI cJ cZ)) A) ([.ref (am 0)] : List Value).toArray s 0 0 A) (F0 m 4 ls []) := by
    intro n
    induction n with
    | zero => intro v1 v2 H locs ls hw; exact hw.elim
    | succ n ih =>
      intro v1 v2 H locs ls hw hP hS hl
      rw [lpX10_breach_4] at hw
      refine lv_iload_n hx hb dX10_breach_4 rfl (lv_at hl 2 rfl) ?_
      refine lv_aload_n hx hb dX10_breach_5 rfl (lv_at hl 0 rfl) ?_
      refine va_get hx hb hts iX10 hown hK hP 0 (mw_q0 am cI cJ cZ σ0) rfl 2 (by decide) f84 (fun _ h9 => h9) rfl dX10_breach_6 ?_
      refine lv_icmp_ge (tgt := 41) hx hb dX10_breach_9 (by decide) (fun c9 => ?_) (fun c9 => ?_)
      · have hw := hw.1 c9
        refine lv_iload_n hx hb dX10_breach_41 rfl (lv_at hl 1 rfl) ?_
        exact wd_iret hx hb hr hlocks ⟨hw, rfl⟩ hP hS dX10_breach_42
      · have hw := hw.2 c9
        refine lv_iload_n hx hb dX10_breach_12 rfl (lv_at hl 1 rfl) ?_
        refine lv_aload_n hx hb dX10_breach_13 rfl (lv_at hl 0 rfl) ?_
        refine lv_aload_n hx hb dX10_breach_14 rfl (lv_at hl 0 rfl) ?_
        refine va_get hx hb hts iX10 hown hK hP 0 (mw_q0 am cI cJ cZ σ0) rfl 4 (by decide) f16 (fun _ h9 => h9) rfl dX10_breach_15 ?_
        refine lv_iload_n hx hb dX10_breach_18 rfl (lv_at hl 2 rfl) ?_
        obtain ⟨h9, hw⟩ := hw
        refine va_iald hx hb hK hP 3 0 (mw_q3 am cI cJ cZ σ0) rfl h9 dX10_breach_19 ?_
        refine wd_cVi ⟨hx, hb, hml, hown, hts⟩ (mtX10_isBad l D am cI cJ cZ A hD σ0 (σ0.2.1 2 v2.toNatClampNeg) _ hw) (cwV 1 hts gX10_breach_X10_isBad rfl rfl rfl (by decide +kernel) ⟨(Nat.le_of_ble_eq_true rfl), (Nat.le_of_ble_eq_true rfl)⟩) (va_recv hK hP (ci := 10) (q0 := 0) rfl (mw_q0 am cI cJ cZ σ0)) hK hN hP hS rfl hl.1 rfl (Nat.le_of_ble_eq_true rfl) dX10_breach_20 ⟨Nat.zero_le _, Nat.zero_le _⟩ (fun r1 u9 H locs hq hP hS => ?_)
        obtain ⟨hw, hu⟩ := hq
        rw [hu] at hP
        refine lv_if_eq (tgt := 32) hx hb dX10_breach_23 (by decide) (fun c9 => ?_) (fun c9 => ?_)
        · have hw := hw.1 c9
          refine lv_iconst (v := 0) hx hb dX10_breach_32 (by decide) ?_
          refine lv_ior hx hb dX10_breach_33 ?_
          refine lv_topi (fun x2 ex2 => ?_)
          have hw := hw x2 ex2
          refine lv_istore_n (lv' := [(1, .int x2), (0, .ref (am 0)), (2, .int v2)]) hx hb dX10_breach_34 rfl hl (by decide) rfl (fun ls hl => ?_)
          obtain ⟨x3, ex3⟩ : ∃ z : Int32, z = v2 + (1 : Int32) := ⟨_, rfl⟩
          refine lv_iinc (v := x3) (lv' := [(2, .int x3), (1, .int x2), (0, .ref (am 0))]) hx hb dX10_breach_35 hl (k := 2) rfl (by rw [ex3]; rfl) (by decide) rfl (fun ls hl => ?_)
          have hw := hw x3 ex3
          refine lv_goto (tgt := 4) hx hb dX10_breach_38 (by decide) ?_
          exact ih _ _ _ _ _ hw hP hS (lv_sub hl [2, 1, 0] rfl)
        · have hw := hw.2 c9
          refine lv_iconst (v := 1) hx hb dX10_breach_26 (by decide) ?_
          refine lv_iload_n hx hb dX10_breach_27 rfl (lv_at hl 2 rfl) ?_
          refine lv_ishl hx hb dX10_breach_28 ?_
          refine lv_goto (tgt := 33) hx hb dX10_breach_29 (by decide) ?_
          refine lv_ior hx hb dX10_breach_33 ?_
          refine lv_topi (fun x4 ex4 => ?_)
          have hw := hw x4 ex4
          refine lv_istore_n (lv' := [(1, .int x4), (0, .ref (am 0)), (2, .int v2)]) hx hb dX10_breach_34 rfl hl (by decide) rfl (fun ls hl => ?_)
          obtain ⟨x5, ex5⟩ : ∃ z : Int32, z = v2 + (1 : Int32) := ⟨_, rfl⟩
          refine lv_iinc (v := x5) (lv' := [(2, .int x5), (1, .int x4), (0, .ref (am 0))]) hx hb dX10_breach_35 hl (k := 2) rfl (by rw [ex5]; rfl) (by decide) rfl (fun ls hl => ?_)
          have hw := hw x5 ex5
          refine lv_goto (tgt := 4) hx hb dX10_breach_38 (by decide) ?_
          exact ih _ _ _ _ _ hw hP hS (lv_sub hl [2, 1, 0] rfl)
  have hl := lv_entry ([.ref (am 0)]) (n := 3) (Nat.le_of_ble_eq_true rfl)
  rw [lg_entry_eq]
  generalize (lg_sl ([.ref (am 0)]) ++ List.replicate (3 - (lg_sl ([.ref (am 0)])).length) Slot.unset).toArray = ls at hl ⊢
  have hl : lv_has ls 3 [(0, .ref (am 0))] := hl
  unfold wX10_breach at hw
  refine lv_iconst (v := 0) hx hb dX10_breach_0 (by decide) ?_
  refine lv_istore_n (lv' := [(1, .int (0 : Int32)), (0, .ref (am 0))]) hx hb dX10_breach_1 rfl hl (by decide) rfl (fun ls hl => ?_)
  refine lv_iconst (v := 0) hx hb dX10_breach_2 (by decide) ?_
  refine lv_istore_n (lv' := [(2, .int (0 : Int32)), (1, .int (0 : Int32)), (0, .ref (am 0))]) hx hb dX10_breach_3 rfl hl (by decide) rfl (fun ls hl => ?_)
  obtain ⟨n9, hw⟩ := hw
  refine L4 n9 (0 : Int32) (0 : Int32) _ _ _ hw hP hS (lv_sub hl [2, 1, 0] rfl)
