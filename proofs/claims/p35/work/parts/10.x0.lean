/-! X0_put X0_clashing X1_isNoted X1_note X1_putInOrder X1_gather X2_isWithinLast X2_comesRound X2_isInGrace J6_bitCount_0f7a4 X9_totalOf X3_make X3_drop -/
def wX0_put (σ0 : St) (a1 : Int32) (a2 : Int32) (a3 : Int32) (post : Int32 → St → Prop) : Prop := vp_in a1 12 ∧ (∀ x1 : Int32, x1 = (((σ0.2.1 17 a1.toNatClampNeg) >>> (a2 &&& 31)) &&& (1 : Int32)) → ((a3 = 0 → (vp_in a1 12 ∧ (vp_in a1 12 ∧ (∀ σ2 : St, σ2 = st_A σ0 17 a1.toNatClampNeg ((σ0.2.1 17 a1.toNatClampNeg) &&& (((1 : Int32) <<< (a2 &&& 31)) ^^^ (-1 : Int32))) → (vp_in a2 12 ∧ (vp_in a2 12 ∧ (∀ σ3 : St, σ3 = st_A σ2 17 a2.toNatClampNeg ((σ2.2.1 17 a2.toNatClampNeg) &&& (((1 : Int32) <<< (a1 &&& 31)) ^^^ (-1 : Int32))) → (post x1 σ3)))))))) ∧ (¬ a3 = 0 → (vp_in a1 12 ∧ (vp_in a1 12 ∧ (∀ σ4 : St, σ4 = st_A σ0 17 a1.toNatClampNeg ((σ0.2.1 17 a1.toNatClampNeg) ||| ((1 : Int32) <<< (a2 &&& 31))) → (vp_in a2 12 ∧ (vp_in a2 12 ∧ (∀ σ5 : St, σ5 = st_A σ4 17 a2.toNatClampNeg ((σ4.2.1 17 a2.toNatClampNeg) ||| ((1 : Int32) <<< (a1 &&& 31))) → (post x1 σ5))))))))))
set_option maxHeartbeats 4000000 in
set_option maxRecDepth 100000 in
theorem mtX0_put (l : Launch) (D : va_G) (ad : Nat → Nat) (cI cJ cZ : ClassId) (A : Nat → Prop) (hD : ∀ σ : St, va_D A (xw ad cI cJ cZ σ)) (σ0 : St) (a1 : Int32) (a2 : Int32) (a3 : Int32) (post : Int32 → St → Prop) (hw : wX0_put σ0 a1 a2 a3 post) : Met l yX0_put wsX0_put ({ frames := 0, cells := 0, slots := 0, locals := 0 } : Room) (va_Pc [.ref (ad 6), .int a1, .int a2, .int a3] (wd_pre D (xw ad cI cJ cZ) (wd_tys cI cJ cZ) σ0)) (va_Qi post (wd_B D (xw ad cI cJ cZ)) A) 0 0 A := by
  refine Met.ofW (cc := cX0_put) (maxL := 5) (ret := (some .int)) (by decide) rfl ?_
  intro p e s m args below meth c s₁ B hml hv
  obtain ⟨rfl, hP, hK, hN⟩ := hv
  have hx := B.exec
  have hb := B.bytes
  have hr := B.returns
  have hts := atoms_spec (ws := wsX0_put) B.pre
  have hown : s.vm.findClass RX0 = some m.cls := findClass_of_methodNamed B.named
  have hlocks := B.notSynchronized
  have hS : va_S A s.heap s.heap [] := va_S.rf
  have f9 := hts (.fieldLink RX0 9 "LeastRights$Bans" "with" "[I") (by decide +kernel)
  have iX0 : ∀ w ∈ wsX00, w ∈ wsX0_put := by decide +kernel
  have hl := lv_entry ([.ref (ad 6), .int a1, .int a2, .int a3]) (n := 5) (Nat.le_of_ble_eq_true rfl)
  rw [lg_entry_eq]
  generalize (lg_sl ([.ref (ad 6), .int a1, .int a2, .int a3]) ++ List.replicate (5 - (lg_sl ([.ref (ad 6), .int a1, .int a2, .int a3])).length) Slot.unset).toArray = ls at hl ⊢
  have hl : lv_has ls 5 [(0, .ref (ad 6)), (1, .int a1), (2, .int a2), (3, .int a3)] := hl
  unfold wX0_put at hw
  refine lv_aload_n hx hb dX0_put_0 rfl (lv_at hl 0 rfl) ?_
  refine va_get hx hb hts iX0 hown hK hP 6 (xw_q6 ad cI cJ cZ σ0) rfl 0 (by decide) f9 (fun _ h9 => h9) rfl dX0_put_1 ?_
  refine lv_iload_n hx hb dX0_put_4 rfl (lv_at hl 1 rfl) ?_
  obtain ⟨h9, hw⟩ := hw
  refine va_iald hx hb hK hP 27 0 (xw_q27 ad cI cJ cZ σ0) rfl h9 dX0_put_5 ?_
  refine lv_iload_n hx hb dX0_put_6 rfl (lv_at hl 2 rfl) ?_
  refine lv_ishr hx hb dX0_put_7 ?_
  refine lv_iconst (v := 1) hx hb dX0_put_8 (by decide) ?_
  refine lv_iand hx hb dX0_put_9 ?_
  refine lv_topi (fun x1 ex1 => ?_)
  have hw := hw x1 ex1
  refine lv_istore (lv' := [(4, .int x1), (0, .ref (ad 6)), (1, .int a1), (2, .int a2), (3, .int a3)]) hx hb dX0_put_10 hl (by decide) rfl (fun ls hl => ?_)
  refine lv_iload_n hx hb dX0_put_12 rfl (lv_at hl 4 rfl) ?_
  refine lv_if_eq (tgt := 43) hx hb dX0_put_13 (by decide) (fun c9 => ?_) (fun c9 => ?_)
  · have hw := hw.1 c9
    refine lv_aload_n hx hb dX0_put_43 rfl (lv_at hl 1 rfl) ?_
    refine va_get hx hb hts iX0 hown hK hP 6 (xw_q6 ad cI cJ cZ σ0) rfl 0 (by decide) f9 (fun _ h9 => h9) rfl dX0_put_44 ?_
    refine lv_iload_n hx hb dX0_put_47 rfl (lv_at hl 2 rfl) ?_
    refine lv_dup2_11 hx hb dX0_put_48 rfl rfl ?_
    obtain ⟨h9, hw⟩ := hw
    refine va_iald hx hb hK hP 27 0 (xw_q27 ad cI cJ cZ σ0) rfl h9 dX0_put_49 ?_
    refine lv_iconst (v := 1) hx hb dX0_put_50 (by decide) ?_
    refine lv_iload_n hx hb dX0_put_51 rfl (lv_at hl 3 rfl) ?_
    refine lv_ishl hx hb dX0_put_52 ?_
    refine lv_iconst (v := -1) hx hb dX0_put_53 (by decide) ?_
    refine lv_ixor hx hb dX0_put_54 ?_
    refine lv_iand hx hb dX0_put_55 ?_
    obtain ⟨h9, hw⟩ := hw
    refine wd_iast 17 27 hx hb hK hP hD hS (xw_q27 ad cI cJ cZ σ0) rfl (xw_a17 ad cI cJ cZ σ0) h9 dX0_put_56 (fun H locs σ2 eσ2 hP hS => ?_)
    have hw := hw σ2 eσ2
    refine lv_aload_n hx hb dX0_put_57 rfl (lv_at hl 1 rfl) ?_
    refine va_get hx hb hts iX0 hown hK hP 6 (xw_q6 ad cI cJ cZ σ2) rfl 0 (by decide) f9 (fun _ h9 => h9) rfl dX0_put_58 ?_
    refine lv_iload_n hx hb dX0_put_61 rfl (lv_at hl 3 rfl) ?_
    refine lv_dup2_11 hx hb dX0_put_62 rfl rfl ?_
    obtain ⟨h9, hw⟩ := hw
    refine va_iald hx hb hK hP 27 0 (xw_q27 ad cI cJ cZ σ2) rfl h9 dX0_put_63 ?_
    refine lv_iconst (v := 1) hx hb dX0_put_64 (by decide) ?_
    refine lv_iload_n hx hb dX0_put_65 rfl (lv_at hl 2 rfl) ?_
    refine lv_ishl hx hb dX0_put_66 ?_
    refine lv_iconst (v := -1) hx hb dX0_put_67 (by decide) ?_
    refine lv_ixor hx hb dX0_put_68 ?_
    refine lv_iand hx hb dX0_put_69 ?_
    obtain ⟨h9, hw⟩ := hw
    refine wd_iast 17 27 hx hb hK hP hD hS (xw_q27 ad cI cJ cZ σ2) rfl (xw_a17 ad cI cJ cZ σ2) h9 dX0_put_70 (fun H locs σ3 eσ3 hP hS => ?_)
    have hw := hw σ3 eσ3
    refine lv_iload hx hb dX0_put_71 (lv_at hl 0 rfl) ?_
    exact wd_iret hx hb hr hlocks hw hP hS dX0_put_73
  · have hw := hw.2 c9
    refine lv_aload_n hx hb dX0_put_16 rfl (lv_at hl 1 rfl) ?_
    refine va_get hx hb hts iX0 hown hK hP 6 (xw_q6 ad cI cJ cZ σ0) rfl 0 (by decide) f9 (fun _ h9 => h9) rfl dX0_put_17 ?_
    refine lv_iload_n hx hb dX0_put_20 rfl (lv_at hl 2 rfl) ?_
    refine lv_dup2_11 hx hb dX0_put_21 rfl rfl ?_
    obtain ⟨h9, hw⟩ := hw
    refine va_iald hx hb hK hP 27 0 (xw_q27 ad cI cJ cZ σ0) rfl h9 dX0_put_22 ?_
    refine lv_iconst (v := 1) hx hb dX0_put_23 (by decide) ?_
    refine lv_iload_n hx hb dX0_put_24 rfl (lv_at hl 3 rfl) ?_
    refine lv_ishl hx hb dX0_put_25 ?_
    refine lv_ior hx hb dX0_put_26 ?_
    obtain ⟨h9, hw⟩ := hw
    refine wd_iast 17 27 hx hb hK hP hD hS (xw_q27 ad cI cJ cZ σ0) rfl (xw_a17 ad cI cJ cZ σ0) h9 dX0_put_27 (fun H locs σ4 eσ4 hP hS => ?_)
    have hw := hw σ4 eσ4
    refine lv_aload_n hx hb dX0_put_28 rfl (lv_at hl 1 rfl) ?_
    refine va_get hx hb hts iX0 hown hK hP 6 (xw_q6 ad cI cJ cZ σ4) rfl 0 (by decide) f9 (fun _ h9 => h9) rfl dX0_put_29 ?_
    refine lv_iload_n hx hb dX0_put_32 rfl (lv_at hl 3 rfl) ?_
    refine lv_dup2_11 hx hb dX0_put_33 rfl rfl ?_
    obtain ⟨h9, hw⟩ := hw
    refine va_iald hx hb hK hP 27 0 (xw_q27 ad cI cJ cZ σ4) rfl h9 dX0_put_34 ?_
    refine lv_iconst (v := 1) hx hb dX0_put_35 (by decide) ?_
    refine lv_iload_n hx hb dX0_put_36 rfl (lv_at hl 2 rfl) ?_
    refine lv_ishl hx hb dX0_put_37 ?_
    refine lv_ior hx hb dX0_put_38 ?_
    obtain ⟨h9, hw⟩ := hw
    refine wd_iast 17 27 hx hb hK hP hD hS (xw_q27 ad cI cJ cZ σ4) rfl (xw_a17 ad cI cJ cZ σ4) h9 dX0_put_39 (fun H locs σ5 eσ5 hP hS => ?_)
    have hw := hw σ5 eσ5
    refine lv_goto (tgt := 71) hx hb dX0_put_40 (by decide) ?_
    refine lv_iload hx hb dX0_put_71 (lv_at hl 0 rfl) ?_
    exact wd_iret hx hb hr hlocks hw hP hS dX0_put_73
def lpX0_clashing_4 (u1 : Int32) (σ0 : St) (post : Int32 → Prop) : Nat → Int32 → Int32 → Prop
  | 0, _, _ => False
  | n + 1, v2, v3 => ((12 : Int32) ≤ v3 → (post v2)) ∧ (¬ (12 : Int32) ≤ v3 → (((u1 &&& ((1 : Int32) <<< (v3 &&& 31))) = 0 → (∀ x1 : Int32, x1 = v3 + (1 : Int32) → (lpX0_clashing_4 u1 σ0 post n v2 x1))) ∧ (¬ (u1 &&& ((1 : Int32) <<< (v3 &&& 31))) = 0 → (vp_in v3 12 ∧ (((u1 &&& (σ0.2.1 17 v3.toNatClampNeg)) = 0 → (∀ x2 : Int32, x2 = v3 + (1 : Int32) → (lpX0_clashing_4 u1 σ0 post n v2 x2))) ∧ (¬ (u1 &&& (σ0.2.1 17 v3.toNatClampNeg)) = 0 → (∀ x3 : Int32, x3 = (v2 ||| ((1 : Int32) <<< (v3 &&& 31))) → (∀ x4 : Int32, x4 = v3 + (1 : Int32) → (lpX0_clashing_4 u1 σ0 post n x3 x4)))))))))
def wX0_clashing (σ0 : St) (a1 : Int32) (post : Int32 → Prop) : Prop := ∃ n5 : Nat, lpX0_clashing_4 a1 σ0 post n5 (0 : Int32) (0 : Int32)
set_option maxHeartbeats 4000000 in
set_option maxRecDepth 100000 in
theorem mtX0_clashing (l : Launch) (D : va_G) (ad : Nat → Nat) (cI cJ cZ : ClassId) (A : Nat → Prop) (hD : ∀ σ : St, va_D A (xw ad cI cJ cZ σ)) (σ0 : St) (a1 : Int32) (post : Int32 → Prop) (hw : wX0_clashing σ0 a1 post) : Met l yX0_clashing wsX0_clashing ({ frames := 0, cells := 0, slots := 0, locals := 0 } : Room) (va_Pc [.ref (ad 6), .int a1] (wd_pre D (xw ad cI cJ cZ) (wd_tys cI cJ cZ) σ0)) (va_Qi (fun (r : Int32) (u : St) => post r ∧ u = σ0) (wd_B D (xw ad cI cJ cZ)) A) 0 0 A := by
  refine Met.ofW (cc := cX0_clashing) (maxL := 4) (ret := (some .int)) (by decide) rfl ?_
  intro p e s m args below meth c s₁ B hml hv
  obtain ⟨rfl, hP, hK, hN⟩ := hv
  have hx := B.exec
  have hb := B.bytes
  have hr := B.returns
  have hts := atoms_spec (ws := wsX0_clashing) B.pre
  have hown : s.vm.findClass RX0 = some m.cls := findClass_of_methodNamed B.named
  have hlocks := B.notSynchronized
  have hS : va_S A s.heap s.heap [] := va_S.rf
  have f9 := hts (.fieldLink RX0 9 "LeastRights$Bans" "with" "[I") (by decide +kernel)
  have iX0 : ∀ w ∈ wsX00, w ∈ wsX0_clashing := by decide +kernel
  have L4 : ∀ (u1 : Int32) (n : Nat) (v2 : Int32) (v3 : Int32) (H : Heap) (locs : List Loc) (ls : Array Slot), lpX0_clashing_4 u1 σ0 post n v2 v3 → va_P D vwCl (xw ad cI cJ cZ σ0) H → va_S A s.heap H locs → lv_has ls 4 [(0, .ref (ad 6)), (1, .int u1), (2, .int v2), (3, .int v3)] → W p l e (headSpec wsX0_clashing ({ frames := 0, cells := 0, slots := 0, locals := 0 } : Room)).room s m ([.ref (ad 6), .int a1] : List Value).toArray below meth c H locs 0 0 (MQ below (va_Qi (fun (r : Int32) (u : St) => post r ∧ u = σ0) (wd_B D (xw ad cI cJ cZ)) A) ([.ref (ad 6), .int a1] : List Value).toArray s 0 0 A) (F0 m 4 ls []) := by
    intro u1 n
    induction n with
    | zero => intro v2 v3 H locs ls hw; exact hw.elim
    | succ n ih =>
      intro v2 v3 H locs ls hw hP hS hl
      rw [lpX0_clashing_4] at hw
      refine lv_iload_n hx hb dX0_clashing_4 rfl (lv_at hl 3 rfl) ?_
      refine lv_bipush (v := 12) hx hb dX0_clashing_5 (by decide) ?_
      refine lv_icmp_ge (tgt := 41) hx hb dX0_clashing_7 (by decide) (fun c9 => ?_) (fun c9 => ?_)
      · have hw := hw.1 c9
        refine lv_iload_n hx hb dX0_clashing_41 rfl (lv_at hl 2 rfl) ?_
        exact wd_iret hx hb hr hlocks ⟨hw, rfl⟩ hP hS dX0_clashing_42
      · have hw := hw.2 c9
        refine lv_iload_n hx hb dX0_clashing_10 rfl (lv_at hl 1 rfl) ?_
        refine lv_iconst (v := 1) hx hb dX0_clashing_11 (by decide) ?_
        refine lv_iload_n hx hb dX0_clashing_12 rfl (lv_at hl 3 rfl) ?_
        refine lv_ishl hx hb dX0_clashing_13 ?_
        refine lv_iand hx hb dX0_clashing_14 ?_
        refine lv_if_eq (tgt := 35) hx hb dX0_clashing_15 (by decide) (fun c9 => ?_) (fun c9 => ?_)
        · have hw := hw.1 c9
          obtain ⟨x1, ex1⟩ : ∃ z : Int32, z = v3 + (1 : Int32) := ⟨_, rfl⟩
          refine lv_iinc (v := x1) (lv' := [(3, .int x1), (0, .ref (ad 6)), (1, .int u1), (2, .int v2)]) hx hb dX0_clashing_35 hl (k := 3) rfl (by rw [ex1]; rfl) (by decide) rfl (fun ls hl => ?_)
          have hw := hw x1 ex1
          refine lv_goto (tgt := 4) hx hb dX0_clashing_38 (by decide) ?_
          exact ih _ _ _ _ _ hw hP hS (lv_sub hl [1, 2, 3, 0] rfl)
        · have hw := hw.2 c9
          refine lv_iload_n hx hb dX0_clashing_18 rfl (lv_at hl 1 rfl) ?_
          refine lv_aload_n hx hb dX0_clashing_19 rfl (lv_at hl 0 rfl) ?_
          refine va_get hx hb hts iX0 hown hK hP 6 (xw_q6 ad cI cJ cZ σ0) rfl 0 (by decide) f9 (fun _ h9 => h9) rfl dX0_clashing_20 ?_
          refine lv_iload_n hx hb dX0_clashing_23 rfl (lv_at hl 3 rfl) ?_
          obtain ⟨h9, hw⟩ := hw
          refine va_iald hx hb hK hP 27 0 (xw_q27 ad cI cJ cZ σ0) rfl h9 dX0_clashing_24 ?_
          refine lv_iand hx hb dX0_clashing_25 ?_
          refine lv_if_eq (tgt := 35) hx hb dX0_clashing_26 (by decide) (fun c9 => ?_) (fun c9 => ?_)
          · have hw := hw.1 c9
            obtain ⟨x2, ex2⟩ : ∃ z : Int32, z = v3 + (1 : Int32) := ⟨_, rfl⟩
            refine lv_iinc (v := x2) (lv' := [(3, .int x2), (0, .ref (ad 6)), (1, .int u1), (2, .int v2)]) hx hb dX0_clashing_35 hl (k := 3) rfl (by rw [ex2]; rfl) (by decide) rfl (fun ls hl => ?_)
            have hw := hw x2 ex2
            refine lv_goto (tgt := 4) hx hb dX0_clashing_38 (by decide) ?_
            exact ih _ _ _ _ _ hw hP hS (lv_sub hl [1, 2, 3, 0] rfl)
          · have hw := hw.2 c9
            refine lv_iload_n hx hb dX0_clashing_29 rfl (lv_at hl 2 rfl) ?_
            refine lv_iconst (v := 1) hx hb dX0_clashing_30 (by decide) ?_
            refine lv_iload_n hx hb dX0_clashing_31 rfl (lv_at hl 3 rfl) ?_
            refine lv_ishl hx hb dX0_clashing_32 ?_
            refine lv_ior hx hb dX0_clashing_33 ?_
            refine lv_topi (fun x3 ex3 => ?_)
            have hw := hw x3 ex3
            refine lv_istore_n (lv' := [(2, .int x3), (0, .ref (ad 6)), (1, .int u1), (3, .int v3)]) hx hb dX0_clashing_34 rfl hl (by decide) rfl (fun ls hl => ?_)
            obtain ⟨x4, ex4⟩ : ∃ z : Int32, z = v3 + (1 : Int32) := ⟨_, rfl⟩
            refine lv_iinc (v := x4) (lv' := [(3, .int x4), (2, .int x3), (0, .ref (ad 6)), (1, .int u1)]) hx hb dX0_clashing_35 hl (k := 3) rfl (by rw [ex4]; rfl) (by decide) rfl (fun ls hl => ?_)
            have hw := hw x4 ex4
            refine lv_goto (tgt := 4) hx hb dX0_clashing_38 (by decide) ?_
            exact ih _ _ _ _ _ hw hP hS (lv_sub hl [2, 3, 1, 0] rfl)
  have hl := lv_entry ([.ref (ad 6), .int a1]) (n := 4) (Nat.le_of_ble_eq_true rfl)
  rw [lg_entry_eq]
  generalize (lg_sl ([.ref (ad 6), .int a1]) ++ List.replicate (4 - (lg_sl ([.ref (ad 6), .int a1])).length) Slot.unset).toArray = ls at hl ⊢
  have hl : lv_has ls 4 [(0, .ref (ad 6)), (1, .int a1)] := hl
  unfold wX0_clashing at hw
  refine lv_iconst (v := 0) hx hb dX0_clashing_0 (by decide) ?_
  refine lv_istore_n (lv' := [(2, .int (0 : Int32)), (0, .ref (ad 6)), (1, .int a1)]) hx hb dX0_clashing_1 rfl hl (by decide) rfl (fun ls hl => ?_)
  refine lv_iconst (v := 0) hx hb dX0_clashing_2 (by decide) ?_
  refine lv_istore_n (lv' := [(3, .int (0 : Int32)), (2, .int (0 : Int32)), (0, .ref (ad 6)), (1, .int a1)]) hx hb dX0_clashing_3 rfl hl (by decide) rfl (fun ls hl => ?_)
  obtain ⟨n9, hw⟩ := hw
  refine L4 a1 n9 (0 : Int32) (0 : Int32) _ _ _ hw hP hS (lv_sub hl [2, 3, 1, 0] rfl)
def wX1_isNoted (σ0 : St) (a1 : Int32) (post : Int32 → Prop) : Prop := vp_in (a1 / (64 : Int32)) 64 ∧ (((lg_cmp ((σ0.2.2 10 (a1 / (64 : Int32)).toNatClampNeg) &&& ((1 : Int64) <<< ((a1 - a1 / (64 : Int32) * (64 : Int32)).toInt64 &&& 63))) (0 : Int64)) = 0 → (post (0 : Int32))) ∧ (¬ (lg_cmp ((σ0.2.2 10 (a1 / (64 : Int32)).toNatClampNeg) &&& ((1 : Int64) <<< ((a1 - a1 / (64 : Int32) * (64 : Int32)).toInt64 &&& 63))) (0 : Int64)) = 0 → (post (1 : Int32))))
set_option maxHeartbeats 4000000 in
set_option maxRecDepth 100000 in
theorem mtX1_isNoted (l : Launch) (D : va_G) (ad : Nat → Nat) (cI cJ cZ : ClassId) (A : Nat → Prop) (hD : ∀ σ : St, va_D A (xw ad cI cJ cZ σ)) (σ0 : St) (a1 : Int32) (post : Int32 → Prop) (hw : wX1_isNoted σ0 a1 post) : Met l yX1_isNoted wsX1_isNoted ({ frames := 0, cells := 0, slots := 0, locals := 0 } : Room) (va_Pc [.ref (ad 4), .int a1] (wd_pre D (xw ad cI cJ cZ) (wd_tys cI cJ cZ) σ0)) (va_Qi (fun (r : Int32) (u : St) => post r ∧ u = σ0) (wd_B D (xw ad cI cJ cZ)) A) 0 0 A := by
  refine Met.ofW (cc := cX1_isNoted) (maxL := 2) (ret := (some .boolean)) (by decide) rfl ?_
  intro p e s m args below meth c s₁ B hml hv
  obtain ⟨rfl, hP, hK, hN⟩ := hv
  have hx := B.exec
  have hb := B.bytes
  have hr := B.returns
  have hts := atoms_spec (ws := wsX1_isNoted) B.pre
  have hown : s.vm.findClass RX1 = some m.cls := findClass_of_methodNamed B.named
  have hlocks := B.notSynchronized
  have hS : va_S A s.heap s.heap [] := va_S.rf
  have f19 := hts (.fieldLink RX1 19 "LeastRights$Candidates" "noted" "[J") (by decide +kernel)
  have iX1 : ∀ w ∈ wsX10, w ∈ wsX1_isNoted := by decide +kernel
  have hl := lv_entry ([.ref (ad 4), .int a1]) (n := 2) (Nat.le_of_ble_eq_true rfl)
  rw [lg_entry_eq]
  generalize (lg_sl ([.ref (ad 4), .int a1]) ++ List.replicate (2 - (lg_sl ([.ref (ad 4), .int a1])).length) Slot.unset).toArray = ls at hl ⊢
  have hl : lv_has ls 2 [(0, .ref (ad 4)), (1, .int a1)] := hl
  unfold wX1_isNoted at hw
  refine lv_aload_n hx hb dX1_isNoted_0 rfl (lv_at hl 0 rfl) ?_
  refine va_get hx hb hts iX1 hown hK hP 4 (xw_q4 ad cI cJ cZ σ0) rfl 2 (by decide) f19 (fun _ h9 => h9) rfl dX1_isNoted_1 ?_
  refine lv_iload_n hx hb dX1_isNoted_4 rfl (lv_at hl 1 rfl) ?_
  refine lv_bipush (v := 64) hx hb dX1_isNoted_5 (by decide) ?_
  refine lv_idiv hx hb dX1_isNoted_7 (by decide) ?_
  obtain ⟨h9, hw⟩ := hw
  refine va_lald hx hb hK hP 20 1 (xw_q20 ad cI cJ cZ σ0) rfl h9 dX1_isNoted_8 ?_
  refine lv_lconst (v := 1) hx hb dX1_isNoted_9 (by decide) ?_
  refine lv_iload_n hx hb dX1_isNoted_10 rfl (lv_at hl 1 rfl) ?_
  refine lv_bipush (v := 64) hx hb dX1_isNoted_11 (by decide) ?_
  refine lv_irem hx hb dX1_isNoted_13 (by decide) ?_
  refine lv_lshl hx hb dX1_isNoted_14 rfl ?_
  refine lv_land hx hb dX1_isNoted_15 ?_
  refine lv_lconst (v := 0) hx hb dX1_isNoted_16 (by decide) ?_
  refine W.lcmp hx hb dX1_isNoted_17 ?_
  refine lv_if_eq (tgt := 25) hx hb dX1_isNoted_18 (by decide) (fun c9 => ?_) (fun c9 => ?_)
  · have hw := hw.1 c9
    refine lv_iconst (v := 0) hx hb dX1_isNoted_25 (by decide) ?_
    exact wd_zret hx hb hr hlocks (by decide) ⟨hw, rfl⟩ hP hS dX1_isNoted_26
  · have hw := hw.2 c9
    refine lv_iconst (v := 1) hx hb dX1_isNoted_21 (by decide) ?_
    refine lv_goto (tgt := 26) hx hb dX1_isNoted_22 (by decide) ?_
    exact wd_zret hx hb hr hlocks (by decide) ⟨hw, rfl⟩ hP hS dX1_isNoted_26
def wX1_note (σ0 : St) (a1 : Int32) (post : St → Prop) : Prop := (a1 = 0 → (post σ0)) ∧ (¬ a1 = 0 → (wX1_isNoted σ0 a1 (fun (r1 : Int32) => (¬ r1 = 0 → (post σ0)) ∧ (r1 = 0 → (((σ0.1 8) < (1023 : Int32) → (vp_in (a1 / (64 : Int32)) 64 ∧ (vp_in (a1 / (64 : Int32)) 64 ∧ (∀ σ2 : St, σ2 = st_J σ0 10 (a1 / (64 : Int32)).toNatClampNeg ((σ0.2.2 10 (a1 / (64 : Int32)).toNatClampNeg) ||| ((1 : Int64) <<< ((a1 - a1 / (64 : Int32) * (64 : Int32)).toInt64 &&& 63))) → (vp_in (σ2.1 8) 1023 ∧ (∀ σ3 : St, σ3 = st_A σ2 9 (σ2.1 8).toNatClampNeg a1 → (∀ σ4 : St, σ4 = st_S σ3 8 ((σ3.1 8) + (1 : Int32)) → (post σ4)))))))) ∧ (¬ (σ0.1 8) < (1023 : Int32) → (post σ0)))))))
set_option maxHeartbeats 4000000 in
set_option maxRecDepth 100000 in
theorem mtX1_note (l : Launch) (D : va_G) (ad : Nat → Nat) (cI cJ cZ : ClassId) (A : Nat → Prop) (hD : ∀ σ : St, va_D A (xw ad cI cJ cZ σ)) (σ0 : St) (a1 : Int32) (post : St → Prop) (hw : wX1_note σ0 a1 post) : Met l yX1_note wsX1_note ({ frames := 1, cells := 0, slots := 0, locals := 21 } : Room) (va_Pc [.ref (ad 4), .int a1] (wd_pre D (xw ad cI cJ cZ) (wd_tys cI cJ cZ) σ0)) (va_Qv post (wd_B D (xw ad cI cJ cZ)) A) 0 0 A := by
  refine Met.ofW (cc := cX1_note) (maxL := 2) (ret := none) (by decide) rfl ?_
  intro p e s m args below meth c s₁ B hml hv
  obtain ⟨rfl, hP, hK, hN⟩ := hv
  have hx := B.exec
  have hb := B.bytes
  have hr := B.returns
  have hts := atoms_spec (ws := wsX1_note) B.pre
  have hown : s.vm.findClass RX1 = some m.cls := findClass_of_methodNamed B.named
  have hlocks := B.notSynchronized
  have hS : va_S A s.heap s.heap [] := va_S.rf
  have f9 := hts (.fieldLink RX1 9 "LeastRights$Candidates" "size" "I") (by decide +kernel)
  have iX1 : ∀ w ∈ wsX10, w ∈ wsX1_note := by decide +kernel
  have f15 := hts (.fieldLink RX1 15 "LeastRights$Candidates" "sets" "[I") (by decide +kernel)
  have f19 := hts (.fieldLink RX1 19 "LeastRights$Candidates" "noted" "[J") (by decide +kernel)
  have hl := lv_entry ([.ref (ad 4), .int a1]) (n := 2) (Nat.le_of_ble_eq_true rfl)
  rw [lg_entry_eq]
  generalize (lg_sl ([.ref (ad 4), .int a1]) ++ List.replicate (2 - (lg_sl ([.ref (ad 4), .int a1])).length) Slot.unset).toArray = ls at hl ⊢
  have hl : lv_has ls 2 [(0, .ref (ad 4)), (1, .int a1)] := hl
  unfold wX1_note at hw
  refine lv_iload_n hx hb dX1_note_0 rfl (lv_at hl 1 rfl) ?_
  refine lv_if_eq (tgt := 24) hx hb dX1_note_1 (by decide) (fun c9 => ?_) (fun c9 => ?_)
  · have hw := hw.1 c9
    exact wd_vret hx hb hr hlocks hw hP hS dX1_note_24
  · have hw := hw.2 c9
    refine lv_aload_n hx hb dX1_note_4 rfl (lv_at hl 0 rfl) ?_
    refine lv_iload_n hx hb dX1_note_5 rfl (lv_at hl 1 rfl) ?_
    refine wd_cVi ⟨hx, hb, hml, hown, hts⟩ (mtX1_isNoted l D ad cI cJ cZ A hD σ0 a1 _ hw) (cwV 1 hts gX1_note_X1_isNoted rfl rfl rfl (by decide +kernel) ⟨(Nat.le_of_ble_eq_true rfl), (Nat.le_of_ble_eq_true rfl)⟩) (va_recv hK hP (ci := 1) (q0 := 4) rfl (xw_q4 ad cI cJ cZ σ0)) hK hN hP hS rfl hl.1 rfl (Nat.le_of_ble_eq_true rfl) dX1_note_6 ⟨Nat.zero_le _, Nat.zero_le _⟩ (fun r1 u9 H locs hq hP hS => ?_)
    obtain ⟨hw, hu⟩ := hq
    rw [hu] at hP
    refine lv_if_ne (tgt := 24) hx hb dX1_note_9 (by decide) (fun c9 => ?_) (fun c9 => ?_)
    · have hw := hw.1 c9
      exact wd_vret hx hb hr hlocks hw hP hS dX1_note_24
    · have hw := hw.2 c9
      refine lv_aload_n hx hb dX1_note_12 rfl (lv_at hl 0 rfl) ?_
      refine va_get hx hb hts iX1 hown hK hP 4 (xw_q4 ad cI cJ cZ σ0) rfl 0 (by decide) f9 (fun _ h9 => h9) rfl dX1_note_13 ?_
      refine lv_aload_n hx hb dX1_note_16 rfl (lv_at hl 0 rfl) ?_
      refine va_get hx hb hts iX1 hown hK hP 4 (xw_q4 ad cI cJ cZ σ0) rfl 1 (by decide) f15 (fun _ h9 => h9) rfl dX1_note_17 ?_
      refine va_alen hx hb hK hP 19 0 (xw_q19 ad cI cJ cZ σ0) rfl (v := (1023 : Int32)) rfl dX1_note_20 ?_
      refine lv_icmp_lt (tgt := 25) hx hb dX1_note_21 (by decide) (fun c9 => ?_) (fun c9 => ?_)
      · have hw := hw.1 c9
        refine lv_aload_n hx hb dX1_note_25 rfl (lv_at hl 0 rfl) ?_
        refine va_get hx hb hts iX1 hown hK hP 4 (xw_q4 ad cI cJ cZ σ0) rfl 2 (by decide) f19 (fun _ h9 => h9) rfl dX1_note_26 ?_
        refine lv_iload_n hx hb dX1_note_29 rfl (lv_at hl 1 rfl) ?_
        refine lv_bipush (v := 64) hx hb dX1_note_30 (by decide) ?_
        refine lv_idiv hx hb dX1_note_32 (by decide) ?_
        refine lv_dup2_11 hx hb dX1_note_33 rfl rfl ?_
        obtain ⟨h9, hw⟩ := hw
        refine va_lald hx hb hK hP 20 1 (xw_q20 ad cI cJ cZ σ0) rfl h9 dX1_note_34 ?_
        refine lv_lconst (v := 1) hx hb dX1_note_35 (by decide) ?_
        refine lv_iload_n hx hb dX1_note_36 rfl (lv_at hl 1 rfl) ?_
        refine lv_bipush (v := 64) hx hb dX1_note_37 (by decide) ?_
        refine lv_irem hx hb dX1_note_39 (by decide) ?_
        refine lv_lshl hx hb dX1_note_40 rfl ?_
        refine lv_lor hx hb dX1_note_41 ?_
        obtain ⟨h9, hw⟩ := hw
        refine wd_last 10 20 hx hb hK hP hD hS (xw_q20 ad cI cJ cZ σ0) rfl (xw_a10 ad cI cJ cZ σ0) h9 dX1_note_42 (fun H locs σ2 eσ2 hP hS => ?_)
        have hw := hw σ2 eσ2
        refine lv_aload_n hx hb dX1_note_43 rfl (lv_at hl 0 rfl) ?_
        refine va_get hx hb hts iX1 hown hK hP 4 (xw_q4 ad cI cJ cZ σ2) rfl 1 (by decide) f15 (fun _ h9 => h9) rfl dX1_note_44 ?_
        refine lv_aload_n hx hb dX1_note_47 rfl (lv_at hl 0 rfl) ?_
        refine va_get hx hb hts iX1 hown hK hP 4 (xw_q4 ad cI cJ cZ σ2) rfl 0 (by decide) f9 (fun _ h9 => h9) rfl dX1_note_48 ?_
        refine lv_iload_n hx hb dX1_note_51 rfl (lv_at hl 1 rfl) ?_
        obtain ⟨h9, hw⟩ := hw
        refine wd_iast 9 19 hx hb hK hP hD hS (xw_q19 ad cI cJ cZ σ2) rfl (xw_a9 ad cI cJ cZ σ2) h9 dX1_note_52 (fun H locs σ3 eσ3 hP hS => ?_)
        have hw := hw σ3 eσ3
        refine lv_aload_n hx hb dX1_note_53 rfl (lv_at hl 0 rfl) ?_
        refine lv_dup hx hb dX1_note_54 rfl ?_
        refine va_get hx hb hts iX1 hown hK hP 4 (xw_q4 ad cI cJ cZ σ3) rfl 0 (by decide) f9 (fun _ h9 => h9) rfl dX1_note_55 ?_
        refine lv_iconst (v := 1) hx hb dX1_note_58 (by decide) ?_
        refine lv_iadd hx hb dX1_note_59 ?_
        refine wd_put 8 4 0 (ty := .int) tyX1 hx hb hts iX1 tyX1_ok nmX1 hown hK hP hD hS (xw_q4 ad cI cJ cZ σ3) rfl (by decide) f9 (fun _ h9 => h9) rfl (by decide +kernel) rfl rfl (Nat.le_of_ble_eq_true rfl) (xw_s8 ad cI cJ cZ σ3) dX1_note_60 (fun H locs σ4 eσ4 hP hS => ?_)
        have hw := hw σ4 eσ4
        exact wd_vret hx hb hr hlocks hw hP hS dX1_note_63
      · have hw := hw.2 c9
        exact wd_vret hx hb hr hlocks hw hP hS dX1_note_24
def lpX1_putInOrder_4 (post : St → Prop) : Nat → Int32 → Int32 → St → Prop
  | 0, _, _, _ => False
  | n + 1, v1, v2, σ => ((4096 : Int32) ≤ v2 → (post σ)) ∧ (¬ (4096 : Int32) ≤ v2 → (((σ.1 8) ≤ v1 → (post σ)) ∧ (¬ (σ.1 8) ≤ v1 → (wX1_isNoted σ v2 (fun (r1 : Int32) => (r1 = 0 → (∀ x2 : Int32, x2 = v2 + (1 : Int32) → (lpX1_putInOrder_4 post n v1 x2 σ))) ∧ (¬ r1 = 0 → (vp_in v1 1023 ∧ (∀ σ3 : St, σ3 = st_A σ 9 v1.toNatClampNeg v2 → (∀ x4 : Int32, x4 = v1 + (1 : Int32) → (∀ x5 : Int32, x5 = v2 + (1 : Int32) → (lpX1_putInOrder_4 post n x4 x5 σ3)))))))))))
def wX1_putInOrder (σ0 : St) (post : St → Prop) : Prop := ∃ n6 : Nat, lpX1_putInOrder_4 post n6 (0 : Int32) (1 : Int32) σ0
set_option maxHeartbeats 4000000 in
set_option maxRecDepth 100000 in
theorem mtX1_putInOrder (l : Launch) (D : va_G) (ad : Nat → Nat) (cI cJ cZ : ClassId) (A : Nat → Prop) (hD : ∀ σ : St, va_D A (xw ad cI cJ cZ σ)) (σ0 : St) (post : St → Prop) (hw : wX1_putInOrder σ0 post) : Met l yX1_putInOrder wsX1_putInOrder ({ frames := 1, cells := 0, slots := 0, locals := 21 } : Room) (va_Pc [.ref (ad 4)] (wd_pre D (xw ad cI cJ cZ) (wd_tys cI cJ cZ) σ0)) (va_Qv post (wd_B D (xw ad cI cJ cZ)) A) 0 0 A := by
  refine Met.ofW (cc := cX1_putInOrder) (maxL := 3) (ret := none) (by decide) rfl ?_
  intro p e s m args below meth c s₁ B hml hv
  obtain ⟨rfl, hP, hK, hN⟩ := hv
  have hx := B.exec
  have hb := B.bytes
  have hr := B.returns
  have hts := atoms_spec (ws := wsX1_putInOrder) B.pre
  have hown : s.vm.findClass RX1 = some m.cls := findClass_of_methodNamed B.named
  have hlocks := B.notSynchronized
  have hS : va_S A s.heap s.heap [] := va_S.rf
  have f9 := hts (.fieldLink RX1 9 "LeastRights$Candidates" "size" "I") (by decide +kernel)
  have iX1 : ∀ w ∈ wsX10, w ∈ wsX1_putInOrder := by decide +kernel
  have f15 := hts (.fieldLink RX1 15 "LeastRights$Candidates" "sets" "[I") (by decide +kernel)
  have L4 : ∀ (n : Nat) (v1 : Int32) (v2 : Int32) (σ : St) (H : Heap) (locs : List Loc) (ls : Array Slot), lpX1_putInOrder_4 post n v1 v2 σ → va_P D vwCl (xw ad cI cJ cZ σ) H → va_S A s.heap H locs → lv_has ls 3 [(0, .ref (ad 4)), (1, .int v1), (2, .int v2)] → W p l e (headSpec wsX1_putInOrder ({ frames := 1, cells := 0, slots := 0, locals := 21 } : Room)).room s m ([.ref (ad 4)] : List Value).toArray below meth c H locs 0 0 (MQ below (va_Qv post (wd_B D (xw ad cI cJ cZ)) A) ([.ref (ad 4)] : List Value).toArray s 0 0 A) (F0 m 4 ls []) := by
    intro n
    induction n with
    | zero => intro v1 v2 σ H locs ls hw; exact hw.elim
    | succ n ih =>
      intro v1 v2 σ H locs ls hw hP hS hl
      rw [lpX1_putInOrder_4] at hw
      refine lv_iload_n hx hb dX1_putInOrder_4 rfl (lv_at hl 2 rfl) ?_
      refine lv_sipush (v := 4096) hx hb dX1_putInOrder_5 (by decide) ?_
      refine lv_icmp_ge (tgt := 43) hx hb dX1_putInOrder_8 (by decide) (fun c9 => ?_) (fun c9 => ?_)
      · have hw := hw.1 c9
        exact wd_vret hx hb hr hlocks hw hP hS dX1_putInOrder_43
      · have hw := hw.2 c9
        refine lv_iload_n hx hb dX1_putInOrder_11 rfl (lv_at hl 1 rfl) ?_
        refine lv_aload_n hx hb dX1_putInOrder_12 rfl (lv_at hl 0 rfl) ?_
        refine va_get hx hb hts iX1 hown hK hP 4 (xw_q4 ad cI cJ cZ σ) rfl 0 (by decide) f9 (fun _ h9 => h9) rfl dX1_putInOrder_13 ?_
        refine lv_icmp_ge (tgt := 43) hx hb dX1_putInOrder_16 (by decide) (fun c9 => ?_) (fun c9 => ?_)
        · have hw := hw.1 c9
          exact wd_vret hx hb hr hlocks hw hP hS dX1_putInOrder_43
        · have hw := hw.2 c9
          refine lv_aload_n hx hb dX1_putInOrder_19 rfl (lv_at hl 0 rfl) ?_
          refine lv_iload_n hx hb dX1_putInOrder_20 rfl (lv_at hl 2 rfl) ?_
          refine wd_cVi ⟨hx, hb, hml, hown, hts⟩ (mtX1_isNoted l D ad cI cJ cZ A hD σ v2 _ hw) (cwV 1 hts gX1_putInOrder_X1_isNoted rfl rfl rfl (by decide +kernel) ⟨(Nat.le_of_ble_eq_true rfl), (Nat.le_of_ble_eq_true rfl)⟩) (va_recv hK hP (ci := 1) (q0 := 4) rfl (xw_q4 ad cI cJ cZ σ)) hK hN hP hS rfl hl.1 rfl (Nat.le_of_ble_eq_true rfl) dX1_putInOrder_21 ⟨Nat.zero_le _, Nat.zero_le _⟩ (fun r1 u9 H locs hq hP hS => ?_)
          obtain ⟨hw, hu⟩ := hq
          rw [hu] at hP
          refine lv_if_eq (tgt := 37) hx hb dX1_putInOrder_24 (by decide) (fun c9 => ?_) (fun c9 => ?_)
          · have hw := hw.1 c9
            obtain ⟨x2, ex2⟩ : ∃ z : Int32, z = v2 + (1 : Int32) := ⟨_, rfl⟩
            refine lv_iinc (v := x2) (lv' := [(2, .int x2), (0, .ref (ad 4)), (1, .int v1)]) hx hb dX1_putInOrder_37 hl (k := 2) rfl (by rw [ex2]; rfl) (by decide) rfl (fun ls hl => ?_)
            have hw := hw x2 ex2
            refine lv_goto (tgt := 4) hx hb dX1_putInOrder_40 (by decide) ?_
            exact ih _ _ _ _ _ _ hw hP hS (lv_sub hl [1, 2, 0] rfl)
          · have hw := hw.2 c9
            refine lv_aload_n hx hb dX1_putInOrder_27 rfl (lv_at hl 0 rfl) ?_
            refine va_get hx hb hts iX1 hown hK hP 4 (xw_q4 ad cI cJ cZ σ) rfl 1 (by decide) f15 (fun _ h9 => h9) rfl dX1_putInOrder_28 ?_
            refine lv_iload_n hx hb dX1_putInOrder_31 rfl (lv_at hl 1 rfl) ?_
            refine lv_iload_n hx hb dX1_putInOrder_32 rfl (lv_at hl 2 rfl) ?_
            obtain ⟨h9, hw⟩ := hw
            refine wd_iast 9 19 hx hb hK hP hD hS (xw_q19 ad cI cJ cZ σ) rfl (xw_a9 ad cI cJ cZ σ) h9 dX1_putInOrder_33 (fun H locs σ3 eσ3 hP hS => ?_)
            have hw := hw σ3 eσ3
            obtain ⟨x4, ex4⟩ : ∃ z : Int32, z = v1 + (1 : Int32) := ⟨_, rfl⟩
            refine lv_iinc (v := x4) (lv' := [(1, .int x4), (0, .ref (ad 4)), (2, .int v2)]) hx hb dX1_putInOrder_34 hl (k := 1) rfl (by rw [ex4]; rfl) (by decide) rfl (fun ls hl => ?_)
            have hw := hw x4 ex4
            obtain ⟨x5, ex5⟩ : ∃ z : Int32, z = v2 + (1 : Int32) := ⟨_, rfl⟩
            refine lv_iinc (v := x5) (lv' := [(2, .int x5), (1, .int x4), (0, .ref (ad 4))]) hx hb dX1_putInOrder_37 hl (k := 2) rfl (by rw [ex5]; rfl) (by decide) rfl (fun ls hl => ?_)
            have hw := hw x5 ex5
            refine lv_goto (tgt := 4) hx hb dX1_putInOrder_40 (by decide) ?_
            exact ih _ _ _ _ _ _ hw hP hS (lv_sub hl [2, 1, 0] rfl)
  have hl := lv_entry ([.ref (ad 4)]) (n := 3) (Nat.le_of_ble_eq_true rfl)
  rw [lg_entry_eq]
  generalize (lg_sl ([.ref (ad 4)]) ++ List.replicate (3 - (lg_sl ([.ref (ad 4)])).length) Slot.unset).toArray = ls at hl ⊢
  have hl : lv_has ls 3 [(0, .ref (ad 4))] := hl
  unfold wX1_putInOrder at hw
  refine lv_iconst (v := 0) hx hb dX1_putInOrder_0 (by decide) ?_
  refine lv_istore_n (lv' := [(1, .int (0 : Int32)), (0, .ref (ad 4))]) hx hb dX1_putInOrder_1 rfl hl (by decide) rfl (fun ls hl => ?_)
  refine lv_iconst (v := 1) hx hb dX1_putInOrder_2 (by decide) ?_
  refine lv_istore_n (lv' := [(2, .int (1 : Int32)), (1, .int (0 : Int32)), (0, .ref (ad 4))]) hx hb dX1_putInOrder_3 rfl hl (by decide) rfl (fun ls hl => ?_)
  obtain ⟨n9, hw⟩ := hw
  refine L4 n9 (0 : Int32) (1 : Int32) σ0 _ _ _ hw hP hS (lv_sub hl [2, 1, 0] rfl)
def lpX1_gather_2 (u2 : Int32) (K24 : St → Prop) : Nat → Int32 → St → Prop
  | 0, _, _ => False
  | n + 1, v3, σ => ((64 : Int32) ≤ v3 → (K24 σ)) ∧ (¬ (64 : Int32) ≤ v3 → (vp_in v3 64 ∧ (∀ σ1 : St, σ1 = st_J σ 10 v3.toNatClampNeg (0 : Int64) → (∀ x2 : Int32, x2 = v3 + (1 : Int32) → (lpX1_gather_2 u2 K24 n x2 σ1)))))
def lpX1_gather_45 (u2 : Int32) (u3 : Int32) (u4 : Int32) (K73 : St → Prop) : Nat → Int32 → St → Prop
  | 0, _, _ => False
  | n + 1, v5, σ => (u4 ≤ v5 → (K73 σ)) ∧ (¬ u4 ≤ v5 → (vp_in v5 1023 ∧ (vp_in u3 10 ∧ (wX1_note σ ((σ.2.1 9 v5.toNatClampNeg) &&& (σ.2.1 0 u3.toNatClampNeg)) (fun (σ6 : St) => ∀ x7 : Int32, x7 = v5 + (1 : Int32) → (lpX1_gather_45 u2 u3 u4 K73 n x7 σ6))))))
def lpX1_gather_31 (u2 : Int32) (K86 : St → Prop) : Nat → Int32 → St → Prop
  | 0, _, _ => False
  | n + 1, v3, σ => (u2 ≤ v3 → (K86 σ)) ∧ (¬ u2 ≤ v3 → (∀ x5 : Int32, x5 = (σ.1 8) → (∃ n11 : Nat, lpX1_gather_45 u2 v3 x5 (fun (σ8 : St) => vp_in v3 10 ∧ (wX1_note σ8 (σ8.2.1 0 v3.toNatClampNeg) (fun (σ9 : St) => ∀ x10 : Int32, x10 = v3 + (1 : Int32) → (lpX1_gather_31 u2 K86 n x10 σ9)))) n11 (0 : Int32) σ)))
def wX1_gather (σ0 : St) (a2 : Int32) (post : St → Prop) : Prop := ∃ n15 : Nat, lpX1_gather_2 a2 (fun (σ3 : St) => ∀ σ4 : St, σ4 = st_S σ3 8 (0 : Int32) → (∃ n14 : Nat, lpX1_gather_31 a2 (fun (σ12 : St) => wX1_putInOrder σ12 (fun (σ13 : St) => post σ13)) n14 (0 : Int32) σ4)) n15 (0 : Int32) σ0
set_option maxHeartbeats 4000000 in
set_option maxRecDepth 100000 in
theorem mtX1_gather (l : Launch) (D : va_G) (ad : Nat → Nat) (cI cJ cZ : ClassId) (A : Nat → Prop) (hD : ∀ σ : St, va_D A (xw ad cI cJ cZ σ)) (σ0 : St) (a2 : Int32) (post : St → Prop) (hw : wX1_gather σ0 a2 post) : Met l yX1_gather wsX1_gather ({ frames := 2, cells := 0, slots := 0, locals := 43 } : Room) (va_Pc [.ref (ad 4), .ref (ad 10), .int a2] (wd_pre D (xw ad cI cJ cZ) (wd_tys cI cJ cZ) σ0)) (va_Qv post (wd_B D (xw ad cI cJ cZ)) A) 0 0 A := by
  refine Met.ofW (cc := cX1_gather) (maxL := 6) (ret := none) (by decide) rfl ?_
  intro p e s m args below meth c s₁ B hml hv
  obtain ⟨rfl, hP, hK, hN⟩ := hv
  have hx := B.exec
  have hb := B.bytes
  have hr := B.returns
  have hts := atoms_spec (ws := wsX1_gather) B.pre
  have hown : s.vm.findClass RX1 = some m.cls := findClass_of_methodNamed B.named
  have hlocks := B.notSynchronized
  have hS : va_S A s.heap s.heap [] := va_S.rf
  have f19 := hts (.fieldLink RX1 19 "LeastRights$Candidates" "noted" "[J") (by decide +kernel)
  have iX1 : ∀ w ∈ wsX10, w ∈ wsX1_gather := by decide +kernel
  have f9 := hts (.fieldLink RX1 9 "LeastRights$Candidates" "size" "I") (by decide +kernel)
  have f15 := hts (.fieldLink RX1 15 "LeastRights$Candidates" "sets" "[I") (by decide +kernel)
  have L2 : ∀ (u2 : Int32) (K24 : St → Prop) (_ : ∀ (σ : St) (H : Heap) (locs : List Loc) (ls : Array Slot), K24 σ → va_P D vwCl (xw ad cI cJ cZ σ) H → va_S A s.heap H locs → lv_has ls 6 [(0, .ref (ad 4)), (1, .ref (ad 10)), (2, .int u2)] → W p l e (headSpec wsX1_gather ({ frames := 2, cells := 0, slots := 0, locals := 43 } : Room)).room s m ([.ref (ad 4), .ref (ad 10), .int a2] : List Value).toArray below meth c H locs 0 0 (MQ below (va_Qv post (wd_B D (xw ad cI cJ cZ)) A) ([.ref (ad 4), .ref (ad 10), .int a2] : List Value).toArray s 0 0 A) (F0 m 24 ls [])) (n : Nat) (v3 : Int32) (σ : St) (H : Heap) (locs : List Loc) (ls : Array Slot), lpX1_gather_2 u2 K24 n v3 σ → va_P D vwCl (xw ad cI cJ cZ σ) H → va_S A s.heap H locs → lv_has ls 6 [(0, .ref (ad 4)), (1, .ref (ad 10)), (2, .int u2), (3, .int v3)] → W p l e (headSpec wsX1_gather ({ frames := 2, cells := 0, slots := 0, locals := 43 } : Room)).room s m ([.ref (ad 4), .ref (ad 10), .int a2] : List Value).toArray below meth c H locs 0 0 (MQ below (va_Qv post (wd_B D (xw ad cI cJ cZ)) A) ([.ref (ad 4), .ref (ad 10), .int a2] : List Value).toArray s 0 0 A) (F0 m 2 ls []) := by
    intro u2 K24 hK24 n
    induction n with
    | zero => intro v3 σ H locs ls hw; exact hw.elim
    | succ n ih =>
      intro v3 σ H locs ls hw hP hS hl
      rw [lpX1_gather_2] at hw
      refine lv_iload_n hx hb dX1_gather_2 rfl (lv_at hl 3 rfl) ?_
      refine lv_aload_n hx hb dX1_gather_3 rfl (lv_at hl 0 rfl) ?_
      refine va_get hx hb hts iX1 hown hK hP 4 (xw_q4 ad cI cJ cZ σ) rfl 2 (by decide) f19 (fun _ h9 => h9) rfl dX1_gather_4 ?_
      refine va_alen hx hb hK hP 20 1 (xw_q20 ad cI cJ cZ σ) rfl (v := (64 : Int32)) rfl dX1_gather_7 ?_
      refine lv_icmp_ge (tgt := 24) hx hb dX1_gather_8 (by decide) (fun c9 => ?_) (fun c9 => ?_)
      · have hw := hw.1 c9
        exact hK24 _ _ _ _ hw hP hS (lv_sub hl [0, 1, 2] rfl)
      · have hw := hw.2 c9
        refine lv_aload_n hx hb dX1_gather_11 rfl (lv_at hl 0 rfl) ?_
        refine va_get hx hb hts iX1 hown hK hP 4 (xw_q4 ad cI cJ cZ σ) rfl 2 (by decide) f19 (fun _ h9 => h9) rfl dX1_gather_12 ?_
        refine lv_iload_n hx hb dX1_gather_15 rfl (lv_at hl 3 rfl) ?_
        refine lv_lconst (v := 0) hx hb dX1_gather_16 (by decide) ?_
        obtain ⟨h9, hw⟩ := hw
        refine wd_last 10 20 hx hb hK hP hD hS (xw_q20 ad cI cJ cZ σ) rfl (xw_a10 ad cI cJ cZ σ) h9 dX1_gather_17 (fun H locs σ1 eσ1 hP hS => ?_)
        have hw := hw σ1 eσ1
        obtain ⟨x2, ex2⟩ : ∃ z : Int32, z = v3 + (1 : Int32) := ⟨_, rfl⟩
        refine lv_iinc (v := x2) (lv' := [(3, .int x2), (0, .ref (ad 4)), (1, .ref (ad 10)), (2, .int u2)]) hx hb dX1_gather_18 hl (k := 3) rfl (by rw [ex2]; rfl) (by decide) rfl (fun ls hl => ?_)
        have hw := hw x2 ex2
        refine lv_goto (tgt := 2) hx hb dX1_gather_21 (by decide) ?_
        exact ih _ _ _ _ _ hw hP hS (lv_sub hl [1, 2, 3, 0] rfl)
  have L45 : ∀ (u2 : Int32) (u3 : Int32) (u4 : Int32) (K73 : St → Prop) (_ : ∀ (σ : St) (H : Heap) (locs : List Loc) (ls : Array Slot), K73 σ → va_P D vwCl (xw ad cI cJ cZ σ) H → va_S A s.heap H locs → lv_has ls 6 [(0, .ref (ad 4)), (1, .ref (ad 10)), (2, .int u2), (3, .int u3), (4, .int u4)] → W p l e (headSpec wsX1_gather ({ frames := 2, cells := 0, slots := 0, locals := 43 } : Room)).room s m ([.ref (ad 4), .ref (ad 10), .int a2] : List Value).toArray below meth c H locs 0 0 (MQ below (va_Qv post (wd_B D (xw ad cI cJ cZ)) A) ([.ref (ad 4), .ref (ad 10), .int a2] : List Value).toArray s 0 0 A) (F0 m 73 ls [])) (n : Nat) (v5 : Int32) (σ : St) (H : Heap) (locs : List Loc) (ls : Array Slot), lpX1_gather_45 u2 u3 u4 K73 n v5 σ → va_P D vwCl (xw ad cI cJ cZ σ) H → va_S A s.heap H locs → lv_has ls 6 [(0, .ref (ad 4)), (1, .ref (ad 10)), (2, .int u2), (3, .int u3), (4, .int u4), (5, .int v5)] → W p l e (headSpec wsX1_gather ({ frames := 2, cells := 0, slots := 0, locals := 43 } : Room)).room s m ([.ref (ad 4), .ref (ad 10), .int a2] : List Value).toArray below meth c H locs 0 0 (MQ below (va_Qv post (wd_B D (xw ad cI cJ cZ)) A) ([.ref (ad 4), .ref (ad 10), .int a2] : List Value).toArray s 0 0 A) (F0 m 45 ls []) := by
    intro u2 u3 u4 K73 hK73 n
    induction n with
    | zero => intro v5 σ H locs ls hw; exact hw.elim
    | succ n ih =>
      intro v5 σ H locs ls hw hP hS hl
      rw [lpX1_gather_45] at hw
      refine lv_iload hx hb dX1_gather_45 (lv_at hl 5 rfl) ?_
      refine lv_iload hx hb dX1_gather_47 (lv_at hl 4 rfl) ?_
      refine lv_icmp_ge (tgt := 73) hx hb dX1_gather_49 (by decide) (fun c9 => ?_) (fun c9 => ?_)
      · have hw := hw.1 c9
        exact hK73 _ _ _ _ hw hP hS (lv_sub hl [0, 1, 2, 3, 4] rfl)
      · have hw := hw.2 c9
        refine lv_aload_n hx hb dX1_gather_52 rfl (lv_at hl 0 rfl) ?_
        refine lv_aload_n hx hb dX1_gather_53 rfl (lv_at hl 0 rfl) ?_
        refine va_get hx hb hts iX1 hown hK hP 4 (xw_q4 ad cI cJ cZ σ) rfl 1 (by decide) f15 (fun _ h9 => h9) rfl dX1_gather_54 ?_
        refine lv_iload hx hb dX1_gather_57 (lv_at hl 5 rfl) ?_
        obtain ⟨h9, hw⟩ := hw
        refine va_iald hx hb hK hP 19 0 (xw_q19 ad cI cJ cZ σ) rfl h9 dX1_gather_59 ?_
        refine lv_aload_n hx hb dX1_gather_60 rfl (lv_at hl 1 rfl) ?_
        refine lv_iload_n hx hb dX1_gather_61 rfl (lv_at hl 3 rfl) ?_
        obtain ⟨h9, hw⟩ := hw
        refine va_iald hx hb hK hP 10 0 (xw_q10 ad cI cJ cZ σ) rfl h9 dX1_gather_62 ?_
        refine lv_iand hx hb dX1_gather_63 ?_
        refine wd_cVv ⟨hx, hb, hml, hown, hts⟩ (mtX1_note l D ad cI cJ cZ A hD σ ((σ.2.1 9 v5.toNatClampNeg) &&& (σ.2.1 0 u3.toNatClampNeg)) _ hw) (cwV 1 hts gX1_gather_X1_note rfl rfl rfl (by decide +kernel) ⟨(Nat.le_of_ble_eq_true rfl), (Nat.le_of_ble_eq_true rfl)⟩) (va_recv hK hP (ci := 1) (q0 := 4) rfl (xw_q4 ad cI cJ cZ σ)) hK hN hP hS rfl hl.1 rfl (Nat.le_of_ble_eq_true rfl) dX1_gather_64 ⟨Nat.zero_le _, Nat.zero_le _⟩ (fun σ6 H locs hw hP hS => ?_)
        obtain ⟨x7, ex7⟩ : ∃ z : Int32, z = v5 + (1 : Int32) := ⟨_, rfl⟩
        refine lv_iinc (v := x7) (lv' := [(5, .int x7), (0, .ref (ad 4)), (1, .ref (ad 10)), (2, .int u2), (3, .int u3), (4, .int u4)]) hx hb dX1_gather_67 hl (k := 5) rfl (by rw [ex7]; rfl) (by decide) rfl (fun ls hl => ?_)
        have hw := hw x7 ex7
        refine lv_goto (tgt := 45) hx hb dX1_gather_70 (by decide) ?_
        exact ih _ _ _ _ _ hw hP hS (lv_sub hl [1, 2, 3, 4, 5, 0] rfl)
  have L31 : ∀ (u2 : Int32) (K86 : St → Prop) (_ : ∀ (σ : St) (H : Heap) (locs : List Loc) (ls : Array Slot), K86 σ → va_P D vwCl (xw ad cI cJ cZ σ) H → va_S A s.heap H locs → lv_has ls 6 [(0, .ref (ad 4)), (1, .ref (ad 10)), (2, .int u2)] → W p l e (headSpec wsX1_gather ({ frames := 2, cells := 0, slots := 0, locals := 43 } : Room)).room s m ([.ref (ad 4), .ref (ad 10), .int a2] : List Value).toArray below meth c H locs 0 0 (MQ below (va_Qv post (wd_B D (xw ad cI cJ cZ)) A) ([.ref (ad 4), .ref (ad 10), .int a2] : List Value).toArray s 0 0 A) (F0 m 86 ls [])) (n : Nat) (v3 : Int32) (σ : St) (H : Heap) (locs : List Loc) (ls : Array Slot), lpX1_gather_31 u2 K86 n v3 σ → va_P D vwCl (xw ad cI cJ cZ σ) H → va_S A s.heap H locs → lv_has ls 6 [(0, .ref (ad 4)), (1, .ref (ad 10)), (2, .int u2), (3, .int v3)] → W p l e (headSpec wsX1_gather ({ frames := 2, cells := 0, slots := 0, locals := 43 } : Room)).room s m ([.ref (ad 4), .ref (ad 10), .int a2] : List Value).toArray below meth c H locs 0 0 (MQ below (va_Qv post (wd_B D (xw ad cI cJ cZ)) A) ([.ref (ad 4), .ref (ad 10), .int a2] : List Value).toArray s 0 0 A) (F0 m 31 ls []) := by
    intro u2 K86 hK86 n
    induction n with
    | zero => intro v3 σ H locs ls hw; exact hw.elim
    | succ n ih =>
      intro v3 σ H locs ls hw hP hS hl
      rw [lpX1_gather_31] at hw
      refine lv_iload_n hx hb dX1_gather_31 rfl (lv_at hl 3 rfl) ?_
      refine lv_iload_n hx hb dX1_gather_32 rfl (lv_at hl 2 rfl) ?_
      refine lv_icmp_ge (tgt := 86) hx hb dX1_gather_33 (by decide) (fun c9 => ?_) (fun c9 => ?_)
      · have hw := hw.1 c9
        exact hK86 _ _ _ _ hw hP hS (lv_sub hl [0, 1, 2] rfl)
      · have hw := hw.2 c9
        refine lv_aload_n hx hb dX1_gather_36 rfl (lv_at hl 0 rfl) ?_
        refine va_get hx hb hts iX1 hown hK hP 4 (xw_q4 ad cI cJ cZ σ) rfl 0 (by decide) f9 (fun _ h9 => h9) rfl dX1_gather_37 ?_
        refine lv_topi (fun x5 ex5 => ?_)
        have hw := hw x5 ex5
        refine lv_istore (lv' := [(4, .int x5), (0, .ref (ad 4)), (1, .ref (ad 10)), (2, .int u2), (3, .int v3)]) hx hb dX1_gather_40 hl (by decide) rfl (fun ls hl => ?_)
        refine lv_iconst (v := 0) hx hb dX1_gather_42 (by decide) ?_
        refine lv_istore (lv' := [(5, .int (0 : Int32)), (4, .int x5), (0, .ref (ad 4)), (1, .ref (ad 10)), (2, .int u2), (3, .int v3)]) hx hb dX1_gather_43 hl (by decide) rfl (fun ls hl => ?_)
        obtain ⟨n9, hw⟩ := hw
        refine L45 u2 v3 x5 _ ?_ n9 (0 : Int32) σ _ _ _ hw hP hS (lv_sub hl [2, 3, 4, 5, 1, 0] rfl)
        · intro σ8 H locs ls hw hP hS hl
          refine lv_aload_n hx hb dX1_gather_73 rfl (lv_at hl 0 rfl) ?_
          refine lv_aload_n hx hb dX1_gather_74 rfl (lv_at hl 1 rfl) ?_
          refine lv_iload_n hx hb dX1_gather_75 rfl (lv_at hl 3 rfl) ?_
          obtain ⟨h9, hw⟩ := hw
          refine va_iald hx hb hK hP 10 0 (xw_q10 ad cI cJ cZ σ8) rfl h9 dX1_gather_76 ?_
          refine wd_cVv ⟨hx, hb, hml, hown, hts⟩ (mtX1_note l D ad cI cJ cZ A hD σ8 (σ8.2.1 0 v3.toNatClampNeg) _ hw) (cwV 1 hts gX1_gather_X1_note rfl rfl rfl (by decide +kernel) ⟨(Nat.le_of_ble_eq_true rfl), (Nat.le_of_ble_eq_true rfl)⟩) (va_recv hK hP (ci := 1) (q0 := 4) rfl (xw_q4 ad cI cJ cZ σ8)) hK hN hP hS rfl hl.1 rfl (Nat.le_of_ble_eq_true rfl) dX1_gather_77 ⟨Nat.zero_le _, Nat.zero_le _⟩ (fun σ9 H locs hw hP hS => ?_)
          obtain ⟨x10, ex10⟩ : ∃ z : Int32, z = v3 + (1 : Int32) := ⟨_, rfl⟩
          refine lv_iinc (v := x10) (lv' := [(3, .int x10), (0, .ref (ad 4)), (1, .ref (ad 10)), (2, .int u2), (4, .int x5)]) hx hb dX1_gather_80 hl (k := 3) rfl (by rw [ex10]; rfl) (by decide) rfl (fun ls hl => ?_)
          have hw := hw x10 ex10
          refine lv_goto (tgt := 31) hx hb dX1_gather_83 (by decide) ?_
          exact ih _ _ _ _ _ hw hP hS (lv_sub hl [1, 2, 3, 0] rfl)
  have hl := lv_entry ([.ref (ad 4), .ref (ad 10), .int a2]) (n := 6) (Nat.le_of_ble_eq_true rfl)
  rw [lg_entry_eq]
  generalize (lg_sl ([.ref (ad 4), .ref (ad 10), .int a2]) ++ List.replicate (6 - (lg_sl ([.ref (ad 4), .ref (ad 10), .int a2])).length) Slot.unset).toArray = ls at hl ⊢
  have hl : lv_has ls 6 [(0, .ref (ad 4)), (1, .ref (ad 10)), (2, .int a2)] := hl
  unfold wX1_gather at hw
  refine lv_iconst (v := 0) hx hb dX1_gather_0 (by decide) ?_
  refine lv_istore_n (lv' := [(3, .int (0 : Int32)), (0, .ref (ad 4)), (1, .ref (ad 10)), (2, .int a2)]) hx hb dX1_gather_1 rfl hl (by decide) rfl (fun ls hl => ?_)
  obtain ⟨n9, hw⟩ := hw
  refine L2 a2 _ ?_ n9 (0 : Int32) σ0 _ _ _ hw hP hS (lv_sub hl [1, 2, 3, 0] rfl)
  · intro σ3 H locs ls hw hP hS hl
    refine lv_aload_n hx hb dX1_gather_24 rfl (lv_at hl 0 rfl) ?_
    refine lv_iconst (v := 0) hx hb dX1_gather_25 (by decide) ?_
    refine wd_put 8 4 0 (ty := .int) tyX1 hx hb hts iX1 tyX1_ok nmX1 hown hK hP hD hS (xw_q4 ad cI cJ cZ σ3) rfl (by decide) f9 (fun _ h9 => h9) rfl (by decide +kernel) rfl rfl (Nat.le_of_ble_eq_true rfl) (xw_s8 ad cI cJ cZ σ3) dX1_gather_26 (fun H locs σ4 eσ4 hP hS => ?_)
    have hw := hw σ4 eσ4
    refine lv_iconst (v := 0) hx hb dX1_gather_29 (by decide) ?_
    refine lv_istore_n (lv' := [(3, .int (0 : Int32)), (0, .ref (ad 4)), (1, .ref (ad 10)), (2, .int a2)]) hx hb dX1_gather_30 rfl hl (by decide) rfl (fun ls hl => ?_)
    obtain ⟨n9, hw⟩ := hw
    refine L31 a2 _ ?_ n9 (0 : Int32) σ4 _ _ _ hw hP hS (lv_sub hl [1, 2, 3, 0] rfl)
    · intro σ12 H locs ls hw hP hS hl
      refine lv_aload_n hx hb dX1_gather_86 rfl (lv_at hl 0 rfl) ?_
      refine wd_cVv ⟨hx, hb, hml, hown, hts⟩ (mtX1_putInOrder l D ad cI cJ cZ A hD σ12  _ hw) (cwV 0 hts gX1_gather_X1_putInOrder rfl rfl rfl (by decide +kernel) ⟨(Nat.le_of_ble_eq_true rfl), (Nat.le_of_ble_eq_true rfl)⟩) (va_recv hK hP (ci := 1) (q0 := 4) rfl (xw_q4 ad cI cJ cZ σ12)) hK hN hP hS rfl hl.1 rfl (Nat.le_of_ble_eq_true rfl) dX1_gather_87 ⟨Nat.zero_le _, Nat.zero_le _⟩ (fun σ13 H locs hw hP hS => ?_)
      exact wd_vret hx hb hr hlocks hw hP hS dX1_gather_90
def wX2_isWithinLast (σ0 : St) (a1 : Int32) (a2 : Int32) (post : Int32 → Prop) : Prop := (a2 ≤ ((σ0.1 2) - a1) → (post (0 : Int32))) ∧ (¬ a2 ≤ ((σ0.1 2) - a1) → (post (1 : Int32)))
set_option maxHeartbeats 4000000 in
set_option maxRecDepth 100000 in
theorem mtX2_isWithinLast (l : Launch) (D : va_G) (ad : Nat → Nat) (cI cJ cZ : ClassId) (A : Nat → Prop) (hD : ∀ σ : St, va_D A (xw ad cI cJ cZ σ)) (σ0 : St) (a1 : Int32) (a2 : Int32) (post : Int32 → Prop) (hw : wX2_isWithinLast σ0 a1 a2 post) : Met l yX2_isWithinLast wsX2_isWithinLast ({ frames := 0, cells := 0, slots := 0, locals := 0 } : Room) (va_Pc [.ref (ad 1), .int a1, .int a2] (wd_pre D (xw ad cI cJ cZ) (wd_tys cI cJ cZ) σ0)) (va_Qi (fun (r : Int32) (u : St) => post r ∧ u = σ0) (wd_B D (xw ad cI cJ cZ)) A) 0 0 A := by
  refine Met.ofW (cc := cX2_isWithinLast) (maxL := 3) (ret := (some .boolean)) (by decide) rfl ?_
  intro p e s m args below meth c s₁ B hml hv
  obtain ⟨rfl, hP, hK, hN⟩ := hv
  have hx := B.exec
  have hb := B.bytes
  have hr := B.returns
  have hts := atoms_spec (ws := wsX2_isWithinLast) B.pre
  have hown : s.vm.findClass RX2 = some m.cls := findClass_of_methodNamed B.named
  have hlocks := B.notSynchronized
  have hS : va_S A s.heap s.heap [] := va_S.rf
  have f7 := hts (.fieldLink RX2 7 "LeastRights$Days" "present" "I") (by decide +kernel)
  have iX2 : ∀ w ∈ wsX20, w ∈ wsX2_isWithinLast := by decide +kernel
  have hl := lv_entry ([.ref (ad 1), .int a1, .int a2]) (n := 3) (Nat.le_of_ble_eq_true rfl)
  rw [lg_entry_eq]
  generalize (lg_sl ([.ref (ad 1), .int a1, .int a2]) ++ List.replicate (3 - (lg_sl ([.ref (ad 1), .int a1, .int a2])).length) Slot.unset).toArray = ls at hl ⊢
  have hl : lv_has ls 3 [(0, .ref (ad 1)), (1, .int a1), (2, .int a2)] := hl
  unfold wX2_isWithinLast at hw
  refine lv_aload_n hx hb dX2_isWithinLast_0 rfl (lv_at hl 0 rfl) ?_
  refine va_get hx hb hts iX2 hown hK hP 1 (xw_q1 ad cI cJ cZ σ0) rfl 0 (by decide) f7 (fun _ h9 => h9) rfl dX2_isWithinLast_1 ?_
  refine lv_iload_n hx hb dX2_isWithinLast_4 rfl (lv_at hl 1 rfl) ?_
  refine lv_isub hx hb dX2_isWithinLast_5 ?_
  refine lv_iload_n hx hb dX2_isWithinLast_6 rfl (lv_at hl 2 rfl) ?_
  refine lv_icmp_ge (tgt := 14) hx hb dX2_isWithinLast_7 (by decide) (fun c9 => ?_) (fun c9 => ?_)
  · have hw := hw.1 c9
    refine lv_iconst (v := 0) hx hb dX2_isWithinLast_14 (by decide) ?_
    exact wd_zret hx hb hr hlocks (by decide) ⟨hw, rfl⟩ hP hS dX2_isWithinLast_15
  · have hw := hw.2 c9
    refine lv_iconst (v := 1) hx hb dX2_isWithinLast_10 (by decide) ?_
    refine lv_goto (tgt := 15) hx hb dX2_isWithinLast_11 (by decide) ?_
    exact wd_zret hx hb hr hlocks (by decide) ⟨hw, rfl⟩ hP hS dX2_isWithinLast_15
def wX2_comesRound (σ0 : St) (a1 : Int32) (post : Int32 → Prop) : Prop := ((1 : Int32) ≤ (σ0.1 4) → (∀ x1 : Int32, x1 = ((σ0.1 2) - a1) → (∀ x2 : Int32, x2 = ((x1 + (σ0.1 3)) - (1 : Int32)) → (¬ (σ0.1 4) = 0 ∧ ((((x2 / (σ0.1 4)) * (σ0.1 4)) < x1 → (post (0 : Int32))) ∧ (¬ ((x2 / (σ0.1 4)) * (σ0.1 4)) < x1 → (post (1 : Int32)))))))) ∧ (¬ (1 : Int32) ≤ (σ0.1 4) → (post (0 : Int32)))
set_option maxHeartbeats 4000000 in
set_option maxRecDepth 100000 in
theorem mtX2_comesRound (l : Launch) (D : va_G) (ad : Nat → Nat) (cI cJ cZ : ClassId) (A : Nat → Prop) (hD : ∀ σ : St, va_D A (xw ad cI cJ cZ σ)) (σ0 : St) (a1 : Int32) (post : Int32 → Prop) (hw : wX2_comesRound σ0 a1 post) : Met l yX2_comesRound wsX2_comesRound ({ frames := 0, cells := 0, slots := 0, locals := 0 } : Room) (va_Pc [.ref (ad 1), .int a1] (wd_pre D (xw ad cI cJ cZ) (wd_tys cI cJ cZ) σ0)) (va_Qi (fun (r : Int32) (u : St) => post r ∧ u = σ0) (wd_B D (xw ad cI cJ cZ)) A) 0 0 A := by
  refine Met.ofW (cc := cX2_comesRound) (maxL := 4) (ret := (some .boolean)) (by decide) rfl ?_
  intro p e s m args below meth c s₁ B hml hv
  obtain ⟨rfl, hP, hK, hN⟩ := hv
  have hx := B.exec
  have hb := B.bytes
  have hr := B.returns
  have hts := atoms_spec (ws := wsX2_comesRound) B.pre
  have hown : s.vm.findClass RX2 = some m.cls := findClass_of_methodNamed B.named
  have hlocks := B.notSynchronized
  have hS : va_S A s.heap s.heap [] := va_S.rf
  have f16 := hts (.fieldLink RX2 16 "LeastRights$Days" "season" "I") (by decide +kernel)
  have iX2 : ∀ w ∈ wsX20, w ∈ wsX2_comesRound := by decide +kernel
  have f7 := hts (.fieldLink RX2 7 "LeastRights$Days" "present" "I") (by decide +kernel)
  have f13 := hts (.fieldLink RX2 13 "LeastRights$Days" "span" "I") (by decide +kernel)
  have hl := lv_entry ([.ref (ad 1), .int a1]) (n := 4) (Nat.le_of_ble_eq_true rfl)
  rw [lg_entry_eq]
  generalize (lg_sl ([.ref (ad 1), .int a1]) ++ List.replicate (4 - (lg_sl ([.ref (ad 1), .int a1])).length) Slot.unset).toArray = ls at hl ⊢
  have hl : lv_has ls 4 [(0, .ref (ad 1)), (1, .int a1)] := hl
  unfold wX2_comesRound at hw
  refine lv_aload_n hx hb dX2_comesRound_0 rfl (lv_at hl 0 rfl) ?_
  refine va_get hx hb hts iX2 hown hK hP 1 (xw_q1 ad cI cJ cZ σ0) rfl 2 (by decide) f16 (fun _ h9 => h9) rfl dX2_comesRound_1 ?_
  refine lv_iconst (v := 1) hx hb dX2_comesRound_4 (by decide) ?_
  refine lv_icmp_ge (tgt := 10) hx hb dX2_comesRound_5 (by decide) (fun c9 => ?_) (fun c9 => ?_)
  · have hw := hw.1 c9
    refine lv_aload_n hx hb dX2_comesRound_10 rfl (lv_at hl 0 rfl) ?_
    refine va_get hx hb hts iX2 hown hK hP 1 (xw_q1 ad cI cJ cZ σ0) rfl 0 (by decide) f7 (fun _ h9 => h9) rfl dX2_comesRound_11 ?_
    refine lv_iload_n hx hb dX2_comesRound_14 rfl (lv_at hl 1 rfl) ?_
    refine lv_isub hx hb dX2_comesRound_15 ?_
    refine lv_topi (fun x1 ex1 => ?_)
    have hw := hw x1 ex1
    refine lv_istore_n (lv' := [(2, .int x1), (0, .ref (ad 1)), (1, .int a1)]) hx hb dX2_comesRound_16 rfl hl (by decide) rfl (fun ls hl => ?_)
    refine lv_iload_n hx hb dX2_comesRound_17 rfl (lv_at hl 0 rfl) ?_
    refine lv_aload_n hx hb dX2_comesRound_18 rfl (lv_at hl 1 rfl) ?_
    refine va_get hx hb hts iX2 hown hK hP 1 (xw_q1 ad cI cJ cZ σ0) rfl 1 (by decide) f13 (fun _ h9 => h9) rfl dX2_comesRound_19 ?_
    refine lv_iadd hx hb dX2_comesRound_22 ?_
    refine lv_iconst (v := 1) hx hb dX2_comesRound_23 (by decide) ?_
    refine lv_isub hx hb dX2_comesRound_24 ?_
    refine lv_topi (fun x2 ex2 => ?_)
    have hw := hw x2 ex2
    refine lv_istore_n (lv' := [(3, .int x2), (2, .int x1), (0, .ref (ad 1)), (1, .int a1)]) hx hb dX2_comesRound_25 rfl hl (by decide) rfl (fun ls hl => ?_)
    refine lv_iload_n hx hb dX2_comesRound_26 rfl (lv_at hl 0 rfl) ?_
    refine lv_aload_n hx hb dX2_comesRound_27 rfl (lv_at hl 2 rfl) ?_
    refine va_get hx hb hts iX2 hown hK hP 1 (xw_q1 ad cI cJ cZ σ0) rfl 2 (by decide) f16 (fun _ h9 => h9) rfl dX2_comesRound_28 ?_
    obtain ⟨h0, hw⟩ := hw
    refine lv_idiv hx hb dX2_comesRound_31 h0 ?_
    refine lv_aload_n hx hb dX2_comesRound_32 rfl (lv_at hl 2 rfl) ?_
    refine va_get hx hb hts iX2 hown hK hP 1 (xw_q1 ad cI cJ cZ σ0) rfl 2 (by decide) f16 (fun _ h9 => h9) rfl dX2_comesRound_33 ?_
    refine lv_imul hx hb dX2_comesRound_36 ?_
    refine lv_iload_n hx hb dX2_comesRound_37 rfl (lv_at hl 1 rfl) ?_
    refine lv_icmp_lt (tgt := 45) hx hb dX2_comesRound_38 (by decide) (fun c9 => ?_) (fun c9 => ?_)
    · have hw := hw.1 c9
      refine lv_iconst (v := 0) hx hb dX2_comesRound_45 (by decide) ?_
      exact wd_zret hx hb hr hlocks (by decide) ⟨hw, rfl⟩ hP hS dX2_comesRound_46
    · have hw := hw.2 c9
      refine lv_iconst (v := 1) hx hb dX2_comesRound_41 (by decide) ?_
      refine lv_goto (tgt := 46) hx hb dX2_comesRound_42 (by decide) ?_
      exact wd_zret hx hb hr hlocks (by decide) ⟨hw, rfl⟩ hP hS dX2_comesRound_46
  · have hw := hw.2 c9
    refine lv_iconst (v := 0) hx hb dX2_comesRound_8 (by decide) ?_
    exact wd_zret hx hb hr hlocks (by decide) ⟨hw, rfl⟩ hP hS dX2_comesRound_9
def wX2_isInGrace (σ0 : St) (a1 : Int32) (post : Int32 → Prop) : Prop := ((σ0.1 5) < ((σ0.1 2) - a1) → (post (0 : Int32))) ∧ (¬ (σ0.1 5) < ((σ0.1 2) - a1) → (post (1 : Int32)))
set_option maxHeartbeats 4000000 in
set_option maxRecDepth 100000 in
theorem mtX2_isInGrace (l : Launch) (D : va_G) (ad : Nat → Nat) (cI cJ cZ : ClassId) (A : Nat → Prop) (hD : ∀ σ : St, va_D A (xw ad cI cJ cZ σ)) (σ0 : St) (a1 : Int32) (post : Int32 → Prop) (hw : wX2_isInGrace σ0 a1 post) : Met l yX2_isInGrace wsX2_isInGrace ({ frames := 0, cells := 0, slots := 0, locals := 0 } : Room) (va_Pc [.ref (ad 1), .int a1] (wd_pre D (xw ad cI cJ cZ) (wd_tys cI cJ cZ) σ0)) (va_Qi (fun (r : Int32) (u : St) => post r ∧ u = σ0) (wd_B D (xw ad cI cJ cZ)) A) 0 0 A := by
  refine Met.ofW (cc := cX2_isInGrace) (maxL := 2) (ret := (some .boolean)) (by decide) rfl ?_
  intro p e s m args below meth c s₁ B hml hv
  obtain ⟨rfl, hP, hK, hN⟩ := hv
  have hx := B.exec
  have hb := B.bytes
  have hr := B.returns
  have hts := atoms_spec (ws := wsX2_isInGrace) B.pre
  have hown : s.vm.findClass RX2 = some m.cls := findClass_of_methodNamed B.named
  have hlocks := B.notSynchronized
  have hS : va_S A s.heap s.heap [] := va_S.rf
  have f7 := hts (.fieldLink RX2 7 "LeastRights$Days" "present" "I") (by decide +kernel)
  have iX2 : ∀ w ∈ wsX20, w ∈ wsX2_isInGrace := by decide +kernel
  have f19 := hts (.fieldLink RX2 19 "LeastRights$Days" "grace" "I") (by decide +kernel)
  have hl := lv_entry ([.ref (ad 1), .int a1]) (n := 2) (Nat.le_of_ble_eq_true rfl)
  rw [lg_entry_eq]
  generalize (lg_sl ([.ref (ad 1), .int a1]) ++ List.replicate (2 - (lg_sl ([.ref (ad 1), .int a1])).length) Slot.unset).toArray = ls at hl ⊢
  have hl : lv_has ls 2 [(0, .ref (ad 1)), (1, .int a1)] := hl
  unfold wX2_isInGrace at hw
  refine lv_aload_n hx hb dX2_isInGrace_0 rfl (lv_at hl 0 rfl) ?_
  refine va_get hx hb hts iX2 hown hK hP 1 (xw_q1 ad cI cJ cZ σ0) rfl 0 (by decide) f7 (fun _ h9 => h9) rfl dX2_isInGrace_1 ?_
  refine lv_iload_n hx hb dX2_isInGrace_4 rfl (lv_at hl 1 rfl) ?_
  refine lv_isub hx hb dX2_isInGrace_5 ?_
  refine lv_aload_n hx hb dX2_isInGrace_6 rfl (lv_at hl 0 rfl) ?_
  refine va_get hx hb hts iX2 hown hK hP 1 (xw_q1 ad cI cJ cZ σ0) rfl 3 (by decide) f19 (fun _ h9 => h9) rfl dX2_isInGrace_7 ?_
  refine lv_icmp_gt (tgt := 17) hx hb dX2_isInGrace_10 (by decide) (fun c9 => ?_) (fun c9 => ?_)
  · have hw := hw.1 c9
    refine lv_iconst (v := 0) hx hb dX2_isInGrace_17 (by decide) ?_
    exact wd_zret hx hb hr hlocks (by decide) ⟨hw, rfl⟩ hP hS dX2_isInGrace_18
  · have hw := hw.2 c9
    refine lv_iconst (v := 1) hx hb dX2_isInGrace_13 (by decide) ?_
    refine lv_goto (tgt := 18) hx hb dX2_isInGrace_14 (by decide) ?_
    exact wd_zret hx hb hr hlocks (by decide) ⟨hw, rfl⟩ hP hS dX2_isInGrace_18
def wJ6_bitCount_0f7a4 (a0 : Int32) (post : Int32 → Prop) : Prop := ∀ x1 : Int32, x1 = (a0 - ((a0.toUInt32 >>> ((1 : Int32).toUInt32 &&& Int32.toUInt32 31)).toInt32 &&& (1431655765 : Int32))) → (∀ x2 : Int32, x2 = ((x1 &&& (858993459 : Int32)) + ((x1.toUInt32 >>> ((2 : Int32).toUInt32 &&& Int32.toUInt32 31)).toInt32 &&& (858993459 : Int32))) → (∀ x3 : Int32, x3 = ((x2 + (x2.toUInt32 >>> ((4 : Int32).toUInt32 &&& Int32.toUInt32 31)).toInt32) &&& (252645135 : Int32)) → (∀ x4 : Int32, x4 = (x3 + (x3.toUInt32 >>> ((8 : Int32).toUInt32 &&& Int32.toUInt32 31)).toInt32) → (∀ x5 : Int32, x5 = (x4 + (x4.toUInt32 >>> ((16 : Int32).toUInt32 &&& Int32.toUInt32 31)).toInt32) → (post (x5 &&& (63 : Int32)))))))
set_option maxHeartbeats 4000000 in
set_option maxRecDepth 100000 in
theorem mtJ6_bitCount_0f7a4 (l : Launch) (D : va_G) (ad : Nat → Nat) (cI cJ cZ : ClassId) (A : Nat → Prop) (hD : ∀ σ : St, va_D A (xw ad cI cJ cZ σ)) (σ0 : St) (a0 : Int32) (post : Int32 → Prop) (hw : wJ6_bitCount_0f7a4 a0 post) : Met l yJ6_bitCount_0f7a4 wsJ6_bitCount_0f7a4 ({ frames := 0, cells := 0, slots := 0, locals := 0 } : Room) (va_Pc [.int a0] (wd_pre D (xw ad cI cJ cZ) (wd_tys cI cJ cZ) σ0)) (va_Qi (fun (r : Int32) (u : St) => post r ∧ u = σ0) (wd_B D (xw ad cI cJ cZ)) A) 0 0 A := by
  refine Met.ofW (cc := cJ6_bitCount_0f7a4) (maxL := 1) (ret := (some .int)) (by decide) rfl ?_
  intro p e s m args below meth c s₁ B hml hv
  obtain ⟨rfl, hP, hK, hN⟩ := hv
  have hx := B.exec
  have hb := B.bytes
  have hr := B.returns
  have hts := atoms_spec (ws := wsJ6_bitCount_0f7a4) B.pre
  have hown : s.vm.findClass RJ6 = some m.cls := findClass_of_methodNamed B.named
  have hlocks := B.notSynchronized
  have hS : va_S A s.heap s.heap [] := va_S.rf
  have k265 := hts (.constant RJ6 265 (1431655765)) (by decide +kernel)
  have k266 := hts (.constant RJ6 266 (858993459)) (by decide +kernel)
  have k267 := hts (.constant RJ6 267 (252645135)) (by decide +kernel)
  have hl := lv_entry ([.int a0]) (n := 1) (Nat.le_of_ble_eq_true rfl)
  rw [lg_entry_eq]
  generalize (lg_sl ([.int a0]) ++ List.replicate (1 - (lg_sl ([.int a0])).length) Slot.unset).toArray = ls at hl ⊢
  have hl : lv_has ls 1 [(0, .int a0)] := hl
  unfold wJ6_bitCount_0f7a4 at hw
  refine lv_iload_n hx hb dJ6_bitCount_0f7a4_0 rfl (lv_at hl 0 rfl) ?_
  refine lv_iload_n hx hb dJ6_bitCount_0f7a4_1 rfl (lv_at hl 0 rfl) ?_
  refine lv_iconst (v := 1) hx hb dJ6_bitCount_0f7a4_2 (by decide) ?_
  refine lv_iushr hx hb dJ6_bitCount_0f7a4_3 rfl ?_
  refine lv_ldcw hx hb hown k265 dJ6_bitCount_0f7a4_4 ?_
  refine lv_iand hx hb dJ6_bitCount_0f7a4_7 ?_
  refine lv_isub hx hb dJ6_bitCount_0f7a4_8 ?_
  refine lv_topi (fun x1 ex1 => ?_)
  have hw := hw x1 ex1
  refine lv_istore_n (lv' := [(0, .int x1)]) hx hb dJ6_bitCount_0f7a4_9 rfl hl (by decide) rfl (fun ls hl => ?_)
  refine lv_iload_n hx hb dJ6_bitCount_0f7a4_10 rfl (lv_at hl 0 rfl) ?_
  refine lv_ldcw hx hb hown k266 dJ6_bitCount_0f7a4_11 ?_
  refine lv_iand hx hb dJ6_bitCount_0f7a4_14 ?_
  refine lv_iload_n hx hb dJ6_bitCount_0f7a4_15 rfl (lv_at hl 0 rfl) ?_
  refine lv_iconst (v := 2) hx hb dJ6_bitCount_0f7a4_16 (by decide) ?_
  refine lv_iushr hx hb dJ6_bitCount_0f7a4_17 rfl ?_
  refine lv_ldcw hx hb hown k266 dJ6_bitCount_0f7a4_18 ?_
  refine lv_iand hx hb dJ6_bitCount_0f7a4_21 ?_
  refine lv_iadd hx hb dJ6_bitCount_0f7a4_22 ?_
  refine lv_topi (fun x2 ex2 => ?_)
  have hw := hw x2 ex2
  refine lv_istore_n (lv' := [(0, .int x2)]) hx hb dJ6_bitCount_0f7a4_23 rfl hl (by decide) rfl (fun ls hl => ?_)
  refine lv_iload_n hx hb dJ6_bitCount_0f7a4_24 rfl (lv_at hl 0 rfl) ?_
  refine lv_iload_n hx hb dJ6_bitCount_0f7a4_25 rfl (lv_at hl 0 rfl) ?_
  refine lv_iconst (v := 4) hx hb dJ6_bitCount_0f7a4_26 (by decide) ?_
  refine lv_iushr hx hb dJ6_bitCount_0f7a4_27 rfl ?_
  refine lv_iadd hx hb dJ6_bitCount_0f7a4_28 ?_
  refine lv_ldcw hx hb hown k267 dJ6_bitCount_0f7a4_29 ?_
  refine lv_iand hx hb dJ6_bitCount_0f7a4_32 ?_
  refine lv_topi (fun x3 ex3 => ?_)
  have hw := hw x3 ex3
  refine lv_istore_n (lv' := [(0, .int x3)]) hx hb dJ6_bitCount_0f7a4_33 rfl hl (by decide) rfl (fun ls hl => ?_)
  refine lv_iload_n hx hb dJ6_bitCount_0f7a4_34 rfl (lv_at hl 0 rfl) ?_
  refine lv_iload_n hx hb dJ6_bitCount_0f7a4_35 rfl (lv_at hl 0 rfl) ?_
  refine lv_bipush (v := 8) hx hb dJ6_bitCount_0f7a4_36 (by decide) ?_
  refine lv_iushr hx hb dJ6_bitCount_0f7a4_38 rfl ?_
  refine lv_iadd hx hb dJ6_bitCount_0f7a4_39 ?_
  refine lv_topi (fun x4 ex4 => ?_)
  have hw := hw x4 ex4
  refine lv_istore_n (lv' := [(0, .int x4)]) hx hb dJ6_bitCount_0f7a4_40 rfl hl (by decide) rfl (fun ls hl => ?_)
  refine lv_iload_n hx hb dJ6_bitCount_0f7a4_41 rfl (lv_at hl 0 rfl) ?_
  refine lv_iload_n hx hb dJ6_bitCount_0f7a4_42 rfl (lv_at hl 0 rfl) ?_
  refine lv_bipush (v := 16) hx hb dJ6_bitCount_0f7a4_43 (by decide) ?_
  refine lv_iushr hx hb dJ6_bitCount_0f7a4_45 rfl ?_
  refine lv_iadd hx hb dJ6_bitCount_0f7a4_46 ?_
  refine lv_topi (fun x5 ex5 => ?_)
  have hw := hw x5 ex5
  refine lv_istore_n (lv' := [(0, .int x5)]) hx hb dJ6_bitCount_0f7a4_47 rfl hl (by decide) rfl (fun ls hl => ?_)
  refine lv_iload_n hx hb dJ6_bitCount_0f7a4_48 rfl (lv_at hl 0 rfl) ?_
  refine lv_bipush (v := 63) hx hb dJ6_bitCount_0f7a4_49 (by decide) ?_
  refine lv_iand hx hb dJ6_bitCount_0f7a4_51 ?_
  exact wd_iret hx hb hr hlocks ⟨hw, rfl⟩ hP hS dJ6_bitCount_0f7a4_52
def lpX9_totalOf_4 (jq Na : Nat) (u1 : Int32) (σ0 : St) (post : Int32 → Prop) : Nat → Int32 → Int32 → Prop
  | 0, _, _ => False
  | n + 1, v2, v3 => (u1 ≤ v3 → (post v2)) ∧ (¬ u1 ≤ v3 → (((Int32.ofNat Na) ≤ v3 → (post v2)) ∧ (¬ (Int32.ofNat Na) ≤ v3 → (vp_in v3 Na ∧ (wJ6_bitCount_0f7a4 (σ0.2.1 jq v3.toNatClampNeg) (fun (r1 : Int32) => ∀ x2 : Int32, x2 = (v2 + r1) → (∀ x3 : Int32, x3 = v3 + (1 : Int32) → (lpX9_totalOf_4 jq Na u1 σ0 post n x2 x3))))))))
def wX9_totalOf (σ0 : St) (jq Na : Nat) (a1 : Int32) (post : Int32 → Prop) : Prop := ∃ n4 : Nat, lpX9_totalOf_4 jq Na a1 σ0 post n4 (0 : Int32) (0 : Int32)
set_option maxHeartbeats 4000000 in
set_option maxRecDepth 100000 in
theorem mtX9_totalOf (l : Launch) (D : va_G) (ad : Nat → Nat) (cI cJ cZ : ClassId) (A : Nat → Prop) (hD : ∀ σ : St, va_D A (xw ad cI cJ cZ σ)) (σ0 : St) (aq qa jq Na : Nat) (hq : ∀ σ : St, (xw ad cI cJ cZ σ)[qa]? = some (aq, .inl (cI, Na, .inl (σ.2.1 jq)))) (a1 : Int32) (post : Int32 → Prop) (hw : wX9_totalOf σ0 jq Na a1 post) : Met l yX9_totalOf wsX9_totalOf ({ frames := 1, cells := 0, slots := 0, locals := 20 } : Room) (va_Pc [.ref aq, .int a1] (wd_pre D (xw ad cI cJ cZ) (wd_tys cI cJ cZ) σ0)) (va_Qi (fun (r : Int32) (u : St) => post r ∧ u = σ0) (wd_B D (xw ad cI cJ cZ)) A) 0 0 A := by
  refine Met.ofW (cc := cX9_totalOf) (maxL := 4) (ret := (some .int)) (by decide) rfl ?_
  intro p e s m args below meth c s₁ B hml hv
  obtain ⟨rfl, hP, hK, hN⟩ := hv
  have hx := B.exec
  have hb := B.bytes
  have hr := B.returns
  have hts := atoms_spec (ws := wsX9_totalOf) B.pre
  have hown : s.vm.findClass RX9 = some m.cls := findClass_of_methodNamed B.named
  have hlocks := B.notSynchronized
  have hS : va_S A s.heap s.heap [] := va_S.rf
  have L4 : ∀ (u1 : Int32) (n : Nat) (v2 : Int32) (v3 : Int32) (H : Heap) (locs : List Loc) (ls : Array Slot), lpX9_totalOf_4 jq Na u1 σ0 post n v2 v3 → va_P D vwCl (xw ad cI cJ cZ σ0) H → va_S A s.heap H locs → lv_has ls 4 [(0, .ref aq), (1, .int u1), (2, .int v2), (3, .int v3)] → W p l e (headSpec wsX9_totalOf ({ frames := 1, cells := 0, slots := 0, locals := 20 } : Room)).room s m ([.ref aq, .int a1] : List Value).toArray below meth c H locs 0 0 (MQ below (va_Qi (fun (r : Int32) (u : St) => post r ∧ u = σ0) (wd_B D (xw ad cI cJ cZ)) A) ([.ref aq, .int a1] : List Value).toArray s 0 0 A) (F0 m 4 ls []) := by
    intro u1 n
    induction n with
    | zero => intro v2 v3 H locs ls hw; exact hw.elim
    | succ n ih =>
      intro v2 v3 H locs ls hw hP hS hl
      rw [lpX9_totalOf_4] at hw
      refine lv_iload_n hx hb dX9_totalOf_4 rfl (lv_at hl 3 rfl) ?_
      refine lv_iload_n hx hb dX9_totalOf_5 rfl (lv_at hl 1 rfl) ?_
      refine lv_icmp_ge (tgt := 30) hx hb dX9_totalOf_6 (by decide) (fun c9 => ?_) (fun c9 => ?_)
      · have hw := hw.1 c9
        refine lv_iload_n hx hb dX9_totalOf_30 rfl (lv_at hl 2 rfl) ?_
        exact wd_iret hx hb hr hlocks ⟨hw, rfl⟩ hP hS dX9_totalOf_31
      · have hw := hw.2 c9
        refine lv_iload_n hx hb dX9_totalOf_9 rfl (lv_at hl 3 rfl) ?_
        refine lv_aload_n hx hb dX9_totalOf_10 rfl (lv_at hl 0 rfl) ?_
        refine va_alen hx hb hK hP qa 0 (hq σ0) rfl (v := (Int32.ofNat Na)) rfl dX9_totalOf_11 ?_
        refine lv_icmp_ge (tgt := 30) hx hb dX9_totalOf_12 (by decide) (fun c9 => ?_) (fun c9 => ?_)
        · have hw := hw.1 c9
          refine lv_iload_n hx hb dX9_totalOf_30 rfl (lv_at hl 2 rfl) ?_
          exact wd_iret hx hb hr hlocks ⟨hw, rfl⟩ hP hS dX9_totalOf_31
        · have hw := hw.2 c9
          refine lv_iload_n hx hb dX9_totalOf_15 rfl (lv_at hl 2 rfl) ?_
          refine lv_aload_n hx hb dX9_totalOf_16 rfl (lv_at hl 0 rfl) ?_
          refine lv_iload_n hx hb dX9_totalOf_17 rfl (lv_at hl 3 rfl) ?_
          obtain ⟨h9, hw⟩ := hw
          refine va_iald hx hb hK hP qa 0 (hq σ0) rfl h9 dX9_totalOf_18 ?_
          refine wd_cSi ⟨hx, hb, hml, hown, hts⟩ (mtJ6_bitCount_0f7a4 l D ad cI cJ cZ A hD σ0 (σ0.2.1 jq v3.toNatClampNeg) _ hw) (va_cwS 1 hts gX9_totalOf_J6_bitCount_0f7a4 rfl rfl rfl (by decide +kernel) ⟨(Nat.le_of_ble_eq_true rfl), (Nat.le_of_ble_eq_true rfl)⟩) hK hN hP hS rfl hl.1 rfl (Nat.le_of_ble_eq_true rfl) dX9_totalOf_19 ⟨Nat.zero_le _, Nat.zero_le _⟩ (fun r1 u9 H locs hq hP hS => ?_)
          obtain ⟨hw, hu⟩ := hq
          rw [hu] at hP
          refine lv_iadd hx hb dX9_totalOf_22 ?_
          refine lv_topi (fun x2 ex2 => ?_)
          have hw := hw x2 ex2
          refine lv_istore_n (lv' := [(2, .int x2), (0, .ref aq), (1, .int u1), (3, .int v3)]) hx hb dX9_totalOf_23 rfl hl (by decide) rfl (fun ls hl => ?_)
          obtain ⟨x3, ex3⟩ : ∃ z : Int32, z = v3 + (1 : Int32) := ⟨_, rfl⟩
          refine lv_iinc (v := x3) (lv' := [(3, .int x3), (2, .int x2), (0, .ref aq), (1, .int u1)]) hx hb dX9_totalOf_24 hl (k := 3) rfl (by rw [ex3]; rfl) (by decide) rfl (fun ls hl => ?_)
          have hw := hw x3 ex3
          refine lv_goto (tgt := 4) hx hb dX9_totalOf_27 (by decide) ?_
          exact ih _ _ _ _ _ hw hP hS (lv_sub hl [2, 3, 1, 0] rfl)
  have hl := lv_entry ([.ref aq, .int a1]) (n := 4) (Nat.le_of_ble_eq_true rfl)
  rw [lg_entry_eq]
  generalize (lg_sl ([.ref aq, .int a1]) ++ List.replicate (4 - (lg_sl ([.ref aq, .int a1])).length) Slot.unset).toArray = ls at hl ⊢
  have hl : lv_has ls 4 [(0, .ref aq), (1, .int a1)] := hl
  unfold wX9_totalOf at hw
  refine lv_iconst (v := 0) hx hb dX9_totalOf_0 (by decide) ?_
  refine lv_istore_n (lv' := [(2, .int (0 : Int32)), (0, .ref aq), (1, .int a1)]) hx hb dX9_totalOf_1 rfl hl (by decide) rfl (fun ls hl => ?_)
  refine lv_iconst (v := 0) hx hb dX9_totalOf_2 (by decide) ?_
  refine lv_istore_n (lv' := [(3, .int (0 : Int32)), (2, .int (0 : Int32)), (0, .ref aq), (1, .int a1)]) hx hb dX9_totalOf_3 rfl hl (by decide) rfl (fun ls hl => ?_)
  obtain ⟨n9, hw⟩ := hw
  refine L4 a1 n9 (0 : Int32) (0 : Int32) _ _ _ hw hP hS (lv_sub hl [2, 3, 1, 0] rfl)
def lpX3_make_12 (jq Na : Nat) (u2 : Int32) (K32 : St → Prop) : Nat → Int32 → St → Prop
  | 0, _, _ => False
  | n + 1, v3, σ => (u2 ≤ v3 → (K32 σ)) ∧ (¬ u2 ≤ v3 → (vp_in v3 Na ∧ (vp_in v3 10 ∧ (∀ σ3 : St, σ3 = st_A σ 18 v3.toNatClampNeg (σ.2.1 jq v3.toNatClampNeg) → (∀ x4 : Int32, x4 = v3 + (1 : Int32) → (lpX3_make_12 jq Na u2 K32 n x4 σ3))))))
def wX3_make (σ0 : St) (jq Na : Nat) (a2 : Int32) (post : Int32 → St → Prop) : Prop := ∀ σ1 : St, σ1 = st_S σ0 12 (1 : Int32) → (∀ σ2 : St, σ2 = st_S σ1 13 a2 → (∃ n7 : Nat, lpX3_make_12 jq Na a2 (fun (σ5 : St) => wX9_totalOf σ5 18 10 (σ5.1 13) (fun (r6 : Int32) => post r6 σ5)) n7 (0 : Int32) σ2))
set_option maxHeartbeats 4000000 in
set_option maxRecDepth 100000 in
theorem mtX3_make (l : Launch) (D : va_G) (ad : Nat → Nat) (cI cJ cZ : ClassId) (A : Nat → Prop) (hD : ∀ σ : St, va_D A (xw ad cI cJ cZ σ)) (σ0 : St) (aq qa jq Na : Nat) (hq : ∀ σ : St, (xw ad cI cJ cZ σ)[qa]? = some (aq, .inl (cI, Na, .inl (σ.2.1 jq)))) (a2 : Int32) (post : Int32 → St → Prop) (hw : wX3_make σ0 jq Na a2 post) : Met l yX3_make wsX3_make ({ frames := 2, cells := 0, slots := 0, locals := 43 } : Room) (va_Pc [.ref (ad 7), .ref aq, .int a2] (wd_pre D (xw ad cI cJ cZ) (wd_tys cI cJ cZ) σ0)) (va_Qi post (wd_B D (xw ad cI cJ cZ)) A) 0 0 A := by
  refine Met.ofW (cc := cX3_make) (maxL := 4) (ret := (some .int)) (by decide) rfl ?_
  intro p e s m args below meth c s₁ B hml hv
  obtain ⟨rfl, hP, hK, hN⟩ := hv
  have hx := B.exec
  have hb := B.bytes
  have hr := B.returns
  have hts := atoms_spec (ws := wsX3_make) B.pre
  have hown : s.vm.findClass RX3 = some m.cls := findClass_of_methodNamed B.named
  have hlocks := B.notSynchronized
  have hS : va_S A s.heap s.heap [] := va_S.rf
  have f9 := hts (.fieldLink RX3 9 "LeastRights$Draft" "made" "Z") (by decide +kernel)
  have iX3 : ∀ w ∈ wsX30, w ∈ wsX3_make := by decide +kernel
  have f15 := hts (.fieldLink RX3 15 "LeastRights$Draft" "size" "I") (by decide +kernel)
  have f19 := hts (.fieldLink RX3 19 "LeastRights$Draft" "rights" "[I") (by decide +kernel)
  have nm23 := hN.2 ("LeastRights$Draft", 23, yX9_totalOf) (by decide +kernel)
  have iniX9 := hts (.initialized RX9) (by decide +kernel)
  have stX9_totalOf := hts (.static yX9_totalOf) (by decide +kernel)
  have L12 : ∀ (u2 : Int32) (K32 : St → Prop) (_ : ∀ (σ : St) (H : Heap) (locs : List Loc) (ls : Array Slot), K32 σ → va_P D vwCl (xw ad cI cJ cZ σ) H → va_S A s.heap H locs → lv_has ls 4 [(0, .ref (ad 7)), (1, .ref aq), (2, .int u2)] → W p l e (headSpec wsX3_make ({ frames := 2, cells := 0, slots := 0, locals := 43 } : Room)).room s m ([.ref (ad 7), .ref aq, .int a2] : List Value).toArray below meth c H locs 0 0 (MQ below (va_Qi post (wd_B D (xw ad cI cJ cZ)) A) ([.ref (ad 7), .ref aq, .int a2] : List Value).toArray s 0 0 A) (F0 m 32 ls [])) (n : Nat) (v3 : Int32) (σ : St) (H : Heap) (locs : List Loc) (ls : Array Slot), lpX3_make_12 jq Na u2 K32 n v3 σ → va_P D vwCl (xw ad cI cJ cZ σ) H → va_S A s.heap H locs → lv_has ls 4 [(0, .ref (ad 7)), (1, .ref aq), (2, .int u2), (3, .int v3)] → W p l e (headSpec wsX3_make ({ frames := 2, cells := 0, slots := 0, locals := 43 } : Room)).room s m ([.ref (ad 7), .ref aq, .int a2] : List Value).toArray below meth c H locs 0 0 (MQ below (va_Qi post (wd_B D (xw ad cI cJ cZ)) A) ([.ref (ad 7), .ref aq, .int a2] : List Value).toArray s 0 0 A) (F0 m 12 ls []) := by
    intro u2 K32 hK32 n
    induction n with
    | zero => intro v3 σ H locs ls hw; exact hw.elim
    | succ n ih =>
      intro v3 σ H locs ls hw hP hS hl
      rw [lpX3_make_12] at hw
      refine lv_iload_n hx hb dX3_make_12 rfl (lv_at hl 3 rfl) ?_
      refine lv_iload_n hx hb dX3_make_13 rfl (lv_at hl 2 rfl) ?_
      refine lv_icmp_ge (tgt := 32) hx hb dX3_make_14 (by decide) (fun c9 => ?_) (fun c9 => ?_)
      · have hw := hw.1 c9
        exact hK32 _ _ _ _ hw hP hS (lv_sub hl [0, 1, 2] rfl)
      · have hw := hw.2 c9
        refine lv_aload_n hx hb dX3_make_17 rfl (lv_at hl 0 rfl) ?_
        refine va_get hx hb hts iX3 hown hK hP 7 (xw_q7 ad cI cJ cZ σ) rfl 2 (by decide) f19 (fun _ h9 => h9) rfl dX3_make_18 ?_
        refine lv_iload_n hx hb dX3_make_21 rfl (lv_at hl 3 rfl) ?_
        refine lv_aload_n hx hb dX3_make_22 rfl (lv_at hl 1 rfl) ?_
        refine lv_iload_n hx hb dX3_make_23 rfl (lv_at hl 3 rfl) ?_
        obtain ⟨h9, hw⟩ := hw
        refine va_iald hx hb hK hP qa 0 (hq σ) rfl h9 dX3_make_24 ?_
        obtain ⟨h9, hw⟩ := hw
        refine wd_iast 18 28 hx hb hK hP hD hS (xw_q28 ad cI cJ cZ σ) rfl (xw_a18 ad cI cJ cZ σ) h9 dX3_make_25 (fun H locs σ3 eσ3 hP hS => ?_)
        have hw := hw σ3 eσ3
        obtain ⟨x4, ex4⟩ : ∃ z : Int32, z = v3 + (1 : Int32) := ⟨_, rfl⟩
        refine lv_iinc (v := x4) (lv' := [(3, .int x4), (0, .ref (ad 7)), (1, .ref aq), (2, .int u2)]) hx hb dX3_make_26 hl (k := 3) rfl (by rw [ex4]; rfl) (by decide) rfl (fun ls hl => ?_)
        have hw := hw x4 ex4
        refine lv_goto (tgt := 12) hx hb dX3_make_29 (by decide) ?_
        exact ih _ _ _ _ _ hw hP hS (lv_sub hl [1, 2, 3, 0] rfl)
  have hl := lv_entry ([.ref (ad 7), .ref aq, .int a2]) (n := 4) (Nat.le_of_ble_eq_true rfl)
  rw [lg_entry_eq]
  generalize (lg_sl ([.ref (ad 7), .ref aq, .int a2]) ++ List.replicate (4 - (lg_sl ([.ref (ad 7), .ref aq, .int a2])).length) Slot.unset).toArray = ls at hl ⊢
  have hl : lv_has ls 4 [(0, .ref (ad 7)), (1, .ref aq), (2, .int a2)] := hl
  unfold wX3_make at hw
  refine lv_aload_n hx hb dX3_make_0 rfl (lv_at hl 0 rfl) ?_
  refine lv_iconst (v := 1) hx hb dX3_make_1 (by decide) ?_
  refine wd_put 12 7 0 (ty := .boolean) tyX3 hx hb hts iX3 tyX3_ok nmX3 hown hK hP hD hS (xw_q7 ad cI cJ cZ σ0) rfl (by decide) f9 (fun _ h9 => h9) rfl (by decide +kernel) rfl rfl (Nat.le_of_ble_eq_true rfl) (xw_s12 ad cI cJ cZ σ0) dX3_make_2 (fun H locs σ1 eσ1 hP hS => ?_)
  have hw := hw σ1 eσ1
  refine lv_aload_n hx hb dX3_make_5 rfl (lv_at hl 0 rfl) ?_
  refine lv_iload_n hx hb dX3_make_6 rfl (lv_at hl 2 rfl) ?_
  refine wd_put 13 7 1 (ty := .int) tyX3 hx hb hts iX3 tyX3_ok nmX3 hown hK hP hD hS (xw_q7 ad cI cJ cZ σ1) rfl (by decide) f15 (fun _ h9 => h9) rfl (by decide +kernel) rfl rfl (Nat.le_of_ble_eq_true rfl) (xw_s13 ad cI cJ cZ σ1) dX3_make_7 (fun H locs σ2 eσ2 hP hS => ?_)
  have hw := hw σ2 eσ2
  refine lv_iconst (v := 0) hx hb dX3_make_10 (by decide) ?_
  refine lv_istore_n (lv' := [(3, .int (0 : Int32)), (0, .ref (ad 7)), (1, .ref aq), (2, .int a2)]) hx hb dX3_make_11 rfl hl (by decide) rfl (fun ls hl => ?_)
  obtain ⟨n9, hw⟩ := hw
  refine L12 a2 _ ?_ n9 (0 : Int32) σ2 _ _ _ hw hP hS (lv_sub hl [1, 2, 3, 0] rfl)
  · intro σ5 H locs ls hw hP hS hl
    refine lv_aload_n hx hb dX3_make_32 rfl (lv_at hl 0 rfl) ?_
    refine va_get hx hb hts iX3 hown hK hP 7 (xw_q7 ad cI cJ cZ σ5) rfl 2 (by decide) f19 (fun _ h9 => h9) rfl dX3_make_33 ?_
    refine lv_aload_n hx hb dX3_make_36 rfl (lv_at hl 0 rfl) ?_
    refine va_get hx hb hts iX3 hown hK hP 7 (xw_q7 ad cI cJ cZ σ5) rfl 1 (by decide) f15 (fun _ h9 => h9) rfl dX3_make_37 ?_
    refine wd_cNi ⟨hx, hb, hml, hown, hts⟩ (mtX9_totalOf l D ad cI cJ cZ A hD σ5 (ad 28) 28 18 10 (xw_q28 ad cI cJ cZ) (σ5.1 13) _ hw) ⟨va_cnB 2 hts gX3_make_X9_totalOf_n23 rfl rfl rfl nm23 iniX9 (by decide +kernel) ⟨(Nat.le_of_ble_eq_true rfl), (Nat.le_of_ble_eq_true rfl)⟩, stX9_totalOf, trivial⟩ hK hN hP hS rfl hl.1 rfl (Nat.le_of_ble_eq_true rfl) dX3_make_40 ⟨Nat.zero_le _, Nat.zero_le _⟩ (fun r6 u9 H locs hq hP hS => ?_)
    obtain ⟨hw, hu⟩ := hq
    rw [hu] at hP
    exact wd_iret hx hb hr hlocks hw hP hS dX3_make_43
def wX3_drop (σ0 : St) (a1 : Int32) (a2 : Int32) (post : Int32 → St → Prop) : Prop := vp_in a1 10 ∧ (∀ x1 : Int32, x1 = (((σ0.2.1 18 a1.toNatClampNeg) >>> (a2 &&& 31)) &&& (1 : Int32)) → (vp_in a1 10 ∧ (vp_in a1 10 ∧ (∀ σ2 : St, σ2 = st_A σ0 18 a1.toNatClampNeg ((σ0.2.1 18 a1.toNatClampNeg) &&& (((1 : Int32) <<< (a2 &&& 31)) ^^^ (-1 : Int32))) → (post x1 σ2)))))
set_option maxHeartbeats 4000000 in
set_option maxRecDepth 100000 in
theorem mtX3_drop (l : Launch) (D : va_G) (ad : Nat → Nat) (cI cJ cZ : ClassId) (A : Nat → Prop) (hD : ∀ σ : St, va_D A (xw ad cI cJ cZ σ)) (σ0 : St) (a1 : Int32) (a2 : Int32) (post : Int32 → St → Prop) (hw : wX3_drop σ0 a1 a2 post) : Met l yX3_drop wsX3_drop ({ frames := 0, cells := 0, slots := 0, locals := 0 } : Room) (va_Pc [.ref (ad 7), .int a1, .int a2] (wd_pre D (xw ad cI cJ cZ) (wd_tys cI cJ cZ) σ0)) (va_Qi post (wd_B D (xw ad cI cJ cZ)) A) 0 0 A := by
  refine Met.ofW (cc := cX3_drop) (maxL := 4) (ret := (some .int)) (by decide) rfl ?_
  intro p e s m args below meth c s₁ B hml hv
  obtain ⟨rfl, hP, hK, hN⟩ := hv
  have hx := B.exec
  have hb := B.bytes
  have hr := B.returns
  have hts := atoms_spec (ws := wsX3_drop) B.pre
  have hown : s.vm.findClass RX3 = some m.cls := findClass_of_methodNamed B.named
  have hlocks := B.notSynchronized
  have hS : va_S A s.heap s.heap [] := va_S.rf
  have f19 := hts (.fieldLink RX3 19 "LeastRights$Draft" "rights" "[I") (by decide +kernel)
  have iX3 : ∀ w ∈ wsX30, w ∈ wsX3_drop := by decide +kernel
  have hl := lv_entry ([.ref (ad 7), .int a1, .int a2]) (n := 4) (Nat.le_of_ble_eq_true rfl)
  rw [lg_entry_eq]
  generalize (lg_sl ([.ref (ad 7), .int a1, .int a2]) ++ List.replicate (4 - (lg_sl ([.ref (ad 7), .int a1, .int a2])).length) Slot.unset).toArray = ls at hl ⊢
  have hl : lv_has ls 4 [(0, .ref (ad 7)), (1, .int a1), (2, .int a2)] := hl
  unfold wX3_drop at hw
  refine lv_aload_n hx hb dX3_drop_0 rfl (lv_at hl 0 rfl) ?_
  refine va_get hx hb hts iX3 hown hK hP 7 (xw_q7 ad cI cJ cZ σ0) rfl 2 (by decide) f19 (fun _ h9 => h9) rfl dX3_drop_1 ?_
  refine lv_iload_n hx hb dX3_drop_4 rfl (lv_at hl 1 rfl) ?_
  obtain ⟨h9, hw⟩ := hw
  refine va_iald hx hb hK hP 28 0 (xw_q28 ad cI cJ cZ σ0) rfl h9 dX3_drop_5 ?_
  refine lv_iload_n hx hb dX3_drop_6 rfl (lv_at hl 2 rfl) ?_
  refine lv_ishr hx hb dX3_drop_7 ?_
  refine lv_iconst (v := 1) hx hb dX3_drop_8 (by decide) ?_
  refine lv_iand hx hb dX3_drop_9 ?_
  refine lv_topi (fun x1 ex1 => ?_)
  have hw := hw x1 ex1
  refine lv_istore_n (lv' := [(3, .int x1), (0, .ref (ad 7)), (1, .int a1), (2, .int a2)]) hx hb dX3_drop_10 rfl hl (by decide) rfl (fun ls hl => ?_)
  refine lv_aload_n hx hb dX3_drop_11 rfl (lv_at hl 1 rfl) ?_
  refine va_get hx hb hts iX3 hown hK hP 7 (xw_q7 ad cI cJ cZ σ0) rfl 2 (by decide) f19 (fun _ h9 => h9) rfl dX3_drop_12 ?_
  refine lv_iload_n hx hb dX3_drop_15 rfl (lv_at hl 2 rfl) ?_
  refine lv_dup2_11 hx hb dX3_drop_16 rfl rfl ?_
  obtain ⟨h9, hw⟩ := hw
  refine va_iald hx hb hK hP 28 0 (xw_q28 ad cI cJ cZ σ0) rfl h9 dX3_drop_17 ?_
  refine lv_iconst (v := 1) hx hb dX3_drop_18 (by decide) ?_
  refine lv_iload_n hx hb dX3_drop_19 rfl (lv_at hl 3 rfl) ?_
  refine lv_ishl hx hb dX3_drop_20 ?_
  refine lv_iconst (v := -1) hx hb dX3_drop_21 (by decide) ?_
  refine lv_ixor hx hb dX3_drop_22 ?_
  refine lv_iand hx hb dX3_drop_23 ?_
  obtain ⟨h9, hw⟩ := hw
  refine wd_iast 18 28 hx hb hK hP hD hS (xw_q28 ad cI cJ cZ σ0) rfl (xw_a18 ad cI cJ cZ σ0) h9 dX3_drop_24 (fun H locs σ2 eσ2 hP hS => ?_)
  have hw := hw σ2 eσ2
  refine lv_iload_n hx hb dX3_drop_25 rfl (lv_at hl 0 rfl) ?_
  exact wd_iret hx hb hr hlocks hw hP hS dX3_drop_26
