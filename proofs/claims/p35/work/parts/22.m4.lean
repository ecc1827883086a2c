/-! X10_least X10_badRole X10_plan X10_takeOut X10_isStopped X10_stopped X10_stop X10_used X10_apply -/
def lpX10_least_26 (u1 : Int32) (u2 : Int32) (σ0 : St) (post : Int32 → Prop) : Nat → Int32 → Int32 → Prop
  | 0, _, _ => False
  | n + 1, v3, v4 => ((4095 : Int32) < v4 → (post v3)) ∧ (¬ (4095 : Int32) < v4 → (vp_in u1 10 ∧ ((¬ (v4 &&& ((σ0.2.1 2 u1.toNatClampNeg) ^^^ (-1 : Int32))) = 0 → (∀ x4 : Int32, x4 = v4 + (1 : Int32) → (lpX10_least_26 u1 u2 σ0 post n v3 x4))) ∧ ((v4 &&& ((σ0.2.1 2 u1.toNatClampNeg) ^^^ (-1 : Int32))) = 0 → (vp_in u1 10 ∧ (wX10_isBad σ0 ((σ0.2.1 2 u1.toNatClampNeg) &&& (v4 ^^^ (-1 : Int32))) (fun (r5 : Int32) => (¬ r5 = 0 → (∀ x6 : Int32, x6 = v4 + (1 : Int32) → (lpX10_least_26 u1 u2 σ0 post n v3 x6))) ∧ (r5 = 0 → (wX10_bits v4 (fun (r7 : Int32) => wX10_bits v3 (fun (r8 : Int32) => ∀ x9 : Int32, x9 = (r7 - r8) → (wX10_bits (v4 &&& u2) (fun (r10 : Int32) => wX10_bits (v3 &&& u2) (fun (r11 : Int32) => ∀ x12 : Int32, x12 = (r10 - r11) → ((x9 < 0 → (∀ x13 : Int32, x13 = v4 + (1 : Int32) → (lpX10_least_26 u1 u2 σ0 post n v4 x13))) ∧ (¬ x9 < 0 → ((¬ x9 = 0 → (∀ x14 : Int32, x14 = v4 + (1 : Int32) → (lpX10_least_26 u1 u2 σ0 post n v3 x14))) ∧ (x9 = 0 → ((x12 < 0 → (∀ x15 : Int32, x15 = v4 + (1 : Int32) → (lpX10_least_26 u1 u2 σ0 post n v4 x15))) ∧ (¬ x12 < 0 → ((¬ x12 = 0 → (∀ x16 : Int32, x16 = v4 + (1 : Int32) → (lpX10_least_26 u1 u2 σ0 post n v3 x16))) ∧ (x12 = 0 → ((v3 ≤ v4 → (∀ x17 : Int32, x17 = v4 + (1 : Int32) → (lpX10_least_26 u1 u2 σ0 post n v3 x17))) ∧ (¬ v3 ≤ v4 → (∀ x18 : Int32, x18 = v4 + (1 : Int32) → (lpX10_least_26 u1 u2 σ0 post n v4 x18))))))))))))))))))))))))))
def wX10_least (σ0 : St) (a1 : Int32) (post : Int32 → Prop) : Prop := wX10_isPerson σ0 a1 (fun (r1 : Int32) => (¬ r1 = 0 → (wX10_keptOf σ0 a1 (fun (r2 : Int32) => vp_in a1 10 ∧ (∀ x3 : Int32, x3 = (σ0.2.1 2 a1.toNatClampNeg) → (∃ n19 : Nat, lpX10_least_26 a1 r2 σ0 post n19 x3 (0 : Int32)))))) ∧ (r1 = 0 → (post (-1 : Int32))))
set_option maxHeartbeats 4000000 in
set_option maxRecDepth 100000 in
theorem mtX10_least (l : Launch) (D : va_G) (am : Nat → Nat) (cI cJ cZ : ClassId) (A : Nat → Prop) (hD : ∀ σ : St, va_D A (mw am cI cJ cZ σ)) (σ0 : St) (a1 : Int32) (post : Int32 → Prop) (hw : wX10_least σ0 a1 post) : Met l yX10_least wsX10_least ({ frames := 3, cells := 0, slots := 0, locals := 71 } : Room) (va_Pc [.ref (am 0), .int a1] (wd_pre D (mw am cI cJ cZ) (wd_tys cI cJ cZ) σ0)) (va_Qi (fun (r : Int32) (u : St) => post r ∧ u = σ0) (wd_B D (mw am cI cJ cZ)) A) 0 0 A := by
  refine Met.ofW (cc := cX10_least) (maxL := 7) (ret := (some .int)) (by decide) rfl ?_
  intro p e s m args below meth c s₁ B hml hv
  obtain ⟨rfl, hP, hK, hN⟩ := hv
  have hx := B.exec
  have hb := B.bytes
  have hr := B.returns
  have hts := atoms_spec (ws := wsX10_least) B.pre
  have hown : s.vm.findClass RX10 = some m.cls := findClass_of_methodNamed B.named
  have hlocks := B.notSynchronized
  have hS : va_S A s.heap s.heap [] := va_S.rf
  have f16 := hts (.fieldLink RX10 16 "LeastRightsModel" "rights" "[I") (by decide +kernel)
  have iX10 : ∀ w ∈ wsX100, w ∈ wsX10_least := by decide +kernel
  have L26 : ∀ (u1 : Int32) (u2 : Int32) (n : Nat) (v3 : Int32) (v4 : Int32) (H : Heap) (locs : List Loc) (ls : Array Slot), lpX10_least_26 u1 u2 σ0 post n v3 v4 → va_P D vwCl (mw am cI cJ cZ σ0) H → va_S A s.heap H locs → lv_has ls 7 [(0, .ref (am 0)), (1, .int u1), (2, .int u2), (3, .int v3), (4, .int v4)] → W p l e (headSpec wsX10_least ({ frames := 3, cells := 0, slots := 0, locals := 71 } : Room)).room s m ([.ref (am 0), .int a1] : List Value).toArray below meth c H locs 0 0 (MQ below (va_Qi (fun (r : Int32) (u : St) => post r ∧ u = σ0) (wd_B D (mw am cI cJ cZ)) A) ([.ref (am 0), .int a1] : List Value).toArray s 0 0 A) (F0 m 26 ls []) := by
    intro u1 u2 n
    induction n with
    | zero => intro v3 v4 H locs ls hw; exact hw.elim
    | succ n ih =>
      intro v3 v4 H locs ls hw hP hS hl
      rw [lpX10_least_26] at hw
      refine lv_iload hx hb dX10_least_26 (lv_at hl 4 rfl) ?_
      refine lv_sipush (v := 4095) hx hb dX10_least_28 (by decide) ?_
      refine lv_icmp_gt (tgt := 133) hx hb dX10_least_31 (by decide) (fun c9 => ?_) (fun c9 => ?_)
      · have hw := hw.1 c9
        refine lv_iload_n hx hb dX10_least_133 rfl (lv_at hl 3 rfl) ?_
        exact wd_iret hx hb hr hlocks ⟨hw, rfl⟩ hP hS dX10_least_134
      · have hw := hw.2 c9
        refine lv_iload hx hb dX10_least_34 (lv_at hl 4 rfl) ?_
        refine lv_aload_n hx hb dX10_least_36 rfl (lv_at hl 0 rfl) ?_
        refine va_get hx hb hts iX10 hown hK hP 0 (mw_q0 am cI cJ cZ σ0) rfl 4 (by decide) f16 (fun _ h9 => h9) rfl dX10_least_37 ?_
        refine lv_iload_n hx hb dX10_least_40 rfl (lv_at hl 1 rfl) ?_
        obtain ⟨h9, hw⟩ := hw
        refine va_iald hx hb hK hP 3 0 (mw_q3 am cI cJ cZ σ0) rfl h9 dX10_least_41 ?_
        refine lv_iconst (v := -1) hx hb dX10_least_42 (by decide) ?_
        refine lv_ixor hx hb dX10_least_43 ?_
        refine lv_iand hx hb dX10_least_44 ?_
        refine lv_if_ne (tgt := 127) hx hb dX10_least_45 (by decide) (fun c9 => ?_) (fun c9 => ?_)
        · have hw := hw.1 c9
          obtain ⟨x4, ex4⟩ : ∃ z : Int32, z = v4 + (1 : Int32) := ⟨_, rfl⟩
          refine lv_iinc (v := x4) (lv' := [(4, .int x4), (0, .ref (am 0)), (1, .int u1), (2, .int u2), (3, .int v3)]) hx hb dX10_least_127 hl (k := 4) rfl (by rw [ex4]; rfl) (by decide) rfl (fun ls hl => ?_)
          have hw := hw x4 ex4
          refine lv_goto (tgt := 26) hx hb dX10_least_130 (by decide) ?_
          exact ih _ _ _ _ _ hw hP hS (lv_sub hl [1, 2, 3, 4, 0] rfl)
        · have hw := hw.2 c9
          refine lv_aload_n hx hb dX10_least_48 rfl (lv_at hl 0 rfl) ?_
          refine lv_aload_n hx hb dX10_least_49 rfl (lv_at hl 0 rfl) ?_
          refine va_get hx hb hts iX10 hown hK hP 0 (mw_q0 am cI cJ cZ σ0) rfl 4 (by decide) f16 (fun _ h9 => h9) rfl dX10_least_50 ?_
          refine lv_iload_n hx hb dX10_least_53 rfl (lv_at hl 1 rfl) ?_
          obtain ⟨h9, hw⟩ := hw
          refine va_iald hx hb hK hP 3 0 (mw_q3 am cI cJ cZ σ0) rfl h9 dX10_least_54 ?_
          refine lv_iload hx hb dX10_least_55 (lv_at hl 4 rfl) ?_
          refine lv_iconst (v := -1) hx hb dX10_least_57 (by decide) ?_
          refine lv_ixor hx hb dX10_least_58 ?_
          refine lv_iand hx hb dX10_least_59 ?_
          refine wd_cVi ⟨hx, hb, hml, hown, hts⟩ (mtX10_isBad l D am cI cJ cZ A hD σ0 ((σ0.2.1 2 u1.toNatClampNeg) &&& (v4 ^^^ (-1 : Int32))) _ hw) (cwV 1 hts gX10_least_X10_isBad rfl rfl rfl (by decide +kernel) ⟨(Nat.le_of_ble_eq_true rfl), (Nat.le_of_ble_eq_true rfl)⟩) (va_recv hK hP (ci := 10) (q0 := 0) rfl (mw_q0 am cI cJ cZ σ0)) hK hN hP hS rfl hl.1 rfl (Nat.le_of_ble_eq_true rfl) dX10_least_60 ⟨Nat.zero_le _, Nat.zero_le _⟩ (fun r5 u9 H locs hq hP hS => ?_)
          obtain ⟨hw, hu⟩ := hq
          rw [hu] at hP
          refine lv_if_ne (tgt := 127) hx hb dX10_least_63 (by decide) (fun c9 => ?_) (fun c9 => ?_)
          · have hw := hw.1 c9
            obtain ⟨x6, ex6⟩ : ∃ z : Int32, z = v4 + (1 : Int32) := ⟨_, rfl⟩
            refine lv_iinc (v := x6) (lv' := [(4, .int x6), (0, .ref (am 0)), (1, .int u1), (2, .int u2), (3, .int v3)]) hx hb dX10_least_127 hl (k := 4) rfl (by rw [ex6]; rfl) (by decide) rfl (fun ls hl => ?_)
            have hw := hw x6 ex6
            refine lv_goto (tgt := 26) hx hb dX10_least_130 (by decide) ?_
            exact ih _ _ _ _ _ hw hP hS (lv_sub hl [1, 2, 3, 4, 0] rfl)
          · have hw := hw.2 c9
            refine lv_iload hx hb dX10_least_66 (lv_at hl 4 rfl) ?_
            refine wd_cSi ⟨hx, hb, hml, hown, hts⟩ (mtX10_bits l D am cI cJ cZ A hD σ0 v4 _ hw) (va_cwS 1 hts gX10_least_X10_bits rfl rfl rfl (by decide +kernel) ⟨(Nat.le_of_ble_eq_true rfl), (Nat.le_of_ble_eq_true rfl)⟩) hK hN hP hS rfl hl.1 rfl (Nat.le_of_ble_eq_true rfl) dX10_least_68 ⟨Nat.zero_le _, Nat.zero_le _⟩ (fun r7 u9 H locs hq hP hS => ?_)
            obtain ⟨hw, hu⟩ := hq
            rw [hu] at hP
            refine lv_iload_n hx hb dX10_least_71 rfl (lv_at hl 3 rfl) ?_
            refine wd_cSi ⟨hx, hb, hml, hown, hts⟩ (mtX10_bits l D am cI cJ cZ A hD σ0 v3 _ hw) (va_cwS 1 hts gX10_least_X10_bits rfl rfl rfl (by decide +kernel) ⟨(Nat.le_of_ble_eq_true rfl), (Nat.le_of_ble_eq_true rfl)⟩) hK hN hP hS rfl hl.1 rfl (Nat.le_of_ble_eq_true rfl) dX10_least_72 ⟨Nat.zero_le _, Nat.zero_le _⟩ (fun r8 u9 H locs hq hP hS => ?_)
            obtain ⟨hw, hu⟩ := hq
            rw [hu] at hP
            refine lv_isub hx hb dX10_least_75 ?_
            refine lv_topi (fun x9 ex9 => ?_)
            have hw := hw x9 ex9
            refine lv_istore (lv' := [(5, .int x9), (0, .ref (am 0)), (1, .int u1), (2, .int u2), (3, .int v3), (4, .int v4)]) hx hb dX10_least_76 hl (by decide) rfl (fun ls hl => ?_)
            refine lv_iload hx hb dX10_least_78 (lv_at hl 5 rfl) ?_
            refine lv_iload_n hx hb dX10_least_80 rfl (lv_at hl 3 rfl) ?_
            refine lv_iand hx hb dX10_least_81 ?_
            refine wd_cSi ⟨hx, hb, hml, hown, hts⟩ (mtX10_bits l D am cI cJ cZ A hD σ0 (v4 &&& u2) _ hw) (va_cwS 1 hts gX10_least_X10_bits rfl rfl rfl (by decide +kernel) ⟨(Nat.le_of_ble_eq_true rfl), (Nat.le_of_ble_eq_true rfl)⟩) hK hN hP hS rfl hl.1 rfl (Nat.le_of_ble_eq_true rfl) dX10_least_82 ⟨Nat.zero_le _, Nat.zero_le _⟩ (fun r10 u9 H locs hq hP hS => ?_)
            obtain ⟨hw, hu⟩ := hq
            rw [hu] at hP
            refine lv_iload_n hx hb dX10_least_85 rfl (lv_at hl 4 rfl) ?_
            refine lv_iload_n hx hb dX10_least_86 rfl (lv_at hl 3 rfl) ?_
            refine lv_iand hx hb dX10_least_87 ?_
            refine wd_cSi ⟨hx, hb, hml, hown, hts⟩ (mtX10_bits l D am cI cJ cZ A hD σ0 (v3 &&& u2) _ hw) (va_cwS 1 hts gX10_least_X10_bits rfl rfl rfl (by decide +kernel) ⟨(Nat.le_of_ble_eq_true rfl), (Nat.le_of_ble_eq_true rfl)⟩) hK hN hP hS rfl hl.1 rfl (Nat.le_of_ble_eq_true rfl) dX10_least_88 ⟨Nat.zero_le _, Nat.zero_le _⟩ (fun r11 u9 H locs hq hP hS => ?_)
            obtain ⟨hw, hu⟩ := hq
            rw [hu] at hP
            refine lv_isub hx hb dX10_least_91 ?_
            refine lv_topi (fun x12 ex12 => ?_)
            have hw := hw x12 ex12
            refine lv_istore (lv' := [(6, .int x12), (5, .int x9), (0, .ref (am 0)), (1, .int u1), (2, .int u2), (3, .int v3), (4, .int v4)]) hx hb dX10_least_92 hl (by decide) rfl (fun ls hl => ?_)
            refine lv_iload hx hb dX10_least_94 (lv_at hl 1 rfl) ?_
            refine lv_if_lt (tgt := 120) hx hb dX10_least_96 (by decide) (fun c9 => ?_) (fun c9 => ?_)
            · have hw := hw.1 c9
              refine lv_iload hx hb dX10_least_120 (lv_at hl 6 rfl) ?_
              refine lv_goto (tgt := 126) hx hb dX10_least_122 (by decide) ?_
              refine lv_istore_n (lv' := [(3, .int v4), (6, .int x12), (5, .int x9), (0, .ref (am 0)), (1, .int u1), (2, .int u2), (4, .int v4)]) hx hb dX10_least_126 rfl hl (by decide) rfl (fun ls hl => ?_)
              obtain ⟨x13, ex13⟩ : ∃ z : Int32, z = v4 + (1 : Int32) := ⟨_, rfl⟩
              refine lv_iinc (v := x13) (lv' := [(4, .int x13), (3, .int v4), (6, .int x12), (5, .int x9), (0, .ref (am 0)), (1, .int u1), (2, .int u2)]) hx hb dX10_least_127 hl (k := 6) rfl (by rw [ex13]; rfl) (by decide) rfl (fun ls hl => ?_)
              have hw := hw x13 ex13
              refine lv_goto (tgt := 26) hx hb dX10_least_130 (by decide) ?_
              exact ih _ _ _ _ _ hw hP hS (lv_sub hl [4, 5, 6, 1, 0] rfl)
            · have hw := hw.2 c9
              refine lv_iload hx hb dX10_least_99 (lv_at hl 1 rfl) ?_
              refine lv_if_ne (tgt := 125) hx hb dX10_least_101 (by decide) (fun c9 => ?_) (fun c9 => ?_)
              · have hw := hw.1 c9
                refine lv_iload_n hx hb dX10_least_125 rfl (lv_at hl 5 rfl) ?_
                refine lv_istore_n (lv' := [(3, .int v3), (6, .int x12), (5, .int x9), (0, .ref (am 0)), (1, .int u1), (2, .int u2), (4, .int v4)]) hx hb dX10_least_126 rfl hl (by decide) rfl (fun ls hl => ?_)
                obtain ⟨x14, ex14⟩ : ∃ z : Int32, z = v4 + (1 : Int32) := ⟨_, rfl⟩
                refine lv_iinc (v := x14) (lv' := [(4, .int x14), (3, .int v3), (6, .int x12), (5, .int x9), (0, .ref (am 0)), (1, .int u1), (2, .int u2)]) hx hb dX10_least_127 hl (k := 6) rfl (by rw [ex14]; rfl) (by decide) rfl (fun ls hl => ?_)
                have hw := hw x14 ex14
                refine lv_goto (tgt := 26) hx hb dX10_least_130 (by decide) ?_
                exact ih _ _ _ _ _ hw hP hS (lv_sub hl [4, 5, 6, 1, 0] rfl)
              · have hw := hw.2 c9
                refine lv_iload hx hb dX10_least_104 (lv_at hl 0 rfl) ?_
                refine lv_if_lt (tgt := 120) hx hb dX10_least_106 (by decide) (fun c9 => ?_) (fun c9 => ?_)
                · have hw := hw.1 c9
                  refine lv_iload hx hb dX10_least_120 (lv_at hl 6 rfl) ?_
                  refine lv_goto (tgt := 126) hx hb dX10_least_122 (by decide) ?_
                  refine lv_istore_n (lv' := [(3, .int v4), (6, .int x12), (5, .int x9), (0, .ref (am 0)), (1, .int u1), (2, .int u2), (4, .int v4)]) hx hb dX10_least_126 rfl hl (by decide) rfl (fun ls hl => ?_)
                  obtain ⟨x15, ex15⟩ : ∃ z : Int32, z = v4 + (1 : Int32) := ⟨_, rfl⟩
                  refine lv_iinc (v := x15) (lv' := [(4, .int x15), (3, .int v4), (6, .int x12), (5, .int x9), (0, .ref (am 0)), (1, .int u1), (2, .int u2)]) hx hb dX10_least_127 hl (k := 6) rfl (by rw [ex15]; rfl) (by decide) rfl (fun ls hl => ?_)
                  have hw := hw x15 ex15
                  refine lv_goto (tgt := 26) hx hb dX10_least_130 (by decide) ?_
                  exact ih _ _ _ _ _ hw hP hS (lv_sub hl [4, 5, 6, 1, 0] rfl)
                · have hw := hw.2 c9
                  refine lv_iload hx hb dX10_least_109 (lv_at hl 0 rfl) ?_
                  refine lv_if_ne (tgt := 125) hx hb dX10_least_111 (by decide) (fun c9 => ?_) (fun c9 => ?_)
                  · have hw := hw.1 c9
                    refine lv_iload_n hx hb dX10_least_125 rfl (lv_at hl 5 rfl) ?_
                    refine lv_istore_n (lv' := [(3, .int v3), (6, .int x12), (5, .int x9), (0, .ref (am 0)), (1, .int u1), (2, .int u2), (4, .int v4)]) hx hb dX10_least_126 rfl hl (by decide) rfl (fun ls hl => ?_)
                    obtain ⟨x16, ex16⟩ : ∃ z : Int32, z = v4 + (1 : Int32) := ⟨_, rfl⟩
                    refine lv_iinc (v := x16) (lv' := [(4, .int x16), (3, .int v3), (6, .int x12), (5, .int x9), (0, .ref (am 0)), (1, .int u1), (2, .int u2)]) hx hb dX10_least_127 hl (k := 6) rfl (by rw [ex16]; rfl) (by decide) rfl (fun ls hl => ?_)
                    have hw := hw x16 ex16
                    refine lv_goto (tgt := 26) hx hb dX10_least_130 (by decide) ?_
                    exact ih _ _ _ _ _ hw hP hS (lv_sub hl [4, 5, 6, 1, 0] rfl)
                  · have hw := hw.2 c9
                    refine lv_iload hx hb dX10_least_114 (lv_at hl 6 rfl) ?_
                    refine lv_iload_n hx hb dX10_least_116 rfl (lv_at hl 5 rfl) ?_
                    refine lv_icmp_ge (tgt := 125) hx hb dX10_least_117 (by decide) (fun c9 => ?_) (fun c9 => ?_)
                    · have hw := hw.1 c9
                      refine lv_iload_n hx hb dX10_least_125 rfl (lv_at hl 5 rfl) ?_
                      refine lv_istore_n (lv' := [(3, .int v3), (6, .int x12), (5, .int x9), (0, .ref (am 0)), (1, .int u1), (2, .int u2), (4, .int v4)]) hx hb dX10_least_126 rfl hl (by decide) rfl (fun ls hl => ?_)
                      obtain ⟨x17, ex17⟩ : ∃ z : Int32, z = v4 + (1 : Int32) := ⟨_, rfl⟩
                      refine lv_iinc (v := x17) (lv' := [(4, .int x17), (3, .int v3), (6, .int x12), (5, .int x9), (0, .ref (am 0)), (1, .int u1), (2, .int u2)]) hx hb dX10_least_127 hl (k := 6) rfl (by rw [ex17]; rfl) (by decide) rfl (fun ls hl => ?_)
                      have hw := hw x17 ex17
                      refine lv_goto (tgt := 26) hx hb dX10_least_130 (by decide) ?_
                      exact ih _ _ _ _ _ hw hP hS (lv_sub hl [4, 5, 6, 1, 0] rfl)
                    · have hw := hw.2 c9
                      refine lv_iload hx hb dX10_least_120 (lv_at hl 6 rfl) ?_
                      refine lv_goto (tgt := 126) hx hb dX10_least_122 (by decide) ?_
                      refine lv_istore_n (lv' := [(3, .int v4), (6, .int x12), (5, .int x9), (0, .ref (am 0)), (1, .int u1), (2, .int u2), (4, .int v4)]) hx hb dX10_least_126 rfl hl (by decide) rfl (fun ls hl => ?_)
                      obtain ⟨x18, ex18⟩ : ∃ z : Int32, z = v4 + (1 : Int32) := ⟨_, rfl⟩
                      refine lv_iinc (v := x18) (lv' := [(4, .int x18), (3, .int v4), (6, .int x12), (5, .int x9), (0, .ref (am 0)), (1, .int u1), (2, .int u2)]) hx hb dX10_least_127 hl (k := 6) rfl (by rw [ex18]; rfl) (by decide) rfl (fun ls hl => ?_)
                      have hw := hw x18 ex18
                      refine lv_goto (tgt := 26) hx hb dX10_least_130 (by decide) ?_
                      exact ih _ _ _ _ _ hw hP hS (lv_sub hl [4, 5, 6, 1, 0] rfl)
  have hl := lv_entry ([.ref (am 0), .int a1]) (n := 7) (Nat.le_of_ble_eq_true rfl)
  rw [lg_entry_eq]
  generalize (lg_sl ([.ref (am 0), .int a1]) ++ List.replicate (7 - (lg_sl ([.ref (am 0), .int a1])).length) Slot.unset).toArray = ls at hl ⊢
  have hl : lv_has ls 7 [(0, .ref (am 0)), (1, .int a1)] := hl
  unfold wX10_least at hw
  refine lv_aload_n hx hb dX10_least_0 rfl (lv_at hl 0 rfl) ?_
  refine lv_iload_n hx hb dX10_least_1 rfl (lv_at hl 1 rfl) ?_
  refine wd_cVi ⟨hx, hb, hml, hown, hts⟩ (mtX10_isPerson l D am cI cJ cZ A hD σ0 a1 _ hw) (cwV 1 hts gX10_least_X10_isPerson rfl rfl rfl (by decide +kernel) ⟨(Nat.le_of_ble_eq_true rfl), (Nat.le_of_ble_eq_true rfl)⟩) (va_recv hK hP (ci := 10) (q0 := 0) rfl (mw_q0 am cI cJ cZ σ0)) hK hN hP hS rfl hl.1 rfl (Nat.le_of_ble_eq_true rfl) dX10_least_2 ⟨Nat.zero_le _, Nat.zero_le _⟩ (fun r1 u9 H locs hq hP hS => ?_)
  obtain ⟨hw, hu⟩ := hq
  rw [hu] at hP
  refine lv_if_ne (tgt := 10) hx hb dX10_least_5 (by decide) (fun c9 => ?_) (fun c9 => ?_)
  · have hw := hw.1 c9
    refine lv_aload_n hx hb dX10_least_10 rfl (lv_at hl 0 rfl) ?_
    refine lv_iload_n hx hb dX10_least_11 rfl (lv_at hl 1 rfl) ?_
    refine wd_cVi ⟨hx, hb, hml, hown, hts⟩ (mtX10_keptOf l D am cI cJ cZ A hD σ0 a1 _ hw) (cwV 1 hts gX10_least_X10_keptOf rfl rfl rfl (by decide +kernel) ⟨(Nat.le_of_ble_eq_true rfl), (Nat.le_of_ble_eq_true rfl)⟩) (va_recv hK hP (ci := 10) (q0 := 0) rfl (mw_q0 am cI cJ cZ σ0)) hK hN hP hS rfl hl.1 rfl (Nat.le_of_ble_eq_true rfl) dX10_least_12 ⟨Nat.zero_le _, Nat.zero_le _⟩ (fun r2 u9 H locs hq hP hS => ?_)
    obtain ⟨hw, hu⟩ := hq
    rw [hu] at hP
    refine lv_istore_n (lv' := [(2, .int r2), (0, .ref (am 0)), (1, .int a1)]) hx hb dX10_least_15 rfl hl (by decide) rfl (fun ls hl => ?_)
    refine lv_aload_n hx hb dX10_least_16 rfl (lv_at hl 1 rfl) ?_
    refine va_get hx hb hts iX10 hown hK hP 0 (mw_q0 am cI cJ cZ σ0) rfl 4 (by decide) f16 (fun _ h9 => h9) rfl dX10_least_17 ?_
    refine lv_iload_n hx hb dX10_least_20 rfl (lv_at hl 2 rfl) ?_
    obtain ⟨h9, hw⟩ := hw
    refine va_iald hx hb hK hP 3 0 (mw_q3 am cI cJ cZ σ0) rfl h9 dX10_least_21 ?_
    refine lv_topi (fun x3 ex3 => ?_)
    have hw := hw x3 ex3
    refine lv_istore_n (lv' := [(3, .int x3), (2, .int r2), (0, .ref (am 0)), (1, .int a1)]) hx hb dX10_least_22 rfl hl (by decide) rfl (fun ls hl => ?_)
    refine lv_iconst (v := 0) hx hb dX10_least_23 (by decide) ?_
    refine lv_istore (lv' := [(4, .int (0 : Int32)), (3, .int x3), (2, .int r2), (0, .ref (am 0)), (1, .int a1)]) hx hb dX10_least_24 hl (by decide) rfl (fun ls hl => ?_)
    obtain ⟨n9, hw⟩ := hw
    refine L26 a1 r2 n9 x3 (0 : Int32) _ _ _ hw hP hS (lv_sub hl [3, 4, 2, 1, 0] rfl)
  · have hw := hw.2 c9
    refine lv_iconst (v := -1) hx hb dX10_least_8 (by decide) ?_
    exact wd_iret hx hb hr hlocks ⟨hw, rfl⟩ hP hS dX10_least_9
def lpX10_badRole_2 (σ0 : St) (post : Int32 → Prop) : Nat → Int32 → Prop
  | 0, _ => False
  | n + 1, v1 => ((σ0.1 10) ≤ v1 → (post (-9 : Int32))) ∧ (¬ (σ0.1 10) ≤ v1 → (vp_in v1 64 ∧ (wX10_isBad σ0 (σ0.2.1 10 v1.toNatClampNeg) (fun (r1 : Int32) => (r1 = 0 → (∀ x2 : Int32, x2 = v1 + (1 : Int32) → (lpX10_badRole_2 σ0 post n x2))) ∧ (¬ r1 = 0 → (post v1))))))
def wX10_badRole (σ0 : St) (post : Int32 → Prop) : Prop := ∃ n3 : Nat, lpX10_badRole_2 σ0 post n3 (0 : Int32)
set_option maxHeartbeats 4000000 in
set_option maxRecDepth 100000 in
theorem mtX10_badRole (l : Launch) (D : va_G) (am : Nat → Nat) (cI cJ cZ : ClassId) (A : Nat → Prop) (hD : ∀ σ : St, va_D A (mw am cI cJ cZ σ)) (σ0 : St) (post : Int32 → Prop) (hw : wX10_badRole σ0 post) : Met l yX10_badRole wsX10_badRole ({ frames := 2, cells := 0, slots := 0, locals := 44 } : Room) (va_Pc [.ref (am 0)] (wd_pre D (mw am cI cJ cZ) (wd_tys cI cJ cZ) σ0)) (va_Qi (fun (r : Int32) (u : St) => post r ∧ u = σ0) (wd_B D (mw am cI cJ cZ)) A) 0 0 A := by
  refine Met.ofW (cc := cX10_badRole) (maxL := 2) (ret := (some .int)) (by decide) rfl ?_
  intro p e s m args below meth c s₁ B hml hv
  obtain ⟨rfl, hP, hK, hN⟩ := hv
  have hx := B.exec
  have hb := B.bytes
  have hr := B.returns
  have hts := atoms_spec (ws := wsX10_badRole) B.pre
  have hown : s.vm.findClass RX10 = some m.cls := findClass_of_methodNamed B.named
  have hlocks := B.notSynchronized
  have hS : va_S A s.heap s.heap [] := va_S.rf
  have f138 := hts (.fieldLink RX10 138 "LeastRightsModel" "roleMany" "I") (by decide +kernel)
  have iX10 : ∀ w ∈ wsX100, w ∈ wsX10_badRole := by decide +kernel
  have f51 := hts (.fieldLink RX10 51 "LeastRightsModel" "roles" "[I") (by decide +kernel)
  have L2 : ∀ (n : Nat) (v1 : Int32) (H : Heap) (locs : List Loc) (ls : Array Slot), lpX10_badRole_2 σ0 post n v1 → va_P D vwCl (mw am cI cJ cZ σ0) H → va_S A s.heap H locs → lv_has ls 2 [(0, .ref (am 0)), (1, .int v1)] → W p l e (headSpec wsX10_badRole ({ frames := 2, cells := 0, slots := 0, locals := 44 } : Room)).room s m ([.ref (am 0)] : List Value).toArray below meth c H locs 0 0 (MQ below (va_Qi (fun (r : Int32) (u : St) => post r ∧ u = σ0) (wd_B D (mw am cI cJ cZ)) A) ([.ref (am 0)] : List Value).toArray s 0 0 A) (F0 m 2 ls []) := by
    intro n
    induction n with
    | zero => intro v1 H locs ls hw; exact hw.elim
    | succ n ih =>
      intro v1 H locs ls hw hP hS hl
      rw [lpX10_badRole_2] at hw
      refine lv_iload_n hx hb dX10_badRole_2 rfl (lv_at hl 1 rfl) ?_
      refine lv_aload_n hx hb dX10_badRole_3 rfl (lv_at hl 0 rfl) ?_
      refine va_get hx hb hts iX10 hown hK hP 0 (mw_q0 am cI cJ cZ σ0) rfl 20 (by decide) f138 (fun _ h9 => h9) rfl dX10_badRole_4 ?_
      refine lv_icmp_ge (tgt := 31) hx hb dX10_badRole_7 (by decide) (fun c9 => ?_) (fun c9 => ?_)
      · have hw := hw.1 c9
        refine lv_bipush (v := -9) hx hb dX10_badRole_31 (by decide) ?_
        exact wd_iret hx hb hr hlocks ⟨hw, rfl⟩ hP hS dX10_badRole_33
      · have hw := hw.2 c9
        refine lv_aload_n hx hb dX10_badRole_10 rfl (lv_at hl 0 rfl) ?_
        refine lv_aload_n hx hb dX10_badRole_11 rfl (lv_at hl 0 rfl) ?_
        refine va_get hx hb hts iX10 hown hK hP 0 (mw_q0 am cI cJ cZ σ0) rfl 21 (by decide) f51 (fun _ h9 => h9) rfl dX10_badRole_12 ?_
        refine lv_iload_n hx hb dX10_badRole_15 rfl (lv_at hl 1 rfl) ?_
        obtain ⟨h9, hw⟩ := hw
        refine va_iald hx hb hK hP 11 0 (mw_q11 am cI cJ cZ σ0) rfl h9 dX10_badRole_16 ?_
        refine wd_cVi ⟨hx, hb, hml, hown, hts⟩ (mtX10_isBad l D am cI cJ cZ A hD σ0 (σ0.2.1 10 v1.toNatClampNeg) _ hw) (cwV 1 hts gX10_badRole_X10_isBad rfl rfl rfl (by decide +kernel) ⟨(Nat.le_of_ble_eq_true rfl), (Nat.le_of_ble_eq_true rfl)⟩) (va_recv hK hP (ci := 10) (q0 := 0) rfl (mw_q0 am cI cJ cZ σ0)) hK hN hP hS rfl hl.1 rfl (Nat.le_of_ble_eq_true rfl) dX10_badRole_17 ⟨Nat.zero_le _, Nat.zero_le _⟩ (fun r1 u9 H locs hq hP hS => ?_)
        obtain ⟨hw, hu⟩ := hq
        rw [hu] at hP
        refine lv_if_eq (tgt := 25) hx hb dX10_badRole_20 (by decide) (fun c9 => ?_) (fun c9 => ?_)
        · have hw := hw.1 c9
          obtain ⟨x2, ex2⟩ : ∃ z : Int32, z = v1 + (1 : Int32) := ⟨_, rfl⟩
          refine lv_iinc (v := x2) (lv' := [(1, .int x2), (0, .ref (am 0))]) hx hb dX10_badRole_25 hl (k := 1) rfl (by rw [ex2]; rfl) (by decide) rfl (fun ls hl => ?_)
          have hw := hw x2 ex2
          refine lv_goto (tgt := 2) hx hb dX10_badRole_28 (by decide) ?_
          exact ih _ _ _ _ hw hP hS (lv_sub hl [1, 0] rfl)
        · have hw := hw.2 c9
          refine lv_iload_n hx hb dX10_badRole_23 rfl (lv_at hl 1 rfl) ?_
          exact wd_iret hx hb hr hlocks ⟨hw, rfl⟩ hP hS dX10_badRole_24
  have hl := lv_entry ([.ref (am 0)]) (n := 2) (Nat.le_of_ble_eq_true rfl)
  rw [lg_entry_eq]
  generalize (lg_sl ([.ref (am 0)]) ++ List.replicate (2 - (lg_sl ([.ref (am 0)])).length) Slot.unset).toArray = ls at hl ⊢
  have hl : lv_has ls 2 [(0, .ref (am 0))] := hl
  unfold wX10_badRole at hw
  refine lv_iconst (v := 0) hx hb dX10_badRole_0 (by decide) ?_
  refine lv_istore_n (lv' := [(1, .int (0 : Int32)), (0, .ref (am 0))]) hx hb dX10_badRole_1 rfl hl (by decide) rfl (fun ls hl => ?_)
  obtain ⟨n9, hw⟩ := hw
  refine L2 n9 (0 : Int32) _ _ _ hw hP hS (lv_sub hl [1, 0] rfl)
def lpX10_plan_12 (u1 : Int32) (post : Int32 → St → Prop) : Nat → Int32 → Int32 → St → Prop
  | 0, _, _, _ => False
  | n + 1, v2, v3, σ => ((σ.1 1) ≤ v3 → (post v2 σ)) ∧ (¬ (σ.1 1) ≤ v3 → ((u1 = 0 → (vp_in v3 10 ∧ (vp_in v3 10 ∧ (∀ σ2 : St, σ2 = st_A σ 15 v3.toNatClampNeg (σ.2.1 2 v3.toNatClampNeg) → (vp_in v3 10 ∧ (wX10_bits (σ2.2.1 15 v3.toNatClampNeg) (fun (r3 : Int32) => ∀ x4 : Int32, x4 = (v2 + r3) → (∀ x5 : Int32, x5 = v3 + (1 : Int32) → (lpX10_plan_12 u1 post n x4 x5 σ2))))))))) ∧ (¬ u1 = 0 → (wX10_keptOf σ v3 (fun (r6 : Int32) => vp_in v3 10 ∧ (∀ σ7 : St, σ7 = st_A σ 15 v3.toNatClampNeg r6 → (vp_in v3 10 ∧ (wX10_bits (σ7.2.1 15 v3.toNatClampNeg) (fun (r8 : Int32) => ∀ x9 : Int32, x9 = (v2 + r8) → (∀ x10 : Int32, x10 = v3 + (1 : Int32) → (lpX10_plan_12 u1 post n x9 x10 σ7)))))))))))
def wX10_plan (σ0 : St) (a1 : Int32) (post : Int32 → St → Prop) : Prop := ∀ σ1 : St, σ1 = st_S σ0 12 (σ0.1 1) → (∃ n11 : Nat, lpX10_plan_12 a1 post n11 (0 : Int32) (0 : Int32) σ1)
set_option maxHeartbeats 4000000 in
set_option maxRecDepth 100000 in
theorem mtX10_plan (l : Launch) (D : va_G) (am : Nat → Nat) (cI cJ cZ : ClassId) (A : Nat → Prop) (hD : ∀ σ : St, va_D A (mw am cI cJ cZ σ)) (σ0 : St) (a1 : Int32) (post : Int32 → St → Prop) (hw : wX10_plan σ0 a1 post) : Met l yX10_plan wsX10_plan ({ frames := 3, cells := 0, slots := 0, locals := 71 } : Room) (va_Pc [.ref (am 0), .int a1] (wd_pre D (mw am cI cJ cZ) (wd_tys cI cJ cZ) σ0)) (va_Qi post (wd_B D (mw am cI cJ cZ)) A) 0 0 A := by
  refine Met.ofW (cc := cX10_plan) (maxL := 4) (ret := (some .int)) (by decide) rfl ?_
  intro p e s m args below meth c s₁ B hml hv
  obtain ⟨rfl, hP, hK, hN⟩ := hv
  have hx := B.exec
  have hb := B.bytes
  have hr := B.returns
  have hts := atoms_spec (ws := wsX10_plan) B.pre
  have hown : s.vm.findClass RX10 = some m.cls := findClass_of_methodNamed B.named
  have hlocks := B.notSynchronized
  have hS : va_S A s.heap s.heap [] := va_S.rf
  have f84 := hts (.fieldLink RX10 84 "LeastRightsModel" "people" "I") (by decide +kernel)
  have iX10 : ∀ w ∈ wsX100, w ∈ wsX10_plan := by decide +kernel
  have f66 := hts (.fieldLink RX10 66 "LeastRightsModel" "planned" "I") (by decide +kernel)
  have f69 := hts (.fieldLink RX10 69 "LeastRightsModel" "plans" "[I") (by decide +kernel)
  have f16 := hts (.fieldLink RX10 16 "LeastRightsModel" "rights" "[I") (by decide +kernel)
  have L12 : ∀ (u1 : Int32) (n : Nat) (v2 : Int32) (v3 : Int32) (σ : St) (H : Heap) (locs : List Loc) (ls : Array Slot), lpX10_plan_12 u1 post n v2 v3 σ → va_P D vwCl (mw am cI cJ cZ σ) H → va_S A s.heap H locs → lv_has ls 4 [(0, .ref (am 0)), (1, .int u1), (2, .int v2), (3, .int v3)] → W p l e (headSpec wsX10_plan ({ frames := 3, cells := 0, slots := 0, locals := 71 } : Room)).room s m ([.ref (am 0), .int a1] : List Value).toArray below meth c H locs 0 0 (MQ below (va_Qi post (wd_B D (mw am cI cJ cZ)) A) ([.ref (am 0), .int a1] : List Value).toArray s 0 0 A) (F0 m 12 ls []) := by
    intro u1 n
    induction n with
    | zero => intro v2 v3 σ H locs ls hw; exact hw.elim
    | succ n ih =>
      intro v2 v3 σ H locs ls hw hP hS hl
      rw [lpX10_plan_12] at hw
      refine lv_iload_n hx hb dX10_plan_12 rfl (lv_at hl 3 rfl) ?_
      refine lv_aload_n hx hb dX10_plan_13 rfl (lv_at hl 0 rfl) ?_
      refine va_get hx hb hts iX10 hown hK hP 0 (mw_q0 am cI cJ cZ σ) rfl 2 (by decide) f84 (fun _ h9 => h9) rfl dX10_plan_14 ?_
      refine lv_icmp_ge (tgt := 62) hx hb dX10_plan_17 (by decide) (fun c9 => ?_) (fun c9 => ?_)
      · have hw := hw.1 c9
        refine lv_iload_n hx hb dX10_plan_62 rfl (lv_at hl 2 rfl) ?_
        exact wd_iret hx hb hr hlocks hw hP hS dX10_plan_63
      · have hw := hw.2 c9
        refine lv_aload_n hx hb dX10_plan_20 rfl (lv_at hl 0 rfl) ?_
        refine va_get hx hb hts iX10 hown hK hP 0 (mw_q0 am cI cJ cZ σ) rfl 28 (by decide) f69 (fun _ h9 => h9) rfl dX10_plan_21 ?_
        refine lv_iload_n hx hb dX10_plan_24 rfl (lv_at hl 3 rfl) ?_
        refine lv_iload_n hx hb dX10_plan_25 rfl (lv_at hl 1 rfl) ?_
        refine lv_if_eq (tgt := 37) hx hb dX10_plan_26 (by decide) (fun c9 => ?_) (fun c9 => ?_)
        · have hw := hw.1 c9
          refine lv_aload_n hx hb dX10_plan_37 rfl (lv_at hl 0 rfl) ?_
          refine va_get hx hb hts iX10 hown hK hP 0 (mw_q0 am cI cJ cZ σ) rfl 4 (by decide) f16 (fun _ h9 => h9) rfl dX10_plan_38 ?_
          refine lv_iload_n hx hb dX10_plan_41 rfl (lv_at hl 3 rfl) ?_
          obtain ⟨h9, hw⟩ := hw
          refine va_iald hx hb hK hP 3 0 (mw_q3 am cI cJ cZ σ) rfl h9 dX10_plan_42 ?_
          obtain ⟨h9, hw⟩ := hw
          refine wd_iast 15 16 hx hb hK hP hD hS (mw_q16 am cI cJ cZ σ) rfl (mw_a15 am cI cJ cZ σ) h9 dX10_plan_43 (fun H locs σ2 eσ2 hP hS => ?_)
          have hw := hw σ2 eσ2
          refine lv_iload_n hx hb dX10_plan_44 rfl (lv_at hl 2 rfl) ?_
          refine lv_aload_n hx hb dX10_plan_45 rfl (lv_at hl 0 rfl) ?_
          refine va_get hx hb hts iX10 hown hK hP 0 (mw_q0 am cI cJ cZ σ2) rfl 28 (by decide) f69 (fun _ h9 => h9) rfl dX10_plan_46 ?_
          refine lv_iload_n hx hb dX10_plan_49 rfl (lv_at hl 3 rfl) ?_
          obtain ⟨h9, hw⟩ := hw
          refine va_iald hx hb hK hP 16 0 (mw_q16 am cI cJ cZ σ2) rfl h9 dX10_plan_50 ?_
          refine wd_cSi ⟨hx, hb, hml, hown, hts⟩ (mtX10_bits l D am cI cJ cZ A hD σ2 (σ2.2.1 15 v3.toNatClampNeg) _ hw) (va_cwS 1 hts gX10_plan_X10_bits rfl rfl rfl (by decide +kernel) ⟨(Nat.le_of_ble_eq_true rfl), (Nat.le_of_ble_eq_true rfl)⟩) hK hN hP hS rfl hl.1 rfl (Nat.le_of_ble_eq_true rfl) dX10_plan_51 ⟨Nat.zero_le _, Nat.zero_le _⟩ (fun r3 u9 H locs hq hP hS => ?_)
          obtain ⟨hw, hu⟩ := hq
          rw [hu] at hP
          refine lv_iadd hx hb dX10_plan_54 ?_
          refine lv_topi (fun x4 ex4 => ?_)
          have hw := hw x4 ex4
          refine lv_istore_n (lv' := [(2, .int x4), (0, .ref (am 0)), (1, .int u1), (3, .int v3)]) hx hb dX10_plan_55 rfl hl (by decide) rfl (fun ls hl => ?_)
          obtain ⟨x5, ex5⟩ : ∃ z : Int32, z = v3 + (1 : Int32) := ⟨_, rfl⟩
          refine lv_iinc (v := x5) (lv' := [(3, .int x5), (2, .int x4), (0, .ref (am 0)), (1, .int u1)]) hx hb dX10_plan_56 hl (k := 3) rfl (by rw [ex5]; rfl) (by decide) rfl (fun ls hl => ?_)
          have hw := hw x5 ex5
          refine lv_goto (tgt := 12) hx hb dX10_plan_59 (by decide) ?_
          exact ih _ _ _ _ _ _ hw hP hS (lv_sub hl [2, 3, 1, 0] rfl)
        · have hw := hw.2 c9
          refine lv_aload_n hx hb dX10_plan_29 rfl (lv_at hl 0 rfl) ?_
          refine lv_iload_n hx hb dX10_plan_30 rfl (lv_at hl 3 rfl) ?_
          refine wd_cVi ⟨hx, hb, hml, hown, hts⟩ (mtX10_keptOf l D am cI cJ cZ A hD σ v3 _ hw) (cwV 1 hts gX10_plan_X10_keptOf rfl rfl rfl (by decide +kernel) ⟨(Nat.le_of_ble_eq_true rfl), (Nat.le_of_ble_eq_true rfl)⟩) (va_recv hK hP (ci := 10) (q0 := 0) rfl (mw_q0 am cI cJ cZ σ)) hK hN hP hS rfl hl.1 rfl (Nat.le_of_ble_eq_true rfl) dX10_plan_31 ⟨Nat.zero_le _, Nat.zero_le _⟩ (fun r6 u9 H locs hq hP hS => ?_)
          obtain ⟨hw, hu⟩ := hq
          rw [hu] at hP
          refine lv_goto (tgt := 43) hx hb dX10_plan_34 (by decide) ?_
          obtain ⟨h9, hw⟩ := hw
          refine wd_iast 15 16 hx hb hK hP hD hS (mw_q16 am cI cJ cZ σ) rfl (mw_a15 am cI cJ cZ σ) h9 dX10_plan_43 (fun H locs σ7 eσ7 hP hS => ?_)
          have hw := hw σ7 eσ7
          refine lv_iload_n hx hb dX10_plan_44 rfl (lv_at hl 2 rfl) ?_
          refine lv_aload_n hx hb dX10_plan_45 rfl (lv_at hl 0 rfl) ?_
          refine va_get hx hb hts iX10 hown hK hP 0 (mw_q0 am cI cJ cZ σ7) rfl 28 (by decide) f69 (fun _ h9 => h9) rfl dX10_plan_46 ?_
          refine lv_iload_n hx hb dX10_plan_49 rfl (lv_at hl 3 rfl) ?_
          obtain ⟨h9, hw⟩ := hw
          refine va_iald hx hb hK hP 16 0 (mw_q16 am cI cJ cZ σ7) rfl h9 dX10_plan_50 ?_
          refine wd_cSi ⟨hx, hb, hml, hown, hts⟩ (mtX10_bits l D am cI cJ cZ A hD σ7 (σ7.2.1 15 v3.toNatClampNeg) _ hw) (va_cwS 1 hts gX10_plan_X10_bits rfl rfl rfl (by decide +kernel) ⟨(Nat.le_of_ble_eq_true rfl), (Nat.le_of_ble_eq_true rfl)⟩) hK hN hP hS rfl hl.1 rfl (Nat.le_of_ble_eq_true rfl) dX10_plan_51 ⟨Nat.zero_le _, Nat.zero_le _⟩ (fun r8 u9 H locs hq hP hS => ?_)
          obtain ⟨hw, hu⟩ := hq
          rw [hu] at hP
          refine lv_iadd hx hb dX10_plan_54 ?_
          refine lv_topi (fun x9 ex9 => ?_)
          have hw := hw x9 ex9
          refine lv_istore_n (lv' := [(2, .int x9), (0, .ref (am 0)), (1, .int u1), (3, .int v3)]) hx hb dX10_plan_55 rfl hl (by decide) rfl (fun ls hl => ?_)
          obtain ⟨x10, ex10⟩ : ∃ z : Int32, z = v3 + (1 : Int32) := ⟨_, rfl⟩
          refine lv_iinc (v := x10) (lv' := [(3, .int x10), (2, .int x9), (0, .ref (am 0)), (1, .int u1)]) hx hb dX10_plan_56 hl (k := 3) rfl (by rw [ex10]; rfl) (by decide) rfl (fun ls hl => ?_)
          have hw := hw x10 ex10
          refine lv_goto (tgt := 12) hx hb dX10_plan_59 (by decide) ?_
          exact ih _ _ _ _ _ _ hw hP hS (lv_sub hl [2, 3, 1, 0] rfl)
  have hl := lv_entry ([.ref (am 0), .int a1]) (n := 4) (Nat.le_of_ble_eq_true rfl)
  rw [lg_entry_eq]
  generalize (lg_sl ([.ref (am 0), .int a1]) ++ List.replicate (4 - (lg_sl ([.ref (am 0), .int a1])).length) Slot.unset).toArray = ls at hl ⊢
  have hl : lv_has ls 4 [(0, .ref (am 0)), (1, .int a1)] := hl
  unfold wX10_plan at hw
  refine lv_iconst (v := 0) hx hb dX10_plan_0 (by decide) ?_
  refine lv_istore_n (lv' := [(2, .int (0 : Int32)), (0, .ref (am 0)), (1, .int a1)]) hx hb dX10_plan_1 rfl hl (by decide) rfl (fun ls hl => ?_)
  refine lv_aload_n hx hb dX10_plan_2 rfl (lv_at hl 1 rfl) ?_
  refine lv_aload_n hx hb dX10_plan_3 rfl (lv_at hl 1 rfl) ?_
  refine va_get hx hb hts iX10 hown hK hP 0 (mw_q0 am cI cJ cZ σ0) rfl 2 (by decide) f84 (fun _ h9 => h9) rfl dX10_plan_4 ?_
  refine wd_put 12 0 27 (ty := .int) tyX10 hx hb hts iX10 tyX10_ok nmX10 hown hK hP hD hS (mw_q0 am cI cJ cZ σ0) rfl (by decide) f66 (fun _ h9 => h9) rfl (by decide +kernel) rfl rfl (Nat.le_of_ble_eq_true rfl) (mw_s12 am cI cJ cZ σ0) dX10_plan_7 (fun H locs σ1 eσ1 hP hS => ?_)
  have hw := hw σ1 eσ1
  refine lv_iconst (v := 0) hx hb dX10_plan_10 (by decide) ?_
  refine lv_istore_n (lv' := [(3, .int (0 : Int32)), (2, .int (0 : Int32)), (0, .ref (am 0)), (1, .int a1)]) hx hb dX10_plan_11 rfl hl (by decide) rfl (fun ls hl => ?_)
  obtain ⟨n9, hw⟩ := hw
  refine L12 a1 n9 (0 : Int32) (0 : Int32) σ1 _ _ _ hw hP hS (lv_sub hl [2, 3, 1, 0] rfl)
def wX10_takeOut (σ0 : St) (a1 : Int32) (a2 : Int32) (post : Int32 → St → Prop) : Prop := wX10_isPerson σ0 a1 (fun (r1 : Int32) => (r1 = 0 → (post (-1 : Int32) σ0)) ∧ (¬ r1 = 0 → (wX10_isRight a2 (fun (r2 : Int32) => (r2 = 0 → (post (-1 : Int32) σ0)) ∧ (¬ r2 = 0 → (((σ0.1 12) < 0 → ((0 ≤ (σ0.1 12) → (vp_in a1 10 ∧ (wX10_has (σ0.2.1 15 a1.toNatClampNeg) a2 (fun (r3 : Int32) => (r3 = 0 → (vp_in a1 10 ∧ (vp_in a1 10 ∧ (∀ σ4 : St, σ4 = st_A σ0 15 a1.toNatClampNeg ((σ0.2.1 15 a1.toNatClampNeg) &&& (((1 : Int32) <<< (a2 &&& 31)) ^^^ (-1 : Int32))) → (post (0 : Int32) σ4))))) ∧ (¬ r3 = 0 → (vp_in a1 10 ∧ (vp_in a1 10 ∧ (∀ σ5 : St, σ5 = st_A σ0 15 a1.toNatClampNeg ((σ0.2.1 15 a1.toNatClampNeg) &&& (((1 : Int32) <<< (a2 &&& 31)) ^^^ (-1 : Int32))) → (post (1 : Int32) σ5))))))))) ∧ (¬ 0 ≤ (σ0.1 12) → (post (-4 : Int32) σ0)))) ∧ (¬ (σ0.1 12) < 0 → ((a1 < (σ0.1 12) → ((0 ≤ (σ0.1 12) → (vp_in a1 10 ∧ (wX10_has (σ0.2.1 15 a1.toNatClampNeg) a2 (fun (r6 : Int32) => (r6 = 0 → (vp_in a1 10 ∧ (vp_in a1 10 ∧ (∀ σ7 : St, σ7 = st_A σ0 15 a1.toNatClampNeg ((σ0.2.1 15 a1.toNatClampNeg) &&& (((1 : Int32) <<< (a2 &&& 31)) ^^^ (-1 : Int32))) → (post (0 : Int32) σ7))))) ∧ (¬ r6 = 0 → (vp_in a1 10 ∧ (vp_in a1 10 ∧ (∀ σ8 : St, σ8 = st_A σ0 15 a1.toNatClampNeg ((σ0.2.1 15 a1.toNatClampNeg) &&& (((1 : Int32) <<< (a2 &&& 31)) ^^^ (-1 : Int32))) → (post (1 : Int32) σ8))))))))) ∧ (¬ 0 ≤ (σ0.1 12) → (post (-4 : Int32) σ0)))) ∧ (¬ a1 < (σ0.1 12) → (post (-1 : Int32) σ0))))))))))
set_option maxHeartbeats 4000000 in
set_option maxRecDepth 100000 in
theorem mtX10_takeOut (l : Launch) (D : va_G) (am : Nat → Nat) (cI cJ cZ : ClassId) (A : Nat → Prop) (hD : ∀ σ : St, va_D A (mw am cI cJ cZ σ)) (σ0 : St) (a1 : Int32) (a2 : Int32) (post : Int32 → St → Prop) (hw : wX10_takeOut σ0 a1 a2 post) : Met l yX10_takeOut wsX10_takeOut ({ frames := 2, cells := 0, slots := 0, locals := 43 } : Room) (va_Pc [.ref (am 0), .int a1, .int a2] (wd_pre D (mw am cI cJ cZ) (wd_tys cI cJ cZ) σ0)) (va_Qi post (wd_B D (mw am cI cJ cZ)) A) 0 0 A := by
  refine Met.ofW (cc := cX10_takeOut) (maxL := 4) (ret := (some .int)) (by decide) rfl ?_
  intro p e s m args below meth c s₁ B hml hv
  obtain ⟨rfl, hP, hK, hN⟩ := hv
  have hx := B.exec
  have hb := B.bytes
  have hr := B.returns
  have hts := atoms_spec (ws := wsX10_takeOut) B.pre
  have hown : s.vm.findClass RX10 = some m.cls := findClass_of_methodNamed B.named
  have hlocks := B.notSynchronized
  have hS : va_S A s.heap s.heap [] := va_S.rf
  have f66 := hts (.fieldLink RX10 66 "LeastRightsModel" "planned" "I") (by decide +kernel)
  have iX10 : ∀ w ∈ wsX100, w ∈ wsX10_takeOut := by decide +kernel
  have f69 := hts (.fieldLink RX10 69 "LeastRightsModel" "plans" "[I") (by decide +kernel)
  have hl := lv_entry ([.ref (am 0), .int a1, .int a2]) (n := 4) (Nat.le_of_ble_eq_true rfl)
  rw [lg_entry_eq]
  generalize (lg_sl ([.ref (am 0), .int a1, .int a2]) ++ List.replicate (4 - (lg_sl ([.ref (am 0), .int a1, .int a2])).length) Slot.unset).toArray = ls at hl ⊢
  have hl : lv_has ls 4 [(0, .ref (am 0)), (1, .int a1), (2, .int a2)] := hl
  unfold wX10_takeOut at hw
  refine lv_aload_n hx hb dX10_takeOut_0 rfl (lv_at hl 0 rfl) ?_
  refine lv_iload_n hx hb dX10_takeOut_1 rfl (lv_at hl 1 rfl) ?_
  refine wd_cVi ⟨hx, hb, hml, hown, hts⟩ (mtX10_isPerson l D am cI cJ cZ A hD σ0 a1 _ hw) (cwV 1 hts gX10_takeOut_X10_isPerson rfl rfl rfl (by decide +kernel) ⟨(Nat.le_of_ble_eq_true rfl), (Nat.le_of_ble_eq_true rfl)⟩) (va_recv hK hP (ci := 10) (q0 := 0) rfl (mw_q0 am cI cJ cZ σ0)) hK hN hP hS rfl hl.1 rfl (Nat.le_of_ble_eq_true rfl) dX10_takeOut_2 ⟨Nat.zero_le _, Nat.zero_le _⟩ (fun r1 u9 H locs hq hP hS => ?_)
  obtain ⟨hw, hu⟩ := hq
  rw [hu] at hP
  refine lv_if_eq (tgt := 30) hx hb dX10_takeOut_5 (by decide) (fun c9 => ?_) (fun c9 => ?_)
  · have hw := hw.1 c9
    refine lv_iconst (v := -1) hx hb dX10_takeOut_30 (by decide) ?_
    exact wd_iret hx hb hr hlocks hw hP hS dX10_takeOut_31
  · have hw := hw.2 c9
    refine lv_iload_n hx hb dX10_takeOut_8 rfl (lv_at hl 2 rfl) ?_
    refine wd_cSi ⟨hx, hb, hml, hown, hts⟩ (mtX10_isRight l D am cI cJ cZ A hD σ0 a2 _ hw) (va_cwS 1 hts gX10_takeOut_X10_isRight rfl rfl rfl (by decide +kernel) ⟨(Nat.le_of_ble_eq_true rfl), (Nat.le_of_ble_eq_true rfl)⟩) hK hN hP hS rfl hl.1 rfl (Nat.le_of_ble_eq_true rfl) dX10_takeOut_9 ⟨Nat.zero_le _, Nat.zero_le _⟩ (fun r2 u9 H locs hq hP hS => ?_)
    obtain ⟨hw, hu⟩ := hq
    rw [hu] at hP
    refine lv_if_eq (tgt := 30) hx hb dX10_takeOut_12 (by decide) (fun c9 => ?_) (fun c9 => ?_)
    · have hw := hw.1 c9
      refine lv_iconst (v := -1) hx hb dX10_takeOut_30 (by decide) ?_
      exact wd_iret hx hb hr hlocks hw hP hS dX10_takeOut_31
    · have hw := hw.2 c9
      refine lv_aload_n hx hb dX10_takeOut_15 rfl (lv_at hl 0 rfl) ?_
      refine va_get hx hb hts iX10 hown hK hP 0 (mw_q0 am cI cJ cZ σ0) rfl 27 (by decide) f66 (fun _ h9 => h9) rfl dX10_takeOut_16 ?_
      refine lv_if_lt (tgt := 32) hx hb dX10_takeOut_19 (by decide) (fun c9 => ?_) (fun c9 => ?_)
      · have hw := hw.1 c9
        refine lv_aload_n hx hb dX10_takeOut_32 rfl (lv_at hl 0 rfl) ?_
        refine va_get hx hb hts iX10 hown hK hP 0 (mw_q0 am cI cJ cZ σ0) rfl 27 (by decide) f66 (fun _ h9 => h9) rfl dX10_takeOut_33 ?_
        refine lv_if_ge (tgt := 42) hx hb dX10_takeOut_36 (by decide) (fun c9 => ?_) (fun c9 => ?_)
        · have hw := hw.1 c9
          refine lv_aload_n hx hb dX10_takeOut_42 rfl (lv_at hl 0 rfl) ?_
          refine va_get hx hb hts iX10 hown hK hP 0 (mw_q0 am cI cJ cZ σ0) rfl 28 (by decide) f69 (fun _ h9 => h9) rfl dX10_takeOut_43 ?_
          refine lv_iload_n hx hb dX10_takeOut_46 rfl (lv_at hl 1 rfl) ?_
          obtain ⟨h9, hw⟩ := hw
          refine va_iald hx hb hK hP 16 0 (mw_q16 am cI cJ cZ σ0) rfl h9 dX10_takeOut_47 ?_
          refine lv_iload_n hx hb dX10_takeOut_48 rfl (lv_at hl 2 rfl) ?_
          refine wd_cSi ⟨hx, hb, hml, hown, hts⟩ (mtX10_has l D am cI cJ cZ A hD σ0 (σ0.2.1 15 a1.toNatClampNeg) a2 _ hw) (va_cwS 2 hts gX10_takeOut_X10_has rfl rfl rfl (by decide +kernel) ⟨(Nat.le_of_ble_eq_true rfl), (Nat.le_of_ble_eq_true rfl)⟩) hK hN hP hS rfl hl.1 rfl (Nat.le_of_ble_eq_true rfl) dX10_takeOut_49 ⟨Nat.zero_le _, Nat.zero_le _⟩ (fun r3 u9 H locs hq hP hS => ?_)
          obtain ⟨hw, hu⟩ := hq
          rw [hu] at hP
          refine lv_if_eq (tgt := 59) hx hb dX10_takeOut_52 (by decide) (fun c9 => ?_) (fun c9 => ?_)
          · have hw := hw.1 c9
            refine lv_iconst (v := 0) hx hb dX10_takeOut_59 (by decide) ?_
            refine lv_istore_n (lv' := [(3, .int (0 : Int32)), (0, .ref (am 0)), (1, .int a1), (2, .int a2)]) hx hb dX10_takeOut_60 rfl hl (by decide) rfl (fun ls hl => ?_)
            refine lv_aload_n hx hb dX10_takeOut_61 rfl (lv_at hl 1 rfl) ?_
            refine va_get hx hb hts iX10 hown hK hP 0 (mw_q0 am cI cJ cZ σ0) rfl 28 (by decide) f69 (fun _ h9 => h9) rfl dX10_takeOut_62 ?_
            refine lv_iload_n hx hb dX10_takeOut_65 rfl (lv_at hl 2 rfl) ?_
            refine lv_dup2_11 hx hb dX10_takeOut_66 rfl rfl ?_
            obtain ⟨h9, hw⟩ := hw
            refine va_iald hx hb hK hP 16 0 (mw_q16 am cI cJ cZ σ0) rfl h9 dX10_takeOut_67 ?_
            refine lv_iconst (v := 1) hx hb dX10_takeOut_68 (by decide) ?_
            refine lv_iload_n hx hb dX10_takeOut_69 rfl (lv_at hl 3 rfl) ?_
            refine lv_ishl hx hb dX10_takeOut_70 ?_
            refine lv_iconst (v := -1) hx hb dX10_takeOut_71 (by decide) ?_
            refine lv_ixor hx hb dX10_takeOut_72 ?_
            refine lv_iand hx hb dX10_takeOut_73 ?_
            obtain ⟨h9, hw⟩ := hw
            refine wd_iast 15 16 hx hb hK hP hD hS (mw_q16 am cI cJ cZ σ0) rfl (mw_a15 am cI cJ cZ σ0) h9 dX10_takeOut_74 (fun H locs σ4 eσ4 hP hS => ?_)
            have hw := hw σ4 eσ4
            refine lv_iload_n hx hb dX10_takeOut_75 rfl (lv_at hl 0 rfl) ?_
            exact wd_iret hx hb hr hlocks hw hP hS dX10_takeOut_76
          · have hw := hw.2 c9
            refine lv_iconst (v := 1) hx hb dX10_takeOut_55 (by decide) ?_
            refine lv_goto (tgt := 60) hx hb dX10_takeOut_56 (by decide) ?_
            refine lv_istore_n (lv' := [(3, .int (1 : Int32)), (0, .ref (am 0)), (1, .int a1), (2, .int a2)]) hx hb dX10_takeOut_60 rfl hl (by decide) rfl (fun ls hl => ?_)
            refine lv_aload_n hx hb dX10_takeOut_61 rfl (lv_at hl 1 rfl) ?_
            refine va_get hx hb hts iX10 hown hK hP 0 (mw_q0 am cI cJ cZ σ0) rfl 28 (by decide) f69 (fun _ h9 => h9) rfl dX10_takeOut_62 ?_
            refine lv_iload_n hx hb dX10_takeOut_65 rfl (lv_at hl 2 rfl) ?_
            refine lv_dup2_11 hx hb dX10_takeOut_66 rfl rfl ?_
            obtain ⟨h9, hw⟩ := hw
            refine va_iald hx hb hK hP 16 0 (mw_q16 am cI cJ cZ σ0) rfl h9 dX10_takeOut_67 ?_
            refine lv_iconst (v := 1) hx hb dX10_takeOut_68 (by decide) ?_
            refine lv_iload_n hx hb dX10_takeOut_69 rfl (lv_at hl 3 rfl) ?_
            refine lv_ishl hx hb dX10_takeOut_70 ?_
            refine lv_iconst (v := -1) hx hb dX10_takeOut_71 (by decide) ?_
            refine lv_ixor hx hb dX10_takeOut_72 ?_
            refine lv_iand hx hb dX10_takeOut_73 ?_
            obtain ⟨h9, hw⟩ := hw
            refine wd_iast 15 16 hx hb hK hP hD hS (mw_q16 am cI cJ cZ σ0) rfl (mw_a15 am cI cJ cZ σ0) h9 dX10_takeOut_74 (fun H locs σ5 eσ5 hP hS => ?_)
            have hw := hw σ5 eσ5
            refine lv_iload_n hx hb dX10_takeOut_75 rfl (lv_at hl 0 rfl) ?_
            exact wd_iret hx hb hr hlocks hw hP hS dX10_takeOut_76
        · have hw := hw.2 c9
          refine lv_bipush (v := -4) hx hb dX10_takeOut_39 (by decide) ?_
          exact wd_iret hx hb hr hlocks hw hP hS dX10_takeOut_41
      · have hw := hw.2 c9
        refine lv_iload_n hx hb dX10_takeOut_22 rfl (lv_at hl 1 rfl) ?_
        refine lv_aload_n hx hb dX10_takeOut_23 rfl (lv_at hl 0 rfl) ?_
        refine va_get hx hb hts iX10 hown hK hP 0 (mw_q0 am cI cJ cZ σ0) rfl 27 (by decide) f66 (fun _ h9 => h9) rfl dX10_takeOut_24 ?_
        refine lv_icmp_lt (tgt := 32) hx hb dX10_takeOut_27 (by decide) (fun c9 => ?_) (fun c9 => ?_)
        · have hw := hw.1 c9
          refine lv_aload_n hx hb dX10_takeOut_32 rfl (lv_at hl 0 rfl) ?_
          refine va_get hx hb hts iX10 hown hK hP 0 (mw_q0 am cI cJ cZ σ0) rfl 27 (by decide) f66 (fun _ h9 => h9) rfl dX10_takeOut_33 ?_
          refine lv_if_ge (tgt := 42) hx hb dX10_takeOut_36 (by decide) (fun c9 => ?_) (fun c9 => ?_)
          · have hw := hw.1 c9
            refine lv_aload_n hx hb dX10_takeOut_42 rfl (lv_at hl 0 rfl) ?_
            refine va_get hx hb hts iX10 hown hK hP 0 (mw_q0 am cI cJ cZ σ0) rfl 28 (by decide) f69 (fun _ h9 => h9) rfl dX10_takeOut_43 ?_
            refine lv_iload_n hx hb dX10_takeOut_46 rfl (lv_at hl 1 rfl) ?_
            obtain ⟨h9, hw⟩ := hw
            refine va_iald hx hb hK hP 16 0 (mw_q16 am cI cJ cZ σ0) rfl h9 dX10_takeOut_47 ?_
            refine lv_iload_n hx hb dX10_takeOut_48 rfl (lv_at hl 2 rfl) ?_
            refine wd_cSi ⟨hx, hb, hml, hown, hts⟩ (mtX10_has l D am cI cJ cZ A hD σ0 (σ0.2.1 15 a1.toNatClampNeg) a2 _ hw) (va_cwS 2 hts gX10_takeOut_X10_has rfl rfl rfl (by decide +kernel) ⟨(Nat.le_of_ble_eq_true rfl), (Nat.le_of_ble_eq_true rfl)⟩) hK hN hP hS rfl hl.1 rfl (Nat.le_of_ble_eq_true rfl) dX10_takeOut_49 ⟨Nat.zero_le _, Nat.zero_le _⟩ (fun r6 u9 H locs hq hP hS => ?_)
            obtain ⟨hw, hu⟩ := hq
            rw [hu] at hP
            refine lv_if_eq (tgt := 59) hx hb dX10_takeOut_52 (by decide) (fun c9 => ?_) (fun c9 => ?_)
            · have hw := hw.1 c9
              refine lv_iconst (v := 0) hx hb dX10_takeOut_59 (by decide) ?_
              refine lv_istore_n (lv' := [(3, .int (0 : Int32)), (0, .ref (am 0)), (1, .int a1), (2, .int a2)]) hx hb dX10_takeOut_60 rfl hl (by decide) rfl (fun ls hl => ?_)
              refine lv_aload_n hx hb dX10_takeOut_61 rfl (lv_at hl 1 rfl) ?_
              refine va_get hx hb hts iX10 hown hK hP 0 (mw_q0 am cI cJ cZ σ0) rfl 28 (by decide) f69 (fun _ h9 => h9) rfl dX10_takeOut_62 ?_
              refine lv_iload_n hx hb dX10_takeOut_65 rfl (lv_at hl 2 rfl) ?_
              refine lv_dup2_11 hx hb dX10_takeOut_66 rfl rfl ?_
              obtain ⟨h9, hw⟩ := hw
              refine va_iald hx hb hK hP 16 0 (mw_q16 am cI cJ cZ σ0) rfl h9 dX10_takeOut_67 ?_
              refine lv_iconst (v := 1) hx hb dX10_takeOut_68 (by decide) ?_
              refine lv_iload_n hx hb dX10_takeOut_69 rfl (lv_at hl 3 rfl) ?_
              refine lv_ishl hx hb dX10_takeOut_70 ?_
              refine lv_iconst (v := -1) hx hb dX10_takeOut_71 (by decide) ?_
              refine lv_ixor hx hb dX10_takeOut_72 ?_
              refine lv_iand hx hb dX10_takeOut_73 ?_
              obtain ⟨h9, hw⟩ := hw
              refine wd_iast 15 16 hx hb hK hP hD hS (mw_q16 am cI cJ cZ σ0) rfl (mw_a15 am cI cJ cZ σ0) h9 dX10_takeOut_74 (fun H locs σ7 eσ7 hP hS => ?_)
              have hw := hw σ7 eσ7
              refine lv_iload_n hx hb dX10_takeOut_75 rfl (lv_at hl 0 rfl) ?_
              exact wd_iret hx hb hr hlocks hw hP hS dX10_takeOut_76
            · have hw := hw.2 c9
              refine lv_iconst (v := 1) hx hb dX10_takeOut_55 (by decide) ?_
              refine lv_goto (tgt := 60) hx hb dX10_takeOut_56 (by decide) ?_
              refine lv_istore_n (lv' := [(3, .int (1 : Int32)), (0, .ref (am 0)), (1, .int a1), (2, .int a2)]) hx hb dX10_takeOut_60 rfl hl (by decide) rfl (fun ls hl => ?_)
              refine lv_aload_n hx hb dX10_takeOut_61 rfl (lv_at hl 1 rfl) ?_
              refine va_get hx hb hts iX10 hown hK hP 0 (mw_q0 am cI cJ cZ σ0) rfl 28 (by decide) f69 (fun _ h9 => h9) rfl dX10_takeOut_62 ?_
              refine lv_iload_n hx hb dX10_takeOut_65 rfl (lv_at hl 2 rfl) ?_
              refine lv_dup2_11 hx hb dX10_takeOut_66 rfl rfl ?_
              obtain ⟨h9, hw⟩ := hw
              refine va_iald hx hb hK hP 16 0 (mw_q16 am cI cJ cZ σ0) rfl h9 dX10_takeOut_67 ?_
              refine lv_iconst (v := 1) hx hb dX10_takeOut_68 (by decide) ?_
              refine lv_iload_n hx hb dX10_takeOut_69 rfl (lv_at hl 3 rfl) ?_
              refine lv_ishl hx hb dX10_takeOut_70 ?_
              refine lv_iconst (v := -1) hx hb dX10_takeOut_71 (by decide) ?_
              refine lv_ixor hx hb dX10_takeOut_72 ?_
              refine lv_iand hx hb dX10_takeOut_73 ?_
              obtain ⟨h9, hw⟩ := hw
              refine wd_iast 15 16 hx hb hK hP hD hS (mw_q16 am cI cJ cZ σ0) rfl (mw_a15 am cI cJ cZ σ0) h9 dX10_takeOut_74 (fun H locs σ8 eσ8 hP hS => ?_)
              have hw := hw σ8 eσ8
              refine lv_iload_n hx hb dX10_takeOut_75 rfl (lv_at hl 0 rfl) ?_
              exact wd_iret hx hb hr hlocks hw hP hS dX10_takeOut_76
          · have hw := hw.2 c9
            refine lv_bipush (v := -4) hx hb dX10_takeOut_39 (by decide) ?_
            exact wd_iret hx hb hr hlocks hw hP hS dX10_takeOut_41
        · have hw := hw.2 c9
          refine lv_iconst (v := -1) hx hb dX10_takeOut_30 (by decide) ?_
          exact wd_iret hx hb hr hlocks hw hP hS dX10_takeOut_31
def wX10_isStopped (σ0 : St) (a1 : Int32) (a2 : Int32) (post : Int32 → Prop) : Prop := vp_in a1 400 ∧ (∀ x1 : Int32, x1 = (σ0.2.1 4 a1.toNatClampNeg) → (vp_in a1 400 ∧ ((a2 ≤ ((σ0.1 6) - (σ0.2.1 6 a1.toNatClampNeg)) → (post (0 : Int32))) ∧ (¬ a2 ≤ ((σ0.1 6) - (σ0.2.1 6 a1.toNatClampNeg)) → (((σ0.1 12) ≤ x1 → (post (1 : Int32))) ∧ (¬ (σ0.1 12) ≤ x1 → (vp_in x1 10 ∧ (vp_in a1 400 ∧ (wX10_has (σ0.2.1 15 x1.toNatClampNeg) (σ0.2.1 5 a1.toNatClampNeg) (fun (r2 : Int32) => (¬ r2 = 0 → (post (0 : Int32))) ∧ (r2 = 0 → (post (1 : Int32)))))))))))))
set_option maxHeartbeats 4000000 in
set_option maxRecDepth 100000 in
theorem mtX10_isStopped (l : Launch) (D : va_G) (am : Nat → Nat) (cI cJ cZ : ClassId) (A : Nat → Prop) (hD : ∀ σ : St, va_D A (mw am cI cJ cZ σ)) (σ0 : St) (a1 : Int32) (a2 : Int32) (post : Int32 → Prop) (hw : wX10_isStopped σ0 a1 a2 post) : Met l yX10_isStopped wsX10_isStopped ({ frames := 1, cells := 0, slots := 0, locals := 21 } : Room) (va_Pc [.ref (am 0), .int a1, .int a2] (wd_pre D (mw am cI cJ cZ) (wd_tys cI cJ cZ) σ0)) (va_Qi (fun (r : Int32) (u : St) => post r ∧ u = σ0) (wd_B D (mw am cI cJ cZ)) A) 0 0 A := by
  refine Met.ofW (cc := cX10_isStopped) (maxL := 4) (ret := (some .boolean)) (by decide) rfl ?_
  intro p e s m args below meth c s₁ B hml hv
  obtain ⟨rfl, hP, hK, hN⟩ := hv
  have hx := B.exec
  have hb := B.bytes
  have hr := B.returns
  have hts := atoms_spec (ws := wsX10_isStopped) B.pre
  have hown : s.vm.findClass RX10 = some m.cls := findClass_of_methodNamed B.named
  have hlocks := B.notSynchronized
  have hS : va_S A s.heap s.heap [] := va_S.rf
  have f32 := hts (.fieldLink RX10 32 "LeastRightsModel" "usePerson" "[I") (by decide +kernel)
  have iX10 : ∀ w ∈ wsX100, w ∈ wsX10_isStopped := by decide +kernel
  have f106 := hts (.fieldLink RX10 106 "LeastRightsModel" "day" "I") (by decide +kernel)
  have f38 := hts (.fieldLink RX10 38 "LeastRightsModel" "useDay" "[I") (by decide +kernel)
  have f66 := hts (.fieldLink RX10 66 "LeastRightsModel" "planned" "I") (by decide +kernel)
  have f69 := hts (.fieldLink RX10 69 "LeastRightsModel" "plans" "[I") (by decide +kernel)
  have f35 := hts (.fieldLink RX10 35 "LeastRightsModel" "useRight" "[I") (by decide +kernel)
  have hl := lv_entry ([.ref (am 0), .int a1, .int a2]) (n := 4) (Nat.le_of_ble_eq_true rfl)
  rw [lg_entry_eq]
  generalize (lg_sl ([.ref (am 0), .int a1, .int a2]) ++ List.replicate (4 - (lg_sl ([.ref (am 0), .int a1, .int a2])).length) Slot.unset).toArray = ls at hl ⊢
  have hl : lv_has ls 4 [(0, .ref (am 0)), (1, .int a1), (2, .int a2)] := hl
  unfold wX10_isStopped at hw
  refine lv_aload_n hx hb dX10_isStopped_0 rfl (lv_at hl 0 rfl) ?_
  refine va_get hx hb hts iX10 hown hK hP 0 (mw_q0 am cI cJ cZ σ0) rfl 12 (by decide) f32 (fun _ h9 => h9) rfl dX10_isStopped_1 ?_
  refine lv_iload_n hx hb dX10_isStopped_4 rfl (lv_at hl 1 rfl) ?_
  obtain ⟨h9, hw⟩ := hw
  refine va_iald hx hb hK hP 5 0 (mw_q5 am cI cJ cZ σ0) rfl h9 dX10_isStopped_5 ?_
  refine lv_topi (fun x1 ex1 => ?_)
  have hw := hw x1 ex1
  refine lv_istore_n (lv' := [(3, .int x1), (0, .ref (am 0)), (1, .int a1), (2, .int a2)]) hx hb dX10_isStopped_6 rfl hl (by decide) rfl (fun ls hl => ?_)
  refine lv_aload_n hx hb dX10_isStopped_7 rfl (lv_at hl 1 rfl) ?_
  refine va_get hx hb hts iX10 hown hK hP 0 (mw_q0 am cI cJ cZ σ0) rfl 10 (by decide) f106 (fun _ h9 => h9) rfl dX10_isStopped_8 ?_
  refine lv_aload_n hx hb dX10_isStopped_11 rfl (lv_at hl 1 rfl) ?_
  refine va_get hx hb hts iX10 hown hK hP 0 (mw_q0 am cI cJ cZ σ0) rfl 14 (by decide) f38 (fun _ h9 => h9) rfl dX10_isStopped_12 ?_
  refine lv_iload_n hx hb dX10_isStopped_15 rfl (lv_at hl 2 rfl) ?_
  obtain ⟨h9, hw⟩ := hw
  refine va_iald hx hb hK hP 7 0 (mw_q7 am cI cJ cZ σ0) rfl h9 dX10_isStopped_16 ?_
  refine lv_isub hx hb dX10_isStopped_17 ?_
  refine lv_iload_n hx hb dX10_isStopped_18 rfl (lv_at hl 3 rfl) ?_
  refine lv_icmp_ge (tgt := 52) hx hb dX10_isStopped_19 (by decide) (fun c9 => ?_) (fun c9 => ?_)
  · have hw := hw.1 c9
    refine lv_iconst (v := 0) hx hb dX10_isStopped_52 (by decide) ?_
    exact wd_zret hx hb hr hlocks (by decide) ⟨hw, rfl⟩ hP hS dX10_isStopped_53
  · have hw := hw.2 c9
    refine lv_iload_n hx hb dX10_isStopped_22 rfl (lv_at hl 0 rfl) ?_
    refine lv_aload_n hx hb dX10_isStopped_23 rfl (lv_at hl 1 rfl) ?_
    refine va_get hx hb hts iX10 hown hK hP 0 (mw_q0 am cI cJ cZ σ0) rfl 27 (by decide) f66 (fun _ h9 => h9) rfl dX10_isStopped_24 ?_
    refine lv_icmp_ge (tgt := 48) hx hb dX10_isStopped_27 (by decide) (fun c9 => ?_) (fun c9 => ?_)
    · have hw := hw.1 c9
      refine lv_iconst (v := 1) hx hb dX10_isStopped_48 (by decide) ?_
      refine lv_goto (tgt := 53) hx hb dX10_isStopped_49 (by decide) ?_
      exact wd_zret hx hb hr hlocks (by decide) ⟨hw, rfl⟩ hP hS dX10_isStopped_53
    · have hw := hw.2 c9
      refine lv_aload_n hx hb dX10_isStopped_30 rfl (lv_at hl 1 rfl) ?_
      refine va_get hx hb hts iX10 hown hK hP 0 (mw_q0 am cI cJ cZ σ0) rfl 28 (by decide) f69 (fun _ h9 => h9) rfl dX10_isStopped_31 ?_
      refine lv_iload_n hx hb dX10_isStopped_34 rfl (lv_at hl 0 rfl) ?_
      obtain ⟨h9, hw⟩ := hw
      refine va_iald hx hb hK hP 16 0 (mw_q16 am cI cJ cZ σ0) rfl h9 dX10_isStopped_35 ?_
      refine lv_aload_n hx hb dX10_isStopped_36 rfl (lv_at hl 1 rfl) ?_
      refine va_get hx hb hts iX10 hown hK hP 0 (mw_q0 am cI cJ cZ σ0) rfl 13 (by decide) f35 (fun _ h9 => h9) rfl dX10_isStopped_37 ?_
      refine lv_iload_n hx hb dX10_isStopped_40 rfl (lv_at hl 2 rfl) ?_
      obtain ⟨h9, hw⟩ := hw
      refine va_iald hx hb hK hP 6 0 (mw_q6 am cI cJ cZ σ0) rfl h9 dX10_isStopped_41 ?_
      refine wd_cSi ⟨hx, hb, hml, hown, hts⟩ (mtX10_has l D am cI cJ cZ A hD σ0 (σ0.2.1 15 x1.toNatClampNeg) (σ0.2.1 5 a1.toNatClampNeg) _ hw) (va_cwS 2 hts gX10_isStopped_X10_has rfl rfl rfl (by decide +kernel) ⟨(Nat.le_of_ble_eq_true rfl), (Nat.le_of_ble_eq_true rfl)⟩) hK hN hP hS rfl hl.1 rfl (Nat.le_of_ble_eq_true rfl) dX10_isStopped_42 ⟨Nat.zero_le _, Nat.zero_le _⟩ (fun r2 u9 H locs hq hP hS => ?_)
      obtain ⟨hw, hu⟩ := hq
      rw [hu] at hP
      refine lv_if_ne (tgt := 52) hx hb dX10_isStopped_45 (by decide) (fun c9 => ?_) (fun c9 => ?_)
      · have hw := hw.1 c9
        refine lv_iconst (v := 0) hx hb dX10_isStopped_52 (by decide) ?_
        exact wd_zret hx hb hr hlocks (by decide) ⟨hw, rfl⟩ hP hS dX10_isStopped_53
      · have hw := hw.2 c9
        refine lv_iconst (v := 1) hx hb dX10_isStopped_48 (by decide) ?_
        refine lv_goto (tgt := 53) hx hb dX10_isStopped_49 (by decide) ?_
        exact wd_zret hx hb hr hlocks (by decide) ⟨hw, rfl⟩ hP hS dX10_isStopped_53
def lpX10_stopped_27 (u1 : Int32) (σ0 : St) (post : Int32 → Prop) : Nat → Int32 → Int32 → Prop
  | 0, _, _ => False
  | n + 1, v2, v3 => ((σ0.1 7) ≤ v3 → (post v2)) ∧ (¬ (σ0.1 7) ≤ v3 → (wX10_isStopped σ0 v3 u1 (fun (r2 : Int32) => (r2 = 0 → (∀ x3 : Int32, x3 = (v2 + (0 : Int32)) → (∀ x4 : Int32, x4 = v3 + (1 : Int32) → (lpX10_stopped_27 u1 σ0 post n x3 x4)))) ∧ (¬ r2 = 0 → (∀ x5 : Int32, x5 = (v2 + (1 : Int32)) → (∀ x6 : Int32, x6 = v3 + (1 : Int32) → (lpX10_stopped_27 u1 σ0 post n x5 x6)))))))
def wX10_stopped (σ0 : St) (a1 : Int32) (post : Int32 → Prop) : Prop := wX10_in a1 (1 : Int32) (1000 : Int32) (fun (r1 : Int32) => (¬ r1 = 0 → ((0 ≤ (σ0.1 12) → (∃ n7 : Nat, lpX10_stopped_27 a1 σ0 post n7 (0 : Int32) (0 : Int32))) ∧ (¬ 0 ≤ (σ0.1 12) → (post (-4 : Int32))))) ∧ (r1 = 0 → (post (-1 : Int32))))
set_option maxHeartbeats 4000000 in
set_option maxRecDepth 100000 in
theorem mtX10_stopped (l : Launch) (D : va_G) (am : Nat → Nat) (cI cJ cZ : ClassId) (A : Nat → Prop) (hD : ∀ σ : St, va_D A (mw am cI cJ cZ σ)) (σ0 : St) (a1 : Int32) (post : Int32 → Prop) (hw : wX10_stopped σ0 a1 post) : Met l yX10_stopped wsX10_stopped ({ frames := 2, cells := 0, slots := 0, locals := 44 } : Room) (va_Pc [.ref (am 0), .int a1] (wd_pre D (mw am cI cJ cZ) (wd_tys cI cJ cZ) σ0)) (va_Qi (fun (r : Int32) (u : St) => post r ∧ u = σ0) (wd_B D (mw am cI cJ cZ)) A) 0 0 A := by
  refine Met.ofW (cc := cX10_stopped) (maxL := 4) (ret := (some .int)) (by decide) rfl ?_
  intro p e s m args below meth c s₁ B hml hv
  obtain ⟨rfl, hP, hK, hN⟩ := hv
  have hx := B.exec
  have hb := B.bytes
  have hr := B.returns
  have hts := atoms_spec (ws := wsX10_stopped) B.pre
  have hown : s.vm.findClass RX10 = some m.cls := findClass_of_methodNamed B.named
  have hlocks := B.notSynchronized
  have hS : va_S A s.heap s.heap [] := va_S.rf
  have f66 := hts (.fieldLink RX10 66 "LeastRightsModel" "planned" "I") (by decide +kernel)
  have iX10 : ∀ w ∈ wsX100, w ∈ wsX10_stopped := by decide +kernel
  have f103 := hts (.fieldLink RX10 103 "LeastRightsModel" "uses" "I") (by decide +kernel)
  have L27 : ∀ (u1 : Int32) (n : Nat) (v2 : Int32) (v3 : Int32) (H : Heap) (locs : List Loc) (ls : Array Slot), lpX10_stopped_27 u1 σ0 post n v2 v3 → va_P D vwCl (mw am cI cJ cZ σ0) H → va_S A s.heap H locs → lv_has ls 4 [(0, .ref (am 0)), (1, .int u1), (2, .int v2), (3, .int v3)] → W p l e (headSpec wsX10_stopped ({ frames := 2, cells := 0, slots := 0, locals := 44 } : Room)).room s m ([.ref (am 0), .int a1] : List Value).toArray below meth c H locs 0 0 (MQ below (va_Qi (fun (r : Int32) (u : St) => post r ∧ u = σ0) (wd_B D (mw am cI cJ cZ)) A) ([.ref (am 0), .int a1] : List Value).toArray s 0 0 A) (F0 m 27 ls []) := by
    intro u1 n
    induction n with
    | zero => intro v2 v3 H locs ls hw; exact hw.elim
    | succ n ih =>
      intro v2 v3 H locs ls hw hP hS hl
      rw [lpX10_stopped_27] at hw
      refine lv_iload_n hx hb dX10_stopped_27 rfl (lv_at hl 3 rfl) ?_
      refine lv_aload_n hx hb dX10_stopped_28 rfl (lv_at hl 0 rfl) ?_
      refine va_get hx hb hts iX10 hown hK hP 0 (mw_q0 am cI cJ cZ σ0) rfl 11 (by decide) f103 (fun _ h9 => h9) rfl dX10_stopped_29 ?_
      refine lv_icmp_ge (tgt := 58) hx hb dX10_stopped_32 (by decide) (fun c9 => ?_) (fun c9 => ?_)
      · have hw := hw.1 c9
        refine lv_iload_n hx hb dX10_stopped_58 rfl (lv_at hl 2 rfl) ?_
        exact wd_iret hx hb hr hlocks ⟨hw, rfl⟩ hP hS dX10_stopped_59
      · have hw := hw.2 c9
        refine lv_iload_n hx hb dX10_stopped_35 rfl (lv_at hl 2 rfl) ?_
        refine lv_aload_n hx hb dX10_stopped_36 rfl (lv_at hl 0 rfl) ?_
        refine lv_iload_n hx hb dX10_stopped_37 rfl (lv_at hl 3 rfl) ?_
        refine lv_iload_n hx hb dX10_stopped_38 rfl (lv_at hl 1 rfl) ?_
        refine wd_cVi ⟨hx, hb, hml, hown, hts⟩ (mtX10_isStopped l D am cI cJ cZ A hD σ0 v3 u1 _ hw) (cwV 2 hts gX10_stopped_X10_isStopped rfl rfl rfl (by decide +kernel) ⟨(Nat.le_of_ble_eq_true rfl), (Nat.le_of_ble_eq_true rfl)⟩) (va_recv hK hP (ci := 10) (q0 := 0) rfl (mw_q0 am cI cJ cZ σ0)) hK hN hP hS rfl hl.1 rfl (Nat.le_of_ble_eq_true rfl) dX10_stopped_39 ⟨Nat.zero_le _, Nat.zero_le _⟩ (fun r2 u9 H locs hq hP hS => ?_)
        obtain ⟨hw, hu⟩ := hq
        rw [hu] at hP
        refine lv_if_eq (tgt := 49) hx hb dX10_stopped_42 (by decide) (fun c9 => ?_) (fun c9 => ?_)
        · have hw := hw.1 c9
          refine lv_iconst (v := 0) hx hb dX10_stopped_49 (by decide) ?_
          refine lv_iadd hx hb dX10_stopped_50 ?_
          refine lv_topi (fun x3 ex3 => ?_)
          have hw := hw x3 ex3
          refine lv_istore_n (lv' := [(2, .int x3), (0, .ref (am 0)), (1, .int u1), (3, .int v3)]) hx hb dX10_stopped_51 rfl hl (by decide) rfl (fun ls hl => ?_)
          obtain ⟨x4, ex4⟩ : ∃ z : Int32, z = v3 + (1 : Int32) := ⟨_, rfl⟩
          refine lv_iinc (v := x4) (lv' := [(3, .int x4), (2, .int x3), (0, .ref (am 0)), (1, .int u1)]) hx hb dX10_stopped_52 hl (k := 3) rfl (by rw [ex4]; rfl) (by decide) rfl (fun ls hl => ?_)
          have hw := hw x4 ex4
          refine lv_goto (tgt := 27) hx hb dX10_stopped_55 (by decide) ?_
          exact ih _ _ _ _ _ hw hP hS (lv_sub hl [2, 3, 1, 0] rfl)
        · have hw := hw.2 c9
          refine lv_iconst (v := 1) hx hb dX10_stopped_45 (by decide) ?_
          refine lv_goto (tgt := 50) hx hb dX10_stopped_46 (by decide) ?_
          refine lv_iadd hx hb dX10_stopped_50 ?_
          refine lv_topi (fun x5 ex5 => ?_)
          have hw := hw x5 ex5
          refine lv_istore_n (lv' := [(2, .int x5), (0, .ref (am 0)), (1, .int u1), (3, .int v3)]) hx hb dX10_stopped_51 rfl hl (by decide) rfl (fun ls hl => ?_)
          obtain ⟨x6, ex6⟩ : ∃ z : Int32, z = v3 + (1 : Int32) := ⟨_, rfl⟩
          refine lv_iinc (v := x6) (lv' := [(3, .int x6), (2, .int x5), (0, .ref (am 0)), (1, .int u1)]) hx hb dX10_stopped_52 hl (k := 3) rfl (by rw [ex6]; rfl) (by decide) rfl (fun ls hl => ?_)
          have hw := hw x6 ex6
          refine lv_goto (tgt := 27) hx hb dX10_stopped_55 (by decide) ?_
          exact ih _ _ _ _ _ hw hP hS (lv_sub hl [2, 3, 1, 0] rfl)
  have hl := lv_entry ([.ref (am 0), .int a1]) (n := 4) (Nat.le_of_ble_eq_true rfl)
  rw [lg_entry_eq]
  generalize (lg_sl ([.ref (am 0), .int a1]) ++ List.replicate (4 - (lg_sl ([.ref (am 0), .int a1])).length) Slot.unset).toArray = ls at hl ⊢
  have hl : lv_has ls 4 [(0, .ref (am 0)), (1, .int a1)] := hl
  unfold wX10_stopped at hw
  refine lv_iload_n hx hb dX10_stopped_0 rfl (lv_at hl 1 rfl) ?_
  refine lv_iconst (v := 1) hx hb dX10_stopped_1 (by decide) ?_
  refine lv_sipush (v := 1000) hx hb dX10_stopped_2 (by decide) ?_
  refine wd_cSi ⟨hx, hb, hml, hown, hts⟩ (mtX10_in l D am cI cJ cZ A hD σ0 a1 (1 : Int32) (1000 : Int32) _ hw) (va_cwS 3 hts gX10_stopped_X10_in rfl rfl rfl (by decide +kernel) ⟨(Nat.le_of_ble_eq_true rfl), (Nat.le_of_ble_eq_true rfl)⟩) hK hN hP hS rfl hl.1 rfl (Nat.le_of_ble_eq_true rfl) dX10_stopped_5 ⟨Nat.zero_le _, Nat.zero_le _⟩ (fun r1 u9 H locs hq hP hS => ?_)
  obtain ⟨hw, hu⟩ := hq
  rw [hu] at hP
  refine lv_if_ne (tgt := 13) hx hb dX10_stopped_8 (by decide) (fun c9 => ?_) (fun c9 => ?_)
  · have hw := hw.1 c9
    refine lv_aload_n hx hb dX10_stopped_13 rfl (lv_at hl 0 rfl) ?_
    refine va_get hx hb hts iX10 hown hK hP 0 (mw_q0 am cI cJ cZ σ0) rfl 27 (by decide) f66 (fun _ h9 => h9) rfl dX10_stopped_14 ?_
    refine lv_if_ge (tgt := 23) hx hb dX10_stopped_17 (by decide) (fun c9 => ?_) (fun c9 => ?_)
    · have hw := hw.1 c9
      refine lv_iconst (v := 0) hx hb dX10_stopped_23 (by decide) ?_
      refine lv_istore_n (lv' := [(2, .int (0 : Int32)), (0, .ref (am 0)), (1, .int a1)]) hx hb dX10_stopped_24 rfl hl (by decide) rfl (fun ls hl => ?_)
      refine lv_iconst (v := 0) hx hb dX10_stopped_25 (by decide) ?_
      refine lv_istore_n (lv' := [(3, .int (0 : Int32)), (2, .int (0 : Int32)), (0, .ref (am 0)), (1, .int a1)]) hx hb dX10_stopped_26 rfl hl (by decide) rfl (fun ls hl => ?_)
      obtain ⟨n9, hw⟩ := hw
      refine L27 a1 n9 (0 : Int32) (0 : Int32) _ _ _ hw hP hS (lv_sub hl [2, 3, 1, 0] rfl)
    · have hw := hw.2 c9
      refine lv_bipush (v := -4) hx hb dX10_stopped_20 (by decide) ?_
      exact wd_iret hx hb hr hlocks ⟨hw, rfl⟩ hP hS dX10_stopped_22
  · have hw := hw.2 c9
    refine lv_iconst (v := -1) hx hb dX10_stopped_11 (by decide) ?_
    exact wd_iret hx hb hr hlocks ⟨hw, rfl⟩ hP hS dX10_stopped_12
def lpX10_stop_29 (u1 : Int32) (σ0 : St) (post : Int32 → Prop) : Nat → Int32 → Prop
  | 0, _ => False
  | n + 1, v3 => ((σ0.1 7) ≤ v3 → (post (-9 : Int32))) ∧ (¬ (σ0.1 7) ≤ v3 → (wX10_isStopped σ0 v3 u1 (fun (r2 : Int32) => (r2 = 0 → (∀ x3 : Int32, x3 = v3 + (1 : Int32) → (lpX10_stop_29 u1 σ0 post n x3))) ∧ (¬ r2 = 0 → (post v3)))))
def wX10_stop (σ0 : St) (a1 : Int32) (a2 : Int32) (post : Int32 → Prop) : Prop := wX10_in a1 (1 : Int32) (1000 : Int32) (fun (r1 : Int32) => (r1 = 0 → (post (-1 : Int32))) ∧ (¬ r1 = 0 → ((0 ≤ a2 → ((0 ≤ (σ0.1 12) → (∃ n4 : Nat, lpX10_stop_29 a1 σ0 post n4 a2)) ∧ (¬ 0 ≤ (σ0.1 12) → (post (-4 : Int32))))) ∧ (¬ 0 ≤ a2 → (post (-1 : Int32))))))
set_option maxHeartbeats 4000000 in
set_option maxRecDepth 100000 in
theorem mtX10_stop (l : Launch) (D : va_G) (am : Nat → Nat) (cI cJ cZ : ClassId) (A : Nat → Prop) (hD : ∀ σ : St, va_D A (mw am cI cJ cZ σ)) (σ0 : St) (a1 : Int32) (a2 : Int32) (post : Int32 → Prop) (hw : wX10_stop σ0 a1 a2 post) : Met l yX10_stop wsX10_stop ({ frames := 2, cells := 0, slots := 0, locals := 44 } : Room) (va_Pc [.ref (am 0), .int a1, .int a2] (wd_pre D (mw am cI cJ cZ) (wd_tys cI cJ cZ) σ0)) (va_Qi (fun (r : Int32) (u : St) => post r ∧ u = σ0) (wd_B D (mw am cI cJ cZ)) A) 0 0 A := by
  refine Met.ofW (cc := cX10_stop) (maxL := 4) (ret := (some .int)) (by decide) rfl ?_
  intro p e s m args below meth c s₁ B hml hv
  obtain ⟨rfl, hP, hK, hN⟩ := hv
  have hx := B.exec
  have hb := B.bytes
  have hr := B.returns
  have hts := atoms_spec (ws := wsX10_stop) B.pre
  have hown : s.vm.findClass RX10 = some m.cls := findClass_of_methodNamed B.named
  have hlocks := B.notSynchronized
  have hS : va_S A s.heap s.heap [] := va_S.rf
  have f66 := hts (.fieldLink RX10 66 "LeastRightsModel" "planned" "I") (by decide +kernel)
  have iX10 : ∀ w ∈ wsX100, w ∈ wsX10_stop := by decide +kernel
  have f103 := hts (.fieldLink RX10 103 "LeastRightsModel" "uses" "I") (by decide +kernel)
  have L29 : ∀ (u1 : Int32) (n : Nat) (v3 : Int32) (H : Heap) (locs : List Loc) (ls : Array Slot), lpX10_stop_29 u1 σ0 post n v3 → va_P D vwCl (mw am cI cJ cZ σ0) H → va_S A s.heap H locs → lv_has ls 4 [(0, .ref (am 0)), (1, .int u1), (3, .int v3)] → W p l e (headSpec wsX10_stop ({ frames := 2, cells := 0, slots := 0, locals := 44 } : Room)).room s m ([.ref (am 0), .int a1, .int a2] : List Value).toArray below meth c H locs 0 0 (MQ below (va_Qi (fun (r : Int32) (u : St) => post r ∧ u = σ0) (wd_B D (mw am cI cJ cZ)) A) ([.ref (am 0), .int a1, .int a2] : List Value).toArray s 0 0 A) (F0 m 29 ls []) := by
    intro u1 n
    induction n with
    | zero => intro v3 H locs ls hw; exact hw.elim
    | succ n ih =>
      intro v3 H locs ls hw hP hS hl
      rw [lpX10_stop_29] at hw
      refine lv_iload_n hx hb dX10_stop_29 rfl (lv_at hl 2 rfl) ?_
      refine lv_aload_n hx hb dX10_stop_30 rfl (lv_at hl 0 rfl) ?_
      refine va_get hx hb hts iX10 hown hK hP 0 (mw_q0 am cI cJ cZ σ0) rfl 11 (by decide) f103 (fun _ h9 => h9) rfl dX10_stop_31 ?_
      refine lv_icmp_ge (tgt := 54) hx hb dX10_stop_34 (by decide) (fun c9 => ?_) (fun c9 => ?_)
      · have hw := hw.1 c9
        refine lv_bipush (v := -9) hx hb dX10_stop_54 (by decide) ?_
        exact wd_iret hx hb hr hlocks ⟨hw, rfl⟩ hP hS dX10_stop_56
      · have hw := hw.2 c9
        refine lv_aload_n hx hb dX10_stop_37 rfl (lv_at hl 0 rfl) ?_
        refine lv_iload_n hx hb dX10_stop_38 rfl (lv_at hl 2 rfl) ?_
        refine lv_iload_n hx hb dX10_stop_39 rfl (lv_at hl 1 rfl) ?_
        refine wd_cVi ⟨hx, hb, hml, hown, hts⟩ (mtX10_isStopped l D am cI cJ cZ A hD σ0 v3 u1 _ hw) (cwV 2 hts gX10_stop_X10_isStopped rfl rfl rfl (by decide +kernel) ⟨(Nat.le_of_ble_eq_true rfl), (Nat.le_of_ble_eq_true rfl)⟩) (va_recv hK hP (ci := 10) (q0 := 0) rfl (mw_q0 am cI cJ cZ σ0)) hK hN hP hS rfl hl.1 rfl (Nat.le_of_ble_eq_true rfl) dX10_stop_40 ⟨Nat.zero_le _, Nat.zero_le _⟩ (fun r2 u9 H locs hq hP hS => ?_)
        obtain ⟨hw, hu⟩ := hq
        rw [hu] at hP
        refine lv_if_eq (tgt := 48) hx hb dX10_stop_43 (by decide) (fun c9 => ?_) (fun c9 => ?_)
        · have hw := hw.1 c9
          obtain ⟨x3, ex3⟩ : ∃ z : Int32, z = v3 + (1 : Int32) := ⟨_, rfl⟩
          refine lv_iinc (v := x3) (lv' := [(3, .int x3), (0, .ref (am 0)), (1, .int u1)]) hx hb dX10_stop_48 hl (k := 2) rfl (by rw [ex3]; rfl) (by decide) rfl (fun ls hl => ?_)
          have hw := hw x3 ex3
          refine lv_goto (tgt := 29) hx hb dX10_stop_51 (by decide) ?_
          exact ih _ _ _ _ hw hP hS (lv_sub hl [1, 2, 0] rfl)
        · have hw := hw.2 c9
          refine lv_iload_n hx hb dX10_stop_46 rfl (lv_at hl 2 rfl) ?_
          exact wd_iret hx hb hr hlocks ⟨hw, rfl⟩ hP hS dX10_stop_47
  have hl := lv_entry ([.ref (am 0), .int a1, .int a2]) (n := 4) (Nat.le_of_ble_eq_true rfl)
  rw [lg_entry_eq]
  generalize (lg_sl ([.ref (am 0), .int a1, .int a2]) ++ List.replicate (4 - (lg_sl ([.ref (am 0), .int a1, .int a2])).length) Slot.unset).toArray = ls at hl ⊢
  have hl : lv_has ls 4 [(0, .ref (am 0)), (1, .int a1), (2, .int a2)] := hl
  unfold wX10_stop at hw
  refine lv_iload_n hx hb dX10_stop_0 rfl (lv_at hl 1 rfl) ?_
  refine lv_iconst (v := 1) hx hb dX10_stop_1 (by decide) ?_
  refine lv_sipush (v := 1000) hx hb dX10_stop_2 (by decide) ?_
  refine wd_cSi ⟨hx, hb, hml, hown, hts⟩ (mtX10_in l D am cI cJ cZ A hD σ0 a1 (1 : Int32) (1000 : Int32) _ hw) (va_cwS 3 hts gX10_stop_X10_in rfl rfl rfl (by decide +kernel) ⟨(Nat.le_of_ble_eq_true rfl), (Nat.le_of_ble_eq_true rfl)⟩) hK hN hP hS rfl hl.1 rfl (Nat.le_of_ble_eq_true rfl) dX10_stop_5 ⟨Nat.zero_le _, Nat.zero_le _⟩ (fun r1 u9 H locs hq hP hS => ?_)
  obtain ⟨hw, hu⟩ := hq
  rw [hu] at hP
  refine lv_if_eq (tgt := 15) hx hb dX10_stop_8 (by decide) (fun c9 => ?_) (fun c9 => ?_)
  · have hw := hw.1 c9
    refine lv_iconst (v := -1) hx hb dX10_stop_15 (by decide) ?_
    exact wd_iret hx hb hr hlocks ⟨hw, rfl⟩ hP hS dX10_stop_16
  · have hw := hw.2 c9
    refine lv_iload_n hx hb dX10_stop_11 rfl (lv_at hl 2 rfl) ?_
    refine lv_if_ge (tgt := 17) hx hb dX10_stop_12 (by decide) (fun c9 => ?_) (fun c9 => ?_)
    · have hw := hw.1 c9
      refine lv_aload_n hx hb dX10_stop_17 rfl (lv_at hl 0 rfl) ?_
      refine va_get hx hb hts iX10 hown hK hP 0 (mw_q0 am cI cJ cZ σ0) rfl 27 (by decide) f66 (fun _ h9 => h9) rfl dX10_stop_18 ?_
      refine lv_if_ge (tgt := 27) hx hb dX10_stop_21 (by decide) (fun c9 => ?_) (fun c9 => ?_)
      · have hw := hw.1 c9
        refine lv_iload_n hx hb dX10_stop_27 rfl (lv_at hl 2 rfl) ?_
        refine lv_istore_n (lv' := [(3, .int a2), (0, .ref (am 0)), (1, .int a1), (2, .int a2)]) hx hb dX10_stop_28 rfl hl (by decide) rfl (fun ls hl => ?_)
        obtain ⟨n9, hw⟩ := hw
        refine L29 a1 n9 a2 _ _ _ hw hP hS (lv_sub hl [1, 2, 0] rfl)
      · have hw := hw.2 c9
        refine lv_bipush (v := -4) hx hb dX10_stop_24 (by decide) ?_
        exact wd_iret hx hb hr hlocks ⟨hw, rfl⟩ hP hS dX10_stop_26
    · have hw := hw.2 c9
      refine lv_iconst (v := -1) hx hb dX10_stop_15 (by decide) ?_
      exact wd_iret hx hb hr hlocks ⟨hw, rfl⟩ hP hS dX10_stop_16
def wX10_used (σ0 : St) (a1 : Int32) (a2 : Int32) (post : Int32 → Prop) : Prop := wX10_in a1 (0 : Int32) ((σ0.1 7) - (1 : Int32)) (fun (r1 : Int32) => (r1 = 0 → (post (-1 : Int32))) ∧ (¬ r1 = 0 → (wX10_in a2 (0 : Int32) (2 : Int32) (fun (r2 : Int32) => (¬ r2 = 0 → ((¬ a2 = 0 → ((¬ a2 = (1 : Int32) → (vp_in a1 400 ∧ (post (σ0.2.1 6 a1.toNatClampNeg)))) ∧ (a2 = (1 : Int32) → (vp_in a1 400 ∧ (post (σ0.2.1 5 a1.toNatClampNeg)))))) ∧ (a2 = 0 → (vp_in a1 400 ∧ (post (σ0.2.1 4 a1.toNatClampNeg)))))) ∧ (r2 = 0 → (post (-1 : Int32)))))))
set_option maxHeartbeats 4000000 in
set_option maxRecDepth 100000 in
theorem mtX10_used (l : Launch) (D : va_G) (am : Nat → Nat) (cI cJ cZ : ClassId) (A : Nat → Prop) (hD : ∀ σ : St, va_D A (mw am cI cJ cZ σ)) (σ0 : St) (a1 : Int32) (a2 : Int32) (post : Int32 → Prop) (hw : wX10_used σ0 a1 a2 post) : Met l yX10_used wsX10_used ({ frames := 1, cells := 0, slots := 0, locals := 22 } : Room) (va_Pc [.ref (am 0), .int a1, .int a2] (wd_pre D (mw am cI cJ cZ) (wd_tys cI cJ cZ) σ0)) (va_Qi (fun (r : Int32) (u : St) => post r ∧ u = σ0) (wd_B D (mw am cI cJ cZ)) A) 0 0 A := by
  refine Met.ofW (cc := cX10_used) (maxL := 3) (ret := (some .int)) (by decide) rfl ?_
  intro p e s m args below meth c s₁ B hml hv
  obtain ⟨rfl, hP, hK, hN⟩ := hv
  have hx := B.exec
  have hb := B.bytes
  have hr := B.returns
  have hts := atoms_spec (ws := wsX10_used) B.pre
  have hown : s.vm.findClass RX10 = some m.cls := findClass_of_methodNamed B.named
  have hlocks := B.notSynchronized
  have hS : va_S A s.heap s.heap [] := va_S.rf
  have f103 := hts (.fieldLink RX10 103 "LeastRightsModel" "uses" "I") (by decide +kernel)
  have iX10 : ∀ w ∈ wsX100, w ∈ wsX10_used := by decide +kernel
  have f38 := hts (.fieldLink RX10 38 "LeastRightsModel" "useDay" "[I") (by decide +kernel)
  have f35 := hts (.fieldLink RX10 35 "LeastRightsModel" "useRight" "[I") (by decide +kernel)
  have f32 := hts (.fieldLink RX10 32 "LeastRightsModel" "usePerson" "[I") (by decide +kernel)
  have hl := lv_entry ([.ref (am 0), .int a1, .int a2]) (n := 3) (Nat.le_of_ble_eq_true rfl)
  rw [lg_entry_eq]
  generalize (lg_sl ([.ref (am 0), .int a1, .int a2]) ++ List.replicate (3 - (lg_sl ([.ref (am 0), .int a1, .int a2])).length) Slot.unset).toArray = ls at hl ⊢
  have hl : lv_has ls 3 [(0, .ref (am 0)), (1, .int a1), (2, .int a2)] := hl
  unfold wX10_used at hw
  refine lv_iload_n hx hb dX10_used_0 rfl (lv_at hl 1 rfl) ?_
  refine lv_iconst (v := 0) hx hb dX10_used_1 (by decide) ?_
  refine lv_aload_n hx hb dX10_used_2 rfl (lv_at hl 0 rfl) ?_
  refine va_get hx hb hts iX10 hown hK hP 0 (mw_q0 am cI cJ cZ σ0) rfl 11 (by decide) f103 (fun _ h9 => h9) rfl dX10_used_3 ?_
  refine lv_iconst (v := 1) hx hb dX10_used_6 (by decide) ?_
  refine lv_isub hx hb dX10_used_7 ?_
  refine wd_cSi ⟨hx, hb, hml, hown, hts⟩ (mtX10_in l D am cI cJ cZ A hD σ0 a1 (0 : Int32) ((σ0.1 7) - (1 : Int32)) _ hw) (va_cwS 3 hts gX10_used_X10_in rfl rfl rfl (by decide +kernel) ⟨(Nat.le_of_ble_eq_true rfl), (Nat.le_of_ble_eq_true rfl)⟩) hK hN hP hS rfl hl.1 rfl (Nat.le_of_ble_eq_true rfl) dX10_used_8 ⟨Nat.zero_le _, Nat.zero_le _⟩ (fun r1 u9 H locs hq hP hS => ?_)
  obtain ⟨hw, hu⟩ := hq
  rw [hu] at hP
  refine lv_if_eq (tgt := 23) hx hb dX10_used_11 (by decide) (fun c9 => ?_) (fun c9 => ?_)
  · have hw := hw.1 c9
    refine lv_iconst (v := -1) hx hb dX10_used_23 (by decide) ?_
    exact wd_iret hx hb hr hlocks ⟨hw, rfl⟩ hP hS dX10_used_24
  · have hw := hw.2 c9
    refine lv_iload_n hx hb dX10_used_14 rfl (lv_at hl 2 rfl) ?_
    refine lv_iconst (v := 0) hx hb dX10_used_15 (by decide) ?_
    refine lv_iconst (v := 2) hx hb dX10_used_16 (by decide) ?_
    refine wd_cSi ⟨hx, hb, hml, hown, hts⟩ (mtX10_in l D am cI cJ cZ A hD σ0 a2 (0 : Int32) (2 : Int32) _ hw) (va_cwS 3 hts gX10_used_X10_in rfl rfl rfl (by decide +kernel) ⟨(Nat.le_of_ble_eq_true rfl), (Nat.le_of_ble_eq_true rfl)⟩) hK hN hP hS rfl hl.1 rfl (Nat.le_of_ble_eq_true rfl) dX10_used_17 ⟨Nat.zero_le _, Nat.zero_le _⟩ (fun r2 u9 H locs hq hP hS => ?_)
    obtain ⟨hw, hu⟩ := hq
    rw [hu] at hP
    refine lv_if_ne (tgt := 25) hx hb dX10_used_20 (by decide) (fun c9 => ?_) (fun c9 => ?_)
    · have hw := hw.1 c9
      refine lv_iload_n hx hb dX10_used_25 rfl (lv_at hl 2 rfl) ?_
      refine lv_if_ne (tgt := 38) hx hb dX10_used_26 (by decide) (fun c9 => ?_) (fun c9 => ?_)
      · have hw := hw.1 c9
        refine lv_iload_n hx hb dX10_used_38 rfl (lv_at hl 2 rfl) ?_
        refine lv_iconst (v := 1) hx hb dX10_used_39 (by decide) ?_
        refine lv_icmp_ne (tgt := 52) hx hb dX10_used_40 (by decide) (fun c9 => ?_) (fun c9 => ?_)
        · have hw := hw.1 c9
          refine lv_aload_n hx hb dX10_used_52 rfl (lv_at hl 0 rfl) ?_
          refine va_get hx hb hts iX10 hown hK hP 0 (mw_q0 am cI cJ cZ σ0) rfl 14 (by decide) f38 (fun _ h9 => h9) rfl dX10_used_53 ?_
          refine lv_iload_n hx hb dX10_used_56 rfl (lv_at hl 1 rfl) ?_
          obtain ⟨h9, hw⟩ := hw
          refine va_iald hx hb hK hP 7 0 (mw_q7 am cI cJ cZ σ0) rfl h9 dX10_used_57 ?_
          exact wd_iret hx hb hr hlocks ⟨hw, rfl⟩ hP hS dX10_used_58
        · have hw := hw.2 c9
          refine lv_aload_n hx hb dX10_used_43 rfl (lv_at hl 0 rfl) ?_
          refine va_get hx hb hts iX10 hown hK hP 0 (mw_q0 am cI cJ cZ σ0) rfl 13 (by decide) f35 (fun _ h9 => h9) rfl dX10_used_44 ?_
          refine lv_iload_n hx hb dX10_used_47 rfl (lv_at hl 1 rfl) ?_
          obtain ⟨h9, hw⟩ := hw
          refine va_iald hx hb hK hP 6 0 (mw_q6 am cI cJ cZ σ0) rfl h9 dX10_used_48 ?_
          refine lv_goto (tgt := 58) hx hb dX10_used_49 (by decide) ?_
          exact wd_iret hx hb hr hlocks ⟨hw, rfl⟩ hP hS dX10_used_58
      · have hw := hw.2 c9
        refine lv_aload_n hx hb dX10_used_29 rfl (lv_at hl 0 rfl) ?_
        refine va_get hx hb hts iX10 hown hK hP 0 (mw_q0 am cI cJ cZ σ0) rfl 12 (by decide) f32 (fun _ h9 => h9) rfl dX10_used_30 ?_
        refine lv_iload_n hx hb dX10_used_33 rfl (lv_at hl 1 rfl) ?_
        obtain ⟨h9, hw⟩ := hw
        refine va_iald hx hb hK hP 5 0 (mw_q5 am cI cJ cZ σ0) rfl h9 dX10_used_34 ?_
        refine lv_goto (tgt := 58) hx hb dX10_used_35 (by decide) ?_
        exact wd_iret hx hb hr hlocks ⟨hw, rfl⟩ hP hS dX10_used_58
    · have hw := hw.2 c9
      refine lv_iconst (v := -1) hx hb dX10_used_23 (by decide) ?_
      exact wd_iret hx hb hr hlocks ⟨hw, rfl⟩ hP hS dX10_used_24
def lpX10_apply_18 (post : Int32 → St → Prop) : Nat → Int32 → Int32 → St → Prop
  | 0, _, _, _ => False
  | n + 1, v1, v2, σ => ((σ.1 1) ≤ v2 → (post v1 σ)) ∧ (¬ (σ.1 1) ≤ v2 → (vp_in v2 10 ∧ (wX10_strikeBut σ v2 (σ.2.1 15 v2.toNatClampNeg) (fun (r1 : Int32) (σ2 : St) => ∀ x3 : Int32, x3 = (v1 + r1) → (vp_in v2 10 ∧ (wX10_give σ2 v2 (σ2.2.1 15 v2.toNatClampNeg) (fun (r4 : Int32) (σ5 : St) => ∀ x6 : Int32, x6 = v2 + (1 : Int32) → (lpX10_apply_18 post n x3 x6 σ5))))))))
def wX10_apply (σ0 : St) (post : Int32 → St → Prop) : Prop := ((σ0.1 12) = (σ0.1 1) → (∃ n7 : Nat, lpX10_apply_18 post n7 (0 : Int32) (0 : Int32) σ0)) ∧ (¬ (σ0.1 12) = (σ0.1 1) → (post (-4 : Int32) σ0))
set_option maxHeartbeats 4000000 in
set_option maxRecDepth 100000 in
theorem mtX10_apply (l : Launch) (D : va_G) (am : Nat → Nat) (cI cJ cZ : ClassId) (A : Nat → Prop) (hD : ∀ σ : St, va_D A (mw am cI cJ cZ σ)) (σ0 : St) (post : Int32 → St → Prop) (hw : wX10_apply σ0 post) : Met l yX10_apply wsX10_apply ({ frames := 2, cells := 0, slots := 0, locals := 45 } : Room) (va_Pc [.ref (am 0)] (wd_pre D (mw am cI cJ cZ) (wd_tys cI cJ cZ) σ0)) (va_Qi post (wd_B D (mw am cI cJ cZ)) A) 0 0 A := by
  refine Met.ofW (cc := cX10_apply) (maxL := 4) (ret := (some .int)) (by decide) rfl ?_
  intro p e s m args below meth c s₁ B hml hv
  obtain ⟨rfl, hP, hK, hN⟩ := hv
  have hx := B.exec
  have hb := B.bytes
  have hr := B.returns
  have hts := atoms_spec (ws := wsX10_apply) B.pre
  have hown : s.vm.findClass RX10 = some m.cls := findClass_of_methodNamed B.named
  have hlocks := B.notSynchronized
  have hS : va_S A s.heap s.heap [] := va_S.rf
  have f66 := hts (.fieldLink RX10 66 "LeastRightsModel" "planned" "I") (by decide +kernel)
  have iX10 : ∀ w ∈ wsX100, w ∈ wsX10_apply := by decide +kernel
  have f84 := hts (.fieldLink RX10 84 "LeastRightsModel" "people" "I") (by decide +kernel)
  have f69 := hts (.fieldLink RX10 69 "LeastRightsModel" "plans" "[I") (by decide +kernel)
  have L18 : ∀ (n : Nat) (v1 : Int32) (v2 : Int32) (σ : St) (H : Heap) (locs : List Loc) (ls : Array Slot), lpX10_apply_18 post n v1 v2 σ → va_P D vwCl (mw am cI cJ cZ σ) H → va_S A s.heap H locs → lv_has ls 4 [(0, .ref (am 0)), (1, .int v1), (2, .int v2)] → W p l e (headSpec wsX10_apply ({ frames := 2, cells := 0, slots := 0, locals := 45 } : Room)).room s m ([.ref (am 0)] : List Value).toArray below meth c H locs 0 0 (MQ below (va_Qi post (wd_B D (mw am cI cJ cZ)) A) ([.ref (am 0)] : List Value).toArray s 0 0 A) (F0 m 18 ls []) := by
    intro n
    induction n with
    | zero => intro v1 v2 σ H locs ls hw; exact hw.elim
    | succ n ih =>
      intro v1 v2 σ H locs ls hw hP hS hl
      rw [lpX10_apply_18] at hw
      refine lv_iload_n hx hb dX10_apply_18 rfl (lv_at hl 2 rfl) ?_
      refine lv_aload_n hx hb dX10_apply_19 rfl (lv_at hl 0 rfl) ?_
      refine va_get hx hb hts iX10 hown hK hP 0 (mw_q0 am cI cJ cZ σ) rfl 2 (by decide) f84 (fun _ h9 => h9) rfl dX10_apply_20 ?_
      refine lv_icmp_ge (tgt := 58) hx hb dX10_apply_23 (by decide) (fun c9 => ?_) (fun c9 => ?_)
      · have hw := hw.1 c9
        refine lv_iload_n hx hb dX10_apply_58 rfl (lv_at hl 1 rfl) ?_
        exact wd_iret hx hb hr hlocks hw hP hS dX10_apply_59
      · have hw := hw.2 c9
        refine lv_iload_n hx hb dX10_apply_26 rfl (lv_at hl 1 rfl) ?_
        refine lv_aload_n hx hb dX10_apply_27 rfl (lv_at hl 0 rfl) ?_
        refine lv_iload_n hx hb dX10_apply_28 rfl (lv_at hl 2 rfl) ?_
        refine lv_aload_n hx hb dX10_apply_29 rfl (lv_at hl 0 rfl) ?_
        refine va_get hx hb hts iX10 hown hK hP 0 (mw_q0 am cI cJ cZ σ) rfl 28 (by decide) f69 (fun _ h9 => h9) rfl dX10_apply_30 ?_
        refine lv_iload_n hx hb dX10_apply_33 rfl (lv_at hl 2 rfl) ?_
        obtain ⟨h9, hw⟩ := hw
        refine va_iald hx hb hK hP 16 0 (mw_q16 am cI cJ cZ σ) rfl h9 dX10_apply_34 ?_
        refine wd_cVi ⟨hx, hb, hml, hown, hts⟩ (mtX10_strikeBut l D am cI cJ cZ A hD σ v2 (σ.2.1 15 v2.toNatClampNeg) _ hw) (cwV 2 hts gX10_apply_X10_strikeBut rfl rfl rfl (by decide +kernel) ⟨(Nat.le_of_ble_eq_true rfl), (Nat.le_of_ble_eq_true rfl)⟩) (va_recv hK hP (ci := 10) (q0 := 0) rfl (mw_q0 am cI cJ cZ σ)) hK hN hP hS rfl hl.1 rfl (Nat.le_of_ble_eq_true rfl) dX10_apply_35 ⟨Nat.zero_le _, Nat.zero_le _⟩ (fun r1 σ2 H locs hw hP hS => ?_)
        refine lv_iadd hx hb dX10_apply_38 ?_
        refine lv_topi (fun x3 ex3 => ?_)
        have hw := hw x3 ex3
        refine lv_istore_n (lv' := [(1, .int x3), (0, .ref (am 0)), (2, .int v2)]) hx hb dX10_apply_39 rfl hl (by decide) rfl (fun ls hl => ?_)
        refine lv_aload_n hx hb dX10_apply_40 rfl (lv_at hl 1 rfl) ?_
        refine lv_iload_n hx hb dX10_apply_41 rfl (lv_at hl 2 rfl) ?_
        refine lv_aload_n hx hb dX10_apply_42 rfl (lv_at hl 1 rfl) ?_
        refine va_get hx hb hts iX10 hown hK hP 0 (mw_q0 am cI cJ cZ σ2) rfl 28 (by decide) f69 (fun _ h9 => h9) rfl dX10_apply_43 ?_
        refine lv_iload_n hx hb dX10_apply_46 rfl (lv_at hl 2 rfl) ?_
        obtain ⟨h9, hw⟩ := hw
        refine va_iald hx hb hK hP 16 0 (mw_q16 am cI cJ cZ σ2) rfl h9 dX10_apply_47 ?_
        refine wd_cVi ⟨hx, hb, hml, hown, hts⟩ (mtX10_give l D am cI cJ cZ A hD σ2 v2 (σ2.2.1 15 v2.toNatClampNeg) _ hw) (cwV 2 hts gX10_apply_X10_give rfl rfl rfl (by decide +kernel) ⟨(Nat.le_of_ble_eq_true rfl), (Nat.le_of_ble_eq_true rfl)⟩) (va_recv hK hP (ci := 10) (q0 := 0) rfl (mw_q0 am cI cJ cZ σ2)) hK hN hP hS rfl hl.1 rfl (Nat.le_of_ble_eq_true rfl) dX10_apply_48 ⟨Nat.zero_le _, Nat.zero_le _⟩ (fun r4 σ5 H locs hw hP hS => ?_)
        refine lv_istore_n (lv' := [(3, .int r4), (1, .int x3), (0, .ref (am 0)), (2, .int v2)]) hx hb dX10_apply_51 rfl hl (by decide) rfl (fun ls hl => ?_)
        obtain ⟨x6, ex6⟩ : ∃ z : Int32, z = v2 + (1 : Int32) := ⟨_, rfl⟩
        refine lv_iinc (v := x6) (lv' := [(2, .int x6), (3, .int r4), (1, .int x3), (0, .ref (am 0))]) hx hb dX10_apply_52 hl (k := 3) rfl (by rw [ex6]; rfl) (by decide) rfl (fun ls hl => ?_)
        have hw := hw x6 ex6
        refine lv_goto (tgt := 18) hx hb dX10_apply_55 (by decide) ?_
        exact ih _ _ _ _ _ _ hw hP hS (lv_sub hl [3, 2, 0] rfl)
  have hl := lv_entry ([.ref (am 0)]) (n := 4) (Nat.le_of_ble_eq_true rfl)
  rw [lg_entry_eq]
  generalize (lg_sl ([.ref (am 0)]) ++ List.replicate (4 - (lg_sl ([.ref (am 0)])).length) Slot.unset).toArray = ls at hl ⊢
  have hl : lv_has ls 4 [(0, .ref (am 0))] := hl
  unfold wX10_apply at hw
  refine lv_aload_n hx hb dX10_apply_0 rfl (lv_at hl 0 rfl) ?_
  refine va_get hx hb hts iX10 hown hK hP 0 (mw_q0 am cI cJ cZ σ0) rfl 27 (by decide) f66 (fun _ h9 => h9) rfl dX10_apply_1 ?_
  refine lv_aload_n hx hb dX10_apply_4 rfl (lv_at hl 0 rfl) ?_
  refine va_get hx hb hts iX10 hown hK hP 0 (mw_q0 am cI cJ cZ σ0) rfl 2 (by decide) f84 (fun _ h9 => h9) rfl dX10_apply_5 ?_
  refine lv_icmp_eq (tgt := 14) hx hb dX10_apply_8 (by decide) (fun c9 => ?_) (fun c9 => ?_)
  · have hw := hw.1 c9
    refine lv_iconst (v := 0) hx hb dX10_apply_14 (by decide) ?_
    refine lv_istore_n (lv' := [(1, .int (0 : Int32)), (0, .ref (am 0))]) hx hb dX10_apply_15 rfl hl (by decide) rfl (fun ls hl => ?_)
    refine lv_iconst (v := 0) hx hb dX10_apply_16 (by decide) ?_
    refine lv_istore_n (lv' := [(2, .int (0 : Int32)), (1, .int (0 : Int32)), (0, .ref (am 0))]) hx hb dX10_apply_17 rfl hl (by decide) rfl (fun ls hl => ?_)
    obtain ⟨n9, hw⟩ := hw
    refine L18 n9 (0 : Int32) (0 : Int32) σ0 _ _ _ hw hP hS (lv_sub hl [2, 1, 0] rfl)
  · have hw := hw.2 c9
    refine lv_bipush (v := -4) hx hb dX10_apply_11 (by decide) ?_
    exact wd_iret hx hb hr hlocks hw hP hS dX10_apply_13
