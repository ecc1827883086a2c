/-! X6_keepIfFewer X6_search X6_rolesWithin X7_isMissing X7_at X7_lay X7_write X7_spans X7_move X8_enter X8_ofPerson -/
def lpX6_keepIfFewer_16 (u1 : Int32) (post : St → Prop) : Nat → Int32 → St → Prop
  | 0, _, _ => False
  | n + 1, v2, σ => (u1 ≤ v2 → (post σ)) ∧ (¬ u1 ≤ v2 → (vp_in v2 120 ∧ (vp_in v2 120 ∧ (∀ σ2 : St, σ2 = st_A σ 11 v2.toNatClampNeg (σ.2.1 12 v2.toNatClampNeg) → (∀ x3 : Int32, x3 = v2 + (1 : Int32) → (lpX6_keepIfFewer_16 u1 post n x3 σ2))))))
def wX6_keepIfFewer (σ0 : St) (a1 : Int32) (post : St → Prop) : Prop := (a1 < (σ0.1 11) → (∀ σ1 : St, σ1 = st_S σ0 11 a1 → (∃ n4 : Nat, lpX6_keepIfFewer_16 a1 post n4 (0 : Int32) σ1))) ∧ (¬ a1 < (σ0.1 11) → (post σ0))
set_option maxHeartbeats 4000000 in
set_option maxRecDepth 100000 in
theorem mtX6_keepIfFewer (l : Launch) (D : va_G) (ad : Nat → Nat) (cI cJ cZ : ClassId) (A : Nat → Prop) (hD : ∀ σ : St, va_D A (xw ad cI cJ cZ σ)) (σ0 : St) (a1 : Int32) (post : St → Prop) (hw : wX6_keepIfFewer σ0 a1 post) : Met l yX6_keepIfFewer wsX6_keepIfFewer ({ frames := 0, cells := 0, slots := 0, locals := 0 } : Room) (va_Pc [.ref (ad 5), .int a1] (wd_pre D (xw ad cI cJ cZ) (wd_tys cI cJ cZ) σ0)) (va_Qv post (wd_B D (xw ad cI cJ cZ)) A) 0 0 A := by
  refine Met.ofW (cc := cX6_keepIfFewer) (maxL := 3) (ret := none) (by decide) rfl ?_
  intro p e s m args below meth c s₁ B hml hv
  obtain ⟨rfl, hP, hK, hN⟩ := hv
  have hx := B.exec
  have hb := B.bytes
  have hr := B.returns
  have hts := atoms_spec (ws := wsX6_keepIfFewer) B.pre
  have hown : s.vm.findClass RX6 = some m.cls := findClass_of_methodNamed B.named
  have hlocks := B.notSynchronized
  have hS : va_S A s.heap s.heap [] := va_S.rf
  have f18 := hts (.fieldLink RX6 18 "LeastRights$RoleTree" "fewest" "I") (by decide +kernel)
  have iX6 : ∀ w ∈ wsX60, w ∈ wsX6_keepIfFewer := by decide +kernel
  have f21 := hts (.fieldLink RX6 21 "LeastRights$RoleTree" "fewestRow" "[I") (by decide +kernel)
  have f25 := hts (.fieldLink RX6 25 "LeastRights$RoleTree" "way" "[I") (by decide +kernel)
  have L16 : ∀ (u1 : Int32) (n : Nat) (v2 : Int32) (σ : St) (H : Heap) (locs : List Loc) (ls : Array Slot), lpX6_keepIfFewer_16 u1 post n v2 σ → va_P D vwCl (xw ad cI cJ cZ σ) H → va_S A s.heap H locs → lv_has ls 3 [(0, .ref (ad 5)), (1, .int u1), (2, .int v2)] → W p l e (headSpec wsX6_keepIfFewer ({ frames := 0, cells := 0, slots := 0, locals := 0 } : Room)).room s m ([.ref (ad 5), .int a1] : List Value).toArray below meth c H locs 0 0 (MQ below (va_Qv post (wd_B D (xw ad cI cJ cZ)) A) ([.ref (ad 5), .int a1] : List Value).toArray s 0 0 A) (F0 m 16 ls []) := by
    intro u1 n
    induction n with
    | zero => intro v2 σ H locs ls hw; exact hw.elim
    | succ n ih =>
      intro v2 σ H locs ls hw hP hS hl
      rw [lpX6_keepIfFewer_16] at hw
      refine lv_iload_n hx hb dX6_keepIfFewer_16 rfl (lv_at hl 2 rfl) ?_
      refine lv_iload_n hx hb dX6_keepIfFewer_17 rfl (lv_at hl 1 rfl) ?_
      refine lv_icmp_ge (tgt := 39) hx hb dX6_keepIfFewer_18 (by decide) (fun c9 => ?_) (fun c9 => ?_)
      · have hw := hw.1 c9
        exact wd_vret hx hb hr hlocks hw hP hS dX6_keepIfFewer_39
      · have hw := hw.2 c9
        refine lv_aload_n hx hb dX6_keepIfFewer_21 rfl (lv_at hl 0 rfl) ?_
        refine va_get hx hb hts iX6 hown hK hP 5 (xw_q5 ad cI cJ cZ σ) rfl 3 (by decide) f21 (fun _ h9 => h9) rfl dX6_keepIfFewer_22 ?_
        refine lv_iload_n hx hb dX6_keepIfFewer_25 rfl (lv_at hl 2 rfl) ?_
        refine lv_aload_n hx hb dX6_keepIfFewer_26 rfl (lv_at hl 0 rfl) ?_
        refine va_get hx hb hts iX6 hown hK hP 5 (xw_q5 ad cI cJ cZ σ) rfl 4 (by decide) f25 (fun _ h9 => h9) rfl dX6_keepIfFewer_27 ?_
        refine lv_iload_n hx hb dX6_keepIfFewer_30 rfl (lv_at hl 2 rfl) ?_
        obtain ⟨h9, hw⟩ := hw
        refine va_iald hx hb hK hP 22 0 (xw_q22 ad cI cJ cZ σ) rfl h9 dX6_keepIfFewer_31 ?_
        obtain ⟨h9, hw⟩ := hw
        refine wd_iast 11 21 hx hb hK hP hD hS (xw_q21 ad cI cJ cZ σ) rfl (xw_a11 ad cI cJ cZ σ) h9 dX6_keepIfFewer_32 (fun H locs σ2 eσ2 hP hS => ?_)
        have hw := hw σ2 eσ2
        obtain ⟨x3, ex3⟩ : ∃ z : Int32, z = v2 + (1 : Int32) := ⟨_, rfl⟩
        refine lv_iinc (v := x3) (lv' := [(2, .int x3), (0, .ref (ad 5)), (1, .int u1)]) hx hb dX6_keepIfFewer_33 hl (k := 2) rfl (by rw [ex3]; rfl) (by decide) rfl (fun ls hl => ?_)
        have hw := hw x3 ex3
        refine lv_goto (tgt := 16) hx hb dX6_keepIfFewer_36 (by decide) ?_
        exact ih _ _ _ _ _ hw hP hS (lv_sub hl [1, 2, 0] rfl)
  have hl := lv_entry ([.ref (ad 5), .int a1]) (n := 3) (Nat.le_of_ble_eq_true rfl)
  rw [lg_entry_eq]
  generalize (lg_sl ([.ref (ad 5), .int a1]) ++ List.replicate (3 - (lg_sl ([.ref (ad 5), .int a1])).length) Slot.unset).toArray = ls at hl ⊢
  have hl : lv_has ls 3 [(0, .ref (ad 5)), (1, .int a1)] := hl
  unfold wX6_keepIfFewer at hw
  refine lv_iload_n hx hb dX6_keepIfFewer_0 rfl (lv_at hl 1 rfl) ?_
  refine lv_aload_n hx hb dX6_keepIfFewer_1 rfl (lv_at hl 0 rfl) ?_
  refine va_get hx hb hts iX6 hown hK hP 5 (xw_q5 ad cI cJ cZ σ0) rfl 2 (by decide) f18 (fun _ h9 => h9) rfl dX6_keepIfFewer_2 ?_
  refine lv_icmp_lt (tgt := 9) hx hb dX6_keepIfFewer_5 (by decide) (fun c9 => ?_) (fun c9 => ?_)
  · have hw := hw.1 c9
    refine lv_aload_n hx hb dX6_keepIfFewer_9 rfl (lv_at hl 0 rfl) ?_
    refine lv_iload_n hx hb dX6_keepIfFewer_10 rfl (lv_at hl 1 rfl) ?_
    refine wd_put 11 5 2 (ty := .int) tyX6 hx hb hts iX6 tyX6_ok nmX6 hown hK hP hD hS (xw_q5 ad cI cJ cZ σ0) rfl (by decide) f18 (fun _ h9 => h9) rfl (by decide +kernel) rfl rfl (Nat.le_of_ble_eq_true rfl) (xw_s11 ad cI cJ cZ σ0) dX6_keepIfFewer_11 (fun H locs σ1 eσ1 hP hS => ?_)
    have hw := hw σ1 eσ1
    refine lv_iconst (v := 0) hx hb dX6_keepIfFewer_14 (by decide) ?_
    refine lv_istore_n (lv' := [(2, .int (0 : Int32)), (0, .ref (ad 5)), (1, .int a1)]) hx hb dX6_keepIfFewer_15 rfl hl (by decide) rfl (fun ls hl => ?_)
    obtain ⟨n9, hw⟩ := hw
    refine L16 a1 n9 (0 : Int32) σ1 _ _ _ hw hP hS (lv_sub hl [1, 2, 0] rfl)
  · have hw := hw.2 c9
    exact wd_vret hx hb hr hlocks hw hP hS dX6_keepIfFewer_8
def lpX6_search_34 (u2 : Int32) (u4 : Int32) (K165 : St → Prop) (post : Int32 → St → Prop) : Nat → Int32 → Int32 → St → Prop
  | 0, _, _, _ => False
  | n + 1, v5, v6, σ => (v5 < 0 → (K165 σ)) ∧ (¬ v5 < 0 → (((40002 : Int32) ≤ v6 → (K165 σ)) ∧ (¬ (40002 : Int32) ≤ v6 → (wX6_nextOf σ v5 (fun (r4 : Int32) (σ5 : St) => (¬ r4 = 0 → (((σ5.1 10) < u4 → (∀ σ6 : St, σ6 = st_S σ5 10 ((σ5.1 10) + (1 : Int32)) → (vp_in v5 120 ∧ (∀ σ7 : St, σ7 = st_A σ6 12 v5.toNatClampNeg r4 → (wX6_cover σ7 v5 r4 u2 (fun (σ8 : St) => wX6_openPlace σ8 (v5 + (1 : Int32)) u2 (fun (r9 : Int32) (σ10 : St) => (¬ r9 = 0 → ((r9 = 0 → (∀ x11 : Int32, x11 = v6 + (1 : Int32) → (lpX6_search_34 u2 u4 K165 post n v5 x11 σ10))) ∧ (¬ r9 = 0 → (((σ10.1 11) ≤ (v5 + (2 : Int32)) → (∀ x12 : Int32, x12 = v6 + (1 : Int32) → (lpX6_search_34 u2 u4 K165 post n v5 x12 σ10))) ∧ (¬ (σ10.1 11) ≤ (v5 + (2 : Int32)) → (((120 : Int32) ≤ (v5 + (1 : Int32)) → (∀ x13 : Int32, x13 = v6 + (1 : Int32) → (lpX6_search_34 u2 u4 K165 post n v5 x13 σ10))) ∧ (¬ (120 : Int32) ≤ (v5 + (1 : Int32)) → (∀ x14 : Int32, x14 = v5 + (1 : Int32) → (∀ x15 : Int32, x15 = v6 + (1 : Int32) → (lpX6_search_34 u2 u4 K165 post n x14 x15 σ10)))))))))) ∧ (r9 = 0 → (wX6_keepIfFewer σ10 (v5 + (1 : Int32)) (fun (σ16 : St) => (r9 = 0 → (∀ x17 : Int32, x17 = v6 + (1 : Int32) → (lpX6_search_34 u2 u4 K165 post n v5 x17 σ16))) ∧ (¬ r9 = 0 → (((σ16.1 11) ≤ (v5 + (2 : Int32)) → (∀ x18 : Int32, x18 = v6 + (1 : Int32) → (lpX6_search_34 u2 u4 K165 post n v5 x18 σ16))) ∧ (¬ (σ16.1 11) ≤ (v5 + (2 : Int32)) → (((120 : Int32) ≤ (v5 + (1 : Int32)) → (∀ x19 : Int32, x19 = v6 + (1 : Int32) → (lpX6_search_34 u2 u4 K165 post n v5 x19 σ16))) ∧ (¬ (120 : Int32) ≤ (v5 + (1 : Int32)) → (∀ x20 : Int32, x20 = v5 + (1 : Int32) → (∀ x21 : Int32, x21 = v6 + (1 : Int32) → (lpX6_search_34 u2 u4 K165 post n x20 x21 σ16)))))))))))))))))) ∧ (¬ (σ5.1 10) < u4 → (post (0 : Int32) σ5)))) ∧ (r4 = 0 → (∀ x22 : Int32, x22 = v5 + (-1 : Int32) → (∀ x23 : Int32, x23 = v6 + (1 : Int32) → (lpX6_search_34 u2 u4 K165 post n x22 x23 σ5)))))))))
def wX6_search (σ0 : St) (a2 : Int32) (a4 : Int32) (post : Int32 → St → Prop) : Prop := wX6_begin σ0 (fun (σ1 : St) => wX6_openPlace σ1 (0 : Int32) a2 (fun (r2 : Int32) (σ3 : St) => (r2 = 0 → ((0 ≤ (-1 : Int32) → (∃ n27 : Nat, lpX6_search_34 a2 a4 (fun (σ24 : St) => ((122 : Int32) ≤ (σ24.1 11) → (∀ σ25 : St, σ25 = st_S σ24 9 (0 : Int32) → (post (1 : Int32) σ25))) ∧ (¬ (122 : Int32) ≤ (σ24.1 11) → (∀ σ26 : St, σ26 = st_S σ24 9 (σ24.1 11) → (post (1 : Int32) σ26)))) post n27 (-1 : Int32) (0 : Int32) σ3)) ∧ (¬ 0 ≤ (-1 : Int32) → (∀ σ28 : St, σ28 = st_S σ3 11 (0 : Int32) → (∃ n32 : Nat, lpX6_search_34 a2 a4 (fun (σ29 : St) => ((122 : Int32) ≤ (σ29.1 11) → (∀ σ30 : St, σ30 = st_S σ29 9 (0 : Int32) → (post (1 : Int32) σ30))) ∧ (¬ (122 : Int32) ≤ (σ29.1 11) → (∀ σ31 : St, σ31 = st_S σ29 9 (σ29.1 11) → (post (1 : Int32) σ31)))) post n32 (-1 : Int32) (0 : Int32) σ28))))) ∧ (¬ r2 = 0 → ((0 ≤ (0 : Int32) → (∃ n36 : Nat, lpX6_search_34 a2 a4 (fun (σ33 : St) => ((122 : Int32) ≤ (σ33.1 11) → (∀ σ34 : St, σ34 = st_S σ33 9 (0 : Int32) → (post (1 : Int32) σ34))) ∧ (¬ (122 : Int32) ≤ (σ33.1 11) → (∀ σ35 : St, σ35 = st_S σ33 9 (σ33.1 11) → (post (1 : Int32) σ35)))) post n36 (0 : Int32) (0 : Int32) σ3)) ∧ (¬ 0 ≤ (0 : Int32) → (∀ σ37 : St, σ37 = st_S σ3 11 (0 : Int32) → (∃ n41 : Nat, lpX6_search_34 a2 a4 (fun (σ38 : St) => ((122 : Int32) ≤ (σ38.1 11) → (∀ σ39 : St, σ39 = st_S σ38 9 (0 : Int32) → (post (1 : Int32) σ39))) ∧ (¬ (122 : Int32) ≤ (σ38.1 11) → (∀ σ40 : St, σ40 = st_S σ38 9 (σ38.1 11) → (post (1 : Int32) σ40)))) post n41 (0 : Int32) (0 : Int32) σ37)))))))
set_option maxHeartbeats 4000000 in
set_option maxRecDepth 100000 in
theorem mtX6_search (l : Launch) (D : va_G) (ad : Nat → Nat) (cI cJ cZ : ClassId) (A : Nat → Prop) (hD : ∀ σ : St, va_D A (xw ad cI cJ cZ σ)) (σ0 : St) (a2 : Int32) (a4 : Int32) (post : Int32 → St → Prop) (hw : wX6_search σ0 a2 a4 post) : Met l yX6_search wsX6_search ({ frames := 1, cells := 0, slots := 0, locals := 27 } : Room) (va_Pc [.ref (ad 5), .ref (ad 10), .int a2, .ref (ad 4), .int a4] (wd_pre D (xw ad cI cJ cZ) (wd_tys cI cJ cZ) σ0)) (va_Qi post (wd_B D (xw ad cI cJ cZ)) A) 0 0 A := by
  refine Met.ofW (cc := cX6_search) (maxL := 9) (ret := (some .boolean)) (by decide) rfl ?_
  intro p e s m args below meth c s₁ B hml hv
  obtain ⟨rfl, hP, hK, hN⟩ := hv
  have hx := B.exec
  have hb := B.bytes
  have hr := B.returns
  have hts := atoms_spec (ws := wsX6_search) B.pre
  have hown : s.vm.findClass RX6 = some m.cls := findClass_of_methodNamed B.named
  have hlocks := B.notSynchronized
  have hS : va_S A s.heap s.heap [] := va_S.rf
  have k47 := hts (.constant RX6 47 (40002)) (by decide +kernel)
  have f15 := hts (.fieldLink RX6 15 "LeastRights$RoleTree" "tried" "I") (by decide +kernel)
  have iX6 : ∀ w ∈ wsX60, w ∈ wsX6_search := by decide +kernel
  have f25 := hts (.fieldLink RX6 25 "LeastRights$RoleTree" "way" "[I") (by decide +kernel)
  have f18 := hts (.fieldLink RX6 18 "LeastRights$RoleTree" "fewest" "I") (by decide +kernel)
  have f11 := hts (.fieldLink RX6 11 "LeastRights$RoleTree" "size" "I") (by decide +kernel)
  have L34 : ∀ (u2 : Int32) (u4 : Int32) (K165 : St → Prop) (_ : ∀ (σ : St) (H : Heap) (locs : List Loc) (ls : Array Slot), K165 σ → va_P D vwCl (xw ad cI cJ cZ σ) H → va_S A s.heap H locs → lv_has ls 9 [(0, .ref (ad 5)), (1, .ref (ad 10)), (3, .ref (ad 4)), (2, .int u2), (4, .int u4)] → W p l e (headSpec wsX6_search ({ frames := 1, cells := 0, slots := 0, locals := 27 } : Room)).room s m ([.ref (ad 5), .ref (ad 10), .int a2, .ref (ad 4), .int a4] : List Value).toArray below meth c H locs 0 0 (MQ below (va_Qi post (wd_B D (xw ad cI cJ cZ)) A) ([.ref (ad 5), .ref (ad 10), .int a2, .ref (ad 4), .int a4] : List Value).toArray s 0 0 A) (F0 m 165 ls [])) (n : Nat) (v5 : Int32) (v6 : Int32) (σ : St) (H : Heap) (locs : List Loc) (ls : Array Slot), lpX6_search_34 u2 u4 K165 post n v5 v6 σ → va_P D vwCl (xw ad cI cJ cZ σ) H → va_S A s.heap H locs → lv_has ls 9 [(0, .ref (ad 5)), (1, .ref (ad 10)), (3, .ref (ad 4)), (2, .int u2), (4, .int u4), (5, .int v5), (6, .int v6)] → W p l e (headSpec wsX6_search ({ frames := 1, cells := 0, slots := 0, locals := 27 } : Room)).room s m ([.ref (ad 5), .ref (ad 10), .int a2, .ref (ad 4), .int a4] : List Value).toArray below meth c H locs 0 0 (MQ below (va_Qi post (wd_B D (xw ad cI cJ cZ)) A) ([.ref (ad 5), .ref (ad 10), .int a2, .ref (ad 4), .int a4] : List Value).toArray s 0 0 A) (F0 m 34 ls []) := by
    intro u2 u4 K165 hK165 n
    induction n with
    | zero => intro v5 v6 σ H locs ls hw; exact hw.elim
    | succ n ih =>
      intro v5 v6 σ H locs ls hw hP hS hl
      rw [lpX6_search_34] at hw
      refine lv_iload hx hb dX6_search_34 (lv_at hl 5 rfl) ?_
      refine lv_if_lt (tgt := 165) hx hb dX6_search_36 (by decide) (fun c9 => ?_) (fun c9 => ?_)
      · have hw := hw.1 c9
        exact hK165 _ _ _ _ hw hP hS (lv_sub hl [0, 1, 2, 3, 4] rfl)
      · have hw := hw.2 c9
        refine lv_iload hx hb dX6_search_39 (lv_at hl 6 rfl) ?_
        refine lv_ldc hx hb hown k47 dX6_search_41 ?_
        refine lv_icmp_ge (tgt := 165) hx hb dX6_search_43 (by decide) (fun c9 => ?_) (fun c9 => ?_)
        · have hw := hw.1 c9
          exact hK165 _ _ _ _ hw hP hS (lv_sub hl [0, 1, 2, 3, 4] rfl)
        · have hw := hw.2 c9
          refine lv_aload_n hx hb dX6_search_46 rfl (lv_at hl 0 rfl) ?_
          refine lv_iload hx hb dX6_search_47 (lv_at hl 5 rfl) ?_
          refine lv_aload_n hx hb dX6_search_49 rfl (lv_at hl 2 rfl) ?_
          refine wd_cVi ⟨hx, hb, hml, hown, hts⟩ (mtX6_nextOf l D ad cI cJ cZ A hD σ v5 _ hw) (cwV 2 hts gX6_search_X6_nextOf rfl rfl rfl (by decide +kernel) ⟨(Nat.le_of_ble_eq_true rfl), (Nat.le_of_ble_eq_true rfl)⟩) (va_recv hK hP (ci := 6) (q0 := 5) rfl (xw_q5 ad cI cJ cZ σ)) hK hN hP hS rfl hl.1 rfl (Nat.le_of_ble_eq_true rfl) dX6_search_50 ⟨Nat.zero_le _, Nat.zero_le _⟩ (fun r4 σ5 H locs hw hP hS => ?_)
          refine lv_istore (lv' := [(7, .int r4), (0, .ref (ad 5)), (1, .ref (ad 10)), (3, .ref (ad 4)), (2, .int u2), (4, .int u4), (5, .int v5), (6, .int v6)]) hx hb dX6_search_53 hl (by decide) rfl (fun ls hl => ?_)
          refine lv_iload hx hb dX6_search_55 (lv_at hl 0 rfl) ?_
          refine lv_if_ne (tgt := 66) hx hb dX6_search_57 (by decide) (fun c9 => ?_) (fun c9 => ?_)
          · have hw := hw.1 c9
            refine lv_aload_n hx hb dX6_search_66 rfl (lv_at hl 1 rfl) ?_
            refine va_get hx hb hts iX6 hown hK hP 5 (xw_q5 ad cI cJ cZ σ5) rfl 1 (by decide) f15 (fun _ h9 => h9) rfl dX6_search_67 ?_
            refine lv_iload hx hb dX6_search_70 (lv_at hl 5 rfl) ?_
            refine lv_icmp_lt (tgt := 77) hx hb dX6_search_72 (by decide) (fun c9 => ?_) (fun c9 => ?_)
            · have hw := hw.1 c9
              refine lv_aload_n hx hb dX6_search_77 rfl (lv_at hl 1 rfl) ?_
              refine lv_dup hx hb dX6_search_78 rfl ?_
              refine va_get hx hb hts iX6 hown hK hP 5 (xw_q5 ad cI cJ cZ σ5) rfl 1 (by decide) f15 (fun _ h9 => h9) rfl dX6_search_79 ?_
              refine lv_iconst (v := 1) hx hb dX6_search_82 (by decide) ?_
              refine lv_iadd hx hb dX6_search_83 ?_
              refine wd_put 10 5 1 (ty := .int) tyX6 hx hb hts iX6 tyX6_ok nmX6 hown hK hP hD hS (xw_q5 ad cI cJ cZ σ5) rfl (by decide) f15 (fun _ h9 => h9) rfl (by decide +kernel) rfl rfl (Nat.le_of_ble_eq_true rfl) (xw_s10 ad cI cJ cZ σ5) dX6_search_84 (fun H locs σ6 eσ6 hP hS => ?_)
              have hw := hw σ6 eσ6
              refine lv_aload_n hx hb dX6_search_87 rfl (lv_at hl 1 rfl) ?_
              refine va_get hx hb hts iX6 hown hK hP 5 (xw_q5 ad cI cJ cZ σ6) rfl 4 (by decide) f25 (fun _ h9 => h9) rfl dX6_search_88 ?_
              refine lv_iload hx hb dX6_search_91 (lv_at hl 6 rfl) ?_
              refine lv_iload hx hb dX6_search_93 (lv_at hl 0 rfl) ?_
              obtain ⟨h9, hw⟩ := hw
              refine wd_iast 12 22 hx hb hK hP hD hS (xw_q22 ad cI cJ cZ σ6) rfl (xw_a12 ad cI cJ cZ σ6) h9 dX6_search_95 (fun H locs σ7 eσ7 hP hS => ?_)
              have hw := hw σ7 eσ7
              refine lv_aload_n hx hb dX6_search_96 rfl (lv_at hl 1 rfl) ?_
              refine lv_iload hx hb dX6_search_97 (lv_at hl 6 rfl) ?_
              refine lv_iload hx hb dX6_search_99 (lv_at hl 0 rfl) ?_
              refine lv_aload_n hx hb dX6_search_101 rfl (lv_at hl 2 rfl) ?_
              refine lv_iload_n hx hb dX6_search_102 rfl (lv_at hl 4 rfl) ?_
              refine wd_cVv ⟨hx, hb, hml, hown, hts⟩ (mtX6_cover l D ad cI cJ cZ A hD σ7 v5 r4 u2 _ hw) (cwV 4 hts gX6_search_X6_cover rfl rfl rfl (by decide +kernel) ⟨(Nat.le_of_ble_eq_true rfl), (Nat.le_of_ble_eq_true rfl)⟩) (va_recv hK hP (ci := 6) (q0 := 5) rfl (xw_q5 ad cI cJ cZ σ7)) hK hN hP hS rfl hl.1 rfl (Nat.le_of_ble_eq_true rfl) dX6_search_103 ⟨Nat.zero_le _, Nat.zero_le _⟩ (fun σ8 H locs hw hP hS => ?_)
              refine lv_aload_n hx hb dX6_search_106 rfl (lv_at hl 1 rfl) ?_
              refine lv_iload hx hb dX6_search_107 (lv_at hl 6 rfl) ?_
              refine lv_iconst (v := 1) hx hb dX6_search_109 (by decide) ?_
              refine lv_iadd hx hb dX6_search_110 ?_
              refine lv_aload_n hx hb dX6_search_111 rfl (lv_at hl 2 rfl) ?_
              refine lv_iload_n hx hb dX6_search_112 rfl (lv_at hl 4 rfl) ?_
              refine wd_cVi ⟨hx, hb, hml, hown, hts⟩ (mtX6_openPlace l D ad cI cJ cZ A hD σ8 (v5 + (1 : Int32)) u2 _ hw) (cwV 3 hts gX6_search_X6_openPlace rfl rfl rfl (by decide +kernel) ⟨(Nat.le_of_ble_eq_true rfl), (Nat.le_of_ble_eq_true rfl)⟩) (va_recv hK hP (ci := 6) (q0 := 5) rfl (xw_q5 ad cI cJ cZ σ8)) hK hN hP hS rfl hl.1 rfl (Nat.le_of_ble_eq_true rfl) dX6_search_113 ⟨Nat.zero_le _, Nat.zero_le _⟩ (fun r9 σ10 H locs hw hP hS => ?_)
              refine lv_istore (lv' := [(8, .int r9), (7, .int r4), (0, .ref (ad 5)), (1, .ref (ad 10)), (3, .ref (ad 4)), (2, .int u2), (4, .int u4), (5, .int v5), (6, .int v6)]) hx hb dX6_search_116 hl (by decide) rfl (fun ls hl => ?_)
              refine lv_iload hx hb dX6_search_118 (lv_at hl 0 rfl) ?_
              refine lv_if_ne (tgt := 131) hx hb dX6_search_120 (by decide) (fun c9 => ?_) (fun c9 => ?_)
              · have hw := hw.1 c9
                refine lv_iload hx hb dX6_search_131 (lv_at hl 0 rfl) ?_
                refine lv_if_eq (tgt := 159) hx hb dX6_search_133 (by decide) (fun c9 => ?_) (fun c9 => ?_)
                · have hw := hw.1 c9
                  obtain ⟨x11, ex11⟩ : ∃ z : Int32, z = v6 + (1 : Int32) := ⟨_, rfl⟩
                  refine lv_iinc (v := x11) (lv' := [(6, .int x11), (8, .int r9), (7, .int r4), (0, .ref (ad 5)), (1, .ref (ad 10)), (3, .ref (ad 4)), (2, .int u2), (4, .int u4), (5, .int v5)]) hx hb dX6_search_159 hl (k := 8) rfl (by rw [ex11]; rfl) (by decide) rfl (fun ls hl => ?_)
                  have hw := hw x11 ex11
                  refine lv_goto (tgt := 34) hx hb dX6_search_162 (by decide) ?_
                  exact ih _ _ _ _ _ _ hw hP hS (lv_sub hl [3, 4, 5, 6, 7, 8, 0] rfl)
                · have hw := hw.2 c9
                  refine lv_iload hx hb dX6_search_136 (lv_at hl 7 rfl) ?_
                  refine lv_iconst (v := 2) hx hb dX6_search_138 (by decide) ?_
                  refine lv_iadd hx hb dX6_search_139 ?_
                  refine lv_aload_n hx hb dX6_search_140 rfl (lv_at hl 2 rfl) ?_
                  refine va_get hx hb hts iX6 hown hK hP 5 (xw_q5 ad cI cJ cZ σ10) rfl 2 (by decide) f18 (fun _ h9 => h9) rfl dX6_search_141 ?_
                  refine lv_icmp_ge (tgt := 159) hx hb dX6_search_144 (by decide) (fun c9 => ?_) (fun c9 => ?_)
                  · have hw := hw.1 c9
                    obtain ⟨x12, ex12⟩ : ∃ z : Int32, z = v6 + (1 : Int32) := ⟨_, rfl⟩
                    refine lv_iinc (v := x12) (lv' := [(6, .int x12), (8, .int r9), (7, .int r4), (0, .ref (ad 5)), (1, .ref (ad 10)), (3, .ref (ad 4)), (2, .int u2), (4, .int u4), (5, .int v5)]) hx hb dX6_search_159 hl (k := 8) rfl (by rw [ex12]; rfl) (by decide) rfl (fun ls hl => ?_)
                    have hw := hw x12 ex12
                    refine lv_goto (tgt := 34) hx hb dX6_search_162 (by decide) ?_
                    exact ih _ _ _ _ _ _ hw hP hS (lv_sub hl [3, 4, 5, 6, 7, 8, 0] rfl)
                  · have hw := hw.2 c9
                    refine lv_iload hx hb dX6_search_147 (lv_at hl 7 rfl) ?_
                    refine lv_iconst (v := 1) hx hb dX6_search_149 (by decide) ?_
                    refine lv_iadd hx hb dX6_search_150 ?_
                    refine lv_bipush (v := 120) hx hb dX6_search_151 (by decide) ?_
                    refine lv_icmp_ge (tgt := 159) hx hb dX6_search_153 (by decide) (fun c9 => ?_) (fun c9 => ?_)
                    · have hw := hw.1 c9
                      obtain ⟨x13, ex13⟩ : ∃ z : Int32, z = v6 + (1 : Int32) := ⟨_, rfl⟩
                      refine lv_iinc (v := x13) (lv' := [(6, .int x13), (8, .int r9), (7, .int r4), (0, .ref (ad 5)), (1, .ref (ad 10)), (3, .ref (ad 4)), (2, .int u2), (4, .int u4), (5, .int v5)]) hx hb dX6_search_159 hl (k := 8) rfl (by rw [ex13]; rfl) (by decide) rfl (fun ls hl => ?_)
                      have hw := hw x13 ex13
                      refine lv_goto (tgt := 34) hx hb dX6_search_162 (by decide) ?_
                      exact ih _ _ _ _ _ _ hw hP hS (lv_sub hl [3, 4, 5, 6, 7, 8, 0] rfl)
                    · have hw := hw.2 c9
                      obtain ⟨x14, ex14⟩ : ∃ z : Int32, z = v5 + (1 : Int32) := ⟨_, rfl⟩
                      refine lv_iinc (v := x14) (lv' := [(5, .int x14), (8, .int r9), (7, .int r4), (0, .ref (ad 5)), (1, .ref (ad 10)), (3, .ref (ad 4)), (2, .int u2), (4, .int u4), (6, .int v6)]) hx hb dX6_search_156 hl (k := 7) rfl (by rw [ex14]; rfl) (by decide) rfl (fun ls hl => ?_)
                      have hw := hw x14 ex14
                      obtain ⟨x15, ex15⟩ : ∃ z : Int32, z = v6 + (1 : Int32) := ⟨_, rfl⟩
                      refine lv_iinc (v := x15) (lv' := [(6, .int x15), (5, .int x14), (8, .int r9), (7, .int r4), (0, .ref (ad 5)), (1, .ref (ad 10)), (3, .ref (ad 4)), (2, .int u2), (4, .int u4)]) hx hb dX6_search_159 hl (k := 8) rfl (by rw [ex15]; rfl) (by decide) rfl (fun ls hl => ?_)
                      have hw := hw x15 ex15
                      refine lv_goto (tgt := 34) hx hb dX6_search_162 (by decide) ?_
                      exact ih _ _ _ _ _ _ hw hP hS (lv_sub hl [4, 5, 6, 7, 8, 1, 0] rfl)
              · have hw := hw.2 c9
                refine lv_aload_n hx hb dX6_search_123 rfl (lv_at hl 2 rfl) ?_
                refine lv_iload hx hb dX6_search_124 (lv_at hl 7 rfl) ?_
                refine lv_iconst (v := 1) hx hb dX6_search_126 (by decide) ?_
                refine lv_iadd hx hb dX6_search_127 ?_
                refine wd_cVv ⟨hx, hb, hml, hown, hts⟩ (mtX6_keepIfFewer l D ad cI cJ cZ A hD σ10 (v5 + (1 : Int32)) _ hw) (cwV 1 hts gX6_search_X6_keepIfFewer rfl rfl rfl (by decide +kernel) ⟨(Nat.le_of_ble_eq_true rfl), (Nat.le_of_ble_eq_true rfl)⟩) (va_recv hK hP (ci := 6) (q0 := 5) rfl (xw_q5 ad cI cJ cZ σ10)) hK hN hP hS rfl hl.1 rfl (Nat.le_of_ble_eq_true rfl) dX6_search_128 ⟨Nat.zero_le _, Nat.zero_le _⟩ (fun σ16 H locs hw hP hS => ?_)
                refine lv_iload hx hb dX6_search_131 (lv_at hl 0 rfl) ?_
                refine lv_if_eq (tgt := 159) hx hb dX6_search_133 (by decide) (fun c9 => ?_) (fun c9 => ?_)
                · have hw := hw.1 c9
                  obtain ⟨x17, ex17⟩ : ∃ z : Int32, z = v6 + (1 : Int32) := ⟨_, rfl⟩
                  refine lv_iinc (v := x17) (lv' := [(6, .int x17), (8, .int r9), (7, .int r4), (0, .ref (ad 5)), (1, .ref (ad 10)), (3, .ref (ad 4)), (2, .int u2), (4, .int u4), (5, .int v5)]) hx hb dX6_search_159 hl (k := 8) rfl (by rw [ex17]; rfl) (by decide) rfl (fun ls hl => ?_)
                  have hw := hw x17 ex17
                  refine lv_goto (tgt := 34) hx hb dX6_search_162 (by decide) ?_
                  exact ih _ _ _ _ _ _ hw hP hS (lv_sub hl [3, 4, 5, 6, 7, 8, 0] rfl)
                · have hw := hw.2 c9
                  refine lv_iload hx hb dX6_search_136 (lv_at hl 7 rfl) ?_
                  refine lv_iconst (v := 2) hx hb dX6_search_138 (by decide) ?_
                  refine lv_iadd hx hb dX6_search_139 ?_
                  refine lv_aload_n hx hb dX6_search_140 rfl (lv_at hl 2 rfl) ?_
                  refine va_get hx hb hts iX6 hown hK hP 5 (xw_q5 ad cI cJ cZ σ16) rfl 2 (by decide) f18 (fun _ h9 => h9) rfl dX6_search_141 ?_
                  refine lv_icmp_ge (tgt := 159) hx hb dX6_search_144 (by decide) (fun c9 => ?_) (fun c9 => ?_)
                  · have hw := hw.1 c9
                    obtain ⟨x18, ex18⟩ : ∃ z : Int32, z = v6 + (1 : Int32) := ⟨_, rfl⟩
                    refine lv_iinc (v := x18) (lv' := [(6, .int x18), (8, .int r9), (7, .int r4), (0, .ref (ad 5)), (1, .ref (ad 10)), (3, .ref (ad 4)), (2, .int u2), (4, .int u4), (5, .int v5)]) hx hb dX6_search_159 hl (k := 8) rfl (by rw [ex18]; rfl) (by decide) rfl (fun ls hl => ?_)
                    have hw := hw x18 ex18
                    refine lv_goto (tgt := 34) hx hb dX6_search_162 (by decide) ?_
                    exact ih _ _ _ _ _ _ hw hP hS (lv_sub hl [3, 4, 5, 6, 7, 8, 0] rfl)
                  · have hw := hw.2 c9
                    refine lv_iload hx hb dX6_search_147 (lv_at hl 7 rfl) ?_
                    refine lv_iconst (v := 1) hx hb dX6_search_149 (by decide) ?_
                    refine lv_iadd hx hb dX6_search_150 ?_
                    refine lv_bipush (v := 120) hx hb dX6_search_151 (by decide) ?_
                    refine lv_icmp_ge (tgt := 159) hx hb dX6_search_153 (by decide) (fun c9 => ?_) (fun c9 => ?_)
                    · have hw := hw.1 c9
                      obtain ⟨x19, ex19⟩ : ∃ z : Int32, z = v6 + (1 : Int32) := ⟨_, rfl⟩
                      refine lv_iinc (v := x19) (lv' := [(6, .int x19), (8, .int r9), (7, .int r4), (0, .ref (ad 5)), (1, .ref (ad 10)), (3, .ref (ad 4)), (2, .int u2), (4, .int u4), (5, .int v5)]) hx hb dX6_search_159 hl (k := 8) rfl (by rw [ex19]; rfl) (by decide) rfl (fun ls hl => ?_)
                      have hw := hw x19 ex19
                      refine lv_goto (tgt := 34) hx hb dX6_search_162 (by decide) ?_
                      exact ih _ _ _ _ _ _ hw hP hS (lv_sub hl [3, 4, 5, 6, 7, 8, 0] rfl)
                    · have hw := hw.2 c9
                      obtain ⟨x20, ex20⟩ : ∃ z : Int32, z = v5 + (1 : Int32) := ⟨_, rfl⟩
                      refine lv_iinc (v := x20) (lv' := [(5, .int x20), (8, .int r9), (7, .int r4), (0, .ref (ad 5)), (1, .ref (ad 10)), (3, .ref (ad 4)), (2, .int u2), (4, .int u4), (6, .int v6)]) hx hb dX6_search_156 hl (k := 7) rfl (by rw [ex20]; rfl) (by decide) rfl (fun ls hl => ?_)
                      have hw := hw x20 ex20
                      obtain ⟨x21, ex21⟩ : ∃ z : Int32, z = v6 + (1 : Int32) := ⟨_, rfl⟩
                      refine lv_iinc (v := x21) (lv' := [(6, .int x21), (5, .int x20), (8, .int r9), (7, .int r4), (0, .ref (ad 5)), (1, .ref (ad 10)), (3, .ref (ad 4)), (2, .int u2), (4, .int u4)]) hx hb dX6_search_159 hl (k := 8) rfl (by rw [ex21]; rfl) (by decide) rfl (fun ls hl => ?_)
                      have hw := hw x21 ex21
                      refine lv_goto (tgt := 34) hx hb dX6_search_162 (by decide) ?_
                      exact ih _ _ _ _ _ _ hw hP hS (lv_sub hl [4, 5, 6, 7, 8, 1, 0] rfl)
            · have hw := hw.2 c9
              refine lv_iconst (v := 0) hx hb dX6_search_75 (by decide) ?_
              exact wd_zret hx hb hr hlocks (by decide) hw hP hS dX6_search_76
          · have hw := hw.2 c9
            obtain ⟨x22, ex22⟩ : ∃ z : Int32, z = v5 + (-1 : Int32) := ⟨_, rfl⟩
            refine lv_iinc (v := x22) (lv' := [(5, .int x22), (7, .int r4), (0, .ref (ad 5)), (1, .ref (ad 10)), (3, .ref (ad 4)), (2, .int u2), (4, .int u4), (6, .int v6)]) hx hb dX6_search_60 hl (k := 6) rfl (by rw [ex22]; rfl) (by decide) rfl (fun ls hl => ?_)
            have hw := hw x22 ex22
            refine lv_goto (tgt := 159) hx hb dX6_search_63 (by decide) ?_
            obtain ⟨x23, ex23⟩ : ∃ z : Int32, z = v6 + (1 : Int32) := ⟨_, rfl⟩
            refine lv_iinc (v := x23) (lv' := [(6, .int x23), (5, .int x22), (7, .int r4), (0, .ref (ad 5)), (1, .ref (ad 10)), (3, .ref (ad 4)), (2, .int u2), (4, .int u4)]) hx hb dX6_search_159 hl (k := 7) rfl (by rw [ex23]; rfl) (by decide) rfl (fun ls hl => ?_)
            have hw := hw x23 ex23
            refine lv_goto (tgt := 34) hx hb dX6_search_162 (by decide) ?_
            exact ih _ _ _ _ _ _ hw hP hS (lv_sub hl [3, 4, 5, 6, 7, 1, 0] rfl)
  have hl := lv_entry ([.ref (ad 5), .ref (ad 10), .int a2, .ref (ad 4), .int a4]) (n := 9) (Nat.le_of_ble_eq_true rfl)
  rw [lg_entry_eq]
  generalize (lg_sl ([.ref (ad 5), .ref (ad 10), .int a2, .ref (ad 4), .int a4]) ++ List.replicate (9 - (lg_sl ([.ref (ad 5), .ref (ad 10), .int a2, .ref (ad 4), .int a4])).length) Slot.unset).toArray = ls at hl ⊢
  have hl : lv_has ls 9 [(0, .ref (ad 5)), (1, .ref (ad 10)), (2, .int a2), (3, .ref (ad 4)), (4, .int a4)] := hl
  unfold wX6_search at hw
  refine lv_aload_n hx hb dX6_search_0 rfl (lv_at hl 0 rfl) ?_
  refine wd_cVv ⟨hx, hb, hml, hown, hts⟩ (mtX6_begin l D ad cI cJ cZ A hD σ0  _ hw) (cwV 0 hts gX6_search_X6_begin rfl rfl rfl (by decide +kernel) ⟨(Nat.le_of_ble_eq_true rfl), (Nat.le_of_ble_eq_true rfl)⟩) (va_recv hK hP (ci := 6) (q0 := 5) rfl (xw_q5 ad cI cJ cZ σ0)) hK hN hP hS rfl hl.1 rfl (Nat.le_of_ble_eq_true rfl) dX6_search_1 ⟨Nat.zero_le _, Nat.zero_le _⟩ (fun σ1 H locs hw hP hS => ?_)
  refine lv_aload_n hx hb dX6_search_4 rfl (lv_at hl 0 rfl) ?_
  refine lv_iconst (v := 0) hx hb dX6_search_5 (by decide) ?_
  refine lv_aload_n hx hb dX6_search_6 rfl (lv_at hl 1 rfl) ?_
  refine lv_iload_n hx hb dX6_search_7 rfl (lv_at hl 2 rfl) ?_
  refine wd_cVi ⟨hx, hb, hml, hown, hts⟩ (mtX6_openPlace l D ad cI cJ cZ A hD σ1 (0 : Int32) a2 _ hw) (cwV 3 hts gX6_search_X6_openPlace rfl rfl rfl (by decide +kernel) ⟨(Nat.le_of_ble_eq_true rfl), (Nat.le_of_ble_eq_true rfl)⟩) (va_recv hK hP (ci := 6) (q0 := 5) rfl (xw_q5 ad cI cJ cZ σ1)) hK hN hP hS rfl hl.1 rfl (Nat.le_of_ble_eq_true rfl) dX6_search_8 ⟨Nat.zero_le _, Nat.zero_le _⟩ (fun r2 σ3 H locs hw hP hS => ?_)
  refine lv_if_eq (tgt := 18) hx hb dX6_search_11 (by decide) (fun c9 => ?_) (fun c9 => ?_)
  · have hw := hw.1 c9
    refine lv_iconst (v := -1) hx hb dX6_search_18 (by decide) ?_
    refine lv_istore (lv' := [(5, .int (-1 : Int32)), (0, .ref (ad 5)), (1, .ref (ad 10)), (2, .int a2), (3, .ref (ad 4)), (4, .int a4)]) hx hb dX6_search_19 hl (by decide) rfl (fun ls hl => ?_)
    refine lv_iload hx hb dX6_search_21 (lv_at hl 0 rfl) ?_
    refine lv_if_ge (tgt := 31) hx hb dX6_search_23 (by decide) (fun c9 => ?_) (fun c9 => ?_)
    · have hw := hw.1 c9
      refine lv_iconst (v := 0) hx hb dX6_search_31 (by decide) ?_
      refine lv_istore (lv' := [(6, .int (0 : Int32)), (5, .int (-1 : Int32)), (0, .ref (ad 5)), (1, .ref (ad 10)), (2, .int a2), (3, .ref (ad 4)), (4, .int a4)]) hx hb dX6_search_32 hl (by decide) rfl (fun ls hl => ?_)
      obtain ⟨n9, hw⟩ := hw
      refine L34 a2 a4 _ ?_ n9 (-1 : Int32) (0 : Int32) σ3 _ _ _ hw hP hS (lv_sub hl [2, 3, 5, 4, 6, 1, 0] rfl)
      · intro σ24 H locs ls hw hP hS hl
        refine lv_aload_n hx hb dX6_search_165 rfl (lv_at hl 0 rfl) ?_
        refine lv_aload_n hx hb dX6_search_166 rfl (lv_at hl 0 rfl) ?_
        refine va_get hx hb hts iX6 hown hK hP 5 (xw_q5 ad cI cJ cZ σ24) rfl 2 (by decide) f18 (fun _ h9 => h9) rfl dX6_search_167 ?_
        refine lv_bipush (v := 122) hx hb dX6_search_170 (by decide) ?_
        refine lv_icmp_ge (tgt := 182) hx hb dX6_search_172 (by decide) (fun c9 => ?_) (fun c9 => ?_)
        · have hw := hw.1 c9
          refine lv_iconst (v := 0) hx hb dX6_search_182 (by decide) ?_
          refine wd_put 9 5 0 (ty := .int) tyX6 hx hb hts iX6 tyX6_ok nmX6 hown hK hP hD hS (xw_q5 ad cI cJ cZ σ24) rfl (by decide) f11 (fun _ h9 => h9) rfl (by decide +kernel) rfl rfl (Nat.le_of_ble_eq_true rfl) (xw_s9 ad cI cJ cZ σ24) dX6_search_183 (fun H locs σ25 eσ25 hP hS => ?_)
          have hw := hw σ25 eσ25
          refine lv_iconst (v := 1) hx hb dX6_search_186 (by decide) ?_
          exact wd_zret hx hb hr hlocks (by decide) hw hP hS dX6_search_187
        · have hw := hw.2 c9
          refine lv_aload_n hx hb dX6_search_175 rfl (lv_at hl 0 rfl) ?_
          refine va_get hx hb hts iX6 hown hK hP 5 (xw_q5 ad cI cJ cZ σ24) rfl 2 (by decide) f18 (fun _ h9 => h9) rfl dX6_search_176 ?_
          refine lv_goto (tgt := 183) hx hb dX6_search_179 (by decide) ?_
          refine wd_put 9 5 0 (ty := .int) tyX6 hx hb hts iX6 tyX6_ok nmX6 hown hK hP hD hS (xw_q5 ad cI cJ cZ σ24) rfl (by decide) f11 (fun _ h9 => h9) rfl (by decide +kernel) rfl rfl (Nat.le_of_ble_eq_true rfl) (xw_s9 ad cI cJ cZ σ24) dX6_search_183 (fun H locs σ26 eσ26 hP hS => ?_)
          have hw := hw σ26 eσ26
          refine lv_iconst (v := 1) hx hb dX6_search_186 (by decide) ?_
          exact wd_zret hx hb hr hlocks (by decide) hw hP hS dX6_search_187
    · have hw := hw.2 c9
      refine lv_aload_n hx hb dX6_search_26 rfl (lv_at hl 1 rfl) ?_
      refine lv_iconst (v := 0) hx hb dX6_search_27 (by decide) ?_
      refine wd_put 11 5 2 (ty := .int) tyX6 hx hb hts iX6 tyX6_ok nmX6 hown hK hP hD hS (xw_q5 ad cI cJ cZ σ3) rfl (by decide) f18 (fun _ h9 => h9) rfl (by decide +kernel) rfl rfl (Nat.le_of_ble_eq_true rfl) (xw_s11 ad cI cJ cZ σ3) dX6_search_28 (fun H locs σ28 eσ28 hP hS => ?_)
      have hw := hw σ28 eσ28
      refine lv_iconst (v := 0) hx hb dX6_search_31 (by decide) ?_
      refine lv_istore (lv' := [(6, .int (0 : Int32)), (5, .int (-1 : Int32)), (0, .ref (ad 5)), (1, .ref (ad 10)), (2, .int a2), (3, .ref (ad 4)), (4, .int a4)]) hx hb dX6_search_32 hl (by decide) rfl (fun ls hl => ?_)
      obtain ⟨n9, hw⟩ := hw
      refine L34 a2 a4 _ ?_ n9 (-1 : Int32) (0 : Int32) σ28 _ _ _ hw hP hS (lv_sub hl [2, 3, 5, 4, 6, 1, 0] rfl)
      · intro σ29 H locs ls hw hP hS hl
        refine lv_aload_n hx hb dX6_search_165 rfl (lv_at hl 0 rfl) ?_
        refine lv_aload_n hx hb dX6_search_166 rfl (lv_at hl 0 rfl) ?_
        refine va_get hx hb hts iX6 hown hK hP 5 (xw_q5 ad cI cJ cZ σ29) rfl 2 (by decide) f18 (fun _ h9 => h9) rfl dX6_search_167 ?_
        refine lv_bipush (v := 122) hx hb dX6_search_170 (by decide) ?_
        refine lv_icmp_ge (tgt := 182) hx hb dX6_search_172 (by decide) (fun c9 => ?_) (fun c9 => ?_)
        · have hw := hw.1 c9
          refine lv_iconst (v := 0) hx hb dX6_search_182 (by decide) ?_
          refine wd_put 9 5 0 (ty := .int) tyX6 hx hb hts iX6 tyX6_ok nmX6 hown hK hP hD hS (xw_q5 ad cI cJ cZ σ29) rfl (by decide) f11 (fun _ h9 => h9) rfl (by decide +kernel) rfl rfl (Nat.le_of_ble_eq_true rfl) (xw_s9 ad cI cJ cZ σ29) dX6_search_183 (fun H locs σ30 eσ30 hP hS => ?_)
          have hw := hw σ30 eσ30
          refine lv_iconst (v := 1) hx hb dX6_search_186 (by decide) ?_
          exact wd_zret hx hb hr hlocks (by decide) hw hP hS dX6_search_187
        · have hw := hw.2 c9
          refine lv_aload_n hx hb dX6_search_175 rfl (lv_at hl 0 rfl) ?_
          refine va_get hx hb hts iX6 hown hK hP 5 (xw_q5 ad cI cJ cZ σ29) rfl 2 (by decide) f18 (fun _ h9 => h9) rfl dX6_search_176 ?_
          refine lv_goto (tgt := 183) hx hb dX6_search_179 (by decide) ?_
          refine wd_put 9 5 0 (ty := .int) tyX6 hx hb hts iX6 tyX6_ok nmX6 hown hK hP hD hS (xw_q5 ad cI cJ cZ σ29) rfl (by decide) f11 (fun _ h9 => h9) rfl (by decide +kernel) rfl rfl (Nat.le_of_ble_eq_true rfl) (xw_s9 ad cI cJ cZ σ29) dX6_search_183 (fun H locs σ31 eσ31 hP hS => ?_)
          have hw := hw σ31 eσ31
          refine lv_iconst (v := 1) hx hb dX6_search_186 (by decide) ?_
          exact wd_zret hx hb hr hlocks (by decide) hw hP hS dX6_search_187
  · have hw := hw.2 c9
    refine lv_iconst (v := 0) hx hb dX6_search_14 (by decide) ?_
    refine lv_goto (tgt := 19) hx hb dX6_search_15 (by decide) ?_
    refine lv_istore (lv' := [(5, .int (0 : Int32)), (0, .ref (ad 5)), (1, .ref (ad 10)), (2, .int a2), (3, .ref (ad 4)), (4, .int a4)]) hx hb dX6_search_19 hl (by decide) rfl (fun ls hl => ?_)
    refine lv_iload hx hb dX6_search_21 (lv_at hl 0 rfl) ?_
    refine lv_if_ge (tgt := 31) hx hb dX6_search_23 (by decide) (fun c9 => ?_) (fun c9 => ?_)
    · have hw := hw.1 c9
      refine lv_iconst (v := 0) hx hb dX6_search_31 (by decide) ?_
      refine lv_istore (lv' := [(6, .int (0 : Int32)), (5, .int (0 : Int32)), (0, .ref (ad 5)), (1, .ref (ad 10)), (2, .int a2), (3, .ref (ad 4)), (4, .int a4)]) hx hb dX6_search_32 hl (by decide) rfl (fun ls hl => ?_)
      obtain ⟨n9, hw⟩ := hw
      refine L34 a2 a4 _ ?_ n9 (0 : Int32) (0 : Int32) σ3 _ _ _ hw hP hS (lv_sub hl [2, 3, 5, 4, 6, 1, 0] rfl)
      · intro σ33 H locs ls hw hP hS hl
        refine lv_aload_n hx hb dX6_search_165 rfl (lv_at hl 0 rfl) ?_
        refine lv_aload_n hx hb dX6_search_166 rfl (lv_at hl 0 rfl) ?_
        refine va_get hx hb hts iX6 hown hK hP 5 (xw_q5 ad cI cJ cZ σ33) rfl 2 (by decide) f18 (fun _ h9 => h9) rfl dX6_search_167 ?_
        refine lv_bipush (v := 122) hx hb dX6_search_170 (by decide) ?_
        refine lv_icmp_ge (tgt := 182) hx hb dX6_search_172 (by decide) (fun c9 => ?_) (fun c9 => ?_)
        · have hw := hw.1 c9
          refine lv_iconst (v := 0) hx hb dX6_search_182 (by decide) ?_
          refine wd_put 9 5 0 (ty := .int) tyX6 hx hb hts iX6 tyX6_ok nmX6 hown hK hP hD hS (xw_q5 ad cI cJ cZ σ33) rfl (by decide) f11 (fun _ h9 => h9) rfl (by decide +kernel) rfl rfl (Nat.le_of_ble_eq_true rfl) (xw_s9 ad cI cJ cZ σ33) dX6_search_183 (fun H locs σ34 eσ34 hP hS => ?_)
          have hw := hw σ34 eσ34
          refine lv_iconst (v := 1) hx hb dX6_search_186 (by decide) ?_
          exact wd_zret hx hb hr hlocks (by decide) hw hP hS dX6_search_187
        · have hw := hw.2 c9
          refine lv_aload_n hx hb dX6_search_175 rfl (lv_at hl 0 rfl) ?_
          refine va_get hx hb hts iX6 hown hK hP 5 (xw_q5 ad cI cJ cZ σ33) rfl 2 (by decide) f18 (fun _ h9 => h9) rfl dX6_search_176 ?_
          refine lv_goto (tgt := 183) hx hb dX6_search_179 (by decide) ?_
          refine wd_put 9 5 0 (ty := .int) tyX6 hx hb hts iX6 tyX6_ok nmX6 hown hK hP hD hS (xw_q5 ad cI cJ cZ σ33) rfl (by decide) f11 (fun _ h9 => h9) rfl (by decide +kernel) rfl rfl (Nat.le_of_ble_eq_true rfl) (xw_s9 ad cI cJ cZ σ33) dX6_search_183 (fun H locs σ35 eσ35 hP hS => ?_)
          have hw := hw σ35 eσ35
          refine lv_iconst (v := 1) hx hb dX6_search_186 (by decide) ?_
          exact wd_zret hx hb hr hlocks (by decide) hw hP hS dX6_search_187
    · have hw := hw.2 c9
      refine lv_aload_n hx hb dX6_search_26 rfl (lv_at hl 1 rfl) ?_
      refine lv_iconst (v := 0) hx hb dX6_search_27 (by decide) ?_
      refine wd_put 11 5 2 (ty := .int) tyX6 hx hb hts iX6 tyX6_ok nmX6 hown hK hP hD hS (xw_q5 ad cI cJ cZ σ3) rfl (by decide) f18 (fun _ h9 => h9) rfl (by decide +kernel) rfl rfl (Nat.le_of_ble_eq_true rfl) (xw_s11 ad cI cJ cZ σ3) dX6_search_28 (fun H locs σ37 eσ37 hP hS => ?_)
      have hw := hw σ37 eσ37
      refine lv_iconst (v := 0) hx hb dX6_search_31 (by decide) ?_
      refine lv_istore (lv' := [(6, .int (0 : Int32)), (5, .int (0 : Int32)), (0, .ref (ad 5)), (1, .ref (ad 10)), (2, .int a2), (3, .ref (ad 4)), (4, .int a4)]) hx hb dX6_search_32 hl (by decide) rfl (fun ls hl => ?_)
      obtain ⟨n9, hw⟩ := hw
      refine L34 a2 a4 _ ?_ n9 (0 : Int32) (0 : Int32) σ37 _ _ _ hw hP hS (lv_sub hl [2, 3, 5, 4, 6, 1, 0] rfl)
      · intro σ38 H locs ls hw hP hS hl
        refine lv_aload_n hx hb dX6_search_165 rfl (lv_at hl 0 rfl) ?_
        refine lv_aload_n hx hb dX6_search_166 rfl (lv_at hl 0 rfl) ?_
        refine va_get hx hb hts iX6 hown hK hP 5 (xw_q5 ad cI cJ cZ σ38) rfl 2 (by decide) f18 (fun _ h9 => h9) rfl dX6_search_167 ?_
        refine lv_bipush (v := 122) hx hb dX6_search_170 (by decide) ?_
        refine lv_icmp_ge (tgt := 182) hx hb dX6_search_172 (by decide) (fun c9 => ?_) (fun c9 => ?_)
        · have hw := hw.1 c9
          refine lv_iconst (v := 0) hx hb dX6_search_182 (by decide) ?_
          refine wd_put 9 5 0 (ty := .int) tyX6 hx hb hts iX6 tyX6_ok nmX6 hown hK hP hD hS (xw_q5 ad cI cJ cZ σ38) rfl (by decide) f11 (fun _ h9 => h9) rfl (by decide +kernel) rfl rfl (Nat.le_of_ble_eq_true rfl) (xw_s9 ad cI cJ cZ σ38) dX6_search_183 (fun H locs σ39 eσ39 hP hS => ?_)
          have hw := hw σ39 eσ39
          refine lv_iconst (v := 1) hx hb dX6_search_186 (by decide) ?_
          exact wd_zret hx hb hr hlocks (by decide) hw hP hS dX6_search_187
        · have hw := hw.2 c9
          refine lv_aload_n hx hb dX6_search_175 rfl (lv_at hl 0 rfl) ?_
          refine va_get hx hb hts iX6 hown hK hP 5 (xw_q5 ad cI cJ cZ σ38) rfl 2 (by decide) f18 (fun _ h9 => h9) rfl dX6_search_176 ?_
          refine lv_goto (tgt := 183) hx hb dX6_search_179 (by decide) ?_
          refine wd_put 9 5 0 (ty := .int) tyX6 hx hb hts iX6 tyX6_ok nmX6 hown hK hP hD hS (xw_q5 ad cI cJ cZ σ38) rfl (by decide) f11 (fun _ h9 => h9) rfl (by decide +kernel) rfl rfl (Nat.le_of_ble_eq_true rfl) (xw_s9 ad cI cJ cZ σ38) dX6_search_183 (fun H locs σ40 eσ40 hP hS => ?_)
          have hw := hw σ40 eσ40
          refine lv_iconst (v := 1) hx hb dX6_search_186 (by decide) ?_
          exact wd_zret hx hb hr hlocks (by decide) hw hP hS dX6_search_187
def lpX6_rolesWithin_4 (u1 : Int32) (σ0 : St) (post : Int32 → Prop) : Nat → Int32 → Int32 → Prop
  | 0, _, _ => False
  | n + 1, v2, v3 => ((σ0.1 9) ≤ v3 → (post v2)) ∧ (¬ (σ0.1 9) ≤ v3 → (vp_in v3 120 ∧ ((¬ ((σ0.2.1 11 v3.toNatClampNeg) &&& (u1 ^^^ (-1 : Int32))) = 0 → (∀ x1 : Int32, x1 = v3 + (1 : Int32) → (lpX6_rolesWithin_4 u1 σ0 post n v2 x1))) ∧ (((σ0.2.1 11 v3.toNatClampNeg) &&& (u1 ^^^ (-1 : Int32))) = 0 → (∀ x2 : Int32, x2 = (v2 ||| ((1 : Int32) <<< (v3 &&& 31))) → (∀ x3 : Int32, x3 = v3 + (1 : Int32) → (lpX6_rolesWithin_4 u1 σ0 post n x2 x3)))))))
def wX6_rolesWithin (σ0 : St) (a1 : Int32) (post : Int32 → Prop) : Prop := ∃ n4 : Nat, lpX6_rolesWithin_4 a1 σ0 post n4 (0 : Int32) (0 : Int32)
set_option maxHeartbeats 4000000 in
set_option maxRecDepth 100000 in
theorem mtX6_rolesWithin (l : Launch) (D : va_G) (ad : Nat → Nat) (cI cJ cZ : ClassId) (A : Nat → Prop) (hD : ∀ σ : St, va_D A (xw ad cI cJ cZ σ)) (σ0 : St) (a1 : Int32) (post : Int32 → Prop) (hw : wX6_rolesWithin σ0 a1 post) : Met l yX6_rolesWithin wsX6_rolesWithin ({ frames := 0, cells := 0, slots := 0, locals := 0 } : Room) (va_Pc [.ref (ad 5), .int a1] (wd_pre D (xw ad cI cJ cZ) (wd_tys cI cJ cZ) σ0)) (va_Qi (fun (r : Int32) (u : St) => post r ∧ u = σ0) (wd_B D (xw ad cI cJ cZ)) A) 0 0 A := by
  refine Met.ofW (cc := cX6_rolesWithin) (maxL := 4) (ret := (some .int)) (by decide) rfl ?_
  intro p e s m args below meth c s₁ B hml hv
  obtain ⟨rfl, hP, hK, hN⟩ := hv
  have hx := B.exec
  have hb := B.bytes
  have hr := B.returns
  have hts := atoms_spec (ws := wsX6_rolesWithin) B.pre
  have hown : s.vm.findClass RX6 = some m.cls := findClass_of_methodNamed B.named
  have hlocks := B.notSynchronized
  have hS : va_S A s.heap s.heap [] := va_S.rf
  have f11 := hts (.fieldLink RX6 11 "LeastRights$RoleTree" "size" "I") (by decide +kernel)
  have iX6 : ∀ w ∈ wsX60, w ∈ wsX6_rolesWithin := by decide +kernel
  have f21 := hts (.fieldLink RX6 21 "LeastRights$RoleTree" "fewestRow" "[I") (by decide +kernel)
  have L4 : ∀ (u1 : Int32) (n : Nat) (v2 : Int32) (v3 : Int32) (H : Heap) (locs : List Loc) (ls : Array Slot), lpX6_rolesWithin_4 u1 σ0 post n v2 v3 → va_P D vwCl (xw ad cI cJ cZ σ0) H → va_S A s.heap H locs → lv_has ls 4 [(0, .ref (ad 5)), (1, .int u1), (2, .int v2), (3, .int v3)] → W p l e (headSpec wsX6_rolesWithin ({ frames := 0, cells := 0, slots := 0, locals := 0 } : Room)).room s m ([.ref (ad 5), .int a1] : List Value).toArray below meth c H locs 0 0 (MQ below (va_Qi (fun (r : Int32) (u : St) => post r ∧ u = σ0) (wd_B D (xw ad cI cJ cZ)) A) ([.ref (ad 5), .int a1] : List Value).toArray s 0 0 A) (F0 m 4 ls []) := by
    intro u1 n
    induction n with
    | zero => intro v2 v3 H locs ls hw; exact hw.elim
    | succ n ih =>
      intro v2 v3 H locs ls hw hP hS hl
      rw [lpX6_rolesWithin_4] at hw
      refine lv_iload_n hx hb dX6_rolesWithin_4 rfl (lv_at hl 3 rfl) ?_
      refine lv_aload_n hx hb dX6_rolesWithin_5 rfl (lv_at hl 0 rfl) ?_
      refine va_get hx hb hts iX6 hown hK hP 5 (xw_q5 ad cI cJ cZ σ0) rfl 0 (by decide) f11 (fun _ h9 => h9) rfl dX6_rolesWithin_6 ?_
      refine lv_icmp_ge (tgt := 37) hx hb dX6_rolesWithin_9 (by decide) (fun c9 => ?_) (fun c9 => ?_)
      · have hw := hw.1 c9
        refine lv_iload_n hx hb dX6_rolesWithin_37 rfl (lv_at hl 2 rfl) ?_
        exact wd_iret hx hb hr hlocks ⟨hw, rfl⟩ hP hS dX6_rolesWithin_38
      · have hw := hw.2 c9
        refine lv_aload_n hx hb dX6_rolesWithin_12 rfl (lv_at hl 0 rfl) ?_
        refine va_get hx hb hts iX6 hown hK hP 5 (xw_q5 ad cI cJ cZ σ0) rfl 3 (by decide) f21 (fun _ h9 => h9) rfl dX6_rolesWithin_13 ?_
        refine lv_iload_n hx hb dX6_rolesWithin_16 rfl (lv_at hl 3 rfl) ?_
        obtain ⟨h9, hw⟩ := hw
        refine va_iald hx hb hK hP 21 0 (xw_q21 ad cI cJ cZ σ0) rfl h9 dX6_rolesWithin_17 ?_
        refine lv_iload_n hx hb dX6_rolesWithin_18 rfl (lv_at hl 1 rfl) ?_
        refine lv_iconst (v := -1) hx hb dX6_rolesWithin_19 (by decide) ?_
        refine lv_ixor hx hb dX6_rolesWithin_20 ?_
        refine lv_iand hx hb dX6_rolesWithin_21 ?_
        refine lv_if_ne (tgt := 31) hx hb dX6_rolesWithin_22 (by decide) (fun c9 => ?_) (fun c9 => ?_)
        · have hw := hw.1 c9
          obtain ⟨x1, ex1⟩ : ∃ z : Int32, z = v3 + (1 : Int32) := ⟨_, rfl⟩
          refine lv_iinc (v := x1) (lv' := [(3, .int x1), (0, .ref (ad 5)), (1, .int u1), (2, .int v2)]) hx hb dX6_rolesWithin_31 hl (k := 3) rfl (by rw [ex1]; rfl) (by decide) rfl (fun ls hl => ?_)
          have hw := hw x1 ex1
          refine lv_goto (tgt := 4) hx hb dX6_rolesWithin_34 (by decide) ?_
          exact ih _ _ _ _ _ hw hP hS (lv_sub hl [1, 2, 3, 0] rfl)
        · have hw := hw.2 c9
          refine lv_iload_n hx hb dX6_rolesWithin_25 rfl (lv_at hl 2 rfl) ?_
          refine lv_iconst (v := 1) hx hb dX6_rolesWithin_26 (by decide) ?_
          refine lv_iload_n hx hb dX6_rolesWithin_27 rfl (lv_at hl 3 rfl) ?_
          refine lv_ishl hx hb dX6_rolesWithin_28 ?_
          refine lv_ior hx hb dX6_rolesWithin_29 ?_
          refine lv_topi (fun x2 ex2 => ?_)
          have hw := hw x2 ex2
          refine lv_istore_n (lv' := [(2, .int x2), (0, .ref (ad 5)), (1, .int u1), (3, .int v3)]) hx hb dX6_rolesWithin_30 rfl hl (by decide) rfl (fun ls hl => ?_)
          obtain ⟨x3, ex3⟩ : ∃ z : Int32, z = v3 + (1 : Int32) := ⟨_, rfl⟩
          refine lv_iinc (v := x3) (lv' := [(3, .int x3), (2, .int x2), (0, .ref (ad 5)), (1, .int u1)]) hx hb dX6_rolesWithin_31 hl (k := 3) rfl (by rw [ex3]; rfl) (by decide) rfl (fun ls hl => ?_)
          have hw := hw x3 ex3
          refine lv_goto (tgt := 4) hx hb dX6_rolesWithin_34 (by decide) ?_
          exact ih _ _ _ _ _ hw hP hS (lv_sub hl [2, 3, 1, 0] rfl)
  have hl := lv_entry ([.ref (ad 5), .int a1]) (n := 4) (Nat.le_of_ble_eq_true rfl)
  rw [lg_entry_eq]
  generalize (lg_sl ([.ref (ad 5), .int a1]) ++ List.replicate (4 - (lg_sl ([.ref (ad 5), .int a1])).length) Slot.unset).toArray = ls at hl ⊢
  have hl : lv_has ls 4 [(0, .ref (ad 5)), (1, .int a1)] := hl
  unfold wX6_rolesWithin at hw
  refine lv_iconst (v := 0) hx hb dX6_rolesWithin_0 (by decide) ?_
  refine lv_istore_n (lv' := [(2, .int (0 : Int32)), (0, .ref (ad 5)), (1, .int a1)]) hx hb dX6_rolesWithin_1 rfl hl (by decide) rfl (fun ls hl => ?_)
  refine lv_iconst (v := 0) hx hb dX6_rolesWithin_2 (by decide) ?_
  refine lv_istore_n (lv' := [(3, .int (0 : Int32)), (2, .int (0 : Int32)), (0, .ref (ad 5)), (1, .int a1)]) hx hb dX6_rolesWithin_3 rfl hl (by decide) rfl (fun ls hl => ?_)
  obtain ⟨n9, hw⟩ := hw
  refine L4 a1 n9 (0 : Int32) (0 : Int32) _ _ _ hw hP hS (lv_sub hl [2, 3, 1, 0] rfl)
def wX7_isMissing (σ0 : St) (a1 : Int32) (post : Int32 → Prop) : Prop := vp_in a1 4 ∧ ((¬ (σ0.2.1 19 a1.toNatClampNeg) = (-1 : Int32) → (post (0 : Int32))) ∧ ((σ0.2.1 19 a1.toNatClampNeg) = (-1 : Int32) → (post (1 : Int32))))
set_option maxHeartbeats 4000000 in
set_option maxRecDepth 100000 in
theorem mtX7_isMissing (l : Launch) (D : va_G) (ad : Nat → Nat) (cI cJ cZ : ClassId) (A : Nat → Prop) (hD : ∀ σ : St, va_D A (xw ad cI cJ cZ σ)) (σ0 : St) (a1 : Int32) (post : Int32 → Prop) (hw : wX7_isMissing σ0 a1 post) : Met l yX7_isMissing wsX7_isMissing ({ frames := 0, cells := 0, slots := 0, locals := 0 } : Room) (va_Pc [.ref (ad 8), .int a1] (wd_pre D (xw ad cI cJ cZ) (wd_tys cI cJ cZ) σ0)) (va_Qi (fun (r : Int32) (u : St) => post r ∧ u = σ0) (wd_B D (xw ad cI cJ cZ)) A) 0 0 A := by
  refine Met.ofW (cc := cX7_isMissing) (maxL := 2) (ret := (some .boolean)) (by decide) rfl ?_
  intro p e s m args below meth c s₁ B hml hv
  obtain ⟨rfl, hP, hK, hN⟩ := hv
  have hx := B.exec
  have hb := B.bytes
  have hr := B.returns
  have hts := atoms_spec (ws := wsX7_isMissing) B.pre
  have hown : s.vm.findClass RX7 = some m.cls := findClass_of_methodNamed B.named
  have hlocks := B.notSynchronized
  have hS : va_S A s.heap s.heap [] := va_S.rf
  have f11 := hts (.fieldLink RX7 11 "LeastRights$Sheets" "sizes" "[I") (by decide +kernel)
  have iX7 : ∀ w ∈ wsX70, w ∈ wsX7_isMissing := by decide +kernel
  have hl := lv_entry ([.ref (ad 8), .int a1]) (n := 2) (Nat.le_of_ble_eq_true rfl)
  rw [lg_entry_eq]
  generalize (lg_sl ([.ref (ad 8), .int a1]) ++ List.replicate (2 - (lg_sl ([.ref (ad 8), .int a1])).length) Slot.unset).toArray = ls at hl ⊢
  have hl : lv_has ls 2 [(0, .ref (ad 8)), (1, .int a1)] := hl
  unfold wX7_isMissing at hw
  refine lv_aload_n hx hb dX7_isMissing_0 rfl (lv_at hl 0 rfl) ?_
  refine va_get hx hb hts iX7 hown hK hP 8 (xw_q8 ad cI cJ cZ σ0) rfl 0 (by decide) f11 (fun _ h9 => h9) rfl dX7_isMissing_1 ?_
  refine lv_iload_n hx hb dX7_isMissing_4 rfl (lv_at hl 1 rfl) ?_
  obtain ⟨h9, hw⟩ := hw
  refine va_iald hx hb hK hP 29 0 (xw_q29 ad cI cJ cZ σ0) rfl h9 dX7_isMissing_5 ?_
  refine lv_iconst (v := -1) hx hb dX7_isMissing_6 (by decide) ?_
  refine lv_icmp_ne (tgt := 14) hx hb dX7_isMissing_7 (by decide) (fun c9 => ?_) (fun c9 => ?_)
  · have hw := hw.1 c9
    refine lv_iconst (v := 0) hx hb dX7_isMissing_14 (by decide) ?_
    exact wd_zret hx hb hr hlocks (by decide) ⟨hw, rfl⟩ hP hS dX7_isMissing_15
  · have hw := hw.2 c9
    refine lv_iconst (v := 1) hx hb dX7_isMissing_10 (by decide) ?_
    refine lv_goto (tgt := 15) hx hb dX7_isMissing_11 (by decide) ?_
    exact wd_zret hx hb hr hlocks (by decide) ⟨hw, rfl⟩ hP hS dX7_isMissing_15
def wX7_at (σ0 : St) (a1 : Int32) (a2 : Int32) (post : Int32 → Prop) : Prop := vp_in ((a1 * (10 : Int32)) + a2) 40 ∧ (post (σ0.2.1 20 ((a1 * (10 : Int32)) + a2).toNatClampNeg))
set_option maxHeartbeats 4000000 in
set_option maxRecDepth 100000 in
theorem mtX7_at (l : Launch) (D : va_G) (ad : Nat → Nat) (cI cJ cZ : ClassId) (A : Nat → Prop) (hD : ∀ σ : St, va_D A (xw ad cI cJ cZ σ)) (σ0 : St) (a1 : Int32) (a2 : Int32) (post : Int32 → Prop) (hw : wX7_at σ0 a1 a2 post) : Met l yX7_at wsX7_at ({ frames := 0, cells := 0, slots := 0, locals := 0 } : Room) (va_Pc [.ref (ad 8), .int a1, .int a2] (wd_pre D (xw ad cI cJ cZ) (wd_tys cI cJ cZ) σ0)) (va_Qi (fun (r : Int32) (u : St) => post r ∧ u = σ0) (wd_B D (xw ad cI cJ cZ)) A) 0 0 A := by
  refine Met.ofW (cc := cX7_at) (maxL := 3) (ret := (some .int)) (by decide) rfl ?_
  intro p e s m args below meth c s₁ B hml hv
  obtain ⟨rfl, hP, hK, hN⟩ := hv
  have hx := B.exec
  have hb := B.bytes
  have hr := B.returns
  have hts := atoms_spec (ws := wsX7_at) B.pre
  have hown : s.vm.findClass RX7 = some m.cls := findClass_of_methodNamed B.named
  have hlocks := B.notSynchronized
  have hS : va_S A s.heap s.heap [] := va_S.rf
  have f15 := hts (.fieldLink RX7 15 "LeastRights$Sheets" "ints" "[I") (by decide +kernel)
  have iX7 : ∀ w ∈ wsX70, w ∈ wsX7_at := by decide +kernel
  have hl := lv_entry ([.ref (ad 8), .int a1, .int a2]) (n := 3) (Nat.le_of_ble_eq_true rfl)
  rw [lg_entry_eq]
  generalize (lg_sl ([.ref (ad 8), .int a1, .int a2]) ++ List.replicate (3 - (lg_sl ([.ref (ad 8), .int a1, .int a2])).length) Slot.unset).toArray = ls at hl ⊢
  have hl : lv_has ls 3 [(0, .ref (ad 8)), (1, .int a1), (2, .int a2)] := hl
  unfold wX7_at at hw
  refine lv_aload_n hx hb dX7_at_0 rfl (lv_at hl 0 rfl) ?_
  refine va_get hx hb hts iX7 hown hK hP 8 (xw_q8 ad cI cJ cZ σ0) rfl 1 (by decide) f15 (fun _ h9 => h9) rfl dX7_at_1 ?_
  refine lv_iload_n hx hb dX7_at_4 rfl (lv_at hl 1 rfl) ?_
  refine lv_bipush (v := 10) hx hb dX7_at_5 (by decide) ?_
  refine lv_imul hx hb dX7_at_7 ?_
  refine lv_iload_n hx hb dX7_at_8 rfl (lv_at hl 2 rfl) ?_
  refine lv_iadd hx hb dX7_at_9 ?_
  obtain ⟨h9, hw⟩ := hw
  refine va_iald hx hb hK hP 30 0 (xw_q30 ad cI cJ cZ σ0) rfl h9 dX7_at_10 ?_
  exact wd_iret hx hb hr hlocks ⟨hw, rfl⟩ hP hS dX7_at_11
def lpX7_lay_9 (u1 : Int32) (u2 : Int32) (post : Int32 → St → Prop) : Nat → Int32 → St → Prop
  | 0, _, _ => False
  | n + 1, v3, σ => (u2 ≤ v3 → (post u2 σ)) ∧ (¬ u2 ≤ v3 → (vp_in ((u1 * (10 : Int32)) + v3) 40 ∧ (∀ σ2 : St, σ2 = st_A σ 20 ((u1 * (10 : Int32)) + v3).toNatClampNeg (0 : Int32) → (∀ x3 : Int32, x3 = v3 + (1 : Int32) → (lpX7_lay_9 u1 u2 post n x3 σ2)))))
def wX7_lay (σ0 : St) (a1 : Int32) (a2 : Int32) (post : Int32 → St → Prop) : Prop := vp_in a1 4 ∧ (∀ σ1 : St, σ1 = st_A σ0 19 a1.toNatClampNeg a2 → (∃ n4 : Nat, lpX7_lay_9 a1 a2 post n4 (0 : Int32) σ1))
set_option maxHeartbeats 4000000 in
set_option maxRecDepth 100000 in
theorem mtX7_lay (l : Launch) (D : va_G) (ad : Nat → Nat) (cI cJ cZ : ClassId) (A : Nat → Prop) (hD : ∀ σ : St, va_D A (xw ad cI cJ cZ σ)) (σ0 : St) (a1 : Int32) (a2 : Int32) (post : Int32 → St → Prop) (hw : wX7_lay σ0 a1 a2 post) : Met l yX7_lay wsX7_lay ({ frames := 0, cells := 0, slots := 0, locals := 0 } : Room) (va_Pc [.ref (ad 8), .int a1, .int a2] (wd_pre D (xw ad cI cJ cZ) (wd_tys cI cJ cZ) σ0)) (va_Qi post (wd_B D (xw ad cI cJ cZ)) A) 0 0 A := by
  refine Met.ofW (cc := cX7_lay) (maxL := 4) (ret := (some .int)) (by decide) rfl ?_
  intro p e s m args below meth c s₁ B hml hv
  obtain ⟨rfl, hP, hK, hN⟩ := hv
  have hx := B.exec
  have hb := B.bytes
  have hr := B.returns
  have hts := atoms_spec (ws := wsX7_lay) B.pre
  have hown : s.vm.findClass RX7 = some m.cls := findClass_of_methodNamed B.named
  have hlocks := B.notSynchronized
  have hS : va_S A s.heap s.heap [] := va_S.rf
  have f11 := hts (.fieldLink RX7 11 "LeastRights$Sheets" "sizes" "[I") (by decide +kernel)
  have iX7 : ∀ w ∈ wsX70, w ∈ wsX7_lay := by decide +kernel
  have f15 := hts (.fieldLink RX7 15 "LeastRights$Sheets" "ints" "[I") (by decide +kernel)
  have L9 : ∀ (u1 : Int32) (u2 : Int32) (n : Nat) (v3 : Int32) (σ : St) (H : Heap) (locs : List Loc) (ls : Array Slot), lpX7_lay_9 u1 u2 post n v3 σ → va_P D vwCl (xw ad cI cJ cZ σ) H → va_S A s.heap H locs → lv_has ls 4 [(0, .ref (ad 8)), (1, .int u1), (2, .int u2), (3, .int v3)] → W p l e (headSpec wsX7_lay ({ frames := 0, cells := 0, slots := 0, locals := 0 } : Room)).room s m ([.ref (ad 8), .int a1, .int a2] : List Value).toArray below meth c H locs 0 0 (MQ below (va_Qi post (wd_B D (xw ad cI cJ cZ)) A) ([.ref (ad 8), .int a1, .int a2] : List Value).toArray s 0 0 A) (F0 m 9 ls []) := by
    intro u1 u2 n
    induction n with
    | zero => intro v3 σ H locs ls hw; exact hw.elim
    | succ n ih =>
      intro v3 σ H locs ls hw hP hS hl
      rw [lpX7_lay_9] at hw
      refine lv_iload_n hx hb dX7_lay_9 rfl (lv_at hl 3 rfl) ?_
      refine lv_iload_n hx hb dX7_lay_10 rfl (lv_at hl 2 rfl) ?_
      refine lv_icmp_ge (tgt := 32) hx hb dX7_lay_11 (by decide) (fun c9 => ?_) (fun c9 => ?_)
      · have hw := hw.1 c9
        refine lv_iload_n hx hb dX7_lay_32 rfl (lv_at hl 2 rfl) ?_
        exact wd_iret hx hb hr hlocks hw hP hS dX7_lay_33
      · have hw := hw.2 c9
        refine lv_aload_n hx hb dX7_lay_14 rfl (lv_at hl 0 rfl) ?_
        refine va_get hx hb hts iX7 hown hK hP 8 (xw_q8 ad cI cJ cZ σ) rfl 1 (by decide) f15 (fun _ h9 => h9) rfl dX7_lay_15 ?_
        refine lv_iload_n hx hb dX7_lay_18 rfl (lv_at hl 1 rfl) ?_
        refine lv_bipush (v := 10) hx hb dX7_lay_19 (by decide) ?_
        refine lv_imul hx hb dX7_lay_21 ?_
        refine lv_iload_n hx hb dX7_lay_22 rfl (lv_at hl 3 rfl) ?_
        refine lv_iadd hx hb dX7_lay_23 ?_
        refine lv_iconst (v := 0) hx hb dX7_lay_24 (by decide) ?_
        obtain ⟨h9, hw⟩ := hw
        refine wd_iast 20 30 hx hb hK hP hD hS (xw_q30 ad cI cJ cZ σ) rfl (xw_a20 ad cI cJ cZ σ) h9 dX7_lay_25 (fun H locs σ2 eσ2 hP hS => ?_)
        have hw := hw σ2 eσ2
        obtain ⟨x3, ex3⟩ : ∃ z : Int32, z = v3 + (1 : Int32) := ⟨_, rfl⟩
        refine lv_iinc (v := x3) (lv' := [(3, .int x3), (0, .ref (ad 8)), (1, .int u1), (2, .int u2)]) hx hb dX7_lay_26 hl (k := 3) rfl (by rw [ex3]; rfl) (by decide) rfl (fun ls hl => ?_)
        have hw := hw x3 ex3
        refine lv_goto (tgt := 9) hx hb dX7_lay_29 (by decide) ?_
        exact ih _ _ _ _ _ hw hP hS (lv_sub hl [1, 2, 3, 0] rfl)
  have hl := lv_entry ([.ref (ad 8), .int a1, .int a2]) (n := 4) (Nat.le_of_ble_eq_true rfl)
  rw [lg_entry_eq]
  generalize (lg_sl ([.ref (ad 8), .int a1, .int a2]) ++ List.replicate (4 - (lg_sl ([.ref (ad 8), .int a1, .int a2])).length) Slot.unset).toArray = ls at hl ⊢
  have hl : lv_has ls 4 [(0, .ref (ad 8)), (1, .int a1), (2, .int a2)] := hl
  unfold wX7_lay at hw
  refine lv_aload_n hx hb dX7_lay_0 rfl (lv_at hl 0 rfl) ?_
  refine va_get hx hb hts iX7 hown hK hP 8 (xw_q8 ad cI cJ cZ σ0) rfl 0 (by decide) f11 (fun _ h9 => h9) rfl dX7_lay_1 ?_
  refine lv_iload_n hx hb dX7_lay_4 rfl (lv_at hl 1 rfl) ?_
  refine lv_iload_n hx hb dX7_lay_5 rfl (lv_at hl 2 rfl) ?_
  obtain ⟨h9, hw⟩ := hw
  refine wd_iast 19 29 hx hb hK hP hD hS (xw_q29 ad cI cJ cZ σ0) rfl (xw_a19 ad cI cJ cZ σ0) h9 dX7_lay_6 (fun H locs σ1 eσ1 hP hS => ?_)
  have hw := hw σ1 eσ1
  refine lv_iconst (v := 0) hx hb dX7_lay_7 (by decide) ?_
  refine lv_istore_n (lv' := [(3, .int (0 : Int32)), (0, .ref (ad 8)), (1, .int a1), (2, .int a2)]) hx hb dX7_lay_8 rfl hl (by decide) rfl (fun ls hl => ?_)
  obtain ⟨n9, hw⟩ := hw
  refine L9 a1 a2 n9 (0 : Int32) σ1 _ _ _ hw hP hS (lv_sub hl [1, 2, 3, 0] rfl)
def lpX7_write_15 (u1 : Int32) (u4 : Int32) (post : Int32 → St → Prop) : Nat → Int32 → St → Prop
  | 0, _, _ => False
  | n + 1, v5, σ => (u4 ≤ v5 → (post u4 σ)) ∧ (¬ u4 ≤ v5 → (vp_in v5 10 ∧ (vp_in ((u1 * (10 : Int32)) + v5) 40 ∧ (∀ σ2 : St, σ2 = st_A σ 20 ((u1 * (10 : Int32)) + v5).toNatClampNeg (σ.2.1 3 v5.toNatClampNeg) → (∀ x3 : Int32, x3 = v5 + (1 : Int32) → (lpX7_write_15 u1 u4 post n x3 σ2))))))
def wX7_write (σ0 : St) (a1 : Int32) (a3 : Int32) (post : Int32 → St → Prop) : Prop := vp_in a1 4 ∧ (∀ x1 : Int32, x1 = (if a3 < (σ0.2.1 19 a1.toNatClampNeg) then a3 else (σ0.2.1 19 a1.toNatClampNeg)) → (∃ n4 : Nat, lpX7_write_15 a1 x1 post n4 (0 : Int32) σ0))
set_option maxHeartbeats 4000000 in
set_option maxRecDepth 100000 in
theorem mtX7_write (l : Launch) (D : va_G) (ad : Nat → Nat) (cI cJ cZ : ClassId) (A : Nat → Prop) (hD : ∀ σ : St, va_D A (xw ad cI cJ cZ σ)) (σ0 : St) (a1 : Int32) (a3 : Int32) (post : Int32 → St → Prop) (hw : wX7_write σ0 a1 a3 post) : Met l yX7_write wsX7_write ({ frames := 1, cells := 0, slots := 0, locals := 21 } : Room) (va_Pc [.ref (ad 8), .int a1, .ref (ad 13), .int a3] (wd_pre D (xw ad cI cJ cZ) (wd_tys cI cJ cZ) σ0)) (va_Qi post (wd_B D (xw ad cI cJ cZ)) A) 0 0 A := by
  refine Met.ofW (cc := cX7_write) (maxL := 6) (ret := (some .int)) (by decide) rfl ?_
  intro p e s m args below meth c s₁ B hml hv
  obtain ⟨rfl, hP, hK, hN⟩ := hv
  have hx := B.exec
  have hb := B.bytes
  have hr := B.returns
  have hts := atoms_spec (ws := wsX7_write) B.pre
  have hown : s.vm.findClass RX7 = some m.cls := findClass_of_methodNamed B.named
  have hlocks := B.notSynchronized
  have hS : va_S A s.heap s.heap [] := va_S.rf
  have f11 := hts (.fieldLink RX7 11 "LeastRights$Sheets" "sizes" "[I") (by decide +kernel)
  have iX7 : ∀ w ∈ wsX70, w ∈ wsX7_write := by decide +kernel
  have m1 := hts (.methodLink RX7 18 Lib.Math.min.name) (by decide +kernel)
  have m2 := hts (.static Lib.Math.min.name) (by decide +kernel)
  have m3 := hts (.initialized "java/lang/Math") (by decide +kernel)
  have m4 := hts (.code Lib.Math.min.name Lib.Math.min.code 2 (some .int)) (by decide +kernel)
  have f15 := hts (.fieldLink RX7 15 "LeastRights$Sheets" "ints" "[I") (by decide +kernel)
  have L15 : ∀ (u1 : Int32) (u4 : Int32) (n : Nat) (v5 : Int32) (σ : St) (H : Heap) (locs : List Loc) (ls : Array Slot), lpX7_write_15 u1 u4 post n v5 σ → va_P D vwCl (xw ad cI cJ cZ σ) H → va_S A s.heap H locs → lv_has ls 6 [(0, .ref (ad 8)), (2, .ref (ad 13)), (1, .int u1), (4, .int u4), (5, .int v5)] → W p l e (headSpec wsX7_write ({ frames := 1, cells := 0, slots := 0, locals := 21 } : Room)).room s m ([.ref (ad 8), .int a1, .ref (ad 13), .int a3] : List Value).toArray below meth c H locs 0 0 (MQ below (va_Qi post (wd_B D (xw ad cI cJ cZ)) A) ([.ref (ad 8), .int a1, .ref (ad 13), .int a3] : List Value).toArray s 0 0 A) (F0 m 15 ls []) := by
    intro u1 u4 n
    induction n with
    | zero => intro v5 σ H locs ls hw; exact hw.elim
    | succ n ih =>
      intro v5 σ H locs ls hw hP hS hl
      rw [lpX7_write_15] at hw
      refine lv_iload hx hb dX7_write_15 (lv_at hl 4 rfl) ?_
      refine lv_iload hx hb dX7_write_17 (lv_at hl 3 rfl) ?_
      refine lv_icmp_ge (tgt := 44) hx hb dX7_write_19 (by decide) (fun c9 => ?_) (fun c9 => ?_)
      · have hw := hw.1 c9
        refine lv_iload hx hb dX7_write_44 (lv_at hl 3 rfl) ?_
        exact wd_iret hx hb hr hlocks hw hP hS dX7_write_46
      · have hw := hw.2 c9
        refine lv_aload_n hx hb dX7_write_22 rfl (lv_at hl 0 rfl) ?_
        refine va_get hx hb hts iX7 hown hK hP 8 (xw_q8 ad cI cJ cZ σ) rfl 1 (by decide) f15 (fun _ h9 => h9) rfl dX7_write_23 ?_
        refine lv_iload_n hx hb dX7_write_26 rfl (lv_at hl 2 rfl) ?_
        refine lv_bipush (v := 10) hx hb dX7_write_27 (by decide) ?_
        refine lv_imul hx hb dX7_write_29 ?_
        refine lv_iload hx hb dX7_write_30 (lv_at hl 4 rfl) ?_
        refine lv_iadd hx hb dX7_write_32 ?_
        refine lv_aload_n hx hb dX7_write_33 rfl (lv_at hl 1 rfl) ?_
        refine lv_iload hx hb dX7_write_34 (lv_at hl 4 rfl) ?_
        obtain ⟨h9, hw⟩ := hw
        refine va_iald hx hb hK hP 13 0 (xw_q13 ad cI cJ cZ σ) rfl h9 dX7_write_36 ?_
        obtain ⟨h9, hw⟩ := hw
        refine wd_iast 20 30 hx hb hK hP hD hS (xw_q30 ad cI cJ cZ σ) rfl (xw_a20 ad cI cJ cZ σ) h9 dX7_write_37 (fun H locs σ2 eσ2 hP hS => ?_)
        have hw := hw σ2 eσ2
        obtain ⟨x3, ex3⟩ : ∃ z : Int32, z = v5 + (1 : Int32) := ⟨_, rfl⟩
        refine lv_iinc (v := x3) (lv' := [(5, .int x3), (0, .ref (ad 8)), (2, .ref (ad 13)), (1, .int u1), (4, .int u4)]) hx hb dX7_write_38 hl (k := 4) rfl (by rw [ex3]; rfl) (by decide) rfl (fun ls hl => ?_)
        have hw := hw x3 ex3
        refine lv_goto (tgt := 15) hx hb dX7_write_41 (by decide) ?_
        exact ih _ _ _ _ _ hw hP hS (lv_sub hl [1, 2, 3, 4, 0] rfl)
  have hl := lv_entry ([.ref (ad 8), .int a1, .ref (ad 13), .int a3]) (n := 6) (Nat.le_of_ble_eq_true rfl)
  rw [lg_entry_eq]
  generalize (lg_sl ([.ref (ad 8), .int a1, .ref (ad 13), .int a3]) ++ List.replicate (6 - (lg_sl ([.ref (ad 8), .int a1, .ref (ad 13), .int a3])).length) Slot.unset).toArray = ls at hl ⊢
  have hl : lv_has ls 6 [(0, .ref (ad 8)), (1, .int a1), (2, .ref (ad 13)), (3, .int a3)] := hl
  unfold wX7_write at hw
  refine lv_aload_n hx hb dX7_write_0 rfl (lv_at hl 0 rfl) ?_
  refine va_get hx hb hts iX7 hown hK hP 8 (xw_q8 ad cI cJ cZ σ0) rfl 0 (by decide) f11 (fun _ h9 => h9) rfl dX7_write_1 ?_
  refine lv_iload_n hx hb dX7_write_4 rfl (lv_at hl 1 rfl) ?_
  obtain ⟨h9, hw⟩ := hw
  refine va_iald hx hb hK hP 29 0 (xw_q29 ad cI cJ cZ σ0) rfl h9 dX7_write_5 ?_
  refine lv_iload_n hx hb dX7_write_6 rfl (lv_at hl 3 rfl) ?_
  refine va_mmin hx hb (hml.trans hl.1.symm) hown m1 m2 m3 m4 (Nat.le_of_ble_eq_true rfl) (Nat.le_of_ble_eq_true rfl) (Nat.zero_le _) (Nat.zero_le _) dX7_write_7 ?_
  refine lv_topi (fun x1 ex1 => ?_)
  have hw := hw x1 ex1
  refine lv_istore (lv' := [(4, .int x1), (0, .ref (ad 8)), (1, .int a1), (2, .ref (ad 13)), (3, .int a3)]) hx hb dX7_write_10 hl (by decide) rfl (fun ls hl => ?_)
  refine lv_iconst (v := 0) hx hb dX7_write_12 (by decide) ?_
  refine lv_istore (lv' := [(5, .int (0 : Int32)), (4, .int x1), (0, .ref (ad 8)), (1, .int a1), (2, .ref (ad 13)), (3, .int a3)]) hx hb dX7_write_13 hl (by decide) rfl (fun ls hl => ?_)
  obtain ⟨n9, hw⟩ := hw
  refine L15 a1 x1 n9 (0 : Int32) σ0 _ _ _ hw hP hS (lv_sub hl [2, 4, 3, 1, 0] rfl)
def wX7_spans (σ0 : St) (a1 : Int32) (a2 : Int32) (a3 : Int32) (post : Int32 → Prop) : Prop := (a2 < 0 → (post (0 : Int32))) ∧ (¬ a2 < 0 → (vp_in a1 4 ∧ (((σ0.2.1 19 a1.toNatClampNeg) < a3 → (post (0 : Int32))) ∧ (¬ (σ0.2.1 19 a1.toNatClampNeg) < a3 → (vp_in a1 4 ∧ ((((σ0.2.1 19 a1.toNatClampNeg) - a3) < a2 → (post (0 : Int32))) ∧ (¬ ((σ0.2.1 19 a1.toNatClampNeg) - a3) < a2 → (post (1 : Int32)))))))))
set_option maxHeartbeats 4000000 in
set_option maxRecDepth 100000 in
theorem mtX7_spans (l : Launch) (D : va_G) (ad : Nat → Nat) (cI cJ cZ : ClassId) (A : Nat → Prop) (hD : ∀ σ : St, va_D A (xw ad cI cJ cZ σ)) (σ0 : St) (a1 : Int32) (a2 : Int32) (a3 : Int32) (post : Int32 → Prop) (hw : wX7_spans σ0 a1 a2 a3 post) : Met l yX7_spans wsX7_spans ({ frames := 0, cells := 0, slots := 0, locals := 0 } : Room) (va_Pc [.ref (ad 8), .int a1, .int a2, .int a3] (wd_pre D (xw ad cI cJ cZ) (wd_tys cI cJ cZ) σ0)) (va_Qi (fun (r : Int32) (u : St) => post r ∧ u = σ0) (wd_B D (xw ad cI cJ cZ)) A) 0 0 A := by
  refine Met.ofW (cc := cX7_spans) (maxL := 4) (ret := (some .boolean)) (by decide) rfl ?_
  intro p e s m args below meth c s₁ B hml hv
  obtain ⟨rfl, hP, hK, hN⟩ := hv
  have hx := B.exec
  have hb := B.bytes
  have hr := B.returns
  have hts := atoms_spec (ws := wsX7_spans) B.pre
  have hown : s.vm.findClass RX7 = some m.cls := findClass_of_methodNamed B.named
  have hlocks := B.notSynchronized
  have hS : va_S A s.heap s.heap [] := va_S.rf
  have f11 := hts (.fieldLink RX7 11 "LeastRights$Sheets" "sizes" "[I") (by decide +kernel)
  have iX7 : ∀ w ∈ wsX70, w ∈ wsX7_spans := by decide +kernel
  have hl := lv_entry ([.ref (ad 8), .int a1, .int a2, .int a3]) (n := 4) (Nat.le_of_ble_eq_true rfl)
  rw [lg_entry_eq]
  generalize (lg_sl ([.ref (ad 8), .int a1, .int a2, .int a3]) ++ List.replicate (4 - (lg_sl ([.ref (ad 8), .int a1, .int a2, .int a3])).length) Slot.unset).toArray = ls at hl ⊢
  have hl : lv_has ls 4 [(0, .ref (ad 8)), (1, .int a1), (2, .int a2), (3, .int a3)] := hl
  unfold wX7_spans at hw
  refine lv_iload_n hx hb dX7_spans_0 rfl (lv_at hl 2 rfl) ?_
  refine lv_if_lt (tgt := 30) hx hb dX7_spans_1 (by decide) (fun c9 => ?_) (fun c9 => ?_)
  · have hw := hw.1 c9
    refine lv_iconst (v := 0) hx hb dX7_spans_30 (by decide) ?_
    exact wd_zret hx hb hr hlocks (by decide) ⟨hw, rfl⟩ hP hS dX7_spans_31
  · have hw := hw.2 c9
    refine lv_iload_n hx hb dX7_spans_4 rfl (lv_at hl 3 rfl) ?_
    refine lv_aload_n hx hb dX7_spans_5 rfl (lv_at hl 0 rfl) ?_
    refine va_get hx hb hts iX7 hown hK hP 8 (xw_q8 ad cI cJ cZ σ0) rfl 0 (by decide) f11 (fun _ h9 => h9) rfl dX7_spans_6 ?_
    refine lv_iload_n hx hb dX7_spans_9 rfl (lv_at hl 1 rfl) ?_
    obtain ⟨h9, hw⟩ := hw
    refine va_iald hx hb hK hP 29 0 (xw_q29 ad cI cJ cZ σ0) rfl h9 dX7_spans_10 ?_
    refine lv_icmp_gt (tgt := 30) hx hb dX7_spans_11 (by decide) (fun c9 => ?_) (fun c9 => ?_)
    · have hw := hw.1 c9
      refine lv_iconst (v := 0) hx hb dX7_spans_30 (by decide) ?_
      exact wd_zret hx hb hr hlocks (by decide) ⟨hw, rfl⟩ hP hS dX7_spans_31
    · have hw := hw.2 c9
      refine lv_iload_n hx hb dX7_spans_14 rfl (lv_at hl 2 rfl) ?_
      refine lv_aload_n hx hb dX7_spans_15 rfl (lv_at hl 0 rfl) ?_
      refine va_get hx hb hts iX7 hown hK hP 8 (xw_q8 ad cI cJ cZ σ0) rfl 0 (by decide) f11 (fun _ h9 => h9) rfl dX7_spans_16 ?_
      refine lv_iload_n hx hb dX7_spans_19 rfl (lv_at hl 1 rfl) ?_
      obtain ⟨h9, hw⟩ := hw
      refine va_iald hx hb hK hP 29 0 (xw_q29 ad cI cJ cZ σ0) rfl h9 dX7_spans_20 ?_
      refine lv_iload_n hx hb dX7_spans_21 rfl (lv_at hl 3 rfl) ?_
      refine lv_isub hx hb dX7_spans_22 ?_
      refine lv_icmp_gt (tgt := 30) hx hb dX7_spans_23 (by decide) (fun c9 => ?_) (fun c9 => ?_)
      · have hw := hw.1 c9
        refine lv_iconst (v := 0) hx hb dX7_spans_30 (by decide) ?_
        exact wd_zret hx hb hr hlocks (by decide) ⟨hw, rfl⟩ hP hS dX7_spans_31
      · have hw := hw.2 c9
        refine lv_iconst (v := 1) hx hb dX7_spans_26 (by decide) ?_
        refine lv_goto (tgt := 31) hx hb dX7_spans_27 (by decide) ?_
        exact wd_zret hx hb hr hlocks (by decide) ⟨hw, rfl⟩ hP hS dX7_spans_31
def wX7_move (σ0 : St) (a1 : Int32) (a2 : Int32) (a3 : Int32) (a4 : Int32) (a5 : Int32) (post : St → Prop) : Prop := ¬ ((a1 * (10 : Int32)) + a2) < 0 ∧ ¬ ((a3 * (10 : Int32)) + a4) < 0 ∧ ¬ a5 < 0 ∧ ((a1 * (10 : Int32)) + a2).toNatClampNeg + a5.toNatClampNeg ≤ 40 ∧ ((a3 * (10 : Int32)) + a4).toNatClampNeg + a5.toNatClampNeg ≤ 40 ∧ (∀ σ1 : St, σ1 = st_R σ0 20 (va_cpy (σ0.2.1 20) (σ0.2.1 20) ((a1 * (10 : Int32)) + a2).toNatClampNeg ((a3 * (10 : Int32)) + a4).toNatClampNeg a5.toNatClampNeg) → (post σ1))
set_option maxHeartbeats 4000000 in
set_option maxRecDepth 100000 in
theorem mtX7_move (l : Launch) (D : va_G) (ad : Nat → Nat) (cI cJ cZ : ClassId) (A : Nat → Prop) (hD : ∀ σ : St, va_D A (xw ad cI cJ cZ σ)) (σ0 : St) (a1 : Int32) (a2 : Int32) (a3 : Int32) (a4 : Int32) (a5 : Int32) (post : St → Prop) (hw : wX7_move σ0 a1 a2 a3 a4 a5 post) : Met l yX7_move wsX7_move ({ frames := 1, cells := 0, slots := 0, locals := 40 } : Room) (va_Pc [.ref (ad 8), .int a1, .int a2, .int a3, .int a4, .int a5] (wd_pre D (xw ad cI cJ cZ) (wd_tys cI cJ cZ) σ0)) (va_Qv post (wd_B D (xw ad cI cJ cZ)) A) 0 0 A := by
  refine Met.ofW (cc := cX7_move) (maxL := 6) (ret := none) (by decide) rfl ?_
  intro p e s m args below meth c s₁ B hml hv
  obtain ⟨rfl, hP, hK, hN⟩ := hv
  have hx := B.exec
  have hb := B.bytes
  have hr := B.returns
  have hts := atoms_spec (ws := wsX7_move) B.pre
  have hown : s.vm.findClass RX7 = some m.cls := findClass_of_methodNamed B.named
  have hlocks := B.notSynchronized
  have hS : va_S A s.heap s.heap [] := va_S.rf
  have f15 := hts (.fieldLink RX7 15 "LeastRights$Sheets" "ints" "[I") (by decide +kernel)
  have iX7 : ∀ w ∈ wsX70, w ∈ wsX7_move := by decide +kernel
  have m1 := hts (.methodLink RX7 24 arraycopyName) (by decide +kernel)
  have m2 := hts (.native arraycopyName) (by decide +kernel)
  have m3 := hts (.static arraycopyName) (by decide +kernel)
  have m4 := hts (.initialized "java/lang/System") (by decide +kernel)
  have hl := lv_entry ([.ref (ad 8), .int a1, .int a2, .int a3, .int a4, .int a5]) (n := 6) (Nat.le_of_ble_eq_true rfl)
  rw [lg_entry_eq]
  generalize (lg_sl ([.ref (ad 8), .int a1, .int a2, .int a3, .int a4, .int a5]) ++ List.replicate (6 - (lg_sl ([.ref (ad 8), .int a1, .int a2, .int a3, .int a4, .int a5])).length) Slot.unset).toArray = ls at hl ⊢
  have hl : lv_has ls 6 [(0, .ref (ad 8)), (1, .int a1), (2, .int a2), (3, .int a3), (4, .int a4), (5, .int a5)] := hl
  unfold wX7_move at hw
  refine lv_aload_n hx hb dX7_move_0 rfl (lv_at hl 0 rfl) ?_
  refine va_get hx hb hts iX7 hown hK hP 8 (xw_q8 ad cI cJ cZ σ0) rfl 1 (by decide) f15 (fun _ h9 => h9) rfl dX7_move_1 ?_
  refine lv_iload_n hx hb dX7_move_4 rfl (lv_at hl 1 rfl) ?_
  refine lv_bipush (v := 10) hx hb dX7_move_5 (by decide) ?_
  refine lv_imul hx hb dX7_move_7 ?_
  refine lv_iload_n hx hb dX7_move_8 rfl (lv_at hl 2 rfl) ?_
  refine lv_iadd hx hb dX7_move_9 ?_
  refine lv_aload_n hx hb dX7_move_10 rfl (lv_at hl 0 rfl) ?_
  refine va_get hx hb hts iX7 hown hK hP 8 (xw_q8 ad cI cJ cZ σ0) rfl 1 (by decide) f15 (fun _ h9 => h9) rfl dX7_move_11 ?_
  refine lv_iload_n hx hb dX7_move_14 rfl (lv_at hl 3 rfl) ?_
  refine lv_bipush (v := 10) hx hb dX7_move_15 (by decide) ?_
  refine lv_imul hx hb dX7_move_17 ?_
  refine lv_iload hx hb dX7_move_18 (lv_at hl 4 rfl) ?_
  refine lv_iadd hx hb dX7_move_20 ?_
  refine lv_iload hx hb dX7_move_21 (lv_at hl 5 rfl) ?_
  obtain ⟨h1, h2, h3, h4, h5, hw⟩ := hw
  refine va_copyi hx hb (hml.trans hl.1.symm) hown m1 m2 m3 m4 hK hP (hD _) hS 30 30 0 0 (xw_q30 ad cI cJ cZ σ0) (xw_q30 ad cI cJ cZ σ0) rfl rfl rfl h1 h2 h3 h4 h5 (fun _ _ => rfl) (Nat.le_of_ble_eq_true rfl) (by decide +kernel) dX7_move_23 (fun H locs hP _ hS => ?_)
  rw [xw_r20] at hP
  obtain ⟨σ1, eσ1⟩ : ∃ z : St, z = st_R σ0 20 (va_cpy (σ0.2.1 20) (σ0.2.1 20) ((a1 * (10 : Int32)) + a2).toNatClampNeg ((a3 * (10 : Int32)) + a4).toNatClampNeg a5.toNatClampNeg) := ⟨_, rfl⟩
  rw [← eσ1] at hP
  have hw := hw σ1 eσ1
  exact wd_vret hx hb hr hlocks hw hP hS dX7_move_26
def wX8_enter (σ0 : St) (a1 : Int32) (a2 : Int32) (a3 : Int32) (post : Int32 → St → Prop) : Prop := vp_in (σ0.1 7) 400 ∧ (∀ σ1 : St, σ1 = st_A σ0 6 (σ0.1 7).toNatClampNeg a1 → (vp_in (σ1.1 7) 400 ∧ (∀ σ2 : St, σ2 = st_A σ1 7 (σ1.1 7).toNatClampNeg a2 → (vp_in (σ2.1 7) 400 ∧ (∀ σ3 : St, σ3 = st_A σ2 8 (σ2.1 7).toNatClampNeg a3 → (∀ σ4 : St, σ4 = st_S σ3 7 ((σ3.1 7) + (1 : Int32)) → (post (σ4.1 7) σ4)))))))
set_option maxHeartbeats 4000000 in
set_option maxRecDepth 100000 in
theorem mtX8_enter (l : Launch) (D : va_G) (ad : Nat → Nat) (cI cJ cZ : ClassId) (A : Nat → Prop) (hD : ∀ σ : St, va_D A (xw ad cI cJ cZ σ)) (σ0 : St) (a1 : Int32) (a2 : Int32) (a3 : Int32) (post : Int32 → St → Prop) (hw : wX8_enter σ0 a1 a2 a3 post) : Met l yX8_enter wsX8_enter ({ frames := 0, cells := 0, slots := 0, locals := 0 } : Room) (va_Pc [.ref (ad 3), .int a1, .int a2, .int a3] (wd_pre D (xw ad cI cJ cZ) (wd_tys cI cJ cZ) σ0)) (va_Qi post (wd_B D (xw ad cI cJ cZ)) A) 0 0 A := by
  refine Met.ofW (cc := cX8_enter) (maxL := 4) (ret := (some .int)) (by decide) rfl ?_
  intro p e s m args below meth c s₁ B hml hv
  obtain ⟨rfl, hP, hK, hN⟩ := hv
  have hx := B.exec
  have hb := B.bytes
  have hr := B.returns
  have hts := atoms_spec (ws := wsX8_enter) B.pre
  have hown : s.vm.findClass RX8 = some m.cls := findClass_of_methodNamed B.named
  have hlocks := B.notSynchronized
  have hS : va_S A s.heap s.heap [] := va_S.rf
  have f15 := hts (.fieldLink RX8 15 "LeastRights$UseLog" "who" "[I") (by decide +kernel)
  have iX8 : ∀ w ∈ wsX80, w ∈ wsX8_enter := by decide +kernel
  have f9 := hts (.fieldLink RX8 9 "LeastRights$UseLog" "size" "I") (by decide +kernel)
  have f19 := hts (.fieldLink RX8 19 "LeastRights$UseLog" "which" "[I") (by decide +kernel)
  have f22 := hts (.fieldLink RX8 22 "LeastRights$UseLog" "when" "[I") (by decide +kernel)
  have hl := lv_entry ([.ref (ad 3), .int a1, .int a2, .int a3]) (n := 4) (Nat.le_of_ble_eq_true rfl)
  rw [lg_entry_eq]
  generalize (lg_sl ([.ref (ad 3), .int a1, .int a2, .int a3]) ++ List.replicate (4 - (lg_sl ([.ref (ad 3), .int a1, .int a2, .int a3])).length) Slot.unset).toArray = ls at hl ⊢
  have hl : lv_has ls 4 [(0, .ref (ad 3)), (1, .int a1), (2, .int a2), (3, .int a3)] := hl
  unfold wX8_enter at hw
  refine lv_aload_n hx hb dX8_enter_0 rfl (lv_at hl 0 rfl) ?_
  refine va_get hx hb hts iX8 hown hK hP 3 (xw_q3 ad cI cJ cZ σ0) rfl 1 (by decide) f15 (fun _ h9 => h9) rfl dX8_enter_1 ?_
  refine lv_aload_n hx hb dX8_enter_4 rfl (lv_at hl 0 rfl) ?_
  refine va_get hx hb hts iX8 hown hK hP 3 (xw_q3 ad cI cJ cZ σ0) rfl 0 (by decide) f9 (fun _ h9 => h9) rfl dX8_enter_5 ?_
  refine lv_iload_n hx hb dX8_enter_8 rfl (lv_at hl 1 rfl) ?_
  obtain ⟨h9, hw⟩ := hw
  refine wd_iast 6 16 hx hb hK hP hD hS (xw_q16 ad cI cJ cZ σ0) rfl (xw_a6 ad cI cJ cZ σ0) h9 dX8_enter_9 (fun H locs σ1 eσ1 hP hS => ?_)
  have hw := hw σ1 eσ1
  refine lv_aload_n hx hb dX8_enter_10 rfl (lv_at hl 0 rfl) ?_
  refine va_get hx hb hts iX8 hown hK hP 3 (xw_q3 ad cI cJ cZ σ1) rfl 2 (by decide) f19 (fun _ h9 => h9) rfl dX8_enter_11 ?_
  refine lv_aload_n hx hb dX8_enter_14 rfl (lv_at hl 0 rfl) ?_
  refine va_get hx hb hts iX8 hown hK hP 3 (xw_q3 ad cI cJ cZ σ1) rfl 0 (by decide) f9 (fun _ h9 => h9) rfl dX8_enter_15 ?_
  refine lv_iload_n hx hb dX8_enter_18 rfl (lv_at hl 2 rfl) ?_
  obtain ⟨h9, hw⟩ := hw
  refine wd_iast 7 17 hx hb hK hP hD hS (xw_q17 ad cI cJ cZ σ1) rfl (xw_a7 ad cI cJ cZ σ1) h9 dX8_enter_19 (fun H locs σ2 eσ2 hP hS => ?_)
  have hw := hw σ2 eσ2
  refine lv_aload_n hx hb dX8_enter_20 rfl (lv_at hl 0 rfl) ?_
  refine va_get hx hb hts iX8 hown hK hP 3 (xw_q3 ad cI cJ cZ σ2) rfl 3 (by decide) f22 (fun _ h9 => h9) rfl dX8_enter_21 ?_
  refine lv_aload_n hx hb dX8_enter_24 rfl (lv_at hl 0 rfl) ?_
  refine va_get hx hb hts iX8 hown hK hP 3 (xw_q3 ad cI cJ cZ σ2) rfl 0 (by decide) f9 (fun _ h9 => h9) rfl dX8_enter_25 ?_
  refine lv_iload_n hx hb dX8_enter_28 rfl (lv_at hl 3 rfl) ?_
  obtain ⟨h9, hw⟩ := hw
  refine wd_iast 8 18 hx hb hK hP hD hS (xw_q18 ad cI cJ cZ σ2) rfl (xw_a8 ad cI cJ cZ σ2) h9 dX8_enter_29 (fun H locs σ3 eσ3 hP hS => ?_)
  have hw := hw σ3 eσ3
  refine lv_aload_n hx hb dX8_enter_30 rfl (lv_at hl 0 rfl) ?_
  refine lv_dup hx hb dX8_enter_31 rfl ?_
  refine va_get hx hb hts iX8 hown hK hP 3 (xw_q3 ad cI cJ cZ σ3) rfl 0 (by decide) f9 (fun _ h9 => h9) rfl dX8_enter_32 ?_
  refine lv_iconst (v := 1) hx hb dX8_enter_35 (by decide) ?_
  refine lv_iadd hx hb dX8_enter_36 ?_
  refine wd_put 7 3 0 (ty := .int) tyX8 hx hb hts iX8 tyX8_ok nmX8 hown hK hP hD hS (xw_q3 ad cI cJ cZ σ3) rfl (by decide) f9 (fun _ h9 => h9) rfl (by decide +kernel) rfl rfl (Nat.le_of_ble_eq_true rfl) (xw_s7 ad cI cJ cZ σ3) dX8_enter_37 (fun H locs σ4 eσ4 hP hS => ?_)
  have hw := hw σ4 eσ4
  refine lv_aload_n hx hb dX8_enter_40 rfl (lv_at hl 0 rfl) ?_
  refine va_get hx hb hts iX8 hown hK hP 3 (xw_q3 ad cI cJ cZ σ4) rfl 0 (by decide) f9 (fun _ h9 => h9) rfl dX8_enter_41 ?_
  exact wd_iret hx hb hr hlocks hw hP hS dX8_enter_44
def lpX8_ofPerson_4 (u1 : Int32) (σ0 : St) (post : Int32 → Prop) : Nat → Int32 → Int32 → Prop
  | 0, _, _ => False
  | n + 1, v2, v3 => ((σ0.1 7) ≤ v3 → (post v2)) ∧ (¬ (σ0.1 7) ≤ v3 → (vp_in v3 400 ∧ ((¬ (σ0.2.1 6 v3.toNatClampNeg) = u1 → (∀ x1 : Int32, x1 = v3 + (1 : Int32) → (lpX8_ofPerson_4 u1 σ0 post n v2 x1))) ∧ ((σ0.2.1 6 v3.toNatClampNeg) = u1 → (∀ x2 : Int32, x2 = v2 + (1 : Int32) → (∀ x3 : Int32, x3 = v3 + (1 : Int32) → (lpX8_ofPerson_4 u1 σ0 post n x2 x3)))))))
def wX8_ofPerson (σ0 : St) (a1 : Int32) (post : Int32 → Prop) : Prop := ∃ n4 : Nat, lpX8_ofPerson_4 a1 σ0 post n4 (0 : Int32) (0 : Int32)
set_option maxHeartbeats 4000000 in
set_option maxRecDepth 100000 in
theorem mtX8_ofPerson (l : Launch) (D : va_G) (ad : Nat → Nat) (cI cJ cZ : ClassId) (A : Nat → Prop) (hD : ∀ σ : St, va_D A (xw ad cI cJ cZ σ)) (σ0 : St) (a1 : Int32) (post : Int32 → Prop) (hw : wX8_ofPerson σ0 a1 post) : Met l yX8_ofPerson wsX8_ofPerson ({ frames := 0, cells := 0, slots := 0, locals := 0 } : Room) (va_Pc [.ref (ad 3), .int a1] (wd_pre D (xw ad cI cJ cZ) (wd_tys cI cJ cZ) σ0)) (va_Qi (fun (r : Int32) (u : St) => post r ∧ u = σ0) (wd_B D (xw ad cI cJ cZ)) A) 0 0 A := by
  refine Met.ofW (cc := cX8_ofPerson) (maxL := 4) (ret := (some .int)) (by decide) rfl ?_
  intro p e s m args below meth c s₁ B hml hv
  obtain ⟨rfl, hP, hK, hN⟩ := hv
  have hx := B.exec
  have hb := B.bytes
  have hr := B.returns
  have hts := atoms_spec (ws := wsX8_ofPerson) B.pre
  have hown : s.vm.findClass RX8 = some m.cls := findClass_of_methodNamed B.named
  have hlocks := B.notSynchronized
  have hS : va_S A s.heap s.heap [] := va_S.rf
  have f9 := hts (.fieldLink RX8 9 "LeastRights$UseLog" "size" "I") (by decide +kernel)
  have iX8 : ∀ w ∈ wsX80, w ∈ wsX8_ofPerson := by decide +kernel
  have f15 := hts (.fieldLink RX8 15 "LeastRights$UseLog" "who" "[I") (by decide +kernel)
  have L4 : ∀ (u1 : Int32) (n : Nat) (v2 : Int32) (v3 : Int32) (H : Heap) (locs : List Loc) (ls : Array Slot), lpX8_ofPerson_4 u1 σ0 post n v2 v3 → va_P D vwCl (xw ad cI cJ cZ σ0) H → va_S A s.heap H locs → lv_has ls 4 [(0, .ref (ad 3)), (1, .int u1), (2, .int v2), (3, .int v3)] → W p l e (headSpec wsX8_ofPerson ({ frames := 0, cells := 0, slots := 0, locals := 0 } : Room)).room s m ([.ref (ad 3), .int a1] : List Value).toArray below meth c H locs 0 0 (MQ below (va_Qi (fun (r : Int32) (u : St) => post r ∧ u = σ0) (wd_B D (xw ad cI cJ cZ)) A) ([.ref (ad 3), .int a1] : List Value).toArray s 0 0 A) (F0 m 4 ls []) := by
    intro u1 n
    induction n with
    | zero => intro v2 v3 H locs ls hw; exact hw.elim
    | succ n ih =>
      intro v2 v3 H locs ls hw hP hS hl
      rw [lpX8_ofPerson_4] at hw
      refine lv_iload_n hx hb dX8_ofPerson_4 rfl (lv_at hl 3 rfl) ?_
      refine lv_aload_n hx hb dX8_ofPerson_5 rfl (lv_at hl 0 rfl) ?_
      refine va_get hx hb hts iX8 hown hK hP 3 (xw_q3 ad cI cJ cZ σ0) rfl 0 (by decide) f9 (fun _ h9 => h9) rfl dX8_ofPerson_6 ?_
      refine lv_icmp_ge (tgt := 31) hx hb dX8_ofPerson_9 (by decide) (fun c9 => ?_) (fun c9 => ?_)
      · have hw := hw.1 c9
        refine lv_iload_n hx hb dX8_ofPerson_31 rfl (lv_at hl 2 rfl) ?_
        exact wd_iret hx hb hr hlocks ⟨hw, rfl⟩ hP hS dX8_ofPerson_32
      · have hw := hw.2 c9
        refine lv_aload_n hx hb dX8_ofPerson_12 rfl (lv_at hl 0 rfl) ?_
        refine va_get hx hb hts iX8 hown hK hP 3 (xw_q3 ad cI cJ cZ σ0) rfl 1 (by decide) f15 (fun _ h9 => h9) rfl dX8_ofPerson_13 ?_
        refine lv_iload_n hx hb dX8_ofPerson_16 rfl (lv_at hl 3 rfl) ?_
        obtain ⟨h9, hw⟩ := hw
        refine va_iald hx hb hK hP 16 0 (xw_q16 ad cI cJ cZ σ0) rfl h9 dX8_ofPerson_17 ?_
        refine lv_iload_n hx hb dX8_ofPerson_18 rfl (lv_at hl 1 rfl) ?_
        refine lv_icmp_ne (tgt := 25) hx hb dX8_ofPerson_19 (by decide) (fun c9 => ?_) (fun c9 => ?_)
        · have hw := hw.1 c9
          obtain ⟨x1, ex1⟩ : ∃ z : Int32, z = v3 + (1 : Int32) := ⟨_, rfl⟩
          refine lv_iinc (v := x1) (lv' := [(3, .int x1), (0, .ref (ad 3)), (1, .int u1), (2, .int v2)]) hx hb dX8_ofPerson_25 hl (k := 3) rfl (by rw [ex1]; rfl) (by decide) rfl (fun ls hl => ?_)
          have hw := hw x1 ex1
          refine lv_goto (tgt := 4) hx hb dX8_ofPerson_28 (by decide) ?_
          exact ih _ _ _ _ _ hw hP hS (lv_sub hl [1, 2, 3, 0] rfl)
        · have hw := hw.2 c9
          obtain ⟨x2, ex2⟩ : ∃ z : Int32, z = v2 + (1 : Int32) := ⟨_, rfl⟩
          refine lv_iinc (v := x2) (lv' := [(2, .int x2), (0, .ref (ad 3)), (1, .int u1), (3, .int v3)]) hx hb dX8_ofPerson_22 hl (k := 2) rfl (by rw [ex2]; rfl) (by decide) rfl (fun ls hl => ?_)
          have hw := hw x2 ex2
          obtain ⟨x3, ex3⟩ : ∃ z : Int32, z = v3 + (1 : Int32) := ⟨_, rfl⟩
          refine lv_iinc (v := x3) (lv' := [(3, .int x3), (2, .int x2), (0, .ref (ad 3)), (1, .int u1)]) hx hb dX8_ofPerson_25 hl (k := 3) rfl (by rw [ex3]; rfl) (by decide) rfl (fun ls hl => ?_)
          have hw := hw x3 ex3
          refine lv_goto (tgt := 4) hx hb dX8_ofPerson_28 (by decide) ?_
          exact ih _ _ _ _ _ hw hP hS (lv_sub hl [2, 3, 1, 0] rfl)
  have hl := lv_entry ([.ref (ad 3), .int a1]) (n := 4) (Nat.le_of_ble_eq_true rfl)
  rw [lg_entry_eq]
  generalize (lg_sl ([.ref (ad 3), .int a1]) ++ List.replicate (4 - (lg_sl ([.ref (ad 3), .int a1])).length) Slot.unset).toArray = ls at hl ⊢
  have hl : lv_has ls 4 [(0, .ref (ad 3)), (1, .int a1)] := hl
  unfold wX8_ofPerson at hw
  refine lv_iconst (v := 0) hx hb dX8_ofPerson_0 (by decide) ?_
  refine lv_istore_n (lv' := [(2, .int (0 : Int32)), (0, .ref (ad 3)), (1, .int a1)]) hx hb dX8_ofPerson_1 rfl hl (by decide) rfl (fun ls hl => ?_)
  refine lv_iconst (v := 0) hx hb dX8_ofPerson_2 (by decide) ?_
  refine lv_istore_n (lv' := [(3, .int (0 : Int32)), (2, .int (0 : Int32)), (0, .ref (ad 3)), (1, .int a1)]) hx hb dX8_ofPerson_3 rfl hl (by decide) rfl (fun ls hl => ?_)
  obtain ⟨n9, hw⟩ := hw
  refine L4 a1 n9 (0 : Int32) (0 : Int32) _ _ _ hw hP hS (lv_sub hl [2, 3, 1, 0] rfl)
