/-! X10_finding X10_findings X10_digest -/
def wX10_finding (σ0 : St) (post : Int32 → Prop) : Prop := post (σ0.1 0)
set_option maxHeartbeats 4000000 in
set_option maxRecDepth 100000 in
theorem cX10_finding (l : Launch) (D : va_G) (am : Nat → Nat) (cI cJ cZ : ClassId) (A : Nat → Prop) (hD : ∀ σ : St, va_D A (mw am cI cJ cZ σ)) (σ0 : St) (post : Int32 → Prop) (hw : wX10_finding σ0 post) : Met l yX10_finding wsX10_finding ({ frames := 0, cells := 0, slots := 0, locals := 0 } : Room) (va_Pc [.ref (am 0)] (wd_pre D (mw am cI cJ cZ) (wd_tys cI cJ cZ) σ0)) (va_Qi (fun (r : Int32) (u : St) => post r ∧ u = σ0) (wd_B D (mw am cI cJ cZ)) A) 0 0 A := by
  refine Met.ofW (cc := cX10_finding) (maxL := 1) (ret := (some .int)) (by decide) rfl ?_
  intro p e s m args below meth c s₁ B hml hv
  obtain ⟨rfl, hP, hK, hN⟩ := hv
  have hx := B.exec
  have hb := B.bytes
  have hr := B.returns
  have hts := atoms_spec (ws := wsX10_finding) B.pre
  have hown : s.vm.findClass RX10 = some m.cls := findClass_of_methodNamed B.named
  have hlocks := B.notSynchronized
  have hS : va_S A s.heap s.heap [] := va_S.rf
  have f81 := hts (.fieldLink RX10 81 "LeastRightsModel" "finding" "I") (by decide +kernel)
  have iX10 : ∀ w ∈ wsX100, w ∈ wsX10_finding := by decide +kernel
  have hl := lv_entry ([.ref (am 0)]) (n := 1) (Nat.le_of_ble_eq_true rfl)
  rw [lg_entry_eq]
  generalize (lg_sl ([.ref (am 0)]) ++ List.replicate (1 - (lg_sl ([.ref (am 0)])).length) Slot.unset).toArray = ls at hl ⊢
  have hl : lv_has ls 1 [(0, .ref (am 0))] := hl
  unfold wX10_finding at hw
  refine lv_aload_n hx hb dX10_finding_0 rfl (lv_at hl 0 rfl) ?_
  refine va_get hx hb hts iX10 hown hK hP 0 (mw_q0 am cI cJ cZ σ0) rfl 0 (by decide) f81 (fun _ h9 => h9) rfl dX10_finding_1 ?_
  exact wd_iret hx hb hr hlocks ⟨hw, rfl⟩ hP hS dX10_finding_4
def wX10_findings (σ0 : St) (a1 : Int32) (post : Int32 → Prop) : Prop := wX10_in a1 (1 : Int32) (4 : Int32) (fun (r1 : Int32) => (r1 = 0 → (post (-1 : Int32))) ∧ (¬ r1 = 0 → (vp_in a1 5 ∧ (post (σ0.2.1 0 a1.toNatClampNeg)))))
set_option maxHeartbeats 4000000 in
set_option maxRecDepth 100000 in
theorem cX10_findings (l : Launch) (D : va_G) (am : Nat → Nat) (cI cJ cZ : ClassId) (A : Nat → Prop) (hD : ∀ σ : St, va_D A (mw am cI cJ cZ σ)) (σ0 : St) (a1 : Int32) (post : Int32 → Prop) (hw : wX10_findings σ0 a1 post) : Met l yX10_findings wsX10_findings ({ frames := 1, cells := 0, slots := 0, locals := 22 } : Room) (va_Pc [.ref (am 0), .int a1] (wd_pre D (mw am cI cJ cZ) (wd_tys cI cJ cZ) σ0)) (va_Qi (fun (r : Int32) (u : St) => post r ∧ u = σ0) (wd_B D (mw am cI cJ cZ)) A) 0 0 A := by
  refine Met.ofW (cc := cX10_findings) (maxL := 2) (ret := (some .int)) (by decide) rfl ?_
  intro p e s m args below meth c s₁ B hml hv
  obtain ⟨rfl, hP, hK, hN⟩ := hv
  have hx := B.exec
  have hb := B.bytes
  have hr := B.returns
  have hts := atoms_spec (ws := wsX10_findings) B.pre
  have hown : s.vm.findClass RX10 = some m.cls := findClass_of_methodNamed B.named
  have hlocks := B.notSynchronized
  have hS : va_S A s.heap s.heap [] := va_S.rf
  have f7 := hts (.fieldLink RX10 7 "LeastRightsModel" "findings" "[I") (by decide +kernel)
  have iX10 : ∀ w ∈ wsX100, w ∈ wsX10_findings := by decide +kernel
  have hl := lv_entry ([.ref (am 0), .int a1]) (n := 2) (Nat.le_of_ble_eq_true rfl)
  rw [lg_entry_eq]
  generalize (lg_sl ([.ref (am 0), .int a1]) ++ List.replicate (2 - (lg_sl ([.ref (am 0), .int a1])).length) Slot.unset).toArray = ls at hl ⊢
  have hl : lv_has ls 2 [(0, .ref (am 0)), (1, .int a1)] := hl
  unfold wX10_findings at hw
  refine lv_iload_n hx hb dX10_findings_0 rfl (lv_at hl 1 rfl) ?_
  refine lv_iconst (v := 1) hx hb dX10_findings_1 (by decide) ?_
  refine lv_iconst (v := 4) hx hb dX10_findings_2 (by decide) ?_
  refine wd_cSi ⟨hx, hb, hml, hown, hts⟩ (cX10_in l D am cI cJ cZ A hD σ0 a1 (1 : Int32) (4 : Int32) _ hw) (va_cwS 3 hts gX10_findings_X10_in rfl rfl rfl (by decide +kernel) ⟨(Nat.le_of_ble_eq_true rfl), (Nat.le_of_ble_eq_true rfl)⟩) hK hN hP hS rfl hl.1 rfl (Nat.le_of_ble_eq_true rfl) dX10_findings_3 ⟨Nat.zero_le _, Nat.zero_le _⟩ (fun r1 u9 H locs hq hP hS => ?_)
  obtain ⟨hw, hu⟩ := hq
  rw [hu] at hP
  try beta_reduce at hw
  refine lv_if_eq (tgt := 18) hx hb dX10_findings_6 (by decide) (fun c9 => ?_) (fun c9 => ?_)
  · have hw := hw.1 c9
    refine lv_iconst (v := -1) hx hb dX10_findings_18 (by decide) ?_
    exact wd_iret hx hb hr hlocks ⟨hw, rfl⟩ hP hS dX10_findings_19
  · have hw := hw.2 c9
    refine lv_aload_n hx hb dX10_findings_9 rfl (lv_at hl 0 rfl) ?_
    refine va_get hx hb hts iX10 hown hK hP 0 (mw_q0 am cI cJ cZ σ0) rfl 1 (by decide) f7 (fun _ h9 => h9) rfl dX10_findings_10 ?_
    refine lv_iload_n hx hb dX10_findings_13 rfl (lv_at hl 1 rfl) ?_
    obtain ⟨h9, hw⟩ := hw
    refine va_iald hx hb hK hP 1 0 (mw_q1 am cI cJ cZ σ0) rfl h9 dX10_findings_14 ?_
    refine lv_goto (tgt := 19) hx hb dX10_findings_15 (by decide) ?_
    exact wd_iret hx hb hr hlocks ⟨hw, rfl⟩ hP hS dX10_findings_19
def lpX10_digest_17 (u3 : Int32) (σ0 : St) (K44 : Int64 → Prop) : Nat → Int64 → Int32 → Prop
  | 0, _, _ => False
  | n + 1, v1, v4 => ((4 : Int32) < v4 → (K44 v1)) ∧ (¬ (4 : Int32) < v4 → (wX10_tells σ0 u3 v4 (fun (r1 : Int32) => ∀ x2 : Int64, x2 = (((31 : Int64) * v1) + (r1.toInt64)) → (∀ x3 : Int32, x3 = v4 + (1 : Int32) → (lpX10_digest_17 u3 σ0 K44 n x2 x3)))))
def lpX10_digest_6 (σ0 : St) (K50 : Int64 → Prop) : Nat → Int64 → Int32 → Prop
  | 0, _, _ => False
  | n + 1, v1, v3 => ((σ0.1 1) ≤ v3 → (K50 v1)) ∧ (¬ (σ0.1 1) ≤ v3 → (∃ n6 : Nat, lpX10_digest_17 v3 σ0 (fun (y4 : Int64) => ∀ x5 : Int32, x5 = v3 + (1 : Int32) → (lpX10_digest_6 σ0 K50 n y4 x5)) n6 v1 (0 : Int32)))
def lpX10_digest_74 (σ0 : St) (K126 : Int64 → Prop) : Nat → Int64 → Int32 → Prop
  | 0, _, _ => False
  | n + 1, v1, v3 => ((σ0.1 7) ≤ v3 → (K126 v1)) ∧ (¬ (σ0.1 7) ≤ v3 → (vp_in v3 400 ∧ (vp_in v3 400 ∧ (vp_in v3 400 ∧ (∀ x9 : Int64, x9 = (((31 : Int64) * (((31 : Int64) * (((31 : Int64) * v1) + ((σ0.2.1 4 v3.toNatClampNeg).toInt64))) + ((σ0.2.1 5 v3.toNatClampNeg).toInt64))) + ((σ0.2.1 6 v3.toNatClampNeg).toInt64)) → (∀ x10 : Int32, x10 = v3 + (1 : Int32) → (lpX10_digest_74 σ0 K126 n x9 x10)))))))
def lpX10_digest_128 (σ0 : St) (K154 : Int64 → Prop) : Nat → Int64 → Int32 → Prop
  | 0, _, _ => False
  | n + 1, v1, v3 => ((12 : Int32) ≤ v3 → (K154 v1)) ∧ (¬ (12 : Int32) ≤ v3 → (vp_in v3 12 ∧ (∀ x12 : Int64, x12 = (((31 : Int64) * v1) + ((σ0.2.1 14 v3.toNatClampNeg).toInt64)) → (∀ x13 : Int32, x13 = v3 + (1 : Int32) → (lpX10_digest_128 σ0 K154 n x12 x13)))))
def lpX10_digest_191 (u3 : Int32) (σ0 : St) (K228 : Int64 → Prop) : Nat → Int64 → Int32 → Prop
  | 0, _, _ => False
  | n + 1, v1, v4 => vp_in u3 4 ∧ (((σ0.2.1 16 u3.toNatClampNeg) ≤ v4 → (K228 v1)) ∧ (¬ (σ0.2.1 16 u3.toNatClampNeg) ≤ v4 → (vp_in (((10 : Int32) * u3) + v4) 40 ∧ (∀ x16 : Int64, x16 = (((31 : Int64) * v1) + ((σ0.2.1 17 (((10 : Int32) * u3) + v4).toNatClampNeg).toInt64)) → (∀ x17 : Int32, x17 = v4 + (1 : Int32) → (lpX10_digest_191 u3 σ0 K228 n x16 x17))))))
def lpX10_digest_156 (σ0 : St) (K234 : Int64 → Prop) : Nat → Int64 → Int32 → Prop
  | 0, _, _ => False
  | n + 1, v1, v3 => ((4 : Int32) ≤ v3 → (K234 v1)) ∧ (¬ (4 : Int32) ≤ v3 → (vp_in v3 4 ∧ ((0 ≤ (σ0.2.1 16 v3.toNatClampNeg) → (vp_in v3 4 ∧ (∀ x15 : Int64, x15 = (((31 : Int64) * v1) + ((σ0.2.1 16 v3.toNatClampNeg).toInt64)) → (∃ n20 : Nat, lpX10_digest_191 v3 σ0 (fun (y18 : Int64) => ∀ x19 : Int32, x19 = v3 + (1 : Int32) → (lpX10_digest_156 σ0 K234 n y18 x19)) n20 x15 (0 : Int32))))) ∧ (¬ 0 ≤ (σ0.2.1 16 v3.toNatClampNeg) → (∀ x21 : Int64, x21 = (((31 : Int64) * v1) + ((-1 : Int32).toInt64)) → (∃ n24 : Nat, lpX10_digest_191 v3 σ0 (fun (y22 : Int64) => ∀ x23 : Int32, x23 = v3 + (1 : Int32) → (lpX10_digest_156 σ0 K234 n y22 x23)) n24 x21 (0 : Int32)))))))
def wX10_digest (σ0 : St) (post : Int64 → Prop) : Prop := ∃ n29 : Nat, lpX10_digest_6 σ0 (fun (y7 : Int64) => ∀ x8 : Int64, x8 = (((31 : Int64) * (((31 : Int64) * y7) + ((σ0.1 2).toInt64))) + ((σ0.1 6).toInt64)) → (∃ n28 : Nat, lpX10_digest_74 σ0 (fun (y11 : Int64) => ∃ n27 : Nat, lpX10_digest_128 σ0 (fun (y14 : Int64) => ∃ n26 : Nat, lpX10_digest_156 σ0 (fun (y25 : Int64) => post y25) n26 y14 (0 : Int32)) n27 y11 (0 : Int32)) n28 x8 (0 : Int32))) n29 (17 : Int64) (0 : Int32)
set_option maxHeartbeats 4000000 in
set_option maxRecDepth 100000 in
theorem cX10_digest (l : Launch) (D : va_G) (am : Nat → Nat) (cI cJ cZ : ClassId) (A : Nat → Prop) (hD : ∀ σ : St, va_D A (mw am cI cJ cZ σ)) (σ0 : St) (post : Int64 → Prop) (hw : wX10_digest σ0 post) : Met l yX10_digest wsX10_digest ({ frames := 4, cells := 0, slots := 0, locals := 95 } : Room) (va_Pc [.ref (am 0)] (wd_pre D (mw am cI cJ cZ) (wd_tys cI cJ cZ) σ0)) (va_Ql (fun (r : Int64) (u : St) => post r ∧ u = σ0) (wd_B D (mw am cI cJ cZ)) A) 0 0 A := by
  refine Met.ofW (cc := cX10_digest) (maxL := 5) (ret := (some .long)) (by decide) rfl ?_
  intro p e s m args below meth c s₁ B hml hv
  obtain ⟨rfl, hP, hK, hN⟩ := hv
  have hx := B.exec
  have hb := B.bytes
  have hr := B.returns
  have hts := atoms_spec (ws := wsX10_digest) B.pre
  have hown : s.vm.findClass RX10 = some m.cls := findClass_of_methodNamed B.named
  have hlocks := B.notSynchronized
  have hS : va_S A s.heap s.heap [] := va_S.rf
  have k172 := hts (.constantLong RX10 172 (17)) (by decide +kernel)
  have f84 := hts (.fieldLink RX10 84 "LeastRightsModel" "people" "I") (by decide +kernel)
  have iX10 : ∀ w ∈ wsX100, w ∈ wsX10_digest := by decide +kernel
  have k174 := hts (.constantLong RX10 174 (31)) (by decide +kernel)
  have f109 := hts (.fieldLink RX10 109 "LeastRightsModel" "standby" "I") (by decide +kernel)
  have f106 := hts (.fieldLink RX10 106 "LeastRightsModel" "day" "I") (by decide +kernel)
  have f103 := hts (.fieldLink RX10 103 "LeastRightsModel" "uses" "I") (by decide +kernel)
  have f32 := hts (.fieldLink RX10 32 "LeastRightsModel" "usePerson" "[I") (by decide +kernel)
  have f35 := hts (.fieldLink RX10 35 "LeastRightsModel" "useRight" "[I") (by decide +kernel)
  have f38 := hts (.fieldLink RX10 38 "LeastRightsModel" "useDay" "[I") (by decide +kernel)
  have f63 := hts (.fieldLink RX10 63 "LeastRightsModel" "banned" "[I") (by decide +kernel)
  have f72 := hts (.fieldLink RX10 72 "LeastRightsModel" "sizes" "[I") (by decide +kernel)
  have f75 := hts (.fieldLink RX10 75 "LeastRightsModel" "sheets" "[I") (by decide +kernel)
  have L17 : ∀ (u3 : Int32) (K44 : Int64 → Prop) (_ : ∀ (v1 : Int64) (H : Heap) (locs : List Loc) (ls : Array Slot), K44 v1 → va_P D vwCl (mw am cI cJ cZ σ0) H → va_S A s.heap H locs → lv_has ls 5 [(0, .ref (am 0)), (3, .int u3), (1, .long v1)] → W p l e (headSpec wsX10_digest ({ frames := 4, cells := 0, slots := 0, locals := 95 } : Room)).room s m ([.ref (am 0)] : List Value).toArray below meth c H locs 0 0 (MQ below (va_Ql (fun (r : Int64) (u : St) => post r ∧ u = σ0) (wd_B D (mw am cI cJ cZ)) A) ([.ref (am 0)] : List Value).toArray s 0 0 A) (F0 m 44 ls [])) (n : Nat) (v1 : Int64) (v4 : Int32) (H : Heap) (locs : List Loc) (ls : Array Slot), lpX10_digest_17 u3 σ0 K44 n v1 v4 → va_P D vwCl (mw am cI cJ cZ σ0) H → va_S A s.heap H locs → lv_has ls 5 [(0, .ref (am 0)), (3, .int u3), (1, .long v1), (4, .int v4)] → W p l e (headSpec wsX10_digest ({ frames := 4, cells := 0, slots := 0, locals := 95 } : Room)).room s m ([.ref (am 0)] : List Value).toArray below meth c H locs 0 0 (MQ below (va_Ql (fun (r : Int64) (u : St) => post r ∧ u = σ0) (wd_B D (mw am cI cJ cZ)) A) ([.ref (am 0)] : List Value).toArray s 0 0 A) (F0 m 17 ls []) := by
    intro u3 K44 hK44 n
    induction n with
    | zero => intro v1 v4 H locs ls hw; exact hw.elim
    | succ n ih =>
      intro v1 v4 H locs ls hw hP hS hl
      rw [lpX10_digest_17] at hw
      refine lv_iload hx hb dX10_digest_17 (lv_at hl 3 rfl) ?_
      refine lv_iconst (v := 4) hx hb dX10_digest_19 (by decide) ?_
      refine lv_icmp_gt (tgt := 44) hx hb dX10_digest_20 (by decide) (fun c9 => ?_) (fun c9 => ?_)
      · have hw := hw.1 c9
        exact hK44 _ _ _ _ hw hP hS (lv_sub hl [0, 1, 2] rfl)
      · have hw := hw.2 c9
        refine lv_ldc2 hx hb hown k174 dX10_digest_23 ?_
        refine lv_lload_n hx hb dX10_digest_26 rfl (lv_at hl 2 rfl) ?_
        refine lv_lmul hx hb dX10_digest_27 ?_
        refine lv_aload_n hx hb dX10_digest_28 rfl (lv_at hl 0 rfl) ?_
        refine lv_iload_n hx hb dX10_digest_29 rfl (lv_at hl 1 rfl) ?_
        refine lv_iload hx hb dX10_digest_30 (lv_at hl 3 rfl) ?_
        refine wd_cVi ⟨hx, hb, hml, hown, hts⟩ (cX10_tells l D am cI cJ cZ A hD σ0 u3 v4 _ hw) (cwV 2 hts gX10_digest_X10_tells rfl rfl rfl (by decide +kernel) ⟨(Nat.le_of_ble_eq_true rfl), (Nat.le_of_ble_eq_true rfl)⟩) (va_recv hK hP (ci := 10) (q0 := 0) rfl (mw_q0 am cI cJ cZ σ0)) hK hN hP hS rfl hl.1 rfl (Nat.le_of_ble_eq_true rfl) dX10_digest_32 ⟨Nat.zero_le _, Nat.zero_le _⟩ (fun r1 u9 H locs hq hP hS => ?_)
        obtain ⟨hw, hu⟩ := hq
        rw [hu] at hP
        try beta_reduce at hw
        refine lv_i2l hx hb dX10_digest_35 rfl ?_
        refine lv_ladd hx hb dX10_digest_36 ?_
        refine lv_topl (fun x2 ex2 => ?_)
        have hw := hw x2 ex2
        refine lv_lstore_n (lv' := [(1, .long x2), (0, .ref (am 0)), (3, .int u3), (4, .int v4)]) hx hb dX10_digest_37 rfl hl (by decide) rfl (fun ls hl => ?_)
        obtain ⟨x3, ex3⟩ : ∃ z : Int32, z = v4 + (1 : Int32) := ⟨_, rfl⟩
        refine lv_iinc (v := x3) (lv' := [(4, .int x3), (1, .long x2), (0, .ref (am 0)), (3, .int u3)]) hx hb dX10_digest_38 hl (k := 3) rfl (by rw [ex3]; rfl) (by decide) rfl (fun ls hl => ?_)
        have hw := hw x3 ex3
        refine lv_goto (tgt := 17) hx hb dX10_digest_41 (by decide) ?_
        exact ih _ _ _ _ _ hw hP hS (lv_sub hl [2, 3, 1, 0] rfl)
  have L6 : ∀ (K50 : Int64 → Prop) (_ : ∀ (v1 : Int64) (H : Heap) (locs : List Loc) (ls : Array Slot), K50 v1 → va_P D vwCl (mw am cI cJ cZ σ0) H → va_S A s.heap H locs → lv_has ls 5 [(0, .ref (am 0)), (1, .long v1)] → W p l e (headSpec wsX10_digest ({ frames := 4, cells := 0, slots := 0, locals := 95 } : Room)).room s m ([.ref (am 0)] : List Value).toArray below meth c H locs 0 0 (MQ below (va_Ql (fun (r : Int64) (u : St) => post r ∧ u = σ0) (wd_B D (mw am cI cJ cZ)) A) ([.ref (am 0)] : List Value).toArray s 0 0 A) (F0 m 50 ls [])) (n : Nat) (v1 : Int64) (v3 : Int32) (H : Heap) (locs : List Loc) (ls : Array Slot), lpX10_digest_6 σ0 K50 n v1 v3 → va_P D vwCl (mw am cI cJ cZ σ0) H → va_S A s.heap H locs → lv_has ls 5 [(0, .ref (am 0)), (1, .long v1), (3, .int v3)] → W p l e (headSpec wsX10_digest ({ frames := 4, cells := 0, slots := 0, locals := 95 } : Room)).room s m ([.ref (am 0)] : List Value).toArray below meth c H locs 0 0 (MQ below (va_Ql (fun (r : Int64) (u : St) => post r ∧ u = σ0) (wd_B D (mw am cI cJ cZ)) A) ([.ref (am 0)] : List Value).toArray s 0 0 A) (F0 m 6 ls []) := by
    intro K50 hK50 n
    induction n with
    | zero => intro v1 v3 H locs ls hw; exact hw.elim
    | succ n ih =>
      intro v1 v3 H locs ls hw hP hS hl
      rw [lpX10_digest_6] at hw
      refine lv_iload_n hx hb dX10_digest_6 rfl (lv_at hl 2 rfl) ?_
      refine lv_aload_n hx hb dX10_digest_7 rfl (lv_at hl 0 rfl) ?_
      refine va_get hx hb hts iX10 hown hK hP 0 (mw_q0 am cI cJ cZ σ0) rfl 2 (by decide) f84 (fun _ h9 => h9) rfl dX10_digest_8 ?_
      refine lv_icmp_ge (tgt := 50) hx hb dX10_digest_11 (by decide) (fun c9 => ?_) (fun c9 => ?_)
      · have hw := hw.1 c9
        exact hK50 _ _ _ _ hw hP hS (lv_sub hl [0, 1] rfl)
      · have hw := hw.2 c9
        refine lv_iconst (v := 0) hx hb dX10_digest_14 (by decide) ?_
        refine lv_istore (lv' := [(4, .int (0 : Int32)), (0, .ref (am 0)), (1, .long v1), (3, .int v3)]) hx hb dX10_digest_15 hl (by decide) rfl (fun ls hl => ?_)
        obtain ⟨n9, hw⟩ := hw
        refine L17 v3 _ ?_ n9 v1 (0 : Int32) _ _ _ hw hP hS (lv_sub hl [1, 3, 2, 0] rfl)
        · intro y4 H locs ls hw hP hS hl
          try beta_reduce at hw
          obtain ⟨x5, ex5⟩ : ∃ z : Int32, z = v3 + (1 : Int32) := ⟨_, rfl⟩
          refine lv_iinc (v := x5) (lv' := [(3, .int x5), (0, .ref (am 0)), (1, .long y4)]) hx hb dX10_digest_44 hl (k := 1) rfl (by rw [ex5]; rfl) (by decide) rfl (fun ls hl => ?_)
          have hw := hw x5 ex5
          refine lv_goto (tgt := 6) hx hb dX10_digest_47 (by decide) ?_
          exact ih _ _ _ _ _ hw hP hS (lv_sub hl [1, 2, 0] rfl)
  have L74 : ∀ (K126 : Int64 → Prop) (_ : ∀ (v1 : Int64) (H : Heap) (locs : List Loc) (ls : Array Slot), K126 v1 → va_P D vwCl (mw am cI cJ cZ σ0) H → va_S A s.heap H locs → lv_has ls 5 [(0, .ref (am 0)), (1, .long v1)] → W p l e (headSpec wsX10_digest ({ frames := 4, cells := 0, slots := 0, locals := 95 } : Room)).room s m ([.ref (am 0)] : List Value).toArray below meth c H locs 0 0 (MQ below (va_Ql (fun (r : Int64) (u : St) => post r ∧ u = σ0) (wd_B D (mw am cI cJ cZ)) A) ([.ref (am 0)] : List Value).toArray s 0 0 A) (F0 m 126 ls [])) (n : Nat) (v1 : Int64) (v3 : Int32) (H : Heap) (locs : List Loc) (ls : Array Slot), lpX10_digest_74 σ0 K126 n v1 v3 → va_P D vwCl (mw am cI cJ cZ σ0) H → va_S A s.heap H locs → lv_has ls 5 [(0, .ref (am 0)), (1, .long v1), (3, .int v3)] → W p l e (headSpec wsX10_digest ({ frames := 4, cells := 0, slots := 0, locals := 95 } : Room)).room s m ([.ref (am 0)] : List Value).toArray below meth c H locs 0 0 (MQ below (va_Ql (fun (r : Int64) (u : St) => post r ∧ u = σ0) (wd_B D (mw am cI cJ cZ)) A) ([.ref (am 0)] : List Value).toArray s 0 0 A) (F0 m 74 ls []) := by
    intro K126 hK126 n
    induction n with
    | zero => intro v1 v3 H locs ls hw; exact hw.elim
    | succ n ih =>
      intro v1 v3 H locs ls hw hP hS hl
      rw [lpX10_digest_74] at hw
      refine lv_iload_n hx hb dX10_digest_74 rfl (lv_at hl 2 rfl) ?_
      refine lv_aload_n hx hb dX10_digest_75 rfl (lv_at hl 0 rfl) ?_
      refine va_get hx hb hts iX10 hown hK hP 0 (mw_q0 am cI cJ cZ σ0) rfl 11 (by decide) f103 (fun _ h9 => h9) rfl dX10_digest_76 ?_
      refine lv_icmp_ge (tgt := 126) hx hb dX10_digest_79 (by decide) (fun c9 => ?_) (fun c9 => ?_)
      · have hw := hw.1 c9
        exact hK126 _ _ _ _ hw hP hS (lv_sub hl [0, 1] rfl)
      · have hw := hw.2 c9
        refine lv_ldc2 hx hb hown k174 dX10_digest_82 ?_
        refine lv_ldc2 hx hb hown k174 dX10_digest_85 ?_
        refine lv_ldc2 hx hb hown k174 dX10_digest_88 ?_
        refine lv_lload_n hx hb dX10_digest_91 rfl (lv_at hl 1 rfl) ?_
        refine lv_lmul hx hb dX10_digest_92 ?_
        refine lv_aload_n hx hb dX10_digest_93 rfl (lv_at hl 0 rfl) ?_
        refine va_get hx hb hts iX10 hown hK hP 0 (mw_q0 am cI cJ cZ σ0) rfl 12 (by decide) f32 (fun _ h9 => h9) rfl dX10_digest_94 ?_
        refine lv_iload_n hx hb dX10_digest_97 rfl (lv_at hl 2 rfl) ?_
        obtain ⟨h9, hw⟩ := hw
        refine va_iald hx hb hK hP 5 0 (mw_q5 am cI cJ cZ σ0) rfl h9 dX10_digest_98 ?_
        refine lv_i2l hx hb dX10_digest_99 rfl ?_
        refine lv_ladd hx hb dX10_digest_100 ?_
        refine lv_lmul hx hb dX10_digest_101 ?_
        refine lv_aload_n hx hb dX10_digest_102 rfl (lv_at hl 0 rfl) ?_
        refine va_get hx hb hts iX10 hown hK hP 0 (mw_q0 am cI cJ cZ σ0) rfl 13 (by decide) f35 (fun _ h9 => h9) rfl dX10_digest_103 ?_
        refine lv_iload_n hx hb dX10_digest_106 rfl (lv_at hl 2 rfl) ?_
        obtain ⟨h9, hw⟩ := hw
        refine va_iald hx hb hK hP 6 0 (mw_q6 am cI cJ cZ σ0) rfl h9 dX10_digest_107 ?_
        refine lv_i2l hx hb dX10_digest_108 rfl ?_
        refine lv_ladd hx hb dX10_digest_109 ?_
        refine lv_lmul hx hb dX10_digest_110 ?_
        refine lv_aload_n hx hb dX10_digest_111 rfl (lv_at hl 0 rfl) ?_
        refine va_get hx hb hts iX10 hown hK hP 0 (mw_q0 am cI cJ cZ σ0) rfl 14 (by decide) f38 (fun _ h9 => h9) rfl dX10_digest_112 ?_
        refine lv_iload_n hx hb dX10_digest_115 rfl (lv_at hl 2 rfl) ?_
        obtain ⟨h9, hw⟩ := hw
        refine va_iald hx hb hK hP 7 0 (mw_q7 am cI cJ cZ σ0) rfl h9 dX10_digest_116 ?_
        refine lv_i2l hx hb dX10_digest_117 rfl ?_
        refine lv_ladd hx hb dX10_digest_118 ?_
        refine lv_topl (fun x9 ex9 => ?_)
        have hw := hw x9 ex9
        refine lv_lstore_n (lv' := [(1, .long x9), (0, .ref (am 0)), (3, .int v3)]) hx hb dX10_digest_119 rfl hl (by decide) rfl (fun ls hl => ?_)
        obtain ⟨x10, ex10⟩ : ∃ z : Int32, z = v3 + (1 : Int32) := ⟨_, rfl⟩
        refine lv_iinc (v := x10) (lv' := [(3, .int x10), (1, .long x9), (0, .ref (am 0))]) hx hb dX10_digest_120 hl (k := 2) rfl (by rw [ex10]; rfl) (by decide) rfl (fun ls hl => ?_)
        have hw := hw x10 ex10
        refine lv_goto (tgt := 74) hx hb dX10_digest_123 (by decide) ?_
        exact ih _ _ _ _ _ hw hP hS (lv_sub hl [2, 1, 0] rfl)
  have L128 : ∀ (K154 : Int64 → Prop) (_ : ∀ (v1 : Int64) (H : Heap) (locs : List Loc) (ls : Array Slot), K154 v1 → va_P D vwCl (mw am cI cJ cZ σ0) H → va_S A s.heap H locs → lv_has ls 5 [(0, .ref (am 0)), (1, .long v1)] → W p l e (headSpec wsX10_digest ({ frames := 4, cells := 0, slots := 0, locals := 95 } : Room)).room s m ([.ref (am 0)] : List Value).toArray below meth c H locs 0 0 (MQ below (va_Ql (fun (r : Int64) (u : St) => post r ∧ u = σ0) (wd_B D (mw am cI cJ cZ)) A) ([.ref (am 0)] : List Value).toArray s 0 0 A) (F0 m 154 ls [])) (n : Nat) (v1 : Int64) (v3 : Int32) (H : Heap) (locs : List Loc) (ls : Array Slot), lpX10_digest_128 σ0 K154 n v1 v3 → va_P D vwCl (mw am cI cJ cZ σ0) H → va_S A s.heap H locs → lv_has ls 5 [(0, .ref (am 0)), (1, .long v1), (3, .int v3)] → W p l e (headSpec wsX10_digest ({ frames := 4, cells := 0, slots := 0, locals := 95 } : Room)).room s m ([.ref (am 0)] : List Value).toArray below meth c H locs 0 0 (MQ below (va_Ql (fun (r : Int64) (u : St) => post r ∧ u = σ0) (wd_B D (mw am cI cJ cZ)) A) ([.ref (am 0)] : List Value).toArray s 0 0 A) (F0 m 128 ls []) := by
    intro K154 hK154 n
    induction n with
    | zero => intro v1 v3 H locs ls hw; exact hw.elim
    | succ n ih =>
      intro v1 v3 H locs ls hw hP hS hl
      rw [lpX10_digest_128] at hw
      refine lv_iload_n hx hb dX10_digest_128 rfl (lv_at hl 2 rfl) ?_
      refine lv_bipush (v := 12) hx hb dX10_digest_129 (by decide) ?_
      refine lv_icmp_ge (tgt := 154) hx hb dX10_digest_131 (by decide) (fun c9 => ?_) (fun c9 => ?_)
      · have hw := hw.1 c9
        exact hK154 _ _ _ _ hw hP hS (lv_sub hl [0, 1] rfl)
      · have hw := hw.2 c9
        refine lv_ldc2 hx hb hown k174 dX10_digest_134 ?_
        refine lv_lload_n hx hb dX10_digest_137 rfl (lv_at hl 1 rfl) ?_
        refine lv_lmul hx hb dX10_digest_138 ?_
        refine lv_aload_n hx hb dX10_digest_139 rfl (lv_at hl 0 rfl) ?_
        refine va_get hx hb hts iX10 hown hK hP 0 (mw_q0 am cI cJ cZ σ0) rfl 26 (by decide) f63 (fun _ h9 => h9) rfl dX10_digest_140 ?_
        refine lv_iload_n hx hb dX10_digest_143 rfl (lv_at hl 2 rfl) ?_
        obtain ⟨h9, hw⟩ := hw
        refine va_iald hx hb hK hP 15 0 (mw_q15 am cI cJ cZ σ0) rfl h9 dX10_digest_144 ?_
        refine lv_i2l hx hb dX10_digest_145 rfl ?_
        refine lv_ladd hx hb dX10_digest_146 ?_
        refine lv_topl (fun x12 ex12 => ?_)
        have hw := hw x12 ex12
        refine lv_lstore_n (lv' := [(1, .long x12), (0, .ref (am 0)), (3, .int v3)]) hx hb dX10_digest_147 rfl hl (by decide) rfl (fun ls hl => ?_)
        obtain ⟨x13, ex13⟩ : ∃ z : Int32, z = v3 + (1 : Int32) := ⟨_, rfl⟩
        refine lv_iinc (v := x13) (lv' := [(3, .int x13), (1, .long x12), (0, .ref (am 0))]) hx hb dX10_digest_148 hl (k := 2) rfl (by rw [ex13]; rfl) (by decide) rfl (fun ls hl => ?_)
        have hw := hw x13 ex13
        refine lv_goto (tgt := 128) hx hb dX10_digest_151 (by decide) ?_
        exact ih _ _ _ _ _ hw hP hS (lv_sub hl [2, 1, 0] rfl)
  have L191 : ∀ (u3 : Int32) (K228 : Int64 → Prop) (_ : ∀ (v1 : Int64) (H : Heap) (locs : List Loc) (ls : Array Slot), K228 v1 → va_P D vwCl (mw am cI cJ cZ σ0) H → va_S A s.heap H locs → lv_has ls 5 [(0, .ref (am 0)), (3, .int u3), (1, .long v1)] → W p l e (headSpec wsX10_digest ({ frames := 4, cells := 0, slots := 0, locals := 95 } : Room)).room s m ([.ref (am 0)] : List Value).toArray below meth c H locs 0 0 (MQ below (va_Ql (fun (r : Int64) (u : St) => post r ∧ u = σ0) (wd_B D (mw am cI cJ cZ)) A) ([.ref (am 0)] : List Value).toArray s 0 0 A) (F0 m 228 ls [])) (n : Nat) (v1 : Int64) (v4 : Int32) (H : Heap) (locs : List Loc) (ls : Array Slot), lpX10_digest_191 u3 σ0 K228 n v1 v4 → va_P D vwCl (mw am cI cJ cZ σ0) H → va_S A s.heap H locs → lv_has ls 5 [(0, .ref (am 0)), (3, .int u3), (1, .long v1), (4, .int v4)] → W p l e (headSpec wsX10_digest ({ frames := 4, cells := 0, slots := 0, locals := 95 } : Room)).room s m ([.ref (am 0)] : List Value).toArray below meth c H locs 0 0 (MQ below (va_Ql (fun (r : Int64) (u : St) => post r ∧ u = σ0) (wd_B D (mw am cI cJ cZ)) A) ([.ref (am 0)] : List Value).toArray s 0 0 A) (F0 m 191 ls []) := by
    intro u3 K228 hK228 n
    induction n with
    | zero => intro v1 v4 H locs ls hw; exact hw.elim
    | succ n ih =>
      intro v1 v4 H locs ls hw hP hS hl
      rw [lpX10_digest_191] at hw
      refine lv_iload hx hb dX10_digest_191 (lv_at hl 3 rfl) ?_
      refine lv_aload_n hx hb dX10_digest_193 rfl (lv_at hl 0 rfl) ?_
      refine va_get hx hb hts iX10 hown hK hP 0 (mw_q0 am cI cJ cZ σ0) rfl 29 (by decide) f72 (fun _ h9 => h9) rfl dX10_digest_194 ?_
      refine lv_iload_n hx hb dX10_digest_197 rfl (lv_at hl 1 rfl) ?_
      obtain ⟨h9, hw⟩ := hw
      refine va_iald hx hb hK hP 17 0 (mw_q17 am cI cJ cZ σ0) rfl h9 dX10_digest_198 ?_
      refine lv_icmp_ge (tgt := 228) hx hb dX10_digest_199 (by decide) (fun c9 => ?_) (fun c9 => ?_)
      · have hw := hw.1 c9
        exact hK228 _ _ _ _ hw hP hS (lv_sub hl [0, 1, 2] rfl)
      · have hw := hw.2 c9
        refine lv_ldc2 hx hb hown k174 dX10_digest_202 ?_
        refine lv_lload_n hx hb dX10_digest_205 rfl (lv_at hl 2 rfl) ?_
        refine lv_lmul hx hb dX10_digest_206 ?_
        refine lv_aload_n hx hb dX10_digest_207 rfl (lv_at hl 0 rfl) ?_
        refine va_get hx hb hts iX10 hown hK hP 0 (mw_q0 am cI cJ cZ σ0) rfl 30 (by decide) f75 (fun _ h9 => h9) rfl dX10_digest_208 ?_
        refine lv_bipush (v := 10) hx hb dX10_digest_211 (by decide) ?_
        refine lv_iload_n hx hb dX10_digest_213 rfl (lv_at hl 1 rfl) ?_
        refine lv_imul hx hb dX10_digest_214 ?_
        refine lv_iload hx hb dX10_digest_215 (lv_at hl 3 rfl) ?_
        refine lv_iadd hx hb dX10_digest_217 ?_
        obtain ⟨h9, hw⟩ := hw
        refine va_iald hx hb hK hP 18 0 (mw_q18 am cI cJ cZ σ0) rfl h9 dX10_digest_218 ?_
        refine lv_i2l hx hb dX10_digest_219 rfl ?_
        refine lv_ladd hx hb dX10_digest_220 ?_
        refine lv_topl (fun x16 ex16 => ?_)
        have hw := hw x16 ex16
        refine lv_lstore_n (lv' := [(1, .long x16), (0, .ref (am 0)), (3, .int u3), (4, .int v4)]) hx hb dX10_digest_221 rfl hl (by decide) rfl (fun ls hl => ?_)
        obtain ⟨x17, ex17⟩ : ∃ z : Int32, z = v4 + (1 : Int32) := ⟨_, rfl⟩
        refine lv_iinc (v := x17) (lv' := [(4, .int x17), (1, .long x16), (0, .ref (am 0)), (3, .int u3)]) hx hb dX10_digest_222 hl (k := 3) rfl (by rw [ex17]; rfl) (by decide) rfl (fun ls hl => ?_)
        have hw := hw x17 ex17
        refine lv_goto (tgt := 191) hx hb dX10_digest_225 (by decide) ?_
        exact ih _ _ _ _ _ hw hP hS (lv_sub hl [2, 3, 1, 0] rfl)
  have L156 : ∀ (K234 : Int64 → Prop) (_ : ∀ (v1 : Int64) (H : Heap) (locs : List Loc) (ls : Array Slot), K234 v1 → va_P D vwCl (mw am cI cJ cZ σ0) H → va_S A s.heap H locs → lv_has ls 5 [(0, .ref (am 0)), (1, .long v1)] → W p l e (headSpec wsX10_digest ({ frames := 4, cells := 0, slots := 0, locals := 95 } : Room)).room s m ([.ref (am 0)] : List Value).toArray below meth c H locs 0 0 (MQ below (va_Ql (fun (r : Int64) (u : St) => post r ∧ u = σ0) (wd_B D (mw am cI cJ cZ)) A) ([.ref (am 0)] : List Value).toArray s 0 0 A) (F0 m 234 ls [])) (n : Nat) (v1 : Int64) (v3 : Int32) (H : Heap) (locs : List Loc) (ls : Array Slot), lpX10_digest_156 σ0 K234 n v1 v3 → va_P D vwCl (mw am cI cJ cZ σ0) H → va_S A s.heap H locs → lv_has ls 5 [(0, .ref (am 0)), (1, .long v1), (3, .int v3)] → W p l e (headSpec wsX10_digest ({ frames := 4, cells := 0, slots := 0, locals := 95 } : Room)).room s m ([.ref (am 0)] : List Value).toArray below meth c H locs 0 0 (MQ below (va_Ql (fun (r : Int64) (u : St) => post r ∧ u = σ0) (wd_B D (mw am cI cJ cZ)) A) ([.ref (am 0)] : List Value).toArray s 0 0 A) (F0 m 156 ls []) := by
    intro K234 hK234 n
    induction n with
    | zero => intro v1 v3 H locs ls hw; exact hw.elim
    | succ n ih =>
      intro v1 v3 H locs ls hw hP hS hl
      rw [lpX10_digest_156] at hw
      refine lv_iload_n hx hb dX10_digest_156 rfl (lv_at hl 2 rfl) ?_
      refine lv_iconst (v := 4) hx hb dX10_digest_157 (by decide) ?_
      refine lv_icmp_ge (tgt := 234) hx hb dX10_digest_158 (by decide) (fun c9 => ?_) (fun c9 => ?_)
      · have hw := hw.1 c9
        exact hK234 _ _ _ _ hw hP hS (lv_sub hl [0, 1] rfl)
      · have hw := hw.2 c9
        refine lv_ldc2 hx hb hown k174 dX10_digest_161 ?_
        refine lv_lload_n hx hb dX10_digest_164 rfl (lv_at hl 1 rfl) ?_
        refine lv_lmul hx hb dX10_digest_165 ?_
        refine lv_aload_n hx hb dX10_digest_166 rfl (lv_at hl 0 rfl) ?_
        refine va_get hx hb hts iX10 hown hK hP 0 (mw_q0 am cI cJ cZ σ0) rfl 29 (by decide) f72 (fun _ h9 => h9) rfl dX10_digest_167 ?_
        refine lv_iload_n hx hb dX10_digest_170 rfl (lv_at hl 2 rfl) ?_
        obtain ⟨h9, hw⟩ := hw
        refine va_iald hx hb hK hP 17 0 (mw_q17 am cI cJ cZ σ0) rfl h9 dX10_digest_171 ?_
        refine lv_if_ge (tgt := 179) hx hb dX10_digest_172 (by decide) (fun c9 => ?_) (fun c9 => ?_)
        · have hw := hw.1 c9
          refine lv_aload_n hx hb dX10_digest_179 rfl (lv_at hl 0 rfl) ?_
          refine va_get hx hb hts iX10 hown hK hP 0 (mw_q0 am cI cJ cZ σ0) rfl 29 (by decide) f72 (fun _ h9 => h9) rfl dX10_digest_180 ?_
          refine lv_iload_n hx hb dX10_digest_183 rfl (lv_at hl 2 rfl) ?_
          obtain ⟨h9, hw⟩ := hw
          refine va_iald hx hb hK hP 17 0 (mw_q17 am cI cJ cZ σ0) rfl h9 dX10_digest_184 ?_
          refine lv_i2l hx hb dX10_digest_185 rfl ?_
          refine lv_ladd hx hb dX10_digest_186 ?_
          refine lv_topl (fun x15 ex15 => ?_)
          have hw := hw x15 ex15
          refine lv_lstore_n (lv' := [(1, .long x15), (0, .ref (am 0)), (3, .int v3)]) hx hb dX10_digest_187 rfl hl (by decide) rfl (fun ls hl => ?_)
          refine lv_iconst (v := 0) hx hb dX10_digest_188 (by decide) ?_
          refine lv_istore (lv' := [(4, .int (0 : Int32)), (1, .long x15), (0, .ref (am 0)), (3, .int v3)]) hx hb dX10_digest_189 hl (by decide) rfl (fun ls hl => ?_)
          obtain ⟨n9, hw⟩ := hw
          refine L191 v3 _ ?_ n9 x15 (0 : Int32) _ _ _ hw hP hS (lv_sub hl [2, 3, 1, 0] rfl)
          · intro y18 H locs ls hw hP hS hl
            try beta_reduce at hw
            obtain ⟨x19, ex19⟩ : ∃ z : Int32, z = v3 + (1 : Int32) := ⟨_, rfl⟩
            refine lv_iinc (v := x19) (lv' := [(3, .int x19), (0, .ref (am 0)), (1, .long y18)]) hx hb dX10_digest_228 hl (k := 1) rfl (by rw [ex19]; rfl) (by decide) rfl (fun ls hl => ?_)
            have hw := hw x19 ex19
            refine lv_goto (tgt := 156) hx hb dX10_digest_231 (by decide) ?_
            exact ih _ _ _ _ _ hw hP hS (lv_sub hl [1, 2, 0] rfl)
        · have hw := hw.2 c9
          refine lv_iconst (v := -1) hx hb dX10_digest_175 (by decide) ?_
          refine lv_goto (tgt := 185) hx hb dX10_digest_176 (by decide) ?_
          refine lv_i2l hx hb dX10_digest_185 rfl ?_
          refine lv_ladd hx hb dX10_digest_186 ?_
          refine lv_topl (fun x21 ex21 => ?_)
          have hw := hw x21 ex21
          refine lv_lstore_n (lv' := [(1, .long x21), (0, .ref (am 0)), (3, .int v3)]) hx hb dX10_digest_187 rfl hl (by decide) rfl (fun ls hl => ?_)
          refine lv_iconst (v := 0) hx hb dX10_digest_188 (by decide) ?_
          refine lv_istore (lv' := [(4, .int (0 : Int32)), (1, .long x21), (0, .ref (am 0)), (3, .int v3)]) hx hb dX10_digest_189 hl (by decide) rfl (fun ls hl => ?_)
          obtain ⟨n9, hw⟩ := hw
          refine L191 v3 _ ?_ n9 x21 (0 : Int32) _ _ _ hw hP hS (lv_sub hl [2, 3, 1, 0] rfl)
          · intro y22 H locs ls hw hP hS hl
            try beta_reduce at hw
            obtain ⟨x23, ex23⟩ : ∃ z : Int32, z = v3 + (1 : Int32) := ⟨_, rfl⟩
            refine lv_iinc (v := x23) (lv' := [(3, .int x23), (0, .ref (am 0)), (1, .long y22)]) hx hb dX10_digest_228 hl (k := 1) rfl (by rw [ex23]; rfl) (by decide) rfl (fun ls hl => ?_)
            have hw := hw x23 ex23
            refine lv_goto (tgt := 156) hx hb dX10_digest_231 (by decide) ?_
            exact ih _ _ _ _ _ hw hP hS (lv_sub hl [1, 2, 0] rfl)
  have hl := lv_entry ([.ref (am 0)]) (n := 5) (Nat.le_of_ble_eq_true rfl)
  rw [lg_entry_eq]
  generalize (lg_sl ([.ref (am 0)]) ++ List.replicate (5 - (lg_sl ([.ref (am 0)])).length) Slot.unset).toArray = ls at hl ⊢
  have hl : lv_has ls 5 [(0, .ref (am 0))] := hl
  unfold wX10_digest at hw
  refine lv_ldc2 hx hb hown k172 dX10_digest_0 ?_
  refine lv_lstore_n (lv' := [(1, .long (17 : Int64)), (0, .ref (am 0))]) hx hb dX10_digest_3 rfl hl (by decide) rfl (fun ls hl => ?_)
  refine lv_iconst (v := 0) hx hb dX10_digest_4 (by decide) ?_
  refine lv_istore_n (lv' := [(3, .int (0 : Int32)), (1, .long (17 : Int64)), (0, .ref (am 0))]) hx hb dX10_digest_5 rfl hl (by decide) rfl (fun ls hl => ?_)
  obtain ⟨n9, hw⟩ := hw
  refine L6 _ ?_ n9 (17 : Int64) (0 : Int32) _ _ _ hw hP hS (lv_sub hl [2, 1, 0] rfl)
  · intro y7 H locs ls hw hP hS hl
    try beta_reduce at hw
    refine lv_ldc2 hx hb hown k174 dX10_digest_50 ?_
    refine lv_ldc2 hx hb hown k174 dX10_digest_53 ?_
    refine lv_lload_n hx hb dX10_digest_56 rfl (lv_at hl 1 rfl) ?_
    refine lv_lmul hx hb dX10_digest_57 ?_
    refine lv_aload_n hx hb dX10_digest_58 rfl (lv_at hl 0 rfl) ?_
    refine va_get hx hb hts iX10 hown hK hP 0 (mw_q0 am cI cJ cZ σ0) rfl 6 (by decide) f109 (fun _ h9 => h9) rfl dX10_digest_59 ?_
    refine lv_i2l hx hb dX10_digest_62 rfl ?_
    refine lv_ladd hx hb dX10_digest_63 ?_
    refine lv_lmul hx hb dX10_digest_64 ?_
    refine lv_aload_n hx hb dX10_digest_65 rfl (lv_at hl 0 rfl) ?_
    refine va_get hx hb hts iX10 hown hK hP 0 (mw_q0 am cI cJ cZ σ0) rfl 10 (by decide) f106 (fun _ h9 => h9) rfl dX10_digest_66 ?_
    refine lv_i2l hx hb dX10_digest_69 rfl ?_
    refine lv_ladd hx hb dX10_digest_70 ?_
    refine lv_topl (fun x8 ex8 => ?_)
    have hw := hw x8 ex8
    refine lv_lstore_n (lv' := [(1, .long x8), (0, .ref (am 0))]) hx hb dX10_digest_71 rfl hl (by decide) rfl (fun ls hl => ?_)
    refine lv_iconst (v := 0) hx hb dX10_digest_72 (by decide) ?_
    refine lv_istore_n (lv' := [(3, .int (0 : Int32)), (1, .long x8), (0, .ref (am 0))]) hx hb dX10_digest_73 rfl hl (by decide) rfl (fun ls hl => ?_)
    obtain ⟨n9, hw⟩ := hw
    refine L74 _ ?_ n9 x8 (0 : Int32) _ _ _ hw hP hS (lv_sub hl [2, 1, 0] rfl)
    · intro y11 H locs ls hw hP hS hl
      try beta_reduce at hw
      refine lv_iconst (v := 0) hx hb dX10_digest_126 (by decide) ?_
      refine lv_istore_n (lv' := [(3, .int (0 : Int32)), (0, .ref (am 0)), (1, .long y11)]) hx hb dX10_digest_127 rfl hl (by decide) rfl (fun ls hl => ?_)
      obtain ⟨n9, hw⟩ := hw
      refine L128 _ ?_ n9 y11 (0 : Int32) _ _ _ hw hP hS (lv_sub hl [1, 2, 0] rfl)
      · intro y14 H locs ls hw hP hS hl
        try beta_reduce at hw
        refine lv_iconst (v := 0) hx hb dX10_digest_154 (by decide) ?_
        refine lv_istore_n (lv' := [(3, .int (0 : Int32)), (0, .ref (am 0)), (1, .long y14)]) hx hb dX10_digest_155 rfl hl (by decide) rfl (fun ls hl => ?_)
        obtain ⟨n9, hw⟩ := hw
        refine L156 _ ?_ n9 y14 (0 : Int32) _ _ _ hw hP hS (lv_sub hl [1, 2, 0] rfl)
        · intro y25 H locs ls hw hP hS hl
          try beta_reduce at hw
          refine lv_lload_n hx hb dX10_digest_234 rfl (lv_at hl 1 rfl) ?_
          exact wd_lret hx hb hr hlocks ⟨hw, rfl⟩ hP hS dX10_digest_235
