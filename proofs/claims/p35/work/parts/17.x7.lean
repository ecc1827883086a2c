/-! X9_digest -/
def lpX9_digest_37 (σ : St) (K105 : Int64 → Prop) : Nat → Int64 → Int32 → Prop
  | 0, _, _ => False
  | n + 1, v1, v3 => ((σ.1 7) ≤ v3 → (K105 v1)) ∧ (¬ (σ.1 7) ≤ v3 → (vp_in v3 400 ∧ (∀ x5 : Int64, x5 = (((31 : Int64) * v1) + ((σ.2.1 6 v3.toNatClampNeg).toInt64)) → (vp_in v3 400 ∧ (∀ x6 : Int64, x6 = (((31 : Int64) * x5) + ((σ.2.1 7 v3.toNatClampNeg).toInt64)) → (vp_in v3 400 ∧ (∀ x7 : Int64, x7 = (((31 : Int64) * x6) + ((σ.2.1 8 v3.toNatClampNeg).toInt64)) → (∀ x8 : Int32, x8 = v3 + (1 : Int32) → (lpX9_digest_37 σ K105 n x7 x8)))))))))
def lpX9_digest_107 (σ : St) (K136 : Int64 → Prop) : Nat → Int64 → Int32 → Prop
  | 0, _, _ => False
  | n + 1, v1, v3 => ((12 : Int32) ≤ v3 → (K136 v1)) ∧ (¬ (12 : Int32) ≤ v3 → (vp_in v3 12 ∧ (∀ x10 : Int64, x10 = (((31 : Int64) * v1) + ((σ.2.1 17 v3.toNatClampNeg).toInt64)) → (∀ x11 : Int32, x11 = v3 + (1 : Int32) → (lpX9_digest_107 σ K136 n x10 x11)))))
def wX9_digest (σ0 : St) (post : Int64 → St → Prop) : Prop := wX9_digestOfPeople σ0 (17 : Int64) (fun (r1 : Int64) (σ2 : St) => ∀ x3 : Int64, x3 = (((31 : Int64) * r1) + ((σ2.1 0).toInt64)) → (∀ x4 : Int64, x4 = (((31 : Int64) * x3) + ((σ2.1 2).toInt64)) → (∃ n15 : Nat, lpX9_digest_37 σ2 (fun (y9 : Int64) => ∃ n14 : Nat, lpX9_digest_107 σ2 (fun (y12 : Int64) => wX9_digestOfSheets σ2 y12 (fun (r13 : Int64) => post r13 σ2)) n14 y9 (0 : Int32)) n15 x4 (0 : Int32))))
set_option maxHeartbeats 4000000 in
set_option maxRecDepth 100000 in
theorem mtX9_digest (l : Launch) (D : va_G) (ad : Nat → Nat) (cI cJ cZ : ClassId) (A : Nat → Prop) (hD : ∀ σ : St, va_D A (xw ad cI cJ cZ σ)) (σ0 : St) (post : Int64 → St → Prop) (hw : wX9_digest σ0 post) : Met l yX9_digest wsX9_digest ({ frames := 5, cells := 0, slots := 0, locals := 116 } : Room) (va_Pc [.ref (ad 0)] (wd_pre D (xw ad cI cJ cZ) (wd_tys cI cJ cZ) σ0)) (va_Ql post (wd_B D (xw ad cI cJ cZ)) A) 0 0 A := by
  refine Met.ofW (cc := cX9_digest) (maxL := 4) (ret := (some .long)) (by decide) rfl ?_
  intro p e s m args below meth c s₁ B hml hv
  obtain ⟨rfl, hP, hK, hN⟩ := hv
  have hx := B.exec
  have hb := B.bytes
  have hr := B.returns
  have hts := atoms_spec (ws := wsX9_digest) B.pre
  have hown : s.vm.findClass RX9 = some m.cls := findClass_of_methodNamed B.named
  have hlocks := B.notSynchronized
  have hS : va_S A s.heap s.heap [] := va_S.rf
  have k275 := hts (.constantLong RX9 275 (17)) (by decide +kernel)
  have k281 := hts (.constantLong RX9 281 (31)) (by decide +kernel)
  have f79 := hts (.fieldLink RX9 79 "LeastRights" "standbyRights" "I") (by decide +kernel)
  have iX9 : ∀ w ∈ wsX90, w ∈ wsX9_digest := by decide +kernel
  have f10 := hts (.fieldLink RX9 10 "LeastRights" "days" "LLeastRights$Days;") (by decide +kernel)
  have n134 := va_Nw.use (A := ([.ref (ad 0)] : List Value).toArray) rfl (hN.1 ("LeastRights", 134, "LeastRights$Days", "present", "I") (by decide +kernel))
  have iX2 : ∀ w ∈ wsX20, w ∈ wsX9_digest := by decide +kernel
  have f26 := hts (.fieldLink RX9 26 "LeastRights" "log" "LLeastRights$UseLog;") (by decide +kernel)
  have n140 := va_Nw.use (A := ([.ref (ad 0)] : List Value).toArray) rfl (hN.1 ("LeastRights", 140, "LeastRights$UseLog", "size", "I") (by decide +kernel))
  have iX8 : ∀ w ∈ wsX80, w ∈ wsX9_digest := by decide +kernel
  have n227 := va_Nw.use (A := ([.ref (ad 0)] : List Value).toArray) rfl (hN.1 ("LeastRights", 227, "LeastRights$UseLog", "who", "[I") (by decide +kernel))
  have n230 := va_Nw.use (A := ([.ref (ad 0)] : List Value).toArray) rfl (hN.1 ("LeastRights", 230, "LeastRights$UseLog", "which", "[I") (by decide +kernel))
  have n233 := va_Nw.use (A := ([.ref (ad 0)] : List Value).toArray) rfl (hN.1 ("LeastRights", 233, "LeastRights$UseLog", "when", "[I") (by decide +kernel))
  have f47 := hts (.fieldLink RX9 47 "LeastRights" "bans" "LLeastRights$Bans;") (by decide +kernel)
  have n266 := va_Nw.use (A := ([.ref (ad 0)] : List Value).toArray) rfl (hN.1 ("LeastRights", 266, "LeastRights$Bans", "with", "[I") (by decide +kernel))
  have iX0 : ∀ w ∈ wsX00, w ∈ wsX9_digest := by decide +kernel
  have L37 : ∀ (σ : St) (K105 : Int64 → Prop) (_ : ∀ (v1 : Int64) (H : Heap) (locs : List Loc) (ls : Array Slot), K105 v1 → va_P D vwCl (xw ad cI cJ cZ σ) H → va_S A s.heap H locs → lv_has ls 4 [(0, .ref (ad 0)), (1, .long v1)] → W p l e (headSpec wsX9_digest ({ frames := 5, cells := 0, slots := 0, locals := 116 } : Room)).room s m ([.ref (ad 0)] : List Value).toArray below meth c H locs 0 0 (MQ below (va_Ql post (wd_B D (xw ad cI cJ cZ)) A) ([.ref (ad 0)] : List Value).toArray s 0 0 A) (F0 m 105 ls [])) (n : Nat) (v1 : Int64) (v3 : Int32) (H : Heap) (locs : List Loc) (ls : Array Slot), lpX9_digest_37 σ K105 n v1 v3 → va_P D vwCl (xw ad cI cJ cZ σ) H → va_S A s.heap H locs → lv_has ls 4 [(0, .ref (ad 0)), (1, .long v1), (3, .int v3)] → W p l e (headSpec wsX9_digest ({ frames := 5, cells := 0, slots := 0, locals := 116 } : Room)).room s m ([.ref (ad 0)] : List Value).toArray below meth c H locs 0 0 (MQ below (va_Ql post (wd_B D (xw ad cI cJ cZ)) A) ([.ref (ad 0)] : List Value).toArray s 0 0 A) (F0 m 37 ls []) := by
    intro σ K105 hK105 n
    induction n with
    | zero => intro v1 v3 H locs ls hw; exact hw.elim
    | succ n ih =>
      intro v1 v3 H locs ls hw hP hS hl
      rw [lpX9_digest_37] at hw
      refine lv_iload_n hx hb dX9_digest_37 rfl (lv_at hl 2 rfl) ?_
      refine lv_aload_n hx hb dX9_digest_38 rfl (lv_at hl 0 rfl) ?_
      refine va_get hx hb hts iX9 hown hK hP 0 (xw_q0 ad cI cJ cZ σ) rfl 2 (by decide) f26 (fun _ h9 => h9) rfl dX9_digest_39 ?_
      refine va_getN hx hb hts iX8 hown hK hP 3 (xw_q3 ad cI cJ cZ σ) rfl 0 (by decide) n140 (fun _ h9 => h9) rfl dX9_digest_42 ?_
      refine lv_icmp_ge (tgt := 105) hx hb dX9_digest_45 (by decide) (fun c9 => ?_) (fun c9 => ?_)
      · have hw := hw.1 c9
        exact hK105 _ _ _ _ hw hP hS (lv_sub hl [0, 1] rfl)
      · have hw := hw.2 c9
        refine lv_ldc2 hx hb hown k281 dX9_digest_48 ?_
        refine lv_lload_n hx hb dX9_digest_51 rfl (lv_at hl 1 rfl) ?_
        refine lv_lmul hx hb dX9_digest_52 ?_
        refine lv_aload_n hx hb dX9_digest_53 rfl (lv_at hl 0 rfl) ?_
        refine va_get hx hb hts iX9 hown hK hP 0 (xw_q0 ad cI cJ cZ σ) rfl 2 (by decide) f26 (fun _ h9 => h9) rfl dX9_digest_54 ?_
        refine va_getN hx hb hts iX8 hown hK hP 3 (xw_q3 ad cI cJ cZ σ) rfl 1 (by decide) n227 (fun _ h9 => h9) rfl dX9_digest_57 ?_
        refine lv_iload_n hx hb dX9_digest_60 rfl (lv_at hl 2 rfl) ?_
        obtain ⟨h9, hw⟩ := hw
        refine va_iald hx hb hK hP 16 0 (xw_q16 ad cI cJ cZ σ) rfl h9 dX9_digest_61 ?_
        refine lv_i2l hx hb dX9_digest_62 rfl ?_
        refine lv_ladd hx hb dX9_digest_63 ?_
        refine lv_topl (fun x5 ex5 => ?_)
        have hw := hw x5 ex5
        refine lv_lstore_n (lv' := [(1, .long x5), (0, .ref (ad 0)), (3, .int v3)]) hx hb dX9_digest_64 rfl hl (by decide) rfl (fun ls hl => ?_)
        refine lv_ldc2 hx hb hown k281 dX9_digest_65 ?_
        refine lv_lload_n hx hb dX9_digest_68 rfl (lv_at hl 0 rfl) ?_
        refine lv_lmul hx hb dX9_digest_69 ?_
        refine lv_aload_n hx hb dX9_digest_70 rfl (lv_at hl 1 rfl) ?_
        refine va_get hx hb hts iX9 hown hK hP 0 (xw_q0 ad cI cJ cZ σ) rfl 2 (by decide) f26 (fun _ h9 => h9) rfl dX9_digest_71 ?_
        refine va_getN hx hb hts iX8 hown hK hP 3 (xw_q3 ad cI cJ cZ σ) rfl 2 (by decide) n230 (fun _ h9 => h9) rfl dX9_digest_74 ?_
        refine lv_iload_n hx hb dX9_digest_77 rfl (lv_at hl 2 rfl) ?_
        obtain ⟨h9, hw⟩ := hw
        refine va_iald hx hb hK hP 17 0 (xw_q17 ad cI cJ cZ σ) rfl h9 dX9_digest_78 ?_
        refine lv_i2l hx hb dX9_digest_79 rfl ?_
        refine lv_ladd hx hb dX9_digest_80 ?_
        refine lv_topl (fun x6 ex6 => ?_)
        have hw := hw x6 ex6
        refine lv_lstore_n (lv' := [(1, .long x6), (0, .ref (ad 0)), (3, .int v3)]) hx hb dX9_digest_81 rfl hl (by decide) rfl (fun ls hl => ?_)
        refine lv_ldc2 hx hb hown k281 dX9_digest_82 ?_
        refine lv_lload_n hx hb dX9_digest_85 rfl (lv_at hl 0 rfl) ?_
        refine lv_lmul hx hb dX9_digest_86 ?_
        refine lv_aload_n hx hb dX9_digest_87 rfl (lv_at hl 1 rfl) ?_
        refine va_get hx hb hts iX9 hown hK hP 0 (xw_q0 ad cI cJ cZ σ) rfl 2 (by decide) f26 (fun _ h9 => h9) rfl dX9_digest_88 ?_
        refine va_getN hx hb hts iX8 hown hK hP 3 (xw_q3 ad cI cJ cZ σ) rfl 3 (by decide) n233 (fun _ h9 => h9) rfl dX9_digest_91 ?_
        refine lv_iload_n hx hb dX9_digest_94 rfl (lv_at hl 2 rfl) ?_
        obtain ⟨h9, hw⟩ := hw
        refine va_iald hx hb hK hP 18 0 (xw_q18 ad cI cJ cZ σ) rfl h9 dX9_digest_95 ?_
        refine lv_i2l hx hb dX9_digest_96 rfl ?_
        refine lv_ladd hx hb dX9_digest_97 ?_
        refine lv_topl (fun x7 ex7 => ?_)
        have hw := hw x7 ex7
        refine lv_lstore_n (lv' := [(1, .long x7), (0, .ref (ad 0)), (3, .int v3)]) hx hb dX9_digest_98 rfl hl (by decide) rfl (fun ls hl => ?_)
        obtain ⟨x8, ex8⟩ : ∃ z : Int32, z = v3 + (1 : Int32) := ⟨_, rfl⟩
        refine lv_iinc (v := x8) (lv' := [(3, .int x8), (1, .long x7), (0, .ref (ad 0))]) hx hb dX9_digest_99 hl (k := 2) rfl (by rw [ex8]; rfl) (by decide) rfl (fun ls hl => ?_)
        have hw := hw x8 ex8
        refine lv_goto (tgt := 37) hx hb dX9_digest_102 (by decide) ?_
        exact ih _ _ _ _ _ hw hP hS (lv_sub hl [2, 1, 0] rfl)
  have L107 : ∀ (σ : St) (K136 : Int64 → Prop) (_ : ∀ (v1 : Int64) (H : Heap) (locs : List Loc) (ls : Array Slot), K136 v1 → va_P D vwCl (xw ad cI cJ cZ σ) H → va_S A s.heap H locs → lv_has ls 4 [(0, .ref (ad 0)), (1, .long v1)] → W p l e (headSpec wsX9_digest ({ frames := 5, cells := 0, slots := 0, locals := 116 } : Room)).room s m ([.ref (ad 0)] : List Value).toArray below meth c H locs 0 0 (MQ below (va_Ql post (wd_B D (xw ad cI cJ cZ)) A) ([.ref (ad 0)] : List Value).toArray s 0 0 A) (F0 m 136 ls [])) (n : Nat) (v1 : Int64) (v3 : Int32) (H : Heap) (locs : List Loc) (ls : Array Slot), lpX9_digest_107 σ K136 n v1 v3 → va_P D vwCl (xw ad cI cJ cZ σ) H → va_S A s.heap H locs → lv_has ls 4 [(0, .ref (ad 0)), (1, .long v1), (3, .int v3)] → W p l e (headSpec wsX9_digest ({ frames := 5, cells := 0, slots := 0, locals := 116 } : Room)).room s m ([.ref (ad 0)] : List Value).toArray below meth c H locs 0 0 (MQ below (va_Ql post (wd_B D (xw ad cI cJ cZ)) A) ([.ref (ad 0)] : List Value).toArray s 0 0 A) (F0 m 107 ls []) := by
    intro σ K136 hK136 n
    induction n with
    | zero => intro v1 v3 H locs ls hw; exact hw.elim
    | succ n ih =>
      intro v1 v3 H locs ls hw hP hS hl
      rw [lpX9_digest_107] at hw
      refine lv_iload_n hx hb dX9_digest_107 rfl (lv_at hl 2 rfl) ?_
      refine lv_bipush (v := 12) hx hb dX9_digest_108 (by decide) ?_
      refine lv_icmp_ge (tgt := 136) hx hb dX9_digest_110 (by decide) (fun c9 => ?_) (fun c9 => ?_)
      · have hw := hw.1 c9
        exact hK136 _ _ _ _ hw hP hS (lv_sub hl [0, 1] rfl)
      · have hw := hw.2 c9
        refine lv_ldc2 hx hb hown k281 dX9_digest_113 ?_
        refine lv_lload_n hx hb dX9_digest_116 rfl (lv_at hl 1 rfl) ?_
        refine lv_lmul hx hb dX9_digest_117 ?_
        refine lv_aload_n hx hb dX9_digest_118 rfl (lv_at hl 0 rfl) ?_
        refine va_get hx hb hts iX9 hown hK hP 0 (xw_q0 ad cI cJ cZ σ) rfl 5 (by decide) f47 (fun _ h9 => h9) rfl dX9_digest_119 ?_
        refine va_getN hx hb hts iX0 hown hK hP 6 (xw_q6 ad cI cJ cZ σ) rfl 0 (by decide) n266 (fun _ h9 => h9) rfl dX9_digest_122 ?_
        refine lv_iload_n hx hb dX9_digest_125 rfl (lv_at hl 2 rfl) ?_
        obtain ⟨h9, hw⟩ := hw
        refine va_iald hx hb hK hP 27 0 (xw_q27 ad cI cJ cZ σ) rfl h9 dX9_digest_126 ?_
        refine lv_i2l hx hb dX9_digest_127 rfl ?_
        refine lv_ladd hx hb dX9_digest_128 ?_
        refine lv_topl (fun x10 ex10 => ?_)
        have hw := hw x10 ex10
        refine lv_lstore_n (lv' := [(1, .long x10), (0, .ref (ad 0)), (3, .int v3)]) hx hb dX9_digest_129 rfl hl (by decide) rfl (fun ls hl => ?_)
        obtain ⟨x11, ex11⟩ : ∃ z : Int32, z = v3 + (1 : Int32) := ⟨_, rfl⟩
        refine lv_iinc (v := x11) (lv' := [(3, .int x11), (1, .long x10), (0, .ref (ad 0))]) hx hb dX9_digest_130 hl (k := 2) rfl (by rw [ex11]; rfl) (by decide) rfl (fun ls hl => ?_)
        have hw := hw x11 ex11
        refine lv_goto (tgt := 107) hx hb dX9_digest_133 (by decide) ?_
        exact ih _ _ _ _ _ hw hP hS (lv_sub hl [2, 1, 0] rfl)
  have hl := lv_entry ([.ref (ad 0)]) (n := 4) (Nat.le_of_ble_eq_true rfl)
  rw [lg_entry_eq]
  generalize (lg_sl ([.ref (ad 0)]) ++ List.replicate (4 - (lg_sl ([.ref (ad 0)])).length) Slot.unset).toArray = ls at hl ⊢
  have hl : lv_has ls 4 [(0, .ref (ad 0))] := hl
  unfold wX9_digest at hw
  refine lv_aload_n hx hb dX9_digest_0 rfl (lv_at hl 0 rfl) ?_
  refine lv_ldc2 hx hb hown k275 dX9_digest_1 ?_
  refine wd_cVl ⟨hx, hb, hml, hown, hts⟩ (mtX9_digestOfPeople l D ad cI cJ cZ A hD σ0 (17 : Int64) _ hw) (cwV 1 hts gX9_digest_X9_digestOfPeople rfl rfl rfl (by decide +kernel) ⟨(Nat.le_of_ble_eq_true rfl), (Nat.le_of_ble_eq_true rfl)⟩) (va_recv hK hP (ci := 9) (q0 := 0) rfl (xw_q0 ad cI cJ cZ σ0)) hK hN hP hS rfl hl.1 rfl (Nat.le_of_ble_eq_true rfl) dX9_digest_4 ⟨Nat.zero_le _, Nat.zero_le _⟩ (fun r1 σ2 H locs hw hP hS => ?_)
  refine lv_lstore_n (lv' := [(1, .long r1), (0, .ref (ad 0))]) hx hb dX9_digest_7 rfl hl (by decide) rfl (fun ls hl => ?_)
  refine lv_ldc2 hx hb hown k281 dX9_digest_8 ?_
  refine lv_lload_n hx hb dX9_digest_11 rfl (lv_at hl 0 rfl) ?_
  refine lv_lmul hx hb dX9_digest_12 ?_
  refine lv_aload_n hx hb dX9_digest_13 rfl (lv_at hl 1 rfl) ?_
  refine va_get hx hb hts iX9 hown hK hP 0 (xw_q0 ad cI cJ cZ σ2) rfl 11 (by decide) f79 (fun _ h9 => h9) rfl dX9_digest_14 ?_
  refine lv_i2l hx hb dX9_digest_17 rfl ?_
  refine lv_ladd hx hb dX9_digest_18 ?_
  refine lv_topl (fun x3 ex3 => ?_)
  have hw := hw x3 ex3
  refine lv_lstore_n (lv' := [(1, .long x3), (0, .ref (ad 0))]) hx hb dX9_digest_19 rfl hl (by decide) rfl (fun ls hl => ?_)
  refine lv_ldc2 hx hb hown k281 dX9_digest_20 ?_
  refine lv_lload_n hx hb dX9_digest_23 rfl (lv_at hl 0 rfl) ?_
  refine lv_lmul hx hb dX9_digest_24 ?_
  refine lv_aload_n hx hb dX9_digest_25 rfl (lv_at hl 1 rfl) ?_
  refine va_get hx hb hts iX9 hown hK hP 0 (xw_q0 ad cI cJ cZ σ2) rfl 0 (by decide) f10 (fun _ h9 => h9) rfl dX9_digest_26 ?_
  refine va_getN hx hb hts iX2 hown hK hP 1 (xw_q1 ad cI cJ cZ σ2) rfl 0 (by decide) n134 (fun _ h9 => h9) rfl dX9_digest_29 ?_
  refine lv_i2l hx hb dX9_digest_32 rfl ?_
  refine lv_ladd hx hb dX9_digest_33 ?_
  refine lv_topl (fun x4 ex4 => ?_)
  have hw := hw x4 ex4
  refine lv_lstore_n (lv' := [(1, .long x4), (0, .ref (ad 0))]) hx hb dX9_digest_34 rfl hl (by decide) rfl (fun ls hl => ?_)
  refine lv_iconst (v := 0) hx hb dX9_digest_35 (by decide) ?_
  refine lv_istore_n (lv' := [(3, .int (0 : Int32)), (1, .long x4), (0, .ref (ad 0))]) hx hb dX9_digest_36 rfl hl (by decide) rfl (fun ls hl => ?_)
  obtain ⟨n9, hw⟩ := hw
  refine L37 σ2 _ ?_ n9 x4 (0 : Int32) _ _ _ hw hP hS (lv_sub hl [2, 1, 0] rfl)
  · intro y9 H locs ls hw hP hS hl
    refine lv_iconst (v := 0) hx hb dX9_digest_105 (by decide) ?_
    refine lv_istore_n (lv' := [(3, .int (0 : Int32)), (0, .ref (ad 0)), (1, .long y9)]) hx hb dX9_digest_106 rfl hl (by decide) rfl (fun ls hl => ?_)
    obtain ⟨n9, hw⟩ := hw
    refine L107 σ2 _ ?_ n9 y9 (0 : Int32) _ _ _ hw hP hS (lv_sub hl [1, 2, 0] rfl)
    · intro y12 H locs ls hw hP hS hl
      refine lv_aload_n hx hb dX9_digest_136 rfl (lv_at hl 0 rfl) ?_
      refine lv_lload_n hx hb dX9_digest_137 rfl (lv_at hl 1 rfl) ?_
      refine wd_cVl ⟨hx, hb, hml, hown, hts⟩ (mtX9_digestOfSheets l D ad cI cJ cZ A hD σ2 y12 _ hw) (cwV 1 hts gX9_digest_X9_digestOfSheets rfl rfl rfl (by decide +kernel) ⟨(Nat.le_of_ble_eq_true rfl), (Nat.le_of_ble_eq_true rfl)⟩) (va_recv hK hP (ci := 9) (q0 := 0) rfl (xw_q0 ad cI cJ cZ σ2)) hK hN hP hS rfl hl.1 rfl (Nat.le_of_ble_eq_true rfl) dX9_digest_138 ⟨Nat.zero_le _, Nat.zero_le _⟩ (fun r13 u9 H locs hq hP hS => ?_)
      obtain ⟨hw, hu⟩ := hq
      rw [hu] at hP
      exact wd_lret hx hb hr hlocks hw hP hS dX9_digest_141
