def wL_20 (xs : Nat → Int32) (L : Nat) (v3 : Int32) (σ τ : St) (K : St → St → Prop) : Prop := wX9_breach σ (fun (r1 : Int32) => wX10_breach τ (fun (r2 : Int32) => K σ τ))
set_option maxHeartbeats 4000000 in
set_option maxRecDepth 100000 in
theorem lc_20 {p : Program} {e : Env} {s : State} {m : MethodId} {below : List Frame} {meth : Method} {c : Code} (l : Launch) {b L : Nat} {xs : Nat → Int32} (C0 : lw_At p s m meth c b L xs) {D : va_G} {ad am : Nat → Nat} {cI cJ cZ : ClassId} {Ax Am : Nat → Prop} (X0 : lw_cx s D ad am cI cJ cZ Ax Am) (v3 : Int32) (K : St → St → Prop) (hKx : ∀ (σ τ : St) (H : Heap) (locs : List Loc) (ls : Array Slot), K σ τ → va_P D vwCl (xw ad cI cJ cZ σ) H → va_P D vwCl (mw am cI cJ cZ τ) H → va_S (fun q : Nat => s.heap.size ≤ q) s.heap H locs → lv_has ls 4 [(0, .ref b), (1, .ref (ad 0)), (2, .ref (am 0)), (3, .int v3)] → W p l e room_1 s m #[Value.ref b] below meth c H locs 52 10198 (lw_Z below #[Value.ref b] s) (F0 m 1303 ls [])) (σ τ : St) (H : Heap) (locs : List Loc) (ls : Array Slot) (hw : wL_20 xs L v3 σ τ K) (hPx : va_P D vwCl (xw ad cI cJ cZ σ) H) (hPm : va_P D vwCl (mw am cI cJ cZ τ) H) (hS : va_S (fun q : Nat => s.heap.size ≤ q) s.heap H locs) (hl : lv_has ls 4 [(0, .ref b), (1, .ref (ad 0)), (2, .ref (am 0)), (3, .int v3)]) : W p l e room_1 s m #[Value.ref b] below meth c H locs 52 10198 (lw_Z below #[Value.ref b] s) (F0 m 810 ls []) := by
  obtain ⟨hx, hb, hr, hml, hown, hts, hX, hbl, hlocks, hgv⟩ := C0
  obtain ⟨hK, hN, hDx, hDm, hAx, hAm, hdx, hdm⟩ := X0
  have hbA : ¬ (fun q : Nat => s.heap.size ≤ q) b := Nat.not_le.mpr hbl
  unfold wL_20 at hw
  refine lv_aload_n hx hb dL_law_810 rfl (lv_at hl 1 rfl) ?_
  refine wd_lVi ⟨hx, hb, hml, hown, hts⟩ (mtX9_breach l D ad cI cJ cZ Ax hDx σ  _ hw) (cwV 0 hts gl_X9_breach rfl rfl rfl (by decide +kernel) ⟨(Nat.le_of_ble_eq_true rfl), (Nat.le_of_ble_eq_true rfl)⟩) (va_recv hK hPx (ci := 9) (q0 := 0) rfl (xw_q0 ad cI cJ cZ σ)) hK hN hPx hPm hS hAx (hdx τ) rfl hl.1 rfl (Nat.le_of_ble_eq_true rfl) dL_law_811 ⟨(Nat.le_of_ble_eq_true rfl), (Nat.le_of_ble_eq_true rfl)⟩ (fun r1 u9 H locs hq hPx hPm hS => ?_)
  obtain ⟨hw, hu⟩ := hq
  rw [hu] at hPx
  refine lv_pop hx hb dL_law_814 rfl ?_
  refine lv_aload_n hx hb dL_law_815 rfl (lv_at hl 2 rfl) ?_
  refine wd_lVi ⟨hx, hb, hml, hown, hts⟩ (mtX10_breach l D am cI cJ cZ Am hDm τ  _ hw) (cwV 0 hts gl_X10_breach rfl rfl rfl (by decide +kernel) ⟨(Nat.le_of_ble_eq_true rfl), (Nat.le_of_ble_eq_true rfl)⟩) (va_recv hK hPm (ci := 10) (q0 := 0) rfl (mw_q0 am cI cJ cZ τ)) hK hN hPm hPx hS hAm (hdm σ) rfl hl.1 rfl (Nat.le_of_ble_eq_true rfl) dL_law_816 ⟨(Nat.le_of_ble_eq_true rfl), (Nat.le_of_ble_eq_true rfl)⟩ (fun r2 u9 H locs hq hPm hPx hS => ?_)
  obtain ⟨hw, hu⟩ := hq
  rw [hu] at hPm
  refine lv_pop hx hb dL_law_819 rfl ?_
  refine lv_goto (tgt := 1303) hx hb dL_law_820 (by decide) ?_
  exact hKx _ _ _ _ _ hw hPx hPm hS hl

def wL_21 (xs : Nat → Int32) (L : Nat) (v3 : Int32) (σ τ : St) (K : St → St → Prop) : Prop := vp_in (v3 + (1 : Int32)) L ∧ (wX9_least σ (xs (v3 + (1 : Int32)).toNatClampNeg) (fun (r1 : Int32) => vp_in (v3 + (1 : Int32)) L ∧ (wX10_least τ (xs (v3 + (1 : Int32)).toNatClampNeg) (fun (r2 : Int32) => K σ τ))))
set_option maxHeartbeats 4000000 in
set_option maxRecDepth 100000 in
theorem lc_21 {p : Program} {e : Env} {s : State} {m : MethodId} {below : List Frame} {meth : Method} {c : Code} (l : Launch) {b L : Nat} {xs : Nat → Int32} (C0 : lw_At p s m meth c b L xs) {D : va_G} {ad am : Nat → Nat} {cI cJ cZ : ClassId} {Ax Am : Nat → Prop} (X0 : lw_cx s D ad am cI cJ cZ Ax Am) (v3 : Int32) (K : St → St → Prop) (hKx : ∀ (σ τ : St) (H : Heap) (locs : List Loc) (ls : Array Slot), K σ τ → va_P D vwCl (xw ad cI cJ cZ σ) H → va_P D vwCl (mw am cI cJ cZ τ) H → va_S (fun q : Nat => s.heap.size ≤ q) s.heap H locs → lv_has ls 4 [(0, .ref b), (1, .ref (ad 0)), (2, .ref (am 0)), (3, .int v3)] → W p l e room_1 s m #[Value.ref b] below meth c H locs 52 10198 (lw_Z below #[Value.ref b] s) (F0 m 1303 ls [])) (σ τ : St) (H : Heap) (locs : List Loc) (ls : Array Slot) (hw : wL_21 xs L v3 σ τ K) (hPx : va_P D vwCl (xw ad cI cJ cZ σ) H) (hPm : va_P D vwCl (mw am cI cJ cZ τ) H) (hS : va_S (fun q : Nat => s.heap.size ≤ q) s.heap H locs) (hl : lv_has ls 4 [(0, .ref b), (1, .ref (ad 0)), (2, .ref (am 0)), (3, .int v3)]) : W p l e room_1 s m #[Value.ref b] below meth c H locs 52 10198 (lw_Z below #[Value.ref b] s) (F0 m 823 ls []) := by
  obtain ⟨hx, hb, hr, hml, hown, hts, hX, hbl, hlocks, hgv⟩ := C0
  obtain ⟨hK, hN, hDx, hDm, hAx, hAm, hdx, hdm⟩ := X0
  have hbA : ¬ (fun q : Nat => s.heap.size ≤ q) b := Nat.not_le.mpr hbl
  unfold wL_21 at hw
  refine lv_aload_n hx hb dL_law_823 rfl (lv_at hl 1 rfl) ?_
  refine lv_aload_n hx hb dL_law_824 rfl (lv_at hl 0 rfl) ?_
  refine lv_iload_n hx hb dL_law_825 rfl (lv_at hl 3 rfl) ?_
  refine lv_iconst (v := 1) hx hb dL_law_826 (by decide) ?_
  refine lv_iadd hx hb dL_law_827 ?_
  obtain ⟨h9, hw⟩ := hw
  refine va_sld hx hb hX hbl hbA hS h9 dL_law_828 ?_
  refine wd_lVi ⟨hx, hb, hml, hown, hts⟩ (mtX9_least l D ad cI cJ cZ Ax hDx σ (xs (v3 + (1 : Int32)).toNatClampNeg) _ hw) (cwV 1 hts gl_X9_least rfl rfl rfl (by decide +kernel) ⟨(Nat.le_of_ble_eq_true rfl), (Nat.le_of_ble_eq_true rfl)⟩) (va_recv hK hPx (ci := 9) (q0 := 0) rfl (xw_q0 ad cI cJ cZ σ)) hK hN hPx hPm hS hAx (hdx τ) rfl hl.1 rfl (Nat.le_of_ble_eq_true rfl) dL_law_829 ⟨(Nat.le_of_ble_eq_true rfl), (Nat.le_of_ble_eq_true rfl)⟩ (fun r1 u9 H locs hq hPx hPm hS => ?_)
  obtain ⟨hw, hu⟩ := hq
  rw [hu] at hPx
  refine lv_pop hx hb dL_law_832 rfl ?_
  refine lv_aload_n hx hb dL_law_833 rfl (lv_at hl 2 rfl) ?_
  refine lv_aload_n hx hb dL_law_834 rfl (lv_at hl 0 rfl) ?_
  refine lv_iload_n hx hb dL_law_835 rfl (lv_at hl 3 rfl) ?_
  refine lv_iconst (v := 1) hx hb dL_law_836 (by decide) ?_
  refine lv_iadd hx hb dL_law_837 ?_
  obtain ⟨h9, hw⟩ := hw
  refine va_sld hx hb hX hbl hbA hS h9 dL_law_838 ?_
  refine wd_lVi ⟨hx, hb, hml, hown, hts⟩ (mtX10_least l D am cI cJ cZ Am hDm τ (xs (v3 + (1 : Int32)).toNatClampNeg) _ hw) (cwV 1 hts gl_X10_least rfl rfl rfl (by decide +kernel) ⟨(Nat.le_of_ble_eq_true rfl), (Nat.le_of_ble_eq_true rfl)⟩) (va_recv hK hPm (ci := 10) (q0 := 0) rfl (mw_q0 am cI cJ cZ τ)) hK hN hPm hPx hS hAm (hdm σ) rfl hl.1 rfl (Nat.le_of_ble_eq_true rfl) dL_law_839 ⟨(Nat.le_of_ble_eq_true rfl), (Nat.le_of_ble_eq_true rfl)⟩ (fun r2 u9 H locs hq hPm hPx hS => ?_)
  obtain ⟨hw, hu⟩ := hq
  rw [hu] at hPm
  refine lv_pop hx hb dL_law_842 rfl ?_
  refine lv_goto (tgt := 1303) hx hb dL_law_843 (by decide) ?_
  exact hKx _ _ _ _ _ hw hPx hPm hS hl

def wL_22 (xs : Nat → Int32) (L : Nat) (v3 : Int32) (σ τ : St) (K : St → St → Prop) : Prop := wX9_badRole σ (fun (r1 : Int32) => wX10_badRole τ (fun (r2 : Int32) => K σ τ))
set_option maxHeartbeats 4000000 in
set_option maxRecDepth 100000 in
theorem lc_22 {p : Program} {e : Env} {s : State} {m : MethodId} {below : List Frame} {meth : Method} {c : Code} (l : Launch) {b L : Nat} {xs : Nat → Int32} (C0 : lw_At p s m meth c b L xs) {D : va_G} {ad am : Nat → Nat} {cI cJ cZ : ClassId} {Ax Am : Nat → Prop} (X0 : lw_cx s D ad am cI cJ cZ Ax Am) (v3 : Int32) (K : St → St → Prop) (hKx : ∀ (σ τ : St) (H : Heap) (locs : List Loc) (ls : Array Slot), K σ τ → va_P D vwCl (xw ad cI cJ cZ σ) H → va_P D vwCl (mw am cI cJ cZ τ) H → va_S (fun q : Nat => s.heap.size ≤ q) s.heap H locs → lv_has ls 4 [(0, .ref b), (1, .ref (ad 0)), (2, .ref (am 0)), (3, .int v3)] → W p l e room_1 s m #[Value.ref b] below meth c H locs 52 10198 (lw_Z below #[Value.ref b] s) (F0 m 1303 ls [])) (σ τ : St) (H : Heap) (locs : List Loc) (ls : Array Slot) (hw : wL_22 xs L v3 σ τ K) (hPx : va_P D vwCl (xw ad cI cJ cZ σ) H) (hPm : va_P D vwCl (mw am cI cJ cZ τ) H) (hS : va_S (fun q : Nat => s.heap.size ≤ q) s.heap H locs) (hl : lv_has ls 4 [(0, .ref b), (1, .ref (ad 0)), (2, .ref (am 0)), (3, .int v3)]) : W p l e room_1 s m #[Value.ref b] below meth c H locs 52 10198 (lw_Z below #[Value.ref b] s) (F0 m 846 ls []) := by
  obtain ⟨hx, hb, hr, hml, hown, hts, hX, hbl, hlocks, hgv⟩ := C0
  obtain ⟨hK, hN, hDx, hDm, hAx, hAm, hdx, hdm⟩ := X0
  have hbA : ¬ (fun q : Nat => s.heap.size ≤ q) b := Nat.not_le.mpr hbl
  unfold wL_22 at hw
  refine lv_aload_n hx hb dL_law_846 rfl (lv_at hl 1 rfl) ?_
  refine wd_lVi ⟨hx, hb, hml, hown, hts⟩ (mtX9_badRole l D ad cI cJ cZ Ax hDx σ  _ hw) (cwV 0 hts gl_X9_badRole rfl rfl rfl (by decide +kernel) ⟨(Nat.le_of_ble_eq_true rfl), (Nat.le_of_ble_eq_true rfl)⟩) (va_recv hK hPx (ci := 9) (q0 := 0) rfl (xw_q0 ad cI cJ cZ σ)) hK hN hPx hPm hS hAx (hdx τ) rfl hl.1 rfl (Nat.le_of_ble_eq_true rfl) dL_law_847 ⟨(Nat.le_of_ble_eq_true rfl), (Nat.le_of_ble_eq_true rfl)⟩ (fun r1 u9 H locs hq hPx hPm hS => ?_)
  obtain ⟨hw, hu⟩ := hq
  rw [hu] at hPx
  refine lv_pop hx hb dL_law_850 rfl ?_
  refine lv_aload_n hx hb dL_law_851 rfl (lv_at hl 2 rfl) ?_
  refine wd_lVi ⟨hx, hb, hml, hown, hts⟩ (mtX10_badRole l D am cI cJ cZ Am hDm τ  _ hw) (cwV 0 hts gl_X10_badRole rfl rfl rfl (by decide +kernel) ⟨(Nat.le_of_ble_eq_true rfl), (Nat.le_of_ble_eq_true rfl)⟩) (va_recv hK hPm (ci := 10) (q0 := 0) rfl (mw_q0 am cI cJ cZ τ)) hK hN hPm hPx hS hAm (hdm σ) rfl hl.1 rfl (Nat.le_of_ble_eq_true rfl) dL_law_852 ⟨(Nat.le_of_ble_eq_true rfl), (Nat.le_of_ble_eq_true rfl)⟩ (fun r2 u9 H locs hq hPm hPx hS => ?_)
  obtain ⟨hw, hu⟩ := hq
  rw [hu] at hPm
  refine lv_pop hx hb dL_law_855 rfl ?_
  refine lv_goto (tgt := 1303) hx hb dL_law_856 (by decide) ?_
  exact hKx _ _ _ _ _ hw hPx hPm hS hl

def wL_23 (xs : Nat → Int32) (L : Nat) (v3 : Int32) (σ τ : St) (K : St → St → Prop) : Prop := vp_in (v3 + (1 : Int32)) L ∧ (((xs (v3 + (1 : Int32)).toNatClampNeg) = 0 → (wX9_plan σ (0 : Int32) (fun (r1 : Int32) (σ2 : St) => vp_in (v3 + (1 : Int32)) L ∧ (((xs (v3 + (1 : Int32)).toNatClampNeg) = 0 → (wX10_plan τ (0 : Int32) (fun (r3 : Int32) (τ4 : St) => K σ2 τ4))) ∧ (¬ (xs (v3 + (1 : Int32)).toNatClampNeg) = 0 → (wX10_plan τ (1 : Int32) (fun (r5 : Int32) (τ6 : St) => K σ2 τ6))))))) ∧ (¬ (xs (v3 + (1 : Int32)).toNatClampNeg) = 0 → (wX9_plan σ (1 : Int32) (fun (r7 : Int32) (σ8 : St) => vp_in (v3 + (1 : Int32)) L ∧ (((xs (v3 + (1 : Int32)).toNatClampNeg) = 0 → (wX10_plan τ (0 : Int32) (fun (r9 : Int32) (τ10 : St) => K σ8 τ10))) ∧ (¬ (xs (v3 + (1 : Int32)).toNatClampNeg) = 0 → (wX10_plan τ (1 : Int32) (fun (r11 : Int32) (τ12 : St) => K σ8 τ12))))))))
set_option maxHeartbeats 4000000 in
set_option maxRecDepth 100000 in
theorem lc_23 {p : Program} {e : Env} {s : State} {m : MethodId} {below : List Frame} {meth : Method} {c : Code} (l : Launch) {b L : Nat} {xs : Nat → Int32} (C0 : lw_At p s m meth c b L xs) {D : va_G} {ad am : Nat → Nat} {cI cJ cZ : ClassId} {Ax Am : Nat → Prop} (X0 : lw_cx s D ad am cI cJ cZ Ax Am) (v3 : Int32) (K : St → St → Prop) (hKx : ∀ (σ τ : St) (H : Heap) (locs : List Loc) (ls : Array Slot), K σ τ → va_P D vwCl (xw ad cI cJ cZ σ) H → va_P D vwCl (mw am cI cJ cZ τ) H → va_S (fun q : Nat => s.heap.size ≤ q) s.heap H locs → lv_has ls 4 [(0, .ref b), (1, .ref (ad 0)), (2, .ref (am 0)), (3, .int v3)] → W p l e room_1 s m #[Value.ref b] below meth c H locs 52 10198 (lw_Z below #[Value.ref b] s) (F0 m 1303 ls [])) (σ τ : St) (H : Heap) (locs : List Loc) (ls : Array Slot) (hw : wL_23 xs L v3 σ τ K) (hPx : va_P D vwCl (xw ad cI cJ cZ σ) H) (hPm : va_P D vwCl (mw am cI cJ cZ τ) H) (hS : va_S (fun q : Nat => s.heap.size ≤ q) s.heap H locs) (hl : lv_has ls 4 [(0, .ref b), (1, .ref (ad 0)), (2, .ref (am 0)), (3, .int v3)]) : W p l e room_1 s m #[Value.ref b] below meth c H locs 52 10198 (lw_Z below #[Value.ref b] s) (F0 m 859 ls []) := by
  obtain ⟨hx, hb, hr, hml, hown, hts, hX, hbl, hlocks, hgv⟩ := C0
  obtain ⟨hK, hN, hDx, hDm, hAx, hAm, hdx, hdm⟩ := X0
  have hbA : ¬ (fun q : Nat => s.heap.size ≤ q) b := Nat.not_le.mpr hbl
  unfold wL_23 at hw
  refine lv_aload_n hx hb dL_law_859 rfl (lv_at hl 1 rfl) ?_
  refine lv_aload_n hx hb dL_law_860 rfl (lv_at hl 0 rfl) ?_
  refine lv_iload_n hx hb dL_law_861 rfl (lv_at hl 3 rfl) ?_
  refine lv_iconst (v := 1) hx hb dL_law_862 (by decide) ?_
  refine lv_iadd hx hb dL_law_863 ?_
  obtain ⟨h9, hw⟩ := hw
  refine va_sld hx hb hX hbl hbA hS h9 dL_law_864 ?_
  refine lv_if_eq (tgt := 872) hx hb dL_law_865 (by decide) (fun c9 => ?_) (fun c9 => ?_)
  · have hw := hw.1 c9
    refine lv_iconst (v := 0) hx hb dL_law_872 (by decide) ?_
    refine wd_lVi ⟨hx, hb, hml, hown, hts⟩ (mtX9_plan l D ad cI cJ cZ Ax hDx σ (0 : Int32) _ hw) (cwV 1 hts gl_X9_plan rfl rfl rfl (by decide +kernel) ⟨(Nat.le_of_ble_eq_true rfl), (Nat.le_of_ble_eq_true rfl)⟩) (va_recv hK hPx (ci := 9) (q0 := 0) rfl (xw_q0 ad cI cJ cZ σ)) hK hN hPx hPm hS hAx (hdx τ) rfl hl.1 rfl (Nat.le_of_ble_eq_true rfl) dL_law_873 ⟨(Nat.le_of_ble_eq_true rfl), (Nat.le_of_ble_eq_true rfl)⟩ (fun r1 σ2 H locs hw hPx hPm hS => ?_)
    refine lv_pop hx hb dL_law_876 rfl ?_
    refine lv_aload_n hx hb dL_law_877 rfl (lv_at hl 2 rfl) ?_
    refine lv_aload_n hx hb dL_law_878 rfl (lv_at hl 0 rfl) ?_
    refine lv_iload_n hx hb dL_law_879 rfl (lv_at hl 3 rfl) ?_
    refine lv_iconst (v := 1) hx hb dL_law_880 (by decide) ?_
    refine lv_iadd hx hb dL_law_881 ?_
    obtain ⟨h9, hw⟩ := hw
    refine va_sld hx hb hX hbl hbA hS h9 dL_law_882 ?_
    refine lv_if_eq (tgt := 890) hx hb dL_law_883 (by decide) (fun c9 => ?_) (fun c9 => ?_)
    · have hw := hw.1 c9
      refine lv_iconst (v := 0) hx hb dL_law_890 (by decide) ?_
      refine wd_lVi ⟨hx, hb, hml, hown, hts⟩ (mtX10_plan l D am cI cJ cZ Am hDm τ (0 : Int32) _ hw) (cwV 1 hts gl_X10_plan rfl rfl rfl (by decide +kernel) ⟨(Nat.le_of_ble_eq_true rfl), (Nat.le_of_ble_eq_true rfl)⟩) (va_recv hK hPm (ci := 10) (q0 := 0) rfl (mw_q0 am cI cJ cZ τ)) hK hN hPm hPx hS hAm (hdm σ2) rfl hl.1 rfl (Nat.le_of_ble_eq_true rfl) dL_law_891 ⟨(Nat.le_of_ble_eq_true rfl), (Nat.le_of_ble_eq_true rfl)⟩ (fun r3 τ4 H locs hw hPm hPx hS => ?_)
      refine lv_pop hx hb dL_law_894 rfl ?_
      refine lv_goto (tgt := 1303) hx hb dL_law_895 (by decide) ?_
      exact hKx _ _ _ _ _ hw hPx hPm hS hl
    · have hw := hw.2 c9
      refine lv_iconst (v := 1) hx hb dL_law_886 (by decide) ?_
      refine lv_goto (tgt := 891) hx hb dL_law_887 (by decide) ?_
      refine wd_lVi ⟨hx, hb, hml, hown, hts⟩ (mtX10_plan l D am cI cJ cZ Am hDm τ (1 : Int32) _ hw) (cwV 1 hts gl_X10_plan rfl rfl rfl (by decide +kernel) ⟨(Nat.le_of_ble_eq_true rfl), (Nat.le_of_ble_eq_true rfl)⟩) (va_recv hK hPm (ci := 10) (q0 := 0) rfl (mw_q0 am cI cJ cZ τ)) hK hN hPm hPx hS hAm (hdm σ2) rfl hl.1 rfl (Nat.le_of_ble_eq_true rfl) dL_law_891 ⟨(Nat.le_of_ble_eq_true rfl), (Nat.le_of_ble_eq_true rfl)⟩ (fun r5 τ6 H locs hw hPm hPx hS => ?_)
      refine lv_pop hx hb dL_law_894 rfl ?_
      refine lv_goto (tgt := 1303) hx hb dL_law_895 (by decide) ?_
      exact hKx _ _ _ _ _ hw hPx hPm hS hl
  · have hw := hw.2 c9
    refine lv_iconst (v := 1) hx hb dL_law_868 (by decide) ?_
    refine lv_goto (tgt := 873) hx hb dL_law_869 (by decide) ?_
    refine wd_lVi ⟨hx, hb, hml, hown, hts⟩ (mtX9_plan l D ad cI cJ cZ Ax hDx σ (1 : Int32) _ hw) (cwV 1 hts gl_X9_plan rfl rfl rfl (by decide +kernel) ⟨(Nat.le_of_ble_eq_true rfl), (Nat.le_of_ble_eq_true rfl)⟩) (va_recv hK hPx (ci := 9) (q0 := 0) rfl (xw_q0 ad cI cJ cZ σ)) hK hN hPx hPm hS hAx (hdx τ) rfl hl.1 rfl (Nat.le_of_ble_eq_true rfl) dL_law_873 ⟨(Nat.le_of_ble_eq_true rfl), (Nat.le_of_ble_eq_true rfl)⟩ (fun r7 σ8 H locs hw hPx hPm hS => ?_)
    refine lv_pop hx hb dL_law_876 rfl ?_
    refine lv_aload_n hx hb dL_law_877 rfl (lv_at hl 2 rfl) ?_
    refine lv_aload_n hx hb dL_law_878 rfl (lv_at hl 0 rfl) ?_
    refine lv_iload_n hx hb dL_law_879 rfl (lv_at hl 3 rfl) ?_
    refine lv_iconst (v := 1) hx hb dL_law_880 (by decide) ?_
    refine lv_iadd hx hb dL_law_881 ?_
    obtain ⟨h9, hw⟩ := hw
    refine va_sld hx hb hX hbl hbA hS h9 dL_law_882 ?_
    refine lv_if_eq (tgt := 890) hx hb dL_law_883 (by decide) (fun c9 => ?_) (fun c9 => ?_)
    · have hw := hw.1 c9
      refine lv_iconst (v := 0) hx hb dL_law_890 (by decide) ?_
      refine wd_lVi ⟨hx, hb, hml, hown, hts⟩ (mtX10_plan l D am cI cJ cZ Am hDm τ (0 : Int32) _ hw) (cwV 1 hts gl_X10_plan rfl rfl rfl (by decide +kernel) ⟨(Nat.le_of_ble_eq_true rfl), (Nat.le_of_ble_eq_true rfl)⟩) (va_recv hK hPm (ci := 10) (q0 := 0) rfl (mw_q0 am cI cJ cZ τ)) hK hN hPm hPx hS hAm (hdm σ8) rfl hl.1 rfl (Nat.le_of_ble_eq_true rfl) dL_law_891 ⟨(Nat.le_of_ble_eq_true rfl), (Nat.le_of_ble_eq_true rfl)⟩ (fun r9 τ10 H locs hw hPm hPx hS => ?_)
      refine lv_pop hx hb dL_law_894 rfl ?_
      refine lv_goto (tgt := 1303) hx hb dL_law_895 (by decide) ?_
      exact hKx _ _ _ _ _ hw hPx hPm hS hl
    · have hw := hw.2 c9
      refine lv_iconst (v := 1) hx hb dL_law_886 (by decide) ?_
      refine lv_goto (tgt := 891) hx hb dL_law_887 (by decide) ?_
      refine wd_lVi ⟨hx, hb, hml, hown, hts⟩ (mtX10_plan l D am cI cJ cZ Am hDm τ (1 : Int32) _ hw) (cwV 1 hts gl_X10_plan rfl rfl rfl (by decide +kernel) ⟨(Nat.le_of_ble_eq_true rfl), (Nat.le_of_ble_eq_true rfl)⟩) (va_recv hK hPm (ci := 10) (q0 := 0) rfl (mw_q0 am cI cJ cZ τ)) hK hN hPm hPx hS hAm (hdm σ8) rfl hl.1 rfl (Nat.le_of_ble_eq_true rfl) dL_law_891 ⟨(Nat.le_of_ble_eq_true rfl), (Nat.le_of_ble_eq_true rfl)⟩ (fun r11 τ12 H locs hw hPm hPx hS => ?_)
      refine lv_pop hx hb dL_law_894 rfl ?_
      refine lv_goto (tgt := 1303) hx hb dL_law_895 (by decide) ?_
      exact hKx _ _ _ _ _ hw hPx hPm hS hl

def wL_24 (xs : Nat → Int32) (L : Nat) (v3 : Int32) (σ τ : St) (K : St → St → Prop) : Prop := vp_in (v3 + (1 : Int32)) L ∧ (vp_in (v3 + (2 : Int32)) L ∧ (wX9_takeOut σ (xs (v3 + (1 : Int32)).toNatClampNeg) (xs (v3 + (2 : Int32)).toNatClampNeg) (fun (r1 : Int32) (σ2 : St) => vp_in (v3 + (1 : Int32)) L ∧ (vp_in (v3 + (2 : Int32)) L ∧ (wX10_takeOut τ (xs (v3 + (1 : Int32)).toNatClampNeg) (xs (v3 + (2 : Int32)).toNatClampNeg) (fun (r3 : Int32) (τ4 : St) => K σ2 τ4))))))
set_option maxHeartbeats 4000000 in
set_option maxRecDepth 100000 in
theorem lc_24 {p : Program} {e : Env} {s : State} {m : MethodId} {below : List Frame} {meth : Method} {c : Code} (l : Launch) {b L : Nat} {xs : Nat → Int32} (C0 : lw_At p s m meth c b L xs) {D : va_G} {ad am : Nat → Nat} {cI cJ cZ : ClassId} {Ax Am : Nat → Prop} (X0 : lw_cx s D ad am cI cJ cZ Ax Am) (v3 : Int32) (K : St → St → Prop) (hKx : ∀ (σ τ : St) (H : Heap) (locs : List Loc) (ls : Array Slot), K σ τ → va_P D vwCl (xw ad cI cJ cZ σ) H → va_P D vwCl (mw am cI cJ cZ τ) H → va_S (fun q : Nat => s.heap.size ≤ q) s.heap H locs → lv_has ls 4 [(0, .ref b), (1, .ref (ad 0)), (2, .ref (am 0)), (3, .int v3)] → W p l e room_1 s m #[Value.ref b] below meth c H locs 52 10198 (lw_Z below #[Value.ref b] s) (F0 m 1303 ls [])) (σ τ : St) (H : Heap) (locs : List Loc) (ls : Array Slot) (hw : wL_24 xs L v3 σ τ K) (hPx : va_P D vwCl (xw ad cI cJ cZ σ) H) (hPm : va_P D vwCl (mw am cI cJ cZ τ) H) (hS : va_S (fun q : Nat => s.heap.size ≤ q) s.heap H locs) (hl : lv_has ls 4 [(0, .ref b), (1, .ref (ad 0)), (2, .ref (am 0)), (3, .int v3)]) : W p l e room_1 s m #[Value.ref b] below meth c H locs 52 10198 (lw_Z below #[Value.ref b] s) (F0 m 898 ls []) := by
  obtain ⟨hx, hb, hr, hml, hown, hts, hX, hbl, hlocks, hgv⟩ := C0
  obtain ⟨hK, hN, hDx, hDm, hAx, hAm, hdx, hdm⟩ := X0
  have hbA : ¬ (fun q : Nat => s.heap.size ≤ q) b := Nat.not_le.mpr hbl
  unfold wL_24 at hw
  refine lv_aload_n hx hb dL_law_898 rfl (lv_at hl 1 rfl) ?_
  refine lv_aload_n hx hb dL_law_899 rfl (lv_at hl 0 rfl) ?_
  refine lv_iload_n hx hb dL_law_900 rfl (lv_at hl 3 rfl) ?_
  refine lv_iconst (v := 1) hx hb dL_law_901 (by decide) ?_
  refine lv_iadd hx hb dL_law_902 ?_
  obtain ⟨h9, hw⟩ := hw
  refine va_sld hx hb hX hbl hbA hS h9 dL_law_903 ?_
  refine lv_aload_n hx hb dL_law_904 rfl (lv_at hl 0 rfl) ?_
  refine lv_iload_n hx hb dL_law_905 rfl (lv_at hl 3 rfl) ?_
  refine lv_iconst (v := 2) hx hb dL_law_906 (by decide) ?_
  refine lv_iadd hx hb dL_law_907 ?_
  obtain ⟨h9, hw⟩ := hw
  refine va_sld hx hb hX hbl hbA hS h9 dL_law_908 ?_
  refine wd_lVi ⟨hx, hb, hml, hown, hts⟩ (mtX9_takeOut l D ad cI cJ cZ Ax hDx σ (xs (v3 + (1 : Int32)).toNatClampNeg) (xs (v3 + (2 : Int32)).toNatClampNeg) _ hw) (cwV 2 hts gl_X9_takeOut rfl rfl rfl (by decide +kernel) ⟨(Nat.le_of_ble_eq_true rfl), (Nat.le_of_ble_eq_true rfl)⟩) (va_recv hK hPx (ci := 9) (q0 := 0) rfl (xw_q0 ad cI cJ cZ σ)) hK hN hPx hPm hS hAx (hdx τ) rfl hl.1 rfl (Nat.le_of_ble_eq_true rfl) dL_law_909 ⟨(Nat.le_of_ble_eq_true rfl), (Nat.le_of_ble_eq_true rfl)⟩ (fun r1 σ2 H locs hw hPx hPm hS => ?_)
  refine lv_pop hx hb dL_law_912 rfl ?_
  refine lv_aload_n hx hb dL_law_913 rfl (lv_at hl 2 rfl) ?_
  refine lv_aload_n hx hb dL_law_914 rfl (lv_at hl 0 rfl) ?_
  refine lv_iload_n hx hb dL_law_915 rfl (lv_at hl 3 rfl) ?_
  refine lv_iconst (v := 1) hx hb dL_law_916 (by decide) ?_
  refine lv_iadd hx hb dL_law_917 ?_
  obtain ⟨h9, hw⟩ := hw
  refine va_sld hx hb hX hbl hbA hS h9 dL_law_918 ?_
  refine lv_aload_n hx hb dL_law_919 rfl (lv_at hl 0 rfl) ?_
  refine lv_iload_n hx hb dL_law_920 rfl (lv_at hl 3 rfl) ?_
  refine lv_iconst (v := 2) hx hb dL_law_921 (by decide) ?_
  refine lv_iadd hx hb dL_law_922 ?_
  obtain ⟨h9, hw⟩ := hw
  refine va_sld hx hb hX hbl hbA hS h9 dL_law_923 ?_
  refine wd_lVi ⟨hx, hb, hml, hown, hts⟩ (mtX10_takeOut l D am cI cJ cZ Am hDm τ (xs (v3 + (1 : Int32)).toNatClampNeg) (xs (v3 + (2 : Int32)).toNatClampNeg) _ hw) (cwV 2 hts gl_X10_takeOut rfl rfl rfl (by decide +kernel) ⟨(Nat.le_of_ble_eq_true rfl), (Nat.le_of_ble_eq_true rfl)⟩) (va_recv hK hPm (ci := 10) (q0 := 0) rfl (mw_q0 am cI cJ cZ τ)) hK hN hPm hPx hS hAm (hdm σ2) rfl hl.1 rfl (Nat.le_of_ble_eq_true rfl) dL_law_924 ⟨(Nat.le_of_ble_eq_true rfl), (Nat.le_of_ble_eq_true rfl)⟩ (fun r3 τ4 H locs hw hPm hPx hS => ?_)
  refine lv_pop hx hb dL_law_927 rfl ?_
  refine lv_goto (tgt := 1303) hx hb dL_law_928 (by decide) ?_
  exact hKx _ _ _ _ _ hw hPx hPm hS hl

def wL_25 (xs : Nat → Int32) (L : Nat) (v3 : Int32) (σ τ : St) (K : St → St → Prop) : Prop := vp_in (v3 + (1 : Int32)) L ∧ (wX9_stopped σ (xs (v3 + (1 : Int32)).toNatClampNeg) (fun (r1 : Int32) => vp_in (v3 + (1 : Int32)) L ∧ (wX10_stopped τ (xs (v3 + (1 : Int32)).toNatClampNeg) (fun (r2 : Int32) => K σ τ))))
set_option maxHeartbeats 4000000 in
set_option maxRecDepth 100000 in
theorem lc_25 {p : Program} {e : Env} {s : State} {m : MethodId} {below : List Frame} {meth : Method} {c : Code} (l : Launch) {b L : Nat} {xs : Nat → Int32} (C0 : lw_At p s m meth c b L xs) {D : va_G} {ad am : Nat → Nat} {cI cJ cZ : ClassId} {Ax Am : Nat → Prop} (X0 : lw_cx s D ad am cI cJ cZ Ax Am) (v3 : Int32) (K : St → St → Prop) (hKx : ∀ (σ τ : St) (H : Heap) (locs : List Loc) (ls : Array Slot), K σ τ → va_P D vwCl (xw ad cI cJ cZ σ) H → va_P D vwCl (mw am cI cJ cZ τ) H → va_S (fun q : Nat => s.heap.size ≤ q) s.heap H locs → lv_has ls 4 [(0, .ref b), (1, .ref (ad 0)), (2, .ref (am 0)), (3, .int v3)] → W p l e room_1 s m #[Value.ref b] below meth c H locs 52 10198 (lw_Z below #[Value.ref b] s) (F0 m 1303 ls [])) (σ τ : St) (H : Heap) (locs : List Loc) (ls : Array Slot) (hw : wL_25 xs L v3 σ τ K) (hPx : va_P D vwCl (xw ad cI cJ cZ σ) H) (hPm : va_P D vwCl (mw am cI cJ cZ τ) H) (hS : va_S (fun q : Nat => s.heap.size ≤ q) s.heap H locs) (hl : lv_has ls 4 [(0, .ref b), (1, .ref (ad 0)), (2, .ref (am 0)), (3, .int v3)]) : W p l e room_1 s m #[Value.ref b] below meth c H locs 52 10198 (lw_Z below #[Value.ref b] s) (F0 m 931 ls []) := by
  obtain ⟨hx, hb, hr, hml, hown, hts, hX, hbl, hlocks, hgv⟩ := C0
  obtain ⟨hK, hN, hDx, hDm, hAx, hAm, hdx, hdm⟩ := X0
  have hbA : ¬ (fun q : Nat => s.heap.size ≤ q) b := Nat.not_le.mpr hbl
  unfold wL_25 at hw
  refine lv_aload_n hx hb dL_law_931 rfl (lv_at hl 1 rfl) ?_
  refine lv_aload_n hx hb dL_law_932 rfl (lv_at hl 0 rfl) ?_
  refine lv_iload_n hx hb dL_law_933 rfl (lv_at hl 3 rfl) ?_
  refine lv_iconst (v := 1) hx hb dL_law_934 (by decide) ?_
  refine lv_iadd hx hb dL_law_935 ?_
  obtain ⟨h9, hw⟩ := hw
  refine va_sld hx hb hX hbl hbA hS h9 dL_law_936 ?_
  refine wd_lVi ⟨hx, hb, hml, hown, hts⟩ (mtX9_stopped l D ad cI cJ cZ Ax hDx σ (xs (v3 + (1 : Int32)).toNatClampNeg) _ hw) (cwV 1 hts gl_X9_stopped rfl rfl rfl (by decide +kernel) ⟨(Nat.le_of_ble_eq_true rfl), (Nat.le_of_ble_eq_true rfl)⟩) (va_recv hK hPx (ci := 9) (q0 := 0) rfl (xw_q0 ad cI cJ cZ σ)) hK hN hPx hPm hS hAx (hdx τ) rfl hl.1 rfl (Nat.le_of_ble_eq_true rfl) dL_law_937 ⟨(Nat.le_of_ble_eq_true rfl), (Nat.le_of_ble_eq_true rfl)⟩ (fun r1 u9 H locs hq hPx hPm hS => ?_)
  obtain ⟨hw, hu⟩ := hq
  rw [hu] at hPx
  refine lv_pop hx hb dL_law_940 rfl ?_
  refine lv_aload_n hx hb dL_law_941 rfl (lv_at hl 2 rfl) ?_
  refine lv_aload_n hx hb dL_law_942 rfl (lv_at hl 0 rfl) ?_
  refine lv_iload_n hx hb dL_law_943 rfl (lv_at hl 3 rfl) ?_
  refine lv_iconst (v := 1) hx hb dL_law_944 (by decide) ?_
  refine lv_iadd hx hb dL_law_945 ?_
  obtain ⟨h9, hw⟩ := hw
  refine va_sld hx hb hX hbl hbA hS h9 dL_law_946 ?_
  refine wd_lVi ⟨hx, hb, hml, hown, hts⟩ (mtX10_stopped l D am cI cJ cZ Am hDm τ (xs (v3 + (1 : Int32)).toNatClampNeg) _ hw) (cwV 1 hts gl_X10_stopped rfl rfl rfl (by decide +kernel) ⟨(Nat.le_of_ble_eq_true rfl), (Nat.le_of_ble_eq_true rfl)⟩) (va_recv hK hPm (ci := 10) (q0 := 0) rfl (mw_q0 am cI cJ cZ τ)) hK hN hPm hPx hS hAm (hdm σ) rfl hl.1 rfl (Nat.le_of_ble_eq_true rfl) dL_law_947 ⟨(Nat.le_of_ble_eq_true rfl), (Nat.le_of_ble_eq_true rfl)⟩ (fun r2 u9 H locs hq hPm hPx hS => ?_)
  obtain ⟨hw, hu⟩ := hq
  rw [hu] at hPm
  refine lv_pop hx hb dL_law_950 rfl ?_
  refine lv_goto (tgt := 1303) hx hb dL_law_951 (by decide) ?_
  exact hKx _ _ _ _ _ hw hPx hPm hS hl

def wL_26 (xs : Nat → Int32) (L : Nat) (v3 : Int32) (σ τ : St) (K : St → St → Prop) : Prop := vp_in (v3 + (1 : Int32)) L ∧ (vp_in (v3 + (2 : Int32)) L ∧ (wX9_stop σ (xs (v3 + (1 : Int32)).toNatClampNeg) (xs (v3 + (2 : Int32)).toNatClampNeg) (fun (r1 : Int32) => vp_in (v3 + (1 : Int32)) L ∧ (vp_in (v3 + (2 : Int32)) L ∧ (wX10_stop τ (xs (v3 + (1 : Int32)).toNatClampNeg) (xs (v3 + (2 : Int32)).toNatClampNeg) (fun (r2 : Int32) => K σ τ))))))
set_option maxHeartbeats 4000000 in
set_option maxRecDepth 100000 in
theorem lc_26 {p : Program} {e : Env} {s : State} {m : MethodId} {below : List Frame} {meth : Method} {c : Code} (l : Launch) {b L : Nat} {xs : Nat → Int32} (C0 : lw_At p s m meth c b L xs) {D : va_G} {ad am : Nat → Nat} {cI cJ cZ : ClassId} {Ax Am : Nat → Prop} (X0 : lw_cx s D ad am cI cJ cZ Ax Am) (v3 : Int32) (K : St → St → Prop) (hKx : ∀ (σ τ : St) (H : Heap) (locs : List Loc) (ls : Array Slot), K σ τ → va_P D vwCl (xw ad cI cJ cZ σ) H → va_P D vwCl (mw am cI cJ cZ τ) H → va_S (fun q : Nat => s.heap.size ≤ q) s.heap H locs → lv_has ls 4 [(0, .ref b), (1, .ref (ad 0)), (2, .ref (am 0)), (3, .int v3)] → W p l e room_1 s m #[Value.ref b] below meth c H locs 52 10198 (lw_Z below #[Value.ref b] s) (F0 m 1303 ls [])) (σ τ : St) (H : Heap) (locs : List Loc) (ls : Array Slot) (hw : wL_26 xs L v3 σ τ K) (hPx : va_P D vwCl (xw ad cI cJ cZ σ) H) (hPm : va_P D vwCl (mw am cI cJ cZ τ) H) (hS : va_S (fun q : Nat => s.heap.size ≤ q) s.heap H locs) (hl : lv_has ls 4 [(0, .ref b), (1, .ref (ad 0)), (2, .ref (am 0)), (3, .int v3)]) : W p l e room_1 s m #[Value.ref b] below meth c H locs 52 10198 (lw_Z below #[Value.ref b] s) (F0 m 954 ls []) := by
  obtain ⟨hx, hb, hr, hml, hown, hts, hX, hbl, hlocks, hgv⟩ := C0
  obtain ⟨hK, hN, hDx, hDm, hAx, hAm, hdx, hdm⟩ := X0
  have hbA : ¬ (fun q : Nat => s.heap.size ≤ q) b := Nat.not_le.mpr hbl
  unfold wL_26 at hw
  refine lv_aload_n hx hb dL_law_954 rfl (lv_at hl 1 rfl) ?_
  refine lv_aload_n hx hb dL_law_955 rfl (lv_at hl 0 rfl) ?_
  refine lv_iload_n hx hb dL_law_956 rfl (lv_at hl 3 rfl) ?_
  refine lv_iconst (v := 1) hx hb dL_law_957 (by decide) ?_
  refine lv_iadd hx hb dL_law_958 ?_
  obtain ⟨h9, hw⟩ := hw
  refine va_sld hx hb hX hbl hbA hS h9 dL_law_959 ?_
  refine lv_aload_n hx hb dL_law_960 rfl (lv_at hl 0 rfl) ?_
  refine lv_iload_n hx hb dL_law_961 rfl (lv_at hl 3 rfl) ?_
  refine lv_iconst (v := 2) hx hb dL_law_962 (by decide) ?_
  refine lv_iadd hx hb dL_law_963 ?_
  obtain ⟨h9, hw⟩ := hw
  refine va_sld hx hb hX hbl hbA hS h9 dL_law_964 ?_
  refine wd_lVi ⟨hx, hb, hml, hown, hts⟩ (mtX9_stop l D ad cI cJ cZ Ax hDx σ (xs (v3 + (1 : Int32)).toNatClampNeg) (xs (v3 + (2 : Int32)).toNatClampNeg) _ hw) (cwV 2 hts gl_X9_stop rfl rfl rfl (by decide +kernel) ⟨(Nat.le_of_ble_eq_true rfl), (Nat.le_of_ble_eq_true rfl)⟩) (va_recv hK hPx (ci := 9) (q0 := 0) rfl (xw_q0 ad cI cJ cZ σ)) hK hN hPx hPm hS hAx (hdx τ) rfl hl.1 rfl (Nat.le_of_ble_eq_true rfl) dL_law_965 ⟨(Nat.le_of_ble_eq_true rfl), (Nat.le_of_ble_eq_true rfl)⟩ (fun r1 u9 H locs hq hPx hPm hS => ?_)
  obtain ⟨hw, hu⟩ := hq
  rw [hu] at hPx
  refine lv_pop hx hb dL_law_968 rfl ?_
  refine lv_aload_n hx hb dL_law_969 rfl (lv_at hl 2 rfl) ?_
  refine lv_aload_n hx hb dL_law_970 rfl (lv_at hl 0 rfl) ?_
  refine lv_iload_n hx hb dL_law_971 rfl (lv_at hl 3 rfl) ?_
  refine lv_iconst (v := 1) hx hb dL_law_972 (by decide) ?_
  refine lv_iadd hx hb dL_law_973 ?_
  obtain ⟨h9, hw⟩ := hw
  refine va_sld hx hb hX hbl hbA hS h9 dL_law_974 ?_
  refine lv_aload_n hx hb dL_law_975 rfl (lv_at hl 0 rfl) ?_
  refine lv_iload_n hx hb dL_law_976 rfl (lv_at hl 3 rfl) ?_
  refine lv_iconst (v := 2) hx hb dL_law_977 (by decide) ?_
  refine lv_iadd hx hb dL_law_978 ?_
  obtain ⟨h9, hw⟩ := hw
  refine va_sld hx hb hX hbl hbA hS h9 dL_law_979 ?_
  refine wd_lVi ⟨hx, hb, hml, hown, hts⟩ (mtX10_stop l D am cI cJ cZ Am hDm τ (xs (v3 + (1 : Int32)).toNatClampNeg) (xs (v3 + (2 : Int32)).toNatClampNeg) _ hw) (cwV 2 hts gl_X10_stop rfl rfl rfl (by decide +kernel) ⟨(Nat.le_of_ble_eq_true rfl), (Nat.le_of_ble_eq_true rfl)⟩) (va_recv hK hPm (ci := 10) (q0 := 0) rfl (mw_q0 am cI cJ cZ τ)) hK hN hPm hPx hS hAm (hdm σ) rfl hl.1 rfl (Nat.le_of_ble_eq_true rfl) dL_law_980 ⟨(Nat.le_of_ble_eq_true rfl), (Nat.le_of_ble_eq_true rfl)⟩ (fun r2 u9 H locs hq hPm hPx hS => ?_)
  obtain ⟨hw, hu⟩ := hq
  rw [hu] at hPm
  refine lv_pop hx hb dL_law_983 rfl ?_
  refine lv_goto (tgt := 1303) hx hb dL_law_984 (by decide) ?_
  exact hKx _ _ _ _ _ hw hPx hPm hS hl

def wL_27 (xs : Nat → Int32) (L : Nat) (v3 : Int32) (σ τ : St) (K : St → St → Prop) : Prop := vp_in (v3 + (1 : Int32)) L ∧ (vp_in (v3 + (2 : Int32)) L ∧ (wX9_used σ (xs (v3 + (1 : Int32)).toNatClampNeg) (xs (v3 + (2 : Int32)).toNatClampNeg) (fun (r1 : Int32) => vp_in (v3 + (1 : Int32)) L ∧ (vp_in (v3 + (2 : Int32)) L ∧ (wX10_used τ (xs (v3 + (1 : Int32)).toNatClampNeg) (xs (v3 + (2 : Int32)).toNatClampNeg) (fun (r2 : Int32) => K σ τ))))))
set_option maxHeartbeats 4000000 in
set_option maxRecDepth 100000 in
theorem lc_27 {p : Program} {e : Env} {s : State} {m : MethodId} {below : List Frame} {meth : Method} {c : Code} (l : Launch) {b L : Nat} {xs : Nat → Int32} (C0 : lw_At p s m meth c b L xs) {D : va_G} {ad am : Nat → Nat} {cI cJ cZ : ClassId} {Ax Am : Nat → Prop} (X0 : lw_cx s D ad am cI cJ cZ Ax Am) (v3 : Int32) (K : St → St → Prop) (hKx : ∀ (σ τ : St) (H : Heap) (locs : List Loc) (ls : Array Slot), K σ τ → va_P D vwCl (xw ad cI cJ cZ σ) H → va_P D vwCl (mw am cI cJ cZ τ) H → va_S (fun q : Nat => s.heap.size ≤ q) s.heap H locs → lv_has ls 4 [(0, .ref b), (1, .ref (ad 0)), (2, .ref (am 0)), (3, .int v3)] → W p l e room_1 s m #[Value.ref b] below meth c H locs 52 10198 (lw_Z below #[Value.ref b] s) (F0 m 1303 ls [])) (σ τ : St) (H : Heap) (locs : List Loc) (ls : Array Slot) (hw : wL_27 xs L v3 σ τ K) (hPx : va_P D vwCl (xw ad cI cJ cZ σ) H) (hPm : va_P D vwCl (mw am cI cJ cZ τ) H) (hS : va_S (fun q : Nat => s.heap.size ≤ q) s.heap H locs) (hl : lv_has ls 4 [(0, .ref b), (1, .ref (ad 0)), (2, .ref (am 0)), (3, .int v3)]) : W p l e room_1 s m #[Value.ref b] below meth c H locs 52 10198 (lw_Z below #[Value.ref b] s) (F0 m 987 ls []) := by
  obtain ⟨hx, hb, hr, hml, hown, hts, hX, hbl, hlocks, hgv⟩ := C0
  obtain ⟨hK, hN, hDx, hDm, hAx, hAm, hdx, hdm⟩ := X0
  have hbA : ¬ (fun q : Nat => s.heap.size ≤ q) b := Nat.not_le.mpr hbl
  unfold wL_27 at hw
  refine lv_aload_n hx hb dL_law_987 rfl (lv_at hl 1 rfl) ?_
  refine lv_aload_n hx hb dL_law_988 rfl (lv_at hl 0 rfl) ?_
  refine lv_iload_n hx hb dL_law_989 rfl (lv_at hl 3 rfl) ?_
  refine lv_iconst (v := 1) hx hb dL_law_990 (by decide) ?_
  refine lv_iadd hx hb dL_law_991 ?_
  obtain ⟨h9, hw⟩ := hw
  refine va_sld hx hb hX hbl hbA hS h9 dL_law_992 ?_
  refine lv_aload_n hx hb dL_law_993 rfl (lv_at hl 0 rfl) ?_
  refine lv_iload_n hx hb dL_law_994 rfl (lv_at hl 3 rfl) ?_
  refine lv_iconst (v := 2) hx hb dL_law_995 (by decide) ?_
  refine lv_iadd hx hb dL_law_996 ?_
  obtain ⟨h9, hw⟩ := hw
  refine va_sld hx hb hX hbl hbA hS h9 dL_law_997 ?_
  refine wd_lVi ⟨hx, hb, hml, hown, hts⟩ (mtX9_used l D ad cI cJ cZ Ax hDx σ (xs (v3 + (1 : Int32)).toNatClampNeg) (xs (v3 + (2 : Int32)).toNatClampNeg) _ hw) (cwV 2 hts gl_X9_used rfl rfl rfl (by decide +kernel) ⟨(Nat.le_of_ble_eq_true rfl), (Nat.le_of_ble_eq_true rfl)⟩) (va_recv hK hPx (ci := 9) (q0 := 0) rfl (xw_q0 ad cI cJ cZ σ)) hK hN hPx hPm hS hAx (hdx τ) rfl hl.1 rfl (Nat.le_of_ble_eq_true rfl) dL_law_998 ⟨(Nat.le_of_ble_eq_true rfl), (Nat.le_of_ble_eq_true rfl)⟩ (fun r1 u9 H locs hq hPx hPm hS => ?_)
  obtain ⟨hw, hu⟩ := hq
  rw [hu] at hPx
  refine lv_pop hx hb dL_law_1001 rfl ?_
  refine lv_aload_n hx hb dL_law_1002 rfl (lv_at hl 2 rfl) ?_
  refine lv_aload_n hx hb dL_law_1003 rfl (lv_at hl 0 rfl) ?_
  refine lv_iload_n hx hb dL_law_1004 rfl (lv_at hl 3 rfl) ?_
  refine lv_iconst (v := 1) hx hb dL_law_1005 (by decide) ?_
  refine lv_iadd hx hb dL_law_1006 ?_
  obtain ⟨h9, hw⟩ := hw
  refine va_sld hx hb hX hbl hbA hS h9 dL_law_1007 ?_
  refine lv_aload_n hx hb dL_law_1008 rfl (lv_at hl 0 rfl) ?_
  refine lv_iload_n hx hb dL_law_1009 rfl (lv_at hl 3 rfl) ?_
  refine lv_iconst (v := 2) hx hb dL_law_1010 (by decide) ?_
  refine lv_iadd hx hb dL_law_1011 ?_
  obtain ⟨h9, hw⟩ := hw
  refine va_sld hx hb hX hbl hbA hS h9 dL_law_1012 ?_
  refine wd_lVi ⟨hx, hb, hml, hown, hts⟩ (mtX10_used l D am cI cJ cZ Am hDm τ (xs (v3 + (1 : Int32)).toNatClampNeg) (xs (v3 + (2 : Int32)).toNatClampNeg) _ hw) (cwV 2 hts gl_X10_used rfl rfl rfl (by decide +kernel) ⟨(Nat.le_of_ble_eq_true rfl), (Nat.le_of_ble_eq_true rfl)⟩) (va_recv hK hPm (ci := 10) (q0 := 0) rfl (mw_q0 am cI cJ cZ τ)) hK hN hPm hPx hS hAm (hdm σ) rfl hl.1 rfl (Nat.le_of_ble_eq_true rfl) dL_law_1013 ⟨(Nat.le_of_ble_eq_true rfl), (Nat.le_of_ble_eq_true rfl)⟩ (fun r2 u9 H locs hq hPm hPx hS => ?_)
  obtain ⟨hw, hu⟩ := hq
  rw [hu] at hPm
  refine lv_pop hx hb dL_law_1016 rfl ?_
  refine lv_goto (tgt := 1303) hx hb dL_law_1017 (by decide) ?_
  exact hKx _ _ _ _ _ hw hPx hPm hS hl

def wL_28 (xs : Nat → Int32) (L : Nat) (v3 : Int32) (σ τ : St) (K : St → St → Prop) : Prop := wX9_apply σ (fun (r1 : Int32) (σ2 : St) => wX10_apply τ (fun (r3 : Int32) (τ4 : St) => K σ2 τ4))
set_option maxHeartbeats 4000000 in
set_option maxRecDepth 100000 in
theorem lc_28 {p : Program} {e : Env} {s : State} {m : MethodId} {below : List Frame} {meth : Method} {c : Code} (l : Launch) {b L : Nat} {xs : Nat → Int32} (C0 : lw_At p s m meth c b L xs) {D : va_G} {ad am : Nat → Nat} {cI cJ cZ : ClassId} {Ax Am : Nat → Prop} (X0 : lw_cx s D ad am cI cJ cZ Ax Am) (v3 : Int32) (K : St → St → Prop) (hKx : ∀ (σ τ : St) (H : Heap) (locs : List Loc) (ls : Array Slot), K σ τ → va_P D vwCl (xw ad cI cJ cZ σ) H → va_P D vwCl (mw am cI cJ cZ τ) H → va_S (fun q : Nat => s.heap.size ≤ q) s.heap H locs → lv_has ls 4 [(0, .ref b), (1, .ref (ad 0)), (2, .ref (am 0)), (3, .int v3)] → W p l e room_1 s m #[Value.ref b] below meth c H locs 52 10198 (lw_Z below #[Value.ref b] s) (F0 m 1303 ls [])) (σ τ : St) (H : Heap) (locs : List Loc) (ls : Array Slot) (hw : wL_28 xs L v3 σ τ K) (hPx : va_P D vwCl (xw ad cI cJ cZ σ) H) (hPm : va_P D vwCl (mw am cI cJ cZ τ) H) (hS : va_S (fun q : Nat => s.heap.size ≤ q) s.heap H locs) (hl : lv_has ls 4 [(0, .ref b), (1, .ref (ad 0)), (2, .ref (am 0)), (3, .int v3)]) : W p l e room_1 s m #[Value.ref b] below meth c H locs 52 10198 (lw_Z below #[Value.ref b] s) (F0 m 1020 ls []) := by
  obtain ⟨hx, hb, hr, hml, hown, hts, hX, hbl, hlocks, hgv⟩ := C0
  obtain ⟨hK, hN, hDx, hDm, hAx, hAm, hdx, hdm⟩ := X0
  have hbA : ¬ (fun q : Nat => s.heap.size ≤ q) b := Nat.not_le.mpr hbl
  unfold wL_28 at hw
  refine lv_aload_n hx hb dL_law_1020 rfl (lv_at hl 1 rfl) ?_
  refine wd_lVi ⟨hx, hb, hml, hown, hts⟩ (mtX9_apply l D ad cI cJ cZ Ax hDx σ  _ hw) (cwV 0 hts gl_X9_apply rfl rfl rfl (by decide +kernel) ⟨(Nat.le_of_ble_eq_true rfl), (Nat.le_of_ble_eq_true rfl)⟩) (va_recv hK hPx (ci := 9) (q0 := 0) rfl (xw_q0 ad cI cJ cZ σ)) hK hN hPx hPm hS hAx (hdx τ) rfl hl.1 rfl (Nat.le_of_ble_eq_true rfl) dL_law_1021 ⟨(Nat.le_of_ble_eq_true rfl), (Nat.le_of_ble_eq_true rfl)⟩ (fun r1 σ2 H locs hw hPx hPm hS => ?_)
  refine lv_pop hx hb dL_law_1024 rfl ?_
  refine lv_aload_n hx hb dL_law_1025 rfl (lv_at hl 2 rfl) ?_
  refine wd_lVi ⟨hx, hb, hml, hown, hts⟩ (mtX10_apply l D am cI cJ cZ Am hDm τ  _ hw) (cwV 0 hts gl_X10_apply rfl rfl rfl (by decide +kernel) ⟨(Nat.le_of_ble_eq_true rfl), (Nat.le_of_ble_eq_true rfl)⟩) (va_recv hK hPm (ci := 10) (q0 := 0) rfl (mw_q0 am cI cJ cZ τ)) hK hN hPm hPx hS hAm (hdm σ2) rfl hl.1 rfl (Nat.le_of_ble_eq_true rfl) dL_law_1026 ⟨(Nat.le_of_ble_eq_true rfl), (Nat.le_of_ble_eq_true rfl)⟩ (fun r3 τ4 H locs hw hPm hPx hS => ?_)
  refine lv_pop hx hb dL_law_1029 rfl ?_
  refine lv_goto (tgt := 1303) hx hb dL_law_1030 (by decide) ?_
  exact hKx _ _ _ _ _ hw hPx hPm hS hl

def wL_29 (xs : Nat → Int32) (L : Nat) (v3 : Int32) (σ τ : St) (K : St → St → Prop) : Prop := vp_in (v3 + (1 : Int32)) L ∧ (vp_in (v3 + (2 : Int32)) L ∧ (wX9_sheet σ (xs (v3 + (1 : Int32)).toNatClampNeg) (xs (v3 + (2 : Int32)).toNatClampNeg) (fun (r1 : Int32) (σ2 : St) => vp_in (v3 + (1 : Int32)) L ∧ (vp_in (v3 + (2 : Int32)) L ∧ (wX10_sheet τ (xs (v3 + (1 : Int32)).toNatClampNeg) (xs (v3 + (2 : Int32)).toNatClampNeg) (fun (r3 : Int32) (τ4 : St) => K σ2 τ4))))))
set_option maxHeartbeats 4000000 in
set_option maxRecDepth 100000 in
theorem lc_29 {p : Program} {e : Env} {s : State} {m : MethodId} {below : List Frame} {meth : Method} {c : Code} (l : Launch) {b L : Nat} {xs : Nat → Int32} (C0 : lw_At p s m meth c b L xs) {D : va_G} {ad am : Nat → Nat} {cI cJ cZ : ClassId} {Ax Am : Nat → Prop} (X0 : lw_cx s D ad am cI cJ cZ Ax Am) (v3 : Int32) (K : St → St → Prop) (hKx : ∀ (σ τ : St) (H : Heap) (locs : List Loc) (ls : Array Slot), K σ τ → va_P D vwCl (xw ad cI cJ cZ σ) H → va_P D vwCl (mw am cI cJ cZ τ) H → va_S (fun q : Nat => s.heap.size ≤ q) s.heap H locs → lv_has ls 4 [(0, .ref b), (1, .ref (ad 0)), (2, .ref (am 0)), (3, .int v3)] → W p l e room_1 s m #[Value.ref b] below meth c H locs 52 10198 (lw_Z below #[Value.ref b] s) (F0 m 1303 ls [])) (σ τ : St) (H : Heap) (locs : List Loc) (ls : Array Slot) (hw : wL_29 xs L v3 σ τ K) (hPx : va_P D vwCl (xw ad cI cJ cZ σ) H) (hPm : va_P D vwCl (mw am cI cJ cZ τ) H) (hS : va_S (fun q : Nat => s.heap.size ≤ q) s.heap H locs) (hl : lv_has ls 4 [(0, .ref b), (1, .ref (ad 0)), (2, .ref (am 0)), (3, .int v3)]) : W p l e room_1 s m #[Value.ref b] below meth c H locs 52 10198 (lw_Z below #[Value.ref b] s) (F0 m 1033 ls []) := by
  obtain ⟨hx, hb, hr, hml, hown, hts, hX, hbl, hlocks, hgv⟩ := C0
  obtain ⟨hK, hN, hDx, hDm, hAx, hAm, hdx, hdm⟩ := X0
  have hbA : ¬ (fun q : Nat => s.heap.size ≤ q) b := Nat.not_le.mpr hbl
  unfold wL_29 at hw
  refine lv_aload_n hx hb dL_law_1033 rfl (lv_at hl 1 rfl) ?_
  refine lv_aload_n hx hb dL_law_1034 rfl (lv_at hl 0 rfl) ?_
  refine lv_iload_n hx hb dL_law_1035 rfl (lv_at hl 3 rfl) ?_
  refine lv_iconst (v := 1) hx hb dL_law_1036 (by decide) ?_
  refine lv_iadd hx hb dL_law_1037 ?_
  obtain ⟨h9, hw⟩ := hw
  refine va_sld hx hb hX hbl hbA hS h9 dL_law_1038 ?_
  refine lv_aload_n hx hb dL_law_1039 rfl (lv_at hl 0 rfl) ?_
  refine lv_iload_n hx hb dL_law_1040 rfl (lv_at hl 3 rfl) ?_
  refine lv_iconst (v := 2) hx hb dL_law_1041 (by decide) ?_
  refine lv_iadd hx hb dL_law_1042 ?_
  obtain ⟨h9, hw⟩ := hw
  refine va_sld hx hb hX hbl hbA hS h9 dL_law_1043 ?_
  refine wd_lVi ⟨hx, hb, hml, hown, hts⟩ (mtX9_sheet l D ad cI cJ cZ Ax hDx σ (xs (v3 + (1 : Int32)).toNatClampNeg) (xs (v3 + (2 : Int32)).toNatClampNeg) _ hw) (cwV 2 hts gl_X9_sheet rfl rfl rfl (by decide +kernel) ⟨(Nat.le_of_ble_eq_true rfl), (Nat.le_of_ble_eq_true rfl)⟩) (va_recv hK hPx (ci := 9) (q0 := 0) rfl (xw_q0 ad cI cJ cZ σ)) hK hN hPx hPm hS hAx (hdx τ) rfl hl.1 rfl (Nat.le_of_ble_eq_true rfl) dL_law_1044 ⟨(Nat.le_of_ble_eq_true rfl), (Nat.le_of_ble_eq_true rfl)⟩ (fun r1 σ2 H locs hw hPx hPm hS => ?_)
  refine lv_pop hx hb dL_law_1047 rfl ?_
  refine lv_aload_n hx hb dL_law_1048 rfl (lv_at hl 2 rfl) ?_
  refine lv_aload_n hx hb dL_law_1049 rfl (lv_at hl 0 rfl) ?_
  refine lv_iload_n hx hb dL_law_1050 rfl (lv_at hl 3 rfl) ?_
  refine lv_iconst (v := 1) hx hb dL_law_1051 (by decide) ?_
  refine lv_iadd hx hb dL_law_1052 ?_
  obtain ⟨h9, hw⟩ := hw
  refine va_sld hx hb hX hbl hbA hS h9 dL_law_1053 ?_
  refine lv_aload_n hx hb dL_law_1054 rfl (lv_at hl 0 rfl) ?_
  refine lv_iload_n hx hb dL_law_1055 rfl (lv_at hl 3 rfl) ?_
  refine lv_iconst (v := 2) hx hb dL_law_1056 (by decide) ?_
  refine lv_iadd hx hb dL_law_1057 ?_
  obtain ⟨h9, hw⟩ := hw
  refine va_sld hx hb hX hbl hbA hS h9 dL_law_1058 ?_
  refine wd_lVi ⟨hx, hb, hml, hown, hts⟩ (mtX10_sheet l D am cI cJ cZ Am hDm τ (xs (v3 + (1 : Int32)).toNatClampNeg) (xs (v3 + (2 : Int32)).toNatClampNeg) _ hw) (cwV 2 hts gl_X10_sheet rfl rfl rfl (by decide +kernel) ⟨(Nat.le_of_ble_eq_true rfl), (Nat.le_of_ble_eq_true rfl)⟩) (va_recv hK hPm (ci := 10) (q0 := 0) rfl (mw_q0 am cI cJ cZ τ)) hK hN hPm hPx hS hAm (hdm σ2) rfl hl.1 rfl (Nat.le_of_ble_eq_true rfl) dL_law_1059 ⟨(Nat.le_of_ble_eq_true rfl), (Nat.le_of_ble_eq_true rfl)⟩ (fun r3 τ4 H locs hw hPm hPx hS => ?_)
  refine lv_pop hx hb dL_law_1062 rfl ?_
  refine lv_goto (tgt := 1303) hx hb dL_law_1063 (by decide) ?_
  exact hKx _ _ _ _ _ hw hPx hPm hS hl

def wL_30 (xs : Nat → Int32) (L : Nat) (v3 : Int32) (σ τ : St) (K : St → St → Prop) : Prop := vp_in (v3 + (1 : Int32)) L ∧ (wX9_save σ (xs (v3 + (1 : Int32)).toNatClampNeg) (fun (r1 : Int32) (σ2 : St) => vp_in (v3 + (1 : Int32)) L ∧ (wX10_save τ (xs (v3 + (1 : Int32)).toNatClampNeg) (fun (r3 : Int32) (τ4 : St) => K σ2 τ4))))
set_option maxHeartbeats 4000000 in
set_option maxRecDepth 100000 in
theorem lc_30 {p : Program} {e : Env} {s : State} {m : MethodId} {below : List Frame} {meth : Method} {c : Code} (l : Launch) {b L : Nat} {xs : Nat → Int32} (C0 : lw_At p s m meth c b L xs) {D : va_G} {ad am : Nat → Nat} {cI cJ cZ : ClassId} {Ax Am : Nat → Prop} (X0 : lw_cx s D ad am cI cJ cZ Ax Am) (v3 : Int32) (K : St → St → Prop) (hKx : ∀ (σ τ : St) (H : Heap) (locs : List Loc) (ls : Array Slot), K σ τ → va_P D vwCl (xw ad cI cJ cZ σ) H → va_P D vwCl (mw am cI cJ cZ τ) H → va_S (fun q : Nat => s.heap.size ≤ q) s.heap H locs → lv_has ls 4 [(0, .ref b), (1, .ref (ad 0)), (2, .ref (am 0)), (3, .int v3)] → W p l e room_1 s m #[Value.ref b] below meth c H locs 52 10198 (lw_Z below #[Value.ref b] s) (F0 m 1303 ls [])) (σ τ : St) (H : Heap) (locs : List Loc) (ls : Array Slot) (hw : wL_30 xs L v3 σ τ K) (hPx : va_P D vwCl (xw ad cI cJ cZ σ) H) (hPm : va_P D vwCl (mw am cI cJ cZ τ) H) (hS : va_S (fun q : Nat => s.heap.size ≤ q) s.heap H locs) (hl : lv_has ls 4 [(0, .ref b), (1, .ref (ad 0)), (2, .ref (am 0)), (3, .int v3)]) : W p l e room_1 s m #[Value.ref b] below meth c H locs 52 10198 (lw_Z below #[Value.ref b] s) (F0 m 1066 ls []) := by
  obtain ⟨hx, hb, hr, hml, hown, hts, hX, hbl, hlocks, hgv⟩ := C0
  obtain ⟨hK, hN, hDx, hDm, hAx, hAm, hdx, hdm⟩ := X0
  have hbA : ¬ (fun q : Nat => s.heap.size ≤ q) b := Nat.not_le.mpr hbl
  unfold wL_30 at hw
  refine lv_aload_n hx hb dL_law_1066 rfl (lv_at hl 1 rfl) ?_
  refine lv_aload_n hx hb dL_law_1067 rfl (lv_at hl 0 rfl) ?_
  refine lv_iload_n hx hb dL_law_1068 rfl (lv_at hl 3 rfl) ?_
  refine lv_iconst (v := 1) hx hb dL_law_1069 (by decide) ?_
  refine lv_iadd hx hb dL_law_1070 ?_
  obtain ⟨h9, hw⟩ := hw
  refine va_sld hx hb hX hbl hbA hS h9 dL_law_1071 ?_
  refine wd_lVi ⟨hx, hb, hml, hown, hts⟩ (mtX9_save l D ad cI cJ cZ Ax hDx σ (xs (v3 + (1 : Int32)).toNatClampNeg) _ hw) (cwV 1 hts gl_X9_save rfl rfl rfl (by decide +kernel) ⟨(Nat.le_of_ble_eq_true rfl), (Nat.le_of_ble_eq_true rfl)⟩) (va_recv hK hPx (ci := 9) (q0 := 0) rfl (xw_q0 ad cI cJ cZ σ)) hK hN hPx hPm hS hAx (hdx τ) rfl hl.1 rfl (Nat.le_of_ble_eq_true rfl) dL_law_1072 ⟨(Nat.le_of_ble_eq_true rfl), (Nat.le_of_ble_eq_true rfl)⟩ (fun r1 σ2 H locs hw hPx hPm hS => ?_)
  refine lv_pop hx hb dL_law_1075 rfl ?_
  refine lv_aload_n hx hb dL_law_1076 rfl (lv_at hl 2 rfl) ?_
  refine lv_aload_n hx hb dL_law_1077 rfl (lv_at hl 0 rfl) ?_
  refine lv_iload_n hx hb dL_law_1078 rfl (lv_at hl 3 rfl) ?_
  refine lv_iconst (v := 1) hx hb dL_law_1079 (by decide) ?_
  refine lv_iadd hx hb dL_law_1080 ?_
  obtain ⟨h9, hw⟩ := hw
  refine va_sld hx hb hX hbl hbA hS h9 dL_law_1081 ?_
  refine wd_lVi ⟨hx, hb, hml, hown, hts⟩ (mtX10_save l D am cI cJ cZ Am hDm τ (xs (v3 + (1 : Int32)).toNatClampNeg) _ hw) (cwV 1 hts gl_X10_save rfl rfl rfl (by decide +kernel) ⟨(Nat.le_of_ble_eq_true rfl), (Nat.le_of_ble_eq_true rfl)⟩) (va_recv hK hPm (ci := 10) (q0 := 0) rfl (mw_q0 am cI cJ cZ τ)) hK hN hPm hPx hS hAm (hdm σ2) rfl hl.1 rfl (Nat.le_of_ble_eq_true rfl) dL_law_1082 ⟨(Nat.le_of_ble_eq_true rfl), (Nat.le_of_ble_eq_true rfl)⟩ (fun r3 τ4 H locs hw hPm hPx hS => ?_)
  refine lv_pop hx hb dL_law_1085 rfl ?_
  refine lv_goto (tgt := 1303) hx hb dL_law_1086 (by decide) ?_
  exact hKx _ _ _ _ _ hw hPx hPm hS hl

def wL_31 (xs : Nat → Int32) (L : Nat) (v3 : Int32) (σ τ : St) (K : St → St → Prop) : Prop := vp_in (v3 + (1 : Int32)) L ∧ (vp_in (v3 + (2 : Int32)) L ∧ (vp_in (v3 + (3 : Int32)) L ∧ (wX9_load σ (xs (v3 + (1 : Int32)).toNatClampNeg) (xs (v3 + (2 : Int32)).toNatClampNeg) (xs (v3 + (3 : Int32)).toNatClampNeg) (fun (r1 : Int32) (σ2 : St) => vp_in (v3 + (1 : Int32)) L ∧ (vp_in (v3 + (2 : Int32)) L ∧ (vp_in (v3 + (3 : Int32)) L ∧ (wX10_load τ (xs (v3 + (1 : Int32)).toNatClampNeg) (xs (v3 + (2 : Int32)).toNatClampNeg) (xs (v3 + (3 : Int32)).toNatClampNeg) (fun (r3 : Int32) (τ4 : St) => K σ2 τ4))))))))
set_option maxHeartbeats 4000000 in
set_option maxRecDepth 100000 in
theorem lc_31 {p : Program} {e : Env} {s : State} {m : MethodId} {below : List Frame} {meth : Method} {c : Code} (l : Launch) {b L : Nat} {xs : Nat → Int32} (C0 : lw_At p s m meth c b L xs) {D : va_G} {ad am : Nat → Nat} {cI cJ cZ : ClassId} {Ax Am : Nat → Prop} (X0 : lw_cx s D ad am cI cJ cZ Ax Am) (v3 : Int32) (K : St → St → Prop) (hKx : ∀ (σ τ : St) (H : Heap) (locs : List Loc) (ls : Array Slot), K σ τ → va_P D vwCl (xw ad cI cJ cZ σ) H → va_P D vwCl (mw am cI cJ cZ τ) H → va_S (fun q : Nat => s.heap.size ≤ q) s.heap H locs → lv_has ls 4 [(0, .ref b), (1, .ref (ad 0)), (2, .ref (am 0)), (3, .int v3)] → W p l e room_1 s m #[Value.ref b] below meth c H locs 52 10198 (lw_Z below #[Value.ref b] s) (F0 m 1303 ls [])) (σ τ : St) (H : Heap) (locs : List Loc) (ls : Array Slot) (hw : wL_31 xs L v3 σ τ K) (hPx : va_P D vwCl (xw ad cI cJ cZ σ) H) (hPm : va_P D vwCl (mw am cI cJ cZ τ) H) (hS : va_S (fun q : Nat => s.heap.size ≤ q) s.heap H locs) (hl : lv_has ls 4 [(0, .ref b), (1, .ref (ad 0)), (2, .ref (am 0)), (3, .int v3)]) : W p l e room_1 s m #[Value.ref b] below meth c H locs 52 10198 (lw_Z below #[Value.ref b] s) (F0 m 1089 ls []) := by
  obtain ⟨hx, hb, hr, hml, hown, hts, hX, hbl, hlocks, hgv⟩ := C0
  obtain ⟨hK, hN, hDx, hDm, hAx, hAm, hdx, hdm⟩ := X0
  have hbA : ¬ (fun q : Nat => s.heap.size ≤ q) b := Nat.not_le.mpr hbl
  unfold wL_31 at hw
  refine lv_aload_n hx hb dL_law_1089 rfl (lv_at hl 1 rfl) ?_
  refine lv_aload_n hx hb dL_law_1090 rfl (lv_at hl 0 rfl) ?_
  refine lv_iload_n hx hb dL_law_1091 rfl (lv_at hl 3 rfl) ?_
  refine lv_iconst (v := 1) hx hb dL_law_1092 (by decide) ?_
  refine lv_iadd hx hb dL_law_1093 ?_
  obtain ⟨h9, hw⟩ := hw
  refine va_sld hx hb hX hbl hbA hS h9 dL_law_1094 ?_
  refine lv_aload_n hx hb dL_law_1095 rfl (lv_at hl 0 rfl) ?_
  refine lv_iload_n hx hb dL_law_1096 rfl (lv_at hl 3 rfl) ?_
  refine lv_iconst (v := 2) hx hb dL_law_1097 (by decide) ?_
  refine lv_iadd hx hb dL_law_1098 ?_
  obtain ⟨h9, hw⟩ := hw
  refine va_sld hx hb hX hbl hbA hS h9 dL_law_1099 ?_
  refine lv_aload_n hx hb dL_law_1100 rfl (lv_at hl 0 rfl) ?_
  refine lv_iload_n hx hb dL_law_1101 rfl (lv_at hl 3 rfl) ?_
  refine lv_iconst (v := 3) hx hb dL_law_1102 (by decide) ?_
  refine lv_iadd hx hb dL_law_1103 ?_
  obtain ⟨h9, hw⟩ := hw
  refine va_sld hx hb hX hbl hbA hS h9 dL_law_1104 ?_
  refine wd_lVi ⟨hx, hb, hml, hown, hts⟩ (mtX9_load l D ad cI cJ cZ Ax hDx σ (xs (v3 + (1 : Int32)).toNatClampNeg) (xs (v3 + (2 : Int32)).toNatClampNeg) (xs (v3 + (3 : Int32)).toNatClampNeg) _ hw) (cwV 3 hts gl_X9_load rfl rfl rfl (by decide +kernel) ⟨(Nat.le_of_ble_eq_true rfl), (Nat.le_of_ble_eq_true rfl)⟩) (va_recv hK hPx (ci := 9) (q0 := 0) rfl (xw_q0 ad cI cJ cZ σ)) hK hN hPx hPm hS hAx (hdx τ) rfl hl.1 rfl (Nat.le_of_ble_eq_true rfl) dL_law_1105 ⟨(Nat.le_of_ble_eq_true rfl), (Nat.le_of_ble_eq_true rfl)⟩ (fun r1 σ2 H locs hw hPx hPm hS => ?_)
  refine lv_pop hx hb dL_law_1108 rfl ?_
  refine lv_aload_n hx hb dL_law_1109 rfl (lv_at hl 2 rfl) ?_
  refine lv_aload_n hx hb dL_law_1110 rfl (lv_at hl 0 rfl) ?_
  refine lv_iload_n hx hb dL_law_1111 rfl (lv_at hl 3 rfl) ?_
  refine lv_iconst (v := 1) hx hb dL_law_1112 (by decide) ?_
  refine lv_iadd hx hb dL_law_1113 ?_
  obtain ⟨h9, hw⟩ := hw
  refine va_sld hx hb hX hbl hbA hS h9 dL_law_1114 ?_
  refine lv_aload_n hx hb dL_law_1115 rfl (lv_at hl 0 rfl) ?_
  refine lv_iload_n hx hb dL_law_1116 rfl (lv_at hl 3 rfl) ?_
  refine lv_iconst (v := 2) hx hb dL_law_1117 (by decide) ?_
  refine lv_iadd hx hb dL_law_1118 ?_
  obtain ⟨h9, hw⟩ := hw
  refine va_sld hx hb hX hbl hbA hS h9 dL_law_1119 ?_
  refine lv_aload_n hx hb dL_law_1120 rfl (lv_at hl 0 rfl) ?_
  refine lv_iload_n hx hb dL_law_1121 rfl (lv_at hl 3 rfl) ?_
  refine lv_iconst (v := 3) hx hb dL_law_1122 (by decide) ?_
  refine lv_iadd hx hb dL_law_1123 ?_
  obtain ⟨h9, hw⟩ := hw
  refine va_sld hx hb hX hbl hbA hS h9 dL_law_1124 ?_
  refine wd_lVi ⟨hx, hb, hml, hown, hts⟩ (mtX10_load l D am cI cJ cZ Am hDm τ (xs (v3 + (1 : Int32)).toNatClampNeg) (xs (v3 + (2 : Int32)).toNatClampNeg) (xs (v3 + (3 : Int32)).toNatClampNeg) _ hw) (cwV 3 hts gl_X10_load rfl rfl rfl (by decide +kernel) ⟨(Nat.le_of_ble_eq_true rfl), (Nat.le_of_ble_eq_true rfl)⟩) (va_recv hK hPm (ci := 10) (q0 := 0) rfl (mw_q0 am cI cJ cZ τ)) hK hN hPm hPx hS hAm (hdm σ2) rfl hl.1 rfl (Nat.le_of_ble_eq_true rfl) dL_law_1125 ⟨(Nat.le_of_ble_eq_true rfl), (Nat.le_of_ble_eq_true rfl)⟩ (fun r3 τ4 H locs hw hPm hPx hS => ?_)
  refine lv_pop hx hb dL_law_1128 rfl ?_
  refine lv_goto (tgt := 1303) hx hb dL_law_1129 (by decide) ?_
  exact hKx _ _ _ _ _ hw hPx hPm hS hl

def wL_32 (xs : Nat → Int32) (L : Nat) (v3 : Int32) (σ τ : St) (K : St → St → Prop) : Prop := vp_in (v3 + (1 : Int32)) L ∧ (wX9_tear σ (xs (v3 + (1 : Int32)).toNatClampNeg) (fun (r1 : Int32) (σ2 : St) => vp_in (v3 + (1 : Int32)) L ∧ (wX10_tear τ (xs (v3 + (1 : Int32)).toNatClampNeg) (fun (r3 : Int32) (τ4 : St) => K σ2 τ4))))
set_option maxHeartbeats 4000000 in
set_option maxRecDepth 100000 in
theorem lc_32 {p : Program} {e : Env} {s : State} {m : MethodId} {below : List Frame} {meth : Method} {c : Code} (l : Launch) {b L : Nat} {xs : Nat → Int32} (C0 : lw_At p s m meth c b L xs) {D : va_G} {ad am : Nat → Nat} {cI cJ cZ : ClassId} {Ax Am : Nat → Prop} (X0 : lw_cx s D ad am cI cJ cZ Ax Am) (v3 : Int32) (K : St → St → Prop) (hKx : ∀ (σ τ : St) (H : Heap) (locs : List Loc) (ls : Array Slot), K σ τ → va_P D vwCl (xw ad cI cJ cZ σ) H → va_P D vwCl (mw am cI cJ cZ τ) H → va_S (fun q : Nat => s.heap.size ≤ q) s.heap H locs → lv_has ls 4 [(0, .ref b), (1, .ref (ad 0)), (2, .ref (am 0)), (3, .int v3)] → W p l e room_1 s m #[Value.ref b] below meth c H locs 52 10198 (lw_Z below #[Value.ref b] s) (F0 m 1303 ls [])) (σ τ : St) (H : Heap) (locs : List Loc) (ls : Array Slot) (hw : wL_32 xs L v3 σ τ K) (hPx : va_P D vwCl (xw ad cI cJ cZ σ) H) (hPm : va_P D vwCl (mw am cI cJ cZ τ) H) (hS : va_S (fun q : Nat => s.heap.size ≤ q) s.heap H locs) (hl : lv_has ls 4 [(0, .ref b), (1, .ref (ad 0)), (2, .ref (am 0)), (3, .int v3)]) : W p l e room_1 s m #[Value.ref b] below meth c H locs 52 10198 (lw_Z below #[Value.ref b] s) (F0 m 1132 ls []) := by
  obtain ⟨hx, hb, hr, hml, hown, hts, hX, hbl, hlocks, hgv⟩ := C0
  obtain ⟨hK, hN, hDx, hDm, hAx, hAm, hdx, hdm⟩ := X0
  have hbA : ¬ (fun q : Nat => s.heap.size ≤ q) b := Nat.not_le.mpr hbl
  unfold wL_32 at hw
  refine lv_aload_n hx hb dL_law_1132 rfl (lv_at hl 1 rfl) ?_
  refine lv_aload_n hx hb dL_law_1133 rfl (lv_at hl 0 rfl) ?_
  refine lv_iload_n hx hb dL_law_1134 rfl (lv_at hl 3 rfl) ?_
  refine lv_iconst (v := 1) hx hb dL_law_1135 (by decide) ?_
  refine lv_iadd hx hb dL_law_1136 ?_
  obtain ⟨h9, hw⟩ := hw
  refine va_sld hx hb hX hbl hbA hS h9 dL_law_1137 ?_
  refine wd_lVi ⟨hx, hb, hml, hown, hts⟩ (mtX9_tear l D ad cI cJ cZ Ax hDx σ (xs (v3 + (1 : Int32)).toNatClampNeg) _ hw) (cwV 1 hts gl_X9_tear rfl rfl rfl (by decide +kernel) ⟨(Nat.le_of_ble_eq_true rfl), (Nat.le_of_ble_eq_true rfl)⟩) (va_recv hK hPx (ci := 9) (q0 := 0) rfl (xw_q0 ad cI cJ cZ σ)) hK hN hPx hPm hS hAx (hdx τ) rfl hl.1 rfl (Nat.le_of_ble_eq_true rfl) dL_law_1138 ⟨(Nat.le_of_ble_eq_true rfl), (Nat.le_of_ble_eq_true rfl)⟩ (fun r1 σ2 H locs hw hPx hPm hS => ?_)
  refine lv_pop hx hb dL_law_1141 rfl ?_
  refine lv_aload_n hx hb dL_law_1142 rfl (lv_at hl 2 rfl) ?_
  refine lv_aload_n hx hb dL_law_1143 rfl (lv_at hl 0 rfl) ?_
  refine lv_iload_n hx hb dL_law_1144 rfl (lv_at hl 3 rfl) ?_
  refine lv_iconst (v := 1) hx hb dL_law_1145 (by decide) ?_
  refine lv_iadd hx hb dL_law_1146 ?_
  obtain ⟨h9, hw⟩ := hw
  refine va_sld hx hb hX hbl hbA hS h9 dL_law_1147 ?_
  refine wd_lVi ⟨hx, hb, hml, hown, hts⟩ (mtX10_tear l D am cI cJ cZ Am hDm τ (xs (v3 + (1 : Int32)).toNatClampNeg) _ hw) (cwV 1 hts gl_X10_tear rfl rfl rfl (by decide +kernel) ⟨(Nat.le_of_ble_eq_true rfl), (Nat.le_of_ble_eq_true rfl)⟩) (va_recv hK hPm (ci := 10) (q0 := 0) rfl (mw_q0 am cI cJ cZ τ)) hK hN hPm hPx hS hAm (hdm σ2) rfl hl.1 rfl (Nat.le_of_ble_eq_true rfl) dL_law_1148 ⟨(Nat.le_of_ble_eq_true rfl), (Nat.le_of_ble_eq_true rfl)⟩ (fun r3 τ4 H locs hw hPm hPx hS => ?_)
  refine lv_pop hx hb dL_law_1151 rfl ?_
  refine lv_goto (tgt := 1303) hx hb dL_law_1152 (by decide) ?_
  exact hKx _ _ _ _ _ hw hPx hPm hS hl

def wL_33 (xs : Nat → Int32) (L : Nat) (v3 : Int32) (σ τ : St) (K : St → St → Prop) : Prop := vp_in (v3 + (1 : Int32)) L ∧ (vp_in (v3 + (2 : Int32)) L ∧ (vp_in (v3 + (3 : Int32)) L ∧ (vp_in (v3 + (4 : Int32)) L ∧ (vp_in (v3 + (5 : Int32)) L ∧ (wX9_copy σ (xs (v3 + (1 : Int32)).toNatClampNeg) (xs (v3 + (2 : Int32)).toNatClampNeg) (xs (v3 + (3 : Int32)).toNatClampNeg) (xs (v3 + (4 : Int32)).toNatClampNeg) (xs (v3 + (5 : Int32)).toNatClampNeg) (fun (r1 : Int32) (σ2 : St) => vp_in (v3 + (1 : Int32)) L ∧ (vp_in (v3 + (2 : Int32)) L ∧ (vp_in (v3 + (3 : Int32)) L ∧ (vp_in (v3 + (4 : Int32)) L ∧ (vp_in (v3 + (5 : Int32)) L ∧ (wX10_copy τ (xs (v3 + (1 : Int32)).toNatClampNeg) (xs (v3 + (2 : Int32)).toNatClampNeg) (xs (v3 + (3 : Int32)).toNatClampNeg) (xs (v3 + (4 : Int32)).toNatClampNeg) (xs (v3 + (5 : Int32)).toNatClampNeg) (fun (r3 : Int32) (τ4 : St) => (r1 = r3 → (K σ2 τ4)) ∧ (¬ r1 = r3 → (False))))))))))))))
set_option maxHeartbeats 4000000 in
set_option maxRecDepth 100000 in
theorem lc_33 {p : Program} {e : Env} {s : State} {m : MethodId} {below : List Frame} {meth : Method} {c : Code} (l : Launch) {b L : Nat} {xs : Nat → Int32} (C0 : lw_At p s m meth c b L xs) {D : va_G} {ad am : Nat → Nat} {cI cJ cZ : ClassId} {Ax Am : Nat → Prop} (X0 : lw_cx s D ad am cI cJ cZ Ax Am) (v3 : Int32) (K : St → St → Prop) (hKx : ∀ (σ τ : St) (H : Heap) (locs : List Loc) (ls : Array Slot), K σ τ → va_P D vwCl (xw ad cI cJ cZ σ) H → va_P D vwCl (mw am cI cJ cZ τ) H → va_S (fun q : Nat => s.heap.size ≤ q) s.heap H locs → lv_has ls 4 [(0, .ref b), (1, .ref (ad 0)), (2, .ref (am 0)), (3, .int v3)] → W p l e room_1 s m #[Value.ref b] below meth c H locs 52 10198 (lw_Z below #[Value.ref b] s) (F0 m 1303 ls [])) (σ τ : St) (H : Heap) (locs : List Loc) (ls : Array Slot) (hw : wL_33 xs L v3 σ τ K) (hPx : va_P D vwCl (xw ad cI cJ cZ σ) H) (hPm : va_P D vwCl (mw am cI cJ cZ τ) H) (hS : va_S (fun q : Nat => s.heap.size ≤ q) s.heap H locs) (hl : lv_has ls 4 [(0, .ref b), (1, .ref (ad 0)), (2, .ref (am 0)), (3, .int v3)]) : W p l e room_1 s m #[Value.ref b] below meth c H locs 52 10198 (lw_Z below #[Value.ref b] s) (F0 m 1155 ls []) := by
  obtain ⟨hx, hb, hr, hml, hown, hts, hX, hbl, hlocks, hgv⟩ := C0
  obtain ⟨hK, hN, hDx, hDm, hAx, hAm, hdx, hdm⟩ := X0
  have hbA : ¬ (fun q : Nat => s.heap.size ≤ q) b := Nat.not_le.mpr hbl
  unfold wL_33 at hw
  refine lv_aload_n hx hb dL_law_1155 rfl (lv_at hl 1 rfl) ?_
  refine lv_aload_n hx hb dL_law_1156 rfl (lv_at hl 0 rfl) ?_
  refine lv_iload_n hx hb dL_law_1157 rfl (lv_at hl 3 rfl) ?_
  refine lv_iconst (v := 1) hx hb dL_law_1158 (by decide) ?_
  refine lv_iadd hx hb dL_law_1159 ?_
  obtain ⟨h9, hw⟩ := hw
  refine va_sld hx hb hX hbl hbA hS h9 dL_law_1160 ?_
  refine lv_aload_n hx hb dL_law_1161 rfl (lv_at hl 0 rfl) ?_
  refine lv_iload_n hx hb dL_law_1162 rfl (lv_at hl 3 rfl) ?_
  refine lv_iconst (v := 2) hx hb dL_law_1163 (by decide) ?_
  refine lv_iadd hx hb dL_law_1164 ?_
  obtain ⟨h9, hw⟩ := hw
  refine va_sld hx hb hX hbl hbA hS h9 dL_law_1165 ?_
  refine lv_aload_n hx hb dL_law_1166 rfl (lv_at hl 0 rfl) ?_
  refine lv_iload_n hx hb dL_law_1167 rfl (lv_at hl 3 rfl) ?_
  refine lv_iconst (v := 3) hx hb dL_law_1168 (by decide) ?_
  refine lv_iadd hx hb dL_law_1169 ?_
  obtain ⟨h9, hw⟩ := hw
  refine va_sld hx hb hX hbl hbA hS h9 dL_law_1170 ?_
  refine lv_aload_n hx hb dL_law_1171 rfl (lv_at hl 0 rfl) ?_
  refine lv_iload_n hx hb dL_law_1172 rfl (lv_at hl 3 rfl) ?_
  refine lv_iconst (v := 4) hx hb dL_law_1173 (by decide) ?_
  refine lv_iadd hx hb dL_law_1174 ?_
  obtain ⟨h9, hw⟩ := hw
  refine va_sld hx hb hX hbl hbA hS h9 dL_law_1175 ?_
  refine lv_aload_n hx hb dL_law_1176 rfl (lv_at hl 0 rfl) ?_
  refine lv_iload_n hx hb dL_law_1177 rfl (lv_at hl 3 rfl) ?_
  refine lv_iconst (v := 5) hx hb dL_law_1178 (by decide) ?_
  refine lv_iadd hx hb dL_law_1179 ?_
  obtain ⟨h9, hw⟩ := hw
  refine va_sld hx hb hX hbl hbA hS h9 dL_law_1180 ?_
  refine wd_lVi ⟨hx, hb, hml, hown, hts⟩ (mtX9_copy l D ad cI cJ cZ Ax hDx σ (xs (v3 + (1 : Int32)).toNatClampNeg) (xs (v3 + (2 : Int32)).toNatClampNeg) (xs (v3 + (3 : Int32)).toNatClampNeg) (xs (v3 + (4 : Int32)).toNatClampNeg) (xs (v3 + (5 : Int32)).toNatClampNeg) _ hw) (cwV 5 hts gl_X9_copy rfl rfl rfl (by decide +kernel) ⟨(Nat.le_of_ble_eq_true rfl), (Nat.le_of_ble_eq_true rfl)⟩) (va_recv hK hPx (ci := 9) (q0 := 0) rfl (xw_q0 ad cI cJ cZ σ)) hK hN hPx hPm hS hAx (hdx τ) rfl hl.1 rfl (Nat.le_of_ble_eq_true rfl) dL_law_1181 ⟨(Nat.le_of_ble_eq_true rfl), (Nat.le_of_ble_eq_true rfl)⟩ (fun r1 σ2 H locs hw hPx hPm hS => ?_)
  refine lv_aload_n hx hb dL_law_1184 rfl (lv_at hl 2 rfl) ?_
  refine lv_aload_n hx hb dL_law_1185 rfl (lv_at hl 0 rfl) ?_
  refine lv_iload_n hx hb dL_law_1186 rfl (lv_at hl 3 rfl) ?_
  refine lv_iconst (v := 1) hx hb dL_law_1187 (by decide) ?_
  refine lv_iadd hx hb dL_law_1188 ?_
  obtain ⟨h9, hw⟩ := hw
  refine va_sld hx hb hX hbl hbA hS h9 dL_law_1189 ?_
  refine lv_aload_n hx hb dL_law_1190 rfl (lv_at hl 0 rfl) ?_
  refine lv_iload_n hx hb dL_law_1191 rfl (lv_at hl 3 rfl) ?_
  refine lv_iconst (v := 2) hx hb dL_law_1192 (by decide) ?_
  refine lv_iadd hx hb dL_law_1193 ?_
  obtain ⟨h9, hw⟩ := hw
  refine va_sld hx hb hX hbl hbA hS h9 dL_law_1194 ?_
  refine lv_aload_n hx hb dL_law_1195 rfl (lv_at hl 0 rfl) ?_
  refine lv_iload_n hx hb dL_law_1196 rfl (lv_at hl 3 rfl) ?_
  refine lv_iconst (v := 3) hx hb dL_law_1197 (by decide) ?_
  refine lv_iadd hx hb dL_law_1198 ?_
  obtain ⟨h9, hw⟩ := hw
  refine va_sld hx hb hX hbl hbA hS h9 dL_law_1199 ?_
  refine lv_aload_n hx hb dL_law_1200 rfl (lv_at hl 0 rfl) ?_
  refine lv_iload_n hx hb dL_law_1201 rfl (lv_at hl 3 rfl) ?_
  refine lv_iconst (v := 4) hx hb dL_law_1202 (by decide) ?_
  refine lv_iadd hx hb dL_law_1203 ?_
  obtain ⟨h9, hw⟩ := hw
  refine va_sld hx hb hX hbl hbA hS h9 dL_law_1204 ?_
  refine lv_aload_n hx hb dL_law_1205 rfl (lv_at hl 0 rfl) ?_
  refine lv_iload_n hx hb dL_law_1206 rfl (lv_at hl 3 rfl) ?_
  refine lv_iconst (v := 5) hx hb dL_law_1207 (by decide) ?_
  refine lv_iadd hx hb dL_law_1208 ?_
  obtain ⟨h9, hw⟩ := hw
  refine va_sld hx hb hX hbl hbA hS h9 dL_law_1209 ?_
  refine wd_lVi ⟨hx, hb, hml, hown, hts⟩ (mtX10_copy l D am cI cJ cZ Am hDm τ (xs (v3 + (1 : Int32)).toNatClampNeg) (xs (v3 + (2 : Int32)).toNatClampNeg) (xs (v3 + (3 : Int32)).toNatClampNeg) (xs (v3 + (4 : Int32)).toNatClampNeg) (xs (v3 + (5 : Int32)).toNatClampNeg) _ hw) (cwV 5 hts gl_X10_copy rfl rfl rfl (by decide +kernel) ⟨(Nat.le_of_ble_eq_true rfl), (Nat.le_of_ble_eq_true rfl)⟩) (va_recv hK hPm (ci := 10) (q0 := 0) rfl (mw_q0 am cI cJ cZ τ)) hK hN hPm hPx hS hAm (hdm σ2) rfl hl.1 rfl (Nat.le_of_ble_eq_true rfl) dL_law_1210 ⟨(Nat.le_of_ble_eq_true rfl), (Nat.le_of_ble_eq_true rfl)⟩ (fun r3 τ4 H locs hw hPm hPx hS => ?_)
  refine lv_icmp_eq (tgt := 1303) hx hb dL_law_1213 (by decide) (fun c9 => ?_) (fun c9 => ?_)
  · have hw := hw.1 c9
    exact hKx _ _ _ _ _ hw hPx hPm hS hl
  · have hw := hw.2 c9
    exact hw.elim

def wL_34 (xs : Nat → Int32) (L : Nat) (v3 : Int32) (σ τ : St) (K : St → St → Prop) : Prop := wX9_asked σ (fun (r1 : Int32) => wX10_asked τ (fun (r2 : Int32) => K σ τ))
set_option maxHeartbeats 4000000 in
set_option maxRecDepth 100000 in
theorem lc_34 {p : Program} {e : Env} {s : State} {m : MethodId} {below : List Frame} {meth : Method} {c : Code} (l : Launch) {b L : Nat} {xs : Nat → Int32} (C0 : lw_At p s m meth c b L xs) {D : va_G} {ad am : Nat → Nat} {cI cJ cZ : ClassId} {Ax Am : Nat → Prop} (X0 : lw_cx s D ad am cI cJ cZ Ax Am) (v3 : Int32) (K : St → St → Prop) (hKx : ∀ (σ τ : St) (H : Heap) (locs : List Loc) (ls : Array Slot), K σ τ → va_P D vwCl (xw ad cI cJ cZ σ) H → va_P D vwCl (mw am cI cJ cZ τ) H → va_S (fun q : Nat => s.heap.size ≤ q) s.heap H locs → lv_has ls 4 [(0, .ref b), (1, .ref (ad 0)), (2, .ref (am 0)), (3, .int v3)] → W p l e room_1 s m #[Value.ref b] below meth c H locs 52 10198 (lw_Z below #[Value.ref b] s) (F0 m 1303 ls [])) (σ τ : St) (H : Heap) (locs : List Loc) (ls : Array Slot) (hw : wL_34 xs L v3 σ τ K) (hPx : va_P D vwCl (xw ad cI cJ cZ σ) H) (hPm : va_P D vwCl (mw am cI cJ cZ τ) H) (hS : va_S (fun q : Nat => s.heap.size ≤ q) s.heap H locs) (hl : lv_has ls 4 [(0, .ref b), (1, .ref (ad 0)), (2, .ref (am 0)), (3, .int v3)]) : W p l e room_1 s m #[Value.ref b] below meth c H locs 52 10198 (lw_Z below #[Value.ref b] s) (F0 m 1218 ls []) := by
  obtain ⟨hx, hb, hr, hml, hown, hts, hX, hbl, hlocks, hgv⟩ := C0
  obtain ⟨hK, hN, hDx, hDm, hAx, hAm, hdx, hdm⟩ := X0
  have hbA : ¬ (fun q : Nat => s.heap.size ≤ q) b := Nat.not_le.mpr hbl
  unfold wL_34 at hw
  refine lv_aload_n hx hb dL_law_1218 rfl (lv_at hl 1 rfl) ?_
  refine wd_lVi ⟨hx, hb, hml, hown, hts⟩ (mtX9_asked l D ad cI cJ cZ Ax hDx σ  _ hw) (cwV 0 hts gl_X9_asked rfl rfl rfl (by decide +kernel) ⟨(Nat.le_of_ble_eq_true rfl), (Nat.le_of_ble_eq_true rfl)⟩) (va_recv hK hPx (ci := 9) (q0 := 0) rfl (xw_q0 ad cI cJ cZ σ)) hK hN hPx hPm hS hAx (hdx τ) rfl hl.1 rfl (Nat.le_of_ble_eq_true rfl) dL_law_1219 ⟨(Nat.le_of_ble_eq_true rfl), (Nat.le_of_ble_eq_true rfl)⟩ (fun r1 u9 H locs hq hPx hPm hS => ?_)
  obtain ⟨hw, hu⟩ := hq
  rw [hu] at hPx
  refine lv_pop hx hb dL_law_1222 rfl ?_
  refine lv_aload_n hx hb dL_law_1223 rfl (lv_at hl 2 rfl) ?_
  refine wd_lVi ⟨hx, hb, hml, hown, hts⟩ (mtX10_asked l D am cI cJ cZ Am hDm τ  _ hw) (cwV 0 hts gl_X10_asked rfl rfl rfl (by decide +kernel) ⟨(Nat.le_of_ble_eq_true rfl), (Nat.le_of_ble_eq_true rfl)⟩) (va_recv hK hPm (ci := 10) (q0 := 0) rfl (mw_q0 am cI cJ cZ τ)) hK hN hPm hPx hS hAm (hdm σ) rfl hl.1 rfl (Nat.le_of_ble_eq_true rfl) dL_law_1224 ⟨(Nat.le_of_ble_eq_true rfl), (Nat.le_of_ble_eq_true rfl)⟩ (fun r2 u9 H locs hq hPm hPx hS => ?_)
  obtain ⟨hw, hu⟩ := hq
  rw [hu] at hPm
  refine lv_pop hx hb dL_law_1227 rfl ?_
  refine lv_goto (tgt := 1303) hx hb dL_law_1228 (by decide) ?_
  exact hKx _ _ _ _ _ hw hPx hPm hS hl

def wL_35 (xs : Nat → Int32) (L : Nat) (v3 : Int32) (σ τ : St) (K : St → St → Prop) : Prop := vp_in (v3 + (1 : Int32)) L ∧ (wX9_count σ (xs (v3 + (1 : Int32)).toNatClampNeg) (fun (r1 : Int32) (σ2 : St) => vp_in (v3 + (1 : Int32)) L ∧ (wX10_count τ (xs (v3 + (1 : Int32)).toNatClampNeg) (fun (r3 : Int32) => K σ2 τ))))
set_option maxHeartbeats 4000000 in
set_option maxRecDepth 100000 in
theorem lc_35 {p : Program} {e : Env} {s : State} {m : MethodId} {below : List Frame} {meth : Method} {c : Code} (l : Launch) {b L : Nat} {xs : Nat → Int32} (C0 : lw_At p s m meth c b L xs) {D : va_G} {ad am : Nat → Nat} {cI cJ cZ : ClassId} {Ax Am : Nat → Prop} (X0 : lw_cx s D ad am cI cJ cZ Ax Am) (v3 : Int32) (K : St → St → Prop) (hKx : ∀ (σ τ : St) (H : Heap) (locs : List Loc) (ls : Array Slot), K σ τ → va_P D vwCl (xw ad cI cJ cZ σ) H → va_P D vwCl (mw am cI cJ cZ τ) H → va_S (fun q : Nat => s.heap.size ≤ q) s.heap H locs → lv_has ls 4 [(0, .ref b), (1, .ref (ad 0)), (2, .ref (am 0)), (3, .int v3)] → W p l e room_1 s m #[Value.ref b] below meth c H locs 52 10198 (lw_Z below #[Value.ref b] s) (F0 m 1303 ls [])) (σ τ : St) (H : Heap) (locs : List Loc) (ls : Array Slot) (hw : wL_35 xs L v3 σ τ K) (hPx : va_P D vwCl (xw ad cI cJ cZ σ) H) (hPm : va_P D vwCl (mw am cI cJ cZ τ) H) (hS : va_S (fun q : Nat => s.heap.size ≤ q) s.heap H locs) (hl : lv_has ls 4 [(0, .ref b), (1, .ref (ad 0)), (2, .ref (am 0)), (3, .int v3)]) : W p l e room_1 s m #[Value.ref b] below meth c H locs 52 10198 (lw_Z below #[Value.ref b] s) (F0 m 1231 ls []) := by
  obtain ⟨hx, hb, hr, hml, hown, hts, hX, hbl, hlocks, hgv⟩ := C0
  obtain ⟨hK, hN, hDx, hDm, hAx, hAm, hdx, hdm⟩ := X0
  have hbA : ¬ (fun q : Nat => s.heap.size ≤ q) b := Nat.not_le.mpr hbl
  unfold wL_35 at hw
  refine lv_aload_n hx hb dL_law_1231 rfl (lv_at hl 1 rfl) ?_
  refine lv_aload_n hx hb dL_law_1232 rfl (lv_at hl 0 rfl) ?_
  refine lv_iload_n hx hb dL_law_1233 rfl (lv_at hl 3 rfl) ?_
  refine lv_iconst (v := 1) hx hb dL_law_1234 (by decide) ?_
  refine lv_iadd hx hb dL_law_1235 ?_
  obtain ⟨h9, hw⟩ := hw
  refine va_sld hx hb hX hbl hbA hS h9 dL_law_1236 ?_
  refine wd_lVi ⟨hx, hb, hml, hown, hts⟩ (mtX9_count l D ad cI cJ cZ Ax hDx σ (xs (v3 + (1 : Int32)).toNatClampNeg) _ hw) (cwV 1 hts gl_X9_count rfl rfl rfl (by decide +kernel) ⟨(Nat.le_of_ble_eq_true rfl), (Nat.le_of_ble_eq_true rfl)⟩) (va_recv hK hPx (ci := 9) (q0 := 0) rfl (xw_q0 ad cI cJ cZ σ)) hK hN hPx hPm hS hAx (hdx τ) rfl hl.1 rfl (Nat.le_of_ble_eq_true rfl) dL_law_1237 ⟨(Nat.le_of_ble_eq_true rfl), (Nat.le_of_ble_eq_true rfl)⟩ (fun r1 σ2 H locs hw hPx hPm hS => ?_)
  refine lv_pop hx hb dL_law_1240 rfl ?_
  refine lv_aload_n hx hb dL_law_1241 rfl (lv_at hl 2 rfl) ?_
  refine lv_aload_n hx hb dL_law_1242 rfl (lv_at hl 0 rfl) ?_
  refine lv_iload_n hx hb dL_law_1243 rfl (lv_at hl 3 rfl) ?_
  refine lv_iconst (v := 1) hx hb dL_law_1244 (by decide) ?_
  refine lv_iadd hx hb dL_law_1245 ?_
  obtain ⟨h9, hw⟩ := hw
  refine va_sld hx hb hX hbl hbA hS h9 dL_law_1246 ?_
  refine wd_lVi ⟨hx, hb, hml, hown, hts⟩ (mtX10_count l D am cI cJ cZ Am hDm τ (xs (v3 + (1 : Int32)).toNatClampNeg) _ hw) (cwV 1 hts gl_X10_count rfl rfl rfl (by decide +kernel) ⟨(Nat.le_of_ble_eq_true rfl), (Nat.le_of_ble_eq_true rfl)⟩) (va_recv hK hPm (ci := 10) (q0 := 0) rfl (mw_q0 am cI cJ cZ τ)) hK hN hPm hPx hS hAm (hdm σ2) rfl hl.1 rfl (Nat.le_of_ble_eq_true rfl) dL_law_1247 ⟨(Nat.le_of_ble_eq_true rfl), (Nat.le_of_ble_eq_true rfl)⟩ (fun r3 u9 H locs hq hPm hPx hS => ?_)
  obtain ⟨hw, hu⟩ := hq
  rw [hu] at hPm
  refine lv_pop hx hb dL_law_1250 rfl ?_
  refine lv_goto (tgt := 1303) hx hb dL_law_1251 (by decide) ?_
  exact hKx _ _ _ _ _ hw hPx hPm hS hl

def wL_36 (xs : Nat → Int32) (L : Nat) (v3 : Int32) (σ τ : St) (K : St → St → Prop) : Prop := wX9_finding σ (fun (r1 : Int32) => wX10_finding τ (fun (r2 : Int32) => K σ τ))
set_option maxHeartbeats 4000000 in
set_option maxRecDepth 100000 in
theorem lc_36 {p : Program} {e : Env} {s : State} {m : MethodId} {below : List Frame} {meth : Method} {c : Code} (l : Launch) {b L : Nat} {xs : Nat → Int32} (C0 : lw_At p s m meth c b L xs) {D : va_G} {ad am : Nat → Nat} {cI cJ cZ : ClassId} {Ax Am : Nat → Prop} (X0 : lw_cx s D ad am cI cJ cZ Ax Am) (v3 : Int32) (K : St → St → Prop) (hKx : ∀ (σ τ : St) (H : Heap) (locs : List Loc) (ls : Array Slot), K σ τ → va_P D vwCl (xw ad cI cJ cZ σ) H → va_P D vwCl (mw am cI cJ cZ τ) H → va_S (fun q : Nat => s.heap.size ≤ q) s.heap H locs → lv_has ls 4 [(0, .ref b), (1, .ref (ad 0)), (2, .ref (am 0)), (3, .int v3)] → W p l e room_1 s m #[Value.ref b] below meth c H locs 52 10198 (lw_Z below #[Value.ref b] s) (F0 m 1303 ls [])) (σ τ : St) (H : Heap) (locs : List Loc) (ls : Array Slot) (hw : wL_36 xs L v3 σ τ K) (hPx : va_P D vwCl (xw ad cI cJ cZ σ) H) (hPm : va_P D vwCl (mw am cI cJ cZ τ) H) (hS : va_S (fun q : Nat => s.heap.size ≤ q) s.heap H locs) (hl : lv_has ls 4 [(0, .ref b), (1, .ref (ad 0)), (2, .ref (am 0)), (3, .int v3)]) : W p l e room_1 s m #[Value.ref b] below meth c H locs 52 10198 (lw_Z below #[Value.ref b] s) (F0 m 1254 ls []) := by
  obtain ⟨hx, hb, hr, hml, hown, hts, hX, hbl, hlocks, hgv⟩ := C0
  obtain ⟨hK, hN, hDx, hDm, hAx, hAm, hdx, hdm⟩ := X0
  have hbA : ¬ (fun q : Nat => s.heap.size ≤ q) b := Nat.not_le.mpr hbl
  unfold wL_36 at hw
  refine lv_aload_n hx hb dL_law_1254 rfl (lv_at hl 1 rfl) ?_
  refine wd_lVi ⟨hx, hb, hml, hown, hts⟩ (mtX9_finding l D ad cI cJ cZ Ax hDx σ  _ hw) (cwV 0 hts gl_X9_finding rfl rfl rfl (by decide +kernel) ⟨(Nat.le_of_ble_eq_true rfl), (Nat.le_of_ble_eq_true rfl)⟩) (va_recv hK hPx (ci := 9) (q0 := 0) rfl (xw_q0 ad cI cJ cZ σ)) hK hN hPx hPm hS hAx (hdx τ) rfl hl.1 rfl (Nat.le_of_ble_eq_true rfl) dL_law_1255 ⟨(Nat.le_of_ble_eq_true rfl), (Nat.le_of_ble_eq_true rfl)⟩ (fun r1 u9 H locs hq hPx hPm hS => ?_)
  obtain ⟨hw, hu⟩ := hq
  rw [hu] at hPx
  refine lv_pop hx hb dL_law_1258 rfl ?_
  refine lv_aload_n hx hb dL_law_1259 rfl (lv_at hl 2 rfl) ?_
  refine wd_lVi ⟨hx, hb, hml, hown, hts⟩ (mtX10_finding l D am cI cJ cZ Am hDm τ  _ hw) (cwV 0 hts gl_X10_finding rfl rfl rfl (by decide +kernel) ⟨(Nat.le_of_ble_eq_true rfl), (Nat.le_of_ble_eq_true rfl)⟩) (va_recv hK hPm (ci := 10) (q0 := 0) rfl (mw_q0 am cI cJ cZ τ)) hK hN hPm hPx hS hAm (hdm σ) rfl hl.1 rfl (Nat.le_of_ble_eq_true rfl) dL_law_1260 ⟨(Nat.le_of_ble_eq_true rfl), (Nat.le_of_ble_eq_true rfl)⟩ (fun r2 u9 H locs hq hPm hPx hS => ?_)
  obtain ⟨hw, hu⟩ := hq
  rw [hu] at hPm
  refine lv_pop hx hb dL_law_1263 rfl ?_
  refine lv_goto (tgt := 1303) hx hb dL_law_1264 (by decide) ?_
  exact hKx _ _ _ _ _ hw hPx hPm hS hl

def wL_37 (xs : Nat → Int32) (L : Nat) (v3 : Int32) (σ τ : St) (K : St → St → Prop) : Prop := vp_in (v3 + (1 : Int32)) L ∧ (wX9_findings σ (xs (v3 + (1 : Int32)).toNatClampNeg) (fun (r1 : Int32) => vp_in (v3 + (1 : Int32)) L ∧ (wX10_findings τ (xs (v3 + (1 : Int32)).toNatClampNeg) (fun (r2 : Int32) => K σ τ))))
set_option maxHeartbeats 4000000 in
set_option maxRecDepth 100000 in
theorem lc_37 {p : Program} {e : Env} {s : State} {m : MethodId} {below : List Frame} {meth : Method} {c : Code} (l : Launch) {b L : Nat} {xs : Nat → Int32} (C0 : lw_At p s m meth c b L xs) {D : va_G} {ad am : Nat → Nat} {cI cJ cZ : ClassId} {Ax Am : Nat → Prop} (X0 : lw_cx s D ad am cI cJ cZ Ax Am) (v3 : Int32) (K : St → St → Prop) (hKx : ∀ (σ τ : St) (H : Heap) (locs : List Loc) (ls : Array Slot), K σ τ → va_P D vwCl (xw ad cI cJ cZ σ) H → va_P D vwCl (mw am cI cJ cZ τ) H → va_S (fun q : Nat => s.heap.size ≤ q) s.heap H locs → lv_has ls 4 [(0, .ref b), (1, .ref (ad 0)), (2, .ref (am 0)), (3, .int v3)] → W p l e room_1 s m #[Value.ref b] below meth c H locs 52 10198 (lw_Z below #[Value.ref b] s) (F0 m 1303 ls [])) (σ τ : St) (H : Heap) (locs : List Loc) (ls : Array Slot) (hw : wL_37 xs L v3 σ τ K) (hPx : va_P D vwCl (xw ad cI cJ cZ σ) H) (hPm : va_P D vwCl (mw am cI cJ cZ τ) H) (hS : va_S (fun q : Nat => s.heap.size ≤ q) s.heap H locs) (hl : lv_has ls 4 [(0, .ref b), (1, .ref (ad 0)), (2, .ref (am 0)), (3, .int v3)]) : W p l e room_1 s m #[Value.ref b] below meth c H locs 52 10198 (lw_Z below #[Value.ref b] s) (F0 m 1267 ls []) := by
  obtain ⟨hx, hb, hr, hml, hown, hts, hX, hbl, hlocks, hgv⟩ := C0
  obtain ⟨hK, hN, hDx, hDm, hAx, hAm, hdx, hdm⟩ := X0
  have hbA : ¬ (fun q : Nat => s.heap.size ≤ q) b := Nat.not_le.mpr hbl
  unfold wL_37 at hw
  refine lv_aload_n hx hb dL_law_1267 rfl (lv_at hl 1 rfl) ?_
  refine lv_aload_n hx hb dL_law_1268 rfl (lv_at hl 0 rfl) ?_
  refine lv_iload_n hx hb dL_law_1269 rfl (lv_at hl 3 rfl) ?_
  refine lv_iconst (v := 1) hx hb dL_law_1270 (by decide) ?_
  refine lv_iadd hx hb dL_law_1271 ?_
  obtain ⟨h9, hw⟩ := hw
  refine va_sld hx hb hX hbl hbA hS h9 dL_law_1272 ?_
  refine wd_lVi ⟨hx, hb, hml, hown, hts⟩ (mtX9_findings l D ad cI cJ cZ Ax hDx σ (xs (v3 + (1 : Int32)).toNatClampNeg) _ hw) (cwV 1 hts gl_X9_findings rfl rfl rfl (by decide +kernel) ⟨(Nat.le_of_ble_eq_true rfl), (Nat.le_of_ble_eq_true rfl)⟩) (va_recv hK hPx (ci := 9) (q0 := 0) rfl (xw_q0 ad cI cJ cZ σ)) hK hN hPx hPm hS hAx (hdx τ) rfl hl.1 rfl (Nat.le_of_ble_eq_true rfl) dL_law_1273 ⟨(Nat.le_of_ble_eq_true rfl), (Nat.le_of_ble_eq_true rfl)⟩ (fun r1 u9 H locs hq hPx hPm hS => ?_)
  obtain ⟨hw, hu⟩ := hq
  rw [hu] at hPx
  refine lv_pop hx hb dL_law_1276 rfl ?_
  refine lv_aload_n hx hb dL_law_1277 rfl (lv_at hl 2 rfl) ?_
  refine lv_aload_n hx hb dL_law_1278 rfl (lv_at hl 0 rfl) ?_
  refine lv_iload_n hx hb dL_law_1279 rfl (lv_at hl 3 rfl) ?_
  refine lv_iconst (v := 1) hx hb dL_law_1280 (by decide) ?_
  refine lv_iadd hx hb dL_law_1281 ?_
  obtain ⟨h9, hw⟩ := hw
  refine va_sld hx hb hX hbl hbA hS h9 dL_law_1282 ?_
  refine wd_lVi ⟨hx, hb, hml, hown, hts⟩ (mtX10_findings l D am cI cJ cZ Am hDm τ (xs (v3 + (1 : Int32)).toNatClampNeg) _ hw) (cwV 1 hts gl_X10_findings rfl rfl rfl (by decide +kernel) ⟨(Nat.le_of_ble_eq_true rfl), (Nat.le_of_ble_eq_true rfl)⟩) (va_recv hK hPm (ci := 10) (q0 := 0) rfl (mw_q0 am cI cJ cZ τ)) hK hN hPm hPx hS hAm (hdm σ) rfl hl.1 rfl (Nat.le_of_ble_eq_true rfl) dL_law_1283 ⟨(Nat.le_of_ble_eq_true rfl), (Nat.le_of_ble_eq_true rfl)⟩ (fun r2 u9 H locs hq hPm hPx hS => ?_)
  obtain ⟨hw, hu⟩ := hq
  rw [hu] at hPm
  refine lv_pop hx hb dL_law_1286 rfl ?_
  refine lv_goto (tgt := 1303) hx hb dL_law_1287 (by decide) ?_
  exact hKx _ _ _ _ _ hw hPx hPm hS hl

def wL_38 (xs : Nat → Int32) (L : Nat) (v3 : Int32) (σ τ : St) (K : St → St → Prop) : Prop := wX9_digest σ (fun (r1 : Int64) (σ2 : St) => wX10_digest τ (fun (r3 : Int64) => K σ2 τ))
set_option maxHeartbeats 4000000 in
set_option maxRecDepth 100000 in
theorem lc_38 {p : Program} {e : Env} {s : State} {m : MethodId} {below : List Frame} {meth : Method} {c : Code} (l : Launch) {b L : Nat} {xs : Nat → Int32} (C0 : lw_At p s m meth c b L xs) {D : va_G} {ad am : Nat → Nat} {cI cJ cZ : ClassId} {Ax Am : Nat → Prop} (X0 : lw_cx s D ad am cI cJ cZ Ax Am) (v3 : Int32) (K : St → St → Prop) (hKx : ∀ (σ τ : St) (H : Heap) (locs : List Loc) (ls : Array Slot), K σ τ → va_P D vwCl (xw ad cI cJ cZ σ) H → va_P D vwCl (mw am cI cJ cZ τ) H → va_S (fun q : Nat => s.heap.size ≤ q) s.heap H locs → lv_has ls 4 [(0, .ref b), (1, .ref (ad 0)), (2, .ref (am 0)), (3, .int v3)] → W p l e room_1 s m #[Value.ref b] below meth c H locs 52 10198 (lw_Z below #[Value.ref b] s) (F0 m 1303 ls [])) (σ τ : St) (H : Heap) (locs : List Loc) (ls : Array Slot) (hw : wL_38 xs L v3 σ τ K) (hPx : va_P D vwCl (xw ad cI cJ cZ σ) H) (hPm : va_P D vwCl (mw am cI cJ cZ τ) H) (hS : va_S (fun q : Nat => s.heap.size ≤ q) s.heap H locs) (hl : lv_has ls 4 [(0, .ref b), (1, .ref (ad 0)), (2, .ref (am 0)), (3, .int v3)]) : W p l e room_1 s m #[Value.ref b] below meth c H locs 52 10198 (lw_Z below #[Value.ref b] s) (F0 m 1290 ls []) := by
  obtain ⟨hx, hb, hr, hml, hown, hts, hX, hbl, hlocks, hgv⟩ := C0
  obtain ⟨hK, hN, hDx, hDm, hAx, hAm, hdx, hdm⟩ := X0
  have hbA : ¬ (fun q : Nat => s.heap.size ≤ q) b := Nat.not_le.mpr hbl
  unfold wL_38 at hw
  refine lv_aload_n hx hb dL_law_1290 rfl (lv_at hl 1 rfl) ?_
  refine wd_lVl ⟨hx, hb, hml, hown, hts⟩ (mtX9_digest l D ad cI cJ cZ Ax hDx σ  _ hw) (cwV 0 hts gl_X9_digest rfl rfl rfl (by decide +kernel) ⟨(Nat.le_of_ble_eq_true rfl), (Nat.le_of_ble_eq_true rfl)⟩) (va_recv hK hPx (ci := 9) (q0 := 0) rfl (xw_q0 ad cI cJ cZ σ)) hK hN hPx hPm hS hAx (hdx τ) rfl hl.1 rfl (Nat.le_of_ble_eq_true rfl) dL_law_1291 ⟨(Nat.le_of_ble_eq_true rfl), (Nat.le_of_ble_eq_true rfl)⟩ (fun r1 σ2 H locs hw hPx hPm hS => ?_)
  refine lv_pop2_2 hx hb dL_law_1294 rfl ?_
  refine lv_aload_n hx hb dL_law_1295 rfl (lv_at hl 2 rfl) ?_
  refine wd_lVl ⟨hx, hb, hml, hown, hts⟩ (mtX10_digest l D am cI cJ cZ Am hDm τ  _ hw) (cwV 0 hts gl_X10_digest rfl rfl rfl (by decide +kernel) ⟨(Nat.le_of_ble_eq_true rfl), (Nat.le_of_ble_eq_true rfl)⟩) (va_recv hK hPm (ci := 10) (q0 := 0) rfl (mw_q0 am cI cJ cZ τ)) hK hN hPm hPx hS hAm (hdm σ2) rfl hl.1 rfl (Nat.le_of_ble_eq_true rfl) dL_law_1296 ⟨(Nat.le_of_ble_eq_true rfl), (Nat.le_of_ble_eq_true rfl)⟩ (fun r3 u9 H locs hq hPm hPx hS => ?_)
  obtain ⟨hw, hu⟩ := hq
  rw [hu] at hPm
  refine lv_pop2_2 hx hb dL_law_1299 rfl ?_
  refine lv_goto (tgt := 1303) hx hb dL_law_1300 (by decide) ?_
  exact hKx _ _ _ _ _ hw hPx hPm hS hl

def lpL (xs : Nat → Int32) (L : Nat) : Nat → Int32 → St → St → Prop
  | 0, _, _, _ => False
  | n + 1, v3, σ, τ => ¬ Int32.ofNat L - 6 < v3 → (vp_in v3 L ∧ (∀ x1 : Int32, x1 = (xs v3.toNatClampNeg) &&& 63 → ((x1 = 0 → wL_0 xs L v3 σ τ (fun σ' τ' => ∀ x2 : Int32, x2 = v3 + 6 → lpL xs L n x2 σ' τ')) ∧ (x1 = 1 → wL_1 xs L v3 σ τ (fun σ' τ' => ∀ x2 : Int32, x2 = v3 + 6 → lpL xs L n x2 σ' τ')) ∧ (x1 = 2 → wL_2 xs L v3 σ τ (fun σ' τ' => ∀ x2 : Int32, x2 = v3 + 6 → lpL xs L n x2 σ' τ')) ∧ (x1 = 3 → wL_3 xs L v3 σ τ (fun σ' τ' => ∀ x2 : Int32, x2 = v3 + 6 → lpL xs L n x2 σ' τ')) ∧ (x1 = 4 → wL_4 xs L v3 σ τ (fun σ' τ' => ∀ x2 : Int32, x2 = v3 + 6 → lpL xs L n x2 σ' τ')) ∧ (x1 = 5 → wL_5 xs L v3 σ τ (fun σ' τ' => ∀ x2 : Int32, x2 = v3 + 6 → lpL xs L n x2 σ' τ')) ∧ (x1 = 6 → wL_6 xs L v3 σ τ (fun σ' τ' => ∀ x2 : Int32, x2 = v3 + 6 → lpL xs L n x2 σ' τ')) ∧ (x1 = 7 → wL_7 xs L v3 σ τ (fun σ' τ' => ∀ x2 : Int32, x2 = v3 + 6 → lpL xs L n x2 σ' τ')) ∧ (x1 = 8 → wL_8 xs L v3 σ τ (fun σ' τ' => ∀ x2 : Int32, x2 = v3 + 6 → lpL xs L n x2 σ' τ')) ∧ (x1 = 9 → wL_9 xs L v3 σ τ (fun σ' τ' => ∀ x2 : Int32, x2 = v3 + 6 → lpL xs L n x2 σ' τ')) ∧ (x1 = 10 → wL_10 xs L v3 σ τ (fun σ' τ' => ∀ x2 : Int32, x2 = v3 + 6 → lpL xs L n x2 σ' τ')) ∧ (x1 = 11 → wL_11 xs L v3 σ τ (fun σ' τ' => ∀ x2 : Int32, x2 = v3 + 6 → lpL xs L n x2 σ' τ')) ∧ (x1 = 12 → wL_12 xs L v3 σ τ (fun σ' τ' => ∀ x2 : Int32, x2 = v3 + 6 → lpL xs L n x2 σ' τ')) ∧ (x1 = 13 → wL_13 xs L v3 σ τ (fun σ' τ' => ∀ x2 : Int32, x2 = v3 + 6 → lpL xs L n x2 σ' τ')) ∧ (x1 = 14 → wL_14 xs L v3 σ τ (fun σ' τ' => ∀ x2 : Int32, x2 = v3 + 6 → lpL xs L n x2 σ' τ')) ∧ (x1 = 15 → wL_15 xs L v3 σ τ (fun σ' τ' => ∀ x2 : Int32, x2 = v3 + 6 → lpL xs L n x2 σ' τ')) ∧ (x1 = 16 → wL_16 xs L v3 σ τ (fun σ' τ' => ∀ x2 : Int32, x2 = v3 + 6 → lpL xs L n x2 σ' τ')) ∧ (x1 = 17 → wL_17 xs L v3 σ τ (fun σ' τ' => ∀ x2 : Int32, x2 = v3 + 6 → lpL xs L n x2 σ' τ')) ∧ (x1 = 18 → wL_18 xs L v3 σ τ (fun σ' τ' => ∀ x2 : Int32, x2 = v3 + 6 → lpL xs L n x2 σ' τ')) ∧ (x1 = 19 → wL_19 xs L v3 σ τ (fun σ' τ' => ∀ x2 : Int32, x2 = v3 + 6 → lpL xs L n x2 σ' τ')) ∧ (x1 = 20 → wL_20 xs L v3 σ τ (fun σ' τ' => ∀ x2 : Int32, x2 = v3 + 6 → lpL xs L n x2 σ' τ')) ∧ (x1 = 21 → wL_21 xs L v3 σ τ (fun σ' τ' => ∀ x2 : Int32, x2 = v3 + 6 → lpL xs L n x2 σ' τ')) ∧ (x1 = 22 → wL_22 xs L v3 σ τ (fun σ' τ' => ∀ x2 : Int32, x2 = v3 + 6 → lpL xs L n x2 σ' τ')) ∧ (x1 = 23 → wL_23 xs L v3 σ τ (fun σ' τ' => ∀ x2 : Int32, x2 = v3 + 6 → lpL xs L n x2 σ' τ')) ∧ (x1 = 24 → wL_24 xs L v3 σ τ (fun σ' τ' => ∀ x2 : Int32, x2 = v3 + 6 → lpL xs L n x2 σ' τ')) ∧ (x1 = 25 → wL_25 xs L v3 σ τ (fun σ' τ' => ∀ x2 : Int32, x2 = v3 + 6 → lpL xs L n x2 σ' τ')) ∧ (x1 = 26 → wL_26 xs L v3 σ τ (fun σ' τ' => ∀ x2 : Int32, x2 = v3 + 6 → lpL xs L n x2 σ' τ')) ∧ (x1 = 27 → wL_27 xs L v3 σ τ (fun σ' τ' => ∀ x2 : Int32, x2 = v3 + 6 → lpL xs L n x2 σ' τ')) ∧ (x1 = 28 → wL_28 xs L v3 σ τ (fun σ' τ' => ∀ x2 : Int32, x2 = v3 + 6 → lpL xs L n x2 σ' τ')) ∧ (x1 = 29 → wL_29 xs L v3 σ τ (fun σ' τ' => ∀ x2 : Int32, x2 = v3 + 6 → lpL xs L n x2 σ' τ')) ∧ (x1 = 30 → wL_30 xs L v3 σ τ (fun σ' τ' => ∀ x2 : Int32, x2 = v3 + 6 → lpL xs L n x2 σ' τ')) ∧ (x1 = 31 → wL_31 xs L v3 σ τ (fun σ' τ' => ∀ x2 : Int32, x2 = v3 + 6 → lpL xs L n x2 σ' τ')) ∧ (x1 = 32 → wL_32 xs L v3 σ τ (fun σ' τ' => ∀ x2 : Int32, x2 = v3 + 6 → lpL xs L n x2 σ' τ')) ∧ (x1 = 33 → wL_33 xs L v3 σ τ (fun σ' τ' => ∀ x2 : Int32, x2 = v3 + 6 → lpL xs L n x2 σ' τ')) ∧ (x1 = 34 → wL_34 xs L v3 σ τ (fun σ' τ' => ∀ x2 : Int32, x2 = v3 + 6 → lpL xs L n x2 σ' τ')) ∧ (x1 = 35 → wL_35 xs L v3 σ τ (fun σ' τ' => ∀ x2 : Int32, x2 = v3 + 6 → lpL xs L n x2 σ' τ')) ∧ (x1 = 36 → wL_36 xs L v3 σ τ (fun σ' τ' => ∀ x2 : Int32, x2 = v3 + 6 → lpL xs L n x2 σ' τ')) ∧ (x1 = 37 → wL_37 xs L v3 σ τ (fun σ' τ' => ∀ x2 : Int32, x2 = v3 + 6 → lpL xs L n x2 σ' τ')) ∧ (x1 = 38 → wL_38 xs L v3 σ τ (fun σ' τ' => ∀ x2 : Int32, x2 = v3 + 6 → lpL xs L n x2 σ' τ')) ∧ (x1.toInt < 0 ∨ 38 < x1.toInt → ∀ x2 : Int32, x2 = v3 + 6 → lpL xs L n x2 σ τ))))
set_option maxHeartbeats 4000000 in
set_option maxRecDepth 100000 in
theorem law_loop {p : Program} {e : Env} {s : State} {m : MethodId} {below : List Frame} {meth : Method} {c : Code} (l : Launch) {b L : Nat} {xs : Nat → Int32} (C0 : lw_At p s m meth c b L xs) {D : va_G} {ad am : Nat → Nat} {cI cJ cZ : ClassId} {Ax Am : Nat → Prop} (X0 : lw_cx s D ad am cI cJ cZ Ax Am) : ∀ (n : Nat) (v3 : Int32) (σ τ : St) (H : Heap) (locs : List Loc) (ls : Array Slot), lpL xs L n v3 σ τ → va_P D vwCl (xw ad cI cJ cZ σ) H → va_P D vwCl (mw am cI cJ cZ τ) H → va_S (fun q : Nat => s.heap.size ≤ q) s.heap H locs → lv_has ls 4 [(0, .ref b), (1, .ref (ad 0)), (2, .ref (am 0)), (3, .int v3)] → W p l e room_1 s m #[Value.ref b] below meth c H locs 52 10198 (lw_Z below #[Value.ref b] s) (F0 m 18 ls []) := by
  have C1 := C0
  have X1 := X0
  obtain ⟨hx, hb, hr, hml, hown, hts, hX, hbl, hlocks, hgv⟩ := C0
  obtain ⟨hK, hN, hDx, hDm, hAx, hAm, hdx, hdm⟩ := X0
  have hbA : ¬ (fun q : Nat => s.heap.size ≤ q) b := Nat.not_le.mpr hbl
  intro n
  induction n with
  | zero => intro v3 σ τ H locs ls hw; exact hw.elim
  | succ n ih =>
    intro v3 σ τ H locs ls hw hPx hPm hS hl
    rw [lpL] at hw
    refine lv_iload_n hx hb dL_law_18 rfl (lv_at hl 3 rfl) ?_
    refine lv_aload_n hx hb dL_law_19 rfl (lv_at hl 0 rfl) ?_
    refine va_slen hx hb hX hbl hbA hS dL_law_20 ?_
    refine lv_bipush (v := 6) hx hb dL_law_21 (by decide) ?_
    refine lv_isub hx hb dL_law_23 ?_
    refine lv_icmp_gt (tgt := 1309) hx hb dL_law_24 (by decide) (fun c9 => ?_) (fun c9 => ?_)
    · refine lv_iconst (v := 1) hx hb dL_law_1309 (by decide) ?_
      refine va_forget (fun q hq => hS.2.2 q hq) ?_
      exact lw_ret hx hb hr hlocks dL_law_1310
    · have hw := hw c9
      refine lv_aload_n hx hb dL_law_27 rfl (lv_at hl 0 rfl) ?_
      refine lv_iload_n hx hb dL_law_28 rfl (lv_at hl 3 rfl) ?_
      obtain ⟨h9, hw⟩ := hw
      refine va_sld hx hb hX hbl hbA hS h9 dL_law_29 ?_
      refine lv_bipush (v := 63) hx hb dL_law_30 (by decide) ?_
      refine lv_iand hx hb dL_law_32 ?_
      refine lv_topi (fun x1 e1 => ?_)
      have hw := hw x1 e1
      have hend : ∀ (σ τ : St) (H : Heap) (locs : List Loc) (ls : Array Slot), (∀ x2 : Int32, x2 = v3 + 6 → lpL xs L n x2 σ τ) → va_P D vwCl (xw ad cI cJ cZ σ) H → va_P D vwCl (mw am cI cJ cZ τ) H → va_S (fun q : Nat => s.heap.size ≤ q) s.heap H locs → lv_has ls 4 [(0, .ref b), (1, .ref (ad 0)), (2, .ref (am 0)), (3, .int v3)] → W p l e room_1 s m #[Value.ref b] below meth c H locs 52 10198 (lw_Z below #[Value.ref b] s) (F0 m 1303 ls []) := by
        intro σ τ H locs ls hw hPx hPm hS hl
        obtain ⟨x2, ex2⟩ : ∃ z : Int32, z = v3 + 6 := ⟨_, rfl⟩
        refine lv_iinc (v := x2) (lv' := [(3, .int x2), (0, .ref b), (1, .ref (ad 0)), (2, .ref (am 0))]) hx hb dL_law_1303 hl (k := 3) rfl (by rw [ex2]; rfl) (by decide) rfl (fun ls hl => ?_)
        refine lv_goto (tgt := 18) hx hb dL_law_1306 (by decide) ?_
        exact ih _ _ _ _ _ _ (hw x2 ex2) hPx hPm hS (lv_sub hl [1, 2, 3, 0] rfl)
      by_cases c0 : x1 = 0
      · refine lv_tableIn (off := 171) (tgt := 204) hx hb dL_law_33 (by rw [c0]; decide) (by rw [c0]; decide) (by rw [c0]; rfl) (by decide) ?_
        exact lc_0 l C1 X1 v3 _ hend σ τ _ _ _ (hw.1 c0) hPx hPm hS hl
      by_cases c1 : x1 = 1
      · refine lv_tableIn (off := 204) (tgt := 237) hx hb dL_law_33 (by rw [c1]; decide) (by rw [c1]; decide) (by rw [c1]; rfl) (by decide) ?_
        exact lc_1 l C1 X1 v3 _ hend σ τ _ _ _ (hw.2.1 c1) hPx hPm hS hl
      by_cases c2 : x1 = 2
      · refine lv_tableIn (off := 247) (tgt := 280) hx hb dL_law_33 (by rw [c2]; decide) (by rw [c2]; decide) (by rw [c2]; rfl) (by decide) ?_
        exact lc_2 l C1 X1 v3 _ hend σ τ _ _ _ (hw.2.2.1 c2) hPx hPm hS hl
      by_cases c3 : x1 = 3
      · refine lv_tableIn (off := 280) (tgt := 313) hx hb dL_law_33 (by rw [c3]; decide) (by rw [c3]; decide) (by rw [c3]; rfl) (by decide) ?_
        exact lc_3 l C1 X1 v3 _ hend σ τ _ _ _ (hw.2.2.2.1 c3) hPx hPm hS hl
      by_cases c4 : x1 = 4
      · refine lv_tableIn (off := 303) (tgt := 336) hx hb dL_law_33 (by rw [c4]; decide) (by rw [c4]; decide) (by rw [c4]; rfl) (by decide) ?_
        exact lc_4 l C1 X1 v3 _ hend σ τ _ _ _ (hw.2.2.2.2.1 c4) hPx hPm hS hl
      by_cases c5 : x1 = 5
      · refine lv_tableIn (off := 346) (tgt := 379) hx hb dL_law_33 (by rw [c5]; decide) (by rw [c5]; decide) (by rw [c5]; rfl) (by decide) ?_
        exact lc_5 l C1 X1 v3 _ hend σ τ _ _ _ (hw.2.2.2.2.2.1 c5) hPx hPm hS hl
      by_cases c6 : x1 = 6
      · refine lv_tableIn (off := 369) (tgt := 402) hx hb dL_law_33 (by rw [c6]; decide) (by rw [c6]; decide) (by rw [c6]; rfl) (by decide) ?_
        exact lc_6 l C1 X1 v3 _ hend σ τ _ _ _ (hw.2.2.2.2.2.2.1 c6) hPx hPm hS hl
      by_cases c7 : x1 = 7
      · refine lv_tableIn (off := 412) (tgt := 445) hx hb dL_law_33 (by rw [c7]; decide) (by rw [c7]; decide) (by rw [c7]; rfl) (by decide) ?_
        exact lc_7 l C1 X1 v3 _ hend σ τ _ _ _ (hw.2.2.2.2.2.2.2.1 c7) hPx hPm hS hl
      by_cases c8 : x1 = 8
      · refine lv_tableIn (off := 445) (tgt := 478) hx hb dL_law_33 (by rw [c8]; decide) (by rw [c8]; decide) (by rw [c8]; rfl) (by decide) ?_
        exact lc_8 l C1 X1 v3 _ hend σ τ _ _ _ (hw.2.2.2.2.2.2.2.2.1 c8) hPx hPm hS hl
      by_cases c9 : x1 = 9
      · refine lv_tableIn (off := 488) (tgt := 521) hx hb dL_law_33 (by rw [c9]; decide) (by rw [c9]; decide) (by rw [c9]; rfl) (by decide) ?_
        exact lc_9 l C1 X1 v3 _ hend σ τ _ _ _ (hw.2.2.2.2.2.2.2.2.2.1 c9) hPx hPm hS hl
      by_cases c10 : x1 = 10
      · refine lv_tableIn (off := 511) (tgt := 544) hx hb dL_law_33 (by rw [c10]; decide) (by rw [c10]; decide) (by rw [c10]; rfl) (by decide) ?_
        exact lc_10 l C1 X1 v3 _ hend σ τ _ _ _ (hw.2.2.2.2.2.2.2.2.2.2.1 c10) hPx hPm hS hl
      by_cases c11 : x1 = 11
      · refine lv_tableIn (off := 544) (tgt := 577) hx hb dL_law_33 (by rw [c11]; decide) (by rw [c11]; decide) (by rw [c11]; rfl) (by decide) ?_
        exact lc_11 l C1 X1 v3 _ hend σ τ _ _ _ (hw.2.2.2.2.2.2.2.2.2.2.2.1 c11) hPx hPm hS hl
      by_cases c12 : x1 = 12
      · refine lv_tableIn (off := 567) (tgt := 600) hx hb dL_law_33 (by rw [c12]; decide) (by rw [c12]; decide) (by rw [c12]; rfl) (by decide) ?_
        exact lc_12 l C1 X1 v3 _ hend σ τ _ _ _ (hw.2.2.2.2.2.2.2.2.2.2.2.2.1 c12) hPx hPm hS hl
      by_cases c13 : x1 = 13
      · refine lv_tableIn (off := 580) (tgt := 613) hx hb dL_law_33 (by rw [c13]; decide) (by rw [c13]; decide) (by rw [c13]; rfl) (by decide) ?_
        exact lc_13 l C1 X1 v3 _ hend σ τ _ _ _ (hw.2.2.2.2.2.2.2.2.2.2.2.2.2.1 c13) hPx hPm hS hl
      by_cases c14 : x1 = 14
      · refine lv_tableIn (off := 603) (tgt := 636) hx hb dL_law_33 (by rw [c14]; decide) (by rw [c14]; decide) (by rw [c14]; rfl) (by decide) ?_
        exact lc_14 l C1 X1 v3 _ hend σ τ _ _ _ (hw.2.2.2.2.2.2.2.2.2.2.2.2.2.2.1 c14) hPx hPm hS hl
      by_cases c15 : x1 = 15
      · refine lv_tableIn (off := 616) (tgt := 649) hx hb dL_law_33 (by rw [c15]; decide) (by rw [c15]; decide) (by rw [c15]; rfl) (by decide) ?_
        exact lc_15 l C1 X1 v3 _ hend σ τ _ _ _ (hw.2.2.2.2.2.2.2.2.2.2.2.2.2.2.2.1 c15) hPx hPm hS hl
      by_cases c16 : x1 = 16
      · refine lv_tableIn (off := 639) (tgt := 672) hx hb dL_law_33 (by rw [c16]; decide) (by rw [c16]; decide) (by rw [c16]; rfl) (by decide) ?_
        exact lc_16 l C1 X1 v3 _ hend σ τ _ _ _ (hw.2.2.2.2.2.2.2.2.2.2.2.2.2.2.2.2.1 c16) hPx hPm hS hl
      by_cases c17 : x1 = 17
      · refine lv_tableIn (off := 662) (tgt := 695) hx hb dL_law_33 (by rw [c17]; decide) (by rw [c17]; decide) (by rw [c17]; rfl) (by decide) ?_
        exact lc_17 l C1 X1 v3 _ hend σ τ _ _ _ (hw.2.2.2.2.2.2.2.2.2.2.2.2.2.2.2.2.2.1 c17) hPx hPm hS hl
      by_cases c18 : x1 = 18
      · refine lv_tableIn (off := 685) (tgt := 718) hx hb dL_law_33 (by rw [c18]; decide) (by rw [c18]; decide) (by rw [c18]; rfl) (by decide) ?_
        exact lc_18 l C1 X1 v3 _ hend σ τ _ _ _ (hw.2.2.2.2.2.2.2.2.2.2.2.2.2.2.2.2.2.2.1 c18) hPx hPm hS hl
      by_cases c19 : x1 = 19
      · refine lv_tableIn (off := 718) (tgt := 751) hx hb dL_law_33 (by rw [c19]; decide) (by rw [c19]; decide) (by rw [c19]; rfl) (by decide) ?_
        exact lc_19 l C1 X1 v3 _ hend σ τ _ _ _ (hw.2.2.2.2.2.2.2.2.2.2.2.2.2.2.2.2.2.2.2.1 c19) hPx hPm hS hl
      by_cases c20 : x1 = 20
      · refine lv_tableIn (off := 777) (tgt := 810) hx hb dL_law_33 (by rw [c20]; decide) (by rw [c20]; decide) (by rw [c20]; rfl) (by decide) ?_
        exact lc_20 l C1 X1 v3 _ hend σ τ _ _ _ (hw.2.2.2.2.2.2.2.2.2.2.2.2.2.2.2.2.2.2.2.2.1 c20) hPx hPm hS hl
      by_cases c21 : x1 = 21
      · refine lv_tableIn (off := 790) (tgt := 823) hx hb dL_law_33 (by rw [c21]; decide) (by rw [c21]; decide) (by rw [c21]; rfl) (by decide) ?_
        exact lc_21 l C1 X1 v3 _ hend σ τ _ _ _ (hw.2.2.2.2.2.2.2.2.2.2.2.2.2.2.2.2.2.2.2.2.2.1 c21) hPx hPm hS hl
      by_cases c22 : x1 = 22
      · refine lv_tableIn (off := 813) (tgt := 846) hx hb dL_law_33 (by rw [c22]; decide) (by rw [c22]; decide) (by rw [c22]; rfl) (by decide) ?_
        exact lc_22 l C1 X1 v3 _ hend σ τ _ _ _ (hw.2.2.2.2.2.2.2.2.2.2.2.2.2.2.2.2.2.2.2.2.2.2.1 c22) hPx hPm hS hl
      by_cases c23 : x1 = 23
      · refine lv_tableIn (off := 826) (tgt := 859) hx hb dL_law_33 (by rw [c23]; decide) (by rw [c23]; decide) (by rw [c23]; rfl) (by decide) ?_
        exact lc_23 l C1 X1 v3 _ hend σ τ _ _ _ (hw.2.2.2.2.2.2.2.2.2.2.2.2.2.2.2.2.2.2.2.2.2.2.2.1 c23) hPx hPm hS hl
      by_cases c24 : x1 = 24
      · refine lv_tableIn (off := 865) (tgt := 898) hx hb dL_law_33 (by rw [c24]; decide) (by rw [c24]; decide) (by rw [c24]; rfl) (by decide) ?_
        exact lc_24 l C1 X1 v3 _ hend σ τ _ _ _ (hw.2.2.2.2.2.2.2.2.2.2.2.2.2.2.2.2.2.2.2.2.2.2.2.2.1 c24) hPx hPm hS hl
      by_cases c25 : x1 = 25
      · refine lv_tableIn (off := 898) (tgt := 931) hx hb dL_law_33 (by rw [c25]; decide) (by rw [c25]; decide) (by rw [c25]; rfl) (by decide) ?_
        exact lc_25 l C1 X1 v3 _ hend σ τ _ _ _ (hw.2.2.2.2.2.2.2.2.2.2.2.2.2.2.2.2.2.2.2.2.2.2.2.2.2.1 c25) hPx hPm hS hl
      by_cases c26 : x1 = 26
      · refine lv_tableIn (off := 921) (tgt := 954) hx hb dL_law_33 (by rw [c26]; decide) (by rw [c26]; decide) (by rw [c26]; rfl) (by decide) ?_
        exact lc_26 l C1 X1 v3 _ hend σ τ _ _ _ (hw.2.2.2.2.2.2.2.2.2.2.2.2.2.2.2.2.2.2.2.2.2.2.2.2.2.2.1 c26) hPx hPm hS hl
      by_cases c27 : x1 = 27
      · refine lv_tableIn (off := 954) (tgt := 987) hx hb dL_law_33 (by rw [c27]; decide) (by rw [c27]; decide) (by rw [c27]; rfl) (by decide) ?_
        exact lc_27 l C1 X1 v3 _ hend σ τ _ _ _ (hw.2.2.2.2.2.2.2.2.2.2.2.2.2.2.2.2.2.2.2.2.2.2.2.2.2.2.2.1 c27) hPx hPm hS hl
      by_cases c28 : x1 = 28
      · refine lv_tableIn (off := 987) (tgt := 1020) hx hb dL_law_33 (by rw [c28]; decide) (by rw [c28]; decide) (by rw [c28]; rfl) (by decide) ?_
        exact lc_28 l C1 X1 v3 _ hend σ τ _ _ _ (hw.2.2.2.2.2.2.2.2.2.2.2.2.2.2.2.2.2.2.2.2.2.2.2.2.2.2.2.2.1 c28) hPx hPm hS hl
      by_cases c29 : x1 = 29
      · refine lv_tableIn (off := 1000) (tgt := 1033) hx hb dL_law_33 (by rw [c29]; decide) (by rw [c29]; decide) (by rw [c29]; rfl) (by decide) ?_
        exact lc_29 l C1 X1 v3 _ hend σ τ _ _ _ (hw.2.2.2.2.2.2.2.2.2.2.2.2.2.2.2.2.2.2.2.2.2.2.2.2.2.2.2.2.2.1 c29) hPx hPm hS hl
      by_cases c30 : x1 = 30
      · refine lv_tableIn (off := 1033) (tgt := 1066) hx hb dL_law_33 (by rw [c30]; decide) (by rw [c30]; decide) (by rw [c30]; rfl) (by decide) ?_
        exact lc_30 l C1 X1 v3 _ hend σ τ _ _ _ (hw.2.2.2.2.2.2.2.2.2.2.2.2.2.2.2.2.2.2.2.2.2.2.2.2.2.2.2.2.2.2.1 c30) hPx hPm hS hl
      by_cases c31 : x1 = 31
      · refine lv_tableIn (off := 1056) (tgt := 1089) hx hb dL_law_33 (by rw [c31]; decide) (by rw [c31]; decide) (by rw [c31]; rfl) (by decide) ?_
        exact lc_31 l C1 X1 v3 _ hend σ τ _ _ _ (hw.2.2.2.2.2.2.2.2.2.2.2.2.2.2.2.2.2.2.2.2.2.2.2.2.2.2.2.2.2.2.2.1 c31) hPx hPm hS hl
      by_cases c32 : x1 = 32
      · refine lv_tableIn (off := 1099) (tgt := 1132) hx hb dL_law_33 (by rw [c32]; decide) (by rw [c32]; decide) (by rw [c32]; rfl) (by decide) ?_
        exact lc_32 l C1 X1 v3 _ hend σ τ _ _ _ (hw.2.2.2.2.2.2.2.2.2.2.2.2.2.2.2.2.2.2.2.2.2.2.2.2.2.2.2.2.2.2.2.2.1 c32) hPx hPm hS hl
      by_cases c33 : x1 = 33
      · refine lv_tableIn (off := 1122) (tgt := 1155) hx hb dL_law_33 (by rw [c33]; decide) (by rw [c33]; decide) (by rw [c33]; rfl) (by decide) ?_
        exact lc_33 l C1 X1 v3 _ hend σ τ _ _ _ (hw.2.2.2.2.2.2.2.2.2.2.2.2.2.2.2.2.2.2.2.2.2.2.2.2.2.2.2.2.2.2.2.2.2.1 c33) hPx hPm hS hl
      by_cases c34 : x1 = 34
      · refine lv_tableIn (off := 1185) (tgt := 1218) hx hb dL_law_33 (by rw [c34]; decide) (by rw [c34]; decide) (by rw [c34]; rfl) (by decide) ?_
        exact lc_34 l C1 X1 v3 _ hend σ τ _ _ _ (hw.2.2.2.2.2.2.2.2.2.2.2.2.2.2.2.2.2.2.2.2.2.2.2.2.2.2.2.2.2.2.2.2.2.2.1 c34) hPx hPm hS hl
      by_cases c35 : x1 = 35
      · refine lv_tableIn (off := 1198) (tgt := 1231) hx hb dL_law_33 (by rw [c35]; decide) (by rw [c35]; decide) (by rw [c35]; rfl) (by decide) ?_
        exact lc_35 l C1 X1 v3 _ hend σ τ _ _ _ (hw.2.2.2.2.2.2.2.2.2.2.2.2.2.2.2.2.2.2.2.2.2.2.2.2.2.2.2.2.2.2.2.2.2.2.2.1 c35) hPx hPm hS hl
      by_cases c36 : x1 = 36
      · refine lv_tableIn (off := 1221) (tgt := 1254) hx hb dL_law_33 (by rw [c36]; decide) (by rw [c36]; decide) (by rw [c36]; rfl) (by decide) ?_
        exact lc_36 l C1 X1 v3 _ hend σ τ _ _ _ (hw.2.2.2.2.2.2.2.2.2.2.2.2.2.2.2.2.2.2.2.2.2.2.2.2.2.2.2.2.2.2.2.2.2.2.2.2.1 c36) hPx hPm hS hl
      by_cases c37 : x1 = 37
      · refine lv_tableIn (off := 1234) (tgt := 1267) hx hb dL_law_33 (by rw [c37]; decide) (by rw [c37]; decide) (by rw [c37]; rfl) (by decide) ?_
        exact lc_37 l C1 X1 v3 _ hend σ τ _ _ _ (hw.2.2.2.2.2.2.2.2.2.2.2.2.2.2.2.2.2.2.2.2.2.2.2.2.2.2.2.2.2.2.2.2.2.2.2.2.2.1 c37) hPx hPm hS hl
      by_cases c38 : x1 = 38
      · refine lv_tableIn (off := 1257) (tgt := 1290) hx hb dL_law_33 (by rw [c38]; decide) (by rw [c38]; decide) (by rw [c38]; rfl) (by decide) ?_
        exact lc_38 l C1 X1 v3 _ hend σ τ _ _ _ (hw.2.2.2.2.2.2.2.2.2.2.2.2.2.2.2.2.2.2.2.2.2.2.2.2.2.2.2.2.2.2.2.2.2.2.2.2.2.2.1 c38) hPx hPm hS hl
      have hsw := wd_sw38 x1 (fun k hk => match k, hk with
        | 0, _ => c0
        | 1, _ => c1
        | 2, _ => c2
        | 3, _ => c3
        | 4, _ => c4
        | 5, _ => c5
        | 6, _ => c6
        | 7, _ => c7
        | 8, _ => c8
        | 9, _ => c9
        | 10, _ => c10
        | 11, _ => c11
        | 12, _ => c12
        | 13, _ => c13
        | 14, _ => c14
        | 15, _ => c15
        | 16, _ => c16
        | 17, _ => c17
        | 18, _ => c18
        | 19, _ => c19
        | 20, _ => c20
        | 21, _ => c21
        | 22, _ => c22
        | 23, _ => c23
        | 24, _ => c24
        | 25, _ => c25
        | 26, _ => c26
        | 27, _ => c27
        | 28, _ => c28
        | 29, _ => c29
        | 30, _ => c30
        | 31, _ => c31
        | 32, _ => c32
        | 33, _ => c33
        | 34, _ => c34
        | 35, _ => c35
        | 36, _ => c36
        | 37, _ => c37
        | 38, _ => c38
        | k + 39, hk => absurd hk (by omega))
      refine lv_tableOut (tgt := 1303) hx hb dL_law_33 hsw (by decide) ?_
      exact hend _ _ _ _ _ (hw.2.2.2.2.2.2.2.2.2.2.2.2.2.2.2.2.2.2.2.2.2.2.2.2.2.2.2.2.2.2.2.2.2.2.2.2.2.2.2 hsw) hPx hPm hS hl
