/-! THE CLAIM OUT OF ONE WALK OF THE LAW'S BODY. Your part is whole_start (and what it stands on); all else here is the same for every law, but numbers. -/
def R_law : String := "LeastRightsLaw"
def lw_P (b : Addr) (xs : List Int32) (args : Array Value) (s : State) : Prop := args = #[.ref b] ∧ s.IntsAt b xs ∧ xs.length ≤ 3072 ∧ (Jvm.Cond.and given_1 narrow_1).before args s = true
def lw_Q (_ : Array Value) (s : State) (o : Outcome) (t : State) : Prop := o = .returned (some (.int 1)) ∧ Framed s o t [] 52 10198
def lw_Z (below : List Frame) (a : Array Value) (s : State) : State → Prop := fun t => ∃ o, t.status = .running ∧ Ended t below o ∧ lw_Q a s o t
/-- the law's own end, with 1 on the stack, nothing written that was there before, its room as the claim has it -/
theorem lw_ret {p : Program} {l : Launch} {e : Env} {s : State} {m : MethodId} {below : List Frame} {meth : Method} {c : Code} {b : Nat} (hx : p.tables.exec = Jvm.exec) (hb : c.code = code) (hr : meth.sig.returnType = ret) (hlocks : meth.locks = false) {pc : Nat} {H : Heap} {ls : Array Slot} (hdg : decode code pc = .ok (.ireturn, 1)) : W p l e room_1 s m #[Value.ref b] below meth c H [] 52 10198 (lw_Z below #[Value.ref b] s) (F0 m pc ls [.int 1]) := by
  intro T hT X
  obtain ⟨fs, hret, hrun, hended, hW, hframe⟩ := X.leave (v := some (.int 1)) (hlocks := hlocks) (fun h => by rw [hr] at h; cases h)
  have hmeth' : T.vm.method? m = some meth := X.method'
  refine ⟨T.setFrames fs, ?_, .returned (some (.int 1)), hrun, hended, rfl, ⟨_, rfl⟩, hW, hframe⟩
  jvm_step X.here [X.here.top, hx, hb, hdg, hmeth', hr, ret, narrow_b1]
  (try refine ⟨rfl, ?_⟩); (try refine ⟨rfl, ?_⟩)
  first | (intro acts; rw [hret _ acts rfl rfl rfl]) | rw [hret _ _ rfl rfl rfl]
  exact Steps.refl _
/-- what holds at the law's entry: the machine, the code, the tables' words (any of lw_tbl by 'hts w (by decide +kernel)'), the script of L ints xs at the cell b, what the Statement gives of the start (any of its parts by flat_of_before) -/
def lw_At (p : Program) (s : State) (m : MethodId) (meth : Method) (c : Code) (b L : Nat) (xs : Nat → Int32) : Prop :=
  p.tables.exec = Jvm.exec ∧ c.code = code ∧ meth.sig.returnType = ret ∧ c.maxLocals = 4 ∧ s.vm.findClass R_law = some m.cls ∧ (∀ w ∈ lw_tbl, w.before #[Value.ref b] s = true) ∧ va_X b L xs s s.heap ∧ b < s.heap.size ∧ meth.locks = false ∧ (Jvm.Cond.and given_1 narrow_1).before #[Value.ref b] s = true

/-- what the law's loop stands on, and what no call changes -/
def lw_cx (s : State) (D : va_G) (ad am : Nat → Nat) (cI cJ cZ : ClassId) (Ax Am : Nat → Prop) : Prop := va_K D vwCl (wd_tys cI cJ cZ) s ∧ wd_nest s ∧ (∀ σ : St, va_D Ax (xw ad cI cJ cZ σ)) ∧ (∀ σ : St, va_D Am (mw am cI cJ cZ σ)) ∧ (∀ q, Ax q → s.heap.size ≤ q) ∧ (∀ q, Am q → s.heap.size ≤ q) ∧ (∀ (σ : St) (k : Nat) (q : Nat × va_E), (mw am cI cJ cZ σ)[k]? = some q → ¬ Ax q.1) ∧ (∀ (σ : St) (k : Nat) (q : Nat × va_E), (xw ad cI cJ cZ σ)[k]? = some q → ¬ Am q.1)
section WDL
variable {p : Program} {l : Launch} {e : Env} {R : Room} {s : State} {m : MethodId} {args : Array Value} {below : List Frame} {meth : Method} {c : Code} {H : Heap} {locs : List Loc} {cells slots : Nat} {Q : State → Prop}
variable {y : MethodName} {bytes cc : ByteArray} {maxL nL n index : Nat} {ret : Option FieldType} {ws : List Cond} {rm : Room} {Ts : List Cond} {own C : String} {b : Addr} {As rest st0 : List Value} {pc : Nat} {ls : Array Slot}
variable {D : va_G} {w : St → va_W} {wo : va_W} {tys : List (ClassId × FieldType)} {σ : St} {A A0 : Nat → Prop}
theorem wd_lVi {post : Int32 → St → Prop} (F : CallFix p m c cc nL s args Ts own) (hM : Met l y ws rm (va_Pc (.ref b :: As) (wd_pre D w tys σ)) (va_Qi post (wd_B D w) A) 0 0 A) (cw : CallW R s args own C index y bytes maxL ret ws rm 0 0 n)
    (hr : ∃ cell : Cell, H[b]? = some cell ∧ cell.vm.isStatics = false ∧ s.vm.findClass C = some cell.cls) (hK : va_K D vwCl tys s) (hN : wd_nest s) (hP : va_P D vwCl (w σ) H) (hO : va_P D vwCl wo H) (hS : va_S A0 s.heap H locs) (hA : ∀ q, A q → A0 q) (hd : ∀ (k : Nat) (q : Nat × va_E), wo[k]? = some q → ¬ A q.1)
    (hn : As.length = n) (hsize : ls.size = nL) (hst : st0 = As.reverse ++ .ref b :: rest) (hW : (rest.map fun v => v.category).sum ≤ 8) (hdg : decode cc pc = .ok (.invokevirtual index, 3)) (hc : cells ≤ R.cells ∧ slots ≤ R.slots)
    (kk : ∀ (r : Int32) (u : St) (H1 : Heap) (locs1 : List Loc), post r u → va_P D vwCl (w u) H1 → va_P D vwCl wo H1 → va_S A0 s.heap H1 locs1 → W p l e R s m args below meth c H1 locs1 cells slots Q (F0 m (pc + 3) ls (.int r :: rest))) : W p l e R s m args below meth c H locs cells slots Q (F0 m pc ls st0) := by
  refine va_calli (va_runV (As := As) (rest := rest) F hM cw ⟨wd_blind, hr, wd_start hP hK hN⟩ rfl hn hsize hst (lv_room hW) hdg hc) hS (fun q _ h => hA q h) (fun q h => hA q h) (fun r u t H1 locs1 ht hvm hw hB hz hk hS => ?_)
  exact kk r u H1 locs1 hw (by rw [← ht]; exact hB) (hO.kept (fun k q hq => hk q.1 ((hO k q hq).lt) (hd k q hq))) hS
theorem wd_lVl {post : Int64 → St → Prop} (F : CallFix p m c cc nL s args Ts own) (hM : Met l y ws rm (va_Pc (.ref b :: As) (wd_pre D w tys σ)) (va_Ql post (wd_B D w) A) 0 0 A) (cw : CallW R s args own C index y bytes maxL ret ws rm 0 0 n)
    (hr : ∃ cell : Cell, H[b]? = some cell ∧ cell.vm.isStatics = false ∧ s.vm.findClass C = some cell.cls) (hK : va_K D vwCl tys s) (hN : wd_nest s) (hP : va_P D vwCl (w σ) H) (hO : va_P D vwCl wo H) (hS : va_S A0 s.heap H locs) (hA : ∀ q, A q → A0 q) (hd : ∀ (k : Nat) (q : Nat × va_E), wo[k]? = some q → ¬ A q.1)
    (hn : As.length = n) (hsize : ls.size = nL) (hst : st0 = As.reverse ++ .ref b :: rest) (hW : (rest.map fun v => v.category).sum ≤ 8) (hdg : decode cc pc = .ok (.invokevirtual index, 3)) (hc : cells ≤ R.cells ∧ slots ≤ R.slots)
    (kk : ∀ (r : Int64) (u : St) (H1 : Heap) (locs1 : List Loc), post r u → va_P D vwCl (w u) H1 → va_P D vwCl wo H1 → va_S A0 s.heap H1 locs1 → W p l e R s m args below meth c H1 locs1 cells slots Q (F0 m (pc + 3) ls (.long r :: rest))) : W p l e R s m args below meth c H locs cells slots Q (F0 m pc ls st0) := by
  refine va_calll (va_runV (As := As) (rest := rest) F hM cw ⟨wd_blind, hr, wd_start hP hK hN⟩ rfl hn hsize hst (lv_room hW) hdg hc) hS (fun q _ h => hA q h) (fun q h => hA q h) (fun r u t H1 locs1 ht hvm hw hB hz hk hS => ?_)
  exact kk r u H1 locs1 hw (by rw [← ht]; exact hB) (hO.kept (fun k q hq => hk q.1 ((hO k q hq).lt) (hd k q hq))) hS
end WDL
theorem wd_sw38 (x : Int32) (h : ∀ k : Nat, k < 39 → ¬ x = Int32.ofNat k) : x.toInt < 0 ∨ 38 < x.toInt := by
  rcases Int.lt_or_le x.toInt 0 with h0 | h0
  · exact Or.inl h0
  · refine Or.inr (Int.lt_of_not_ge (fun h1 => ?_))
    refine h x.toInt.toNat (by omega) (Int32.toInt_inj.mp ?_)
    have : (Int32.ofNat x.toInt.toNat).toInt = (x.toInt.toNat : Int) := nI_toInt (n := x.toInt.toNat) (by omega)
    rw [this]
    omega

def wL_0 (xs : Nat → Int32) (L : Nat) (v3 : Int32) (σ τ : St) (K : St → St → Prop) : Prop := vp_in (v3 + (1 : Int32)) L ∧ (vp_in (v3 + (2 : Int32)) L ∧ (wX9_person σ (xs (v3 + (1 : Int32)).toNatClampNeg) (xs (v3 + (2 : Int32)).toNatClampNeg) (fun (r1 : Int32) (σ2 : St) => vp_in (v3 + (1 : Int32)) L ∧ (vp_in (v3 + (2 : Int32)) L ∧ (wX10_person τ (xs (v3 + (1 : Int32)).toNatClampNeg) (xs (v3 + (2 : Int32)).toNatClampNeg) (fun (r3 : Int32) (τ4 : St) => K σ2 τ4))))))
set_option maxHeartbeats 4000000 in
set_option maxRecDepth 100000 in
theorem lc_0 {p : Program} {e : Env} {s : State} {m : MethodId} {below : List Frame} {meth : Method} {c : Code} (l : Launch) {b L : Nat} {xs : Nat → Int32} (C0 : lw_At p s m meth c b L xs) {D : va_G} {ad am : Nat → Nat} {cI cJ cZ : ClassId} {Ax Am : Nat → Prop} (X0 : lw_cx s D ad am cI cJ cZ Ax Am) (v3 : Int32) (K : St → St → Prop) (hKx : ∀ (σ τ : St) (H : Heap) (locs : List Loc) (ls : Array Slot), K σ τ → va_P D vwCl (xw ad cI cJ cZ σ) H → va_P D vwCl (mw am cI cJ cZ τ) H → va_S (fun q : Nat => s.heap.size ≤ q) s.heap H locs → lv_has ls 4 [(0, .ref b), (1, .ref (ad 0)), (2, .ref (am 0)), (3, .int v3)] → W p l e room_1 s m #[Value.ref b] below meth c H locs 52 10198 (lw_Z below #[Value.ref b] s) (F0 m 1303 ls [])) (σ τ : St) (H : Heap) (locs : List Loc) (ls : Array Slot) (hw : wL_0 xs L v3 σ τ K) (hPx : va_P D vwCl (xw ad cI cJ cZ σ) H) (hPm : va_P D vwCl (mw am cI cJ cZ τ) H) (hS : va_S (fun q : Nat => s.heap.size ≤ q) s.heap H locs) (hl : lv_has ls 4 [(0, .ref b), (1, .ref (ad 0)), (2, .ref (am 0)), (3, .int v3)]) : W p l e room_1 s m #[Value.ref b] below meth c H locs 52 10198 (lw_Z below #[Value.ref b] s) (F0 m 204 ls []) := by
  obtain ⟨hx, hb, hr, hml, hown, hts, hX, hbl, hlocks, hgv⟩ := C0
  obtain ⟨hK, hN, hDx, hDm, hAx, hAm, hdx, hdm⟩ := X0
  have hbA : ¬ (fun q : Nat => s.heap.size ≤ q) b := Nat.not_le.mpr hbl
  unfold wL_0 at hw
  refine lv_aload_n hx hb dL_law_204 rfl (lv_at hl 1 rfl) ?_
  refine lv_aload_n hx hb dL_law_205 rfl (lv_at hl 0 rfl) ?_
  refine lv_iload_n hx hb dL_law_206 rfl (lv_at hl 3 rfl) ?_
  refine lv_iconst (v := 1) hx hb dL_law_207 (by decide) ?_
  refine lv_iadd hx hb dL_law_208 ?_
  obtain ⟨h9, hw⟩ := hw
  refine va_sld hx hb hX hbl hbA hS h9 dL_law_209 ?_
  refine lv_aload_n hx hb dL_law_210 rfl (lv_at hl 0 rfl) ?_
  refine lv_iload_n hx hb dL_law_211 rfl (lv_at hl 3 rfl) ?_
  refine lv_iconst (v := 2) hx hb dL_law_212 (by decide) ?_
  refine lv_iadd hx hb dL_law_213 ?_
  obtain ⟨h9, hw⟩ := hw
  refine va_sld hx hb hX hbl hbA hS h9 dL_law_214 ?_
  refine wd_lVi ⟨hx, hb, hml, hown, hts⟩ (mtX9_person l D ad cI cJ cZ Ax hDx σ (xs (v3 + (1 : Int32)).toNatClampNeg) (xs (v3 + (2 : Int32)).toNatClampNeg) _ hw) (cwV 2 hts gl_X9_person rfl rfl rfl (by decide +kernel) ⟨(Nat.le_of_ble_eq_true rfl), (Nat.le_of_ble_eq_true rfl)⟩) (va_recv hK hPx (ci := 9) (q0 := 0) rfl (xw_q0 ad cI cJ cZ σ)) hK hN hPx hPm hS hAx (hdx τ) rfl hl.1 rfl (Nat.le_of_ble_eq_true rfl) dL_law_215 ⟨(Nat.le_of_ble_eq_true rfl), (Nat.le_of_ble_eq_true rfl)⟩ (fun r1 σ2 H locs hw hPx hPm hS => ?_)
  refine lv_pop hx hb dL_law_218 rfl ?_
  refine lv_aload_n hx hb dL_law_219 rfl (lv_at hl 2 rfl) ?_
  refine lv_aload_n hx hb dL_law_220 rfl (lv_at hl 0 rfl) ?_
  refine lv_iload_n hx hb dL_law_221 rfl (lv_at hl 3 rfl) ?_
  refine lv_iconst (v := 1) hx hb dL_law_222 (by decide) ?_
  refine lv_iadd hx hb dL_law_223 ?_
  obtain ⟨h9, hw⟩ := hw
  refine va_sld hx hb hX hbl hbA hS h9 dL_law_224 ?_
  refine lv_aload_n hx hb dL_law_225 rfl (lv_at hl 0 rfl) ?_
  refine lv_iload_n hx hb dL_law_226 rfl (lv_at hl 3 rfl) ?_
  refine lv_iconst (v := 2) hx hb dL_law_227 (by decide) ?_
  refine lv_iadd hx hb dL_law_228 ?_
  obtain ⟨h9, hw⟩ := hw
  refine va_sld hx hb hX hbl hbA hS h9 dL_law_229 ?_
  refine wd_lVi ⟨hx, hb, hml, hown, hts⟩ (mtX10_person l D am cI cJ cZ Am hDm τ (xs (v3 + (1 : Int32)).toNatClampNeg) (xs (v3 + (2 : Int32)).toNatClampNeg) _ hw) (cwV 2 hts gl_X10_person rfl rfl rfl (by decide +kernel) ⟨(Nat.le_of_ble_eq_true rfl), (Nat.le_of_ble_eq_true rfl)⟩) (va_recv hK hPm (ci := 10) (q0 := 0) rfl (mw_q0 am cI cJ cZ τ)) hK hN hPm hPx hS hAm (hdm σ2) rfl hl.1 rfl (Nat.le_of_ble_eq_true rfl) dL_law_230 ⟨(Nat.le_of_ble_eq_true rfl), (Nat.le_of_ble_eq_true rfl)⟩ (fun r3 τ4 H locs hw hPm hPx hS => ?_)
  refine lv_pop hx hb dL_law_233 rfl ?_
  refine lv_goto (tgt := 1303) hx hb dL_law_234 (by decide) ?_
  exact hKx _ _ _ _ _ hw hPx hPm hS hl

def wL_1 (xs : Nat → Int32) (L : Nat) (v3 : Int32) (σ τ : St) (K : St → St → Prop) : Prop := vp_in (v3 + (1 : Int32)) L ∧ (vp_in (v3 + (2 : Int32)) L ∧ (vp_in (v3 + (3 : Int32)) L ∧ (wX9_change σ (xs (v3 + (1 : Int32)).toNatClampNeg) (xs (v3 + (2 : Int32)).toNatClampNeg) (xs (v3 + (3 : Int32)).toNatClampNeg) (fun (r1 : Int32) (σ2 : St) => vp_in (v3 + (1 : Int32)) L ∧ (vp_in (v3 + (2 : Int32)) L ∧ (vp_in (v3 + (3 : Int32)) L ∧ (wX10_change τ (xs (v3 + (1 : Int32)).toNatClampNeg) (xs (v3 + (2 : Int32)).toNatClampNeg) (xs (v3 + (3 : Int32)).toNatClampNeg) (fun (r3 : Int32) (τ4 : St) => K σ2 τ4))))))))
set_option maxHeartbeats 4000000 in
set_option maxRecDepth 100000 in
theorem lc_1 {p : Program} {e : Env} {s : State} {m : MethodId} {below : List Frame} {meth : Method} {c : Code} (l : Launch) {b L : Nat} {xs : Nat → Int32} (C0 : lw_At p s m meth c b L xs) {D : va_G} {ad am : Nat → Nat} {cI cJ cZ : ClassId} {Ax Am : Nat → Prop} (X0 : lw_cx s D ad am cI cJ cZ Ax Am) (v3 : Int32) (K : St → St → Prop) (hKx : ∀ (σ τ : St) (H : Heap) (locs : List Loc) (ls : Array Slot), K σ τ → va_P D vwCl (xw ad cI cJ cZ σ) H → va_P D vwCl (mw am cI cJ cZ τ) H → va_S (fun q : Nat => s.heap.size ≤ q) s.heap H locs → lv_has ls 4 [(0, .ref b), (1, .ref (ad 0)), (2, .ref (am 0)), (3, .int v3)] → W p l e room_1 s m #[Value.ref b] below meth c H locs 52 10198 (lw_Z below #[Value.ref b] s) (F0 m 1303 ls [])) (σ τ : St) (H : Heap) (locs : List Loc) (ls : Array Slot) (hw : wL_1 xs L v3 σ τ K) (hPx : va_P D vwCl (xw ad cI cJ cZ σ) H) (hPm : va_P D vwCl (mw am cI cJ cZ τ) H) (hS : va_S (fun q : Nat => s.heap.size ≤ q) s.heap H locs) (hl : lv_has ls 4 [(0, .ref b), (1, .ref (ad 0)), (2, .ref (am 0)), (3, .int v3)]) : W p l e room_1 s m #[Value.ref b] below meth c H locs 52 10198 (lw_Z below #[Value.ref b] s) (F0 m 237 ls []) := by
  obtain ⟨hx, hb, hr, hml, hown, hts, hX, hbl, hlocks, hgv⟩ := C0
  obtain ⟨hK, hN, hDx, hDm, hAx, hAm, hdx, hdm⟩ := X0
  have hbA : ¬ (fun q : Nat => s.heap.size ≤ q) b := Nat.not_le.mpr hbl
  unfold wL_1 at hw
  refine lv_aload_n hx hb dL_law_237 rfl (lv_at hl 1 rfl) ?_
  refine lv_aload_n hx hb dL_law_238 rfl (lv_at hl 0 rfl) ?_
  refine lv_iload_n hx hb dL_law_239 rfl (lv_at hl 3 rfl) ?_
  refine lv_iconst (v := 1) hx hb dL_law_240 (by decide) ?_
  refine lv_iadd hx hb dL_law_241 ?_
  obtain ⟨h9, hw⟩ := hw
  refine va_sld hx hb hX hbl hbA hS h9 dL_law_242 ?_
  refine lv_aload_n hx hb dL_law_243 rfl (lv_at hl 0 rfl) ?_
  refine lv_iload_n hx hb dL_law_244 rfl (lv_at hl 3 rfl) ?_
  refine lv_iconst (v := 2) hx hb dL_law_245 (by decide) ?_
  refine lv_iadd hx hb dL_law_246 ?_
  obtain ⟨h9, hw⟩ := hw
  refine va_sld hx hb hX hbl hbA hS h9 dL_law_247 ?_
  refine lv_aload_n hx hb dL_law_248 rfl (lv_at hl 0 rfl) ?_
  refine lv_iload_n hx hb dL_law_249 rfl (lv_at hl 3 rfl) ?_
  refine lv_iconst (v := 3) hx hb dL_law_250 (by decide) ?_
  refine lv_iadd hx hb dL_law_251 ?_
  obtain ⟨h9, hw⟩ := hw
  refine va_sld hx hb hX hbl hbA hS h9 dL_law_252 ?_
  refine wd_lVi ⟨hx, hb, hml, hown, hts⟩ (mtX9_change l D ad cI cJ cZ Ax hDx σ (xs (v3 + (1 : Int32)).toNatClampNeg) (xs (v3 + (2 : Int32)).toNatClampNeg) (xs (v3 + (3 : Int32)).toNatClampNeg) _ hw) (cwV 3 hts gl_X9_change rfl rfl rfl (by decide +kernel) ⟨(Nat.le_of_ble_eq_true rfl), (Nat.le_of_ble_eq_true rfl)⟩) (va_recv hK hPx (ci := 9) (q0 := 0) rfl (xw_q0 ad cI cJ cZ σ)) hK hN hPx hPm hS hAx (hdx τ) rfl hl.1 rfl (Nat.le_of_ble_eq_true rfl) dL_law_253 ⟨(Nat.le_of_ble_eq_true rfl), (Nat.le_of_ble_eq_true rfl)⟩ (fun r1 σ2 H locs hw hPx hPm hS => ?_)
  refine lv_pop hx hb dL_law_256 rfl ?_
  refine lv_aload_n hx hb dL_law_257 rfl (lv_at hl 2 rfl) ?_
  refine lv_aload_n hx hb dL_law_258 rfl (lv_at hl 0 rfl) ?_
  refine lv_iload_n hx hb dL_law_259 rfl (lv_at hl 3 rfl) ?_
  refine lv_iconst (v := 1) hx hb dL_law_260 (by decide) ?_
  refine lv_iadd hx hb dL_law_261 ?_
  obtain ⟨h9, hw⟩ := hw
  refine va_sld hx hb hX hbl hbA hS h9 dL_law_262 ?_
  refine lv_aload_n hx hb dL_law_263 rfl (lv_at hl 0 rfl) ?_
  refine lv_iload_n hx hb dL_law_264 rfl (lv_at hl 3 rfl) ?_
  refine lv_iconst (v := 2) hx hb dL_law_265 (by decide) ?_
  refine lv_iadd hx hb dL_law_266 ?_
  obtain ⟨h9, hw⟩ := hw
  refine va_sld hx hb hX hbl hbA hS h9 dL_law_267 ?_
  refine lv_aload_n hx hb dL_law_268 rfl (lv_at hl 0 rfl) ?_
  refine lv_iload_n hx hb dL_law_269 rfl (lv_at hl 3 rfl) ?_
  refine lv_iconst (v := 3) hx hb dL_law_270 (by decide) ?_
  refine lv_iadd hx hb dL_law_271 ?_
  obtain ⟨h9, hw⟩ := hw
  refine va_sld hx hb hX hbl hbA hS h9 dL_law_272 ?_
  refine wd_lVi ⟨hx, hb, hml, hown, hts⟩ (mtX10_change l D am cI cJ cZ Am hDm τ (xs (v3 + (1 : Int32)).toNatClampNeg) (xs (v3 + (2 : Int32)).toNatClampNeg) (xs (v3 + (3 : Int32)).toNatClampNeg) _ hw) (cwV 3 hts gl_X10_change rfl rfl rfl (by decide +kernel) ⟨(Nat.le_of_ble_eq_true rfl), (Nat.le_of_ble_eq_true rfl)⟩) (va_recv hK hPm (ci := 10) (q0 := 0) rfl (mw_q0 am cI cJ cZ τ)) hK hN hPm hPx hS hAm (hdm σ2) rfl hl.1 rfl (Nat.le_of_ble_eq_true rfl) dL_law_273 ⟨(Nat.le_of_ble_eq_true rfl), (Nat.le_of_ble_eq_true rfl)⟩ (fun r3 τ4 H locs hw hPm hPx hS => ?_)
  refine lv_pop hx hb dL_law_276 rfl ?_
  refine lv_goto (tgt := 1303) hx hb dL_law_277 (by decide) ?_
  exact hKx _ _ _ _ _ hw hPx hPm hS hl

def wL_2 (xs : Nat → Int32) (L : Nat) (v3 : Int32) (σ τ : St) (K : St → St → Prop) : Prop := vp_in (v3 + (1 : Int32)) L ∧ (vp_in (v3 + (2 : Int32)) L ∧ (wX9_told σ (xs (v3 + (1 : Int32)).toNatClampNeg) (xs (v3 + (2 : Int32)).toNatClampNeg) (fun (r1 : Int32) => vp_in (v3 + (1 : Int32)) L ∧ (vp_in (v3 + (2 : Int32)) L ∧ (wX10_told τ (xs (v3 + (1 : Int32)).toNatClampNeg) (xs (v3 + (2 : Int32)).toNatClampNeg) (fun (r2 : Int32) => K σ τ))))))
set_option maxHeartbeats 4000000 in
set_option maxRecDepth 100000 in
theorem lc_2 {p : Program} {e : Env} {s : State} {m : MethodId} {below : List Frame} {meth : Method} {c : Code} (l : Launch) {b L : Nat} {xs : Nat → Int32} (C0 : lw_At p s m meth c b L xs) {D : va_G} {ad am : Nat → Nat} {cI cJ cZ : ClassId} {Ax Am : Nat → Prop} (X0 : lw_cx s D ad am cI cJ cZ Ax Am) (v3 : Int32) (K : St → St → Prop) (hKx : ∀ (σ τ : St) (H : Heap) (locs : List Loc) (ls : Array Slot), K σ τ → va_P D vwCl (xw ad cI cJ cZ σ) H → va_P D vwCl (mw am cI cJ cZ τ) H → va_S (fun q : Nat => s.heap.size ≤ q) s.heap H locs → lv_has ls 4 [(0, .ref b), (1, .ref (ad 0)), (2, .ref (am 0)), (3, .int v3)] → W p l e room_1 s m #[Value.ref b] below meth c H locs 52 10198 (lw_Z below #[Value.ref b] s) (F0 m 1303 ls [])) (σ τ : St) (H : Heap) (locs : List Loc) (ls : Array Slot) (hw : wL_2 xs L v3 σ τ K) (hPx : va_P D vwCl (xw ad cI cJ cZ σ) H) (hPm : va_P D vwCl (mw am cI cJ cZ τ) H) (hS : va_S (fun q : Nat => s.heap.size ≤ q) s.heap H locs) (hl : lv_has ls 4 [(0, .ref b), (1, .ref (ad 0)), (2, .ref (am 0)), (3, .int v3)]) : W p l e room_1 s m #[Value.ref b] below meth c H locs 52 10198 (lw_Z below #[Value.ref b] s) (F0 m 280 ls []) := by
  obtain ⟨hx, hb, hr, hml, hown, hts, hX, hbl, hlocks, hgv⟩ := C0
  obtain ⟨hK, hN, hDx, hDm, hAx, hAm, hdx, hdm⟩ := X0
  have hbA : ¬ (fun q : Nat => s.heap.size ≤ q) b := Nat.not_le.mpr hbl
  unfold wL_2 at hw
  refine lv_aload_n hx hb dL_law_280 rfl (lv_at hl 1 rfl) ?_
  refine lv_aload_n hx hb dL_law_281 rfl (lv_at hl 0 rfl) ?_
  refine lv_iload_n hx hb dL_law_282 rfl (lv_at hl 3 rfl) ?_
  refine lv_iconst (v := 1) hx hb dL_law_283 (by decide) ?_
  refine lv_iadd hx hb dL_law_284 ?_
  obtain ⟨h9, hw⟩ := hw
  refine va_sld hx hb hX hbl hbA hS h9 dL_law_285 ?_
  refine lv_aload_n hx hb dL_law_286 rfl (lv_at hl 0 rfl) ?_
  refine lv_iload_n hx hb dL_law_287 rfl (lv_at hl 3 rfl) ?_
  refine lv_iconst (v := 2) hx hb dL_law_288 (by decide) ?_
  refine lv_iadd hx hb dL_law_289 ?_
  obtain ⟨h9, hw⟩ := hw
  refine va_sld hx hb hX hbl hbA hS h9 dL_law_290 ?_
  refine wd_lVi ⟨hx, hb, hml, hown, hts⟩ (mtX9_told l D ad cI cJ cZ Ax hDx σ (xs (v3 + (1 : Int32)).toNatClampNeg) (xs (v3 + (2 : Int32)).toNatClampNeg) _ hw) (cwV 2 hts gl_X9_told rfl rfl rfl (by decide +kernel) ⟨(Nat.le_of_ble_eq_true rfl), (Nat.le_of_ble_eq_true rfl)⟩) (va_recv hK hPx (ci := 9) (q0 := 0) rfl (xw_q0 ad cI cJ cZ σ)) hK hN hPx hPm hS hAx (hdx τ) rfl hl.1 rfl (Nat.le_of_ble_eq_true rfl) dL_law_291 ⟨(Nat.le_of_ble_eq_true rfl), (Nat.le_of_ble_eq_true rfl)⟩ (fun r1 u9 H locs hq hPx hPm hS => ?_)
  obtain ⟨hw, hu⟩ := hq
  rw [hu] at hPx
  refine lv_pop hx hb dL_law_294 rfl ?_
  refine lv_aload_n hx hb dL_law_295 rfl (lv_at hl 2 rfl) ?_
  refine lv_aload_n hx hb dL_law_296 rfl (lv_at hl 0 rfl) ?_
  refine lv_iload_n hx hb dL_law_297 rfl (lv_at hl 3 rfl) ?_
  refine lv_iconst (v := 1) hx hb dL_law_298 (by decide) ?_
  refine lv_iadd hx hb dL_law_299 ?_
  obtain ⟨h9, hw⟩ := hw
  refine va_sld hx hb hX hbl hbA hS h9 dL_law_300 ?_
  refine lv_aload_n hx hb dL_law_301 rfl (lv_at hl 0 rfl) ?_
  refine lv_iload_n hx hb dL_law_302 rfl (lv_at hl 3 rfl) ?_
  refine lv_iconst (v := 2) hx hb dL_law_303 (by decide) ?_
  refine lv_iadd hx hb dL_law_304 ?_
  obtain ⟨h9, hw⟩ := hw
  refine va_sld hx hb hX hbl hbA hS h9 dL_law_305 ?_
  refine wd_lVi ⟨hx, hb, hml, hown, hts⟩ (mtX10_told l D am cI cJ cZ Am hDm τ (xs (v3 + (1 : Int32)).toNatClampNeg) (xs (v3 + (2 : Int32)).toNatClampNeg) _ hw) (cwV 2 hts gl_X10_told rfl rfl rfl (by decide +kernel) ⟨(Nat.le_of_ble_eq_true rfl), (Nat.le_of_ble_eq_true rfl)⟩) (va_recv hK hPm (ci := 10) (q0 := 0) rfl (mw_q0 am cI cJ cZ τ)) hK hN hPm hPx hS hAm (hdm σ) rfl hl.1 rfl (Nat.le_of_ble_eq_true rfl) dL_law_306 ⟨(Nat.le_of_ble_eq_true rfl), (Nat.le_of_ble_eq_true rfl)⟩ (fun r2 u9 H locs hq hPm hPx hS => ?_)
  obtain ⟨hw, hu⟩ := hq
  rw [hu] at hPm
  refine lv_pop hx hb dL_law_309 rfl ?_
  refine lv_goto (tgt := 1303) hx hb dL_law_310 (by decide) ?_
  exact hKx _ _ _ _ _ hw hPx hPm hS hl

def wL_3 (xs : Nat → Int32) (L : Nat) (v3 : Int32) (σ τ : St) (K : St → St → Prop) : Prop := vp_in (v3 + (1 : Int32)) L ∧ (wX9_standby σ (xs (v3 + (1 : Int32)).toNatClampNeg) (fun (r1 : Int32) (σ2 : St) => vp_in (v3 + (1 : Int32)) L ∧ (wX10_standby τ (xs (v3 + (1 : Int32)).toNatClampNeg) (fun (r3 : Int32) (τ4 : St) => K σ2 τ4))))
set_option maxHeartbeats 4000000 in
set_option maxRecDepth 100000 in
theorem lc_3 {p : Program} {e : Env} {s : State} {m : MethodId} {below : List Frame} {meth : Method} {c : Code} (l : Launch) {b L : Nat} {xs : Nat → Int32} (C0 : lw_At p s m meth c b L xs) {D : va_G} {ad am : Nat → Nat} {cI cJ cZ : ClassId} {Ax Am : Nat → Prop} (X0 : lw_cx s D ad am cI cJ cZ Ax Am) (v3 : Int32) (K : St → St → Prop) (hKx : ∀ (σ τ : St) (H : Heap) (locs : List Loc) (ls : Array Slot), K σ τ → va_P D vwCl (xw ad cI cJ cZ σ) H → va_P D vwCl (mw am cI cJ cZ τ) H → va_S (fun q : Nat => s.heap.size ≤ q) s.heap H locs → lv_has ls 4 [(0, .ref b), (1, .ref (ad 0)), (2, .ref (am 0)), (3, .int v3)] → W p l e room_1 s m #[Value.ref b] below meth c H locs 52 10198 (lw_Z below #[Value.ref b] s) (F0 m 1303 ls [])) (σ τ : St) (H : Heap) (locs : List Loc) (ls : Array Slot) (hw : wL_3 xs L v3 σ τ K) (hPx : va_P D vwCl (xw ad cI cJ cZ σ) H) (hPm : va_P D vwCl (mw am cI cJ cZ τ) H) (hS : va_S (fun q : Nat => s.heap.size ≤ q) s.heap H locs) (hl : lv_has ls 4 [(0, .ref b), (1, .ref (ad 0)), (2, .ref (am 0)), (3, .int v3)]) : W p l e room_1 s m #[Value.ref b] below meth c H locs 52 10198 (lw_Z below #[Value.ref b] s) (F0 m 313 ls []) := by
  obtain ⟨hx, hb, hr, hml, hown, hts, hX, hbl, hlocks, hgv⟩ := C0
  obtain ⟨hK, hN, hDx, hDm, hAx, hAm, hdx, hdm⟩ := X0
  have hbA : ¬ (fun q : Nat => s.heap.size ≤ q) b := Nat.not_le.mpr hbl
  unfold wL_3 at hw
  refine lv_aload_n hx hb dL_law_313 rfl (lv_at hl 1 rfl) ?_
  refine lv_aload_n hx hb dL_law_314 rfl (lv_at hl 0 rfl) ?_
  refine lv_iload_n hx hb dL_law_315 rfl (lv_at hl 3 rfl) ?_
  refine lv_iconst (v := 1) hx hb dL_law_316 (by decide) ?_
  refine lv_iadd hx hb dL_law_317 ?_
  obtain ⟨h9, hw⟩ := hw
  refine va_sld hx hb hX hbl hbA hS h9 dL_law_318 ?_
  refine wd_lVi ⟨hx, hb, hml, hown, hts⟩ (mtX9_standby l D ad cI cJ cZ Ax hDx σ (xs (v3 + (1 : Int32)).toNatClampNeg) _ hw) (cwV 1 hts gl_X9_standby rfl rfl rfl (by decide +kernel) ⟨(Nat.le_of_ble_eq_true rfl), (Nat.le_of_ble_eq_true rfl)⟩) (va_recv hK hPx (ci := 9) (q0 := 0) rfl (xw_q0 ad cI cJ cZ σ)) hK hN hPx hPm hS hAx (hdx τ) rfl hl.1 rfl (Nat.le_of_ble_eq_true rfl) dL_law_319 ⟨(Nat.le_of_ble_eq_true rfl), (Nat.le_of_ble_eq_true rfl)⟩ (fun r1 σ2 H locs hw hPx hPm hS => ?_)
  refine lv_pop hx hb dL_law_322 rfl ?_
  refine lv_aload_n hx hb dL_law_323 rfl (lv_at hl 2 rfl) ?_
  refine lv_aload_n hx hb dL_law_324 rfl (lv_at hl 0 rfl) ?_
  refine lv_iload_n hx hb dL_law_325 rfl (lv_at hl 3 rfl) ?_
  refine lv_iconst (v := 1) hx hb dL_law_326 (by decide) ?_
  refine lv_iadd hx hb dL_law_327 ?_
  obtain ⟨h9, hw⟩ := hw
  refine va_sld hx hb hX hbl hbA hS h9 dL_law_328 ?_
  refine wd_lVi ⟨hx, hb, hml, hown, hts⟩ (mtX10_standby l D am cI cJ cZ Am hDm τ (xs (v3 + (1 : Int32)).toNatClampNeg) _ hw) (cwV 1 hts gl_X10_standby rfl rfl rfl (by decide +kernel) ⟨(Nat.le_of_ble_eq_true rfl), (Nat.le_of_ble_eq_true rfl)⟩) (va_recv hK hPm (ci := 10) (q0 := 0) rfl (mw_q0 am cI cJ cZ τ)) hK hN hPm hPx hS hAm (hdm σ2) rfl hl.1 rfl (Nat.le_of_ble_eq_true rfl) dL_law_329 ⟨(Nat.le_of_ble_eq_true rfl), (Nat.le_of_ble_eq_true rfl)⟩ (fun r3 τ4 H locs hw hPm hPx hS => ?_)
  refine lv_pop hx hb dL_law_332 rfl ?_
  refine lv_goto (tgt := 1303) hx hb dL_law_333 (by decide) ?_
  exact hKx _ _ _ _ _ hw hPx hPm hS hl

def wL_4 (xs : Nat → Int32) (L : Nat) (v3 : Int32) (σ τ : St) (K : St → St → Prop) : Prop := vp_in (v3 + (1 : Int32)) L ∧ (vp_in (v3 + (2 : Int32)) L ∧ (vp_in (v3 + (3 : Int32)) L ∧ (wX9_rule σ (xs (v3 + (1 : Int32)).toNatClampNeg) (xs (v3 + (2 : Int32)).toNatClampNeg) (xs (v3 + (3 : Int32)).toNatClampNeg) (fun (r1 : Int32) (σ2 : St) => vp_in (v3 + (1 : Int32)) L ∧ (vp_in (v3 + (2 : Int32)) L ∧ (vp_in (v3 + (3 : Int32)) L ∧ (wX10_rule τ (xs (v3 + (1 : Int32)).toNatClampNeg) (xs (v3 + (2 : Int32)).toNatClampNeg) (xs (v3 + (3 : Int32)).toNatClampNeg) (fun (r3 : Int32) (τ4 : St) => K σ2 τ4))))))))
set_option maxHeartbeats 4000000 in
set_option maxRecDepth 100000 in
theorem lc_4 {p : Program} {e : Env} {s : State} {m : MethodId} {below : List Frame} {meth : Method} {c : Code} (l : Launch) {b L : Nat} {xs : Nat → Int32} (C0 : lw_At p s m meth c b L xs) {D : va_G} {ad am : Nat → Nat} {cI cJ cZ : ClassId} {Ax Am : Nat → Prop} (X0 : lw_cx s D ad am cI cJ cZ Ax Am) (v3 : Int32) (K : St → St → Prop) (hKx : ∀ (σ τ : St) (H : Heap) (locs : List Loc) (ls : Array Slot), K σ τ → va_P D vwCl (xw ad cI cJ cZ σ) H → va_P D vwCl (mw am cI cJ cZ τ) H → va_S (fun q : Nat => s.heap.size ≤ q) s.heap H locs → lv_has ls 4 [(0, .ref b), (1, .ref (ad 0)), (2, .ref (am 0)), (3, .int v3)] → W p l e room_1 s m #[Value.ref b] below meth c H locs 52 10198 (lw_Z below #[Value.ref b] s) (F0 m 1303 ls [])) (σ τ : St) (H : Heap) (locs : List Loc) (ls : Array Slot) (hw : wL_4 xs L v3 σ τ K) (hPx : va_P D vwCl (xw ad cI cJ cZ σ) H) (hPm : va_P D vwCl (mw am cI cJ cZ τ) H) (hS : va_S (fun q : Nat => s.heap.size ≤ q) s.heap H locs) (hl : lv_has ls 4 [(0, .ref b), (1, .ref (ad 0)), (2, .ref (am 0)), (3, .int v3)]) : W p l e room_1 s m #[Value.ref b] below meth c H locs 52 10198 (lw_Z below #[Value.ref b] s) (F0 m 336 ls []) := by
  obtain ⟨hx, hb, hr, hml, hown, hts, hX, hbl, hlocks, hgv⟩ := C0
  obtain ⟨hK, hN, hDx, hDm, hAx, hAm, hdx, hdm⟩ := X0
  have hbA : ¬ (fun q : Nat => s.heap.size ≤ q) b := Nat.not_le.mpr hbl
  unfold wL_4 at hw
  refine lv_aload_n hx hb dL_law_336 rfl (lv_at hl 1 rfl) ?_
  refine lv_aload_n hx hb dL_law_337 rfl (lv_at hl 0 rfl) ?_
  refine lv_iload_n hx hb dL_law_338 rfl (lv_at hl 3 rfl) ?_
  refine lv_iconst (v := 1) hx hb dL_law_339 (by decide) ?_
  refine lv_iadd hx hb dL_law_340 ?_
  obtain ⟨h9, hw⟩ := hw
  refine va_sld hx hb hX hbl hbA hS h9 dL_law_341 ?_
  refine lv_aload_n hx hb dL_law_342 rfl (lv_at hl 0 rfl) ?_
  refine lv_iload_n hx hb dL_law_343 rfl (lv_at hl 3 rfl) ?_
  refine lv_iconst (v := 2) hx hb dL_law_344 (by decide) ?_
  refine lv_iadd hx hb dL_law_345 ?_
  obtain ⟨h9, hw⟩ := hw
  refine va_sld hx hb hX hbl hbA hS h9 dL_law_346 ?_
  refine lv_aload_n hx hb dL_law_347 rfl (lv_at hl 0 rfl) ?_
  refine lv_iload_n hx hb dL_law_348 rfl (lv_at hl 3 rfl) ?_
  refine lv_iconst (v := 3) hx hb dL_law_349 (by decide) ?_
  refine lv_iadd hx hb dL_law_350 ?_
  obtain ⟨h9, hw⟩ := hw
  refine va_sld hx hb hX hbl hbA hS h9 dL_law_351 ?_
  refine wd_lVi ⟨hx, hb, hml, hown, hts⟩ (mtX9_rule l D ad cI cJ cZ Ax hDx σ (xs (v3 + (1 : Int32)).toNatClampNeg) (xs (v3 + (2 : Int32)).toNatClampNeg) (xs (v3 + (3 : Int32)).toNatClampNeg) _ hw) (cwV 3 hts gl_X9_rule rfl rfl rfl (by decide +kernel) ⟨(Nat.le_of_ble_eq_true rfl), (Nat.le_of_ble_eq_true rfl)⟩) (va_recv hK hPx (ci := 9) (q0 := 0) rfl (xw_q0 ad cI cJ cZ σ)) hK hN hPx hPm hS hAx (hdx τ) rfl hl.1 rfl (Nat.le_of_ble_eq_true rfl) dL_law_352 ⟨(Nat.le_of_ble_eq_true rfl), (Nat.le_of_ble_eq_true rfl)⟩ (fun r1 σ2 H locs hw hPx hPm hS => ?_)
  refine lv_pop hx hb dL_law_355 rfl ?_
  refine lv_aload_n hx hb dL_law_356 rfl (lv_at hl 2 rfl) ?_
  refine lv_aload_n hx hb dL_law_357 rfl (lv_at hl 0 rfl) ?_
  refine lv_iload_n hx hb dL_law_358 rfl (lv_at hl 3 rfl) ?_
  refine lv_iconst (v := 1) hx hb dL_law_359 (by decide) ?_
  refine lv_iadd hx hb dL_law_360 ?_
  obtain ⟨h9, hw⟩ := hw
  refine va_sld hx hb hX hbl hbA hS h9 dL_law_361 ?_
  refine lv_aload_n hx hb dL_law_362 rfl (lv_at hl 0 rfl) ?_
  refine lv_iload_n hx hb dL_law_363 rfl (lv_at hl 3 rfl) ?_
  refine lv_iconst (v := 2) hx hb dL_law_364 (by decide) ?_
  refine lv_iadd hx hb dL_law_365 ?_
  obtain ⟨h9, hw⟩ := hw
  refine va_sld hx hb hX hbl hbA hS h9 dL_law_366 ?_
  refine lv_aload_n hx hb dL_law_367 rfl (lv_at hl 0 rfl) ?_
  refine lv_iload_n hx hb dL_law_368 rfl (lv_at hl 3 rfl) ?_
  refine lv_iconst (v := 3) hx hb dL_law_369 (by decide) ?_
  refine lv_iadd hx hb dL_law_370 ?_
  obtain ⟨h9, hw⟩ := hw
  refine va_sld hx hb hX hbl hbA hS h9 dL_law_371 ?_
  refine wd_lVi ⟨hx, hb, hml, hown, hts⟩ (mtX10_rule l D am cI cJ cZ Am hDm τ (xs (v3 + (1 : Int32)).toNatClampNeg) (xs (v3 + (2 : Int32)).toNatClampNeg) (xs (v3 + (3 : Int32)).toNatClampNeg) _ hw) (cwV 3 hts gl_X10_rule rfl rfl rfl (by decide +kernel) ⟨(Nat.le_of_ble_eq_true rfl), (Nat.le_of_ble_eq_true rfl)⟩) (va_recv hK hPm (ci := 10) (q0 := 0) rfl (mw_q0 am cI cJ cZ τ)) hK hN hPm hPx hS hAm (hdm σ2) rfl hl.1 rfl (Nat.le_of_ble_eq_true rfl) dL_law_372 ⟨(Nat.le_of_ble_eq_true rfl), (Nat.le_of_ble_eq_true rfl)⟩ (fun r3 τ4 H locs hw hPm hPx hS => ?_)
  refine lv_pop hx hb dL_law_375 rfl ?_
  refine lv_goto (tgt := 1303) hx hb dL_law_376 (by decide) ?_
  exact hKx _ _ _ _ _ hw hPx hPm hS hl

def wL_5 (xs : Nat → Int32) (L : Nat) (v3 : Int32) (σ τ : St) (K : St → St → Prop) : Prop := vp_in (v3 + (1 : Int32)) L ∧ (wX9_later σ (xs (v3 + (1 : Int32)).toNatClampNeg) (fun (r1 : Int32) (σ2 : St) => vp_in (v3 + (1 : Int32)) L ∧ (wX10_later τ (xs (v3 + (1 : Int32)).toNatClampNeg) (fun (r3 : Int32) (τ4 : St) => K σ2 τ4))))
set_option maxHeartbeats 4000000 in
set_option maxRecDepth 100000 in
theorem lc_5 {p : Program} {e : Env} {s : State} {m : MethodId} {below : List Frame} {meth : Method} {c : Code} (l : Launch) {b L : Nat} {xs : Nat → Int32} (C0 : lw_At p s m meth c b L xs) {D : va_G} {ad am : Nat → Nat} {cI cJ cZ : ClassId} {Ax Am : Nat → Prop} (X0 : lw_cx s D ad am cI cJ cZ Ax Am) (v3 : Int32) (K : St → St → Prop) (hKx : ∀ (σ τ : St) (H : Heap) (locs : List Loc) (ls : Array Slot), K σ τ → va_P D vwCl (xw ad cI cJ cZ σ) H → va_P D vwCl (mw am cI cJ cZ τ) H → va_S (fun q : Nat => s.heap.size ≤ q) s.heap H locs → lv_has ls 4 [(0, .ref b), (1, .ref (ad 0)), (2, .ref (am 0)), (3, .int v3)] → W p l e room_1 s m #[Value.ref b] below meth c H locs 52 10198 (lw_Z below #[Value.ref b] s) (F0 m 1303 ls [])) (σ τ : St) (H : Heap) (locs : List Loc) (ls : Array Slot) (hw : wL_5 xs L v3 σ τ K) (hPx : va_P D vwCl (xw ad cI cJ cZ σ) H) (hPm : va_P D vwCl (mw am cI cJ cZ τ) H) (hS : va_S (fun q : Nat => s.heap.size ≤ q) s.heap H locs) (hl : lv_has ls 4 [(0, .ref b), (1, .ref (ad 0)), (2, .ref (am 0)), (3, .int v3)]) : W p l e room_1 s m #[Value.ref b] below meth c H locs 52 10198 (lw_Z below #[Value.ref b] s) (F0 m 379 ls []) := by
  obtain ⟨hx, hb, hr, hml, hown, hts, hX, hbl, hlocks, hgv⟩ := C0
  obtain ⟨hK, hN, hDx, hDm, hAx, hAm, hdx, hdm⟩ := X0
  have hbA : ¬ (fun q : Nat => s.heap.size ≤ q) b := Nat.not_le.mpr hbl
  unfold wL_5 at hw
  refine lv_aload_n hx hb dL_law_379 rfl (lv_at hl 1 rfl) ?_
  refine lv_aload_n hx hb dL_law_380 rfl (lv_at hl 0 rfl) ?_
  refine lv_iload_n hx hb dL_law_381 rfl (lv_at hl 3 rfl) ?_
  refine lv_iconst (v := 1) hx hb dL_law_382 (by decide) ?_
  refine lv_iadd hx hb dL_law_383 ?_
  obtain ⟨h9, hw⟩ := hw
  refine va_sld hx hb hX hbl hbA hS h9 dL_law_384 ?_
  refine wd_lVi ⟨hx, hb, hml, hown, hts⟩ (mtX9_later l D ad cI cJ cZ Ax hDx σ (xs (v3 + (1 : Int32)).toNatClampNeg) _ hw) (cwV 1 hts gl_X9_later rfl rfl rfl (by decide +kernel) ⟨(Nat.le_of_ble_eq_true rfl), (Nat.le_of_ble_eq_true rfl)⟩) (va_recv hK hPx (ci := 9) (q0 := 0) rfl (xw_q0 ad cI cJ cZ σ)) hK hN hPx hPm hS hAx (hdx τ) rfl hl.1 rfl (Nat.le_of_ble_eq_true rfl) dL_law_385 ⟨(Nat.le_of_ble_eq_true rfl), (Nat.le_of_ble_eq_true rfl)⟩ (fun r1 σ2 H locs hw hPx hPm hS => ?_)
  refine lv_pop hx hb dL_law_388 rfl ?_
  refine lv_aload_n hx hb dL_law_389 rfl (lv_at hl 2 rfl) ?_
  refine lv_aload_n hx hb dL_law_390 rfl (lv_at hl 0 rfl) ?_
  refine lv_iload_n hx hb dL_law_391 rfl (lv_at hl 3 rfl) ?_
  refine lv_iconst (v := 1) hx hb dL_law_392 (by decide) ?_
  refine lv_iadd hx hb dL_law_393 ?_
  obtain ⟨h9, hw⟩ := hw
  refine va_sld hx hb hX hbl hbA hS h9 dL_law_394 ?_
  refine wd_lVi ⟨hx, hb, hml, hown, hts⟩ (mtX10_later l D am cI cJ cZ Am hDm τ (xs (v3 + (1 : Int32)).toNatClampNeg) _ hw) (cwV 1 hts gl_X10_later rfl rfl rfl (by decide +kernel) ⟨(Nat.le_of_ble_eq_true rfl), (Nat.le_of_ble_eq_true rfl)⟩) (va_recv hK hPm (ci := 10) (q0 := 0) rfl (mw_q0 am cI cJ cZ τ)) hK hN hPm hPx hS hAm (hdm σ2) rfl hl.1 rfl (Nat.le_of_ble_eq_true rfl) dL_law_395 ⟨(Nat.le_of_ble_eq_true rfl), (Nat.le_of_ble_eq_true rfl)⟩ (fun r3 τ4 H locs hw hPm hPx hS => ?_)
  refine lv_pop hx hb dL_law_398 rfl ?_
  refine lv_goto (tgt := 1303) hx hb dL_law_399 (by decide) ?_
  exact hKx _ _ _ _ _ hw hPx hPm hS hl

def wL_6 (xs : Nat → Int32) (L : Nat) (v3 : Int32) (σ τ : St) (K : St → St → Prop) : Prop := vp_in (v3 + (1 : Int32)) L ∧ (vp_in (v3 + (2 : Int32)) L ∧ (vp_in (v3 + (3 : Int32)) L ∧ (wX9_use σ (xs (v3 + (1 : Int32)).toNatClampNeg) (xs (v3 + (2 : Int32)).toNatClampNeg) (xs (v3 + (3 : Int32)).toNatClampNeg) (fun (r1 : Int32) (σ2 : St) => vp_in (v3 + (1 : Int32)) L ∧ (vp_in (v3 + (2 : Int32)) L ∧ (vp_in (v3 + (3 : Int32)) L ∧ (wX10_use τ (xs (v3 + (1 : Int32)).toNatClampNeg) (xs (v3 + (2 : Int32)).toNatClampNeg) (xs (v3 + (3 : Int32)).toNatClampNeg) (fun (r3 : Int32) (τ4 : St) => K σ2 τ4))))))))
set_option maxHeartbeats 4000000 in
set_option maxRecDepth 100000 in
theorem lc_6 {p : Program} {e : Env} {s : State} {m : MethodId} {below : List Frame} {meth : Method} {c : Code} (l : Launch) {b L : Nat} {xs : Nat → Int32} (C0 : lw_At p s m meth c b L xs) {D : va_G} {ad am : Nat → Nat} {cI cJ cZ : ClassId} {Ax Am : Nat → Prop} (X0 : lw_cx s D ad am cI cJ cZ Ax Am) (v3 : Int32) (K : St → St → Prop) (hKx : ∀ (σ τ : St) (H : Heap) (locs : List Loc) (ls : Array Slot), K σ τ → va_P D vwCl (xw ad cI cJ cZ σ) H → va_P D vwCl (mw am cI cJ cZ τ) H → va_S (fun q : Nat => s.heap.size ≤ q) s.heap H locs → lv_has ls 4 [(0, .ref b), (1, .ref (ad 0)), (2, .ref (am 0)), (3, .int v3)] → W p l e room_1 s m #[Value.ref b] below meth c H locs 52 10198 (lw_Z below #[Value.ref b] s) (F0 m 1303 ls [])) (σ τ : St) (H : Heap) (locs : List Loc) (ls : Array Slot) (hw : wL_6 xs L v3 σ τ K) (hPx : va_P D vwCl (xw ad cI cJ cZ σ) H) (hPm : va_P D vwCl (mw am cI cJ cZ τ) H) (hS : va_S (fun q : Nat => s.heap.size ≤ q) s.heap H locs) (hl : lv_has ls 4 [(0, .ref b), (1, .ref (ad 0)), (2, .ref (am 0)), (3, .int v3)]) : W p l e room_1 s m #[Value.ref b] below meth c H locs 52 10198 (lw_Z below #[Value.ref b] s) (F0 m 402 ls []) := by
  obtain ⟨hx, hb, hr, hml, hown, hts, hX, hbl, hlocks, hgv⟩ := C0
  obtain ⟨hK, hN, hDx, hDm, hAx, hAm, hdx, hdm⟩ := X0
  have hbA : ¬ (fun q : Nat => s.heap.size ≤ q) b := Nat.not_le.mpr hbl
  unfold wL_6 at hw
  refine lv_aload_n hx hb dL_law_402 rfl (lv_at hl 1 rfl) ?_
  refine lv_aload_n hx hb dL_law_403 rfl (lv_at hl 0 rfl) ?_
  refine lv_iload_n hx hb dL_law_404 rfl (lv_at hl 3 rfl) ?_
  refine lv_iconst (v := 1) hx hb dL_law_405 (by decide) ?_
  refine lv_iadd hx hb dL_law_406 ?_
  obtain ⟨h9, hw⟩ := hw
  refine va_sld hx hb hX hbl hbA hS h9 dL_law_407 ?_
  refine lv_aload_n hx hb dL_law_408 rfl (lv_at hl 0 rfl) ?_
  refine lv_iload_n hx hb dL_law_409 rfl (lv_at hl 3 rfl) ?_
  refine lv_iconst (v := 2) hx hb dL_law_410 (by decide) ?_
  refine lv_iadd hx hb dL_law_411 ?_
  obtain ⟨h9, hw⟩ := hw
  refine va_sld hx hb hX hbl hbA hS h9 dL_law_412 ?_
  refine lv_aload_n hx hb dL_law_413 rfl (lv_at hl 0 rfl) ?_
  refine lv_iload_n hx hb dL_law_414 rfl (lv_at hl 3 rfl) ?_
  refine lv_iconst (v := 3) hx hb dL_law_415 (by decide) ?_
  refine lv_iadd hx hb dL_law_416 ?_
  obtain ⟨h9, hw⟩ := hw
  refine va_sld hx hb hX hbl hbA hS h9 dL_law_417 ?_
  refine wd_lVi ⟨hx, hb, hml, hown, hts⟩ (mtX9_use l D ad cI cJ cZ Ax hDx σ (xs (v3 + (1 : Int32)).toNatClampNeg) (xs (v3 + (2 : Int32)).toNatClampNeg) (xs (v3 + (3 : Int32)).toNatClampNeg) _ hw) (cwV 3 hts gl_X9_use rfl rfl rfl (by decide +kernel) ⟨(Nat.le_of_ble_eq_true rfl), (Nat.le_of_ble_eq_true rfl)⟩) (va_recv hK hPx (ci := 9) (q0 := 0) rfl (xw_q0 ad cI cJ cZ σ)) hK hN hPx hPm hS hAx (hdx τ) rfl hl.1 rfl (Nat.le_of_ble_eq_true rfl) dL_law_418 ⟨(Nat.le_of_ble_eq_true rfl), (Nat.le_of_ble_eq_true rfl)⟩ (fun r1 σ2 H locs hw hPx hPm hS => ?_)
  refine lv_pop hx hb dL_law_421 rfl ?_
  refine lv_aload_n hx hb dL_law_422 rfl (lv_at hl 2 rfl) ?_
  refine lv_aload_n hx hb dL_law_423 rfl (lv_at hl 0 rfl) ?_
  refine lv_iload_n hx hb dL_law_424 rfl (lv_at hl 3 rfl) ?_
  refine lv_iconst (v := 1) hx hb dL_law_425 (by decide) ?_
  refine lv_iadd hx hb dL_law_426 ?_
  obtain ⟨h9, hw⟩ := hw
  refine va_sld hx hb hX hbl hbA hS h9 dL_law_427 ?_
  refine lv_aload_n hx hb dL_law_428 rfl (lv_at hl 0 rfl) ?_
  refine lv_iload_n hx hb dL_law_429 rfl (lv_at hl 3 rfl) ?_
  refine lv_iconst (v := 2) hx hb dL_law_430 (by decide) ?_
  refine lv_iadd hx hb dL_law_431 ?_
  obtain ⟨h9, hw⟩ := hw
  refine va_sld hx hb hX hbl hbA hS h9 dL_law_432 ?_
  refine lv_aload_n hx hb dL_law_433 rfl (lv_at hl 0 rfl) ?_
  refine lv_iload_n hx hb dL_law_434 rfl (lv_at hl 3 rfl) ?_
  refine lv_iconst (v := 3) hx hb dL_law_435 (by decide) ?_
  refine lv_iadd hx hb dL_law_436 ?_
  obtain ⟨h9, hw⟩ := hw
  refine va_sld hx hb hX hbl hbA hS h9 dL_law_437 ?_
  refine wd_lVi ⟨hx, hb, hml, hown, hts⟩ (mtX10_use l D am cI cJ cZ Am hDm τ (xs (v3 + (1 : Int32)).toNatClampNeg) (xs (v3 + (2 : Int32)).toNatClampNeg) (xs (v3 + (3 : Int32)).toNatClampNeg) _ hw) (cwV 3 hts gl_X10_use rfl rfl rfl (by decide +kernel) ⟨(Nat.le_of_ble_eq_true rfl), (Nat.le_of_ble_eq_true rfl)⟩) (va_recv hK hPm (ci := 10) (q0 := 0) rfl (mw_q0 am cI cJ cZ τ)) hK hN hPm hPx hS hAm (hdm σ2) rfl hl.1 rfl (Nat.le_of_ble_eq_true rfl) dL_law_438 ⟨(Nat.le_of_ble_eq_true rfl), (Nat.le_of_ble_eq_true rfl)⟩ (fun r3 τ4 H locs hw hPm hPx hS => ?_)
  refine lv_pop hx hb dL_law_441 rfl ?_
  refine lv_goto (tgt := 1303) hx hb dL_law_442 (by decide) ?_
  exact hKx _ _ _ _ _ hw hPx hPm hS hl

def wL_7 (xs : Nat → Int32) (L : Nat) (v3 : Int32) (σ τ : St) (K : St → St → Prop) : Prop := vp_in (v3 + (1 : Int32)) L ∧ (vp_in (v3 + (2 : Int32)) L ∧ (wX9_kind σ (xs (v3 + (1 : Int32)).toNatClampNeg) (xs (v3 + (2 : Int32)).toNatClampNeg) (fun (r1 : Int32) => vp_in (v3 + (1 : Int32)) L ∧ (vp_in (v3 + (2 : Int32)) L ∧ (wX10_kind τ (xs (v3 + (1 : Int32)).toNatClampNeg) (xs (v3 + (2 : Int32)).toNatClampNeg) (fun (r2 : Int32) => K σ τ))))))
set_option maxHeartbeats 4000000 in
set_option maxRecDepth 100000 in
theorem lc_7 {p : Program} {e : Env} {s : State} {m : MethodId} {below : List Frame} {meth : Method} {c : Code} (l : Launch) {b L : Nat} {xs : Nat → Int32} (C0 : lw_At p s m meth c b L xs) {D : va_G} {ad am : Nat → Nat} {cI cJ cZ : ClassId} {Ax Am : Nat → Prop} (X0 : lw_cx s D ad am cI cJ cZ Ax Am) (v3 : Int32) (K : St → St → Prop) (hKx : ∀ (σ τ : St) (H : Heap) (locs : List Loc) (ls : Array Slot), K σ τ → va_P D vwCl (xw ad cI cJ cZ σ) H → va_P D vwCl (mw am cI cJ cZ τ) H → va_S (fun q : Nat => s.heap.size ≤ q) s.heap H locs → lv_has ls 4 [(0, .ref b), (1, .ref (ad 0)), (2, .ref (am 0)), (3, .int v3)] → W p l e room_1 s m #[Value.ref b] below meth c H locs 52 10198 (lw_Z below #[Value.ref b] s) (F0 m 1303 ls [])) (σ τ : St) (H : Heap) (locs : List Loc) (ls : Array Slot) (hw : wL_7 xs L v3 σ τ K) (hPx : va_P D vwCl (xw ad cI cJ cZ σ) H) (hPm : va_P D vwCl (mw am cI cJ cZ τ) H) (hS : va_S (fun q : Nat => s.heap.size ≤ q) s.heap H locs) (hl : lv_has ls 4 [(0, .ref b), (1, .ref (ad 0)), (2, .ref (am 0)), (3, .int v3)]) : W p l e room_1 s m #[Value.ref b] below meth c H locs 52 10198 (lw_Z below #[Value.ref b] s) (F0 m 445 ls []) := by
  obtain ⟨hx, hb, hr, hml, hown, hts, hX, hbl, hlocks, hgv⟩ := C0
  obtain ⟨hK, hN, hDx, hDm, hAx, hAm, hdx, hdm⟩ := X0
  have hbA : ¬ (fun q : Nat => s.heap.size ≤ q) b := Nat.not_le.mpr hbl
  unfold wL_7 at hw
  refine lv_aload_n hx hb dL_law_445 rfl (lv_at hl 1 rfl) ?_
  refine lv_aload_n hx hb dL_law_446 rfl (lv_at hl 0 rfl) ?_
  refine lv_iload_n hx hb dL_law_447 rfl (lv_at hl 3 rfl) ?_
  refine lv_iconst (v := 1) hx hb dL_law_448 (by decide) ?_
  refine lv_iadd hx hb dL_law_449 ?_
  obtain ⟨h9, hw⟩ := hw
  refine va_sld hx hb hX hbl hbA hS h9 dL_law_450 ?_
  refine lv_aload_n hx hb dL_law_451 rfl (lv_at hl 0 rfl) ?_
  refine lv_iload_n hx hb dL_law_452 rfl (lv_at hl 3 rfl) ?_
  refine lv_iconst (v := 2) hx hb dL_law_453 (by decide) ?_
  refine lv_iadd hx hb dL_law_454 ?_
  obtain ⟨h9, hw⟩ := hw
  refine va_sld hx hb hX hbl hbA hS h9 dL_law_455 ?_
  refine wd_lVi ⟨hx, hb, hml, hown, hts⟩ (mtX9_kind l D ad cI cJ cZ Ax hDx σ (xs (v3 + (1 : Int32)).toNatClampNeg) (xs (v3 + (2 : Int32)).toNatClampNeg) _ hw) (cwV 2 hts gl_X9_kind rfl rfl rfl (by decide +kernel) ⟨(Nat.le_of_ble_eq_true rfl), (Nat.le_of_ble_eq_true rfl)⟩) (va_recv hK hPx (ci := 9) (q0 := 0) rfl (xw_q0 ad cI cJ cZ σ)) hK hN hPx hPm hS hAx (hdx τ) rfl hl.1 rfl (Nat.le_of_ble_eq_true rfl) dL_law_456 ⟨(Nat.le_of_ble_eq_true rfl), (Nat.le_of_ble_eq_true rfl)⟩ (fun r1 u9 H locs hq hPx hPm hS => ?_)
  obtain ⟨hw, hu⟩ := hq
  rw [hu] at hPx
  refine lv_pop hx hb dL_law_459 rfl ?_
  refine lv_aload_n hx hb dL_law_460 rfl (lv_at hl 2 rfl) ?_
  refine lv_aload_n hx hb dL_law_461 rfl (lv_at hl 0 rfl) ?_
  refine lv_iload_n hx hb dL_law_462 rfl (lv_at hl 3 rfl) ?_
  refine lv_iconst (v := 1) hx hb dL_law_463 (by decide) ?_
  refine lv_iadd hx hb dL_law_464 ?_
  obtain ⟨h9, hw⟩ := hw
  refine va_sld hx hb hX hbl hbA hS h9 dL_law_465 ?_
  refine lv_aload_n hx hb dL_law_466 rfl (lv_at hl 0 rfl) ?_
  refine lv_iload_n hx hb dL_law_467 rfl (lv_at hl 3 rfl) ?_
  refine lv_iconst (v := 2) hx hb dL_law_468 (by decide) ?_
  refine lv_iadd hx hb dL_law_469 ?_
  obtain ⟨h9, hw⟩ := hw
  refine va_sld hx hb hX hbl hbA hS h9 dL_law_470 ?_
  refine wd_lVi ⟨hx, hb, hml, hown, hts⟩ (mtX10_kind l D am cI cJ cZ Am hDm τ (xs (v3 + (1 : Int32)).toNatClampNeg) (xs (v3 + (2 : Int32)).toNatClampNeg) _ hw) (cwV 2 hts gl_X10_kind rfl rfl rfl (by decide +kernel) ⟨(Nat.le_of_ble_eq_true rfl), (Nat.le_of_ble_eq_true rfl)⟩) (va_recv hK hPm (ci := 10) (q0 := 0) rfl (mw_q0 am cI cJ cZ τ)) hK hN hPm hPx hS hAm (hdm σ) rfl hl.1 rfl (Nat.le_of_ble_eq_true rfl) dL_law_471 ⟨(Nat.le_of_ble_eq_true rfl), (Nat.le_of_ble_eq_true rfl)⟩ (fun r2 u9 H locs hq hPm hPx hS => ?_)
  obtain ⟨hw, hu⟩ := hq
  rw [hu] at hPm
  refine lv_pop hx hb dL_law_474 rfl ?_
  refine lv_goto (tgt := 1303) hx hb dL_law_475 (by decide) ?_
  exact hKx _ _ _ _ _ hw hPx hPm hS hl

def wL_8 (xs : Nat → Int32) (L : Nat) (v3 : Int32) (σ τ : St) (K : St → St → Prop) : Prop := vp_in (v3 + (1 : Int32)) L ∧ (vp_in (v3 + (2 : Int32)) L ∧ (vp_in (v3 + (3 : Int32)) L ∧ (wX9_uses σ (xs (v3 + (1 : Int32)).toNatClampNeg) (xs (v3 + (2 : Int32)).toNatClampNeg) (xs (v3 + (3 : Int32)).toNatClampNeg) (fun (r1 : Int32) (σ2 : St) => vp_in (v3 + (1 : Int32)) L ∧ (vp_in (v3 + (2 : Int32)) L ∧ (vp_in (v3 + (3 : Int32)) L ∧ (wX10_uses τ (xs (v3 + (1 : Int32)).toNatClampNeg) (xs (v3 + (2 : Int32)).toNatClampNeg) (xs (v3 + (3 : Int32)).toNatClampNeg) (fun (r3 : Int32) (τ4 : St) => K σ2 τ4))))))))
set_option maxHeartbeats 4000000 in
set_option maxRecDepth 100000 in
theorem lc_8 {p : Program} {e : Env} {s : State} {m : MethodId} {below : List Frame} {meth : Method} {c : Code} (l : Launch) {b L : Nat} {xs : Nat → Int32} (C0 : lw_At p s m meth c b L xs) {D : va_G} {ad am : Nat → Nat} {cI cJ cZ : ClassId} {Ax Am : Nat → Prop} (X0 : lw_cx s D ad am cI cJ cZ Ax Am) (v3 : Int32) (K : St → St → Prop) (hKx : ∀ (σ τ : St) (H : Heap) (locs : List Loc) (ls : Array Slot), K σ τ → va_P D vwCl (xw ad cI cJ cZ σ) H → va_P D vwCl (mw am cI cJ cZ τ) H → va_S (fun q : Nat => s.heap.size ≤ q) s.heap H locs → lv_has ls 4 [(0, .ref b), (1, .ref (ad 0)), (2, .ref (am 0)), (3, .int v3)] → W p l e room_1 s m #[Value.ref b] below meth c H locs 52 10198 (lw_Z below #[Value.ref b] s) (F0 m 1303 ls [])) (σ τ : St) (H : Heap) (locs : List Loc) (ls : Array Slot) (hw : wL_8 xs L v3 σ τ K) (hPx : va_P D vwCl (xw ad cI cJ cZ σ) H) (hPm : va_P D vwCl (mw am cI cJ cZ τ) H) (hS : va_S (fun q : Nat => s.heap.size ≤ q) s.heap H locs) (hl : lv_has ls 4 [(0, .ref b), (1, .ref (ad 0)), (2, .ref (am 0)), (3, .int v3)]) : W p l e room_1 s m #[Value.ref b] below meth c H locs 52 10198 (lw_Z below #[Value.ref b] s) (F0 m 478 ls []) := by
  obtain ⟨hx, hb, hr, hml, hown, hts, hX, hbl, hlocks, hgv⟩ := C0
  obtain ⟨hK, hN, hDx, hDm, hAx, hAm, hdx, hdm⟩ := X0
  have hbA : ¬ (fun q : Nat => s.heap.size ≤ q) b := Nat.not_le.mpr hbl
  unfold wL_8 at hw
  refine lv_aload_n hx hb dL_law_478 rfl (lv_at hl 1 rfl) ?_
  refine lv_aload_n hx hb dL_law_479 rfl (lv_at hl 0 rfl) ?_
  refine lv_iload_n hx hb dL_law_480 rfl (lv_at hl 3 rfl) ?_
  refine lv_iconst (v := 1) hx hb dL_law_481 (by decide) ?_
  refine lv_iadd hx hb dL_law_482 ?_
  obtain ⟨h9, hw⟩ := hw
  refine va_sld hx hb hX hbl hbA hS h9 dL_law_483 ?_
  refine lv_aload_n hx hb dL_law_484 rfl (lv_at hl 0 rfl) ?_
  refine lv_iload_n hx hb dL_law_485 rfl (lv_at hl 3 rfl) ?_
  refine lv_iconst (v := 2) hx hb dL_law_486 (by decide) ?_
  refine lv_iadd hx hb dL_law_487 ?_
  obtain ⟨h9, hw⟩ := hw
  refine va_sld hx hb hX hbl hbA hS h9 dL_law_488 ?_
  refine lv_aload_n hx hb dL_law_489 rfl (lv_at hl 0 rfl) ?_
  refine lv_iload_n hx hb dL_law_490 rfl (lv_at hl 3 rfl) ?_
  refine lv_iconst (v := 3) hx hb dL_law_491 (by decide) ?_
  refine lv_iadd hx hb dL_law_492 ?_
  obtain ⟨h9, hw⟩ := hw
  refine va_sld hx hb hX hbl hbA hS h9 dL_law_493 ?_
  refine wd_lVi ⟨hx, hb, hml, hown, hts⟩ (mtX9_uses l D ad cI cJ cZ Ax hDx σ (xs (v3 + (1 : Int32)).toNatClampNeg) (xs (v3 + (2 : Int32)).toNatClampNeg) (xs (v3 + (3 : Int32)).toNatClampNeg) _ hw) (cwV 3 hts gl_X9_uses rfl rfl rfl (by decide +kernel) ⟨(Nat.le_of_ble_eq_true rfl), (Nat.le_of_ble_eq_true rfl)⟩) (va_recv hK hPx (ci := 9) (q0 := 0) rfl (xw_q0 ad cI cJ cZ σ)) hK hN hPx hPm hS hAx (hdx τ) rfl hl.1 rfl (Nat.le_of_ble_eq_true rfl) dL_law_494 ⟨(Nat.le_of_ble_eq_true rfl), (Nat.le_of_ble_eq_true rfl)⟩ (fun r1 σ2 H locs hw hPx hPm hS => ?_)
  refine lv_pop hx hb dL_law_497 rfl ?_
  refine lv_aload_n hx hb dL_law_498 rfl (lv_at hl 2 rfl) ?_
  refine lv_aload_n hx hb dL_law_499 rfl (lv_at hl 0 rfl) ?_
  refine lv_iload_n hx hb dL_law_500 rfl (lv_at hl 3 rfl) ?_
  refine lv_iconst (v := 1) hx hb dL_law_501 (by decide) ?_
  refine lv_iadd hx hb dL_law_502 ?_
  obtain ⟨h9, hw⟩ := hw
  refine va_sld hx hb hX hbl hbA hS h9 dL_law_503 ?_
  refine lv_aload_n hx hb dL_law_504 rfl (lv_at hl 0 rfl) ?_
  refine lv_iload_n hx hb dL_law_505 rfl (lv_at hl 3 rfl) ?_
  refine lv_iconst (v := 2) hx hb dL_law_506 (by decide) ?_
  refine lv_iadd hx hb dL_law_507 ?_
  obtain ⟨h9, hw⟩ := hw
  refine va_sld hx hb hX hbl hbA hS h9 dL_law_508 ?_
  refine lv_aload_n hx hb dL_law_509 rfl (lv_at hl 0 rfl) ?_
  refine lv_iload_n hx hb dL_law_510 rfl (lv_at hl 3 rfl) ?_
  refine lv_iconst (v := 3) hx hb dL_law_511 (by decide) ?_
  refine lv_iadd hx hb dL_law_512 ?_
  obtain ⟨h9, hw⟩ := hw
  refine va_sld hx hb hX hbl hbA hS h9 dL_law_513 ?_
  refine wd_lVi ⟨hx, hb, hml, hown, hts⟩ (mtX10_uses l D am cI cJ cZ Am hDm τ (xs (v3 + (1 : Int32)).toNatClampNeg) (xs (v3 + (2 : Int32)).toNatClampNeg) (xs (v3 + (3 : Int32)).toNatClampNeg) _ hw) (cwV 3 hts gl_X10_uses rfl rfl rfl (by decide +kernel) ⟨(Nat.le_of_ble_eq_true rfl), (Nat.le_of_ble_eq_true rfl)⟩) (va_recv hK hPm (ci := 10) (q0 := 0) rfl (mw_q0 am cI cJ cZ τ)) hK hN hPm hPx hS hAm (hdm σ2) rfl hl.1 rfl (Nat.le_of_ble_eq_true rfl) dL_law_514 ⟨(Nat.le_of_ble_eq_true rfl), (Nat.le_of_ble_eq_true rfl)⟩ (fun r3 τ4 H locs hw hPm hPx hS => ?_)
  refine lv_pop hx hb dL_law_517 rfl ?_
  refine lv_goto (tgt := 1303) hx hb dL_law_518 (by decide) ?_
  exact hKx _ _ _ _ _ hw hPx hPm hS hl

def wL_9 (xs : Nat → Int32) (L : Nat) (v3 : Int32) (σ τ : St) (K : St → St → Prop) : Prop := vp_in (v3 + (1 : Int32)) L ∧ (wX9_strike σ (xs (v3 + (1 : Int32)).toNatClampNeg) (fun (r1 : Int32) (σ2 : St) => vp_in (v3 + (1 : Int32)) L ∧ (wX10_strike τ (xs (v3 + (1 : Int32)).toNatClampNeg) (fun (r3 : Int32) (τ4 : St) => K σ2 τ4))))
set_option maxHeartbeats 4000000 in
set_option maxRecDepth 100000 in
theorem lc_9 {p : Program} {e : Env} {s : State} {m : MethodId} {below : List Frame} {meth : Method} {c : Code} (l : Launch) {b L : Nat} {xs : Nat → Int32} (C0 : lw_At p s m meth c b L xs) {D : va_G} {ad am : Nat → Nat} {cI cJ cZ : ClassId} {Ax Am : Nat → Prop} (X0 : lw_cx s D ad am cI cJ cZ Ax Am) (v3 : Int32) (K : St → St → Prop) (hKx : ∀ (σ τ : St) (H : Heap) (locs : List Loc) (ls : Array Slot), K σ τ → va_P D vwCl (xw ad cI cJ cZ σ) H → va_P D vwCl (mw am cI cJ cZ τ) H → va_S (fun q : Nat => s.heap.size ≤ q) s.heap H locs → lv_has ls 4 [(0, .ref b), (1, .ref (ad 0)), (2, .ref (am 0)), (3, .int v3)] → W p l e room_1 s m #[Value.ref b] below meth c H locs 52 10198 (lw_Z below #[Value.ref b] s) (F0 m 1303 ls [])) (σ τ : St) (H : Heap) (locs : List Loc) (ls : Array Slot) (hw : wL_9 xs L v3 σ τ K) (hPx : va_P D vwCl (xw ad cI cJ cZ σ) H) (hPm : va_P D vwCl (mw am cI cJ cZ τ) H) (hS : va_S (fun q : Nat => s.heap.size ≤ q) s.heap H locs) (hl : lv_has ls 4 [(0, .ref b), (1, .ref (ad 0)), (2, .ref (am 0)), (3, .int v3)]) : W p l e room_1 s m #[Value.ref b] below meth c H locs 52 10198 (lw_Z below #[Value.ref b] s) (F0 m 521 ls []) := by
  obtain ⟨hx, hb, hr, hml, hown, hts, hX, hbl, hlocks, hgv⟩ := C0
  obtain ⟨hK, hN, hDx, hDm, hAx, hAm, hdx, hdm⟩ := X0
  have hbA : ¬ (fun q : Nat => s.heap.size ≤ q) b := Nat.not_le.mpr hbl
  unfold wL_9 at hw
  refine lv_aload_n hx hb dL_law_521 rfl (lv_at hl 1 rfl) ?_
  refine lv_aload_n hx hb dL_law_522 rfl (lv_at hl 0 rfl) ?_
  refine lv_iload_n hx hb dL_law_523 rfl (lv_at hl 3 rfl) ?_
  refine lv_iconst (v := 1) hx hb dL_law_524 (by decide) ?_
  refine lv_iadd hx hb dL_law_525 ?_
  obtain ⟨h9, hw⟩ := hw
  refine va_sld hx hb hX hbl hbA hS h9 dL_law_526 ?_
  refine wd_lVi ⟨hx, hb, hml, hown, hts⟩ (mtX9_strike l D ad cI cJ cZ Ax hDx σ (xs (v3 + (1 : Int32)).toNatClampNeg) _ hw) (cwV 1 hts gl_X9_strike rfl rfl rfl (by decide +kernel) ⟨(Nat.le_of_ble_eq_true rfl), (Nat.le_of_ble_eq_true rfl)⟩) (va_recv hK hPx (ci := 9) (q0 := 0) rfl (xw_q0 ad cI cJ cZ σ)) hK hN hPx hPm hS hAx (hdx τ) rfl hl.1 rfl (Nat.le_of_ble_eq_true rfl) dL_law_527 ⟨(Nat.le_of_ble_eq_true rfl), (Nat.le_of_ble_eq_true rfl)⟩ (fun r1 σ2 H locs hw hPx hPm hS => ?_)
  refine lv_pop hx hb dL_law_530 rfl ?_
  refine lv_aload_n hx hb dL_law_531 rfl (lv_at hl 2 rfl) ?_
  refine lv_aload_n hx hb dL_law_532 rfl (lv_at hl 0 rfl) ?_
  refine lv_iload_n hx hb dL_law_533 rfl (lv_at hl 3 rfl) ?_
  refine lv_iconst (v := 1) hx hb dL_law_534 (by decide) ?_
  refine lv_iadd hx hb dL_law_535 ?_
  obtain ⟨h9, hw⟩ := hw
  refine va_sld hx hb hX hbl hbA hS h9 dL_law_536 ?_
  refine wd_lVi ⟨hx, hb, hml, hown, hts⟩ (mtX10_strike l D am cI cJ cZ Am hDm τ (xs (v3 + (1 : Int32)).toNatClampNeg) _ hw) (cwV 1 hts gl_X10_strike rfl rfl rfl (by decide +kernel) ⟨(Nat.le_of_ble_eq_true rfl), (Nat.le_of_ble_eq_true rfl)⟩) (va_recv hK hPm (ci := 10) (q0 := 0) rfl (mw_q0 am cI cJ cZ τ)) hK hN hPm hPx hS hAm (hdm σ2) rfl hl.1 rfl (Nat.le_of_ble_eq_true rfl) dL_law_537 ⟨(Nat.le_of_ble_eq_true rfl), (Nat.le_of_ble_eq_true rfl)⟩ (fun r3 τ4 H locs hw hPm hPx hS => ?_)
  refine lv_pop hx hb dL_law_540 rfl ?_
  refine lv_goto (tgt := 1303) hx hb dL_law_541 (by decide) ?_
  exact hKx _ _ _ _ _ hw hPx hPm hS hl

def wL_10 (xs : Nat → Int32) (L : Nat) (v3 : Int32) (σ τ : St) (K : St → St → Prop) : Prop := vp_in (v3 + (1 : Int32)) L ∧ (vp_in (v3 + (2 : Int32)) L ∧ (wX9_ask σ (xs (v3 + (1 : Int32)).toNatClampNeg) (xs (v3 + (2 : Int32)).toNatClampNeg) (fun (r1 : Int32) (σ2 : St) => vp_in (v3 + (1 : Int32)) L ∧ (vp_in (v3 + (2 : Int32)) L ∧ (wX10_ask τ (xs (v3 + (1 : Int32)).toNatClampNeg) (xs (v3 + (2 : Int32)).toNatClampNeg) (fun (r3 : Int32) (τ4 : St) => K σ2 τ4))))))
set_option maxHeartbeats 4000000 in
set_option maxRecDepth 100000 in
theorem lc_10 {p : Program} {e : Env} {s : State} {m : MethodId} {below : List Frame} {meth : Method} {c : Code} (l : Launch) {b L : Nat} {xs : Nat → Int32} (C0 : lw_At p s m meth c b L xs) {D : va_G} {ad am : Nat → Nat} {cI cJ cZ : ClassId} {Ax Am : Nat → Prop} (X0 : lw_cx s D ad am cI cJ cZ Ax Am) (v3 : Int32) (K : St → St → Prop) (hKx : ∀ (σ τ : St) (H : Heap) (locs : List Loc) (ls : Array Slot), K σ τ → va_P D vwCl (xw ad cI cJ cZ σ) H → va_P D vwCl (mw am cI cJ cZ τ) H → va_S (fun q : Nat => s.heap.size ≤ q) s.heap H locs → lv_has ls 4 [(0, .ref b), (1, .ref (ad 0)), (2, .ref (am 0)), (3, .int v3)] → W p l e room_1 s m #[Value.ref b] below meth c H locs 52 10198 (lw_Z below #[Value.ref b] s) (F0 m 1303 ls [])) (σ τ : St) (H : Heap) (locs : List Loc) (ls : Array Slot) (hw : wL_10 xs L v3 σ τ K) (hPx : va_P D vwCl (xw ad cI cJ cZ σ) H) (hPm : va_P D vwCl (mw am cI cJ cZ τ) H) (hS : va_S (fun q : Nat => s.heap.size ≤ q) s.heap H locs) (hl : lv_has ls 4 [(0, .ref b), (1, .ref (ad 0)), (2, .ref (am 0)), (3, .int v3)]) : W p l e room_1 s m #[Value.ref b] below meth c H locs 52 10198 (lw_Z below #[Value.ref b] s) (F0 m 544 ls []) := by
  obtain ⟨hx, hb, hr, hml, hown, hts, hX, hbl, hlocks, hgv⟩ := C0
  obtain ⟨hK, hN, hDx, hDm, hAx, hAm, hdx, hdm⟩ := X0
  have hbA : ¬ (fun q : Nat => s.heap.size ≤ q) b := Nat.not_le.mpr hbl
  unfold wL_10 at hw
  refine lv_aload_n hx hb dL_law_544 rfl (lv_at hl 1 rfl) ?_
  refine lv_aload_n hx hb dL_law_545 rfl (lv_at hl 0 rfl) ?_
  refine lv_iload_n hx hb dL_law_546 rfl (lv_at hl 3 rfl) ?_
  refine lv_iconst (v := 1) hx hb dL_law_547 (by decide) ?_
  refine lv_iadd hx hb dL_law_548 ?_
  obtain ⟨h9, hw⟩ := hw
  refine va_sld hx hb hX hbl hbA hS h9 dL_law_549 ?_
  refine lv_aload_n hx hb dL_law_550 rfl (lv_at hl 0 rfl) ?_
  refine lv_iload_n hx hb dL_law_551 rfl (lv_at hl 3 rfl) ?_
  refine lv_iconst (v := 2) hx hb dL_law_552 (by decide) ?_
  refine lv_iadd hx hb dL_law_553 ?_
  obtain ⟨h9, hw⟩ := hw
  refine va_sld hx hb hX hbl hbA hS h9 dL_law_554 ?_
  refine wd_lVi ⟨hx, hb, hml, hown, hts⟩ (mtX9_ask l D ad cI cJ cZ Ax hDx σ (xs (v3 + (1 : Int32)).toNatClampNeg) (xs (v3 + (2 : Int32)).toNatClampNeg) _ hw) (cwV 2 hts gl_X9_ask rfl rfl rfl (by decide +kernel) ⟨(Nat.le_of_ble_eq_true rfl), (Nat.le_of_ble_eq_true rfl)⟩) (va_recv hK hPx (ci := 9) (q0 := 0) rfl (xw_q0 ad cI cJ cZ σ)) hK hN hPx hPm hS hAx (hdx τ) rfl hl.1 rfl (Nat.le_of_ble_eq_true rfl) dL_law_555 ⟨(Nat.le_of_ble_eq_true rfl), (Nat.le_of_ble_eq_true rfl)⟩ (fun r1 σ2 H locs hw hPx hPm hS => ?_)
  refine lv_pop hx hb dL_law_558 rfl ?_
  refine lv_aload_n hx hb dL_law_559 rfl (lv_at hl 2 rfl) ?_
  refine lv_aload_n hx hb dL_law_560 rfl (lv_at hl 0 rfl) ?_
  refine lv_iload_n hx hb dL_law_561 rfl (lv_at hl 3 rfl) ?_
  refine lv_iconst (v := 1) hx hb dL_law_562 (by decide) ?_
  refine lv_iadd hx hb dL_law_563 ?_
  obtain ⟨h9, hw⟩ := hw
  refine va_sld hx hb hX hbl hbA hS h9 dL_law_564 ?_
  refine lv_aload_n hx hb dL_law_565 rfl (lv_at hl 0 rfl) ?_
  refine lv_iload_n hx hb dL_law_566 rfl (lv_at hl 3 rfl) ?_
  refine lv_iconst (v := 2) hx hb dL_law_567 (by decide) ?_
  refine lv_iadd hx hb dL_law_568 ?_
  obtain ⟨h9, hw⟩ := hw
  refine va_sld hx hb hX hbl hbA hS h9 dL_law_569 ?_
  refine wd_lVi ⟨hx, hb, hml, hown, hts⟩ (mtX10_ask l D am cI cJ cZ Am hDm τ (xs (v3 + (1 : Int32)).toNatClampNeg) (xs (v3 + (2 : Int32)).toNatClampNeg) _ hw) (cwV 2 hts gl_X10_ask rfl rfl rfl (by decide +kernel) ⟨(Nat.le_of_ble_eq_true rfl), (Nat.le_of_ble_eq_true rfl)⟩) (va_recv hK hPm (ci := 10) (q0 := 0) rfl (mw_q0 am cI cJ cZ τ)) hK hN hPm hPx hS hAm (hdm σ2) rfl hl.1 rfl (Nat.le_of_ble_eq_true rfl) dL_law_570 ⟨(Nat.le_of_ble_eq_true rfl), (Nat.le_of_ble_eq_true rfl)⟩ (fun r3 τ4 H locs hw hPm hPx hS => ?_)
  refine lv_pop hx hb dL_law_573 rfl ?_
  refine lv_goto (tgt := 1303) hx hb dL_law_574 (by decide) ?_
  exact hKx _ _ _ _ _ hw hPx hPm hS hl

def wL_11 (xs : Nat → Int32) (L : Nat) (v3 : Int32) (σ τ : St) (K : St → St → Prop) : Prop := vp_in (v3 + (1 : Int32)) L ∧ (wX9_asks σ (xs (v3 + (1 : Int32)).toNatClampNeg) (fun (r1 : Int32) => vp_in (v3 + (1 : Int32)) L ∧ (wX10_asks τ (xs (v3 + (1 : Int32)).toNatClampNeg) (fun (r2 : Int32) => K σ τ))))
set_option maxHeartbeats 4000000 in
set_option maxRecDepth 100000 in
theorem lc_11 {p : Program} {e : Env} {s : State} {m : MethodId} {below : List Frame} {meth : Method} {c : Code} (l : Launch) {b L : Nat} {xs : Nat → Int32} (C0 : lw_At p s m meth c b L xs) {D : va_G} {ad am : Nat → Nat} {cI cJ cZ : ClassId} {Ax Am : Nat → Prop} (X0 : lw_cx s D ad am cI cJ cZ Ax Am) (v3 : Int32) (K : St → St → Prop) (hKx : ∀ (σ τ : St) (H : Heap) (locs : List Loc) (ls : Array Slot), K σ τ → va_P D vwCl (xw ad cI cJ cZ σ) H → va_P D vwCl (mw am cI cJ cZ τ) H → va_S (fun q : Nat => s.heap.size ≤ q) s.heap H locs → lv_has ls 4 [(0, .ref b), (1, .ref (ad 0)), (2, .ref (am 0)), (3, .int v3)] → W p l e room_1 s m #[Value.ref b] below meth c H locs 52 10198 (lw_Z below #[Value.ref b] s) (F0 m 1303 ls [])) (σ τ : St) (H : Heap) (locs : List Loc) (ls : Array Slot) (hw : wL_11 xs L v3 σ τ K) (hPx : va_P D vwCl (xw ad cI cJ cZ σ) H) (hPm : va_P D vwCl (mw am cI cJ cZ τ) H) (hS : va_S (fun q : Nat => s.heap.size ≤ q) s.heap H locs) (hl : lv_has ls 4 [(0, .ref b), (1, .ref (ad 0)), (2, .ref (am 0)), (3, .int v3)]) : W p l e room_1 s m #[Value.ref b] below meth c H locs 52 10198 (lw_Z below #[Value.ref b] s) (F0 m 577 ls []) := by
  obtain ⟨hx, hb, hr, hml, hown, hts, hX, hbl, hlocks, hgv⟩ := C0
  obtain ⟨hK, hN, hDx, hDm, hAx, hAm, hdx, hdm⟩ := X0
  have hbA : ¬ (fun q : Nat => s.heap.size ≤ q) b := Nat.not_le.mpr hbl
  unfold wL_11 at hw
  refine lv_aload_n hx hb dL_law_577 rfl (lv_at hl 1 rfl) ?_
  refine lv_aload_n hx hb dL_law_578 rfl (lv_at hl 0 rfl) ?_
  refine lv_iload_n hx hb dL_law_579 rfl (lv_at hl 3 rfl) ?_
  refine lv_iconst (v := 1) hx hb dL_law_580 (by decide) ?_
  refine lv_iadd hx hb dL_law_581 ?_
  obtain ⟨h9, hw⟩ := hw
  refine va_sld hx hb hX hbl hbA hS h9 dL_law_582 ?_
  refine wd_lVi ⟨hx, hb, hml, hown, hts⟩ (mtX9_asks l D ad cI cJ cZ Ax hDx σ (xs (v3 + (1 : Int32)).toNatClampNeg) _ hw) (cwV 1 hts gl_X9_asks rfl rfl rfl (by decide +kernel) ⟨(Nat.le_of_ble_eq_true rfl), (Nat.le_of_ble_eq_true rfl)⟩) (va_recv hK hPx (ci := 9) (q0 := 0) rfl (xw_q0 ad cI cJ cZ σ)) hK hN hPx hPm hS hAx (hdx τ) rfl hl.1 rfl (Nat.le_of_ble_eq_true rfl) dL_law_583 ⟨(Nat.le_of_ble_eq_true rfl), (Nat.le_of_ble_eq_true rfl)⟩ (fun r1 u9 H locs hq hPx hPm hS => ?_)
  obtain ⟨hw, hu⟩ := hq
  rw [hu] at hPx
  refine lv_pop hx hb dL_law_586 rfl ?_
  refine lv_aload_n hx hb dL_law_587 rfl (lv_at hl 2 rfl) ?_
  refine lv_aload_n hx hb dL_law_588 rfl (lv_at hl 0 rfl) ?_
  refine lv_iload_n hx hb dL_law_589 rfl (lv_at hl 3 rfl) ?_
  refine lv_iconst (v := 1) hx hb dL_law_590 (by decide) ?_
  refine lv_iadd hx hb dL_law_591 ?_
  obtain ⟨h9, hw⟩ := hw
  refine va_sld hx hb hX hbl hbA hS h9 dL_law_592 ?_
  refine wd_lVi ⟨hx, hb, hml, hown, hts⟩ (mtX10_asks l D am cI cJ cZ Am hDm τ (xs (v3 + (1 : Int32)).toNatClampNeg) _ hw) (cwV 1 hts gl_X10_asks rfl rfl rfl (by decide +kernel) ⟨(Nat.le_of_ble_eq_true rfl), (Nat.le_of_ble_eq_true rfl)⟩) (va_recv hK hPm (ci := 10) (q0 := 0) rfl (mw_q0 am cI cJ cZ τ)) hK hN hPm hPx hS hAm (hdm σ) rfl hl.1 rfl (Nat.le_of_ble_eq_true rfl) dL_law_593 ⟨(Nat.le_of_ble_eq_true rfl), (Nat.le_of_ble_eq_true rfl)⟩ (fun r2 u9 H locs hq hPm hPx hS => ?_)
  obtain ⟨hw, hu⟩ := hq
  rw [hu] at hPm
  refine lv_pop hx hb dL_law_596 rfl ?_
  refine lv_goto (tgt := 1303) hx hb dL_law_597 (by decide) ?_
  exact hKx _ _ _ _ _ hw hPx hPm hS hl

def wL_12 (xs : Nat → Int32) (L : Nat) (v3 : Int32) (σ τ : St) (K : St → St → Prop) : Prop := wX9_candidates σ (fun (r1 : Int32) (σ2 : St) => wX10_candidates τ (fun (r3 : Int32) (τ4 : St) => K σ2 τ4))
set_option maxHeartbeats 4000000 in
set_option maxRecDepth 100000 in
theorem lc_12 {p : Program} {e : Env} {s : State} {m : MethodId} {below : List Frame} {meth : Method} {c : Code} (l : Launch) {b L : Nat} {xs : Nat → Int32} (C0 : lw_At p s m meth c b L xs) {D : va_G} {ad am : Nat → Nat} {cI cJ cZ : ClassId} {Ax Am : Nat → Prop} (X0 : lw_cx s D ad am cI cJ cZ Ax Am) (v3 : Int32) (K : St → St → Prop) (hKx : ∀ (σ τ : St) (H : Heap) (locs : List Loc) (ls : Array Slot), K σ τ → va_P D vwCl (xw ad cI cJ cZ σ) H → va_P D vwCl (mw am cI cJ cZ τ) H → va_S (fun q : Nat => s.heap.size ≤ q) s.heap H locs → lv_has ls 4 [(0, .ref b), (1, .ref (ad 0)), (2, .ref (am 0)), (3, .int v3)] → W p l e room_1 s m #[Value.ref b] below meth c H locs 52 10198 (lw_Z below #[Value.ref b] s) (F0 m 1303 ls [])) (σ τ : St) (H : Heap) (locs : List Loc) (ls : Array Slot) (hw : wL_12 xs L v3 σ τ K) (hPx : va_P D vwCl (xw ad cI cJ cZ σ) H) (hPm : va_P D vwCl (mw am cI cJ cZ τ) H) (hS : va_S (fun q : Nat => s.heap.size ≤ q) s.heap H locs) (hl : lv_has ls 4 [(0, .ref b), (1, .ref (ad 0)), (2, .ref (am 0)), (3, .int v3)]) : W p l e room_1 s m #[Value.ref b] below meth c H locs 52 10198 (lw_Z below #[Value.ref b] s) (F0 m 600 ls []) := by
  obtain ⟨hx, hb, hr, hml, hown, hts, hX, hbl, hlocks, hgv⟩ := C0
  obtain ⟨hK, hN, hDx, hDm, hAx, hAm, hdx, hdm⟩ := X0
  have hbA : ¬ (fun q : Nat => s.heap.size ≤ q) b := Nat.not_le.mpr hbl
  unfold wL_12 at hw
  refine lv_aload_n hx hb dL_law_600 rfl (lv_at hl 1 rfl) ?_
  refine wd_lVi ⟨hx, hb, hml, hown, hts⟩ (mtX9_candidates l D ad cI cJ cZ Ax hDx σ  _ hw) (cwV 0 hts gl_X9_candidates rfl rfl rfl (by decide +kernel) ⟨(Nat.le_of_ble_eq_true rfl), (Nat.le_of_ble_eq_true rfl)⟩) (va_recv hK hPx (ci := 9) (q0 := 0) rfl (xw_q0 ad cI cJ cZ σ)) hK hN hPx hPm hS hAx (hdx τ) rfl hl.1 rfl (Nat.le_of_ble_eq_true rfl) dL_law_601 ⟨(Nat.le_of_ble_eq_true rfl), (Nat.le_of_ble_eq_true rfl)⟩ (fun r1 σ2 H locs hw hPx hPm hS => ?_)
  refine lv_pop hx hb dL_law_604 rfl ?_
  refine lv_aload_n hx hb dL_law_605 rfl (lv_at hl 2 rfl) ?_
  refine wd_lVi ⟨hx, hb, hml, hown, hts⟩ (mtX10_candidates l D am cI cJ cZ Am hDm τ  _ hw) (cwV 0 hts gl_X10_candidates rfl rfl rfl (by decide +kernel) ⟨(Nat.le_of_ble_eq_true rfl), (Nat.le_of_ble_eq_true rfl)⟩) (va_recv hK hPm (ci := 10) (q0 := 0) rfl (mw_q0 am cI cJ cZ τ)) hK hN hPm hPx hS hAm (hdm σ2) rfl hl.1 rfl (Nat.le_of_ble_eq_true rfl) dL_law_606 ⟨(Nat.le_of_ble_eq_true rfl), (Nat.le_of_ble_eq_true rfl)⟩ (fun r3 τ4 H locs hw hPm hPx hS => ?_)
  refine lv_pop hx hb dL_law_609 rfl ?_
  refine lv_goto (tgt := 1303) hx hb dL_law_610 (by decide) ?_
  exact hKx _ _ _ _ _ hw hPx hPm hS hl

def wL_13 (xs : Nat → Int32) (L : Nat) (v3 : Int32) (σ τ : St) (K : St → St → Prop) : Prop := vp_in (v3 + (1 : Int32)) L ∧ (wX9_roles σ (xs (v3 + (1 : Int32)).toNatClampNeg) (fun (r1 : Int32) (σ2 : St) => vp_in (v3 + (1 : Int32)) L ∧ (wX10_roles τ (xs (v3 + (1 : Int32)).toNatClampNeg) (fun (r3 : Int32) (τ4 : St) => K σ2 τ4))))
set_option maxHeartbeats 4000000 in
set_option maxRecDepth 100000 in
theorem lc_13 {p : Program} {e : Env} {s : State} {m : MethodId} {below : List Frame} {meth : Method} {c : Code} (l : Launch) {b L : Nat} {xs : Nat → Int32} (C0 : lw_At p s m meth c b L xs) {D : va_G} {ad am : Nat → Nat} {cI cJ cZ : ClassId} {Ax Am : Nat → Prop} (X0 : lw_cx s D ad am cI cJ cZ Ax Am) (v3 : Int32) (K : St → St → Prop) (hKx : ∀ (σ τ : St) (H : Heap) (locs : List Loc) (ls : Array Slot), K σ τ → va_P D vwCl (xw ad cI cJ cZ σ) H → va_P D vwCl (mw am cI cJ cZ τ) H → va_S (fun q : Nat => s.heap.size ≤ q) s.heap H locs → lv_has ls 4 [(0, .ref b), (1, .ref (ad 0)), (2, .ref (am 0)), (3, .int v3)] → W p l e room_1 s m #[Value.ref b] below meth c H locs 52 10198 (lw_Z below #[Value.ref b] s) (F0 m 1303 ls [])) (σ τ : St) (H : Heap) (locs : List Loc) (ls : Array Slot) (hw : wL_13 xs L v3 σ τ K) (hPx : va_P D vwCl (xw ad cI cJ cZ σ) H) (hPm : va_P D vwCl (mw am cI cJ cZ τ) H) (hS : va_S (fun q : Nat => s.heap.size ≤ q) s.heap H locs) (hl : lv_has ls 4 [(0, .ref b), (1, .ref (ad 0)), (2, .ref (am 0)), (3, .int v3)]) : W p l e room_1 s m #[Value.ref b] below meth c H locs 52 10198 (lw_Z below #[Value.ref b] s) (F0 m 613 ls []) := by
  obtain ⟨hx, hb, hr, hml, hown, hts, hX, hbl, hlocks, hgv⟩ := C0
  obtain ⟨hK, hN, hDx, hDm, hAx, hAm, hdx, hdm⟩ := X0
  have hbA : ¬ (fun q : Nat => s.heap.size ≤ q) b := Nat.not_le.mpr hbl
  unfold wL_13 at hw
  refine lv_aload_n hx hb dL_law_613 rfl (lv_at hl 1 rfl) ?_
  refine lv_aload_n hx hb dL_law_614 rfl (lv_at hl 0 rfl) ?_
  refine lv_iload_n hx hb dL_law_615 rfl (lv_at hl 3 rfl) ?_
  refine lv_iconst (v := 1) hx hb dL_law_616 (by decide) ?_
  refine lv_iadd hx hb dL_law_617 ?_
  obtain ⟨h9, hw⟩ := hw
  refine va_sld hx hb hX hbl hbA hS h9 dL_law_618 ?_
  refine wd_lVi ⟨hx, hb, hml, hown, hts⟩ (mtX9_roles l D ad cI cJ cZ Ax hDx σ (xs (v3 + (1 : Int32)).toNatClampNeg) _ hw) (cwV 1 hts gl_X9_roles rfl rfl rfl (by decide +kernel) ⟨(Nat.le_of_ble_eq_true rfl), (Nat.le_of_ble_eq_true rfl)⟩) (va_recv hK hPx (ci := 9) (q0 := 0) rfl (xw_q0 ad cI cJ cZ σ)) hK hN hPx hPm hS hAx (hdx τ) rfl hl.1 rfl (Nat.le_of_ble_eq_true rfl) dL_law_619 ⟨(Nat.le_of_ble_eq_true rfl), (Nat.le_of_ble_eq_true rfl)⟩ (fun r1 σ2 H locs hw hPx hPm hS => ?_)
  refine lv_pop hx hb dL_law_622 rfl ?_
  refine lv_aload_n hx hb dL_law_623 rfl (lv_at hl 2 rfl) ?_
  refine lv_aload_n hx hb dL_law_624 rfl (lv_at hl 0 rfl) ?_
  refine lv_iload_n hx hb dL_law_625 rfl (lv_at hl 3 rfl) ?_
  refine lv_iconst (v := 1) hx hb dL_law_626 (by decide) ?_
  refine lv_iadd hx hb dL_law_627 ?_
  obtain ⟨h9, hw⟩ := hw
  refine va_sld hx hb hX hbl hbA hS h9 dL_law_628 ?_
  refine wd_lVi ⟨hx, hb, hml, hown, hts⟩ (mtX10_roles l D am cI cJ cZ Am hDm τ (xs (v3 + (1 : Int32)).toNatClampNeg) _ hw) (cwV 1 hts gl_X10_roles rfl rfl rfl (by decide +kernel) ⟨(Nat.le_of_ble_eq_true rfl), (Nat.le_of_ble_eq_true rfl)⟩) (va_recv hK hPm (ci := 10) (q0 := 0) rfl (mw_q0 am cI cJ cZ τ)) hK hN hPm hPx hS hAm (hdm σ2) rfl hl.1 rfl (Nat.le_of_ble_eq_true rfl) dL_law_629 ⟨(Nat.le_of_ble_eq_true rfl), (Nat.le_of_ble_eq_true rfl)⟩ (fun r3 τ4 H locs hw hPm hPx hS => ?_)
  refine lv_pop hx hb dL_law_632 rfl ?_
  refine lv_goto (tgt := 1303) hx hb dL_law_633 (by decide) ?_
  exact hKx _ _ _ _ _ hw hPx hPm hS hl

def wL_14 (xs : Nat → Int32) (L : Nat) (v3 : Int32) (σ τ : St) (K : St → St → Prop) : Prop := wX9_tries σ (fun (r1 : Int32) => wX10_tries τ (fun (r2 : Int32) => K σ τ))
set_option maxHeartbeats 4000000 in
set_option maxRecDepth 100000 in
theorem lc_14 {p : Program} {e : Env} {s : State} {m : MethodId} {below : List Frame} {meth : Method} {c : Code} (l : Launch) {b L : Nat} {xs : Nat → Int32} (C0 : lw_At p s m meth c b L xs) {D : va_G} {ad am : Nat → Nat} {cI cJ cZ : ClassId} {Ax Am : Nat → Prop} (X0 : lw_cx s D ad am cI cJ cZ Ax Am) (v3 : Int32) (K : St → St → Prop) (hKx : ∀ (σ τ : St) (H : Heap) (locs : List Loc) (ls : Array Slot), K σ τ → va_P D vwCl (xw ad cI cJ cZ σ) H → va_P D vwCl (mw am cI cJ cZ τ) H → va_S (fun q : Nat => s.heap.size ≤ q) s.heap H locs → lv_has ls 4 [(0, .ref b), (1, .ref (ad 0)), (2, .ref (am 0)), (3, .int v3)] → W p l e room_1 s m #[Value.ref b] below meth c H locs 52 10198 (lw_Z below #[Value.ref b] s) (F0 m 1303 ls [])) (σ τ : St) (H : Heap) (locs : List Loc) (ls : Array Slot) (hw : wL_14 xs L v3 σ τ K) (hPx : va_P D vwCl (xw ad cI cJ cZ σ) H) (hPm : va_P D vwCl (mw am cI cJ cZ τ) H) (hS : va_S (fun q : Nat => s.heap.size ≤ q) s.heap H locs) (hl : lv_has ls 4 [(0, .ref b), (1, .ref (ad 0)), (2, .ref (am 0)), (3, .int v3)]) : W p l e room_1 s m #[Value.ref b] below meth c H locs 52 10198 (lw_Z below #[Value.ref b] s) (F0 m 636 ls []) := by
  obtain ⟨hx, hb, hr, hml, hown, hts, hX, hbl, hlocks, hgv⟩ := C0
  obtain ⟨hK, hN, hDx, hDm, hAx, hAm, hdx, hdm⟩ := X0
  have hbA : ¬ (fun q : Nat => s.heap.size ≤ q) b := Nat.not_le.mpr hbl
  unfold wL_14 at hw
  refine lv_aload_n hx hb dL_law_636 rfl (lv_at hl 1 rfl) ?_
  refine wd_lVi ⟨hx, hb, hml, hown, hts⟩ (mtX9_tries l D ad cI cJ cZ Ax hDx σ  _ hw) (cwV 0 hts gl_X9_tries rfl rfl rfl (by decide +kernel) ⟨(Nat.le_of_ble_eq_true rfl), (Nat.le_of_ble_eq_true rfl)⟩) (va_recv hK hPx (ci := 9) (q0 := 0) rfl (xw_q0 ad cI cJ cZ σ)) hK hN hPx hPm hS hAx (hdx τ) rfl hl.1 rfl (Nat.le_of_ble_eq_true rfl) dL_law_637 ⟨(Nat.le_of_ble_eq_true rfl), (Nat.le_of_ble_eq_true rfl)⟩ (fun r1 u9 H locs hq hPx hPm hS => ?_)
  obtain ⟨hw, hu⟩ := hq
  rw [hu] at hPx
  refine lv_pop hx hb dL_law_640 rfl ?_
  refine lv_aload_n hx hb dL_law_641 rfl (lv_at hl 2 rfl) ?_
  refine wd_lVi ⟨hx, hb, hml, hown, hts⟩ (mtX10_tries l D am cI cJ cZ Am hDm τ  _ hw) (cwV 0 hts gl_X10_tries rfl rfl rfl (by decide +kernel) ⟨(Nat.le_of_ble_eq_true rfl), (Nat.le_of_ble_eq_true rfl)⟩) (va_recv hK hPm (ci := 10) (q0 := 0) rfl (mw_q0 am cI cJ cZ τ)) hK hN hPm hPx hS hAm (hdm σ) rfl hl.1 rfl (Nat.le_of_ble_eq_true rfl) dL_law_642 ⟨(Nat.le_of_ble_eq_true rfl), (Nat.le_of_ble_eq_true rfl)⟩ (fun r2 u9 H locs hq hPm hPx hS => ?_)
  obtain ⟨hw, hu⟩ := hq
  rw [hu] at hPm
  refine lv_pop hx hb dL_law_645 rfl ?_
  refine lv_goto (tgt := 1303) hx hb dL_law_646 (by decide) ?_
  exact hKx _ _ _ _ _ hw hPx hPm hS hl

def wL_15 (xs : Nat → Int32) (L : Nat) (v3 : Int32) (σ τ : St) (K : St → St → Prop) : Prop := vp_in (v3 + (1 : Int32)) L ∧ (wX9_role σ (xs (v3 + (1 : Int32)).toNatClampNeg) (fun (r1 : Int32) => vp_in (v3 + (1 : Int32)) L ∧ (wX10_role τ (xs (v3 + (1 : Int32)).toNatClampNeg) (fun (r2 : Int32) => K σ τ))))
set_option maxHeartbeats 4000000 in
set_option maxRecDepth 100000 in
theorem lc_15 {p : Program} {e : Env} {s : State} {m : MethodId} {below : List Frame} {meth : Method} {c : Code} (l : Launch) {b L : Nat} {xs : Nat → Int32} (C0 : lw_At p s m meth c b L xs) {D : va_G} {ad am : Nat → Nat} {cI cJ cZ : ClassId} {Ax Am : Nat → Prop} (X0 : lw_cx s D ad am cI cJ cZ Ax Am) (v3 : Int32) (K : St → St → Prop) (hKx : ∀ (σ τ : St) (H : Heap) (locs : List Loc) (ls : Array Slot), K σ τ → va_P D vwCl (xw ad cI cJ cZ σ) H → va_P D vwCl (mw am cI cJ cZ τ) H → va_S (fun q : Nat => s.heap.size ≤ q) s.heap H locs → lv_has ls 4 [(0, .ref b), (1, .ref (ad 0)), (2, .ref (am 0)), (3, .int v3)] → W p l e room_1 s m #[Value.ref b] below meth c H locs 52 10198 (lw_Z below #[Value.ref b] s) (F0 m 1303 ls [])) (σ τ : St) (H : Heap) (locs : List Loc) (ls : Array Slot) (hw : wL_15 xs L v3 σ τ K) (hPx : va_P D vwCl (xw ad cI cJ cZ σ) H) (hPm : va_P D vwCl (mw am cI cJ cZ τ) H) (hS : va_S (fun q : Nat => s.heap.size ≤ q) s.heap H locs) (hl : lv_has ls 4 [(0, .ref b), (1, .ref (ad 0)), (2, .ref (am 0)), (3, .int v3)]) : W p l e room_1 s m #[Value.ref b] below meth c H locs 52 10198 (lw_Z below #[Value.ref b] s) (F0 m 649 ls []) := by
  obtain ⟨hx, hb, hr, hml, hown, hts, hX, hbl, hlocks, hgv⟩ := C0
  obtain ⟨hK, hN, hDx, hDm, hAx, hAm, hdx, hdm⟩ := X0
  have hbA : ¬ (fun q : Nat => s.heap.size ≤ q) b := Nat.not_le.mpr hbl
  unfold wL_15 at hw
  refine lv_aload_n hx hb dL_law_649 rfl (lv_at hl 1 rfl) ?_
  refine lv_aload_n hx hb dL_law_650 rfl (lv_at hl 0 rfl) ?_
  refine lv_iload_n hx hb dL_law_651 rfl (lv_at hl 3 rfl) ?_
  refine lv_iconst (v := 1) hx hb dL_law_652 (by decide) ?_
  refine lv_iadd hx hb dL_law_653 ?_
  obtain ⟨h9, hw⟩ := hw
  refine va_sld hx hb hX hbl hbA hS h9 dL_law_654 ?_
  refine wd_lVi ⟨hx, hb, hml, hown, hts⟩ (mtX9_role l D ad cI cJ cZ Ax hDx σ (xs (v3 + (1 : Int32)).toNatClampNeg) _ hw) (cwV 1 hts gl_X9_role rfl rfl rfl (by decide +kernel) ⟨(Nat.le_of_ble_eq_true rfl), (Nat.le_of_ble_eq_true rfl)⟩) (va_recv hK hPx (ci := 9) (q0 := 0) rfl (xw_q0 ad cI cJ cZ σ)) hK hN hPx hPm hS hAx (hdx τ) rfl hl.1 rfl (Nat.le_of_ble_eq_true rfl) dL_law_655 ⟨(Nat.le_of_ble_eq_true rfl), (Nat.le_of_ble_eq_true rfl)⟩ (fun r1 u9 H locs hq hPx hPm hS => ?_)
  obtain ⟨hw, hu⟩ := hq
  rw [hu] at hPx
  refine lv_pop hx hb dL_law_658 rfl ?_
  refine lv_aload_n hx hb dL_law_659 rfl (lv_at hl 2 rfl) ?_
  refine lv_aload_n hx hb dL_law_660 rfl (lv_at hl 0 rfl) ?_
  refine lv_iload_n hx hb dL_law_661 rfl (lv_at hl 3 rfl) ?_
  refine lv_iconst (v := 1) hx hb dL_law_662 (by decide) ?_
  refine lv_iadd hx hb dL_law_663 ?_
  obtain ⟨h9, hw⟩ := hw
  refine va_sld hx hb hX hbl hbA hS h9 dL_law_664 ?_
  refine wd_lVi ⟨hx, hb, hml, hown, hts⟩ (mtX10_role l D am cI cJ cZ Am hDm τ (xs (v3 + (1 : Int32)).toNatClampNeg) _ hw) (cwV 1 hts gl_X10_role rfl rfl rfl (by decide +kernel) ⟨(Nat.le_of_ble_eq_true rfl), (Nat.le_of_ble_eq_true rfl)⟩) (va_recv hK hPm (ci := 10) (q0 := 0) rfl (mw_q0 am cI cJ cZ τ)) hK hN hPm hPx hS hAm (hdm σ) rfl hl.1 rfl (Nat.le_of_ble_eq_true rfl) dL_law_665 ⟨(Nat.le_of_ble_eq_true rfl), (Nat.le_of_ble_eq_true rfl)⟩ (fun r2 u9 H locs hq hPm hPx hS => ?_)
  obtain ⟨hw, hu⟩ := hq
  rw [hu] at hPm
  refine lv_pop hx hb dL_law_668 rfl ?_
  refine lv_goto (tgt := 1303) hx hb dL_law_669 (by decide) ?_
  exact hKx _ _ _ _ _ hw hPx hPm hS hl

def wL_16 (xs : Nat → Int32) (L : Nat) (v3 : Int32) (σ τ : St) (K : St → St → Prop) : Prop := vp_in (v3 + (1 : Int32)) L ∧ (wX9_rolesOf σ (xs (v3 + (1 : Int32)).toNatClampNeg) (fun (r1 : Int32) => vp_in (v3 + (1 : Int32)) L ∧ (wX10_rolesOf τ (xs (v3 + (1 : Int32)).toNatClampNeg) (fun (r2 : Int32) => K σ τ))))
set_option maxHeartbeats 4000000 in
set_option maxRecDepth 100000 in
theorem lc_16 {p : Program} {e : Env} {s : State} {m : MethodId} {below : List Frame} {meth : Method} {c : Code} (l : Launch) {b L : Nat} {xs : Nat → Int32} (C0 : lw_At p s m meth c b L xs) {D : va_G} {ad am : Nat → Nat} {cI cJ cZ : ClassId} {Ax Am : Nat → Prop} (X0 : lw_cx s D ad am cI cJ cZ Ax Am) (v3 : Int32) (K : St → St → Prop) (hKx : ∀ (σ τ : St) (H : Heap) (locs : List Loc) (ls : Array Slot), K σ τ → va_P D vwCl (xw ad cI cJ cZ σ) H → va_P D vwCl (mw am cI cJ cZ τ) H → va_S (fun q : Nat => s.heap.size ≤ q) s.heap H locs → lv_has ls 4 [(0, .ref b), (1, .ref (ad 0)), (2, .ref (am 0)), (3, .int v3)] → W p l e room_1 s m #[Value.ref b] below meth c H locs 52 10198 (lw_Z below #[Value.ref b] s) (F0 m 1303 ls [])) (σ τ : St) (H : Heap) (locs : List Loc) (ls : Array Slot) (hw : wL_16 xs L v3 σ τ K) (hPx : va_P D vwCl (xw ad cI cJ cZ σ) H) (hPm : va_P D vwCl (mw am cI cJ cZ τ) H) (hS : va_S (fun q : Nat => s.heap.size ≤ q) s.heap H locs) (hl : lv_has ls 4 [(0, .ref b), (1, .ref (ad 0)), (2, .ref (am 0)), (3, .int v3)]) : W p l e room_1 s m #[Value.ref b] below meth c H locs 52 10198 (lw_Z below #[Value.ref b] s) (F0 m 672 ls []) := by
  obtain ⟨hx, hb, hr, hml, hown, hts, hX, hbl, hlocks, hgv⟩ := C0
  obtain ⟨hK, hN, hDx, hDm, hAx, hAm, hdx, hdm⟩ := X0
  have hbA : ¬ (fun q : Nat => s.heap.size ≤ q) b := Nat.not_le.mpr hbl
  unfold wL_16 at hw
  refine lv_aload_n hx hb dL_law_672 rfl (lv_at hl 1 rfl) ?_
  refine lv_aload_n hx hb dL_law_673 rfl (lv_at hl 0 rfl) ?_
  refine lv_iload_n hx hb dL_law_674 rfl (lv_at hl 3 rfl) ?_
  refine lv_iconst (v := 1) hx hb dL_law_675 (by decide) ?_
  refine lv_iadd hx hb dL_law_676 ?_
  obtain ⟨h9, hw⟩ := hw
  refine va_sld hx hb hX hbl hbA hS h9 dL_law_677 ?_
  refine wd_lVi ⟨hx, hb, hml, hown, hts⟩ (mtX9_rolesOf l D ad cI cJ cZ Ax hDx σ (xs (v3 + (1 : Int32)).toNatClampNeg) _ hw) (cwV 1 hts gl_X9_rolesOf rfl rfl rfl (by decide +kernel) ⟨(Nat.le_of_ble_eq_true rfl), (Nat.le_of_ble_eq_true rfl)⟩) (va_recv hK hPx (ci := 9) (q0 := 0) rfl (xw_q0 ad cI cJ cZ σ)) hK hN hPx hPm hS hAx (hdx τ) rfl hl.1 rfl (Nat.le_of_ble_eq_true rfl) dL_law_678 ⟨(Nat.le_of_ble_eq_true rfl), (Nat.le_of_ble_eq_true rfl)⟩ (fun r1 u9 H locs hq hPx hPm hS => ?_)
  obtain ⟨hw, hu⟩ := hq
  rw [hu] at hPx
  refine lv_pop hx hb dL_law_681 rfl ?_
  refine lv_aload_n hx hb dL_law_682 rfl (lv_at hl 2 rfl) ?_
  refine lv_aload_n hx hb dL_law_683 rfl (lv_at hl 0 rfl) ?_
  refine lv_iload_n hx hb dL_law_684 rfl (lv_at hl 3 rfl) ?_
  refine lv_iconst (v := 1) hx hb dL_law_685 (by decide) ?_
  refine lv_iadd hx hb dL_law_686 ?_
  obtain ⟨h9, hw⟩ := hw
  refine va_sld hx hb hX hbl hbA hS h9 dL_law_687 ?_
  refine wd_lVi ⟨hx, hb, hml, hown, hts⟩ (mtX10_rolesOf l D am cI cJ cZ Am hDm τ (xs (v3 + (1 : Int32)).toNatClampNeg) _ hw) (cwV 1 hts gl_X10_rolesOf rfl rfl rfl (by decide +kernel) ⟨(Nat.le_of_ble_eq_true rfl), (Nat.le_of_ble_eq_true rfl)⟩) (va_recv hK hPm (ci := 10) (q0 := 0) rfl (mw_q0 am cI cJ cZ τ)) hK hN hPm hPx hS hAm (hdm σ) rfl hl.1 rfl (Nat.le_of_ble_eq_true rfl) dL_law_688 ⟨(Nat.le_of_ble_eq_true rfl), (Nat.le_of_ble_eq_true rfl)⟩ (fun r2 u9 H locs hq hPm hPx hS => ?_)
  obtain ⟨hw, hu⟩ := hq
  rw [hu] at hPm
  refine lv_pop hx hb dL_law_691 rfl ?_
  refine lv_goto (tgt := 1303) hx hb dL_law_692 (by decide) ?_
  exact hKx _ _ _ _ _ hw hPx hPm hS hl

def wL_17 (xs : Nat → Int32) (L : Nat) (v3 : Int32) (σ τ : St) (K : St → St → Prop) : Prop := vp_in (v3 + (1 : Int32)) L ∧ (wX9_marksOf σ (xs (v3 + (1 : Int32)).toNatClampNeg) (fun (r1 : Int32) (σ2 : St) => vp_in (v3 + (1 : Int32)) L ∧ (wX10_marksOf τ (xs (v3 + (1 : Int32)).toNatClampNeg) (fun (r3 : Int32) (τ4 : St) => K σ2 τ4))))
set_option maxHeartbeats 4000000 in
set_option maxRecDepth 100000 in
theorem lc_17 {p : Program} {e : Env} {s : State} {m : MethodId} {below : List Frame} {meth : Method} {c : Code} (l : Launch) {b L : Nat} {xs : Nat → Int32} (C0 : lw_At p s m meth c b L xs) {D : va_G} {ad am : Nat → Nat} {cI cJ cZ : ClassId} {Ax Am : Nat → Prop} (X0 : lw_cx s D ad am cI cJ cZ Ax Am) (v3 : Int32) (K : St → St → Prop) (hKx : ∀ (σ τ : St) (H : Heap) (locs : List Loc) (ls : Array Slot), K σ τ → va_P D vwCl (xw ad cI cJ cZ σ) H → va_P D vwCl (mw am cI cJ cZ τ) H → va_S (fun q : Nat => s.heap.size ≤ q) s.heap H locs → lv_has ls 4 [(0, .ref b), (1, .ref (ad 0)), (2, .ref (am 0)), (3, .int v3)] → W p l e room_1 s m #[Value.ref b] below meth c H locs 52 10198 (lw_Z below #[Value.ref b] s) (F0 m 1303 ls [])) (σ τ : St) (H : Heap) (locs : List Loc) (ls : Array Slot) (hw : wL_17 xs L v3 σ τ K) (hPx : va_P D vwCl (xw ad cI cJ cZ σ) H) (hPm : va_P D vwCl (mw am cI cJ cZ τ) H) (hS : va_S (fun q : Nat => s.heap.size ≤ q) s.heap H locs) (hl : lv_has ls 4 [(0, .ref b), (1, .ref (ad 0)), (2, .ref (am 0)), (3, .int v3)]) : W p l e room_1 s m #[Value.ref b] below meth c H locs 52 10198 (lw_Z below #[Value.ref b] s) (F0 m 695 ls []) := by
  obtain ⟨hx, hb, hr, hml, hown, hts, hX, hbl, hlocks, hgv⟩ := C0
  obtain ⟨hK, hN, hDx, hDm, hAx, hAm, hdx, hdm⟩ := X0
  have hbA : ¬ (fun q : Nat => s.heap.size ≤ q) b := Nat.not_le.mpr hbl
  unfold wL_17 at hw
  refine lv_aload_n hx hb dL_law_695 rfl (lv_at hl 1 rfl) ?_
  refine lv_aload_n hx hb dL_law_696 rfl (lv_at hl 0 rfl) ?_
  refine lv_iload_n hx hb dL_law_697 rfl (lv_at hl 3 rfl) ?_
  refine lv_iconst (v := 1) hx hb dL_law_698 (by decide) ?_
  refine lv_iadd hx hb dL_law_699 ?_
  obtain ⟨h9, hw⟩ := hw
  refine va_sld hx hb hX hbl hbA hS h9 dL_law_700 ?_
  refine wd_lVi ⟨hx, hb, hml, hown, hts⟩ (mtX9_marksOf l D ad cI cJ cZ Ax hDx σ (xs (v3 + (1 : Int32)).toNatClampNeg) _ hw) (cwV 1 hts gl_X9_marksOf rfl rfl rfl (by decide +kernel) ⟨(Nat.le_of_ble_eq_true rfl), (Nat.le_of_ble_eq_true rfl)⟩) (va_recv hK hPx (ci := 9) (q0 := 0) rfl (xw_q0 ad cI cJ cZ σ)) hK hN hPx hPm hS hAx (hdx τ) rfl hl.1 rfl (Nat.le_of_ble_eq_true rfl) dL_law_701 ⟨(Nat.le_of_ble_eq_true rfl), (Nat.le_of_ble_eq_true rfl)⟩ (fun r1 σ2 H locs hw hPx hPm hS => ?_)
  refine lv_pop hx hb dL_law_704 rfl ?_
  refine lv_aload_n hx hb dL_law_705 rfl (lv_at hl 2 rfl) ?_
  refine lv_aload_n hx hb dL_law_706 rfl (lv_at hl 0 rfl) ?_
  refine lv_iload_n hx hb dL_law_707 rfl (lv_at hl 3 rfl) ?_
  refine lv_iconst (v := 1) hx hb dL_law_708 (by decide) ?_
  refine lv_iadd hx hb dL_law_709 ?_
  obtain ⟨h9, hw⟩ := hw
  refine va_sld hx hb hX hbl hbA hS h9 dL_law_710 ?_
  refine wd_lVi ⟨hx, hb, hml, hown, hts⟩ (mtX10_marksOf l D am cI cJ cZ Am hDm τ (xs (v3 + (1 : Int32)).toNatClampNeg) _ hw) (cwV 1 hts gl_X10_marksOf rfl rfl rfl (by decide +kernel) ⟨(Nat.le_of_ble_eq_true rfl), (Nat.le_of_ble_eq_true rfl)⟩) (va_recv hK hPm (ci := 10) (q0 := 0) rfl (mw_q0 am cI cJ cZ τ)) hK hN hPm hPx hS hAm (hdm σ2) rfl hl.1 rfl (Nat.le_of_ble_eq_true rfl) dL_law_711 ⟨(Nat.le_of_ble_eq_true rfl), (Nat.le_of_ble_eq_true rfl)⟩ (fun r3 τ4 H locs hw hPm hPx hS => ?_)
  refine lv_pop hx hb dL_law_714 rfl ?_
  refine lv_goto (tgt := 1303) hx hb dL_law_715 (by decide) ?_
  exact hKx _ _ _ _ _ hw hPx hPm hS hl

def wL_18 (xs : Nat → Int32) (L : Nat) (v3 : Int32) (σ τ : St) (K : St → St → Prop) : Prop := vp_in (v3 + (1 : Int32)) L ∧ (vp_in (v3 + (2 : Int32)) L ∧ (wX9_exceptions σ (xs (v3 + (1 : Int32)).toNatClampNeg) (xs (v3 + (2 : Int32)).toNatClampNeg) (fun (r1 : Int32) => vp_in (v3 + (1 : Int32)) L ∧ (vp_in (v3 + (2 : Int32)) L ∧ (wX10_exceptions τ (xs (v3 + (1 : Int32)).toNatClampNeg) (xs (v3 + (2 : Int32)).toNatClampNeg) (fun (r2 : Int32) => K σ τ))))))
set_option maxHeartbeats 4000000 in
set_option maxRecDepth 100000 in
theorem lc_18 {p : Program} {e : Env} {s : State} {m : MethodId} {below : List Frame} {meth : Method} {c : Code} (l : Launch) {b L : Nat} {xs : Nat → Int32} (C0 : lw_At p s m meth c b L xs) {D : va_G} {ad am : Nat → Nat} {cI cJ cZ : ClassId} {Ax Am : Nat → Prop} (X0 : lw_cx s D ad am cI cJ cZ Ax Am) (v3 : Int32) (K : St → St → Prop) (hKx : ∀ (σ τ : St) (H : Heap) (locs : List Loc) (ls : Array Slot), K σ τ → va_P D vwCl (xw ad cI cJ cZ σ) H → va_P D vwCl (mw am cI cJ cZ τ) H → va_S (fun q : Nat => s.heap.size ≤ q) s.heap H locs → lv_has ls 4 [(0, .ref b), (1, .ref (ad 0)), (2, .ref (am 0)), (3, .int v3)] → W p l e room_1 s m #[Value.ref b] below meth c H locs 52 10198 (lw_Z below #[Value.ref b] s) (F0 m 1303 ls [])) (σ τ : St) (H : Heap) (locs : List Loc) (ls : Array Slot) (hw : wL_18 xs L v3 σ τ K) (hPx : va_P D vwCl (xw ad cI cJ cZ σ) H) (hPm : va_P D vwCl (mw am cI cJ cZ τ) H) (hS : va_S (fun q : Nat => s.heap.size ≤ q) s.heap H locs) (hl : lv_has ls 4 [(0, .ref b), (1, .ref (ad 0)), (2, .ref (am 0)), (3, .int v3)]) : W p l e room_1 s m #[Value.ref b] below meth c H locs 52 10198 (lw_Z below #[Value.ref b] s) (F0 m 718 ls []) := by
  obtain ⟨hx, hb, hr, hml, hown, hts, hX, hbl, hlocks, hgv⟩ := C0
  obtain ⟨hK, hN, hDx, hDm, hAx, hAm, hdx, hdm⟩ := X0
  have hbA : ¬ (fun q : Nat => s.heap.size ≤ q) b := Nat.not_le.mpr hbl
  unfold wL_18 at hw
  refine lv_aload_n hx hb dL_law_718 rfl (lv_at hl 1 rfl) ?_
  refine lv_aload_n hx hb dL_law_719 rfl (lv_at hl 0 rfl) ?_
  refine lv_iload_n hx hb dL_law_720 rfl (lv_at hl 3 rfl) ?_
  refine lv_iconst (v := 1) hx hb dL_law_721 (by decide) ?_
  refine lv_iadd hx hb dL_law_722 ?_
  obtain ⟨h9, hw⟩ := hw
  refine va_sld hx hb hX hbl hbA hS h9 dL_law_723 ?_
  refine lv_aload_n hx hb dL_law_724 rfl (lv_at hl 0 rfl) ?_
  refine lv_iload_n hx hb dL_law_725 rfl (lv_at hl 3 rfl) ?_
  refine lv_iconst (v := 2) hx hb dL_law_726 (by decide) ?_
  refine lv_iadd hx hb dL_law_727 ?_
  obtain ⟨h9, hw⟩ := hw
  refine va_sld hx hb hX hbl hbA hS h9 dL_law_728 ?_
  refine wd_lVi ⟨hx, hb, hml, hown, hts⟩ (mtX9_exceptions l D ad cI cJ cZ Ax hDx σ (xs (v3 + (1 : Int32)).toNatClampNeg) (xs (v3 + (2 : Int32)).toNatClampNeg) _ hw) (cwV 2 hts gl_X9_exceptions rfl rfl rfl (by decide +kernel) ⟨(Nat.le_of_ble_eq_true rfl), (Nat.le_of_ble_eq_true rfl)⟩) (va_recv hK hPx (ci := 9) (q0 := 0) rfl (xw_q0 ad cI cJ cZ σ)) hK hN hPx hPm hS hAx (hdx τ) rfl hl.1 rfl (Nat.le_of_ble_eq_true rfl) dL_law_729 ⟨(Nat.le_of_ble_eq_true rfl), (Nat.le_of_ble_eq_true rfl)⟩ (fun r1 u9 H locs hq hPx hPm hS => ?_)
  obtain ⟨hw, hu⟩ := hq
  rw [hu] at hPx
  refine lv_pop hx hb dL_law_732 rfl ?_
  refine lv_aload_n hx hb dL_law_733 rfl (lv_at hl 2 rfl) ?_
  refine lv_aload_n hx hb dL_law_734 rfl (lv_at hl 0 rfl) ?_
  refine lv_iload_n hx hb dL_law_735 rfl (lv_at hl 3 rfl) ?_
  refine lv_iconst (v := 1) hx hb dL_law_736 (by decide) ?_
  refine lv_iadd hx hb dL_law_737 ?_
  obtain ⟨h9, hw⟩ := hw
  refine va_sld hx hb hX hbl hbA hS h9 dL_law_738 ?_
  refine lv_aload_n hx hb dL_law_739 rfl (lv_at hl 0 rfl) ?_
  refine lv_iload_n hx hb dL_law_740 rfl (lv_at hl 3 rfl) ?_
  refine lv_iconst (v := 2) hx hb dL_law_741 (by decide) ?_
  refine lv_iadd hx hb dL_law_742 ?_
  obtain ⟨h9, hw⟩ := hw
  refine va_sld hx hb hX hbl hbA hS h9 dL_law_743 ?_
  refine wd_lVi ⟨hx, hb, hml, hown, hts⟩ (mtX10_exceptions l D am cI cJ cZ Am hDm τ (xs (v3 + (1 : Int32)).toNatClampNeg) (xs (v3 + (2 : Int32)).toNatClampNeg) _ hw) (cwV 2 hts gl_X10_exceptions rfl rfl rfl (by decide +kernel) ⟨(Nat.le_of_ble_eq_true rfl), (Nat.le_of_ble_eq_true rfl)⟩) (va_recv hK hPm (ci := 10) (q0 := 0) rfl (mw_q0 am cI cJ cZ τ)) hK hN hPm hPx hS hAm (hdm σ) rfl hl.1 rfl (Nat.le_of_ble_eq_true rfl) dL_law_744 ⟨(Nat.le_of_ble_eq_true rfl), (Nat.le_of_ble_eq_true rfl)⟩ (fun r2 u9 H locs hq hPm hPx hS => ?_)
  obtain ⟨hw, hu⟩ := hq
  rw [hu] at hPm
  refine lv_pop hx hb dL_law_747 rfl ?_
  refine lv_goto (tgt := 1303) hx hb dL_law_748 (by decide) ?_
  exact hKx _ _ _ _ _ hw hPx hPm hS hl

def wL_19 (xs : Nat → Int32) (L : Nat) (v3 : Int32) (σ τ : St) (K : St → St → Prop) : Prop := vp_in (v3 + (1 : Int32)) L ∧ (vp_in (v3 + (2 : Int32)) L ∧ (vp_in (v3 + (3 : Int32)) L ∧ (((xs (v3 + (3 : Int32)).toNatClampNeg) = 0 → (wX9_ban σ (xs (v3 + (1 : Int32)).toNatClampNeg) (xs (v3 + (2 : Int32)).toNatClampNeg) (0 : Int32) (fun (r1 : Int32) (σ2 : St) => vp_in (v3 + (1 : Int32)) L ∧ (vp_in (v3 + (2 : Int32)) L ∧ (vp_in (v3 + (3 : Int32)) L ∧ (((xs (v3 + (3 : Int32)).toNatClampNeg) = 0 → (wX10_ban τ (xs (v3 + (1 : Int32)).toNatClampNeg) (xs (v3 + (2 : Int32)).toNatClampNeg) (0 : Int32) (fun (r3 : Int32) (τ4 : St) => K σ2 τ4))) ∧ (¬ (xs (v3 + (3 : Int32)).toNatClampNeg) = 0 → (wX10_ban τ (xs (v3 + (1 : Int32)).toNatClampNeg) (xs (v3 + (2 : Int32)).toNatClampNeg) (1 : Int32) (fun (r5 : Int32) (τ6 : St) => K σ2 τ6))))))))) ∧ (¬ (xs (v3 + (3 : Int32)).toNatClampNeg) = 0 → (wX9_ban σ (xs (v3 + (1 : Int32)).toNatClampNeg) (xs (v3 + (2 : Int32)).toNatClampNeg) (1 : Int32) (fun (r7 : Int32) (σ8 : St) => vp_in (v3 + (1 : Int32)) L ∧ (vp_in (v3 + (2 : Int32)) L ∧ (vp_in (v3 + (3 : Int32)) L ∧ (((xs (v3 + (3 : Int32)).toNatClampNeg) = 0 → (wX10_ban τ (xs (v3 + (1 : Int32)).toNatClampNeg) (xs (v3 + (2 : Int32)).toNatClampNeg) (0 : Int32) (fun (r9 : Int32) (τ10 : St) => K σ8 τ10))) ∧ (¬ (xs (v3 + (3 : Int32)).toNatClampNeg) = 0 → (wX10_ban τ (xs (v3 + (1 : Int32)).toNatClampNeg) (xs (v3 + (2 : Int32)).toNatClampNeg) (1 : Int32) (fun (r11 : Int32) (τ12 : St) => K σ8 τ12))))))))))))
set_option maxHeartbeats 4000000 in
set_option maxRecDepth 100000 in
theorem lc_19 {p : Program} {e : Env} {s : State} {m : MethodId} {below : List Frame} {meth : Method} {c : Code} (l : Launch) {b L : Nat} {xs : Nat → Int32} (C0 : lw_At p s m meth c b L xs) {D : va_G} {ad am : Nat → Nat} {cI cJ cZ : ClassId} {Ax Am : Nat → Prop} (X0 : lw_cx s D ad am cI cJ cZ Ax Am) (v3 : Int32) (K : St → St → Prop) (hKx : ∀ (σ τ : St) (H : Heap) (locs : List Loc) (ls : Array Slot), K σ τ → va_P D vwCl (xw ad cI cJ cZ σ) H → va_P D vwCl (mw am cI cJ cZ τ) H → va_S (fun q : Nat => s.heap.size ≤ q) s.heap H locs → lv_has ls 4 [(0, .ref b), (1, .ref (ad 0)), (2, .ref (am 0)), (3, .int v3)] → W p l e room_1 s m #[Value.ref b] below meth c H locs 52 10198 (lw_Z below #[Value.ref b] s) (F0 m 1303 ls [])) (σ τ : St) (H : Heap) (locs : List Loc) (ls : Array Slot) (hw : wL_19 xs L v3 σ τ K) (hPx : va_P D vwCl (xw ad cI cJ cZ σ) H) (hPm : va_P D vwCl (mw am cI cJ cZ τ) H) (hS : va_S (fun q : Nat => s.heap.size ≤ q) s.heap H locs) (hl : lv_has ls 4 [(0, .ref b), (1, .ref (ad 0)), (2, .ref (am 0)), (3, .int v3)]) : W p l e room_1 s m #[Value.ref b] below meth c H locs 52 10198 (lw_Z below #[Value.ref b] s) (F0 m 751 ls []) := by
  obtain ⟨hx, hb, hr, hml, hown, hts, hX, hbl, hlocks, hgv⟩ := C0
  obtain ⟨hK, hN, hDx, hDm, hAx, hAm, hdx, hdm⟩ := X0
  have hbA : ¬ (fun q : Nat => s.heap.size ≤ q) b := Nat.not_le.mpr hbl
  unfold wL_19 at hw
  refine lv_aload_n hx hb dL_law_751 rfl (lv_at hl 1 rfl) ?_
  refine lv_aload_n hx hb dL_law_752 rfl (lv_at hl 0 rfl) ?_
  refine lv_iload_n hx hb dL_law_753 rfl (lv_at hl 3 rfl) ?_
  refine lv_iconst (v := 1) hx hb dL_law_754 (by decide) ?_
  refine lv_iadd hx hb dL_law_755 ?_
  obtain ⟨h9, hw⟩ := hw
  refine va_sld hx hb hX hbl hbA hS h9 dL_law_756 ?_
  refine lv_aload_n hx hb dL_law_757 rfl (lv_at hl 0 rfl) ?_
  refine lv_iload_n hx hb dL_law_758 rfl (lv_at hl 3 rfl) ?_
  refine lv_iconst (v := 2) hx hb dL_law_759 (by decide) ?_
  refine lv_iadd hx hb dL_law_760 ?_
  obtain ⟨h9, hw⟩ := hw
  refine va_sld hx hb hX hbl hbA hS h9 dL_law_761 ?_
  refine lv_aload_n hx hb dL_law_762 rfl (lv_at hl 0 rfl) ?_
  refine lv_iload_n hx hb dL_law_763 rfl (lv_at hl 3 rfl) ?_
  refine lv_iconst (v := 3) hx hb dL_law_764 (by decide) ?_
  refine lv_iadd hx hb dL_law_765 ?_
  obtain ⟨h9, hw⟩ := hw
  refine va_sld hx hb hX hbl hbA hS h9 dL_law_766 ?_
  refine lv_if_eq (tgt := 774) hx hb dL_law_767 (by decide) (fun c9 => ?_) (fun c9 => ?_)
  · have hw := hw.1 c9
    refine lv_iconst (v := 0) hx hb dL_law_774 (by decide) ?_
    refine wd_lVi ⟨hx, hb, hml, hown, hts⟩ (mtX9_ban l D ad cI cJ cZ Ax hDx σ (xs (v3 + (1 : Int32)).toNatClampNeg) (xs (v3 + (2 : Int32)).toNatClampNeg) (0 : Int32) _ hw) (cwV 3 hts gl_X9_ban rfl rfl rfl (by decide +kernel) ⟨(Nat.le_of_ble_eq_true rfl), (Nat.le_of_ble_eq_true rfl)⟩) (va_recv hK hPx (ci := 9) (q0 := 0) rfl (xw_q0 ad cI cJ cZ σ)) hK hN hPx hPm hS hAx (hdx τ) rfl hl.1 rfl (Nat.le_of_ble_eq_true rfl) dL_law_775 ⟨(Nat.le_of_ble_eq_true rfl), (Nat.le_of_ble_eq_true rfl)⟩ (fun r1 σ2 H locs hw hPx hPm hS => ?_)
    refine lv_pop hx hb dL_law_778 rfl ?_
    refine lv_aload_n hx hb dL_law_779 rfl (lv_at hl 2 rfl) ?_
    refine lv_aload_n hx hb dL_law_780 rfl (lv_at hl 0 rfl) ?_
    refine lv_iload_n hx hb dL_law_781 rfl (lv_at hl 3 rfl) ?_
    refine lv_iconst (v := 1) hx hb dL_law_782 (by decide) ?_
    refine lv_iadd hx hb dL_law_783 ?_
    obtain ⟨h9, hw⟩ := hw
    refine va_sld hx hb hX hbl hbA hS h9 dL_law_784 ?_
    refine lv_aload_n hx hb dL_law_785 rfl (lv_at hl 0 rfl) ?_
    refine lv_iload_n hx hb dL_law_786 rfl (lv_at hl 3 rfl) ?_
    refine lv_iconst (v := 2) hx hb dL_law_787 (by decide) ?_
    refine lv_iadd hx hb dL_law_788 ?_
    obtain ⟨h9, hw⟩ := hw
    refine va_sld hx hb hX hbl hbA hS h9 dL_law_789 ?_
    refine lv_aload_n hx hb dL_law_790 rfl (lv_at hl 0 rfl) ?_
    refine lv_iload_n hx hb dL_law_791 rfl (lv_at hl 3 rfl) ?_
    refine lv_iconst (v := 3) hx hb dL_law_792 (by decide) ?_
    refine lv_iadd hx hb dL_law_793 ?_
    obtain ⟨h9, hw⟩ := hw
    refine va_sld hx hb hX hbl hbA hS h9 dL_law_794 ?_
    refine lv_if_eq (tgt := 802) hx hb dL_law_795 (by decide) (fun c9 => ?_) (fun c9 => ?_)
    · have hw := hw.1 c9
      refine lv_iconst (v := 0) hx hb dL_law_802 (by decide) ?_
      refine wd_lVi ⟨hx, hb, hml, hown, hts⟩ (mtX10_ban l D am cI cJ cZ Am hDm τ (xs (v3 + (1 : Int32)).toNatClampNeg) (xs (v3 + (2 : Int32)).toNatClampNeg) (0 : Int32) _ hw) (cwV 3 hts gl_X10_ban rfl rfl rfl (by decide +kernel) ⟨(Nat.le_of_ble_eq_true rfl), (Nat.le_of_ble_eq_true rfl)⟩) (va_recv hK hPm (ci := 10) (q0 := 0) rfl (mw_q0 am cI cJ cZ τ)) hK hN hPm hPx hS hAm (hdm σ2) rfl hl.1 rfl (Nat.le_of_ble_eq_true rfl) dL_law_803 ⟨(Nat.le_of_ble_eq_true rfl), (Nat.le_of_ble_eq_true rfl)⟩ (fun r3 τ4 H locs hw hPm hPx hS => ?_)
      refine lv_pop hx hb dL_law_806 rfl ?_
      refine lv_goto (tgt := 1303) hx hb dL_law_807 (by decide) ?_
      exact hKx _ _ _ _ _ hw hPx hPm hS hl
    · have hw := hw.2 c9
      refine lv_iconst (v := 1) hx hb dL_law_798 (by decide) ?_
      refine lv_goto (tgt := 803) hx hb dL_law_799 (by decide) ?_
      refine wd_lVi ⟨hx, hb, hml, hown, hts⟩ (mtX10_ban l D am cI cJ cZ Am hDm τ (xs (v3 + (1 : Int32)).toNatClampNeg) (xs (v3 + (2 : Int32)).toNatClampNeg) (1 : Int32) _ hw) (cwV 3 hts gl_X10_ban rfl rfl rfl (by decide +kernel) ⟨(Nat.le_of_ble_eq_true rfl), (Nat.le_of_ble_eq_true rfl)⟩) (va_recv hK hPm (ci := 10) (q0 := 0) rfl (mw_q0 am cI cJ cZ τ)) hK hN hPm hPx hS hAm (hdm σ2) rfl hl.1 rfl (Nat.le_of_ble_eq_true rfl) dL_law_803 ⟨(Nat.le_of_ble_eq_true rfl), (Nat.le_of_ble_eq_true rfl)⟩ (fun r5 τ6 H locs hw hPm hPx hS => ?_)
      refine lv_pop hx hb dL_law_806 rfl ?_
      refine lv_goto (tgt := 1303) hx hb dL_law_807 (by decide) ?_
      exact hKx _ _ _ _ _ hw hPx hPm hS hl
  · have hw := hw.2 c9
    refine lv_iconst (v := 1) hx hb dL_law_770 (by decide) ?_
    refine lv_goto (tgt := 775) hx hb dL_law_771 (by decide) ?_
    refine wd_lVi ⟨hx, hb, hml, hown, hts⟩ (mtX9_ban l D ad cI cJ cZ Ax hDx σ (xs (v3 + (1 : Int32)).toNatClampNeg) (xs (v3 + (2 : Int32)).toNatClampNeg) (1 : Int32) _ hw) (cwV 3 hts gl_X9_ban rfl rfl rfl (by decide +kernel) ⟨(Nat.le_of_ble_eq_true rfl), (Nat.le_of_ble_eq_true rfl)⟩) (va_recv hK hPx (ci := 9) (q0 := 0) rfl (xw_q0 ad cI cJ cZ σ)) hK hN hPx hPm hS hAx (hdx τ) rfl hl.1 rfl (Nat.le_of_ble_eq_true rfl) dL_law_775 ⟨(Nat.le_of_ble_eq_true rfl), (Nat.le_of_ble_eq_true rfl)⟩ (fun r7 σ8 H locs hw hPx hPm hS => ?_)
    refine lv_pop hx hb dL_law_778 rfl ?_
    refine lv_aload_n hx hb dL_law_779 rfl (lv_at hl 2 rfl) ?_
    refine lv_aload_n hx hb dL_law_780 rfl (lv_at hl 0 rfl) ?_
    refine lv_iload_n hx hb dL_law_781 rfl (lv_at hl 3 rfl) ?_
    refine lv_iconst (v := 1) hx hb dL_law_782 (by decide) ?_
    refine lv_iadd hx hb dL_law_783 ?_
    obtain ⟨h9, hw⟩ := hw
    refine va_sld hx hb hX hbl hbA hS h9 dL_law_784 ?_
    refine lv_aload_n hx hb dL_law_785 rfl (lv_at hl 0 rfl) ?_
    refine lv_iload_n hx hb dL_law_786 rfl (lv_at hl 3 rfl) ?_
    refine lv_iconst (v := 2) hx hb dL_law_787 (by decide) ?_
    refine lv_iadd hx hb dL_law_788 ?_
    obtain ⟨h9, hw⟩ := hw
    refine va_sld hx hb hX hbl hbA hS h9 dL_law_789 ?_
    refine lv_aload_n hx hb dL_law_790 rfl (lv_at hl 0 rfl) ?_
    refine lv_iload_n hx hb dL_law_791 rfl (lv_at hl 3 rfl) ?_
    refine lv_iconst (v := 3) hx hb dL_law_792 (by decide) ?_
    refine lv_iadd hx hb dL_law_793 ?_
    obtain ⟨h9, hw⟩ := hw
    refine va_sld hx hb hX hbl hbA hS h9 dL_law_794 ?_
    refine lv_if_eq (tgt := 802) hx hb dL_law_795 (by decide) (fun c9 => ?_) (fun c9 => ?_)
    · have hw := hw.1 c9
      refine lv_iconst (v := 0) hx hb dL_law_802 (by decide) ?_
      refine wd_lVi ⟨hx, hb, hml, hown, hts⟩ (mtX10_ban l D am cI cJ cZ Am hDm τ (xs (v3 + (1 : Int32)).toNatClampNeg) (xs (v3 + (2 : Int32)).toNatClampNeg) (0 : Int32) _ hw) (cwV 3 hts gl_X10_ban rfl rfl rfl (by decide +kernel) ⟨(Nat.le_of_ble_eq_true rfl), (Nat.le_of_ble_eq_true rfl)⟩) (va_recv hK hPm (ci := 10) (q0 := 0) rfl (mw_q0 am cI cJ cZ τ)) hK hN hPm hPx hS hAm (hdm σ8) rfl hl.1 rfl (Nat.le_of_ble_eq_true rfl) dL_law_803 ⟨(Nat.le_of_ble_eq_true rfl), (Nat.le_of_ble_eq_true rfl)⟩ (fun r9 τ10 H locs hw hPm hPx hS => ?_)
      refine lv_pop hx hb dL_law_806 rfl ?_
      refine lv_goto (tgt := 1303) hx hb dL_law_807 (by decide) ?_
      exact hKx _ _ _ _ _ hw hPx hPm hS hl
    · have hw := hw.2 c9
      refine lv_iconst (v := 1) hx hb dL_law_798 (by decide) ?_
      refine lv_goto (tgt := 803) hx hb dL_law_799 (by decide) ?_
      refine wd_lVi ⟨hx, hb, hml, hown, hts⟩ (mtX10_ban l D am cI cJ cZ Am hDm τ (xs (v3 + (1 : Int32)).toNatClampNeg) (xs (v3 + (2 : Int32)).toNatClampNeg) (1 : Int32) _ hw) (cwV 3 hts gl_X10_ban rfl rfl rfl (by decide +kernel) ⟨(Nat.le_of_ble_eq_true rfl), (Nat.le_of_ble_eq_true rfl)⟩) (va_recv hK hPm (ci := 10) (q0 := 0) rfl (mw_q0 am cI cJ cZ τ)) hK hN hPm hPx hS hAm (hdm σ8) rfl hl.1 rfl (Nat.le_of_ble_eq_true rfl) dL_law_803 ⟨(Nat.le_of_ble_eq_true rfl), (Nat.le_of_ble_eq_true rfl)⟩ (fun r11 τ12 H locs hw hPm hPx hS => ?_)
      refine lv_pop hx hb dL_law_806 rfl ?_
      refine lv_goto (tgt := 1303) hx hb dL_law_807 (by decide) ?_
      exact hKx _ _ _ _ _ hw hPx hPm hS hl
