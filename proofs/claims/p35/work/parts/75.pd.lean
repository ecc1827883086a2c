/-! ===== the calls whose answers need not be alike (printed by purelawp.py) ===== -/
theorem pd_change {σ τ : St} (h9 : WW σ τ) (a b c : Int32) : PD (wX9_change σ a b c) (wX10_change τ a b c) := by
  obtain ⟨⟨τ0, hx⟩, ⟨σ0, hm⟩, hk⟩ := h9
  obtain ⟨r, σ1, τ1, h1, _, h3⟩ := pr_change hx a b c
  obtain ⟨r', σ2, τ2, _, h2, h4⟩ := pr_change hm a b c
  obtain ⟨_, s1, f1, e1⟩ := nvX9_change (b := σ) FX_rf (h1 (fun _ s => s = σ1) rfl)
  rw [e1] at f1
  obtain ⟨_, s2, f2, e2⟩ := nvX10_change (b := τ) FM_rf (h2 (fun _ s => s = τ2) rfl)
  rw [e2] at f2
  exact ⟨r, r', σ1, τ2, h1, h2, ⟨τ1, h3⟩, ⟨σ2, h4⟩, Wk_mv hk f1 f2⟩
theorem pd_told {σ τ : St} (h9 : WW σ τ) (a b : Int32) : PRD (wX9_told σ a b) (wX10_told τ a b) := by
  obtain ⟨⟨τ0, hx⟩, ⟨σ0, hm⟩, _⟩ := h9
  obtain ⟨r, h1, _⟩ := pr_told hx a b
  obtain ⟨r', _, h2⟩ := pr_told hm a b
  exact ⟨r, r', h1, h2⟩
theorem pd_use {σ τ : St} (h9 : WW σ τ) (a b c : Int32) : PD (wX9_use σ a b c) (wX10_use τ a b c) := by
  obtain ⟨⟨τ0, hx⟩, ⟨σ0, hm⟩, hk⟩ := h9
  obtain ⟨r, σ1, τ1, h1, _, h3⟩ := pr_use hx a b c
  obtain ⟨r', σ2, τ2, _, h2, h4⟩ := pr_use hm a b c
  obtain ⟨_, s1, f1, e1⟩ := nvX9_use (b := σ) FX_rf (h1 (fun _ s => s = σ1) rfl)
  rw [e1] at f1
  obtain ⟨_, s2, f2, e2⟩ := nvX10_use (b := τ) FM_rf (h2 (fun _ s => s = τ2) rfl)
  rw [e2] at f2
  exact ⟨r, r', σ1, τ2, h1, h2, ⟨τ1, h3⟩, ⟨σ2, h4⟩, Wk_mv hk f1 f2⟩
theorem pd_kind {σ τ : St} (h9 : WW σ τ) (a b : Int32) : PRD (wX9_kind σ a b) (wX10_kind τ a b) := by
  obtain ⟨⟨τ0, hx⟩, ⟨σ0, hm⟩, _⟩ := h9
  obtain ⟨r, h1, _⟩ := pr_kind hx a b
  obtain ⟨r', _, h2⟩ := pr_kind hm a b
  exact ⟨r, r', h1, h2⟩
theorem pd_uses {σ τ : St} (h9 : WW σ τ) (a b c : Int32) : PD (wX9_uses σ a b c) (wX10_uses τ a b c) := by
  obtain ⟨⟨τ0, hx⟩, ⟨σ0, hm⟩, hk⟩ := h9
  obtain ⟨r, σ1, τ1, h1, _, h3⟩ := pr_uses hx a b c
  obtain ⟨r', σ2, τ2, _, h2, h4⟩ := pr_uses hm a b c
  obtain ⟨_, s1, f1, e1⟩ := nvX9_uses (b := σ) FX_rf (h1 (fun _ s => s = σ1) rfl)
  rw [e1] at f1
  obtain ⟨_, s2, f2, e2⟩ := nvX10_uses (b := τ) FM_rf (h2 (fun _ s => s = τ2) rfl)
  rw [e2] at f2
  exact ⟨r, r', σ1, τ2, h1, h2, ⟨τ1, h3⟩, ⟨σ2, h4⟩, Wk_mv hk f1 f2⟩
theorem pd_strike {σ τ : St} (h9 : WW σ τ) (a : Int32) : PD (wX9_strike σ a) (wX10_strike τ a) := by
  obtain ⟨⟨τ0, hx⟩, ⟨σ0, hm⟩, hk⟩ := h9
  obtain ⟨r, σ1, τ1, h1, _, h3⟩ := pr_strike hx a
  obtain ⟨r', σ2, τ2, _, h2, h4⟩ := pr_strike hm a
  obtain ⟨_, s1, f1, e1⟩ := nvX9_strike (b := σ) FX_rf (h1 (fun _ s => s = σ1) rfl)
  rw [e1] at f1
  obtain ⟨_, s2, f2, e2⟩ := nvX10_strike (b := τ) FM_rf (h2 (fun _ s => s = τ2) rfl)
  rw [e2] at f2
  exact ⟨r, r', σ1, τ2, h1, h2, ⟨τ1, h3⟩, ⟨σ2, h4⟩, Wk_mv hk f1 f2⟩
theorem pd_ask {σ τ : St} (h9 : WW σ τ) (a b : Int32) : PD (wX9_ask σ a b) (wX10_ask τ a b) := by
  obtain ⟨⟨τ0, hx⟩, ⟨σ0, hm⟩, hk⟩ := h9
  obtain ⟨r, σ1, τ1, h1, _, h3⟩ := pr_ask hx a b
  obtain ⟨r', σ2, τ2, _, h2, h4⟩ := pr_ask hm a b
  obtain ⟨_, s1, f1, e1⟩ := nvX9_ask (b := σ) FX_rf (h1 (fun _ s => s = σ1) rfl)
  rw [e1] at f1
  obtain ⟨_, s2, f2, e2⟩ := nvX10_ask (b := τ) FM_rf (h2 (fun _ s => s = τ2) rfl)
  rw [e2] at f2
  exact ⟨r, r', σ1, τ2, h1, h2, ⟨τ1, h3⟩, ⟨σ2, h4⟩, Wk_mv hk f1 f2⟩
theorem pd_asks {σ τ : St} (h9 : WW σ τ) (a : Int32) : PRD (wX9_asks σ a) (wX10_asks τ a) := by
  obtain ⟨⟨τ0, hx⟩, ⟨σ0, hm⟩, _⟩ := h9
  obtain ⟨r, h1, _⟩ := pr_asks hx a
  obtain ⟨r', _, h2⟩ := pr_asks hm a
  exact ⟨r, r', h1, h2⟩
theorem pd_candidates {σ τ : St} (h9 : WW σ τ) : PD (wX9_candidates σ) (wX10_candidates τ) := by
  obtain ⟨⟨τ0, hx⟩, ⟨σ0, hm⟩, hk⟩ := h9
  obtain ⟨r, σ1, τ1, h1, _, h3⟩ := pr_candidates hx
  obtain ⟨r', σ2, τ2, _, h2, h4⟩ := pr_candidates hm
  obtain ⟨_, s1, f1, e1⟩ := nvX9_candidates (b := σ) FX_rf (h1 (fun _ s => s = σ1) rfl)
  rw [e1] at f1
  obtain ⟨_, s2, f2, e2⟩ := nvX10_candidates (b := τ) FM_rf (h2 (fun _ s => s = τ2) rfl)
  rw [e2] at f2
  exact ⟨r, r', σ1, τ2, h1, h2, ⟨τ1, h3⟩, ⟨σ2, h4⟩, Wk_mv hk f1 f2⟩
theorem pd_roles {σ τ : St} (h9 : WW σ τ) (a : Int32) : PD (wX9_roles σ a) (wX10_roles τ a) := by
  obtain ⟨⟨τ0, hx⟩, ⟨σ0, hm⟩, hk⟩ := h9
  obtain ⟨r, σ1, τ1, h1, _, h3⟩ := pr_roles hx a
  obtain ⟨r', σ2, τ2, _, h2, h4⟩ := pr_roles hm a
  obtain ⟨_, s1, f1, e1⟩ := nvX9_roles (b := σ) FX_rf (h1 (fun _ s => s = σ1) rfl)
  rw [e1] at f1
  obtain ⟨_, s2, f2, e2⟩ := nvX10_roles (b := τ) FM_rf (h2 (fun _ s => s = τ2) rfl)
  rw [e2] at f2
  exact ⟨r, r', σ1, τ2, h1, h2, ⟨τ1, h3⟩, ⟨σ2, h4⟩, Wk_mv hk f1 f2⟩
theorem pd_tries {σ τ : St} (h9 : WW σ τ) : PRD (wX9_tries σ) (wX10_tries τ) := by
  obtain ⟨⟨τ0, hx⟩, ⟨σ0, hm⟩, _⟩ := h9
  obtain ⟨r, h1, _⟩ := pr_tries hx
  obtain ⟨r', _, h2⟩ := pr_tries hm
  exact ⟨r, r', h1, h2⟩
theorem pd_role {σ τ : St} (h9 : WW σ τ) (a : Int32) : PRD (wX9_role σ a) (wX10_role τ a) := by
  obtain ⟨⟨τ0, hx⟩, ⟨σ0, hm⟩, _⟩ := h9
  obtain ⟨r, h1, _⟩ := pr_role hx a
  obtain ⟨r', _, h2⟩ := pr_role hm a
  exact ⟨r, r', h1, h2⟩
theorem pd_rolesOf {σ τ : St} (h9 : WW σ τ) (a : Int32) : PRD (wX9_rolesOf σ a) (wX10_rolesOf τ a) := by
  obtain ⟨⟨τ0, hx⟩, ⟨σ0, hm⟩, _⟩ := h9
  obtain ⟨r, h1, _⟩ := pr_rolesOf hx a
  obtain ⟨r', _, h2⟩ := pr_rolesOf hm a
  exact ⟨r, r', h1, h2⟩
theorem pd_marksOf {σ τ : St} (h9 : WW σ τ) (a : Int32) : PD (wX9_marksOf σ a) (wX10_marksOf τ a) := by
  obtain ⟨⟨τ0, hx⟩, ⟨σ0, hm⟩, hk⟩ := h9
  obtain ⟨r, σ1, τ1, h1, _, h3⟩ := pr_marksOf hx a
  obtain ⟨r', σ2, τ2, _, h2, h4⟩ := pr_marksOf hm a
  obtain ⟨_, s1, f1, e1⟩ := nvX9_marksOf (b := σ) FX_rf (h1 (fun _ s => s = σ1) rfl)
  rw [e1] at f1
  obtain ⟨_, s2, f2, e2⟩ := nvX10_marksOf (b := τ) FM_rf (h2 (fun _ s => s = τ2) rfl)
  rw [e2] at f2
  exact ⟨r, r', σ1, τ2, h1, h2, ⟨τ1, h3⟩, ⟨σ2, h4⟩, Wk_mv hk f1 f2⟩
theorem pd_exceptions {σ τ : St} (h9 : WW σ τ) (a b : Int32) : PRD (wX9_exceptions σ a b) (wX10_exceptions τ a b) := by
  obtain ⟨⟨τ0, hx⟩, ⟨σ0, hm⟩, _⟩ := h9
  obtain ⟨r, h1, _⟩ := pr_exceptions hx a b
  obtain ⟨r', _, h2⟩ := pr_exceptions hm a b
  exact ⟨r, r', h1, h2⟩
theorem pd_breach {σ τ : St} (h9 : WW σ τ) : PRD (wX9_breach σ) (wX10_breach τ) := by
  obtain ⟨⟨τ0, hx⟩, ⟨σ0, hm⟩, _⟩ := h9
  obtain ⟨r, h1, _⟩ := pr_breach hx
  obtain ⟨r', _, h2⟩ := pr_breach hm
  exact ⟨r, r', h1, h2⟩
theorem pd_least {σ τ : St} (h9 : WW σ τ) (a : Int32) : PRD (wX9_least σ a) (wX10_least τ a) := by
  obtain ⟨⟨τ0, hx⟩, ⟨σ0, hm⟩, _⟩ := h9
  obtain ⟨r, h1, _⟩ := pr_least hx a
  obtain ⟨r', _, h2⟩ := pr_least hm a
  exact ⟨r, r', h1, h2⟩
theorem pd_badRole {σ τ : St} (h9 : WW σ τ) : PRD (wX9_badRole σ) (wX10_badRole τ) := by
  obtain ⟨⟨τ0, hx⟩, ⟨σ0, hm⟩, _⟩ := h9
  obtain ⟨r, h1, _⟩ := pr_badRole hx
  obtain ⟨r', _, h2⟩ := pr_badRole hm
  exact ⟨r, r', h1, h2⟩
theorem pd_plan {σ τ : St} (h9 : WW σ τ) (a : Int32) : PD (wX9_plan σ a) (wX10_plan τ a) := by
  obtain ⟨⟨τ0, hx⟩, ⟨σ0, hm⟩, hk⟩ := h9
  obtain ⟨r, σ1, τ1, h1, _, h3⟩ := pr_plan hx a
  obtain ⟨r', σ2, τ2, _, h2, h4⟩ := pr_plan hm a
  obtain ⟨_, s1, f1, e1⟩ := nvX9_plan (b := σ) FX_rf (h1 (fun _ s => s = σ1) rfl)
  rw [e1] at f1
  obtain ⟨_, s2, f2, e2⟩ := nvX10_plan (b := τ) FM_rf (h2 (fun _ s => s = τ2) rfl)
  rw [e2] at f2
  exact ⟨r, r', σ1, τ2, h1, h2, ⟨τ1, h3⟩, ⟨σ2, h4⟩, Wk_mv hk f1 f2⟩
theorem pd_takeOut {σ τ : St} (h9 : WW σ τ) (a b : Int32) : PD (wX9_takeOut σ a b) (wX10_takeOut τ a b) := by
  obtain ⟨⟨τ0, hx⟩, ⟨σ0, hm⟩, hk⟩ := h9
  obtain ⟨r, σ1, τ1, h1, _, h3⟩ := pr_takeOut hx a b
  obtain ⟨r', σ2, τ2, _, h2, h4⟩ := pr_takeOut hm a b
  obtain ⟨_, s1, f1, e1⟩ := nvX9_takeOut (b := σ) FX_rf (h1 (fun _ s => s = σ1) rfl)
  rw [e1] at f1
  obtain ⟨_, s2, f2, e2⟩ := nvX10_takeOut (b := τ) FM_rf (h2 (fun _ s => s = τ2) rfl)
  rw [e2] at f2
  exact ⟨r, r', σ1, τ2, h1, h2, ⟨τ1, h3⟩, ⟨σ2, h4⟩, Wk_mv hk f1 f2⟩
theorem pd_stopped {σ τ : St} (h9 : WW σ τ) (a : Int32) : PRD (wX9_stopped σ a) (wX10_stopped τ a) := by
  obtain ⟨⟨τ0, hx⟩, ⟨σ0, hm⟩, _⟩ := h9
  obtain ⟨r, h1, _⟩ := pr_stopped hx a
  obtain ⟨r', _, h2⟩ := pr_stopped hm a
  exact ⟨r, r', h1, h2⟩
theorem pd_stop {σ τ : St} (h9 : WW σ τ) (a b : Int32) : PRD (wX9_stop σ a b) (wX10_stop τ a b) := by
  obtain ⟨⟨τ0, hx⟩, ⟨σ0, hm⟩, _⟩ := h9
  obtain ⟨r, h1, _⟩ := pr_stop hx a b
  obtain ⟨r', _, h2⟩ := pr_stop hm a b
  exact ⟨r, r', h1, h2⟩
theorem pd_used {σ τ : St} (h9 : WW σ τ) (a b : Int32) : PRD (wX9_used σ a b) (wX10_used τ a b) := by
  obtain ⟨⟨τ0, hx⟩, ⟨σ0, hm⟩, _⟩ := h9
  obtain ⟨r, h1, _⟩ := pr_used hx a b
  obtain ⟨r', _, h2⟩ := pr_used hm a b
  exact ⟨r, r', h1, h2⟩
theorem pd_asked {σ τ : St} (h9 : WW σ τ) : PRD (wX9_asked σ) (wX10_asked τ) := by
  obtain ⟨⟨τ0, hx⟩, ⟨σ0, hm⟩, _⟩ := h9
  obtain ⟨r, h1, _⟩ := pr_asked hx
  obtain ⟨r', _, h2⟩ := pr_asked hm
  exact ⟨r, r', h1, h2⟩
theorem pd_count {σ τ : St} (h9 : WW σ τ) (a : Int32) : PXD (wX9_count σ a) (wX10_count τ a) τ := by
  obtain ⟨⟨τ0, hx⟩, ⟨σ0, hm⟩, hk⟩ := h9
  obtain ⟨r, σ1, h1, _, h3⟩ := pr_count hx a
  obtain ⟨r', _, _, h2, _⟩ := pr_count hm a
  obtain ⟨_, s1, f1, e1⟩ := nvX9_count (b := σ) FX_rf (h1 (fun _ s => s = σ1) rfl)
  rw [e1] at f1
  exact ⟨r, r', σ1, h1, h2, ⟨τ0, h3⟩, ⟨σ0, hm⟩, Wk_mv hk f1 FM_rf⟩
theorem pd_finding {σ τ : St} (h9 : WW σ τ) : PRD (wX9_finding σ) (wX10_finding τ) := by
  obtain ⟨⟨τ0, hx⟩, ⟨σ0, hm⟩, _⟩ := h9
  obtain ⟨r, h1, _⟩ := pr_finding hx
  obtain ⟨r', _, h2⟩ := pr_finding hm
  exact ⟨r, r', h1, h2⟩
theorem pd_findings {σ τ : St} (h9 : WW σ τ) (a : Int32) : PRD (wX9_findings σ a) (wX10_findings τ a) := by
  obtain ⟨⟨τ0, hx⟩, ⟨σ0, hm⟩, _⟩ := h9
  obtain ⟨r, h1, _⟩ := pr_findings hx a
  obtain ⟨r', _, h2⟩ := pr_findings hm a
  exact ⟨r, r', h1, h2⟩
theorem pd_digest {σ τ : St} (h9 : WW σ τ) : PXD (wX9_digest σ) (wX10_digest τ) τ := by
  obtain ⟨⟨τ0, hx⟩, ⟨σ0, hm⟩, hk⟩ := h9
  obtain ⟨r, σ1, h1, _, h3⟩ := pr_digest hx
  obtain ⟨r', _, _, h2, _⟩ := pr_digest hm
  obtain ⟨_, s1, f1, e1⟩ := nvX9_digest (b := σ) FX_rf (h1 (fun _ s => s = σ1) rfl)
  rw [e1] at f1
  exact ⟨r, r', σ1, h1, h2, ⟨τ0, h3⟩, ⟨σ0, hm⟩, Wk_mv hk f1 FM_rf⟩
theorem pd_apply {σ τ : St} (h9 : WW σ τ) : PD (wX9_apply σ) (wX10_apply τ) := by
  obtain ⟨⟨τ0, hx⟩, ⟨σ0, hm⟩, hk⟩ := h9
  obtain ⟨r, σ1, τ1, h1, h3⟩ := ux_apply hx
  obtain ⟨r', τ2, σ2, h2, h4⟩ := um_apply hm
  obtain ⟨_, s1, f1, e1⟩ := nvX9_apply (b := σ) FX_rf (h1 (fun _ s => s = σ1) rfl)
  rw [e1] at f1
  obtain ⟨_, s2, f2, e2⟩ := nvX10_apply (b := τ) FM_rf (h2 (fun _ s => s = τ2) rfl)
  rw [e2] at f2
  exact ⟨r, r', σ1, τ2, h1, h2, ⟨τ1, h3⟩, ⟨σ2, h4⟩, Wk_mv hk f1 f2⟩
