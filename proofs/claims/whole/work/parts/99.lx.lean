/-! THE LAW'S CALLS: what it may call, and what it gets where the program refuses -/
def TX_ (l : Launch) (G : ev_G) (d w : Nat) : ev_L := fun N a h c z K => plainName N.1.cls = true ∧ 19 + N.2.2.1 ≤ w ∧ (∃ hh, Cond.codeWith N.1 N.2.1 N.2.2.1 N.2.2.2 hh ∈ ev_ws ∧ hh ≠ []) ∧ ∀ hh, Cond.codeWith N.1 N.2.1 N.2.2.1 N.2.2.2 hh ∈ ev_ws → ∀ (D : va_G) (ws : va_W) (tys : List (ClassId × FieldType)) (sz : Nat), ev_hr tys h ws → Met l N.1 (Cond.codeWith N.1 N.2.1 N.2.2.1 N.2.2.2 hh :: ev_ws) (ev_rm d (w - (19 + N.2.2.1)) c z) (ev_Pc D G ws tys sz a) (ev_Qc D (va_A ws sz) K) c z (va_A ws sz)
def CL (l : Launch) (G : ev_G) (d w : Nat) : ev_L := fun N a h c z K => ev_cc G d w N a h c z K ∨ TX_ l G d w N a h c z K
section LXS
variable {l : Launch} {G : ev_G} {d w : Nat}
theorem met_CL : ev_met l G d w (CL l G d w) := by
  intro N args h c z K hC hn
  rcases hC with q | ⟨hpl, hw, ⟨hh, hcw, hne⟩, -⟩
  · exact met_cc N args h c z K q hn
  · refine ⟨w - (19 + N.2.2.1), by omega, fun D ws tys sz hR => Met.ofW (cc := N.2.1) (maxL := N.2.2.1) (ret := N.2.2.2) hpl rfl ?_⟩
    intro p e s m args0 below meth c0 s₁ B hml hv
    exfalso
    have hts := atoms_spec (ws := ev_code N :: ev_ws) B.pre
    have t1 := vx_table (x := N.1) B (hts _ (List.mem_cons_of_mem _ hcw))
    obtain ⟨meth9, c9, h1, h2, -, -, -, -, h7, -⟩ := Cond.code_spec B.named (hts _ List.mem_cons_self)
    cases Option.some.inj (h1.symm.trans B.method)
    cases Option.some.inj (h2.symm.trans (Stand.of_body B).code)
    rw [Array.isEmpty_iff.mp h7] at t1
    cases hh with
    | nil => exact hne rfl
    | cons a t => cases t1
theorem metW_CL : ev_metW l G d w (CL l G d w) := by
  intro N hh args h c z K hC hn hcw
  rcases hC with q | ⟨hpl, hw, -, hM⟩
  · exact metW_cc N hh args h c z K q hn hcw
  · exact ⟨w - (19 + N.2.2.1), by omega, hM hh hcw⟩
def cwOk (y : MethodName) (t : List (Nat × Nat × Nat × Nat)) : Cond → Bool
  | .codeWith x _ _ _ hh => decide (x ≠ y) || decide (hh = t)
  | _ => true
theorem cw_of {y : MethodName} {t hh : List (Nat × Nat × Nat × Nat)} {b : ByteArray} {n : Nat} {r : Option FieldType} (h : ∀ w ∈ ev_ws, cwOk y t w = true) (hm : Cond.codeWith y b n r hh ∈ ev_ws) : hh = t := by
  have := h _ hm
  simpa [cwOk] using this
set_option maxRecDepth 20000 in
theorem cwk_set : ∀ w ∈ ev_ws, cwOk m_L_set.1 [(0, 12, 15, 13), (0, 12, 19, 15)] w = true := by decide +kernel
set_option maxRecDepth 20000 in
theorem cwk_get : ∀ w ∈ ev_ws, cwOk m_L_get.1 [(0, 10, 13, 13), (0, 10, 17, 15)] w = true := by decide +kernel
set_option maxRecDepth 20000 in
theorem cwk_base : ∀ w ∈ ev_ws, cwOk m_L_base.1 [(0, 6, 9, 15)] w = true := by decide +kernel
set_option maxRecDepth 20000 in
theorem cwk_close : ∀ w ∈ ev_ws, cwOk m_L_close.1 [(0, 8, 11, 29)] w = true := by decide +kernel
theorem lx_all {bp : Nat → Nat} {o : Nat} (hl : l.stackTraces = false) (hd : 8 ≤ d) (hw : 300 ≤ w) : LX (CL l G d w) bp o := by
  obtain ⟨k, rfl⟩ : ∃ k, d = k + 3 := ⟨d - 3, by omega⟩
  refine ⟨fun x0 x1 x2 h fs hB hr => ?_, fun x0 x1 h fs hB hr => ?_, fun x0 x1 h fs hB hr => ?_, fun h dn ba sd hB h1 h2 hr => ?_⟩
  · refine Or.inr ⟨by decide +kernel, by show 19 + 6 ≤ w; omega, ⟨_, csw_L_35.2.2.2.1, by decide⟩, fun hh hcw => ?_⟩
    obtain rfl := cw_of cwk_set hcw
    by_cases q : ri x0 0 7
    · have q2 : ¬ ri x1 0 2 := fun q2 => hr ⟨q, q2⟩
      exact xw_setA (d := k + 2) (w := w - 25) (w2 := w - 49) ⟨⟨2, Or.inr ⟨q, rfl⟩, rfl⟩, rfl⟩ hB (x_set (d := k + 1) (w2 := w - 70) (x_refuse2 (d := k) hl q q2 (by omega) (by omega)) (by omega)) (by omega) hcw
    · exact xw_setI (d := k + 2) (w := w - 25) (w2 := w - 49) ⟨⟨1, Or.inl ⟨q, rfl⟩, rfl⟩, rfl⟩ hB (x_set (d := k + 1) (w2 := w - 70) (x_refuse1 (d := k) hl q (by omega) (by omega)) (by omega)) (by omega) hcw
  · refine Or.inr ⟨by decide +kernel, by show 19 + 5 ≤ w; omega, ⟨_, csw_L_44.2.2.2.1, by decide⟩, fun hh hcw => ?_⟩
    obtain rfl := cw_of cwk_get hcw
    by_cases q : ri x0 0 7
    · have q2 : ¬ ri x1 0 2 := fun q2 => hr ⟨q, q2⟩
      exact xw_getA (d := k + 2) (w := w - 24) (w2 := w - 46) ⟨⟨2, Or.inr ⟨q, rfl⟩, rfl⟩, rfl⟩ hB (x_get (d := k + 1) (w2 := w - 67) (x_refuse2 (d := k) hl q q2 (by omega) (by omega)) (by omega)) (by omega) hcw
    · exact xw_getI (d := k + 2) (w := w - 24) (w2 := w - 46) ⟨⟨1, Or.inl ⟨q, rfl⟩, rfl⟩, rfl⟩ hB (x_get (d := k + 1) (w2 := w - 67) (x_refuse1 (d := k) hl q (by omega) (by omega)) (by omega)) (by omega) hcw
  · refine Or.inr ⟨by decide +kernel, by show 19 + 4 ≤ w; omega, ⟨_, csw_L_48.2.2.2.1, by decide⟩, fun hh hcw => ?_⟩
    obtain rfl := cw_of cwk_base hcw
    exact xw_baseA (d := k + 2) (w := w - 23) (w2 := w - 45) (oo := 0) ⟨rfl, rfl⟩ hB (x_base (d := k + 1) hl hr (by omega) (by omega)) (by omega) hcw
  · refine Or.inr ⟨by decide +kernel, by show 19 + 3 ≤ w; omega, ⟨_, csw_L_61.2.2.2.1, by decide⟩, fun hh hcw => ?_⟩
    obtain rfl := cw_of cwk_close hcw
    exact xw_closeS (d := k + 2) (w := w - 22) (w2 := w - 44) ⟨rfl, rfl⟩ hB (x_close (d := k + 1) hl hB h1 h2 hr (by omega) (by omega)) (by omega) hcw
theorem lc_all : LC G (CL l G d w) d w := fun N a h c z K q => Or.inl q
end LXS
