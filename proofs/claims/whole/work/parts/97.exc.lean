/-! REFUSALS: methods that only throw -/
def xQ : Array Value → State → Outcome → State → Prop := fun _ _ _ _ => False
/-- E0 is thrown; the light heap is as it was -/
def xX (D : va_G) (A : Nat → Prop) (E0 : String) (h : ev_H) : String → State → State → Prop := fun E st t => E = E0 ∧ ev_rel D A t h t.heap ∧ va_F A st t
def xM (l : Launch) (G : ev_G) (N : ev_M) (d w c z : Nat) (args : List Value) (h : ev_H) (E0 : String) : Prop := ∀ (D : va_G) (ws : va_W) (tys : List (ClassId × FieldType)) (sz : Nat), ev_hr tys h ws → vx_Met l N.1 (ev_code N :: ev_ws) (ev_rm d w c z) (ev_Pc D G ws tys sz args) xQ (xX D (va_A ws sz) E0 h) c z (va_A ws sz)
section EXC
variable {p : Program} {l : Launch} {e : Env} {R : Room} {s : State} {m : MethodId} {args : Array Value} {below : List Frame} {meth : Method} {c0 : Code} {H : Heap} {locs : List Loc} {cells slots : Nat} {Q : State → Prop} {pc : Nat} {ls : Array Slot} {rest st0 : List Value} {D : va_G} {G : ev_G} {A : Nat → Prop} {ws : va_W} {tys : List (ClassId × FieldType)} {h : ev_H} {mc ms : Nat} {E0 : String} {N N2 : ev_M} {d w w2 c z : Nat} {K : ev_K} {C : ev_L} {L : ev_V} {st As : List Value} {av : List Value} {Qa : State → Outcome → State → Prop}
theorem xb_back (hD : va_D A ws) (hS : va_S A s.heap H locs) (hA : ∀ q, s.heap.size ≤ q → A q) (hQ : ∀ a b d, ¬ Qa a b d)
    (hrun : vx_Run p l e R s m args below meth c0 H locs cells slots mc ms (F0 m pc ls st0) rest Qa (xX D (va_A ws H.size) E0 h) (va_A ws H.size))
    (kx : ∀ (q9 : Addr) (ce : Cell) (H1 : Heap) (locs1 : List Loc), ev_rel D A s h H1 → va_S A s.heap H1 locs1 → H1[q9]? = some ce → ce.vm = .none → s.vm.findClass E0 = some ce.cls → vx_W p l e R s m args below meth c0 H1 locs1 (cells + mc) (slots + ms) Q (F0 m pc ls rest) q9) : W p l e R s m args below meth c0 H locs cells slots Q (F0 m pc ls st0) := by
  have hs := ev_sub hD hS hA
  intro T hT X
  rcases hrun T hT X with ⟨v, st₀, t, T', L, h0, X', hL, e1, e2, hq, st⟩ | ⟨q, st₀, t, T', L, E, ce, h0, X', hL, e1, e2, ⟨hE, ⟨ws1, tys1, hP1, hK1, hD1, hR1⟩, hz, hk⟩, hce, hcv, hcl, st⟩
  · exact absurd hq (hQ _ _ _)
  · subst hE
    rw [h0] at hz hk
    have hal : s.vm.Alike t.vm := by rw [← e2]; exact X'.warmed.alike
    obtain ⟨t2, a1, b1⟩ := kx q ce T'.heap (locs ++ L) ⟨ws1, tys1, by rw [e1]; exact hP1, va_K.moved hal.symm hK1, hD1.weaken (fun _ q _ z => hs q.1 z), hR1⟩
      ⟨Nat.le_trans hS.1 (by rw [e1]; exact hz), fun q g1 g2 => by rw [e1, hk q (Nat.lt_of_lt_of_le g1 hS.1) (fun z => g2 (hs q z))]; exact hS.2.1 q g1 g2, fun q hq => by
        rcases List.mem_append.mp hq with g | g
        · exact hS.2.2 q g
        · exact hs _ (hL q g)⟩ (by rw [e1]; exact hce) hcv hcl T' rfl X'
    exact ⟨t2, st.trans a1, b1⟩
/-- a method whose walk ends in stops that throw -/
theorem x_meets (hpl : plainName N.1.cls = true) (hle : Nat.ble (lg_sl av).length N.2.2.1 = true) (hm : ev_met l G d w C) (hmw : ev_metW l G d w C) (hE : ev_J G C w N K (0, ev_lf (lv_args 0 av), [], h, c, z)) (hK : ∀ r x, ¬ K (.inl r) x)
    (hstop : ∀ (p : Program) (e : Env) (s : State) (m : MethodId) (args : Array Value) (below : List Frame) (meth : Method) (c0 : Code) (D : va_G) (A : Nat → Prop), ev_fr p (ev_rm (d + 1) w c z) s m args meth c0 A G N d w → (∀ x ∈ c0.exceptionTable.toList, False) → ∀ pc L st h' c' z', K (.inr (pc, st, c', z')) h' → ev_W p l e (ev_rm (d + 1) w c z) s m args below meth c0 (vx_MQ below xQ (xX D A E0 h) args s c z A) D A N (pc, L, st, h', c', z')) : xM l G N (d + 1) w c z av h E0 := by
  intro D ws tys sz hR
  refine vx_ofW (cc := N.2.1) (maxL := N.2.2.1) (ret := N.2.2.2) hpl rfl ?_
  intro p e s m args0 below meth c0 s₁ B hml ht hv
  obtain ⟨rfl, hsz, hP, hKK, hD0, hG, hN⟩ := hv
  have hts := atoms_spec (ws := ev_code N :: ev_ws) B.pre
  subst hsz
  have F : ev_fr p (ev_rm (d + 1) w c z) s m av.toArray meth c0 (va_A ws s.heap.size) G N d w := ⟨B.exec, B.bytes, hml, findClass_of_methodNamed B.named, fun w hw => hts w (List.mem_cons_of_mem _ hw), hG, hN, fun q hq => Or.inr hq, Nat.le_refl _, Nat.le_refl _, B.returns, (name_of_methodNamed B.named B.method).1, B.notSynchronized⟩
  have h1 := hE (ev_W p l e (ev_rm (d + 1) w c z) s m av.toArray below meth c0 (vx_MQ below xQ (xX D (va_A ws s.heap.size) E0 h) av.toArray s c z (va_A ws s.heap.size)) D (va_A ws s.heap.size) N)
    (ew_all F hm hmw (fun _ _ _ hk => absurd hk (hK _ _)) (fun _ _ hk => absurd hk (hK _ _)) (fun _ _ _ hk => absurd hk (hK _ _)) (fun _ _ hk => absurd hk (hK _ _)) (fun hk => hstop p e s m av.toArray below meth c0 D (va_A ws s.heap.size) F ht _ _ _ _ _ _ hk))
  have hl := lv_entry av (n := N.2.2.1) (Nat.le_of_ble_eq_true hle)
  rw [lg_entry_eq]
  exact h1 s.heap [] 0 0 _ ⟨ws, tys, hP, hKK, hD0.self, hR⟩ va_S.rf ⟨_, hl, fun i v q => ev_lfm q⟩ (by show 0 + c ≤ c; omega) (by show 0 + z ≤ z; omega)
theorem x_use {w9 : Cond} (hN : ev_NN s) (hw : w9 ∈ ev_ns) : w9.before args s = true := by
  have h1 := hN.1 w9 hw
  unfold ev_ns at hw
  have h2 := (List.mem_filter.mp hw).2
  cases w9 <;> first | exact va_Nw.use rfl h1 | exact h1 | (simp [ev_isN] at h2)
/-- 'throw new E()' -/
theorem x_throw (hl : l.stackTraces = false) (F : ev_fr p (ev_rm (d + 1) w c z) s m args meth c0 A G N d w) (ht : ∀ x ∈ c0.exceptionTable.toList, False) {cls : String} {names : List String} {ik ic c' z' : Nat} (hd5 : names.length + 3 ≤ d) (hw9 : (13 * (names.length + 1) + 42) + 8 ≤ w) (hcls : Bundle.fit cls = true) (hnames : ∀ n ∈ names, Bundle.fit n = true) (hk : Cond.classLink N.1.cls ik cls ∈ ev_ws) (hini : Cond.initialized cls ∈ ev_ws) (ha1 : ∀ w ∈ (vx_at0 N.1.cls ic cls names).filter goodWord, w ∈ ev_ws) (ha2 : ∀ w ∈ (vx_at0 N.1.cls ic cls names).filter (fun w => !goodWord w), w ∈ ev_ns)
    (hgood : ∀ w ∈ Cond.classLink N.1.cls ik cls :: Cond.initialized cls :: vx_at0 N.1.cls ic cls names, vx_ot w = true) (d0 : decode N.2.1 pc = .ok (.new ik, 3)) (d3 : decode N.2.1 (pc + 3) = .ok (.dup, 1)) (d4 : decode N.2.1 (pc + 4) = .ok (.invokespecial ic, 3)) (d7 : decode N.2.1 (pc + 7) = .ok (.athrow, 1)) (hst : (st.map fun v => v.category).sum ≤ 8) (hc1 : 1 ≤ c') (hz1 : 6 ≤ z') :
    ev_W p l e (ev_rm (d + 1) w c z) s m args below meth c0 (vx_MQ below xQ (xX D A cls h) args s c z A) D A N (pc, L, st, h, c', z') := by
  obtain ⟨hx, hb, hml, hown, hts, hG, hnw, hA, hRf, hRl, hret, hnm, hlk⟩ := F
  intro H locs cells slots ls hr hS hl0 hc hz
  dsimp only at hr hl0 hc hz ⊢
  obtain ⟨ws, tys, hP, hK, hD, hR⟩ := id hr
  have hcc : cells + c' ≤ c := hc
  have hzz : slots + z' ≤ z := hz
  refine vx_throw0 (cc := N.2.1) (own := N.1.cls) (cls := cls) (names := names) (ik := ik) (ic := ic) (A := A) hx hb hl hown hcls hnames (hts _ hk) (hts _ hini) (vx_hat (fun w hw => hts w (ha1 w hw)) ha2 (fun w hw => x_use hnw hw)) hgood hG.2.2.1 hG.2.2.2 hS (by rw [hl0.size, hml]) d0 d3 d4 d7 (fun x hx => (ht x hx).elim) (by show names.length + 3 < d + 1; omega) (by show _ ≤ w; omega) (by show cells + 1 ≤ c; omega) (by show slots + 6 ≤ z; omega) hlk (fun t hA2 hz2 hk2 => ⟨rfl, ⟨ws, tys, hP.kept (fun k q hq => hk2 q.1 ((hP k q hq).lt)), va_K.moved hA2 hK, hD, hR⟩, Nat.le_trans hS.1 hz2, fun q g1 g2 => (hk2 q (Nat.lt_of_lt_of_le g1 hS.1)).trans (hS.2.1 q g1 g2)⟩) (fun z hz => hS.2.2 z hz) (by omega) (by omega)
/-- a static call that only throws -/
theorem x_callS (F : ev_fr p (ev_rm (d + 1) w c z) s m args meth c0 A G N d w) (ht : ∀ x ∈ c0.exceptionTable.toList, False) {i : Nat} (hd : decode N.2.1 pc = .ok (.invokestatic i, 3)) (hw : ev_cs N.1.cls i N2 As.length) (hM : xM l G N2 d w2 c z As h E0) (hw2 : 8 + (N2.2.2.1 + 11) + w2 ≤ w) (hq : Nat.ble ((st.map (fun v => v.category)).sum) 8 = true) :
    ev_W p l e (ev_rm (d + 1) w c z) s m args below meth c0 (vx_MQ below xQ (xX D A E0 h) args s c z A) D A N (pc, L, As.reverse ++ st, h, c, z) := by
  obtain ⟨hx, hb, hml, hown, hts, hG, hnw, hA, hRf, hRl, hret, hnm, hlk⟩ := F
  intro H locs cells slots ls hr hS hl0 hc hz
  dsimp only at hr hl0 hc hz ⊢
  obtain ⟨ws, tys, hP, hK, hD, hR⟩ := id hr
  obtain ⟨w1, w2', w4, w5, w6⟩ := hw
  have hcc : cells + c ≤ c := hc
  have hzz : slots + z ≤ z := hz
  refine xb_back hD hS hA (fun _ _ _ q => q) (vx_runS (As := As) (rest := st) ⟨hx, hb, hml, hown, hts⟩ (hM D ws tys H.size hR) (va_cwS As.length hts (ev_gS w1 w2' w4 w5) rfl rfl rfl ⟨w6.1, w6.2.1, w6.2.2⟩ (ev_rmok hRf hRl hw2)) ⟨ev_blind, ev_pre hP hK hD hR hS hA hG hnw⟩ rfl rfl hl0.size rfl (lv_room (Nat.le_of_ble_eq_true hq)) hd ⟨hc, hz⟩) (fun q9 ce H1 locs1 hr1 hS1 hce hcv hcl => ?_)
  obtain ⟨ws1, tys1, hP1, hK1, hD1, hR1⟩ := hr1
  exact vx_out (fun x hx => (ht x hx).elim) hlk hce hcv hcl (fun t ht9 hA9 => ⟨rfl, ⟨ws1, tys1, by rw [ht9]; exact hP1, va_K.moved hA9 hK1, hD1, hR1⟩, hS1.F ht9⟩) (fun z hz => hS1.2.2 z hz) (by omega) (by omega)
/-- a method with a table: what its call throws is caught there -/
theorem x_wrap {hh : List (Nat × Nat × Nat × Nat)} {b ci i : Nat} {fs : List Value} {name : String} {K' : ev_K} {post : Option Value → ev_H → Prop} {pre suf : List ExceptionTableEntry} {x : ExceptionTableEntry} (hpl : plainName N.1.cls = true) (hle : Nat.ble (lg_sl av).length N.2.2.1 = true) (hcw : Cond.codeWith N.1 N.2.1 N.2.2.1 N.2.2.2 hh ∈ ev_ws) (hm : ev_met l G d w C) (hmw : ev_metW l G d w C) (hE : ev_J G C w N K' (0, ev_lf (lv_args 0 av), [], h, c, z)) (hK : ∀ r x, ¬ K' (.inl r) x)
    (hS' : ∀ pc' st' c' z' h', K' (.inr (pc', st', c', z')) h' → pc' = pc ∧ st' = As.reverse ++ .ref b :: st ∧ c' = c ∧ z' = z ∧ h' = h) (hd : decode N.2.1 pc = .ok (.invokevirtual i, 3)) (hw : ev_cv N.1.cls i N2 As.length) (hb1 : h b = some (.inr (ci, fs))) (hci : (classes[ci]?).map (fun q => q.1) = some N2.1.cls) (hM : xM l G N2 d w2 c z (.ref b :: As) h E0) (hw2 : 8 + (N2.2.2.1 + 11) + w2 ≤ w) (hq : Nat.ble ((st.map (fun v => v.category)).sum) 8 = true)
    (hsplit : tableOf hh = pre ++ x :: suf) (hpass : ∀ y ∈ pre, y.catchType ≠ 0 ∧ ∃ nm : String, Cond.classLink N.1.cls y.catchType nm ∈ ev_ws ∧ ∀ U, ev_NN U → va_Nc E0 nm U) (hx : covers x pc = true) (h0 : x.catchType ≠ 0) (hlink : Cond.classLink N.1.cls x.catchType name ∈ ev_ws) (hcast : Cond.castable E0 name ∈ ev_ns)
    (hE2 : ∀ L q, ev_J G C w N (ev_ok post) (x.handlerPc, L, [.ref q], h, 0, 0)) :
    ∀ (D : va_G) (ws : va_W) (tys : List (ClassId × FieldType)) (sz : Nat), ev_hr tys h ws → Met l N.1 (Cond.codeWith N.1 N.2.1 N.2.2.1 N.2.2.2 hh :: ev_ws) (ev_rm (d + 1) w c z) (ev_Pc D G ws tys sz av) (ev_Qc D (va_A ws sz) (ev_ok post)) c z (va_A ws sz) := by
  intro D ws tys sz hR
  refine va_MetW (cc := N.2.1) (maxL := N.2.2.1) (ret := N.2.2.2) (hh := hh) hpl rfl ?_
  intro p e s m args0 below meth c0 s₁ B hml hv
  obtain ⟨rfl, hsz, hP, hKK, hD0, hG, hN⟩ := hv
  have hts := atoms_spec (ws := Cond.codeWith N.1 N.2.1 N.2.2.1 N.2.2.2 hh :: ev_ws) B.pre
  subst hsz
  have htab := vx_table (x := N.1) B (hts _ List.mem_cons_self)
  have F : ev_fr p (ev_rm (d + 1) w c z) s m av.toArray meth c0 (va_A ws s.heap.size) G N d w := ⟨B.exec, B.bytes, hml, findClass_of_methodNamed B.named, fun w hw => hts w (List.mem_cons_of_mem _ hw), hG, hN, fun q hq => Or.inr hq, Nat.le_refl _, Nat.le_refl _, B.returns, (name_of_methodNamed B.named B.method).1, B.notSynchronized⟩
  have back : ∀ L q, ev_W p l e (ev_rm (d + 1) w c z) s m av.toArray below meth c0 (MQ below (ev_Qc D (va_A ws s.heap.size) (ev_ok post)) av.toArray s c z (va_A ws s.heap.size)) D (va_A ws s.heap.size) N (x.handlerPc, L, [.ref q], h, 0, 0) := fun L q => hE2 L q _ (ew_all F hm hmw (ew_iret (K := ev_ok post) F hm hmw) (ew_lret (K := ev_ok post) F hm hmw) (ew_aret (K := ev_ok post) F hm hmw) (ew_vret (K := ev_ok post) F hm hmw) (fun hk => hk.elim))
  have h1 := hE (ev_W p l e (ev_rm (d + 1) w c z) s m av.toArray below meth c0 (MQ below (ev_Qc D (va_A ws s.heap.size) (ev_ok post)) av.toArray s c z (va_A ws s.heap.size)) D (va_A ws s.heap.size) N)
    (ew_all F hm hmw (fun _ _ _ hk => absurd hk (hK _ _)) (fun _ _ hk => absurd hk (hK _ _)) (fun _ _ _ hk => absurd hk (hK _ _)) (fun _ _ hk => absurd hk (hK _ _)) (fun {pc9 L9 st9 h9 c9 z9} hk => by
      obtain ⟨rfl, rfl, rfl, rfl, rfl⟩ := hS' _ _ _ _ _ hk
      obtain ⟨hx9, hb, hml, hown, hts, hG, hnw, hA, hRf, hRl, hret, hnm, hlk⟩ := F
      intro H locs cells slots ls hr hS hl0 hc hz
      dsimp only at hr hl0 hc hz ⊢
      obtain ⟨ws1, tys1, hP1, hK1, hD1, hR1⟩ := id hr
      obtain ⟨q0, g1⟩ := ev_obj hR1 hb1
      obtain ⟨w1, w2', w3, w4, w5, w6⟩ := hw
      obtain ⟨qc, hq1, hq2⟩ := Option.map_eq_some_iff.mp hci
      refine xb_back hD1 hS hA (fun _ _ _ q => q) (vx_runV (As := As) (rest := st) ⟨hx9, hb, hml, hown, hts⟩ (hM D ws1 tys1 H.size hR1) (cwV As.length hts (ev_gV w1 w2' w3 w4 w5) rfl rfl rfl ⟨rfl, w6.1, w6.2.1, w6.2.2⟩ (ev_rmok hRf hRl hw2)) ⟨ev_blind, by have q := va_recv hK1 hP1 hq1 g1; rw [hq2] at q; exact q, ev_pre hP1 hK1 hD1 hR1 hS hA hG hnw⟩ rfl rfl hl0.size rfl (lv_room (Nat.le_of_ble_eq_true hq)) hd ⟨hc, hz⟩) (fun q9 ce H1 locs1 hr1 hS1 hce hcv hcl => ?_)
      refine vx_catch hown pre x suf (htab.trans hsplit) (fun y hy => ?_) hx h0 (hts _ hlink) (x_use hnw hcast) hce hcv hcl ?_
      · obtain ⟨y0, nm, y1, y2⟩ := hpass y hy
        exact Or.inr ⟨y0, nm, hts _ y1, y2 s hnw⟩
      · exact back L9 q9 H1 locs1 _ _ ls hr1 hS1 hl0 hc hz))
  have hl := lv_entry av (n := N.2.2.1) (Nat.le_of_ble_eq_true hle)
  rw [lg_entry_eq]
  exact h1 s.heap [] 0 0 _ ⟨ws, tys, hP, hKK, hD0.self, hR⟩ va_S.rf ⟨_, hl, fun i v q => ev_lfm q⟩ (by show 0 + c ≤ c; omega) (by show 0 + z ≤ z; omega)
end EXC
