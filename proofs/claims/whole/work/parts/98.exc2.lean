/-! REFUSALS: refuseUnknown, set, get, base, close; the law's four calls -/
def nms : List String := ["java/lang/RuntimeException", "java/lang/Exception"]
abbrev eI : String := "java/lang/IndexOutOfBoundsException"
set_option maxRecDepth 20000 in
theorem xa_I : (∀ w ∈ (vx_at0 RX8 219 eI nms).filter goodWord, w ∈ ev_ws) ∧ (∀ w ∈ (vx_at0 RX8 219 eI nms).filter (fun w => !goodWord w), w ∈ ev_ns) ∧ ∀ w ∈ Cond.classLink RX8 217 eI :: Cond.initialized eI :: vx_at0 RX8 219 eI nms, vx_ot w = true := ⟨by decide +kernel, by decide +kernel, by decide +kernel⟩
theorem xb_I : Cond.classLink RX8 217 eI ∈ ev_ws ∧ Cond.initialized eI ∈ ev_ws ∧ Cond.castable eI eI ∈ ev_ns ∧ Bundle.fit eI = true ∧ ∀ n ∈ nms, Bundle.fit n = true := ⟨ev_at 575 (by decide +kernel) rfl, ev_at 71 (by decide +kernel) rfl, ev_an 577 (by decide +kernel) rfl, by decide +kernel, by decide +kernel⟩
abbrev eA : String := "java/lang/IllegalArgumentException"
set_option maxRecDepth 20000 in
theorem xa_A : (∀ w ∈ (vx_at0 RX8 93 eA nms).filter goodWord, w ∈ ev_ws) ∧ (∀ w ∈ (vx_at0 RX8 93 eA nms).filter (fun w => !goodWord w), w ∈ ev_ns) ∧ ∀ w ∈ Cond.classLink RX8 91 eA :: Cond.initialized eA :: vx_at0 RX8 93 eA nms, vx_ot w = true := ⟨by decide +kernel, by decide +kernel, by decide +kernel⟩
theorem xb_A : Cond.classLink RX8 91 eA ∈ ev_ws ∧ Cond.initialized eA ∈ ev_ws ∧ Cond.castable eA eA ∈ ev_ns ∧ Bundle.fit eA = true ∧ ∀ n ∈ nms, Bundle.fit n = true := ⟨ev_at 638 (by decide +kernel) rfl, ev_at 72 (by decide +kernel) rfl, ev_an 640 (by decide +kernel) rfl, by decide +kernel, by decide +kernel⟩
abbrev eS : String := "java/lang/IllegalStateException"
set_option maxRecDepth 20000 in
theorem xa_S : (∀ w ∈ (vx_at0 RX8 137 eS nms).filter goodWord, w ∈ ev_ws) ∧ (∀ w ∈ (vx_at0 RX8 137 eS nms).filter (fun w => !goodWord w), w ∈ ev_ns) ∧ ∀ w ∈ Cond.classLink RX8 135 eS :: Cond.initialized eS :: vx_at0 RX8 137 eS nms, vx_ot w = true := ⟨by decide +kernel, by decide +kernel, by decide +kernel⟩
theorem xb_S : Cond.classLink RX8 135 eS ∈ ev_ws ∧ Cond.initialized eS ∈ ev_ws ∧ Cond.castable eS eS ∈ ev_ns ∧ Bundle.fit eS = true ∧ ∀ n ∈ nms, Bundle.fit n = true := ⟨ev_at 686 (by decide +kernel) rfl, ev_at 76 (by decide +kernel) rfl, ev_an 688 (by decide +kernel) rfl, by decide +kernel, by decide +kernel⟩
/-- the walk stops here -/
def xk (pc : Nat) (st : List Value) (c z : Nat) (h : ev_H) : ev_K := fun r h' => match r with
  | .inl _ => False
  | .inr q => q = (pc, st, c, z) ∧ h' = h
section EXD
variable {l : Launch} {G : ev_G} {d w w2 b : Nat} {h : ev_H} {x0 x1 x2 : Int32} {E0 : String}
theorem met_cc : ev_met l G d w (ev_cc G d w) := fun N2 a2 h2 c2 z2 K2 q n => ⟨w - (19 + N2.2.2.1), by have := q.1; omega, fun D ws tys sz r => (ev_meets l G d (w - (19 + N2.2.2.1)) N2 a2 h2 c2 z2 K2 q.2 n D ws tys sz r).1⟩
theorem metW_cc : ev_metW l G d w (ev_cc G d w) := fun N2 hh a2 h2 c2 z2 K2 q n _ => ⟨w - (19 + N2.2.2.1), by have := q.1; omega, fun D ws tys sz r => (ev_meets l G d (w - (19 + N2.2.2.1)) N2 a2 h2 c2 z2 K2 q.2 n D ws tys sz r).2 hh⟩
theorem x_refuse1 (hl : l.stackTraces = false) (hr : ¬ ri x0 0 7) (hd : 5 ≤ d) (hw : 130 ≤ w) : xM l G m_X8_refuseUnknown (d + 1) w 1 6 [.int x0, .int x1] h eI := by
  refine x_meets (C := ev_cc G d w) (K := xk 7 [] 1 6 h) (by decide +kernel) rfl met_cc metW_cc ?_ (fun r x q => q) ?_
  · refine ev_iload_n (pc := 0) dX8_refuseUnknown_0 rfl ?_
    refine ev_callS (pc := 1) (As := [.int x0]) dX8_refuseUnknown_1 cs_X8_124 rfl rfl ⟨by show 19 + 1 ≤ w; omega, show ev_Ca _ _ (w - 20) _ _ _ _ _ _ from k_has (by omega)⟩ rfl rfl (fun r h1 hp => ?_)
    obtain ⟨rfl, hH⟩ := hp
    rw [hH, rb_0 hr]
    clear hH h1
    refine ev_if_neN (pc := 4) (tgt := 15) dX8_refuseUnknown_4 (by decide) (by decide) (fun q => absurd q (by decide)) (fun _ => ?_)
    exact ev_stop ⟨rfl, rfl⟩
  · intro p e s m args below meth c0 D A F ht pc L st h' c' z' hk
    obtain ⟨e1, rfl⟩ := hk
    cases e1
    exact x_throw hl F ht (cls := eI) (names := nms) (ik := 217) (ic := 219) (by show 2 + 3 ≤ d; omega) (by show 13 * 3 + 42 + 8 ≤ w; omega) xb_I.2.2.2.1 xb_I.2.2.2.2 xb_I.1 xb_I.2.1 xa_I.1 xa_I.2.1 xa_I.2.2 dX8_refuseUnknown_7 dX8_refuseUnknown_10 dX8_refuseUnknown_11 dX8_refuseUnknown_14 (by decide) (by decide) (by decide)
theorem x_refuse2 (hl : l.stackTraces = false) (hr : ri x0 0 7) (hr2 : ¬ ri x1 0 2) (hd : 5 ≤ d) (hw : 130 ≤ w) : xM l G m_X8_refuseUnknown (d + 1) w 1 6 [.int x0, .int x1] h eA := by
  refine x_meets (C := ev_cc G d w) (K := xk 24 [] 1 6 h) (by decide +kernel) rfl met_cc metW_cc ?_ (fun r x q => q) ?_
  · refine ev_iload_n (pc := 0) dX8_refuseUnknown_0 rfl ?_
    refine ev_callS (pc := 1) (As := [.int x0]) dX8_refuseUnknown_1 cs_X8_124 rfl rfl ⟨by show 19 + 1 ≤ w; omega, show ev_Ca _ _ (w - 20) _ _ _ _ _ _ from k_has (by omega)⟩ rfl rfl (fun r h1 hp => ?_)
    obtain ⟨rfl, hH⟩ := hp
    rw [hH, rb_1 hr]
    clear hH h1
    refine ev_if_neN (pc := 4) (tgt := 15) dX8_refuseUnknown_4 (by decide) (by decide) (fun _ => ?_) (fun q => absurd q (by decide))
    refine ev_iload_n (pc := 15) dX8_refuseUnknown_15 rfl ?_
    refine ev_if_lt (pc := 16) (tgt := 24) dX8_refuseUnknown_16 (by decide) (fun c1 => ?_) (fun c1 => ?_)
    · exact ev_stop ⟨rfl, rfl⟩
    · refine ev_iload_n (pc := 19) dX8_refuseUnknown_19 rfl ?_
      refine ev_iconst (pc := 20) (v := nI 3) dX8_refuseUnknown_20 (by decide) ?_
      refine ev_icmp_lt (pc := 21) (tgt := 32) dX8_refuseUnknown_21 (by decide) (fun c2 => ?_) (fun c2 => ?_)
      · exfalso
        refine hr2 ⟨?_, ?_⟩
        · rw [Int32.lt_iff_toInt_lt] at c1
          have e0 : (0 : Int32).toInt = 0 := by decide
          rw [e0] at c1
          omega
        · rw [Int32.lt_iff_toInt_lt] at c2
          have e0 : (nI 3).toInt = 3 := by decide
          rw [e0] at c2
          omega
      · exact ev_stop ⟨rfl, rfl⟩
  · intro p e s m args below meth c0 D A F ht pc L st h' c' z' hk
    obtain ⟨e1, rfl⟩ := hk
    cases e1
    exact x_throw hl F ht (cls := eA) (names := nms) (ik := 91) (ic := 93) (by show 2 + 3 ≤ d; omega) (by show 13 * 3 + 42 + 8 ≤ w; omega) xb_A.2.2.2.1 xb_A.2.2.2.2 xb_A.1 xb_A.2.1 xa_A.1 xa_A.2.1 xa_A.2.2 dX8_refuseUnknown_24 dX8_refuseUnknown_27 dX8_refuseUnknown_28 dX8_refuseUnknown_31 (by decide) (by decide) (by decide)
theorem x_set (hr : xM l G m_X8_refuseUnknown d w2 1 6 [.int x0, .int x1] h E0) (hw2 : 21 + w2 ≤ w) : xM l G m_X8_set (d + 1) w 1 6 [.ref b, .int x0, .int x1, .int x2] h E0 := by
  refine x_meets (C := ev_cc G d w) (K := xk 2 [.int x1, .int x0] 1 6 h) (by decide +kernel) rfl met_cc metW_cc ?_ (fun r x q => q) ?_
  · refine ev_iload_n (pc := 0) dX8_set_0 rfl ?_
    refine ev_iload_n (pc := 1) dX8_set_1 rfl ?_
    exact ev_stop ⟨rfl, rfl⟩
  · intro p e s m args below meth c0 D A F ht pc L st h' c' z' hk
    obtain ⟨e1, rfl⟩ := hk
    cases e1
    exact x_callS (As := [.int x0, .int x1]) (st := []) F ht dX8_set_2 cs_X8_74 hr (by show 8 + (2 + 11) + w2 ≤ w; omega) rfl
theorem x_get (hr : xM l G m_X8_refuseUnknown d w2 1 6 [.int x0, .int x1] h E0) (hw2 : 21 + w2 ≤ w) : xM l G m_X8_get (d + 1) w 1 6 [.ref b, .int x0, .int x1] h E0 := by
  refine x_meets (C := ev_cc G d w) (K := xk 2 [.int x1, .int x0] 1 6 h) (by decide +kernel) rfl met_cc metW_cc ?_ (fun r x q => q) ?_
  · refine ev_iload_n (pc := 0) dX8_get_0 rfl ?_
    refine ev_iload_n (pc := 1) dX8_get_1 rfl ?_
    exact ev_stop ⟨rfl, rfl⟩
  · intro p e s m args below meth c0 D A F ht pc L st h' c' z' hk
    obtain ⟨e1, rfl⟩ := hk
    cases e1
    exact x_callS (As := [.int x0, .int x1]) (st := []) F ht dX8_get_2 cs_X8_74 hr (by show 8 + (2 + 11) + w2 ≤ w; omega) rfl
theorem x_base (hl : l.stackTraces = false) (hr : ¬ (ri x0 1 255 ∧ ri x1 1 1000000)) (hd : 5 ≤ d) (hw : 130 ≤ w) : xM l G m_X8_base (d + 1) w 1 6 [.ref b, .int x0, .int x1] h eA := by
  refine x_meets (C := ev_cc G d w) (K := xk 23 [] 1 6 h) (by decide +kernel) rfl met_cc metW_cc ?_ (fun r x q => q) ?_
  · have e1 : (nI 1).toInt = 1 := by decide
    have e2 : (nI 255).toInt = 255 := by decide
    have e3 : (nI 1000000).toInt = 1000000 := by decide
    refine ev_iload_n (pc := 0) dX8_base_0 rfl ?_
    refine ev_iconst (pc := 1) (v := nI 1) dX8_base_1 (by decide) ?_
    refine ev_icmp_lt (pc := 2) (tgt := 23) dX8_base_2 (by decide) (fun c1 => ?_) (fun c1 => ?_)
    · exact ev_stop ⟨rfl, rfl⟩
    · refine ev_iload_n (pc := 5) dX8_base_5 rfl ?_
      refine ev_sipush (pc := 6) (v := nI 255) dX8_base_6 (by decide) ?_
      refine ev_icmp_gt (pc := 9) (tgt := 23) dX8_base_9 (by decide) (fun c2 => ?_) (fun c2 => ?_)
      · exact ev_stop ⟨rfl, rfl⟩
      · refine ev_iload_n (pc := 12) dX8_base_12 rfl ?_
        refine ev_iconst (pc := 13) (v := nI 1) dX8_base_13 (by decide) ?_
        refine ev_icmp_lt (pc := 14) (tgt := 23) dX8_base_14 (by decide) (fun c3 => ?_) (fun c3 => ?_)
        · exact ev_stop ⟨rfl, rfl⟩
        · refine ev_iload_n (pc := 17) dX8_base_17 rfl ?_
          refine ev_ldc (pc := 18) dX8_base_18 k_X8_90 ?_
          refine ev_icmp_le (pc := 20) (tgt := 31) dX8_base_20 (by decide) (fun c4 => ?_) (fun c4 => ?_)
          · exfalso
            rw [Int32.lt_iff_toInt_lt] at c1 c2 c3
            rw [Int32.le_iff_toInt_le] at c4
            rw [e1] at c1 c3
            rw [e2] at c2
            rw [e3] at c4
            exact hr ⟨⟨by omega, by omega⟩, ⟨by omega, by omega⟩⟩
          · exact ev_stop ⟨rfl, rfl⟩
  · intro p e s m args below meth c0 D A F ht pc L st h' c' z' hk
    obtain ⟨e1, rfl⟩ := hk
    cases e1
    exact x_throw hl F ht (cls := eA) (names := nms) (ik := 91) (ic := 93) (by show 2 + 3 ≤ d; omega) (by show 13 * 3 + 42 + 8 ≤ w; omega) xb_A.2.2.2.1 xb_A.2.2.2.2 xb_A.1 xb_A.2.1 xa_A.1 xa_A.2.1 xa_A.2.2 dX8_base_23 dX8_base_26 dX8_base_27 dX8_base_30 (by decide) (by decide) (by decide)
theorem x_close {bp : Nat → Nat} {dn ba sd : Nat} (hl : l.stackTraces = false) (hB : h (bp 0) = some (.inr (6, bf bp dn ba sd))) (hdn : dn ≤ 250) (hba : ba ≤ 1) (hr : ¬ (ba = 1 ∧ dn < 250)) (hd : 5 ≤ d) (hw : 130 ≤ w) : xM l G m_X8_close (d + 1) w 1 6 [.ref (bp 0)] h eS := by
  refine x_meets (C := ev_cc G d w) (K := xk 17 [] 1 6 h) (by decide +kernel) rfl met_cc metW_cc ?_ (fun r x q => q) ?_
  · refine ev_aload_n (pc := 0) dX8_close_0 rfl ?_
    refine ev_getf (pc := 1) dX8_close_1 f_X8_67 hB rfl ?_
    refine ev_if_eqN (pc := 4) (tgt := 17) dX8_close_4 (by decide) (by omega) (fun q => ?_) (fun q => ?_)
    · exact ev_stop ⟨rfl, rfl⟩
    · refine ev_aload_n (pc := 7) dX8_close_7 rfl ?_
      refine ev_getf (pc := 8) dX8_close_8 f_X8_63 hB rfl ?_
      refine ev_sipush (pc := 11) (v := nI 250) dX8_close_11 (by decide) ?_
      refine ev_icmp_ltN (pc := 14) (tgt := 25) dX8_close_14 (by decide) (by omega) (by omega) (fun c1 => ?_) (fun c1 => ?_)
      · omega
      · exact ev_stop ⟨rfl, rfl⟩
  · intro p e s m args below meth c0 D A F ht pc L st h' c' z' hk
    obtain ⟨e1, rfl⟩ := hk
    cases e1
    exact x_throw hl F ht (cls := eS) (names := nms) (ik := 135) (ic := 137) (by show 2 + 3 ≤ d; omega) (by show 13 * 3 + 42 + 8 ≤ w; omega) xb_S.2.2.2.1 xb_S.2.2.2.2 xb_S.1 xb_S.2.1 xa_S.1 xa_S.2.1 xa_S.2.2 dX8_close_17 dX8_close_20 dX8_close_21 dX8_close_24 (by decide) (by decide) (by decide)
theorem xw_setI {oo : Nat} {fs : List Value} {post : Option Value → ev_H → Prop} (hpo : post (some (.int (nI 1))) h) (hb : h b = some (.inr (6, fs))) (hM : xM l G m_X8_set d w2 1 6 [.ref b, .int x0, .int x1, .int x2] h eI) (hw2 : 24 + w2 ≤ w) (hcw : Cond.codeWith m_L_set.1 m_L_set.2.1 m_L_set.2.2.1 m_L_set.2.2.2 [(0, 12, 15, 13), (0, 12, 19, 15)] ∈ ev_ws) : ∀ (D : va_G) (ws : va_W) (tys : List (ClassId × FieldType)) (sz : Nat), ev_hr tys h ws → Met l m_L_set.1 (Cond.codeWith m_L_set.1 m_L_set.2.1 m_L_set.2.2.1 m_L_set.2.2.2 [(0, 12, 15, 13), (0, 12, 19, 15)] :: ev_ws) (ev_rm (d + 1) w 1 6) (ev_Pc D G ws tys sz [.ref b, .int x0, .int x1, .int x2, .ref oo]) (ev_Qc D (va_A ws sz) (ev_ok post)) 1 6 (va_A ws sz) := by
  refine x_wrap (N := m_L_set) (N2 := m_X8_set) (C := ev_cc G d w) (pc := 7) (As := [.int x0, .int x1, .int x2]) (st := [.int (nI 0), .ref oo]) (K' := xk 7 [.int x2, .int x1, .int x0, .ref b, .int (nI 0), .ref oo] 1 6 h) (name := eI) (pre := []) (x := ⟨0, 12, 15, 13⟩) (suf := [⟨0, 12, 19, 15⟩]) (by decide +kernel) rfl hcw met_cc metW_cc ?_ (fun r x q => q) (fun pc' st' c' z' h' q => ?_) dL_set_7 cv_L_7 hb rfl hM (by show 8 + (5 + 11) + w2 ≤ w; omega) rfl rfl (fun y hy => nomatch hy) (by decide) (by decide) (ev_at 566 (by decide +kernel) rfl) xb_I.2.2.1 (fun L q => ?_)
  · refine ev_aload (pc := 0) dL_set_0 rfl ?_
    refine ev_iconst (pc := 2) (v := nI 0) dL_set_2 (by decide) ?_
    refine ev_aload_n (pc := 3) dL_set_3 rfl ?_
    refine ev_iload_n (pc := 4) dL_set_4 rfl ?_
    refine ev_iload_n (pc := 5) dL_set_5 rfl ?_
    refine ev_iload_n (pc := 6) dL_set_6 rfl ?_
    exact ev_stop ⟨rfl, rfl⟩
  · obtain ⟨e1, rfl⟩ := q
    cases e1
    exact ⟨rfl, rfl, rfl, rfl, rfl⟩
  · refine ev_astore (pc := 15) dL_set_15 rfl ?_
    refine ev_iconst (pc := 17) (v := nI 1) dL_set_17 (by decide) ?_
    exact ev_iret (pc := 18) dL_set_18 rfl rfl hpo
theorem xw_setA {oo : Nat} {fs : List Value} {post : Option Value → ev_H → Prop} (hpo : post (some (.int (nI 2))) h) (hb : h b = some (.inr (6, fs))) (hM : xM l G m_X8_set d w2 1 6 [.ref b, .int x0, .int x1, .int x2] h eA) (hw2 : 24 + w2 ≤ w) (hcw : Cond.codeWith m_L_set.1 m_L_set.2.1 m_L_set.2.2.1 m_L_set.2.2.2 [(0, 12, 15, 13), (0, 12, 19, 15)] ∈ ev_ws) : ∀ (D : va_G) (ws : va_W) (tys : List (ClassId × FieldType)) (sz : Nat), ev_hr tys h ws → Met l m_L_set.1 (Cond.codeWith m_L_set.1 m_L_set.2.1 m_L_set.2.2.1 m_L_set.2.2.2 [(0, 12, 15, 13), (0, 12, 19, 15)] :: ev_ws) (ev_rm (d + 1) w 1 6) (ev_Pc D G ws tys sz [.ref b, .int x0, .int x1, .int x2, .ref oo]) (ev_Qc D (va_A ws sz) (ev_ok post)) 1 6 (va_A ws sz) := by
  refine x_wrap (N := m_L_set) (N2 := m_X8_set) (C := ev_cc G d w) (pc := 7) (As := [.int x0, .int x1, .int x2]) (st := [.int (nI 0), .ref oo]) (K' := xk 7 [.int x2, .int x1, .int x0, .ref b, .int (nI 0), .ref oo] 1 6 h) (name := eA) (pre := [⟨0, 12, 15, 13⟩]) (x := ⟨0, 12, 19, 15⟩) (suf := []) (by decide +kernel) rfl hcw met_cc metW_cc ?_ (fun r x q => q) (fun pc' st' c' z' h' q => ?_) dL_set_7 cv_L_7 hb rfl hM (by show 8 + (5 + 11) + w2 ≤ w; omega) rfl rfl (fun y hy => by rw [List.mem_singleton] at hy; subst hy; exact ⟨by decide, eI, ev_at 566 (by decide +kernel) rfl, fun U hU => hU.2⟩) (by decide) (by decide) (ev_at 567 (by decide +kernel) rfl) xb_A.2.2.1 (fun L q => ?_)
  · refine ev_aload (pc := 0) dL_set_0 rfl ?_
    refine ev_iconst (pc := 2) (v := nI 0) dL_set_2 (by decide) ?_
    refine ev_aload_n (pc := 3) dL_set_3 rfl ?_
    refine ev_iload_n (pc := 4) dL_set_4 rfl ?_
    refine ev_iload_n (pc := 5) dL_set_5 rfl ?_
    refine ev_iload_n (pc := 6) dL_set_6 rfl ?_
    exact ev_stop ⟨rfl, rfl⟩
  · obtain ⟨e1, rfl⟩ := q
    cases e1
    exact ⟨rfl, rfl, rfl, rfl, rfl⟩
  · refine ev_astore (pc := 19) dL_set_19 rfl ?_
    refine ev_iconst (pc := 21) (v := nI 2) dL_set_21 (by decide) ?_
    exact ev_iret (pc := 22) dL_set_22 rfl rfl hpo
theorem xw_getI {oo : Nat} {fs : List Value} {post : Option Value → ev_H → Prop} (hpo : post (some (.int (nI 1))) h) (hb : h b = some (.inr (6, fs))) (hM : xM l G m_X8_get d w2 1 6 [.ref b, .int x0, .int x1] h eI) (hw2 : 22 + w2 ≤ w) (hcw : Cond.codeWith m_L_get.1 m_L_get.2.1 m_L_get.2.2.1 m_L_get.2.2.2 [(0, 10, 13, 13), (0, 10, 17, 15)] ∈ ev_ws) : ∀ (D : va_G) (ws : va_W) (tys : List (ClassId × FieldType)) (sz : Nat), ev_hr tys h ws → Met l m_L_get.1 (Cond.codeWith m_L_get.1 m_L_get.2.1 m_L_get.2.2.1 m_L_get.2.2.2 [(0, 10, 13, 13), (0, 10, 17, 15)] :: ev_ws) (ev_rm (d + 1) w 1 6) (ev_Pc D G ws tys sz [.ref b, .int x0, .int x1, .ref oo]) (ev_Qc D (va_A ws sz) (ev_ok post)) 1 6 (va_A ws sz) := by
  refine x_wrap (N := m_L_get) (N2 := m_X8_get) (C := ev_cc G d w) (pc := 5) (As := [.int x0, .int x1]) (st := [.int (nI 0), .ref oo]) (K' := xk 5 [.int x1, .int x0, .ref b, .int (nI 0), .ref oo] 1 6 h) (name := eI) (pre := []) (x := ⟨0, 10, 13, 13⟩) (suf := [⟨0, 10, 17, 15⟩]) (by decide +kernel) rfl hcw met_cc metW_cc ?_ (fun r x q => q) (fun pc' st' c' z' h' q => ?_) dL_get_5 cv_L_17 hb rfl hM (by show 8 + (3 + 11) + w2 ≤ w; omega) rfl rfl (fun y hy => nomatch hy) (by decide) (by decide) (ev_at 566 (by decide +kernel) rfl) xb_I.2.2.1 (fun L q => ?_)
  · refine ev_aload_n (pc := 0) dL_get_0 rfl ?_
    refine ev_iconst (pc := 1) (v := nI 0) dL_get_1 (by decide) ?_
    refine ev_aload_n (pc := 2) dL_get_2 rfl ?_
    refine ev_iload_n (pc := 3) dL_get_3 rfl ?_
    refine ev_iload_n (pc := 4) dL_get_4 rfl ?_
    exact ev_stop ⟨rfl, rfl⟩
  · obtain ⟨e1, rfl⟩ := q
    cases e1
    exact ⟨rfl, rfl, rfl, rfl, rfl⟩
  · refine ev_astore (pc := 13) dL_get_13 rfl ?_
    refine ev_iconst (pc := 15) (v := nI 1) dL_get_15 (by decide) ?_
    exact ev_iret (pc := 16) dL_get_16 rfl rfl hpo
theorem xw_getA {oo : Nat} {fs : List Value} {post : Option Value → ev_H → Prop} (hpo : post (some (.int (nI 2))) h) (hb : h b = some (.inr (6, fs))) (hM : xM l G m_X8_get d w2 1 6 [.ref b, .int x0, .int x1] h eA) (hw2 : 22 + w2 ≤ w) (hcw : Cond.codeWith m_L_get.1 m_L_get.2.1 m_L_get.2.2.1 m_L_get.2.2.2 [(0, 10, 13, 13), (0, 10, 17, 15)] ∈ ev_ws) : ∀ (D : va_G) (ws : va_W) (tys : List (ClassId × FieldType)) (sz : Nat), ev_hr tys h ws → Met l m_L_get.1 (Cond.codeWith m_L_get.1 m_L_get.2.1 m_L_get.2.2.1 m_L_get.2.2.2 [(0, 10, 13, 13), (0, 10, 17, 15)] :: ev_ws) (ev_rm (d + 1) w 1 6) (ev_Pc D G ws tys sz [.ref b, .int x0, .int x1, .ref oo]) (ev_Qc D (va_A ws sz) (ev_ok post)) 1 6 (va_A ws sz) := by
  refine x_wrap (N := m_L_get) (N2 := m_X8_get) (C := ev_cc G d w) (pc := 5) (As := [.int x0, .int x1]) (st := [.int (nI 0), .ref oo]) (K' := xk 5 [.int x1, .int x0, .ref b, .int (nI 0), .ref oo] 1 6 h) (name := eA) (pre := [⟨0, 10, 13, 13⟩]) (x := ⟨0, 10, 17, 15⟩) (suf := []) (by decide +kernel) rfl hcw met_cc metW_cc ?_ (fun r x q => q) (fun pc' st' c' z' h' q => ?_) dL_get_5 cv_L_17 hb rfl hM (by show 8 + (3 + 11) + w2 ≤ w; omega) rfl rfl (fun y hy => by rw [List.mem_singleton] at hy; subst hy; exact ⟨by decide, eI, ev_at 566 (by decide +kernel) rfl, fun U hU => hU.2⟩) (by decide) (by decide) (ev_at 567 (by decide +kernel) rfl) xb_A.2.2.1 (fun L q => ?_)
  · refine ev_aload_n (pc := 0) dL_get_0 rfl ?_
    refine ev_iconst (pc := 1) (v := nI 0) dL_get_1 (by decide) ?_
    refine ev_aload_n (pc := 2) dL_get_2 rfl ?_
    refine ev_iload_n (pc := 3) dL_get_3 rfl ?_
    refine ev_iload_n (pc := 4) dL_get_4 rfl ?_
    exact ev_stop ⟨rfl, rfl⟩
  · obtain ⟨e1, rfl⟩ := q
    cases e1
    exact ⟨rfl, rfl, rfl, rfl, rfl⟩
  · refine ev_astore (pc := 17) dL_get_17 rfl ?_
    refine ev_iconst (pc := 19) (v := nI 2) dL_get_19 (by decide) ?_
    exact ev_iret (pc := 20) dL_get_20 rfl rfl hpo
theorem xw_baseA {oo : Nat} {fs : List Value} {post : Option Value → ev_H → Prop} (hpo : post (some (.int (nI 1))) h) (hb : h b = some (.inr (6, fs))) (hM : xM l G m_X8_base d w2 1 6 [.ref b, .int x0, .int x1] h eA) (hw2 : 22 + w2 ≤ w) (hcw : Cond.codeWith m_L_base.1 m_L_base.2.1 m_L_base.2.2.1 m_L_base.2.2.2 [(0, 6, 9, 15)] ∈ ev_ws) : ∀ (D : va_G) (ws : va_W) (tys : List (ClassId × FieldType)) (sz : Nat), ev_hr tys h ws → Met l m_L_base.1 (Cond.codeWith m_L_base.1 m_L_base.2.1 m_L_base.2.2.1 m_L_base.2.2.2 [(0, 6, 9, 15)] :: ev_ws) (ev_rm (d + 1) w 1 6) (ev_Pc D G ws tys sz [.ref b, .int x0, .int x1]) (ev_Qc D (va_A ws sz) (ev_ok post)) 1 6 (va_A ws sz) := by
  refine x_wrap (N := m_L_base) (N2 := m_X8_base) (C := ev_cc G d w) (pc := 3) (As := [.int x0, .int x1]) (st := []) (K' := xk 3 [.int x1, .int x0, .ref b] 1 6 h) (name := eA) (pre := []) (x := ⟨0, 6, 9, 15⟩) (suf := []) (by decide +kernel) rfl hcw met_cc metW_cc ?_ (fun r x q => q) (fun pc' st' c' z' h' q => ?_) dL_base_3 cv_L_21 hb rfl hM (by show 8 + (3 + 11) + w2 ≤ w; omega) rfl rfl (fun y hy => nomatch hy) (by decide) (by decide) (ev_at 567 (by decide +kernel) rfl) xb_A.2.2.1 (fun L q => ?_)
  · refine ev_aload_n (pc := 0) dL_base_0 rfl ?_
    refine ev_iload_n (pc := 1) dL_base_1 rfl ?_
    refine ev_iload_n (pc := 2) dL_base_2 rfl ?_
    exact ev_stop ⟨rfl, rfl⟩
  · obtain ⟨e1, rfl⟩ := q
    cases e1
    exact ⟨rfl, rfl, rfl, rfl, rfl⟩
  · refine ev_astore_n (pc := 9) dL_base_9 rfl ?_
    refine ev_iconst (pc := 10) (v := nI 1) dL_base_10 (by decide) ?_
    exact ev_iret (pc := 11) dL_base_11 rfl rfl hpo
theorem xw_closeS {oo : Nat} {fs : List Value} {post : Option Value → ev_H → Prop} (hpo : post (some (.int (nI 1))) h) (hb : h b = some (.inr (6, fs))) (hM : xM l G m_X8_close d w2 1 6 [.ref b] h eS) (hw2 : 22 + w2 ≤ w) (hcw : Cond.codeWith m_L_close.1 m_L_close.2.1 m_L_close.2.2.1 m_L_close.2.2.2 [(0, 8, 11, 29)] ∈ ev_ws) : ∀ (D : va_G) (ws : va_W) (tys : List (ClassId × FieldType)) (sz : Nat), ev_hr tys h ws → Met l m_L_close.1 (Cond.codeWith m_L_close.1 m_L_close.2.1 m_L_close.2.2.1 m_L_close.2.2.2 [(0, 8, 11, 29)] :: ev_ws) (ev_rm (d + 1) w 1 6) (ev_Pc D G ws tys sz [.ref b, .ref oo]) (ev_Qc D (va_A ws sz) (ev_ok post)) 1 6 (va_A ws sz) := by
  refine x_wrap (N := m_L_close) (N2 := m_X8_close) (C := ev_cc G d w) (pc := 3) (As := []) (st := [.int (nI 0), .ref oo]) (K' := xk 3 [.ref b, .int (nI 0), .ref oo] 1 6 h) (name := eS) (pre := []) (x := ⟨0, 8, 11, 29⟩) (suf := []) (by decide +kernel) rfl hcw met_cc metW_cc ?_ (fun r x q => q) (fun pc' st' c' z' h' q => ?_) dL_close_3 cv_L_25 hb rfl hM (by show 8 + (3 + 11) + w2 ≤ w; omega) rfl rfl (fun y hy => nomatch hy) (by decide) (by decide) (ev_at 681 (by decide +kernel) rfl) xb_S.2.2.1 (fun L q => ?_)
  · refine ev_aload_n (pc := 0) dL_close_0 rfl ?_
    refine ev_iconst (pc := 1) (v := nI 0) dL_close_1 (by decide) ?_
    refine ev_aload_n (pc := 2) dL_close_2 rfl ?_
    exact ev_stop ⟨rfl, rfl⟩
  · obtain ⟨e1, rfl⟩ := q
    cases e1
    exact ⟨rfl, rfl, rfl, rfl, rfl⟩
  · refine ev_astore_n (pc := 11) dL_close_11 rfl ?_
    refine ev_iconst (pc := 12) (v := nI 1) dL_close_12 (by decide) ?_
    exact ev_iret (pc := 13) dL_close_13 rfl rfl hpo
end EXD
