/-! IndexBureau: print -/
section PRT
variable {G : ev_G} {w : Nat} {H h1 : ev_H} {bp : Nat → Nat} {lay : Nat → Nat × Nat} {val : Nat → Nat} {i j k dd s : Nat} {sa sb ga : Nat → Nat} {P Pb : Nat → Nat → Nat} {fu fd fub fdb : Nat → Nat} {mem memb : Nat} {dn ba sd : Nat} {tc len : Nat} {f : Nat → Nat}
/-- what is printed -/
def pq (P : Nat → Nat → Nat) (fu fd : Nat → Nat) (mem D1 D2 : Nat) (x0 x1 : Int32) (a b : Nat) : Prop :=
  (x0 = nI 0 ∧ a = (su P fu fd mem 8).1 * D2 / Nat.gcd ((su P fu fd mem 8).1 * D2) ((su P fu fd mem 8).2 * D1) ∧ b = (su P fu fd mem 8).2 * D1 / Nat.gcd ((su P fu fd mem 8).1 * D2) ((su P fu fd mem 8).2 * D1)) ∨ (x0 = nI 1 ∧ a = D1 ∧ b = D2) ∨ (x0 = nI 2 ∧ ∃ s, s < 8 ∧ x1 = nI s ∧ a = fu s ∧ b = fd s)
def pk (ba : Nat) (x0 x1 : Int32) : Prop := ba = 1 ∧ (x0 = nI 0 ∨ x0 = nI 1 ∨ (x0 = nI 2 ∧ ri x1 0 7))
/-- what print leaves -/
def prp (H : ev_H) (bp : Nat → Nat) (lay : Nat → Nat × Nat) (tc : Nat) (val : Nat → Nat) (a b : Nat) (r : Option Value) (h1 : ev_H) : Prop := ∃ n f1 v1, r = some (.int (nI n)) ∧ wrt a b f1 n ∧ n ≤ 640 ∧ DW h1 (bp 4) lay v1 ∧ (∀ x, 9 ≤ x → x ≠ 17 → x ≠ 18 → x ≠ 19 → v1 x = val x) ∧ TX h1 (bp 5) tc (lay 19).1 f1 n ∧ TWF lay (bp 5) tc H h1
theorem bq_tw {T : Nat} {rq : Nat} (hS : WS H lay val) (hT : TX H T tc rq f len) (hF : TWF lay T tc H h1) (h : BQ H bp lay dn ba sd) : BQ h1 bp lay dn ba sd := ⟨(hF _ (ne_of h.1 hT.1 (fun q => by cases q)) (ne_of h.1 hT.2.1 (fun q => by cases q)) (ws_out hS h.1 (fun fs e => by cases e) (fun f e => by cases e))).trans h.1, fun i hi => (hF _ (ne_of (h.2 i hi) hT.1 (fun q => by cases q)) (ne_of (h.2 i hi) hT.2.1 (fun q => by cases q)) (ws_out hS (h.2 i hi) (fun fs e => by cases e) (fun f e => by cases e))).trans (h.2 i hi)⟩
theorem k_print {x0 x1 : Int32} (hd : 8 ≤ dd) (hw : 180 ≤ w) (h : DW H (bp 4) lay val) (hB : BQ H bp lay dn ba sd) (hb : ba ≤ 1) (hS : SH H (bp 1) sa P fu fd mem) (hT : TX H (bp 5) tc (lay 19).1 f len) (hP : P_ok P) (hf : f_ok fu fd) (hfb : f_b fd) (hm : mem < 256) (hm0 : ba = 1 → mem ≠ 0) (w9 : ba = 1 → 0 < val 9) (w10 : ba = 1 → 0 < val 10) (v9 : val 9 < 2 ^ 512) (v10 : val 10 < 2 ^ 512) : ev_Ca G dd w m_X8_print [.ref (bp 0), .int x0, .int x1] H 0 0 (ev_ok (fun r h1 => (pk ba x0 x1 ∧ ∃ a b, pq P fu fd mem (val 9) (val 10) x0 x1 a b ∧ prp H bp lay tc val a b r h1) ∨ (¬ pk ba x0 x1 ∧ r = some (.int (-1)) ∧ h1 = H))) := by
  obtain ⟨dd, rfl⟩ : ∃ e, dd = e + 1 := ⟨dd - 1, by omega⟩
  refine ⟨by decide +kernel, rfl, ?_⟩
  obtain ⟨z1, z2⟩ := su_b8 (mem := mem) hP hf (Nat.le_refl 8)
  have fin : ∀ (hh : ev_H) (vv : Nat → Nat) (a b Q Q2 : Nat), pk ba x0 x1 → pq P fu fd mem (val 9) (val 10) x0 x1 a b → DW hh (bp 4) lay vv → WF lay H hh → (∀ x, 9 ≤ x → x ≠ 17 → x ≠ 18 → vv x = val x) → vv 17 = a → vv 18 = b → 0 < a → 0 < b → a < 10 ^ (9 * Q) → b < 10 ^ (9 * Q2) → 9 * Q + 1 + 9 * Q2 ≤ 640 → ev_J G (ev_cc G dd w) w m_X8_print (ev_ok (fun r h1 => (pk ba x0 x1 ∧ ∃ a b, pq P fu fd mem (val 9) (val 10) x0 x1 a b ∧ prp H bp lay tc val a b r h1) ∨ (¬ pk ba x0 x1 ∧ r = some (.int (-1)) ∧ h1 = H))) (116, ev_lf [(0, .ref (bp 0))], [], hh, 0, 0) := by
    intro hh vv a b Q Q2 hpk hpq h2 F2 ev2 e17 e18 a0 b0 aQ bQ hQ
    subst e17
    subst e18
    have hB2 := bq_wf h.2.1 F2 hB
    have hT2 := tx_wf h.2.1 F2 hT
    refine ev_aload_n (pc := 116) dX8_print_116 rfl ?_
    refine ev_getf (pc := 117) dX8_print_117 f_X8_36 hB2.1 rfl ?_
    refine ev_aload_n (pc := 120) dX8_print_120 rfl ?_
    refine ev_getf (pc := 121) dX8_print_121 f_X8_56 hB2.1 rfl ?_
    refine ev_callV (pc := 124) (As := [.ref (bp 10)]) dX8_print_124 cv_X8_203 rfl rfl hT2.1 rfl ⟨by show 19 + 2 ≤ w; omega, show ev_Ca _ _ (w - 21) _ _ _ _ _ _ from k_write (u := 17) (by omega) (by omega) h2 hT2 (hB2.2 4 (by decide)) (by omega) a0 aQ b0 bQ hQ⟩ rfl rfl (fun r h1 hp => ?_)
    obtain ⟨rfl, n, f1, v3, g1, g2, h3, ev3, hT3, F3⟩ := hp
    have hB3 := bq_tw h2.2.1 hT2 F3 hB2
    refine ev_aload_n (pc := 127) dX8_print_127 rfl ?_
    refine ev_getf (pc := 128) dX8_print_128 f_X8_36 hB3.1 rfl ?_
    refine ev_getf (pc := 131) dX8_print_131 f_X8_206 hT3.1 rfl ?_
    exact ev_iret (pc := 134) dX8_print_134 rfl rfl (Or.inl ⟨hpk, _, _, hpq, n, f1, v3, rfl, g1, g2, h3, fun x a1 a2 a3 a4 => (ev3 x a4).trans (ev2 x a1 a2 a3), hT3, F2.tw.tr F3⟩)
  have body : pk ba x0 x1 → ev_J G (ev_cc G dd w) w m_X8_print (ev_ok (fun r h1 => (pk ba x0 x1 ∧ ∃ a b, pq P fu fd mem (val 9) (val 10) x0 x1 a b ∧ prp H bp lay tc val a b r h1) ∨ (¬ pk ba x0 x1 ∧ r = some (.int (-1)) ∧ h1 = H))) (40, ev_lf [(0, .ref (bp 0)), (1, .int x0), (2, .int x1)], [], H, 0, 0) := by
    intro hpk
    have w9 := w9 hpk.1
    have w10 := w10 hpk.1
    refine ev_iload_n (pc := 40) dX8_print_40 rfl ?_
    refine ev_if_ne (pc := 41) (tgt := 72) dX8_print_41 (by decide) (fun c1 => ?_) (fun c1 => ?_)
    · refine ev_iload_n (pc := 72) dX8_print_72 rfl ?_
      refine ev_iconst (pc := 73) (v := nI 1) dX8_print_73 (by decide) ?_
      refine ev_icmp_ne (pc := 74) (tgt := 91) dX8_print_74 (by decide) (fun c2 => ?_) (fun c2 => ?_)
      · have c3 : x0 = nI 2 ∧ ri x1 0 7 := by
          rcases hpk.2 with q | q | q
          · exact absurd q c1
          · exact absurd q c2
          · exact q
        obtain ⟨rfl, q⟩ := c3
        obtain ⟨s, rfl, s1, s2⟩ := ri_nI (x := x1) (lo := 0) (hi := 7) q (by decide)
        have hfs := hf s (by omega)
        refine ev_aload_n (pc := 91) dX8_print_91 rfl ?_
        refine ev_getf (pc := 92) dX8_print_92 f_X8_56 hB.1 rfl ?_
        refine ev_aload_n (pc := 95) dX8_print_95 rfl ?_
        refine ev_getf (pc := 96) dX8_print_96 f_X8_10 hB.1 rfl ?_
        refine ev_getf (pc := 99) dX8_print_99 f_X8_193 hS.1 rfl ?_
        refine ev_iload_n (pc := 102) dX8_print_102 rfl ?_
        refine ev_laN (pc := 103) dX8_print_103 hS.2.2.2.1 (by omega) (by decide) ?_
        refine ev_aload_n (pc := 104) dX8_print_104 rfl ?_
        refine ev_getf (pc := 105) dX8_print_105 f_X8_10 hB.1 rfl ?_
        refine ev_getf (pc := 108) dX8_print_108 f_X8_196 hS.1 rfl ?_
        refine ev_iload_n (pc := 111) dX8_print_111 rfl ?_
        refine ev_laN (pc := 112) dX8_print_112 hS.2.2.2.2 (by omega) (by decide) ?_
        refine ev_callV (pc := 113) (As := [.long (lN (fu s)), .long (lN (fd s))]) dX8_print_113 cv_X8_199 rfl rfl (hB.2 4 (by decide)) rfl ⟨by show 19 + 5 ≤ w; omega, show ev_Ca _ _ (w - 24) _ _ _ _ _ _ from k_fbecome (u := 17) (by omega) (by omega) h (hB.2 4 (by decide)) (by omega) hfs.1.2 hfs.2.2⟩ rfl rfl (fun r h1 hp => ?_)
        obtain ⟨rfl, v2, h2, ⟨p1, p2, p3⟩, F2⟩ := hp
        refine ev_vs [(0, .ref (bp 0))] ⟨rfl, trivial⟩ ?_
        exact fin _ v2 (fu s) (fd s) 3 3 hpk (Or.inr (Or.inr ⟨rfl, s, by omega, rfl, rfl, rfl⟩)) h2 F2 (fun x _ a2 a3 => p3 x a2 a3) p1 p2 hfs.1.1 hfs.2.1 (Nat.lt_trans hfs.1.2 (by decide +kernel)) (Nat.lt_trans hfs.2.2 (by decide +kernel)) (by decide)
      · subst c2
        refine ev_aload_n (pc := 77) dX8_print_77 rfl ?_
        refine ev_getf (pc := 78) dX8_print_78 f_X8_56 hB.1 rfl ?_
        refine ev_aload_n (pc := 81) dX8_print_81 rfl ?_
        refine ev_getf (pc := 82) dX8_print_82 f_X8_43 hB.1 rfl ?_
        refine ev_callV (pc := 85) (As := [.ref (bp 6)]) dX8_print_85 cv_X8_189 rfl rfl (hB.2 4 (by decide)) rfl ⟨by show 19 + 2 ≤ w; omega, show ev_Ca _ _ (w - 21) _ _ _ _ _ _ from k_fcopy (u := 17) (v := 9) (by omega) (by omega) h (hB.2 4 (by decide)) (hB.2 0 (by decide)) (by omega) (by omega) (by omega)⟩ rfl rfl (fun r h1 hp => ?_)
        obtain ⟨rfl, v2, h2, ⟨p1, p2, p3⟩, F2⟩ := hp
        refine ev_goto (pc := 88) (tgt := 116) dX8_print_88 (by decide) ?_
        refine ev_vs [(0, .ref (bp 0))] ⟨rfl, trivial⟩ ?_
        exact fin _ v2 (val 9) (val 10) 18 18 hpk (Or.inr (Or.inl ⟨rfl, rfl, rfl⟩)) h2 F2 (fun x _ a2 a3 => p3 x a2 a3) p1 p2 w9 w10 (Nat.lt_trans v9 (by decide +kernel)) (Nat.lt_trans v10 (by decide +kernel)) (by decide)
    · have c1' : x0 = nI 0 := c1
      subst c1'
      obtain ⟨d1, d2⟩ := su_d8 (mem := mem) hP hf hfb v9 v10
      obtain ⟨y1, y2⟩ := su_p8 hP hf hm (hm0 hpk.1)
      have n1 : (su P fu fd mem 8).1 * val 10 < 2 ^ (571 + 512) := p2_mul z1 v10
      have n2 : (su P fu fd mem 8).2 * val 9 < 2 ^ (505 + 512) := p2_mul z2 v9
      have m1 := Nat.mul_pos y1 w10
      have m2 := Nat.mul_pos y2 w9
      refine ev_aload_n (pc := 44) dX8_print_44 rfl ?_
      refine ev_callV (pc := 45) (As := []) dX8_print_45 cv_X8_186 rfl rfl hB.1 rfl ⟨by show 19 + 1 ≤ w; omega, show ev_Ca _ _ (w - 20) _ _ _ _ _ _ from k_exactLevel (by omega) (by omega) h hB hS hP hf hm v9 v10⟩ rfl rfl (fun r h1 hp => ?_)
      obtain ⟨rfl, v2, h2, ⟨p1, p2, p3⟩, F2⟩ := hp
      have hB2 := bq_wf h.2.1 F2 hB
      refine ev_aload_n (pc := 48) dX8_print_48 rfl ?_
      refine ev_getf (pc := 49) dX8_print_49 f_X8_29 hB2.1 rfl ?_
      refine ev_aload_n (pc := 52) dX8_print_52 rfl ?_
      refine ev_getf (pc := 53) dX8_print_53 f_X8_56 hB2.1 rfl ?_
      refine ev_getf (pc := 56) dX8_print_56 f_X8_112 (hB2.2 4 (by decide)) rfl ?_
      refine ev_aload_n (pc := 59) dX8_print_59 rfl ?_
      refine ev_getf (pc := 60) dX8_print_60 f_X8_56 hB2.1 rfl ?_
      refine ev_getf (pc := 63) dX8_print_63 f_X8_104 (hB2.2 4 (by decide)) rfl ?_
      refine ev_callV (pc := 66) (As := [.ref (lay 17).1, .ref (lay 18).1]) dX8_print_66 cv_X8_115 rfl rfl h2.2.2 rfl ⟨by show 19 + 7 ≤ w; omega, show ev_Ca _ _ (w - 26) _ _ _ _ _ _ from k_cancel (i := 17) (j := 18) (by omega) (by omega) h2 (by omega) (by omega) (by omega) (by omega) (by omega) (by rw [p2_70, p1]; exact p2_le (by decide) n1) (by rw [p2_70, p2]; exact p2_le (by decide) n2)⟩ rfl rfl (fun r h1 hp => ?_)
      obtain ⟨rfl, v3, h3, ⟨a1, a2, a3⟩, F3⟩ := hp
      rw [p1, p2] at a1 a2
      have g0 : 0 < Nat.gcd ((su P fu fd mem 8).1 * val 10) ((su P fu fd mem 8).2 * val 9) := Nat.gcd_pos_of_pos_left _ m1
      refine ev_goto (pc := 69) (tgt := 116) dX8_print_69 (by decide) ?_
      refine ev_vs [(0, .ref (bp 0))] ⟨rfl, trivial⟩ ?_
      exact fin _ v3 _ _ 36 34 hpk (Or.inl ⟨rfl, rfl, rfl⟩) h3 (F2.tr F3) (fun x b1 b2 b3 => (a3 x b1 b2 b3).trans (p3 x b1 b2 b3)) a1 a2 (Nat.div_pos (Nat.le_of_dvd m1 (Nat.gcd_dvd_left _ _)) g0) (Nat.div_pos (Nat.le_of_dvd m2 (Nat.gcd_dvd_right _ _)) g0) (Nat.lt_of_le_of_lt (Nat.div_le_self _ _) d1) (Nat.lt_of_le_of_lt (Nat.div_le_self _ _) d2) (by decide)
  have tail : ∀ kn, (kn = 1 ∧ (x0 = nI 0 ∨ x0 = nI 1 ∨ (x0 = nI 2 ∧ ri x1 0 7))) ∨ (kn = 0 ∧ ¬ (x0 = nI 0 ∨ x0 = nI 1 ∨ (x0 = nI 2 ∧ ri x1 0 7))) → ev_J G (ev_cc G dd w) w m_X8_print (ev_ok (fun r h1 => (pk ba x0 x1 ∧ ∃ a b, pq P fu fd mem (val 9) (val 10) x0 x1 a b ∧ prp H bp lay tc val a b r h1) ∨ (¬ pk ba x0 x1 ∧ r = some (.int (-1)) ∧ h1 = H))) (26, ev_lf [(0, .ref (bp 0)), (1, .int x0), (2, .int x1)], [.int (nI kn)], H, 0, 0) := by
    intro kn hkn
    have hk1 : kn ≤ 1 := by rcases hkn with q | q <;> omega
    refine ev_istore_n (pc := 26) dX8_print_26 rfl ?_
    refine ev_aload_n (pc := 27) dX8_print_27 rfl ?_
    refine ev_getf (pc := 28) dX8_print_28 f_X8_67 hB.1 rfl ?_
    refine ev_if_eqN (pc := 31) (tgt := 38) dX8_print_31 (by decide) (by omega) (fun c1 => ?_) (fun c1 => ?_)
    · refine ev_iconst (pc := 38) (v := -1) dX8_print_38 (by decide) ?_
      exact ev_iret (pc := 39) dX8_print_39 rfl rfl (Or.inr ⟨fun q => by have := q.1; omega, rfl, rfl⟩)
    · refine ev_iload_n (pc := 34) dX8_print_34 rfl ?_
      refine ev_if_neN (pc := 35) (tgt := 40) dX8_print_35 (by decide) (by omega) (fun c2 => ?_) (fun c2 => ?_)
      · refine ev_vs [(0, .ref (bp 0)), (1, .int x0), (2, .int x1)] ⟨rfl, rfl, rfl, trivial⟩ ?_
        refine body ⟨by omega, ?_⟩
        rcases hkn with q | q
        · exact q.2
        · omega
      · refine ev_iconst (pc := 38) (v := -1) dX8_print_38 (by decide) ?_
        refine ev_iret (pc := 39) dX8_print_39 rfl rfl (Or.inr ⟨fun q => ?_, rfl, rfl⟩)
        rcases hkn with r | r
        · omega
        · exact r.2 q.2
  refine ev_iload_n (pc := 0) dX8_print_0 rfl ?_
  refine ev_if_eq (pc := 1) (tgt := 21) dX8_print_1 (by decide) (fun c1 => ?_) (fun c1 => ?_)
  · refine ev_iconst (pc := 21) (v := nI 1) dX8_print_21 (by decide) ?_
    refine ev_goto (pc := 22) (tgt := 26) dX8_print_22 (by decide) ?_
    refine ev_vs [(0, .ref (bp 0)), (1, .int x0), (2, .int x1)] ⟨rfl, rfl, rfl, trivial⟩ ?_
    exact tail 1 (Or.inl ⟨rfl, Or.inl c1⟩)
  · refine ev_iload_n (pc := 4) dX8_print_4 rfl ?_
    refine ev_iconst (pc := 5) (v := nI 1) dX8_print_5 (by decide) ?_
    refine ev_icmp_eq (pc := 6) (tgt := 21) dX8_print_6 (by decide) (fun c2 => ?_) (fun c2 => ?_)
    · refine ev_iconst (pc := 21) (v := nI 1) dX8_print_21 (by decide) ?_
      refine ev_goto (pc := 22) (tgt := 26) dX8_print_22 (by decide) ?_
      refine ev_vs [(0, .ref (bp 0)), (1, .int x0), (2, .int x1)] ⟨rfl, rfl, rfl, trivial⟩ ?_
      exact tail 1 (Or.inl ⟨rfl, Or.inr (Or.inl c2)⟩)
    · refine ev_iload_n (pc := 9) dX8_print_9 rfl ?_
      refine ev_iconst (pc := 10) (v := nI 2) dX8_print_10 (by decide) ?_
      refine ev_icmp_ne (pc := 11) (tgt := 25) dX8_print_11 (by decide) (fun c3 => ?_) (fun c3 => ?_)
      · refine ev_iconst (pc := 25) (v := nI 0) dX8_print_25 (by decide) ?_
        refine ev_vs [(0, .ref (bp 0)), (1, .int x0), (2, .int x1)] ⟨rfl, rfl, rfl, trivial⟩ ?_
        refine tail 0 (Or.inr ⟨rfl, fun q => ?_⟩)
        rcases q with q | q | q
        · exact c1 q
        · exact c2 q
        · exact c3 q.1
      · have c3' : x0 = nI 2 := c3
        refine ev_iload_n (pc := 14) dX8_print_14 rfl ?_
        refine ev_callS (pc := 15) (As := [.int x1]) dX8_print_15 cs_X8_124 rfl rfl ⟨by show 19 + 1 ≤ w; omega, show ev_Ca _ _ (w - 20) _ _ _ _ _ _ from k_has (by omega)⟩ rfl rfl (fun r h1 hp => ?_)
        obtain ⟨rfl, hH⟩ := hp
        rw [hH]
        clear hH h1
        rcases rb_2 x1 0 7 with ⟨e, q⟩ | ⟨e, q⟩
        · rw [e]
          refine ev_if_eqN (pc := 18) (tgt := 25) dX8_print_18 (by decide) (by decide) (fun q => absurd q (by decide)) (fun _ => ?_)
          refine ev_iconst (pc := 21) (v := nI 1) dX8_print_21 (by decide) ?_
          refine ev_goto (pc := 22) (tgt := 26) dX8_print_22 (by decide) ?_
          refine ev_vs [(0, .ref (bp 0)), (1, .int x0), (2, .int x1)] ⟨rfl, rfl, rfl, trivial⟩ ?_
          exact tail 1 (Or.inl ⟨rfl, Or.inr (Or.inr ⟨c3', q⟩)⟩)
        · rw [e]
          refine ev_if_eqN (pc := 18) (tgt := 25) dX8_print_18 (by decide) (by decide) (fun _ => ?_) (fun q => absurd q (by decide))
          refine ev_iconst (pc := 25) (v := nI 0) dX8_print_25 (by decide) ?_
          refine ev_vs [(0, .ref (bp 0)), (1, .int x0), (2, .int x1)] ⟨rfl, rfl, rfl, trivial⟩ ?_
          refine tail 0 (Or.inr ⟨rfl, fun r => ?_⟩)
          rcases r with r | r | r
          · exact c1 r
          · exact c2 r
          · exact q r.2
end PRT
