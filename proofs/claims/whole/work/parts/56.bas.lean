/-! IndexBureau: set, get, base, where they do not refuse -/
theorem su_one {P : Nat → Nat → Nat} {fu fd : Nat → Nat} {mem : Nat} (hP : P_ok P) (hf : ∀ j, j < 8 → fu j = 1 ∧ fd j = 1) : ∀ k, k ≤ 8 → (su P fu fd mem k).2 = 1 ∧ (su P fu fd mem k).1 ≤ k * 10000000000000000
  | 0, _ => ⟨rfl, Nat.zero_le _⟩
  | k + 1, hk => by
    obtain ⟨h1, h2⟩ := su_one (mem := mem) hP hf k (by omega)
    obtain ⟨f1, f2⟩ := hf k (by omega)
    have hpw := (pw_b hP (show k < 8 by omega)).2
    unfold su
    split
    · rw [f1, f2, Nat.gcd_one_right, h1, Nat.div_one, Nat.div_one, Nat.mul_one, Nat.mul_one, Nat.mul_one]
      exact ⟨rfl, by show _ + pw P k ≤ _; rw [Nat.add_mul]; omega⟩
    · exact ⟨h1, Nat.le_trans h2 (Nat.mul_le_mul_right _ (by omega))⟩
section BAS
variable {G : ev_G} {w : Nat} {H h1 : ev_H} {bp : Nat → Nat} {lay : Nat → Nat × Nat} {val : Nat → Nat} {i j k dd s : Nat} {sa sb ga : Nat → Nat} {P Pb : Nat → Nat → Nat} {fu fd fub fdb : Nat → Nat} {mem memb : Nat} {dn ba sd : Nat} {R : Nat → Nat → Int32} {wa ar : Nat} {S D A : Nat} {lv : Nat → Nat}
theorem k_refuse (hd : 2 ≤ dd) (hw : 30 ≤ w) (hs : s < 8) (hk : k < 3) : ev_Ca G dd w m_X8_refuseUnknown [.int (nI s), .int (nI k)] H 0 0 (ev_ok (fun r h1 => r = none ∧ h1 = H)) := by
  obtain ⟨dd, rfl⟩ : ∃ e, dd = e + 1 := ⟨dd - 1, by omega⟩
  refine ⟨by decide +kernel, rfl, ?_⟩
  refine ev_iload_n (pc := 0) dX8_refuseUnknown_0 rfl ?_
  refine ev_callS (pc := 1) (As := [.int (nI s)]) dX8_refuseUnknown_1 cs_X8_124 rfl rfl ⟨by show 19 + 1 ≤ w; omega, show ev_Ca _ _ (w - 20) _ _ _ _ _ _ from k_has (by omega)⟩ rfl rfl (fun r h1 hp => ?_)
  obtain ⟨rfl, hH⟩ := hp
  have e7 : rb (nI s) 0 7 = 1 := rb_1 ((nI_ri (lo := 0) (hi := 7) (by omega)).mpr ⟨by omega, by omega⟩)
  rw [hH, e7]
  clear hH h1
  refine ev_if_neN (pc := 4) (tgt := 15) dX8_refuseUnknown_4 (by decide) (by decide) (fun _ => ?_) (fun q => absurd q (by decide))
  refine ev_iload_n (pc := 15) dX8_refuseUnknown_15 rfl ?_
  refine ev_if_ltN (pc := 16) (tgt := 24) dX8_refuseUnknown_16 (by decide) (by omega) ?_
  refine ev_iload_n (pc := 19) dX8_refuseUnknown_19 rfl ?_
  refine ev_iconst (pc := 20) (v := nI 3) dX8_refuseUnknown_20 (by decide) ?_
  refine ev_icmp_ltN (pc := 21) (tgt := 32) dX8_refuseUnknown_21 (by decide) (by omega) (by omega) (fun c1 => ?_) (fun c1 => ?_)
  · exact ev_vret (pc := 32) dX8_refuseUnknown_32 rfl ⟨rfl, rfl⟩
  · omega
theorem k_get (hd : 3 ≤ dd) (hw : 60 ≤ w) (hB : BQ H bp lay dn ba sd) (hS : SH H (bp 1) sa P fu fd mem) (hs : s < 8) (hk : k < 3) : ev_Ca G dd w m_X8_get [.ref (bp 0), .int (nI s), .int (nI k)] H 0 0 (ev_ok (fun r h1 => r = some (.int (nI (P k s))) ∧ h1 = H)) := by
  obtain ⟨dd, rfl⟩ : ∃ e, dd = e + 1 := ⟨dd - 1, by omega⟩
  refine ⟨by decide +kernel, rfl, ?_⟩
  refine ev_iload_n (pc := 0) dX8_get_0 rfl ?_
  refine ev_iload_n (pc := 1) dX8_get_1 rfl ?_
  refine ev_callS (pc := 2) (As := [.int (nI s), .int (nI k)]) dX8_get_2 cs_X8_74 rfl rfl ⟨by show 19 + 2 ≤ w; omega, show ev_Ca _ _ (w - 21) _ _ _ _ _ _ from k_refuse (by omega) (by omega) hs hk⟩ rfl rfl (fun r h1 hp => ?_)
  obtain ⟨rfl, hH⟩ := hp
  rw [hH]
  clear hH h1
  refine ev_aload_n (pc := 5) dX8_get_5 rfl ?_
  refine ev_getf (pc := 6) dX8_get_6 f_X8_10 hB.1 rfl ?_
  refine ev_getf (pc := 9) dX8_get_9 f_X8_86 hS.1 rfl ?_
  refine ev_iload_n (pc := 12) dX8_get_12 rfl ?_
  refine sh_row (pc := 13) dX8_get_13 hS (by omega) ?_
  refine ev_iload_n (pc := 14) dX8_get_14 rfl ?_
  refine ev_iaN (pc := 15) dX8_get_15 (hS.2.2.1 k hk) (by omega) (by omega) ?_
  exact ev_iret (pc := 16) dX8_get_16 rfl rfl ⟨rfl, rfl⟩
theorem k_set {v : Int32} (hd : 3 ≤ dd) (hw : 60 ≤ w) (hG : G_ok G) (hB : BQ H bp lay dn ba sd) (hS : SH H (bp 1) sa P fu fd mem) (hD : SD sa) (hm : mem < 256) (hs : s < 8) (hk : k < 3) : ev_Ca G dd w m_X8_set [.ref (bp 0), .int (nI s), .int (nI k), .int v] H 0 0 (ev_ok (fun r h1 => ((¬ (k ≠ 0 ∧ mem / 2 ^ s % 2 = 1) ∧ ri v 1 (mo k)) ∧ r = some (.int (nI 0)) ∧ SH h1 (bp 1) sa (p_up P k s v.toInt.toNat) fu fd mem ∧ SF (bp 1) sa H h1) ∨ (¬ (¬ (k ≠ 0 ∧ mem / 2 ^ s % 2 = 1) ∧ ri v 1 (mo k)) ∧ r = some (.int (-1)) ∧ h1 = H))) := by
  obtain ⟨dd, rfl⟩ : ∃ e, dd = e + 1 := ⟨dd - 1, by omega⟩
  refine ⟨by decide +kernel, rfl, ?_⟩
  have hb2 : mem / 2 ^ s % 2 < 2 := Nat.mod_lt _ (by decide)
  have mb := mo_b k
  have no : ∀ {L}, ¬ (¬ (k ≠ 0 ∧ mem / 2 ^ s % 2 = 1) ∧ ri v 1 (mo k)) → ev_J G (ev_cc G dd w) w m_X8_set (ev_ok (fun r h1 => ((¬ (k ≠ 0 ∧ mem / 2 ^ s % 2 = 1) ∧ ri v 1 (mo k)) ∧ r = some (.int (nI 0)) ∧ SH h1 (bp 1) sa (p_up P k s v.toInt.toNat) fu fd mem ∧ SF (bp 1) sa H h1) ∨ (¬ (¬ (k ≠ 0 ∧ mem / 2 ^ s % 2 = 1) ∧ ri v 1 (mo k)) ∧ r = some (.int (-1)) ∧ h1 = H))) (41, L, [], H, 0, 0) := by
    intro L hn
    refine ev_iconst (pc := 41) (v := -1) dX8_set_41 (by decide) ?_
    exact ev_iret (pc := 42) dX8_set_42 rfl rfl (Or.inr ⟨hn, rfl, rfl⟩)
  have tail : ∀ fx, (fx = 1 ∧ (k ≠ 0 ∧ mem / 2 ^ s % 2 = 1)) ∨ (fx = 0 ∧ ¬ (k ≠ 0 ∧ mem / 2 ^ s % 2 = 1)) → ev_J G (ev_cc G dd w) w m_X8_set (ev_ok (fun r h1 => ((¬ (k ≠ 0 ∧ mem / 2 ^ s % 2 = 1) ∧ ri v 1 (mo k)) ∧ r = some (.int (nI 0)) ∧ SH h1 (bp 1) sa (p_up P k s v.toInt.toNat) fu fd mem ∧ SF (bp 1) sa H h1) ∨ (¬ (¬ (k ≠ 0 ∧ mem / 2 ^ s % 2 = 1) ∧ ri v 1 (mo k)) ∧ r = some (.int (-1)) ∧ h1 = H))) (25, ev_lf [(0, .ref (bp 0)), (1, .int (nI s)), (2, .int (nI k)), (3, .int v)], [.int (nI fx)], H, 0, 0) := by
    intro fx hfx
    have hf1 : fx ≤ 1 := by rcases hfx with q | q <;> omega
    refine ev_istore (pc := 25) dX8_set_25 rfl ?_
    refine ev_iload (pc := 27) dX8_set_27 rfl ?_
    refine ev_if_neN (pc := 29) (tgt := 41) dX8_set_29 (by decide) (by omega) (fun c1 => ?_) (fun c1 => ?_)
    · refine no (fun q => ?_)
      rcases hfx with r | r
      · exact q.1 r.2
      · omega
    · have nf : ¬ (k ≠ 0 ∧ mem / 2 ^ s % 2 = 1) := by
        rcases hfx with r | r
        · omega
        · exact r.2
      refine ev_iload_n (pc := 32) dX8_set_32 rfl ?_
      refine ev_iload_n (pc := 33) dX8_set_33 rfl ?_
      refine ev_i2l (pc := 34) dX8_set_34 ?_
      refine ev_callS (pc := 35) (As := [.int (nI k), .long v.toInt64]) dX8_set_35 cs_X8_82 rfl rfl ⟨by show 19 + 3 ≤ w; omega, show ev_Ca _ _ (w - 22) _ _ _ _ _ _ from k_fits (by omega) hG hk⟩ rfl rfl (fun r h1 hp => ?_)
      obtain ⟨rfl, hH⟩ := hp
      rw [hH]
      clear hH h1
      rcases fb_2 k v.toInt64 with ⟨e, q⟩ | ⟨e, q⟩
      · rw [e]
        rw [i2l_toInt] at q
        obtain ⟨n, rfl, n1, n2⟩ := ri_nI (x := v) (lo := 1) (hi := mo k) q (by omega)
        have en : (nI n).toInt.toNat = n := nI_tn (by omega)
        refine ev_if_neN (pc := 38) (tgt := 43) dX8_set_38 (by decide) (by decide) (fun _ => ?_) (fun q => absurd q (by decide))
        refine ev_aload_n (pc := 43) dX8_set_43 rfl ?_
        refine ev_getf (pc := 44) dX8_set_44 f_X8_10 hB.1 rfl ?_
        refine ev_getf (pc := 47) dX8_set_47 f_X8_86 hS.1 rfl ?_
        refine ev_iload_n (pc := 50) dX8_set_50 rfl ?_
        refine sh_row (pc := 51) dX8_set_51 hS (by omega) ?_
        refine ev_iload_n (pc := 52) dX8_set_52 rfl ?_
        refine ev_iload_n (pc := 53) dX8_set_53 rfl ?_
        refine ev_iast (pc := 54) dX8_set_54 (hS.2.2.1 k hk) (vp_in_nI hs (by decide)) ?_
        obtain ⟨h2, F2⟩ := sh_putP (k := k) (j := s) (x := n) hS hD hk hs
        refine ev_iconst (pc := 55) (v := nI 0) dX8_set_55 (by decide) ?_
        exact ev_iret (pc := 56) dX8_set_56 rfl rfl (Or.inl ⟨⟨nf, q⟩, rfl, by rw [en]; exact h2, F2⟩)
      · rw [e]
        rw [i2l_toInt] at q
        refine ev_if_neN (pc := 38) (tgt := 43) dX8_set_38 (by decide) (by decide) (fun q => absurd q (by decide)) (fun _ => ?_)
        exact no (fun r => q r.2)
  refine ev_iload_n (pc := 0) dX8_set_0 rfl ?_
  refine ev_iload_n (pc := 1) dX8_set_1 rfl ?_
  refine ev_callS (pc := 2) (As := [.int (nI s), .int (nI k)]) dX8_set_2 cs_X8_74 rfl rfl ⟨by show 19 + 2 ≤ w; omega, show ev_Ca _ _ (w - 21) _ _ _ _ _ _ from k_refuse (by omega) (by omega) hs hk⟩ rfl rfl (fun r h1 hp => ?_)
  obtain ⟨rfl, hH⟩ := hp
  rw [hH]
  clear hH h1
  refine ev_iload_n (pc := 5) dX8_set_5 rfl ?_
  refine ev_if_eqN (pc := 6) (tgt := 24) dX8_set_6 (by decide) (by omega) (fun c1 => ?_) (fun c1 => ?_)
  · refine ev_iconst (pc := 24) (v := nI 0) dX8_set_24 (by decide) ?_
    refine ev_vs [(0, .ref (bp 0)), (1, .int (nI s)), (2, .int (nI k)), (3, .int v)] ⟨rfl, rfl, rfl, rfl, trivial⟩ ?_
    exact tail 0 (Or.inr ⟨rfl, fun q => q.1 c1⟩)
  · refine ev_aload_n (pc := 9) dX8_set_9 rfl ?_
    refine ev_getf (pc := 10) dX8_set_10 f_X8_10 hB.1 rfl ?_
    refine ev_iload_n (pc := 13) dX8_set_13 rfl ?_
    refine ev_callV (pc := 14) (As := [.int (nI s)]) dX8_set_14 cv_X8_78 rfl rfl hS.1 rfl ⟨by show 19 + 2 ≤ w; omega, show ev_Ca _ _ (w - 21) _ _ _ _ _ _ from k_isMember (by omega) hS hm hs⟩ rfl rfl (fun r h1 hp => ?_)
    obtain ⟨rfl, hH⟩ := hp
    rw [hH]
    clear hH h1
    refine ev_if_eqN (pc := 17) (tgt := 24) dX8_set_17 (by decide) (by omega) (fun c2 => ?_) (fun c2 => ?_)
    · refine ev_iconst (pc := 24) (v := nI 0) dX8_set_24 (by decide) ?_
      refine ev_vs [(0, .ref (bp 0)), (1, .int (nI s)), (2, .int (nI k)), (3, .int v)] ⟨rfl, rfl, rfl, rfl, trivial⟩ ?_
      exact tail 0 (Or.inr ⟨rfl, fun q => by have := q.2; omega⟩)
    · refine ev_iconst (pc := 20) (v := nI 1) dX8_set_20 (by decide) ?_
      refine ev_goto (pc := 21) (tgt := 25) dX8_set_21 (by decide) ?_
      refine ev_vs [(0, .ref (bp 0)), (1, .int (nI s)), (2, .int (nI k)), (3, .int v)] ⟨rfl, rfl, rfl, rfl, trivial⟩ ?_
      exact tail 1 (Or.inl ⟨rfl, by omega, by omega⟩)
theorem k_base {m l : Nat} (hd : 7 ≤ dd) (hw : 160 ≤ w) (h : DW H (bp 4) lay val) (hB : BQ H bp lay dn ba sd) (hS : SH H (bp 1) sa P fu fd mem) (hD : SD sa) (hS2' : SH H (bp 2) sb Pb fub fdb memb) (hX1 : SX (bp 1) sa (bp 2) sb) (hA : AG H (bp 3) ga R wa ar) (hP : P_ok P) (hm : 1 ≤ m ∧ m ≤ 255) (hl : 1 ≤ l ∧ l ≤ 1000000) : ev_Ca G dd w m_X8_base [.ref (bp 0), .int (nI m), .int (nI l)] H 0 0 (ev_ok (fun r h1 => r = none ∧ ∃ fu1 fd1 v1, (∀ j, j < 8 → fu1 j = 1 ∧ fd1 j = 1) ∧ DW h1 (bp 4) lay v1 ∧ v1 9 = (su P fu1 fd1 m 8).1 / Nat.gcd (su P fu1 fd1 m 8).1 ((su P fu1 fd1 m 8).2 * l) ∧ v1 10 = (su P fu1 fd1 m 8).2 * l / Nat.gcd (su P fu1 fd1 m 8).1 ((su P fu1 fd1 m 8).2 * l) ∧ q_ok ((P, fu1, fd1, m), v1 9, v1 10) ∧ SH h1 (bp 1) sa P fu1 fd1 m ∧ AG h1 (bp 3) ga R 0 0 ∧ BQ h1 bp lay 0 1 1 ∧ SH h1 (bp 2) sb Pb fub fdb memb ∧ ∀ a x, H a = some x → cf x → a ≠ bp 0 → h1 a = some x)) := by
  obtain ⟨dd, rfl⟩ : ∃ e, dd = e + 1 := ⟨dd - 1, by omega⟩
  refine ⟨by decide +kernel, rfl, ?_⟩
  refine ev_iload_n (pc := 0) dX8_base_0 rfl ?_
  refine ev_iconst (pc := 1) (v := nI 1) dX8_base_1 (by decide) ?_
  refine ev_icmp_ltN (pc := 2) (tgt := 23) dX8_base_2 (by decide) (by omega) (by omega) (fun c1 => ?_) (fun c1 => ?_)
  · omega
  · refine ev_iload_n (pc := 5) dX8_base_5 rfl ?_
    refine ev_sipush (pc := 6) (v := nI 255) dX8_base_6 (by decide) ?_
    refine ev_icmp_gtN (pc := 9) (tgt := 23) dX8_base_9 (by decide) (by omega) (by omega) (fun c2 => ?_) (fun c2 => ?_)
    · omega
    · refine ev_iload_n (pc := 12) dX8_base_12 rfl ?_
      refine ev_iconst (pc := 13) (v := nI 1) dX8_base_13 (by decide) ?_
      refine ev_icmp_ltN (pc := 14) (tgt := 23) dX8_base_14 (by decide) (by omega) (by omega) (fun c3 => ?_) (fun c3 => ?_)
      · omega
      · refine ev_iload_n (pc := 17) dX8_base_17 rfl ?_
        refine ev_ldc (pc := 18) dX8_base_18 k_X8_90 ?_
        refine ev_icmp_leN (pc := 20) (tgt := 31) dX8_base_20 (by decide) (by omega) (by omega) (fun c4 => ?_) (fun c4 => ?_)
        · refine ev_aload_n (pc := 31) dX8_base_31 rfl ?_
          refine ev_getf (pc := 32) dX8_base_32 f_X8_10 hB.1 rfl ?_
          refine ev_iload_n (pc := 35) dX8_base_35 rfl ?_
          refine ev_putf (pc := 36) dX8_base_36 p_X8_94 hS.1 rfl rfl rfl ?_
          obtain ⟨hS2, F2⟩ := sh_putM (m := m) hS
          have K2 := F2.kf hS
          have h2 := dw_sf h hS F2
          have hT2 := sh_sf hX1 F2 hS2'
          have hB2 := bq_kf K2 hB
          have hA2 := ag_kf K2 hA
          refine ev_aload_n (pc := 39) dX8_base_39 rfl ?_
          refine ev_getf (pc := 40) dX8_base_40 f_X8_10 hB2.1 rfl ?_
          refine ev_callV (pc := 43) (As := []) dX8_base_43 cv_X8_97 rfl rfl hS2.1 rfl ⟨by show 19 + 1 ≤ w; omega, show ev_Ca _ _ (w - 20) _ _ _ _ _ _ from k_resetFactors (by omega) (by omega) hS2 hD⟩ rfl rfl (fun r h1 hp => ?_)
          obtain ⟨rfl, fu1, fd1, e1, e2, hS3, F3⟩ := hp
          have K3 := F3.kf hS2
          have h3 := dw_sf h2 hS2 F3
          have hT3 := sh_sf hX1 F3 hT2
          have hB3 := bq_kf K3 hB2
          have hA3 := ag_kf K3 hA2
          have hf : f_ok fu1 fd1 := fun j hj => by rw [e1 j hj, e2 j hj]; decide
          have hfb : f_b fd1 := fun j hj => by rw [e2 j hj]; decide
          obtain ⟨o1, o2⟩ := su_one (mem := m) hP (fun j hj => ⟨e1 j hj, e2 j hj⟩) 8 (Nat.le_refl 8)
          obtain ⟨y1, y2⟩ := su_p8 hP hf (show m < 256 by omega) (show m ≠ 0 by omega)
          refine ev_aload_n (pc := 46) dX8_base_46 rfl ?_
          refine ev_getf (pc := 47) dX8_base_47 f_X8_29 hB3.1 rfl ?_
          refine ev_aload_n (pc := 50) dX8_base_50 rfl ?_
          refine ev_getf (pc := 51) dX8_base_51 f_X8_10 hB3.1 rfl ?_
          refine ev_aload_n (pc := 54) dX8_base_54 rfl ?_
          refine ev_getf (pc := 55) dX8_base_55 f_X8_43 hB3.1 rfl ?_
          refine ev_callV (pc := 58) (As := [.ref (bp 1), .ref (bp 6)]) dX8_base_58 cv_X8_100 rfl rfl h3.2.2 rfl ⟨by show 19 + 4 ≤ w; omega, show ev_Ca _ _ (w - 23) _ _ _ _ _ _ from k_addUp (u := 9) (by omega) (by omega) h3 hS3 hP hf (by omega) (hB3.2 0 (by decide)) (by omega) (by omega)⟩ rfl rfl (fun r h1 hp => ?_)
          obtain ⟨rfl, v4, h4, ⟨p1, p2, p3⟩, F4⟩ := hp
          have K4 := WF.kf h3.2.1 F4
          have hB4 := bq_kf K4 hB3
          have hA4 := ag_kf K4 hA3
          have hS4 := sh_wf h3.2.1 F4 hS3
          have hT4 := sh_wf h3.2.1 F4 hT3
          generalize hW1 : (su P fu1 fd1 m 8).1 = W1 at *
          generalize hW2 : (su P fu1 fd1 m 8).2 = W2 at *
          refine ev_aload_n (pc := 61) dX8_base_61 rfl ?_
          refine ev_getf (pc := 62) dX8_base_62 f_X8_29 hB4.1 rfl ?_
          refine ev_aload_n (pc := 65) dX8_base_65 rfl ?_
          refine ev_getf (pc := 66) dX8_base_66 f_X8_43 hB4.1 rfl ?_
          refine ev_getf (pc := 69) dX8_base_69 f_X8_104 (hB4.2 0 (by decide)) rfl ?_
          refine ev_iload_n (pc := 72) dX8_base_72 rfl ?_
          refine ev_i2lN (pc := 73) dX8_base_73 (by omega) ?_
          refine ev_callV (pc := 74) (As := [.ref (lay 10).1, .long (lN l)]) dX8_base_74 cv_X8_108 rfl rfl h4.2.2 rfl ⟨by show 19 + 4 ≤ w; omega, show ev_Ca _ _ (w - 23) _ _ _ _ _ _ from k_scale (i := 10) (b := l) (by omega) (by omega) h4 (by omega) (by omega) (by omega) (by omega) (by rw [show v4 10 = W2 from p2, o1, Nat.one_mul, p2_71]; exact p2_le (show 20 ≤ 2130 by decide) (by omega))⟩ rfl rfl (fun r h1 hp => ?_)
          obtain ⟨rfl, v5, h5, ⟨q1, q2⟩, F5⟩ := hp
          have K5 := WF.kf h4.2.1 F5
          have hB5 := bq_kf K5 hB4
          have hA5 := ag_kf K5 hA4
          have hS5 := sh_wf h4.2.1 F5 hS4
          have hT5 := sh_wf h4.2.1 F5 hT4
          have f10 : v5 10 = W2 * l := by rw [q1, show v4 10 = W2 from p2]
          have f9 : v5 9 = W1 := (q2 9 (by omega) (by omega) (by omega)).trans p1
          have bw : W2 * l ≤ 1000000 := by rw [o1, Nat.one_mul]; exact hl.2
          have bw0 : 0 < W2 * l := Nat.mul_pos y2 (by omega)
          refine ev_aload_n (pc := 77) dX8_base_77 rfl ?_
          refine ev_getf (pc := 78) dX8_base_78 f_X8_29 hB5.1 rfl ?_
          refine ev_aload_n (pc := 81) dX8_base_81 rfl ?_
          refine ev_getf (pc := 82) dX8_base_82 f_X8_43 hB5.1 rfl ?_
          refine ev_getf (pc := 85) dX8_base_85 f_X8_112 (hB5.2 0 (by decide)) rfl ?_
          refine ev_aload_n (pc := 88) dX8_base_88 rfl ?_
          refine ev_getf (pc := 89) dX8_base_89 f_X8_43 hB5.1 rfl ?_
          refine ev_getf (pc := 92) dX8_base_92 f_X8_104 (hB5.2 0 (by decide)) rfl ?_
          refine ev_callV (pc := 95) (As := [.ref (lay 9).1, .ref (lay 10).1]) dX8_base_95 cv_X8_115 rfl rfl h5.2.2 rfl ⟨by show 19 + 7 ≤ w; omega, show ev_Ca _ _ (w - 26) _ _ _ _ _ _ from k_cancel (i := 9) (j := 10) (by omega) (by omega) h5 (by omega) (by omega) (by omega) (by omega) (by omega) (by rw [f9, p2_70]; exact p2_le (show 60 ≤ 2100 by decide) (by omega)) (by rw [f10, p2_70]; exact p2_le (show 60 ≤ 2100 by decide) (by omega))⟩ rfl rfl (fun r h1 hp => ?_)
          obtain ⟨rfl, v6, h6, ⟨r1, r2, r3⟩, F6⟩ := hp
          have K6 := WF.kf h5.2.1 F6
          have hB6 := bq_kf K6 hB5
          have hA6 := ag_kf K6 hA5
          have hS6 := sh_wf h5.2.1 F6 hS5
          have hT6 := sh_wf h5.2.1 F6 hT5
          rw [f9, f10] at r1 r2
          refine ev_aload_n (pc := 98) dX8_base_98 rfl ?_
          refine ev_getf (pc := 99) dX8_base_99 f_X8_22 hB6.1 rfl ?_
          refine ev_callV (pc := 102) (As := []) dX8_base_102 cv_X8_119 rfl rfl hA6.1 rfl ⟨by show 19 + 1 ≤ w; omega, show ev_Ca _ _ (w - 20) _ _ _ _ _ _ from k_forget (by omega) hA6⟩ rfl rfl (fun r h1 hp => ?_)
          obtain ⟨rfl, hA7, F7⟩ := hp
          have hB7 := bq_af hA6 F7 hB6
          have h7 := dw_af hA6 F7 h6
          have hS7 := sh_af hA6 F7 hS6
          have hT7 := sh_af hA6 F7 hT6
          have CC := (((((K2.tr K3).tr K4).tr K5).tr K6).cf).tr (AF.cf hA6 F7)
          have g0 : 0 < Nat.gcd W1 (W2 * l) := Nat.gcd_pos_of_pos_left _ y1
          have dvv : dv_ok (v6 9) (v6 10) := by
            rw [r1, r2]
            exact ⟨Nat.div_pos (Nat.le_of_dvd y1 (Nat.gcd_dvd_left _ _)) g0, Nat.div_pos (Nat.le_of_dvd bw0 (Nat.gcd_dvd_right _ _)) g0, Nat.lt_of_le_of_lt (Nat.div_le_self _ _) (p2_le (show 60 ≤ 512 by decide) (by omega)), Nat.lt_of_le_of_lt (Nat.div_le_self _ _) (p2_le (show 60 ≤ 512 by decide) (by omega)), Nat.coprime_div_gcd_div_gcd g0⟩
          refine ev_aload_n (pc := 105) dX8_base_105 rfl ?_
          refine ev_iconst (pc := 106) (v := nI 0) dX8_base_106 (by decide) ?_
          refine ev_putf (pc := 107) dX8_base_107 p_X8_63 hB7.1 rfl rfl rfl ?_
          have h8 := dw_up (y := .inr (6, (bf bp dn ba sd).set 11 (.int (nI 0)))) h7 hB7.1 (fun fs e => by cases e) (fun fs e => by cases e) (fun fs e => by cases e)
          have hS8 := sh_up1 (y := .inr (6, (bf bp dn ba sd).set 11 (.int (nI 0)))) hS7 hB7.1 (fun fs e => by cases e) (fun fs e => by cases e) (fun fs e => by cases e) (fun fs e => by cases e)
          have hT8 := sh_up1 (y := .inr (6, (bf bp dn ba sd).set 11 (.int (nI 0)))) hT7 hB7.1 (fun fs e => by cases e) (fun fs e => by cases e) (fun fs e => by cases e) (fun fs e => by cases e)
          have hA8 := ag_up (y := .inr (6, (bf bp dn ba sd).set 11 (.int (nI 0)))) hA7 hB7.1 (fun fs e => by cases e) (fun fs e => by cases e)
          have hB8 := bq_put (n := 0) hB7
          refine ev_aload_n (pc := 110) dX8_base_110 rfl ?_
          refine ev_iconst (pc := 111) (v := nI 1) dX8_base_111 (by decide) ?_
          refine ev_putf (pc := 112) dX8_base_112 p_X8_67 hB8.1 rfl rfl rfl ?_
          have h9 := dw_up (y := .inr (6, (bf bp 0 ba sd).set 12 (.int (nI 1)))) h8 hB8.1 (fun fs e => by cases e) (fun fs e => by cases e) (fun fs e => by cases e)
          have hS9 := sh_up1 (y := .inr (6, (bf bp 0 ba sd).set 12 (.int (nI 1)))) hS8 hB8.1 (fun fs e => by cases e) (fun fs e => by cases e) (fun fs e => by cases e) (fun fs e => by cases e)
          have hT9 := sh_up1 (y := .inr (6, (bf bp 0 ba sd).set 12 (.int (nI 1)))) hT8 hB8.1 (fun fs e => by cases e) (fun fs e => by cases e) (fun fs e => by cases e) (fun fs e => by cases e)
          have hA9 := ag_up (y := .inr (6, (bf bp 0 ba sd).set 12 (.int (nI 1)))) hA8 hB8.1 (fun fs e => by cases e) (fun fs e => by cases e)
          have hB9 : BQ (ev_up _ (bp 0) (.inr (6, (bf bp 0 ba sd).set 12 (.int (nI 1))))) bp lay 0 1 sd := ⟨ev_eqq, fun i hi => ev_nee (ne_of (hB8.2 i hi) hB8.1 (fun q => by cases q)) (hB8.2 i hi)⟩
          refine ev_aload_n (pc := 115) dX8_base_115 rfl ?_
          refine ev_iconst (pc := 116) (v := nI 1) dX8_base_116 (by decide) ?_
          refine ev_putf (pc := 117) dX8_base_117 p_X8_71 hB9.1 rfl rfl rfl ?_
          have h10 := dw_up (y := .inr (6, (bf bp 0 1 sd).set 13 (.int (nI 1)))) h9 hB9.1 (fun fs e => by cases e) (fun fs e => by cases e) (fun fs e => by cases e)
          have hS10 := sh_up1 (y := .inr (6, (bf bp 0 1 sd).set 13 (.int (nI 1)))) hS9 hB9.1 (fun fs e => by cases e) (fun fs e => by cases e) (fun fs e => by cases e) (fun fs e => by cases e)
          have hT10 := sh_up1 (y := .inr (6, (bf bp 0 1 sd).set 13 (.int (nI 1)))) hT9 hB9.1 (fun fs e => by cases e) (fun fs e => by cases e) (fun fs e => by cases e) (fun fs e => by cases e)
          have hA10 := ag_up (y := .inr (6, (bf bp 0 1 sd).set 13 (.int (nI 1)))) hA9 hB9.1 (fun fs e => by cases e) (fun fs e => by cases e)
          have hB10 : BQ (ev_up _ (bp 0) (.inr (6, (bf bp 0 1 sd).set 13 (.int (nI 1))))) bp lay 0 1 1 := ⟨ev_eqq, fun i hi => ev_nee (ne_of (hB9.2 i hi) hB9.1 (fun q => by cases q)) (hB9.2 i hi)⟩
          exact ev_vret (pc := 120) dX8_base_120 rfl ⟨rfl, fu1, fd1, v6, fun j hj => ⟨e1 j hj, e2 j hj⟩, h10, by rw [hW1, hW2]; exact r1, by rw [hW1, hW2]; exact r2, ⟨⟨hP, hf, by show m < 256; omega, by show m ≠ 0; omega⟩, hfb, dvv⟩, hS10, hA10, hB10, hT10, fun a x ha hc n0 => ev_nee n0 (ev_nee n0 (ev_nee n0 (CC a x ha hc)))⟩
        · omega
end BAS
