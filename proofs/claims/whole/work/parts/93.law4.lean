/-! THE LAW: set, get, base, close -/
section LAW4
variable {G : ev_G} {C : ev_L} {w dd : Nat} {K : ev_K} {c z b L i o n : Nat} {xs : Nat → Int32} {pp rr p2 : ev_H} {g : Nat → Int64} {bp : Nat → Nat} {lay : Nat → Nat × Nat} {sa sb ga : Nat → Nat} {tc : Nat} {A : Nat → Nat}
variable {P : Nat → Nat → Nat} {fu fd : Nat → Nat} {mem : Nat} {val val2 : Nat → Nat} {ba dn : Nat} {R : Nat → Nat → Int32} {wa ar : Nat} {lv f : Nat → Nat} {len : Nat} {I I2 v v2 : Nat → Nat} {Q : Nat → Nat → Nat} {Rr : Nat → Nat → Int32} {lvr fr : Nat → Nat}
theorem bl {a b : Nat} (h : a ≤ b) : Nat.ble a b = true := Nat.ble_eq_true_of_le h
theorem pf_sf (hX1 : SX (bp 1) sa (bp 2) sb) {P2 : Nat → Nat → Nat} {fu2 fd2 : Nat → Nat} {mem2 : Nat} (h : PF pp bp lay sa sb ga tc P fu fd mem val ba dn R wa ar lv f len) (hS : SH p2 (bp 1) sa P2 fu2 fd2 mem2) (hF : SF (bp 1) sa pp p2) : PF p2 bp lay sa sb ga tc P2 fu2 fd2 mem2 val ba dn R wa ar lv f len := by
  obtain ⟨h1, h2, h3, ⟨Pb, fub, fdb, memb, h4⟩, h5, h6, h7⟩ := h
  have k := SF.kf h3 hF
  exact ⟨dw_sf h1 h3 hF, bq_kf k h2, hS, ⟨Pb, fub, fdb, memb, sh_sf hX1 hF h4⟩, ag_kf k h5, lv_cf k.cf h6, tx_cf k.cf h7⟩
theorem c_set (hd : 10 ≤ dd) (hw : 400 ≤ w) (hC : LC G C dd w) (hD : PD bp sa sb ga) (hb : G.1 b = some (L, xs)) (hi : i + 6 ≤ L) (hL : L ≤ 3072) (hJ : JI pp rr bp lay sa sb ga tc A) (d : ld pp rr o g) (hc : n + 1 ≤ c ∧ 6 * (n + 1) ≤ z) (hN : LN G C w K b i o bp lay sa sb ga tc A n) (hX : LX C bp o) (hG : G_ok G) : ev_J G C w m_L_law K (120, lv_ b (bp 0) (A 17) o i, [], lh pp rr o g, c, z) := by
  obtain ⟨P, fu, fd, mem, val, ba, dn, R, wa, ar, lv, f, len, I, v, Q, Rr, lvr, fr, hPF, hPV, hM, hRE⟩ := hJ
  obtain ⟨hW, hB, hS, ⟨Pb, fub, fdb, memb, hT⟩, hA, hV, hTX⟩ := id hPF
  obtain ⟨⟨vP, vf, vfb, vm⟩, ⟨v1, v2, v3, v4, v5⟩, vz, ⟨v9, v10⟩, vo, kd, sh, vE⟩ := id hPV
  obtain ⟨⟨r0, r1, r3, r4, r5, r6⟩, ra, rd, rr5, rr6, rlv, rf⟩ := id hRE
  obtain ⟨d9, rfl⟩ : ∃ e, dd = e + 1 := ⟨dd - 1, by omega⟩
  refine ev_aload_n (pc := 120) dL_law_120 rfl ?_
  refine ev_aload_n (pc := 121) dL_law_121 rfl ?_
  refine ev_iload (pc := 122) dL_law_122 rfl ?_
  refine ev_iconst (pc := 124) (v := nI 1) dL_law_124 (by decide) ?_
  refine ev_iaddN (pc := 125) dL_law_125 ?_
  refine ev_rs (pc := 126) dL_law_126 hb (by omega) (by omega) ?_
  refine ev_aload_n (pc := 127) dL_law_127 rfl ?_
  refine ev_iload (pc := 128) dL_law_128 rfl ?_
  refine ev_iconst (pc := 130) (v := nI 2) dL_law_130 (by decide) ?_
  refine ev_iaddN (pc := 131) dL_law_131 ?_
  refine ev_rs (pc := 132) dL_law_132 hb (by omega) (by omega) ?_
  refine ev_aload_n (pc := 133) dL_law_133 rfl ?_
  refine ev_iload (pc := 134) dL_law_134 rfl ?_
  refine ev_iconst (pc := 136) (v := nI 3) dL_law_136 (by decide) ?_
  refine ev_iaddN (pc := 137) dL_law_137 ?_
  refine ev_rs (pc := 138) dL_law_138 hb (by omega) (by omega) ?_
  refine ev_aload_n (pc := 139) dL_law_139 rfl ?_
  have hrs := k_rset2 (G := G) (dd := d9 + 1) (w := w - 23) (x0 := xs (i + 1)) (x1 := xs (i + 2)) (x2 := xs (i + 3)) (by omega) (by omega) hM (by omega) (by omega) (fun q => by rw [r0]; exact (vz (r1.symm.trans q)).1)
  by_cases q : ri (xs (i + 1)) 0 7 ∧ ri (xs (i + 2)) 0 2
  · obtain ⟨s, es, s1, s2⟩ := ri_nI (x := xs (i + 1)) (lo := 0) (hi := 7) q.1 (by decide)
    obtain ⟨k, ek, k1, k2⟩ := ri_nI (x := xs (i + 2)) (lo := 0) (hi := 2) q.2 (by decide)
    have hks := k_set (G := G) (dd := d9) (w := w - 25 - 24) (v := xs (i + 3)) (by omega) (by omega) hG hB hS hD.2.2.1 vm (show s < 8 by omega) (show k < 3 by omega)
    rw [← es, ← ek] at hks
    refine ev_callSWf (pc := 140) (As := [.ref (bp 0), .int (xs (i + 1)), .int (xs (i + 2)), .int (xs (i + 3)), .ref o]) (hs := ev_jn pp (oh o g)) (hf := rr) dL_law_140 csw_L_35 rfl rfl (hC _ _ _ _ _ _ ⟨by show 19 + 6 ≤ w; omega, show ev_Ca _ _ (w - 25) _ _ _ _ _ _ from w_set (by omega) (fun r h q => by rcases q with q | q; exact ⟨_, q.2.1⟩; exact ⟨_, q.2.1⟩) hB.1 d.2.1 hks⟩) rfl rfl (jn_rt d.2.2) (dj_f (dj_jn d.1.sy d.2.2).sy) (fun r h1 hp hq => ?_)
    obtain ⟨rfl, p1, g1, y, rfl, dj1, hp, eg⟩ := hp
    obtain ⟨dA, dB⟩ := dj_w hq
    refine ev_th (jn_rt dB).symm ?_
    have d2 : ld p1 rr o g1 := ⟨dA, dj1, dB⟩
    have key : ∃ P1, PF p1 bp lay sa sb ga tc P1 fu fd mem val ba dn R wa ar lv f len ∧ PV P1 fu fd mem val ba dn R wa ar len ∧ (((¬ (k ≠ 0 ∧ mem / 2 ^ s % 2 = 1) ∧ ri (xs (i + 3)) 1 (mo k)) ∧ y = nI 0 ∧ P1 = p_up P k s (xs (i + 3)).toInt.toNat) ∨ (¬ (¬ (k ≠ 0 ∧ mem / 2 ^ s % 2 = 1) ∧ ri (xs (i + 3)) 1 (mo k)) ∧ y = -1 ∧ P1 = P)) := by
      rcases hp with ⟨e1, e2, e3, e4⟩ | ⟨e1, e2, e3⟩
      · refine ⟨_, pf_sf hD.1 hPF e3 e4, ⟨⟨p_up_ok vP ?_ ?_, vf, vfb, vm⟩, ⟨v1, v2, v3, v4, v5⟩, vz, ⟨v9, v10⟩, vo, kd, sh, vE⟩, Or.inl ⟨e1, by injection e2 with e2; injection e2, rfl⟩⟩
        · have := e1.2.1; omega
        · have := e1.2.2; omega
      · exact ⟨P, by rw [e3]; exact hPF, hPV, Or.inr ⟨e1, by injection e2 with e2; injection e2, rfl⟩⟩
    obtain ⟨P1, hPF2, hPV2, hy⟩ := key
    refine tl_set (cd := 0) (y := y) hd hw hC hb hi hL (by decide) (fun _ => eg) d2 (ms_M hM) (ca_post (fun r h hp => ?_) hrs) (by omega) hN
    rcases hp with ⟨a1, -⟩ | ⟨a1, a2, -⟩ | ⟨s', k', a1, a2, a3, a4, a5⟩
    · exact absurd q.1 a1
    · exact absurd q.2 a2
    · obtain rfl : s' = s := (nI_eq (by omega) (by omega)).mp (a1.symm.trans es)
      obtain rfl : k' = k := (nI_eq (by omega) (by omega)).mp (a3.symm.trans ek)
      unfold okset at a5
      rw [r0] at a5
      rcases a5 with ⟨b1, b2, b3⟩ | ⟨b1, b2, b3⟩
      · rcases hy with ⟨f1, f2, f3⟩ | ⟨f1, f2, f3⟩
        · refine ⟨⟨_, b2, fun _ => f2.symm⟩, ⟨P1, fu, fd, mem, val, ba, dn, R, wa, ar, lv, f, len, _, v, _, Rr, lvr, fr, hPF2, hPV2, b3.1, ⟨r0, r1, r3, r4, r5, r6⟩, ⟨fun a ha j hj => ?_, ra.2⟩, rd, rr5, rr6, rlv, rf⟩, _, v, _, Rr, lvr, fr, b3.1, va_up_self _ _ _⟩
          rw [f3]
          unfold p_up va_up
          rw [ra.1 a ha j hj]
        · exact absurd b1 f1
      · rcases hy with ⟨f1, f2, f3⟩ | ⟨f1, f2, f3⟩
        · exact absurd f1 b1
        · subst f3
          exact ⟨⟨_, b2, fun _ => f2.symm⟩, ⟨P1, fu, fd, mem, val, ba, dn, R, wa, ar, lv, f, len, _, v, _, Rr, lvr, fr, hPF2, hPV2, b3.1, hRE⟩, _, v, _, Rr, lvr, fr, b3.1, va_up_self _ _ _⟩
  · have hB' := jn_l hB.1 d.1 d.2.1
    refine ev_callSW (pc := 140) (As := [.ref (bp 0), .int (xs (i + 1)), .int (xs (i + 2)), .int (xs (i + 3)), .ref o]) dL_law_140 csw_L_35 rfl rfl (hX.1 _ _ _ _ _ hB' q) (bl (by omega)) (bl (by omega)) (fun r h1 hp => ?_)
    obtain ⟨⟨cd, hcd, rfl⟩, rfl⟩ := hp
    refine tl_set (cd := cd) (y := 0) hd hw hC hb hi hL (by omega) (fun q => by omega) d (ms_M hM) (ca_post (fun r h hp => ?_) hrs) (by omega) hN
    rcases hp with ⟨a1, a2, a3⟩ | ⟨a1, a2, a3, a4⟩ | ⟨s', k', a1, a2, a3, a4, a5⟩
    · refine ⟨⟨_, a3, fun q => by omega⟩, ⟨P, fu, fd, mem, val, ba, dn, R, wa, ar, lv, f, len, _, v, _, Rr, lvr, fr, hPF, hPV, a2.1, hRE⟩, _, v, _, Rr, lvr, fr, a2.1, ?_⟩
      rcases hcd with ⟨c1, rfl⟩ | ⟨c1, rfl⟩
      · exact va_up_self _ _ _
      · exact absurd c1 a1
    · refine ⟨⟨_, a4, fun q => by omega⟩, ⟨P, fu, fd, mem, val, ba, dn, R, wa, ar, lv, f, len, _, v, _, Rr, lvr, fr, hPF, hPV, a3.1, hRE⟩, _, v, _, Rr, lvr, fr, a3.1, ?_⟩
      rcases hcd with ⟨c1, rfl⟩ | ⟨c1, rfl⟩
      · exact absurd a1 c1
      · exact va_up_self _ _ _
    · refine absurd ⟨?_, ?_⟩ q
      · rw [a1]; exact (nI_ri (n := s') (lo := 0) (hi := 7) (by omega)).mpr ⟨Nat.zero_le _, by omega⟩
      · rw [a3]; exact (nI_ri (n := k') (lo := 0) (hi := 2) (by omega)).mpr ⟨Nat.zero_le _, by omega⟩
theorem c_get (hd : 10 ≤ dd) (hw : 400 ≤ w) (hC : LC G C dd w) (hD : PD bp sa sb ga) (hb : G.1 b = some (L, xs)) (hi : i + 6 ≤ L) (hL : L ≤ 3072) (hJ : JI pp rr bp lay sa sb ga tc A) (d : ld pp rr o g) (hc : n + 1 ≤ c ∧ 6 * (n + 1) ≤ z) (hN : LN G C w K b i o bp lay sa sb ga tc A n) (hX : LX C bp o) (hG : G_ok G) : ev_J G C w m_L_law K (200, lv_ b (bp 0) (A 17) o i, [], lh pp rr o g, c, z) := by
  obtain ⟨P, fu, fd, mem, val, ba, dn, R, wa, ar, lv, f, len, I, v, Q, Rr, lvr, fr, hPF, hPV, hM, hRE⟩ := hJ
  obtain ⟨hW, hB, hS, ⟨Pb, fub, fdb, memb, hT⟩, hA, hV, hTX⟩ := id hPF
  obtain ⟨⟨vP, vf, vfb, vm⟩, ⟨v1, v2, v3, v4, v5⟩, vz, ⟨v9, v10⟩, vo, kd, sh, vE⟩ := id hPV
  obtain ⟨⟨r0, r1, r3, r4, r5, r6⟩, ra, rd, rr5, rr6, rlv, rf⟩ := id hRE
  obtain ⟨d9, rfl⟩ : ∃ e, dd = e + 1 := ⟨dd - 1, by omega⟩
  refine ev_aload_n (pc := 200) dL_law_200 rfl ?_
  refine ev_aload_n (pc := 201) dL_law_201 rfl ?_
  refine ev_iload (pc := 202) dL_law_202 rfl ?_
  refine ev_iconst (pc := 204) (v := nI 1) dL_law_204 (by decide) ?_
  refine ev_iaddN (pc := 205) dL_law_205 ?_
  refine ev_rs (pc := 206) dL_law_206 hb (by omega) (by omega) ?_
  refine ev_aload_n (pc := 207) dL_law_207 rfl ?_
  refine ev_iload (pc := 208) dL_law_208 rfl ?_
  refine ev_iconst (pc := 210) (v := nI 2) dL_law_210 (by decide) ?_
  refine ev_iaddN (pc := 211) dL_law_211 ?_
  refine ev_rs (pc := 212) dL_law_212 hb (by omega) (by omega) ?_
  refine ev_aload_n (pc := 213) dL_law_213 rfl ?_
  have hrs := k_rget (G := G) (dd := d9 + 1) (w := w - 22) (x0 := xs (i + 1)) (x1 := xs (i + 2)) (by omega) (by omega) hM
  by_cases q : ri (xs (i + 1)) 0 7 ∧ ri (xs (i + 2)) 0 2
  · obtain ⟨s, es, s1, s2⟩ := ri_nI (x := xs (i + 1)) (lo := 0) (hi := 7) q.1 (by decide)
    obtain ⟨k, ek, k1, k2⟩ := ri_nI (x := xs (i + 2)) (lo := 0) (hi := 2) q.2 (by decide)
    have hks := k_get (G := G) (dd := d9) (w := w - 24 - 22) (by omega) (by omega) hB hS (show s < 8 by omega) (show k < 3 by omega)
    rw [← es, ← ek] at hks
    refine ev_callSWf (pc := 214) (As := [.ref (bp 0), .int (xs (i + 1)), .int (xs (i + 2)), .ref o]) (hs := ev_jn pp (oh o g)) (hf := rr) dL_law_214 csw_L_44 rfl rfl (hC _ _ _ _ _ _ ⟨by show 19 + 5 ≤ w; omega, show ev_Ca _ _ (w - 24) _ _ _ _ _ _ from w_get (by omega) (fun r h q => ⟨_, q.1⟩) hB.1 d.2.1 hks⟩) rfl rfl (jn_rt d.2.2) (dj_f (dj_jn d.1.sy d.2.2).sy) (fun r h1 hp hq => ?_)
    obtain ⟨rfl, p1, g1, y, rfl, dj1, hp, eg⟩ := hp
    obtain ⟨dA, dB⟩ := dj_w hq
    refine ev_th (jn_rt dB).symm ?_
    have d2 : ld p1 rr o g1 := ⟨dA, dj1, dB⟩
    obtain ⟨e2, rfl⟩ := hp
    have ey : y = nI (P k s) := by injection e2 with e2; injection e2
    refine tl_get (cd := 0) (y := y) hd hw hC hb hi hL (by decide) (fun _ => eg) d2 (ms_M hM) (ca_post (fun r h hp => ?_) hrs) (by omega) hN
    rcases hp with ⟨a1, -⟩ | ⟨a1, a2, -⟩ | ⟨s', k', a1, a2, a3, a4, a5, a6⟩
    · exact absurd q.1 a1
    · exact absurd q.2 a2
    · obtain rfl : s' = s := (nI_eq (by omega) (by omega)).mp (a1.symm.trans es)
      obtain rfl : k' = k := (nI_eq (by omega) (by omega)).mp (a3.symm.trans ek)
      refine ⟨⟨_, a5, fun _ => ?_⟩, ⟨P, fu, fd, mem, val, ba, dn, R, wa, ar, lv, f, len, _, v, _, Rr, lvr, fr, hPF, hPV, a6.1, hRE⟩, _, v, _, Rr, lvr, fr, a6.1, va_up_self _ _ _⟩
      rw [ey, ra.1 k' (by omega) s' (by omega)]
  · have hB' := jn_l hB.1 d.1 d.2.1
    refine ev_callSW (pc := 214) (As := [.ref (bp 0), .int (xs (i + 1)), .int (xs (i + 2)), .ref o]) dL_law_214 csw_L_44 rfl rfl (hX.2.1 _ _ _ _ hB' q) (bl (by omega)) (bl (by omega)) (fun r h1 hp => ?_)
    obtain ⟨⟨cd, hcd, rfl⟩, rfl⟩ := hp
    refine tl_get (cd := cd) (y := 0) hd hw hC hb hi hL (by omega) (fun q => by omega) d (ms_M hM) (ca_post (fun r h hp => ?_) hrs) (by omega) hN
    rcases hp with ⟨a1, a2, a3⟩ | ⟨a1, a2, a3, a4⟩ | ⟨s', k', a1, a2, a3, a4, a5⟩
    · refine ⟨⟨_, a3, fun q => by omega⟩, ⟨P, fu, fd, mem, val, ba, dn, R, wa, ar, lv, f, len, _, v, _, Rr, lvr, fr, hPF, hPV, a2.1, hRE⟩, _, v, _, Rr, lvr, fr, a2.1, ?_⟩
      rcases hcd with ⟨c1, rfl⟩ | ⟨c1, rfl⟩
      · exact va_up_self _ _ _
      · exact absurd c1 a1
    · refine ⟨⟨_, a4, fun q => by omega⟩, ⟨P, fu, fd, mem, val, ba, dn, R, wa, ar, lv, f, len, _, v, _, Rr, lvr, fr, hPF, hPV, a3.1, hRE⟩, _, v, _, Rr, lvr, fr, a3.1, ?_⟩
      rcases hcd with ⟨c1, rfl⟩ | ⟨c1, rfl⟩
      · exact absurd a1 c1
      · exact va_up_self _ _ _
    · refine absurd ⟨?_, ?_⟩ q
      · rw [a1]; exact (nI_ri (n := s') (lo := 0) (hi := 7) (by omega)).mpr ⟨Nat.zero_le _, by omega⟩
      · rw [a3]; exact (nI_ri (n := k') (lo := 0) (hi := 2) (by omega)).mpr ⟨Nat.zero_le _, by omega⟩
theorem c_base (hd : 10 ≤ dd) (hw : 400 ≤ w) (hC : LC G C dd w) (hD : PD bp sa sb ga) (hb : G.1 b = some (L, xs)) (hi : i + 6 ≤ L) (hL : L ≤ 3072) (hJ : JI pp rr bp lay sa sb ga tc A) (d : ld pp rr o g) (hc : n + 1 ≤ c ∧ 6 * (n + 1) ≤ z) (hN : LN G C w K b i o bp lay sa sb ga tc A n) (hX : LX C bp o) (hG : G_ok G) : ev_J G C w m_L_law K (268, lv_ b (bp 0) (A 17) o i, [], lh pp rr o g, c, z) := by
  obtain ⟨P, fu, fd, mem, val, ba, dn, R, wa, ar, lv, f, len, I, v, Q, Rr, lvr, fr, hPF, hPV, hM, hRE⟩ := hJ
  obtain ⟨hW, hB, hS, ⟨Pb, fub, fdb, memb, hT⟩, hA, hV, hTX⟩ := id hPF
  obtain ⟨⟨vP, vf, vfb, vm⟩, ⟨v1, v2, v3, v4, v5⟩, vz, ⟨v9, v10⟩, vo, kd, sh, vE⟩ := id hPV
  obtain ⟨⟨r0, r1, r3, r4, r5, r6⟩, ra, rd, rr5, rr6, rlv, rf⟩ := id hRE
  obtain ⟨d9, rfl⟩ : ∃ e, dd = e + 1 := ⟨dd - 1, by omega⟩
  refine ev_aload_n (pc := 268) dL_law_268 rfl ?_
  refine ev_aload_n (pc := 269) dL_law_269 rfl ?_
  refine ev_iload (pc := 270) dL_law_270 rfl ?_
  refine ev_iconst (pc := 272) (v := nI 1) dL_law_272 (by decide) ?_
  refine ev_iaddN (pc := 273) dL_law_273 ?_
  refine ev_rs (pc := 274) dL_law_274 hb (by omega) (by omega) ?_
  refine ev_aload_n (pc := 275) dL_law_275 rfl ?_
  refine ev_iload (pc := 276) dL_law_276 rfl ?_
  refine ev_iconst (pc := 278) (v := nI 2) dL_law_278 (by decide) ?_
  refine ev_iaddN (pc := 279) dL_law_279 ?_
  refine ev_rs (pc := 280) dL_law_280 hb (by omega) (by omega) ?_
  have hrs := k_rbase (G := G) (dd := d9 + 1) (w := w - 23) (x0 := xs (i + 1)) (x1 := xs (i + 2)) (by omega) (by omega) hM (pok_cg ra vP)
  by_cases q : ri (xs (i + 1)) 1 255 ∧ ri (xs (i + 2)) 1 1000000
  · obtain ⟨m, em, m1, m2⟩ := ri_nI (x := xs (i + 1)) (lo := 1) (hi := 255) q.1 (by decide)
    obtain ⟨l, el, l1, l2⟩ := ri_nI (x := xs (i + 2)) (lo := 1) (hi := 1000000) q.2 (by decide)
    have hks := k_base (G := G) (dd := d9) (w := w - 23 - 22) (by omega) (by omega) hW hB hS hD.2.2.1 hT hD.1 hA vP ⟨m1, m2⟩ ⟨l1, l2⟩
    rw [← em, ← el] at hks
    refine ev_callSWf (pc := 281) (As := [.ref (bp 0), .int (xs (i + 1)), .int (xs (i + 2))]) (hs := pp) (hf := ev_jn rr (oh o g)) dL_law_281 csw_L_48 rfl rfl (hC _ _ _ _ _ _ ⟨by show 19 + 4 ≤ w; omega, show ev_Ca _ _ (w - 23) _ _ _ _ _ _ from w_base (by omega) (fun r h q => q.1) hB.1 hks⟩) rfl rfl rfl (dj_f (dj_jn d.1 d.2.1)) (fun r h1 hp hq => ?_)
    obtain ⟨rfl, -, fu1, fd1, val1, u1, uW, u9, u10, uok, uS, uA, uB, uT, uF⟩ := hp
    have d2 : ld h1 rr o g := ld_p d hq
    obtain ⟨⟨ok1, ok2, ok3, ok4⟩, ok5, ok6⟩ := id uok
    have hPF2 : PF h1 bp lay sa sb ga tc P fu1 fd1 m val1 1 0 R 0 0 lv f len := ⟨uW, uB, uS, ⟨_, _, _, _, uT⟩, uA, uF _ _ hV ⟨⟨fun fs e => (by cases e), fun fs e => (by cases e), fun fs e => (by cases e), fun fs e => (by cases e), fun fs e => (by cases e)⟩, fun fs e => (by cases e), fun fs e => (by cases e)⟩ (ne_of hV hB.1 (fun q => by cases q)), uF _ _ hTX.1 ⟨⟨fun fs e => (by cases e), fun fs e => (by cases e), fun fs e => (by cases e), fun fs e => (by cases e), fun fs e => (by cases e)⟩, fun fs e => (by cases e), fun fs e => (by cases e)⟩ (ne_of hTX.1 hB.1 (fun q => by cases q)), uF _ _ hTX.2.1 ⟨⟨fun fs e => (by cases e), fun fs e => (by cases e), fun fs e => (by cases e), fun fs e => (by cases e), fun fs e => (by cases e)⟩, fun fs e => (by cases e), fun fs e => (by cases e)⟩ (ne_of hTX.2.1 hB.1 (fun q => by cases q)), hTX.2.2⟩
    have hPV2 : PV P fu1 fd1 m val1 1 0 R 0 0 len := ⟨⟨vP, ok2, ok5, ok3⟩, ⟨by omega, by omega, by omega, by omega, v5⟩, fun q => absurd q (by decide), ⟨ok6.2.2.1, ok6.2.2.2.1⟩, fun _ => ⟨ok4, ok6⟩, kd, sh, fun j hj => absurd hj (Nat.not_lt_zero j)⟩
    refine tl_base (cd := 0) hd hw hC hb hi hL d2 (ms_M hM) (ca_post (fun r h hp => ?_) hrs) (by omega) hN
    obtain ⟨rfl, hp⟩ := hp
    rcases hp with ⟨a1, -⟩ | ⟨m', l', a1, a2, a3, a4, I2, v2, b1, ⟨b2, b3, b4, b5, b6, b7, b8⟩, b9, b10, b11⟩
    · exact absurd q a1
    · obtain rfl : m' = m := (nI_eq (by omega) (by omega)).mp (a1.symm.trans em)
      obtain rfl : l' = l := (nI_eq (by omega) (by omega)).mp (a3.symm.trans el)
      have hag : ag3 Q v2 (fun s => v2 (8 + s)) P fu1 fd1 := ⟨ra.1, fun j hj => ⟨(b9 j hj).1.trans (u1 j hj).1.symm, (b9 j hj).2.trans (u1 j hj).2.symm⟩⟩
      have hsu : su Q v2 (fun s => v2 (8 + s)) m' 8 = su P fu1 fd1 m' 8 := su_cg hag 8 (Nat.le_refl 8)
      rw [hsu] at b10 b11
      exact ⟨rfl, ⟨P, fu1, fd1, m', val1, 1, 0, R, 0, 0, lv, f, len, I2, v2, Q, Rr, lvr, fr, hPF2, hPV2, b1.1, ⟨b2, b3, b4, b5, b6, b7.trans r6⟩, hag, fun _ => ⟨b10.trans u9.symm, b11.trans u10.symm⟩, fun a ha j hj => absurd hj (Nat.not_lt_zero j), fun j hj => absurd hj (Nat.not_lt_zero j), fun j hj => absurd hj (Nat.not_lt_zero j), rf⟩, I2, v2, Q, Rr, lvr, fr, b1.1, b8⟩
  · have hB' := jn_l hB.1 d.1 d.2.1
    refine ev_callSW (pc := 281) (As := [.ref (bp 0), .int (xs (i + 1)), .int (xs (i + 2))]) dL_law_281 csw_L_48 rfl rfl (hX.2.2.1 _ _ _ _ hB' q) (bl (by omega)) (bl (by omega)) (fun r h1 hp => ?_)
    obtain ⟨rfl, rfl⟩ := hp
    refine tl_base (cd := 1) hd hw hC hb hi hL d (ms_M hM) (ca_post (fun r h hp => ?_) hrs) (by omega) hN
    obtain ⟨rfl, hp⟩ := hp
    rcases hp with ⟨a1, a2⟩ | ⟨m', l', a1, a2, a3, a4, -⟩
    · exact ⟨rfl, ⟨P, fu, fd, mem, val, ba, dn, R, wa, ar, lv, f, len, _, v, _, Rr, lvr, fr, hPF, hPV, a2.1, hRE⟩, _, v, _, Rr, lvr, fr, a2.1, va_up_self _ _ _⟩
    · refine absurd ⟨?_, ?_⟩ q
      · rw [a1]; exact (nI_ri (by omega)).mpr a2
      · rw [a3]; exact (nI_ri (by omega)).mpr a4
theorem c_close (hd : 10 ≤ dd) (hw : 400 ≤ w) (hC : LC G C dd w) (hD : PD bp sa sb ga) (hb : G.1 b = some (L, xs)) (hi : i + 6 ≤ L) (hL : L ≤ 3072) (hJ : JI pp rr bp lay sa sb ga tc A) (d : ld pp rr o g) (hc : n + 1 ≤ c ∧ 6 * (n + 1) ≤ z) (hN : LN G C w K b i o bp lay sa sb ga tc A n) (hX : LX C bp o) (hG : G_ok G) : ev_J G C w m_L_law K (402, lv_ b (bp 0) (A 17) o i, [], lh pp rr o g, c, z) := by
  obtain ⟨P, fu, fd, mem, val, ba, dn, R, wa, ar, lv, f, len, I, v, Q, Rr, lvr, fr, hPF, hPV, hM, hRE⟩ := hJ
  obtain ⟨hW, hB, hS, ⟨Pb, fub, fdb, memb, hT⟩, hA, hV, hTX⟩ := id hPF
  obtain ⟨⟨vP, vf, vfb, vm⟩, ⟨v1, v2, v3, v4, v5⟩, vz, ⟨v9, v10⟩, vo, kd, sh, vE⟩ := id hPV
  obtain ⟨⟨r0, r1, r3, r4, r5, r6⟩, ra, rd, rr5, rr6, rlv, rf⟩ := id hRE
  obtain ⟨d9, rfl⟩ : ∃ e, dd = e + 1 := ⟨dd - 1, by omega⟩
  refine ev_aload_n (pc := 402) dL_law_402 rfl ?_
  refine ev_aload_n (pc := 403) dL_law_403 rfl ?_
  have hE2 : ∀ j, j < I 3 → Rr 0 j = nI (kd j) ∧ Rr 1 j = nI (sh j) ∧ kd j < 9 ∧ sh j < 8 := by
    intro j hj
    rw [r3] at hj
    rw [rr5 0 (by decide) j hj, rr5 1 (by decide) j hj]
    exact vE j hj
  have hrs := k_rclose (G := G) (dd := d9 + 1) (w := w - 24) (kd := kd) (sh := sh) (by omega) (by omega) hM (by omega) (by omega) (by omega) hE2 (fun q => re_ok hPV hRE q)
  by_cases q : ba = 1 ∧ dn < 250
  · obtain ⟨q1, q2⟩ := q
    subst q1
    have ok : q_ok ((P, fu, fd, mem), val 9, val 10) := ⟨⟨vP, vf, vm, (vo rfl).1⟩, vfb, (vo rfl).2⟩
    have hks := k_close (G := G) (dd := d9) (w := w - 22 - 22) (kd := kd) (sh := sh) (by omega) (by omega) hG hW hB q2 hS hT hD.1 hD.2.1 hD.2.2.1 hD.2.2.2.1 hA hD.2.2.2.2 v3 vE hV ok
    refine ev_callSWf (pc := 404) (As := [.ref (bp 0), .ref o]) (hs := ev_jn pp (oh o g)) (hf := rr) dL_law_404 csw_L_61 rfl rfl (hC _ _ _ _ _ _ ⟨by show 19 + 3 ≤ w; omega, show ev_Ca _ _ (w - 22) _ _ _ _ _ _ from w_close (by omega) (fun r h q => by obtain ⟨_, _, _, _, _, _, _, _, _, _, _, q, -⟩ := q; exact ⟨_, q⟩) hB.1 d.2.1 hks⟩) rfl rfl (jn_rt d.2.2) (dj_f (dj_jn d.1.sy d.2.2).sy) (fun r h1 hp hq => ?_)
    obtain ⟨rfl, p1, g1, y, rfl, dj1, hp, eg⟩ := hp
    obtain ⟨dA, dB⟩ := dj_w hq
    refine ev_th (jn_rt dB).symm ?_
    have d2 : ld p1 rr o g1 := ⟨dA, dj1, dB⟩
    obtain ⟨R1, od, val1, P1, fu1, fd1, mem1, Pb1, fub1, fdb1, memb1, e2, uso, uR, u5, urun, uok, uW, uB, uS, uT, uA, uL, uF⟩ := hp
    have ey : y = nI (dc (R1 6) wa) := by injection e2 with e2; injection e2
    obtain ⟨⟨ok1, ok2, ok3, ok4⟩, ok5, ok6⟩ := id uok
    have hPF2 : PF p1 bp lay sa sb ga tc P1 fu1 fd1 mem1 val1 1 (dn + 1) R1 0 wa (va_up lv dn (rl ((su P1 fu1 fd1 mem1 8).1 * val1 10) ((su P1 fu1 fd1 mem1 8).2 * val1 9))) f len := ⟨uW, uB, uS, ⟨_, _, _, _, uT⟩, uA, uL, uF _ _ hTX.1 ⟨⟨fun fs e => (by cases e), fun fs e => (by cases e), fun fs e => (by cases e), fun fs e => (by cases e), fun fs e => (by cases e)⟩, fun fs e => (by cases e), fun fs e => (by cases e)⟩ (ne_of hTX.1 hB.1 (fun q => by cases q)) (ne_of hTX.1 hV (fun q => by cases q)), uF _ _ hTX.2.1 ⟨⟨fun fs e => (by cases e), fun fs e => (by cases e), fun fs e => (by cases e), fun fs e => (by cases e), fun fs e => (by cases e)⟩, fun fs e => (by cases e), fun fs e => (by cases e)⟩ (ne_of hTX.2.1 hB.1 (fun q => by cases q)) (ne_of hTX.2.1 hV (fun q => by cases q)), hTX.2.2⟩
    have hPV2 : PV P1 fu1 fd1 mem1 val1 1 (dn + 1) R1 0 wa len := ⟨⟨ok1, ok2, ok5, ok3⟩, ⟨by omega, by omega, by omega, v3, v5⟩, fun q => absurd q (by decide), ⟨ok6.2.2.1, ok6.2.2.2.1⟩, fun _ => ⟨ok4, ok6⟩, kd, sh, fun j hj => absurd hj (Nat.not_lt_zero j)⟩
    refine tl_close (cd := 0) (y := y) hd hw hC hb hi hL (by decide) (fun _ => eg) d2 (ms_M hM) (ca_post (fun r h hp => ?_) hrs) (by omega) hN
    rcases hp with ⟨a1, -⟩ | ⟨a1, a2, I1, v1r, Q1, R1r, odr, b2, b3, b4, b5, ⟨pq3, b6, b7⟩, b8, b9, b10, b11, b12, b13, b14, b15⟩
    · exact absurd ⟨r1, by omega⟩ a1
    · rw [r3] at b2 b3 b5 b6 b12
      have hod := so_uni v3 uso b3
      have hq0 : aq ((P, fu, fd, mem), val 9, val 10) (rst I v Q) := ⟨ra.sy, r0.symm, by rw [show (rst I v Q).2 = (v 32, v 33) from rfl, (rd rfl).1, (rd rfl).2]⟩
      have hlt : ∀ j, j < wa → od j < wa := uso.1
      obtain ⟨c1, c2⟩ := run_uni (n := wa) (R := R) (R2 := Rr) (kd := kd) (sh := sh) (fun j hj => ⟨(rr5 2 (by decide) _ (hlt j hj)).symm, (rr5 3 (by decide) _ (hlt j hj)).symm, (rr5 4 (by decide) _ (hlt j hj)).symm⟩) (fun j hj => (vE _ (hlt j hj)).2.2.2) hod hq0 wa (Nat.le_refl wa) _ _ urun b6
      have c3 := c1.tr b7.sy
      have c4 : I1 0 = mem1 := c3.2.1.symm
      have c5 : v1r 32 = val1 9 ∧ v1r 33 = val1 10 := by
        have := c3.2.2
        exact ⟨(congrArg Prod.fst this).symm, (congrArg Prod.snd this).symm⟩
      have hsu : su Q1 v1r (fun s => v1r (8 + s)) (I1 0) 8 = su P1 fu1 fd1 mem1 8 := by
        rw [c4]
        exact su_cg c3.1.sy 8 (Nat.le_refl 8)
      rw [hsu, c5.1, c5.2] at b9
      refine ⟨⟨_, b2, fun _ => ?_⟩, ⟨P1, fu1, fd1, mem1, val1, 1, dn + 1, R1, 0, wa, _, f, len, I1, v1r, Q1, R1r, _, fr, hPF2, hPV2, b9.1, ⟨c4, b10, b11, b12, by rw [b13, r5], b14.trans r6⟩, c3.1.sy, fun _ => c5, fun a ha j hj => absurd hj (Nat.not_lt_zero j), fun j hj => ⟨(c2 j hj).symm, ?_⟩, fun j hj => ?_, rf⟩, I1, v1r, Q1, R1r, _, fr, b9.1, b15⟩
      · rw [ey, dc_cg wa c2]
      · rw [b5 j hj, u5 j hj, hod j hj]
      · rw [r5]
        unfold va_up
        by_cases e : j = dn
        · rw [if_pos e, if_pos e]
        · rw [if_neg e, if_neg e]
          exact rlv j (by omega)
  · have hB' := jn_l hB.1 d.1 d.2.1
    refine ev_callSW (pc := 404) (As := [.ref (bp 0), .ref o]) dL_law_404 csw_L_61 rfl rfl (hX.2.2.2 _ _ _ _ hB' v2 v1 q) (bl (by omega)) (bl (by omega)) (fun r h1 hp => ?_)
    obtain ⟨rfl, rfl⟩ := hp
    refine tl_close (cd := 1) (y := 0) hd hw hC hb hi hL (by decide) (fun q => by omega) d (ms_M hM) (ca_post (fun r h hp => ?_) hrs) (by omega) hN
    rcases hp with ⟨a1, a2, a3⟩ | ⟨a1, a2, -⟩
    · exact ⟨⟨_, a2, fun q => by omega⟩, ⟨P, fu, fd, mem, val, ba, dn, R, wa, ar, lv, f, len, _, v, _, Rr, lvr, fr, hPF, hPV, a3.1, hRE⟩, _, v, _, Rr, lvr, fr, a3.1, va_up_self _ _ _⟩
    · exact absurd ⟨r1.symm.trans a1, by omega⟩ q
end LAW4
