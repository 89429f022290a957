/-! THE LAW: level, weight, print, places, event -/
section LAW2
variable {G : ev_G} {C : ev_L} {w dd : Nat} {K : ev_K} {c z b L i o n : Nat} {xs : Nat → Int32} {pp rr p2 : ev_H} {g : Nat → Int64} {bp : Nat → Nat} {lay : Nat → Nat × Nat} {sa sb ga : Nat → Nat} {tc : Nat} {A : Nat → Nat}
variable {P : Nat → Nat → Nat} {fu fd : Nat → Nat} {mem : Nat} {val val2 : Nat → Nat} {ba dn : Nat} {R : Nat → Nat → Int32} {wa ar : Nat} {lv f : Nat → Nat} {len : Nat} {I I2 v v2 : Nat → Nat} {Q : Nat → Nat → Nat} {Rr : Nat → Nat → Int32} {lvr fr : Nat → Nat}
theorem pf_wf (h : PF pp bp lay sa sb ga tc P fu fd mem val ba dn R wa ar lv f len) (hW : DW p2 (bp 4) lay val2) (hF : WF lay pp p2) : PF p2 bp lay sa sb ga tc P fu fd mem val2 ba dn R wa ar lv f len := by
  obtain ⟨h1, h2, h3, ⟨Pb, fub, fdb, memb, h4⟩, h5, h6, h7⟩ := h
  have k := WF.kf h1.2.1 hF
  exact ⟨hW, bq_kf k h2, sh_wf h1.2.1 hF h3, ⟨Pb, fub, fdb, memb, sh_wf h1.2.1 hF h4⟩, ag_kf k h5, lv_cf k.cf h6, tx_cf k.cf h7⟩
theorem pv_val (h : PV P fu fd mem val ba dn R wa ar len) (e9 : val2 9 = val 9) (e10 : val2 10 = val 10) : PV P fu fd mem val2 ba dn R wa ar len := by
  unfold PV at h ⊢
  rw [e9, e10]
  exact h
theorem re_val (h : RE P fu fd mem val ba dn R wa ar lv f len I v Q Rr lvr fr) (e9 : val2 9 = val 9) (e10 : val2 10 = val 10) : RE P fu fd mem val2 ba dn R wa ar lv f len I v Q Rr lvr fr := by
  unfold RE at h ⊢
  rw [e9, e10]
  exact h
theorem re_v (h : RE P fu fd mem val ba dn R wa ar lv f len I v Q Rr lvr fr) (e : ∀ i, i < 34 → v2 i = v i) : RE P fu fd mem val ba dn R wa ar lv f len I v2 Q Rr lvr fr := by
  obtain ⟨h1, h2, h3, h4⟩ := h
  refine ⟨h1, ⟨h2.1, fun j hj => ?_⟩, fun q => ?_, h4⟩
  · exact ⟨(e j (by omega)).trans (h2.2 j hj).1, (e (8 + j) (by omega)).trans (h2.2 j hj).2⟩
  · rw [e 32 (by decide), e 33 (by decide)]
    exact h3 q
theorem re_I (h : RE P fu fd mem val ba dn R wa ar lv f len I v Q Rr lvr fr) (e : ∀ k, k < 7 → I2 k = I k) : RE P fu fd mem val ba dn R wa ar lv f len I2 v Q Rr lvr fr := by
  obtain ⟨⟨r0, r1, r3, r4, r5, r6⟩, h4⟩ := h
  exact ⟨⟨(e 0 (by decide)).trans r0, (e 1 (by decide)).trans r1, (e 3 (by decide)).trans r3, (e 4 (by decide)).trans r4, (e 5 (by decide)).trans r5, (e 6 (by decide)).trans r6⟩, h4⟩
theorem pok_cg (h : ag3 Q v v2 P fu fd) (hP : P_ok P) : P_ok Q := by
  intro s hs
  rw [h.1 0 (by decide) s hs, h.1 1 (by decide) s hs, h.1 2 (by decide) s hs]
  exact hP s hs
theorem fok_cg (h : ag3 Q v v2 P fu fd) (hP : f_ok fu fd) : f_ok v v2 := by
  intro s hs
  rw [(h.2 s hs).1, (h.2 s hs).2]
  exact hP s hs
theorem fb_cg (h : ag3 Q v v2 P fu fd) (hP : f_b fd) : f_b v2 := by
  intro s hs
  rw [(h.2 s hs).2]
  exact hP s hs
theorem re_ok (hV : PV P fu fd mem val ba dn R wa ar len) (h : RE P fu fd mem val ba dn R wa ar lv f len I v Q Rr lvr fr) (q : I 1 = 1) : q_ok (rst I v Q) := by
  obtain ⟨⟨r0, r1, r3, r4, r5, r6⟩, ra, rd, rr5, rr6, rlv, rf⟩ := h
  obtain ⟨⟨vP, vf, vfb, vm⟩, ⟨v1, v2, v3, v4, v5⟩, vz, ⟨v9, v10⟩, vo, kd, sh, vE⟩ := hV
  have q2 : ba = 1 := r1.symm.trans q
  obtain ⟨e1, e2⟩ := rd q2
  obtain ⟨m1, m2⟩ := vo q2
  refine ⟨⟨pok_cg ra vP, fok_cg ra vf, ?_, ?_⟩, fb_cg ra vfb, ?_⟩
  · show I 0 < 256
    rw [r0]; exact vm
  · show I 0 ≠ 0
    rw [r0]; exact m1
  · show dv_ok (v 32) (v 33)
    rw [e1, e2]; exact m2
theorem re_su (h : RE P fu fd mem val ba dn R wa ar lv f len I v Q Rr lvr fr) : su Q v (fun s => v (8 + s)) (I 0) 8 = su P fu fd mem 8 := by
  obtain ⟨⟨r0, -⟩, ra, -⟩ := h
  rw [r0]
  exact su_cg ra 8 (Nat.le_refl 8)
theorem c_level (hd : 10 ≤ dd) (hw : 400 ≤ w) (hC : LC G C dd w) (hD : PD bp sa sb ga) (hb : G.1 b = some (L, xs)) (hi : i + 6 ≤ L) (hL : L ≤ 3072) (hJ : JI pp rr bp lay sa sb ga tc A) (d : ld pp rr o g) (hc : n + 1 ≤ c ∧ 6 * (n + 1) ≤ z) (hN : LN G C w K b i o bp lay sa sb ga tc A n) : ev_J G C w m_L_law K (535, lv_ b (bp 0) (A 17) o i, [], lh pp rr o g, c, z) := by
  obtain ⟨P, fu, fd, mem, val, ba, dn, R, wa, ar, lv, f, len, I, v, Q, Rr, lvr, fr, hPF, hPV, hM, hRE⟩ := hJ
  obtain ⟨hW, hB, hS, ⟨Pb, fub, fdb, memb, hT⟩, hA, hV, hX⟩ := id hPF
  obtain ⟨⟨vP, vf, vfb, vm⟩, ⟨v1, v2, v3, v4, v5⟩, vz, ⟨v9, v10⟩, vo, kd, sh, vE⟩ := id hPV
  obtain ⟨⟨r0, r1, r3, r4, r5, r6⟩, ra, rd, rr5, rr6, rlv, rf⟩ := id hRE
  refine ev_aload_n (pc := 535) dL_law_535 rfl ?_
  refine ev_callVf (pc := 536) (As := []) (hs := pp) (hf := (ev_jn rr (oh o g))) dL_law_536 cv_L_83 rfl rfl hB.1 rfl (hC _ _ _ _ _ _ ⟨by show 19 + 1 ≤ w; omega, show ev_Ca _ _ (w - 20) _ _ _ _ _ _ from k_level (by omega) (by omega) hW hB hS v1 vP vf vm v9 v10⟩) rfl rfl rfl (dj_f (dj_jn d.1 d.2.1)) (fun r h1 hp hq => ?_)
  have key : ∃ (y : Int64) (val2 : Nat → Nat), r = some (.long y) ∧ PF h1 bp lay sa sb ga tc P fu fd mem val2 ba dn R wa ar lv f len ∧ val2 9 = val 9 ∧ val2 10 = val 10 ∧ ((ba = 0 ∧ y = -1) ∨ (ba = 1 ∧ y = lN (rl ((su P fu fd mem 8).1 * val 10) ((su P fu fd mem 8).2 * val 9)))) := by
    rcases hp with ⟨e1, e2, e3⟩ | ⟨e1, e2, val2, e3, e4, e5⟩
    · exact ⟨_, val, e2, by rw [e3]; exact hPF, rfl, rfl, Or.inl ⟨e1, rfl⟩⟩
    · exact ⟨_, val2, e2, pf_wf hPF e3 e5, e4 9 (by decide) (by decide) (by decide), e4 10 (by decide) (by decide) (by decide), Or.inr ⟨e1, rfl⟩⟩
  clear hp
  obtain ⟨y, val2, rfl, hPF2, e9, e10, hy⟩ := key
  have d2 := ld_p d hq
  clear hq
  generalize h1 = pq2 at *
  refine ev_aload_n (pc := 539) dL_law_539 rfl ?_
  refine ev_callVf (pc := 540) (As := []) (hs := rr) (hf := (ev_jn pq2 (oh o g))) dL_law_540 cv_L_87 rfl rfl (ms_M hM) rfl (hC _ _ _ _ _ _ ⟨by show 19 + 4 ≤ w; omega, show ev_Ca _ _ (w - 23) _ _ _ _ _ _ from k_rlevel (by omega) (by omega) hM (by omega) (fun q => ⟨(re_ok hPV hRE q).1, (re_ok hPV hRE q).2.2⟩)⟩) rfl rfl (jn_sw d2.1) (dj_f (dj_jn d2.1.sy d2.2.2)) (fun r h1 hp hq => ?_)
  have key : r = some (.long y) ∧ ∃ v2, MS h1 A (va_up I 7 0) v2 Q Rr lvr fr ∧ ∀ i, i < 34 → v2 i = v i := by
    rcases hp with ⟨e1, e2, e3⟩ | ⟨e1, e2, v3, e3, e4⟩
    · rcases hy with ⟨f1, f2⟩ | ⟨f1, f2⟩
      · exact ⟨by rw [e2, f2], v, e3.1, fun _ _ => rfl⟩
      · omega
    · rcases hy with ⟨f1, f2⟩ | ⟨f1, f2⟩
      · omega
      · refine ⟨?_, v3, e3.1, e4⟩
        rw [e2, f2, re_su hRE, (rd f1).1, (rd f1).2]
  obtain ⟨rfl, v3, hM2, e4⟩ := key
  refine ev_lcmp (pc := 543) dL_law_543 ?_
  refine ev_if_eq (pc := 544) (tgt := 674) dL_law_544 (by decide) (fun _ => ?_) (fun q => absurd (lc_self _) q)
  refine ev_th (jn_sw (dj_q hq).1) ?_
  exact hN _ pq2 h1 g _ _ (by omega) ⟨rfl, rfl, rfl, rfl, rfl, trivial⟩ ⟨P, fu, fd, mem, val2, ba, dn, R, wa, ar, lv, f, len, _, v3, Q, Rr, lvr, fr, hPF2, pv_val hPV e9 e10, hM2, re_I (re_v (re_val hRE e9 e10) e4) (fun k hk => if_neg (by omega))⟩ (ld_r d2 hq)
theorem c_weight (hd : 10 ≤ dd) (hw : 400 ≤ w) (hC : LC G C dd w) (hD : PD bp sa sb ga) (hb : G.1 b = some (L, xs)) (hi : i + 6 ≤ L) (hL : L ≤ 3072) (hJ : JI pp rr bp lay sa sb ga tc A) (d : ld pp rr o g) (hc : n + 1 ≤ c ∧ 6 * (n + 1) ≤ z) (hN : LN G C w K b i o bp lay sa sb ga tc A n) : ev_J G C w m_L_law K (549, lv_ b (bp 0) (A 17) o i, [], lh pp rr o g, c, z) := by
  obtain ⟨P, fu, fd, mem, val, ba, dn, R, wa, ar, lv, f, len, I, v, Q, Rr, lvr, fr, hPF, hPV, hM, hRE⟩ := hJ
  obtain ⟨hW, hB, hS, ⟨Pb, fub, fdb, memb, hT⟩, hA, hV, hX⟩ := id hPF
  obtain ⟨⟨vP, vf, vfb, vm⟩, ⟨v1, v2, v3, v4, v5⟩, vz, ⟨v9, v10⟩, vo, kd, sh, vE⟩ := id hPV
  obtain ⟨⟨r0, r1, r3, r4, r5, r6⟩, ra, rd, rr5, rr6, rlv, rf⟩ := id hRE
  refine ev_aload_n (pc := 549) dL_law_549 rfl ?_
  refine ev_aload_n (pc := 550) dL_law_550 rfl ?_
  refine ev_iload (pc := 551) dL_law_551 rfl ?_
  refine ev_iconst (pc := 553) (v := nI 1) dL_law_553 (by decide) ?_
  refine ev_iaddN (pc := 554) dL_law_554 ?_
  refine ev_rs (pc := 555) dL_law_555 hb (by omega) (by omega) ?_
  refine ev_callVf (pc := 556) (As := [.int (xs (i + 1))]) (hs := pp) (hf := (ev_jn rr (oh o g))) dL_law_556 cv_L_88 rfl rfl hB.1 rfl (hC _ _ _ _ _ _ ⟨by show 19 + 2 ≤ w; omega, show ev_Ca _ _ (w - 21) _ _ _ _ _ _ from k_weight (by omega) (by omega) hW hB hS vP vf vm⟩) rfl rfl rfl (dj_f (dj_jn d.1 d.2.1)) (fun r h1 hp hq => ?_)
  have key : ∃ (y : Int32) (val2 : Nat → Nat), r = some (.int y) ∧ PF h1 bp lay sa sb ga tc P fu fd mem val2 ba dn R wa ar lv f len ∧ val2 9 = val 9 ∧ val2 10 = val 10 ∧ ((∃ s, xs (i + 1) = nI s ∧ s < 8 ∧ mem / 2 ^ s % 2 = 1 ∧ y = nI ((su P fu fd mem 8).2 * pw P s * fu s * 1000000000 / ((su P fu fd mem 8).1 * fd s))) ∨ ((∀ s, xs (i + 1) = nI s → s < 8 → mem / 2 ^ s % 2 ≠ 1) ∧ y = -1)) := by
    rcases hp with ⟨s, e0, e1, e2, e3, val2, e4, e5, e6⟩ | ⟨e1, e2, e3⟩
    · exact ⟨_, val2, e3, pf_wf hPF e4 e6, e5 9 (by decide) (by decide) (by decide), e5 10 (by decide) (by decide) (by decide), Or.inl ⟨s, e0, e1, e2, rfl⟩⟩
    · exact ⟨_, val, e2, by rw [e3]; exact hPF, rfl, rfl, Or.inr ⟨e1, rfl⟩⟩
  clear hp
  obtain ⟨y, val2, rfl, hPF2, e9, e10, hy⟩ := key
  have d2 := ld_p d hq
  clear hq
  generalize h1 = pq2 at *
  refine ev_aload_n (pc := 559) dL_law_559 rfl ?_
  refine ev_aload_n (pc := 560) dL_law_560 rfl ?_
  refine ev_iload (pc := 561) dL_law_561 rfl ?_
  refine ev_iconst (pc := 563) (v := nI 1) dL_law_563 (by decide) ?_
  refine ev_iaddN (pc := 564) dL_law_564 ?_
  refine ev_rs (pc := 565) dL_law_565 hb (by omega) (by omega) ?_
  refine ev_callVf (pc := 566) (As := [.int (xs (i + 1))]) (hs := rr) (hf := (ev_jn pq2 (oh o g))) dL_law_566 cv_L_91 rfl rfl (ms_M hM) rfl (hC _ _ _ _ _ _ ⟨by show 19 + 4 ≤ w; omega, show ev_Ca _ _ (w - 23) _ _ _ _ _ _ from k_rweight (by omega) (by omega) hM (by omega) (fun q => by rw [r0]; exact (vz (r1.symm.trans q)).1) (fun q => (re_ok hPV hRE q).1)⟩) rfl rfl (jn_sw d2.1) (dj_f (dj_jn d2.1.sy d2.2.2)) (fun r h1 hp hq => ?_)
  have key : r = some (.int y) ∧ ∃ v2, MS h1 A (va_up I 7 0) v2 Q Rr lvr fr ∧ ∀ i, i < 34 → v2 i = v i := by
    rw [r0] at hp
    rcases hp with ⟨s, e0, e1, e2, e3, v3, e4, e5⟩ | ⟨e1, e2, e3⟩
    · rcases hy with ⟨s2, f0, f1, f2, f3⟩ | ⟨f1, f2⟩
      · have es : s2 = s := (nI_eq (by omega) (by omega)).mp (f0.symm.trans e0)
        subst es
        refine ⟨?_, v3, e4.1, e5⟩
        have hsu := re_su hRE
        rw [r0] at hsu
        have hpw : pw Q s2 = pw P s2 := by
          unfold pw
          rw [ra.1 0 (by decide) s2 f1, ra.1 1 (by decide) s2 f1, ra.1 2 (by decide) s2 f1]
        have hv8 : v (8 + s2) = fd s2 := (ra.2 s2 f1).2
        rw [e3, f3, hsu, hpw, (ra.2 s2 f1).1, hv8]
      · exact absurd e2 (f1 s e0 e1)
    · rcases hy with ⟨s2, f0, f1, f2, f3⟩ | ⟨f1, f2⟩
      · exact absurd f2 (e1 s2 f0 f1)
      · exact ⟨by rw [e2, f2], v, e3.1, fun _ _ => rfl⟩
  obtain ⟨rfl, v3, hM2, e4⟩ := key
  refine ev_icmp_eq (pc := 569) (tgt := 674) dL_law_569 (by decide) (fun _ => ?_) (fun q => absurd rfl q)
  refine ev_th (jn_sw (dj_q hq).1) ?_
  exact hN _ pq2 h1 g _ _ (by omega) ⟨rfl, rfl, rfl, rfl, rfl, trivial⟩ ⟨P, fu, fd, mem, val2, ba, dn, R, wa, ar, lv, f, len, _, v3, Q, Rr, lvr, fr, hPF2, pv_val hPV e9 e10, hM2, re_I (re_v (re_val hRE e9 e10) e4) (fun k hk => if_neg (by omega))⟩ (ld_r d2 hq)
theorem c_places (hd : 10 ≤ dd) (hw : 400 ≤ w) (hC : LC G C dd w) (hD : PD bp sa sb ga) (hb : G.1 b = some (L, xs)) (hi : i + 6 ≤ L) (hL : L ≤ 3072) (hJ : JI pp rr bp lay sa sb ga tc A) (d : ld pp rr o g) (hc : n + 1 ≤ c ∧ 6 * (n + 1) ≤ z) (hN : LN G C w K b i o bp lay sa sb ga tc A n) : ev_J G C w m_L_law K (636, lv_ b (bp 0) (A 17) o i, [], lh pp rr o g, c, z) := by
  obtain ⟨P, fu, fd, mem, val, ba, dn, R, wa, ar, lv, f, len, I, v, Q, Rr, lvr, fr, hPF, hPV, hM, hRE⟩ := hJ
  obtain ⟨hW, hB, hS, ⟨Pb, fub, fdb, memb, hT⟩, hA, hV, hX⟩ := id hPF
  obtain ⟨⟨vP, vf, vfb, vm⟩, ⟨v1, v2, v3, v4, v5⟩, vz, ⟨v9, v10⟩, vo, kd, sh, vE⟩ := id hPV
  obtain ⟨⟨r0, r1, r3, r4, r5, r6⟩, ra, rd, rr5, rr6, rlv, rf⟩ := id hRE
  refine ev_aload_n (pc := 636) dL_law_636 rfl ?_
  refine ev_aload_n (pc := 637) dL_law_637 rfl ?_
  refine ev_iload (pc := 638) dL_law_638 rfl ?_
  refine ev_iconst (pc := 640) (v := nI 1) dL_law_640 (by decide) ?_
  refine ev_iaddN (pc := 641) dL_law_641 ?_
  refine ev_rs (pc := 642) dL_law_642 hb (by omega) (by omega) ?_
  refine ev_callVf (pc := 643) (As := [.int (xs (i + 1))]) (hs := pp) (hf := (ev_jn rr (oh o g))) dL_law_643 cv_L_100 rfl rfl hB.1 rfl (hC _ _ _ _ _ _ ⟨by show 19 + 2 ≤ w; omega, show ev_Ca _ _ (w - 21) _ _ _ _ _ _ from k_places (by omega) (by omega) hW hB v1⟩) rfl rfl rfl (dj_f (dj_jn d.1 d.2.1)) (fun r h1 hp hq => ?_)
  obtain ⟨hp, hH⟩ := hp
  rw [hH]
  clear hH hq h1
  have key : ∃ y : Int32, r = some (.int y) ∧ ((ba = 1 ∧ xs (i + 1) = nI 0 ∧ y = nI (mb_bits (val 9))) ∨ (ba = 1 ∧ xs (i + 1) = nI 1 ∧ y = nI (mb_bits (val 10))) ∨ ((ba = 0 ∨ (xs (i + 1) ≠ nI 0 ∧ xs (i + 1) ≠ nI 1)) ∧ y = -1)) := by
    rcases hp with ⟨e1, e2, e3⟩ | ⟨e1, e2, e3⟩ | ⟨e1, e2⟩
    · exact ⟨_, e3, Or.inl ⟨e1, e2, rfl⟩⟩
    · exact ⟨_, e3, Or.inr (Or.inl ⟨e1, e2, rfl⟩)⟩
    · exact ⟨_, e2, Or.inr (Or.inr ⟨e1, rfl⟩)⟩
  clear hp
  obtain ⟨y, rfl, hy⟩ := key
  have n01 : nI 0 ≠ nI 1 := by decide
  refine ev_aload_n (pc := 646) dL_law_646 rfl ?_
  refine ev_aload_n (pc := 647) dL_law_647 rfl ?_
  refine ev_iload (pc := 648) dL_law_648 rfl ?_
  refine ev_iconst (pc := 650) (v := nI 1) dL_law_650 (by decide) ?_
  refine ev_iaddN (pc := 651) dL_law_651 ?_
  refine ev_rs (pc := 652) dL_law_652 hb (by omega) (by omega) ?_
  refine ev_callVf (pc := 653) (As := [.int (xs (i + 1))]) (hs := rr) (hf := (ev_jn pp (oh o g))) dL_law_653 cv_L_103 rfl rfl (ms_M hM) rfl (hC _ _ _ _ _ _ ⟨by show 19 + 2 ≤ w; omega, show ev_Ca _ _ (w - 21) _ _ _ _ _ _ from k_rplaces (by omega) (by omega) hM (by omega)⟩) rfl rfl (jn_sw d.1) (dj_f (dj_jn d.1.sy d.2.2)) (fun r h1 hp hq => ?_)
  obtain ⟨hp, hM2, -⟩ := hp
  rw [r1] at hp
  have key : r = some (.int y) := by
    rcases hp with ⟨e1, e2, e3⟩ | ⟨e1, e2, e3⟩ | ⟨e1, e2⟩
    · rcases hy with ⟨f1, f2, f3⟩ | ⟨f1, f2, f3⟩ | ⟨f1, f2⟩
      · rw [e3, f3, (rd f1).1]
      · exact absurd (e2.symm.trans f2) n01
      · rcases f1 with q | q
        · omega
        · exact absurd e2 q.1
    · rcases hy with ⟨f1, f2, f3⟩ | ⟨f1, f2, f3⟩ | ⟨f1, f2⟩
      · exact absurd (f2.symm.trans e2) n01
      · rw [e3, f3, (rd f1).2]
      · rcases f1 with q | q
        · omega
        · exact absurd e2 q.2
    · rcases hy with ⟨f1, f2, f3⟩ | ⟨f1, f2, f3⟩ | ⟨f1, f2⟩
      · rcases e1 with q | q
        · omega
        · exact absurd f2 q.1
      · rcases e1 with q | q
        · omega
        · exact absurd f2 q.2
      · rw [e2, f2]
  subst key
  refine ev_icmp_eq (pc := 656) (tgt := 674) dL_law_656 (by decide) (fun _ => ?_) (fun q => absurd rfl q)
  refine ev_th (jn_sw (dj_q hq).1) ?_
  exact hN _ pp h1 g _ _ (by omega) ⟨rfl, rfl, rfl, rfl, rfl, trivial⟩ ⟨P, fu, fd, mem, val, ba, dn, R, wa, ar, lv, f, len, _, v, Q, Rr, lvr, fr, hPF, hPV, hM2, hRE⟩ (ld_r d hq)
theorem c_event (hd : 10 ≤ dd) (hw : 400 ≤ w) (hC : LC G C dd w) (hD : PD bp sa sb ga) (hb : G.1 b = some (L, xs)) (hi : i + 6 ≤ L) (hL : L ≤ 3072) (hJ : JI pp rr bp lay sa sb ga tc A) (d : ld pp rr o g) (hc : n + 1 ≤ c ∧ 6 * (n + 1) ≤ z) (hN : LN G C w K b i o bp lay sa sb ga tc A n) : ev_J G C w m_L_law K (329, lv_ b (bp 0) (A 17) o i, [], lh pp rr o g, c, z) := by
  obtain ⟨P, fu, fd, mem, val, ba, dn, R, wa, ar, lv, f, len, I, v, Q, Rr, lvr, fr, hPF, hPV, hM, hRE⟩ := hJ
  obtain ⟨hW, hB, hS, ⟨Pb, fub, fdb, memb, hT⟩, hA, hV, hX⟩ := id hPF
  obtain ⟨⟨vP, vf, vfb, vm⟩, ⟨v1, v2, v3, v4, v5⟩, vz, ⟨v9, v10⟩, vo, kd, sh, vE⟩ := id hPV
  obtain ⟨⟨r0, r1, r3, r4, r5, r6⟩, ra, rd, rr5, rr6, rlv, rf⟩ := id hRE
  refine ev_aload_n (pc := 329) dL_law_329 rfl ?_
  refine ev_aload_n (pc := 330) dL_law_330 rfl ?_
  refine ev_iload (pc := 331) dL_law_331 rfl ?_
  refine ev_iconst (pc := 333) (v := nI 1) dL_law_333 (by decide) ?_
  refine ev_iaddN (pc := 334) dL_law_334 ?_
  refine ev_rs (pc := 335) dL_law_335 hb (by omega) (by omega) ?_
  refine ev_aload_n (pc := 336) dL_law_336 rfl ?_
  refine ev_iload (pc := 337) dL_law_337 rfl ?_
  refine ev_iconst (pc := 339) (v := nI 2) dL_law_339 (by decide) ?_
  refine ev_iaddN (pc := 340) dL_law_340 ?_
  refine ev_rs (pc := 341) dL_law_341 hb (by omega) (by omega) ?_
  refine ev_aload_n (pc := 342) dL_law_342 rfl ?_
  refine ev_iload (pc := 343) dL_law_343 rfl ?_
  refine ev_iconst (pc := 345) (v := nI 3) dL_law_345 (by decide) ?_
  refine ev_iaddN (pc := 346) dL_law_346 ?_
  refine ev_rs (pc := 347) dL_law_347 hb (by omega) (by omega) ?_
  refine ev_aload_n (pc := 348) dL_law_348 rfl ?_
  refine ev_iload (pc := 349) dL_law_349 rfl ?_
  refine ev_iconst (pc := 351) (v := nI 4) dL_law_351 (by decide) ?_
  refine ev_iaddN (pc := 352) dL_law_352 ?_
  refine ev_rs (pc := 353) dL_law_353 hb (by omega) (by omega) ?_
  refine ev_aload_n (pc := 354) dL_law_354 rfl ?_
  refine ev_iload (pc := 355) dL_law_355 rfl ?_
  refine ev_iconst (pc := 357) (v := nI 5) dL_law_357 (by decide) ?_
  refine ev_iaddN (pc := 358) dL_law_358 ?_
  refine ev_rs (pc := 359) dL_law_359 hb (by omega) (by omega) ?_
  refine ev_callVf (pc := 360) (As := [.int (xs (i + 1)), .int (xs (i + 2)), .int (xs (i + 3)), .int (xs (i + 4)), .int (xs (i + 5))]) (hs := pp) (hf := (ev_jn rr (oh o g))) dL_law_360 cv_L_56 rfl rfl hB.1 rfl (hC _ _ _ _ _ _ ⟨by show 19 + 7 ≤ w; omega, show ev_Ca _ _ (w - 26) _ _ _ _ _ _ from k_event (by omega) (by omega) hB v1 hA hD.2.2.2.2 v3⟩) rfl rfl rfl (dj_f (dj_jn d.1 d.2.1)) (fun r h1 hp hq => ?_)
  have key : ∃ (y : Int32) (R1 : Nat → Nat → Int32) (wa1 : Nat), r = some (.int y) ∧ PF h1 bp lay sa sb ga tc P fu fd mem val ba dn R1 wa1 ar lv f len ∧ PV P fu fd mem val ba dn R1 wa1 ar len ∧ (((ba = 1 ∧ ri (xs (i + 1)) 0 8 ∧ ri (xs (i + 2)) 0 7 ∧ wa < 16) ∧ y = nI (wa + 1) ∧ wa1 = wa + 1 ∧ (∀ a b, (5 ≤ a ∨ b ≠ wa) → R1 a b = R a b) ∧ (R1 0 wa = xs (i + 1) ∧ R1 1 wa = xs (i + 2) ∧ R1 2 wa = xs (i + 3) ∧ R1 3 wa = xs (i + 4) ∧ R1 4 wa = xs (i + 5))) ∨ (¬ (ba = 1 ∧ ri (xs (i + 1)) 0 8 ∧ ri (xs (i + 2)) 0 7 ∧ wa < 16) ∧ y = -1 ∧ wa1 = wa ∧ R1 = R)) := by
    rcases hp with ⟨e1, e2, R1, e3, e4, e5, e6⟩ | ⟨e1, e2, e3⟩
    · refine ⟨_, R1, wa + 1, e2, ?_, ?_, Or.inl ⟨e1, rfl, rfl, e3, e4⟩⟩
      · have k := AF.cf hA e6
        exact ⟨dw_af hA e6 hW, bq_af hA e6 hB, sh_af hA e6 hS, ⟨Pb, fub, fdb, memb, sh_af hA e6 hT⟩, e5, lv_cf k hV, tx_cf k hX⟩
      · obtain ⟨kn, ek, k1, k2⟩ := ri_nI (x := xs (i + 1)) (lo := 0) (hi := 8) e1.2.1 (by decide)
        obtain ⟨sn, es, s1, s2⟩ := ri_nI (x := xs (i + 2)) (lo := 0) (hi := 7) e1.2.2.1 (by decide)
        refine ⟨⟨vP, vf, vfb, vm⟩, ⟨v1, v2, by omega, v4, v5⟩, vz, ⟨v9, v10⟩, vo, va_up kd wa kn, va_up sh wa sn, fun j hj => ?_⟩
        by_cases q : j = wa
        · subst q
          rw [va_up_self, va_up_self, e4.1, e4.2.1]
          exact ⟨ek, es, by omega, by omega⟩
        · rw [va_up_ne _ _ q, va_up_ne _ _ q, e3 0 j (Or.inr q), e3 1 j (Or.inr q)]
          exact vE j (by omega)
    · exact ⟨_, R, wa, e2, by rw [e3]; exact hPF, hPV, Or.inr ⟨e1, rfl, rfl, rfl⟩⟩
  clear hp
  obtain ⟨y, R1, wa1, rfl, hPF2, hPV2, hy⟩ := key
  have d2 := ld_p d hq
  clear hq
  generalize h1 = pq2 at *
  refine ev_aload_n (pc := 363) dL_law_363 rfl ?_
  refine ev_aload_n (pc := 364) dL_law_364 rfl ?_
  refine ev_iload (pc := 365) dL_law_365 rfl ?_
  refine ev_iconst (pc := 367) (v := nI 1) dL_law_367 (by decide) ?_
  refine ev_iaddN (pc := 368) dL_law_368 ?_
  refine ev_rs (pc := 369) dL_law_369 hb (by omega) (by omega) ?_
  refine ev_aload_n (pc := 370) dL_law_370 rfl ?_
  refine ev_iload (pc := 371) dL_law_371 rfl ?_
  refine ev_iconst (pc := 373) (v := nI 2) dL_law_373 (by decide) ?_
  refine ev_iaddN (pc := 374) dL_law_374 ?_
  refine ev_rs (pc := 375) dL_law_375 hb (by omega) (by omega) ?_
  refine ev_aload_n (pc := 376) dL_law_376 rfl ?_
  refine ev_iload (pc := 377) dL_law_377 rfl ?_
  refine ev_iconst (pc := 379) (v := nI 3) dL_law_379 (by decide) ?_
  refine ev_iaddN (pc := 380) dL_law_380 ?_
  refine ev_rs (pc := 381) dL_law_381 hb (by omega) (by omega) ?_
  refine ev_aload_n (pc := 382) dL_law_382 rfl ?_
  refine ev_iload (pc := 383) dL_law_383 rfl ?_
  refine ev_iconst (pc := 385) (v := nI 4) dL_law_385 (by decide) ?_
  refine ev_iaddN (pc := 386) dL_law_386 ?_
  refine ev_rs (pc := 387) dL_law_387 hb (by omega) (by omega) ?_
  refine ev_aload_n (pc := 388) dL_law_388 rfl ?_
  refine ev_iload (pc := 389) dL_law_389 rfl ?_
  refine ev_iconst (pc := 391) (v := nI 5) dL_law_391 (by decide) ?_
  refine ev_iaddN (pc := 392) dL_law_392 ?_
  refine ev_rs (pc := 393) dL_law_393 hb (by omega) (by omega) ?_
  refine ev_callVf (pc := 394) (As := [.int (xs (i + 1)), .int (xs (i + 2)), .int (xs (i + 3)), .int (xs (i + 4)), .int (xs (i + 5))]) (hs := rr) (hf := (ev_jn pq2 (oh o g))) dL_law_394 cv_L_60 rfl rfl (ms_M hM) rfl (hC _ _ _ _ _ _ ⟨by show 19 + 6 ≤ w; omega, show ev_Ca _ _ (w - 25) _ _ _ _ _ _ from k_revent (by omega) (by omega) hM (by omega) (by omega)⟩) rfl rfl (jn_sw d2.1) (dj_f (dj_jn d2.1.sy d2.2.2)) (fun r h1 hp hq => ?_)
  have key : r = some (.int y) ∧ ∃ I3 Rr3, MS h1 A I3 v Q Rr3 lvr fr ∧ RE P fu fd mem val ba dn R1 wa1 ar lv f len I3 v Q Rr3 lvr fr := by
    unfold okev at hp
    rw [r1, r3] at hp
    rcases hp with ⟨e1, e2, Rr3, e3, e4, e5⟩ | ⟨e1, e2, e3⟩
    · rcases hy with ⟨f1, f2, f3, f4, f5⟩ | ⟨f1, f2, f3, f4⟩
      · refine ⟨by rw [e2, f2], _, Rr3, e5.1, ⟨r0, r1, ?_, r4, r5, r6⟩, ra, rd, fun a ha j hj => ?_, fun j hj => ?_, rlv, rf⟩
        · rw [f3]; rfl
        · subst f3
          by_cases q : j = wa
          · subst q
            obtain ⟨a0, a1, a2, a3, a4⟩ := e4
            obtain ⟨b0, b1, b2, b3, b4⟩ := f5
            match a, ha with
            | 0, _ => exact a0.trans b0.symm
            | 1, _ => exact a1.trans b1.symm
            | 2, _ => exact a2.trans b2.symm
            | 3, _ => exact a3.trans b3.symm
            | 4, _ => exact a4.trans b4.symm
            | a + 5, h => omega
          · rw [e3 a j (Or.inr q), f4 a j (Or.inr q)]
            exact rr5 a ha j (by omega)
        · rw [e3 5 j (Or.inl (by decide)), e3 6 j (Or.inl (by decide)), f4 5 j (Or.inl (by decide)), f4 6 j (Or.inl (by decide))]
          exact rr6 j hj
      · exact absurd e1 f1
    · rcases hy with ⟨f1, f2, f3, f4, f5⟩ | ⟨f1, f2, f3, f4⟩
      · exact absurd f1 e1
      · subst f3
        subst f4
        exact ⟨by rw [e2, f2], _, Rr, e3.1, re_I hRE (fun k hk => if_neg (by omega))⟩
  obtain ⟨rfl, I3, Rr3, hM2, hRE2⟩ := key
  refine ev_icmp_eq (pc := 397) (tgt := 674) dL_law_397 (by decide) (fun _ => ?_) (fun q => absurd rfl q)
  refine ev_th (jn_sw (dj_q hq).1) ?_
  exact hN _ pq2 h1 g _ _ (by omega) ⟨rfl, rfl, rfl, rfl, rfl, trivial⟩ ⟨P, fu, fd, mem, val, ba, dn, R1, wa1, ar, lv, f, len, I3, v, Q, Rr3, lvr, fr, hPF2, hPV2, hM2, hRE2⟩ (ld_r d2 hq)
theorem tw_k (hS : WS pp lay val) (hX : TX pp (bp 5) tc (lay 19).1 f len) (hF : TWF lay (bp 5) tc pp p2) {a : Nat} {x : ev_C} (ha : pp a = some x) (n1 : ∀ fs, x ≠ .inr (5, fs)) (n2 : ∀ f, x ≠ .inl (.int, 72, .inl f)) (n3 : ∀ fs, x ≠ .inr (4, fs)) (n4 : ∀ f, x ≠ .inl (.char, 640, f)) : p2 a = some x := (hF a (ne_of ha hX.1 (fun q => n3 _ q)) (ne_of ha hX.2.1 (fun q => n4 _ q)) (ws_out hS ha n1 n2)).trans ha
theorem sh_tw {S : Nat} {sc : Nat → Nat} (hS : WS pp lay val) (hX : TX pp (bp 5) tc (lay 19).1 f len) (hF : TWF lay (bp 5) tc pp p2) (h : SH pp S sc P fu fd mem) : SH p2 S sc P fu fd mem := by
  obtain ⟨a1, a2, a3, a4, a5⟩ := h
  exact ⟨tw_k hS hX hF a1 (fun fs e => by cases e) (fun fs e => by cases e) (fun fs e => by cases e) (fun fs e => by cases e), tw_k hS hX hF a2 (fun fs e => by cases e) (fun fs e => by cases e) (fun fs e => by cases e) (fun fs e => by cases e), fun k hk => tw_k hS hX hF (a3 k hk) (fun fs e => by cases e) (fun fs e => by cases e) (fun fs e => by cases e) (fun fs e => by cases e), tw_k hS hX hF a4 (fun fs e => by cases e) (fun fs e => by cases e) (fun fs e => by cases e) (fun fs e => by cases e), tw_k hS hX hF a5 (fun fs e => by cases e) (fun fs e => by cases e) (fun fs e => by cases e) (fun fs e => by cases e)⟩
theorem ag_tw {S : Nat} {sc : Nat → Nat} (hS : WS pp lay val) (hX : TX pp (bp 5) tc (lay 19).1 f len) (hF : TWF lay (bp 5) tc pp p2) (h : AG pp S sc R wa ar) : AG p2 S sc R wa ar := ⟨tw_k hS hX hF h.1 (fun fs e => by cases e) (fun fs e => by cases e) (fun fs e => by cases e) (fun fs e => by cases e), fun k hk => tw_k hS hX hF (h.2 k hk) (fun fs e => by cases e) (fun fs e => by cases e) (fun fs e => by cases e) (fun fs e => by cases e)⟩
theorem pq_uni {x0 x1 : Int32} {D1 D2 a b a2 b2 : Nat} (h : pq P fu fd mem D1 D2 x0 x1 a b) (h2 : pq P fu fd mem D1 D2 x0 x1 a2 b2) : a = a2 ∧ b = b2 := by
  have n01 : nI 0 ≠ nI 1 := by decide
  have n02 : nI 0 ≠ nI 2 := by decide
  have n12 : nI 1 ≠ nI 2 := by decide
  rcases h with ⟨q, rfl, rfl⟩ | ⟨q, rfl, rfl⟩ | ⟨q, s, s1, s2, rfl, rfl⟩
  · rcases h2 with ⟨p, rfl, rfl⟩ | ⟨p, rfl, rfl⟩ | ⟨p, s, s1, s2, rfl, rfl⟩
    · exact ⟨rfl, rfl⟩
    · exact absurd (q.symm.trans p) n01
    · exact absurd (q.symm.trans p) n02
  · rcases h2 with ⟨p, rfl, rfl⟩ | ⟨p, rfl, rfl⟩ | ⟨p, s, s1, s2, rfl, rfl⟩
    · exact absurd (p.symm.trans q) n01
    · exact ⟨rfl, rfl⟩
    · exact absurd (q.symm.trans p) n12
  · rcases h2 with ⟨p, rfl, rfl⟩ | ⟨p, rfl, rfl⟩ | ⟨p, t, t1, t2, rfl, rfl⟩
    · exact absurd (p.symm.trans q) n02
    · exact absurd (p.symm.trans q) n12
    · have es : s = t := (nI_eq (by omega) (by omega)).mp (s2.symm.trans t2)
      subst es
      exact ⟨rfl, rfl⟩
theorem pq_re {x0 x1 : Int32} {a b : Nat} (q : ba = 1) (hRE : RE P fu fd mem val ba dn R wa ar lv f len I v Q Rr lvr fr) (h : pq Q v (fun s => v (8 + s)) (I 0) (v 32) (v 33) x0 x1 a b) : pq P fu fd mem (val 9) (val 10) x0 x1 a b := by
  have hs := re_su hRE
  obtain ⟨-, ra, rd, -⟩ := hRE
  unfold pq at h
  rw [hs, (rd q).1, (rd q).2] at h
  rcases h with h | h | ⟨q, s, s1, s2, s3, s4⟩
  · exact Or.inl h
  · exact Or.inr (Or.inl h)
  · refine Or.inr (Or.inr ⟨q, s, s1, s2, ?_, ?_⟩)
    · rw [s3, (ra.2 s s1).1]
    · rw [s4]; exact (ra.2 s s1).2
theorem c_print (hd : 10 ≤ dd) (hw : 400 ≤ w) (hC : LC G C dd w) (hD : PD bp sa sb ga) (hb : G.1 b = some (L, xs)) (hi : i + 6 ≤ L) (hL : L ≤ 3072) (hJ : JI pp rr bp lay sa sb ga tc A) (d : ld pp rr o g) (hc : n + 1 ≤ c ∧ 6 * (n + 1) ≤ z) (hN : LN G C w K b i o bp lay sa sb ga tc A n) : ev_J G C w m_L_law K (574, lv_ b (bp 0) (A 17) o i, [], lh pp rr o g, c, z) := by
  obtain ⟨P, fu, fd, mem, val, ba, dn, R, wa, ar, lv, f, len, I, v, Q, Rr, lvr, fr, hPF, hPV, hM, hRE⟩ := hJ
  obtain ⟨hW, hB, hS, ⟨Pb, fub, fdb, memb, hT⟩, hA, hV, hX⟩ := id hPF
  obtain ⟨⟨vP, vf, vfb, vm⟩, ⟨v1, v2, v3, v4, v5⟩, vz, ⟨v9, v10⟩, vo, kd, sh, vE⟩ := id hPV
  obtain ⟨⟨r0, r1, r3, r4, r5, r6⟩, ra, rd, rr5, rr6, rlv, rf⟩ := id hRE
  refine ev_aload_n (pc := 574) dL_law_574 rfl ?_
  refine ev_aload_n (pc := 575) dL_law_575 rfl ?_
  refine ev_iload (pc := 576) dL_law_576 rfl ?_
  refine ev_iconst (pc := 578) (v := nI 1) dL_law_578 (by decide) ?_
  refine ev_iaddN (pc := 579) dL_law_579 ?_
  refine ev_rs (pc := 580) dL_law_580 hb (by omega) (by omega) ?_
  refine ev_aload_n (pc := 581) dL_law_581 rfl ?_
  refine ev_iload (pc := 582) dL_law_582 rfl ?_
  refine ev_iconst (pc := 584) (v := nI 2) dL_law_584 (by decide) ?_
  refine ev_iaddN (pc := 585) dL_law_585 ?_
  refine ev_rs (pc := 586) dL_law_586 hb (by omega) (by omega) ?_
  refine ev_callVf (pc := 587) (As := [.int (xs (i + 1)), .int (xs (i + 2))]) (hs := pp) (hf := (ev_jn rr (oh o g))) dL_law_587 cv_L_92 rfl rfl hB.1 rfl (hC _ _ _ _ _ _ ⟨by show 19 + 4 ≤ w; omega, show ev_Ca _ _ (w - 23) _ _ _ _ _ _ from k_print (by omega) (by omega) hW hB v1 hS hX vP vf vfb vm (fun q => (vo q).1) (fun q => (vo q).2.1) (fun q => (vo q).2.2.1) v9 v10⟩) rfl rfl rfl (dj_f (dj_jn d.1 d.2.1)) (fun r h1 hp hq => ?_)
  have key : ∃ (y : Int32) (val2 : Nat → Nat) (f2 : Nat → Nat) (len2 : Nat), r = some (.int y) ∧ PF h1 bp lay sa sb ga tc P fu fd mem val2 ba dn R wa ar lv f2 len2 ∧ len2 ≤ 640 ∧ val2 9 = val 9 ∧ val2 10 = val 10 ∧ ((pk ba (xs (i + 1)) (xs (i + 2)) ∧ ∃ a b, pq P fu fd mem (val 9) (val 10) (xs (i + 1)) (xs (i + 2)) a b ∧ y = nI len2 ∧ wrt a b f2 len2) ∨ (¬ pk ba (xs (i + 1)) (xs (i + 2)) ∧ y = -1 ∧ f2 = f ∧ len2 = len)) := by
    rcases hp with ⟨e1, a, b, e2, n, f1, val2, e3, e4, e5, e6, e7, e8, e9⟩ | ⟨e1, e2, e3⟩
    · refine ⟨_, val2, f1, n, e3, ?_, e5, e7 9 (by decide) (by decide) (by decide) (by decide), e7 10 (by decide) (by decide) (by decide) (by decide), Or.inl ⟨e1, a, b, e2, rfl, e4⟩⟩
      exact ⟨e6, bq_tw hW.2.1 hX e9 hB, sh_tw hW.2.1 hX e9 hS, ⟨Pb, fub, fdb, memb, sh_tw hW.2.1 hX e9 hT⟩, ag_tw hW.2.1 hX e9 hA, (e9 _ (ne_of hV hX.1 (fun q => by cases q)) (ne_of hV hX.2.1 (fun q => by cases q)) (ws_out hW.2.1 hV (fun fs e => by cases e) (fun f e => by cases e))).trans hV, e8⟩
    · exact ⟨_, val, f, len, e2, by rw [e3]; exact hPF, v5, rfl, rfl, Or.inr ⟨e1, rfl, rfl, rfl⟩⟩
  clear hp
  obtain ⟨y, val2, f2, len2, rfl, hPF2, l2, e9, e10, hy⟩ := key
  have d2 := ld_p d hq
  clear hq
  generalize h1 = pq2 at *
  refine ev_aload_n (pc := 590) dL_law_590 rfl ?_
  refine ev_aload_n (pc := 591) dL_law_591 rfl ?_
  refine ev_iload (pc := 592) dL_law_592 rfl ?_
  refine ev_iconst (pc := 594) (v := nI 1) dL_law_594 (by decide) ?_
  refine ev_iaddN (pc := 595) dL_law_595 ?_
  refine ev_rs (pc := 596) dL_law_596 hb (by omega) (by omega) ?_
  refine ev_aload_n (pc := 597) dL_law_597 rfl ?_
  refine ev_iload (pc := 598) dL_law_598 rfl ?_
  refine ev_iconst (pc := 600) (v := nI 2) dL_law_600 (by decide) ?_
  refine ev_iaddN (pc := 601) dL_law_601 ?_
  refine ev_rs (pc := 602) dL_law_602 hb (by omega) (by omega) ?_
  refine ev_callVf (pc := 603) (As := [.int (xs (i + 1)), .int (xs (i + 2))]) (hs := rr) (hf := (ev_jn pq2 (oh o g))) dL_law_603 cv_L_95 rfl rfl (ms_M hM) rfl (hC _ _ _ _ _ _ ⟨by show 19 + 3 ≤ w; omega, show ev_Ca _ _ (w - 22) _ _ _ _ _ _ from k_rprint (by omega) (by omega) hM (by omega) (fun q => ⟨(re_ok hPV hRE q).1, (re_ok hPV hRE q).2.2⟩)⟩) rfl rfl (jn_sw d2.1) (dj_f (dj_jn d2.1.sy d2.2.2)) (fun r h1 hp hq => ?_)
  have hPV2 : PV P fu fd mem val2 ba dn R wa ar len2 := pv_val (val := val) ⟨⟨vP, vf, vfb, vm⟩, ⟨v1, v2, v3, v4, l2⟩, vz, ⟨v9, v10⟩, vo, kd, sh, vE⟩ e9 e10
  have key : r = some (.int y) ∧ ∃ I3 v3 fr3, MS h1 A I3 v3 Q Rr lvr fr3 ∧ RE P fu fd mem val2 ba dn R wa ar lv f2 len2 I3 v3 Q Rr lvr fr3 := by
    rw [r1] at hp
    rcases hp with ⟨e1, a, b, e2, m, f3, v3, I3, g1, g2, g3, g4, g5, g6, g7, g8⟩ | ⟨e1, e2, e3⟩
    · rcases hy with ⟨f1, a2, b2, k2, k3, k4⟩ | ⟨f1, k2, k3, k4⟩
      · have e2' := pq_re e1.1 hRE e2
        obtain ⟨rfl, rfl⟩ := pq_uni e2' k2
        obtain ⟨rfl, ej⟩ := wrt_uni g2 k4
        refine ⟨by rw [g1, k3], I3, v3, f3, g4.1, ?_⟩
        have hR2 : RE P fu fd mem val2 ba dn R wa ar lv f2 m (va_up I 6 m) v Q Rr lvr f3 := by
          refine ⟨⟨r0, r1, r3, r4, r5, rfl⟩, ra, fun q => ?_, rr5, rr6, rlv, ej⟩
          rw [e9, e10]
          exact rd q
        refine re_I (re_v hR2 g8) (fun k hk => ?_)
        by_cases q : k = 6
        · rw [q, g5]; rw [va_up_self]
        · rw [g7 k q (by omega)]; rw [va_up_ne _ _ q]
      · exact absurd e1 f1
    · rcases hy with ⟨f1, a2, b2, k2, k3, k4⟩ | ⟨f1, k2, k3, k4⟩
      · exact absurd f1 e1
      · subst k3
        subst k4
        exact ⟨by rw [e2, k2], _, v, fr, e3.1, re_I (re_val hRE e9 e10) (fun k hk => if_neg (by omega))⟩
  obtain ⟨rfl, I3, v3, fr3, hM2, hRE2⟩ := key
  refine ev_icmp_eq (pc := 606) (tgt := 674) dL_law_606 (by decide) (fun _ => ?_) (fun q => absurd rfl q)
  refine ev_th (jn_sw (dj_q hq).1) ?_
  exact hN _ pq2 h1 g _ _ (by omega) ⟨rfl, rfl, rfl, rfl, rfl, trivial⟩ ⟨P, fu, fd, mem, val2, ba, dn, R, wa, ar, lv, f2, len2, I3, v3, Q, Rr, lvr, fr3, hPF2, hPV2, hM2, hRE2⟩ (ld_r d2 hq)
end LAW2
