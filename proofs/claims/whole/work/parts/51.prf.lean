/-! IndexBureau: perform -/
def kf (x : ev_C) : Prop := (∀ fs, x ≠ .inr (5, fs)) ∧ (∀ f, x ≠ .inl (.int, 72, .inl f)) ∧ (∀ fs, x ≠ .inr (3, fs)) ∧ (∀ f, x ≠ .inl (.int, 8, .inl f)) ∧ ∀ f, x ≠ .inl (.long, 8, .inr (.inl f))
/-- nothing changed but numbers and shares -/
def KF (H h1 : ev_H) : Prop := ∀ a x, H a = some x → kf x → h1 a = some x
theorem KF.rf {H : ev_H} : KF H H := fun _ _ h _ => h
theorem KF.tr {H h1 h2 : ev_H} (a : KF H h1) (b : KF h1 h2) : KF H h2 := fun x y hx hy => b x y (a x y hx hy) hy
theorem ch_le {kd s : Nat} {a b c : Int32} {P : Nat → Nat → Nat} {fu fd : Nat → Nat} {mem : Nat} : (ch kd s a b c P fu fd mem).1 ≤ 2 := by
  have ex : ∀ cu cd pu pd, (sp_ex P s cu cd pu pd).1 ≤ 2 := by
    intro cu cd pu pd
    unfold sp_ex
    split <;> exact Nat.le_of_ble_eq_true rfl
  unfold ch
  split
  · show (sp_split P s a b).1 ≤ 2
    unfold sp_split
    split
    · exact ex _ _ _ _
    · exact Nat.le_of_ble_eq_true rfl
  · show (sp_rights P s a b c).1 ≤ 2
    unfold sp_rights
    split
    · split
      · exact Nat.le_of_ble_eq_true rfl
      · exact ex _ _ _ _
    · exact Nat.le_of_ble_eq_true rfl
  · show (sp_div P s a).1 ≤ 2
    unfold sp_div
    split <;> exact Nat.le_of_ble_eq_true rfl
  · show (sp_div P s a).1 ≤ 2
    unfold sp_div
    split <;> exact Nat.le_of_ble_eq_true rfl
  · show (sp_leave mem s).1 ≤ 2
    unfold sp_leave
    split <;> exact Nat.le_of_ble_eq_true rfl
  · show (sp_join mem s).1 ≤ 2
    unfold sp_join
    split <;> exact Nat.le_of_ble_eq_true rfl
  · show (sp_rep P s 1 a).1 ≤ 2
    unfold sp_rep
    split <;> exact Nat.le_of_ble_eq_true rfl
  · show (sp_rep P s 2 a).1 ≤ 2
    unfold sp_rep
    split <;> exact Nat.le_of_ble_eq_true rfl
  · split <;> exact Nat.le_of_ble_eq_true rfl
section PRF
variable {G : ev_G} {w : Nat} {H h1 : ev_H} {bp : Nat → Nat} {lay : Nat → Nat × Nat} {val : Nat → Nat} {i j k dd s : Nat} {sa sb ga : Nat → Nat} {P Pb : Nat → Nat → Nat} {fu fd fub fdb : Nat → Nat} {mem memb : Nat} {dn ba sd : Nat} {R : Nat → Nat → Int32} {wa ar : Nat} {S D A : Nat}
theorem WF.kf (hS : WS H lay val) (hF : WF lay H h1) : KF H h1 := fun a x ha hk => (hF a (ws_out hS ha hk.1 hk.2.1)).trans ha
theorem sh_out (h : SH H S sa P fu fd mem) {a : Nat} {x : ev_C} (ha : H a = some x) (n1 : ∀ fs, x ≠ .inr (3, fs)) (n2 : ∀ f, x ≠ .inl (.int, 8, .inl f)) (n3 : ∀ f, x ≠ .inl (.long, 8, .inr (.inl f))) : a ≠ S ∧ ∀ k, 1 ≤ k → k ≤ 5 → a ≠ sa k := by
  obtain ⟨a1, a2, a3, a4, a5⟩ := h
  refine ⟨fun e => ?_, fun k k1 k2 e => ?_⟩
  · rw [e, a1] at ha; exact n1 _ (Option.some.inj ha).symm
  · rcases (show k = 1 ∨ k = 2 ∨ k = 3 ∨ k = 4 ∨ k = 5 by omega) with q | q | q | q | q
    · rw [e, q, a3 0 (by decide)] at ha; exact n2 _ (Option.some.inj ha).symm
    · rw [e, q, a3 1 (by decide)] at ha; exact n2 _ (Option.some.inj ha).symm
    · rw [e, q, a3 2 (by decide)] at ha; exact n2 _ (Option.some.inj ha).symm
    · rw [e, q, a4] at ha; exact n3 _ (Option.some.inj ha).symm
    · rw [e, q, a5] at ha; exact n3 _ (Option.some.inj ha).symm
theorem SF.kf (h : SH H S sa P fu fd mem) (hF : SF S sa H h1) : KF H h1 := fun a x ha hk => (hF a (sh_out h ha hk.2.2.1 hk.2.2.2.1 hk.2.2.2.2).1 (sh_out h ha hk.2.2.1 hk.2.2.2.1 hk.2.2.2.2).2).trans ha
theorem dw_sf (h : DW H D lay val) (hS : SH H S sa P fu fd mem) (hF : SF S sa H h1) : DW h1 D lay val := by
  obtain ⟨b1, b2, b3⟩ := h
  have g : ∀ {a x}, H a = some x → (∀ fs, x ≠ .inr (3, fs)) → (∀ f, x ≠ .inl (.int, 8, .inl f)) → (∀ f, x ≠ .inl (.long, 8, .inr (.inl f))) → h1 a = some x := fun ha n1 n2 n3 => (hF _ (sh_out hS ha n1 n2 n3).1 (sh_out hS ha n1 n2 n3).2).trans ha
  refine ⟨b1, fun k hk => ?_, g b3 (fun fs e => by cases e) (fun f e => by cases e) (fun f e => by cases e)⟩
  obtain ⟨q, n, c1, c2, c3⟩ := b2 k hk
  exact ⟨q, n, g c1 (fun fs e => by cases e) (fun f e => by cases e) (fun f e => by cases e), g c2 (fun fs e => by cases e) (fun f e => by cases e) (fun f e => by cases e), c3⟩
theorem bq_kf (hK : KF H h1) (h : BQ H bp lay dn ba sd) : BQ h1 bp lay dn ba sd := ⟨hK _ _ h.1 ⟨fun fs e => (by cases e), fun fs e => (by cases e), fun fs e => (by cases e), fun fs e => (by cases e), fun fs e => (by cases e)⟩, fun i hi => hK _ _ (h.2 i hi) ⟨fun fs e => (by cases e), fun fs e => (by cases e), fun fs e => (by cases e), fun fs e => (by cases e), fun fs e => (by cases e)⟩⟩
theorem ag_kf (hK : KF H h1) (h : AG H A ga R wa ar) : AG h1 A ga R wa ar := ⟨hK _ _ h.1 ⟨fun fs e => (by cases e), fun fs e => (by cases e), fun fs e => (by cases e), fun fs e => (by cases e), fun fs e => (by cases e)⟩, fun i hi => hK _ _ (h.2 i hi) ⟨fun fs e => (by cases e), fun fs e => (by cases e), fun fs e => (by cases e), fun fs e => (by cases e), fun fs e => (by cases e)⟩⟩
/-- what perform leaves -/
def ppost (H : ev_H) (bp : Nat → Nat) (lay : Nat → Nat × Nat) (sa sb : Nat → Nat) (q : Nat × ((Nat → Nat → Nat) × (Nat → Nat) × (Nat → Nat) × Nat) × Nat × Nat) (r : Option Value) (h1 : ev_H) : Prop := r = some (.int (nI q.1)) ∧ ∃ P1 fu1 fd1 Pb1 fub1 fdb1 memb1 v1, DW h1 (bp 4) lay v1 ∧ SH h1 (bp 1) sa P1 fu1 fd1 q.2.1.2.2.2 ∧ SH h1 (bp 2) sb Pb1 fub1 fdb1 memb1 ∧ ag3 P1 fu1 fd1 q.2.1.1 q.2.1.2.1 q.2.1.2.2.1 ∧ v1 9 = q.2.2.1 ∧ v1 10 = q.2.2.2 ∧ KF H h1
theorem k_perform {pl kd : Nat} {a b c : Int32} (hd : 8 ≤ dd) (hw : 190 ≤ w) (hG : G_ok G) (h : DW H (bp 4) lay val) (hB : BQ H bp lay dn ba sd) (hS : SH H (bp 1) sa P fu fd mem) (hS2 : SH H (bp 2) sb Pb fub fdb memb) (hX1 : SX (bp 1) sa (bp 2) sb) (hX2 : SX (bp 2) sb (bp 1) sa) (hD : SD sa) (hD2 : SD sb) (hA : AG H (bp 3) ga R wa ar) (hpl : pl < 16) (r0 : R 0 pl = nI kd) (r1 : R 1 pl = nI s) (r2 : R 2 pl = a) (r3 : R 3 pl = b) (r4 : R 4 pl = c) (hk : kd < 9) (hs : s < 8) (ok : st_ok P fu fd mem) (dv : dv_ok (val 9) (val 10)) : ev_Ca G dd w m_X8_perform [.ref (bp 0), .int (nI pl)] H 0 0 (ev_ok (ppost H bp lay sa sb (pf kd s a b c P fu fd mem (val 9) (val 10)))) := by
  obtain ⟨dd, rfl⟩ : ∃ e, dd = e + 1 := ⟨dd - 1, by omega⟩
  refine ⟨by decide +kernel, rfl, ?_⟩
  obtain ⟨hP, hf, hm, hm0⟩ := id ok
  obtain ⟨w9, w10, v9, v10, hc⟩ := id dv
  refine ev_aload_n (pc := 0) dX8_perform_0 rfl ?_
  refine ev_getf (pc := 1) dX8_perform_1 f_X8_22 hB.1 rfl ?_
  refine ev_getf (pc := 4) dX8_perform_4 f_X8_220 hA.1 rfl ?_
  refine ev_iload_n (pc := 7) dX8_perform_7 rfl ?_
  refine ev_iaF (pc := 8) dX8_perform_8 (hA.2 0 (by decide)) hpl (by decide) r0 ?_
  refine ev_istore_n (pc := 9) dX8_perform_9 rfl ?_
  refine ev_aload_n (pc := 10) dX8_perform_10 rfl ?_
  refine ev_getf (pc := 11) dX8_perform_11 f_X8_22 hB.1 rfl ?_
  refine ev_getf (pc := 14) dX8_perform_14 f_X8_223 hA.1 rfl ?_
  refine ev_iload_n (pc := 17) dX8_perform_17 rfl ?_
  refine ev_iaF (pc := 18) dX8_perform_18 (hA.2 2 (by decide)) hpl (by decide) r2 ?_
  refine ev_istore_n (pc := 19) dX8_perform_19 rfl ?_
  refine ev_aload_n (pc := 20) dX8_perform_20 rfl ?_
  refine ev_getf (pc := 21) dX8_perform_21 f_X8_16 hB.1 rfl ?_
  refine ev_aload_n (pc := 24) dX8_perform_24 rfl ?_
  refine ev_getf (pc := 25) dX8_perform_25 f_X8_10 hB.1 rfl ?_
  refine ev_callV (pc := 28) (As := [.ref (bp 1)]) dX8_perform_28 cv_X8_226 rfl rfl hS2.1 rfl ⟨by show 19 + 3 ≤ w; omega, show ev_Ca _ _ (w - 22) _ _ _ _ _ _ from k_scopy (by omega) (by omega) hS2 hS hX2 hD2⟩ rfl rfl (fun r h1 hp => ?_)
  obtain ⟨rfl, Pb1, fub1, fdb1, g1, g2, hT2, F1⟩ := hp
  have agb : ag3 Pb1 fub1 fdb1 P fu fd := ⟨g1, g2⟩
  have K1 := F1.kf hS2
  have hT := sh_sf hX2 F1 hS
  have h2 := dw_sf h hS2 F1
  have hB2 := bq_kf K1 hB
  have hA2 := ag_kf K1 hA
  refine ev_aload_n (pc := 31) dX8_perform_31 rfl ?_
  refine ev_getf (pc := 32) dX8_perform_32 f_X8_10 hB2.1 rfl ?_
  refine ev_iload_n (pc := 35) dX8_perform_35 rfl ?_
  refine ev_aload_n (pc := 36) dX8_perform_36 rfl ?_
  refine ev_getf (pc := 37) dX8_perform_37 f_X8_22 hB2.1 rfl ?_
  refine ev_getf (pc := 40) dX8_perform_40 f_X8_229 hA2.1 rfl ?_
  refine ev_iload_n (pc := 43) dX8_perform_43 rfl ?_
  refine ev_iaF (pc := 44) dX8_perform_44 (hA2.2 1 (by decide)) hpl (by decide) r1 ?_
  refine ev_iload_n (pc := 45) dX8_perform_45 rfl ?_
  refine ev_aload_n (pc := 46) dX8_perform_46 rfl ?_
  refine ev_getf (pc := 47) dX8_perform_47 f_X8_22 hB2.1 rfl ?_
  refine ev_getf (pc := 50) dX8_perform_50 f_X8_232 hA2.1 rfl ?_
  refine ev_iload_n (pc := 53) dX8_perform_53 rfl ?_
  refine ev_iaF (pc := 54) dX8_perform_54 (hA2.2 3 (by decide)) hpl (by decide) r3 ?_
  refine ev_aload_n (pc := 55) dX8_perform_55 rfl ?_
  refine ev_getf (pc := 56) dX8_perform_56 f_X8_22 hB2.1 rfl ?_
  refine ev_getf (pc := 59) dX8_perform_59 f_X8_235 hA2.1 rfl ?_
  refine ev_iload_n (pc := 62) dX8_perform_62 rfl ?_
  refine ev_iaF (pc := 63) dX8_perform_63 (hA2.2 4 (by decide)) hpl (by decide) r4 ?_
  refine ev_callV (pc := 64) (As := [.int (nI kd), .int (nI s), .int a, .int b, .int c]) dX8_perform_64 cv_X8_238 rfl rfl hT.1 rfl ⟨by show 19 + 6 ≤ w; omega, show ev_Ca _ _ (w - 25) _ _ _ _ _ _ from k_change (by omega) (by omega) hG hT hP hD hm hs hk⟩ rfl rfl (fun r h1 hp => ?_)
  obtain ⟨rfl, fu2, fd2, eqs, hS3, F2⟩ := hp
  have ol := ch_le (kd := kd) (s := s) (a := a) (b := b) (c := c) (P := P) (fu := fu) (fd := fd) (mem := mem)
  obtain ⟨ok3, -⟩ := ch_ok (kd := kd) (a := a) (b := b) (c := c) ok hs
  have K2 := F2.kf hT
  have hTb := sh_sf hX1 F2 hT2
  have h3 := dw_sf h2 hT F2
  have hB3 := bq_kf K2 hB2
  have epf : pf kd s a b c P fu fd mem (val 9) (val 10) = pf kd s a b c P fu fd mem (val 9) (val 10) := rfl
  have hcapc : kd = 8 → (ch kd s a b c P fu fd mem).1 = 0 → cap_c mem a ∧ (ch kd s a b c P fu fd mem).2 = (P, cap_u P mem a, cap_d P mem a, mem) := by
    intro e8 e0
    subst e8
    by_cases cc : cap_c mem a
    · exact ⟨cc, congrArg Prod.snd (if_pos cc : ch 8 s a b c P fu fd mem = _)⟩
    · rw [show ch 8 s a b c P fu fd mem = (2, P, fu, fd, mem) from if_neg cc] at e0; cases e0
  conv at epf => rhs; unfold pf
  rw [epf]
  clear epf
  generalize ch kd s a b c P fu fd mem = q at *
  obtain ⟨o, P1, fuc, fdc, mem1⟩ := q
  have agc : ag3 P1 fu2 fd2 P1 fuc fdc := ⟨fun _ _ _ _ => rfl, eqs⟩
  have ok4 : st_ok P1 fu2 fd2 mem1 := st_ag agc ok3
  have okb : st_ok Pb1 fub1 fdb1 mem := st_ag agb ok
  refine ev_istore (pc := 67) dX8_perform_67 rfl ?_
  refine ev_iload (pc := 69) dX8_perform_69 rfl ?_
  by_cases o0 : o = 0
  · subst o0
    refine ev_if_neN (x := 0) (pc := 71) (tgt := 79) dX8_perform_71 (by decide) (by decide) (fun q => absurd q (by decide)) (fun _ => ?_)
    refine ev_iload_n (pc := 74) dX8_perform_74 rfl ?_
    refine ev_iconst (pc := 75) (v := nI 3) dX8_perform_75 (by decide) ?_
    refine ev_icmp_neN (pc := 76) (tgt := 82) dX8_perform_76 (by decide) (by omega) (by omega) (fun c1 => ?_) (fun c1 => ?_)
    · have nk : ¬ ((0 : Nat) ≠ 0 ∨ kd = 3) := fun q => by rcases q with q | q; exact q rfl; exact c1 q
      dsimp only
      rw [if_neg nk]
      rw [← su_cg (mem := mem1) agc 8 (Nat.le_refl 8), ← su_cg (mem := mem) agb 8 (Nat.le_refl 8)]
      refine ev_aload_n (pc := 82) dX8_perform_82 rfl ?_
      refine ev_callV (pc := 83) (As := []) dX8_perform_83 cv_X8_241 rfl rfl hB3.1 rfl ⟨by show 19 + 1 ≤ w; omega, show ev_Ca _ _ (w - 20) _ _ _ _ _ _ from k_findNextDivisor (by omega) (by omega) h3 hB3 hS3 ok4.1 ok4.2.1 ok4.2.2.1 ok4.2.2.2 hTb okb.1 okb.2.1 okb.2.2.1 okb.2.2.2 v9 v10 w9 w10 hc⟩ rfl rfl (fun r h1 hp => ?_)
      obtain ⟨rfl, v4, h4, ⟨⟨x15, x16⟩, ⟨x13, x14⟩, ⟨x9, x10⟩, ⟨x11, x12⟩, y11, y12⟩, F4⟩ := hp
      have K4 := WF.kf h3.2.1 F4
      have hB4 := bq_kf K4 hB3
      have hS4 := sh_wf h3.2.1 F4 hS3
      have hTb4 := sh_wf h3.2.1 F4 hTb
      obtain ⟨z1, z2⟩ := su_b8 (mem := mem1) ok4.1 ok4.2.1 (Nat.le_refl 8)
      obtain ⟨y1, y2⟩ := su_b8 (mem := mem) okb.1 okb.2.1 (Nat.le_refl 8)
      have capt : kd = 8 → ∀ s, s < 8 → mem1 / 2 ^ s % 2 = 1 → (su P1 fu2 fd2 mem1 8).2 * pw P1 s * fu2 s * 100 = (su P1 fu2 fd2 mem1 8).1 * fd2 s * a.toInt.toNat ∨ (fu2 s = fd2 s ∧ (su P1 fu2 fd2 mem1 8).2 * pw P1 s * fu2 s * 100 ≤ (su P1 fu2 fd2 mem1 8).1 * fd2 s * a.toInt.toNat) := by
        intro e8 s hs hb
        obtain ⟨cc, e⟩ := hcapc e8 rfl
        cases e
        exact cap_true hP hm cc eqs hs hb
      have sl := same_lv (D1 := val 9) (D2 := val 10) (W1 := (su P1 fu2 fd2 mem1 8).1) (W2 := (su P1 fu2 fd2 mem1 8).2) (B1 := (su Pb1 fub1 fdb1 mem 8).1) (B2 := (su Pb1 fub1 fdb1 mem 8).2)
      generalize (su P1 fu2 fd2 mem1 8).1 = W1 at *
      generalize (su P1 fu2 fd2 mem1 8).2 = W2 at *
      generalize (su Pb1 fub1 fdb1 mem 8).1 = B1 at *
      generalize (su Pb1 fub1 fdb1 mem 8).2 = B2 at *
      have u11 : v4 11 < 2 ^ (512 + (571 + 505)) := by rw [x11]; exact Nat.lt_of_le_of_lt (Nat.div_le_self _ _) (p2_mul v9 (p2_mul z1 y2))
      have u12 : v4 12 < 2 ^ (512 + (505 + 571)) := by rw [x12]; exact Nat.lt_of_le_of_lt (Nat.div_le_self _ _) (p2_mul v10 (p2_mul z2 y1))
      rw [← x11, ← x12] at sl
      rw [← x11, ← x12]
      have m1 := mb_bits_le u11
      have m2 := mb_bits_le u12
      have mm : max (mb_bits (v4 11)) (mb_bits (v4 12)) < 2 ^ 31 := by omega
      refine ev_aload_n (pc := 86) dX8_perform_86 rfl ?_
      refine ev_getf (pc := 87) dX8_perform_87 f_X8_47 hB4.1 rfl ?_
      refine ev_callV (pc := 90) (As := []) dX8_perform_90 cv_X8_244 rfl rfl (hB4.2 1 (by decide)) rfl ⟨by show 19 + 1 ≤ w; omega, show ev_Ca _ _ (w - 20) _ _ _ _ _ _ from k_mostDigits (u := 11) (by omega) (by omega) h4 (hB4.2 1 (by decide)) (by omega)⟩ rfl rfl (fun r h1 hp => ?_)
      obtain ⟨rfl, hH⟩ := hp
      rw [hH]
      clear hH
      refine ev_sipush (pc := 93) (v := nI 512) dX8_perform_93 (by decide) ?_
      refine ev_icmp_leN (pc := 96) (tgt := 112) dX8_perform_96 (by decide) (by omega) (by omega) (fun c2 => ?_) (fun c2 => ?_)
      · change max (mb_bits (v4 11)) (mb_bits (v4 12)) ≤ 512 at c2
        rw [if_neg (by omega)]
        have f11 := mb_bits_lt (show mb_bits (v4 11) ≤ 512 by omega)
        have f12 := mb_bits_lt (show mb_bits (v4 12) ≤ 512 by omega)
        have fin : ∀ {L : ev_V} (hh : ev_H) (vv : Nat → Nat), L 0 = some (.ref (bp 0)) → L 4 = some (.int (nI 0)) → DW hh (bp 4) lay vv → BQ hh bp lay dn ba sd → SH hh (bp 1) sa P1 fu2 fd2 mem1 → SH hh (bp 2) sb Pb1 fub1 fdb1 mem → KF H hh → (∀ x, 9 ≤ x → vv x = v4 x) → ev_J G (ev_cc G dd w) w m_X8_perform (ev_ok (ppost H bp lay sa sb (0, (P1, fuc, fdc, mem1), v4 11, v4 12))) (161, L, [], hh, 0, 0) := by
          intro L hh vv l0 l4 h5 hB5 hS5 hT5 K5 ev5
          refine ev_vs [(0, .ref (bp 0)), (4, .int (nI 0))] ⟨l0, l4, trivial⟩ ?_
          refine ev_aload_n (pc := 161) dX8_perform_161 rfl ?_
          refine ev_getf (pc := 162) dX8_perform_162 f_X8_43 hB5.1 rfl ?_
          refine ev_aload_n (pc := 165) dX8_perform_165 rfl ?_
          refine ev_getf (pc := 166) dX8_perform_166 f_X8_47 hB5.1 rfl ?_
          refine ev_callV (pc := 169) (As := [.ref (bp 7)]) dX8_perform_169 cv_X8_189 rfl rfl (hB5.2 0 (by decide)) rfl ⟨by show 19 + 2 ≤ w; omega, show ev_Ca _ _ (w - 21) _ _ _ _ _ _ from k_fcopy (u := 9) (v := 11) (by omega) (by omega) h5 (hB5.2 0 (by decide)) (hB5.2 1 (by decide)) (by omega) (by omega) (by omega)⟩ rfl rfl (fun r h1 hp => ?_)
          obtain ⟨rfl, v6, h6, ⟨d1, d2, d3⟩, F6⟩ := hp
          refine ev_iload (pc := 172) dX8_perform_172 rfl ?_
          exact ev_iret (pc := 174) dX8_perform_174 rfl rfl ⟨rfl, P1, fu2, fd2, Pb1, fub1, fdb1, mem, v6, h6, sh_wf h5.2.1 F6 hS5, sh_wf h5.2.1 F6 hT5, agc, d1.trans (ev5 11 (by omega)), d2.trans (ev5 12 (by omega)), K5.tr (WF.kf h5.2.1 F6)⟩
        refine ev_aload_n (pc := 112) dX8_perform_112 rfl ?_
        refine ev_getf (pc := 113) dX8_perform_113 f_X8_29 hB4.1 rfl ?_
        refine ev_aload_n (pc := 116) dX8_perform_116 rfl ?_
        refine ev_getf (pc := 117) dX8_perform_117 f_X8_53 hB4.1 rfl ?_
        refine ev_aload_n (pc := 120) dX8_perform_120 rfl ?_
        refine ev_getf (pc := 121) dX8_perform_121 f_X8_43 hB4.1 rfl ?_
        refine ev_aload_n (pc := 124) dX8_perform_124 rfl ?_
        refine ev_getf (pc := 125) dX8_perform_125 f_X8_50 hB4.1 rfl ?_
        refine ev_aload_n (pc := 128) dX8_perform_128 rfl ?_
        refine ev_getf (pc := 129) dX8_perform_129 f_X8_47 hB4.1 rfl ?_
        refine ev_callV (pc := 132) (As := [.ref (bp 9), .ref (bp 6), .ref (bp 8), .ref (bp 7)]) dX8_perform_132 cv_X8_249 rfl rfl h4.2.2 rfl ⟨by show 19 + 5 ≤ w; omega, show ev_Ca _ _ (w - 24) _ _ _ _ _ _ from k_sameLevel (a := 15) (b := 9) (c := 13) (d := 11) (by omega) (by omega) h4 (hB4.2 3 (by decide)) (hB4.2 0 (by decide)) (hB4.2 2 (by decide)) (hB4.2 1 (by decide)) (by omega) (by omega) (by omega) (by omega) ⟨by rw [x15]; exact y1, by rw [x16]; exact y2⟩ ⟨by rw [x9]; exact v9, by rw [x10]; exact v10⟩ ⟨by rw [x13]; exact z1, by rw [x14]; exact z2⟩ ⟨f11, f12⟩⟩ rfl rfl (fun r h1 hp => ?_)
        obtain ⟨e, rfl, he, v5, h5, ev5, F5⟩ := hp
        have et : e = true := he.mpr (by rw [x15, x10, x14, x13, x16, x9]; exact sl)
        subst et
        have K5 := WF.kf h4.2.1 F5
        have hB5 := bq_kf K5 hB4
        have hS5 := sh_wf h4.2.1 F5 hS4
        have hT5 := sh_wf h4.2.1 F5 hTb4
        have KK := ((K1.tr K2).tr K4).tr K5
        refine ev_istore (pc := 135) dX8_perform_135 rfl ?_
        refine ev_iload (pc := 137) dX8_perform_137 rfl ?_
        refine ev_if_eqN (pc := 139) (tgt := 156) dX8_perform_139 (by decide) (by decide) (fun q => absurd q (by decide)) (fun _ => ?_)
        refine ev_iload_n (pc := 142) dX8_perform_142 rfl ?_
        refine ev_bipush (pc := 143) (v := nI 8) dX8_perform_143 (by decide) ?_
        refine ev_icmp_neN (pc := 145) (tgt := 161) dX8_perform_145 (by decide) (by omega) (by omega) (fun c3 => ?_) (fun c3 => ?_)
        · exact fin _ v5 rfl rfl h5 hB5 hS5 hT5 KK ev5
        · obtain ⟨cc, e⟩ := hcapc c3 rfl
          obtain ⟨n, rfl, n1, n2⟩ := ri_nI (x := a) (lo := 1) (hi := 100) cc.1 (by decide)
          have en : (nI n).toInt.toNat = n := nI_tn (by omega)
          rw [en] at capt
          refine ev_aload_n (pc := 148) dX8_perform_148 rfl ?_
          refine ev_iload_n (pc := 149) dX8_perform_149 rfl ?_
          refine ev_callV (pc := 150) (As := [.int (nI n)]) dX8_perform_150 cv_X8_253 rfl rfl hB5.1 rfl ⟨by show 19 + 5 ≤ w; omega, show ev_Ca _ _ (w - 24) _ _ _ _ _ _ from k_isCapped (by omega) (by omega) h5 hB5 hS5 ok4.1 ok4.2.1 ok4.2.2.1 n2 (by rw [ev5 13 (by omega), x13]; exact p2_le (by decide) z1) (by rw [ev5 14 (by omega), x14]; exact p2_le (by decide) z2) (by rw [ev5 13 (by omega), ev5 14 (by omega), x13, x14]; exact capt c3)⟩ rfl rfl (fun r h1 hp => ?_)
          obtain ⟨rfl, v6, h6, ev6, F6⟩ := hp
          refine ev_if_neN (pc := 153) (tgt := 161) dX8_perform_153 (by decide) (by decide) (fun _ => ?_) (fun q => absurd q (by decide))
          have K6 := WF.kf h5.2.1 F6
          exact fin _ v6 rfl rfl h6 (bq_kf K6 hB5) (sh_wf h5.2.1 F6 hS5) (sh_wf h5.2.1 F6 hT5) (KK.tr K6) (fun x hx => (ev6 x hx).trans (ev5 x hx))
      · rw [if_pos c2]
        refine ev_aload_n (pc := 99) dX8_perform_99 rfl ?_
        refine ev_getf (pc := 100) dX8_perform_100 f_X8_10 hB4.1 rfl ?_
        refine ev_aload_n (pc := 103) dX8_perform_103 rfl ?_
        refine ev_getf (pc := 104) dX8_perform_104 f_X8_16 hB4.1 rfl ?_
        refine ev_callV (pc := 107) (As := [.ref (bp 2)]) dX8_perform_107 cv_X8_226 rfl rfl hS4.1 rfl ⟨by show 19 + 3 ≤ w; omega, show ev_Ca _ _ (w - 22) _ _ _ _ _ _ from k_scopy (by omega) (by omega) hS4 hTb4 hX1 hD⟩ rfl rfl (fun r h1 hp => ?_)
        obtain ⟨rfl, P6, fu6, fd6, g6, g7, hS6, F6⟩ := hp
        refine ev_iconst (pc := 110) (v := nI 3) dX8_perform_110 (by decide) ?_
        exact ev_iret (pc := 111) dX8_perform_111 rfl rfl ⟨rfl, P6, fu6, fd6, Pb1, fub1, fdb1, mem, v4, dw_sf h4 hS4 F6, hS6, sh_sf hX1 F6 hTb4, ag3.tr ⟨g6, g7⟩ agb, x9, x10, ((K1.tr K2).tr K4).tr (F6.kf hS4)⟩
    · dsimp only
      rw [if_pos (Or.inr c1)]
      refine ev_iload (pc := 79) dX8_perform_79 rfl ?_
      exact ev_iret (pc := 81) dX8_perform_81 rfl rfl ⟨rfl, P1, fu2, fd2, Pb1, fub1, fdb1, mem, val, h3, hS3, hTb, agc, rfl, rfl, K1.tr K2⟩
  · dsimp only at ol
    refine ev_if_neN (pc := 71) (tgt := 79) dX8_perform_71 (by decide) (by omega) (fun _ => ?_) (fun q => absurd q o0)
    dsimp only
    rw [if_pos (Or.inl o0)]
    refine ev_iload (pc := 79) dX8_perform_79 rfl ?_
    exact ev_iret (pc := 81) dX8_perform_81 rfl rfl ⟨rfl, P1, fu2, fd2, Pb1, fub1, fdb1, mem, val, h3, hS3, hTb, agc, rfl, rfl, K1.tr K2⟩
end PRF
