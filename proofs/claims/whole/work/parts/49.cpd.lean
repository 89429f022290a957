/-! IndexBureau: isCapped; a cap caps -/
theorem lgf_fix {P : Nat → Nat → Nat} {mem a : Nat} (hP : P_ok P) : ∀ n l, 9 ≤ pc8 l + n → lg_ok mem a l → fo P mem a (lgf P mem a n l) 8 = 0
  | 0, l, h, ho => by have := pc8_b l ho.1; omega
  | n + 1, l, h, ho => by
    unfold lgf
    split
    · assumption
    · rename_i c
      obtain ⟨s1, s2, s3, s4⟩ := lg_step hP ho
      refine lgf_fix hP n _ ?_ s1
      rcases s3 with q | q
      · exact absurd q c
      · omega
theorem cp_eq {P : Nat → Nat → Nat} {lg up lf s : Nat} (h : bt lg s = 1) (hup : 0 < up) : cpu P lg up lf s * (lf * pw P s) = cpd P lg up lf s * up := by
  unfold cpu cpd
  rw [if_pos h, if_pos h]
  have e1 := Nat.div_mul_cancel (Nat.gcd_dvd_left up (lf * pw P s))
  have e2 := Nat.div_mul_cancel (Nat.gcd_dvd_right up (lf * pw P s))
  generalize up / Nat.gcd up (lf * pw P s) = x at *
  generalize lf * pw P s / Nat.gcd up (lf * pw P s) = y at *
  generalize Nat.gcd up (lf * pw P s) = g at *
  rw [← e1, ← e2]
  ac_rfl
theorem cs_sum {P : Nat → Nat → Nat} {mem lg up lf : Nat} {fu fd : Nat → Nat} (hP : P_ok P) (hlg : lg < 256) (hsub : ∀ s, s < 8 → bt lg s = 1 → bt mem s = 1) (hup : 0 < up) (hf : ∀ j, j < 8 → fu j = cpu P lg up lf j ∧ fd j = cpd P lg up lf j) : ∀ k, k ≤ 8 → (su P fu fd mem k).1 * lf = (su P fu fd mem k).2 * (lf * sw P (am mem lg) k + pr lg k * up)
  | 0, _ => by show 0 * lf = 1 * (lf * 0 + 0 * up); simp
  | k + 1, hk => by
    have ih := cs_sum (mem := mem) hP hlg hsub hup hf k (by omega)
    obtain ⟨f1, f2⟩ := hf k (by omega)
    have ba := bt_am (m := mem) (l := lg) (s := k) (by omega) hlg
    have b1 := bt_le mem k
    have b2 := bt_le lg k
    have hs := hsub k (by omega)
    have hpw := (pw_b hP (show k < 8 by omega)).1
    have esw : sw P (am mem lg) (k + 1) = sw P (am mem lg) k + (if bt (am mem lg) k = 1 then pw P k else 0) := rfl
    have epr : pr lg (k + 1) = pr lg k + bt lg k := rfl
    have esu : su P fu fd mem (k + 1) = if bt mem k = 1 then ((su P fu fd mem k).1 * (fd k / Nat.gcd (pw P k) (fd k)) + pw P k / Nat.gcd (pw P k) (fd k) * fu k * (su P fu fd mem k).2, (su P fu fd mem k).2 * (fd k / Nat.gcd (pw P k) (fd k))) else su P fu fd mem k := rfl
    rw [esw, epr, esu]
    generalize (su P fu fd mem k) = W at *
    obtain ⟨n, d⟩ := W
    by_cases m1 : bt mem k = 1
    · rw [if_pos m1]
      by_cases l1 : bt lg k = 1
      · rw [if_neg (by rw [ba, l1, m1]; decide), l1]
        have ce := cp_eq (P := P) (lf := lf) l1 hup
        rw [← f1, ← f2] at ce
        have g0 : 0 < Nat.gcd (pw P k) (fd k) := Nat.gcd_pos_of_pos_left _ hpw
        have d1 := Nat.div_mul_cancel (Nat.gcd_dvd_left (pw P k) (fd k))
        have d2 := Nat.div_mul_cancel (Nat.gcd_dvd_right (pw P k) (fd k))
        generalize pw P k / Nat.gcd (pw P k) (fd k) = p at *
        generalize fd k / Nat.gcd (pw P k) (fd k) = q at *
        generalize Nat.gcd (pw P k) (fd k) = g at *
        have ce2 : p * fu k * lf = q * up := by
          rw [← d1, ← d2] at ce
          apply Nat.eq_of_mul_eq_mul_right g0
          calc p * fu k * lf * g = fu k * (lf * (p * g)) := by ac_rfl
            _ = q * g * up := ce
            _ = q * up * g := by ac_rfl
        show (n * q + p * fu k * d) * lf = d * q * (lf * (sw P (am mem lg) k + 0) + (pr lg k + 1) * up)
        rw [Nat.add_zero]
        have ih2 : n * lf = d * (lf * sw P (am mem lg) k + pr lg k * up) := ih
        calc (n * q + p * fu k * d) * lf = n * lf * q + p * fu k * lf * d := by rw [Nat.add_mul]; congr 1 <;> ac_rfl
          _ = d * (lf * sw P (am mem lg) k + pr lg k * up) * q + q * up * d := by rw [ih2, ce2]
          _ = d * q * (lf * sw P (am mem lg) k + (pr lg k + 1) * up) := by
            rw [Nat.add_mul (pr lg k) 1 up, Nat.one_mul, ← Nat.add_assoc, Nat.mul_add (d * q) _ up]
            congr 1 <;> ac_rfl
      · have l0 : bt lg k = 0 := by omega
        rw [if_pos (by rw [ba, l0, m1]), l0]
        have e1 : fu k = 1 := by rw [f1]; exact if_neg l1
        have e2 : fd k = 1 := by rw [f2]; exact if_neg l1
        rw [e1, e2, Nat.gcd_one_right, Nat.div_one, Nat.div_one, Nat.mul_one, Nat.mul_one, Nat.mul_one, Nat.add_zero]
        show (n + pw P k * d) * lf = d * (lf * (sw P (am mem lg) k + pw P k) + pr lg k * up)
        have ih2 : n * lf = d * (lf * sw P (am mem lg) k + pr lg k * up) := ih
        rw [Nat.add_mul, ih2, Nat.mul_add lf, Nat.add_right_comm, Nat.mul_add d _ (lf * pw P k)]
        congr 1
        ac_rfl
    · have l0 : bt lg k = 0 := by
        rcases Nat.lt_or_ge 0 (bt lg k) with q | q
        · exact absurd (hs (by omega)) m1
        · omega
      have m0 : bt mem k = 0 := by omega
      rw [if_neg m1, if_neg (by rw [ba, m0]; simp), l0, Nat.add_zero, Nat.add_zero]
      exact ih
/-- the weights after a cap: those of the large ones are the cap, no other's is above it -/
theorem cap_true {P : Nat → Nat → Nat} {mem : Nat} {x : Int32} {fu fd : Nat → Nat} (hP : P_ok P) (hm : mem < 256) (hc : cap_c mem x) (hf : ∀ j, j < 8 → fu j = cap_u P mem x j ∧ fd j = cap_d P mem x j) {s : Nat} (hs : s < 8) (hb : mem / 2 ^ s % 2 = 1) : (su P fu fd mem 8).2 * pw P s * fu s * 100 = (su P fu fd mem 8).1 * fd s * x.toInt.toNat ∨ (fu s = fd s ∧ (su P fu fd mem 8).2 * pw P s * fu s * 100 ≤ (su P fu fd mem 8).1 * fd s * x.toInt.toNat) := by
  have ok := lgf_ok hP 9 0 (lg0 mem x.toInt.toNat)
  have fix := lgf_fix hP 9 0 (by rw [show pc8 0 = 0 by decide]; decide) (lg0 mem x.toInt.toNat)
  obtain ⟨hc1, hc2⟩ := hc
  generalize ha : x.toInt.toNat = a at *
  have el : cap_l P mem x = lgf P mem a 9 0 := by unfold cap_l; rw [ha]
  have hf2 : ∀ j, j < 8 → fu j = cpu P (lgf P mem a 9 0) (a * sw P (am mem (lgf P mem a 9 0)) 8) (100 - a * pc8 (lgf P mem a 9 0)) j ∧ fd j = cpd P (lgf P mem a 9 0) (a * sw P (am mem (lgf P mem a 9 0)) 8) (100 - a * pc8 (lgf P mem a 9 0)) j := by
    intro j hj
    have := hf j hj
    unfold cap_u cap_d at this
    rw [el, ha] at this
    exact this
  generalize lgf P mem a 9 0 = lg at *
  have hsp := sw_pos hP ok hm hc2
  have ha0 : 0 < a := by omega
  obtain ⟨o1, o2, o3⟩ := ok
  have hT : 0 < a * sw P (am mem lg) 8 := Nat.mul_pos ha0 hsp
  have sum := cs_sum (mem := mem) hP o1 o2 hT hf2 8 (Nat.le_refl 8)
  rw [pr8] at sum
  have hl0 : 0 < 100 - a * pc8 lg := by omega
  have hl1 : 100 - a * pc8 lg + a * pc8 lg = 100 := by omega
  obtain ⟨f1, f2⟩ := hf2 s hs
  have nc : ¬ cnd P mem a lg s := fun q => by
    have := (fo_bt (P := P) (mem := mem) (a := a) (l := lg) 8).2 s hs
    rw [fix] at this
    have t := this.mpr q
    unfold bt at t
    rw [Nat.zero_div] at t
    cases t
  have ba := bt_am (m := mem) (l := lg) (s := s) hs o1
  have b2 := bt_le lg s
  have hbm : bt mem s = 1 := hb
  have sum2 : (su P fu fd mem 8).1 * (100 - a * pc8 lg) = (su P fu fd mem 8).2 * (sw P (am mem lg) 8 * 100) := by
    rw [sum]
    congr 1
    calc (100 - a * pc8 lg) * sw P (am mem lg) 8 + pc8 lg * (a * sw P (am mem lg) 8) = sw P (am mem lg) 8 * (100 - a * pc8 lg + a * pc8 lg) := by
          rw [Nat.mul_add]
          congr 1 <;> ac_rfl
      _ = sw P (am mem lg) 8 * 100 := by rw [hl1]
  clear sum fix
  by_cases l1 : bt lg s = 1
  · refine Or.inl ?_
    have ce := cp_eq (P := P) (lf := 100 - a * pc8 lg) l1 hT
    rw [← f1, ← f2] at ce
    generalize (su P fu fd mem 8).1 = W1 at *
    generalize (su P fu fd mem 8).2 = W2 at *
    generalize 100 - a * pc8 lg = lf at *
    generalize sw P (am mem lg) 8 = O at *
    apply Nat.eq_of_mul_eq_mul_right hl0
    calc W2 * pw P s * fu s * 100 * lf = W2 * 100 * (fu s * (lf * pw P s)) := by ac_rfl
      _ = W2 * 100 * (fd s * (a * O)) := by rw [ce]
      _ = W2 * (O * 100) * fd s * a := by ac_rfl
      _ = W1 * lf * fd s * a := by rw [sum2]
      _ = W1 * fd s * a * lf := by ac_rfl
  · refine Or.inr ?_
    have e1 : fu s = 1 := by rw [f1]; exact if_neg l1
    have e2 : fd s = 1 := by rw [f2]; exact if_neg l1
    have am1 : bt (am mem lg) s = 1 := by rw [ba, hbm, show bt lg s = 0 by omega]
    have le : pw P s * (100 - a * pc8 lg) ≤ a * sw P (am mem lg) 8 := Nat.le_of_not_lt (fun q => nc ⟨am1, q⟩)
    refine ⟨by rw [e1, e2], ?_⟩
    rw [e1, e2, Nat.mul_one, Nat.mul_one]
    generalize (su P fu fd mem 8).1 = W1 at *
    generalize (su P fu fd mem 8).2 = W2 at *
    generalize 100 - a * pc8 lg = lf at *
    generalize sw P (am mem lg) 8 = O at *
    apply Nat.le_of_mul_le_mul_right ?_ hl0
    calc W2 * pw P s * 100 * lf = W2 * 100 * (pw P s * lf) := by ac_rfl
      _ ≤ W2 * 100 * (a * O) := Nat.mul_le_mul_left _ le
      _ = W2 * (O * 100) * a := by ac_rfl
      _ = W1 * lf * a := by rw [sum2]
      _ = W1 * a * lf := by ac_rfl
theorem mi_cmp_le {a b : Nat} (h : a ≤ b) : ¬ 0 < mi_cmp a b := by
  unfold mi_cmp
  split
  · decide
  · rw [if_pos (by omega)]; decide
section ISC
variable {G : ev_G} {w : Nat} {H : ev_H} {bp : Nat → Nat} {lay : Nat → Nat × Nat} {val : Nat → Nat} {i j k dd s : Nat} {sa : Nat → Nat} {P : Nat → Nat → Nat} {fu fd : Nat → Nat} {mem : Nat} {dn ba sd : Nat}
theorem l_isc {K : ev_K} {c z a : Nat} {H0 : ev_H} {val0 : Nat → Nat} (hd : 6 ≤ dd) (hw : 130 ≤ w) (hP : P_ok P) (hf : f_ok fu fd) (hm : mem < 256) (ha : a ≤ 100) (v13 : val0 13 < 2 ^ 600) (v14 : val0 14 < 2 ^ 600)
    (hcap : ∀ s, s < 8 → mem / 2 ^ s % 2 = 1 → val0 14 * pw P s * fu s * 100 = val0 13 * fd s * a ∨ (fu s = fd s ∧ val0 14 * pw P s * fu s * 100 ≤ val0 13 * fd s * a))
    (hK : ∀ h1 v2, DW h1 (bp 4) lay v2 → (∀ x, 9 ≤ x → v2 x = val0 x) → WF lay H0 h1 → K (.inl (some (.int (nI 1)))) h1) :
    ∀ k s H val, s + k = 8 → DW H (bp 4) lay val → BQ H bp lay dn ba sd → SH H (bp 1) sa P fu fd mem → (∀ x, 9 ≤ x → val x = val0 x) → WF lay H0 H → ev_J G (ev_cc G dd w) w m_X8_isCapped K (4, ev_lf [(0, .ref (bp 0)), (1, .int (nI a)), (2, .int (nI 1)), (3, .int (nI s))], [], H, c, z)
  | 0, s, H, val, e, h, hB, hS, ev, hF => by
    refine ev_iload_n (pc := 4) dX8_isCapped_4 rfl ?_
    refine ev_bipush (pc := 5) (v := nI 8) dX8_isCapped_5 (by decide) ?_
    refine ev_icmp_geN (pc := 7) (tgt := 99) dX8_isCapped_7 (by decide) (by omega) (by omega) (fun c1 => ?_) (fun c1 => ?_)
    · refine ev_iload_n (pc := 99) dX8_isCapped_99 rfl ?_
      exact ev_iret (pc := 100) dX8_isCapped_100 rfl rfl (hK H val h ev hF)
    · omega
  | k + 1, s, H, val, e, h, hB, hS, ev, hF => by
    have hfs := hf s (by omega)
    refine ev_iload_n (pc := 4) dX8_isCapped_4 rfl ?_
    refine ev_bipush (pc := 5) (v := nI 8) dX8_isCapped_5 (by decide) ?_
    refine ev_icmp_geN (pc := 7) (tgt := 99) dX8_isCapped_7 (by decide) (by omega) (by omega) (fun c1 => ?_) (fun c1 => ?_)
    · omega
    · refine ev_aload_n (pc := 10) dX8_isCapped_10 rfl ?_
      refine ev_getf (pc := 11) dX8_isCapped_11 f_X8_10 hB.1 rfl ?_
      refine ev_iload_n (pc := 14) dX8_isCapped_14 rfl ?_
      refine ev_callV (pc := 15) (As := [.int (nI s)]) dX8_isCapped_15 cv_X8_78 rfl rfl hS.1 rfl ⟨by show 19 + 2 ≤ w; omega, show ev_Ca _ _ (w - 21) _ _ _ _ _ _ from k_isMember (by omega) hS hm (by omega)⟩ rfl rfl (fun r h1 hp => ?_)
      obtain ⟨rfl, hH⟩ := hp
      rw [hH]
      clear hH h1
      have hb2 : mem / 2 ^ s % 2 < 2 := Nat.mod_lt _ (by decide)
      refine ev_if_eqN (pc := 18) (tgt := 93) dX8_isCapped_18 (by decide) (by omega) (fun c2 => ?_) (fun c2 => ?_)
      · refine ev_iincN (pc := 93) dX8_isCapped_93 rfl rfl ?_
        refine ev_goto (pc := 96) (tgt := 4) dX8_isCapped_96 (by decide) ?_
        refine ev_vs [(0, .ref (bp 0)), (1, .int (nI a)), (2, .int (nI 1)), (3, .int (nI (s + 1)))] ⟨rfl, rfl, rfl, rfl, trivial⟩ ?_
        exact l_isc hd hw hP hf hm ha v13 v14 hcap hK k (s + 1) H val (by omega) h hB hS ev hF
      · refine ev_aload_n (pc := 21) dX8_isCapped_21 rfl ?_
        refine ev_getf (pc := 22) dX8_isCapped_22 f_X8_29 hB.1 rfl ?_
        refine ev_aload_n (pc := 25) dX8_isCapped_25 rfl ?_
        refine ev_getf (pc := 26) dX8_isCapped_26 f_X8_10 hB.1 rfl ?_
        refine ev_iload_n (pc := 29) dX8_isCapped_29 rfl ?_
        refine ev_bipush (pc := 30) (v := nI 100) dX8_isCapped_30 (by decide) ?_
        refine ev_aload_n (pc := 32) dX8_isCapped_32 rfl ?_
        refine ev_getf (pc := 33) dX8_isCapped_33 f_X8_50 hB.1 rfl ?_
        refine ev_iload_n (pc := 36) dX8_isCapped_36 rfl ?_
        refine ev_callV (pc := 37) (As := [.ref (bp 1), .int (nI s), .int (nI 100), .ref (bp 8), .int (nI a)]) dX8_isCapped_37 cv_X8_165 rfl rfl h.2.2 rfl ⟨by show 19 + 6 ≤ w; omega, show ev_Ca _ _ (w - 25) _ _ _ _ _ _ from k_weigh (u := 13) (t := 100) (t2 := a) (by omega) (by omega) h hS hP hf (by omega) (hB.2 2 (by decide)) (by omega) (by omega) (by decide) (by omega) (by rw [ev 13 (by omega)]; exact v13) (by rw [ev 14 (by omega)]; exact v14)⟩ rfl rfl (fun r h1 hp => ?_)
        obtain ⟨rfl, v2, hA, ⟨p1, p2, p3⟩, hF1⟩ := hp
        have hB2 := bq_wf h.2.1 hF1 hB
        have hS2 := sh_wf h.2.1 hF1 hS
        rw [ev 14 (by omega)] at p1
        rw [ev 13 (by omega)] at p2
        have cs := hcap s (by omega) (by omega)
        rw [← p1, ← p2] at cs
        refine ev_aload_n (pc := 40) dX8_isCapped_40 rfl ?_
        refine ev_getf (pc := 41) dX8_isCapped_41 f_X8_29 hB2.1 rfl ?_
        refine ev_getf (pc := 44) dX8_isCapped_44 f_X8_169 hA.2.2 rfl ?_
        refine ev_aload_n (pc := 47) dX8_isCapped_47 rfl ?_
        refine ev_getf (pc := 48) dX8_isCapped_48 f_X8_29 hB2.1 rfl ?_
        refine ev_getf (pc := 51) dX8_isCapped_51 f_X8_172 hA.2.2 rfl ?_
        refine ev_callVe (pc := 54) (As := [.ref (lay 2).1]) dX8_isCapped_54 cv_X8_259 rfl rfl (wi_o (hA.2.1 1 (by omega))) rfl ⟨by show 19 + 3 ≤ w; omega, show ev_Ca _ _ (w - 22) _ _ _ _ _ _ from t_compareWith (i := 1) (j := 2) (by omega) (by omega) hA (by omega) (by omega) (by omega)⟩ rfl rfl (fun r h1 hp => ?_)
        obtain ⟨rfl, hH⟩ := hp
        rw [hH]
        clear hH h1
        refine ev_istore (pc := 57) dX8_isCapped_57 rfl ?_
        refine ev_iload_n (pc := 59) dX8_isCapped_59 rfl ?_
        refine ev_if_eqN (pc := 60) (tgt := 91) dX8_isCapped_60 (by decide) (by decide) (fun q => absurd q (by decide)) (fun _ => ?_)
        refine ev_aload_n (pc := 63) dX8_isCapped_63 rfl ?_
        refine ev_getf (pc := 64) dX8_isCapped_64 f_X8_10 hB2.1 rfl ?_
        refine ev_iload_n (pc := 67) dX8_isCapped_67 rfl ?_
        refine ev_callV (pc := 68) (As := [.int (nI s)]) dX8_isCapped_68 cv_X8_263 rfl rfl hS2.1 rfl ⟨by show 19 + 2 ≤ w; omega, show ev_Ca _ _ (w - 21) _ _ _ _ _ _ from k_hasFactorOne (by omega) hS2 hfs.1.2 hfs.2.2 (by omega)⟩ rfl rfl (fun r h1 hp => ?_)
        obtain ⟨rfl, hH⟩ := hp
        rw [hH]
        clear hH h1
        have fin : ev_J G (ev_cc G dd w) w m_X8_isCapped K (87, ev_lf [(0, .ref (bp 0)), (1, .int (nI a)), (3, .int (nI s))], [], h1, c, z) := by
          refine ev_iconst (pc := 87) (v := nI 1) dX8_isCapped_87 (by decide) ?_
          refine ev_goto (pc := 88) (tgt := 92) dX8_isCapped_88 (by decide) ?_
          refine ev_istore_n (pc := 92) dX8_isCapped_92 rfl ?_
          refine ev_iincN (pc := 93) dX8_isCapped_93 rfl rfl ?_
          refine ev_goto (pc := 96) (tgt := 4) dX8_isCapped_96 (by decide) ?_
          refine ev_vs [(0, .ref (bp 0)), (1, .int (nI a)), (2, .int (nI 1)), (3, .int (nI (s + 1)))] ⟨rfl, rfl, rfl, rfl, trivial⟩ ?_
          exact l_isc hd hw hP hf hm ha v13 v14 hcap hK k (s + 1) _ v2 (by omega) hA hB2 hS2 (fun x hx => (p3 x hx).trans (ev x hx)) (hF.tr hF1)
        by_cases c3 : fu s = fd s
        · rw [if_pos c3]
          refine ev_if_eqN (pc := 71) (tgt := 82) dX8_isCapped_71 (by decide) (by decide) (fun q => absurd q (by decide)) (fun _ => ?_)
          refine ev_iload (pc := 74) dX8_isCapped_74 rfl ?_
          refine ev_if_gt (pc := 76) (tgt := 91) dX8_isCapped_76 (by decide) (fun q => absurd q (mi_cmp_le (by rcases cs with r | r <;> omega))) (fun _ => ?_)
          refine ev_goto (pc := 79) (tgt := 87) dX8_isCapped_79 (by decide) ?_
          exact ev_vs [(0, .ref (bp 0)), (1, .int (nI a)), (3, .int (nI s))] ⟨rfl, rfl, rfl, trivial⟩ fin
        · rw [if_neg c3]
          refine ev_if_eqN (pc := 71) (tgt := 82) dX8_isCapped_71 (by decide) (by decide) (fun _ => ?_) (fun q => absurd q (by decide))
          refine ev_iload (pc := 82) dX8_isCapped_82 rfl ?_
          have e0 : mi_cmp (v2 1) (v2 2) = 0 := by
            rcases cs with r | r
            · unfold mi_cmp; rw [if_neg (by omega), if_pos r]
            · exact absurd r.1 c3
          refine ev_if_ne (pc := 84) (tgt := 91) dX8_isCapped_84 (by decide) (fun q => absurd e0 q) (fun _ => ?_)
          exact ev_vs [(0, .ref (bp 0)), (1, .int (nI a)), (3, .int (nI s))] ⟨rfl, rfl, rfl, trivial⟩ fin
theorem k_isCapped {a : Nat} (hd : 7 ≤ dd) (hw : 130 ≤ w) (h : DW H (bp 4) lay val) (hB : BQ H bp lay dn ba sd) (hS : SH H (bp 1) sa P fu fd mem) (hP : P_ok P) (hf : f_ok fu fd) (hm : mem < 256) (ha : a ≤ 100) (v13 : val 13 < 2 ^ 600) (v14 : val 14 < 2 ^ 600) (hcap : ∀ s, s < 8 → mem / 2 ^ s % 2 = 1 → val 14 * pw P s * fu s * 100 = val 13 * fd s * a ∨ (fu s = fd s ∧ val 14 * pw P s * fu s * 100 ≤ val 13 * fd s * a)) : ev_Ca G dd w m_X8_isCapped [.ref (bp 0), .int (nI a)] H 0 0 (ev_ok (fun r h1 => r = some (.int (nI 1)) ∧ dpost H (bp 4) lay val (fun v2 => ∀ x, 9 ≤ x → v2 x = val x) h1)) := by
  obtain ⟨dd, rfl⟩ : ∃ e, dd = e + 1 := ⟨dd - 1, by omega⟩
  refine ⟨by decide +kernel, rfl, ?_⟩
  refine ev_iconst (pc := 0) (v := nI 1) dX8_isCapped_0 (by decide) ?_
  refine ev_istore_n (pc := 1) dX8_isCapped_1 rfl ?_
  refine ev_iconst (pc := 2) (v := nI 0) dX8_isCapped_2 (by decide) ?_
  refine ev_istore_n (pc := 3) dX8_isCapped_3 rfl ?_
  refine ev_vs [(0, .ref (bp 0)), (1, .int (nI a)), (2, .int (nI 1)), (3, .int (nI 0))] ⟨rfl, rfl, rfl, rfl, trivial⟩ ?_
  exact l_isc (H0 := H) (val0 := val) (by omega) hw hP hf hm ha v13 v14 hcap (fun h1 v2 a1 a2 a3 => ⟨rfl, v2, a1, a2, a3⟩) 8 0 H val (by omega) h hB hS (fun _ _ => rfl) WF.rf
end ISC
