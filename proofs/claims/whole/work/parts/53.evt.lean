/-! IndexBureau: event, weight -/
def f_b (fd : Nat → Nat) : Prop := ∀ s, s < 8 → fd s < 2 ^ 60
theorem su_b60 {P : Nat → Nat → Nat} {fu fd : Nat → Nat} {mem : Nat} (hP : P_ok P) (hf : f_ok fu fd) (hb : f_b fd) : ∀ k, k ≤ 8 → (su P fu fd mem k).2 ≤ 2 ^ (60 * k) ∧ (su P fu fd mem k).1 ≤ k * 2 ^ (60 * k + 57)
  | 0, _ => ⟨by show 1 ≤ 2 ^ (60 * 0); decide, Nat.zero_le _⟩
  | k + 1, hk => by
    obtain ⟨h1, h2⟩ := su_b60 (mem := mem) hP hf hb k (by omega)
    obtain ⟨⟨f1, f2⟩, f3, -⟩ := hf k (by omega)
    have f4 := hb k (by omega)
    obtain ⟨p1, p2⟩ := pw_b hP (show k < 8 by omega)
    unfold su
    have e1 : 2 ^ (60 * (k + 1)) = 2 ^ (60 * k) * 2 ^ 60 := by rw [← Nat.pow_add]; congr 1
    have e2 : 2 ^ (60 * (k + 1) + 57) = 2 ^ (60 * k + 57) * 2 ^ 60 := by rw [← Nat.pow_add]; congr 1
    have e3 : 2 ^ (60 * k + 57) = 2 ^ (60 * k) * 2 ^ 57 := by rw [← Nat.pow_add]
    split
    · have g1 : fd k / Nat.gcd (pw P k) (fd k) ≤ 2 ^ 60 := Nat.le_trans (Nat.div_le_self _ _) (by omega)
      have g2 : pw P k / Nat.gcd (pw P k) (fd k) ≤ 2 ^ 54 := Nat.le_trans (Nat.div_le_self _ _) (by omega)
      refine ⟨?_, ?_⟩
      · rw [e1]; exact Nat.mul_le_mul h1 g1
      · have t1 := Nat.mul_le_mul h2 g1
        have t2 : pw P k / Nat.gcd (pw P k) (fd k) * fu k * (su P fu fd mem k).2 ≤ 2 ^ 54 * 2 ^ 63 * 2 ^ (60 * k) := Nat.mul_le_mul (Nat.mul_le_mul g2 (by omega)) h1
        have t3 : (k + 1) * 2 ^ (60 * (k + 1) + 57) = k * 2 ^ (60 * k + 57) * 2 ^ 60 + 2 ^ (60 * k) * 2 ^ 57 * 2 ^ 60 := by
          rw [e2, Nat.add_mul, Nat.one_mul, Nat.mul_assoc, e3]
        have t4 : 2 ^ 54 * 2 ^ 63 * 2 ^ (60 * k) ≤ 2 ^ (60 * k) * 2 ^ 57 * 2 ^ 60 := by
          rw [Nat.mul_comm, Nat.mul_assoc]
          exact Nat.mul_le_mul_left _ (by decide)
        rw [t3]
        exact Nat.add_le_add t1 (Nat.le_trans t2 t4)
    · refine ⟨?_, ?_⟩
      · rw [e1]; exact Nat.le_trans h1 (Nat.le_mul_of_pos_right _ (by decide))
      · rw [e2]
        refine Nat.le_trans h2 ?_
        exact Nat.mul_le_mul (by omega) (Nat.le_mul_of_pos_right _ (by decide))
theorem su_d8 {P : Nat → Nat → Nat} {fu fd : Nat → Nat} {mem D1 D2 : Nat} (hP : P_ok P) (hf : f_ok fu fd) (hb : f_b fd) (h1 : D1 < 2 ^ 512) (h2 : D2 < 2 ^ 512) : (su P fu fd mem 8).1 * D2 < 10 ^ (9 * 36) ∧ (su P fu fd mem 8).2 * D1 < 10 ^ (9 * 34) := by
  obtain ⟨a1, a2⟩ := su_b60 (mem := mem) hP hf hb 8 (Nat.le_refl 8)
  constructor
  · refine Nat.lt_of_le_of_lt (Nat.mul_le_mul a2 (Nat.le_of_lt h2)) (by decide +kernel)
  · refine Nat.lt_of_le_of_lt (Nat.mul_le_mul a1 (Nat.le_of_lt h1)) (by decide +kernel)
theorem fb_ag {fd fd2 : Nat → Nat} (h : ∀ j, j < 8 → fd j = fd2 j) (hb : f_b fd2) : f_b fd := fun s hs => by rw [h s hs]; exact hb s hs
theorem cap_fb {P : Nat → Nat → Nat} {mem : Nat} {x : Int32} (hP : P_ok P) : f_b (cap_d P mem x) := by
  intro j hj
  have hpw := pw_b hP hj
  unfold cap_d cpd
  generalize cap_l P mem x = lg
  have hQ : (100 - x.toInt.toNat * pc8 lg) * pw P j ≤ 100 * 10000000000000000 := Nat.mul_le_mul (by omega) (by omega)
  split
  · exact Nat.lt_of_le_of_lt (Nat.div_le_self _ _) (by omega)
  · decide
theorem ch_fb {P : Nat → Nat → Nat} {fu fd : Nat → Nat} {mem s kd : Nat} {a b c : Int32} (hP : P_ok P) (hb : f_b fd) : f_b (ch kd s a b c P fu fd mem).2.2.2.1 := by
  unfold ch
  split
  · exact hb
  · exact hb
  · exact hb
  · exact hb
  · exact hb
  · show f_b (if mem / 2 ^ s % 2 = 1 then fd else va_up fd s 1)
    split
    · exact hb
    · intro j hj
      unfold va_up
      split
      · decide
      · exact hb j hj
  · exact hb
  · exact hb
  · split
    · exact cap_fb hP
    · exact hb
/-- no member is worth more than all -/
theorem su_ge {P : Nat → Nat → Nat} {fu fd : Nat → Nat} {mem : Nat} {s : Nat} (hb : mem / 2 ^ s % 2 = 1) : ∀ k, s < k → (su P fu fd mem k).2 * pw P s * fu s ≤ (su P fu fd mem k).1 * fd s
  | 0, h => absurd h (Nat.not_lt_zero s)
  | k + 1, h => by
    have d1 := Nat.div_mul_cancel (Nat.gcd_dvd_left (pw P k) (fd k))
    have d2 := Nat.div_mul_cancel (Nat.gcd_dvd_right (pw P k) (fd k))
    have esu : su P fu fd mem (k + 1) = if mem / 2 ^ k % 2 = 1 then ((su P fu fd mem k).1 * (fd k / Nat.gcd (pw P k) (fd k)) + pw P k / Nat.gcd (pw P k) (fd k) * fu k * (su P fu fd mem k).2, (su P fu fd mem k).2 * (fd k / Nat.gcd (pw P k) (fd k))) else su P fu fd mem k := rfl
    rw [esu]
    by_cases q : s = k
    · subst q
      rw [if_pos hb]
      generalize su P fu fd mem s = W
      obtain ⟨n, d⟩ := W
      generalize pw P s / Nat.gcd (pw P s) (fd s) = p at *
      generalize fd s / Nat.gcd (pw P s) (fd s) = q at *
      generalize Nat.gcd (pw P s) (fd s) = g at *
      show d * q * pw P s * fu s ≤ (n * q + p * fu s * d) * fd s
      rw [Nat.add_mul]
      refine Nat.le_trans (Nat.le_of_eq ?_) (Nat.le_add_left _ _)
      rw [← d1, ← d2]
      ac_rfl
    · have ih := su_ge (P := P) (fu := fu) (fd := fd) hb k (by omega)
      by_cases m : mem / 2 ^ k % 2 = 1
      · rw [if_pos m]
        generalize su P fu fd mem k = W at *
        obtain ⟨n, d⟩ := W
        generalize fd k / Nat.gcd (pw P k) (fd k) = q at *
        show d * q * pw P s * fu s ≤ (n * q + _) * fd s
        rw [Nat.add_mul]
        refine Nat.le_trans ?_ (Nat.le_add_right _ _)
        have ih2 : d * pw P s * fu s ≤ n * fd s := ih
        calc d * q * pw P s * fu s = d * pw P s * fu s * q := by ac_rfl
          _ ≤ n * fd s * q := Nat.mul_le_mul_right _ ih2
          _ = n * q * fd s := by ac_rfl
      · rw [if_neg m]
        exact ih
section EVT
variable {G : ev_G} {w : Nat} {H h1 : ev_H} {bp : Nat → Nat} {lay : Nat → Nat × Nat} {val : Nat → Nat} {i j k dd s : Nat} {sa sb ga : Nat → Nat} {P Pb : Nat → Nat → Nat} {fu fd fub fdb : Nat → Nat} {mem memb : Nat} {dn ba sd : Nat} {R : Nat → Nat → Int32} {wa ar : Nat}
theorem k_event {x0 x1 x2 x3 x4 : Int32} (hd : 2 ≤ dd) (hw : 40 ≤ w) (hB : BQ H bp lay dn ba sd) (hb : ba ≤ 1) (hA : AG H (bp 3) ga R wa ar) (hD : AD ga) (hwa : wa ≤ 16) : ev_Ca G dd w m_X8_event [.ref (bp 0), .int x0, .int x1, .int x2, .int x3, .int x4] H 0 0 (ev_ok (fun r h1 => ((ba = 1 ∧ ri x0 0 8 ∧ ri x1 0 7 ∧ wa < 16) ∧ r = some (.int (nI (wa + 1))) ∧ ∃ R1 : Nat → Nat → Int32, (∀ a b, (5 ≤ a ∨ b ≠ wa) → R1 a b = R a b) ∧ (R1 0 wa = x0 ∧ R1 1 wa = x1 ∧ R1 2 wa = x2 ∧ R1 3 wa = x3 ∧ R1 4 wa = x4) ∧ AG h1 (bp 3) ga R1 (wa + 1) ar ∧ AF (bp 3) ga H h1) ∨ (¬ (ba = 1 ∧ ri x0 0 8 ∧ ri x1 0 7 ∧ wa < 16) ∧ r = some (.int (-1)) ∧ h1 = H))) := by
  obtain ⟨dd, rfl⟩ : ∃ e, dd = e + 1 := ⟨dd - 1, by omega⟩
  refine ⟨by decide +kernel, rfl, ?_⟩
  have i0 := i32_le (x := x0) (n := 0) (by decide)
  have i9 := i32_le (x := x0) (n := 9) (by decide)
  have tail : ∀ kn, (kn = 1 ∧ ri x0 0 8 ∧ ri x1 0 7) ∨ (kn = 0 ∧ ¬ (ri x0 0 8 ∧ ri x1 0 7)) → ev_J G (ev_cc G dd w) w m_X8_event (ev_ok (fun r h1 => ((ba = 1 ∧ ri x0 0 8 ∧ ri x1 0 7 ∧ wa < 16) ∧ r = some (.int (nI (wa + 1))) ∧ ∃ R1 : Nat → Nat → Int32, (∀ a b, (5 ≤ a ∨ b ≠ wa) → R1 a b = R a b) ∧ (R1 0 wa = x0 ∧ R1 1 wa = x1 ∧ R1 2 wa = x2 ∧ R1 3 wa = x3 ∧ R1 4 wa = x4) ∧ AG h1 (bp 3) ga R1 (wa + 1) ar ∧ AF (bp 3) ga H h1) ∨ (¬ (ba = 1 ∧ ri x0 0 8 ∧ ri x1 0 7 ∧ wa < 16) ∧ r = some (.int (-1)) ∧ h1 = H))) (22, ev_lf [(0, .ref (bp 0)), (1, .int x0), (2, .int x1), (3, .int x2), (4, .int x3), (5, .int x4)], [.int (nI kn)], H, 0, 0) := by
    intro kn hkn
    have hk1 : kn ≤ 1 := by rcases hkn with q | q <;> omega
    refine ev_istore (pc := 22) dX8_event_22 rfl ?_
    refine ev_aload_n (pc := 24) dX8_event_24 rfl ?_
    refine ev_getf (pc := 25) dX8_event_25 f_X8_67 hB.1 rfl ?_
    refine ev_if_eqN (pc := 28) (tgt := 46) dX8_event_28 (by decide) (by omega) (fun c1 => ?_) (fun c1 => ?_)
    · refine ev_iconst (pc := 46) (v := -1) dX8_event_46 (by decide) ?_
      exact ev_iret (pc := 47) dX8_event_47 rfl rfl (Or.inr ⟨fun q => by have := q.1; omega, rfl, rfl⟩)
    · refine ev_iload (pc := 31) dX8_event_31 rfl ?_
      refine ev_if_eqN (pc := 33) (tgt := 46) dX8_event_33 (by decide) (by omega) (fun c2 => ?_) (fun c2 => ?_)
      · refine ev_iconst (pc := 46) (v := -1) dX8_event_46 (by decide) ?_
        refine ev_iret (pc := 47) dX8_event_47 rfl rfl (Or.inr ⟨fun q => ?_, rfl, rfl⟩)
        rcases hkn with r | r
        · omega
        · exact r.2 ⟨q.2.1, q.2.2.1⟩
      · have hkk : ri x0 0 8 ∧ ri x1 0 7 := by
          rcases hkn with r | r
          · exact r.2
          · omega
        refine ev_aload_n (pc := 36) dX8_event_36 rfl ?_
        refine ev_getf (pc := 37) dX8_event_37 f_X8_22 hB.1 rfl ?_
        refine ev_callV (pc := 40) (As := []) dX8_event_40 cv_X8_127 rfl rfl hA.1 rfl ⟨by show 19 + 1 ≤ w; omega, show ev_Ca _ _ (w - 20) _ _ _ _ _ _ from k_isFull (by omega) hA hwa⟩ rfl rfl (fun r h1 hp => ?_)
        obtain ⟨rfl, hH⟩ := hp
        rw [hH]
        clear hH h1
        by_cases c3 : 16 ≤ wa
        · rw [if_pos c3]
          refine ev_if_eqN (pc := 43) (tgt := 48) dX8_event_43 (by decide) (by decide) (fun q => absurd q (by decide)) (fun _ => ?_)
          refine ev_iconst (pc := 46) (v := -1) dX8_event_46 (by decide) ?_
          exact ev_iret (pc := 47) dX8_event_47 rfl rfl (Or.inr ⟨fun q => by have := q.2.2.2; omega, rfl, rfl⟩)
        · rw [if_neg c3]
          refine ev_if_eqN (pc := 43) (tgt := 48) dX8_event_43 (by decide) (by decide) (fun _ => ?_) (fun q => absurd q (by decide))
          refine ev_aload_n (pc := 48) dX8_event_48 rfl ?_
          refine ev_getf (pc := 49) dX8_event_49 f_X8_22 hB.1 rfl ?_
          refine ev_iload_n (pc := 52) dX8_event_52 rfl ?_
          refine ev_iload_n (pc := 53) dX8_event_53 rfl ?_
          refine ev_iload_n (pc := 54) dX8_event_54 rfl ?_
          refine ev_iload (pc := 55) dX8_event_55 rfl ?_
          refine ev_iload (pc := 57) dX8_event_57 rfl ?_
          refine ev_callV (pc := 59) (As := [.int x0, .int x1, .int x2, .int x3, .int x4]) dX8_event_59 cv_X8_131 rfl rfl hA.1 rfl ⟨by show 19 + 6 ≤ w; omega, show ev_Ca _ _ (w - 25) _ _ _ _ _ _ from k_note (by omega) hA hD (by omega)⟩ rfl rfl (fun r h1 hp => ?_)
          obtain ⟨rfl, R1, a1, a2, a3, a4⟩ := hp
          exact ev_iret (pc := 62) dX8_event_62 rfl rfl (Or.inl ⟨⟨by omega, hkk.1, hkk.2, by omega⟩, rfl, R1, a1, a2, a3, a4⟩)
  refine ev_iload_n (pc := 0) dX8_event_0 rfl ?_
  refine ev_if_lt (pc := 1) (tgt := 21) dX8_event_1 (by decide) (fun c1 => ?_) (fun c1 => ?_)
  · have n1 := i0.2.1.mp c1
    refine ev_iconst (pc := 21) (v := nI 0) dX8_event_21 (by decide) ?_
    refine ev_vs [(0, .ref (bp 0)), (1, .int x0), (2, .int x1), (3, .int x2), (4, .int x3), (5, .int x4)] ⟨rfl, rfl, rfl, rfl, rfl, rfl, trivial⟩ ?_
    exact tail 0 (Or.inr ⟨rfl, fun q => by have := q.1.1; omega⟩)
  · have n1 : 0 ≤ x0.toInt := Int.not_lt.mp (fun q => c1 (i0.2.1.mpr q))
    refine ev_iload_n (pc := 4) dX8_event_4 rfl ?_
    refine ev_bipush (pc := 5) (v := nI 9) dX8_event_5 (by decide) ?_
    refine ev_icmp_ge (pc := 7) (tgt := 21) dX8_event_7 (by decide) (fun c2 => ?_) (fun c2 => ?_)
    · have n2 := i9.1.mp c2
      refine ev_iconst (pc := 21) (v := nI 0) dX8_event_21 (by decide) ?_
      refine ev_vs [(0, .ref (bp 0)), (1, .int x0), (2, .int x1), (3, .int x2), (4, .int x3), (5, .int x4)] ⟨rfl, rfl, rfl, rfl, rfl, rfl, trivial⟩ ?_
      exact tail 0 (Or.inr ⟨rfl, fun q => by have := q.1.2; omega⟩)
    · have n2 : x0.toInt < 9 := Int.not_le.mp (fun q => c2 (i9.1.mpr q))
      refine ev_iload_n (pc := 10) dX8_event_10 rfl ?_
      refine ev_callS (pc := 11) (As := [.int x1]) dX8_event_11 cs_X8_124 rfl rfl ⟨by show 19 + 1 ≤ w; omega, show ev_Ca _ _ (w - 20) _ _ _ _ _ _ from k_has (by omega)⟩ rfl rfl (fun r h1 hp => ?_)
      obtain ⟨rfl, hH⟩ := hp
      rw [hH]
      clear hH h1
      rcases rb_2 x1 0 7 with ⟨e, q⟩ | ⟨e, q⟩
      · rw [e]
        refine ev_if_eqN (pc := 14) (tgt := 21) dX8_event_14 (by decide) (by decide) (fun q => absurd q (by decide)) (fun _ => ?_)
        refine ev_iconst (pc := 17) (v := nI 1) dX8_event_17 (by decide) ?_
        refine ev_goto (pc := 18) (tgt := 22) dX8_event_18 (by decide) ?_
        refine ev_vs [(0, .ref (bp 0)), (1, .int x0), (2, .int x1), (3, .int x2), (4, .int x3), (5, .int x4)] ⟨rfl, rfl, rfl, rfl, rfl, rfl, trivial⟩ ?_
        exact tail 1 (Or.inl ⟨rfl, ⟨n1, by omega⟩, q⟩)
      · rw [e]
        refine ev_if_eqN (pc := 14) (tgt := 21) dX8_event_14 (by decide) (by decide) (fun _ => ?_) (fun q => absurd q (by decide))
        refine ev_iconst (pc := 21) (v := nI 0) dX8_event_21 (by decide) ?_
        refine ev_vs [(0, .ref (bp 0)), (1, .int x0), (2, .int x1), (3, .int x2), (4, .int x3), (5, .int x4)] ⟨rfl, rfl, rfl, rfl, rfl, rfl, trivial⟩ ?_
        exact tail 0 (Or.inr ⟨rfl, fun r => q r.2⟩)
theorem k_weight {x : Int32} (hd : 7 ≤ dd) (hw : 160 ≤ w) (h : DW H (bp 4) lay val) (hB : BQ H bp lay dn ba sd) (hS : SH H (bp 1) sa P fu fd mem) (hP : P_ok P) (hf : f_ok fu fd) (hm : mem < 256) : ev_Ca G dd w m_X8_weight [.ref (bp 0), .int x] H 0 0 (ev_ok (fun r h1 => (∃ s, x = nI s ∧ s < 8 ∧ mem / 2 ^ s % 2 = 1 ∧ r = some (.int (nI ((su P fu fd mem 8).2 * pw P s * fu s * 1000000000 / ((su P fu fd mem 8).1 * fd s)))) ∧ dpost H (bp 4) lay val (fun v2 => ∀ x, 9 ≤ x → x ≠ 13 → x ≠ 14 → v2 x = val x) h1) ∨ ((∀ s, x = nI s → s < 8 → mem / 2 ^ s % 2 ≠ 1) ∧ r = some (.int (-1)) ∧ h1 = H))) := by
  obtain ⟨dd, rfl⟩ : ∃ e, dd = e + 1 := ⟨dd - 1, by omega⟩
  refine ⟨by decide +kernel, rfl, ?_⟩
  obtain ⟨z1, z2⟩ := su_b8 (mem := mem) hP hf (Nat.le_refl 8)
  refine ev_iload_n (pc := 0) dX8_weight_0 rfl ?_
  refine ev_callS (pc := 1) (As := [.int x]) dX8_weight_1 cs_X8_124 rfl rfl ⟨by show 19 + 1 ≤ w; omega, show ev_Ca _ _ (w - 20) _ _ _ _ _ _ from k_has (by omega)⟩ rfl rfl (fun r h1 hp => ?_)
  obtain ⟨rfl, hH⟩ := hp
  rw [hH]
  clear hH h1
  rcases rb_2 x 0 7 with ⟨e, q⟩ | ⟨e, q⟩
  · rw [e]
    clear e
    obtain ⟨s, rfl, s1, s2⟩ := ri_nI (x := x) (lo := 0) (hi := 7) q (by decide)
    have hs : s < 8 := by omega
    have hfs := hf s hs
    have hpw := pw_b hP hs
    have hb2 : mem / 2 ^ s % 2 < 2 := Nat.mod_lt _ (by decide)
    refine ev_if_eqN (pc := 4) (tgt := 18) dX8_weight_4 (by decide) (by decide) (fun q => absurd q (by decide)) (fun _ => ?_)
    refine ev_aload_n (pc := 7) dX8_weight_7 rfl ?_
    refine ev_getf (pc := 8) dX8_weight_8 f_X8_10 hB.1 rfl ?_
    refine ev_iload_n (pc := 11) dX8_weight_11 rfl ?_
    refine ev_callV (pc := 12) (As := [.int (nI s)]) dX8_weight_12 cv_X8_78 rfl rfl hS.1 rfl ⟨by show 19 + 2 ≤ w; omega, show ev_Ca _ _ (w - 21) _ _ _ _ _ _ from k_isMember (by omega) hS hm hs⟩ rfl rfl (fun r h1 hp => ?_)
    obtain ⟨rfl, hH⟩ := hp
    rw [hH]
    clear hH h1
    refine ev_if_neN (pc := 15) (tgt := 20) dX8_weight_15 (by decide) (by omega) (fun c1 => ?_) (fun c1 => ?_)
    · have hb : mem / 2 ^ s % 2 = 1 := by omega
      have ge := su_ge (P := P) (fu := fu) (fd := fd) hb 8 hs
      refine ev_aload_n (pc := 20) dX8_weight_20 rfl ?_
      refine ev_getf (pc := 21) dX8_weight_21 f_X8_29 hB.1 rfl ?_
      refine ev_aload_n (pc := 24) dX8_weight_24 rfl ?_
      refine ev_getf (pc := 25) dX8_weight_25 f_X8_10 hB.1 rfl ?_
      refine ev_aload_n (pc := 28) dX8_weight_28 rfl ?_
      refine ev_getf (pc := 29) dX8_weight_29 f_X8_50 hB.1 rfl ?_
      refine ev_callV (pc := 32) (As := [.ref (bp 1), .ref (bp 8)]) dX8_weight_32 cv_X8_100 rfl rfl h.2.2 rfl ⟨by show 19 + 4 ≤ w; omega, show ev_Ca _ _ (w - 23) _ _ _ _ _ _ from k_addUp (u := 13) (by omega) (by omega) h hS hP hf hm (hB.2 2 (by decide)) (by omega) (by omega)⟩ rfl rfl (fun r h1 hp => ?_)
      obtain ⟨rfl, v2, hA, ⟨p1, p2, p3⟩, hF1⟩ := hp
      have hB2 := bq_wf h.2.1 hF1 hB
      have hS2 := sh_wf h.2.1 hF1 hS
      generalize (su P fu fd mem 8).1 = W1 at *
      generalize (su P fu fd mem 8).2 = W2 at *
      refine ev_aload_n (pc := 35) dX8_weight_35 rfl ?_
      refine ev_getf (pc := 36) dX8_weight_36 f_X8_29 hB2.1 rfl ?_
      refine ev_aload_n (pc := 39) dX8_weight_39 rfl ?_
      refine ev_getf (pc := 40) dX8_weight_40 f_X8_10 hB2.1 rfl ?_
      refine ev_iload_n (pc := 43) dX8_weight_43 rfl ?_
      refine ev_ldc (pc := 44) dX8_weight_44 k_X8_164 ?_
      refine ev_aload_n (pc := 46) dX8_weight_46 rfl ?_
      refine ev_getf (pc := 47) dX8_weight_47 f_X8_50 hB2.1 rfl ?_
      refine ev_iconst (pc := 50) (v := nI 1) dX8_weight_50 (by decide) ?_
      refine ev_callV (pc := 51) (As := [.ref (bp 1), .int (nI s), .int (nI 1000000000), .ref (bp 8), .int (nI 1)]) dX8_weight_51 cv_X8_165 rfl rfl hA.2.2 rfl ⟨by show 19 + 6 ≤ w; omega, show ev_Ca _ _ (w - 25) _ _ _ _ _ _ from k_weigh (u := 13) (t := 1000000000) (t2 := 1) (by omega) (by omega) hA hS2 hP hf hs (hB2.2 2 (by decide)) (by omega) (by omega) (by decide) (by decide) (by rw [p1]; exact p2_le (by decide) z1) (by rw [show 13 + 1 = 14 from rfl, p2]; exact p2_le (by decide) z2)⟩ rfl rfl (fun r h1 hp => ?_)
      obtain ⟨rfl, v3, hA3, ⟨q1, q2, q3⟩, hF3⟩ := hp
      have hB3 := bq_wf hA.2.1 hF3 hB2
      have e1 : v3 1 = W2 * pw P s * fu s * 1000000000 := by rw [q1, show 13 + 1 = 14 from rfl, p2]
      have e2 : v3 2 = W1 * fd s := by rw [q2, p1, Nat.mul_one]
      have b1 : v3 1 < 1073741824 ^ 70 := by
        rw [e1, p2_70]
        exact p2_le (show 505 + 54 + 63 + 30 ≤ 2100 by decide) (p2_mul (p2_mul (p2_mul z2 (show pw P s < 2 ^ 54 by omega)) hfs.1.2) (by decide))
      have b2 : v3 1 / v3 2 ≤ 1000000000 := by
        rw [e1, e2]
        exact Nat.div_le_of_le_mul (Nat.mul_le_mul_right _ ge)
      refine ev_aload_n (pc := 54) dX8_weight_54 rfl ?_
      refine ev_getf (pc := 55) dX8_weight_55 f_X8_29 hB3.1 rfl ?_
      refine ev_aload_n (pc := 58) dX8_weight_58 rfl ?_
      refine ev_getf (pc := 59) dX8_weight_59 f_X8_29 hB3.1 rfl ?_
      refine ev_getf (pc := 62) dX8_weight_62 f_X8_169 hA3.2.2 rfl ?_
      refine ev_aload_n (pc := 65) dX8_weight_65 rfl ?_
      refine ev_getf (pc := 66) dX8_weight_66 f_X8_29 hB3.1 rfl ?_
      refine ev_getf (pc := 69) dX8_weight_69 f_X8_172 hA3.2.2 rfl ?_
      refine ev_callV (pc := 72) (As := [.ref (lay 1).1, .ref (lay 2).1]) dX8_weight_72 cv_X8_175 rfl rfl hA3.2.2 rfl ⟨by show 19 + 7 ≤ w; omega, show ev_Ca _ _ (w - 26) _ _ _ _ _ _ from k_divide (i := 1) (j := 2) (by omega) (by omega) hA3 (by omega) (by omega) (by omega) (by omega) (by omega) (by omega) (by omega) b1⟩ rfl rfl (fun r h1 hp => ?_)
      obtain ⟨rfl, v4, hA4, ⟨r1, r2, r3⟩, hF4⟩ := hp
      have hB4 := bq_wf hA3.2.1 hF4 hB3
      refine ev_aload_n (pc := 75) dX8_weight_75 rfl ?_
      refine ev_getf (pc := 76) dX8_weight_76 f_X8_29 hB4.1 rfl ?_
      refine ev_getf (pc := 79) dX8_weight_79 f_X8_178 hA4.2.2 rfl ?_
      refine ev_callVe (pc := 82) (As := []) dX8_weight_82 cv_X8_181 rfl rfl (wi_o (hA4.2.1 0 (by omega))) rfl ⟨by show 19 + 1 ≤ w; omega, show ev_Ca _ _ (w - 20) _ _ _ _ _ _ from t_asLong (i := 0) (by omega) hA4 (by omega) (by rw [r1]; omega)⟩ rfl rfl (fun r h1 hp => ?_)
      obtain ⟨rfl, hH⟩ := hp
      rw [hH]
      clear hH
      refine ev_l2iN (pc := 85) dX8_weight_85 ?_
      refine ev_iret (pc := 86) dX8_weight_86 rfl rfl (Or.inl ⟨s, rfl, hs, hb, by rw [r1, e1, e2], v4, hA4, fun x x1 x2 x3 => ?_, (hF1.tr hF3).tr hF4⟩)
      rw [r3 x (by omega) (by omega) (by omega), q3 x x1, p3 x x1 x2 x3]
    · refine ev_iconst (pc := 18) (v := -1) dX8_weight_18 (by decide) ?_
      refine ev_iret (pc := 19) dX8_weight_19 rfl rfl (Or.inr ⟨fun t ht ht8 hb => ?_, rfl, rfl⟩)
      have : s = t := (nI_eq (by omega) (by omega)).mp ht
      subst this
      omega
  · rw [e]
    refine ev_if_eqN (pc := 4) (tgt := 18) dX8_weight_4 (by decide) (by decide) (fun _ => ?_) (fun q => absurd q (by decide))
    refine ev_iconst (pc := 18) (v := -1) dX8_weight_18 (by decide) ?_
    refine ev_iret (pc := 19) dX8_weight_19 rfl rfl (Or.inr ⟨fun t ht ht8 hb => ?_, rfl, rfl⟩)
    subst ht
    exact q ((nI_ri (lo := 0) (hi := 7) (by omega)).mpr ⟨by omega, by omega⟩)
end EVT
