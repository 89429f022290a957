/-! IndexBureau: exactLevel, roundedLevel, findNextDivisor -/
theorem red_u {a b n d : Nat} (hab : Nat.Coprime a b) (hn : 0 < n) (e : a * d = b * n) : a = n / Nat.gcd n d ∧ b = d / Nat.gcd n d := by
  have hg : 0 < Nat.gcd n d := Nat.gcd_pos_of_pos_left _ hn
  have hc : Nat.Coprime (n / Nat.gcd n d) (d / Nat.gcd n d) := Nat.coprime_div_gcd_div_gcd hg
  have e1 : n = n / Nat.gcd n d * Nat.gcd n d := (Nat.div_mul_cancel (Nat.gcd_dvd_left n d)).symm
  have e2 : d = d / Nat.gcd n d * Nat.gcd n d := (Nat.div_mul_cancel (Nat.gcd_dvd_right n d)).symm
  have hn0 : 0 < n / Nat.gcd n d := Nat.div_pos (Nat.le_of_dvd hn (Nat.gcd_dvd_left n d)) hg
  generalize n / Nat.gcd n d = n1 at *
  generalize d / Nat.gcd n d = d1 at *
  generalize Nat.gcd n d = g at *
  have e3 : a * d1 = b * n1 := by
    rw [e1, e2, ← Nat.mul_assoc, ← Nat.mul_assoc] at e
    exact Nat.eq_of_mul_eq_mul_right hg e
  have x1 : n1 ∣ a := hc.dvd_of_dvd_mul_right ⟨b, by rw [e3, Nat.mul_comm]⟩
  have x2 : a ∣ n1 := hab.dvd_of_dvd_mul_left ⟨d1, by rw [← e3]⟩
  have x3 : a = n1 := Nat.dvd_antisymm x2 x1
  refine ⟨x3, ?_⟩
  rw [x3, Nat.mul_comm] at e3
  exact (Nat.eq_of_mul_eq_mul_right hn0 e3).symm
/-- crosswise cancelled, then multiplied: least terms -/
theorem cross {a b r s : Nat} (hab : Nat.Coprime a b) (ha : 0 < a) (hb : 0 < b) (hr : 0 < r) (hs : 0 < s) {r1 s1 : Nat} (e1 : r1 = r / Nat.gcd r s) (e2 : s1 = s / Nat.gcd r s) {a2 s2 r2 b2 : Nat} (e3 : a2 = a / Nat.gcd a s1) (e4 : s2 = s1 / Nat.gcd a s1) (e5 : r2 = r1 / Nat.gcd r1 b) (e6 : b2 = b / Nat.gcd r1 b) : a2 * r2 = a * r / Nat.gcd (a * r) (b * s) ∧ b2 * s2 = b * s / Nat.gcd (a * r) (b * s) ∧ 0 < a2 * r2 ∧ 0 < b2 * s2 := by
  have g1 : 0 < Nat.gcd r s := Nat.gcd_pos_of_pos_left _ hr
  have d1 : r = r1 * Nat.gcd r s := by rw [e1, Nat.div_mul_cancel (Nat.gcd_dvd_left r s)]
  have d2 : s = s1 * Nat.gcd r s := by rw [e2, Nat.div_mul_cancel (Nat.gcd_dvd_right r s)]
  have c1 : Nat.Coprime r1 s1 := by rw [e1, e2]; exact Nat.coprime_div_gcd_div_gcd g1
  have g2 : 0 < Nat.gcd a s1 := Nat.gcd_pos_of_pos_left _ ha
  have g3 : 0 < Nat.gcd r1 b := Nat.gcd_pos_of_pos_right _ hb
  have d3 : a = a2 * Nat.gcd a s1 := by rw [e3, Nat.div_mul_cancel (Nat.gcd_dvd_left a s1)]
  have d4 : s1 = s2 * Nat.gcd a s1 := by rw [e4, Nat.div_mul_cancel (Nat.gcd_dvd_right a s1)]
  have d5 : r1 = r2 * Nat.gcd r1 b := by rw [e5, Nat.div_mul_cancel (Nat.gcd_dvd_left r1 b)]
  have d6 : b = b2 * Nat.gcd r1 b := by rw [e6, Nat.div_mul_cancel (Nat.gcd_dvd_right r1 b)]
  have c2 : Nat.Coprime a2 s2 := by rw [e3, e4]; exact Nat.coprime_div_gcd_div_gcd g2
  have c3 : Nat.Coprime r2 b2 := by rw [e5, e6]; exact Nat.coprime_div_gcd_div_gcd g3
  have v1 : a2 ∣ a := ⟨_, d3⟩
  have v2 : b2 ∣ b := ⟨_, d6⟩
  have v3 : r2 ∣ r1 := ⟨_, d5⟩
  have v4 : s2 ∣ s1 := ⟨_, d4⟩
  have c4 : Nat.Coprime a2 b2 := Nat.Coprime.coprime_dvd_left v1 (Nat.Coprime.coprime_dvd_right v2 hab)
  have c5 : Nat.Coprime r2 s2 := Nat.Coprime.coprime_dvd_left v3 (Nat.Coprime.coprime_dvd_right v4 c1)
  have cc : Nat.Coprime (a2 * r2) (b2 * s2) := Nat.Coprime.mul_left (Nat.Coprime.mul_right c4 c2) (Nat.Coprime.mul_right c3 c5)
  have p1 : 0 < a2 := Nat.pos_of_ne_zero (fun q => by rw [q, Nat.zero_mul] at d3; omega)
  have p2 : 0 < b2 := Nat.pos_of_ne_zero (fun q => by rw [q, Nat.zero_mul] at d6; omega)
  have p3 : 0 < r1 := Nat.pos_of_ne_zero (fun q => by rw [q, Nat.zero_mul] at d1; omega)
  have p4 : 0 < s1 := Nat.pos_of_ne_zero (fun q => by rw [q, Nat.zero_mul] at d2; omega)
  have p5 : 0 < r2 := Nat.pos_of_ne_zero (fun q => by rw [q, Nat.zero_mul] at d5; omega)
  have p6 : 0 < s2 := Nat.pos_of_ne_zero (fun q => by rw [q, Nat.zero_mul] at d4; omega)
  have eq : a2 * r2 * (b * s) = b2 * s2 * (a * r) := by
    have t1 : b * s = b2 * Nat.gcd r1 b * (s2 * Nat.gcd a s1 * Nat.gcd r s) := by rw [← d6, ← d4, ← d2]
    have t2 : a * r = a2 * Nat.gcd a s1 * (r2 * Nat.gcd r1 b * Nat.gcd r s) := by rw [← d3, ← d5, ← d1]
    rw [t1, t2]
    ac_rfl
  have u := red_u cc (Nat.mul_pos ha hr) eq
  exact ⟨u.1, u.2, Nat.mul_pos p1 p5, Nat.mul_pos p2 p6⟩
theorem p2_add {a b x : Nat} (ha : a < 2 ^ x) (hb : b < 2 ^ x) : a + b < 2 ^ (x + 1) := by rw [Nat.pow_succ]; omega
theorem lN_lt63 {a b : Nat} (ha : a < 2 ^ 63) (hb : b < 2 ^ 63) : lN a < lN b ↔ a < b := by
  rw [Int64.lt_iff_toInt_lt, pf_lI ha, pf_lI hb]
  omega
theorem su_pos {P : Nat → Nat → Nat} {fu fd : Nat → Nat} {mem : Nat} (hP : P_ok P) (hf : f_ok fu fd) : ∀ k, k ≤ 8 → 0 < (su P fu fd mem k).2 ∧ (∀ s, s < k → mem / 2 ^ s % 2 = 1 → 0 < (su P fu fd mem k).1)
  | 0, _ => ⟨by show 0 < 1; decide, fun s hs => absurd hs (Nat.not_lt_zero s)⟩
  | k + 1, hk => by
    obtain ⟨h1, h2⟩ := su_pos (mem := mem) hP hf k (by omega)
    obtain ⟨⟨f1, f2⟩, f3, f4⟩ := hf k (by omega)
    obtain ⟨p1, p2⟩ := pw_b hP (show k < 8 by omega)
    have g0 : 0 < Nat.gcd (pw P k) (fd k) := Nat.gcd_pos_of_pos_left _ p1
    have g1 : 0 < fd k / Nat.gcd (pw P k) (fd k) := Nat.div_pos (Nat.le_of_dvd f3 (Nat.gcd_dvd_right _ _)) g0
    have g2 : 0 < pw P k / Nat.gcd (pw P k) (fd k) := Nat.div_pos (Nat.le_of_dvd p1 (Nat.gcd_dvd_left _ _)) g0
    unfold su
    split
    · exact ⟨Nat.mul_pos h1 g1, fun s hs hm => Nat.lt_of_lt_of_le (Nat.mul_pos (Nat.mul_pos g2 f1) h1) (Nat.le_add_left _ _)⟩
    · rename_i c
      refine ⟨h1, fun s hs hm => ?_⟩
      rcases Nat.lt_or_ge s k with q | q
      · exact h2 s q hm
      · rw [show s = k by omega] at hm; exact absurd hm c
theorem su_p8 {P : Nat → Nat → Nat} {fu fd : Nat → Nat} {mem : Nat} (hP : P_ok P) (hf : f_ok fu fd) (hm : mem < 256) (hm0 : mem ≠ 0) : 0 < (su P fu fd mem 8).1 ∧ 0 < (su P fu fd mem 8).2 := by
  obtain ⟨h1, h2⟩ := su_pos (mem := mem) hP hf 8 (Nat.le_refl 8)
  have : ∃ s, s < 8 ∧ mem / 2 ^ s % 2 = 1 := by
    have key : ∀ m, m < 256 → m ≠ 0 → ∃ s, s < 8 ∧ m / 2 ^ s % 2 = 1 := by decide +kernel
    exact key mem hm hm0
  obtain ⟨s, hs, hb⟩ := this
  exact ⟨h2 s hs hb, h1⟩
def bf (bp : Nat → Nat) (dn ba sd : Nat) : List Value := [.ref (bp 1), .ref (bp 2), .ref (bp 3), .ref (bp 4), .ref (bp 5), .ref (bp 6), .ref (bp 7), .ref (bp 8), .ref (bp 9), .ref (bp 10), .ref (bp 11), .int (nI dn), .int (nI ba), .int (nI sd)]
/-- the bureau: 0 itself, 1 shares, 2 those before, 3 agenda, 4 desk, 5 text, 6 to 10 the fractions, 11 the levels -/
def BQ (H : ev_H) (bp : Nat → Nat) (lay : Nat → Nat × Nat) (dn ba sd : Nat) : Prop := H (bp 0) = some (.inr (6, bf bp dn ba sd)) ∧ ∀ i, i < 5 → H (bp (6 + i)) = some (.inr (2, [.ref (lay (9 + 2 * i)).1, .ref (lay (9 + 2 * i + 1)).1]))
section BUR
variable {G : ev_G} {w : Nat} {H : ev_H} {bp : Nat → Nat} {lay : Nat → Nat × Nat} {val : Nat → Nat} {i j k dd s : Nat} {sa sb : Nat → Nat} {P P2 : Nat → Nat → Nat} {fu fd fu2 fd2 : Nat → Nat} {mem mem2 : Nat} {dn ba sd : Nat}
theorem bq_wf {h1 : ev_H} (hS : WS H lay val) (hF : WF lay H h1) (h : BQ H bp lay dn ba sd) : BQ h1 bp lay dn ba sd := ⟨(hF _ (ws_out hS h.1 (fun fs e => by cases e) (fun f e => by cases e))).trans h.1, fun i hi => fr_wf hS (h.2 i hi) hF⟩
theorem k_exactLevel (hd : 7 ≤ dd) (hw : 150 ≤ w) (h : DW H (bp 4) lay val) (hB : BQ H bp lay dn ba sd) (hS : SH H (bp 1) sa P fu fd mem) (hP : P_ok P) (hf : f_ok fu fd) (hm : mem < 256) (v9 : val 9 < 2 ^ 512) (v10 : val 10 < 2 ^ 512) : ev_Ca G dd w m_X8_exactLevel [.ref (bp 0)] H 0 0 (ev_ok (fun r h1 => r = none ∧ dpost H (bp 4) lay val (fun v2 => v2 17 = (su P fu fd mem 8).1 * val 10 ∧ v2 18 = (su P fu fd mem 8).2 * val 9 ∧ ∀ x, 9 ≤ x → x ≠ 17 → x ≠ 18 → v2 x = val x) h1)) := by
  obtain ⟨dd, rfl⟩ : ∃ e, dd = e + 1 := ⟨dd - 1, by omega⟩
  refine ⟨by decide +kernel, rfl, ?_⟩
  obtain ⟨z1, z2⟩ := su_b8 (mem := mem) hP hf (Nat.le_refl 8)
  refine ev_aload_n (pc := 0) dX8_exactLevel_0 rfl ?_
  refine ev_getf (pc := 1) dX8_exactLevel_1 f_X8_29 hB.1 rfl ?_
  refine ev_aload_n (pc := 4) dX8_exactLevel_4 rfl ?_
  refine ev_getf (pc := 5) dX8_exactLevel_5 f_X8_10 hB.1 rfl ?_
  refine ev_aload_n (pc := 8) dX8_exactLevel_8 rfl ?_
  refine ev_getf (pc := 9) dX8_exactLevel_9 f_X8_56 hB.1 rfl ?_
  refine ev_callV (pc := 12) (As := [.ref (bp 1), .ref (bp 10)]) dX8_exactLevel_12 cv_X8_100 rfl rfl h.2.2 rfl ⟨by show 19 + 4 ≤ w; omega, show ev_Ca _ _ (w - 23) _ _ _ _ _ _ from k_addUp (u := 17) (by omega) (by omega) h hS hP hf hm (hB.2 4 (by decide)) (by omega) (by omega)⟩ rfl rfl (fun r h1 hp => ?_)
  obtain ⟨rfl, v2, hA, ⟨p1, p2, p3⟩, hF1⟩ := hp
  have hB2 := bq_wf h.2.1 hF1 hB
  refine ev_aload_n (pc := 15) dX8_exactLevel_15 rfl ?_
  refine ev_getf (pc := 16) dX8_exactLevel_16 f_X8_29 hB2.1 rfl ?_
  refine ev_aload_n (pc := 19) dX8_exactLevel_19 rfl ?_
  refine ev_getf (pc := 20) dX8_exactLevel_20 f_X8_56 hB2.1 rfl ?_
  refine ev_getf (pc := 23) dX8_exactLevel_23 f_X8_112 (hB2.2 4 (by decide)) rfl ?_
  refine ev_aload_n (pc := 26) dX8_exactLevel_26 rfl ?_
  refine ev_getf (pc := 27) dX8_exactLevel_27 f_X8_43 hB2.1 rfl ?_
  refine ev_getf (pc := 30) dX8_exactLevel_30 f_X8_104 (hB2.2 0 (by decide)) rfl ?_
  have b1 : v2 17 * v2 10 < 1073741824 ^ 71 := by rw [p2_71, p1, p3 10 (by omega) (by omega) (by omega)]; exact p2_le (show 571 + 512 ≤ 2130 by decide) (p2_mul (x := 571) (y := 512) z1 v10)
  refine ev_callV (pc := 33) (As := [.ref (lay 17).1, .ref (lay 10).1]) dX8_exactLevel_33 cv_X8_256 rfl rfl hA.2.2 rfl ⟨by show 19 + 3 ≤ w; omega, show ev_Ca _ _ (w - 22) _ _ _ _ _ _ from k_multiply (i := 17) (j := 10) (by omega) (by omega) hA (by omega) (by omega) (by omega) (by omega) b1⟩ rfl rfl (fun r h1 hp => ?_)
  obtain ⟨rfl, v3, hA3, ⟨q1, q2⟩, hF3⟩ := hp
  have hB3 := bq_wf hA.2.1 hF3 hB2
  refine ev_aload_n (pc := 36) dX8_exactLevel_36 rfl ?_
  refine ev_getf (pc := 37) dX8_exactLevel_37 f_X8_29 hB3.1 rfl ?_
  refine ev_aload_n (pc := 40) dX8_exactLevel_40 rfl ?_
  refine ev_getf (pc := 41) dX8_exactLevel_41 f_X8_56 hB3.1 rfl ?_
  refine ev_getf (pc := 44) dX8_exactLevel_44 f_X8_104 (hB3.2 4 (by decide)) rfl ?_
  refine ev_aload_n (pc := 47) dX8_exactLevel_47 rfl ?_
  refine ev_getf (pc := 48) dX8_exactLevel_48 f_X8_43 hB3.1 rfl ?_
  refine ev_getf (pc := 51) dX8_exactLevel_51 f_X8_112 (hB3.2 0 (by decide)) rfl ?_
  have e18 : v3 18 = (su P fu fd mem 8).2 := (q2 18 (by omega) (by omega)).trans p2
  have e9 : v3 9 = val 9 := (q2 9 (by omega) (by omega)).trans (p3 9 (by omega) (by omega) (by omega))
  have b2 : v3 18 * v3 9 < 1073741824 ^ 71 := by rw [p2_71, e18, e9]; exact p2_le (show 505 + 512 ≤ 2130 by decide) (p2_mul (x := 505) (y := 512) z2 v9)
  refine ev_callV (pc := 54) (As := [.ref (lay 18).1, .ref (lay 9).1]) dX8_exactLevel_54 cv_X8_256 rfl rfl hA3.2.2 rfl ⟨by show 19 + 3 ≤ w; omega, show ev_Ca _ _ (w - 22) _ _ _ _ _ _ from k_multiply (i := 18) (j := 9) (by omega) (by omega) hA3 (by omega) (by omega) (by omega) (by omega) b2⟩ rfl rfl (fun r h1 hp => ?_)
  obtain ⟨rfl, v4, hA4, ⟨r1, r2⟩, hF4⟩ := hp
  refine ev_vret (pc := 57) dX8_exactLevel_57 rfl ⟨rfl, v4, hA4, ⟨?_, ?_, fun x x1 x2 x3 => ?_⟩, (hF1.tr hF3).tr hF4⟩
  · rw [r2 17 (by omega) (by omega), q1, p1, p3 10 (by omega) (by omega) (by omega)]
  · rw [r1, e18, e9]
  · rw [r2 x x3 (by omega), q2 x x2 (by omega), p3 x x1 x2 x3]
/-- the level in hundredths, halves up, at most so much -/
def rl (n m : Nat) : Nat := min ((n * 200 + m) / (m * 2)) 999999999999999999
theorem k_roundedLevel (hd : 8 ≤ dd) (hw : 170 ≤ w) (h : DW H (bp 4) lay val) (hB : BQ H bp lay dn ba sd) (hS : SH H (bp 1) sa P fu fd mem) (hP : P_ok P) (hf : f_ok fu fd) (hm : mem < 256) (v9 : val 9 < 2 ^ 512) (v10 : val 10 < 2 ^ 512) : ev_Ca G dd w m_X8_roundedLevel [.ref (bp 0)] H 0 0 (ev_ok (fun r h1 => r = some (.long (lN (rl ((su P fu fd mem 8).1 * val 10) ((su P fu fd mem 8).2 * val 9)))) ∧ dpost H (bp 4) lay val (fun v2 => ∀ x, 9 ≤ x → x ≠ 17 → x ≠ 18 → v2 x = val x) h1)) := by
  obtain ⟨dd, rfl⟩ : ∃ e, dd = e + 1 := ⟨dd - 1, by omega⟩
  refine ⟨by decide +kernel, rfl, ?_⟩
  obtain ⟨z1, z2⟩ := su_b8 (mem := mem) hP hf (Nat.le_refl 8)
  have n1 : (su P fu fd mem 8).1 * val 10 < 2 ^ (571 + 512) := p2_mul z1 v10
  have n2 : (su P fu fd mem 8).2 * val 9 < 2 ^ (505 + 512) := p2_mul z2 v9
  refine ev_aload_n (pc := 0) dX8_roundedLevel_0 rfl ?_
  refine ev_callV (pc := 1) (As := []) dX8_roundedLevel_1 cv_X8_186 rfl rfl hB.1 rfl ⟨by show 19 + 1 ≤ w; omega, show ev_Ca _ _ (w - 20) _ _ _ _ _ _ from k_exactLevel (by omega) (by omega) h hB hS hP hf hm v9 v10⟩ rfl rfl (fun r h1 hp => ?_)
  obtain ⟨rfl, v2, hA, ⟨p1, p2, p3⟩, hF1⟩ := hp
  have hB2 := bq_wf h.2.1 hF1 hB
  generalize (su P fu fd mem 8).1 * val 10 = N at *
  generalize (su P fu fd mem 8).2 * val 9 = M at *
  refine ev_aload_n (pc := 4) dX8_roundedLevel_4 rfl ?_
  refine ev_getf (pc := 5) dX8_roundedLevel_5 f_X8_29 hB2.1 rfl ?_
  refine ev_aload_n (pc := 8) dX8_roundedLevel_8 rfl ?_
  refine ev_getf (pc := 9) dX8_roundedLevel_9 f_X8_56 hB2.1 rfl ?_
  refine ev_getf (pc := 12) dX8_roundedLevel_12 f_X8_112 (hB2.2 4 (by decide)) rfl ?_
  refine ev_ldc2 (pc := 15) dX8_roundedLevel_15 k_X8_266 ?_
  have b1 : v2 17 * 200 < 1073741824 ^ 71 := by rw [p2_71, p1]; exact p2_le (show 571 + 512 + 8 ≤ 2130 by decide) (p2_mul (x := 571 + 512) (y := 8) n1 (by decide))
  refine ev_callV (pc := 18) (As := [.ref (lay 17).1, .long (lN 200)]) dX8_roundedLevel_18 cv_X8_108 rfl rfl hA.2.2 rfl ⟨by show 19 + 4 ≤ w; omega, show ev_Ca _ _ (w - 23) _ _ _ _ _ _ from k_scale (i := 17) (b := 200) (by omega) (by omega) hA (by omega) (by omega) (by omega) (by decide) b1⟩ rfl rfl (fun r h1 hp => ?_)
  obtain ⟨rfl, v3, hA3, ⟨q1, q2⟩, hF3⟩ := hp
  have hB3 := bq_wf hA.2.1 hF3 hB2
  have e17 : v3 17 = N * 200 := by rw [q1, p1]
  have e18 : v3 18 = M := (q2 18 (by omega) (by omega) (by omega)).trans p2
  have m1 : N * 200 < 2 ^ (571 + 512 + 8) := p2_mul n1 (by decide)
  have m2 : M < 2 ^ (571 + 512 + 8) := p2_le (by decide) n2
  have m4 : N * 200 + M < 2 ^ (571 + 512 + 8 + 1) := p2_add m1 m2
  refine ev_aload_n (pc := 21) dX8_roundedLevel_21 rfl ?_
  refine ev_getf (pc := 22) dX8_roundedLevel_22 f_X8_56 hB3.1 rfl ?_
  refine ev_getf (pc := 25) dX8_roundedLevel_25 f_X8_112 (hB3.2 4 (by decide)) rfl ?_
  refine ev_aload_n (pc := 28) dX8_roundedLevel_28 rfl ?_
  refine ev_getf (pc := 29) dX8_roundedLevel_29 f_X8_56 hB3.1 rfl ?_
  refine ev_getf (pc := 32) dX8_roundedLevel_32 f_X8_104 (hB3.2 4 (by decide)) rfl ?_
  have b2 : v3 17 + v3 18 < 1073741824 ^ 72 := by rw [p2_72, e17, e18]; exact p2_le (by decide) m4
  refine ev_callVe (pc := 35) (As := [.ref (lay 18).1]) dX8_roundedLevel_35 cv_X8_268 rfl rfl (wi_o (hA3.2.1 17 (by omega))) rfl ⟨by show 19 + 6 ≤ w; omega, show ev_Ca _ _ (w - 25) _ _ _ _ _ _ from t_add (i := 17) (j := 18) (by omega) (by omega) hA3 (by omega) (by omega) (by omega) b2⟩ rfl rfl (fun r h1 hp => ?_)
  obtain ⟨rfl, hA4, hF4⟩ := hp
  have hB4 := bq_wf hA3.2.1 hF4 hB3
  generalize hv4 : va_up v3 17 (v3 17 + v3 18) = v4 at *
  have f17 : v4 17 = N * 200 + M := by rw [← hv4, va_up_self, e17, e18]
  have fne : ∀ x, x ≠ 17 → v4 x = v3 x := fun x hx => by rw [← hv4, va_up_ne _ _ hx]
  have f18 : v4 18 = M := (fne 18 (by omega)).trans e18
  refine ev_aload_n (pc := 38) dX8_roundedLevel_38 rfl ?_
  refine ev_getf (pc := 39) dX8_roundedLevel_39 f_X8_29 hB4.1 rfl ?_
  refine ev_aload_n (pc := 42) dX8_roundedLevel_42 rfl ?_
  refine ev_getf (pc := 43) dX8_roundedLevel_43 f_X8_56 hB4.1 rfl ?_
  refine ev_getf (pc := 46) dX8_roundedLevel_46 f_X8_104 (hB4.2 4 (by decide)) rfl ?_
  refine ev_ldc2 (pc := 49) dX8_roundedLevel_49 k_X8_272 ?_
  have b3 : v4 18 * 2 < 1073741824 ^ 71 := by rw [p2_71, f18]; exact p2_le (show 505 + 512 + 2 ≤ 2130 by decide) (p2_mul (x := 505 + 512) (y := 2) n2 (by decide))
  refine ev_callV (pc := 52) (As := [.ref (lay 18).1, .long (lN 2)]) dX8_roundedLevel_52 cv_X8_108 rfl rfl hA4.2.2 rfl ⟨by show 19 + 4 ≤ w; omega, show ev_Ca _ _ (w - 23) _ _ _ _ _ _ from k_scale (i := 18) (b := 2) (by omega) (by omega) hA4 (by omega) (by omega) (by omega) (by decide) b3⟩ rfl rfl (fun r h1 hp => ?_)
  obtain ⟨rfl, v5, hA5, ⟨s1, s2⟩, hF5⟩ := hp
  have hB5 := bq_wf hA4.2.1 hF5 hB4
  have g18 : v5 18 = M * 2 := by rw [s1, f18]
  have g17 : v5 17 = N * 200 + M := (s2 17 (by omega) (by omega) (by omega)).trans f17
  refine ev_aload_n (pc := 55) dX8_roundedLevel_55 rfl ?_
  refine ev_getf (pc := 56) dX8_roundedLevel_56 f_X8_29 hB5.1 rfl ?_
  refine ev_aload_n (pc := 59) dX8_roundedLevel_59 rfl ?_
  refine ev_getf (pc := 60) dX8_roundedLevel_60 f_X8_56 hB5.1 rfl ?_
  refine ev_getf (pc := 63) dX8_roundedLevel_63 f_X8_112 (hB5.2 4 (by decide)) rfl ?_
  refine ev_aload_n (pc := 66) dX8_roundedLevel_66 rfl ?_
  refine ev_getf (pc := 67) dX8_roundedLevel_67 f_X8_56 hB5.1 rfl ?_
  refine ev_getf (pc := 70) dX8_roundedLevel_70 f_X8_104 (hB5.2 4 (by decide)) rfl ?_
  have b4 : v5 17 < 1073741824 ^ 70 := by rw [p2_70, g17]; exact p2_le (by decide) m4
  refine ev_callV (pc := 73) (As := [.ref (lay 17).1, .ref (lay 18).1]) dX8_roundedLevel_73 cv_X8_175 rfl rfl hA5.2.2 rfl ⟨by show 19 + 7 ≤ w; omega, show ev_Ca _ _ (w - 26) _ _ _ _ _ _ from k_divide (i := 17) (j := 18) (by omega) (by omega) hA5 (by omega) (by omega) (by omega) (by omega) (by omega) (by omega) (by omega) b4⟩ rfl rfl (fun r h1 hp => ?_)
  obtain ⟨rfl, v6, hA6, ⟨u1, u2, u3⟩, hF6⟩ := hp
  have hB6 := bq_wf hA5.2.1 hF6 hB5
  rw [g17, g18] at u1
  have keep : ∀ x, 9 ≤ x → x ≠ 17 → x ≠ 18 → v6 x = val x := fun x x1 x2 x3 => by rw [u3 x x2 (by omega) (by omega), s2 x x3 (by omega) (by omega), fne x x2, q2 x x2 (by omega) (by omega), p3 x x1 x2 x3]
  have hFF := (((hF1.tr hF3).tr hF4).tr hF5).tr hF6
  refine ev_aload_n (pc := 76) dX8_roundedLevel_76 rfl ?_
  refine ev_getf (pc := 77) dX8_roundedLevel_77 f_X8_29 hB6.1 rfl ?_
  refine ev_getf (pc := 80) dX8_roundedLevel_80 f_X8_178 hA6.2.2 rfl ?_
  refine ev_callVe (pc := 83) (As := []) dX8_roundedLevel_83 cv_X8_274 rfl rfl (wi_o (hA6.2.1 0 (by omega))) rfl ⟨by show 19 + 1 ≤ w; omega, show ev_Ca _ _ (w - 20) _ _ _ _ _ _ from t_isShort (i := 0) (by omega) hA6 (by omega)⟩ rfl rfl (fun r h1 hp => ?_)
  obtain ⟨rfl, hH⟩ := hp
  rw [hH]
  clear hH
  by_cases c1 : v6 0 < 2 ^ 60
  · rw [if_pos c1]
    refine ev_if_neN (pc := 86) (tgt := 93) dX8_roundedLevel_86 (by decide) (by decide) (fun _ => ?_) (fun q => absurd q (by decide))
    refine ev_aload_n (pc := 93) dX8_roundedLevel_93 rfl ?_
    refine ev_getf (pc := 94) dX8_roundedLevel_94 f_X8_29 hB6.1 rfl ?_
    refine ev_getf (pc := 97) dX8_roundedLevel_97 f_X8_178 hA6.2.2 rfl ?_
    refine ev_callVe (pc := 100) (As := []) dX8_roundedLevel_100 cv_X8_181 rfl rfl (wi_o (hA6.2.1 0 (by omega))) rfl ⟨by show 19 + 1 ≤ w; omega, show ev_Ca _ _ (w - 20) _ _ _ _ _ _ from t_asLong (i := 0) (by omega) hA6 (by omega) c1⟩ rfl rfl (fun r h1 hp => ?_)
    obtain ⟨rfl, hH⟩ := hp
    rw [hH]
    clear hH
    refine ev_ldc2 (pc := 103) dX8_roundedLevel_103 k_X8_277 ?_
    refine ev_mminl (pc := 106) dX8_roundedLevel_106 mx_X8_279 rfl (by omega) ?_
    refine ev_tl (y := lN (rl N M)) ?_ ?_
    · unfold rl
      rw [← u1]
      by_cases q : 999999999999999999 < v6 0
      · rw [if_pos ((lN_lt63 (by decide) (by omega)).mpr q), Nat.min_eq_right (by omega)]
      · rw [if_neg (fun r => q ((lN_lt63 (by decide) (by omega)).mp r)), Nat.min_eq_left (by omega)]
    · exact ev_lret (pc := 109) dX8_roundedLevel_109 rfl ⟨rfl, v6, hA6, keep, hFF⟩
  · rw [if_neg c1]
    refine ev_if_neN (pc := 86) (tgt := 93) dX8_roundedLevel_86 (by decide) (by decide) (fun q => absurd q (by decide)) (fun _ => ?_)
    refine ev_ldc2 (pc := 89) dX8_roundedLevel_89 k_X8_277 ?_
    have e : rl N M = 999999999999999999 := by
      unfold rl
      rw [← u1, Nat.min_eq_right (by omega)]
    rw [e]
    exact ev_lret (pc := 92) dX8_roundedLevel_92 rfl ⟨rfl, v6, hA6, keep, hFF⟩
theorem k_findNextDivisor (hd : 7 ≤ dd) (hw : 160 ≤ w) (h : DW H (bp 4) lay val) (hB : BQ H bp lay dn ba sd) (hS : SH H (bp 1) sa P fu fd mem) (hP : P_ok P) (hf : f_ok fu fd) (hm : mem < 256) (hm0 : mem ≠ 0) (hS2 : SH H (bp 2) sb P2 fu2 fd2 mem2) (hP2 : P_ok P2) (hf2 : f_ok fu2 fd2) (hm2 : mem2 < 256) (hm20 : mem2 ≠ 0) (v9 : val 9 < 2 ^ 512) (v10 : val 10 < 2 ^ 512) (w9 : 0 < val 9) (w10 : 0 < val 10) (hc : Nat.Coprime (val 9) (val 10)) : ev_Ca G dd w m_X8_findNextDivisor [.ref (bp 0)] H 0 0 (ev_ok (fun r h1 => r = none ∧ dpost H (bp 4) lay val (fun v2 => (v2 15 = (su P2 fu2 fd2 mem2 8).1 ∧ v2 16 = (su P2 fu2 fd2 mem2 8).2) ∧ (v2 13 = (su P fu fd mem 8).1 ∧ v2 14 = (su P fu fd mem 8).2) ∧ (v2 9 = val 9 ∧ v2 10 = val 10) ∧ (v2 11 = val 9 * ((su P fu fd mem 8).1 * (su P2 fu2 fd2 mem2 8).2) / Nat.gcd (val 9 * ((su P fu fd mem 8).1 * (su P2 fu2 fd2 mem2 8).2)) (val 10 * ((su P fu fd mem 8).2 * (su P2 fu2 fd2 mem2 8).1)) ∧ v2 12 = val 10 * ((su P fu fd mem 8).2 * (su P2 fu2 fd2 mem2 8).1) / Nat.gcd (val 9 * ((su P fu fd mem 8).1 * (su P2 fu2 fd2 mem2 8).2)) (val 10 * ((su P fu fd mem 8).2 * (su P2 fu2 fd2 mem2 8).1))) ∧ 0 < v2 11 ∧ 0 < v2 12) h1)) := by
  obtain ⟨dd, rfl⟩ : ∃ e, dd = e + 1 := ⟨dd - 1, by omega⟩
  refine ⟨by decide +kernel, rfl, ?_⟩
  obtain ⟨z1, z2⟩ := su_b8 (mem := mem) hP hf (Nat.le_refl 8)
  obtain ⟨y1, y2⟩ := su_b8 (mem := mem2) hP2 hf2 (Nat.le_refl 8)
  obtain ⟨pz1, pz2⟩ := su_p8 hP hf hm hm0
  obtain ⟨py1, py2⟩ := su_p8 hP2 hf2 hm2 hm20
  refine ev_aload_n (pc := 0) dX8_findNextDivisor_0 rfl ?_
  refine ev_getf (pc := 1) dX8_findNextDivisor_1 f_X8_29 hB.1 rfl ?_
  refine ev_aload_n (pc := 4) dX8_findNextDivisor_4 rfl ?_
  refine ev_getf (pc := 5) dX8_findNextDivisor_5 f_X8_16 hB.1 rfl ?_
  refine ev_aload_n (pc := 8) dX8_findNextDivisor_8 rfl ?_
  refine ev_getf (pc := 9) dX8_findNextDivisor_9 f_X8_53 hB.1 rfl ?_
  refine ev_callV (pc := 12) (As := [.ref (bp 2), .ref (bp 9)]) dX8_findNextDivisor_12 cv_X8_100 rfl rfl h.2.2 rfl ⟨by show 19 + 4 ≤ w; omega, show ev_Ca _ _ (w - 23) _ _ _ _ _ _ from k_addUp (u := 15) (by omega) (by omega) h hS2 hP2 hf2 hm2 (hB.2 3 (by decide)) (by omega) (by omega)⟩ rfl rfl (fun r h1 hp => ?_)
  obtain ⟨rfl, v2, hA, ⟨p1, p2, p3⟩, hF1⟩ := hp
  have hB2 := bq_wf h.2.1 hF1 hB
  refine ev_aload_n (pc := 15) dX8_findNextDivisor_15 rfl ?_
  refine ev_getf (pc := 16) dX8_findNextDivisor_16 f_X8_29 hB2.1 rfl ?_
  refine ev_aload_n (pc := 19) dX8_findNextDivisor_19 rfl ?_
  refine ev_getf (pc := 20) dX8_findNextDivisor_20 f_X8_10 hB2.1 rfl ?_
  refine ev_aload_n (pc := 23) dX8_findNextDivisor_23 rfl ?_
  refine ev_getf (pc := 24) dX8_findNextDivisor_24 f_X8_50 hB2.1 rfl ?_
  refine ev_callV (pc := 27) (As := [.ref (bp 1), .ref (bp 8)]) dX8_findNextDivisor_27 cv_X8_100 rfl rfl hA.2.2 rfl ⟨by show 19 + 4 ≤ w; omega, show ev_Ca _ _ (w - 23) _ _ _ _ _ _ from k_addUp (u := 13) (by omega) (by omega) hA (sh_wf h.2.1 hF1 hS) hP hf hm (hB2.2 2 (by decide)) (by omega) (by omega)⟩ rfl rfl (fun r h1 hp => ?_)
  obtain ⟨rfl, v3, hA3, ⟨q1, q2, q3⟩, hF3⟩ := hp
  have hB3 := bq_wf hA.2.1 hF3 hB2
  generalize (su P fu fd mem 8).1 = W1 at *
  generalize (su P fu fd mem 8).2 = W2 at *
  generalize (su P2 fu2 fd2 mem2 8).1 = B1 at *
  generalize (su P2 fu2 fd2 mem2 8).2 = B2 at *
  have k15 : v3 15 = B1 := (q3 15 (by omega) (by omega) (by omega)).trans p1
  have k16 : v3 16 = B2 := (q3 16 (by omega) (by omega) (by omega)).trans p2
  have k9 : v3 9 = val 9 := (q3 9 (by omega) (by omega) (by omega)).trans (p3 9 (by omega) (by omega) (by omega))
  have k10 : v3 10 = val 10 := (q3 10 (by omega) (by omega) (by omega)).trans (p3 10 (by omega) (by omega) (by omega))
  refine ev_aload_n (pc := 30) dX8_findNextDivisor_30 rfl ?_
  refine ev_getf (pc := 31) dX8_findNextDivisor_31 f_X8_56 hB3.1 rfl ?_
  refine ev_aload_n (pc := 34) dX8_findNextDivisor_34 rfl ?_
  refine ev_getf (pc := 35) dX8_findNextDivisor_35 f_X8_50 hB3.1 rfl ?_
  refine ev_callV (pc := 38) (As := [.ref (bp 8)]) dX8_findNextDivisor_38 cv_X8_189 rfl rfl (hB3.2 4 (by decide)) rfl ⟨by show 19 + 2 ≤ w; omega, show ev_Ca _ _ (w - 21) _ _ _ _ _ _ from k_fcopy (u := 17) (v := 13) (by omega) (by omega) hA3 (hB3.2 4 (by decide)) (hB3.2 2 (by decide)) (by omega) (by omega) (by omega)⟩ rfl rfl (fun r h1 hp => ?_)
  obtain ⟨rfl, v4, hA4, ⟨r1, r2, r3⟩, hF4⟩ := hp
  have hB4 := bq_wf hA3.2.1 hF4 hB3
  have l17 : v4 17 = W1 := r1.trans q1
  have l18 : v4 18 = W2 := r2.trans q2
  have l16 : v4 16 = B2 := (r3 16 (by omega) (by omega)).trans k16
  have bR : W1 * B2 < 2 ^ (571 + 505) := p2_mul z1 y2
  have bS : W2 * B1 < 2 ^ (505 + 571) := p2_mul z2 y1
  refine ev_aload_n (pc := 41) dX8_findNextDivisor_41 rfl ?_
  refine ev_getf (pc := 42) dX8_findNextDivisor_42 f_X8_29 hB4.1 rfl ?_
  refine ev_aload_n (pc := 45) dX8_findNextDivisor_45 rfl ?_
  refine ev_getf (pc := 46) dX8_findNextDivisor_46 f_X8_56 hB4.1 rfl ?_
  refine ev_getf (pc := 49) dX8_findNextDivisor_49 f_X8_112 (hB4.2 4 (by decide)) rfl ?_
  refine ev_aload_n (pc := 52) dX8_findNextDivisor_52 rfl ?_
  refine ev_getf (pc := 53) dX8_findNextDivisor_53 f_X8_53 hB4.1 rfl ?_
  refine ev_getf (pc := 56) dX8_findNextDivisor_56 f_X8_104 (hB4.2 3 (by decide)) rfl ?_
  have b1 : v4 17 * v4 16 < 1073741824 ^ 71 := by rw [p2_71, l17, l16]; exact p2_le (by decide) bR
  refine ev_callV (pc := 59) (As := [.ref (lay 17).1, .ref (lay 16).1]) dX8_findNextDivisor_59 cv_X8_256 rfl rfl hA4.2.2 rfl ⟨by show 19 + 3 ≤ w; omega, show ev_Ca _ _ (w - 22) _ _ _ _ _ _ from k_multiply (i := 17) (j := 16) (by omega) (by omega) hA4 (by omega) (by omega) (by omega) (by omega) b1⟩ rfl rfl (fun r h1 hp => ?_)
  obtain ⟨rfl, v5, hA5, ⟨s1, s2⟩, hF5⟩ := hp
  have hB5 := bq_wf hA4.2.1 hF5 hB4
  have m17 : v5 17 = W1 * B2 := by rw [s1, l17, l16]
  have m18 : v5 18 = W2 := (s2 18 (by omega) (by omega)).trans l18
  have m15 : v5 15 = B1 := (s2 15 (by omega) (by omega)).trans ((r3 15 (by omega) (by omega)).trans k15)
  refine ev_aload_n (pc := 62) dX8_findNextDivisor_62 rfl ?_
  refine ev_getf (pc := 63) dX8_findNextDivisor_63 f_X8_29 hB5.1 rfl ?_
  refine ev_aload_n (pc := 66) dX8_findNextDivisor_66 rfl ?_
  refine ev_getf (pc := 67) dX8_findNextDivisor_67 f_X8_56 hB5.1 rfl ?_
  refine ev_getf (pc := 70) dX8_findNextDivisor_70 f_X8_104 (hB5.2 4 (by decide)) rfl ?_
  refine ev_aload_n (pc := 73) dX8_findNextDivisor_73 rfl ?_
  refine ev_getf (pc := 74) dX8_findNextDivisor_74 f_X8_53 hB5.1 rfl ?_
  refine ev_getf (pc := 77) dX8_findNextDivisor_77 f_X8_112 (hB5.2 3 (by decide)) rfl ?_
  have b2 : v5 18 * v5 15 < 1073741824 ^ 71 := by rw [p2_71, m18, m15]; exact p2_le (by decide) bS
  refine ev_callV (pc := 80) (As := [.ref (lay 18).1, .ref (lay 15).1]) dX8_findNextDivisor_80 cv_X8_256 rfl rfl hA5.2.2 rfl ⟨by show 19 + 3 ≤ w; omega, show ev_Ca _ _ (w - 22) _ _ _ _ _ _ from k_multiply (i := 18) (j := 15) (by omega) (by omega) hA5 (by omega) (by omega) (by omega) (by omega) b2⟩ rfl rfl (fun r h1 hp => ?_)
  obtain ⟨rfl, v6, hA6, ⟨t1, t2⟩, hF6⟩ := hp
  have hB6 := bq_wf hA5.2.1 hF6 hB5
  have n18 : v6 18 = W2 * B1 := by rw [t1, m18, m15]
  have n17 : v6 17 = W1 * B2 := (t2 17 (by omega) (by omega)).trans m17
  have kk : ∀ x, 9 ≤ x → x ≠ 17 → x ≠ 18 → v6 x = v3 x := fun x x1 x2 x3 => by rw [t2 x x3 (by omega), s2 x x2 (by omega), r3 x x2 x3]
  refine ev_aload_n (pc := 83) dX8_findNextDivisor_83 rfl ?_
  refine ev_getf (pc := 84) dX8_findNextDivisor_84 f_X8_29 hB6.1 rfl ?_
  refine ev_aload_n (pc := 87) dX8_findNextDivisor_87 rfl ?_
  refine ev_getf (pc := 88) dX8_findNextDivisor_88 f_X8_56 hB6.1 rfl ?_
  refine ev_getf (pc := 91) dX8_findNextDivisor_91 f_X8_112 (hB6.2 4 (by decide)) rfl ?_
  refine ev_aload_n (pc := 94) dX8_findNextDivisor_94 rfl ?_
  refine ev_getf (pc := 95) dX8_findNextDivisor_95 f_X8_56 hB6.1 rfl ?_
  refine ev_getf (pc := 98) dX8_findNextDivisor_98 f_X8_104 (hB6.2 4 (by decide)) rfl ?_
  refine ev_callV (pc := 101) (As := [.ref (lay 17).1, .ref (lay 18).1]) dX8_findNextDivisor_101 cv_X8_115 rfl rfl hA6.2.2 rfl ⟨by show 19 + 7 ≤ w; omega, show ev_Ca _ _ (w - 26) _ _ _ _ _ _ from k_cancel (i := 17) (j := 18) (by omega) (by omega) hA6 (by omega) (by omega) (by omega) (by omega) (by omega) (by rw [p2_70, n17]; exact p2_le (by decide) bR) (by rw [p2_70, n18]; exact p2_le (by decide) bS)⟩ rfl rfl (fun r h1 hp => ?_)
  obtain ⟨rfl, v7, hA7, ⟨a1, a2, a3⟩, hF7⟩ := hp
  have hB7 := bq_wf hA6.2.1 hF7 hB6
  rw [n17, n18] at a1 a2
  have c17 : v7 17 < 2 ^ (571 + 505) := Nat.lt_of_le_of_lt (by rw [a1]; exact Nat.div_le_self _ _) bR
  have c18 : v7 18 < 2 ^ (505 + 571) := Nat.lt_of_le_of_lt (by rw [a2]; exact Nat.div_le_self _ _) bS
  refine ev_aload_n (pc := 104) dX8_findNextDivisor_104 rfl ?_
  refine ev_getf (pc := 105) dX8_findNextDivisor_105 f_X8_47 hB7.1 rfl ?_
  refine ev_aload_n (pc := 108) dX8_findNextDivisor_108 rfl ?_
  refine ev_getf (pc := 109) dX8_findNextDivisor_109 f_X8_43 hB7.1 rfl ?_
  refine ev_callV (pc := 112) (As := [.ref (bp 6)]) dX8_findNextDivisor_112 cv_X8_189 rfl rfl (hB7.2 1 (by decide)) rfl ⟨by show 19 + 2 ≤ w; omega, show ev_Ca _ _ (w - 21) _ _ _ _ _ _ from k_fcopy (u := 11) (v := 9) (by omega) (by omega) hA7 (hB7.2 1 (by decide)) (hB7.2 0 (by decide)) (by omega) (by omega) (by omega)⟩ rfl rfl (fun r h1 hp => ?_)
  obtain ⟨rfl, v8, hA8, ⟨d1, d2, d3⟩, hF8⟩ := hp
  have hB8 := bq_wf hA7.2.1 hF8 hB7
  have o11 : v8 11 = val 9 := by rw [d1, a3 9 (by omega) (by omega) (by omega), kk 9 (by omega) (by omega) (by omega), k9]
  have o12 : v8 12 = val 10 := by rw [d2, a3 10 (by omega) (by omega) (by omega), kk 10 (by omega) (by omega) (by omega), k10]
  have o17 : v8 17 = v7 17 := d3 17 (by omega) (by omega)
  have o18 : v8 18 = v7 18 := d3 18 (by omega) (by omega)
  refine ev_aload_n (pc := 115) dX8_findNextDivisor_115 rfl ?_
  refine ev_getf (pc := 116) dX8_findNextDivisor_116 f_X8_29 hB8.1 rfl ?_
  refine ev_aload_n (pc := 119) dX8_findNextDivisor_119 rfl ?_
  refine ev_getf (pc := 120) dX8_findNextDivisor_120 f_X8_47 hB8.1 rfl ?_
  refine ev_getf (pc := 123) dX8_findNextDivisor_123 f_X8_112 (hB8.2 1 (by decide)) rfl ?_
  refine ev_aload_n (pc := 126) dX8_findNextDivisor_126 rfl ?_
  refine ev_getf (pc := 127) dX8_findNextDivisor_127 f_X8_56 hB8.1 rfl ?_
  refine ev_getf (pc := 130) dX8_findNextDivisor_130 f_X8_104 (hB8.2 4 (by decide)) rfl ?_
  refine ev_callV (pc := 133) (As := [.ref (lay 11).1, .ref (lay 18).1]) dX8_findNextDivisor_133 cv_X8_115 rfl rfl hA8.2.2 rfl ⟨by show 19 + 7 ≤ w; omega, show ev_Ca _ _ (w - 26) _ _ _ _ _ _ from k_cancel (i := 11) (j := 18) (by omega) (by omega) hA8 (by omega) (by omega) (by omega) (by omega) (by omega) (by rw [p2_70, o11]; exact p2_le (by decide) v9) (by rw [p2_70, o18]; exact p2_le (by decide) c18)⟩ rfl rfl (fun r h1 hp => ?_)
  obtain ⟨rfl, u9, hA9, ⟨e1, e2, e3⟩, hF9⟩ := hp
  have hB9 := bq_wf hA8.2.1 hF9 hB8
  rw [o11, o18] at e1 e2
  have g17 : u9 17 = v7 17 := (e3 17 (by omega) (by omega) (by omega)).trans o17
  have g12 : u9 12 = val 10 := (e3 12 (by omega) (by omega) (by omega)).trans o12
  refine ev_aload_n (pc := 136) dX8_findNextDivisor_136 rfl ?_
  refine ev_getf (pc := 137) dX8_findNextDivisor_137 f_X8_29 hB9.1 rfl ?_
  refine ev_aload_n (pc := 140) dX8_findNextDivisor_140 rfl ?_
  refine ev_getf (pc := 141) dX8_findNextDivisor_141 f_X8_56 hB9.1 rfl ?_
  refine ev_getf (pc := 144) dX8_findNextDivisor_144 f_X8_112 (hB9.2 4 (by decide)) rfl ?_
  refine ev_aload_n (pc := 147) dX8_findNextDivisor_147 rfl ?_
  refine ev_getf (pc := 148) dX8_findNextDivisor_148 f_X8_47 hB9.1 rfl ?_
  refine ev_getf (pc := 151) dX8_findNextDivisor_151 f_X8_104 (hB9.2 1 (by decide)) rfl ?_
  refine ev_callV (pc := 154) (As := [.ref (lay 17).1, .ref (lay 12).1]) dX8_findNextDivisor_154 cv_X8_115 rfl rfl hA9.2.2 rfl ⟨by show 19 + 7 ≤ w; omega, show ev_Ca _ _ (w - 26) _ _ _ _ _ _ from k_cancel (i := 17) (j := 12) (by omega) (by omega) hA9 (by omega) (by omega) (by omega) (by omega) (by omega) (by rw [p2_70, g17]; exact p2_le (by decide) c17) (by rw [p2_70, g12]; exact p2_le (by decide) v10)⟩ rfl rfl (fun r h1 hp => ?_)
  obtain ⟨rfl, u10, hA10, ⟨f1, f2, f3⟩, hF10⟩ := hp
  have hB10 := bq_wf hA9.2.1 hF10 hB9
  rw [g17, g12] at f1 f2
  have j11 : u10 11 = u9 11 := f3 11 (by omega) (by omega) (by omega)
  have j18 : u10 18 = u9 18 := f3 18 (by omega) (by omega) (by omega)
  obtain ⟨cr1, cr2, cr3, cr4⟩ := cross hc w9 w10 (Nat.mul_pos pz1 py2) (Nat.mul_pos pz2 py1) a1 a2 e1 e2 f1 f2
  have i11 : u10 11 < 2 ^ 512 := by rw [j11, e1]; exact Nat.lt_of_le_of_lt (Nat.div_le_self _ _) v9
  have i12 : u10 12 < 2 ^ 512 := by rw [f2]; exact Nat.lt_of_le_of_lt (Nat.div_le_self _ _) v10
  have i17 : u10 17 < 2 ^ (571 + 505) := by rw [f1]; exact Nat.lt_of_le_of_lt (Nat.div_le_self _ _) c17
  have i18 : u10 18 < 2 ^ (505 + 571) := by rw [j18, e2]; exact Nat.lt_of_le_of_lt (Nat.div_le_self _ _) c18
  refine ev_aload_n (pc := 157) dX8_findNextDivisor_157 rfl ?_
  refine ev_getf (pc := 158) dX8_findNextDivisor_158 f_X8_29 hB10.1 rfl ?_
  refine ev_aload_n (pc := 161) dX8_findNextDivisor_161 rfl ?_
  refine ev_getf (pc := 162) dX8_findNextDivisor_162 f_X8_47 hB10.1 rfl ?_
  refine ev_getf (pc := 165) dX8_findNextDivisor_165 f_X8_112 (hB10.2 1 (by decide)) rfl ?_
  refine ev_aload_n (pc := 168) dX8_findNextDivisor_168 rfl ?_
  refine ev_getf (pc := 169) dX8_findNextDivisor_169 f_X8_56 hB10.1 rfl ?_
  refine ev_getf (pc := 172) dX8_findNextDivisor_172 f_X8_112 (hB10.2 4 (by decide)) rfl ?_
  refine ev_callV (pc := 175) (As := [.ref (lay 11).1, .ref (lay 17).1]) dX8_findNextDivisor_175 cv_X8_256 rfl rfl hA10.2.2 rfl ⟨by show 19 + 3 ≤ w; omega, show ev_Ca _ _ (w - 22) _ _ _ _ _ _ from k_multiply (i := 11) (j := 17) (by omega) (by omega) hA10 (by omega) (by omega) (by omega) (by omega) (by rw [p2_71]; exact p2_le (show 512 + (571 + 505) ≤ 2130 by decide) (p2_mul i11 i17))⟩ rfl rfl (fun r h1 hp => ?_)
  obtain ⟨rfl, u11, hA11, ⟨x1, x2⟩, hF11⟩ := hp
  have hB11 := bq_wf hA10.2.1 hF11 hB10
  have h12 : u11 12 = u10 12 := x2 12 (by omega) (by omega)
  have h18 : u11 18 = u10 18 := x2 18 (by omega) (by omega)
  refine ev_aload_n (pc := 178) dX8_findNextDivisor_178 rfl ?_
  refine ev_getf (pc := 179) dX8_findNextDivisor_179 f_X8_29 hB11.1 rfl ?_
  refine ev_aload_n (pc := 182) dX8_findNextDivisor_182 rfl ?_
  refine ev_getf (pc := 183) dX8_findNextDivisor_183 f_X8_47 hB11.1 rfl ?_
  refine ev_getf (pc := 186) dX8_findNextDivisor_186 f_X8_104 (hB11.2 1 (by decide)) rfl ?_
  refine ev_aload_n (pc := 189) dX8_findNextDivisor_189 rfl ?_
  refine ev_getf (pc := 190) dX8_findNextDivisor_190 f_X8_56 hB11.1 rfl ?_
  refine ev_getf (pc := 193) dX8_findNextDivisor_193 f_X8_104 (hB11.2 4 (by decide)) rfl ?_
  refine ev_callV (pc := 196) (As := [.ref (lay 12).1, .ref (lay 18).1]) dX8_findNextDivisor_196 cv_X8_256 rfl rfl hA11.2.2 rfl ⟨by show 19 + 3 ≤ w; omega, show ev_Ca _ _ (w - 22) _ _ _ _ _ _ from k_multiply (i := 12) (j := 18) (by omega) (by omega) hA11 (by omega) (by omega) (by omega) (by omega) (by rw [p2_71, h12, h18]; exact p2_le (show 512 + (505 + 571) ≤ 2130 by decide) (p2_mul i12 i18))⟩ rfl rfl (fun r h1 hp => ?_)
  obtain ⟨rfl, u12, hA12, ⟨s3, s4⟩, hF12⟩ := hp
  have fin : ∀ x, 9 ≤ x → x ≠ 17 → x ≠ 18 → x ≠ 11 → x ≠ 12 → u12 x = v3 x := fun x x1' x2' x3' x4' x5' => by rw [s4 x x5' (by omega), x2 x x4' (by omega), f3 x x1' x2' x5', e3 x x1' x4' x3', d3 x x4' x5', a3 x x1' x2' x3', kk x x1' x2' x3']
  have g11 : u12 11 = u9 11 * u10 17 := by rw [s4 11 (by omega) (by omega), x1, j11]
  have g12' : u12 12 = u10 12 * u9 18 := by rw [s3, h12, h18, j18]
  refine ev_vret (pc := 199) dX8_findNextDivisor_199 rfl ⟨rfl, u12, hA12, ⟨⟨?_, ?_⟩, ⟨?_, ?_⟩, ⟨?_, ?_⟩, ⟨?_, ?_⟩, ?_, ?_⟩, ((((((((((hF1.tr hF3).tr hF4).tr hF5).tr hF6).tr hF7).tr hF8).tr hF9).tr hF10).tr hF11).tr hF12)⟩
  · rw [fin 15 (by omega) (by omega) (by omega) (by omega) (by omega), k15]
  · rw [fin 16 (by omega) (by omega) (by omega) (by omega) (by omega), k16]
  · rw [fin 13 (by omega) (by omega) (by omega) (by omega) (by omega), q1]
  · rw [fin 14 (by omega) (by omega) (by omega) (by omega) (by omega), q2]
  · rw [fin 9 (by omega) (by omega) (by omega) (by omega) (by omega), k9]
  · rw [fin 10 (by omega) (by omega) (by omega) (by omega) (by omega), k10]
  · rw [g11, cr1]
  · rw [g12', cr2]
  · rw [g11]; exact cr3
  · rw [g12']; exact cr4
end BUR
