/-! what stays true of the shares -/
theorem mb_bits_lt {v n : Nat} (h : mb_bits v ≤ n) : v < 2 ^ n := by
  unfold mb_bits at h
  split at h
  · rename_i e; rw [e]; exact Nat.pow_pos (by decide)
  · exact Nat.lt_of_lt_of_le Nat.lt_log2_self (Nat.pow_le_pow_right (by decide) h)
def st_ok (P : Nat → Nat → Nat) (fu fd : Nat → Nat) (mem : Nat) : Prop := P_ok P ∧ f_ok fu fd ∧ mem < 256 ∧ mem ≠ 0
def ag3 (P : Nat → Nat → Nat) (fu fd : Nat → Nat) (P2 : Nat → Nat → Nat) (fu2 fd2 : Nat → Nat) : Prop := (∀ k, k < 3 → ∀ j, j < 8 → P k j = P2 k j) ∧ ∀ j, j < 8 → fu j = fu2 j ∧ fd j = fd2 j
theorem ag3.rf {P : Nat → Nat → Nat} {fu fd : Nat → Nat} : ag3 P fu fd P fu fd := ⟨fun _ _ _ _ => rfl, fun _ _ => ⟨rfl, rfl⟩⟩
theorem ag3.sy {P P2 : Nat → Nat → Nat} {fu fd fu2 fd2 : Nat → Nat} (h : ag3 P fu fd P2 fu2 fd2) : ag3 P2 fu2 fd2 P fu fd := ⟨fun k hk j hj => (h.1 k hk j hj).symm, fun j hj => ⟨(h.2 j hj).1.symm, (h.2 j hj).2.symm⟩⟩
theorem ag3.tr {P P2 P3 : Nat → Nat → Nat} {fu fd fu2 fd2 fu3 fd3 : Nat → Nat} (h : ag3 P fu fd P2 fu2 fd2) (g : ag3 P2 fu2 fd2 P3 fu3 fd3) : ag3 P fu fd P3 fu3 fd3 := ⟨fun k hk j hj => (h.1 k hk j hj).trans (g.1 k hk j hj), fun j hj => ⟨(h.2 j hj).1.trans (g.2 j hj).1, (h.2 j hj).2.trans (g.2 j hj).2⟩⟩
section PUR
variable {P P2 : Nat → Nat → Nat} {fu fd fu2 fd2 : Nat → Nat} {mem s : Nat}
theorem st_ag (h : ag3 P fu fd P2 fu2 fd2) (ok : st_ok P2 fu2 fd2 mem) : st_ok P fu fd mem := by
  obtain ⟨h1, h2⟩ := h
  obtain ⟨a1, a2, a3⟩ := ok
  refine ⟨fun s hs => ?_, fun s hs => ?_, a3⟩
  · rw [h1 0 (by decide) s hs, h1 1 (by decide) s hs, h1 2 (by decide) s hs]; exact a1 s hs
  · rw [(h2 s hs).1, (h2 s hs).2]; exact a2 s hs
theorem su_cg (h : ag3 P fu fd P2 fu2 fd2) : ∀ k, k ≤ 8 → su P fu fd mem k = su P2 fu2 fd2 mem k
  | 0, _ => rfl
  | k + 1, hk => by
    have ih := su_cg h k (by omega)
    obtain ⟨h1, h2⟩ := h
    have e1 : pw P k = pw P2 k := by unfold pw; rw [h1 0 (by decide) k (by omega), h1 1 (by decide) k (by omega), h1 2 (by decide) k (by omega)]
    unfold su
    rw [ih, e1, (h2 k (by omega)).1, (h2 k (by omega)).2]
theorem sp_ex_s {cu cd pu pd : Nat} : (sp_ex P s cu cd pu pd).1 ≠ 0 → (sp_ex P s cu cd pu pd).2 = P := by
  unfold sp_ex
  split
  · intro h; exact absurd rfl h
  · intro _; rfl
theorem sp_split_ok {x y : Int32} (h : P_ok P) : P_ok (sp_split P s x y).2 ∧ ((sp_split P s x y).1 ≠ 0 → (sp_split P s x y).2 = P) := by
  unfold sp_split
  split
  · exact ⟨sp_ex_ok h, sp_ex_s⟩
  · exact ⟨h, fun _ => rfl⟩
theorem sp_rights_ok {x y o : Int32} (h : P_ok P) : P_ok (sp_rights P s x y o).2 ∧ ((sp_rights P s x y o).1 ≠ 0 → (sp_rights P s x y o).2 = P) := by
  unfold sp_rights
  split
  · split
    · exact ⟨h, fun _ => rfl⟩
    · exact ⟨sp_ex_ok h, sp_ex_s⟩
  · exact ⟨h, fun _ => rfl⟩
theorem sp_div_ok {x : Int32} (h : P_ok P) (hs : s < 8) : P_ok (sp_div P s x).2 ∧ ((sp_div P s x).1 ≠ 0 → (sp_div P s x).2 = P) := by
  unfold sp_div
  have := (h s hs).1
  split
  · refine ⟨p_up_ok h (by omega) ?_, fun q => absurd rfl q⟩
    show _ ≤ 9999999
    omega
  · exact ⟨h, fun _ => rfl⟩
theorem sp_rep_ok {x : Int32} {k : Nat} (h : P_ok P) : P_ok (sp_rep P s k x).2 ∧ ((sp_rep P s k x).1 ≠ 0 → (sp_rep P s k x).2 = P) := by
  unfold sp_rep
  split
  · exact ⟨p_up_ok h (by omega) (by omega), fun q => absurd rfl q⟩
  · exact ⟨h, fun _ => rfl⟩
theorem leave_ne : ∀ m, m < 256 → ∀ s, s < 8 → m / 2 ^ s % 2 = 1 → pc8 m ≠ 1 → m - 2 ^ s ≠ 0 := by decide +kernel
theorem join_lt : ∀ m, m < 256 → ∀ s, s < 8 → m / 2 ^ s % 2 ≠ 1 → m + 2 ^ s < 256 ∧ m + 2 ^ s ≠ 0 := by decide +kernel
theorem f_one (h : f_ok fu fd) (s : Nat) : f_ok (va_up fu s 1) (va_up fd s 1) := by
  intro j hj
  unfold va_up
  by_cases e : j = s
  · rw [if_pos e, if_pos e]; decide
  · rw [if_neg e, if_neg e]; exact h j hj
theorem cap_fok {x : Int32} (hP : P_ok P) (hm : mem < 256) (hc : cap_c mem x) : f_ok (cap_u P mem x) (cap_d P mem x) := by
  have ok := lgf_ok hP 9 0 (lg0 mem x.toInt.toNat)
  obtain ⟨hc1, hc2⟩ := hc
  unfold cap_u cap_d cap_l
  generalize ha : x.toInt.toNat = a at *
  generalize lgf P mem a 9 0 = lg at *
  have hsp := sw_pos hP ok hm hc2
  have hsw := sw_b hP (am mem lg) 8 (Nat.le_refl 8)
  have ha2 : a ≤ 100 := by omega
  have hT : a * sw P (am mem lg) 8 ≤ 100 * 80000000000000000 := Nat.mul_le_mul ha2 (by omega)
  have hT0 : 0 < a * sw P (am mem lg) 8 := Nat.mul_pos (by omega) hsp
  have hl := ok.2.2
  intro j hj
  have hpw := pw_b hP hj
  have hQ : (100 - a * pc8 lg) * pw P j ≤ 100 * 10000000000000000 := Nat.mul_le_mul (by omega) (by omega)
  have hQ0 : 0 < (100 - a * pc8 lg) * pw P j := Nat.mul_pos (by omega) (by omega)
  unfold cpu cpd
  generalize a * sw P (am mem lg) 8 = up at *
  generalize (100 - a * pc8 lg) * pw P j = q at *
  split
  · have g0 : 0 < Nat.gcd up q := Nat.gcd_pos_of_pos_left _ hT0
    have d1 := Nat.div_le_self up (Nat.gcd up q)
    have d2 := Nat.div_le_self q (Nat.gcd up q)
    have d3 := Nat.div_pos (Nat.le_of_dvd hT0 (Nat.gcd_dvd_left up q)) g0
    have d4 := Nat.div_pos (Nat.le_of_dvd hQ0 (Nat.gcd_dvd_right up q)) g0
    omega
  · decide
theorem ch_ok {kd : Nat} {a b c : Int32} (h : st_ok P fu fd mem) (hs : s < 8) : st_ok (ch kd s a b c P fu fd mem).2.1 (ch kd s a b c P fu fd mem).2.2.1 (ch kd s a b c P fu fd mem).2.2.2.1 (ch kd s a b c P fu fd mem).2.2.2.2 ∧ ((ch kd s a b c P fu fd mem).1 ≠ 0 → (ch kd s a b c P fu fd mem).2 = (P, fu, fd, mem)) := by
  obtain ⟨hP, hf, hm, hm0⟩ := h
  unfold ch
  split
  · exact ⟨⟨(sp_split_ok hP).1, hf, hm, hm0⟩, fun q => by have := (sp_split_ok (s := s) (x := a) (y := b) hP).2 q; simp only [this]⟩
  · exact ⟨⟨(sp_rights_ok hP).1, hf, hm, hm0⟩, fun q => by have := (sp_rights_ok (s := s) (x := a) (y := b) (o := c) hP).2 q; simp only [this]⟩
  · exact ⟨⟨(sp_div_ok hP hs).1, hf, hm, hm0⟩, fun q => by have := (sp_div_ok (x := a) hP hs).2 q; simp only [this]⟩
  · exact ⟨⟨(sp_div_ok hP hs).1, hf, hm, hm0⟩, fun q => by have := (sp_div_ok (x := a) hP hs).2 q; simp only [this]⟩
  · unfold sp_leave
    split
    · rename_i cc
      exact ⟨⟨hP, hf, Nat.lt_of_le_of_lt (Nat.sub_le _ _) hm, leave_ne mem hm s hs cc.1 cc.2⟩, fun q => absurd rfl q⟩
    · exact ⟨⟨hP, hf, hm, hm0⟩, fun _ => rfl⟩
  · unfold sp_join
    by_cases cc : mem / 2 ^ s % 2 = 1
    · rw [if_pos cc, if_pos cc, if_pos cc]
      exact ⟨⟨hP, hf, hm, hm0⟩, fun _ => rfl⟩
    · rw [if_neg cc, if_neg cc, if_neg cc]
      exact ⟨⟨hP, f_one hf s, join_lt mem hm s hs cc⟩, fun q => absurd rfl q⟩
  · exact ⟨⟨(sp_rep_ok hP).1, hf, hm, hm0⟩, fun q => by have := (sp_rep_ok (s := s) (k := 1) (x := a) hP).2 q; simp only [this]⟩
  · exact ⟨⟨(sp_rep_ok hP).1, hf, hm, hm0⟩, fun q => by have := (sp_rep_ok (s := s) (k := 2) (x := a) hP).2 q; simp only [this]⟩
  · by_cases cc : cap_c mem a
    · rw [if_pos cc]
      exact ⟨⟨hP, cap_fok hP hm cc, hm, hm0⟩, fun q => absurd rfl q⟩
    · rw [if_neg cc]
      exact ⟨⟨hP, hf, hm, hm0⟩, fun _ => rfl⟩
end PUR
/-- what an event does: its outcome, the shares, the divisor -/
noncomputable def pf (kd s : Nat) (a b c : Int32) (P : Nat → Nat → Nat) (fu fd : Nat → Nat) (mem D1 D2 : Nat) : Nat × ((Nat → Nat → Nat) × (Nat → Nat) × (Nat → Nat) × Nat) × Nat × Nat :=
  let r := ch kd s a b c P fu fd mem
  let W := su r.2.1 r.2.2.1 r.2.2.2.1 r.2.2.2.2 8
  let B := su P fu fd mem 8
  let N := D1 * (W.1 * B.2)
  let M := D2 * (W.2 * B.1)
  if r.1 ≠ 0 ∨ kd = 3 then (r.1, r.2, D1, D2)
  else if 512 < max (mb_bits (N / Nat.gcd N M)) (mb_bits (M / Nat.gcd N M)) then (3, (P, fu, fd, mem), D1, D2)
  else (0, r.2, N / Nat.gcd N M, M / Nat.gcd N M)
/-- the divisor, in least terms -/
def dv_ok (D1 D2 : Nat) : Prop := 0 < D1 ∧ 0 < D2 ∧ D1 < 2 ^ 512 ∧ D2 < 2 ^ 512 ∧ Nat.Coprime D1 D2
theorem same_lv {D1 D2 W1 W2 B1 B2 : Nat} : B1 * D2 * W2 * (D1 * (W1 * B2) / Nat.gcd (D1 * (W1 * B2)) (D2 * (W2 * B1))) = W1 * (D2 * (W2 * B1) / Nat.gcd (D1 * (W1 * B2)) (D2 * (W2 * B1))) * B2 * D1 := by
  have e1 := Nat.div_mul_cancel (Nat.gcd_dvd_left (D1 * (W1 * B2)) (D2 * (W2 * B1)))
  have e2 := Nat.div_mul_cancel (Nat.gcd_dvd_right (D1 * (W1 * B2)) (D2 * (W2 * B1)))
  generalize D1 * (W1 * B2) / Nat.gcd (D1 * (W1 * B2)) (D2 * (W2 * B1)) = x at *
  generalize D2 * (W2 * B1) / Nat.gcd (D1 * (W1 * B2)) (D2 * (W2 * B1)) = y at *
  generalize Nat.gcd (D1 * (W1 * B2)) (D2 * (W2 * B1)) = g at *
  calc B1 * D2 * W2 * x = D2 * (W2 * B1) * x := by ac_rfl
    _ = y * g * x := by rw [e2]
    _ = y * (x * g) := by ac_rfl
    _ = y * (D1 * (W1 * B2)) := by rw [e1]
    _ = W1 * y * B2 * D1 := by ac_rfl
