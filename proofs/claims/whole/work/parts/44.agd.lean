/-! Agenda -/
def AG (H : ev_H) (A : Nat) (ga : Nat → Nat) (R : Nat → Nat → Int32) (wa ar : Nat) : Prop :=
  H A = some (.inr (0, [.ref (ga 0), .ref (ga 1), .ref (ga 2), .ref (ga 3), .ref (ga 4), .ref (ga 5), .ref (ga 6), .int (nI wa), .int (nI ar)])) ∧ ∀ k, k < 7 → H (ga k) = some (.inl (.int, 16, .inl (R k)))
def AD (ga : Nat → Nat) : Prop := ∀ a b, a < 7 → b < 7 → a ≠ b → ga a ≠ ga b
def AF (A : Nat) (ga : Nat → Nat) (H h1 : ev_H) : Prop := ∀ a, a ≠ A → (∀ k, k < 7 → a ≠ ga k) → h1 a = H a
theorem AF.rf {A : Nat} {ga : Nat → Nat} {H : ev_H} : AF A ga H H := fun _ _ _ => rfl
theorem AF.tr {A : Nat} {ga : Nat → Nat} {H h1 h2 : ev_H} (a : AF A ga H h1) (b : AF A ga h1 h2) : AF A ga H h2 := fun x hx hy => (b x hx hy).trans (a x hx hy)
/-- the order of the close -/
def ky (kd sh : Nat → Nat) (x : Nat) : Nat := kd x * 128 + sh x * 16 + x
def so (kd sh : Nat → Nat) (n : Nat) (od : Nat → Nat) : Prop := (∀ i, i < n → od i < n) ∧ (∀ p, p < n → ∃ i, i < n ∧ od i = p) ∧ ∀ i j, i < j → j < n → ky kd sh (od i) < ky kd sh (od j)
def oi (od : Nat → Nat) (n at_ : Nat) (j : Nat) : Nat := if j < at_ then od j else if j = at_ then n else od (j - 1)
theorem so_ins {kd sh od : Nat → Nat} {n t : Nat} (h : so kd sh n od) (ht : t ≤ n) (h1 : ∀ i, t ≤ i → i < n → ky kd sh n < ky kd sh (od i)) (h2 : t = 0 ∨ ky kd sh (od (t - 1)) < ky kd sh n) : so kd sh (n + 1) (oi od n t) := by
  obtain ⟨a1, a2, a3⟩ := h
  have lo : ∀ {j}, j < t → oi od n t j = od j := fun q => if_pos q
  have eq : oi od n t t = n := by unfold oi; rw [if_neg (Nat.lt_irrefl t), if_pos rfl]
  have hi : ∀ {j}, t < j → oi od n t j = od (j - 1) := fun q => by unfold oi; rw [if_neg (by omega), if_neg (by omega)]
  have le : ∀ i, i < t → ky kd sh (od i) < ky kd sh n := by
    intro i hi
    rcases h2 with e | e
    · omega
    · rcases Nat.lt_or_ge i (t - 1) with q | q
      · exact Nat.lt_trans (a3 i (t - 1) q (by omega)) e
      · rw [show i = t - 1 by omega]; exact e
  refine ⟨fun i hi2 => ?_, fun p hp => ?_, fun i j hij hj => ?_⟩
  · rcases Nat.lt_trichotomy i t with q | q | q
    · rw [lo q]; have := a1 i (by omega); omega
    · rw [q, eq]; omega
    · rw [hi q]; have := a1 (i - 1) (by omega); omega
  · by_cases e : p = n
    · exact ⟨t, by omega, by rw [eq, e]⟩
    · obtain ⟨i, b1, b2⟩ := a2 p (by omega)
      rcases Nat.lt_or_ge i t with q | q
      · exact ⟨i, by omega, by rw [lo q, b2]⟩
      · exact ⟨i + 1, by omega, by rw [hi (by omega), Nat.add_sub_cancel, b2]⟩
  · rcases Nat.lt_trichotomy i t with q | q | q
    · rw [lo q]
      rcases Nat.lt_trichotomy j t with r | r | r
      · rw [lo r]; exact a3 i j hij (by omega)
      · rw [r, eq]; exact le i q
      · rw [hi r]; exact a3 i (j - 1) (by omega) (by omega)
    · rw [q, eq, hi (by omega)]; exact h1 (j - 1) (by omega) (by omega)
    · rw [hi q, hi (by omega)]; exact a3 (i - 1) (j - 1) (by omega) (by omega)
section EVF
variable {G : ev_G} {C : ev_L} {w : Nat} {M : ev_M} {K : ev_K} {pc : Nat} {L : ev_V} {st : List Value} {h : ev_H} {c z : Nat}
theorem ev_iaF {i N a : Nat} {f : Nat → Int32} {v : Int32} (hd : decode M.2.1 pc = .ok (.iaload, 1)) (ha : h a = some (.inl (.int, N, .inl f))) (hi : i < N) (hN : N < 2 ^ 31) (hv : f i = v) (k : ev_J G C w M K (pc + 1, L, .int v :: st, h, c, z)) : ev_J G C w M K (pc, L, .int (nI i) :: .ref a :: st, h, c, z) := ev_iald hd ha (vp_in_nI hi hN) (ev_ti (by rw [nI_clamp (by omega)]; exact hv) k)
end EVF
section AGD
variable {G : ev_G} {w : Nat} {H : ev_H} {A : Nat} {i j k dd : Nat} {ga : Nat → Nat} {R : Nat → Nat → Int32} {wa ar : Nat}
theorem ag_put {x : Int32} (h : AG H A ga R wa ar) (hD : AD ga) (hk : k < 7) (hj : j < 16) : ∃ R1 : Nat → Nat → Int32, R1 k j = x ∧ (∀ a b, (a ≠ k ∨ b ≠ j) → R1 a b = R a b) ∧ AG (ev_up H (ga k) (.inl (.int, 16, .inl (upd (R k) (nI j).toNatClampNeg x)))) A ga R1 wa ar ∧ AF A ga H (ev_up H (ga k) (.inl (.int, 16, .inl (upd (R k) (nI j).toNatClampNeg x)))) := by
  obtain ⟨a1, a2⟩ := h
  rw [nI_clamp (by omega)]
  refine ⟨fun a => if a = k then upd (R k) j x else R a, by simp [upd], fun a b hab => ?_, ⟨ev_nee (ne_of a1 (a2 k hk) (fun q => by cases q)) a1, fun b hb => ?_⟩, fun a _ hy => ev_nee (hy k hk) rfl⟩
  · by_cases e : a = k
    · rcases hab with q | q
      · exact absurd e q
      · simp [e, upd, q]
    · simp [e]
  · by_cases e : b = k
    · subst e
      rw [ev_eqq]
      simp
    · rw [ev_nee (hD b k hb hk e) (a2 b hb)]
      simp [e]
theorem ag_w {x : Nat} (h : AG H A ga R wa ar) : AG (ev_up H A (.inr (0, [Value.ref (ga 0), .ref (ga 1), .ref (ga 2), .ref (ga 3), .ref (ga 4), .ref (ga 5), .ref (ga 6), .int (nI wa), .int (nI ar)].set 7 (.int (nI x))))) A ga R x ar ∧ AF A ga H (ev_up H A (.inr (0, [Value.ref (ga 0), .ref (ga 1), .ref (ga 2), .ref (ga 3), .ref (ga 4), .ref (ga 5), .ref (ga 6), .int (nI wa), .int (nI ar)].set 7 (.int (nI x))))) := by
  obtain ⟨a1, a2⟩ := h
  exact ⟨⟨ev_eqq, fun b hb => ev_nee (ne_of (a2 b hb) a1 (fun q => by cases q)) (a2 b hb)⟩, fun a hx _ => ev_nee hx rfl⟩
theorem ag_a {x : Nat} (h : AG H A ga R wa ar) : AG (ev_up H A (.inr (0, [Value.ref (ga 0), .ref (ga 1), .ref (ga 2), .ref (ga 3), .ref (ga 4), .ref (ga 5), .ref (ga 6), .int (nI wa), .int (nI ar)].set 8 (.int (nI x))))) A ga R wa x ∧ AF A ga H (ev_up H A (.inr (0, [Value.ref (ga 0), .ref (ga 1), .ref (ga 2), .ref (ga 3), .ref (ga 4), .ref (ga 5), .ref (ga 6), .int (nI wa), .int (nI ar)].set 8 (.int (nI x))))) := by
  obtain ⟨a1, a2⟩ := h
  exact ⟨⟨ev_eqq, fun b hb => ev_nee (ne_of (a2 b hb) a1 (fun q => by cases q)) (a2 b hb)⟩, fun a hx _ => ev_nee hx rfl⟩
theorem k_forget (hd : 1 ≤ dd) (h : AG H A ga R wa ar) : ev_Ca G dd w m_X0_forget [.ref A] H 0 0 (ev_ok (fun r h1 => r = none ∧ AG h1 A ga R 0 0 ∧ AF A ga H h1)) := by
  obtain ⟨dd, rfl⟩ : ∃ e, dd = e + 1 := ⟨dd - 1, by omega⟩
  refine ⟨by decide +kernel, rfl, ?_⟩
  refine ev_aload_n (pc := 0) dX0_forget_0 rfl ?_
  refine ev_iconst (pc := 1) (v := nI 0) dX0_forget_1 (by decide) ?_
  refine ev_putf (pc := 2) dX0_forget_2 p_X0_31 h.1 rfl rfl rfl ?_
  obtain ⟨h2, F2⟩ := ag_w (x := 0) h
  refine ev_aload_n (pc := 5) dX0_forget_5 rfl ?_
  refine ev_iconst (pc := 6) (v := nI 0) dX0_forget_6 (by decide) ?_
  refine ev_putf (pc := 7) dX0_forget_7 p_X0_35 h2.1 rfl rfl rfl ?_
  obtain ⟨h3, F3⟩ := ag_a (x := 0) h2
  exact ev_vret (pc := 10) dX0_forget_10 rfl ⟨rfl, h3, F2.tr F3⟩
theorem k_isFull (hd : 1 ≤ dd) (h : AG H A ga R wa ar) (hw : wa ≤ 16) : ev_Ca G dd w m_X0_isFull [.ref A] H 0 0 (ev_ok (fun r h1 => r = some (.int (nI (if 16 ≤ wa then 1 else 0))) ∧ h1 = H)) := by
  obtain ⟨dd, rfl⟩ : ∃ e, dd = e + 1 := ⟨dd - 1, by omega⟩
  refine ⟨by decide +kernel, rfl, ?_⟩
  refine ev_aload_n (pc := 0) dX0_isFull_0 rfl ?_
  refine ev_getf (pc := 1) dX0_isFull_1 f_X0_31 h.1 rfl ?_
  refine ev_bipush (pc := 4) (v := nI 16) dX0_isFull_4 (by decide) ?_
  refine ev_icmp_ltN (pc := 6) (tgt := 13) dX0_isFull_6 (by decide) (by omega) (by omega) (fun c1 => ?_) (fun c1 => ?_)
  · refine ev_iconst (pc := 13) (v := nI 0) dX0_isFull_13 (by decide) ?_
    exact ev_iret (pc := 14) dX0_isFull_14 rfl rfl ⟨by rw [if_neg (by omega)], rfl⟩
  · refine ev_iconst (pc := 9) (v := nI 1) dX0_isFull_9 (by decide) ?_
    refine ev_goto (pc := 10) (tgt := 14) dX0_isFull_10 (by decide) ?_
    exact ev_iret (pc := 14) dX0_isFull_14 rfl rfl ⟨by rw [if_pos (by omega)], rfl⟩
theorem k_wasArranged {x : Int32} (hd : 1 ≤ dd) (h : AG H A ga R wa ar) (hw : ar ≤ 16) : ev_Ca G dd w m_X0_wasArranged [.ref A, .int x] H 0 0 (ev_ok (fun r h1 => r = some (.int (nI (if 0 ≤ x.toInt ∧ x.toInt < ar then 1 else 0))) ∧ h1 = H)) := by
  obtain ⟨dd, rfl⟩ : ∃ e, dd = e + 1 := ⟨dd - 1, by omega⟩
  refine ⟨by decide +kernel, rfl, ?_⟩
  have i0 := i32_le (x := x) (n := 0) (by decide)
  have ia := i32_le (x := x) (n := ar) (by omega)
  refine ev_iload_n (pc := 0) dX0_wasArranged_0 rfl ?_
  refine ev_if_lt (pc := 1) (tgt := 16) dX0_wasArranged_1 (by decide) (fun c1 => ?_) (fun c1 => ?_)
  · have n1 := i0.2.1.mp c1
    refine ev_iconst (pc := 16) (v := nI 0) dX0_wasArranged_16 (by decide) ?_
    exact ev_iret (pc := 17) dX0_wasArranged_17 rfl rfl ⟨by rw [if_neg (by omega)], rfl⟩
  · have n1 : 0 ≤ x.toInt := Int.not_lt.mp (fun q => c1 (i0.2.1.mpr q))
    refine ev_iload_n (pc := 4) dX0_wasArranged_4 rfl ?_
    refine ev_aload_n (pc := 5) dX0_wasArranged_5 rfl ?_
    refine ev_getf (pc := 6) dX0_wasArranged_6 f_X0_35 h.1 rfl ?_
    refine ev_icmp_ge (pc := 9) (tgt := 16) dX0_wasArranged_9 (by decide) (fun c2 => ?_) (fun c2 => ?_)
    · have n2 := ia.1.mp c2
      refine ev_iconst (pc := 16) (v := nI 0) dX0_wasArranged_16 (by decide) ?_
      exact ev_iret (pc := 17) dX0_wasArranged_17 rfl rfl ⟨by rw [if_neg (by omega)], rfl⟩
    · have n2 : x.toInt < ar := Int.not_le.mp (fun q => c2 (ia.1.mpr q))
      refine ev_iconst (pc := 12) (v := nI 1) dX0_wasArranged_12 (by decide) ?_
      refine ev_goto (pc := 13) (tgt := 17) dX0_wasArranged_13 (by decide) ?_
      exact ev_iret (pc := 17) dX0_wasArranged_17 rfl rfl ⟨by rw [if_pos ⟨n1, n2⟩], rfl⟩
theorem k_note {x0 x1 x2 x3 x4 : Int32} (hd : 1 ≤ dd) (h : AG H A ga R wa ar) (hD : AD ga) (hw : wa < 16) : ev_Ca G dd w m_X0_note [.ref A, .int x0, .int x1, .int x2, .int x3, .int x4] H 0 0 (ev_ok (fun r h1 => r = some (.int (nI (wa + 1))) ∧ ∃ R1 : Nat → Nat → Int32, (∀ a b, (5 ≤ a ∨ b ≠ wa) → R1 a b = R a b) ∧ (R1 0 wa = x0 ∧ R1 1 wa = x1 ∧ R1 2 wa = x2 ∧ R1 3 wa = x3 ∧ R1 4 wa = x4) ∧ AG h1 A ga R1 (wa + 1) ar ∧ AF A ga H h1)) := by
  obtain ⟨dd, rfl⟩ : ∃ e, dd = e + 1 := ⟨dd - 1, by omega⟩
  refine ⟨by decide +kernel, rfl, ?_⟩
  refine ev_aload_n (pc := 0) dX0_note_0 rfl ?_
  refine ev_getf (pc := 1) dX0_note_1 f_X0_9 h.1 rfl ?_
  refine ev_aload_n (pc := 4) dX0_note_4 rfl ?_
  refine ev_getf (pc := 5) dX0_note_5 f_X0_31 h.1 rfl ?_
  refine ev_iload_n (pc := 8) dX0_note_8 rfl ?_
  refine ev_iast (pc := 9) dX0_note_9 (h.2 0 (by decide)) (vp_in_nI hw (by decide)) ?_
  obtain ⟨R0, p0, q0, h0, F0⟩ := ag_put (k := 0) (j := wa) (x := x0) h hD (by decide) hw
  refine ev_aload_n (pc := 10) dX0_note_10 rfl ?_
  refine ev_getf (pc := 11) dX0_note_11 f_X0_13 h0.1 rfl ?_
  refine ev_aload_n (pc := 14) dX0_note_14 rfl ?_
  refine ev_getf (pc := 15) dX0_note_15 f_X0_31 h0.1 rfl ?_
  refine ev_iload_n (pc := 18) dX0_note_18 rfl ?_
  refine ev_iast (pc := 19) dX0_note_19 (h0.2 1 (by decide)) (vp_in_nI hw (by decide)) ?_
  obtain ⟨R1, p1, q1, h1, F1⟩ := ag_put (k := 1) (j := wa) (x := x1) h0 hD (by decide) hw
  refine ev_aload_n (pc := 20) dX0_note_20 rfl ?_
  refine ev_getf (pc := 21) dX0_note_21 f_X0_16 h1.1 rfl ?_
  refine ev_aload_n (pc := 24) dX0_note_24 rfl ?_
  refine ev_getf (pc := 25) dX0_note_25 f_X0_31 h1.1 rfl ?_
  refine ev_iload_n (pc := 28) dX0_note_28 rfl ?_
  refine ev_iast (pc := 29) dX0_note_29 (h1.2 2 (by decide)) (vp_in_nI hw (by decide)) ?_
  obtain ⟨R2, p2, q2, h2, F2⟩ := ag_put (k := 2) (j := wa) (x := x2) h1 hD (by decide) hw
  refine ev_aload_n (pc := 30) dX0_note_30 rfl ?_
  refine ev_getf (pc := 31) dX0_note_31 f_X0_19 h2.1 rfl ?_
  refine ev_aload_n (pc := 34) dX0_note_34 rfl ?_
  refine ev_getf (pc := 35) dX0_note_35 f_X0_31 h2.1 rfl ?_
  refine ev_iload (pc := 38) dX0_note_38 rfl ?_
  refine ev_iast (pc := 40) dX0_note_40 (h2.2 3 (by decide)) (vp_in_nI hw (by decide)) ?_
  obtain ⟨R3, p3, q3, h3, F3⟩ := ag_put (k := 3) (j := wa) (x := x3) h2 hD (by decide) hw
  refine ev_aload_n (pc := 41) dX0_note_41 rfl ?_
  refine ev_getf (pc := 42) dX0_note_42 f_X0_22 h3.1 rfl ?_
  refine ev_aload_n (pc := 45) dX0_note_45 rfl ?_
  refine ev_getf (pc := 46) dX0_note_46 f_X0_31 h3.1 rfl ?_
  refine ev_iload (pc := 49) dX0_note_49 rfl ?_
  refine ev_iast (pc := 51) dX0_note_51 (h3.2 4 (by decide)) (vp_in_nI hw (by decide)) ?_
  obtain ⟨R4, p4, q4, h4, F4⟩ := ag_put (k := 4) (j := wa) (x := x4) h3 hD (by decide) hw
  refine ev_aload_n (pc := 52) dX0_note_52 rfl ?_
  refine ev_dup (pc := 53) dX0_note_53 rfl ?_
  refine ev_getf (pc := 54) dX0_note_54 f_X0_31 h4.1 rfl ?_
  refine ev_iconst (pc := 57) (v := nI 1) dX0_note_57 (by decide) ?_
  refine ev_iaddN (pc := 58) dX0_note_58 ?_
  refine ev_putf (pc := 59) dX0_note_59 p_X0_31 h4.1 rfl rfl rfl ?_
  obtain ⟨h5, F5⟩ := ag_w (x := wa + 1) h4
  refine ev_aload_n (pc := 62) dX0_note_62 rfl ?_
  refine ev_getf (pc := 63) dX0_note_63 f_X0_31 h5.1 rfl ?_
  refine ev_iret (pc := 66) dX0_note_66 rfl rfl ⟨rfl, R4, fun a b hab => ?_, ⟨?_, ?_, ?_, ?_, p4⟩, h5, ((((F0.tr F1).tr F2).tr F3).tr F4).tr F5⟩
  · rw [q4 a b (by omega), q3 a b (by omega), q2 a b (by omega), q1 a b (by omega), q0 a b (by omega)]
  · rw [q4 0 wa (by omega), q3 0 wa (by omega), q2 0 wa (by omega), q1 0 wa (by omega), p0]
  · rw [q4 1 wa (by omega), q3 1 wa (by omega), q2 1 wa (by omega), p1]
  · rw [q4 2 wa (by omega), q3 2 wa (by omega), p2]
  · rw [q4 3 wa (by omega), p3]
theorem k_isBefore {l e kl ke sl se : Nat} (hd : 1 ≤ dd) (h : AG H A ga R wa ar) (hl : l < 16) (he : e < 16) (h1 : R 0 l = nI kl) (h2 : R 0 e = nI ke) (h3 : R 1 l = nI sl) (h4 : R 1 e = nI se) (b1 : kl < 9) (b2 : ke < 9) (b3 : sl < 8) (b4 : se < 8) : ev_Ca G dd w m_X0_isBefore [.ref A, .int (nI l), .int (nI e)] H 0 0 (ev_ok (fun r h1 => r = some (.int (nI (if kl * 8 + sl < ke * 8 + se then 1 else 0))) ∧ h1 = H)) := by
  obtain ⟨dd, rfl⟩ : ∃ e, dd = e + 1 := ⟨dd - 1, by omega⟩
  refine ⟨by decide +kernel, rfl, ?_⟩
  refine ev_aload_n (pc := 0) dX0_isBefore_0 rfl ?_
  refine ev_getf (pc := 1) dX0_isBefore_1 f_X0_9 h.1 rfl ?_
  refine ev_iload_n (pc := 4) dX0_isBefore_4 rfl ?_
  refine ev_iaF (pc := 5) dX0_isBefore_5 (h.2 0 (by decide)) hl (by decide) h1 ?_
  refine ev_aload_n (pc := 6) dX0_isBefore_6 rfl ?_
  refine ev_getf (pc := 7) dX0_isBefore_7 f_X0_9 h.1 rfl ?_
  refine ev_iload_n (pc := 10) dX0_isBefore_10 rfl ?_
  refine ev_iaF (pc := 11) dX0_isBefore_11 (h.2 0 (by decide)) he (by decide) h2 ?_
  refine ev_icmp_eqN (pc := 12) (tgt := 36) dX0_isBefore_12 (by decide) (by omega) (by omega) (fun c1 => ?_) (fun c1 => ?_)
  · refine ev_aload_n (pc := 36) dX0_isBefore_36 rfl ?_
    refine ev_getf (pc := 37) dX0_isBefore_37 f_X0_13 h.1 rfl ?_
    refine ev_iload_n (pc := 40) dX0_isBefore_40 rfl ?_
    refine ev_iaF (pc := 41) dX0_isBefore_41 (h.2 1 (by decide)) hl (by decide) h3 ?_
    refine ev_aload_n (pc := 42) dX0_isBefore_42 rfl ?_
    refine ev_getf (pc := 43) dX0_isBefore_43 f_X0_13 h.1 rfl ?_
    refine ev_iload_n (pc := 46) dX0_isBefore_46 rfl ?_
    refine ev_iaF (pc := 47) dX0_isBefore_47 (h.2 1 (by decide)) he (by decide) h4 ?_
    refine ev_icmp_geN (pc := 48) (tgt := 55) dX0_isBefore_48 (by decide) (by omega) (by omega) (fun c2 => ?_) (fun c2 => ?_)
    · refine ev_iconst (pc := 55) (v := nI 0) dX0_isBefore_55 (by decide) ?_
      exact ev_iret (pc := 56) dX0_isBefore_56 rfl rfl ⟨by rw [if_neg (by omega)], rfl⟩
    · refine ev_iconst (pc := 51) (v := nI 1) dX0_isBefore_51 (by decide) ?_
      refine ev_goto (pc := 52) (tgt := 56) dX0_isBefore_52 (by decide) ?_
      exact ev_iret (pc := 56) dX0_isBefore_56 rfl rfl ⟨by rw [if_pos (by omega)], rfl⟩
  · refine ev_aload_n (pc := 15) dX0_isBefore_15 rfl ?_
    refine ev_getf (pc := 16) dX0_isBefore_16 f_X0_9 h.1 rfl ?_
    refine ev_iload_n (pc := 19) dX0_isBefore_19 rfl ?_
    refine ev_iaF (pc := 20) dX0_isBefore_20 (h.2 0 (by decide)) hl (by decide) h1 ?_
    refine ev_aload_n (pc := 21) dX0_isBefore_21 rfl ?_
    refine ev_getf (pc := 22) dX0_isBefore_22 f_X0_9 h.1 rfl ?_
    refine ev_iload_n (pc := 25) dX0_isBefore_25 rfl ?_
    refine ev_iaF (pc := 26) dX0_isBefore_26 (h.2 0 (by decide)) he (by decide) h2 ?_
    refine ev_icmp_geN (pc := 27) (tgt := 34) dX0_isBefore_27 (by decide) (by omega) (by omega) (fun c2 => ?_) (fun c2 => ?_)
    · refine ev_iconst (pc := 34) (v := nI 0) dX0_isBefore_34 (by decide) ?_
      exact ev_iret (pc := 35) dX0_isBefore_35 rfl rfl ⟨by rw [if_neg (by omega)], rfl⟩
    · refine ev_iconst (pc := 30) (v := nI 1) dX0_isBefore_30 (by decide) ?_
      refine ev_goto (pc := 31) (tgt := 35) dX0_isBefore_31 (by decide) ?_
      exact ev_iret (pc := 35) dX0_isBefore_35 rfl rfl ⟨by rw [if_pos (by omega)], rfl⟩
variable {kd sh : Nat → Nat}
theorem l_ins {K : ev_K} {c z p : Nat} {H0 : ev_H} {R0 : Nat → Nat → Int32} {od : Nat → Nat} (hd : 1 ≤ dd) (hw : 22 ≤ w) (hD : AD ga) (hp : p < wa) (hwa : wa ≤ 16)
    (hE : ∀ j, j < wa → R0 0 j = nI (kd j) ∧ R0 1 j = nI (sh j) ∧ kd j < 9 ∧ sh j < 8) (hod : ∀ i, i < p → od i < p)
    (hK : ∀ t H R, t ≤ p → AG H A ga R wa ar → AF A ga H0 H → (∀ a, a ≠ 5 → ∀ b, R a b = R0 a b) → (∀ j, j < t → R 5 j = nI (od j)) → (∀ j, t < j → j ≤ p → R 5 j = nI (od (j - 1))) → (∀ i, t ≤ i → i < p → ky kd sh p < ky kd sh (od i)) → (t = 0 ∨ ky kd sh (od (t - 1)) < ky kd sh p) → ev_J G (ev_cc G dd w) w m_X0_arrange K (52, ev_lf [(0, .ref A), (1, .int (nI p)), (2, .int (nI t))], [], H, c, z)) :
    ∀ t H R, t ≤ p → AG H A ga R wa ar → AF A ga H0 H → (∀ a, a ≠ 5 → ∀ b, R a b = R0 a b) → (∀ j, j < t → R 5 j = nI (od j)) → (∀ j, t < j → j ≤ p → R 5 j = nI (od (j - 1))) → (∀ i, t ≤ i → i < p → ky kd sh p < ky kd sh (od i)) → ev_J G (ev_cc G dd w) w m_X0_arrange K (12, ev_lf [(0, .ref A), (1, .int (nI p)), (2, .int (nI t))], [], H, c, z)
  | 0, H, R, ht, h, hF, e1, e2, e3, e4 => by
    refine ev_iload_n (pc := 12) dX0_arrange_12 rfl ?_
    refine ev_if_leN (pc := 13) (tgt := 52) dX0_arrange_13 (by decide) (by omega) (fun c1 => ?_) (fun c1 => ?_)
    · refine ev_vs [(0, .ref A), (1, .int (nI p)), (2, .int (nI 0))] ⟨rfl, rfl, rfl, trivial⟩ ?_
      exact hK 0 H R ht h hF e1 e2 e3 e4 (Or.inl rfl)
    · omega
  | t + 1, H, R, ht, h, hF, e1, e2, e3, e4 => by
    have hot := hod t (by omega)
    obtain ⟨y1, y2, y3, y4⟩ := hE p hp
    obtain ⟨y5, y6, y7, y8⟩ := hE (od t) (by omega)
    refine ev_iload_n (pc := 12) dX0_arrange_12 rfl ?_
    refine ev_if_leN (pc := 13) (tgt := 52) dX0_arrange_13 (by decide) (by omega) (fun c1 => ?_) (fun c1 => ?_)
    · omega
    · refine ev_aload_n (pc := 16) dX0_arrange_16 rfl ?_
      refine ev_iload_n (pc := 17) dX0_arrange_17 rfl ?_
      refine ev_aload_n (pc := 18) dX0_arrange_18 rfl ?_
      refine ev_getf (pc := 19) dX0_arrange_19 f_X0_25 h.1 rfl ?_
      refine ev_iload_n (pc := 22) dX0_arrange_22 rfl ?_
      refine ev_iconst (pc := 23) (v := nI 1) dX0_arrange_23 (by decide) ?_
      refine ev_isubN (pc := 24) dX0_arrange_24 (by omega) ?_
      refine ev_iaF (pc := 25) (i := t) dX0_arrange_25 (h.2 5 (by decide)) (by omega) (by decide) (e2 t (by omega)) ?_
      refine ev_callV (pc := 26) (As := [.int (nI p), .int (nI (od t))]) dX0_arrange_26 cv_X0_38 rfl rfl h.1 rfl ⟨by show 19 + 3 ≤ w; omega, show ev_Ca _ _ (w - 22) _ _ _ _ _ _ from k_isBefore (by omega) h (by omega) (by omega) ((e1 0 (by decide) _).trans y1) ((e1 0 (by decide) _).trans y5) ((e1 1 (by decide) _).trans y2) ((e1 1 (by decide) _).trans y6) y3 y7 y4 y8⟩ rfl rfl (fun r h1 hp => ?_)
      obtain ⟨rfl, hH⟩ := hp
      rw [hH]
      clear hH h1
      by_cases cc : kd p * 8 + sh p < kd (od t) * 8 + sh (od t)
      · rw [if_pos cc]
        refine ev_if_eqN (pc := 29) (tgt := 52) dX0_arrange_29 (by decide) (by decide) (fun q => absurd q (by decide)) (fun _ => ?_)
        refine ev_aload_n (pc := 32) dX0_arrange_32 rfl ?_
        refine ev_getf (pc := 33) dX0_arrange_33 f_X0_25 h.1 rfl ?_
        refine ev_iload_n (pc := 36) dX0_arrange_36 rfl ?_
        refine ev_aload_n (pc := 37) dX0_arrange_37 rfl ?_
        refine ev_getf (pc := 38) dX0_arrange_38 f_X0_25 h.1 rfl ?_
        refine ev_iload_n (pc := 41) dX0_arrange_41 rfl ?_
        refine ev_iconst (pc := 42) (v := nI 1) dX0_arrange_42 (by decide) ?_
        refine ev_isubN (pc := 43) dX0_arrange_43 (by omega) ?_
        refine ev_iaF (pc := 44) (i := t) dX0_arrange_44 (h.2 5 (by decide)) (by omega) (by decide) (e2 t (by omega)) ?_
        refine ev_iast (pc := 45) dX0_arrange_45 (h.2 5 (by decide)) (vp_in_nI (by omega) (by decide)) ?_
        obtain ⟨R1, p1, q1, h2, F2⟩ := ag_put (k := 5) (j := t + 1) (x := nI (od t)) h hD (by decide) (by omega)
        refine ev_iincD (pc := 46) dX0_arrange_46 rfl rfl (by omega) ?_
        refine ev_goto (pc := 49) (tgt := 12) dX0_arrange_49 (by decide) ?_
        refine ev_vs [(0, .ref A), (1, .int (nI p)), (2, .int (nI t))] ⟨rfl, rfl, rfl, trivial⟩ ?_
        refine l_ins hd hw hD hp hwa hE hod hK t _ R1 (by omega) h2 (hF.tr F2) (fun a ha b => (q1 a b (Or.inl ha)).trans (e1 a ha b)) (fun j hj => (q1 5 j (by omega)).trans (e2 j (by omega))) (fun j hj hjp => ?_) (fun i hi hip => ?_)
        · by_cases q : j = t + 1
          · rw [q, p1]; rfl
          · rw [q1 5 j (by omega), e3 j (by omega) hjp]
        · by_cases q : i = t
          · rw [q]; unfold ky; omega
          · exact e4 i (by omega) hip
      · rw [if_neg cc]
        refine ev_if_eqN (pc := 29) (tgt := 52) dX0_arrange_29 (by decide) (by decide) (fun _ => ?_) (fun q => absurd q (by decide))
        refine ev_vs [(0, .ref A), (1, .int (nI p)), (2, .int (nI (t + 1)))] ⟨rfl, rfl, rfl, trivial⟩ ?_
        exact hK (t + 1) H R ht h hF e1 e2 e3 e4 (Or.inr (by rw [Nat.add_sub_cancel]; unfold ky; omega))
theorem l_arr {K : ev_K} {c z : Nat} {H0 : ev_H} {R0 : Nat → Nat → Int32} (hd : 1 ≤ dd) (hw : 22 ≤ w) (hD : AD ga) (hwa : wa ≤ 16)
    (hE : ∀ j, j < wa → R0 0 j = nI (kd j) ∧ R0 1 j = nI (sh j) ∧ kd j < 9 ∧ sh j < 8)
    (hK : ∀ H R od, AG H A ga R wa ar → AF A ga H0 H → (∀ a, a ≠ 5 → ∀ b, R a b = R0 a b) → (∀ j, j < wa → R 5 j = nI (od j)) → so kd sh wa od → ev_J G (ev_cc G dd w) w m_X0_arrange K (65, ev_lf [(0, .ref A)], [], H, c, z)) :
    ∀ k p H R od, p + k = wa → AG H A ga R wa ar → AF A ga H0 H → (∀ a, a ≠ 5 → ∀ b, R a b = R0 a b) → (∀ j, j < p → R 5 j = nI (od j)) → so kd sh p od → ev_J G (ev_cc G dd w) w m_X0_arrange K (2, ev_lf [(0, .ref A), (1, .int (nI p))], [], H, c, z)
  | 0, p, H, R, od, e, h, hF, e1, e2, e3 => by
    refine ev_iload_n (pc := 2) dX0_arrange_2 rfl ?_
    refine ev_aload_n (pc := 3) dX0_arrange_3 rfl ?_
    refine ev_getf (pc := 4) dX0_arrange_4 f_X0_31 h.1 rfl ?_
    refine ev_icmp_geN (pc := 7) (tgt := 65) dX0_arrange_7 (by decide) (by omega) (by omega) (fun c1 => ?_) (fun c1 => ?_)
    · refine ev_vs [(0, .ref A)] ⟨rfl, trivial⟩ ?_
      have : p = wa := by omega
      subst this
      exact hK H R od h hF e1 e2 e3
    · omega
  | k + 1, p, H, R, od, e, h, hF, e1, e2, e3 => by
    refine ev_iload_n (pc := 2) dX0_arrange_2 rfl ?_
    refine ev_aload_n (pc := 3) dX0_arrange_3 rfl ?_
    refine ev_getf (pc := 4) dX0_arrange_4 f_X0_31 h.1 rfl ?_
    refine ev_icmp_geN (pc := 7) (tgt := 65) dX0_arrange_7 (by decide) (by omega) (by omega) (fun c1 => ?_) (fun c1 => ?_)
    · omega
    · refine ev_iload_n (pc := 10) dX0_arrange_10 rfl ?_
      refine ev_istore_n (pc := 11) dX0_arrange_11 rfl ?_
      refine ev_vs [(0, .ref A), (1, .int (nI p)), (2, .int (nI p))] ⟨rfl, rfl, rfl, trivial⟩ ?_
      refine l_ins (H0 := H0) (R0 := R0) (od := od) hd hw hD c1 hwa hE e3.1 (fun t H2 R2 ht g gF g1 g2 g3 g4 g5 => ?_) p H R (Nat.le_refl p) h hF e1 e2 (fun j hj hjp => by omega) (fun i hi hip => by omega)
      refine ev_aload_n (pc := 52) dX0_arrange_52 rfl ?_
      refine ev_getf (pc := 53) dX0_arrange_53 f_X0_25 g.1 rfl ?_
      refine ev_iload_n (pc := 56) dX0_arrange_56 rfl ?_
      refine ev_iload_n (pc := 57) dX0_arrange_57 rfl ?_
      refine ev_iast (pc := 58) dX0_arrange_58 (g.2 5 (by decide)) (vp_in_nI (by omega) (by decide)) ?_
      obtain ⟨R3, p3, q3, h3, F3⟩ := ag_put (k := 5) (j := t) (x := nI p) g hD (by decide) (by omega)
      refine ev_iincN (pc := 59) dX0_arrange_59 rfl rfl ?_
      refine ev_goto (pc := 62) (tgt := 2) dX0_arrange_62 (by decide) ?_
      refine ev_vs [(0, .ref A), (1, .int (nI (p + 1)))] ⟨rfl, rfl, trivial⟩ ?_
      refine l_arr hd hw hD hwa hE hK k (p + 1) _ R3 (oi od p t) (by omega) h3 (gF.tr F3) (fun a ha b => (q3 a b (Or.inl ha)).trans (g1 a ha b)) (fun j hj => ?_) (so_ins e3 ht g4 g5)
      unfold oi
      rcases Nat.lt_trichotomy j t with q | q | q
      · rw [if_pos q, q3 5 j (by omega)]; exact g2 j q
      · rw [if_neg (by omega), if_pos q, q]; exact p3
      · rw [if_neg (by omega), if_neg (by omega), q3 5 j (by omega)]; exact g3 j q (by omega)
theorem k_arrange (hd : 2 ≤ dd) (hw : 22 ≤ w) (h : AG H A ga R wa ar) (hD : AD ga) (hwa : wa ≤ 16) (hE : ∀ j, j < wa → R 0 j = nI (kd j) ∧ R 1 j = nI (sh j) ∧ kd j < 9 ∧ sh j < 8) : ev_Ca G dd w m_X0_arrange [.ref A] H 0 0 (ev_ok (fun r h1 => r = none ∧ ∃ R1 od, (∀ a, a ≠ 5 → ∀ b, R1 a b = R a b) ∧ (∀ j, j < wa → R1 5 j = nI (od j)) ∧ so kd sh wa od ∧ AG h1 A ga R1 0 wa ∧ AF A ga H h1)) := by
  obtain ⟨dd, rfl⟩ : ∃ e, dd = e + 1 := ⟨dd - 1, by omega⟩
  refine ⟨by decide +kernel, rfl, ?_⟩
  refine ev_iconst (pc := 0) (v := nI 0) dX0_arrange_0 (by decide) ?_
  refine ev_istore_n (pc := 1) dX0_arrange_1 rfl ?_
  refine ev_vs [(0, .ref A), (1, .int (nI 0))] ⟨rfl, rfl, trivial⟩ ?_
  refine l_arr (H0 := H) (R0 := R) (by omega) hw hD hwa hE (fun H2 R2 od g gF g1 g2 g3 => ?_) wa 0 H R (fun _ => 0) (by omega) h AF.rf (fun _ _ _ => rfl) (fun j hj => absurd hj (Nat.not_lt_zero j)) ⟨fun i hi => absurd hi (Nat.not_lt_zero i), fun i hi => absurd hi (Nat.not_lt_zero i), fun i j _ hj => absurd hj (Nat.not_lt_zero j)⟩
  refine ev_aload_n (pc := 65) dX0_arrange_65 rfl ?_
  refine ev_aload_n (pc := 66) dX0_arrange_66 rfl ?_
  refine ev_getf (pc := 67) dX0_arrange_67 f_X0_31 g.1 rfl ?_
  refine ev_putf (pc := 70) dX0_arrange_70 p_X0_35 g.1 rfl rfl rfl ?_
  obtain ⟨h4, F4⟩ := ag_a (x := wa) g
  refine ev_aload_n (pc := 73) dX0_arrange_73 rfl ?_
  refine ev_iconst (pc := 74) (v := nI 0) dX0_arrange_74 (by decide) ?_
  refine ev_putf (pc := 75) dX0_arrange_75 p_X0_31 h4.1 rfl rfl rfl ?_
  obtain ⟨h5, F5⟩ := ag_w (x := 0) h4
  exact ev_vret (pc := 78) dX0_arrange_78 rfl ⟨rfl, R2, od, g1, g2, g3, h5, (gF.tr F4).tr F5⟩
end AGD
