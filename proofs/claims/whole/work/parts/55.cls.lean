/-! IndexBureau: close -/
abbrev qs : Type := ((Nat → Nat → Nat) × (Nat → Nat) × (Nat → Nat) × Nat) × Nat × Nat
def q_ok (q : qs) : Prop := st_ok q.1.1 q.1.2.1 q.1.2.2.1 q.1.2.2.2 ∧ f_b q.1.2.2.1 ∧ dv_ok q.2.1 q.2.2
def aq (q p : qs) : Prop := ag3 q.1.1 q.1.2.1 q.1.2.2.1 p.1.1 p.1.2.1 p.1.2.2.1 ∧ q.1.2.2.2 = p.1.2.2.2 ∧ q.2 = p.2
theorem q_ag {q p : qs} (h : aq q p) (ok : q_ok p) : q_ok q := by
  obtain ⟨h1, h2, h3⟩ := h
  obtain ⟨a1, a2, a3⟩ := ok
  refine ⟨?_, fb_ag (fun j hj => (h1.2 j hj).2) a2, by rw [h3]; exact a3⟩
  rw [h2]
  exact st_ag h1 a1
theorem pf_ok {kd s : Nat} {a b c : Int32} {q : qs} (ok : q_ok q) (hs : s < 8) : q_ok (pf kd s a b c q.1.1 q.1.2.1 q.1.2.2.1 q.1.2.2.2 q.2.1 q.2.2).2 ∧ (pf kd s a b c q.1.1 q.1.2.1 q.1.2.2.1 q.1.2.2.2 q.2.1 q.2.2).1 ≤ 3 := by
  obtain ⟨a1, a2, a3⟩ := ok
  obtain ⟨⟨P, fu, fd, mem⟩, D1, D2⟩ := q
  dsimp only at a1 a2 a3 ⊢
  have c1 := (ch_ok (kd := kd) (a := a) (b := b) (c := c) a1 hs).1
  have c2 := ch_fb (kd := kd) (s := s) (a := a) (b := b) (c := c) (fu := fu) (mem := mem) a1.1 a2
  have c3 := ch_le (kd := kd) (s := s) (a := a) (b := b) (c := c) (P := P) (fu := fu) (fd := fd) (mem := mem)
  unfold pf
  generalize ch kd s a b c P fu fd mem = r at *
  obtain ⟨o, P1, fu1, fd1, mem1⟩ := r
  dsimp only at c1 c2 c3 ⊢
  obtain ⟨y1, y2⟩ := su_p8 c1.1 c1.2.1 c1.2.2.1 c1.2.2.2
  obtain ⟨z1, z2⟩ := su_p8 a1.1 a1.2.1 a1.2.2.1 a1.2.2.2
  generalize su P1 fu1 fd1 mem1 8 = W at *
  generalize su P fu fd mem 8 = B at *
  split
  · exact ⟨⟨c1, c2, a3⟩, by show o ≤ 3; omega⟩
  · split
    · exact ⟨⟨a1, a2, a3⟩, by show 3 ≤ 3; omega⟩
    · rename_i cc
      refine ⟨⟨c1, c2, ?_⟩, by show 0 ≤ 3; omega⟩
      obtain ⟨w1, w2, w3, w4, w5⟩ := a3
      have m1 := Nat.mul_pos w1 (Nat.mul_pos y1 z2)
      have m2 := Nat.mul_pos w2 (Nat.mul_pos y2 z1)
      generalize D1 * (W.1 * B.2) = N at *
      generalize D2 * (W.2 * B.1) = M at *
      have g0 : 0 < Nat.gcd N M := Nat.gcd_pos_of_pos_left _ m1
      exact ⟨Nat.div_pos (Nat.le_of_dvd m1 (Nat.gcd_dvd_left _ _)) g0, Nat.div_pos (Nat.le_of_dvd m2 (Nat.gcd_dvd_right _ _)) g0, mb_bits_lt (show mb_bits (N / Nat.gcd N M) ≤ 512 by omega), mb_bits_lt (show mb_bits (M / Nat.gcd N M) ≤ 512 by omega), Nat.coprime_div_gcd_div_gcd g0⟩
noncomputable def sq (R : Nat → Nat → Int32) (kd sh : Nat → Nat) (p : Nat) (q : qs) : Nat × qs := pf (kd p) (sh p) (R 2 p) (R 3 p) (R 4 p) q.1.1 q.1.2.1 q.1.2.2.1 q.1.2.2.2 q.2.1 q.2.2
/-- events done one after another -/
def run (E : Nat → qs → Nat × qs) (od : Nat → Nat) (o : Nat → Int32) : Nat → qs → qs → Prop
  | 0, q, p => p = q
  | i + 1, q, p => ∃ m, run E od o i q m ∧ o i = nI (E (od i) m).1 ∧ aq p (E (od i) m).2
theorem run_cg {E : Nat → qs → Nat × qs} {od : Nat → Nat} {o o2 : Nat → Int32} : ∀ i q p, (∀ j, j < i → o j = o2 j) → run E od o i q p → run E od o2 i q p
  | 0, _, _, _, h => h
  | i + 1, q, p, e, h => by
    obtain ⟨m, h1, h2, h3⟩ := h
    exact ⟨m, run_cg i q m (fun j hj => e j (by omega)) h1, (e i (by omega)).symm.trans h2, h3⟩
def dc (o : Nat → Int32) : Nat → Nat
  | 0 => 0
  | i + 1 => dc o i + (if o i = 0 then 1 else 0)
theorem dc_cg {o o2 : Nat → Int32} : ∀ i, (∀ j, j < i → o j = o2 j) → dc o i = dc o2 i
  | 0, _ => rfl
  | i + 1, e => by unfold dc; rw [dc_cg i (fun j hj => e j (by omega)), e i (by omega)]
theorem dc_le (o : Nat → Int32) : ∀ i, dc o i ≤ i
  | 0 => Nat.le_refl 0
  | i + 1 => by have := dc_le o i; unfold dc; split <;> omega
def cf (x : ev_C) : Prop := kf x ∧ (∀ fs, x ≠ .inr (0, fs)) ∧ ∀ f, x ≠ .inl (.int, 16, .inl f)
def CF (H h1 : ev_H) : Prop := ∀ a x, H a = some x → cf x → h1 a = some x
theorem CF.rf {H : ev_H} : CF H H := fun _ _ h _ => h
theorem CF.tr {H h1 h2 : ev_H} (a : CF H h1) (b : CF h1 h2) : CF H h2 := fun x y hx hy => b x y (a x y hx hy) hy
theorem KF.cf {H h1 : ev_H} (a : KF H h1) : CF H h1 := fun x y hx hy => a x y hx hy.1
section CLS
variable {G : ev_G} {w : Nat} {H h1 : ev_H} {bp : Nat → Nat} {lay : Nat → Nat × Nat} {val : Nat → Nat} {i j k dd s : Nat} {sa sb ga : Nat → Nat} {P Pb : Nat → Nat → Nat} {fu fd fub fdb : Nat → Nat} {mem memb : Nat} {dn ba sd : Nat} {R : Nat → Nat → Int32} {wa ar : Nat} {S D A : Nat} {lv : Nat → Nat}
theorem ag_out (h : AG H A ga R wa ar) (hF : AF A ga H h1) {a : Nat} {x : ev_C} (ha : H a = some x) (n1 : ∀ fs, x ≠ .inr (0, fs)) (n2 : ∀ f, x ≠ .inl (.int, 16, .inl f)) : h1 a = some x := by
  refine (hF a (fun e => ?_) (fun k hk e => ?_)).trans ha
  · rw [e, h.1] at ha; exact n1 _ (Option.some.inj ha).symm
  · rw [e, h.2 k hk] at ha; exact n2 _ (Option.some.inj ha).symm
theorem AF.cf (h : AG H A ga R wa ar) (hF : AF A ga H h1) : CF H h1 := fun _ _ ha hc => ag_out h hF ha hc.2.1 hc.2.2
theorem dw_af (g : AG H A ga R wa ar) (hF : AF A ga H h1) (h : DW H D lay val) : DW h1 D lay val := by
  obtain ⟨b1, b2, b3⟩ := h
  refine ⟨b1, fun k hk => ?_, ag_out g hF b3 (fun fs e => by cases e) (fun f e => by cases e)⟩
  obtain ⟨q, n, c1, c2, c3⟩ := b2 k hk
  exact ⟨q, n, ag_out g hF c1 (fun fs e => by cases e) (fun f e => by cases e), ag_out g hF c2 (fun fs e => by cases e) (fun f e => by cases e), c3⟩
theorem sh_af (g : AG H A ga R wa ar) (hF : AF A ga H h1) (h : SH H S sa P fu fd mem) : SH h1 S sa P fu fd mem := by
  obtain ⟨a1, a2, a3, a4, a5⟩ := h
  exact ⟨ag_out g hF a1 (fun fs e => by cases e) (fun f e => by cases e), ag_out g hF a2 (fun fs e => by cases e) (fun f e => by cases e), fun b hb => ag_out g hF (a3 b hb) (fun fs e => by cases e) (fun f e => by cases e), ag_out g hF a4 (fun fs e => by cases e) (fun f e => by cases e), ag_out g hF a5 (fun fs e => by cases e) (fun f e => by cases e)⟩
theorem bq_af (g : AG H A ga R wa ar) (hF : AF A ga H h1) (h : BQ H bp lay dn ba sd) : BQ h1 bp lay dn ba sd := ⟨ag_out g hF h.1 (fun fs e => by cases e) (fun f e => by cases e), fun i hi => ag_out g hF (h.2 i hi) (fun fs e => by cases e) (fun f e => by cases e)⟩
variable {kd sh od : Nat → Nat}
theorem l_close {K : ev_K} {c z : Nat} {H0 : ev_H} {R0 : Nat → Nat → Int32} {q0 : qs} (hd : 8 ≤ dd) (hw : 220 ≤ w) (hG : G_ok G) (hX1 : SX (bp 1) sa (bp 2) sb) (hX2 : SX (bp 2) sb (bp 1) sa) (hD : SD sa) (hD2 : SD sb) (hAD : AD ga) (hwa : wa ≤ 16)
    (hE : ∀ j, j < wa → R0 0 j = nI (kd j) ∧ R0 1 j = nI (sh j) ∧ kd j < 9 ∧ sh j < 8) (hod : ∀ j, j < wa → R0 5 j = nI (od j) ∧ od j < wa)
    (hK : ∀ H R val P fu fd mem Pb fub fdb memb, DW H (bp 4) lay val → BQ H bp lay dn ba sd → SH H (bp 1) sa P fu fd mem → SH H (bp 2) sb Pb fub fdb memb → AG H (bp 3) ga R 0 wa → CF H0 H → (∀ a, a ≠ 6 → ∀ b, R a b = R0 a b) → run (sq R0 kd sh) od (R 6) wa q0 ((P, fu, fd, mem), val 9, val 10) → q_ok ((P, fu, fd, mem), val 9, val 10) → ev_J G (ev_cc G dd w) w m_X8_close K (90, ev_lf [(0, .ref (bp 0)), (1, .int (nI (dc (R 6) wa)))], [], H, c, z)) :
    ∀ k i H R val P fu fd mem Pb fub fdb memb, i + k = wa → DW H (bp 4) lay val → BQ H bp lay dn ba sd → SH H (bp 1) sa P fu fd mem → SH H (bp 2) sb Pb fub fdb memb → AG H (bp 3) ga R 0 wa → CF H0 H → (∀ a, a ≠ 6 → ∀ b, R a b = R0 a b) → run (sq R0 kd sh) od (R 6) i q0 ((P, fu, fd, mem), val 9, val 10) → q_ok ((P, fu, fd, mem), val 9, val 10) → ev_J G (ev_cc G dd w) w m_X8_close K (36, ev_lf [(0, .ref (bp 0)), (1, .int (nI (dc (R 6) i))), (2, .int (nI i))], [], H, c, z)
  | 0, i, H, R, val, P, fu, fd, mem, Pb, fub, fdb, memb, e, h, hB, hS, hS2, hA, hF, e1, e2, ok => by
    have : i = wa := by omega
    subst this
    refine ev_iload_n (pc := 36) dX8_close_36 rfl ?_
    refine ev_aload_n (pc := 37) dX8_close_37 rfl ?_
    refine ev_getf (pc := 38) dX8_close_38 f_X8_22 hB.1 rfl ?_
    refine ev_getf (pc := 41) dX8_close_41 f_X8_141 hA.1 rfl ?_
    refine ev_icmp_geN (pc := 44) (tgt := 90) dX8_close_44 (by decide) (by omega) (by omega) (fun c1 => ?_) (fun c1 => ?_)
    · refine ev_vs [(0, .ref (bp 0)), (1, .int (nI (dc (R 6) i)))] ⟨rfl, rfl, trivial⟩ ?_
      exact hK H R val P fu fd mem Pb fub fdb memb h hB hS hS2 hA hF e1 e2 ok
    · omega
  | k + 1, i, H, R, val, P, fu, fd, mem, Pb, fub, fdb, memb, e, h, hB, hS, hS2, hA, hF, e1, e2, ok => by
    obtain ⟨o1, o2⟩ := hod i (by omega)
    obtain ⟨y1, y2, y3, y4⟩ := hE (od i) o2
    have dl := dc_le (R 6) i
    refine ev_iload_n (pc := 36) dX8_close_36 rfl ?_
    refine ev_aload_n (pc := 37) dX8_close_37 rfl ?_
    refine ev_getf (pc := 38) dX8_close_38 f_X8_22 hB.1 rfl ?_
    refine ev_getf (pc := 41) dX8_close_41 f_X8_141 hA.1 rfl ?_
    refine ev_icmp_geN (pc := 44) (tgt := 90) dX8_close_44 (by decide) (by omega) (by omega) (fun c1 => ?_) (fun c1 => ?_)
    · omega
    · refine ev_aload_n (pc := 47) dX8_close_47 rfl ?_
      refine ev_getf (pc := 48) dX8_close_48 f_X8_22 hB.1 rfl ?_
      refine ev_getf (pc := 51) dX8_close_51 f_X8_144 hA.1 rfl ?_
      refine ev_iload_n (pc := 54) dX8_close_54 rfl ?_
      refine ev_aload_n (pc := 55) dX8_close_55 rfl ?_
      refine ev_aload_n (pc := 56) dX8_close_56 rfl ?_
      refine ev_getf (pc := 57) dX8_close_57 f_X8_22 hB.1 rfl ?_
      refine ev_getf (pc := 60) dX8_close_60 f_X8_148 hA.1 rfl ?_
      refine ev_iload_n (pc := 63) dX8_close_63 rfl ?_
      refine ev_iaF (pc := 64) dX8_close_64 (hA.2 5 (by decide)) (by omega) (by decide) ((e1 5 (by decide) i).trans o1) ?_
      refine ev_callV (pc := 65) (As := [.int (nI (od i))]) dX8_close_65 cv_X8_151 rfl rfl hB.1 rfl ⟨by show 19 + 6 ≤ w; omega, show ev_Ca _ _ (w - 25) _ _ _ _ _ _ from k_perform (pl := od i) (kd := kd (od i)) (s := sh (od i)) (a := R0 2 (od i)) (b := R0 3 (od i)) (c := R0 4 (od i)) (by omega) (by omega) hG h hB hS hS2 hX1 hX2 hD hD2 hA (by omega) ((e1 0 (by decide) _).trans y1) ((e1 1 (by decide) _).trans y2) (e1 2 (by decide) _) (e1 3 (by decide) _) (e1 4 (by decide) _) y3 y4 ok.1 ok.2.2⟩ rfl rfl (fun r h1 hp => ?_)
      obtain ⟨rfl, P1, fu1, fd1, Pb1, fub1, fdb1, memb1, v1, h2, hS3, hS4, g1, g2, g3, K1⟩ := hp
      have pok := pf_ok (kd := kd (od i)) (s := sh (od i)) (a := R0 2 (od i)) (b := R0 3 (od i)) (c := R0 4 (od i)) ok y4
      have esq : sq R0 kd sh (od i) ((P, fu, fd, mem), val 9, val 10) = pf (kd (od i)) (sh (od i)) (R0 2 (od i)) (R0 3 (od i)) (R0 4 (od i)) P fu fd mem (val 9) (val 10) := rfl
      dsimp only at pok
      rw [← esq] at pok hS3 g1 g2 g3
      have hB2 := bq_kf K1 hB
      have hA2 := ag_kf K1 hA
      refine ev_iast (pc := 68) dX8_close_68 (hA2.2 6 (by decide)) (vp_in_nI (by omega) (by decide)) ?_
      obtain ⟨R1, p1, q1, hA3, F3⟩ := ag_put (k := 6) (j := i) (x := nI (sq R0 kd sh (od i) ((P, fu, fd, mem), val 9, val 10)).1) hA2 hAD (by decide) (by omega)
      have h4 := dw_af hA2 F3 h2
      have hB4 := bq_af hA2 F3 hB2
      have hS5 := sh_af hA2 F3 hS3
      have hS6 := sh_af hA2 F3 hS4
      have low : ∀ j, j < i → R 6 j = R1 6 j := fun j hj => (q1 6 j (by omega)).symm
      have e0 : dc (R1 6) i = dc (R 6) i := (dc_cg i low).symm
      have aqq : aq ((P1, fu1, fd1, (sq R0 kd sh (od i) ((P, fu, fd, mem), val 9, val 10)).2.1.2.2.2), v1 9, v1 10) (sq R0 kd sh (od i) ((P, fu, fd, mem), val 9, val 10)).2 := ⟨g1, rfl, by rw [g2, g3]⟩
      have next : ∀ d, d = dc (R1 6) (i + 1) → ∀ hh, DW hh (bp 4) lay v1 → BQ hh bp lay dn ba sd → SH hh (bp 1) sa P1 fu1 fd1 (sq R0 kd sh (od i) ((P, fu, fd, mem), val 9, val 10)).2.1.2.2.2 → SH hh (bp 2) sb Pb1 fub1 fdb1 memb1 → AG hh (bp 3) ga R1 0 wa → CF H0 hh → ev_J G (ev_cc G dd w) w m_X8_close K (84, ev_lf [(0, .ref (bp 0)), (1, .int (nI d)), (2, .int (nI i))], [], hh, c, z) := by
        intro d hdc hh u1 u2 u3 u4 u5 u6
        subst hdc
        refine ev_iincN (pc := 84) dX8_close_84 rfl rfl ?_
        refine ev_goto (pc := 87) (tgt := 36) dX8_close_87 (by decide) ?_
        refine ev_vs [(0, .ref (bp 0)), (1, .int (nI (dc (R1 6) (i + 1)))), (2, .int (nI (i + 1)))] ⟨rfl, rfl, rfl, trivial⟩ ?_
        exact l_close hd hw hG hX1 hX2 hD hD2 hAD hwa hE hod hK k (i + 1) hh R1 v1 P1 fu1 fd1 _ Pb1 fub1 fdb1 memb1 (by omega) u1 u2 u3 u4 u5 u6 (fun a ha b => (q1 a b (Or.inl ha)).trans (e1 a ha b)) ⟨_, run_cg i _ _ low e2, p1, aqq⟩ (q_ag aqq pok.1)
      refine ev_aload_n (pc := 69) dX8_close_69 rfl ?_
      refine ev_getf (pc := 70) dX8_close_70 f_X8_22 hB4.1 rfl ?_
      refine ev_getf (pc := 73) dX8_close_73 f_X8_144 hA3.1 rfl ?_
      refine ev_iload_n (pc := 76) dX8_close_76 rfl ?_
      refine ev_iaF (pc := 77) dX8_close_77 (hA3.2 6 (by decide)) (by omega) (by decide) p1 ?_
      have hCF := (hF.tr K1.cf).tr (AF.cf hA2 F3)
      have ol := pok.2
      refine ev_if_neN (pc := 78) (tgt := 84) dX8_close_78 (by decide) (by omega) (fun c2 => ?_) (fun c2 => ?_)
      · refine ev_vs [(0, .ref (bp 0)), (1, .int (nI (dc (R 6) i))), (2, .int (nI i))] ⟨rfl, rfl, rfl, trivial⟩ ?_
        refine next _ ?_ _ h4 hB4 hS5 hS6 hA3 hCF
        show _ = dc (R1 6) i + _
        rw [e0, p1, if_neg (fun q => absurd ((nI_eq (by omega) (show 0 < 2 ^ 31 by decide)).mp (q.trans nI_0.symm)) (by omega)), Nat.add_zero]
      · refine ev_iincN (pc := 81) dX8_close_81 rfl rfl ?_
        refine ev_vs [(0, .ref (bp 0)), (1, .int (nI (dc (R 6) i + 1))), (2, .int (nI i))] ⟨rfl, rfl, rfl, trivial⟩ ?_
        refine next _ ?_ _ h4 hB4 hS5 hS6 hA3 hCF
        show _ = dc (R1 6) i + _
        rw [e0, p1, c2, if_pos nI_0]
theorem lv_cf (hF : CF H h1) (h : LV H bp lv) : LV h1 bp lv := hF _ _ h ⟨⟨fun fs e => (by cases e), fun fs e => (by cases e), fun fs e => (by cases e), fun fs e => (by cases e), fun fs e => (by cases e)⟩, fun fs e => (by cases e), fun fs e => (by cases e)⟩
/-- nothing changed but numbers, shares, agenda, and the two cells of the bureau and its levels -/
def XF (bp : Nat → Nat) (H h1 : ev_H) : Prop := ∀ a x, H a = some x → cf x → a ≠ bp 0 → a ≠ bp 11 → h1 a = some x
theorem bq_put {n : Nat} (h : BQ H bp lay dn ba sd) : BQ (ev_up H (bp 0) (.inr (6, (bf bp dn ba sd).set 11 (.int (nI n))))) bp lay n ba sd := ⟨ev_eqq, fun i hi => ev_nee (ne_of (h.2 i hi) h.1 (fun q => by cases q)) (h.2 i hi)⟩
theorem dw_up {a : Nat} {x y : ev_C} (h : DW H D lay val) (ha : H a = some x) (n1 : ∀ fs, x ≠ .inr (5, fs)) (n2 : ∀ f, x ≠ .inl (.int, 72, .inl f)) (n3 : ∀ fs, x ≠ .inr (1, fs)) : DW (ev_up H a y) D lay val := by
  obtain ⟨b1, b2, b3⟩ := h
  have o := ws_out b2 ha n1 n2
  refine ⟨b1, fun k hk => ?_, ev_nee (ne_of b3 ha (fun q => n3 _ q.symm)) b3⟩
  obtain ⟨q, n, c1, c2, c3⟩ := b2 k hk
  exact ⟨q, n, ev_nee (Ne.symm (o k hk).1) c1, ev_nee (Ne.symm (o k hk).2) c2, c3⟩
theorem sh_up1 {a : Nat} {x y : ev_C} (h : SH H S sa P fu fd mem) (ha : H a = some x) (n1 : ∀ fs, x ≠ .inr (3, fs)) (n2 : ∀ f, x ≠ .inl (.int, 8, .inl f)) (n3 : ∀ f, x ≠ .inl (.long, 8, .inr (.inl f))) (n4 : ∀ f, x ≠ .inl (.array .int, 3, f)) : SH (ev_up H a y) S sa P fu fd mem := by
  obtain ⟨a1, a2, a3, a4, a5⟩ := h
  exact ⟨ev_nee (ne_of a1 ha (fun q => n1 _ q.symm)) a1, ev_nee (ne_of a2 ha (fun q => n4 _ q.symm)) a2, fun b hb => ev_nee (ne_of (a3 b hb) ha (fun q => n2 _ q.symm)) (a3 b hb), ev_nee (ne_of a4 ha (fun q => n3 _ q.symm)) a4, ev_nee (ne_of a5 ha (fun q => n3 _ q.symm)) a5⟩
theorem ag_up {a : Nat} {x y : ev_C} (h : AG H A ga R wa ar) (ha : H a = some x) (n1 : ∀ fs, x ≠ .inr (0, fs)) (n2 : ∀ f, x ≠ .inl (.int, 16, .inl f)) : AG (ev_up H a y) A ga R wa ar := ⟨ev_nee (ne_of h.1 ha (fun q => n1 _ q.symm)) h.1, fun k hk => ev_nee (ne_of (h.2 k hk) ha (fun q => n2 _ q.symm)) (h.2 k hk)⟩
theorem k_close (hd : 9 ≤ dd) (hw : 220 ≤ w) (hG : G_ok G) (h : DW H (bp 4) lay val) (hB : BQ H bp lay dn 1 sd) (hdn : dn < 250) (hS : SH H (bp 1) sa P fu fd mem) (hS2 : SH H (bp 2) sb Pb fub fdb memb) (hX1 : SX (bp 1) sa (bp 2) sb) (hX2 : SX (bp 2) sb (bp 1) sa) (hD : SD sa) (hD2 : SD sb) (hA : AG H (bp 3) ga R wa ar) (hAD : AD ga) (hwa : wa ≤ 16) (hE : ∀ j, j < wa → R 0 j = nI (kd j) ∧ R 1 j = nI (sh j) ∧ kd j < 9 ∧ sh j < 8) (hL : LV H bp lv) (ok : q_ok ((P, fu, fd, mem), val 9, val 10)) : ev_Ca G dd w m_X8_close [.ref (bp 0)] H 0 0 (ev_ok (fun r h1 => ∃ R1 od v1 P1 fu1 fd1 mem1 Pb1 fub1 fdb1 memb1, r = some (.int (nI (dc (R1 6) wa))) ∧ so kd sh wa od ∧ (∀ a, a ≠ 5 → a ≠ 6 → ∀ b, R1 a b = R a b) ∧ (∀ j, j < wa → R1 5 j = nI (od j)) ∧ run (sq R kd sh) od (R1 6) wa ((P, fu, fd, mem), val 9, val 10) ((P1, fu1, fd1, mem1), v1 9, v1 10) ∧ q_ok ((P1, fu1, fd1, mem1), v1 9, v1 10) ∧ DW h1 (bp 4) lay v1 ∧ BQ h1 bp lay (dn + 1) 1 sd ∧ SH h1 (bp 1) sa P1 fu1 fd1 mem1 ∧ SH h1 (bp 2) sb Pb1 fub1 fdb1 memb1 ∧ AG h1 (bp 3) ga R1 0 wa ∧ LV h1 bp (va_up lv dn (rl ((su P1 fu1 fd1 mem1 8).1 * v1 10) ((su P1 fu1 fd1 mem1 8).2 * v1 9))) ∧ XF bp H h1)) := by
  obtain ⟨dd, rfl⟩ : ∃ e, dd = e + 1 := ⟨dd - 1, by omega⟩
  refine ⟨by decide +kernel, rfl, ?_⟩
  refine ev_aload_n (pc := 0) dX8_close_0 rfl ?_
  refine ev_getf (pc := 1) dX8_close_1 f_X8_67 hB.1 rfl ?_
  refine ev_if_eqN (pc := 4) (tgt := 17) dX8_close_4 (by decide) (by decide) (fun q => absurd q (by decide)) (fun _ => ?_)
  refine ev_aload_n (pc := 7) dX8_close_7 rfl ?_
  refine ev_getf (pc := 8) dX8_close_8 f_X8_63 hB.1 rfl ?_
  refine ev_sipush (pc := 11) (v := nI 250) dX8_close_11 (by decide) ?_
  refine ev_icmp_ltN (pc := 14) (tgt := 25) dX8_close_14 (by decide) (by omega) (by omega) (fun c1 => ?_) (fun c1 => ?_)
  · refine ev_aload_n (pc := 25) dX8_close_25 rfl ?_
    refine ev_getf (pc := 26) dX8_close_26 f_X8_22 hB.1 rfl ?_
    refine ev_callV (pc := 29) (As := []) dX8_close_29 cv_X8_138 rfl rfl hA.1 rfl ⟨by show 19 + 3 ≤ w; omega, show ev_Ca _ _ (w - 22) _ _ _ _ _ _ from k_arrange (by omega) (by omega) hA hAD hwa hE⟩ rfl rfl (fun r h1 hp => ?_)
    obtain ⟨rfl, R1, od, g1, g2, g3, hA2, F2⟩ := hp
    refine ev_iconst (pc := 32) (v := nI 0) dX8_close_32 (by decide) ?_
    refine ev_istore_n (pc := 33) dX8_close_33 rfl ?_
    refine ev_iconst (pc := 34) (v := nI 0) dX8_close_34 (by decide) ?_
    refine ev_istore_n (pc := 35) dX8_close_35 rfl ?_
    refine ev_vs [(0, .ref (bp 0)), (1, .int (nI (dc (R1 6) 0))), (2, .int (nI 0))] ⟨rfl, rfl, rfl, trivial⟩ ?_
    have esq : sq R1 kd sh = sq R kd sh := by funext p q; unfold sq; rw [g1 2 (by decide), g1 3 (by decide), g1 4 (by decide)]
    refine l_close (od := od) (kd := kd) (sh := sh) (H0 := h1) (R0 := R1) (q0 := ((P, fu, fd, mem), val 9, val 10)) (by omega) hw hG hX1 hX2 hD hD2 hAD hwa (fun j hj => by rw [g1 0 (by decide), g1 1 (by decide)]; exact hE j hj) (fun j hj => ⟨g2 j hj, g3.1 j hj⟩) (fun H3 R3 v3 P3 fu3 fd3 mem3 Pb3 fub3 fdb3 memb3 h3 hB3 hS3 hT3 hA3 F3 u1 u2 u3 => ?_) wa 0 h1 R1 val P fu fd mem Pb fub fdb memb (by omega) (dw_af hA F2 h) (bq_af hA F2 hB) (sh_af hA F2 hS) (sh_af hA F2 hS2) hA2 CF.rf (fun _ _ _ => rfl) rfl ok
    rw [esq] at u2
    have hL3 := lv_cf F3 (lv_cf (AF.cf hA F2) hL)
    refine ev_aload_n (pc := 90) dX8_close_90 rfl ?_
    refine ev_getf (pc := 91) dX8_close_91 f_X8_59 hB3.1 rfl ?_
    refine ev_aload_n (pc := 94) dX8_close_94 rfl ?_
    refine ev_getf (pc := 95) dX8_close_95 f_X8_63 hB3.1 rfl ?_
    refine ev_aload_n (pc := 98) dX8_close_98 rfl ?_
    refine ev_callV (pc := 99) (As := []) dX8_close_99 cv_X8_155 rfl rfl hB3.1 rfl ⟨by show 19 + 1 ≤ w; omega, show ev_Ca _ _ (w - 20) _ _ _ _ _ _ from k_roundedLevel (by omega) (by omega) h3 hB3 hS3 u3.1.1 u3.1.2.1 u3.1.2.2.1 u3.2.2.2.2.1 u3.2.2.2.2.2.1⟩ rfl rfl (fun r h1 hp => ?_)
    obtain ⟨rfl, v4, h4, ev4, F4⟩ := hp
    have K4 := WF.kf h3.2.1 F4
    have hL4 := lv_cf K4.cf hL3
    have hB4 := bq_kf K4 hB3
    have hA4 := ag_kf K4 hA3
    have hS4 := sh_wf h3.2.1 F4 hS3
    have hT4 := sh_wf h3.2.1 F4 hT3
    refine ev_last (pc := 102) dX8_close_102 hL4 (vp_in_nI hdn (by decide)) ?_
    refine ev_th (by rw [sh_upl _ _ _ (by omega)]) ?_
    have h5 := dw_up (y := .inl (.long, 250, .inr (.inl (fun j => lN (va_up lv dn (rl ((su P3 fu3 fd3 mem3 8).1 * v3 10) ((su P3 fu3 fd3 mem3 8).2 * v3 9)) j))))) h4 hL4 (fun fs e => by cases e) (fun fs e => by cases e) (fun fs e => by cases e)
    have hS5 := sh_up1 (y := .inl (.long, 250, .inr (.inl (fun j => lN (va_up lv dn (rl ((su P3 fu3 fd3 mem3 8).1 * v3 10) ((su P3 fu3 fd3 mem3 8).2 * v3 9)) j))))) hS4 hL4 (fun fs e => by cases e) (fun fs e => by cases e) (fun fs e => by cases e) (fun fs e => by cases e)
    have hT5 := sh_up1 (y := .inl (.long, 250, .inr (.inl (fun j => lN (va_up lv dn (rl ((su P3 fu3 fd3 mem3 8).1 * v3 10) ((su P3 fu3 fd3 mem3 8).2 * v3 9)) j))))) hT4 hL4 (fun fs e => by cases e) (fun fs e => by cases e) (fun fs e => by cases e) (fun fs e => by cases e)
    have hA5 := ag_up (y := .inl (.long, 250, .inr (.inl (fun j => lN (va_up lv dn (rl ((su P3 fu3 fd3 mem3 8).1 * v3 10) ((su P3 fu3 fd3 mem3 8).2 * v3 9)) j))))) hA4 hL4 (fun fs e => by cases e) (fun fs e => by cases e)
    have hB5 : BQ (ev_up _ (bp 11) (.inl (.long, 250, .inr (.inl (fun j => lN (va_up lv dn (rl ((su P3 fu3 fd3 mem3 8).1 * v3 10) ((su P3 fu3 fd3 mem3 8).2 * v3 9)) j)))))) bp lay dn 1 sd := ⟨ev_nee (ne_of hB4.1 hL4 (fun q => by cases q)) hB4.1, fun i hi => ev_nee (ne_of (hB4.2 i hi) hL4 (fun q => by cases q)) (hB4.2 i hi)⟩
    refine ev_aload_n (pc := 103) dX8_close_103 rfl ?_
    refine ev_dup (pc := 104) dX8_close_104 rfl ?_
    refine ev_getf (pc := 105) dX8_close_105 f_X8_63 hB5.1 rfl ?_
    refine ev_iconst (pc := 108) (v := nI 1) dX8_close_108 (by decide) ?_
    refine ev_iaddN (pc := 109) dX8_close_109 ?_
    refine ev_putf (pc := 110) dX8_close_110 p_X8_63 hB5.1 rfl rfl rfl ?_
    refine ev_iload_n (pc := 113) dX8_close_113 rfl ?_
    refine ev_iret (pc := 114) dX8_close_114 rfl rfl ⟨R3, od, v4, P3, fu3, fd3, mem3, Pb3, fub3, fdb3, memb3, rfl, g3, fun a a5 a6 b => (u1 a a6 b).trans (g1 a a5 b), fun j hj => (u1 5 (by decide) j).trans (g2 j hj), ?_, ?_, ?_, bq_put hB5, ?_, ?_, ?_, ?_, ?_⟩
    · rw [ev4 9 (by omega) (by omega) (by omega), ev4 10 (by omega) (by omega) (by omega)]; exact u2
    · rw [ev4 9 (by omega) (by omega) (by omega), ev4 10 (by omega) (by omega) (by omega)]; exact u3
    · exact dw_up h5 hB5.1 (fun fs e => by cases e) (fun fs e => by cases e) (fun fs e => by cases e)
    · exact sh_up1 hS5 hB5.1 (fun fs e => by cases e) (fun fs e => by cases e) (fun fs e => by cases e) (fun fs e => by cases e)
    · exact sh_up1 hT5 hB5.1 (fun fs e => by cases e) (fun fs e => by cases e) (fun fs e => by cases e) (fun fs e => by cases e)
    · exact ag_up hA5 hB5.1 (fun fs e => by cases e) (fun fs e => by cases e)
    · rw [ev4 9 (by omega) (by omega) (by omega), ev4 10 (by omega) (by omega) (by omega)]
      exact ev_nee (ne_of hL4 hB4.1 (fun q => by cases q)) ev_eqq
    · intro a x ha hc n0 n11
      exact ev_nee n0 (ev_nee n11 ((((AF.cf hA F2).tr F3).tr K4.cf) a x ha hc))
  · omega
end CLS
