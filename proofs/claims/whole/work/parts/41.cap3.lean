/-! Shares: cap -/
def cpu (P : Nat → Nat → Nat) (lg up lf s : Nat) : Nat := if bt lg s = 1 then up / Nat.gcd up (lf * pw P s) else 1
def cpd (P : Nat → Nat → Nat) (lg up lf s : Nat) : Nat := if bt lg s = 1 then lf * pw P s / Nat.gcd up (lf * pw P s) else 1
/-- what a cap leaves: its outcome, and the factors -/
def cap_c (mem : Nat) (x : Int32) : Prop := (1 ≤ x.toInt ∧ x.toInt ≤ 100) ∧ 100 ≤ x.toInt.toNat * pc8 mem
noncomputable def cap_l (P : Nat → Nat → Nat) (mem : Nat) (x : Int32) : Nat := lgf P mem x.toInt.toNat 9 0
noncomputable def cap_u (P : Nat → Nat → Nat) (mem : Nat) (x : Int32) : Nat → Nat := cpu P (cap_l P mem x) (x.toInt.toNat * sw P (am mem (cap_l P mem x)) 8) (100 - x.toInt.toNat * pc8 (cap_l P mem x))
noncomputable def cap_d (P : Nat → Nat → Nat) (mem : Nat) (x : Int32) : Nat → Nat := cpd P (cap_l P mem x) (x.toInt.toNat * sw P (am mem (cap_l P mem x)) 8) (100 - x.toInt.toNat * pc8 (cap_l P mem x))
section CAP3
variable {G : ev_G} {w : Nat} {H : ev_H} {D S : Nat} {i j k dd s : Nat} {sa : Nat → Nat} {P : Nat → Nat → Nat} {fu fd : Nat → Nat} {mem : Nat}
/-- as shq, the factors known where they are -/
def chq (H : ev_H) (S : Nat) (sa : Nat → Nat) (o : Nat) (P : Nat → Nat → Nat) (fu fd : Nat → Nat) (mem : Nat) (r : Option Value) (h1 : ev_H) : Prop := r = some (.int (nI o)) ∧ ∃ fu2 fd2 : Nat → Nat, (∀ j, j < 8 → fu2 j = fu j ∧ fd2 j = fd j) ∧ SH h1 S sa P fu2 fd2 mem ∧ SF S sa H h1
theorem l_cap {K : ev_K} {c z a lg up lf : Nat} {H0 : ev_H} (hd : 3 ≤ dd) (hw : 60 ≤ w) (hP : P_ok P) (hD : SD sa) (hl : lg < 256) (hu0 : 0 < up) (hu1 : up < 2 ^ 63) (hf0 : 0 < lf) (hf1 : lf ≤ 100)
    (hK : ∀ h1 fu2 fd2, (∀ j, j < 8 → fu2 j = cpu P lg up lf j ∧ fd2 j = cpd P lg up lf j) → SH h1 S sa P fu2 fd2 mem → SF S sa H0 h1 → K (.inl (some (.int (nI 0)))) h1) :
    ∀ k s H fu fd, s + k = 8 → SH H S sa P fu fd mem → SF S sa H0 H → (∀ j, j < 8 → fu j = (if j < s then cpu P lg up lf j else 1) ∧ fd j = (if j < s then cpd P lg up lf j else 1)) → ev_J G (ev_cc G dd w) w m_X5_cap K (80, ev_lf [(0, .ref S), (1, .int (nI a)), (3, .int (nI lg)), (4, .long (lN up)), (6, .long (lN lf)), (8, .int (nI s))], [], H, c, z)
  | 0, s, H, fu, fd, e, h, hF, hf => by
    refine ev_iload (pc := 80) dX5_cap_80 rfl ?_
    refine ev_bipush (pc := 82) (v := nI 8) dX5_cap_82 (by decide) ?_
    refine ev_icmp_geN (pc := 84) (tgt := 120) dX5_cap_84 (by decide) (by omega) (by omega) (fun c1 => ?_) (fun c1 => ?_)
    · refine ev_iconst (pc := 120) (v := nI 0) dX5_cap_120 (by decide) ?_
      exact ev_iret (pc := 121) dX5_cap_121 rfl rfl (hK H fu fd (fun j hj => by have := hf j hj; rw [if_pos (by omega), if_pos (by omega)] at this; exact this) h hF)
    · omega
  | k + 1, s, H, fu, fd, e, h, hF, hf => by
    have hle : lg / 2 ^ s ≤ lg := Nat.div_le_self _ _
    have hpw := pw_b hP (show s < 8 by omega)
    have hQ : lf * pw P s ≤ 100 * 10000000000000000 := Nat.mul_le_mul hf1 (by omega)
    have hQ0 : 0 < lf * pw P s := Nat.mul_pos hf0 (by omega)
    refine ev_iload (pc := 80) dX5_cap_80 rfl ?_
    refine ev_bipush (pc := 82) (v := nI 8) dX5_cap_82 (by decide) ?_
    refine ev_icmp_geN (pc := 84) (tgt := 120) dX5_cap_84 (by decide) (by omega) (by omega) (fun c1 => ?_) (fun c1 => ?_)
    · omega
    · refine ev_iload_n (pc := 87) dX5_cap_87 rfl ?_
      refine ev_iload (pc := 88) dX5_cap_88 rfl ?_
      refine ev_ishr (pc := 90) dX5_cap_90 (ev_ti (mi_shr (by omega) (by omega)) ?_)
      refine ev_iconst (pc := 91) (v := nI 1) dX5_cap_91 (by decide) ?_
      refine ev_iand (pc := 92) dX5_cap_92 (ev_ti (mi_and1 (by omega)) ?_)
      refine ev_iconst (pc := 93) (v := nI 1) dX5_cap_93 (by decide) ?_
      refine ev_icmp_neN (pc := 94) (tgt := 114) dX5_cap_94 (by decide) (by omega) (by omega) (fun c2 => ?_) (fun c2 => ?_)
      · refine ev_iincN (pc := 114) dX5_cap_114 rfl rfl ?_
        refine ev_goto (pc := 117) (tgt := 80) dX5_cap_117 (by decide) ?_
        refine ev_vs [(0, .ref S), (1, .int (nI a)), (3, .int (nI lg)), (4, .long (lN up)), (6, .long (lN lf)), (8, .int (nI (s + 1)))] ⟨rfl, rfl, rfl, rfl, rfl, rfl, trivial⟩ ?_
        refine l_cap hd hw hP hD hl hu0 hu1 hf0 hf1 hK k (s + 1) H fu fd (by omega) h hF (fun j hj => ?_)
        have t := hf j hj
        by_cases q : j < s
        · rw [if_pos q, if_pos q] at t
          rw [if_pos (by omega), if_pos (by omega)]
          exact t
        · rw [if_neg q, if_neg q] at t
          by_cases q2 : j = s
          · subst q2
            rw [if_pos (by omega), if_pos (by omega)]
            unfold cpu cpd bt
            rw [if_neg c2, if_neg c2]
            exact t
          · rw [if_neg (by omega), if_neg (by omega)]
            exact t
      · refine ev_aload_n (pc := 97) dX5_cap_97 rfl ?_
        refine ev_iload (pc := 98) dX5_cap_98 rfl ?_
        refine ev_lload (pc := 100) dX5_cap_100 rfl ?_
        refine ev_lload (pc := 102) dX5_cap_102 rfl ?_
        refine ev_aload_n (pc := 104) dX5_cap_104 rfl ?_
        refine ev_iload (pc := 105) dX5_cap_105 rfl ?_
        refine ev_callV (pc := 107) (As := [.int (nI s)]) dX5_cap_107 cv_X5_106 rfl rfl h.1 rfl ⟨by show 19 + 2 ≤ w; omega, show ev_Ca _ _ (w - 21) _ _ _ _ _ _ from k_plainWorth (by omega) h hP (by omega)⟩ rfl rfl (fun r h1 hp => ?_)
        obtain ⟨rfl, hH⟩ := hp
        rw [hH]
        clear hH h1
        refine ev_lmulN (pc := 110) dX5_cap_110 ?_
        refine ev_callV (pc := 111) (As := [.int (nI s), .long (lN up), .long (lN (lf * pw P s))]) dX5_cap_111 cv_X5_109 rfl rfl h.1 rfl ⟨by show 19 + 8 ≤ w; omega, show ev_Ca _ _ (w - 27) _ _ _ _ _ _ from k_putFactor (by omega) (by omega) h hD (by omega) hu0 hu1 hQ0 (by omega)⟩ rfl rfl (fun r h1 hp => ?_)
        obtain ⟨rfl, h2, hF2⟩ := hp
        refine ev_iincN (pc := 114) dX5_cap_114 rfl rfl ?_
        refine ev_goto (pc := 117) (tgt := 80) dX5_cap_117 (by decide) ?_
        refine ev_vs [(0, .ref S), (1, .int (nI a)), (3, .int (nI lg)), (4, .long (lN up)), (6, .long (lN lf)), (8, .int (nI (s + 1)))] ⟨rfl, rfl, rfl, rfl, rfl, rfl, trivial⟩ ?_
        refine l_cap hd hw hP hD hl hu0 hu1 hf0 hf1 hK k (s + 1) _ _ _ (by omega) h2 (hF.tr hF2) (fun j hj => ?_)
        have t := hf j hj
        unfold va_up
        by_cases q2 : j = s
        · subst q2
          rw [if_pos rfl, if_pos rfl, if_pos (by omega), if_pos (by omega)]
          unfold cpu cpd bt
          rw [if_pos c2, if_pos c2]
          exact ⟨rfl, rfl⟩
        · rw [if_neg q2, if_neg q2]
          by_cases q : j < s
          · rw [if_pos q, if_pos q] at t
            rw [if_pos (by omega), if_pos (by omega)]
            exact t
          · rw [if_neg q, if_neg q] at t
            rw [if_neg (by omega), if_neg (by omega)]
            exact t
theorem pc8_0 {m a : Nat} (h : 100 ≤ a * pc8 m) : m ≠ 0 := fun e => by rw [e, show pc8 0 = 0 by decide, Nat.mul_zero] at h; omega
theorem lg0 (mem a : Nat) : lg_ok mem a 0 := ⟨by decide, fun s hs (hb : bt 0 s = 1) => (by unfold bt at hb; rw [Nat.zero_div] at hb; cases hb), by rw [show pc8 0 = 0 by decide, Nat.mul_zero]; decide⟩
theorem k_cap {x : Int32} (hd : 4 ≤ dd) (hw : 84 ≤ w) (h : SH H S sa P fu fd mem) (hP : P_ok P) (hD : SD sa) (hm : mem < 256) : ev_Ca G dd w m_X5_cap [.ref S, .int x] H 0 0 (ev_ok (fun r h1 => (cap_c mem x ∧ chq H S sa 0 P (cap_u P mem x) (cap_d P mem x) mem r h1) ∨ (¬ cap_c mem x ∧ chq H S sa 2 P fu fd mem r h1))) := by
  obtain ⟨dd, rfl⟩ : ∃ e, dd = e + 1 := ⟨dd - 1, by omega⟩
  refine ⟨by decide +kernel, rfl, ?_⟩
  have no : ∀ {L}, ¬ cap_c mem x → ev_J G (ev_cc G dd w) w m_X5_cap (ev_ok (fun r h1 => (cap_c mem x ∧ chq H S sa 0 P (cap_u P mem x) (cap_d P mem x) mem r h1) ∨ (¬ cap_c mem x ∧ chq H S sa 2 P fu fd mem r h1))) (35, L, [], H, 0, 0) := by
    intro L hn
    refine ev_iconst (pc := 35) (v := nI 2) dX5_cap_35 (by decide) ?_
    exact ev_iret (pc := 36) dX5_cap_36 rfl rfl (Or.inr ⟨hn, rfl, fu, fd, fun _ _ => ⟨rfl, rfl⟩, h, SF.rf⟩)
  have i1 := i32_le (x := x) (n := 1) (by decide)
  have i100 := i32_le (x := x) (n := 100) (by decide)
  have hpm := pc8_b mem hm
  refine ev_iload_n (pc := 0) dX5_cap_0 rfl ?_
  refine ev_iconst (pc := 1) (v := nI 1) dX5_cap_1 (by decide) ?_
  refine ev_icmp_lt (pc := 2) (tgt := 15) dX5_cap_2 (by decide) (fun c1 => ?_) (fun c1 => ?_)
  · have n1 := i1.2.1.mp c1
    refine ev_iconst (pc := 15) (v := nI 0) dX5_cap_15 (by decide) ?_
    refine ev_istore_n (pc := 16) dX5_cap_16 rfl ?_
    refine ev_iload_n (pc := 17) dX5_cap_17 rfl ?_
    refine ev_if_eqN (pc := 18) (tgt := 35) dX5_cap_18 (by decide) (by decide) (fun _ => ?_) (fun q => absurd q (by decide))
    exact no (fun q => by have := q.1; omega)
  · have n1 : 1 ≤ x.toInt := Int.not_lt.mp (fun q => c1 (i1.2.1.mpr q))
    refine ev_iload_n (pc := 5) dX5_cap_5 rfl ?_
    refine ev_bipush (pc := 6) (v := nI 100) dX5_cap_6 (by decide) ?_
    refine ev_icmp_gt (pc := 8) (tgt := 15) dX5_cap_8 (by decide) (fun c2 => ?_) (fun c2 => ?_)
    · have n2 := i100.2.2.1.mp c2
      refine ev_iconst (pc := 15) (v := nI 0) dX5_cap_15 (by decide) ?_
      refine ev_istore_n (pc := 16) dX5_cap_16 rfl ?_
      refine ev_iload_n (pc := 17) dX5_cap_17 rfl ?_
      refine ev_if_eqN (pc := 18) (tgt := 35) dX5_cap_18 (by decide) (by decide) (fun _ => ?_) (fun q => absurd q (by decide))
      exact no (fun q => by have := q.1; omega)
    · have n2 : x.toInt ≤ 100 := Int.not_lt.mp (fun q => c2 (i100.2.2.1.mpr q))
      obtain ⟨a, rfl, ha1, ha2⟩ := ri_nI (x := x) (lo := 1) (hi := 100) ⟨n1, n2⟩ (by decide)
      have eN : (nI a).toInt.toNat = a := nI_tn (by omega)
      refine ev_iconst (pc := 11) (v := nI 1) dX5_cap_11 (by decide) ?_
      refine ev_goto (pc := 12) (tgt := 16) dX5_cap_12 (by decide) ?_
      refine ev_istore_n (pc := 16) dX5_cap_16 rfl ?_
      refine ev_iload_n (pc := 17) dX5_cap_17 rfl ?_
      refine ev_if_eqN (pc := 18) (tgt := 35) dX5_cap_18 (by decide) (by decide) (fun q => absurd q (by decide)) (fun _ => ?_)
      have ham : a * pc8 mem ≤ 100 * 8 := Nat.mul_le_mul ha2 hpm
      refine ev_iload_n (pc := 21) dX5_cap_21 rfl ?_
      refine ev_aload_n (pc := 22) dX5_cap_22 rfl ?_
      refine ev_getf (pc := 23) dX5_cap_23 f_X5_30 h.1 rfl ?_
      refine ev_callS (pc := 26) (As := [.int (nI mem)]) dX5_cap_26 cs_X5_92 rfl rfl ⟨by show 19 + 1 ≤ w; omega, show ev_Ca _ _ (w - 20) _ _ _ _ _ _ from k_bitCount (by omega) hm⟩ rfl rfl (fun r h1 hp => ?_)
      obtain ⟨rfl, hH⟩ := hp
      rw [hH]
      clear hH h1
      refine ev_imulN (pc := 29) dX5_cap_29 ?_
      refine ev_bipush (pc := 30) (v := nI 100) dX5_cap_30 (by decide) ?_
      refine ev_icmp_geN (pc := 32) (tgt := 37) dX5_cap_32 (by decide) (by omega) (by omega) (fun c3 => ?_) (fun c3 => ?_)
      · have cc : cap_c mem (nI a) := ⟨⟨n1, n2⟩, by rw [eN]; exact c3⟩
        have ok := lgf_ok hP 9 0 (lg0 mem a)
        have eL : cap_l P mem (nI a) = lgf P mem a 9 0 := by unfold cap_l; rw [eN]
        have eU : cap_u P mem (nI a) = cpu P (lgf P mem a 9 0) (a * sw P (am mem (lgf P mem a 9 0)) 8) (100 - a * pc8 (lgf P mem a 9 0)) := by unfold cap_u; rw [eL, eN]
        have eD : cap_d P mem (nI a) = cpd P (lgf P mem a 9 0) (a * sw P (am mem (lgf P mem a 9 0)) 8) (100 - a * pc8 (lgf P mem a 9 0)) := by unfold cap_d; rw [eL, eN]
        have hsw := sw_b hP (am mem (lgf P mem a 9 0)) 8 (Nat.le_refl 8)
        have hsp := sw_pos hP ok hm c3
        have hT : a * sw P (am mem (lgf P mem a 9 0)) 8 ≤ 100 * 80000000000000000 := Nat.mul_le_mul ha2 (by omega)
        have hT0 : 0 < a * sw P (am mem (lgf P mem a 9 0)) 8 := Nat.mul_pos (by omega) hsp
        have hlp := pc8_b _ ok.1
        have hl3 := ok.2.2
        refine ev_aload_n (pc := 37) dX5_cap_37 rfl ?_
        refine ev_iload_n (pc := 38) dX5_cap_38 rfl ?_
        refine ev_callV (pc := 39) (As := [.int (nI a)]) dX5_cap_39 cv_X5_97 rfl rfl h.1 rfl ⟨by show 19 + 11 ≤ w; omega, show ev_Ca _ _ (w - 30) _ _ _ _ _ _ from k_findLarge (by omega) (by omega) h hP hm ha2 (pc8_0 c3)⟩ rfl rfl (fun r h1 hp => ?_)
        obtain ⟨rfl, hH⟩ := hp
        rw [hH]
        clear hH h1
        refine ev_istore_n (pc := 42) dX5_cap_42 rfl ?_
        refine ev_iload_n (pc := 43) dX5_cap_43 rfl ?_
        refine ev_i2lN (pc := 44) dX5_cap_44 (by omega) ?_
        refine ev_aload_n (pc := 45) dX5_cap_45 rfl ?_
        refine ev_aload_n (pc := 46) dX5_cap_46 rfl ?_
        refine ev_getf (pc := 47) dX5_cap_47 f_X5_30 h.1 rfl ?_
        refine ev_iload_n (pc := 50) dX5_cap_50 rfl ?_
        refine ev_iconst (pc := 51) (v := -1) dX5_cap_51 (by decide) ?_
        refine ev_ixor (pc := 52) dX5_cap_52 ?_
        refine ev_iand (pc := 53) dX5_cap_53 ?_
        refine ev_ti (i_am hm) ?_
        refine ev_callV (pc := 54) (As := [.int (nI (am mem (lgf P mem a 9 0)))]) dX5_cap_54 cv_X5_100 rfl rfl h.1 rfl ⟨by show 19 + 5 ≤ w; omega, show ev_Ca _ _ (w - 24) _ _ _ _ _ _ from k_plainWorthOf (by omega) (by omega) h hP (am_lt hm)⟩ rfl rfl (fun r h1 hp => ?_)
        obtain ⟨rfl, hH⟩ := hp
        rw [hH]
        clear hH h1
        refine ev_lmulN (pc := 57) dX5_cap_57 ?_
        refine ev_lstore (pc := 58) dX5_cap_58 rfl ?_
        refine ev_ldc2 (pc := 60) dX5_cap_60 k_X5_104 ?_
        refine ev_iload_n (pc := 63) dX5_cap_63 rfl ?_
        refine ev_iload_n (pc := 64) dX5_cap_64 rfl ?_
        refine ev_callS (pc := 65) (As := [.int (nI (lgf P mem a 9 0))]) dX5_cap_65 cs_X5_92 rfl rfl ⟨by show 19 + 1 ≤ w; omega, show ev_Ca _ _ (w - 20) _ _ _ _ _ _ from k_bitCount (by omega) ok.1⟩ rfl rfl (fun r h1 hp => ?_)
        obtain ⟨rfl, hH⟩ := hp
        rw [hH]
        clear hH h1
        refine ev_imulN (pc := 68) dX5_cap_68 ?_
        refine ev_i2lN (pc := 69) dX5_cap_69 (by omega) ?_
        refine ev_lsubN (pc := 70) dX5_cap_70 (by omega) ?_
        refine ev_lstore (pc := 71) dX5_cap_71 rfl ?_
        refine ev_aload_n (pc := 73) dX5_cap_73 rfl ?_
        refine ev_callV (pc := 74) (As := []) dX5_cap_74 cv_X5_27 rfl rfl h.1 rfl ⟨by show 19 + 1 ≤ w; omega, show ev_Ca _ _ (w - 20) _ _ _ _ _ _ from k_resetFactors (by omega) (by omega) h hD⟩ rfl rfl (fun r h1 hp => ?_)
        obtain ⟨rfl, fu2, fd2, g1, g2, h2, hF2⟩ := hp
        refine ev_iconst (pc := 77) (v := nI 0) dX5_cap_77 (by decide) ?_
        refine ev_istore (pc := 78) dX5_cap_78 rfl ?_
        refine ev_vs [(0, .ref S), (1, .int (nI a)), (3, .int (nI (lgf P mem a 9 0))), (4, .long (lN (a * sw P (am mem (lgf P mem a 9 0)) 8))), (6, .long (lN (100 - a * pc8 (lgf P mem a 9 0)))), (8, .int (nI 0))] ⟨rfl, rfl, rfl, rfl, rfl, rfl, trivial⟩ ?_
        refine l_cap (H0 := H) (mem := mem) (by omega) (by omega) hP hD ok.1 hT0 (by omega) (by omega) (by omega) (fun h1 fu2 fd2 e1 e2 e3 => Or.inl ⟨cc, rfl, fu2, fd2, by rw [eU, eD]; exact e1, e2, e3⟩) 8 0 _ fu2 fd2 (by omega) h2 hF2 (fun j hj => ⟨by rw [if_neg (Nat.not_lt_zero j)]; exact g1 j hj, by rw [if_neg (Nat.not_lt_zero j)]; exact g2 j hj⟩)
      · exact no (fun q => by have := q.2; rw [eN] at this; omega)
end CAP3
