/-! Whole: guessDigit, and what its guess is good for -/
def mb_g1 (top sec u0 : Nat) (p : Nat × Nat) : Nat × Nat := if p.2 < 1073741824 then (if 1073741824 ≤ p.1 ∨ p.2 * 1073741824 + u0 < p.1 * sec then (p.1 - 1, p.2 + top) else p) else p
def mb_it (top sec u0 : Nat) : Nat → Nat × Nat → Nat × Nat
  | 0, p => p
  | k + 1, p => mb_it top sec u0 k (mb_g1 top sec u0 p)
theorem mb_it_big {top sec u0 : Nat} {p : Nat × Nat} (h : 1073741824 ≤ p.2) : ∀ k, mb_it top sec u0 k p = p
  | 0 => rfl
  | k + 1 => by
    show mb_it top sec u0 k (mb_g1 top sec u0 p) = p
    have e : mb_g1 top sec u0 p = p := by unfold mb_g1; rw [if_neg (by omega)]
    rw [e]
    exact mb_it_big h k
/-- the guess is right or one too much -/
theorem mb_guess {top sec u2 u1 u0 : Nat} {X b R q : Nat} (hX : 0 < X) (ht : 536870912 ≤ top) (ht2 : top < 1073741824) (hs : sec < 1073741824) (h1 : u1 < 1073741824) (h0 : u0 < 1073741824)
    (hb1 : (top * 1073741824 + sec) * X ≤ b) (hb2 : b < (top * 1073741824 + sec + 1) * X)
    (hR1 : ((u2 * 1073741824 + u1) * 1073741824 + u0) * X ≤ R) (hR2 : R < ((u2 * 1073741824 + u1) * 1073741824 + u0 + 1) * X) (hq : q = R / b) (hqB : q < 1073741824) :
    q ≤ (mb_it top sec u0 2 ((u2 * 1073741824 + u1) / top, (u2 * 1073741824 + u1) % top)).1 ∧ (mb_it top sec u0 2 ((u2 * 1073741824 + u1) / top, (u2 * 1073741824 + u1) % top)).1 ≤ q + 1 ∧ (mb_it top sec u0 2 ((u2 * 1073741824 + u1) / top, (u2 * 1073741824 + u1) % top)).1 < 1073741824 := by
  obtain ⟨V, hV⟩ : ∃ V, V = top * 1073741824 + sec := ⟨_, rfl⟩
  obtain ⟨two, htwo⟩ : ∃ t, t = u2 * 1073741824 + u1 := ⟨_, rfl⟩
  rw [← hV] at hb1 hb2
  rw [← htwo] at hR1 hR2 ⊢
  have hb0 : 0 < b := Nat.lt_of_lt_of_le (Nat.mul_pos (by omega) hX) hb1
  have hqR : q * b ≤ R := by rw [hq]; exact Nat.div_mul_le_self R b
  have hqR2 : R < (q + 1) * b := by rw [hq, Nat.add_mul, Nat.one_mul, Nat.mul_comm]; exact Nat.lt_mul_div_succ R hb0
  -- q times V is at most the three digits
  have hqV : q * V ≤ two * 1073741824 + u0 := by
    have h2 : q * V * X < (two * 1073741824 + u0 + 1) * X := Nat.lt_of_le_of_lt (by rw [Nat.mul_assoc]; exact Nat.le_trans (Nat.mul_le_mul_left q hb1) hqR) hR2
    have := Nat.lt_of_mul_lt_mul_right h2
    omega
  -- what is not too much for V is at most q + 1
  have hup : ∀ g, g ≤ 1073741825 → g * V ≤ two * 1073741824 + u0 → g ≤ q + 1 := by
    intro g hg hgV
    rcases Nat.lt_or_ge (q + 1) g with hlt | hge
    · exfalso
      have h2 : (q + 1) * b ≤ (g - 1) * b := Nat.mul_le_mul_right b (by omega)
      have h3 : (g - 1) * b ≤ (g - 1) * ((V + 1) * X) := Nat.mul_le_mul_left _ (Nat.le_of_lt hb2)
      have h4 : (g - 1) * (V + 1) ≤ two * 1073741824 + u0 := by
        have h5 : (g - 1) * (V + 1) + (V + 1) = g * V + g := by
          obtain ⟨k, rfl⟩ : ∃ k, g = k + 1 := ⟨g - 1, by omega⟩
          simp only [Nat.add_sub_cancel]
          rw [Nat.mul_add, Nat.add_mul]
          omega
        omega
      have h6 : (g - 1) * (V + 1) * X ≤ (two * 1073741824 + u0) * X := Nat.mul_le_mul_right X h4
      rw [← Nat.mul_assoc] at h3
      omega
    · exact hge
  have hdm := Nat.div_add_mod two top
  have hml := Nat.mod_lt two (show 0 < top by omega)
  obtain ⟨g0, hg0⟩ : ∃ g, g = two / top := ⟨_, rfl⟩
  obtain ⟨r0, hr0⟩ : ∃ r, r = two % top := ⟨_, rfl⟩
  rw [← hg0, ← hr0] at hdm ⊢
  rw [← hr0] at hml
  -- the first guess is not too small
  have hq0 : q ≤ g0 := by
    have h2 : q * top * 1073741824 ≤ q * V := by rw [hV, Nat.mul_add, ← Nat.mul_assoc]; omega
    have h3 : q * top ≤ two := by omega
    rw [hg0]
    exact (Nat.le_div_iff_mul_le (by omega)).mpr h3
  -- and at most B + 1
  have hg1 : g0 ≤ 1073741825 := by
    rcases Nat.lt_or_ge 1073741825 g0 with hlt | hge
    · exfalso
      -- two < (q + 1) * b / X * .. : the top digits are below V * B
      have h2 : 1073741826 * top ≤ g0 * top := Nat.mul_le_mul_right top hlt
      rw [Nat.mul_comm g0 top] at h2
      have h3 : two * 1073741824 + u0 < 1073741824 * (V + 1) := by
        have h4 : (two * 1073741824 + u0) * X < 1073741824 * ((V + 1) * X) := by
          have h5 : (q + 1) * b ≤ 1073741824 * b := Nat.mul_le_mul_right b (by omega)
          have h6 : 1073741824 * b ≤ 1073741824 * ((V + 1) * X) := Nat.mul_le_mul_left _ (Nat.le_of_lt hb2)
          omega
        rw [← Nat.mul_assoc] at h4
        exact Nat.lt_of_mul_lt_mul_right h4
      omega
    · exact hge
  -- the test compares with the three digits
  have htest : ∀ g r, g * top + r = two → (r * 1073741824 + u0 < g * sec ↔ two * 1073741824 + u0 < g * V) := by
    intro g r e
    have h2 : g * V = g * top * 1073741824 + g * sec := by rw [hV, Nat.mul_add, ← Nat.mul_assoc]
    omega
  have hlow : ∀ g, q ≤ g → (1073741824 ≤ g ∨ two * 1073741824 + u0 < g * V) → q ≤ g - 1 := by
    intro g h2 h3
    rcases h3 with h3 | h3
    · omega
    · rcases Nat.eq_or_lt_of_le h2 with e | e
      · subst e; omega
      · omega
  have hsec : ∀ g, g ≤ 1073741824 → g * sec ≤ 1073741824 * 1073741823 := fun g hg => Nat.mul_le_mul hg (by omega)
  have e0 : g0 * top + r0 = two := by rw [Nat.mul_comm]; exact hdm
  show q ≤ (mb_g1 top sec u0 (mb_g1 top sec u0 (g0, r0))).1 ∧ _
  show q ≤ (mb_g1 top sec u0 (mb_g1 top sec u0 (g0, r0))).1 ∧ (mb_g1 top sec u0 (mb_g1 top sec u0 (g0, r0))).1 ≤ q + 1 ∧ (mb_g1 top sec u0 (mb_g1 top sec u0 (g0, r0))).1 < 1073741824
  by_cases t0 : 1073741824 ≤ g0 ∨ r0 * 1073741824 + u0 < g0 * sec
  · -- a first step down
    have E1 : mb_g1 top sec u0 (g0, r0) = (g0 - 1, r0 + top) := by unfold mb_g1; rw [if_pos (by show r0 < _; omega), if_pos t0]
    rw [E1]
    have hg0p : 0 < g0 := by
      rcases t0 with h2 | h2
      · omega
      · rcases Nat.eq_zero_or_pos g0 with e | e
        · rw [e, Nat.zero_mul] at h2; omega
        · exact e
    have e1 : (g0 - 1) * top + (r0 + top) = two := by
      have : (g0 - 1) * top + top = g0 * top := by
        obtain ⟨k, rfl⟩ : ∃ k, g0 = k + 1 := ⟨g0 - 1, by omega⟩
        simp only [Nat.add_sub_cancel, Nat.add_mul, Nat.one_mul]
      omega
    have l1 : q ≤ g0 - 1 := hlow g0 hq0 (t0.imp id (fun h2 => (htest g0 r0 e0).mp h2))
    by_cases s1 : r0 + top < 1073741824
    · by_cases t1 : 1073741824 ≤ g0 - 1 ∨ (r0 + top) * 1073741824 + u0 < (g0 - 1) * sec
      · have E2 : mb_g1 top sec u0 (g0 - 1, r0 + top) = (g0 - 1 - 1, r0 + top + top) := by unfold mb_g1; rw [if_pos s1, if_pos t1]
        rw [E2]
        have l2 : q ≤ g0 - 1 - 1 := hlow (g0 - 1) l1 (t1.imp id (fun h2 => (htest (g0 - 1) (r0 + top) e1).mp h2))
        refine ⟨l2, hup _ (by omega) ?_, by show g0 - 1 - 1 < _; omega⟩
        -- two down is never too much
        have h2 : 0 < g0 - 1 := by
          rcases t1 with h3 | h3
          · omega
          · rcases Nat.eq_zero_or_pos (g0 - 1) with e | e
            · rw [e, Nat.zero_mul] at h3; omega
            · exact e
        have h3 : (g0 - 1 - 1) * top + (r0 + top + top) = two := by
          have : (g0 - 1 - 1) * top + top = (g0 - 1) * top := by
            obtain ⟨k, hk⟩ : ∃ k, g0 - 1 = k + 1 := ⟨g0 - 2, by omega⟩
            rw [hk]
            simp only [Nat.add_sub_cancel, Nat.add_mul, Nat.one_mul]
          omega
        have h4 := hsec (g0 - 1 - 1) (by omega)
        have h5 : (g0 - 1 - 1) * V = (g0 - 1 - 1) * top * 1073741824 + (g0 - 1 - 1) * sec := by rw [hV, Nat.mul_add, ← Nat.mul_assoc]
        show (g0 - 1 - 1) * V ≤ _
        omega
      · have E2 : mb_g1 top sec u0 (g0 - 1, r0 + top) = (g0 - 1, r0 + top) := by unfold mb_g1; rw [if_pos s1, if_neg t1]
        rw [E2]
        refine ⟨l1, hup _ (by omega) ?_, by show g0 - 1 < _; omega⟩
        have := htest (g0 - 1) (r0 + top) e1
        show (g0 - 1) * V ≤ _
        omega
    · have E2 : mb_g1 top sec u0 (g0 - 1, r0 + top) = (g0 - 1, r0 + top) := by unfold mb_g1; rw [if_neg s1]
      rw [E2]
      have h4 := hsec (g0 - 1) (by omega)
      have h5 := htest (g0 - 1) (r0 + top) e1
      have h6 : (g0 - 1) * V ≤ two * 1073741824 + u0 := by omega
      refine ⟨l1, hup _ (by omega) h6, ?_⟩
      show g0 - 1 < 1073741824
      -- B times V would be too much
      rcases Nat.lt_or_ge (g0 - 1) 1073741824 with h7 | h7
      · exact h7
      · exfalso
        have h8 := hup (g0 - 1) (by omega) h6
        have h9 : g0 - 1 = 1073741824 := by omega
        -- then r0 + top is the rest of B * top, and below B
        rw [h9] at e1
        have h10 : 1073741825 * V ≤ 1073741824 * (V + 1) + u0 ∨ True := Or.inr trivial
        have h3 : two * 1073741824 + u0 < 1073741824 * (V + 1) := by
          have h4 : (two * 1073741824 + u0) * X < 1073741824 * ((V + 1) * X) := by
            have h5 : (q + 1) * b ≤ 1073741824 * b := Nat.mul_le_mul_right b (by omega)
            have h6 : 1073741824 * b ≤ 1073741824 * ((V + 1) * X) := Nat.mul_le_mul_left _ (Nat.le_of_lt hb2)
            omega
          rw [← Nat.mul_assoc] at h4
          exact Nat.lt_of_mul_lt_mul_right h4
        omega
  · have E1 : mb_g1 top sec u0 (g0, r0) = (g0, r0) := by unfold mb_g1; rw [if_pos (by show r0 < _; omega), if_neg t0]
    rw [E1, E1]
    have := htest g0 r0 e0
    exact ⟨hq0, hup _ (by omega) (by show g0 * V ≤ _; omega), by show g0 < _; omega⟩
section WH6
variable {G : ev_G} {C : ev_L} {w : Nat} {K : ev_K} {h : ev_H} {q d n c z q2 d2 n2 : Nat} {g g2 : Nat → Nat}
theorem k_digitAtH {H : ev_H} {dd i : Nat} (hd : 1 ≤ dd) (h1 : H q = some (.inr (5, [.ref d, .int (nI n)]))) (h2 : H d = some (.inl (.int, 72, .inl (fun j => nI (g j))))) (hi : i < 2 ^ 31) : ev_Ca G dd w m_X7_digitAt [.ref q, .int (nI i)] H 0 0 (ev_ok (fun r h1 => r = some (.int (nI (if i < 72 then g i else 0))) ∧ h1 = H)) := by
  have hqd : q ≠ d := fun e => by rw [e, h2] at h1; cases h1
  have := k_digitAt (G := G) (w := w) (h := H) (n := n) (g := g) hd hqd hi
  rw [wh_id h1 h2] at this
  exact this
theorem l_guess {dd : Nat} (hd : 1 ≤ dd) (hw : 21 ≤ w) (hqd : q ≠ d) {i top sec : Nat} (hi2 : 2 ≤ i) (hi : i ≤ 71) (ht2 : top < 1073741824) (hs : sec < 1073741824) (hg : ∀ j, g j < 1073741824) :
    ∀ k more gs r, more + k = 2 → gs ≤ 4294967296 → r < 4294967296 → K (.inl (some (.int (nI (mb_it top sec (g (i - 2)) k (gs, r)).1)))) (wh_p h q d n g) → ev_J G (ev_cc G dd w) w m_X7_guessDigit K (76, ev_lf [(0, .ref q), (3, .int (nI top)), (4, .int (nI sec)), (5, .int (nI i)), (8, .long (lN gs)), (10, .long (lN r)), (12, .int (nI more))], [], wh_p h q d n g, c, z)
  | 0, more, gs, r, e, hgs, hr, hK => by
    refine ev_iload (pc := 76) dX7_guessDigit_76 rfl ?_
    refine ev_iconst (pc := 78) (v := nI 2) dX7_guessDigit_78 (by decide) ?_
    refine ev_icmp_geN (pc := 79) (tgt := 144) dX7_guessDigit_79 (by decide) (by omega) (by omega) (fun c1 => ?_) (fun c1 => ?_)
    · refine ev_lload (pc := 144) dX7_guessDigit_144 rfl ?_
      refine ev_l2iN (pc := 146) dX7_guessDigit_146 ?_
      exact ev_iret (pc := 147) dX7_guessDigit_147 rfl rfl hK
    · omega
  | k + 1, more, gs, r, e, hgs, hr, hK => by
    have h0 := hg (i - 2)
    have h1 : gs * sec ≤ 4294967296 * 1073741823 := Nat.mul_le_mul hgs (by omega)
    refine ev_iload (pc := 76) dX7_guessDigit_76 rfl ?_
    refine ev_iconst (pc := 78) (v := nI 2) dX7_guessDigit_78 (by decide) ?_
    refine ev_icmp_geN (pc := 79) (tgt := 144) dX7_guessDigit_79 (by decide) (by omega) (by omega) (fun c1 => ?_) (fun c1 => ?_)
    · omega
    · refine ev_lload (pc := 82) dX7_guessDigit_82 rfl ?_
      refine ev_ldc2 (pc := 84) dX7_guessDigit_84 k_X7_16 ?_
      refine ev_lc_gt (pc := 87) (tgt := 144) dX7_guessDigit_87 dX7_guessDigit_88 (by decide) (by omega) (by omega) (fun c2 => ?_) (fun c2 => ?_)
      · rw [mb_it_big (by show _ ≤ r; omega)] at hK
        refine ev_lload (pc := 144) dX7_guessDigit_144 rfl ?_
        refine ev_l2iN (pc := 146) dX7_guessDigit_146 ?_
        exact ev_iret (pc := 147) dX7_guessDigit_147 rfl rfl hK
      · have down : (1073741824 ≤ gs ∨ r * 1073741824 + g (i - 2) < gs * sec) → ev_J G (ev_cc G dd w) w m_X7_guessDigit K (125, ev_lf [(0, .ref q), (3, .int (nI top)), (4, .int (nI sec)), (5, .int (nI i)), (8, .long (lN gs)), (10, .long (lN r)), (12, .int (nI more))], [], wh_p h q d n g, c, z) := by
          intro ht
          have hp : 0 < gs := by
            rcases ht with h2 | h2
            · omega
            · rcases Nat.eq_zero_or_pos gs with e | e
              · rw [e, Nat.zero_mul] at h2; omega
              · exact e
          have E : mb_g1 top sec (g (i - 2)) (gs, r) = (gs - 1, r + top) := by unfold mb_g1; rw [if_pos (by show r < _; omega), if_pos ht]
          refine ev_lload (pc := 125) dX7_guessDigit_125 rfl ?_
          refine ev_lconst (pc := 127) (v := lN 1) dX7_guessDigit_127 (by decide) ?_
          refine ev_lsubN (pc := 128) dX7_guessDigit_128 (by omega) ?_
          refine ev_lstore (pc := 129) dX7_guessDigit_129 rfl ?_
          refine ev_lload (pc := 131) dX7_guessDigit_131 rfl ?_
          refine ev_iload_n (pc := 133) dX7_guessDigit_133 rfl ?_
          refine ev_i2lN (pc := 134) dX7_guessDigit_134 (by omega) ?_
          refine ev_laddN (pc := 135) dX7_guessDigit_135 ?_
          refine ev_lstore (pc := 136) dX7_guessDigit_136 rfl ?_
          refine ev_iincN (pc := 138) dX7_guessDigit_138 rfl rfl ?_
          refine ev_goto (pc := 141) (tgt := 76) dX7_guessDigit_141 (by decide) ?_
          refine ev_vs [(0, .ref q), (3, .int (nI top)), (4, .int (nI sec)), (5, .int (nI i)), (8, .long (lN (gs - 1))), (10, .long (lN (r + top))), (12, .int (nI (more + 1)))] ⟨rfl, rfl, rfl, rfl, rfl, rfl, rfl, trivial⟩ ?_
          refine l_guess hd hw hqd hi2 hi ht2 hs hg k (more + 1) (gs - 1) (r + top) (by omega) (by omega) (by omega) ?_
          rw [← E]
          exact hK
        refine ev_lload (pc := 91) dX7_guessDigit_91 rfl ?_
        refine ev_ldc2 (pc := 93) dX7_guessDigit_93 k_X7_16 ?_
        refine ev_lc_gt (pc := 96) (tgt := 125) dX7_guessDigit_96 dX7_guessDigit_97 (by decide) (by omega) (by omega) (fun c3 => ?_) (fun c3 => ?_)
        · refine ev_vs [(0, .ref q), (3, .int (nI top)), (4, .int (nI sec)), (5, .int (nI i)), (8, .long (lN gs)), (10, .long (lN r)), (12, .int (nI more))] ⟨rfl, rfl, rfl, rfl, rfl, rfl, rfl, trivial⟩ ?_
          exact down (Or.inl (by omega))
        · refine ev_lload (pc := 100) dX7_guessDigit_100 rfl ?_
          refine ev_iload (pc := 102) dX7_guessDigit_102 rfl ?_
          refine ev_i2lN (pc := 104) dX7_guessDigit_104 (by omega) ?_
          refine ev_lmulN (pc := 105) dX7_guessDigit_105 ?_
          refine ev_lload (pc := 106) dX7_guessDigit_106 rfl ?_
          refine ev_bipush (pc := 108) (v := nI 30) dX7_guessDigit_108 (by decide) ?_
          refine ev_lshlN (pc := 110) dX7_guessDigit_110 ?_
          refine ev_aload_n (pc := 111) dX7_guessDigit_111 rfl ?_
          refine ev_iload (pc := 112) dX7_guessDigit_112 rfl ?_
          refine ev_iconst (pc := 114) (v := nI 2) dX7_guessDigit_114 (by decide) ?_
          refine ev_isubN (pc := 115) dX7_guessDigit_115 (by omega) ?_
          refine ev_callV (pc := 116) (As := [.int (nI (i - 2))]) dX7_guessDigit_116 cv_X7_51 rfl rfl wh_q rfl ⟨by show 19 + 2 ≤ w; omega, k_digitAt hd hqd (by omega)⟩ rfl rfl (fun r h1 hp => ?_)
          obtain ⟨rfl, rfl⟩ := hp
          rw [if_pos (show i - 2 < 72 by omega)]
          refine ev_i2lN (pc := 119) dX7_guessDigit_119 (by omega) ?_
          refine ev_lorN (pc := 120) dX7_guessDigit_120 (by omega) (by omega) ?_
          refine ev_lc_le (pc := 121) (tgt := 138) dX7_guessDigit_121 dX7_guessDigit_122 (by decide) (by omega) (by omega) (fun c4 => ?_) (fun c4 => ?_)
          · have E : mb_g1 top sec (g (i - 2)) (gs, r) = (gs, r) := by
              unfold mb_g1
              rw [if_pos (by show r < _; omega), if_neg (by show ¬ (1073741824 ≤ gs ∨ r * 1073741824 + g (i - 2) < gs * sec); omega)]
            refine ev_iincN (pc := 138) dX7_guessDigit_138 rfl rfl ?_
            refine ev_goto (pc := 141) (tgt := 76) dX7_guessDigit_141 (by decide) ?_
            refine ev_vs [(0, .ref q), (3, .int (nI top)), (4, .int (nI sec)), (5, .int (nI i)), (8, .long (lN gs)), (10, .long (lN r)), (12, .int (nI (more + 1)))] ⟨rfl, rfl, rfl, rfl, rfl, rfl, rfl, trivial⟩ ?_
            refine l_guess hd hw hqd hi2 hi ht2 hs hg k (more + 1) gs r (by omega) hgs hr ?_
            rw [← E]
            exact hK
          · refine ev_vs [(0, .ref q), (3, .int (nI top)), (4, .int (nI sec)), (5, .int (nI i)), (8, .long (lN gs)), (10, .long (lN r)), (12, .int (nI more))] ⟨rfl, rfl, rfl, rfl, rfl, rfl, rfl, trivial⟩ ?_
            exact down (Or.inr c4)
theorem k_guessDigit {dd at_ : Nat} (hd : 2 ≤ dd) (hw : 21 ≤ w) (hqd : q ≠ d) (a : wh_a h q d q2 d2 n2 g2) (hg : ∀ j, g j < 1073741824) (hg2 : ∀ j, g2 j < 1073741824) (hn2 : 2 ≤ n2) (hs : at_ + n2 ≤ 71) (htop : 536870912 ≤ g2 (n2 - 1)) : ev_Ca G dd w m_X7_guessDigit [.ref q, .ref q2, .int (nI at_)] (wh_p h q d n g) 0 0 (ev_ok (fun r h1 => r = some (.int (nI (mb_it (g2 (n2 - 1)) (g2 (n2 - 2)) (g (at_ + n2 - 2)) 2 ((g (at_ + n2) * 1073741824 + g (at_ + n2 - 1)) / g2 (n2 - 1), (g (at_ + n2) * 1073741824 + g (at_ + n2 - 1)) % g2 (n2 - 1))).1)) ∧ h1 = wh_p h q d n g)) := by
  obtain ⟨dd, rfl⟩ : ∃ e, dd = e + 1 := ⟨dd - 1, by omega⟩
  refine ⟨by decide +kernel, rfl, ?_⟩
  have ht2 := hg2 (n2 - 1)
  have hs2 := hg2 (n2 - 2)
  have hu2 := hg (at_ + n2)
  have hu1 := hg (at_ + n2 - 1)
  refine ev_aload_n (pc := 0) dX7_guessDigit_0 rfl ?_
  refine ev_aload_n (pc := 1) dX7_guessDigit_1 rfl ?_
  refine ev_getf (pc := 2) dX7_guessDigit_2 f_X7_22 (wh_aq a) rfl ?_
  refine ev_iconst (pc := 5) (v := nI 1) dX7_guessDigit_5 (by decide) ?_
  refine ev_isubN (pc := 6) dX7_guessDigit_6 (by omega) ?_
  refine ev_callV (pc := 7) (As := [.int (nI (n2 - 1))]) dX7_guessDigit_7 cv_X7_51 rfl rfl (wh_aq a) rfl ⟨by show 19 + 2 ≤ w; omega, k_digitAtH (by omega) (wh_aq a) (wh_ad a) (by omega)⟩ rfl rfl (fun r h1 hp => ?_)
  obtain ⟨rfl, rfl⟩ := hp
  rw [if_pos (show n2 - 1 < 72 by omega)]
  refine ev_istore_n (pc := 10) dX7_guessDigit_10 rfl ?_
  refine ev_aload_n (pc := 11) dX7_guessDigit_11 rfl ?_
  refine ev_aload_n (pc := 12) dX7_guessDigit_12 rfl ?_
  refine ev_getf (pc := 13) dX7_guessDigit_13 f_X7_22 (wh_aq a) rfl ?_
  refine ev_iconst (pc := 16) (v := nI 2) dX7_guessDigit_16 (by decide) ?_
  refine ev_isubN (pc := 17) dX7_guessDigit_17 (by omega) ?_
  refine ev_callV (pc := 18) (As := [.int (nI (n2 - 2))]) dX7_guessDigit_18 cv_X7_51 rfl rfl (wh_aq a) rfl ⟨by show 19 + 2 ≤ w; omega, k_digitAtH (by omega) (wh_aq a) (wh_ad a) (by omega)⟩ rfl rfl (fun r h1 hp => ?_)
  obtain ⟨rfl, rfl⟩ := hp
  rw [if_pos (show n2 - 2 < 72 by omega)]
  refine ev_istore (pc := 21) dX7_guessDigit_21 rfl ?_
  refine ev_iload_n (pc := 23) dX7_guessDigit_23 rfl ?_
  refine ev_if_neN (pc := 24) (tgt := 29) dX7_guessDigit_24 (by decide) (by omega) (fun c1 => ?_) (fun c1 => ?_)
  · refine ev_iload_n (pc := 29) dX7_guessDigit_29 rfl ?_
    refine ev_aload_n (pc := 30) dX7_guessDigit_30 rfl ?_
    refine ev_getf (pc := 31) dX7_guessDigit_31 f_X7_22 (wh_aq a) rfl ?_
    refine ev_iaddN (pc := 34) dX7_guessDigit_34 ?_
    refine ev_istore (pc := 35) dX7_guessDigit_35 rfl ?_
    refine ev_aload_n (pc := 37) dX7_guessDigit_37 rfl ?_
    refine ev_iload (pc := 38) dX7_guessDigit_38 rfl ?_
    refine ev_callV (pc := 40) (As := [.int (nI (at_ + n2))]) dX7_guessDigit_40 cv_X7_51 rfl rfl wh_q rfl ⟨by show 19 + 2 ≤ w; omega, k_digitAt (by omega) hqd (by omega)⟩ rfl rfl (fun r h1 hp => ?_)
    obtain ⟨rfl, rfl⟩ := hp
    rw [if_pos (show at_ + n2 < 72 by omega)]
    refine ev_i2lN (pc := 43) dX7_guessDigit_43 (by omega) ?_
    refine ev_bipush (pc := 44) (v := nI 30) dX7_guessDigit_44 (by decide) ?_
    refine ev_lshlN (pc := 46) dX7_guessDigit_46 ?_
    refine ev_aload_n (pc := 47) dX7_guessDigit_47 rfl ?_
    refine ev_iload (pc := 48) dX7_guessDigit_48 rfl ?_
    refine ev_iconst (pc := 50) (v := nI 1) dX7_guessDigit_50 (by decide) ?_
    refine ev_isubN (pc := 51) dX7_guessDigit_51 (by omega) ?_
    refine ev_callV (pc := 52) (As := [.int (nI (at_ + n2 - 1))]) dX7_guessDigit_52 cv_X7_51 rfl rfl wh_q rfl ⟨by show 19 + 2 ≤ w; omega, k_digitAt (by omega) hqd (by omega)⟩ rfl rfl (fun r h1 hp => ?_)
    obtain ⟨rfl, rfl⟩ := hp
    rw [if_pos (show at_ + n2 - 1 < 72 by omega)]
    refine ev_i2lN (pc := 55) dX7_guessDigit_55 (by omega) ?_
    refine ev_lorN (pc := 56) dX7_guessDigit_56 (by omega) (by omega) ?_
    refine ev_lstore (pc := 57) dX7_guessDigit_57 rfl ?_
    refine ev_lload (pc := 59) dX7_guessDigit_59 rfl ?_
    refine ev_iload_n (pc := 61) dX7_guessDigit_61 rfl ?_
    refine ev_i2lN (pc := 62) dX7_guessDigit_62 (by omega) ?_
    refine ev_ldivN (pc := 63) dX7_guessDigit_63 (by omega) (by omega) (by omega) ?_
    refine ev_lstore (pc := 64) dX7_guessDigit_64 rfl ?_
    refine ev_lload (pc := 66) dX7_guessDigit_66 rfl ?_
    refine ev_iload_n (pc := 68) dX7_guessDigit_68 rfl ?_
    refine ev_i2lN (pc := 69) dX7_guessDigit_69 (by omega) ?_
    refine ev_lremN (pc := 70) dX7_guessDigit_70 (by omega) (by omega) (by omega) ?_
    refine ev_lstore (pc := 71) dX7_guessDigit_71 rfl ?_
    refine ev_iconst (pc := 73) (v := nI 0) dX7_guessDigit_73 (by decide) ?_
    refine ev_istore (pc := 74) dX7_guessDigit_74 rfl ?_
    refine ev_vs [(0, .ref q), (3, .int (nI (g2 (n2 - 1)))), (4, .int (nI (g2 (n2 - 2)))), (5, .int (nI (at_ + n2))), (8, .long (lN ((g (at_ + n2) * 1073741824 + g (at_ + n2 - 1)) / g2 (n2 - 1)))), (10, .long (lN ((g (at_ + n2) * 1073741824 + g (at_ + n2 - 1)) % g2 (n2 - 1)))), (12, .int (nI 0))] ⟨rfl, rfl, rfl, rfl, rfl, rfl, rfl, trivial⟩ ?_
    have hml := Nat.mod_lt (g (at_ + n2) * 1073741824 + g (at_ + n2 - 1)) (show 0 < g2 (n2 - 1) by omega)
    have hdl : (g (at_ + n2) * 1073741824 + g (at_ + n2 - 1)) / g2 (n2 - 1) ≤ 4294967296 := by
      refine Nat.div_le_of_le_mul ?_
      have : 536870912 * 4294967296 ≤ g2 (n2 - 1) * 4294967296 := Nat.mul_le_mul_right _ htop
      omega
    exact l_guess (by omega) hw hqd (by omega) (by omega) ht2 hs2 hg 2 0 _ _ (by omega) hdl (by omega) ⟨rfl, rfl⟩
  · omega
end WH6
