/-! Desk: divide -/
theorem wh_comm {h : ev_H} {q d n q0 d0 n0 : Nat} {g f : Nat → Nat} (s1 : q ≠ q0) (s2 : q ≠ d0) (s3 : d ≠ q0) (s4 : d ≠ d0) : wh_p (wh_p h q0 d0 n0 g) q d n f = wh_p (wh_p h q d n f) q0 d0 n0 g := by
  funext a
  unfold wh_p ev_up
  by_cases e1 : a = q
  · simp only [if_pos e1, if_neg (show ¬ a = q0 by rw [e1]; exact s1), if_neg (show ¬ a = d0 by rw [e1]; exact s2)]
  · by_cases e2 : a = d
    · simp only [if_neg e1, if_pos e2, if_neg (show ¬ a = q0 by rw [e2]; exact s3), if_neg (show ¬ a = d0 by rw [e2]; exact s4)]
    · simp only [if_neg e1, if_neg e2]
theorem wh_upc {h : ev_H} {q d n a : Nat} {f : Nat → Nat} {c : ev_C} (s1 : a ≠ q) (s2 : a ≠ d) : ev_up (wh_p h q d n f) a c = wh_p (ev_up h a c) q d n f := by
  funext x
  unfold wh_p ev_up
  by_cases e : x = a
  · simp only [if_pos e, if_neg (show ¬ x = q by rw [e]; exact s1), if_neg (show ¬ x = d by rw [e]; exact s2)]
  · simp only [if_neg e]
theorem mb_three (F : Nat → Nat) (s : Nat) : mb_v F (s + 3) = mb_v F s + ((F (s + 2) * 1073741824 + F (s + 1)) * 1073741824 + F s) * 1073741824 ^ s := by
  show mb_v F s + F s * 1073741824 ^ s + F (s + 1) * 1073741824 ^ (s + 1) + F (s + 2) * 1073741824 ^ (s + 1 + 1) = _
  rw [show (1073741824 : Nat) ^ (s + 1 + 1) = 1073741824 ^ s * 1073741824 * 1073741824 by rw [mb_pw, mb_pw], mb_pw]
  generalize 1073741824 ^ s = P
  grind
theorem mb_two (F : Nat → Nat) (s : Nat) : mb_v F (s + 2) = mb_v F s + (F (s + 1) * 1073741824 + F s) * 1073741824 ^ s := by
  show mb_v F s + F s * 1073741824 ^ s + F (s + 1) * 1073741824 ^ (s + 1) = _
  rw [mb_pw]
  generalize 1073741824 ^ s = P
  grind
/-- the guess of a digit, for numbers in digits -/
theorem mb_gd {g2 F : Nat → Nat} {n2 b R : Nat} (hn : 2 ≤ n2) (hg2 : ∀ j, g2 j < 1073741824) (hF : ∀ j, F j < 1073741824) (htop : 536870912 ≤ g2 (n2 - 1)) (hb : mb_v g2 n2 = b) (hR : mb_v F (n2 + 1) = R) (hlt : R < 1073741824 * b) :
    ∃ t, t = (mb_it (g2 (n2 - 1)) (g2 (n2 - 2)) (F (n2 - 2)) 2 ((F n2 * 1073741824 + F (n2 - 1)) / g2 (n2 - 1), (F n2 * 1073741824 + F (n2 - 1)) % g2 (n2 - 1))).1 ∧ R / b ≤ t ∧ t ≤ R / b + 1 ∧ t < 1073741824 ∧ R / b < 1073741824 := by
  obtain ⟨s, rfl⟩ : ∃ s, n2 = s + 2 := ⟨n2 - 2, by omega⟩
  simp only [show s + 2 - 1 = s + 1 by omega, show s + 2 - 2 = s by omega] at htop ⊢
  have hX : 0 < 1073741824 ^ s := mb_pp s
  have l1 := mb_lt (g := g2) (n := s) (fun j _ => hg2 j)
  have l2 := mb_lt (g := F) (n := s) (fun j _ => hF j)
  have e1 := mb_two g2 s
  have e2 := mb_three F s
  rw [hb] at e1
  rw [show s + 2 + 1 = s + 3 by omega] at hR
  rw [hR] at e2
  have hb0 : 0 < b := by
    rcases Nat.eq_zero_or_pos b with x | x
    · rw [x] at hlt; omega
    · exact x
  have hq : R / b < 1073741824 := Nat.div_lt_of_lt_mul (by rw [Nat.mul_comm]; exact hlt)
  have := mb_guess (top := g2 (s + 1)) (sec := g2 s) (u2 := F (s + 2)) (u1 := F (s + 1)) (u0 := F s) (X := 1073741824 ^ s) (b := b) (R := R) hX htop (hg2 _) (hg2 _) (hF _) (hF _) (by omega) (by rw [Nat.add_mul, Nat.one_mul]; omega) (by omega) (by rw [Nat.add_mul, Nat.one_mul]; omega) rfl hq
  exact ⟨_, rfl, this.1, this.2.1, this.2.2, hq⟩
section DIV
variable {G : ev_G} {w : Nat} {K : ev_K} {H : ev_H} {c z D q d n q0 d0 n0 q2 d2 n2 x1 x2 x3 x4 x5 x7 x8 : Nat} {g2 : Nat → Nat}
theorem l_divide {dd sh tp b A : Nat} (hd : 2 ≤ dd) (hw : 53 ≤ w) (hqd : q ≠ d) (hqd0 : q0 ≠ d0) (s1 : q ≠ q0) (s2 : q ≠ d0) (s3 : d ≠ q0) (s4 : d ≠ d0) (a2 : wh_a H q d q2 d2 n2 g2) (a3 : wh_a H q0 d0 q2 d2 n2 g2)
    (hD : H D = some (.inr (1, [.ref q0, .ref x1, .ref x2, .ref x3, .ref x4, .ref x5, .ref q2, .ref x7, .ref x8]))) (D1 : D ≠ q) (D2 : D ≠ d) (D3 : D ≠ q0) (D4 : D ≠ d0)
    (hg2 : ∀ j, g2 j < 1073741824) (hn2 : 2 ≤ n2) (htop : 536870912 ≤ g2 (n2 - 1)) (hb : mb_v g2 n2 = b) (htp : tp + n2 ≤ 71)
    (hK : ∀ Qd f, (∀ j, Qd j < 1073741824) → (∀ j, f j < 1073741824) → (∀ j, tp + 1 ≤ j → Qd j = 0) → (∀ j, n2 ≤ j → f j = 0) → mb_v f n2 < b → mb_v Qd 72 * b + mb_v f 72 = A → ev_J G (ev_cc G dd w) w m_X1_divide K (166, ev_lf [(0, .ref D), (1, .ref q), (3, .int (nI sh)), (4, .int (nI tp))], [], wh_p (wh_p H q0 d0 n0 Qd) q d n f, c, z)) :
    ∀ k Qd f, k ≤ tp + 1 → (∀ j, Qd j < 1073741824) → (∀ j, f j < 1073741824) → (∀ j, tp + 1 ≤ j → Qd j = 0) → (∀ j, j < k → Qd j = 0) → (∀ j, k + n2 ≤ j → f j = 0) → mb_v (fun j => f (k + j)) n2 < b → mb_v Qd 72 * b + mb_v f 72 = A → ev_J G (ev_cc G dd w) w m_X1_divide K (103, ev_lf [(0, .ref D), (1, .ref q), (3, .int (nI sh)), (4, .int (nI tp)), (5, .int (nI k - nI 1))], [], wh_p (wh_p H q0 d0 n0 Qd) q d n f, c, z)
  | 0, Qd, f, hk, hQ, hf, hQt, hQk, hfz, hlt, hv => by
    refine ev_iload (pc := 103) dX1_divide_103 rfl ?_
    refine ev_if_lt (pc := 105) (tgt := 166) dX1_divide_105 (by decide) (fun c1 => ?_) (fun c1 => ?_)
    · refine ev_vs [(0, .ref D), (1, .ref q), (3, .int (nI sh)), (4, .int (nI tp))] ⟨rfl, rfl, rfl, rfl, trivial⟩ ?_
      refine hK Qd f hQ hf hQt (fun j hj => hfz j (by omega)) ?_ hv
      simpa using hlt
    · exact absurd (by decide) c1
  | k + 1, Qd, f, hk, hQ, hf, hQt, hQk, hfz, hlt, hv => by
    have hXD : ∀ Qd f, wh_p (wh_p H q0 d0 n0 Qd) q d n f D = some (.inr (1, [.ref q0, .ref x1, .ref x2, .ref x3, .ref x4, .ref x5, .ref q2, .ref x7, .ref x8])) := fun Qd f => (wh_n D1 D2).trans ((wh_n D3 D4).trans hD)
    have aa : ∀ Qd, wh_a (wh_p H q0 d0 n0 Qd) q d q2 d2 n2 g2 := fun Qd => ⟨a2.1, a2.2.1, a2.2.2.1, a2.2.2.2.1, wh_aq a3, wh_ad a3⟩
    refine ev_iload (pc := 103) dX1_divide_103 rfl ?_
    refine ev_ti (nI_pred k) ?_
    refine ev_if_ltN (pc := 105) (tgt := 166) dX1_divide_105 (by decide) (by omega) ?_
    refine ev_vs [(0, .ref D), (1, .ref q), (3, .int (nI sh)), (4, .int (nI tp)), (5, .int (nI k))] ⟨rfl, rfl, rfl, rfl, ev_s1e (nI_pred k), trivial⟩ ?_
    -- the digits from k on
    obtain ⟨F, hFd⟩ : ∃ F : Nat → Nat, F = fun j => f (k + j) := ⟨_, rfl⟩
    obtain ⟨R, hR⟩ : ∃ R, R = mb_v F (n2 + 1) := ⟨_, rfl⟩
    have hFb : ∀ j, F j < 1073741824 := fun j => by rw [hFd]; exact hf _
    have hRlo : R = f k + 1073741824 * mb_v (fun j => f (k + 1 + j)) n2 := by rw [hR, hFd, mb_lo]
    have hfk := hf k
    have hRlt : R < 1073741824 * b := by omega
    obtain ⟨t, ht, t1, t2, t3, t4⟩ := mb_gd hn2 hg2 hFb htop hb hR.symm hRlt
    have hb0 : 0 < b := by omega
    have hdm := Nat.div_add_mod R b
    have hml := Nat.mod_lt R hb0
    obtain ⟨Q, hQd⟩ : ∃ Q, Q = R / b := ⟨_, rfl⟩
    rw [← hQd] at t1 t2 t4 hdm
    refine ev_aload_n (pc := 108) dX1_divide_108 rfl ?_
    refine ev_aload_n (pc := 109) dX1_divide_109 rfl ?_
    refine ev_getf (pc := 110) dX1_divide_110 f_X1_31 (hXD _ _) rfl ?_
    refine ev_iload (pc := 113) dX1_divide_113 rfl ?_
    refine ev_callV (pc := 115) (As := [.ref q2, .int (nI k)]) dX1_divide_115 cv_X1_80 rfl rfl wh_q rfl ⟨by show 19 + 13 ≤ w; omega, show ev_Ca _ _ (w - 32) _ _ _ _ _ _ from k_guessDigit (by omega) (by omega) hqd (aa _) hf hg2 hn2 (by omega) htop⟩ rfl rfl (fun r h1 hp => ?_)
    obtain ⟨rfl, rfl⟩ := hp
    have et : (mb_it (g2 (n2 - 1)) (g2 (n2 - 2)) (f (k + n2 - 2)) 2 ((f (k + n2) * 1073741824 + f (k + n2 - 1)) / g2 (n2 - 1), (f (k + n2) * 1073741824 + f (k + n2 - 1)) % g2 (n2 - 1))).1 = t := by
      rw [ht, hFd]
      simp only [show k + (n2 - 2) = k + n2 - 2 by omega, show k + (n2 - 1) = k + n2 - 1 by omega]
    rw [et]
    refine ev_istore (pc := 118) dX1_divide_118 rfl ?_
    refine ev_aload_n (pc := 120) dX1_divide_120 rfl ?_
    refine ev_iload (pc := 121) dX1_divide_121 rfl ?_
    refine ev_aload_n (pc := 123) dX1_divide_123 rfl ?_
    refine ev_getf (pc := 124) dX1_divide_124 f_X1_31 (hXD _ _) rfl ?_
    refine ev_iload (pc := 127) dX1_divide_127 rfl ?_
    refine ev_callV (pc := 129) (As := [.int (nI k), .ref q2, .int (nI t)]) dX1_divide_129 cv_X1_84 rfl rfl wh_q rfl ⟨by show 19 + 10 ≤ w; omega, show ev_Ca _ _ (w - 29) _ _ _ _ _ _ from k_subtractAt (by omega) (by omega) hqd (aa _) hf hg2 t3 (by omega)⟩ rfl rfl (fun r h1 hp => ?_)
    obtain ⟨f1, s, rfl, rfl, hf1, hfe, hs1, hv1⟩ := hp
    rw [hb, ← hFd, ← hR] at hv1
    -- the digit is put, and it goes on
    have fin : ∀ f' : Nat → Nat, (∀ j, f' j < 1073741824) → (∀ j, j < k ∨ k + n2 < j → f' j = f j) → mb_v (fun j => f' (k + j)) (n2 + 1) = R % b → ev_J G (ev_cc G dd w) w m_X1_divide K (148, ev_lf [(0, .ref D), (1, .ref q), (3, .int (nI sh)), (4, .int (nI tp)), (5, .int (nI k)), (6, .int (nI Q))], [], wh_p (wh_p H q0 d0 n0 Qd) q d n f', c, z) := by
      intro f' hf' hfe' hv'
      refine ev_aload_n (pc := 148) dX1_divide_148 rfl ?_
      refine ev_getf (pc := 149) dX1_divide_149 f_X1_10 (hXD _ _) rfl ?_
      refine ev_getf (pc := 152) dX1_divide_152 f_X1_64 ((wh_n (Ne.symm s1) (Ne.symm s3)).trans wh_q) rfl ?_
      refine ev_iload (pc := 155) dX1_divide_155 rfl ?_
      refine ev_iload (pc := 157) dX1_divide_157 rfl ?_
      refine ev_iast (pc := 159) dX1_divide_159 ((wh_n (Ne.symm s2) (Ne.symm s4)).trans (wh_d hqd0)) (vp_in_nI (by omega) (by omega)) ?_
      refine ev_th ((wh_upc (Ne.symm s2) (Ne.symm s4)).trans (congrArg (fun x => wh_p x q d n f') (wh_st hqd0 (by omega)))) ?_
      refine ev_iinc (pc := 160) dX1_divide_160 rfl rfl ?_
      refine ev_goto (pc := 163) (tgt := 103) dX1_divide_163 (by decide) ?_
      refine ev_vs [(0, .ref D), (1, .ref q), (3, .int (nI sh)), (4, .int (nI tp)), (5, .int (nI k - nI 1))] ⟨rfl, rfl, rfl, rfl, ev_s1e (mi_m1 k), trivial⟩ ?_
      -- what stands above is 0: the rest is below the divisor
      have hz : f' (k + n2) = 0 := by
        have e := hv'
        rw [mb_vs] at e
        rcases Nat.eq_zero_or_pos (f' (k + n2)) with x | x
        · exact x
        · exfalso
          have h1 : 1 * 1073741824 ^ n2 ≤ f' (k + n2) * 1073741824 ^ n2 := Nat.mul_le_mul_right _ x
          have h2 : b < 1073741824 ^ n2 := by rw [← hb]; exact mb_lt (fun j _ => hg2 j)
          omega
      refine l_divide hd hw hqd hqd0 s1 s2 s3 s4 a2 a3 hD D1 D2 D3 D4 hg2 hn2 htop hb htp hK k _ f' (by omega) (mb_upb hQ t4) hf' (fun j hj => by rw [va_up_ne _ _ (by omega)]; exact hQt j hj) (fun j hj => by rw [va_up_ne _ _ (by omega)]; exact hQk j (by omega)) (fun j hj => ?_) ?_ ?_
      · rcases Nat.eq_or_lt_of_le hj with x | x
        · rw [← x]; exact hz
        · rw [hfe' j (Or.inr (by omega))]; exact hfz j (by omega)
      · have e := hv'
        rw [mb_vs, hz] at e
        omega
      · have e1 : mb_v f 72 = mb_v f k + 1073741824 ^ k * R := by
          have h1 := mb_cut f k (72 - k)
          rw [show k + (72 - k) = 72 by omega] at h1
          rw [h1, hR, hFd, mb_top (n := n2 + 1) (m := 72 - k) (by omega) (fun j h2 _ => hfz (k + j) (by omega))]
        have e2 : mb_v f' 72 = mb_v f k + 1073741824 ^ k * (R % b) := by
          have h1 := mb_cut f' k (72 - k)
          rw [show k + (72 - k) = 72 by omega] at h1
          rw [h1, ← hv', mb_top (n := n2 + 1) (m := 72 - k) (by omega) (fun j h2 _ => by rw [hfe' (k + j) (Or.inr (by omega))]; exact hfz (k + j) (by omega)), mb_congr (g := f') (h := f) (fun j hj => hfe' j (Or.inl hj))]
        have e3 := mb_up (g := Qd) (k := k) (x := Q) (n := 72) (by omega)
        rw [hQk k (by omega), Nat.zero_mul, Nat.add_zero] at e3
        rw [e3, e2, ← hv, e1, Nat.add_mul]
        have e4 : 1073741824 ^ k * R = 1073741824 ^ k * (b * Q) + 1073741824 ^ k * (R % b) := by rw [← Nat.mul_add, hdm]
        have e5 : Q * 1073741824 ^ k * b = 1073741824 ^ k * (b * Q) := by rw [Nat.mul_comm Q, Nat.mul_assoc, Nat.mul_comm Q]
        omega
    rcases Nat.lt_or_ge 0 s with hs | hs
    · -- one too much
      have es : s = 1 := by omega
      subst es
      have hB : b < 1073741824 ^ n2 := by rw [← hb]; exact mb_lt (fun j _ => hg2 j)
      have l1 : mb_v (fun j => f1 (k + j)) (n2 + 1) < 1073741824 ^ (n2 + 1) := mb_lt (fun j _ => hf1 _)
      have etQ : t = Q + 1 := by
        rcases Nat.eq_or_lt_of_le t1 with x | x
        · exfalso
          have : t * b = b * Q := by rw [← x, Nat.mul_comm]
          omega
        · omega
      refine ev_if_eqN (pc := 132) (tgt := 148) dX1_divide_132 (by decide) (by omega) (fun c2 => absurd c2 (by decide)) (fun _ => ?_)
      refine ev_aload_n (pc := 135) dX1_divide_135 rfl ?_
      refine ev_iload (pc := 136) dX1_divide_136 rfl ?_
      refine ev_aload_n (pc := 138) dX1_divide_138 rfl ?_
      refine ev_getf (pc := 139) dX1_divide_139 f_X1_31 (hXD _ _) rfl ?_
      refine ev_callV (pc := 142) (As := [.int (nI k), .ref q2]) dX1_divide_142 cv_X1_88 rfl rfl wh_q rfl ⟨by show 19 + 7 ≤ w; omega, show ev_Ca _ _ (w - 26) _ _ _ _ _ _ from k_addAt (by omega) (by omega) hqd (aa _) hf1 hg2 (by omega)⟩ rfl rfl (fun r h1 hp => ?_)
      obtain ⟨rfl, f3, cy, rfl, hf3, hfe3, hcy, hv3⟩ := hp
      rw [hb] at hv3
      have l3 : mb_v (fun j => f3 (k + j)) (n2 + 1) < 1073741824 ^ (n2 + 1) := mb_lt (fun j _ => hf3 _)
      have htb : t * b = b * Q + b := by rw [etQ, Nat.add_mul, Nat.one_mul, Nat.mul_comm]
      have hcy1 : cy = 1 := by
        rcases Nat.eq_zero_or_pos cy with x | x
        · exfalso; subst x; omega
        · omega
      subst hcy1
      refine ev_iincD (pc := 145) dX1_divide_145 rfl rfl (by omega) ?_
      refine ev_vs [(0, .ref D), (1, .ref q), (3, .int (nI sh)), (4, .int (nI tp)), (5, .int (nI k)), (6, .int (nI Q))] ⟨rfl, rfl, rfl, rfl, rfl, by rw [etQ]; rfl, trivial⟩ ?_
      refine fin f3 hf3 (fun j hj => by rw [hfe3 j hj]; exact hfe j hj) ?_
      omega
    · have es : s = 0 := by omega
      subst es
      have etQ : t = Q := by
        rcases Nat.eq_or_lt_of_le t1 with x | x
        · exact x.symm
        · exfalso
          have e : t = Q + 1 := by omega
          have : t * b = b * Q + b := by rw [e, Nat.add_mul, Nat.one_mul, Nat.mul_comm]
          omega
      refine ev_if_eqN (pc := 132) (tgt := 148) dX1_divide_132 (by decide) (by omega) (fun _ => ?_) (fun c2 => absurd c2 (by decide))
      refine ev_vs [(0, .ref D), (1, .ref q), (3, .int (nI sh)), (4, .int (nI tp)), (5, .int (nI k)), (6, .int (nI Q))] ⟨rfl, rfl, rfl, rfl, rfl, by rw [← etQ]; rfl, trivial⟩ ?_
      refine fin f1 hf1 hfe ?_
      have : t * b = b * Q := by rw [etQ, Nat.mul_comm]
      omega
end DIV
