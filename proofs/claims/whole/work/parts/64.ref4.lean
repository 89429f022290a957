/-! THE REFERENCE: set -/
theorem mb_dig (x : Nat) : ∀ n, mb_v (fun k => x / 1073741824 ^ k % 1073741824) n = x % 1073741824 ^ n
  | 0 => by rw [Nat.pow_zero, Nat.mod_one]; rfl
  | n + 1 => by
    show mb_v (fun k => x / 1073741824 ^ k % 1073741824) n + x / 1073741824 ^ n % 1073741824 * 1073741824 ^ n = _
    rw [mb_dig x n, Nat.pow_succ, Nat.mod_mul, Nat.mul_comm (1073741824 ^ n)]
section REF4
variable {G : ev_G} {w : Nat} {h : ev_H} {M lm sz r o j k dd : Nat} {rest : List Value} {L s v : Nat → Nat}
theorem l_rset {K : ev_K} {c z x : Nat} (hM : RM h M lm sz rest) (hr : r < 47) (hx : x < 2 ^ 63) (hK : ∀ L2 s2, (∀ y, (y < 140 * r ∨ 140 * r + 140 ≤ y) → L2 y = L y) → (∀ i, i ≠ r → s2 i = s i) → rv L2 s2 r x → K (.inl none) (rp h lm sz L2 s2)) : ∀ k n L1 s1, n + k = 3 → s1 r = n → (∀ y, (y < 140 * r ∨ 140 * r + 140 ≤ y) → L1 y = L y) → (∀ i, i ≠ r → s1 i = s i) → (∀ k, k < n → L1 (140 * r + k) = x / 1073741824 ^ k % 1073741824) → (0 < n → x / 1073741824 ^ (n - 1) ≠ 0) → ev_J G (ev_cc G dd w) w m_X9_set K (10, ev_lf [(0, .ref M), (1, .int (nI r)), (4, .long (lN (x / 1073741824 ^ n)))], [], rp h lm sz L1 s1, c, z) := by
  have fin : ∀ {V : ev_V} n L1 s1, s1 r = n → n ≤ 3 → (∀ y, (y < 140 * r ∨ 140 * r + 140 ≤ y) → L1 y = L y) → (∀ i, i ≠ r → s1 i = s i) → (∀ k, k < n → L1 (140 * r + k) = x / 1073741824 ^ k % 1073741824) → (0 < n → x / 1073741824 ^ (n - 1) ≠ 0) → x / 1073741824 ^ n = 0 → ev_J G (ev_cc G dd w) w m_X9_set K (62, V, [], rp h lm sz L1 s1, c, z) := by
    intro V n L1 s1 e hn e1 e2 e3 e4 e5
    have hp : 0 < 1073741824 ^ n := Nat.pow_pos (by decide)
    have lt : x < 1073741824 ^ n := by
      rcases Nat.lt_or_ge x (1073741824 ^ n) with q | q
      · exact q
      · have := Nat.div_pos q hp; omega
    refine ev_vret (pc := 62) dX9_set_62 rfl (hK L1 s1 e1 e2 ⟨by omega, fun k hk => ?_, fun q => ?_, ?_⟩)
    · rw [e3 k (by omega)]; exact Nat.mod_lt _ (by decide)
    · rw [e] at q ⊢
      rw [e3 (n - 1) (by omega)]
      have t := e4 q
      obtain ⟨m, rfl⟩ : ∃ m, n = m + 1 := ⟨n - 1, by omega⟩
      rw [Nat.add_sub_cancel] at t ⊢
      rw [Nat.mod_eq_of_lt (by rw [Nat.div_lt_iff_lt_mul (Nat.pow_pos (by decide)), Nat.mul_comm, ← Nat.pow_succ]; exact lt)]
      exact t
    · rw [e, mb_vcg n (g2 := fun k => x / 1073741824 ^ k % 1073741824) e3, mb_dig, Nat.mod_eq_of_lt lt]
  intro k
  induction k with
  | zero =>
    intro n L1 s1 e e0 e1 e2 e3 e4
    have z3 : x / 1073741824 ^ n = 0 := by
      rw [show n = 3 by omega]
      exact Nat.div_eq_of_lt (Nat.lt_trans hx (by decide))
    have zb : x / 1073741824 ^ n < 2 ^ 63 := by rw [z3]; decide
    refine ev_lload (pc := 10) dX9_set_10 rfl ?_
    refine ev_lconst (pc := 12) (v := lN 0) dX9_set_12 (by decide) ?_
    refine ev_lc_le (pc := 13) (tgt := 62) dX9_set_13 dX9_set_14 (by decide) (by omega) (by omega) (fun c1 => ?_) (fun c1 => ?_)
    · exact fin n L1 s1 e0 (by omega) e1 e2 e3 e4 z3
    · omega
  | succ k ih =>
    intro n L1 s1 e e0 e1 e2 e3 e4
    have zb : x / 1073741824 ^ n < 2 ^ 63 := Nat.lt_of_le_of_lt (Nat.div_le_self _ _) hx
    have zm : x / 1073741824 ^ n % 1073741824 < 1073741824 := Nat.mod_lt _ (by decide)
    refine ev_lload (pc := 10) dX9_set_10 rfl ?_
    refine ev_lconst (pc := 12) (v := lN 0) dX9_set_12 (by decide) ?_
    refine ev_lc_le (pc := 13) (tgt := 62) dX9_set_13 dX9_set_14 (by decide) (by omega) (by omega) (fun c1 => ?_) (fun c1 => ?_)
    · exact fin n L1 s1 e0 (by omega) e1 e2 e3 e4 (Nat.eq_zero_of_le_zero c1)
    · refine ev_aload_n (pc := 17) dX9_set_17 rfl ?_
      refine ev_getf (pc := 18) dX9_set_18 f_X9_7 (rp_M hM) rfl ?_
      refine ev_sipush (pc := 21) (v := nI 140) dX9_set_21 (by decide) ?_
      refine ev_iload_n (pc := 24) dX9_set_24 rfl ?_
      refine ev_imulN (pc := 25) dX9_set_25 ?_
      refine ev_aload_n (pc := 26) dX9_set_26 rfl ?_
      refine ev_getf (pc := 27) dX9_set_27 f_X9_13 (rp_M hM) rfl ?_
      refine ev_iload_n (pc := 30) dX9_set_30 rfl ?_
      refine ev_iaN (pc := 31) dX9_set_31 rp_S (by omega) (by omega) ?_
      refine ev_iaddN (pc := 32) dX9_set_32 ?_
      refine ev_lload (pc := 33) dX9_set_33 rfl ?_
      refine ev_ldc2 (pc := 35) dX9_set_35 k_X9_73 ?_
      refine ev_lremN (pc := 38) dX9_set_38 (by omega) (by omega) (by omega) ?_
      refine ev_l2iN (pc := 39) dX9_set_39 ?_
      refine ev_iast (pc := 40) dX9_set_40 (rp_L hM) (vp_in_nI (by omega) (by decide)) ?_
      refine ev_th (rp_uL hM (by omega)) ?_
      refine ev_aload_n (pc := 41) dX9_set_41 rfl ?_
      refine ev_getf (pc := 42) dX9_set_42 f_X9_13 (rp_M hM) rfl ?_
      refine ev_iload_n (pc := 45) dX9_set_45 rfl ?_
      refine ev_dup2_11 (pc := 46) dX9_set_46 rfl rfl ?_
      refine ev_iaN (pc := 47) dX9_set_47 rp_S (by omega) (by omega) ?_
      refine ev_iconst (pc := 48) (v := nI 1) dX9_set_48 (by decide) ?_
      refine ev_iaddN (pc := 49) dX9_set_49 ?_
      refine ev_iast (pc := 50) dX9_set_50 rp_S (vp_in_nI hr (by decide)) ?_
      refine ev_th (rp_uS hr) ?_
      refine ev_lload (pc := 51) dX9_set_51 rfl ?_
      refine ev_ldc2 (pc := 53) dX9_set_53 k_X9_73 ?_
      refine ev_ldivN (pc := 56) dX9_set_56 (by omega) (by omega) (by omega) ?_
      refine ev_lstore (pc := 57) dX9_set_57 rfl ?_
      refine ev_goto (pc := 59) (tgt := 10) dX9_set_59 (by decide) ?_
      refine ev_vs [(0, .ref M), (1, .int (nI r)), (4, .long (lN (x / 1073741824 ^ (n + 1))))] ⟨rfl, rfl, by rw [Nat.pow_succ, ← Nat.div_div_eq_div_mul]; rfl, trivial⟩ ?_
      refine ih (n + 1) _ _ (by omega) (by rw [va_up_self, e0]) (fun y hy => ?_) (fun i hi => (va_up_ne _ _ hi).trans (e2 i hi)) (fun k hk => ?_) (fun _ => by rw [Nat.add_sub_cancel]; omega)
      · unfold va_up; rw [if_neg (by omega)]; exact e1 y hy
      · unfold va_up
        by_cases q : k = n
        · rw [if_pos (by omega), q]
        · rw [if_neg (by omega)]; exact e3 k (by omega)
theorem k_rset {x : Nat} (hd : 1 ≤ dd) (hM : RM h M lm sz rest) (hr : r < 47) (hx : x < 2 ^ 63) (hV : ∀ i, i < 47 → i ≠ r → rv L s i (v i)) : ev_Ca G dd w m_X9_set [.ref M, .int (nI r), .long (lN x)] (rp h lm sz L s) 0 0 (ev_ok (fun y h1 => y = none ∧ ∃ L2 s2, h1 = rp h lm sz L2 s2 ∧ RV L2 s2 (va_up v r x))) := by
  obtain ⟨dd, rfl⟩ : ∃ e, dd = e + 1 := ⟨dd - 1, by omega⟩
  refine ⟨by decide +kernel, rfl, ?_⟩
  refine ev_aload_n (pc := 0) dX9_set_0 rfl ?_
  refine ev_getf (pc := 1) dX9_set_1 f_X9_13 (rp_M hM) rfl ?_
  refine ev_iload_n (pc := 4) dX9_set_4 rfl ?_
  refine ev_iconst (pc := 5) (v := nI 0) dX9_set_5 (by decide) ?_
  refine ev_iast (pc := 6) dX9_set_6 rp_S (vp_in_nI hr (by decide)) ?_
  refine ev_th (rp_uS hr) ?_
  refine ev_lload_n (pc := 7) dX9_set_7 rfl ?_
  refine ev_lstore (pc := 8) dX9_set_8 rfl ?_
  refine ev_vs [(0, .ref M), (1, .int (nI r)), (4, .long (lN (x / 1073741824 ^ 0)))] ⟨rfl, rfl, by rw [Nat.pow_zero, Nat.div_one]; rfl, trivial⟩ ?_
  refine l_rset (L := L) (s := s) hM hr hx (fun L2 s2 e1 e2 e3 => ⟨rfl, L2, s2, rfl, fun i hi => ?_⟩) 3 0 L (va_up s r 0) (by omega) (va_up_self _ _ _) (fun _ _ => rfl) (fun i hi => va_up_ne _ _ hi) (fun k hk => absurd hk (Nat.not_lt_zero k)) (fun q => absurd q (by decide))
  by_cases q : i = r
  · subst q; rw [va_up_self]; exact e3
  · rw [va_up_ne _ _ q]
    have b := (hV i hi q).1
    exact rv_cg (hV i hi q) (e2 i q) (fun k hk => e1 _ (by omega))
end REF4
