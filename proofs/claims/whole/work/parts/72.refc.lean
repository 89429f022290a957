/-! THE REFERENCE: quotient -/
theorem mb_bit {g : Nat → Nat} {n j : Nat} (hg : ∀ k, k < n → g k < 1073741824) (hj : j / 30 < n) : mb_v g n / 2 ^ j % 2 = g (j / 30) / 2 ^ (j % 30) % 2 := by
  have hj2 := Nat.div_add_mod j 30
  generalize hm : j / 30 = m at *
  generalize ht : j % 30 = t at *
  have t30 : t < 30 := by rw [← ht]; exact Nat.mod_lt _ (by decide)
  obtain ⟨d, rfl⟩ := Nat.exists_eq_add_of_le (show m + 1 ≤ n by omega)
  rw [mb_cut g (m + 1) d, mb_vs]
  have lo := mb_lt (g := g) (n := m) (fun k hk => hg k (by omega))
  have pe : 1073741824 ^ m = 2 ^ (30 * m) := by rw [Nat.pow_mul]
  rw [← hj2, Nat.pow_add 2 (30 * m) t, ← Nat.div_div_eq_div_mul, ← pe, mb_pw]
  generalize mb_v (fun j => g (m + 1 + j)) d = Y
  have e1 : mb_v g m + g m * 1073741824 ^ m + 1073741824 ^ m * 1073741824 * Y = mb_v g m + 1073741824 ^ m * (g m + 1073741824 * Y) := by
    rw [Nat.mul_add, Nat.add_assoc]
    congr 1
    congr 1
    · exact Nat.mul_comm _ _
    · exact Nat.mul_assoc _ _ _
  rw [e1, Nat.add_mul_div_left _ _ (mb_pp m), Nat.div_eq_of_lt lo, Nat.zero_add]
  have e2 : 1073741824 * Y = 2 ^ t * (2 * (2 ^ (29 - t) * Y)) := by
    have : 2 ^ t * (2 * 2 ^ (29 - t)) = 1073741824 := by
      rw [← Nat.pow_succ', ← Nat.pow_add, show t + (29 - t + 1) = 30 by omega]
    rw [← Nat.mul_assoc 2, ← Nat.mul_assoc, this]
  rw [e2, Nat.add_mul_div_left _ _ (Nat.pow_pos (by decide)), Nat.add_mul_mod_self_left]
theorem mi_cmplt {a b : Nat} : mi_cmp a b < 0 ↔ a < b := by
  unfold mi_cmp
  by_cases h1 : a < b
  · rw [if_pos h1]; exact ⟨fun _ => h1, fun _ => by decide⟩
  · rw [if_neg h1]
    by_cases h2 : a = b
    · rw [if_pos h2]; exact ⟨fun q => absurd q (by decide), fun q => absurd q h1⟩
    · rw [if_neg h2]; exact ⟨fun q => absurd q (by decide), fun q => absurd q h1⟩
theorem dv_step {X b D : Nat} (hD : 0 < D) (hb : b ≤ 1) : (D ≤ 2 * (X % D) + b → (2 * X + b) / D = 2 * (X / D) + 1 ∧ (2 * X + b) % D = 2 * (X % D) + b - D) ∧ (2 * (X % D) + b < D → (2 * X + b) / D = 2 * (X / D) ∧ (2 * X + b) % D = 2 * (X % D) + b) := by
  have e := Nat.div_add_mod X D
  have lt := Nat.mod_lt X hD
  generalize X / D = q at *
  generalize X % D = r at *
  subst e
  have e2 : 2 * (D * q + r) + b = 2 * r + b + D * (2 * q) := by
    have : D * (2 * q) = 2 * (D * q) := by ac_rfl
    omega
  refine ⟨fun h => ?_, fun h => ?_⟩
  · have e3 : 2 * r + b + D * (2 * q) = 2 * r + b - D + D * (2 * q + 1) := by
      rw [Nat.mul_add, Nat.mul_one]; omega
    rw [e2, e3, Nat.add_mul_div_left _ _ hD, Nat.add_mul_mod_self_left, Nat.div_eq_of_lt (by omega), Nat.mod_eq_of_lt (by omega), Nat.zero_add]
    exact ⟨rfl, rfl⟩
  · rw [e2, Nat.add_mul_div_left _ _ hD, Nat.add_mul_mod_self_left, Nat.div_eq_of_lt h, Nat.mod_eq_of_lt h, Nat.zero_add]
    exact ⟨rfl, rfl⟩
section REFC
variable {G : ev_G} {w : Nat} {H : ev_H} {M lm sz r n b j k dd q : Nat} {rest : List Value} {L s v : Nat → Nat}
def qpost (H : ev_H) (M lm sz : Nat) (rest : List Value) (v : Nat → Nat) (q r Q R : Nat) (h1 : ev_H) : Prop := ∃ v2, RG h1 M lm sz rest v2 ∧ RF lm sz H h1 ∧ v2 q = Q ∧ v2 r = R ∧ ∀ i, i ≠ q → i ≠ r → v2 i = v i
theorem l_quo {K : ev_K} {c z : Nat} (hd : 2 ≤ dd) (hw : 60 ≤ w) (hn : n < 47) (hb : b < 47) (hq : q < 47) (hr : r < 47) (hqn : q ≠ n) (hqb : q ≠ b) (hrn : r ≠ n) (hrb : r ≠ b) (hqr : q ≠ r) (h0 : 0 < v b) (hN : v n < 1073741824 ^ 139)
    (hK : ∀ h1, qpost H M lm sz rest v q r (v n / v b) (v n % v b) h1 → K (.inl none) h1) :
    ∀ j h1, j ≤ mb_bits (v n) → qpost H M lm sz rest v q r (v n / 2 ^ j / v b) (v n / 2 ^ j % v b) h1 → ev_J G (ev_cc G dd w) w m_X9_quotient K (24, ev_lf [(0, .ref M), (1, .int (nI n)), (2, .int (nI b)), (3, .int (nI q)), (4, .int (nI r)), (5, .int (nI j - nI 1))], [], h1, c, z)
  | 0, h1, e, e1 => by
    refine ev_iload (pc := 24) dX9_quotient_24 rfl ?_
    refine ev_if_lt (pc := 26) (tgt := 109) dX9_quotient_26 (by decide) (fun c1 => ?_) (fun c1 => ?_)
    · rw [Nat.pow_zero, Nat.div_one] at e1
      exact ev_vret (pc := 109) dX9_quotient_109 rfl (hK h1 e1)
    · exact absurd (by decide) c1
  | j + 1, h1, e, e1 => by
    obtain ⟨v1, hR, hF, e2, e3, e4⟩ := e1
    have en : v1 n = v n := e4 n (Ne.symm hqn) (Ne.symm hrn)
    have eb : v1 b = v b := e4 b (Ne.symm hqb) (Ne.symm hrb)
    obtain ⟨hM, L, s, c1, c2, hV⟩ := id hR
    have hvn := hV n hn
    have vlt : v1 n < 1073741824 ^ s n := by rw [← hvn.2.2.2]; exact mb_lt hvn.2.1
    have sn := hvn.1
    have vlt2 : v1 n < 2 ^ (30 * s n) := by rw [Nat.pow_mul]; exact vlt
    have bl : mb_bits (v n) ≤ 30 * s n := by
      rw [← en]
      unfold mb_bits
      split
      · omega
      · rename_i z
        have := (Nat.log2_lt z).mpr vlt2
        omega
    have jl : j / 30 < s n := by omega
    have lb := hvn.2.1 (j / 30) jl
    have bit := mb_bit (g := fun k => L (140 * n + k)) (n := s n) (j := j) hvn.2.1 jl
    rw [hvn.2.2.2, en] at bit
    have ej : nI (j + 1) - nI 1 = nI j := pk_sub (show 1 ≤ j + 1 by omega)
    have jm : j % 30 < 30 := Nat.mod_lt _ (by decide)
    rw [ej]
    refine ev_iload (pc := 24) dX9_quotient_24 rfl ?_
    refine ev_if_ltN (pc := 26) (tgt := 109) dX9_quotient_26 (by decide) (by omega) ?_
    refine ev_aload_n (pc := 29) dX9_quotient_29 rfl ?_
    refine ev_iload (pc := 30) dX9_quotient_30 rfl ?_
    refine ev_aload_n (pc := 32) dX9_quotient_32 rfl ?_
    refine ev_getf (pc := 33) dX9_quotient_33 f_X9_7 (rg_M hR) rfl ?_
    refine ev_sipush (pc := 36) (v := nI 140) dX9_quotient_36 (by decide) ?_
    refine ev_iload_n (pc := 39) dX9_quotient_39 rfl ?_
    refine ev_imulN (pc := 40) dX9_quotient_40 ?_
    refine ev_iload (pc := 41) dX9_quotient_41 rfl ?_
    refine ev_bipush (pc := 43) (v := nI 30) dX9_quotient_43 (by decide) ?_
    refine ev_idivN (pc := 45) dX9_quotient_45 (by omega) (by omega) (by omega) ?_
    refine ev_iaddN (pc := 46) dX9_quotient_46 ?_
    refine ev_iaN (pc := 47) dX9_quotient_47 c1 (by omega) (by decide) ?_
    refine ev_iload (pc := 48) dX9_quotient_48 rfl ?_
    refine ev_bipush (pc := 50) (v := nI 30) dX9_quotient_50 (by decide) ?_
    refine ev_iremN (pc := 52) dX9_quotient_52 (by omega) (by omega) (by omega) ?_
    refine ev_ishr (pc := 53) dX9_quotient_53 (ev_ti (mi_shr (by omega) (by omega)) ?_)
    refine ev_iconst (pc := 54) (v := nI 1) dX9_quotient_54 (by decide) ?_
    have dle := Nat.div_le_self (L (140 * n + j / 30)) (2 ^ (j % 30))
    refine ev_iand (pc := 55) dX9_quotient_55 (ev_ti (mi_and1 (by omega)) ?_)
    rw [← bit]
    have bt1 : v n / 2 ^ j % 2 ≤ 1 := by omega
    have half : v n / 2 ^ j = 2 * (v n / 2 ^ (j + 1)) + v n / 2 ^ j % 2 := by
      rw [Nat.pow_succ, ← Nat.div_div_eq_div_mul]; omega
    obtain ⟨st1, st2⟩ := dv_step (X := v n / 2 ^ (j + 1)) (b := v n / 2 ^ j % 2) h0 bt1
    rw [← half] at st1 st2
    have rb1 : v1 r < 1073741824 ^ 139 := by
      rw [e3]
      exact Nat.lt_of_le_of_lt (Nat.le_trans (Nat.mod_le _ _) (Nat.div_le_self _ _)) hN
    have qb1 : v1 q < 1073741824 ^ 139 := by
      rw [e2]
      exact Nat.lt_of_le_of_lt (Nat.le_trans (Nat.div_le_self _ _) (Nat.div_le_self _ _)) hN
    refine ev_callV (pc := 56) (As := [.int (nI r), .int (nI (v n / 2 ^ j % 2))]) dX9_quotient_56 cv_X9_91 rfl rfl (rg_M hR) rfl ⟨by show 19 + 6 ≤ w; omega, show ev_Ca _ _ (w - 25) _ _ _ _ _ _ from g_twice (by omega) hR hr bt1 rb1⟩ rfl rfl (fun r h1 hp => ?_)
    obtain ⟨rfl, hR2, hF2⟩ := hp
    have s1 : va_up v1 r (2 * v1 r + v n / 2 ^ j % 2) r = 2 * (v n / 2 ^ (j + 1) % v b) + v n / 2 ^ j % 2 := by rw [va_up_self, e3]
    have s2 : va_up v1 r (2 * v1 r + v n / 2 ^ j % 2) b = v b := by rw [va_up_ne _ _ (Ne.symm hrb), eb]
    have s3 : va_up v1 r (2 * v1 r + v n / 2 ^ j % 2) q = v n / 2 ^ (j + 1) / v b := by rw [va_up_ne _ _ hqr, e2]
    have s4 : ∀ i, i ≠ q → i ≠ r → va_up v1 r (2 * v1 r + v n / 2 ^ j % 2) i = v i := fun i a b => by rw [va_up_ne _ _ b, e4 i a b]
    generalize va_up v1 r (2 * v1 r + v n / 2 ^ j % 2) = v2 at *
    refine ev_aload_n (pc := 59) dX9_quotient_59 rfl ?_
    refine ev_iload (pc := 60) dX9_quotient_60 rfl ?_
    refine ev_iload_n (pc := 62) dX9_quotient_62 rfl ?_
    refine ev_callV (pc := 63) (As := [.int (nI r), .int (nI b)]) dX9_quotient_63 cv_X9_95 rfl rfl (rg_M hR2) rfl ⟨by show 19 + 4 ≤ w; omega, show ev_Ca _ _ (w - 23) _ _ _ _ _ _ from g_cmp (by omega) hR2 hr hb⟩ rfl rfl (fun r h1 hp => ?_)
    obtain ⟨rfl, hH⟩ := hp
    rw [hH, s1, s2]
    clear hH
    refine ev_if_lt (pc := 66) (tgt := 73) dX9_quotient_66 (by decide) (fun c3 => ?_) (fun c3 => ?_)
    · have lt := mi_cmplt.mp c3
      obtain ⟨t1, t2⟩ := st2 lt
      refine ev_iconst (pc := 73) (v := nI 0) dX9_quotient_73 (by decide) ?_
      refine ev_istore (pc := 74) dX9_quotient_74 rfl ?_
      refine ev_iload (pc := 76) dX9_quotient_76 rfl ?_
      refine ev_if_eqN (pc := 78) (tgt := 88) dX9_quotient_78 (by decide) (by decide) (fun _ => ?_) (fun q => absurd q (by decide))
      refine ev_aload_n (pc := 88) dX9_quotient_88 rfl ?_
      refine ev_iload_n (pc := 89) dX9_quotient_89 rfl ?_
      refine ev_iload (pc := 90) dX9_quotient_90 rfl ?_
      refine ev_if_eqN (pc := 92) (tgt := 99) dX9_quotient_92 (by decide) (by decide) (fun _ => ?_) (fun q => absurd q (by decide))
      refine ev_iconst (pc := 99) (v := nI 0) dX9_quotient_99 (by decide) ?_
      refine ev_callV (pc := 100) (As := [.int (nI q), .int (nI 0)]) dX9_quotient_100 cv_X9_91 rfl rfl (rg_M hR2) rfl ⟨by show 19 + 6 ≤ w; omega, show ev_Ca _ _ (w - 25) _ _ _ _ _ _ from g_twice (by omega) hR2 hq (by decide) (by rw [s3, ← e2]; exact qb1)⟩ rfl rfl (fun r h1 hp => ?_)
      obtain ⟨rfl, hR3, hF3⟩ := hp
      refine ev_iinc (pc := 103) dX9_quotient_103 rfl rfl ?_
      refine ev_goto (pc := 106) (tgt := 24) dX9_quotient_106 (by decide) ?_
      refine ev_vs [(0, .ref M), (1, .int (nI n)), (2, .int (nI b)), (3, .int (nI q)), (4, .int (nI r)), (5, .int (nI j - nI 1))] ⟨rfl, rfl, rfl, rfl, rfl, ev_s1e (mi_m1 j), trivial⟩ ?_
      refine l_quo hd hw hn hb hq hr hqn hqb hrn hrb hqr h0 hN hK j _ (by omega) ⟨_, hR3, (hF.tr hF2).tr hF3, ?_, ?_, fun i a b => ?_⟩
      · rw [va_up_self, s3, t1]; rfl
      · rw [va_up_ne _ _ (Ne.symm hqr), s1, t2]
      · rw [va_up_ne _ _ a, s4 i a b]
    · have le := Nat.not_lt.mp (fun x => c3 (mi_cmplt.mpr x))
      obtain ⟨t1, t2⟩ := st1 le
      refine ev_iconst (pc := 69) (v := nI 1) dX9_quotient_69 (by decide) ?_
      refine ev_goto (pc := 70) (tgt := 74) dX9_quotient_70 (by decide) ?_
      refine ev_istore (pc := 74) dX9_quotient_74 rfl ?_
      refine ev_iload (pc := 76) dX9_quotient_76 rfl ?_
      refine ev_if_eqN (pc := 78) (tgt := 88) dX9_quotient_78 (by decide) (by decide) (fun q => absurd q (by decide)) (fun _ => ?_)
      refine ev_aload_n (pc := 81) dX9_quotient_81 rfl ?_
      refine ev_iload (pc := 82) dX9_quotient_82 rfl ?_
      refine ev_iload_n (pc := 84) dX9_quotient_84 rfl ?_
      refine ev_callV (pc := 85) (As := [.int (nI r), .int (nI b)]) dX9_quotient_85 cv_X9_98 rfl rfl (rg_M hR2) rfl ⟨by show 19 + 6 ≤ w; omega, show ev_Ca _ _ (w - 25) _ _ _ _ _ _ from g_sub (by omega) (by omega) hR2 hr hb hrb (by rw [s1, s2]; exact le)⟩ rfl rfl (fun r h1 hp => ?_)
      obtain ⟨rfl, hR3, hF3⟩ := hp
      have u1 : va_up v2 r (v2 r - v2 b) r = v n / 2 ^ j % v b := by rw [va_up_self, s1, s2, t2]
      have u2 : va_up v2 r (v2 r - v2 b) q = v n / 2 ^ (j + 1) / v b := by rw [va_up_ne _ _ hqr, s3]
      have u3 : ∀ i, i ≠ q → i ≠ r → va_up v2 r (v2 r - v2 b) i = v i := fun i a b => by rw [va_up_ne _ _ b, s4 i a b]
      generalize va_up v2 r (v2 r - v2 b) = v3 at *
      refine ev_aload_n (pc := 88) dX9_quotient_88 rfl ?_
      refine ev_iload_n (pc := 89) dX9_quotient_89 rfl ?_
      refine ev_iload (pc := 90) dX9_quotient_90 rfl ?_
      refine ev_if_eqN (pc := 92) (tgt := 99) dX9_quotient_92 (by decide) (by decide) (fun q => absurd q (by decide)) (fun _ => ?_)
      refine ev_iconst (pc := 95) (v := nI 1) dX9_quotient_95 (by decide) ?_
      refine ev_goto (pc := 96) (tgt := 100) dX9_quotient_96 (by decide) ?_
      refine ev_callV (pc := 100) (As := [.int (nI q), .int (nI 1)]) dX9_quotient_100 cv_X9_91 rfl rfl (rg_M hR3) rfl ⟨by show 19 + 6 ≤ w; omega, show ev_Ca _ _ (w - 25) _ _ _ _ _ _ from g_twice (by omega) hR3 hq (by decide) (by rw [u2, ← e2]; exact qb1)⟩ rfl rfl (fun r h1 hp => ?_)
      obtain ⟨rfl, hR4, hF4⟩ := hp
      refine ev_iinc (pc := 103) dX9_quotient_103 rfl rfl ?_
      refine ev_goto (pc := 106) (tgt := 24) dX9_quotient_106 (by decide) ?_
      refine ev_vs [(0, .ref M), (1, .int (nI n)), (2, .int (nI b)), (3, .int (nI q)), (4, .int (nI r)), (5, .int (nI j - nI 1))] ⟨rfl, rfl, rfl, rfl, rfl, ev_s1e (mi_m1 j), trivial⟩ ?_
      refine l_quo hd hw hn hb hq hr hqn hqb hrn hrb hqr h0 hN hK j _ (by omega) ⟨_, hR4, ((hF.tr hF2).tr hF3).tr hF4, ?_, ?_, fun i a b => ?_⟩
      · rw [va_up_self, u2, t1]
      · rw [va_up_ne _ _ (Ne.symm hqr), u1]
      · rw [va_up_ne _ _ a, u3 i a b]
theorem g_quo (hd : 3 ≤ dd) (hw : 60 ≤ w) (h : RG H M lm sz rest v) (hn : n < 47) (hb : b < 47) (hq : q < 47) (hr : r < 47) (hqn : q ≠ n) (hqb : q ≠ b) (hrn : r ≠ n) (hrb : r ≠ b) (hqr : q ≠ r) (h0 : 0 < v b) (hN : v n < 1073741824 ^ 139) : ev_Ca G dd w m_X9_quotient [.ref M, .int (nI n), .int (nI b), .int (nI q), .int (nI r)] H 0 0 (ev_ok (fun x h1 => x = none ∧ qpost H M lm sz rest v q r (v n / v b) (v n % v b) h1)) := by
  obtain ⟨dd, rfl⟩ : ∃ e, dd = e + 1 := ⟨dd - 1, by omega⟩
  refine ⟨by decide +kernel, rfl, ?_⟩
  obtain ⟨hM, L, s, c1, c2, hV⟩ := id h
  have eH := rp_id c1 c2
  refine ev_th eH.symm ?_
  refine ev_aload_n (pc := 0) dX9_quotient_0 rfl ?_
  refine ev_getf (pc := 1) dX9_quotient_1 f_X9_13 (rp_M hM) rfl ?_
  refine ev_iload_n (pc := 4) dX9_quotient_4 rfl ?_
  refine ev_iconst (pc := 5) (v := nI 0) dX9_quotient_5 (by decide) ?_
  refine ev_iast (pc := 6) dX9_quotient_6 rp_S (vp_in_nI hq (by decide)) ?_
  refine ev_th (rp_uS hq) ?_
  refine ev_aload_n (pc := 7) dX9_quotient_7 rfl ?_
  refine ev_getf (pc := 8) dX9_quotient_8 f_X9_13 (rp_M hM) rfl ?_
  refine ev_iload (pc := 11) dX9_quotient_11 rfl ?_
  refine ev_iconst (pc := 13) (v := nI 0) dX9_quotient_13 (by decide) ?_
  refine ev_iast (pc := 14) dX9_quotient_14 rp_S (vp_in_nI hr (by decide)) ?_
  refine ev_th (rp_uS hr) ?_
  have hV2 : RV L (va_up (va_up s q 0) r 0) (va_up (va_up v q 0) r 0) := by
    intro i hi
    by_cases x : i = r
    · subst x
      rw [va_up_self]
      have z : va_up (va_up s q 0) i 0 i = 0 := va_up_self _ _ _
      exact ⟨by rw [z]; decide, fun k hk => by rw [z] at hk; omega, fun q => by rw [z] at q; omega, by rw [z]; rfl⟩
    · rw [va_up_ne _ _ x]
      by_cases y : i = q
      · subst y
        rw [va_up_self]
        have z : va_up (va_up s i 0) r 0 i = 0 := by rw [va_up_ne _ _ x, va_up_self]
        exact ⟨by rw [z]; decide, fun k hk => by rw [z] at hk; omega, fun q => by rw [z] at q; omega, by rw [z]; rfl⟩
      · rw [va_up_ne _ _ y]
        exact rv_cg (hV i hi) (by rw [va_up_ne _ _ x, va_up_ne _ _ y]) (fun _ _ => rfl)
  obtain ⟨hR, hF⟩ := rg_rp hM hV2
  have en : va_up (va_up v q 0) r 0 n = v n := by rw [va_up_ne _ _ (Ne.symm hrn), va_up_ne _ _ (Ne.symm hqn)]
  generalize rp H lm sz L (va_up (va_up s q 0) r 0) = H2 at *
  refine ev_aload_n (pc := 15) dX9_quotient_15 rfl ?_
  refine ev_iload_n (pc := 16) dX9_quotient_16 rfl ?_
  refine ev_callV (pc := 17) (As := [.int (nI n)]) dX9_quotient_17 cv_X9_87 rfl rfl (rg_M hR) rfl ⟨by show 19 + 4 ≤ w; omega, show ev_Ca _ _ (w - 23) _ _ _ _ _ _ from g_bits (by omega) hR hn⟩ rfl rfl (fun r h1 hp => ?_)
  obtain ⟨rfl, hH⟩ := hp
  rw [hH, en]
  clear hH
  refine ev_iconst (pc := 20) (v := nI 1) dX9_quotient_20 (by decide) ?_
  refine ev_isub (pc := 21) dX9_quotient_21 ?_
  refine ev_istore (pc := 22) dX9_quotient_22 rfl ?_
  refine ev_vs [(0, .ref M), (1, .int (nI n)), (2, .int (nI b)), (3, .int (nI q)), (4, .int (nI r)), (5, .int (nI (mb_bits (v n)) - nI 1))] ⟨rfl, rfl, rfl, rfl, rfl, rfl, trivial⟩ ?_
  have big : v n / 2 ^ mb_bits (v n) = 0 := Nat.div_eq_of_lt (mb_bits_lt (Nat.le_refl _))
  refine l_quo (by omega) hw hn hb hq hr hqn hqb hrn hrb hqr h0 hN (fun h1 e => ⟨rfl, e⟩) (mb_bits (v n)) H2 (Nat.le_refl _) ⟨_, hR, hF, ?_, ?_, fun i a b => ?_⟩
  · rw [va_up_ne _ _ hqr, va_up_self, big, Nat.zero_div]
  · rw [va_up_self, big, Nat.zero_mod]
  · rw [va_up_ne _ _ b, va_up_ne _ _ a]
end REFC
