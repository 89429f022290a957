/-! THE REFERENCE: subtract, bits -/
theorem mi_sub3 (a b c : Int32) : a - b - c = a - (b + c) := by grind
theorem mi_sub0 {a b c : Nat} (h : b + c ≤ a) : nI a - nI b - nI c = nI (a - (b + c)) := by rw [mi_sub3, nI_add, pk_sub h]
theorem mi_subB {a b c d : Nat} (h : b + c ≤ a + d) : nI a - nI b - nI c + nI d = nI (a + d - (b + c)) := by
  rw [mi_sub3, ← pk_sub h, ← nI_add, ← nI_add]
  grind
theorem mi_neg {a b c : Nat} (h : a < b + c) (hc : b + c < 2 ^ 31) : ¬ (0 : Int32) ≤ nI a - nI b - nI c := by
  rw [mi_sub3, nI_add, Int32.le_iff_toInt_le, Int32.toInt_sub, nI_toInt hc, nI_toInt (show a < 2 ^ 31 by omega), Int.bmod_eq_of_le (by omega) (by omega)]
  show ¬ (0 : Int) ≤ _
  omega
section REF8
variable {G : ev_G} {w : Nat} {h : ev_H} {M lm sz r o j k dd : Nat} {rest : List Value} {L s v : Nat → Nat}
theorem l_rsub {K : ev_K} {c z : Nat} (hd : 1 ≤ dd) (hw : 30 ≤ w) (hM : RM h M lm sz rest) (hr : r < 47) (ho : o < 47) (hro : r ≠ o) (hvr : rv L s r (v r)) (hvo : rv L s o (v o))
    (hK : ∀ L1 bw, bw ≤ 1 → (∀ i, i < s r → L1 (140 * r + i) < 1073741824) → (∀ y, (y < 140 * r ∨ 140 * r + s r ≤ y) → L1 y = L y) → mb_v (fun k => L1 (140 * r + k)) (s r) + mb_v (rg L s o) (s r) = mb_v (fun k => L (140 * r + k)) (s r) + bw * 1073741824 ^ s r → ev_J G (ev_cc G dd w) w m_X9_subtract K (78, ev_lf [(0, .ref M), (1, .int (nI r))], [], rp h lm sz L1 s, c, z)) :
    ∀ k j L1 bw, j + k = s r → bw ≤ 1 → (∀ i, i < j → L1 (140 * r + i) < 1073741824) → (∀ y, (y < 140 * r ∨ 140 * r + j ≤ y) → L1 y = L y) → mb_v (fun k => L1 (140 * r + k)) j + mb_v (rg L s o) j = mb_v (fun k => L (140 * r + k)) j + bw * 1073741824 ^ j → ev_J G (ev_cc G dd w) w m_X9_subtract K (5, ev_lf [(0, .ref M), (1, .int (nI r)), (2, .int (nI o)), (3, .int (nI bw)), (4, .int (nI j))], [], rp h lm sz L1 s, c, z)
  | 0, j, L1, bw, e, hc, e1, e2, e3 => by
    have a1 := hvr.1
    refine ev_iload (pc := 5) dX9_subtract_5 rfl ?_
    refine ev_aload_n (pc := 7) dX9_subtract_7 rfl ?_
    refine ev_getf (pc := 8) dX9_subtract_8 f_X9_13 (rp_M hM) rfl ?_
    refine ev_iload_n (pc := 11) dX9_subtract_11 rfl ?_
    refine ev_iaN (pc := 12) dX9_subtract_12 rp_S (by omega) (by omega) ?_
    refine ev_icmp_geN (pc := 13) (tgt := 78) dX9_subtract_13 (by decide) (by omega) (by omega) (fun c1 => ?_) (fun c1 => ?_)
    · refine ev_vs [(0, .ref M), (1, .int (nI r))] ⟨rfl, rfl, trivial⟩ ?_
      have : j = s r := by omega
      subst this
      exact hK L1 bw hc e1 e2 e3
    · omega
  | k + 1, j, L1, bw, e, hc, e1, e2, e3 => by
    have a1 := hvr.1
    have b1 := hvr.2.1 j (by omega)
    have b2 := rg_lt hvo j
    have ej : L1 (140 * r + j) = L (140 * r + j) := e2 _ (by omega)
    have q2 : (if j < s o then L1 (140 * o + j) else 0) = rg L s o j := by
      unfold rg
      split
      · exact e2 _ (by omega)
      · rfl
    have next : ∀ bw2 y, bw2 ≤ 1 → y < 1073741824 → y + (bw + rg L s o j) = L (140 * r + j) + bw2 * 1073741824 → nI (L (140 * r + j)) - nI bw - nI (rg L s o j) + nI bw2 * nI 1073741824 = nI y → ev_J G (ev_cc G dd w) w m_X9_subtract K (51, ev_lf [(0, .ref M), (1, .int (nI r)), (2, .int (nI o)), (4, .int (nI j)), (5, .int (nI (L (140 * r + j)) - nI bw - nI (rg L s o j)))], [.int (nI bw2)], rp h lm sz L1 s, c, z) := by
      intro bw2 y g1 g2 g3 g4
      refine ev_istore_n (pc := 51) dX9_subtract_51 rfl ?_
      refine ev_aload_n (pc := 52) dX9_subtract_52 rfl ?_
      refine ev_getf (pc := 53) dX9_subtract_53 f_X9_7 (rp_M hM) rfl ?_
      refine ev_sipush (pc := 56) (v := nI 140) dX9_subtract_56 (by decide) ?_
      refine ev_iload_n (pc := 59) dX9_subtract_59 rfl ?_
      refine ev_imulN (pc := 60) dX9_subtract_60 ?_
      refine ev_iload (pc := 61) dX9_subtract_61 rfl ?_
      refine ev_iaddN (pc := 63) dX9_subtract_63 ?_
      refine ev_iload (pc := 64) dX9_subtract_64 rfl ?_
      refine ev_iload_n (pc := 66) dX9_subtract_66 rfl ?_
      refine ev_ldc (pc := 67) dX9_subtract_67 k_X9_86 ?_
      refine ev_imul (pc := 69) dX9_subtract_69 ?_
      refine ev_iadd (pc := 70) dX9_subtract_70 ?_
      refine ev_ti g4 ?_
      refine ev_iast (pc := 71) dX9_subtract_71 (rp_L hM) (vp_in_nI (by omega) (by decide)) ?_
      refine ev_th (rp_uL hM (by omega)) ?_
      refine ev_iincN (pc := 72) dX9_subtract_72 rfl rfl ?_
      refine ev_goto (pc := 75) (tgt := 5) dX9_subtract_75 (by decide) ?_
      refine ev_vs [(0, .ref M), (1, .int (nI r)), (2, .int (nI o)), (3, .int (nI bw2)), (4, .int (nI (j + 1)))] ⟨rfl, rfl, rfl, rfl, rfl, trivial⟩ ?_
      refine l_rsub hd hw hM hr ho hro hvr hvo hK k (j + 1) _ _ (by omega) g1 (fun i hi => ?_) (fun y hy => ?_) ?_
      · unfold va_up
        split
        · exact g2
        · exact e1 i (by omega)
      · unfold va_up; rw [if_neg (by omega)]; exact e2 y (by omega)
      · rw [va_sh, mb_vs, mb_vs, mb_vs, mb_upo (Nat.le_refl j), va_up_self, mb_pw]
        have f := congrArg (· * 1073741824 ^ j) g3
        simp only [Nat.add_mul] at f
        have f2 : bw2 * 1073741824 * 1073741824 ^ j = bw2 * (1073741824 ^ j * 1073741824) := by ac_rfl
        rw [f2] at f
        omega
    refine ev_iload (pc := 5) dX9_subtract_5 rfl ?_
    refine ev_aload_n (pc := 7) dX9_subtract_7 rfl ?_
    refine ev_getf (pc := 8) dX9_subtract_8 f_X9_13 (rp_M hM) rfl ?_
    refine ev_iload_n (pc := 11) dX9_subtract_11 rfl ?_
    refine ev_iaN (pc := 12) dX9_subtract_12 rp_S (by omega) (by omega) ?_
    refine ev_icmp_geN (pc := 13) (tgt := 78) dX9_subtract_13 (by decide) (by omega) (by omega) (fun c1 => ?_) (fun c1 => ?_)
    · omega
    · refine ev_aload_n (pc := 16) dX9_subtract_16 rfl ?_
      refine ev_getf (pc := 17) dX9_subtract_17 f_X9_7 (rp_M hM) rfl ?_
      refine ev_sipush (pc := 20) (v := nI 140) dX9_subtract_20 (by decide) ?_
      refine ev_iload_n (pc := 23) dX9_subtract_23 rfl ?_
      refine ev_imulN (pc := 24) dX9_subtract_24 ?_
      refine ev_iload (pc := 25) dX9_subtract_25 rfl ?_
      refine ev_iaddN (pc := 27) dX9_subtract_27 ?_
      refine ev_iaN (pc := 28) dX9_subtract_28 (rp_L hM) (by omega) (by omega) ?_
      rw [ej]
      refine ev_iload_n (pc := 29) dX9_subtract_29 rfl ?_
      refine ev_isub (pc := 30) dX9_subtract_30 ?_
      refine ev_aload_n (pc := 31) dX9_subtract_31 rfl ?_
      refine ev_iload_n (pc := 32) dX9_subtract_32 rfl ?_
      refine ev_iload (pc := 33) dX9_subtract_33 rfl ?_
      refine ev_callV (pc := 35) (As := [.int (nI o), .int (nI j)]) dX9_subtract_35 cv_X9_75 rfl rfl (rp_M hM) rfl ⟨by show 19 + 3 ≤ w; omega, show ev_Ca _ _ (w - 22) _ _ _ _ _ _ from k_limb (by omega) hM ho hvo.1 (by omega)⟩ rfl rfl (fun r h1 hp => ?_)
      obtain ⟨rfl, hH⟩ := hp
      rw [hH, q2]
      clear hH h1
      refine ev_isub (pc := 38) dX9_subtract_38 ?_
      refine ev_istore (pc := 39) dX9_subtract_39 rfl ?_
      refine ev_iload (pc := 41) dX9_subtract_41 rfl ?_
      rcases Nat.lt_or_ge (L (140 * r + j)) (bw + rg L s o j) with x | x
      · refine ev_if_ge (pc := 43) (tgt := 50) dX9_subtract_43 (by decide) (fun c2 => ?_) (fun c2 => ?_)
        · exact absurd c2 (mi_neg x (by omega))
        · refine ev_iconst (pc := 46) (v := nI 1) dX9_subtract_46 (by decide) ?_
          refine ev_goto (pc := 47) (tgt := 51) dX9_subtract_47 (by decide) ?_
          refine ev_vs [(0, .ref M), (1, .int (nI r)), (2, .int (nI o)), (4, .int (nI j)), (5, .int (nI (L (140 * r + j)) - nI bw - nI (rg L s o j)))] ⟨rfl, rfl, rfl, rfl, rfl, trivial⟩ ?_
          refine next 1 (L (140 * r + j) + 1073741824 - (bw + rg L s o j)) (by omega) (by omega) (by omega) ?_
          rw [pk_mul, Nat.one_mul, mi_subB (by omega)]
      · refine ev_if_ge (pc := 43) (tgt := 50) dX9_subtract_43 (by decide) (fun c2 => ?_) (fun c2 => ?_)
        · refine ev_iconst (pc := 50) (v := nI 0) dX9_subtract_50 (by decide) ?_
          refine ev_vs [(0, .ref M), (1, .int (nI r)), (2, .int (nI o)), (4, .int (nI j)), (5, .int (nI (L (140 * r + j)) - nI bw - nI (rg L s o j)))] ⟨rfl, rfl, rfl, rfl, rfl, trivial⟩ ?_
          refine next 0 (L (140 * r + j) - (bw + rg L s o j)) (by omega) (by omega) (by omega) ?_
          rw [pk_mul, Nat.zero_mul, mi_subB (by omega), Nat.add_zero]
        · exact absurd (by rw [mi_sub0 x]; exact nI_pos' (by omega)) c2
theorem k_rsub (hd : 2 ≤ dd) (hw : 30 ≤ w) (hM : RM h M lm sz rest) (hr : r < 47) (ho : o < 47) (hro : r ≠ o) (hV : RV L s v) (hle : v o ≤ v r) : ev_Ca G dd w m_X9_subtract [.ref M, .int (nI r), .int (nI o)] (rp h lm sz L s) 0 0 (ev_ok (fun y h1 => y = none ∧ ∃ L2 s2, h1 = rp h lm sz L2 s2 ∧ RV L2 s2 (va_up v r (v r - v o)))) := by
  obtain ⟨dd, rfl⟩ : ∃ e, dd = e + 1 := ⟨dd - 1, by omega⟩
  refine ⟨by decide +kernel, rfl, ?_⟩
  have hvr := hV r hr
  have hvo := hV o ho
  have lt : v r < 1073741824 ^ s r := by rw [← hvr.2.2.2]; exact mb_lt hvr.2.1
  have so : s o ≤ s r := rv_n hvo (by omega)
  refine ev_iconst (pc := 0) (v := nI 0) dX9_subtract_0 (by decide) ?_
  refine ev_istore_n (pc := 1) dX9_subtract_1 rfl ?_
  refine ev_iconst (pc := 2) (v := nI 0) dX9_subtract_2 (by decide) ?_
  refine ev_istore (pc := 3) dX9_subtract_3 rfl ?_
  refine ev_vs [(0, .ref M), (1, .int (nI r)), (2, .int (nI o)), (3, .int (nI 0)), (4, .int (nI 0))] ⟨rfl, rfl, rfl, rfl, rfl, trivial⟩ ?_
  refine l_rsub (by omega) hw hM hr ho hro hvr hvo (fun L1 bw hc e1 e2 e3 => ?_) (s r) 0 L 0 (by omega) (by decide) (fun i hi => absurd hi (Nat.not_lt_zero i)) (fun _ _ => rfl) (by rw [Nat.zero_mul]; rfl)
  rw [rg_v hvo so, hvr.2.2.2] at e3
  have l1 : mb_v (fun k => L1 (140 * r + k)) (s r) < 1073741824 ^ s r := mb_lt e1
  have b0 : bw = 0 := by
    rcases Nat.eq_zero_or_pos bw with q | q
    · exact q
    · rw [show bw = 1 by omega, Nat.one_mul] at e3; omega
  rw [b0, Nat.zero_mul] at e3
  refine ev_aload_n (pc := 78) dX9_subtract_78 rfl ?_
  refine ev_iload_n (pc := 79) dX9_subtract_79 rfl ?_
  refine ev_callV (pc := 80) (As := [.int (nI r)]) dX9_subtract_80 cv_X9_82 rfl rfl (rp_M hM) rfl ⟨by show 19 + 2 ≤ w; omega, show ev_Ca _ _ (w - 21) _ _ _ _ _ _ from k_rtrim (v := v) (x := v r - v o) (by omega) hM hr (fun i hi q => rv_cg (hV i hi) rfl (fun k hk => e2 _ (by have := (hV i hi).1; have := hvr.1; omega))) ⟨hvr.1, e1, by omega⟩⟩ rfl rfl (fun r h1 hp => ?_)
  obtain ⟨rfl, s2, rfl, hV2⟩ := hp
  exact ev_vret (pc := 83) dX9_subtract_83 rfl ⟨rfl, L1, s2, rfl, hV2⟩
theorem l_rbits {K : ev_K} {c z t b : Nat} {H : ev_H} {V0 : Value} (ht : t < 1073741824) (hK : ∀ n, t < 2 ^ n → (∀ m, m < n → 2 ^ m ≤ t) → K (.inl (some (.int (nI (b + n))))) H) :
    ∀ k n, n + k = 31 → (∀ m, m < n → 2 ^ m ≤ t) → ev_J G (ev_cc G dd w) w m_X9_bits K (58, ev_lf [(0, V0), (2, .int (nI (b + n))), (3, .int (nI (t / 2 ^ n)))], [], H, c, z)
  | 0, n, e, e1 => absurd (e1 30 (by omega)) (by omega)
  | k + 1, n, e, e1 => by
    have q := Nat.div_le_self t (2 ^ n)
    refine ev_iload_n (pc := 58) dX9_bits_58 rfl ?_
    refine ev_if_leN (pc := 59) (tgt := 72) dX9_bits_59 (by decide) (by omega) (fun c1 => ?_) (fun c1 => ?_)
    · refine ev_iload_n (pc := 72) dX9_bits_72 rfl ?_
      exact ev_iret (pc := 73) dX9_bits_73 rfl rfl (hK n (Nat.lt_of_div_eq_zero (Nat.pow_pos (by decide)) c1) e1)
    · refine ev_iincN (pc := 62) dX9_bits_62 rfl rfl ?_
      refine ev_iload_n (pc := 65) dX9_bits_65 rfl ?_
      refine ev_iconst (pc := 66) (v := nI 1) dX9_bits_66 (by decide) ?_
      refine ev_ishr (pc := 67) dX9_bits_67 (ev_ti (mi_shr (by omega) (by decide)) ?_)
      have eh : t / 2 ^ n / 2 ^ 1 = t / 2 ^ (n + 1) := by rw [Nat.pow_succ 2 n, Nat.div_div_eq_div_mul]
      rw [eh]
      refine ev_istore_n (pc := 68) dX9_bits_68 rfl ?_
      refine ev_goto (pc := 69) (tgt := 58) dX9_bits_69 (by decide) ?_
      refine ev_vs [(0, V0), (2, .int (nI (b + (n + 1)))), (3, .int (nI (t / 2 ^ (n + 1))))] ⟨rfl, rfl, rfl, trivial⟩ ?_
      refine l_rbits ht hK k (n + 1) (by omega) (fun m hm => ?_)
      by_cases x : m = n
      · rw [x]; exact (Nat.div_pos_iff.mp c1).2
      · exact e1 m (by omega)
theorem k_rbits {x : Nat} (hd : 1 ≤ dd) (hM : RM h M lm sz rest) (hr : r < 47) (hv : rv L s r x) : ev_Ca G dd w m_X9_bits [.ref M, .int (nI r)] (rp h lm sz L s) 0 0 (ev_ok (fun y h1 => y = some (.int (nI (mb_bits x))) ∧ h1 = rp h lm sz L s)) := by
  obtain ⟨dd, rfl⟩ : ∃ e, dd = e + 1 := ⟨dd - 1, by omega⟩
  refine ⟨by decide +kernel, rfl, ?_⟩
  have a1 := hv.1
  have zz := rv_z hv
  refine ev_aload_n (pc := 0) dX9_bits_0 rfl ?_
  refine ev_getf (pc := 1) dX9_bits_1 f_X9_13 (rp_M hM) rfl ?_
  refine ev_iload_n (pc := 4) dX9_bits_4 rfl ?_
  refine ev_iaN (pc := 5) dX9_bits_5 rp_S (by omega) (by omega) ?_
  refine ev_if_neN (pc := 6) (tgt := 13) dX9_bits_6 (by decide) (by omega) (fun c1 => ?_) (fun c1 => ?_)
  · have ge := rv_ge hv c1
    obtain ⟨n, hn⟩ : ∃ n, s r = n + 1 := ⟨s r - 1, by omega⟩
    have b1 := hv.2.1 n (by omega)
    refine ev_bipush (pc := 13) (v := nI 30) dX9_bits_13 (by decide) ?_
    refine ev_aload_n (pc := 15) dX9_bits_15 rfl ?_
    refine ev_getf (pc := 16) dX9_bits_16 f_X9_13 (rp_M hM) rfl ?_
    refine ev_iload_n (pc := 19) dX9_bits_19 rfl ?_
    refine ev_iaN (pc := 20) dX9_bits_20 rp_S (by omega) (by omega) ?_
    refine ev_iconst (pc := 21) (v := nI 1) dX9_bits_21 (by decide) ?_
    refine ev_isubN (pc := 22) dX9_bits_22 (by omega) ?_
    refine ev_imulN (pc := 23) dX9_bits_23 ?_
    refine ev_istore_n (pc := 24) dX9_bits_24 rfl ?_
    refine ev_aload_n (pc := 25) dX9_bits_25 rfl ?_
    refine ev_getf (pc := 26) dX9_bits_26 f_X9_13 (rp_M hM) rfl ?_
    refine ev_iload_n (pc := 29) dX9_bits_29 rfl ?_
    refine ev_iaN (pc := 30) dX9_bits_30 rp_S (by omega) (by omega) ?_
    refine ev_if_neN (pc := 31) (tgt := 38) dX9_bits_31 (by decide) (by omega) (fun c2 => ?_) (fun c2 => ?_)
    · refine ev_aload_n (pc := 38) dX9_bits_38 rfl ?_
      refine ev_getf (pc := 39) dX9_bits_39 f_X9_7 (rp_M hM) rfl ?_
      refine ev_sipush (pc := 42) (v := nI 140) dX9_bits_42 (by decide) ?_
      refine ev_iload_n (pc := 45) dX9_bits_45 rfl ?_
      refine ev_imulN (pc := 46) dX9_bits_46 ?_
      refine ev_aload_n (pc := 47) dX9_bits_47 rfl ?_
      refine ev_getf (pc := 48) dX9_bits_48 f_X9_13 (rp_M hM) rfl ?_
      refine ev_iload_n (pc := 51) dX9_bits_51 rfl ?_
      refine ev_iaN (pc := 52) dX9_bits_52 rp_S (by omega) (by omega) ?_
      refine ev_iaddN (pc := 53) dX9_bits_53 ?_
      refine ev_iconst (pc := 54) (v := nI 1) dX9_bits_54 (by decide) ?_
      refine ev_isubN (pc := 55) dX9_bits_55 (by omega) ?_
      refine ev_iaN (pc := 56) (i := 140 * r + s r - 1) dX9_bits_56 (rp_L hM) (by omega) (by decide) ?_
      refine ev_istore_n (pc := 57) dX9_bits_57 rfl ?_
      refine ev_vs [(0, .ref M), (2, .int (nI (30 * (s r - 1) + 0))), (3, .int (nI (L (140 * r + n) / 2 ^ 0)))] ⟨rfl, rfl, by rw [Nat.pow_zero, Nat.div_one, show 140 * r + s r - 1 = 140 * r + n by omega]; rfl, trivial⟩ ?_
      refine l_rbits b1 (fun m e1 e2 => ⟨?_, rfl⟩) 31 0 (by omega) (fun m hm => absurd hm (Nat.not_lt_zero m))
      have m0 : 0 < m := by
        rcases Nat.eq_zero_or_pos m with q | q
        · rw [q, Nat.pow_zero] at e1
          have t := hv.2.2.1 c1
          rw [hn, Nat.add_sub_cancel] at t
          omega
        · exact q
      obtain ⟨m, rfl⟩ : ∃ q, m = q + 1 := ⟨m - 1, by omega⟩
      have e3 := e2 m (by omega)
      have low := mb_lt (g := fun k => L (140 * r + k)) (n := n) (fun j hj => hv.2.1 j (by omega))
      have tot : mb_v (fun k => L (140 * r + k)) n + L (140 * r + n) * 1073741824 ^ n = x := by rw [← hv.2.2.2, hn]; rfl
      have pe : 1073741824 ^ n = 2 ^ (30 * n) := by rw [Nat.pow_mul]
      rw [pe] at low tot
      rw [show 30 * (s r - 1) + (m + 1) = 30 * n + m + 1 by omega]
      rw [mb_bits_of (k := 30 * n + m)]
      · rw [Nat.pow_add, ← tot, Nat.mul_comm]
        exact Nat.le_trans (Nat.mul_le_mul_right _ e3) (Nat.le_add_left _ _)
      · rw [show 30 * n + m + 1 = (m + 1) + 30 * n by omega, Nat.pow_add, ← tot]
        have := Nat.mul_le_mul_right (2 ^ (30 * n)) (show L (140 * r + n) + 1 ≤ 2 ^ (m + 1) from e1)
        rw [Nat.add_mul, Nat.one_mul] at this
        omega
    · omega
  · have x0 := zz.mp c1
    refine ev_iconst (pc := 9) (v := nI 0) dX9_bits_9 (by decide) ?_
    refine ev_goto (pc := 10) (tgt := 24) dX9_bits_10 (by decide) ?_
    refine ev_istore_n (pc := 24) dX9_bits_24 rfl ?_
    refine ev_aload_n (pc := 25) dX9_bits_25 rfl ?_
    refine ev_getf (pc := 26) dX9_bits_26 f_X9_13 (rp_M hM) rfl ?_
    refine ev_iload_n (pc := 29) dX9_bits_29 rfl ?_
    refine ev_iaN (pc := 30) dX9_bits_30 rp_S (by omega) (by omega) ?_
    refine ev_if_neN (pc := 31) (tgt := 38) dX9_bits_31 (by decide) (by omega) (fun c2 => ?_) (fun c2 => ?_)
    · omega
    · refine ev_iconst (pc := 34) (v := nI 0) dX9_bits_34 (by decide) ?_
      refine ev_goto (pc := 35) (tgt := 57) dX9_bits_35 (by decide) ?_
      refine ev_istore_n (pc := 57) dX9_bits_57 rfl ?_
      refine ev_iload_n (pc := 58) dX9_bits_58 rfl ?_
      refine ev_if_leN (pc := 59) (tgt := 72) dX9_bits_59 (by decide) (by decide) (fun _ => ?_) (fun q => absurd q (by decide))
      refine ev_iload_n (pc := 72) dX9_bits_72 rfl ?_
      exact ev_iret (pc := 73) dX9_bits_73 rfl rfl ⟨by rw [x0]; rfl, rfl⟩
end REF8
