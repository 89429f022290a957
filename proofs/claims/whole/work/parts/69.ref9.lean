/-! THE REFERENCE: scale, divide -/
theorem ml_ushr {a : Nat} (h : a < 2 ^ 64) : ((lN a).toUInt64 >>> ((nI 30).toInt64.toUInt64 &&& Int64.toUInt64 63)).toInt64 = lN (a / 1073741824) := wb_shr (k := 30) h (by decide)
theorem ev_lushrN {G : ev_G} {C : ev_L} {w : Nat} {M : ev_M} {K : ev_K} {pc : Nat} {L : ev_V} {st : List Value} {h : ev_H} {c z x : Nat} (hd : decode M.2.1 pc = .ok (.lushr, 1)) (hl : x < 2 ^ 64) (k : ev_J G C w M K (pc + 1, L, .long (lN (x / 1073741824)) :: st, h, c, z)) : ev_J G C w M K (pc, L, .int (nI 30) :: .long (lN x) :: st, h, c, z) := ev_lushr hd (ev_tl (ml_ushr hl) k)
section REF9
variable {G : ev_G} {w : Nat} {h : ev_H} {M lm sz r o j k dd : Nat} {rest : List Value} {L s v : Nat → Nat}
theorem l_rscale {K : ev_K} {c z b : Nat} (hM : RM h M lm sz rest) (hr : r < 47) (hb : b < 1073741824) (hvr : rv L s r (v r))
    (hK : ∀ L1 cy, cy ≤ b → (∀ i, i < s r → L1 (140 * r + i) < 1073741824) → (∀ y, (y < 140 * r ∨ 140 * r + s r ≤ y) → L1 y = L y) → mb_v (fun k => L1 (140 * r + k)) (s r) + cy * 1073741824 ^ s r = mb_v (fun k => L (140 * r + k)) (s r) * b → ev_J G (ev_cc G dd w) w m_X9_scale K (67, ev_lf [(0, .ref M), (1, .int (nI r)), (3, .long (lN cy))], [], rp h lm sz L1 s, c, z)) :
    ∀ k j L1 cy, j + k = s r → cy ≤ b → (∀ i, i < j → L1 (140 * r + i) < 1073741824) → (∀ y, (y < 140 * r ∨ 140 * r + j ≤ y) → L1 y = L y) → mb_v (fun k => L1 (140 * r + k)) j + cy * 1073741824 ^ j = mb_v (fun k => L (140 * r + k)) j * b → ev_J G (ev_cc G dd w) w m_X9_scale K (9, ev_lf [(0, .ref M), (1, .int (nI r)), (2, .int (nI b)), (3, .long (lN cy)), (5, .int (nI (140 * r + j)))], [], rp h lm sz L1 s, c, z)
  | 0, j, L1, cy, e, hc, e1, e2, e3 => by
    have a1 := hvr.1
    refine ev_iload (pc := 9) dX9_scale_9 rfl ?_
    refine ev_sipush (pc := 11) (v := nI 140) dX9_scale_11 (by decide) ?_
    refine ev_iload_n (pc := 14) dX9_scale_14 rfl ?_
    refine ev_imulN (pc := 15) dX9_scale_15 ?_
    refine ev_aload_n (pc := 16) dX9_scale_16 rfl ?_
    refine ev_getf (pc := 17) dX9_scale_17 f_X9_13 (rp_M hM) rfl ?_
    refine ev_iload_n (pc := 20) dX9_scale_20 rfl ?_
    refine ev_iaN (pc := 21) dX9_scale_21 rp_S (by omega) (by omega) ?_
    refine ev_iaddN (pc := 22) dX9_scale_22 ?_
    refine ev_icmp_geN (pc := 23) (tgt := 67) dX9_scale_23 (by decide) (by omega) (by omega) (fun c1 => ?_) (fun c1 => ?_)
    · refine ev_vs [(0, .ref M), (1, .int (nI r)), (3, .long (lN cy))] ⟨rfl, rfl, rfl, trivial⟩ ?_
      have : j = s r := by omega
      subst this
      exact hK L1 cy hc e1 e2 e3
    · omega
  | k + 1, j, L1, cy, e, hc, e1, e2, e3 => by
    have a1 := hvr.1
    have b1 := hvr.2.1 j (by omega)
    have ej : L1 (140 * r + j) = L (140 * r + j) := e2 _ (by omega)
    have bx : L1 (140 * r + j) * b ≤ 1073741823 * b := Nat.mul_le_mul_right _ (by omega)
    have ml : (L1 (140 * r + j) * b + cy) % 1073741824 < 1073741824 := Nat.mod_lt _ (by decide)
    have cl : (L1 (140 * r + j) * b + cy) / 1073741824 ≤ b := by
      rw [Nat.div_le_iff_le_mul_add_pred (by decide)]
      omega
    refine ev_iload (pc := 9) dX9_scale_9 rfl ?_
    refine ev_sipush (pc := 11) (v := nI 140) dX9_scale_11 (by decide) ?_
    refine ev_iload_n (pc := 14) dX9_scale_14 rfl ?_
    refine ev_imulN (pc := 15) dX9_scale_15 ?_
    refine ev_aload_n (pc := 16) dX9_scale_16 rfl ?_
    refine ev_getf (pc := 17) dX9_scale_17 f_X9_13 (rp_M hM) rfl ?_
    refine ev_iload_n (pc := 20) dX9_scale_20 rfl ?_
    refine ev_iaN (pc := 21) dX9_scale_21 rp_S (by omega) (by omega) ?_
    refine ev_iaddN (pc := 22) dX9_scale_22 ?_
    refine ev_icmp_geN (pc := 23) (tgt := 67) dX9_scale_23 (by decide) (by omega) (by omega) (fun c1 => ?_) (fun c1 => ?_)
    · omega
    · refine ev_aload_n (pc := 26) dX9_scale_26 rfl ?_
      refine ev_getf (pc := 27) dX9_scale_27 f_X9_7 (rp_M hM) rfl ?_
      refine ev_iload (pc := 30) dX9_scale_30 rfl ?_
      refine ev_iaN (pc := 32) dX9_scale_32 (rp_L hM) (by omega) (by omega) ?_
      refine ev_i2lN (pc := 33) dX9_scale_33 (by omega) ?_
      refine ev_iload_n (pc := 34) dX9_scale_34 rfl ?_
      refine ev_i2lN (pc := 35) dX9_scale_35 (by omega) ?_
      refine ev_lmulN (pc := 36) dX9_scale_36 ?_
      refine ev_lload_n (pc := 37) dX9_scale_37 rfl ?_
      refine ev_laddN (pc := 38) dX9_scale_38 ?_
      refine ev_lstore (pc := 39) dX9_scale_39 rfl ?_
      refine ev_aload_n (pc := 41) dX9_scale_41 rfl ?_
      refine ev_getf (pc := 42) dX9_scale_42 f_X9_7 (rp_M hM) rfl ?_
      refine ev_iload (pc := 45) dX9_scale_45 rfl ?_
      refine ev_lload (pc := 47) dX9_scale_47 rfl ?_
      refine ev_ldc2 (pc := 49) dX9_scale_49 k_X9_80 ?_
      refine ev_landN (pc := 52) dX9_scale_52 (by omega) ?_
      refine ev_l2iN (pc := 53) dX9_scale_53 ?_
      refine ev_iast (pc := 54) dX9_scale_54 (rp_L hM) (vp_in_nI (by omega) (by decide)) ?_
      refine ev_th (rp_uL hM (by omega)) ?_
      refine ev_lload (pc := 55) dX9_scale_55 rfl ?_
      refine ev_bipush (pc := 57) (v := nI 30) dX9_scale_57 (by decide) ?_
      refine ev_lushrN (pc := 59) dX9_scale_59 (by omega) ?_
      refine ev_lstore_n (pc := 60) dX9_scale_60 rfl ?_
      refine ev_iincN (pc := 61) dX9_scale_61 rfl rfl ?_
      refine ev_goto (pc := 64) (tgt := 9) dX9_scale_64 (by decide) ?_
      refine ev_vs [(0, .ref M), (1, .int (nI r)), (2, .int (nI b)), (3, .long (lN ((L1 (140 * r + j) * b + cy) / 1073741824))), (5, .int (nI (140 * r + (j + 1))))] ⟨rfl, rfl, rfl, rfl, rfl, trivial⟩ ?_
      refine l_rscale hM hr hb hvr hK k (j + 1) _ _ (by omega) cl (fun i hi => ?_) (fun y hy => ?_) ?_
      · unfold va_up
        split
        · exact ml
        · exact e1 i (by omega)
      · unfold va_up; rw [if_neg (by omega)]; exact e2 y (by omega)
      · rw [va_sh]
        exact mb_shl1 (f := fun k => L1 (140 * r + k)) (g := fun k => L (140 * r + k)) ej e3
theorem k_rscale {b : Nat} (hd : 2 ≤ dd) (hw : 30 ≤ w) (hM : RM h M lm sz rest) (hr : r < 47) (hb : b < 1073741824) (hV : RV L s v) (hs : v r < 1073741824 ^ 139) : ev_Ca G dd w m_X9_scale [.ref M, .int (nI r), .int (nI b)] (rp h lm sz L s) 0 0 (ev_ok (fun y h1 => y = none ∧ ∃ L2 s2, h1 = rp h lm sz L2 s2 ∧ RV L2 s2 (va_up v r (v r * b)))) := by
  obtain ⟨dd, rfl⟩ : ∃ e, dd = e + 1 := ⟨dd - 1, by omega⟩
  refine ⟨by decide +kernel, rfl, ?_⟩
  have hvr := hV r hr
  have s1 := rv_n hvr hs
  have fin : ∀ L1 s1 V, (∀ i, i ≠ r → s1 i = s i) → (∀ y, (y < 140 * r ∨ 140 * r + 140 ≤ y) → L1 y = L y) → rw_ L1 s1 r (v r * b) → ev_hs V [(0, .ref M), (1, .int (nI r))] → ev_J G (ev_cc G dd w) w m_X9_scale (ev_ok (fun y h1 => y = none ∧ ∃ L2 s2, h1 = rp h lm sz L2 s2 ∧ RV L2 s2 (va_up v r (v r * b)))) (102, V, [], rp h lm sz L1 s1, 0, 0) := by
    intro L1 s1 V g1 g2 g3 g4
    refine ev_vs [(0, .ref M), (1, .int (nI r))] g4 ?_
    refine ev_aload_n (pc := 102) dX9_scale_102 rfl ?_
    refine ev_iload_n (pc := 103) dX9_scale_103 rfl ?_
    refine ev_callV (pc := 104) (As := [.int (nI r)]) dX9_scale_104 cv_X9_82 rfl rfl (rp_M hM) rfl ⟨by show 19 + 2 ≤ w; omega, show ev_Ca _ _ (w - 21) _ _ _ _ _ _ from k_rtrim (v := v) (x := v r * b) (by omega) hM hr (fun i hi q => rv_cg (hV i hi) (g1 i q) (fun k hk => g2 _ (by have := (hV i hi).1; omega))) g3⟩ rfl rfl (fun r h1 hp => ?_)
    obtain ⟨rfl, s2, rfl, hV2⟩ := hp
    exact ev_vret (pc := 107) dX9_scale_107 rfl ⟨rfl, L1, s2, rfl, hV2⟩
  refine ev_lconst (pc := 0) (v := lN 0) dX9_scale_0 (by decide) ?_
  refine ev_lstore_n (pc := 1) dX9_scale_1 rfl ?_
  refine ev_sipush (pc := 2) (v := nI 140) dX9_scale_2 (by decide) ?_
  refine ev_iload_n (pc := 5) dX9_scale_5 rfl ?_
  refine ev_imulN (pc := 6) dX9_scale_6 ?_
  refine ev_istore (pc := 7) dX9_scale_7 rfl ?_
  refine ev_vs [(0, .ref M), (1, .int (nI r)), (2, .int (nI b)), (3, .long (lN 0)), (5, .int (nI (140 * r + 0)))] ⟨rfl, rfl, rfl, rfl, rfl, trivial⟩ ?_
  refine l_rscale hM hr hb hvr (fun L1 cy hc e1 e2 e3 => ?_) (s r) 0 L 0 (by omega) (Nat.zero_le b) (fun i hi => absurd hi (Nat.not_lt_zero i)) (fun _ _ => rfl) (by rw [Nat.zero_mul, mb_v0, Nat.zero_mul])
  rw [hvr.2.2.2] at e3
  refine ev_lload_n (pc := 67) dX9_scale_67 rfl ?_
  refine ev_lconst (pc := 68) (v := lN 0) dX9_scale_68 (by decide) ?_
  refine ev_lc_le (pc := 69) (tgt := 102) dX9_scale_69 dX9_scale_70 (by decide) (by omega) (by omega) (fun c1 => ?_) (fun c1 => ?_)
  · have c0 : cy = 0 := by omega
    rw [c0, Nat.zero_mul, Nat.add_zero] at e3
    exact fin L1 s _ (fun _ _ => rfl) (fun y hy => e2 y (by omega)) ⟨hvr.1, e1, e3⟩ ⟨rfl, rfl, trivial⟩
  · refine ev_aload_n (pc := 73) dX9_scale_73 rfl ?_
    refine ev_getf (pc := 74) dX9_scale_74 f_X9_7 (rp_M hM) rfl ?_
    refine ev_sipush (pc := 77) (v := nI 140) dX9_scale_77 (by decide) ?_
    refine ev_iload_n (pc := 80) dX9_scale_80 rfl ?_
    refine ev_imulN (pc := 81) dX9_scale_81 ?_
    refine ev_aload_n (pc := 82) dX9_scale_82 rfl ?_
    refine ev_getf (pc := 83) dX9_scale_83 f_X9_13 (rp_M hM) rfl ?_
    refine ev_iload_n (pc := 86) dX9_scale_86 rfl ?_
    refine ev_iaN (pc := 87) dX9_scale_87 rp_S (by omega) (by omega) ?_
    refine ev_iaddN (pc := 88) dX9_scale_88 ?_
    refine ev_lload_n (pc := 89) dX9_scale_89 rfl ?_
    refine ev_l2iN (pc := 90) dX9_scale_90 ?_
    refine ev_iast (pc := 91) dX9_scale_91 (rp_L hM) (vp_in_nI (by omega) (by decide)) ?_
    refine ev_th (rp_uL hM (by omega)) ?_
    refine ev_aload_n (pc := 92) dX9_scale_92 rfl ?_
    refine ev_getf (pc := 93) dX9_scale_93 f_X9_13 (rp_M hM) rfl ?_
    refine ev_iload_n (pc := 96) dX9_scale_96 rfl ?_
    refine ev_dup2_11 (pc := 97) dX9_scale_97 rfl rfl ?_
    refine ev_iaN (pc := 98) dX9_scale_98 rp_S (by omega) (by omega) ?_
    refine ev_iconst (pc := 99) (v := nI 1) dX9_scale_99 (by decide) ?_
    refine ev_iaddN (pc := 100) dX9_scale_100 ?_
    refine ev_iast (pc := 101) dX9_scale_101 rp_S (vp_in_nI hr (by decide)) ?_
    refine ev_th (rp_uS hr) ?_
    refine fin _ _ _ (fun i hi => va_up_ne _ _ hi) (fun y hy => ?_) ⟨by rw [va_up_self]; omega, fun k hk => ?_, ?_⟩ ⟨rfl, rfl, trivial⟩
    · rw [va_up_ne _ _ (by omega)]; exact e2 y (by omega)
    · rw [va_up_self] at hk
      unfold va_up
      split
      · omega
      · exact e1 k (by omega)
    · rw [va_up_self, va_sh, mb_vs, va_up_self, mb_upo (Nat.le_refl _)]
      exact e3
theorem l_rdivide {K : ev_K} {c z b : Nat} (hM : RM h M lm sz rest) (hr : r < 47) (hr0 : 0 < r) (hb0 : 0 < b) (hb : b < 1073741824) (hvr : rv L s r (v r))
    (hK : ∀ L1, (∀ i, i < s r → L1 (140 * r + i) < 1073741824) → (∀ y, (y < 140 * r ∨ 140 * r + s r ≤ y) → L1 y = L y) → mb_v (fun k => L1 (140 * r + k)) (s r) = v r / b → ev_J G (ev_cc G dd w) w m_X9_divide K (69, ev_lf [(0, .ref M), (1, .int (nI r)), (3, .long (lN (v r % b)))], [], rp h lm sz L1 s, c, z)) :
    ∀ j L1 re, j ≤ s r → re < b → (∀ i, i < s r → L1 (140 * r + i) < 1073741824) → (∀ y, (y < 140 * r + j ∨ 140 * r + s r ≤ y) → L1 y = L y) → v r + b * mb_v (fun k => L (140 * r + k)) j = b * mb_v (fun k => L1 (140 * r + k)) (s r) + mb_v (fun k => L (140 * r + k)) j + re * 1073741824 ^ j → ev_J G (ev_cc G dd w) w m_X9_divide K (18, ev_lf [(0, .ref M), (1, .int (nI r)), (2, .int (nI b)), (3, .long (lN re)), (5, .int (nI (140 * r + j - 1)))], [], rp h lm sz L1 s, c, z)
  | 0, L1, re, e, hc, e1, e2, e3 => by
    refine ev_iload (pc := 18) dX9_divide_18 rfl ?_
    refine ev_sipush (pc := 20) (v := nI 140) dX9_divide_20 (by decide) ?_
    refine ev_iload_n (pc := 23) dX9_divide_23 rfl ?_
    refine ev_imulN (pc := 24) dX9_divide_24 ?_
    refine ev_icmp_ltN (pc := 25) (tgt := 69) dX9_divide_25 (by decide) (by omega) (by omega) (fun c1 => ?_) (fun c1 => ?_)
    · rw [Nat.pow_zero, Nat.mul_one, mb_v0, Nat.mul_zero, Nat.add_zero, Nat.add_zero] at e3
      have m1 : v r % b = re := by rw [e3, Nat.mul_add_mod, Nat.mod_eq_of_lt hc]
      have m2 : v r / b = mb_v (fun k => L1 (140 * r + k)) (s r) := by rw [e3, Nat.mul_add_div hb0, Nat.div_eq_of_lt hc, Nat.add_zero]
      refine ev_vs [(0, .ref M), (1, .int (nI r)), (3, .long (lN (v r % b)))] ⟨rfl, rfl, by rw [m1]; rfl, trivial⟩ ?_
      exact hK L1 e1 (fun y hy => e2 y (by omega)) m2.symm
    · omega
  | j + 1, L1, re, e, hc, e1, e2, e3 => by
    have a1 := hvr.1
    have b1 := hvr.2.1 j (by omega)
    have ej : L1 (140 * r + j) = L (140 * r + j) := e2 _ (by omega)
    have ei : 140 * r + (j + 1) - 1 = 140 * r + j := by omega
    have ylt : (re * 1073741824 + L1 (140 * r + j)) / b < 1073741824 := by
      rw [Nat.div_lt_iff_lt_mul hb0]
      have : (re + 1) * 1073741824 ≤ b * 1073741824 := Nat.mul_le_mul_right _ hc
      omega
    rw [ei]
    refine ev_iload (pc := 18) dX9_divide_18 rfl ?_
    refine ev_sipush (pc := 20) (v := nI 140) dX9_divide_20 (by decide) ?_
    refine ev_iload_n (pc := 23) dX9_divide_23 rfl ?_
    refine ev_imulN (pc := 24) dX9_divide_24 ?_
    refine ev_icmp_ltN (pc := 25) (tgt := 69) dX9_divide_25 (by decide) (by omega) (by omega) (fun c1 => ?_) (fun c1 => ?_)
    · omega
    · refine ev_lload_n (pc := 28) dX9_divide_28 rfl ?_
      refine ev_ldc2 (pc := 29) dX9_divide_29 k_X9_73 ?_
      refine ev_lmulN (pc := 32) dX9_divide_32 ?_
      refine ev_aload_n (pc := 33) dX9_divide_33 rfl ?_
      refine ev_getf (pc := 34) dX9_divide_34 f_X9_7 (rp_M hM) rfl ?_
      refine ev_iload (pc := 37) dX9_divide_37 rfl ?_
      refine ev_iaN (pc := 39) dX9_divide_39 (rp_L hM) (by omega) (by omega) ?_
      refine ev_i2lN (pc := 40) dX9_divide_40 (by omega) ?_
      refine ev_laddN (pc := 41) dX9_divide_41 ?_
      refine ev_lstore (pc := 42) dX9_divide_42 rfl ?_
      refine ev_aload_n (pc := 44) dX9_divide_44 rfl ?_
      refine ev_getf (pc := 45) dX9_divide_45 f_X9_7 (rp_M hM) rfl ?_
      refine ev_iload (pc := 48) dX9_divide_48 rfl ?_
      refine ev_lload (pc := 50) dX9_divide_50 rfl ?_
      refine ev_iload_n (pc := 52) dX9_divide_52 rfl ?_
      refine ev_i2lN (pc := 53) dX9_divide_53 (by omega) ?_
      refine ev_ldivN (pc := 54) dX9_divide_54 (by omega) (by omega) (by omega) ?_
      refine ev_l2iN (pc := 55) dX9_divide_55 ?_
      refine ev_iast (pc := 56) dX9_divide_56 (rp_L hM) (vp_in_nI (by omega) (by decide)) ?_
      refine ev_th (rp_uL hM (by omega)) ?_
      refine ev_lload (pc := 57) dX9_divide_57 rfl ?_
      refine ev_iload_n (pc := 59) dX9_divide_59 rfl ?_
      refine ev_i2lN (pc := 60) dX9_divide_60 (by omega) ?_
      refine ev_lremN (pc := 61) dX9_divide_61 (by omega) (by omega) (by omega) ?_
      refine ev_lstore_n (pc := 62) dX9_divide_62 rfl ?_
      refine ev_iincD (pc := 63) dX9_divide_63 rfl rfl (by omega) ?_
      refine ev_goto (pc := 66) (tgt := 18) dX9_divide_66 (by decide) ?_
      refine ev_vs [(0, .ref M), (1, .int (nI r)), (2, .int (nI b)), (3, .long (lN ((re * 1073741824 + L1 (140 * r + j)) % b))), (5, .int (nI (140 * r + j - 1)))] ⟨rfl, rfl, rfl, rfl, rfl, trivial⟩ ?_
      refine l_rdivide hM hr hr0 hb0 hb hvr hK j _ _ (by omega) (Nat.mod_lt _ hb0) (fun i hi => ?_) (fun y hy => ?_) ?_
      · unfold va_up
        split
        · exact ylt
        · exact e1 i hi
      · unfold va_up; rw [if_neg (by omega)]; exact e2 y (by omega)
      · rw [va_sh]
        have u := mb_up (g := fun k => L1 (140 * r + k)) (k := j) (x := (re * 1073741824 + L1 (140 * r + j)) / b) (n := s r) (by omega)
        rw [mb_vs, Nat.pow_succ] at e3
        rw [ej] at u ⊢
        have dm := Nat.div_add_mod (re * 1073741824 + L (140 * r + j)) b
        generalize (re * 1073741824 + L (140 * r + j)) / b = y at *
        generalize (re * 1073741824 + L (140 * r + j)) % b = m at *
        generalize mb_v (va_up (fun k => L1 (140 * r + k)) j y) (s r) = V2 at *
        generalize mb_v (fun k => L1 (140 * r + k)) (s r) = V1 at *
        generalize mb_v (fun k => L (140 * r + k)) j = Lo at *
        generalize 1073741824 ^ j = p at *
        generalize L (140 * r + j) = x at *
        have u2 := congrArg (b * ·) u
        have dm2 := congrArg (· * p) dm
        simp only [Nat.mul_add, Nat.add_mul] at u2 dm2 e3
        have f1 : b * (y * p) = b * y * p := by ac_rfl
        have f2 : re * (p * 1073741824) = re * 1073741824 * p := by ac_rfl
        rw [f1] at u2
        rw [f2] at e3
        omega
theorem k_rdivide {b : Nat} (hd : 2 ≤ dd) (hw : 30 ≤ w) (hM : RM h M lm sz rest) (hr : r < 47) (hr0 : 0 < r) (hb0 : 0 < b) (hb : b < 1073741824) (hV : RV L s v) : ev_Ca G dd w m_X9_divide [.ref M, .int (nI r), .int (nI b)] (rp h lm sz L s) 0 0 (ev_ok (fun y h1 => y = some (.int (nI (v r % b))) ∧ ∃ L2 s2, h1 = rp h lm sz L2 s2 ∧ RV L2 s2 (va_up v r (v r / b)))) := by
  obtain ⟨dd, rfl⟩ : ∃ e, dd = e + 1 := ⟨dd - 1, by omega⟩
  refine ⟨by decide +kernel, rfl, ?_⟩
  have hvr := hV r hr
  have a1 := hvr.1
  refine ev_lconst (pc := 0) (v := lN 0) dX9_divide_0 (by decide) ?_
  refine ev_lstore_n (pc := 1) dX9_divide_1 rfl ?_
  refine ev_sipush (pc := 2) (v := nI 140) dX9_divide_2 (by decide) ?_
  refine ev_iload_n (pc := 5) dX9_divide_5 rfl ?_
  refine ev_imulN (pc := 6) dX9_divide_6 ?_
  refine ev_aload_n (pc := 7) dX9_divide_7 rfl ?_
  refine ev_getf (pc := 8) dX9_divide_8 f_X9_13 (rp_M hM) rfl ?_
  refine ev_iload_n (pc := 11) dX9_divide_11 rfl ?_
  refine ev_iaN (pc := 12) dX9_divide_12 rp_S (by omega) (by omega) ?_
  refine ev_iaddN (pc := 13) dX9_divide_13 ?_
  refine ev_iconst (pc := 14) (v := nI 1) dX9_divide_14 (by decide) ?_
  refine ev_isubN (pc := 15) dX9_divide_15 (by omega) ?_
  refine ev_istore (pc := 16) dX9_divide_16 rfl ?_
  refine ev_vs [(0, .ref M), (1, .int (nI r)), (2, .int (nI b)), (3, .long (lN 0)), (5, .int (nI (140 * r + s r - 1)))] ⟨rfl, rfl, rfl, rfl, rfl, trivial⟩ ?_
  refine l_rdivide hM hr hr0 hb0 hb hvr (fun L1 e1 e2 e3 => ?_) (s r) L 0 (Nat.le_refl _) hb0 hvr.2.1 (fun _ _ => rfl) (by rw [Nat.zero_mul, hvr.2.2.2]; omega)
  refine ev_aload_n (pc := 69) dX9_divide_69 rfl ?_
  refine ev_iload_n (pc := 70) dX9_divide_70 rfl ?_
  refine ev_callV (pc := 71) (As := [.int (nI r)]) dX9_divide_71 cv_X9_82 rfl rfl (rp_M hM) rfl ⟨by show 19 + 2 ≤ w; omega, show ev_Ca _ _ (w - 21) _ _ _ _ _ _ from k_rtrim (v := v) (x := v r / b) (by omega) hM hr (fun i hi q => rv_cg (hV i hi) rfl (fun k hk => e2 _ (by have := (hV i hi).1; omega))) ⟨a1, e1, e3⟩⟩ rfl rfl (fun r h1 hp => ?_)
  obtain ⟨rfl, s2, rfl, hV2⟩ := hp
  refine ev_lload_n (pc := 74) dX9_divide_74 rfl ?_
  refine ev_l2iN (pc := 75) dX9_divide_75 ?_
  exact ev_iret (pc := 76) dX9_divide_76 rfl rfl ⟨rfl, L1, s2, rfl, hV2⟩
end REF9
