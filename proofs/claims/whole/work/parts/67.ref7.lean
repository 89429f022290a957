/-! THE REFERENCE: add, compare -/
/-- the limbs of a register, zeros above -/
def rg (L s : Nat → Nat) (i k : Nat) : Nat := if k < s i then L (140 * i + k) else 0
theorem rg_v {L s : Nat → Nat} {i v n : Nat} (h : rv L s i v) (hn : s i ≤ n) : mb_v (rg L s i) n = v := by
  rw [mb_top (g := rg L s i) hn (fun j h1 _ => if_neg (by omega)), ← h.2.2.2]
  exact mb_congr (fun j hj => if_pos hj)
theorem rg_lt {L s : Nat → Nat} {i v : Nat} (h : rv L s i v) (k : Nat) : rg L s i k < 1073741824 := by
  unfold rg
  split
  · exact h.2.1 k (by assumption)
  · decide
section REF7
variable {G : ev_G} {w : Nat} {h : ev_H} {M lm sz r o j k dd : Nat} {rest : List Value} {L s v : Nat → Nat}
theorem l_radd {K : ev_K} {c z n : Nat} (hd : 1 ≤ dd) (hw : 30 ≤ w) (hM : RM h M lm sz rest) (hr : r < 47) (ho : o < 47) (hro : r ≠ o) (hvr : rv L s r (v r)) (hvo : rv L s o (v o)) (hn : n < 140)
    (hK : ∀ L1 cy, cy ≤ 1 → (∀ i, i < n → L1 (140 * r + i) < 1073741824) → (∀ y, (y < 140 * r ∨ 140 * r + n ≤ y) → L1 y = L y) → mb_v (fun k => L1 (140 * r + k)) n + cy * 1073741824 ^ n = mb_v (rg L s r) n + mb_v (rg L s o) n → ev_J G (ev_cc G dd w) w m_X9_add K (94, ev_lf [(0, .ref M), (1, .int (nI r)), (3, .int (nI n)), (4, .int (nI cy))], [], rp h lm sz L1 s, c, z)) :
    ∀ k j L1 cy, j + k = n → cy ≤ 1 → (∀ i, i < j → L1 (140 * r + i) < 1073741824) → (∀ y, (y < 140 * r ∨ 140 * r + j ≤ y) → L1 y = L y) → mb_v (fun k => L1 (140 * r + k)) j + cy * 1073741824 ^ j = mb_v (rg L s r) j + mb_v (rg L s o) j → ev_J G (ev_cc G dd w) w m_X9_add K (37, ev_lf [(0, .ref M), (1, .int (nI r)), (2, .int (nI o)), (3, .int (nI n)), (4, .int (nI cy)), (5, .int (nI j))], [], rp h lm sz L1 s, c, z)
  | 0, j, L1, cy, e, hc, e1, e2, e3 => by
    refine ev_iload (pc := 37) dX9_add_37 rfl ?_
    refine ev_iload_n (pc := 39) dX9_add_39 rfl ?_
    refine ev_icmp_geN (pc := 40) (tgt := 94) dX9_add_40 (by decide) (by omega) (by omega) (fun c1 => ?_) (fun c1 => ?_)
    · refine ev_vs [(0, .ref M), (1, .int (nI r)), (3, .int (nI n)), (4, .int (nI cy))] ⟨rfl, rfl, rfl, rfl, trivial⟩ ?_
      have : j = n := by omega
      subst this
      exact hK L1 cy hc e1 e2 e3
    · omega
  | k + 1, j, L1, cy, e, hc, e1, e2, e3 => by
    have b1 := rg_lt hvr j
    have b2 := rg_lt hvo j
    have q1 : (if j < s r then L1 (140 * r + j) else 0) = rg L s r j := by
      unfold rg
      split
      · exact e2 _ (by omega)
      · rfl
    have q2 : (if j < s o then L1 (140 * o + j) else 0) = rg L s o j := by
      unfold rg
      split
      · exact e2 _ (by omega)
      · rfl
    refine ev_iload (pc := 37) dX9_add_37 rfl ?_
    refine ev_iload_n (pc := 39) dX9_add_39 rfl ?_
    refine ev_icmp_geN (pc := 40) (tgt := 94) dX9_add_40 (by decide) (by omega) (by omega) (fun c1 => ?_) (fun c1 => ?_)
    · omega
    · refine ev_iload (pc := 43) dX9_add_43 rfl ?_
      refine ev_aload_n (pc := 45) dX9_add_45 rfl ?_
      refine ev_iload_n (pc := 46) dX9_add_46 rfl ?_
      refine ev_iload (pc := 47) dX9_add_47 rfl ?_
      refine ev_callV (pc := 49) (As := [.int (nI r), .int (nI j)]) dX9_add_49 cv_X9_75 rfl rfl (rp_M hM) rfl ⟨by show 19 + 3 ≤ w; omega, show ev_Ca _ _ (w - 22) _ _ _ _ _ _ from k_limb (by omega) hM hr hvr.1 (by omega)⟩ rfl rfl (fun r h1 hp => ?_)
      obtain ⟨rfl, hH⟩ := hp
      rw [hH, q1]
      clear hH h1
      refine ev_iaddN (pc := 52) dX9_add_52 ?_
      refine ev_aload_n (pc := 53) dX9_add_53 rfl ?_
      refine ev_iload_n (pc := 54) dX9_add_54 rfl ?_
      refine ev_iload (pc := 55) dX9_add_55 rfl ?_
      refine ev_callV (pc := 57) (As := [.int (nI o), .int (nI j)]) dX9_add_57 cv_X9_75 rfl rfl (rp_M hM) rfl ⟨by show 19 + 3 ≤ w; omega, show ev_Ca _ _ (w - 22) _ _ _ _ _ _ from k_limb (by omega) hM ho hvo.1 (by omega)⟩ rfl rfl (fun r h1 hp => ?_)
      obtain ⟨rfl, hH⟩ := hp
      rw [hH, q2]
      clear hH h1
      have dm := Nat.div_add_mod (cy + rg L s r j + rg L s o j) 1073741824
      have ml : (cy + rg L s r j + rg L s o j) % 1073741824 < 1073741824 := Nat.mod_lt _ (by decide)
      refine ev_iaddN (pc := 60) dX9_add_60 ?_
      refine ev_istore (pc := 61) dX9_add_61 rfl ?_
      refine ev_iload (pc := 63) dX9_add_63 rfl ?_
      refine ev_bipush (pc := 65) (v := nI 30) dX9_add_65 (by decide) ?_
      refine ev_iushrN (pc := 67) dX9_add_67 (by omega) ?_
      refine ev_istore (pc := 68) dX9_add_68 rfl ?_
      refine ev_aload_n (pc := 70) dX9_add_70 rfl ?_
      refine ev_getf (pc := 71) dX9_add_71 f_X9_7 (rp_M hM) rfl ?_
      refine ev_sipush (pc := 74) (v := nI 140) dX9_add_74 (by decide) ?_
      refine ev_iload_n (pc := 77) dX9_add_77 rfl ?_
      refine ev_imulN (pc := 78) dX9_add_78 ?_
      refine ev_iload (pc := 79) dX9_add_79 rfl ?_
      refine ev_iaddN (pc := 81) dX9_add_81 ?_
      refine ev_iload (pc := 82) dX9_add_82 rfl ?_
      refine ev_ldc (pc := 84) dX9_add_84 k_X9_79 ?_
      refine ev_iandN (pc := 86) dX9_add_86 (by omega) ?_
      refine ev_iast (pc := 87) dX9_add_87 (rp_L hM) (vp_in_nI (by omega) (by decide)) ?_
      refine ev_th (rp_uL hM (by omega)) ?_
      refine ev_iincN (pc := 88) dX9_add_88 rfl rfl ?_
      refine ev_goto (pc := 91) (tgt := 37) dX9_add_91 (by decide) ?_
      refine ev_vs [(0, .ref M), (1, .int (nI r)), (2, .int (nI o)), (3, .int (nI n)), (4, .int (nI ((cy + rg L s r j + rg L s o j) / 1073741824))), (5, .int (nI (j + 1)))] ⟨rfl, rfl, rfl, rfl, rfl, rfl, trivial⟩ ?_
      refine l_radd hd hw hM hr ho hro hvr hvo hn hK k (j + 1) _ _ (by omega) (by omega) (fun i hi => ?_) (fun y hy => ?_) ?_
      · unfold va_up
        split
        · exact ml
        · exact e1 i (by omega)
      · unfold va_up; rw [if_neg (by omega)]; exact e2 y (by omega)
      · rw [va_sh, mb_vs, mb_vs, mb_vs, mb_upo (Nat.le_refl j), va_up_self, mb_pw]
        have h1 := mb_cy (cy + rg L s r j + rg L s o j) (1073741824 ^ j)
        have h2 : (cy + rg L s r j + rg L s o j) * 1073741824 ^ j = cy * 1073741824 ^ j + rg L s r j * 1073741824 ^ j + rg L s o j * 1073741824 ^ j := by rw [Nat.add_mul, Nat.add_mul]
        omega
theorem k_radd (hd : 2 ≤ dd) (hw : 30 ≤ w) (hM : RM h M lm sz rest) (hr : r < 47) (ho : o < 47) (hro : r ≠ o) (hV : RV L s v) (b1 : v r < 1073741824 ^ 139) (b2 : v o < 1073741824 ^ 139) : ev_Ca G dd w m_X9_add [.ref M, .int (nI r), .int (nI o)] (rp h lm sz L s) 0 0 (ev_ok (fun y h1 => y = none ∧ ∃ L2 s2, h1 = rp h lm sz L2 s2 ∧ RV L2 s2 (va_up v r (v r + v o)))) := by
  obtain ⟨dd, rfl⟩ : ∃ e, dd = e + 1 := ⟨dd - 1, by omega⟩
  refine ⟨by decide +kernel, rfl, ?_⟩
  have hvr := hV r hr
  have hvo := hV o ho
  have z1 := rv_n hvr b1
  have z2 := rv_n hvo b2
  have fin : ∀ n, n = max (s r) (s o) → ev_J G (ev_cc G dd w) w m_X9_add (ev_ok (fun y h1 => y = none ∧ ∃ L2 s2, h1 = rp h lm sz L2 s2 ∧ RV L2 s2 (va_up v r (v r + v o)))) (30, ev_lf [(0, .ref M), (1, .int (nI r)), (2, .int (nI o))], [.int (nI n)], rp h lm sz L s, 0, 0) := by
    intro n hn
    have hn1 : s r ≤ n := by omega
    have hn2 : s o ≤ n := by omega
    refine ev_istore_n (pc := 30) dX9_add_30 rfl ?_
    refine ev_iconst (pc := 31) (v := nI 0) dX9_add_31 (by decide) ?_
    refine ev_istore (pc := 32) dX9_add_32 rfl ?_
    refine ev_iconst (pc := 34) (v := nI 0) dX9_add_34 (by decide) ?_
    refine ev_istore (pc := 35) dX9_add_35 rfl ?_
    refine ev_vs [(0, .ref M), (1, .int (nI r)), (2, .int (nI o)), (3, .int (nI n)), (4, .int (nI 0)), (5, .int (nI 0))] ⟨rfl, rfl, rfl, rfl, rfl, rfl, trivial⟩ ?_
    refine l_radd (by omega) hw hM hr ho hro hvr hvo (by omega) (fun L1 cy hc e1 e2 e3 => ?_) n 0 L 0 (by omega) (by decide) (fun i hi => absurd hi (Nat.not_lt_zero i)) (fun _ _ => rfl) (by rw [Nat.zero_mul]; rfl)
    rw [rg_v hvr hn1, rg_v hvo hn2] at e3
    have big : 0 < n → 1073741824 ^ (n - 1) ≤ v r + v o := by
      intro q
      rcases Nat.lt_or_ge (s r) (s o) with x | x
      · have := rv_ge hvo (by omega)
        rw [show n = s o by omega]; omega
      · have := rv_ge hvr (by omega)
        rw [show n = s r by omega]; omega
    refine ev_aload_n (pc := 94) dX9_add_94 rfl ?_
    refine ev_getf (pc := 95) dX9_add_95 f_X9_13 (rp_M hM) rfl ?_
    refine ev_iload_n (pc := 98) dX9_add_98 rfl ?_
    refine ev_iload_n (pc := 99) dX9_add_99 rfl ?_
    refine ev_iast (pc := 100) dX9_add_100 rp_S (vp_in_nI hr (by decide)) ?_
    refine ev_th (rp_uS hr) ?_
    refine ev_iload (pc := 101) dX9_add_101 rfl ?_
    refine ev_if_leN (pc := 103) (tgt := 130) dX9_add_103 (by decide) (by omega) (fun c1 => ?_) (fun c1 => ?_)
    · rw [c1, Nat.zero_mul, Nat.add_zero] at e3
      refine ev_vret (pc := 130) dX9_add_130 rfl ⟨rfl, L1, _, rfl, rv_up (fun i hi _ => hV i hi) (fun i hi => va_up_ne _ _ hi) (fun y hy => e2 y (by omega)) ⟨by rw [va_up_self]; omega, by rw [va_up_self]; exact e1, fun q => ?_, by rw [va_up_self]; exact e3⟩⟩
      rw [va_up_self] at q ⊢
      exact mb_top1 (g := fun k => L1 (140 * r + k)) e1 q (by rw [e3]; exact big q)
    · have c2 : cy = 1 := by omega
      subst c2
      refine ev_aload_n (pc := 106) dX9_add_106 rfl ?_
      refine ev_getf (pc := 107) dX9_add_107 f_X9_7 (rp_M hM) rfl ?_
      refine ev_sipush (pc := 110) (v := nI 140) dX9_add_110 (by decide) ?_
      refine ev_iload_n (pc := 113) dX9_add_113 rfl ?_
      refine ev_imulN (pc := 114) dX9_add_114 ?_
      refine ev_iload_n (pc := 115) dX9_add_115 rfl ?_
      refine ev_iaddN (pc := 116) dX9_add_116 ?_
      refine ev_iload (pc := 117) dX9_add_117 rfl ?_
      refine ev_iast (pc := 119) dX9_add_119 (rp_L hM) (vp_in_nI (by omega) (by decide)) ?_
      refine ev_th (rp_uL hM (by omega)) ?_
      refine ev_aload_n (pc := 120) dX9_add_120 rfl ?_
      refine ev_getf (pc := 121) dX9_add_121 f_X9_13 (rp_M hM) rfl ?_
      refine ev_iload_n (pc := 124) dX9_add_124 rfl ?_
      refine ev_dup2_11 (pc := 125) dX9_add_125 rfl rfl ?_
      refine ev_iaN (pc := 126) dX9_add_126 rp_S (by omega) (by omega) ?_
      refine ev_iconst (pc := 127) (v := nI 1) dX9_add_127 (by decide) ?_
      refine ev_iaddN (pc := 128) dX9_add_128 ?_
      refine ev_iast (pc := 129) dX9_add_129 rp_S (vp_in_nI hr (by decide)) ?_
      refine ev_th (rp_uS hr) ?_
      refine ev_vret (pc := 130) dX9_add_130 rfl ⟨rfl, _, _, rfl, rv_up (fun i hi _ => hV i hi) (fun i hi => (va_up_ne _ _ hi).trans (va_up_ne _ _ hi)) (fun y hy => ?_) ⟨by rw [va_up_self, va_up_self]; omega, fun k hk => ?_, fun _ => ?_, ?_⟩⟩
      · rw [va_up_ne _ _ (by omega)]; exact e2 y (by omega)
      · rw [va_up_self, va_up_self] at hk
        unfold va_up
        split
        · decide
        · exact e1 k (by omega)
      · rw [va_up_self, va_up_self, Nat.add_sub_cancel, va_up_self]; decide
      · rw [va_up_self, va_up_self, va_sh, mb_vs, va_up_self, mb_upo (Nat.le_refl n)]
        exact e3
  refine ev_aload_n (pc := 0) dX9_add_0 rfl ?_
  refine ev_getf (pc := 1) dX9_add_1 f_X9_13 (rp_M hM) rfl ?_
  refine ev_iload_n (pc := 4) dX9_add_4 rfl ?_
  refine ev_iaN (pc := 5) dX9_add_5 rp_S (by omega) (by omega) ?_
  refine ev_aload_n (pc := 6) dX9_add_6 rfl ?_
  refine ev_getf (pc := 7) dX9_add_7 f_X9_13 (rp_M hM) rfl ?_
  refine ev_iload_n (pc := 10) dX9_add_10 rfl ?_
  refine ev_iaN (pc := 11) dX9_add_11 rp_S (by omega) (by omega) ?_
  refine ev_icmp_leN (pc := 12) (tgt := 24) dX9_add_12 (by decide) (by omega) (by omega) (fun c1 => ?_) (fun c1 => ?_)
  · refine ev_aload_n (pc := 24) dX9_add_24 rfl ?_
    refine ev_getf (pc := 25) dX9_add_25 f_X9_13 (rp_M hM) rfl ?_
    refine ev_iload_n (pc := 28) dX9_add_28 rfl ?_
    refine ev_iaN (pc := 29) dX9_add_29 rp_S (by omega) (by omega) ?_
    exact fin (s o) (by omega)
  · refine ev_aload_n (pc := 15) dX9_add_15 rfl ?_
    refine ev_getf (pc := 16) dX9_add_16 f_X9_13 (rp_M hM) rfl ?_
    refine ev_iload_n (pc := 19) dX9_add_19 rfl ?_
    refine ev_iaN (pc := 20) dX9_add_20 rp_S (by omega) (by omega) ?_
    refine ev_goto (pc := 21) (tgt := 30) dX9_add_21 (by decide) ?_
    exact fin (s r) (by omega)
theorem l_cmp {K : ev_K} {c z : Nat} (hM : RM h M lm sz rest) (hr : r < 47) (ho : o < 47) (hvr : rv L s r (v r)) (hvo : rv L s o (v o)) (hs : s r = s o)
    (hK : K (.inl (some (.int (mi_cmp (v r) (v o))))) (rp h lm sz L s)) :
    ∀ j, j ≤ s r → (∀ i, j ≤ i → i < s r → L (140 * r + i) = L (140 * o + i)) → ev_J G (ev_cc G dd w) w m_X9_compare K (45, ev_lf [(0, .ref M), (1, .int (nI r)), (2, .int (nI o)), (3, .int (nI j - nI 1))], [], rp h lm sz L s, c, z)
  | 0, hj, e => by
    have eq : v r = v o := by
      rw [← hvr.2.2.2, ← hvo.2.2.2, hs]
      exact mb_congr (fun j hj => e j (Nat.zero_le j) (by omega))
    refine ev_iload_n (pc := 45) dX9_compare_45 rfl ?_
    refine ev_if_lt (pc := 46) (tgt := 82) dX9_compare_46 (by decide) (fun c1 => ?_) (fun c1 => ?_)
    · refine ev_iload_n (pc := 82) dX9_compare_82 rfl ?_
      refine ev_if_ge (pc := 83) (tgt := 90) dX9_compare_83 (by decide) (fun c2 => ?_) (fun c2 => ?_)
      · exact absurd c2 (by decide)
      · refine ev_iconst (pc := 86) (v := nI 0) dX9_compare_86 (by decide) ?_
        refine ev_goto (pc := 87) (tgt := 122) dX9_compare_87 (by decide) ?_
        refine ev_ti (y := mi_cmp (v r) (v o)) ?_ ?_
        · unfold mi_cmp; rw [if_neg (by omega), if_pos eq]; rfl
        · exact ev_iret (pc := 122) dX9_compare_122 rfl rfl hK
    · exact absurd (by decide) c1
  | j + 1, hj, e => by
    have b1 := hvr.2.1 j (by omega)
    have b2 := hvo.2.1 j (by omega)
    have ej : nI (j + 1) - nI 1 = nI j := pk_sub (show 1 ≤ j + 1 by omega)
    have jb := hvr.1
    rw [ej]
    refine ev_iload_n (pc := 45) dX9_compare_45 rfl ?_
    refine ev_if_ltN (pc := 46) (tgt := 82) dX9_compare_46 (by decide) (by omega) ?_
    refine ev_aload_n (pc := 49) dX9_compare_49 rfl ?_
    refine ev_getf (pc := 50) dX9_compare_50 f_X9_7 (rp_M hM) rfl ?_
    refine ev_sipush (pc := 53) (v := nI 140) dX9_compare_53 (by decide) ?_
    refine ev_iload_n (pc := 56) dX9_compare_56 rfl ?_
    refine ev_imulN (pc := 57) dX9_compare_57 ?_
    refine ev_iload_n (pc := 58) dX9_compare_58 rfl ?_
    refine ev_iaddN (pc := 59) dX9_compare_59 ?_
    refine ev_iaN (pc := 60) dX9_compare_60 (rp_L hM) (by omega) (by omega) ?_
    refine ev_aload_n (pc := 61) dX9_compare_61 rfl ?_
    refine ev_getf (pc := 62) dX9_compare_62 f_X9_7 (rp_M hM) rfl ?_
    refine ev_sipush (pc := 65) (v := nI 140) dX9_compare_65 (by decide) ?_
    refine ev_iload_n (pc := 68) dX9_compare_68 rfl ?_
    refine ev_imulN (pc := 69) dX9_compare_69 ?_
    refine ev_iload_n (pc := 70) dX9_compare_70 rfl ?_
    refine ev_iaddN (pc := 71) dX9_compare_71 ?_
    refine ev_iaN (pc := 72) dX9_compare_72 (rp_L hM) (by omega) (by omega) ?_
    refine ev_icmp_neN (pc := 73) (tgt := 82) dX9_compare_73 (by decide) (by omega) (by omega) (fun c1 => ?_) (fun c1 => ?_)
    · refine ev_iload_n (pc := 82) dX9_compare_82 rfl ?_
      refine ev_if_geN (pc := 83) (tgt := 90) dX9_compare_83 (by decide) (by omega) ?_
      refine ev_aload_n (pc := 90) dX9_compare_90 rfl ?_
      refine ev_getf (pc := 91) dX9_compare_91 f_X9_7 (rp_M hM) rfl ?_
      refine ev_sipush (pc := 94) (v := nI 140) dX9_compare_94 (by decide) ?_
      refine ev_iload_n (pc := 97) dX9_compare_97 rfl ?_
      refine ev_imulN (pc := 98) dX9_compare_98 ?_
      refine ev_iload_n (pc := 99) dX9_compare_99 rfl ?_
      refine ev_iaddN (pc := 100) dX9_compare_100 ?_
      refine ev_iaN (pc := 101) dX9_compare_101 (rp_L hM) (by omega) (by omega) ?_
      refine ev_aload_n (pc := 102) dX9_compare_102 rfl ?_
      refine ev_getf (pc := 103) dX9_compare_103 f_X9_7 (rp_M hM) rfl ?_
      refine ev_sipush (pc := 106) (v := nI 140) dX9_compare_106 (by decide) ?_
      refine ev_iload_n (pc := 109) dX9_compare_109 rfl ?_
      refine ev_imulN (pc := 110) dX9_compare_110 ?_
      refine ev_iload_n (pc := 111) dX9_compare_111 rfl ?_
      refine ev_iaddN (pc := 112) dX9_compare_112 ?_
      refine ev_iaN (pc := 113) dX9_compare_113 (rp_L hM) (by omega) (by omega) ?_
      have below : ∀ a b, L (140 * a + j) < L (140 * b + j) → rv L s a (v a) → rv L s b (v b) → s a = s b → j < s a → (∀ i, j + 1 ≤ i → i < s a → L (140 * a + i) = L (140 * b + i)) → v a < v b := by
        intro a b q1 q2 q3 q4 q5 q6
        rw [← q2.2.2.2, ← q3.2.2.2, ← q4]
        exact mb_cmp (i := j) q5 q2.2.1 (fun i h1 h2 => q6 i h1 h2) q1
      refine ev_icmp_geN (pc := 114) (tgt := 121) dX9_compare_114 (by decide) (by omega) (by omega) (fun c2 => ?_) (fun c2 => ?_)
      · have lt := below o r (by omega) hvo hvr hs.symm (by omega) (fun i h1 h2 => (e i h1 (by omega)).symm)
        refine ev_iconst (pc := 121) (v := nI 1) dX9_compare_121 (by decide) ?_
        refine ev_ti (y := mi_cmp (v r) (v o)) ?_ ?_
        · unfold mi_cmp; rw [if_neg (by omega), if_neg (by omega)]; rfl
        · exact ev_iret (pc := 122) dX9_compare_122 rfl rfl hK
      · have lt := below r o c2 hvr hvo hs (by omega) e
        refine ev_iconst (pc := 117) (v := -1) dX9_compare_117 (by decide) ?_
        refine ev_goto (pc := 118) (tgt := 122) dX9_compare_118 (by decide) ?_
        refine ev_ti (y := mi_cmp (v r) (v o)) ?_ ?_
        · unfold mi_cmp; rw [if_pos lt]
        · exact ev_iret (pc := 122) dX9_compare_122 rfl rfl hK
    · refine ev_iinc (pc := 76) dX9_compare_76 rfl rfl ?_
      refine ev_goto (pc := 79) (tgt := 45) dX9_compare_79 (by decide) ?_
      refine ev_vs [(0, .ref M), (1, .int (nI r)), (2, .int (nI o)), (3, .int (nI j - nI 1))] ⟨rfl, rfl, rfl, ev_s1e (mi_m1 j), trivial⟩ ?_
      refine l_cmp hM hr ho hvr hvo hs hK j (by omega) (fun i h1 h2 => ?_)
      by_cases q : i = j
      · rw [q]; exact c1
      · exact e i (by omega) h2
theorem k_rcmp (hd : 1 ≤ dd) (hM : RM h M lm sz rest) (hr : r < 47) (ho : o < 47) (hV : RV L s v) : ev_Ca G dd w m_X9_compare [.ref M, .int (nI r), .int (nI o)] (rp h lm sz L s) 0 0 (ev_ok (fun y h1 => y = some (.int (mi_cmp (v r) (v o))) ∧ h1 = rp h lm sz L s)) := by
  obtain ⟨dd, rfl⟩ : ∃ e, dd = e + 1 := ⟨dd - 1, by omega⟩
  refine ⟨by decide +kernel, rfl, ?_⟩
  have hvr := hV r hr
  have hvo := hV o ho
  have a1 := hvr.1
  have a2 := hvo.1
  have less : ∀ a b, rv L s a (v a) → rv L s b (v b) → s a < s b → v a < v b := by
    intro a b q1 q2 q3
    have h1 : v a < 1073741824 ^ s a := by rw [← q1.2.2.2]; exact mb_lt q1.2.1
    have h2 := rv_ge q2 (by omega)
    have h3 : 1073741824 ^ s a ≤ 1073741824 ^ (s b - 1) := Nat.pow_le_pow_right (by decide) (by omega)
    omega
  refine ev_aload_n (pc := 0) dX9_compare_0 rfl ?_
  refine ev_getf (pc := 1) dX9_compare_1 f_X9_13 (rp_M hM) rfl ?_
  refine ev_iload_n (pc := 4) dX9_compare_4 rfl ?_
  refine ev_iaN (pc := 5) dX9_compare_5 rp_S (by omega) (by omega) ?_
  refine ev_aload_n (pc := 6) dX9_compare_6 rfl ?_
  refine ev_getf (pc := 7) dX9_compare_7 f_X9_13 (rp_M hM) rfl ?_
  refine ev_iload_n (pc := 10) dX9_compare_10 rfl ?_
  refine ev_iaN (pc := 11) dX9_compare_11 rp_S (by omega) (by omega) ?_
  refine ev_icmp_eqN (pc := 12) (tgt := 36) dX9_compare_12 (by decide) (by omega) (by omega) (fun c1 => ?_) (fun c1 => ?_)
  · refine ev_aload_n (pc := 36) dX9_compare_36 rfl ?_
    refine ev_getf (pc := 37) dX9_compare_37 f_X9_13 (rp_M hM) rfl ?_
    refine ev_iload_n (pc := 40) dX9_compare_40 rfl ?_
    refine ev_iaN (pc := 41) dX9_compare_41 rp_S (by omega) (by decide) ?_
    refine ev_iconst (pc := 42) (v := nI 1) dX9_compare_42 (by decide) ?_
    refine ev_isub (pc := 43) dX9_compare_43 ?_
    refine ev_istore_n (pc := 44) dX9_compare_44 rfl ?_
    refine ev_vs [(0, .ref M), (1, .int (nI r)), (2, .int (nI o)), (3, .int (nI (s r) - nI 1))] ⟨rfl, rfl, rfl, rfl, trivial⟩ ?_
    exact l_cmp hM hr ho hvr hvo c1 ⟨rfl, rfl⟩ (s r) (Nat.le_refl _) (fun i h1 h2 => absurd h2 (by omega))
  · refine ev_aload_n (pc := 15) dX9_compare_15 rfl ?_
    refine ev_getf (pc := 16) dX9_compare_16 f_X9_13 (rp_M hM) rfl ?_
    refine ev_iload_n (pc := 19) dX9_compare_19 rfl ?_
    refine ev_iaN (pc := 20) dX9_compare_20 rp_S (by omega) (by omega) ?_
    refine ev_aload_n (pc := 21) dX9_compare_21 rfl ?_
    refine ev_getf (pc := 22) dX9_compare_22 f_X9_13 (rp_M hM) rfl ?_
    refine ev_iload_n (pc := 25) dX9_compare_25 rfl ?_
    refine ev_iaN (pc := 26) dX9_compare_26 rp_S (by omega) (by omega) ?_
    refine ev_icmp_geN (pc := 27) (tgt := 34) dX9_compare_27 (by decide) (by omega) (by omega) (fun c2 => ?_) (fun c2 => ?_)
    · have lt := less o r hvo hvr (by omega)
      refine ev_iconst (pc := 34) (v := nI 1) dX9_compare_34 (by decide) ?_
      refine ev_ti (y := mi_cmp (v r) (v o)) ?_ ?_
      · unfold mi_cmp; rw [if_neg (by omega), if_neg (by omega)]; rfl
      · exact ev_iret (pc := 35) dX9_compare_35 rfl rfl ⟨rfl, rfl⟩
    · have lt := less r o hvr hvo c2
      refine ev_iconst (pc := 30) (v := -1) dX9_compare_30 (by decide) ?_
      refine ev_goto (pc := 31) (tgt := 35) dX9_compare_31 (by decide) ?_
      refine ev_ti (y := mi_cmp (v r) (v o)) ?_ ?_
      · unfold mi_cmp; rw [if_pos lt]
      · exact ev_iret (pc := 35) dX9_compare_35 rfl rfl ⟨rfl, rfl⟩
end REF7
