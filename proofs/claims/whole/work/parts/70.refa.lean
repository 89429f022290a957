/-! THE REFERENCE: multiply -/
section REFA
variable {G : ev_G} {w : Nat} {h : ev_H} {M lm sz r o j k dd p q : Nat} {rest : List Value} {L s v : Nat → Nat}
theorem l_mz {K : ev_K} {c z n : Nat} {L0 : Nat → Nat} (hM : RM h M lm sz rest) (hr : r < 47) (hn : s r = n) (hn2 : n ≤ 140)
    (hK : ∀ L1, (∀ i, i < n → L1 (140 * r + i) = 0) → (∀ y, (y < 140 * r ∨ 140 * r + n ≤ y) → L1 y = L0 y) → ev_J G (ev_cc G dd w) w m_X9_multiply K (53, ev_lf [(0, .ref M), (1, .int (nI r)), (2, .int (nI p)), (3, .int (nI q))], [], rp h lm sz L1 s, c, z)) :
    ∀ k j L1, j + k = n → (∀ i, i < j → L1 (140 * r + i) = 0) → (∀ y, (y < 140 * r ∨ 140 * r + j ≤ y) → L1 y = L0 y) → ev_J G (ev_cc G dd w) w m_X9_multiply K (22, ev_lf [(0, .ref M), (1, .int (nI r)), (2, .int (nI p)), (3, .int (nI q)), (4, .int (nI j))], [], rp h lm sz L1 s, c, z)
  | 0, j, L1, e, e1, e2 => by
    refine ev_iload (pc := 22) dX9_multiply_22 rfl ?_
    refine ev_aload_n (pc := 24) dX9_multiply_24 rfl ?_
    refine ev_getf (pc := 25) dX9_multiply_25 f_X9_13 (rp_M hM) rfl ?_
    refine ev_iload_n (pc := 28) dX9_multiply_28 rfl ?_
    refine ev_iaN (pc := 29) dX9_multiply_29 rp_S (by omega) (by omega) ?_
    refine ev_icmp_geN (pc := 30) (tgt := 53) dX9_multiply_30 (by decide) (by omega) (by omega) (fun c1 => ?_) (fun c1 => ?_)
    · refine ev_vs [(0, .ref M), (1, .int (nI r)), (2, .int (nI p)), (3, .int (nI q))] ⟨rfl, rfl, rfl, rfl, trivial⟩ ?_
      have : j = n := by omega
      subst this
      exact hK L1 e1 e2
    · omega
  | k + 1, j, L1, e, e1, e2 => by
    refine ev_iload (pc := 22) dX9_multiply_22 rfl ?_
    refine ev_aload_n (pc := 24) dX9_multiply_24 rfl ?_
    refine ev_getf (pc := 25) dX9_multiply_25 f_X9_13 (rp_M hM) rfl ?_
    refine ev_iload_n (pc := 28) dX9_multiply_28 rfl ?_
    refine ev_iaN (pc := 29) dX9_multiply_29 rp_S (by omega) (by omega) ?_
    refine ev_icmp_geN (pc := 30) (tgt := 53) dX9_multiply_30 (by decide) (by omega) (by omega) (fun c1 => ?_) (fun c1 => ?_)
    · omega
    · refine ev_aload_n (pc := 33) dX9_multiply_33 rfl ?_
      refine ev_getf (pc := 34) dX9_multiply_34 f_X9_7 (rp_M hM) rfl ?_
      refine ev_sipush (pc := 37) (v := nI 140) dX9_multiply_37 (by decide) ?_
      refine ev_iload_n (pc := 40) dX9_multiply_40 rfl ?_
      refine ev_imulN (pc := 41) dX9_multiply_41 ?_
      refine ev_iload (pc := 42) dX9_multiply_42 rfl ?_
      refine ev_iaddN (pc := 44) dX9_multiply_44 ?_
      refine ev_iconst (pc := 45) (v := nI 0) dX9_multiply_45 (by decide) ?_
      refine ev_iast (pc := 46) dX9_multiply_46 (rp_L hM) (vp_in_nI (by omega) (by decide)) ?_
      refine ev_th (rp_uL hM (by omega)) ?_
      refine ev_iincN (pc := 47) dX9_multiply_47 rfl rfl ?_
      refine ev_goto (pc := 50) (tgt := 22) dX9_multiply_50 (by decide) ?_
      refine ev_vs [(0, .ref M), (1, .int (nI r)), (2, .int (nI p)), (3, .int (nI q)), (4, .int (nI (j + 1)))] ⟨rfl, rfl, rfl, rfl, rfl, trivial⟩ ?_
      refine l_mz hM hr hn hn2 hK k (j + 1) _ (by omega) (fun i hi => ?_) (fun y hy => ?_)
      · unfold va_up
        split
        · rfl
        · exact e1 i (by omega)
      · unfold va_up; rw [if_neg (by omega)]; exact e2 y (by omega)
theorem l_mi {K : ev_K} {c z i : Nat} {L0 gp gq : Nat → Nat} (hM : RM h M lm sz rest) (hr : r < 47) (hp : p < 47) (hq : q < 47) (hrp : r ≠ p) (hrq : r ≠ q) (hn : s p + s q ≤ 140) (hi : i < s p)
    (gpl : gp i < 1073741824) (gql : ∀ k, k < s q → gq k < 1073741824) (hp0 : L0 (140 * p + i) = gp i) (hq0 : ∀ k, k < s q → L0 (140 * q + k) = gq k) (h0 : ∀ k, k < s p + s q → L0 (140 * r + k) < 1073741824)
    (hK : ∀ L1 cy, cy < 1073741824 → (∀ k, k < s p + s q → L1 (140 * r + k) < 1073741824) → (∀ y, (y < 140 * r + i ∨ 140 * r + (i + s q) ≤ y) → L1 y = L0 y) → mb_v (fun k => L1 (140 * r + k)) (i + s q) + cy * 1073741824 ^ (i + s q) = mb_v (fun k => L0 (140 * r + k)) (i + s q) + gp i * mb_v gq (s q) * 1073741824 ^ i → ev_J G (ev_cc G dd w) w m_X9_multiply K (167, ev_lf [(0, .ref M), (1, .int (nI r)), (2, .int (nI p)), (3, .int (nI q)), (4, .int (nI i)), (5, .long (lN cy))], [], rp h lm sz L1 s, c, z)) :
    ∀ k j L1 cy, j + k = s q → cy < 1073741824 → (∀ k, k < s p + s q → L1 (140 * r + k) < 1073741824) → (∀ y, (y < 140 * r + i ∨ 140 * r + (i + j) ≤ y) → L1 y = L0 y) → mb_v (fun k => L1 (140 * r + k)) (i + j) + cy * 1073741824 ^ (i + j) = mb_v (fun k => L0 (140 * r + k)) (i + j) + gp i * mb_v gq j * 1073741824 ^ i → ev_J G (ev_cc G dd w) w m_X9_multiply K (73, ev_lf [(0, .ref M), (1, .int (nI r)), (2, .int (nI p)), (3, .int (nI q)), (4, .int (nI i)), (5, .long (lN cy)), (7, .int (nI j))], [], rp h lm sz L1 s, c, z)
  | 0, j, L1, cy, e, hc, e1, e2, e3 => by
    refine ev_iload (pc := 73) dX9_multiply_73 rfl ?_
    refine ev_aload_n (pc := 75) dX9_multiply_75 rfl ?_
    refine ev_getf (pc := 76) dX9_multiply_76 f_X9_13 (rp_M hM) rfl ?_
    refine ev_iload_n (pc := 79) dX9_multiply_79 rfl ?_
    refine ev_iaN (pc := 80) dX9_multiply_80 rp_S (by omega) (by omega) ?_
    refine ev_icmp_geN (pc := 81) (tgt := 167) dX9_multiply_81 (by decide) (by omega) (by omega) (fun c1 => ?_) (fun c1 => ?_)
    · refine ev_vs [(0, .ref M), (1, .int (nI r)), (2, .int (nI p)), (3, .int (nI q)), (4, .int (nI i)), (5, .long (lN cy))] ⟨rfl, rfl, rfl, rfl, rfl, rfl, trivial⟩ ?_
      have : j = s q := by omega
      subst this
      exact hK L1 cy hc e1 e2 e3
    · omega
  | k + 1, j, L1, cy, e, hc, e1, e2, e3 => by
    have b1 := e1 (i + j) (by omega)
    have b2 := gql j (by omega)
    have ep : L1 (140 * p + i) = gp i := by rw [e2 _ (by omega)]; exact hp0
    have eq : L1 (140 * q + j) = gq j := by rw [e2 _ (by omega)]; exact hq0 j (by omega)
    have bx : gp i * gq j ≤ 1073741823 * 1073741823 := Nat.mul_le_mul (by omega) (by omega)
    have ea : 140 * r + i + j = 140 * r + (i + j) := by omega
    have ml : (gp i * gq j + L1 (140 * r + (i + j)) + cy) % 1073741824 < 1073741824 := Nat.mod_lt _ (by decide)
    refine ev_iload (pc := 73) dX9_multiply_73 rfl ?_
    refine ev_aload_n (pc := 75) dX9_multiply_75 rfl ?_
    refine ev_getf (pc := 76) dX9_multiply_76 f_X9_13 (rp_M hM) rfl ?_
    refine ev_iload_n (pc := 79) dX9_multiply_79 rfl ?_
    refine ev_iaN (pc := 80) dX9_multiply_80 rp_S (by omega) (by omega) ?_
    refine ev_icmp_geN (pc := 81) (tgt := 167) dX9_multiply_81 (by decide) (by omega) (by omega) (fun c1 => ?_) (fun c1 => ?_)
    · omega
    · refine ev_sipush (pc := 84) (v := nI 140) dX9_multiply_84 (by decide) ?_
      refine ev_iload_n (pc := 87) dX9_multiply_87 rfl ?_
      refine ev_imulN (pc := 88) dX9_multiply_88 ?_
      refine ev_iload (pc := 89) dX9_multiply_89 rfl ?_
      refine ev_iaddN (pc := 91) dX9_multiply_91 ?_
      refine ev_iload (pc := 92) dX9_multiply_92 rfl ?_
      refine ev_iaddN (pc := 94) dX9_multiply_94 ?_
      refine ev_istore (pc := 95) dX9_multiply_95 rfl ?_
      refine ev_aload_n (pc := 97) dX9_multiply_97 rfl ?_
      refine ev_getf (pc := 98) dX9_multiply_98 f_X9_7 (rp_M hM) rfl ?_
      refine ev_sipush (pc := 101) (v := nI 140) dX9_multiply_101 (by decide) ?_
      refine ev_iload_n (pc := 104) dX9_multiply_104 rfl ?_
      refine ev_imulN (pc := 105) dX9_multiply_105 ?_
      refine ev_iload (pc := 106) dX9_multiply_106 rfl ?_
      refine ev_iaddN (pc := 108) dX9_multiply_108 ?_
      refine ev_iaN (pc := 109) dX9_multiply_109 (rp_L hM) (by omega) (by decide) ?_
      rw [ep, ea]
      refine ev_i2lN (pc := 110) dX9_multiply_110 (by omega) ?_
      refine ev_aload_n (pc := 111) dX9_multiply_111 rfl ?_
      refine ev_getf (pc := 112) dX9_multiply_112 f_X9_7 (rp_M hM) rfl ?_
      refine ev_sipush (pc := 115) (v := nI 140) dX9_multiply_115 (by decide) ?_
      refine ev_iload_n (pc := 118) dX9_multiply_118 rfl ?_
      refine ev_imulN (pc := 119) dX9_multiply_119 ?_
      refine ev_iload (pc := 120) dX9_multiply_120 rfl ?_
      refine ev_iaddN (pc := 122) dX9_multiply_122 ?_
      refine ev_iaN (pc := 123) dX9_multiply_123 (rp_L hM) (by omega) (by decide) ?_
      rw [eq]
      refine ev_i2lN (pc := 124) dX9_multiply_124 (by omega) ?_
      refine ev_lmulN (pc := 125) dX9_multiply_125 ?_
      refine ev_aload_n (pc := 126) dX9_multiply_126 rfl ?_
      refine ev_getf (pc := 127) dX9_multiply_127 f_X9_7 (rp_M hM) rfl ?_
      refine ev_iload (pc := 130) dX9_multiply_130 rfl ?_
      refine ev_iaN (pc := 132) dX9_multiply_132 (rp_L hM) (by omega) (by omega) ?_
      refine ev_i2lN (pc := 133) dX9_multiply_133 (by omega) ?_
      refine ev_laddN (pc := 134) dX9_multiply_134 ?_
      refine ev_lload (pc := 135) dX9_multiply_135 rfl ?_
      refine ev_laddN (pc := 137) dX9_multiply_137 ?_
      refine ev_lstore (pc := 138) dX9_multiply_138 rfl ?_
      refine ev_aload_n (pc := 140) dX9_multiply_140 rfl ?_
      refine ev_getf (pc := 141) dX9_multiply_141 f_X9_7 (rp_M hM) rfl ?_
      refine ev_iload (pc := 144) dX9_multiply_144 rfl ?_
      refine ev_lload (pc := 146) dX9_multiply_146 rfl ?_
      refine ev_ldc2 (pc := 148) dX9_multiply_148 k_X9_80 ?_
      refine ev_landN (pc := 151) dX9_multiply_151 (by omega) ?_
      refine ev_l2iN (pc := 152) dX9_multiply_152 ?_
      refine ev_iast (pc := 153) dX9_multiply_153 (rp_L hM) (vp_in_nI (by omega) (by decide)) ?_
      refine ev_th (rp_uL hM (by omega)) ?_
      refine ev_lload (pc := 154) dX9_multiply_154 rfl ?_
      refine ev_bipush (pc := 156) (v := nI 30) dX9_multiply_156 (by decide) ?_
      refine ev_lushrN (pc := 158) dX9_multiply_158 (by omega) ?_
      refine ev_lstore (pc := 159) dX9_multiply_159 rfl ?_
      refine ev_iincN (pc := 161) dX9_multiply_161 rfl rfl ?_
      refine ev_goto (pc := 164) (tgt := 73) dX9_multiply_164 (by decide) ?_
      refine ev_vs [(0, .ref M), (1, .int (nI r)), (2, .int (nI p)), (3, .int (nI q)), (4, .int (nI i)), (5, .long (lN ((gp i * gq j + L1 (140 * r + (i + j)) + cy) / 1073741824))), (7, .int (nI (j + 1)))] ⟨rfl, rfl, rfl, rfl, rfl, rfl, rfl, trivial⟩ ?_
      refine l_mi hM hr hp hq hrp hrq hn hi gpl gql hp0 hq0 h0 hK k (j + 1) _ _ (by omega) (by omega) (fun i hi => ?_) (fun y hy => ?_) ?_
      · unfold va_up
        split
        · exact ml
        · exact e1 _ hi
      · unfold va_up; rw [if_neg (by omega)]; exact e2 y (by omega)
      · rw [va_sh]
        exact mb_mul1 (f := fun k => L1 (140 * r + k)) (f0 := fun k => L0 (140 * r + k)) (gb := gq) (i := i) (j := j) (cy := cy) (x := gp i) (e2 _ (by omega)) e3
theorem l_mo {K : ev_K} {c z : Nat} {L0 gp gq : Nat → Nat} (hM : RM h M lm sz rest) (hr : r < 47) (hp : p < 47) (hq : q < 47) (hrp : r ≠ p) (hrq : r ≠ q) (hn : s p + s q ≤ 140)
    (gpl : ∀ k, k < s p → gp k < 1073741824) (gql : ∀ k, k < s q → gq k < 1073741824) (hp0 : ∀ k, k < s p → L0 (140 * p + k) = gp k) (hq0 : ∀ k, k < s q → L0 (140 * q + k) = gq k)
    (hK : ∀ L1, (∀ k, k < s p + s q → L1 (140 * r + k) < 1073741824) → (∀ y, (y < 140 * r ∨ 140 * r + (s p + s q) ≤ y) → L1 y = L0 y) → mb_v (fun k => L1 (140 * r + k)) (s p + s q) = mb_v gp (s p) * mb_v gq (s q) → ev_J G (ev_cc G dd w) w m_X9_multiply K (196, ev_lf [(0, .ref M), (1, .int (nI r))], [], rp h lm sz L1 s, c, z)) :
    ∀ k i L1, i + k = s p → (∀ k, k < s p + s q → L1 (140 * r + k) < 1073741824) → (∀ y, (y < 140 * r ∨ 140 * r + (s p + s q) ≤ y) → L1 y = L0 y) → mb_v (fun k => L1 (140 * r + k)) (i + s q) = mb_v gp i * mb_v gq (s q) → ev_J G (ev_cc G dd w) w m_X9_multiply K (56, ev_lf [(0, .ref M), (1, .int (nI r)), (2, .int (nI p)), (3, .int (nI q)), (4, .int (nI i))], [], rp h lm sz L1 s, c, z)
  | 0, i, L1, e, e1, e2, e3 => by
    refine ev_iload (pc := 56) dX9_multiply_56 rfl ?_
    refine ev_aload_n (pc := 58) dX9_multiply_58 rfl ?_
    refine ev_getf (pc := 59) dX9_multiply_59 f_X9_13 (rp_M hM) rfl ?_
    refine ev_iload_n (pc := 62) dX9_multiply_62 rfl ?_
    refine ev_iaN (pc := 63) dX9_multiply_63 rp_S (by omega) (by omega) ?_
    refine ev_icmp_geN (pc := 64) (tgt := 196) dX9_multiply_64 (by decide) (by omega) (by omega) (fun c1 => ?_) (fun c1 => ?_)
    · refine ev_vs [(0, .ref M), (1, .int (nI r))] ⟨rfl, rfl, trivial⟩ ?_
      have : i = s p := by omega
      subst this
      exact hK L1 e1 e2 e3
    · omega
  | k + 1, i, L1, e, e1, e2, e3 => by
    refine ev_iload (pc := 56) dX9_multiply_56 rfl ?_
    refine ev_aload_n (pc := 58) dX9_multiply_58 rfl ?_
    refine ev_getf (pc := 59) dX9_multiply_59 f_X9_13 (rp_M hM) rfl ?_
    refine ev_iload_n (pc := 62) dX9_multiply_62 rfl ?_
    refine ev_iaN (pc := 63) dX9_multiply_63 rp_S (by omega) (by omega) ?_
    refine ev_icmp_geN (pc := 64) (tgt := 196) dX9_multiply_64 (by decide) (by omega) (by omega) (fun c1 => ?_) (fun c1 => ?_)
    · omega
    · refine ev_lconst (pc := 67) (v := lN 0) dX9_multiply_67 (by decide) ?_
      refine ev_lstore (pc := 68) dX9_multiply_68 rfl ?_
      refine ev_iconst (pc := 70) (v := nI 0) dX9_multiply_70 (by decide) ?_
      refine ev_istore (pc := 71) dX9_multiply_71 rfl ?_
      refine ev_vs [(0, .ref M), (1, .int (nI r)), (2, .int (nI p)), (3, .int (nI q)), (4, .int (nI i)), (5, .long (lN 0)), (7, .int (nI 0))] ⟨rfl, rfl, rfl, rfl, rfl, rfl, rfl, trivial⟩ ?_
      refine l_mi (L0 := L1) (gp := gp) (gq := gq) hM hr hp hq hrp hrq hn c1 (gpl i c1) gql (by rw [e2 _ (by omega)]; exact hp0 i c1) (fun k hk => by rw [e2 _ (by omega)]; exact hq0 k hk) e1 (fun L2 cy hc f1 f2 f3 => ?_) (s q) 0 L1 0 (by omega) (by decide) e1 (fun _ _ => rfl) (by rw [Nat.zero_mul, mb_v0, Nat.mul_zero, Nat.zero_mul])
      refine ev_aload_n (pc := 167) dX9_multiply_167 rfl ?_
      refine ev_getf (pc := 168) dX9_multiply_168 f_X9_7 (rp_M hM) rfl ?_
      refine ev_sipush (pc := 171) (v := nI 140) dX9_multiply_171 (by decide) ?_
      refine ev_iload_n (pc := 174) dX9_multiply_174 rfl ?_
      refine ev_imulN (pc := 175) dX9_multiply_175 ?_
      refine ev_iload (pc := 176) dX9_multiply_176 rfl ?_
      refine ev_iaddN (pc := 178) dX9_multiply_178 ?_
      refine ev_aload_n (pc := 179) dX9_multiply_179 rfl ?_
      refine ev_getf (pc := 180) dX9_multiply_180 f_X9_13 (rp_M hM) rfl ?_
      refine ev_iload_n (pc := 183) dX9_multiply_183 rfl ?_
      refine ev_iaN (pc := 184) dX9_multiply_184 rp_S (by omega) (by omega) ?_
      refine ev_iaddN (pc := 185) dX9_multiply_185 ?_
      refine ev_lload (pc := 186) dX9_multiply_186 rfl ?_
      refine ev_l2iN (pc := 188) dX9_multiply_188 ?_
      have ea : 140 * r + i + s q = 140 * r + (i + s q) := by omega
      rw [ea]
      refine ev_iast (pc := 189) dX9_multiply_189 (rp_L hM) (vp_in_nI (by omega) (by decide)) ?_
      refine ev_th (rp_uL hM (by omega)) ?_
      refine ev_iincN (pc := 190) dX9_multiply_190 rfl rfl ?_
      refine ev_goto (pc := 193) (tgt := 56) dX9_multiply_193 (by decide) ?_
      refine ev_vs [(0, .ref M), (1, .int (nI r)), (2, .int (nI p)), (3, .int (nI q)), (4, .int (nI (i + 1)))] ⟨rfl, rfl, rfl, rfl, rfl, trivial⟩ ?_
      refine l_mo hM hr hp hq hrp hrq hn gpl gql hp0 hq0 hK k (i + 1) _ (by omega) (fun k hk => ?_) (fun y hy => ?_) ?_
      · unfold va_up
        split
        · exact hc
        · exact f1 k hk
      · unfold va_up; rw [if_neg (by omega), f2 y (by omega)]; exact e2 y (by omega)
      · rw [va_sh, show i + 1 + s q = i + s q + 1 by omega, mb_vs, mb_upo (Nat.le_refl _), va_up_self, f3, e3, mb_vs, Nat.add_mul]
        congr 1
        ac_rfl
theorem k_rmul (hd : 2 ≤ dd) (hw : 30 ≤ w) (hM : RM h M lm sz rest) (hr : r < 47) (hp : p < 47) (hq : q < 47) (hrp : r ≠ p) (hrq : r ≠ q) (hV : RV L s v) (hb : v p * v q < 1073741824 ^ 139) : ev_Ca G dd w m_X9_multiply [.ref M, .int (nI r), .int (nI p), .int (nI q)] (rp h lm sz L s) 0 0 (ev_ok (fun y h1 => y = none ∧ ∃ L2 s2, h1 = rp h lm sz L2 s2 ∧ RV L2 s2 (va_up v r (v p * v q)))) := by
  obtain ⟨dd, rfl⟩ : ∃ e, dd = e + 1 := ⟨dd - 1, by omega⟩
  refine ⟨by decide +kernel, rfl, ?_⟩
  have hvp := hV p hp
  have hvq := hV q hq
  have a1 := hvp.1
  have a2 := hvq.1
  have hn : s p + s q ≤ 140 := by
    rcases Nat.eq_zero_or_pos (s p) with x | x
    · omega
    rcases Nat.eq_zero_or_pos (s q) with y | y
    · omega
    have g := Nat.mul_le_mul (rv_ge hvp x) (rv_ge hvq y)
    rw [← Nat.pow_add] at g
    rcases Nat.lt_or_ge (s p - 1 + (s q - 1)) 139 with u | u
    · omega
    · have := Nat.pow_le_pow_right (show 0 < 1073741824 by decide) u
      exact absurd (Nat.le_trans this g) (by omega)
  refine ev_aload_n (pc := 0) dX9_multiply_0 rfl ?_
  refine ev_getf (pc := 1) dX9_multiply_1 f_X9_13 (rp_M hM) rfl ?_
  refine ev_iload_n (pc := 4) dX9_multiply_4 rfl ?_
  refine ev_aload_n (pc := 5) dX9_multiply_5 rfl ?_
  refine ev_getf (pc := 6) dX9_multiply_6 f_X9_13 (rp_M hM) rfl ?_
  refine ev_iload_n (pc := 9) dX9_multiply_9 rfl ?_
  refine ev_iaN (pc := 10) dX9_multiply_10 rp_S (by omega) (by omega) ?_
  refine ev_aload_n (pc := 11) dX9_multiply_11 rfl ?_
  refine ev_getf (pc := 12) dX9_multiply_12 f_X9_13 (rp_M hM) rfl ?_
  refine ev_iload_n (pc := 15) dX9_multiply_15 rfl ?_
  refine ev_iaN (pc := 16) dX9_multiply_16 rp_S (by omega) (by omega) ?_
  refine ev_iaddN (pc := 17) dX9_multiply_17 ?_
  refine ev_iast (pc := 18) dX9_multiply_18 rp_S (vp_in_nI hr (by decide)) ?_
  refine ev_th (rp_uS hr) ?_
  have sp : va_up s r (s p + s q) p = s p := va_up_ne _ _ (Ne.symm hrp)
  have sq : va_up s r (s p + s q) q = s q := va_up_ne _ _ (Ne.symm hrq)
  have sr : va_up s r (s p + s q) r = s p + s q := va_up_self _ _ _
  have so : ∀ i, i ≠ r → va_up s r (s p + s q) i = s i := fun i hi => va_up_ne _ _ hi
  generalize va_up s r (s p + s q) = s1 at *
  refine ev_iconst (pc := 19) (v := nI 0) dX9_multiply_19 (by decide) ?_
  refine ev_istore (pc := 20) dX9_multiply_20 rfl ?_
  refine ev_vs [(0, .ref M), (1, .int (nI r)), (2, .int (nI p)), (3, .int (nI q)), (4, .int (nI 0))] ⟨rfl, rfl, rfl, rfl, rfl, trivial⟩ ?_
  refine l_mz (L0 := L) hM hr sr hn (fun L1 e1 e2 => ?_) (s p + s q) 0 L (by omega) (fun i hi => absurd hi (Nat.not_lt_zero i)) (fun _ _ => rfl)
  refine ev_iconst (pc := 53) (v := nI 0) dX9_multiply_53 (by decide) ?_
  refine ev_istore (pc := 54) dX9_multiply_54 rfl ?_
  refine ev_vs [(0, .ref M), (1, .int (nI r)), (2, .int (nI p)), (3, .int (nI q)), (4, .int (nI 0))] ⟨rfl, rfl, rfl, rfl, rfl, trivial⟩ ?_
  rw [← sp, ← sq] at e1 e2 sr
  refine l_mo (L0 := L1) (gp := fun k => L (140 * p + k)) (gq := fun k => L (140 * q + k)) hM hr hp hq hrp hrq (by omega) (by rw [sp]; exact hvp.2.1) (by rw [sq]; exact hvq.2.1) (fun k hk => e2 _ (by omega)) (fun k hk => e2 _ (by omega)) (fun L2 f1 f2 f3 => ?_) (s1 p) 0 L1 (by omega) (fun k hk => by rw [e1 k hk]; decide) (fun _ _ => rfl) (by rw [mb_v0, Nat.zero_mul]; exact mb_zero (fun j hj => e1 j (by omega)))
  rw [sp, sq] at f3
  rw [hvp.2.2.2, hvq.2.2.2] at f3
  refine ev_aload_n (pc := 196) dX9_multiply_196 rfl ?_
  refine ev_iload_n (pc := 197) dX9_multiply_197 rfl ?_
  refine ev_callV (pc := 198) (As := [.int (nI r)]) dX9_multiply_198 cv_X9_82 rfl rfl (rp_M hM) rfl ⟨by show 19 + 2 ≤ w; omega, show ev_Ca _ _ (w - 21) _ _ _ _ _ _ from k_rtrim (v := v) (x := v p * v q) (by omega) hM hr (fun i hi x => rv_cg (hV i hi) (so i x) (fun k hk => by have := (hV i hi).1; rw [f2 _ (by omega), e2 _ (by omega)])) ⟨by omega, by rw [sr]; exact f1, by rw [sr, sp, sq]; exact f3⟩⟩ rfl rfl (fun r h1 hp => ?_)
  obtain ⟨rfl, s2, rfl, hV2⟩ := hp
  exact ev_vret (pc := 201) dX9_multiply_201 rfl ⟨rfl, L2, s2, rfl, hV2⟩
end REFA
