/-! THE REFERENCE: half -/
theorem va_sh (L : Nat → Nat) (b j y : Nat) : (fun k => va_up L (b + j) y (b + k)) = va_up (fun k => L (b + k)) j y := by
  funext k
  unfold va_up
  by_cases e : k = j
  · rw [if_pos e, if_pos (by omega)]
  · rw [if_neg e, if_neg (by omega)]
theorem mi_shl29 {a : Nat} (h : a ≤ 1) : nI a <<< (nI 29 &&& 31) = nI (a * 536870912) := by
  rcases Nat.eq_zero_or_pos a with e | e
  · subst e; decide
  · have : a = 1 := by omega
    subst this; decide
theorem mi_or29 {a b : Nat} (ha : a < 536870912) (hb : b ≤ 1) : nI a ||| nI (b * 536870912) = nI (a + b * 536870912) := by
  have h1 : a ||| b * 536870912 = a + b * 536870912 := by
    have := Nat.shiftLeft_add_eq_or_of_lt (a := b) (b := a) (i := 29) ha
    rw [Nat.shiftLeft_eq] at this
    rw [Nat.or_comm, Nat.add_comm]
    exact this.symm
  apply Int32.toBitVec_inj.mp
  show BitVec.ofNat 32 a ||| BitVec.ofNat 32 (b * 536870912) = BitVec.ofNat 32 (a + b * 536870912)
  apply BitVec.eq_of_toNat_eq
  rw [BitVec.toNat_or, BitVec.toNat_ofNat, BitVec.toNat_ofNat, BitVec.toNat_ofNat, Nat.mod_eq_of_lt (show a < 2 ^ 32 by omega), Nat.mod_eq_of_lt (show b * 536870912 < 2 ^ 32 by omega), Nat.mod_eq_of_lt (show a + b * 536870912 < 2 ^ 32 by omega), h1]
/-- one register rewritten, the others as they were -/
theorem rv_up {L s v L2 s2 : Nat → Nat} {r x : Nat} (hV : ∀ i, i < 47 → i ≠ r → rv L s i (v i)) (h1 : ∀ i, i ≠ r → s2 i = s i) (h2 : ∀ y, (y < 140 * r ∨ 140 * r + 140 ≤ y) → L2 y = L y) (h3 : rv L2 s2 r x) : RV L2 s2 (va_up v r x) := by
  intro i hi
  by_cases q : i = r
  · subst q; rw [va_up_self]; exact h3
  · rw [va_up_ne _ _ q]
    have b := (hV i hi q).1
    exact rv_cg (hV i hi q) (h1 i q) (fun k hk => h2 _ (by omega))
theorem rv_n {L s : Nat → Nat} {i v k : Nat} (h : rv L s i v) (hv : v < 1073741824 ^ k) : s i ≤ k := by
  rcases Nat.lt_or_ge k (s i) with q | q
  · have h1 := rv_ge h (by omega)
    have h2 : 1073741824 ^ k ≤ 1073741824 ^ (s i - 1) := Nat.pow_le_pow_right (by decide) (by omega)
    omega
  · exact q
theorem rv_z {L s : Nat → Nat} {i v : Nat} (h : rv L s i v) : s i = 0 ↔ v = 0 := by
  constructor
  · intro e
    have := h.2.2.2
    rw [e] at this
    exact this.symm
  · intro e
    rcases Nat.eq_zero_or_pos (s i) with q | q
    · exact q
    · have h1 := rv_ge h q
      have h2 := mb_pp (s i - 1)
      omega
section REF6
variable {G : ev_G} {w : Nat} {h : ev_H} {M lm sz r o j k dd : Nat} {rest : List Value} {L s v : Nat → Nat}
theorem l_half {K : ev_K} {c z : Nat} (hM : RM h M lm sz rest) (hr : r < 47) (hr0 : 0 < r) (hs : s r ≤ 140) (hL : ∀ k, k < s r → L (140 * r + k) < 1073741824)
    (hK : ∀ L1, (∀ i, i < s r → L1 (140 * r + i) < 1073741824) → (∀ y, (y < 140 * r ∨ 140 * r + s r ≤ y) → L1 y = L y) → mb_v (fun k => L1 (140 * r + k)) (s r) = mb_v (fun k => L (140 * r + k)) (s r) / 2 → ev_J G (ev_cc G dd w) w m_X9_half K (60, ev_lf [(0, .ref M), (1, .int (nI r))], [], rp h lm sz L1 s, c, z)) :
    ∀ j L1 cy, j ≤ s r → cy ≤ 1 → (∀ i, i < s r → L1 (140 * r + i) < 1073741824) → (∀ y, (y < 140 * r + j ∨ 140 * r + s r ≤ y) → L1 y = L y) → mb_v (fun k => L (140 * r + k)) (s r) + mb_v (fun k => L (140 * r + k)) j = 2 * mb_v (fun k => L1 (140 * r + k)) (s r) + cy * 1073741824 ^ j → ev_J G (ev_cc G dd w) w m_X9_half K (17, ev_lf [(0, .ref M), (1, .int (nI r)), (2, .int (nI cy)), (3, .int (nI (140 * r + j - 1)))], [], rp h lm sz L1 s, c, z)
  | 0, L1, cy, e, hc, e1, e2, e3 => by
    refine ev_iload_n (pc := 17) dX9_half_17 rfl ?_
    refine ev_sipush (pc := 18) (v := nI 140) dX9_half_18 (by decide) ?_
    refine ev_iload_n (pc := 21) dX9_half_21 rfl ?_
    refine ev_imulN (pc := 22) dX9_half_22 ?_
    refine ev_icmp_ltN (pc := 23) (tgt := 60) dX9_half_23 (by decide) (by omega) (by omega) (fun c1 => ?_) (fun c1 => ?_)
    · refine ev_vs [(0, .ref M), (1, .int (nI r))] ⟨rfl, rfl, trivial⟩ ?_
      refine hK L1 e1 (fun y hy => e2 y (by omega)) ?_
      rw [Nat.pow_zero, Nat.mul_one, mb_v0, Nat.add_zero] at e3
      omega
    · omega
  | j + 1, L1, cy, e, hc, e1, e2, e3 => by
    have b := hL j (by omega)
    have ej : L1 (140 * r + j) = L (140 * r + j) := e2 _ (by omega)
    have ei : 140 * r + (j + 1) - 1 = 140 * r + j := by omega
    rw [ei]
    refine ev_iload_n (pc := 17) dX9_half_17 rfl ?_
    refine ev_sipush (pc := 18) (v := nI 140) dX9_half_18 (by decide) ?_
    refine ev_iload_n (pc := 21) dX9_half_21 rfl ?_
    refine ev_imulN (pc := 22) dX9_half_22 ?_
    refine ev_icmp_ltN (pc := 23) (tgt := 60) dX9_half_23 (by decide) (by omega) (by omega) (fun c1 => ?_) (fun c1 => ?_)
    · omega
    · refine ev_aload_n (pc := 26) dX9_half_26 rfl ?_
      refine ev_getf (pc := 27) dX9_half_27 f_X9_7 (rp_M hM) rfl ?_
      refine ev_iload_n (pc := 30) dX9_half_30 rfl ?_
      refine ev_iaN (pc := 31) dX9_half_31 (rp_L hM) (by omega) (by omega) ?_
      refine ev_istore (pc := 32) dX9_half_32 rfl ?_
      refine ev_aload_n (pc := 34) dX9_half_34 rfl ?_
      refine ev_getf (pc := 35) dX9_half_35 f_X9_7 (rp_M hM) rfl ?_
      refine ev_iload_n (pc := 38) dX9_half_38 rfl ?_
      refine ev_iload (pc := 39) dX9_half_39 rfl ?_
      refine ev_iconst (pc := 41) (v := nI 1) dX9_half_41 (by decide) ?_
      refine ev_ishr (pc := 42) dX9_half_42 (ev_ti (mi_shr (by omega) (by decide)) ?_)
      rw [Nat.pow_one]
      refine ev_iload_n (pc := 43) dX9_half_43 rfl ?_
      refine ev_bipush (pc := 44) (v := nI 29) dX9_half_44 (by decide) ?_
      refine ev_ishl (pc := 46) dX9_half_46 (ev_ti (mi_shl29 hc) ?_)
      refine ev_ior (pc := 47) dX9_half_47 (ev_ti (mi_or29 (by omega) hc) ?_)
      refine ev_iast (pc := 48) dX9_half_48 (rp_L hM) (vp_in_nI (by omega) (by decide)) ?_
      refine ev_th (rp_uL hM (by omega)) ?_
      refine ev_iload (pc := 49) dX9_half_49 rfl ?_
      refine ev_iconst (pc := 51) (v := nI 1) dX9_half_51 (by decide) ?_
      refine ev_iand (pc := 52) dX9_half_52 (ev_ti (mi_and1 (by omega)) ?_)
      refine ev_istore_n (pc := 53) dX9_half_53 rfl ?_
      refine ev_iincD (pc := 54) dX9_half_54 rfl rfl (by omega) ?_
      refine ev_goto (pc := 57) (tgt := 17) dX9_half_57 (by decide) ?_
      refine ev_vs [(0, .ref M), (1, .int (nI r)), (2, .int (nI (L1 (140 * r + j) % 2))), (3, .int (nI (140 * r + j - 1)))] ⟨rfl, rfl, rfl, rfl, trivial⟩ ?_
      refine l_half hM hr hr0 hs hL hK j _ _ (by omega) (by omega) (fun i hi => ?_) (fun y hy => ?_) ?_
      · unfold va_up
        split
        · omega
        · exact e1 i hi
      · unfold va_up; rw [if_neg (by omega)]; exact e2 y (by omega)
      · rw [va_sh]
        have u := mb_up (g := fun k => L1 (140 * r + k)) (k := j) (x := L1 (140 * r + j) / 2 + cy * 536870912) (n := s r) (by omega)
        rw [mb_vs, Nat.pow_succ] at e3
        rw [ej] at u ⊢
        have dm := Nat.div_add_mod (L (140 * r + j)) 2
        generalize mb_v (va_up (fun k => L1 (140 * r + k)) j (L (140 * r + j) / 2 + cy * 536870912)) (s r) = V2 at *
        generalize mb_v (fun k => L1 (140 * r + k)) (s r) = V1 at *
        generalize mb_v (fun k => L (140 * r + k)) (s r) = V0 at *
        generalize mb_v (fun k => L (140 * r + k)) j = Lo at *
        generalize 1073741824 ^ j = p at *
        generalize hq : L (140 * r + j) / 2 = q at *
        generalize hm : L (140 * r + j) % 2 = m at *
        rw [← dm] at u e3
        have f1 : (q + cy * 536870912) * p = q * p + cy * p * 536870912 := by rw [Nat.add_mul]; congr 1; ac_rfl
        have f2 : (2 * q + m) * p = 2 * (q * p) + m * p := by rw [Nat.add_mul]; congr 1; ac_rfl
        have f3 : cy * (p * 1073741824) = cy * p * 1073741824 := by ac_rfl
        rw [f1, f2] at u
        rw [f2, f3] at e3
        omega
theorem k_rhalf (hd : 2 ≤ dd) (hw : 21 ≤ w) (hM : RM h M lm sz rest) (hr : r < 47) (hr0 : 0 < r) (hV : RV L s v) : ev_Ca G dd w m_X9_half [.ref M, .int (nI r)] (rp h lm sz L s) 0 0 (ev_ok (fun y h1 => y = none ∧ ∃ L2 s2, h1 = rp h lm sz L2 s2 ∧ RV L2 s2 (va_up v r (v r / 2)))) := by
  obtain ⟨dd, rfl⟩ : ∃ e, dd = e + 1 := ⟨dd - 1, by omega⟩
  refine ⟨by decide +kernel, rfl, ?_⟩
  have hvr := hV r hr
  obtain ⟨a1, a2, a3, a4⟩ := id hvr
  refine ev_iconst (pc := 0) (v := nI 0) dX9_half_0 (by decide) ?_
  refine ev_istore_n (pc := 1) dX9_half_1 rfl ?_
  refine ev_sipush (pc := 2) (v := nI 140) dX9_half_2 (by decide) ?_
  refine ev_iload_n (pc := 5) dX9_half_5 rfl ?_
  refine ev_imulN (pc := 6) dX9_half_6 ?_
  refine ev_aload_n (pc := 7) dX9_half_7 rfl ?_
  refine ev_getf (pc := 8) dX9_half_8 f_X9_13 (rp_M hM) rfl ?_
  refine ev_iload_n (pc := 11) dX9_half_11 rfl ?_
  refine ev_iaN (pc := 12) dX9_half_12 rp_S (by omega) (by omega) ?_
  refine ev_iaddN (pc := 13) dX9_half_13 ?_
  refine ev_iconst (pc := 14) (v := nI 1) dX9_half_14 (by decide) ?_
  refine ev_isubN (pc := 15) dX9_half_15 (by omega) ?_
  refine ev_istore_n (pc := 16) dX9_half_16 rfl ?_
  refine ev_vs [(0, .ref M), (1, .int (nI r)), (2, .int (nI 0)), (3, .int (nI (140 * r + s r - 1)))] ⟨rfl, rfl, rfl, rfl, trivial⟩ ?_
  refine l_half hM hr hr0 a1 a2 (fun L1 e1 e2 e3 => ?_) (s r) L 0 (Nat.le_refl _) (by decide) a2 (fun _ _ => rfl) (by rw [Nat.zero_mul]; omega)
  refine ev_aload_n (pc := 60) dX9_half_60 rfl ?_
  refine ev_iload_n (pc := 61) dX9_half_61 rfl ?_
  rw [a4] at e3
  refine ev_callV (pc := 62) (As := [.int (nI r)]) dX9_half_62 cv_X9_82 rfl rfl (rp_M hM) rfl ⟨by show 19 + 2 ≤ w; omega, show ev_Ca _ _ (w - 21) _ _ _ _ _ _ from k_rtrim (v := v) (x := v r / 2) (by omega) hM hr (fun i hi q => rv_cg (hV i hi) rfl (fun k hk => e2 _ (by have := (hV i hi).1; omega))) ⟨a1, e1, e3⟩⟩ rfl rfl (fun r h1 hp => ?_)
  obtain ⟨rfl, s2, rfl, hV2⟩ := hp
  exact ev_vret (pc := 65) dX9_half_65 rfl ⟨rfl, L1, s2, rfl, hV2⟩
end REF6
