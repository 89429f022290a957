/-! THE REFERENCE: twice -/
theorem mb_vlt {g : Nat → Nat} : ∀ n, (∀ k, k < n → g k < 1073741824) → mb_v g n < 1073741824 ^ n
  | 0, _ => by show 0 < 1073741824 ^ 0; decide
  | n + 1, h => by
    show mb_v g n + g n * 1073741824 ^ n < _
    have a := mb_vlt n (fun k hk => h k (by omega))
    have b : g n * 1073741824 ^ n ≤ 1073741823 * 1073741824 ^ n := Nat.mul_le_mul_right _ (by have := h n (by omega); omega)
    rw [Nat.pow_succ]
    omega
/-- a top limb is there if the number needs it -/
theorem mb_top1 {g : Nat → Nat} {n : Nat} (h : ∀ k, k < n → g k < 1073741824) (hn : 0 < n) (hv : 1073741824 ^ (n - 1) ≤ mb_v g n) : g (n - 1) ≠ 0 := by
  obtain ⟨m, rfl⟩ : ∃ m, n = m + 1 := ⟨n - 1, by omega⟩
  rw [Nat.add_sub_cancel] at hv ⊢
  intro e
  have a := mb_vlt m (fun k hk => h k (by omega))
  have : mb_v g (m + 1) = mb_v g m + g m * 1073741824 ^ m := rfl
  rw [this, e, Nat.zero_mul] at hv
  omega
theorem rv_ge {L s : Nat → Nat} {i v : Nat} (h : rv L s i v) (hp : 0 < s i) : 1073741824 ^ (s i - 1) ≤ v := by
  obtain ⟨a1, a2, a3, a4⟩ := h
  have t := a3 hp
  generalize s i = n at *
  obtain ⟨m, rfl⟩ : ∃ m, n = m + 1 := ⟨n - 1, by omega⟩
  rw [Nat.add_sub_cancel] at t ⊢
  have : mb_v (fun k => L (140 * i + k)) (m + 1) = mb_v (fun k => L (140 * i + k)) m + L (140 * i + m) * 1073741824 ^ m := rfl
  rw [this] at a4
  have q : 1 * 1073741824 ^ m ≤ L (140 * i + m) * 1073741824 ^ m := Nat.mul_le_mul_right _ (by omega)
  omega
section REF5
variable {G : ev_G} {w : Nat} {h : ev_H} {M lm sz r o j k dd : Nat} {rest : List Value} {L s v : Nat → Nat}
theorem l_tw {K : ev_K} {c z dg : Nat} (hM : RM h M lm sz rest) (hr : r < 47) (hs : s r ≤ 140) (hL : ∀ k, k < s r → L (140 * r + k) < 1073741824)
    (hK : ∀ L1 cy, cy ≤ 1 → (∀ i, i < s r → L1 (140 * r + i) < 1073741824) → (∀ y, (y < 140 * r ∨ 140 * r + s r ≤ y) → L1 y = L y) → mb_v (fun k => L1 (140 * r + k)) (s r) + cy * 1073741824 ^ s r = 2 * mb_v (fun k => L (140 * r + k)) (s r) + dg → ev_J G (ev_cc G dd w) w m_X9_twice K (63, ev_lf [(0, .ref M), (1, .int (nI r)), (3, .int (nI cy))], [], rp h lm sz L1 s, c, z)) :
    ∀ k j L1 cy, j + k = s r → cy ≤ 1 → (∀ i, i < j → L1 (140 * r + i) < 1073741824) → (∀ y, (y < 140 * r ∨ 140 * r + j ≤ y) → L1 y = L y) → mb_v (fun k => L1 (140 * r + k)) j + cy * 1073741824 ^ j = 2 * mb_v (fun k => L (140 * r + k)) j + dg → ev_J G (ev_cc G dd w) w m_X9_twice K (9, ev_lf [(0, .ref M), (1, .int (nI r)), (3, .int (nI cy)), (4, .int (nI (140 * r + j)))], [], rp h lm sz L1 s, c, z)
  | 0, j, L1, cy, e, hc, e1, e2, e3 => by
    refine ev_iload (pc := 9) dX9_twice_9 rfl ?_
    refine ev_sipush (pc := 11) (v := nI 140) dX9_twice_11 (by decide) ?_
    refine ev_iload_n (pc := 14) dX9_twice_14 rfl ?_
    refine ev_imulN (pc := 15) dX9_twice_15 ?_
    refine ev_aload_n (pc := 16) dX9_twice_16 rfl ?_
    refine ev_getf (pc := 17) dX9_twice_17 f_X9_13 (rp_M hM) rfl ?_
    refine ev_iload_n (pc := 20) dX9_twice_20 rfl ?_
    refine ev_iaN (pc := 21) dX9_twice_21 rp_S (by omega) (by omega) ?_
    refine ev_iaddN (pc := 22) dX9_twice_22 ?_
    refine ev_icmp_geN (pc := 23) (tgt := 63) dX9_twice_23 (by decide) (by omega) (by omega) (fun c1 => ?_) (fun c1 => ?_)
    · refine ev_vs [(0, .ref M), (1, .int (nI r)), (3, .int (nI cy))] ⟨rfl, rfl, rfl, trivial⟩ ?_
      have : j = s r := by omega
      subst this
      exact hK L1 cy hc e1 e2 e3
    · omega
  | k + 1, j, L1, cy, e, hc, e1, e2, e3 => by
    have b := hL j (by omega)
    have ej : L1 (140 * r + j) = L (140 * r + j) := e2 _ (by omega)
    have dm := Nat.div_add_mod (L1 (140 * r + j) * 2 + cy) 1073741824
    have ml : (L1 (140 * r + j) * 2 + cy) % 1073741824 < 1073741824 := Nat.mod_lt _ (by decide)
    refine ev_iload (pc := 9) dX9_twice_9 rfl ?_
    refine ev_sipush (pc := 11) (v := nI 140) dX9_twice_11 (by decide) ?_
    refine ev_iload_n (pc := 14) dX9_twice_14 rfl ?_
    refine ev_imulN (pc := 15) dX9_twice_15 ?_
    refine ev_aload_n (pc := 16) dX9_twice_16 rfl ?_
    refine ev_getf (pc := 17) dX9_twice_17 f_X9_13 (rp_M hM) rfl ?_
    refine ev_iload_n (pc := 20) dX9_twice_20 rfl ?_
    refine ev_iaN (pc := 21) dX9_twice_21 rp_S (by omega) (by omega) ?_
    refine ev_iaddN (pc := 22) dX9_twice_22 ?_
    refine ev_icmp_geN (pc := 23) (tgt := 63) dX9_twice_23 (by decide) (by omega) (by omega) (fun c1 => ?_) (fun c1 => ?_)
    · omega
    · refine ev_aload_n (pc := 26) dX9_twice_26 rfl ?_
      refine ev_getf (pc := 27) dX9_twice_27 f_X9_7 (rp_M hM) rfl ?_
      refine ev_iload (pc := 30) dX9_twice_30 rfl ?_
      refine ev_iaN (pc := 32) dX9_twice_32 (rp_L hM) (by omega) (by omega) ?_
      refine ev_iconst (pc := 33) (v := nI 2) dX9_twice_33 (by decide) ?_
      refine ev_imulN (pc := 34) dX9_twice_34 ?_
      refine ev_iload_n (pc := 35) dX9_twice_35 rfl ?_
      refine ev_iaddN (pc := 36) dX9_twice_36 ?_
      refine ev_istore (pc := 37) dX9_twice_37 rfl ?_
      refine ev_aload_n (pc := 39) dX9_twice_39 rfl ?_
      refine ev_getf (pc := 40) dX9_twice_40 f_X9_7 (rp_M hM) rfl ?_
      refine ev_iload (pc := 43) dX9_twice_43 rfl ?_
      refine ev_iload (pc := 45) dX9_twice_45 rfl ?_
      refine ev_ldc (pc := 47) dX9_twice_47 k_X9_79 ?_
      refine ev_iandN (pc := 49) dX9_twice_49 (by omega) ?_
      refine ev_iast (pc := 50) dX9_twice_50 (rp_L hM) (vp_in_nI (by omega) (by decide)) ?_
      refine ev_th (rp_uL hM (by omega)) ?_
      refine ev_iload (pc := 51) dX9_twice_51 rfl ?_
      refine ev_bipush (pc := 53) (v := nI 30) dX9_twice_53 (by decide) ?_
      refine ev_iushrN (pc := 55) dX9_twice_55 (by omega) ?_
      refine ev_istore_n (pc := 56) dX9_twice_56 rfl ?_
      refine ev_iincN (pc := 57) dX9_twice_57 rfl rfl ?_
      refine ev_goto (pc := 60) (tgt := 9) dX9_twice_60 (by decide) ?_
      refine ev_vs [(0, .ref M), (1, .int (nI r)), (3, .int (nI ((L1 (140 * r + j) * 2 + cy) / 1073741824))), (4, .int (nI (140 * r + (j + 1))))] ⟨rfl, rfl, rfl, rfl, trivial⟩ ?_
      refine l_tw hM hr hs hL hK k (j + 1) _ _ (by omega) (by omega) (fun i hi => ?_) (fun y hy => ?_) ?_
      · unfold va_up
        split
        · exact ml
        · exact e1 i (by omega)
      · unfold va_up; rw [if_neg (by omega)]; exact e2 y (by omega)
      · show mb_v (fun k => va_up L1 (140 * r + j) _ (140 * r + k)) j + va_up L1 (140 * r + j) _ (140 * r + j) * 1073741824 ^ j + _ = 2 * (mb_v (fun k => L (140 * r + k)) j + L (140 * r + j) * 1073741824 ^ j) + dg
        rw [va_up_self, mb_vcg j (g2 := fun k => L1 (140 * r + k)) (fun k hk => va_up_ne _ _ (by omega)), Nat.pow_succ]
        generalize hq : (L1 (140 * r + j) * 2 + cy) / 1073741824 = q at *
        generalize hm : (L1 (140 * r + j) * 2 + cy) % 1073741824 = m at *
        rw [ej] at dm
        generalize 1073741824 ^ j = p at *
        generalize L (140 * r + j) = x at *
        have f1 : q * (p * 1073741824) + m * p = (1073741824 * q + m) * p := by rw [Nat.add_mul]; congr 1; ac_rfl
        have f2 : (x * 2 + cy) * p = 2 * (x * p) + cy * p := by rw [Nat.add_mul]; congr 1; ac_rfl
        rw [dm, f2] at f1
        omega
theorem k_rtwice {dg : Nat} (hd : 1 ≤ dd) (hM : RM h M lm sz rest) (hr : r < 47) (hg : dg ≤ 1) (hV : RV L s v) (hs : s r < 140) : ev_Ca G dd w m_X9_twice [.ref M, .int (nI r), .int (nI dg)] (rp h lm sz L s) 0 0 (ev_ok (fun y h1 => y = none ∧ ∃ L2 s2, h1 = rp h lm sz L2 s2 ∧ RV L2 s2 (va_up v r (2 * v r + dg)))) := by
  obtain ⟨dd, rfl⟩ : ∃ e, dd = e + 1 := ⟨dd - 1, by omega⟩
  refine ⟨by decide +kernel, rfl, ?_⟩
  have hvr := hV r hr
  obtain ⟨a1, a2, a3, a4⟩ := id hvr
  refine ev_iload_n (pc := 0) dX9_twice_0 rfl ?_
  refine ev_istore_n (pc := 1) dX9_twice_1 rfl ?_
  refine ev_sipush (pc := 2) (v := nI 140) dX9_twice_2 (by decide) ?_
  refine ev_iload_n (pc := 5) dX9_twice_5 rfl ?_
  refine ev_imulN (pc := 6) dX9_twice_6 ?_
  refine ev_istore (pc := 7) dX9_twice_7 rfl ?_
  refine ev_vs [(0, .ref M), (1, .int (nI r)), (3, .int (nI dg)), (4, .int (nI (140 * r + 0)))] ⟨rfl, rfl, rfl, rfl, trivial⟩ ?_
  refine l_tw (dg := dg) hM hr a1 a2 (fun L1 cy hc e1 e2 e3 => ?_) (s r) 0 L dg (by omega) hg (fun i hi => absurd hi (Nat.not_lt_zero i)) (fun _ _ => rfl) (by show 0 + dg * 1073741824 ^ 0 = 2 * 0 + dg; rw [Nat.pow_zero]; omega)
  rw [a4] at e3
  have oth : ∀ L2 s2, (∀ i, i ≠ r → s2 i = s i) → (∀ y, (y < 140 * r ∨ 140 * r + 140 ≤ y) → L2 y = L y) → rv L2 s2 r (2 * v r + dg) → RV L2 s2 (va_up v r (2 * v r + dg)) := by
    intro L2 s2 u1 u2 u3 i hi
    by_cases q : i = r
    · subst q; rw [va_up_self]; exact u3
    · rw [va_up_ne _ _ q]
      have b := (hV i hi).1
      exact rv_cg (hV i hi) (u1 i q) (fun k hk => u2 _ (by omega))
  refine ev_iload_n (pc := 63) dX9_twice_63 rfl ?_
  refine ev_if_leN (pc := 64) (tgt := 95) dX9_twice_64 (by decide) (by omega) (fun c1 => ?_) (fun c1 => ?_)
  · rw [c1, Nat.zero_mul, Nat.add_zero] at e3
    refine ev_vret (pc := 95) dX9_twice_95 rfl ⟨rfl, L1, s, rfl, oth L1 s (fun _ _ => rfl) (fun y hy => e2 y (by omega)) ⟨a1, e1, fun q => ?_, e3⟩⟩
    refine mb_top1 (g := fun k => L1 (140 * r + k)) e1 q ?_
    rw [e3]
    have := rv_ge hvr q
    omega
  · have c2 : cy = 1 := by omega
    subst c2
    refine ev_aload_n (pc := 67) dX9_twice_67 rfl ?_
    refine ev_getf (pc := 68) dX9_twice_68 f_X9_7 (rp_M hM) rfl ?_
    refine ev_sipush (pc := 71) (v := nI 140) dX9_twice_71 (by decide) ?_
    refine ev_iload_n (pc := 74) dX9_twice_74 rfl ?_
    refine ev_imulN (pc := 75) dX9_twice_75 ?_
    refine ev_aload_n (pc := 76) dX9_twice_76 rfl ?_
    refine ev_getf (pc := 77) dX9_twice_77 f_X9_13 (rp_M hM) rfl ?_
    refine ev_iload_n (pc := 80) dX9_twice_80 rfl ?_
    refine ev_iaN (pc := 81) dX9_twice_81 rp_S (by omega) (by omega) ?_
    refine ev_iaddN (pc := 82) dX9_twice_82 ?_
    refine ev_iload_n (pc := 83) dX9_twice_83 rfl ?_
    refine ev_iast (pc := 84) dX9_twice_84 (rp_L hM) (vp_in_nI (by omega) (by decide)) ?_
    refine ev_th (rp_uL hM (by omega)) ?_
    refine ev_aload_n (pc := 85) dX9_twice_85 rfl ?_
    refine ev_getf (pc := 86) dX9_twice_86 f_X9_13 (rp_M hM) rfl ?_
    refine ev_iload_n (pc := 89) dX9_twice_89 rfl ?_
    refine ev_dup2_11 (pc := 90) dX9_twice_90 rfl rfl ?_
    refine ev_iaN (pc := 91) dX9_twice_91 rp_S (by omega) (by omega) ?_
    refine ev_iconst (pc := 92) (v := nI 1) dX9_twice_92 (by decide) ?_
    refine ev_iaddN (pc := 93) dX9_twice_93 ?_
    refine ev_iast (pc := 94) dX9_twice_94 rp_S (vp_in_nI hr (by decide)) ?_
    refine ev_th (rp_uS hr) ?_
    refine ev_vret (pc := 95) dX9_twice_95 rfl ⟨rfl, _, _, rfl, oth _ _ (fun i hi => va_up_ne _ _ hi) (fun y hy => ?_) ⟨by rw [va_up_self]; omega, fun k hk => ?_, fun _ => ?_, ?_⟩⟩
    · rw [va_up_ne _ _ (by omega)]; exact e2 y (by omega)
    · rw [va_up_self] at hk
      unfold va_up
      split
      · decide
      · exact e1 k (by omega)
    · rw [va_up_self, Nat.add_sub_cancel, va_up_self]; decide
    · rw [va_up_self]
      show mb_v (fun k => va_up L1 (140 * r + s r) 1 (140 * r + k)) (s r) + va_up L1 (140 * r + s r) 1 (140 * r + s r) * 1073741824 ^ s r = _
      rw [va_up_self, mb_vcg (s r) (g2 := fun k => L1 (140 * r + k)) (fun k hk => va_up_ne _ _ (by omega))]
      exact e3
end REF5
