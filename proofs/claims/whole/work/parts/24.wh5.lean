/-! Whole: addAt, subtractAt, guessDigit -/
section EVLC
variable {G : ev_G} {C : ev_L} {w : Nat} {M : ev_M} {K : ev_K} {pc : Nat} {L : ev_V} {st : List Value} {h : ev_H} {c z : Nat}
theorem lc_i (x y : Int64) : (0 < lg_cmp x y ↔ y < x) ∧ (0 ≤ lg_cmp x y ↔ y ≤ x) ∧ (lg_cmp x y < 0 ↔ x < y) ∧ (lg_cmp x y ≤ 0 ↔ x ≤ y) ∧ (lg_cmp x y = 0 ↔ x = y) := by
  unfold lg_cmp
  by_cases h1 : y < x
  · rw [if_pos h1]
    have h2 : ¬ x < y := fun e => Int64.lt_irrefl (Int64.lt_trans h1 e)
    have h3 : ¬ x = y := fun e => by rw [e] at h1; exact Int64.lt_irrefl h1
    refine ⟨⟨fun _ => h1, fun _ => by decide⟩, ⟨fun _ => Int64.le_of_lt h1, fun _ => by decide⟩, ⟨fun e => absurd e (by decide), fun e => absurd e h2⟩, ⟨fun e => absurd e (by decide), fun e => absurd h1 (Int64.not_lt.mpr e)⟩, ⟨fun e => absurd e (by decide), fun e => absurd e h3⟩⟩
  · rw [if_neg h1]
    by_cases h2 : x = y
    · rw [if_pos h2]
      subst h2
      refine ⟨⟨fun e => absurd e (by decide), fun e => absurd e h1⟩, ⟨fun _ => Int64.le_refl x, fun _ => by decide⟩, ⟨fun e => absurd e (by decide), fun e => absurd e h1⟩, ⟨fun _ => Int64.le_refl x, fun _ => by decide⟩, ⟨fun _ => rfl, fun _ => rfl⟩⟩
    · rw [if_neg h2]
      have h3 : x < y := Int64.lt_of_le_of_ne (Int64.not_lt.mp h1) h2
      refine ⟨⟨fun e => absurd e (by decide), fun e => absurd e h1⟩, ⟨fun e => absurd e (by decide), fun e => absurd h3 (Int64.not_lt.mpr e)⟩, ⟨fun _ => h3, fun _ => by decide⟩, ⟨fun _ => Int64.le_of_lt h3, fun _ => by decide⟩, ⟨fun e => absurd e (by decide), fun e => absurd e h2⟩⟩
theorem ev_lc_gt {off : Int} {tgt x y : Nat} (hd : decode M.2.1 pc = .ok (.lcmp, 1)) (hd2 : decode M.2.1 (pc + 1) = .ok (.ifCond .gt off, 3)) (ht : ((pc + 1 : Nat) : Int) + off = (tgt : Int)) (hx : x < 2 ^ 63) (hy : y < 2 ^ 63) (kt : y < x → ev_J G C w M K (tgt, L, st, h, c, z)) (kf : x ≤ y → ev_J G C w M K (pc + 1 + 3, L, st, h, c, z)) : ev_J G C w M K (pc, L, .long (lN y) :: .long (lN x) :: st, h, c, z) := ev_lcmp hd (ev_if_gt hd2 ht (fun q => kt (((lc_i (lN x) (lN y)).1.trans (pk_lLT hy hx)).mp q)) (fun q => kf (Nat.not_lt.mp (fun e => q (((lc_i (lN x) (lN y)).1.trans (pk_lLT hy hx)).mpr e)))))
theorem ev_lc_ge {off : Int} {tgt x y : Nat} (hd : decode M.2.1 pc = .ok (.lcmp, 1)) (hd2 : decode M.2.1 (pc + 1) = .ok (.ifCond .ge off, 3)) (ht : ((pc + 1 : Nat) : Int) + off = (tgt : Int)) (hx : x < 2 ^ 63) (hy : y < 2 ^ 63) (kt : y ≤ x → ev_J G C w M K (tgt, L, st, h, c, z)) (kf : x < y → ev_J G C w M K (pc + 1 + 3, L, st, h, c, z)) : ev_J G C w M K (pc, L, .long (lN y) :: .long (lN x) :: st, h, c, z) := ev_lcmp hd (ev_if_ge hd2 ht (fun q => kt (((lc_i (lN x) (lN y)).2.1.trans (pk_lLE hy hx)).mp q)) (fun q => kf (Nat.not_le.mp (fun e => q (((lc_i (lN x) (lN y)).2.1.trans (pk_lLE hy hx)).mpr e)))))
theorem ev_lc_lt {off : Int} {tgt x y : Nat} (hd : decode M.2.1 pc = .ok (.lcmp, 1)) (hd2 : decode M.2.1 (pc + 1) = .ok (.ifCond .lt off, 3)) (ht : ((pc + 1 : Nat) : Int) + off = (tgt : Int)) (hx : x < 2 ^ 63) (hy : y < 2 ^ 63) (kt : x < y → ev_J G C w M K (tgt, L, st, h, c, z)) (kf : y ≤ x → ev_J G C w M K (pc + 1 + 3, L, st, h, c, z)) : ev_J G C w M K (pc, L, .long (lN y) :: .long (lN x) :: st, h, c, z) := ev_lcmp hd (ev_if_lt hd2 ht (fun q => kt (((lc_i (lN x) (lN y)).2.2.1.trans (pk_lLT hx hy)).mp q)) (fun q => kf (Nat.not_lt.mp (fun e => q (((lc_i (lN x) (lN y)).2.2.1.trans (pk_lLT hx hy)).mpr e)))))
theorem ev_lc_le {off : Int} {tgt x y : Nat} (hd : decode M.2.1 pc = .ok (.lcmp, 1)) (hd2 : decode M.2.1 (pc + 1) = .ok (.ifCond .le off, 3)) (ht : ((pc + 1 : Nat) : Int) + off = (tgt : Int)) (hx : x < 2 ^ 63) (hy : y < 2 ^ 63) (kt : x ≤ y → ev_J G C w M K (tgt, L, st, h, c, z)) (kf : y < x → ev_J G C w M K (pc + 1 + 3, L, st, h, c, z)) : ev_J G C w M K (pc, L, .long (lN y) :: .long (lN x) :: st, h, c, z) := ev_lcmp hd (ev_if_le hd2 ht (fun q => kt (((lc_i (lN x) (lN y)).2.2.2.1.trans (pk_lLE hx hy)).mp q)) (fun q => kf (Nat.not_le.mp (fun e => q (((lc_i (lN x) (lN y)).2.2.2.1.trans (pk_lLE hx hy)).mpr e)))))
theorem ev_lc_eq {off : Int} {tgt x y : Nat} (hd : decode M.2.1 pc = .ok (.lcmp, 1)) (hd2 : decode M.2.1 (pc + 1) = .ok (.ifCond .eq off, 3)) (ht : ((pc + 1 : Nat) : Int) + off = (tgt : Int)) (hx : x < 2 ^ 63) (hy : y < 2 ^ 63) (kt : x = y → ev_J G C w M K (tgt, L, st, h, c, z)) (kf : ¬ x = y → ev_J G C w M K (pc + 1 + 3, L, st, h, c, z)) : ev_J G C w M K (pc, L, .long (lN y) :: .long (lN x) :: st, h, c, z) := ev_lcmp hd (ev_if_eq hd2 ht (fun q => kt (((lc_i (lN x) (lN y)).2.2.2.2.trans (pk_lEQ hx hy)).mp q)) (fun q => kf (fun e => q (((lc_i (lN x) (lN y)).2.2.2.2.trans (pk_lEQ hx hy)).mpr e))))
theorem ev_lc_ne {off : Int} {tgt x y : Nat} (hd : decode M.2.1 pc = .ok (.lcmp, 1)) (hd2 : decode M.2.1 (pc + 1) = .ok (.ifCond .ne off, 3)) (ht : ((pc + 1 : Nat) : Int) + off = (tgt : Int)) (hx : x < 2 ^ 63) (hy : y < 2 ^ 63) (kt : ¬ x = y → ev_J G C w M K (tgt, L, st, h, c, z)) (kf : x = y → ev_J G C w M K (pc + 1 + 3, L, st, h, c, z)) : ev_J G C w M K (pc, L, .long (lN y) :: .long (lN x) :: st, h, c, z) := ev_lcmp hd (ev_if_ne hd2 ht (fun q => kt (fun e => q (((lc_i (lN x) (lN y)).2.2.2.2.trans (pk_lEQ hx hy)).mpr e))) (fun q => kf (((lc_i (lN x) (lN y)).2.2.2.2.trans (pk_lEQ hx hy)).mp q)))
end EVLC
/-- longs that may be below 0 -/
theorem lz_n (n : Nat) : lN n = Int64.ofInt n := Int64.ofInt_eq_ofNat.symm
theorem lz_u (v : Int) : Int64.ofInt v = lN (v % 18446744073709551616).toNat := by
  apply Int64.toBitVec_inj.mp
  rw [wb_tb]
  show BitVec.ofInt 64 v = _
  apply BitVec.eq_of_toNat_eq
  rw [BitVec.toNat_ofInt, BitVec.toNat_ofNat]
  have h0 := Int.emod_nonneg v (show (18446744073709551616 : Int) ≠ 0 by decide)
  have h1 := Int.emod_lt_of_pos v (show (0 : Int) < 18446744073709551616 by decide)
  show (v % 18446744073709551616).toNat = _
  omega
theorem lz_mask (v : Int) : Int64.ofInt v &&& lN 1073741823 = lN (v % 1073741824).toNat := by
  have h0 := Int.emod_nonneg v (show (18446744073709551616 : Int) ≠ 0 by decide)
  have h1 := Int.emod_lt_of_pos v (show (0 : Int) < 18446744073709551616 by decide)
  rw [lz_u, ml_mask (by omega)]
  congr 1
  omega
theorem lz_shr {v : Int} (h1 : -9223372036854775808 ≤ v) (h2 : v < 9223372036854775808) : Int64.ofInt v >>> ((nI 30).toInt64 &&& 63) = Int64.ofInt (v / 1073741824) := by
  rw [wb_c 30 (by decide)]
  have hD : ((lN 30).toBitVec.smod 64).toNat = 30 := by decide
  apply Int64.toInt_inj.mp
  rw [show (Int64.ofInt v >>> lN 30).toInt = (Int64.ofInt v).toInt >>> 30 by
    rw [← Int64.toInt_toBitVec, Int64.toBitVec_shiftRight, BitVec.toInt_sshiftRight', hD, Int64.toInt_toBitVec]]
  rw [Int64.toInt_ofInt_of_le (by omega) (by omega), Int64.toInt_ofInt_of_le (by omega) (by omega), Int.shiftRight_eq_div_pow]
  rfl
theorem lz_lt {v : Int} (h1 : -9223372036854775808 ≤ v) (h2 : v < 9223372036854775808) : (0 ≤ lg_cmp (Int64.ofInt v) (lN 0)) ↔ 0 ≤ v := by
  rw [(lc_i _ _).2.1, Int64.le_iff_toInt_le, Int64.toInt_ofInt_of_le (by omega) (by omega)]
  rfl
/-- the digits from a place on, one of them changed -/
theorem mb_shu (f : Nat → Nat) (at_ j x : Nat) : (fun k => va_up f (at_ + j) x (at_ + k)) = va_up (fun k => f (at_ + k)) j x := by
  funext k
  unfold va_up
  by_cases e : k = j
  · rw [if_pos (by omega), if_pos e]
  · rw [if_neg (by omega), if_neg e]
/-- a step of taking away t times g2 -/
theorem mb_sub1 {F F0 g2 : Nat → Nat} {j t cy x cy2 : Nat} (hj : F j = F0 j) (hx : F j + 1073741824 * cy2 = x + (g2 j * t + cy)) (e : mb_v F j + t * mb_v g2 j = mb_v F0 j + cy * 1073741824 ^ j) : mb_v (va_up F j x) (j + 1) + t * mb_v g2 (j + 1) = mb_v F0 (j + 1) + cy2 * 1073741824 ^ (j + 1) := by
  rw [mb_vs, mb_vs, mb_vs, mb_upo (Nat.le_refl j), va_up_self, mb_pw, Nat.mul_add]
  have h1 : (F j + 1073741824 * cy2) * 1073741824 ^ j = (x + (g2 j * t + cy)) * 1073741824 ^ j := by rw [hx]
  have h2 : (F j + 1073741824 * cy2) * 1073741824 ^ j = F0 j * 1073741824 ^ j + cy2 * (1073741824 ^ j * 1073741824) := by
    rw [hj, Nat.add_mul, Nat.mul_comm 1073741824 cy2, Nat.mul_assoc, Nat.mul_comm 1073741824]
  have h3 : (x + (g2 j * t + cy)) * 1073741824 ^ j = x * 1073741824 ^ j + t * (g2 j * 1073741824 ^ j) + cy * 1073741824 ^ j := by
    rw [Nat.add_mul, Nat.add_mul, Nat.mul_comm (g2 j) t, Nat.mul_assoc, Nat.add_assoc]
  omega
section WH5
variable {G : ev_G} {C : ev_L} {w : Nat} {K : ev_K} {h : ev_H} {q d n c z q2 d2 n2 : Nat} {g g2 : Nat → Nat}
theorem l_addAt (hqd : q ≠ d) (a : wh_a h q d q2 d2 n2 g2) (hg2 : ∀ j, g2 j < 1073741824) {at_ : Nat} (hs : at_ + n2 ≤ 71)
    (hK : ∀ f cy, (∀ j, f j < 1073741824) → (∀ j, j < at_ ∨ at_ + n2 ≤ j → f j = g j) → cy ≤ 1 → mb_v (fun k => f (at_ + k)) n2 + cy * 1073741824 ^ n2 = mb_v (fun k => g (at_ + k)) n2 + mb_v g2 n2 → ev_J G C w m_X7_addAt K (70, ev_lf [(0, .ref q), (3, .int (nI cy)), (4, .int (nI (at_ + n2)))], [], wh_p h q d n f, c, z)) :
    ∀ k j f cy, j + k = n2 → (∀ i, f i < 1073741824) → (∀ i, i < at_ ∨ at_ + j ≤ i → f i = g i) → cy ≤ 1 → mb_v (fun k => f (at_ + k)) j + cy * 1073741824 ^ j = mb_v (fun k => g (at_ + k)) j + mb_v g2 j → ev_J G C w m_X7_addAt K (18, ev_lf [(0, .ref q), (1, .int (nI at_)), (2, .ref q2), (3, .int (nI cy)), (4, .int (nI (at_ + n2))), (5, .int (nI (at_ + j)))], [], wh_p h q d n f, c, z)
  | 0, j, f, cy, e, hf, hfg, hcy, hv => by
    refine ev_iload (pc := 18) dX7_addAt_18 rfl ?_
    refine ev_iload (pc := 20) dX7_addAt_20 rfl ?_
    refine ev_icmp_geN (pc := 22) (tgt := 70) dX7_addAt_22 (by decide) (by omega) (by omega) (fun c1 => ?_) (fun c1 => ?_)
    · have e2 : j = n2 := by omega
      subst e2
      refine ev_vs [(0, .ref q), (3, .int (nI cy)), (4, .int (nI (at_ + j)))] ⟨rfl, rfl, rfl, trivial⟩ ?_
      exact hK f cy hf hfg hcy hv
    · omega
  | k + 1, j, f, cy, e, hf, hfg, hcy, hv => by
    have h1 := hf (at_ + j)
    have h2 := hg2 j
    refine ev_iload (pc := 18) dX7_addAt_18 rfl ?_
    refine ev_iload (pc := 20) dX7_addAt_20 rfl ?_
    refine ev_icmp_geN (pc := 22) (tgt := 70) dX7_addAt_22 (by decide) (by omega) (by omega) (fun c1 => ?_) (fun c1 => ?_)
    · omega
    · refine ev_aload_n (pc := 25) dX7_addAt_25 rfl ?_
      refine ev_getf (pc := 26) dX7_addAt_26 f_X7_9 wh_q rfl ?_
      refine ev_iload (pc := 29) dX7_addAt_29 rfl ?_
      refine wh_ld (pc := 31) dX7_addAt_31 hqd (by omega) ?_
      refine ev_aload_n (pc := 32) dX7_addAt_32 rfl ?_
      refine ev_getf (pc := 33) dX7_addAt_33 f_X7_9 (wh_aq a) rfl ?_
      refine ev_iload (pc := 36) dX7_addAt_36 rfl ?_
      refine ev_iload_n (pc := 38) dX7_addAt_38 rfl ?_
      refine ev_isubN (pc := 39) dX7_addAt_39 (by omega) ?_
      rw [show at_ + j - at_ = j by omega]
      refine ev_iaN (pc := 40) dX7_addAt_40 (wh_ad a) (by omega) (by omega) ?_
      refine ev_iaddN (pc := 41) dX7_addAt_41 ?_
      refine ev_iload_n (pc := 42) dX7_addAt_42 rfl ?_
      refine ev_iaddN (pc := 43) dX7_addAt_43 ?_
      refine ev_istore (pc := 44) dX7_addAt_44 rfl ?_
      refine ev_aload_n (pc := 46) dX7_addAt_46 rfl ?_
      refine ev_getf (pc := 47) dX7_addAt_47 f_X7_9 wh_q rfl ?_
      refine ev_iload (pc := 50) dX7_addAt_50 rfl ?_
      refine ev_iload (pc := 52) dX7_addAt_52 rfl ?_
      refine ev_ldc (pc := 54) dX7_addAt_54 k_X7_50 ?_
      refine ev_iandN (pc := 56) dX7_addAt_56 (by omega) ?_
      refine wh_sd (pc := 57) dX7_addAt_57 hqd (by omega) ?_
      refine ev_iload (pc := 58) dX7_addAt_58 rfl ?_
      refine ev_bipush (pc := 60) (v := nI 30) dX7_addAt_60 (by decide) ?_
      refine ev_iushrN (pc := 62) dX7_addAt_62 (by omega) ?_
      refine ev_istore_n (pc := 63) dX7_addAt_63 rfl ?_
      refine ev_iincN (pc := 64) dX7_addAt_64 rfl rfl ?_
      refine ev_goto (pc := 67) (tgt := 18) dX7_addAt_67 (by decide) ?_
      refine ev_vs [(0, .ref q), (1, .int (nI at_)), (2, .ref q2), (3, .int (nI ((f (at_ + j) + g2 j + cy) / 1073741824))), (4, .int (nI (at_ + n2))), (5, .int (nI (at_ + (j + 1))))] ⟨rfl, rfl, rfl, rfl, rfl, rfl, trivial⟩ ?_
      refine l_addAt hqd a hg2 hs hK k (j + 1) _ _ (by omega) (mb_upb hf (Nat.mod_lt _ (by decide))) (fun i hi => by rw [va_up_ne _ _ (by omega)]; exact hfg i (by omega)) (by omega) ?_
      rw [mb_shu]
      exact mb_add1 (f := fun k => f (at_ + k)) (g := fun k => g (at_ + k)) (hfg _ (Or.inr (Nat.le_refl _))) hv
theorem k_addAt {dd at_ : Nat} (hd : 1 ≤ dd) (hw : 23 ≤ w) (hqd : q ≠ d) (a : wh_a h q d q2 d2 n2 g2) (hg : ∀ j, g j < 1073741824) (hg2 : ∀ j, g2 j < 1073741824) (hs : at_ + n2 ≤ 71) : ev_Ca G dd w m_X7_addAt [.ref q, .int (nI at_), .ref q2] (wh_p h q d n g) 0 0 (ev_ok (fun r h1 => r = none ∧ ∃ f cy, h1 = wh_p h q d n f ∧ (∀ j, f j < 1073741824) ∧ (∀ j, j < at_ ∨ at_ + n2 < j → f j = g j) ∧ cy ≤ 1 ∧ mb_v (fun k => f (at_ + k)) (n2 + 1) + cy * 1073741824 ^ (n2 + 1) = mb_v (fun k => g (at_ + k)) (n2 + 1) + mb_v g2 n2)) := by
  obtain ⟨dd, rfl⟩ : ∃ e, dd = e + 1 := ⟨dd - 1, by omega⟩
  refine ⟨by decide +kernel, rfl, ?_⟩
  refine ev_iconst (pc := 0) (v := nI 0) dX7_addAt_0 (by decide) ?_
  refine ev_istore_n (pc := 1) dX7_addAt_1 rfl ?_
  refine ev_iload_n (pc := 2) dX7_addAt_2 rfl ?_
  refine ev_aload_n (pc := 3) dX7_addAt_3 rfl ?_
  refine ev_getf (pc := 4) dX7_addAt_4 f_X7_22 (wh_aq a) rfl ?_
  refine ev_iaddN (pc := 7) dX7_addAt_7 ?_
  refine ev_bipush (pc := 8) (v := nI 71) dX7_addAt_8 (by decide) ?_
  refine ev_mmin (pc := 10) dX7_addAt_10 mx_X7_47 rfl (by omega) (ev_ti (mi_min (by omega) (by omega)) ?_)
  refine ev_istore (pc := 13) dX7_addAt_13 rfl ?_
  refine ev_iload_n (pc := 15) dX7_addAt_15 rfl ?_
  refine ev_istore (pc := 16) dX7_addAt_16 rfl ?_
  rw [Nat.min_eq_left hs]
  refine ev_vs [(0, .ref q), (1, .int (nI at_)), (2, .ref q2), (3, .int (nI 0)), (4, .int (nI (at_ + n2))), (5, .int (nI (at_ + 0)))] ⟨rfl, rfl, rfl, rfl, rfl, rfl, trivial⟩ ?_
  refine l_addAt hqd a hg2 hs (fun f cy hf hfg hcy hv => ?_) n2 0 g 0 (by omega) hg (fun _ _ => rfl) (by omega) (by simp [mb_v0])
  have h1 := hf (at_ + n2)
  refine ev_aload_n (pc := 70) dX7_addAt_70 rfl ?_
  refine ev_getf (pc := 71) dX7_addAt_71 f_X7_9 wh_q rfl ?_
  refine ev_iload (pc := 74) dX7_addAt_74 rfl ?_
  refine ev_aload_n (pc := 76) dX7_addAt_76 rfl ?_
  refine ev_getf (pc := 77) dX7_addAt_77 f_X7_9 wh_q rfl ?_
  refine ev_iload (pc := 80) dX7_addAt_80 rfl ?_
  refine wh_ld (pc := 82) dX7_addAt_82 hqd (by omega) ?_
  refine ev_iload_n (pc := 83) dX7_addAt_83 rfl ?_
  refine ev_iaddN (pc := 84) dX7_addAt_84 ?_
  refine ev_ldc (pc := 85) dX7_addAt_85 k_X7_50 ?_
  refine ev_iandN (pc := 87) dX7_addAt_87 (by omega) ?_
  refine wh_sd (pc := 88) dX7_addAt_88 hqd (by omega) ?_
  refine ev_vret (pc := 89) dX7_addAt_89 rfl ⟨rfl, _, (f (at_ + n2) + cy) / 1073741824, rfl, mb_upb hf (Nat.mod_lt _ (by decide)), fun j hj => ?_, by omega, ?_⟩
  · rw [va_up_ne _ _ (by omega)]; exact hfg j (by omega)
  · rw [mb_shu, mb_vs, mb_vs, mb_upo (Nat.le_refl n2), va_up_self, mb_pw]
    have h2 := mb_cy (f (at_ + n2) + cy) (1073741824 ^ n2)
    have h3 : (f (at_ + n2) + cy) * 1073741824 ^ n2 = g (at_ + n2) * 1073741824 ^ n2 + cy * 1073741824 ^ n2 := by rw [hfg _ (Or.inr (Nat.le_refl _)), Nat.add_mul]
    omega
theorem l_subAt (hqd : q ≠ d) (a : wh_a h q d q2 d2 n2 g2) (hg2 : ∀ j, g2 j < 1073741824) {at_ t : Nat} (ht : t < 1073741824) (hs : at_ + n2 ≤ 71)
    (hK : ∀ f cy, (∀ j, f j < 1073741824) → (∀ j, j < at_ ∨ at_ + n2 ≤ j → f j = g j) → cy < 1073741824 → mb_v (fun k => f (at_ + k)) n2 + t * mb_v g2 n2 = mb_v (fun k => g (at_ + k)) n2 + cy * 1073741824 ^ n2 → ev_J G C w m_X7_subtractAt K (80, ev_lf [(0, .ref q), (4, .long (Int64.ofInt (-(cy : Int)))), (6, .int (nI (at_ + n2)))], [], wh_p h q d n f, c, z)) :
    ∀ k j f cy, j + k = n2 → (∀ i, f i < 1073741824) → (∀ i, i < at_ ∨ at_ + j ≤ i → f i = g i) → cy < 1073741824 → mb_v (fun k => f (at_ + k)) j + t * mb_v g2 j = mb_v (fun k => g (at_ + k)) j + cy * 1073741824 ^ j → ev_J G C w m_X7_subtractAt K (19, ev_lf [(0, .ref q), (1, .int (nI at_)), (2, .ref q2), (3, .int (nI t)), (4, .long (Int64.ofInt (-(cy : Int)))), (6, .int (nI (at_ + n2))), (7, .int (nI (at_ + j)))], [], wh_p h q d n f, c, z)
  | 0, j, f, cy, e, hf, hfg, hcy, hv => by
    refine ev_iload (pc := 19) dX7_subtractAt_19 rfl ?_
    refine ev_iload (pc := 21) dX7_subtractAt_21 rfl ?_
    refine ev_icmp_geN (pc := 23) (tgt := 80) dX7_subtractAt_23 (by decide) (by omega) (by omega) (fun c1 => ?_) (fun c1 => ?_)
    · have e2 : j = n2 := by omega
      subst e2
      refine ev_vs [(0, .ref q), (4, .long (Int64.ofInt (-(cy : Int)))), (6, .int (nI (at_ + j)))] ⟨rfl, rfl, rfl, trivial⟩ ?_
      exact hK f cy hf hfg hcy hv
    · omega
  | k + 1, j, f, cy, e, hf, hfg, hcy, hv => by
    have h1 := hf (at_ + j)
    have h2 := hg2 j
    have h3 : g2 j * t ≤ 1073741823 * 1073741823 := Nat.mul_le_mul (by omega) (by omega)
    refine ev_iload (pc := 19) dX7_subtractAt_19 rfl ?_
    refine ev_iload (pc := 21) dX7_subtractAt_21 rfl ?_
    refine ev_icmp_geN (pc := 23) (tgt := 80) dX7_subtractAt_23 (by decide) (by omega) (by omega) (fun c1 => ?_) (fun c1 => ?_)
    · omega
    · refine ev_aload_n (pc := 26) dX7_subtractAt_26 rfl ?_
      refine ev_getf (pc := 27) dX7_subtractAt_27 f_X7_9 wh_q rfl ?_
      refine ev_iload (pc := 30) dX7_subtractAt_30 rfl ?_
      refine wh_ld (pc := 32) dX7_subtractAt_32 hqd (by omega) ?_
      refine ev_i2lN (pc := 33) dX7_subtractAt_33 (by omega) ?_
      refine ev_aload_n (pc := 34) dX7_subtractAt_34 rfl ?_
      refine ev_getf (pc := 35) dX7_subtractAt_35 f_X7_9 (wh_aq a) rfl ?_
      refine ev_iload (pc := 38) dX7_subtractAt_38 rfl ?_
      refine ev_iload_n (pc := 40) dX7_subtractAt_40 rfl ?_
      refine ev_isubN (pc := 41) dX7_subtractAt_41 (by omega) ?_
      rw [show at_ + j - at_ = j by omega]
      refine ev_iaN (pc := 42) dX7_subtractAt_42 (wh_ad a) (by omega) (by omega) ?_
      refine ev_i2lN (pc := 43) dX7_subtractAt_43 (by omega) ?_
      refine ev_iload_n (pc := 44) dX7_subtractAt_44 rfl ?_
      refine ev_i2lN (pc := 45) dX7_subtractAt_45 (by omega) ?_
      refine ev_lmulN (pc := 46) dX7_subtractAt_46 ?_
      obtain ⟨part, hpart⟩ : ∃ part : Int, part = (f (at_ + j) : Int) - (g2 j * t : Nat) + (-(cy : Int)) := ⟨_, rfl⟩
      refine ev_lsub (pc := 47) dX7_subtractAt_47 ?_
      refine ev_lload (pc := 48) dX7_subtractAt_48 rfl ?_
      refine ev_ladd (pc := 50) dX7_subtractAt_50 ?_
      refine ev_tl (y := Int64.ofInt part) (by rw [hpart, lz_n, lz_n, Int64.ofInt_add, Int64.ofInt_sub]) ?_
      refine ev_lstore (pc := 51) dX7_subtractAt_51 rfl ?_
      refine ev_aload_n (pc := 53) dX7_subtractAt_53 rfl ?_
      refine ev_getf (pc := 54) dX7_subtractAt_54 f_X7_9 wh_q rfl ?_
      refine ev_iload (pc := 57) dX7_subtractAt_57 rfl ?_
      refine ev_lload (pc := 59) dX7_subtractAt_59 rfl ?_
      refine ev_ldc2 (pc := 61) dX7_subtractAt_61 k_X7_16 ?_
      refine ev_land (pc := 64) dX7_subtractAt_64 (ev_tl (lz_mask part) ?_)
      obtain ⟨x, hx⟩ : ∃ x : Nat, x = (part % 1073741824).toNat := ⟨_, rfl⟩
      rw [← hx]
      refine ev_l2iN (pc := 65) dX7_subtractAt_65 ?_
      refine wh_sd (pc := 66) dX7_subtractAt_66 hqd (by omega) ?_
      refine ev_lload (pc := 67) dX7_subtractAt_67 rfl ?_
      refine ev_bipush (pc := 69) (v := nI 30) dX7_subtractAt_69 (by decide) ?_
      refine ev_lshr (pc := 71) dX7_subtractAt_71 (ev_tl (lz_shr (by omega) (by omega)) ?_)
      obtain ⟨cy2, hcy2⟩ : ∃ cy2 : Nat, part / 1073741824 = -(cy2 : Int) := ⟨(-(part / 1073741824)).toNat, by omega⟩
      rw [hcy2]
      refine ev_lstore (pc := 72) dX7_subtractAt_72 rfl ?_
      refine ev_iincN (pc := 74) dX7_subtractAt_74 rfl rfl ?_
      refine ev_goto (pc := 77) (tgt := 19) dX7_subtractAt_77 (by decide) ?_
      refine ev_vs [(0, .ref q), (1, .int (nI at_)), (2, .ref q2), (3, .int (nI t)), (4, .long (Int64.ofInt (-(cy2 : Int)))), (6, .int (nI (at_ + n2))), (7, .int (nI (at_ + (j + 1))))] ⟨rfl, rfl, rfl, rfl, rfl, rfl, rfl, trivial⟩ ?_
      refine l_subAt hqd a hg2 ht hs hK k (j + 1) _ _ (by omega) (mb_upb hf (by omega)) (fun i hi => by rw [va_up_ne _ _ (by omega)]; exact hfg i (by omega)) (by omega) ?_
      rw [mb_shu]
      exact mb_sub1 (F := fun k => f (at_ + k)) (F0 := fun k => g (at_ + k)) (cy := cy) (hfg _ (Or.inr (Nat.le_refl _))) (by show f (at_ + j) + _ = _; omega) hv
theorem k_subtractAt {dd at_ t : Nat} (hd : 1 ≤ dd) (hw : 23 ≤ w) (hqd : q ≠ d) (a : wh_a h q d q2 d2 n2 g2) (hg : ∀ j, g j < 1073741824) (hg2 : ∀ j, g2 j < 1073741824) (ht : t < 1073741824) (hs : at_ + n2 ≤ 71) : ev_Ca G dd w m_X7_subtractAt [.ref q, .int (nI at_), .ref q2, .int (nI t)] (wh_p h q d n g) 0 0 (ev_ok (fun r h1 => ∃ f s, r = some (.int (nI s)) ∧ h1 = wh_p h q d n f ∧ (∀ j, f j < 1073741824) ∧ (∀ j, j < at_ ∨ at_ + n2 < j → f j = g j) ∧ s ≤ 1 ∧ mb_v (fun k => f (at_ + k)) (n2 + 1) + t * mb_v g2 n2 = mb_v (fun k => g (at_ + k)) (n2 + 1) + s * 1073741824 ^ (n2 + 1))) := by
  obtain ⟨dd, rfl⟩ : ∃ e, dd = e + 1 := ⟨dd - 1, by omega⟩
  refine ⟨by decide +kernel, rfl, ?_⟩
  refine ev_lconst (pc := 0) (v := lN 0) dX7_subtractAt_0 (by decide) ?_
  refine ev_lstore (pc := 1) dX7_subtractAt_1 rfl ?_
  refine ev_iload_n (pc := 3) dX7_subtractAt_3 rfl ?_
  refine ev_aload_n (pc := 4) dX7_subtractAt_4 rfl ?_
  refine ev_getf (pc := 5) dX7_subtractAt_5 f_X7_22 (wh_aq a) rfl ?_
  refine ev_iaddN (pc := 8) dX7_subtractAt_8 ?_
  refine ev_bipush (pc := 9) (v := nI 71) dX7_subtractAt_9 (by decide) ?_
  refine ev_mmin (pc := 11) dX7_subtractAt_11 mx_X7_47 rfl (by omega) (ev_ti (mi_min (by omega) (by omega)) ?_)
  refine ev_istore (pc := 14) dX7_subtractAt_14 rfl ?_
  refine ev_iload_n (pc := 16) dX7_subtractAt_16 rfl ?_
  refine ev_istore (pc := 17) dX7_subtractAt_17 rfl ?_
  rw [Nat.min_eq_left hs]
  refine ev_vs [(0, .ref q), (1, .int (nI at_)), (2, .ref q2), (3, .int (nI t)), (4, .long (Int64.ofInt (-((0 : Nat) : Int)))), (6, .int (nI (at_ + n2))), (7, .int (nI (at_ + 0)))] ⟨rfl, rfl, rfl, rfl, rfl, rfl, rfl, trivial⟩ ?_
  refine l_subAt hqd a hg2 ht hs (fun f cy hf hfg hcy hv => ?_) n2 0 g 0 (by omega) hg (fun _ _ => rfl) (by omega) (by simp [mb_v0])
  have h1 := hf (at_ + n2)
  refine ev_aload_n (pc := 80) dX7_subtractAt_80 rfl ?_
  refine ev_getf (pc := 81) dX7_subtractAt_81 f_X7_9 wh_q rfl ?_
  refine ev_iload (pc := 84) dX7_subtractAt_84 rfl ?_
  refine wh_ld (pc := 86) dX7_subtractAt_86 hqd (by omega) ?_
  refine ev_i2lN (pc := 87) dX7_subtractAt_87 (by omega) ?_
  obtain ⟨last, hlast⟩ : ∃ last : Int, last = (f (at_ + n2) : Int) + (-(cy : Int)) := ⟨_, rfl⟩
  refine ev_lload (pc := 88) dX7_subtractAt_88 rfl ?_
  refine ev_ladd (pc := 90) dX7_subtractAt_90 ?_
  refine ev_tl (y := Int64.ofInt last) (by rw [hlast, lz_n, Int64.ofInt_add]) ?_
  refine ev_lstore (pc := 91) dX7_subtractAt_91 rfl ?_
  refine ev_aload_n (pc := 93) dX7_subtractAt_93 rfl ?_
  refine ev_getf (pc := 94) dX7_subtractAt_94 f_X7_9 wh_q rfl ?_
  refine ev_iload (pc := 97) dX7_subtractAt_97 rfl ?_
  refine ev_lload (pc := 99) dX7_subtractAt_99 rfl ?_
  refine ev_ldc2 (pc := 101) dX7_subtractAt_101 k_X7_16 ?_
  refine ev_land (pc := 104) dX7_subtractAt_104 (ev_tl (lz_mask last) ?_)
  obtain ⟨x, hx⟩ : ∃ x : Nat, x = (last % 1073741824).toNat := ⟨_, rfl⟩
  rw [← hx]
  refine ev_l2iN (pc := 105) dX7_subtractAt_105 ?_
  refine wh_sd (pc := 106) dX7_subtractAt_106 hqd (by omega) ?_
  refine ev_lload (pc := 107) dX7_subtractAt_107 rfl ?_
  refine ev_lconst (pc := 109) (v := lN 0) dX7_subtractAt_109 (by decide) ?_
  refine ev_lcmp (pc := 110) dX7_subtractAt_110 ?_
  have key : ∀ s, s ≤ 1 → f (at_ + n2) + 1073741824 * s = x + cy → mb_v (fun k => va_up f (at_ + n2) x (at_ + k)) (n2 + 1) + t * mb_v g2 n2 = mb_v (fun k => g (at_ + k)) (n2 + 1) + s * 1073741824 ^ (n2 + 1) := by
    intro s _ hsx
    rw [mb_shu, mb_vs, mb_vs, mb_upo (Nat.le_refl n2), va_up_self, mb_pw]
    have h2 : (f (at_ + n2) + 1073741824 * s) * 1073741824 ^ n2 = (x + cy) * 1073741824 ^ n2 := by rw [hsx]
    have h3 : (f (at_ + n2) + 1073741824 * s) * 1073741824 ^ n2 = g (at_ + n2) * 1073741824 ^ n2 + s * (1073741824 ^ n2 * 1073741824) := by
      rw [hfg _ (Or.inr (Nat.le_refl _)), Nat.add_mul, Nat.mul_comm 1073741824 s, Nat.mul_assoc, Nat.mul_comm 1073741824]
    have h4 : (x + cy) * 1073741824 ^ n2 = x * 1073741824 ^ n2 + cy * 1073741824 ^ n2 := Nat.add_mul ..
    omega
  refine ev_if_ge (pc := 111) (tgt := 118) dX7_subtractAt_111 (by decide) (fun c1 => ?_) (fun c1 => ?_)
  · have c2 := (lz_lt (by omega) (by omega)).mp c1
    refine ev_iconst (pc := 118) (v := nI 0) dX7_subtractAt_118 (by decide) ?_
    refine ev_iret (pc := 119) dX7_subtractAt_119 rfl rfl ⟨_, 0, rfl, rfl, mb_upb hf (by omega), fun j hj => ?_, by omega, key 0 (by omega) (by omega)⟩
    rw [va_up_ne _ _ (by omega)]; exact hfg j (by omega)
  · have c2 : ¬ 0 ≤ last := fun e => c1 ((lz_lt (by omega) (by omega)).mpr e)
    refine ev_iconst (pc := 114) (v := nI 1) dX7_subtractAt_114 (by decide) ?_
    refine ev_goto (pc := 115) (tgt := 119) dX7_subtractAt_115 (by decide) ?_
    refine ev_iret (pc := 119) dX7_subtractAt_119 rfl rfl ⟨_, 1, rfl, rfl, mb_upb hf (by omega), fun j hj => ?_, by omega, key 1 (by omega) (by omega)⟩
    rw [va_up_ne _ _ (by omega)]; exact hfg j (by omega)
end WH5
