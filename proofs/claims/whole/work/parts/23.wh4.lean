/-! Whole: shiftUp, shiftDown, setProduct, digitAt, freeBits, binaryDigits -/
theorem mi_sl : ∀ k, k < 32 → ((nI k &&& 31).toBitVec.smod 32).toNat = k := by decide +kernel
theorem mi_shr {x k : Nat} (hx : x < 2 ^ 31) (hk : k < 32) : nI x >>> (nI k &&& 31) = nI (x / 2 ^ k) := pk_shrN hx _ k (mi_sl k hk)
theorem mb_shl1 {f g : Nat → Nat} {i cy P : Nat} (hi : f i = g i) (e : mb_v f i + cy * 1073741824 ^ i = mb_v g i * P) : mb_v (va_up f i ((f i * P + cy) % 1073741824)) (i + 1) + (f i * P + cy) / 1073741824 * 1073741824 ^ (i + 1) = mb_v g (i + 1) * P := by
  rw [mb_vs, mb_vs, mb_upo (Nat.le_refl i), va_up_self, mb_pw]
  have h1 := mb_cy (f i * P + cy) (1073741824 ^ i)
  have h2 : (f i * P + cy) * 1073741824 ^ i = g i * 1073741824 ^ i * P + cy * 1073741824 ^ i := by
    rw [hi, Nat.add_mul, Nat.mul_assoc, Nat.mul_comm P, ← Nat.mul_assoc]
  have h3 : (mb_v g i + g i * 1073741824 ^ i) * P = mb_v g i * P + g i * 1073741824 ^ i * P := Nat.add_mul ..
  omega
/-- a step of a row of a product -/
theorem mb_mul1 {f f0 gb : Nat → Nat} {i j cy x : Nat} (hi : f (i + j) = f0 (i + j)) (e : mb_v f (i + j) + cy * 1073741824 ^ (i + j) = mb_v f0 (i + j) + x * mb_v gb j * 1073741824 ^ i) : mb_v (va_up f (i + j) ((x * gb j + f (i + j) + cy) % 1073741824)) (i + (j + 1)) + (x * gb j + f (i + j) + cy) / 1073741824 * 1073741824 ^ (i + (j + 1)) = mb_v f0 (i + (j + 1)) + x * mb_v gb (j + 1) * 1073741824 ^ i := by
  rw [show i + (j + 1) = i + j + 1 by omega, mb_vs, mb_vs, mb_vs, mb_upo (Nat.le_refl _), va_up_self, mb_pw]
  have h1 := mb_cy (x * gb j + f (i + j) + cy) (1073741824 ^ (i + j))
  have h2 : (x * gb j + f (i + j) + cy) * 1073741824 ^ (i + j) = x * gb j * 1073741824 ^ (i + j) + f0 (i + j) * 1073741824 ^ (i + j) + cy * 1073741824 ^ (i + j) := by rw [hi, Nat.add_mul, Nat.add_mul]
  have h3 : x * (mb_v gb j + gb j * 1073741824 ^ j) * 1073741824 ^ i = x * mb_v gb j * 1073741824 ^ i + x * gb j * 1073741824 ^ (i + j) := by
    rw [Nat.mul_add, Nat.add_mul, Nat.pow_add]
    congr 1
    rw [← Nat.mul_assoc, Nat.mul_assoc (x * gb j), Nat.mul_comm (1073741824 ^ j)]
  omega
section WH4
variable {G : ev_G} {C : ev_L} {w : Nat} {K : ev_K} {h : ev_H} {q d n c z q2 d2 n2 q3 d3 n3 : Nat} {g g2 g3 : Nat → Nat}
theorem l_shiftUp (hqd : q ≠ d) {b P : Nat} (hb : b < 30) (hP : 2 ^ b = P) {m : Nat} (hm : m ≤ 72)
    (hK : ∀ f cy, (∀ j, f j < 1073741824) → (∀ j, m ≤ j → f j = g j) → mb_v f m + cy * 1073741824 ^ m = mb_v g m * P → ev_J G C w m_X7_shiftUp K (63, ev_lf [(0, .ref q), (2, .int (nI m))], [], wh_p h q d n f, c, z)) :
    ∀ k i f cy, i + k = m → (∀ j, f j < 1073741824) → (∀ j, i ≤ j → f j = g j) → cy < P → mb_v f i + cy * 1073741824 ^ i = mb_v g i * P → ev_J G C w m_X7_shiftUp K (17, ev_lf [(0, .ref q), (1, .int (nI b)), (2, .int (nI m)), (3, .long (lN cy)), (5, .int (nI i))], [], wh_p h q d n f, c, z)
  | 0, i, f, cy, e, hf, hfg, hcy, hv => by
    refine ev_iload (pc := 17) dX7_shiftUp_17 rfl ?_
    refine ev_iload_n (pc := 19) dX7_shiftUp_19 rfl ?_
    refine ev_icmp_geN (pc := 20) (tgt := 63) dX7_shiftUp_20 (by decide) (by omega) (by omega) (fun c1 => ?_) (fun c1 => ?_)
    · have e2 : i = m := by omega
      subst e2
      refine ev_vs [(0, .ref q), (2, .int (nI i))] ⟨rfl, rfl, trivial⟩ ?_
      exact hK f cy hf hfg hv
    · omega
  | k + 1, i, f, cy, e, hf, hfg, hcy, hv => by
    have h1 := hf i
    have hP2 : P ≤ 2 ^ 29 := by rw [← hP]; exact Nat.pow_le_pow_right (by decide) (by omega)
    have h2 : f i * P ≤ 1073741823 * P := Nat.mul_le_mul_right P (by omega)
    refine ev_iload (pc := 17) dX7_shiftUp_17 rfl ?_
    refine ev_iload_n (pc := 19) dX7_shiftUp_19 rfl ?_
    refine ev_icmp_geN (pc := 20) (tgt := 63) dX7_shiftUp_20 (by decide) (by omega) (by omega) (fun c1 => ?_) (fun c1 => ?_)
    · omega
    · refine ev_aload_n (pc := 23) dX7_shiftUp_23 rfl ?_
      refine ev_getf (pc := 24) dX7_shiftUp_24 f_X7_9 wh_q rfl ?_
      refine ev_iload (pc := 27) dX7_shiftUp_27 rfl ?_
      refine wh_ld (pc := 29) dX7_shiftUp_29 hqd (by omega) ?_
      refine ev_i2lN (pc := 30) dX7_shiftUp_30 (by omega) ?_
      refine ev_iload_n (pc := 31) dX7_shiftUp_31 rfl ?_
      refine ev_lshl (pc := 32) dX7_shiftUp_32 (ev_tl ((wb_shl _ (by omega)).trans (by rw [hP])) ?_)
      refine ev_lload_n (pc := 33) dX7_shiftUp_33 rfl ?_
      refine ev_lor (pc := 34) dX7_shiftUp_34 ?_
      refine ev_tl (g_or (k := b) hP hcy (by omega)) ?_
      refine ev_lstore (pc := 35) dX7_shiftUp_35 rfl ?_
      refine ev_aload_n (pc := 37) dX7_shiftUp_37 rfl ?_
      refine ev_getf (pc := 38) dX7_shiftUp_38 f_X7_9 wh_q rfl ?_
      refine ev_iload (pc := 41) dX7_shiftUp_41 rfl ?_
      refine ev_lload (pc := 43) dX7_shiftUp_43 rfl ?_
      refine ev_ldc2 (pc := 45) dX7_shiftUp_45 k_X7_16 ?_
      refine ev_landN (pc := 48) dX7_shiftUp_48 (by omega) ?_
      refine ev_l2iN (pc := 49) dX7_shiftUp_49 ?_
      refine wh_sd (pc := 50) dX7_shiftUp_50 hqd (by omega) ?_
      refine ev_lload (pc := 51) dX7_shiftUp_51 rfl ?_
      refine ev_bipush (pc := 53) (v := nI 30) dX7_shiftUp_53 (by decide) ?_
      refine ev_lshrN (pc := 55) dX7_shiftUp_55 (by omega) ?_
      refine ev_lstore_n (pc := 56) dX7_shiftUp_56 rfl ?_
      refine ev_iincN (pc := 57) dX7_shiftUp_57 rfl rfl ?_
      refine ev_goto (pc := 60) (tgt := 17) dX7_shiftUp_60 (by decide) ?_
      refine ev_vs [(0, .ref q), (1, .int (nI b)), (2, .int (nI m)), (3, .long (lN ((f i * P + cy) / 1073741824))), (5, .int (nI (i + 1)))] ⟨rfl, rfl, rfl, rfl, rfl, trivial⟩ ?_
      exact l_shiftUp hqd hb hP hm hK k (i + 1) _ _ (by omega) (mb_upb hf (Nat.mod_lt _ (by decide))) (mb_up_ge hfg) (by omega) (mb_shl1 (hfg i (Nat.le_refl i)) hv)
theorem k_shiftUp {dd a b : Nat} (hd : 2 ≤ dd) (hw : 23 ≤ w) (hqd : q ≠ d) (h1 : mb_is g n a) (hb : b < 30) (hab : a * 2 ^ b < 1073741824 ^ 72) : ev_Ca G dd w m_X7_shiftUp [.ref q, .int (nI b)] (wh_p h q d n g) 0 0 (ev_ok (fun r h1 => r = none ∧ wv h q d (a * 2 ^ b) h1)) := by
  obtain ⟨dd, rfl⟩ : ∃ e, dd = e + 1 := ⟨dd - 1, by omega⟩
  refine ⟨by decide +kernel, rfl, ?_⟩
  have hn := h1.2.2.2.1
  refine ev_aload_n (pc := 0) dX7_shiftUp_0 rfl ?_
  refine ev_getf (pc := 1) dX7_shiftUp_1 f_X7_22 wh_q rfl ?_
  refine ev_iconst (pc := 4) (v := nI 1) dX7_shiftUp_4 (by decide) ?_
  refine ev_iaddN (pc := 5) dX7_shiftUp_5 ?_
  refine ev_bipush (pc := 6) (v := nI 72) dX7_shiftUp_6 (by decide) ?_
  refine ev_mmin (pc := 8) dX7_shiftUp_8 mx_X7_47 rfl (by omega) (ev_ti (mi_min (by omega) (by omega)) ?_)
  refine ev_istore_n (pc := 11) dX7_shiftUp_11 rfl ?_
  refine ev_lconst (pc := 12) (v := lN 0) dX7_shiftUp_12 (by decide) ?_
  refine ev_lstore_n (pc := 13) dX7_shiftUp_13 rfl ?_
  refine ev_iconst (pc := 14) (v := nI 0) dX7_shiftUp_14 (by decide) ?_
  refine ev_istore (pc := 15) dX7_shiftUp_15 rfl ?_
  obtain ⟨m, hm⟩ : ∃ m, m = min (n + 1) 72 := ⟨_, rfl⟩
  rw [← hm]
  refine ev_vs [(0, .ref q), (1, .int (nI b)), (2, .int (nI m)), (3, .long (lN 0)), (5, .int (nI 0))] ⟨rfl, rfl, rfl, rfl, rfl, trivial⟩ ?_
  have e1 : mb_v g m = a := mb_is_at h1 (by omega)
  have hP0 : 0 < 2 ^ b := Nat.pow_pos (by decide)
  have hlt : a * 2 ^ b < 1073741824 ^ m := by
    rcases Nat.lt_or_ge n 72 with x | x
    · have h3 := mb_is_lt h1
      have h4 : 2 ^ b ≤ 2 ^ 30 := Nat.pow_le_pow_right (by decide) (by omega)
      rw [show m = n + 1 by omega, mb_pw]
      have h5 : a * 2 ^ b < 1073741824 ^ n * 2 ^ b := Nat.mul_lt_mul_of_pos_right h3 hP0
      have h6 : 1073741824 ^ n * 2 ^ b ≤ 1073741824 ^ n * 1073741824 := Nat.mul_le_mul_left _ h4
      omega
    · rw [show m = 72 by omega]; exact hab
  refine l_shiftUp hqd hb rfl (m := m) (by omega) (fun f cy hf hfg hv => ?_) m 0 g 0 (by omega) h1.1 (fun j _ => rfl) hP0 (by simp [mb_v0])
  rw [e1] at hv
  obtain ⟨-, hv⟩ := mb_cy0 hv hlt
  refine ev_aload_n (pc := 63) dX7_shiftUp_63 rfl ?_
  refine ev_iload_n (pc := 64) dX7_shiftUp_64 rfl ?_
  refine ev_callV (pc := 65) (As := [.int (nI m)]) dX7_shiftUp_65 cv_X7_18 rfl rfl wh_q rfl ⟨by show 19 + 2 ≤ w; omega, k_trim (by omega) hqd hf (by omega)⟩ rfl rfl (fun r h1 hp => ?_)
  obtain ⟨rfl, rfl⟩ := hp
  rw [Nat.min_eq_left (show m ≤ 72 by omega)]
  exact ev_vret (pc := 68) dX7_shiftUp_68 rfl ⟨rfl, f, _, mb_tr_is hf (fun j hj => by rw [hfg j hj]; exact h1.2.1 j (by omega)) (by omega) hv, rfl⟩
theorem l_shiftDown (hqd : q ≠ d) {b P : Nat} (hb : b < 30) (hP : 2 ^ b = P) (hn : n ≤ 72)
    (hK : ∀ f rest, (∀ j, f j < 1073741824) → (∀ j, n ≤ j → f j = g j) → rest < P → mb_v f n * P + rest = mb_v g n → ev_J G C w m_X7_shiftDown K (62, ev_lf [(0, .ref q)], [], wh_p h q d n f, c, z)) :
    ∀ k m f rest, k + m = n → (∀ j, f j < 1073741824) → (∀ j, j < k → f j = g j) → (∀ j, n ≤ j → f j = g j) → rest < P → mb_v (fun j => f (k + j)) m * P + rest = mb_v (fun j => g (k + j)) m → ev_J G C w m_X7_shiftDown K (17, ev_lf [(0, .ref q), (1, .int (nI b)), (2, .long (lN (P - 1))), (4, .long (lN rest)), (6, .int (nI k - nI 1))], [], wh_p h q d n f, c, z)
  | 0, m, f, rest, e, hf, hfl, hfh, hr, hv => by
    refine ev_iload (pc := 17) dX7_shiftDown_17 rfl ?_
    refine ev_if_lt (pc := 19) (tgt := 62) dX7_shiftDown_19 (by decide) (fun c1 => ?_) (fun c1 => ?_)
    · refine ev_vs [(0, .ref q)] ⟨rfl, trivial⟩ ?_
      have e2 : m = n := by omega
      subst e2
      refine hK f rest hf hfh hr ?_
      simpa using hv
    · exact absurd (by decide) c1
  | k + 1, m, f, rest, e, hf, hfl, hfh, hr, hv => by
    have h1 := hf k
    have h2 := hfl k (by omega)
    have hP2 : P ≤ 2 ^ 29 := by rw [← hP]; exact Nat.pow_le_pow_right (by decide) (by omega)
    refine ev_iload (pc := 17) dX7_shiftDown_17 rfl ?_
    refine ev_ti (nI_pred k) ?_
    refine ev_if_ltN (pc := 19) (tgt := 62) dX7_shiftDown_19 (by decide) (by omega) ?_
    refine ev_vs [(0, .ref q), (1, .int (nI b)), (2, .long (lN (P - 1))), (4, .long (lN rest)), (6, .int (nI k))] ⟨rfl, rfl, rfl, rfl, ev_s1e (nI_pred k), trivial⟩ ?_
    have h3 : (rest * 1073741824 + f k) / P < 1073741824 := Nat.div_lt_of_lt_mul (by
      have : (rest + 1) * 1073741824 ≤ P * 1073741824 := Nat.mul_le_mul_right _ hr
      omega)
    refine ev_lload (pc := 22) dX7_shiftDown_22 rfl ?_
    refine ev_bipush (pc := 24) (v := nI 30) dX7_shiftDown_24 (by decide) ?_
    refine ev_lshlN (pc := 26) dX7_shiftDown_26 ?_
    refine ev_aload_n (pc := 27) dX7_shiftDown_27 rfl ?_
    refine ev_getf (pc := 28) dX7_shiftDown_28 f_X7_9 wh_q rfl ?_
    refine ev_iload (pc := 31) dX7_shiftDown_31 rfl ?_
    refine wh_ld (pc := 33) dX7_shiftDown_33 hqd (by omega) ?_
    refine ev_i2lN (pc := 34) dX7_shiftDown_34 (by omega) ?_
    refine ev_lorN (pc := 35) dX7_shiftDown_35 (by omega) (by omega) ?_
    refine ev_lstore (pc := 36) dX7_shiftDown_36 rfl ?_
    refine ev_aload_n (pc := 38) dX7_shiftDown_38 rfl ?_
    refine ev_getf (pc := 39) dX7_shiftDown_39 f_X7_9 wh_q rfl ?_
    refine ev_iload (pc := 42) dX7_shiftDown_42 rfl ?_
    refine ev_lload (pc := 44) dX7_shiftDown_44 rfl ?_
    refine ev_iload_n (pc := 46) dX7_shiftDown_46 rfl ?_
    refine ev_lshr (pc := 47) dX7_shiftDown_47 (ev_tl ((ml_shr (k := b) (by omega) (by omega)).trans (by rw [hP])) ?_)
    refine ev_l2iN (pc := 48) dX7_shiftDown_48 ?_
    refine wh_sd (pc := 49) dX7_shiftDown_49 hqd (by omega) ?_
    refine ev_lload (pc := 50) dX7_shiftDown_50 rfl ?_
    refine ev_lload_n (pc := 52) dX7_shiftDown_52 rfl ?_
    refine ev_land (pc := 53) dX7_shiftDown_53 (ev_tl (y := lN ((rest * 1073741824 + f k) % P)) (by rw [← hP]; exact wb_mask (by omega) (by omega)) ?_)
    refine ev_lstore (pc := 54) dX7_shiftDown_54 rfl ?_
    refine ev_iinc (pc := 56) dX7_shiftDown_56 rfl rfl ?_
    refine ev_goto (pc := 59) (tgt := 17) dX7_shiftDown_59 (by decide) ?_
    refine ev_vs [(0, .ref q), (1, .int (nI b)), (2, .long (lN (P - 1))), (4, .long (lN ((rest * 1073741824 + f k) % P))), (6, .int (nI k - nI 1))] ⟨rfl, rfl, rfl, rfl, ev_s1e (mi_m1 k), trivial⟩ ?_
    refine l_shiftDown hqd hb hP hn hK k (m + 1) _ _ (by omega) (mb_upb hf h3) (fun j hj => by rw [va_up_ne _ _ (by omega)]; exact hfl j (by omega)) (fun j hj => by rw [va_up_ne _ _ (by omega)]; exact hfh j hj) (Nat.mod_lt _ (by omega)) ?_
    rw [h2]
    exact mb_div1 (by omega) hv
theorem k_shiftDown {dd a b : Nat} (hd : 2 ≤ dd) (hw : 21 ≤ w) (hqd : q ≠ d) (h1 : mb_is g n a) (hb : b < 30) : ev_Ca G dd w m_X7_shiftDown [.ref q, .int (nI b)] (wh_p h q d n g) 0 0 (ev_ok (fun r h1 => r = none ∧ wv h q d (a / 2 ^ b) h1)) := by
  obtain ⟨dd, rfl⟩ : ∃ e, dd = e + 1 := ⟨dd - 1, by omega⟩
  refine ⟨by decide +kernel, rfl, ?_⟩
  have hn := h1.2.2.2.1
  have hP0 : 0 < 2 ^ b := Nat.pow_pos (by decide)
  refine ev_lconst (pc := 0) (v := lN 1) dX7_shiftDown_0 (by decide) ?_
  refine ev_iload_n (pc := 1) dX7_shiftDown_1 rfl ?_
  refine ev_lshl (pc := 2) dX7_shiftDown_2 ?_
  refine ev_tl ((wb_shl 1 (by omega)).trans (by rw [Nat.one_mul])) ?_
  refine ev_lconst (pc := 3) (v := lN 1) dX7_shiftDown_3 (by decide) ?_
  refine ev_lsubN (pc := 4) dX7_shiftDown_4 (by omega) ?_
  refine ev_lstore_n (pc := 5) dX7_shiftDown_5 rfl ?_
  refine ev_lconst (pc := 6) (v := lN 0) dX7_shiftDown_6 (by decide) ?_
  refine ev_lstore (pc := 7) dX7_shiftDown_7 rfl ?_
  refine ev_aload_n (pc := 9) dX7_shiftDown_9 rfl ?_
  refine ev_getf (pc := 10) dX7_shiftDown_10 f_X7_22 wh_q rfl ?_
  refine ev_iconst (pc := 13) (v := nI 1) dX7_shiftDown_13 (by decide) ?_
  refine ev_isub (pc := 14) dX7_shiftDown_14 ?_
  refine ev_istore (pc := 15) dX7_shiftDown_15 rfl ?_
  refine ev_vs [(0, .ref q), (1, .int (nI b)), (2, .long (lN (2 ^ b - 1))), (4, .long (lN 0)), (6, .int (nI n - nI 1))] ⟨rfl, rfl, rfl, rfl, rfl, trivial⟩ ?_
  refine l_shiftDown hqd hb rfl hn (fun f rest hf hfh hr hv => ?_) n 0 g 0 (by omega) h1.1 (fun _ _ => rfl) (fun _ _ => rfl) hP0 (by simp [mb_v0])
  rw [h1.2.2.2.2] at hv
  have e1 : a / 2 ^ b = mb_v f n ∧ a % 2 ^ b = rest := (Nat.div_mod_unique hP0).mpr ⟨by rw [Nat.mul_comm]; omega, hr⟩
  refine ev_aload_n (pc := 62) dX7_shiftDown_62 rfl ?_
  refine ev_aload_n (pc := 63) dX7_shiftDown_63 rfl ?_
  refine ev_getf (pc := 64) dX7_shiftDown_64 f_X7_22 wh_q rfl ?_
  refine ev_callV (pc := 67) (As := [.int (nI n)]) dX7_shiftDown_67 cv_X7_18 rfl rfl wh_q rfl ⟨by show 19 + 2 ≤ w; omega, k_trim (by omega) hqd hf (by omega)⟩ rfl rfl (fun r h1 hp => ?_)
  obtain ⟨rfl, rfl⟩ := hp
  rw [Nat.min_eq_left hn]
  exact ev_vret (pc := 70) dX7_shiftDown_70 rfl ⟨rfl, f, _, mb_tr_is hf (fun j hj => by rw [hfh j hj]; exact h1.2.1 j hj) hn e1.1.symm, rfl⟩
/-- a row of the product -/
theorem l_mulRow (hqd : q ≠ d) (a : wh_a h q d q2 d2 n2 g2) (b : wh_a h q d q3 d3 n3 g3) (hg2 : ∀ j, g2 j < 1073741824) (hg3 : ∀ j, g3 j < 1073741824) (hn3 : n3 ≤ 72) {i : Nat} (hi : i + n3 < 72) {f0 : Nat → Nat}
    (hK : ∀ f cy, (∀ j, f j < 1073741824) → (∀ j, i + n3 ≤ j → f j = f0 j) → cy < 1073741824 → mb_v f (i + n3) + cy * 1073741824 ^ (i + n3) = mb_v f0 (i + n3) + g2 i * mb_v g3 n3 * 1073741824 ^ i → ev_J G C w m_X7_setProduct K (101, ev_lf [(0, .ref q), (1, .ref q2), (2, .ref q3), (3, .int (nI i)), (4, .long (lN cy))], [], wh_p h q d n f, c, z)) :
    ∀ k j f cy, j + k = n3 → (∀ j, f j < 1073741824) → (∀ x, i + j ≤ x → f x = f0 x) → cy < 1073741824 → mb_v f (i + j) + cy * 1073741824 ^ (i + j) = mb_v f0 (i + j) + g2 i * mb_v g3 j * 1073741824 ^ i → ev_J G C w m_X7_setProduct K (31, ev_lf [(0, .ref q), (1, .ref q2), (2, .ref q3), (3, .int (nI i)), (4, .long (lN cy)), (6, .int (nI j))], [], wh_p h q d n f, c, z)
  | 0, j, f, cy, e, hf, hfg, hcy, hv => by
    refine ev_iload (pc := 31) dX7_setProduct_31 rfl ?_
    refine ev_aload_n (pc := 33) dX7_setProduct_33 rfl ?_
    refine ev_getf (pc := 34) dX7_setProduct_34 f_X7_22 (wh_aq b) rfl ?_
    refine ev_icmp_geN (pc := 37) (tgt := 101) dX7_setProduct_37 (by decide) (by omega) (by omega) (fun c1 => ?_) (fun c1 => ?_)
    · have e2 : j = n3 := by omega
      subst e2
      refine ev_vs [(0, .ref q), (1, .ref q2), (2, .ref q3), (3, .int (nI i)), (4, .long (lN cy))] ⟨rfl, rfl, rfl, rfl, rfl, trivial⟩ ?_
      exact hK f cy hf hfg hcy hv
    · omega
  | k + 1, j, f, cy, e, hf, hfg, hcy, hv => by
    have h1 := hf (i + j)
    have h2 := hg2 i
    have h3 := hg3 j
    have h4 : g2 i * g3 j ≤ 1073741823 * 1073741823 := Nat.mul_le_mul (by omega) (by omega)
    refine ev_iload (pc := 31) dX7_setProduct_31 rfl ?_
    refine ev_aload_n (pc := 33) dX7_setProduct_33 rfl ?_
    refine ev_getf (pc := 34) dX7_setProduct_34 f_X7_22 (wh_aq b) rfl ?_
    refine ev_icmp_geN (pc := 37) (tgt := 101) dX7_setProduct_37 (by decide) (by omega) (by omega) (fun c1 => ?_) (fun c1 => ?_)
    · omega
    · refine ev_aload_n (pc := 40) dX7_setProduct_40 rfl ?_
      refine ev_getf (pc := 41) dX7_setProduct_41 f_X7_9 (wh_aq a) rfl ?_
      refine ev_iload_n (pc := 44) dX7_setProduct_44 rfl ?_
      refine ev_iaN (pc := 45) dX7_setProduct_45 (wh_ad a) (by omega) (by omega) ?_
      refine ev_i2lN (pc := 46) dX7_setProduct_46 (by omega) ?_
      refine ev_aload_n (pc := 47) dX7_setProduct_47 rfl ?_
      refine ev_getf (pc := 48) dX7_setProduct_48 f_X7_9 (wh_aq b) rfl ?_
      refine ev_iload (pc := 51) dX7_setProduct_51 rfl ?_
      refine ev_iaN (pc := 53) dX7_setProduct_53 (wh_ad b) (by omega) (by omega) ?_
      refine ev_i2lN (pc := 54) dX7_setProduct_54 (by omega) ?_
      refine ev_lmulN (pc := 55) dX7_setProduct_55 ?_
      refine ev_aload_n (pc := 56) dX7_setProduct_56 rfl ?_
      refine ev_getf (pc := 57) dX7_setProduct_57 f_X7_9 wh_q rfl ?_
      refine ev_iload_n (pc := 60) dX7_setProduct_60 rfl ?_
      refine ev_iload (pc := 61) dX7_setProduct_61 rfl ?_
      refine ev_iaddN (pc := 63) dX7_setProduct_63 ?_
      refine wh_ld (pc := 64) dX7_setProduct_64 hqd (by omega) ?_
      refine ev_i2lN (pc := 65) dX7_setProduct_65 (by omega) ?_
      refine ev_laddN (pc := 66) dX7_setProduct_66 ?_
      refine ev_lload (pc := 67) dX7_setProduct_67 rfl ?_
      refine ev_laddN (pc := 69) dX7_setProduct_69 ?_
      refine ev_lstore (pc := 70) dX7_setProduct_70 rfl ?_
      refine ev_aload_n (pc := 72) dX7_setProduct_72 rfl ?_
      refine ev_getf (pc := 73) dX7_setProduct_73 f_X7_9 wh_q rfl ?_
      refine ev_iload_n (pc := 76) dX7_setProduct_76 rfl ?_
      refine ev_iload (pc := 77) dX7_setProduct_77 rfl ?_
      refine ev_iaddN (pc := 79) dX7_setProduct_79 ?_
      refine ev_lload (pc := 80) dX7_setProduct_80 rfl ?_
      refine ev_ldc2 (pc := 82) dX7_setProduct_82 k_X7_16 ?_
      refine ev_landN (pc := 85) dX7_setProduct_85 (by omega) ?_
      refine ev_l2iN (pc := 86) dX7_setProduct_86 ?_
      refine wh_sd (pc := 87) dX7_setProduct_87 hqd (by omega) ?_
      refine ev_lload (pc := 88) dX7_setProduct_88 rfl ?_
      refine ev_bipush (pc := 90) (v := nI 30) dX7_setProduct_90 (by decide) ?_
      refine ev_lshrN (pc := 92) dX7_setProduct_92 (by omega) ?_
      refine ev_lstore (pc := 93) dX7_setProduct_93 rfl ?_
      refine ev_iincN (pc := 95) dX7_setProduct_95 rfl rfl ?_
      refine ev_goto (pc := 98) (tgt := 31) dX7_setProduct_98 (by decide) ?_
      refine ev_vs [(0, .ref q), (1, .ref q2), (2, .ref q3), (3, .int (nI i)), (4, .long (lN ((g2 i * g3 j + f (i + j) + cy) / 1073741824))), (6, .int (nI (j + 1)))] ⟨rfl, rfl, rfl, rfl, rfl, rfl, trivial⟩ ?_
      exact l_mulRow hqd a b hg2 hg3 hn3 hi hK k (j + 1) _ _ (by omega) (mb_upb hf (Nat.mod_lt _ (by decide))) (fun x hx => by rw [va_up_ne _ _ (by omega)]; exact hfg x (by omega)) (by omega) (mb_mul1 (hfg (i + j) (Nat.le_refl _)) hv)
theorem l_mul (hqd : q ≠ d) (a : wh_a h q d q2 d2 n2 g2) (b : wh_a h q d q3 d3 n3 g3) (hg2 : ∀ j, g2 j < 1073741824) (hg3 : ∀ j, g3 j < 1073741824) (hn3 : n3 ≤ 72) (hn2 : n2 ≤ 72) (hs : n2 + n3 ≤ 72 ∨ n2 = 0) 
    (hK : ∀ f, (∀ j, f j < 1073741824) → (∀ j, n2 + n3 ≤ j → f j = 0) → mb_v f (n2 + n3) = mb_v g2 n2 * mb_v g3 n3 → ev_J G C w m_X7_setProduct K (121, ev_lf [(0, .ref q), (1, .ref q2), (2, .ref q3)], [], wh_p h q d n f, c, z)) :
    ∀ k i f, i + k = n2 → (∀ j, f j < 1073741824) → (∀ x, i + n3 ≤ x → f x = 0) → mb_v f (i + n3) = mb_v g2 i * mb_v g3 n3 → ev_J G C w m_X7_setProduct K (6, ev_lf [(0, .ref q), (1, .ref q2), (2, .ref q3), (3, .int (nI i))], [], wh_p h q d n f, c, z)
  | 0, i, f, e, hf, hfg, hv => by
    refine ev_iload_n (pc := 6) dX7_setProduct_6 rfl ?_
    refine ev_aload_n (pc := 7) dX7_setProduct_7 rfl ?_
    refine ev_getf (pc := 8) dX7_setProduct_8 f_X7_22 (wh_aq a) rfl ?_
    refine ev_icmp_geN (pc := 11) (tgt := 121) dX7_setProduct_11 (by decide) (by omega) (by omega) (fun c1 => ?_) (fun c1 => ?_)
    · have e2 : i = n2 := by omega
      subst e2
      refine ev_vs [(0, .ref q), (1, .ref q2), (2, .ref q3)] ⟨rfl, rfl, rfl, trivial⟩ ?_
      exact hK f hf hfg hv
    · omega
  | k + 1, i, f, e, hf, hfg, hv => by
    refine ev_iload_n (pc := 6) dX7_setProduct_6 rfl ?_
    refine ev_aload_n (pc := 7) dX7_setProduct_7 rfl ?_
    refine ev_getf (pc := 8) dX7_setProduct_8 f_X7_22 (wh_aq a) rfl ?_
    refine ev_icmp_geN (pc := 11) (tgt := 121) dX7_setProduct_11 (by decide) (by omega) (by omega) (fun c1 => ?_) (fun c1 => ?_)
    · omega
    · refine ev_iload_n (pc := 14) dX7_setProduct_14 rfl ?_
      refine ev_aload_n (pc := 15) dX7_setProduct_15 rfl ?_
      refine ev_getf (pc := 16) dX7_setProduct_16 f_X7_22 (wh_aq b) rfl ?_
      refine ev_iaddN (pc := 19) dX7_setProduct_19 ?_
      refine ev_bipush (pc := 20) (v := nI 72) dX7_setProduct_20 (by decide) ?_
      refine ev_icmp_geN (pc := 22) (tgt := 121) dX7_setProduct_22 (by decide) (by omega) (by omega) (fun c2 => ?_) (fun c2 => ?_)
      · omega
      · refine ev_lconst (pc := 25) (v := lN 0) dX7_setProduct_25 (by decide) ?_
        refine ev_lstore (pc := 26) dX7_setProduct_26 rfl ?_
        refine ev_iconst (pc := 28) (v := nI 0) dX7_setProduct_28 (by decide) ?_
        refine ev_istore (pc := 29) dX7_setProduct_29 rfl ?_
        refine ev_vs [(0, .ref q), (1, .ref q2), (2, .ref q3), (3, .int (nI i)), (4, .long (lN 0)), (6, .int (nI 0))] ⟨rfl, rfl, rfl, rfl, rfl, rfl, trivial⟩ ?_
        refine l_mulRow hqd a b hg2 hg3 hn3 (f0 := f) c2 (fun f1 cy hf1 hfg1 hcy hv1 => ?_) n3 0 f 0 (by omega) hf (fun _ _ => rfl) (by decide) (by simp [mb_v0])
        refine ev_aload_n (pc := 101) dX7_setProduct_101 rfl ?_
        refine ev_getf (pc := 102) dX7_setProduct_102 f_X7_9 wh_q rfl ?_
        refine ev_iload_n (pc := 105) dX7_setProduct_105 rfl ?_
        refine ev_aload_n (pc := 106) dX7_setProduct_106 rfl ?_
        refine ev_getf (pc := 107) dX7_setProduct_107 f_X7_22 (wh_aq b) rfl ?_
        refine ev_iaddN (pc := 110) dX7_setProduct_110 ?_
        refine ev_lload (pc := 111) dX7_setProduct_111 rfl ?_
        refine ev_l2iN (pc := 113) dX7_setProduct_113 ?_
        refine wh_sd (pc := 114) dX7_setProduct_114 hqd (by omega) ?_
        refine ev_iincN (pc := 115) dX7_setProduct_115 rfl rfl ?_
        refine ev_goto (pc := 118) (tgt := 6) dX7_setProduct_118 (by decide) ?_
        refine ev_vs [(0, .ref q), (1, .ref q2), (2, .ref q3), (3, .int (nI (i + 1)))] ⟨rfl, rfl, rfl, rfl, trivial⟩ ?_
        refine l_mul hqd a b hg2 hg3 hn3 hn2 hs hK k (i + 1) _ (by omega) (mb_upb hf1 hcy) (fun x hx => by rw [va_up_ne _ _ (by omega), hfg1 x (by omega)]; exact hfg x (by omega)) ?_
        rw [show i + 1 + n3 = i + n3 + 1 by omega, mb_vs, mb_upo (Nat.le_refl _), va_up_self, hv1, hv, mb_vs, Nat.add_mul, Nat.mul_assoc, Nat.mul_comm (mb_v g3 n3), ← Nat.mul_assoc]
theorem k_setProduct {dd a b s : Nat} (hd : 2 ≤ dd) (hw : 21 ≤ w) (hqd : q ≠ d) (ha : wh_a h q d q2 d2 n2 g2) (hb : wh_a h q d q3 d3 n3 g3) (h0 : mb_is g n s) (h1 : mb_is g2 n2 a) (h2 : mb_is g3 n3 b) (hab : a * b < 1073741824 ^ 71) : ev_Ca G dd w m_X7_setProduct [.ref q, .ref q2, .ref q3] (wh_p h q d n g) 0 0 (ev_ok (fun r h1 => r = none ∧ wv h q d (a * b) h1)) := by
  obtain ⟨dd, rfl⟩ : ∃ e, dd = e + 1 := ⟨dd - 1, by omega⟩
  refine ⟨by decide +kernel, rfl, ?_⟩
  have hn := h0.2.2.2.1
  have hn2 := h1.2.2.2.1
  have hn3 := h2.2.2.2.1
  have hs : n2 + n3 ≤ 72 := by
    rcases Nat.eq_zero_or_pos n2 with x | x
    · omega
    · rcases Nat.eq_zero_or_pos n3 with y | y
      · omega
      · have h3 := Nat.mul_le_mul (mb_is_ge h1 x) (mb_is_ge h2 y)
        rw [← Nat.pow_add] at h3
        have h4 : 1073741824 ^ (n2 - 1 + (n3 - 1)) < 1073741824 ^ 71 := Nat.lt_of_le_of_lt h3 hab
        have h5 := (Nat.pow_lt_pow_iff_right (by decide)).mp h4
        omega
  refine ev_aload_n (pc := 0) dX7_setProduct_0 rfl ?_
  refine ev_callV (pc := 1) (As := []) dX7_setProduct_1 cv_X7_13 rfl rfl wh_q rfl ⟨by show 19 + 2 ≤ w; omega, k_clear (by omega) hqd hn⟩ rfl rfl (fun r h1 hp => ?_)
  obtain ⟨rfl, rfl⟩ := hp
  rw [mb_clz h0]
  refine ev_iconst (pc := 4) (v := nI 0) dX7_setProduct_4 (by decide) ?_
  refine ev_istore_n (pc := 5) dX7_setProduct_5 rfl ?_
  refine ev_vs [(0, .ref q), (1, .ref q2), (2, .ref q3), (3, .int (nI 0))] ⟨rfl, rfl, rfl, rfl, trivial⟩ ?_
  refine l_mul hqd ha hb h1.1 h2.1 hn3 hn2 (Or.inl hs) (fun f hf hfg hv => ?_) n2 0 (fun _ => 0) (by omega) (fun _ => by decide) (fun _ _ => rfl) (by rw [mb_zero (fun _ _ => rfl), mb_v0, Nat.zero_mul])
  rw [h1.2.2.2.2, h2.2.2.2.2] at hv
  refine ev_aload_n (pc := 121) dX7_setProduct_121 rfl ?_
  refine ev_aload_n (pc := 122) dX7_setProduct_122 rfl ?_
  refine ev_getf (pc := 123) dX7_setProduct_123 f_X7_22 (wh_aq ha) rfl ?_
  refine ev_aload_n (pc := 126) dX7_setProduct_126 rfl ?_
  refine ev_getf (pc := 127) dX7_setProduct_127 f_X7_22 (wh_aq hb) rfl ?_
  refine ev_iaddN (pc := 130) dX7_setProduct_130 ?_
  refine ev_callV (pc := 131) (As := [.int (nI (n2 + n3))]) dX7_setProduct_131 cv_X7_18 rfl rfl wh_q rfl ⟨by show 19 + 2 ≤ w; omega, k_trim (by omega) hqd hf (by omega)⟩ rfl rfl (fun r h1 hp => ?_)
  obtain ⟨rfl, rfl⟩ := hp
  rw [Nat.min_eq_left hs]
  exact ev_vret (pc := 134) dX7_setProduct_134 rfl ⟨rfl, f, _, mb_tr_is hf hfg hs hv, rfl⟩
theorem k_digitAt {dd i : Nat} (hd : 1 ≤ dd) (hqd : q ≠ d) (hi : i < 2 ^ 31) : ev_Ca G dd w m_X7_digitAt [.ref q, .int (nI i)] (wh_p h q d n g) 0 0 (ev_ok (fun r h1 => r = some (.int (nI (if i < 72 then g i else 0))) ∧ h1 = wh_p h q d n g)) := by
  obtain ⟨dd, rfl⟩ : ∃ e, dd = e + 1 := ⟨dd - 1, by omega⟩
  refine ⟨by decide +kernel, rfl, ?_⟩
  refine ev_iload_n (pc := 0) dX7_digitAt_0 rfl ?_
  refine ev_if_ltN (pc := 1) (tgt := 19) dX7_digitAt_1 (by decide) (by omega) ?_
  refine ev_iload_n (pc := 4) dX7_digitAt_4 rfl ?_
  refine ev_bipush (pc := 5) (v := nI 72) dX7_digitAt_5 (by decide) ?_
  refine ev_icmp_geN (pc := 7) (tgt := 19) dX7_digitAt_7 (by decide) (by omega) (by omega) (fun c1 => ?_) (fun c1 => ?_)
  · refine ev_iconst (pc := 19) (v := nI 0) dX7_digitAt_19 (by decide) ?_
    exact ev_iret (pc := 20) dX7_digitAt_20 rfl rfl ⟨by rw [if_neg (by omega)], rfl⟩
  · refine ev_aload_n (pc := 10) dX7_digitAt_10 rfl ?_
    refine ev_getf (pc := 11) dX7_digitAt_11 f_X7_9 wh_q rfl ?_
    refine ev_iload_n (pc := 14) dX7_digitAt_14 rfl ?_
    refine wh_ld (pc := 15) dX7_digitAt_15 hqd (by omega) ?_
    refine ev_goto (pc := 16) (tgt := 20) dX7_digitAt_16 (by decide) ?_
    exact ev_iret (pc := 20) dX7_digitAt_20 rfl rfl ⟨by rw [if_pos c1], rfl⟩
theorem l_freeBits (hqd : q ≠ d) (hn0 : 0 < n) (hn : n ≤ 72) {t : Nat} (ht : g (n - 1) = t) (ht0 : 0 < t) (ht1 : t < 1073741824) (hK : ∀ f, f < 30 → 2 ^ (29 - f) ≤ t → t < 2 ^ (30 - f) → K (.inl (some (.int (nI f)))) (wh_p h q d n g)) : ∀ k f, f + k = 30 → t < 2 ^ (30 - f) → ev_J G C w m_X7_freeBits K (2, ev_lf [(0, .ref q), (1, .int (nI f))], [], wh_p h q d n g, c, z)
  | 0, f, e, hv => by
    rw [show 30 - f = 0 by omega] at hv
    omega
  | k + 1, f, e, hv => by
    refine ev_aload_n (pc := 2) dX7_freeBits_2 rfl ?_
    refine ev_getf (pc := 3) dX7_freeBits_3 f_X7_22 wh_q rfl ?_
    refine ev_if_leN (pc := 6) (tgt := 40) dX7_freeBits_6 (by decide) (by omega) (fun c1 => ?_) (fun c1 => ?_)
    · omega
    · refine ev_iload_n (pc := 9) dX7_freeBits_9 rfl ?_
      refine ev_bipush (pc := 10) (v := nI 30) dX7_freeBits_10 (by decide) ?_
      refine ev_icmp_geN (pc := 12) (tgt := 40) dX7_freeBits_12 (by decide) (by omega) (by omega) (fun c2 => ?_) (fun c2 => ?_)
      · omega
      · refine ev_aload_n (pc := 15) dX7_freeBits_15 rfl ?_
        refine ev_getf (pc := 16) dX7_freeBits_16 f_X7_9 wh_q rfl ?_
        refine ev_aload_n (pc := 19) dX7_freeBits_19 rfl ?_
        refine ev_getf (pc := 20) dX7_freeBits_20 f_X7_22 wh_q rfl ?_
        refine ev_iconst (pc := 23) (v := nI 1) dX7_freeBits_23 (by decide) ?_
        refine ev_isubN (pc := 24) dX7_freeBits_24 (by omega) ?_
        refine wh_ld (pc := 25) dX7_freeBits_25 hqd (by omega) ?_
        refine ev_bipush (pc := 26) (v := nI 29) dX7_freeBits_26 (by decide) ?_
        refine ev_iload_n (pc := 28) dX7_freeBits_28 rfl ?_
        refine ev_isubN (pc := 29) dX7_freeBits_29 (by omega) ?_
        rw [ht]
        refine ev_ishr (pc := 30) dX7_freeBits_30 (ev_ti (mi_shr (by omega) (by omega)) ?_)
        have hlt : t / 2 ^ (29 - f) < 2 ^ 31 := Nat.lt_of_le_of_lt (Nat.div_le_self _ _) (by omega)
        refine ev_if_neN (pc := 31) (tgt := 40) dX7_freeBits_31 (by decide) (by omega) (fun c3 => ?_) (fun c3 => ?_)
        · refine ev_iload_n (pc := 40) dX7_freeBits_40 rfl ?_
          refine ev_iret (pc := 41) dX7_freeBits_41 rfl rfl (hK f (by omega) ?_ hv)
          rcases Nat.lt_or_ge t (2 ^ (29 - f)) with x | x
          · rw [Nat.div_eq_of_lt x] at c3; omega
          · exact x
        · refine ev_iincN (pc := 34) dX7_freeBits_34 rfl rfl ?_
          refine ev_goto (pc := 37) (tgt := 2) dX7_freeBits_37 (by decide) ?_
          refine ev_vs [(0, .ref q), (1, .int (nI (f + 1)))] ⟨rfl, rfl, trivial⟩ ?_
          refine l_freeBits hqd hn0 hn ht ht0 ht1 hK k (f + 1) (by omega) ?_
          rw [show 30 - (f + 1) = 29 - f by omega]
          exact Nat.lt_of_div_eq_zero (Nat.pow_pos (by decide)) c3
theorem k_freeBits {dd a : Nat} (hd : 1 ≤ dd) (hqd : q ≠ d) (h1 : mb_is g n a) : ev_Ca G dd w m_X7_freeBits [.ref q] (wh_p h q d n g) 0 0 (ev_ok (fun r h1 => ∃ f, r = some (.int (nI f)) ∧ h1 = wh_p h q d n g ∧ ((n = 0 ∧ f = 0) ∨ (0 < n ∧ f < 30 ∧ 2 ^ (29 - f) ≤ g (n - 1) ∧ g (n - 1) < 2 ^ (30 - f))))) := by
  obtain ⟨dd, rfl⟩ : ∃ e, dd = e + 1 := ⟨dd - 1, by omega⟩
  refine ⟨by decide +kernel, rfl, ?_⟩
  have hn := h1.2.2.2.1
  refine ev_iconst (pc := 0) (v := nI 0) dX7_freeBits_0 (by decide) ?_
  refine ev_istore_n (pc := 1) dX7_freeBits_1 rfl ?_
  rcases Nat.eq_zero_or_pos n with x | x
  · refine ev_aload_n (pc := 2) dX7_freeBits_2 rfl ?_
    refine ev_getf (pc := 3) dX7_freeBits_3 f_X7_22 wh_q rfl ?_
    refine ev_if_leN (pc := 6) (tgt := 40) dX7_freeBits_6 (by decide) (by omega) (fun c1 => ?_) (fun c1 => ?_)
    · refine ev_iload_n (pc := 40) dX7_freeBits_40 rfl ?_
      exact ev_iret (pc := 41) dX7_freeBits_41 rfl rfl ⟨0, rfl, rfl, Or.inl ⟨x, rfl⟩⟩
    · omega
  · refine ev_vs [(0, .ref q), (1, .int (nI 0))] ⟨rfl, rfl, trivial⟩ ?_
    exact l_freeBits hqd x hn rfl (Nat.pos_of_ne_zero (h1.2.2.1 x)) (h1.1 _) (fun f a b e => ⟨f, rfl, rfl, Or.inr ⟨x, a, b, e⟩⟩) 30 0 (by omega) (h1.1 _)
def mb_bits (v : Nat) : Nat := if v = 0 then 0 else Nat.log2 v + 1
theorem mb_bits_of {v k : Nat} (h1 : 2 ^ k ≤ v) (h2 : v < 2 ^ (k + 1)) : mb_bits v = k + 1 := by
  have h0 : v ≠ 0 := by
    have : 0 < 2 ^ k := Nat.pow_pos (by decide)
    omega
  unfold mb_bits
  rw [if_neg h0]
  have h3 := (Nat.log2_lt h0).mpr h2
  have h4 := (Nat.le_log2 h0).mpr h1
  omega
theorem mb_bits_top {g : Nat → Nat} {n v f : Nat} (h : mb_is g n v) (hn : 0 < n) (hf : f < 30) (h1 : 2 ^ (29 - f) ≤ g (n - 1)) (h2 : g (n - 1) < 2 ^ (30 - f)) : mb_bits v = n * 30 - f := by
  obtain ⟨m, rfl⟩ : ∃ m, n = m + 1 := ⟨n - 1, by omega⟩
  obtain ⟨ha, -, -, -, hv⟩ := h
  rw [mb_vs] at hv
  have h3 := mb_lt (g := g) (n := m) (fun j _ => ha j)
  have h4 : 1073741824 ^ m = 2 ^ (30 * m) := by rw [show (1073741824 : Nat) = 2 ^ 30 by decide, ← Nat.pow_mul]
  rw [h4] at hv h3
  simp only [Nat.add_sub_cancel] at h1 h2
  have e1 : 2 ^ (30 * m + (29 - f)) ≤ v := by
    rw [Nat.pow_add, Nat.mul_comm]
    have := Nat.mul_le_mul_right (2 ^ (30 * m)) h1
    omega
  have e2 : v < 2 ^ (30 * m + (29 - f) + 1) := by
    rw [show 30 * m + (29 - f) + 1 = (30 - f) + 30 * m by omega, Nat.pow_add]
    have := Nat.mul_le_mul_right (2 ^ (30 * m)) (show g m + 1 ≤ 2 ^ (30 - f) from h2)
    rw [Nat.add_mul] at this
    omega
  rw [mb_bits_of e1 e2]
  omega
theorem k_binaryDigits {dd a : Nat} (hd : 2 ≤ dd) (hw : 21 ≤ w) (hqd : q ≠ d) (h1 : mb_is g n a) : ev_Ca G dd w m_X7_binaryDigits [.ref q] (wh_p h q d n g) 0 0 (ev_ok (fun r h1 => r = some (.int (nI (mb_bits a))) ∧ h1 = wh_p h q d n g)) := by
  obtain ⟨dd, rfl⟩ : ∃ e, dd = e + 1 := ⟨dd - 1, by omega⟩
  refine ⟨by decide +kernel, rfl, ?_⟩
  have hn := h1.2.2.2.1
  refine ev_aload_n (pc := 0) dX7_binaryDigits_0 rfl ?_
  refine ev_getf (pc := 1) dX7_binaryDigits_1 f_X7_22 wh_q rfl ?_
  refine ev_bipush (pc := 4) (v := nI 30) dX7_binaryDigits_4 (by decide) ?_
  refine ev_imulN (pc := 6) dX7_binaryDigits_6 ?_
  refine ev_aload_n (pc := 7) dX7_binaryDigits_7 rfl ?_
  refine ev_callV (pc := 8) (As := []) dX7_binaryDigits_8 cv_X7_38 rfl rfl wh_q rfl ⟨by show 19 + 2 ≤ w; omega, k_freeBits (by omega) hqd h1⟩ rfl rfl (fun r h1 hp => ?_)
  obtain ⟨f, rfl, rfl, hf⟩ := hp
  refine ev_isubN (pc := 11) dX7_binaryDigits_11 (by omega) ?_
  refine ev_iret (pc := 12) dX7_binaryDigits_12 rfl rfl ⟨?_, rfl⟩
  rcases hf with ⟨e1, e2⟩ | ⟨e1, e2, e3, e4⟩
  · have : a = 0 := (mb_is_z h1).mp e1
    rw [this, e1, e2]; rfl
  · rw [mb_bits_top h1 e1 e2 e3 e4]
end WH4
