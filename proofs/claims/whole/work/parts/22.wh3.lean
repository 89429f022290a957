/-! Whole: add, become, divideBySmall, shiftUp, shiftDown -/
abbrev ev_cc (G : ev_G) (dd w : Nat) : ev_L := fun N a2 h2 c2 z2 K2 => 19 + N.2.2.1 ≤ w ∧ ev_Ca G dd (w - (19 + N.2.2.1)) N a2 h2 c2 z2 K2
/-- h1 is h, with the Whole q (its digits in d) at the value v -/
def wv (h : ev_H) (q d v : Nat) (h1 : ev_H) : Prop := ∃ (g : Nat → Nat) (n : Nat), mb_is g n v ∧ h1 = wh_p h q d n g
theorem mb_upb {f : Nat → Nat} {i x : Nat} (hf : ∀ j, f j < 1073741824) (hx : x < 1073741824) : ∀ j, va_up f i x j < 1073741824 := by
  intro j
  unfold va_up
  split
  · exact hx
  · exact hf j
theorem mb_add1 {f g g2 : Nat → Nat} {i cy : Nat} (hi : f i = g i) (e : mb_v f i + cy * 1073741824 ^ i = mb_v g i + mb_v g2 i) : mb_v (va_up f i ((f i + g2 i + cy) % 1073741824)) (i + 1) + (f i + g2 i + cy) / 1073741824 * 1073741824 ^ (i + 1) = mb_v g (i + 1) + mb_v g2 (i + 1) := by
  rw [mb_vs, mb_vs, mb_vs, mb_upo (Nat.le_refl i), va_up_self, mb_pw]
  have h1 := mb_cy (f i + g2 i + cy) (1073741824 ^ i)
  have h2 : (f i + g2 i + cy) * 1073741824 ^ i = g i * 1073741824 ^ i + g2 i * 1073741824 ^ i + cy * 1073741824 ^ i := by rw [hi, Nat.add_mul, Nat.add_mul]
  omega
theorem mb_up_ge {f g : Nat → Nat} {i x : Nat} (hf : ∀ j, i ≤ j → f j = g j) : ∀ j, i + 1 ≤ j → va_up f i x j = g j := fun j hj => by rw [va_up_ne f x (by omega)]; exact hf j (by omega)
/-- no carry is left where the number has room -/
theorem mb_cy0 {a m v cy : Nat} (e : v + cy * 1073741824 ^ m = a) (h : a < 1073741824 ^ m) : cy = 0 ∧ v = a := by
  rcases Nat.eq_zero_or_pos cy with q | q
  · subst q; exact ⟨rfl, by omega⟩
  · have : 1 * 1073741824 ^ m ≤ cy * 1073741824 ^ m := Nat.mul_le_mul_right _ q
    omega
/-- a digit off the low end -/
theorem mb_lo (g : Nat → Nat) (k m : Nat) : mb_v (fun j => g (k + j)) (m + 1) = g k + 1073741824 * mb_v (fun j => g (k + 1 + j)) m := by
  have h := mb_cut (fun j => g (k + j)) 1 m
  rw [Nat.add_comm 1 m] at h
  rw [h, mb_vs, mb_v0]
  have e : (fun j => g (k + (1 + j))) = fun j => g (k + 1 + j) := by funext j; rw [Nat.add_assoc]
  rw [e]
  simp
/-- a step of a division by one number, from the top -/
theorem mb_div1 {f g : Nat → Nat} {k m D rest : Nat} (hD : 0 < D) (e : mb_v (fun j => f (k + 1 + j)) m * D + rest = mb_v (fun j => g (k + 1 + j)) m) : mb_v (fun j => va_up f k ((rest * 1073741824 + g k) / D) (k + j)) (m + 1) * D + (rest * 1073741824 + g k) % D = mb_v (fun j => g (k + j)) (m + 1) := by
  rw [mb_lo, mb_lo, va_up_self, mb_congr (g := fun j => va_up f k ((rest * 1073741824 + g k) / D) (k + 1 + j)) (h := fun j => f (k + 1 + j)) (fun j _ => va_up_ne f _ (by omega))]
  have h1 := Nat.div_add_mod (rest * 1073741824 + g k) D
  have h2 : (((rest * 1073741824 + g k) / D) + 1073741824 * mb_v (fun j => f (k + 1 + j)) m) * D = D * ((rest * 1073741824 + g k) / D) + 1073741824 * (mb_v (fun j => f (k + 1 + j)) m * D) := by
    rw [Nat.add_mul, Nat.mul_comm _ D, Nat.mul_assoc]
  omega
section WH3
variable {G : ev_G} {C : ev_L} {w : Nat} {K : ev_K} {h : ev_H} {q d n c z q2 d2 n2 : Nat} {g g2 : Nat → Nat}
theorem l_add (hqd : q ≠ d) (a : wh_a h q d q2 d2 n2 g2) (hg2 : ∀ j, g2 j < 1073741824) {m : Nat} (hm : m ≤ 72)
    (hK : ∀ f cy, (∀ j, f j < 1073741824) → (∀ j, m ≤ j → f j = g j) → mb_v f m + cy * 1073741824 ^ m = mb_v g m + mb_v g2 m → ev_J G C w m_X7_add K (73, ev_lf [(0, .ref q), (2, .int (nI m))], [], wh_p h q d n f, c, z)) :
    ∀ k i f cy, i + k = m → (∀ j, f j < 1073741824) → (∀ j, i ≤ j → f j = g j) → cy ≤ 1 → mb_v f i + cy * 1073741824 ^ i = mb_v g i + mb_v g2 i → ev_J G C w m_X7_add K (24, ev_lf [(0, .ref q), (1, .ref q2), (2, .int (nI m)), (3, .int (nI cy)), (4, .int (nI i))], [], wh_p h q d n f, c, z)
  | 0, i, f, cy, e, hf, hfg, hcy, hv => by
    refine ev_iload (pc := 24) dX7_add_24 rfl ?_
    refine ev_iload_n (pc := 26) dX7_add_26 rfl ?_
    refine ev_icmp_geN (pc := 27) (tgt := 73) dX7_add_27 (by decide) (by omega) (by omega) (fun c1 => ?_) (fun c1 => ?_)
    · have e2 : i = m := by omega
      subst e2
      refine ev_vs [(0, .ref q), (2, .int (nI i))] ⟨rfl, rfl, trivial⟩ ?_
      exact hK f cy hf hfg hv
    · omega
  | k + 1, i, f, cy, e, hf, hfg, hcy, hv => by
    have h1 := hf i
    have h2 := hg2 i
    refine ev_iload (pc := 24) dX7_add_24 rfl ?_
    refine ev_iload_n (pc := 26) dX7_add_26 rfl ?_
    refine ev_icmp_geN (pc := 27) (tgt := 73) dX7_add_27 (by decide) (by omega) (by omega) (fun c1 => ?_) (fun c1 => ?_)
    · omega
    · refine ev_aload_n (pc := 30) dX7_add_30 rfl ?_
      refine ev_getf (pc := 31) dX7_add_31 f_X7_9 wh_q rfl ?_
      refine ev_iload (pc := 34) dX7_add_34 rfl ?_
      refine wh_ld (pc := 36) dX7_add_36 hqd (by omega) ?_
      refine ev_aload_n (pc := 37) dX7_add_37 rfl ?_
      refine ev_getf (pc := 38) dX7_add_38 f_X7_9 (wh_aq a) rfl ?_
      refine ev_iload (pc := 41) dX7_add_41 rfl ?_
      refine ev_iaN (pc := 43) dX7_add_43 (wh_ad a) (by omega) (by omega) ?_
      refine ev_iaddN (pc := 44) dX7_add_44 ?_
      refine ev_iload_n (pc := 45) dX7_add_45 rfl ?_
      refine ev_iaddN (pc := 46) dX7_add_46 ?_
      refine ev_istore (pc := 47) dX7_add_47 rfl ?_
      refine ev_aload_n (pc := 49) dX7_add_49 rfl ?_
      refine ev_getf (pc := 50) dX7_add_50 f_X7_9 wh_q rfl ?_
      refine ev_iload (pc := 53) dX7_add_53 rfl ?_
      refine ev_iload (pc := 55) dX7_add_55 rfl ?_
      refine ev_ldc (pc := 57) dX7_add_57 k_X7_50 ?_
      refine ev_iandN (pc := 59) dX7_add_59 (by omega) ?_
      refine wh_sd (pc := 60) dX7_add_60 hqd (by omega) ?_
      refine ev_iload (pc := 61) dX7_add_61 rfl ?_
      refine ev_bipush (pc := 63) (v := nI 30) dX7_add_63 (by decide) ?_
      refine ev_iushrN (pc := 65) dX7_add_65 (by omega) ?_
      refine ev_istore_n (pc := 66) dX7_add_66 rfl ?_
      refine ev_iincN (pc := 67) dX7_add_67 rfl rfl ?_
      refine ev_goto (pc := 70) (tgt := 24) dX7_add_70 (by decide) ?_
      refine ev_vs [(0, .ref q), (1, .ref q2), (2, .int (nI m)), (3, .int (nI ((f i + g2 i + cy) / 1073741824))), (4, .int (nI (i + 1)))] ⟨rfl, rfl, rfl, rfl, rfl, trivial⟩ ?_
      exact l_add hqd a hg2 hm hK k (i + 1) _ _ (by omega) (mb_upb hf (Nat.mod_lt _ (by decide))) (mb_up_ge hfg) (by omega) (mb_add1 (hfg i (Nat.le_refl i)) hv)
theorem k_add {dd a b : Nat} (hd : 2 ≤ dd) (hw : 23 ≤ w) (hqd : q ≠ d) (ha : wh_a h q d q2 d2 n2 g2) (h1 : mb_is g n a) (h2 : mb_is g2 n2 b) (hab : a + b < 1073741824 ^ 72) : ev_Ca G dd w m_X7_add [.ref q, .ref q2] (wh_p h q d n g) 0 0 (ev_ok (fun r h1 => r = none ∧ wv h q d (a + b) h1)) := by
  obtain ⟨dd, rfl⟩ : ∃ e, dd = e + 1 := ⟨dd - 1, by omega⟩
  refine ⟨by decide +kernel, rfl, ?_⟩
  have hn := h1.2.2.2.1
  have hn2 := h2.2.2.2.1
  refine ev_aload_n (pc := 0) dX7_add_0 rfl ?_
  refine ev_getf (pc := 1) dX7_add_1 f_X7_22 wh_q rfl ?_
  refine ev_aload_n (pc := 4) dX7_add_4 rfl ?_
  refine ev_getf (pc := 5) dX7_add_5 f_X7_22 (wh_aq ha) rfl ?_
  refine ev_mmax (pc := 8) dX7_add_8 mx_X7_26 rfl (by omega) (ev_ti (mi_max (by omega) (by omega)) ?_)
  refine ev_iconst (pc := 11) (v := nI 1) dX7_add_11 (by decide) ?_
  refine ev_iaddN (pc := 12) dX7_add_12 ?_
  refine ev_bipush (pc := 13) (v := nI 72) dX7_add_13 (by decide) ?_
  refine ev_mmin (pc := 15) dX7_add_15 mx_X7_47 rfl (by omega) (ev_ti (mi_min (by omega) (by omega)) ?_)
  refine ev_istore_n (pc := 18) dX7_add_18 rfl ?_
  refine ev_iconst (pc := 19) (v := nI 0) dX7_add_19 (by decide) ?_
  refine ev_istore_n (pc := 20) dX7_add_20 rfl ?_
  refine ev_iconst (pc := 21) (v := nI 0) dX7_add_21 (by decide) ?_
  refine ev_istore (pc := 22) dX7_add_22 rfl ?_
  obtain ⟨m, hm⟩ : ∃ m, m = min (max n n2 + 1) 72 := ⟨_, rfl⟩
  rw [← hm]
  refine ev_vs [(0, .ref q), (1, .ref q2), (2, .int (nI m)), (3, .int (nI 0)), (4, .int (nI 0))] ⟨rfl, rfl, rfl, rfl, rfl, trivial⟩ ?_
  have e1 : mb_v g m = a := mb_is_at h1 (by omega)
  have e2 : mb_v g2 m = b := mb_is_at h2 (by omega)
  have hlt : a + b < 1073741824 ^ m := by
    rcases Nat.lt_or_ge (max n n2) 72 with x | x
    · have h3 : a < 1073741824 ^ (max n n2) := Nat.lt_of_lt_of_le (mb_is_lt h1) (Nat.pow_le_pow_right (by decide) (Nat.le_max_left _ _))
      have h4 : b < 1073741824 ^ (max n n2) := Nat.lt_of_lt_of_le (mb_is_lt h2) (Nat.pow_le_pow_right (by decide) (Nat.le_max_right _ _))
      rw [show m = max n n2 + 1 by omega, mb_pw]
      omega
    · rw [show m = 72 by omega]; exact hab
  refine l_add hqd ha h2.1 (m := m) (by omega) (fun f cy hf hfg hv => ?_) m 0 g 0 (by omega) h1.1 (fun j _ => rfl) (by omega) (by simp [mb_v0])
  rw [e1, e2] at hv
  obtain ⟨-, hv⟩ := mb_cy0 hv hlt
  refine ev_aload_n (pc := 73) dX7_add_73 rfl ?_
  refine ev_iload_n (pc := 74) dX7_add_74 rfl ?_
  refine ev_callV (pc := 75) (As := [.int (nI m)]) dX7_add_75 cv_X7_18 rfl rfl wh_q rfl ⟨by show 19 + 2 ≤ w; omega, k_trim (by omega) hqd hf (by omega)⟩ rfl rfl (fun r h1 hp => ?_)
  obtain ⟨rfl, rfl⟩ := hp
  rw [Nat.min_eq_left (show m ≤ 72 by omega)]
  exact ev_vret (pc := 78) dX7_add_78 rfl ⟨rfl, f, _, mb_tr_is hf (fun j hj => by rw [hfg j hj]; exact h1.2.1 j (by omega)) (by omega) hv, rfl⟩
theorem k_become {dd a v : Nat} (hd : 2 ≤ dd) (hw : 21 ≤ w) (hqd : q ≠ d) (h1 : mb_is g n a) (hv : v < 2 ^ 63) : ev_Ca G dd w m_X7_become [.ref q, .long (lN v)] (wh_p h q d n g) 0 0 (ev_ok (fun r h1 => r = none ∧ wv h q d v h1)) := by
  obtain ⟨dd, rfl⟩ : ∃ e, dd = e + 1 := ⟨dd - 1, by omega⟩
  refine ⟨by decide +kernel, rfl, ?_⟩
  have hn := h1.2.2.2.1
  refine ev_aload_n (pc := 0) dX7_become_0 rfl ?_
  refine ev_callV (pc := 1) (As := []) dX7_become_1 cv_X7_13 rfl rfl wh_q rfl ⟨by show 19 + 2 ≤ w; omega, k_clear (by omega) hqd hn⟩ rfl rfl (fun r h1 hp => ?_)
  obtain ⟨rfl, rfl⟩ := hp
  rw [mb_clz h1]
  refine ev_aload_n (pc := 4) dX7_become_4 rfl ?_
  refine ev_getf (pc := 5) dX7_become_5 f_X7_9 wh_q rfl ?_
  refine ev_iconst (pc := 8) (v := nI 0) dX7_become_8 (by decide) ?_
  refine ev_lload_n (pc := 9) dX7_become_9 rfl ?_
  refine ev_ldc2 (pc := 10) dX7_become_10 k_X7_16 ?_
  refine ev_landN (pc := 13) dX7_become_13 (by omega) ?_
  refine ev_l2iN (pc := 14) dX7_become_14 ?_
  refine wh_sd (pc := 15) dX7_become_15 hqd (by omega) ?_
  refine ev_aload_n (pc := 16) dX7_become_16 rfl ?_
  refine ev_getf (pc := 17) dX7_become_17 f_X7_9 wh_q rfl ?_
  refine ev_iconst (pc := 20) (v := nI 1) dX7_become_20 (by decide) ?_
  refine ev_lload_n (pc := 21) dX7_become_21 rfl ?_
  refine ev_bipush (pc := 22) (v := nI 30) dX7_become_22 (by decide) ?_
  refine ev_lshrN (pc := 24) dX7_become_24 (by omega) ?_
  refine ev_ldc2 (pc := 25) dX7_become_25 k_X7_16 ?_
  refine ev_landN (pc := 28) dX7_become_28 (by omega) ?_
  refine ev_l2iN (pc := 29) dX7_become_29 ?_
  refine wh_sd (pc := 30) dX7_become_30 hqd (by omega) ?_
  refine ev_aload_n (pc := 31) dX7_become_31 rfl ?_
  refine ev_getf (pc := 32) dX7_become_32 f_X7_9 wh_q rfl ?_
  refine ev_iconst (pc := 35) (v := nI 2) dX7_become_35 (by decide) ?_
  refine ev_lload_n (pc := 36) dX7_become_36 rfl ?_
  refine ev_bipush (pc := 37) (v := nI 60) dX7_become_37 (by decide) ?_
  refine ev_lshr (pc := 39) dX7_become_39 ?_
  refine ev_tl (ml_shr (k := 60) (by decide) hv) ?_
  refine ev_ldc2 (pc := 40) dX7_become_40 k_X7_16 ?_
  refine ev_landN (pc := 43) dX7_become_43 (by omega) ?_
  refine ev_l2iN (pc := 44) dX7_become_44 ?_
  refine wh_sd (pc := 45) dX7_become_45 hqd (by omega) ?_
  obtain ⟨f, hf⟩ : ∃ f, f = va_up (va_up (va_up (fun _ => 0) 0 (v % 1073741824)) 1 (v / 1073741824 % 1073741824)) 2 (v / 2 ^ 60 % 1073741824) := ⟨_, rfl⟩
  rw [← hf]
  have hb : ∀ j, f j < 1073741824 := by
    rw [hf]
    exact mb_upb (mb_upb (mb_upb (fun _ => by decide) (Nat.mod_lt _ (by decide))) (Nat.mod_lt _ (by decide))) (Nat.mod_lt _ (by decide))
  refine ev_aload_n (pc := 46) dX7_become_46 rfl ?_
  refine ev_iconst (pc := 47) (v := nI 3) dX7_become_47 (by decide) ?_
  refine ev_callV (pc := 48) (As := [.int (nI 3)]) dX7_become_48 cv_X7_18 rfl rfl wh_q rfl ⟨by show 19 + 2 ≤ w; omega, k_trim (by omega) hqd hb (by omega)⟩ rfl rfl (fun r h1 hp => ?_)
  obtain ⟨rfl, rfl⟩ := hp
  refine ev_vret (pc := 51) dX7_become_51 rfl ⟨rfl, f, _, mb_tr_is hb (fun j hj => ?_) (by decide) ?_, rfl⟩
  · rw [hf, va_up_ne _ _ (by omega), va_up_ne _ _ (by omega), va_up_ne _ _ (by omega)]
  · have e0 : f 0 = v % 1073741824 := by rw [hf]; rfl
    have e1 : f 1 = v / 1073741824 % 1073741824 := by rw [hf]; rfl
    have e2 : f 2 = v / 2 ^ 60 % 1073741824 := by rw [hf]; rfl
    show ((0 + f 0 * 1073741824 ^ 0) + f 1 * 1073741824 ^ 1) + f 2 * 1073741824 ^ 2 = v
    rw [e0, e1, e2]
    omega
theorem l_dbs (hqd : q ≠ d) {by_ : Nat} (hb0 : 0 < by_) (hb : by_ < 2 ^ 31) (hn : n ≤ 72) (hg : ∀ j, g j < 1073741824)
    (hK : ∀ f rest, (∀ j, f j < 1073741824) → (∀ j, n ≤ j → f j = g j) → rest < by_ → mb_v f n * by_ + rest = mb_v g n → ev_J G C w m_X7_divideBySmall K (61, ev_lf [(0, .ref q), (2, .long (lN rest))], [], wh_p h q d n f, c, z)) :
    ∀ k m f rest, k + m = n → (∀ j, f j < 1073741824) → (∀ j, j < k → f j = g j) → (∀ j, n ≤ j → f j = g j) → rest < by_ → mb_v (fun j => f (k + j)) m * by_ + rest = mb_v (fun j => g (k + j)) m → ev_J G C w m_X7_divideBySmall K (16, ev_lf [(0, .ref q), (1, .int (nI by_)), (2, .long (lN rest)), (4, .int (nI k - nI 1))], [], wh_p h q d n f, c, z)
  | 0, m, f, rest, e, hf, hfl, hfh, hr, hv => by
    refine ev_iload (pc := 16) dX7_divideBySmall_16 rfl ?_
    refine ev_if_lt (pc := 18) (tgt := 61) dX7_divideBySmall_18 (by decide) (fun c1 => ?_) (fun c1 => ?_)
    · refine ev_vs [(0, .ref q), (2, .long (lN rest))] ⟨rfl, rfl, trivial⟩ ?_
      have e2 : m = n := by omega
      subst e2
      refine hK f rest hf hfh hr ?_
      simpa using hv
    · exact absurd (by decide) c1
  | k + 1, m, f, rest, e, hf, hfl, hfh, hr, hv => by
    have h1 := hf k
    have h2 := hfl k (by omega)
    refine ev_iload (pc := 16) dX7_divideBySmall_16 rfl ?_
    refine ev_ti (nI_pred k) ?_
    refine ev_if_ltN (pc := 18) (tgt := 61) dX7_divideBySmall_18 (by decide) (by omega) ?_
    refine ev_vs [(0, .ref q), (1, .int (nI by_)), (2, .long (lN rest)), (4, .int (nI k))] ⟨rfl, rfl, rfl, ev_s1e (nI_pred k), trivial⟩ ?_
    have h3 : (rest * 1073741824 + f k) / by_ < 1073741824 := Nat.div_lt_of_lt_mul (by
      have : (rest + 1) * 1073741824 ≤ by_ * 1073741824 := Nat.mul_le_mul_right _ hr
      omega)
    refine ev_lload_n (pc := 21) dX7_divideBySmall_21 rfl ?_
    refine ev_bipush (pc := 22) (v := nI 30) dX7_divideBySmall_22 (by decide) ?_
    refine ev_lshlN (pc := 24) dX7_divideBySmall_24 ?_
    refine ev_aload_n (pc := 25) dX7_divideBySmall_25 rfl ?_
    refine ev_getf (pc := 26) dX7_divideBySmall_26 f_X7_9 wh_q rfl ?_
    refine ev_iload (pc := 29) dX7_divideBySmall_29 rfl ?_
    refine wh_ld (pc := 31) dX7_divideBySmall_31 hqd (by omega) ?_
    refine ev_i2lN (pc := 32) dX7_divideBySmall_32 (by omega) ?_
    refine ev_lorN (pc := 33) dX7_divideBySmall_33 (by omega) (by omega) ?_
    refine ev_lstore (pc := 34) dX7_divideBySmall_34 rfl ?_
    refine ev_aload_n (pc := 36) dX7_divideBySmall_36 rfl ?_
    refine ev_getf (pc := 37) dX7_divideBySmall_37 f_X7_9 wh_q rfl ?_
    refine ev_iload (pc := 40) dX7_divideBySmall_40 rfl ?_
    refine ev_lload (pc := 42) dX7_divideBySmall_42 rfl ?_
    refine ev_iload_n (pc := 44) dX7_divideBySmall_44 rfl ?_
    refine ev_i2lN (pc := 45) dX7_divideBySmall_45 (by omega) ?_
    refine ev_ldivN (pc := 46) dX7_divideBySmall_46 (by omega) (by omega) (by omega) ?_
    refine ev_l2iN (pc := 47) dX7_divideBySmall_47 ?_
    refine wh_sd (pc := 48) dX7_divideBySmall_48 hqd (by omega) ?_
    refine ev_lload (pc := 49) dX7_divideBySmall_49 rfl ?_
    refine ev_iload_n (pc := 51) dX7_divideBySmall_51 rfl ?_
    refine ev_i2lN (pc := 52) dX7_divideBySmall_52 (by omega) ?_
    refine ev_lremN (pc := 53) dX7_divideBySmall_53 (by omega) (by omega) (by omega) ?_
    refine ev_lstore_n (pc := 54) dX7_divideBySmall_54 rfl ?_
    refine ev_iinc (pc := 55) dX7_divideBySmall_55 rfl rfl ?_
    refine ev_goto (pc := 58) (tgt := 16) dX7_divideBySmall_58 (by decide) ?_
    refine ev_vs [(0, .ref q), (1, .int (nI by_)), (2, .long (lN ((rest * 1073741824 + f k) % by_))), (4, .int (nI k - nI 1))] ⟨rfl, rfl, rfl, ev_s1e (mi_m1 k), trivial⟩ ?_
    refine l_dbs hqd hb0 hb hn hg hK k (m + 1) _ _ (by omega) (mb_upb hf h3) (fun j hj => by rw [va_up_ne _ _ (by omega)]; exact hfl j (by omega)) (fun j hj => by rw [va_up_ne _ _ (by omega)]; exact hfh j hj) (Nat.mod_lt _ hb0) ?_
    rw [h2]
    exact mb_div1 hb0 hv
theorem k_divideBySmall {dd a by_ : Nat} (hd : 2 ≤ dd) (hw : 21 ≤ w) (hqd : q ≠ d) (h1 : mb_is g n a) (hb0 : 0 < by_) (hb : by_ < 2 ^ 31) : ev_Ca G dd w m_X7_divideBySmall [.ref q, .int (nI by_)] (wh_p h q d n g) 0 0 (ev_ok (fun r h1 => r = some (.int (nI (a % by_))) ∧ wv h q d (a / by_) h1)) := by
  obtain ⟨dd, rfl⟩ : ∃ e, dd = e + 1 := ⟨dd - 1, by omega⟩
  refine ⟨by decide +kernel, rfl, ?_⟩
  have hn := h1.2.2.2.1
  refine ev_iload_n (pc := 0) dX7_divideBySmall_0 rfl ?_
  refine ev_if_gtN (pc := 1) (tgt := 6) dX7_divideBySmall_1 (by decide) (by omega) (fun c1 => ?_) (fun c1 => ?_)
  · refine ev_lconst (pc := 6) (v := lN 0) dX7_divideBySmall_6 (by decide) ?_
    refine ev_lstore_n (pc := 7) dX7_divideBySmall_7 rfl ?_
    refine ev_aload_n (pc := 8) dX7_divideBySmall_8 rfl ?_
    refine ev_getf (pc := 9) dX7_divideBySmall_9 f_X7_22 wh_q rfl ?_
    refine ev_iconst (pc := 12) (v := nI 1) dX7_divideBySmall_12 (by decide) ?_
    refine ev_isub (pc := 13) dX7_divideBySmall_13 ?_
    refine ev_istore (pc := 14) dX7_divideBySmall_14 rfl ?_
    refine ev_vs [(0, .ref q), (1, .int (nI by_)), (2, .long (lN 0)), (4, .int (nI n - nI 1))] ⟨rfl, rfl, rfl, rfl, trivial⟩ ?_
    refine l_dbs hqd hb0 hb hn h1.1 (fun f rest hf hfh hr hv => ?_) n 0 g 0 (by omega) h1.1 (fun _ _ => rfl) (fun _ _ => rfl) hb0 (by simp [mb_v0])
    rw [h1.2.2.2.2] at hv
    have e1 : a / by_ = mb_v f n ∧ a % by_ = rest := (Nat.div_mod_unique hb0).mpr ⟨by rw [Nat.mul_comm]; omega, hr⟩
    refine ev_aload_n (pc := 61) dX7_divideBySmall_61 rfl ?_
    refine ev_aload_n (pc := 62) dX7_divideBySmall_62 rfl ?_
    refine ev_getf (pc := 63) dX7_divideBySmall_63 f_X7_22 wh_q rfl ?_
    refine ev_callV (pc := 66) (As := [.int (nI n)]) dX7_divideBySmall_66 cv_X7_18 rfl rfl wh_q rfl ⟨by show 19 + 2 ≤ w; omega, k_trim (by omega) hqd hf (by omega)⟩ rfl rfl (fun r h1 hp => ?_)
    obtain ⟨rfl, rfl⟩ := hp
    rw [Nat.min_eq_left hn]
    refine ev_lload_n (pc := 69) dX7_divideBySmall_69 rfl ?_
    refine ev_l2iN (pc := 70) dX7_divideBySmall_70 ?_
    exact ev_iret (pc := 71) dX7_divideBySmall_71 rfl rfl ⟨by rw [e1.2], f, _, mb_tr_is hf (fun j hj => by rw [hfh j hj]; exact h1.2.1 j hj) hn e1.1.symm, rfl⟩
  · omega
end WH3
