/-! Whole: isOne, isShort, asLong, copy, compareWith, add -/
/-- another Whole beside the one that is written -/
def wh_a (h : ev_H) (q d q2 d2 n2 : Nat) (g2 : Nat → Nat) : Prop := q2 ≠ q ∧ q2 ≠ d ∧ d2 ≠ q ∧ d2 ≠ d ∧ h q2 = some (.inr (5, [.ref d2, .int (nI n2)])) ∧ h d2 = some (.inl (.int, 72, .inl (fun j => nI (g2 j))))
theorem wh_aq {h : ev_H} {q d n q2 d2 n2 : Nat} {g g2 : Nat → Nat} (a : wh_a h q d q2 d2 n2 g2) : wh_p h q d n g q2 = some (.inr (5, [.ref d2, .int (nI n2)])) := (wh_n a.1 a.2.1).trans a.2.2.2.2.1
theorem wh_ad {h : ev_H} {q d n q2 d2 n2 : Nat} {g g2 : Nat → Nat} (a : wh_a h q d q2 d2 n2 g2) : wh_p h q d n g d2 = some (.inl (.int, 72, .inl (fun j => nI (g2 j)))) := (wh_n a.2.2.1 a.2.2.2.1).trans a.2.2.2.2.2
theorem wh_cp {h : ev_H} {q d n m : Nat} {g f : Nat → Nat} (hqd : q ≠ d) (hm : m < 2 ^ 31) : ev_up (wh_p h q d n g) d (.inl (.int, 72, .inl (va_cpy (fun j => nI (f j)) (fun j => nI (g j)) (nI 0).toNatClampNeg (nI 0).toNatClampNeg (nI m).toNatClampNeg))) = wh_p h q d n (va_cpy f g 0 0 m) := by
  rw [nI_clamp (show 0 < 2 ^ 31 by omega), nI_clamp hm]
  rw [show va_cpy (fun j => nI (f j)) (fun j => nI (g j)) 0 0 m = fun j => nI (va_cpy f g 0 0 m j) by
    funext j; unfold va_cpy; split <;> rfl]
  funext a
  unfold wh_p ev_up
  by_cases e : a = d
  · simp only [if_pos e, if_neg (show ¬ a = q by rw [e]; exact Ne.symm hqd)]
  · by_cases e2 : a = q
    · simp only [if_neg e, if_pos e2]
    · simp only [if_neg e, if_neg e2]
theorem mb_cpy {g f : Nat → Nat} {n m : Nat} (hg : ∀ j, n ≤ j → g j = 0) (hf : ∀ j, m ≤ j → f j = 0) : va_cpy f g 0 0 (max n m) = f := by
  funext j
  unfold va_cpy
  by_cases e : 0 ≤ j ∧ j < 0 + max n m
  · rw [if_pos e]; congr 1; omega
  · rw [if_neg e, hg j (by omega), hf j (by omega)]
section WH2
variable {G : ev_G} {C : ev_L} {w : Nat} {K : ev_K} {h : ev_H} {q d n c z q2 d2 n2 : Nat} {g g2 : Nat → Nat}
theorem k_isOne {dd : Nat} (hd : 1 ≤ dd) (hqd : q ≠ d) (hn : n ≤ 72) (hg : ∀ j, g j < 1073741824) : ev_Ca G dd w m_X7_isOne [.ref q] (wh_p h q d n g) 0 0 (ev_ok (fun r h1 => r = some (.int (if n = 1 ∧ g 0 = 1 then 1 else 0)) ∧ h1 = wh_p h q d n g)) := by
  obtain ⟨dd, rfl⟩ : ∃ e, dd = e + 1 := ⟨dd - 1, by omega⟩
  refine ⟨by decide +kernel, rfl, ?_⟩
  refine ev_aload_n (pc := 0) dX7_isOne_0 rfl ?_
  refine ev_getf (pc := 1) dX7_isOne_1 f_X7_22 wh_q rfl ?_
  refine ev_iconst (pc := 4) (v := nI 1) dX7_isOne_4 (by decide) ?_
  refine ev_icmp_ne (pc := 5) (tgt := 22) dX7_isOne_5 (by decide) (fun c1 => ?_) (fun c1 => ?_)
  · refine ev_iconst (pc := 22) (v := nI 0) dX7_isOne_22 (by decide) ?_
    exact ev_iret (pc := 23) dX7_isOne_23 rfl rfl ⟨by rw [if_neg (fun e => c1 (by rw [e.1]))]; rfl, rfl⟩
  · have e1 : n = 1 := (nI_eq (by omega) (by omega)).mp c1
    refine ev_aload_n (pc := 8) dX7_isOne_8 rfl ?_
    refine ev_getf (pc := 9) dX7_isOne_9 f_X7_9 wh_q rfl ?_
    refine ev_iconst (pc := 12) (v := nI 0) dX7_isOne_12 (by decide) ?_
    refine ev_iald (pc := 13) dX7_isOne_13 (wh_d hqd) (vp_in_nI (by omega) (by omega)) ?_
    refine ev_ti (y := nI (g 0)) (by rw [nI_clamp (by omega)]) ?_
    refine ev_iconst (pc := 14) (v := nI 1) dX7_isOne_14 (by decide) ?_
    have h0 := hg 0
    refine ev_icmp_ne (pc := 15) (tgt := 22) dX7_isOne_15 (by decide) (fun c2 => ?_) (fun c2 => ?_)
    · refine ev_iconst (pc := 22) (v := nI 0) dX7_isOne_22 (by decide) ?_
      exact ev_iret (pc := 23) dX7_isOne_23 rfl rfl ⟨by rw [if_neg (fun e => c2 (by rw [e.2]))]; rfl, rfl⟩
    · have e2 : g 0 = 1 := (nI_eq (by omega) (by omega)).mp c2
      refine ev_iconst (pc := 18) (v := nI 1) dX7_isOne_18 (by decide) ?_
      refine ev_goto (pc := 19) (tgt := 23) dX7_isOne_19 (by decide) ?_
      exact ev_iret (pc := 23) dX7_isOne_23 rfl rfl ⟨by rw [if_pos ⟨e1, e2⟩]; rfl, rfl⟩
theorem k_isShort {dd : Nat} (hd : 1 ≤ dd) (hn : n ≤ 72) : ev_Ca G dd w m_X7_isShort [.ref q] (wh_p h q d n g) 0 0 (ev_ok (fun r h1 => r = some (.int (if n ≤ 2 then 1 else 0)) ∧ h1 = wh_p h q d n g)) := by
  obtain ⟨dd, rfl⟩ : ∃ e, dd = e + 1 := ⟨dd - 1, by omega⟩
  refine ⟨by decide +kernel, rfl, ?_⟩
  refine ev_aload_n (pc := 0) dX7_isShort_0 rfl ?_
  refine ev_getf (pc := 1) dX7_isShort_1 f_X7_22 wh_q rfl ?_
  refine ev_iconst (pc := 4) (v := nI 2) dX7_isShort_4 (by decide) ?_
  refine ev_icmp_gt (pc := 5) (tgt := 12) dX7_isShort_5 (by decide) (fun c1 => ?_) (fun c1 => ?_)
  · refine ev_iconst (pc := 12) (v := nI 0) dX7_isShort_12 (by decide) ?_
    have e1 : 2 < n := (nI_ltI (by omega) (by omega)).mp c1
    exact ev_iret (pc := 13) dX7_isShort_13 rfl rfl ⟨by rw [if_neg (by omega)]; rfl, rfl⟩
  · have e1 : ¬ 2 < n := fun e => c1 ((nI_ltI (by omega) (by omega)).mpr e)
    refine ev_iconst (pc := 8) (v := nI 1) dX7_isShort_8 (by decide) ?_
    refine ev_goto (pc := 9) (tgt := 13) dX7_isShort_9 (by decide) ?_
    exact ev_iret (pc := 13) dX7_isShort_13 rfl rfl ⟨by rw [if_pos (by omega)]; rfl, rfl⟩
theorem k_asLong {dd : Nat} (hd : 1 ≤ dd) (hqd : q ≠ d) (hg : ∀ j, g j < 1073741824) : ev_Ca G dd w m_X7_asLong [.ref q] (wh_p h q d n g) 0 0 (ev_ok (fun r h1 => r = some (.long (lN (g 1 * 1073741824 + g 0))) ∧ h1 = wh_p h q d n g)) := by
  obtain ⟨dd, rfl⟩ : ∃ e, dd = e + 1 := ⟨dd - 1, by omega⟩
  refine ⟨by decide +kernel, rfl, ?_⟩
  have h0 := hg 0
  have h1 := hg 1
  refine ev_aload_n (pc := 0) dX7_asLong_0 rfl ?_
  refine ev_getf (pc := 1) dX7_asLong_1 f_X7_9 wh_q rfl ?_
  refine ev_iconst (pc := 4) (v := nI 1) dX7_asLong_4 (by decide) ?_
  refine ev_iald (pc := 5) dX7_asLong_5 (wh_d hqd) (vp_in_nI (by omega) (by omega)) ?_
  refine ev_ti (y := nI (g 1)) (by rw [nI_clamp (by omega)]) ?_
  refine ev_i2l (pc := 6) dX7_asLong_6 ?_
  refine ev_tl (nI_l (by omega)) ?_
  refine ev_bipush (pc := 7) (v := nI 30) dX7_asLong_7 (by decide) ?_
  refine ev_lshl (pc := 9) dX7_asLong_9 ?_
  refine ev_tl (ml_shl _) ?_
  refine ev_aload_n (pc := 10) dX7_asLong_10 rfl ?_
  refine ev_getf (pc := 11) dX7_asLong_11 f_X7_9 wh_q rfl ?_
  refine ev_iconst (pc := 14) (v := nI 0) dX7_asLong_14 (by decide) ?_
  refine ev_iald (pc := 15) dX7_asLong_15 (wh_d hqd) (vp_in_nI (by omega) (by omega)) ?_
  refine ev_ti (y := nI (g 0)) (by rw [nI_clamp (by omega)]) ?_
  refine ev_i2l (pc := 16) dX7_asLong_16 ?_
  refine ev_tl (nI_l (by omega)) ?_
  refine ev_lor (pc := 17) dX7_asLong_17 ?_
  refine ev_tl (ml_or h0 (by omega)) ?_
  exact ev_lret (pc := 18) dX7_asLong_18 rfl ⟨rfl, rfl⟩
theorem k_copy {dd : Nat} (hd : 1 ≤ dd) (hw : 26 ≤ w) (hqd : q ≠ d) (hn : n ≤ 72) (hn2 : n2 ≤ 72) (a : wh_a h q d q2 d2 n2 g2) (hz : ∀ j, n ≤ j → g j = 0) (hz2 : ∀ j, n2 ≤ j → g2 j = 0) : ev_Ca G dd w m_X7_copy [.ref q, .ref q2] (wh_p h q d n g) 0 0 (ev_ok (fun r h1 => r = none ∧ h1 = wh_p h q d n2 g2)) := by
  obtain ⟨dd, rfl⟩ : ∃ e, dd = e + 1 := ⟨dd - 1, by omega⟩
  refine ⟨by decide +kernel, rfl, ?_⟩
  refine ev_aload_n (pc := 0) dX7_copy_0 rfl ?_
  refine ev_getf (pc := 1) dX7_copy_1 f_X7_9 (wh_aq a) rfl ?_
  refine ev_iconst (pc := 4) (v := nI 0) dX7_copy_4 (by decide) ?_
  refine ev_aload_n (pc := 5) dX7_copy_5 rfl ?_
  refine ev_getf (pc := 6) dX7_copy_6 f_X7_9 wh_q rfl ?_
  refine ev_iconst (pc := 9) (v := nI 0) dX7_copy_9 (by decide) ?_
  refine ev_aload_n (pc := 10) dX7_copy_10 rfl ?_
  refine ev_getf (pc := 11) dX7_copy_11 f_X7_22 wh_q rfl ?_
  refine ev_aload_n (pc := 14) dX7_copy_14 rfl ?_
  refine ev_getf (pc := 15) dX7_copy_15 f_X7_22 (wh_aq a) rfl ?_
  refine ev_mmax (pc := 18) dX7_copy_18 mx_X7_26 rfl (by omega) ?_
  refine ev_ti (mi_max (by omega) (by omega)) ?_
  refine ev_copyi (pc := 21) dX7_copy_21 ac_X7_32 rfl (by omega) (wh_ad a) (wh_d hqd) (nI_pos (by omega)) (nI_pos (by omega)) (nI_pos (by omega)) (by rw [nI_clamp (by omega), nI_clamp (by omega)]; omega) (by rw [nI_clamp (by omega), nI_clamp (by omega)]; omega) ?_
  refine ev_th ((wh_cp hqd (by omega)).trans (by rw [mb_cpy hz hz2])) ?_
  refine ev_aload_n (pc := 24) dX7_copy_24 rfl ?_
  refine ev_aload_n (pc := 25) dX7_copy_25 rfl ?_
  refine ev_getf (pc := 26) dX7_copy_26 f_X7_22 (wh_aq a) rfl ?_
  refine ev_putf (pc := 29) dX7_copy_29 p_X7_22 wh_q rfl rfl rfl ?_
  refine ev_th wh_sz ?_
  exact ev_vret (pc := 32) dX7_copy_32 rfl ⟨rfl, rfl⟩
theorem k_cmp {dd a b : Nat} (hd : 1 ≤ dd) (ha : a < 2 ^ 31) (hb : b < 2 ^ 31) : ev_Ca G dd w m_J6_compare_7cf53 [.int (nI a), .int (nI b)] h 0 0 (ev_ok (fun r h1 => r = some (.int (mi_cmp a b)) ∧ h1 = h)) := by
  obtain ⟨dd, rfl⟩ : ∃ e, dd = e + 1 := ⟨dd - 1, by omega⟩
  refine ⟨by decide +kernel, rfl, ?_⟩
  refine ev_iload_n (pc := 0) dJ6_compare_7cf53_0 rfl ?_
  refine ev_iload_n (pc := 1) dJ6_compare_7cf53_1 rfl ?_
  refine ev_icmp_ge (pc := 2) (tgt := 9) dJ6_compare_7cf53_2 (by decide) (fun c1 => ?_) (fun c1 => ?_)
  · have e1 : b ≤ a := (nI_leI hb ha).mp c1
    refine ev_iload_n (pc := 9) dJ6_compare_7cf53_9 rfl ?_
    refine ev_iload_n (pc := 10) dJ6_compare_7cf53_10 rfl ?_
    refine ev_icmp_ne (pc := 11) (tgt := 18) dJ6_compare_7cf53_11 (by decide) (fun c2 => ?_) (fun c2 => ?_)
    · have e2 : ¬ a = b := fun e => c2 (by rw [e])
      refine ev_iconst (pc := 18) (v := nI 1) dJ6_compare_7cf53_18 (by decide) ?_
      exact ev_iret (pc := 19) dJ6_compare_7cf53_19 rfl rfl ⟨by unfold mi_cmp; rw [if_neg (by omega), if_neg e2]; rfl, rfl⟩
    · have e2 : a = b := (nI_eq ha hb).mp c2
      refine ev_iconst (pc := 14) (v := nI 0) dJ6_compare_7cf53_14 (by decide) ?_
      refine ev_goto (pc := 15) (tgt := 19) dJ6_compare_7cf53_15 (by decide) ?_
      exact ev_iret (pc := 19) dJ6_compare_7cf53_19 rfl rfl ⟨by unfold mi_cmp; rw [if_neg (by omega), if_pos e2]; rfl, rfl⟩
  · have e1 : ¬ b ≤ a := fun e => c1 ((nI_leI hb ha).mpr e)
    refine ev_iconst (pc := 5) (v := -1) dJ6_compare_7cf53_5 (by decide) ?_
    refine ev_goto (pc := 6) (tgt := 19) dJ6_compare_7cf53_6 (by decide) ?_
    exact ev_iret (pc := 19) dJ6_compare_7cf53_19 rfl rfl ⟨by unfold mi_cmp; rw [if_pos (by omega)], rfl⟩
theorem l_compareWith {dd : Nat} (hd : 1 ≤ dd) (hw : 23 ≤ w) (hqd : q ≠ d) (a : wh_a h q d q2 d2 n2 g2) (hg : ∀ j, g j < 1073741824) (hg2 : ∀ j, g2 j < 1073741824) {m : Nat} (hm : m ≤ 72) (hK : K (.inl (some (.int (mi_cmp (mb_v g m) (mb_v g2 m))))) (wh_p h q d n g)) : ∀ k, k ≤ m → (∀ j, k ≤ j → j < m → g j = g2 j) → ev_J G (fun N a2 h2 c2 z2 K2 => 19 + N.2.2.1 ≤ w ∧ ev_Ca G dd (w - (19 + N.2.2.1)) N a2 h2 c2 z2 K2) w m_X7_compareWith K (14, ev_lf [(0, .ref q), (1, .ref q2), (2, .int (nI k - nI 1))], [], wh_p h q d n g, c, z)
  | 0, _, he => by
    refine ev_iload_n (pc := 14) dX7_compareWith_14 rfl ?_
    refine ev_if_lt (pc := 15) (tgt := 55) dX7_compareWith_15 (by decide) (fun c1 => ?_) (fun c1 => ?_)
    · refine ev_iconst (pc := 55) (v := nI 0) dX7_compareWith_55 (by decide) ?_
      have e : mb_v g m = mb_v g2 m := mb_congr (fun j hj => he j (by omega) hj)
      have e2 : mi_cmp (mb_v g m) (mb_v g2 m) = nI 0 := by unfold mi_cmp; rw [if_neg (by omega), if_pos e]; rfl
      rw [e2] at hK
      exact ev_iret (pc := 56) dX7_compareWith_56 rfl rfl hK
    · exact absurd (by decide) c1
  | k + 1, hk, he => by
    have h1 := hg k
    have h2 := hg2 k
    refine ev_iload_n (pc := 14) dX7_compareWith_14 rfl ?_
    refine ev_ti (nI_pred k) ?_
    refine ev_if_lt (pc := 15) (tgt := 55) dX7_compareWith_15 (by decide) (fun c1 => ?_) (fun c1 => ?_)
    · exact absurd c1 (nI_pos (by omega))
    · refine ev_vs [(0, .ref q), (1, .ref q2), (2, .int (nI k))] ⟨rfl, rfl, ev_s1e (nI_pred k), trivial⟩ ?_
      refine ev_aload_n (pc := 18) dX7_compareWith_18 rfl ?_
      refine ev_getf (pc := 19) dX7_compareWith_19 f_X7_9 wh_q rfl ?_
      refine ev_iload_n (pc := 22) dX7_compareWith_22 rfl ?_
      refine ev_iald (pc := 23) dX7_compareWith_23 (wh_d hqd) (vp_in_nI (by omega) (by omega)) ?_
      refine ev_ti (y := nI (g k)) (by rw [nI_clamp (by omega)]) ?_
      refine ev_aload_n (pc := 24) dX7_compareWith_24 rfl ?_
      refine ev_getf (pc := 25) dX7_compareWith_25 f_X7_9 (wh_aq a) rfl ?_
      refine ev_iload_n (pc := 28) dX7_compareWith_28 rfl ?_
      refine ev_iald (pc := 29) dX7_compareWith_29 (wh_ad a) (vp_in_nI (by omega) (by omega)) ?_
      refine ev_ti (y := nI (g2 k)) (by rw [nI_clamp (by omega)]) ?_
      refine ev_icmp_eq (pc := 30) (tgt := 49) dX7_compareWith_30 (by decide) (fun c2 => ?_) (fun c2 => ?_)
      · have e : g k = g2 k := (nI_eq (by omega) (by omega)).mp c2
        refine ev_iinc (pc := 49) dX7_compareWith_49 rfl rfl ?_
        refine ev_goto (pc := 52) (tgt := 14) dX7_compareWith_52 (by decide) ?_
        refine ev_vs [(0, .ref q), (1, .ref q2), (2, .int (nI k - nI 1))] ⟨rfl, rfl, ev_s1e (mi_m1 k), trivial⟩ ?_
        refine l_compareWith hd hw hqd a hg hg2 hm hK k (by omega) (fun j h1 h2 => ?_)
        rcases Nat.lt_or_ge k j with q | q
        · exact he j (by omega) h2
        · rw [show j = k by omega]; exact e
      · have e : g k ≠ g2 k := fun e => c2 (by rw [e])
        refine ev_aload_n (pc := 33) dX7_compareWith_33 rfl ?_
        refine ev_getf (pc := 34) dX7_compareWith_34 f_X7_9 wh_q rfl ?_
        refine ev_iload_n (pc := 37) dX7_compareWith_37 rfl ?_
        refine ev_iald (pc := 38) dX7_compareWith_38 (wh_d hqd) (vp_in_nI (by omega) (by omega)) ?_
        refine ev_ti (y := nI (g k)) (by rw [nI_clamp (by omega)]) ?_
        refine ev_aload_n (pc := 39) dX7_compareWith_39 rfl ?_
        refine ev_getf (pc := 40) dX7_compareWith_40 f_X7_9 (wh_aq a) rfl ?_
        refine ev_iload_n (pc := 43) dX7_compareWith_43 rfl ?_
        refine ev_iald (pc := 44) dX7_compareWith_44 (wh_ad a) (vp_in_nI (by omega) (by omega)) ?_
        refine ev_ti (y := nI (g2 k)) (by rw [nI_clamp (by omega)]) ?_
        refine ev_callS (pc := 45) (As := [.int (nI (g k)), .int (nI (g2 k))]) dX7_compareWith_45 cs_X7_42 rfl rfl ⟨by show 19 + 2 ≤ w; omega, k_cmp hd (by omega) (by omega)⟩ rfl rfl (fun r h1 hp => ?_)
        obtain ⟨rfl, rfl⟩ := hp
        have e2 : mi_cmp (mb_v g m) (mb_v g2 m) = mi_cmp (g k) (g2 k) := by
          unfold mi_cmp
          rcases Nat.lt_or_ge (g k) (g2 k) with q | q
          · rw [if_pos q, if_pos (mb_cmp (i := k) (by omega) (fun j _ => hg j) (fun j a b => he j (by omega) b) q)]
          · have q2 : g2 k < g k := by omega
            have h3 := mb_cmp (i := k) (by omega) (fun j _ => hg2 j) (fun j a b => (he j (by omega) b).symm) q2
            rw [if_neg (by omega), if_neg (by omega), if_neg (by omega), if_neg (by omega)]
        rw [e2] at hK
        exact ev_iret (pc := 48) dX7_compareWith_48 rfl rfl hK
theorem k_compareWith {dd a b : Nat} (hd : 2 ≤ dd) (hw : 23 ≤ w) (hqd : q ≠ d) (ha : wh_a h q d q2 d2 n2 g2) (h1 : mb_is g n a) (h2 : mb_is g2 n2 b) : ev_Ca G dd w m_X7_compareWith [.ref q, .ref q2] (wh_p h q d n g) 0 0 (ev_ok (fun r h1 => r = some (.int (mi_cmp a b)) ∧ h1 = wh_p h q d n g)) := by
  obtain ⟨dd, rfl⟩ : ∃ e, dd = e + 1 := ⟨dd - 1, by omega⟩
  refine ⟨by decide +kernel, rfl, ?_⟩
  have hn := h1.2.2.2.1
  have hn2 := h2.2.2.2.1
  refine ev_aload_n (pc := 0) dX7_compareWith_0 rfl ?_
  refine ev_getf (pc := 1) dX7_compareWith_1 f_X7_22 wh_q rfl ?_
  refine ev_aload_n (pc := 4) dX7_compareWith_4 rfl ?_
  refine ev_getf (pc := 5) dX7_compareWith_5 f_X7_22 (wh_aq ha) rfl ?_
  refine ev_mmax (pc := 8) dX7_compareWith_8 mx_X7_26 rfl (by omega) ?_
  refine ev_ti (mi_max (by omega) (by omega)) ?_
  refine ev_iconst (pc := 11) (v := nI 1) dX7_compareWith_11 (by decide) ?_
  refine ev_isub (pc := 12) dX7_compareWith_12 ?_
  refine ev_istore_n (pc := 13) dX7_compareWith_13 rfl ?_
  refine ev_vs [(0, .ref q), (1, .ref q2), (2, .int (nI (max n n2) - nI 1))] ⟨rfl, rfl, rfl, trivial⟩ ?_
  refine l_compareWith (m := max n n2) (by omega) hw hqd ha h1.1 h2.1 (by omega) ?_ (max n n2) (Nat.le_refl _) (fun j a b => by omega)
  rw [mb_is_at h1 (Nat.le_max_left _ _), mb_is_at h2 (Nat.le_max_right _ _)]
  exact ⟨rfl, rfl⟩
end WH2
