/-! Whole: clear, trim and the questions -/
section WH1
variable {G : ev_G} {C : ev_L} {w : Nat} {K : ev_K} {h : ev_H} {q d n c z : Nat} {g : Nat → Nat}
theorem l_clear (hqd : q ≠ d) (hn : n ≤ 72) (hK : K (.inl none) (wh_p h q d 0 (mb_cl g n))) : ∀ (k i : Nat), i + k = n → ev_J G C w m_X7_clear K (2, ev_lf [(0, .ref q), (1, .int (nI i))], [], wh_p h q d n (mb_cl g i), c, z)
  | 0, i, e => by
    refine ev_iload_n (pc := 2) dX7_clear_2 rfl ?_
    refine ev_aload_n (pc := 3) dX7_clear_3 rfl ?_
    refine ev_getf (pc := 4) dX7_clear_4 f_X7_22 wh_q rfl ?_
    refine ev_icmp_ge (pc := 7) (tgt := 23) dX7_clear_7 (by decide) (fun c1 => ?_) (fun c1 => ?_)
    · refine ev_aload_n (pc := 23) dX7_clear_23 rfl ?_
      refine ev_iconst (pc := 24) (v := nI 0) dX7_clear_24 (by decide) ?_
      refine ev_putf (pc := 25) dX7_clear_25 p_X7_22 wh_q rfl rfl rfl ?_
      refine ev_th wh_sz ?_
      have e2 : i = n := by omega
      subst e2
      exact ev_vret (pc := 28) dX7_clear_28 rfl hK
    · exact absurd (nI_le (by omega) (by omega)) c1
  | k + 1, i, e => by
    refine ev_iload_n (pc := 2) dX7_clear_2 rfl ?_
    refine ev_aload_n (pc := 3) dX7_clear_3 rfl ?_
    refine ev_getf (pc := 4) dX7_clear_4 f_X7_22 wh_q rfl ?_
    refine ev_icmp_ge (pc := 7) (tgt := 23) dX7_clear_7 (by decide) (fun c1 => ?_) (fun c1 => ?_)
    · exact absurd c1 (nI_ge (by omega) (by omega))
    · refine ev_aload_n (pc := 10) dX7_clear_10 rfl ?_
      refine ev_getf (pc := 11) dX7_clear_11 f_X7_9 wh_q rfl ?_
      refine ev_iload_n (pc := 14) dX7_clear_14 rfl ?_
      refine ev_iconst (pc := 15) (v := nI 0) dX7_clear_15 (by decide) ?_
      refine ev_iast (pc := 16) dX7_clear_16 (wh_d hqd) (vp_in_nI (by omega) (by omega)) ?_
      refine ev_th ((wh_st hqd (by omega)).trans (by rw [mb_cls])) ?_
      refine ev_iinc (pc := 17) dX7_clear_17 rfl rfl ?_
      refine ev_goto (pc := 20) (tgt := 2) dX7_clear_20 (by decide) ?_
      refine ev_vs [(0, .ref q), (1, .int (nI (i + 1)))] ⟨rfl, ev_s1e (ev_p1 i), trivial⟩ ?_
      exact l_clear hqd hn hK k (i + 1) (by omega)
theorem k_clear {dd : Nat} (hd : 1 ≤ dd) (hqd : q ≠ d) (hn : n ≤ 72) : ev_Ca G dd w m_X7_clear [.ref q] (wh_p h q d n g) 0 0 (ev_ok (fun r h1 => r = none ∧ h1 = wh_p h q d 0 (mb_cl g n))) := by
  obtain ⟨dd, rfl⟩ : ∃ e, dd = e + 1 := ⟨dd - 1, by omega⟩
  refine ⟨by decide +kernel, rfl, ?_⟩
  refine ev_iconst (pc := 0) (v := nI 0) dX7_clear_0 (by decide) ?_
  refine ev_istore_n (pc := 1) dX7_clear_1 rfl ?_
  refine ev_vs [(0, .ref q), (1, .int (nI 0))] ⟨rfl, rfl, trivial⟩ ?_
  refine ev_th (congrArg (wh_p h q d n) (mb_cl0 g).symm) ?_
  exact l_clear hqd hn ⟨rfl, rfl⟩ n 0 (by omega)
theorem l_trim (hqd : q ≠ d) (hg : ∀ j, g j < 1073741824) : ∀ (k : Nat), k ≤ 72 → K (.inl none) (wh_p h q d (mb_tr g k) g) → ev_J G C w m_X7_trim K (16, ev_lf [(0, .ref q)], [], wh_p h q d k g, c, z)
  | 0, _, hK => by
    refine ev_aload_n (pc := 16) dX7_trim_16 rfl ?_
    refine ev_getf (pc := 17) dX7_trim_17 f_X7_22 wh_q rfl ?_
    refine ev_if_le (pc := 20) (tgt := 50) dX7_trim_20 (by decide) (fun c1 => ?_) (fun c1 => ?_)
    · exact ev_vret (pc := 50) dX7_trim_50 rfl hK
    · exact absurd (by rw [nI_0]; exact Int32.le_refl 0) c1
  | k + 1, hk, hK => by
    refine ev_aload_n (pc := 16) dX7_trim_16 rfl ?_
    refine ev_getf (pc := 17) dX7_trim_17 f_X7_22 wh_q rfl ?_
    refine ev_if_le (pc := 20) (tgt := 50) dX7_trim_20 (by decide) (fun c1 => ?_) (fun c1 => ?_)
    · exact absurd c1 (nI_nle (by omega) (by omega))
    · refine ev_aload_n (pc := 23) dX7_trim_23 rfl ?_
      refine ev_getf (pc := 24) dX7_trim_24 f_X7_9 wh_q rfl ?_
      refine ev_aload_n (pc := 27) dX7_trim_27 rfl ?_
      refine ev_getf (pc := 28) dX7_trim_28 f_X7_22 wh_q rfl ?_
      refine ev_iconst (pc := 31) (v := nI 1) dX7_trim_31 (by decide) ?_
      refine ev_isub (pc := 32) dX7_trim_32 ?_
      refine ev_ti (nI_pred k) ?_
      refine ev_iald (pc := 33) dX7_trim_33 (wh_d hqd) (vp_in_nI (by omega) (by omega)) ?_
      refine ev_ti (y := nI (g k)) (by rw [nI_clamp (by omega)]) ?_
      refine ev_if_ne (pc := 34) (tgt := 50) dX7_trim_34 (by decide) (fun c2 => ?_) (fun c2 => ?_)
      · have e : mb_tr g (k + 1) = k + 1 := if_neg (fun q => c2 (by rw [q]; exact nI_0))
        rw [e] at hK
        exact ev_vret (pc := 50) dX7_trim_50 rfl hK
      · have h0 : g k = 0 := by
          have h1 := hg k
          rcases Nat.eq_zero_or_pos (g k) with q | q
          · exact q
          · exact absurd c2 (nI_ne0 q (by omega))
        have e : mb_tr g (k + 1) = mb_tr g k := if_pos h0
        rw [e] at hK
        refine ev_aload_n (pc := 37) dX7_trim_37 rfl ?_
        refine ev_dup (pc := 38) dX7_trim_38 rfl ?_
        refine ev_getf (pc := 39) dX7_trim_39 f_X7_22 wh_q rfl ?_
        refine ev_iconst (pc := 42) (v := nI 1) dX7_trim_42 (by decide) ?_
        refine ev_isub (pc := 43) dX7_trim_43 ?_
        refine ev_ti (nI_pred k) ?_
        refine ev_putf (pc := 44) dX7_trim_44 p_X7_22 wh_q rfl rfl rfl ?_
        refine ev_th wh_sz ?_
        refine ev_goto (pc := 47) (tgt := 16) dX7_trim_47 (by decide) ?_
        refine ev_vs [(0, .ref q)] ⟨rfl, trivial⟩ ?_
        exact l_trim hqd hg k (by omega) hK
theorem k_trim {dd m : Nat} (hd : 1 ≤ dd) (hqd : q ≠ d) (hg : ∀ j, g j < 1073741824) (hm : m < 2 ^ 31) : ev_Ca G dd w m_X7_trim [.ref q, .int (nI m)] (wh_p h q d n g) 0 0 (ev_ok (fun r h1 => r = none ∧ h1 = wh_p h q d (mb_tr g (min m 72)) g)) := by
  obtain ⟨dd, rfl⟩ : ∃ e, dd = e + 1 := ⟨dd - 1, by omega⟩
  refine ⟨by decide +kernel, rfl, ?_⟩
  refine ev_aload_n (pc := 0) dX7_trim_0 rfl ?_
  refine ev_iload_n (pc := 1) dX7_trim_1 rfl ?_
  refine ev_bipush (pc := 2) (v := nI 72) dX7_trim_2 (by decide) ?_
  refine ev_icmp_ge (pc := 4) (tgt := 11) dX7_trim_4 (by decide) (fun c1 => ?_) (fun c1 => ?_)
  · refine ev_bipush (pc := 11) (v := nI 72) dX7_trim_11 (by decide) ?_
    refine ev_putf (pc := 13) dX7_trim_13 p_X7_22 wh_q rfl rfl rfl ?_
    refine ev_th wh_sz ?_
    refine ev_vs [(0, .ref q)] ⟨rfl, trivial⟩ ?_
    have h1 : 72 ≤ m := (nI_leI (by omega) (by omega)).mp c1
    refine l_trim hqd hg 72 (by omega) ?_
    rw [Nat.min_eq_right h1]
    exact ⟨rfl, rfl⟩
  · refine ev_iload_n (pc := 7) dX7_trim_7 rfl ?_
    refine ev_goto (pc := 8) (tgt := 13) dX7_trim_8 (by decide) ?_
    refine ev_putf (pc := 13) dX7_trim_13 p_X7_22 wh_q rfl rfl rfl ?_
    refine ev_th wh_sz ?_
    refine ev_vs [(0, .ref q)] ⟨rfl, trivial⟩ ?_
    have h1 : ¬ 72 ≤ m := fun q => c1 ((nI_leI (by omega) (by omega)).mpr q)
    refine l_trim hqd hg m (by omega) ?_
    rw [Nat.min_eq_left (by omega)]
    exact ⟨rfl, rfl⟩
theorem k_isZero {dd : Nat} (hd : 1 ≤ dd) (hn : n ≤ 72) : ev_Ca G dd w m_X7_isZero [.ref q] (wh_p h q d n g) 0 0 (ev_ok (fun r h1 => r = some (.int (if n = 0 then 1 else 0)) ∧ h1 = wh_p h q d n g)) := by
  obtain ⟨dd, rfl⟩ : ∃ e, dd = e + 1 := ⟨dd - 1, by omega⟩
  refine ⟨by decide +kernel, rfl, ?_⟩
  refine ev_aload_n (pc := 0) dX7_isZero_0 rfl ?_
  refine ev_getf (pc := 1) dX7_isZero_1 f_X7_22 wh_q rfl ?_
  refine ev_if_ne (pc := 4) (tgt := 11) dX7_isZero_4 (by decide) (fun c1 => ?_) (fun c1 => ?_)
  · refine ev_iconst (pc := 11) (v := nI 0) dX7_isZero_11 (by decide) ?_
    exact ev_iret (pc := 12) dX7_isZero_12 rfl rfl ⟨by rw [if_neg (fun q => c1 (by rw [q]; exact nI_0))]; rfl, rfl⟩
  · have h0 : n = 0 := by
      rcases Nat.eq_zero_or_pos n with q | q
      · exact q
      · exact absurd c1 (nI_ne0 q (by omega))
    refine ev_iconst (pc := 7) (v := nI 1) dX7_isZero_7 (by decide) ?_
    refine ev_goto (pc := 8) (tgt := 12) dX7_isZero_8 (by decide) ?_
    exact ev_iret (pc := 12) dX7_isZero_12 rfl rfl ⟨by rw [if_pos h0]; rfl, rfl⟩
end WH1
