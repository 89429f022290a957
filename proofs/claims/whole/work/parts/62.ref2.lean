/-! THE REFERENCE: trim, isOne, isEven -/
section REF2
variable {G : ev_G} {w : Nat} {h : ev_H} {M lm sz r o j k dd : Nat} {rest : List Value} {L s v : Nat → Nat}
/-- a register that may have zeros on top -/
def rw_ (L s : Nat → Nat) (i v : Nat) : Prop := s i ≤ 140 ∧ (∀ k, k < s i → L (140 * i + k) < 1073741824) ∧ mb_v (fun k => L (140 * i + k)) (s i) = v
theorem l_rtrim {K : ev_K} {c z x : Nat} (hM : RM h M lm sz rest) (hr : r < 47) (hK : ∀ s2, (∀ i, i ≠ r → s2 i = s i) → rv L s2 r x → K (.inl none) (rp h lm sz L s2)) : ∀ n s1, s1 r = n → (∀ i, i ≠ r → s1 i = s i) → rw_ L s1 r x → ev_J G (ev_cc G dd w) w m_X9_trim K (0, ev_lf [(0, .ref M), (1, .int (nI r))], [], rp h lm sz L s1, c, z)
  | 0, s1, e, e1, h0 => by
    obtain ⟨a1, a2, a3⟩ := h0
    refine ev_aload_n (pc := 0) dX9_trim_0 rfl ?_
    refine ev_getf (pc := 1) dX9_trim_1 f_X9_13 (rp_M hM) rfl ?_
    refine ev_iload_n (pc := 4) dX9_trim_4 rfl ?_
    refine ev_iaN (pc := 5) dX9_trim_5 rp_S (by omega) (by omega) ?_
    rw [e]
    refine ev_if_leN (pc := 6) (tgt := 44) dX9_trim_6 (by decide) (by decide) (fun _ => ?_) (fun q => absurd q (by decide))
    exact ev_vret (pc := 44) dX9_trim_44 rfl (hK s1 e1 ⟨a1, a2, fun q => by omega, a3⟩)
  | n + 1, s1, e, e1, h0 => by
    obtain ⟨a1, a2, a3⟩ := id h0
    have b := a2 n (by omega)
    refine ev_aload_n (pc := 0) dX9_trim_0 rfl ?_
    refine ev_getf (pc := 1) dX9_trim_1 f_X9_13 (rp_M hM) rfl ?_
    refine ev_iload_n (pc := 4) dX9_trim_4 rfl ?_
    refine ev_iaN (pc := 5) dX9_trim_5 rp_S (by omega) (by omega) ?_
    refine ev_if_leN (pc := 6) (tgt := 44) dX9_trim_6 (by decide) (by omega) (fun c1 => ?_) (fun c1 => ?_)
    · omega
    · refine ev_aload_n (pc := 9) dX9_trim_9 rfl ?_
      refine ev_getf (pc := 10) dX9_trim_10 f_X9_7 (rp_M hM) rfl ?_
      refine ev_sipush (pc := 13) (v := nI 140) dX9_trim_13 (by decide) ?_
      refine ev_iload_n (pc := 16) dX9_trim_16 rfl ?_
      refine ev_imulN (pc := 17) dX9_trim_17 ?_
      refine ev_aload_n (pc := 18) dX9_trim_18 rfl ?_
      refine ev_getf (pc := 19) dX9_trim_19 f_X9_13 (rp_M hM) rfl ?_
      refine ev_iload_n (pc := 22) dX9_trim_22 rfl ?_
      refine ev_iaN (pc := 23) dX9_trim_23 rp_S (by omega) (by omega) ?_
      refine ev_iaddN (pc := 24) dX9_trim_24 ?_
      refine ev_iconst (pc := 25) (v := nI 1) dX9_trim_25 (by decide) ?_
      refine ev_isubN (pc := 26) dX9_trim_26 (by omega) ?_
      refine ev_iaN (pc := 27) (i := 140 * r + s1 r - 1) dX9_trim_27 (rp_L hM) (by omega) (by decide) ?_
      have ei : 140 * r + s1 r - 1 = 140 * r + n := by omega
      rw [ei]
      refine ev_if_neN (pc := 28) (tgt := 44) dX9_trim_28 (by decide) (by omega) (fun c2 => ?_) (fun c2 => ?_)
      · exact ev_vret (pc := 44) dX9_trim_44 rfl (hK s1 e1 ⟨a1, a2, fun _ => by rw [e, Nat.add_sub_cancel]; omega, a3⟩)
      · refine ev_aload_n (pc := 31) dX9_trim_31 rfl ?_
        refine ev_getf (pc := 32) dX9_trim_32 f_X9_13 (rp_M hM) rfl ?_
        refine ev_iload_n (pc := 35) dX9_trim_35 rfl ?_
        refine ev_dup2_11 (pc := 36) dX9_trim_36 rfl rfl ?_
        refine ev_iaN (pc := 37) dX9_trim_37 rp_S (by omega) (by omega) ?_
        refine ev_iconst (pc := 38) (v := nI 1) dX9_trim_38 (by decide) ?_
        refine ev_isubN (pc := 39) dX9_trim_39 (by omega) ?_
        refine ev_iast (pc := 40) dX9_trim_40 rp_S (vp_in_nI hr (by decide)) ?_
        refine ev_th (rp_uS hr) ?_
        refine ev_goto (pc := 41) (tgt := 0) dX9_trim_41 (by decide) ?_
        refine ev_vs [(0, .ref M), (1, .int (nI r))] ⟨rfl, rfl, trivial⟩ ?_
        have en : s1 r - 1 = n := by omega
        rw [en]
        refine l_rtrim hM hr hK n (va_up s1 r n) (va_up_self _ _ _) (fun i hi => (va_up_ne _ _ hi).trans (e1 i hi)) ⟨by rw [va_up_self]; omega, fun k hk => ?_, ?_⟩
        · rw [va_up_self] at hk; exact a2 k (by omega)
        · rw [va_up_self]
          rw [e] at a3
          have : mb_v (fun k => L (140 * r + k)) (n + 1) = mb_v (fun k => L (140 * r + k)) n + L (140 * r + n) * 1073741824 ^ n := rfl
          rw [this, c2, Nat.zero_mul, Nat.add_zero] at a3
          exact a3
theorem k_rtrim {x : Nat} (hd : 1 ≤ dd) (hM : RM h M lm sz rest) (hr : r < 47) (hV : ∀ i, i < 47 → i ≠ r → rv L s i (v i)) (h0 : rw_ L s r x) : ev_Ca G dd w m_X9_trim [.ref M, .int (nI r)] (rp h lm sz L s) 0 0 (ev_ok (fun y h1 => y = none ∧ ∃ s2, h1 = rp h lm sz L s2 ∧ RV L s2 (va_up v r x))) := by
  obtain ⟨dd, rfl⟩ : ∃ e, dd = e + 1 := ⟨dd - 1, by omega⟩
  refine ⟨by decide +kernel, rfl, ?_⟩
  refine ev_vs [(0, .ref M), (1, .int (nI r))] ⟨rfl, rfl, trivial⟩ ?_
  refine l_rtrim hM hr (fun s2 e1 e2 => ⟨rfl, s2, rfl, fun i hi => ?_⟩) (s r) s rfl (fun _ _ => rfl) h0
  by_cases q : i = r
  · subst q; rw [va_up_self]; exact e2
  · rw [va_up_ne _ _ q]; exact rv_cg (hV i hi q) (e1 i q) (fun _ _ => rfl)
end REF2
