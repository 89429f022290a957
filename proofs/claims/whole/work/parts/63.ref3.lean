/-! THE REFERENCE: isOne, isEven -/
theorem mb_odd {g : Nat → Nat} : ∀ n, mb_v g (n + 1) % 2 = g 0 % 2
  | 0 => by show (0 + g 0 * 1073741824 ^ 0) % 2 = _; rw [Nat.pow_zero, Nat.mul_one, Nat.zero_add]
  | n + 1 => by
    show (mb_v g (n + 1) + g (n + 1) * 1073741824 ^ (n + 1)) % 2 = _
    have e : g (n + 1) * 1073741824 ^ (n + 1) = 2 * (g (n + 1) * 1073741824 ^ n * 536870912) := by
      rw [Nat.pow_succ, show (1073741824 : Nat) = 536870912 * 2 by decide]
      ac_rfl
    rw [e, Nat.add_mul_mod_self_left]
    exact mb_odd n
theorem rv_one {L s : Nat → Nat} {i v : Nat} (h : rv L s i v) : (s i = 1 ∧ L (140 * i) = 1) ↔ v = 1 := by
  obtain ⟨a1, a2, a3, a4⟩ := h
  generalize s i = n at *
  match n, a4, a3 with
  | 0, a4, _ => exact ⟨fun q => absurd q.1 (by decide), fun q => by rw [q] at a4; cases a4⟩
  | 1, a4, _ =>
    have : mb_v (fun k => L (140 * i + k)) 1 = L (140 * i) := by show 0 + L (140 * i + 0) * 1073741824 ^ 0 = _; rw [Nat.pow_zero, Nat.mul_one, Nat.zero_add, Nat.add_zero]
    rw [this] at a4
    rw [← a4]
    exact ⟨fun q => q.2, fun q => ⟨rfl, q⟩⟩
  | n + 2, a4, a3 =>
    have t := a3 (by omega)
    rw [show n + 2 - 1 = n + 1 by omega] at t
    have e : mb_v (fun k => L (140 * i + k)) (n + 2) = mb_v (fun k => L (140 * i + k)) (n + 1) + L (140 * i + (n + 1)) * 1073741824 ^ (n + 1) := rfl
    have p : 0 < 1073741824 ^ n := Nat.pow_pos (by decide)
    have q : 1 * (1073741824 ^ n * 1073741824) ≤ L (140 * i + (n + 1)) * 1073741824 ^ (n + 1) := by rw [Nat.pow_succ]; exact Nat.mul_le_mul_right _ (by omega)
    rw [e] at a4
    refine ⟨fun r => absurd r.1 (by omega), fun r => ?_⟩
    omega
section REF3
variable {G : ev_G} {w : Nat} {h : ev_H} {M lm sz r o j k dd : Nat} {rest : List Value} {L s : Nat → Nat} {v : Nat}
theorem k_risOne (hd : 1 ≤ dd) (hM : RM h M lm sz rest) (hr : r < 47) (hv : rv L s r v) : ev_Ca G dd w m_X9_isOne [.ref M, .int (nI r)] (rp h lm sz L s) 0 0 (ev_ok (fun x h1 => x = some (.int (nI (if v = 1 then 1 else 0))) ∧ h1 = rp h lm sz L s)) := by
  obtain ⟨dd, rfl⟩ : ∃ e, dd = e + 1 := ⟨dd - 1, by omega⟩
  refine ⟨by decide +kernel, rfl, ?_⟩
  have one := rv_one hv
  obtain ⟨a1, a2, a3, a4⟩ := hv
  refine ev_aload_n (pc := 0) dX9_isOne_0 rfl ?_
  refine ev_getf (pc := 1) dX9_isOne_1 f_X9_13 (rp_M hM) rfl ?_
  refine ev_iload_n (pc := 4) dX9_isOne_4 rfl ?_
  refine ev_iaN (pc := 5) dX9_isOne_5 rp_S (by omega) (by omega) ?_
  refine ev_iconst (pc := 6) (v := nI 1) dX9_isOne_6 (by decide) ?_
  refine ev_icmp_neN (pc := 7) (tgt := 28) dX9_isOne_7 (by decide) (by omega) (by omega) (fun c1 => ?_) (fun c1 => ?_)
  · refine ev_iconst (pc := 28) (v := nI 0) dX9_isOne_28 (by decide) ?_
    exact ev_iret (pc := 29) dX9_isOne_29 rfl rfl ⟨by rw [if_neg (fun q => c1 (one.mpr q).1)], rfl⟩
  · have b := a2 0 (by omega)
    rw [Nat.add_zero] at b
    refine ev_aload_n (pc := 10) dX9_isOne_10 rfl ?_
    refine ev_getf (pc := 11) dX9_isOne_11 f_X9_7 (rp_M hM) rfl ?_
    refine ev_sipush (pc := 14) (v := nI 140) dX9_isOne_14 (by decide) ?_
    refine ev_iload_n (pc := 17) dX9_isOne_17 rfl ?_
    refine ev_imulN (pc := 18) dX9_isOne_18 ?_
    refine ev_iaN (pc := 19) dX9_isOne_19 (rp_L hM) (by omega) (by omega) ?_
    refine ev_iconst (pc := 20) (v := nI 1) dX9_isOne_20 (by decide) ?_
    refine ev_icmp_neN (pc := 21) (tgt := 28) dX9_isOne_21 (by decide) (by omega) (by omega) (fun c2 => ?_) (fun c2 => ?_)
    · refine ev_iconst (pc := 28) (v := nI 0) dX9_isOne_28 (by decide) ?_
      exact ev_iret (pc := 29) dX9_isOne_29 rfl rfl ⟨by rw [if_neg (fun q => c2 (one.mpr q).2)], rfl⟩
    · refine ev_iconst (pc := 24) (v := nI 1) dX9_isOne_24 (by decide) ?_
      refine ev_goto (pc := 25) (tgt := 29) dX9_isOne_25 (by decide) ?_
      exact ev_iret (pc := 29) dX9_isOne_29 rfl rfl ⟨by rw [if_pos (one.mp ⟨c1, c2⟩)], rfl⟩
theorem k_risEven (hd : 1 ≤ dd) (hM : RM h M lm sz rest) (hr : r < 47) (hv : rv L s r v) : ev_Ca G dd w m_X9_isEven [.ref M, .int (nI r)] (rp h lm sz L s) 0 0 (ev_ok (fun x h1 => x = some (.int (nI (if v % 2 = 0 then 1 else 0))) ∧ h1 = rp h lm sz L s)) := by
  obtain ⟨dd, rfl⟩ : ∃ e, dd = e + 1 := ⟨dd - 1, by omega⟩
  refine ⟨by decide +kernel, rfl, ?_⟩
  obtain ⟨a1, a2, a3, a4⟩ := hv
  refine ev_aload_n (pc := 0) dX9_isEven_0 rfl ?_
  refine ev_getf (pc := 1) dX9_isEven_1 f_X9_13 (rp_M hM) rfl ?_
  refine ev_iload_n (pc := 4) dX9_isEven_4 rfl ?_
  refine ev_iaN (pc := 5) dX9_isEven_5 rp_S (by omega) (by omega) ?_
  refine ev_if_eqN (pc := 6) (tgt := 24) dX9_isEven_6 (by decide) (by omega) (fun c1 => ?_) (fun c1 => ?_)
  · rw [c1] at a4
    have z : v = 0 := a4.symm
    refine ev_iconst (pc := 24) (v := nI 1) dX9_isEven_24 (by decide) ?_
    refine ev_goto (pc := 25) (tgt := 29) dX9_isEven_25 (by decide) ?_
    exact ev_iret (pc := 29) dX9_isEven_29 rfl rfl ⟨by rw [if_pos (by rw [z])], rfl⟩
  · have b := a2 0 (by omega)
    rw [Nat.add_zero] at b
    have par : v % 2 = L (140 * r) % 2 := by
      rw [← a4]
      obtain ⟨n, e⟩ : ∃ n, s r = n + 1 := ⟨s r - 1, by omega⟩
      rw [e]
      exact mb_odd (g := fun k => L (140 * r + k)) n
    have mm : L (140 * r) % 2 < 2 := Nat.mod_lt _ (by decide)
    refine ev_aload_n (pc := 9) dX9_isEven_9 rfl ?_
    refine ev_getf (pc := 10) dX9_isEven_10 f_X9_7 (rp_M hM) rfl ?_
    refine ev_sipush (pc := 13) (v := nI 140) dX9_isEven_13 (by decide) ?_
    refine ev_iload_n (pc := 16) dX9_isEven_16 rfl ?_
    refine ev_imulN (pc := 17) dX9_isEven_17 ?_
    refine ev_iaN (pc := 18) dX9_isEven_18 (rp_L hM) (by omega) (by omega) ?_
    refine ev_iconst (pc := 19) (v := nI 2) dX9_isEven_19 (by decide) ?_
    refine ev_iremN (pc := 20) dX9_isEven_20 (by omega) (by omega) (by omega) ?_
    refine ev_if_neN (pc := 21) (tgt := 28) dX9_isEven_21 (by decide) (by omega) (fun c2 => ?_) (fun c2 => ?_)
    · refine ev_iconst (pc := 28) (v := nI 0) dX9_isEven_28 (by decide) ?_
      exact ev_iret (pc := 29) dX9_isEven_29 rfl rfl ⟨by rw [if_neg (by omega)], rfl⟩
    · refine ev_iconst (pc := 24) (v := nI 1) dX9_isEven_24 (by decide) ?_
      refine ev_goto (pc := 25) (tgt := 29) dX9_isEven_25 (by decide) ?_
      exact ev_iret (pc := 29) dX9_isEven_29 rfl rfl ⟨by rw [if_pos (by omega)], rfl⟩
end REF3
