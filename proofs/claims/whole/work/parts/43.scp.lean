/-! Shares: copy -/
def SX (S : Nat) (sa : Nat → Nat) (S2 : Nat) (sb : Nat → Nat) : Prop := S2 ≠ S ∧ (∀ k, 1 ≤ k → k ≤ 5 → S2 ≠ sa k) ∧ ∀ j, j ≤ 5 → sb j ≠ S ∧ ∀ k, 1 ≤ k → k ≤ 5 → sb j ≠ sa k
section SCP
variable {G : ev_G} {w : Nat} {H : ev_H} {S S2 : Nat} {i j k dd s : Nat} {sa sb : Nat → Nat} {P P2 : Nat → Nat → Nat} {fu fd fu2 fd2 : Nat → Nat} {mem mem2 : Nat}
theorem sh_sf {h1 : ev_H} (hX : SX S sa S2 sb) (hF : SF S sa H h1) (h : SH H S2 sb P fu fd mem) : SH h1 S2 sb P fu fd mem := by
  obtain ⟨x1, x2, x3⟩ := hX
  obtain ⟨a1, a2, a3, a4, a5⟩ := h
  have g : ∀ j, j ≤ 5 → h1 (sb j) = H (sb j) := fun j hj => hF _ (x3 j hj).1 (x3 j hj).2
  exact ⟨(hF _ x1 x2).trans a1, (g 0 (by omega)).trans a2, fun b hb => (g (b + 1) (by omega)).trans (a3 b hb), (g 4 (by omega)).trans a4, (g 5 (by omega)).trans a5⟩
theorem sh_setP {Q : Nat → Nat} (h : SH H S sa P fu fd mem) (hD : SD sa) (hk : k < 3) : SH (ev_up H (sa (k + 1)) (.inl (.int, 8, .inl (fun j => nI (Q j))))) S sa (fun a => if a = k then Q else P a) fu fd mem ∧ SF S sa H (ev_up H (sa (k + 1)) (.inl (.int, 8, .inl (fun j => nI (Q j))))) := by
  obtain ⟨a1, a2, a3, a4, a5⟩ := h
  have e := a3 k hk
  refine ⟨⟨(ev_nee (ne_of a1 e (fun q => by cases q)) a1), (ev_nee (ne_of a2 e (fun q => by cases q)) a2), fun b hb => ?_, (ev_nee (ne_of a4 e (fun q => by cases q)) a4), (ev_nee (ne_of a5 e (fun q => by cases q)) a5)⟩, fun a _ hy => ev_nee (hy (k + 1) (by omega) (by omega)) rfl⟩
  by_cases hbk : b = k
  · subst hbk
    rw [ev_eqq]
    simp
  · rw [ev_nee (hD.ne hb hk hbk) (a3 b hb)]
    simp [hbk]
theorem sh_setU {f : Nat → Nat} (h : SH H S sa P fu fd mem) (hD : SD sa) : SH (ev_up H (sa 4) (.inl (.long, 8, .inr (.inl (fun j => lN (f j)))))) S sa P f fd mem ∧ SF S sa H (ev_up H (sa 4) (.inl (.long, 8, .inr (.inl (fun j => lN (f j)))))) := by
  obtain ⟨a1, a2, a3, a4, a5⟩ := h
  exact ⟨⟨(ev_nee (ne_of a1 a4 (fun q => by cases q)) a1), (ev_nee (ne_of a2 a4 (fun q => by cases q)) a2), fun b hb => (ev_nee (ne_of (a3 b hb) a4 (fun q => by cases q)) (a3 b hb)), ev_eqq, (ev_nee (Ne.symm hD.2.2.2) a5)⟩, fun a _ hy => ev_nee (hy 4 (by omega) (by omega)) rfl⟩
theorem sh_setD {f : Nat → Nat} (h : SH H S sa P fu fd mem) (hD : SD sa) : SH (ev_up H (sa 5) (.inl (.long, 8, .inr (.inl (fun j => lN (f j)))))) S sa P fu f mem ∧ SF S sa H (ev_up H (sa 5) (.inl (.long, 8, .inr (.inl (fun j => lN (f j)))))) := by
  obtain ⟨a1, a2, a3, a4, a5⟩ := h
  exact ⟨⟨(ev_nee (ne_of a1 a5 (fun q => by cases q)) a1), (ev_nee (ne_of a2 a5 (fun q => by cases q)) a2), fun b hb => (ev_nee (ne_of (a3 b hb) a5 (fun q => by cases q)) (a3 b hb)), (ev_nee hD.2.2.2 a4), ev_eqq⟩, fun a _ hy => ev_nee (hy 5 (by omega) (by omega)) rfl⟩
theorem cp8i (f g : Nat → Nat) : va_cpy (fun j => nI (f j)) (fun j => nI (g j)) (nI 0).toNatClampNeg (nI 0).toNatClampNeg (nI 8).toNatClampNeg = fun j => nI (va_cpy f g 0 0 8 j) := by
  rw [nI_clamp (by decide), nI_clamp (by decide)]
  funext j; unfold va_cpy; split <;> rfl
theorem cp8l (f g : Nat → Nat) : va_cpy (fun j => lN (f j)) (fun j => lN (g j)) (nI 0).toNatClampNeg (nI 0).toNatClampNeg (nI 8).toNatClampNeg = fun j => lN (va_cpy f g 0 0 8 j) := by
  rw [nI_clamp (by decide), nI_clamp (by decide)]
  funext j; unfold va_cpy; split <;> rfl
theorem cp8 (f g : Nat → Nat) {j : Nat} (hj : j < 8) : va_cpy f g 0 0 8 j = f j := by
  unfold va_cpy
  rw [if_pos (by omega)]
  congr 1
  omega
theorem l_scopy {K : ev_K} {c z : Nat} {H0 : ev_H} (hw : 26 ≤ w) (hX : SX S sa S2 sb) (hD : SD sa)
    (hK : ∀ h1 P1, (∀ k, k < 3 → ∀ j, j < 8 → P1 k j = P2 k j) → SH h1 S sa P1 fu fd mem → SH h1 S2 sb P2 fu2 fd2 mem2 → SF S sa H0 h1 → ev_J G (ev_cc G dd w) w m_X5_copy K (32, ev_lf [(0, .ref S), (1, .ref S2)], [], h1, c, z)) :
    ∀ k s H P, s + k = 3 → SH H S sa P fu fd mem → SH H S2 sb P2 fu2 fd2 mem2 → SF S sa H0 H → (∀ k, k < s → ∀ j, j < 8 → P k j = P2 k j) → ev_J G (ev_cc G dd w) w m_X5_copy K (2, ev_lf [(0, .ref S), (1, .ref S2), (2, .int (nI s))], [], H, c, z)
  | 0, s, H, P, e, h, h2, hF, hf => by
    refine ev_iload_n (pc := 2) dX5_copy_2 rfl ?_
    refine ev_iconst (pc := 3) (v := nI 3) dX5_copy_3 (by decide) ?_
    refine ev_icmp_geN (pc := 4) (tgt := 32) dX5_copy_4 (by decide) (by omega) (by omega) (fun c1 => ?_) (fun c1 => ?_)
    · refine ev_vs [(0, .ref S), (1, .ref S2)] ⟨rfl, rfl, trivial⟩ ?_
      exact hK H P (fun k hk => hf k (by omega)) h h2 hF
    · omega
  | k + 1, s, H, P, e, h, h2, hF, hf => by
    refine ev_iload_n (pc := 2) dX5_copy_2 rfl ?_
    refine ev_iconst (pc := 3) (v := nI 3) dX5_copy_3 (by decide) ?_
    refine ev_icmp_geN (pc := 4) (tgt := 32) dX5_copy_4 (by decide) (by omega) (by omega) (fun c1 => ?_) (fun c1 => ?_)
    · omega
    · refine ev_aload_n (pc := 7) dX5_copy_7 rfl ?_
      refine ev_getf (pc := 8) dX5_copy_8 f_X5_11 h2.1 rfl ?_
      refine ev_iload_n (pc := 11) dX5_copy_11 rfl ?_
      refine sh_row (pc := 12) dX5_copy_12 h2 (by omega) ?_
      refine ev_iconst (pc := 13) (v := nI 0) dX5_copy_13 (by decide) ?_
      refine ev_aload_n (pc := 14) dX5_copy_14 rfl ?_
      refine ev_getf (pc := 15) dX5_copy_15 f_X5_11 h.1 rfl ?_
      refine ev_iload_n (pc := 18) dX5_copy_18 rfl ?_
      refine sh_row (pc := 19) dX5_copy_19 h (by omega) ?_
      refine ev_iconst (pc := 20) (v := nI 0) dX5_copy_20 (by decide) ?_
      refine ev_bipush (pc := 21) (v := nI 8) dX5_copy_21 (by decide) ?_
      refine ev_copyi (pc := 23) dX5_copy_23 ac_X5_38 rfl (by omega) (h2.2.2.1 s (by omega)) (h.2.2.1 s (by omega)) (by decide) (by decide) (by decide) (by decide) (by decide) ?_
      refine ev_th (by rw [cp8i]) ?_
      obtain ⟨h3, hF3⟩ := sh_setP (k := s) (Q := va_cpy (P2 s) (P s) 0 0 8) h hD (by omega)
      refine ev_iincN (pc := 26) dX5_copy_26 rfl rfl ?_
      refine ev_goto (pc := 29) (tgt := 2) dX5_copy_29 (by decide) ?_
      refine ev_vs [(0, .ref S), (1, .ref S2), (2, .int (nI (s + 1)))] ⟨rfl, rfl, rfl, trivial⟩ ?_
      refine l_scopy hw hX hD hK k (s + 1) _ _ (by omega) h3 (sh_sf hX hF3 h2) (hF.tr hF3) (fun b hb j hj => ?_)
      show (if b = s then va_cpy (P2 s) (P s) 0 0 8 else P b) j = _
      by_cases q : b = s
      · rw [if_pos q, q]
        exact cp8 _ _ hj
      · rw [if_neg q]
        exact hf b (by omega) j hj
theorem k_scopy (hd : 1 ≤ dd) (hw : 26 ≤ w) (h : SH H S sa P fu fd mem) (h2 : SH H S2 sb P2 fu2 fd2 mem2) (hX : SX S sa S2 sb) (hD : SD sa) : ev_Ca G dd w m_X5_copy [.ref S, .ref S2] H 0 0 (ev_ok (fun r h1 => r = none ∧ ∃ P1 fu1 fd1, (∀ k, k < 3 → ∀ j, j < 8 → P1 k j = P2 k j) ∧ (∀ j, j < 8 → fu1 j = fu2 j ∧ fd1 j = fd2 j) ∧ SH h1 S sa P1 fu1 fd1 mem2 ∧ SF S sa H h1)) := by
  obtain ⟨dd, rfl⟩ : ∃ e, dd = e + 1 := ⟨dd - 1, by omega⟩
  refine ⟨by decide +kernel, rfl, ?_⟩
  refine ev_iconst (pc := 0) (v := nI 0) dX5_copy_0 (by decide) ?_
  refine ev_istore_n (pc := 1) dX5_copy_1 rfl ?_
  refine ev_vs [(0, .ref S), (1, .ref S2), (2, .int (nI 0))] ⟨rfl, rfl, rfl, trivial⟩ ?_
  refine l_scopy hw hX hD (fun h1 P1 e1 g g2 gF => ?_) 3 0 H P (by omega) h h2 SF.rf (fun k hk => absurd hk (Nat.not_lt_zero k))
  refine ev_aload_n (pc := 32) dX5_copy_32 rfl ?_
  refine ev_getf (pc := 33) dX5_copy_33 f_X5_14 g2.1 rfl ?_
  refine ev_iconst (pc := 36) (v := nI 0) dX5_copy_36 (by decide) ?_
  refine ev_aload_n (pc := 37) dX5_copy_37 rfl ?_
  refine ev_getf (pc := 38) dX5_copy_38 f_X5_14 g.1 rfl ?_
  refine ev_iconst (pc := 41) (v := nI 0) dX5_copy_41 (by decide) ?_
  refine ev_bipush (pc := 42) (v := nI 8) dX5_copy_42 (by decide) ?_
  refine ev_copyl (pc := 44) dX5_copy_44 ac_X5_38 rfl (by omega) g2.2.2.2.1 g.2.2.2.1 (by decide) (by decide) (by decide) (by decide) (by decide) ?_
  refine ev_th (by rw [cp8l]) ?_
  obtain ⟨h3, hF3⟩ := sh_setU (f := va_cpy fu2 fu 0 0 8) g hD
  have g3 := sh_sf hX hF3 g2
  refine ev_aload_n (pc := 47) dX5_copy_47 rfl ?_
  refine ev_getf (pc := 48) dX5_copy_48 f_X5_18 g3.1 rfl ?_
  refine ev_iconst (pc := 51) (v := nI 0) dX5_copy_51 (by decide) ?_
  refine ev_aload_n (pc := 52) dX5_copy_52 rfl ?_
  refine ev_getf (pc := 53) dX5_copy_53 f_X5_18 h3.1 rfl ?_
  refine ev_iconst (pc := 56) (v := nI 0) dX5_copy_56 (by decide) ?_
  refine ev_bipush (pc := 57) (v := nI 8) dX5_copy_57 (by decide) ?_
  refine ev_copyl (pc := 59) dX5_copy_59 ac_X5_38 rfl (by omega) g3.2.2.2.2 h3.2.2.2.2 (by decide) (by decide) (by decide) (by decide) (by decide) ?_
  refine ev_th (by rw [cp8l]) ?_
  obtain ⟨h4, hF4⟩ := sh_setD (f := va_cpy fd2 fd 0 0 8) h3 hD
  have g4 := sh_sf hX hF4 g3
  refine ev_aload_n (pc := 62) dX5_copy_62 rfl ?_
  refine ev_aload_n (pc := 63) dX5_copy_63 rfl ?_
  refine ev_getf (pc := 64) dX5_copy_64 f_X5_30 g4.1 rfl ?_
  refine ev_putf (pc := 67) dX5_copy_67 p_X5_30 h4.1 rfl rfl rfl ?_
  obtain ⟨h5, hF5⟩ := sh_putM (m := mem2) h4
  exact ev_vret (pc := 70) dX5_copy_70 rfl ⟨rfl, P1, _, _, e1, fun j hj => ⟨cp8 _ _ hj, cp8 _ _ hj⟩, h5, ((gF.tr hF3).tr hF4).tr hF5⟩
end SCP
