/-! Shares, written: the small methods -/
def mo (k : Nat) : Nat := if k = 2 then 100 else 9999999
/-- the static row of the greatest values is where it should be -/
def G_ok (G : ev_G) : Prop := ∃ t f, G.2 "IndexBureau$Shares" "MOST" "[I" = some t ∧ G.1 t = some (3, f) ∧ ∀ k, k < 3 → f k = nI (mo k)
def SD (sa : Nat → Nat) : Prop := sa 1 ≠ sa 2 ∧ sa 1 ≠ sa 3 ∧ sa 2 ≠ sa 3 ∧ sa 4 ≠ sa 5
def SF (S : Nat) (sa : Nat → Nat) (H h1 : ev_H) : Prop := ∀ a, a ≠ S → (∀ k, 1 ≤ k → k ≤ 5 → a ≠ sa k) → h1 a = H a
theorem SF.rf {S : Nat} {sa : Nat → Nat} {H : ev_H} : SF S sa H H := fun _ _ _ => rfl
theorem SF.tr {S : Nat} {sa : Nat → Nat} {H h1 h2 : ev_H} (a : SF S sa H h1) (b : SF S sa h1 h2) : SF S sa H h2 := fun x hx hy => (b x hx hy).trans (a x hx hy)
def p_up (P : Nat → Nat → Nat) (k s x : Nat) : Nat → Nat → Nat := fun a b => if a = k then va_up (P a) s x b else P a b
theorem SD.ne {sa : Nat → Nat} (h : SD sa) {a b : Nat} (ha : a < 3) (hb : b < 3) (hab : a ≠ b) : sa (a + 1) ≠ sa (b + 1) := by
  obtain ⟨h1, h2, h3, -⟩ := h
  rcases (show a = 0 ∨ a = 1 ∨ a = 2 by omega) with rfl | rfl | rfl <;> rcases (show b = 0 ∨ b = 1 ∨ b = 2 by omega) with rfl | rfl | rfl <;> first | exact absurd rfl hab | exact h1 | exact h2 | exact h3 | exact Ne.symm h1 | exact Ne.symm h2 | exact Ne.symm h3
section SHP
variable {H : ev_H} {S : Nat} {sa : Nat → Nat} {P : Nat → Nat → Nat} {fu fd : Nat → Nat} {mem : Nat}
/-- two cells of different kinds are apart -/
theorem ne_of {H : ev_H} {a b : Nat} {x y : ev_C} (ha : H a = some x) (hb : H b = some y) (h : x ≠ y) : a ≠ b := fun e => by rw [e, hb] at ha; exact h (Option.some.inj ha).symm
theorem sh_putP {k j x : Nat} (h : SH H S sa P fu fd mem) (hD : SD sa) (hk : k < 3) (hj : j < 8) : SH (ev_up H (sa (k + 1)) (.inl (.int, 8, .inl (upd (fun i => nI (P k i)) (nI j).toNatClampNeg (nI x))))) S sa (p_up P k j x) fu fd mem ∧ SF S sa H (ev_up H (sa (k + 1)) (.inl (.int, 8, .inl (upd (fun i => nI (P k i)) (nI j).toNatClampNeg (nI x))))) := by
  obtain ⟨a1, a2, a3, a4, a5⟩ := h
  have e := a3 k hk
  refine ⟨⟨(ev_nee (ne_of a1 e (fun q => by cases q)) a1), (ev_nee (ne_of a2 e (fun q => by cases q)) a2), fun b hb => ?_, (ev_nee (ne_of a4 e (fun q => by cases q)) a4), (ev_nee (ne_of a5 e (fun q => by cases q)) a5)⟩, fun a _ hy => ev_nee (hy (k + 1) (by omega) (by omega)) rfl⟩
  by_cases hbk : b = k
  · subst hbk
    rw [ev_eqq, wh_upd _ _ _ (by omega)]
    congr 6
    funext i
    simp [p_up]
  · rw [ev_nee (hD.ne hb hk hbk) (a3 b hb)]
    congr 6
    funext i
    simp [p_up, hbk]
theorem sh_upl (g : Nat → Nat) (i x : Nat) (hi : i < 2 ^ 31) : vp_updL (fun j => lN (g j)) (nI i).toNatClampNeg (lN x) = fun j => lN (va_up g i x j) := by
  rw [nI_clamp hi]
  funext j
  unfold vp_updL va_up
  by_cases e : j = i
  · rw [if_pos e, if_pos e]
  · rw [if_neg e, if_neg e]
theorem sh_putU {j x : Nat} (h : SH H S sa P fu fd mem) (hD : SD sa) (hj : j < 8) : SH (ev_up H (sa 4) (.inl (.long, 8, .inr (.inl (vp_updL (fun i => lN (fu i)) (nI j).toNatClampNeg (lN x)))))) S sa P (va_up fu j x) fd mem ∧ SF S sa H (ev_up H (sa 4) (.inl (.long, 8, .inr (.inl (vp_updL (fun i => lN (fu i)) (nI j).toNatClampNeg (lN x)))))) := by
  obtain ⟨a1, a2, a3, a4, a5⟩ := h
  refine ⟨⟨(ev_nee (ne_of a1 a4 (fun q => by cases q)) a1), (ev_nee (ne_of a2 a4 (fun q => by cases q)) a2), fun b hb => (ev_nee (ne_of (a3 b hb) a4 (fun q => by cases q)) (a3 b hb)), ?_, (ev_nee (Ne.symm hD.2.2.2) a5)⟩, fun a _ hy => ev_nee (hy 4 (by omega) (by omega)) rfl⟩
  rw [ev_eqq, sh_upl _ _ _ (by omega)]
theorem sh_putD {j x : Nat} (h : SH H S sa P fu fd mem) (hD : SD sa) (hj : j < 8) : SH (ev_up H (sa 5) (.inl (.long, 8, .inr (.inl (vp_updL (fun i => lN (fd i)) (nI j).toNatClampNeg (lN x)))))) S sa P fu (va_up fd j x) mem ∧ SF S sa H (ev_up H (sa 5) (.inl (.long, 8, .inr (.inl (vp_updL (fun i => lN (fd i)) (nI j).toNatClampNeg (lN x)))))) := by
  obtain ⟨a1, a2, a3, a4, a5⟩ := h
  refine ⟨⟨(ev_nee (ne_of a1 a5 (fun q => by cases q)) a1), (ev_nee (ne_of a2 a5 (fun q => by cases q)) a2), fun b hb => (ev_nee (ne_of (a3 b hb) a5 (fun q => by cases q)) (a3 b hb)), (ev_nee hD.2.2.2 a4), ?_⟩, fun a _ hy => ev_nee (hy 5 (by omega) (by omega)) rfl⟩
  rw [ev_eqq, sh_upl _ _ _ (by omega)]
theorem sh_putM {m : Nat} (h : SH H S sa P fu fd mem) : SH (ev_up H S (.inr (3, [Value.ref (sa 0), Value.ref (sa 4), Value.ref (sa 5), Value.int (nI mem)].set 3 (.int (nI m))))) S sa P fu fd m ∧ SF S sa H (ev_up H S (.inr (3, [Value.ref (sa 0), Value.ref (sa 4), Value.ref (sa 5), Value.int (nI mem)].set 3 (.int (nI m))))) := by
  obtain ⟨a1, a2, a3, a4, a5⟩ := h
  exact ⟨⟨ev_eqq, (ev_nee (ne_of a2 a1 (fun q => by cases q)) a2), fun b hb => (ev_nee (ne_of (a3 b hb) a1 (fun q => by cases q)) (a3 b hb)), (ev_nee (ne_of a4 a1 (fun q => by cases q)) a4), (ev_nee (ne_of a5 a1 (fun q => by cases q)) a5)⟩, fun a hx _ => ev_nee hx rfl⟩
end SHP
/-- an int within bounds -/
def ri (x : Int32) (lo hi : Int) : Prop := lo ≤ x.toInt ∧ x.toInt ≤ hi
theorem ri_nI {x : Int32} {lo hi : Nat} (h : ri x lo hi) (hb : hi < 2 ^ 31) : ∃ n, x = nI n ∧ lo ≤ n ∧ n ≤ hi := by
  obtain ⟨h1, h2⟩ := h
  refine ⟨x.toInt.toNat, ?_, by omega, by omega⟩
  apply Int32.toInt_inj.mp
  rw [nI_toInt (by omega)]
  omega
theorem nI_ri {n lo hi : Nat} (hn : n < 2 ^ 31) : ri (nI n) lo hi ↔ lo ≤ n ∧ n ≤ hi := by
  unfold ri
  rw [nI_toInt hn]
  omega
theorem i32_le {x : Int32} {n : Nat} (hn : n < 2 ^ 31) : (nI n ≤ x ↔ (n : Int) ≤ x.toInt) ∧ (x < nI n ↔ x.toInt < n) ∧ (nI n < x ↔ (n : Int) < x.toInt) ∧ (x ≤ nI n ↔ x.toInt ≤ n) := by
  rw [Int32.le_iff_toInt_le, Int32.lt_iff_toInt_lt, Int32.lt_iff_toInt_lt, Int32.le_iff_toInt_le, nI_toInt hn]
  exact ⟨Iff.rfl, Iff.rfl, Iff.rfl, Iff.rfl⟩
theorem i64_le {x : Int64} {n : Nat} (hn : n < 2 ^ 63) : (lN n ≤ x ↔ (n : Int) ≤ x.toInt) ∧ (x < lN n ↔ x.toInt < n) ∧ (lN n < x ↔ (n : Int) < x.toInt) ∧ (x ≤ lN n ↔ x.toInt ≤ n) := by
  rw [Int64.le_iff_toInt_le, Int64.lt_iff_toInt_lt, Int64.lt_iff_toInt_lt, Int64.le_iff_toInt_le, pk_lT hn]
  exact ⟨Iff.rfl, Iff.rfl, Iff.rfl, Iff.rfl⟩
theorem i0 : (0 : Int32) = nI 0 := rfl
section SHM
variable {G : ev_G} {w : Nat} {H : ev_H} {D S : Nat} {i j k dd s : Nat} {sa : Nat → Nat} {P : Nat → Nat → Nat} {fu fd : Nat → Nat} {mem : Nat}
noncomputable def rb (x : Int32) (lo hi : Int) : Nat := @ite _ (ri x lo hi) (Classical.propDecidable _) 1 0
theorem rb_1 {x : Int32} {lo hi : Int} (h : ri x lo hi) : rb x lo hi = 1 := if_pos h
theorem rb_0 {x : Int32} {lo hi : Int} (h : ¬ ri x lo hi) : rb x lo hi = 0 := if_neg h
theorem k_has {x : Int32} (hd : 1 ≤ dd) : ev_Ca G dd w m_X5_has [.int x] H 0 0 (ev_ok (fun r h1 => r = some (.int (nI (rb x 0 7))) ∧ h1 = H)) := by
  obtain ⟨dd, rfl⟩ : ∃ e, dd = e + 1 := ⟨dd - 1, by omega⟩
  refine ⟨by decide +kernel, rfl, ?_⟩
  refine ev_iload_n (pc := 0) dX5_has_0 rfl ?_
  refine ev_if_lt (pc := 1) (tgt := 14) dX5_has_1 (by decide) (fun c1 => ?_) (fun c1 => ?_)
  · rw [i0, (i32_le (by decide)).2.1] at c1
    refine ev_iconst (pc := 14) (v := nI 0) dX5_has_14 (by decide) ?_
    exact ev_iret (pc := 15) dX5_has_15 rfl rfl ⟨by rw [rb_0 (fun e => by have := e.1; omega)], rfl⟩
  · rw [i0, (i32_le (by decide)).2.1] at c1
    refine ev_iload_n (pc := 4) dX5_has_4 rfl ?_
    refine ev_bipush (pc := 5) (v := nI 8) dX5_has_5 (by decide) ?_
    refine ev_icmp_ge (pc := 7) (tgt := 14) dX5_has_7 (by decide) (fun c2 => ?_) (fun c2 => ?_)
    · rw [(i32_le (by decide)).1] at c2
      refine ev_iconst (pc := 14) (v := nI 0) dX5_has_14 (by decide) ?_
      exact ev_iret (pc := 15) dX5_has_15 rfl rfl ⟨by rw [rb_0 (fun e => by have := e.2; omega)], rfl⟩
    · rw [(i32_le (by decide)).1] at c2
      refine ev_iconst (pc := 10) (v := nI 1) dX5_has_10 (by decide) ?_
      refine ev_goto (pc := 11) (tgt := 15) dX5_has_11 (by decide) ?_
      exact ev_iret (pc := 15) dX5_has_15 rfl rfl ⟨by rw [rb_1 ⟨by omega, by omega⟩], rfl⟩
theorem k_isRatio {x y : Int32} (hd : 1 ≤ dd) : ev_Ca G dd w m_X5_isRatio [.int x, .int y] H 0 0 (ev_ok (fun r h1 => r = some (.int (nI (rb x 1 1000 * rb y 1 1000))) ∧ h1 = H)) := by
  obtain ⟨dd, rfl⟩ : ∃ e, dd = e + 1 := ⟨dd - 1, by omega⟩
  refine ⟨by decide +kernel, rfl, ?_⟩
  refine ev_iload_n (pc := 0) dX5_isRatio_0 rfl ?_
  refine ev_iconst (pc := 1) (v := nI 1) dX5_isRatio_1 (by decide) ?_
  refine ev_icmp_lt (pc := 2) (tgt := 28) dX5_isRatio_2 (by decide) (fun c1 => ?_) (fun c1 => ?_)
  · rw [(i32_le (by decide)).2.1] at c1
    refine ev_iconst (pc := 28) (v := nI 0) dX5_isRatio_28 (by decide) ?_
    exact ev_iret (pc := 29) dX5_isRatio_29 rfl rfl ⟨by rw [rb_0 (x := x) (fun e => by have := e.1; omega), Nat.zero_mul], rfl⟩
  · rw [(i32_le (by decide)).2.1] at c1
    refine ev_iload_n (pc := 5) dX5_isRatio_5 rfl ?_
    refine ev_sipush (pc := 6) (v := nI 1000) dX5_isRatio_6 (by decide) ?_
    refine ev_icmp_gt (pc := 9) (tgt := 28) dX5_isRatio_9 (by decide) (fun c2 => ?_) (fun c2 => ?_)
    · rw [(i32_le (by decide)).2.2.1] at c2
      refine ev_iconst (pc := 28) (v := nI 0) dX5_isRatio_28 (by decide) ?_
      exact ev_iret (pc := 29) dX5_isRatio_29 rfl rfl ⟨by rw [rb_0 (x := x) (fun e => by have := e.2; omega), Nat.zero_mul], rfl⟩
    · rw [(i32_le (by decide)).2.2.1] at c2
      refine ev_iload_n (pc := 12) dX5_isRatio_12 rfl ?_
      refine ev_iconst (pc := 13) (v := nI 1) dX5_isRatio_13 (by decide) ?_
      refine ev_icmp_lt (pc := 14) (tgt := 28) dX5_isRatio_14 (by decide) (fun c3 => ?_) (fun c3 => ?_)
      · rw [(i32_le (by decide)).2.1] at c3
        refine ev_iconst (pc := 28) (v := nI 0) dX5_isRatio_28 (by decide) ?_
        exact ev_iret (pc := 29) dX5_isRatio_29 rfl rfl ⟨by rw [rb_0 (x := y) (fun e => by have := e.1; omega), Nat.mul_zero], rfl⟩
      · rw [(i32_le (by decide)).2.1] at c3
        refine ev_iload_n (pc := 17) dX5_isRatio_17 rfl ?_
        refine ev_sipush (pc := 18) (v := nI 1000) dX5_isRatio_18 (by decide) ?_
        refine ev_icmp_gt (pc := 21) (tgt := 28) dX5_isRatio_21 (by decide) (fun c4 => ?_) (fun c4 => ?_)
        · rw [(i32_le (by decide)).2.2.1] at c4
          refine ev_iconst (pc := 28) (v := nI 0) dX5_isRatio_28 (by decide) ?_
          exact ev_iret (pc := 29) dX5_isRatio_29 rfl rfl ⟨by rw [rb_0 (x := y) (fun e => by have := e.2; omega), Nat.mul_zero], rfl⟩
        · rw [(i32_le (by decide)).2.2.1] at c4
          refine ev_iconst (pc := 24) (v := nI 1) dX5_isRatio_24 (by decide) ?_
          refine ev_goto (pc := 25) (tgt := 29) dX5_isRatio_25 (by decide) ?_
          exact ev_iret (pc := 29) dX5_isRatio_29 rfl rfl ⟨by rw [rb_1 (x := x) ⟨by omega, by omega⟩, rb_1 (x := y) ⟨by omega, by omega⟩], rfl⟩
noncomputable def fb (k : Nat) (v : Int64) : Nat := @ite _ (1 ≤ v.toInt ∧ v.toInt ≤ mo k) (Classical.propDecidable _) 1 0
theorem fb_1 {k : Nat} {v : Int64} (h : 1 ≤ v.toInt ∧ v.toInt ≤ mo k) : fb k v = 1 := if_pos h
theorem fb_0 {k : Nat} {v : Int64} (h : ¬ (1 ≤ v.toInt ∧ v.toInt ≤ mo k)) : fb k v = 0 := if_neg h
theorem fb_2 (k : Nat) (v : Int64) : (fb k v = 1 ∧ (1 ≤ v.toInt ∧ v.toInt ≤ mo k)) ∨ (fb k v = 0 ∧ ¬ (1 ≤ v.toInt ∧ v.toInt ≤ mo k)) := by
  by_cases h : 1 ≤ v.toInt ∧ v.toInt ≤ mo k
  · exact Or.inl ⟨fb_1 h, h⟩
  · exact Or.inr ⟨fb_0 h, h⟩
theorem rb_2 (x : Int32) (lo hi : Int) : (rb x lo hi = 1 ∧ ri x lo hi) ∨ (rb x lo hi = 0 ∧ ¬ ri x lo hi) := by
  by_cases h : ri x lo hi
  · exact Or.inl ⟨rb_1 h, h⟩
  · exact Or.inr ⟨rb_0 h, h⟩
theorem mo_b (k : Nat) : mo k ≤ 9999999 := by unfold mo; split <;> omega
theorem k_fits {v : Int64} (hd : 1 ≤ dd) (hG : G_ok G) (hk : k < 3) : ev_Ca G dd w m_X5_fits [.int (nI k), .long v] H 0 0 (ev_ok (fun r h1 => r = some (.int (nI (fb k v))) ∧ h1 = H)) := by
  obtain ⟨dd, rfl⟩ : ∃ e, dd = e + 1 := ⟨dd - 1, by omega⟩
  refine ⟨by decide +kernel, rfl, ?_⟩
  obtain ⟨t, f, g1, g2, g3⟩ := hG
  have hm := mo_b k
  refine ev_lload_n (pc := 0) dX5_fits_0 rfl ?_
  refine ev_lconst (pc := 1) (v := lN 1) dX5_fits_1 (by decide) ?_
  refine ev_lcmp (pc := 2) dX5_fits_2 ?_
  refine ev_if_lt (pc := 3) (tgt := 21) dX5_fits_3 (by decide) (fun c1 => ?_) (fun c1 => ?_)
  · rw [(lc_i _ _).2.2.1, (i64_le (by decide)).2.1] at c1
    refine ev_iconst (pc := 21) (v := nI 0) dX5_fits_21 (by decide) ?_
    exact ev_iret (pc := 22) dX5_fits_22 rfl rfl ⟨by rw [fb_0 (fun e => by have := e.1; omega)], rfl⟩
  · rw [(lc_i _ _).2.2.1, (i64_le (by decide)).2.1] at c1
    refine ev_lload_n (pc := 6) dX5_fits_6 rfl ?_
    refine ev_gets (pc := 7) dX5_fits_7 s_X5_34 g1 ?_
    refine ev_iload_n (pc := 10) dX5_fits_10 rfl ?_
    refine ev_riald (pc := 11) dX5_fits_11 g2 (vp_in_nI hk (by decide)) (ev_ti (y := nI (mo k)) (by rw [nI_clamp (by omega)]; exact g3 k hk) ?_)
    refine ev_i2lN (pc := 12) dX5_fits_12 (by omega) ?_
    refine ev_lcmp (pc := 13) dX5_fits_13 ?_
    refine ev_if_gt (pc := 14) (tgt := 21) dX5_fits_14 (by decide) (fun c2 => ?_) (fun c2 => ?_)
    · rw [(lc_i _ _).1, (i64_le (by omega)).2.2.1] at c2
      refine ev_iconst (pc := 21) (v := nI 0) dX5_fits_21 (by decide) ?_
      exact ev_iret (pc := 22) dX5_fits_22 rfl rfl ⟨by rw [fb_0 (fun e => by have := e.2; omega)], rfl⟩
    · rw [(lc_i _ _).1, (i64_le (by omega)).2.2.1] at c2
      refine ev_iconst (pc := 17) (v := nI 1) dX5_fits_17 (by decide) ?_
      refine ev_goto (pc := 18) (tgt := 22) dX5_fits_18 (by decide) ?_
      exact ev_iret (pc := 22) dX5_fits_22 rfl rfl ⟨by rw [fb_1 ⟨by omega, by omega⟩], rfl⟩
end SHM
