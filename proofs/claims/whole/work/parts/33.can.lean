/-! Desk: commonDivisor, cancel; Fraction -/
def eu_q (k x y : Nat) : Prop := (y ≤ x ∧ x * y < 2 ^ k) ∨ (x < y ∧ 1 ≤ k ∧ x * y < 2 ^ (k - 1))
theorem eu_step {k x y : Nat} (h : eu_q (k + 1) x y) (hy : 0 < y) : eu_q k y (x % y) := by
  rcases h with ⟨h1, h2⟩ | ⟨h1, -, h2⟩
  · refine Or.inl ⟨Nat.le_of_lt (Nat.mod_lt _ hy), ?_⟩
    have h3 := Nat.div_add_mod x y
    have h4 : 1 ≤ x / y := Nat.div_pos h1 hy
    have h5 : y * 1 ≤ y * (x / y) := Nat.mul_le_mul_left y h4
    have h6 := Nat.mod_lt x hy
    have h7 : 2 * (x % y) ≤ x := by omega
    have h8 : y * (2 * (x % y)) ≤ y * x := Nat.mul_le_mul_left y h7
    have h9 : y * (2 * (x % y)) = 2 * (y * (x % y)) := by rw [← Nat.mul_assoc, Nat.mul_comm y 2, Nat.mul_assoc]
    have h10 : y * x = x * y := Nat.mul_comm ..
    have h11 : 2 ^ (k + 1) = 2 ^ k * 2 := Nat.pow_succ ..
    omega
  · rw [Nat.mod_eq_of_lt h1]
    refine Or.inl ⟨Nat.le_of_lt h1, ?_⟩
    rw [Nat.mul_comm]
    exact h2
theorem eu_zero {x y : Nat} (h : eu_q 0 x y) : y = 0 := by
  rcases h with ⟨h1, h2⟩ | ⟨-, h2, -⟩
  · rcases Nat.eq_zero_or_pos y with e | e
    · exact e
    · have : 1 * 1 ≤ x * y := Nat.mul_le_mul (by omega) e
      omega
  · omega
theorem eu_start {x y n : Nat} (hx : x < 2 ^ n) (hy : y < 2 ^ n) : eu_q (2 * n + 1) x y := by
  have h1 : x * y < 2 ^ (2 * n) := by
    have h2 : x * y ≤ 2 ^ n * y := Nat.mul_le_mul_right y (Nat.le_of_lt hx)
    have h3 : 2 ^ n * y < 2 ^ n * 2 ^ n := Nat.mul_lt_mul_of_pos_left hy (Nat.pow_pos (by decide))
    rw [show 2 * n = n + n by omega, Nat.pow_add]
    omega
  rcases Nat.lt_or_ge x y with h2 | h2
  · exact Or.inr ⟨h2, by omega, h1⟩
  · refine Or.inl ⟨h2, Nat.lt_of_lt_of_le h1 (Nat.pow_le_pow_right (by decide) (by omega))⟩
theorem gcd_step (x y : Nat) : Nat.gcd y (x % y) = Nat.gcd x y := by
  rw [Nat.gcd_comm y, ← Nat.gcd_rec, Nat.gcd_comm]
section CAN
variable {G : ev_G} {w : Nat} {H : ev_H} {D : Nat} {lay : Nat → Nat × Nat} {val : Nat → Nat} {i j k dd : Nat}
theorem l_gcd {C : ev_L} {K : ev_K} {c z : Nat} : ∀ (k x y step : Nat), x < 2 ^ 63 → y < 2 ^ 63 → step + k ≤ 10000 → eu_q k x y → K (.inl (some (.long (lN (Nat.gcd x y))))) H → ev_J G C w m_X1_commonDivisor K (9, ev_lf [(4, .long (lN x)), (6, .long (lN y)), (8, .int (nI step))], [], H, c, z)
  | 0, x, y, step, hx, hy, hs, hq, hK => by
    have y0 := eu_zero hq
    subst y0
    rw [Nat.gcd_zero_right] at hK
    refine ev_iload (pc := 9) dX1_commonDivisor_9 rfl ?_
    refine ev_sipush (pc := 11) (v := nI 10000) dX1_commonDivisor_11 (by decide) ?_
    refine ev_icmp_geN (pc := 14) (tgt := 45) dX1_commonDivisor_14 (by decide) (by omega) (by omega) (fun c1 => ?_) (fun c1 => ?_)
    · refine ev_lload (pc := 45) dX1_commonDivisor_45 rfl ?_
      exact ev_lret (pc := 47) dX1_commonDivisor_47 rfl hK
    · refine ev_lload (pc := 17) dX1_commonDivisor_17 rfl ?_
      refine ev_lconst (pc := 19) (v := lN 0) dX1_commonDivisor_19 (by decide) ?_
      refine ev_lc_eq (pc := 20) (tgt := 45) dX1_commonDivisor_20 dX1_commonDivisor_21 (by decide) (by omega) (by omega) (fun c2 => ?_) (fun c2 => ?_)
      · refine ev_lload (pc := 45) dX1_commonDivisor_45 rfl ?_
        exact ev_lret (pc := 47) dX1_commonDivisor_47 rfl hK
      · exact absurd rfl c2
  | k + 1, x, y, step, hx, hy, hs, hq, hK => by
    refine ev_iload (pc := 9) dX1_commonDivisor_9 rfl ?_
    refine ev_sipush (pc := 11) (v := nI 10000) dX1_commonDivisor_11 (by decide) ?_
    refine ev_icmp_geN (pc := 14) (tgt := 45) dX1_commonDivisor_14 (by decide) (by omega) (by omega) (fun c1 => ?_) (fun c1 => ?_)
    · omega
    · refine ev_lload (pc := 17) dX1_commonDivisor_17 rfl ?_
      refine ev_lconst (pc := 19) (v := lN 0) dX1_commonDivisor_19 (by decide) ?_
      refine ev_lc_eq (pc := 20) (tgt := 45) dX1_commonDivisor_20 dX1_commonDivisor_21 (by decide) (by omega) (by omega) (fun c2 => ?_) (fun c2 => ?_)
      · subst c2
        rw [Nat.gcd_zero_right] at hK
        refine ev_lload (pc := 45) dX1_commonDivisor_45 rfl ?_
        exact ev_lret (pc := 47) dX1_commonDivisor_47 rfl hK
      · have y0 : 0 < y := Nat.pos_of_ne_zero c2
        have hm := Nat.mod_lt x y0
        refine ev_lload (pc := 24) dX1_commonDivisor_24 rfl ?_
        refine ev_lload (pc := 26) dX1_commonDivisor_26 rfl ?_
        refine ev_lremN (pc := 28) dX1_commonDivisor_28 (by omega) (by omega) (by omega) ?_
        refine ev_lstore (pc := 29) dX1_commonDivisor_29 rfl ?_
        refine ev_lload (pc := 31) dX1_commonDivisor_31 rfl ?_
        refine ev_lstore (pc := 33) dX1_commonDivisor_33 rfl ?_
        refine ev_lload (pc := 35) dX1_commonDivisor_35 rfl ?_
        refine ev_lstore (pc := 37) dX1_commonDivisor_37 rfl ?_
        refine ev_iincN (pc := 39) dX1_commonDivisor_39 rfl rfl ?_
        refine ev_goto (pc := 42) (tgt := 9) dX1_commonDivisor_42 (by decide) ?_
        refine ev_vs [(4, .long (lN y)), (6, .long (lN (x % y))), (8, .int (nI (step + 1)))] ⟨rfl, rfl, rfl, trivial⟩ ?_
        refine l_gcd k y (x % y) (step + 1) hy (by omega) (by omega) (eu_step hq y0) ?_
        rw [gcd_step]
        exact hK
theorem k_commonDivisor {a b : Nat} (hd : 1 ≤ dd) (ha : a < 2 ^ 63) (hb : b < 2 ^ 63) : ev_Ca G dd w m_X1_commonDivisor [.long (lN a), .long (lN b)] H 0 0 (ev_ok (fun r h1 => r = some (.long (lN (Nat.gcd a b))) ∧ h1 = H)) := by
  obtain ⟨dd, rfl⟩ : ∃ e, dd = e + 1 := ⟨dd - 1, by omega⟩
  refine ⟨by decide +kernel, rfl, ?_⟩
  refine ev_lload_n (pc := 0) dX1_commonDivisor_0 rfl ?_
  refine ev_lstore (pc := 1) dX1_commonDivisor_1 rfl ?_
  refine ev_lload_n (pc := 3) dX1_commonDivisor_3 rfl ?_
  refine ev_lstore (pc := 4) dX1_commonDivisor_4 rfl ?_
  refine ev_iconst (pc := 6) (v := nI 0) dX1_commonDivisor_6 (by decide) ?_
  refine ev_istore (pc := 7) dX1_commonDivisor_7 rfl ?_
  refine ev_vs [(4, .long (lN a)), (6, .long (lN b)), (8, .int (nI 0))] ⟨rfl, rfl, rfl, trivial⟩ ?_
  exact l_gcd (2 * 63 + 1) a b 0 ha hb (by omega) (eu_start ha hb) ⟨rfl, rfl⟩
def cn_ok (ci ri : Nat) : Prop := (ci = 7 ∧ ri = 8) ∨ (ci = 8 ∧ ri = 7)
theorem l_cancel {K : ev_K} {c z g p1 p2 : Nat} {H0 : ev_H} {val0 : Nat → Nat} (hd : 3 ≤ dd) (hw : 79 ≤ w)
    (hK : ∀ h1 v2 ci ri, cn_ok ci ri → DW h1 D lay v2 → Nat.gcd (v2 ci) (v2 ri) = g → v2 ri < 2 ^ 60 → v2 ci < 1073741824 ^ 70 → (∀ x, x ≠ 0 → x ≠ 6 → x ≠ 7 → x ≠ 8 → v2 x = val0 x) → WF lay H0 h1 → ev_J G (ev_cc G dd w) w m_X1_cancel K (64, ev_lf [(0, .ref D), (1, .ref p1), (2, .ref p2), (3, .ref (lay ci).1), (4, .ref (lay ri).1)], [], h1, c, z)) :
    ∀ (k step ci ri : Nat) (h : ev_H) (val : Nat → Nat), cn_ok ci ri → DW h D lay val → Nat.gcd (val ci) (val ri) = g → val ci < 1073741824 ^ 70 → val ri < 1073741824 ^ 70 → step + k ≤ 10000 → eu_q k (val ci) (val ri) → (∀ x, x ≠ 0 → x ≠ 6 → x ≠ 7 → x ≠ 8 → val x = val0 x) → WF lay H0 h → ev_J G (ev_cc G dd w) w m_X1_cancel K (25, ev_lf [(0, .ref D), (1, .ref p1), (2, .ref p2), (3, .ref (lay ci).1), (4, .ref (lay ri).1), (5, .int (nI step))], [], h, c, z)
  | 0, step, ci, ri, h, val, hc, hW, hg, hx, hy, hs, hq, he, hF => by
    have y0 := eu_zero hq
    have hri : ri < 20 := by rcases hc with e | e <;> omega
    have fin : ev_J G (ev_cc G dd w) w m_X1_cancel K (64, ev_lf [(0, .ref D), (1, .ref p1), (2, .ref p2), (3, .ref (lay ci).1), (4, .ref (lay ri).1)], [], h, c, z) := hK h val ci ri hc hW hg (by rw [y0]; decide) hx he hF
    refine ev_iload (pc := 25) dX1_cancel_25 rfl ?_
    refine ev_sipush (pc := 27) (v := nI 10000) dX1_cancel_27 (by decide) ?_
    refine ev_icmp_geN (pc := 30) (tgt := 64) dX1_cancel_30 (by decide) (by omega) (by omega) (fun c1 => ?_) (fun c1 => ?_)
    · refine ev_vs [(0, .ref D), (1, .ref p1), (2, .ref p2), (3, .ref (lay ci).1), (4, .ref (lay ri).1)] ⟨rfl, rfl, rfl, rfl, rfl, trivial⟩ ?_
      exact fin
    · refine ev_aload (pc := 33) dX1_cancel_33 rfl ?_
      refine ev_callVe (pc := 35) (As := []) dX1_cancel_35 cv_X1_98 rfl rfl (wi_o (hW.2.1 ri hri)) rfl ⟨by show 19 + 1 ≤ w; omega, show ev_Ca _ _ (w - 20) _ _ _ _ _ _ from t_isShort (by omega) hW hri⟩ rfl rfl (fun r h1 hp => ?_)
      obtain ⟨rfl, rfl⟩ := hp
      rw [if_pos (by rw [y0]; decide)]
      refine ev_if_neN (pc := 38) (tgt := 64) dX1_cancel_38 (by decide) (by decide) (fun _ => ?_) (fun c2 => absurd c2 (by decide))
      refine ev_vs [(0, .ref D), (1, .ref p1), (2, .ref p2), (3, .ref (lay ci).1), (4, .ref (lay ri).1)] ⟨rfl, rfl, rfl, rfl, rfl, trivial⟩ ?_
      exact fin
  | k + 1, step, ci, ri, h, val, hc, hW, hg, hx, hy, hs, hq, he, hF => by
    have hci : ci < 20 ∧ ci ≠ 0 ∧ ci ≠ 6 := by rcases hc with e | e <;> omega
    have hri : ri < 20 ∧ ri ≠ 0 ∧ ri ≠ 6 := by rcases hc with e | e <;> omega
    have hcr : ci ≠ ri := by rcases hc with e | e <;> omega
    refine ev_iload (pc := 25) dX1_cancel_25 rfl ?_
    refine ev_sipush (pc := 27) (v := nI 10000) dX1_cancel_27 (by decide) ?_
    refine ev_icmp_geN (pc := 30) (tgt := 64) dX1_cancel_30 (by decide) (by omega) (by omega) (fun c1 => ?_) (fun c1 => ?_)
    · omega
    · refine ev_aload (pc := 33) dX1_cancel_33 rfl ?_
      refine ev_callVe (pc := 35) (As := []) dX1_cancel_35 cv_X1_98 rfl rfl (wi_o (hW.2.1 ri hri.1)) rfl ⟨by show 19 + 1 ≤ w; omega, show ev_Ca _ _ (w - 20) _ _ _ _ _ _ from t_isShort (by omega) hW hri.1⟩ rfl rfl (fun r h1 hp => ?_)
      obtain ⟨rfl, rfl⟩ := hp
      by_cases sh : val ri < 2 ^ 60
      · rw [if_pos sh]
        refine ev_if_neN (pc := 38) (tgt := 64) dX1_cancel_38 (by decide) (by decide) (fun _ => ?_) (fun c2 => absurd c2 (by decide))
        refine ev_vs [(0, .ref D), (1, .ref p1), (2, .ref p2), (3, .ref (lay ci).1), (4, .ref (lay ri).1)] ⟨rfl, rfl, rfl, rfl, rfl, trivial⟩ ?_
        exact hK _ val ci ri hc hW hg sh hx he hF
      · rw [if_neg sh]
        refine ev_if_neN (pc := 38) (tgt := 64) dX1_cancel_38 (by decide) (by decide) (fun c2 => absurd c2 (by decide)) (fun _ => ?_)
        refine ev_aload_n (pc := 41) dX1_cancel_41 rfl ?_
        refine ev_aload_n (pc := 42) dX1_cancel_42 rfl ?_
        refine ev_aload (pc := 43) dX1_cancel_43 rfl ?_
        refine ev_callV (pc := 45) (As := [.ref (lay ci).1, .ref (lay ri).1]) dX1_cancel_45 cv_X1_101 rfl rfl hW.2.2 rfl ⟨by show 19 + 7 ≤ w; omega, show ev_Ca _ _ (w - 26) _ _ _ _ _ _ from k_divide (by omega) (by omega) hW hci.1 hri.1 hcr hci.2.1 hri.2.1 hci.2.2 hri.2.2 hx⟩ rfl rfl (fun r h1 hp => ?_)
        obtain ⟨rfl, v2, hB, ⟨q1, q2, q3⟩, hF2⟩ := hp
        have er : v2 ri = val ri := q3 ri (Ne.symm hcr) hri.2.1 hri.2.2
        refine ev_aload_n (pc := 48) dX1_cancel_48 rfl ?_
        refine ev_astore (pc := 49) dX1_cancel_49 rfl ?_
        refine ev_aload (pc := 51) dX1_cancel_51 rfl ?_
        refine ev_astore_n (pc := 53) dX1_cancel_53 rfl ?_
        refine ev_aload (pc := 54) dX1_cancel_54 rfl ?_
        refine ev_astore (pc := 56) dX1_cancel_56 rfl ?_
        refine ev_iincN (pc := 58) dX1_cancel_58 rfl rfl ?_
        refine ev_goto (pc := 61) (tgt := 25) dX1_cancel_61 (by decide) ?_
        refine ev_vs [(0, .ref D), (1, .ref p1), (2, .ref p2), (3, .ref (lay ri).1), (4, .ref (lay ci).1), (5, .int (nI (step + 1)))] ⟨rfl, rfl, rfl, rfl, rfl, rfl, trivial⟩ ?_
        have y0 : 0 < val ri := by omega
        have hm := Nat.mod_lt (val ci) y0
        refine l_cancel hd hw hK k (step + 1) ri ci _ v2 ?_ hB ?_ ?_ ?_ (by omega) ?_ (fun x a b e f => ?_) (hF.tr hF2)
        · rcases hc with e | e
          · exact Or.inr ⟨e.2, e.1⟩
          · exact Or.inl ⟨e.2, e.1⟩
        · rw [er, q2, gcd_step]; exact hg
        · rw [er]; exact hy
        · rw [q2]; omega
        · rw [er, q2]; exact eu_step hq y0
        · rw [q3 x (by rcases hc with e2 | e2 <;> omega) a b]; exact he x a b e f
/-- the two numbers are divided by what they have in common -/
theorem k_cancel (hd : 4 ≤ dd) (hw : 79 ≤ w) (h : DW H D lay val) (hi : i < 20) (hj : j < 20) (hij : i ≠ j) (hi9 : 9 ≤ i) (hj9 : 9 ≤ j) (hs : val i < 1073741824 ^ 70) (hs2 : val j < 1073741824 ^ 70) : ev_Ca G dd w m_X1_cancel [.ref D, .ref (lay i).1, .ref (lay j).1] H 0 0 (ev_ok (fun r h1 => r = none ∧ dpost H D lay val (fun v2 => v2 i = val i / Nat.gcd (val i) (val j) ∧ v2 j = val j / Nat.gcd (val i) (val j) ∧ ∀ x, 9 ≤ x → x ≠ i → x ≠ j → v2 x = val x) h1)) := by
  obtain ⟨dd, rfl⟩ : ∃ e, dd = e + 1 := ⟨dd - 1, by omega⟩
  refine ⟨by decide +kernel, rfl, ?_⟩
  refine ev_aload_n (pc := 0) dX1_cancel_0 rfl ?_
  refine ev_getf (pc := 1) dX1_cancel_1 f_X1_34 h.2.2 rfl ?_
  refine ev_astore_n (pc := 4) dX1_cancel_4 rfl ?_
  refine ev_aload_n (pc := 5) dX1_cancel_5 rfl ?_
  refine ev_getf (pc := 6) dX1_cancel_6 f_X1_37 h.2.2 rfl ?_
  refine ev_astore (pc := 9) dX1_cancel_9 rfl ?_
  refine ev_aload_n (pc := 11) dX1_cancel_11 rfl ?_
  refine ev_aload_n (pc := 12) dX1_cancel_12 rfl ?_
  refine ev_callVe (pc := 13) (As := [.ref (lay i).1]) dX1_cancel_13 cv_X1_44 rfl rfl (wi_o (h.2.1 7 (by decide))) rfl ⟨by show 19 + 2 ≤ w; omega, show ev_Ca _ _ (w - 21) _ _ _ _ _ _ from t_copy (i := 7) (by omega) (by omega) h (by decide) hi (by omega)⟩ rfl rfl (fun r h1 hp => ?_)
  obtain ⟨rfl, hA, hF⟩ := hp
  refine ev_aload (pc := 16) dX1_cancel_16 rfl ?_
  refine ev_aload_n (pc := 18) dX1_cancel_18 rfl ?_
  refine ev_callVe (pc := 19) (As := [.ref (lay j).1]) dX1_cancel_19 cv_X1_44 rfl rfl (wi_o (hA.2.1 8 (by decide))) rfl ⟨by show 19 + 2 ≤ w; omega, show ev_Ca _ _ (w - 21) _ _ _ _ _ _ from t_copy (i := 8) (by omega) (by omega) hA (by decide) hj (by omega)⟩ rfl rfl (fun r h1 hp => ?_)
  obtain ⟨rfl, hB, hF2⟩ := hp
  rw [va_up_ne _ _ (show j ≠ 7 by omega)] at hB
  obtain ⟨vB, hvB⟩ : ∃ v, v = va_up (va_up val 7 (val i)) 8 (val j) := ⟨_, rfl⟩
  rw [← hvB] at hB
  have e7 : vB 7 = val i := by rw [hvB, va_up_ne _ _ (by decide), va_up_self]
  have e8 : vB 8 = val j := by rw [hvB, va_up_self]
  have ex : ∀ x, x ≠ 0 → x ≠ 6 → x ≠ 7 → x ≠ 8 → vB x = val x := fun x _ _ a b => by rw [hvB, va_up_ne _ _ b, va_up_ne _ _ a]
  refine ev_iconst (pc := 22) (v := nI 0) dX1_cancel_22 (by decide) ?_
  refine ev_istore (pc := 23) dX1_cancel_23 rfl ?_
  refine ev_vs [(0, .ref D), (1, .ref (lay i).1), (2, .ref (lay j).1), (3, .ref (lay 7).1), (4, .ref (lay 8).1), (5, .int (nI 0))] ⟨rfl, rfl, rfl, rfl, rfl, rfl, trivial⟩ ?_
  obtain ⟨g, hg⟩ : ∃ g, g = Nat.gcd (val i) (val j) := ⟨_, rfl⟩
  have h70 : (1073741824 : Nat) ^ 70 = 2 ^ 2100 := by rw [show (1073741824 : Nat) = 2 ^ 30 by decide, ← Nat.pow_mul]
  refine l_cancel (g := g) (H0 := H) (val0 := val) (by omega) hw (fun h1 v2 ci ri hc hW hgc hsh hx he hF3 => ?_) (2 * 2100 + 1) 0 7 8 _ vB (Or.inl ⟨rfl, rfl⟩) hB (by rw [e7, e8, hg]) (by rw [e7]; exact hs) (by rw [e8]; exact hs2) (by omega) (by rw [e7, e8]; exact eu_start (by rw [← h70]; exact hs) (by rw [← h70]; exact hs2)) ex (hF.tr hF2)
  have hci : ci < 20 ∧ ci ≠ 0 ∧ ci ≠ 6 ∧ ci < 9 := by rcases hc with e | e <;> omega
  have hri : ri < 20 ∧ ri ≠ 0 ∧ ri ≠ 6 := by rcases hc with e | e <;> omega
  have hcr : ci ≠ ri := by rcases hc with e | e <;> omega
  have ei : v2 i = val i := he i (by omega) (by omega) (by omega) (by omega)
  have ej : v2 j = val j := he j (by omega) (by omega) (by omega) (by omega)
  -- with the common divisor in ci
  have fin : ∀ h3 v3, DW h3 D lay v3 → v3 ci = g → (∀ x, x ≠ 0 → x ≠ 6 → x ≠ 7 → x ≠ 8 → v3 x = val x) → WF lay H h3 → ev_J G (ev_cc G dd w) w m_X1_cancel (ev_ok (fun r h1 => r = none ∧ dpost H D lay val (fun v2 => v2 i = val i / Nat.gcd (val i) (val j) ∧ v2 j = val j / Nat.gcd (val i) (val j) ∧ ∀ x, 9 ≤ x → x ≠ i → x ≠ j → v2 x = val x) h1)) (95, ev_lf [(0, .ref D), (1, .ref (lay i).1), (2, .ref (lay j).1), (3, .ref (lay ci).1)], [], h3, 0, 0) := by
    intro h3 v3 hW3 hv3 he3 hF5
    have fi : v3 i = val i := he3 i (by omega) (by omega) (by omega) (by omega)
    have fj : v3 j = val j := he3 j (by omega) (by omega) (by omega) (by omega)
    refine ev_aload_n (pc := 95) dX1_cancel_95 rfl ?_
    refine ev_callVe (pc := 96) (As := []) dX1_cancel_96 cv_X1_52 rfl rfl (wi_o (hW3.2.1 ci hci.1)) rfl ⟨by show 19 + 1 ≤ w; omega, show ev_Ca _ _ (w - 20) _ _ _ _ _ _ from t_isZero (by omega) hW3 hci.1⟩ rfl rfl (fun r h1 hp => ?_)
    obtain ⟨rfl, rfl⟩ := hp
    rw [hv3]
    by_cases g0 : g = 0
    · rw [if_pos g0]
      have i0 : val i = 0 := Nat.eq_zero_of_gcd_eq_zero_left (hg ▸ g0)
      have j0 : val j = 0 := Nat.eq_zero_of_gcd_eq_zero_right (hg ▸ g0)
      refine ev_if_neN (pc := 99) (tgt := 109) dX1_cancel_99 (by decide) (by decide) (fun _ => ?_) (fun c2 => absurd c2 (by decide))
      refine ev_vret (pc := 109) dX1_cancel_109 rfl ⟨rfl, v3, hW3, ⟨?_, ?_, fun x a _ _ => he3 x (by omega) (by omega) (by omega) (by omega)⟩, hF5⟩
      · rw [fi, i0, Nat.zero_div]
      · rw [fj, j0, Nat.zero_div]
    · rw [if_neg g0]
      refine ev_if_neN (pc := 99) (tgt := 109) dX1_cancel_99 (by decide) (by decide) (fun c2 => absurd c2 (by decide)) (fun _ => ?_)
      refine ev_aload_n (pc := 102) dX1_cancel_102 rfl ?_
      refine ev_callVe (pc := 103) (As := []) dX1_cancel_103 cv_X1_112 rfl rfl (wi_o (hW3.2.1 ci hci.1)) rfl ⟨by show 19 + 1 ≤ w; omega, show ev_Ca _ _ (w - 20) _ _ _ _ _ _ from t_isOne (by omega) hW3 hci.1⟩ rfl rfl (fun r h1 hp => ?_)
      obtain ⟨rfl, rfl⟩ := hp
      rw [hv3]
      by_cases g1 : g = 1
      · rw [if_pos g1]
        refine ev_if_eqN (pc := 106) (tgt := 110) dX1_cancel_106 (by decide) (by decide) (fun c2 => absurd c2 (by decide)) (fun _ => ?_)
        refine ev_vret (pc := 109) dX1_cancel_109 rfl ⟨rfl, v3, hW3, ⟨?_, ?_, fun x a _ _ => he3 x (by omega) (by omega) (by omega) (by omega)⟩, hF5⟩
        · rw [fi, ← hg, g1, Nat.div_one]
        · rw [fj, ← hg, g1, Nat.div_one]
      · rw [if_neg g1]
        refine ev_if_eqN (pc := 106) (tgt := 110) dX1_cancel_106 (by decide) (by decide) (fun _ => ?_) (fun c2 => absurd c2 (by decide))
        refine ev_aload_n (pc := 110) dX1_cancel_110 rfl ?_
        refine ev_aload_n (pc := 111) dX1_cancel_111 rfl ?_
        refine ev_aload_n (pc := 112) dX1_cancel_112 rfl ?_
        refine ev_callV (pc := 113) (As := [.ref (lay i).1, .ref (lay ci).1]) dX1_cancel_113 cv_X1_101 rfl rfl hW3.2.2 rfl ⟨by show 19 + 7 ≤ w; omega, show ev_Ca _ _ (w - 26) _ _ _ _ _ _ from k_divide (i := i) (j := ci) (by omega) (by omega) hW3 hi hci.1 (by omega) (by omega) hci.2.1 (by omega) hci.2.2.1 (by rw [fi]; exact hs)⟩ rfl rfl (fun r h1 hp => ?_)
        obtain ⟨rfl, v4, hW4, ⟨r1, r2, r3⟩, hF6⟩ := hp
        rw [fi, hv3] at r1 r2
        refine ev_aload_n (pc := 116) dX1_cancel_116 rfl ?_
        refine ev_aload_n (pc := 117) dX1_cancel_117 rfl ?_
        refine ev_getf (pc := 118) dX1_cancel_118 f_X1_10 hW4.2.2 rfl ?_
        refine ev_callVe (pc := 121) (As := [.ref (lay 0).1]) dX1_cancel_121 cv_X1_44 rfl rfl (wi_o (hW4.2.1 i hi)) rfl ⟨by show 19 + 2 ≤ w; omega, show ev_Ca _ _ (w - 21) _ _ _ _ _ _ from t_copy (i := i) (j := 0) (by omega) (by omega) hW4 hi (by decide) (by omega)⟩ rfl rfl (fun r h1 hp => ?_)
        obtain ⟨rfl, hW5, hF7⟩ := hp
        rw [r1] at hW5
        obtain ⟨v5, hv5⟩ : ∃ v, v = va_up v4 i (val i / g) := ⟨_, rfl⟩
        rw [← hv5] at hW5
        have s5 : v5 j = val j := by rw [hv5, va_up_ne _ _ (Ne.symm hij), r3 j (Ne.symm hij) (by omega) (by omega), fj]
        have s6 : v5 ci = g := by rw [hv5, va_up_ne _ _ (by omega), r3 ci (by omega) hci.2.1 hci.2.2.1, hv3]
        refine ev_aload_n (pc := 124) dX1_cancel_124 rfl ?_
        refine ev_aload_n (pc := 125) dX1_cancel_125 rfl ?_
        refine ev_aload_n (pc := 126) dX1_cancel_126 rfl ?_
        refine ev_callV (pc := 127) (As := [.ref (lay j).1, .ref (lay ci).1]) dX1_cancel_127 cv_X1_101 rfl rfl hW5.2.2 rfl ⟨by show 19 + 7 ≤ w; omega, show ev_Ca _ _ (w - 26) _ _ _ _ _ _ from k_divide (i := j) (j := ci) (by omega) (by omega) hW5 hj hci.1 (by omega) (by omega) hci.2.1 (by omega) hci.2.2.1 (by rw [s5]; exact hs2)⟩ rfl rfl (fun r h1 hp => ?_)
        obtain ⟨rfl, v6, hW6, ⟨u1, u2, u3⟩, hF8⟩ := hp
        rw [s5, s6] at u1 u2
        refine ev_aload_n (pc := 130) dX1_cancel_130 rfl ?_
        refine ev_aload_n (pc := 131) dX1_cancel_131 rfl ?_
        refine ev_getf (pc := 132) dX1_cancel_132 f_X1_10 hW6.2.2 rfl ?_
        refine ev_callVe (pc := 135) (As := [.ref (lay 0).1]) dX1_cancel_135 cv_X1_44 rfl rfl (wi_o (hW6.2.1 j hj)) rfl ⟨by show 19 + 2 ≤ w; omega, show ev_Ca _ _ (w - 21) _ _ _ _ _ _ from t_copy (i := j) (j := 0) (by omega) (by omega) hW6 hj (by decide) (by omega)⟩ rfl rfl (fun r h1 hp => ?_)
        obtain ⟨rfl, hW7, hF9⟩ := hp
        rw [u1] at hW7
        refine ev_vret (pc := 138) dX1_cancel_138 rfl ⟨rfl, _, hW7, ⟨?_, ?_, fun x a b e => ?_⟩, (((hF5.tr hF6).tr hF7).tr hF8).tr hF9⟩
        · rw [va_up_ne _ _ hij, u3 i hij (by omega) (by omega), hv5, va_up_self, hg]
        · rw [va_up_self, hg]
        · rw [va_up_ne _ _ e, u3 x e (by omega) (by omega), hv5, va_up_ne _ _ b, r3 x b (by omega) (by omega)]
          exact he3 x (by omega) (by omega) (by omega) (by omega)
  refine ev_aload (pc := 64) dX1_cancel_64 rfl ?_
  refine ev_callVe (pc := 66) (As := []) dX1_cancel_66 cv_X1_52 rfl rfl (wi_o (hW.2.1 ri hri.1)) rfl ⟨by show 19 + 1 ≤ w; omega, show ev_Ca _ _ (w - 20) _ _ _ _ _ _ from t_isZero (by omega) hW hri.1⟩ rfl rfl (fun r h1 hp => ?_)
  obtain ⟨rfl, rfl⟩ := hp
  by_cases r0 : v2 ri = 0
  · rw [if_pos r0]
    refine ev_if_neN (pc := 69) (tgt := 95) dX1_cancel_69 (by decide) (by decide) (fun _ => ?_) (fun c2 => absurd c2 (by decide))
    refine ev_vs [(0, .ref D), (1, .ref (lay i).1), (2, .ref (lay j).1), (3, .ref (lay ci).1)] ⟨rfl, rfl, rfl, rfl, trivial⟩ ?_
    refine fin _ v2 hW ?_ he hF3
    rw [r0, Nat.gcd_zero_right] at hgc
    exact hgc
  · rw [if_neg r0]
    refine ev_if_neN (pc := 69) (tgt := 95) dX1_cancel_69 (by decide) (by decide) (fun c2 => absurd c2 (by decide)) (fun _ => ?_)
    refine ev_aload_n (pc := 72) dX1_cancel_72 rfl ?_
    refine ev_aload_n (pc := 73) dX1_cancel_73 rfl ?_
    refine ev_aload (pc := 74) dX1_cancel_74 rfl ?_
    refine ev_callV (pc := 76) (As := [.ref (lay ci).1, .ref (lay ri).1]) dX1_cancel_76 cv_X1_101 rfl rfl hW.2.2 rfl ⟨by show 19 + 7 ≤ w; omega, show ev_Ca _ _ (w - 26) _ _ _ _ _ _ from k_divide (by omega) (by omega) hW hci.1 hri.1 hcr hci.2.1 hri.2.1 hci.2.2.1 hri.2.2 hx⟩ rfl rfl (fun r h1 hp => ?_)
    obtain ⟨rfl, v3, hW3, ⟨q1, q2, q3⟩, hF4⟩ := hp
    have er : v3 ri = v2 ri := q3 ri (Ne.symm hcr) hri.2.1 hri.2.2
    have hm := Nat.mod_lt (v2 ci) (Nat.pos_of_ne_zero r0)
    refine ev_aload_n (pc := 79) dX1_cancel_79 rfl ?_
    refine ev_aload (pc := 80) dX1_cancel_80 rfl ?_
    refine ev_callVe (pc := 82) (As := []) dX1_cancel_82 cv_X1_104 rfl rfl (wi_o (hW3.2.1 ri hri.1)) rfl ⟨by show 19 + 1 ≤ w; omega, show ev_Ca _ _ (w - 20) _ _ _ _ _ _ from t_asLong (by omega) hW3 hri.1 (by rw [er]; exact hsh)⟩ rfl rfl (fun r h1 hp => ?_)
    obtain ⟨rfl, rfl⟩ := hp
    refine ev_aload_n (pc := 85) dX1_cancel_85 rfl ?_
    refine ev_callVe (pc := 86) (As := []) dX1_cancel_86 cv_X1_104 rfl rfl (wi_o (hW3.2.1 ci hci.1)) rfl ⟨by show 19 + 1 ≤ w; omega, show ev_Ca _ _ (w - 20) _ _ _ _ _ _ from t_asLong (by omega) hW3 hci.1 (by rw [q2]; omega)⟩ rfl rfl (fun r h1 hp => ?_)
    obtain ⟨rfl, rfl⟩ := hp
    refine ev_callS (pc := 89) (As := [.long (lN (v3 ri)), .long (lN (v3 ci))]) dX1_cancel_89 cs_X1_108 rfl rfl ⟨by show 19 + 11 ≤ w; omega, show ev_Ca _ _ (w - 30) _ _ _ _ _ _ from k_commonDivisor (by omega) (by rw [er]; omega) (by rw [q2]; omega)⟩ rfl rfl (fun r h1 hp => ?_)
    obtain ⟨rfl, rfl⟩ := hp
    have eg : Nat.gcd (v3 ri) (v3 ci) = g := by rw [er, q2, gcd_step]; exact hgc
    rw [eg]
    have gl : g < 2 ^ 63 := by
      have : g ≤ v2 ri := by rw [← hgc]; exact Nat.gcd_le_right _ (Nat.pos_of_ne_zero r0)
      omega
    refine ev_callVe (pc := 92) (As := [.long (lN g)]) dX1_cancel_92 cv_X1_48 rfl rfl (wi_o (hW3.2.1 ci hci.1)) rfl ⟨by show 19 + 3 ≤ w; omega, show ev_Ca _ _ (w - 22) _ _ _ _ _ _ from t_become (i := ci) (by omega) (by omega) hW3 hci.1 gl⟩ rfl rfl (fun r h1 hp => ?_)
    obtain ⟨rfl, hW4, hF5⟩ := hp
    refine ev_vs [(0, .ref D), (1, .ref (lay i).1), (2, .ref (lay j).1), (3, .ref (lay ci).1)] ⟨rfl, rfl, rfl, rfl, trivial⟩ ?_
    refine fin _ _ hW4 (va_up_self ..) (fun x a b e f => ?_) ((hF3.tr hF4).tr hF5)
    rw [va_up_ne _ _ (by rcases hc with e2 | e2 <;> omega), q3 x (by rcases hc with e2 | e2 <;> omega) a b]
    exact he x a b e f
end CAN
