/-! Text: writeWhole, write -/
def TWF (lay : Nat → Nat × Nat) (T tc : Nat) (H h1 : ev_H) : Prop := ∀ a, a ≠ T → a ≠ tc → (∀ k, k < 20 → a ≠ (lay k).1 ∧ a ≠ (lay k).2) → h1 a = H a
theorem TWF.tr {lay : Nat → Nat × Nat} {T tc : Nat} {H h1 h2 : ev_H} (a : TWF lay T tc H h1) (b : TWF lay T tc h1 h2) : TWF lay T tc H h2 := fun x hx hy hz => (b x hx hy hz).trans (a x hx hy hz)
theorem TWF.rf {lay : Nat → Nat × Nat} {T tc : Nat} {H : ev_H} : TWF lay T tc H H := fun _ _ _ _ => rfl
theorem WF.tw {lay : Nat → Nat × Nat} {T tc : Nat} {H h1 : ev_H} (a : WF lay H h1) : TWF lay T tc H h1 := fun x _ _ hz => a x hz
theorem TF.tw {lay : Nat → Nat × Nat} {T tc : Nat} {H h1 : ev_H} (a : TF T tc H h1) : TWF lay T tc H h1 := fun x hx hy _ => a x hx hy
section TXW
variable {G : ev_G} {w : Nat} {H : ev_H} {D T tc rq : Nat} {i j k dd len : Nat} {f : Nat → Nat} {lay : Nat → Nat × Nat} {val : Nat → Nat}
theorem tx_wf {h1 : ev_H} (hS : WS H lay val) (hF : WF lay H h1) (h : TX H T tc rq f len) : TX h1 T tc rq f len := by
  obtain ⟨a1, a2, a3⟩ := h
  exact ⟨(hF T (ws_out hS a1 (fun fs e => by cases e) (fun f e => by cases e))).trans a1, (hF tc (ws_out hS a2 (fun fs e => by cases e) (fun f e => by cases e))).trans a2, a3⟩
theorem dw_tf {h1 : ev_H} (h : DW H D lay val) (t : TX H T tc rq f len) (hF : TF T tc H h1) : DW h1 D lay val := by
  obtain ⟨a1, a2, a3⟩ := t
  obtain ⟨b1, b2, b3⟩ := h
  have o1 := ws_out b2 a1 (fun fs e => by cases e) (fun f e => by cases e)
  have o2 := ws_out b2 a2 (fun fs e => by cases e) (fun f e => by cases e)
  refine ⟨b1, fun k hk => ?_, (hF D (ne_of b3 a1 (fun q => by cases q)) (ne_of b3 a2 (fun q => by cases q))).trans b3⟩
  obtain ⟨g, n, c1, c2, c3⟩ := b2 k hk
  exact ⟨g, n, (hF _ (Ne.symm (o1 k hk).1) (Ne.symm (o2 k hk).1)).trans c1, (hF _ (Ne.symm (o1 k hk).2) (Ne.symm (o2 k hk).2)).trans c2, c3⟩
def wwi (v q m r : Nat) : Prop := (r ≠ 0 ∧ r = v / 10 ^ (9 * q) ∧ m = 9 * q) ∨ (r = 0 ∧ DN v m)
theorem l_ww {K : ev_K} {c z v Q l0 : Nat} {H0 : ev_H} {f0 val0 : Nat → Nat} (hd : 3 ≤ dd) (hw : 50 ≤ w) (hv : v < 10 ^ (9 * Q)) (hQ : Q ≤ 80) (hl : l0 + 9 * Q ≤ 640)
    (hK : ∀ H f val m, DW H D lay val → TX H T tc (lay 19).1 f (l0 + m) → (∀ x, x ≠ 19 → val x = val0 x) → TWF lay T tc H0 H → DN v m → (∀ j, j < m → f (l0 + j) = 48 + v / 10 ^ j % 10) → (∀ j, j < l0 → f j = f0 j) → ev_J G (ev_cc G dd w) w m_X6_writeWhole K (61, ev_lf [(0, .ref T), (2, .int (nI l0))], [], H, c, z)) :
    ∀ k q H f val m, q + k = 80 → DW H D lay val → TX H T tc (lay 19).1 f (l0 + m) → (∀ x, x ≠ 19 → val x = val0 x) → TWF lay T tc H0 H → wwi v q m (val 19) → (∀ j, j < m → f (l0 + j) = 48 + v / 10 ^ j % 10) → (∀ j, j < l0 → f j = f0 j) → ev_J G (ev_cc G dd w) w m_X6_writeWhole K (15, ev_lf [(0, .ref T), (2, .int (nI l0)), (3, .int (nI q))], [], H, c, z)
  | 0, q, H, f, val, m, e, h, t, ev, hF, hi, e1, e2 => by
    refine ev_iload_n (pc := 15) dX6_writeWhole_15 rfl ?_
    refine ev_bipush (pc := 16) (v := nI 80) dX6_writeWhole_16 (by decide) ?_
    refine ev_icmp_geN (pc := 18) (tgt := 61) dX6_writeWhole_18 (by decide) (by omega) (by omega) (fun c1 => ?_) (fun c1 => ?_)
    · refine ev_vs [(0, .ref T), (2, .int (nI l0))] ⟨rfl, rfl, trivial⟩ ?_
      rcases hi with ⟨i1, i2, i3⟩ | ⟨i1, i2⟩
      · exact absurd (i2.trans (Nat.div_eq_of_lt (Nat.lt_of_lt_of_le hv (Nat.pow_le_pow_right (by decide) (by omega))))) i1
      · exact hK H f val m h t ev hF i2 e1 e2
    · omega
  | k + 1, q, H, f, val, m, e, h, t, ev, hF, hi, e1, e2 => by
    refine ev_iload_n (pc := 15) dX6_writeWhole_15 rfl ?_
    refine ev_bipush (pc := 16) (v := nI 80) dX6_writeWhole_16 (by decide) ?_
    refine ev_icmp_geN (pc := 18) (tgt := 61) dX6_writeWhole_18 (by decide) (by omega) (by omega) (fun c1 => ?_) (fun c1 => ?_)
    · omega
    · refine ev_aload_n (pc := 21) dX6_writeWhole_21 rfl ?_
      refine ev_getf (pc := 22) dX6_writeWhole_22 f_X6_18 t.1 rfl ?_
      refine ev_callVe (pc := 25) (As := []) dX6_writeWhole_25 cv_X6_49 rfl rfl (wi_o (h.2.1 19 (by omega))) rfl ⟨by show 19 + 1 ≤ w; omega, show ev_Ca _ _ (w - 20) _ _ _ _ _ _ from t_isZero (i := 19) (by omega) h (by omega)⟩ rfl rfl (fun r h1 hp => ?_)
      obtain ⟨rfl, hH⟩ := hp
      rw [hH]
      clear hH h1
      by_cases z0 : val 19 = 0
      · rw [if_pos z0]
        refine ev_if_neN (pc := 28) (tgt := 61) dX6_writeWhole_28 (by decide) (by decide) (fun _ => ?_) (fun q => absurd q (by decide))
        refine ev_vs [(0, .ref T), (2, .int (nI l0))] ⟨rfl, rfl, trivial⟩ ?_
        rcases hi with ⟨i1, i2, i3⟩ | ⟨i1, i2⟩
        · exact absurd z0 i1
        · exact hK H f val m h t ev hF i2 e1 e2
      · rw [if_neg z0]
        refine ev_if_neN (pc := 28) (tgt := 61) dX6_writeWhole_28 (by decide) (by decide) (fun q => absurd q (by decide)) (fun _ => ?_)
        have hi2 : val 19 = v / 10 ^ (9 * q) ∧ m = 9 * q := by
          rcases hi with ⟨i1, i2, i3⟩ | ⟨i1, i2⟩
          · exact ⟨i2, i3⟩
          · exact absurd i1 z0
        obtain ⟨i2, i3⟩ := hi2
        have hqQ : q < Q := by
          rcases Nat.lt_or_ge q Q with r | r
          · exact r
          · exact absurd (i2.trans (Nat.div_eq_of_lt (Nat.lt_of_lt_of_le hv (Nat.pow_le_pow_right (by decide) (by omega))))) z0
        refine ev_aload_n (pc := 31) dX6_writeWhole_31 rfl ?_
        refine ev_getf (pc := 32) dX6_writeWhole_32 f_X6_18 t.1 rfl ?_
        refine ev_ldc (pc := 35) dX6_writeWhole_35 k_X6_52 ?_
        refine ev_callVe (pc := 37) (As := [.int (nI 1000000000)]) dX6_writeWhole_37 cv_X6_53 rfl rfl (wi_o (h.2.1 19 (by omega))) rfl ⟨by show 19 + 7 ≤ w; omega, show ev_Ca _ _ (w - 26) _ _ _ _ _ _ from t_divideBySmall (i := 19) (b := 1000000000) (by omega) (by omega) h (by omega) (by decide) (by decide)⟩ rfl rfl (fun r h1 hp => ?_)
        obtain ⟨rfl, hA, hF1⟩ := hp
        have t2 := tx_wf h.2.1 hF1 t
        refine ev_istore (pc := 40) dX6_writeWhole_40 rfl ?_
        refine ev_aload_n (pc := 42) dX6_writeWhole_42 rfl ?_
        refine ev_iload (pc := 43) dX6_writeWhole_43 rfl ?_
        refine ev_aload_n (pc := 45) dX6_writeWhole_45 rfl ?_
        refine ev_getf (pc := 46) dX6_writeWhole_46 f_X6_18 t2.1 rfl ?_
        refine ev_callVe (pc := 49) (As := []) dX6_writeWhole_49 cv_X6_49 rfl rfl (wi_o (hA.2.1 19 (by omega))) rfl ⟨by show 19 + 1 ≤ w; omega, show ev_Ca _ _ (w - 20) _ _ _ _ _ _ from t_isZero (i := 19) (by omega) hA (by omega)⟩ rfl rfl (fun r h1 hp => ?_)
        obtain ⟨rfl, hH⟩ := hp
        rw [hH, va_up_self]
        clear hH
        have hb1 : (if val 19 / 1000000000 = 0 then 1 else 0) ≤ 1 := by split <;> omega
        refine ev_callV (pc := 52) (As := [.int (nI (val 19 % 1000000000)), .int (nI (if val 19 / 1000000000 = 0 then 1 else 0))]) dX6_writeWhole_52 cv_X6_57 rfl rfl t2.1 rfl ⟨by show 19 + 5 ≤ w; omega, show ev_Ca _ _ (w - 24) _ _ _ _ _ _ from k_writeBackwards (by omega) (by omega) t2 (Nat.mod_lt _ (by decide)) hb1 (by omega)⟩ rfl rfl (fun r h1 hp => ?_)
        obtain ⟨rfl, m2, f1, a1, a2, a3, a4, a5, a6, a7⟩ := hp
        refine ev_iincN (pc := 55) dX6_writeWhole_55 rfl rfl ?_
        refine ev_goto (pc := 58) (tgt := 15) dX6_writeWhole_58 (by decide) ?_
        refine ev_vs [(0, .ref T), (2, .int (nI l0)), (3, .int (nI (q + 1)))] ⟨rfl, rfl, rfl, trivial⟩ ?_
        refine l_ww hd hw hv hQ hl hK k (q + 1) _ f1 _ (m + m2) (by omega) (dw_tf hA t2 a5) (by rw [← Nat.add_assoc]; exact a4) (fun x hx => (va_up_ne _ _ hx).trans (ev x hx)) ((hF.tr hF1.tw).tr a5.tw) ?_ (fun j hj => ?_) (fun j hj => (a7 j (by omega)).trans (e2 j hj))
        · rw [va_up_self]
          by_cases r2 : val 19 / 1000000000 = 0
          · refine Or.inr ⟨r2, ?_⟩
            rw [if_pos r2] at a3
            have d1 := a3 rfl
            rw [Nat.mod_eq_of_lt (show val 19 < 1000000000 by omega)] at d1
            rw [i3]
            rw [i2] at d1 z0
            exact dn_last z0 d1
          · refine Or.inl ⟨r2, ?_, ?_⟩
            · rw [i2, dg_next, show 9 * (q + 1) = 9 * q + 9 by omega]
            · rw [if_neg r2] at a2
              have := a2 rfl
              omega
        · rcases Nat.lt_or_ge j m with r | r
          · rw [a7 (l0 + j) (by omega)]; exact e1 j r
          · have := a6 (j - m) (by omega)
            rw [show l0 + m + (j - m) = l0 + j by omega] at this
            rw [this, dg_mod _ (by omega), i2, dg_at, show 9 * q + (j - m) = j by omega]
theorem k_writeWhole {u Q : Nat} (hd : 4 ≤ dd) (hw : 50 ≤ w) (h : DW H D lay val) (t : TX H T tc (lay 19).1 f len) (hu : u < 19) (hv0 : 0 < val u) (hv : val u < 10 ^ (9 * Q)) (hQ : Q ≤ 80) (hl : len + 9 * Q ≤ 640) : ev_Ca G dd w m_X6_writeWhole [.ref T, .ref (lay u).1] H 0 0 (ev_ok (fun r h1 => r = none ∧ ∃ m f1 val1, DN (val u) m ∧ DW h1 D lay val1 ∧ (∀ x, x ≠ 19 → val1 x = val x) ∧ TX h1 T tc (lay 19).1 f1 (len + m) ∧ TWF lay T tc H h1 ∧ (∀ j, j < m → f1 (len + j) = 48 + val u / 10 ^ (m - 1 - j) % 10) ∧ ∀ j, j < len → f1 j = f j)) := by
  obtain ⟨dd, rfl⟩ : ∃ e, dd = e + 1 := ⟨dd - 1, by omega⟩
  refine ⟨by decide +kernel, rfl, ?_⟩
  refine ev_aload_n (pc := 0) dX6_writeWhole_0 rfl ?_
  refine ev_getf (pc := 1) dX6_writeWhole_1 f_X6_22 t.1 rfl ?_
  refine ev_istore_n (pc := 4) dX6_writeWhole_4 rfl ?_
  refine ev_aload_n (pc := 5) dX6_writeWhole_5 rfl ?_
  refine ev_getf (pc := 6) dX6_writeWhole_6 f_X6_18 t.1 rfl ?_
  refine ev_aload_n (pc := 9) dX6_writeWhole_9 rfl ?_
  refine ev_callVe (pc := 10) (As := [.ref (lay u).1]) dX6_writeWhole_10 cv_X6_46 rfl rfl (wi_o (h.2.1 19 (by omega))) rfl ⟨by show 19 + 2 ≤ w; omega, show ev_Ca _ _ (w - 21) _ _ _ _ _ _ from t_copy (i := 19) (j := u) (by omega) (by omega) h (by omega) (by omega) (by omega)⟩ rfl rfl (fun r h1 hp => ?_)
  obtain ⟨rfl, hA, hF1⟩ := hp
  have t2 := tx_wf h.2.1 hF1 t
  refine ev_iconst (pc := 13) (v := nI 0) dX6_writeWhole_13 (by decide) ?_
  refine ev_istore_n (pc := 14) dX6_writeWhole_14 rfl ?_
  refine ev_vs [(0, .ref T), (2, .int (nI len)), (3, .int (nI 0))] ⟨rfl, rfl, rfl, trivial⟩ ?_
  refine l_ww (v := val u) (H0 := H) (f0 := f) (val0 := val) (by omega) hw hv hQ hl (fun H2 f2 val2 m g1 g2 g3 g4 g5 g6 g7 => ?_) 80 0 h1 f (va_up val 19 (val u)) 0 (by omega) hA t2 (fun x hx => va_up_ne _ _ hx) hF1.tw (Or.inl ⟨by rw [va_up_self]; omega, by rw [va_up_self]; show _ = val u / 1; rw [Nat.div_one], rfl⟩) (fun j hj => absurd hj (Nat.not_lt_zero j)) (fun _ _ => rfl)
  have hm : 1 ≤ m := by
    rcases Nat.eq_zero_or_pos m with r | r
    · rw [r] at g5; have := g5.1; omega
    · exact r
  have hm2 := dn_le g5 hv
  refine ev_aload_n (pc := 61) dX6_writeWhole_61 rfl ?_
  refine ev_iload_n (pc := 62) dX6_writeWhole_62 rfl ?_
  refine ev_callV (pc := 63) (As := [.int (nI len)]) dX6_writeWhole_63 cv_X6_61 rfl rfl g2.1 rfl ⟨by show 19 + 5 ≤ w; omega, show ev_Ca _ _ (w - 24) _ _ _ _ _ _ from k_turnRound (by omega) g2 (by omega) (by omega) (by omega)⟩ rfl rfl (fun r h1 hp => ?_)
  obtain ⟨rfl, f3, b1, b2, b3, b4⟩ := hp
  refine ev_vret (pc := 66) dX6_writeWhole_66 rfl ⟨rfl, m, f3, val2, g5, dw_tf g1 g2 b2, g3, b1, g4.tr b2.tw, fun j hj => ?_, fun j hj => (b4 j hj).trans (g7 j hj)⟩
  rw [b3 (len + j) (by omega) (by omega), show len + (len + m - 1 - (len + j)) = len + (m - 1 - j) by omega]
  exact g6 _ (by omega)
/-- what write leaves: the digits of a number above, and of one below if it is not 1 -/
def wrt (a b : Nat) (f : Nat → Nat) (n : Nat) : Prop := ∃ m, DN a m ∧ (∀ j, j < m → f j = 48 + a / 10 ^ (m - 1 - j) % 10) ∧ ((b = 1 ∧ n = m) ∨ (b ≠ 1 ∧ ∃ m2, DN b m2 ∧ n = m + 1 + m2 ∧ f m = 47 ∧ ∀ j, j < m2 → f (m + 1 + j) = 48 + b / 10 ^ (m2 - 1 - j) % 10))
theorem k_write {F u Q Q2 : Nat} (hd : 5 ≤ dd) (hw : 80 ≤ w) (h : DW H D lay val) (t : TX H T tc (lay 19).1 f len) (hF : H F = some (.inr (2, [.ref (lay u).1, .ref (lay (u + 1)).1]))) (hu : u + 1 < 19) (h1 : 0 < val u) (h2 : val u < 10 ^ (9 * Q)) (h3 : 0 < val (u + 1)) (h4 : val (u + 1) < 10 ^ (9 * Q2)) (hQ : 9 * Q + 1 + 9 * Q2 ≤ 640) : ev_Ca G dd w m_X6_write [.ref T, .ref F] H 0 0 (ev_ok (fun r h1 => r = none ∧ ∃ n f1 val1, wrt (val u) (val (u + 1)) f1 n ∧ n ≤ 640 ∧ DW h1 D lay val1 ∧ (∀ x, x ≠ 19 → val1 x = val x) ∧ TX h1 T tc (lay 19).1 f1 n ∧ TWF lay T tc H h1)) := by
  obtain ⟨dd, rfl⟩ : ∃ e, dd = e + 1 := ⟨dd - 1, by omega⟩
  refine ⟨by decide +kernel, rfl, ?_⟩
  refine ev_aload_n (pc := 0) dX6_write_0 rfl ?_
  refine ev_iconst (pc := 1) (v := nI 0) dX6_write_1 (by decide) ?_
  refine ev_putf (pc := 2) dX6_write_2 p_X6_22 t.1 rfl rfl rfl ?_
  obtain ⟨t2, F2⟩ := tx_len (x := 0) t
  have hA := dw_tf h t F2
  have hF' := (F2 F (ne_of hF t.1 (fun q => by cases q)) (ne_of hF t.2.1 (fun q => by cases q))).trans hF
  refine ev_aload_n (pc := 5) dX6_write_5 rfl ?_
  refine ev_aload_n (pc := 6) dX6_write_6 rfl ?_
  refine ev_getf (pc := 7) dX6_write_7 f_X6_26 hF' rfl ?_
  refine ev_callV (pc := 10) (As := [.ref (lay u).1]) dX6_write_10 cv_X6_31 rfl rfl t2.1 rfl ⟨by show 19 + 5 ≤ w; omega, show ev_Ca _ _ (w - 24) _ _ _ _ _ _ from k_writeWhole (u := u) (by omega) (by omega) hA t2 (by omega) h1 h2 (by omega) (by omega)⟩ rfl rfl (fun r h1 hp => ?_)
  rename_i hB1
  obtain ⟨rfl, m, f1, val1, a1, a2, a3, a4, a5, a6, -⟩ := hp
  rw [Nat.zero_add] at a4
  have hm := dn_le a1 h2
  have a6' : ∀ j, j < m → f1 j = 48 + val u / 10 ^ (m - 1 - j) % 10 := fun j hj => by have := a6 j hj; rwa [Nat.zero_add] at this
  have hF2 := (a5 F (ne_of hF t.1 (fun q => by cases q)) (ne_of hF t.2.1 (fun q => by cases q)) (ws_out h.2.1 hF (fun fs e => by cases e) (fun f e => by cases e))).trans hF'
  have ed : val1 (u + 1) = val (u + 1) := a3 _ (by omega)
  refine ev_aload_n (pc := 13) dX6_write_13 rfl ?_
  refine ev_getf (pc := 14) dX6_write_14 f_X6_35 hF2 rfl ?_
  refine ev_callVe (pc := 17) (As := []) dX6_write_17 cv_X6_38 rfl rfl (wi_o (a2.2.1 (u + 1) (by omega))) rfl ⟨by show 19 + 1 ≤ w; omega, show ev_Ca _ _ (w - 20) _ _ _ _ _ _ from t_isOne (i := u + 1) (by omega) a2 (by omega)⟩ rfl rfl (fun r h1 hp => ?_)
  obtain ⟨rfl, hH⟩ := hp
  rw [hH, ed]
  clear hH
  by_cases c1 : val (u + 1) = 1
  · rw [if_pos c1]
    refine ev_if_neN (pc := 20) (tgt := 37) dX6_write_20 (by decide) (by decide) (fun _ => ?_) (fun q => absurd q (by decide))
    exact ev_vret (pc := 37) dX6_write_37 rfl ⟨rfl, m, f1, val1, ⟨m, a1, a6', Or.inl ⟨c1, rfl⟩⟩, by omega, a2, a3, a4, F2.tw.tr a5⟩
  · rw [if_neg c1]
    refine ev_if_neN (pc := 20) (tgt := 37) dX6_write_20 (by decide) (by decide) (fun q => absurd q (by decide)) (fun _ => ?_)
    refine ev_aload_n (pc := 23) dX6_write_23 rfl ?_
    refine ev_bipush (pc := 24) (v := nI 47) dX6_write_24 (by decide) ?_
    refine ev_callV (pc := 26) (As := [.int (nI 47)]) dX6_write_26 cv_X6_42 rfl rfl a4.1 rfl ⟨by show 19 + 2 ≤ w; omega, show ev_Ca _ _ (w - 21) _ _ _ _ _ _ from k_append (by omega) a4 (by omega) (by decide)⟩ rfl rfl (fun r h1 hp => ?_)
    obtain ⟨rfl, t3, F3⟩ := hp
    have hC := dw_tf a2 a4 F3
    have hF3 := (F3 F (ne_of hF t.1 (fun q => by cases q)) (ne_of hF t.2.1 (fun q => by cases q))).trans hF2
    refine ev_aload_n (pc := 29) dX6_write_29 rfl ?_
    refine ev_aload_n (pc := 30) dX6_write_30 rfl ?_
    refine ev_getf (pc := 31) dX6_write_31 f_X6_35 hF3 rfl ?_
    refine ev_callV (pc := 34) (As := [.ref (lay (u + 1)).1]) dX6_write_34 cv_X6_31 rfl rfl t3.1 rfl ⟨by show 19 + 5 ≤ w; omega, show ev_Ca _ _ (w - 24) _ _ _ _ _ _ from k_writeWhole (u := u + 1) (by omega) (by omega) hC t3 (by omega) (by omega) (by rw [ed]; exact h4) (by omega) (by omega)⟩ rfl rfl (fun r h1 hp => ?_)
    obtain ⟨rfl, m2, f3, val3, b1, b2, b3, b4, b5, b6, b7⟩ := hp
    rw [ed] at b1 b6
    have hm2 := dn_le b1 h4
    refine ev_vret (pc := 37) dX6_write_37 rfl ⟨rfl, m + 1 + m2, f3, val3, ⟨m, a1, fun j hj => ?_, Or.inr ⟨c1, m2, b1, rfl, ?_, b6⟩⟩, by omega, b2, fun x hx => (b3 x hx).trans (a3 x hx), b4, ((F2.tw.tr a5).tr F3.tw).tr b5⟩
    · rw [b7 j (by omega), va_up_ne _ _ (by omega)]; exact a6' j hj
    · rw [b7 m (by omega), va_up_self]
end TXW
