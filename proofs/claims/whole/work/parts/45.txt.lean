/-! Text -/
def TX (H : ev_H) (T tc rq : Nat) (f : Nat → Nat) (len : Nat) : Prop := H T = some (.inr (4, [.ref tc, .ref rq, .int (nI len)])) ∧ H tc = some (.inl (.char, 640, .inl (fun j => nI (f j)))) ∧ ∀ j, f j < 128
def TF (T tc : Nat) (H h1 : ev_H) : Prop := ∀ a, a ≠ T → a ≠ tc → h1 a = H a
theorem TF.rf {T tc : Nat} {H : ev_H} : TF T tc H H := fun _ _ _ => rfl
theorem TF.tr {T tc : Nat} {H h1 h2 : ev_H} (a : TF T tc H h1) (b : TF T tc h1 h2) : TF T tc H h2 := fun x hx hy => (b x hx hy).trans (a x hx hy)
/-- the number of decimal digits -/
def DN (v n : Nat) : Prop := v < 10 ^ n ∧ ∀ m, m < n → 10 ^ m ≤ v
theorem dn_uni {v n m : Nat} (h : DN v n) (h2 : DN v m) : n = m := by
  rcases Nat.lt_trichotomy n m with q | q | q
  · have := h2.2 n q; have := h.1; omega
  · exact q
  · have := h.2 m q; have := h2.1; omega
theorem dg_mod (r : Nat) {j : Nat} (hj : j < 9) : r % 1000000000 / 10 ^ j % 10 = r / 10 ^ j % 10 := by
  have e : 1000000000 = 10 ^ j * 10 ^ (9 - j) := by rw [← Nat.pow_add, show j + (9 - j) = 9 by omega]
  rw [e, Nat.mod_mul_right_div_self, Nat.mod_mod_of_dvd _ ⟨10 ^ (8 - j), by rw [← Nat.pow_succ']; congr 1; omega⟩]
theorem dg_at (v q j : Nat) : v / 10 ^ q / 10 ^ j % 10 = v / 10 ^ (q + j) % 10 := by rw [Nat.div_div_eq_div_mul, ← Nat.pow_add]
theorem dg_next (v q : Nat) : v / 10 ^ q / 1000000000 = v / 10 ^ (q + 9) := by rw [Nat.div_div_eq_div_mul, show (1000000000 : Nat) = 10 ^ 9 by decide, ← Nat.pow_add]
theorem dn_last {v q m : Nat} (h0 : v / 10 ^ q ≠ 0) (h : DN (v / 10 ^ q) m) : DN v (q + m) := by
  have hp : 0 < 10 ^ q := Nat.pow_pos (by decide)
  refine ⟨?_, fun t ht => ?_⟩
  · have := (Nat.div_lt_iff_lt_mul hp).mp h.1
    rw [Nat.pow_add, Nat.mul_comm]
    exact this
  · rcases Nat.lt_or_ge t q with e | e
    · have h1 : 10 ^ q ≤ v := Nat.le_of_not_lt (fun e => h0 (Nat.div_eq_of_lt e))
      exact Nat.le_trans (Nat.pow_le_pow_right (by decide) (by omega)) h1
    · have h1 := (Nat.le_div_iff_mul_le hp).mp (h.2 (t - q) (by omega))
      rw [← Nat.pow_add, show t - q + q = t by omega] at h1
      exact h1
theorem dn_le {v n m : Nat} (h : DN v n) (hv : v < 10 ^ m) : n ≤ m := by
  rcases Nat.lt_or_ge m n with q | q
  · have := h.2 m q; omega
  · exact q
theorem nar_c : ∀ x, x < 128 → vp_nar .char (nI x) = nI x := by
  intro x hx
  rw [vp_nar_char]
  revert x
  decide +kernel
theorem i2c_c : ∀ x, x < 128 → ((nI x).toUInt32 % 65536).toInt32 = nI x := by decide +kernel
section EVC
variable {G : ev_G} {C : ev_L} {w : Nat} {M : ev_M} {K : ev_K} {pc : Nat} {L : ev_V} {st : List Value} {h : ev_H} {c z : Nat}
theorem ev_caN {i N a : Nat} {g : Nat → Nat} (hd : decode M.2.1 pc = .ok (.caload, 1)) (ha : h a = some (.inl (.char, N, .inl (fun j => nI (g j))))) (hi : i < N) (hN : N < 2 ^ 31) (k : ev_J G C w M K (pc + 1, L, .int (nI (g i)) :: st, h, c, z)) : ev_J G C w M K (pc, L, .int (nI i) :: .ref a :: st, h, c, z) := ev_cald hd ha (vp_in_nI hi hN) (ev_ti (by rw [nI_clamp (by omega)]) k)
theorem ev_castN {i N a x : Nat} {g : Nat → Nat} (hd : decode M.2.1 pc = .ok (.castore, 1)) (ha : h a = some (.inl (.char, N, .inl (fun j => nI (g j))))) (hi : i < N) (hN : N < 2 ^ 31) (hx : x < 128) (k : ev_J G C w M K (pc + 1, L, st, ev_up h a (.inl (.char, N, .inl (fun j => nI (va_up g i x j)))), c, z)) : ev_J G C w M K (pc, L, .int (nI x) :: .int (nI i) :: .ref a :: st, h, c, z) := ev_cast hd ha (vp_in_nI hi hN) (ev_th (by rw [nar_c x hx, wh_upd _ _ _ (by omega)]) k)
end EVC
section TXT
variable {G : ev_G} {w : Nat} {H : ev_H} {D T tc rq : Nat} {i j k dd len : Nat} {f : Nat → Nat} {lay : Nat → Nat × Nat} {val : Nat → Nat}
theorem tx_put {p x : Nat} (h : TX H T tc rq f len) (hx : x < 128) : TX (ev_up H tc (.inl (.char, 640, .inl (fun j => nI (va_up f p x j))))) T tc rq (va_up f p x) len ∧ TF T tc H (ev_up H tc (.inl (.char, 640, .inl (fun j => nI (va_up f p x j))))) := by
  obtain ⟨a1, a2, a3⟩ := h
  refine ⟨⟨ev_nee (ne_of a1 a2 (fun q => by cases q)) a1, ev_eqq, fun j => ?_⟩, fun a _ hy => ev_nee hy rfl⟩
  unfold va_up
  split
  · exact hx
  · exact a3 j
theorem tx_len {x : Nat} (h : TX H T tc rq f len) : TX (ev_up H T (.inr (4, [Value.ref tc, .ref rq, .int (nI len)].set 2 (.int (nI x))))) T tc rq f x ∧ TF T tc H (ev_up H T (.inr (4, [Value.ref tc, .ref rq, .int (nI len)].set 2 (.int (nI x))))) := by
  obtain ⟨a1, a2, a3⟩ := h
  exact ⟨⟨ev_eqq, ev_nee (ne_of a2 a1 (fun q => by cases q)) a2, a3⟩, fun a hx _ => ev_nee hx rfl⟩
theorem k_append {x : Nat} (hd : 1 ≤ dd) (h : TX H T tc rq f len) (hl : len < 640) (hx : x < 128) : ev_Ca G dd w m_X6_append [.ref T, .int (nI x)] H 0 0 (ev_ok (fun r h1 => r = none ∧ TX h1 T tc rq (va_up f len x) (len + 1) ∧ TF T tc H h1)) := by
  obtain ⟨dd, rfl⟩ : ∃ e, dd = e + 1 := ⟨dd - 1, by omega⟩
  refine ⟨by decide +kernel, rfl, ?_⟩
  refine ev_aload_n (pc := 0) dX6_append_0 rfl ?_
  refine ev_getf (pc := 1) dX6_append_1 f_X6_22 h.1 rfl ?_
  refine ev_sipush (pc := 4) (v := nI 640) dX6_append_4 (by decide) ?_
  refine ev_icmp_geN (pc := 7) (tgt := 30) dX6_append_7 (by decide) (by omega) (by omega) (fun c1 => ?_) (fun c1 => ?_)
  · omega
  · refine ev_aload_n (pc := 10) dX6_append_10 rfl ?_
    refine ev_getf (pc := 11) dX6_append_11 f_X6_11 h.1 rfl ?_
    refine ev_aload_n (pc := 14) dX6_append_14 rfl ?_
    refine ev_getf (pc := 15) dX6_append_15 f_X6_22 h.1 rfl ?_
    refine ev_iload_n (pc := 18) dX6_append_18 rfl ?_
    refine ev_castN (pc := 19) dX6_append_19 h.2.1 hl (by decide) hx ?_
    obtain ⟨h2, F2⟩ := tx_put (p := len) h hx
    refine ev_aload_n (pc := 20) dX6_append_20 rfl ?_
    refine ev_dup (pc := 21) dX6_append_21 rfl ?_
    refine ev_getf (pc := 22) dX6_append_22 f_X6_22 h2.1 rfl ?_
    refine ev_iconst (pc := 25) (v := nI 1) dX6_append_25 (by decide) ?_
    refine ev_iaddN (pc := 26) dX6_append_26 ?_
    refine ev_putf (pc := 27) dX6_append_27 p_X6_22 h2.1 rfl rfl rfl ?_
    obtain ⟨h3, F3⟩ := tx_len (x := len + 1) h2
    exact ev_vret (pc := 30) dX6_append_30 rfl ⟨rfl, h3, F2.tr F3⟩
theorem l_wb {K : ev_K} {c z d b l0 : Nat} {H0 : ev_H} {f0 : Nat → Nat} (hd : 1 ≤ dd) (hw : 21 ≤ w) (hdg : d < 1000000000) (hb : b ≤ 1) (hl : l0 + 9 ≤ 640)
    (hK : ∀ m H f, m ≤ 9 → (b = 0 → m = 9) → (b = 1 → DN d m) → TX H T tc rq f (l0 + m) → TF T tc H0 H → (∀ j, j < m → f (l0 + j) = 48 + d / 10 ^ j % 10) → (∀ j, j < l0 → f j = f0 j) → K (.inl none) H) :
    ∀ k i H f, i + k = 9 → TX H T tc rq f (l0 + i) → TF T tc H0 H → (∀ j, j < i → f (l0 + j) = 48 + d / 10 ^ j % 10) → (∀ j, j < l0 → f j = f0 j) → (b = 1 → ∀ m, m < i → 10 ^ m ≤ d) → ev_J G (ev_cc G dd w) w m_X6_writeBackwards K (5, ev_lf [(0, .ref T), (2, .int (nI b)), (3, .int (nI (d / 10 ^ i))), (4, .int (nI i))], [], H, c, z)
  | 0, i, H, f, e, h, hF, e1, e2, e3 => by
    have : i = 9 := by omega
    subst this
    refine ev_iload (pc := 5) dX6_writeBackwards_5 rfl ?_
    refine ev_bipush (pc := 7) (v := nI 9) dX6_writeBackwards_7 (by decide) ?_
    refine ev_icmp_geN (pc := 9) (tgt := 43) dX6_writeBackwards_9 (by decide) (by decide) (by decide) (fun _ => ?_) (fun q => absurd q (by decide))
    exact ev_vret (pc := 43) dX6_writeBackwards_43 rfl (hK 9 H f (by omega) (fun _ => rfl) (fun q => ⟨hdg, e3 q⟩) h hF e1 e2)
  | k + 1, i, H, f, e, h, hF, e1, e2, e3 => by
    have hle : d / 10 ^ i ≤ d := Nat.div_le_self _ _
    have hp : 0 < 10 ^ i := Nat.pow_pos (by decide)
    have hmd : d / 10 ^ i % 10 < 10 := Nat.mod_lt _ (by decide)
    have body : (b = 1 → 0 < d / 10 ^ i) → ev_J G (ev_cc G dd w) w m_X6_writeBackwards K (20, ev_lf [(0, .ref T), (2, .int (nI b)), (3, .int (nI (d / 10 ^ i))), (4, .int (nI i))], [], H, c, z) := by
      intro hb2
      refine ev_aload_n (pc := 20) dX6_writeBackwards_20 rfl ?_
      refine ev_bipush (pc := 21) (v := nI 48) dX6_writeBackwards_21 (by decide) ?_
      refine ev_iload_n (pc := 23) dX6_writeBackwards_23 rfl ?_
      refine ev_bipush (pc := 24) (v := nI 10) dX6_writeBackwards_24 (by decide) ?_
      refine ev_iremN (pc := 26) dX6_writeBackwards_26 (by omega) (by omega) (by omega) ?_
      refine ev_iaddN (pc := 27) dX6_writeBackwards_27 ?_
      refine ev_i2c (pc := 28) dX6_writeBackwards_28 ?_
      refine ev_ti (i2c_c _ (by omega)) ?_
      refine ev_callV (pc := 29) (As := [.int (nI (48 + d / 10 ^ i % 10))]) dX6_writeBackwards_29 cv_X6_42 rfl rfl h.1 rfl ⟨by show 19 + 2 ≤ w; omega, show ev_Ca _ _ (w - 21) _ _ _ _ _ _ from k_append (by omega) h (by omega) (by omega)⟩ rfl rfl (fun r h1 hp => ?_)
      obtain ⟨rfl, h2, F2⟩ := hp
      refine ev_iload_n (pc := 32) dX6_writeBackwards_32 rfl ?_
      refine ev_bipush (pc := 33) (v := nI 10) dX6_writeBackwards_33 (by decide) ?_
      refine ev_idivN (pc := 35) dX6_writeBackwards_35 (by omega) (by omega) (by omega) ?_
      refine ev_istore_n (pc := 36) dX6_writeBackwards_36 rfl ?_
      refine ev_iincN (pc := 37) dX6_writeBackwards_37 rfl rfl ?_
      refine ev_goto (pc := 40) (tgt := 5) dX6_writeBackwards_40 (by decide) ?_
      refine ev_vs [(0, .ref T), (2, .int (nI b)), (3, .int (nI (d / 10 ^ (i + 1)))), (4, .int (nI (i + 1)))] ⟨rfl, rfl, by rw [Nat.pow_succ, ← Nat.div_div_eq_div_mul]; rfl, rfl, trivial⟩ ?_
      refine l_wb hd hw hdg hb hl hK k (i + 1) _ _ (by omega) h2 (hF.tr F2) (fun j hj => ?_) (fun j hj => ?_) (fun q m hm => ?_)
      · unfold va_up
        by_cases q : j = i
        · rw [if_pos (by omega), q]
        · rw [if_neg (by omega)]; exact e1 j (by omega)
      · unfold va_up
        rw [if_neg (by omega)]; exact e2 j hj
      · by_cases r : m = i
        · rw [r]
          have := hb2 q
          exact Nat.le_of_not_lt (fun s => by rw [Nat.div_eq_of_lt s] at this; omega)
        · exact e3 q m (by omega)
    refine ev_iload (pc := 5) dX6_writeBackwards_5 rfl ?_
    refine ev_bipush (pc := 7) (v := nI 9) dX6_writeBackwards_7 (by decide) ?_
    refine ev_icmp_geN (pc := 9) (tgt := 43) dX6_writeBackwards_9 (by decide) (by omega) (by omega) (fun c1 => ?_) (fun c1 => ?_)
    · omega
    · refine ev_iload_n (pc := 12) dX6_writeBackwards_12 rfl ?_
      refine ev_if_gtN (pc := 13) (tgt := 20) dX6_writeBackwards_13 (by decide) (by omega) (fun c2 => ?_) (fun c2 => ?_)
      · refine ev_vs [(0, .ref T), (2, .int (nI b)), (3, .int (nI (d / 10 ^ i))), (4, .int (nI i))] ⟨rfl, rfl, rfl, rfl, trivial⟩ ?_
        exact body (fun _ => c2)
      · refine ev_iload_n (pc := 16) dX6_writeBackwards_16 rfl ?_
        refine ev_if_neN (pc := 17) (tgt := 43) dX6_writeBackwards_17 (by decide) (by omega) (fun c3 => ?_) (fun c3 => ?_)
        · refine ev_vret (pc := 43) dX6_writeBackwards_43 rfl (hK i H f (by omega) (fun q => by omega) (fun q => ⟨?_, e3 q⟩) h hF e1 e2)
          exact Nat.lt_of_not_le (fun s => by have := (Nat.le_div_iff_mul_le hp).mpr (show 1 * 10 ^ i ≤ d by omega); omega)
        · refine ev_vs [(0, .ref T), (2, .int (nI b)), (3, .int (nI (d / 10 ^ i))), (4, .int (nI i))] ⟨rfl, rfl, rfl, rfl, trivial⟩ ?_
          exact body (fun q => by omega)
theorem k_writeBackwards {d b : Nat} (hd : 2 ≤ dd) (hw : 21 ≤ w) (h : TX H T tc rq f len) (hdg : d < 1000000000) (hb : b ≤ 1) (hl : len + 9 ≤ 640) : ev_Ca G dd w m_X6_writeBackwards [.ref T, .int (nI d), .int (nI b)] H 0 0 (ev_ok (fun r h1 => r = none ∧ ∃ m f1, m ≤ 9 ∧ (b = 0 → m = 9) ∧ (b = 1 → DN d m) ∧ TX h1 T tc rq f1 (len + m) ∧ TF T tc H h1 ∧ (∀ j, j < m → f1 (len + j) = 48 + d / 10 ^ j % 10) ∧ (∀ j, j < len → f1 j = f j))) := by
  obtain ⟨dd, rfl⟩ : ∃ e, dd = e + 1 := ⟨dd - 1, by omega⟩
  refine ⟨by decide +kernel, rfl, ?_⟩
  refine ev_iload_n (pc := 0) dX6_writeBackwards_0 rfl ?_
  refine ev_istore_n (pc := 1) dX6_writeBackwards_1 rfl ?_
  refine ev_iconst (pc := 2) (v := nI 0) dX6_writeBackwards_2 (by decide) ?_
  refine ev_istore (pc := 3) dX6_writeBackwards_3 rfl ?_
  refine ev_vs [(0, .ref T), (2, .int (nI b)), (3, .int (nI (d / 10 ^ 0))), (4, .int (nI 0))] ⟨rfl, rfl, by rw [Nat.pow_zero, Nat.div_one]; rfl, rfl, trivial⟩ ?_
  exact l_wb (H0 := H) (f0 := f) (l0 := len) (by omega) hw hdg hb hl (fun m H1 f1 a1 a2 a3 a4 a5 a6 a7 => ⟨rfl, m, f1, a1, a2, a3, a4, a5, a6, a7⟩) 9 0 H f (by omega) h TF.rf (fun j hj => absurd hj (Nat.not_lt_zero j)) (fun _ _ => rfl) (fun _ m hm => absurd hm (Nat.not_lt_zero m))
theorem l_tr {K : ev_K} {c z s e : Nat} {H0 : ev_H} {f0 : Nat → Nat} (he : e ≤ 640) (he1 : 1 ≤ e)
    (hK : ∀ H f, TX H T tc rq f e → TF T tc H0 H → (∀ j, s ≤ j → j < e → f j = f0 (s + (e - 1 - j))) → (∀ j, j < s → f j = f0 j) → K (.inl none) H) :
    ∀ k t H f, e ≤ s + 2 * t + k → s + 2 * t ≤ e → TX H T tc rq f e → TF T tc H0 H → (∀ j, s ≤ j → j < e → f j = if j < s + t ∨ e - t ≤ j then f0 (s + (e - 1 - j)) else f0 j) → (∀ j, j < s → f j = f0 j) → ev_J G (ev_cc G dd w) w m_X6_turnRound K (9, ev_lf [(0, .ref T), (2, .int (nI (e - 1 - t))), (3, .int (nI (s + t)))], [], H, c, z)
  | 0, t, H, f, hk, hs, h, hF, e1, e2 => by
    refine ev_iload_n (pc := 9) dX6_turnRound_9 rfl ?_
    refine ev_iload_n (pc := 10) dX6_turnRound_10 rfl ?_
    refine ev_icmp_geN (pc := 11) (tgt := 51) dX6_turnRound_11 (by decide) (by omega) (by omega) (fun c1 => ?_) (fun c1 => ?_)
    · refine ev_vret (pc := 51) dX6_turnRound_51 rfl (hK H f h hF (fun j hj hje => ?_) e2)
      rw [e1 j hj hje, if_pos (by omega)]
    · omega
  | k + 1, t, H, f, hk, hs, h, hF, e1, e2 => by
    refine ev_iload_n (pc := 9) dX6_turnRound_9 rfl ?_
    refine ev_iload_n (pc := 10) dX6_turnRound_10 rfl ?_
    refine ev_icmp_geN (pc := 11) (tgt := 51) dX6_turnRound_11 (by decide) (by omega) (by omega) (fun c1 => ?_) (fun c1 => ?_)
    · refine ev_vret (pc := 51) dX6_turnRound_51 rfl (hK H f h hF (fun j hj hje => ?_) e2)
      by_cases q : j < s + t ∨ e - t ≤ j
      · rw [e1 j hj hje, if_pos q]
      · rw [e1 j hj hje, if_neg q, show s + (e - 1 - j) = j by omega]
    · refine ev_aload_n (pc := 14) dX6_turnRound_14 rfl ?_
      refine ev_getf (pc := 15) dX6_turnRound_15 f_X6_11 h.1 rfl ?_
      refine ev_iload_n (pc := 18) dX6_turnRound_18 rfl ?_
      refine ev_caN (pc := 19) dX6_turnRound_19 h.2.1 (by omega) (by decide) ?_
      refine ev_istore (pc := 20) dX6_turnRound_20 rfl ?_
      refine ev_aload_n (pc := 22) dX6_turnRound_22 rfl ?_
      refine ev_getf (pc := 23) dX6_turnRound_23 f_X6_11 h.1 rfl ?_
      refine ev_iload_n (pc := 26) dX6_turnRound_26 rfl ?_
      refine ev_aload_n (pc := 27) dX6_turnRound_27 rfl ?_
      refine ev_getf (pc := 28) dX6_turnRound_28 f_X6_11 h.1 rfl ?_
      refine ev_iload_n (pc := 31) dX6_turnRound_31 rfl ?_
      refine ev_caN (pc := 32) dX6_turnRound_32 h.2.1 (by omega) (by decide) ?_
      refine ev_castN (pc := 33) dX6_turnRound_33 h.2.1 (by omega) (by decide) (h.2.2 _) ?_
      obtain ⟨h2, F2⟩ := tx_put (p := s + t) (x := f (e - 1 - t)) h (h.2.2 _)
      refine ev_aload_n (pc := 34) dX6_turnRound_34 rfl ?_
      refine ev_getf (pc := 35) dX6_turnRound_35 f_X6_11 h2.1 rfl ?_
      refine ev_iload_n (pc := 38) dX6_turnRound_38 rfl ?_
      refine ev_iload (pc := 39) dX6_turnRound_39 rfl ?_
      refine ev_castN (pc := 41) dX6_turnRound_41 h2.2.1 (by omega) (by decide) (h.2.2 _) ?_
      obtain ⟨h3, F3⟩ := tx_put (p := e - 1 - t) (x := f (s + t)) h2 (h.2.2 _)
      refine ev_iincD (pc := 42) dX6_turnRound_42 rfl rfl (by omega) ?_
      refine ev_iincN (pc := 45) dX6_turnRound_45 rfl rfl ?_
      refine ev_goto (pc := 48) (tgt := 9) dX6_turnRound_48 (by decide) ?_
      refine ev_vs [(0, .ref T), (2, .int (nI (e - 1 - (t + 1)))), (3, .int (nI (s + (t + 1))))] ⟨rfl, by rw [show e - 1 - (t + 1) = e - 1 - t - 1 by omega]; rfl, rfl, trivial⟩ ?_
      refine l_tr he he1 hK k (t + 1) _ _ (by omega) (by omega) h3 ((hF.tr F2).tr F3) (fun j hj hje => ?_) (fun j hj => ?_)
      · unfold va_up
        by_cases q1 : j = e - 1 - t
        · rw [if_pos q1, if_pos (by omega), e1 (s + t) (by omega) (by omega), if_neg (by omega)]
          congr 1; omega
        · rw [if_neg q1]
          by_cases q2 : j = s + t
          · rw [if_pos q2, if_pos (by omega), e1 (e - 1 - t) (by omega) (by omega), if_neg (by omega)]
            congr 1; omega
          · rw [if_neg q2, e1 j hj hje]
            by_cases q3 : j < s + t ∨ e - t ≤ j
            · rw [if_pos q3, if_pos (by omega)]
            · rw [if_neg q3, if_neg (by omega)]
      · unfold va_up
        rw [if_neg (by omega), if_neg (by omega)]
        exact e2 j hj
theorem k_turnRound {s : Nat} (hd : 1 ≤ dd) (h : TX H T tc rq f len) (hl : len ≤ 640) (hs : s ≤ len) (h1 : 1 ≤ len) : ev_Ca G dd w m_X6_turnRound [.ref T, .int (nI s)] H 0 0 (ev_ok (fun r h1 => r = none ∧ ∃ f1, TX h1 T tc rq f1 len ∧ TF T tc H h1 ∧ (∀ j, s ≤ j → j < len → f1 j = f (s + (len - 1 - j))) ∧ ∀ j, j < s → f1 j = f j)) := by
  obtain ⟨dd, rfl⟩ : ∃ e, dd = e + 1 := ⟨dd - 1, by omega⟩
  refine ⟨by decide +kernel, rfl, ?_⟩
  refine ev_aload_n (pc := 0) dX6_turnRound_0 rfl ?_
  refine ev_getf (pc := 1) dX6_turnRound_1 f_X6_22 h.1 rfl ?_
  refine ev_iconst (pc := 4) (v := nI 1) dX6_turnRound_4 (by decide) ?_
  refine ev_isubN (pc := 5) dX6_turnRound_5 (by omega) ?_
  refine ev_istore_n (pc := 6) dX6_turnRound_6 rfl ?_
  refine ev_iload_n (pc := 7) dX6_turnRound_7 rfl ?_
  refine ev_istore_n (pc := 8) dX6_turnRound_8 rfl ?_
  refine ev_vs [(0, .ref T), (2, .int (nI (len - 1 - 0))), (3, .int (nI (s + 0)))] ⟨rfl, rfl, rfl, trivial⟩ ?_
  refine l_tr (H0 := H) (f0 := f) hl h1 (fun H1 f1 a1 a2 a3 a4 => ⟨rfl, f1, a1, a2, a3, a4⟩) len 0 H f (by omega) (by omega) h TF.rf (fun j hj hje => ?_) (fun _ _ => rfl)
  rw [if_neg (by omega)]
end TXT
