/-! Shares, read; Fraction; Desk: addTo, addUp, weigh, sameLevel -/
/-- a Shares object: S; sa: the rows' places (0: the row of rows, 1 to 3: prices, counts, floats, 4, 5: the factors' numbers above and below) -/
def SH (H : ev_H) (S : Nat) (sa : Nat → Nat) (P : Nat → Nat → Nat) (fu fd : Nat → Nat) (mem : Nat) : Prop :=
  H S = some (.inr (3, [.ref (sa 0), .ref (sa 4), .ref (sa 5), .int (nI mem)])) ∧ H (sa 0) = some (.inl (.array .int, 3, .inr (.inr (.inr (.inr (fun i => if i < 3 then some (sa (i + 1)) else none)))))) ∧ (∀ k, k < 3 → H (sa (k + 1)) = some (.inl (.int, 8, .inl (fun j => nI (P k j))))) ∧ H (sa 4) = some (.inl (.long, 8, .inr (.inl (fun j => lN (fu j))))) ∧ H (sa 5) = some (.inl (.long, 8, .inr (.inl (fun j => lN (fd j)))))
theorem sh_wf {H h1 : ev_H} {lay : Nat → Nat × Nat} {val : Nat → Nat} {S : Nat} {sa : Nat → Nat} {P : Nat → Nat → Nat} {fu fd : Nat → Nat} {mem : Nat} (hS : WS H lay val) (hF : WF lay H h1) (h : SH H S sa P fu fd mem) : SH h1 S sa P fu fd mem := by
  obtain ⟨a1, a2, a3, a4, a5⟩ := h
  refine ⟨?_, ?_, fun k hk => ?_, ?_, ?_⟩
  · rw [hF _ (ws_out hS a1 (fun fs e => by cases e) (fun f e => by cases e))]; exact a1
  · rw [hF _ (ws_out hS a2 (fun fs e => by cases e) (fun f e => by cases e))]; exact a2
  · rw [hF _ (ws_out hS (a3 k hk) (fun fs e => by cases e) (fun f e => by cases e))]; exact a3 k hk
  · rw [hF _ (ws_out hS a4 (fun fs e => by cases e) (fun f e => by cases e))]; exact a4
  · rw [hF _ (ws_out hS a5 (fun fs e => by cases e) (fun f e => by cases e))]; exact a5
section EVS
variable {G : ev_G} {C : ev_L} {w : Nat} {M : ev_M} {K : ev_K} {pc : Nat} {L : ev_V} {st : List Value} {h : ev_H} {c z : Nat} {S : Nat} {sa : Nat → Nat} {P : Nat → Nat → Nat} {fu fd : Nat → Nat} {mem : Nat}
theorem sh_row {k : Nat} (hd : decode M.2.1 pc = .ok (.aaload, 1)) (hS : SH h S sa P fu fd mem) (hk : k < 3) (kk : ev_J G C w M K (pc + 1, L, .ref (sa (k + 1)) :: st, h, c, z)) : ev_J G C w M K (pc, L, .int (nI k) :: .ref (sa 0) :: st, h, c, z) := ev_aald hd hS.2.1 (vp_in_nI hk (by decide)) (by rw [nI_clamp (by omega), if_pos hk]) kk
theorem ev_laN {i N a : Nat} {g : Nat → Nat} (hd : decode M.2.1 pc = .ok (.laload, 1)) (ha : h a = some (.inl (.long, N, .inr (.inl (fun j => lN (g j)))))) (hi : i < N) (hN : N < 2 ^ 31) (k : ev_J G C w M K (pc + 1, L, .long (lN (g i)) :: st, h, c, z)) : ev_J G C w M K (pc, L, .int (nI i) :: .ref a :: st, h, c, z) := ev_lald hd ha (vp_in_nI hi hN) (ev_tl (by rw [nI_clamp (by omega)]) k)
end EVS
theorem mi_and1 {x : Nat} (h : x < 2 ^ 32) : nI x &&& nI 1 = nI (x % 2) := pk_andN h 1 (by decide)
/-- what a share is worth with the factor 1 -/
def pw (P : Nat → Nat → Nat) (s : Nat) : Nat := P 0 s * P 1 s * P 2 s
/-- values within their bounds -/
def P_ok (P : Nat → Nat → Nat) : Prop := ∀ s, s < 8 → (1 ≤ P 0 s ∧ P 0 s ≤ 9999999) ∧ (1 ≤ P 1 s ∧ P 1 s ≤ 9999999) ∧ (1 ≤ P 2 s ∧ P 2 s ≤ 100)
theorem pw_b {P : Nat → Nat → Nat} (h : P_ok P) {s : Nat} (hs : s < 8) : 1 ≤ pw P s ∧ pw P s < 10000000000000000 := by
  obtain ⟨⟨a1, a2⟩, ⟨b1, b2⟩, ⟨c1, c2⟩⟩ := h s hs
  unfold pw
  have h1 : 1 * 1 ≤ P 0 s * P 1 s := Nat.mul_le_mul a1 b1
  have h2 : P 0 s * P 1 s ≤ 9999999 * 9999999 := Nat.mul_le_mul a2 b2
  have h3 : 1 * 1 ≤ P 0 s * P 1 s * P 2 s := Nat.mul_le_mul (by omega) c1
  have h4 : P 0 s * P 1 s * P 2 s ≤ 9999999 * 9999999 * 100 := Nat.mul_le_mul h2 c2
  omega
section SHR
variable {G : ev_G} {w : Nat} {H : ev_H} {D S : Nat} {lay : Nat → Nat × Nat} {val : Nat → Nat} {i j k dd s : Nat} {sa : Nat → Nat} {P : Nat → Nat → Nat} {fu fd : Nat → Nat} {mem : Nat}
theorem k_isMember (hd : 1 ≤ dd) (h : SH H S sa P fu fd mem) (hm : mem < 256) (hs : s < 8) : ev_Ca G dd w m_X5_isMember [.ref S, .int (nI s)] H 0 0 (ev_ok (fun r h1 => r = some (.int (nI (mem / 2 ^ s % 2))) ∧ h1 = H)) := by
  obtain ⟨dd, rfl⟩ : ∃ e, dd = e + 1 := ⟨dd - 1, by omega⟩
  refine ⟨by decide +kernel, rfl, ?_⟩
  have hle : mem / 2 ^ s ≤ mem := Nat.div_le_self _ _
  refine ev_aload_n (pc := 0) dX5_isMember_0 rfl ?_
  refine ev_getf (pc := 1) dX5_isMember_1 f_X5_30 h.1 rfl ?_
  refine ev_iload_n (pc := 4) dX5_isMember_4 rfl ?_
  refine ev_ishr (pc := 5) dX5_isMember_5 (ev_ti (mi_shr (by omega) (by omega)) ?_)
  refine ev_iconst (pc := 6) (v := nI 1) dX5_isMember_6 (by decide) ?_
  refine ev_iand (pc := 7) dX5_isMember_7 (ev_ti (mi_and1 (by omega)) ?_)
  refine ev_iconst (pc := 8) (v := nI 1) dX5_isMember_8 (by decide) ?_
  refine ev_icmp_neN (pc := 9) (tgt := 16) dX5_isMember_9 (by decide) (by omega) (by omega) (fun c1 => ?_) (fun c1 => ?_)
  · refine ev_iconst (pc := 16) (v := nI 0) dX5_isMember_16 (by decide) ?_
    exact ev_iret (pc := 17) dX5_isMember_17 rfl rfl ⟨by rw [show mem / 2 ^ s % 2 = 0 by omega], rfl⟩
  · refine ev_iconst (pc := 12) (v := nI 1) dX5_isMember_12 (by decide) ?_
    refine ev_goto (pc := 13) (tgt := 17) dX5_isMember_13 (by decide) ?_
    exact ev_iret (pc := 17) dX5_isMember_17 rfl rfl ⟨by rw [c1], rfl⟩
theorem k_hasFactorOne (hd : 1 ≤ dd) (h : SH H S sa P fu fd mem) (hu : fu s < 2 ^ 63) (hdn : fd s < 2 ^ 63) (hs : s < 8) : ev_Ca G dd w m_X5_hasFactorOne [.ref S, .int (nI s)] H 0 0 (ev_ok (fun r h1 => r = some (.int (nI (if fu s = fd s then 1 else 0))) ∧ h1 = H)) := by
  obtain ⟨dd, rfl⟩ : ∃ e, dd = e + 1 := ⟨dd - 1, by omega⟩
  refine ⟨by decide +kernel, rfl, ?_⟩
  refine ev_aload_n (pc := 0) dX5_hasFactorOne_0 rfl ?_
  refine ev_getf (pc := 1) dX5_hasFactorOne_1 f_X5_14 h.1 rfl ?_
  refine ev_iload_n (pc := 4) dX5_hasFactorOne_4 rfl ?_
  refine ev_laN (pc := 5) dX5_hasFactorOne_5 h.2.2.2.1 (by omega) (by omega) ?_
  refine ev_aload_n (pc := 6) dX5_hasFactorOne_6 rfl ?_
  refine ev_getf (pc := 7) dX5_hasFactorOne_7 f_X5_18 h.1 rfl ?_
  refine ev_iload_n (pc := 10) dX5_hasFactorOne_10 rfl ?_
  refine ev_laN (pc := 11) dX5_hasFactorOne_11 h.2.2.2.2 (by omega) (by omega) ?_
  refine ev_lc_ne (pc := 12) (tgt := 20) dX5_hasFactorOne_12 dX5_hasFactorOne_13 (by decide) (by omega) (by omega) (fun c1 => ?_) (fun c1 => ?_)
  · refine ev_iconst (pc := 20) (v := nI 0) dX5_hasFactorOne_20 (by decide) ?_
    exact ev_iret (pc := 21) dX5_hasFactorOne_21 rfl rfl ⟨by rw [if_neg c1], rfl⟩
  · refine ev_iconst (pc := 16) (v := nI 1) dX5_hasFactorOne_16 (by decide) ?_
    refine ev_goto (pc := 17) (tgt := 21) dX5_hasFactorOne_17 (by decide) ?_
    exact ev_iret (pc := 21) dX5_hasFactorOne_21 rfl rfl ⟨by rw [if_pos c1], rfl⟩
theorem k_plainWorth (hd : 1 ≤ dd) (h : SH H S sa P fu fd mem) (hP : P_ok P) (hs : s < 8) : ev_Ca G dd w m_X5_plainWorth [.ref S, .int (nI s)] H 0 0 (ev_ok (fun r h1 => r = some (.long (lN (pw P s))) ∧ h1 = H)) := by
  obtain ⟨dd, rfl⟩ : ∃ e, dd = e + 1 := ⟨dd - 1, by omega⟩
  refine ⟨by decide +kernel, rfl, ?_⟩
  obtain ⟨⟨a1, a2⟩, ⟨b1, b2⟩, ⟨c1, c2⟩⟩ := hP s hs
  refine ev_aload_n (pc := 0) dX5_plainWorth_0 rfl ?_
  refine ev_getf (pc := 1) dX5_plainWorth_1 f_X5_11 h.1 rfl ?_
  refine ev_iconst (pc := 4) (v := nI 0) dX5_plainWorth_4 (by decide) ?_
  refine sh_row (pc := 5) dX5_plainWorth_5 h (by omega) ?_
  refine ev_iload_n (pc := 6) dX5_plainWorth_6 rfl ?_
  refine ev_iaN (pc := 7) dX5_plainWorth_7 (h.2.2.1 0 (by decide)) (by omega) (by omega) ?_
  refine ev_i2lN (pc := 8) dX5_plainWorth_8 (by omega) ?_
  refine ev_aload_n (pc := 9) dX5_plainWorth_9 rfl ?_
  refine ev_getf (pc := 10) dX5_plainWorth_10 f_X5_11 h.1 rfl ?_
  refine ev_iconst (pc := 13) (v := nI 1) dX5_plainWorth_13 (by decide) ?_
  refine sh_row (pc := 14) dX5_plainWorth_14 h (by omega) ?_
  refine ev_iload_n (pc := 15) dX5_plainWorth_15 rfl ?_
  refine ev_iaN (pc := 16) dX5_plainWorth_16 (h.2.2.1 1 (by decide)) (by omega) (by omega) ?_
  refine ev_i2lN (pc := 17) dX5_plainWorth_17 (by omega) ?_
  refine ev_lmulN (pc := 18) dX5_plainWorth_18 ?_
  refine ev_aload_n (pc := 19) dX5_plainWorth_19 rfl ?_
  refine ev_getf (pc := 20) dX5_plainWorth_20 f_X5_11 h.1 rfl ?_
  refine ev_iconst (pc := 23) (v := nI 2) dX5_plainWorth_23 (by decide) ?_
  refine sh_row (pc := 24) dX5_plainWorth_24 h (by omega) ?_
  refine ev_iload_n (pc := 25) dX5_plainWorth_25 rfl ?_
  refine ev_iaN (pc := 26) dX5_plainWorth_26 (h.2.2.1 2 (by decide)) (by omega) (by omega) ?_
  refine ev_i2lN (pc := 27) dX5_plainWorth_27 (by omega) ?_
  refine ev_lmulN (pc := 28) dX5_plainWorth_28 ?_
  exact ev_lret (pc := 29) dX5_plainWorth_29 rfl ⟨rfl, rfl⟩
/-- a fraction: its two numbers are u and u + 1 -/
theorem k_fbecome {F a b u : Nat} (hd : 3 ≤ dd) (hw : 43 ≤ w) (h : DW H D lay val) (hF : H F = some (.inr (2, [.ref (lay u).1, .ref (lay (u + 1)).1]))) (hu : u + 1 < 20) (ha : a < 2 ^ 63) (hb : b < 2 ^ 63) : ev_Ca G dd w m_X2_become [.ref F, .long (lN a), .long (lN b)] H 0 0 (ev_ok (fun r h1 => r = none ∧ dpost H D lay val (fun v2 => v2 u = a ∧ v2 (u + 1) = b ∧ ∀ x, x ≠ u → x ≠ u + 1 → v2 x = val x) h1)) := by
  obtain ⟨dd, rfl⟩ : ∃ e, dd = e + 1 := ⟨dd - 1, by omega⟩
  refine ⟨by decide +kernel, rfl, ?_⟩
  refine ev_aload_n (pc := 0) dX2_become_0 rfl ?_
  refine ev_getf (pc := 1) dX2_become_1 f_X2_10 hF rfl ?_
  refine ev_lload_n (pc := 4) dX2_become_4 rfl ?_
  refine ev_callVe (pc := 5) (As := [.long (lN a)]) dX2_become_5 cv_X2_19 rfl rfl (wi_o (h.2.1 u (by omega))) rfl ⟨by show 19 + 3 ≤ w; omega, show ev_Ca _ _ (w - 22) _ _ _ _ _ _ from t_become (i := u) (by omega) (by omega) h (by omega) ha⟩ rfl rfl (fun r h1 hp => ?_)
  obtain ⟨rfl, hA, hF1⟩ := hp
  have hF' : h1 F = some (.inr (2, [.ref (lay u).1, .ref (lay (u + 1)).1])) := by rw [hF1 F (ws_out h.2.1 hF (fun fs e => by cases e) (fun f e => by cases e))]; exact hF
  refine ev_aload_n (pc := 8) dX2_become_8 rfl ?_
  refine ev_getf (pc := 9) dX2_become_9 f_X2_16 hF' rfl ?_
  refine ev_lload_n (pc := 12) dX2_become_12 rfl ?_
  refine ev_callVe (pc := 13) (As := [.long (lN b)]) dX2_become_13 cv_X2_19 rfl rfl (wi_o (hA.2.1 (u + 1) hu)) rfl ⟨by show 19 + 3 ≤ w; omega, show ev_Ca _ _ (w - 22) _ _ _ _ _ _ from t_become (i := u + 1) (by omega) (by omega) hA hu hb⟩ rfl rfl (fun r h1 hp => ?_)
  obtain ⟨rfl, hB, hF2⟩ := hp
  refine ev_vret (pc := 16) dX2_become_16 rfl ⟨rfl, _, hB, ⟨?_, ?_, fun x a b => ?_⟩, hF1.tr hF2⟩
  · rw [va_up_ne _ _ (by omega), va_up_self]
  · rw [va_up_self]
  · rw [va_up_ne _ _ b, va_up_ne _ _ a]
theorem k_fcopy {F F2 u v : Nat} (hd : 2 ≤ dd) (hw : 47 ≤ w) (h : DW H D lay val) (hF : H F = some (.inr (2, [.ref (lay u).1, .ref (lay (u + 1)).1]))) (hF2 : H F2 = some (.inr (2, [.ref (lay v).1, .ref (lay (v + 1)).1]))) (hu : u + 1 < 20) (hv : v + 1 < 20) (huv : u + 1 < v ∨ v + 1 < u) : ev_Ca G dd w m_X2_copy [.ref F, .ref F2] H 0 0 (ev_ok (fun r h1 => r = none ∧ dpost H D lay val (fun v2 => v2 u = val v ∧ v2 (u + 1) = val (v + 1) ∧ ∀ x, x ≠ u → x ≠ u + 1 → v2 x = val x) h1)) := by
  obtain ⟨dd, rfl⟩ : ∃ e, dd = e + 1 := ⟨dd - 1, by omega⟩
  refine ⟨by decide +kernel, rfl, ?_⟩
  refine ev_aload_n (pc := 0) dX2_copy_0 rfl ?_
  refine ev_getf (pc := 1) dX2_copy_1 f_X2_10 hF rfl ?_
  refine ev_aload_n (pc := 4) dX2_copy_4 rfl ?_
  refine ev_getf (pc := 5) dX2_copy_5 f_X2_10 hF2 rfl ?_
  refine ev_callVe (pc := 8) (As := [.ref (lay v).1]) dX2_copy_8 cv_X2_23 rfl rfl (wi_o (h.2.1 u (by omega))) rfl ⟨by show 19 + 2 ≤ w; omega, show ev_Ca _ _ (w - 21) _ _ _ _ _ _ from t_copy (i := u) (j := v) (by omega) (by omega) h (by omega) (by omega) (by omega)⟩ rfl rfl (fun r h1 hp => ?_)
  obtain ⟨rfl, hA, hF1⟩ := hp
  have hG : h1 F = some (.inr (2, [.ref (lay u).1, .ref (lay (u + 1)).1])) := by rw [hF1 F (ws_out h.2.1 hF (fun fs e => by cases e) (fun f e => by cases e))]; exact hF
  have hG2 : h1 F2 = some (.inr (2, [.ref (lay v).1, .ref (lay (v + 1)).1])) := by rw [hF1 F2 (ws_out h.2.1 hF2 (fun fs e => by cases e) (fun f e => by cases e))]; exact hF2
  refine ev_aload_n (pc := 11) dX2_copy_11 rfl ?_
  refine ev_getf (pc := 12) dX2_copy_12 f_X2_16 hG rfl ?_
  refine ev_aload_n (pc := 15) dX2_copy_15 rfl ?_
  refine ev_getf (pc := 16) dX2_copy_16 f_X2_16 hG2 rfl ?_
  refine ev_callVe (pc := 19) (As := [.ref (lay (v + 1)).1]) dX2_copy_19 cv_X2_23 rfl rfl (wi_o (hA.2.1 (u + 1) hu)) rfl ⟨by show 19 + 2 ≤ w; omega, show ev_Ca _ _ (w - 21) _ _ _ _ _ _ from t_copy (i := u + 1) (j := v + 1) (by omega) (by omega) hA hu hv (by omega)⟩ rfl rfl (fun r h1 hp => ?_)
  obtain ⟨rfl, hB, hF3⟩ := hp
  rw [va_up_ne _ _ (show v + 1 ≠ u by omega)] at hB
  refine ev_vret (pc := 22) dX2_copy_22 rfl ⟨rfl, _, hB, ⟨?_, ?_, fun x a b => ?_⟩, hF1.tr hF3⟩
  · rw [va_up_ne _ _ (by omega), va_up_self]
  · rw [va_up_self]
  · rw [va_up_ne _ _ b, va_up_ne _ _ a]
theorem mb_bits_le {v n : Nat} (h : v < 2 ^ n) : mb_bits v ≤ n := by
  unfold mb_bits
  split
  · omega
  · rename_i e
    have := (Nat.log2_lt e).mpr h
    omega
theorem k_mostDigits {F u : Nat} (hd : 3 ≤ dd) (hw : 41 ≤ w) (h : DW H D lay val) (hF : H F = some (.inr (2, [.ref (lay u).1, .ref (lay (u + 1)).1]))) (hu : u + 1 < 20) : ev_Ca G dd w m_X2_mostDigits [.ref F] H 0 0 (ev_ok (fun r h1 => r = some (.int (nI (max (mb_bits (val u)) (mb_bits (val (u + 1)))))) ∧ h1 = H)) := by
  obtain ⟨dd, rfl⟩ : ∃ e, dd = e + 1 := ⟨dd - 1, by omega⟩
  refine ⟨by decide +kernel, rfl, ?_⟩
  have hb : ∀ x, x < 20 → mb_bits (val x) ≤ 2160 := fun x hx => by
    obtain ⟨g, n, -, -, m⟩ := h.2.1 x hx
    refine mb_bits_le ?_
    have h1 := mb_is_lt m
    have h2 : 1073741824 ^ n ≤ 1073741824 ^ 72 := Nat.pow_le_pow_right (by decide) m.2.2.2.1
    have h3 : (1073741824 : Nat) ^ 72 = 2 ^ 2160 := by rw [show (1073741824 : Nat) = 2 ^ 30 by decide, ← Nat.pow_mul]
    omega
  have b1 := hb u (by omega)
  have b2 := hb (u + 1) hu
  refine ev_aload_n (pc := 0) dX2_mostDigits_0 rfl ?_
  refine ev_getf (pc := 1) dX2_mostDigits_1 f_X2_10 hF rfl ?_
  refine ev_callVe (pc := 4) (As := []) dX2_mostDigits_4 cv_X2_27 rfl rfl (wi_o (h.2.1 u (by omega))) rfl ⟨by show 19 + 1 ≤ w; omega, show ev_Ca _ _ (w - 20) _ _ _ _ _ _ from t_binaryDigits (by omega) (by omega) h (by omega)⟩ rfl rfl (fun r h1 hp => ?_)
  obtain ⟨rfl, rfl⟩ := hp
  refine ev_aload_n (pc := 7) dX2_mostDigits_7 rfl ?_
  refine ev_getf (pc := 8) dX2_mostDigits_8 f_X2_16 hF rfl ?_
  refine ev_callVe (pc := 11) (As := []) dX2_mostDigits_11 cv_X2_27 rfl rfl (wi_o (h.2.1 (u + 1) hu)) rfl ⟨by show 19 + 1 ≤ w; omega, show ev_Ca _ _ (w - 20) _ _ _ _ _ _ from t_binaryDigits (by omega) (by omega) h hu⟩ rfl rfl (fun r h1 hp => ?_)
  obtain ⟨rfl, rfl⟩ := hp
  refine ev_mmax (pc := 14) dX2_mostDigits_14 mx_X2_31 rfl (by omega) (ev_ti (mi_max (by omega) (by omega)) ?_)
  exact ev_iret (pc := 17) dX2_mostDigits_17 rfl rfl ⟨rfl, rfl⟩
/-- a share's worth, added to a fraction -/
theorem k_addTo {F u pl up dn : Nat} (hd : 5 ≤ dd) (hw : 94 ≤ w) (h : DW H D lay val) (hF : H F = some (.inr (2, [.ref (lay u).1, .ref (lay (u + 1)).1]))) (hu : u + 1 < 20) (hu9 : 9 ≤ u) (hpl : pl < 2 ^ 54) (hup : up < 2 ^ 63) (hdn : dn < 2 ^ 63) (hdn0 : 0 < dn) (hpl0 : 0 < pl) (hv1 : val u < 2 ^ 1000) (hv2 : val (u + 1) < 2 ^ 1000) : ev_Ca G dd w m_X1_addTo [.ref D, .ref F, .long (lN pl), .long (lN up), .long (lN dn)] H 0 0 (ev_ok (fun r h1 => r = none ∧ dpost H D lay val (fun v2 => v2 u = val u * (dn / Nat.gcd pl dn) + pl / Nat.gcd pl dn * up * val (u + 1) ∧ v2 (u + 1) = val (u + 1) * (dn / Nat.gcd pl dn) ∧ ∀ x, 9 ≤ x → x ≠ u → x ≠ u + 1 → v2 x = val x) h1)) := by
  obtain ⟨dd, rfl⟩ : ∃ e, dd = e + 1 := ⟨dd - 1, by omega⟩
  refine ⟨by decide +kernel, rfl, ?_⟩
  obtain ⟨g, hg⟩ : ∃ g, g = Nat.gcd pl dn := ⟨_, rfl⟩
  have g0 : 0 < g := by rw [hg]; exact Nat.gcd_pos_of_pos_left _ hpl0
  have g1 : g ≤ pl := by rw [hg]; exact Nat.gcd_le_left _ hpl0
  have hdg : dn / g ≤ dn := Nat.div_le_self _ _
  have hpg : pl / g ≤ pl := Nat.div_le_self _ _
  have hB : (1073741824 : Nat) ^ 71 = 2 ^ 2130 := by rw [show (1073741824 : Nat) = 2 ^ 30 by decide, ← Nat.pow_mul]
  have hB2 : (2 : Nat) ^ 2130 ≤ 1073741824 ^ 72 := by rw [← hB]; exact Nat.pow_le_pow_right (by decide) (by decide)
  have mul2 : ∀ {a b x y : Nat}, a < 2 ^ x → b < 2 ^ y → a * b < 2 ^ (x + y) := fun {a b x y} ha hb => by
    rw [Nat.pow_add]
    exact Nat.mul_lt_mul'' ha hb
  have le2 : ∀ {a x y : Nat}, x ≤ y → a < 2 ^ x → a < 2 ^ y := fun hxy ha => Nat.lt_of_lt_of_le ha (Nat.pow_le_pow_right (by decide) hxy)
  refine ev_lconst (pc := 0) (v := lN 1) dX1_addTo_0 (by decide) ?_
  refine ev_lload_n (pc := 1) dX1_addTo_1 rfl ?_
  refine ev_lload (pc := 2) dX1_addTo_2 rfl ?_
  refine ev_callS (pc := 4) (As := [.long (lN pl), .long (lN dn)]) dX1_addTo_4 cs_X1_108 rfl rfl ⟨by show 19 + 11 ≤ w; omega, show ev_Ca _ _ (w - 30) _ _ _ _ _ _ from k_commonDivisor (by omega) (by omega) hdn⟩ rfl rfl (fun r h1 hp => ?_)
  obtain ⟨rfl, hH⟩ := hp
  rw [hH, ← hg]
  clear hH h1
  refine ev_mmaxl (pc := 7) dX1_addTo_7 mx_X1_141 rfl (by omega) (ev_tl (y := lN g) (if_neg (fun e => by have := (pk_lLT (by omega) (by decide)).mp e; omega)) ?_)
  refine ev_lstore (pc := 10) dX1_addTo_10 rfl ?_
  refine ev_lload (pc := 12) dX1_addTo_12 rfl ?_
  refine ev_lload (pc := 14) dX1_addTo_14 rfl ?_
  refine ev_ldivN (pc := 16) dX1_addTo_16 (by omega) (by omega) (by omega) ?_
  refine ev_lstore (pc := 17) dX1_addTo_17 rfl ?_
  refine ev_aload_n (pc := 19) dX1_addTo_19 rfl ?_
  refine ev_getf (pc := 20) dX1_addTo_20 f_X1_28 h.2.2 rfl ?_
  refine ev_lload_n (pc := 23) dX1_addTo_23 rfl ?_
  refine ev_lload (pc := 24) dX1_addTo_24 rfl ?_
  refine ev_ldivN (pc := 26) dX1_addTo_26 (by omega) (by omega) (by omega) ?_
  refine ev_callVe (pc := 27) (As := [.long (lN (pl / g))]) dX1_addTo_27 cv_X1_48 rfl rfl (wi_o (h.2.1 5 (by decide))) rfl ⟨by show 19 + 3 ≤ w; omega, show ev_Ca _ _ (w - 22) _ _ _ _ _ _ from t_become (i := 5) (by omega) (by omega) h (by decide) (by omega)⟩ rfl rfl (fun r h1 hp => ?_)
  obtain ⟨rfl, hA, hF1⟩ := hp
  have e5 : va_up val 5 (pl / g) 5 = pl / g := va_up_self ..
  have hT1 : pl / g * up < 2 ^ 117 := mul2 (x := 54) (y := 63) (by omega) hup
  refine ev_aload_n (pc := 30) dX1_addTo_30 rfl ?_
  refine ev_aload_n (pc := 31) dX1_addTo_31 rfl ?_
  refine ev_getf (pc := 32) dX1_addTo_32 f_X1_28 hA.2.2 rfl ?_
  refine ev_lload (pc := 35) dX1_addTo_35 rfl ?_
  refine ev_callV (pc := 37) (As := [.ref (lay 5).1, .long (lN up)]) dX1_addTo_37 cv_X1_146 rfl rfl hA.2.2 rfl ⟨by show 19 + 4 ≤ w; omega, show ev_Ca _ _ (w - 23) _ _ _ _ _ _ from k_scale (i := 5) (by omega) (by omega) hA (by decide) (by decide) (by decide) hup (by rw [e5, hB]; exact le2 (by decide) hT1)⟩ rfl rfl (fun r h1 hp => ?_)
  obtain ⟨rfl, v2, hC, ⟨q1, q2⟩, hF2⟩ := hp
  rw [e5] at q1
  have hFs : ∀ {x : ev_H}, WF lay H x → x F = some (.inr (2, [.ref (lay u).1, .ref (lay (u + 1)).1])) := fun hx => by rw [hx F (ws_out h.2.1 hF (fun fs e => by cases e) (fun f e => by cases e))]; exact hF
  have f2d : v2 (u + 1) = val (u + 1) := by rw [q2 _ (by omega) (by omega) (by omega), va_up_ne _ _ (by omega)]
  have hT2 : pl / g * up * val (u + 1) < 2 ^ 1117 := mul2 (x := 117) (y := 1000) hT1 hv2
  have hG2 := hFs (hF1.tr hF2)
  refine ev_aload_n (pc := 40) dX1_addTo_40 rfl ?_
  refine ev_aload_n (pc := 41) dX1_addTo_41 rfl ?_
  refine ev_getf (pc := 42) dX1_addTo_42 f_X1_28 hC.2.2 rfl ?_
  refine ev_aload_n (pc := 45) dX1_addTo_45 rfl ?_
  refine ev_getf (pc := 46) dX1_addTo_46 f_X1_150 hG2 rfl ?_
  refine ev_callV (pc := 49) (As := [.ref (lay 5).1, .ref (lay (u + 1)).1]) dX1_addTo_49 cv_X1_153 rfl rfl hC.2.2 rfl ⟨by show 19 + 3 ≤ w; omega, show ev_Ca _ _ (w - 22) _ _ _ _ _ _ from k_multiply (i := 5) (j := u + 1) (by omega) (by omega) hC (by decide) hu (by decide) (by omega) (by rw [q1, f2d, hB]; exact le2 (by decide) hT2)⟩ rfl rfl (fun r h1 hp => ?_)
  obtain ⟨rfl, v3, hE, ⟨r1, r2⟩, hF3⟩ := hp
  rw [q1, f2d] at r1
  have f3u : v3 u = val u := by rw [r2 _ (by omega) (by omega), q2 _ (by omega) (by omega) (by omega), va_up_ne _ _ (by omega)]
  have f3d : v3 (u + 1) = val (u + 1) := by rw [r2 _ (by omega) (by omega), f2d]
  have hT3 : val u * (dn / g) < 2 ^ 1063 := mul2 (x := 1000) (y := 63) hv1 (by omega)
  have hT4 : val (u + 1) * (dn / g) < 2 ^ 1063 := mul2 (x := 1000) (y := 63) hv2 (by omega)
  have hG3 := hFs ((hF1.tr hF2).tr hF3)
  refine ev_aload_n (pc := 52) dX1_addTo_52 rfl ?_
  refine ev_aload_n (pc := 53) dX1_addTo_53 rfl ?_
  refine ev_getf (pc := 54) dX1_addTo_54 f_X1_156 hG3 rfl ?_
  refine ev_lload (pc := 57) dX1_addTo_57 rfl ?_
  refine ev_callV (pc := 59) (As := [.ref (lay u).1, .long (lN (dn / g))]) dX1_addTo_59 cv_X1_146 rfl rfl hE.2.2 rfl ⟨by show 19 + 4 ≤ w; omega, show ev_Ca _ _ (w - 23) _ _ _ _ _ _ from k_scale (i := u) (by omega) (by omega) hE (by omega) (by omega) (by omega) (by omega) (by rw [f3u, hB]; exact le2 (by decide) hT3)⟩ rfl rfl (fun r h1 hp => ?_)
  obtain ⟨rfl, v4, hI, ⟨s1, s2⟩, hF4⟩ := hp
  rw [f3u] at s1
  have f4d : v4 (u + 1) = val (u + 1) := by rw [s2 _ (by omega) (by omega) (by omega), f3d]
  have f45 : v4 5 = pl / g * up * val (u + 1) := by rw [s2 _ (by omega) (by decide) (by decide), r1]
  have hG4 := hFs (((hF1.tr hF2).tr hF3).tr hF4)
  refine ev_aload_n (pc := 62) dX1_addTo_62 rfl ?_
  refine ev_aload_n (pc := 63) dX1_addTo_63 rfl ?_
  refine ev_getf (pc := 64) dX1_addTo_64 f_X1_150 hG4 rfl ?_
  refine ev_lload (pc := 67) dX1_addTo_67 rfl ?_
  refine ev_callV (pc := 69) (As := [.ref (lay (u + 1)).1, .long (lN (dn / g))]) dX1_addTo_69 cv_X1_146 rfl rfl hI.2.2 rfl ⟨by show 19 + 4 ≤ w; omega, show ev_Ca _ _ (w - 23) _ _ _ _ _ _ from k_scale (i := u + 1) (by omega) (by omega) hI hu (by omega) (by omega) (by omega) (by rw [f4d, hB]; exact le2 (by decide) hT4)⟩ rfl rfl (fun r h1 hp => ?_)
  obtain ⟨rfl, v5, hJ, ⟨t1, t2⟩, hF5⟩ := hp
  rw [f4d] at t1
  have f5u : v5 u = val u * (dn / g) := by rw [t2 _ (by omega) (by omega) (by omega), s1]
  have f55 : v5 5 = pl / g * up * val (u + 1) := by rw [t2 _ (by omega) (by decide) (by decide), f45]
  have hG5 := hFs ((((hF1.tr hF2).tr hF3).tr hF4).tr hF5)
  refine ev_aload_n (pc := 72) dX1_addTo_72 rfl ?_
  refine ev_getf (pc := 73) dX1_addTo_73 f_X1_156 hG5 rfl ?_
  refine ev_aload_n (pc := 76) dX1_addTo_76 rfl ?_
  refine ev_getf (pc := 77) dX1_addTo_77 f_X1_28 hJ.2.2 rfl ?_
  have hT5 : v5 u + v5 5 < 1073741824 ^ 72 := by
    rw [f5u, f55]
    have h3 : val u * (dn / g) < 2 ^ 2129 := le2 (by decide) hT3
    have h4 : pl / g * up * val (u + 1) < 2 ^ 2129 := le2 (by decide) hT2
    have h5 : (2 : Nat) ^ 2130 = 2 ^ 2129 * 2 := Nat.pow_succ ..
    omega
  refine ev_callVe (pc := 80) (As := [.ref (lay 5).1]) dX1_addTo_80 cv_X1_159 rfl rfl (wi_o (hJ.2.1 u (by omega))) rfl ⟨by show 19 + 6 ≤ w; omega, show ev_Ca _ _ (w - 25) _ _ _ _ _ _ from t_add (i := u) (j := 5) (by omega) (by omega) hJ (by omega) (by decide) (by omega) hT5⟩ rfl rfl (fun r h1 hp => ?_)
  obtain ⟨rfl, hM, hF6⟩ := hp
  refine ev_vret (pc := 83) dX1_addTo_83 rfl ⟨rfl, _, hM, ⟨?_, ?_, fun x a b c => ?_⟩, ((((hF1.tr hF2).tr hF3).tr hF4).tr hF5).tr hF6⟩
  · rw [va_up_self, f5u, f55]
  · rw [va_up_ne _ _ (by omega), t1]
  · rw [va_up_ne _ _ b, t2 _ c (by omega) (by omega), s2 _ b (by omega) (by omega), r2 _ (by omega) (by omega), q2 _ (by omega) (by omega) (by omega), va_up_ne _ _ (by omega)]
end SHR
