/-! THE REFERENCE: registers -/
def rp (h : ev_H) (lm sz : Nat) (L s : Nat → Nat) : ev_H := ev_up (ev_up h lm (.inl (.int, 6580, .inl (fun j => nI (L j))))) sz (.inl (.int, 47, .inl (fun j => nI (s j))))
def RM (h : ev_H) (M lm sz : Nat) (rest : List Value) : Prop := lm ≠ sz ∧ M ≠ lm ∧ M ≠ sz ∧ h M = some (.inr (7, .ref lm :: .ref sz :: rest))
/-- the register i holds v -/
def rv (L s : Nat → Nat) (i v : Nat) : Prop := s i ≤ 140 ∧ (∀ k, k < s i → L (140 * i + k) < 1073741824) ∧ (0 < s i → L (140 * i + (s i - 1)) ≠ 0) ∧ mb_v (fun k => L (140 * i + k)) (s i) = v
def RV (L s v : Nat → Nat) : Prop := ∀ i, i < 47 → rv L s i (v i)
theorem mb_vcg {g g2 : Nat → Nat} : ∀ n, (∀ k, k < n → g k = g2 k) → mb_v g n = mb_v g2 n
  | 0, _ => rfl
  | n + 1, h => by
    show mb_v g n + g n * 1073741824 ^ n = mb_v g2 n + g2 n * 1073741824 ^ n
    rw [mb_vcg n (fun k hk => h k (by omega)), h n (by omega)]
theorem rv_cg {L s L2 s2 : Nat → Nat} {i v : Nat} (h : rv L s i v) (e1 : s2 i = s i) (e2 : ∀ k, k < s i → L2 (140 * i + k) = L (140 * i + k)) : rv L2 s2 i v := by
  obtain ⟨a1, a2, a3, a4⟩ := h
  refine ⟨by rw [e1]; exact a1, fun k hk => ?_, fun hp => ?_, ?_⟩
  · rw [e1] at hk; rw [e2 k hk]; exact a2 k hk
  · rw [e1] at hp ⊢; rw [e2 _ (by omega)]; exact a3 hp
  · rw [e1, mb_vcg (s i) e2]; exact a4
section REF
variable {G : ev_G} {w : Nat} {h : ev_H} {M lm sz r o j k dd : Nat} {rest : List Value} {L s v : Nat → Nat}
theorem rp_L (hM : RM h M lm sz rest) : rp h lm sz L s lm = some (.inl (.int, 6580, .inl (fun j => nI (L j)))) := ev_nee hM.1 ev_eqq
theorem rp_S : rp h lm sz L s sz = some (.inl (.int, 47, .inl (fun j => nI (s j)))) := ev_eqq
theorem rp_M (hM : RM h M lm sz rest) : rp h lm sz L s M = some (.inr (7, .ref lm :: .ref sz :: rest)) := ev_nee hM.2.2.1 (ev_nee hM.2.1 hM.2.2.2)
theorem rp_uL {x : Nat} (hM : RM h M lm sz rest) (hj : j < 6580) : ev_up (rp h lm sz L s) lm (.inl (.int, 6580, .inl (upd (fun j => nI (L j)) (nI j).toNatClampNeg (nI x)))) = rp h lm sz (va_up L j x) s := by
  rw [wh_upd _ _ _ (by omega)]
  funext q
  unfold rp ev_up
  have := hM.1
  by_cases e : q = lm
  · subst e; rw [if_pos rfl, if_neg this, if_pos rfl]
  · rw [if_neg e]
    by_cases e2 : q = sz
    · rw [if_pos e2, if_pos e2]
    · rw [if_neg e2, if_neg e2, if_neg e, if_neg e]
theorem rp_uS {x : Nat} (hj : j < 47) : ev_up (rp h lm sz L s) sz (.inl (.int, 47, .inl (upd (fun j => nI (s j)) (nI j).toNatClampNeg (nI x)))) = rp h lm sz L (va_up s j x) := by
  rw [wh_upd _ _ _ (by omega)]
  funext q
  unfold rp ev_up
  by_cases e2 : q = sz
  · rw [if_pos e2, if_pos e2]
  · rw [if_neg e2, if_neg e2, if_neg e2]
theorem k_in {x : Int32} {lo hi : Nat} (hd : 1 ≤ dd) (hl : lo < 2 ^ 31) (hh : hi < 2 ^ 31) {H : ev_H} : ev_Ca G dd w m_X9_in [.int x, .int (nI lo), .int (nI hi)] H 0 0 (ev_ok (fun r h1 => r = some (.int (nI (rb x lo hi))) ∧ h1 = H)) := by
  obtain ⟨dd, rfl⟩ : ∃ e, dd = e + 1 := ⟨dd - 1, by omega⟩
  refine ⟨by decide +kernel, rfl, ?_⟩
  have i1 := i32_le (x := x) (n := lo) hl
  have i2 := i32_le (x := x) (n := hi) hh
  refine ev_iload_n (pc := 0) dX9_in_0 rfl ?_
  refine ev_iload_n (pc := 1) dX9_in_1 rfl ?_
  refine ev_icmp_lt (pc := 2) (tgt := 14) dX9_in_2 (by decide) (fun c1 => ?_) (fun c1 => ?_)
  · have n1 := i1.2.1.mp c1
    refine ev_iconst (pc := 14) (v := nI 0) dX9_in_14 (by decide) ?_
    exact ev_iret (pc := 15) dX9_in_15 rfl rfl ⟨by rw [rb_0 (fun q => by have := q.1; omega)], rfl⟩
  · have n1 : (lo : Int) ≤ x.toInt := Int.not_lt.mp (fun q => c1 (i1.2.1.mpr q))
    refine ev_iload_n (pc := 5) dX9_in_5 rfl ?_
    refine ev_iload_n (pc := 6) dX9_in_6 rfl ?_
    refine ev_icmp_gt (pc := 7) (tgt := 14) dX9_in_7 (by decide) (fun c2 => ?_) (fun c2 => ?_)
    · have n2 := i2.2.2.1.mp c2
      refine ev_iconst (pc := 14) (v := nI 0) dX9_in_14 (by decide) ?_
      exact ev_iret (pc := 15) dX9_in_15 rfl rfl ⟨by rw [rb_0 (fun q => by have := q.2; omega)], rfl⟩
    · have n2 : x.toInt ≤ hi := Int.not_lt.mp (fun q => c2 (i2.2.2.1.mpr q))
      refine ev_iconst (pc := 10) (v := nI 1) dX9_in_10 (by decide) ?_
      refine ev_goto (pc := 11) (tgt := 15) dX9_in_11 (by decide) ?_
      exact ev_iret (pc := 15) dX9_in_15 rfl rfl ⟨by rw [rb_1 ⟨n1, n2⟩], rfl⟩
theorem k_limb (hd : 1 ≤ dd) (hM : RM h M lm sz rest) (hr : r < 47) (hs : s r ≤ 140) (hk : k < 140) : ev_Ca G dd w m_X9_limb [.ref M, .int (nI r), .int (nI k)] (rp h lm sz L s) 0 0 (ev_ok (fun x h1 => x = some (.int (nI (if k < s r then L (140 * r + k) else 0))) ∧ h1 = rp h lm sz L s)) := by
  obtain ⟨dd, rfl⟩ : ∃ e, dd = e + 1 := ⟨dd - 1, by omega⟩
  refine ⟨by decide +kernel, rfl, ?_⟩
  refine ev_iload_n (pc := 0) dX9_limb_0 rfl ?_
  refine ev_aload_n (pc := 1) dX9_limb_1 rfl ?_
  refine ev_getf (pc := 2) dX9_limb_2 f_X9_13 (rp_M hM) rfl ?_
  refine ev_iload_n (pc := 5) dX9_limb_5 rfl ?_
  refine ev_iaN (pc := 6) dX9_limb_6 rp_S (by omega) (by omega) ?_
  refine ev_icmp_geN (pc := 7) (tgt := 25) dX9_limb_7 (by decide) (by omega) (by omega) (fun c1 => ?_) (fun c1 => ?_)
  · refine ev_iconst (pc := 25) (v := nI 0) dX9_limb_25 (by decide) ?_
    exact ev_iret (pc := 26) dX9_limb_26 rfl rfl ⟨by rw [if_neg (by omega)], rfl⟩
  · refine ev_aload_n (pc := 10) dX9_limb_10 rfl ?_
    refine ev_getf (pc := 11) dX9_limb_11 f_X9_7 (rp_M hM) rfl ?_
    refine ev_sipush (pc := 14) (v := nI 140) dX9_limb_14 (by decide) ?_
    refine ev_iload_n (pc := 17) dX9_limb_17 rfl ?_
    refine ev_imulN (pc := 18) dX9_limb_18 ?_
    refine ev_iload_n (pc := 19) dX9_limb_19 rfl ?_
    refine ev_iaddN (pc := 20) dX9_limb_20 ?_
    refine ev_iaN (pc := 21) dX9_limb_21 (rp_L hM) (by omega) (by omega) ?_
    refine ev_goto (pc := 22) (tgt := 26) dX9_limb_22 (by decide) ?_
    exact ev_iret (pc := 26) dX9_limb_26 rfl rfl ⟨by rw [if_pos c1], rfl⟩
theorem l_rcopy {K : ev_K} {c z : Nat} {L0 : Nat → Nat} (hM : RM h M lm sz rest) (hr : r < 47) (ho : o < 47) (hro : r ≠ o) (hs : s o ≤ 140)
    (hK : ∀ L, (∀ i, i < s o → L (140 * r + i) = L0 (140 * o + i)) → (∀ x, (x < 140 * r ∨ 140 * r + 140 ≤ x) → L x = L0 x) → K (.inl none) (rp h lm sz L (va_up s r (s o)))) :
    ∀ k j L, j + k = s o → (∀ i, i < j → L (140 * r + i) = L0 (140 * o + i)) → (∀ x, (x < 140 * r ∨ 140 * r + 140 ≤ x) → L x = L0 x) → ev_J G (ev_cc G dd w) w m_X9_copy K (2, ev_lf [(0, .ref M), (1, .int (nI r)), (2, .int (nI o)), (3, .int (nI j))], [], rp h lm sz L s, c, z)
  | 0, j, L, e, e1, e2 => by
    refine ev_iload_n (pc := 2) dX9_copy_2 rfl ?_
    refine ev_aload_n (pc := 3) dX9_copy_3 rfl ?_
    refine ev_getf (pc := 4) dX9_copy_4 f_X9_13 (rp_M hM) rfl ?_
    refine ev_iload_n (pc := 7) dX9_copy_7 rfl ?_
    refine ev_iaN (pc := 8) dX9_copy_8 rp_S (by omega) (by omega) ?_
    refine ev_icmp_geN (pc := 9) (tgt := 42) dX9_copy_9 (by decide) (by omega) (by omega) (fun c1 => ?_) (fun c1 => ?_)
    · refine ev_aload_n (pc := 42) dX9_copy_42 rfl ?_
      refine ev_getf (pc := 43) dX9_copy_43 f_X9_13 (rp_M hM) rfl ?_
      refine ev_iload_n (pc := 46) dX9_copy_46 rfl ?_
      refine ev_aload_n (pc := 47) dX9_copy_47 rfl ?_
      refine ev_getf (pc := 48) dX9_copy_48 f_X9_13 (rp_M hM) rfl ?_
      refine ev_iload_n (pc := 51) dX9_copy_51 rfl ?_
      refine ev_iaN (pc := 52) dX9_copy_52 rp_S (by omega) (by omega) ?_
      refine ev_iast (pc := 53) dX9_copy_53 rp_S (vp_in_nI hr (by decide)) ?_
      refine ev_th (rp_uS hr) ?_
      exact ev_vret (pc := 54) dX9_copy_54 rfl (hK L (fun i hi => e1 i (by omega)) e2)
    · omega
  | k + 1, j, L, e, e1, e2 => by
    refine ev_iload_n (pc := 2) dX9_copy_2 rfl ?_
    refine ev_aload_n (pc := 3) dX9_copy_3 rfl ?_
    refine ev_getf (pc := 4) dX9_copy_4 f_X9_13 (rp_M hM) rfl ?_
    refine ev_iload_n (pc := 7) dX9_copy_7 rfl ?_
    refine ev_iaN (pc := 8) dX9_copy_8 rp_S (by omega) (by omega) ?_
    refine ev_icmp_geN (pc := 9) (tgt := 42) dX9_copy_9 (by decide) (by omega) (by omega) (fun c1 => ?_) (fun c1 => ?_)
    · omega
    · refine ev_aload_n (pc := 12) dX9_copy_12 rfl ?_
      refine ev_getf (pc := 13) dX9_copy_13 f_X9_7 (rp_M hM) rfl ?_
      refine ev_sipush (pc := 16) (v := nI 140) dX9_copy_16 (by decide) ?_
      refine ev_iload_n (pc := 19) dX9_copy_19 rfl ?_
      refine ev_imulN (pc := 20) dX9_copy_20 ?_
      refine ev_iload_n (pc := 21) dX9_copy_21 rfl ?_
      refine ev_iaddN (pc := 22) dX9_copy_22 ?_
      refine ev_aload_n (pc := 23) dX9_copy_23 rfl ?_
      refine ev_getf (pc := 24) dX9_copy_24 f_X9_7 (rp_M hM) rfl ?_
      refine ev_sipush (pc := 27) (v := nI 140) dX9_copy_27 (by decide) ?_
      refine ev_iload_n (pc := 30) dX9_copy_30 rfl ?_
      refine ev_imulN (pc := 31) dX9_copy_31 ?_
      refine ev_iload_n (pc := 32) dX9_copy_32 rfl ?_
      refine ev_iaddN (pc := 33) dX9_copy_33 ?_
      refine ev_iaN (pc := 34) dX9_copy_34 (rp_L hM) (by omega) (by omega) ?_
      refine ev_iast (pc := 35) dX9_copy_35 (rp_L hM) (vp_in_nI (by omega) (by decide)) ?_
      refine ev_th (rp_uL hM (by omega)) ?_
      refine ev_iincN (pc := 36) dX9_copy_36 rfl rfl ?_
      refine ev_goto (pc := 39) (tgt := 2) dX9_copy_39 (by decide) ?_
      refine ev_vs [(0, .ref M), (1, .int (nI r)), (2, .int (nI o)), (3, .int (nI (j + 1)))] ⟨rfl, rfl, rfl, rfl, trivial⟩ ?_
      refine l_rcopy hM hr ho hro hs hK k (j + 1) _ (by omega) (fun i hi => ?_) (fun x hx => ?_)
      · unfold va_up
        by_cases q : i = j
        · rw [if_pos (by omega), q]
          exact e2 _ (by omega)
        · rw [if_neg (by omega)]; exact e1 i (by omega)
      · unfold va_up
        rw [if_neg (by omega)]; exact e2 x hx
theorem k_rcopy (hd : 1 ≤ dd) (hM : RM h M lm sz rest) (hr : r < 47) (ho : o < 47) (hro : r ≠ o) (hV : RV L s v) : ev_Ca G dd w m_X9_copy [.ref M, .int (nI r), .int (nI o)] (rp h lm sz L s) 0 0 (ev_ok (fun x h1 => x = none ∧ ∃ L2 s2, h1 = rp h lm sz L2 s2 ∧ RV L2 s2 (va_up v r (v o)))) := by
  obtain ⟨dd, rfl⟩ : ∃ e, dd = e + 1 := ⟨dd - 1, by omega⟩
  refine ⟨by decide +kernel, rfl, ?_⟩
  obtain ⟨a1, a2, a3, a4⟩ := hV o ho
  refine ev_iconst (pc := 0) (v := nI 0) dX9_copy_0 (by decide) ?_
  refine ev_istore_n (pc := 1) dX9_copy_1 rfl ?_
  refine ev_vs [(0, .ref M), (1, .int (nI r)), (2, .int (nI o)), (3, .int (nI 0))] ⟨rfl, rfl, rfl, rfl, trivial⟩ ?_
  refine l_rcopy (L0 := L) hM hr ho hro a1 (fun L2 e1 e2 => ⟨rfl, L2, _, rfl, fun i hi => ?_⟩) (s o) 0 L (by omega) (fun i hi => absurd hi (Nat.not_lt_zero i)) (fun _ _ => rfl)
  by_cases q : i = r
  · subst q
    rw [va_up_self]
    refine ⟨by rw [va_up_self]; exact a1, fun k hk => ?_, fun hp => ?_, ?_⟩
    · rw [va_up_self] at hk; rw [e1 k hk]; exact a2 k hk
    · rw [va_up_self] at hp ⊢; rw [e1 _ (by omega)]; exact a3 hp
    · rw [va_up_self, mb_vcg (s o) (g2 := fun k => L (140 * o + k)) e1]; exact a4
  · rw [va_up_ne _ _ q]
    have b := (hV i hi).1
    exact rv_cg (hV i hi) (va_up_ne _ _ q) (fun k hk => e2 _ (by omega))
end REF
