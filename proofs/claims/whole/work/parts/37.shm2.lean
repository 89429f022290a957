/-! Shares: split, rights, dividends, leaving, joining, replacing -/
/-- the new values of an exchange, or that it does not go -/
def sp_ex (P : Nat → Nat → Nat) (s cu cd pu pd : Nat) : Nat × (Nat → Nat → Nat) := if cu % cd = 0 ∧ (1 ≤ cu / cd ∧ cu / cd ≤ 9999999) ∧ 1 ≤ (2 * pu + pd) / (2 * pd) ∧ (2 * pu + pd) / (2 * pd) ≤ 9999999 then (0, p_up (p_up P 1 s (cu / cd)) 0 s ((2 * pu + pd) / (2 * pd))) else (1, P)
def sp_split (P : Nat → Nat → Nat) (s : Nat) (x y : Int32) : Nat × (Nat → Nat → Nat) := if (1 ≤ x.toInt ∧ x.toInt ≤ 1000) ∧ 1 ≤ y.toInt ∧ y.toInt ≤ 1000 then sp_ex P s (P 1 s * x.toInt.toNat) y.toInt.toNat (P 0 s * y.toInt.toNat) x.toInt.toNat else (1, P)
def sp_rights (P : Nat → Nat → Nat) (s : Nat) (x y o : Int32) : Nat × (Nat → Nat → Nat) := if (1 ≤ x.toInt ∧ x.toInt ≤ 1000) ∧ (1 ≤ y.toInt ∧ y.toInt ≤ 1000) ∧ 1 ≤ o.toInt ∧ o.toInt ≤ 9999999 then (if P 0 s ≤ o.toInt.toNat then (0, P) else sp_ex P s (P 1 s * (x.toInt.toNat + y.toInt.toNat)) y.toInt.toNat (P 0 s * y.toInt.toNat + o.toInt.toNat * x.toInt.toNat) (x.toInt.toNat + y.toInt.toNat)) else (1, P)
def sp_div (P : Nat → Nat → Nat) (s : Nat) (x : Int32) : Nat × (Nat → Nat → Nat) := if 1 ≤ x.toInt ∧ x.toInt < P 0 s then (0, p_up P 0 s (P 0 s - x.toInt.toNat)) else (1, P)
def sp_rep (P : Nat → Nat → Nat) (s k : Nat) (x : Int32) : Nat × (Nat → Nat → Nat) := if 1 ≤ x.toInt ∧ x.toInt ≤ mo k then (0, p_up P k s x.toInt.toNat) else (1, P)
theorem fb_n {k n : Nat} (hn : n < 2 ^ 63) : (fb k (lN n) = 1 ∧ 1 ≤ n ∧ n ≤ mo k) ∨ (fb k (lN n) = 0 ∧ ¬ (1 ≤ n ∧ n ≤ mo k)) := by
  rcases fb_2 k (lN n) with ⟨a, b⟩ | ⟨a, b⟩
  · rw [pk_lT hn] at b
    exact Or.inl ⟨a, by omega, by omega⟩
  · rw [pk_lT hn] at b
    exact Or.inr ⟨a, by omega⟩
theorem p_up_ok {P : Nat → Nat → Nat} (h : P_ok P) {k s x : Nat} (h1 : 1 ≤ x) (h2 : x ≤ mo k) : P_ok (p_up P k s x) := by
  intro t ht
  obtain ⟨⟨a1, a2⟩, ⟨b1, b2⟩, ⟨c1, c2⟩⟩ := h t ht
  have key : ∀ a, a < 3 → 1 ≤ P a t → P a t ≤ mo a → 1 ≤ p_up P k s x a t ∧ p_up P k s x a t ≤ mo a := by
    intro a _ q1 q2
    unfold p_up
    by_cases e : a = k
    · rw [if_pos e]
      unfold va_up
      split
      · rw [e]; exact ⟨h1, h2⟩
      · exact ⟨q1, q2⟩
    · rw [if_neg e]; exact ⟨q1, q2⟩
  exact ⟨key 0 (by decide) a1 a2, key 1 (by decide) b1 b2, key 2 (by decide) c1 c2⟩
theorem sp_ex_ok {P : Nat → Nat → Nat} {s cu cd pu pd : Nat} (h : P_ok P) : P_ok (sp_ex P s cu cd pu pd).2 := by
  unfold sp_ex
  split
  · rename_i e
    exact p_up_ok (k := 0) (p_up_ok (k := 1) h e.2.1.1 e.2.1.2) e.2.2.1 e.2.2.2
  · exact h
theorem nI_tn {n : Nat} (h : n < 2 ^ 31) : (nI n).toInt.toNat = n := by rw [nI_toInt h]; rfl
section SHM2
variable {G : ev_G} {w : Nat} {H : ev_H} {D S : Nat} {i j k dd s : Nat} {sa : Nat → Nat} {P : Nat → Nat → Nat} {fu fd : Nat → Nat} {mem : Nat}
/-- behind a method that may change the shares -/
def shq (H : ev_H) (S : Nat) (sa : Nat → Nat) (o : Nat) (P : Nat → Nat → Nat) (fu fd : Nat → Nat) (mem : Nat) (r : Option Value) (h1 : ev_H) : Prop := r = some (.int (nI o)) ∧ SH h1 S sa P fu fd mem ∧ SF S sa H h1
theorem k_exchange {cu cd pu pd : Nat} (hd : 2 ≤ dd) (hw : 22 ≤ w) (hG : G_ok G) (h : SH H S sa P fu fd mem) (hD : SD sa) (hs : s < 8) (h1 : cu < 2 ^ 60) (h2 : 0 < cd) (h3 : cd < 2 ^ 20) (h4 : pu < 2 ^ 60) (h5 : 0 < pd) (h6 : pd < 2 ^ 20) : ev_Ca G dd w m_X5_exchange [.ref S, .int (nI s), .long (lN cu), .int (nI cd), .long (lN pu), .int (nI pd)] H 0 0 (ev_ok (shq H S sa (sp_ex P s cu cd pu pd).1 (sp_ex P s cu cd pu pd).2 fu fd mem)) := by
  obtain ⟨dd, rfl⟩ : ∃ e, dd = e + 1 := ⟨dd - 1, by omega⟩
  refine ⟨by decide +kernel, rfl, ?_⟩
  have hml := Nat.mod_lt cu h2
  have no : ∀ {L st}, ¬ (cu % cd = 0 ∧ (1 ≤ cu / cd ∧ cu / cd ≤ 9999999) ∧ 1 ≤ (2 * pu + pd) / (2 * pd) ∧ (2 * pu + pd) / (2 * pd) ≤ 9999999) → st = ([] : List Value) → ev_J G (ev_cc G dd w) w m_X5_exchange (ev_ok (shq H S sa (sp_ex P s cu cd pu pd).1 (sp_ex P s cu cd pu pd).2 fu fd mem)) (57, L, st, H, 0, 0) := by
    intro L st hn hst
    subst hst
    have e : sp_ex P s cu cd pu pd = (1, P) := if_neg hn
    rw [e]
    refine ev_iconst (pc := 57) (v := nI 1) dX5_exchange_57 (by decide) ?_
    exact ev_iret (pc := 58) dX5_exchange_58 rfl rfl ⟨rfl, h, SF.rf⟩
  refine ev_lload_n (pc := 0) dX5_exchange_0 rfl ?_
  refine ev_iload (pc := 1) dX5_exchange_1 rfl ?_
  refine ev_i2lN (pc := 3) dX5_exchange_3 (by omega) ?_
  refine ev_lremN (pc := 4) dX5_exchange_4 (by omega) (by omega) (by omega) ?_
  refine ev_lconst (pc := 5) (v := lN 0) dX5_exchange_5 (by decide) ?_
  refine ev_lc_eq (pc := 6) (tgt := 12) dX5_exchange_6 dX5_exchange_7 (by decide) (by omega) (by omega) (fun c1 => ?_) (fun c1 => ?_)
  · refine ev_lload_n (pc := 12) dX5_exchange_12 rfl ?_
    refine ev_iload (pc := 13) dX5_exchange_13 rfl ?_
    refine ev_i2lN (pc := 15) dX5_exchange_15 (by omega) ?_
    refine ev_ldivN (pc := 16) dX5_exchange_16 (by omega) (by omega) (by omega) ?_
    refine ev_lstore (pc := 17) dX5_exchange_17 rfl ?_
    refine ev_ldc2 (pc := 19) dX5_exchange_19 k_X5_86 ?_
    refine ev_lload (pc := 22) dX5_exchange_22 rfl ?_
    refine ev_lmulN (pc := 24) dX5_exchange_24 ?_
    refine ev_iload (pc := 25) dX5_exchange_25 rfl ?_
    refine ev_i2lN (pc := 27) dX5_exchange_27 (by omega) ?_
    refine ev_laddN (pc := 28) dX5_exchange_28 ?_
    refine ev_ldc2 (pc := 29) dX5_exchange_29 k_X5_86 ?_
    refine ev_iload (pc := 32) dX5_exchange_32 rfl ?_
    refine ev_i2lN (pc := 34) dX5_exchange_34 (by omega) ?_
    refine ev_lmulN (pc := 35) dX5_exchange_35 ?_
    refine ev_ldivN (pc := 36) dX5_exchange_36 (by omega) (by omega) (by omega) ?_
    refine ev_lstore (pc := 37) dX5_exchange_37 rfl ?_
    refine ev_iconst (pc := 39) (v := nI 1) dX5_exchange_39 (by decide) ?_
    refine ev_lload (pc := 40) dX5_exchange_40 rfl ?_
    have hq1 : cu / cd ≤ cu := Nat.div_le_self _ _
    have hq2 : (2 * pu + pd) / (2 * pd) ≤ 2 * pu + pd := Nat.div_le_self _ _
    refine ev_callS (pc := 42) (As := [.int (nI 1), .long (lN (cu / cd))]) dX5_exchange_42 cs_X5_82 rfl rfl ⟨by show 19 + 3 ≤ w; omega, show ev_Ca _ _ (w - 22) _ _ _ _ _ _ from k_fits (by omega) hG (by decide)⟩ rfl rfl (fun r h1 hp => ?_)
    obtain ⟨rfl, hH⟩ := hp
    rw [hH]
    clear hH h1
    rcases fb_n (k := 1) (n := cu / cd) (by omega) with ⟨e1, e2⟩ | ⟨e1, e2⟩
    · rw [e1]
      refine ev_if_eqN (pc := 45) (tgt := 57) dX5_exchange_45 (by decide) (by decide) (fun c2 => absurd c2 (by decide)) (fun _ => ?_)
      refine ev_iconst (pc := 48) (v := nI 0) dX5_exchange_48 (by decide) ?_
      refine ev_lload (pc := 49) dX5_exchange_49 rfl ?_
      refine ev_callS (pc := 51) (As := [.int (nI 0), .long (lN ((2 * pu + pd) / (2 * pd)))]) dX5_exchange_51 cs_X5_82 rfl rfl ⟨by show 19 + 3 ≤ w; omega, show ev_Ca _ _ (w - 22) _ _ _ _ _ _ from k_fits (by omega) hG (by decide)⟩ rfl rfl (fun r h1 hp => ?_)
      obtain ⟨rfl, hH⟩ := hp
      rw [hH]
      clear hH h1
      rcases fb_n (k := 0) (n := (2 * pu + pd) / (2 * pd)) (by omega) with ⟨e3, e4⟩ | ⟨e3, e4⟩
      · rw [e3]
        refine ev_if_neN (pc := 54) (tgt := 59) dX5_exchange_54 (by decide) (by decide) (fun _ => ?_) (fun c2 => absurd c2 (by decide))
        have e : sp_ex P s cu cd pu pd = (0, p_up (p_up P 1 s (cu / cd)) 0 s ((2 * pu + pd) / (2 * pd))) := if_pos ⟨c1, e2, e4⟩
        rw [e]
        refine ev_aload_n (pc := 59) dX5_exchange_59 rfl ?_
        refine ev_getf (pc := 60) dX5_exchange_60 f_X5_11 h.1 rfl ?_
        refine ev_iconst (pc := 63) (v := nI 1) dX5_exchange_63 (by decide) ?_
        refine sh_row (pc := 64) dX5_exchange_64 h (by omega) ?_
        refine ev_iload_n (pc := 65) dX5_exchange_65 rfl ?_
        refine ev_lload (pc := 66) dX5_exchange_66 rfl ?_
        refine ev_l2iN (pc := 68) dX5_exchange_68 ?_
        refine ev_iast (pc := 69) dX5_exchange_69 (h.2.2.1 1 (by decide)) (vp_in_nI hs (by decide)) ?_
        obtain ⟨hS2, hF2⟩ := sh_putP (k := 1) (j := s) (x := cu / cd) h hD (by decide) hs
        refine ev_aload_n (pc := 70) dX5_exchange_70 rfl ?_
        refine ev_getf (pc := 71) dX5_exchange_71 f_X5_11 hS2.1 rfl ?_
        refine ev_iconst (pc := 74) (v := nI 0) dX5_exchange_74 (by decide) ?_
        refine sh_row (pc := 75) dX5_exchange_75 hS2 (by omega) ?_
        refine ev_iload_n (pc := 76) dX5_exchange_76 rfl ?_
        refine ev_lload (pc := 77) dX5_exchange_77 rfl ?_
        refine ev_l2iN (pc := 79) dX5_exchange_79 ?_
        refine ev_iast (pc := 80) dX5_exchange_80 (hS2.2.2.1 0 (by decide)) (vp_in_nI hs (by decide)) ?_
        obtain ⟨hS3, hF3⟩ := sh_putP (k := 0) (j := s) (x := (2 * pu + pd) / (2 * pd)) hS2 hD (by decide) hs
        refine ev_iconst (pc := 81) (v := nI 0) dX5_exchange_81 (by decide) ?_
        exact ev_iret (pc := 82) dX5_exchange_82 rfl rfl ⟨rfl, hS3, hF2.tr hF3⟩
      · rw [e3]
        refine ev_if_neN (pc := 54) (tgt := 59) dX5_exchange_54 (by decide) (by decide) (fun c2 => absurd c2 (by decide)) (fun _ => ?_)
        exact no (fun q => e4 q.2.2) rfl
    · rw [e1]
      refine ev_if_eqN (pc := 45) (tgt := 57) dX5_exchange_45 (by decide) (by decide) (fun _ => ?_) (fun c2 => absurd c2 (by decide))
      exact no (fun q => e2 q.2.1) rfl
  · have e : sp_ex P s cu cd pu pd = (1, P) := if_neg (fun q => c1 q.1)
    rw [e]
    refine ev_iconst (pc := 10) (v := nI 1) dX5_exchange_10 (by decide) ?_
    exact ev_iret (pc := 11) dX5_exchange_11 rfl rfl ⟨rfl, h, SF.rf⟩
theorem k_split {x y : Int32} (hd : 3 ≤ dd) (hw : 53 ≤ w) (hG : G_ok G) (h : SH H S sa P fu fd mem) (hP : P_ok P) (hD : SD sa) (hs : s < 8) : ev_Ca G dd w m_X5_split [.ref S, .int (nI s), .int x, .int y] H 0 0 (ev_ok (shq H S sa (sp_split P s x y).1 (sp_split P s x y).2 fu fd mem)) := by
  obtain ⟨dd, rfl⟩ : ∃ e, dd = e + 1 := ⟨dd - 1, by omega⟩
  refine ⟨by decide +kernel, rfl, ?_⟩
  obtain ⟨⟨a1, a2⟩, ⟨b1, b2⟩, -⟩ := hP s hs
  refine ev_iload_n (pc := 0) dX5_split_0 rfl ?_
  refine ev_iload_n (pc := 1) dX5_split_1 rfl ?_
  refine ev_callS (pc := 2) (As := [.int x, .int y]) dX5_split_2 cs_X5_72 rfl rfl ⟨by show 19 + 2 ≤ w; omega, show ev_Ca _ _ (w - 21) _ _ _ _ _ _ from k_isRatio (by omega)⟩ rfl rfl (fun r h1 hp => ?_)
  obtain ⟨rfl, hH⟩ := hp
  rw [hH]
  clear hH h1
  have no : ¬ (ri x 1 1000 ∧ ri y 1 1000) → ev_J G (ev_cc G dd w) w m_X5_split (ev_ok (shq H S sa (sp_split P s x y).1 (sp_split P s x y).2 fu fd mem)) (8, ev_lf (lv_args 0 [.ref S, .int (nI s), .int x, .int y]), [], H, 0, 0) := by
    intro hn
    have e : sp_split P s x y = (1, P) := if_neg (fun q => hn ⟨q.1, q.2⟩)
    rw [e]
    refine ev_iconst (pc := 8) (v := nI 1) dX5_split_8 (by decide) ?_
    exact ev_iret (pc := 9) dX5_split_9 rfl rfl ⟨rfl, h, SF.rf⟩
  rcases rb_2 x 1 1000 with ⟨e1, e2⟩ | ⟨e1, e2⟩
  · rcases rb_2 y 1 1000 with ⟨e3, e4⟩ | ⟨e3, e4⟩
    · rw [e1, e3]
      refine ev_if_neN (pc := 5) (tgt := 10) dX5_split_5 (by decide) (by decide) (fun _ => ?_) (fun c2 => absurd c2 (by decide))
      have e : sp_split P s x y = sp_ex P s (P 1 s * x.toInt.toNat) y.toInt.toNat (P 0 s * y.toInt.toNat) x.toInt.toNat := if_pos ⟨e2, e4⟩
      rw [e]
      obtain ⟨n, rfl, n1, n2⟩ := ri_nI (lo := 1) (hi := 1000) e2 (by decide)
      obtain ⟨m, rfl, m1, m2⟩ := ri_nI (lo := 1) (hi := 1000) e4 (by decide)
      rw [nI_tn (by omega), nI_tn (by omega)]
      have t1 : P 1 s * n ≤ 9999999 * 1000 := Nat.mul_le_mul b2 n2
      have t2 : P 0 s * m ≤ 9999999 * 1000 := Nat.mul_le_mul a2 m2
      refine ev_aload_n (pc := 10) dX5_split_10 rfl ?_
      refine ev_getf (pc := 11) dX5_split_11 f_X5_11 h.1 rfl ?_
      refine ev_iconst (pc := 14) (v := nI 1) dX5_split_14 (by decide) ?_
      refine sh_row (pc := 15) dX5_split_15 h (by omega) ?_
      refine ev_iload_n (pc := 16) dX5_split_16 rfl ?_
      refine ev_iaN (pc := 17) dX5_split_17 (h.2.2.1 1 (by decide)) (by omega) (by omega) ?_
      refine ev_i2lN (pc := 18) dX5_split_18 (by omega) ?_
      refine ev_iload_n (pc := 19) dX5_split_19 rfl ?_
      refine ev_i2lN (pc := 20) dX5_split_20 (by omega) ?_
      refine ev_lmulN (pc := 21) dX5_split_21 ?_
      refine ev_lstore (pc := 22) dX5_split_22 rfl ?_
      refine ev_aload_n (pc := 24) dX5_split_24 rfl ?_
      refine ev_getf (pc := 25) dX5_split_25 f_X5_11 h.1 rfl ?_
      refine ev_iconst (pc := 28) (v := nI 0) dX5_split_28 (by decide) ?_
      refine sh_row (pc := 29) dX5_split_29 h (by omega) ?_
      refine ev_iload_n (pc := 30) dX5_split_30 rfl ?_
      refine ev_iaN (pc := 31) dX5_split_31 (h.2.2.1 0 (by decide)) (by omega) (by omega) ?_
      refine ev_i2lN (pc := 32) dX5_split_32 (by omega) ?_
      refine ev_iload_n (pc := 33) dX5_split_33 rfl ?_
      refine ev_i2lN (pc := 34) dX5_split_34 (by omega) ?_
      refine ev_lmulN (pc := 35) dX5_split_35 ?_
      refine ev_lstore (pc := 36) dX5_split_36 rfl ?_
      refine ev_aload_n (pc := 38) dX5_split_38 rfl ?_
      refine ev_iload_n (pc := 39) dX5_split_39 rfl ?_
      refine ev_lload (pc := 40) dX5_split_40 rfl ?_
      refine ev_iload_n (pc := 42) dX5_split_42 rfl ?_
      refine ev_lload (pc := 43) dX5_split_43 rfl ?_
      refine ev_iload_n (pc := 45) dX5_split_45 rfl ?_
      refine ev_callV (pc := 46) (As := [.int (nI s), .long (lN (P 1 s * n)), .int (nI m), .long (lN (P 0 s * m)), .int (nI n)]) dX5_split_46 cv_X5_78 rfl rfl h.1 rfl ⟨by show 19 + 12 ≤ w; omega, show ev_Ca _ _ (w - 31) _ _ _ _ _ _ from k_exchange (by omega) (by omega) hG h hD hs (by omega) (by omega) (by omega) (by omega) (by omega) (by omega)⟩ rfl rfl (fun r h1 hp => ?_)
      obtain ⟨rfl, hp⟩ := hp
      exact ev_iret (pc := 49) dX5_split_49 rfl rfl ⟨rfl, hp⟩
    · rw [e1, e3]
      refine ev_if_neN (pc := 5) (tgt := 10) dX5_split_5 (by decide) (by decide) (fun c2 => absurd c2 (by decide)) (fun _ => ?_)
      exact no (fun q => e4 q.2)
  · rw [e1, Nat.zero_mul]
    refine ev_if_neN (pc := 5) (tgt := 10) dX5_split_5 (by decide) (by decide) (fun c2 => absurd c2 (by decide)) (fun _ => ?_)
    exact no (fun q => e2 q.1)
theorem i2l_toInt (x : Int32) : x.toInt64.toInt = x.toInt := Int32.toInt_toInt64 x
theorem k_offerRights {x y o : Int32} (hd : 3 ≤ dd) (hw : 53 ≤ w) (hG : G_ok G) (h : SH H S sa P fu fd mem) (hP : P_ok P) (hD : SD sa) (hs : s < 8) : ev_Ca G dd w m_X5_offerRights [.ref S, .int (nI s), .int x, .int y, .int o] H 0 0 (ev_ok (shq H S sa (sp_rights P s x y o).1 (sp_rights P s x y o).2 fu fd mem)) := by
  obtain ⟨dd, rfl⟩ : ∃ e, dd = e + 1 := ⟨dd - 1, by omega⟩
  refine ⟨by decide +kernel, rfl, ?_⟩
  obtain ⟨⟨a1, a2⟩, ⟨b1, b2⟩, -⟩ := hP s hs
  refine ev_iload_n (pc := 0) dX5_offerRights_0 rfl ?_
  refine ev_iload_n (pc := 1) dX5_offerRights_1 rfl ?_
  refine ev_callS (pc := 2) (As := [.int x, .int y]) dX5_offerRights_2 cs_X5_72 rfl rfl ⟨by show 19 + 2 ≤ w; omega, show ev_Ca _ _ (w - 21) _ _ _ _ _ _ from k_isRatio (by omega)⟩ rfl rfl (fun r h1 hp => ?_)
  obtain ⟨rfl, hH⟩ := hp
  rw [hH]
  clear hH h1
  have no : ¬ ((ri x 1 1000 ∧ ri y 1 1000) ∧ 1 ≤ o.toInt ∧ o.toInt ≤ 9999999) → ev_J G (ev_cc G dd w) w m_X5_offerRights (ev_ok (shq H S sa (sp_rights P s x y o).1 (sp_rights P s x y o).2 fu fd mem)) (18, ev_lf (lv_args 0 [.ref S, .int (nI s), .int x, .int y, .int o]), [], H, 0, 0) := by
    intro hn
    have e : sp_rights P s x y o = (1, P) := if_neg (fun q => hn ⟨⟨q.1, q.2.1⟩, q.2.2⟩)
    rw [e]
    refine ev_iconst (pc := 18) (v := nI 1) dX5_offerRights_18 (by decide) ?_
    exact ev_iret (pc := 19) dX5_offerRights_19 rfl rfl ⟨rfl, h, SF.rf⟩
  rcases rb_2 x 1 1000 with ⟨e1, e2⟩ | ⟨e1, e2⟩
  · rcases rb_2 y 1 1000 with ⟨e3, e4⟩ | ⟨e3, e4⟩
    · rw [e1, e3]
      refine ev_if_eqN (pc := 5) (tgt := 18) dX5_offerRights_5 (by decide) (by decide) (fun c2 => absurd c2 (by decide)) (fun _ => ?_)
      refine ev_iconst (pc := 8) (v := nI 0) dX5_offerRights_8 (by decide) ?_
      refine ev_iload (pc := 9) dX5_offerRights_9 rfl ?_
      refine ev_i2l (pc := 11) dX5_offerRights_11 ?_
      refine ev_callS (pc := 12) (As := [.int (nI 0), .long o.toInt64]) dX5_offerRights_12 cs_X5_82 rfl rfl ⟨by show 19 + 3 ≤ w; omega, show ev_Ca _ _ (w - 22) _ _ _ _ _ _ from k_fits (by omega) hG (by decide)⟩ rfl rfl (fun r h1 hp => ?_)
      obtain ⟨rfl, hH⟩ := hp
      rw [hH]
      clear hH h1
      rcases fb_2 0 o.toInt64 with ⟨e5, e6⟩ | ⟨e5, e6⟩
      · rw [i2l_toInt] at e6
        rw [e5]
        refine ev_if_neN (pc := 15) (tgt := 20) dX5_offerRights_15 (by decide) (by decide) (fun _ => ?_) (fun c2 => absurd c2 (by decide))
        have e7 : ri o 1 9999999 := e6
        have e : sp_rights P s x y o = (if P 0 s ≤ o.toInt.toNat then (0, P) else sp_ex P s (P 1 s * (x.toInt.toNat + y.toInt.toNat)) y.toInt.toNat (P 0 s * y.toInt.toNat + o.toInt.toNat * x.toInt.toNat) (x.toInt.toNat + y.toInt.toNat)) := if_pos ⟨e2, e4, e7⟩
        rw [e]
        obtain ⟨n, rfl, n1, n2⟩ := ri_nI (lo := 1) (hi := 1000) e2 (by decide)
        obtain ⟨m, rfl, m1, m2⟩ := ri_nI (lo := 1) (hi := 1000) e4 (by decide)
        obtain ⟨q, rfl, q1, q2⟩ := ri_nI (lo := 1) (hi := 9999999) e7 (by decide)
        rw [nI_tn (by omega), nI_tn (by omega), nI_tn (by omega)]
        refine ev_aload_n (pc := 20) dX5_offerRights_20 rfl ?_
        refine ev_getf (pc := 21) dX5_offerRights_21 f_X5_11 h.1 rfl ?_
        refine ev_iconst (pc := 24) (v := nI 0) dX5_offerRights_24 (by decide) ?_
        refine sh_row (pc := 25) dX5_offerRights_25 h (by omega) ?_
        refine ev_iload_n (pc := 26) dX5_offerRights_26 rfl ?_
        refine ev_iaN (pc := 27) dX5_offerRights_27 (h.2.2.1 0 (by decide)) (by omega) (by omega) ?_
        refine ev_istore (pc := 28) dX5_offerRights_28 rfl ?_
        refine ev_iload (pc := 30) dX5_offerRights_30 rfl ?_
        refine ev_iload (pc := 32) dX5_offerRights_32 rfl ?_
        refine ev_icmp_ltN (pc := 34) (tgt := 39) dX5_offerRights_34 (by decide) (by omega) (by omega) (fun c3 => ?_) (fun c3 => ?_)
        · rw [if_neg (by omega)]
          have t1 : P 1 s * (n + m) ≤ 9999999 * 2000 := Nat.mul_le_mul b2 (by omega)
          have t2 : P 0 s * m ≤ 9999999 * 1000 := Nat.mul_le_mul a2 m2
          have t3 : q * n ≤ 9999999 * 1000 := Nat.mul_le_mul q2 n2
          refine ev_iload_n (pc := 39) dX5_offerRights_39 rfl ?_
          refine ev_iload_n (pc := 40) dX5_offerRights_40 rfl ?_
          refine ev_iaddN (pc := 41) dX5_offerRights_41 ?_
          refine ev_istore (pc := 42) dX5_offerRights_42 rfl ?_
          refine ev_aload_n (pc := 44) dX5_offerRights_44 rfl ?_
          refine ev_getf (pc := 45) dX5_offerRights_45 f_X5_11 h.1 rfl ?_
          refine ev_iconst (pc := 48) (v := nI 1) dX5_offerRights_48 (by decide) ?_
          refine sh_row (pc := 49) dX5_offerRights_49 h (by omega) ?_
          refine ev_iload_n (pc := 50) dX5_offerRights_50 rfl ?_
          refine ev_iaN (pc := 51) dX5_offerRights_51 (h.2.2.1 1 (by decide)) (by omega) (by omega) ?_
          refine ev_i2lN (pc := 52) dX5_offerRights_52 (by omega) ?_
          refine ev_iload (pc := 53) dX5_offerRights_53 rfl ?_
          refine ev_i2lN (pc := 55) dX5_offerRights_55 (by omega) ?_
          refine ev_lmulN (pc := 56) dX5_offerRights_56 ?_
          refine ev_lstore (pc := 57) dX5_offerRights_57 rfl ?_
          refine ev_iload (pc := 59) dX5_offerRights_59 rfl ?_
          refine ev_i2lN (pc := 61) dX5_offerRights_61 (by omega) ?_
          refine ev_iload_n (pc := 62) dX5_offerRights_62 rfl ?_
          refine ev_i2lN (pc := 63) dX5_offerRights_63 (by omega) ?_
          refine ev_lmulN (pc := 64) dX5_offerRights_64 ?_
          refine ev_iload (pc := 65) dX5_offerRights_65 rfl ?_
          refine ev_i2lN (pc := 67) dX5_offerRights_67 (by omega) ?_
          refine ev_iload_n (pc := 68) dX5_offerRights_68 rfl ?_
          refine ev_i2lN (pc := 69) dX5_offerRights_69 (by omega) ?_
          refine ev_lmulN (pc := 70) dX5_offerRights_70 ?_
          refine ev_laddN (pc := 71) dX5_offerRights_71 ?_
          refine ev_lstore (pc := 72) dX5_offerRights_72 rfl ?_
          refine ev_aload_n (pc := 74) dX5_offerRights_74 rfl ?_
          refine ev_iload_n (pc := 75) dX5_offerRights_75 rfl ?_
          refine ev_lload (pc := 76) dX5_offerRights_76 rfl ?_
          refine ev_iload_n (pc := 78) dX5_offerRights_78 rfl ?_
          refine ev_lload (pc := 79) dX5_offerRights_79 rfl ?_
          refine ev_iload (pc := 81) dX5_offerRights_81 rfl ?_
          refine ev_callV (pc := 83) (As := [.int (nI s), .long (lN (P 1 s * (n + m))), .int (nI m), .long (lN (P 0 s * m + q * n)), .int (nI (n + m))]) dX5_offerRights_83 cv_X5_78 rfl rfl h.1 rfl ⟨by show 19 + 12 ≤ w; omega, show ev_Ca _ _ (w - 31) _ _ _ _ _ _ from k_exchange (by omega) (by omega) hG h hD hs (by omega) (by omega) (by omega) (by omega) (by omega) (by omega)⟩ rfl rfl (fun r h1 hp => ?_)
          obtain ⟨rfl, hp⟩ := hp
          exact ev_iret (pc := 86) dX5_offerRights_86 rfl rfl ⟨rfl, hp⟩
        · rw [if_pos c3]
          refine ev_iconst (pc := 37) (v := nI 0) dX5_offerRights_37 (by decide) ?_
          exact ev_iret (pc := 38) dX5_offerRights_38 rfl rfl ⟨rfl, h, SF.rf⟩
      · rw [i2l_toInt] at e6
        rw [e5]
        refine ev_if_neN (pc := 15) (tgt := 20) dX5_offerRights_15 (by decide) (by decide) (fun c2 => absurd c2 (by decide)) (fun _ => ?_)
        exact no (fun q => e6 q.2)
    · rw [e1, e3]
      refine ev_if_eqN (pc := 5) (tgt := 18) dX5_offerRights_5 (by decide) (by decide) (fun _ => ?_) (fun c2 => absurd c2 (by decide))
      exact no (fun q => e4 q.1.2)
  · rw [e1, Nat.zero_mul]
    refine ev_if_eqN (pc := 5) (tgt := 18) dX5_offerRights_5 (by decide) (by decide) (fun _ => ?_) (fun c2 => absurd c2 (by decide))
    exact no (fun q => e2 q.1.1)
theorem lsub_toInt {n : Nat} {x : Int32} (hn : n < 2 ^ 31) : (lN n - x.toInt64).toInt = (n : Int) - x.toInt := by
  have h1 := Int32.toInt_lt x
  have h2 := Int32.le_toInt x
  rw [Int64.toInt_sub, i2l_toInt, pk_lT (by omega)]
  exact Int.bmod_eq_of_le (by omega) (by omega)
theorem k_payDividend {x : Int32} (hd : 2 ≤ dd) (hw : 22 ≤ w) (hG : G_ok G) (h : SH H S sa P fu fd mem) (hP : P_ok P) (hD : SD sa) (hs : s < 8) : ev_Ca G dd w m_X5_payDividend [.ref S, .int (nI s), .int x] H 0 0 (ev_ok (shq H S sa (sp_div P s x).1 (sp_div P s x).2 fu fd mem)) := by
  obtain ⟨dd, rfl⟩ : ∃ e, dd = e + 1 := ⟨dd - 1, by omega⟩
  refine ⟨by decide +kernel, rfl, ?_⟩
  obtain ⟨⟨a1, a2⟩, -, -⟩ := hP s hs
  have no : ∀ {L}, ¬ (1 ≤ x.toInt ∧ x.toInt < P 0 s) → ev_J G (ev_cc G dd w) w m_X5_payDividend (ev_ok (shq H S sa (sp_div P s x).1 (sp_div P s x).2 fu fd mem)) (26, L, [], H, 0, 0) := by
    intro L hn
    have e : sp_div P s x = (1, P) := if_neg hn
    rw [e]
    refine ev_iconst (pc := 26) (v := nI 1) dX5_payDividend_26 (by decide) ?_
    exact ev_iret (pc := 27) dX5_payDividend_27 rfl rfl ⟨rfl, h, SF.rf⟩
  refine ev_aload_n (pc := 0) dX5_payDividend_0 rfl ?_
  refine ev_getf (pc := 1) dX5_payDividend_1 f_X5_11 h.1 rfl ?_
  refine ev_iconst (pc := 4) (v := nI 0) dX5_payDividend_4 (by decide) ?_
  refine sh_row (pc := 5) dX5_payDividend_5 h (by omega) ?_
  refine ev_iload_n (pc := 6) dX5_payDividend_6 rfl ?_
  refine ev_iaN (pc := 7) dX5_payDividend_7 (h.2.2.1 0 (by decide)) (by omega) (by omega) ?_
  refine ev_i2lN (pc := 8) dX5_payDividend_8 (by omega) ?_
  refine ev_iload_n (pc := 9) dX5_payDividend_9 rfl ?_
  refine ev_i2l (pc := 10) dX5_payDividend_10 ?_
  refine ev_lsub (pc := 11) dX5_payDividend_11 ?_
  refine ev_lstore_n (pc := 12) dX5_payDividend_12 rfl ?_
  refine ev_iload_n (pc := 13) dX5_payDividend_13 rfl ?_
  refine ev_iconst (pc := 14) (v := nI 1) dX5_payDividend_14 (by decide) ?_
  refine ev_icmp_lt (pc := 15) (tgt := 26) dX5_payDividend_15 (by decide) (fun c1 => ?_) (fun c1 => ?_)
  · rw [(i32_le (by decide)).2.1] at c1
    exact no (fun q => by omega)
  · rw [(i32_le (by decide)).2.1] at c1
    refine ev_iconst (pc := 18) (v := nI 0) dX5_payDividend_18 (by decide) ?_
    refine ev_lload_n (pc := 19) dX5_payDividend_19 rfl ?_
    refine ev_callS (pc := 20) (As := [.int (nI 0), .long (lN (P 0 s) - x.toInt64)]) dX5_payDividend_20 cs_X5_82 rfl rfl ⟨by show 19 + 3 ≤ w; omega, show ev_Ca _ _ (w - 22) _ _ _ _ _ _ from k_fits (by omega) hG (by decide)⟩ rfl rfl (fun r h1 hp => ?_)
    obtain ⟨rfl, hH⟩ := hp
    rw [hH]
    clear hH h1
    rcases fb_2 0 (lN (P 0 s) - x.toInt64) with ⟨e5, e6⟩ | ⟨e5, e6⟩
    · rw [lsub_toInt (by omega)] at e6
      rw [e5]
      refine ev_if_neN (pc := 23) (tgt := 28) dX5_payDividend_23 (by decide) (by decide) (fun _ => ?_) (fun c2 => absurd c2 (by decide))
      have e : sp_div P s x = (0, p_up P 0 s (P 0 s - x.toInt.toNat)) := if_pos ⟨by omega, by omega⟩
      rw [e]
      have e7 : lN (P 0 s) - x.toInt64 = lN (P 0 s - x.toInt.toNat) := by
        apply Int64.toInt_inj.mp
        rw [lsub_toInt (by omega), pk_lT (by omega)]
        omega
      rw [e7]
      refine ev_aload_n (pc := 28) dX5_payDividend_28 rfl ?_
      refine ev_getf (pc := 29) dX5_payDividend_29 f_X5_11 h.1 rfl ?_
      refine ev_iconst (pc := 32) (v := nI 0) dX5_payDividend_32 (by decide) ?_
      refine sh_row (pc := 33) dX5_payDividend_33 h (by omega) ?_
      refine ev_iload_n (pc := 34) dX5_payDividend_34 rfl ?_
      refine ev_lload_n (pc := 35) dX5_payDividend_35 rfl ?_
      refine ev_l2iN (pc := 36) dX5_payDividend_36 ?_
      refine ev_iast (pc := 37) dX5_payDividend_37 (h.2.2.1 0 (by decide)) (vp_in_nI hs (by decide)) ?_
      obtain ⟨hS2, hF2⟩ := sh_putP (k := 0) (j := s) (x := P 0 s - x.toInt.toNat) h hD (by decide) hs
      refine ev_iconst (pc := 38) (v := nI 0) dX5_payDividend_38 (by decide) ?_
      exact ev_iret (pc := 39) dX5_payDividend_39 rfl rfl ⟨rfl, hS2, hF2⟩
    · rw [lsub_toInt (by omega)] at e6
      have hmo : mo 0 = 9999999 := rfl
      rw [e5]
      refine ev_if_neN (pc := 23) (tgt := 28) dX5_payDividend_23 (by decide) (by decide) (fun c2 => absurd c2 (by decide)) (fun _ => ?_)
      exact no (fun q => e6 ⟨by omega, by omega⟩)
theorem k_replace {x : Int32} (hd : 2 ≤ dd) (hw : 22 ≤ w) (hG : G_ok G) (h : SH H S sa P fu fd mem) (hD : SD sa) (hs : s < 8) (hk : k < 3) : ev_Ca G dd w m_X5_replace [.ref S, .int (nI s), .int (nI k), .int x] H 0 0 (ev_ok (shq H S sa (sp_rep P s k x).1 (sp_rep P s k x).2 fu fd mem)) := by
  obtain ⟨dd, rfl⟩ : ∃ e, dd = e + 1 := ⟨dd - 1, by omega⟩
  refine ⟨by decide +kernel, rfl, ?_⟩
  refine ev_iload_n (pc := 0) dX5_replace_0 rfl ?_
  refine ev_iload_n (pc := 1) dX5_replace_1 rfl ?_
  refine ev_i2l (pc := 2) dX5_replace_2 ?_
  refine ev_callS (pc := 3) (As := [.int (nI k), .long x.toInt64]) dX5_replace_3 cs_X5_82 rfl rfl ⟨by show 19 + 3 ≤ w; omega, show ev_Ca _ _ (w - 22) _ _ _ _ _ _ from k_fits (by omega) hG hk⟩ rfl rfl (fun r h1 hp => ?_)
  obtain ⟨rfl, hH⟩ := hp
  rw [hH]
  clear hH h1
  have hm := mo_b k
  rcases fb_2 k x.toInt64 with ⟨e5, e6⟩ | ⟨e5, e6⟩
  · rw [i2l_toInt] at e6
    rw [e5]
    refine ev_if_neN (pc := 6) (tgt := 11) dX5_replace_6 (by decide) (by decide) (fun _ => ?_) (fun c2 => absurd c2 (by decide))
    have e : sp_rep P s k x = (0, p_up P k s x.toInt.toNat) := if_pos e6
    rw [e]
    have e7 : x = nI x.toInt.toNat := by
      apply Int32.toInt_inj.mp
      rw [nI_toInt (by omega)]
      omega
    refine ev_aload_n (pc := 11) dX5_replace_11 rfl ?_
    refine ev_getf (pc := 12) dX5_replace_12 f_X5_11 h.1 rfl ?_
    refine ev_iload_n (pc := 15) dX5_replace_15 rfl ?_
    refine sh_row (pc := 16) dX5_replace_16 h (by omega) ?_
    refine ev_iload_n (pc := 17) dX5_replace_17 rfl ?_
    refine ev_iload_n (pc := 18) dX5_replace_18 rfl ?_
    have hlk : ev_lf (lv_args 0 [Value.ref S, .int (nI s), .int (nI k), .int x]) 3 = some (.int x) := rfl
    refine ev_ti e7 ?_
    refine ev_iast (pc := 19) dX5_replace_19 (h.2.2.1 k hk) (vp_in_nI hs (by decide)) ?_
    obtain ⟨hS2, hF2⟩ := sh_putP (k := k) (j := s) (x := x.toInt.toNat) h hD hk hs
    refine ev_iconst (pc := 20) (v := nI 0) dX5_replace_20 (by decide) ?_
    exact ev_iret (pc := 21) dX5_replace_21 rfl rfl ⟨rfl, hS2, hF2⟩
  · rw [i2l_toInt] at e6
    rw [e5]
    refine ev_if_neN (pc := 6) (tgt := 11) dX5_replace_6 (by decide) (by decide) (fun c2 => absurd c2 (by decide)) (fun _ => ?_)
    have e : sp_rep P s k x = (1, P) := if_neg e6
    rw [e]
    refine ev_iconst (pc := 9) (v := nI 1) dX5_replace_9 (by decide) ?_
    exact ev_iret (pc := 10) dX5_replace_10 rfl rfl ⟨rfl, h, SF.rf⟩
end SHM2
