/-! THE REFERENCE: become, rounded, split, rights, dividend, count -/
theorem p_upc {P : Nat → Nat → Nat} {k k' s s' x y : Nat} (h : k ≠ k') : p_up (p_up P k s x) k' s' y = p_up (p_up P k' s' y) k s x := by
  funext a b
  unfold p_up
  by_cases e : a = k'
  · rw [if_pos e, if_neg (by omega)]
    unfold va_up
    by_cases e2 : b = s'
    · rw [if_pos e2, if_pos e, if_pos e2]
    · rw [if_neg e2, if_pos e, if_neg e2]
      show (if a = k then if b = s then x else P a b else P a b) = P a b
      rw [if_neg (by omega)]
  · rw [if_neg e]
    by_cases e2 : a = k
    · rw [if_pos e2, if_pos e2]
      unfold va_up
      by_cases e3 : b = s
      · rw [if_pos e3, if_pos e3]
      · rw [if_neg e3, if_neg e3]
        show P a b = (if a = k' then if b = s' then y else P a b else P a b)
        rw [if_neg e]
    · rw [if_neg e2, if_neg e2, if_neg e]
def be (P : Nat → Nat → Nat) (s cu cd p : Nat) : Nat × (Nat → Nat → Nat) := if cu % cd = 0 ∧ (1 ≤ cu / cd ∧ cu / cd ≤ 9999999) ∧ 1 ≤ p ∧ p ≤ 9999999 then (0, p_up (p_up P 1 s (cu / cd)) 0 s p) else (1, P)
/-- behind a method that may change the values -/
def mq (H : ev_H) (A I v : Nat → Nat) (o : Nat) (Q : Nat → Nat → Nat) (R : Nat → Nat → Int32) (lv f : Nat → Nat) (r : Option Value) (h1 : ev_H) : Prop := r = some (.int (nI o)) ∧ mpost H A I v Q R lv f h1
section REFI
variable {G : ev_G} {w : Nat} {H h1 : ev_H} {A I v : Nat → Nat} {Q : Nat → Nat → Nat} {R : Nat → Nat → Int32} {lv f : Nat → Nat} {k s dd : Nat}
theorem k_rounded {n b : Nat} (hd : 1 ≤ dd) (h0 : 0 < b) (h1 : n < 2 ^ 60) (h2 : b < 2 ^ 60) {H : ev_H} : ev_Ca G dd w m_X9_rounded [.long (lN n), .long (lN b)] H 0 0 (ev_ok (fun r h1 => r = some (.long (lN ((2 * n + b) / (2 * b)))) ∧ h1 = H)) := by
  obtain ⟨dd, rfl⟩ : ∃ e, dd = e + 1 := ⟨dd - 1, by omega⟩
  refine ⟨by decide +kernel, rfl, ?_⟩
  refine ev_ldc2 (pc := 0) dX9_rounded_0 k_X9_175 ?_
  refine ev_lload_n (pc := 3) dX9_rounded_3 rfl ?_
  refine ev_lmulN (pc := 4) dX9_rounded_4 ?_
  refine ev_lload_n (pc := 5) dX9_rounded_5 rfl ?_
  refine ev_laddN (pc := 6) dX9_rounded_6 ?_
  refine ev_ldc2 (pc := 7) dX9_rounded_7 k_X9_175 ?_
  refine ev_lload_n (pc := 10) dX9_rounded_10 rfl ?_
  refine ev_lmulN (pc := 11) dX9_rounded_11 ?_
  refine ev_ldivN (pc := 12) dX9_rounded_12 (by omega) (by omega) (by omega) ?_
  exact ev_lret (pc := 13) dX9_rounded_13 rfl ⟨rfl, rfl⟩
theorem k_rbecome {cu cd p : Nat} (hd : 1 ≤ dd) (h : MS H A I v Q R lv f) (hs : s < 8) (h1 : cu < 2 ^ 62) (h2 : 0 < cd) (h3 : cd < 2 ^ 31) (h4 : p < 2 ^ 62) : ev_Ca G dd w m_X9_become [.ref (A 17), .int (nI s), .long (lN p), .long (lN cu), .int (nI cd)] H 0 0 (ev_ok (mq H A I v (be Q s cu cd p).1 (be Q s cu cd p).2 R lv f)) := by
  obtain ⟨dd, rfl⟩ : ∃ e, dd = e + 1 := ⟨dd - 1, by omega⟩
  refine ⟨by decide +kernel, rfl, ?_⟩
  have hml := Nat.mod_lt cu h2
  have hdl := Nat.div_le_self cu cd
  have no : ∀ {V}, ¬ (cu % cd = 0 ∧ (1 ≤ cu / cd ∧ cu / cd ≤ 9999999) ∧ 1 ≤ p ∧ p ≤ 9999999) → ev_J G (ev_cc G dd w) w m_X9_become (ev_ok (mq H A I v (be Q s cu cd p).1 (be Q s cu cd p).2 R lv f)) (49, V, [], H, 0, 0) := by
    intro V hn
    have e : be Q s cu cd p = (1, Q) := if_neg hn
    rw [e]
    refine ev_iconst (pc := 49) (v := nI 1) dX9_become_49 (by decide) ?_
    exact ev_iret (pc := 50) dX9_become_50 rfl rfl ⟨rfl, h, MF.rf⟩
  refine ev_lload (pc := 0) dX9_become_0 rfl ?_
  refine ev_iload (pc := 2) dX9_become_2 rfl ?_
  refine ev_i2lN (pc := 4) dX9_become_4 (by omega) ?_
  refine ev_lremN (pc := 5) dX9_become_5 (by omega) (by omega) (by omega) ?_
  refine ev_lconst (pc := 6) (v := lN 0) dX9_become_6 (by decide) ?_
  refine ev_lc_ne (pc := 7) (tgt := 49) dX9_become_7 dX9_become_8 (by decide) (by omega) (by omega) (fun c1 => ?_) (fun c1 => ?_)
  · exact no (fun q => c1 q.1)
  refine ev_lload_n (pc := 11) dX9_become_11 rfl ?_
  refine ev_lconst (pc := 12) (v := lN 1) dX9_become_12 (by decide) ?_
  refine ev_lc_lt (pc := 13) (tgt := 49) dX9_become_13 dX9_become_14 (by decide) (by omega) (by omega) (fun c2 => ?_) (fun c2 => ?_)
  · exact no (fun q => by have := q.2.2.1; omega)
  refine ev_lload_n (pc := 17) dX9_become_17 rfl ?_
  refine ev_ldc2 (pc := 18) dX9_become_18 k_X9_173 ?_
  refine ev_lc_gt (pc := 21) (tgt := 49) dX9_become_21 dX9_become_22 (by decide) (by omega) (by omega) (fun c3 => ?_) (fun c3 => ?_)
  · exact no (fun q => by have := q.2.2.2; omega)
  refine ev_lload (pc := 25) dX9_become_25 rfl ?_
  refine ev_iload (pc := 27) dX9_become_27 rfl ?_
  refine ev_i2lN (pc := 29) dX9_become_29 (by omega) ?_
  refine ev_ldivN (pc := 30) dX9_become_30 (by omega) (by omega) (by omega) ?_
  refine ev_lconst (pc := 31) (v := lN 1) dX9_become_31 (by decide) ?_
  refine ev_lc_lt (pc := 32) (tgt := 49) dX9_become_32 dX9_become_33 (by decide) (by omega) (by omega) (fun c4 => ?_) (fun c4 => ?_)
  · exact no (fun q => by have := q.2.1.1; omega)
  refine ev_lload (pc := 36) dX9_become_36 rfl ?_
  refine ev_iload (pc := 38) dX9_become_38 rfl ?_
  refine ev_i2lN (pc := 40) dX9_become_40 (by omega) ?_
  refine ev_ldivN (pc := 41) dX9_become_41 (by omega) (by omega) (by omega) ?_
  refine ev_ldc2 (pc := 42) dX9_become_42 k_X9_173 ?_
  refine ev_lc_le (pc := 45) (tgt := 51) dX9_become_45 dX9_become_46 (by decide) (by omega) (by omega) (fun c5 => ?_) (fun c5 => ?_)
  · have e : be Q s cu cd p = (0, p_up (p_up Q 1 s (cu / cd)) 0 s p) := if_pos ⟨by omega, ⟨by omega, by omega⟩, by omega, by omega⟩
    rw [e]
    refine ev_aload_n (pc := 51) dX9_become_51 rfl ?_
    refine ev_getf (pc := 52) dX9_become_52 f_X9_16 (ms_M h) rfl ?_
    refine ev_iload_n (pc := 55) dX9_become_55 rfl ?_
    refine ev_lload_n (pc := 56) dX9_become_56 rfl ?_
    refine ev_l2iN (pc := 57) dX9_become_57 ?_
    refine ev_iast (pc := 58) dX9_become_58 (ms_Q h 0 (by decide)) (vp_in_nI hs (by decide)) ?_
    obtain ⟨h2', hF2⟩ := ms_uQ (k := 0) (s := s) (x := p) h (by decide) hs
    refine ev_th (h2 := ev_up H (A (2 + 0)) (.inl (.int, 8, .inl (upd (fun j => nI (Q 0 j)) (nI s).toNatClampNeg (nI p))))) rfl ?_
    generalize ev_up H (A (2 + 0)) (.inl (.int, 8, .inl (upd (fun j => nI (Q 0 j)) (nI s).toNatClampNeg (nI p)))) = H2 at *
    refine ev_aload_n (pc := 59) dX9_become_59 rfl ?_
    refine ev_getf (pc := 60) dX9_become_60 f_X9_19 (ms_M h2') rfl ?_
    refine ev_iload_n (pc := 63) dX9_become_63 rfl ?_
    refine ev_lload (pc := 64) dX9_become_64 rfl ?_
    refine ev_iload (pc := 66) dX9_become_66 rfl ?_
    refine ev_i2lN (pc := 68) dX9_become_68 (by omega) ?_
    refine ev_ldivN (pc := 69) dX9_become_69 (by omega) (by omega) (by omega) ?_
    refine ev_l2iN (pc := 70) dX9_become_70 ?_
    refine ev_iast (pc := 71) dX9_become_71 (ms_Q h2' 1 (by decide)) (vp_in_nI hs (by decide)) ?_
    obtain ⟨h3', hF3⟩ := ms_uQ (k := 1) (s := s) (x := cu / cd) h2' (by decide) hs
    rw [p_upc (by decide)] at h3'
    refine ev_iconst (pc := 72) (v := nI 0) dX9_become_72 (by decide) ?_
    exact ev_iret (pc := 73) dX9_become_73 rfl rfl ⟨rfl, h3', hF2.tr hF3⟩
  · exact no (fun q => by have := q.2.1.2; omega)
theorem k_rsplit {x y : Int32} (hd : 2 ≤ dd) (hw : 60 ≤ w) (h : MS H A I v Q R lv f) (hP : P_ok Q) (hs : s < 8) : ev_Ca G dd w m_X9_split [.ref (A 17), .int (nI s), .int x, .int y] H 0 0 (ev_ok (mq H A I v (sp_split Q s x y).1 (sp_split Q s x y).2 R lv f)) := by
  obtain ⟨dd, rfl⟩ : ∃ e, dd = e + 1 := ⟨dd - 1, by omega⟩
  refine ⟨by decide +kernel, rfl, ?_⟩
  obtain ⟨⟨a1, a2⟩, ⟨b1, b2⟩, -⟩ := hP s hs
  have no : ∀ {V}, ¬ (ri x 1 1000 ∧ ri y 1 1000) → ev_J G (ev_cc G dd w) w m_X9_split (ev_ok (mq H A I v (sp_split Q s x y).1 (sp_split Q s x y).2 R lv f)) (22, V, [], H, 0, 0) := by
    intro V hn
    have e : sp_split Q s x y = (1, Q) := if_neg (fun q => hn ⟨q.1, q.2⟩)
    rw [e]
    refine ev_iconst (pc := 22) (v := nI 1) dX9_split_22 (by decide) ?_
    exact ev_iret (pc := 23) dX9_split_23 rfl rfl ⟨rfl, h, MF.rf⟩
  refine ev_iload_n (pc := 0) dX9_split_0 rfl ?_
  refine ev_iconst (pc := 1) (v := nI 1) dX9_split_1 (by decide) ?_
  refine ev_sipush (pc := 2) (v := nI 1000) dX9_split_2 (by decide) ?_
  refine ev_callS (pc := 5) (As := [.int x, .int (nI 1), .int (nI 1000)]) dX9_split_5 cs_X9_142 rfl rfl ⟨by show 19 + 3 ≤ w; omega, show ev_Ca _ _ (w - 22) _ _ _ _ _ _ from k_in (x := x) (lo := 1) (hi := 1000) (by omega) (by decide) (by decide)⟩ rfl rfl (fun r h1 hp => ?_)
  obtain ⟨rfl, hH⟩ := hp
  rw [hH]
  clear hH
  by_cases e2 : ri x 1 1000
  · rw [show rb x ((1 : Nat) : Int) ((1000 : Nat) : Int) = 1 from rb_1 e2]
    refine ev_if_eqN (pc := 8) (tgt := 22) dX9_split_8 (by decide) (by decide) (fun q => absurd q (by decide)) (fun _ => ?_)
    refine ev_iload_n (pc := 11) dX9_split_11 rfl ?_
    refine ev_iconst (pc := 12) (v := nI 1) dX9_split_12 (by decide) ?_
    refine ev_sipush (pc := 13) (v := nI 1000) dX9_split_13 (by decide) ?_
    refine ev_callS (pc := 16) (As := [.int y, .int (nI 1), .int (nI 1000)]) dX9_split_16 cs_X9_142 rfl rfl ⟨by show 19 + 3 ≤ w; omega, show ev_Ca _ _ (w - 22) _ _ _ _ _ _ from k_in (x := y) (lo := 1) (hi := 1000) (by omega) (by decide) (by decide)⟩ rfl rfl (fun r h1 hp => ?_)
    obtain ⟨rfl, hH⟩ := hp
    rw [hH]
    clear hH
    by_cases e4 : ri y 1 1000
    · rw [show rb y ((1 : Nat) : Int) ((1000 : Nat) : Int) = 1 from rb_1 e4]
      refine ev_if_neN (pc := 19) (tgt := 24) dX9_split_19 (by decide) (by decide) (fun _ => ?_) (fun q => absurd q (by decide))
      have e : sp_split Q s x y = sp_ex Q s (Q 1 s * x.toInt.toNat) y.toInt.toNat (Q 0 s * y.toInt.toNat) x.toInt.toNat := if_pos ⟨e2, e4⟩
      rw [e]
      obtain ⟨n, rfl, n1, n2⟩ := ri_nI (lo := 1) (hi := 1000) e2 (by decide)
      obtain ⟨m, rfl, m1, m2⟩ := ri_nI (lo := 1) (hi := 1000) e4 (by decide)
      rw [nI_tn (by omega), nI_tn (by omega)]
      have t1 : Q 1 s * n ≤ 9999999 * 1000 := Nat.mul_le_mul b2 n2
      have t2 : Q 0 s * m ≤ 9999999 * 1000 := Nat.mul_le_mul a2 m2
      refine ev_aload_n (pc := 24) dX9_split_24 rfl ?_
      refine ev_iload_n (pc := 25) dX9_split_25 rfl ?_
      refine ev_aload_n (pc := 26) dX9_split_26 rfl ?_
      refine ev_getf (pc := 27) dX9_split_27 f_X9_16 (ms_M h) rfl ?_
      refine ev_iload_n (pc := 30) dX9_split_30 rfl ?_
      refine ev_iaN (pc := 31) dX9_split_31 (ms_Q h 0 (by decide)) (by omega) (by omega) ?_
      refine ev_i2lN (pc := 32) dX9_split_32 (by omega) ?_
      refine ev_iload_n (pc := 33) dX9_split_33 rfl ?_
      refine ev_i2lN (pc := 34) dX9_split_34 (by omega) ?_
      refine ev_lmulN (pc := 35) dX9_split_35 ?_
      refine ev_iload_n (pc := 36) dX9_split_36 rfl ?_
      refine ev_i2lN (pc := 37) dX9_split_37 (by omega) ?_
      refine ev_callS (pc := 38) (As := [.long (lN (Q 0 s * m)), .long (lN n)]) dX9_split_38 cs_X9_177 rfl rfl ⟨by show 19 + 4 ≤ w; omega, show ev_Ca _ _ (w - 23) _ _ _ _ _ _ from k_rounded (by omega) (by omega) (by omega) (by omega)⟩ rfl rfl (fun r h1 hp => ?_)
      obtain ⟨rfl, hH⟩ := hp
      rw [hH]
      clear hH
      have t3 := Nat.div_le_self (2 * (Q 0 s * m) + n) (2 * n)
      refine ev_aload_n (pc := 41) dX9_split_41 rfl ?_
      refine ev_getf (pc := 42) dX9_split_42 f_X9_19 (ms_M h) rfl ?_
      refine ev_iload_n (pc := 45) dX9_split_45 rfl ?_
      refine ev_iaN (pc := 46) dX9_split_46 (ms_Q h 1 (by decide)) (by omega) (by omega) ?_
      refine ev_i2lN (pc := 47) dX9_split_47 (by omega) ?_
      refine ev_iload_n (pc := 48) dX9_split_48 rfl ?_
      refine ev_i2lN (pc := 49) dX9_split_49 (by omega) ?_
      refine ev_lmulN (pc := 50) dX9_split_50 ?_
      refine ev_iload_n (pc := 51) dX9_split_51 rfl ?_
      refine ev_callV (pc := 52) (As := [.int (nI s), .long (lN ((2 * (Q 0 s * m) + n) / (2 * n))), .long (lN (Q 1 s * n)), .int (nI m)]) dX9_split_52 cv_X9_181 rfl rfl (ms_M h) rfl ⟨by show 19 + 7 ≤ w; omega, show ev_Ca _ _ (w - 26) _ _ _ _ _ _ from k_rbecome (by omega) h hs (by omega) (by omega) (by omega) (by omega)⟩ rfl rfl (fun r h1 hp => ?_)
      obtain ⟨rfl, hp⟩ := hp
      exact ev_iret (pc := 55) dX9_split_55 rfl rfl ⟨rfl, hp⟩
    · rw [show rb y ((1 : Nat) : Int) ((1000 : Nat) : Int) = 0 from rb_0 e4]
      refine ev_if_neN (pc := 19) (tgt := 24) dX9_split_19 (by decide) (by decide) (fun q => absurd q (by decide)) (fun _ => ?_)
      exact no (fun q => e4 q.2)
  · rw [show rb x ((1 : Nat) : Int) ((1000 : Nat) : Int) = 0 from rb_0 e2]
    refine ev_if_eqN (pc := 8) (tgt := 22) dX9_split_8 (by decide) (by decide) (fun _ => ?_) (fun q => absurd q (by decide))
    exact no (fun q => e2 q.1)
theorem k_rrights {x y o : Int32} (hd : 2 ≤ dd) (hw : 60 ≤ w) (h : MS H A I v Q R lv f) (hP : P_ok Q) (hs : s < 8) : ev_Ca G dd w m_X9_rights [.ref (A 17), .int (nI s), .int x, .int y, .int o] H 0 0 (ev_ok (mq H A I v (sp_rights Q s x y o).1 (sp_rights Q s x y o).2 R lv f)) := by
  obtain ⟨dd, rfl⟩ : ∃ e, dd = e + 1 := ⟨dd - 1, by omega⟩
  refine ⟨by decide +kernel, rfl, ?_⟩
  obtain ⟨⟨a1, a2⟩, ⟨b1, b2⟩, -⟩ := hP s hs
  have no : ∀ {V}, ¬ (ri x 1 1000 ∧ ri y 1 1000 ∧ ri o 1 9999999) → ev_J G (ev_cc G dd w) w m_X9_rights (ev_ok (mq H A I v (sp_rights Q s x y o).1 (sp_rights Q s x y o).2 R lv f)) (33, V, [], H, 0, 0) := by
    intro V hn
    have e : sp_rights Q s x y o = (1, Q) := if_neg (fun q => hn ⟨q.1, q.2.1, q.2.2⟩)
    rw [e]
    refine ev_iconst (pc := 33) (v := nI 1) dX9_rights_33 (by decide) ?_
    exact ev_iret (pc := 34) dX9_rights_34 rfl rfl ⟨rfl, h, MF.rf⟩
  refine ev_iload_n (pc := 0) dX9_rights_0 rfl ?_
  refine ev_iconst (pc := 1) (v := nI 1) dX9_rights_1 (by decide) ?_
  refine ev_sipush (pc := 2) (v := nI 1000) dX9_rights_2 (by decide) ?_
  refine ev_callS (pc := 5) (As := [.int x, .int (nI 1), .int (nI 1000)]) dX9_rights_5 cs_X9_142 rfl rfl ⟨by show 19 + 3 ≤ w; omega, show ev_Ca _ _ (w - 22) _ _ _ _ _ _ from k_in (x := x) (lo := 1) (hi := 1000) (by omega) (by decide) (by decide)⟩ rfl rfl (fun r h1 hp => ?_)
  obtain ⟨rfl, hH⟩ := hp
  rw [hH]
  clear hH
  by_cases e2 : ri x 1 1000
  · rw [show rb x ((1 : Nat) : Int) ((1000 : Nat) : Int) = 1 from rb_1 e2]
    refine ev_if_eqN (pc := 8) (tgt := 33) dX9_rights_8 (by decide) (by decide) (fun q => absurd q (by decide)) (fun _ => ?_)
    refine ev_iload_n (pc := 11) dX9_rights_11 rfl ?_
    refine ev_iconst (pc := 12) (v := nI 1) dX9_rights_12 (by decide) ?_
    refine ev_sipush (pc := 13) (v := nI 1000) dX9_rights_13 (by decide) ?_
    refine ev_callS (pc := 16) (As := [.int y, .int (nI 1), .int (nI 1000)]) dX9_rights_16 cs_X9_142 rfl rfl ⟨by show 19 + 3 ≤ w; omega, show ev_Ca _ _ (w - 22) _ _ _ _ _ _ from k_in (x := y) (lo := 1) (hi := 1000) (by omega) (by decide) (by decide)⟩ rfl rfl (fun r h1 hp => ?_)
    obtain ⟨rfl, hH⟩ := hp
    rw [hH]
    clear hH
    by_cases e4 : ri y 1 1000
    · rw [show rb y ((1 : Nat) : Int) ((1000 : Nat) : Int) = 1 from rb_1 e4]
      refine ev_if_eqN (pc := 19) (tgt := 33) dX9_rights_19 (by decide) (by decide) (fun q => absurd q (by decide)) (fun _ => ?_)
      refine ev_iload (pc := 22) dX9_rights_22 rfl ?_
      refine ev_iconst (pc := 24) (v := nI 1) dX9_rights_24 (by decide) ?_
      refine ev_ldc (pc := 25) dX9_rights_25 k_X9_141 ?_
      refine ev_callS (pc := 27) (As := [.int o, .int (nI 1), .int (nI 9999999)]) dX9_rights_27 cs_X9_142 rfl rfl ⟨by show 19 + 3 ≤ w; omega, show ev_Ca _ _ (w - 22) _ _ _ _ _ _ from k_in (x := o) (lo := 1) (hi := 9999999) (by omega) (by decide) (by decide)⟩ rfl rfl (fun r h1 hp => ?_)
      obtain ⟨rfl, hH⟩ := hp
      rw [hH]
      clear hH
      by_cases e6 : ri o 1 9999999
      · rw [show rb o ((1 : Nat) : Int) ((9999999 : Nat) : Int) = 1 from rb_1 e6]
        refine ev_if_neN (pc := 30) (tgt := 35) dX9_rights_30 (by decide) (by decide) (fun _ => ?_) (fun q => absurd q (by decide))
        have e : sp_rights Q s x y o = (if Q 0 s ≤ o.toInt.toNat then (0, Q) else sp_ex Q s (Q 1 s * (x.toInt.toNat + y.toInt.toNat)) y.toInt.toNat (Q 0 s * y.toInt.toNat + o.toInt.toNat * x.toInt.toNat) (x.toInt.toNat + y.toInt.toNat)) := if_pos ⟨e2, e4, e6⟩
        rw [e]
        obtain ⟨n, rfl, n1, n2⟩ := ri_nI (lo := 1) (hi := 1000) e2 (by decide)
        obtain ⟨m, rfl, m1, m2⟩ := ri_nI (lo := 1) (hi := 1000) e4 (by decide)
        obtain ⟨u, rfl, u1, u2⟩ := ri_nI (lo := 1) (hi := 9999999) e6 (by decide)
        rw [nI_tn (by omega), nI_tn (by omega), nI_tn (by omega)]
        have t1 : Q 1 s * (n + m) ≤ 9999999 * 2000 := Nat.mul_le_mul b2 (by omega)
        have t2 : Q 0 s * m ≤ 9999999 * 1000 := Nat.mul_le_mul a2 m2
        have t4 : u * n ≤ 9999999 * 1000 := Nat.mul_le_mul u2 n2
        refine ev_iload (pc := 35) dX9_rights_35 rfl ?_
        refine ev_aload_n (pc := 37) dX9_rights_37 rfl ?_
        refine ev_getf (pc := 38) dX9_rights_38 f_X9_16 (ms_M h) rfl ?_
        refine ev_iload_n (pc := 41) dX9_rights_41 rfl ?_
        refine ev_iaN (pc := 42) dX9_rights_42 (ms_Q h 0 (by decide)) (by omega) (by omega) ?_
        refine ev_icmp_ltN (pc := 43) (tgt := 48) dX9_rights_43 (by decide) (by omega) (by omega) (fun c1 => ?_) (fun c1 => ?_)
        · rw [if_neg (by omega)]
          refine ev_aload_n (pc := 48) dX9_rights_48 rfl ?_
          refine ev_iload_n (pc := 49) dX9_rights_49 rfl ?_
          refine ev_aload_n (pc := 50) dX9_rights_50 rfl ?_
          refine ev_getf (pc := 51) dX9_rights_51 f_X9_16 (ms_M h) rfl ?_
          refine ev_iload_n (pc := 54) dX9_rights_54 rfl ?_
          refine ev_iaN (pc := 55) dX9_rights_55 (ms_Q h 0 (by decide)) (by omega) (by omega) ?_
          refine ev_i2lN (pc := 56) dX9_rights_56 (by omega) ?_
          refine ev_iload_n (pc := 57) dX9_rights_57 rfl ?_
          refine ev_i2lN (pc := 58) dX9_rights_58 (by omega) ?_
          refine ev_lmulN (pc := 59) dX9_rights_59 ?_
          refine ev_iload (pc := 60) dX9_rights_60 rfl ?_
          refine ev_i2lN (pc := 62) dX9_rights_62 (by omega) ?_
          refine ev_iload_n (pc := 63) dX9_rights_63 rfl ?_
          refine ev_i2lN (pc := 64) dX9_rights_64 (by omega) ?_
          refine ev_lmulN (pc := 65) dX9_rights_65 ?_
          refine ev_laddN (pc := 66) dX9_rights_66 ?_
          refine ev_iload_n (pc := 67) dX9_rights_67 rfl ?_
          refine ev_iload_n (pc := 68) dX9_rights_68 rfl ?_
          refine ev_iaddN (pc := 69) dX9_rights_69 ?_
          refine ev_i2lN (pc := 70) dX9_rights_70 (by omega) ?_
          refine ev_callS (pc := 71) (As := [.long (lN (Q 0 s * m + u * n)), .long (lN (n + m))]) dX9_rights_71 cs_X9_177 rfl rfl ⟨by show 19 + 4 ≤ w; omega, show ev_Ca _ _ (w - 23) _ _ _ _ _ _ from k_rounded (by omega) (by omega) (by omega) (by omega)⟩ rfl rfl (fun r h1 hp => ?_)
          obtain ⟨rfl, hH⟩ := hp
          rw [hH]
          clear hH
          have t3 := Nat.div_le_self (2 * (Q 0 s * m + u * n) + (n + m)) (2 * (n + m))
          refine ev_aload_n (pc := 74) dX9_rights_74 rfl ?_
          refine ev_getf (pc := 75) dX9_rights_75 f_X9_19 (ms_M h) rfl ?_
          refine ev_iload_n (pc := 78) dX9_rights_78 rfl ?_
          refine ev_iaN (pc := 79) dX9_rights_79 (ms_Q h 1 (by decide)) (by omega) (by omega) ?_
          refine ev_i2lN (pc := 80) dX9_rights_80 (by omega) ?_
          refine ev_iload_n (pc := 81) dX9_rights_81 rfl ?_
          refine ev_iload_n (pc := 82) dX9_rights_82 rfl ?_
          refine ev_iaddN (pc := 83) dX9_rights_83 ?_
          refine ev_i2lN (pc := 84) dX9_rights_84 (by omega) ?_
          refine ev_lmulN (pc := 85) dX9_rights_85 ?_
          refine ev_iload_n (pc := 86) dX9_rights_86 rfl ?_
          refine ev_callV (pc := 87) (As := [.int (nI s), .long (lN ((2 * (Q 0 s * m + u * n) + (n + m)) / (2 * (n + m)))), .long (lN (Q 1 s * (n + m))), .int (nI m)]) dX9_rights_87 cv_X9_181 rfl rfl (ms_M h) rfl ⟨by show 19 + 7 ≤ w; omega, show ev_Ca _ _ (w - 26) _ _ _ _ _ _ from k_rbecome (by omega) h hs (by omega) (by omega) (by omega) (by omega)⟩ rfl rfl (fun r h1 hp => ?_)
          obtain ⟨rfl, hp⟩ := hp
          exact ev_iret (pc := 90) dX9_rights_90 rfl rfl ⟨rfl, hp⟩
        · rw [if_pos (by omega)]
          refine ev_iconst (pc := 46) (v := nI 0) dX9_rights_46 (by decide) ?_
          exact ev_iret (pc := 47) dX9_rights_47 rfl rfl ⟨rfl, h, MF.rf⟩
      · rw [show rb o ((1 : Nat) : Int) ((9999999 : Nat) : Int) = 0 from rb_0 e6]
        refine ev_if_neN (pc := 30) (tgt := 35) dX9_rights_30 (by decide) (by decide) (fun q => absurd q (by decide)) (fun _ => ?_)
        exact no (fun q => e6 q.2.2)
    · rw [show rb y ((1 : Nat) : Int) ((1000 : Nat) : Int) = 0 from rb_0 e4]
      refine ev_if_eqN (pc := 19) (tgt := 33) dX9_rights_19 (by decide) (by decide) (fun _ => ?_) (fun q => absurd q (by decide))
      exact no (fun q => e4 q.2.1)
  · rw [show rb x ((1 : Nat) : Int) ((1000 : Nat) : Int) = 0 from rb_0 e2]
    refine ev_if_eqN (pc := 8) (tgt := 33) dX9_rights_8 (by decide) (by decide) (fun _ => ?_) (fun q => absurd q (by decide))
    exact no (fun q => e2 q.1)
theorem k_rdividend {x : Int32} (hd : 1 ≤ dd) (h : MS H A I v Q R lv f) (hP : P_ok Q) (hs : s < 8) : ev_Ca G dd w m_X9_dividend [.ref (A 17), .int (nI s), .int x] H 0 0 (ev_ok (mq H A I v (sp_div Q s x).1 (sp_div Q s x).2 R lv f)) := by
  obtain ⟨dd, rfl⟩ : ∃ e, dd = e + 1 := ⟨dd - 1, by omega⟩
  refine ⟨by decide +kernel, rfl, ?_⟩
  obtain ⟨⟨a1, a2⟩, -⟩ := hP s hs
  have i1 := i32_le (x := x) (n := 1) (by decide)
  have i2 := i32_le (x := x) (n := Q 0 s) (by omega)
  have no : ∀ {V}, ¬ (1 ≤ x.toInt ∧ x.toInt < Q 0 s) → ev_J G (ev_cc G dd w) w m_X9_dividend (ev_ok (mq H A I v (sp_div Q s x).1 (sp_div Q s x).2 R lv f)) (15, V, [], H, 0, 0) := by
    intro V hn
    have e : sp_div Q s x = (1, Q) := if_neg hn
    rw [e]
    refine ev_iconst (pc := 15) (v := nI 1) dX9_dividend_15 (by decide) ?_
    exact ev_iret (pc := 16) dX9_dividend_16 rfl rfl ⟨rfl, h, MF.rf⟩
  refine ev_iload_n (pc := 0) dX9_dividend_0 rfl ?_
  refine ev_iconst (pc := 1) (v := nI 1) dX9_dividend_1 (by decide) ?_
  refine ev_icmp_lt (pc := 2) (tgt := 15) dX9_dividend_2 (by decide) (fun c1 => ?_) (fun c1 => ?_)
  · have n1 := i1.2.1.mp c1
    exact no (fun q => by have := q.1; omega)
  · have n1 : (1 : Int) ≤ x.toInt := Int.not_lt.mp (fun q => c1 (i1.2.1.mpr q))
    refine ev_iload_n (pc := 5) dX9_dividend_5 rfl ?_
    refine ev_aload_n (pc := 6) dX9_dividend_6 rfl ?_
    refine ev_getf (pc := 7) dX9_dividend_7 f_X9_16 (ms_M h) rfl ?_
    refine ev_iload_n (pc := 10) dX9_dividend_10 rfl ?_
    refine ev_iaN (pc := 11) dX9_dividend_11 (ms_Q h 0 (by decide)) (by omega) (by decide) ?_
    refine ev_icmp_lt (pc := 12) (tgt := 17) dX9_dividend_12 (by decide) (fun c2 => ?_) (fun c2 => ?_)
    · have n2 := i2.2.1.mp c2
      have e : sp_div Q s x = (0, p_up Q 0 s (Q 0 s - x.toInt.toNat)) := if_pos ⟨n1, n2⟩
      rw [e]
      obtain ⟨n, rfl, m1, m2⟩ := ri_nI (x := x) (lo := 1) (hi := 9999999) ⟨n1, by omega⟩ (by decide)
      rw [nI_toInt (by omega)] at n2
      rw [nI_tn (by omega)]
      refine ev_aload_n (pc := 17) dX9_dividend_17 rfl ?_
      refine ev_getf (pc := 18) dX9_dividend_18 f_X9_16 (ms_M h) rfl ?_
      refine ev_iload_n (pc := 21) dX9_dividend_21 rfl ?_
      refine ev_dup2_11 (pc := 22) dX9_dividend_22 rfl rfl ?_
      refine ev_iaN (pc := 23) dX9_dividend_23 (ms_Q h 0 (by decide)) (by omega) (by omega) ?_
      refine ev_iload_n (pc := 24) dX9_dividend_24 rfl ?_
      refine ev_isubN (pc := 25) dX9_dividend_25 (by omega) ?_
      refine ev_iast (pc := 26) dX9_dividend_26 (ms_Q h 0 (by decide)) (vp_in_nI hs (by decide)) ?_
      obtain ⟨h2, hF2⟩ := ms_uQ (k := 0) (s := s) (x := Q 0 s - n) h (by decide) hs
      refine ev_iconst (pc := 27) (v := nI 0) dX9_dividend_27 (by decide) ?_
      exact ev_iret (pc := 28) dX9_dividend_28 rfl rfl ⟨rfl, h2, hF2⟩
    · have n2 : (Q 0 s : Int) ≤ x.toInt := Int.not_lt.mp (fun q => c2 (i2.2.1.mpr q))
      exact no (fun q => by have := q.2; omega)
def pcs (n : Nat) : Nat → Nat
  | 0 => 0
  | k + 1 => pcs n k + n / 2 ^ k % 2
theorem pcs_le (n : Nat) : ∀ k, pcs n k ≤ k
  | 0 => Nat.le_refl 0
  | k + 1 => by
    have := pcs_le n k
    have := Nat.mod_lt (n / 2 ^ k) (show 0 < 2 by decide)
    show pcs n k + n / 2 ^ k % 2 ≤ k + 1
    omega
theorem pcs_8 (n : Nat) : pcs n 8 = pc8 n := by
  unfold pc8
  show 0 + n / 2 ^ 0 % 2 + n / 2 ^ 1 % 2 + n / 2 ^ 2 % 2 + n / 2 ^ 3 % 2 + n / 2 ^ 4 % 2 + n / 2 ^ 5 % 2 + n / 2 ^ 6 % 2 + n / 2 ^ 7 % 2 = _
  rw [Nat.pow_zero, Nat.div_one, Nat.zero_add]
theorem l_rcount {K : ev_K} {c z n : Nat} {V0 : Value} (hn : n < 256) (hK : K (.inl (some (.int (nI (pc8 n))))) H) :
    ∀ k j, j + k = 8 → ev_J G (ev_cc G dd w) w m_X9_count K (4, ev_lf [(0, V0), (1, .int (nI n)), (2, .int (nI (pcs n j))), (3, .int (nI j))], [], H, c, z)
  | 0, j, e => by
    refine ev_iload_n (pc := 4) dX9_count_4 rfl ?_
    refine ev_bipush (pc := 5) (v := nI 8) dX9_count_5 (by decide) ?_
    refine ev_icmp_geN (pc := 7) (tgt := 24) dX9_count_7 (by decide) (by omega) (by omega) (fun c1 => ?_) (fun c1 => ?_)
    · have : j = 8 := by omega
      subst this
      rw [pcs_8]
      refine ev_iload_n (pc := 24) dX9_count_24 rfl ?_
      exact ev_iret (pc := 25) dX9_count_25 rfl rfl hK
    · omega
  | k + 1, j, e => by
    have q := Nat.div_le_self n (2 ^ j)
    refine ev_iload_n (pc := 4) dX9_count_4 rfl ?_
    refine ev_bipush (pc := 5) (v := nI 8) dX9_count_5 (by decide) ?_
    refine ev_icmp_geN (pc := 7) (tgt := 24) dX9_count_7 (by decide) (by omega) (by omega) (fun c1 => ?_) (fun c1 => ?_)
    · omega
    · refine ev_iload_n (pc := 10) dX9_count_10 rfl ?_
      refine ev_iload_n (pc := 11) dX9_count_11 rfl ?_
      refine ev_iload_n (pc := 12) dX9_count_12 rfl ?_
      refine ev_ishr (pc := 13) dX9_count_13 (ev_ti (mi_shr (by omega) (by omega)) ?_)
      refine ev_iconst (pc := 14) (v := nI 1) dX9_count_14 (by decide) ?_
      refine ev_iand (pc := 15) dX9_count_15 (ev_ti (mi_and1 (by omega)) ?_)
      refine ev_iaddN (pc := 16) dX9_count_16 ?_
      refine ev_istore_n (pc := 17) dX9_count_17 rfl ?_
      refine ev_iincN (pc := 18) dX9_count_18 rfl rfl ?_
      refine ev_goto (pc := 21) (tgt := 4) dX9_count_21 (by decide) ?_
      refine ev_vs [(0, V0), (1, .int (nI n)), (2, .int (nI (pcs n (j + 1)))), (3, .int (nI (j + 1)))] ⟨rfl, rfl, rfl, rfl, trivial⟩ ?_
      exact l_rcount hn hK k (j + 1) (by omega)
theorem k_rcount {n a : Nat} (hd : 1 ≤ dd) (hn : n < 256) {H : ev_H} : ev_Ca G dd w m_X9_count [.ref a, .int (nI n)] H 0 0 (ev_ok (fun r h1 => r = some (.int (nI (pc8 n))) ∧ h1 = H)) := by
  obtain ⟨dd, rfl⟩ : ∃ e, dd = e + 1 := ⟨dd - 1, by omega⟩
  refine ⟨by decide +kernel, rfl, ?_⟩
  refine ev_iconst (pc := 0) (v := nI 0) dX9_count_0 (by decide) ?_
  refine ev_istore_n (pc := 1) dX9_count_1 rfl ?_
  refine ev_iconst (pc := 2) (v := nI 0) dX9_count_2 (by decide) ?_
  refine ev_istore_n (pc := 3) dX9_count_3 rfl ?_
  refine ev_vs [(0, .ref a), (1, .int (nI n)), (2, .int (nI (pcs n 0))), (3, .int (nI 0))] ⟨rfl, rfl, rfl, rfl, trivial⟩ ?_
  exact l_rcount hn ⟨rfl, rfl⟩ 8 0 (by omega)
end REFI
