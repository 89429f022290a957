/-! IndexBureau: what only asks -/
section GET
variable {G : ev_G} {w : Nat} {H h1 : ev_H} {bp : Nat → Nat} {lay : Nat → Nat × Nat} {val : Nat → Nat} {i j k dd s : Nat} {sa sb ga : Nat → Nat} {P Pb : Nat → Nat → Nat} {fu fd fub fdb : Nat → Nat} {mem memb : Nat} {dn ba sd : Nat} {R : Nat → Nat → Int32} {wa ar : Nat} {T tc rq len : Nat} {f lv : Nat → Nat}
theorem k_members (hd : 1 ≤ dd) (hB : BQ H bp lay dn ba sd) (hS : SH H (bp 1) sa P fu fd mem) (hb : ba ≤ 1) : ev_Ca G dd w m_X8_members [.ref (bp 0)] H 0 0 (ev_ok (fun r h1 => r = some (.int (if ba = 0 then -1 else nI mem)) ∧ h1 = H)) := by
  obtain ⟨dd, rfl⟩ : ∃ e, dd = e + 1 := ⟨dd - 1, by omega⟩
  refine ⟨by decide +kernel, rfl, ?_⟩
  refine ev_aload_n (pc := 0) dX8_members_0 rfl ?_
  refine ev_getf (pc := 1) dX8_members_1 f_X8_67 hB.1 rfl ?_
  refine ev_if_eqN (pc := 4) (tgt := 17) dX8_members_4 (by decide) (by omega) (fun c1 => ?_) (fun c1 => ?_)
  · refine ev_iconst (pc := 17) (v := -1) dX8_members_17 (by decide) ?_
    exact ev_iret (pc := 18) dX8_members_18 rfl rfl ⟨by rw [if_pos c1], rfl⟩
  · refine ev_aload_n (pc := 7) dX8_members_7 rfl ?_
    refine ev_getf (pc := 8) dX8_members_8 f_X8_10 hB.1 rfl ?_
    refine ev_getf (pc := 11) dX8_members_11 f_X8_94 hS.1 rfl ?_
    refine ev_goto (pc := 14) (tgt := 18) dX8_members_14 (by decide) ?_
    exact ev_iret (pc := 18) dX8_members_18 rfl rfl ⟨by rw [if_neg (by omega)], rfl⟩
theorem k_days (hd : 1 ≤ dd) (hB : BQ H bp lay dn ba sd) (hb : ba ≤ 1) : ev_Ca G dd w m_X8_days [.ref (bp 0)] H 0 0 (ev_ok (fun r h1 => r = some (.int (if ba = 0 then -1 else nI dn)) ∧ h1 = H)) := by
  obtain ⟨dd, rfl⟩ : ∃ e, dd = e + 1 := ⟨dd - 1, by omega⟩
  refine ⟨by decide +kernel, rfl, ?_⟩
  refine ev_aload_n (pc := 0) dX8_days_0 rfl ?_
  refine ev_getf (pc := 1) dX8_days_1 f_X8_67 hB.1 rfl ?_
  refine ev_if_eqN (pc := 4) (tgt := 14) dX8_days_4 (by decide) (by omega) (fun c1 => ?_) (fun c1 => ?_)
  · refine ev_iconst (pc := 14) (v := -1) dX8_days_14 (by decide) ?_
    exact ev_iret (pc := 15) dX8_days_15 rfl rfl ⟨by rw [if_pos c1], rfl⟩
  · refine ev_aload_n (pc := 7) dX8_days_7 rfl ?_
    refine ev_getf (pc := 8) dX8_days_8 f_X8_63 hB.1 rfl ?_
    refine ev_goto (pc := 11) (tgt := 15) dX8_days_11 (by decide) ?_
    exact ev_iret (pc := 15) dX8_days_15 rfl rfl ⟨by rw [if_neg (by omega)], rfl⟩
theorem k_check (hd : 1 ≤ dd) (hB : BQ H bp lay dn ba sd) (hb : ba ≤ 1) (hs : sd ≤ 1) : ev_Ca G dd w m_X8_check [.ref (bp 0)] H 0 0 (ev_ok (fun r h1 => r = some (.int (if ba = 0 then -1 else nI sd)) ∧ h1 = H)) := by
  obtain ⟨dd, rfl⟩ : ∃ e, dd = e + 1 := ⟨dd - 1, by omega⟩
  refine ⟨by decide +kernel, rfl, ?_⟩
  refine ev_aload_n (pc := 0) dX8_check_0 rfl ?_
  refine ev_getf (pc := 1) dX8_check_1 f_X8_67 hB.1 rfl ?_
  refine ev_if_neN (pc := 4) (tgt := 9) dX8_check_4 (by decide) (by omega) (fun c1 => ?_) (fun c1 => ?_)
  · refine ev_aload_n (pc := 9) dX8_check_9 rfl ?_
    refine ev_getf (pc := 10) dX8_check_10 f_X8_71 hB.1 rfl ?_
    refine ev_if_eqN (pc := 13) (tgt := 20) dX8_check_13 (by decide) (by omega) (fun c2 => ?_) (fun c2 => ?_)
    · refine ev_iconst (pc := 20) (v := nI 0) dX8_check_20 (by decide) ?_
      exact ev_iret (pc := 21) dX8_check_21 rfl rfl ⟨by rw [if_neg (by omega), c2], rfl⟩
    · refine ev_iconst (pc := 16) (v := nI 1) dX8_check_16 (by decide) ?_
      refine ev_goto (pc := 17) (tgt := 21) dX8_check_17 (by decide) ?_
      exact ev_iret (pc := 21) dX8_check_21 rfl rfl ⟨by rw [if_neg (by omega), show sd = 1 by omega], rfl⟩
  · refine ev_iconst (pc := 7) (v := -1) dX8_check_7 (by decide) ?_
    exact ev_iret (pc := 8) dX8_check_8 rfl rfl ⟨by rw [if_pos c1], rfl⟩
/-- a place within bounds -/
def ib (x : Int32) (n : Nat) : Prop := 0 ≤ x.toInt ∧ x.toInt < n
theorem k_outcome {x : Int32} (hd : 2 ≤ dd) (hw : 30 ≤ w) (hB : BQ H bp lay dn ba sd) (hA : AG H (bp 3) ga R wa ar) (har : ar ≤ 16) : ev_Ca G dd w m_X8_outcome [.ref (bp 0), .int x] H 0 0 (ev_ok (fun r h1 => ((ib x ar ∧ r = some (.int (R 6 x.toInt.toNat))) ∨ (¬ ib x ar ∧ r = some (.int (-1)))) ∧ h1 = H)) := by
  obtain ⟨dd, rfl⟩ : ∃ e, dd = e + 1 := ⟨dd - 1, by omega⟩
  refine ⟨by decide +kernel, rfl, ?_⟩
  refine ev_aload_n (pc := 0) dX8_outcome_0 rfl ?_
  refine ev_getf (pc := 1) dX8_outcome_1 f_X8_22 hB.1 rfl ?_
  refine ev_iload_n (pc := 4) dX8_outcome_4 rfl ?_
  refine ev_callV (pc := 5) (As := [.int x]) dX8_outcome_5 cv_X8_159 rfl rfl hA.1 rfl ⟨by show 19 + 2 ≤ w; omega, show ev_Ca _ _ (w - 21) _ _ _ _ _ _ from k_wasArranged (by omega) hA har⟩ rfl rfl (fun r h1 hp => ?_)
  obtain ⟨rfl, hH⟩ := hp
  rw [hH]
  clear hH h1
  by_cases cc : 0 ≤ x.toInt ∧ x.toInt < ar
  · rw [if_pos cc]
    obtain ⟨n, rfl, n1, n2⟩ := ri_nI (x := x) (lo := 0) (hi := 15) ⟨cc.1, by omega⟩ (by decide)
    have en : (nI n).toInt.toNat = n := nI_tn (by omega)
    refine ev_if_eqN (pc := 8) (tgt := 23) dX8_outcome_8 (by decide) (by decide) (fun q => absurd q (by decide)) (fun _ => ?_)
    refine ev_aload_n (pc := 11) dX8_outcome_11 rfl ?_
    refine ev_getf (pc := 12) dX8_outcome_12 f_X8_22 hB.1 rfl ?_
    refine ev_getf (pc := 15) dX8_outcome_15 f_X8_144 hA.1 rfl ?_
    refine ev_iload_n (pc := 18) dX8_outcome_18 rfl ?_
    refine ev_iaF (pc := 19) dX8_outcome_19 (hA.2 6 (by decide)) (by omega) (by decide) rfl ?_
    refine ev_goto (pc := 20) (tgt := 24) dX8_outcome_20 (by decide) ?_
    exact ev_iret (pc := 24) dX8_outcome_24 rfl rfl ⟨Or.inl ⟨cc, by rw [en]⟩, rfl⟩
  · rw [if_neg cc]
    refine ev_if_eqN (pc := 8) (tgt := 23) dX8_outcome_8 (by decide) (by decide) (fun _ => ?_) (fun q => absurd q (by decide))
    refine ev_iconst (pc := 23) (v := -1) dX8_outcome_23 (by decide) ?_
    exact ev_iret (pc := 24) dX8_outcome_24 rfl rfl ⟨Or.inr ⟨cc, rfl⟩, rfl⟩
theorem k_noted {x : Int32} (hd : 2 ≤ dd) (hw : 30 ≤ w) (hB : BQ H bp lay dn ba sd) (hA : AG H (bp 3) ga R wa ar) (har : ar ≤ 16) : ev_Ca G dd w m_X8_noted [.ref (bp 0), .int x] H 0 0 (ev_ok (fun r h1 => ((ib x ar ∧ r = some (.int (R 5 x.toInt.toNat))) ∨ (¬ ib x ar ∧ r = some (.int (-1)))) ∧ h1 = H)) := by
  obtain ⟨dd, rfl⟩ : ∃ e, dd = e + 1 := ⟨dd - 1, by omega⟩
  refine ⟨by decide +kernel, rfl, ?_⟩
  refine ev_aload_n (pc := 0) dX8_noted_0 rfl ?_
  refine ev_getf (pc := 1) dX8_noted_1 f_X8_22 hB.1 rfl ?_
  refine ev_iload_n (pc := 4) dX8_noted_4 rfl ?_
  refine ev_callV (pc := 5) (As := [.int x]) dX8_noted_5 cv_X8_159 rfl rfl hA.1 rfl ⟨by show 19 + 2 ≤ w; omega, show ev_Ca _ _ (w - 21) _ _ _ _ _ _ from k_wasArranged (by omega) hA har⟩ rfl rfl (fun r h1 hp => ?_)
  obtain ⟨rfl, hH⟩ := hp
  rw [hH]
  clear hH h1
  by_cases cc : 0 ≤ x.toInt ∧ x.toInt < ar
  · rw [if_pos cc]
    obtain ⟨n, rfl, n1, n2⟩ := ri_nI (x := x) (lo := 0) (hi := 15) ⟨cc.1, by omega⟩ (by decide)
    have en : (nI n).toInt.toNat = n := nI_tn (by omega)
    refine ev_if_eqN (pc := 8) (tgt := 23) dX8_noted_8 (by decide) (by decide) (fun q => absurd q (by decide)) (fun _ => ?_)
    refine ev_aload_n (pc := 11) dX8_noted_11 rfl ?_
    refine ev_getf (pc := 12) dX8_noted_12 f_X8_22 hB.1 rfl ?_
    refine ev_getf (pc := 15) dX8_noted_15 f_X8_148 hA.1 rfl ?_
    refine ev_iload_n (pc := 18) dX8_noted_18 rfl ?_
    refine ev_iaF (pc := 19) dX8_noted_19 (hA.2 5 (by decide)) (by omega) (by decide) rfl ?_
    refine ev_goto (pc := 20) (tgt := 24) dX8_noted_20 (by decide) ?_
    exact ev_iret (pc := 24) dX8_noted_24 rfl rfl ⟨Or.inl ⟨cc, by rw [en]⟩, rfl⟩
  · rw [if_neg cc]
    refine ev_if_eqN (pc := 8) (tgt := 23) dX8_noted_8 (by decide) (by decide) (fun _ => ?_) (fun q => absurd q (by decide))
    refine ev_iconst (pc := 23) (v := -1) dX8_noted_23 (by decide) ?_
    exact ev_iret (pc := 24) dX8_noted_24 rfl rfl ⟨Or.inr ⟨cc, rfl⟩, rfl⟩
def LV (H : ev_H) (bp : Nat → Nat) (lv : Nat → Nat) : Prop := H (bp 11) = some (.inl (.long, 250, .inr (.inl (fun j => lN (lv j)))))
theorem k_published {x : Int32} (hd : 1 ≤ dd) (hB : BQ H bp lay dn ba sd) (hL : LV H bp lv) (hdn : dn ≤ 250) : ev_Ca G dd w m_X8_published [.ref (bp 0), .int x] H 0 0 (ev_ok (fun r h1 => ((ib x dn ∧ r = some (.long (lN (lv x.toInt.toNat)))) ∨ (¬ ib x dn ∧ r = some (.long (-1)))) ∧ h1 = H)) := by
  obtain ⟨dd, rfl⟩ : ∃ e, dd = e + 1 := ⟨dd - 1, by omega⟩
  refine ⟨by decide +kernel, rfl, ?_⟩
  have i0 := i32_le (x := x) (n := 0) (by decide)
  have ia := i32_le (x := x) (n := dn) (by omega)
  refine ev_iload_n (pc := 0) dX8_published_0 rfl ?_
  refine ev_if_lt (pc := 1) (tgt := 21) dX8_published_1 (by decide) (fun c1 => ?_) (fun c1 => ?_)
  · have n1 := i0.2.1.mp c1
    refine ev_ldc2 (pc := 21) dX8_published_21 k_X8_162 ?_
    exact ev_lret (pc := 24) dX8_published_24 rfl ⟨Or.inr ⟨fun q => by have := q.1; omega, rfl⟩, rfl⟩
  · have n1 : 0 ≤ x.toInt := Int.not_lt.mp (fun q => c1 (i0.2.1.mpr q))
    refine ev_iload_n (pc := 4) dX8_published_4 rfl ?_
    refine ev_aload_n (pc := 5) dX8_published_5 rfl ?_
    refine ev_getf (pc := 6) dX8_published_6 f_X8_63 hB.1 rfl ?_
    refine ev_icmp_ge (pc := 9) (tgt := 21) dX8_published_9 (by decide) (fun c2 => ?_) (fun c2 => ?_)
    · have n2 := ia.1.mp c2
      refine ev_ldc2 (pc := 21) dX8_published_21 k_X8_162 ?_
      exact ev_lret (pc := 24) dX8_published_24 rfl ⟨Or.inr ⟨fun q => by have := q.2; omega, rfl⟩, rfl⟩
    · have n2 : x.toInt < dn := Int.not_le.mp (fun q => c2 (ia.1.mpr q))
      obtain ⟨n, rfl, m1, m2⟩ := ri_nI (x := x) (lo := 0) (hi := 249) ⟨n1, by omega⟩ (by decide)
      have en : (nI n).toInt.toNat = n := nI_tn (by omega)
      refine ev_aload_n (pc := 12) dX8_published_12 rfl ?_
      refine ev_getf (pc := 13) dX8_published_13 f_X8_59 hB.1 rfl ?_
      refine ev_iload_n (pc := 16) dX8_published_16 rfl ?_
      refine ev_laN (pc := 17) dX8_published_17 hL (by omega) (by decide) ?_
      refine ev_goto (pc := 18) (tgt := 24) dX8_published_18 (by decide) ?_
      exact ev_lret (pc := 24) dX8_published_24 rfl ⟨Or.inl ⟨⟨n1, n2⟩, by rw [en]⟩, rfl⟩
theorem k_character {x : Int32} (hd : 1 ≤ dd) (hB : BQ H bp lay dn ba sd) (hT : TX H (bp 5) tc rq f len) (hl : len ≤ 640) : ev_Ca G dd w m_X8_character [.ref (bp 0), .int x] H 0 0 (ev_ok (fun r h1 => ((ib x len ∧ r = some (.int (nI (f x.toInt.toNat)))) ∨ (¬ ib x len ∧ r = some (.int (-1)))) ∧ h1 = H)) := by
  obtain ⟨dd, rfl⟩ : ∃ e, dd = e + 1 := ⟨dd - 1, by omega⟩
  refine ⟨by decide +kernel, rfl, ?_⟩
  have i0 := i32_le (x := x) (n := 0) (by decide)
  have ia := i32_le (x := x) (n := len) (by omega)
  refine ev_iload_n (pc := 0) dX8_character_0 rfl ?_
  refine ev_if_lt (pc := 1) (tgt := 27) dX8_character_1 (by decide) (fun c1 => ?_) (fun c1 => ?_)
  · have n1 := i0.2.1.mp c1
    refine ev_iconst (pc := 27) (v := -1) dX8_character_27 (by decide) ?_
    exact ev_iret (pc := 28) dX8_character_28 rfl rfl ⟨Or.inr ⟨fun q => by have := q.1; omega, rfl⟩, rfl⟩
  · have n1 : 0 ≤ x.toInt := Int.not_lt.mp (fun q => c1 (i0.2.1.mpr q))
    refine ev_iload_n (pc := 4) dX8_character_4 rfl ?_
    refine ev_aload_n (pc := 5) dX8_character_5 rfl ?_
    refine ev_getf (pc := 6) dX8_character_6 f_X8_36 hB.1 rfl ?_
    refine ev_getf (pc := 9) dX8_character_9 f_X8_206 hT.1 rfl ?_
    refine ev_icmp_ge (pc := 12) (tgt := 27) dX8_character_12 (by decide) (fun c2 => ?_) (fun c2 => ?_)
    · have n2 := ia.1.mp c2
      refine ev_iconst (pc := 27) (v := -1) dX8_character_27 (by decide) ?_
      exact ev_iret (pc := 28) dX8_character_28 rfl rfl ⟨Or.inr ⟨fun q => by have := q.2; omega, rfl⟩, rfl⟩
    · have n2 : x.toInt < len := Int.not_le.mp (fun q => c2 (ia.1.mpr q))
      obtain ⟨n, rfl, m1, m2⟩ := ri_nI (x := x) (lo := 0) (hi := 639) ⟨n1, by omega⟩ (by decide)
      have en : (nI n).toInt.toNat = n := nI_tn (by omega)
      refine ev_aload_n (pc := 15) dX8_character_15 rfl ?_
      refine ev_getf (pc := 16) dX8_character_16 f_X8_36 hB.1 rfl ?_
      refine ev_getf (pc := 19) dX8_character_19 f_X8_209 hT.1 rfl ?_
      refine ev_iload_n (pc := 22) dX8_character_22 rfl ?_
      refine ev_caN (pc := 23) dX8_character_23 hT.2.1 (by omega) (by decide) ?_
      refine ev_goto (pc := 24) (tgt := 28) dX8_character_24 (by decide) ?_
      exact ev_iret (pc := 28) dX8_character_28 rfl rfl ⟨Or.inl ⟨⟨n1, n2⟩, by rw [en]⟩, rfl⟩
theorem k_level (hd : 9 ≤ dd) (hw : 200 ≤ w) (h : DW H (bp 4) lay val) (hB : BQ H bp lay dn ba sd) (hS : SH H (bp 1) sa P fu fd mem) (hb : ba ≤ 1) (hP : P_ok P) (hf : f_ok fu fd) (hm : mem < 256) (v9 : val 9 < 2 ^ 512) (v10 : val 10 < 2 ^ 512) : ev_Ca G dd w m_X8_level [.ref (bp 0)] H 0 0 (ev_ok (fun r h1 => (ba = 0 ∧ r = some (.long (-1)) ∧ h1 = H) ∨ (ba = 1 ∧ r = some (.long (lN (rl ((su P fu fd mem 8).1 * val 10) ((su P fu fd mem 8).2 * val 9)))) ∧ dpost H (bp 4) lay val (fun v2 => ∀ x, 9 ≤ x → x ≠ 17 → x ≠ 18 → v2 x = val x) h1))) := by
  obtain ⟨dd, rfl⟩ : ∃ e, dd = e + 1 := ⟨dd - 1, by omega⟩
  refine ⟨by decide +kernel, rfl, ?_⟩
  refine ev_aload_n (pc := 0) dX8_level_0 rfl ?_
  refine ev_getf (pc := 1) dX8_level_1 f_X8_67 hB.1 rfl ?_
  refine ev_if_eqN (pc := 4) (tgt := 14) dX8_level_4 (by decide) (by omega) (fun c1 => ?_) (fun c1 => ?_)
  · refine ev_ldc2 (pc := 14) dX8_level_14 k_X8_162 ?_
    exact ev_lret (pc := 17) dX8_level_17 rfl (Or.inl ⟨c1, rfl, rfl⟩)
  · refine ev_aload_n (pc := 7) dX8_level_7 rfl ?_
    refine ev_callV (pc := 8) (As := []) dX8_level_8 cv_X8_155 rfl rfl hB.1 rfl ⟨by show 19 + 1 ≤ w; omega, show ev_Ca _ _ (w - 20) _ _ _ _ _ _ from k_roundedLevel (by omega) (by omega) h hB hS hP hf hm v9 v10⟩ rfl rfl (fun r h1 hp => ?_)
    obtain ⟨rfl, hp2⟩ := hp
    refine ev_goto (pc := 11) (tgt := 17) dX8_level_11 (by decide) ?_
    exact ev_lret (pc := 17) dX8_level_17 rfl (Or.inr ⟨by omega, rfl, hp2⟩)
theorem k_places {x : Int32} (hd : 3 ≤ dd) (hw : 60 ≤ w) (h : DW H (bp 4) lay val) (hB : BQ H bp lay dn ba sd) (hb : ba ≤ 1) : ev_Ca G dd w m_X8_places [.ref (bp 0), .int x] H 0 0 (ev_ok (fun r h1 => ((ba = 1 ∧ x = nI 0 ∧ r = some (.int (nI (mb_bits (val 9))))) ∨ (ba = 1 ∧ x = nI 1 ∧ r = some (.int (nI (mb_bits (val 10))))) ∨ ((ba = 0 ∨ (x ≠ nI 0 ∧ x ≠ nI 1)) ∧ r = some (.int (-1)))) ∧ h1 = H)) := by
  obtain ⟨dd, rfl⟩ : ∃ e, dd = e + 1 := ⟨dd - 1, by omega⟩
  refine ⟨by decide +kernel, rfl, ?_⟩
  refine ev_aload_n (pc := 0) dX8_places_0 rfl ?_
  refine ev_getf (pc := 1) dX8_places_1 f_X8_67 hB.1 rfl ?_
  refine ev_if_eqN (pc := 4) (tgt := 16) dX8_places_4 (by decide) (by omega) (fun c1 => ?_) (fun c1 => ?_)
  · refine ev_iconst (pc := 16) (v := -1) dX8_places_16 (by decide) ?_
    exact ev_iret (pc := 17) dX8_places_17 rfl rfl ⟨Or.inr (Or.inr ⟨Or.inl c1, rfl⟩), rfl⟩
  · refine ev_iload_n (pc := 7) dX8_places_7 rfl ?_
    refine ev_if_eq (pc := 8) (tgt := 18) dX8_places_8 (by decide) (fun c2 => ?_) (fun c2 => ?_)
    · refine ev_iload_n (pc := 18) dX8_places_18 rfl ?_
      refine ev_if_ne (pc := 19) (tgt := 35) dX8_places_19 (by decide) (fun c3 => ?_) (fun c3 => ?_)
      · exact absurd c2 c3
      · refine ev_aload_n (pc := 22) dX8_places_22 rfl ?_
        refine ev_getf (pc := 23) dX8_places_23 f_X8_43 hB.1 rfl ?_
        refine ev_getf (pc := 26) dX8_places_26 f_X8_112 (hB.2 0 (by decide)) rfl ?_
        refine ev_callVe (pc := 29) (As := []) dX8_places_29 cv_X8_213 rfl rfl (wi_o (h.2.1 9 (by omega))) rfl ⟨by show 19 + 1 ≤ w; omega, show ev_Ca _ _ (w - 20) _ _ _ _ _ _ from t_binaryDigits (i := 9) (by omega) (by omega) h (by omega)⟩ rfl rfl (fun r h1 hp => ?_)
        obtain ⟨rfl, hH⟩ := hp
        rw [hH]
        clear hH h1
        refine ev_goto (pc := 32) (tgt := 45) dX8_places_32 (by decide) ?_
        exact ev_iret (pc := 45) dX8_places_45 rfl rfl ⟨Or.inl ⟨by omega, c2, rfl⟩, rfl⟩
    · refine ev_iload_n (pc := 11) dX8_places_11 rfl ?_
      refine ev_iconst (pc := 12) (v := nI 1) dX8_places_12 (by decide) ?_
      refine ev_icmp_eq (pc := 13) (tgt := 18) dX8_places_13 (by decide) (fun c3 => ?_) (fun c3 => ?_)
      · refine ev_iload_n (pc := 18) dX8_places_18 rfl ?_
        refine ev_if_ne (pc := 19) (tgt := 35) dX8_places_19 (by decide) (fun c4 => ?_) (fun c4 => ?_)
        · refine ev_aload_n (pc := 35) dX8_places_35 rfl ?_
          refine ev_getf (pc := 36) dX8_places_36 f_X8_43 hB.1 rfl ?_
          refine ev_getf (pc := 39) dX8_places_39 f_X8_104 (hB.2 0 (by decide)) rfl ?_
          refine ev_callVe (pc := 42) (As := []) dX8_places_42 cv_X8_213 rfl rfl (wi_o (h.2.1 10 (by omega))) rfl ⟨by show 19 + 1 ≤ w; omega, show ev_Ca _ _ (w - 20) _ _ _ _ _ _ from t_binaryDigits (i := 10) (by omega) (by omega) h (by omega)⟩ rfl rfl (fun r h1 hp => ?_)
          obtain ⟨rfl, hH⟩ := hp
          rw [hH]
          clear hH h1
          exact ev_iret (pc := 45) dX8_places_45 rfl rfl ⟨Or.inr (Or.inl ⟨by omega, c3, rfl⟩), rfl⟩
        · exact absurd c4 c2
      · refine ev_iconst (pc := 16) (v := -1) dX8_places_16 (by decide) ?_
        exact ev_iret (pc := 17) dX8_places_17 rfl rfl ⟨Or.inr (Or.inr ⟨Or.inr ⟨c2, c3⟩, rfl⟩), rfl⟩
end GET
