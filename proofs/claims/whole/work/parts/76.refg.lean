/-! THE REFERENCE: what is asked of it -/
theorem toInt_m1 {n : Nat} (hn : n < 2 ^ 31) : (nI n - nI 1).toInt = (n : Int) - 1 := by
  rw [Int32.toInt_sub, nI_toInt hn, nI_toInt (show 1 < 2 ^ 31 by decide)]
  exact Int.bmod_eq_of_le (by omega) (by omega)
section REFG
variable {G : ev_G} {w : Nat} {H h1 : ev_H} {A I v : Nat → Nat} {Q : Nat → Nat → Nat} {R : Nat → Nat → Int32} {lv f : Nat → Nat} {k s dd : Nat}
theorem k_inM {x : Int32} {n : Nat} (hd : 1 ≤ dd) (hn : n < 2 ^ 31) {H : ev_H} : ev_Ca G dd w m_X9_in [.int x, .int (nI 0), .int (nI n - nI 1)] H 0 0 (ev_ok (fun r h1 => ((ib x n ∧ r = some (.int (nI 1))) ∨ (¬ ib x n ∧ r = some (.int (nI 0)))) ∧ h1 = H)) := by
  obtain ⟨dd, rfl⟩ : ∃ e, dd = e + 1 := ⟨dd - 1, by omega⟩
  refine ⟨by decide +kernel, rfl, ?_⟩
  have i1 := i32_le (x := x) (n := 0) (by decide)
  have e := toInt_m1 hn
  refine ev_iload_n (pc := 0) dX9_in_0 rfl ?_
  refine ev_iload_n (pc := 1) dX9_in_1 rfl ?_
  refine ev_icmp_lt (pc := 2) (tgt := 14) dX9_in_2 (by decide) (fun c1 => ?_) (fun c1 => ?_)
  · have n1 := i1.2.1.mp c1
    refine ev_iconst (pc := 14) (v := nI 0) dX9_in_14 (by decide) ?_
    exact ev_iret (pc := 15) dX9_in_15 rfl rfl ⟨Or.inr ⟨fun q => by have := q.1; omega, rfl⟩, rfl⟩
  · have n1 : (0 : Int) ≤ x.toInt := Int.not_lt.mp (fun q => c1 (i1.2.1.mpr q))
    refine ev_iload_n (pc := 5) dX9_in_5 rfl ?_
    refine ev_iload_n (pc := 6) dX9_in_6 rfl ?_
    refine ev_icmp_gt (pc := 7) (tgt := 14) dX9_in_7 (by decide) (fun c2 => ?_) (fun c2 => ?_)
    · have n2 := Int32.lt_iff_toInt_lt.mp c2
      refine ev_iconst (pc := 14) (v := nI 0) dX9_in_14 (by decide) ?_
      exact ev_iret (pc := 15) dX9_in_15 rfl rfl ⟨Or.inr ⟨fun q => by have := q.2; omega, rfl⟩, rfl⟩
    · have n2 : x.toInt ≤ (nI n - nI 1).toInt := Int.not_lt.mp (fun q => c2 (Int32.lt_iff_toInt_lt.mpr q))
      refine ev_iconst (pc := 10) (v := nI 1) dX9_in_10 (by decide) ?_
      refine ev_goto (pc := 11) (tgt := 15) dX9_in_11 (by decide) ?_
      exact ev_iret (pc := 15) dX9_in_15 rfl rfl ⟨Or.inl ⟨⟨n1, by omega⟩, rfl⟩, rfl⟩
theorem k_rthrown (hd : 1 ≤ dd) (h : MS H A I v Q R lv f) : ev_Ca G dd w m_X9_thrown [.ref (A 17)] H 0 0 (ev_ok (fun r h1 => r = some (.int (nI (I 7))) ∧ h1 = H)) := by
  obtain ⟨dd, rfl⟩ : ∃ e, dd = e + 1 := ⟨dd - 1, by omega⟩
  refine ⟨by decide +kernel, rfl, ?_⟩
  refine ev_aload_n (pc := 0) dX9_thrown_0 rfl ?_
  refine ev_getf (pc := 1) dX9_thrown_1 f_X9_66 (ms_M h) rfl ?_
  exact ev_iret (pc := 4) dX9_thrown_4 rfl rfl ⟨rfl, rfl⟩
theorem k_rmembers (hd : 1 ≤ dd) (h : MS H A I v Q R lv f) (hb : I 1 ≤ 1) : ev_Ca G dd w m_X9_members [.ref (A 17)] H 0 0 (ev_ok (fun r h1 => r = some (.int (if I 1 = 0 then -1 else nI (I 0))) ∧ mpost H A (va_up I 7 0) v Q R lv f h1)) := by
  obtain ⟨dd, rfl⟩ : ∃ e, dd = e + 1 := ⟨dd - 1, by omega⟩
  refine ⟨by decide +kernel, rfl, ?_⟩
  refine ev_aload_n (pc := 0) dX9_members_0 rfl ?_
  refine ev_iconst (pc := 1) (v := nI 0) dX9_members_1 (by decide) ?_
  refine ev_putf (pc := 2) dX9_members_2 p_X9_66 (ms_M h) rfl rfl rfl ?_
  obtain ⟨h2, hF⟩ := ms_uI (k := 7) (x := 0) (n := 24) h rfl
  generalize ev_up H (A 17) (.inr (7, (ml A I).set 24 (.int (nI 0)))) = H2 at *
  refine ev_aload_n (pc := 5) dX9_members_5 rfl ?_
  refine ev_getf (pc := 6) dX9_members_6 f_X9_150 (ms_M h2) rfl ?_
  refine ev_if_eqN (pc := 9) (tgt := 19) dX9_members_9 (by decide) (show I 1 < 2 ^ 31 by omega) (fun (c1 : I 1 = 0) => ?_) (fun (c1 : 0 < I 1) => ?_)
  · refine ev_iconst (pc := 19) (v := -1) dX9_members_19 (by decide) ?_
    exact ev_iret (pc := 20) dX9_members_20 rfl rfl ⟨by rw [if_pos c1], h2, hF⟩
  · refine ev_aload_n (pc := 12) dX9_members_12 rfl ?_
    refine ev_getf (pc := 13) dX9_members_13 f_X9_70 (ms_M h2) rfl ?_
    refine ev_goto (pc := 16) (tgt := 20) dX9_members_16 (by decide) ?_
    exact ev_iret (pc := 20) dX9_members_20 rfl rfl ⟨by rw [if_neg (by omega)]; rfl, h2, hF⟩
theorem k_rdays (hd : 1 ≤ dd) (h : MS H A I v Q R lv f) (hb : I 1 ≤ 1) : ev_Ca G dd w m_X9_days [.ref (A 17)] H 0 0 (ev_ok (fun r h1 => r = some (.int (if I 1 = 0 then -1 else nI (I 5))) ∧ mpost H A (va_up I 7 0) v Q R lv f h1)) := by
  obtain ⟨dd, rfl⟩ : ∃ e, dd = e + 1 := ⟨dd - 1, by omega⟩
  refine ⟨by decide +kernel, rfl, ?_⟩
  refine ev_aload_n (pc := 0) dX9_days_0 rfl ?_
  refine ev_iconst (pc := 1) (v := nI 0) dX9_days_1 (by decide) ?_
  refine ev_putf (pc := 2) dX9_days_2 p_X9_66 (ms_M h) rfl rfl rfl ?_
  obtain ⟨h2, hF⟩ := ms_uI (k := 7) (x := 0) (n := 24) h rfl
  generalize ev_up H (A 17) (.inr (7, (ml A I).set 24 (.int (nI 0)))) = H2 at *
  refine ev_aload_n (pc := 5) dX9_days_5 rfl ?_
  refine ev_getf (pc := 6) dX9_days_6 f_X9_150 (ms_M h2) rfl ?_
  refine ev_if_eqN (pc := 9) (tgt := 19) dX9_days_9 (by decide) (show I 1 < 2 ^ 31 by omega) (fun (c1 : I 1 = 0) => ?_) (fun (c1 : 0 < I 1) => ?_)
  · refine ev_iconst (pc := 19) (v := -1) dX9_days_19 (by decide) ?_
    exact ev_iret (pc := 20) dX9_days_20 rfl rfl ⟨by rw [if_pos c1], h2, hF⟩
  · refine ev_aload_n (pc := 12) dX9_days_12 rfl ?_
    refine ev_getf (pc := 13) dX9_days_13 f_X9_167 (ms_M h2) rfl ?_
    refine ev_goto (pc := 16) (tgt := 20) dX9_days_16 (by decide) ?_
    exact ev_iret (pc := 20) dX9_days_20 rfl rfl ⟨by rw [if_neg (by omega)]; rfl, h2, hF⟩
theorem k_rcheck (hd : 1 ≤ dd) (h : MS H A I v Q R lv f) (hb : I 1 ≤ 1) : ev_Ca G dd w m_X9_check [.ref (A 17)] H 0 0 (ev_ok (fun r h1 => r = some (.int (if I 1 = 0 then -1 else nI 1)) ∧ mpost H A (va_up I 7 0) v Q R lv f h1)) := by
  obtain ⟨dd, rfl⟩ : ∃ e, dd = e + 1 := ⟨dd - 1, by omega⟩
  refine ⟨by decide +kernel, rfl, ?_⟩
  refine ev_aload_n (pc := 0) dX9_check_0 rfl ?_
  refine ev_iconst (pc := 1) (v := nI 0) dX9_check_1 (by decide) ?_
  refine ev_putf (pc := 2) dX9_check_2 p_X9_66 (ms_M h) rfl rfl rfl ?_
  obtain ⟨h2, hF⟩ := ms_uI (k := 7) (x := 0) (n := 24) h rfl
  generalize ev_up H (A 17) (.inr (7, (ml A I).set 24 (.int (nI 0)))) = H2 at *
  refine ev_aload_n (pc := 5) dX9_check_5 rfl ?_
  refine ev_getf (pc := 6) dX9_check_6 f_X9_150 (ms_M h2) rfl ?_
  refine ev_if_eqN (pc := 9) (tgt := 16) dX9_check_9 (by decide) (show I 1 < 2 ^ 31 by omega) (fun (c1 : I 1 = 0) => ?_) (fun (c1 : 0 < I 1) => ?_)
  · refine ev_iconst (pc := 16) (v := -1) dX9_check_16 (by decide) ?_
    exact ev_iret (pc := 17) dX9_check_17 rfl rfl ⟨by rw [if_pos c1], h2, hF⟩
  · refine ev_iconst (pc := 12) (v := nI 1) dX9_check_12 (by decide) ?_
    refine ev_goto (pc := 13) (tgt := 17) dX9_check_13 (by decide) ?_
    exact ev_iret (pc := 17) dX9_check_17 rfl rfl ⟨by rw [if_neg (by omega)], h2, hF⟩
theorem k_routcome {x : Int32} (hd : 2 ≤ dd) (hw : 30 ≤ w) (h : MS H A I v Q R lv f) (hb : I 4 ≤ 16) : ev_Ca G dd w m_X9_outcome [.ref (A 17), .int x] H 0 0 (ev_ok (fun r h1 => ((ib x (I 4) ∧ r = some (.int (R 5 x.toInt.toNat))) ∨ (¬ ib x (I 4) ∧ r = some (.int (-1)))) ∧ mpost H A (va_up I 7 0) v Q R lv f h1)) := by
  obtain ⟨dd, rfl⟩ : ∃ e, dd = e + 1 := ⟨dd - 1, by omega⟩
  refine ⟨by decide +kernel, rfl, ?_⟩
  refine ev_aload_n (pc := 0) dX9_outcome_0 rfl ?_
  refine ev_iconst (pc := 1) (v := nI 0) dX9_outcome_1 (by decide) ?_
  refine ev_putf (pc := 2) dX9_outcome_2 p_X9_66 (ms_M h) rfl rfl rfl ?_
  obtain ⟨h2, hF⟩ := ms_uI (k := 7) (x := 0) (n := 24) h rfl
  generalize ev_up H (A 17) (.inr (7, (ml A I).set 24 (.int (nI 0)))) = H2 at *
  refine ev_iload_n (pc := 5) dX9_outcome_5 rfl ?_
  refine ev_iconst (pc := 6) (v := nI 0) dX9_outcome_6 (by decide) ?_
  refine ev_aload_n (pc := 7) dX9_outcome_7 rfl ?_
  refine ev_getf (pc := 8) dX9_outcome_8 f_X9_164 (ms_M h2) rfl ?_
  refine ev_iconst (pc := 11) (v := nI 1) dX9_outcome_11 (by decide) ?_
  refine ev_isub (pc := 12) dX9_outcome_12 ?_
  refine ev_callS (pc := 13) (As := [.int x, .int (nI 0), .int (nI (I 4) - nI 1)]) dX9_outcome_13 cs_X9_142 rfl rfl ⟨by show 19 + 3 ≤ w; omega, show ev_Ca _ _ (w - 22) _ _ _ _ _ _ from k_inM (n := I 4) (by omega) (by omega)⟩ rfl rfl (fun r h1 hp => ?_)
  obtain ⟨hp, hH⟩ := hp
  rw [hH]
  clear hH
  rcases hp with ⟨cc, rfl⟩ | ⟨cc, rfl⟩
  · obtain ⟨n, rfl, m1, m2⟩ := ri_nI (x := x) (lo := 0) (hi := 15) ⟨cc.1, by have := cc.2; omega⟩ (by decide)
    have en : (nI n).toInt.toNat = n := nI_tn (by omega)
    refine ev_if_eqN (pc := 16) (tgt := 28) dX9_outcome_16 (by decide) (by decide) (fun q => absurd q (by decide)) (fun _ => ?_)
    refine ev_aload_n (pc := 19) dX9_outcome_19 rfl ?_
    refine ev_getf (pc := 20) dX9_outcome_20 f_X9_49 (ms_M h2) rfl ?_
    refine ev_iload_n (pc := 23) dX9_outcome_23 rfl ?_
    refine ev_iaF (pc := 24) dX9_outcome_24 (ms_R h2 5 (by decide)) (by omega) (by decide) rfl ?_
    refine ev_goto (pc := 25) (tgt := 29) dX9_outcome_25 (by decide) ?_
    exact ev_iret (pc := 29) dX9_outcome_29 rfl rfl ⟨Or.inl ⟨cc, by rw [en]⟩, h2, hF⟩
  · refine ev_if_eqN (pc := 16) (tgt := 28) dX9_outcome_16 (by decide) (by decide) (fun _ => ?_) (fun q => absurd q (by decide))
    refine ev_iconst (pc := 28) (v := -1) dX9_outcome_28 (by decide) ?_
    exact ev_iret (pc := 29) dX9_outcome_29 rfl rfl ⟨Or.inr ⟨cc, rfl⟩, h2, hF⟩
theorem k_rnoted {x : Int32} (hd : 2 ≤ dd) (hw : 30 ≤ w) (h : MS H A I v Q R lv f) (hb : I 4 ≤ 16) : ev_Ca G dd w m_X9_noted [.ref (A 17), .int x] H 0 0 (ev_ok (fun r h1 => ((ib x (I 4) ∧ r = some (.int (R 6 x.toInt.toNat))) ∨ (¬ ib x (I 4) ∧ r = some (.int (-1)))) ∧ mpost H A (va_up I 7 0) v Q R lv f h1)) := by
  obtain ⟨dd, rfl⟩ : ∃ e, dd = e + 1 := ⟨dd - 1, by omega⟩
  refine ⟨by decide +kernel, rfl, ?_⟩
  refine ev_aload_n (pc := 0) dX9_noted_0 rfl ?_
  refine ev_iconst (pc := 1) (v := nI 0) dX9_noted_1 (by decide) ?_
  refine ev_putf (pc := 2) dX9_noted_2 p_X9_66 (ms_M h) rfl rfl rfl ?_
  obtain ⟨h2, hF⟩ := ms_uI (k := 7) (x := 0) (n := 24) h rfl
  generalize ev_up H (A 17) (.inr (7, (ml A I).set 24 (.int (nI 0)))) = H2 at *
  refine ev_iload_n (pc := 5) dX9_noted_5 rfl ?_
  refine ev_iconst (pc := 6) (v := nI 0) dX9_noted_6 (by decide) ?_
  refine ev_aload_n (pc := 7) dX9_noted_7 rfl ?_
  refine ev_getf (pc := 8) dX9_noted_8 f_X9_164 (ms_M h2) rfl ?_
  refine ev_iconst (pc := 11) (v := nI 1) dX9_noted_11 (by decide) ?_
  refine ev_isub (pc := 12) dX9_noted_12 ?_
  refine ev_callS (pc := 13) (As := [.int x, .int (nI 0), .int (nI (I 4) - nI 1)]) dX9_noted_13 cs_X9_142 rfl rfl ⟨by show 19 + 3 ≤ w; omega, show ev_Ca _ _ (w - 22) _ _ _ _ _ _ from k_inM (n := I 4) (by omega) (by omega)⟩ rfl rfl (fun r h1 hp => ?_)
  obtain ⟨hp, hH⟩ := hp
  rw [hH]
  clear hH
  rcases hp with ⟨cc, rfl⟩ | ⟨cc, rfl⟩
  · obtain ⟨n, rfl, m1, m2⟩ := ri_nI (x := x) (lo := 0) (hi := 15) ⟨cc.1, by have := cc.2; omega⟩ (by decide)
    have en : (nI n).toInt.toNat = n := nI_tn (by omega)
    refine ev_if_eqN (pc := 16) (tgt := 28) dX9_noted_16 (by decide) (by decide) (fun q => absurd q (by decide)) (fun _ => ?_)
    refine ev_aload_n (pc := 19) dX9_noted_19 rfl ?_
    refine ev_getf (pc := 20) dX9_noted_20 f_X9_52 (ms_M h2) rfl ?_
    refine ev_iload_n (pc := 23) dX9_noted_23 rfl ?_
    refine ev_iaF (pc := 24) dX9_noted_24 (ms_R h2 6 (by decide)) (by omega) (by decide) rfl ?_
    refine ev_goto (pc := 25) (tgt := 29) dX9_noted_25 (by decide) ?_
    exact ev_iret (pc := 29) dX9_noted_29 rfl rfl ⟨Or.inl ⟨cc, by rw [en]⟩, h2, hF⟩
  · refine ev_if_eqN (pc := 16) (tgt := 28) dX9_noted_16 (by decide) (by decide) (fun _ => ?_) (fun q => absurd q (by decide))
    refine ev_iconst (pc := 28) (v := -1) dX9_noted_28 (by decide) ?_
    exact ev_iret (pc := 29) dX9_noted_29 rfl rfl ⟨Or.inr ⟨cc, rfl⟩, h2, hF⟩
theorem k_rcharacter {x : Int32} (hd : 2 ≤ dd) (hw : 30 ≤ w) (h : MS H A I v Q R lv f) (hb : I 6 ≤ 1400) : ev_Ca G dd w m_X9_character [.ref (A 17), .int x] H 0 0 (ev_ok (fun r h1 => ((ib x (I 6) ∧ r = some (.int (nI (f x.toInt.toNat)))) ∨ (¬ ib x (I 6) ∧ r = some (.int (-1)))) ∧ mpost H A (va_up I 7 0) v Q R lv f h1)) := by
  obtain ⟨dd, rfl⟩ : ∃ e, dd = e + 1 := ⟨dd - 1, by omega⟩
  refine ⟨by decide +kernel, rfl, ?_⟩
  refine ev_aload_n (pc := 0) dX9_character_0 rfl ?_
  refine ev_iconst (pc := 1) (v := nI 0) dX9_character_1 (by decide) ?_
  refine ev_putf (pc := 2) dX9_character_2 p_X9_66 (ms_M h) rfl rfl rfl ?_
  obtain ⟨h2, hF⟩ := ms_uI (k := 7) (x := 0) (n := 24) h rfl
  generalize ev_up H (A 17) (.inr (7, (ml A I).set 24 (.int (nI 0)))) = H2 at *
  refine ev_iload_n (pc := 5) dX9_character_5 rfl ?_
  refine ev_iconst (pc := 6) (v := nI 0) dX9_character_6 (by decide) ?_
  refine ev_aload_n (pc := 7) dX9_character_7 rfl ?_
  refine ev_getf (pc := 8) dX9_character_8 f_X9_226 (ms_M h2) rfl ?_
  refine ev_iconst (pc := 11) (v := nI 1) dX9_character_11 (by decide) ?_
  refine ev_isub (pc := 12) dX9_character_12 ?_
  refine ev_callS (pc := 13) (As := [.int x, .int (nI 0), .int (nI (I 6) - nI 1)]) dX9_character_13 cs_X9_142 rfl rfl ⟨by show 19 + 3 ≤ w; omega, show ev_Ca _ _ (w - 22) _ _ _ _ _ _ from k_inM (n := I 6) (by omega) (by omega)⟩ rfl rfl (fun r h1 hp => ?_)
  obtain ⟨hp, hH⟩ := hp
  rw [hH]
  clear hH
  rcases hp with ⟨cc, rfl⟩ | ⟨cc, rfl⟩
  · obtain ⟨n, rfl, m1, m2⟩ := ri_nI (x := x) (lo := 0) (hi := 1399) ⟨cc.1, by have := cc.2; omega⟩ (by decide)
    have en : (nI n).toInt.toNat = n := nI_tn (by omega)
    refine ev_if_eqN (pc := 16) (tgt := 28) dX9_character_16 (by decide) (by decide) (fun q => absurd q (by decide)) (fun _ => ?_)
    refine ev_aload_n (pc := 19) dX9_character_19 rfl ?_
    refine ev_getf (pc := 20) dX9_character_20 f_X9_59 (ms_M h2) rfl ?_
    refine ev_iload_n (pc := 23) dX9_character_23 rfl ?_
    refine ev_iaN (pc := 24) dX9_character_24 (ms_f h2) (by omega) (by decide) ?_
    refine ev_goto (pc := 25) (tgt := 29) dX9_character_25 (by decide) ?_
    exact ev_iret (pc := 29) dX9_character_29 rfl rfl ⟨Or.inl ⟨cc, by rw [en]⟩, h2, hF⟩
  · refine ev_if_eqN (pc := 16) (tgt := 28) dX9_character_16 (by decide) (by decide) (fun _ => ?_) (fun q => absurd q (by decide))
    refine ev_iconst (pc := 28) (v := -1) dX9_character_28 (by decide) ?_
    exact ev_iret (pc := 29) dX9_character_29 rfl rfl ⟨Or.inr ⟨cc, rfl⟩, h2, hF⟩
theorem k_rpublished {x : Int32} (hd : 2 ≤ dd) (hw : 30 ≤ w) (h : MS H A I v Q R lv f) (hb : I 1 ≤ 1) (hb5 : I 5 ≤ 250) (hz : I 1 = 0 → I 5 = 0) : ev_Ca G dd w m_X9_published [.ref (A 17), .int x] H 0 0 (ev_ok (fun r h1 => ((ib x (I 5) ∧ r = some (.long (lN (lv x.toInt.toNat)))) ∨ (¬ ib x (I 5) ∧ r = some (.long (-1)))) ∧ mpost H A (va_up I 7 0) v Q R lv f h1)) := by
  obtain ⟨dd, rfl⟩ : ∃ e, dd = e + 1 := ⟨dd - 1, by omega⟩
  refine ⟨by decide +kernel, rfl, ?_⟩
  refine ev_aload_n (pc := 0) dX9_published_0 rfl ?_
  refine ev_iconst (pc := 1) (v := nI 0) dX9_published_1 (by decide) ?_
  refine ev_putf (pc := 2) dX9_published_2 p_X9_66 (ms_M h) rfl rfl rfl ?_
  obtain ⟨h2, hF⟩ := ms_uI (k := 7) (x := 0) (n := 24) h rfl
  generalize ev_up H (A 17) (.inr (7, (ml A I).set 24 (.int (nI 0)))) = H2 at *
  refine ev_aload_n (pc := 5) dX9_published_5 rfl ?_
  refine ev_getf (pc := 6) dX9_published_6 f_X9_150 (ms_M h2) rfl ?_
  refine ev_if_eqN (pc := 9) (tgt := 35) dX9_published_9 (by decide) (show I 1 < 2 ^ 31 by omega) (fun (c1 : I 1 = 0) => ?_) (fun (c1 : 0 < I 1) => ?_)
  · refine ev_ldc2 (pc := 35) dX9_published_35 k_X9_221 ?_
    exact ev_lret (pc := 38) dX9_published_38 rfl ⟨Or.inr ⟨fun q => by have := q.1; have := q.2; have := hz c1; omega, rfl⟩, h2, hF⟩
  · refine ev_iload_n (pc := 12) dX9_published_12 rfl ?_
    refine ev_iconst (pc := 13) (v := nI 0) dX9_published_13 (by decide) ?_
    refine ev_aload_n (pc := 14) dX9_published_14 rfl ?_
    refine ev_getf (pc := 15) dX9_published_15 f_X9_167 (ms_M h2) rfl ?_
    refine ev_iconst (pc := 18) (v := nI 1) dX9_published_18 (by decide) ?_
    refine ev_isub (pc := 19) dX9_published_19 ?_
    refine ev_callS (pc := 20) (As := [.int x, .int (nI 0), .int (nI (I 5) - nI 1)]) dX9_published_20 cs_X9_142 rfl rfl ⟨by show 19 + 3 ≤ w; omega, show ev_Ca _ _ (w - 22) _ _ _ _ _ _ from k_inM (n := I 5) (by omega) (by omega)⟩ rfl rfl (fun r h1 hp => ?_)
    obtain ⟨hp, hH⟩ := hp
    rw [hH]
    clear hH
    rcases hp with ⟨cc, rfl⟩ | ⟨cc, rfl⟩
    · obtain ⟨n, rfl, m1, m2⟩ := ri_nI (x := x) (lo := 0) (hi := 249) ⟨cc.1, by have := cc.2; omega⟩ (by decide)
      have en : (nI n).toInt.toNat = n := nI_tn (by omega)
      refine ev_if_eqN (pc := 23) (tgt := 35) dX9_published_23 (by decide) (by decide) (fun q => absurd q (by decide)) (fun _ => ?_)
      refine ev_aload_n (pc := 26) dX9_published_26 rfl ?_
      refine ev_getf (pc := 27) dX9_published_27 f_X9_55 (ms_M h2) rfl ?_
      refine ev_iload_n (pc := 30) dX9_published_30 rfl ?_
      refine ev_laN (pc := 31) dX9_published_31 (ms_l h2) (by omega) (by decide) ?_
      refine ev_goto (pc := 32) (tgt := 38) dX9_published_32 (by decide) ?_
      exact ev_lret (pc := 38) dX9_published_38 rfl ⟨Or.inl ⟨cc, by rw [en]⟩, h2, hF⟩
    · refine ev_if_eqN (pc := 23) (tgt := 35) dX9_published_23 (by decide) (by decide) (fun _ => ?_) (fun q => absurd q (by decide))
      refine ev_ldc2 (pc := 35) dX9_published_35 k_X9_221 ?_
      exact ev_lret (pc := 38) dX9_published_38 rfl ⟨Or.inr ⟨cc, rfl⟩, h2, hF⟩
theorem k_rplaces {x : Int32} (hd : 2 ≤ dd) (hw : 40 ≤ w) (h : MS H A I v Q R lv f) (hb : I 1 ≤ 1) : ev_Ca G dd w m_X9_places [.ref (A 17), .int x] H 0 0 (ev_ok (fun r h1 => ((I 1 = 1 ∧ x = nI 0 ∧ r = some (.int (nI (mb_bits (v 32))))) ∨ (I 1 = 1 ∧ x = nI 1 ∧ r = some (.int (nI (mb_bits (v 33))))) ∨ ((I 1 = 0 ∨ (x ≠ nI 0 ∧ x ≠ nI 1)) ∧ r = some (.int (-1)))) ∧ mpost H A (va_up I 7 0) v Q R lv f h1)) := by
  obtain ⟨dd, rfl⟩ : ∃ e, dd = e + 1 := ⟨dd - 1, by omega⟩
  refine ⟨by decide +kernel, rfl, ?_⟩
  refine ev_aload_n (pc := 0) dX9_places_0 rfl ?_
  refine ev_iconst (pc := 1) (v := nI 0) dX9_places_1 (by decide) ?_
  refine ev_putf (pc := 2) dX9_places_2 p_X9_66 (ms_M h) rfl rfl rfl ?_
  obtain ⟨h2, hF⟩ := ms_uI (k := 7) (x := 0) (n := 24) h rfl
  generalize ev_up H (A 17) (.inr (7, (ml A I).set 24 (.int (nI 0)))) = H2 at *
  refine ev_aload_n (pc := 5) dX9_places_5 rfl ?_
  refine ev_getf (pc := 6) dX9_places_6 f_X9_150 (ms_M h2) rfl ?_
  refine ev_if_eqN (pc := 9) (tgt := 21) dX9_places_9 (by decide) (show I 1 < 2 ^ 31 by omega) (fun (c1 : I 1 = 0) => ?_) (fun (c1 : 0 < I 1) => ?_)
  · refine ev_iconst (pc := 21) (v := -1) dX9_places_21 (by decide) ?_
    refine ev_goto (pc := 22) (tgt := 44) dX9_places_22 (by decide) ?_
    exact ev_iret (pc := 44) dX9_places_44 rfl rfl ⟨Or.inr (Or.inr ⟨Or.inl c1, rfl⟩), h2, hF⟩
  · have c1' : I 1 = 1 := by omega
    refine ev_iload_n (pc := 12) dX9_places_12 rfl ?_
    refine ev_iconst (pc := 13) (v := nI 0) dX9_places_13 (by decide) ?_
    refine ev_iconst (pc := 14) (v := nI 1) dX9_places_14 (by decide) ?_
    refine ev_callS (pc := 15) (As := [.int x, .int (nI 0), .int (nI 1)]) dX9_places_15 cs_X9_142 rfl rfl ⟨by show 19 + 3 ≤ w; omega, show ev_Ca _ _ (w - 22) _ _ _ _ _ _ from k_in (x := x) (lo := 0) (hi := 1) (by omega) (by decide) (by decide)⟩ rfl rfl (fun r h1 hp => ?_)
    obtain ⟨rfl, hH⟩ := hp
    rw [hH]
    clear hH
    by_cases cc : ri x 0 1
    · rw [show rb x ((0 : Nat) : Int) ((1 : Nat) : Int) = 1 from rb_1 cc]
      refine ev_if_neN (pc := 18) (tgt := 25) dX9_places_18 (by decide) (by decide) (fun _ => ?_) (fun q => absurd q (by decide))
      obtain ⟨n, rfl, m1, m2⟩ := ri_nI (x := x) (lo := 0) (hi := 1) cc (by decide)
      refine ev_iload_n (pc := 25) dX9_places_25 rfl ?_
      refine ev_if_neN (pc := 26) (tgt := 38) dX9_places_26 (by decide) (by omega) (fun c2 => ?_) (fun c2 => ?_)
      · refine ev_aload_n (pc := 38) dX9_places_38 rfl ?_
        refine ev_bipush (pc := 39) (v := nI 33) dX9_places_39 (by decide) ?_
        refine ev_callV (pc := 41) (As := [.int (nI 33)]) dX9_places_41 cv_X9_87 rfl rfl (ms_M h2) rfl ⟨by show 19 + 4 ≤ w; omega, show ev_Ca _ _ (w - 23) _ _ _ _ _ _ from g_bits (r := 33) (by omega) (ms_g h2) (by decide)⟩ rfl rfl (fun r h1 hp => ?_)
        obtain ⟨rfl, hH⟩ := hp
        rw [hH]
        clear hH
        exact ev_iret (pc := 44) dX9_places_44 rfl rfl ⟨Or.inr (Or.inl ⟨c1', by rw [show n = 1 by omega], rfl⟩), h2, hF⟩
      · refine ev_aload_n (pc := 29) dX9_places_29 rfl ?_
        refine ev_bipush (pc := 30) (v := nI 32) dX9_places_30 (by decide) ?_
        refine ev_callV (pc := 32) (As := [.int (nI 32)]) dX9_places_32 cv_X9_87 rfl rfl (ms_M h2) rfl ⟨by show 19 + 4 ≤ w; omega, show ev_Ca _ _ (w - 23) _ _ _ _ _ _ from g_bits (r := 32) (by omega) (ms_g h2) (by decide)⟩ rfl rfl (fun r h1 hp => ?_)
        obtain ⟨rfl, hH⟩ := hp
        rw [hH]
        clear hH
        refine ev_goto (pc := 35) (tgt := 44) dX9_places_35 (by decide) ?_
        exact ev_iret (pc := 44) dX9_places_44 rfl rfl ⟨Or.inl ⟨c1', by rw [c2], rfl⟩, h2, hF⟩
    · rw [show rb x ((0 : Nat) : Int) ((1 : Nat) : Int) = 0 from rb_0 cc]
      refine ev_if_neN (pc := 18) (tgt := 25) dX9_places_18 (by decide) (by decide) (fun q => absurd q (by decide)) (fun _ => ?_)
      refine ev_iconst (pc := 21) (v := -1) dX9_places_21 (by decide) ?_
      refine ev_goto (pc := 22) (tgt := 44) dX9_places_22 (by decide) ?_
      exact ev_iret (pc := 44) dX9_places_44 rfl rfl ⟨Or.inr (Or.inr ⟨Or.inr ⟨fun q => cc (by rw [q]; exact ⟨by decide, by decide⟩), fun q => cc (by rw [q]; exact ⟨by decide, by decide⟩)⟩, rfl⟩), h2, hF⟩
end REFG
