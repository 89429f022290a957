/-! THE REFERENCE: fits, set, get, event -/
section REFH
variable {G : ev_G} {w : Nat} {H h1 : ev_H} {A I v : Nat → Nat} {Q : Nat → Nat → Nat} {R : Nat → Nat → Int32} {lv f : Nat → Nat} {k s dd : Nat}
theorem k_rfits {x : Int32} (hd : 2 ≤ dd) (hw : 30 ≤ w) (hk : k < 3) {H : ev_H} : ev_Ca G dd w m_X9_fits [.int (nI k), .int x] H 0 0 (ev_ok (fun r h1 => r = some (.int (nI (rb x 1 (mo k)))) ∧ h1 = H)) := by
  obtain ⟨dd, rfl⟩ : ∃ e, dd = e + 1 := ⟨dd - 1, by omega⟩
  refine ⟨by decide +kernel, rfl, ?_⟩
  refine ev_iload_n (pc := 0) dX9_fits_0 rfl ?_
  refine ev_iconst (pc := 1) (v := nI 1) dX9_fits_1 (by decide) ?_
  refine ev_iload_n (pc := 2) dX9_fits_2 rfl ?_
  refine ev_iconst (pc := 3) (v := nI 2) dX9_fits_3 (by decide) ?_
  refine ev_icmp_neN (pc := 4) (tgt := 12) dX9_fits_4 (by decide) (by omega) (by omega) (fun c1 => ?_) (fun c1 => ?_)
  · have e : mo k = 9999999 := if_neg c1
    refine ev_ldc (pc := 12) dX9_fits_12 k_X9_141 ?_
    refine ev_callS (pc := 14) (As := [.int x, .int (nI 1), .int (nI 9999999)]) dX9_fits_14 cs_X9_142 rfl rfl ⟨by show 19 + 3 ≤ w; omega, show ev_Ca _ _ (w - 22) _ _ _ _ _ _ from k_in (x := x) (lo := 1) (hi := 9999999) (by omega) (by decide) (by decide)⟩ rfl rfl (fun r h1 hp => ?_)
    obtain ⟨rfl, hH⟩ := hp
    rw [hH, e]
    clear hH
    by_cases cc : ri x 1 9999999
    · rw [show rb x ((1 : Nat) : Int) ((9999999 : Nat) : Int) = 1 from rb_1 cc]
      exact ev_iret (pc := 17) dX9_fits_17 rfl rfl ⟨by rw [show rb x 1 ((9999999 : Nat) : Int) = 1 from rb_1 cc], rfl⟩
    · rw [show rb x ((1 : Nat) : Int) ((9999999 : Nat) : Int) = 0 from rb_0 cc]
      exact ev_iret (pc := 17) dX9_fits_17 rfl rfl ⟨by rw [show rb x 1 ((9999999 : Nat) : Int) = 0 from rb_0 cc], rfl⟩
  · have e : mo k = 100 := if_pos c1
    refine ev_bipush (pc := 7) (v := nI 100) dX9_fits_7 (by decide) ?_
    refine ev_goto (pc := 9) (tgt := 14) dX9_fits_9 (by decide) ?_
    refine ev_callS (pc := 14) (As := [.int x, .int (nI 1), .int (nI 100)]) dX9_fits_14 cs_X9_142 rfl rfl ⟨by show 19 + 3 ≤ w; omega, show ev_Ca _ _ (w - 22) _ _ _ _ _ _ from k_in (x := x) (lo := 1) (hi := 100) (by omega) (by decide) (by decide)⟩ rfl rfl (fun r h1 hp => ?_)
    obtain ⟨rfl, hH⟩ := hp
    rw [hH, e]
    clear hH
    by_cases cc : ri x 1 100
    · rw [show rb x ((1 : Nat) : Int) ((100 : Nat) : Int) = 1 from rb_1 cc]
      exact ev_iret (pc := 17) dX9_fits_17 rfl rfl ⟨by rw [show rb x 1 ((100 : Nat) : Int) = 1 from rb_1 cc], rfl⟩
    · rw [show rb x ((1 : Nat) : Int) ((100 : Nat) : Int) = 0 from rb_0 cc]
      exact ev_iret (pc := 17) dX9_fits_17 rfl rfl ⟨by rw [show rb x 1 ((100 : Nat) : Int) = 0 from rb_0 cc], rfl⟩
def okset (I : Nat → Nat) (s k : Nat) (x : Int32) : Prop := ¬ (k ≠ 0 ∧ I 0 / 2 ^ s % 2 = 1) ∧ ri x 1 (mo k)
theorem k_rset2 {x0 x1 x2 : Int32} (hd : 3 ≤ dd) (hw : 60 ≤ w) (h : MS H A I v Q R lv f) (hb : I 1 ≤ 1) (hm : I 0 < 256) (hz : I 1 = 0 → I 0 = 0) : ev_Ca G dd w m_X9_set_ [.ref (A 17), .int x0, .int x1, .int x2] H 0 0 (ev_ok (fun r h1 => (¬ ri x0 0 7 ∧ mpost H A (va_up I 7 1) v Q R lv f h1 ∧ r = some (.int (nI 0))) ∨ (ri x0 0 7 ∧ ¬ ri x1 0 2 ∧ mpost H A (va_up I 7 2) v Q R lv f h1 ∧ r = some (.int (nI 0))) ∨ ∃ s k, x0 = nI s ∧ s < 8 ∧ x1 = nI k ∧ k < 3 ∧ ((okset I s k x2 ∧ r = some (.int (nI 0)) ∧ mpost H A (va_up I 7 0) v (p_up Q k s x2.toInt.toNat) R lv f h1) ∨ (¬ okset I s k x2 ∧ r = some (.int (-1)) ∧ mpost H A (va_up I 7 0) v Q R lv f h1)))) := by
  obtain ⟨dd, rfl⟩ : ∃ e, dd = e + 1 := ⟨dd - 1, by omega⟩
  refine ⟨by decide +kernel, rfl, ?_⟩
  refine ev_aload_n (pc := 0) dX9_set__0 rfl ?_
  refine ev_iload_n (pc := 1) dX9_set__1 rfl ?_
  refine ev_iconst (pc := 2) (v := nI 0) dX9_set__2 (by decide) ?_
  refine ev_bipush (pc := 3) (v := nI 7) dX9_set__3 (by decide) ?_
  refine ev_callS (pc := 5) (As := [.int x0, .int (nI 0), .int (nI 7)]) dX9_set__5 cs_X9_142 rfl rfl ⟨by show 19 + 3 ≤ w; omega, show ev_Ca _ _ (w - 22) _ _ _ _ _ _ from k_in (x := x0) (lo := 0) (hi := 7) (by omega) (by decide) (by decide)⟩ rfl rfl (fun r h1 hp => ?_)
  obtain ⟨rfl, hH⟩ := hp
  rw [hH]
  clear hH
  by_cases c0 : ri x0 0 7
  · rw [show rb x0 ((0 : Nat) : Int) ((7 : Nat) : Int) = 1 from rb_1 c0]
    refine ev_if_neN (pc := 8) (tgt := 15) dX9_set__8 (by decide) (by decide) (fun _ => ?_) (fun q => absurd q (by decide))
    refine ev_iload_n (pc := 15) dX9_set__15 rfl ?_
    refine ev_iconst (pc := 16) (v := nI 0) dX9_set__16 (by decide) ?_
    refine ev_iconst (pc := 17) (v := nI 2) dX9_set__17 (by decide) ?_
    refine ev_callS (pc := 18) (As := [.int x1, .int (nI 0), .int (nI 2)]) dX9_set__18 cs_X9_142 rfl rfl ⟨by show 19 + 3 ≤ w; omega, show ev_Ca _ _ (w - 22) _ _ _ _ _ _ from k_in (x := x1) (lo := 0) (hi := 2) (by omega) (by decide) (by decide)⟩ rfl rfl (fun r h1 hp => ?_)
    obtain ⟨rfl, hH⟩ := hp
    rw [hH]
    clear hH
    by_cases c1 : ri x1 0 2
    · rw [show rb x1 ((0 : Nat) : Int) ((2 : Nat) : Int) = 1 from rb_1 c1]
      refine ev_if_neN (pc := 21) (tgt := 28) dX9_set__21 (by decide) (by decide) (fun _ => ?_) (fun q => absurd q (by decide))
      obtain ⟨s, rfl, -, s2⟩ := ri_nI (x := x0) (lo := 0) (hi := 7) c0 (by decide)
      obtain ⟨k, rfl, -, k2⟩ := ri_nI (x := x1) (lo := 0) (hi := 2) c1 (by decide)
      refine ev_iconst (pc := 28) (v := nI 0) dX9_set__28 (by decide) ?_
      refine ev_putf (pc := 29) dX9_set__29 p_X9_66 (ms_M h) rfl rfl rfl ?_
      obtain ⟨h2, hF⟩ := ms_uI (k := 7) (x := 0) (n := 24) h rfl
      generalize ev_up H (A 17) (.inr (7, (ml A I).set 24 (.int (nI 0)))) = H2 at *
      refine ev_aload_n (pc := 32) dX9_set__32 rfl ?_
      refine ev_getf (pc := 33) dX9_set__33 f_X9_66 (ms_M h2) rfl ?_
      refine ev_if_leN (pc := 36) (tgt := 41) dX9_set__36 (by decide) (show 0 < 2 ^ 31 by decide) (fun _ => ?_) (fun (q : 0 < 0) => absurd q (by decide))
      have no : ∀ {V}, ¬ okset I s k x2 → ev_J G (ev_cc G dd w) w m_X9_set_ (ev_ok (fun r h1 => (¬ ri (nI s) 0 7 ∧ mpost H A (va_up I 7 1) v Q R lv f h1 ∧ r = some (.int (nI 0))) ∨ (ri (nI s) 0 7 ∧ ¬ ri (nI k) 0 2 ∧ mpost H A (va_up I 7 2) v Q R lv f h1 ∧ r = some (.int (nI 0))) ∨ ∃ s' k', nI s = nI s' ∧ s' < 8 ∧ nI k = nI k' ∧ k' < 3 ∧ ((okset I s' k' x2 ∧ r = some (.int (nI 0)) ∧ mpost H A (va_up I 7 0) v (p_up Q k' s' x2.toInt.toNat) R lv f h1) ∨ (¬ okset I s' k' x2 ∧ r = some (.int (-1)) ∧ mpost H A (va_up I 7 0) v Q R lv f h1)))) (68, V, [], H2, 0, 0) := by
        intro V nk
        refine ev_iconst (pc := 68) (v := -1) dX9_set__68 (by decide) ?_
        exact ev_iret (pc := 69) dX9_set__69 rfl rfl (Or.inr (Or.inr ⟨s, k, rfl, by omega, rfl, by omega, Or.inr ⟨nk, rfl, h2, hF⟩⟩))
      have yes : ∀ {V}, ev_hs V [(0, .ref (A 17)), (1, .int (nI s)), (2, .int (nI k)), (3, .int x2)] → okset I s k x2 → ev_J G (ev_cc G dd w) w m_X9_set_ (ev_ok (fun r h1 => (¬ ri (nI s) 0 7 ∧ mpost H A (va_up I 7 1) v Q R lv f h1 ∧ r = some (.int (nI 0))) ∨ (ri (nI s) 0 7 ∧ ¬ ri (nI k) 0 2 ∧ mpost H A (va_up I 7 2) v Q R lv f h1 ∧ r = some (.int (nI 0))) ∨ ∃ s' k', nI s = nI s' ∧ s' < 8 ∧ nI k = nI k' ∧ k' < 3 ∧ ((okset I s' k' x2 ∧ r = some (.int (nI 0)) ∧ mpost H A (va_up I 7 0) v (p_up Q k' s' x2.toInt.toNat) R lv f h1) ∨ (¬ okset I s' k' x2 ∧ r = some (.int (-1)) ∧ mpost H A (va_up I 7 0) v Q R lv f h1)))) (70, V, [], H2, 0, 0) := by
        intro V hv nk
        obtain ⟨y, rfl, y1, y2⟩ := ri_nI (x := x2) (lo := 1) (hi := mo k) nk.2 (by unfold mo; split <;> decide)
        have yb : y < 2 ^ 31 := by
          have : mo k ≤ 9999999 := by unfold mo; split <;> decide
          omega
        have en : (nI y).toInt.toNat = y := nI_tn yb
        refine ev_vs [(0, .ref (A 17)), (1, .int (nI s)), (2, .int (nI k)), (3, .int (nI y))] hv ?_
        have fin : ∀ {V H3}, MS H3 A (va_up I 7 0) v (p_up Q k s y) R lv f → MF A H2 H3 → ev_J G (ev_cc G dd w) w m_X9_set_ (ev_ok (fun r h1 => (¬ ri (nI s) 0 7 ∧ mpost H A (va_up I 7 1) v Q R lv f h1 ∧ r = some (.int (nI 0))) ∨ (ri (nI s) 0 7 ∧ ¬ ri (nI k) 0 2 ∧ mpost H A (va_up I 7 2) v Q R lv f h1 ∧ r = some (.int (nI 0))) ∨ ∃ s' k', nI s = nI s' ∧ s' < 8 ∧ nI k = nI k' ∧ k' < 3 ∧ ((okset I s' k' (nI y) ∧ r = some (.int (nI 0)) ∧ mpost H A (va_up I 7 0) v (p_up Q k' s' (nI y).toInt.toNat) R lv f h1) ∨ (¬ okset I s' k' (nI y) ∧ r = some (.int (-1)) ∧ mpost H A (va_up I 7 0) v Q R lv f h1)))) (106, V, [], H3, 0, 0) := by
          intro V H3 g1 g2
          refine ev_iconst (pc := 106) (v := nI 0) dX9_set__106 (by decide) ?_
          exact ev_iret (pc := 107) dX9_set__107 rfl rfl (Or.inr (Or.inr ⟨s, k, rfl, by omega, rfl, by omega, Or.inl ⟨nk, rfl, by rw [en]; exact g1, hF.tr g2⟩⟩))
        refine ev_iload_n (pc := 70) dX9_set__70 rfl ?_
        refine ev_if_neN (pc := 71) (tgt := 84) dX9_set__71 (by decide) (by omega) (fun d1 => ?_) (fun d1 => ?_)
        · refine ev_iload_n (pc := 84) dX9_set__84 rfl ?_
          refine ev_iconst (pc := 85) (v := nI 1) dX9_set__85 (by decide) ?_
          refine ev_icmp_neN (pc := 86) (tgt := 99) dX9_set__86 (by decide) (by omega) (by omega) (fun d2 => ?_) (fun d2 => ?_)
          · have e2 : k = 2 := by omega
            subst e2
            refine ev_aload_n (pc := 99) dX9_set__99 rfl ?_
            refine ev_getf (pc := 100) dX9_set__100 f_X9_22 (ms_M h2) rfl ?_
            refine ev_iload_n (pc := 103) dX9_set__103 rfl ?_
            refine ev_iload_n (pc := 104) dX9_set__104 rfl ?_
            refine ev_iast (pc := 105) dX9_set__105 (ms_Q h2 2 (by decide)) (vp_in_nI (show s < 8 by omega) (by decide)) ?_
            obtain ⟨h3, hF3⟩ := ms_uQ (k := 2) (s := s) (x := y) h2 (by decide) (by omega)
            exact fin h3 hF3
          · subst d2
            refine ev_aload_n (pc := 89) dX9_set__89 rfl ?_
            refine ev_getf (pc := 90) dX9_set__90 f_X9_19 (ms_M h2) rfl ?_
            refine ev_iload_n (pc := 93) dX9_set__93 rfl ?_
            refine ev_iload_n (pc := 94) dX9_set__94 rfl ?_
            refine ev_iast (pc := 95) dX9_set__95 (ms_Q h2 1 (by decide)) (vp_in_nI (show s < 8 by omega) (by decide)) ?_
            obtain ⟨h3, hF3⟩ := ms_uQ (k := 1) (s := s) (x := y) h2 (by decide) (by omega)
            refine ev_goto (pc := 96) (tgt := 106) dX9_set__96 (by decide) ?_
            exact fin h3 hF3
        · subst d1
          refine ev_aload_n (pc := 74) dX9_set__74 rfl ?_
          refine ev_getf (pc := 75) dX9_set__75 f_X9_16 (ms_M h2) rfl ?_
          refine ev_iload_n (pc := 78) dX9_set__78 rfl ?_
          refine ev_iload_n (pc := 79) dX9_set__79 rfl ?_
          refine ev_iast (pc := 80) dX9_set__80 (ms_Q h2 0 (by decide)) (vp_in_nI (show s < 8 by omega) (by decide)) ?_
          obtain ⟨h3, hF3⟩ := ms_uQ (k := 0) (s := s) (x := y) h2 (by decide) (by omega)
          refine ev_goto (pc := 81) (tgt := 106) dX9_set__81 (by decide) ?_
          exact fin h3 hF3
      refine ev_iload_n (pc := 41) dX9_set__41 rfl ?_
      refine ev_iload_n (pc := 42) dX9_set__42 rfl ?_
      refine ev_callS (pc := 43) (As := [.int (nI k), .int x2]) dX9_set__43 cs_X9_146 rfl rfl ⟨by show 19 + 2 ≤ w; omega, show ev_Ca _ _ (w - 21) _ _ _ _ _ _ from k_rfits (by omega) (by omega) (by omega)⟩ rfl rfl (fun r h1 hp => ?_)
      obtain ⟨rfl, hH⟩ := hp
      rw [hH]
      clear hH
      by_cases c2 : ri x2 1 (mo k)
      · rw [rb_1 c2]
        refine ev_if_eqN (pc := 46) (tgt := 68) dX9_set__46 (by decide) (by decide) (fun q => absurd q (by decide)) (fun _ => ?_)
        refine ev_iload_n (pc := 49) dX9_set__49 rfl ?_
        refine ev_if_leN (pc := 50) (tgt := 70) dX9_set__50 (by decide) (by omega) (fun d0 => ?_) (fun d0 => ?_)
        · exact yes ⟨rfl, rfl, rfl, rfl, trivial⟩ ⟨fun q => q.1 d0, c2⟩
        · refine ev_aload_n (pc := 53) dX9_set__53 rfl ?_
          refine ev_getf (pc := 54) dX9_set__54 f_X9_150 (ms_M h2) rfl ?_
          refine ev_if_eqN (pc := 57) (tgt := 70) dX9_set__57 (by decide) (show I 1 < 2 ^ 31 by omega) (fun (q : I 1 = 0) => ?_) (fun (q : 0 < I 1) => ?_)
          · refine yes ⟨rfl, rfl, rfl, rfl, trivial⟩ ⟨fun r => ?_, c2⟩
            have := r.2
            rw [hz q, Nat.zero_div] at this
            omega
          · refine ev_aload_n (pc := 60) dX9_set__60 rfl ?_
            refine ev_iload_n (pc := 61) dX9_set__61 rfl ?_
            refine ev_callV (pc := 62) (As := [.int (nI s)]) dX9_set__62 cv_X9_124 rfl rfl (ms_M h2) rfl ⟨by show 19 + 2 ≤ w; omega, show ev_Ca _ _ (w - 21) _ _ _ _ _ _ from k_isMem (by omega) h2 hm (by omega)⟩ rfl rfl (fun r h1 hp => ?_)
            obtain ⟨rfl, hH⟩ := hp
            rw [hH]
            clear hH
            refine ev_if_eqN (pc := 65) (tgt := 70) dX9_set__65 (by decide) (show I 0 / 2 ^ s % 2 < 2 ^ 31 by omega) (fun (d3 : I 0 / 2 ^ s % 2 = 0) => ?_) (fun (d3 : 0 < I 0 / 2 ^ s % 2) => ?_)
            · exact yes ⟨rfl, rfl, rfl, rfl, trivial⟩ ⟨fun r => by have := r.2; omega, c2⟩
            · exact no (fun r => r.1 ⟨by omega, by omega⟩)
      · rw [rb_0 c2]
        refine ev_if_eqN (pc := 46) (tgt := 68) dX9_set__46 (by decide) (by decide) (fun _ => ?_) (fun q => absurd q (by decide))
        exact no (fun r => c2 r.2)
    · rw [show rb x1 ((0 : Nat) : Int) ((2 : Nat) : Int) = 0 from rb_0 c1]
      refine ev_if_neN (pc := 21) (tgt := 28) dX9_set__21 (by decide) (by decide) (fun q => absurd q (by decide)) (fun _ => ?_)
      refine ev_iconst (pc := 24) (v := nI 2) dX9_set__24 (by decide) ?_
      refine ev_goto (pc := 25) (tgt := 29) dX9_set__25 (by decide) ?_
      refine ev_putf (pc := 29) dX9_set__29 p_X9_66 (ms_M h) rfl rfl rfl ?_
      obtain ⟨h2, hF⟩ := ms_uI (k := 7) (x := 2) (n := 24) h rfl
      generalize ev_up H (A 17) (.inr (7, (ml A I).set 24 (.int (nI 2)))) = H2 at *
      refine ev_aload_n (pc := 32) dX9_set__32 rfl ?_
      refine ev_getf (pc := 33) dX9_set__33 f_X9_66 (ms_M h2) rfl ?_
      refine ev_if_leN (pc := 36) (tgt := 41) dX9_set__36 (by decide) (show 2 < 2 ^ 31 by decide) (fun (q : 2 = 0) => absurd q (by decide)) (fun _ => ?_)
      refine ev_iconst (pc := 39) (v := nI 0) dX9_set__39 (by decide) ?_
      exact ev_iret (pc := 40) dX9_set__40 rfl rfl (Or.inr (Or.inl ⟨c0, c1, ⟨h2, hF⟩, rfl⟩))
  · rw [show rb x0 ((0 : Nat) : Int) ((7 : Nat) : Int) = 0 from rb_0 c0]
    refine ev_if_neN (pc := 8) (tgt := 15) dX9_set__8 (by decide) (by decide) (fun q => absurd q (by decide)) (fun _ => ?_)
    refine ev_iconst (pc := 11) (v := nI 1) dX9_set__11 (by decide) ?_
    refine ev_goto (pc := 12) (tgt := 29) dX9_set__12 (by decide) ?_
    refine ev_putf (pc := 29) dX9_set__29 p_X9_66 (ms_M h) rfl rfl rfl ?_
    obtain ⟨h2, hF⟩ := ms_uI (k := 7) (x := 1) (n := 24) h rfl
    generalize ev_up H (A 17) (.inr (7, (ml A I).set 24 (.int (nI 1)))) = H2 at *
    refine ev_aload_n (pc := 32) dX9_set__32 rfl ?_
    refine ev_getf (pc := 33) dX9_set__33 f_X9_66 (ms_M h2) rfl ?_
    refine ev_if_leN (pc := 36) (tgt := 41) dX9_set__36 (by decide) (show 1 < 2 ^ 31 by decide) (fun (q : 1 = 0) => absurd q (by decide)) (fun _ => ?_)
    refine ev_iconst (pc := 39) (v := nI 0) dX9_set__39 (by decide) ?_
    exact ev_iret (pc := 40) dX9_set__40 rfl rfl (Or.inl ⟨c0, ⟨h2, hF⟩, rfl⟩)
theorem k_rget {x0 x1 : Int32} (hd : 2 ≤ dd) (hw : 60 ≤ w) (h : MS H A I v Q R lv f) : ev_Ca G dd w m_X9_get [.ref (A 17), .int x0, .int x1] H 0 0 (ev_ok (fun r h1 => (¬ ri x0 0 7 ∧ mpost H A (va_up I 7 1) v Q R lv f h1 ∧ r = some (.int (nI 0))) ∨ (ri x0 0 7 ∧ ¬ ri x1 0 2 ∧ mpost H A (va_up I 7 2) v Q R lv f h1 ∧ r = some (.int (nI 0))) ∨ ∃ s k, x0 = nI s ∧ s < 8 ∧ x1 = nI k ∧ k < 3 ∧ r = some (.int (nI (Q k s))) ∧ mpost H A (va_up I 7 0) v Q R lv f h1)) := by
  obtain ⟨dd, rfl⟩ : ∃ e, dd = e + 1 := ⟨dd - 1, by omega⟩
  refine ⟨by decide +kernel, rfl, ?_⟩
  refine ev_aload_n (pc := 0) dX9_get_0 rfl ?_
  refine ev_iload_n (pc := 1) dX9_get_1 rfl ?_
  refine ev_iconst (pc := 2) (v := nI 0) dX9_get_2 (by decide) ?_
  refine ev_bipush (pc := 3) (v := nI 7) dX9_get_3 (by decide) ?_
  refine ev_callS (pc := 5) (As := [.int x0, .int (nI 0), .int (nI 7)]) dX9_get_5 cs_X9_142 rfl rfl ⟨by show 19 + 3 ≤ w; omega, show ev_Ca _ _ (w - 22) _ _ _ _ _ _ from k_in (x := x0) (lo := 0) (hi := 7) (by omega) (by decide) (by decide)⟩ rfl rfl (fun r h1 hp => ?_)
  obtain ⟨rfl, hH⟩ := hp
  rw [hH]
  clear hH
  by_cases c0 : ri x0 0 7
  · rw [show rb x0 ((0 : Nat) : Int) ((7 : Nat) : Int) = 1 from rb_1 c0]
    refine ev_if_neN (pc := 8) (tgt := 15) dX9_get_8 (by decide) (by decide) (fun _ => ?_) (fun q => absurd q (by decide))
    refine ev_iload_n (pc := 15) dX9_get_15 rfl ?_
    refine ev_iconst (pc := 16) (v := nI 0) dX9_get_16 (by decide) ?_
    refine ev_iconst (pc := 17) (v := nI 2) dX9_get_17 (by decide) ?_
    refine ev_callS (pc := 18) (As := [.int x1, .int (nI 0), .int (nI 2)]) dX9_get_18 cs_X9_142 rfl rfl ⟨by show 19 + 3 ≤ w; omega, show ev_Ca _ _ (w - 22) _ _ _ _ _ _ from k_in (x := x1) (lo := 0) (hi := 2) (by omega) (by decide) (by decide)⟩ rfl rfl (fun r h1 hp => ?_)
    obtain ⟨rfl, hH⟩ := hp
    rw [hH]
    clear hH
    by_cases c1 : ri x1 0 2
    · rw [show rb x1 ((0 : Nat) : Int) ((2 : Nat) : Int) = 1 from rb_1 c1]
      refine ev_if_neN (pc := 21) (tgt := 28) dX9_get_21 (by decide) (by decide) (fun _ => ?_) (fun q => absurd q (by decide))
      obtain ⟨s, rfl, -, s2⟩ := ri_nI (x := x0) (lo := 0) (hi := 7) c0 (by decide)
      obtain ⟨k, rfl, -, k2⟩ := ri_nI (x := x1) (lo := 0) (hi := 2) c1 (by decide)
      refine ev_iconst (pc := 28) (v := nI 0) dX9_get_28 (by decide) ?_
      refine ev_putf (pc := 29) dX9_get_29 p_X9_66 (ms_M h) rfl rfl rfl ?_
      obtain ⟨h2, hF⟩ := ms_uI (k := 7) (x := 0) (n := 24) h rfl
      generalize ev_up H (A 17) (.inr (7, (ml A I).set 24 (.int (nI 0)))) = H2 at *
      refine ev_aload_n (pc := 32) dX9_get_32 rfl ?_
      refine ev_getf (pc := 33) dX9_get_33 f_X9_66 (ms_M h2) rfl ?_
      refine ev_if_leN (pc := 36) (tgt := 43) dX9_get_36 (by decide) (show 0 < 2 ^ 31 by decide) (fun _ => ?_) (fun (q : 0 < 0) => absurd q (by decide))
      refine ev_iload_n (pc := 43) dX9_get_43 rfl ?_
      refine ev_if_neN (pc := 44) (tgt := 56) dX9_get_44 (by decide) (by omega) (fun d1 => ?_) (fun d1 => ?_)
      · refine ev_iload_n (pc := 56) dX9_get_56 rfl ?_
        refine ev_iconst (pc := 57) (v := nI 1) dX9_get_57 (by decide) ?_
        refine ev_icmp_neN (pc := 58) (tgt := 70) dX9_get_58 (by decide) (by omega) (by omega) (fun d2 => ?_) (fun d2 => ?_)
        · have e2 : k = 2 := by omega
          subst e2
          refine ev_aload_n (pc := 70) dX9_get_70 rfl ?_
          refine ev_getf (pc := 71) dX9_get_71 f_X9_22 (ms_M h2) rfl ?_
          refine ev_iload_n (pc := 74) dX9_get_74 rfl ?_
          refine ev_iaN (pc := 75) dX9_get_75 (ms_Q h2 2 (by decide)) (by omega) (by decide) ?_
          exact ev_iret (pc := 76) dX9_get_76 rfl rfl (Or.inr (Or.inr ⟨s, 2, rfl, by omega, rfl, by omega, rfl, h2, hF⟩))
        · subst d2
          refine ev_aload_n (pc := 61) dX9_get_61 rfl ?_
          refine ev_getf (pc := 62) dX9_get_62 f_X9_19 (ms_M h2) rfl ?_
          refine ev_iload_n (pc := 65) dX9_get_65 rfl ?_
          refine ev_iaN (pc := 66) dX9_get_66 (ms_Q h2 1 (by decide)) (by omega) (by decide) ?_
          refine ev_goto (pc := 67) (tgt := 76) dX9_get_67 (by decide) ?_
          exact ev_iret (pc := 76) dX9_get_76 rfl rfl (Or.inr (Or.inr ⟨s, 1, rfl, by omega, rfl, by omega, rfl, h2, hF⟩))
      · subst d1
        refine ev_aload_n (pc := 47) dX9_get_47 rfl ?_
        refine ev_getf (pc := 48) dX9_get_48 f_X9_16 (ms_M h2) rfl ?_
        refine ev_iload_n (pc := 51) dX9_get_51 rfl ?_
        refine ev_iaN (pc := 52) dX9_get_52 (ms_Q h2 0 (by decide)) (by omega) (by decide) ?_
        refine ev_goto (pc := 53) (tgt := 76) dX9_get_53 (by decide) ?_
        exact ev_iret (pc := 76) dX9_get_76 rfl rfl (Or.inr (Or.inr ⟨s, 0, rfl, by omega, rfl, by omega, rfl, h2, hF⟩))
    · rw [show rb x1 ((0 : Nat) : Int) ((2 : Nat) : Int) = 0 from rb_0 c1]
      refine ev_if_neN (pc := 21) (tgt := 28) dX9_get_21 (by decide) (by decide) (fun q => absurd q (by decide)) (fun _ => ?_)
      refine ev_iconst (pc := 24) (v := nI 2) dX9_get_24 (by decide) ?_
      refine ev_goto (pc := 25) (tgt := 29) dX9_get_25 (by decide) ?_
      refine ev_putf (pc := 29) dX9_get_29 p_X9_66 (ms_M h) rfl rfl rfl ?_
      obtain ⟨h2, hF⟩ := ms_uI (k := 7) (x := 2) (n := 24) h rfl
      generalize ev_up H (A 17) (.inr (7, (ml A I).set 24 (.int (nI 2)))) = H2 at *
      refine ev_aload_n (pc := 32) dX9_get_32 rfl ?_
      refine ev_getf (pc := 33) dX9_get_33 f_X9_66 (ms_M h2) rfl ?_
      refine ev_if_leN (pc := 36) (tgt := 43) dX9_get_36 (by decide) (show 2 < 2 ^ 31 by decide) (fun (q : 2 = 0) => absurd q (by decide)) (fun _ => ?_)
      refine ev_iconst (pc := 39) (v := nI 0) dX9_get_39 (by decide) ?_
      refine ev_goto (pc := 40) (tgt := 76) dX9_get_40 (by decide) ?_
      exact ev_iret (pc := 76) dX9_get_76 rfl rfl (Or.inr (Or.inl ⟨c0, c1, ⟨h2, hF⟩, rfl⟩))
  · rw [show rb x0 ((0 : Nat) : Int) ((7 : Nat) : Int) = 0 from rb_0 c0]
    refine ev_if_neN (pc := 8) (tgt := 15) dX9_get_8 (by decide) (by decide) (fun q => absurd q (by decide)) (fun _ => ?_)
    refine ev_iconst (pc := 11) (v := nI 1) dX9_get_11 (by decide) ?_
    refine ev_goto (pc := 12) (tgt := 29) dX9_get_12 (by decide) ?_
    refine ev_putf (pc := 29) dX9_get_29 p_X9_66 (ms_M h) rfl rfl rfl ?_
    obtain ⟨h2, hF⟩ := ms_uI (k := 7) (x := 1) (n := 24) h rfl
    generalize ev_up H (A 17) (.inr (7, (ml A I).set 24 (.int (nI 1)))) = H2 at *
    refine ev_aload_n (pc := 32) dX9_get_32 rfl ?_
    refine ev_getf (pc := 33) dX9_get_33 f_X9_66 (ms_M h2) rfl ?_
    refine ev_if_leN (pc := 36) (tgt := 43) dX9_get_36 (by decide) (show 1 < 2 ^ 31 by decide) (fun (q : 1 = 0) => absurd q (by decide)) (fun _ => ?_)
    refine ev_iconst (pc := 39) (v := nI 0) dX9_get_39 (by decide) ?_
    refine ev_goto (pc := 40) (tgt := 76) dX9_get_40 (by decide) ?_
    exact ev_iret (pc := 76) dX9_get_76 rfl rfl (Or.inl ⟨c0, ⟨h2, hF⟩, rfl⟩)
def okev (I : Nat → Nat) (x0 x1 : Int32) : Prop := I 1 = 1 ∧ ri x0 0 8 ∧ ri x1 0 7 ∧ I 3 < 16
theorem k_revent {x0 x1 x2 x3 x4 : Int32} (hd : 2 ≤ dd) (hw : 60 ≤ w) (h : MS H A I v Q R lv f) (hb : I 1 ≤ 1) (hn : I 3 ≤ 16) : ev_Ca G dd w m_X9_event [.ref (A 17), .int x0, .int x1, .int x2, .int x3, .int x4] H 0 0 (ev_ok (fun r h1 => (okev I x0 x1 ∧ r = some (.int (nI (I 3 + 1))) ∧ ∃ R1 : Nat → Nat → Int32, (∀ a b, (5 ≤ a ∨ b ≠ I 3) → R1 a b = R a b) ∧ (R1 0 (I 3) = x0 ∧ R1 1 (I 3) = x1 ∧ R1 2 (I 3) = x2 ∧ R1 3 (I 3) = x3 ∧ R1 4 (I 3) = x4) ∧ mpost H A (va_up (va_up I 7 0) 3 (I 3 + 1)) v Q R1 lv f h1) ∨ (¬ okev I x0 x1 ∧ r = some (.int (-1)) ∧ mpost H A (va_up I 7 0) v Q R lv f h1))) := by
  obtain ⟨dd, rfl⟩ : ∃ e, dd = e + 1 := ⟨dd - 1, by omega⟩
  refine ⟨by decide +kernel, rfl, ?_⟩
  refine ev_aload_n (pc := 0) dX9_event_0 rfl ?_
  refine ev_iconst (pc := 1) (v := nI 0) dX9_event_1 (by decide) ?_
  refine ev_putf (pc := 2) dX9_event_2 p_X9_66 (ms_M h) rfl rfl rfl ?_
  obtain ⟨h2, hF⟩ := ms_uI (k := 7) (x := 0) (n := 24) h rfl
  generalize ev_up H (A 17) (.inr (7, (ml A I).set 24 (.int (nI 0)))) = H2 at *
  have no : ∀ {V}, ¬ okev I x0 x1 → ev_J G (ev_cc G dd w) w m_X9_event (ev_ok (fun r h1 => (okev I x0 x1 ∧ r = some (.int (nI (I 3 + 1))) ∧ ∃ R1 : Nat → Nat → Int32, (∀ a b, (5 ≤ a ∨ b ≠ I 3) → R1 a b = R a b) ∧ (R1 0 (I 3) = x0 ∧ R1 1 (I 3) = x1 ∧ R1 2 (I 3) = x2 ∧ R1 3 (I 3) = x3 ∧ R1 4 (I 3) = x4) ∧ mpost H A (va_up (va_up I 7 0) 3 (I 3 + 1)) v Q R1 lv f h1) ∨ (¬ okev I x0 x1 ∧ r = some (.int (-1)) ∧ mpost H A (va_up I 7 0) v Q R lv f h1))) (41, V, [], H2, 0, 0) := by
    intro V nk
    refine ev_iconst (pc := 41) (v := -1) dX9_event_41 (by decide) ?_
    exact ev_iret (pc := 42) dX9_event_42 rfl rfl (Or.inr ⟨nk, rfl, h2, hF⟩)
  refine ev_aload_n (pc := 5) dX9_event_5 rfl ?_
  refine ev_getf (pc := 6) dX9_event_6 f_X9_150 (ms_M h2) rfl ?_
  refine ev_if_eqN (pc := 9) (tgt := 41) dX9_event_9 (by decide) (show I 1 < 2 ^ 31 by omega) (fun (c1 : I 1 = 0) => ?_) (fun (c1 : 0 < I 1) => ?_)
  · exact no (fun q => by have := q.1; omega)
  refine ev_aload_n (pc := 12) dX9_event_12 rfl ?_
  refine ev_getf (pc := 13) dX9_event_13 f_X9_161 (ms_M h2) rfl ?_
  refine ev_bipush (pc := 16) (v := nI 16) dX9_event_16 (by decide) ?_
  refine ev_icmp_eqN (pc := 18) (tgt := 41) dX9_event_18 (by decide) (show I 3 < 2 ^ 31 by omega) (by decide) (fun (c2 : I 3 = 16) => ?_) (fun (c2 : ¬ I 3 = 16) => ?_)
  · exact no (fun q => by have := q.2.2.2; omega)
  refine ev_iload_n (pc := 21) dX9_event_21 rfl ?_
  refine ev_iconst (pc := 22) (v := nI 0) dX9_event_22 (by decide) ?_
  refine ev_bipush (pc := 23) (v := nI 8) dX9_event_23 (by decide) ?_
  refine ev_callS (pc := 25) (As := [.int x0, .int (nI 0), .int (nI 8)]) dX9_event_25 cs_X9_142 rfl rfl ⟨by show 19 + 3 ≤ w; omega, show ev_Ca _ _ (w - 22) _ _ _ _ _ _ from k_in (x := x0) (lo := 0) (hi := 8) (by omega) (by decide) (by decide)⟩ rfl rfl (fun r h1 hp => ?_)
  obtain ⟨rfl, hH⟩ := hp
  rw [hH]
  clear hH
  by_cases c3 : ri x0 0 8
  · rw [show rb x0 ((0 : Nat) : Int) ((8 : Nat) : Int) = 1 from rb_1 c3]
    refine ev_if_eqN (pc := 28) (tgt := 41) dX9_event_28 (by decide) (by decide) (fun q => absurd q (by decide)) (fun _ => ?_)
    refine ev_iload_n (pc := 31) dX9_event_31 rfl ?_
    refine ev_iconst (pc := 32) (v := nI 0) dX9_event_32 (by decide) ?_
    refine ev_bipush (pc := 33) (v := nI 7) dX9_event_33 (by decide) ?_
    refine ev_callS (pc := 35) (As := [.int x1, .int (nI 0), .int (nI 7)]) dX9_event_35 cs_X9_142 rfl rfl ⟨by show 19 + 3 ≤ w; omega, show ev_Ca _ _ (w - 22) _ _ _ _ _ _ from k_in (x := x1) (lo := 0) (hi := 7) (by omega) (by decide) (by decide)⟩ rfl rfl (fun r h1 hp => ?_)
    obtain ⟨rfl, hH⟩ := hp
    rw [hH]
    clear hH
    by_cases c4 : ri x1 0 7
    · rw [show rb x1 ((0 : Nat) : Int) ((7 : Nat) : Int) = 1 from rb_1 c4]
      refine ev_if_neN (pc := 38) (tgt := 43) dX9_event_38 (by decide) (by decide) (fun _ => ?_) (fun q => absurd q (by decide))
      refine ev_aload_n (pc := 43) dX9_event_43 rfl ?_
      refine ev_getf (pc := 44) dX9_event_44 f_X9_34 (ms_M h2) rfl ?_
      refine ev_aload_n (pc := 47) dX9_event_47 rfl ?_
      refine ev_getf (pc := 48) dX9_event_48 f_X9_161 (ms_M h2) rfl ?_
      refine ev_iload_n (pc := 51) dX9_event_51 rfl ?_
      refine ev_iast (pc := 52) dX9_event_52 (ms_R h2 0 (by decide)) (vp_in_nI (show I 3 < 16 by omega) (by decide)) ?_
      obtain ⟨h3, hF3⟩ := ms_uR (k := 0) (s := I 3) (y := x0) h2 (by decide) (by omega)
      refine ev_th (h2 := ev_up H2 (A (8 + 0)) (.inl (.int, 16, .inl (upd (R 0) (nI (I 3)).toNatClampNeg x0)))) rfl ?_
      generalize ev_up H2 (A (8 + 0)) (.inl (.int, 16, .inl (upd (R 0) (nI (I 3)).toNatClampNeg x0))) = H3 at *
      refine ev_aload_n (pc := 53) dX9_event_53 rfl ?_
      refine ev_getf (pc := 54) dX9_event_54 f_X9_37 (ms_M h3) rfl ?_
      refine ev_aload_n (pc := 57) dX9_event_57 rfl ?_
      refine ev_getf (pc := 58) dX9_event_58 f_X9_161 (ms_M h3) rfl ?_
      refine ev_iload_n (pc := 61) dX9_event_61 rfl ?_
      refine ev_iast (pc := 62) dX9_event_62 (ms_R h3 1 (by decide)) (vp_in_nI (show I 3 < 16 by omega) (by decide)) ?_
      obtain ⟨h4, hF4⟩ := ms_uR (k := 1) (s := I 3) (y := x1) h3 (by decide) (by omega)
      refine ev_th (h2 := ev_up H3 (A (8 + 1)) (.inl (.int, 16, .inl (upd (r_up R 0 (I 3) x0 1) (nI (I 3)).toNatClampNeg x1)))) rfl ?_
      generalize ev_up H3 (A (8 + 1)) (.inl (.int, 16, .inl (upd (r_up R 0 (I 3) x0 1) (nI (I 3)).toNatClampNeg x1))) = H4 at *
      refine ev_aload_n (pc := 63) dX9_event_63 rfl ?_
      refine ev_getf (pc := 64) dX9_event_64 f_X9_40 (ms_M h4) rfl ?_
      refine ev_aload_n (pc := 67) dX9_event_67 rfl ?_
      refine ev_getf (pc := 68) dX9_event_68 f_X9_161 (ms_M h4) rfl ?_
      refine ev_iload_n (pc := 71) dX9_event_71 rfl ?_
      refine ev_iast (pc := 72) dX9_event_72 (ms_R h4 2 (by decide)) (vp_in_nI (show I 3 < 16 by omega) (by decide)) ?_
      obtain ⟨h5, hF5⟩ := ms_uR (k := 2) (s := I 3) (y := x2) h4 (by decide) (by omega)
      refine ev_th (h2 := ev_up H4 (A (8 + 2)) (.inl (.int, 16, .inl (upd (r_up (r_up R 0 (I 3) x0) 1 (I 3) x1 2) (nI (I 3)).toNatClampNeg x2)))) rfl ?_
      generalize ev_up H4 (A (8 + 2)) (.inl (.int, 16, .inl (upd (r_up (r_up R 0 (I 3) x0) 1 (I 3) x1 2) (nI (I 3)).toNatClampNeg x2))) = H5 at *
      refine ev_aload_n (pc := 73) dX9_event_73 rfl ?_
      refine ev_getf (pc := 74) dX9_event_74 f_X9_43 (ms_M h5) rfl ?_
      refine ev_aload_n (pc := 77) dX9_event_77 rfl ?_
      refine ev_getf (pc := 78) dX9_event_78 f_X9_161 (ms_M h5) rfl ?_
      refine ev_iload (pc := 81) dX9_event_81 rfl ?_
      refine ev_iast (pc := 83) dX9_event_83 (ms_R h5 3 (by decide)) (vp_in_nI (show I 3 < 16 by omega) (by decide)) ?_
      obtain ⟨h6, hF6⟩ := ms_uR (k := 3) (s := I 3) (y := x3) h5 (by decide) (by omega)
      refine ev_th (h2 := ev_up H5 (A (8 + 3)) (.inl (.int, 16, .inl (upd (r_up (r_up (r_up R 0 (I 3) x0) 1 (I 3) x1) 2 (I 3) x2 3) (nI (I 3)).toNatClampNeg x3)))) rfl ?_
      generalize ev_up H5 (A (8 + 3)) (.inl (.int, 16, .inl (upd (r_up (r_up (r_up R 0 (I 3) x0) 1 (I 3) x1) 2 (I 3) x2 3) (nI (I 3)).toNatClampNeg x3))) = H6 at *
      refine ev_aload_n (pc := 84) dX9_event_84 rfl ?_
      refine ev_getf (pc := 85) dX9_event_85 f_X9_46 (ms_M h6) rfl ?_
      refine ev_aload_n (pc := 88) dX9_event_88 rfl ?_
      refine ev_getf (pc := 89) dX9_event_89 f_X9_161 (ms_M h6) rfl ?_
      refine ev_iload (pc := 92) dX9_event_92 rfl ?_
      refine ev_iast (pc := 94) dX9_event_94 (ms_R h6 4 (by decide)) (vp_in_nI (show I 3 < 16 by omega) (by decide)) ?_
      obtain ⟨h7, hF7⟩ := ms_uR (k := 4) (s := I 3) (y := x4) h6 (by decide) (by omega)
      have R7a : ∀ a b, (5 ≤ a ∨ b ≠ I 3) → r_up (r_up (r_up (r_up (r_up R 0 (I 3) x0) 1 (I 3) x1) 2 (I 3) x2) 3 (I 3) x3) 4 (I 3) x4 a b = R a b := by
        intro a b hab
        unfold r_up
        rcases hab with q | q
        · rw [if_neg (by omega), if_neg (by omega), if_neg (by omega), if_neg (by omega), if_neg (by omega)]
        · simp only [if_neg q, ite_self]
      have R7b : r_up (r_up (r_up (r_up (r_up R 0 (I 3) x0) 1 (I 3) x1) 2 (I 3) x2) 3 (I 3) x3) 4 (I 3) x4 0 (I 3) = x0 ∧ r_up (r_up (r_up (r_up (r_up R 0 (I 3) x0) 1 (I 3) x1) 2 (I 3) x2) 3 (I 3) x3) 4 (I 3) x4 1 (I 3) = x1 ∧ r_up (r_up (r_up (r_up (r_up R 0 (I 3) x0) 1 (I 3) x1) 2 (I 3) x2) 3 (I 3) x3) 4 (I 3) x4 2 (I 3) = x2 ∧ r_up (r_up (r_up (r_up (r_up R 0 (I 3) x0) 1 (I 3) x1) 2 (I 3) x2) 3 (I 3) x3) 4 (I 3) x4 3 (I 3) = x3 ∧ r_up (r_up (r_up (r_up (r_up R 0 (I 3) x0) 1 (I 3) x1) 2 (I 3) x2) 3 (I 3) x3) 4 (I 3) x4 4 (I 3) = x4 := by
        unfold r_up
        simp
      refine ev_th (h2 := ev_up H6 (A (8 + 4)) (.inl (.int, 16, .inl (upd (r_up (r_up (r_up (r_up R 0 (I 3) x0) 1 (I 3) x1) 2 (I 3) x2) 3 (I 3) x3 4) (nI (I 3)).toNatClampNeg x4)))) rfl ?_
      generalize ev_up H6 (A (8 + 4)) (.inl (.int, 16, .inl (upd (r_up (r_up (r_up (r_up R 0 (I 3) x0) 1 (I 3) x1) 2 (I 3) x2) 3 (I 3) x3 4) (nI (I 3)).toNatClampNeg x4))) = H7 at *
      generalize r_up (r_up (r_up (r_up (r_up R 0 (I 3) x0) 1 (I 3) x1) 2 (I 3) x2) 3 (I 3) x3) 4 (I 3) x4 = R7 at *
      refine ev_aload_n (pc := 95) dX9_event_95 rfl ?_
      refine ev_dup (pc := 96) dX9_event_96 rfl ?_
      refine ev_getf (pc := 97) dX9_event_97 f_X9_161 (ms_M h7) rfl ?_
      refine ev_iconst (pc := 100) (v := nI 1) dX9_event_100 (by decide) ?_
      refine ev_iaddN (pc := 101) dX9_event_101 ?_
      refine ev_putf (pc := 102) dX9_event_102 p_X9_161 (ms_M h7) rfl rfl rfl ?_
      obtain ⟨h8, hF8⟩ := ms_uI (k := 3) (x := I 3 + 1) (n := 11) h7 rfl
      refine ev_th (h2 := ev_up H7 (A 17) (.inr (7, (ml A (va_up I 7 0)).set 11 (.int (nI (I 3 + 1)))))) rfl ?_
      generalize ev_up H7 (A 17) (.inr (7, (ml A (va_up I 7 0)).set 11 (.int (nI (I 3 + 1))))) = H8 at *
      refine ev_aload_n (pc := 105) dX9_event_105 rfl ?_
      refine ev_getf (pc := 106) dX9_event_106 f_X9_161 (ms_M h8) rfl ?_
      exact ev_iret (pc := 109) dX9_event_109 rfl rfl (Or.inl ⟨⟨by omega, c3, c4, by omega⟩, rfl, R7, R7a, R7b, h8, (((((hF.tr hF3).tr hF4).tr hF5).tr hF6).tr hF7).tr hF8⟩)
    · rw [show rb x1 ((0 : Nat) : Int) ((7 : Nat) : Int) = 0 from rb_0 c4]
      refine ev_if_neN (pc := 38) (tgt := 43) dX9_event_38 (by decide) (by decide) (fun q => absurd q (by decide)) (fun _ => ?_)
      exact no (fun q => c4 q.2.2.1)
  · rw [show rb x0 ((0 : Nat) : Int) ((8 : Nat) : Int) = 0 from rb_0 c3]
    refine ev_if_eqN (pc := 28) (tgt := 41) dX9_event_28 (by decide) (by decide) (fun _ => ?_) (fun q => absurd q (by decide))
    exact no (fun q => c3 q.2.1)
end REFH
