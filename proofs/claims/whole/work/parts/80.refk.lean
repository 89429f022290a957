/-! THE REFERENCE: remember, putBack, change -/
theorem p_upn {P : Nat → Nat → Nat} {k s x a : Nat} (h : a ≠ k) : p_up P k s x a = P a := by funext b; unfold p_up; rw [if_neg h]
theorem p_ups {P : Nat → Nat → Nat} {k s x : Nat} : p_up P k s x k = va_up (P k) s x := by funext b; unfold p_up; rw [if_pos rfl]
theorem sh1 : ∀ s, s < 8 → nI 1 <<< (nI s &&& 31) = nI (2 ^ s) := by decide +kernel
section REFK
variable {G : ev_G} {w : Nat} {H h1 : ev_H} {A I v : Nat → Nat} {Q : Nat → Nat → Nat} {R : Nat → Nat → Int32} {lv f : Nat → Nat} {k s dd : Nat}
/-- one half of the values, of the registers taken over by the other -/
def cpo (d e D E n : Nat) (Q Q1 : Nat → Nat → Nat) (v v1 : Nat → Nat) : Prop := (∀ k, k < 3 → Q1 (e + k) = Q (e + k)) ∧ (∀ k, k < 3 → ∀ j, j < n → Q1 (d + k) j = Q (e + k) j) ∧ (∀ j, j < 16 → v1 (E + j) = v (E + j)) ∧ (∀ j, j < n → v1 (D + j) = v (E + j) ∧ v1 (D + 8 + j) = v (E + 8 + j)) ∧ ∀ i, 32 ≤ i → v1 i = v i
theorem l_remember {K : ev_K} {c z : Nat} (hd : 1 ≤ dd) (hw : 40 ≤ w) (hP : ∀ k, k < 3 → ∀ j, j < 8 → Q (0 + k) j < 2 ^ 31)
    (hK : ∀ Q1 v1 h1, mpost H A I v1 Q1 R lv f h1 → cpo 3 0 16 0 8 Q Q1 v v1 → K (.inl none) h1) :
    ∀ k s Q1 v1 h1, s + k = 8 → mpost H A I v1 Q1 R lv f h1 → cpo 3 0 16 0 s Q Q1 v v1 → ev_J G (ev_cc G dd w) w m_X9_remember K (10, ev_lf [(0, .ref (A 17)), (1, .int (nI s))], [], h1, c, z)
  | 0, s, Q1, v1, h1, e, e1, e2 => by
    refine ev_iload_n (pc := 10) dX9_remember_10 rfl ?_
    refine ev_bipush (pc := 11) (v := nI 8) dX9_remember_11 (by decide) ?_
    refine ev_icmp_geN (pc := 13) (tgt := 81) dX9_remember_13 (by decide) (by omega) (by omega) (fun c1 => ?_) (fun c1 => ?_)
    · have : s = 8 := by omega
      subst this
      exact ev_vret (pc := 81) dX9_remember_81 rfl (hK Q1 v1 h1 e1 e2)
    · omega
  | k + 1, s, Q1, v1, h1, e, e1, e2 => by
    obtain ⟨h, hF⟩ := e1
    obtain ⟨o1, o2, o3, o4, o5⟩ := e2
    refine ev_iload_n (pc := 10) dX9_remember_10 rfl ?_
    refine ev_bipush (pc := 11) (v := nI 8) dX9_remember_11 (by decide) ?_
    refine ev_icmp_geN (pc := 13) (tgt := 81) dX9_remember_13 (by decide) (by omega) (by omega) (fun c1 => ?_) (fun c1 => ?_)
    · omega
    · refine ev_aload_n (pc := 16) dX9_remember_16 rfl ?_
      refine ev_getf (pc := 17) dX9_remember_17 f_X9_25 (ms_M h) rfl ?_
      refine ev_iload_n (pc := 20) dX9_remember_20 rfl ?_
      refine ev_aload_n (pc := 21) dX9_remember_21 rfl ?_
      refine ev_getf (pc := 22) dX9_remember_22 f_X9_16 (ms_M h) rfl ?_
      refine ev_iload_n (pc := 25) dX9_remember_25 rfl ?_
      refine ev_iaN (pc := 26) dX9_remember_26 (ms_Q h 0 (by decide)) (by omega) (by decide) ?_
      rw [show Q1 0 = Q 0 from o1 0 (by decide)]
      refine ev_iast (pc := 27) dX9_remember_27 (ms_Q h 3 (by decide)) (vp_in_nI (show s < 8 by omega) (by decide)) ?_
      obtain ⟨h2, hF2⟩ := ms_uQ (k := 3) (s := s) (x := Q 0 s) h (by decide) (by omega)
      refine ev_th (h2 := ev_up h1 (A (2 + 3)) (.inl (.int, 8, .inl (upd (fun j => nI (Q1 3 j)) (nI s).toNatClampNeg (nI (Q 0 s)))))) rfl ?_
      generalize ev_up h1 (A (2 + 3)) (.inl (.int, 8, .inl (upd (fun j => nI (Q1 3 j)) (nI s).toNatClampNeg (nI (Q 0 s))))) = H2 at *
      have a1 : p_up Q1 3 s (Q 0 s) 3 = va_up (Q1 3) s (Q 0 s) := p_ups
      have a2 : ∀ a, a ≠ 3 → p_up Q1 3 s (Q 0 s) a = Q1 a := fun a ha => p_upn ha
      generalize p_up Q1 3 s (Q 0 s) = Q2 at *
      refine ev_aload_n (pc := 28) dX9_remember_28 rfl ?_
      refine ev_getf (pc := 29) dX9_remember_29 f_X9_28 (ms_M h2) rfl ?_
      refine ev_iload_n (pc := 32) dX9_remember_32 rfl ?_
      refine ev_aload_n (pc := 33) dX9_remember_33 rfl ?_
      refine ev_getf (pc := 34) dX9_remember_34 f_X9_19 (ms_M h2) rfl ?_
      refine ev_iload_n (pc := 37) dX9_remember_37 rfl ?_
      refine ev_iaN (pc := 38) dX9_remember_38 (ms_Q h2 1 (by decide)) (by omega) (by decide) ?_
      rw [a2 1 (by decide), show Q1 1 = Q 1 from o1 1 (by decide)]
      refine ev_iast (pc := 39) dX9_remember_39 (ms_Q h2 4 (by decide)) (vp_in_nI (show s < 8 by omega) (by decide)) ?_
      obtain ⟨h3, hF3⟩ := ms_uQ (k := 4) (s := s) (x := Q 1 s) h2 (by decide) (by omega)
      refine ev_th (h2 := ev_up H2 (A (2 + 4)) (.inl (.int, 8, .inl (upd (fun j => nI (Q2 4 j)) (nI s).toNatClampNeg (nI (Q 1 s)))))) rfl ?_
      generalize ev_up H2 (A (2 + 4)) (.inl (.int, 8, .inl (upd (fun j => nI (Q2 4 j)) (nI s).toNatClampNeg (nI (Q 1 s))))) = H3 at *
      have b1 : p_up Q2 4 s (Q 1 s) 4 = va_up (Q2 4) s (Q 1 s) := p_ups
      have b2 : ∀ a, a ≠ 4 → p_up Q2 4 s (Q 1 s) a = Q2 a := fun a ha => p_upn ha
      generalize p_up Q2 4 s (Q 1 s) = Q3 at *
      refine ev_aload_n (pc := 40) dX9_remember_40 rfl ?_
      refine ev_getf (pc := 41) dX9_remember_41 f_X9_31 (ms_M h3) rfl ?_
      refine ev_iload_n (pc := 44) dX9_remember_44 rfl ?_
      refine ev_aload_n (pc := 45) dX9_remember_45 rfl ?_
      refine ev_getf (pc := 46) dX9_remember_46 f_X9_22 (ms_M h3) rfl ?_
      refine ev_iload_n (pc := 49) dX9_remember_49 rfl ?_
      refine ev_iaN (pc := 50) dX9_remember_50 (ms_Q h3 2 (by decide)) (by omega) (by decide) ?_
      rw [b2 2 (by decide), a2 2 (by decide), show Q1 2 = Q 2 from o1 2 (by decide)]
      refine ev_iast (pc := 51) dX9_remember_51 (ms_Q h3 5 (by decide)) (vp_in_nI (show s < 8 by omega) (by decide)) ?_
      obtain ⟨h4, hF4⟩ := ms_uQ (k := 5) (s := s) (x := Q 2 s) h3 (by decide) (by omega)
      refine ev_th (h2 := ev_up H3 (A (2 + 5)) (.inl (.int, 8, .inl (upd (fun j => nI (Q3 5 j)) (nI s).toNatClampNeg (nI (Q 2 s)))))) rfl ?_
      generalize ev_up H3 (A (2 + 5)) (.inl (.int, 8, .inl (upd (fun j => nI (Q3 5 j)) (nI s).toNatClampNeg (nI (Q 2 s))))) = H4 at *
      have d1 : p_up Q3 5 s (Q 2 s) 5 = va_up (Q3 5) s (Q 2 s) := p_ups
      have d2 : ∀ a, a ≠ 5 → p_up Q3 5 s (Q 2 s) a = Q3 a := fun a ha => p_upn ha
      generalize p_up Q3 5 s (Q 2 s) = Q4 at *
      refine ev_aload_n (pc := 52) dX9_remember_52 rfl ?_
      refine ev_bipush (pc := 53) (v := nI 16) dX9_remember_53 (by decide) ?_
      refine ev_iload_n (pc := 55) dX9_remember_55 rfl ?_
      refine ev_iaddN (pc := 56) dX9_remember_56 ?_
      refine ev_iconst (pc := 57) (v := nI 0) dX9_remember_57 (by decide) ?_
      refine ev_iload_n (pc := 58) dX9_remember_58 rfl ?_
      refine ev_iaddN (pc := 59) dX9_remember_59 ?_
      refine ev_callV (pc := 60) (As := [.int (nI (16 + s)), .int (nI (0 + s))]) dX9_remember_60 cv_X9_101 rfl rfl (ms_M h4) rfl ⟨by show 19 + 4 ≤ w; omega, show ev_Ca _ _ (w - 23) _ _ _ _ _ _ from m_copy (r := 16 + s) (o := 0 + s) (by omega) h4 (by omega) (by omega) (by omega)⟩ rfl rfl (fun r h1 hp => ?_)
      obtain ⟨rfl, h5, hF5⟩ := hp
      rw [o3 s (by omega)] at h5
      refine ev_aload_n (pc := 63) dX9_remember_63 rfl ?_
      refine ev_bipush (pc := 64) (v := nI 24) dX9_remember_64 (by decide) ?_
      refine ev_iload_n (pc := 66) dX9_remember_66 rfl ?_
      refine ev_iaddN (pc := 67) dX9_remember_67 ?_
      refine ev_bipush (pc := 68) (v := nI 8) dX9_remember_68 (by decide) ?_
      refine ev_iload_n (pc := 70) dX9_remember_70 rfl ?_
      refine ev_iaddN (pc := 71) dX9_remember_71 ?_
      refine ev_callV (pc := 72) (As := [.int (nI (24 + s)), .int (nI (8 + s))]) dX9_remember_72 cv_X9_101 rfl rfl (ms_M h5) rfl ⟨by show 19 + 4 ≤ w; omega, show ev_Ca _ _ (w - 23) _ _ _ _ _ _ from m_copy (r := 24 + s) (o := 8 + s) (by omega) h5 (by omega) (by omega) (by omega)⟩ rfl rfl (fun r h1 hp => ?_)
      obtain ⟨rfl, h6, hF6⟩ := hp
      rw [va_up_ne _ _ (by omega), show 8 + s = 0 + (8 + s) by omega, o3 (8 + s) (by omega)] at h6
      refine ev_iincN (pc := 75) dX9_remember_75 rfl rfl ?_
      refine ev_goto (pc := 78) (tgt := 10) dX9_remember_78 (by decide) ?_
      refine ev_vs [(0, .ref (A 17)), (1, .int (nI (s + 1)))] ⟨rfl, rfl, trivial⟩ ?_
      refine l_remember hd hw hP hK k (s + 1) Q4 _ _ (by omega) ⟨h6, ((((hF.tr hF2).tr hF3).tr hF4).tr hF5).tr hF6⟩ ⟨fun q hq => ?_, fun q hq j hj => ?_, fun j hj => ?_, fun j hj => ?_, fun i hi => ?_⟩
      · rw [d2 _ (by omega), b2 _ (by omega), a2 _ (by omega)]; exact o1 q hq
      · rcases (show q = 0 ∨ q = 1 ∨ q = 2 by omega) with rfl | rfl | rfl
        · show Q4 3 j = Q 0 j
          rw [d2 3 (by decide), b2 3 (by decide), a1]
          by_cases x : j = s
          · rw [x, va_up_self]
          · rw [va_up_ne _ _ x]; exact o2 0 (by decide) j (by omega)
        · show Q4 4 j = Q 1 j
          rw [d2 4 (by decide), b1, a2 4 (by decide)]
          by_cases x : j = s
          · rw [x, va_up_self]
          · rw [va_up_ne _ _ x]; exact o2 1 (by decide) j (by omega)
        · show Q4 5 j = Q 2 j
          rw [d1, b2 5 (by decide), a2 5 (by decide)]
          by_cases x : j = s
          · rw [x, va_up_self]
          · rw [va_up_ne _ _ x]; exact o2 2 (by decide) j (by omega)
      · rw [va_up_ne _ _ (by omega), va_up_ne _ _ (by omega)]; exact o3 j hj
      · by_cases x : j = s
        · subst x
          rw [va_up_ne _ _ (by omega), va_up_self, show 16 + 8 + j = 24 + j by omega, va_up_self, show 0 + 8 + j = 0 + (8 + j) by omega]
          exact ⟨rfl, congrArg v (by omega)⟩
        · rw [va_up_ne _ _ (by omega), va_up_ne _ _ (by omega), va_up_ne _ _ (by omega), va_up_ne _ _ (by omega)]; exact o4 j (by omega)
      · rw [va_up_ne _ _ (by omega), va_up_ne _ _ (by omega)]; exact o5 i hi
theorem l_putBack {K : ev_K} {c z : Nat} (hd : 1 ≤ dd) (hw : 40 ≤ w) (hP : ∀ k, k < 3 → ∀ j, j < 8 → Q (3 + k) j < 2 ^ 31)
    (hK : ∀ Q1 v1 h1, mpost H A I v1 Q1 R lv f h1 → cpo 0 3 0 16 8 Q Q1 v v1 → K (.inl none) h1) :
    ∀ k s Q1 v1 h1, s + k = 8 → mpost H A I v1 Q1 R lv f h1 → cpo 0 3 0 16 s Q Q1 v v1 → ev_J G (ev_cc G dd w) w m_X9_putBack K (10, ev_lf [(0, .ref (A 17)), (1, .int (nI s))], [], h1, c, z)
  | 0, s, Q1, v1, h1, e, e1, e2 => by
    refine ev_iload_n (pc := 10) dX9_putBack_10 rfl ?_
    refine ev_bipush (pc := 11) (v := nI 8) dX9_putBack_11 (by decide) ?_
    refine ev_icmp_geN (pc := 13) (tgt := 81) dX9_putBack_13 (by decide) (by omega) (by omega) (fun c1 => ?_) (fun c1 => ?_)
    · have : s = 8 := by omega
      subst this
      exact ev_vret (pc := 81) dX9_putBack_81 rfl (hK Q1 v1 h1 e1 e2)
    · omega
  | k + 1, s, Q1, v1, h1, e, e1, e2 => by
    obtain ⟨h, hF⟩ := e1
    obtain ⟨o1, o2, o3, o4, o5⟩ := e2
    refine ev_iload_n (pc := 10) dX9_putBack_10 rfl ?_
    refine ev_bipush (pc := 11) (v := nI 8) dX9_putBack_11 (by decide) ?_
    refine ev_icmp_geN (pc := 13) (tgt := 81) dX9_putBack_13 (by decide) (by omega) (by omega) (fun c1 => ?_) (fun c1 => ?_)
    · omega
    · refine ev_aload_n (pc := 16) dX9_putBack_16 rfl ?_
      refine ev_getf (pc := 17) dX9_putBack_17 f_X9_16 (ms_M h) rfl ?_
      refine ev_iload_n (pc := 20) dX9_putBack_20 rfl ?_
      refine ev_aload_n (pc := 21) dX9_putBack_21 rfl ?_
      refine ev_getf (pc := 22) dX9_putBack_22 f_X9_25 (ms_M h) rfl ?_
      refine ev_iload_n (pc := 25) dX9_putBack_25 rfl ?_
      refine ev_iaN (pc := 26) dX9_putBack_26 (ms_Q h 3 (by decide)) (by omega) (by decide) ?_
      rw [show Q1 3 = Q 3 from o1 0 (by decide)]
      refine ev_iast (pc := 27) dX9_putBack_27 (ms_Q h 0 (by decide)) (vp_in_nI (show s < 8 by omega) (by decide)) ?_
      obtain ⟨h2, hF2⟩ := ms_uQ (k := 0) (s := s) (x := Q 3 s) h (by decide) (by omega)
      refine ev_th (h2 := ev_up h1 (A (2 + 0)) (.inl (.int, 8, .inl (upd (fun j => nI (Q1 0 j)) (nI s).toNatClampNeg (nI (Q 3 s)))))) rfl ?_
      generalize ev_up h1 (A (2 + 0)) (.inl (.int, 8, .inl (upd (fun j => nI (Q1 0 j)) (nI s).toNatClampNeg (nI (Q 3 s))))) = H2 at *
      have a1 : p_up Q1 0 s (Q 3 s) 0 = va_up (Q1 0) s (Q 3 s) := p_ups
      have a2 : ∀ a, a ≠ 0 → p_up Q1 0 s (Q 3 s) a = Q1 a := fun a ha => p_upn ha
      generalize p_up Q1 0 s (Q 3 s) = Q2 at *
      refine ev_aload_n (pc := 28) dX9_putBack_28 rfl ?_
      refine ev_getf (pc := 29) dX9_putBack_29 f_X9_19 (ms_M h2) rfl ?_
      refine ev_iload_n (pc := 32) dX9_putBack_32 rfl ?_
      refine ev_aload_n (pc := 33) dX9_putBack_33 rfl ?_
      refine ev_getf (pc := 34) dX9_putBack_34 f_X9_28 (ms_M h2) rfl ?_
      refine ev_iload_n (pc := 37) dX9_putBack_37 rfl ?_
      refine ev_iaN (pc := 38) dX9_putBack_38 (ms_Q h2 4 (by decide)) (by omega) (by decide) ?_
      rw [a2 4 (by decide), show Q1 4 = Q 4 from o1 1 (by decide)]
      refine ev_iast (pc := 39) dX9_putBack_39 (ms_Q h2 1 (by decide)) (vp_in_nI (show s < 8 by omega) (by decide)) ?_
      obtain ⟨h3, hF3⟩ := ms_uQ (k := 1) (s := s) (x := Q 4 s) h2 (by decide) (by omega)
      refine ev_th (h2 := ev_up H2 (A (2 + 1)) (.inl (.int, 8, .inl (upd (fun j => nI (Q2 1 j)) (nI s).toNatClampNeg (nI (Q 4 s)))))) rfl ?_
      generalize ev_up H2 (A (2 + 1)) (.inl (.int, 8, .inl (upd (fun j => nI (Q2 1 j)) (nI s).toNatClampNeg (nI (Q 4 s))))) = H3 at *
      have b1 : p_up Q2 1 s (Q 4 s) 1 = va_up (Q2 1) s (Q 4 s) := p_ups
      have b2 : ∀ a, a ≠ 1 → p_up Q2 1 s (Q 4 s) a = Q2 a := fun a ha => p_upn ha
      generalize p_up Q2 1 s (Q 4 s) = Q3 at *
      refine ev_aload_n (pc := 40) dX9_putBack_40 rfl ?_
      refine ev_getf (pc := 41) dX9_putBack_41 f_X9_22 (ms_M h3) rfl ?_
      refine ev_iload_n (pc := 44) dX9_putBack_44 rfl ?_
      refine ev_aload_n (pc := 45) dX9_putBack_45 rfl ?_
      refine ev_getf (pc := 46) dX9_putBack_46 f_X9_31 (ms_M h3) rfl ?_
      refine ev_iload_n (pc := 49) dX9_putBack_49 rfl ?_
      refine ev_iaN (pc := 50) dX9_putBack_50 (ms_Q h3 5 (by decide)) (by omega) (by decide) ?_
      rw [b2 5 (by decide), a2 5 (by decide), show Q1 5 = Q 5 from o1 2 (by decide)]
      refine ev_iast (pc := 51) dX9_putBack_51 (ms_Q h3 2 (by decide)) (vp_in_nI (show s < 8 by omega) (by decide)) ?_
      obtain ⟨h4, hF4⟩ := ms_uQ (k := 2) (s := s) (x := Q 5 s) h3 (by decide) (by omega)
      refine ev_th (h2 := ev_up H3 (A (2 + 2)) (.inl (.int, 8, .inl (upd (fun j => nI (Q3 2 j)) (nI s).toNatClampNeg (nI (Q 5 s)))))) rfl ?_
      generalize ev_up H3 (A (2 + 2)) (.inl (.int, 8, .inl (upd (fun j => nI (Q3 2 j)) (nI s).toNatClampNeg (nI (Q 5 s))))) = H4 at *
      have d1 : p_up Q3 2 s (Q 5 s) 2 = va_up (Q3 2) s (Q 5 s) := p_ups
      have d2 : ∀ a, a ≠ 2 → p_up Q3 2 s (Q 5 s) a = Q3 a := fun a ha => p_upn ha
      generalize p_up Q3 2 s (Q 5 s) = Q4 at *
      refine ev_aload_n (pc := 52) dX9_putBack_52 rfl ?_
      refine ev_iconst (pc := 53) (v := nI 0) dX9_putBack_53 (by decide) ?_
      refine ev_iload_n (pc := 54) dX9_putBack_54 rfl ?_
      refine ev_iaddN (pc := 55) dX9_putBack_55 ?_
      refine ev_bipush (pc := 56) (v := nI 16) dX9_putBack_56 (by decide) ?_
      refine ev_iload_n (pc := 58) dX9_putBack_58 rfl ?_
      refine ev_iaddN (pc := 59) dX9_putBack_59 ?_
      refine ev_callV (pc := 60) (As := [.int (nI (0 + s)), .int (nI (16 + s))]) dX9_putBack_60 cv_X9_101 rfl rfl (ms_M h4) rfl ⟨by show 19 + 4 ≤ w; omega, show ev_Ca _ _ (w - 23) _ _ _ _ _ _ from m_copy (r := 0 + s) (o := 16 + s) (by omega) h4 (by omega) (by omega) (by omega)⟩ rfl rfl (fun r h1 hp => ?_)
      obtain ⟨rfl, h5, hF5⟩ := hp
      rw [o3 s (by omega)] at h5
      refine ev_aload_n (pc := 63) dX9_putBack_63 rfl ?_
      refine ev_bipush (pc := 64) (v := nI 8) dX9_putBack_64 (by decide) ?_
      refine ev_iload_n (pc := 66) dX9_putBack_66 rfl ?_
      refine ev_iaddN (pc := 67) dX9_putBack_67 ?_
      refine ev_bipush (pc := 68) (v := nI 24) dX9_putBack_68 (by decide) ?_
      refine ev_iload_n (pc := 70) dX9_putBack_70 rfl ?_
      refine ev_iaddN (pc := 71) dX9_putBack_71 ?_
      refine ev_callV (pc := 72) (As := [.int (nI (8 + s)), .int (nI (24 + s))]) dX9_putBack_72 cv_X9_101 rfl rfl (ms_M h5) rfl ⟨by show 19 + 4 ≤ w; omega, show ev_Ca _ _ (w - 23) _ _ _ _ _ _ from m_copy (r := 8 + s) (o := 24 + s) (by omega) h5 (by omega) (by omega) (by omega)⟩ rfl rfl (fun r h1 hp => ?_)
      obtain ⟨rfl, h6, hF6⟩ := hp
      rw [va_up_ne _ _ (by omega), show 24 + s = 16 + (8 + s) by omega, o3 (8 + s) (by omega)] at h6
      refine ev_iincN (pc := 75) dX9_putBack_75 rfl rfl ?_
      refine ev_goto (pc := 78) (tgt := 10) dX9_putBack_78 (by decide) ?_
      refine ev_vs [(0, .ref (A 17)), (1, .int (nI (s + 1)))] ⟨rfl, rfl, trivial⟩ ?_
      refine l_putBack hd hw hP hK k (s + 1) Q4 _ _ (by omega) ⟨h6, ((((hF.tr hF2).tr hF3).tr hF4).tr hF5).tr hF6⟩ ⟨fun q hq => ?_, fun q hq j hj => ?_, fun j hj => ?_, fun j hj => ?_, fun i hi => ?_⟩
      · rw [d2 _ (by omega), b2 _ (by omega), a2 _ (by omega)]; exact o1 q hq
      · rcases (show q = 0 ∨ q = 1 ∨ q = 2 by omega) with rfl | rfl | rfl
        · show Q4 0 j = Q 3 j
          rw [d2 0 (by decide), b2 0 (by decide), a1]
          by_cases x : j = s
          · rw [x, va_up_self]
          · rw [va_up_ne _ _ x]; exact o2 0 (by decide) j (by omega)
        · show Q4 1 j = Q 4 j
          rw [d2 1 (by decide), b1, a2 1 (by decide)]
          by_cases x : j = s
          · rw [x, va_up_self]
          · rw [va_up_ne _ _ x]; exact o2 1 (by decide) j (by omega)
        · show Q4 2 j = Q 5 j
          rw [d1, b2 2 (by decide), a2 2 (by decide)]
          by_cases x : j = s
          · rw [x, va_up_self]
          · rw [va_up_ne _ _ x]; exact o2 2 (by decide) j (by omega)
      · rw [va_up_ne _ _ (by omega), va_up_ne _ _ (by omega)]; exact o3 j hj
      · by_cases x : j = s
        · subst x
          rw [va_up_ne _ _ (by omega), va_up_self, show 0 + 8 + j = 8 + j by omega, va_up_self, show 16 + 8 + j = 16 + (8 + j) by omega]
          exact ⟨rfl, congrArg v (by omega)⟩
        · rw [va_up_ne _ _ (by omega), va_up_ne _ _ (by omega), va_up_ne _ _ (by omega), va_up_ne _ _ (by omega)]; exact o4 j (by omega)
      · rw [va_up_ne _ _ (by omega), va_up_ne _ _ (by omega)]; exact o5 i hi
theorem k_remember (hd : 2 ≤ dd) (hw : 40 ≤ w) (h : MS H A I v Q R lv f) (hP : ∀ k, k < 3 → ∀ j, j < 8 → Q (0 + k) j < 2 ^ 31) : ev_Ca G dd w m_X9_remember [.ref (A 17)] H 0 0 (ev_ok (fun r h1 => r = none ∧ ∃ Q1 v1, mpost H A (va_up I 2 (I 0)) v1 Q1 R lv f h1 ∧ cpo 3 0 16 0 8 Q Q1 v v1)) := by
  obtain ⟨dd, rfl⟩ : ∃ e, dd = e + 1 := ⟨dd - 1, by omega⟩
  refine ⟨by decide +kernel, rfl, ?_⟩
  refine ev_aload_n (pc := 0) dX9_remember_0 rfl ?_
  refine ev_aload_n (pc := 1) dX9_remember_1 rfl ?_
  refine ev_getf (pc := 2) dX9_remember_2 f_X9_70 (ms_M h) rfl ?_
  refine ev_putf (pc := 5) dX9_remember_5 p_X9_170 (ms_M h) rfl rfl rfl ?_
  obtain ⟨h2, hF⟩ := ms_uI (k := 2) (x := I 0) (n := 10) h rfl
  refine ev_th (h2 := ev_up H (A 17) (.inr (7, (ml A I).set 10 (.int (nI (I 0)))))) rfl ?_
  generalize ev_up H (A 17) (.inr (7, (ml A I).set 10 (.int (nI (I 0))))) = H2 at *
  refine ev_iconst (pc := 8) (v := nI 0) dX9_remember_8 (by decide) ?_
  refine ev_istore_n (pc := 9) dX9_remember_9 rfl ?_
  refine ev_vs [(0, .ref (A 17)), (1, .int (nI 0))] ⟨rfl, rfl, trivial⟩ ?_
  exact l_remember (H := H) (by omega) hw hP (fun Q1 v1 h1 g1 g2 => ⟨rfl, Q1, v1, g1, g2⟩) 8 0 Q v H2 (by omega) ⟨h2, hF⟩ ⟨fun _ _ => rfl, fun _ _ j hj => absurd hj (Nat.not_lt_zero j), fun _ _ => rfl, fun j hj => absurd hj (Nat.not_lt_zero j), fun _ _ => rfl⟩
theorem k_putBack (hd : 2 ≤ dd) (hw : 40 ≤ w) (h : MS H A I v Q R lv f) (hP : ∀ k, k < 3 → ∀ j, j < 8 → Q (3 + k) j < 2 ^ 31) : ev_Ca G dd w m_X9_putBack [.ref (A 17)] H 0 0 (ev_ok (fun r h1 => r = none ∧ ∃ Q1 v1, mpost H A (va_up I 0 (I 2)) v1 Q1 R lv f h1 ∧ cpo 0 3 0 16 8 Q Q1 v v1)) := by
  obtain ⟨dd, rfl⟩ : ∃ e, dd = e + 1 := ⟨dd - 1, by omega⟩
  refine ⟨by decide +kernel, rfl, ?_⟩
  refine ev_aload_n (pc := 0) dX9_putBack_0 rfl ?_
  refine ev_aload_n (pc := 1) dX9_putBack_1 rfl ?_
  refine ev_getf (pc := 2) dX9_putBack_2 f_X9_170 (ms_M h) rfl ?_
  refine ev_putf (pc := 5) dX9_putBack_5 p_X9_70 (ms_M h) rfl rfl rfl ?_
  obtain ⟨h2, hF⟩ := ms_uI (k := 0) (x := I 2) (n := 5) h rfl
  refine ev_th (h2 := ev_up H (A 17) (.inr (7, (ml A I).set 5 (.int (nI (I 2)))))) rfl ?_
  generalize ev_up H (A 17) (.inr (7, (ml A I).set 5 (.int (nI (I 2))))) = H2 at *
  refine ev_iconst (pc := 8) (v := nI 0) dX9_putBack_8 (by decide) ?_
  refine ev_istore_n (pc := 9) dX9_putBack_9 rfl ?_
  refine ev_vs [(0, .ref (A 17)), (1, .int (nI 0))] ⟨rfl, rfl, trivial⟩ ?_
  exact l_putBack (H := H) (by omega) hw hP (fun Q1 v1 h1 g1 g2 => ⟨rfl, Q1, v1, g1, g2⟩) 8 0 Q v H2 (by omega) ⟨h2, hF⟩ ⟨fun _ _ => rfl, fun _ _ j hj => absurd hj (Nat.not_lt_zero j), fun _ _ => rfl, fun j hj => absurd hj (Nat.not_lt_zero j), fun _ _ => rfl⟩
/-- behind a change -/
def rch (H : ev_H) (A I v : Nat → Nat) (R : Nat → Nat → Int32) (lv f : Nat → Nat) (q : Nat × (Nat → Nat → Nat) × (Nat → Nat) × (Nat → Nat) × Nat) (r : Option Value) (h1 : ev_H) : Prop := r = some (.int (nI q.1)) ∧ ∃ I2 v2, mpost H A I2 v2 q.2.1 R lv f h1 ∧ I2 0 = q.2.2.2.2 ∧ (∀ k, k ≠ 0 → I2 k = I k) ∧ (∀ j, j < 8 → v2 j = q.2.2.1 j ∧ v2 (8 + j) = q.2.2.2.1 j) ∧ ∀ i, 16 ≤ i → i < 40 → v2 i = v i
theorem k_rchange {kd : Nat} {a b c : Int32} (hd : 7 ≤ dd) (hw : 230 ≤ w) (h : MS H A I v Q R lv f) (hP : P_ok Q) (hm : I 0 < 256) (hs : s < 8) (hk : kd < 9) : ev_Ca G dd w m_X9_change [.ref (A 17), .int (nI kd), .int (nI s), .int a, .int b, .int c] H 0 0 (ev_ok (rch H A I v R lv f (ch kd s a b c Q v (fun s => v (8 + s)) (I 0)))) := by
  obtain ⟨dd, rfl⟩ : ∃ e, dd = e + 1 := ⟨dd - 1, by omega⟩
  refine ⟨by decide +kernel, rfl, ?_⟩
  have bl : I 0 / 2 ^ s % 2 < 2 := Nat.mod_lt _ (by decide)
  have p8 := pc8_b (I 0) hm
  refine ev_iload_n (pc := 0) dX9_change_0 rfl ?_
  rcases (show kd = 0 ∨ kd = 1 ∨ kd = 2 ∨ kd = 3 ∨ kd = 4 ∨ kd = 5 ∨ kd = 6 ∨ kd = 7 ∨ kd = 8 by omega) with rfl | rfl | rfl | rfl | rfl | rfl | rfl | rfl | rfl
  · refine ev_tableIn (pc := 1) (tgt := 48) dX9_change_1 (by decide) (by decide) rfl (by decide) ?_
    refine ev_aload_n (pc := 48) dX9_change_48 rfl ?_
    refine ev_iload_n (pc := 49) dX9_change_49 rfl ?_
    refine ev_iload_n (pc := 50) dX9_change_50 rfl ?_
    refine ev_iload (pc := 51) dX9_change_51 rfl ?_
    refine ev_callV (pc := 53) (As := [.int (nI s), .int a, .int b]) dX9_change_53 cv_X9_190 rfl rfl (ms_M h) rfl ⟨by show 19 + 4 ≤ w; omega, show ev_Ca _ _ (w - 23) _ _ _ _ _ _ from k_rsplit (by omega) (by omega) h hP hs⟩ rfl rfl (fun r h1 hp => ?_)
    obtain ⟨rfl, hp⟩ := hp
    exact ev_iret (pc := 56) dX9_change_56 rfl rfl ⟨rfl, I, v, hp, rfl, fun _ _ => rfl, fun _ _ => ⟨rfl, rfl⟩, fun _ _ _ => rfl⟩
  · refine ev_tableIn (pc := 1) (tgt := 57) dX9_change_1 (by decide) (by decide) rfl (by decide) ?_
    refine ev_aload_n (pc := 57) dX9_change_57 rfl ?_
    refine ev_iload_n (pc := 58) dX9_change_58 rfl ?_
    refine ev_iload_n (pc := 59) dX9_change_59 rfl ?_
    refine ev_iload (pc := 60) dX9_change_60 rfl ?_
    refine ev_iload (pc := 62) dX9_change_62 rfl ?_
    refine ev_callV (pc := 64) (As := [.int (nI s), .int a, .int b, .int c]) dX9_change_64 cv_X9_194 rfl rfl (ms_M h) rfl ⟨by show 19 + 5 ≤ w; omega, show ev_Ca _ _ (w - 24) _ _ _ _ _ _ from k_rrights (by omega) (by omega) h hP hs⟩ rfl rfl (fun r h1 hp => ?_)
    obtain ⟨rfl, hp⟩ := hp
    exact ev_iret (pc := 67) dX9_change_67 rfl rfl ⟨rfl, I, v, hp, rfl, fun _ _ => rfl, fun _ _ => ⟨rfl, rfl⟩, fun _ _ _ => rfl⟩
  · refine ev_tableIn (pc := 1) (tgt := 68) dX9_change_1 (by decide) (by decide) rfl (by decide) ?_
    refine ev_aload_n (pc := 68) dX9_change_68 rfl ?_
    refine ev_iload_n (pc := 69) dX9_change_69 rfl ?_
    refine ev_iload_n (pc := 70) dX9_change_70 rfl ?_
    refine ev_callV (pc := 71) (As := [.int (nI s), .int a]) dX9_change_71 cv_X9_198 rfl rfl (ms_M h) rfl ⟨by show 19 + 3 ≤ w; omega, show ev_Ca _ _ (w - 22) _ _ _ _ _ _ from k_rdividend (by omega) h hP hs⟩ rfl rfl (fun r h1 hp => ?_)
    obtain ⟨rfl, hp⟩ := hp
    exact ev_iret (pc := 74) dX9_change_74 rfl rfl ⟨rfl, I, v, hp, rfl, fun _ _ => rfl, fun _ _ => ⟨rfl, rfl⟩, fun _ _ _ => rfl⟩
  · refine ev_tableIn (pc := 1) (tgt := 68) dX9_change_1 (by decide) (by decide) rfl (by decide) ?_
    refine ev_aload_n (pc := 68) dX9_change_68 rfl ?_
    refine ev_iload_n (pc := 69) dX9_change_69 rfl ?_
    refine ev_iload_n (pc := 70) dX9_change_70 rfl ?_
    refine ev_callV (pc := 71) (As := [.int (nI s), .int a]) dX9_change_71 cv_X9_198 rfl rfl (ms_M h) rfl ⟨by show 19 + 3 ≤ w; omega, show ev_Ca _ _ (w - 22) _ _ _ _ _ _ from k_rdividend (by omega) h hP hs⟩ rfl rfl (fun r h1 hp => ?_)
    obtain ⟨rfl, hp⟩ := hp
    exact ev_iret (pc := 74) dX9_change_74 rfl rfl ⟨rfl, I, v, hp, rfl, fun _ _ => rfl, fun _ _ => ⟨rfl, rfl⟩, fun _ _ _ => rfl⟩
  · refine ev_tableIn (pc := 1) (tgt := 75) dX9_change_1 (by decide) (by decide) rfl (by decide) ?_
    have no : ∀ {V}, ¬ (I 0 / 2 ^ s % 2 = 1 ∧ pc8 (I 0) ≠ 1) → ev_J G (ev_cc G dd w) w m_X9_change (ev_ok (rch H A I v R lv f (ch 4 s a b c Q v (fun s => v (8 + s)) (I 0)))) (95, V, [], H, 0, 0) := by
      intro V nk
      have e : sp_leave (I 0) s = (2, I 0) := if_neg nk
      show ev_J G (ev_cc G dd w) w m_X9_change (ev_ok (rch H A I v R lv f ((sp_leave (I 0) s).1, Q, v, (fun s => v (8 + s)), (sp_leave (I 0) s).2))) (95, V, [], H, 0, 0)
      rw [e]
      refine ev_iconst (pc := 95) (v := nI 2) dX9_change_95 (by decide) ?_
      exact ev_iret (pc := 96) dX9_change_96 rfl rfl ⟨rfl, I, v, ⟨h, MF.rf⟩, rfl, fun _ _ => rfl, fun _ _ => ⟨rfl, rfl⟩, fun _ _ _ => rfl⟩
    refine ev_aload_n (pc := 75) dX9_change_75 rfl ?_
    refine ev_iload_n (pc := 76) dX9_change_76 rfl ?_
    refine ev_callV (pc := 77) (As := [.int (nI s)]) dX9_change_77 cv_X9_124 rfl rfl (ms_M h) rfl ⟨by show 19 + 2 ≤ w; omega, show ev_Ca _ _ (w - 21) _ _ _ _ _ _ from k_isMem (by omega) h hm hs⟩ rfl rfl (fun r h1 hp => ?_)
    obtain ⟨rfl, hH⟩ := hp
    rw [hH]
    clear hH
    refine ev_if_eqN (pc := 80) (tgt := 95) dX9_change_80 (by decide) (by omega) (fun c1 => ?_) (fun c1 => ?_)
    · exact no (fun q => by omega)
    · refine ev_aload_n (pc := 83) dX9_change_83 rfl ?_
      refine ev_aload_n (pc := 84) dX9_change_84 rfl ?_
      refine ev_getf (pc := 85) dX9_change_85 f_X9_70 (ms_M h) rfl ?_
      refine ev_callV (pc := 88) (As := [.int (nI (I 0))]) dX9_change_88 cv_X9_185 rfl rfl (ms_M h) rfl ⟨by show 19 + 4 ≤ w; omega, show ev_Ca _ _ (w - 23) _ _ _ _ _ _ from k_rcount (by omega) hm⟩ rfl rfl (fun r h1 hp => ?_)
      obtain ⟨rfl, hH⟩ := hp
      rw [hH]
      clear hH
      refine ev_iconst (pc := 91) (v := nI 1) dX9_change_91 (by decide) ?_
      refine ev_icmp_neN (pc := 92) (tgt := 97) dX9_change_92 (by decide) (by omega) (by omega) (fun c2 => ?_) (fun c2 => ?_)
      · have e : sp_leave (I 0) s = (0, I 0 - 2 ^ s) := if_pos ⟨by omega, c2⟩
        have ge : 2 ^ s ≤ I 0 := by
          rcases Nat.lt_or_ge (I 0) (2 ^ s) with q | q
          · rw [Nat.div_eq_of_lt q] at c1; omega
          · exact q
        show ev_J G (ev_cc G dd w) w m_X9_change (ev_ok (rch H A I v R lv f ((sp_leave (I 0) s).1, Q, v, (fun s => v (8 + s)), (sp_leave (I 0) s).2))) _
        rw [e]
        refine ev_aload_n (pc := 97) dX9_change_97 rfl ?_
        refine ev_dup (pc := 98) dX9_change_98 rfl ?_
        refine ev_getf (pc := 99) dX9_change_99 f_X9_70 (ms_M h) rfl ?_
        refine ev_iconst (pc := 102) (v := nI 1) dX9_change_102 (by decide) ?_
        refine ev_iload_n (pc := 103) dX9_change_103 rfl ?_
        refine ev_ishl (pc := 104) dX9_change_104 ?_
        refine ev_ti (sh1 s hs) ?_
        refine ev_isub (pc := 105) dX9_change_105 (ev_ti (show nI (I 0) - nI (2 ^ s) = nI (I 0 - 2 ^ s) from pk_sub ge) ?_)
        refine ev_putf (pc := 106) dX9_change_106 p_X9_70 (ms_M h) rfl rfl rfl ?_
        obtain ⟨h2, hF⟩ := ms_uI (k := 0) (x := I 0 - 2 ^ s) (n := 5) h rfl
        refine ev_iconst (pc := 109) (v := nI 0) dX9_change_109 (by decide) ?_
        exact ev_iret (pc := 110) dX9_change_110 rfl rfl ⟨rfl, _, v, ⟨h2, hF⟩, rfl, fun k hk => va_up_ne _ _ hk, fun _ _ => ⟨rfl, rfl⟩, fun _ _ _ => rfl⟩
      · exact no (fun q => q.2 c2)
  · refine ev_tableIn (pc := 1) (tgt := 111) dX9_change_1 (by decide) (by decide) rfl (by decide) ?_
    refine ev_aload_n (pc := 111) dX9_change_111 rfl ?_
    refine ev_iload_n (pc := 112) dX9_change_112 rfl ?_
    refine ev_callV (pc := 113) (As := [.int (nI s)]) dX9_change_113 cv_X9_124 rfl rfl (ms_M h) rfl ⟨by show 19 + 2 ≤ w; omega, show ev_Ca _ _ (w - 21) _ _ _ _ _ _ from k_isMem (by omega) h hm hs⟩ rfl rfl (fun r h1 hp => ?_)
    obtain ⟨rfl, hH⟩ := hp
    rw [hH]
    clear hH
    refine ev_if_eqN (pc := 116) (tgt := 121) dX9_change_116 (by decide) (by omega) (fun c1 => ?_) (fun c1 => ?_)
    · have nb : ¬ I 0 / 2 ^ s % 2 = 1 := by omega
      have e : sp_join (I 0) s = (0, I 0 + 2 ^ s) := if_neg nb
      show ev_J G (ev_cc G dd w) w m_X9_change (ev_ok (rch H A I v R lv f ((sp_join (I 0) s).1, Q, (if I 0 / 2 ^ s % 2 = 1 then v else va_up v s 1), (if I 0 / 2 ^ s % 2 = 1 then (fun s => v (8 + s)) else va_up (fun s => v (8 + s)) s 1), (sp_join (I 0) s).2))) _
      rw [e, if_neg nb, if_neg nb]
      refine ev_aload_n (pc := 121) dX9_change_121 rfl ?_
      refine ev_dup (pc := 122) dX9_change_122 rfl ?_
      refine ev_getf (pc := 123) dX9_change_123 f_X9_70 (ms_M h) rfl ?_
      refine ev_iconst (pc := 126) (v := nI 1) dX9_change_126 (by decide) ?_
      refine ev_iload_n (pc := 127) dX9_change_127 rfl ?_
      refine ev_ishl (pc := 128) dX9_change_128 ?_
      refine ev_ti (sh1 s hs) ?_
      refine ev_iadd (pc := 129) dX9_change_129 (ev_ti (show nI (I 0) + nI (2 ^ s) = nI (I 0 + 2 ^ s) from nI_add _ _) ?_)
      refine ev_putf (pc := 130) dX9_change_130 p_X9_70 (ms_M h) rfl rfl rfl ?_
      obtain ⟨h2, hF⟩ := ms_uI (k := 0) (x := I 0 + 2 ^ s) (n := 5) h rfl
      refine ev_th (h2 := ev_up H (A 17) (.inr (7, (ml A I).set 5 (.int (nI (I 0 + 2 ^ s)))))) rfl ?_
      generalize ev_up H (A 17) (.inr (7, (ml A I).set 5 (.int (nI (I 0 + 2 ^ s))))) = H2 at *
      refine ev_aload_n (pc := 133) dX9_change_133 rfl ?_
      refine ev_iconst (pc := 134) (v := nI 0) dX9_change_134 (by decide) ?_
      refine ev_iload_n (pc := 135) dX9_change_135 rfl ?_
      refine ev_iaddN (pc := 136) dX9_change_136 ?_
      refine ev_lconst (pc := 137) (v := lN 1) dX9_change_137 (by decide) ?_
      refine ev_callV (pc := 138) (As := [.int (nI (0 + s)), .long (lN 1)]) dX9_change_138 cv_X9_62 rfl rfl (ms_M h2) rfl ⟨by show 19 + 6 ≤ w; omega, show ev_Ca _ _ (w - 25) _ _ _ _ _ _ from m_set (r := 0 + s) (by omega) h2 (by omega) (by decide)⟩ rfl rfl (fun r h1 hp => ?_)
      obtain ⟨rfl, h3, hF3⟩ := hp
      rw [Nat.zero_add] at h3
      refine ev_aload_n (pc := 141) dX9_change_141 rfl ?_
      refine ev_bipush (pc := 142) (v := nI 8) dX9_change_142 (by decide) ?_
      refine ev_iload_n (pc := 144) dX9_change_144 rfl ?_
      refine ev_iaddN (pc := 145) dX9_change_145 ?_
      refine ev_lconst (pc := 146) (v := lN 1) dX9_change_146 (by decide) ?_
      refine ev_callV (pc := 147) (As := [.int (nI (8 + s)), .long (lN 1)]) dX9_change_147 cv_X9_62 rfl rfl (ms_M h3) rfl ⟨by show 19 + 6 ≤ w; omega, show ev_Ca _ _ (w - 25) _ _ _ _ _ _ from m_set (r := 8 + s) (by omega) h3 (by omega) (by decide)⟩ rfl rfl (fun r h1 hp => ?_)
      obtain ⟨rfl, h4, hF4⟩ := hp
      refine ev_iconst (pc := 150) (v := nI 0) dX9_change_150 (by decide) ?_
      refine ev_iret (pc := 151) dX9_change_151 rfl rfl ⟨rfl, _, _, ⟨h4, (hF.tr hF3).tr hF4⟩, rfl, fun k hk => va_up_ne _ _ hk, fun j hj => ?_, fun i i1 i2 => ?_⟩
      · show va_up (va_up v s 1) (8 + s) 1 j = va_up v s 1 j ∧ va_up (va_up v s 1) (8 + s) 1 (8 + j) = va_up (fun s => v (8 + s)) s 1 j
        refine ⟨va_up_ne _ _ (by omega), ?_⟩
        by_cases q : j = s
        · rw [q, va_up_self, va_up_self]
        · rw [va_up_ne _ _ (by omega), va_up_ne _ _ (by omega), va_up_ne _ _ q]
      · rw [va_up_ne _ _ (by omega), va_up_ne _ _ (by omega)]
    · have nb : I 0 / 2 ^ s % 2 = 1 := by omega
      have e : sp_join (I 0) s = (2, I 0) := if_pos nb
      show ev_J G (ev_cc G dd w) w m_X9_change (ev_ok (rch H A I v R lv f ((sp_join (I 0) s).1, Q, (if I 0 / 2 ^ s % 2 = 1 then v else va_up v s 1), (if I 0 / 2 ^ s % 2 = 1 then (fun s => v (8 + s)) else va_up (fun s => v (8 + s)) s 1), (sp_join (I 0) s).2))) _
      rw [e, if_pos nb, if_pos nb]
      refine ev_iconst (pc := 119) (v := nI 2) dX9_change_119 (by decide) ?_
      exact ev_iret (pc := 120) dX9_change_120 rfl rfl ⟨rfl, I, v, ⟨h, MF.rf⟩, rfl, fun _ _ => rfl, fun _ _ => ⟨rfl, rfl⟩, fun _ _ _ => rfl⟩
  · refine ev_tableIn (pc := 1) (tgt := 152) dX9_change_1 (by decide) (by decide) rfl (by decide) ?_
    show ev_J G (ev_cc G dd w) w m_X9_change (ev_ok (rch H A I v R lv f ((sp_rep Q s 1 a).1, (sp_rep Q s 1 a).2, v, (fun s => v (8 + s)), I 0))) _
    refine ev_iconst (pc := 152) (v := nI 1) dX9_change_152 (by decide) ?_
    refine ev_iload_n (pc := 153) dX9_change_153 rfl ?_
    refine ev_callS (pc := 154) (As := [.int (nI 1), .int a]) dX9_change_154 cs_X9_146 rfl rfl ⟨by show 19 + 2 ≤ w; omega, show ev_Ca _ _ (w - 21) _ _ _ _ _ _ from k_rfits (k := 1) (by omega) (by omega) (by omega)⟩ rfl rfl (fun r h1 hp => ?_)
    obtain ⟨rfl, hH⟩ := hp
    rw [hH]
    clear hH
    by_cases e2 : ri a 1 (mo 1)
    · rw [rb_1 e2]
      refine ev_if_neN (pc := 157) (tgt := 162) dX9_change_157 (by decide) (by decide) (fun _ => ?_) (fun q => absurd q (by decide))
      have e : sp_rep Q s 1 a = (0, p_up Q 1 s a.toInt.toNat) := if_pos e2
      rw [e]
      obtain ⟨n, rfl, n1, n2⟩ := ri_nI (lo := 1) (hi := 9999999) e2 (by decide)
      rw [nI_tn (by omega)]
      refine ev_aload_n (pc := 162) dX9_change_162 rfl ?_
      refine ev_getf (pc := 163) dX9_change_163 f_X9_19 (ms_M h) rfl ?_
      refine ev_iload_n (pc := 166) dX9_change_166 rfl ?_
      refine ev_iload_n (pc := 167) dX9_change_167 rfl ?_
      refine ev_iast (pc := 168) dX9_change_168 (ms_Q h 1 (by decide)) (vp_in_nI hs (by decide)) ?_
      obtain ⟨h2, hF2⟩ := ms_uQ (k := 1) (s := s) (x := n) h (by decide) hs
      refine ev_iconst (pc := 169) (v := nI 0) dX9_change_169 (by decide) ?_
      exact ev_iret (pc := 170) dX9_change_170 rfl rfl ⟨rfl, I, v, ⟨h2, hF2⟩, rfl, fun _ _ => rfl, fun _ _ => ⟨rfl, rfl⟩, fun _ _ _ => rfl⟩
    · rw [rb_0 e2]
      refine ev_if_neN (pc := 157) (tgt := 162) dX9_change_157 (by decide) (by decide) (fun q => absurd q (by decide)) (fun _ => ?_)
      have e : sp_rep Q s 1 a = (1, Q) := if_neg e2
      rw [e]
      refine ev_iconst (pc := 160) (v := nI 1) dX9_change_160 (by decide) ?_
      exact ev_iret (pc := 161) dX9_change_161 rfl rfl ⟨rfl, I, v, ⟨h, MF.rf⟩, rfl, fun _ _ => rfl, fun _ _ => ⟨rfl, rfl⟩, fun _ _ _ => rfl⟩
  · refine ev_tableIn (pc := 1) (tgt := 171) dX9_change_1 (by decide) (by decide) rfl (by decide) ?_
    show ev_J G (ev_cc G dd w) w m_X9_change (ev_ok (rch H A I v R lv f ((sp_rep Q s 2 a).1, (sp_rep Q s 2 a).2, v, (fun s => v (8 + s)), I 0))) _
    refine ev_iconst (pc := 171) (v := nI 2) dX9_change_171 (by decide) ?_
    refine ev_iload_n (pc := 172) dX9_change_172 rfl ?_
    refine ev_callS (pc := 173) (As := [.int (nI 2), .int a]) dX9_change_173 cs_X9_146 rfl rfl ⟨by show 19 + 2 ≤ w; omega, show ev_Ca _ _ (w - 21) _ _ _ _ _ _ from k_rfits (k := 2) (by omega) (by omega) (by omega)⟩ rfl rfl (fun r h1 hp => ?_)
    obtain ⟨rfl, hH⟩ := hp
    rw [hH]
    clear hH
    by_cases e2 : ri a 1 (mo 2)
    · rw [rb_1 e2]
      refine ev_if_neN (pc := 176) (tgt := 181) dX9_change_176 (by decide) (by decide) (fun _ => ?_) (fun q => absurd q (by decide))
      have e : sp_rep Q s 2 a = (0, p_up Q 2 s a.toInt.toNat) := if_pos e2
      rw [e]
      obtain ⟨n, rfl, n1, n2⟩ := ri_nI (lo := 1) (hi := 100) e2 (by decide)
      rw [nI_tn (by omega)]
      refine ev_aload_n (pc := 181) dX9_change_181 rfl ?_
      refine ev_getf (pc := 182) dX9_change_182 f_X9_22 (ms_M h) rfl ?_
      refine ev_iload_n (pc := 185) dX9_change_185 rfl ?_
      refine ev_iload_n (pc := 186) dX9_change_186 rfl ?_
      refine ev_iast (pc := 187) dX9_change_187 (ms_Q h 2 (by decide)) (vp_in_nI hs (by decide)) ?_
      obtain ⟨h2, hF2⟩ := ms_uQ (k := 2) (s := s) (x := n) h (by decide) hs
      refine ev_iconst (pc := 188) (v := nI 0) dX9_change_188 (by decide) ?_
      exact ev_iret (pc := 189) dX9_change_189 rfl rfl ⟨rfl, I, v, ⟨h2, hF2⟩, rfl, fun _ _ => rfl, fun _ _ => ⟨rfl, rfl⟩, fun _ _ _ => rfl⟩
    · rw [rb_0 e2]
      refine ev_if_neN (pc := 176) (tgt := 181) dX9_change_176 (by decide) (by decide) (fun q => absurd q (by decide)) (fun _ => ?_)
      have e : sp_rep Q s 2 a = (1, Q) := if_neg e2
      rw [e]
      refine ev_iconst (pc := 179) (v := nI 1) dX9_change_179 (by decide) ?_
      exact ev_iret (pc := 180) dX9_change_180 rfl rfl ⟨rfl, I, v, ⟨h, MF.rf⟩, rfl, fun _ _ => rfl, fun _ _ => ⟨rfl, rfl⟩, fun _ _ _ => rfl⟩
  · refine ev_tableOut (pc := 1) (tgt := 190) dX9_change_1 (by decide) (by decide) ?_
    refine ev_aload_n (pc := 190) dX9_change_190 rfl ?_
    refine ev_iload_n (pc := 191) dX9_change_191 rfl ?_
    refine ev_callV (pc := 192) (As := [.int a]) dX9_change_192 cv_X9_201 rfl rfl (ms_M h) rfl ⟨by show 19 + 9 ≤ w; omega, show ev_Ca _ _ (w - 28) _ _ _ _ _ _ from k_rcap (by omega) (by omega) h hP hm⟩ rfl rfl (fun r h1 hp => ?_)
    rcases hp with ⟨cc, rfl, v2, hp, g1, g2⟩ | ⟨cc, rfl, hp⟩
    · have e : ch 8 s a b c Q v (fun s => v (8 + s)) (I 0) = (0, Q, cap_u Q (I 0) a, cap_d Q (I 0) a, I 0) := if_pos cc
      rw [e]
      exact ev_iret (pc := 195) dX9_change_195 rfl rfl ⟨rfl, I, v2, hp, rfl, fun _ _ => rfl, g1, g2⟩
    · have e : ch 8 s a b c Q v (fun s => v (8 + s)) (I 0) = (2, Q, v, (fun s => v (8 + s)), I 0) := if_neg cc
      rw [e]
      exact ev_iret (pc := 195) dX9_change_195 rfl rfl ⟨rfl, I, v, hp, rfl, fun _ _ => rfl, fun _ _ => ⟨rfl, rfl⟩, fun _ _ _ => rfl⟩
end REFK
