/-! THE REFERENCE: its whole state -/
/-- addresses A: 0 limbs, 1 size, 2 to 4 the values, 5 to 7 the old ones, 8 to 14 the rows of events (kind, share, a, b, c, outcome, place), 15 levels, 16 print, 17 the object; numbers I: 0 members, 1 isBased, 2 oldMembers, 3 noted, 4 closed, 5 days, 6 printed, 7 code -/
def mf (A I : Nat → Nat) : List Value := [.ref (A 2), .ref (A 3), .ref (A 4), .int (nI (I 0)), .int (nI (I 1)), .ref (A 5), .ref (A 6), .ref (A 7), .int (nI (I 2)), .int (nI (I 3)), .ref (A 8), .ref (A 9), .ref (A 10), .ref (A 11), .ref (A 12), .int (nI (I 4)), .ref (A 13), .ref (A 14), .int (nI (I 5)), .ref (A 15), .int (nI (I 6)), .ref (A 16), .int (nI (I 7))]
def ml (A I : Nat → Nat) : List Value := .ref (A 0) :: .ref (A 1) :: mf A I
def mcell (A I L s : Nat → Nat) (Q : Nat → Nat → Nat) (R : Nat → Nat → Int32) (lv f : Nat → Nat) (k : Nat) : ev_C :=
  if k = 0 then .inl (.int, 6580, .inl (fun j => nI (L j))) else if k = 1 then .inl (.int, 47, .inl (fun j => nI (s j)))
  else if k < 8 then .inl (.int, 8, .inl (fun j => nI (Q (k - 2) j))) else if k < 15 then .inl (.int, 16, .inl (R (k - 8)))
  else if k = 15 then .inl (.long, 250, .inr (.inl (fun j => lN (lv j)))) else if k = 16 then .inl (.int, 1400, .inl (fun j => nI (f j))) else .inr (7, ml A I)
def MD (A : Nat → Nat) : Prop := ∀ i j, i < 18 → j < 18 → i ≠ j → A i ≠ A j
def MF (A : Nat → Nat) (H h1 : ev_H) : Prop := ∀ a, (∀ k, k < 18 → a ≠ A k) → h1 a = H a
theorem MF.rf {A : Nat → Nat} {H : ev_H} : MF A H H := fun _ _ => rfl
theorem MF.tr {A : Nat → Nat} {H h1 h2 : ev_H} (a : MF A H h1) (b : MF A h1 h2) : MF A H h2 := fun x q => (b x q).trans (a x q)
def MS (H : ev_H) (A I v : Nat → Nat) (Q : Nat → Nat → Nat) (R : Nat → Nat → Int32) (lv f : Nat → Nat) : Prop := MD A ∧ ∃ L s, RV L s v ∧ ∀ k, k < 18 → H (A k) = some (mcell A I L s Q R lv f k)
def r_up (R : Nat → Nat → Int32) (k s : Nat) (x : Int32) : Nat → Nat → Int32 := fun a b => if a = k then (if b = s then x else R a b) else R a b
section REFE
variable {G : ev_G} {w : Nat} {H h1 : ev_H} {A I v : Nat → Nat} {Q : Nat → Nat → Nat} {R : Nat → Nat → Int32} {lv f : Nat → Nat} {k s x dd : Nat}
theorem mc_up {c c2 : Nat → ev_C} {y : ev_C} (hA : MD A) (hk : k < 18) (h : ∀ i, i < 18 → H (A i) = some (c i)) (e1 : c2 k = y) (e2 : ∀ i, i < 18 → i ≠ k → c2 i = c i) : ∀ i, i < 18 → ev_up H (A k) y (A i) = some (c2 i) := by
  intro i hi
  by_cases q : i = k
  · subst q; rw [ev_eqq, e1]
  · exact ev_nee (hA i k hi hk q) ((h i hi).trans (by rw [e2 i hi q]))
theorem mf_up {y : ev_C} (hk : k < 18) : MF A H (ev_up H (A k) y) := fun a q => ev_nee (q k hk) rfl
theorem ms_M (h : MS H A I v Q R lv f) : H (A 17) = some (.inr (7, ml A I)) := by
  obtain ⟨_, L, s, _, g⟩ := h
  exact g 17 (by decide)
theorem ms_Q (h : MS H A I v Q R lv f) (k : Nat) (hk : k < 6) : H (A (2 + k)) = some (.inl (.int, 8, .inl (fun j => nI (Q k j)))) := by
  obtain ⟨_, L, s, _, g⟩ := h
  rw [g (2 + k) (by omega)]
  unfold mcell
  rw [if_neg (by omega), if_neg (by omega), if_pos (by omega), Nat.add_sub_cancel_left]
theorem ms_R (h : MS H A I v Q R lv f) (k : Nat) (hk : k < 7) : H (A (8 + k)) = some (.inl (.int, 16, .inl (R k))) := by
  obtain ⟨_, L, s, _, g⟩ := h
  rw [g (8 + k) (by omega)]
  unfold mcell
  rw [if_neg (by omega), if_neg (by omega), if_neg (by omega), if_pos (by omega), Nat.add_sub_cancel_left]
theorem ms_l (h : MS H A I v Q R lv f) : H (A 15) = some (.inl (.long, 250, .inr (.inl (fun j => lN (lv j))))) := by
  obtain ⟨_, L, s, _, g⟩ := h
  exact g 15 (by decide)
theorem ms_f (h : MS H A I v Q R lv f) : H (A 16) = some (.inl (.int, 1400, .inl (fun j => nI (f j)))) := by
  obtain ⟨_, L, s, _, g⟩ := h
  exact g 16 (by decide)
theorem ms_g (h : MS H A I v Q R lv f) : RG H (A 17) (A 0) (A 1) (mf A I) v := by
  obtain ⟨hA, L, s, hV, g⟩ := h
  exact ⟨⟨hA 0 1 (by decide) (by decide) (by decide), hA 17 0 (by decide) (by decide) (by decide), hA 17 1 (by decide) (by decide) (by decide), g 17 (by decide)⟩, L, s, g 0 (by decide), g 1 (by decide), hV⟩
/-- behind a method that writes registers -/
theorem ms_r {v2 : Nat → Nat} (h : MS H A I v Q R lv f) (hR : RG h1 (A 17) (A 0) (A 1) (mf A I) v2) (hF : RF (A 0) (A 1) H h1) : MS h1 A I v2 Q R lv f ∧ MF A H h1 := by
  obtain ⟨hA, L, s, hV, g⟩ := h
  obtain ⟨hM, L2, s2, d1, d2, hV2⟩ := hR
  refine ⟨⟨hA, L2, s2, hV2, fun k hk => ?_⟩, fun a q => hF a (q 0 (by decide)) (q 1 (by decide))⟩
  by_cases e0 : k = 0
  · subst e0; exact d1
  · by_cases e1 : k = 1
    · subst e1; exact d2
    · rw [hF _ (hA k 0 hk (by decide) e0) (hA k 1 hk (by decide) e1), g k hk]
      unfold mcell
      rw [if_neg e0, if_neg e1, if_neg e0, if_neg e1]
theorem ms_uI {n : Nat} (h : MS H A I v Q R lv f) (e : (ml A I).set n (.int (nI x)) = ml A (va_up I k x)) : MS (ev_up H (A 17) (.inr (7, (ml A I).set n (.int (nI x))))) A (va_up I k x) v Q R lv f ∧ MF A H (ev_up H (A 17) (.inr (7, (ml A I).set n (.int (nI x))))) := by
  obtain ⟨hA, L, s, hV, g⟩ := h
  refine ⟨⟨hA, L, s, hV, mc_up hA (by decide) g ?_ (fun i hi q => ?_)⟩, mf_up (by decide)⟩
  · rw [e]; rfl
  · unfold mcell
    by_cases q1 : i = 0
    · rw [if_pos q1, if_pos q1]
    rw [if_neg q1, if_neg q1]
    by_cases q2 : i = 1
    · rw [if_pos q2, if_pos q2]
    rw [if_neg q2, if_neg q2]
    by_cases q3 : i < 8
    · rw [if_pos q3, if_pos q3]
    rw [if_neg q3, if_neg q3]
    by_cases q4 : i < 15
    · rw [if_pos q4, if_pos q4]
    rw [if_neg q4, if_neg q4]
    by_cases q5 : i = 15
    · rw [if_pos q5, if_pos q5]
    rw [if_neg q5, if_neg q5]
    rw [if_pos (by omega), if_pos (by omega)]
theorem ms_uQ (h : MS H A I v Q R lv f) (hk : k < 6) (hs : s < 8) : MS (ev_up H (A (2 + k)) (.inl (.int, 8, .inl (upd (fun j => nI (Q k j)) (nI s).toNatClampNeg (nI x))))) A I v (p_up Q k s x) R lv f ∧ MF A H (ev_up H (A (2 + k)) (.inl (.int, 8, .inl (upd (fun j => nI (Q k j)) (nI s).toNatClampNeg (nI x))))) := by
  obtain ⟨hA, L, s', hV, g⟩ := h
  refine ⟨⟨hA, L, s', hV, mc_up hA (by omega) g ?_ (fun i hi q => ?_)⟩, mf_up (by omega)⟩
  · rw [wh_upd _ _ _ (by omega)]
    unfold mcell
    rw [if_neg (by omega), if_neg (by omega), if_pos (by omega), Nat.add_sub_cancel_left]
    have : p_up Q k s x k = va_up (Q k) s x := by funext b; unfold p_up; rw [if_pos rfl]
    rw [this]
  · unfold mcell
    by_cases q1 : i = 0
    · rw [if_pos q1, if_pos q1]
    rw [if_neg q1, if_neg q1]
    by_cases q2 : i = 1
    · rw [if_pos q2, if_pos q2]
    rw [if_neg q2, if_neg q2]
    by_cases q3 : i < 8
    · rw [if_pos q3, if_pos q3]
      have : p_up Q k s x (i - 2) = Q (i - 2) := by funext b; unfold p_up; rw [if_neg (by omega)]
      rw [this]
    rw [if_neg q3, if_neg q3]
theorem ms_uR {y : Int32} (h : MS H A I v Q R lv f) (hk : k < 7) (hs : s < 16) : MS (ev_up H (A (8 + k)) (.inl (.int, 16, .inl (upd (R k) (nI s).toNatClampNeg y)))) A I v Q (r_up R k s y) lv f ∧ MF A H (ev_up H (A (8 + k)) (.inl (.int, 16, .inl (upd (R k) (nI s).toNatClampNeg y)))) := by
  obtain ⟨hA, L, s', hV, g⟩ := h
  refine ⟨⟨hA, L, s', hV, mc_up hA (by omega) g ?_ (fun i hi q => ?_)⟩, mf_up (by omega)⟩
  · rw [nI_clamp (by omega)]
    unfold mcell
    rw [if_neg (by omega), if_neg (by omega), if_neg (by omega), if_pos (by omega), Nat.add_sub_cancel_left]
    congr 3
    congr 1
    funext b
    unfold r_up upd
    rw [if_pos rfl]
  · unfold mcell
    by_cases q1 : i = 0
    · rw [if_pos q1, if_pos q1]
    rw [if_neg q1, if_neg q1]
    by_cases q2 : i = 1
    · rw [if_pos q2, if_pos q2]
    rw [if_neg q2, if_neg q2]
    by_cases q3 : i < 8
    · rw [if_pos q3, if_pos q3]
    rw [if_neg q3, if_neg q3]
    by_cases q4 : i < 15
    · rw [if_pos q4, if_pos q4]
      have : r_up R k s y (i - 8) = R (i - 8) := by funext b; unfold r_up; rw [if_neg (by omega)]
      rw [this]
    rw [if_neg q4, if_neg q4]
theorem ms_uf (h : MS H A I v Q R lv f) (hs : s < 1400) : MS (ev_up H (A 16) (.inl (.int, 1400, .inl (upd (fun j => nI (f j)) (nI s).toNatClampNeg (nI x))))) A I v Q R lv (va_up f s x) ∧ MF A H (ev_up H (A 16) (.inl (.int, 1400, .inl (upd (fun j => nI (f j)) (nI s).toNatClampNeg (nI x))))) := by
  obtain ⟨hA, L, s', hV, g⟩ := h
  refine ⟨⟨hA, L, s', hV, mc_up hA (by decide) g ?_ (fun i hi q => ?_)⟩, mf_up (by decide)⟩
  · rw [wh_upd _ _ _ (by omega)]; rfl
  · unfold mcell
    by_cases q1 : i = 0
    · rw [if_pos q1, if_pos q1]
    rw [if_neg q1, if_neg q1]
    by_cases q2 : i = 1
    · rw [if_pos q2, if_pos q2]
    rw [if_neg q2, if_neg q2]
    by_cases q3 : i < 8
    · rw [if_pos q3, if_pos q3]
    rw [if_neg q3, if_neg q3]
    by_cases q4 : i < 15
    · rw [if_pos q4, if_pos q4]
    rw [if_neg q4, if_neg q4]
    by_cases q5 : i = 15
    · rw [if_pos q5, if_pos q5]
    rw [if_neg q5, if_neg q5, if_neg q, if_neg q]
theorem ms_ul (h : MS H A I v Q R lv f) (hs : s < 250) : MS (ev_up H (A 15) (.inl (.long, 250, .inr (.inl (vp_updL (fun j => lN (lv j)) (nI s).toNatClampNeg (lN x)))))) A I v Q R (va_up lv s x) f ∧ MF A H (ev_up H (A 15) (.inl (.long, 250, .inr (.inl (vp_updL (fun j => lN (lv j)) (nI s).toNatClampNeg (lN x)))))) := by
  obtain ⟨hA, L, s', hV, g⟩ := h
  refine ⟨⟨hA, L, s', hV, mc_up hA (by decide) g ?_ (fun i hi q => ?_)⟩, mf_up (by decide)⟩
  · have : vp_updL (fun j => lN (lv j)) (nI s).toNatClampNeg (lN x) = fun j => lN (va_up lv s x j) := by
      rw [nI_clamp (by omega)]
      funext j
      unfold vp_updL va_up
      by_cases e : j = s
      · rw [if_pos e, if_pos e]
      · rw [if_neg e, if_neg e]
    rw [this]; rfl
  · unfold mcell
    by_cases q1 : i = 0
    · rw [if_pos q1, if_pos q1]
    rw [if_neg q1, if_neg q1]
    by_cases q2 : i = 1
    · rw [if_pos q2, if_pos q2]
    rw [if_neg q2, if_neg q2]
    by_cases q3 : i < 8
    · rw [if_pos q3, if_pos q3]
    rw [if_neg q3, if_neg q3]
    by_cases q4 : i < 15
    · rw [if_pos q4, if_pos q4]
    rw [if_neg q4, if_neg q4, if_neg q, if_neg q]
theorem k_isMem (hd : 1 ≤ dd) (h : MS H A I v Q R lv f) (hm : I 0 < 256) (hs : s < 8) : ev_Ca G dd w m_X9_isMember [.ref (A 17), .int (nI s)] H 0 0 (ev_ok (fun r h1 => r = some (.int (nI (I 0 / 2 ^ s % 2))) ∧ h1 = H)) := by
  obtain ⟨dd, rfl⟩ : ∃ e, dd = e + 1 := ⟨dd - 1, by omega⟩
  refine ⟨by decide +kernel, rfl, ?_⟩
  have dle := Nat.div_le_self (I 0) (2 ^ s)
  have bt : I 0 / 2 ^ s % 2 < 2 := Nat.mod_lt _ (by decide)
  refine ev_aload_n (pc := 0) dX9_isMember_0 rfl ?_
  refine ev_getf (pc := 1) dX9_isMember_1 f_X9_70 (ms_M h) rfl ?_
  refine ev_iload_n (pc := 4) dX9_isMember_4 rfl ?_
  refine ev_ishr (pc := 5) dX9_isMember_5 (ev_ti (mi_shr (by omega) (by omega)) ?_)
  refine ev_iconst (pc := 6) (v := nI 1) dX9_isMember_6 (by decide) ?_
  refine ev_iand (pc := 7) dX9_isMember_7 (ev_ti (mi_and1 (by omega)) ?_)
  refine ev_iconst (pc := 8) (v := nI 1) dX9_isMember_8 (by decide) ?_
  refine ev_icmp_neN (pc := 9) (tgt := 16) dX9_isMember_9 (by decide) (by omega) (by omega) (fun c1 => ?_) (fun c1 => ?_)
  · refine ev_iconst (pc := 16) (v := nI 0) dX9_isMember_16 (by decide) ?_
    exact ev_iret (pc := 17) dX9_isMember_17 rfl rfl ⟨by rw [show I 0 / 2 ^ s % 2 = 0 by omega], rfl⟩
  · refine ev_iconst (pc := 12) (v := nI 1) dX9_isMember_12 (by decide) ?_
    refine ev_goto (pc := 13) (tgt := 17) dX9_isMember_13 (by decide) ?_
    exact ev_iret (pc := 17) dX9_isMember_17 rfl rfl ⟨by rw [c1], rfl⟩
theorem k_plain (hd : 1 ≤ dd) (h : MS H A I v Q R lv f) (hP : P_ok Q) (hs : s < 8) : ev_Ca G dd w m_X9_plain [.ref (A 17), .int (nI s)] H 0 0 (ev_ok (fun r h1 => r = some (.long (lN (pw Q s))) ∧ h1 = H)) := by
  obtain ⟨dd, rfl⟩ : ∃ e, dd = e + 1 := ⟨dd - 1, by omega⟩
  refine ⟨by decide +kernel, rfl, ?_⟩
  obtain ⟨⟨a1, a2⟩, ⟨b1, b2⟩, c1, c2⟩ := hP s hs
  refine ev_aload_n (pc := 0) dX9_plain_0 rfl ?_
  refine ev_getf (pc := 1) dX9_plain_1 f_X9_16 (ms_M h) rfl ?_
  refine ev_iload_n (pc := 4) dX9_plain_4 rfl ?_
  refine ev_iaN (pc := 5) dX9_plain_5 (ms_Q h 0 (by decide)) (by omega) (by omega) ?_
  refine ev_i2lN (pc := 6) dX9_plain_6 (by omega) ?_
  refine ev_aload_n (pc := 7) dX9_plain_7 rfl ?_
  refine ev_getf (pc := 8) dX9_plain_8 f_X9_19 (ms_M h) rfl ?_
  refine ev_iload_n (pc := 11) dX9_plain_11 rfl ?_
  refine ev_iaN (pc := 12) dX9_plain_12 (ms_Q h 1 (by decide)) (by omega) (by omega) ?_
  refine ev_i2lN (pc := 13) dX9_plain_13 (by omega) ?_
  refine ev_lmulN (pc := 14) dX9_plain_14 ?_
  refine ev_aload_n (pc := 15) dX9_plain_15 rfl ?_
  refine ev_getf (pc := 16) dX9_plain_16 f_X9_22 (ms_M h) rfl ?_
  refine ev_iload_n (pc := 19) dX9_plain_19 rfl ?_
  refine ev_iaN (pc := 20) dX9_plain_20 (ms_Q h 2 (by decide)) (by omega) (by omega) ?_
  refine ev_i2lN (pc := 21) dX9_plain_21 (by omega) ?_
  refine ev_lmulN (pc := 22) dX9_plain_22 ?_
  exact ev_lret (pc := 23) dX9_plain_23 rfl ⟨rfl, rfl⟩
end REFE
