/-! constructors: Shares -/
section CON3
variable {G : ev_G} {w : Nat} {H H0 h h1 : ev_H} {dd : Nat}
theorem mnw : Cond.classLink RX5 9 ("[" ++ (FieldType.array .int).toString) ∈ ev_ws ∧ Cond.arrayOver (.array .int) ∈ ev_ns ∧ Cond.arrayClass .int ∈ ev_ws := ⟨ev_at 91 (by decide +kernel) rfl, ev_an 92 (by decide +kernel) rfl, arI⟩
theorem l_fillI {C : ev_L} {K : ev_K} {c z a N v : Nat} (hN : N < 2 ^ 31) (hK : ∀ f : Nat → Nat, (∀ j, j < N → f j = v) → K (.inl none) (ev_up H a (.inl (.int, N, .inl (fun j => nI (f j)))))) : ∀ k i (f : Nat → Nat), i + k = N → (∀ j, j < i → f j = v) → ev_J G C w m_J7_fill_53178 K (5, ev_lf [(0, .ref a), (1, .int (nI v)), (2, .int (nI i)), (3, .int (nI N))], [], ev_up H a (.inl (.int, N, .inl (fun j => nI (f j)))), c, z)
  | 0, i, f, e, hf => by
    refine ev_iload_n (pc := 5) dJ7_fill_53178_5 rfl ?_
    refine ev_iload_n (pc := 6) dJ7_fill_53178_6 rfl ?_
    refine ev_icmp_geN (pc := 7) (tgt := 20) dJ7_fill_53178_7 (by decide) (by omega) (by omega) (fun c1 => ?_) (fun c1 => ?_)
    · exact ev_vret (pc := 20) dJ7_fill_53178_20 rfl (hK f (fun j hj => hf j (by omega)))
    · omega
  | k + 1, i, f, e, hf => by
    refine ev_iload_n (pc := 5) dJ7_fill_53178_5 rfl ?_
    refine ev_iload_n (pc := 6) dJ7_fill_53178_6 rfl ?_
    refine ev_icmp_geN (pc := 7) (tgt := 20) dJ7_fill_53178_7 (by decide) (by omega) (by omega) (fun c1 => ?_) (fun c1 => ?_)
    · omega
    · refine ev_aload_n (pc := 10) dJ7_fill_53178_10 rfl ?_
      refine ev_iload_n (pc := 11) dJ7_fill_53178_11 rfl ?_
      refine ev_iload_n (pc := 12) dJ7_fill_53178_12 rfl ?_
      refine ev_iast (pc := 13) dJ7_fill_53178_13 ev_eqq (vp_in_nI (by omega) hN) ?_
      refine ev_th (h2 := ev_up H a (.inl (.int, N, .inl (fun j => nI (va_up f i v j))))) (by rw [wh_upd _ _ _ (by omega)]; funext x; unfold ev_up; by_cases e : x = a <;> simp [e]) ?_
      refine ev_iincN (pc := 14) dJ7_fill_53178_14 rfl rfl ?_
      refine ev_goto (pc := 17) (tgt := 5) dJ7_fill_53178_17 (by decide) ?_
      refine ev_vs [(0, .ref a), (1, .int (nI v)), (2, .int (nI (i + 1))), (3, .int (nI N))] ⟨rfl, rfl, rfl, rfl, trivial⟩ ?_
      refine l_fillI hN hK k (i + 1) _ (by omega) (fun j hj => ?_)
      unfold va_up
      split
      · rfl
      · exact hf j (by omega)
theorem k_fillI {a N v : Nat} {f : Nat → Nat} (hd : 1 ≤ dd) (hN : N < 2 ^ 31) (ha : H a = some (.inl (.int, N, .inl (fun j => nI (f j))))) : ev_Ca G dd w m_J7_fill_53178 [.ref a, .int (nI v)] H 0 0 (ev_ok (fun r h1 => r = none ∧ ∃ f2 : Nat → Nat, (∀ j, j < N → f2 j = v) ∧ h1 = ev_up H a (.inl (.int, N, .inl (fun j => nI (f2 j)))))) := by
  obtain ⟨dd, rfl⟩ : ∃ e, dd = e + 1 := ⟨dd - 1, by omega⟩
  refine ⟨by decide +kernel, rfl, ?_⟩
  refine ev_iconst (pc := 0) (v := nI 0) dJ7_fill_53178_0 (by decide) ?_
  refine ev_istore_n (pc := 1) dJ7_fill_53178_1 rfl ?_
  refine ev_aload_n (pc := 2) dJ7_fill_53178_2 rfl ?_
  refine ev_alen (pc := 3) dJ7_fill_53178_3 ha ?_
  refine ev_istore_n (pc := 4) dJ7_fill_53178_4 rfl ?_
  refine ev_vs [(0, .ref a), (1, .int (nI v)), (2, .int (nI 0)), (3, .int (nI N))] ⟨rfl, rfl, rfl, rfl, trivial⟩ ?_
  refine ev_th (ev_upid ha).symm ?_
  exact l_fillI hN (fun f2 hf2 => ⟨rfl, f2, hf2, rfl⟩) N 0 f (by omega) (fun j hj => absurd hj (Nat.not_lt_zero j))
def sn (q u d : Nat) : Nat → Nat := fun k => if k = 4 then u else if k = 5 then d else q + k
theorem sn_f (q u d : Nat) : (fun i => if i < 3 then some (sn q u d (i + 1)) else none) = mn_f q 3 := by
  funext i
  unfold mn_f sn
  by_cases e : i < 3
  · rw [if_pos e, if_pos e, if_neg (by omega), if_neg (by omega), show q + (i + 1) = q + 1 + i by omega]
  · rw [if_neg e, if_neg e]
theorem mn_h0 {q : Nat} : mn_h H q q = some (.inl (.array .int, 3, .inr (.inr (.inr (.inr (mn_f q 3)))))) := if_pos rfl
theorem mn_h1 {q k : Nat} (hk : k < 3) : mn_h H q (q + (k + 1)) = some (.inl (.int, 8, .inl (fun _ => 0))) := by
  unfold mn_h
  rw [if_neg (by omega), if_pos (by omega)]
theorem mn_hn {q a : Nat} (ha : ∀ k, k < 4 → a ≠ q + k) : mn_h H q a = H a := by
  unfold mn_h
  have h0 := ha 0 (by decide)
  have h1 := ha 1 (by decide)
  have h2 := ha 2 (by decide)
  have h3 := ha 3 (by decide)
  rw [if_neg (by omega), if_neg (by omega)]
theorem k_Sinit {S : Nat} (hd : 3 ≤ dd) (hw : 60 ≤ w) (hD : H S = some (.inr (3, [.null, .null, .null, .int 0]))) : ev_Ca G dd w m_X5_init [.ref S] H 6 43 (ev_ok (fun r h1 => r = none ∧ ∃ sa P fu fd, SH h1 S sa P fu fd 0 ∧ SD sa ∧ (∀ k, k < 3 → ∀ j, j < 8 → P k j = 1) ∧ (∀ j, j < 8 → fu j = 1 ∧ fd j = 1) ∧ (∀ k, k ≤ 5 → H (sa k) = none) ∧ XT H h1 S)) := by
  obtain ⟨dd, rfl⟩ : ∃ e, dd = e + 1 := ⟨dd - 1, by omega⟩
  refine ⟨by decide +kernel, rfl, ?_⟩
  refine ev_aload_n (pc := 0) dX5_init_0 rfl ?_
  refine ev_objInit (pc := 1) dX5_init_1 oi_X5_1 rfl (by omega) ?_
  refine ev_aload_n (pc := 4) dX5_init_4 rfl ?_
  refine ev_iconst (pc := 5) (v := nI 3) dX5_init_5 (by decide) ?_
  refine ev_bipush (pc := 6) (v := nI 8) dX5_init_6 (by decide) ?_
  refine ev_mna (M := m_X5_init) (pc := 8) (c := 2) (z := 16) dX5_init_8 mnw (fun q hq => ?_)
  have nS : ∀ k, S ≠ q + k := fun k e => by rw [e, hq k] at hD; cases hD
  have H1 : mn_h H q S = some (.inr (3, [.null, .null, .null, .int 0])) := (mn_hn (fun k _ => nS k)).trans hD
  refine ev_putF (pc := 12) dX5_init_12 pF_X5_11 rfl H1 rfl rfl rfl ?_
  refine ev_th (h2 := ev_up (mn_h H q) S (.inr (3, [.ref q, .null, .null, .int 0]))) rfl ?_
  have n0 : ∀ a, ev_up (mn_h H q) S (.inr (3, [.ref q, .null, .null, .int 0])) a = none → H a = none ∧ a ≠ S ∧ ∀ k, k < 4 → a ≠ q + k := by
    intro a ha
    by_cases e : a = S
    · rw [e, ev_eqq] at ha; cases ha
    · have h2 : mn_h H q a = none := (ev_nee e rfl).symm.trans ha
      have h3 : ∀ k, k < 4 → a ≠ q + k := by
        intro k hk e2
        match k, hk, e2 with
        | 0, _, e2 => rw [e2, show q + 0 = q from rfl, mn_h0] at h2; cases h2
        | 1, _, e2 => rw [e2, mn_h1 (k := 0) (by decide)] at h2; cases h2
        | 2, _, e2 => rw [e2, mn_h1 (k := 1) (by decide)] at h2; cases h2
        | 3, _, e2 => rw [e2, mn_h1 (k := 2) (by decide)] at h2; cases h2
      exact ⟨(mn_hn h3).symm.trans h2, e, h3⟩
  have E1 : ev_up (mn_h H q) S (.inr (3, [.ref q, .null, .null, .int 0])) S = some (.inr (3, [.ref q, .null, .null, .int 0])) := ev_eqq
  have E2 : ev_up (mn_h H q) S (.inr (3, [.ref q, .null, .null, .int 0])) q = some (.inl (.array .int, 3, .inr (.inr (.inr (.inr (mn_f q 3)))))) := ev_nee (Ne.symm (nS 0)) mn_h0
  have E3 : ∀ k, k < 3 → ev_up (mn_h H q) S (.inr (3, [.ref q, .null, .null, .int 0])) (q + (k + 1)) = some (.inl (.int, 8, .inl (fun _ => 0))) := fun k hk => ev_nee (Ne.symm (nS (k + 1))) (mn_h1 hk)
  have X1 : XT H (ev_up (mn_h H q) S (.inr (3, [.ref q, .null, .null, .int 0]))) S := fun a x ha hn => ev_nee hn ((mn_hn (fun k _ e => by rw [e, hq k] at ha; cases ha)).trans ha)
  generalize ev_up (mn_h H q) S (.inr (3, [.ref q, .null, .null, .int 0])) = g1 at *
  refine ev_aload_n (pc := 15) dX5_init_15 rfl ?_
  refine ev_bipush (pc := 16) (v := nI 8) dX5_init_16 (by decide) ?_
  refine ev_newl (M := m_X5_init) (pc := 18) (c := 1) (z := 8) (N := 8) dX5_init_18 arL (by decide) (by decide) (by decide) (fun u hu => ?_)
  obtain ⟨u1, u2, u3⟩ := n0 u hu
  refine ev_putF (pc := 20) dX5_init_20 pF_X5_14 rfl (ev_nee (Ne.symm u2) E1) rfl rfl rfl ?_
  refine ev_th (h2 := ev_up (ev_up g1 u (.inl (.long, 8, .inr (.inl (fun _ => 0))))) S (.inr (3, [.ref q, .ref u, .null, .int 0]))) rfl ?_
  refine ev_aload_n (pc := 23) dX5_init_23 rfl ?_
  refine ev_bipush (pc := 24) (v := nI 8) dX5_init_24 (by decide) ?_
  refine ev_newl (M := m_X5_init) (pc := 26) (c := 0) (z := 0) (N := 8) dX5_init_26 arL (by decide) (by decide) (by decide) (fun d hdq => ?_)
  have d2 : d ≠ S := fun e => by rw [e, ev_eqq] at hdq; cases hdq
  have d3 : d ≠ u := fun e => by rw [e, ev_nee u2 ev_eqq] at hdq; cases hdq
  have d4 : g1 d = none := (ev_nee d3 rfl).symm.trans ((ev_nee d2 rfl).symm.trans hdq)
  obtain ⟨d1, -, d5⟩ := n0 d d4
  refine ev_putF (pc := 28) dX5_init_28 pF_X5_18 rfl (ev_nee (Ne.symm d2) ev_eqq) rfl rfl rfl ?_
  refine ev_th (h2 := ev_up (ev_up (ev_up (ev_up g1 u (.inl (.long, 8, .inr (.inl (fun _ => 0))))) S (.inr (3, [.ref q, .ref u, .null, .int 0]))) d (.inl (.long, 8, .inr (.inl (fun _ => 0))))) S (.inr (3, [.ref q, .ref u, .ref d, .int 0]))) rfl ?_
  have thr : ∀ {a : Nat} {x : ev_C}, g1 a = some x → a ≠ S → a ≠ u → a ≠ d → ev_up (ev_up (ev_up (ev_up g1 u (.inl (.long, 8, .inr (.inl (fun _ => 0))))) S (.inr (3, [.ref q, .ref u, .null, .int 0]))) d (.inl (.long, 8, .inr (.inl (fun _ => 0))))) S (.inr (3, [.ref q, .ref u, .ref d, .int 0])) a = some x := fun ha a1 a2 a3 => ev_nee a1 (ev_nee a3 (ev_nee a1 (ev_nee a2 ha)))
  have hS : SH (ev_up (ev_up (ev_up (ev_up g1 u (.inl (.long, 8, .inr (.inl (fun _ => 0))))) S (.inr (3, [.ref q, .ref u, .null, .int 0]))) d (.inl (.long, 8, .inr (.inl (fun _ => 0))))) S (.inr (3, [.ref q, .ref u, .ref d, .int 0]))) S (sn q u d) (fun _ _ => 0) (fun _ => 0) (fun _ => 0) 0 := by
    refine ⟨ev_eqq, ?_, fun k hk => ?_, ?_, ?_⟩
    · rw [sn_f]
      exact thr E2 (Ne.symm (nS 0)) (fun e => u3 0 (by decide) e.symm) (fun e => d5 0 (by decide) e.symm)
    · have e : sn q u d (k + 1) = q + (k + 1) := by
        unfold sn
        rw [if_neg (by omega), if_neg (by omega)]
      rw [e]
      exact thr (E3 k hk) (Ne.symm (nS (k + 1))) (fun e => u3 (k + 1) (by omega) e.symm) (fun e => d5 (k + 1) (by omega) e.symm)
    · exact ev_nee u2 (ev_nee (Ne.symm d3) (ev_nee u2 ev_eqq))
    · exact ev_nee d2 ev_eqq
  have X2 : XT H (ev_up (ev_up (ev_up (ev_up g1 u (.inl (.long, 8, .inr (.inl (fun _ => 0))))) S (.inr (3, [.ref q, .ref u, .null, .int 0]))) d (.inl (.long, 8, .inr (.inl (fun _ => 0))))) S (.inr (3, [.ref q, .ref u, .ref d, .int 0]))) S := fun a x ha hn => thr (X1 a x ha hn) hn (fun e => by rw [e, u1] at ha; cases ha) (fun e => by rw [e, d1] at ha; cases ha)
  have hsD : SD (sn q u d) := by
    have s1 : sn q u d 1 = q + 1 := rfl
    have s2 : sn q u d 2 = q + 2 := rfl
    have s3 : sn q u d 3 = q + 3 := rfl
    refine ⟨by omega, by omega, by omega, ?_⟩
    show u ≠ d
    exact Ne.symm d3
  have hnone : ∀ k, k ≤ 5 → H (sn q u d k) = none := by
    intro k hk
    unfold sn
    by_cases e4 : k = 4
    · rw [if_pos e4]; exact u1
    · rw [if_neg e4]
      by_cases e5 : k = 5
      · rw [if_pos e5]; exact d1
      · rw [if_neg e5]; exact hq k
  generalize ev_up (ev_up (ev_up (ev_up g1 u (.inl (.long, 8, .inr (.inl (fun _ => 0))))) S (.inr (3, [.ref q, .ref u, .null, .int 0]))) d (.inl (.long, 8, .inr (.inl (fun _ => 0))))) S (.inr (3, [.ref q, .ref u, .ref d, .int 0])) = g2 at *
  generalize sn q u d = sa at *
  clear n0 E1 E2 E3 X1 hu hdq d4 thr
  refine ev_iconst (pc := 31) (v := nI 0) dX5_init_31 (by decide) ?_
  refine ev_istore_n (pc := 32) dX5_init_32 rfl ?_
  refine ev_vs [(0, .ref S), (1, .int (nI 0))] ⟨rfl, rfl, trivial⟩ ?_
  refine ev_iload_n (pc := 33) dX5_init_33 rfl ?_
  refine ev_iconst (pc := 34) (v := nI 3) dX5_init_34 (by decide) ?_
  refine ev_icmp_geN (pc := 35) (tgt := 54) dX5_init_35 (by decide) (by omega) (by omega) (fun c0 => ?_) (fun c0 => ?_)
  · omega
  refine ev_aload_n (pc := 38) dX5_init_38 rfl ?_
  refine ev_getf (pc := 39) dX5_init_39 f_X5_11 hS.1 rfl ?_
  refine ev_iload_n (pc := 42) dX5_init_42 rfl ?_
  refine sh_row (pc := 43) dX5_init_43 hS (by decide) ?_
  refine ev_iconst (pc := 44) (v := nI 1) dX5_init_44 (by decide) ?_
  refine ev_callS (pc := 45) (As := [.ref (sa 1), .int (nI 1)]) dX5_init_45 cs_X5_21 rfl rfl ⟨by show 19 + 4 ≤ w; omega, show ev_Ca _ _ (w - 23) _ _ _ _ _ _ from k_fillI (by omega) (by decide) (hS.2.2.1 0 (by decide))⟩ rfl rfl (fun r h1 hp => ?_)
  obtain ⟨rfl, q0, hq0, rfl⟩ := hp
  obtain ⟨hS0, hF0⟩ := sh_setP (Q := q0) (k := 0) hS hsD (by decide)
  refine ev_iincN (pc := 48) dX5_init_48 rfl rfl ?_
  refine ev_goto (pc := 51) (tgt := 33) dX5_init_51 (by decide) ?_
  refine ev_vs [(0, .ref S), (1, .int (nI 1))] ⟨rfl, rfl, trivial⟩ ?_
  refine ev_iload_n (pc := 33) dX5_init_33 rfl ?_
  refine ev_iconst (pc := 34) (v := nI 3) dX5_init_34 (by decide) ?_
  refine ev_icmp_geN (pc := 35) (tgt := 54) dX5_init_35 (by decide) (by omega) (by omega) (fun c1 => ?_) (fun c1 => ?_)
  · omega
  refine ev_aload_n (pc := 38) dX5_init_38 rfl ?_
  refine ev_getf (pc := 39) dX5_init_39 f_X5_11 hS0.1 rfl ?_
  refine ev_iload_n (pc := 42) dX5_init_42 rfl ?_
  refine sh_row (pc := 43) dX5_init_43 hS0 (by decide) ?_
  refine ev_iconst (pc := 44) (v := nI 1) dX5_init_44 (by decide) ?_
  refine ev_callS (pc := 45) (As := [.ref (sa 2), .int (nI 1)]) dX5_init_45 cs_X5_21 rfl rfl ⟨by show 19 + 4 ≤ w; omega, show ev_Ca _ _ (w - 23) _ _ _ _ _ _ from k_fillI (by omega) (by decide) (hS0.2.2.1 1 (by decide))⟩ rfl rfl (fun r h1 hp => ?_)
  obtain ⟨rfl, q1, hq1, rfl⟩ := hp
  obtain ⟨hS1, hF1⟩ := sh_setP (Q := q1) (k := 1) hS0 hsD (by decide)
  refine ev_iincN (pc := 48) dX5_init_48 rfl rfl ?_
  refine ev_goto (pc := 51) (tgt := 33) dX5_init_51 (by decide) ?_
  refine ev_vs [(0, .ref S), (1, .int (nI 2))] ⟨rfl, rfl, trivial⟩ ?_
  refine ev_iload_n (pc := 33) dX5_init_33 rfl ?_
  refine ev_iconst (pc := 34) (v := nI 3) dX5_init_34 (by decide) ?_
  refine ev_icmp_geN (pc := 35) (tgt := 54) dX5_init_35 (by decide) (by omega) (by omega) (fun c2 => ?_) (fun c2 => ?_)
  · omega
  refine ev_aload_n (pc := 38) dX5_init_38 rfl ?_
  refine ev_getf (pc := 39) dX5_init_39 f_X5_11 hS1.1 rfl ?_
  refine ev_iload_n (pc := 42) dX5_init_42 rfl ?_
  refine sh_row (pc := 43) dX5_init_43 hS1 (by decide) ?_
  refine ev_iconst (pc := 44) (v := nI 1) dX5_init_44 (by decide) ?_
  refine ev_callS (pc := 45) (As := [.ref (sa 3), .int (nI 1)]) dX5_init_45 cs_X5_21 rfl rfl ⟨by show 19 + 4 ≤ w; omega, show ev_Ca _ _ (w - 23) _ _ _ _ _ _ from k_fillI (by omega) (by decide) (hS1.2.2.1 2 (by decide))⟩ rfl rfl (fun r h1 hp => ?_)
  obtain ⟨rfl, q2, hq2, rfl⟩ := hp
  obtain ⟨hS2, hF2⟩ := sh_setP (Q := q2) (k := 2) hS1 hsD (by decide)
  refine ev_iincN (pc := 48) dX5_init_48 rfl rfl ?_
  refine ev_goto (pc := 51) (tgt := 33) dX5_init_51 (by decide) ?_
  refine ev_vs [(0, .ref S), (1, .int (nI 3))] ⟨rfl, rfl, trivial⟩ ?_
  refine ev_iload_n (pc := 33) dX5_init_33 rfl ?_
  refine ev_iconst (pc := 34) (v := nI 3) dX5_init_34 (by decide) ?_
  refine ev_icmp_geN (pc := 35) (tgt := 54) dX5_init_35 (by decide) (by decide) (by decide) (fun _ => ?_) (fun c3 => absurd c3 (by decide))
  refine ev_aload_n (pc := 54) dX5_init_54 rfl ?_
  refine ev_callV (pc := 55) (As := []) dX5_init_55 cv_X5_27 rfl rfl hS2.1 rfl ⟨by show 19 + 1 ≤ w; omega, show ev_Ca _ _ (w - 20) _ _ _ _ _ _ from k_resetFactors (by omega) (by omega) hS2 hsD⟩ rfl rfl (fun r h1 hp => ?_)
  obtain ⟨rfl, fu2, fd2, f1, f2, hS5, hF5⟩ := hp
  refine ev_aload_n (pc := 58) dX5_init_58 rfl ?_
  refine ev_iconst (pc := 59) (v := nI 0) dX5_init_59 (by decide) ?_
  refine ev_putf (pc := 60) dX5_init_60 p_X5_30 hS5.1 rfl rfl rfl ?_
  obtain ⟨hS6, hF6⟩ := sh_putM (m := 0) hS5
  refine ev_vret (pc := 63) dX5_init_63 rfl ⟨rfl, sa, _, fu2, fd2, hS6, hsD, ?_, fun j hj => ⟨f1 j hj, f2 j hj⟩, hnone, ?_⟩
  · intro k hk j hj
    match k, hk with
    | 0, _ => exact hq0 j hj
    | 1, _ => exact hq1 j hj
    | 2, _ => exact hq2 j hj
  · have hF := (((hF0.tr hF1).tr hF2).tr hF5).tr hF6
    intro a x ha hn
    refine (hF a hn (fun k k1 k2 e => ?_)).trans (X2 a x ha hn)
    rw [e, hnone k k2] at ha
    cases ha
end CON3
