/-! THE REFERENCE: close -/
/-- how many of the first n come before K -/
def cn (kd sh : Nat → Nat) (K : Nat) : Nat → Nat
  | 0 => 0
  | n + 1 => cn kd sh K n + (if ky kd sh n < K then 1 else 0)
theorem cn_full {kd sh : Nat → Nat} {K : Nat} : ∀ n, (∀ x, x < n → ky kd sh x < K) → cn kd sh K n = n
  | 0, _ => rfl
  | n + 1, h => by unfold cn; rw [cn_full n (fun x hx => h x (by omega)), if_pos (h n (by omega))]
theorem cn_le {kd sh : Nat → Nat} {K : Nat} : ∀ n, cn kd sh K n ≤ n
  | 0 => Nat.le_refl 0
  | n + 1 => by have := cn_le (kd := kd) (sh := sh) (K := K) n; unfold cn; split <;> omega
theorem cn_eq {kd sh : Nat → Nat} {K K2 : Nat} : ∀ n, (∀ x, x < n → (ky kd sh x < K ↔ ky kd sh x < K2)) → cn kd sh K n = cn kd sh K2 n
  | 0, _ => rfl
  | n + 1, h => by
    unfold cn
    rw [cn_eq n (fun x hx => h x (by omega))]
    have := h n (by omega)
    by_cases e : ky kd sh n < K
    · rw [if_pos e, if_pos (this.mp e)]
    · rw [if_neg e, if_neg (fun q => e (this.mpr q))]
theorem cn_one {kd sh : Nat → Nat} {K p : Nat} : ∀ n, p < n → ky kd sh p = K → (∀ x, x < n → ky kd sh x = K → x = p) → cn kd sh (K + 1) n = cn kd sh K n + 1
  | 0, h, _, _ => absurd h (Nat.not_lt_zero p)
  | n + 1, h, e, u => by
    unfold cn
    by_cases q : p = n
    · subst q
      rw [cn_eq (K := K + 1) (K2 := K) p (fun x hx => by
        have : ky kd sh x ≠ K := fun z => by have := u x (by omega) z; omega
        omega), if_pos (by omega), if_neg (by omega)]
    · rw [cn_one n (by omega) e (fun x hx => u x (by omega))]
      have : ky kd sh n ≠ K := fun z => q (u n (by omega) z).symm
      by_cases e2 : ky kd sh n < K
      · rw [if_pos e2, if_pos (by omega)]
      · rw [if_neg e2, if_neg (by omega)]
theorem run_od {E : Nat → qs → Nat × qs} {od od2 : Nat → Nat} {o : Nat → Int32} : ∀ i q p, (∀ j, j < i → od j = od2 j) → run E od o i q p → run E od2 o i q p
  | 0, _, _, _, h => h
  | i + 1, q, p, e, h => by
    obtain ⟨m, h1, h2, h3⟩ := h
    rw [e i (by omega)] at h2 h3
    exact ⟨m, run_od i q m (fun j hj => e j (by omega)) h1, h2, h3⟩
/-- the state as the program's -/
def rst (I v : Nat → Nat) (Q : Nat → Nat → Nat) : qs := ((Q, v, (fun s => v (8 + s)), I 0), v 32, v 33)
section REFP
variable {G : ev_G} {w : Nat} {H h1 : ev_H} {A I v : Nat → Nat} {Q : Nat → Nat → Nat} {R : Nat → Nat → Int32} {lv f : Nat → Nat} {k s dd : Nat} {kd sh : Nat → Nat} {nt : Nat}
/-- what has been done before K -/
def IV (H : ev_H) (A I : Nat → Nat) (R : Nat → Nat → Int32) (lv f : Nat → Nat) (kd sh : Nat → Nat) (nt : Nat) (q0 : qs) (K : Nat) (h1 : ev_H) (d : Nat) : Prop := ∃ I1 v1 Q1 R1 od cl, mpost H A I1 v1 Q1 R1 lv f h1 ∧ (I1 1 = 1 ∧ I1 3 = nt ∧ I1 4 = cl ∧ I1 5 = I 5 ∧ I1 6 = I 6 ∧ I1 7 = 0) ∧ (∀ a, a < 5 → ∀ b, R1 a b = R a b) ∧ cl = cn kd sh K nt ∧ (∀ i, i < cl → od i < nt ∧ ky kd sh (od i) < K) ∧ (∀ x, x < nt → ky kd sh x < K → ∃ i, i < cl ∧ od i = x) ∧ (∀ i j, i < j → j < cl → ky kd sh (od i) < ky kd sh (od j)) ∧ (∀ i, i < cl → R1 6 i = nI (od i)) ∧ run (sq R kd sh) od (R1 5) cl q0 (rst I1 v1 Q1) ∧ q_ok (rst I1 v1 Q1) ∧ d = dc (R1 5) cl
theorem iv_jump {q0 : qs} {K K2 d : Nat} (h : ∀ x, x < nt → (ky kd sh x < K ↔ ky kd sh x < K2)) (hi : IV H A I R lv f kd sh nt q0 K h1 d) : IV H A I R lv f kd sh nt q0 K2 h1 d := by
  obtain ⟨I1, v1, Q1, R1, od, cl, g1, g2, g3, g4, g5, g6, g7, g8⟩ := hi
  exact ⟨I1, v1, Q1, R1, od, cl, g1, g2, g3, g4.trans (cn_eq nt h), fun i hi => ⟨(g5 i hi).1, (h _ (g5 i hi).1).mp (g5 i hi).2⟩, fun x hx hk => g6 x hx ((h x hx).mpr hk), g7, g8⟩
theorem l_rc3 {K : ev_K} {c z : Nat} {q0 : qs} {k s : Nat} (hd : 8 ≤ dd) (hw : 300 ≤ w) (hnt : nt ≤ 16) (hE : ∀ j, j < nt → R 0 j = nI (kd j) ∧ R 1 j = nI (sh j) ∧ kd j < 9 ∧ sh j < 8) (hk : k < 9) (hs : s < 8)
    (hK : ∀ h1 d, IV H A I R lv f kd sh nt q0 (k * 128 + s * 16 + nt) h1 d → ev_J G (ev_cc G dd w) w m_X9_close K (154, ev_lf [(0, .ref (A 17)), (1, .int (nI d)), (2, .int (nI k)), (3, .int (nI s))], [], h1, c, z)) :
    ∀ n p h1 d, p + n = nt → IV H A I R lv f kd sh nt q0 (k * 128 + s * 16 + p) h1 d → ev_J G (ev_cc G dd w) w m_X9_close K (61, ev_lf [(0, .ref (A 17)), (1, .int (nI d)), (2, .int (nI k)), (3, .int (nI s)), (4, .int (nI p))], [], h1, c, z)
  | 0, p, h1, d, e, iv => by
    obtain ⟨I1, v1, Q1, R1, od, cl, ⟨h, hF⟩, ⟨i1, i3, i4, i5, i6, i7⟩, -⟩ := id iv
    refine ev_iload (pc := 61) dX9_close_61 rfl ?_
    refine ev_aload_n (pc := 63) dX9_close_63 rfl ?_
    refine ev_getf (pc := 64) dX9_close_64 f_X9_161 (ms_M h) rfl ?_
    refine ev_icmp_geN (pc := 67) (tgt := 154) dX9_close_67 (by decide) (by omega) (show I1 3 < 2 ^ 31 by omega) (fun _ => ?_) (fun (q : p < I1 3) => by omega)
    refine ev_vs [(0, .ref (A 17)), (1, .int (nI d)), (2, .int (nI k)), (3, .int (nI s))] ⟨rfl, rfl, rfl, rfl, trivial⟩ ?_
    have : p = nt := by omega
    subst this
    exact hK h1 d iv
  | n + 1, p, h1, d, e, iv => by
    obtain ⟨I1, v1, Q1, R1, od, cl, ⟨h, hF⟩, ⟨i1, i3, i4, i5, i6, i7⟩, g3, g4, g5, g6, g7, g8, g9, ok, gd⟩ := id iv
    obtain ⟨y1, y2, y3, y4⟩ := hE p (by omega)
    have uq : ∀ x, x < nt → ky kd sh x = k * 128 + s * 16 + p → x = p ∧ sh x = s ∧ kd x = k := by
      intro x hx q
      obtain ⟨-, -, -, z4⟩ := hE x hx
      unfold ky at q
      omega
    have skip : ∀ {V}, ev_hs V [(0, .ref (A 17)), (1, .int (nI d)), (2, .int (nI k)), (3, .int (nI s)), (4, .int (nI p))] → ky kd sh p ≠ k * 128 + s * 16 + p → ev_J G (ev_cc G dd w) w m_X9_close K (148, V, [], h1, c, z) := by
      intro V hv nq
      refine ev_vs _ hv ?_
      refine ev_iincN (pc := 148) dX9_close_148 rfl rfl ?_
      refine ev_goto (pc := 151) (tgt := 61) dX9_close_151 (by decide) ?_
      refine ev_vs [(0, .ref (A 17)), (1, .int (nI d)), (2, .int (nI k)), (3, .int (nI s)), (4, .int (nI (p + 1)))] ⟨rfl, rfl, rfl, rfl, rfl, trivial⟩ ?_
      refine l_rc3 hd hw hnt hE hk hs hK n (p + 1) h1 d (by omega) (iv_jump (fun x hx => ?_) iv)
      have : ky kd sh x ≠ k * 128 + s * 16 + p := fun q => nq (by obtain ⟨e, _, _⟩ := uq x hx q; subst e; exact q)
      omega
    refine ev_iload (pc := 61) dX9_close_61 rfl ?_
    refine ev_aload_n (pc := 63) dX9_close_63 rfl ?_
    refine ev_getf (pc := 64) dX9_close_64 f_X9_161 (ms_M h) rfl ?_
    refine ev_icmp_geN (pc := 67) (tgt := 154) dX9_close_67 (by decide) (by omega) (show I1 3 < 2 ^ 31 by omega) (fun (q : I1 3 ≤ p) => by omega) (fun _ => ?_)
    refine ev_aload_n (pc := 70) dX9_close_70 rfl ?_
    refine ev_getf (pc := 71) dX9_close_71 f_X9_34 (ms_M h) rfl ?_
    refine ev_iload (pc := 74) dX9_close_74 rfl ?_
    refine ev_iaF (pc := 76) dX9_close_76 (ms_R h 0 (by decide)) (by omega) (by decide) ((g3 0 (by decide) p).trans y1) ?_
    refine ev_iload_n (pc := 77) dX9_close_77 rfl ?_
    refine ev_icmp_neN (pc := 78) (tgt := 148) dX9_close_78 (by decide) (by omega) (by omega) (fun c1 => ?_) (fun c1 => ?_)
    · exact skip ⟨rfl, rfl, rfl, rfl, rfl, trivial⟩ (fun q => c1 (uq p (by omega) q).2.2)
    refine ev_aload_n (pc := 81) dX9_close_81 rfl ?_
    refine ev_getf (pc := 82) dX9_close_82 f_X9_37 (ms_M h) rfl ?_
    refine ev_iload (pc := 85) dX9_close_85 rfl ?_
    refine ev_iaF (pc := 87) dX9_close_87 (ms_R h 1 (by decide)) (by omega) (by decide) ((g3 1 (by decide) p).trans y2) ?_
    refine ev_iload_n (pc := 88) dX9_close_88 rfl ?_
    refine ev_icmp_neN (pc := 89) (tgt := 148) dX9_close_89 (by decide) (by omega) (by omega) (fun c2 => ?_) (fun c2 => ?_)
    · exact skip ⟨rfl, rfl, rfl, rfl, rfl, trivial⟩ (fun q => c2 (uq p (by omega) q).2.1)
    have kp : ky kd sh p = k * 128 + s * 16 + p := by unfold ky; rw [c1, c2]
    have c3 := cn_one (kd := kd) (sh := sh) nt (show p < nt by omega) kp (fun x hx q => (uq x hx q).1)
    have c4 := cn_le (kd := kd) (sh := sh) (K := k * 128 + s * 16 + p + 1) nt
    have cl16 : cl < 16 := by omega
    have dl := dc_le (R1 5) cl
    refine ev_aload_n (pc := 92) dX9_close_92 rfl ?_
    refine ev_getf (pc := 93) dX9_close_93 f_X9_52 (ms_M h) rfl ?_
    refine ev_aload_n (pc := 96) dX9_close_96 rfl ?_
    refine ev_getf (pc := 97) dX9_close_97 f_X9_164 (ms_M h) rfl ?_
    refine ev_iload (pc := 100) dX9_close_100 rfl ?_
    refine ev_ti (y := nI p) rfl ?_
    rw [show nI (I1 4) = nI cl by rw [i4]]
    refine ev_iast (pc := 102) dX9_close_102 (ms_R h 6 (by decide)) (vp_in_nI cl16 (by decide)) ?_
    obtain ⟨h2, hF2⟩ := ms_uR (k := 6) (s := cl) (y := nI p) h (by decide) cl16
    refine ev_th (h2 := ev_up h1 (A (8 + 6)) (.inl (.int, 16, .inl (upd (R1 6) (nI cl).toNatClampNeg (nI p))))) rfl ?_
    generalize ev_up h1 (A (8 + 6)) (.inl (.int, 16, .inl (upd (R1 6) (nI cl).toNatClampNeg (nI p)))) = H2 at *
    have r6 : ∀ a b, a ≠ 6 → r_up R1 6 cl (nI p) a b = R1 a b := fun a b ha => if_neg ha
    have r6b : ∀ b, b ≠ cl → r_up R1 6 cl (nI p) 6 b = R1 6 b := fun b hb => (if_pos rfl).trans (if_neg hb)
    have r6c : r_up R1 6 cl (nI p) 6 cl = nI p := (if_pos rfl).trans (if_pos rfl)
    generalize r_up R1 6 cl (nI p) = R2 at *
    refine ev_aload_n (pc := 103) dX9_close_103 rfl ?_
    refine ev_getf (pc := 104) dX9_close_104 f_X9_49 (ms_M h2) rfl ?_
    refine ev_aload_n (pc := 107) dX9_close_107 rfl ?_
    refine ev_getf (pc := 108) dX9_close_108 f_X9_164 (ms_M h2) rfl ?_
    refine ev_aload_n (pc := 111) dX9_close_111 rfl ?_
    refine ev_iload (pc := 112) dX9_close_112 rfl ?_
    refine ev_callV (pc := 114) (As := [.int (nI p)]) dX9_close_114 cv_X9_214 rfl rfl (ms_M h2) rfl ⟨by show 19 + 6 ≤ w; omega, show ev_Ca _ _ (w - 25) _ _ _ _ _ _ from k_rperform (pl := p) (kd := kd p) (s := sh p) (a := R 2 p) (b := R 3 p) (c := R 4 p) (by omega) (by omega) h2 (by omega) ((r6 0 p (by decide)).trans ((g3 0 (by decide) p).trans y1)) ((r6 1 p (by decide)).trans ((g3 1 (by decide) p).trans y2)) ((r6 2 p (by decide)).trans (g3 2 (by decide) p)) ((r6 3 p (by decide)).trans (g3 3 (by decide) p)) ((r6 4 p (by decide)).trans (g3 4 (by decide) p)) y3 y4 ok.1 ok.2.2⟩ rfl rfl (fun r h1 hp => ?_)
    have pok := pf_ok (kd := kd p) (s := sh p) (a := R 2 p) (b := R 3 p) (c := R 4 p) ok y4
    have esq : sq R kd sh p (rst I1 v1 Q1) = pf (kd p) (sh p) (R 2 p) (R 3 p) (R 4 p) Q1 v1 (fun s => v1 (8 + s)) (I1 0) (v1 32) (v1 33) := rfl
    rw [← esq] at hp
    have pok2 : q_ok (sq R kd sh p (rst I1 v1 Q1)).2 ∧ (sq R kd sh p (rst I1 v1 Q1)).1 ≤ 3 := pok
    clear pok esq
    generalize hsq : sq R kd sh p (rst I1 v1 Q1) = SQ at *
    obtain ⟨rfl, I3, v3, Q3, ⟨h3, hF3⟩, aqq, j3⟩ := hp
    have o3 := pok2.2
    rw [show nI (I1 4) = nI cl by rw [i4]]
    refine ev_iast (pc := 117) dX9_close_117 (ms_R h3 5 (by decide)) (vp_in_nI cl16 (by decide)) ?_
    obtain ⟨h4, hF4⟩ := ms_uR (k := 5) (s := cl) (y := nI SQ.1) h3 (by decide) cl16
    refine ev_th (h2 := ev_up _ (A (8 + 5)) (.inl (.int, 16, .inl (upd (R2 5) (nI cl).toNatClampNeg (nI SQ.1))))) rfl ?_
    generalize ev_up _ (A (8 + 5)) (.inl (.int, 16, .inl (upd (R2 5) (nI cl).toNatClampNeg (nI SQ.1)))) = H4 at *
    have q5 : ∀ a b, a ≠ 5 → r_up R2 5 cl (nI SQ.1) a b = R2 a b := fun a b ha => if_neg ha
    have q5b : ∀ b, b ≠ cl → r_up R2 5 cl (nI SQ.1) 5 b = R2 5 b := fun b hb => (if_pos rfl).trans (if_neg hb)
    have q5c : r_up R2 5 cl (nI SQ.1) 5 cl = nI SQ.1 := (if_pos rfl).trans (if_pos rfl)
    generalize r_up R2 5 cl (nI SQ.1) = R4 at *
    have I4 : I3 4 = cl := (j3 4 (by decide) (by decide)).trans i4
    have low5 : ∀ j, j < cl → R1 5 j = R4 5 j := fun j hj => by rw [q5b j (by omega), r6 5 j (by decide)]
    have dc0 : dc (R4 5) cl = dc (R1 5) cl := (dc_cg cl low5).symm
    have next : ∀ {V} d2, d2 = dc (R4 5) (cl + 1) → ev_hs V [(0, .ref (A 17)), (2, .int (nI k)), (3, .int (nI s)), (4, .int (nI p))] → ev_J G (ev_cc G dd w) w m_X9_close K (137, V, [.int (nI d2)], H4, c, z) := by
      intro V d2 hd2 hv
      refine ev_vs _ hv ?_
      refine ev_istore_n (pc := 137) dX9_close_137 rfl ?_
      refine ev_aload_n (pc := 138) dX9_close_138 rfl ?_
      refine ev_dup (pc := 139) dX9_close_139 rfl ?_
      refine ev_getf (pc := 140) dX9_close_140 f_X9_164 (ms_M h4) rfl ?_
      refine ev_iconst (pc := 143) (v := nI 1) dX9_close_143 (by decide) ?_
      refine ev_iaddN (pc := 144) dX9_close_144 ?_
      refine ev_putf (pc := 145) dX9_close_145 p_X9_164 (ms_M h4) rfl rfl rfl ?_
      obtain ⟨h5, hF5⟩ := ms_uI (k := 4) (x := I3 4 + 1) (n := 17) h4 rfl
      refine ev_th (h2 := ev_up H4 (A 17) (.inr (7, (ml A I3).set 17 (.int (nI (I3 4 + 1)))))) rfl ?_
      generalize ev_up H4 (A 17) (.inr (7, (ml A I3).set 17 (.int (nI (I3 4 + 1))))) = H5 at *
      refine ev_iincN (pc := 148) dX9_close_148 rfl rfl ?_
      refine ev_goto (pc := 151) (tgt := 61) dX9_close_151 (by decide) ?_
      refine ev_vs [(0, .ref (A 17)), (1, .int (nI d2)), (2, .int (nI k)), (3, .int (nI s)), (4, .int (nI (p + 1)))] ⟨rfl, rfl, rfl, rfl, rfl, trivial⟩ ?_
      have hrun : run (sq R kd sh) (va_up od cl p) (R4 5) (cl + 1) q0 (rst (va_up I3 4 (I3 4 + 1)) v3 Q3) := by
        refine ⟨rst I1 v1 Q1, run_od cl _ _ (fun j hj => (va_up_ne _ _ (by omega)).symm) (run_cg cl _ _ low5 g9), ?_, ?_⟩
        · rw [va_up_self, hsq]; exact q5c
        · rw [va_up_self, hsq]; exact aqq
      refine l_rc3 hd hw hnt hE hk hs hK n (p + 1) H5 d2 (by omega) ⟨_, v3, Q3, R4, va_up od cl p, cl + 1, ⟨h5, (((hF.tr hF2).tr hF3).tr hF4).tr hF5⟩, ⟨?_, ?_, ?_, ?_, ?_, ?_⟩, fun a ha b => ?_, ?_, fun i hi => ?_, fun x hx hkx => ?_, fun i j hij hj => ?_, fun i hi => ?_, hrun, q_ag (p := SQ.2) aqq pok2.1, hd2⟩
      · exact (j3 1 (by decide) (by decide)).trans i1
      · exact (j3 3 (by decide) (by decide)).trans i3
      · show I3 4 + 1 = cl + 1; rw [I4]
      · exact (j3 5 (by decide) (by decide)).trans i5
      · exact (j3 6 (by decide) (by decide)).trans i6
      · exact (j3 7 (by decide) (by decide)).trans i7
      · rw [q5 a b (by omega), r6 a b (by omega)]; exact g3 a ha b
      · rw [g4]; exact c3.symm
      · by_cases x : i = cl
        · rw [x, va_up_self, kp]; exact ⟨by omega, by omega⟩
        · rw [va_up_ne _ _ x]
          have := g5 i (by omega)
          exact ⟨this.1, by omega⟩
      · by_cases x1 : ky kd sh x = k * 128 + s * 16 + p
        · exact ⟨cl, by omega, by rw [va_up_self]; exact (uq x hx x1).1.symm⟩
        · obtain ⟨i, u1, u2⟩ := g6 x hx (by omega)
          exact ⟨i, by omega, by rw [va_up_ne _ _ (by omega)]; exact u2⟩
      · by_cases x : j = cl
        · rw [x, va_up_self, va_up_ne _ _ (by omega), kp]
          exact (g5 i (by omega)).2
        · rw [va_up_ne _ _ x, va_up_ne _ _ (by omega)]
          exact g7 i j hij (by omega)
      · by_cases x : i = cl
        · rw [x, va_up_self, q5 6 cl (by decide), r6c]
        · rw [va_up_ne _ _ x, q5 6 i (by decide), r6b i x]; exact g8 i (by omega)
    refine ev_iload_n (pc := 118) dX9_close_118 rfl ?_
    refine ev_aload_n (pc := 119) dX9_close_119 rfl ?_
    refine ev_getf (pc := 120) dX9_close_120 f_X9_49 (ms_M h4) rfl ?_
    refine ev_aload_n (pc := 123) dX9_close_123 rfl ?_
    refine ev_getf (pc := 124) dX9_close_124 f_X9_164 (ms_M h4) rfl ?_
    rw [show nI (I3 4) = nI cl by rw [I4]]
    refine ev_iaF (pc := 127) dX9_close_127 (ms_R h4 5 (by decide)) cl16 (by decide) q5c ?_
    refine ev_if_neN (pc := 128) (tgt := 135) dX9_close_128 (by decide) (by omega) (fun c5 => ?_) (fun c5 => ?_)
    · refine ev_iconst (pc := 135) (v := nI 0) dX9_close_135 (by decide) ?_
      refine ev_iaddN (pc := 136) dX9_close_136 ?_
      refine next _ ?_ ⟨rfl, rfl, rfl, rfl, trivial⟩
      show d + 0 = dc (R4 5) cl + _
      rw [dc0, q5c, if_neg (fun q => absurd ((nI_eq (by omega) (show 0 < 2 ^ 31 by decide)).mp (q.trans nI_0.symm)) (by omega)), gd]
    · refine ev_iconst (pc := 131) (v := nI 1) dX9_close_131 (by decide) ?_
      refine ev_goto (pc := 132) (tgt := 136) dX9_close_132 (by decide) ?_
      refine ev_iaddN (pc := 136) dX9_close_136 ?_
      refine next _ ?_ ⟨rfl, rfl, rfl, rfl, trivial⟩
      show d + 1 = dc (R4 5) cl + _
      rw [dc0, q5c, c5, if_pos nI_0, gd]
theorem l_rc2 {K : ev_K} {c z : Nat} {q0 : qs} {k : Nat} (hd : 8 ≤ dd) (hw : 300 ≤ w) (hnt : nt ≤ 16) (hE : ∀ j, j < nt → R 0 j = nI (kd j) ∧ R 1 j = nI (sh j) ∧ kd j < 9 ∧ sh j < 8) (hk : k < 9)
    (hK : ∀ h1 d, IV H A I R lv f kd sh nt q0 ((k + 1) * 128) h1 d → ev_J G (ev_cc G dd w) w m_X9_close K (160, ev_lf [(0, .ref (A 17)), (1, .int (nI d)), (2, .int (nI k))], [], h1, c, z)) :
    ∀ n s h1 d, s + n = 8 → IV H A I R lv f kd sh nt q0 (k * 128 + s * 16) h1 d → ev_J G (ev_cc G dd w) w m_X9_close K (52, ev_lf [(0, .ref (A 17)), (1, .int (nI d)), (2, .int (nI k)), (3, .int (nI s))], [], h1, c, z)
  | 0, s, h1, d, e, iv => by
    refine ev_iload_n (pc := 52) dX9_close_52 rfl ?_
    refine ev_bipush (pc := 53) (v := nI 8) dX9_close_53 (by decide) ?_
    refine ev_icmp_geN (pc := 55) (tgt := 160) dX9_close_55 (by decide) (by omega) (by omega) (fun c1 => ?_) (fun c1 => ?_)
    · refine ev_vs [(0, .ref (A 17)), (1, .int (nI d)), (2, .int (nI k))] ⟨rfl, rfl, rfl, trivial⟩ ?_
      refine hK h1 d ?_
      rw [show (k + 1) * 128 = k * 128 + s * 16 by omega]
      exact iv
    · omega
  | n + 1, s, h1, d, e, iv => by
    refine ev_iload_n (pc := 52) dX9_close_52 rfl ?_
    refine ev_bipush (pc := 53) (v := nI 8) dX9_close_53 (by decide) ?_
    refine ev_icmp_geN (pc := 55) (tgt := 160) dX9_close_55 (by decide) (by omega) (by omega) (fun c1 => ?_) (fun c1 => ?_)
    · omega
    · refine ev_iconst (pc := 58) (v := nI 0) dX9_close_58 (by decide) ?_
      refine ev_istore (pc := 59) dX9_close_59 rfl ?_
      refine ev_vs [(0, .ref (A 17)), (1, .int (nI d)), (2, .int (nI k)), (3, .int (nI s)), (4, .int (nI 0))] ⟨rfl, rfl, rfl, rfl, rfl, trivial⟩ ?_
      refine l_rc3 hd hw hnt hE hk c1 (fun h2 d2 iv2 => ?_) nt 0 h1 d (by omega) iv
      refine ev_iincN (pc := 154) dX9_close_154 rfl rfl ?_
      refine ev_goto (pc := 157) (tgt := 52) dX9_close_157 (by decide) ?_
      refine ev_vs [(0, .ref (A 17)), (1, .int (nI d2)), (2, .int (nI k)), (3, .int (nI (s + 1)))] ⟨rfl, rfl, rfl, rfl, trivial⟩ ?_
      refine l_rc2 hd hw hnt hE hk hK n (s + 1) h2 d2 (by omega) (iv_jump (fun x hx => ?_) iv2)
      obtain ⟨-, -, -, z4⟩ := hE x hx
      unfold ky
      omega
theorem l_rc1 {K : ev_K} {c z : Nat} {q0 : qs} (hd : 8 ≤ dd) (hw : 300 ≤ w) (hnt : nt ≤ 16) (hE : ∀ j, j < nt → R 0 j = nI (kd j) ∧ R 1 j = nI (sh j) ∧ kd j < 9 ∧ sh j < 8)
    (hK : ∀ h1 d, IV H A I R lv f kd sh nt q0 1152 h1 d → ev_J G (ev_cc G dd w) w m_X9_close K (166, ev_lf [(0, .ref (A 17)), (1, .int (nI d))], [], h1, c, z)) :
    ∀ n k h1 d, k + n = 9 → IV H A I R lv f kd sh nt q0 (k * 128) h1 d → ev_J G (ev_cc G dd w) w m_X9_close K (44, ev_lf [(0, .ref (A 17)), (1, .int (nI d)), (2, .int (nI k))], [], h1, c, z)
  | 0, k, h1, d, e, iv => by
    refine ev_iload_n (pc := 44) dX9_close_44 rfl ?_
    refine ev_bipush (pc := 45) (v := nI 9) dX9_close_45 (by decide) ?_
    refine ev_icmp_geN (pc := 47) (tgt := 166) dX9_close_47 (by decide) (by omega) (by omega) (fun c1 => ?_) (fun c1 => ?_)
    · refine ev_vs [(0, .ref (A 17)), (1, .int (nI d))] ⟨rfl, rfl, trivial⟩ ?_
      refine hK h1 d ?_
      rw [show 1152 = k * 128 by omega]
      exact iv
    · omega
  | n + 1, k, h1, d, e, iv => by
    refine ev_iload_n (pc := 44) dX9_close_44 rfl ?_
    refine ev_bipush (pc := 45) (v := nI 9) dX9_close_45 (by decide) ?_
    refine ev_icmp_geN (pc := 47) (tgt := 166) dX9_close_47 (by decide) (by omega) (by omega) (fun c1 => ?_) (fun c1 => ?_)
    · omega
    · refine ev_iconst (pc := 50) (v := nI 0) dX9_close_50 (by decide) ?_
      refine ev_istore_n (pc := 51) dX9_close_51 rfl ?_
      refine ev_vs [(0, .ref (A 17)), (1, .int (nI d)), (2, .int (nI k)), (3, .int (nI 0))] ⟨rfl, rfl, rfl, rfl, trivial⟩ ?_
      refine l_rc2 hd hw hnt hE c1 (fun h2 d2 iv2 => ?_) 8 0 h1 d (by omega) iv
      refine ev_iincN (pc := 160) dX9_close_160 rfl rfl ?_
      refine ev_goto (pc := 163) (tgt := 44) dX9_close_163 (by decide) ?_
      refine ev_vs [(0, .ref (A 17)), (1, .int (nI d2)), (2, .int (nI (k + 1)))] ⟨rfl, rfl, rfl, trivial⟩ ?_
      exact l_rc1 hd hw hnt hE hK n (k + 1) h2 d2 (by omega) iv2
theorem k_rclose (hd : 9 ≤ dd) (hw : 330 ≤ w) (h : MS H A I v Q R lv f) (hb : I 1 ≤ 1) (h5 : I 5 ≤ 250) (hnt : I 3 ≤ 16) (hE : ∀ j, j < I 3 → R 0 j = nI (kd j) ∧ R 1 j = nI (sh j) ∧ kd j < 9 ∧ sh j < 8) (ok : I 1 = 1 → q_ok (rst I v Q)) : ev_Ca G dd w m_X9_close [.ref (A 17)] H 0 0 (ev_ok (fun r h1 => (¬ (I 1 = 1 ∧ I 5 < 250) ∧ r = some (.int (nI 0)) ∧ mpost H A (va_up I 7 1) v Q R lv f h1) ∨ (I 1 = 1 ∧ I 5 < 250 ∧ ∃ I1 v1 Q1 R1 od, r = some (.int (nI (dc (R1 5) (I 3)))) ∧ so kd sh (I 3) od ∧ (∀ a, a < 5 → ∀ b, R1 a b = R a b) ∧ (∀ j, j < I 3 → R1 6 j = nI (od j)) ∧ (∃ pp, run (sq R kd sh) od (R1 5) (I 3) (rst I v Q) pp ∧ aq (rst I1 v1 Q1) pp) ∧ q_ok (rst I1 v1 Q1) ∧ mpost H A I1 v1 Q1 R1 (va_up lv (I 5) (rl ((su Q1 v1 (fun s => v1 (8 + s)) (I1 0) 8).1 * v1 33) ((su Q1 v1 (fun s => v1 (8 + s)) (I1 0) 8).2 * v1 32))) f h1 ∧ I1 1 = 1 ∧ I1 3 = 0 ∧ I1 4 = I 3 ∧ I1 5 = I 5 + 1 ∧ I1 6 = I 6 ∧ I1 7 = 0))) := by
  obtain ⟨dd, rfl⟩ : ∃ e, dd = e + 1 := ⟨dd - 1, by omega⟩
  refine ⟨by decide +kernel, rfl, ?_⟩
  generalize hPost : (ev_ok (fun r h1 => (¬ (I 1 = 1 ∧ I 5 < 250) ∧ r = some (.int (nI 0)) ∧ mpost H A (va_up I 7 1) v Q R lv f h1) ∨ (I 1 = 1 ∧ I 5 < 250 ∧ ∃ I1 v1 Q1 R1 od, r = some (.int (nI (dc (R1 5) (I 3)))) ∧ so kd sh (I 3) od ∧ (∀ a, a < 5 → ∀ b, R1 a b = R a b) ∧ (∀ j, j < I 3 → R1 6 j = nI (od j)) ∧ (∃ pp, run (sq R kd sh) od (R1 5) (I 3) (rst I v Q) pp ∧ aq (rst I1 v1 Q1) pp) ∧ q_ok (rst I1 v1 Q1) ∧ mpost H A I1 v1 Q1 R1 (va_up lv (I 5) (rl ((su Q1 v1 (fun s => v1 (8 + s)) (I1 0) 8).1 * v1 33) ((su Q1 v1 (fun s => v1 (8 + s)) (I1 0) 8).2 * v1 32))) f h1 ∧ I1 1 = 1 ∧ I1 3 = 0 ∧ I1 4 = I 3 ∧ I1 5 = I 5 + 1 ∧ I1 6 = I 6 ∧ I1 7 = 0))) = KK
  have no : ∀ {V}, ev_hs V [(0, .ref (A 17))] → ¬ (I 1 = 1 ∧ I 5 < 250) → ev_J G (ev_cc G dd w) w m_X9_close KK (18, V, [.ref (A 17)], H, 0, 0) := by
    intro V hv nk
    rw [← hPost]
    refine ev_vs _ hv ?_
    refine ev_iconst (pc := 18) (v := nI 1) dX9_close_18 (by decide) ?_
    refine ev_goto (pc := 19) (tgt := 23) dX9_close_19 (by decide) ?_
    refine ev_putf (pc := 23) dX9_close_23 p_X9_66 (ms_M h) rfl rfl rfl ?_
    obtain ⟨h2, hF⟩ := ms_uI (k := 7) (x := 1) (n := 24) h rfl
    generalize ev_up H (A 17) (.inr (7, (ml A I).set 24 (.int (nI 1)))) = H2 at *
    refine ev_aload_n (pc := 26) dX9_close_26 rfl ?_
    refine ev_getf (pc := 27) dX9_close_27 f_X9_66 (ms_M h2) rfl ?_
    refine ev_if_leN (pc := 30) (tgt := 35) dX9_close_30 (by decide) (show 1 < 2 ^ 31 by decide) (fun (q : 1 = 0) => absurd q (by decide)) (fun _ => ?_)
    refine ev_iconst (pc := 33) (v := nI 0) dX9_close_33 (by decide) ?_
    exact ev_iret (pc := 34) dX9_close_34 rfl rfl (Or.inl ⟨nk, rfl, h2, hF⟩)
  refine ev_aload_n (pc := 0) dX9_close_0 rfl ?_
  refine ev_aload_n (pc := 1) dX9_close_1 rfl ?_
  refine ev_getf (pc := 2) dX9_close_2 f_X9_150 (ms_M h) rfl ?_
  refine ev_if_eqN (pc := 5) (tgt := 18) dX9_close_5 (by decide) (show I 1 < 2 ^ 31 by omega) (fun (c1 : I 1 = 0) => ?_) (fun (c1 : 0 < I 1) => ?_)
  · exact no ⟨rfl, trivial⟩ (fun q => by have := q.1; omega)
  refine ev_aload_n (pc := 8) dX9_close_8 rfl ?_
  refine ev_getf (pc := 9) dX9_close_9 f_X9_167 (ms_M h) rfl ?_
  refine ev_sipush (pc := 12) (v := nI 250) dX9_close_12 (by decide) ?_
  refine ev_icmp_neN (pc := 15) (tgt := 22) dX9_close_15 (by decide) (show I 5 < 2 ^ 31 by omega) (by decide) (fun (c2 : ¬ I 5 = 250) => ?_) (fun (c2 : I 5 = 250) => ?_)
  · have ok1 := ok (by omega)
    refine ev_iconst (pc := 22) (v := nI 0) dX9_close_22 (by decide) ?_
    refine ev_putf (pc := 23) dX9_close_23 p_X9_66 (ms_M h) rfl rfl rfl ?_
    obtain ⟨h2, hF⟩ := ms_uI (k := 7) (x := 0) (n := 24) h rfl
    generalize ev_up H (A 17) (.inr (7, (ml A I).set 24 (.int (nI 0)))) = H2 at *
    refine ev_aload_n (pc := 26) dX9_close_26 rfl ?_
    refine ev_getf (pc := 27) dX9_close_27 f_X9_66 (ms_M h2) rfl ?_
    refine ev_if_leN (pc := 30) (tgt := 35) dX9_close_30 (by decide) (show 0 < 2 ^ 31 by decide) (fun _ => ?_) (fun (q : 0 < 0) => absurd q (by decide))
    refine ev_iconst (pc := 35) (v := nI 0) dX9_close_35 (by decide) ?_
    refine ev_istore_n (pc := 36) dX9_close_36 rfl ?_
    refine ev_aload_n (pc := 37) dX9_close_37 rfl ?_
    refine ev_iconst (pc := 38) (v := nI 0) dX9_close_38 (by decide) ?_
    refine ev_putf (pc := 39) dX9_close_39 p_X9_164 (ms_M h2) rfl rfl rfl ?_
    obtain ⟨h3, hF3⟩ := ms_uI (k := 4) (x := 0) (n := 17) h2 rfl
    refine ev_th (h2 := ev_up H2 (A 17) (.inr (7, (ml A (va_up I 7 0)).set 17 (.int (nI 0))))) rfl ?_
    generalize ev_up H2 (A 17) (.inr (7, (ml A (va_up I 7 0)).set 17 (.int (nI 0)))) = H3 at *
    refine ev_iconst (pc := 42) (v := nI 0) dX9_close_42 (by decide) ?_
    refine ev_istore_n (pc := 43) dX9_close_43 rfl ?_
    refine ev_vs [(0, .ref (A 17)), (1, .int (nI 0)), (2, .int (nI 0))] ⟨rfl, rfl, rfl, trivial⟩ ?_
    have cn0 : ∀ n, cn kd sh 0 n = 0 := by
      intro n
      induction n with
      | zero => rfl
      | succ n ih => unfold cn; rw [ih, if_neg (by omega)]
    refine l_rc1 (H := H) (I := I) (q0 := rst I v Q) (by omega) (by omega) hnt hE (fun h4 d iv => ?_) 9 0 H3 0 (by omega) ⟨va_up (va_up I 7 0) 4 0, v, Q, R, (fun _ => 0), 0, ⟨h3, hF.tr hF3⟩, ⟨show I 1 = 1 by omega, rfl, rfl, rfl, rfl, rfl⟩, fun _ _ _ => rfl, by rw [Nat.zero_mul, cn0], fun i hi => absurd hi (Nat.not_lt_zero i), fun x _ q => absurd q (by omega), fun i j _ q => absurd q (Nat.not_lt_zero j), fun i hi => absurd hi (Nat.not_lt_zero i), rfl, ok1, rfl⟩
    obtain ⟨I1, v1, Q1, R1, od, cl, ⟨h5', hF5⟩, ⟨i1, i3, i4, i5, i6, i7⟩, g3, g4, g5, g6, g7, g8, g9, okq, gd⟩ := iv
    have kl : ∀ x, x < I 3 → ky kd sh x < 1152 := by
      intro x hx
      obtain ⟨-, -, z3, z4⟩ := hE x hx
      unfold ky
      omega
    rw [cn_full (I 3) kl] at g4
    subst g4
    have hso : so kd sh (I 3) od := ⟨fun i hi => (g5 i hi).1, fun x hx => g6 x hx (kl x hx), g7⟩
    refine ev_aload_n (pc := 166) dX9_close_166 rfl ?_
    refine ev_iconst (pc := 167) (v := nI 0) dX9_close_167 (by decide) ?_
    refine ev_putf (pc := 168) dX9_close_168 p_X9_161 (ms_M h5') rfl rfl rfl ?_
    obtain ⟨h6, hF6⟩ := ms_uI (k := 3) (x := 0) (n := 11) h5' rfl
    refine ev_th (h2 := ev_up h4 (A 17) (.inr (7, (ml A I1).set 11 (.int (nI 0))))) rfl ?_
    generalize ev_up h4 (A 17) (.inr (7, (ml A I1).set 11 (.int (nI 0)))) = H6 at *
    refine ev_aload_n (pc := 171) dX9_close_171 rfl ?_
    refine ev_getf (pc := 172) dX9_close_172 f_X9_55 (ms_M h6) rfl ?_
    refine ev_aload_n (pc := 175) dX9_close_175 rfl ?_
    refine ev_getf (pc := 176) dX9_close_176 f_X9_167 (ms_M h6) rfl ?_
    refine ev_aload_n (pc := 179) dX9_close_179 rfl ?_
    refine ev_callV (pc := 180) (As := []) dX9_close_180 cv_X9_217 rfl rfl (ms_M h6) rfl ⟨by show 19 + 4 ≤ w; omega, show ev_Ca _ _ (w - 23) _ _ _ _ _ _ from k_rlevel (by omega) (by omega) h6 (show va_up I1 3 0 1 ≤ 1 from by show I1 1 ≤ 1; omega) (fun _ => ⟨okq.1, okq.2.2⟩)⟩ rfl rfl (fun r h1 hp => ?_)
    rcases hp with ⟨q, -⟩ | ⟨-, rfl, v7, ⟨h7, hF7⟩, g10⟩
    · have : I1 1 = 0 := q
      omega
    have e7 : su Q1 v7 (fun s => v7 (8 + s)) (I1 0) 8 = su Q1 v1 (fun s => v1 (8 + s)) (I1 0) 8 := su_cg ⟨fun _ _ _ _ => rfl, fun j hj => ⟨g10 j (by omega), g10 (8 + j) (by omega)⟩⟩ 8 (Nat.le_refl 8)
    rw [show va_up I1 3 0 0 = I1 0 from rfl]
    rw [show nI (va_up I1 3 0 5) = nI (I 5) from by show nI (I1 5) = _; rw [i5]]
    refine ev_last (pc := 183) dX9_close_183 (ms_l h7) (vp_in_nI (show I 5 < 250 by omega) (by decide)) ?_
    obtain ⟨h8, hF8⟩ := ms_ul (s := I 5) (x := rl ((su Q1 v1 (fun s => v1 (8 + s)) (I1 0) 8).1 * v1 33) ((su Q1 v1 (fun s => v1 (8 + s)) (I1 0) 8).2 * v1 32)) h7 (by omega)
    refine ev_th (h2 := ev_up _ (A 15) (.inl (.long, 250, .inr (.inl (vp_updL (fun j => lN (lv j)) (nI (I 5)).toNatClampNeg (lN (rl ((su Q1 v1 (fun s => v1 (8 + s)) (I1 0) 8).1 * v1 33) ((su Q1 v1 (fun s => v1 (8 + s)) (I1 0) 8).2 * v1 32)))))))) rfl ?_
    generalize ev_up _ (A 15) (.inl (.long, 250, .inr (.inl (vp_updL (fun j => lN (lv j)) (nI (I 5)).toNatClampNeg (lN (rl ((su Q1 v1 (fun s => v1 (8 + s)) (I1 0) 8).1 * v1 33) ((su Q1 v1 (fun s => v1 (8 + s)) (I1 0) 8).2 * v1 32))))))) = H8 at *
    refine ev_aload_n (pc := 184) dX9_close_184 rfl ?_
    refine ev_dup (pc := 185) dX9_close_185 rfl ?_
    refine ev_getf (pc := 186) dX9_close_186 f_X9_167 (ms_M h8) rfl ?_
    refine ev_iconst (pc := 189) (v := nI 1) dX9_close_189 (by decide) ?_
    refine ev_iaddN (pc := 190) dX9_close_190 ?_
    refine ev_putf (pc := 191) dX9_close_191 p_X9_167 (ms_M h8) rfl rfl rfl ?_
    obtain ⟨h9, hF9⟩ := ms_uI (k := 5) (x := I1 5 + 1) (n := 20) h8 rfl
    refine ev_th (h2 := ev_up H8 (A 17) (.inr (7, (ml A (va_up (va_up I1 3 0) 7 0)).set 20 (.int (nI (I1 5 + 1)))))) rfl ?_
    generalize ev_up H8 (A 17) (.inr (7, (ml A (va_up (va_up I1 3 0) 7 0)).set 20 (.int (nI (I1 5 + 1))))) = H9 at *
    refine ev_iload_n (pc := 194) dX9_close_194 rfl ?_
    rw [← hPost]
    have rs : rst (va_up (va_up (va_up I1 3 0) 7 0) 5 (I1 5 + 1)) v7 Q1 = ((Q1, v7, (fun s => v7 (8 + s)), I1 0), v1 32, v1 33) := by
      unfold rst
      rw [g10 32 (by decide), g10 33 (by decide)]
      rfl
    have aq7 : aq (rst (va_up (va_up (va_up I1 3 0) 7 0) 5 (I1 5 + 1)) v7 Q1) (rst I1 v1 Q1) := by
      rw [rs]
      exact ⟨⟨fun _ _ _ _ => rfl, fun j hj => ⟨g10 j (by omega), g10 (8 + j) (by omega)⟩⟩, rfl, rfl⟩
    refine ev_iret (pc := 195) dX9_close_195 rfl rfl (Or.inr ⟨by omega, by omega, _, v7, Q1, R1, od, by rw [gd], hso, g3, g8, ⟨_, g9, aq7⟩, q_ag aq7 okq, ⟨?_, ((((hF5.tr hF6).tr hF7).tr hF8).tr hF9)⟩, i1, rfl, i4, show I1 5 + 1 = I 5 + 1 by rw [i5], i6, rfl⟩)
    · rw [show su Q1 v7 (fun s => v7 (8 + s)) (va_up (va_up (va_up I1 3 0) 7 0) 5 (I1 5 + 1) 0) 8 = su Q1 v1 (fun s => v1 (8 + s)) (I1 0) 8 from e7, g10 32 (by decide), g10 33 (by decide)]
      exact h9
  · exact no ⟨rfl, trivial⟩ (fun q => by have := q.2; omega)
end REFP
