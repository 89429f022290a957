/-! THE REFERENCE: base -/
section REFO
variable {G : ev_G} {w : Nat} {H h1 : ev_H} {A I v : Nat → Nat} {Q : Nat → Nat → Nat} {R : Nat → Nat → Int32} {lv f : Nat → Nat} {k s dd : Nat}
theorem l_rbase {K : ev_K} {c z l : Nat} (hd : 1 ≤ dd) (hw : 40 ≤ w)
    (hK : ∀ v1 h1, mpost H A I v1 Q R lv f h1 → (∀ j, j < 8 → v1 j = 1 ∧ v1 (8 + j) = 1) → ev_J G (ev_cc G dd w) w m_X9_base K (80, ev_lf [(0, .ref (A 17)), (2, .int (nI l))], [], h1, c, z)) :
    ∀ k s v1 h1, s + k = 8 → mpost H A I v1 Q R lv f h1 → (∀ j, j < s → v1 j = 1 ∧ v1 (8 + j) = 1) → ev_J G (ev_cc G dd w) w m_X9_base K (51, ev_lf [(0, .ref (A 17)), (2, .int (nI l)), (3, .int (nI s))], [], h1, c, z)
  | 0, s, v1, h1, e, e1, e2 => by
    refine ev_iload_n (pc := 51) dX9_base_51 rfl ?_
    refine ev_bipush (pc := 52) (v := nI 8) dX9_base_52 (by decide) ?_
    refine ev_icmp_geN (pc := 54) (tgt := 80) dX9_base_54 (by decide) (by omega) (by omega) (fun c1 => ?_) (fun c1 => ?_)
    · refine ev_vs [(0, .ref (A 17)), (2, .int (nI l))] ⟨rfl, rfl, trivial⟩ ?_
      exact hK v1 h1 e1 (fun j hj => e2 j (by omega))
    · omega
  | k + 1, s, v1, h1, e, e1, e2 => by
    obtain ⟨h, hF⟩ := e1
    refine ev_iload_n (pc := 51) dX9_base_51 rfl ?_
    refine ev_bipush (pc := 52) (v := nI 8) dX9_base_52 (by decide) ?_
    refine ev_icmp_geN (pc := 54) (tgt := 80) dX9_base_54 (by decide) (by omega) (by omega) (fun c1 => ?_) (fun c1 => ?_)
    · omega
    · refine ev_aload_n (pc := 57) dX9_base_57 rfl ?_
      refine ev_iconst (pc := 58) (v := nI 0) dX9_base_58 (by decide) ?_
      refine ev_iload_n (pc := 59) dX9_base_59 rfl ?_
      refine ev_iaddN (pc := 60) dX9_base_60 ?_
      refine ev_lconst (pc := 61) (v := lN 1) dX9_base_61 (by decide) ?_
      refine ev_callV (pc := 62) (As := [.int (nI (0 + s)), .long (lN 1)]) dX9_base_62 cv_X9_62 rfl rfl (ms_M h) rfl ⟨by show 19 + 6 ≤ w; omega, show ev_Ca _ _ (w - 25) _ _ _ _ _ _ from m_set (r := 0 + s) (by omega) h (by omega) (by decide)⟩ rfl rfl (fun r h1 hp => ?_)
      obtain ⟨rfl, h2, hF2⟩ := hp
      rw [Nat.zero_add] at h2
      refine ev_aload_n (pc := 65) dX9_base_65 rfl ?_
      refine ev_bipush (pc := 66) (v := nI 8) dX9_base_66 (by decide) ?_
      refine ev_iload_n (pc := 68) dX9_base_68 rfl ?_
      refine ev_iaddN (pc := 69) dX9_base_69 ?_
      refine ev_lconst (pc := 70) (v := lN 1) dX9_base_70 (by decide) ?_
      refine ev_callV (pc := 71) (As := [.int (nI (8 + s)), .long (lN 1)]) dX9_base_71 cv_X9_62 rfl rfl (ms_M h2) rfl ⟨by show 19 + 6 ≤ w; omega, show ev_Ca _ _ (w - 25) _ _ _ _ _ _ from m_set (r := 8 + s) (by omega) h2 (by omega) (by decide)⟩ rfl rfl (fun r h1 hp => ?_)
      obtain ⟨rfl, h3, hF3⟩ := hp
      refine ev_iincN (pc := 74) dX9_base_74 rfl rfl ?_
      refine ev_goto (pc := 77) (tgt := 51) dX9_base_77 (by decide) ?_
      refine ev_vs [(0, .ref (A 17)), (2, .int (nI l)), (3, .int (nI (s + 1)))] ⟨rfl, rfl, rfl, trivial⟩ ?_
      refine l_rbase hd hw hK k (s + 1) _ _ (by omega) ⟨h3, (hF.tr hF2).tr hF3⟩ (fun j hj => ?_)
      by_cases q : j = s
      · subst q
        rw [va_up_self, va_up_ne _ _ (by omega), va_up_self]
        exact ⟨rfl, rfl⟩
      · rw [va_up_ne _ _ (by omega), va_up_ne _ _ (by omega), va_up_ne _ _ (by omega), va_up_ne _ _ (by omega)]
        exact e2 j (by omega)
theorem k_rbase {x0 x1 : Int32} (hd : 7 ≤ dd) (hw : 200 ≤ w) (h : MS H A I v Q R lv f) (hP : P_ok Q) : ev_Ca G dd w m_X9_base [.ref (A 17), .int x0, .int x1] H 0 0 (ev_ok (fun r h1 => r = none ∧ ((¬ (ri x0 1 255 ∧ ri x1 1 1000000) ∧ mpost H A (va_up I 7 1) v Q R lv f h1) ∨ ∃ m l, x0 = nI m ∧ (1 ≤ m ∧ m ≤ 255) ∧ x1 = nI l ∧ (1 ≤ l ∧ l ≤ 1000000) ∧ ∃ I2 v2, mpost H A I2 v2 Q R lv f h1 ∧ (I2 0 = m ∧ I2 1 = 1 ∧ I2 3 = 0 ∧ I2 4 = 0 ∧ I2 5 = 0 ∧ I2 6 = I 6 ∧ I2 7 = 0) ∧ (∀ j, j < 8 → v2 j = 1 ∧ v2 (8 + j) = 1) ∧ v2 32 = (su Q v2 (fun s => v2 (8 + s)) m 8).1 / Nat.gcd (su Q v2 (fun s => v2 (8 + s)) m 8).1 ((su Q v2 (fun s => v2 (8 + s)) m 8).2 * l) ∧ v2 33 = (su Q v2 (fun s => v2 (8 + s)) m 8).2 * l / Nat.gcd (su Q v2 (fun s => v2 (8 + s)) m 8).1 ((su Q v2 (fun s => v2 (8 + s)) m 8).2 * l)))) := by
  obtain ⟨dd, rfl⟩ : ∃ e, dd = e + 1 := ⟨dd - 1, by omega⟩
  refine ⟨by decide +kernel, rfl, ?_⟩
  generalize hPost : (ev_ok (fun r h1 => r = none ∧ ((¬ (ri x0 1 255 ∧ ri x1 1 1000000) ∧ mpost H A (va_up I 7 1) v Q R lv f h1) ∨ ∃ m l, x0 = nI m ∧ (1 ≤ m ∧ m ≤ 255) ∧ x1 = nI l ∧ (1 ≤ l ∧ l ≤ 1000000) ∧ ∃ I2 v2, mpost H A I2 v2 Q R lv f h1 ∧ (I2 0 = m ∧ I2 1 = 1 ∧ I2 3 = 0 ∧ I2 4 = 0 ∧ I2 5 = 0 ∧ I2 6 = I 6 ∧ I2 7 = 0) ∧ (∀ j, j < 8 → v2 j = 1 ∧ v2 (8 + j) = 1) ∧ v2 32 = (su Q v2 (fun s => v2 (8 + s)) m 8).1 / Nat.gcd (su Q v2 (fun s => v2 (8 + s)) m 8).1 ((su Q v2 (fun s => v2 (8 + s)) m 8).2 * l) ∧ v2 33 = (su Q v2 (fun s => v2 (8 + s)) m 8).2 * l / Nat.gcd (su Q v2 (fun s => v2 (8 + s)) m 8).1 ((su Q v2 (fun s => v2 (8 + s)) m 8).2 * l)))) = KK
  have no : ∀ {V}, ev_hs V [(0, .ref (A 17))] → ¬ (ri x0 1 255 ∧ ri x1 1 1000000) → ev_J G (ev_cc G dd w) w m_X9_base KK (23, V, [.ref (A 17)], H, 0, 0) := by
    intro V hv nk
    rw [← hPost]
    refine ev_vs _ hv ?_
    refine ev_iconst (pc := 23) (v := nI 1) dX9_base_23 (by decide) ?_
    refine ev_goto (pc := 24) (tgt := 28) dX9_base_24 (by decide) ?_
    refine ev_putf (pc := 28) dX9_base_28 p_X9_66 (ms_M h) rfl rfl rfl ?_
    obtain ⟨h2, hF⟩ := ms_uI (k := 7) (x := 1) (n := 24) h rfl
    generalize ev_up H (A 17) (.inr (7, (ml A I).set 24 (.int (nI 1)))) = H2 at *
    refine ev_aload_n (pc := 31) dX9_base_31 rfl ?_
    refine ev_getf (pc := 32) dX9_base_32 f_X9_66 (ms_M h2) rfl ?_
    refine ev_if_leN (pc := 35) (tgt := 39) dX9_base_35 (by decide) (show 1 < 2 ^ 31 by decide) (fun (q : 1 = 0) => absurd q (by decide)) (fun _ => ?_)
    exact ev_vret (pc := 38) dX9_base_38 rfl ⟨rfl, Or.inl ⟨nk, h2, hF⟩⟩
  have i1 := i32_le (x := x0) (n := 1) (by decide)
  have i2 := i32_le (x := x0) (n := 255) (by decide)
  refine ev_aload_n (pc := 0) dX9_base_0 rfl ?_
  refine ev_iload_n (pc := 1) dX9_base_1 rfl ?_
  refine ev_iconst (pc := 2) (v := nI 1) dX9_base_2 (by decide) ?_
  refine ev_icmp_lt (pc := 3) (tgt := 23) dX9_base_3 (by decide) (fun c1 => ?_) (fun c1 => ?_)
  · have n1 := i1.2.1.mp c1
    exact no ⟨rfl, trivial⟩ (fun q => by have := q.1.1; omega)
  · have n1 : (1 : Int) ≤ x0.toInt := Int.not_lt.mp (fun q => c1 (i1.2.1.mpr q))
    refine ev_iload_n (pc := 6) dX9_base_6 rfl ?_
    refine ev_sipush (pc := 7) (v := nI 255) dX9_base_7 (by decide) ?_
    refine ev_icmp_gt (pc := 10) (tgt := 23) dX9_base_10 (by decide) (fun c2 => ?_) (fun c2 => ?_)
    · have n2 := i2.2.2.1.mp c2
      exact no ⟨rfl, trivial⟩ (fun q => by have := q.1.2; omega)
    · have n2 : x0.toInt ≤ 255 := Int.not_lt.mp (fun q => c2 (i2.2.2.1.mpr q))
      refine ev_iload_n (pc := 13) dX9_base_13 rfl ?_
      refine ev_iconst (pc := 14) (v := nI 1) dX9_base_14 (by decide) ?_
      refine ev_ldc (pc := 15) dX9_base_15 k_X9_154 ?_
      refine ev_callS (pc := 17) (As := [.int x1, .int (nI 1), .int (nI 1000000)]) dX9_base_17 cs_X9_142 rfl rfl ⟨by show 19 + 3 ≤ w; omega, show ev_Ca _ _ (w - 22) _ _ _ _ _ _ from k_in (x := x1) (lo := 1) (hi := 1000000) (by omega) (by decide) (by decide)⟩ rfl rfl (fun r h1 hp => ?_)
      obtain ⟨rfl, hH⟩ := hp
      rw [hH]
      clear hH
      by_cases c3 : ri x1 1 1000000
      · rw [show rb x1 ((1 : Nat) : Int) ((1000000 : Nat) : Int) = 1 from rb_1 c3]
        refine ev_if_neN (pc := 20) (tgt := 27) dX9_base_20 (by decide) (by decide) (fun _ => ?_) (fun q => absurd q (by decide))
        obtain ⟨m, rfl, m1, m2⟩ := ri_nI (x := x0) (lo := 1) (hi := 255) ⟨n1, n2⟩ (by decide)
        obtain ⟨l, rfl, l1, l2⟩ := ri_nI (x := x1) (lo := 1) (hi := 1000000) c3 (by decide)
        refine ev_iconst (pc := 27) (v := nI 0) dX9_base_27 (by decide) ?_
        refine ev_putf (pc := 28) dX9_base_28 p_X9_66 (ms_M h) rfl rfl rfl ?_
        obtain ⟨h2, hF⟩ := ms_uI (k := 7) (x := 0) (n := 24) h rfl
        generalize ev_up H (A 17) (.inr (7, (ml A I).set 24 (.int (nI 0)))) = H2 at *
        refine ev_aload_n (pc := 31) dX9_base_31 rfl ?_
        refine ev_getf (pc := 32) dX9_base_32 f_X9_66 (ms_M h2) rfl ?_
        refine ev_if_leN (pc := 35) (tgt := 39) dX9_base_35 (by decide) (show 0 < 2 ^ 31 by decide) (fun _ => ?_) (fun (q : 0 < 0) => absurd q (by decide))
        refine ev_aload_n (pc := 39) dX9_base_39 rfl ?_
        refine ev_iload_n (pc := 40) dX9_base_40 rfl ?_
        refine ev_putf (pc := 41) dX9_base_41 p_X9_70 (ms_M h2) rfl rfl rfl ?_
        obtain ⟨h3, hF3⟩ := ms_uI (k := 0) (x := m) (n := 5) h2 rfl
        refine ev_th (h2 := ev_up H2 (A 17) (.inr (7, (ml A (va_up I 7 0)).set 5 (.int (nI m))))) rfl ?_
        generalize ev_up H2 (A 17) (.inr (7, (ml A (va_up I 7 0)).set 5 (.int (nI m)))) = H3 at *
        refine ev_aload_n (pc := 44) dX9_base_44 rfl ?_
        refine ev_iconst (pc := 45) (v := nI 1) dX9_base_45 (by decide) ?_
        refine ev_putf (pc := 46) dX9_base_46 p_X9_150 (ms_M h3) rfl rfl rfl ?_
        obtain ⟨h4, hF4⟩ := ms_uI (k := 1) (x := 1) (n := 6) h3 rfl
        refine ev_th (h2 := ev_up H3 (A 17) (.inr (7, (ml A (va_up (va_up I 7 0) 0 m)).set 6 (.int (nI 1))))) rfl ?_
        generalize ev_up H3 (A 17) (.inr (7, (ml A (va_up (va_up I 7 0) 0 m)).set 6 (.int (nI 1)))) = H4 at *
        have J0 : va_up (va_up (va_up I 7 0) 0 m) 1 1 0 = m := rfl
        have J1 : va_up (va_up (va_up I 7 0) 0 m) 1 1 1 = 1 := rfl
        have J6 : va_up (va_up (va_up I 7 0) 0 m) 1 1 6 = I 6 := rfl
        have J7 : va_up (va_up (va_up I 7 0) 0 m) 1 1 7 = 0 := rfl
        generalize va_up (va_up (va_up I 7 0) 0 m) 1 1 = J at *
        refine ev_iconst (pc := 49) (v := nI 0) dX9_base_49 (by decide) ?_
        refine ev_istore_n (pc := 50) dX9_base_50 rfl ?_
        refine ev_vs [(0, .ref (A 17)), (2, .int (nI l)), (3, .int (nI 0))] ⟨rfl, rfl, rfl, trivial⟩ ?_
        refine l_rbase (H := H) (by omega) (by omega) (fun v1 h1 g1 g2 => ?_) 8 0 v H4 (by omega) ⟨h4, (hF.tr hF3).tr hF4⟩ (fun j hj => absurd hj (Nat.not_lt_zero j))
        obtain ⟨h5, hF5⟩ := g1
        have hf : f_ok v1 (fun s => v1 (8 + s)) := by
          intro s hs
          obtain ⟨q1, q2⟩ := g2 s hs
          show (0 < v1 s ∧ v1 s < 2 ^ 63) ∧ 0 < v1 (8 + s) ∧ v1 (8 + s) < 2 ^ 63
          rw [q1, q2]
          decide
        have hm : J 0 < 256 := by rw [J0]; omega
        have hm0 : J 0 ≠ 0 := by rw [J0]; omega
        obtain ⟨y1, y2⟩ := su_p8 hP hf hm hm0
        obtain ⟨yb1, yb2⟩ := su_b8 (mem := J 0) hP hf (Nat.le_refl 8)
        obtain ⟨p1, p2, p3, p4⟩ := lt_pos y1 y2
        refine ev_aload_n (pc := 80) dX9_base_80 rfl ?_
        refine ev_callV (pc := 81) (As := []) dX9_base_81 cv_X9_155 rfl rfl (ms_M h5) rfl ⟨by show 19 + 2 ≤ w; omega, show ev_Ca _ _ (w - 21) _ _ _ _ _ _ from k_sum (by omega) (by omega) h5 hP hf hm hm0⟩ rfl rfl (fun r h1 hp => ?_)
        obtain ⟨rfl, v2, ⟨h6, hF6⟩, s1, s2, s3⟩ := hp
        rw [J0] at s1 s2 y1 y2 yb1 yb2 p1 p2 p3 p4
        refine ev_aload_n (pc := 84) dX9_base_84 rfl ?_
        refine ev_bipush (pc := 85) (v := nI 32) dX9_base_85 (by decide) ?_
        refine ev_bipush (pc := 87) (v := nI 34) dX9_base_87 (by decide) ?_
        refine ev_callV (pc := 89) (As := [.int (nI 32), .int (nI 34)]) dX9_base_89 cv_X9_101 rfl rfl (ms_M h6) rfl ⟨by show 19 + 4 ≤ w; omega, show ev_Ca _ _ (w - 23) _ _ _ _ _ _ from m_copy (r := 32) (o := 34) (by omega) h6 (by omega) (by omega) (by omega)⟩ rfl rfl (fun r h1 hp => ?_)
        obtain ⟨rfl, h7, hF7⟩ := hp
        rw [s1] at h7
        refine ev_aload_n (pc := 92) dX9_base_92 rfl ?_
        refine ev_bipush (pc := 93) (v := nI 33) dX9_base_93 (by decide) ?_
        refine ev_bipush (pc := 95) (v := nI 35) dX9_base_95 (by decide) ?_
        refine ev_callV (pc := 97) (As := [.int (nI 33), .int (nI 35)]) dX9_base_97 cv_X9_101 rfl rfl (ms_M h7) rfl ⟨by show 19 + 4 ≤ w; omega, show ev_Ca _ _ (w - 23) _ _ _ _ _ _ from m_copy (r := 33) (o := 35) (by omega) h7 (by omega) (by omega) (by omega)⟩ rfl rfl (fun r h1 hp => ?_)
        obtain ⟨rfl, h8, hF8⟩ := hp
        rw [va_up_ne _ _ (show (35 : Nat) ≠ 32 by decide), s2] at h8
        have cr : lt1 (su Q v1 (fun s => v1 (8 + s)) m 8) * ((su Q v1 (fun s => v1 (8 + s)) m 8).2 * l) = lt2 (su Q v1 (fun s => v1 (8 + s)) m 8) * l * (su Q v1 (fun s => v1 (8 + s)) m 8).1 := by
          have e1 : lt1 (su Q v1 (fun s => v1 (8 + s)) m 8) * (su Q v1 (fun s => v1 (8 + s)) m 8).2 = lt2 (su Q v1 (fun s => v1 (8 + s)) m 8) * (su Q v1 (fun s => v1 (8 + s)) m 8).1 := gd_cross
          generalize su Q v1 (fun s => v1 (8 + s)) m 8 = W at *
          calc lt1 W * (W.2 * l) = lt1 W * W.2 * l := by ac_rfl
            _ = lt2 W * W.1 * l := by rw [e1]
            _ = lt2 W * l * W.1 := by ac_rfl
        obtain ⟨un1, un2⟩ := gd_uni p1 y1 cr
        have esu : ∀ v9 : Nat → Nat, (∀ i, i < 16 → v9 i = v1 i) → su Q v9 (fun s => v9 (8 + s)) m 8 = su Q v1 (fun s => v1 (8 + s)) m 8 := fun v9 e => su_cg ⟨fun _ _ _ _ => rfl, fun j hj => ⟨e j (by omega), e (8 + j) (by omega)⟩⟩ 8 (Nat.le_refl 8)
        generalize hW : su Q v1 (fun s => v1 (8 + s)) m 8 = W at *
        have k2 : lt2 W < 2 ^ 505 := Nat.lt_of_le_of_lt p4 yb2
        have k3 : lt2 W * l < 2 ^ (505 + 20) := p2_mul k2 (by omega)
        have k1 : lt1 W < 2 ^ 571 := Nat.lt_of_le_of_lt p3 yb1
        refine ev_aload_n (pc := 100) dX9_base_100 rfl ?_
        refine ev_bipush (pc := 101) (v := nI 33) dX9_base_101 (by decide) ?_
        refine ev_iload_n (pc := 103) dX9_base_103 rfl ?_
        refine ev_callV (pc := 104) (As := [.int (nI 33), .int (nI l)]) dX9_base_104 cv_X9_158 rfl rfl (ms_M h8) rfl ⟨by show 19 + 8 ≤ w; omega, show ev_Ca _ _ (w - 27) _ _ _ _ _ _ from m_scale (r := 33) (b := l) (by omega) (by omega) h8 (by omega) (by omega) (by rw [va_up_self]; exact p2_le139 (by decide) k2)⟩ rfl rfl (fun r h1 hp => ?_)
        obtain ⟨rfl, h9, hF9⟩ := hp
        rw [va_up_self, va_uu] at h9
        have e32 : va_up (va_up v2 32 (lt1 W)) 33 (lt2 W * l) 32 = lt1 W := rfl
        have e33 : va_up (va_up v2 32 (lt1 W)) 33 (lt2 W * l) 33 = lt2 W * l := rfl
        have elo : ∀ i, i < 32 → va_up (va_up v2 32 (lt1 W)) 33 (lt2 W * l) i = v1 i := fun i hi => by rw [va_up_ne _ _ (by omega), va_up_ne _ _ (by omega), s3 i (by omega) (by omega) (by omega)]
        generalize va_up (va_up v2 32 (lt1 W)) 33 (lt2 W * l) = v3 at *
        refine ev_aload_n (pc := 107) dX9_base_107 rfl ?_
        refine ev_bipush (pc := 108) (v := nI 32) dX9_base_108 (by decide) ?_
        refine ev_bipush (pc := 110) (v := nI 33) dX9_base_110 (by decide) ?_
        refine ev_callV (pc := 112) (As := [.int (nI 32), .int (nI 33)]) dX9_base_112 cv_X9_138 rfl rfl (ms_M h9) rfl ⟨by show 19 + 3 ≤ w; omega, show ev_Ca _ _ (w - 22) _ _ _ _ _ _ from m_reduce (t := 32) (b := 33) (by omega) (by omega) h9 (by omega) (by omega) (by omega) (by rw [e32]; exact p1) (by rw [e32]; exact p2_le139 (by decide) k1) (by rw [e33]; exact p2_le139 (by decide) k3)⟩ rfl rfl (fun r h1 hp => ?_)
        obtain ⟨rfl, v4, ⟨hA, hFA⟩, q1, q2, q3⟩ := hp
        rw [e32, e33] at q1 q2
        refine ev_aload_n (pc := 115) dX9_base_115 rfl ?_
        refine ev_iconst (pc := 116) (v := nI 0) dX9_base_116 (by decide) ?_
        refine ev_putf (pc := 117) dX9_base_117 p_X9_161 (ms_M hA) rfl rfl rfl ?_
        obtain ⟨hB, hFB⟩ := ms_uI (k := 3) (x := 0) (n := 11) hA rfl
        refine ev_th (h2 := ev_up h1 (A 17) (.inr (7, (ml A J).set 11 (.int (nI 0))))) rfl ?_
        generalize ev_up h1 (A 17) (.inr (7, (ml A J).set 11 (.int (nI 0)))) = HB at *
        refine ev_aload_n (pc := 120) dX9_base_120 rfl ?_
        refine ev_iconst (pc := 121) (v := nI 0) dX9_base_121 (by decide) ?_
        refine ev_putf (pc := 122) dX9_base_122 p_X9_164 (ms_M hB) rfl rfl rfl ?_
        obtain ⟨hC, hFC⟩ := ms_uI (k := 4) (x := 0) (n := 17) hB rfl
        refine ev_th (h2 := ev_up HB (A 17) (.inr (7, (ml A (va_up J 3 0)).set 17 (.int (nI 0))))) rfl ?_
        generalize ev_up HB (A 17) (.inr (7, (ml A (va_up J 3 0)).set 17 (.int (nI 0)))) = HC at *
        refine ev_aload_n (pc := 125) dX9_base_125 rfl ?_
        refine ev_iconst (pc := 126) (v := nI 0) dX9_base_126 (by decide) ?_
        refine ev_putf (pc := 127) dX9_base_127 p_X9_167 (ms_M hC) rfl rfl rfl ?_
        obtain ⟨hD, hFD⟩ := ms_uI (k := 5) (x := 0) (n := 20) hC rfl
        rw [← hPost]
        have lo4 : ∀ i, i < 16 → v4 i = v1 i := fun i hi => by rw [q3 i (by omega) (by omega) (by omega), elo i (by omega)]
        have e4 := esu v4 lo4
        refine ev_vret (pc := 130) dX9_base_130 rfl ⟨rfl, Or.inr ⟨m, l, rfl, ⟨m1, m2⟩, rfl, ⟨l1, l2⟩, _, v4, ⟨hD, ((((((((hF5.tr hF6).tr hF7).tr hF8).tr hF9).tr hFA).tr hFB).tr hFC).tr hFD)⟩, ⟨J0, J1, rfl, rfl, rfl, J6, J7⟩, fun j hj => ?_, ?_, ?_⟩⟩
        · rw [lo4 j (by omega), lo4 (8 + j) (by omega)]; exact g2 j hj
        · rw [e4, q1, un1]
        · rw [e4, q2, un2]
      · rw [show rb x1 ((1 : Nat) : Int) ((1000000 : Nat) : Int) = 0 from rb_0 c3]
        refine ev_if_neN (pc := 20) (tgt := 27) dX9_base_20 (by decide) (by decide) (fun q => absurd q (by decide)) (fun _ => ?_)
        exact no ⟨rfl, trivial⟩ (fun q => c3 q.2)
end REFO
