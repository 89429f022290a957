/-! THE REFERENCE: level, weight -/
theorem mt_st {g : Nat → Nat} {n j : Nat} (h : j < n) : mb_v (fun i => g (j + i)) (n - j) = mb_v (fun i => g (j + 1 + i)) (n - (j + 1)) * 1073741824 + g j := by
  obtain ⟨m, rfl⟩ := Nat.exists_eq_add_of_le (show j + 1 ≤ n by omega)
  rw [show j + 1 + m - j = 1 + m by omega, show j + 1 + m - (j + 1) = m by omega, mb_cut (fun i => g (j + i)) 1 m, mb_vs, mb_v0, Nat.pow_zero, Nat.pow_one, Nat.mul_one, Nat.zero_add, Nat.add_zero, Nat.add_comm, Nat.mul_comm]
  congr 2
  exact mb_congr (fun i _ => by rw [Nat.add_assoc])
theorem rl_lt {W : Nat × Nat} {D1 D2 : Nat} (h1 : 0 < W.1) : (lt1 W * D2 * 200 + lt2 W * D1) / (lt2 W * D1 * 2) = (W.1 * D2 * 200 + W.2 * D1) / (W.2 * D1 * 2) := by
  have g0 : 0 < Nat.gcd W.1 W.2 := Nat.gcd_pos_of_pos_left _ h1
  have e1 : lt1 W * Nat.gcd W.1 W.2 = W.1 := Nat.div_mul_cancel (Nat.gcd_dvd_left _ _)
  have e2 : lt2 W * Nat.gcd W.1 W.2 = W.2 := Nat.div_mul_cancel (Nat.gcd_dvd_right _ _)
  generalize Nat.gcd W.1 W.2 = g at *
  rw [← Nat.mul_div_mul_right _ _ g0]
  congr 1
  · rw [Nat.add_mul, ← e1, ← e2]
    congr 1 <;> ac_rfl
  · rw [← e2]; ac_rfl
theorem wt_lt {W : Nat × Nat} {p u d : Nat} (h1 : 0 < W.1) : p * 1000000000 * u * lt2 W / (d * lt1 W) = W.2 * p * u * 1000000000 / (W.1 * d) := by
  have g0 : 0 < Nat.gcd W.1 W.2 := Nat.gcd_pos_of_pos_left _ h1
  have e1 : lt1 W * Nat.gcd W.1 W.2 = W.1 := Nat.div_mul_cancel (Nat.gcd_dvd_left _ _)
  have e2 : lt2 W * Nat.gcd W.1 W.2 = W.2 := Nat.div_mul_cancel (Nat.gcd_dvd_right _ _)
  generalize Nat.gcd W.1 W.2 = g at *
  rw [← Nat.mul_div_mul_right _ _ g0]
  congr 1
  · rw [← e2]; ac_rfl
  · rw [← e1]; ac_rfl
section REFM
variable {G : ev_G} {w : Nat} {H h1 : ev_H} {A I v : Nat → Nat} {Q : Nat → Nat → Nat} {R : Nat → Nat → Int32} {lv f : Nat → Nat} {k s dd M lm sz : Nat} {rest : List Value}
theorem l_lev {K : ev_K} {c z x : Nat} {L s : Nat → Nat} (hM : H M = some (.inr (7, .ref lm :: .ref sz :: rest))) (hL : H lm = some (.inl (.int, 6580, .inl (fun j => nI (L j))))) (hV : rv L s 43 x)
    (hK : ev_J G (ev_cc G dd w) w m_X9_level K (131, ev_lf [(0, .ref M), (1, .long (lN x))], [], H, c, z)) :
    ∀ j, j ≤ s 43 → ev_J G (ev_cc G dd w) w m_X9_level K (103, ev_lf [(0, .ref M), (1, .long (lN (mb_v (fun i => L (140 * 43 + (j + i))) (s 43 - j)))), (3, .int (nI j - nI 1))], [], H, c, z)
  | 0, hj => by
    refine ev_iload_n (pc := 103) dX9_level_103 rfl ?_
    refine ev_if_lt (pc := 104) (tgt := 131) dX9_level_104 (by decide) (fun c1 => ?_) (fun c1 => ?_)
    · refine ev_vs [(0, .ref M), (1, .long (lN x))] ⟨rfl, ?_, trivial⟩ ?_
      · show some (Value.long (lN (mb_v (fun i => L (140 * 43 + (0 + i))) (s 43 - 0)))) = some (Value.long (lN x))
        rw [Nat.sub_zero, ← hV.2.2.2]
        congr 3
        exact mb_congr (fun i _ => by rw [Nat.zero_add])
      · exact hK
    · exact absurd (by decide) c1
  | j + 1, hj => by
    have b1 := hV.2.1 j (by omega)
    have b2 := hV.1
    have ej : nI (j + 1) - nI 1 = nI j := pk_sub (show 1 ≤ j + 1 by omega)
    rw [ej]
    refine ev_iload_n (pc := 103) dX9_level_103 rfl ?_
    refine ev_if_ltN (pc := 104) (tgt := 131) dX9_level_104 (by decide) (by omega) ?_
    refine ev_lload_n (pc := 107) dX9_level_107 rfl ?_
    refine ev_ldc2 (pc := 108) dX9_level_108 k_X9_73 ?_
    refine ev_lmulN (pc := 111) dX9_level_111 ?_
    refine ev_aload_n (pc := 112) dX9_level_112 rfl ?_
    refine ev_getf (pc := 113) dX9_level_113 f_X9_7 hM rfl ?_
    refine ev_sipush (pc := 116) (v := nI 6020) dX9_level_116 (by decide) ?_
    refine ev_iload_n (pc := 119) dX9_level_119 rfl ?_
    refine ev_iaddN (pc := 120) dX9_level_120 ?_
    refine ev_iaN (pc := 121) dX9_level_121 hL (by omega) (by decide) ?_
    rw [show 6020 + j = 140 * 43 + j by omega]
    refine ev_i2lN (pc := 122) dX9_level_122 (by omega) ?_
    refine ev_laddN (pc := 123) dX9_level_123 ?_
    refine ev_lstore_n (pc := 124) dX9_level_124 rfl ?_
    refine ev_iinc (pc := 125) dX9_level_125 rfl rfl ?_
    refine ev_goto (pc := 128) (tgt := 103) dX9_level_128 (by decide) ?_
    refine ev_vs [(0, .ref M), (1, .long (lN (mb_v (fun i => L (140 * 43 + (j + i))) (s 43 - j)))), (3, .int (nI j - nI 1))] ⟨rfl, ?_, ev_s1e (mi_m1 j), trivial⟩ ?_
    · rw [mt_st (g := fun i => L (140 * 43 + i)) (show j < s 43 by omega)]; rfl
    · exact l_lev hM hL hV hK j (by omega)
theorem l_wei {K : ev_K} {c z x : Nat} {L s : Nat → Nat} (hM : H M = some (.inr (7, .ref lm :: .ref sz :: rest))) (hL : H lm = some (.inl (.int, 6580, .inl (fun j => nI (L j))))) (hV : rv L s 43 x)
    (hK : K (.inl (some (.int (nI x)))) H) :
    ∀ j, j ≤ s 43 → ev_J G (ev_cc G dd w) w m_X9_weight K (112, ev_lf [(0, .ref M), (2, .int (nI (mb_v (fun i => L (140 * 43 + (j + i))) (s 43 - j)))), (3, .int (nI j - nI 1))], [], H, c, z)
  | 0, hj => by
    have e : mb_v (fun i => L (140 * 43 + (0 + i))) (s 43 - 0) = x := by
      rw [Nat.sub_zero, ← hV.2.2.2]
      exact mb_congr (fun i _ => by rw [Nat.zero_add])
    rw [e]
    refine ev_iload_n (pc := 112) dX9_weight_112 rfl ?_
    refine ev_if_lt (pc := 113) (tgt := 138) dX9_weight_113 (by decide) (fun c1 => ?_) (fun c1 => ?_)
    · refine ev_iload_n (pc := 138) dX9_weight_138 rfl ?_
      exact ev_iret (pc := 139) dX9_weight_139 rfl rfl hK
    · exact absurd (by decide) c1
  | j + 1, hj => by
    have b1 := hV.2.1 j (by omega)
    have b2 := hV.1
    have ej : nI (j + 1) - nI 1 = nI j := pk_sub (show 1 ≤ j + 1 by omega)
    rw [ej]
    refine ev_iload_n (pc := 112) dX9_weight_112 rfl ?_
    refine ev_if_ltN (pc := 113) (tgt := 138) dX9_weight_113 (by decide) (by omega) ?_
    refine ev_iload_n (pc := 116) dX9_weight_116 rfl ?_
    refine ev_ldc (pc := 117) dX9_weight_117 k_X9_86 ?_
    refine ev_imulN (pc := 119) dX9_weight_119 ?_
    refine ev_aload_n (pc := 120) dX9_weight_120 rfl ?_
    refine ev_getf (pc := 121) dX9_weight_121 f_X9_7 hM rfl ?_
    refine ev_sipush (pc := 124) (v := nI 6020) dX9_weight_124 (by decide) ?_
    refine ev_iload_n (pc := 127) dX9_weight_127 rfl ?_
    refine ev_iaddN (pc := 128) dX9_weight_128 ?_
    refine ev_iaN (pc := 129) dX9_weight_129 hL (by omega) (by decide) ?_
    rw [show 6020 + j = 140 * 43 + j by omega]
    refine ev_iaddN (pc := 130) dX9_weight_130 ?_
    refine ev_istore_n (pc := 131) dX9_weight_131 rfl ?_
    refine ev_iinc (pc := 132) dX9_weight_132 rfl rfl ?_
    refine ev_goto (pc := 135) (tgt := 112) dX9_weight_135 (by decide) ?_
    refine ev_vs [(0, .ref M), (2, .int (nI (mb_v (fun i => L (140 * 43 + (j + i))) (s 43 - j)))), (3, .int (nI j - nI 1))] ⟨rfl, ?_, ev_s1e (mi_m1 j), trivial⟩ ?_
    · rw [mt_st (g := fun i => L (140 * 43 + i)) (show j < s 43 by omega)]; rfl
    · exact l_wei hM hL hV hK j (by omega)
theorem k_rlevel (hd : 7 ≤ dd) (hw : 200 ≤ w) (h : MS H A I v Q R lv f) (hb : I 1 ≤ 1) (ok : I 1 = 1 → st_ok Q v (fun s => v (8 + s)) (I 0) ∧ dv_ok (v 32) (v 33)) : ev_Ca G dd w m_X9_level [.ref (A 17)] H 0 0 (ev_ok (fun r h1 => (I 1 = 0 ∧ r = some (.long (-1)) ∧ mpost H A (va_up I 7 0) v Q R lv f h1) ∨ (I 1 = 1 ∧ r = some (.long (lN (rl ((su Q v (fun s => v (8 + s)) (I 0) 8).1 * v 33) ((su Q v (fun s => v (8 + s)) (I 0) 8).2 * v 32)))) ∧ ∃ v2, mpost H A (va_up I 7 0) v2 Q R lv f h1 ∧ ∀ i, i < 34 → v2 i = v i))) := by
  obtain ⟨dd, rfl⟩ : ∃ e, dd = e + 1 := ⟨dd - 1, by omega⟩
  refine ⟨by decide +kernel, rfl, ?_⟩
  refine ev_aload_n (pc := 0) dX9_level_0 rfl ?_
  refine ev_iconst (pc := 1) (v := nI 0) dX9_level_1 (by decide) ?_
  refine ev_putf (pc := 2) dX9_level_2 p_X9_66 (ms_M h) rfl rfl rfl ?_
  obtain ⟨h2, hF⟩ := ms_uI (k := 7) (x := 0) (n := 24) h rfl
  generalize ev_up H (A 17) (.inr (7, (ml A I).set 24 (.int (nI 0)))) = H2 at *
  refine ev_aload_n (pc := 5) dX9_level_5 rfl ?_
  refine ev_getf (pc := 6) dX9_level_6 f_X9_150 (ms_M h2) rfl ?_
  refine ev_if_neN (pc := 9) (tgt := 16) dX9_level_9 (by decide) (show I 1 < 2 ^ 31 by omega) (fun (c1 : 0 < I 1) => ?_) (fun (c1 : I 1 = 0) => ?_)
  · obtain ⟨⟨hP, hf, hm, hm0⟩, w1, w2, w3, w4, w5⟩ := ok (by omega)
    obtain ⟨y1, y2⟩ := su_p8 hP hf hm hm0
    obtain ⟨yb1, yb2⟩ := su_b8 (mem := I 0) hP hf (Nat.le_refl 8)
    obtain ⟨l1, l2, l3, l4⟩ := lt_pos y1 y2
    refine ev_aload_n (pc := 16) dX9_level_16 rfl ?_
    refine ev_callV (pc := 17) (As := []) dX9_level_17 cv_X9_155 rfl rfl (ms_M h2) rfl ⟨by show 19 + 2 ≤ w; omega, show ev_Ca _ _ (w - 21) _ _ _ _ _ _ from k_sum (by omega) (by omega) h2 hP hf (show va_up I 7 0 0 < 256 from hm) (show va_up I 7 0 0 ≠ 0 from hm0)⟩ rfl rfl (fun r h1 hp => ?_)
    rw [show va_up I 7 0 0 = I 0 from rfl] at hp
    obtain ⟨rfl, v2, ⟨h3, hF3⟩, s1, s2, s3⟩ := hp
    have ert := rl_lt (D1 := v 32) (D2 := v 33) y1
    generalize hW : su Q v (fun s => v (8 + s)) (I 0) 8 = W at *
    have z32 : v2 32 = v 32 := s3 32 (by decide) (by decide) (by decide)
    have z33 : v2 33 = v 33 := s3 33 (by decide) (by decide) (by decide)
    have k1 : lt1 W * v 33 < 2 ^ (571 + 512) := p2_mul (Nat.lt_of_le_of_lt l3 yb1) w4
    have k2 : lt2 W * v 32 < 2 ^ (505 + 512) := p2_mul (Nat.lt_of_le_of_lt l4 yb2) w3
    have k3 : lt1 W * v 33 * 200 < 2 ^ (571 + 512 + 8) := p2_mul k1 (by decide)
    have k4 : lt1 W * v 33 * 200 + lt2 W * v 32 < 2 ^ (571 + 512 + 8 + 1) := p2_add k3 (p2_le (by decide) k2)
    refine ev_aload_n (pc := 20) dX9_level_20 rfl ?_
    refine ev_bipush (pc := 21) (v := nI 38) dX9_level_21 (by decide) ?_
    refine ev_bipush (pc := 23) (v := nI 34) dX9_level_23 (by decide) ?_
    refine ev_bipush (pc := 25) (v := nI 33) dX9_level_25 (by decide) ?_
    refine ev_callV (pc := 27) (As := [.int (nI 38), .int (nI 34), .int (nI 33)]) dX9_level_27 cv_X9_131 rfl rfl (ms_M h3) rfl ⟨by show 19 + 11 ≤ w; omega, show ev_Ca _ _ (w - 30) _ _ _ _ _ _ from m_mul (r := 38) (p := 34) (q := 33) (by omega) (by omega) h3 (by omega) (by omega) (by omega) (by omega) (by omega) (by rw [z33, s1]; exact p2_le139 (by decide) k1)⟩ rfl rfl (fun r h1 hp => ?_)
    obtain ⟨rfl, h4, hF4⟩ := hp
    rw [z33, s1] at h4
    refine ev_aload_n (pc := 30) dX9_level_30 rfl ?_
    refine ev_bipush (pc := 31) (v := nI 39) dX9_level_31 (by decide) ?_
    refine ev_bipush (pc := 33) (v := nI 35) dX9_level_33 (by decide) ?_
    refine ev_bipush (pc := 35) (v := nI 32) dX9_level_35 (by decide) ?_
    refine ev_callV (pc := 37) (As := [.int (nI 39), .int (nI 35), .int (nI 32)]) dX9_level_37 cv_X9_131 rfl rfl (ms_M h4) rfl ⟨by show 19 + 11 ≤ w; omega, show ev_Ca _ _ (w - 30) _ _ _ _ _ _ from m_mul (r := 39) (p := 35) (q := 32) (by omega) (by omega) h4 (by omega) (by omega) (by omega) (by omega) (by omega) (by rw [va_up_ne _ _ (by decide), va_up_ne _ _ (by decide), z32, s2]; exact p2_le139 (by decide) k2)⟩ rfl rfl (fun r h1 hp => ?_)
    obtain ⟨rfl, h5, hF5⟩ := hp
    rw [va_up_ne _ _ (show (35 : Nat) ≠ 38 by decide), va_up_ne _ _ (show (32 : Nat) ≠ 38 by decide), z32, s2] at h5
    have e38 : va_up (va_up v2 38 (lt1 W * v 33)) 39 (lt2 W * v 32) 38 = lt1 W * v 33 := rfl
    have e39 : va_up (va_up v2 38 (lt1 W * v 33)) 39 (lt2 W * v 32) 39 = lt2 W * v 32 := rfl
    have elo : ∀ i, i < 34 → va_up (va_up v2 38 (lt1 W * v 33)) 39 (lt2 W * v 32) i = v i := fun i hi => by rw [va_up_ne _ _ (by omega), va_up_ne _ _ (by omega), s3 i (by omega) (by omega) (by omega)]
    generalize va_up (va_up v2 38 (lt1 W * v 33)) 39 (lt2 W * v 32) = v3 at *
    refine ev_aload_n (pc := 40) dX9_level_40 rfl ?_
    refine ev_bipush (pc := 41) (v := nI 38) dX9_level_41 (by decide) ?_
    refine ev_sipush (pc := 43) (v := nI 200) dX9_level_43 (by decide) ?_
    refine ev_callV (pc := 46) (As := [.int (nI 38), .int (nI 200)]) dX9_level_46 cv_X9_158 rfl rfl (ms_M h5) rfl ⟨by show 19 + 8 ≤ w; omega, show ev_Ca _ _ (w - 27) _ _ _ _ _ _ from m_scale (r := 38) (b := 200) (by omega) (by omega) h5 (by omega) (by decide) (by rw [e38]; exact p2_le139 (by decide) k1)⟩ rfl rfl (fun r h1 hp => ?_)
    obtain ⟨rfl, h6, hF6⟩ := hp
    rw [e38] at h6
    refine ev_aload_n (pc := 49) dX9_level_49 rfl ?_
    refine ev_bipush (pc := 50) (v := nI 38) dX9_level_50 (by decide) ?_
    refine ev_bipush (pc := 52) (v := nI 39) dX9_level_52 (by decide) ?_
    refine ev_callV (pc := 54) (As := [.int (nI 38), .int (nI 39)]) dX9_level_54 cv_X9_135 rfl rfl (ms_M h6) rfl ⟨by show 19 + 7 ≤ w; omega, show ev_Ca _ _ (w - 26) _ _ _ _ _ _ from m_add (r := 38) (o := 39) (by omega) (by omega) h6 (by omega) (by omega) (by omega) (by rw [va_up_self]; exact p2_le139 (by decide) k3) (by rw [va_up_ne _ _ (by decide), e39]; exact p2_le139 (by decide) k2)⟩ rfl rfl (fun r h1 hp => ?_)
    obtain ⟨rfl, h7, hF7⟩ := hp
    rw [va_up_self, va_up_ne _ _ (show (39 : Nat) ≠ 38 by decide), e39] at h7
    refine ev_aload_n (pc := 57) dX9_level_57 rfl ?_
    refine ev_bipush (pc := 58) (v := nI 39) dX9_level_58 (by decide) ?_
    refine ev_iconst (pc := 60) (v := nI 2) dX9_level_60 (by decide) ?_
    refine ev_callV (pc := 61) (As := [.int (nI 39), .int (nI 2)]) dX9_level_61 cv_X9_158 rfl rfl (ms_M h7) rfl ⟨by show 19 + 8 ≤ w; omega, show ev_Ca _ _ (w - 27) _ _ _ _ _ _ from m_scale (r := 39) (b := 2) (by omega) (by omega) h7 (by omega) (by decide) (by rw [va_up_ne _ _ (by decide), va_up_ne _ _ (by decide), e39]; exact p2_le139 (by decide) k2)⟩ rfl rfl (fun r h1 hp => ?_)
    obtain ⟨rfl, h8, hF8⟩ := hp
    rw [va_up_ne _ _ (show (39 : Nat) ≠ 38 by decide), va_up_ne _ _ (show (39 : Nat) ≠ 38 by decide), e39] at h8
    have f38 : va_up (va_up (va_up v3 38 (lt1 W * v 33 * 200)) 38 (lt1 W * v 33 * 200 + lt2 W * v 32)) 39 (lt2 W * v 32 * 2) 38 = lt1 W * v 33 * 200 + lt2 W * v 32 := rfl
    have f39 : va_up (va_up (va_up v3 38 (lt1 W * v 33 * 200)) 38 (lt1 W * v 33 * 200 + lt2 W * v 32)) 39 (lt2 W * v 32 * 2) 39 = lt2 W * v 32 * 2 := rfl
    have flo : ∀ i, i < 34 → va_up (va_up (va_up v3 38 (lt1 W * v 33 * 200)) 38 (lt1 W * v 33 * 200 + lt2 W * v 32)) 39 (lt2 W * v 32 * 2) i = v i := fun i hi => by rw [va_up_ne _ _ (by omega), va_up_ne _ _ (by omega), va_up_ne _ _ (by omega), elo i hi]
    generalize va_up (va_up (va_up v3 38 (lt1 W * v 33 * 200)) 38 (lt1 W * v 33 * 200 + lt2 W * v 32)) 39 (lt2 W * v 32 * 2) = v4 at *
    have m0 : 0 < lt2 W * v 32 * 2 := Nat.mul_pos (Nat.mul_pos l2 w1) (by decide)
    refine ev_aload_n (pc := 64) dX9_level_64 rfl ?_
    refine ev_bipush (pc := 65) (v := nI 38) dX9_level_65 (by decide) ?_
    refine ev_bipush (pc := 67) (v := nI 39) dX9_level_67 (by decide) ?_
    refine ev_bipush (pc := 69) (v := nI 43) dX9_level_69 (by decide) ?_
    refine ev_bipush (pc := 71) (v := nI 46) dX9_level_71 (by decide) ?_
    refine ev_callV (pc := 73) (As := [.int (nI 38), .int (nI 39), .int (nI 43), .int (nI 46)]) dX9_level_73 cv_X9_120 rfl rfl (ms_M h8) rfl ⟨by show 19 + 7 ≤ w; omega, show ev_Ca _ _ (w - 26) _ _ _ _ _ _ from m_quo (n := 38) (b := 39) (q := 43) (r := 46) (by omega) (by omega) h8 (by omega) (by omega) (by omega) (by omega) (by omega) (by omega) (by omega) (by omega) (by omega) (by rw [f39]; exact m0) (by rw [f38]; exact p2_le139 (by decide) k4)⟩ rfl rfl (fun r h1 hp => ?_)
    obtain ⟨rfl, v5, ⟨h9, hF9⟩, p1, p2, p3⟩ := hp
    rw [f38, f39, ert] at p1
    have plo : ∀ i, i < 34 → v5 i = v i := fun i hi => by rw [p3 i (by omega) (by omega), flo i hi]
    have hFF := ((((((hF.tr hF3).tr hF4).tr hF5).tr hF6).tr hF7).tr hF8).tr hF9
    have rle : rl (W.1 * v 33) (W.2 * v 32) = min (v5 43) 999999999999999999 := by unfold rl; rw [p1]
    have b43 : mb_bits (v5 43) < 2 ^ 31 := by
      have q : v5 43 < 2 ^ (571 + 512 + 8 + 1) := by rw [p1, ← ert]; exact Nat.lt_of_le_of_lt (Nat.div_le_self _ _) k4
      unfold mb_bits
      split
      · decide
      · rename_i zz
        have := (Nat.log2_lt zz).mpr q
        omega
    refine ev_aload_n (pc := 76) dX9_level_76 rfl ?_
    refine ev_bipush (pc := 77) (v := nI 43) dX9_level_77 (by decide) ?_
    refine ev_callV (pc := 79) (As := [.int (nI 43)]) dX9_level_79 cv_X9_87 rfl rfl (ms_M h9) rfl ⟨by show 19 + 4 ≤ w; omega, show ev_Ca _ _ (w - 23) _ _ _ _ _ _ from g_bits (r := 43) (by omega) (ms_g h9) (by omega)⟩ rfl rfl (fun r h1 hp => ?_)
    obtain ⟨rfl, hH⟩ := hp
    rw [hH]
    clear hH
    refine ev_bipush (pc := 82) (v := nI 61) dX9_level_82 (by decide) ?_
    refine ev_icmp_leN (pc := 84) (tgt := 91) dX9_level_84 (by decide) (by omega) (by omega) (fun c2 => ?_) (fun c2 => ?_)
    · have lt61 := mb_bits_lt c2
      obtain ⟨-, L, s, d1, d2, hV⟩ := ms_g h9
      have hv43 := hV 43 (by decide)
      have sb := hv43.1
      refine ev_lconst (pc := 91) (v := lN 0) dX9_level_91 (by decide) ?_
      refine ev_lstore_n (pc := 92) dX9_level_92 rfl ?_
      refine ev_aload_n (pc := 93) dX9_level_93 rfl ?_
      refine ev_getf (pc := 94) dX9_level_94 f_X9_13 (ms_M h9) rfl ?_
      refine ev_bipush (pc := 97) (v := nI 43) dX9_level_97 (by decide) ?_
      refine ev_iaN (pc := 99) dX9_level_99 d2 (by omega) (by decide) ?_
      refine ev_iconst (pc := 100) (v := nI 1) dX9_level_100 (by decide) ?_
      refine ev_isub (pc := 101) dX9_level_101 ?_
      refine ev_istore_n (pc := 102) dX9_level_102 rfl ?_
      refine ev_vs [(0, .ref (A 17)), (1, .long (lN (mb_v (fun i => L (140 * 43 + (s 43 + i))) (s 43 - s 43)))), (3, .int (nI (s 43) - nI 1))] ⟨rfl, by rw [Nat.sub_self]; rfl, rfl, trivial⟩ ?_
      refine l_lev (ms_M h9) d1 hv43 ?_ (s 43) (Nat.le_refl _)
      refine ev_lload_n (pc := 131) dX9_level_131 rfl ?_
      refine ev_ldc2 (pc := 132) dX9_level_132 k_X9_223 ?_
      refine ev_lc_le (pc := 135) (tgt := 145) dX9_level_135 dX9_level_136 (by decide) (by omega) (by omega) (fun c3 => ?_) (fun c3 => ?_)
      · refine ev_lload_n (pc := 145) dX9_level_145 rfl ?_
        refine ev_lret (pc := 146) dX9_level_146 rfl (Or.inr ⟨by omega, ?_, v5, ⟨h9, hFF⟩, plo⟩)
        rw [rle, Nat.min_eq_left c3]
      · refine ev_ldc2 (pc := 139) dX9_level_139 k_X9_223 ?_
        refine ev_goto (pc := 142) (tgt := 146) dX9_level_142 (by decide) ?_
        refine ev_lret (pc := 146) dX9_level_146 rfl (Or.inr ⟨by omega, ?_, v5, ⟨h9, hFF⟩, plo⟩)
        rw [rle, Nat.min_eq_right (by omega)]
    · refine ev_ldc2 (pc := 87) dX9_level_87 k_X9_223 ?_
      refine ev_lret (pc := 90) dX9_level_90 rfl (Or.inr ⟨by omega, ?_, v5, ⟨h9, hFF⟩, plo⟩)
      have big : 999999999999999999 ≤ v5 43 := by
        unfold mb_bits at c2
        split at c2
        · omega
        · rename_i zz
          have := (Nat.le_log2 zz).mp (show 61 ≤ Nat.log2 (v5 43) by omega)
          exact Nat.le_trans (by decide) this
      rw [rle, Nat.min_eq_right big]
  · refine ev_ldc2 (pc := 12) dX9_level_12 k_X9_221 ?_
    exact ev_lret (pc := 15) dX9_level_15 rfl (Or.inl ⟨c1, rfl, h2, hF⟩)
theorem k_rweight {x : Int32} (hd : 7 ≤ dd) (hw : 200 ≤ w) (h : MS H A I v Q R lv f) (hb : I 1 ≤ 1) (hz : I 1 = 0 → I 0 = 0) (ok : I 1 = 1 → st_ok Q v (fun s => v (8 + s)) (I 0)) : ev_Ca G dd w m_X9_weight [.ref (A 17), .int x] H 0 0 (ev_ok (fun r h1 => (∃ s, x = nI s ∧ s < 8 ∧ I 0 / 2 ^ s % 2 = 1 ∧ r = some (.int (nI ((su Q v (fun s => v (8 + s)) (I 0) 8).2 * pw Q s * v s * 1000000000 / ((su Q v (fun s => v (8 + s)) (I 0) 8).1 * v (8 + s))))) ∧ ∃ v2, mpost H A (va_up I 7 0) v2 Q R lv f h1 ∧ ∀ i, i < 34 → v2 i = v i) ∨ ((∀ s, x = nI s → s < 8 → I 0 / 2 ^ s % 2 ≠ 1) ∧ r = some (.int (-1)) ∧ mpost H A (va_up I 7 0) v Q R lv f h1))) := by
  obtain ⟨dd, rfl⟩ : ∃ e, dd = e + 1 := ⟨dd - 1, by omega⟩
  refine ⟨by decide +kernel, rfl, ?_⟩
  refine ev_aload_n (pc := 0) dX9_weight_0 rfl ?_
  refine ev_iconst (pc := 1) (v := nI 0) dX9_weight_1 (by decide) ?_
  refine ev_putf (pc := 2) dX9_weight_2 p_X9_66 (ms_M h) rfl rfl rfl ?_
  obtain ⟨h2, hF⟩ := ms_uI (k := 7) (x := 0) (n := 24) h rfl
  generalize ev_up H (A 17) (.inr (7, (ml A I).set 24 (.int (nI 0)))) = H2 at *
  have no : ∀ {V}, (∀ s, x = nI s → s < 8 → I 0 / 2 ^ s % 2 ≠ 1) → ev_J G (ev_cc G dd w) w m_X9_weight (ev_ok (fun r h1 => (∃ s, x = nI s ∧ s < 8 ∧ I 0 / 2 ^ s % 2 = 1 ∧ r = some (.int (nI ((su Q v (fun s => v (8 + s)) (I 0) 8).2 * pw Q s * v s * 1000000000 / ((su Q v (fun s => v (8 + s)) (I 0) 8).1 * v (8 + s))))) ∧ ∃ v2, mpost H A (va_up I 7 0) v2 Q R lv f h1 ∧ ∀ i, i < 34 → v2 i = v i) ∨ ((∀ s, x = nI s → s < 8 → I 0 / 2 ^ s % 2 ≠ 1) ∧ r = some (.int (-1)) ∧ mpost H A (va_up I 7 0) v Q R lv f h1))) (30, V, [], H2, 0, 0) := by
    intro V nk
    refine ev_iconst (pc := 30) (v := -1) dX9_weight_30 (by decide) ?_
    exact ev_iret (pc := 31) dX9_weight_31 rfl rfl (Or.inr ⟨nk, rfl, h2, hF⟩)
  refine ev_aload_n (pc := 5) dX9_weight_5 rfl ?_
  refine ev_getf (pc := 6) dX9_weight_6 f_X9_150 (ms_M h2) rfl ?_
  refine ev_if_eqN (pc := 9) (tgt := 30) dX9_weight_9 (by decide) (show I 1 < 2 ^ 31 by omega) (fun (c1 : I 1 = 0) => ?_) (fun (c1 : 0 < I 1) => ?_)
  · exact no (fun s _ _ q => by rw [hz c1, Nat.zero_div] at q; omega)
  · obtain ⟨hP, hf, hm, hm0⟩ := ok (by omega)
    refine ev_iload_n (pc := 12) dX9_weight_12 rfl ?_
    refine ev_iconst (pc := 13) (v := nI 0) dX9_weight_13 (by decide) ?_
    refine ev_bipush (pc := 14) (v := nI 7) dX9_weight_14 (by decide) ?_
    refine ev_callS (pc := 16) (As := [.int x, .int (nI 0), .int (nI 7)]) dX9_weight_16 cs_X9_142 rfl rfl ⟨by show 19 + 3 ≤ w; omega, show ev_Ca _ _ (w - 22) _ _ _ _ _ _ from k_in (x := x) (lo := 0) (hi := 7) (by omega) (by decide) (by decide)⟩ rfl rfl (fun r h1 hp => ?_)
    obtain ⟨rfl, hH⟩ := hp
    rw [hH]
    clear hH
    by_cases c2 : ri x 0 7
    · rw [show rb x ((0 : Nat) : Int) ((7 : Nat) : Int) = 1 from rb_1 c2]
      refine ev_if_eqN (pc := 19) (tgt := 30) dX9_weight_19 (by decide) (by decide) (fun q => absurd q (by decide)) (fun _ => ?_)
      obtain ⟨s, rfl, -, s7⟩ := ri_nI (x := x) (lo := 0) (hi := 7) c2 (by decide)
      have bl : I 0 / 2 ^ s % 2 < 2 := Nat.mod_lt _ (by decide)
      refine ev_aload_n (pc := 22) dX9_weight_22 rfl ?_
      refine ev_iload_n (pc := 23) dX9_weight_23 rfl ?_
      refine ev_callV (pc := 24) (As := [.int (nI s)]) dX9_weight_24 cv_X9_124 rfl rfl (ms_M h2) rfl ⟨by show 19 + 2 ≤ w; omega, show ev_Ca _ _ (w - 21) _ _ _ _ _ _ from k_isMem (by omega) h2 (show va_up I 7 0 0 < 256 from hm) (show s < 8 by omega)⟩ rfl rfl (fun r h1 hp => ?_)
      rw [show va_up I 7 0 0 = I 0 from rfl] at hp
      obtain ⟨rfl, hH⟩ := hp
      rw [hH]
      clear hH
      refine ev_if_neN (pc := 27) (tgt := 32) dX9_weight_27 (by decide) (by omega) (fun c3 => ?_) (fun c3 => ?_)
      · have mb : I 0 / 2 ^ s % 2 = 1 := by omega
        obtain ⟨⟨f1, f2⟩, f3, f4⟩ := hf s (by omega)
        obtain ⟨p1, p2⟩ := pw_b hP (show s < 8 by omega)
        simp only at f3 f4
        have p54 : pw Q s < 2 ^ 54 := by omega
        obtain ⟨y1, y2⟩ := su_p8 hP hf hm hm0
        obtain ⟨yb1, yb2⟩ := su_b8 (mem := I 0) hP hf (Nat.le_refl 8)
        obtain ⟨l1, l2, l3, l4⟩ := lt_pos y1 y2
        refine ev_aload_n (pc := 32) dX9_weight_32 rfl ?_
        refine ev_callV (pc := 33) (As := []) dX9_weight_33 cv_X9_155 rfl rfl (ms_M h2) rfl ⟨by show 19 + 2 ≤ w; omega, show ev_Ca _ _ (w - 21) _ _ _ _ _ _ from k_sum (by omega) (by omega) h2 hP hf (show va_up I 7 0 0 < 256 from hm) (show va_up I 7 0 0 ≠ 0 from hm0)⟩ rfl rfl (fun r h1 hp => ?_)
        rw [show va_up I 7 0 0 = I 0 from rfl] at hp
        obtain ⟨rfl, v2, ⟨h3, hF3⟩, s1, s2, s3⟩ := hp
        have ert := wt_lt (p := pw Q s) (u := v s) (d := v (8 + s)) y1
        generalize hW : su Q v (fun s => v (8 + s)) (I 0) 8 = W at *
        have es : v2 s = v s := s3 s (by omega) (by omega) (by omega)
        have ed : v2 (8 + s) = v (8 + s) := s3 (8 + s) (by omega) (by omega) (by omega)
        have k1 : pw Q s * 1000000000 < 2 ^ (54 + 30) := p2_mul p54 (by decide)
        have k2 : pw Q s * 1000000000 * v s < 2 ^ (54 + 30 + 63) := p2_mul k1 f2
        have k3 : pw Q s * 1000000000 * v s * lt2 W < 2 ^ (54 + 30 + 63 + 505) := p2_mul k2 (Nat.lt_of_le_of_lt l4 yb2)
        have k4 : v (8 + s) * lt1 W < 2 ^ (63 + 571) := p2_mul f4 (Nat.lt_of_le_of_lt l3 yb1)
        refine ev_aload_n (pc := 36) dX9_weight_36 rfl ?_
        refine ev_bipush (pc := 37) (v := nI 40) dX9_weight_37 (by decide) ?_
        refine ev_aload_n (pc := 39) dX9_weight_39 rfl ?_
        refine ev_iload_n (pc := 40) dX9_weight_40 rfl ?_
        refine ev_callV (pc := 41) (As := [.int (nI s)]) dX9_weight_41 cv_X9_127 rfl rfl (ms_M h3) rfl ⟨by show 19 + 2 ≤ w; omega, show ev_Ca _ _ (w - 21) _ _ _ _ _ _ from k_plain (by omega) h3 hP (show s < 8 by omega)⟩ rfl rfl (fun r h1 hp => ?_)
        obtain ⟨rfl, hH⟩ := hp
        rw [hH]
        clear hH
        refine ev_callV (pc := 44) (As := [.int (nI 40), .long (lN (pw Q s))]) dX9_weight_44 cv_X9_62 rfl rfl (ms_M h3) rfl ⟨by show 19 + 6 ≤ w; omega, show ev_Ca _ _ (w - 25) _ _ _ _ _ _ from m_set (r := 40) (by omega) h3 (by omega) (by omega)⟩ rfl rfl (fun r h1 hp => ?_)
        obtain ⟨rfl, h4, hF4⟩ := hp
        have T2 := tt_40 (z := pw Q s) (show tt v2 v2 (v2 40) (v2 41) from ⟨rfl, rfl, fun _ _ => rfl⟩)
        generalize va_up v2 40 (pw Q s) = u2 at *
        refine ev_aload_n (pc := 47) dX9_weight_47 rfl ?_
        refine ev_bipush (pc := 48) (v := nI 40) dX9_weight_48 (by decide) ?_
        refine ev_ldc (pc := 50) dX9_weight_50 k_X9_225 ?_
        refine ev_callV (pc := 52) (As := [.int (nI 40), .int (nI 1000000000)]) dX9_weight_52 cv_X9_158 rfl rfl (ms_M h4) rfl ⟨by show 19 + 8 ≤ w; omega, show ev_Ca _ _ (w - 27) _ _ _ _ _ _ from m_scale (r := 40) (b := 1000000000) (by omega) (by omega) h4 (by omega) (by decide) (by rw [T2.1]; exact p2_le139 (by decide) p54)⟩ rfl rfl (fun r h1 hp => ?_)
        obtain ⟨rfl, h5, hF5⟩ := hp
        rw [T2.1] at h5
        have T3 := tt_40 (z := pw Q s * 1000000000) T2
        generalize va_up u2 40 (pw Q s * 1000000000) = u3 at *
        refine ev_aload_n (pc := 55) dX9_weight_55 rfl ?_
        refine ev_bipush (pc := 56) (v := nI 41) dX9_weight_56 (by decide) ?_
        refine ev_bipush (pc := 58) (v := nI 40) dX9_weight_58 (by decide) ?_
        refine ev_iconst (pc := 60) (v := nI 0) dX9_weight_60 (by decide) ?_
        refine ev_iload_n (pc := 61) dX9_weight_61 rfl ?_
        refine ev_iaddN (pc := 62) dX9_weight_62 ?_
        refine ev_callV (pc := 63) (As := [.int (nI 41), .int (nI 40), .int (nI (0 + s))]) dX9_weight_63 cv_X9_131 rfl rfl (ms_M h5) rfl ⟨by show 19 + 11 ≤ w; omega, show ev_Ca _ _ (w - 30) _ _ _ _ _ _ from m_mul (r := 41) (p := 40) (q := 0 + s) (by omega) (by omega) h5 (by omega) (by omega) (by omega) (by omega) (by omega) (by rw [T3.1, Nat.zero_add, T3.2.2 s (by omega), es]; exact p2_le139 (by decide) k2)⟩ rfl rfl (fun r h1 hp => ?_)
        obtain ⟨rfl, h6, hF6⟩ := hp
        rw [T3.1, Nat.zero_add, T3.2.2 s (by omega), es] at h6
        have T4 := tt_41 (z := pw Q s * 1000000000 * v s) T3
        generalize va_up u3 41 (pw Q s * 1000000000 * v s) = u4 at *
        refine ev_aload_n (pc := 66) dX9_weight_66 rfl ?_
        refine ev_bipush (pc := 67) (v := nI 38) dX9_weight_67 (by decide) ?_
        refine ev_bipush (pc := 69) (v := nI 41) dX9_weight_69 (by decide) ?_
        refine ev_bipush (pc := 71) (v := nI 35) dX9_weight_71 (by decide) ?_
        refine ev_callV (pc := 73) (As := [.int (nI 38), .int (nI 41), .int (nI 35)]) dX9_weight_73 cv_X9_131 rfl rfl (ms_M h6) rfl ⟨by show 19 + 11 ≤ w; omega, show ev_Ca _ _ (w - 30) _ _ _ _ _ _ from m_mul (r := 38) (p := 41) (q := 35) (by omega) (by omega) h6 (by omega) (by omega) (by omega) (by omega) (by omega) (by rw [T4.2.1, T4.2.2 35 (by omega), s2]; exact p2_le139 (by decide) k3)⟩ rfl rfl (fun r h1 hp => ?_)
        obtain ⟨rfl, h7, hF7⟩ := hp
        rw [T4.2.1, T4.2.2 35 (by omega), s2] at h7
        refine ev_aload_n (pc := 76) dX9_weight_76 rfl ?_
        refine ev_bipush (pc := 77) (v := nI 39) dX9_weight_77 (by decide) ?_
        refine ev_bipush (pc := 79) (v := nI 8) dX9_weight_79 (by decide) ?_
        refine ev_iload_n (pc := 81) dX9_weight_81 rfl ?_
        refine ev_iaddN (pc := 82) dX9_weight_82 ?_
        refine ev_bipush (pc := 83) (v := nI 34) dX9_weight_83 (by decide) ?_
        refine ev_callV (pc := 85) (As := [.int (nI 39), .int (nI (8 + s)), .int (nI 34)]) dX9_weight_85 cv_X9_131 rfl rfl (ms_M h7) rfl ⟨by show 19 + 11 ≤ w; omega, show ev_Ca _ _ (w - 30) _ _ _ _ _ _ from m_mul (r := 39) (p := 8 + s) (q := 34) (by omega) (by omega) h7 (by omega) (by omega) (by omega) (by omega) (by omega) (by rw [va_up_ne _ _ (by omega), va_up_ne _ _ (by omega), T4.2.2 34 (by omega), T4.2.2 (8 + s) (by omega), s1, ed]; exact p2_le139 (by decide) k4)⟩ rfl rfl (fun r h1 hp => ?_)
        obtain ⟨rfl, h8, hF8⟩ := hp
        rw [va_up_ne _ _ (show 8 + s ≠ 38 by omega), va_up_ne _ _ (show (34 : Nat) ≠ 38 by decide), T4.2.2 34 (by omega), T4.2.2 (8 + s) (by omega), s1, ed] at h8
        have f38 : va_up (va_up u4 38 (pw Q s * 1000000000 * v s * lt2 W)) 39 (v (8 + s) * lt1 W) 38 = pw Q s * 1000000000 * v s * lt2 W := rfl
        have f39 : va_up (va_up u4 38 (pw Q s * 1000000000 * v s * lt2 W)) 39 (v (8 + s) * lt1 W) 39 = v (8 + s) * lt1 W := rfl
        have flo : ∀ i, i < 34 → va_up (va_up u4 38 (pw Q s * 1000000000 * v s * lt2 W)) 39 (v (8 + s) * lt1 W) i = v i := fun i hi => by rw [va_up_ne _ _ (by omega), va_up_ne _ _ (by omega), T4.2.2 i (by omega), s3 i (by omega) (by omega) (by omega)]
        generalize va_up (va_up u4 38 (pw Q s * 1000000000 * v s * lt2 W)) 39 (v (8 + s) * lt1 W) = v4 at *
        refine ev_aload_n (pc := 88) dX9_weight_88 rfl ?_
        refine ev_bipush (pc := 89) (v := nI 38) dX9_weight_89 (by decide) ?_
        refine ev_bipush (pc := 91) (v := nI 39) dX9_weight_91 (by decide) ?_
        refine ev_bipush (pc := 93) (v := nI 43) dX9_weight_93 (by decide) ?_
        refine ev_bipush (pc := 95) (v := nI 46) dX9_weight_95 (by decide) ?_
        refine ev_callV (pc := 97) (As := [.int (nI 38), .int (nI 39), .int (nI 43), .int (nI 46)]) dX9_weight_97 cv_X9_120 rfl rfl (ms_M h8) rfl ⟨by show 19 + 7 ≤ w; omega, show ev_Ca _ _ (w - 26) _ _ _ _ _ _ from m_quo (n := 38) (b := 39) (q := 43) (r := 46) (by omega) (by omega) h8 (by omega) (by omega) (by omega) (by omega) (by omega) (by omega) (by omega) (by omega) (by omega) (by rw [f39]; exact Nat.mul_pos f3 l1) (by rw [f38]; exact p2_le139 (by decide) k3)⟩ rfl rfl (fun r h1 hp => ?_)
        obtain ⟨rfl, v5, ⟨h9, hF9⟩, q1, q2, q3⟩ := hp
        rw [f38, f39, ert] at q1
        have plo : ∀ i, i < 34 → v5 i = v i := fun i hi => by rw [q3 i (by omega) (by omega), flo i hi]
        have hFF := ((((((hF.tr hF3).tr hF4).tr hF5).tr hF6).tr hF7).tr hF8).tr hF9
        obtain ⟨-, L, ss, d1, d2, hV⟩ := ms_g h9
        have hv43 := hV 43 (by decide)
        have sb := hv43.1
        refine ev_iconst (pc := 100) (v := nI 0) dX9_weight_100 (by decide) ?_
        refine ev_istore_n (pc := 101) dX9_weight_101 rfl ?_
        refine ev_aload_n (pc := 102) dX9_weight_102 rfl ?_
        refine ev_getf (pc := 103) dX9_weight_103 f_X9_13 (ms_M h9) rfl ?_
        refine ev_bipush (pc := 106) (v := nI 43) dX9_weight_106 (by decide) ?_
        refine ev_iaN (pc := 108) dX9_weight_108 d2 (by omega) (by decide) ?_
        refine ev_iconst (pc := 109) (v := nI 1) dX9_weight_109 (by decide) ?_
        refine ev_isub (pc := 110) dX9_weight_110 ?_
        refine ev_istore_n (pc := 111) dX9_weight_111 rfl ?_
        refine ev_vs [(0, .ref (A 17)), (2, .int (nI (mb_v (fun i => L (140 * 43 + (ss 43 + i))) (ss 43 - ss 43)))), (3, .int (nI (ss 43) - nI 1))] ⟨rfl, by rw [Nat.sub_self]; rfl, rfl, trivial⟩ ?_
        exact l_wei (ms_M h9) d1 hv43 (Or.inl ⟨s, rfl, by omega, mb, by rw [q1], v5, ⟨h9, hFF⟩, plo⟩) (ss 43) (Nat.le_refl _)
      · refine no (fun s' e1 e2 => ?_)
        have : s = s' := (nI_eq (by omega) (by omega)).mp e1
        rw [← this]
        omega
    · rw [show rb x ((0 : Nat) : Int) ((7 : Nat) : Int) = 0 from rb_0 c2]
      refine ev_if_eqN (pc := 19) (tgt := 30) dX9_weight_19 (by decide) (by decide) (fun _ => ?_) (fun q => absurd q (by decide))
      refine no (fun s e1 e2 => absurd ?_ c2)
      rw [e1]
      exact ⟨by rw [nI_toInt (by omega)]; omega, by rw [nI_toInt (by omega)]; omega⟩
end REFM
