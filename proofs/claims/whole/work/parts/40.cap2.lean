/-! Shares: findLarge, cap, change, copy -/
section CAP2
variable {G : ev_G} {w : Nat} {H : ev_H} {D S : Nat} {i j k dd s : Nat} {sa : Nat → Nat} {P : Nat → Nat → Nat} {fu fd : Nat → Nat} {mem : Nat}
theorem l_found {K : ev_K} {c z a l r : Nat} (hd : 1 ≤ dd) (hw : 24 ≤ w) (h : SH H S sa P fu fd mem) (hP : P_ok P) (hm : mem < 256) (ha : a ≤ 100) (hl : l < 256) (hlt : a * pc8 l < 100)
    (hK : ev_J G (ev_cc G dd w) w m_X5_findLarge K (120, ev_lf [(0, .ref S), (1, .int (nI a)), (2, .int (nI l)), (3, .int (nI (fo P mem a l 8))), (4, .int (nI r))], [], H, c, z)) :
    ∀ k s, s + k = 8 → ev_J G (ev_cc G dd w) w m_X5_findLarge K (56, ev_lf [(0, .ref S), (1, .int (nI a)), (2, .int (nI l)), (3, .int (nI (fo P mem a l s))), (4, .int (nI r)), (5, .long (lN (a * sw P (am mem l) 8))), (7, .long (lN (100 - a * pc8 l))), (9, .int (nI s))], [], H, c, z)
  | 0, s, e => by
    refine ev_iload (pc := 56) dX5_findLarge_56 rfl ?_
    refine ev_bipush (pc := 58) (v := nI 8) dX5_findLarge_58 (by decide) ?_
    refine ev_icmp_geN (pc := 60) (tgt := 120) dX5_findLarge_60 (by decide) (by omega) (by omega) (fun c1 => ?_) (fun c1 => ?_)
    · have : s = 8 := by omega
      subst this
      refine ev_vs [(0, .ref S), (1, .int (nI a)), (2, .int (nI l)), (3, .int (nI (fo P mem a l 8))), (4, .int (nI r))] ⟨rfl, rfl, rfl, rfl, rfl, trivial⟩ ?_
      exact hK
    · omega
  | k + 1, s, e => by
    have hf := (fo_bt (P := P) (mem := mem) (a := a) (l := l) s).1
    have hf8 : fo P mem a l s < 256 := Nat.lt_of_lt_of_le hf (show 2 ^ s ≤ 2 ^ 8 from Nat.pow_le_pow_right (by decide) (by omega))
    have hfb : fo P mem a l s / 2 ^ s % 2 = 0 := (bt_at hf).2
    have hal := am_lt (l := l) hm
    have hdl : am mem l / 2 ^ s ≤ am mem l := Nat.div_le_self _ _
    have hpw := pw_b hP (show s < 8 by omega)
    have hsw := sw_b hP (am mem l) 8 (Nat.le_refl 8)
    have hT : a * sw P (am mem l) 8 ≤ 100 * 80000000000000000 := Nat.mul_le_mul ha (by omega)
    have hQ : pw P s * (100 - a * pc8 l) ≤ 10000000000000000 * 100 := Nat.mul_le_mul (by omega) (by omega)
    have next : ∀ v, v = fo P mem a l (s + 1) → ev_J G (ev_cc G dd w) w m_X5_findLarge K (114, ev_lf [(0, .ref S), (1, .int (nI a)), (2, .int (nI l)), (3, .int (nI v)), (4, .int (nI r)), (5, .long (lN (a * sw P (am mem l) 8))), (7, .long (lN (100 - a * pc8 l))), (9, .int (nI s))], [], H, c, z) := by
      intro v hv
      subst hv
      refine ev_iincN (pc := 114) dX5_findLarge_114 rfl rfl ?_
      refine ev_goto (pc := 117) (tgt := 56) dX5_findLarge_117 (by decide) ?_
      refine ev_vs [(0, .ref S), (1, .int (nI a)), (2, .int (nI l)), (3, .int (nI (fo P mem a l (s + 1)))), (4, .int (nI r)), (5, .long (lN (a * sw P (am mem l) 8))), (7, .long (lN (100 - a * pc8 l))), (9, .int (nI (s + 1)))] ⟨rfl, rfl, rfl, rfl, rfl, rfl, rfl, rfl, trivial⟩ ?_
      exact l_found hd hw h hP hm ha hl hlt hK k (s + 1) (by omega)
    refine ev_iload (pc := 56) dX5_findLarge_56 rfl ?_
    refine ev_bipush (pc := 58) (v := nI 8) dX5_findLarge_58 (by decide) ?_
    refine ev_icmp_geN (pc := 60) (tgt := 120) dX5_findLarge_60 (by decide) (by omega) (by omega) (fun c1 => ?_) (fun c1 => ?_)
    · omega
    · refine ev_aload_n (pc := 63) dX5_findLarge_63 rfl ?_
      refine ev_getf (pc := 64) dX5_findLarge_64 f_X5_30 h.1 rfl ?_
      refine ev_iload_n (pc := 67) dX5_findLarge_67 rfl ?_
      refine ev_iconst (pc := 68) (v := -1) dX5_findLarge_68 (by decide) ?_
      refine ev_ixor (pc := 69) dX5_findLarge_69 ?_
      refine ev_iand (pc := 70) dX5_findLarge_70 ?_
      refine ev_ti (i_am hm) ?_
      refine ev_iload (pc := 71) dX5_findLarge_71 rfl ?_
      refine ev_ishr (pc := 73) dX5_findLarge_73 (ev_ti (mi_shr (by omega) (by omega)) ?_)
      refine ev_iconst (pc := 74) (v := nI 1) dX5_findLarge_74 (by decide) ?_
      refine ev_iand (pc := 75) dX5_findLarge_75 (ev_ti (mi_and1 (by omega)) ?_)
      refine ev_iconst (pc := 76) (v := nI 1) dX5_findLarge_76 (by decide) ?_
      refine ev_icmp_neN (pc := 77) (tgt := 84) dX5_findLarge_77 (by decide) (by omega) (by omega) (fun c2 => ?_) (fun c2 => ?_)
      · have nc : ¬ cnd P mem a l s := fun q => c2 q.1
        refine ev_iconst (pc := 84) (v := nI 0) dX5_findLarge_84 (by decide) ?_
        refine ev_istore (pc := 85) dX5_findLarge_85 rfl ?_
        refine ev_iload (pc := 87) dX5_findLarge_87 rfl ?_
        refine ev_if_eqN (pc := 89) (tgt := 114) dX5_findLarge_89 (by decide) (by decide) (fun _ => ?_) (fun q => absurd q (by decide))
        refine ev_vs [(0, .ref S), (1, .int (nI a)), (2, .int (nI l)), (3, .int (nI (fo P mem a l s))), (4, .int (nI r)), (5, .long (lN (a * sw P (am mem l) 8))), (7, .long (lN (100 - a * pc8 l))), (9, .int (nI s))] ⟨rfl, rfl, rfl, rfl, rfl, rfl, rfl, rfl, trivial⟩ ?_
        refine next _ ?_
        rcases fo_c (P := P) (mem := mem) (a := a) (l := l) (k := s) with ⟨q, -⟩ | ⟨-, q⟩
        · exact absurd q nc
        · exact q.symm
      · refine ev_iconst (pc := 80) (v := nI 1) dX5_findLarge_80 (by decide) ?_
        refine ev_goto (pc := 81) (tgt := 85) dX5_findLarge_81 (by decide) ?_
        refine ev_istore (pc := 85) dX5_findLarge_85 rfl ?_
        refine ev_iload (pc := 87) dX5_findLarge_87 rfl ?_
        refine ev_if_eqN (pc := 89) (tgt := 114) dX5_findLarge_89 (by decide) (by decide) (fun q => absurd q (by decide)) (fun _ => ?_)
        refine ev_aload_n (pc := 92) dX5_findLarge_92 rfl ?_
        refine ev_iload (pc := 93) dX5_findLarge_93 rfl ?_
        refine ev_callV (pc := 95) (As := [.int (nI s)]) dX5_findLarge_95 cv_X5_106 rfl rfl h.1 rfl ⟨by show 19 + 2 ≤ w; omega, show ev_Ca _ _ (w - 21) _ _ _ _ _ _ from k_plainWorth (by omega) h hP (by omega)⟩ rfl rfl (fun r h1 hp => ?_)
        obtain ⟨rfl, hH⟩ := hp
        rw [hH]
        clear hH h1
        refine ev_lload (pc := 98) dX5_findLarge_98 rfl ?_
        refine ev_lmulN (pc := 100) dX5_findLarge_100 ?_
        refine ev_lload (pc := 101) dX5_findLarge_101 rfl ?_
        refine ev_lc_le (pc := 103) (tgt := 114) dX5_findLarge_103 dX5_findLarge_104 (by decide) (by omega) (by omega) (fun c3 => ?_) (fun c3 => ?_)
        · have nc : ¬ cnd P mem a l s := fun q => by have := q.2; omega
          refine ev_vs [(0, .ref S), (1, .int (nI a)), (2, .int (nI l)), (3, .int (nI (fo P mem a l s))), (4, .int (nI r)), (5, .long (lN (a * sw P (am mem l) 8))), (7, .long (lN (100 - a * pc8 l))), (9, .int (nI s))] ⟨rfl, rfl, rfl, rfl, rfl, rfl, rfl, rfl, trivial⟩ ?_
          refine next _ ?_
          rcases fo_c (P := P) (mem := mem) (a := a) (l := l) (k := s) with ⟨q, -⟩ | ⟨-, q⟩
          · exact absurd q nc
          · exact q.symm
        · have yc : cnd P mem a l s := ⟨c2, c3⟩
          refine ev_iload_n (pc := 107) dX5_findLarge_107 rfl ?_
          refine ev_iconst (pc := 108) (v := nI 1) dX5_findLarge_108 (by decide) ?_
          refine ev_iload (pc := 109) dX5_findLarge_109 rfl ?_
          refine ev_ishl (pc := 111) dX5_findLarge_111 ?_
          refine ev_ior (pc := 112) dX5_findLarge_112 ?_
          refine ev_ti (y := nI (fo P mem a l s + 2 ^ s)) (by rw [bt_set _ hf8 s (by omega), hfb, Nat.sub_zero, Nat.mul_one]) ?_
          refine ev_istore_n (pc := 113) dX5_findLarge_113 rfl ?_
          refine ev_vs [(0, .ref S), (1, .int (nI a)), (2, .int (nI l)), (3, .int (nI (fo P mem a l s + 2 ^ s))), (4, .int (nI r)), (5, .long (lN (a * sw P (am mem l) 8))), (7, .long (lN (100 - a * pc8 l))), (9, .int (nI s))] ⟨rfl, rfl, rfl, rfl, rfl, rfl, rfl, rfl, trivial⟩ ?_
          refine next _ ?_
          rcases fo_c (P := P) (mem := mem) (a := a) (l := l) (k := s) with ⟨-, q⟩ | ⟨q, -⟩
          · exact q.symm
          · exact absurd yc q
theorem l_large {K : ev_K} {c z a : Nat} (hd : 2 ≤ dd) (hw : 45 ≤ w) (h : SH H S sa P fu fd mem) (hP : P_ok P) (hm : mem < 256) (ha : a ≤ 100) : ∀ k r l f, r + k = 9 → f < 256 → lg_ok mem a l → K (.inl (some (.int (nI (if f = 0 then l else lgf P mem a k l))))) H → ev_J G (ev_cc G dd w) w m_X5_findLarge K (10, ev_lf [(0, .ref S), (1, .int (nI a)), (2, .int (nI l)), (3, .int (nI f)), (4, .int (nI r))], [], H, c, z)
  | 0, r, l, f, e, hf, ho, hK => by
    have hK2 : K (.inl (some (.int (nI l)))) H := by
      have : (if f = 0 then l else lgf P mem a 0 l) = l := by split <;> rfl
      rw [this] at hK
      exact hK
    refine ev_iload (pc := 10) dX5_findLarge_10 rfl ?_
    refine ev_bipush (pc := 12) (v := nI 8) dX5_findLarge_12 (by decide) ?_
    refine ev_icmp_gtN (pc := 14) (tgt := 130) dX5_findLarge_14 (by decide) (by omega) (by omega) (fun c1 => ?_) (fun c1 => ?_)
    · refine ev_iload_n (pc := 130) dX5_findLarge_130 rfl ?_
      exact ev_iret (pc := 131) dX5_findLarge_131 rfl rfl hK2
    · omega
  | k + 1, r, l, f, e, hf, ho, hK => by
    have hl := ho.1
    have hlt := ho.2.2
    refine ev_iload (pc := 10) dX5_findLarge_10 rfl ?_
    refine ev_bipush (pc := 12) (v := nI 8) dX5_findLarge_12 (by decide) ?_
    refine ev_icmp_gtN (pc := 14) (tgt := 130) dX5_findLarge_14 (by decide) (by omega) (by omega) (fun c1 => ?_) (fun c1 => ?_)
    · omega
    · refine ev_iload_n (pc := 17) dX5_findLarge_17 rfl ?_
      refine ev_if_eqN (pc := 18) (tgt := 130) dX5_findLarge_18 (by decide) (by omega) (fun c2 => ?_) (fun c2 => ?_)
      · rw [if_pos c2] at hK
        refine ev_iload_n (pc := 130) dX5_findLarge_130 rfl ?_
        exact ev_iret (pc := 131) dX5_findLarge_131 rfl rfl hK
      · rw [if_neg (by omega)] at hK
        have hsw := sw_b hP (am mem l) 8 (Nat.le_refl 8)
        have hT : a * sw P (am mem l) 8 ≤ 100 * 80000000000000000 := Nat.mul_le_mul ha (by omega)
        have hpc := pc8_b l hl
        refine ev_iload_n (pc := 21) dX5_findLarge_21 rfl ?_
        refine ev_i2lN (pc := 22) dX5_findLarge_22 (by omega) ?_
        refine ev_aload_n (pc := 23) dX5_findLarge_23 rfl ?_
        refine ev_aload_n (pc := 24) dX5_findLarge_24 rfl ?_
        refine ev_getf (pc := 25) dX5_findLarge_25 f_X5_30 h.1 rfl ?_
        refine ev_iload_n (pc := 28) dX5_findLarge_28 rfl ?_
        refine ev_iconst (pc := 29) (v := -1) dX5_findLarge_29 (by decide) ?_
        refine ev_ixor (pc := 30) dX5_findLarge_30 ?_
        refine ev_iand (pc := 31) dX5_findLarge_31 ?_
        refine ev_ti (i_am hm) ?_
        refine ev_callV (pc := 32) (As := [.int (nI (am mem l))]) dX5_findLarge_32 cv_X5_100 rfl rfl h.1 rfl ⟨by show 19 + 5 ≤ w; omega, show ev_Ca _ _ (w - 24) _ _ _ _ _ _ from k_plainWorthOf (by omega) (by omega) h hP (am_lt hm)⟩ rfl rfl (fun r h1 hp => ?_)
        obtain ⟨rfl, hH⟩ := hp
        rw [hH]
        clear hH h1
        refine ev_lmulN (pc := 35) dX5_findLarge_35 ?_
        refine ev_lstore (pc := 36) dX5_findLarge_36 rfl ?_
        refine ev_ldc2 (pc := 38) dX5_findLarge_38 k_X5_104 ?_
        refine ev_iload_n (pc := 41) dX5_findLarge_41 rfl ?_
        refine ev_iload_n (pc := 42) dX5_findLarge_42 rfl ?_
        refine ev_callS (pc := 43) (As := [.int (nI l)]) dX5_findLarge_43 cs_X5_92 rfl rfl ⟨by show 19 + 1 ≤ w; omega, show ev_Ca _ _ (w - 20) _ _ _ _ _ _ from k_bitCount (by omega) hl⟩ rfl rfl (fun r h1 hp => ?_)
        obtain ⟨rfl, hH⟩ := hp
        rw [hH]
        clear hH h1
        refine ev_imulN (pc := 46) dX5_findLarge_46 ?_
        refine ev_i2lN (pc := 47) dX5_findLarge_47 (by omega) ?_
        refine ev_lsubN (pc := 48) dX5_findLarge_48 (by omega) ?_
        refine ev_lstore (pc := 49) dX5_findLarge_49 rfl ?_
        refine ev_iconst (pc := 51) (v := nI 0) dX5_findLarge_51 (by decide) ?_
        refine ev_istore_n (pc := 52) dX5_findLarge_52 rfl ?_
        refine ev_iconst (pc := 53) (v := nI 0) dX5_findLarge_53 (by decide) ?_
        refine ev_istore (pc := 54) dX5_findLarge_54 rfl ?_
        refine ev_vs [(0, .ref S), (1, .int (nI a)), (2, .int (nI l)), (3, .int (nI (fo P mem a l 0))), (4, .int (nI r)), (5, .long (lN (a * sw P (am mem l) 8))), (7, .long (lN (100 - a * pc8 l))), (9, .int (nI 0))] ⟨rfl, rfl, rfl, rfl, rfl, rfl, rfl, rfl, trivial⟩ ?_
        obtain ⟨st1, -, -, st4⟩ := lg_step hP ho
        refine l_found (by omega) (by omega) h hP hm ha hl hlt ?_ 8 0 (by omega)
        refine ev_iload_n (pc := 120) dX5_findLarge_120 rfl ?_
        refine ev_iload_n (pc := 121) dX5_findLarge_121 rfl ?_
        refine ev_ior (pc := 122) dX5_findLarge_122 ?_
        refine ev_ti (i_or _ _) ?_
        refine ev_istore_n (pc := 123) dX5_findLarge_123 rfl ?_
        refine ev_iincN (pc := 124) dX5_findLarge_124 rfl rfl ?_
        refine ev_goto (pc := 127) (tgt := 10) dX5_findLarge_127 (by decide) ?_
        refine ev_vs [(0, .ref S), (1, .int (nI a)), (2, .int (nI (l ||| fo P mem a l 8))), (3, .int (nI (fo P mem a l 8))), (4, .int (nI (r + 1)))] ⟨rfl, rfl, rfl, rfl, rfl, trivial⟩ ?_
        refine l_large hd hw h hP hm ha k (r + 1) _ _ (by omega) st4 st1 ?_
        have e9 : (if fo P mem a l 8 = 0 then l ||| fo P mem a l 8 else lgf P mem a k (l ||| fo P mem a l 8)) = lgf P mem a (k + 1) l := by
          show _ = (if fo P mem a l 8 = 0 then l else lgf P mem a k (l ||| fo P mem a l 8))
          by_cases q : fo P mem a l 8 = 0
          · rw [if_pos q, if_pos q, q, Nat.or_zero]
          · rw [if_neg q, if_neg q]
        rw [e9]
        exact hK
theorem k_findLarge {a : Nat} (hd : 3 ≤ dd) (hw : 45 ≤ w) (h : SH H S sa P fu fd mem) (hP : P_ok P) (hm : mem < 256) (ha : a ≤ 100) (hm0 : mem ≠ 0) : ev_Ca G dd w m_X5_findLarge [.ref S, .int (nI a)] H 0 0 (ev_ok (fun r h1 => r = some (.int (nI (lgf P mem a 9 0))) ∧ h1 = H)) := by
  obtain ⟨dd, rfl⟩ : ∃ e, dd = e + 1 := ⟨dd - 1, by omega⟩
  refine ⟨by decide +kernel, rfl, ?_⟩
  refine ev_iconst (pc := 0) (v := nI 0) dX5_findLarge_0 (by decide) ?_
  refine ev_istore_n (pc := 1) dX5_findLarge_1 rfl ?_
  refine ev_aload_n (pc := 2) dX5_findLarge_2 rfl ?_
  refine ev_getf (pc := 3) dX5_findLarge_3 f_X5_30 h.1 rfl ?_
  refine ev_istore_n (pc := 6) dX5_findLarge_6 rfl ?_
  refine ev_iconst (pc := 7) (v := nI 0) dX5_findLarge_7 (by decide) ?_
  refine ev_istore (pc := 8) dX5_findLarge_8 rfl ?_
  refine ev_vs [(0, .ref S), (1, .int (nI a)), (2, .int (nI 0)), (3, .int (nI mem)), (4, .int (nI 0))] ⟨rfl, rfl, rfl, rfl, rfl, trivial⟩ ?_
  refine l_large (by omega) hw h hP hm ha 9 0 0 mem (by omega) hm ⟨by decide, fun s hs hb => ?_, by rw [show pc8 0 = 0 by decide, Nat.mul_zero]; decide⟩ ?_
  · unfold bt at hb; rw [Nat.zero_div] at hb; cases hb
  · rw [if_neg hm0]; exact ⟨rfl, rfl⟩
end CAP2
