/-! THE REFERENCE: cap -/
section REFJ
variable {G : ev_G} {w : Nat} {H h1 : ev_H} {A I v : Nat → Nat} {Q : Nat → Nat → Nat} {R : Nat → Nat → Int32} {lv f : Nat → Nat} {k s dd : Nat}
theorem l_rca {K : ev_K} {c z a l : Nat} (hd : 1 ≤ dd) (hw : 40 ≤ w) (h : MS H A I v Q R lv f) (hP : P_ok Q) (hm : I 0 < 256) (hl : l < 256)
    (hK : ev_J G (ev_cc G dd w) w m_X9_cap K (94, ev_lf [(0, .ref (A 17)), (1, .int (nI a)), (2, .int (nI l)), (4, .long (lN (sw Q (am (I 0) l) 8)))], [], H, c, z)) :
    ∀ k s, s + k = 8 → ev_J G (ev_cc G dd w) w m_X9_cap K (48, ev_lf [(0, .ref (A 17)), (1, .int (nI a)), (2, .int (nI l)), (4, .long (lN (sw Q (am (I 0) l) s))), (6, .int (nI s))], [], H, c, z)
  | 0, s, e => by
    refine ev_iload (pc := 48) dX9_cap_48 rfl ?_
    refine ev_bipush (pc := 50) (v := nI 8) dX9_cap_50 (by decide) ?_
    refine ev_icmp_geN (pc := 52) (tgt := 94) dX9_cap_52 (by decide) (by omega) (by omega) (fun c1 => ?_) (fun c1 => ?_)
    · have : s = 8 := by omega
      subst this
      refine ev_vs [(0, .ref (A 17)), (1, .int (nI a)), (2, .int (nI l)), (4, .long (lN (sw Q (am (I 0) l) 8)))] ⟨rfl, rfl, rfl, rfl, trivial⟩ ?_
      exact hK
    · omega
  | k + 1, s, e => by
    have bam := bt_am (m := I 0) (l := l) (s := s) (by omega) hl
    have q1 := bt_le (I 0) s
    have q2 := bt_le l s
    have hle : l / 2 ^ s ≤ l := Nat.div_le_self _ _
    have hsw := sw_b hP (am (I 0) l) s (by omega)
    have hpw := pw_b hP (show s < 8 by omega)
    have es : sw Q (am (I 0) l) (s + 1) = sw Q (am (I 0) l) s + (if bt (am (I 0) l) s = 1 then pw Q s else 0) := rfl
    have zero : ∀ {V}, ev_hs V [(0, .ref (A 17)), (1, .int (nI a)), (2, .int (nI l)), (6, .int (nI s))] → bt (am (I 0) l) s = 0 → ev_J G (ev_cc G dd w) w m_X9_cap K (84, V, [.long (lN (sw Q (am (I 0) l) s))], H, c, z) := by
      intro V hv b0
      rw [if_neg (by omega), Nat.add_zero] at es
      refine ev_vs [(0, .ref (A 17)), (1, .int (nI a)), (2, .int (nI l)), (6, .int (nI s))] hv ?_
      refine ev_lconst (pc := 84) (v := lN 0) dX9_cap_84 (by decide) ?_
      refine ev_laddN (pc := 85) dX9_cap_85 ?_
      refine ev_lstore (pc := 86) dX9_cap_86 rfl ?_
      refine ev_iincN (pc := 88) dX9_cap_88 rfl rfl ?_
      refine ev_goto (pc := 91) (tgt := 48) dX9_cap_91 (by decide) ?_
      refine ev_vs [(0, .ref (A 17)), (1, .int (nI a)), (2, .int (nI l)), (4, .long (lN (sw Q (am (I 0) l) (s + 1)))), (6, .int (nI (s + 1)))] ⟨rfl, rfl, rfl, by rw [es]; rfl, rfl, trivial⟩ ?_
      exact l_rca hd hw h hP hm hl hK k (s + 1) (by omega)
    refine ev_iload (pc := 48) dX9_cap_48 rfl ?_
    refine ev_bipush (pc := 50) (v := nI 8) dX9_cap_50 (by decide) ?_
    refine ev_icmp_geN (pc := 52) (tgt := 94) dX9_cap_52 (by decide) (by omega) (by omega) (fun c1 => ?_) (fun c1 => ?_)
    · omega
    · refine ev_lload (pc := 55) dX9_cap_55 rfl ?_
      refine ev_aload_n (pc := 57) dX9_cap_57 rfl ?_
      refine ev_iload (pc := 58) dX9_cap_58 rfl ?_
      refine ev_callV (pc := 60) (As := [.int (nI s)]) dX9_cap_60 cv_X9_124 rfl rfl (ms_M h) rfl ⟨by show 19 + 2 ≤ w; omega, show ev_Ca _ _ (w - 21) _ _ _ _ _ _ from k_isMem (by omega) h hm (by omega)⟩ rfl rfl (fun r h1 hp => ?_)
      obtain ⟨rfl, hH⟩ := hp
      rw [hH]
      clear hH
      refine ev_if_eqN (pc := 63) (tgt := 84) dX9_cap_63 (by decide) (show bt (I 0) s < 2 ^ 31 by omega) (fun (c2 : bt (I 0) s = 0) => ?_) (fun (c2 : 0 < bt (I 0) s) => ?_)
      · exact zero ⟨rfl, rfl, rfl, rfl, trivial⟩ (by rw [bam, c2, Nat.zero_mul])
      · refine ev_iload_n (pc := 66) dX9_cap_66 rfl ?_
        refine ev_iload (pc := 67) dX9_cap_67 rfl ?_
        refine ev_ishr (pc := 69) dX9_cap_69 (ev_ti (mi_shr (by omega) (by omega)) ?_)
        refine ev_iconst (pc := 70) (v := nI 1) dX9_cap_70 (by decide) ?_
        refine ev_iand (pc := 71) dX9_cap_71 (ev_ti (mi_and1 (by omega)) ?_)
        refine ev_if_neN (pc := 72) (tgt := 84) dX9_cap_72 (by decide) (show bt l s < 2 ^ 31 by omega) (fun (c3 : 0 < bt l s) => ?_) (fun (c3 : bt l s = 0) => ?_)
        · exact zero ⟨rfl, rfl, rfl, rfl, trivial⟩ (by rw [bam, show 1 - bt l s = 0 by omega, Nat.mul_zero])
        · have b1 : bt (am (I 0) l) s = 1 := by rw [bam, c3, show bt (I 0) s = 1 by omega]
          rw [if_pos b1] at es
          refine ev_aload_n (pc := 75) dX9_cap_75 rfl ?_
          refine ev_iload (pc := 76) dX9_cap_76 rfl ?_
          refine ev_callV (pc := 78) (As := [.int (nI s)]) dX9_cap_78 cv_X9_127 rfl rfl (ms_M h) rfl ⟨by show 19 + 2 ≤ w; omega, show ev_Ca _ _ (w - 21) _ _ _ _ _ _ from k_plain (by omega) h hP (by omega)⟩ rfl rfl (fun r h1 hp => ?_)
          obtain ⟨rfl, hH⟩ := hp
          rw [hH]
          clear hH
          refine ev_goto (pc := 81) (tgt := 85) dX9_cap_81 (by decide) ?_
          refine ev_laddN (pc := 85) dX9_cap_85 ?_
          refine ev_lstore (pc := 86) dX9_cap_86 rfl ?_
          refine ev_iincN (pc := 88) dX9_cap_88 rfl rfl ?_
          refine ev_goto (pc := 91) (tgt := 48) dX9_cap_91 (by decide) ?_
          refine ev_vs [(0, .ref (A 17)), (1, .int (nI a)), (2, .int (nI l)), (4, .long (lN (sw Q (am (I 0) l) (s + 1)))), (6, .int (nI (s + 1)))] ⟨rfl, rfl, rfl, by rw [es]; rfl, rfl, trivial⟩ ?_
          exact l_rca hd hw h hP hm hl hK k (s + 1) (by omega)
theorem l_rcb {K : ev_K} {c z a l : Nat} (hd : 2 ≤ dd) (hw : 60 ≤ w) (hP : P_ok Q) (hm : I 0 < 256) (hl : l < 256) (ha : a ≤ 100) (hlt : a * pc8 l < 100)
    (hK : ∀ v1 h1, mpost H A I v1 Q R lv f h1 → (∀ i, i < 40 → v1 i = v i) → ev_J G (ev_cc G dd w) w m_X9_cap K (202, ev_lf [(0, .ref (A 17)), (1, .int (nI a)), (2, .int (nI l)), (4, .long (lN (sw Q (am (I 0) l) 8))), (7, .int (nI (fo Q (I 0) a l 8)))], [], h1, c, z)) :
    ∀ k s v1 h1, s + k = 8 → mpost H A I v1 Q R lv f h1 → (∀ i, i < 40 → v1 i = v i) → ev_J G (ev_cc G dd w) w m_X9_cap K (112, ev_lf [(0, .ref (A 17)), (1, .int (nI a)), (2, .int (nI l)), (4, .long (lN (sw Q (am (I 0) l) 8))), (6, .int (nI (100 - a * pc8 l))), (7, .int (nI (fo Q (I 0) a l s))), (8, .int (nI s))], [], h1, c, z)
  | 0, s, v1, h1, e, e1, e2 => by
    refine ev_iload (pc := 112) dX9_cap_112 rfl ?_
    refine ev_bipush (pc := 114) (v := nI 8) dX9_cap_114 (by decide) ?_
    refine ev_icmp_geN (pc := 116) (tgt := 202) dX9_cap_116 (by decide) (by omega) (by omega) (fun c1 => ?_) (fun c1 => ?_)
    · have : s = 8 := by omega
      subst this
      refine ev_vs [(0, .ref (A 17)), (1, .int (nI a)), (2, .int (nI l)), (4, .long (lN (sw Q (am (I 0) l) 8))), (7, .int (nI (fo Q (I 0) a l 8)))] ⟨rfl, rfl, rfl, rfl, rfl, trivial⟩ ?_
      exact hK v1 h1 e1 e2
    · omega
  | k + 1, s, v1, h1, e, e1, e2 => by
    obtain ⟨h, hF⟩ := e1
    have bam := bt_am (m := I 0) (l := l) (s := s) (by omega) hl
    have q1 := bt_le (I 0) s
    have q2 := bt_le l s
    have hle : l / 2 ^ s ≤ l := Nat.div_le_self _ _
    have hsw := sw_b hP (am (I 0) l) 8 (Nat.le_refl 8)
    have hpw := pw_b hP (show s < 8 by omega)
    have hf := (fo_bt (P := Q) (mem := I 0) (a := a) (l := l) s).1
    have hfb : bt (fo Q (I 0) a l s) s = 0 := (bt_at hf).2
    have hf8 : fo Q (I 0) a l s < 256 := Nat.lt_of_lt_of_le hf (show 2 ^ s ≤ 2 ^ 8 from Nat.pow_le_pow_right (by decide) (by omega))
    have skip : ∀ {V}, ev_hs V [(0, .ref (A 17)), (1, .int (nI a)), (2, .int (nI l)), (4, .long (lN (sw Q (am (I 0) l) 8))), (6, .int (nI (100 - a * pc8 l))), (7, .int (nI (fo Q (I 0) a l s))), (8, .int (nI s))] → bt (am (I 0) l) s = 0 → ev_J G (ev_cc G dd w) w m_X9_cap K (196, V, [], h1, c, z) := by
      intro V hv b0
      refine ev_vs _ hv ?_
      have ef : fo Q (I 0) a l (s + 1) = fo Q (I 0) a l s := by
        rcases fo_c (P := Q) (mem := I 0) (a := a) (l := l) (k := s) with ⟨q, -⟩ | ⟨-, q⟩
        · have := q.1; omega
        · exact q
      refine ev_iincN (pc := 196) dX9_cap_196 rfl rfl ?_
      refine ev_goto (pc := 199) (tgt := 112) dX9_cap_199 (by decide) ?_
      refine ev_vs [(0, .ref (A 17)), (1, .int (nI a)), (2, .int (nI l)), (4, .long (lN (sw Q (am (I 0) l) 8))), (6, .int (nI (100 - a * pc8 l))), (7, .int (nI (fo Q (I 0) a l (s + 1)))), (8, .int (nI (s + 1)))] ⟨rfl, rfl, rfl, rfl, rfl, by rw [ef]; rfl, rfl, trivial⟩ ?_
      exact l_rcb hd hw hP hm hl ha hlt hK k (s + 1) v1 h1 (by omega) ⟨h, hF⟩ e2
    refine ev_iload (pc := 112) dX9_cap_112 rfl ?_
    refine ev_bipush (pc := 114) (v := nI 8) dX9_cap_114 (by decide) ?_
    refine ev_icmp_geN (pc := 116) (tgt := 202) dX9_cap_116 (by decide) (by omega) (by omega) (fun c1 => ?_) (fun c1 => ?_)
    · omega
    · refine ev_aload_n (pc := 119) dX9_cap_119 rfl ?_
      refine ev_iload (pc := 120) dX9_cap_120 rfl ?_
      refine ev_callV (pc := 122) (As := [.int (nI s)]) dX9_cap_122 cv_X9_124 rfl rfl (ms_M h) rfl ⟨by show 19 + 2 ≤ w; omega, show ev_Ca _ _ (w - 21) _ _ _ _ _ _ from k_isMem (by omega) h hm (by omega)⟩ rfl rfl (fun r h1 hp => ?_)
      obtain ⟨rfl, hH⟩ := hp
      rw [hH]
      clear hH
      refine ev_if_eqN (pc := 125) (tgt := 196) dX9_cap_125 (by decide) (show bt (I 0) s < 2 ^ 31 by omega) (fun (c2 : bt (I 0) s = 0) => ?_) (fun (c2 : 0 < bt (I 0) s) => ?_)
      · exact skip ⟨rfl, rfl, rfl, rfl, rfl, rfl, rfl, trivial⟩ (by rw [bam, c2, Nat.zero_mul])
      · refine ev_iload_n (pc := 128) dX9_cap_128 rfl ?_
        refine ev_iload (pc := 129) dX9_cap_129 rfl ?_
        refine ev_ishr (pc := 131) dX9_cap_131 (ev_ti (mi_shr (by omega) (by omega)) ?_)
        refine ev_iconst (pc := 132) (v := nI 1) dX9_cap_132 (by decide) ?_
        refine ev_iand (pc := 133) dX9_cap_133 (ev_ti (mi_and1 (by omega)) ?_)
        refine ev_if_neN (pc := 134) (tgt := 196) dX9_cap_134 (by decide) (show bt l s < 2 ^ 31 by omega) (fun (c3 : 0 < bt l s) => ?_) (fun (c3 : bt l s = 0) => ?_)
        · exact skip ⟨rfl, rfl, rfl, rfl, rfl, rfl, rfl, trivial⟩ (by rw [bam, show 1 - bt l s = 0 by omega, Nat.mul_zero])
        · have b1 : bt (am (I 0) l) s = 1 := by rw [bam, c3, show bt (I 0) s = 1 by omega]
          refine ev_aload_n (pc := 137) dX9_cap_137 rfl ?_
          refine ev_bipush (pc := 138) (v := nI 40) dX9_cap_138 (by decide) ?_
          refine ev_aload_n (pc := 140) dX9_cap_140 rfl ?_
          refine ev_iload (pc := 141) dX9_cap_141 rfl ?_
          refine ev_callV (pc := 143) (As := [.int (nI s)]) dX9_cap_143 cv_X9_127 rfl rfl (ms_M h) rfl ⟨by show 19 + 2 ≤ w; omega, show ev_Ca _ _ (w - 21) _ _ _ _ _ _ from k_plain (by omega) h hP (by omega)⟩ rfl rfl (fun r h1 hp => ?_)
          obtain ⟨rfl, hH⟩ := hp
          rw [hH]
          clear hH
          refine ev_callV (pc := 146) (As := [.int (nI 40), .long (lN (pw Q s))]) dX9_cap_146 cv_X9_62 rfl rfl (ms_M h) rfl ⟨by show 19 + 6 ≤ w; omega, show ev_Ca _ _ (w - 25) _ _ _ _ _ _ from m_set (r := 40) (by omega) h (by omega) (by omega)⟩ rfl rfl (fun r h1 hp => ?_)
          obtain ⟨rfl, h2, hF2⟩ := hp
          have T2 := tt_40 (z := pw Q s) (show tt v1 v1 (v1 40) (v1 41) from ⟨rfl, rfl, fun _ _ => rfl⟩)
          generalize va_up v1 40 (pw Q s) = u2 at *
          refine ev_aload_n (pc := 149) dX9_cap_149 rfl ?_
          refine ev_bipush (pc := 150) (v := nI 40) dX9_cap_150 (by decide) ?_
          refine ev_iload (pc := 152) dX9_cap_152 rfl ?_
          refine ev_callV (pc := 154) (As := [.int (nI 40), .int (nI (100 - a * pc8 l))]) dX9_cap_154 cv_X9_158 rfl rfl (ms_M h2) rfl ⟨by show 19 + 8 ≤ w; omega, show ev_Ca _ _ (w - 27) _ _ _ _ _ _ from m_scale (r := 40) (b := 100 - a * pc8 l) (by omega) (by omega) h2 (by omega) (by omega) (by rw [T2.1]; exact p2_le139 (show 54 ≤ 4170 by decide) (by omega))⟩ rfl rfl (fun r h1 hp => ?_)
          obtain ⟨rfl, h3, hF3⟩ := hp
          rw [T2.1] at h3
          have T3 := tt_40 (z := pw Q s * (100 - a * pc8 l)) T2
          generalize va_up u2 40 (pw Q s * (100 - a * pc8 l)) = u3 at *
          refine ev_aload_n (pc := 157) dX9_cap_157 rfl ?_
          refine ev_bipush (pc := 158) (v := nI 41) dX9_cap_158 (by decide) ?_
          refine ev_lload (pc := 160) dX9_cap_160 rfl ?_
          refine ev_callV (pc := 162) (As := [.int (nI 41), .long (lN (sw Q (am (I 0) l) 8))]) dX9_cap_162 cv_X9_62 rfl rfl (ms_M h3) rfl ⟨by show 19 + 6 ≤ w; omega, show ev_Ca _ _ (w - 25) _ _ _ _ _ _ from m_set (r := 41) (by omega) h3 (by omega) (by omega)⟩ rfl rfl (fun r h1 hp => ?_)
          obtain ⟨rfl, h4, hF4⟩ := hp
          have T4 := tt_41 (z := sw Q (am (I 0) l) 8) T3
          generalize va_up u3 41 (sw Q (am (I 0) l) 8) = u4 at *
          refine ev_aload_n (pc := 165) dX9_cap_165 rfl ?_
          refine ev_bipush (pc := 166) (v := nI 41) dX9_cap_166 (by decide) ?_
          refine ev_iload_n (pc := 168) dX9_cap_168 rfl ?_
          refine ev_callV (pc := 169) (As := [.int (nI 41), .int (nI a)]) dX9_cap_169 cv_X9_158 rfl rfl (ms_M h4) rfl ⟨by show 19 + 8 ≤ w; omega, show ev_Ca _ _ (w - 27) _ _ _ _ _ _ from m_scale (r := 41) (b := a) (by omega) (by omega) h4 (by omega) (by omega) (by rw [T4.2.1]; exact p2_le139 (show 60 ≤ 4170 by decide) (by omega))⟩ rfl rfl (fun r h1 hp => ?_)
          obtain ⟨rfl, h5, hF5⟩ := hp
          rw [T4.2.1] at h5
          have T5 := tt_41 (z := sw Q (am (I 0) l) 8 * a) T4
          generalize va_up u4 41 (sw Q (am (I 0) l) 8 * a) = u5 at *
          have hFF := (((hF.tr hF2).tr hF3).tr hF4).tr hF5
          have eu : ∀ i, i < 40 → u5 i = v i := fun i hi => (T5.2.2 i hi).trans (e2 i hi)
          refine ev_iload (pc := 172) dX9_cap_172 rfl ?_
          refine ev_aload_n (pc := 174) dX9_cap_174 rfl ?_
          refine ev_bipush (pc := 175) (v := nI 40) dX9_cap_175 (by decide) ?_
          refine ev_bipush (pc := 177) (v := nI 41) dX9_cap_177 (by decide) ?_
          refine ev_callV (pc := 179) (As := [.int (nI 40), .int (nI 41)]) dX9_cap_179 cv_X9_95 rfl rfl (ms_M h5) rfl ⟨by show 19 + 4 ≤ w; omega, show ev_Ca _ _ (w - 23) _ _ _ _ _ _ from g_cmp (r := 40) (o := 41) (by omega) (ms_g h5) (by omega) (by omega)⟩ rfl rfl (fun r h1 hp => ?_)
          obtain ⟨rfl, hH⟩ := hp
          rw [hH, T5.1, T5.2.1]
          clear hH
          refine ev_if_le (pc := 182) (tgt := 192) dX9_cap_182 (by decide) (fun c4 => ?_) (fun c4 => ?_)
          · have le := mi_cmple.mp c4
            have ef : fo Q (I 0) a l (s + 1) = fo Q (I 0) a l s := by
              rcases fo_c (P := Q) (mem := I 0) (a := a) (l := l) (k := s) with ⟨q, -⟩ | ⟨-, q⟩
              · have := q.2
                rw [Nat.mul_comm a] at this
                omega
              · exact q
            refine ev_iconst (pc := 192) (v := nI 0) dX9_cap_192 (by decide) ?_
            refine ev_ior (pc := 193) dX9_cap_193 ?_
            refine ev_ti (y := nI (fo Q (I 0) a l (s + 1))) (by rw [i_or, Nat.or_zero, ef]) ?_
            refine ev_istore (pc := 194) dX9_cap_194 rfl ?_
            refine ev_iincN (pc := 196) dX9_cap_196 rfl rfl ?_
            refine ev_goto (pc := 199) (tgt := 112) dX9_cap_199 (by decide) ?_
            refine ev_vs [(0, .ref (A 17)), (1, .int (nI a)), (2, .int (nI l)), (4, .long (lN (sw Q (am (I 0) l) 8))), (6, .int (nI (100 - a * pc8 l))), (7, .int (nI (fo Q (I 0) a l (s + 1)))), (8, .int (nI (s + 1)))] ⟨rfl, rfl, rfl, rfl, rfl, rfl, rfl, trivial⟩ ?_
            exact l_rcb hd hw hP hm hl ha hlt hK k (s + 1) u5 _ (by omega) ⟨h5, hFF⟩ eu
          · have gt : sw Q (am (I 0) l) 8 * a < pw Q s * (100 - a * pc8 l) := Nat.not_le.mp (fun q => c4 (mi_cmple.mpr q))
            have ef : fo Q (I 0) a l (s + 1) = fo Q (I 0) a l s + 2 ^ s := by
              rcases fo_c (P := Q) (mem := I 0) (a := a) (l := l) (k := s) with ⟨-, q⟩ | ⟨q, -⟩
              · exact q
              · exact absurd ⟨b1, by rw [Nat.mul_comm a]; exact gt⟩ q
            refine ev_iconst (pc := 185) (v := nI 1) dX9_cap_185 (by decide) ?_
            refine ev_iload (pc := 186) dX9_cap_186 rfl ?_
            refine ev_ishl (pc := 188) dX9_cap_188 ?_
            refine ev_goto (pc := 189) (tgt := 193) dX9_cap_189 (by decide) ?_
            refine ev_ior (pc := 193) dX9_cap_193 ?_
            refine ev_ti (y := nI (fo Q (I 0) a l (s + 1))) (by rw [bt_set _ hf8 s (by omega), show fo Q (I 0) a l s / 2 ^ s % 2 = 0 from hfb, Nat.sub_zero, Nat.mul_one, ef]) ?_
            refine ev_istore (pc := 194) dX9_cap_194 rfl ?_
            refine ev_iincN (pc := 196) dX9_cap_196 rfl rfl ?_
            refine ev_goto (pc := 199) (tgt := 112) dX9_cap_199 (by decide) ?_
            refine ev_vs [(0, .ref (A 17)), (1, .int (nI a)), (2, .int (nI l)), (4, .long (lN (sw Q (am (I 0) l) 8))), (6, .int (nI (100 - a * pc8 l))), (7, .int (nI (fo Q (I 0) a l (s + 1)))), (8, .int (nI (s + 1)))] ⟨rfl, rfl, rfl, rfl, rfl, rfl, rfl, trivial⟩ ?_
            exact l_rcb hd hw hP hm hl ha hlt hK k (s + 1) u5 _ (by omega) ⟨h5, hFF⟩ eu
theorem l_rcw {K : ev_K} {c z a : Nat} (hd : 2 ≤ dd) (hw : 60 ≤ w) (hP : P_ok Q) (hm : I 0 < 256) (ha : a ≤ 100)
    (hK : ∀ l v1 h1, l = lgf Q (I 0) a 9 0 → mpost H A I v1 Q R lv f h1 → (∀ i, i < 40 → v1 i = v i) → ev_J G (ev_cc G dd w) w m_X9_cap K (221, ev_lf [(0, .ref (A 17)), (1, .int (nI a)), (2, .int (nI l)), (4, .long (lN (sw Q (am (I 0) l) 8)))], [], h1, c, z)) :
    ∀ n l v1 h1 o, 9 ≤ pc8 l + n → lg_ok (I 0) a l → lgf Q (I 0) a n l = lgf Q (I 0) a 9 0 → mpost H A I v1 Q R lv f h1 → (∀ i, i < 40 → v1 i = v i) → ev_J G (ev_cc G dd w) w m_X9_cap K (38, ev_lf [(0, .ref (A 17)), (1, .int (nI a)), (2, .int (nI l)), (3, .int (nI 1)), (4, .long (lN o))], [], h1, c, z)
  | 0, l, v1, h1, o, e, e1, e2, e3, e4 => by
    have := pc8_b l e1.1
    omega
  | n + 1, l, v1, h1, o, e, e1, e2, e3, e4 => by
    obtain ⟨h, hF⟩ := e3
    have hl := e1.1
    have hlt := e1.2.2
    have p8 := pc8_b l e1.1
    obtain ⟨s1, s2, s3, s4⟩ := lg_step hP e1
    refine ev_iload_n (pc := 38) dX9_cap_38 rfl ?_
    refine ev_if_eqN (pc := 39) (tgt := 221) dX9_cap_39 (by decide) (by decide) (fun q => absurd q (by decide)) (fun _ => ?_)
    refine ev_lconst (pc := 42) (v := lN 0) dX9_cap_42 (by decide) ?_
    refine ev_lstore (pc := 43) dX9_cap_43 rfl ?_
    refine ev_iconst (pc := 45) (v := nI 0) dX9_cap_45 (by decide) ?_
    refine ev_istore (pc := 46) dX9_cap_46 rfl ?_
    refine ev_vs [(0, .ref (A 17)), (1, .int (nI a)), (2, .int (nI l)), (4, .long (lN (sw Q (am (I 0) l) 0))), (6, .int (nI 0))] ⟨rfl, rfl, rfl, rfl, rfl, trivial⟩ ?_
    refine l_rca (by omega) (by omega) h hP hm hl ?_ 8 0 (by omega)
    refine ev_bipush (pc := 94) (v := nI 100) dX9_cap_94 (by decide) ?_
    refine ev_iload_n (pc := 96) dX9_cap_96 rfl ?_
    refine ev_aload_n (pc := 97) dX9_cap_97 rfl ?_
    refine ev_iload_n (pc := 98) dX9_cap_98 rfl ?_
    refine ev_callV (pc := 99) (As := [.int (nI l)]) dX9_cap_99 cv_X9_185 rfl rfl (ms_M h) rfl ⟨by show 19 + 4 ≤ w; omega, show ev_Ca _ _ (w - 23) _ _ _ _ _ _ from k_rcount (by omega) hl⟩ rfl rfl (fun r h1 hp => ?_)
    obtain ⟨rfl, hH⟩ := hp
    rw [hH]
    clear hH
    refine ev_imulN (pc := 102) dX9_cap_102 ?_
    refine ev_isubN (pc := 103) dX9_cap_103 (by omega) ?_
    refine ev_istore (pc := 104) dX9_cap_104 rfl ?_
    refine ev_iconst (pc := 106) (v := nI 0) dX9_cap_106 (by decide) ?_
    refine ev_istore (pc := 107) dX9_cap_107 rfl ?_
    refine ev_iconst (pc := 109) (v := nI 0) dX9_cap_109 (by decide) ?_
    refine ev_istore (pc := 110) dX9_cap_110 rfl ?_
    refine ev_vs [(0, .ref (A 17)), (1, .int (nI a)), (2, .int (nI l)), (4, .long (lN (sw Q (am (I 0) l) 8))), (6, .int (nI (100 - a * pc8 l))), (7, .int (nI (fo Q (I 0) a l 0))), (8, .int (nI 0))] ⟨rfl, rfl, rfl, rfl, rfl, rfl, rfl, trivial⟩ ?_
    refine l_rcb (H := H) (v := v) hd hw hP hm hl ha hlt (fun v2 h2 g1 g2 => ?_) 8 0 v1 _ (by omega) ⟨h, hF⟩ e4
    refine ev_iload_n (pc := 202) dX9_cap_202 rfl ?_
    refine ev_iload (pc := 203) dX9_cap_203 rfl ?_
    refine ev_ior (pc := 205) dX9_cap_205 ?_
    refine ev_ti (i_or _ _) ?_
    refine ev_istore_n (pc := 206) dX9_cap_206 rfl ?_
    refine ev_iload (pc := 207) dX9_cap_207 rfl ?_
    have un : lgf Q (I 0) a (n + 1) l = (if fo Q (I 0) a l 8 = 0 then l else lgf Q (I 0) a n (l ||| fo Q (I 0) a l 8)) := rfl
    rw [un] at e2
    refine ev_if_eqN (pc := 209) (tgt := 216) dX9_cap_209 (by decide) (by omega) (fun q => ?_) (fun q => ?_)
    · rw [if_pos q] at e2
      refine ev_iconst (pc := 216) (v := nI 0) dX9_cap_216 (by decide) ?_
      refine ev_istore_n (pc := 217) dX9_cap_217 rfl ?_
      refine ev_goto (pc := 218) (tgt := 38) dX9_cap_218 (by decide) ?_
      refine ev_iload_n (pc := 38) dX9_cap_38 rfl ?_
      refine ev_if_eqN (pc := 39) (tgt := 221) dX9_cap_39 (by decide) (by decide) (fun _ => ?_) (fun q => absurd q (by decide))
      refine ev_vs [(0, .ref (A 17)), (1, .int (nI a)), (2, .int (nI l)), (4, .long (lN (sw Q (am (I 0) l) 8)))] ⟨rfl, rfl, by rw [q, Nat.or_zero]; rfl, rfl, trivial⟩ ?_
      exact hK l v2 h2 e2 g1 g2
    · rw [if_neg (by omega)] at e2
      refine ev_iconst (pc := 212) (v := nI 1) dX9_cap_212 (by decide) ?_
      refine ev_goto (pc := 213) (tgt := 217) dX9_cap_213 (by decide) ?_
      refine ev_istore_n (pc := 217) dX9_cap_217 rfl ?_
      refine ev_goto (pc := 218) (tgt := 38) dX9_cap_218 (by decide) ?_
      refine ev_vs [(0, .ref (A 17)), (1, .int (nI a)), (2, .int (nI (l ||| fo Q (I 0) a l 8))), (3, .int (nI 1)), (4, .long (lN (sw Q (am (I 0) l) 8)))] ⟨rfl, rfl, rfl, rfl, rfl, trivial⟩ ?_
      refine l_rcw hd hw hP hm ha hK n _ v2 h2 _ ?_ s1 e2 g1 g2
      rcases s3 with x | x
      · omega
      · rw [s2]; omega
theorem l_rcc {K : ev_K} {c z a l X lf : Nat} (hd : 5 ≤ dd) (hw : 160 ≤ w) (hP : P_ok Q) (hl : l < 256) (ha : a ≤ 100) (ha0 : 0 < a) (hX0 : 0 < X) (hX : X < 2 ^ 60) (hf0 : 0 < lf) (hf1 : lf ≤ 100)
    (hK : ∀ v1 h1, mpost H A I v1 Q R lv f h1 → (∀ j, j < 8 → v1 j = cpu Q l (a * X) lf j ∧ v1 (8 + j) = cpd Q l (a * X) lf j) → (∀ i, 16 ≤ i → i < 40 → v1 i = v i) → K (.inl (some (.int (nI 0)))) h1) :
    ∀ k s v1 h1, s + k = 8 → mpost H A I v1 Q R lv f h1 → (∀ j, j < s → v1 j = cpu Q l (a * X) lf j ∧ v1 (8 + j) = cpd Q l (a * X) lf j) → (∀ i, 16 ≤ i → i < 40 → v1 i = v i) → ev_J G (ev_cc G dd w) w m_X9_cap K (236, ev_lf [(0, .ref (A 17)), (1, .int (nI a)), (2, .int (nI l)), (4, .long (lN X)), (6, .int (nI lf)), (7, .int (nI s))], [], h1, c, z)
  | 0, s, v1, h1, e, e1, e2, e3 => by
    refine ev_iload (pc := 236) dX9_cap_236 rfl ?_
    refine ev_bipush (pc := 238) (v := nI 8) dX9_cap_238 (by decide) ?_
    refine ev_icmp_geN (pc := 240) (tgt := 336) dX9_cap_240 (by decide) (by omega) (by omega) (fun c1 => ?_) (fun c1 => ?_)
    · refine ev_iconst (pc := 336) (v := nI 0) dX9_cap_336 (by decide) ?_
      exact ev_iret (pc := 337) dX9_cap_337 rfl rfl (hK v1 h1 e1 (fun j hj => e2 j (by omega)) e3)
    · omega
  | k + 1, s, v1, h1, e, e1, e2, e3 => by
    obtain ⟨h, hF⟩ := e1
    have hle : l / 2 ^ s ≤ l := Nat.div_le_self _ _
    have bl := bt_le l s
    have hpw := pw_b hP (show s < 8 by omega)
    refine ev_iload (pc := 236) dX9_cap_236 rfl ?_
    refine ev_bipush (pc := 238) (v := nI 8) dX9_cap_238 (by decide) ?_
    refine ev_icmp_geN (pc := 240) (tgt := 336) dX9_cap_240 (by decide) (by omega) (by omega) (fun c1 => ?_) (fun c1 => ?_)
    · omega
    · refine ev_aload_n (pc := 243) dX9_cap_243 rfl ?_
      refine ev_iconst (pc := 244) (v := nI 0) dX9_cap_244 (by decide) ?_
      refine ev_iload (pc := 245) dX9_cap_245 rfl ?_
      refine ev_iaddN (pc := 247) dX9_cap_247 ?_
      refine ev_lconst (pc := 248) (v := lN 1) dX9_cap_248 (by decide) ?_
      refine ev_callV (pc := 249) (As := [.int (nI (0 + s)), .long (lN 1)]) dX9_cap_249 cv_X9_62 rfl rfl (ms_M h) rfl ⟨by show 19 + 6 ≤ w; omega, show ev_Ca _ _ (w - 25) _ _ _ _ _ _ from m_set (r := 0 + s) (by omega) h (by omega) (by decide)⟩ rfl rfl (fun r h1 hp => ?_)
      obtain ⟨rfl, h2, hF2⟩ := hp
      rw [Nat.zero_add] at h2
      refine ev_aload_n (pc := 252) dX9_cap_252 rfl ?_
      refine ev_bipush (pc := 253) (v := nI 8) dX9_cap_253 (by decide) ?_
      refine ev_iload (pc := 255) dX9_cap_255 rfl ?_
      refine ev_iaddN (pc := 257) dX9_cap_257 ?_
      refine ev_lconst (pc := 258) (v := lN 1) dX9_cap_258 (by decide) ?_
      refine ev_callV (pc := 259) (As := [.int (nI (8 + s)), .long (lN 1)]) dX9_cap_259 cv_X9_62 rfl rfl (ms_M h2) rfl ⟨by show 19 + 6 ≤ w; omega, show ev_Ca _ _ (w - 25) _ _ _ _ _ _ from m_set (r := 8 + s) (by omega) h2 (by omega) (by decide)⟩ rfl rfl (fun r h1 hp => ?_)
      obtain ⟨rfl, h3, hF3⟩ := hp
      refine ev_iload_n (pc := 262) dX9_cap_262 rfl ?_
      refine ev_iload (pc := 263) dX9_cap_263 rfl ?_
      refine ev_ishr (pc := 265) dX9_cap_265 (ev_ti (mi_shr (by omega) (by omega)) ?_)
      refine ev_iconst (pc := 266) (v := nI 1) dX9_cap_266 (by decide) ?_
      refine ev_iand (pc := 267) dX9_cap_267 (ev_ti (mi_and1 (by omega)) ?_)
      refine ev_iconst (pc := 268) (v := nI 1) dX9_cap_268 (by decide) ?_
      refine ev_icmp_neN (pc := 269) (tgt := 330) dX9_cap_269 (by decide) (show bt l s < 2 ^ 31 by omega) (by decide) (fun (c2 : ¬ bt l s = 1) => ?_) (fun (c2 : bt l s = 1) => ?_)
      · refine ev_iincN (pc := 330) dX9_cap_330 rfl rfl ?_
        refine ev_goto (pc := 333) (tgt := 236) dX9_cap_333 (by decide) ?_
        refine ev_vs [(0, .ref (A 17)), (1, .int (nI a)), (2, .int (nI l)), (4, .long (lN X)), (6, .int (nI lf)), (7, .int (nI (s + 1)))] ⟨rfl, rfl, rfl, rfl, rfl, rfl, trivial⟩ ?_
        refine l_rcc hd hw hP hl ha ha0 hX0 hX hf0 hf1 hK k (s + 1) _ _ (by omega) ⟨h3, (hF.tr hF2).tr hF3⟩ (fun j hj => ?_) (fun i i1 i2 => ?_)
        · by_cases q : j = s
          · subst q
            unfold cpu cpd
            rw [if_neg c2, if_neg c2, va_up_self, va_up_ne _ _ (by omega), va_up_self]
            exact ⟨rfl, rfl⟩
          · rw [va_up_ne _ _ (by omega), va_up_ne _ _ (by omega), va_up_ne _ _ (by omega), va_up_ne _ _ (by omega)]
            exact e2 j (by omega)
        · rw [va_up_ne _ _ (by omega), va_up_ne _ _ (by omega)]
          exact e3 i i1 i2
      · refine ev_aload_n (pc := 272) dX9_cap_272 rfl ?_
        refine ev_iconst (pc := 273) (v := nI 0) dX9_cap_273 (by decide) ?_
        refine ev_iload (pc := 274) dX9_cap_274 rfl ?_
        refine ev_iaddN (pc := 276) dX9_cap_276 ?_
        refine ev_lload (pc := 277) dX9_cap_277 rfl ?_
        refine ev_callV (pc := 279) (As := [.int (nI (0 + s)), .long (lN X)]) dX9_cap_279 cv_X9_62 rfl rfl (ms_M h3) rfl ⟨by show 19 + 6 ≤ w; omega, show ev_Ca _ _ (w - 25) _ _ _ _ _ _ from m_set (r := 0 + s) (by omega) h3 (by omega) (by omega)⟩ rfl rfl (fun r h1 hp => ?_)
        obtain ⟨rfl, h4, hF4⟩ := hp
        rw [Nat.zero_add] at h4
        have x1 : va_up (va_up (va_up v1 s 1) (8 + s) 1) s X s = X := va_up_self _ _ _
        have x2 : ∀ i, i ≠ s → i ≠ 8 + s → va_up (va_up (va_up v1 s 1) (8 + s) 1) s X i = v1 i := fun i a b => by rw [va_up_ne _ _ a, va_up_ne _ _ b, va_up_ne _ _ a]
        generalize va_up (va_up (va_up v1 s 1) (8 + s) 1) s X = u4 at *
        refine ev_aload_n (pc := 282) dX9_cap_282 rfl ?_
        refine ev_iconst (pc := 283) (v := nI 0) dX9_cap_283 (by decide) ?_
        refine ev_iload (pc := 284) dX9_cap_284 rfl ?_
        refine ev_iaddN (pc := 286) dX9_cap_286 ?_
        refine ev_iload_n (pc := 287) dX9_cap_287 rfl ?_
        refine ev_callV (pc := 288) (As := [.int (nI (0 + s)), .int (nI a)]) dX9_cap_288 cv_X9_158 rfl rfl (ms_M h4) rfl ⟨by show 19 + 8 ≤ w; omega, show ev_Ca _ _ (w - 27) _ _ _ _ _ _ from m_scale (r := 0 + s) (b := a) (by omega) (by omega) h4 (by omega) (by omega) (by rw [Nat.zero_add, x1]; exact p2_le139 (show 60 ≤ 4170 by decide) hX)⟩ rfl rfl (fun r h1 hp => ?_)
        obtain ⟨rfl, h5, hF5⟩ := hp
        rw [Nat.zero_add, x1] at h5
        have y1 : va_up u4 s (X * a) s = X * a := va_up_self _ _ _
        have y2 : ∀ i, i ≠ s → i ≠ 8 + s → va_up u4 s (X * a) i = v1 i := fun i a b => by rw [va_up_ne _ _ a]; exact x2 i a b
        generalize va_up u4 s (X * a) = u5 at *
        refine ev_aload_n (pc := 291) dX9_cap_291 rfl ?_
        refine ev_bipush (pc := 292) (v := nI 8) dX9_cap_292 (by decide) ?_
        refine ev_iload (pc := 294) dX9_cap_294 rfl ?_
        refine ev_iaddN (pc := 296) dX9_cap_296 ?_
        refine ev_aload_n (pc := 297) dX9_cap_297 rfl ?_
        refine ev_iload (pc := 298) dX9_cap_298 rfl ?_
        refine ev_callV (pc := 300) (As := [.int (nI s)]) dX9_cap_300 cv_X9_127 rfl rfl (ms_M h5) rfl ⟨by show 19 + 2 ≤ w; omega, show ev_Ca _ _ (w - 21) _ _ _ _ _ _ from k_plain (by omega) h5 hP (by omega)⟩ rfl rfl (fun r h1 hp => ?_)
        obtain ⟨rfl, hH⟩ := hp
        rw [hH]
        clear hH
        refine ev_callV (pc := 303) (As := [.int (nI (8 + s)), .long (lN (pw Q s))]) dX9_cap_303 cv_X9_62 rfl rfl (ms_M h5) rfl ⟨by show 19 + 6 ≤ w; omega, show ev_Ca _ _ (w - 25) _ _ _ _ _ _ from m_set (r := 8 + s) (by omega) h5 (by omega) (by omega)⟩ rfl rfl (fun r h1 hp => ?_)
        obtain ⟨rfl, h6, hF6⟩ := hp
        have z1 : va_up u5 (8 + s) (pw Q s) (8 + s) = pw Q s := va_up_self _ _ _
        have z2 : va_up u5 (8 + s) (pw Q s) s = X * a := (va_up_ne _ _ (by omega)).trans y1
        have z3 : ∀ i, i ≠ s → i ≠ 8 + s → va_up u5 (8 + s) (pw Q s) i = v1 i := fun i a b => by rw [va_up_ne _ _ b]; exact y2 i a b
        generalize va_up u5 (8 + s) (pw Q s) = u6 at *
        refine ev_aload_n (pc := 306) dX9_cap_306 rfl ?_
        refine ev_bipush (pc := 307) (v := nI 8) dX9_cap_307 (by decide) ?_
        refine ev_iload (pc := 309) dX9_cap_309 rfl ?_
        refine ev_iaddN (pc := 311) dX9_cap_311 ?_
        refine ev_iload (pc := 312) dX9_cap_312 rfl ?_
        refine ev_callV (pc := 314) (As := [.int (nI (8 + s)), .int (nI lf)]) dX9_cap_314 cv_X9_158 rfl rfl (ms_M h6) rfl ⟨by show 19 + 8 ≤ w; omega, show ev_Ca _ _ (w - 27) _ _ _ _ _ _ from m_scale (r := 8 + s) (b := lf) (by omega) (by omega) h6 (by omega) (by omega) (by rw [z1]; exact p2_le139 (show 54 ≤ 4170 by decide) (by omega))⟩ rfl rfl (fun r h1 hp => ?_)
        obtain ⟨rfl, h7, hF7⟩ := hp
        rw [z1] at h7
        have t1 : va_up u6 (8 + s) (pw Q s * lf) (8 + s) = pw Q s * lf := va_up_self _ _ _
        have t2 : va_up u6 (8 + s) (pw Q s * lf) s = X * a := (va_up_ne _ _ (by omega)).trans z2
        have t3 : ∀ i, i ≠ s → i ≠ 8 + s → va_up u6 (8 + s) (pw Q s * lf) i = v1 i := fun i a b => by rw [va_up_ne _ _ b]; exact z3 i a b
        generalize va_up u6 (8 + s) (pw Q s * lf) = u7 at *
        have bX : X * a < 2 ^ (60 + 7) := p2_mul hX (by omega)
        have bP : pw Q s * lf < 2 ^ (54 + 7) := p2_mul (by omega) (by omega)
        refine ev_aload_n (pc := 317) dX9_cap_317 rfl ?_
        refine ev_iconst (pc := 318) (v := nI 0) dX9_cap_318 (by decide) ?_
        refine ev_iload (pc := 319) dX9_cap_319 rfl ?_
        refine ev_iaddN (pc := 321) dX9_cap_321 ?_
        refine ev_bipush (pc := 322) (v := nI 8) dX9_cap_322 (by decide) ?_
        refine ev_iload (pc := 324) dX9_cap_324 rfl ?_
        refine ev_iaddN (pc := 326) dX9_cap_326 ?_
        refine ev_callV (pc := 327) (As := [.int (nI (0 + s)), .int (nI (8 + s))]) dX9_cap_327 cv_X9_138 rfl rfl (ms_M h7) rfl ⟨by show 19 + 3 ≤ w; omega, show ev_Ca _ _ (w - 22) _ _ _ _ _ _ from m_reduce (t := 0 + s) (b := 8 + s) (by omega) (by omega) h7 (by omega) (by omega) (by omega) (by rw [Nat.zero_add, t2]; exact Nat.mul_pos hX0 ha0) (by rw [Nat.zero_add, t2]; exact p2_le139 (by decide) bX) (by rw [t1]; exact p2_le139 (by decide) bP)⟩ rfl rfl (fun r h1 hp => ?_)
        obtain ⟨rfl, v2, ⟨h8, hF8⟩, r1, r2, r3⟩ := hp
        rw [Nat.zero_add, t1, t2] at r1
        rw [Nat.zero_add, t1, t2] at r2
        refine ev_iincN (pc := 330) dX9_cap_330 rfl rfl ?_
        refine ev_goto (pc := 333) (tgt := 236) dX9_cap_333 (by decide) ?_
        refine ev_vs [(0, .ref (A 17)), (1, .int (nI a)), (2, .int (nI l)), (4, .long (lN X)), (6, .int (nI lf)), (7, .int (nI (s + 1)))] ⟨rfl, rfl, rfl, rfl, rfl, rfl, trivial⟩ ?_
        refine l_rcc hd hw hP hl ha ha0 hX0 hX hf0 hf1 hK k (s + 1) v2 _ (by omega) ⟨h8, ((((((hF.tr hF2).tr hF3).tr hF4).tr hF5).tr hF6).tr hF7).tr hF8⟩ (fun j hj => ?_) (fun i i1 i2 => ?_)
        · by_cases q : j = s
          · subst q
            unfold cpu cpd
            rw [if_pos c2, if_pos c2, r1, r2, Nat.mul_comm a X, Nat.mul_comm lf]
            exact ⟨rfl, rfl⟩
          · rw [r3 j (by omega) (by omega) (by omega), r3 (8 + j) (by omega) (by omega) (by omega), t3 j q (by omega), t3 (8 + j) (by omega) (by omega)]
            exact e2 j (by omega)
        · rw [r3 i (by omega) (by omega) (by omega), t3 i (by omega) (by omega)]
          exact e3 i i1 i2
theorem k_rcap {x : Int32} (hd : 6 ≤ dd) (hw : 200 ≤ w) (h : MS H A I v Q R lv f) (hP : P_ok Q) (hm : I 0 < 256) : ev_Ca G dd w m_X9_cap [.ref (A 17), .int x] H 0 0 (ev_ok (fun r h1 => (cap_c (I 0) x ∧ r = some (.int (nI 0)) ∧ ∃ v2, mpost H A I v2 Q R lv f h1 ∧ (∀ j, j < 8 → v2 j = cap_u Q (I 0) x j ∧ v2 (8 + j) = cap_d Q (I 0) x j) ∧ ∀ i, 16 ≤ i → i < 40 → v2 i = v i) ∨ (¬ cap_c (I 0) x ∧ r = some (.int (nI 2)) ∧ mpost H A I v Q R lv f h1))) := by
  obtain ⟨dd, rfl⟩ : ∃ e, dd = e + 1 := ⟨dd - 1, by omega⟩
  refine ⟨by decide +kernel, rfl, ?_⟩
  have no : ∀ {V}, ¬ cap_c (I 0) x → ev_J G (ev_cc G dd w) w m_X9_cap (ev_ok (fun r h1 => (cap_c (I 0) x ∧ r = some (.int (nI 0)) ∧ ∃ v2, mpost H A I v2 Q R lv f h1 ∧ (∀ j, j < 8 → v2 j = cap_u Q (I 0) x j ∧ v2 (8 + j) = cap_d Q (I 0) x j) ∧ ∀ i, 16 ≤ i → i < 40 → v2 i = v i) ∨ (¬ cap_c (I 0) x ∧ r = some (.int (nI 2)) ∧ mpost H A I v Q R lv f h1))) (29, V, [], H, 0, 0) := by
    intro V nk
    refine ev_iconst (pc := 29) (v := nI 2) dX9_cap_29 (by decide) ?_
    exact ev_iret (pc := 30) dX9_cap_30 rfl rfl (Or.inr ⟨nk, rfl, h, MF.rf⟩)
  refine ev_iload_n (pc := 0) dX9_cap_0 rfl ?_
  refine ev_iconst (pc := 1) (v := nI 1) dX9_cap_1 (by decide) ?_
  refine ev_bipush (pc := 2) (v := nI 100) dX9_cap_2 (by decide) ?_
  refine ev_callS (pc := 4) (As := [.int x, .int (nI 1), .int (nI 100)]) dX9_cap_4 cs_X9_142 rfl rfl ⟨by show 19 + 3 ≤ w; omega, show ev_Ca _ _ (w - 22) _ _ _ _ _ _ from k_in (x := x) (lo := 1) (hi := 100) (by omega) (by decide) (by decide)⟩ rfl rfl (fun r h1 hp => ?_)
  obtain ⟨rfl, hH⟩ := hp
  rw [hH]
  clear hH
  by_cases e2 : ri x 1 100
  · rw [show rb x ((1 : Nat) : Int) ((100 : Nat) : Int) = 1 from rb_1 e2]
    refine ev_if_eqN (pc := 7) (tgt := 29) dX9_cap_7 (by decide) (by decide) (fun q => absurd q (by decide)) (fun _ => ?_)
    have cc : cap_c (I 0) x ↔ 100 ≤ x.toInt.toNat * pc8 (I 0) := ⟨fun q => q.2, fun q => ⟨e2, q⟩⟩
    have cl : cap_l Q (I 0) x = lgf Q (I 0) x.toInt.toNat 9 0 := rfl
    have cu : ∀ j, cap_u Q (I 0) x j = cpu Q (cap_l Q (I 0) x) (x.toInt.toNat * sw Q (am (I 0) (cap_l Q (I 0) x)) 8) (100 - x.toInt.toNat * pc8 (cap_l Q (I 0) x)) j := fun _ => rfl
    have cd : ∀ j, cap_d Q (I 0) x j = cpd Q (cap_l Q (I 0) x) (x.toInt.toNat * sw Q (am (I 0) (cap_l Q (I 0) x)) 8) (100 - x.toInt.toNat * pc8 (cap_l Q (I 0) x)) j := fun _ => rfl
    obtain ⟨a, rfl, a1, a2⟩ := ri_nI (lo := 1) (hi := 100) e2 (by decide)
    rw [nI_tn (by omega)] at cc cl
    simp only [nI_tn (show a < 2 ^ 31 by omega)] at cu cd
    have p8 := pc8_b (I 0) hm
    have ap : a * pc8 (I 0) ≤ 100 * 8 := Nat.mul_le_mul a2 p8
    refine ev_iload_n (pc := 10) dX9_cap_10 rfl ?_
    refine ev_i2lN (pc := 11) dX9_cap_11 (by omega) ?_
    refine ev_aload_n (pc := 12) dX9_cap_12 rfl ?_
    refine ev_aload_n (pc := 13) dX9_cap_13 rfl ?_
    refine ev_getf (pc := 14) dX9_cap_14 f_X9_70 (ms_M h) rfl ?_
    refine ev_callV (pc := 17) (As := [.int (nI (I 0))]) dX9_cap_17 cv_X9_185 rfl rfl (ms_M h) rfl ⟨by show 19 + 4 ≤ w; omega, show ev_Ca _ _ (w - 23) _ _ _ _ _ _ from k_rcount (by omega) hm⟩ rfl rfl (fun r h1 hp => ?_)
    obtain ⟨rfl, hH⟩ := hp
    rw [hH]
    clear hH
    refine ev_i2lN (pc := 20) dX9_cap_20 (by omega) ?_
    refine ev_lmulN (pc := 21) dX9_cap_21 ?_
    refine ev_ldc2 (pc := 22) dX9_cap_22 k_X9_188 ?_
    refine ev_lc_ge (pc := 25) (tgt := 31) dX9_cap_25 dX9_cap_26 (by decide) (by omega) (by omega) (fun c1 => ?_) (fun c1 => ?_)
    · have ok := lgf_ok hP 9 0 (lg0 (I 0) a)
      have ccc := cc.mpr c1
      refine ev_iconst (pc := 31) (v := nI 0) dX9_cap_31 (by decide) ?_
      refine ev_istore_n (pc := 32) dX9_cap_32 rfl ?_
      refine ev_iconst (pc := 33) (v := nI 1) dX9_cap_33 (by decide) ?_
      refine ev_istore_n (pc := 34) dX9_cap_34 rfl ?_
      refine ev_lconst (pc := 35) (v := lN 0) dX9_cap_35 (by decide) ?_
      refine ev_lstore (pc := 36) dX9_cap_36 rfl ?_
      refine ev_vs [(0, .ref (A 17)), (1, .int (nI a)), (2, .int (nI 0)), (3, .int (nI 1)), (4, .long (lN 0))] ⟨rfl, rfl, rfl, rfl, rfl, trivial⟩ ?_
      refine l_rcw (H := H) (v := v) (by omega) (by omega) hP hm a2 (fun l v1 h1 g0 g1 g2 => ?_) 9 0 v _ 0 (by rw [show pc8 0 = 0 by decide]; decide) (lg0 (I 0) a) rfl ⟨h, MF.rf⟩ (fun _ _ => rfl)
      rw [← g0] at ok cl
      have hsp := sw_pos hP ok hm c1
      have hsw := sw_b hP (am (I 0) l) 8 (Nat.le_refl 8)
      have hl := ok.2.2
      have p8l := pc8_b l ok.1
      refine ev_bipush (pc := 221) (v := nI 100) dX9_cap_221 (by decide) ?_
      refine ev_iload_n (pc := 223) dX9_cap_223 rfl ?_
      refine ev_aload_n (pc := 224) dX9_cap_224 rfl ?_
      refine ev_iload_n (pc := 225) dX9_cap_225 rfl ?_
      refine ev_callV (pc := 226) (As := [.int (nI l)]) dX9_cap_226 cv_X9_185 rfl rfl (ms_M g1.1) rfl ⟨by show 19 + 4 ≤ w; omega, show ev_Ca _ _ (w - 23) _ _ _ _ _ _ from k_rcount (by omega) ok.1⟩ rfl rfl (fun r h1 hp => ?_)
      obtain ⟨rfl, hH⟩ := hp
      rw [hH]
      clear hH
      refine ev_imulN (pc := 229) dX9_cap_229 ?_
      refine ev_isubN (pc := 230) dX9_cap_230 (by omega) ?_
      refine ev_istore (pc := 231) dX9_cap_231 rfl ?_
      refine ev_iconst (pc := 233) (v := nI 0) dX9_cap_233 (by decide) ?_
      refine ev_istore (pc := 234) dX9_cap_234 rfl ?_
      refine ev_vs [(0, .ref (A 17)), (1, .int (nI a)), (2, .int (nI l)), (4, .long (lN (sw Q (am (I 0) l) 8))), (6, .int (nI (100 - a * pc8 l))), (7, .int (nI 0))] ⟨rfl, rfl, rfl, rfl, rfl, rfl, trivial⟩ ?_
      refine l_rcc (H := H) (v := v) (by omega) (by omega) hP ok.1 a2 (by omega) hsp (by omega) (by omega) (by omega) (fun v3 h3 f1 f2 f3 => ?_) 8 0 v1 _ (by omega) g1 (fun j hj => absurd hj (Nat.not_lt_zero j)) (fun i _ i2 => g2 i i2)
      refine Or.inl ⟨ccc, rfl, v3, f1, fun j hj => ?_, f3⟩
      rw [cu j, cd j, cl]
      exact f2 j hj
    · exact no (fun q => by have := cc.mp q; omega)
  · rw [show rb x ((1 : Nat) : Int) ((100 : Nat) : Int) = 0 from rb_0 e2]
    refine ev_if_eqN (pc := 7) (tgt := 29) dX9_cap_7 (by decide) (by decide) (fun _ => ?_) (fun q => absurd q (by decide))
    exact no (fun q => e2 q.1)
end REFJ
