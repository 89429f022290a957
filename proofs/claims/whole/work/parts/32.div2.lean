/-! Desk: divide, commonDivisor, cancel -/
theorem mi_cmp_lt {a b : Nat} : (0 ≤ mi_cmp a b) ↔ b ≤ a := by
  unfold mi_cmp
  by_cases h1 : a < b
  · rw [if_pos h1]; exact ⟨fun e => absurd e (by decide), fun e => by omega⟩
  · rw [if_neg h1]
    by_cases h2 : a = b
    · rw [if_pos h2]; exact ⟨fun _ => by omega, fun _ => by decide⟩
    · rw [if_neg h2]; exact ⟨fun _ => by omega, fun _ => by decide⟩
section DIV2
variable {G : ev_G} {w : Nat} {H : ev_H} {D : Nat} {lay : Nat → Nat × Nat} {val : Nat → Nat} {i j k dd : Nat}
theorem k_divide (hd : 3 ≤ dd) (hw : 53 ≤ w) (h : DW H D lay val) (hi : i < 20) (hj : j < 20) (hij : i ≠ j) (hi0 : i ≠ 0) (hj0 : j ≠ 0) (hi6 : i ≠ 6) (hj6 : j ≠ 6) (hs : val i < 1073741824 ^ 70) : ev_Ca G dd w m_X1_divide [.ref D, .ref (lay i).1, .ref (lay j).1] H 0 0 (ev_ok (fun r h1 => r = none ∧ dpost H D lay val (fun v2 => v2 0 = val i / val j ∧ v2 i = val i % val j ∧ ∀ x, x ≠ i → x ≠ 0 → x ≠ 6 → v2 x = val x) h1)) := by
  obtain ⟨dd, rfl⟩ : ∃ e, dd = e + 1 := ⟨dd - 1, by omega⟩
  refine ⟨by decide +kernel, rfl, ?_⟩
  refine ev_aload_n (pc := 0) dX1_divide_0 rfl ?_
  refine ev_getf (pc := 1) dX1_divide_1 f_X1_10 h.2.2 rfl ?_
  refine ev_lconst (pc := 4) (v := lN 0) dX1_divide_4 (by decide) ?_
  refine ev_callVe (pc := 5) (As := [.long (lN 0)]) dX1_divide_5 cv_X1_48 rfl rfl (wi_o (h.2.1 0 (by decide))) rfl ⟨by show 19 + 3 ≤ w; omega, show ev_Ca _ _ (w - 22) _ _ _ _ _ _ from t_become (i := 0) (by omega) (by omega) h (by decide) (by decide)⟩ rfl rfl (fun r h1 hp => ?_)
  obtain ⟨rfl, hA, hF⟩ := hp
  obtain ⟨vA, hvA⟩ : ∃ v, v = va_up val 0 0 := ⟨_, rfl⟩
  rw [← hvA] at hA
  have eA : ∀ x, x ≠ 0 → vA x = val x := fun x hx => by rw [hvA]; exact va_up_ne _ _ hx
  have eA0 : vA 0 = 0 := by rw [hvA]; exact va_up_self ..
  have ei := eA i hi0
  have ej := eA j hj0
  refine ev_aload_n (pc := 8) dX1_divide_8 rfl ?_
  refine ev_callVe (pc := 9) (As := []) dX1_divide_9 cv_X1_52 rfl rfl (wi_o (hA.2.1 j hj)) rfl ⟨by show 19 + 1 ≤ w; omega, show ev_Ca _ _ (w - 20) _ _ _ _ _ _ from t_isZero (by omega) hA hj⟩ rfl rfl (fun r h1 hp => ?_)
  obtain ⟨rfl, rfl⟩ := hp
  by_cases z : vA j = 0
  · rw [if_pos z]
    refine ev_if_neN (pc := 12) (tgt := 23) dX1_divide_12 (by decide) (by decide) (fun _ => ?_) (fun c2 => absurd c2 (by decide))
    refine ev_vret (pc := 23) dX1_divide_23 rfl ⟨rfl, vA, hA, ⟨?_, ?_, fun x _ h5 _ => eA x h5⟩, hF⟩
    · rw [eA0, ← ej, z, Nat.div_zero]
    · rw [ei, ← ej, z, Nat.mod_zero]
  · rw [if_neg z]
    refine ev_if_neN (pc := 12) (tgt := 23) dX1_divide_12 (by decide) (by decide) (fun c2 => absurd c2 (by decide)) (fun _ => ?_)
    refine ev_aload_n (pc := 15) dX1_divide_15 rfl ?_
    refine ev_aload_n (pc := 16) dX1_divide_16 rfl ?_
    refine ev_callVe (pc := 17) (As := [.ref (lay j).1]) dX1_divide_17 cv_X1_56 rfl rfl (wi_o (hA.2.1 i hi)) rfl ⟨by show 19 + 3 ≤ w; omega, show ev_Ca _ _ (w - 22) _ _ _ _ _ _ from t_compareWith (by omega) (by omega) hA hi hj hij⟩ rfl rfl (fun r h1 hp => ?_)
    obtain ⟨rfl, rfl⟩ := hp
    refine ev_if_ge (pc := 20) (tgt := 24) dX1_divide_20 (by decide) (fun c1 => ?_) (fun c1 => ?_)
    · have hle := mi_cmp_lt.mp c1
      rw [ei, ej] at hle
      obtain ⟨g2, n2, f1, f2, m2⟩ := id (hA.2.1 j hj)
      rw [ej] at m2
      have hn2 := m2.2.2.2.1
      have hn0 : n2 ≠ 0 := fun e => z (by rw [ej]; exact (mb_is_z m2).mp e)
      refine ev_aload_n (pc := 24) dX1_divide_24 rfl ?_
      refine ev_getf (pc := 25) dX1_divide_25 f_X1_60 f1 rfl ?_
      refine ev_iconst (pc := 28) (v := nI 1) dX1_divide_28 (by decide) ?_
      refine ev_icmp_neN (pc := 29) (tgt := 59) dX1_divide_29 (by decide) (by omega) (by omega) (fun c2 => ?_) (fun c2 => ?_)
      · -- two digits or more
        refine ev_aload_n (pc := 59) dX1_divide_59 rfl ?_
        have hfb := k_freeBits (G := G) (w := w - 21) (h := h1) (dd := dd) (q := (lay j).1) (d := (lay j).2) (g := g2) (n := n2) (by omega) (wi_ne (hA.2.1 j hj) (hA.2.1 j hj)) m2
        rw [wh_id f1 f2] at hfb
        refine ev_callV (pc := 60) (As := []) dX1_divide_60 cv_X1_72 rfl rfl f1 rfl ⟨by show 19 + 2 ≤ w; omega, show ev_Ca _ _ (w - 21) _ _ _ _ _ _ from hfb⟩ rfl rfl (fun r h1 hp => ?_)
        obtain ⟨sh, rfl, rfl, hsh⟩ := hp
        rcases hsh with ⟨e, -⟩ | ⟨-, s1, s2, s3⟩
        · exact absurd e hn0
        refine ev_istore_n (pc := 63) dX1_divide_63 rfl ?_
        refine ev_aload_n (pc := 64) dX1_divide_64 rfl ?_
        refine ev_getf (pc := 65) dX1_divide_65 f_X1_31 hA.2.2 rfl ?_
        refine ev_aload_n (pc := 68) dX1_divide_68 rfl ?_
        refine ev_callVe (pc := 69) (As := [.ref (lay j).1]) dX1_divide_69 cv_X1_44 rfl rfl (wi_o (hA.2.1 6 (by decide))) rfl ⟨by show 19 + 2 ≤ w; omega, show ev_Ca _ _ (w - 21) _ _ _ _ _ _ from t_copy (i := 6) (by omega) (by omega) hA (by decide) hj (Ne.symm hj6)⟩ rfl rfl (fun r h1 hp => ?_)
        obtain ⟨rfl, hB, hF2⟩ := hp
        obtain ⟨vB, hvB⟩ : ∃ v, v = va_up vA 6 (vA j) := ⟨_, rfl⟩
        rw [← hvB] at hB
        have eB6 : vB 6 = val j := by rw [hvB, va_up_self, ej]
        have eBi : vB i = val i := by rw [hvB, va_up_ne _ _ hi6, ei]
        have hP2 : 2 ^ sh ≤ 2 ^ 29 := Nat.pow_le_pow_right (by decide) (by omega)
        have hP0 : 0 < 2 ^ sh := Nat.pow_pos (by decide)
        have hmul : ∀ v, v < 1073741824 ^ 70 → v * 2 ^ sh < 1073741824 ^ 71 := fun v hv => by
          have h3 : v * 2 ^ sh < 1073741824 ^ 70 * 2 ^ sh := Nat.mul_lt_mul_of_pos_right hv hP0
          have h4 : 1073741824 ^ 70 * 2 ^ sh ≤ 1073741824 ^ 70 * 1073741824 := Nat.mul_le_mul_left _ (by omega)
          have h5 : 1073741824 ^ 71 = 1073741824 ^ 70 * 1073741824 := mb_pw 70
          omega
        have h7172 : 1073741824 ^ 71 ≤ 1073741824 ^ 72 := Nat.pow_le_pow_right (by decide) (by decide)
        refine ev_aload_n (pc := 72) dX1_divide_72 rfl ?_
        refine ev_getf (pc := 73) dX1_divide_73 f_X1_31 hB.2.2 rfl ?_
        refine ev_iload_n (pc := 76) dX1_divide_76 rfl ?_
        refine ev_callVe (pc := 77) (As := [.int (nI sh)]) dX1_divide_77 cv_X1_76 rfl rfl (wi_o (hB.2.1 6 (by decide))) rfl ⟨by show 19 + 8 ≤ w; omega, show ev_Ca _ _ (w - 27) _ _ _ _ _ _ from t_shiftUp (i := 6) (by omega) (by omega) hB (by decide) s1 (by rw [eB6]; exact Nat.lt_of_lt_of_le (hmul _ (by omega)) h7172)⟩ rfl rfl (fun r h1 hp => ?_)
        obtain ⟨rfl, hC, hF3⟩ := hp
        rw [eB6] at hC
        obtain ⟨vC, hvC⟩ : ∃ v, v = va_up vB 6 (val j * 2 ^ sh) := ⟨_, rfl⟩
        rw [← hvC] at hC
        have eCi : vC i = val i := by rw [hvC, va_up_ne _ _ hi6, eBi]
        refine ev_aload_n (pc := 80) dX1_divide_80 rfl ?_
        refine ev_iload_n (pc := 81) dX1_divide_81 rfl ?_
        refine ev_callVe (pc := 82) (As := [.int (nI sh)]) dX1_divide_82 cv_X1_76 rfl rfl (wi_o (hC.2.1 i hi)) rfl ⟨by show 19 + 8 ≤ w; omega, show ev_Ca _ _ (w - 27) _ _ _ _ _ _ from t_shiftUp (i := i) (by omega) (by omega) hC hi s1 (by rw [eCi]; exact Nat.lt_of_lt_of_le (hmul _ hs) h7172)⟩ rfl rfl (fun r h1 hp => ?_)
        obtain ⟨rfl, hE, hF4⟩ := hp
        rw [eCi] at hE
        obtain ⟨vE, hvE⟩ : ∃ v, v = va_up vC i (val i * 2 ^ sh) := ⟨_, rfl⟩
        rw [← hvE] at hE
        have eEi : vE i = val i * 2 ^ sh := by rw [hvE, va_up_self]
        have eE6 : vE 6 = val j * 2 ^ sh := by rw [hvE, va_up_ne _ _ (Ne.symm hi6), hvC, va_up_self]
        have eE0 : vE 0 = 0 := by rw [hvE, va_up_ne _ _ (Ne.symm hi0), hvC, va_up_ne _ _ (by decide), hvB, va_up_ne _ _ (by decide), eA0]
        have eEx : ∀ x, x ≠ i → x ≠ 0 → x ≠ 6 → vE x = val x := fun x a b c => by rw [hvE, va_up_ne _ _ a, hvC, va_up_ne _ _ c, hvB, va_up_ne _ _ c, eA x b]
        have hFE := ((hF.tr hF2).tr hF3).tr hF4
        -- the three rows
        obtain ⟨f0, n1, i1, i2, mi⟩ := id (hE.2.1 i hi)
        obtain ⟨gs, ns, j1, j2, ms⟩ := id (hE.2.1 6 (by decide))
        obtain ⟨q0, n0, k1, k2, m0⟩ := id (hE.2.1 0 (by decide))
        rw [eEi] at mi
        rw [eE6] at ms
        rw [eE0] at m0
        have hq0z : q0 = fun _ => 0 := by
          have e0 : n0 = 0 := (mb_is_z m0).mpr rfl
          funext x
          exact m0.2.1 x (by omega)
        -- the shifted divisor has as many digits, and its top one is large
        have hbj : 1073741824 ^ (n2 - 1) * 2 ^ (29 - sh) ≤ val j := by
          have e := m2.2.2.2.2
          obtain ⟨r, hr⟩ : ∃ r, n2 = r + 1 := ⟨n2 - 1, by omega⟩
          rw [hr, mb_vs] at e
          rw [hr] at s2
          simp only [Nat.add_sub_cancel] at s2
          rw [hr, Nat.add_sub_cancel, Nat.mul_comm]
          have := Nat.mul_le_mul_right (1073741824 ^ r) s2
          omega
        have hbj2 : val j < 1073741824 ^ (n2 - 1) * 2 ^ (30 - sh) := by
          have e := m2.2.2.2.2
          obtain ⟨r, hr⟩ : ∃ r, n2 = r + 1 := ⟨n2 - 1, by omega⟩
          rw [hr, mb_vs] at e
          rw [hr] at s3
          simp only [Nat.add_sub_cancel] at s3
          have l := mb_lt (g := g2) (n := r) (fun x _ => m2.1 x)
          rw [hr, Nat.add_sub_cancel, Nat.mul_comm]
          have := Nat.mul_le_mul_right (1073741824 ^ r) (show g2 r + 1 ≤ 2 ^ (30 - sh) from s3)
          rw [Nat.add_mul] at this
          omega
        have hsb : 1073741824 ^ (n2 - 1) * 536870912 ≤ val j * 2 ^ sh := by
          have := Nat.mul_le_mul_right (2 ^ sh) hbj
          rw [Nat.mul_assoc, ← Nat.pow_add, show 29 - sh + sh = 29 by omega] at this
          exact this
        have hsb2 : val j * 2 ^ sh < 1073741824 ^ (n2 - 1) * 1073741824 := by
          have := Nat.mul_lt_mul_of_pos_right hbj2 hP0
          rw [Nat.mul_assoc, ← Nat.pow_add, show 30 - sh + sh = 30 by omega] at this
          exact this
        have hns : ns = n2 := by
          have a1 : ns ≤ n2 := mb_is_n ms (by rw [show n2 = n2 - 1 + 1 by omega, mb_pw]; exact hsb2)
          rcases Nat.lt_or_ge ns n2 with x | x
          · exfalso
            have a2 := mb_is_lt ms
            have a3 : 1073741824 ^ ns ≤ 1073741824 ^ (n2 - 1) := Nat.pow_le_pow_right (by decide) (by omega)
            have a4 := mb_pp (n2 - 1)
            omega
          · omega
        subst hns
        have htop : 536870912 ≤ gs (ns - 1) := by
          have e := ms.2.2.2.2
          obtain ⟨r, hr⟩ : ∃ r, ns = r + 1 := ⟨ns - 1, by omega⟩
          rw [hr, mb_vs] at e
          have l := mb_lt (g := gs) (n := r) (fun x _ => ms.1 x)
          rw [hr, Nat.add_sub_cancel] at hsb ⊢
          rcases Nat.lt_or_ge (gs r) 536870912 with x | x
          · exfalso
            have := Nat.mul_le_mul_right (1073741824 ^ r) (show gs r + 1 ≤ 536870912 from x)
            rw [Nat.add_mul] at this
            omega
          · exact x
        have hn1 : n1 ≤ 71 := mb_is_n mi (hmul _ hs)
        have hn1s : ns ≤ n1 := by
          rcases Nat.lt_or_ge n1 ns with x | x
          · exfalso
            have a2 := mb_is_lt mi
            have a3 : 1073741824 ^ n1 ≤ 1073741824 ^ (ns - 1) := Nat.pow_le_pow_right (by decide) (by omega)
            have a4 := Nat.mul_le_mul_right (2 ^ sh) hle
            have a5 := mb_pp (ns - 1)
            omega
          · exact x
        refine ev_aload_n (pc := 85) dX1_divide_85 rfl ?_
        refine ev_getf (pc := 86) dX1_divide_86 f_X1_60 i1 rfl ?_
        refine ev_aload_n (pc := 89) dX1_divide_89 rfl ?_
        refine ev_getf (pc := 90) dX1_divide_90 f_X1_31 hE.2.2 rfl ?_
        refine ev_getf (pc := 93) dX1_divide_93 f_X1_60 j1 rfl ?_
        refine ev_isubN (pc := 96) dX1_divide_96 (by omega) ?_
        refine ev_istore (pc := 97) dX1_divide_97 rfl ?_
        refine ev_iload (pc := 99) dX1_divide_99 rfl ?_
        refine ev_istore (pc := 101) dX1_divide_101 rfl ?_
        obtain ⟨tp, htp⟩ : ∃ tp, tp = n1 - ns := ⟨_, rfl⟩
        rw [← htp]
        have hL := hE.1
        have hS := hE.2.1
        have hqd := wi_ne (hS i hi) (hS i hi)
        have hqd0 := wi_ne (hS 0 (by decide)) (hS 0 (by decide))
        have t1 := (hL i 0 hi (by decide) hi0).1
        have t2 := wi_ne (hS i hi) (hS 0 (by decide))
        have t3 := Ne.symm (wi_ne (hS 0 (by decide)) (hS i hi))
        have t4 := (hL i 0 hi (by decide) hi0).2
        have hDo := dw_out hE
        refine ev_vs [(0, .ref D), (1, .ref (lay i).1), (3, .int (nI sh)), (4, .int (nI tp)), (5, .int (nI (tp + 1) - nI 1))] ⟨rfl, rfl, rfl, rfl, ev_s1e (nI_pred tp).symm, trivial⟩ ?_
        refine ev_th (((wh_id i1 i2).symm).trans (congrArg (fun x => wh_p x (lay i).1 (lay i).2 n1 f0) (wh_id k1 k2).symm)) ?_
        refine l_divide (b := val j * 2 ^ sh) (A := val i * 2 ^ sh) (by omega) hw hqd hqd0 t1 t2 t3 t4 (ws_a hL hS hi (by decide) hi6 j1 j2) (ws_a hL hS (by decide) (by decide) (by decide) j1 j2) hE.2.2 (hDo i hi).1 (hDo i hi).2 (hDo 0 (by decide)).1 (hDo 0 (by decide)).2 ms.1 (by omega) htop ms.2.2.2.2 (by omega) (fun Qd f hQ hf hQt hfz hlt hv => ?_) (tp + 1) q0 f0 (by omega) m0.1 mi.1 (fun x _ => by rw [hq0z]) (fun x _ => by rw [hq0z]) (fun x hx => mi.2.1 x (by omega)) ?_ ?_
        · -- behind the loop
          have e72 : mb_v f 72 = mb_v f ns := mb_top (by omega) (fun x a _ => hfz x a)
          rw [e72] at hv
          have hb0 : 0 < val j * 2 ^ sh := by omega
          have hu : (val i * 2 ^ sh) / (val j * 2 ^ sh) = mb_v Qd 72 ∧ (val i * 2 ^ sh) % (val j * 2 ^ sh) = mb_v f ns := (Nat.div_mod_unique hb0).mpr ⟨by rw [Nat.mul_comm]; omega, hlt⟩
          have hu1 : val i / val j = mb_v Qd 72 := by rw [← hu.1, Nat.mul_div_mul_right _ _ hP0]
          have hu2 : (val i % val j) * 2 ^ sh = mb_v f ns := by rw [← hu.2, Nat.mul_mod_mul_right]
          have hXD : ∀ m1 m2 Qd f, wh_p (wh_p h1 (lay 0).1 (lay 0).2 m1 Qd) (lay i).1 (lay i).2 m2 f D = some (.inr (1, dkf lay)) := fun m1 m2 Qd f => (wh_n (hDo i hi).1 (hDo i hi).2).trans ((wh_n (hDo 0 (by decide)).1 (hDo 0 (by decide)).2).trans hE.2.2)
          refine ev_aload_n (pc := 166) dX1_divide_166 rfl ?_
          refine ev_getf (pc := 167) dX1_divide_167 f_X1_10 (hXD _ _ _ _) rfl ?_
          refine ev_iload (pc := 170) dX1_divide_170 rfl ?_
          refine ev_iconst (pc := 172) (v := nI 1) dX1_divide_172 (by decide) ?_
          refine ev_iaddN (pc := 173) dX1_divide_173 ?_
          have hct := k_trim (G := G) (w := w - 21) (h := wh_p h1 (lay i).1 (lay i).2 n1 f) (q := (lay 0).1) (d := (lay 0).2) (n := n0) (g := Qd) (dd := dd) (m := tp + 1) (by omega) hqd0 hQ (by omega)
          rw [← wh_comm t1 t2 t3 t4] at hct
          refine ev_callV (pc := 174) (As := [.int (nI (tp + 1))]) dX1_divide_174 cv_X1_92 rfl rfl ((wh_n (Ne.symm t1) (Ne.symm t3)).trans wh_q) rfl ⟨by show 19 + 2 ≤ w; omega, show ev_Ca _ _ (w - 21) _ _ _ _ _ _ from hct⟩ rfl rfl (fun r h1 hp => ?_)
          obtain ⟨rfl, rfl⟩ := hp
          rw [Nat.min_eq_left (show tp + 1 ≤ 72 by omega), ← wh_comm t1 t2 t3 t4]
          refine ev_aload_n (pc := 177) dX1_divide_177 rfl ?_
          refine ev_aload_n (pc := 178) dX1_divide_178 rfl ?_
          refine ev_getf (pc := 179) dX1_divide_179 f_X1_60 wh_q rfl ?_
          refine ev_callV (pc := 182) (As := [.int (nI n1)]) dX1_divide_182 cv_X1_92 rfl rfl wh_q rfl ⟨by show 19 + 2 ≤ w; omega, show ev_Ca _ _ (w - 21) _ _ _ _ _ _ from k_trim (by omega) hqd hf (by omega)⟩ rfl rfl (fun r h1 hp => ?_)
          obtain ⟨rfl, rfl⟩ := hp
          rw [Nat.min_eq_left (show n1 ≤ 72 by omega)]
          have mQ : mb_is Qd (mb_tr Qd (tp + 1)) (val i / val j) := mb_tr_is hQ hQt (by omega) (by rw [hu1]; exact (mb_top (by omega) (fun x a _ => hQt x a)).symm)
          have mR : mb_is f (mb_tr f n1) ((val i % val j) * 2 ^ sh) := mb_tr_is hf (fun x hx => hfz x (by omega)) (by omega) (by rw [hu2]; exact mb_top hn1s (fun x a _ => hfz x a))
          obtain ⟨hG1, hG2⟩ := ws_put hE (i := 0) (by decide) ⟨Qd, _, mQ, rfl⟩
          obtain ⟨hM1, hM2⟩ := ws_put hG1 (i := i) hi ⟨f, _, mR, rfl⟩
          have e9 : va_up (va_up vE 0 (val i / val j)) i ((val i % val j) * 2 ^ sh) i = (val i % val j) * 2 ^ sh := va_up_self ..
          refine ev_aload_n (pc := 185) dX1_divide_185 rfl ?_
          refine ev_iload_n (pc := 186) dX1_divide_186 rfl ?_
          refine ev_callVe (pc := 187) (As := [.int (nI sh)]) dX1_divide_187 cv_X1_95 rfl rfl (wi_o (hM1.2.1 i hi)) rfl ⟨by show 19 + 9 ≤ w; omega, show ev_Ca _ _ (w - 28) _ _ _ _ _ _ from t_shiftDown (i := i) (by omega) (by omega) hM1 hi s1⟩ rfl rfl (fun r h1 hp => ?_)
          obtain ⟨rfl, hN, hF5⟩ := hp
          rw [e9, Nat.mul_div_cancel _ hP0] at hN
          refine ev_vret (pc := 190) dX1_divide_190 rfl ⟨rfl, _, hN, ⟨?_, ?_, fun x a b c => ?_⟩, ((hFE.tr hG2).tr hM2).tr hF5⟩
          · rw [va_up_ne _ _ (Ne.symm hi0), va_up_ne _ _ (Ne.symm hi0), va_up_self]
          · rw [va_up_self]
          · rw [va_up_ne _ _ a, va_up_ne _ _ a, va_up_ne _ _ b]; exact eEx x a b c
        · -- above the first place
          have h1 := mb_cut f0 (tp + 1) (ns - 1)
          have e1 : mb_v f0 (tp + 1 + (ns - 1)) = val i * 2 ^ sh := mb_is_at mi (by omega)
          have e2 : mb_v (fun x => f0 (tp + 1 + x)) ns = mb_v (fun x => f0 (tp + 1 + x)) (ns - 1) := mb_top (by omega) (fun x a b => mi.2.1 _ (by omega))
          have l := mb_lt (g := fun x => f0 (tp + 1 + x)) (n := ns - 1) (fun x _ => mi.1 _)
          rw [e2]
          have := mb_pp (ns - 1)
          omega
        · rw [hq0z, mb_zero (fun _ _ => rfl), Nat.zero_mul, Nat.zero_add]
          exact mb_is_at mi (by omega)
      · -- one digit
        subst c2
        have e0 : g2 0 = val j := by
          have := m2.2.2.2.2
          rw [mb_vs, mb_v0] at this
          omega
        have hjl := m2.1 0
        refine ev_aload_n (pc := 32) dX1_divide_32 rfl ?_
        refine ev_getf (pc := 33) dX1_divide_33 f_X1_10 hA.2.2 rfl ?_
        refine ev_aload_n (pc := 36) dX1_divide_36 rfl ?_
        refine ev_callVe (pc := 37) (As := [.ref (lay i).1]) dX1_divide_37 cv_X1_44 rfl rfl (wi_o (hA.2.1 0 (by decide))) rfl ⟨by show 19 + 2 ≤ w; omega, show ev_Ca _ _ (w - 21) _ _ _ _ _ _ from t_copy (i := 0) (by omega) (by omega) hA (by decide) hi (Ne.symm hi0)⟩ rfl rfl (fun r h1 hp => ?_)
        obtain ⟨rfl, hB, hF2⟩ := hp
        have hne := hA.1 j 0 hj (by decide) hj0
        obtain ⟨g3, n3, f3, f4, m3⟩ := id (hB.2.1 j hj)
        rw [va_up_ne _ _ hj0, ej] at m3
        have h31 : n3 = 1 := by
          have a1 : n3 ≤ 1 := mb_is_n (k := 1) m3 (by omega)
          have a2 : n3 ≠ 0 := fun e => z (by rw [ej]; exact (mb_is_z m3).mp e)
          omega
        subst h31
        have e3 : g3 0 = val j := by
          have := m3.2.2.2.2
          rw [mb_vs, mb_v0] at this
          omega
        refine ev_aload_n (pc := 40) dX1_divide_40 rfl ?_
        refine ev_aload_n (pc := 41) dX1_divide_41 rfl ?_
        refine ev_getf (pc := 42) dX1_divide_42 f_X1_10 hB.2.2 rfl ?_
        refine ev_aload_n (pc := 45) dX1_divide_45 rfl ?_
        refine ev_getf (pc := 46) dX1_divide_46 f_X1_64 f3 rfl ?_
        refine ev_iconst (pc := 49) (v := nI 0) dX1_divide_49 (by decide) ?_
        refine ev_iaN (pc := 50) dX1_divide_50 f4 (by decide) (by decide) ?_
        rw [e3]
        have eB0 : va_up vA 0 (vA i) 0 = val i := by rw [va_up_self, ei]
        refine ev_callVe (pc := 51) (As := [.int (nI (val j))]) dX1_divide_51 cv_X1_68 rfl rfl (wi_o (hB.2.1 0 (by decide))) rfl ⟨by show 19 + 7 ≤ w; omega, show ev_Ca _ _ (w - 26) _ _ _ _ _ _ from t_divideBySmall (i := 0) (by omega) (by omega) hB (by decide) (by omega) (by omega)⟩ rfl rfl (fun r h1 hp => ?_)
        obtain ⟨rfl, hC, hF3⟩ := hp
        rw [eB0] at hC ⊢
        have hml := Nat.mod_lt (val i) (show 0 < val j by omega)
        refine ev_i2lN (pc := 54) dX1_divide_54 (by omega) ?_
        refine ev_callVe (pc := 55) (As := [.long (lN (val i % val j))]) dX1_divide_55 cv_X1_48 rfl rfl (wi_o (hC.2.1 i hi)) rfl ⟨by show 19 + 3 ≤ w; omega, show ev_Ca _ _ (w - 22) _ _ _ _ _ _ from t_become (i := i) (by omega) (by omega) hC hi (by omega)⟩ rfl rfl (fun r h1 hp => ?_)
        obtain ⟨rfl, hE, hF4⟩ := hp
        refine ev_vret (pc := 58) dX1_divide_58 rfl ⟨rfl, _, hE, ⟨?_, ?_, fun x a b c => ?_⟩, ((hF.tr hF2).tr hF3).tr hF4⟩
        · rw [va_up_ne _ _ (Ne.symm hi0), va_up_self]
        · rw [va_up_self]
        · rw [va_up_ne _ _ a, va_up_ne _ _ b, va_up_ne _ _ b, eA x b]
    · have hlt : val i < val j := by
        rcases Nat.lt_or_ge (val i) (val j) with x | x
        · exact x
        · exact absurd (mi_cmp_lt.mpr (by rw [ei, ej]; exact x)) c1
      refine ev_vret (pc := 23) dX1_divide_23 rfl ⟨rfl, vA, hA, ⟨?_, ?_, fun x _ h5 _ => eA x h5⟩, hF⟩
      · rw [eA0, Nat.div_eq_of_lt hlt]
      · rw [ei, Nat.mod_eq_of_lt hlt]
end DIV2
