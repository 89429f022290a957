/-! THE REFERENCE: swap, common, reduce -/
theorem gc_half {X Y : Nat} (hx : X % 2 = 0) (hy : Y % 2 = 1) : Nat.gcd (X / 2) Y = Nat.gcd X Y := by
  have c : Nat.Coprime 2 Y := by unfold Nat.Coprime; rw [Nat.gcd_rec, hy]; decide
  have e : X = 2 * (X / 2) := by omega
  have := Nat.Coprime.gcd_mul_left_cancel (X / 2) c
  rw [← e] at this
  exact this.symm
theorem gc_sub {X Y : Nat} (h : X ≤ Y) : Nat.gcd X (Y - X) = Nat.gcd X Y := by
  obtain ⟨k, rfl⟩ := Nat.exists_eq_add_of_le h
  rw [Nat.add_sub_cancel_left, Nat.gcd_self_add_right]
section REFD
variable {G : ev_G} {w : Nat} {H : ev_H} {M lm sz r n m t b j k dd : Nat} {rest : List Value} {L s v : Nat → Nat}
def cs (H : ev_H) (M lm sz : Nat) (rest : List Value) (v : Nat → Nat) (X Y : Nat) (h1 : ev_H) : Prop := ∃ v2, RG h1 M lm sz rest v2 ∧ RF lm sz H h1 ∧ v2 45 = X ∧ v2 46 = Y ∧ ∀ i, i < 44 → v2 i = v i
theorem g_swap (hd : 2 ≤ dd) (hw : 40 ≤ w) (h : RG H M lm sz rest v) : ev_Ca G dd w m_X9_swap [.ref M] H 0 0 (ev_ok (fun x h1 => x = none ∧ cs H M lm sz rest v (v 46) (v 45) h1)) := by
  obtain ⟨dd, rfl⟩ : ∃ e, dd = e + 1 := ⟨dd - 1, by omega⟩
  refine ⟨by decide +kernel, rfl, ?_⟩
  refine ev_aload_n (pc := 0) dX9_swap_0 rfl ?_
  refine ev_bipush (pc := 1) (v := nI 44) dX9_swap_1 (by decide) ?_
  refine ev_bipush (pc := 3) (v := nI 45) dX9_swap_3 (by decide) ?_
  refine ev_callV (pc := 5) (As := [.int (nI 44), .int (nI 45)]) dX9_swap_5 cv_X9_101 rfl rfl (rg_M h) rfl ⟨by show 19 + 4 ≤ w; omega, show ev_Ca _ _ (w - 23) _ _ _ _ _ _ from g_copy (r := 44) (o := 45) (by omega) h (by omega) (by omega) (by omega)⟩ rfl rfl (fun r h1 hp => ?_)
  obtain ⟨rfl, hR, hF⟩ := hp
  refine ev_aload_n (pc := 8) dX9_swap_8 rfl ?_
  refine ev_bipush (pc := 9) (v := nI 45) dX9_swap_9 (by decide) ?_
  refine ev_bipush (pc := 11) (v := nI 46) dX9_swap_11 (by decide) ?_
  refine ev_callV (pc := 13) (As := [.int (nI 45), .int (nI 46)]) dX9_swap_13 cv_X9_101 rfl rfl (rg_M hR) rfl ⟨by show 19 + 4 ≤ w; omega, show ev_Ca _ _ (w - 23) _ _ _ _ _ _ from g_copy (r := 45) (o := 46) (by omega) hR (by omega) (by omega) (by omega)⟩ rfl rfl (fun r h1 hp => ?_)
  obtain ⟨rfl, hR2, hF2⟩ := hp
  refine ev_aload_n (pc := 16) dX9_swap_16 rfl ?_
  refine ev_bipush (pc := 17) (v := nI 46) dX9_swap_17 (by decide) ?_
  refine ev_bipush (pc := 19) (v := nI 44) dX9_swap_19 (by decide) ?_
  refine ev_callV (pc := 21) (As := [.int (nI 46), .int (nI 44)]) dX9_swap_21 cv_X9_101 rfl rfl (rg_M hR2) rfl ⟨by show 19 + 4 ≤ w; omega, show ev_Ca _ _ (w - 23) _ _ _ _ _ _ from g_copy (r := 46) (o := 44) (by omega) hR2 (by omega) (by omega) (by omega)⟩ rfl rfl (fun r h1 hp => ?_)
  obtain ⟨rfl, hR3, hF3⟩ := hp
  refine ev_vret (pc := 24) dX9_swap_24 rfl ⟨rfl, _, hR3, (hF.tr hF2).tr hF3, rfl, rfl, fun i hi => ?_⟩
  rw [va_up_ne _ _ (by omega), va_up_ne _ _ (by omega), va_up_ne _ _ (by omega)]
theorem cs_up {h1 h2 : ev_H} {v1 : Nat → Nat} {X Y x : Nat} (hR : RG h2 M lm sz rest (va_up v1 45 x)) (hF : RF lm sz H h1) (hF2 : RF lm sz h1 h2) (e2 : v1 46 = Y) (e3 : ∀ i, i < 44 → v1 i = v i) : cs H M lm sz rest v x Y h2 := ⟨_, hR, hF.tr hF2, rfl, (va_up_ne _ _ (by decide)).trans e2, fun i hi => (va_up_ne _ _ (by omega)).trans (e3 i hi)⟩
theorem cs_up2 {h1 h2 : ev_H} {v1 : Nat → Nat} {X Y x : Nat} (hR : RG h2 M lm sz rest (va_up v1 46 x)) (hF : RF lm sz H h1) (hF2 : RF lm sz h1 h2) (e2 : v1 45 = X) (e3 : ∀ i, i < 44 → v1 i = v i) : cs H M lm sz rest v X x h2 := ⟨_, hR, hF.tr hF2, (va_up_ne _ _ (by decide)).trans e2, rfl, fun i hi => (va_up_ne _ _ (by omega)).trans (e3 i hi)⟩
theorem l_c1 {K : ev_K} {c z g : Nat} (hd : 2 ≤ dd) (hw : 60 ≤ w)
    (hK : ∀ t X Y h1, 0 < X → ¬ (X % 2 = 0 ∧ Y % 2 = 0) → g = 2 ^ t * Nat.gcd X Y → cs H M lm sz rest v X Y h1 → ev_J G (ev_cc G dd w) w m_X9_common K (52, ev_lf [(0, .ref M), (3, .int (nI t))], [], h1, c, z)) :
    ∀ f t X Y h1, X ≤ f → 0 < X → g = 2 ^ t * Nat.gcd X Y → cs H M lm sz rest v X Y h1 → ev_J G (ev_cc G dd w) w m_X9_common K (16, ev_lf [(0, .ref M), (3, .int (nI t))], [], h1, c, z)
  | 0, t, X, Y, h1, e, e1, e2, e3 => by omega
  | f + 1, t, X, Y, h1, e, e1, e2, e3 => by
    obtain ⟨v1, hR, hF, x1, x2, x3⟩ := id e3
    refine ev_aload_n (pc := 16) dX9_common_16 rfl ?_
    refine ev_bipush (pc := 17) (v := nI 45) dX9_common_17 (by decide) ?_
    refine ev_callV (pc := 19) (As := [.int (nI 45)]) dX9_common_19 cv_X9_104 rfl rfl (rg_M hR) rfl ⟨by show 19 + 2 ≤ w; omega, show ev_Ca _ _ (w - 21) _ _ _ _ _ _ from g_isEven (r := 45) (by omega) hR (by omega)⟩ rfl rfl (fun r h1 hp => ?_)
    obtain ⟨rfl, hH⟩ := hp
    rw [hH, x1]
    clear hH
    by_cases c1 : X % 2 = 0
    · rw [if_pos c1]
      refine ev_if_eqN (pc := 22) (tgt := 52) dX9_common_22 (by decide) (by decide) (fun q => absurd q (by decide)) (fun _ => ?_)
      refine ev_aload_n (pc := 25) dX9_common_25 rfl ?_
      refine ev_bipush (pc := 26) (v := nI 46) dX9_common_26 (by decide) ?_
      refine ev_callV (pc := 28) (As := [.int (nI 46)]) dX9_common_28 cv_X9_104 rfl rfl (rg_M hR) rfl ⟨by show 19 + 2 ≤ w; omega, show ev_Ca _ _ (w - 21) _ _ _ _ _ _ from g_isEven (r := 46) (by omega) hR (by omega)⟩ rfl rfl (fun r h1 hp => ?_)
      obtain ⟨rfl, hH⟩ := hp
      rw [hH, x2]
      clear hH
      by_cases c2 : Y % 2 = 0
      · rw [if_pos c2]
        refine ev_if_eqN (pc := 31) (tgt := 52) dX9_common_31 (by decide) (by decide) (fun q => absurd q (by decide)) (fun _ => ?_)
        refine ev_aload_n (pc := 34) dX9_common_34 rfl ?_
        refine ev_bipush (pc := 35) (v := nI 45) dX9_common_35 (by decide) ?_
        refine ev_callV (pc := 37) (As := [.int (nI 45)]) dX9_common_37 cv_X9_108 rfl rfl (rg_M hR) rfl ⟨by show 19 + 5 ≤ w; omega, show ev_Ca _ _ (w - 24) _ _ _ _ _ _ from g_half (r := 45) (by omega) (by omega) hR (by omega) (by omega)⟩ rfl rfl (fun r h1 hp => ?_)
        obtain ⟨rfl, hR2, hF2⟩ := hp
        refine ev_aload_n (pc := 40) dX9_common_40 rfl ?_
        refine ev_bipush (pc := 41) (v := nI 46) dX9_common_41 (by decide) ?_
        refine ev_callV (pc := 43) (As := [.int (nI 46)]) dX9_common_43 cv_X9_108 rfl rfl (rg_M hR2) rfl ⟨by show 19 + 5 ≤ w; omega, show ev_Ca _ _ (w - 24) _ _ _ _ _ _ from g_half (r := 46) (by omega) (by omega) hR2 (by omega) (by omega)⟩ rfl rfl (fun r h1 hp => ?_)
        obtain ⟨rfl, hR3, hF3⟩ := hp
        refine ev_iincN (pc := 46) dX9_common_46 rfl rfl ?_
        refine ev_goto (pc := 49) (tgt := 16) dX9_common_49 (by decide) ?_
        refine ev_vs [(0, .ref M), (3, .int (nI (t + 1)))] ⟨rfl, rfl, trivial⟩ ?_
        refine l_c1 hd hw hK f (t + 1) (X / 2) (Y / 2) _ (by omega) (by omega) ?_ ⟨_, hR3, (hF.tr hF2).tr hF3, ?_, ?_, fun i hi => ?_⟩
        · have := Nat.gcd_mul_left 2 (X / 2) (Y / 2)
          rw [show 2 * (X / 2) = X by omega, show 2 * (Y / 2) = Y by omega] at this
          rw [e2, this, Nat.pow_succ, Nat.mul_assoc]
        · show v1 45 / 2 = X / 2; rw [x1]
        · show v1 46 / 2 = Y / 2; rw [x2]
        · rw [va_up_ne _ _ (by omega), va_up_ne _ _ (by omega)]; exact x3 i hi
      · rw [if_neg c2]
        refine ev_if_eqN (pc := 31) (tgt := 52) dX9_common_31 (by decide) (by decide) (fun _ => ?_) (fun q => absurd q (by decide))
        exact hK t X Y _ e1 (fun q => c2 q.2) e2 e3
    · rw [if_neg c1]
      refine ev_if_eqN (pc := 22) (tgt := 52) dX9_common_22 (by decide) (by decide) (fun _ => ?_) (fun q => absurd q (by decide))
      exact hK t X Y _ e1 (fun q => c1 q.1) e2 e3
theorem l_c2a {K : ev_K} {c z X0 Y : Nat} (hd : 2 ≤ dd) (hw : 60 ≤ w)
    (hK : ∀ X h1, 0 < X → X % 2 = 1 → X ≤ X0 → Nat.gcd X Y = Nat.gcd X0 Y → cs H M lm sz rest v X Y h1 → ev_J G (ev_cc G dd w) w m_X9_common K (80, ev_lf [(0, .ref M), (3, .int (nI t))], [], h1, c, z)) :
    ∀ f X h1, X ≤ f → 0 < X → X ≤ X0 → (X % 2 = 0 → Y % 2 = 1) → Nat.gcd X Y = Nat.gcd X0 Y → cs H M lm sz rest v X Y h1 → ev_J G (ev_cc G dd w) w m_X9_common K (62, ev_lf [(0, .ref M), (3, .int (nI t))], [], h1, c, z)
  | 0, X, h1, e, e1, e2, e3, e4, e5 => by omega
  | f + 1, X, h1, e, e1, e2, e3, e4, e5 => by
    obtain ⟨v1, hR, hF, x1, x2, x3⟩ := id e5
    refine ev_aload_n (pc := 62) dX9_common_62 rfl ?_
    refine ev_bipush (pc := 63) (v := nI 45) dX9_common_63 (by decide) ?_
    refine ev_callV (pc := 65) (As := [.int (nI 45)]) dX9_common_65 cv_X9_104 rfl rfl (rg_M hR) rfl ⟨by show 19 + 2 ≤ w; omega, show ev_Ca _ _ (w - 21) _ _ _ _ _ _ from g_isEven (r := 45) (by omega) hR (by omega)⟩ rfl rfl (fun r h1 hp => ?_)
    obtain ⟨rfl, hH⟩ := hp
    rw [hH, x1]
    clear hH
    by_cases c1 : X % 2 = 0
    · rw [if_pos c1]
      refine ev_if_eqN (pc := 68) (tgt := 80) dX9_common_68 (by decide) (by decide) (fun q => absurd q (by decide)) (fun _ => ?_)
      refine ev_aload_n (pc := 71) dX9_common_71 rfl ?_
      refine ev_bipush (pc := 72) (v := nI 45) dX9_common_72 (by decide) ?_
      refine ev_callV (pc := 74) (As := [.int (nI 45)]) dX9_common_74 cv_X9_108 rfl rfl (rg_M hR) rfl ⟨by show 19 + 5 ≤ w; omega, show ev_Ca _ _ (w - 24) _ _ _ _ _ _ from g_half (r := 45) (by omega) (by omega) hR (by omega) (by omega)⟩ rfl rfl (fun r h1 hp => ?_)
      obtain ⟨rfl, hR2, hF2⟩ := hp
      refine ev_goto (pc := 77) (tgt := 62) dX9_common_77 (by decide) ?_
      refine ev_vs [(0, .ref M), (3, .int (nI t))] ⟨rfl, rfl, trivial⟩ ?_
      rw [x1] at hR2
      exact l_c2a hd hw hK f (X / 2) _ (by omega) (by omega) (by omega) (fun _ => e3 c1) ((gc_half c1 (e3 c1)).trans e4) (cs_up (X := X) hR2 hF hF2 x2 x3)
    · rw [if_neg c1]
      refine ev_if_eqN (pc := 68) (tgt := 80) dX9_common_68 (by decide) (by decide) (fun _ => ?_) (fun q => absurd q (by decide))
      exact hK X _ e1 (by omega) e2 e4 e5
theorem l_c2b {K : ev_K} {c z X Y0 : Nat} (hd : 2 ≤ dd) (hw : 60 ≤ w) (hX : X % 2 = 1)
    (hK : ∀ Y h1, 0 < Y → Y % 2 = 1 → Y ≤ Y0 → Nat.gcd X Y = Nat.gcd X Y0 → cs H M lm sz rest v X Y h1 → ev_J G (ev_cc G dd w) w m_X9_common K (98, ev_lf [(0, .ref M), (3, .int (nI t))], [], h1, c, z)) :
    ∀ f Y h1, Y ≤ f → 0 < Y → Y ≤ Y0 → Nat.gcd X Y = Nat.gcd X Y0 → cs H M lm sz rest v X Y h1 → ev_J G (ev_cc G dd w) w m_X9_common K (80, ev_lf [(0, .ref M), (3, .int (nI t))], [], h1, c, z)
  | 0, Y, h1, e, e1, e2, e4, e5 => by omega
  | f + 1, Y, h1, e, e1, e2, e4, e5 => by
    obtain ⟨v1, hR, hF, x1, x2, x3⟩ := id e5
    refine ev_aload_n (pc := 80) dX9_common_80 rfl ?_
    refine ev_bipush (pc := 81) (v := nI 46) dX9_common_81 (by decide) ?_
    refine ev_callV (pc := 83) (As := [.int (nI 46)]) dX9_common_83 cv_X9_104 rfl rfl (rg_M hR) rfl ⟨by show 19 + 2 ≤ w; omega, show ev_Ca _ _ (w - 21) _ _ _ _ _ _ from g_isEven (r := 46) (by omega) hR (by omega)⟩ rfl rfl (fun r h1 hp => ?_)
    obtain ⟨rfl, hH⟩ := hp
    rw [hH, x2]
    clear hH
    by_cases c1 : Y % 2 = 0
    · rw [if_pos c1]
      refine ev_if_eqN (pc := 86) (tgt := 98) dX9_common_86 (by decide) (by decide) (fun q => absurd q (by decide)) (fun _ => ?_)
      refine ev_aload_n (pc := 89) dX9_common_89 rfl ?_
      refine ev_bipush (pc := 90) (v := nI 46) dX9_common_90 (by decide) ?_
      refine ev_callV (pc := 92) (As := [.int (nI 46)]) dX9_common_92 cv_X9_108 rfl rfl (rg_M hR) rfl ⟨by show 19 + 5 ≤ w; omega, show ev_Ca _ _ (w - 24) _ _ _ _ _ _ from g_half (r := 46) (by omega) (by omega) hR (by omega) (by omega)⟩ rfl rfl (fun r h1 hp => ?_)
      obtain ⟨rfl, hR2, hF2⟩ := hp
      refine ev_goto (pc := 95) (tgt := 80) dX9_common_95 (by decide) ?_
      refine ev_vs [(0, .ref M), (3, .int (nI t))] ⟨rfl, rfl, trivial⟩ ?_
      rw [x2] at hR2
      refine l_c2b hd hw hX hK f (Y / 2) _ (by omega) (by omega) (by omega) ?_ (cs_up2 (Y := Y) hR2 hF hF2 x1 x3)
      rw [Nat.gcd_comm, gc_half c1 hX, Nat.gcd_comm]
      exact e4
    · rw [if_neg c1]
      refine ev_if_eqN (pc := 86) (tgt := 98) dX9_common_86 (by decide) (by decide) (fun _ => ?_) (fun q => absurd q (by decide))
      exact hK Y _ e1 (by omega) e2 e4 e5
theorem mi_cmple {a b : Nat} : mi_cmp a b ≤ 0 ↔ a ≤ b := by
  unfold mi_cmp
  by_cases h1 : a < b
  · rw [if_pos h1]; exact ⟨fun _ => by omega, fun _ => by decide⟩
  · rw [if_neg h1]
    by_cases h2 : a = b
    · rw [if_pos h2]; exact ⟨fun _ => by omega, fun _ => by decide⟩
    · rw [if_neg h2]; exact ⟨fun q => absurd q (by decide), fun q => by omega⟩
theorem l_c2 {K : ev_K} {c z g : Nat} (hd : 2 ≤ dd) (hw : 80 ≤ w)
    (hK : ∀ X h1, 0 < X → g = 2 ^ t * X → cs H M lm sz rest v X 0 h1 → ev_J G (ev_cc G dd w) w m_X9_common K (135, ev_lf [(0, .ref M), (3, .int (nI t))], [], h1, c, z)) :
    ∀ f X Y h1, X + Y ≤ f → 0 < X → ¬ (X % 2 = 0 ∧ Y % 2 = 0) → g = 2 ^ t * Nat.gcd X Y → cs H M lm sz rest v X Y h1 → ev_J G (ev_cc G dd w) w m_X9_common K (52, ev_lf [(0, .ref M), (3, .int (nI t))], [], h1, c, z)
  | 0, X, Y, h1, e, e1, e2, e3, e4 => by omega
  | f + 1, X, Y, h1, e, e1, e2, e3, e4 => by
    obtain ⟨v1, hR, hF, x1, x2, x3⟩ := id e4
    obtain ⟨hM, L, s, d1, d2, hV⟩ := id hR
    have h46 := hV 46 (by omega)
    have zz := rv_z h46
    have b46 := h46.1
    refine ev_aload_n (pc := 52) dX9_common_52 rfl ?_
    refine ev_getf (pc := 53) dX9_common_53 f_X9_13 (rg_M hR) rfl ?_
    refine ev_bipush (pc := 56) (v := nI 46) dX9_common_56 (by decide) ?_
    refine ev_iaN (pc := 58) dX9_common_58 d2 (by omega) (by decide) ?_
    refine ev_if_leN (pc := 59) (tgt := 135) dX9_common_59 (by decide) (by omega) (fun q => ?_) (fun q => ?_)
    · have y0 : Y = 0 := by rw [← x2]; exact zz.mp q
      subst y0
      rw [Nat.gcd_zero_right] at e3
      exact hK X h1 e1 e3 e4
    · have y0 : 0 < Y := Nat.pos_of_ne_zero (fun z => by have := zz.mpr (x2.trans z); omega)
      refine l_c2a hd (by omega) (X0 := X) (fun X1 h2 f1 f2 f3 f4 f5 => ?_) X X h1 (Nat.le_refl _) e1 (Nat.le_refl _) (fun q => by omega) rfl e4
      refine l_c2b hd (by omega) f2 (Y0 := Y) (fun Y1 h3 g1 g2 g3 g4 g5 => ?_) Y Y h2 (Nat.le_refl _) y0 (Nat.le_refl _) rfl f5
      have gg : g = 2 ^ t * Nat.gcd X1 Y1 := by rw [g4, f4]; exact e3
      obtain ⟨v4, hR4, hF4, y1, y2, y3⟩ := id g5
      refine ev_aload_n (pc := 98) dX9_common_98 rfl ?_
      refine ev_bipush (pc := 99) (v := nI 45) dX9_common_99 (by decide) ?_
      refine ev_bipush (pc := 101) (v := nI 46) dX9_common_101 (by decide) ?_
      refine ev_callV (pc := 103) (As := [.int (nI 45), .int (nI 46)]) dX9_common_103 cv_X9_95 rfl rfl (rg_M hR4) rfl ⟨by show 19 + 4 ≤ w; omega, show ev_Ca _ _ (w - 23) _ _ _ _ _ _ from g_cmp (r := 45) (o := 46) (by omega) hR4 (by omega) (by omega)⟩ rfl rfl (fun r h1 hp => ?_)
      obtain ⟨rfl, hH⟩ := hp
      rw [hH, y1, y2]
      clear hH
      refine ev_if_le (pc := 106) (tgt := 124) dX9_common_106 (by decide) (fun cc => ?_) (fun cc => ?_)
      · have le := mi_cmple.mp cc
        refine ev_aload_n (pc := 124) dX9_common_124 rfl ?_
        refine ev_bipush (pc := 125) (v := nI 46) dX9_common_125 (by decide) ?_
        refine ev_bipush (pc := 127) (v := nI 45) dX9_common_127 (by decide) ?_
        refine ev_callV (pc := 129) (As := [.int (nI 46), .int (nI 45)]) dX9_common_129 cv_X9_98 rfl rfl (rg_M hR4) rfl ⟨by show 19 + 6 ≤ w; omega, show ev_Ca _ _ (w - 25) _ _ _ _ _ _ from g_sub (r := 46) (o := 45) (by omega) (by omega) hR4 (by omega) (by omega) (by omega) (by omega)⟩ rfl rfl (fun r h1 hp => ?_)
        obtain ⟨rfl, hR5, hF5⟩ := hp
        refine ev_goto (pc := 132) (tgt := 52) dX9_common_132 (by decide) ?_
        refine ev_vs [(0, .ref M), (3, .int (nI t))] ⟨rfl, rfl, trivial⟩ ?_
        rw [y1, y2] at hR5
        refine l_c2 hd hw hK f X1 (Y1 - X1) _ (by omega) f1 (fun q => by omega) ?_ (cs_up2 (Y := Y1) hR5 hF4 hF5 y1 y3)
        rw [gc_sub le]; exact gg
      · have gt : Y1 < X1 := Nat.not_le.mp (fun q => cc (mi_cmple.mpr q))
        refine ev_aload_n (pc := 109) dX9_common_109 rfl ?_
        refine ev_bipush (pc := 110) (v := nI 45) dX9_common_110 (by decide) ?_
        refine ev_bipush (pc := 112) (v := nI 46) dX9_common_112 (by decide) ?_
        refine ev_callV (pc := 114) (As := [.int (nI 45), .int (nI 46)]) dX9_common_114 cv_X9_98 rfl rfl (rg_M hR4) rfl ⟨by show 19 + 6 ≤ w; omega, show ev_Ca _ _ (w - 25) _ _ _ _ _ _ from g_sub (r := 45) (o := 46) (by omega) (by omega) hR4 (by omega) (by omega) (by omega) (by omega)⟩ rfl rfl (fun r h1 hp => ?_)
        obtain ⟨rfl, hR5, hF5⟩ := hp
        rw [y1, y2] at hR5
        refine ev_aload_n (pc := 117) dX9_common_117 rfl ?_
        refine ev_callV (pc := 118) (As := []) dX9_common_118 cv_X9_111 rfl rfl (rg_M hR5) rfl ⟨by show 19 + 1 ≤ w; omega, show ev_Ca _ _ (w - 20) _ _ _ _ _ _ from g_swap (by omega) (by omega) hR5⟩ rfl rfl (fun r h1 hp => ?_)
        obtain ⟨rfl, v6, hR6, hF6, u1, u2, u3⟩ := hp
        refine ev_goto (pc := 121) (tgt := 52) dX9_common_121 (by decide) ?_
        refine ev_vs [(0, .ref M), (3, .int (nI t))] ⟨rfl, rfl, trivial⟩ ?_
        refine l_c2 hd hw hK f Y1 (X1 - Y1) _ (by omega) g1 (fun q => by omega) ?_ ⟨v6, hR6, (hF4.tr hF5).tr hF6, ?_, u2, fun i hi => ?_⟩
        · rw [gc_sub (Nat.le_of_lt gt), Nat.gcd_comm]; exact gg
        · rw [u1]; exact (va_up_ne _ _ (by decide)).trans y2
        · rw [u3 i hi, va_up_ne _ _ (by omega)]; exact y3 i hi
theorem l_c3 {K : ev_K} {c z X g : Nat} (hd : 2 ≤ dd) (hw : 60 ≤ w) (hg : g = 2 ^ t * X) (ht : t < 2 ^ 31) (hb : g < 1073741824 ^ 139) (hK : ∀ h1, cs H M lm sz rest v g 0 h1 → K (.inl none) h1) :
    ∀ k j h1, j + k = t → cs H M lm sz rest v (2 ^ j * X) 0 h1 → ev_J G (ev_cc G dd w) w m_X9_common K (138, ev_lf [(0, .ref M), (3, .int (nI t)), (4, .int (nI j))], [], h1, c, z)
  | 0, j, h1, e, e1 => by
    refine ev_iload (pc := 138) dX9_common_138 rfl ?_
    refine ev_iload_n (pc := 140) dX9_common_140 rfl ?_
    refine ev_icmp_geN (pc := 141) (tgt := 157) dX9_common_141 (by decide) (by omega) (by omega) (fun c1 => ?_) (fun c1 => ?_)
    · have : j = t := by omega
      subst this
      rw [← hg] at e1
      exact ev_vret (pc := 157) dX9_common_157 rfl (hK h1 e1)
    · omega
  | k + 1, j, h1, e, e1 => by
    obtain ⟨v1, hR, hF, x1, x2, x3⟩ := e1
    have le : 2 ^ j * X ≤ g := by
      rw [hg]
      exact Nat.mul_le_mul_right _ (Nat.pow_le_pow_right (by decide) (by omega))
    refine ev_iload (pc := 138) dX9_common_138 rfl ?_
    refine ev_iload_n (pc := 140) dX9_common_140 rfl ?_
    refine ev_icmp_geN (pc := 141) (tgt := 157) dX9_common_141 (by decide) (by omega) (by omega) (fun c1 => ?_) (fun c1 => ?_)
    · omega
    · refine ev_aload_n (pc := 144) dX9_common_144 rfl ?_
      refine ev_bipush (pc := 145) (v := nI 45) dX9_common_145 (by decide) ?_
      refine ev_iconst (pc := 147) (v := nI 0) dX9_common_147 (by decide) ?_
      refine ev_callV (pc := 148) (As := [.int (nI 45), .int (nI 0)]) dX9_common_148 cv_X9_91 rfl rfl (rg_M hR) rfl ⟨by show 19 + 6 ≤ w; omega, show ev_Ca _ _ (w - 25) _ _ _ _ _ _ from g_twice (r := 45) (by omega) hR (by omega) (by decide) (by rw [x1]; exact Nat.lt_of_le_of_lt le hb)⟩ rfl rfl (fun r h1 hp => ?_)
      obtain ⟨rfl, hR2, hF2⟩ := hp
      refine ev_iincN (pc := 151) dX9_common_151 rfl rfl ?_
      refine ev_goto (pc := 154) (tgt := 138) dX9_common_154 (by decide) ?_
      refine ev_vs [(0, .ref M), (3, .int (nI t)), (4, .int (nI (j + 1)))] ⟨rfl, rfl, rfl, trivial⟩ ?_
      refine l_c3 hd hw hg ht hb hK k (j + 1) _ (by omega) ?_
      rw [x1, Nat.add_zero, ← Nat.mul_assoc, ← Nat.pow_succ'] at hR2
      exact cs_up (X := 2 ^ j * X) hR2 hF hF2 x2 x3
theorem g_common (hd : 3 ≤ dd) (hw : 80 ≤ w) (h : RG H M lm sz rest v) (hm : m < 44) (hn : n < 44) (h0 : 0 < v m) (hb : v m < 1073741824 ^ 139) : ev_Ca G dd w m_X9_common [.ref M, .int (nI m), .int (nI n)] H 0 0 (ev_ok (fun x h1 => x = none ∧ cs H M lm sz rest v (Nat.gcd (v m) (v n)) 0 h1)) := by
  obtain ⟨dd, rfl⟩ : ∃ e, dd = e + 1 := ⟨dd - 1, by omega⟩
  refine ⟨by decide +kernel, rfl, ?_⟩
  refine ev_aload_n (pc := 0) dX9_common_0 rfl ?_
  refine ev_bipush (pc := 1) (v := nI 45) dX9_common_1 (by decide) ?_
  refine ev_iload_n (pc := 3) dX9_common_3 rfl ?_
  refine ev_callV (pc := 4) (As := [.int (nI 45), .int (nI m)]) dX9_common_4 cv_X9_101 rfl rfl (rg_M h) rfl ⟨by show 19 + 4 ≤ w; omega, show ev_Ca _ _ (w - 23) _ _ _ _ _ _ from g_copy (r := 45) (by omega) h (by omega) (by omega) (by omega)⟩ rfl rfl (fun r h1 hp => ?_)
  obtain ⟨rfl, hR, hF⟩ := hp
  refine ev_aload_n (pc := 7) dX9_common_7 rfl ?_
  refine ev_bipush (pc := 8) (v := nI 46) dX9_common_8 (by decide) ?_
  refine ev_iload_n (pc := 10) dX9_common_10 rfl ?_
  refine ev_callV (pc := 11) (As := [.int (nI 46), .int (nI n)]) dX9_common_11 cv_X9_101 rfl rfl (rg_M hR) rfl ⟨by show 19 + 4 ≤ w; omega, show ev_Ca _ _ (w - 23) _ _ _ _ _ _ from g_copy (r := 46) (by omega) hR (by omega) (by omega) (by omega)⟩ rfl rfl (fun r h1 hp => ?_)
  obtain ⟨rfl, hR2, hF2⟩ := hp
  refine ev_iconst (pc := 14) (v := nI 0) dX9_common_14 (by decide) ?_
  refine ev_istore_n (pc := 15) dX9_common_15 rfl ?_
  refine ev_vs [(0, .ref M), (3, .int (nI 0))] ⟨rfl, rfl, trivial⟩ ?_
  have gl : Nat.gcd (v m) (v n) ≤ v m := Nat.le_of_dvd h0 (Nat.gcd_dvd_left _ _)
  have gb : Nat.gcd (v m) (v n) < 1073741824 ^ 139 := Nat.lt_of_le_of_lt gl hb
  refine l_c1 (v := v) (g := Nat.gcd (v m) (v n)) (by omega) (by omega) (fun t X Y h1 f1 f2 f3 f4 => ?_) (v m) 0 (v m) (v n) _ (Nat.le_refl _) h0 (by rw [Nat.pow_zero, Nat.one_mul]) ⟨_, hR2, hF.tr hF2, rfl, ?_, fun i hi => ?_⟩
  · refine l_c2 (by omega) hw (fun X1 h2 g1 g2 g3 => ?_) (X + Y) X Y h1 (Nat.le_refl _) f1 f2 f3 f4
    have tl : t < 2 ^ 31 := by
      have a1 : 2 ^ t * 1 ≤ 2 ^ t * X1 := Nat.mul_le_mul_left _ g1
      have a2 : 2 ^ t < 2 ^ (30 * 139) := by
        rw [Nat.pow_mul]
        exact Nat.lt_of_le_of_lt (by omega) gb
      have := (Nat.pow_lt_pow_iff_right (show 1 < 2 by decide)).mp a2
      exact Nat.lt_of_lt_of_le this (by decide)
    refine ev_iconst (pc := 135) (v := nI 0) dX9_common_135 (by decide) ?_
    refine ev_istore (pc := 136) dX9_common_136 rfl ?_
    refine ev_vs [(0, .ref M), (3, .int (nI t)), (4, .int (nI 0))] ⟨rfl, rfl, rfl, trivial⟩ ?_
    exact l_c3 (by omega) (by omega) g2 tl gb (fun h3 e => ⟨rfl, e⟩) t 0 h2 (by omega) (by rw [Nat.pow_zero, Nat.one_mul]; exact g3)
  · rw [va_up_self, va_up_ne _ _ (by omega)]
  · rw [va_up_ne _ _ (by omega), va_up_ne _ _ (by omega)]
def rdp (H : ev_H) (M lm sz : Nat) (rest : List Value) (v : Nat → Nat) (t b T B : Nat) (h1 : ev_H) : Prop := ∃ v2, RG h1 M lm sz rest v2 ∧ RF lm sz H h1 ∧ v2 t = T ∧ v2 b = B ∧ ∀ i, i < 42 → i ≠ t → i ≠ b → v2 i = v i
theorem g_reduce (hd : 4 ≤ dd) (hw : 120 ≤ w) (h : RG H M lm sz rest v) (ht : t < 42) (hb : b < 42) (htb : t ≠ b) (h0 : 0 < v t) (bt : v t < 1073741824 ^ 139) (bb : v b < 1073741824 ^ 139) : ev_Ca G dd w m_X9_reduce [.ref M, .int (nI t), .int (nI b)] H 0 0 (ev_ok (fun x h1 => x = none ∧ rdp H M lm sz rest v t b (v t / Nat.gcd (v t) (v b)) (v b / Nat.gcd (v t) (v b)) h1)) := by
  obtain ⟨dd, rfl⟩ : ∃ e, dd = e + 1 := ⟨dd - 1, by omega⟩
  refine ⟨by decide +kernel, rfl, ?_⟩
  obtain ⟨hM, L, s, d1, d2, hV⟩ := id h
  have hvt := hV t (by omega)
  have zz := rv_z hvt
  have b1 := hvt.1
  have g0 : 0 < Nat.gcd (v t) (v b) := Nat.gcd_pos_of_pos_left _ h0
  refine ev_aload_n (pc := 0) dX9_reduce_0 rfl ?_
  refine ev_getf (pc := 1) dX9_reduce_1 f_X9_13 (rg_M h) rfl ?_
  refine ev_iload_n (pc := 4) dX9_reduce_4 rfl ?_
  refine ev_iaN (pc := 5) dX9_reduce_5 d2 (by omega) (by decide) ?_
  refine ev_if_neN (pc := 6) (tgt := 16) dX9_reduce_6 (by decide) (by omega) (fun c1 => ?_) (fun c1 => ?_)
  · refine ev_aload_n (pc := 16) dX9_reduce_16 rfl ?_
    refine ev_iload_n (pc := 17) dX9_reduce_17 rfl ?_
    refine ev_iload_n (pc := 18) dX9_reduce_18 rfl ?_
    refine ev_callV (pc := 19) (As := [.int (nI t), .int (nI b)]) dX9_reduce_19 cv_X9_114 rfl rfl (rg_M h) rfl ⟨by show 19 + 5 ≤ w; omega, show ev_Ca _ _ (w - 24) _ _ _ _ _ _ from g_common (by omega) (by omega) h (by omega) (by omega) h0 bt⟩ rfl rfl (fun r h1 hp => ?_)
    obtain ⟨rfl, v1, hR, hF, x1, x2, x3⟩ := hp
    refine ev_aload_n (pc := 22) dX9_reduce_22 rfl ?_
    refine ev_bipush (pc := 23) (v := nI 45) dX9_reduce_23 (by decide) ?_
    refine ev_callV (pc := 25) (As := [.int (nI 45)]) dX9_reduce_25 cv_X9_117 rfl rfl (rg_M hR) rfl ⟨by show 19 + 2 ≤ w; omega, show ev_Ca _ _ (w - 21) _ _ _ _ _ _ from g_isOne (r := 45) (by omega) hR (by omega)⟩ rfl rfl (fun r h1 hp => ?_)
    obtain ⟨rfl, hH⟩ := hp
    rw [hH, x1]
    clear hH
    by_cases c2 : Nat.gcd (v t) (v b) = 1
    · rw [if_pos c2]
      refine ev_if_neN (pc := 28) (tgt := 75) dX9_reduce_28 (by decide) (by decide) (fun _ => ?_) (fun q => absurd q (by decide))
      refine ev_vret (pc := 75) dX9_reduce_75 rfl ⟨rfl, v1, hR, hF, ?_, ?_, fun i hi _ _ => x3 i (by omega)⟩
      · rw [c2, Nat.div_one]; exact x3 t (by omega)
      · rw [c2, Nat.div_one]; exact x3 b (by omega)
    · rw [if_neg c2]
      refine ev_if_neN (pc := 28) (tgt := 75) dX9_reduce_28 (by decide) (by decide) (fun q => absurd q (by decide)) (fun _ => ?_)
      refine ev_aload_n (pc := 31) dX9_reduce_31 rfl ?_
      refine ev_bipush (pc := 32) (v := nI 42) dX9_reduce_32 (by decide) ?_
      refine ev_bipush (pc := 34) (v := nI 45) dX9_reduce_34 (by decide) ?_
      refine ev_callV (pc := 36) (As := [.int (nI 42), .int (nI 45)]) dX9_reduce_36 cv_X9_101 rfl rfl (rg_M hR) rfl ⟨by show 19 + 4 ≤ w; omega, show ev_Ca _ _ (w - 23) _ _ _ _ _ _ from g_copy (r := 42) (o := 45) (by omega) hR (by omega) (by omega) (by omega)⟩ rfl rfl (fun r h1 hp => ?_)
      obtain ⟨rfl, hR2, hF2⟩ := hp
      rw [x1] at hR2
      have y1 : va_up v1 42 (Nat.gcd (v t) (v b)) 42 = Nat.gcd (v t) (v b) := va_up_self _ _ _
      have y2 : ∀ i, i < 42 → va_up v1 42 (Nat.gcd (v t) (v b)) i = v i := fun i hi => (va_up_ne _ _ (by omega)).trans (x3 i (by omega))
      generalize va_up v1 42 (Nat.gcd (v t) (v b)) = v2 at *
      refine ev_aload_n (pc := 39) dX9_reduce_39 rfl ?_
      refine ev_iload_n (pc := 40) dX9_reduce_40 rfl ?_
      refine ev_bipush (pc := 41) (v := nI 42) dX9_reduce_41 (by decide) ?_
      refine ev_bipush (pc := 43) (v := nI 43) dX9_reduce_43 (by decide) ?_
      refine ev_bipush (pc := 45) (v := nI 46) dX9_reduce_45 (by decide) ?_
      refine ev_callV (pc := 47) (As := [.int (nI t), .int (nI 42), .int (nI 43), .int (nI 46)]) dX9_reduce_47 cv_X9_120 rfl rfl (rg_M hR2) rfl ⟨by show 19 + 7 ≤ w; omega, show ev_Ca _ _ (w - 26) _ _ _ _ _ _ from g_quo (n := t) (b := 42) (q := 43) (r := 46) (by omega) (by omega) hR2 (by omega) (by omega) (by omega) (by omega) (by omega) (by omega) (by omega) (by omega) (by omega) (by rw [y1]; exact g0) (by rw [y2 t ht]; exact bt)⟩ rfl rfl (fun r h1 hp => ?_)
      obtain ⟨rfl, v3, hR3, hF3, u1, u2, u3⟩ := hp
      rw [y1, y2 t ht] at u1
      refine ev_aload_n (pc := 50) dX9_reduce_50 rfl ?_
      refine ev_iload_n (pc := 51) dX9_reduce_51 rfl ?_
      refine ev_bipush (pc := 52) (v := nI 43) dX9_reduce_52 (by decide) ?_
      refine ev_callV (pc := 54) (As := [.int (nI t), .int (nI 43)]) dX9_reduce_54 cv_X9_101 rfl rfl (rg_M hR3) rfl ⟨by show 19 + 4 ≤ w; omega, show ev_Ca _ _ (w - 23) _ _ _ _ _ _ from g_copy (r := t) (o := 43) (by omega) hR3 (by omega) (by omega) (by omega)⟩ rfl rfl (fun r h1 hp => ?_)
      obtain ⟨rfl, hR4, hF4⟩ := hp
      rw [u1] at hR4
      have z1 : va_up v3 t (v t / Nat.gcd (v t) (v b)) t = v t / Nat.gcd (v t) (v b) := va_up_self _ _ _
      have z2 : va_up v3 t (v t / Nat.gcd (v t) (v b)) 42 = Nat.gcd (v t) (v b) := by rw [va_up_ne _ _ (by omega), u3 42 (by omega) (by omega), y1]
      have z3 : ∀ i, i < 42 → i ≠ t → va_up v3 t (v t / Nat.gcd (v t) (v b)) i = v i := fun i hi q => by rw [va_up_ne _ _ q, u3 i (by omega) (by omega), y2 i hi]
      generalize va_up v3 t (v t / Nat.gcd (v t) (v b)) = v4 at *
      refine ev_aload_n (pc := 57) dX9_reduce_57 rfl ?_
      refine ev_iload_n (pc := 58) dX9_reduce_58 rfl ?_
      refine ev_bipush (pc := 59) (v := nI 42) dX9_reduce_59 (by decide) ?_
      refine ev_bipush (pc := 61) (v := nI 43) dX9_reduce_61 (by decide) ?_
      refine ev_bipush (pc := 63) (v := nI 46) dX9_reduce_63 (by decide) ?_
      refine ev_callV (pc := 65) (As := [.int (nI b), .int (nI 42), .int (nI 43), .int (nI 46)]) dX9_reduce_65 cv_X9_120 rfl rfl (rg_M hR4) rfl ⟨by show 19 + 7 ≤ w; omega, show ev_Ca _ _ (w - 26) _ _ _ _ _ _ from g_quo (n := b) (b := 42) (q := 43) (r := 46) (by omega) (by omega) hR4 (by omega) (by omega) (by omega) (by omega) (by omega) (by omega) (by omega) (by omega) (by omega) (by rw [z2]; exact g0) (by rw [z3 b hb (Ne.symm htb)]; exact bb)⟩ rfl rfl (fun r h1 hp => ?_)
      obtain ⟨rfl, v5, hR5, hF5, p1, p2, p3⟩ := hp
      rw [z2, z3 b hb (Ne.symm htb)] at p1
      refine ev_aload_n (pc := 68) dX9_reduce_68 rfl ?_
      refine ev_iload_n (pc := 69) dX9_reduce_69 rfl ?_
      refine ev_bipush (pc := 70) (v := nI 43) dX9_reduce_70 (by decide) ?_
      refine ev_callV (pc := 72) (As := [.int (nI b), .int (nI 43)]) dX9_reduce_72 cv_X9_101 rfl rfl (rg_M hR5) rfl ⟨by show 19 + 4 ≤ w; omega, show ev_Ca _ _ (w - 23) _ _ _ _ _ _ from g_copy (r := b) (o := 43) (by omega) hR5 (by omega) (by omega) (by omega)⟩ rfl rfl (fun r h1 hp => ?_)
      obtain ⟨rfl, hR6, hF6⟩ := hp
      rw [p1] at hR6
      refine ev_vret (pc := 75) dX9_reduce_75 rfl ⟨rfl, _, hR6, ((((hF.tr hF2).tr hF3).tr hF4).tr hF5).tr hF6, ?_, va_up_self _ _ _, fun i hi q1 q2 => ?_⟩
      · rw [va_up_ne _ _ htb, p3 t (by omega) (by omega), z1]
      · rw [va_up_ne _ _ q2, p3 i (by omega) (by omega), z3 i hi q1]
  · have := zz.mp c1
    omega
end REFD
