/-! THE REFERENCE: printWhole, print -/
theorem va_uu {f : Nat → Nat} {k x y : Nat} : va_up (va_up f k x) k y = va_up f k y := by
  funext j
  unfold va_up
  by_cases e : j = k
  · rw [if_pos e, if_pos e]
  · rw [if_neg e, if_neg e, if_neg e]
theorem va_id {f : Nat → Nat} {k : Nat} : va_up f k (f k) = f := by
  funext j
  unfold va_up
  by_cases e : j = k
  · rw [if_pos e, e]
  · rw [if_neg e]
theorem p10_400 {a : Nat} (h : a < 2 ^ 1083) : a < 10 ^ 400 := by
  have h1 : (2 ^ 13) ^ 100 ≤ (10 ^ 4) ^ 100 := Nat.pow_le_pow_left (by decide) 100
  rw [← Nat.pow_mul, ← Nat.pow_mul] at h1
  exact Nat.lt_of_lt_of_le (p2_le (show 1083 ≤ 13 * 100 by decide) h) h1
section REFN
variable {G : ev_G} {w : Nat} {H h1 : ev_H} {A I v : Nat → Nat} {Q : Nat → Nat → Nat} {R : Nat → Nat → Int32} {lv f : Nat → Nat} {k s dd : Nat}
theorem l_rpw {K : ev_K} {c z a : Nat} (hd : 2 ≤ dd) (hw : 60 ≤ w) (ha : 0 < a) (hb : a < 10 ^ 400) (hI : I 6 ≤ 900)
    (hK : ∀ m v1 f1 h1, DN a m → m ≤ 400 → 0 < m → mpost H A (va_up I 6 (I 6 + m)) v1 Q R lv f1 h1 → (∀ i, i < 40 → v1 i = v i) → (∀ i, i < m → f1 (I 6 + i) = 48 + a / 10 ^ i % 10) → (∀ x, x < I 6 → f1 x = f x) → ev_J G (ev_cc G dd w) w m_X9_printWhole K (63, ev_lf [(0, .ref (A 17)), (2, .int (nI (I 6)))], [], h1, c, z)) :
    ∀ fl j v1 f1 h1, a / 10 ^ j ≤ fl → mpost H A (va_up I 6 (I 6 + j)) v1 Q R lv f1 h1 → v1 40 = a / 10 ^ j → (∀ i, i < 40 → v1 i = v i) → (∀ i, i < j → f1 (I 6 + i) = 48 + a / 10 ^ i % 10) → (∀ x, x < I 6 → f1 x = f x) → (∀ i, i < j → 10 ^ i ≤ a) → ev_J G (ev_cc G dd w) w m_X9_printWhole K (12, ev_lf [(0, .ref (A 17)), (2, .int (nI (I 6)))], [], h1, c, z) := by
  have stop : ∀ j v1 f1 h1, a / 10 ^ j = 0 → mpost H A (va_up I 6 (I 6 + j)) v1 Q R lv f1 h1 → v1 40 = a / 10 ^ j → (∀ i, i < 40 → v1 i = v i) → (∀ i, i < j → f1 (I 6 + i) = 48 + a / 10 ^ i % 10) → (∀ x, x < I 6 → f1 x = f x) → (∀ i, i < j → 10 ^ i ≤ a) → ev_J G (ev_cc G dd w) w m_X9_printWhole K (12, ev_lf [(0, .ref (A 17)), (2, .int (nI (I 6)))], [], h1, c, z) := by
    intro j v1 f1 h1 e0 e1 e2 e3 e4 e5 e6
    obtain ⟨h, hF⟩ := e1
    have j0 : 0 < j := by
      rcases Nat.eq_zero_or_pos j with q | q
      · rw [q, Nat.pow_zero, Nat.div_one] at e0; omega
      · exact q
    have dn : DN a j := ⟨Nat.lt_of_div_eq_zero (Nat.pow_pos (by decide)) e0, e6⟩
    have jm := dn_le dn hb
    obtain ⟨-, L, s, d1, d2, hV⟩ := ms_g h
    have z40 : s 40 = 0 := (rv_z (hV 40 (by decide))).mpr (by rw [e2, e0])
    refine ev_aload_n (pc := 12) dX9_printWhole_12 rfl ?_
    refine ev_getf (pc := 13) dX9_printWhole_13 f_X9_13 (ms_M h) rfl ?_
    refine ev_bipush (pc := 16) (v := nI 40) dX9_printWhole_16 (by decide) ?_
    refine ev_iaN (pc := 18) dX9_printWhole_18 d2 (by omega) (by decide) ?_
    rw [z40]
    refine ev_if_gtN (pc := 19) (tgt := 30) dX9_printWhole_19 (by decide) (by decide) (fun q => absurd q (by decide)) (fun _ => ?_)
    refine ev_aload_n (pc := 22) dX9_printWhole_22 rfl ?_
    refine ev_getf (pc := 23) dX9_printWhole_23 f_X9_226 (ms_M h) rfl ?_
    refine ev_iload_n (pc := 26) dX9_printWhole_26 rfl ?_
    refine ev_icmp_neN (pc := 27) (tgt := 63) dX9_printWhole_27 (by decide) (show I 6 + j < 2 ^ 31 by omega) (show I 6 < 2 ^ 31 by omega) (fun _ => ?_) (fun (q : I 6 + j = I 6) => by omega)
    exact hK j v1 f1 h1 dn jm j0 ⟨h, hF⟩ e3 e4 e5
  intro fl
  induction fl with
  | zero =>
    intro j v1 f1 h1 e0 e1 e2 e3 e4 e5 e6
    exact stop j v1 f1 h1 (by omega) e1 e2 e3 e4 e5 e6
  | succ fl ih =>
    intro j v1 f1 h1 e0 e1 e2 e3 e4 e5 e6
    rcases Nat.eq_zero_or_pos (a / 10 ^ j) with q | q
    · exact stop j v1 f1 h1 q e1 e2 e3 e4 e5 e6
    · obtain ⟨h, hF⟩ := e1
      have ge : 10 ^ j ≤ a := (Nat.div_pos_iff.mp q).2
      have jl : j < 400 := (Nat.pow_lt_pow_iff_right (show 1 < 10 by decide)).mp (Nat.lt_of_le_of_lt ge hb)
      have mlt := Nat.mod_lt (a / 10 ^ j) (show 0 < 10 by decide)
      obtain ⟨-, L, s, d1, d2, hV⟩ := ms_g h
      have hv40 := hV 40 (by decide)
      have z40 : 0 < s 40 := Nat.pos_of_ne_zero (fun z => by have := (rv_z hv40).mp z; omega)
      have sb := hv40.1
      refine ev_aload_n (pc := 12) dX9_printWhole_12 rfl ?_
      refine ev_getf (pc := 13) dX9_printWhole_13 f_X9_13 (ms_M h) rfl ?_
      refine ev_bipush (pc := 16) (v := nI 40) dX9_printWhole_16 (by decide) ?_
      refine ev_iaN (pc := 18) dX9_printWhole_18 d2 (by omega) (by decide) ?_
      refine ev_if_gtN (pc := 19) (tgt := 30) dX9_printWhole_19 (by decide) (by omega) (fun _ => ?_) (fun q => by omega)
      refine ev_aload_n (pc := 30) dX9_printWhole_30 rfl ?_
      refine ev_getf (pc := 31) dX9_printWhole_31 f_X9_59 (ms_M h) rfl ?_
      refine ev_aload_n (pc := 34) dX9_printWhole_34 rfl ?_
      refine ev_getf (pc := 35) dX9_printWhole_35 f_X9_226 (ms_M h) rfl ?_
      refine ev_bipush (pc := 38) (v := nI 48) dX9_printWhole_38 (by decide) ?_
      refine ev_aload_n (pc := 40) dX9_printWhole_40 rfl ?_
      refine ev_bipush (pc := 41) (v := nI 40) dX9_printWhole_41 (by decide) ?_
      refine ev_bipush (pc := 43) (v := nI 10) dX9_printWhole_43 (by decide) ?_
      refine ev_callV (pc := 45) (As := [.int (nI 40), .int (nI 10)]) dX9_printWhole_45 cv_X9_229 rfl rfl (ms_M h) rfl ⟨by show 19 + 8 ≤ w; omega, show ev_Ca _ _ (w - 27) _ _ _ _ _ _ from m_divide (r := 40) (b := 10) (by omega) (by omega) h (by omega) (by omega) (by decide) (by decide)⟩ rfl rfl (fun r h1 hp => ?_)
      obtain ⟨rfl, h2, hF2⟩ := hp
      rw [e2] at h2 ⊢
      refine ev_iaddN (pc := 48) dX9_printWhole_48 ?_
      refine ev_iast (pc := 49) dX9_printWhole_49 (ms_f h2) (vp_in_nI (show I 6 + j < 1400 by omega) (by decide)) ?_
      obtain ⟨h3, hF3⟩ := ms_uf (s := I 6 + j) (x := 48 + a / 10 ^ j % 10) h2 (by omega)
      refine ev_th (h2 := ev_up _ (A 16) (.inl (.int, 1400, .inl (upd (fun j => nI (f1 j)) (nI (I 6 + j)).toNatClampNeg (nI (48 + a / 10 ^ j % 10)))))) rfl ?_
      generalize ev_up _ (A 16) (.inl (.int, 1400, .inl (upd (fun j => nI (f1 j)) (nI (I 6 + j)).toNatClampNeg (nI (48 + a / 10 ^ j % 10))))) = H3 at *
      refine ev_aload_n (pc := 50) dX9_printWhole_50 rfl ?_
      refine ev_dup (pc := 51) dX9_printWhole_51 rfl ?_
      refine ev_getf (pc := 52) dX9_printWhole_52 f_X9_226 (ms_M h3) rfl ?_
      refine ev_iconst (pc := 55) (v := nI 1) dX9_printWhole_55 (by decide) ?_
      refine ev_iaddN (pc := 56) dX9_printWhole_56 ?_
      refine ev_putf (pc := 57) dX9_printWhole_57 p_X9_226 (ms_M h3) rfl rfl rfl ?_
      obtain ⟨h4, hF4⟩ := ms_uI (k := 6) (x := I 6 + (j + 1)) (n := 22) h3 rfl
      refine ev_th (h2 := ev_up H3 (A 17) (.inr (7, (ml A (va_up I 6 (I 6 + j))).set 22 (.int (nI (I 6 + (j + 1))))))) rfl ?_
      generalize ev_up H3 (A 17) (.inr (7, (ml A (va_up I 6 (I 6 + j))).set 22 (.int (nI (I 6 + (j + 1)))))) = H4 at *
      rw [va_uu] at h4
      refine ev_goto (pc := 60) (tgt := 12) dX9_printWhole_60 (by decide) ?_
      refine ev_vs [(0, .ref (A 17)), (2, .int (nI (I 6)))] ⟨rfl, rfl, trivial⟩ ?_
      refine ih (j + 1) _ _ H4 ?_ ⟨h4, ((hF.tr hF2).tr hF3).tr hF4⟩ ?_ (fun i hi => ?_) (fun i hi => ?_) (fun x hx => ?_) (fun i hi => ?_)
      · rw [Nat.pow_succ, ← Nat.div_div_eq_div_mul]; omega
      · rw [va_up_self, Nat.pow_succ, ← Nat.div_div_eq_div_mul]
      · rw [va_up_ne _ _ (by omega)]; exact e3 i hi
      · by_cases x : i = j
        · rw [x, va_up_self]
        · rw [va_up_ne _ _ (by omega)]; exact e4 i (by omega)
      · rw [va_up_ne _ _ (by omega)]; exact e5 x hx
      · by_cases x : i = j
        · rw [x]; exact ge
        · exact e6 i (by omega)
theorem l_rrev {K : ev_K} {c z m fr : Nat} {I : Nat → Nat} {f1 : Nat → Nat} (hm : 0 < m) (hb : fr + m ≤ 1400)
    (hK : ∀ f2 h1, mpost H A I v Q R lv f2 h1 → (∀ x, x < m → f2 (fr + x) = f1 (fr + (m - 1 - x))) → (∀ x, x < fr → f2 x = f1 x) → K (.inl none) h1) :
    ∀ n t f2 h1, m - 2 * t ≤ n → 2 * t ≤ m → mpost H A I v Q R lv f2 h1 → (∀ x, x < m → f2 (fr + x) = (if t ≤ x ∧ x < m - t then f1 (fr + x) else f1 (fr + (m - 1 - x)))) → (∀ x, x < fr → f2 x = f1 x) → ev_J G (ev_cc G dd w) w m_X9_printWhole K (73, ev_lf [(0, .ref (A 17)), (3, .int (nI (fr + t))), (4, .int (nI (fr + m - t) - nI 1))], [], h1, c, z) := by
  have stop : ∀ t f2 h1, m - 2 * t ≤ 1 → 2 * t ≤ m → mpost H A I v Q R lv f2 h1 → (∀ x, x < m → f2 (fr + x) = (if t ≤ x ∧ x < m - t then f1 (fr + x) else f1 (fr + (m - 1 - x)))) → (∀ x, x < fr → f2 x = f1 x) → ev_J G (ev_cc G dd w) w m_X9_printWhole K (73, ev_lf [(0, .ref (A 17)), (3, .int (nI (fr + t))), (4, .int (nI (fr + m - t) - nI 1))], [], h1, c, z) := by
    intro t f2 h1 e e0 e1 e2 e3
    rw [show nI (fr + m - t) - nI 1 = nI (fr + m - t - 1) from pk_sub (by omega)]
    refine ev_iload_n (pc := 73) dX9_printWhole_73 rfl ?_
    refine ev_iload (pc := 74) dX9_printWhole_74 rfl ?_
    refine ev_icmp_geN (pc := 76) (tgt := 118) dX9_printWhole_76 (by decide) (by omega) (by omega) (fun c1 => ?_) (fun c1 => ?_)
    · refine ev_vret (pc := 118) dX9_printWhole_118 rfl (hK f2 h1 e1 (fun x hx => ?_) e3)
      rw [e2 x hx]
      split
      · congr 1; omega
      · rfl
    · omega
  intro n
  induction n with
  | zero => intro t f2 h1 e e0 e1 e2 e3; exact stop t f2 h1 (by omega) e0 e1 e2 e3
  | succ n ih =>
    intro t f2 h1 e e0 e1 e2 e3
    rcases Nat.lt_or_ge 1 (m - 2 * t) with q | q
    · obtain ⟨h, hF⟩ := e1
      have ej : nI (fr + m - t) - nI 1 = nI (fr + m - t - 1) := pk_sub (by omega)
      have ea := e2 t (by omega)
      have eb := e2 (m - 1 - t) (by omega)
      rw [if_pos (by omega)] at ea eb
      have ei : fr + (m - 1 - t) = fr + m - t - 1 := by omega
      rw [ei] at eb
      rw [ej]
      refine ev_iload_n (pc := 73) dX9_printWhole_73 rfl ?_
      refine ev_iload (pc := 74) dX9_printWhole_74 rfl ?_
      refine ev_icmp_geN (pc := 76) (tgt := 118) dX9_printWhole_76 (by decide) (by omega) (by omega) (fun c1 => ?_) (fun c1 => ?_)
      · omega
      · refine ev_aload_n (pc := 79) dX9_printWhole_79 rfl ?_
        refine ev_getf (pc := 80) dX9_printWhole_80 f_X9_59 (ms_M h) rfl ?_
        refine ev_iload_n (pc := 83) dX9_printWhole_83 rfl ?_
        refine ev_iaN (pc := 84) dX9_printWhole_84 (ms_f h) (by omega) (by decide) ?_
        refine ev_istore (pc := 85) dX9_printWhole_85 rfl ?_
        refine ev_aload_n (pc := 87) dX9_printWhole_87 rfl ?_
        refine ev_getf (pc := 88) dX9_printWhole_88 f_X9_59 (ms_M h) rfl ?_
        refine ev_iload_n (pc := 91) dX9_printWhole_91 rfl ?_
        refine ev_aload_n (pc := 92) dX9_printWhole_92 rfl ?_
        refine ev_getf (pc := 93) dX9_printWhole_93 f_X9_59 (ms_M h) rfl ?_
        refine ev_iload (pc := 96) dX9_printWhole_96 rfl ?_
        refine ev_iaN (pc := 98) dX9_printWhole_98 (ms_f h) (by omega) (by decide) ?_
        refine ev_iast (pc := 99) dX9_printWhole_99 (ms_f h) (vp_in_nI (show fr + t < 1400 by omega) (by decide)) ?_
        obtain ⟨h2, hF2⟩ := ms_uf (s := fr + t) (x := f2 (fr + m - t - 1)) h (by omega)
        refine ev_th (h2 := ev_up h1 (A 16) (.inl (.int, 1400, .inl (upd (fun j => nI (f2 j)) (nI (fr + t)).toNatClampNeg (nI (f2 (fr + m - t - 1))))))) rfl ?_
        generalize ev_up h1 (A 16) (.inl (.int, 1400, .inl (upd (fun j => nI (f2 j)) (nI (fr + t)).toNatClampNeg (nI (f2 (fr + m - t - 1)))))) = H2 at *
        refine ev_aload_n (pc := 100) dX9_printWhole_100 rfl ?_
        refine ev_getf (pc := 101) dX9_printWhole_101 f_X9_59 (ms_M h2) rfl ?_
        refine ev_iload (pc := 104) dX9_printWhole_104 rfl ?_
        refine ev_iload (pc := 106) dX9_printWhole_106 rfl ?_
        refine ev_iast (pc := 108) dX9_printWhole_108 (ms_f h2) (vp_in_nI (show fr + m - t - 1 < 1400 by omega) (by decide)) ?_
        obtain ⟨h3, hF3⟩ := ms_uf (s := fr + m - t - 1) (x := f2 (fr + t)) h2 (by omega)
        refine ev_th (h2 := ev_up H2 (A 16) (.inl (.int, 1400, .inl (upd (fun j => nI (va_up f2 (fr + t) (f2 (fr + m - t - 1)) j)) (nI (fr + m - t - 1)).toNatClampNeg (nI (f2 (fr + t))))))) rfl ?_
        generalize ev_up H2 (A 16) (.inl (.int, 1400, .inl (upd (fun j => nI (va_up f2 (fr + t) (f2 (fr + m - t - 1)) j)) (nI (fr + m - t - 1)).toNatClampNeg (nI (f2 (fr + t)))))) = H3 at *
        refine ev_iinc (pc := 109) dX9_printWhole_109 rfl rfl ?_
        refine ev_iincN (pc := 112) dX9_printWhole_112 rfl rfl ?_
        refine ev_goto (pc := 115) (tgt := 73) dX9_printWhole_115 (by decide) ?_
        refine ev_vs [(0, .ref (A 17)), (3, .int (nI (fr + (t + 1)))), (4, .int (nI (fr + m - (t + 1)) - nI 1))] ⟨rfl, rfl, ev_s1e (by rw [mi_m1, show fr + m - (t + 1) = fr + m - t - 1 by omega]), trivial⟩ ?_
        refine ih (t + 1) _ H3 (by omega) (by omega) ⟨h3, (hF.tr hF2).tr hF3⟩ (fun x hx => ?_) (fun x hx => ?_)
        · by_cases x1 : x = t
          · rw [va_up_ne _ _ (by omega), x1, va_up_self, if_neg (by omega), eb, ← ei]
          · by_cases x2 : x = m - 1 - t
            · rw [x2, ei, va_up_self, if_neg (by omega), ea]
              congr 1; omega
            · rw [va_up_ne _ _ (by omega), va_up_ne _ _ (by omega), e2 x hx]
              by_cases x3 : t + 1 ≤ x ∧ x < m - (t + 1)
              · rw [if_pos x3, if_pos (by omega)]
              · rw [if_neg x3, if_neg (by omega)]
        · rw [va_up_ne _ _ (by omega), va_up_ne _ _ (by omega)]; exact e3 x hx
    · exact stop t f2 h1 (by omega) e0 e1 e2 e3
theorem k_rpw {r : Nat} (hd : 3 ≤ dd) (hw : 100 ≤ w) (h : MS H A I v Q R lv f) (hr : r < 40) (ha : 0 < v r) (hb : v r < 10 ^ 400) (hI : I 6 ≤ 900) : ev_Ca G dd w m_X9_printWhole [.ref (A 17), .int (nI r)] H 0 0 (ev_ok (fun x h1 => x = none ∧ ∃ m v2 f2, DN (v r) m ∧ m ≤ 400 ∧ mpost H A (va_up I 6 (I 6 + m)) v2 Q R lv f2 h1 ∧ (∀ i, i < 40 → v2 i = v i) ∧ (∀ x, x < m → f2 (I 6 + x) = 48 + v r / 10 ^ (m - 1 - x) % 10) ∧ ∀ x, x < I 6 → f2 x = f x)) := by
  obtain ⟨dd, rfl⟩ : ∃ e, dd = e + 1 := ⟨dd - 1, by omega⟩
  refine ⟨by decide +kernel, rfl, ?_⟩
  refine ev_aload_n (pc := 0) dX9_printWhole_0 rfl ?_
  refine ev_bipush (pc := 1) (v := nI 40) dX9_printWhole_1 (by decide) ?_
  refine ev_iload_n (pc := 3) dX9_printWhole_3 rfl ?_
  refine ev_callV (pc := 4) (As := [.int (nI 40), .int (nI r)]) dX9_printWhole_4 cv_X9_101 rfl rfl (ms_M h) rfl ⟨by show 19 + 4 ≤ w; omega, show ev_Ca _ _ (w - 23) _ _ _ _ _ _ from m_copy (r := 40) (o := r) (by omega) h (by omega) (by omega) (by omega)⟩ rfl rfl (fun r h1 hp => ?_)
  obtain ⟨rfl, h2, hF2⟩ := hp
  refine ev_aload_n (pc := 7) dX9_printWhole_7 rfl ?_
  refine ev_getf (pc := 8) dX9_printWhole_8 f_X9_226 (ms_M h2) rfl ?_
  refine ev_istore_n (pc := 11) dX9_printWhole_11 rfl ?_
  refine ev_vs [(0, .ref (A 17)), (2, .int (nI (I 6)))] ⟨rfl, rfl, trivial⟩ ?_
  refine l_rpw (H := H) (v := v) (f := f) (a := v r) (by omega) (by omega) ha hb hI (fun m v1 f1 h1 g1 g2 g0 g3 g4 g5 g6 => ?_) (v r) 0 _ f _ (by rw [Nat.pow_zero, Nat.div_one]; exact Nat.le_refl _) ⟨by rw [Nat.add_zero, va_id]; exact h2, hF2⟩ (by rw [va_up_self, Nat.pow_zero, Nat.div_one]) (fun i hi => va_up_ne _ _ (by omega)) (fun i hi => absurd hi (Nat.not_lt_zero i)) (fun _ _ => rfl) (fun i hi => absurd hi (Nat.not_lt_zero i))
  refine ev_iload_n (pc := 63) dX9_printWhole_63 rfl ?_
  refine ev_istore_n (pc := 64) dX9_printWhole_64 rfl ?_
  refine ev_aload_n (pc := 65) dX9_printWhole_65 rfl ?_
  refine ev_getf (pc := 66) dX9_printWhole_66 f_X9_226 (ms_M g3.1) rfl ?_
  refine ev_iconst (pc := 69) (v := nI 1) dX9_printWhole_69 (by decide) ?_
  refine ev_isub (pc := 70) dX9_printWhole_70 ?_
  refine ev_istore (pc := 71) dX9_printWhole_71 rfl ?_
  refine ev_vs [(0, .ref (A 17)), (3, .int (nI (I 6 + 0))), (4, .int (nI (I 6 + m - 0) - nI 1))] ⟨rfl, rfl, rfl, trivial⟩ ?_
  refine l_rrev (H := H) (v := v1) (fr := I 6) (f1 := f1) g0 (by omega) (fun f2 h2 q1 q2 q3 => ⟨rfl, m, v1, f2, g1, g2, q1, g4, fun x hx => ?_, fun x hx => (q3 x hx).trans (g6 x hx)⟩) m 0 f1 h1 (by omega) (by omega) g3 (fun x hx => by rw [if_pos (by omega)]) (fun _ _ => rfl)
  rw [q2 x hx, g5 _ (by omega)]
/-- what the reference's print leaves -/
def rprp (H : ev_H) (A I v : Nat → Nat) (Q : Nat → Nat → Nat) (R : Nat → Nat → Int32) (lv : Nat → Nat) (a b : Nat) (r : Option Value) (h1 : ev_H) : Prop := ∃ n f1 v1 I1, r = some (.int (nI n)) ∧ wrt a b f1 n ∧ n ≤ 801 ∧ mpost H A I1 v1 Q R lv f1 h1 ∧ I1 6 = n ∧ I1 7 = 0 ∧ (∀ k, k ≠ 6 → k ≠ 7 → I1 k = I k) ∧ ∀ i, i < 34 → v1 i = v i
theorem k_rprint {x0 x1 : Int32} (hd : 7 ≤ dd) (hw : 200 ≤ w) (h : MS H A I v Q R lv f) (hb : I 1 ≤ 1) (ok : I 1 = 1 → st_ok Q v (fun s => v (8 + s)) (I 0) ∧ dv_ok (v 32) (v 33)) : ev_Ca G dd w m_X9_print [.ref (A 17), .int x0, .int x1] H 0 0 (ev_ok (fun r h1 => (pk (I 1) x0 x1 ∧ ∃ a b, pq Q v (fun s => v (8 + s)) (I 0) (v 32) (v 33) x0 x1 a b ∧ rprp H A I v Q R lv a b r h1) ∨ (¬ pk (I 1) x0 x1 ∧ r = some (.int (-1)) ∧ mpost H A (va_up I 7 0) v Q R lv f h1))) := by
  obtain ⟨dd, rfl⟩ : ∃ e, dd = e + 1 := ⟨dd - 1, by omega⟩
  refine ⟨by decide +kernel, rfl, ?_⟩
  refine ev_aload_n (pc := 0) dX9_print_0 rfl ?_
  refine ev_iconst (pc := 1) (v := nI 0) dX9_print_1 (by decide) ?_
  refine ev_putf (pc := 2) dX9_print_2 p_X9_66 (ms_M h) rfl rfl rfl ?_
  obtain ⟨h2, hF⟩ := ms_uI (k := 7) (x := 0) (n := 24) h rfl
  generalize ev_up H (A 17) (.inr (7, (ml A I).set 24 (.int (nI 0)))) = H2 at *
  generalize hPost : (ev_ok (fun r h1 => (pk (I 1) x0 x1 ∧ ∃ a b, pq Q v (fun s => v (8 + s)) (I 0) (v 32) (v 33) x0 x1 a b ∧ rprp H A I v Q R lv a b r h1) ∨ (¬ pk (I 1) x0 x1 ∧ r = some (.int (-1)) ∧ mpost H A (va_up I 7 0) v Q R lv f h1))) = KK
  have no : ∀ {V}, ¬ pk (I 1) x0 x1 → ev_J G (ev_cc G dd w) w m_X9_print KK (36, V, [], H2, 0, 0) := by
    intro V nk
    rw [← hPost]
    refine ev_iconst (pc := 36) (v := -1) dX9_print_36 (by decide) ?_
    exact ev_iret (pc := 37) dX9_print_37 rfl rfl (Or.inr ⟨nk, rfl, h2, hF⟩)
  have fin : ∀ {V} hh vv a b, pk (I 1) x0 x1 → pq Q v (fun s => v (8 + s)) (I 0) (v 32) (v 33) x0 x1 a b → MS hh A (va_up I 7 0) vv Q R lv f → MF A H hh → (∀ i, i < 34 → vv i = v i) → vv 38 = a → vv 39 = b → 0 < a → 0 < b → a < 10 ^ 400 → b < 10 ^ 400 → ev_hs V [(0, .ref (A 17))] → ev_J G (ev_cc G dd w) w m_X9_print KK (116, V, [], hh, 0, 0) := by
    intro V hh vv a b hpk hpq hM hFh hvv e38 e39 a0 b0 al bl hv
    rw [← hPost]
    refine ev_vs _ hv ?_
    refine ev_aload_n (pc := 116) dX9_print_116 rfl ?_
    refine ev_iconst (pc := 117) (v := nI 0) dX9_print_117 (by decide) ?_
    refine ev_putf (pc := 118) dX9_print_118 p_X9_226 (ms_M hM) rfl rfl rfl ?_
    obtain ⟨h3, hF3⟩ := ms_uI (k := 6) (x := 0) (n := 22) hM rfl
    refine ev_th (h2 := ev_up hh (A 17) (.inr (7, (ml A (va_up I 7 0)).set 22 (.int (nI 0))))) rfl ?_
    generalize ev_up hh (A 17) (.inr (7, (ml A (va_up I 7 0)).set 22 (.int (nI 0)))) = H3 at *
    refine ev_aload_n (pc := 121) dX9_print_121 rfl ?_
    refine ev_bipush (pc := 122) (v := nI 38) dX9_print_122 (by decide) ?_
    refine ev_callV (pc := 124) (As := [.int (nI 38)]) dX9_print_124 cv_X9_232 rfl rfl (ms_M h3) rfl ⟨by show 19 + 6 ≤ w; omega, show ev_Ca _ _ (w - 25) _ _ _ _ _ _ from k_rpw (r := 38) (by omega) (by omega) h3 (by omega) (by rw [e38]; exact a0) (by rw [e38]; exact al) (show va_up (va_up I 7 0) 6 0 6 ≤ 900 from by show 0 ≤ 900; omega)⟩ rfl rfl (fun r h1 hp => ?_)
    rw [show va_up (va_up I 7 0) 6 0 6 = 0 from rfl, e38] at hp
    obtain ⟨rfl, m, v4, f4, dn, ml', ⟨h4, hF4⟩, g1, g2, -⟩ := hp
    rw [va_uu, Nat.zero_add] at h4
    simp only [Nat.zero_add] at g2
    have e39' : v4 39 = b := (g1 39 (by decide)).trans e39
    have lo4 : ∀ i, i < 34 → v4 i = v i := fun i hi => (g1 i (by omega)).trans (hvv i hi)
    refine ev_aload_n (pc := 127) dX9_print_127 rfl ?_
    refine ev_bipush (pc := 128) (v := nI 39) dX9_print_128 (by decide) ?_
    refine ev_callV (pc := 130) (As := [.int (nI 39)]) dX9_print_130 cv_X9_117 rfl rfl (ms_M h4) rfl ⟨by show 19 + 2 ≤ w; omega, show ev_Ca _ _ (w - 21) _ _ _ _ _ _ from g_isOne (r := 39) (by omega) (ms_g h4) (by omega)⟩ rfl rfl (fun r h1 hp => ?_)
    obtain ⟨rfl, hH⟩ := hp
    rw [hH, e39']
    clear hH
    by_cases b1 : b = 1
    · rw [if_pos b1]
      refine ev_if_neN (pc := 133) (tgt := 163) dX9_print_133 (by decide) (by decide) (fun _ => ?_) (fun q => absurd q (by decide))
      refine ev_aload_n (pc := 163) dX9_print_163 rfl ?_
      refine ev_getf (pc := 164) dX9_print_164 f_X9_226 (ms_M h4) rfl ?_
      refine ev_iret (pc := 167) dX9_print_167 rfl rfl (Or.inl ⟨hpk, a, b, hpq, m, f4, v4, _, rfl, ⟨m, dn, g2, Or.inl ⟨b1, rfl⟩⟩, by omega, ⟨h4, (hFh.tr hF3).tr hF4⟩, rfl, rfl, fun k k1 k2 => ?_, lo4⟩)
      rw [va_up_ne _ _ k1, va_up_ne _ _ k2]
    · rw [if_neg b1]
      refine ev_if_neN (pc := 133) (tgt := 163) dX9_print_133 (by decide) (by decide) (fun q => absurd q (by decide)) (fun _ => ?_)
      refine ev_aload_n (pc := 136) dX9_print_136 rfl ?_
      refine ev_getf (pc := 137) dX9_print_137 f_X9_59 (ms_M h4) rfl ?_
      refine ev_aload_n (pc := 140) dX9_print_140 rfl ?_
      refine ev_getf (pc := 141) dX9_print_141 f_X9_226 (ms_M h4) rfl ?_
      refine ev_bipush (pc := 144) (v := nI 47) dX9_print_144 (by decide) ?_
      refine ev_iast (pc := 146) dX9_print_146 (ms_f h4) (vp_in_nI (show m < 1400 by omega) (by decide)) ?_
      obtain ⟨h5, hF5⟩ := ms_uf (s := m) (x := 47) h4 (by omega)
      refine ev_th (h2 := ev_up _ (A 16) (.inl (.int, 1400, .inl (upd (fun j => nI (f4 j)) (nI m).toNatClampNeg (nI 47))))) rfl ?_
      generalize ev_up _ (A 16) (.inl (.int, 1400, .inl (upd (fun j => nI (f4 j)) (nI m).toNatClampNeg (nI 47)))) = H5 at *
      refine ev_aload_n (pc := 147) dX9_print_147 rfl ?_
      refine ev_dup (pc := 148) dX9_print_148 rfl ?_
      refine ev_getf (pc := 149) dX9_print_149 f_X9_226 (ms_M h5) rfl ?_
      refine ev_iconst (pc := 152) (v := nI 1) dX9_print_152 (by decide) ?_
      refine ev_iaddN (pc := 153) dX9_print_153 ?_
      refine ev_putf (pc := 154) dX9_print_154 p_X9_226 (ms_M h5) rfl rfl rfl ?_
      obtain ⟨h6, hF6⟩ := ms_uI (k := 6) (x := m + 1) (n := 22) h5 rfl
      refine ev_th (h2 := ev_up H5 (A 17) (.inr (7, (ml A (va_up (va_up I 7 0) 6 m)).set 22 (.int (nI (m + 1)))))) rfl ?_
      generalize ev_up H5 (A 17) (.inr (7, (ml A (va_up (va_up I 7 0) 6 m)).set 22 (.int (nI (m + 1))))) = H6 at *
      rw [va_uu] at h6
      refine ev_aload_n (pc := 157) dX9_print_157 rfl ?_
      refine ev_bipush (pc := 158) (v := nI 39) dX9_print_158 (by decide) ?_
      refine ev_callV (pc := 160) (As := [.int (nI 39)]) dX9_print_160 cv_X9_232 rfl rfl (ms_M h6) rfl ⟨by show 19 + 6 ≤ w; omega, show ev_Ca _ _ (w - 25) _ _ _ _ _ _ from k_rpw (r := 39) (by omega) (by omega) h6 (by omega) (by rw [e39']; exact b0) (by rw [e39']; exact bl) (show va_up (va_up I 7 0) 6 (m + 1) 6 ≤ 900 from by show m + 1 ≤ 900; omega)⟩ rfl rfl (fun r h1 hp => ?_)
      rw [show va_up (va_up I 7 0) 6 (m + 1) 6 = m + 1 from rfl, e39'] at hp
      obtain ⟨rfl, m2, v7, f7, dn2, ml2, ⟨h7, hF7⟩, k1, k2, k3⟩ := hp
      rw [va_uu] at h7
      refine ev_aload_n (pc := 163) dX9_print_163 rfl ?_
      refine ev_getf (pc := 164) dX9_print_164 f_X9_226 (ms_M h7) rfl ?_
      refine ev_iret (pc := 167) dX9_print_167 rfl rfl (Or.inl ⟨hpk, a, b, hpq, m + 1 + m2, f7, v7, _, rfl, ⟨m, dn, fun j hj => ?_, Or.inr ⟨b1, m2, dn2, rfl, ?_, k2⟩⟩, by omega, ⟨h7, ((((hFh.tr hF3).tr hF4).tr hF5).tr hF6).tr hF7⟩, rfl, rfl, fun k q1 q2 => ?_, fun i hi => (k1 i (by omega)).trans (lo4 i hi)⟩)
      · rw [k3 j (by omega), va_up_ne _ _ (by omega)]; exact g2 j hj
      · rw [k3 m (by omega), va_up_self]
      · rw [va_up_ne _ _ q1, va_up_ne _ _ q2]
  refine ev_aload_n (pc := 5) dX9_print_5 rfl ?_
  refine ev_getf (pc := 6) dX9_print_6 f_X9_150 (ms_M h2) rfl ?_
  refine ev_if_eqN (pc := 9) (tgt := 36) dX9_print_9 (by decide) (show I 1 < 2 ^ 31 by omega) (fun (c1 : I 1 = 0) => ?_) (fun (c1 : 0 < I 1) => ?_)
  · exact no (fun q => by have := q.1; omega)
  have c1' : I 1 = 1 := by omega
  obtain ⟨⟨hP, hf, hm, hm0⟩, w1, w2, w3, w4, w5⟩ := ok c1'
  refine ev_iload_n (pc := 12) dX9_print_12 rfl ?_
  refine ev_iconst (pc := 13) (v := nI 0) dX9_print_13 (by decide) ?_
  refine ev_iconst (pc := 14) (v := nI 2) dX9_print_14 (by decide) ?_
  refine ev_callS (pc := 15) (As := [.int x0, .int (nI 0), .int (nI 2)]) dX9_print_15 cs_X9_142 rfl rfl ⟨by show 19 + 3 ≤ w; omega, show ev_Ca _ _ (w - 22) _ _ _ _ _ _ from k_in (x := x0) (lo := 0) (hi := 2) (by omega) (by decide) (by decide)⟩ rfl rfl (fun r h1 hp => ?_)
  obtain ⟨rfl, hH⟩ := hp
  rw [hH]
  clear hH
  by_cases c2 : ri x0 0 2
  · rw [show rb x0 ((0 : Nat) : Int) ((2 : Nat) : Int) = 1 from rb_1 c2]
    refine ev_if_eqN (pc := 18) (tgt := 36) dX9_print_18 (by decide) (by decide) (fun q => absurd q (by decide)) (fun _ => ?_)
    obtain ⟨n, rfl, -, n2⟩ := ri_nI (x := x0) (lo := 0) (hi := 2) c2 (by decide)
    have go : ∀ {V}, ev_hs V [(0, .ref (A 17)), (1, .int (nI n)), (2, .int x1)] → (n = 2 → ri x1 0 7) → ev_J G (ev_cc G dd w) w m_X9_print KK (38, V, [], H2, 0, 0) := by
      intro V hv h7
      refine ev_vs _ hv ?_
      refine ev_iload_n (pc := 38) dX9_print_38 rfl ?_
      refine ev_if_neN (pc := 39) (tgt := 77) dX9_print_39 (by decide) (by omega) (fun d1 => ?_) (fun d1 => ?_)
      · rcases (show n = 1 ∨ n = 2 by omega) with rfl | rfl
        · refine ev_aload_n (pc := 77) dX9_print_77 rfl ?_
          refine ev_bipush (pc := 78) (v := nI 38) dX9_print_78 (by decide) ?_
          refine ev_iload_n (pc := 80) dX9_print_80 rfl ?_
          refine ev_iconst (pc := 81) (v := nI 1) dX9_print_81 (by decide) ?_
          refine ev_icmp_neN (pc := 82) (tgt := 90) dX9_print_82 (by decide) (by decide) (by decide) (fun q => absurd rfl q) (fun _ => ?_)
          refine ev_bipush (pc := 85) (v := nI 32) dX9_print_85 (by decide) ?_
          refine ev_goto (pc := 87) (tgt := 93) dX9_print_87 (by decide) ?_
          refine ev_callV (pc := 93) (As := [.int (nI 38), .int (nI 32)]) dX9_print_93 cv_X9_101 rfl rfl (ms_M h2) rfl ⟨by show 19 + 4 ≤ w; omega, show ev_Ca _ _ (w - 23) _ _ _ _ _ _ from m_copy (r := 38) (o := 32) (by omega) h2 (by omega) (by omega) (by omega)⟩ rfl rfl (fun r h1 hp => ?_)
          obtain ⟨rfl, h3, hF3⟩ := hp
          refine ev_aload_n (pc := 96) dX9_print_96 rfl ?_
          refine ev_bipush (pc := 97) (v := nI 39) dX9_print_97 (by decide) ?_
          refine ev_iload_n (pc := 99) dX9_print_99 rfl ?_
          refine ev_iconst (pc := 100) (v := nI 1) dX9_print_100 (by decide) ?_
          refine ev_icmp_neN (pc := 101) (tgt := 109) dX9_print_101 (by decide) (by decide) (by decide) (fun q => absurd rfl q) (fun _ => ?_)
          refine ev_bipush (pc := 104) (v := nI 33) dX9_print_104 (by decide) ?_
          refine ev_goto (pc := 106) (tgt := 113) dX9_print_106 (by decide) ?_
          refine ev_callV (pc := 113) (As := [.int (nI 39), .int (nI 33)]) dX9_print_113 cv_X9_101 rfl rfl (ms_M h3) rfl ⟨by show 19 + 4 ≤ w; omega, show ev_Ca _ _ (w - 23) _ _ _ _ _ _ from m_copy (r := 39) (o := 33) (by omega) h3 (by omega) (by omega) (by omega)⟩ rfl rfl (fun r h1 hp => ?_)
          obtain ⟨rfl, h4, hF4⟩ := hp
          rw [va_up_ne _ _ (show (33 : Nat) ≠ 38 by decide)] at h4
          exact fin _ _ (v 32) (v 33) ⟨c1', Or.inr (Or.inl rfl)⟩ (Or.inr (Or.inl ⟨rfl, rfl, rfl⟩)) h4 ((hF.tr hF3).tr hF4) (fun i hi => by rw [va_up_ne _ _ (by omega), va_up_ne _ _ (by omega)]) rfl rfl w1 w2 (p10_400 (p2_le (by decide) w3)) (p10_400 (p2_le (by decide) w4)) ⟨rfl, trivial⟩
        · have r7 := h7 rfl
          obtain ⟨s, rfl, -, s7⟩ := ri_nI (x := x1) (lo := 0) (hi := 7) r7 (by decide)
          obtain ⟨⟨f1, f2⟩, f3, f4⟩ := hf s (by omega)
          simp only at f3 f4
          refine ev_aload_n (pc := 77) dX9_print_77 rfl ?_
          refine ev_bipush (pc := 78) (v := nI 38) dX9_print_78 (by decide) ?_
          refine ev_iload_n (pc := 80) dX9_print_80 rfl ?_
          refine ev_iconst (pc := 81) (v := nI 1) dX9_print_81 (by decide) ?_
          refine ev_icmp_neN (pc := 82) (tgt := 90) dX9_print_82 (by decide) (by decide) (by decide) (fun _ => ?_) (fun q => absurd q (by decide))
          refine ev_iconst (pc := 90) (v := nI 0) dX9_print_90 (by decide) ?_
          refine ev_iload_n (pc := 91) dX9_print_91 rfl ?_
          refine ev_iaddN (pc := 92) dX9_print_92 ?_
          refine ev_callV (pc := 93) (As := [.int (nI 38), .int (nI (0 + s))]) dX9_print_93 cv_X9_101 rfl rfl (ms_M h2) rfl ⟨by show 19 + 4 ≤ w; omega, show ev_Ca _ _ (w - 23) _ _ _ _ _ _ from m_copy (r := 38) (o := 0 + s) (by omega) h2 (by omega) (by omega) (by omega)⟩ rfl rfl (fun r h1 hp => ?_)
          obtain ⟨rfl, h3, hF3⟩ := hp
          rw [Nat.zero_add] at h3
          refine ev_aload_n (pc := 96) dX9_print_96 rfl ?_
          refine ev_bipush (pc := 97) (v := nI 39) dX9_print_97 (by decide) ?_
          refine ev_iload_n (pc := 99) dX9_print_99 rfl ?_
          refine ev_iconst (pc := 100) (v := nI 1) dX9_print_100 (by decide) ?_
          refine ev_icmp_neN (pc := 101) (tgt := 109) dX9_print_101 (by decide) (by decide) (by decide) (fun _ => ?_) (fun q => absurd q (by decide))
          refine ev_bipush (pc := 109) (v := nI 8) dX9_print_109 (by decide) ?_
          refine ev_iload_n (pc := 111) dX9_print_111 rfl ?_
          refine ev_iaddN (pc := 112) dX9_print_112 ?_
          refine ev_callV (pc := 113) (As := [.int (nI 39), .int (nI (8 + s))]) dX9_print_113 cv_X9_101 rfl rfl (ms_M h3) rfl ⟨by show 19 + 4 ≤ w; omega, show ev_Ca _ _ (w - 23) _ _ _ _ _ _ from m_copy (r := 39) (o := 8 + s) (by omega) h3 (by omega) (by omega) (by omega)⟩ rfl rfl (fun r h1 hp => ?_)
          obtain ⟨rfl, h4, hF4⟩ := hp
          rw [va_up_ne _ _ (show 8 + s ≠ 38 by omega)] at h4
          exact fin _ _ (v s) (v (8 + s)) ⟨c1', Or.inr (Or.inr ⟨rfl, r7⟩)⟩ (Or.inr (Or.inr ⟨rfl, s, by omega, rfl, rfl, rfl⟩)) h4 ((hF.tr hF3).tr hF4) (fun i hi => by rw [va_up_ne _ _ (by omega), va_up_ne _ _ (by omega)]) rfl rfl f1 f3 (p10_400 (p2_le (by decide) f2)) (p10_400 (p2_le (by decide) f4)) ⟨rfl, trivial⟩
      · subst d1
        obtain ⟨y1, y2⟩ := su_p8 hP hf hm hm0
        obtain ⟨yb1, yb2⟩ := su_b8 (mem := I 0) hP hf (Nat.le_refl 8)
        obtain ⟨l1, l2, l3, l4⟩ := lt_pos y1 y2
        refine ev_aload_n (pc := 42) dX9_print_42 rfl ?_
        refine ev_callV (pc := 43) (As := []) dX9_print_43 cv_X9_155 rfl rfl (ms_M h2) rfl ⟨by show 19 + 2 ≤ w; omega, show ev_Ca _ _ (w - 21) _ _ _ _ _ _ from k_sum (by omega) (by omega) h2 hP hf (show va_up I 7 0 0 < 256 from hm) (show va_up I 7 0 0 ≠ 0 from hm0)⟩ rfl rfl (fun r h1 hp => ?_)
        rw [show va_up I 7 0 0 = I 0 from rfl] at hp
        obtain ⟨rfl, v2, ⟨h3, hF3⟩, s1, s2, s3⟩ := hp
        have cr : lt1 (su Q v (fun s => v (8 + s)) (I 0) 8) * v 33 * ((su Q v (fun s => v (8 + s)) (I 0) 8).2 * v 32) = lt2 (su Q v (fun s => v (8 + s)) (I 0) 8) * v 32 * ((su Q v (fun s => v (8 + s)) (I 0) 8).1 * v 33) := by
          have e1 : lt1 (su Q v (fun s => v (8 + s)) (I 0) 8) * (su Q v (fun s => v (8 + s)) (I 0) 8).2 = lt2 (su Q v (fun s => v (8 + s)) (I 0) 8) * (su Q v (fun s => v (8 + s)) (I 0) 8).1 := gd_cross
          generalize su Q v (fun s => v (8 + s)) (I 0) 8 = W at *
          calc lt1 W * v 33 * (W.2 * v 32) = lt1 W * W.2 * (v 33 * v 32) := by ac_rfl
            _ = lt2 W * W.1 * (v 33 * v 32) := by rw [e1]
            _ = lt2 W * v 32 * (W.1 * v 33) := by ac_rfl
        obtain ⟨un1, un2⟩ := gd_uni (Nat.mul_pos l1 w2) (Nat.mul_pos y1 w2) cr
        have z32 : v2 32 = v 32 := s3 32 (by decide) (by decide) (by decide)
        have z33 : v2 33 = v 33 := s3 33 (by decide) (by decide) (by decide)
        have k1 : lt1 (su Q v (fun s => v (8 + s)) (I 0) 8) * v 33 < 2 ^ (571 + 512) := p2_mul (Nat.lt_of_le_of_lt l3 yb1) w4
        have k2 : lt2 (su Q v (fun s => v (8 + s)) (I 0) 8) * v 32 < 2 ^ (505 + 512) := p2_mul (Nat.lt_of_le_of_lt l4 yb2) w3
        refine ev_aload_n (pc := 46) dX9_print_46 rfl ?_
        refine ev_bipush (pc := 47) (v := nI 38) dX9_print_47 (by decide) ?_
        refine ev_bipush (pc := 49) (v := nI 34) dX9_print_49 (by decide) ?_
        refine ev_bipush (pc := 51) (v := nI 33) dX9_print_51 (by decide) ?_
        refine ev_callV (pc := 53) (As := [.int (nI 38), .int (nI 34), .int (nI 33)]) dX9_print_53 cv_X9_131 rfl rfl (ms_M h3) rfl ⟨by show 19 + 11 ≤ w; omega, show ev_Ca _ _ (w - 30) _ _ _ _ _ _ from m_mul (r := 38) (p := 34) (q := 33) (by omega) (by omega) h3 (by omega) (by omega) (by omega) (by omega) (by omega) (by rw [z33, s1]; exact p2_le139 (by decide) k1)⟩ rfl rfl (fun r h1 hp => ?_)
        obtain ⟨rfl, h4, hF4⟩ := hp
        rw [z33, s1] at h4
        refine ev_aload_n (pc := 56) dX9_print_56 rfl ?_
        refine ev_bipush (pc := 57) (v := nI 39) dX9_print_57 (by decide) ?_
        refine ev_bipush (pc := 59) (v := nI 35) dX9_print_59 (by decide) ?_
        refine ev_bipush (pc := 61) (v := nI 32) dX9_print_61 (by decide) ?_
        refine ev_callV (pc := 63) (As := [.int (nI 39), .int (nI 35), .int (nI 32)]) dX9_print_63 cv_X9_131 rfl rfl (ms_M h4) rfl ⟨by show 19 + 11 ≤ w; omega, show ev_Ca _ _ (w - 30) _ _ _ _ _ _ from m_mul (r := 39) (p := 35) (q := 32) (by omega) (by omega) h4 (by omega) (by omega) (by omega) (by omega) (by omega) (by rw [va_up_ne _ _ (by decide), va_up_ne _ _ (by decide), z32, s2]; exact p2_le139 (by decide) k2)⟩ rfl rfl (fun r h1 hp => ?_)
        obtain ⟨rfl, h5, hF5⟩ := hp
        rw [va_up_ne _ _ (show (35 : Nat) ≠ 38 by decide), va_up_ne _ _ (show (32 : Nat) ≠ 38 by decide), z32, s2] at h5
        generalize hW : su Q v (fun s => v (8 + s)) (I 0) 8 = W at *
        have e38 : va_up (va_up v2 38 (lt1 W * v 33)) 39 (lt2 W * v 32) 38 = lt1 W * v 33 := rfl
        have e39 : va_up (va_up v2 38 (lt1 W * v 33)) 39 (lt2 W * v 32) 39 = lt2 W * v 32 := rfl
        have elo : ∀ i, i < 34 → va_up (va_up v2 38 (lt1 W * v 33)) 39 (lt2 W * v 32) i = v i := fun i hi => by rw [va_up_ne _ _ (by omega), va_up_ne _ _ (by omega), s3 i (by omega) (by omega) (by omega)]
        generalize va_up (va_up v2 38 (lt1 W * v 33)) 39 (lt2 W * v 32) = v3 at *
        refine ev_aload_n (pc := 66) dX9_print_66 rfl ?_
        refine ev_bipush (pc := 67) (v := nI 38) dX9_print_67 (by decide) ?_
        refine ev_bipush (pc := 69) (v := nI 39) dX9_print_69 (by decide) ?_
        refine ev_callV (pc := 71) (As := [.int (nI 38), .int (nI 39)]) dX9_print_71 cv_X9_138 rfl rfl (ms_M h5) rfl ⟨by show 19 + 3 ≤ w; omega, show ev_Ca _ _ (w - 22) _ _ _ _ _ _ from m_reduce (t := 38) (b := 39) (by omega) (by omega) h5 (by omega) (by omega) (by omega) (by rw [e38]; exact Nat.mul_pos l1 w2) (by rw [e38]; exact p2_le139 (by decide) k1) (by rw [e39]; exact p2_le139 (by decide) k2)⟩ rfl rfl (fun r h1 hp => ?_)
        obtain ⟨rfl, v6, ⟨h6, hF6⟩, p1, p2, p3⟩ := hp
        rw [e38, e39] at p1 p2
        have g0 : 0 < Nat.gcd (lt1 W * v 33) (lt2 W * v 32) := Nat.gcd_pos_of_pos_left _ (Nat.mul_pos l1 w2)
        refine ev_goto (pc := 74) (tgt := 116) dX9_print_74 (by decide) ?_
        refine fin _ v6 _ _ ⟨c1', Or.inl rfl⟩ (Or.inl ⟨rfl, ?_, ?_⟩) h6 ((((hF.tr hF3).tr hF4).tr hF5).tr hF6) (fun i hi => by rw [p3 i (by omega) (by omega) (by omega), elo i hi]) rfl rfl ?_ ?_ ?_ ?_ ⟨rfl, trivial⟩
        · rw [p1, un1, hW]
        · rw [p2, un2, hW]
        · rw [p1]; exact Nat.div_pos (Nat.le_of_dvd (Nat.mul_pos l1 w2) (Nat.gcd_dvd_left _ _)) g0
        · rw [p2]; exact Nat.div_pos (Nat.le_of_dvd (Nat.mul_pos l2 w1) (Nat.gcd_dvd_right _ _)) g0
        · rw [p1]; exact p10_400 (Nat.lt_of_le_of_lt (Nat.div_le_self _ _) k1)
        · rw [p2]; exact p10_400 (Nat.lt_of_le_of_lt (Nat.div_le_self _ _) (p2_le (by decide) k2))
    refine ev_iload_n (pc := 21) dX9_print_21 rfl ?_
    refine ev_iconst (pc := 22) (v := nI 2) dX9_print_22 (by decide) ?_
    refine ev_icmp_neN (pc := 23) (tgt := 38) dX9_print_23 (by decide) (by omega) (by omega) (fun d2 => ?_) (fun d2 => ?_)
    · exact go ⟨rfl, rfl, rfl, trivial⟩ (fun q => absurd q d2)
    · refine ev_iload_n (pc := 26) dX9_print_26 rfl ?_
      refine ev_iconst (pc := 27) (v := nI 0) dX9_print_27 (by decide) ?_
      refine ev_bipush (pc := 28) (v := nI 7) dX9_print_28 (by decide) ?_
      refine ev_callS (pc := 30) (As := [.int x1, .int (nI 0), .int (nI 7)]) dX9_print_30 cs_X9_142 rfl rfl ⟨by show 19 + 3 ≤ w; omega, show ev_Ca _ _ (w - 22) _ _ _ _ _ _ from k_in (x := x1) (lo := 0) (hi := 7) (by omega) (by decide) (by decide)⟩ rfl rfl (fun r h1 hp => ?_)
      obtain ⟨rfl, hH⟩ := hp
      rw [hH]
      clear hH
      by_cases c4 : ri x1 0 7
      · rw [show rb x1 ((0 : Nat) : Int) ((7 : Nat) : Int) = 1 from rb_1 c4]
        refine ev_if_neN (pc := 33) (tgt := 38) dX9_print_33 (by decide) (by decide) (fun _ => ?_) (fun q => absurd q (by decide))
        exact go ⟨rfl, rfl, rfl, trivial⟩ (fun _ => c4)
      · rw [show rb x1 ((0 : Nat) : Int) ((7 : Nat) : Int) = 0 from rb_0 c4]
        refine ev_if_neN (pc := 33) (tgt := 38) dX9_print_33 (by decide) (by decide) (fun q => absurd q (by decide)) (fun _ => ?_)
        refine no (fun q => ?_)
        rcases q.2 with q | q | q
        · have := (nI_eq (by omega) (by omega)).mp q; omega
        · have := (nI_eq (by omega) (by omega)).mp q; omega
        · exact c4 q.2
  · rw [show rb x0 ((0 : Nat) : Int) ((2 : Nat) : Int) = 0 from rb_0 c2]
    refine ev_if_eqN (pc := 18) (tgt := 36) dX9_print_18 (by decide) (by decide) (fun _ => ?_) (fun q => absurd q (by decide))
    refine no (fun q => c2 ?_)
    rcases q.2 with q | q | q
    · rw [q]; exact ⟨by decide, by decide⟩
    · rw [q]; exact ⟨by decide, by decide⟩
    · rw [q.1]; exact ⟨by decide, by decide⟩
end REFN
