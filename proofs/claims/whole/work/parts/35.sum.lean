/-! Desk: addUp, weigh, sameLevel -/
/-- the worth of the members among the first shares, as the desk adds it up -/
def su (P : Nat → Nat → Nat) (fu fd : Nat → Nat) (mem : Nat) : Nat → Nat × Nat
  | 0 => (0, 1)
  | k + 1 => if mem / 2 ^ k % 2 = 1 then ((su P fu fd mem k).1 * (fd k / Nat.gcd (pw P k) (fd k)) + pw P k / Nat.gcd (pw P k) (fd k) * fu k * (su P fu fd mem k).2, (su P fu fd mem k).2 * (fd k / Nat.gcd (pw P k) (fd k))) else su P fu fd mem k
/-- factors within their bounds -/
def f_ok (fu fd : Nat → Nat) : Prop := ∀ s, s < 8 → (0 < fu s ∧ fu s < 2 ^ 63) ∧ 0 < fd s ∧ fd s < 2 ^ 63
theorem su_b {P : Nat → Nat → Nat} {fu fd : Nat → Nat} {mem : Nat} (hP : P_ok P) (hf : f_ok fu fd) : ∀ k, k ≤ 8 → (su P fu fd mem k).2 ≤ 2 ^ (63 * k) ∧ (su P fu fd mem k).1 ≤ k * 2 ^ (63 * k + 63)
  | 0, _ => ⟨by show 1 ≤ 2 ^ (63 * 0); decide, Nat.zero_le _⟩
  | k + 1, hk => by
    obtain ⟨h1, h2⟩ := su_b (mem := mem) hP hf k (by omega)
    obtain ⟨⟨f1, f2⟩, f3, f4⟩ := hf k (by omega)
    obtain ⟨p1, p2⟩ := pw_b hP (show k < 8 by omega)
    unfold su
    have e1 : 2 ^ (63 * (k + 1)) = 2 ^ (63 * k) * 2 ^ 63 := by rw [← Nat.pow_add]; congr 1
    have e2 : 2 ^ (63 * (k + 1) + 63) = 2 ^ (63 * k + 63) * 2 ^ 63 := by rw [← Nat.pow_add]; congr 1
    have e3 : 2 ^ (63 * k + 63) = 2 ^ (63 * k) * 2 ^ 63 := by rw [← Nat.pow_add]
    split
    · have g1 : fd k / Nat.gcd (pw P k) (fd k) ≤ 2 ^ 63 := Nat.le_trans (Nat.div_le_self _ _) (by omega)
      have g2 : pw P k / Nat.gcd (pw P k) (fd k) ≤ 2 ^ 54 := Nat.le_trans (Nat.div_le_self _ _) (by omega)
      refine ⟨?_, ?_⟩
      · rw [e1]; exact Nat.mul_le_mul h1 g1
      · have t1 := Nat.mul_le_mul h2 g1
        have t2 : pw P k / Nat.gcd (pw P k) (fd k) * fu k * (su P fu fd mem k).2 ≤ 2 ^ 54 * 2 ^ 63 * 2 ^ (63 * k) := Nat.mul_le_mul (Nat.mul_le_mul g2 (by omega)) h1
        have t3 : (k + 1) * 2 ^ (63 * (k + 1) + 63) = k * 2 ^ (63 * k + 63) * 2 ^ 63 + 2 ^ (63 * k) * 2 ^ 63 * 2 ^ 63 := by
          rw [e2, Nat.add_mul, Nat.one_mul, Nat.mul_assoc, e3]
        have t4 : 2 ^ 54 * 2 ^ 63 * 2 ^ (63 * k) ≤ 2 ^ (63 * k) * 2 ^ 63 * 2 ^ 63 := by
          rw [Nat.mul_comm, Nat.mul_assoc]
          exact Nat.mul_le_mul_left _ (by decide)
        rw [t3]
        exact Nat.add_le_add t1 (Nat.le_trans t2 t4)
    · refine ⟨?_, ?_⟩
      · rw [e1]; exact Nat.le_trans h1 (Nat.le_mul_of_pos_right _ (by decide))
      · rw [e2]
        refine Nat.le_trans h2 ?_
        exact Nat.mul_le_mul (by omega) (Nat.le_mul_of_pos_right _ (by decide))
theorem su_b8 {P : Nat → Nat → Nat} {fu fd : Nat → Nat} {mem : Nat} (hP : P_ok P) (hf : f_ok fu fd) {k : Nat} (hk : k ≤ 8) : (su P fu fd mem k).1 < 2 ^ 571 ∧ (su P fu fd mem k).2 < 2 ^ 505 := by
  obtain ⟨h1, h2⟩ := su_b (mem := mem) hP hf k hk
  constructor
  · have h3 : k * 2 ^ (63 * k + 63) ≤ 8 * 2 ^ 567 := Nat.mul_le_mul hk (Nat.pow_le_pow_right (by decide) (by omega))
    have h4 : (2 : Nat) ^ 571 = 16 * 2 ^ 567 := by rw [show (16 : Nat) = 2 ^ 4 by decide, ← Nat.pow_add]
    have h5 : 0 < (2 : Nat) ^ 567 := Nat.pow_pos (by decide)
    omega
  · have h3 : 2 ^ (63 * k) ≤ 2 ^ 504 := Nat.pow_le_pow_right (by decide) (by omega)
    have h4 : (2 : Nat) ^ 505 = 2 ^ 504 * 2 := Nat.pow_succ ..
    have h5 : 0 < (2 : Nat) ^ 504 := Nat.pow_pos (by decide)
    omega
theorem p2_mul {a b x y : Nat} (ha : a < 2 ^ x) (hb : b < 2 ^ y) : a * b < 2 ^ (x + y) := by
  rw [Nat.pow_add]
  exact Nat.mul_lt_mul'' ha hb
theorem p2_le {a x y : Nat} (hxy : x ≤ y) (ha : a < 2 ^ x) : a < 2 ^ y := Nat.lt_of_lt_of_le ha (Nat.pow_le_pow_right (by decide) hxy)
theorem p2_71 : (1073741824 : Nat) ^ 71 = 2 ^ 2130 := by rw [show (1073741824 : Nat) = 2 ^ 30 by decide, ← Nat.pow_mul]
theorem p2_70 : (1073741824 : Nat) ^ 70 = 2 ^ 2100 := by rw [show (1073741824 : Nat) = 2 ^ 30 by decide, ← Nat.pow_mul]
theorem p2_72 : (1073741824 : Nat) ^ 72 = 2 ^ 2160 := by rw [show (1073741824 : Nat) = 2 ^ 30 by decide, ← Nat.pow_mul]
section SUM
variable {G : ev_G} {w : Nat} {H : ev_H} {D S : Nat} {lay : Nat → Nat × Nat} {val : Nat → Nat} {i j k dd s : Nat} {sa : Nat → Nat} {P : Nat → Nat → Nat} {fu fd : Nat → Nat} {mem : Nat}
theorem fr_wf {h1 : ev_H} {F a b : Nat} (hS : WS H lay val) (hF : H F = some (.inr (2, [.ref a, .ref b]))) (hx : WF lay H h1) : h1 F = some (.inr (2, [.ref a, .ref b])) := by
  rw [hx F (ws_out hS hF (fun fs e => by cases e) (fun f e => by cases e))]; exact hF
theorem l_addUp {K : ev_K} {c z F u : Nat} {H0 : ev_H} {val0 : Nat → Nat} (hd : 5 ≤ dd) (hw : 125 ≤ w) (hP : P_ok P) (hf : f_ok fu fd) (hm : mem < 256) (hu : u + 1 < 20) (hu9 : 9 ≤ u)
    (hK : ∀ h1 v2, DW h1 D lay v2 → v2 u = (su P fu fd mem 8).1 → v2 (u + 1) = (su P fu fd mem 8).2 → (∀ x, 9 ≤ x → x ≠ u → x ≠ u + 1 → v2 x = val0 x) → WF lay H0 h1 → K (.inl none) h1) :
    ∀ k s H val, s + k = 8 → DW H D lay val → SH H S sa P fu fd mem → H F = some (.inr (2, [.ref (lay u).1, .ref (lay (u + 1)).1])) → val u = (su P fu fd mem s).1 → val (u + 1) = (su P fu fd mem s).2 → (∀ x, 9 ≤ x → x ≠ u → x ≠ u + 1 → val x = val0 x) → WF lay H0 H → ev_J G (ev_cc G dd w) w m_X1_addUp K (8, ev_lf [(0, .ref D), (1, .ref S), (2, .ref F), (3, .int (nI s))], [], H, c, z)
  | 0, s, H, val, e, hW, hS, hF, e1, e2, e3, hw0 => by
    refine ev_iload_n (pc := 8) dX1_addUp_8 rfl ?_
    refine ev_bipush (pc := 9) (v := nI 8) dX1_addUp_9 (by decide) ?_
    refine ev_icmp_geN (pc := 11) (tgt := 50) dX1_addUp_11 (by decide) (by omega) (by omega) (fun c1 => ?_) (fun c1 => ?_)
    · have : s = 8 := by omega
      subst this
      exact ev_vret (pc := 50) dX1_addUp_50 rfl (hK H val hW e1 e2 e3 hw0)
    · omega
  | k + 1, s, H, val, e, hW, hS, hF, e1, e2, e3, hw0 => by
    obtain ⟨⟨f1, f2⟩, f3, f4⟩ := hf s (by omega)
    obtain ⟨p1, p2⟩ := pw_b hP (show s < 8 by omega)
    obtain ⟨b1, b2⟩ := su_b8 (mem := mem) hP hf (show s ≤ 8 by omega)
    refine ev_iload_n (pc := 8) dX1_addUp_8 rfl ?_
    refine ev_bipush (pc := 9) (v := nI 8) dX1_addUp_9 (by decide) ?_
    refine ev_icmp_geN (pc := 11) (tgt := 50) dX1_addUp_11 (by decide) (by omega) (by omega) (fun c1 => ?_) (fun c1 => ?_)
    · omega
    · refine ev_aload_n (pc := 14) dX1_addUp_14 rfl ?_
      refine ev_iload_n (pc := 15) dX1_addUp_15 rfl ?_
      refine ev_callV (pc := 16) (As := [.int (nI s)]) dX1_addUp_16 cv_X1_122 rfl rfl hS.1 rfl ⟨by show 19 + 2 ≤ w; omega, show ev_Ca _ _ (w - 21) _ _ _ _ _ _ from k_isMember (by omega) hS hm (by omega)⟩ rfl rfl (fun r h1 hp => ?_)
      obtain ⟨rfl, hH⟩ := hp
      rw [hH]
      clear hH h1
      have hbit : mem / 2 ^ s % 2 < 2 := Nat.mod_lt _ (by decide)
      refine ev_if_eqN (pc := 19) (tgt := 44) dX1_addUp_19 (by decide) (by omega) (fun c2 => ?_) (fun c2 => ?_)
      · refine ev_iincN (pc := 44) dX1_addUp_44 rfl rfl ?_
        refine ev_goto (pc := 47) (tgt := 8) dX1_addUp_47 (by decide) ?_
        refine ev_vs [(0, .ref D), (1, .ref S), (2, .ref F), (3, .int (nI (s + 1)))] ⟨rfl, rfl, rfl, rfl, trivial⟩ ?_
        have es : su P fu fd mem (s + 1) = su P fu fd mem s := by
          show (if _ then _ else _) = _
          rw [if_neg (by omega)]
        exact l_addUp hd hw hP hf hm hu hu9 hK k (s + 1) H val (by omega) hW hS hF (by rw [es]; exact e1) (by rw [es]; exact e2) e3 hw0
      · refine ev_aload_n (pc := 22) dX1_addUp_22 rfl ?_
        refine ev_aload_n (pc := 23) dX1_addUp_23 rfl ?_
        refine ev_aload_n (pc := 24) dX1_addUp_24 rfl ?_
        refine ev_iload_n (pc := 25) dX1_addUp_25 rfl ?_
        refine ev_callV (pc := 26) (As := [.int (nI s)]) dX1_addUp_26 cv_X1_126 rfl rfl hS.1 rfl ⟨by show 19 + 2 ≤ w; omega, show ev_Ca _ _ (w - 21) _ _ _ _ _ _ from k_plainWorth (by omega) hS hP (by omega)⟩ rfl rfl (fun r h1 hp => ?_)
        obtain ⟨rfl, hH⟩ := hp
        rw [hH]
        clear hH h1
        refine ev_aload_n (pc := 29) dX1_addUp_29 rfl ?_
        refine ev_getf (pc := 30) dX1_addUp_30 f_X1_130 hS.1 rfl ?_
        refine ev_iload_n (pc := 33) dX1_addUp_33 rfl ?_
        refine ev_laN (pc := 34) dX1_addUp_34 hS.2.2.2.1 (by omega) (by omega) ?_
        refine ev_aload_n (pc := 35) dX1_addUp_35 rfl ?_
        refine ev_getf (pc := 36) dX1_addUp_36 f_X1_134 hS.1 rfl ?_
        refine ev_iload_n (pc := 39) dX1_addUp_39 rfl ?_
        refine ev_laN (pc := 40) dX1_addUp_40 hS.2.2.2.2 (by omega) (by omega) ?_
        refine ev_callV (pc := 41) (As := [.ref F, .long (lN (pw P s)), .long (lN (fu s)), .long (lN (fd s))]) dX1_addUp_41 cv_X1_137 rfl rfl hW.2.2 rfl ⟨by show 19 + 12 ≤ w; omega, show ev_Ca _ _ (w - 31) _ _ _ _ _ _ from k_addTo (by omega) (by omega) hW hF hu hu9 (by omega) f2 f4 f3 (by omega) (by rw [e1]; exact p2_le (by decide) b1) (by rw [e2]; exact p2_le (by decide) b2)⟩ rfl rfl (fun r h1 hp => ?_)
        obtain ⟨rfl, v2, hB, ⟨q1, q2, q3⟩, hF2⟩ := hp
        refine ev_iincN (pc := 44) dX1_addUp_44 rfl rfl ?_
        refine ev_goto (pc := 47) (tgt := 8) dX1_addUp_47 (by decide) ?_
        refine ev_vs [(0, .ref D), (1, .ref S), (2, .ref F), (3, .int (nI (s + 1)))] ⟨rfl, rfl, rfl, rfl, trivial⟩ ?_
        have es : su P fu fd mem (s + 1) = ((su P fu fd mem s).1 * (fd s / Nat.gcd (pw P s) (fd s)) + pw P s / Nat.gcd (pw P s) (fd s) * fu s * (su P fu fd mem s).2, (su P fu fd mem s).2 * (fd s / Nat.gcd (pw P s) (fd s))) := by
          show (if _ then _ else _) = _
          rw [if_pos (by omega)]
        exact l_addUp hd hw hP hf hm hu hu9 hK k (s + 1) _ v2 (by omega) hB (sh_wf hW.2.1 hF2 hS) (fr_wf hW.2.1 hF hF2) (by rw [es, q1, e1, e2]) (by rw [es, q2, e2]) (fun x a b d => by rw [q3 x a b d]; exact e3 x a b d) (hw0.tr hF2)
theorem k_addUp {F u : Nat} (hd : 6 ≤ dd) (hw : 125 ≤ w) (h : DW H D lay val) (hS : SH H S sa P fu fd mem) (hP : P_ok P) (hf : f_ok fu fd) (hm : mem < 256) (hF : H F = some (.inr (2, [.ref (lay u).1, .ref (lay (u + 1)).1]))) (hu : u + 1 < 20) (hu9 : 9 ≤ u) : ev_Ca G dd w m_X1_addUp [.ref D, .ref S, .ref F] H 0 0 (ev_ok (fun r h1 => r = none ∧ dpost H D lay val (fun v2 => v2 u = (su P fu fd mem 8).1 ∧ v2 (u + 1) = (su P fu fd mem 8).2 ∧ ∀ x, 9 ≤ x → x ≠ u → x ≠ u + 1 → v2 x = val x) h1)) := by
  obtain ⟨dd, rfl⟩ : ∃ e, dd = e + 1 := ⟨dd - 1, by omega⟩
  refine ⟨by decide +kernel, rfl, ?_⟩
  refine ev_aload_n (pc := 0) dX1_addUp_0 rfl ?_
  refine ev_lconst (pc := 1) (v := lN 0) dX1_addUp_1 (by decide) ?_
  refine ev_lconst (pc := 2) (v := lN 1) dX1_addUp_2 (by decide) ?_
  refine ev_callV (pc := 3) (As := [.long (lN 0), .long (lN 1)]) dX1_addUp_3 cv_X1_115 rfl rfl hF rfl ⟨by show 19 + 5 ≤ w; omega, show ev_Ca _ _ (w - 24) _ _ _ _ _ _ from k_fbecome (by omega) (by omega) h hF hu (by decide) (by decide)⟩ rfl rfl (fun r h1 hp => ?_)
  obtain ⟨rfl, v2, hA, ⟨q1, q2, q3⟩, hF1⟩ := hp
  refine ev_iconst (pc := 6) (v := nI 0) dX1_addUp_6 (by decide) ?_
  refine ev_istore_n (pc := 7) dX1_addUp_7 rfl ?_
  refine ev_vs [(0, .ref D), (1, .ref S), (2, .ref F), (3, .int (nI 0))] ⟨rfl, rfl, rfl, rfl, trivial⟩ ?_
  exact l_addUp (val0 := val) (H0 := H) (by omega) hw hP hf hm hu hu9 (fun h1 v2 a b c d e => ⟨rfl, v2, a, ⟨b, c, d⟩, e⟩) 8 0 _ v2 (by omega) hA (sh_wf h.2.1 hF1 hS) (fr_wf h.2.1 hF hF1) q1 q2 (fun x _ b c => q3 x b c) hF1
theorem k_weigh {F u t t2 : Nat} (hd : 5 ≤ dd) (hw : 94 ≤ w) (h : DW H D lay val) (hS : SH H S sa P fu fd mem) (hP : P_ok P) (hf : f_ok fu fd) (hs : s < 8) (hF : H F = some (.inr (2, [.ref (lay u).1, .ref (lay (u + 1)).1]))) (hu : u + 1 < 20) (hu9 : 9 ≤ u) (ht : t < 2 ^ 31) (ht2 : t2 < 2 ^ 31) (hv1 : val u < 2 ^ 600) (hv2 : val (u + 1) < 2 ^ 600) : ev_Ca G dd w m_X1_weigh [.ref D, .ref S, .int (nI s), .int (nI t), .ref F, .int (nI t2)] H 0 0 (ev_ok (fun r h1 => r = none ∧ dpost H D lay val (fun v2 => v2 1 = val (u + 1) * pw P s * fu s * t ∧ v2 2 = val u * fd s * t2 ∧ ∀ x, 9 ≤ x → v2 x = val x) h1)) := by
  obtain ⟨dd, rfl⟩ : ∃ e, dd = e + 1 := ⟨dd - 1, by omega⟩
  refine ⟨by decide +kernel, rfl, ?_⟩
  obtain ⟨⟨f1, f2⟩, f3, f4⟩ := hf s hs
  obtain ⟨p1, p2⟩ := pw_b hP hs
  have m1 : val (u + 1) * pw P s < 2 ^ 654 := p2_mul (x := 600) (y := 54) hv2 (by omega)
  have m2 : val (u + 1) * pw P s * fu s < 2 ^ 717 := p2_mul (x := 654) (y := 63) m1 f2
  have m3 : val (u + 1) * pw P s * fu s * t < 2 ^ 748 := p2_mul (x := 717) (y := 31) m2 ht
  have m4 : val u * fd s < 2 ^ 663 := p2_mul (x := 600) (y := 63) hv1 f4
  have m5 : val u * fd s * t2 < 2 ^ 694 := p2_mul (x := 663) (y := 31) m4 ht2
  refine ev_aload_n (pc := 0) dX1_weigh_0 rfl ?_
  refine ev_getf (pc := 1) dX1_weigh_1 f_X1_16 h.2.2 rfl ?_
  refine ev_aload (pc := 4) dX1_weigh_4 rfl ?_
  refine ev_getf (pc := 6) dX1_weigh_6 f_X1_150 hF rfl ?_
  refine ev_callVe (pc := 9) (As := [.ref (lay (u + 1)).1]) dX1_weigh_9 cv_X1_44 rfl rfl (wi_o (h.2.1 1 (by decide))) rfl ⟨by show 19 + 2 ≤ w; omega, show ev_Ca _ _ (w - 21) _ _ _ _ _ _ from t_copy (i := 1) (j := u + 1) (by omega) (by omega) h (by decide) hu (by omega)⟩ rfl rfl (fun r h1 hp => ?_)
  obtain ⟨rfl, hA, hF1⟩ := hp
  have sA := sh_wf h.2.1 hF1 hS
  obtain ⟨vA, hvA⟩ : ∃ v, v = va_up val 1 (val (u + 1)) := ⟨_, rfl⟩
  rw [← hvA] at hA
  have a1 : vA 1 = val (u + 1) := by rw [hvA, va_up_self]
  have ax : ∀ x, 9 ≤ x → vA x = val x := fun x hx => by rw [hvA, va_up_ne _ _ (by omega)]
  refine ev_aload_n (pc := 12) dX1_weigh_12 rfl ?_
  refine ev_aload_n (pc := 13) dX1_weigh_13 rfl ?_
  refine ev_getf (pc := 14) dX1_weigh_14 f_X1_16 hA.2.2 rfl ?_
  refine ev_aload_n (pc := 17) dX1_weigh_17 rfl ?_
  refine ev_iload_n (pc := 18) dX1_weigh_18 rfl ?_
  refine ev_callV (pc := 19) (As := [.int (nI s)]) dX1_weigh_19 cv_X1_126 rfl rfl sA.1 rfl ⟨by show 19 + 2 ≤ w; omega, show ev_Ca _ _ (w - 21) _ _ _ _ _ _ from k_plainWorth (by omega) sA hP hs⟩ rfl rfl (fun r h1 hp => ?_)
  obtain ⟨rfl, hH⟩ := hp
  rw [hH]
  clear hH
  refine ev_callV (pc := 22) (As := [.ref (lay 1).1, .long (lN (pw P s))]) dX1_weigh_22 cv_X1_146 rfl rfl hA.2.2 rfl ⟨by show 19 + 4 ≤ w; omega, show ev_Ca _ _ (w - 23) _ _ _ _ _ _ from k_scale (i := 1) (by omega) (by omega) hA (by decide) (by decide) (by decide) (by omega) (by rw [a1, p2_71]; exact p2_le (by decide) m1)⟩ rfl rfl (fun r h1 hp => ?_)
  obtain ⟨rfl, vB, hB, ⟨q1, q2⟩, hF2⟩ := hp
  rw [a1] at q1
  have sB := sh_wf hA.2.1 hF2 sA
  refine ev_aload_n (pc := 25) dX1_weigh_25 rfl ?_
  refine ev_aload_n (pc := 26) dX1_weigh_26 rfl ?_
  refine ev_getf (pc := 27) dX1_weigh_27 f_X1_16 hB.2.2 rfl ?_
  refine ev_aload_n (pc := 30) dX1_weigh_30 rfl ?_
  refine ev_getf (pc := 31) dX1_weigh_31 f_X1_130 sB.1 rfl ?_
  refine ev_iload_n (pc := 34) dX1_weigh_34 rfl ?_
  refine ev_laN (pc := 35) dX1_weigh_35 sB.2.2.2.1 (by omega) (by omega) ?_
  refine ev_callV (pc := 36) (As := [.ref (lay 1).1, .long (lN (fu s))]) dX1_weigh_36 cv_X1_146 rfl rfl hB.2.2 rfl ⟨by show 19 + 4 ≤ w; omega, show ev_Ca _ _ (w - 23) _ _ _ _ _ _ from k_scale (i := 1) (by omega) (by omega) hB (by decide) (by decide) (by decide) f2 (by rw [q1, p2_71]; exact p2_le (by decide) m2)⟩ rfl rfl (fun r h1 hp => ?_)
  obtain ⟨rfl, vC, hC, ⟨r1, r2⟩, hF3⟩ := hp
  rw [q1] at r1
  have sC := sh_wf hB.2.1 hF3 sB
  refine ev_aload_n (pc := 39) dX1_weigh_39 rfl ?_
  refine ev_aload_n (pc := 40) dX1_weigh_40 rfl ?_
  refine ev_getf (pc := 41) dX1_weigh_41 f_X1_16 hC.2.2 rfl ?_
  refine ev_iload_n (pc := 44) dX1_weigh_44 rfl ?_
  refine ev_i2lN (pc := 45) dX1_weigh_45 (by omega) ?_
  refine ev_callV (pc := 46) (As := [.ref (lay 1).1, .long (lN t)]) dX1_weigh_46 cv_X1_146 rfl rfl hC.2.2 rfl ⟨by show 19 + 4 ≤ w; omega, show ev_Ca _ _ (w - 23) _ _ _ _ _ _ from k_scale (i := 1) (by omega) (by omega) hC (by decide) (by decide) (by decide) (by omega) (by rw [r1, p2_71]; exact p2_le (by decide) m3)⟩ rfl rfl (fun r h1 hp => ?_)
  obtain ⟨rfl, vE, hE, ⟨s1, s2⟩, hF4⟩ := hp
  rw [r1] at s1
  have sE := sh_wf hC.2.1 hF4 sC
  have hFF := ((hF1.tr hF2).tr hF3).tr hF4
  have hG := fr_wf h.2.1 hF hFF
  have eu : vE u = val u := by rw [s2 _ (by omega) (by omega) (by omega), r2 _ (by omega) (by omega) (by omega), q2 _ (by omega) (by omega) (by omega), ax _ hu9]
  refine ev_aload_n (pc := 49) dX1_weigh_49 rfl ?_
  refine ev_getf (pc := 50) dX1_weigh_50 f_X1_19 hE.2.2 rfl ?_
  refine ev_aload (pc := 53) dX1_weigh_53 rfl ?_
  refine ev_getf (pc := 55) dX1_weigh_55 f_X1_156 hG rfl ?_
  refine ev_callVe (pc := 58) (As := [.ref (lay u).1]) dX1_weigh_58 cv_X1_44 rfl rfl (wi_o (hE.2.1 2 (by decide))) rfl ⟨by show 19 + 2 ≤ w; omega, show ev_Ca _ _ (w - 21) _ _ _ _ _ _ from t_copy (i := 2) (j := u) (by omega) (by omega) hE (by decide) (by omega) (by omega)⟩ rfl rfl (fun r h1 hp => ?_)
  obtain ⟨rfl, hI, hF5⟩ := hp
  rw [eu] at hI
  obtain ⟨vI, hvI⟩ : ∃ v, v = va_up vE 2 (val u) := ⟨_, rfl⟩
  rw [← hvI] at hI
  have i2 : vI 2 = val u := by rw [hvI, va_up_self]
  have sI := sh_wf hE.2.1 hF5 sE
  refine ev_aload_n (pc := 61) dX1_weigh_61 rfl ?_
  refine ev_aload_n (pc := 62) dX1_weigh_62 rfl ?_
  refine ev_getf (pc := 63) dX1_weigh_63 f_X1_19 hI.2.2 rfl ?_
  refine ev_aload_n (pc := 66) dX1_weigh_66 rfl ?_
  refine ev_getf (pc := 67) dX1_weigh_67 f_X1_134 sI.1 rfl ?_
  refine ev_iload_n (pc := 70) dX1_weigh_70 rfl ?_
  refine ev_laN (pc := 71) dX1_weigh_71 sI.2.2.2.2 (by omega) (by omega) ?_
  refine ev_callV (pc := 72) (As := [.ref (lay 2).1, .long (lN (fd s))]) dX1_weigh_72 cv_X1_146 rfl rfl hI.2.2 rfl ⟨by show 19 + 4 ≤ w; omega, show ev_Ca _ _ (w - 23) _ _ _ _ _ _ from k_scale (i := 2) (by omega) (by omega) hI (by decide) (by decide) (by decide) f4 (by rw [i2, p2_71]; exact p2_le (by decide) m4)⟩ rfl rfl (fun r h1 hp => ?_)
  obtain ⟨rfl, vJ, hJ, ⟨t1, t2'⟩, hF6⟩ := hp
  rw [i2] at t1
  refine ev_aload_n (pc := 75) dX1_weigh_75 rfl ?_
  refine ev_aload_n (pc := 76) dX1_weigh_76 rfl ?_
  refine ev_getf (pc := 77) dX1_weigh_77 f_X1_19 hJ.2.2 rfl ?_
  refine ev_iload (pc := 80) dX1_weigh_80 rfl ?_
  refine ev_i2lN (pc := 82) dX1_weigh_82 (by omega) ?_
  refine ev_callV (pc := 83) (As := [.ref (lay 2).1, .long (lN t2)]) dX1_weigh_83 cv_X1_146 rfl rfl hJ.2.2 rfl ⟨by show 19 + 4 ≤ w; omega, show ev_Ca _ _ (w - 23) _ _ _ _ _ _ from k_scale (i := 2) (by omega) (by omega) hJ (by decide) (by decide) (by decide) (by omega) (by rw [t1, p2_71]; exact p2_le (by decide) m5)⟩ rfl rfl (fun r h1 hp => ?_)
  obtain ⟨rfl, vK, hKk, ⟨u1, u2⟩, hF7⟩ := hp
  rw [t1] at u1
  refine ev_vret (pc := 86) dX1_weigh_86 rfl ⟨rfl, vK, hKk, ⟨?_, u1, fun x hx => ?_⟩, ((hFF.tr hF5).tr hF6).tr hF7⟩
  · rw [u2 _ (by decide) (by decide) (by decide), t2' _ (by decide) (by decide) (by decide), hvI, va_up_ne _ _ (by decide), s1]
  · rw [u2 _ (by omega) (by omega) (by omega), t2' _ (by omega) (by omega) (by omega), hvI, va_up_ne _ _ (by omega), s2 _ (by omega) (by omega) (by omega), r2 _ (by omega) (by omega) (by omega), q2 _ (by omega) (by omega) (by omega), ax x hx]
theorem k_sameLevel {F1 F2 F3 F4 a b c d : Nat} (hd : 4 ≤ dd) (hw : 71 ≤ w) (h : DW H D lay val) (h1 : H F1 = some (.inr (2, [.ref (lay a).1, .ref (lay (a + 1)).1]))) (h2 : H F2 = some (.inr (2, [.ref (lay b).1, .ref (lay (b + 1)).1]))) (h3 : H F3 = some (.inr (2, [.ref (lay c).1, .ref (lay (c + 1)).1]))) (h4 : H F4 = some (.inr (2, [.ref (lay d).1, .ref (lay (d + 1)).1]))) (ha : 9 ≤ a ∧ a + 1 < 20) (hb : 9 ≤ b ∧ b + 1 < 20) (hc : 9 ≤ c ∧ c + 1 < 20) (hdd : 9 ≤ d ∧ d + 1 < 20) (va : val a < 2 ^ 571 ∧ val (a + 1) < 2 ^ 505) (vb : val b < 2 ^ 512 ∧ val (b + 1) < 2 ^ 512) (vc : val c < 2 ^ 571 ∧ val (c + 1) < 2 ^ 505) (vd : val d < 2 ^ 512 ∧ val (d + 1) < 2 ^ 512) : ev_Ca G dd w m_X1_sameLevel [.ref D, .ref F1, .ref F2, .ref F3, .ref F4] H 0 0 (ev_ok (fun r h1 => ∃ e : Bool, r = some (.int (nI (if e then 1 else 0))) ∧ (e = true ↔ val a * val (b + 1) * val (c + 1) * val d = val c * val (d + 1) * val (a + 1) * val b) ∧ dpost H D lay val (fun v2 => ∀ x, 9 ≤ x → v2 x = val x) h1)) := by
  obtain ⟨dd, rfl⟩ : ∃ e, dd = e + 1 := ⟨dd - 1, by omega⟩
  refine ⟨by decide +kernel, rfl, ?_⟩
  have l1 : val a * val (b + 1) < 2 ^ 1083 := p2_mul (x := 571) (y := 512) va.1 vb.2
  have l2 : val a * val (b + 1) * val (c + 1) < 2 ^ 1588 := p2_mul (x := 1083) (y := 505) l1 vc.2
  have l3 : val a * val (b + 1) * val (c + 1) * val d < 2 ^ 2100 := p2_mul (x := 1588) (y := 512) l2 vd.1
  have r1 : val c * val (d + 1) < 2 ^ 1083 := p2_mul (x := 571) (y := 512) vc.1 vd.2
  have r2 : val c * val (d + 1) * val (a + 1) < 2 ^ 1588 := p2_mul (x := 1083) (y := 505) r1 va.2
  have r3 : val c * val (d + 1) * val (a + 1) * val b < 2 ^ 2100 := p2_mul (x := 1588) (y := 512) r2 vb.1
  have W1 := fun {x : ev_H} (hx : WF lay H x) => fr_wf h.2.1 h1 hx
  have W2 := fun {x : ev_H} (hx : WF lay H x) => fr_wf h.2.1 h2 hx
  have W3 := fun {x : ev_H} (hx : WF lay H x) => fr_wf h.2.1 h3 hx
  have W4 := fun {x : ev_H} (hx : WF lay H x) => fr_wf h.2.1 h4 hx
  refine ev_aload_n (pc := 0) dX1_sameLevel_0 rfl ?_
  refine ev_getf (pc := 1) dX1_sameLevel_1 f_X1_16 h.2.2 rfl ?_
  refine ev_aload_n (pc := 4) dX1_sameLevel_4 rfl ?_
  refine ev_getf (pc := 5) dX1_sameLevel_5 f_X1_156 h1 rfl ?_
  refine ev_callVe (pc := 8) (As := [.ref (lay a).1]) dX1_sameLevel_8 cv_X1_44 rfl rfl (wi_o (h.2.1 1 (by decide))) rfl ⟨by show 19 + 2 ≤ w; omega, show ev_Ca _ _ (w - 21) _ _ _ _ _ _ from t_copy (i := 1) (j := a) (by omega) (by omega) h (by decide) (by omega) (by omega)⟩ rfl rfl (fun r h1 hp => ?_)
  obtain ⟨rfl, A1, G1⟩ := hp
  obtain ⟨v1, hv1⟩ : ∃ v, v = va_up val 1 (val a) := ⟨_, rfl⟩
  rw [← hv1] at A1
  have x1 : v1 1 = val a := by rw [hv1, va_up_self]
  have y1 : ∀ x, 9 ≤ x → v1 x = val x := fun x hx => by rw [hv1, va_up_ne _ _ (by omega)]
  refine ev_aload_n (pc := 11) dX1_sameLevel_11 rfl ?_
  refine ev_aload_n (pc := 12) dX1_sameLevel_12 rfl ?_
  refine ev_getf (pc := 13) dX1_sameLevel_13 f_X1_16 A1.2.2 rfl ?_
  refine ev_aload_n (pc := 16) dX1_sameLevel_16 rfl ?_
  refine ev_getf (pc := 17) dX1_sameLevel_17 f_X1_150 (W2 G1) rfl ?_
  refine ev_callV (pc := 20) (As := [.ref (lay 1).1, .ref (lay (b + 1)).1]) dX1_sameLevel_20 cv_X1_153 rfl rfl A1.2.2 rfl ⟨by show 19 + 3 ≤ w; omega, show ev_Ca _ _ (w - 22) _ _ _ _ _ _ from k_multiply (i := 1) (j := b + 1) (by omega) (by omega) A1 (by decide) (by omega) (by decide) (by omega) (by rw [x1, y1 _ (by omega), p2_71]; exact p2_le (by decide) l1)⟩ rfl rfl (fun r h1 hp => ?_)
  obtain ⟨rfl, v2, A2, ⟨q1, q2⟩, G2⟩ := hp
  rw [x1, y1 _ (by omega)] at q1
  have y2 : ∀ x, 9 ≤ x → v2 x = val x := fun x hx => by rw [q2 _ (by omega) (by omega), y1 x hx]
  refine ev_aload_n (pc := 23) dX1_sameLevel_23 rfl ?_
  refine ev_aload_n (pc := 24) dX1_sameLevel_24 rfl ?_
  refine ev_getf (pc := 25) dX1_sameLevel_25 f_X1_16 A2.2.2 rfl ?_
  refine ev_aload_n (pc := 28) dX1_sameLevel_28 rfl ?_
  refine ev_getf (pc := 29) dX1_sameLevel_29 f_X1_150 (W3 (G1.tr G2)) rfl ?_
  refine ev_callV (pc := 32) (As := [.ref (lay 1).1, .ref (lay (c + 1)).1]) dX1_sameLevel_32 cv_X1_153 rfl rfl A2.2.2 rfl ⟨by show 19 + 3 ≤ w; omega, show ev_Ca _ _ (w - 22) _ _ _ _ _ _ from k_multiply (i := 1) (j := c + 1) (by omega) (by omega) A2 (by decide) (by omega) (by decide) (by omega) (by rw [q1, y2 _ (by omega), p2_71]; exact p2_le (by decide) l2)⟩ rfl rfl (fun r h1 hp => ?_)
  obtain ⟨rfl, v3, A3, ⟨s1, s2⟩, G3⟩ := hp
  rw [q1, y2 _ (by omega)] at s1
  have y3 : ∀ x, 9 ≤ x → v3 x = val x := fun x hx => by rw [s2 _ (by omega) (by omega), y2 x hx]
  have K3 := (G1.tr G2).tr G3
  refine ev_aload_n (pc := 35) dX1_sameLevel_35 rfl ?_
  refine ev_aload_n (pc := 36) dX1_sameLevel_36 rfl ?_
  refine ev_getf (pc := 37) dX1_sameLevel_37 f_X1_16 A3.2.2 rfl ?_
  refine ev_aload (pc := 40) dX1_sameLevel_40 rfl ?_
  refine ev_getf (pc := 42) dX1_sameLevel_42 f_X1_156 (W4 K3) rfl ?_
  refine ev_callV (pc := 45) (As := [.ref (lay 1).1, .ref (lay d).1]) dX1_sameLevel_45 cv_X1_153 rfl rfl A3.2.2 rfl ⟨by show 19 + 3 ≤ w; omega, show ev_Ca _ _ (w - 22) _ _ _ _ _ _ from k_multiply (i := 1) (j := d) (by omega) (by omega) A3 (by decide) (by omega) (by decide) (by omega) (by rw [s1, y3 _ (by omega), p2_71]; exact p2_le (by decide) l3)⟩ rfl rfl (fun r h1 hp => ?_)
  obtain ⟨rfl, v4, A4, ⟨t1, t2⟩, G4⟩ := hp
  rw [s1, y3 _ (by omega)] at t1
  have y4 : ∀ x, 9 ≤ x → v4 x = val x := fun x hx => by rw [t2 _ (by omega) (by omega), y3 x hx]
  have K4 := K3.tr G4
  refine ev_aload_n (pc := 48) dX1_sameLevel_48 rfl ?_
  refine ev_getf (pc := 49) dX1_sameLevel_49 f_X1_19 A4.2.2 rfl ?_
  refine ev_aload_n (pc := 52) dX1_sameLevel_52 rfl ?_
  refine ev_getf (pc := 53) dX1_sameLevel_53 f_X1_156 (W3 K4) rfl ?_
  refine ev_callVe (pc := 56) (As := [.ref (lay c).1]) dX1_sameLevel_56 cv_X1_44 rfl rfl (wi_o (A4.2.1 2 (by decide))) rfl ⟨by show 19 + 2 ≤ w; omega, show ev_Ca _ _ (w - 21) _ _ _ _ _ _ from t_copy (i := 2) (j := c) (by omega) (by omega) A4 (by decide) (by omega) (by omega)⟩ rfl rfl (fun r h1 hp => ?_)
  obtain ⟨rfl, A5, G5⟩ := hp
  rw [y4 _ (by omega)] at A5
  obtain ⟨v5, hv5⟩ : ∃ v, v = va_up v4 2 (val c) := ⟨_, rfl⟩
  rw [← hv5] at A5
  have x5 : v5 2 = val c := by rw [hv5, va_up_self]
  have z5 : v5 1 = val a * val (b + 1) * val (c + 1) * val d := by rw [hv5, va_up_ne _ _ (by decide), t1]
  have y5 : ∀ x, 9 ≤ x → v5 x = val x := fun x hx => by rw [hv5, va_up_ne _ _ (by omega), y4 x hx]
  have K5 := K4.tr G5
  refine ev_aload_n (pc := 59) dX1_sameLevel_59 rfl ?_
  refine ev_aload_n (pc := 60) dX1_sameLevel_60 rfl ?_
  refine ev_getf (pc := 61) dX1_sameLevel_61 f_X1_19 A5.2.2 rfl ?_
  refine ev_aload (pc := 64) dX1_sameLevel_64 rfl ?_
  refine ev_getf (pc := 66) dX1_sameLevel_66 f_X1_150 (W4 K5) rfl ?_
  refine ev_callV (pc := 69) (As := [.ref (lay 2).1, .ref (lay (d + 1)).1]) dX1_sameLevel_69 cv_X1_153 rfl rfl A5.2.2 rfl ⟨by show 19 + 3 ≤ w; omega, show ev_Ca _ _ (w - 22) _ _ _ _ _ _ from k_multiply (i := 2) (j := d + 1) (by omega) (by omega) A5 (by decide) (by omega) (by decide) (by omega) (by rw [x5, y5 _ (by omega), p2_71]; exact p2_le (by decide) r1)⟩ rfl rfl (fun r h1 hp => ?_)
  obtain ⟨rfl, v6, A6, ⟨u1, u2⟩, G6⟩ := hp
  rw [x5, y5 _ (by omega)] at u1
  have y6 : ∀ x, 9 ≤ x → v6 x = val x := fun x hx => by rw [u2 _ (by omega) (by omega), y5 x hx]
  have K6 := K5.tr G6
  refine ev_aload_n (pc := 72) dX1_sameLevel_72 rfl ?_
  refine ev_aload_n (pc := 73) dX1_sameLevel_73 rfl ?_
  refine ev_getf (pc := 74) dX1_sameLevel_74 f_X1_19 A6.2.2 rfl ?_
  refine ev_aload_n (pc := 77) dX1_sameLevel_77 rfl ?_
  refine ev_getf (pc := 78) dX1_sameLevel_78 f_X1_150 (W1 K6) rfl ?_
  refine ev_callV (pc := 81) (As := [.ref (lay 2).1, .ref (lay (a + 1)).1]) dX1_sameLevel_81 cv_X1_153 rfl rfl A6.2.2 rfl ⟨by show 19 + 3 ≤ w; omega, show ev_Ca _ _ (w - 22) _ _ _ _ _ _ from k_multiply (i := 2) (j := a + 1) (by omega) (by omega) A6 (by decide) (by omega) (by decide) (by omega) (by rw [u1, y6 _ (by omega), p2_71]; exact p2_le (by decide) r2)⟩ rfl rfl (fun r h1 hp => ?_)
  obtain ⟨rfl, v7, A7, ⟨w1, w2⟩, G7⟩ := hp
  rw [u1, y6 _ (by omega)] at w1
  have y7 : ∀ x, 9 ≤ x → v7 x = val x := fun x hx => by rw [w2 _ (by omega) (by omega), y6 x hx]
  have K7 := K6.tr G7
  refine ev_aload_n (pc := 84) dX1_sameLevel_84 rfl ?_
  refine ev_aload_n (pc := 85) dX1_sameLevel_85 rfl ?_
  refine ev_getf (pc := 86) dX1_sameLevel_86 f_X1_19 A7.2.2 rfl ?_
  refine ev_aload_n (pc := 89) dX1_sameLevel_89 rfl ?_
  refine ev_getf (pc := 90) dX1_sameLevel_90 f_X1_156 (W2 K7) rfl ?_
  refine ev_callV (pc := 93) (As := [.ref (lay 2).1, .ref (lay b).1]) dX1_sameLevel_93 cv_X1_153 rfl rfl A7.2.2 rfl ⟨by show 19 + 3 ≤ w; omega, show ev_Ca _ _ (w - 22) _ _ _ _ _ _ from k_multiply (i := 2) (j := b) (by omega) (by omega) A7 (by decide) (by omega) (by decide) (by omega) (by rw [w1, y7 _ (by omega), p2_71]; exact p2_le (by decide) r3)⟩ rfl rfl (fun r h1 hp => ?_)
  obtain ⟨rfl, v8, A8, ⟨z1, z2⟩, G8⟩ := hp
  rw [w1, y7 _ (by omega)] at z1
  have y8 : ∀ x, 9 ≤ x → v8 x = val x := fun x hx => by rw [z2 _ (by omega) (by omega), y7 x hx]
  have z8 : v8 1 = val a * val (b + 1) * val (c + 1) * val d := by rw [z2 _ (by decide) (by decide), w2 _ (by decide) (by decide), u2 _ (by decide) (by decide), z5]
  have K8 := K7.tr G8
  refine ev_aload_n (pc := 96) dX1_sameLevel_96 rfl ?_
  refine ev_getf (pc := 97) dX1_sameLevel_97 f_X1_16 A8.2.2 rfl ?_
  refine ev_aload_n (pc := 100) dX1_sameLevel_100 rfl ?_
  refine ev_getf (pc := 101) dX1_sameLevel_101 f_X1_19 A8.2.2 rfl ?_
  refine ev_callVe (pc := 104) (As := [.ref (lay 2).1]) dX1_sameLevel_104 cv_X1_56 rfl rfl (wi_o (A8.2.1 1 (by decide))) rfl ⟨by show 19 + 3 ≤ w; omega, show ev_Ca _ _ (w - 22) _ _ _ _ _ _ from t_compareWith (i := 1) (j := 2) (by omega) (by omega) A8 (by decide) (by decide) (by decide)⟩ rfl rfl (fun r h1 hp => ?_)
  obtain ⟨rfl, hH⟩ := hp
  rw [hH, z8, z1]
  clear hH
  generalize val a * val (b + 1) * val (c + 1) * val d = X at *
  generalize val c * val (d + 1) * val (a + 1) * val b = Y at *
  by_cases e : X = Y
  · have e2 : mi_cmp X Y = nI 0 := by unfold mi_cmp; rw [if_neg (by omega), if_pos e]; rfl
    rw [e2]
    refine ev_if_neN (pc := 107) (tgt := 114) dX1_sameLevel_107 (by decide) (by decide) (fun c2 => absurd c2 (by decide)) (fun _ => ?_)
    refine ev_iconst (pc := 110) (v := nI 1) dX1_sameLevel_110 (by decide) ?_
    refine ev_goto (pc := 111) (tgt := 115) dX1_sameLevel_111 (by decide) ?_
    exact ev_iret (pc := 115) dX1_sameLevel_115 rfl rfl ⟨true, rfl, ⟨fun _ => e, fun _ => rfl⟩, v8, A8, y8, K8⟩
  · have e2 : ¬ mi_cmp X Y = 0 := by
      unfold mi_cmp
      by_cases l : X < Y
      · rw [if_pos l]; decide
      · rw [if_neg l, if_neg e]; decide
    refine ev_if_ne (pc := 107) (tgt := 114) dX1_sameLevel_107 (by decide) (fun _ => ?_) (fun c2 => absurd c2 e2)
    refine ev_iconst (pc := 114) (v := nI 0) dX1_sameLevel_114 (by decide) ?_
    exact ev_iret (pc := 115) dX1_sameLevel_115 rfl rfl ⟨false, rfl, ⟨fun x => (Bool.noConfusion x), fun x => absurd x e⟩, v8, A8, y8, K8⟩
end SUM
