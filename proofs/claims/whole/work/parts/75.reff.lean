/-! THE REFERENCE: sum -/
theorem p2_139 : (1073741824 : Nat) ^ 139 = 2 ^ 4170 := by rw [show (1073741824 : Nat) = 2 ^ 30 by decide, ← Nat.pow_mul]
theorem gd_cross {x y : Nat} : x / Nat.gcd x y * y = y / Nat.gcd x y * x := by
  have e1 := Nat.div_mul_cancel (Nat.gcd_dvd_left x y)
  have e2 := Nat.div_mul_cancel (Nat.gcd_dvd_right x y)
  generalize x / Nat.gcd x y = a at *
  generalize y / Nat.gcd x y = b at *
  generalize Nat.gcd x y = g at *
  rw [← e1, ← e2]
  ac_rfl
/-- two fractions that are equal, brought to least terms -/
theorem gd_uni {n d x y : Nat} (hn : 0 < n) (hx : 0 < x) (e : n * y = d * x) : n / Nat.gcd n d = x / Nat.gcd x y ∧ d / Nat.gcd n d = y / Nat.gcd x y := by
  have g0 : 0 < Nat.gcd n d := Nat.gcd_pos_of_pos_left _ hn
  refine red_u (Nat.coprime_div_gcd_div_gcd g0) hx ?_
  have c := gd_cross (x := n) (y := d)
  have e1 := Nat.div_mul_cancel (Nat.gcd_dvd_left n d)
  have e2 := Nat.div_mul_cancel (Nat.gcd_dvd_right n d)
  generalize n / Nat.gcd n d = a at *
  generalize d / Nat.gcd n d = b at *
  generalize Nat.gcd n d = g at *
  subst e1 e2
  apply Nat.eq_of_mul_eq_mul_right g0
  calc a * y * g = a * g * y := by ac_rfl
    _ = b * g * x := e
    _ = b * x * g := by ac_rfl
def sm (W : Nat × Nat) (a b : Nat) : Prop := (W.1 = 0 ∧ a = 0 ∧ b = 1) ∨ (0 < W.1 ∧ a = W.1 / Nat.gcd W.1 W.2 ∧ b = W.2 / Nat.gcd W.1 W.2)
theorem sm_cr {W : Nat × Nat} {a b : Nat} (h : sm W a b) : a * W.2 = b * W.1 := by
  rcases h with ⟨h1, h2, h3⟩ | ⟨h1, h2, h3⟩
  · rw [h1, h2, Nat.zero_mul, Nat.mul_zero]
  · rw [h2, h3]; exact gd_cross
theorem sm_st {P : Nat → Nat → Nat} {fu fd : Nat → Nat} {mem k a b : Nat} (hP : P_ok P) (hf : f_ok fu fd) (hk : k < 8) (hm : mem / 2 ^ k % 2 = 1) (h : sm (su P fu fd mem k) a b) (hb : 0 < b) : 0 < a * fd k + pw P k * fu k * b ∧ sm (su P fu fd mem (k + 1)) ((a * fd k + pw P k * fu k * b) / Nat.gcd (a * fd k + pw P k * fu k * b) (b * fd k)) (b * fd k / Nat.gcd (a * fd k + pw P k * fu k * b) (b * fd k)) := by
  have c := sm_cr h
  obtain ⟨⟨f1, f2⟩, f3, f4⟩ := hf k hk
  obtain ⟨p1, p2⟩ := pw_b hP hk
  have w2 := (su_pos (mem := mem) hP hf k (by omega)).1
  have g0 : 0 < Nat.gcd (pw P k) (fd k) := Nat.gcd_pos_of_pos_left _ (by omega)
  have e1 := Nat.div_mul_cancel (Nat.gcd_dvd_left (pw P k) (fd k))
  have e2 := Nat.div_mul_cancel (Nat.gcd_dvd_right (pw P k) (fd k))
  have es : su P fu fd mem (k + 1) = ((su P fu fd mem k).1 * (fd k / Nat.gcd (pw P k) (fd k)) + pw P k / Nat.gcd (pw P k) (fd k) * fu k * (su P fu fd mem k).2, (su P fu fd mem k).2 * (fd k / Nat.gcd (pw P k) (fd k))) := if_pos hm
  rw [es]
  clear es
  have q0 : 0 < pw P k / Nat.gcd (pw P k) (fd k) := Nat.div_pos (Nat.le_of_dvd (by omega) (Nat.gcd_dvd_left _ _)) g0
  generalize su P fu fd mem k = W at *
  obtain ⟨W1, W2⟩ := W
  have n0 : 0 < a * fd k + pw P k * fu k * b := Nat.lt_of_lt_of_le (Nat.mul_pos (Nat.mul_pos (by omega) f1) hb) (Nat.le_add_left _ _)
  generalize pw P k / Nat.gcd (pw P k) (fd k) = p' at *
  generalize fd k / Nat.gcd (pw P k) (fd k) = d' at *
  generalize Nat.gcd (pw P k) (fd k) = g at *
  generalize pw P k = p at *
  generalize fd k = d at *
  generalize fu k = u at *
  simp only at c w2 ⊢
  refine ⟨n0, Or.inr ⟨Nat.lt_of_lt_of_le (Nat.mul_pos (Nat.mul_pos q0 f1) w2) (Nat.le_add_left _ _), ?_⟩⟩
  refine gd_uni n0 (Nat.lt_of_lt_of_le (Nat.mul_pos (Nat.mul_pos q0 f1) w2) (Nat.le_add_left _ _)) ?_
  show (a * d + p * u * b) * (W2 * d') = b * d * (W1 * d' + p' * u * W2)
  rw [Nat.add_mul, Nat.mul_add]
  congr 1
  · calc a * d * (W2 * d') = a * W2 * (d * d') := by ac_rfl
      _ = b * W1 * (d * d') := by rw [c]
      _ = b * d * (W1 * d') := by ac_rfl
  · rw [← e1, ← e2]
    ac_rfl
theorem sm_b {P : Nat → Nat → Nat} {fu fd : Nat → Nat} {mem k a b : Nat} (hP : P_ok P) (hf : f_ok fu fd) (hk : k ≤ 8) (h : sm (su P fu fd mem k) a b) : a < 2 ^ 571 ∧ b < 2 ^ 505 ∧ 0 < b := by
  obtain ⟨b1, b2⟩ := su_b8 (mem := mem) hP hf hk
  have w2 := (su_pos (mem := mem) hP hf k hk).1
  rcases h with ⟨h1, h2, h3⟩ | ⟨h1, h2, h3⟩
  · rw [h2, h3]
    exact ⟨Nat.pow_pos (by decide), Nat.lt_of_lt_of_le (by decide) (Nat.pow_le_pow_right (show 0 < 2 by decide) (show 1 ≤ 505 by decide)), by decide⟩
  · have g0 : 0 < Nat.gcd (su P fu fd mem k).1 (su P fu fd mem k).2 := Nat.gcd_pos_of_pos_left _ h1
    rw [h2, h3]
    exact ⟨Nat.lt_of_le_of_lt (Nat.div_le_self _ _) b1, Nat.lt_of_le_of_lt (Nat.div_le_self _ _) b2, Nat.div_pos (Nat.le_of_dvd w2 (Nat.gcd_dvd_right _ _)) g0⟩
def mpost (H : ev_H) (A I v2 : Nat → Nat) (Q : Nat → Nat → Nat) (R : Nat → Nat → Int32) (lv f : Nat → Nat) (h1 : ev_H) : Prop := MS h1 A I v2 Q R lv f ∧ MF A H h1
section REFF
variable {G : ev_G} {w : Nat} {H h1 : ev_H} {A I v : Nat → Nat} {Q : Nat → Nat → Nat} {R : Nat → Nat → Int32} {lv f : Nat → Nat} {k s x dd r o p q t b n : Nat}
theorem ms_w {m : ev_M} {args : List Value} {X : Option Value} {v2 : Nat → Nat} (h : MS H A I v Q R lv f) (k : ev_Ca G dd w m args H 0 0 (ev_ok (fun x h1 => x = X ∧ gpost H (A 17) (A 0) (A 1) (mf A I) v2 h1))) : ev_Ca G dd w m args H 0 0 (ev_ok (fun x h1 => x = X ∧ mpost H A I v2 Q R lv f h1)) := ca_post (fun _ _ hp => ⟨hp.1, ms_r h hp.2.1 hp.2.2⟩) k
theorem m_copy (hd : 1 ≤ dd) (h : MS H A I v Q R lv f) (hr : r < 47) (ho : o < 47) (hro : r ≠ o) : ev_Ca G dd w m_X9_copy [.ref (A 17), .int (nI r), .int (nI o)] H 0 0 (ev_ok (fun x h1 => x = none ∧ mpost H A I (va_up v r (v o)) Q R lv f h1)) := ms_w h (g_copy hd (ms_g h) hr ho hro)
theorem m_set (hd : 1 ≤ dd) (h : MS H A I v Q R lv f) (hr : r < 47) (hx : x < 2 ^ 63) : ev_Ca G dd w m_X9_set [.ref (A 17), .int (nI r), .long (lN x)] H 0 0 (ev_ok (fun y h1 => y = none ∧ mpost H A I (va_up v r x) Q R lv f h1)) := ms_w h (g_set hd (ms_g h) hr hx)
theorem m_add (hd : 2 ≤ dd) (hw : 30 ≤ w) (h : MS H A I v Q R lv f) (hr : r < 47) (ho : o < 47) (hro : r ≠ o) (b1 : v r < 1073741824 ^ 139) (b2 : v o < 1073741824 ^ 139) : ev_Ca G dd w m_X9_add [.ref (A 17), .int (nI r), .int (nI o)] H 0 0 (ev_ok (fun x h1 => x = none ∧ mpost H A I (va_up v r (v r + v o)) Q R lv f h1)) := ms_w h (g_add hd hw (ms_g h) hr ho hro b1 b2)
theorem m_scale (hd : 2 ≤ dd) (hw : 30 ≤ w) (h : MS H A I v Q R lv f) (hr : r < 47) (hb : b < 1073741824) (hs : v r < 1073741824 ^ 139) : ev_Ca G dd w m_X9_scale [.ref (A 17), .int (nI r), .int (nI b)] H 0 0 (ev_ok (fun x h1 => x = none ∧ mpost H A I (va_up v r (v r * b)) Q R lv f h1)) := ms_w h (g_scale hd hw (ms_g h) hr hb hs)
theorem m_divide (hd : 2 ≤ dd) (hw : 30 ≤ w) (h : MS H A I v Q R lv f) (hr : r < 47) (hr0 : 0 < r) (hb0 : 0 < b) (hb : b < 1073741824) : ev_Ca G dd w m_X9_divide [.ref (A 17), .int (nI r), .int (nI b)] H 0 0 (ev_ok (fun x h1 => x = some (.int (nI (v r % b))) ∧ mpost H A I (va_up v r (v r / b)) Q R lv f h1)) := ms_w h (g_divide hd hw (ms_g h) hr hr0 hb0 hb)
theorem m_mul (hd : 2 ≤ dd) (hw : 30 ≤ w) (h : MS H A I v Q R lv f) (hr : r < 47) (hp : p < 47) (hq : q < 47) (hrp : r ≠ p) (hrq : r ≠ q) (hb : v p * v q < 1073741824 ^ 139) : ev_Ca G dd w m_X9_multiply [.ref (A 17), .int (nI r), .int (nI p), .int (nI q)] H 0 0 (ev_ok (fun x h1 => x = none ∧ mpost H A I (va_up v r (v p * v q)) Q R lv f h1)) := ms_w h (g_mul hd hw (ms_g h) hr hp hq hrp hrq hb)
theorem m_quo (hd : 3 ≤ dd) (hw : 60 ≤ w) (h : MS H A I v Q R lv f) (hn : n < 47) (hb : b < 47) (hq : q < 47) (hr : r < 47) (hqn : q ≠ n) (hqb : q ≠ b) (hrn : r ≠ n) (hrb : r ≠ b) (hqr : q ≠ r) (h0 : 0 < v b) (hN : v n < 1073741824 ^ 139) : ev_Ca G dd w m_X9_quotient [.ref (A 17), .int (nI n), .int (nI b), .int (nI q), .int (nI r)] H 0 0 (ev_ok (fun x h1 => x = none ∧ ∃ v2, mpost H A I v2 Q R lv f h1 ∧ v2 q = v n / v b ∧ v2 r = v n % v b ∧ ∀ i, i ≠ q → i ≠ r → v2 i = v i)) := ca_post (fun _ _ hp => ⟨hp.1, by obtain ⟨_, v2, a, b, c, d, e⟩ := hp; exact ⟨v2, ms_r h a b, c, d, e⟩⟩) (g_quo hd hw (ms_g h) hn hb hq hr hqn hqb hrn hrb hqr h0 hN)
theorem m_reduce (hd : 4 ≤ dd) (hw : 120 ≤ w) (h : MS H A I v Q R lv f) (ht : t < 42) (hb : b < 42) (htb : t ≠ b) (h0 : 0 < v t) (bt : v t < 1073741824 ^ 139) (bb : v b < 1073741824 ^ 139) : ev_Ca G dd w m_X9_reduce [.ref (A 17), .int (nI t), .int (nI b)] H 0 0 (ev_ok (fun x h1 => x = none ∧ ∃ v2, mpost H A I v2 Q R lv f h1 ∧ v2 t = v t / Nat.gcd (v t) (v b) ∧ v2 b = v b / Nat.gcd (v t) (v b) ∧ ∀ i, i < 42 → i ≠ t → i ≠ b → v2 i = v i)) := ca_post (fun _ _ hp => ⟨hp.1, by obtain ⟨_, v2, a, b, c, d, e⟩ := hp; exact ⟨v2, ms_r h a b, c, d, e⟩⟩) (g_reduce hd hw (ms_g h) ht hb htb h0 bt bb)
def tt (v u : Nat → Nat) (x y : Nat) : Prop := u 40 = x ∧ u 41 = y ∧ ∀ i, i < 40 → u i = v i
theorem tt_40 {v u : Nat → Nat} {x y z : Nat} (h : tt v u x y) : tt v (va_up u 40 z) z y := ⟨rfl, (va_up_ne _ _ (by decide)).trans h.2.1, fun i hi => (va_up_ne _ _ (by omega)).trans (h.2.2 i hi)⟩
theorem tt_41 {v u : Nat → Nat} {x y z : Nat} (h : tt v u x y) : tt v (va_up u 41 z) x z := ⟨(va_up_ne _ _ (by decide)).trans h.1, rfl, fun i hi => (va_up_ne _ _ (by omega)).trans (h.2.2 i hi)⟩
theorem p2_le139 {a x : Nat} (hx : x ≤ 4170) (ha : a < 2 ^ x) : a < 1073741824 ^ 139 := by rw [p2_139]; exact p2_le hx ha
theorem l_rsum {K : ev_K} {c z : Nat} (hd : 5 ≤ dd) (hw : 160 ≤ w) (hP : P_ok Q) (hf : f_ok v (fun s => v (8 + s))) (hm : I 0 < 256)
    (hK : ∀ v2 h1, mpost H A I v2 Q R lv f h1 → sm (su Q v (fun s => v (8 + s)) (I 0) 8) (v2 34) (v2 35) → (∀ i, i < 40 → i ≠ 34 → i ≠ 35 → v2 i = v i) → K (.inl none) h1) :
    ∀ k s v1 h1, s + k = 8 → mpost H A I v1 Q R lv f h1 → sm (su Q v (fun s => v (8 + s)) (I 0) s) (v1 34) (v1 35) → (∀ i, i < 40 → i ≠ 34 → i ≠ 35 → v1 i = v i) → ev_J G (ev_cc G dd w) w m_X9_sum K (17, ev_lf [(0, .ref (A 17)), (1, .int (nI s))], [], h1, c, z)
  | 0, s, v1, h1, e, e1, e2, e3 => by
    refine ev_iload_n (pc := 17) dX9_sum_17 rfl ?_
    refine ev_bipush (pc := 18) (v := nI 8) dX9_sum_18 (by decide) ?_
    refine ev_icmp_geN (pc := 20) (tgt := 125) dX9_sum_20 (by decide) (by omega) (by omega) (fun c1 => ?_) (fun c1 => ?_)
    · have : s = 8 := by omega
      subst this
      exact ev_vret (pc := 125) dX9_sum_125 rfl (hK v1 h1 e1 e2 e3)
    · omega
  | k + 1, s, v1, h1, e, e1, e2, e3 => by
    obtain ⟨h, hF⟩ := e1
    have hs : s < 8 := by omega
    have bt : I 0 / 2 ^ s % 2 < 2 := Nat.mod_lt _ (by decide)
    refine ev_iload_n (pc := 17) dX9_sum_17 rfl ?_
    refine ev_bipush (pc := 18) (v := nI 8) dX9_sum_18 (by decide) ?_
    refine ev_icmp_geN (pc := 20) (tgt := 125) dX9_sum_20 (by decide) (by omega) (by omega) (fun c1 => ?_) (fun c1 => ?_)
    · omega
    · refine ev_aload_n (pc := 23) dX9_sum_23 rfl ?_
      refine ev_iload_n (pc := 24) dX9_sum_24 rfl ?_
      refine ev_callV (pc := 25) (As := [.int (nI s)]) dX9_sum_25 cv_X9_124 rfl rfl (ms_M h) rfl ⟨by show 19 + 2 ≤ w; omega, show ev_Ca _ _ (w - 21) _ _ _ _ _ _ from k_isMem (by omega) h hm hs⟩ rfl rfl (fun r h1 hp => ?_)
      obtain ⟨rfl, hH⟩ := hp
      rw [hH]
      clear hH
      refine ev_if_eqN (pc := 28) (tgt := 119) dX9_sum_28 (by decide) (by omega) (fun c2 => ?_) (fun c2 => ?_)
      · refine ev_iincN (pc := 119) dX9_sum_119 rfl rfl ?_
        refine ev_goto (pc := 122) (tgt := 17) dX9_sum_122 (by decide) ?_
        refine ev_vs [(0, .ref (A 17)), (1, .int (nI (s + 1)))] ⟨rfl, rfl, trivial⟩ ?_
        refine l_rsum hd hw hP hf hm hK k (s + 1) v1 _ (by omega) ⟨h, hF⟩ ?_ e3
        have : su Q v (fun s => v (8 + s)) (I 0) (s + 1) = su Q v (fun s => v (8 + s)) (I 0) s := if_neg (by omega)
        rw [this]
        exact e2
      · have mb : I 0 / 2 ^ s % 2 = 1 := by omega
        obtain ⟨ba, bb, b0⟩ := sm_b hP hf (by omega) e2
        obtain ⟨n0, st⟩ := sm_st hP hf hs mb e2 b0
        obtain ⟨⟨f1, f2⟩, f3, f4⟩ := hf s hs
        obtain ⟨p1, p2⟩ := pw_b hP hs
        have p54 : pw Q s < 2 ^ 54 := by omega
        have es : v1 s = v s := e3 s (by omega) (by omega) (by omega)
        have ed : v1 (8 + s) = v (8 + s) := e3 (8 + s) (by omega) (by omega) (by omega)
        simp only at f3 f4 n0 st
        refine ev_aload_n (pc := 31) dX9_sum_31 rfl ?_
        refine ev_bipush (pc := 32) (v := nI 40) dX9_sum_32 (by decide) ?_
        refine ev_aload_n (pc := 34) dX9_sum_34 rfl ?_
        refine ev_iload_n (pc := 35) dX9_sum_35 rfl ?_
        refine ev_callV (pc := 36) (As := [.int (nI s)]) dX9_sum_36 cv_X9_127 rfl rfl (ms_M h) rfl ⟨by show 19 + 2 ≤ w; omega, show ev_Ca _ _ (w - 21) _ _ _ _ _ _ from k_plain (by omega) h hP hs⟩ rfl rfl (fun r h1 hp => ?_)
        obtain ⟨rfl, hH⟩ := hp
        rw [hH]
        clear hH
        refine ev_callV (pc := 39) (As := [.int (nI 40), .long (lN (pw Q s))]) dX9_sum_39 cv_X9_62 rfl rfl (ms_M h) rfl ⟨by show 19 + 6 ≤ w; omega, show ev_Ca _ _ (w - 25) _ _ _ _ _ _ from m_set (r := 40) (by omega) h (by omega) (by omega)⟩ rfl rfl (fun r h1 hp => ?_)
        obtain ⟨rfl, h2, hF2⟩ := hp
        have T2 := tt_40 (z := pw Q s) (show tt v1 v1 (v1 40) (v1 41) from ⟨rfl, rfl, fun _ _ => rfl⟩)
        generalize va_up v1 40 (pw Q s) = u2 at *
        have z1 : pw Q s * v s < 2 ^ (54 + 63) := p2_mul p54 f2
        have z2 : pw Q s * v s * v1 35 < 2 ^ (54 + 63 + 505) := p2_mul z1 bb
        have z3 : v1 34 * v (8 + s) < 2 ^ (571 + 63) := p2_mul ba f4
        have z4 : v1 35 * v (8 + s) < 2 ^ (505 + 63) := p2_mul bb f4
        have z5 : v1 34 * v (8 + s) + pw Q s * v s * v1 35 < 2 ^ (571 + 63 + 1) := p2_add z3 (p2_le (by decide) z2)
        refine ev_aload_n (pc := 42) dX9_sum_42 rfl ?_
        refine ev_bipush (pc := 43) (v := nI 41) dX9_sum_43 (by decide) ?_
        refine ev_bipush (pc := 45) (v := nI 40) dX9_sum_45 (by decide) ?_
        refine ev_iconst (pc := 47) (v := nI 0) dX9_sum_47 (by decide) ?_
        refine ev_iload_n (pc := 48) dX9_sum_48 rfl ?_
        refine ev_iaddN (pc := 49) dX9_sum_49 ?_
        refine ev_callV (pc := 50) (As := [.int (nI 41), .int (nI 40), .int (nI (0 + s))]) dX9_sum_50 cv_X9_131 rfl rfl (ms_M h2) rfl ⟨by show 19 + 11 ≤ w; omega, show ev_Ca _ _ (w - 30) _ _ _ _ _ _ from m_mul (r := 41) (p := 40) (q := 0 + s) (by omega) (by omega) h2 (by omega) (by omega) (by omega) (by omega) (by omega) (by rw [T2.1, Nat.zero_add, T2.2.2 s (by omega), es]; exact p2_le139 (by decide) z1)⟩ rfl rfl (fun r h1 hp => ?_)
        obtain ⟨rfl, h3, hF3⟩ := hp
        rw [T2.1, Nat.zero_add, T2.2.2 s (by omega), es] at h3
        have T3 := tt_41 (z := pw Q s * v s) T2
        generalize va_up u2 41 (pw Q s * v s) = u3 at *
        refine ev_aload_n (pc := 53) dX9_sum_53 rfl ?_
        refine ev_bipush (pc := 54) (v := nI 40) dX9_sum_54 (by decide) ?_
        refine ev_bipush (pc := 56) (v := nI 41) dX9_sum_56 (by decide) ?_
        refine ev_bipush (pc := 58) (v := nI 35) dX9_sum_58 (by decide) ?_
        refine ev_callV (pc := 60) (As := [.int (nI 40), .int (nI 41), .int (nI 35)]) dX9_sum_60 cv_X9_131 rfl rfl (ms_M h3) rfl ⟨by show 19 + 11 ≤ w; omega, show ev_Ca _ _ (w - 30) _ _ _ _ _ _ from m_mul (r := 40) (p := 41) (q := 35) (by omega) (by omega) h3 (by omega) (by omega) (by omega) (by omega) (by omega) (by rw [T3.2.1, T3.2.2 35 (by omega)]; exact p2_le139 (by decide) z2)⟩ rfl rfl (fun r h1 hp => ?_)
        obtain ⟨rfl, h4, hF4⟩ := hp
        rw [T3.2.1, T3.2.2 35 (by omega)] at h4
        have T4 := tt_40 (z := pw Q s * v s * v1 35) T3
        generalize va_up u3 40 (pw Q s * v s * v1 35) = u4 at *
        refine ev_aload_n (pc := 63) dX9_sum_63 rfl ?_
        refine ev_bipush (pc := 64) (v := nI 41) dX9_sum_64 (by decide) ?_
        refine ev_bipush (pc := 66) (v := nI 34) dX9_sum_66 (by decide) ?_
        refine ev_bipush (pc := 68) (v := nI 8) dX9_sum_68 (by decide) ?_
        refine ev_iload_n (pc := 70) dX9_sum_70 rfl ?_
        refine ev_iaddN (pc := 71) dX9_sum_71 ?_
        refine ev_callV (pc := 72) (As := [.int (nI 41), .int (nI 34), .int (nI (8 + s))]) dX9_sum_72 cv_X9_131 rfl rfl (ms_M h4) rfl ⟨by show 19 + 11 ≤ w; omega, show ev_Ca _ _ (w - 30) _ _ _ _ _ _ from m_mul (r := 41) (p := 34) (q := 8 + s) (by omega) (by omega) h4 (by omega) (by omega) (by omega) (by omega) (by omega) (by rw [T4.2.2 34 (by omega), T4.2.2 (8 + s) (by omega), ed]; exact p2_le139 (by decide) z3)⟩ rfl rfl (fun r h1 hp => ?_)
        obtain ⟨rfl, h5, hF5⟩ := hp
        rw [T4.2.2 34 (by omega), T4.2.2 (8 + s) (by omega), ed] at h5
        have T5 := tt_41 (z := v1 34 * v (8 + s)) T4
        generalize va_up u4 41 (v1 34 * v (8 + s)) = u5 at *
        refine ev_aload_n (pc := 75) dX9_sum_75 rfl ?_
        refine ev_bipush (pc := 76) (v := nI 41) dX9_sum_76 (by decide) ?_
        refine ev_bipush (pc := 78) (v := nI 40) dX9_sum_78 (by decide) ?_
        refine ev_callV (pc := 80) (As := [.int (nI 41), .int (nI 40)]) dX9_sum_80 cv_X9_135 rfl rfl (ms_M h5) rfl ⟨by show 19 + 7 ≤ w; omega, show ev_Ca _ _ (w - 26) _ _ _ _ _ _ from m_add (r := 41) (o := 40) (by omega) (by omega) h5 (by omega) (by omega) (by omega) (by rw [T5.2.1]; exact p2_le139 (by decide) z3) (by rw [T5.1]; exact p2_le139 (by decide) z2)⟩ rfl rfl (fun r h1 hp => ?_)
        obtain ⟨rfl, h6, hF6⟩ := hp
        rw [T5.1, T5.2.1] at h6
        have T6 := tt_41 (z := v1 34 * v (8 + s) + pw Q s * v s * v1 35) T5
        generalize va_up u5 41 (v1 34 * v (8 + s) + pw Q s * v s * v1 35) = u6 at *
        refine ev_aload_n (pc := 83) dX9_sum_83 rfl ?_
        refine ev_bipush (pc := 84) (v := nI 40) dX9_sum_84 (by decide) ?_
        refine ev_bipush (pc := 86) (v := nI 35) dX9_sum_86 (by decide) ?_
        refine ev_bipush (pc := 88) (v := nI 8) dX9_sum_88 (by decide) ?_
        refine ev_iload_n (pc := 90) dX9_sum_90 rfl ?_
        refine ev_iaddN (pc := 91) dX9_sum_91 ?_
        refine ev_callV (pc := 92) (As := [.int (nI 40), .int (nI 35), .int (nI (8 + s))]) dX9_sum_92 cv_X9_131 rfl rfl (ms_M h6) rfl ⟨by show 19 + 11 ≤ w; omega, show ev_Ca _ _ (w - 30) _ _ _ _ _ _ from m_mul (r := 40) (p := 35) (q := 8 + s) (by omega) (by omega) h6 (by omega) (by omega) (by omega) (by omega) (by omega) (by rw [T6.2.2 35 (by omega), T6.2.2 (8 + s) (by omega), ed]; exact p2_le139 (by decide) z4)⟩ rfl rfl (fun r h1 hp => ?_)
        obtain ⟨rfl, h7, hF7⟩ := hp
        rw [T6.2.2 35 (by omega), T6.2.2 (8 + s) (by omega), ed] at h7
        have T7 := tt_40 (z := v1 35 * v (8 + s)) T6
        generalize va_up u6 40 (v1 35 * v (8 + s)) = u7 at *
        refine ev_aload_n (pc := 95) dX9_sum_95 rfl ?_
        refine ev_bipush (pc := 96) (v := nI 34) dX9_sum_96 (by decide) ?_
        refine ev_bipush (pc := 98) (v := nI 41) dX9_sum_98 (by decide) ?_
        refine ev_callV (pc := 100) (As := [.int (nI 34), .int (nI 41)]) dX9_sum_100 cv_X9_101 rfl rfl (ms_M h7) rfl ⟨by show 19 + 4 ≤ w; omega, show ev_Ca _ _ (w - 23) _ _ _ _ _ _ from m_copy (r := 34) (o := 41) (by omega) h7 (by omega) (by omega) (by omega)⟩ rfl rfl (fun r h1 hp => ?_)
        obtain ⟨rfl, h8, hF8⟩ := hp
        rw [T7.2.1] at h8
        refine ev_aload_n (pc := 103) dX9_sum_103 rfl ?_
        refine ev_bipush (pc := 104) (v := nI 35) dX9_sum_104 (by decide) ?_
        refine ev_bipush (pc := 106) (v := nI 40) dX9_sum_106 (by decide) ?_
        refine ev_callV (pc := 108) (As := [.int (nI 35), .int (nI 40)]) dX9_sum_108 cv_X9_101 rfl rfl (ms_M h8) rfl ⟨by show 19 + 4 ≤ w; omega, show ev_Ca _ _ (w - 23) _ _ _ _ _ _ from m_copy (r := 35) (o := 40) (by omega) h8 (by omega) (by omega) (by omega)⟩ rfl rfl (fun r h1 hp => ?_)
        obtain ⟨rfl, h9, hF9⟩ := hp
        rw [va_up_ne _ _ (show (40 : Nat) ≠ 34 by decide), T7.1] at h9
        have U1 : va_up (va_up u7 34 (v1 34 * v (8 + s) + pw Q s * v s * v1 35)) 35 (v1 35 * v (8 + s)) 34 = v1 34 * v (8 + s) + pw Q s * v s * v1 35 := rfl
        have U2 : va_up (va_up u7 34 (v1 34 * v (8 + s) + pw Q s * v s * v1 35)) 35 (v1 35 * v (8 + s)) 35 = v1 35 * v (8 + s) := rfl
        have U3 : ∀ i, i < 40 → i ≠ 34 → i ≠ 35 → va_up (va_up u7 34 (v1 34 * v (8 + s) + pw Q s * v s * v1 35)) 35 (v1 35 * v (8 + s)) i = v i := fun i a b c => by rw [va_up_ne _ _ c, va_up_ne _ _ b, T7.2.2 i a, e3 i a b c]
        generalize va_up (va_up u7 34 (v1 34 * v (8 + s) + pw Q s * v s * v1 35)) 35 (v1 35 * v (8 + s)) = u9 at *
        refine ev_aload_n (pc := 111) dX9_sum_111 rfl ?_
        refine ev_bipush (pc := 112) (v := nI 34) dX9_sum_112 (by decide) ?_
        refine ev_bipush (pc := 114) (v := nI 35) dX9_sum_114 (by decide) ?_
        refine ev_callV (pc := 116) (As := [.int (nI 34), .int (nI 35)]) dX9_sum_116 cv_X9_138 rfl rfl (ms_M h9) rfl ⟨by show 19 + 3 ≤ w; omega, show ev_Ca _ _ (w - 22) _ _ _ _ _ _ from m_reduce (t := 34) (b := 35) (by omega) (by omega) h9 (by omega) (by omega) (by omega) (by rw [U1]; exact n0) (by rw [U1]; exact p2_le139 (by decide) z5) (by rw [U2]; exact p2_le139 (by decide) z4)⟩ rfl rfl (fun r h1 hp => ?_)
        obtain ⟨rfl, v2, ⟨hA, hFA⟩, y1, y2, y3⟩ := hp
        rw [U1, U2] at y1 y2
        refine ev_iincN (pc := 119) dX9_sum_119 rfl rfl ?_
        refine ev_goto (pc := 122) (tgt := 17) dX9_sum_122 (by decide) ?_
        refine ev_vs [(0, .ref (A 17)), (1, .int (nI (s + 1)))] ⟨rfl, rfl, trivial⟩ ?_
        refine l_rsum hd hw hP hf hm hK k (s + 1) v2 _ (by omega) ⟨hA, ((((((((hF.tr hF2).tr hF3).tr hF4).tr hF5).tr hF6).tr hF7).tr hF8).tr hF9).tr hFA⟩ ?_ (fun i a b c => ?_)
        · rw [y1, y2]; exact st
        · rw [y3 i (by omega) b c]; exact U3 i a b c
/-- the worth, in least terms -/
def lt1 (W : Nat × Nat) : Nat := W.1 / Nat.gcd W.1 W.2
def lt2 (W : Nat × Nat) : Nat := W.2 / Nat.gcd W.1 W.2
theorem k_sum (hd : 6 ≤ dd) (hw : 160 ≤ w) (h : MS H A I v Q R lv f) (hP : P_ok Q) (hf : f_ok v (fun s => v (8 + s))) (hm : I 0 < 256) (hm0 : I 0 ≠ 0) : ev_Ca G dd w m_X9_sum [.ref (A 17)] H 0 0 (ev_ok (fun r h1 => r = none ∧ ∃ v2, mpost H A I v2 Q R lv f h1 ∧ v2 34 = lt1 (su Q v (fun s => v (8 + s)) (I 0) 8) ∧ v2 35 = lt2 (su Q v (fun s => v (8 + s)) (I 0) 8) ∧ ∀ i, i < 40 → i ≠ 34 → i ≠ 35 → v2 i = v i)) := by
  obtain ⟨dd, rfl⟩ : ∃ e, dd = e + 1 := ⟨dd - 1, by omega⟩
  refine ⟨by decide +kernel, rfl, ?_⟩
  have pos := su_p8 hP hf hm hm0
  obtain ⟨hM, L, s, d1, d2, hV⟩ := ms_g h
  refine ev_th (rp_id d1 d2).symm ?_
  refine ev_aload_n (pc := 0) dX9_sum_0 rfl ?_
  refine ev_getf (pc := 1) dX9_sum_1 f_X9_13 (rp_M hM) rfl ?_
  refine ev_bipush (pc := 4) (v := nI 34) dX9_sum_4 (by decide) ?_
  refine ev_iconst (pc := 6) (v := nI 0) dX9_sum_6 (by decide) ?_
  refine ev_iast (pc := 7) dX9_sum_7 rp_S (vp_in_nI (show 34 < 47 by decide) (by decide)) ?_
  refine ev_th (rp_uS (show 34 < 47 by decide)) ?_
  have hV2 : RV L (va_up s 34 0) (va_up v 34 0) := rv_up (fun i hi _ => hV i hi) (fun i hi => va_up_ne _ _ hi) (fun _ _ => rfl) ⟨by rw [va_up_self]; decide, fun k hk => by rw [va_up_self] at hk; omega, fun q => by rw [va_up_self] at q; omega, by rw [va_up_self]; rfl⟩
  obtain ⟨hR, hF⟩ := rg_rp hM hV2
  obtain ⟨h2, hF2⟩ := ms_r h hR hF
  generalize rp H (A 0) (A 1) L (va_up s 34 0) = H2 at *
  refine ev_aload_n (pc := 8) dX9_sum_8 rfl ?_
  refine ev_bipush (pc := 9) (v := nI 35) dX9_sum_9 (by decide) ?_
  refine ev_lconst (pc := 11) (v := lN 1) dX9_sum_11 (by decide) ?_
  refine ev_callV (pc := 12) (As := [.int (nI 35), .long (lN 1)]) dX9_sum_12 cv_X9_62 rfl rfl (ms_M h2) rfl ⟨by show 19 + 6 ≤ w; omega, show ev_Ca _ _ (w - 25) _ _ _ _ _ _ from m_set (r := 35) (by omega) h2 (by omega) (by decide)⟩ rfl rfl (fun r h1 hp => ?_)
  obtain ⟨rfl, h3, hF3⟩ := hp
  refine ev_iconst (pc := 15) (v := nI 0) dX9_sum_15 (by decide) ?_
  refine ev_istore_n (pc := 16) dX9_sum_16 rfl ?_
  refine ev_vs [(0, .ref (A 17)), (1, .int (nI 0))] ⟨rfl, rfl, trivial⟩ ?_
  refine l_rsum (H := H) (v := v) (by omega) hw hP hf hm (fun v2 h1 g1 g2 g3 => ⟨rfl, v2, g1, ?_, ?_, g3⟩) 8 0 _ _ (by omega) ⟨h3, hF2.tr hF3⟩ (Or.inl ⟨rfl, rfl, rfl⟩) (fun i a b c => by rw [va_up_ne _ _ c, va_up_ne _ _ b])
  · rcases g2 with ⟨x1, _, _⟩ | ⟨_, x2, x3⟩
    · omega
    · exact x2
  · rcases g2 with ⟨x1, _, _⟩ | ⟨_, x2, x3⟩
    · omega
    · exact x3
end REFF
