/-! THE REFERENCE: its constructor -/
def csr : Nat → ev_C := mcell (fun _ => 0) (fun _ => 0) (fun _ => 0) (fun _ => 0) (fun _ _ => 0) (fun _ _ => 0) (fun _ => 0) (fun _ => 0)
theorem csr_r : ∀ i, i < 17 → ∀ z, csr i ≠ .inr z := by
  intro i hi z
  unfold csr mcell
  split
  · intro e; cases e
  split
  · intro e; cases e
  split
  · intro e; cases e
  split
  · intro e; cases e
  split
  · intro e; cases e
  split
  · intro e; cases e
  · omega
def NCk (H0 h : ev_H) (n : Nat) (ga : Nat → Nat) : Prop := (∀ i, i < n → h (ga i) = some (csr i) ∧ H0 (ga i) = none) ∧ ∀ i j, i < n → j < n → i ≠ j → ga i ≠ ga j
section CON3
variable {G : ev_G} {w : Nat} {H H0 h h1 : ev_H} {A g n dd : Nat} {ga : Nat → Nat}
theorem nc_step {y : ev_C} (hN : NCk H0 h n ga) (hX : XT H0 h A) (hD : h A = some y) (hg : h g = none) : NCk H0 (ev_up h g (csr n)) (n + 1) (aset ga n g) ∧ XT H0 (ev_up h g (csr n)) A ∧ ev_up h g (csr n) A = some y := by
  have ne : ∀ {a x}, h a = some x → a ≠ g := fun e r => by rw [r, hg] at e; cases e
  have lo : ∀ {i}, i < n → aset ga n g i = ga i := fun hi => if_neg (by omega)
  have at_ : aset ga n g n = g := if_pos rfl
  refine ⟨⟨fun i hi => ?_, fun i j hi hj hij => ?_⟩, fun a x ha hn => ev_nee (ne (hX a x ha hn)) (hX a x ha hn), ev_nee (ne hD) hD⟩
  · by_cases r : i = n
    · rw [r, at_]; exact ⟨ev_eqq, xt_f0 hX hD hg⟩
    · rw [lo (by omega)]
      obtain ⟨b1, b2⟩ := hN.1 i (by omega)
      exact ⟨ev_nee (ne b1) b1, b2⟩
  · by_cases r : i = n
    · have r2 : j < n := by omega
      rw [r, at_, lo r2]
      exact fun e => ne (hN.1 j r2).1 e.symm
    · by_cases r2 : j = n
      · rw [r2, at_, lo (by omega)]
        exact ne (hN.1 i (by omega)).1
      · rw [lo (by omega), lo (by omega)]
        exact hN.2 i j (by omega) (by omega) hij
theorem nc_put {ci : Nat} {fs : List Value} {y : ev_C} (hn : n ≤ 17) (hN : NCk H0 h n ga) (hX : XT H0 h A) (hD : h A = some (.inr (ci, fs))) : NCk H0 (ev_up h A y) n ga ∧ XT H0 (ev_up h A y) A := by
  refine ⟨⟨fun i hi => ?_, hN.2⟩, fun a x ha hn => ev_nee hn (hX a x ha hn)⟩
  obtain ⟨b1, b2⟩ := hN.1 i hi
  exact ⟨ev_nee (ne_of b1 hD (fun e => csr_r i (by omega) _ e)) b1, b2⟩
variable {I v : Nat → Nat} {Q : Nat → Nat → Nat} {R : Nat → Nat → Int32} {lv f : Nat → Nat}
theorem l_rinit {K : ev_K} {c z : Nat} {A : Nat → Nat} (hd : 1 ≤ dd) (hw : 40 ≤ w)
    (hK : ∀ v1 Q1 h1, mpost H A I v1 Q1 R lv f h1 → (∀ j, j < 8 → v1 j = 1 ∧ v1 (8 + j) = 1) → (∀ k, k < 3 → ∀ j, j < 8 → Q1 k j = 1) → ev_J G (ev_cc G dd w) w m_X9_init K (195, ev_lf [(0, .ref (A 17))], [], h1, c, z)) :
    ∀ k s v1 Q1 h1, s + k = 8 → mpost H A I v1 Q1 R lv f h1 → (∀ j, j < s → v1 j = 1 ∧ v1 (8 + j) = 1) → (∀ k, k < 3 → ∀ j, j < s → Q1 k j = 1) → ev_J G (ev_cc G dd w) w m_X9_init K (145, ev_lf [(0, .ref (A 17)), (1, .int (nI s))], [], h1, c, z)
  | 0, s, v1, Q1, h1, e, e1, e2, e3 => by
    refine ev_iload_n (pc := 145) dX9_init_145 rfl ?_
    refine ev_bipush (pc := 146) (v := nI 8) dX9_init_146 (by decide) ?_
    refine ev_icmp_geN (pc := 148) (tgt := 195) dX9_init_148 (by decide) (by omega) (by omega) (fun c1 => ?_) (fun c1 => ?_)
    · refine ev_vs [(0, .ref (A 17))] ⟨rfl, trivial⟩ ?_
      exact hK v1 Q1 h1 e1 (fun j hj => e2 j (by omega)) (fun k hk j hj => e3 k hk j (by omega))
    · omega
  | k + 1, s, v1, Q1, h1, e, e1, e2, e3 => by
    obtain ⟨h, hF⟩ := e1
    refine ev_iload_n (pc := 145) dX9_init_145 rfl ?_
    refine ev_bipush (pc := 146) (v := nI 8) dX9_init_146 (by decide) ?_
    refine ev_icmp_geN (pc := 148) (tgt := 195) dX9_init_148 (by decide) (by omega) (by omega) (fun c1 => ?_) (fun c1 => ?_)
    · omega
    · refine ev_aload_n (pc := 151) dX9_init_151 rfl ?_
      refine ev_getf (pc := 152) dX9_init_152 f_X9_16 (ms_M h) rfl ?_
      refine ev_iload_n (pc := 155) dX9_init_155 rfl ?_
      refine ev_iconst (pc := 156) (v := nI 1) dX9_init_156 (by decide) ?_
      refine ev_iast (pc := 157) dX9_init_157 (ms_Q h 0 (by decide)) (vp_in_nI (show s < 8 by omega) (by decide)) ?_
      obtain ⟨h2, hF2⟩ := ms_uQ (k := 0) (s := s) (x := 1) h (by decide) (by omega)
      refine ev_th (h2 := ev_up h1 (A (2 + 0)) (.inl (.int, 8, .inl (upd (fun j => nI (Q1 0 j)) (nI s).toNatClampNeg (nI 1))))) rfl ?_
      generalize ev_up h1 (A (2 + 0)) (.inl (.int, 8, .inl (upd (fun j => nI (Q1 0 j)) (nI s).toNatClampNeg (nI 1)))) = H2 at *
      refine ev_aload_n (pc := 158) dX9_init_158 rfl ?_
      refine ev_getf (pc := 159) dX9_init_159 f_X9_19 (ms_M h2) rfl ?_
      refine ev_iload_n (pc := 162) dX9_init_162 rfl ?_
      refine ev_iconst (pc := 163) (v := nI 1) dX9_init_163 (by decide) ?_
      refine ev_iast (pc := 164) dX9_init_164 (ms_Q h2 1 (by decide)) (vp_in_nI (show s < 8 by omega) (by decide)) ?_
      obtain ⟨h3, hF3⟩ := ms_uQ (k := 1) (s := s) (x := 1) h2 (by decide) (by omega)
      refine ev_th (h2 := ev_up H2 (A (2 + 1)) (.inl (.int, 8, .inl (upd (fun j => nI (p_up Q1 0 s 1 1 j)) (nI s).toNatClampNeg (nI 1))))) rfl ?_
      generalize ev_up H2 (A (2 + 1)) (.inl (.int, 8, .inl (upd (fun j => nI (p_up Q1 0 s 1 1 j)) (nI s).toNatClampNeg (nI 1)))) = H3 at *
      refine ev_aload_n (pc := 165) dX9_init_165 rfl ?_
      refine ev_getf (pc := 166) dX9_init_166 f_X9_22 (ms_M h3) rfl ?_
      refine ev_iload_n (pc := 169) dX9_init_169 rfl ?_
      refine ev_iconst (pc := 170) (v := nI 1) dX9_init_170 (by decide) ?_
      refine ev_iast (pc := 171) dX9_init_171 (ms_Q h3 2 (by decide)) (vp_in_nI (show s < 8 by omega) (by decide)) ?_
      obtain ⟨h4, hF4⟩ := ms_uQ (k := 2) (s := s) (x := 1) h3 (by decide) (by omega)
      refine ev_th (h2 := ev_up H3 (A (2 + 2)) (.inl (.int, 8, .inl (upd (fun j => nI (p_up (p_up Q1 0 s 1) 1 s 1 2 j)) (nI s).toNatClampNeg (nI 1))))) rfl ?_
      generalize ev_up H3 (A (2 + 2)) (.inl (.int, 8, .inl (upd (fun j => nI (p_up (p_up Q1 0 s 1) 1 s 1 2 j)) (nI s).toNatClampNeg (nI 1)))) = H4 at *
      have q1 : ∀ k, k < 3 → ∀ j, j < s + 1 → p_up (p_up (p_up Q1 0 s 1) 1 s 1) 2 s 1 k j = 1 := by
        intro k hk j hj
        by_cases x : j = s
        · subst x
          unfold p_up va_up
          rcases (show k = 0 ∨ k = 1 ∨ k = 2 by omega) with rfl | rfl | rfl <;> simp
        · have := e3 k hk j (by omega)
          rw [up_hi (by decide) (Or.inr x), up_hi (by decide) (Or.inr x), up_hi (by decide) (Or.inr x)]
          exact this
      generalize p_up (p_up (p_up Q1 0 s 1) 1 s 1) 2 s 1 = Q4 at *
      refine ev_aload_n (pc := 172) dX9_init_172 rfl ?_
      refine ev_iconst (pc := 173) (v := nI 0) dX9_init_173 (by decide) ?_
      refine ev_iload_n (pc := 174) dX9_init_174 rfl ?_
      refine ev_iaddN (pc := 175) dX9_init_175 ?_
      refine ev_lconst (pc := 176) (v := lN 1) dX9_init_176 (by decide) ?_
      refine ev_callV (pc := 177) (As := [.int (nI (0 + s)), .long (lN 1)]) dX9_init_177 cv_X9_62 rfl rfl (ms_M h4) rfl ⟨by show 19 + 6 ≤ w; omega, show ev_Ca _ _ (w - 25) _ _ _ _ _ _ from m_set (r := 0 + s) (by omega) h4 (by omega) (by decide)⟩ rfl rfl (fun r h1 hp => ?_)
      obtain ⟨rfl, h5, hF5⟩ := hp
      rw [Nat.zero_add] at h5
      refine ev_aload_n (pc := 180) dX9_init_180 rfl ?_
      refine ev_bipush (pc := 181) (v := nI 8) dX9_init_181 (by decide) ?_
      refine ev_iload_n (pc := 183) dX9_init_183 rfl ?_
      refine ev_iaddN (pc := 184) dX9_init_184 ?_
      refine ev_lconst (pc := 185) (v := lN 1) dX9_init_185 (by decide) ?_
      refine ev_callV (pc := 186) (As := [.int (nI (8 + s)), .long (lN 1)]) dX9_init_186 cv_X9_62 rfl rfl (ms_M h5) rfl ⟨by show 19 + 6 ≤ w; omega, show ev_Ca _ _ (w - 25) _ _ _ _ _ _ from m_set (r := 8 + s) (by omega) h5 (by omega) (by decide)⟩ rfl rfl (fun r h1 hp => ?_)
      obtain ⟨rfl, h6, hF6⟩ := hp
      refine ev_iincN (pc := 189) dX9_init_189 rfl rfl ?_
      refine ev_goto (pc := 192) (tgt := 145) dX9_init_192 (by decide) ?_
      refine ev_vs [(0, .ref (A 17)), (1, .int (nI (s + 1)))] ⟨rfl, rfl, trivial⟩ ?_
      refine l_rinit hd hw hK k (s + 1) _ Q4 _ (by omega) ⟨h6, ((((hF.tr hF2).tr hF3).tr hF4).tr hF5).tr hF6⟩ (fun j hj => ?_) q1
      by_cases q : j = s
      · subst q
        rw [va_up_self, va_up_ne _ _ (by omega), va_up_self]
        exact ⟨rfl, rfl⟩
      · rw [va_up_ne _ _ (by omega), va_up_ne _ _ (by omega), va_up_ne _ _ (by omega), va_up_ne _ _ (by omega)]
        exact e2 j (by omega)
/-- a reference as it is made -/
def R0S (H0 : ev_H) (A : Nat → Nat) (h1 : ev_H) : Prop := ∃ v Q, MS h1 A (fun _ => 0) v Q (fun _ _ => 0) (fun _ => 0) (fun _ => 0) ∧ (∀ j, j < 8 → v j = 1 ∧ v (8 + j) = 1) ∧ (∀ k, k < 3 → ∀ j, j < 8 → Q k j = 1) ∧ v 32 = 1 ∧ v 33 = 1 ∧ (∀ k, k < 17 → H0 (A k) = none) ∧ XT H0 h1 (A 17)
theorem k_rinit {M : Nat} (hd : 2 ≤ dd) (hw : 60 ≤ w) (hD : H M = some (.inr (7, [.null, .null, .null, .null, .null, .int 0, .int 0, .null, .null, .null, .int 0, .int 0, .null, .null, .null, .null, .null, .int 0, .null, .null, .int 0, .null, .int 0, .null, .int 0]))) : ev_Ca G dd w m_X9_init [.ref M] H 17 8437 (ev_ok (fun r h1 => r = none ∧ ∃ A, A 17 = M ∧ R0S H A h1)) := by
  obtain ⟨dd, rfl⟩ : ∃ e, dd = e + 1 := ⟨dd - 1, by omega⟩
  refine ⟨by decide +kernel, rfl, ?_⟩
  refine ev_aload_n (pc := 0) dX9_init_0 rfl ?_
  refine ev_objInit (pc := 1) dX9_init_1 oi_X9_1 rfl (by omega) ?_
  have N0 : NCk H H 0 (fun _ => 0) := ⟨fun i hi => absurd hi (Nat.not_lt_zero i), fun i j hi => absurd hi (Nat.not_lt_zero i)⟩
  have X0 : XT H H M := fun a x ha _ => ha
  have D0 := hD
  refine ev_aload_n (pc := 4) dX9_init_4 rfl ?_
  refine ev_sipush (pc := 5) (v := nI 6580) dX9_init_5 (by decide) ?_
  refine ev_newi (M := m_X9_init) (pc := 8) (c := 16) (z := 1857) (N := 6580) dX9_init_8 arI (by decide) (by decide) (by decide) (fun a0 ha0 => ?_)
  refine ev_th (h2 := ev_up H a0 (csr 0)) rfl ?_
  obtain ⟨A0, B0, C0⟩ := nc_step (g := a0) N0 X0 D0 ha0
  refine ev_putF (pc := 10) dX9_init_10 pF_X9_7 rfl C0 rfl rfl rfl ?_
  refine ev_th (h2 := ev_up (ev_up H a0 (csr 0)) M (.inr (7, [.ref a0, .null, .null, .null, .null, .int 0, .int 0, .null, .null, .null, .int 0, .int 0, .null, .null, .null, .null, .null, .int 0, .null, .null, .int 0, .null, .int 0, .null, .int 0]))) rfl ?_
  obtain ⟨N1, X1⟩ := nc_put (y := .inr (7, [.ref a0, .null, .null, .null, .null, .int 0, .int 0, .null, .null, .null, .int 0, .int 0, .null, .null, .null, .null, .null, .int 0, .null, .null, .int 0, .null, .int 0, .null, .int 0])) (by decide) A0 B0 C0
  have D1 : ev_up (ev_up H a0 (csr 0)) M (.inr (7, [.ref a0, .null, .null, .null, .null, .int 0, .int 0, .null, .null, .null, .int 0, .int 0, .null, .null, .null, .null, .null, .int 0, .null, .null, .int 0, .null, .int 0, .null, .int 0])) M = some (.inr (7, [.ref a0, .null, .null, .null, .null, .int 0, .int 0, .null, .null, .null, .int 0, .int 0, .null, .null, .null, .null, .null, .int 0, .null, .null, .int 0, .null, .int 0, .null, .int 0])) := ev_eqq
  clear A0 B0 C0 N0 X0 D0
  generalize hg0 : ev_up (ev_up H a0 (csr 0)) M (.inr (7, [.ref a0, .null, .null, .null, .null, .int 0, .int 0, .null, .null, .null, .int 0, .int 0, .null, .null, .null, .null, .null, .int 0, .null, .null, .int 0, .null, .int 0, .null, .int 0])) = g0 at *
  refine ev_aload_n (pc := 13) dX9_init_13 rfl ?_
  refine ev_bipush (pc := 14) (v := nI 47) dX9_init_14 (by decide) ?_
  refine ev_newi (M := m_X9_init) (pc := 16) (c := 15) (z := 1810) (N := 47) dX9_init_16 arI (by decide) (by decide) (by decide) (fun a1 ha1 => ?_)
  refine ev_th (h2 := ev_up g0 a1 (csr 1)) rfl ?_
  obtain ⟨A1, B1, C1⟩ := nc_step (g := a1) N1 X1 D1 ha1
  refine ev_putF (pc := 18) dX9_init_18 pF_X9_13 rfl C1 rfl rfl rfl ?_
  refine ev_th (h2 := ev_up (ev_up g0 a1 (csr 1)) M (.inr (7, [.ref a0, .ref a1, .null, .null, .null, .int 0, .int 0, .null, .null, .null, .int 0, .int 0, .null, .null, .null, .null, .null, .int 0, .null, .null, .int 0, .null, .int 0, .null, .int 0]))) rfl ?_
  obtain ⟨N2, X2⟩ := nc_put (y := .inr (7, [.ref a0, .ref a1, .null, .null, .null, .int 0, .int 0, .null, .null, .null, .int 0, .int 0, .null, .null, .null, .null, .null, .int 0, .null, .null, .int 0, .null, .int 0, .null, .int 0])) (by decide) A1 B1 C1
  have D2 : ev_up (ev_up g0 a1 (csr 1)) M (.inr (7, [.ref a0, .ref a1, .null, .null, .null, .int 0, .int 0, .null, .null, .null, .int 0, .int 0, .null, .null, .null, .null, .null, .int 0, .null, .null, .int 0, .null, .int 0, .null, .int 0])) M = some (.inr (7, [.ref a0, .ref a1, .null, .null, .null, .int 0, .int 0, .null, .null, .null, .int 0, .int 0, .null, .null, .null, .null, .null, .int 0, .null, .null, .int 0, .null, .int 0, .null, .int 0])) := ev_eqq
  clear A1 B1 C1 N1 X1 D1
  generalize hg1 : ev_up (ev_up g0 a1 (csr 1)) M (.inr (7, [.ref a0, .ref a1, .null, .null, .null, .int 0, .int 0, .null, .null, .null, .int 0, .int 0, .null, .null, .null, .null, .null, .int 0, .null, .null, .int 0, .null, .int 0, .null, .int 0])) = g1 at *
  refine ev_aload_n (pc := 21) dX9_init_21 rfl ?_
  refine ev_bipush (pc := 22) (v := nI 8) dX9_init_22 (by decide) ?_
  refine ev_newi (M := m_X9_init) (pc := 24) (c := 14) (z := 1802) (N := 8) dX9_init_24 arI (by decide) (by decide) (by decide) (fun a2 ha2 => ?_)
  refine ev_th (h2 := ev_up g1 a2 (csr 2)) rfl ?_
  obtain ⟨A2, B2, C2⟩ := nc_step (g := a2) N2 X2 D2 ha2
  refine ev_putF (pc := 26) dX9_init_26 pF_X9_16 rfl C2 rfl rfl rfl ?_
  refine ev_th (h2 := ev_up (ev_up g1 a2 (csr 2)) M (.inr (7, [.ref a0, .ref a1, .ref a2, .null, .null, .int 0, .int 0, .null, .null, .null, .int 0, .int 0, .null, .null, .null, .null, .null, .int 0, .null, .null, .int 0, .null, .int 0, .null, .int 0]))) rfl ?_
  obtain ⟨N3, X3⟩ := nc_put (y := .inr (7, [.ref a0, .ref a1, .ref a2, .null, .null, .int 0, .int 0, .null, .null, .null, .int 0, .int 0, .null, .null, .null, .null, .null, .int 0, .null, .null, .int 0, .null, .int 0, .null, .int 0])) (by decide) A2 B2 C2
  have D3 : ev_up (ev_up g1 a2 (csr 2)) M (.inr (7, [.ref a0, .ref a1, .ref a2, .null, .null, .int 0, .int 0, .null, .null, .null, .int 0, .int 0, .null, .null, .null, .null, .null, .int 0, .null, .null, .int 0, .null, .int 0, .null, .int 0])) M = some (.inr (7, [.ref a0, .ref a1, .ref a2, .null, .null, .int 0, .int 0, .null, .null, .null, .int 0, .int 0, .null, .null, .null, .null, .null, .int 0, .null, .null, .int 0, .null, .int 0, .null, .int 0])) := ev_eqq
  clear A2 B2 C2 N2 X2 D2
  generalize hg2 : ev_up (ev_up g1 a2 (csr 2)) M (.inr (7, [.ref a0, .ref a1, .ref a2, .null, .null, .int 0, .int 0, .null, .null, .null, .int 0, .int 0, .null, .null, .null, .null, .null, .int 0, .null, .null, .int 0, .null, .int 0, .null, .int 0])) = g2 at *
  refine ev_aload_n (pc := 29) dX9_init_29 rfl ?_
  refine ev_bipush (pc := 30) (v := nI 8) dX9_init_30 (by decide) ?_
  refine ev_newi (M := m_X9_init) (pc := 32) (c := 13) (z := 1794) (N := 8) dX9_init_32 arI (by decide) (by decide) (by decide) (fun a3 ha3 => ?_)
  refine ev_th (h2 := ev_up g2 a3 (csr 3)) rfl ?_
  obtain ⟨A3, B3, C3⟩ := nc_step (g := a3) N3 X3 D3 ha3
  refine ev_putF (pc := 34) dX9_init_34 pF_X9_19 rfl C3 rfl rfl rfl ?_
  refine ev_th (h2 := ev_up (ev_up g2 a3 (csr 3)) M (.inr (7, [.ref a0, .ref a1, .ref a2, .ref a3, .null, .int 0, .int 0, .null, .null, .null, .int 0, .int 0, .null, .null, .null, .null, .null, .int 0, .null, .null, .int 0, .null, .int 0, .null, .int 0]))) rfl ?_
  obtain ⟨N4, X4⟩ := nc_put (y := .inr (7, [.ref a0, .ref a1, .ref a2, .ref a3, .null, .int 0, .int 0, .null, .null, .null, .int 0, .int 0, .null, .null, .null, .null, .null, .int 0, .null, .null, .int 0, .null, .int 0, .null, .int 0])) (by decide) A3 B3 C3
  have D4 : ev_up (ev_up g2 a3 (csr 3)) M (.inr (7, [.ref a0, .ref a1, .ref a2, .ref a3, .null, .int 0, .int 0, .null, .null, .null, .int 0, .int 0, .null, .null, .null, .null, .null, .int 0, .null, .null, .int 0, .null, .int 0, .null, .int 0])) M = some (.inr (7, [.ref a0, .ref a1, .ref a2, .ref a3, .null, .int 0, .int 0, .null, .null, .null, .int 0, .int 0, .null, .null, .null, .null, .null, .int 0, .null, .null, .int 0, .null, .int 0, .null, .int 0])) := ev_eqq
  clear A3 B3 C3 N3 X3 D3
  generalize hg3 : ev_up (ev_up g2 a3 (csr 3)) M (.inr (7, [.ref a0, .ref a1, .ref a2, .ref a3, .null, .int 0, .int 0, .null, .null, .null, .int 0, .int 0, .null, .null, .null, .null, .null, .int 0, .null, .null, .int 0, .null, .int 0, .null, .int 0])) = g3 at *
  refine ev_aload_n (pc := 37) dX9_init_37 rfl ?_
  refine ev_bipush (pc := 38) (v := nI 8) dX9_init_38 (by decide) ?_
  refine ev_newi (M := m_X9_init) (pc := 40) (c := 12) (z := 1786) (N := 8) dX9_init_40 arI (by decide) (by decide) (by decide) (fun a4 ha4 => ?_)
  refine ev_th (h2 := ev_up g3 a4 (csr 4)) rfl ?_
  obtain ⟨A4, B4, C4⟩ := nc_step (g := a4) N4 X4 D4 ha4
  refine ev_putF (pc := 42) dX9_init_42 pF_X9_22 rfl C4 rfl rfl rfl ?_
  refine ev_th (h2 := ev_up (ev_up g3 a4 (csr 4)) M (.inr (7, [.ref a0, .ref a1, .ref a2, .ref a3, .ref a4, .int 0, .int 0, .null, .null, .null, .int 0, .int 0, .null, .null, .null, .null, .null, .int 0, .null, .null, .int 0, .null, .int 0, .null, .int 0]))) rfl ?_
  obtain ⟨N5, X5⟩ := nc_put (y := .inr (7, [.ref a0, .ref a1, .ref a2, .ref a3, .ref a4, .int 0, .int 0, .null, .null, .null, .int 0, .int 0, .null, .null, .null, .null, .null, .int 0, .null, .null, .int 0, .null, .int 0, .null, .int 0])) (by decide) A4 B4 C4
  have D5 : ev_up (ev_up g3 a4 (csr 4)) M (.inr (7, [.ref a0, .ref a1, .ref a2, .ref a3, .ref a4, .int 0, .int 0, .null, .null, .null, .int 0, .int 0, .null, .null, .null, .null, .null, .int 0, .null, .null, .int 0, .null, .int 0, .null, .int 0])) M = some (.inr (7, [.ref a0, .ref a1, .ref a2, .ref a3, .ref a4, .int 0, .int 0, .null, .null, .null, .int 0, .int 0, .null, .null, .null, .null, .null, .int 0, .null, .null, .int 0, .null, .int 0, .null, .int 0])) := ev_eqq
  clear A4 B4 C4 N4 X4 D4
  generalize hg4 : ev_up (ev_up g3 a4 (csr 4)) M (.inr (7, [.ref a0, .ref a1, .ref a2, .ref a3, .ref a4, .int 0, .int 0, .null, .null, .null, .int 0, .int 0, .null, .null, .null, .null, .null, .int 0, .null, .null, .int 0, .null, .int 0, .null, .int 0])) = g4 at *
  refine ev_aload_n (pc := 45) dX9_init_45 rfl ?_
  refine ev_bipush (pc := 46) (v := nI 8) dX9_init_46 (by decide) ?_
  refine ev_newi (M := m_X9_init) (pc := 48) (c := 11) (z := 1778) (N := 8) dX9_init_48 arI (by decide) (by decide) (by decide) (fun a5 ha5 => ?_)
  refine ev_th (h2 := ev_up g4 a5 (csr 5)) rfl ?_
  obtain ⟨A5, B5, C5⟩ := nc_step (g := a5) N5 X5 D5 ha5
  refine ev_putF (pc := 50) dX9_init_50 pF_X9_25 rfl C5 rfl rfl rfl ?_
  refine ev_th (h2 := ev_up (ev_up g4 a5 (csr 5)) M (.inr (7, [.ref a0, .ref a1, .ref a2, .ref a3, .ref a4, .int 0, .int 0, .ref a5, .null, .null, .int 0, .int 0, .null, .null, .null, .null, .null, .int 0, .null, .null, .int 0, .null, .int 0, .null, .int 0]))) rfl ?_
  obtain ⟨N6, X6⟩ := nc_put (y := .inr (7, [.ref a0, .ref a1, .ref a2, .ref a3, .ref a4, .int 0, .int 0, .ref a5, .null, .null, .int 0, .int 0, .null, .null, .null, .null, .null, .int 0, .null, .null, .int 0, .null, .int 0, .null, .int 0])) (by decide) A5 B5 C5
  have D6 : ev_up (ev_up g4 a5 (csr 5)) M (.inr (7, [.ref a0, .ref a1, .ref a2, .ref a3, .ref a4, .int 0, .int 0, .ref a5, .null, .null, .int 0, .int 0, .null, .null, .null, .null, .null, .int 0, .null, .null, .int 0, .null, .int 0, .null, .int 0])) M = some (.inr (7, [.ref a0, .ref a1, .ref a2, .ref a3, .ref a4, .int 0, .int 0, .ref a5, .null, .null, .int 0, .int 0, .null, .null, .null, .null, .null, .int 0, .null, .null, .int 0, .null, .int 0, .null, .int 0])) := ev_eqq
  clear A5 B5 C5 N5 X5 D5
  generalize hg5 : ev_up (ev_up g4 a5 (csr 5)) M (.inr (7, [.ref a0, .ref a1, .ref a2, .ref a3, .ref a4, .int 0, .int 0, .ref a5, .null, .null, .int 0, .int 0, .null, .null, .null, .null, .null, .int 0, .null, .null, .int 0, .null, .int 0, .null, .int 0])) = g5 at *
  refine ev_aload_n (pc := 53) dX9_init_53 rfl ?_
  refine ev_bipush (pc := 54) (v := nI 8) dX9_init_54 (by decide) ?_
  refine ev_newi (M := m_X9_init) (pc := 56) (c := 10) (z := 1770) (N := 8) dX9_init_56 arI (by decide) (by decide) (by decide) (fun a6 ha6 => ?_)
  refine ev_th (h2 := ev_up g5 a6 (csr 6)) rfl ?_
  obtain ⟨A6, B6, C6⟩ := nc_step (g := a6) N6 X6 D6 ha6
  refine ev_putF (pc := 58) dX9_init_58 pF_X9_28 rfl C6 rfl rfl rfl ?_
  refine ev_th (h2 := ev_up (ev_up g5 a6 (csr 6)) M (.inr (7, [.ref a0, .ref a1, .ref a2, .ref a3, .ref a4, .int 0, .int 0, .ref a5, .ref a6, .null, .int 0, .int 0, .null, .null, .null, .null, .null, .int 0, .null, .null, .int 0, .null, .int 0, .null, .int 0]))) rfl ?_
  obtain ⟨N7, X7⟩ := nc_put (y := .inr (7, [.ref a0, .ref a1, .ref a2, .ref a3, .ref a4, .int 0, .int 0, .ref a5, .ref a6, .null, .int 0, .int 0, .null, .null, .null, .null, .null, .int 0, .null, .null, .int 0, .null, .int 0, .null, .int 0])) (by decide) A6 B6 C6
  have D7 : ev_up (ev_up g5 a6 (csr 6)) M (.inr (7, [.ref a0, .ref a1, .ref a2, .ref a3, .ref a4, .int 0, .int 0, .ref a5, .ref a6, .null, .int 0, .int 0, .null, .null, .null, .null, .null, .int 0, .null, .null, .int 0, .null, .int 0, .null, .int 0])) M = some (.inr (7, [.ref a0, .ref a1, .ref a2, .ref a3, .ref a4, .int 0, .int 0, .ref a5, .ref a6, .null, .int 0, .int 0, .null, .null, .null, .null, .null, .int 0, .null, .null, .int 0, .null, .int 0, .null, .int 0])) := ev_eqq
  clear A6 B6 C6 N6 X6 D6
  generalize hg6 : ev_up (ev_up g5 a6 (csr 6)) M (.inr (7, [.ref a0, .ref a1, .ref a2, .ref a3, .ref a4, .int 0, .int 0, .ref a5, .ref a6, .null, .int 0, .int 0, .null, .null, .null, .null, .null, .int 0, .null, .null, .int 0, .null, .int 0, .null, .int 0])) = g6 at *
  refine ev_aload_n (pc := 61) dX9_init_61 rfl ?_
  refine ev_bipush (pc := 62) (v := nI 8) dX9_init_62 (by decide) ?_
  refine ev_newi (M := m_X9_init) (pc := 64) (c := 9) (z := 1762) (N := 8) dX9_init_64 arI (by decide) (by decide) (by decide) (fun a7 ha7 => ?_)
  refine ev_th (h2 := ev_up g6 a7 (csr 7)) rfl ?_
  obtain ⟨A7, B7, C7⟩ := nc_step (g := a7) N7 X7 D7 ha7
  refine ev_putF (pc := 66) dX9_init_66 pF_X9_31 rfl C7 rfl rfl rfl ?_
  refine ev_th (h2 := ev_up (ev_up g6 a7 (csr 7)) M (.inr (7, [.ref a0, .ref a1, .ref a2, .ref a3, .ref a4, .int 0, .int 0, .ref a5, .ref a6, .ref a7, .int 0, .int 0, .null, .null, .null, .null, .null, .int 0, .null, .null, .int 0, .null, .int 0, .null, .int 0]))) rfl ?_
  obtain ⟨N8, X8⟩ := nc_put (y := .inr (7, [.ref a0, .ref a1, .ref a2, .ref a3, .ref a4, .int 0, .int 0, .ref a5, .ref a6, .ref a7, .int 0, .int 0, .null, .null, .null, .null, .null, .int 0, .null, .null, .int 0, .null, .int 0, .null, .int 0])) (by decide) A7 B7 C7
  have D8 : ev_up (ev_up g6 a7 (csr 7)) M (.inr (7, [.ref a0, .ref a1, .ref a2, .ref a3, .ref a4, .int 0, .int 0, .ref a5, .ref a6, .ref a7, .int 0, .int 0, .null, .null, .null, .null, .null, .int 0, .null, .null, .int 0, .null, .int 0, .null, .int 0])) M = some (.inr (7, [.ref a0, .ref a1, .ref a2, .ref a3, .ref a4, .int 0, .int 0, .ref a5, .ref a6, .ref a7, .int 0, .int 0, .null, .null, .null, .null, .null, .int 0, .null, .null, .int 0, .null, .int 0, .null, .int 0])) := ev_eqq
  clear A7 B7 C7 N7 X7 D7
  generalize hg7 : ev_up (ev_up g6 a7 (csr 7)) M (.inr (7, [.ref a0, .ref a1, .ref a2, .ref a3, .ref a4, .int 0, .int 0, .ref a5, .ref a6, .ref a7, .int 0, .int 0, .null, .null, .null, .null, .null, .int 0, .null, .null, .int 0, .null, .int 0, .null, .int 0])) = g7 at *
  refine ev_aload_n (pc := 69) dX9_init_69 rfl ?_
  refine ev_bipush (pc := 70) (v := nI 16) dX9_init_70 (by decide) ?_
  refine ev_newi (M := m_X9_init) (pc := 72) (c := 8) (z := 1746) (N := 16) dX9_init_72 arI (by decide) (by decide) (by decide) (fun a8 ha8 => ?_)
  refine ev_th (h2 := ev_up g7 a8 (csr 8)) rfl ?_
  obtain ⟨A8, B8, C8⟩ := nc_step (g := a8) N8 X8 D8 ha8
  refine ev_putF (pc := 74) dX9_init_74 pF_X9_34 rfl C8 rfl rfl rfl ?_
  refine ev_th (h2 := ev_up (ev_up g7 a8 (csr 8)) M (.inr (7, [.ref a0, .ref a1, .ref a2, .ref a3, .ref a4, .int 0, .int 0, .ref a5, .ref a6, .ref a7, .int 0, .int 0, .ref a8, .null, .null, .null, .null, .int 0, .null, .null, .int 0, .null, .int 0, .null, .int 0]))) rfl ?_
  obtain ⟨N9, X9⟩ := nc_put (y := .inr (7, [.ref a0, .ref a1, .ref a2, .ref a3, .ref a4, .int 0, .int 0, .ref a5, .ref a6, .ref a7, .int 0, .int 0, .ref a8, .null, .null, .null, .null, .int 0, .null, .null, .int 0, .null, .int 0, .null, .int 0])) (by decide) A8 B8 C8
  have D9 : ev_up (ev_up g7 a8 (csr 8)) M (.inr (7, [.ref a0, .ref a1, .ref a2, .ref a3, .ref a4, .int 0, .int 0, .ref a5, .ref a6, .ref a7, .int 0, .int 0, .ref a8, .null, .null, .null, .null, .int 0, .null, .null, .int 0, .null, .int 0, .null, .int 0])) M = some (.inr (7, [.ref a0, .ref a1, .ref a2, .ref a3, .ref a4, .int 0, .int 0, .ref a5, .ref a6, .ref a7, .int 0, .int 0, .ref a8, .null, .null, .null, .null, .int 0, .null, .null, .int 0, .null, .int 0, .null, .int 0])) := ev_eqq
  clear A8 B8 C8 N8 X8 D8
  generalize hg8 : ev_up (ev_up g7 a8 (csr 8)) M (.inr (7, [.ref a0, .ref a1, .ref a2, .ref a3, .ref a4, .int 0, .int 0, .ref a5, .ref a6, .ref a7, .int 0, .int 0, .ref a8, .null, .null, .null, .null, .int 0, .null, .null, .int 0, .null, .int 0, .null, .int 0])) = g8 at *
  refine ev_aload_n (pc := 77) dX9_init_77 rfl ?_
  refine ev_bipush (pc := 78) (v := nI 16) dX9_init_78 (by decide) ?_
  refine ev_newi (M := m_X9_init) (pc := 80) (c := 7) (z := 1730) (N := 16) dX9_init_80 arI (by decide) (by decide) (by decide) (fun a9 ha9 => ?_)
  refine ev_th (h2 := ev_up g8 a9 (csr 9)) rfl ?_
  obtain ⟨A9, B9, C9⟩ := nc_step (g := a9) N9 X9 D9 ha9
  refine ev_putF (pc := 82) dX9_init_82 pF_X9_37 rfl C9 rfl rfl rfl ?_
  refine ev_th (h2 := ev_up (ev_up g8 a9 (csr 9)) M (.inr (7, [.ref a0, .ref a1, .ref a2, .ref a3, .ref a4, .int 0, .int 0, .ref a5, .ref a6, .ref a7, .int 0, .int 0, .ref a8, .ref a9, .null, .null, .null, .int 0, .null, .null, .int 0, .null, .int 0, .null, .int 0]))) rfl ?_
  obtain ⟨N10, X10⟩ := nc_put (y := .inr (7, [.ref a0, .ref a1, .ref a2, .ref a3, .ref a4, .int 0, .int 0, .ref a5, .ref a6, .ref a7, .int 0, .int 0, .ref a8, .ref a9, .null, .null, .null, .int 0, .null, .null, .int 0, .null, .int 0, .null, .int 0])) (by decide) A9 B9 C9
  have D10 : ev_up (ev_up g8 a9 (csr 9)) M (.inr (7, [.ref a0, .ref a1, .ref a2, .ref a3, .ref a4, .int 0, .int 0, .ref a5, .ref a6, .ref a7, .int 0, .int 0, .ref a8, .ref a9, .null, .null, .null, .int 0, .null, .null, .int 0, .null, .int 0, .null, .int 0])) M = some (.inr (7, [.ref a0, .ref a1, .ref a2, .ref a3, .ref a4, .int 0, .int 0, .ref a5, .ref a6, .ref a7, .int 0, .int 0, .ref a8, .ref a9, .null, .null, .null, .int 0, .null, .null, .int 0, .null, .int 0, .null, .int 0])) := ev_eqq
  clear A9 B9 C9 N9 X9 D9
  generalize hg9 : ev_up (ev_up g8 a9 (csr 9)) M (.inr (7, [.ref a0, .ref a1, .ref a2, .ref a3, .ref a4, .int 0, .int 0, .ref a5, .ref a6, .ref a7, .int 0, .int 0, .ref a8, .ref a9, .null, .null, .null, .int 0, .null, .null, .int 0, .null, .int 0, .null, .int 0])) = g9 at *
  refine ev_aload_n (pc := 85) dX9_init_85 rfl ?_
  refine ev_bipush (pc := 86) (v := nI 16) dX9_init_86 (by decide) ?_
  refine ev_newi (M := m_X9_init) (pc := 88) (c := 6) (z := 1714) (N := 16) dX9_init_88 arI (by decide) (by decide) (by decide) (fun a10 ha10 => ?_)
  refine ev_th (h2 := ev_up g9 a10 (csr 10)) rfl ?_
  obtain ⟨A10, B10, C10⟩ := nc_step (g := a10) N10 X10 D10 ha10
  refine ev_putF (pc := 90) dX9_init_90 pF_X9_40 rfl C10 rfl rfl rfl ?_
  refine ev_th (h2 := ev_up (ev_up g9 a10 (csr 10)) M (.inr (7, [.ref a0, .ref a1, .ref a2, .ref a3, .ref a4, .int 0, .int 0, .ref a5, .ref a6, .ref a7, .int 0, .int 0, .ref a8, .ref a9, .ref a10, .null, .null, .int 0, .null, .null, .int 0, .null, .int 0, .null, .int 0]))) rfl ?_
  obtain ⟨N11, X11⟩ := nc_put (y := .inr (7, [.ref a0, .ref a1, .ref a2, .ref a3, .ref a4, .int 0, .int 0, .ref a5, .ref a6, .ref a7, .int 0, .int 0, .ref a8, .ref a9, .ref a10, .null, .null, .int 0, .null, .null, .int 0, .null, .int 0, .null, .int 0])) (by decide) A10 B10 C10
  have D11 : ev_up (ev_up g9 a10 (csr 10)) M (.inr (7, [.ref a0, .ref a1, .ref a2, .ref a3, .ref a4, .int 0, .int 0, .ref a5, .ref a6, .ref a7, .int 0, .int 0, .ref a8, .ref a9, .ref a10, .null, .null, .int 0, .null, .null, .int 0, .null, .int 0, .null, .int 0])) M = some (.inr (7, [.ref a0, .ref a1, .ref a2, .ref a3, .ref a4, .int 0, .int 0, .ref a5, .ref a6, .ref a7, .int 0, .int 0, .ref a8, .ref a9, .ref a10, .null, .null, .int 0, .null, .null, .int 0, .null, .int 0, .null, .int 0])) := ev_eqq
  clear A10 B10 C10 N10 X10 D10
  generalize hg10 : ev_up (ev_up g9 a10 (csr 10)) M (.inr (7, [.ref a0, .ref a1, .ref a2, .ref a3, .ref a4, .int 0, .int 0, .ref a5, .ref a6, .ref a7, .int 0, .int 0, .ref a8, .ref a9, .ref a10, .null, .null, .int 0, .null, .null, .int 0, .null, .int 0, .null, .int 0])) = g10 at *
  refine ev_aload_n (pc := 93) dX9_init_93 rfl ?_
  refine ev_bipush (pc := 94) (v := nI 16) dX9_init_94 (by decide) ?_
  refine ev_newi (M := m_X9_init) (pc := 96) (c := 5) (z := 1698) (N := 16) dX9_init_96 arI (by decide) (by decide) (by decide) (fun a11 ha11 => ?_)
  refine ev_th (h2 := ev_up g10 a11 (csr 11)) rfl ?_
  obtain ⟨A11, B11, C11⟩ := nc_step (g := a11) N11 X11 D11 ha11
  refine ev_putF (pc := 98) dX9_init_98 pF_X9_43 rfl C11 rfl rfl rfl ?_
  refine ev_th (h2 := ev_up (ev_up g10 a11 (csr 11)) M (.inr (7, [.ref a0, .ref a1, .ref a2, .ref a3, .ref a4, .int 0, .int 0, .ref a5, .ref a6, .ref a7, .int 0, .int 0, .ref a8, .ref a9, .ref a10, .ref a11, .null, .int 0, .null, .null, .int 0, .null, .int 0, .null, .int 0]))) rfl ?_
  obtain ⟨N12, X12⟩ := nc_put (y := .inr (7, [.ref a0, .ref a1, .ref a2, .ref a3, .ref a4, .int 0, .int 0, .ref a5, .ref a6, .ref a7, .int 0, .int 0, .ref a8, .ref a9, .ref a10, .ref a11, .null, .int 0, .null, .null, .int 0, .null, .int 0, .null, .int 0])) (by decide) A11 B11 C11
  have D12 : ev_up (ev_up g10 a11 (csr 11)) M (.inr (7, [.ref a0, .ref a1, .ref a2, .ref a3, .ref a4, .int 0, .int 0, .ref a5, .ref a6, .ref a7, .int 0, .int 0, .ref a8, .ref a9, .ref a10, .ref a11, .null, .int 0, .null, .null, .int 0, .null, .int 0, .null, .int 0])) M = some (.inr (7, [.ref a0, .ref a1, .ref a2, .ref a3, .ref a4, .int 0, .int 0, .ref a5, .ref a6, .ref a7, .int 0, .int 0, .ref a8, .ref a9, .ref a10, .ref a11, .null, .int 0, .null, .null, .int 0, .null, .int 0, .null, .int 0])) := ev_eqq
  clear A11 B11 C11 N11 X11 D11
  generalize hg11 : ev_up (ev_up g10 a11 (csr 11)) M (.inr (7, [.ref a0, .ref a1, .ref a2, .ref a3, .ref a4, .int 0, .int 0, .ref a5, .ref a6, .ref a7, .int 0, .int 0, .ref a8, .ref a9, .ref a10, .ref a11, .null, .int 0, .null, .null, .int 0, .null, .int 0, .null, .int 0])) = g11 at *
  refine ev_aload_n (pc := 101) dX9_init_101 rfl ?_
  refine ev_bipush (pc := 102) (v := nI 16) dX9_init_102 (by decide) ?_
  refine ev_newi (M := m_X9_init) (pc := 104) (c := 4) (z := 1682) (N := 16) dX9_init_104 arI (by decide) (by decide) (by decide) (fun a12 ha12 => ?_)
  refine ev_th (h2 := ev_up g11 a12 (csr 12)) rfl ?_
  obtain ⟨A12, B12, C12⟩ := nc_step (g := a12) N12 X12 D12 ha12
  refine ev_putF (pc := 106) dX9_init_106 pF_X9_46 rfl C12 rfl rfl rfl ?_
  refine ev_th (h2 := ev_up (ev_up g11 a12 (csr 12)) M (.inr (7, [.ref a0, .ref a1, .ref a2, .ref a3, .ref a4, .int 0, .int 0, .ref a5, .ref a6, .ref a7, .int 0, .int 0, .ref a8, .ref a9, .ref a10, .ref a11, .ref a12, .int 0, .null, .null, .int 0, .null, .int 0, .null, .int 0]))) rfl ?_
  obtain ⟨N13, X13⟩ := nc_put (y := .inr (7, [.ref a0, .ref a1, .ref a2, .ref a3, .ref a4, .int 0, .int 0, .ref a5, .ref a6, .ref a7, .int 0, .int 0, .ref a8, .ref a9, .ref a10, .ref a11, .ref a12, .int 0, .null, .null, .int 0, .null, .int 0, .null, .int 0])) (by decide) A12 B12 C12
  have D13 : ev_up (ev_up g11 a12 (csr 12)) M (.inr (7, [.ref a0, .ref a1, .ref a2, .ref a3, .ref a4, .int 0, .int 0, .ref a5, .ref a6, .ref a7, .int 0, .int 0, .ref a8, .ref a9, .ref a10, .ref a11, .ref a12, .int 0, .null, .null, .int 0, .null, .int 0, .null, .int 0])) M = some (.inr (7, [.ref a0, .ref a1, .ref a2, .ref a3, .ref a4, .int 0, .int 0, .ref a5, .ref a6, .ref a7, .int 0, .int 0, .ref a8, .ref a9, .ref a10, .ref a11, .ref a12, .int 0, .null, .null, .int 0, .null, .int 0, .null, .int 0])) := ev_eqq
  clear A12 B12 C12 N12 X12 D12
  generalize hg12 : ev_up (ev_up g11 a12 (csr 12)) M (.inr (7, [.ref a0, .ref a1, .ref a2, .ref a3, .ref a4, .int 0, .int 0, .ref a5, .ref a6, .ref a7, .int 0, .int 0, .ref a8, .ref a9, .ref a10, .ref a11, .ref a12, .int 0, .null, .null, .int 0, .null, .int 0, .null, .int 0])) = g12 at *
  refine ev_aload_n (pc := 109) dX9_init_109 rfl ?_
  refine ev_bipush (pc := 110) (v := nI 16) dX9_init_110 (by decide) ?_
  refine ev_newi (M := m_X9_init) (pc := 112) (c := 3) (z := 1666) (N := 16) dX9_init_112 arI (by decide) (by decide) (by decide) (fun a13 ha13 => ?_)
  refine ev_th (h2 := ev_up g12 a13 (csr 13)) rfl ?_
  obtain ⟨A13, B13, C13⟩ := nc_step (g := a13) N13 X13 D13 ha13
  refine ev_putF (pc := 114) dX9_init_114 pF_X9_49 rfl C13 rfl rfl rfl ?_
  refine ev_th (h2 := ev_up (ev_up g12 a13 (csr 13)) M (.inr (7, [.ref a0, .ref a1, .ref a2, .ref a3, .ref a4, .int 0, .int 0, .ref a5, .ref a6, .ref a7, .int 0, .int 0, .ref a8, .ref a9, .ref a10, .ref a11, .ref a12, .int 0, .ref a13, .null, .int 0, .null, .int 0, .null, .int 0]))) rfl ?_
  obtain ⟨N14, X14⟩ := nc_put (y := .inr (7, [.ref a0, .ref a1, .ref a2, .ref a3, .ref a4, .int 0, .int 0, .ref a5, .ref a6, .ref a7, .int 0, .int 0, .ref a8, .ref a9, .ref a10, .ref a11, .ref a12, .int 0, .ref a13, .null, .int 0, .null, .int 0, .null, .int 0])) (by decide) A13 B13 C13
  have D14 : ev_up (ev_up g12 a13 (csr 13)) M (.inr (7, [.ref a0, .ref a1, .ref a2, .ref a3, .ref a4, .int 0, .int 0, .ref a5, .ref a6, .ref a7, .int 0, .int 0, .ref a8, .ref a9, .ref a10, .ref a11, .ref a12, .int 0, .ref a13, .null, .int 0, .null, .int 0, .null, .int 0])) M = some (.inr (7, [.ref a0, .ref a1, .ref a2, .ref a3, .ref a4, .int 0, .int 0, .ref a5, .ref a6, .ref a7, .int 0, .int 0, .ref a8, .ref a9, .ref a10, .ref a11, .ref a12, .int 0, .ref a13, .null, .int 0, .null, .int 0, .null, .int 0])) := ev_eqq
  clear A13 B13 C13 N13 X13 D13
  generalize hg13 : ev_up (ev_up g12 a13 (csr 13)) M (.inr (7, [.ref a0, .ref a1, .ref a2, .ref a3, .ref a4, .int 0, .int 0, .ref a5, .ref a6, .ref a7, .int 0, .int 0, .ref a8, .ref a9, .ref a10, .ref a11, .ref a12, .int 0, .ref a13, .null, .int 0, .null, .int 0, .null, .int 0])) = g13 at *
  refine ev_aload_n (pc := 117) dX9_init_117 rfl ?_
  refine ev_bipush (pc := 118) (v := nI 16) dX9_init_118 (by decide) ?_
  refine ev_newi (M := m_X9_init) (pc := 120) (c := 2) (z := 1650) (N := 16) dX9_init_120 arI (by decide) (by decide) (by decide) (fun a14 ha14 => ?_)
  refine ev_th (h2 := ev_up g13 a14 (csr 14)) rfl ?_
  obtain ⟨A14, B14, C14⟩ := nc_step (g := a14) N14 X14 D14 ha14
  refine ev_putF (pc := 122) dX9_init_122 pF_X9_52 rfl C14 rfl rfl rfl ?_
  refine ev_th (h2 := ev_up (ev_up g13 a14 (csr 14)) M (.inr (7, [.ref a0, .ref a1, .ref a2, .ref a3, .ref a4, .int 0, .int 0, .ref a5, .ref a6, .ref a7, .int 0, .int 0, .ref a8, .ref a9, .ref a10, .ref a11, .ref a12, .int 0, .ref a13, .ref a14, .int 0, .null, .int 0, .null, .int 0]))) rfl ?_
  obtain ⟨N15, X15⟩ := nc_put (y := .inr (7, [.ref a0, .ref a1, .ref a2, .ref a3, .ref a4, .int 0, .int 0, .ref a5, .ref a6, .ref a7, .int 0, .int 0, .ref a8, .ref a9, .ref a10, .ref a11, .ref a12, .int 0, .ref a13, .ref a14, .int 0, .null, .int 0, .null, .int 0])) (by decide) A14 B14 C14
  have D15 : ev_up (ev_up g13 a14 (csr 14)) M (.inr (7, [.ref a0, .ref a1, .ref a2, .ref a3, .ref a4, .int 0, .int 0, .ref a5, .ref a6, .ref a7, .int 0, .int 0, .ref a8, .ref a9, .ref a10, .ref a11, .ref a12, .int 0, .ref a13, .ref a14, .int 0, .null, .int 0, .null, .int 0])) M = some (.inr (7, [.ref a0, .ref a1, .ref a2, .ref a3, .ref a4, .int 0, .int 0, .ref a5, .ref a6, .ref a7, .int 0, .int 0, .ref a8, .ref a9, .ref a10, .ref a11, .ref a12, .int 0, .ref a13, .ref a14, .int 0, .null, .int 0, .null, .int 0])) := ev_eqq
  clear A14 B14 C14 N14 X14 D14
  generalize hg14 : ev_up (ev_up g13 a14 (csr 14)) M (.inr (7, [.ref a0, .ref a1, .ref a2, .ref a3, .ref a4, .int 0, .int 0, .ref a5, .ref a6, .ref a7, .int 0, .int 0, .ref a8, .ref a9, .ref a10, .ref a11, .ref a12, .int 0, .ref a13, .ref a14, .int 0, .null, .int 0, .null, .int 0])) = g14 at *
  refine ev_aload_n (pc := 125) dX9_init_125 rfl ?_
  refine ev_sipush (pc := 126) (v := nI 250) dX9_init_126 (by decide) ?_
  refine ev_newl (M := m_X9_init) (pc := 129) (c := 1) (z := 1400) (N := 250) dX9_init_129 arL (by decide) (by decide) (by decide) (fun a15 ha15 => ?_)
  refine ev_th (h2 := ev_up g14 a15 (csr 15)) rfl ?_
  obtain ⟨A15, B15, C15⟩ := nc_step (g := a15) N15 X15 D15 ha15
  refine ev_putF (pc := 131) dX9_init_131 pF_X9_55 rfl C15 rfl rfl rfl ?_
  refine ev_th (h2 := ev_up (ev_up g14 a15 (csr 15)) M (.inr (7, [.ref a0, .ref a1, .ref a2, .ref a3, .ref a4, .int 0, .int 0, .ref a5, .ref a6, .ref a7, .int 0, .int 0, .ref a8, .ref a9, .ref a10, .ref a11, .ref a12, .int 0, .ref a13, .ref a14, .int 0, .ref a15, .int 0, .null, .int 0]))) rfl ?_
  obtain ⟨N16, X16⟩ := nc_put (y := .inr (7, [.ref a0, .ref a1, .ref a2, .ref a3, .ref a4, .int 0, .int 0, .ref a5, .ref a6, .ref a7, .int 0, .int 0, .ref a8, .ref a9, .ref a10, .ref a11, .ref a12, .int 0, .ref a13, .ref a14, .int 0, .ref a15, .int 0, .null, .int 0])) (by decide) A15 B15 C15
  have D16 : ev_up (ev_up g14 a15 (csr 15)) M (.inr (7, [.ref a0, .ref a1, .ref a2, .ref a3, .ref a4, .int 0, .int 0, .ref a5, .ref a6, .ref a7, .int 0, .int 0, .ref a8, .ref a9, .ref a10, .ref a11, .ref a12, .int 0, .ref a13, .ref a14, .int 0, .ref a15, .int 0, .null, .int 0])) M = some (.inr (7, [.ref a0, .ref a1, .ref a2, .ref a3, .ref a4, .int 0, .int 0, .ref a5, .ref a6, .ref a7, .int 0, .int 0, .ref a8, .ref a9, .ref a10, .ref a11, .ref a12, .int 0, .ref a13, .ref a14, .int 0, .ref a15, .int 0, .null, .int 0])) := ev_eqq
  clear A15 B15 C15 N15 X15 D15
  generalize hg15 : ev_up (ev_up g14 a15 (csr 15)) M (.inr (7, [.ref a0, .ref a1, .ref a2, .ref a3, .ref a4, .int 0, .int 0, .ref a5, .ref a6, .ref a7, .int 0, .int 0, .ref a8, .ref a9, .ref a10, .ref a11, .ref a12, .int 0, .ref a13, .ref a14, .int 0, .ref a15, .int 0, .null, .int 0])) = g15 at *
  refine ev_aload_n (pc := 134) dX9_init_134 rfl ?_
  refine ev_sipush (pc := 135) (v := nI 1400) dX9_init_135 (by decide) ?_
  refine ev_newi (M := m_X9_init) (pc := 138) (c := 0) (z := 0) (N := 1400) dX9_init_138 arI (by decide) (by decide) (by decide) (fun a16 ha16 => ?_)
  refine ev_th (h2 := ev_up g15 a16 (csr 16)) rfl ?_
  obtain ⟨A16, B16, C16⟩ := nc_step (g := a16) N16 X16 D16 ha16
  refine ev_putF (pc := 140) dX9_init_140 pF_X9_59 rfl C16 rfl rfl rfl ?_
  refine ev_th (h2 := ev_up (ev_up g15 a16 (csr 16)) M (.inr (7, [.ref a0, .ref a1, .ref a2, .ref a3, .ref a4, .int 0, .int 0, .ref a5, .ref a6, .ref a7, .int 0, .int 0, .ref a8, .ref a9, .ref a10, .ref a11, .ref a12, .int 0, .ref a13, .ref a14, .int 0, .ref a15, .int 0, .ref a16, .int 0]))) rfl ?_
  obtain ⟨N17, X17⟩ := nc_put (y := .inr (7, [.ref a0, .ref a1, .ref a2, .ref a3, .ref a4, .int 0, .int 0, .ref a5, .ref a6, .ref a7, .int 0, .int 0, .ref a8, .ref a9, .ref a10, .ref a11, .ref a12, .int 0, .ref a13, .ref a14, .int 0, .ref a15, .int 0, .ref a16, .int 0])) (by decide) A16 B16 C16
  have D17 : ev_up (ev_up g15 a16 (csr 16)) M (.inr (7, [.ref a0, .ref a1, .ref a2, .ref a3, .ref a4, .int 0, .int 0, .ref a5, .ref a6, .ref a7, .int 0, .int 0, .ref a8, .ref a9, .ref a10, .ref a11, .ref a12, .int 0, .ref a13, .ref a14, .int 0, .ref a15, .int 0, .ref a16, .int 0])) M = some (.inr (7, [.ref a0, .ref a1, .ref a2, .ref a3, .ref a4, .int 0, .int 0, .ref a5, .ref a6, .ref a7, .int 0, .int 0, .ref a8, .ref a9, .ref a10, .ref a11, .ref a12, .int 0, .ref a13, .ref a14, .int 0, .ref a15, .int 0, .ref a16, .int 0])) := ev_eqq
  clear A16 B16 C16 N16 X16 D16
  generalize hg16 : ev_up (ev_up g15 a16 (csr 16)) M (.inr (7, [.ref a0, .ref a1, .ref a2, .ref a3, .ref a4, .int 0, .int 0, .ref a5, .ref a6, .ref a7, .int 0, .int 0, .ref a8, .ref a9, .ref a10, .ref a11, .ref a12, .int 0, .ref a13, .ref a14, .int 0, .ref a15, .int 0, .ref a16, .int 0])) = g16 at *
  have key : ∃ A : Nat → Nat, A 17 = M ∧ ml A (fun _ => 0) = [.ref a0, .ref a1, .ref a2, .ref a3, .ref a4, .int 0, .int 0, .ref a5, .ref a6, .ref a7, .int 0, .int 0, .ref a8, .ref a9, .ref a10, .ref a11, .ref a12, .int 0, .ref a13, .ref a14, .int 0, .ref a15, .int 0, .ref a16, .int 0] ∧ MD A ∧ (∀ k, k < 17 → g16 (A k) = some (csr k)) ∧ ∀ k, k < 17 → H (A k) = none := by
    refine ⟨aset (aset (aset (aset (aset (aset (aset (aset (aset (aset (aset (aset (aset (aset (aset (aset (aset (aset (fun _ => 0) 0 a0) 1 a1) 2 a2) 3 a3) 4 a4) 5 a5) 6 a6) 7 a7) 8 a8) 9 a9) 10 a10) 11 a11) 12 a12) 13 a13) 14 a14) 15 a15) 16 a16) 17 M, rfl, rfl, ?_, fun k hk => ?_, fun k hk => ?_⟩
    · intro i j hi hj hij
      have lo : ∀ {i}, i < 17 → aset (aset (aset (aset (aset (aset (aset (aset (aset (aset (aset (aset (aset (aset (aset (aset (aset (aset (fun _ => 0) 0 a0) 1 a1) 2 a2) 3 a3) 4 a4) 5 a5) 6 a6) 7 a7) 8 a8) 9 a9) 10 a10) 11 a11) 12 a12) 13 a13) 14 a14) 15 a15) 16 a16) 17 M i = (aset (aset (aset (aset (aset (aset (aset (aset (aset (aset (aset (aset (aset (aset (aset (aset (aset (fun _ => 0) 0 a0) 1 a1) 2 a2) 3 a3) 4 a4) 5 a5) 6 a6) 7 a7) 8 a8) 9 a9) 10 a10) 11 a11) 12 a12) 13 a13) 14 a14) 15 a15) 16 a16) i := fun hi => if_neg (by omega)
      have nm : ∀ {i}, i < 17 → (aset (aset (aset (aset (aset (aset (aset (aset (aset (aset (aset (aset (aset (aset (aset (aset (aset (fun _ => 0) 0 a0) 1 a1) 2 a2) 3 a3) 4 a4) 5 a5) 6 a6) 7 a7) 8 a8) 9 a9) 10 a10) 11 a11) 12 a12) 13 a13) 14 a14) 15 a15) 16 a16) i ≠ M := fun hi e => by
        have := (N17.1 _ hi).1
        rw [e, D17] at this
        exact csr_r _ hi _ (Option.some.inj this).symm
      by_cases r : i = 17
      · have r2 : j < 17 := by omega
        rw [lo r2, r]
        exact fun e => nm r2 (e.symm.trans rfl)
      · by_cases r2 : j = 17
        · rw [lo (show i < 17 by omega), r2]
          exact fun e => nm (show i < 17 by omega) (e.trans rfl)
        · rw [lo (show i < 17 by omega), lo (show j < 17 by omega)]
          exact N17.2 i j (by omega) (by omega) hij
    · rw [show aset (aset (aset (aset (aset (aset (aset (aset (aset (aset (aset (aset (aset (aset (aset (aset (aset (aset (fun _ => 0) 0 a0) 1 a1) 2 a2) 3 a3) 4 a4) 5 a5) 6 a6) 7 a7) 8 a8) 9 a9) 10 a10) 11 a11) 12 a12) 13 a13) 14 a14) 15 a15) 16 a16) 17 M k = (aset (aset (aset (aset (aset (aset (aset (aset (aset (aset (aset (aset (aset (aset (aset (aset (aset (fun _ => 0) 0 a0) 1 a1) 2 a2) 3 a3) 4 a4) 5 a5) 6 a6) 7 a7) 8 a8) 9 a9) 10 a10) 11 a11) 12 a12) 13 a13) 14 a14) 15 a15) 16 a16) k from if_neg (by omega)]
      exact (N17.1 k hk).1
    · rw [show aset (aset (aset (aset (aset (aset (aset (aset (aset (aset (aset (aset (aset (aset (aset (aset (aset (aset (fun _ => 0) 0 a0) 1 a1) 2 a2) 3 a3) 4 a4) 5 a5) 6 a6) 7 a7) 8 a8) 9 a9) 10 a10) 11 a11) 12 a12) 13 a13) 14 a14) 15 a15) 16 a16) 17 M k = (aset (aset (aset (aset (aset (aset (aset (aset (aset (aset (aset (aset (aset (aset (aset (aset (aset (fun _ => 0) 0 a0) 1 a1) 2 a2) 3 a3) 4 a4) 5 a5) 6 a6) 7 a7) 8 a8) 9 a9) 10 a10) 11 a11) 12 a12) 13 a13) 14 a14) 15 a15) 16 a16) k from if_neg (by omega)]
      exact (N17.1 k hk).2
  obtain ⟨A, A17, eml, hMD, hcs, hfr⟩ := key
  have hMS : MS g16 A (fun _ => 0) (fun _ => 0) (fun _ _ => 0) (fun _ _ => 0) (fun _ => 0) (fun _ => 0) := by
    refine ⟨hMD, fun _ => 0, fun _ => 0, fun i hi => ⟨Nat.zero_le 140, fun k hk => absurd hk (Nat.not_lt_zero k), fun q => absurd q (Nat.lt_irrefl 0), rfl⟩, fun k hk => ?_⟩
    by_cases r : k = 17
    · subst r
      rw [A17, D17, ← eml]
      rfl
    · rw [hcs k (by omega)]
      unfold csr mcell
      by_cases q1 : k = 0
      · rw [if_pos q1, if_pos q1]
      rw [if_neg q1, if_neg q1]
      by_cases q2 : k = 1
      · rw [if_pos q2, if_pos q2]
      rw [if_neg q2, if_neg q2]
      by_cases q3 : k < 8
      · rw [if_pos q3, if_pos q3]
      rw [if_neg q3, if_neg q3]
      by_cases q4 : k < 15
      · rw [if_pos q4, if_pos q4]
      rw [if_neg q4, if_neg q4]
      by_cases q5 : k = 15
      · rw [if_pos q5, if_pos q5]
      rw [if_neg q5, if_neg q5, if_pos (by omega), if_pos (by omega)]
  subst A17
  refine ev_iconst (pc := 143) (v := nI 0) dX9_init_143 (by decide) ?_
  refine ev_istore_n (pc := 144) dX9_init_144 rfl ?_
  refine ev_vs [(0, .ref (A 17)), (1, .int (nI 0))] ⟨rfl, rfl, trivial⟩ ?_
  refine l_rinit (H := g16) (by omega) (by omega) (fun v1 Q1 h1 p1 p2 p3 => ?_) 8 0 _ _ g16 (by omega) ⟨hMS, MF.rf⟩ (fun j hj => absurd hj (Nat.not_lt_zero j)) (fun k hk j hj => absurd hj (Nat.not_lt_zero j))
  obtain ⟨h2, hF2⟩ := p1
  refine ev_aload_n (pc := 195) dX9_init_195 rfl ?_
  refine ev_bipush (pc := 196) (v := nI 32) dX9_init_196 (by decide) ?_
  refine ev_lconst (pc := 198) (v := lN 1) dX9_init_198 (by decide) ?_
  refine ev_callV (pc := 199) (As := [.int (nI 32), .long (lN 1)]) dX9_init_199 cv_X9_62 rfl rfl (ms_M h2) rfl ⟨by show 19 + 6 ≤ w; omega, show ev_Ca _ _ (w - 25) _ _ _ _ _ _ from m_set (r := 32) (by omega) h2 (by omega) (by decide)⟩ rfl rfl (fun r h1 hp => ?_)
  obtain ⟨rfl, h3, hF3⟩ := hp
  refine ev_aload_n (pc := 202) dX9_init_202 rfl ?_
  refine ev_bipush (pc := 203) (v := nI 33) dX9_init_203 (by decide) ?_
  refine ev_lconst (pc := 205) (v := lN 1) dX9_init_205 (by decide) ?_
  refine ev_callV (pc := 206) (As := [.int (nI 33), .long (lN 1)]) dX9_init_206 cv_X9_62 rfl rfl (ms_M h3) rfl ⟨by show 19 + 6 ≤ w; omega, show ev_Ca _ _ (w - 25) _ _ _ _ _ _ from m_set (r := 33) (by omega) h3 (by omega) (by decide)⟩ rfl rfl (fun r h1 hp => ?_)
  obtain ⟨rfl, h4, hF4⟩ := hp
  refine ev_vret (pc := 209) dX9_init_209 rfl ⟨rfl, A, rfl, _, Q1, h4, fun j hj => ?_, p3, rfl, rfl, hfr, fun a x ha hn => ?_⟩
  · rw [va_up_ne _ _ (by omega), va_up_ne _ _ (by omega), va_up_ne _ _ (by omega), va_up_ne _ _ (by omega)]
    exact p2 j hj
  · rw [((hF2.tr hF3).tr hF4) a (fun k hk e => ?_)]
    · exact X17 a x ha hn
    · by_cases r : k = 17
      · rw [r] at e; exact hn e
      · rw [e, hfr k (by omega)] at ha; cases ha
end CON3
