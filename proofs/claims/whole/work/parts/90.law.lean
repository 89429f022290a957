/-! THE LAW: one call after another -/
theorem ev_rs {G : ev_G} {C : ev_L} {w : Nat} {M : ev_M} {K : ev_K} {pc : Nat} {L : ev_V} {st : List Value} {h : ev_H} {c z i n a : Nat} {f : Nat → Int32} (hd : decode M.2.1 pc = .ok (.iaload, 1)) (ha : G.1 a = some (n, f)) (hi : i < n) (hN : n < 2 ^ 31) (k : ev_J G C w M K (pc + 1, L, .int (f i) :: st, h, c, z)) : ev_J G C w M K (pc, L, .int (nI i) :: .ref a :: st, h, c, z) := ev_riald hd ha (vp_in_nI hi hN) (ev_ti (by rw [nI_clamp (by omega)]) k)
theorem lc_self (x : Int64) : lg_cmp x x = 0 := ((lc_i x x).2.2.2.2).2 rfl
/-- the law's own row of one long -/
def oh (o : Nat) (g : Nat → Int64) : ev_H := ev_up (fun _ => none) o (.inl (.long, 1, .inr (.inl g)))
/-- its heap: the program's part, the reference's, its own -/
def lh (pp rr : ev_H) (o : Nat) (g : Nat → Int64) : ev_H := ev_jn pp (ev_jn rr (oh o g))
def ld (pp rr : ev_H) (o : Nat) (g : Nat → Int64) : Prop := dj pp rr ∧ dj pp (oh o g) ∧ dj rr (oh o g)
def lv_ (b x m o i : Nat) : ev_V := ev_lf [(0, .ref b), (1, .ref x), (2, .ref m), (3, .ref o), (4, .int (nI i))]
section LAW
variable {G : ev_G} {C : ev_L} {w dd : Nat} {K : ev_K} {c z b L i o n : Nat} {xs : Nat → Int32} {pp rr : ev_H} {g : Nat → Int64} {bp : Nat → Nat} {lay : Nat → Nat × Nat} {sa sb ga : Nat → Nat} {tc : Nat} {A : Nat → Nat}
/-- what the law's calls may use -/
def LC (G : ev_G) (C : ev_L) (dd w : Nat) : Prop := ∀ N a h c z K, (19 + N.2.2.1 ≤ w ∧ ev_Ca G dd (w - (19 + N.2.2.1)) N a h c z K) → C N a h c z K
/-- the law goes on behind a call -/
def LN (G : ev_G) (C : ev_L) (w : Nat) (K : ev_K) (b i o : Nat) (bp : Nat → Nat) (lay : Nat → Nat × Nat) (sa sb ga : Nat → Nat) (tc : Nat) (A : Nat → Nat) (n : Nat) : Prop := ∀ V pp rr g c z, n ≤ c ∧ 6 * n ≤ z → ev_hs V [(0, .ref b), (1, .ref (bp 0)), (2, .ref (A 17)), (3, .ref o), (4, .int (nI i))] → JI pp rr bp lay sa sb ga tc A → ld pp rr o g → ev_J G C w m_L_law K (674, V, [], lh pp rr o g, c, z)
theorem ld_p {p2 : ev_H} (d : ld pp rr o g) (h : ∀ q x, ev_jn rr (oh o g) q = some x → p2 q = none) : ld p2 rr o g := ⟨(dj_q h).1, (dj_q h).2, d.2.2⟩
theorem ld_r {r2 : ev_H} (d : ld pp rr o g) (h : ∀ q x, ev_jn pp (oh o g) q = some x → r2 q = none) : ld pp r2 o g := ⟨(dj_q h).1.sy, d.2.1, (dj_q h).2⟩
theorem c_members (hd : 10 ≤ dd) (hw : 400 ≤ w) (hC : LC G C dd w) (hD : PD bp sa sb ga) (hb : G.1 b = some (L, xs)) (hi : i + 6 ≤ L) (hL : L ≤ 3072) (hJ : JI pp rr bp lay sa sb ga tc A) (d : ld pp rr o g) (hc : n + 1 ≤ c ∧ 6 * (n + 1) ≤ z) (hN : LN G C w K b i o bp lay sa sb ga tc A n) : ev_J G C w m_L_law K (316, lv_ b (bp 0) (A 17) o i, [], lh pp rr o g, c, z) := by
  obtain ⟨P, fu, fd, mem, val, ba, dn, R, wa, ar, lv, f, len, I, v, Q, Rr, lvr, fr, hPF, hPV, hM, hRE⟩ := hJ
  obtain ⟨hW, hB, hS, ⟨Pb, fub, fdb, memb, hT⟩, hA, hV, hX⟩ := id hPF
  obtain ⟨⟨vP, vf, vfb, vm⟩, ⟨v1, v2, v3, v4, v5⟩, vz, ⟨v9, v10⟩, vo, kd, sh, vE⟩ := id hPV
  obtain ⟨⟨r0, r1, r3, r4, r5, r6⟩, ra, rd, rr5, rr6, rlv, rf⟩ := id hRE
  refine ev_aload_n (pc := 316) dL_law_316 rfl ?_
  refine ev_callVf (pc := 317) (As := []) (hs := pp) (hf := (ev_jn rr (oh o g))) dL_law_317 cv_L_52 rfl rfl hB.1 rfl (hC _ _ _ _ _ _ ⟨by show 19 + 1 ≤ w; omega, show ev_Ca _ _ (w - 20) _ _ _ _ _ _ from k_members (by omega) hB hS v1⟩) rfl rfl rfl (dj_f (dj_jn d.1 d.2.1)) (fun r h1 hp hq => ?_)
  obtain ⟨rfl, hH⟩ := hp
  rw [hH]
  clear hH hq h1
  refine ev_aload_n (pc := 320) dL_law_320 rfl ?_
  refine ev_callVf (pc := 321) (As := []) (hs := rr) (hf := (ev_jn pp (oh o g))) dL_law_321 cv_L_55 rfl rfl (ms_M hM) rfl (hC _ _ _ _ _ _ ⟨by show 19 + 1 ≤ w; omega, show ev_Ca _ _ (w - 20) _ _ _ _ _ _ from k_rmembers (by omega) hM (by omega)⟩) rfl rfl (jn_sw d.1) (dj_f (dj_jn d.1.sy d.2.2)) (fun r h1 hp hq => ?_)
  obtain ⟨rfl, hM2, -⟩ := hp
  rw [r1, r0]
  refine ev_icmp_eq (pc := 324) (tgt := 674) dL_law_324 (by decide) (fun _ => ?_) (fun q => absurd rfl q)
  refine ev_th (jn_sw (dj_q hq).1) ?_
  exact hN _ pp h1 g _ _ (by omega) ⟨rfl, rfl, rfl, rfl, rfl, trivial⟩ ⟨P, fu, fd, mem, val, ba, dn, R, wa, ar, lv, f, len, _, v, Q, Rr, lvr, fr, hPF, hPV, hM2, hRE⟩ (ld_r d hq)
theorem c_days (hd : 10 ≤ dd) (hw : 400 ≤ w) (hC : LC G C dd w) (hD : PD bp sa sb ga) (hb : G.1 b = some (L, xs)) (hi : i + 6 ≤ L) (hL : L ≤ 3072) (hJ : JI pp rr bp lay sa sb ga tc A) (d : ld pp rr o g) (hc : n + 1 ≤ c ∧ 6 * (n + 1) ≤ z) (hN : LN G C w K b i o bp lay sa sb ga tc A n) : ev_J G C w m_L_law K (496, lv_ b (bp 0) (A 17) o i, [], lh pp rr o g, c, z) := by
  obtain ⟨P, fu, fd, mem, val, ba, dn, R, wa, ar, lv, f, len, I, v, Q, Rr, lvr, fr, hPF, hPV, hM, hRE⟩ := hJ
  obtain ⟨hW, hB, hS, ⟨Pb, fub, fdb, memb, hT⟩, hA, hV, hX⟩ := id hPF
  obtain ⟨⟨vP, vf, vfb, vm⟩, ⟨v1, v2, v3, v4, v5⟩, vz, ⟨v9, v10⟩, vo, kd, sh, vE⟩ := id hPV
  obtain ⟨⟨r0, r1, r3, r4, r5, r6⟩, ra, rd, rr5, rr6, rlv, rf⟩ := id hRE
  refine ev_aload_n (pc := 496) dL_law_496 rfl ?_
  refine ev_callVf (pc := 497) (As := []) (hs := pp) (hf := (ev_jn rr (oh o g))) dL_law_497 cv_L_74 rfl rfl hB.1 rfl (hC _ _ _ _ _ _ ⟨by show 19 + 1 ≤ w; omega, show ev_Ca _ _ (w - 20) _ _ _ _ _ _ from k_days (by omega) hB v1⟩) rfl rfl rfl (dj_f (dj_jn d.1 d.2.1)) (fun r h1 hp hq => ?_)
  obtain ⟨rfl, hH⟩ := hp
  rw [hH]
  clear hH hq h1
  refine ev_aload_n (pc := 500) dL_law_500 rfl ?_
  refine ev_callVf (pc := 501) (As := []) (hs := rr) (hf := (ev_jn pp (oh o g))) dL_law_501 cv_L_77 rfl rfl (ms_M hM) rfl (hC _ _ _ _ _ _ ⟨by show 19 + 1 ≤ w; omega, show ev_Ca _ _ (w - 20) _ _ _ _ _ _ from k_rdays (by omega) hM (by omega)⟩) rfl rfl (jn_sw d.1) (dj_f (dj_jn d.1.sy d.2.2)) (fun r h1 hp hq => ?_)
  obtain ⟨rfl, hM2, -⟩ := hp
  rw [r1, r5]
  refine ev_icmp_eq (pc := 504) (tgt := 674) dL_law_504 (by decide) (fun _ => ?_) (fun q => absurd rfl q)
  refine ev_th (jn_sw (dj_q hq).1) ?_
  exact hN _ pp h1 g _ _ (by omega) ⟨rfl, rfl, rfl, rfl, rfl, trivial⟩ ⟨P, fu, fd, mem, val, ba, dn, R, wa, ar, lv, f, len, _, v, Q, Rr, lvr, fr, hPF, hPV, hM2, hRE⟩ (ld_r d hq)
theorem c_check (hd : 10 ≤ dd) (hw : 400 ≤ w) (hC : LC G C dd w) (hD : PD bp sa sb ga) (hb : G.1 b = some (L, xs)) (hi : i + 6 ≤ L) (hL : L ≤ 3072) (hJ : JI pp rr bp lay sa sb ga tc A) (d : ld pp rr o g) (hc : n + 1 ≤ c ∧ 6 * (n + 1) ≤ z) (hN : LN G C w K b i o bp lay sa sb ga tc A n) : ev_J G C w m_L_law K (661, lv_ b (bp 0) (A 17) o i, [], lh pp rr o g, c, z) := by
  obtain ⟨P, fu, fd, mem, val, ba, dn, R, wa, ar, lv, f, len, I, v, Q, Rr, lvr, fr, hPF, hPV, hM, hRE⟩ := hJ
  obtain ⟨hW, hB, hS, ⟨Pb, fub, fdb, memb, hT⟩, hA, hV, hX⟩ := id hPF
  obtain ⟨⟨vP, vf, vfb, vm⟩, ⟨v1, v2, v3, v4, v5⟩, vz, ⟨v9, v10⟩, vo, kd, sh, vE⟩ := id hPV
  obtain ⟨⟨r0, r1, r3, r4, r5, r6⟩, ra, rd, rr5, rr6, rlv, rf⟩ := id hRE
  refine ev_aload_n (pc := 661) dL_law_661 rfl ?_
  refine ev_callVf (pc := 662) (As := []) (hs := pp) (hf := (ev_jn rr (oh o g))) dL_law_662 cv_L_104 rfl rfl hB.1 rfl (hC _ _ _ _ _ _ ⟨by show 19 + 1 ≤ w; omega, show ev_Ca _ _ (w - 20) _ _ _ _ _ _ from k_check (by omega) hB v1 (by decide)⟩) rfl rfl rfl (dj_f (dj_jn d.1 d.2.1)) (fun r h1 hp hq => ?_)
  obtain ⟨rfl, hH⟩ := hp
  rw [hH]
  clear hH hq h1
  refine ev_aload_n (pc := 665) dL_law_665 rfl ?_
  refine ev_callVf (pc := 666) (As := []) (hs := rr) (hf := (ev_jn pp (oh o g))) dL_law_666 cv_L_107 rfl rfl (ms_M hM) rfl (hC _ _ _ _ _ _ ⟨by show 19 + 1 ≤ w; omega, show ev_Ca _ _ (w - 20) _ _ _ _ _ _ from k_rcheck (by omega) hM (by omega)⟩) rfl rfl (jn_sw d.1) (dj_f (dj_jn d.1.sy d.2.2)) (fun r h1 hp hq => ?_)
  obtain ⟨rfl, hM2, -⟩ := hp
  rw [r1]
  refine ev_icmp_eq (pc := 669) (tgt := 674) dL_law_669 (by decide) (fun _ => ?_) (fun q => absurd rfl q)
  refine ev_th (jn_sw (dj_q hq).1) ?_
  exact hN _ pp h1 g _ _ (by omega) ⟨rfl, rfl, rfl, rfl, rfl, trivial⟩ ⟨P, fu, fd, mem, val, ba, dn, R, wa, ar, lv, f, len, _, v, Q, Rr, lvr, fr, hPF, hPV, hM2, hRE⟩ (ld_r d hq)
theorem c_outcome (hd : 10 ≤ dd) (hw : 400 ≤ w) (hC : LC G C dd w) (hD : PD bp sa sb ga) (hb : G.1 b = some (L, xs)) (hi : i + 6 ≤ L) (hL : L ≤ 3072) (hJ : JI pp rr bp lay sa sb ga tc A) (d : ld pp rr o g) (hc : n + 1 ≤ c ∧ 6 * (n + 1) ≤ z) (hN : LN G C w K b i o bp lay sa sb ga tc A n) : ev_J G C w m_L_law K (446, lv_ b (bp 0) (A 17) o i, [], lh pp rr o g, c, z) := by
  obtain ⟨P, fu, fd, mem, val, ba, dn, R, wa, ar, lv, f, len, I, v, Q, Rr, lvr, fr, hPF, hPV, hM, hRE⟩ := hJ
  obtain ⟨hW, hB, hS, ⟨Pb, fub, fdb, memb, hT⟩, hA, hV, hX⟩ := id hPF
  obtain ⟨⟨vP, vf, vfb, vm⟩, ⟨v1, v2, v3, v4, v5⟩, vz, ⟨v9, v10⟩, vo, kd, sh, vE⟩ := id hPV
  obtain ⟨⟨r0, r1, r3, r4, r5, r6⟩, ra, rd, rr5, rr6, rlv, rf⟩ := id hRE
  refine ev_aload_n (pc := 446) dL_law_446 rfl ?_
  refine ev_aload_n (pc := 447) dL_law_447 rfl ?_
  refine ev_iload (pc := 448) dL_law_448 rfl ?_
  refine ev_iconst (pc := 450) (v := nI 1) dL_law_450 (by decide) ?_
  refine ev_iaddN (pc := 451) dL_law_451 ?_
  refine ev_rs (pc := 452) dL_law_452 hb (by omega) (by omega) ?_
  refine ev_callVf (pc := 453) (As := [.int (xs (i + 1))]) (hs := pp) (hf := (ev_jn rr (oh o g))) dL_law_453 cv_L_65 rfl rfl hB.1 rfl (hC _ _ _ _ _ _ ⟨by show 19 + 2 ≤ w; omega, show ev_Ca _ _ (w - 21) _ _ _ _ _ _ from k_outcome (by omega) (by omega) hB hA v4⟩) rfl rfl rfl (dj_f (dj_jn d.1 d.2.1)) (fun r h1 hp hq => ?_)
  obtain ⟨hp, hH⟩ := hp
  rw [hH]
  clear hH hq h1
  have hp1 := hp
  clear hp
  have goal : ∀ y : Int32, r = some (.int y) → ev_J G C w m_L_law K (456, lv_ b (bp 0) (A 17) o i, [.int y], lh pp rr o g, c, z) := by
    intro y hy
    subst hy
    refine ev_aload_n (pc := 456) dL_law_456 rfl ?_
    refine ev_aload_n (pc := 457) dL_law_457 rfl ?_
    refine ev_iload (pc := 458) dL_law_458 rfl ?_
    refine ev_iconst (pc := 460) (v := nI 1) dL_law_460 (by decide) ?_
    refine ev_iaddN (pc := 461) dL_law_461 ?_
    refine ev_rs (pc := 462) dL_law_462 hb (by omega) (by omega) ?_
    refine ev_callVf (pc := 463) (As := [.int (xs (i + 1))]) (hs := rr) (hf := (ev_jn pp (oh o g))) dL_law_463 cv_L_69 rfl rfl (ms_M hM) rfl (hC _ _ _ _ _ _ ⟨by show 19 + 2 ≤ w; omega, show ev_Ca _ _ (w - 21) _ _ _ _ _ _ from k_routcome (by omega) (by omega) hM (by omega)⟩) rfl rfl (jn_sw d.1) (dj_f (dj_jn d.1.sy d.2.2)) (fun r h1 hp hq => ?_)
    obtain ⟨hp, hM2, -⟩ := hp
    rw [r4] at hp
    have eqv : r = some (.int y) := by
      rcases hp1 with ⟨e1, e2⟩ | ⟨e1, e2⟩
      · rcases hp with ⟨f1, f2⟩ | ⟨f1, f2⟩
        · rw [f2, e2]
          congr 2
          skip
          exact ((rr6 (xs (i + 1)).toInt.toNat (by have := e1.1; have := e1.2; omega)).1)
        · exact absurd e1 f1
      · rcases hp with ⟨f1, f2⟩ | ⟨f1, f2⟩
        · exact absurd f1 e1
        · rw [f2, e2]
    subst eqv
    have eqv : y = y := rfl
    refine ev_icmp_eq (pc := 466) (tgt := 674) dL_law_466 (by decide) (fun _ => ?_) (fun q => absurd eqv q)
    refine ev_th (jn_sw (dj_q hq).1) ?_
    exact hN _ pp h1 g _ _ (by omega) ⟨rfl, rfl, rfl, rfl, rfl, trivial⟩ ⟨P, fu, fd, mem, val, ba, dn, R, wa, ar, lv, f, len, _, v, Q, Rr, lvr, fr, hPF, hPV, hM2, hRE⟩ (ld_r d hq)
  rcases hp1 with ⟨e1, e2⟩ | ⟨e1, e2⟩
  · have h9 := goal _ e2
    rw [e2]
    exact h9
  · have h9 := goal _ e2
    rw [e2]
    exact h9
theorem c_noted (hd : 10 ≤ dd) (hw : 400 ≤ w) (hC : LC G C dd w) (hD : PD bp sa sb ga) (hb : G.1 b = some (L, xs)) (hi : i + 6 ≤ L) (hL : L ≤ 3072) (hJ : JI pp rr bp lay sa sb ga tc A) (d : ld pp rr o g) (hc : n + 1 ≤ c ∧ 6 * (n + 1) ≤ z) (hN : LN G C w K b i o bp lay sa sb ga tc A n) : ev_J G C w m_L_law K (471, lv_ b (bp 0) (A 17) o i, [], lh pp rr o g, c, z) := by
  obtain ⟨P, fu, fd, mem, val, ba, dn, R, wa, ar, lv, f, len, I, v, Q, Rr, lvr, fr, hPF, hPV, hM, hRE⟩ := hJ
  obtain ⟨hW, hB, hS, ⟨Pb, fub, fdb, memb, hT⟩, hA, hV, hX⟩ := id hPF
  obtain ⟨⟨vP, vf, vfb, vm⟩, ⟨v1, v2, v3, v4, v5⟩, vz, ⟨v9, v10⟩, vo, kd, sh, vE⟩ := id hPV
  obtain ⟨⟨r0, r1, r3, r4, r5, r6⟩, ra, rd, rr5, rr6, rlv, rf⟩ := id hRE
  refine ev_aload_n (pc := 471) dL_law_471 rfl ?_
  refine ev_aload_n (pc := 472) dL_law_472 rfl ?_
  refine ev_iload (pc := 473) dL_law_473 rfl ?_
  refine ev_iconst (pc := 475) (v := nI 1) dL_law_475 (by decide) ?_
  refine ev_iaddN (pc := 476) dL_law_476 ?_
  refine ev_rs (pc := 477) dL_law_477 hb (by omega) (by omega) ?_
  refine ev_callVf (pc := 478) (As := [.int (xs (i + 1))]) (hs := pp) (hf := (ev_jn rr (oh o g))) dL_law_478 cv_L_70 rfl rfl hB.1 rfl (hC _ _ _ _ _ _ ⟨by show 19 + 2 ≤ w; omega, show ev_Ca _ _ (w - 21) _ _ _ _ _ _ from k_noted (by omega) (by omega) hB hA v4⟩) rfl rfl rfl (dj_f (dj_jn d.1 d.2.1)) (fun r h1 hp hq => ?_)
  obtain ⟨hp, hH⟩ := hp
  rw [hH]
  clear hH hq h1
  have hp1 := hp
  clear hp
  have goal : ∀ y : Int32, r = some (.int y) → ev_J G C w m_L_law K (481, lv_ b (bp 0) (A 17) o i, [.int y], lh pp rr o g, c, z) := by
    intro y hy
    subst hy
    refine ev_aload_n (pc := 481) dL_law_481 rfl ?_
    refine ev_aload_n (pc := 482) dL_law_482 rfl ?_
    refine ev_iload (pc := 483) dL_law_483 rfl ?_
    refine ev_iconst (pc := 485) (v := nI 1) dL_law_485 (by decide) ?_
    refine ev_iaddN (pc := 486) dL_law_486 ?_
    refine ev_rs (pc := 487) dL_law_487 hb (by omega) (by omega) ?_
    refine ev_callVf (pc := 488) (As := [.int (xs (i + 1))]) (hs := rr) (hf := (ev_jn pp (oh o g))) dL_law_488 cv_L_73 rfl rfl (ms_M hM) rfl (hC _ _ _ _ _ _ ⟨by show 19 + 2 ≤ w; omega, show ev_Ca _ _ (w - 21) _ _ _ _ _ _ from k_rnoted (by omega) (by omega) hM (by omega)⟩) rfl rfl (jn_sw d.1) (dj_f (dj_jn d.1.sy d.2.2)) (fun r h1 hp hq => ?_)
    obtain ⟨hp, hM2, -⟩ := hp
    rw [r4] at hp
    have eqv : r = some (.int y) := by
      rcases hp1 with ⟨e1, e2⟩ | ⟨e1, e2⟩
      · rcases hp with ⟨f1, f2⟩ | ⟨f1, f2⟩
        · rw [f2, e2]
          congr 2
          skip
          exact ((rr6 (xs (i + 1)).toInt.toNat (by have := e1.1; have := e1.2; omega)).2)
        · exact absurd e1 f1
      · rcases hp with ⟨f1, f2⟩ | ⟨f1, f2⟩
        · exact absurd f1 e1
        · rw [f2, e2]
    subst eqv
    have eqv : y = y := rfl
    refine ev_icmp_eq (pc := 491) (tgt := 674) dL_law_491 (by decide) (fun _ => ?_) (fun q => absurd eqv q)
    refine ev_th (jn_sw (dj_q hq).1) ?_
    exact hN _ pp h1 g _ _ (by omega) ⟨rfl, rfl, rfl, rfl, rfl, trivial⟩ ⟨P, fu, fd, mem, val, ba, dn, R, wa, ar, lv, f, len, _, v, Q, Rr, lvr, fr, hPF, hPV, hM2, hRE⟩ (ld_r d hq)
  rcases hp1 with ⟨e1, e2⟩ | ⟨e1, e2⟩
  · have h9 := goal _ e2
    rw [e2]
    exact h9
  · have h9 := goal _ e2
    rw [e2]
    exact h9
theorem c_character (hd : 10 ≤ dd) (hw : 400 ≤ w) (hC : LC G C dd w) (hD : PD bp sa sb ga) (hb : G.1 b = some (L, xs)) (hi : i + 6 ≤ L) (hL : L ≤ 3072) (hJ : JI pp rr bp lay sa sb ga tc A) (d : ld pp rr o g) (hc : n + 1 ≤ c ∧ 6 * (n + 1) ≤ z) (hN : LN G C w K b i o bp lay sa sb ga tc A n) : ev_J G C w m_L_law K (611, lv_ b (bp 0) (A 17) o i, [], lh pp rr o g, c, z) := by
  obtain ⟨P, fu, fd, mem, val, ba, dn, R, wa, ar, lv, f, len, I, v, Q, Rr, lvr, fr, hPF, hPV, hM, hRE⟩ := hJ
  obtain ⟨hW, hB, hS, ⟨Pb, fub, fdb, memb, hT⟩, hA, hV, hX⟩ := id hPF
  obtain ⟨⟨vP, vf, vfb, vm⟩, ⟨v1, v2, v3, v4, v5⟩, vz, ⟨v9, v10⟩, vo, kd, sh, vE⟩ := id hPV
  obtain ⟨⟨r0, r1, r3, r4, r5, r6⟩, ra, rd, rr5, rr6, rlv, rf⟩ := id hRE
  refine ev_aload_n (pc := 611) dL_law_611 rfl ?_
  refine ev_aload_n (pc := 612) dL_law_612 rfl ?_
  refine ev_iload (pc := 613) dL_law_613 rfl ?_
  refine ev_iconst (pc := 615) (v := nI 1) dL_law_615 (by decide) ?_
  refine ev_iaddN (pc := 616) dL_law_616 ?_
  refine ev_rs (pc := 617) dL_law_617 hb (by omega) (by omega) ?_
  refine ev_callVf (pc := 618) (As := [.int (xs (i + 1))]) (hs := pp) (hf := (ev_jn rr (oh o g))) dL_law_618 cv_L_96 rfl rfl hB.1 rfl (hC _ _ _ _ _ _ ⟨by show 19 + 2 ≤ w; omega, show ev_Ca _ _ (w - 21) _ _ _ _ _ _ from k_character (by omega) hB hX v5⟩) rfl rfl rfl (dj_f (dj_jn d.1 d.2.1)) (fun r h1 hp hq => ?_)
  obtain ⟨hp, hH⟩ := hp
  rw [hH]
  clear hH hq h1
  have hp1 := hp
  clear hp
  have goal : ∀ y : Int32, r = some (.int y) → ev_J G C w m_L_law K (621, lv_ b (bp 0) (A 17) o i, [.int y], lh pp rr o g, c, z) := by
    intro y hy
    subst hy
    refine ev_aload_n (pc := 621) dL_law_621 rfl ?_
    refine ev_aload_n (pc := 622) dL_law_622 rfl ?_
    refine ev_iload (pc := 623) dL_law_623 rfl ?_
    refine ev_iconst (pc := 625) (v := nI 1) dL_law_625 (by decide) ?_
    refine ev_iaddN (pc := 626) dL_law_626 ?_
    refine ev_rs (pc := 627) dL_law_627 hb (by omega) (by omega) ?_
    refine ev_callVf (pc := 628) (As := [.int (xs (i + 1))]) (hs := rr) (hf := (ev_jn pp (oh o g))) dL_law_628 cv_L_99 rfl rfl (ms_M hM) rfl (hC _ _ _ _ _ _ ⟨by show 19 + 2 ≤ w; omega, show ev_Ca _ _ (w - 21) _ _ _ _ _ _ from k_rcharacter (by omega) (by omega) hM (by omega)⟩) rfl rfl (jn_sw d.1) (dj_f (dj_jn d.1.sy d.2.2)) (fun r h1 hp hq => ?_)
    obtain ⟨hp, hM2, -⟩ := hp
    rw [r6] at hp
    have eqv : r = some (.int y) := by
      rcases hp1 with ⟨e1, e2⟩ | ⟨e1, e2⟩
      · rcases hp with ⟨f1, f2⟩ | ⟨f1, f2⟩
        · rw [f2, e2]
          congr 2
          congr 1
          rw [rf (xs (i + 1)).toInt.toNat (by have := e1.1; have := e1.2; omega)]
        · exact absurd e1 f1
      · rcases hp with ⟨f1, f2⟩ | ⟨f1, f2⟩
        · exact absurd f1 e1
        · rw [f2, e2]
    subst eqv
    have eqv : y = y := rfl
    refine ev_icmp_eq (pc := 631) (tgt := 674) dL_law_631 (by decide) (fun _ => ?_) (fun q => absurd eqv q)
    refine ev_th (jn_sw (dj_q hq).1) ?_
    exact hN _ pp h1 g _ _ (by omega) ⟨rfl, rfl, rfl, rfl, rfl, trivial⟩ ⟨P, fu, fd, mem, val, ba, dn, R, wa, ar, lv, f, len, _, v, Q, Rr, lvr, fr, hPF, hPV, hM2, hRE⟩ (ld_r d hq)
  rcases hp1 with ⟨e1, e2⟩ | ⟨e1, e2⟩
  · have h9 := goal _ e2
    rw [e2]
    exact h9
  · have h9 := goal _ e2
    rw [e2]
    exact h9
theorem c_published (hd : 10 ≤ dd) (hw : 400 ≤ w) (hC : LC G C dd w) (hD : PD bp sa sb ga) (hb : G.1 b = some (L, xs)) (hi : i + 6 ≤ L) (hL : L ≤ 3072) (hJ : JI pp rr bp lay sa sb ga tc A) (d : ld pp rr o g) (hc : n + 1 ≤ c ∧ 6 * (n + 1) ≤ z) (hN : LN G C w K b i o bp lay sa sb ga tc A n) : ev_J G C w m_L_law K (509, lv_ b (bp 0) (A 17) o i, [], lh pp rr o g, c, z) := by
  obtain ⟨P, fu, fd, mem, val, ba, dn, R, wa, ar, lv, f, len, I, v, Q, Rr, lvr, fr, hPF, hPV, hM, hRE⟩ := hJ
  obtain ⟨hW, hB, hS, ⟨Pb, fub, fdb, memb, hT⟩, hA, hV, hX⟩ := id hPF
  obtain ⟨⟨vP, vf, vfb, vm⟩, ⟨v1, v2, v3, v4, v5⟩, vz, ⟨v9, v10⟩, vo, kd, sh, vE⟩ := id hPV
  obtain ⟨⟨r0, r1, r3, r4, r5, r6⟩, ra, rd, rr5, rr6, rlv, rf⟩ := id hRE
  refine ev_aload_n (pc := 509) dL_law_509 rfl ?_
  refine ev_aload_n (pc := 510) dL_law_510 rfl ?_
  refine ev_iload (pc := 511) dL_law_511 rfl ?_
  refine ev_iconst (pc := 513) (v := nI 1) dL_law_513 (by decide) ?_
  refine ev_iaddN (pc := 514) dL_law_514 ?_
  refine ev_rs (pc := 515) dL_law_515 hb (by omega) (by omega) ?_
  refine ev_callVf (pc := 516) (As := [.int (xs (i + 1))]) (hs := pp) (hf := (ev_jn rr (oh o g))) dL_law_516 cv_L_78 rfl rfl hB.1 rfl (hC _ _ _ _ _ _ ⟨by show 19 + 2 ≤ w; omega, show ev_Ca _ _ (w - 21) _ _ _ _ _ _ from k_published (by omega) hB hV v2⟩) rfl rfl rfl (dj_f (dj_jn d.1 d.2.1)) (fun r h1 hp hq => ?_)
  obtain ⟨hp, hH⟩ := hp
  rw [hH]
  clear hH hq h1
  have hp1 := hp
  clear hp
  have goal : ∀ y : Int64, r = some (.long y) → ev_J G C w m_L_law K (519, lv_ b (bp 0) (A 17) o i, [.long y], lh pp rr o g, c, z) := by
    intro y hy
    subst hy
    refine ev_aload_n (pc := 519) dL_law_519 rfl ?_
    refine ev_aload_n (pc := 520) dL_law_520 rfl ?_
    refine ev_iload (pc := 521) dL_law_521 rfl ?_
    refine ev_iconst (pc := 523) (v := nI 1) dL_law_523 (by decide) ?_
    refine ev_iaddN (pc := 524) dL_law_524 ?_
    refine ev_rs (pc := 525) dL_law_525 hb (by omega) (by omega) ?_
    refine ev_callVf (pc := 526) (As := [.int (xs (i + 1))]) (hs := rr) (hf := (ev_jn pp (oh o g))) dL_law_526 cv_L_82 rfl rfl (ms_M hM) rfl (hC _ _ _ _ _ _ ⟨by show 19 + 2 ≤ w; omega, show ev_Ca _ _ (w - 21) _ _ _ _ _ _ from k_rpublished (by omega) (by omega) hM (by omega) (by omega) (fun q => by rw [r5]; exact (vz (r1.symm.trans q)).2)⟩) rfl rfl (jn_sw d.1) (dj_f (dj_jn d.1.sy d.2.2)) (fun r h1 hp hq => ?_)
    obtain ⟨hp, hM2, -⟩ := hp
    rw [r5] at hp
    have eqv : r = some (.long y) := by
      rcases hp1 with ⟨e1, e2⟩ | ⟨e1, e2⟩
      · rcases hp with ⟨f1, f2⟩ | ⟨f1, f2⟩
        · rw [f2, e2]
          congr 2
          congr 1
          rw [rlv (xs (i + 1)).toInt.toNat (by have := e1.1; have := e1.2; omega)]
        · exact absurd e1 f1
      · rcases hp with ⟨f1, f2⟩ | ⟨f1, f2⟩
        · exact absurd f1 e1
        · rw [f2, e2]
    subst eqv
    have eqv : y = y := rfl
    refine ev_lcmp (pc := 529) dL_law_529 ?_
    refine ev_if_eq (pc := 530) (tgt := 674) dL_law_530 (by decide) (fun _ => ?_) (fun q => absurd (by rw [eqv]; exact lc_self _) q)
    refine ev_th (jn_sw (dj_q hq).1) ?_
    exact hN _ pp h1 g _ _ (by omega) ⟨rfl, rfl, rfl, rfl, rfl, trivial⟩ ⟨P, fu, fd, mem, val, ba, dn, R, wa, ar, lv, f, len, _, v, Q, Rr, lvr, fr, hPF, hPV, hM2, hRE⟩ (ld_r d hq)
  rcases hp1 with ⟨e1, e2⟩ | ⟨e1, e2⟩
  · have h9 := goal _ e2
    rw [e2]
    exact h9
  · have h9 := goal _ e2
    rw [e2]
    exact h9
end LAW
