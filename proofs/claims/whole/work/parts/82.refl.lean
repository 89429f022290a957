/-! THE REFERENCE: perform -/
theorem ev_kmono_J {G : ev_G} {C : ev_L} {w : Nat} {M : ev_M} {K K2 : ev_K} {x : ev_S} (hK : ∀ r y, K r y → K2 r y) (h : ev_J G C w M K x) : ev_J G C w M K2 x := fun X hX => h X (fun n => ev_kmono hK n (hX n))
section REFL
variable {G : ev_G} {w : Nat} {H h1 : ev_H} {A I v : Nat → Nat} {Q : Nat → Nat → Nat} {R : Nat → Nat → Int32} {lv f : Nat → Nat} {k s dd : Nat}
/-- behind an event -/
def rpp (H : ev_H) (A I : Nat → Nat) (R : Nat → Nat → Int32) (lv f : Nat → Nat) (q : Nat × qs) (r : Option Value) (h1 : ev_H) : Prop := r = some (.int (nI q.1)) ∧ ∃ I2 v2 Q2, mpost H A I2 v2 Q2 R lv f h1 ∧ aq ((Q2, v2, (fun s => v2 (8 + s)), I2 0), v2 32, v2 33) q.2 ∧ ∀ k, k ≠ 0 → k ≠ 2 → I2 k = I k
theorem lt_cr {W B : Nat × Nat} {D1 D2 : Nat} : D1 * lt1 W * lt2 B * (D2 * (W.2 * B.1)) = D2 * lt2 W * lt1 B * (D1 * (W.1 * B.2)) := by
  have e1 : lt1 W * W.2 = lt2 W * W.1 := gd_cross
  have e2 : lt1 B * B.2 = lt2 B * B.1 := gd_cross
  calc D1 * lt1 W * lt2 B * (D2 * (W.2 * B.1)) = D1 * D2 * (lt1 W * W.2) * (lt2 B * B.1) := by ac_rfl
    _ = D1 * D2 * (lt2 W * W.1) * (lt1 B * B.2) := by rw [e1, e2]
    _ = D2 * lt2 W * lt1 B * (D1 * (W.1 * B.2)) := by ac_rfl
theorem lt_pos {W : Nat × Nat} (h1 : 0 < W.1) (h2 : 0 < W.2) : 0 < lt1 W ∧ 0 < lt2 W ∧ lt1 W ≤ W.1 ∧ lt2 W ≤ W.2 := by
  have g0 : 0 < Nat.gcd W.1 W.2 := Nat.gcd_pos_of_pos_left _ h1
  exact ⟨Nat.div_pos (Nat.le_of_dvd h1 (Nat.gcd_dvd_left _ _)) g0, Nat.div_pos (Nat.le_of_dvd h2 (Nat.gcd_dvd_right _ _)) g0, Nat.div_le_self _ _, Nat.div_le_self _ _⟩
theorem k_rperform {pl kd : Nat} {a b c : Int32} (hd : 8 ≤ dd) (hw : 270 ≤ w) (h : MS H A I v Q R lv f) (hpl : pl < 16) (r0 : R 0 pl = nI kd) (r1 : R 1 pl = nI s) (r2 : R 2 pl = a) (r3 : R 3 pl = b) (r4 : R 4 pl = c) (hk : kd < 9) (hs : s < 8) (ok : st_ok Q v (fun s => v (8 + s)) (I 0)) (dv : dv_ok (v 32) (v 33)) : ev_Ca G dd w m_X9_perform [.ref (A 17), .int (nI pl)] H 0 0 (ev_ok (rpp H A I R lv f (pf kd s a b c Q v (fun s => v (8 + s)) (I 0) (v 32) (v 33)))) := by
  obtain ⟨dd, rfl⟩ : ∃ e, dd = e + 1 := ⟨dd - 1, by omega⟩
  refine ⟨by decide +kernel, rfl, ?_⟩
  obtain ⟨hP, hf, hm, hm0⟩ := id ok
  have bl : I 0 / 2 ^ s % 2 < 2 := Nat.mod_lt _ (by decide)
  have tail : ∀ {V} cn, ((cn = 1 ∧ (kd = 4 ∨ kd = 5 ∨ kd = 8 ∨ I 0 / 2 ^ s % 2 = 1)) ∨ (cn = 0 ∧ ¬ (kd = 4 ∨ kd = 5 ∨ kd = 8 ∨ I 0 / 2 ^ s % 2 = 1))) → ev_hs V [(0, .ref (A 17)), (1, .int (nI pl)), (2, .int (nI kd)), (3, .int (nI s))] → ev_J G (ev_cc G dd w) w m_X9_perform (ev_ok (rpp H A I R lv f (pf kd s a b c Q v (fun s => v (8 + s)) (I 0) (v 32) (v 33)))) (43, V, [.int (nI cn)], H, 0, 0) := by
    intro V cn hcn hv
    refine ev_vs _ hv ?_
    obtain ⟨y1, y2⟩ := su_p8 hP hf hm hm0
    obtain ⟨yb1, yb2⟩ := su_b8 (mem := I 0) hP hf (Nat.le_refl 8)
    obtain ⟨l1, l2, l3, l4⟩ := lt_pos y1 y2
    refine ev_istore (pc := 43) dX9_perform_43 rfl ?_
    refine ev_aload_n (pc := 45) dX9_perform_45 rfl ?_
    refine ev_callV (pc := 46) (As := []) dX9_perform_46 cv_X9_155 rfl rfl (ms_M h) rfl ⟨by show 19 + 2 ≤ w; omega, show ev_Ca _ _ (w - 21) _ _ _ _ _ _ from k_sum (by omega) (by omega) h hP hf hm hm0⟩ rfl rfl (fun r h1 hp => ?_)
    obtain ⟨rfl, v2, ⟨h2, hF2⟩, s1, s2, s3⟩ := hp
    refine ev_aload_n (pc := 49) dX9_perform_49 rfl ?_
    refine ev_bipush (pc := 50) (v := nI 36) dX9_perform_50 (by decide) ?_
    refine ev_bipush (pc := 52) (v := nI 34) dX9_perform_52 (by decide) ?_
    refine ev_callV (pc := 54) (As := [.int (nI 36), .int (nI 34)]) dX9_perform_54 cv_X9_101 rfl rfl (ms_M h2) rfl ⟨by show 19 + 4 ≤ w; omega, show ev_Ca _ _ (w - 23) _ _ _ _ _ _ from m_copy (r := 36) (o := 34) (by omega) h2 (by omega) (by omega) (by omega)⟩ rfl rfl (fun r h1 hp => ?_)
    obtain ⟨rfl, h3, hF3⟩ := hp
    refine ev_aload_n (pc := 57) dX9_perform_57 rfl ?_
    refine ev_bipush (pc := 58) (v := nI 37) dX9_perform_58 (by decide) ?_
    refine ev_bipush (pc := 60) (v := nI 35) dX9_perform_60 (by decide) ?_
    refine ev_callV (pc := 62) (As := [.int (nI 37), .int (nI 35)]) dX9_perform_62 cv_X9_101 rfl rfl (ms_M h3) rfl ⟨by show 19 + 4 ≤ w; omega, show ev_Ca _ _ (w - 23) _ _ _ _ _ _ from m_copy (r := 37) (o := 35) (by omega) h3 (by omega) (by omega) (by omega)⟩ rfl rfl (fun r h1 hp => ?_)
    obtain ⟨rfl, h4, hF4⟩ := hp
    rw [va_up_ne _ _ (show (35 : Nat) ≠ 36 by decide), s1, s2] at h4
    have u36 : va_up (va_up v2 36 (lt1 (su Q v (fun s => v (8 + s)) (I 0) 8))) 37 (lt2 (su Q v (fun s => v (8 + s)) (I 0) 8)) 36 = lt1 (su Q v (fun s => v (8 + s)) (I 0) 8) := rfl
    have u37 : va_up (va_up v2 36 (lt1 (su Q v (fun s => v (8 + s)) (I 0) 8))) 37 (lt2 (su Q v (fun s => v (8 + s)) (I 0) 8)) 37 = lt2 (su Q v (fun s => v (8 + s)) (I 0) 8) := rfl
    have ulo : ∀ i, i < 34 → va_up (va_up v2 36 (lt1 (su Q v (fun s => v (8 + s)) (I 0) 8))) 37 (lt2 (su Q v (fun s => v (8 + s)) (I 0) 8)) i = v i := fun i hi => by rw [va_up_ne _ _ (by omega), va_up_ne _ _ (by omega), s3 i (by omega) (by omega) (by omega)]
    generalize va_up (va_up v2 36 (lt1 (su Q v (fun s => v (8 + s)) (I 0) 8))) 37 (lt2 (su Q v (fun s => v (8 + s)) (I 0) 8)) = u at *
    refine ev_aload_n (pc := 65) dX9_perform_65 rfl ?_
    have rem : ∀ k, k < 3 → ∀ j, j < 8 → Q (0 + k) j < 2 ^ 31 := by
      intro k hk j hj
      rw [Nat.zero_add]
      obtain ⟨⟨_, q1⟩, ⟨_, q2⟩, _, q3⟩ := hP j hj
      rcases (show k = 0 ∨ k = 1 ∨ k = 2 by omega) with e | e | e <;> rw [e] <;> omega
    refine ev_callV (pc := 66) (As := []) dX9_perform_66 cv_X9_204 rfl rfl (ms_M h4) rfl ⟨by show 19 + 2 ≤ w; omega, show ev_Ca _ _ (w - 21) _ _ _ _ _ _ from k_remember (by omega) (by omega) h4 rem⟩ rfl rfl (fun r h1 hp => ?_)
    obtain ⟨rfl, Q1, v3, ⟨h5, hF5⟩, o1, o2, o3, o4, o5⟩ := hp
    have I2 : va_up I 2 (I 0) 0 = I 0 := rfl
    have a3 : ag3 Q1 v3 (fun s => v3 (8 + s)) Q v (fun s => v (8 + s)) := by
      refine ⟨fun k hk j hj => ?_, fun j hj => ⟨?_, ?_⟩⟩
      · have := o1 k hk
        rw [Nat.zero_add] at this
        rw [this]
      · have := o3 j (by omega)
        rw [Nat.zero_add] at this
        rw [this, ulo j (by omega)]
      · have := o3 (8 + j) (by omega)
        rw [Nat.zero_add] at this
        show v3 (8 + j) = v (8 + j)
        rw [this, ulo (8 + j) (by omega)]
    have ok3 := st_ag a3 ok
    have hFF := (((hF2.tr hF3).tr hF4).tr hF5)
    have w36 : v3 36 = lt1 (su Q v (fun s => v (8 + s)) (I 0) 8) := (o5 36 (by decide)).trans u36
    have w37 : v3 37 = lt2 (su Q v (fun s => v (8 + s)) (I 0) 8) := (o5 37 (by decide)).trans u37
    have w32 : v3 32 = v 32 := (o5 32 (by decide)).trans (ulo 32 (by decide))
    have w33 : v3 33 = v 33 := (o5 33 (by decide)).trans (ulo 33 (by decide))
    obtain ⟨pc1, pc2⟩ := pf_cg (kd := kd) (D1 := v 32) (D2 := v 33) (a := a) (b := b) (c := c) (mem := I 0) a3 hs
    have epf : pf kd s a b c Q1 v3 (fun s => v3 (8 + s)) (I 0) (v 32) (v 33) = pf kd s a b c Q1 v3 (fun s => v3 (8 + s)) (I 0) (v 32) (v 33) := rfl
    have eB : su Q1 v3 (fun s => v3 (8 + s)) (I 0) 8 = su Q v (fun s => v (8 + s)) (I 0) 8 := su_cg a3 8 (Nat.le_refl 8)
    suffices ev_J G (ev_cc G dd w) w m_X9_perform (ev_ok (rpp H A I R lv f (pf kd s a b c Q1 v3 (fun s => v3 (8 + s)) (I 0) (v 32) (v 33)))) _ by
      refine ev_kmono_J (fun r x hx => ?_) this
      match r with
      | .inl q =>
        obtain ⟨g1, I3, v4, Q4, g2, g3, g4⟩ := hx
        exact ⟨by rw [← pc1]; exact g1, I3, v4, Q4, g2, ⟨g3.1.tr pc2.1, g3.2.1.trans pc2.2.1, g3.2.2.trans pc2.2.2⟩, g4⟩
      | .inr _ => exact hx
    obtain ⟨c1, c2⟩ := ch_ok (kd := kd) (a := a) (b := b) (c := c) ok3 hs
    have chh : ∀ k, 3 ≤ k → (ch kd s a b c Q1 v3 (fun s => v3 (8 + s)) (I 0)).2.1 k = Q1 k := fun k hk => funext (fun j => ch_hi (Or.inl hk))
    have cle := ch_le (kd := kd) (s := s) (a := a) (b := b) (c := c) (P := Q1) (fu := v3) (fd := fun s => v3 (8 + s)) (mem := I 0)
    refine ev_aload_n (pc := 69) dX9_perform_69 rfl ?_
    refine ev_iload_n (pc := 70) dX9_perform_70 rfl ?_
    refine ev_iload_n (pc := 71) dX9_perform_71 rfl ?_
    refine ev_aload_n (pc := 72) dX9_perform_72 rfl ?_
    refine ev_getf (pc := 73) dX9_perform_73 f_X9_40 (ms_M h5) rfl ?_
    refine ev_iload_n (pc := 76) dX9_perform_76 rfl ?_
    refine ev_iaF (pc := 77) dX9_perform_77 (ms_R h5 2 (by decide)) hpl (by decide) r2 ?_
    refine ev_aload_n (pc := 78) dX9_perform_78 rfl ?_
    refine ev_getf (pc := 79) dX9_perform_79 f_X9_43 (ms_M h5) rfl ?_
    refine ev_iload_n (pc := 82) dX9_perform_82 rfl ?_
    refine ev_iaF (pc := 83) dX9_perform_83 (ms_R h5 3 (by decide)) hpl (by decide) r3 ?_
    refine ev_aload_n (pc := 84) dX9_perform_84 rfl ?_
    refine ev_getf (pc := 85) dX9_perform_85 f_X9_46 (ms_M h5) rfl ?_
    refine ev_iload_n (pc := 88) dX9_perform_88 rfl ?_
    refine ev_iaF (pc := 89) dX9_perform_89 (ms_R h5 4 (by decide)) hpl (by decide) r4 ?_
    refine ev_callV (pc := 90) (As := [.int (nI kd), .int (nI s), .int a, .int b, .int c]) dX9_perform_90 cv_X9_207 rfl rfl (ms_M h5) rfl ⟨by show 19 + 6 ≤ w; omega, show ev_Ca _ _ (w - 25) _ _ _ _ _ _ from k_rchange (by omega) (by omega) h5 ok3.1 (show va_up I 2 (I 0) 0 < 256 from hm) hs hk⟩ rfl rfl (fun r h1 hp => ?_)
    rw [show va_up I 2 (I 0) 0 = I 0 from rfl] at hp
    obtain ⟨rfl, I3, v4, ⟨h6, hF6⟩, g1, g2, g3, g4⟩ := hp
    have q32 : v4 32 = v 32 := (g4 32 (by decide) (by decide)).trans w32
    have q33 : v4 33 = v 33 := (g4 33 (by decide) (by decide)).trans w33
    have q36 : v4 36 = lt1 (su Q v (fun s => v (8 + s)) (I 0) 8) := (g4 36 (by decide) (by decide)).trans w36
    have q37 : v4 37 = lt2 (su Q v (fun s => v (8 + s)) (I 0) 8) := (g4 37 (by decide) (by decide)).trans w37
    have i3 : I3 2 = I 0 := g2 2 (by decide)
    have i4 : ∀ k, k ≠ 0 → k ≠ 2 → I3 k = I k := fun k k1 k2 => (g2 k k1).trans (va_up_ne _ _ k2)
    have old : ∀ j, j < 16 → v4 (16 + j) = v3 j := by
      intro j hj
      rw [g4 (16 + j) (by omega) (by omega)]
      have e3 := o3 j hj
      rw [Nat.zero_add] at e3
      rw [e3]
      rcases Nat.lt_or_ge j 8 with q | q
      · have := (o4 j q).1
        rw [Nat.zero_add] at this
        exact this
      · have := (o4 (j - 8) (by omega)).2
        rw [show 16 + 8 + (j - 8) = 16 + j by omega, show 0 + 8 + (j - 8) = j by omega] at this
        exact this
    generalize hr : ch kd s a b c Q1 v3 (fun s => v3 (8 + s)) (I 0) = r at *
    obtain ⟨o, P1, fu1, fd1, mem1⟩ := r
    dsimp only at c1 c2 chh cle g1 g3 h6 ⊢
    have ago : o = 0 → ag3 P1 v4 (fun s => v4 (8 + s)) P1 fu1 fd1 := fun _ => ⟨fun _ _ _ _ => rfl, g3⟩
    -- what ends it
    have back : ∀ {V} oo hh vv, ev_hs V [(0, .ref (A 17)), (5, .int (nI oo))] → 0 < oo → oo < 2 ^ 31 → MS hh A I3 vv P1 R lv f → MF A H hh → (∀ i, 16 ≤ i → i < 34 → vv i = v4 i) → rpp H A I R lv f (oo, (Q1, v3, (fun s => v3 (8 + s)), I 0), v 32, v 33) = rpp H A I R lv f (pf kd s a b c Q1 v3 (fun s => v3 (8 + s)) (I 0) (v 32) (v 33)) → ev_J G (ev_cc G dd w) w m_X9_perform (ev_ok (rpp H A I R lv f (pf kd s a b c Q1 v3 (fun s => v3 (8 + s)) (I 0) (v 32) (v 33)))) (214, V, [], hh, 0, 0) := by
      intro V oo hh vv hv hoo hob hM hFh hvv heq
      rw [← heq]
      refine ev_vs _ hv ?_
      refine ev_iload (pc := 214) dX9_perform_214 rfl ?_
      refine ev_if_eqN (pc := 216) (tgt := 223) dX9_perform_216 (by decide) (by omega) (fun cc => ?_) (fun cc => ?_)
      · omega
      · refine ev_aload_n (pc := 219) dX9_perform_219 rfl ?_
        have rem2 : ∀ k, k < 3 → ∀ j, j < 8 → P1 (3 + k) j < 2 ^ 31 := by
          intro k hk j hj
          rw [chh (3 + k) (by omega), o2 k hk j hj]
          exact rem k hk j hj
        refine ev_callV (pc := 220) (As := []) dX9_perform_220 cv_X9_211 rfl rfl (ms_M hM) rfl ⟨by show 19 + 2 ≤ w; omega, show ev_Ca _ _ (w - 21) _ _ _ _ _ _ from k_putBack (by omega) (by omega) hM rem2⟩ rfl rfl (fun r h1 hp => ?_)
        obtain ⟨rfl, Q5, v5, ⟨h7, hF7⟩, p1, p2, p3, p4, p5⟩ := hp
        refine ev_iload (pc := 223) dX9_perform_223 rfl ?_
        refine ev_iret (pc := 225) dX9_perform_225 rfl rfl ⟨rfl, _, v5, Q5, ⟨h7, hFh.tr hF7⟩, ⟨⟨fun k hk j hj => ?_, fun j hj => ⟨?_, ?_⟩⟩, i3, ?_⟩, fun k k1 k2 => (va_up_ne _ _ k1).trans (i4 k k1 k2)⟩
        · show Q5 k j = Q1 k j
          have := p2 k hk j hj
          rw [Nat.zero_add] at this
          rw [this, chh (3 + k) (by omega), o2 k hk j hj, ← o1 k hk, Nat.zero_add]
        · show v5 j = v3 j
          have := (p4 j hj).1
          rw [Nat.zero_add] at this
          rw [this, hvv (16 + j) (by omega) (by omega)]
          exact old j (by omega)
        · show v5 (8 + j) = v3 (8 + j)
          have := (p4 j hj).2
          rw [show 0 + 8 + j = 8 + j by omega, show 16 + 8 + j = 16 + (8 + j) by omega] at this
          rw [this, hvv (16 + (8 + j)) (by omega) (by omega)]
          exact old (8 + j) (by omega)
        · show (v5 32, v5 33) = (v 32, v 33)
          rw [p5 32 (by decide), p5 33 (by decide), hvv 32 (by decide) (by decide), hvv 33 (by decide) (by decide), q32, q33]
    have done : ∀ {V} hh vv, ev_hs V [(0, .ref (A 17)), (5, .int (nI 0))] → MS hh A I3 vv P1 R lv f → MF A H hh → ∀ D1 D2, vv 32 = D1 → vv 33 = D2 → (∀ i, i < 16 → vv i = v4 i) → rpp H A I R lv f (0, (P1, fu1, fd1, mem1), D1, D2) = rpp H A I R lv f (pf kd s a b c Q1 v3 (fun s => v3 (8 + s)) (I 0) (v 32) (v 33)) → ev_J G (ev_cc G dd w) w m_X9_perform (ev_ok (rpp H A I R lv f (pf kd s a b c Q1 v3 (fun s => v3 (8 + s)) (I 0) (v 32) (v 33)))) (214, V, [], hh, 0, 0) := by
      intro V hh vv hv hM hFh D1 D2 e32 e33 hvv heq
      rw [← heq]
      refine ev_vs _ hv ?_
      refine ev_iload (pc := 214) dX9_perform_214 rfl ?_
      refine ev_if_eqN (pc := 216) (tgt := 223) dX9_perform_216 (by decide) (by decide) (fun _ => ?_) (fun q => absurd q (by decide))
      refine ev_iload (pc := 223) dX9_perform_223 rfl ?_
      refine ev_iret (pc := 225) dX9_perform_225 rfl rfl ⟨rfl, I3, vv, P1, ⟨hM, hFh⟩, ⟨⟨fun _ _ _ _ => rfl, fun j hj => ⟨?_, ?_⟩⟩, g1, ?_⟩, i4⟩
      · show vv j = fu1 j
        rw [hvv j (by omega)]; exact (g3 j hj).1
      · show vv (8 + j) = fd1 j
        rw [hvv (8 + j) (by omega)]; exact (g3 j hj).2
      · show (vv 32, vv 33) = (D1, D2)
        rw [e32, e33]
    have hF6' := hFF.tr hF6
    refine ev_istore (pc := 93) dX9_perform_93 rfl ?_
    refine ev_iload (pc := 95) dX9_perform_95 rfl ?_
    refine ev_if_neN (pc := 97) (tgt := 214) dX9_perform_97 (by decide) (by omega) (fun c3 => ?_) (fun c3 => ?_)
    · have eo : (ch kd s a b c Q1 v3 (fun s => v3 (8 + s)) (I 0)).1 = o := by rw [hr]
      have e2 := c2 (by omega)
      refine back o _ v4 ⟨rfl, rfl, trivial⟩ c3 (by omega) h6 hF6' (fun _ _ _ => rfl) ?_
      congr 1
      unfold pf
      rw [hr]
      dsimp only
      rw [if_pos (Or.inl (by omega))]
      exact congrArg (fun t => (o, t, v 32, v 33)) e2.symm
    · subst c3
      refine ev_iload (pc := 100) dX9_perform_100 rfl ?_
      rcases hcn with ⟨rfl, hcn⟩ | ⟨rfl, hcn⟩
      · refine ev_if_eqN (pc := 102) (tgt := 214) dX9_perform_102 (by decide) (by decide) (fun q => absurd q (by decide)) (fun _ => ?_)
        refine ev_iload_n (pc := 105) dX9_perform_105 rfl ?_
        refine ev_iconst (pc := 106) (v := nI 3) dX9_perform_106 (by decide) ?_
        refine ev_icmp_eqN (pc := 107) (tgt := 214) dX9_perform_107 (by decide) (by omega) (by omega) (fun c4 => ?_) (fun c4 => ?_)
        · refine done _ v4 ⟨rfl, rfl, trivial⟩ h6 hF6' _ _ q32 q33 (fun _ _ => rfl) ?_
          congr 1
          unfold pf
          rw [hr]
          dsimp only
          rw [if_pos (Or.inr c4)]
        · have a4 := ago rfl
          have ok4 : st_ok P1 v4 (fun s => v4 (8 + s)) (I3 0) := by rw [g1]; exact st_ag a4 c1
          have eW : su P1 v4 (fun s => v4 (8 + s)) (I3 0) 8 = su P1 fu1 fd1 mem1 8 := by rw [g1]; exact su_cg a4 8 (Nat.le_refl 8)
          obtain ⟨x1, x2⟩ := su_p8 c1.1 c1.2.1 c1.2.2.1 c1.2.2.2
          obtain ⟨xb1, xb2⟩ := su_b8 (mem := mem1) c1.1 c1.2.1 (Nat.le_refl 8)
          obtain ⟨m1, m2, m3, m4⟩ := lt_pos x1 x2
          obtain ⟨w1, w2, w3, w4, w5⟩ := id dv
          have unf : pf kd s a b c Q1 v3 (fun s => v3 (8 + s)) (I 0) (v 32) (v 33) = (if 512 < max (mb_bits (v 32 * ((su P1 fu1 fd1 mem1 8).1 * (su Q v (fun s => v (8 + s)) (I 0) 8).2) / Nat.gcd (v 32 * ((su P1 fu1 fd1 mem1 8).1 * (su Q v (fun s => v (8 + s)) (I 0) 8).2)) (v 33 * ((su P1 fu1 fd1 mem1 8).2 * (su Q v (fun s => v (8 + s)) (I 0) 8).1)))) (mb_bits (v 33 * ((su P1 fu1 fd1 mem1 8).2 * (su Q v (fun s => v (8 + s)) (I 0) 8).1) / Nat.gcd (v 32 * ((su P1 fu1 fd1 mem1 8).1 * (su Q v (fun s => v (8 + s)) (I 0) 8).2)) (v 33 * ((su P1 fu1 fd1 mem1 8).2 * (su Q v (fun s => v (8 + s)) (I 0) 8).1)))) then (3, (Q1, v3, (fun s => v3 (8 + s)), I 0), v 32, v 33) else (0, (P1, fu1, fd1, mem1), v 32 * ((su P1 fu1 fd1 mem1 8).1 * (su Q v (fun s => v (8 + s)) (I 0) 8).2) / Nat.gcd (v 32 * ((su P1 fu1 fd1 mem1 8).1 * (su Q v (fun s => v (8 + s)) (I 0) 8).2)) (v 33 * ((su P1 fu1 fd1 mem1 8).2 * (su Q v (fun s => v (8 + s)) (I 0) 8).1)), v 33 * ((su P1 fu1 fd1 mem1 8).2 * (su Q v (fun s => v (8 + s)) (I 0) 8).1) / Nat.gcd (v 32 * ((su P1 fu1 fd1 mem1 8).1 * (su Q v (fun s => v (8 + s)) (I 0) 8).2)) (v 33 * ((su P1 fu1 fd1 mem1 8).2 * (su Q v (fun s => v (8 + s)) (I 0) 8).1)))) := by
            unfold pf
            rw [hr]
            dsimp only
            rw [if_neg (fun q => by rcases q with q | q; exact q rfl; exact c4 q), eB]
          have cr := lt_cr (W := su P1 fu1 fd1 mem1 8) (B := su Q v (fun s => v (8 + s)) (I 0) 8) (D1 := v 32) (D2 := v 33)
          have nn : 0 < v 32 * ((su P1 fu1 fd1 mem1 8).1 * (su Q v (fun s => v (8 + s)) (I 0) 8).2) := Nat.mul_pos w1 (Nat.mul_pos x1 y2)
          generalize hW : su P1 fu1 fd1 mem1 8 = W at *
          generalize hB' : su Q v (fun s => v (8 + s)) (I 0) 8 = B at *
          have t0 : 0 < v 32 * lt1 W * lt2 B := Nat.mul_pos (Nat.mul_pos w1 m1) l2
          obtain ⟨un1, un2⟩ := gd_uni t0 nn cr
          refine ev_aload_n (pc := 110) dX9_perform_110 rfl ?_
          refine ev_callV (pc := 111) (As := []) dX9_perform_111 cv_X9_155 rfl rfl (ms_M h6) rfl ⟨by show 19 + 2 ≤ w; omega, show ev_Ca _ _ (w - 21) _ _ _ _ _ _ from k_sum (by omega) (by omega) h6 ok4.1 ok4.2.1 ok4.2.2.1 ok4.2.2.2⟩ rfl rfl (fun r h1 hp => ?_)
          obtain ⟨rfl, v5, ⟨h7, hF7⟩, z1, z2, z3⟩ := hp
          rw [eW] at z1 z2
          have z32 : v5 32 = v 32 := (z3 32 (by decide) (by decide) (by decide)).trans q32
          have z33 : v5 33 = v 33 := (z3 33 (by decide) (by decide) (by decide)).trans q33
          have z36 : v5 36 = lt1 B := (z3 36 (by decide) (by decide) (by decide)).trans q36
          have z37 : v5 37 = lt2 B := (z3 37 (by decide) (by decide) (by decide)).trans q37
          have k1 : v 32 * lt1 W < 2 ^ (512 + 571) := p2_mul w3 (Nat.lt_of_le_of_lt m3 xb1)
          have k2 : v 32 * lt1 W * lt2 B < 2 ^ (512 + 571 + 505) := p2_mul k1 (Nat.lt_of_le_of_lt l4 yb2)
          have k3 : v 33 * lt2 W < 2 ^ (512 + 505) := p2_mul w4 (Nat.lt_of_le_of_lt m4 xb2)
          have k4 : v 33 * lt2 W * lt1 B < 2 ^ (512 + 505 + 571) := p2_mul k3 (Nat.lt_of_le_of_lt l3 yb1)
          refine ev_aload_n (pc := 114) dX9_perform_114 rfl ?_
          refine ev_bipush (pc := 115) (v := nI 40) dX9_perform_115 (by decide) ?_
          refine ev_bipush (pc := 117) (v := nI 32) dX9_perform_117 (by decide) ?_
          refine ev_bipush (pc := 119) (v := nI 34) dX9_perform_119 (by decide) ?_
          refine ev_callV (pc := 121) (As := [.int (nI 40), .int (nI 32), .int (nI 34)]) dX9_perform_121 cv_X9_131 rfl rfl (ms_M h7) rfl ⟨by show 19 + 11 ≤ w; omega, show ev_Ca _ _ (w - 30) _ _ _ _ _ _ from m_mul (r := 40) (p := 32) (q := 34) (by omega) (by omega) h7 (by omega) (by omega) (by omega) (by omega) (by omega) (by rw [z32, z1]; exact p2_le139 (by decide) k1)⟩ rfl rfl (fun r h1 hp => ?_)
          obtain ⟨rfl, h8, hF8⟩ := hp
          rw [z32, z1] at h8
          refine ev_aload_n (pc := 124) dX9_perform_124 rfl ?_
          refine ev_bipush (pc := 125) (v := nI 38) dX9_perform_125 (by decide) ?_
          refine ev_bipush (pc := 127) (v := nI 40) dX9_perform_127 (by decide) ?_
          refine ev_bipush (pc := 129) (v := nI 37) dX9_perform_129 (by decide) ?_
          refine ev_callV (pc := 131) (As := [.int (nI 38), .int (nI 40), .int (nI 37)]) dX9_perform_131 cv_X9_131 rfl rfl (ms_M h8) rfl ⟨by show 19 + 11 ≤ w; omega, show ev_Ca _ _ (w - 30) _ _ _ _ _ _ from m_mul (r := 38) (p := 40) (q := 37) (by omega) (by omega) h8 (by omega) (by omega) (by omega) (by omega) (by omega) (by rw [va_up_self, va_up_ne _ _ (by decide), z37]; exact p2_le139 (by decide) k2)⟩ rfl rfl (fun r h1 hp => ?_)
          obtain ⟨rfl, h9, hF9⟩ := hp
          rw [va_up_self, va_up_ne _ _ (show (37 : Nat) ≠ 40 by decide), z37] at h9
          have e5 : ∀ i, i < 38 → va_up (va_up v5 40 (v 32 * lt1 W)) 38 (v 32 * lt1 W * lt2 B) i = v5 i := fun i hi => by rw [va_up_ne _ _ (by omega), va_up_ne _ _ (by omega)]
          have e38 : va_up (va_up v5 40 (v 32 * lt1 W)) 38 (v 32 * lt1 W * lt2 B) 38 = v 32 * lt1 W * lt2 B := rfl
          generalize va_up (va_up v5 40 (v 32 * lt1 W)) 38 (v 32 * lt1 W * lt2 B) = v6 at *
          refine ev_aload_n (pc := 134) dX9_perform_134 rfl ?_
          refine ev_bipush (pc := 135) (v := nI 40) dX9_perform_135 (by decide) ?_
          refine ev_bipush (pc := 137) (v := nI 33) dX9_perform_137 (by decide) ?_
          refine ev_bipush (pc := 139) (v := nI 35) dX9_perform_139 (by decide) ?_
          refine ev_callV (pc := 141) (As := [.int (nI 40), .int (nI 33), .int (nI 35)]) dX9_perform_141 cv_X9_131 rfl rfl (ms_M h9) rfl ⟨by show 19 + 11 ≤ w; omega, show ev_Ca _ _ (w - 30) _ _ _ _ _ _ from m_mul (r := 40) (p := 33) (q := 35) (by omega) (by omega) h9 (by omega) (by omega) (by omega) (by omega) (by omega) (by rw [e5 33 (by decide), e5 35 (by decide), z33, z2]; exact p2_le139 (by decide) k3)⟩ rfl rfl (fun r h1 hp => ?_)
          obtain ⟨rfl, hA, hFA⟩ := hp
          rw [e5 33 (by decide), e5 35 (by decide), z33, z2] at hA
          refine ev_aload_n (pc := 144) dX9_perform_144 rfl ?_
          refine ev_bipush (pc := 145) (v := nI 39) dX9_perform_145 (by decide) ?_
          refine ev_bipush (pc := 147) (v := nI 40) dX9_perform_147 (by decide) ?_
          refine ev_bipush (pc := 149) (v := nI 36) dX9_perform_149 (by decide) ?_
          refine ev_callV (pc := 151) (As := [.int (nI 39), .int (nI 40), .int (nI 36)]) dX9_perform_151 cv_X9_131 rfl rfl (ms_M hA) rfl ⟨by show 19 + 11 ≤ w; omega, show ev_Ca _ _ (w - 30) _ _ _ _ _ _ from m_mul (r := 39) (p := 40) (q := 36) (by omega) (by omega) hA (by omega) (by omega) (by omega) (by omega) (by omega) (by rw [va_up_self, va_up_ne _ _ (by decide), e5 36 (by decide), z36]; exact p2_le139 (by decide) k4)⟩ rfl rfl (fun r h1 hp => ?_)
          obtain ⟨rfl, hB, hFB⟩ := hp
          rw [va_up_self, va_up_ne _ _ (show (36 : Nat) ≠ 40 by decide), e5 36 (by decide), z36] at hB
          have f5 : ∀ i, i < 38 → va_up (va_up v6 40 (v 33 * lt2 W)) 39 (v 33 * lt2 W * lt1 B) i = v5 i := fun i hi => by rw [va_up_ne _ _ (by omega), va_up_ne _ _ (by omega), e5 i hi]
          have f38 : va_up (va_up v6 40 (v 33 * lt2 W)) 39 (v 33 * lt2 W * lt1 B) 38 = v 32 * lt1 W * lt2 B := by rw [va_up_ne _ _ (by decide), va_up_ne _ _ (by decide), e38]
          have f39 : va_up (va_up v6 40 (v 33 * lt2 W)) 39 (v 33 * lt2 W * lt1 B) 39 = v 33 * lt2 W * lt1 B := rfl
          generalize va_up (va_up v6 40 (v 33 * lt2 W)) 39 (v 33 * lt2 W * lt1 B) = v7 at *
          refine ev_aload_n (pc := 154) dX9_perform_154 rfl ?_
          refine ev_bipush (pc := 155) (v := nI 38) dX9_perform_155 (by decide) ?_
          refine ev_bipush (pc := 157) (v := nI 39) dX9_perform_157 (by decide) ?_
          refine ev_callV (pc := 159) (As := [.int (nI 38), .int (nI 39)]) dX9_perform_159 cv_X9_138 rfl rfl (ms_M hB) rfl ⟨by show 19 + 3 ≤ w; omega, show ev_Ca _ _ (w - 22) _ _ _ _ _ _ from m_reduce (t := 38) (b := 39) (by omega) (by omega) hB (by omega) (by omega) (by omega) (by rw [f38]; exact t0) (by rw [f38]; exact p2_le139 (by decide) k2) (by rw [f39]; exact p2_le139 (by decide) k4)⟩ rfl rfl (fun r h1 hp => ?_)
          obtain ⟨rfl, v8, ⟨hC, hFC⟩, p1, p2, p3⟩ := hp
          rw [f38, f39] at p1 p2
          rw [un1] at p1
          rw [un2] at p2
          have hFall := ((((((hF6'.tr hF7).tr hF8).tr hF9).tr hFA).tr hFB).tr hFC)
          have v8i : ∀ i, i < 34 → v8 i = v4 i := fun i hi => by rw [p3 i (by omega) (by omega) (by omega), f5 i (by omega), z3 i (by omega) (by omega) (by omega)]
          generalize v 32 * (W.1 * B.2) / Nat.gcd (v 32 * (W.1 * B.2)) (v 33 * (W.2 * B.1)) = N1 at *
          generalize v 33 * (W.2 * B.1) / Nat.gcd (v 32 * (W.1 * B.2)) (v 33 * (W.2 * B.1)) = N2 at *
          have bb1 : mb_bits N1 < 2 ^ 31 := by
            have q : N1 < 2 ^ (512 + 571 + 505) := by rw [← un1]; exact Nat.lt_of_le_of_lt (Nat.div_le_self _ _) k2
            unfold mb_bits
            split
            · decide
            · rename_i zz
              have := (Nat.log2_lt zz).mpr q
              omega
          have bb2 : mb_bits N2 < 2 ^ 31 := by
            have q : N2 < 2 ^ (512 + 505 + 571) := by rw [← un2]; exact Nat.lt_of_le_of_lt (Nat.div_le_self _ _) k4
            unfold mb_bits
            split
            · decide
            · rename_i zz
              have := (Nat.log2_lt zz).mpr q
              omega
          have three : ∀ {V}, ev_hs V [(0, .ref (A 17))] → 512 < max (mb_bits N1) (mb_bits N2) → ∀ hh, MS hh A I3 v8 P1 R lv f → MF A H hh → ev_J G (ev_cc G dd w) w m_X9_perform (ev_ok (rpp H A I R lv f (pf kd s a b c Q1 v3 (fun s => v3 (8 + s)) (I 0) (v 32) (v 33)))) (186, V, [], hh, 0, 0) := by
            intro V hv big hh hM hFh
            refine ev_vs _ hv ?_
            refine ev_iconst (pc := 186) (v := nI 3) dX9_perform_186 (by decide) ?_
            refine ev_goto (pc := 187) (tgt := 191) dX9_perform_187 (by decide) ?_
            refine ev_istore (pc := 191) dX9_perform_191 rfl ?_
            refine ev_iload (pc := 193) dX9_perform_193 rfl ?_
            refine ev_if_neN (pc := 195) (tgt := 214) dX9_perform_195 (by decide) (by decide) (fun _ => ?_) (fun q => absurd q (by decide))
            refine back 3 hh v8 ⟨rfl, rfl, trivial⟩ (by decide) (by decide) hM hFh (fun i i1 i2 => v8i i i2) ?_
            rw [unf, if_pos big]
          refine ev_aload_n (pc := 162) dX9_perform_162 rfl ?_
          refine ev_bipush (pc := 163) (v := nI 38) dX9_perform_163 (by decide) ?_
          refine ev_callV (pc := 165) (As := [.int (nI 38)]) dX9_perform_165 cv_X9_87 rfl rfl (ms_M hC) rfl ⟨by show 19 + 4 ≤ w; omega, show ev_Ca _ _ (w - 23) _ _ _ _ _ _ from g_bits (r := 38) (by omega) (ms_g hC) (by omega)⟩ rfl rfl (fun r h1 hp => ?_)
          obtain ⟨rfl, hH⟩ := hp
          rw [hH, p1]
          clear hH
          refine ev_sipush (pc := 168) (v := nI 512) dX9_perform_168 (by decide) ?_
          refine ev_icmp_gtN (pc := 171) (tgt := 186) dX9_perform_171 (by decide) (by omega) (by omega) (fun c5 => ?_) (fun c5 => ?_)
          · exact three ⟨rfl, trivial⟩ (by omega) _ hC hFall
          · refine ev_aload_n (pc := 174) dX9_perform_174 rfl ?_
            refine ev_bipush (pc := 175) (v := nI 39) dX9_perform_175 (by decide) ?_
            refine ev_callV (pc := 177) (As := [.int (nI 39)]) dX9_perform_177 cv_X9_87 rfl rfl (ms_M hC) rfl ⟨by show 19 + 4 ≤ w; omega, show ev_Ca _ _ (w - 23) _ _ _ _ _ _ from g_bits (r := 39) (by omega) (ms_g hC) (by omega)⟩ rfl rfl (fun r h1 hp => ?_)
            obtain ⟨rfl, hH⟩ := hp
            rw [hH, p2]
            clear hH
            refine ev_sipush (pc := 180) (v := nI 512) dX9_perform_180 (by decide) ?_
            refine ev_icmp_leN (pc := 183) (tgt := 190) dX9_perform_183 (by decide) (by omega) (by omega) (fun c6 => ?_) (fun c6 => ?_)
            · refine ev_iconst (pc := 190) (v := nI 0) dX9_perform_190 (by decide) ?_
              refine ev_istore (pc := 191) dX9_perform_191 rfl ?_
              refine ev_iload (pc := 193) dX9_perform_193 rfl ?_
              refine ev_if_neN (pc := 195) (tgt := 214) dX9_perform_195 (by decide) (by decide) (fun q => absurd q (by decide)) (fun _ => ?_)
              refine ev_aload_n (pc := 198) dX9_perform_198 rfl ?_
              refine ev_bipush (pc := 199) (v := nI 32) dX9_perform_199 (by decide) ?_
              refine ev_bipush (pc := 201) (v := nI 38) dX9_perform_201 (by decide) ?_
              refine ev_callV (pc := 203) (As := [.int (nI 32), .int (nI 38)]) dX9_perform_203 cv_X9_101 rfl rfl (ms_M hC) rfl ⟨by show 19 + 4 ≤ w; omega, show ev_Ca _ _ (w - 23) _ _ _ _ _ _ from m_copy (r := 32) (o := 38) (by omega) hC (by omega) (by omega) (by omega)⟩ rfl rfl (fun r h1 hp => ?_)
              obtain ⟨rfl, hD, hFD⟩ := hp
              refine ev_aload_n (pc := 206) dX9_perform_206 rfl ?_
              refine ev_bipush (pc := 207) (v := nI 33) dX9_perform_207 (by decide) ?_
              refine ev_bipush (pc := 209) (v := nI 39) dX9_perform_209 (by decide) ?_
              refine ev_callV (pc := 211) (As := [.int (nI 33), .int (nI 39)]) dX9_perform_211 cv_X9_101 rfl rfl (ms_M hD) rfl ⟨by show 19 + 4 ≤ w; omega, show ev_Ca _ _ (w - 23) _ _ _ _ _ _ from m_copy (r := 33) (o := 39) (by omega) hD (by omega) (by omega) (by omega)⟩ rfl rfl (fun r h1 hp => ?_)
              obtain ⟨rfl, hE, hFE⟩ := hp
              refine done _ _ ⟨rfl, rfl, trivial⟩ hE ((hFall.tr hFD).tr hFE) N1 N2 (show v8 38 = N1 from p1) ?_ (fun i hi => ?_) ?_
              · show va_up v8 32 (v8 38) 39 = N2
                rw [va_up_ne _ _ (by decide)]; exact p2
              · rw [va_up_ne _ _ (by omega), va_up_ne _ _ (by omega)]; exact v8i i (by omega)
              · rw [unf, if_neg (by omega)]
            · exact three ⟨rfl, trivial⟩ (by omega) _ hC hFall
      · refine ev_if_eqN (pc := 102) (tgt := 214) dX9_perform_102 (by decide) (by decide) (fun _ => ?_) (fun q => absurd q (by decide))
        refine done _ v4 ⟨rfl, rfl, trivial⟩ h6 hF6' _ _ q32 q33 (fun _ _ => rfl) ?_
        rw [pf_non ok3 dv (fun q => hcn (Or.inl q)) (fun q => hcn (Or.inr (Or.inl q))) (by rcases Nat.lt_or_ge kd 8 with q | q; exact q; exact absurd (Or.inr (Or.inr (Or.inl (by omega)))) hcn) (fun q => hcn (Or.inr (Or.inr (Or.inr q)))), hr]
  refine ev_aload_n (pc := 0) dX9_perform_0 rfl ?_
  refine ev_getf (pc := 1) dX9_perform_1 f_X9_34 (ms_M h) rfl ?_
  refine ev_iload_n (pc := 4) dX9_perform_4 rfl ?_
  refine ev_iaF (pc := 5) dX9_perform_5 (ms_R h 0 (by decide)) hpl (by decide) r0 ?_
  refine ev_istore_n (pc := 6) dX9_perform_6 rfl ?_
  refine ev_aload_n (pc := 7) dX9_perform_7 rfl ?_
  refine ev_getf (pc := 8) dX9_perform_8 f_X9_37 (ms_M h) rfl ?_
  refine ev_iload_n (pc := 11) dX9_perform_11 rfl ?_
  refine ev_iaF (pc := 12) dX9_perform_12 (ms_R h 1 (by decide)) hpl (by decide) r1 ?_
  refine ev_istore_n (pc := 13) dX9_perform_13 rfl ?_
  refine ev_iload_n (pc := 14) dX9_perform_14 rfl ?_
  refine ev_iconst (pc := 15) (v := nI 4) dX9_perform_15 (by decide) ?_
  have one : ∀ {V}, (kd = 4 ∨ kd = 5 ∨ kd = 8 ∨ I 0 / 2 ^ s % 2 = 1) → ev_hs V [(0, .ref (A 17)), (1, .int (nI pl)), (2, .int (nI kd)), (3, .int (nI s))] → ev_J G (ev_cc G dd w) w m_X9_perform (ev_ok (rpp H A I R lv f (pf kd s a b c Q v (fun s => v (8 + s)) (I 0) (v 32) (v 33)))) (38, V, [], H, 0, 0) := by
    intro V q hv
    refine ev_vs _ hv ?_
    refine ev_iconst (pc := 38) (v := nI 1) dX9_perform_38 (by decide) ?_
    refine ev_goto (pc := 39) (tgt := 43) dX9_perform_39 (by decide) ?_
    exact tail 1 (Or.inl ⟨rfl, q⟩) ⟨rfl, rfl, rfl, rfl, trivial⟩
  refine ev_icmp_eqN (pc := 16) (tgt := 38) dX9_perform_16 (by decide) (by omega) (by omega) (fun d1 => ?_) (fun d1 => ?_)
  · exact one (Or.inl d1) ⟨rfl, rfl, rfl, rfl, trivial⟩
  refine ev_iload_n (pc := 19) dX9_perform_19 rfl ?_
  refine ev_iconst (pc := 20) (v := nI 5) dX9_perform_20 (by decide) ?_
  refine ev_icmp_eqN (pc := 21) (tgt := 38) dX9_perform_21 (by decide) (by omega) (by omega) (fun d2 => ?_) (fun d2 => ?_)
  · exact one (Or.inr (Or.inl d2)) ⟨rfl, rfl, rfl, rfl, trivial⟩
  refine ev_iload_n (pc := 24) dX9_perform_24 rfl ?_
  refine ev_bipush (pc := 25) (v := nI 8) dX9_perform_25 (by decide) ?_
  refine ev_icmp_eqN (pc := 27) (tgt := 38) dX9_perform_27 (by decide) (by omega) (by omega) (fun d3 => ?_) (fun d3 => ?_)
  · exact one (Or.inr (Or.inr (Or.inl d3))) ⟨rfl, rfl, rfl, rfl, trivial⟩
  refine ev_aload_n (pc := 30) dX9_perform_30 rfl ?_
  refine ev_iload_n (pc := 31) dX9_perform_31 rfl ?_
  refine ev_callV (pc := 32) (As := [.int (nI s)]) dX9_perform_32 cv_X9_124 rfl rfl (ms_M h) rfl ⟨by show 19 + 2 ≤ w; omega, show ev_Ca _ _ (w - 21) _ _ _ _ _ _ from k_isMem (by omega) h hm hs⟩ rfl rfl (fun r h1 hp => ?_)
  obtain ⟨rfl, hH⟩ := hp
  rw [hH]
  clear hH
  refine ev_if_eqN (pc := 35) (tgt := 42) dX9_perform_35 (by decide) (by omega) (fun d4 => ?_) (fun d4 => ?_)
  · refine ev_iconst (pc := 42) (v := nI 0) dX9_perform_42 (by decide) ?_
    exact tail 0 (Or.inr ⟨rfl, fun q => by rcases q with q | q | q | q <;> omega⟩) ⟨rfl, rfl, rfl, rfl, trivial⟩
  · exact one (Or.inr (Or.inr (Or.inr (by omega)))) ⟨rfl, rfl, rfl, rfl, trivial⟩
end REFL
