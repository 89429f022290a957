/-! THE LAW: the four calls that catch -/
section LAW3
variable {G : ev_G} {C : ev_L} {w dd : Nat} {K : ev_K} {c z b L i o n : Nat} {xs : Nat → Int32} {pp rr p2 : ev_H} {g g2 : Nat → Int64} {bp : Nat → Nat} {lay : Nat → Nat × Nat} {sa sb ga : Nat → Nat} {tc : Nat} {A : Nat → Nat} {h1 : ev_H}
theorem oh_o : oh o g o = some (.inl (.long, 1, .inr (.inl g))) := if_pos rfl
theorem oh_n {a : Nat} (h : a ≠ o) : oh o g a = none := if_neg h
theorem jn_o1 : ev_jn h1 (oh o g) o = some (.inl (.long, 1, .inr (.inl g))) := by
  unfold ev_jn
  rw [oh_o]
theorem jn_o2 : ev_jn h1 (ev_jn p2 (oh o g)) o = some (.inl (.long, 1, .inr (.inl g))) := by
  have := jn_o1 (h1 := p2) (o := o) (g := g)
  unfold ev_jn at this ⊢
  rw [this]
theorem jn_st : ev_up (ev_jn h1 (oh o g)) o (.inl (.long, 1, .inr (.inl g2))) = ev_jn h1 (oh o g2) := by
  funext a
  by_cases e : a = o
  · subst e
    rw [jn_o1]
    exact if_pos rfl
  · have e1 : ev_jn h1 (oh o g) a = h1 a := by
      unfold ev_jn
      rw [oh_n e]
    have e2 : ev_jn h1 (oh o g2) a = h1 a := by
      unfold ev_jn
      rw [oh_n e]
    rw [e2]
    exact (if_neg e).trans e1
theorem dj_oh (h : ∀ a x, oh o g a = some x → h1 a = none) : dj h1 (oh o g2) := by
  intro a
  by_cases e : a = o
  · subst e
    exact Or.inl (h a _ oh_o)
  · exact Or.inr (oh_n e)
theorem dj_w {ho : ev_H} (h : ∀ a x, rr a = some x → ev_jn h1 ho a = none) : dj h1 rr ∧ dj rr ho := by
  have key : ∀ a, rr a = none ∨ (h1 a = none ∧ ho a = none) := by
    intro a
    cases e : rr a with
    | none => exact Or.inl rfl
    | some x =>
      have := h a x e
      unfold ev_jn at this
      cases e2 : ho a with
      | some y => rw [e2] at this; cases this
      | none => rw [e2] at this; exact Or.inr ⟨this, rfl⟩
  exact ⟨fun a => (key a).symm.imp (fun q => q.1) id, fun a => (key a).imp id (fun q => q.2)⟩
def wp (post : Option Value → ev_H → Prop) (o : Nat) (r : Option Value) (h1 : ev_H) : Prop := r = some (.int (nI 0)) ∧ ∃ (p1 : ev_H) (g1 : Nat → Int64) (y : Int32), h1 = ev_jn p1 (oh o g1) ∧ dj p1 (oh o g1) ∧ post (some (.int y)) p1 ∧ g1 0 = y.toInt64
theorem w_set {x0 x1 x2 : Int32} {fs : List Value} {post : Option Value → ev_H → Prop} (hw : 60 ≤ w) (hp0 : ∀ r h, post r h → ∃ y : Int32, r = some (.int y)) (hB : pp (bp 0) = some (.inr (6, fs))) (hdj : dj pp (oh o g)) (hk : ev_Ca G dd (w - 24) m_X8_set [.ref (bp 0), .int x0, .int x1, .int x2] pp 0 0 (ev_ok post)) : ev_Ca G (dd + 1) w m_L_set [.ref (bp 0), .int x0, .int x1, .int x2, .ref o] (ev_jn pp (oh o g)) 0 0 (ev_ok (wp post o)) := by
  refine ⟨by decide +kernel, rfl, ?_⟩
  refine ev_aload (pc := 0) dL_set_0 rfl ?_
  refine ev_iconst (pc := 2) (v := nI 0) dL_set_2 (by decide) ?_
  refine ev_aload_n (pc := 3) dL_set_3 rfl ?_
  refine ev_iload_n (pc := 4) dL_set_4 rfl ?_
  refine ev_iload_n (pc := 5) dL_set_5 rfl ?_
  refine ev_iload_n (pc := 6) dL_set_6 rfl ?_
  refine ev_callVf (pc := 7) (As := [.int x0, .int x1, .int x2]) (hs := pp) (hf := (oh o g)) dL_set_7 cv_L_7 rfl rfl hB rfl ⟨by show 19 + 5 ≤ w; omega, hk⟩ rfl rfl rfl (dj_f hdj) (fun r h1 hp hq => ?_)
  obtain ⟨y, rfl⟩ := hp0 _ _ hp
  refine ev_i2l (pc := 10) dL_set_10 ?_
  refine ev_last (pc := 11) dL_set_11 (a := o) (n := 1) (f := g) jn_o1 (vp_in_nI (n := 0) (N := 1) (by decide) (by decide)) ?_
  refine ev_th jn_st ?_
  refine ev_goto (pc := 12) (tgt := 23) dL_set_12 (by decide) ?_
  refine ev_iconst (pc := 23) (v := nI 0) dL_set_23 (by decide) ?_
  exact ev_iret (pc := 24) dL_set_24 rfl rfl ⟨rfl, h1, _, y, rfl, dj_oh hq, hp, rfl⟩
theorem w_get {x0 x1 : Int32} {fs : List Value} {post : Option Value → ev_H → Prop} (hw : 60 ≤ w) (hp0 : ∀ r h, post r h → ∃ y : Int32, r = some (.int y)) (hB : pp (bp 0) = some (.inr (6, fs))) (hdj : dj pp (oh o g)) (hk : ev_Ca G dd (w - 22) m_X8_get [.ref (bp 0), .int x0, .int x1] pp 0 0 (ev_ok post)) : ev_Ca G (dd + 1) w m_L_get [.ref (bp 0), .int x0, .int x1, .ref o] (ev_jn pp (oh o g)) 0 0 (ev_ok (wp post o)) := by
  refine ⟨by decide +kernel, rfl, ?_⟩
  refine ev_aload_n (pc := 0) dL_get_0 rfl ?_
  refine ev_iconst (pc := 1) (v := nI 0) dL_get_1 (by decide) ?_
  refine ev_aload_n (pc := 2) dL_get_2 rfl ?_
  refine ev_iload_n (pc := 3) dL_get_3 rfl ?_
  refine ev_iload_n (pc := 4) dL_get_4 rfl ?_
  refine ev_callVf (pc := 5) (As := [.int x0, .int x1]) (hs := pp) (hf := (oh o g)) dL_get_5 cv_L_17 rfl rfl hB rfl ⟨by show 19 + 3 ≤ w; omega, hk⟩ rfl rfl rfl (dj_f hdj) (fun r h1 hp hq => ?_)
  obtain ⟨y, rfl⟩ := hp0 _ _ hp
  refine ev_i2l (pc := 8) dL_get_8 ?_
  refine ev_last (pc := 9) dL_get_9 (a := o) (n := 1) (f := g) jn_o1 (vp_in_nI (n := 0) (N := 1) (by decide) (by decide)) ?_
  refine ev_th jn_st ?_
  refine ev_goto (pc := 10) (tgt := 21) dL_get_10 (by decide) ?_
  refine ev_iconst (pc := 21) (v := nI 0) dL_get_21 (by decide) ?_
  exact ev_iret (pc := 22) dL_get_22 rfl rfl ⟨rfl, h1, _, y, rfl, dj_oh hq, hp, rfl⟩
theorem w_close {fs : List Value} {post : Option Value → ev_H → Prop} (hw : 60 ≤ w) (hp0 : ∀ r h, post r h → ∃ y : Int32, r = some (.int y)) (hB : pp (bp 0) = some (.inr (6, fs))) (hdj : dj pp (oh o g)) (hk : ev_Ca G dd (w - 22) m_X8_close [.ref (bp 0)] pp 0 0 (ev_ok post)) : ev_Ca G (dd + 1) w m_L_close [.ref (bp 0), .ref o] (ev_jn pp (oh o g)) 0 0 (ev_ok (wp post o)) := by
  refine ⟨by decide +kernel, rfl, ?_⟩
  refine ev_aload_n (pc := 0) dL_close_0 rfl ?_
  refine ev_iconst (pc := 1) (v := nI 0) dL_close_1 (by decide) ?_
  refine ev_aload_n (pc := 2) dL_close_2 rfl ?_
  refine ev_callVf (pc := 3) (As := []) (hs := pp) (hf := (oh o g)) dL_close_3 cv_L_25 rfl rfl hB rfl ⟨by show 19 + 3 ≤ w; omega, hk⟩ rfl rfl rfl (dj_f hdj) (fun r h1 hp hq => ?_)
  obtain ⟨y, rfl⟩ := hp0 _ _ hp
  refine ev_i2l (pc := 6) dL_close_6 ?_
  refine ev_last (pc := 7) dL_close_7 (a := o) (n := 1) (f := g) jn_o1 (vp_in_nI (n := 0) (N := 1) (by decide) (by decide)) ?_
  refine ev_th jn_st ?_
  refine ev_goto (pc := 8) (tgt := 14) dL_close_8 (by decide) ?_
  refine ev_iconst (pc := 14) (v := nI 0) dL_close_14 (by decide) ?_
  exact ev_iret (pc := 15) dL_close_15 rfl rfl ⟨rfl, h1, _, y, rfl, dj_oh hq, hp, rfl⟩
theorem w_base {x0 x1 : Int32} {fs : List Value} {post : Option Value → ev_H → Prop} (hw : 60 ≤ w) (hp0 : ∀ r h, post r h → r = none) (hB : pp (bp 0) = some (.inr (6, fs))) (hk : ev_Ca G dd (w - 22) m_X8_base [.ref (bp 0), .int x0, .int x1] pp 0 0 (ev_ok post)) : ev_Ca G (dd + 1) w m_L_base [.ref (bp 0), .int x0, .int x1] pp 0 0 (ev_ok (fun r h1 => r = some (.int (nI 0)) ∧ post none h1)) := by
  refine ⟨by decide +kernel, rfl, ?_⟩
  refine ev_aload_n (pc := 0) dL_base_0 rfl ?_
  refine ev_iload_n (pc := 1) dL_base_1 rfl ?_
  refine ev_iload_n (pc := 2) dL_base_2 rfl ?_
  refine ev_callV (pc := 3) (As := [.int x0, .int x1]) dL_base_3 cv_L_21 rfl rfl hB rfl ⟨by show 19 + 3 ≤ w; omega, show ev_Ca _ _ (w - 22) _ _ _ _ _ _ from hk⟩ rfl rfl (fun r h1 hp => ?_)
  obtain rfl := hp0 _ _ hp
  refine ev_goto (pc := 6) (tgt := 12) dL_base_6 (by decide) ?_
  refine ev_iconst (pc := 12) (v := nI 0) dL_base_12 (by decide) ?_
  exact ev_iret (pc := 13) dL_base_13 rfl rfl ⟨rfl, hp⟩
/-- what the four calls answer where the program refuses -/
def LX (C : ev_L) (bp : Nat → Nat) (o : Nat) : Prop :=
  (∀ (x0 x1 x2 : Int32) (h : ev_H) (fs : List Value), h (bp 0) = some (.inr (6, fs)) → ¬ (ri x0 0 7 ∧ ri x1 0 2) → C m_L_set [.ref (bp 0), .int x0, .int x1, .int x2, .ref o] h 1 6 (ev_ok (fun r h1 => (∃ cd, ((¬ ri x0 0 7 ∧ cd = 1) ∨ (ri x0 0 7 ∧ cd = 2)) ∧ r = some (.int (nI cd))) ∧ h1 = h))) ∧
  (∀ (x0 x1 : Int32) (h : ev_H) (fs : List Value), h (bp 0) = some (.inr (6, fs)) → ¬ (ri x0 0 7 ∧ ri x1 0 2) → C m_L_get [.ref (bp 0), .int x0, .int x1, .ref o] h 1 6 (ev_ok (fun r h1 => (∃ cd, ((¬ ri x0 0 7 ∧ cd = 1) ∨ (ri x0 0 7 ∧ cd = 2)) ∧ r = some (.int (nI cd))) ∧ h1 = h))) ∧
  (∀ (x0 x1 : Int32) (h : ev_H) (fs : List Value), h (bp 0) = some (.inr (6, fs)) → ¬ (ri x0 1 255 ∧ ri x1 1 1000000) → C m_L_base [.ref (bp 0), .int x0, .int x1] h 1 6 (ev_ok (fun r h1 => r = some (.int (nI 1)) ∧ h1 = h))) ∧
  ∀ (h : ev_H) (dn ba sd : Nat), h (bp 0) = some (.inr (6, bf bp dn ba sd)) → dn ≤ 250 → ba ≤ 1 → ¬ (ba = 1 ∧ dn < 250) → C m_L_close [.ref (bp 0), .ref o] h 1 6 (ev_ok (fun r h1 => r = some (.int (nI 1)) ∧ h1 = h))
theorem tl_set {cd : Nat} {y : Int32} {fs : List Value} (hd : 10 ≤ dd) (hw : 400 ≤ w) (hC : LC G C dd w) (hb : G.1 b = some (L, xs)) (hi : i + 6 ≤ L) (hL : L ≤ 3072) (hcd : cd < 3) (hg : cd = 0 → g 0 = y.toInt64) (d : ld pp rr o g) (hr : rr (A 17) = some (.inr (7, fs))) (hk : ev_Ca G dd (w - 23) m_X9_set_ [.ref (A 17), .int (xs (i + 1)), .int (xs (i + 2)), .int (xs (i + 3))] rr 0 0 (ev_ok (fun r h => (∃ y2 : Int32, r = some (.int y2) ∧ (cd = 0 → y2 = y)) ∧ JI pp h bp lay sa sb ga tc A ∧ ∃ I v Q R lv f, MS h A I v Q R lv f ∧ I 7 = cd))) (hc : n ≤ c ∧ 6 * n ≤ z) (hN : LN G C w K b i o bp lay sa sb ga tc A n) : ev_J G C w m_L_law K (143, lv_ b (bp 0) (A 17) o i, [.int (nI cd)], lh pp rr o g, c, z) := by
  refine ev_istore (pc := 143) dL_law_143 rfl ?_
  refine ev_aload_n (pc := 145) dL_law_145 rfl ?_
  refine ev_aload_n (pc := 146) dL_law_146 rfl ?_
  refine ev_iload (pc := 147) dL_law_147 rfl ?_
  refine ev_iconst (pc := 149) (v := nI 1) dL_law_149 (by decide) ?_
  refine ev_iaddN (pc := 150) dL_law_150 ?_
  refine ev_rs (pc := 151) dL_law_151 hb (by omega) (by omega) ?_
  refine ev_aload_n (pc := 152) dL_law_152 rfl ?_
  refine ev_iload (pc := 153) dL_law_153 rfl ?_
  refine ev_iconst (pc := 155) (v := nI 2) dL_law_155 (by decide) ?_
  refine ev_iaddN (pc := 156) dL_law_156 ?_
  refine ev_rs (pc := 157) dL_law_157 hb (by omega) (by omega) ?_
  refine ev_aload_n (pc := 158) dL_law_158 rfl ?_
  refine ev_iload (pc := 159) dL_law_159 rfl ?_
  refine ev_iconst (pc := 161) (v := nI 3) dL_law_161 (by decide) ?_
  refine ev_iaddN (pc := 162) dL_law_162 ?_
  refine ev_rs (pc := 163) dL_law_163 hb (by omega) (by omega) ?_
  refine ev_callVf (pc := 164) (As := [.int (xs (i + 1)), .int (xs (i + 2)), .int (xs (i + 3))]) (hs := rr) (hf := (ev_jn pp (oh o g))) dL_law_164 cv_L_40 rfl rfl hr rfl (hC _ _ _ _ _ _ ⟨by show 19 + 4 ≤ w; omega, show ev_Ca _ _ (w - 23) _ _ _ _ _ _ from hk⟩) rfl rfl (jn_sw d.1) (dj_f (dj_jn d.1.sy d.2.2)) (fun r h1 hp hq => ?_)
  obtain ⟨⟨y2, rfl, ey⟩, hJ, I, v, Q, R, lv, f, hM, e7⟩ := hp
  have d2 := ld_r d hq
  have hq2 := hq
  clear hq
  generalize h1 = r2 at *
  refine ev_istore (pc := 167) dL_law_167 rfl ?_
  refine ev_aload_n (pc := 169) dL_law_169 rfl ?_
  refine ev_callVf (pc := 170) (As := []) (hs := r2) (hf := (ev_jn pp (oh o g))) dL_law_170 cv_L_41 rfl rfl (ms_M hM) rfl (hC _ _ _ _ _ _ ⟨by show 19 + 1 ≤ w; omega, show ev_Ca _ _ (w - 20) _ _ _ _ _ _ from k_rthrown (by omega) hM⟩) rfl rfl rfl hq2 (fun r h1 hp hq => ?_)
  obtain ⟨rfl, hH⟩ := hp
  rw [hH]
  clear hH hq h1
  have fin : ∀ V : ev_V, ev_hs V [(0, .ref b), (1, .ref (bp 0)), (2, .ref (A 17)), (3, .ref o), (4, .int (nI i))] → ev_J G C w m_L_law K (674, V, [], ev_jn r2 (ev_jn pp (oh o g)), c, z) := by
    intro V hV
    refine ev_th (jn_sw (dj_q hq2).1) ?_
    exact hN V pp r2 g _ _ hc hV hJ d2
  refine ev_iload (pc := 173) dL_law_173 rfl ?_
  refine ev_icmp_eq (pc := 175) (tgt := 180) dL_law_175 (by decide) (fun _ => ?_) (fun q => absurd (by rw [e7]) q)
  refine ev_iload (pc := 180) dL_law_180 rfl ?_
  refine ev_if_ne (pc := 182) (tgt := 197) dL_law_182 (by decide) (fun q => ?_) (fun q => ?_)
  · refine ev_goto (pc := 197) (tgt := 674) dL_law_197 (by decide) ?_
    exact fin _ ⟨rfl, rfl, rfl, rfl, rfl, trivial⟩
  · have c0 : cd = 0 := by
      rcases (show cd = 0 ∨ cd = 1 ∨ cd = 2 by omega) with rfl | rfl | rfl
      · rfl
      · exact absurd q (by decide)
      · exact absurd q (by decide)
    refine ev_aload_n (pc := 185) dL_law_185 rfl ?_
    refine ev_iconst (pc := 186) (v := nI 0) dL_law_186 (by decide) ?_
    refine ev_lald (pc := 187) dL_law_187 (a := o) (n := 1) (f := g) jn_o2 (vp_in_nI (n := 0) (N := 1) (by decide) (by decide)) ?_
    refine ev_iload (pc := 188) dL_law_188 rfl ?_
    refine ev_i2l (pc := 190) dL_law_190 ?_
    refine ev_lcmp (pc := 191) dL_law_191 ?_
    refine ev_if_eq (pc := 192) (tgt := 197) dL_law_192 (by decide) (fun _ => ?_) (fun q => absurd (by rw [show (nI 0).toNatClampNeg = 0 from rfl, hg c0, ey c0]; exact lc_self _) q)
    refine ev_goto (pc := 197) (tgt := 674) dL_law_197 (by decide) ?_
    exact fin _ ⟨rfl, rfl, rfl, rfl, rfl, trivial⟩
theorem tl_get {cd : Nat} {y : Int32} {fs : List Value} (hd : 10 ≤ dd) (hw : 400 ≤ w) (hC : LC G C dd w) (hb : G.1 b = some (L, xs)) (hi : i + 6 ≤ L) (hL : L ≤ 3072) (hcd : cd < 3) (hg : cd = 0 → g 0 = y.toInt64) (d : ld pp rr o g) (hr : rr (A 17) = some (.inr (7, fs))) (hk : ev_Ca G dd (w - 22) m_X9_get [.ref (A 17), .int (xs (i + 1)), .int (xs (i + 2))] rr 0 0 (ev_ok (fun r h => (∃ y2 : Int32, r = some (.int y2) ∧ (cd = 0 → y2 = y)) ∧ JI pp h bp lay sa sb ga tc A ∧ ∃ I v Q R lv f, MS h A I v Q R lv f ∧ I 7 = cd))) (hc : n ≤ c ∧ 6 * n ≤ z) (hN : LN G C w K b i o bp lay sa sb ga tc A n) : ev_J G C w m_L_law K (217, lv_ b (bp 0) (A 17) o i, [.int (nI cd)], lh pp rr o g, c, z) := by
  refine ev_istore (pc := 217) dL_law_217 rfl ?_
  refine ev_aload_n (pc := 219) dL_law_219 rfl ?_
  refine ev_aload_n (pc := 220) dL_law_220 rfl ?_
  refine ev_iload (pc := 221) dL_law_221 rfl ?_
  refine ev_iconst (pc := 223) (v := nI 1) dL_law_223 (by decide) ?_
  refine ev_iaddN (pc := 224) dL_law_224 ?_
  refine ev_rs (pc := 225) dL_law_225 hb (by omega) (by omega) ?_
  refine ev_aload_n (pc := 226) dL_law_226 rfl ?_
  refine ev_iload (pc := 227) dL_law_227 rfl ?_
  refine ev_iconst (pc := 229) (v := nI 2) dL_law_229 (by decide) ?_
  refine ev_iaddN (pc := 230) dL_law_230 ?_
  refine ev_rs (pc := 231) dL_law_231 hb (by omega) (by omega) ?_
  refine ev_callVf (pc := 232) (As := [.int (xs (i + 1)), .int (xs (i + 2))]) (hs := rr) (hf := (ev_jn pp (oh o g))) dL_law_232 cv_L_47 rfl rfl hr rfl (hC _ _ _ _ _ _ ⟨by show 19 + 3 ≤ w; omega, show ev_Ca _ _ (w - 22) _ _ _ _ _ _ from hk⟩) rfl rfl (jn_sw d.1) (dj_f (dj_jn d.1.sy d.2.2)) (fun r h1 hp hq => ?_)
  obtain ⟨⟨y2, rfl, ey⟩, hJ, I, v, Q, R, lv, f, hM, e7⟩ := hp
  have d2 := ld_r d hq
  have hq2 := hq
  clear hq
  generalize h1 = r2 at *
  refine ev_istore (pc := 235) dL_law_235 rfl ?_
  refine ev_aload_n (pc := 237) dL_law_237 rfl ?_
  refine ev_callVf (pc := 238) (As := []) (hs := r2) (hf := (ev_jn pp (oh o g))) dL_law_238 cv_L_41 rfl rfl (ms_M hM) rfl (hC _ _ _ _ _ _ ⟨by show 19 + 1 ≤ w; omega, show ev_Ca _ _ (w - 20) _ _ _ _ _ _ from k_rthrown (by omega) hM⟩) rfl rfl rfl hq2 (fun r h1 hp hq => ?_)
  obtain ⟨rfl, hH⟩ := hp
  rw [hH]
  clear hH hq h1
  have fin : ∀ V : ev_V, ev_hs V [(0, .ref b), (1, .ref (bp 0)), (2, .ref (A 17)), (3, .ref o), (4, .int (nI i))] → ev_J G C w m_L_law K (674, V, [], ev_jn r2 (ev_jn pp (oh o g)), c, z) := by
    intro V hV
    refine ev_th (jn_sw (dj_q hq2).1) ?_
    exact hN V pp r2 g _ _ hc hV hJ d2
  refine ev_iload (pc := 241) dL_law_241 rfl ?_
  refine ev_icmp_eq (pc := 243) (tgt := 248) dL_law_243 (by decide) (fun _ => ?_) (fun q => absurd (by rw [e7]) q)
  refine ev_iload (pc := 248) dL_law_248 rfl ?_
  refine ev_if_ne (pc := 250) (tgt := 265) dL_law_250 (by decide) (fun q => ?_) (fun q => ?_)
  · refine ev_goto (pc := 265) (tgt := 674) dL_law_265 (by decide) ?_
    exact fin _ ⟨rfl, rfl, rfl, rfl, rfl, trivial⟩
  · have c0 : cd = 0 := by
      rcases (show cd = 0 ∨ cd = 1 ∨ cd = 2 by omega) with rfl | rfl | rfl
      · rfl
      · exact absurd q (by decide)
      · exact absurd q (by decide)
    refine ev_aload_n (pc := 253) dL_law_253 rfl ?_
    refine ev_iconst (pc := 254) (v := nI 0) dL_law_254 (by decide) ?_
    refine ev_lald (pc := 255) dL_law_255 (a := o) (n := 1) (f := g) jn_o2 (vp_in_nI (n := 0) (N := 1) (by decide) (by decide)) ?_
    refine ev_iload (pc := 256) dL_law_256 rfl ?_
    refine ev_i2l (pc := 258) dL_law_258 ?_
    refine ev_lcmp (pc := 259) dL_law_259 ?_
    refine ev_if_eq (pc := 260) (tgt := 265) dL_law_260 (by decide) (fun _ => ?_) (fun q => absurd (by rw [show (nI 0).toNatClampNeg = 0 from rfl, hg c0, ey c0]; exact lc_self _) q)
    refine ev_goto (pc := 265) (tgt := 674) dL_law_265 (by decide) ?_
    exact fin _ ⟨rfl, rfl, rfl, rfl, rfl, trivial⟩
theorem tl_close {cd : Nat} {y : Int32} {fs : List Value} (hd : 10 ≤ dd) (hw : 400 ≤ w) (hC : LC G C dd w) (hb : G.1 b = some (L, xs)) (hi : i + 6 ≤ L) (hL : L ≤ 3072) (hcd : cd < 3) (hg : cd = 0 → g 0 = y.toInt64) (d : ld pp rr o g) (hr : rr (A 17) = some (.inr (7, fs))) (hk : ev_Ca G dd (w - 24) m_X9_close [.ref (A 17)] rr 0 0 (ev_ok (fun r h => (∃ y2 : Int32, r = some (.int y2) ∧ (cd = 0 → y2 = y)) ∧ JI pp h bp lay sa sb ga tc A ∧ ∃ I v Q R lv f, MS h A I v Q R lv f ∧ I 7 = cd))) (hc : n ≤ c ∧ 6 * n ≤ z) (hN : LN G C w K b i o bp lay sa sb ga tc A n) : ev_J G C w m_L_law K (407, lv_ b (bp 0) (A 17) o i, [.int (nI cd)], lh pp rr o g, c, z) := by
  refine ev_istore (pc := 407) dL_law_407 rfl ?_
  refine ev_aload_n (pc := 409) dL_law_409 rfl ?_
  refine ev_callVf (pc := 410) (As := []) (hs := rr) (hf := (ev_jn pp (oh o g))) dL_law_410 cv_L_64 rfl rfl hr rfl (hC _ _ _ _ _ _ ⟨by show 19 + 5 ≤ w; omega, show ev_Ca _ _ (w - 24) _ _ _ _ _ _ from hk⟩) rfl rfl (jn_sw d.1) (dj_f (dj_jn d.1.sy d.2.2)) (fun r h1 hp hq => ?_)
  obtain ⟨⟨y2, rfl, ey⟩, hJ, I, v, Q, R, lv, f, hM, e7⟩ := hp
  have d2 := ld_r d hq
  have hq2 := hq
  clear hq
  generalize h1 = r2 at *
  refine ev_istore (pc := 413) dL_law_413 rfl ?_
  refine ev_aload_n (pc := 415) dL_law_415 rfl ?_
  refine ev_callVf (pc := 416) (As := []) (hs := r2) (hf := (ev_jn pp (oh o g))) dL_law_416 cv_L_41 rfl rfl (ms_M hM) rfl (hC _ _ _ _ _ _ ⟨by show 19 + 1 ≤ w; omega, show ev_Ca _ _ (w - 20) _ _ _ _ _ _ from k_rthrown (by omega) hM⟩) rfl rfl rfl hq2 (fun r h1 hp hq => ?_)
  obtain ⟨rfl, hH⟩ := hp
  rw [hH]
  clear hH hq h1
  have fin : ∀ V : ev_V, ev_hs V [(0, .ref b), (1, .ref (bp 0)), (2, .ref (A 17)), (3, .ref o), (4, .int (nI i))] → ev_J G C w m_L_law K (674, V, [], ev_jn r2 (ev_jn pp (oh o g)), c, z) := by
    intro V hV
    refine ev_th (jn_sw (dj_q hq2).1) ?_
    exact hN V pp r2 g _ _ hc hV hJ d2
  refine ev_iload (pc := 419) dL_law_419 rfl ?_
  refine ev_icmp_eq (pc := 421) (tgt := 426) dL_law_421 (by decide) (fun _ => ?_) (fun q => absurd (by rw [e7]) q)
  refine ev_iload (pc := 426) dL_law_426 rfl ?_
  refine ev_if_ne (pc := 428) (tgt := 443) dL_law_428 (by decide) (fun q => ?_) (fun q => ?_)
  · refine ev_goto (pc := 443) (tgt := 674) dL_law_443 (by decide) ?_
    exact fin _ ⟨rfl, rfl, rfl, rfl, rfl, trivial⟩
  · have c0 : cd = 0 := by
      rcases (show cd = 0 ∨ cd = 1 ∨ cd = 2 by omega) with rfl | rfl | rfl
      · rfl
      · exact absurd q (by decide)
      · exact absurd q (by decide)
    refine ev_aload_n (pc := 431) dL_law_431 rfl ?_
    refine ev_iconst (pc := 432) (v := nI 0) dL_law_432 (by decide) ?_
    refine ev_lald (pc := 433) dL_law_433 (a := o) (n := 1) (f := g) jn_o2 (vp_in_nI (n := 0) (N := 1) (by decide) (by decide)) ?_
    refine ev_iload (pc := 434) dL_law_434 rfl ?_
    refine ev_i2l (pc := 436) dL_law_436 ?_
    refine ev_lcmp (pc := 437) dL_law_437 ?_
    refine ev_if_eq (pc := 438) (tgt := 443) dL_law_438 (by decide) (fun _ => ?_) (fun q => absurd (by rw [show (nI 0).toNatClampNeg = 0 from rfl, hg c0, ey c0]; exact lc_self _) q)
    refine ev_goto (pc := 443) (tgt := 674) dL_law_443 (by decide) ?_
    exact fin _ ⟨rfl, rfl, rfl, rfl, rfl, trivial⟩
theorem tl_base {cd : Nat} {fs : List Value} (hd : 10 ≤ dd) (hw : 400 ≤ w) (hC : LC G C dd w) (hb : G.1 b = some (L, xs)) (hi : i + 6 ≤ L) (hL : L ≤ 3072) (d : ld pp rr o g) (hr : rr (A 17) = some (.inr (7, fs))) (hk : ev_Ca G dd (w - 23) m_X9_base [.ref (A 17), .int (xs (i + 1)), .int (xs (i + 2))] rr 0 0 (ev_ok (fun r h => r = none ∧ JI pp h bp lay sa sb ga tc A ∧ ∃ I v Q R lv f, MS h A I v Q R lv f ∧ I 7 = cd))) (hc : n ≤ c ∧ 6 * n ≤ z) (hN : LN G C w K b i o bp lay sa sb ga tc A n) : ev_J G C w m_L_law K (284, lv_ b (bp 0) (A 17) o i, [.int (nI cd)], lh pp rr o g, c, z) := by
  refine ev_istore (pc := 284) dL_law_284 rfl ?_
  refine ev_aload_n (pc := 286) dL_law_286 rfl ?_
  refine ev_aload_n (pc := 287) dL_law_287 rfl ?_
  refine ev_iload (pc := 288) dL_law_288 rfl ?_
  refine ev_iconst (pc := 290) (v := nI 1) dL_law_290 (by decide) ?_
  refine ev_iaddN (pc := 291) dL_law_291 ?_
  refine ev_rs (pc := 292) dL_law_292 hb (by omega) (by omega) ?_
  refine ev_aload_n (pc := 293) dL_law_293 rfl ?_
  refine ev_iload (pc := 294) dL_law_294 rfl ?_
  refine ev_iconst (pc := 296) (v := nI 2) dL_law_296 (by decide) ?_
  refine ev_iaddN (pc := 297) dL_law_297 ?_
  refine ev_rs (pc := 298) dL_law_298 hb (by omega) (by omega) ?_
  refine ev_callVf (pc := 299) (As := [.int (xs (i + 1)), .int (xs (i + 2))]) (hs := rr) (hf := (ev_jn pp (oh o g))) dL_law_299 cv_L_51 rfl rfl hr rfl (hC _ _ _ _ _ _ ⟨by show 19 + 4 ≤ w; omega, show ev_Ca _ _ (w - 23) _ _ _ _ _ _ from hk⟩) rfl rfl (jn_sw d.1) (dj_f (dj_jn d.1.sy d.2.2)) (fun r h1 hp hq => ?_)
  obtain ⟨rfl, hJ, I, v, Q, R, lv, f, hM, e7⟩ := hp
  have d2 := ld_r d hq
  have hq2 := hq
  clear hq
  generalize h1 = r2 at *
  refine ev_aload_n (pc := 302) dL_law_302 rfl ?_
  refine ev_callVf (pc := 303) (As := []) (hs := r2) (hf := (ev_jn pp (oh o g))) dL_law_303 cv_L_41 rfl rfl (ms_M hM) rfl (hC _ _ _ _ _ _ ⟨by show 19 + 1 ≤ w; omega, show ev_Ca _ _ (w - 20) _ _ _ _ _ _ from k_rthrown (by omega) hM⟩) rfl rfl rfl hq2 (fun r h1 hp hq => ?_)
  obtain ⟨rfl, hH⟩ := hp
  rw [hH]
  clear hH hq h1
  refine ev_iload (pc := 306) dL_law_306 rfl ?_
  refine ev_icmp_eq (pc := 308) (tgt := 313) dL_law_308 (by decide) (fun _ => ?_) (fun q => absurd (by rw [e7]) q)
  refine ev_goto (pc := 313) (tgt := 674) dL_law_313 (by decide) ?_
  refine ev_th (jn_sw (dj_q hq2).1) ?_
  exact hN _ pp r2 g _ _ hc ⟨rfl, rfl, rfl, rfl, rfl, trivial⟩ hJ d2
end LAW3
