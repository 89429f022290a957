/-! all the Wholes of a desk and its fractions, by their numbers: where they lie, what they are -/
theorem ev_callVe {G : ev_G} {C : ev_L} {w : Nat} {M : ev_M} {K : ev_K} {pc : Nat} {L : ev_V} {st : List Value} {h : ev_H} {c z i c1 z1 b ci : Nat} {N : ev_M} {As stk : List Value} {post : Option Value → ev_H → Prop} (hd : decode M.2.1 pc = .ok (.invokevirtual i, 3)) (hw : ev_cv M.1.cls i N As.length) (hs : stk = As.reverse ++ .ref b :: st) (hq : Nat.ble ((st.map (fun v => v.category)).sum) 8 = true) (hb1 : ∃ fs, h b = some (.inr (ci, fs))) (hci : (classes[ci]?).map (fun q => q.1) = some N.1.cls) (hC : C N (.ref b :: As) h c1 z1 (ev_ok post)) (hc1 : Nat.ble c1 c = true) (hz1 : Nat.ble z1 z = true) (k : ∀ r h1, post r h1 → ev_J G C w M K (pc + 3, L, r.toList ++ st, h1, c - c1, z - z1)) : ev_J G C w M K (pc, L, stk, h, c, z) := by
  obtain ⟨fs, hb1⟩ := hb1
  exact ev_callV hd hw hs hq hb1 hci hC hc1 hz1 k
def wi (H : ev_H) (p : Nat × Nat) (v : Nat) : Prop := ∃ (g : Nat → Nat) (n : Nat), H p.1 = some (.inr (5, [.ref p.2, .int (nI n)])) ∧ H p.2 = some (.inl (.int, 72, .inl (fun j => nI (g j)))) ∧ mb_is g n v
theorem wi_o {H : ev_H} {p : Nat × Nat} {v : Nat} (h : wi H p v) : ∃ fs, H p.1 = some (.inr (5, fs)) := by
  obtain ⟨g, n, h1, -⟩ := h
  exact ⟨_, h1⟩
def WS (H : ev_H) (lay : Nat → Nat × Nat) (val : Nat → Nat) : Prop := ∀ i, i < 20 → wi H (lay i) (val i)
def WL (lay : Nat → Nat × Nat) : Prop := ∀ i j, i < 20 → j < 20 → i ≠ j → (lay i).1 ≠ (lay j).1 ∧ (lay i).2 ≠ (lay j).2
def WF (lay : Nat → Nat × Nat) (H h1 : ev_H) : Prop := ∀ a, (∀ k, k < 20 → a ≠ (lay k).1 ∧ a ≠ (lay k).2) → h1 a = H a
theorem WF.rf {lay : Nat → Nat × Nat} {H : ev_H} : WF lay H H := fun _ _ => rfl
theorem WF.tr {lay : Nat → Nat × Nat} {H h1 h2 : ev_H} (a : WF lay H h1) (b : WF lay h1 h2) : WF lay H h2 := fun x hx => (b x hx).trans (a x hx)
/-- a desk: its nine numbers are the first nine -/
def dkf (lay : Nat → Nat × Nat) : List Value := [.ref (lay 0).1, .ref (lay 1).1, .ref (lay 2).1, .ref (lay 3).1, .ref (lay 4).1, .ref (lay 5).1, .ref (lay 6).1, .ref (lay 7).1, .ref (lay 8).1]
def DW (H : ev_H) (D : Nat) (lay : Nat → Nat × Nat) (val : Nat → Nat) : Prop := WL lay ∧ WS H lay val ∧ H D = some (.inr (1, dkf lay))
/-- what is no Whole and no row of digits is apart from them all -/
theorem ws_out {H : ev_H} {lay : Nat → Nat × Nat} {val : Nat → Nat} (hS : WS H lay val) {a : Nat} {x : ev_C} (ha : H a = some x) (h1 : ∀ fs, x ≠ .inr (5, fs)) (h2 : ∀ f, x ≠ .inl (.int, 72, .inl f)) : ∀ k, k < 20 → a ≠ (lay k).1 ∧ a ≠ (lay k).2 := by
  intro k hk
  obtain ⟨g, n, e1, e2, -⟩ := hS k hk
  constructor
  · intro e; rw [e, e1] at ha; exact h1 _ (Option.some.inj ha).symm
  · intro e; rw [e, e2] at ha; exact h2 _ (Option.some.inj ha).symm
theorem dw_out {H : ev_H} {D : Nat} {lay : Nat → Nat × Nat} {val : Nat → Nat} (h : DW H D lay val) : ∀ k, k < 20 → D ≠ (lay k).1 ∧ D ≠ (lay k).2 := ws_out h.2.1 h.2.2 (fun fs e => by cases e) (fun f e => by cases e)
theorem wi_ne {H : ev_H} {p p2 : Nat × Nat} {v v2 : Nat} (h1 : wi H p v) (h2 : wi H p2 v2) : p.1 ≠ p2.2 := by
  obtain ⟨g, n, e1, -⟩ := h1
  obtain ⟨g2, n2, -, e2, -⟩ := h2
  intro e
  rw [e, e2] at e1
  cases e1
theorem ws_put {H h1 : ev_H} {D : Nat} {lay : Nat → Nat × Nat} {val : Nat → Nat} {i v : Nat} (h : DW H D lay val) (hi : i < 20) (hv : wv H (lay i).1 (lay i).2 v h1) : DW h1 D lay (va_up val i v) ∧ WF lay H h1 := by
  obtain ⟨hL, hS, hD⟩ := h
  obtain ⟨g, n, hm, rfl⟩ := hv
  have hqd := wi_ne (hS i hi) (hS i hi)
  have hF : WF lay H (wh_p H (lay i).1 (lay i).2 n g) := fun a ha => wh_n (ha i hi).1 (ha i hi).2
  refine ⟨⟨hL, fun k hk => ?_, ?_⟩, hF⟩
  · by_cases e : k = i
    · subst e
      rw [va_up_self]
      exact ⟨g, n, wh_q, wh_d hqd, hm⟩
    · rw [va_up_ne _ _ e]
      obtain ⟨g2, n2, a1, a2, a3⟩ := hS k hk
      obtain ⟨b1, b2⟩ := hL k i hk hi e
      exact ⟨g2, n2, (wh_n b1 (wi_ne (hS k hk) (hS i hi))).trans a1, (wh_n (Ne.symm (wi_ne (hS i hi) (hS k hk))) b2).trans a2, a3⟩
  · rw [hF D (dw_out ⟨hL, hS, hD⟩)]; exact hD
theorem ws_a {H : ev_H} {lay : Nat → Nat × Nat} {val : Nat → Nat} (hL : WL lay) (hS : WS H lay val) {i j : Nat} (hi : i < 20) (hj : j < 20) (hij : i ≠ j) {n2 : Nat} {g2 : Nat → Nat} (e1 : H (lay j).1 = some (.inr (5, [.ref (lay j).2, .int (nI n2)]))) (e2 : H (lay j).2 = some (.inl (.int, 72, .inl (fun x => nI (g2 x))))) : wh_a H (lay i).1 (lay i).2 (lay j).1 (lay j).2 n2 g2 :=
  ⟨(hL j i hj hi (Ne.symm hij)).1, wi_ne (hS j hj) (hS i hi), Ne.symm (wi_ne (hS i hi) (hS j hj)), (hL j i hj hi (Ne.symm hij)).2, e1, e2⟩
theorem ev_kmono {G : ev_G} {C : ev_L} {w : Nat} {M : ev_M} {K K2 : ev_K} {X : ev_S → Prop} (hK : ∀ r x, K r x → K2 r x) : ∀ n, ev_ru G C w M K2 X n → ev_ru G C w M K X n
  | 0 => fun t => t
  | 1 => fun t => t
  | 2 => fun t => t
  | 3 => fun t => t
  | 4 => fun t => t
  | 5 => fun t => t
  | 6 => fun t => t
  | 7 => fun t => t
  | 8 => fun t => t
  | 9 => fun t => t
  | 10 => fun t => t
  | 11 => fun t => t
  | 12 => fun t => t
  | 13 => fun t => t
  | 14 => fun t => t
  | 15 => fun t => t
  | 16 => fun t => t
  | 17 => fun t => t
  | 18 => fun t => t
  | 19 => fun t => t
  | 20 => fun t => t
  | 21 => fun t => t
  | 22 => fun t => t
  | 23 => fun t => t
  | 24 => fun t => t
  | 25 => fun t => t
  | 26 => fun t => t
  | 27 => fun t => t
  | 28 => fun t => t
  | 29 => fun t => t
  | 30 => fun t => t
  | 31 => fun t => t
  | 32 => fun t => t
  | 33 => fun t => t
  | 34 => fun t => t
  | 35 => fun t => t
  | 36 => fun t => t
  | 37 => fun t => t
  | 38 => fun t => t
  | 39 => fun t => t
  | 40 => fun t => t
  | 41 => fun t => t
  | 42 => fun t => t
  | 43 => fun t => t
  | 44 => fun t => t
  | 45 => fun t => t
  | 46 => fun t => t
  | 47 => fun t => t
  | 48 => fun t => t
  | 49 => fun t => t
  | 50 => fun t => t
  | 51 => fun t => t
  | 52 => fun t => t
  | 53 => fun t => t
  | 54 => fun t => t
  | 55 => fun t => t
  | 56 => fun t => t
  | 57 => fun t => t
  | 58 => fun t => t
  | 59 => fun t => t
  | 60 => fun t => t
  | 61 => fun t => t
  | 62 => fun t => t
  | 63 => fun t => t
  | 64 => fun t => t
  | 65 => fun t => t
  | 66 => fun t => t
  | 67 => fun t => t
  | 68 => fun t => t
  | 69 => fun t => t
  | 70 => fun t => t
  | 71 => fun t => t
  | 72 => fun t => t
  | 73 => fun t => t
  | 74 => fun t => t
  | 75 => fun t => t
  | 76 => fun t => t
  | 77 => fun t => t
  | 78 => fun t => t
  | 79 => fun t => t
  | 80 => fun t => t
  | 81 => fun t => t
  | 82 => fun t => t
  | 83 => fun t => t
  | 84 => fun t => t
  | 85 => fun t => t
  | 86 => fun t => t
  | 87 => fun t => t
  | 88 => fun t => t
  | 89 => fun t => t
  | 90 => fun t => t
  | 91 => fun t => t
  | 92 => fun t => t
  | 93 => fun t => t
  | 94 => fun t => t
  | 95 => fun t => t
  | 96 => fun t => t
  | 97 => fun t => t
  | 98 => fun t => fun hd hr hn hk => t hd hr hn (hK _ _ hk)
  | 99 => fun t => fun hd hr hk => t hd hr (hK _ _ hk)
  | 100 => fun t => fun hd hr hrt hk => t hd hr hrt (hK _ _ hk)
  | 101 => fun t => fun hd hr hk => t hd hr (hK _ _ hk)
  | 102 => fun t => fun hk => t (hK _ _ hk)
  | 103 => fun t => t
  | 104 => fun t => t
  | 105 => fun t => t
  | 106 => fun t => t
  | 107 => fun t => t
  | 108 => fun t => t
  | 109 => fun t => t
  | 110 => fun t => t
  | 111 => fun t => t
  | 112 => fun t => t
  | 113 => fun t => t
  | 114 => fun t => t
  | 115 => fun t => t
  | 116 => fun t => t
  | 117 => fun t => t
  | 118 => fun t => t
  | 119 => fun t => t
  | 120 => fun t => t
  | _ + 121 => fun _ => trivial
theorem ca_mono {G : ev_G} {dd w : Nat} {M : ev_M} {args : List Value} {h : ev_H} {c z : Nat} {K K2 : ev_K} (hK : ∀ r x, K r x → K2 r x) (h0 : ev_Ca G dd w M args h c z K) : ev_Ca G dd w M args h c z K2 := by
  cases dd with
  | zero => exact h0.elim
  | succ dd =>
    obtain ⟨h1, h2, h3⟩ := h0
    exact ⟨h1, h2, fun X hX => h3 X (fun n => ev_kmono hK n (hX n))⟩
theorem ca_post {G : ev_G} {dd w : Nat} {M : ev_M} {args : List Value} {h : ev_H} {c z : Nat} {p1 p2 : Option Value → ev_H → Prop} (hp : ∀ r x, p1 r x → p2 r x) (h0 : ev_Ca G dd w M args h c z (ev_ok p1)) : ev_Ca G dd w M args h c z (ev_ok p2) := ca_mono (K := ev_ok p1) (K2 := ev_ok p2) (fun r x => match r with
  | .inl v => hp v x
  | .inr _ => id) h0
section LAY
variable {G : ev_G} {w : Nat} {H : ev_H} {D : Nat} {lay : Nat → Nat × Nat} {val : Nat → Nat} {i j k dd : Nat}
/-- behind a method that writes the Whole i -/
def wpost (H : ev_H) (D : Nat) (lay : Nat → Nat × Nat) (val : Nat → Nat) (i v : Nat) (h1 : ev_H) : Prop := DW h1 D lay (va_up val i v) ∧ WF lay H h1
theorem t_become {v : Nat} (hd : 2 ≤ dd) (hw : 21 ≤ w) (h : DW H D lay val) (hi : i < 20) (hv : v < 2 ^ 63) : ev_Ca G dd w m_X7_become [.ref (lay i).1, .long (lN v)] H 0 0 (ev_ok (fun r h1 => r = none ∧ wpost H D lay val i v h1)) := by
  obtain ⟨g, n, e1, e2, m⟩ := h.2.1 i hi
  have := k_become (G := G) (w := w) (h := H) hd hw (wi_ne (h.2.1 i hi) (h.2.1 i hi)) m hv
  rw [wh_id e1 e2] at this
  exact ca_post (fun r h1 hp => ⟨hp.1, ws_put h hi hp.2⟩) this
theorem t_copy (hd : 1 ≤ dd) (hw : 26 ≤ w) (h : DW H D lay val) (hi : i < 20) (hj : j < 20) (hij : i ≠ j) : ev_Ca G dd w m_X7_copy [.ref (lay i).1, .ref (lay j).1] H 0 0 (ev_ok (fun r h1 => r = none ∧ wpost H D lay val i (val j) h1)) := by
  obtain ⟨g, n, e1, e2, m⟩ := h.2.1 i hi
  obtain ⟨g2, n2, f1, f2, m2⟩ := h.2.1 j hj
  have := k_copy (G := G) (w := w) (h := H) hd hw (wi_ne (h.2.1 i hi) (h.2.1 i hi)) m.2.2.2.1 m2.2.2.2.1 (ws_a h.1 h.2.1 hi hj hij f1 f2) m.2.1 m2.2.1
  rw [wh_id e1 e2] at this
  exact ca_post (fun r h1 hp => ⟨hp.1, ws_put h hi ⟨g2, n2, m2, hp.2⟩⟩) this
theorem t_add (hd : 2 ≤ dd) (hw : 23 ≤ w) (h : DW H D lay val) (hi : i < 20) (hj : j < 20) (hij : i ≠ j) (hs : val i + val j < 1073741824 ^ 72) : ev_Ca G dd w m_X7_add [.ref (lay i).1, .ref (lay j).1] H 0 0 (ev_ok (fun r h1 => r = none ∧ wpost H D lay val i (val i + val j) h1)) := by
  obtain ⟨g, n, e1, e2, m⟩ := h.2.1 i hi
  obtain ⟨g2, n2, f1, f2, m2⟩ := h.2.1 j hj
  have := k_add (G := G) (w := w) (h := H) hd hw (wi_ne (h.2.1 i hi) (h.2.1 i hi)) (ws_a h.1 h.2.1 hi hj hij f1 f2) m m2 hs
  rw [wh_id e1 e2] at this
  exact ca_post (fun r h1 hp => ⟨hp.1, ws_put h hi hp.2⟩) this
theorem t_setProduct (hd : 2 ≤ dd) (hw : 21 ≤ w) (h : DW H D lay val) (hi : i < 20) (hj : j < 20) (hk : k < 20) (hij : i ≠ j) (hik : i ≠ k) (hs : val j * val k < 1073741824 ^ 71) : ev_Ca G dd w m_X7_setProduct [.ref (lay i).1, .ref (lay j).1, .ref (lay k).1] H 0 0 (ev_ok (fun r h1 => r = none ∧ wpost H D lay val i (val j * val k) h1)) := by
  obtain ⟨g, n, e1, e2, m⟩ := h.2.1 i hi
  obtain ⟨g2, n2, f1, f2, m2⟩ := h.2.1 j hj
  obtain ⟨g3, n3, f3, f4, m3⟩ := h.2.1 k hk
  have := k_setProduct (G := G) (w := w) (h := H) hd hw (wi_ne (h.2.1 i hi) (h.2.1 i hi)) (ws_a h.1 h.2.1 hi hj hij f1 f2) (ws_a h.1 h.2.1 hi hk hik f3 f4) m m2 m3 hs
  rw [wh_id e1 e2] at this
  exact ca_post (fun r h1 hp => ⟨hp.1, ws_put h hi hp.2⟩) this
theorem t_shiftUp {b : Nat} (hd : 2 ≤ dd) (hw : 23 ≤ w) (h : DW H D lay val) (hi : i < 20) (hb : b < 30) (hs : val i * 2 ^ b < 1073741824 ^ 72) : ev_Ca G dd w m_X7_shiftUp [.ref (lay i).1, .int (nI b)] H 0 0 (ev_ok (fun r h1 => r = none ∧ wpost H D lay val i (val i * 2 ^ b) h1)) := by
  obtain ⟨g, n, e1, e2, m⟩ := h.2.1 i hi
  have := k_shiftUp (G := G) (w := w) (h := H) hd hw (wi_ne (h.2.1 i hi) (h.2.1 i hi)) m hb hs
  rw [wh_id e1 e2] at this
  exact ca_post (fun r h1 hp => ⟨hp.1, ws_put h hi hp.2⟩) this
theorem t_shiftDown {b : Nat} (hd : 2 ≤ dd) (hw : 21 ≤ w) (h : DW H D lay val) (hi : i < 20) (hb : b < 30) : ev_Ca G dd w m_X7_shiftDown [.ref (lay i).1, .int (nI b)] H 0 0 (ev_ok (fun r h1 => r = none ∧ wpost H D lay val i (val i / 2 ^ b) h1)) := by
  obtain ⟨g, n, e1, e2, m⟩ := h.2.1 i hi
  have := k_shiftDown (G := G) (w := w) (h := H) hd hw (wi_ne (h.2.1 i hi) (h.2.1 i hi)) m hb
  rw [wh_id e1 e2] at this
  exact ca_post (fun r h1 hp => ⟨hp.1, ws_put h hi hp.2⟩) this
theorem t_divideBySmall {b : Nat} (hd : 2 ≤ dd) (hw : 21 ≤ w) (h : DW H D lay val) (hi : i < 20) (hb0 : 0 < b) (hb : b < 2 ^ 31) : ev_Ca G dd w m_X7_divideBySmall [.ref (lay i).1, .int (nI b)] H 0 0 (ev_ok (fun r h1 => r = some (.int (nI (val i % b))) ∧ wpost H D lay val i (val i / b) h1)) := by
  obtain ⟨g, n, e1, e2, m⟩ := h.2.1 i hi
  have := k_divideBySmall (G := G) (w := w) (h := H) hd hw (wi_ne (h.2.1 i hi) (h.2.1 i hi)) m hb0 hb
  rw [wh_id e1 e2] at this
  exact ca_post (fun r h1 hp => ⟨hp.1, ws_put h hi hp.2⟩) this
theorem t_isZero (hd : 1 ≤ dd) (h : DW H D lay val) (hi : i < 20) : ev_Ca G dd w m_X7_isZero [.ref (lay i).1] H 0 0 (ev_ok (fun r h1 => r = some (.int (nI (if val i = 0 then 1 else 0))) ∧ h1 = H)) := by
  obtain ⟨g, n, e1, e2, m⟩ := h.2.1 i hi
  have := k_isZero (G := G) (w := w) (h := H) (q := (lay i).1) (d := (lay i).2) (g := g) hd m.2.2.2.1
  rw [wh_id e1 e2] at this
  refine ca_post (fun r h1 hp => ⟨hp.1.trans ?_, hp.2⟩) this
  by_cases e : n = 0
  · rw [if_pos e, if_pos ((mb_is_z m).mp e)]; rfl
  · rw [if_neg e, if_neg (fun x => e ((mb_is_z m).mpr x))]; rfl
theorem mb_is_one {g : Nat → Nat} {n v : Nat} (m : mb_is g n v) : (n = 1 ∧ g 0 = 1) ↔ v = 1 := by
  constructor
  · intro e
    rw [← m.2.2.2.2, e.1, mb_vs, mb_v0, e.2]
  · intro e
    have h1 : n ≤ 1 := mb_is_n (k := 1) m (by rw [e]; decide)
    have h2 : n ≠ 0 := fun x => by rw [(mb_is_z m).mp x] at e; cases e
    have h3 : n = 1 := by omega
    refine ⟨h3, ?_⟩
    have h4 := m.2.2.2.2
    rw [h3, mb_vs, mb_v0] at h4
    omega
theorem t_isOne (hd : 1 ≤ dd) (h : DW H D lay val) (hi : i < 20) : ev_Ca G dd w m_X7_isOne [.ref (lay i).1] H 0 0 (ev_ok (fun r h1 => r = some (.int (nI (if val i = 1 then 1 else 0))) ∧ h1 = H)) := by
  obtain ⟨g, n, e1, e2, m⟩ := h.2.1 i hi
  have := k_isOne (G := G) (w := w) (h := H) hd (wi_ne (h.2.1 i hi) (h.2.1 i hi)) m.2.2.2.1 m.1
  rw [wh_id e1 e2] at this
  refine ca_post (fun r h1 hp => ⟨hp.1.trans ?_, hp.2⟩) this
  by_cases e : n = 1 ∧ g 0 = 1
  · rw [if_pos e, if_pos ((mb_is_one m).mp e)]; rfl
  · rw [if_neg e, if_neg (fun x => e ((mb_is_one m).mpr x))]; rfl
theorem mb_is_short {g : Nat → Nat} {n v : Nat} (m : mb_is g n v) : n ≤ 2 ↔ v < 2 ^ 60 := by
  constructor
  · intro e
    have h1 := mb_is_lt m
    have h2 : 1073741824 ^ n ≤ 1073741824 ^ 2 := Nat.pow_le_pow_right (by decide) e
    omega
  · intro e
    exact mb_is_n (k := 2) m (by omega)
theorem t_isShort (hd : 1 ≤ dd) (h : DW H D lay val) (hi : i < 20) : ev_Ca G dd w m_X7_isShort [.ref (lay i).1] H 0 0 (ev_ok (fun r h1 => r = some (.int (nI (if val i < 2 ^ 60 then 1 else 0))) ∧ h1 = H)) := by
  obtain ⟨g, n, e1, e2, m⟩ := h.2.1 i hi
  have := k_isShort (G := G) (w := w) (h := H) (q := (lay i).1) (d := (lay i).2) (g := g) hd m.2.2.2.1
  rw [wh_id e1 e2] at this
  refine ca_post (fun r h1 hp => ⟨hp.1.trans ?_, hp.2⟩) this
  by_cases e : n ≤ 2
  · rw [if_pos e, if_pos ((mb_is_short m).mp e)]; rfl
  · rw [if_neg e, if_neg (fun x => e ((mb_is_short m).mpr x))]; rfl
theorem t_asLong (hd : 1 ≤ dd) (h : DW H D lay val) (hi : i < 20) (hv : val i < 2 ^ 60) : ev_Ca G dd w m_X7_asLong [.ref (lay i).1] H 0 0 (ev_ok (fun r h1 => r = some (.long (lN (val i))) ∧ h1 = H)) := by
  obtain ⟨g, n, e1, e2, m⟩ := h.2.1 i hi
  have := k_asLong (G := G) (w := w) (h := H) (n := n) hd (wi_ne (h.2.1 i hi) (h.2.1 i hi)) m.1
  rw [wh_id e1 e2] at this
  refine ca_post (fun r h1 hp => ⟨hp.1.trans ?_, hp.2⟩) this
  have h2 := mb_is_at m ((mb_is_short m).mpr hv)
  rw [← h2]
  show _ = some (Value.long (lN ((0 + g 0 * 1073741824 ^ 0) + g 1 * 1073741824 ^ 1)))
  congr 3
  omega
theorem t_binaryDigits (hd : 2 ≤ dd) (hw : 21 ≤ w) (h : DW H D lay val) (hi : i < 20) : ev_Ca G dd w m_X7_binaryDigits [.ref (lay i).1] H 0 0 (ev_ok (fun r h1 => r = some (.int (nI (mb_bits (val i)))) ∧ h1 = H)) := by
  obtain ⟨g, n, e1, e2, m⟩ := h.2.1 i hi
  have := k_binaryDigits (G := G) (w := w) (h := H) hd hw (wi_ne (h.2.1 i hi) (h.2.1 i hi)) m
  rw [wh_id e1 e2] at this
  exact this
theorem t_compareWith (hd : 2 ≤ dd) (hw : 23 ≤ w) (h : DW H D lay val) (hi : i < 20) (hj : j < 20) (hij : i ≠ j) : ev_Ca G dd w m_X7_compareWith [.ref (lay i).1, .ref (lay j).1] H 0 0 (ev_ok (fun r h1 => r = some (.int (mi_cmp (val i) (val j))) ∧ h1 = H)) := by
  obtain ⟨g, n, e1, e2, m⟩ := h.2.1 i hi
  obtain ⟨g2, n2, f1, f2, m2⟩ := h.2.1 j hj
  have := k_compareWith (G := G) (w := w) (h := H) hd hw (wi_ne (h.2.1 i hi) (h.2.1 i hi)) (ws_a h.1 h.2.1 hi hj hij f1 f2) m m2
  rw [wh_id e1 e2] at this
  exact this
/-- behind a method of the desk: the number i is v, those of 'may' may be anything, the others are what they were -/
def dpost (H : ev_H) (D : Nat) (lay : Nat → Nat × Nat) (val : Nat → Nat) (P : (Nat → Nat) → Prop) (h1 : ev_H) : Prop := ∃ val2, DW h1 D lay val2 ∧ P val2 ∧ WF lay H h1
theorem k_multiply (hd : 3 ≤ dd) (hw : 49 ≤ w) (h : DW H D lay val) (hi : i < 20) (hj : j < 20) (h3 : i ≠ 3) (h4 : j ≠ 3) (hs : val i * val j < 1073741824 ^ 71) : ev_Ca G dd w m_X1_multiply [.ref D, .ref (lay i).1, .ref (lay j).1] H 0 0 (ev_ok (fun r h1 => r = none ∧ dpost H D lay val (fun v2 => v2 i = val i * val j ∧ ∀ x, x ≠ i → x ≠ 3 → v2 x = val x) h1)) := by
  obtain ⟨dd, rfl⟩ : ∃ e, dd = e + 1 := ⟨dd - 1, by omega⟩
  refine ⟨by decide +kernel, rfl, ?_⟩
  refine ev_aload_n (pc := 0) dX1_multiply_0 rfl ?_
  refine ev_getf (pc := 1) dX1_multiply_1 f_X1_22 h.2.2 rfl ?_
  refine ev_aload_n (pc := 4) dX1_multiply_4 rfl ?_
  refine ev_aload_n (pc := 5) dX1_multiply_5 rfl ?_
  refine ev_callVe (pc := 6) (As := [.ref (lay i).1, .ref (lay j).1]) dX1_multiply_6 cv_X1_40 rfl rfl (wi_o (h.2.1 3 (by decide))) rfl ⟨by show 19 + 9 ≤ w; omega, show ev_Ca _ _ (w - 28) _ _ _ _ _ _ from t_setProduct (i := 3) (by omega) (by omega) h (by decide) hi hj (Ne.symm h3) (Ne.symm h4) hs⟩ rfl rfl (fun r h1 hp => ?_)
  obtain ⟨rfl, hA, hF⟩ := hp
  refine ev_aload_n (pc := 9) dX1_multiply_9 rfl ?_
  refine ev_aload_n (pc := 10) dX1_multiply_10 rfl ?_
  refine ev_getf (pc := 11) dX1_multiply_11 f_X1_22 hA.2.2 rfl ?_
  refine ev_callVe (pc := 14) (As := [.ref (lay 3).1]) dX1_multiply_14 cv_X1_44 rfl rfl (wi_o (hA.2.1 i hi)) rfl ⟨by show 19 + 2 ≤ w; omega, show ev_Ca _ _ (w - 21) _ _ _ _ _ _ from t_copy (j := 3) (by omega) (by omega) hA hi (by decide) h3⟩ rfl rfl (fun r h1 hp => ?_)
  obtain ⟨rfl, hB, hF2⟩ := hp
  refine ev_vret (pc := 17) dX1_multiply_17 rfl ⟨rfl, _, hB, ⟨?_, fun x h5 h6 => ?_⟩, hF.tr hF2⟩
  · rw [va_up_self, va_up_self]
  · rw [va_up_ne _ _ h5, va_up_ne _ _ h6]
theorem k_scale {b : Nat} (hd : 4 ≤ dd) (hw : 71 ≤ w) (h : DW H D lay val) (hi : i < 20) (h3 : i ≠ 3) (h4 : i ≠ 4) (hb : b < 2 ^ 63) (hs : val i * b < 1073741824 ^ 71) : ev_Ca G dd w m_X1_scale [.ref D, .ref (lay i).1, .long (lN b)] H 0 0 (ev_ok (fun r h1 => r = none ∧ dpost H D lay val (fun v2 => v2 i = val i * b ∧ ∀ x, x ≠ i → x ≠ 3 → x ≠ 4 → v2 x = val x) h1)) := by
  obtain ⟨dd, rfl⟩ : ∃ e, dd = e + 1 := ⟨dd - 1, by omega⟩
  refine ⟨by decide +kernel, rfl, ?_⟩
  refine ev_aload_n (pc := 0) dX1_scale_0 rfl ?_
  refine ev_getf (pc := 1) dX1_scale_1 f_X1_25 h.2.2 rfl ?_
  refine ev_lload_n (pc := 4) dX1_scale_4 rfl ?_
  refine ev_callVe (pc := 5) (As := [.long (lN b)]) dX1_scale_5 cv_X1_48 rfl rfl (wi_o (h.2.1 4 (by decide))) rfl ⟨by show 19 + 3 ≤ w; omega, show ev_Ca _ _ (w - 22) _ _ _ _ _ _ from t_become (i := 4) (by omega) (by omega) h (by decide) hb⟩ rfl rfl (fun r h1 hp => ?_)
  obtain ⟨rfl, hA, hF⟩ := hp
  refine ev_aload_n (pc := 8) dX1_scale_8 rfl ?_
  refine ev_getf (pc := 9) dX1_scale_9 f_X1_22 hA.2.2 rfl ?_
  refine ev_aload_n (pc := 12) dX1_scale_12 rfl ?_
  refine ev_aload_n (pc := 13) dX1_scale_13 rfl ?_
  refine ev_getf (pc := 14) dX1_scale_14 f_X1_25 hA.2.2 rfl ?_
  have e4 : va_up val 4 b i = val i := va_up_ne _ _ h4
  have e5 : va_up val 4 b 4 = b := va_up_self ..
  refine ev_callVe (pc := 17) (As := [.ref (lay i).1, .ref (lay 4).1]) dX1_scale_17 cv_X1_40 rfl rfl (wi_o (hA.2.1 3 (by decide))) rfl ⟨by show 19 + 9 ≤ w; omega, show ev_Ca _ _ (w - 28) _ _ _ _ _ _ from t_setProduct (i := 3) (j := i) (by omega) (by omega) hA (by decide) hi (by decide) (Ne.symm h3) (by decide) (by rw [e4, e5]; exact hs)⟩ rfl rfl (fun r h1 hp => ?_)
  obtain ⟨rfl, hB, hF2⟩ := hp
  refine ev_aload_n (pc := 20) dX1_scale_20 rfl ?_
  refine ev_aload_n (pc := 21) dX1_scale_21 rfl ?_
  refine ev_getf (pc := 22) dX1_scale_22 f_X1_22 hB.2.2 rfl ?_
  refine ev_callVe (pc := 25) (As := [.ref (lay 3).1]) dX1_scale_25 cv_X1_44 rfl rfl (wi_o (hB.2.1 i hi)) rfl ⟨by show 19 + 2 ≤ w; omega, show ev_Ca _ _ (w - 21) _ _ _ _ _ _ from t_copy (j := 3) (by omega) (by omega) hB hi (by decide) h3⟩ rfl rfl (fun r h1 hp => ?_)
  obtain ⟨rfl, hC, hF3⟩ := hp
  refine ev_vret (pc := 28) dX1_scale_28 rfl ⟨rfl, _, hC, ⟨?_, fun x h5 h6 h7 => ?_⟩, (hF.tr hF2).tr hF3⟩
  · rw [va_up_self, va_up_self, e4, e5]
  · rw [va_up_ne _ _ h5, va_up_ne _ _ h6, va_up_ne _ _ h7]
end LAY
