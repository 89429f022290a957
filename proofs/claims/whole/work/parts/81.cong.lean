/-! what an event does depends on the values of the eight shares alone -/
def agP (P P2 : Nat → Nat → Nat) : Prop := ∀ k, k < 3 → ∀ j, j < 8 → P k j = P2 k j
section CONG
variable {P P2 : Nat → Nat → Nat} {fu fd fu2 fd2 : Nat → Nat} {mem s : Nat}
theorem pw_cg (h : agP P P2) {j : Nat} (hj : j < 8) : pw P j = pw P2 j := by unfold pw; rw [h 0 (by decide) j hj, h 1 (by decide) j hj, h 2 (by decide) j hj]
theorem sw_cg (h : agP P P2) (b : Nat) : ∀ k, k ≤ 8 → sw P b k = sw P2 b k
  | 0, _ => rfl
  | k + 1, hk => by
    show sw P b k + (if b / 2 ^ k % 2 = 1 then pw P k else 0) = sw P2 b k + (if b / 2 ^ k % 2 = 1 then pw P2 k else 0)
    rw [sw_cg h b k (by omega), pw_cg h (by omega)]
theorem fo_cg (h : agP P P2) {a l : Nat} : ∀ k, k ≤ 8 → fo P mem a l k = fo P2 mem a l k
  | 0, _ => rfl
  | k + 1, hk => by
    have e : cnd P mem a l k ↔ cnd P2 mem a l k := by
      unfold cnd
      rw [sw_cg h (am mem l) 8 (Nat.le_refl 8), pw_cg h (show k < 8 by omega)]
    have ih := fo_cg h (a := a) (l := l) k (by omega)
    rcases fo_c (P := P) (mem := mem) (a := a) (l := l) (k := k) with ⟨c1, d1⟩ | ⟨c1, d1⟩
    · rcases fo_c (P := P2) (mem := mem) (a := a) (l := l) (k := k) with ⟨c2, d2⟩ | ⟨c2, d2⟩
      · rw [d1, d2, ih]
      · exact absurd (e.mp c1) c2
    · rcases fo_c (P := P2) (mem := mem) (a := a) (l := l) (k := k) with ⟨c2, d2⟩ | ⟨c2, d2⟩
      · exact absurd (e.mpr c2) c1
      · rw [d1, d2, ih]
theorem lgf_cg (h : agP P P2) {a : Nat} : ∀ n l, lgf P mem a n l = lgf P2 mem a n l
  | 0, _ => rfl
  | n + 1, l => by
    show (if fo P mem a l 8 = 0 then l else lgf P mem a n (l ||| fo P mem a l 8)) = (if fo P2 mem a l 8 = 0 then l else lgf P2 mem a n (l ||| fo P2 mem a l 8))
    rw [fo_cg h 8 (Nat.le_refl 8), lgf_cg h n]
theorem cap_cg (h : agP P P2) (x : Int32) {j : Nat} (hj : j < 8) : cap_u P mem x j = cap_u P2 mem x j ∧ cap_d P mem x j = cap_d P2 mem x j := by
  unfold cap_u cap_d cap_l cpu cpd
  rw [lgf_cg h, sw_cg h _ 8 (Nat.le_refl 8), pw_cg h hj]
  exact ⟨rfl, rfl⟩
theorem up_cg (h : agP P P2) (k s x : Nat) : agP (p_up P k s x) (p_up P2 k s x) := by
  intro a ha j hj
  unfold p_up va_up
  by_cases e : a = k
  · rw [if_pos e, if_pos e]
    by_cases e2 : j = s
    · rw [if_pos e2, if_pos e2]
    · rw [if_neg e2, if_neg e2]; exact h a ha j hj
  · rw [if_neg e, if_neg e]; exact h a ha j hj
theorem ex_cg (h : agP P P2) (cu cd pu pd : Nat) : (sp_ex P s cu cd pu pd).1 = (sp_ex P2 s cu cd pu pd).1 ∧ agP (sp_ex P s cu cd pu pd).2 (sp_ex P2 s cu cd pu pd).2 := by
  unfold sp_ex
  split
  · exact ⟨rfl, up_cg (up_cg h _ _ _) _ _ _⟩
  · exact ⟨rfl, h⟩
theorem split_cg (h : agP P P2) (hs : s < 8) (x y : Int32) : (sp_split P s x y).1 = (sp_split P2 s x y).1 ∧ agP (sp_split P s x y).2 (sp_split P2 s x y).2 := by
  unfold sp_split
  rw [h 0 (by decide) s hs, h 1 (by decide) s hs]
  split
  · exact ex_cg h _ _ _ _
  · exact ⟨rfl, h⟩
theorem rights_cg (h : agP P P2) (hs : s < 8) (x y o : Int32) : (sp_rights P s x y o).1 = (sp_rights P2 s x y o).1 ∧ agP (sp_rights P s x y o).2 (sp_rights P2 s x y o).2 := by
  unfold sp_rights
  rw [h 0 (by decide) s hs, h 1 (by decide) s hs]
  split
  · split
    · exact ⟨rfl, h⟩
    · exact ex_cg h _ _ _ _
  · exact ⟨rfl, h⟩
theorem div_cg (h : agP P P2) (hs : s < 8) (x : Int32) : (sp_div P s x).1 = (sp_div P2 s x).1 ∧ agP (sp_div P s x).2 (sp_div P2 s x).2 := by
  unfold sp_div
  rw [h 0 (by decide) s hs]
  split
  · exact ⟨rfl, up_cg h _ _ _⟩
  · exact ⟨rfl, h⟩
theorem rep_cg (h : agP P P2) (k : Nat) (x : Int32) : (sp_rep P s k x).1 = (sp_rep P2 s k x).1 ∧ agP (sp_rep P s k x).2 (sp_rep P2 s k x).2 := by
  unfold sp_rep
  split
  · exact ⟨rfl, up_cg h _ _ _⟩
  · exact ⟨rfl, h⟩
theorem ch_cg {kd : Nat} {a b c : Int32} (h : ag3 P fu fd P2 fu2 fd2) (hs : s < 8) : (ch kd s a b c P fu fd mem).1 = (ch kd s a b c P2 fu2 fd2 mem).1 ∧ ag3 (ch kd s a b c P fu fd mem).2.1 (ch kd s a b c P fu fd mem).2.2.1 (ch kd s a b c P fu fd mem).2.2.2.1 (ch kd s a b c P2 fu2 fd2 mem).2.1 (ch kd s a b c P2 fu2 fd2 mem).2.2.1 (ch kd s a b c P2 fu2 fd2 mem).2.2.2.1 ∧ (ch kd s a b c P fu fd mem).2.2.2.2 = (ch kd s a b c P2 fu2 fd2 mem).2.2.2.2 := by
  obtain ⟨h1, h2⟩ := h
  unfold ch
  split
  · exact ⟨(split_cg h1 hs a b).1, ⟨(split_cg h1 hs a b).2, h2⟩, rfl⟩
  · exact ⟨(rights_cg h1 hs a b c).1, ⟨(rights_cg h1 hs a b c).2, h2⟩, rfl⟩
  · exact ⟨(div_cg h1 hs a).1, ⟨(div_cg h1 hs a).2, h2⟩, rfl⟩
  · exact ⟨(div_cg h1 hs a).1, ⟨(div_cg h1 hs a).2, h2⟩, rfl⟩
  · exact ⟨rfl, ⟨h1, h2⟩, rfl⟩
  · refine ⟨rfl, ⟨h1, fun j hj => ?_⟩, rfl⟩
    by_cases e : mem / 2 ^ s % 2 = 1
    · rw [if_pos e, if_pos e, if_pos e, if_pos e]; exact h2 j hj
    · rw [if_neg e, if_neg e, if_neg e, if_neg e]
      show va_up fu s 1 j = va_up fu2 s 1 j ∧ va_up fd s 1 j = va_up fd2 s 1 j
      by_cases e2 : j = s
      · rw [e2, va_up_self, va_up_self, va_up_self, va_up_self]; exact ⟨rfl, rfl⟩
      · rw [va_up_ne _ _ e2, va_up_ne _ _ e2, va_up_ne _ _ e2, va_up_ne _ _ e2]; exact h2 j hj
  · exact ⟨(rep_cg h1 1 a).1, ⟨(rep_cg h1 1 a).2, h2⟩, rfl⟩
  · exact ⟨(rep_cg h1 2 a).1, ⟨(rep_cg h1 2 a).2, h2⟩, rfl⟩
  · by_cases e : cap_c mem a
    · rw [if_pos e, if_pos e]
      exact ⟨rfl, ⟨h1, fun j hj => cap_cg h1 a hj⟩, rfl⟩
    · rw [if_neg e, if_neg e]
      exact ⟨rfl, ⟨h1, h2⟩, rfl⟩
theorem up_hi {i k j x : Nat} (hi : i < 3) (hk : 3 ≤ k ∨ j ≠ s) : p_up P i s x k j = P k j := by
  unfold p_up va_up
  by_cases e : k = i
  · rw [if_pos e, if_neg (by omega)]
  · rw [if_neg e]
theorem ex_hi {k j : Nat} (hk : 3 ≤ k ∨ j ≠ s) (cu cd pu pd : Nat) : (sp_ex P s cu cd pu pd).2 k j = P k j := by
  unfold sp_ex
  split
  · exact (up_hi (by decide) hk).trans (up_hi (by decide) hk)
  · rfl
/-- a change touches the values of its share alone -/
theorem ch_hi {kd : Nat} {a b c : Int32} {k j : Nat} (hk : 3 ≤ k ∨ j ≠ s) : (ch kd s a b c P fu fd mem).2.1 k j = P k j := by
  unfold ch
  split
  · show (sp_split P s a b).2 k j = _
    unfold sp_split
    split
    · exact ex_hi hk _ _ _ _
    · rfl
  · show (sp_rights P s a b c).2 k j = _
    unfold sp_rights
    split
    · split
      · rfl
      · exact ex_hi hk _ _ _ _
    · rfl
  · show (sp_div P s a).2 k j = _
    unfold sp_div
    split
    · exact up_hi (by decide) hk
    · rfl
  · show (sp_div P s a).2 k j = _
    unfold sp_div
    split
    · exact up_hi (by decide) hk
    · rfl
  · rfl
  · rfl
  · show (sp_rep P s 1 a).2 k j = _
    unfold sp_rep
    split
    · exact up_hi (by decide) hk
    · rfl
  · show (sp_rep P s 2 a).2 k j = _
    unfold sp_rep
    split
    · exact up_hi (by decide) hk
    · rfl
  · by_cases e : cap_c mem a
    · rw [if_pos e]
    · rw [if_neg e]
theorem su_cg2 (h : ∀ j, j < 8 → mem / 2 ^ j % 2 = 1 → pw P j = pw P2 j) : ∀ k, k ≤ 8 → su P fu fd mem k = su P2 fu fd mem k
  | 0, _ => rfl
  | k + 1, hk => by
    have ih := su_cg2 h k (by omega)
    unfold su
    by_cases e : mem / 2 ^ k % 2 = 1
    · rw [if_pos e, if_pos e, ih, h k (by omega) e]
    · rw [if_neg e, if_neg e, ih]
/-- a change of a share that is no member leaves the worth -/
theorem ch_non {kd : Nat} {a b c : Int32} (h4 : kd ≠ 4) (h5 : kd ≠ 5) (h8 : kd < 8) (hn : mem / 2 ^ s % 2 ≠ 1) : (ch kd s a b c P fu fd mem).2.2 = (fu, fd, mem) ∧ su (ch kd s a b c P fu fd mem).2.1 fu fd mem 8 = su P fu fd mem 8 := by
  refine ⟨?_, su_cg2 (fun j hj e => ?_) 8 (Nat.le_refl 8)⟩
  · rcases (show kd = 0 ∨ kd = 1 ∨ kd = 2 ∨ kd = 3 ∨ kd = 6 ∨ kd = 7 by omega) with rfl | rfl | rfl | rfl | rfl | rfl <;> rfl
  · have q : j ≠ s := fun x => hn (by rw [← x]; exact e)
    unfold pw
    rw [ch_hi (Or.inr q), ch_hi (Or.inr q), ch_hi (Or.inr q)]
theorem pf_cg {kd D1 D2 : Nat} {a b c : Int32} (h : ag3 P fu fd P2 fu2 fd2) (hs : s < 8) : (pf kd s a b c P fu fd mem D1 D2).1 = (pf kd s a b c P2 fu2 fd2 mem D1 D2).1 ∧ aq (pf kd s a b c P fu fd mem D1 D2).2 (pf kd s a b c P2 fu2 fd2 mem D1 D2).2 := by
  obtain ⟨c1, c2, c3⟩ := ch_cg (kd := kd) (a := a) (b := b) (c := c) (mem := mem) h hs
  have eB := su_cg (mem := mem) h 8 (Nat.le_refl 8)
  have eW := su_cg (mem := (ch kd s a b c P fu fd mem).2.2.2.2) c2 8 (Nat.le_refl 8)
  unfold pf
  dsimp only
  rw [← eB, ← c3, ← eW, c1]
  split
  · exact ⟨rfl, c2, c3, rfl⟩
  · split
    · exact ⟨rfl, h, rfl, rfl⟩
    · exact ⟨rfl, c2, c3, rfl⟩
/-- an event that does not count leaves the divisor -/
theorem pf_non {kd D1 D2 : Nat} {a b c : Int32} (ok : st_ok P fu fd mem) (dv : dv_ok D1 D2) (h4 : kd ≠ 4) (h5 : kd ≠ 5) (h8 : kd < 8) (hn : mem / 2 ^ s % 2 ≠ 1) : pf kd s a b c P fu fd mem D1 D2 = ((ch kd s a b c P fu fd mem).1, (ch kd s a b c P fu fd mem).2, D1, D2) := by
  obtain ⟨n1, n2⟩ := ch_non (P := P) (fu := fu) (fd := fd) (a := a) (b := b) (c := c) h4 h5 h8 hn
  obtain ⟨y1, y2⟩ := su_p8 ok.1 ok.2.1 ok.2.2.1 ok.2.2.2
  obtain ⟨w1, w2, w3, w4, w5⟩ := dv
  unfold pf
  dsimp only
  rw [n1]
  dsimp only
  rw [n2]
  generalize su P fu fd mem 8 = B at *
  have k0 : 0 < B.1 * B.2 := Nat.mul_pos y1 y2
  have g : Nat.gcd (D1 * (B.1 * B.2)) (D2 * (B.2 * B.1)) = B.1 * B.2 := by
    rw [Nat.mul_comm B.2 B.1, Nat.gcd_mul_right, show Nat.gcd D1 D2 = 1 from w5, Nat.one_mul]
  have b1 : ∀ {D}, D < 2 ^ 512 → mb_bits D ≤ 512 := by
    intro D h
    unfold mb_bits
    split
    · omega
    · rename_i z
      have := (Nat.log2_lt z).mpr h
      omega
  have d1 : D1 * (B.1 * B.2) / Nat.gcd (D1 * (B.1 * B.2)) (D2 * (B.2 * B.1)) = D1 := by rw [g]; exact Nat.mul_div_cancel _ k0
  have d2 : D2 * (B.2 * B.1) / Nat.gcd (D1 * (B.1 * B.2)) (D2 * (B.2 * B.1)) = D2 := by rw [g, Nat.mul_comm B.2 B.1]; exact Nat.mul_div_cancel _ k0
  rw [d1, d2]
  have le : ¬ 512 < max (mb_bits D1) (mb_bits D2) := by
    have := b1 w3
    have := b1 w4
    omega
  rw [if_neg le]
  split
  · rfl
  · rename_i q
    have : (ch kd s a b c P fu fd mem).1 = 0 := Classical.byContradiction (fun z => q (Or.inl z))
    rw [this]
end CONG
