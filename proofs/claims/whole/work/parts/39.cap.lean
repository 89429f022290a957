/-! Shares: caps -/
def bt (x s : Nat) : Nat := x / 2 ^ s % 2
theorem bt_tb (x s : Nat) : bt x s = (x.testBit s).toNat := by
  unfold bt
  rw [Nat.testBit_eq_decide_div_mod_eq]
  rcases Nat.mod_two_eq_zero_or_one (x / 2 ^ s) with h | h <;> rw [h] <;> rfl
theorem bt_le (x s : Nat) : bt x s ≤ 1 := by unfold bt; omega
theorem bt_and (x y s : Nat) : bt (x &&& y) s = bt x s * bt y s := by
  rw [bt_tb, bt_tb, bt_tb, Nat.testBit_and]
  cases x.testBit s <;> cases y.testBit s <;> rfl
theorem bt_or {x y s : Nat} (h : bt x s * bt y s = 0) : bt (x ||| y) s = bt x s + bt y s := by
  rw [bt_tb, bt_tb] at h
  rw [bt_tb, bt_tb, bt_tb, Nat.testBit_or]
  cases hx : x.testBit s <;> cases hy : y.testBit s <;> first | rfl | (rw [hx, hy] at h; cases h)
/-- the bits of m that l does not have -/
def am (m l : Nat) : Nat := m &&& (255 ^^^ l)
theorem bt_am {m l s : Nat} (hs : s < 8) (hl : l < 256) : bt (am m l) s = bt m s * (1 - bt l s) := by
  unfold am
  rw [bt_and]
  congr 1
  rw [bt_tb, bt_tb, Nat.testBit_xor, show (255 : Nat).testBit s = true by rw [show (255 : Nat) = 2 ^ 8 - 1 by decide, Nat.testBit_two_pow_sub_one]; simpa using hs]
  cases l.testBit s <;> rfl
theorem am_lt {m l : Nat} (hm : m < 256) : am m l < 256 := Nat.lt_of_le_of_lt Nat.and_le_left hm
theorem or_lt {m l : Nat} (hm : m < 256) (hl : l < 256) : m ||| l < 256 := Nat.or_lt_two_pow (n := 8) hm hl
theorem i_and (a b : Nat) : nI a &&& nI b = nI (a &&& b) := by
  apply Int32.toBitVec_inj.mp
  show BitVec.ofNat 32 a &&& BitVec.ofNat 32 b = BitVec.ofNat 32 (a &&& b)
  apply BitVec.eq_of_toNat_eq
  simp [BitVec.toNat_and, Nat.and_mod_two_pow]
theorem i_or (a b : Nat) : nI a ||| nI b = nI (a ||| b) := by
  apply Int32.toBitVec_inj.mp
  show BitVec.ofNat 32 a ||| BitVec.ofNat 32 b = BitVec.ofNat 32 (a ||| b)
  apply BitVec.eq_of_toNat_eq
  simp [BitVec.toNat_or, Nat.or_mod_two_pow]
theorem i_xor (a b : Nat) : nI a ^^^ nI b = nI (a ^^^ b) := by
  apply Int32.toBitVec_inj.mp
  show BitVec.ofNat 32 a ^^^ BitVec.ofNat 32 b = BitVec.ofNat 32 (a ^^^ b)
  apply BitVec.eq_of_toNat_eq
  simp [BitVec.toNat_xor, Nat.xor_mod_two_pow]
theorem i_am {m l : Nat} (hm : m < 256) : nI m &&& (nI l ^^^ (-1)) = nI (am m l) := by
  rw [show (-1 : Int32) = nI 4294967295 by decide, i_xor, i_and]
  congr 1
  unfold am
  apply Nat.eq_of_testBit_eq
  intro i
  rw [Nat.testBit_and, Nat.testBit_and, Nat.testBit_xor, Nat.testBit_xor]
  by_cases hi : i < 8
  · rw [show (4294967295 : Nat) = 2 ^ 32 - 1 by decide, show (255 : Nat) = 2 ^ 8 - 1 by decide, Nat.testBit_two_pow_sub_one, Nat.testBit_two_pow_sub_one, decide_eq_true hi, decide_eq_true (show i < 32 by omega), Bool.xor_comm]
  · rw [Nat.testBit_lt_two_pow (x := m) (i := i) (Nat.lt_of_lt_of_le hm (show 256 ≤ 2 ^ i from by rw [show (256 : Nat) = 2 ^ 8 by decide]; exact Nat.pow_le_pow_right (by decide) (by omega)))]
    rfl
theorem pc8_bt (x : Nat) : pc8 x = bt x 0 + bt x 1 + bt x 2 + bt x 3 + bt x 4 + bt x 5 + bt x 6 + bt x 7 := by
  unfold pc8 bt
  simp
section CAP
variable (P : Nat → Nat → Nat) (mem a l : Nat)
/-- who becomes large beside those of l -/
def cnd (s : Nat) : Prop := bt (am mem l) s = 1 ∧ a * sw P (am mem l) 8 < pw P s * (100 - a * pc8 l)
noncomputable def fo : Nat → Nat
  | 0 => 0
  | k + 1 => fo k + @ite _ (cnd P mem a l k) (Classical.propDecidable _) (2 ^ k) 0
end CAP
theorem fo_c {P : Nat → Nat → Nat} {mem a l k : Nat} : (cnd P mem a l k ∧ fo P mem a l (k + 1) = fo P mem a l k + 2 ^ k) ∨ (¬ cnd P mem a l k ∧ fo P mem a l (k + 1) = fo P mem a l k) := by
  by_cases h : cnd P mem a l k
  · refine Or.inl ⟨h, ?_⟩
    show fo P mem a l k + @ite _ (cnd P mem a l k) (Classical.propDecidable _) (2 ^ k) 0 = _
    rw [if_pos h]
  · refine Or.inr ⟨h, ?_⟩
    show fo P mem a l k + @ite _ (cnd P mem a l k) (Classical.propDecidable _) (2 ^ k) 0 = _
    rw [if_neg h, Nat.add_zero]
theorem bt_low {x k s c : Nat} (hs : s < k) : bt (x + 2 ^ k * c) s = bt x s := by
  unfold bt
  obtain ⟨r, rfl⟩ : ∃ r, k = s + 1 + r := ⟨k - s - 1, by omega⟩
  rw [show 2 ^ (s + 1 + r) * c = 2 ^ s * (2 * (2 ^ r * c)) by rw [Nat.pow_add, Nat.pow_succ, Nat.mul_assoc, Nat.mul_assoc], Nat.add_mul_div_left _ _ (Nat.pow_pos (by decide))]
  omega
theorem bt_at {x k : Nat} (hx : x < 2 ^ k) : bt (x + 2 ^ k) k = 1 ∧ bt x k = 0 := by
  unfold bt
  constructor
  · rw [show x + 2 ^ k = x + 2 ^ k * 1 by omega, Nat.add_mul_div_left _ _ (Nat.pow_pos (by decide)), Nat.div_eq_of_lt hx]
  · rw [Nat.div_eq_of_lt hx]
theorem fo_bt {P : Nat → Nat → Nat} {mem a l : Nat} : ∀ k, fo P mem a l k < 2 ^ k ∧ ∀ s, s < k → (bt (fo P mem a l k) s = 1 ↔ cnd P mem a l s)
  | 0 => ⟨by show 0 < 1; decide, fun s h => absurd h (Nat.not_lt_zero s)⟩
  | k + 1 => by
    obtain ⟨h1, h2⟩ := fo_bt (P := P) (mem := mem) (a := a) (l := l) k
    have e2 : 2 ^ (k + 1) = 2 ^ k * 2 := Nat.pow_succ ..
    rcases fo_c (P := P) (mem := mem) (a := a) (l := l) (k := k) with ⟨c, e⟩ | ⟨c, e⟩
    · rw [e]
      refine ⟨by omega, fun s hs => ?_⟩
      rcases Nat.lt_or_ge s k with q | q
      · rw [show fo P mem a l k + 2 ^ k = fo P mem a l k + 2 ^ k * 1 by omega, bt_low q]
        exact h2 s q
      · rw [show s = k by omega, (bt_at h1).1]
        exact ⟨fun _ => c, fun _ => rfl⟩
    · rw [e]
      refine ⟨by omega, fun s hs => ?_⟩
      rcases Nat.lt_or_ge s k with q | q
      · exact h2 s q
      · rw [show s = k by omega, (bt_at h1).2]
        exact ⟨fun x => absurd x (by decide), fun x => absurd x c⟩
/-- the weight of those found, and their number -/
def pr (x : Nat) : Nat → Nat
  | 0 => 0
  | k + 1 => pr x k + bt x k
theorem pr8 (x : Nat) : pr x 8 = pc8 x := by
  rw [pc8_bt]
  show 0 + bt x 0 + bt x 1 + bt x 2 + bt x 3 + bt x 4 + bt x 5 + bt x 6 + bt x 7 = _
  omega
theorem fo_sum {P : Nat → Nat → Nat} {mem a l : Nat} (hP : P_ok P) : ∀ k, k ≤ 8 → a * pr (fo P mem a l 8) k * sw P (am mem l) 8 ≤ sw P (fo P mem a l 8) k * (100 - a * pc8 l) ∧ (0 < pr (fo P mem a l 8) k → a * pr (fo P mem a l 8) k * sw P (am mem l) 8 < sw P (fo P mem a l 8) k * (100 - a * pc8 l)) ∧ sw P (fo P mem a l 8) k ≤ sw P (am mem l) k
  | 0, _ => ⟨by show a * 0 * _ ≤ 0 * _; simp, fun h => absurd h (Nat.lt_irrefl 0), Nat.le_refl _⟩
  | k + 1, hk => by
    obtain ⟨h1, h2, h3⟩ := fo_sum (mem := mem) (a := a) (l := l) hP k (by omega)
    have hb := (fo_bt (P := P) (mem := mem) (a := a) (l := l) 8).2 k (by omega)
    have hbl := bt_le (fo P mem a l 8) k
    show a * (pr _ k + bt _ k) * _ ≤ (sw P _ k + (if bt _ k = 1 then pw P k else 0)) * _ ∧ (0 < pr _ k + bt _ k → a * (pr _ k + bt _ k) * _ < (sw P _ k + (if bt _ k = 1 then pw P k else 0)) * _) ∧ sw P _ k + (if bt _ k = 1 then pw P k else 0) ≤ sw P _ k + (if bt (am mem l) k = 1 then pw P k else 0)
    by_cases c : bt (fo P mem a l 8) k = 1
    · have c2 := hb.mp c
      rw [if_pos c, c, if_pos c2.1]
      have e1 : a * (pr (fo P mem a l 8) k + 1) * sw P (am mem l) 8 = a * pr (fo P mem a l 8) k * sw P (am mem l) 8 + a * sw P (am mem l) 8 := by rw [Nat.mul_add, Nat.mul_one, Nat.add_mul]
      have e2 : (sw P (fo P mem a l 8) k + pw P k) * (100 - a * pc8 l) = sw P (fo P mem a l 8) k * (100 - a * pc8 l) + pw P k * (100 - a * pc8 l) := Nat.add_mul ..
      have e3 := c2.2
      rw [e1, e2]
      exact ⟨Nat.le_of_lt (Nat.add_lt_add_of_le_of_lt h1 e3), fun _ => Nat.add_lt_add_of_le_of_lt h1 e3, Nat.add_le_add_right h3 _⟩
    · have c0 : bt (fo P mem a l 8) k = 0 := by omega
      rw [if_neg c, c0]
      refine ⟨h1, h2, Nat.le_trans h3 (Nat.le_add_right _ _)⟩
/-- what holds of those that are large -/
def lg_ok (mem a l : Nat) : Prop := l < 256 ∧ (∀ s, s < 8 → bt l s = 1 → bt mem s = 1) ∧ a * pc8 l < 100
theorem lg_step {P : Nat → Nat → Nat} {mem a l : Nat} (hP : P_ok P) (h : lg_ok mem a l) : lg_ok mem a (l ||| fo P mem a l 8) ∧ pc8 (l ||| fo P mem a l 8) = pc8 l + pc8 (fo P mem a l 8) ∧ (fo P mem a l 8 = 0 ∨ 0 < pc8 (fo P mem a l 8)) ∧ fo P mem a l 8 < 256 := by
  obtain ⟨h1, h2, h3⟩ := h
  obtain ⟨f1, f2⟩ := fo_bt (P := P) (mem := mem) (a := a) (l := l) 8
  have dis : ∀ s, s < 8 → bt l s * bt (fo P mem a l 8) s = 0 := by
    intro s hs
    have q1 := bt_le l s
    have q2 := bt_le (fo P mem a l 8) s
    rcases Nat.eq_zero_or_pos (bt (fo P mem a l 8) s) with e | e
    · rw [e, Nat.mul_zero]
    · have c := (f2 s hs).mp (by omega)
      have c1 := c.1
      rw [bt_am hs h1] at c1
      rcases Nat.eq_zero_or_pos (bt l s) with e2 | e2
      · rw [e2, Nat.zero_mul]
      · rw [show 1 - bt l s = 0 by omega, Nat.mul_zero] at c1
        cases c1
  have hor : ∀ s, s < 8 → bt (l ||| fo P mem a l 8) s = bt l s + bt (fo P mem a l 8) s := fun s hs => bt_or (dis s hs)
  have hpc : pc8 (l ||| fo P mem a l 8) = pc8 l + pc8 (fo P mem a l 8) := by
    rw [pc8_bt, pc8_bt, pc8_bt, hor 0 (by decide), hor 1 (by decide), hor 2 (by decide), hor 3 (by decide), hor 4 (by decide), hor 5 (by decide), hor 6 (by decide), hor 7 (by decide)]
    omega
  obtain ⟨s1, s2, s3⟩ := fo_sum (mem := mem) (a := a) (l := l) hP 8 (Nat.le_refl 8)
  rw [pr8] at s1 s2
  have hlt : a * pc8 (fo P mem a l 8) < 100 - a * pc8 l := by
    rcases Nat.eq_zero_or_pos (pc8 (fo P mem a l 8)) with e | e
    · rw [e, Nat.mul_zero]; omega
    · have t1 := s2 e
      have t2 : sw P (fo P mem a l 8) 8 * (100 - a * pc8 l) ≤ sw P (am mem l) 8 * (100 - a * pc8 l) := Nat.mul_le_mul_right _ s3
      have t3 : sw P (am mem l) 8 * (a * pc8 (fo P mem a l 8)) < sw P (am mem l) 8 * (100 - a * pc8 l) := by
        rw [Nat.mul_comm]
        exact Nat.lt_of_lt_of_le t1 t2
      exact Nat.lt_of_mul_lt_mul_left t3
  refine ⟨⟨or_lt h1 f1, fun s hs hb => ?_, ?_⟩, hpc, ?_, f1⟩
  · rw [hor s hs] at hb
    rcases Nat.eq_zero_or_pos (bt l s) with e | e
    · have c := (f2 s hs).mp (by omega)
      have c1 := c.1
      rw [bt_am hs h1] at c1
      have q := bt_le mem s
      rcases Nat.eq_zero_or_pos (bt mem s) with e2 | e2
      · rw [e2, Nat.zero_mul] at c1; cases c1
      · omega
    · exact h2 s hs (by have := bt_le l s; omega)
  · rw [hpc, Nat.mul_add]; omega
  · rcases Nat.eq_zero_or_pos (fo P mem a l 8) with e | e
    · exact Or.inl e
    · refine Or.inr ?_
      rcases Nat.eq_zero_or_pos (pc8 (fo P mem a l 8)) with e2 | e2
      · exfalso
        rw [pc8_bt] at e2
        have z : ∀ i, (fo P mem a l 8).testBit i = false := by
          intro i
          by_cases hi : i < 8
          · have : bt (fo P mem a l 8) i = 0 := by
              rcases (show i = 0 ∨ i = 1 ∨ i = 2 ∨ i = 3 ∨ i = 4 ∨ i = 5 ∨ i = 6 ∨ i = 7 by omega) with r | r | r | r | r | r | r | r <;> (rw [r]; omega)
            rw [bt_tb] at this
            cases hx : (fo P mem a l 8).testBit i
            · rfl
            · rw [hx] at this; cases this
          · exact Nat.testBit_lt_two_pow (Nat.lt_of_lt_of_le f1 (Nat.pow_le_pow_right (by decide) (by omega)))
        have : fo P mem a l 8 = 0 := Nat.eq_of_testBit_eq (fun i => by rw [z i, Nat.zero_testBit])
        omega
      · exact e2
/-- someone is not large -/
theorem sw_pos {P : Nat → Nat → Nat} {mem a l : Nat} (hP : P_ok P) (h : lg_ok mem a l) (hm : mem < 256) (hc : 100 ≤ a * pc8 mem) : 0 < sw P (am mem l) 8 := by
  obtain ⟨h1, h2, h3⟩ := h
  have h4 : pc8 l < pc8 mem := by
    rcases Nat.lt_or_ge (pc8 l) (pc8 mem) with q | q
    · exact q
    · have := Nat.mul_le_mul_left a q; omega
  have key : ∃ s, s < 8 ∧ bt (am mem l) s = 1 := by
    rcases Classical.em (∃ s, s < 8 ∧ bt (am mem l) s = 1) with q | q
    · exact q
    · exfalso
      have z : ∀ s, s < 8 → bt mem s ≤ bt l s := by
        intro s hs
        have q1 := bt_le mem s
        have q2 := bt_le l s
        rcases Nat.lt_or_ge (bt l s) (bt mem s) with r | r
        · exfalso
          refine q ⟨s, hs, ?_⟩
          rw [bt_am hs h1, show bt mem s = 1 by omega, show bt l s = 0 by omega]
        · exact r
      rw [pc8_bt, pc8_bt] at h4
      have := z 0 (by decide); have := z 1 (by decide); have := z 2 (by decide); have := z 3 (by decide)
      have := z 4 (by decide); have := z 5 (by decide); have := z 6 (by decide); have := z 7 (by decide)
      omega
  obtain ⟨s, hs, hb⟩ := key
  have mono : ∀ k, k ≤ 8 → s < k → 0 < sw P (am mem l) k := by
    intro k
    induction k with
    | zero => intro _ h; exact absurd h (Nat.not_lt_zero s)
    | succ k ih =>
      intro hk hsk
      show 0 < sw P (am mem l) k + (if bt (am mem l) k = 1 then pw P k else 0)
      rcases Nat.lt_or_ge s k with q | q
      · exact Nat.lt_of_lt_of_le (ih (by omega) q) (Nat.le_add_right _ _)
      · have e : s = k := by omega
        rw [← e, if_pos hb]
        exact Nat.lt_of_lt_of_le (pw_b hP hs).1 (Nat.le_add_left _ _)
  exact mono 8 (Nat.le_refl 8) hs
/-- the large ones, in so many rounds at most -/
noncomputable def lgf (P : Nat → Nat → Nat) (mem a : Nat) : Nat → Nat → Nat
  | 0, l => l
  | n + 1, l => if fo P mem a l 8 = 0 then l else lgf P mem a n (l ||| fo P mem a l 8)
theorem lgf_ok {P : Nat → Nat → Nat} {mem a : Nat} (hP : P_ok P) : ∀ n l, lg_ok mem a l → lg_ok mem a (lgf P mem a n l)
  | 0, l, h => h
  | n + 1, l, h => by
    unfold lgf
    split
    · exact h
    · exact lgf_ok hP n _ (lg_step hP h).1
