/-! PURE ROWS: numbers in digits of 30 bits (B = 1073741824), the lowest first -/
/-- the value of the first n digits -/
def mb_v (g : Nat → Nat) : Nat → Nat
  | 0 => 0
  | n + 1 => mb_v g n + g n * 1073741824 ^ n
theorem mb_v0 (g : Nat → Nat) : mb_v g 0 = 0 := rfl
theorem mb_vs (g : Nat → Nat) (n : Nat) : mb_v g (n + 1) = mb_v g n + g n * 1073741824 ^ n := rfl
theorem mb_pw (n : Nat) : 1073741824 ^ (n + 1) = 1073741824 ^ n * 1073741824 := Nat.pow_succ ..
theorem mb_pp (n : Nat) : 0 < 1073741824 ^ n := Nat.pow_pos (by decide)
theorem mb_congr {g h : Nat → Nat} : ∀ {n : Nat}, (∀ j, j < n → g j = h j) → mb_v g n = mb_v h n
  | 0, _ => rfl
  | n + 1, e => by rw [mb_vs, mb_vs, mb_congr (n := n) (fun j hj => e j (by omega)), e n (by omega)]
theorem mb_lt {g : Nat → Nat} : ∀ {n : Nat}, (∀ j, j < n → g j < 1073741824) → mb_v g n < 1073741824 ^ n
  | 0, _ => by show 0 < 1; decide
  | n + 1, e => by
    have h1 := mb_lt (n := n) (fun j hj => e j (by omega))
    have h2 : g n * 1073741824 ^ n ≤ 1073741823 * 1073741824 ^ n := Nat.mul_le_mul_right _ (by have := e n (by omega); omega)
    rw [mb_vs, mb_pw]
    omega
theorem mb_top {g : Nat → Nat} {n : Nat} : ∀ {m : Nat}, n ≤ m → (∀ j, n ≤ j → j < m → g j = 0) → mb_v g m = mb_v g n
  | 0, h, _ => by rw [Nat.le_zero.mp h]
  | m + 1, h, hz => by
    rcases Nat.lt_or_ge m n with q | q
    · rw [show n = m + 1 by omega]
    · rw [mb_vs, mb_top (m := m) q (fun j h1 h2 => hz j h1 (by omega)), hz m q (by omega)]; omega
theorem mb_zero {g : Nat → Nat} {n : Nat} (h : ∀ j, j < n → g j = 0) : mb_v g n = 0 := by
  rw [mb_top (n := 0) (Nat.zero_le n) (fun j _ h2 => h j h2)]; rfl
/-- one digit changed -/
theorem mb_up {g : Nat → Nat} {k x : Nat} : ∀ {n : Nat}, k < n → mb_v (va_up g k x) n + g k * 1073741824 ^ k = mb_v g n + x * 1073741824 ^ k
  | 0, h => absurd h (Nat.not_lt_zero _)
  | n + 1, h => by
    rw [mb_vs, mb_vs]
    rcases Nat.lt_or_ge k n with q | q
    · have e := mb_up (g := g) (k := k) (x := x) (n := n) q
      rw [va_up_ne g x (show n ≠ k by omega)]
      omega
    · have hk : n = k := by omega
      subst hk
      rw [va_up_self, mb_congr (g := va_up g n x) (h := g) (fun j hj => va_up_ne g x (by omega))]
      omega
theorem mb_upo {g : Nat → Nat} {k x n : Nat} (h : n ≤ k) : mb_v (va_up g k x) n = mb_v g n := mb_congr (fun j hj => va_up_ne g x (by omega))
/-- a sum in one digit's place and what is carried -/
theorem mb_cy (s p : Nat) : s % 1073741824 * p + s / 1073741824 * (p * 1073741824) = s * p := by
  have h := Nat.div_add_mod s 1073741824
  calc s % 1073741824 * p + s / 1073741824 * (p * 1073741824) = (1073741824 * (s / 1073741824) + s % 1073741824) * p := by grind
    _ = s * p := by rw [h]
/-- the first n + m digits: the lower n and the upper m -/
theorem mb_cut (g : Nat → Nat) (n : Nat) : ∀ m : Nat, mb_v g (n + m) = mb_v g n + 1073741824 ^ n * mb_v (fun j => g (n + j)) m
  | 0 => by simp [mb_v0]
  | m + 1 => by
    rw [← Nat.add_assoc, mb_vs, mb_cut g n m, mb_vs, Nat.pow_add]
    grind
theorem mb_le {g : Nat → Nat} {n m : Nat} (h : n ≤ m) : mb_v g n ≤ mb_v g m := by
  obtain ⟨k, rfl⟩ := Nat.exists_eq_add_of_le h
  rw [mb_cut]; omega
/-- the highest digit in which two numbers differ decides -/
theorem mb_cmp {g h : Nat → Nat} {i n : Nat} (hi : i < n) (hg : ∀ j, j < n → g j < 1073741824) (e : ∀ j, i < j → j < n → g j = h j) (lt : g i < h i) : mb_v g n < mb_v h n := by
  obtain ⟨k, rfl⟩ := Nat.exists_eq_add_of_le (show i + 1 ≤ n by omega)
  rw [mb_cut g (i + 1) k, mb_cut h (i + 1) k, mb_congr (g := fun j => g (i + 1 + j)) (h := fun j => h (i + 1 + j)) (fun j hj => e _ (by omega) (by omega)), mb_vs, mb_vs]
  have h1 := mb_lt (g := g) (n := i) (fun j hj => hg j (by omega))
  have h2 : (g i + 1) * 1073741824 ^ i ≤ h i * 1073741824 ^ i := Nat.mul_le_mul_right _ lt
  have h3 : (g i + 1) * 1073741824 ^ i = g i * 1073741824 ^ i + 1073741824 ^ i := by grind
  omega
theorem mb_ge {g : Nat → Nat} {n : Nat} (h : g n ≠ 0) : 1073741824 ^ n ≤ mb_v g (n + 1) := by
  rw [mb_vs]
  have h2 : 1 * 1073741824 ^ n ≤ g n * 1073741824 ^ n := Nat.mul_le_mul_right _ (by omega)
  omega
/-- digits g, of which n count, are the number v -/
def mb_is (g : Nat → Nat) (n v : Nat) : Prop := (∀ j, g j < 1073741824) ∧ (∀ j, n ≤ j → g j = 0) ∧ (0 < n → g (n - 1) ≠ 0) ∧ n ≤ 72 ∧ mb_v g n = v
theorem mb_is0 {g : Nat → Nat} (h : ∀ j, g j = 0) : mb_is g 0 0 := ⟨fun j => by rw [h]; decide, fun j _ => h j, fun h => absurd h (Nat.lt_irrefl 0), by decide, rfl⟩
theorem mb_is_lt {g : Nat → Nat} {n v : Nat} (h : mb_is g n v) : v < 1073741824 ^ n := by
  rw [← h.2.2.2.2]; exact mb_lt (fun j _ => h.1 j)
theorem mb_is_ge {g : Nat → Nat} {n v : Nat} (h : mb_is g n v) (hn : 0 < n) : 1073741824 ^ (n - 1) ≤ v := by
  obtain ⟨h1, h2, h3, h4, h5⟩ := h
  obtain ⟨k, rfl⟩ : ∃ k, n = k + 1 := ⟨n - 1, by omega⟩
  rw [← h5]; exact mb_ge (h3 hn)
theorem mb_is_at {g : Nat → Nat} {n v m : Nat} (h : mb_is g n v) (hm : n ≤ m) : mb_v g m = v := by
  rw [mb_top hm (fun j h1 _ => h.2.1 j h1)]; exact h.2.2.2.2
/-- how many digits count is told by the value -/
theorem mb_is_n {g : Nat → Nat} {n v k : Nat} (h : mb_is g n v) (hv : v < 1073741824 ^ k) : n ≤ k := by
  rcases Nat.lt_or_ge k n with q | q
  · have h1 := mb_is_ge h (by omega)
    have h2 : 1073741824 ^ k ≤ 1073741824 ^ (n - 1) := Nat.pow_le_pow_right (by decide) (by omega)
    omega
  · exact q
theorem mb_is_z {g : Nat → Nat} {n v : Nat} (h : mb_is g n v) : n = 0 ↔ v = 0 := by
  constructor
  · intro e; subst e; exact h.2.2.2.2.symm
  · intro e
    rcases Nat.eq_zero_or_pos n with q | q
    · exact q
    · have h1 := mb_is_ge h q
      have h2 := mb_pp (n - 1)
      omega
/-- what is left when zeros are taken off the top -/
def mb_tr (g : Nat → Nat) : Nat → Nat
  | 0 => 0
  | n + 1 => if g n = 0 then mb_tr g n else n + 1
theorem mb_tr_le (g : Nat → Nat) : ∀ n, mb_tr g n ≤ n
  | 0 => Nat.le_refl 0
  | n + 1 => by
    unfold mb_tr
    split
    · exact Nat.le_trans (mb_tr_le g n) (by omega)
    · exact Nat.le_refl _
theorem mb_tr_z (g : Nat → Nat) : ∀ n j, mb_tr g n ≤ j → j < n → g j = 0
  | 0, j, _, h => absurd h (Nat.not_lt_zero j)
  | n + 1, j, h1, h2 => by
    unfold mb_tr at h1
    split at h1
    · rcases Nat.lt_or_ge j n with q | q
      · exact mb_tr_z g n j h1 q
      · rw [show j = n by omega]; assumption
    · omega
theorem mb_tr_t (g : Nat → Nat) : ∀ n, 0 < mb_tr g n → g (mb_tr g n - 1) ≠ 0
  | 0, h => absurd h (Nat.lt_irrefl 0)
  | n + 1, h => by
    unfold mb_tr at h ⊢
    split
    · rename_i e
      rw [if_pos e] at h
      exact mb_tr_t g n h
    · assumption
theorem mb_tr_is {g : Nat → Nat} {n v : Nat} (h1 : ∀ j, g j < 1073741824) (h2 : ∀ j, n ≤ j → g j = 0) (hn : n ≤ 72) (hv : mb_v g n = v) : mb_is g (mb_tr g n) v := by
  refine ⟨h1, fun j hj => ?_, mb_tr_t g n, Nat.le_trans (mb_tr_le g n) hn, ?_⟩
  · rcases Nat.lt_or_ge j n with q | q
    · exact mb_tr_z g n j hj q
    · exact h2 j q
  · rw [← hv]
    exact (mb_top (mb_tr_le g n) (fun j a b => mb_tr_z g n j a b)).symm
def mb_cl (g : Nat → Nat) (n : Nat) : Nat → Nat := fun j => if j < n then 0 else g j
theorem mb_cl0 (g : Nat → Nat) : mb_cl g 0 = g := by funext j; simp [mb_cl]
theorem mb_cls (g : Nat → Nat) (i : Nat) : va_up (mb_cl g i) i 0 = mb_cl g (i + 1) := by
  funext j
  unfold va_up mb_cl
  by_cases e : j = i
  · rw [if_pos e, if_pos (by omega)]
  · rw [if_neg e]
    by_cases e2 : j < i
    · rw [if_pos e2, if_pos (by omega)]
    · rw [if_neg e2, if_neg (by omega)]
theorem mb_clz {g : Nat → Nat} {n v : Nat} (h : mb_is g n v) : mb_cl g n = fun _ => 0 := by
  funext j
  unfold mb_cl
  by_cases e : j < n
  · rw [if_pos e]
  · rw [if_neg e]; exact h.2.1 j (by omega)
/-- arithmetic of longs: not below 0 -/
theorem ml_shr {a k : Nat} (hk : k < 64) (h : a < 2 ^ 63) : lN a >>> ((nI k).toInt64 &&& 63) = lN (a / 2 ^ k) := by
  rw [wb_c k hk]
  have hD : ((lN k).toBitVec.smod 64).toNat = k := by
    rw [wb_tb, wb_sm k hk, BitVec.toNat_ofNat]
    exact Nat.mod_eq_of_lt (by omega)
  apply Int64.toInt_inj.mp
  rw [show (lN a >>> lN k).toInt = (lN a).toInt >>> k by
    rw [← Int64.toInt_toBitVec, Int64.toBitVec_shiftRight, BitVec.toInt_sshiftRight', hD, Int64.toInt_toBitVec]]
  rw [pf_lI h, pf_lI (Nat.lt_of_le_of_lt (Nat.div_le_self a _) h), Int.shiftRight_eq_div_pow]
  simp
theorem ml_mask {a : Nat} (h : a < 2 ^ 64) : lN a &&& lN 1073741823 = lN (a % 1073741824) := wb_mask (k := 30) h (by decide)
theorem mi_mask {a : Nat} (h : a < 2 ^ 32) : nI a &&& nI 1073741823 = nI (a % 1073741824) := pk_andN h 30 (by decide)
theorem mi_ushr {a : Nat} (h : a < 2 ^ 32) : ((nI a).toUInt32 >>> ((nI 30).toUInt32 &&& Int32.toUInt32 31)).toInt32 = nI (a / 1073741824) := pk_ushrN h (nI 30) 30 (by decide)
theorem ml_or {a b : Nat} (ha : a < 1073741824) (h : b * 1073741824 + a < 2 ^ 64) : lN (b * 1073741824) ||| lN a = lN (b * 1073741824 + a) := g_or (k := 30) (by decide) ha h
theorem ml_shl (a : Nat) : lN a <<< ((nI 30).toInt64 &&& 63) = lN (a * 1073741824) := wb_shl a (k := 30) (by decide)
theorem mi_max {a b : Nat} (ha : a < 2 ^ 31) (hb : b < 2 ^ 31) : (if nI a < nI b then nI b else nI a) = nI (max a b) := by
  by_cases e : a < b
  · rw [if_pos ((nI_ltI ha hb).mpr e), Nat.max_eq_right (by omega)]
  · rw [if_neg (fun q => e ((nI_ltI ha hb).mp q)), Nat.max_eq_left (by omega)]
theorem mi_min {a b : Nat} (ha : a < 2 ^ 31) (hb : b < 2 ^ 31) : (if nI b < nI a then nI b else nI a) = nI (min a b) := by
  by_cases e : b < a
  · rw [if_pos ((nI_ltI hb ha).mpr e), Nat.min_eq_right (by omega)]
  · rw [if_neg (fun q => e ((nI_ltI hb ha).mp q)), Nat.min_eq_left (by omega)]
def mi_cmp (a b : Nat) : Int32 := if a < b then -1 else if a = b then 0 else 1
theorem mi_m1 (k : Nat) : nI k + Int32.ofInt (-1) = nI k - nI 1 := by rw [Int32.sub_eq_add_neg]; rfl
