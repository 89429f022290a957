/-! small rows over the light judgement -/
section EVL
variable {G : ev_G} {C : ev_L} {w : Nat} {M : ev_M} {K : ev_K} {pc : Nat} {L : ev_V} {st : List Value} {h : ev_H} {c z : Nat}
theorem ev_ti {x y : Int32} (e : x = y) (k : ev_J G C w M K (pc, L, .int y :: st, h, c, z)) : ev_J G C w M K (pc, L, .int x :: st, h, c, z) := by rw [e]; exact k
theorem ev_tl {x y : Int64} (e : x = y) (k : ev_J G C w M K (pc, L, .long y :: st, h, c, z)) : ev_J G C w M K (pc, L, .long x :: st, h, c, z) := by rw [e]; exact k
theorem ev_th {h2 : ev_H} (e : h = h2) (k : ev_J G C w M K (pc, L, st, h2, c, z)) : ev_J G C w M K (pc, L, st, h, c, z) := by rw [e]; exact k
def ev_hs (L : ev_V) : List (Nat × Value) → Prop
  | [] => True
  | q :: t => L q.1 = some q.2 ∧ ev_hs L t
theorem ev_hsm {L : ev_V} : ∀ {vs : List (Nat × Value)}, ev_hs L vs → ∀ q ∈ vs, L q.1 = some q.2
  | [], _, q, hq => nomatch hq
  | v :: t, h, q, hq => by
    rcases List.mem_cons.mp hq with e | e
    · rw [e]; exact h.1
    · exact ev_hsm h.2 q e
theorem ev_vs (vs : List (Nat × Value)) (hv : ev_hs L vs) (k : ev_J G C w M K (pc, ev_lf vs, st, h, c, z)) : ev_J G C w M K (pc, L, st, h, c, z) := ev_wk (fun i v e => ev_hsm hv (i, v) (ev_lfm e)) k
end EVL
theorem ev_eqq {h : ev_H} {a : Nat} {c : ev_C} : ev_up h a c a = some c := if_pos rfl
theorem ev_nee {h : ev_H} {a q : Nat} {c : ev_C} {x : Option ev_C} (hne : q ≠ a) (e : h q = x) : ev_up h a c q = x := (if_neg hne).trans e
theorem ev_p1 (i : Nat) : nI i + Int32.ofInt 1 = nI (i + 1) := nI_1 i
theorem ev_m1 {i : Nat} (h : 0 < i) : nI i + Int32.ofInt (-1) = nI (i - 1) := by
  obtain ⟨k, rfl⟩ : ∃ k, i = k + 1 := ⟨i - 1, by omega⟩
  exact pk_m1 k
theorem ev_s1e {x y : Int32} (e : x = y) : some (Value.int x) = some (Value.int y) := by rw [e]
theorem ev_s2e {x y : Int64} (e : x = y) : some (Value.long x) = some (Value.long y) := by rw [e]
/-! a Whole: its object q, its row of digits d -/
def wh_p (h : ev_H) (q d n : Nat) (g : Nat → Nat) : ev_H := ev_up (ev_up h d (.inl (.int, 72, .inl (fun j => nI (g j))))) q (.inr (5, [.ref d, .int (nI n)]))
theorem wh_q {h : ev_H} {q d n : Nat} {g : Nat → Nat} : wh_p h q d n g q = some (.inr (5, [.ref d, .int (nI n)])) := if_pos rfl
theorem wh_d {h : ev_H} {q d n : Nat} {g : Nat → Nat} (hqd : q ≠ d) : wh_p h q d n g d = some (.inl (.int, 72, .inl (fun j => nI (g j)))) := (if_neg (Ne.symm hqd)).trans (if_pos rfl)
theorem wh_n {h : ev_H} {q d n : Nat} {g : Nat → Nat} {a : Nat} (h1 : a ≠ q) (h2 : a ≠ d) : wh_p h q d n g a = h a := (if_neg h1).trans (if_neg h2)
theorem wh_upd (g : Nat → Nat) (i x : Nat) (hi : i < 2 ^ 31) : upd (fun j => nI (g j)) (nI i).toNatClampNeg (nI x) = fun j => nI (va_up g i x j) := by
  rw [nI_clamp hi]
  funext j
  unfold upd va_up
  by_cases e : j = i
  · rw [if_pos e, if_pos e]
  · rw [if_neg e, if_neg e]
theorem wh_st {h : ev_H} {q d n i x : Nat} {g : Nat → Nat} (hqd : q ≠ d) (hi : i < 2 ^ 31) : ev_up (wh_p h q d n g) d (.inl (.int, 72, .inl (upd (fun j => nI (g j)) (nI i).toNatClampNeg (nI x)))) = wh_p h q d n (va_up g i x) := by
  rw [wh_upd g i x hi]
  funext a
  unfold wh_p ev_up
  by_cases e : a = d
  · rw [if_pos e, if_neg (by rw [e]; exact Ne.symm hqd), if_pos e]
  · rw [if_neg e]
    by_cases e2 : a = q
    · rw [if_pos e2, if_pos e2]
    · rw [if_neg e2, if_neg e, if_neg e2, if_neg e]
theorem wh_sz {h : ev_H} {q d n m : Nat} {g : Nat → Nat} : ev_up (wh_p h q d n g) q (.inr (5, [Value.ref d, Value.int (nI n)].set 1 (Value.int (nI m)))) = wh_p h q d m g := by
  funext a
  show ev_up (wh_p h q d n g) q (.inr (5, [Value.ref d, Value.int (nI m)])) a = _
  unfold wh_p ev_up
  by_cases e : a = q
  · rw [if_pos e, if_pos e]
  · rw [if_neg e, if_neg e, if_neg e]
theorem wh_id {h : ev_H} {q d n : Nat} {g : Nat → Nat} (h1 : h q = some (.inr (5, [.ref d, .int (nI n)]))) (h2 : h d = some (.inl (.int, 72, .inl (fun j => nI (g j))))) : wh_p h q d n g = h := by
  funext a
  unfold wh_p ev_up
  by_cases e : a = q
  · rw [if_pos e, e, h1]
  · rw [if_neg e]
    by_cases e2 : a = d
    · rw [if_pos e2, e2, h2]
    · rw [if_neg e2]
theorem wh_pp {h : ev_H} {q d n m : Nat} {g f : Nat → Nat} : wh_p (wh_p h q d n g) q d m f = wh_p h q d m f := by
  funext a
  unfold wh_p ev_up
  by_cases e : a = q
  · simp only [if_pos e]
  · by_cases e2 : a = d
    · simp only [if_neg e, if_pos e2]
    · simp only [if_neg e, if_neg e2]
