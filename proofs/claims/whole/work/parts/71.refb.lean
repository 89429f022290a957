/-! THE REFERENCE: its registers as values -/
def RG (H : ev_H) (M lm sz : Nat) (rest : List Value) (v : Nat → Nat) : Prop := RM H M lm sz rest ∧ ∃ L s, H lm = some (.inl (.int, 6580, .inl (fun j => nI (L j)))) ∧ H sz = some (.inl (.int, 47, .inl (fun j => nI (s j)))) ∧ RV L s v
def RF (lm sz : Nat) (H h1 : ev_H) : Prop := ∀ a, a ≠ lm → a ≠ sz → h1 a = H a
theorem RF.tr {lm sz : Nat} {H h1 h2 : ev_H} (a : RF lm sz H h1) (b : RF lm sz h1 h2) : RF lm sz H h2 := fun x q1 q2 => (b x q1 q2).trans (a x q1 q2)
theorem RF.rf {lm sz : Nat} {H : ev_H} : RF lm sz H H := fun _ _ _ => rfl
def gpost (H : ev_H) (M lm sz : Nat) (rest : List Value) (v2 : Nat → Nat) (h1 : ev_H) : Prop := RG h1 M lm sz rest v2 ∧ RF lm sz H h1
section REFB
variable {G : ev_G} {w : Nat} {H : ev_H} {M lm sz r o j k dd p q : Nat} {rest : List Value} {L s v : Nat → Nat}
theorem rp_id (h1 : H lm = some (.inl (.int, 6580, .inl (fun j => nI (L j))))) (h2 : H sz = some (.inl (.int, 47, .inl (fun j => nI (s j))))) : rp H lm sz L s = H := by
  funext a
  unfold rp ev_up
  by_cases e : a = sz
  · rw [if_pos e, e, h2]
  · rw [if_neg e]
    by_cases e2 : a = lm
    · rw [if_pos e2, e2, h1]
    · rw [if_neg e2]
theorem rg_rp (hM : RM H M lm sz rest) (hV : RV L s v) : gpost H M lm sz rest v (rp H lm sz L s) := ⟨⟨⟨hM.1, hM.2.1, hM.2.2.1, rp_M hM⟩, L, s, rp_L hM, rp_S, hV⟩, fun a h1 h2 => ev_nee h2 (ev_nee h1 rfl)⟩
theorem rg_M (h : RG H M lm sz rest v) : H M = some (.inr (7, .ref lm :: .ref sz :: rest)) := h.1.2.2.2
theorem rg_cg {v2 : Nat → Nat} (h : RG H M lm sz rest v) (e : ∀ i, i < 47 → v2 i = v i) : RG H M lm sz rest v2 := by
  obtain ⟨h1, L, s, h2, h3, h4⟩ := h
  exact ⟨h1, L, s, h2, h3, fun i hi => by rw [e i hi]; exact h4 i hi⟩
/-- from limbs to values -/
theorem rg_w {m : ev_M} {args : List Value} {X : Option Value} {v2 : Nat → Nat} (h : RG H M lm sz rest v) (k : ∀ L s, RM H M lm sz rest → RV L s v → ev_Ca G dd w m args (rp H lm sz L s) 0 0 (ev_ok (fun x h1 => x = X ∧ ∃ L2 s2, h1 = rp H lm sz L2 s2 ∧ RV L2 s2 v2))) : ev_Ca G dd w m args H 0 0 (ev_ok (fun x h1 => x = X ∧ gpost H M lm sz rest v2 h1)) := by
  obtain ⟨h1, L, s, h2, h3, h4⟩ := h
  have := k L s h1 h4
  rw [rp_id h2 h3] at this
  exact ca_post (fun x y hp => ⟨hp.1, by obtain ⟨_, L2, s2, rfl, h5⟩ := hp; exact rg_rp h1 h5⟩) this
theorem rg_u {m : ev_M} {args : List Value} {X : Option Value} (h : RG H M lm sz rest v) (k : ∀ L s, RM H M lm sz rest → RV L s v → ev_Ca G dd w m args (rp H lm sz L s) 0 0 (ev_ok (fun x h1 => x = X ∧ h1 = rp H lm sz L s))) : ev_Ca G dd w m args H 0 0 (ev_ok (fun x h1 => x = X ∧ h1 = H)) := by
  obtain ⟨h1, L, s, h2, h3, h4⟩ := h
  have := k L s h1 h4
  rw [rp_id h2 h3] at this
  exact this
theorem g_copy (hd : 1 ≤ dd) (h : RG H M lm sz rest v) (hr : r < 47) (ho : o < 47) (hro : r ≠ o) : ev_Ca G dd w m_X9_copy [.ref M, .int (nI r), .int (nI o)] H 0 0 (ev_ok (fun x h1 => x = none ∧ gpost H M lm sz rest (va_up v r (v o)) h1)) := rg_w h (fun _ _ hM hV => k_rcopy hd hM hr ho hro hV)
theorem g_set {x : Nat} (hd : 1 ≤ dd) (h : RG H M lm sz rest v) (hr : r < 47) (hx : x < 2 ^ 63) : ev_Ca G dd w m_X9_set [.ref M, .int (nI r), .long (lN x)] H 0 0 (ev_ok (fun y h1 => y = none ∧ gpost H M lm sz rest (va_up v r x) h1)) := rg_w h (fun _ _ hM hV => k_rset hd hM hr hx (fun i hi _ => hV i hi))
theorem g_isOne (hd : 1 ≤ dd) (h : RG H M lm sz rest v) (hr : r < 47) : ev_Ca G dd w m_X9_isOne [.ref M, .int (nI r)] H 0 0 (ev_ok (fun x h1 => x = some (.int (nI (if v r = 1 then 1 else 0))) ∧ h1 = H)) := rg_u h (fun _ _ hM hV => k_risOne hd hM hr (hV r hr))
theorem g_isEven (hd : 1 ≤ dd) (h : RG H M lm sz rest v) (hr : r < 47) : ev_Ca G dd w m_X9_isEven [.ref M, .int (nI r)] H 0 0 (ev_ok (fun x h1 => x = some (.int (nI (if v r % 2 = 0 then 1 else 0))) ∧ h1 = H)) := rg_u h (fun _ _ hM hV => k_risEven hd hM hr (hV r hr))
theorem g_twice {dg : Nat} (hd : 1 ≤ dd) (h : RG H M lm sz rest v) (hr : r < 47) (hg : dg ≤ 1) (hb : v r < 1073741824 ^ 139) : ev_Ca G dd w m_X9_twice [.ref M, .int (nI r), .int (nI dg)] H 0 0 (ev_ok (fun x h1 => x = none ∧ gpost H M lm sz rest (va_up v r (2 * v r + dg)) h1)) := rg_w h (fun _ _ hM hV => k_rtwice hd hM hr hg hV (by have := rv_n (hV r hr) hb; omega))
theorem g_half (hd : 2 ≤ dd) (hw : 30 ≤ w) (h : RG H M lm sz rest v) (hr : r < 47) (hr0 : 0 < r) : ev_Ca G dd w m_X9_half [.ref M, .int (nI r)] H 0 0 (ev_ok (fun x h1 => x = none ∧ gpost H M lm sz rest (va_up v r (v r / 2)) h1)) := rg_w h (fun _ _ hM hV => k_rhalf hd (by omega) hM hr hr0 hV)
theorem g_add (hd : 2 ≤ dd) (hw : 30 ≤ w) (h : RG H M lm sz rest v) (hr : r < 47) (ho : o < 47) (hro : r ≠ o) (b1 : v r < 1073741824 ^ 139) (b2 : v o < 1073741824 ^ 139) : ev_Ca G dd w m_X9_add [.ref M, .int (nI r), .int (nI o)] H 0 0 (ev_ok (fun x h1 => x = none ∧ gpost H M lm sz rest (va_up v r (v r + v o)) h1)) := rg_w h (fun _ _ hM hV => k_radd hd hw hM hr ho hro hV b1 b2)
theorem g_cmp (hd : 1 ≤ dd) (h : RG H M lm sz rest v) (hr : r < 47) (ho : o < 47) : ev_Ca G dd w m_X9_compare [.ref M, .int (nI r), .int (nI o)] H 0 0 (ev_ok (fun x h1 => x = some (.int (mi_cmp (v r) (v o))) ∧ h1 = H)) := rg_u h (fun _ _ hM hV => k_rcmp hd hM hr ho hV)
theorem g_sub (hd : 2 ≤ dd) (hw : 30 ≤ w) (h : RG H M lm sz rest v) (hr : r < 47) (ho : o < 47) (hro : r ≠ o) (hle : v o ≤ v r) : ev_Ca G dd w m_X9_subtract [.ref M, .int (nI r), .int (nI o)] H 0 0 (ev_ok (fun x h1 => x = none ∧ gpost H M lm sz rest (va_up v r (v r - v o)) h1)) := rg_w h (fun _ _ hM hV => k_rsub hd hw hM hr ho hro hV hle)
theorem g_bits (hd : 1 ≤ dd) (h : RG H M lm sz rest v) (hr : r < 47) : ev_Ca G dd w m_X9_bits [.ref M, .int (nI r)] H 0 0 (ev_ok (fun x h1 => x = some (.int (nI (mb_bits (v r)))) ∧ h1 = H)) := rg_u h (fun _ _ hM hV => k_rbits hd hM hr (hV r hr))
theorem g_scale {b : Nat} (hd : 2 ≤ dd) (hw : 30 ≤ w) (h : RG H M lm sz rest v) (hr : r < 47) (hb : b < 1073741824) (hs : v r < 1073741824 ^ 139) : ev_Ca G dd w m_X9_scale [.ref M, .int (nI r), .int (nI b)] H 0 0 (ev_ok (fun x h1 => x = none ∧ gpost H M lm sz rest (va_up v r (v r * b)) h1)) := rg_w h (fun _ _ hM hV => k_rscale hd hw hM hr hb hV hs)
theorem g_divide {b : Nat} (hd : 2 ≤ dd) (hw : 30 ≤ w) (h : RG H M lm sz rest v) (hr : r < 47) (hr0 : 0 < r) (hb0 : 0 < b) (hb : b < 1073741824) : ev_Ca G dd w m_X9_divide [.ref M, .int (nI r), .int (nI b)] H 0 0 (ev_ok (fun x h1 => x = some (.int (nI (v r % b))) ∧ gpost H M lm sz rest (va_up v r (v r / b)) h1)) := rg_w h (fun _ _ hM hV => k_rdivide hd hw hM hr hr0 hb0 hb hV)
theorem g_mul (hd : 2 ≤ dd) (hw : 30 ≤ w) (h : RG H M lm sz rest v) (hr : r < 47) (hp : p < 47) (hq : q < 47) (hrp : r ≠ p) (hrq : r ≠ q) (hb : v p * v q < 1073741824 ^ 139) : ev_Ca G dd w m_X9_multiply [.ref M, .int (nI r), .int (nI p), .int (nI q)] H 0 0 (ev_ok (fun x h1 => x = none ∧ gpost H M lm sz rest (va_up v r (v p * v q)) h1)) := rg_w h (fun _ _ hM hV => k_rmul hd hw hM hr hp hq hrp hrq hV hb)
end REFB
