/-! Shares: bits of members, leaving, joining, factors, copying -/
def pc8 (x : Nat) : Nat := x % 2 + x / 2 % 2 + x / 4 % 2 + x / 8 % 2 + x / 16 % 2 + x / 32 % 2 + x / 64 % 2 + x / 128 % 2
def us (x : Int32) (k : Int32) : Int32 := (x.toUInt32 >>> (k.toUInt32 &&& Int32.toUInt32 31)).toInt32
def bc1 (x : Int32) : Int32 := x - (us x (nI 1) &&& nI 1431655765)
def bc2 (x : Int32) : Int32 := (x &&& nI 858993459) + (us x (nI 2) &&& nI 858993459)
def bc3 (x : Int32) : Int32 := (x + us x (nI 4)) &&& nI 252645135
def bc4 (x : Int32) : Int32 := x + us x (nI 8)
def bc5 (x : Int32) : Int32 := x + us x (nI 16)
theorem bc_ok : ∀ x, x < 256 → bc5 (bc4 (bc3 (bc2 (bc1 (nI x))))) &&& nI 63 = nI (pc8 x) := by decide +kernel
theorem pc8_b : ∀ x, x < 256 → pc8 x ≤ 8 := by decide +kernel
/-- the bits of m that are not in l; those of both -/
def an (m l : Nat) : Nat := (m % 2) * (1 - l % 2) + 2 * (m / 2 % 2 * (1 - l / 2 % 2)) + 4 * (m / 4 % 2 * (1 - l / 4 % 2)) + 8 * (m / 8 % 2 * (1 - l / 8 % 2)) + 16 * (m / 16 % 2 * (1 - l / 16 % 2)) + 32 * (m / 32 % 2 * (1 - l / 32 % 2)) + 64 * (m / 64 % 2 * (1 - l / 64 % 2)) + 128 * (m / 128 % 2 * (1 - l / 128 % 2))
theorem bt_clr : ∀ m, m < 256 → ∀ s, s < 8 → nI m &&& ((nI 1 <<< (nI s &&& 31)) ^^^ (-1)) = nI (m - 2 ^ s * (m / 2 ^ s % 2)) := by decide +kernel
theorem bt_set : ∀ m, m < 256 → ∀ s, s < 8 → nI m ||| (nI 1 <<< (nI s &&& 31)) = nI (m + 2 ^ s * (1 - m / 2 ^ s % 2)) := by decide +kernel
theorem bt_setb : ∀ m, m < 256 → ∀ s, s < 8 → m + 2 ^ s * (1 - m / 2 ^ s % 2) < 256 := by decide +kernel
def sp_leave (mem s : Nat) : Nat × Nat := if mem / 2 ^ s % 2 = 1 ∧ pc8 mem ≠ 1 then (0, mem - 2 ^ s) else (2, mem)
def sp_join (mem s : Nat) : Nat × Nat := if mem / 2 ^ s % 2 = 1 then (2, mem) else (0, mem + 2 ^ s)
section SHM3
variable {G : ev_G} {w : Nat} {H : ev_H} {D S : Nat} {i j k dd s : Nat} {sa : Nat → Nat} {P : Nat → Nat → Nat} {fu fd : Nat → Nat} {mem : Nat}
theorem k_bitCount {x : Nat} (hd : 1 ≤ dd) (hx : x < 256) : ev_Ca G dd w m_J6_bitCount_0f7a4 [.int (nI x)] H 0 0 (ev_ok (fun r h1 => r = some (.int (nI (pc8 x))) ∧ h1 = H)) := by
  obtain ⟨dd, rfl⟩ : ∃ e, dd = e + 1 := ⟨dd - 1, by omega⟩
  refine ⟨by decide +kernel, rfl, ?_⟩
  refine ev_iload_n (pc := 0) dJ6_bitCount_0f7a4_0 rfl ?_
  refine ev_iload_n (pc := 1) dJ6_bitCount_0f7a4_1 rfl ?_
  refine ev_iconst (pc := 2) (v := nI 1) dJ6_bitCount_0f7a4_2 (by decide) ?_
  refine ev_iushr (pc := 3) dJ6_bitCount_0f7a4_3 ?_
  refine ev_ldcw (pc := 4) dJ6_bitCount_0f7a4_4 k_J6_265 ?_
  refine ev_iand (pc := 7) dJ6_bitCount_0f7a4_7 ?_
  refine ev_isub (pc := 8) dJ6_bitCount_0f7a4_8 ?_
  refine ev_ti (y := bc1 (nI x)) rfl ?_
  refine ev_istore_n (pc := 9) dJ6_bitCount_0f7a4_9 rfl ?_
  refine ev_iload_n (pc := 10) dJ6_bitCount_0f7a4_10 rfl ?_
  refine ev_ldcw (pc := 11) dJ6_bitCount_0f7a4_11 k_J6_266 ?_
  refine ev_iand (pc := 14) dJ6_bitCount_0f7a4_14 ?_
  refine ev_iload_n (pc := 15) dJ6_bitCount_0f7a4_15 rfl ?_
  refine ev_iconst (pc := 16) (v := nI 2) dJ6_bitCount_0f7a4_16 (by decide) ?_
  refine ev_iushr (pc := 17) dJ6_bitCount_0f7a4_17 ?_
  refine ev_ldcw (pc := 18) dJ6_bitCount_0f7a4_18 k_J6_266 ?_
  refine ev_iand (pc := 21) dJ6_bitCount_0f7a4_21 ?_
  refine ev_iadd (pc := 22) dJ6_bitCount_0f7a4_22 ?_
  refine ev_ti (y := bc2 (bc1 (nI x))) rfl ?_
  refine ev_istore_n (pc := 23) dJ6_bitCount_0f7a4_23 rfl ?_
  refine ev_iload_n (pc := 24) dJ6_bitCount_0f7a4_24 rfl ?_
  refine ev_iload_n (pc := 25) dJ6_bitCount_0f7a4_25 rfl ?_
  refine ev_iconst (pc := 26) (v := nI 4) dJ6_bitCount_0f7a4_26 (by decide) ?_
  refine ev_iushr (pc := 27) dJ6_bitCount_0f7a4_27 ?_
  refine ev_iadd (pc := 28) dJ6_bitCount_0f7a4_28 ?_
  refine ev_ldcw (pc := 29) dJ6_bitCount_0f7a4_29 k_J6_267 ?_
  refine ev_iand (pc := 32) dJ6_bitCount_0f7a4_32 ?_
  refine ev_ti (y := bc3 (bc2 (bc1 (nI x)))) rfl ?_
  refine ev_istore_n (pc := 33) dJ6_bitCount_0f7a4_33 rfl ?_
  refine ev_iload_n (pc := 34) dJ6_bitCount_0f7a4_34 rfl ?_
  refine ev_iload_n (pc := 35) dJ6_bitCount_0f7a4_35 rfl ?_
  refine ev_bipush (pc := 36) (v := nI 8) dJ6_bitCount_0f7a4_36 (by decide) ?_
  refine ev_iushr (pc := 38) dJ6_bitCount_0f7a4_38 ?_
  refine ev_iadd (pc := 39) dJ6_bitCount_0f7a4_39 ?_
  refine ev_ti (y := bc4 (bc3 (bc2 (bc1 (nI x))))) rfl ?_
  refine ev_istore_n (pc := 40) dJ6_bitCount_0f7a4_40 rfl ?_
  refine ev_iload_n (pc := 41) dJ6_bitCount_0f7a4_41 rfl ?_
  refine ev_iload_n (pc := 42) dJ6_bitCount_0f7a4_42 rfl ?_
  refine ev_bipush (pc := 43) (v := nI 16) dJ6_bitCount_0f7a4_43 (by decide) ?_
  refine ev_iushr (pc := 45) dJ6_bitCount_0f7a4_45 ?_
  refine ev_iadd (pc := 46) dJ6_bitCount_0f7a4_46 ?_
  refine ev_ti (y := bc5 (bc4 (bc3 (bc2 (bc1 (nI x)))))) rfl ?_
  refine ev_istore_n (pc := 47) dJ6_bitCount_0f7a4_47 rfl ?_
  refine ev_iload_n (pc := 48) dJ6_bitCount_0f7a4_48 rfl ?_
  refine ev_bipush (pc := 49) (v := nI 63) dJ6_bitCount_0f7a4_49 (by decide) ?_
  refine ev_iand (pc := 51) dJ6_bitCount_0f7a4_51 ?_
  exact ev_iret (pc := 52) dJ6_bitCount_0f7a4_52 rfl rfl ⟨by rw [bc_ok x hx], rfl⟩
theorem k_leave (hd : 2 ≤ dd) (hw : 21 ≤ w) (h : SH H S sa P fu fd mem) (hm : mem < 256) (hs : s < 8) : ev_Ca G dd w m_X5_leave [.ref S, .int (nI s)] H 0 0 (ev_ok (shq H S sa (sp_leave mem s).1 P fu fd (sp_leave mem s).2)) := by
  obtain ⟨dd, rfl⟩ : ∃ e, dd = e + 1 := ⟨dd - 1, by omega⟩
  refine ⟨by decide +kernel, rfl, ?_⟩
  have hb : mem / 2 ^ s % 2 < 2 := Nat.mod_lt _ (by decide)
  have hpc := pc8_b mem hm
  have no : ∀ {L}, ¬ (mem / 2 ^ s % 2 = 1 ∧ pc8 mem ≠ 1) → ev_J G (ev_cc G dd w) w m_X5_leave (ev_ok (shq H S sa (sp_leave mem s).1 P fu fd (sp_leave mem s).2)) (19, L, [], H, 0, 0) := by
    intro L hn
    have e : sp_leave mem s = (2, mem) := if_neg hn
    rw [e]
    refine ev_iconst (pc := 19) (v := nI 2) dX5_leave_19 (by decide) ?_
    exact ev_iret (pc := 20) dX5_leave_20 rfl rfl ⟨rfl, h, SF.rf⟩
  refine ev_aload_n (pc := 0) dX5_leave_0 rfl ?_
  refine ev_iload_n (pc := 1) dX5_leave_1 rfl ?_
  refine ev_callV (pc := 2) (As := [.int (nI s)]) dX5_leave_2 cv_X5_88 rfl rfl h.1 rfl ⟨by show 19 + 2 ≤ w; omega, show ev_Ca _ _ (w - 21) _ _ _ _ _ _ from k_isMember (by omega) h hm hs⟩ rfl rfl (fun r h1 hp => ?_)
  obtain ⟨rfl, hH⟩ := hp
  rw [hH]
  clear hH h1
  refine ev_if_eqN (pc := 5) (tgt := 19) dX5_leave_5 (by decide) (by omega) (fun c1 => ?_) (fun c1 => ?_)
  · exact no (fun q => by omega)
  · refine ev_aload_n (pc := 8) dX5_leave_8 rfl ?_
    refine ev_getf (pc := 9) dX5_leave_9 f_X5_30 h.1 rfl ?_
    refine ev_callS (pc := 12) (As := [.int (nI mem)]) dX5_leave_12 cs_X5_92 rfl rfl ⟨by show 19 + 1 ≤ w; omega, show ev_Ca _ _ (w - 20) _ _ _ _ _ _ from k_bitCount (by omega) hm⟩ rfl rfl (fun r h1 hp => ?_)
    obtain ⟨rfl, hH⟩ := hp
    rw [hH]
    clear hH h1
    refine ev_iconst (pc := 15) (v := nI 1) dX5_leave_15 (by decide) ?_
    refine ev_icmp_neN (pc := 16) (tgt := 21) dX5_leave_16 (by decide) (by omega) (by omega) (fun c2 => ?_) (fun c2 => ?_)
    · have e : sp_leave mem s = (0, mem - 2 ^ s) := if_pos ⟨by omega, c2⟩
      rw [e]
      refine ev_aload_n (pc := 21) dX5_leave_21 rfl ?_
      refine ev_aload_n (pc := 22) dX5_leave_22 rfl ?_
      refine ev_getf (pc := 23) dX5_leave_23 f_X5_30 h.1 rfl ?_
      refine ev_iconst (pc := 26) (v := nI 1) dX5_leave_26 (by decide) ?_
      refine ev_iload_n (pc := 27) dX5_leave_27 rfl ?_
      refine ev_ishl (pc := 28) dX5_leave_28 ?_
      refine ev_iconst (pc := 29) (v := -1) dX5_leave_29 (by decide) ?_
      refine ev_ixor (pc := 30) dX5_leave_30 ?_
      refine ev_iand (pc := 31) dX5_leave_31 ?_
      refine ev_ti (y := nI (mem - 2 ^ s)) (by rw [bt_clr mem hm s hs, show mem / 2 ^ s % 2 = 1 by omega, Nat.mul_one]) ?_
      refine ev_putf (pc := 32) dX5_leave_32 p_X5_30 h.1 rfl rfl rfl ?_
      obtain ⟨hS2, hF2⟩ := sh_putM (m := mem - 2 ^ s) h
      refine ev_iconst (pc := 35) (v := nI 0) dX5_leave_35 (by decide) ?_
      exact ev_iret (pc := 36) dX5_leave_36 rfl rfl ⟨rfl, hS2, hF2⟩
    · exact no (fun q => q.2 c2)
theorem k_join (hd : 2 ≤ dd) (hw : 21 ≤ w) (h : SH H S sa P fu fd mem) (hD : SD sa) (hm : mem < 256) (hs : s < 8) : ev_Ca G dd w m_X5_join [.ref S, .int (nI s)] H 0 0 (ev_ok (shq H S sa (sp_join mem s).1 P (if mem / 2 ^ s % 2 = 1 then fu else va_up fu s 1) (if mem / 2 ^ s % 2 = 1 then fd else va_up fd s 1) (sp_join mem s).2)) := by
  obtain ⟨dd, rfl⟩ : ∃ e, dd = e + 1 := ⟨dd - 1, by omega⟩
  refine ⟨by decide +kernel, rfl, ?_⟩
  have hb : mem / 2 ^ s % 2 < 2 := Nat.mod_lt _ (by decide)
  refine ev_aload_n (pc := 0) dX5_join_0 rfl ?_
  refine ev_iload_n (pc := 1) dX5_join_1 rfl ?_
  refine ev_callV (pc := 2) (As := [.int (nI s)]) dX5_join_2 cv_X5_88 rfl rfl h.1 rfl ⟨by show 19 + 2 ≤ w; omega, show ev_Ca _ _ (w - 21) _ _ _ _ _ _ from k_isMember (by omega) h hm hs⟩ rfl rfl (fun r h1 hp => ?_)
  obtain ⟨rfl, hH⟩ := hp
  rw [hH]
  clear hH h1
  refine ev_if_eqN (pc := 5) (tgt := 10) dX5_join_5 (by decide) (by omega) (fun c1 => ?_) (fun c1 => ?_)
  · have e : sp_join mem s = (0, mem + 2 ^ s) := if_neg (by omega)
    rw [e, if_neg (by omega), if_neg (by omega)]
    refine ev_aload_n (pc := 10) dX5_join_10 rfl ?_
    refine ev_aload_n (pc := 11) dX5_join_11 rfl ?_
    refine ev_getf (pc := 12) dX5_join_12 f_X5_30 h.1 rfl ?_
    refine ev_iconst (pc := 15) (v := nI 1) dX5_join_15 (by decide) ?_
    refine ev_iload_n (pc := 16) dX5_join_16 rfl ?_
    refine ev_ishl (pc := 17) dX5_join_17 ?_
    refine ev_ior (pc := 18) dX5_join_18 ?_
    refine ev_ti (y := nI (mem + 2 ^ s)) (by rw [bt_set mem hm s hs, c1, Nat.sub_zero, Nat.mul_one]) ?_
    refine ev_putf (pc := 19) dX5_join_19 p_X5_30 h.1 rfl rfl rfl ?_
    obtain ⟨hS2, hF2⟩ := sh_putM (m := mem + 2 ^ s) h
    refine ev_aload_n (pc := 22) dX5_join_22 rfl ?_
    refine ev_getf (pc := 23) dX5_join_23 f_X5_14 hS2.1 rfl ?_
    refine ev_iload_n (pc := 26) dX5_join_26 rfl ?_
    refine ev_lconst (pc := 27) (v := lN 1) dX5_join_27 (by decide) ?_
    refine ev_last (pc := 28) dX5_join_28 hS2.2.2.2.1 (vp_in_nI hs (by decide)) ?_
    obtain ⟨hS3, hF3⟩ := sh_putU (j := s) (x := 1) hS2 hD hs
    refine ev_aload_n (pc := 29) dX5_join_29 rfl ?_
    refine ev_getf (pc := 30) dX5_join_30 f_X5_18 hS3.1 rfl ?_
    refine ev_iload_n (pc := 33) dX5_join_33 rfl ?_
    refine ev_lconst (pc := 34) (v := lN 1) dX5_join_34 (by decide) ?_
    refine ev_last (pc := 35) dX5_join_35 hS3.2.2.2.2 (vp_in_nI hs (by decide)) ?_
    obtain ⟨hS4, hF4⟩ := sh_putD (j := s) (x := 1) hS3 hD hs
    refine ev_iconst (pc := 36) (v := nI 0) dX5_join_36 (by decide) ?_
    exact ev_iret (pc := 37) dX5_join_37 rfl rfl ⟨rfl, hS4, (hF2.tr hF3).tr hF4⟩
  · have e : sp_join mem s = (2, mem) := if_pos (by omega)
    rw [e, if_pos (by omega), if_pos (by omega)]
    refine ev_iconst (pc := 8) (v := nI 2) dX5_join_8 (by decide) ?_
    exact ev_iret (pc := 9) dX5_join_9 rfl rfl ⟨rfl, h, SF.rf⟩
/-- Arrays.fill of a row of longs -/
theorem l_fillL {C : ev_L} {K : ev_K} {c z a N v : Nat} (hN : N < 2 ^ 31) (hK : ∀ f : Nat → Nat, (∀ j, j < N → f j = v) → K (.inl none) (ev_up H a (.inl (.long, N, .inr (.inl (fun j => lN (f j))))))) : ∀ k i (f : Nat → Nat), i + k = N → (∀ j, j < i → f j = v) → ev_J G C w m_J7_fill_d0a16 K (6, ev_lf [(0, .ref a), (1, .long (lN v)), (3, .int (nI i)), (4, .int (nI N))], [], ev_up H a (.inl (.long, N, .inr (.inl (fun j => lN (f j))))), c, z)
  | 0, i, f, e, hf => by
    refine ev_iload_n (pc := 6) dJ7_fill_d0a16_6 rfl ?_
    refine ev_iload (pc := 7) dJ7_fill_d0a16_7 rfl ?_
    refine ev_icmp_geN (pc := 9) (tgt := 22) dJ7_fill_d0a16_9 (by decide) (by omega) (by omega) (fun c1 => ?_) (fun c1 => ?_)
    · exact ev_vret (pc := 22) dJ7_fill_d0a16_22 rfl (hK f (fun j hj => hf j (by omega)))
    · omega
  | k + 1, i, f, e, hf => by
    refine ev_iload_n (pc := 6) dJ7_fill_d0a16_6 rfl ?_
    refine ev_iload (pc := 7) dJ7_fill_d0a16_7 rfl ?_
    refine ev_icmp_geN (pc := 9) (tgt := 22) dJ7_fill_d0a16_9 (by decide) (by omega) (by omega) (fun c1 => ?_) (fun c1 => ?_)
    · omega
    · refine ev_aload_n (pc := 12) dJ7_fill_d0a16_12 rfl ?_
      refine ev_iload_n (pc := 13) dJ7_fill_d0a16_13 rfl ?_
      refine ev_lload_n (pc := 14) dJ7_fill_d0a16_14 rfl ?_
      refine ev_last (pc := 15) dJ7_fill_d0a16_15 ev_eqq (vp_in_nI (by omega) hN) ?_
      refine ev_th (h2 := ev_up H a (.inl (.long, N, .inr (.inl (fun j => lN (va_up f i v j)))))) (by rw [sh_upl _ _ _ (by omega)]; funext x; unfold ev_up; by_cases e : x = a <;> simp [e]) ?_
      refine ev_iincN (pc := 16) dJ7_fill_d0a16_16 rfl rfl ?_
      refine ev_goto (pc := 19) (tgt := 6) dJ7_fill_d0a16_19 (by decide) ?_
      refine ev_vs [(0, .ref a), (1, .long (lN v)), (3, .int (nI (i + 1))), (4, .int (nI N))] ⟨rfl, rfl, rfl, rfl, trivial⟩ ?_
      refine l_fillL hN hK k (i + 1) _ (by omega) (fun j hj => ?_)
      unfold va_up
      split
      · rfl
      · exact hf j (by omega)
theorem ev_upid {a : Nat} {x : ev_C} (h : H a = some x) : ev_up H a x = H := by
  funext q
  unfold ev_up
  by_cases e : q = a
  · rw [if_pos e, e, h]
  · rw [if_neg e]
theorem k_fillL {a N v : Nat} {f : Nat → Nat} (hd : 1 ≤ dd) (hN : N < 2 ^ 31) (ha : H a = some (.inl (.long, N, .inr (.inl (fun j => lN (f j)))))) : ev_Ca G dd w m_J7_fill_d0a16 [.ref a, .long (lN v)] H 0 0 (ev_ok (fun r h1 => r = none ∧ ∃ f2 : Nat → Nat, (∀ j, j < N → f2 j = v) ∧ h1 = ev_up H a (.inl (.long, N, .inr (.inl (fun j => lN (f2 j))))))) := by
  obtain ⟨dd, rfl⟩ : ∃ e, dd = e + 1 := ⟨dd - 1, by omega⟩
  refine ⟨by decide +kernel, rfl, ?_⟩
  refine ev_iconst (pc := 0) (v := nI 0) dJ7_fill_d0a16_0 (by decide) ?_
  refine ev_istore_n (pc := 1) dJ7_fill_d0a16_1 rfl ?_
  refine ev_aload_n (pc := 2) dJ7_fill_d0a16_2 rfl ?_
  refine ev_alen (pc := 3) dJ7_fill_d0a16_3 ha ?_
  refine ev_istore (pc := 4) dJ7_fill_d0a16_4 rfl ?_
  refine ev_vs [(0, .ref a), (1, .long (lN v)), (3, .int (nI 0)), (4, .int (nI N))] ⟨rfl, rfl, rfl, rfl, trivial⟩ ?_
  refine ev_th (ev_upid ha).symm ?_
  exact l_fillL hN (fun f2 hf2 => ⟨rfl, f2, hf2, rfl⟩) N 0 f (by omega) (fun j hj => absurd hj (Nat.not_lt_zero j))
/-- factors that are all 1 -/
theorem k_resetFactors (hd : 2 ≤ dd) (hw : 24 ≤ w) (h : SH H S sa P fu fd mem) (hD : SD sa) : ev_Ca G dd w m_X5_resetFactors [.ref S] H 0 0 (ev_ok (fun r h1 => r = none ∧ ∃ fu2 fd2 : Nat → Nat, (∀ j, j < 8 → fu2 j = 1) ∧ (∀ j, j < 8 → fd2 j = 1) ∧ SH h1 S sa P fu2 fd2 mem ∧ SF S sa H h1)) := by
  obtain ⟨dd, rfl⟩ : ∃ e, dd = e + 1 := ⟨dd - 1, by omega⟩
  refine ⟨by decide +kernel, rfl, ?_⟩
  obtain ⟨a1, a2, a3, a4, a5⟩ := id h
  refine ev_aload_n (pc := 0) dX5_resetFactors_0 rfl ?_
  refine ev_getf (pc := 1) dX5_resetFactors_1 f_X5_14 h.1 rfl ?_
  refine ev_lconst (pc := 4) (v := lN 1) dX5_resetFactors_4 (by decide) ?_
  refine ev_callS (pc := 5) (As := [.ref (sa 4), .long (lN 1)]) dX5_resetFactors_5 cs_X5_44 rfl rfl ⟨by show 19 + 5 ≤ w; omega, show ev_Ca _ _ (w - 24) _ _ _ _ _ _ from k_fillL (by omega) (by decide) a4⟩ rfl rfl (fun r h1 hp => ?_)
  obtain ⟨rfl, f2, hf2, rfl⟩ := hp
  have h2 : SH (ev_up H (sa 4) (.inl (.long, 8, .inr (.inl (fun j => lN (f2 j)))))) S sa P f2 fd mem := ⟨(ev_nee (ne_of a1 a4 (fun q => by cases q)) a1), (ev_nee (ne_of a2 a4 (fun q => by cases q)) a2), fun b hb => (ev_nee (ne_of (a3 b hb) a4 (fun q => by cases q)) (a3 b hb)), ev_eqq, (ev_nee (Ne.symm hD.2.2.2) a5)⟩
  have g2 : SF S sa H (ev_up H (sa 4) (.inl (.long, 8, .inr (.inl (fun j => lN (f2 j)))))) := fun a _ hy => ev_nee (hy 4 (by omega) (by omega)) rfl
  obtain ⟨b1, b2, b3, b4, b5⟩ := id h2
  refine ev_aload_n (pc := 8) dX5_resetFactors_8 rfl ?_
  refine ev_getf (pc := 9) dX5_resetFactors_9 f_X5_18 b1 rfl ?_
  refine ev_lconst (pc := 12) (v := lN 1) dX5_resetFactors_12 (by decide) ?_
  refine ev_callS (pc := 13) (As := [.ref (sa 5), .long (lN 1)]) dX5_resetFactors_13 cs_X5_44 rfl rfl ⟨by show 19 + 5 ≤ w; omega, show ev_Ca _ _ (w - 24) _ _ _ _ _ _ from k_fillL (by omega) (by decide) b5⟩ rfl rfl (fun r h1 hp => ?_)
  obtain ⟨rfl, f3, hf3, rfl⟩ := hp
  refine ev_vret (pc := 16) dX5_resetFactors_16 rfl ⟨rfl, f2, f3, hf2, hf3, ⟨(ev_nee (ne_of b1 b5 (fun q => by cases q)) b1), (ev_nee (ne_of b2 b5 (fun q => by cases q)) b2), fun b hb => (ev_nee (ne_of (b3 b hb) b5 (fun q => by cases q)) (b3 b hb)), (ev_nee hD.2.2.2 b4), ev_eqq⟩, g2.tr (fun a _ hy => ev_nee (hy 5 (by omega) (by omega)) rfl)⟩
theorem k_putFactor {up dn : Nat} (hd : 2 ≤ dd) (hw : 30 ≤ w) (h : SH H S sa P fu fd mem) (hD : SD sa) (hs : s < 8) (h1 : 0 < up) (h2 : up < 2 ^ 63) (h3 : 0 < dn) (h4 : dn < 2 ^ 63) : ev_Ca G dd w m_X5_putFactor [.ref S, .int (nI s), .long (lN up), .long (lN dn)] H 0 0 (ev_ok (fun r h1 => r = none ∧ SH h1 S sa P (va_up fu s (up / Nat.gcd up dn)) (va_up fd s (dn / Nat.gcd up dn)) mem ∧ SF S sa H h1)) := by
  obtain ⟨dd, rfl⟩ : ∃ e, dd = e + 1 := ⟨dd - 1, by omega⟩
  refine ⟨by decide +kernel, rfl, ?_⟩
  have g0 : 0 < Nat.gcd up dn := Nat.gcd_pos_of_pos_left _ h1
  have g1 : Nat.gcd up dn ≤ up := Nat.gcd_le_left _ h1
  refine ev_lload_n (pc := 0) dX5_putFactor_0 rfl ?_
  refine ev_lload (pc := 1) dX5_putFactor_1 rfl ?_
  refine ev_callS (pc := 3) (As := [.long (lN up), .long (lN dn)]) dX5_putFactor_3 cs_X5_113 rfl rfl ⟨by show 19 + 11 ≤ w; omega, show ev_Ca _ _ (w - 30) _ _ _ _ _ _ from k_commonDivisor (by omega) h2 h4⟩ rfl rfl (fun r h1 hp => ?_)
  obtain ⟨rfl, hH⟩ := hp
  rw [hH]
  clear hH
  refine ev_lstore (pc := 6) dX5_putFactor_6 rfl ?_
  refine ev_lload (pc := 8) dX5_putFactor_8 rfl ?_
  refine ev_lconst (pc := 10) (v := lN 0) dX5_putFactor_10 (by decide) ?_
  refine ev_lc_le (pc := 11) (tgt := 36) dX5_putFactor_11 dX5_putFactor_12 (by decide) (by omega) (by omega) (fun c1 => ?_) (fun c1 => ?_)
  · omega
  · refine ev_aload_n (pc := 15) dX5_putFactor_15 rfl ?_
    refine ev_getf (pc := 16) dX5_putFactor_16 f_X5_14 h.1 rfl ?_
    refine ev_iload_n (pc := 19) dX5_putFactor_19 rfl ?_
    refine ev_lload_n (pc := 20) dX5_putFactor_20 rfl ?_
    refine ev_lload (pc := 21) dX5_putFactor_21 rfl ?_
    refine ev_ldivN (pc := 23) dX5_putFactor_23 (by omega) (by omega) (by omega) ?_
    refine ev_last (pc := 24) dX5_putFactor_24 h.2.2.2.1 (vp_in_nI hs (by decide)) ?_
    obtain ⟨hS3, hF3⟩ := sh_putU (j := s) (x := up / Nat.gcd up dn) h hD hs
    refine ev_aload_n (pc := 25) dX5_putFactor_25 rfl ?_
    refine ev_getf (pc := 26) dX5_putFactor_26 f_X5_18 hS3.1 rfl ?_
    refine ev_iload_n (pc := 29) dX5_putFactor_29 rfl ?_
    refine ev_lload (pc := 30) dX5_putFactor_30 rfl ?_
    refine ev_lload (pc := 32) dX5_putFactor_32 rfl ?_
    refine ev_ldivN (pc := 34) dX5_putFactor_34 (by omega) (by omega) (by omega) ?_
    refine ev_last (pc := 35) dX5_putFactor_35 hS3.2.2.2.2 (vp_in_nI hs (by decide)) ?_
    obtain ⟨hS4, hF4⟩ := sh_putD (j := s) (x := dn / Nat.gcd up dn) hS3 hD hs
    exact ev_vret (pc := 36) dX5_putFactor_36 rfl ⟨rfl, hS4, hF3.tr hF4⟩
/-- the plain worth of some shares -/
def sw (P : Nat → Nat → Nat) (b : Nat) : Nat → Nat
  | 0 => 0
  | k + 1 => sw P b k + (if b / 2 ^ k % 2 = 1 then pw P k else 0)
theorem sw_b {P : Nat → Nat → Nat} (hP : P_ok P) (b : Nat) : ∀ k, k ≤ 8 → sw P b k ≤ k * 10000000000000000
  | 0, _ => by show 0 ≤ _; omega
  | k + 1, hk => by
    have h1 := sw_b hP b k (by omega)
    have h2 := pw_b hP (show k < 8 by omega)
    obtain ⟨h3, h4⟩ := h2
    show sw P b k + (if b / 2 ^ k % 2 = 1 then pw P k else 0) ≤ _
    rw [Nat.add_mul, Nat.one_mul]
    refine Nat.add_le_add h1 ?_
    split
    · exact Nat.le_of_lt h4
    · exact Nat.zero_le _
theorem l_pwo {K : ev_K} {c z b : Nat} (hd : 1 ≤ dd) (hw : 21 ≤ w) (h : SH H S sa P fu fd mem) (hP : P_ok P) (hb : b < 256) (hK : K (.inl (some (.long (lN (sw P b 8))))) H) : ∀ k s, s + k = 8 → ev_J G (ev_cc G dd w) w m_X5_plainWorthOf K (5, ev_lf [(0, .ref S), (1, .int (nI b)), (2, .long (lN (sw P b s))), (4, .int (nI s))], [], H, c, z)
  | 0, s, e => by
    refine ev_iload (pc := 5) dX5_plainWorthOf_5 rfl ?_
    refine ev_bipush (pc := 7) (v := nI 8) dX5_plainWorthOf_7 (by decide) ?_
    refine ev_icmp_geN (pc := 9) (tgt := 37) dX5_plainWorthOf_9 (by decide) (by omega) (by omega) (fun c1 => ?_) (fun c1 => ?_)
    · have : s = 8 := by omega
      subst this
      refine ev_lload_n (pc := 37) dX5_plainWorthOf_37 rfl ?_
      exact ev_lret (pc := 38) dX5_plainWorthOf_38 rfl hK
    · omega
  | k + 1, s, e => by
    have hle : b / 2 ^ s ≤ b := Nat.div_le_self _ _
    have hsw := sw_b hP b s (by omega)
    have hpw := pw_b hP (show s < 8 by omega)
    refine ev_iload (pc := 5) dX5_plainWorthOf_5 rfl ?_
    refine ev_bipush (pc := 7) (v := nI 8) dX5_plainWorthOf_7 (by decide) ?_
    refine ev_icmp_geN (pc := 9) (tgt := 37) dX5_plainWorthOf_9 (by decide) (by omega) (by omega) (fun c1 => ?_) (fun c1 => ?_)
    · omega
    · refine ev_iload_n (pc := 12) dX5_plainWorthOf_12 rfl ?_
      refine ev_iload (pc := 13) dX5_plainWorthOf_13 rfl ?_
      refine ev_ishr (pc := 15) dX5_plainWorthOf_15 (ev_ti (mi_shr (by omega) (by omega)) ?_)
      refine ev_iconst (pc := 16) (v := nI 1) dX5_plainWorthOf_16 (by decide) ?_
      refine ev_iand (pc := 17) dX5_plainWorthOf_17 (ev_ti (mi_and1 (by omega)) ?_)
      refine ev_iconst (pc := 18) (v := nI 1) dX5_plainWorthOf_18 (by decide) ?_
      refine ev_icmp_neN (pc := 19) (tgt := 31) dX5_plainWorthOf_19 (by decide) (by omega) (by omega) (fun c2 => ?_) (fun c2 => ?_)
      · refine ev_iincN (pc := 31) dX5_plainWorthOf_31 rfl rfl ?_
        refine ev_goto (pc := 34) (tgt := 5) dX5_plainWorthOf_34 (by decide) ?_
        have es : sw P b (s + 1) = sw P b s := by show sw P b s + (if _ then _ else _) = _; rw [if_neg c2, Nat.add_zero]
        refine ev_vs [(0, .ref S), (1, .int (nI b)), (2, .long (lN (sw P b (s + 1)))), (4, .int (nI (s + 1)))] ⟨rfl, rfl, by rw [es]; rfl, rfl, trivial⟩ ?_
        exact l_pwo hd hw h hP hb hK k (s + 1) (by omega)
      · refine ev_lload_n (pc := 22) dX5_plainWorthOf_22 rfl ?_
        refine ev_aload_n (pc := 23) dX5_plainWorthOf_23 rfl ?_
        refine ev_iload (pc := 24) dX5_plainWorthOf_24 rfl ?_
        refine ev_callV (pc := 26) (As := [.int (nI s)]) dX5_plainWorthOf_26 cv_X5_106 rfl rfl h.1 rfl ⟨by show 19 + 2 ≤ w; omega, show ev_Ca _ _ (w - 21) _ _ _ _ _ _ from k_plainWorth (by omega) h hP (by omega)⟩ rfl rfl (fun r h1 hp => ?_)
        obtain ⟨rfl, hH⟩ := hp
        rw [hH]
        clear hH h1
        refine ev_laddN (pc := 29) dX5_plainWorthOf_29 ?_
        refine ev_lstore_n (pc := 30) dX5_plainWorthOf_30 rfl ?_
        refine ev_iincN (pc := 31) dX5_plainWorthOf_31 rfl rfl ?_
        refine ev_goto (pc := 34) (tgt := 5) dX5_plainWorthOf_34 (by decide) ?_
        have es : sw P b (s + 1) = sw P b s + pw P s := by show sw P b s + (if _ then _ else _) = _; rw [if_pos c2]
        refine ev_vs [(0, .ref S), (1, .int (nI b)), (2, .long (lN (sw P b (s + 1)))), (4, .int (nI (s + 1)))] ⟨rfl, rfl, by rw [es]; rfl, rfl, trivial⟩ ?_
        exact l_pwo hd hw h hP hb hK k (s + 1) (by omega)
theorem k_plainWorthOf {b : Nat} (hd : 2 ≤ dd) (hw : 21 ≤ w) (h : SH H S sa P fu fd mem) (hP : P_ok P) (hb : b < 256) : ev_Ca G dd w m_X5_plainWorthOf [.ref S, .int (nI b)] H 0 0 (ev_ok (fun r h1 => r = some (.long (lN (sw P b 8))) ∧ h1 = H)) := by
  obtain ⟨dd, rfl⟩ : ∃ e, dd = e + 1 := ⟨dd - 1, by omega⟩
  refine ⟨by decide +kernel, rfl, ?_⟩
  refine ev_lconst (pc := 0) (v := lN 0) dX5_plainWorthOf_0 (by decide) ?_
  refine ev_lstore_n (pc := 1) dX5_plainWorthOf_1 rfl ?_
  refine ev_iconst (pc := 2) (v := nI 0) dX5_plainWorthOf_2 (by decide) ?_
  refine ev_istore (pc := 3) dX5_plainWorthOf_3 rfl ?_
  refine ev_vs [(0, .ref S), (1, .int (nI b)), (2, .long (lN (sw P b 0))), (4, .int (nI 0))] ⟨rfl, rfl, rfl, rfl, trivial⟩ ?_
  exact l_pwo (by omega) hw h hP hb ⟨rfl, rfl⟩ 8 0 (by omega)
end SHM3
