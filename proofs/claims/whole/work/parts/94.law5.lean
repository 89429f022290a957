/-! THE LAW: its loop -/
section LAW5
variable {G : ev_G} {C : ev_L} {w dd : Nat} {K : ev_K} {c z b L i o n : Nat} {xs : Nat → Int32} {pp rr p2 : ev_H} {g : Nat → Int64} {bp : Nat → Nat} {lay : Nat → Nat × Nat} {sa sb ga : Nat → Nat} {tc : Nat} {A : Nat → Nat}
theorem and15 (x : Int32) : ∃ m, m < 16 ∧ x &&& nI 15 = nI m := by
  refine ⟨(x.toBitVec &&& 15#32).toNat, ?_, ?_⟩
  · rw [BitVec.toNat_and]
    exact Nat.lt_of_le_of_lt Nat.and_le_right (by decide)
  · apply Int32.toBitVec_inj.mp
    rw [Int32.toBitVec_and]
    show x.toBitVec &&& 15#32 = BitVec.ofNat 32 _
    rw [BitVec.ofNat_toNat, BitVec.setWidth_eq]
theorem lt_6 {i L : Nat} (hL : L ≤ 3072) (hi : i ≤ 4096) : nI L - nI 6 < nI i ↔ L < i + 6 := by
  rw [Int32.lt_iff_toInt_lt, Int32.toInt_sub, nI_toInt (show i < 2 ^ 31 by omega), nI_toInt (show L < 2 ^ 31 by omega), nI_toInt (show 6 < 2 ^ 31 by decide), Int.bmod_eq_of_le (by omega) (by omega)]
  omega
theorem law_loop (hd : 10 ≤ dd) (hw : 400 ≤ w) (hC : LC G C dd w) (hX : LX C bp o) (hG : G_ok G) (hD : PD bp sa sb ga) (hb : G.1 b = some (L, xs)) (hL : L ≤ 3072) (hK : ∀ h, K (.inl (some (.int (nI 1)))) h) : ∀ n i V pp rr g c z, i ≤ L → L ≤ i + 6 * n + 5 → n ≤ c ∧ 6 * n ≤ z → ev_hs V [(0, .ref b), (1, .ref (bp 0)), (2, .ref (A 17)), (3, .ref o), (4, .int (nI i))] → JI pp rr bp lay sa sb ga tc A → ld pp rr o g → ev_J G C w m_L_law K (23, V, [], lh pp rr o g, c, z) := by
  intro n
  induction n with
  | zero =>
    intro i V pp rr g c z hi h6 hc hV hJ d
    refine ev_vs _ hV ?_
    refine ev_iload (pc := 23) dL_law_23 rfl ?_
    refine ev_aload_n (pc := 25) dL_law_25 rfl ?_
    refine ev_ralen (pc := 26) dL_law_26 hb ?_
    refine ev_bipush (pc := 27) (v := nI 6) dL_law_27 (by decide) ?_
    refine ev_isub (pc := 29) dL_law_29 ?_
    refine ev_icmp_gt (pc := 30) (tgt := 680) dL_law_30 (by decide) (fun q => ?_) (fun q => absurd ((lt_6 hL (by omega)).mpr (by omega)) q)
    refine ev_iconst (pc := 680) (v := nI 1) dL_law_680 (by decide) ?_
    exact ev_iret (pc := 681) dL_law_681 rfl rfl (hK _)
  | succ n ih =>
    intro i V pp rr g c z hi h6 hc hV hJ d
    refine ev_vs _ hV ?_
    refine ev_iload (pc := 23) dL_law_23 rfl ?_
    refine ev_aload_n (pc := 25) dL_law_25 rfl ?_
    refine ev_ralen (pc := 26) dL_law_26 hb ?_
    refine ev_bipush (pc := 27) (v := nI 6) dL_law_27 (by decide) ?_
    refine ev_isub (pc := 29) dL_law_29 ?_
    refine ev_icmp_gt (pc := 30) (tgt := 680) dL_law_30 (by decide) (fun q => ?_) (fun q => ?_)
    · refine ev_iconst (pc := 680) (v := nI 1) dL_law_680 (by decide) ?_
      exact ev_iret (pc := 681) dL_law_681 rfl rfl (hK _)
    · have hi6 : i + 6 ≤ L := by
        rw [lt_6 hL (by omega)] at q
        omega
      have hN : LN G C w K b i o bp lay sa sb ga tc A n := by
        intro V2 pp2 rr2 g2 c2 z2 hc2 hV2 hJ2 d2
        refine ev_vs _ hV2 ?_
        refine ev_iinc (pc := 674) dL_law_674 rfl rfl ?_
        refine ev_goto (pc := 677) (tgt := 23) dL_law_677 (by decide) ?_
        exact ih (i + 6) _ pp2 rr2 g2 c2 z2 hi6 (by omega) hc2 ⟨rfl, rfl, rfl, rfl, congrArg (fun t => some (Value.int t)) (nI_add i 6), trivial⟩ hJ2 d2
      refine ev_aload_n (pc := 33) dL_law_33 rfl ?_
      refine ev_iload (pc := 34) dL_law_34 rfl ?_
      refine ev_rs (pc := 36) dL_law_36 hb (by omega) (by omega) ?_
      refine ev_bipush (pc := 37) (v := nI 15) dL_law_37 (by decide) ?_
      refine ev_iand (pc := 39) dL_law_39 ?_
      obtain ⟨m, hm, em⟩ := and15 (xs i)
      refine ev_ti em ?_
      match m, hm with
      | 0, _ =>
        refine ev_tableIn (pc := 40) (off := 80) (tgt := 120) dL_law_40 (by decide) (by decide) rfl (by decide) ?_
        exact c_set hd hw hC hD hb hi6 hL hJ d hc hN hX hG
      | 1, _ =>
        refine ev_tableIn (pc := 40) (off := 160) (tgt := 200) dL_law_40 (by decide) (by decide) rfl (by decide) ?_
        exact c_get hd hw hC hD hb hi6 hL hJ d hc hN hX hG
      | 2, _ =>
        refine ev_tableIn (pc := 40) (off := 228) (tgt := 268) dL_law_40 (by decide) (by decide) rfl (by decide) ?_
        exact c_base hd hw hC hD hb hi6 hL hJ d hc hN hX hG
      | 3, _ =>
        refine ev_tableIn (pc := 40) (off := 276) (tgt := 316) dL_law_40 (by decide) (by decide) rfl (by decide) ?_
        exact c_members hd hw hC hD hb hi6 hL hJ d hc hN
      | 4, _ =>
        refine ev_tableIn (pc := 40) (off := 289) (tgt := 329) dL_law_40 (by decide) (by decide) rfl (by decide) ?_
        exact c_event hd hw hC hD hb hi6 hL hJ d hc hN
      | 5, _ =>
        refine ev_tableIn (pc := 40) (off := 362) (tgt := 402) dL_law_40 (by decide) (by decide) rfl (by decide) ?_
        exact c_close hd hw hC hD hb hi6 hL hJ d hc hN hX hG
      | 6, _ =>
        refine ev_tableIn (pc := 40) (off := 406) (tgt := 446) dL_law_40 (by decide) (by decide) rfl (by decide) ?_
        exact c_outcome hd hw hC hD hb hi6 hL hJ d hc hN
      | 7, _ =>
        refine ev_tableIn (pc := 40) (off := 431) (tgt := 471) dL_law_40 (by decide) (by decide) rfl (by decide) ?_
        exact c_noted hd hw hC hD hb hi6 hL hJ d hc hN
      | 8, _ =>
        refine ev_tableIn (pc := 40) (off := 456) (tgt := 496) dL_law_40 (by decide) (by decide) rfl (by decide) ?_
        exact c_days hd hw hC hD hb hi6 hL hJ d hc hN
      | 9, _ =>
        refine ev_tableIn (pc := 40) (off := 469) (tgt := 509) dL_law_40 (by decide) (by decide) rfl (by decide) ?_
        exact c_published hd hw hC hD hb hi6 hL hJ d hc hN
      | 10, _ =>
        refine ev_tableIn (pc := 40) (off := 495) (tgt := 535) dL_law_40 (by decide) (by decide) rfl (by decide) ?_
        exact c_level hd hw hC hD hb hi6 hL hJ d hc hN
      | 11, _ =>
        refine ev_tableIn (pc := 40) (off := 509) (tgt := 549) dL_law_40 (by decide) (by decide) rfl (by decide) ?_
        exact c_weight hd hw hC hD hb hi6 hL hJ d hc hN
      | 12, _ =>
        refine ev_tableIn (pc := 40) (off := 534) (tgt := 574) dL_law_40 (by decide) (by decide) rfl (by decide) ?_
        exact c_print hd hw hC hD hb hi6 hL hJ d hc hN
      | 13, _ =>
        refine ev_tableIn (pc := 40) (off := 571) (tgt := 611) dL_law_40 (by decide) (by decide) rfl (by decide) ?_
        exact c_character hd hw hC hD hb hi6 hL hJ d hc hN
      | 14, _ =>
        refine ev_tableIn (pc := 40) (off := 596) (tgt := 636) dL_law_40 (by decide) (by decide) rfl (by decide) ?_
        exact c_places hd hw hC hD hb hi6 hL hJ d hc hN
      | 15, _ =>
        refine ev_tableIn (pc := 40) (off := 621) (tgt := 661) dL_law_40 (by decide) (by decide) rfl (by decide) ?_
        exact c_check hd hw hC hD hb hi6 hL hJ d hc hN
      | m + 16, h => exact absurd h (by omega)
end LAW5
