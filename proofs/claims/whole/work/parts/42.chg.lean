/-! Shares: change -/
noncomputable def ch (kd s : Nat) (a b c : Int32) (P : Nat → Nat → Nat) (fu fd : Nat → Nat) (mem : Nat) : Nat × (Nat → Nat → Nat) × (Nat → Nat) × (Nat → Nat) × Nat :=
  match kd with
  | 0 => ((sp_split P s a b).1, (sp_split P s a b).2, fu, fd, mem)
  | 1 => ((sp_rights P s a b c).1, (sp_rights P s a b c).2, fu, fd, mem)
  | 2 => ((sp_div P s a).1, (sp_div P s a).2, fu, fd, mem)
  | 3 => ((sp_div P s a).1, (sp_div P s a).2, fu, fd, mem)
  | 4 => ((sp_leave mem s).1, P, fu, fd, (sp_leave mem s).2)
  | 5 => ((sp_join mem s).1, P, (if mem / 2 ^ s % 2 = 1 then fu else va_up fu s 1), (if mem / 2 ^ s % 2 = 1 then fd else va_up fd s 1), (sp_join mem s).2)
  | 6 => ((sp_rep P s 1 a).1, (sp_rep P s 1 a).2, fu, fd, mem)
  | 7 => ((sp_rep P s 2 a).1, (sp_rep P s 2 a).2, fu, fd, mem)
  | _ => @ite _ (cap_c mem a) (Classical.propDecidable _) (0, P, cap_u P mem a, cap_d P mem a, mem) (2, P, fu, fd, mem)
section CHG
variable {G : ev_G} {w : Nat} {H : ev_H} {D S : Nat} {i j k dd s : Nat} {sa : Nat → Nat} {P : Nat → Nat → Nat} {fu fd : Nat → Nat} {mem : Nat}
theorem k_change {kd : Nat} {a b c : Int32} (hd : 5 ≤ dd) (hw : 112 ≤ w) (hG : G_ok G) (h : SH H S sa P fu fd mem) (hP : P_ok P) (hD : SD sa) (hm : mem < 256) (hs : s < 8) (hk : kd < 9) : ev_Ca G dd w m_X5_change [.ref S, .int (nI kd), .int (nI s), .int a, .int b, .int c] H 0 0 (ev_ok (chq H S sa (ch kd s a b c P fu fd mem).1 (ch kd s a b c P fu fd mem).2.1 (ch kd s a b c P fu fd mem).2.2.1 (ch kd s a b c P fu fd mem).2.2.2.1 (ch kd s a b c P fu fd mem).2.2.2.2)) := by
  obtain ⟨dd, rfl⟩ : ∃ e, dd = e + 1 := ⟨dd - 1, by omega⟩
  refine ⟨by decide +kernel, rfl, ?_⟩
  refine ev_iload_n (pc := 0) dX5_change_0 rfl ?_
  rcases (show kd = 0 ∨ kd = 1 ∨ kd = 2 ∨ kd = 3 ∨ kd = 4 ∨ kd = 5 ∨ kd = 6 ∨ kd = 7 ∨ kd = 8 by omega) with rfl | rfl | rfl | rfl | rfl | rfl | rfl | rfl | rfl
  · refine ev_tableIn (pc := 1) (tgt := 48) dX5_change_1 (by decide) (by decide) rfl (by decide) ?_
    refine ev_aload_n (pc := 48) dX5_change_48 rfl ?_
    refine ev_iload_n (pc := 49) dX5_change_49 rfl ?_
    refine ev_iload_n (pc := 50) dX5_change_50 rfl ?_
    refine ev_iload (pc := 51) dX5_change_51 rfl ?_
    refine ev_callV (pc := 53) (As := [.int (nI s), .int a, .int b]) dX5_change_53 cv_X5_47 rfl rfl h.1 rfl ⟨by show 19 + 8 ≤ w; omega, show ev_Ca _ _ (w - 27) _ _ _ _ _ _ from k_split (by omega) (by omega) hG h hP hD hs⟩ rfl rfl (fun r h1 hp => ?_)
    obtain ⟨rfl, h2, hF⟩ := hp
    exact ev_iret (pc := 56) dX5_change_56 rfl rfl ⟨rfl, _, _, fun _ _ => ⟨rfl, rfl⟩, h2, hF⟩
  · refine ev_tableIn (pc := 1) (tgt := 57) dX5_change_1 (by decide) (by decide) rfl (by decide) ?_
    refine ev_aload_n (pc := 57) dX5_change_57 rfl ?_
    refine ev_iload_n (pc := 58) dX5_change_58 rfl ?_
    refine ev_iload_n (pc := 59) dX5_change_59 rfl ?_
    refine ev_iload (pc := 60) dX5_change_60 rfl ?_
    refine ev_iload (pc := 62) dX5_change_62 rfl ?_
    refine ev_callV (pc := 64) (As := [.int (nI s), .int a, .int b, .int c]) dX5_change_64 cv_X5_51 rfl rfl h.1 rfl ⟨by show 19 + 11 ≤ w; omega, show ev_Ca _ _ (w - 30) _ _ _ _ _ _ from k_offerRights (by omega) (by omega) hG h hP hD hs⟩ rfl rfl (fun r h1 hp => ?_)
    obtain ⟨rfl, h2, hF⟩ := hp
    exact ev_iret (pc := 67) dX5_change_67 rfl rfl ⟨rfl, _, _, fun _ _ => ⟨rfl, rfl⟩, h2, hF⟩
  · refine ev_tableIn (pc := 1) (tgt := 68) dX5_change_1 (by decide) (by decide) rfl (by decide) ?_
    refine ev_aload_n (pc := 68) dX5_change_68 rfl ?_
    refine ev_iload_n (pc := 69) dX5_change_69 rfl ?_
    refine ev_iload_n (pc := 70) dX5_change_70 rfl ?_
    refine ev_callV (pc := 71) (As := [.int (nI s), .int a]) dX5_change_71 cv_X5_55 rfl rfl h.1 rfl ⟨by show 19 + 5 ≤ w; omega, show ev_Ca _ _ (w - 24) _ _ _ _ _ _ from k_payDividend (by omega) (by omega) hG h hP hD hs⟩ rfl rfl (fun r h1 hp => ?_)
    obtain ⟨rfl, h2, hF⟩ := hp
    exact ev_iret (pc := 74) dX5_change_74 rfl rfl ⟨rfl, _, _, fun _ _ => ⟨rfl, rfl⟩, h2, hF⟩
  · refine ev_tableIn (pc := 1) (tgt := 68) dX5_change_1 (by decide) (by decide) rfl (by decide) ?_
    refine ev_aload_n (pc := 68) dX5_change_68 rfl ?_
    refine ev_iload_n (pc := 69) dX5_change_69 rfl ?_
    refine ev_iload_n (pc := 70) dX5_change_70 rfl ?_
    refine ev_callV (pc := 71) (As := [.int (nI s), .int a]) dX5_change_71 cv_X5_55 rfl rfl h.1 rfl ⟨by show 19 + 5 ≤ w; omega, show ev_Ca _ _ (w - 24) _ _ _ _ _ _ from k_payDividend (by omega) (by omega) hG h hP hD hs⟩ rfl rfl (fun r h1 hp => ?_)
    obtain ⟨rfl, h2, hF⟩ := hp
    exact ev_iret (pc := 74) dX5_change_74 rfl rfl ⟨rfl, _, _, fun _ _ => ⟨rfl, rfl⟩, h2, hF⟩
  · refine ev_tableIn (pc := 1) (tgt := 75) dX5_change_1 (by decide) (by decide) rfl (by decide) ?_
    refine ev_aload_n (pc := 75) dX5_change_75 rfl ?_
    refine ev_iload_n (pc := 76) dX5_change_76 rfl ?_
    refine ev_callV (pc := 77) (As := [.int (nI s)]) dX5_change_77 cv_X5_59 rfl rfl h.1 rfl ⟨by show 19 + 2 ≤ w; omega, show ev_Ca _ _ (w - 21) _ _ _ _ _ _ from k_leave (by omega) (by omega) h hm hs⟩ rfl rfl (fun r h1 hp => ?_)
    obtain ⟨rfl, h2, hF⟩ := hp
    exact ev_iret (pc := 80) dX5_change_80 rfl rfl ⟨rfl, _, _, fun _ _ => ⟨rfl, rfl⟩, h2, hF⟩
  · refine ev_tableIn (pc := 1) (tgt := 81) dX5_change_1 (by decide) (by decide) rfl (by decide) ?_
    refine ev_aload_n (pc := 81) dX5_change_81 rfl ?_
    refine ev_iload_n (pc := 82) dX5_change_82 rfl ?_
    refine ev_callV (pc := 83) (As := [.int (nI s)]) dX5_change_83 cv_X5_63 rfl rfl h.1 rfl ⟨by show 19 + 2 ≤ w; omega, show ev_Ca _ _ (w - 21) _ _ _ _ _ _ from k_join (by omega) (by omega) h hD hm hs⟩ rfl rfl (fun r h1 hp => ?_)
    obtain ⟨rfl, h2, hF⟩ := hp
    exact ev_iret (pc := 86) dX5_change_86 rfl rfl ⟨rfl, _, _, fun _ _ => ⟨rfl, rfl⟩, h2, hF⟩
  · refine ev_tableIn (pc := 1) (tgt := 87) dX5_change_1 (by decide) (by decide) rfl (by decide) ?_
    refine ev_aload_n (pc := 87) dX5_change_87 rfl ?_
    refine ev_iload_n (pc := 88) dX5_change_88 rfl ?_
    refine ev_iconst (pc := 89) (v := nI 1) dX5_change_89 (by decide) ?_
    refine ev_iload_n (pc := 90) dX5_change_90 rfl ?_
    refine ev_callV (pc := 91) (As := [.int (nI s), .int (nI 1), .int a]) dX5_change_91 cv_X5_66 rfl rfl h.1 rfl ⟨by show 19 + 4 ≤ w; omega, show ev_Ca _ _ (w - 23) _ _ _ _ _ _ from k_replace (by omega) (by omega) hG h hD hs (by omega)⟩ rfl rfl (fun r h1 hp => ?_)
    obtain ⟨rfl, h2, hF⟩ := hp
    exact ev_iret (pc := 94) dX5_change_94 rfl rfl ⟨rfl, _, _, fun _ _ => ⟨rfl, rfl⟩, h2, hF⟩
  · refine ev_tableIn (pc := 1) (tgt := 95) dX5_change_1 (by decide) (by decide) rfl (by decide) ?_
    refine ev_aload_n (pc := 95) dX5_change_95 rfl ?_
    refine ev_iload_n (pc := 96) dX5_change_96 rfl ?_
    refine ev_iconst (pc := 97) (v := nI 2) dX5_change_97 (by decide) ?_
    refine ev_iload_n (pc := 98) dX5_change_98 rfl ?_
    refine ev_callV (pc := 99) (As := [.int (nI s), .int (nI 2), .int a]) dX5_change_99 cv_X5_66 rfl rfl h.1 rfl ⟨by show 19 + 4 ≤ w; omega, show ev_Ca _ _ (w - 23) _ _ _ _ _ _ from k_replace (by omega) (by omega) hG h hD hs (by omega)⟩ rfl rfl (fun r h1 hp => ?_)
    obtain ⟨rfl, h2, hF⟩ := hp
    exact ev_iret (pc := 102) dX5_change_102 rfl rfl ⟨rfl, _, _, fun _ _ => ⟨rfl, rfl⟩, h2, hF⟩
  · refine ev_tableOut (pc := 1) (tgt := 103) dX5_change_1 (by decide) (by decide) ?_
    refine ev_aload_n (pc := 103) dX5_change_103 rfl ?_
    refine ev_iload_n (pc := 104) dX5_change_104 rfl ?_
    refine ev_callV (pc := 105) (As := [.int a]) dX5_change_105 cv_X5_69 rfl rfl h.1 rfl ⟨by show 19 + 9 ≤ w; omega, show ev_Ca _ _ (w - 28) _ _ _ _ _ _ from k_cap (by omega) (by omega) h hP hD hm⟩ rfl rfl (fun r h1 hp => ?_)
    rcases hp with ⟨cc, rfl, fu2, fd2, e1, e2, e3⟩ | ⟨cc, rfl, fu2, fd2, e1, e2, e3⟩
    · have e : ch 8 s a b c P fu fd mem = (0, P, cap_u P mem a, cap_d P mem a, mem) := if_pos cc
      rw [e]
      exact ev_iret (pc := 108) dX5_change_108 rfl rfl ⟨rfl, _, _, e1, e2, e3⟩
    · have e : ch 8 s a b c P fu fd mem = (2, P, fu, fd, mem) := if_neg cc
      rw [e]
      exact ev_iret (pc := 108) dX5_change_108 rfl rfl ⟨rfl, _, _, e1, e2, e3⟩
end CHG
