/-! THE CLAIM OUT OF ONE WALK OF THE LAW'S BODY. Your part is whole_start (and what it stands on); all else here is the same for every law, but numbers. -/
def R_law : String := "IndexBureauLaw"
def lw_P (b : Addr) (xs : List Int32) (args : Array Value) (s : State) : Prop := args = #[.ref b] ∧ s.IntsAt b xs ∧ xs.length ≤ 3072 ∧ (Jvm.Cond.and given_1 narrow_1).before args s = true
def lw_Q (_ : Array Value) (s : State) (o : Outcome) (t : State) : Prop := o = .returned (some (.int 1)) ∧ Framed s o t [] 601024 7293033
def lw_Z (below : List Frame) (a : Array Value) (s : State) : State → Prop := fun t => ∃ o, t.status = .running ∧ Ended t below o ∧ lw_Q a s o t
/-- the law's own end, with 1 on the stack, nothing written that was there before, its room as the claim has it -/
theorem lw_ret {p : Program} {l : Launch} {e : Env} {s : State} {m : MethodId} {below : List Frame} {meth : Method} {c : Code} {b : Nat} (hx : p.tables.exec = Jvm.exec) (hb : c.code = code) (hr : meth.sig.returnType = ret) (hlocks : meth.locks = false) {pc : Nat} {H : Heap} {ls : Array Slot} (hdg : decode code pc = .ok (.ireturn, 1)) : W p l e room_1 s m #[Value.ref b] below meth c H [] 601024 7293033 (lw_Z below #[Value.ref b] s) (F0 m pc ls [.int 1]) := by
  intro T hT X
  obtain ⟨fs, hret, hrun, hended, hW, hframe⟩ := X.leave (v := some (.int 1)) (hlocks := hlocks) (fun h => by rw [hr] at h; cases h)
  have hmeth' : T.vm.method? m = some meth := X.method'
  refine ⟨T.setFrames fs, ?_, .returned (some (.int 1)), hrun, hended, rfl, ⟨_, rfl⟩, hW, hframe⟩
  jvm_step X.here [X.here.top, hx, hb, hdg, hmeth', hr, ret, narrow_b1]
  (try refine ⟨rfl, ?_⟩); (try refine ⟨rfl, ?_⟩)
  first | (intro acts; rw [hret _ acts rfl rfl rfl]) | rw [hret _ _ rfl rfl rfl]
  exact Steps.refl _
/-- what holds at the law's entry: the machine, the code, the tables' words (any of lw_tbl by 'hts w (by decide +kernel)'), the script of L ints xs at the cell b, what the Statement gives of the start (any of its parts by flat_of_before) -/
def lw_At (p : Program) (s : State) (m : MethodId) (meth : Method) (c : Code) (b L : Nat) (xs : Nat → Int32) : Prop :=
  p.tables.exec = Jvm.exec ∧ c.code = code ∧ meth.sig.returnType = ret ∧ c.maxLocals = 7 ∧ s.vm.findClass R_law = some m.cls ∧ (∀ w ∈ lw_tbl, w.before #[Value.ref b] s = true) ∧ va_X b L xs s s.heap ∧ b < s.heap.size ∧ meth.locks = false ∧ (Jvm.Cond.and given_1 narrow_1).before #[Value.ref b] s = true
theorem lw_traces {l : Launch} (h : l.flags = flags0) : l.stackTraces = false := by
  unfold Launch.stackTraces
  rw [h]
  decide +kernel
section START
variable {G : ev_G} {C : ev_L} {w dd : Nat} {K : ev_K} {b L : Nat} {xs : Nat → Int32}
theorem jn_up {h : ev_H} {q : Nat} {c : ev_C} (hq : h q = none) : ev_up h q c = ev_jn (ev_up (fun _ => none) q c) h := by
  funext a
  unfold ev_jn ev_up
  by_cases e : a = q
  · subst e
    rw [hq]
  · rw [if_neg e]
    cases h a with
    | none => rw [if_neg e]
    | some x => rfl
theorem up_lh {pp rr : ev_H} {o : Nat} {g : Nat → Int64} (d : dj pp rr) (ho : ev_jn rr pp o = none) : ev_up (ev_jn rr pp) o (.inl (.long, 1, .inr (.inl g))) = lh pp rr o g ∧ dj pp (oh o g) ∧ dj rr (oh o g) := by
  have ho2 : pp o = none ∧ rr o = none := by
    unfold ev_jn at ho
    cases e : pp o with
    | some x => rw [e] at ho; cases ho
    | none => rw [e] at ho; exact ⟨rfl, ho⟩
  refine ⟨?_, dj_oh (g := g) (fun a x h => ?_), dj_oh (g := g) (fun a x h => ?_)⟩
  · funext a
    unfold lh
    by_cases e : a = o
    · subst e
      rw [jn_o2]
      exact if_pos rfl
    · unfold ev_up ev_jn
      rw [if_neg e, oh_n e]
      dsimp only
      rcases d a with q | q
      · rw [q]; cases rr a <;> rfl
      · rw [q]; cases pp a <;> rfl
  · by_cases e : a = o
    · rw [e]; exact ho2.1
    · rw [oh_n e] at h; cases h
  · by_cases e : a = o
    · rw [e]; exact ho2.2
    · rw [oh_n e] at h; cases h
theorem law_start (hd : 10 ≤ dd) (hw : 400 ≤ w) (hC : LC G C dd w) (hX : ∀ bp o, LX C bp o) (hG : G_ok G) (hb : G.1 b = some (L, xs)) (hL : L ≤ 3072) (hK : ∀ h, K (.inl (some (.int (nI 1)))) h) : ev_J G C w m_L_law K (0, ev_lf (lv_args 0 [.ref b]), [], fun _ => none, 603, 14156) := by
  refine ev_new (M := m_L_law) (N := 14) (pc := 0) (c := 602) (z := 14142) dL_law_0 n_L_8 (fun B hB => ?_)
  refine ev_dup (pc := 3) dL_law_3 rfl ?_
  refine ev_callI (pc := 4) (As := []) (c1 := 71) (z1 := 2607) dL_law_4 ci_L_31 rfl rfl (hC _ _ _ _ _ _ ⟨by show 19 + 1 ≤ w; omega, show ev_Ca _ _ (w - 20) _ _ _ _ _ _ from k_binit (by omega) (by omega) ev_eqq⟩) rfl rfl (fun r pp hp => ?_)
  obtain ⟨rfl, bp, lay, sa, sb, ga, tc, P, fu, fd, val, R, lv, f, hbp, hPF, hPD, hP1, hf1, h9, h10, -⟩ := hp
  subst hbp
  refine ev_astore_n (pc := 7) dL_law_7 rfl ?_
  refine ev_new (M := m_L_law) (N := 25) (pc := 8) (c := 530) (z := 11510) dL_law_8 n_L_32 (fun M hM => ?_)
  refine ev_dup (pc := 11) dL_law_11 rfl ?_
  refine ev_callIf (pc := 12) (As := []) (c1 := 17) (z1 := 8437) (hs := ev_up (fun _ => none) M _) (hf := pp) dL_law_12 ci_L_34 rfl rfl (hC _ _ _ _ _ _ ⟨by show 19 + 2 ≤ w; omega, show ev_Ca _ _ (w - 21) _ _ _ _ _ _ from k_rinit (dd := dd) (w := w - 21) (by omega) (by omega) ev_eqq⟩) rfl rfl (jn_up hM) (fun a x ha => ?_) (fun r rr hp hq => ?_)
  · exact if_neg (fun e => by rw [e, hM] at ha; cases ha)
  obtain ⟨rfl, A, hA, v, Q, hMS, hv1, hQ1, hv32, hv33, -, -⟩ := hp
  subst hA
  refine ev_astore_n (pc := 15) dL_law_15 rfl ?_
  refine ev_iconst (pc := 16) (v := nI 1) dL_law_16 (by decide) ?_
  refine ev_newl (M := m_L_law) (pc := 17) (c := 512) (z := 3072) (N := 1) dL_law_17 arL (by decide) (by decide) (by decide) (fun o ho => ?_)
  have d : dj pp rr := by
    intro a
    cases e : pp a with
    | none => exact Or.inl rfl
    | some x => exact Or.inr (hq a x e)
  obtain ⟨e1, d2, d3⟩ := up_lh (g := fun _ => 0) d ho
  refine ev_th e1 ?_
  refine ev_astore_n (pc := 19) dL_law_19 rfl ?_
  refine ev_iconst (pc := 20) (v := nI 0) dL_law_20 (by decide) ?_
  refine ev_istore (pc := 21) dL_law_21 rfl ?_
  have vP : P_ok P := by
    intro s hs
    rw [hP1 0 (by decide) s hs, hP1 1 (by decide) s hs, hP1 2 (by decide) s hs]
    decide
  have vf : f_ok fu fd := by
    intro s hs
    rw [(hf1 s hs).1, (hf1 s hs).2]
    exact ⟨⟨by decide, by decide⟩, by decide, by decide⟩
  have vfb : f_b fd := by
    intro s hs
    rw [(hf1 s hs).2]
    decide
  refine law_loop (lay := lay) (sa := sa) (sb := sb) (ga := ga) (tc := tc) hd hw hC (hX bp o) hG hPD hb hL hK 512 0 _ pp rr (fun _ => 0) _ _ (Nat.zero_le _) (by omega) ⟨by decide, by decide⟩ ⟨rfl, rfl, rfl, rfl, rfl, trivial⟩ ⟨P, fu, fd, 0, val, 0, 0, R, 0, 0, lv, f, 0, fun _ => 0, v, Q, fun _ _ => 0, fun _ => 0, fun _ => 0, hPF, ?_, hMS, ?_⟩ ⟨d, d2, d3⟩
  · exact ⟨⟨vP, vf, vfb, by decide⟩, ⟨by decide, by decide, by decide, by decide, by decide⟩, fun _ => ⟨rfl, rfl⟩, ⟨by rw [h9]; exact Nat.two_pow_pos 512, by rw [h10]; exact Nat.two_pow_pos 512⟩, fun q => absurd q (by decide), fun _ => 0, fun _ => 0, fun j hj => absurd hj (Nat.not_lt_zero j)⟩
  · exact ⟨⟨rfl, rfl, rfl, rfl, rfl, rfl⟩, ⟨fun k hk j hj => (hQ1 k hk j hj).trans (hP1 k hk j hj).symm, fun j hj => ⟨(hv1 j hj).1.trans (hf1 j hj).1.symm, (hv1 j hj).2.trans (hf1 j hj).2.symm⟩⟩, fun q => absurd q (by decide), fun a ha j hj => absurd hj (Nat.not_lt_zero j), fun j hj => absurd hj (Nat.not_lt_zero j), fun j hj => absurd hj (Nat.not_lt_zero j), fun j hj => absurd hj (Nat.not_lt_zero j)⟩
end START
theorem w_drop {p : Program} {l : Launch} {e : Env} {R : Room} {s : State} {m : MethodId} {args : Array Value} {below : List Frame} {meth : Method} {c : Code} {H : Heap} {locs : List Loc} {cells slots : Nat} {Q : State → Prop} {g : JFrame} (hJ : ∀ x ∈ locs, s.heap.size ≤ x.base) (k : W p l e R s m args below meth c H [] cells slots Q g) : W p l e R s m args below meth c H locs cells slots Q g := fun T hT X => k T hT (Stand.dropFresh (locs := []) (J := locs) X hJ)
theorem lw_D {s : State} {args : Array Value} (hts : ∀ w ∈ ev_ws, w.before args s = true) : ∃ D : va_G, va_K D classes [] s := by
  have key : ∀ c : Nat, ∃ q : ClassId × (Nat → Nat), ∀ r : vw_C, classes[c]? = some r → u_Kn s r.1 r.2.1 r.2.2 q.1 q.2 := by
    intro c
    cases hc : classes[c]? with
    | none => exact ⟨(0, fun _ => 0), fun r h => by cases h⟩
    | some r =>
      have hi : ∃ n, Cond.instantiable r.1 n ∈ ev_ws := by
        match c, hc with
        | 0, hc => obtain ⟨C, T, h1, -, h2, -⟩ := n_X8_19; cases h1.symm.trans hc; exact ⟨_, h2⟩
        | 1, hc => obtain ⟨C, T, h1, -, h2, -⟩ := n_X8_26; cases h1.symm.trans hc; exact ⟨_, h2⟩
        | 2, hc => obtain ⟨C, T, h1, -, h2, -⟩ := n_X8_40; cases h1.symm.trans hc; exact ⟨_, h2⟩
        | 3, hc => obtain ⟨C, T, h1, -, h2, -⟩ := n_X8_7; cases h1.symm.trans hc; exact ⟨_, h2⟩
        | 4, hc => obtain ⟨C, T, h1, -, h2, -⟩ := n_X8_33; cases h1.symm.trans hc; exact ⟨_, h2⟩
        | 5, hc => obtain ⟨C, T, h1, -, h2, -⟩ := n_X1_7; cases h1.symm.trans hc; exact ⟨_, h2⟩
        | 6, hc => obtain ⟨C, T, h1, -, h2, -⟩ := n_L_8; cases h1.symm.trans hc; exact ⟨_, h2⟩
        | 7, hc => obtain ⟨C, T, h1, -, h2, -⟩ := n_L_32; cases h1.symm.trans hc; exact ⟨_, h2⟩
        | c + 8, hc => cases hc
      obtain ⟨n, hn⟩ := hi
      obtain ⟨cC, iS, hk⟩ := u_known (C := r.1) (T := r.2.1) (N := r.2.2) hts (ev_cl hc).1 (hts _ hn)
      exact ⟨(cC, iS), fun r2 h2 => by cases h2; exact hk⟩
  obtain ⟨q, hq⟩ := Classical.axiomOfChoice key
  exact ⟨(fun c => (q c).1, fun c => (q c).2), fun c r h => hq c r h, fun k q h => by cases h⟩
theorem lw_m {n : Nat} {w : Cond} (h : lw_tbl[n]? = some w) : w ∈ lw_tbl := List.mem_of_getElem? h
def gG (b L : Nat) (xs : Nat → Int32) (t : Nat) : ev_G := (fun a => if a = b then some (L, xs) else if a = t then some (3, fun j => nI (mo j)) else none, fun C n d => if C = "IndexBureau$Shares" ∧ n = "MOST" ∧ d = "[I" then some t else none)
theorem gG_2 {b L : Nat} {xs : Nat → Int32} {t : Nat} : (gG b L xs t).2 "IndexBureau$Shares" "MOST" "[I" = some t := by
  unfold gG
  dsimp only
  rw [if_pos ⟨rfl, rfl, rfl⟩]
theorem gG_t {b L : Nat} {xs : Nat → Int32} {t : Nat} (e : t ≠ b) : (gG b L xs t).1 t = some (3, fun j => nI (mo j)) := by
  unfold gG
  dsimp only
  rw [if_neg e, if_pos rfl]
set_option maxRecDepth 20000 in
theorem lw_G {s : State} {b L : Nat} {xs : Nat → Int32} (hL : L ≤ 3072) (hts : ∀ w ∈ lw_tbl, w.before #[Value.ref b] s = true) (hX : va_X b L xs s s.heap) (hbl : b < s.heap.size) (hgv : (Jvm.Cond.and given_1 narrow_1).before #[Value.ref b] s = true) : ∃ G : ev_G, G.1 b = some (L, xs) ∧ G_ok G ∧ ev_GG G (va_A [] s.heap.size) s s.heap := by
  have hs := flat_of_before _ hgv
  have hA : ∀ a : Nat, a < s.heap.size → ¬ va_A [] s.heap.size a := by
    intro a ha h
    rcases h with ⟨k, e, h⟩ | h
    · cases h
    · omega
  obtain ⟨t, ht, hT⟩ := va_Tof (args := #[Value.ref b]) (s := s) (tm := .static "IndexBureau$Shares" "MOST" "[I") (ty := .int) (N := 3) (f := fun j => .int (nI (mo j))) (A := va_A [] s.heap.size) (by decide) (hs _ (by decide +kernel)) (va_eqt (z := 3) (hs _ (by decide +kernel))) (fun j hj => by
    match j, hj with
    | 0, _ => exact va_eqt (z := 9999999) (hs _ (by decide +kernel))
    | 1, _ => exact va_eqt (z := 9999999) (hs _ (by decide +kernel))
    | 2, _ => exact va_eqt (z := 100) (hs _ (by decide +kernel))) hA
  have hZ : va_Z "IndexBureau$Shares" "MOST" "[I" (.ref t) (va_A [] s.heap.size) s s.heap := va_Zof (hts _ (lw_m (n := 657) (by decide +kernel))) (hts _ (lw_m (n := 60) (by decide +kernel))) ht hA
  have hxz : ev_XZ (va_A [] s.heap.size) s s.heap := ⟨vx_Zqof (hts _ (lw_m (n := 602) (by decide +kernel))) (hts _ (lw_m (n := 68) (by decide +kernel))) (hs _ (by decide +kernel)) hA, vx_Zqof (hts _ (lw_m (n := 604) (by decide +kernel))) (hts _ (lw_m (n := 68) (by decide +kernel))) (hs _ (by decide +kernel)) hA⟩
  have hS : va_T .int b L (fun j => .int (xs j)) (va_A [] s.heap.size) s s.heap := by
    obtain ⟨scr, a1, a2, a3, a4, a5⟩ := id hX
    exact ⟨scr, a1, a2, a3, by omega, by rw [a4], a5, hA b hbl⟩
  refine ⟨gG b L xs t, if_pos rfl, ?_, ⟨fun a n f q => ?_, fun C n d a q => ?_, hxz⟩⟩
  · by_cases e : t = b
    · subst e
      obtain ⟨cell, b1, b2, b3, b4, b5, b6, -⟩ := hT
      obtain ⟨scr, a1, a2, a3, a4, a5⟩ := hX
      cases Option.some.inj (a1.symm.trans b1)
      rw [a4] at b5
      have hL3 : L = 3 := (nI_eq (a := L) (b := 3) (by omega) (by decide)).mp b5
      subst hL3
      refine ⟨t, xs, gG_2, if_pos rfl, fun k hk => ?_⟩
      have e2 := (a5 k hk).symm.trans (b6 k hk)
      injection e2 with e2
      injection e2
    · exact ⟨t, fun j => nI (mo j), gG_2, gG_t e, fun k _ => rfl⟩
  · have q2 : (if a = b then some (L, xs) else if a = t then some (3, fun j => nI (mo j)) else none) = some (n, f) := q
    by_cases e : a = b
    · rw [if_pos e] at q2
      cases q2
      rw [e]
      exact hS
    · rw [if_neg e] at q2
      by_cases e3 : a = t
      · rw [if_pos e3] at q2
        cases q2
        rw [e3]
        exact hT
      · rw [if_neg e3] at q2
        cases q2
  · have q2 : (if C = "IndexBureau$Shares" ∧ n = "MOST" ∧ d = "[I" then some t else none) = some a := q
    by_cases e : C = "IndexBureau$Shares" ∧ n = "MOST" ∧ d = "[I"
    · rw [if_pos e] at q2
      cases q2
      obtain ⟨rfl, rfl, rfl⟩ := e
      exact hZ
    · rw [if_neg e] at q2
      cases q2
theorem whole_start {p : Program} {e : Env} {s : State} {m : MethodId} {below : List Frame} {meth : Method} {c : Code} (l : Launch) (hl : l.stackTraces = false) (hnm : meth.name = x.name) {b L : Nat} {xs : Nat → Int32} (hL : L ≤ 3072) (C0 : lw_At p s m meth c b L xs) : W p l e room_1 s m #[Value.ref b] below meth c s.heap [] 0 0 (lw_Z below #[Value.ref b] s) (entryFrame m ([Value.ref b] : List Value).toArray 7) := by
  obtain ⟨hx, hb, hr, hml, hown, hts0, hX, hbl, hlk, hgv⟩ := C0
  have hts : ∀ w ∈ ev_ws, w.before #[Value.ref b] s = true := fun w hw => hts0 w (List.mem_filter.mp hw).1
  obtain ⟨D, hK⟩ := lw_D hts
  obtain ⟨G, g1, g2, g3⟩ := lw_G hL hts0 hX hbl hgv
  have hs := flat_of_before _ hgv
  have hnc : va_Nc "java/lang/IllegalArgumentException" "java/lang/IndexOutOfBoundsException" s := va_Nc.of (hs _ (by decide +kernel))
  have hN : ev_NN s := ⟨fun w hw => by
    have h1 := hts0 w (List.mem_filter.mp hw).1
    have h2 := (List.mem_filter.mp hw).2
    cases w <;> first | exact va_Nw.of rfl h1 | exact h1 | (simp [ev_isN] at h2), hnc⟩
  have F : ev_fr p room_1 s m #[Value.ref b] meth c (va_A [] s.heap.size) G m_L_law 10 432 := ⟨hx, hb, hml, hown, hts, g3, hN, fun q hq => Or.inr hq, Nat.le_refl _, Nat.le_refl _, hr, hnm, hlk⟩
  have hE := law_start (G := G) (C := CL l G 10 432) (K := ev_ok (fun r _ => r = some (.int (nI 1)))) (dd := 10) (w := 432) (by decide) (by decide) lc_all (fun bp o => lx_all hl (by decide) (by decide)) g2 g1 hL (fun h => rfl)
  have h1 := hE (ev_W p l e room_1 s m #[Value.ref b] below meth c (lw_Z below #[Value.ref b] s) D (va_A [] s.heap.size) m_L_law)
    (ew_all F met_CL metW_CL (fun {pc9 L9 h9 c9 z9 x9 ty9} hd _ _ hk => by
      have e0 : x9 = nI 1 := Value.int.inj (Option.some.inj (show some (Value.int x9) = some (Value.int (nI 1)) from hk))
      have e1 : x9 = 1 := e0.trans (by decide)
      subst e1
      intro H locs cells slots ls hr9 hS hl0 hc hz
      dsimp only at hc hz ⊢
      refine W.widen (k := 601024) (n := 7293033) (by have : cells + c9 ≤ 601024 := hc; omega) (by have : slots + z9 ≤ 7293033 := hz; omega) (w_drop (fun q hq => ?_) (lw_ret hx hb hr hlk hd))
      rcases hS.2.2 q hq with ⟨k, e9, h9⟩ | h9
      · cases h9
      · exact h9) (fun _ _ hk => by cases hk) (fun _ _ _ hk => by cases hk) (fun _ _ hk => by cases hk) (fun hk => hk.elim))
  have hl2 := lv_entry [Value.ref b] (n := 7) (by show 1 ≤ 7; decide)
  rw [lg_entry_eq]
  exact h1 s.heap [] 0 0 _ ⟨[], [], (fun k q h => by cases h), hK, ⟨(fun i j p q h => by cases h), (fun k q h => by cases h)⟩, (fun q c h => by cases h)⟩ va_S.rf ⟨_, hl2, fun i v q => ev_lfm q⟩ (by show 0 + 603 ≤ 601024; omega) (by show 0 + 14156 ≤ 7293033; omega)
set_option maxHeartbeats 4000000 in
theorem lw_walk (l : Launch) (hl : l.stackTraces = false) (b : Addr) (xs : List Int32) : MetFree l x (headSpec (Jvm.Cond.code x code maxLocals ret :: tables_1) room_1) (lw_P b xs) (fun _ _ _ _ _ => True) lw_Q := by
  refine MetFree.of_bodyS (code := code) (maxLocals := maxLocals) (ret := ret) (by decide) ?_ ?_
  · intro args s m h hn
    obtain ⟨meth, c, h1, h2, h3, h4, h5, h6, -, -⟩ := Cond.code_spec hn (atoms_spec (ws := Jvm.Cond.code x code maxLocals ret :: tables_1) h _ List.mem_cons_self)
    exact ⟨meth, c, h1, h2, h3, h4, h5, h6⟩
  · intro p e s m args below meth c s₁ B hml0 hP _
    obtain ⟨rfl, hx, hbd, hgv⟩ := hP
    obtain ⟨scr, harrAt, hlist, hof, hsmall⟩ := hx
    obtain ⟨hcb, hkn, -, -⟩ := State.arrayAt?_spec harrAt
    have hown : s.vm.findClass R_law = some m.cls := findClass_of_methodNamed B.named
    have hts0 : ∀ c ∈ (Jvm.Cond.code x code maxLocals ret :: tables_1), c.before #[Value.ref b] s = true := atoms_spec (ws := Jvm.Cond.code x code maxLocals ret :: tables_1) B.pre
    have hts : ∀ w ∈ lw_tbl, w.before #[Value.ref b] s = true := k2_hts_sels lw_privs (fun w hw => hts0 w (List.mem_cons_of_mem _ hw)) lw_privs_ok
    have hml : c.maxLocals = 7 := B.maxLocals_eq (hts0 _ List.mem_cons_self)
    have X₀ : Stand p l e room_1 s m #[Value.ref b] below meth c s₁ [] 0 0 := Stand.of_body B
    have hh0 : s₁.heap = s.heap := by rw [B.state]; rfl
    have hsz : scr.slots.size = xs.length := by rw [← Array.length_toList, hlist, List.length_map]
    have hval : ∀ j : Nat, j < xs.length → scr.slots[j]? = some (.int (xs.getD j 0)) := fun j hj => by
      rw [← Array.getElem?_toList, hlist]
      simp [hj]
    have hbl : b < s.heap.size := (Array.getElem?_eq_some_iff.mp hcb).1
    have hX : va_X b xs.length (fun j => xs.getD j 0) s s.heap := ⟨scr, hcb, hof, hkn, hsz, hval⟩
    have K : W p l e room_1 s m #[Value.ref b] below meth c s₁.heap [] 0 0 (lw_Z below #[Value.ref b] s) (entryFrame m ([Value.ref b] : List Value).toArray 7) := by
      rw [hh0]
      exact whole_start l hl (name_of_methodNamed B.named B.method).1 hbd ⟨B.exec, B.bytes, B.returns, hml, hown, hts, hX, hbl, B.notSynchronized, hgv⟩
    obtain ⟨t, a1, o, b1, b2, b3⟩ := K s₁ rfl X₀
    exact ⟨t, o, a1, b1, b2, b3⟩
theorem lw_pre_spec {args : Array Value} {s : State} (h : (Jvm.Cond.and given_1 narrow_1).before args s = true) (hr : rest_1_c.before args s = true) : ∃ (b : Addr) (xs : List Int32), lw_P b xs args s := by
  have hs := flat_of_before _ h
  have hq := flat_of_before _ hr
  have hc : (Cond.count 1).before args s = true := hs _ (by decide +kernel)
  have harr : (Cond.arrayOf (.arg 0) .int).before args s = true := hs _ (by decide +kernel)
  have hle : (Cond.le (.length (.arg 0)) (.int 3072)).before args s = true := hs _ (by decide +kernel)
  have hlen : (Cond.isInt (.length (.arg 0))).before args s = true := hq _ (by decide +kernel)
  have hall : (Cond.all (.arg 0) (.isInt (.elem (.arg 0) (.index 0)))).before args s = true := hq _ (by decide +kernel)
  obtain ⟨b, xs, hb, hx⟩ := State.ints_of_pre rfl harr hlen hall
  have hsm : xs.length < 2 ^ 31 := hx.choose_spec.2.2.2
  have hev : (Term.length (.arg 0)).eval args s none [] s = some (.int xs.length.toInt32) := hx.length_eval hb
  have hv := Cond.le_ints hev (show (Term.int 3072).eval args s none [] s = some (.int 3072) from rfl)
  have hd : xs.length.toInt32 ≤ 3072 := by
    simpa [Cond.before, Cond.holds, hv] using hle
  have hN : xs.length ≤ 3072 := (Int32.ofNat_le_ofNat hsm (by decide)).mp (show Int32.ofNat xs.length ≤ Int32.ofNat 3072 from hd)
  exact ⟨b, xs, Cond.one_arg hc (show args[0]? = some (.ref b) from hb), hx, hN, h⟩
theorem lw_comes (l : Launch) (hl : l.stackTraces = false) : Comes l x (Jvm.Cond.code x code maxLocals ret :: tables_1) room_1 (fun tb e args s => Calls_1 tb e args s ∧ rest_1 tb e args s ∧ Pre_1 tb e args s)
    (fun _ _ args s o t => lw_Q args s o t) := by
  intro p e ha hc hk s m args below hf hfit hheap happ hpre
  obtain ⟨b, xs, hP⟩ := lw_pre_spec hpre.2.2 hpre.2.1
  obtain ⟨k, o, h1, h2, h3, hQ⟩ := lw_walk l hl b xs p e ha hc hk s m args below hf ((Spec.applies_iff_loose hf).mp happ).1 hP trivial
  exact ⟨k, o, h1, h2, h3, hQ⟩
theorem lw_frame {s t : State} {o : Outcome} {args : Array Value} (h : Framed s o t [] 601024 7293033) :
    Framed s o t (fieldLocs frame_1_writes args s ++ arrayLocs frame_1_arrays args s ++ staticLocs frame_1_statics s) 601024 7293033 := h
theorem lw_limb (L : Cond) (hL : ∀ (args : Array Value) (s t : State), L.after args s (.returned (some (.int 1))) t = true) :
    ArmFor flags0 classFile x code maxLocals ret World_1 tables_1 room_1 Calls_1 rest_1 Pre_1
      (fun tb e a s o t => postC L tb e a s o t ∧ Framed s o t (fieldLocs frame_1_writes a s ++ arrayLocs frame_1_arrays a s ++ staticLocs frame_1_statics s) 601024 7293033) := by
  intro l hfl _ _ p e ha hc hk s m args below hf hfit hheap happ hpre
  obtain ⟨k, o, h1, h2, h3, rfl, hF⟩ := lw_comes l (lw_traces hfl) p e ha hc hk s m args below hf hfit hheap happ hpre
  exact ⟨k, _, h1, h2, h3, hL args s _, lw_frame hF⟩
theorem i_vc : Claimed_1_1 ∧ Claimed_1_2 := ⟨lw_limb limb_1_1 (fun args s t => by simp [limb_1_1, Cond.after, Cond.holds, Cond.value]), lw_limb limb_1_2 (fun args s t => Cond.after_iff.mpr (by
  first | (rw [show limb_1_2 = Cond.eq .result (.int 1) from rfl, Cond.eq_ints (x := 1) (y := 1) rfl rfl]; simp; done) | (simp [limb_1_2, Cond.value, Term.eval]; done)))⟩
