/-! THE MACHINE KEEPS THE RULES (written by wip/whole/gen/ev.py) -/
/-- a cell of the light heap and a cell of the kit's world -/
def ev_m (tys : List (ClassId × FieldType)) (c : ev_C) (e : va_E) : Prop := match c, e with
  | .inl (ty, a), .inl (cA, b) => a = b ∧ ∃ t : Nat, tys[t]? = some (cA, ty)
  | .inr x, .inr y => x = y
  | _, _ => False
def ev_hr (tys : List (ClassId × FieldType)) (h : ev_H) (ws : va_W) : Prop := ∀ q c, h q = some c → ∃ (k : Nat) (e : va_E), ws[k]? = some (q, e) ∧ ev_m tys c e
def ev_rel (D : va_G) (A : Nat → Prop) (s : State) (h : ev_H) (H : Heap) : Prop := ∃ (ws : va_W) (tys : List (ClassId × FieldType)), va_P D classes ws H ∧ va_K D classes tys s ∧ va_D A ws ∧ ev_hr tys h ws
theorem ev_arr {tys : List (ClassId × FieldType)} {h : ev_H} {ws : va_W} (hR : ev_hr tys h ws) {a : Nat} {ty : FieldType} {x : vp_A} (ha : h a = some (.inl (ty, x))) : ∃ (q0 : Nat) (cA : ClassId) (t0 : Nat), ws[q0]? = some (a, .inl (cA, x)) ∧ tys[t0]? = some (cA, ty) := by
  obtain ⟨k, e, h1, h2⟩ := hR a _ ha
  cases e with
  | inl y => obtain ⟨cA, b⟩ := y; obtain ⟨h3, t, h4⟩ := h2; subst h3; exact ⟨k, cA, t, h1, h4⟩
  | inr y => exact h2.elim
theorem ev_obj {tys : List (ClassId × FieldType)} {h : ev_H} {ws : va_W} (hR : ev_hr tys h ws) {a : Nat} {x : Nat × List Value} (ha : h a = some (.inr x)) : ∃ q0 : Nat, ws[q0]? = some (a, .inr x) := by
  obtain ⟨k, e, h1, h2⟩ := hR a _ ha
  cases e with
  | inl y => exact h2.elim
  | inr y => cases (show x = y from h2); exact ⟨k, h1⟩
theorem ev_set {A : Nat → Prop} {tys : List (ClassId × FieldType)} {h : ev_H} {ws : va_W} (hD : va_D A ws) (hR : ev_hr tys h ws) {q0 a : Nat} {e0 e : va_E} (h1 : ws[q0]? = some (a, e0)) {c : ev_C} (hm : ev_m tys c e) : ev_hr tys (ev_up h a c) (ws.set q0 (a, e)) := by
  have hlt : q0 < ws.length := (List.getElem?_eq_some_iff.mp h1).1
  intro q x hq
  unfold ev_up at hq
  by_cases hqa : q = a
  · subst hqa
    rw [if_pos rfl] at hq
    cases hq
    exact ⟨q0, e, by simp [hlt], hm⟩
  · rw [if_neg hqa] at hq
    obtain ⟨k, e2, h3, h4⟩ := hR q x hq
    refine ⟨k, e2, ?_, h4⟩
    have hk : q0 ≠ k := by
      intro hk
      subst hk
      rw [h1] at h3
      exact hqa (by cases h3; rfl)
    rw [List.getElem?_set_ne hk]
    exact h3
theorem ev_mono {tys t2 : List (ClassId × FieldType)} {c : ev_C} {e : va_E} (h : ev_m tys c e) : ev_m (tys ++ t2) c e := by
  cases c with
  | inl x =>
    cases e with
    | inl y =>
      obtain ⟨h1, t, h2⟩ := h
      exact ⟨h1, t, by rw [List.getElem?_append_left (List.getElem?_eq_some_iff.mp h2).1]; exact h2⟩
    | inr y => exact h.elim
  | inr x =>
    cases e with
    | inl y => exact h.elim
    | inr y => exact h
theorem ev_lastty {tys : List (ClassId × FieldType)} {q : ClassId × FieldType} : ∃ t : Nat, (tys ++ [q])[t]? = some q := ⟨tys.length, by simp⟩
theorem ev_push {D : va_G} {A : Nat → Prop} {tys tys2 : List (ClassId × FieldType)} {h : ev_H} {ws : va_W} {H : Heap} {q : Nat} {e : va_E} (_hP : va_P D classes ws H) (hD : va_D A ws) (hD1 : va_D A (ws ++ [(q, e)])) (hR : ev_hr tys h ws) {c : ev_C} (hm : ev_m (tys ++ tys2) c e) : h q = none ∧ ev_hr (tys ++ tys2) (ev_up h q c) (ws ++ [(q, e)]) := by
  have hn : h q = none := by
    cases hh : h q with
    | none => rfl
    | some x =>
      obtain ⟨k, e2, h1, -⟩ := hR q x hh
      have hk : k < ws.length := (List.getElem?_eq_some_iff.mp h1).1
      have h2 : (ws ++ [(q, e)])[k]? = some (q, e2) := by rw [List.getElem?_append_left hk]; exact h1
      have h3 : (ws ++ [(q, e)])[ws.length]? = some (q, e) := by simp
      have := hD1.1 k ws.length _ _ h2 h3 rfl
      omega
  refine ⟨hn, ?_⟩
  intro a x ha
  unfold ev_up at ha
  by_cases hqa : a = q
  · subst hqa
    rw [if_pos rfl] at ha
    cases ha
    exact ⟨ws.length, e, by simp, hm⟩
  · rw [if_neg hqa] at ha
    obtain ⟨k, e2, h1, h2⟩ := hR a x ha
    exact ⟨k, e2, by rw [List.getElem?_append_left (List.getElem?_eq_some_iff.mp h1).1]; exact h1, ev_mono h2⟩
theorem ev_push4 {D : va_G} {tys : List (ClassId × FieldType)} {h : ev_H} {ws : va_W} {H : Heap} {cA cy : ClassId} (hP : va_P D classes ws H) (hR : ev_hr tys h ws) : (∀ j, h (H.size + j) = none) ∧ ev_hr (tys ++ [(cA, .array .int), (cy, .int)]) (mn_h h H.size) (ws ++ mn_w H.size cA cy) := by
  have hn : ∀ j, h (H.size + j) = none := by
    intro j
    cases hh : h (H.size + j) with
    | none => rfl
    | some x =>
      obtain ⟨k, e2, h1, -⟩ := hR _ x hh
      have := (hP k _ h1).lt
      dsimp only at this
      omega
  refine ⟨hn, ?_⟩
  have at_ : ∀ (k : Nat) (x : Nat × va_E), (mn_w H.size cA cy)[k]? = some x → (ws ++ mn_w H.size cA cy)[ws.length + k]? = some x := by
    intro k x hx
    rw [List.getElem?_append_right (by omega), Nat.add_sub_cancel_left]
    exact hx
  have ty_ : ∀ (k : Nat) (x : ClassId × FieldType), [(cA, FieldType.array .int), (cy, FieldType.int)][k]? = some x → (tys ++ [(cA, .array .int), (cy, .int)])[tys.length + k]? = some x := by
    intro k x hx
    rw [List.getElem?_append_right (by omega), Nat.add_sub_cancel_left]
    exact hx
  intro a x ha
  unfold mn_h at ha
  by_cases e0 : a = H.size
  · rw [if_pos e0] at ha
    cases ha
    subst e0
    exact ⟨_, _, at_ 0 _ rfl, rfl, _, ty_ 0 _ rfl⟩
  · rw [if_neg e0] at ha
    by_cases e1 : a = H.size + 1 + 0 ∨ a = H.size + 1 + 1 ∨ a = H.size + 1 + 2
    · rw [if_pos e1] at ha
      cases ha
      rcases e1 with rfl | rfl | rfl
      · exact ⟨_, _, at_ 1 _ rfl, rfl, _, ty_ 1 _ rfl⟩
      · exact ⟨_, _, at_ 2 _ rfl, rfl, _, ty_ 1 _ rfl⟩
      · exact ⟨_, _, at_ 3 _ rfl, rfl, _, ty_ 1 _ rfl⟩
    · rw [if_neg e1] at ha
      obtain ⟨k, e2, h1, h2⟩ := hR a x ha
      exact ⟨k, e2, by rw [List.getElem?_append_left (List.getElem?_eq_some_iff.mp h1).1]; exact h1, ev_mono h2⟩
/-- locals -/
def ev_lr (ls : Array Slot) (nL : Nat) (L : ev_V) : Prop := ∃ lv : List (Nat × Value), lv_has ls nL lv ∧ ∀ i v, L i = some v → (i, v) ∈ lv
theorem ev_lr.at {ls : Array Slot} {nL : Nat} {L : ev_V} (h : ev_lr ls nL L) {i : Nat} {v : Value} (hv : L i = some v) : ls[i]? = some (.val v) := by
  obtain ⟨lv, h1, h2⟩ := h
  exact h1.2.2 _ (h2 i v hv)
theorem ev_lr.size {ls : Array Slot} {nL : Nat} {L : ev_V} (h : ev_lr ls nL L) : ls.size = nL := by
  obtain ⟨lv, h1, -⟩ := h
  exact h1.1
theorem ev_lt1 {L : ev_V} {lv : List (Nat × Value)} (h : ∀ i v, L i = some v → (i, v) ∈ lv) {ls : Array Slot} {nL i : Nat} {v : Value} (hl : lv_has ls nL ((i, v) :: lv.filter (fun q => !(q.1 == i) && !(q.1 + 1 == i && q.2.category == 2)))) : ev_lr ls nL (ev_s1 L i v) := by
  refine ⟨_, hl, fun j w hw => ?_⟩
  unfold ev_s1 at hw
  by_cases h1 : j = i
  · rw [if_pos h1] at hw; cases hw; rw [h1]; exact List.mem_cons_self
  · rw [if_neg h1] at hw
    refine List.mem_cons_of_mem _ (List.mem_filter.mpr ?_)
    by_cases h2 : j + 1 = i
    · rw [if_pos h2] at hw
      cases hL : L j with
      | none => rw [hL] at hw; cases hw
      | some w2 =>
        rw [hL] at hw
        dsimp only at hw
        by_cases h3 : w2.category = 2
        · rw [if_pos h3] at hw; cases hw
        · rw [if_neg h3] at hw; cases hw; exact ⟨h j w hL, by simp [h1, h3]⟩
    · rw [if_neg h2] at hw
      exact ⟨h j w hw, by simp [h1, h2]⟩
theorem ev_lt2 {L : ev_V} {lv : List (Nat × Value)} (h : ∀ i v, L i = some v → (i, v) ∈ lv) {ls : Array Slot} {nL i : Nat} {v : Value} (hl : lv_has ls nL ((i, v) :: lv.filter (fun q => !(q.1 == i) && (!(q.1 == i + 1) && !(q.1 + 1 == i && q.2.category == 2))))) : ev_lr ls nL (ev_s2 L i v) := by
  refine ⟨_, hl, fun j w hw => ?_⟩
  unfold ev_s2 at hw
  by_cases h1 : j = i
  · rw [if_pos h1] at hw; cases hw; rw [h1]; exact List.mem_cons_self
  · rw [if_neg h1] at hw
    refine List.mem_cons_of_mem _ (List.mem_filter.mpr ?_)
    by_cases h4 : j = i + 1
    · rw [if_pos h4] at hw; cases hw
    · rw [if_neg h4] at hw
      by_cases h2 : j + 1 = i
      · rw [if_pos h2] at hw
        cases hL : L j with
        | none => rw [hL] at hw; cases hw
        | some w2 =>
          rw [hL] at hw
          dsimp only at hw
          by_cases h3 : w2.category = 2
          · rw [if_pos h3] at hw; cases hw
          · rw [if_neg h3] at hw; cases hw; exact ⟨h j w hL, by simp [h1, h3, h4]⟩
      · rw [if_neg h2] at hw
        exact ⟨h j w hw, by simp [h1, h2, h4]⟩
theorem ev_lfm {l : List (Nat × Value)} {i : Nat} {v : Value} (h : ev_lf l i = some v) : (i, v) ∈ l := by
  unfold ev_lf at h
  obtain ⟨q, h1, h2⟩ := Option.map_eq_some_iff.mp h
  have h3 := List.find?_some h1
  have h4 := List.mem_of_find?_eq_some h1
  simp at h3
  rw [← h2, ← h3]
  exact h4
/-- what nobody writes -/
def ev_XZ (A : Nat → Prop) (U : State) (H : Heap) : Prop := vx_Zq Bundle.tN "UNASSIGNED_STACK" Bundle.steD A U H ∧ vx_Zq Bundle.tN "SUPPRESSED_SENTINEL" Bundle.listD A U H
def ev_GG (G : ev_G) (A : Nat → Prop) (U : State) (H : Heap) : Prop := (∀ a n f, G.1 a = some (n, f) → va_T .int a n (fun j => .int (f j)) A U H) ∧ (∀ C n d a, G.2 C n d = some a → va_Z C n d (.ref a) A U H) ∧ ev_XZ A U H
theorem ev_alO {t : FieldType} {s U : State} (hA : s.vm.Alike U.vm) (hZ : va_Nw (.arrayOver t) s) : va_Nw (.arrayOver t) U := by
  have h : (Cond.arrayOver t).before #[] (s.setVm U.vm) = true := by
    rw [Cond.arrayOver_setVmC hA]
    exact hZ
  exact h
def ev_NN (U : State) : Prop := (∀ w ∈ ev_ns, va_Nw w U) ∧ va_Nc "java/lang/IllegalArgumentException" "java/lang/IndexOutOfBoundsException" U
theorem ev_NN.warm {s U : State} (hW : s.WarmedH U.vm) (h : ev_NN s) : ev_NN U := by
  refine ⟨fun w hw => ?_, va_Nc.moved hW.alike h.2⟩
  have h1 := h.1 w hw
  unfold ev_ns at hw
  have h2 := (List.mem_filter.mp hw).2
  cases w <;> first | exact va_Nw.warmM hW h1 | exact va_Nw.warmD hW h1 | exact va_Nw.warmC hW h1 | exact ev_alO hW.alike h1 | (simp [ev_isN] at h2)
theorem ev_NN.same {s U : State} (hv : s.vm = U.vm) (h : ev_NN s) : ev_NN U := by
  refine ⟨fun w hw => ?_, va_Nc.moved (u := s) (U := U) (by rw [hv]; exact Vm.Alike.refl _) h.2⟩
  have h1 := h.1 w hw
  unfold ev_ns at hw
  have h2 := (List.mem_filter.mp hw).2
  cases w <;> first | exact va_Nw.same rfl hv h1 | exact ev_alO (by rw [hv]; exact Vm.Alike.refl _) h1 | (simp [ev_isN] at h2)
/-- the start and the end of a method's contract -/
def ev_Pc (D : va_G) (G : ev_G) (ws : va_W) (tys : List (ClassId × FieldType)) (sz : Nat) (args : List Value) : Array Value → State → Prop := va_Pc args (fun U => U.heap.size = sz ∧ va_P D classes ws U.heap ∧ va_K D classes tys U ∧ va_D (fun _ => True) ws ∧ ev_GG G (va_A ws sz) U U.heap ∧ ev_NN U)
def ev_Qc (D : va_G) (A : Nat → Prop) (K : ev_K) : Array Value → State → Outcome → State → Prop := fun _ st o t => (∃ (r : Option Value) (h1 : ev_H), o = .returned r ∧ K (.inl r) h1 ∧ ev_rel D A t h1 t.heap) ∧ va_F A st t
def ev_rm (d w c z : Nat) : Room := { frames := d, cells := c, slots := z, locals := w }
def ev_met (l : Launch) (G : ev_G) (d w : Nat) (C : ev_L) : Prop := ∀ N args h c z K, C N args h c z K → (∀ x y, ¬ K (.inr x) y) → ∃ w2, 8 + (N.2.2.1 + 11) + w2 ≤ w ∧ ∀ (D : va_G) (ws : va_W) (tys : List (ClassId × FieldType)) (sz : Nat), ev_hr tys h ws → Met l N.1 (ev_code N :: ev_ws) (ev_rm d w2 c z) (ev_Pc D G ws tys sz args) (ev_Qc D (va_A ws sz) K) c z (va_A ws sz)
def ev_metW (l : Launch) (G : ev_G) (d w : Nat) (C : ev_L) : Prop := ∀ N hh args h c z K, C N args h c z K → (∀ x y, ¬ K (.inr x) y) → Cond.codeWith N.1 N.2.1 N.2.2.1 N.2.2.2 hh ∈ ev_ws → ∃ w2, 8 + (N.2.2.1 + 11) + w2 ≤ w ∧ ∀ (D : va_G) (ws : va_W) (tys : List (ClassId × FieldType)) (sz : Nat), ev_hr tys h ws → Met l N.1 (Cond.codeWith N.1 N.2.1 N.2.2.1 N.2.2.2 hh :: ev_ws) (ev_rm d w2 c z) (ev_Pc D G ws tys sz args) (ev_Qc D (va_A ws sz) K) c z (va_A ws sz)
theorem ev_good {N : ev_M} (h : ev_code N ∈ ev_ws) : GoodIn ev_ws (ev_code N :: ev_ws) := by
  have g : ∀ w ∈ ev_ws, w ∈ ev_ws ∧ ((w.onTables && w.keeps) = true ∨ ∃ ty, w = .arrayClass ty) := fun w hw => ⟨hw, good_of_word (List.mem_filter.mp hw).2⟩
  intro w hw
  rcases List.mem_cons.mp hw with h1 | h1
  · subst h1; exact g _ h
  · exact g _ h1
theorem ev_g1 {w : Cond} (h : w ∈ ev_ws) : w ∈ ev_ws ∧ ((w.onTables && w.keeps) = true ∨ ∃ ty, w = .arrayClass ty) := ⟨h, good_of_word (List.mem_filter.mp h).2⟩
theorem ev_gI {N : ev_M} (h : ev_code N ∈ ev_ws) : GoodIn ev_ws (ev_code N :: ev_ws) := ev_good h
theorem ev_gV {own : String} {i : Nat} {N : ev_M} (w1 : Cond.methodLink own i N.1 ∈ ev_ws) (w2 : Cond.instanceMethod N.1 ∈ ev_ws) (w3 : Cond.selects N.1.cls N.1 N.1 ∈ ev_ws) (w4 : Cond.initialized N.1.cls ∈ ev_ws) (w5 : ev_code N ∈ ev_ws) : GoodIn ev_ws (wsV own i N.1.cls N.1 (ev_code N :: ev_ws)) := by
  intro w hw
  unfold wsV at hw
  rcases List.mem_append.mp hw with h | h
  · simp only [List.mem_cons, List.not_mem_nil, or_false] at h
    rcases h with rfl | rfl | rfl | rfl
    · exact ev_g1 w1
    · exact ev_g1 w2
    · exact ev_g1 w3
    · exact ev_g1 w4
  · exact ev_good w5 w h
theorem ev_gS {own : String} {i : Nat} {N : ev_M} (w1 : Cond.methodLink own i N.1 ∈ ev_ws) (w2 : Cond.static N.1 ∈ ev_ws) (w4 : Cond.initialized N.1.cls ∈ ev_ws) (w5 : ev_code N ∈ ev_ws) : GoodIn ev_ws (va_wsS own i N.1 (ev_code N :: ev_ws)) := by
  intro w hw
  unfold va_wsS at hw
  rcases List.mem_append.mp hw with h | h
  · simp only [List.mem_cons, List.not_mem_nil, or_false] at h
    rcases h with rfl | rfl | rfl
    · exact ev_g1 w1
    · exact ev_g1 w2
    · exact ev_g1 w4
  · exact ev_good w5 w h
theorem ev_gSW {own : String} {i : Nat} {N : ev_M} {hh : List (Nat × Nat × Nat × Nat)} (w1 : Cond.methodLink own i N.1 ∈ ev_ws) (w2 : Cond.static N.1 ∈ ev_ws) (w4 : Cond.initialized N.1.cls ∈ ev_ws) (w5 : Cond.codeWith N.1 N.2.1 N.2.2.1 N.2.2.2 hh ∈ ev_ws) : GoodIn ev_ws (va_wsS own i N.1 (Cond.codeWith N.1 N.2.1 N.2.2.1 N.2.2.2 hh :: ev_ws)) := by
  intro w hw
  unfold va_wsS at hw
  rcases List.mem_append.mp hw with h | h
  · simp only [List.mem_cons, List.not_mem_nil, or_false] at h
    rcases h with rfl | rfl | rfl
    · exact ev_g1 w1
    · exact ev_g1 w2
    · exact ev_g1 w4
  · rcases List.mem_cons.mp h with h1 | h1
    · subst h1; exact ev_g1 w5
    · exact ev_g1 h1
theorem ev_rmok {R : Room} {d w w2 c z n : Nat} (hRf : d + 1 ≤ R.frames) (hRl : w ≤ R.locals) (h : 8 + (n + 11) + w2 ≤ w) : (ev_rm d w2 c z).frames + 1 ≤ R.frames ∧ 8 + (n + 11) + (ev_rm d w2 c z).locals ≤ R.locals := ⟨hRf, Nat.le_trans h hRl⟩
theorem ev_GG.moved {G : ev_G} {A : Nat → Prop} {u U : State} {H : Heap} (hvm : u.vm.Alike U.vm) (h : ev_GG G A u H) : ev_GG G A U H := ⟨fun a n f q => (h.1 a n f q).moved hvm, fun C n d a q => (h.2.1 C n d a q).moved hvm, vx_Zq.moved hvm h.2.2.1, vx_Zq.moved hvm h.2.2.2⟩
theorem ev_blind {D : va_G} {G : ev_G} {ws : va_W} {tys : List (ClassId × FieldType)} {sz : Nat} {args : List Value} : FrameBlind (ev_Pc D G ws tys sz args) := by
  intro a U g mk q
  obtain ⟨q0, q1, qP, qK, qD, qG, qN⟩ := q
  exact ⟨q0, q1, qP, va_K.moved (u := U) (U := U.calling g mk a) (Vm.Alike.refl U.vm) qK, qD, ev_GG.moved (u := U) (U := U.calling g mk a) (Vm.Alike.refl U.vm) qG, ev_NN.same (s := U) (U := U.calling g mk a) rfl qN⟩
theorem ev_sub {A : Nat → Prop} {H0 H : Heap} {locs : List Loc} {ws : va_W} (hD : va_D A ws) (hS : va_S A H0 H locs) (hA : ∀ q, H0.size ≤ q → A q) : ∀ q, va_A ws H.size q → A q := by
  intro q h
  rcases h with ⟨k, e, h⟩ | h
  · exact hD.2 k _ h
  · exact hA q (Nat.le_trans hS.1 h)
theorem ev_pre {D : va_G} {G : ev_G} {A : Nat → Prop} {ws : va_W} {tys : List (ClassId × FieldType)} {s : State} {H : Heap} {locs : List Loc} {h : ev_H} {args : List Value} (hP : va_P D classes ws H) (hK : va_K D classes tys s) (hD : va_D A ws) (_hR : ev_hr tys h ws) (hS : va_S A s.heap H locs) (hA : ∀ q, s.heap.size ≤ q → A q) (hG : ev_GG G A s s.heap) (hnw : ev_NN s) : ∀ U : State, U.heap = H → s.WarmedH U.vm → ev_Pc D G ws tys H.size args args.toArray U := by
  intro U hU hW
  have hs := ev_sub hD hS hA
  refine ⟨rfl, by rw [hU], by rw [hU]; exact hP, va_K.moved hW.alike hK, hD.weaken (fun _ _ _ _ => trivial), ?_, hnw.warm hW⟩
  rw [hU]
  exact ⟨fun a n f q => (((hG.1 a n f q).kept (fun b hb1 hb2 => hS.2.1 b hb1 hb2)).narrow hs).moved hW.alike, fun C n d a q => (((hG.2.1 C n d a q).kept (fun b hb1 hb2 => hS.2.1 b hb1 hb2)).narrow hs).moved hW.alike, vx_Zq.moved hW.alike ((hG.2.2.1.kept (fun b hb1 hb2 => hS.2.1 b hb1 hb2)).narrow hs), vx_Zq.moved hW.alike ((hG.2.2.2.kept (fun b hb1 hb2 => hS.2.1 b hb1 hb2)).narrow hs)⟩
theorem ev_back {p : Program} {l : Launch} {e : Env} {R : Room} {s : State} {m : MethodId} {args : Array Value} {below : List Frame} {meth : Method} {c : Code} {H : Heap} {locs : List Loc} {cells slots : Nat} {Q : State → Prop} {pc : Nat} {ls : Array Slot} {rest st0 : List Value} {D : va_G} {G : ev_G} {A : Nat → Prop} {ws : va_W} {tys : List (ClassId × FieldType)} {h : ev_H} {mc ms : Nat} {post : Option Value → ev_H → Prop} {av : Array Value}
    (_hG : ev_GG G A s s.heap) (_hnw : ev_NN s) (_hP : va_P D classes ws H) (_hK : va_K D classes tys s) (hD : va_D A ws) (_hR : ev_hr tys h ws) (hS : va_S A s.heap H locs) (hA : ∀ q, s.heap.size ≤ q → A q)
    (hrun : va_Run p l e R s m args below meth c H locs cells slots mc ms (F0 m pc ls st0) rest (ev_Qc D (va_A ws H.size) (ev_ok post) av) (va_A ws H.size))
    (kk : ∀ (r : Option Value) (h1 : ev_H) (H1 : Heap) (locs1 : List Loc), post r h1 → ev_rel D A s h1 H1 → va_S A s.heap H1 locs1 → W p l e R s m args below meth c H1 locs1 (cells + mc) (slots + ms) Q (F0 m (pc + 3) ls (r.toList ++ rest))) : W p l e R s m args below meth c H locs cells slots Q (F0 m pc ls st0) := by
  have hs := ev_sub hD hS hA
  intro T hT X
  obtain ⟨v, st₀, t, T', L, h0, X', hL, e1, e2, ⟨⟨r, h1, hv, hp, ws1, tys1, hP1, hK1, hD1, hR1⟩, hz, hk⟩, st⟩ := hrun T hT X
  cases hv
  rw [h0] at hz hk
  have hal : s.vm.Alike t.vm := by rw [← e2]; exact X'.warmed.alike
  obtain ⟨t2, a1, b1⟩ := kk v h1 T'.heap (locs ++ L) hp ⟨ws1, tys1, by rw [e1]; exact hP1, va_K.moved hal.symm hK1, hD1.weaken (fun _ q _ z => hs q.1 z), hR1⟩
    ⟨Nat.le_trans hS.1 (by rw [e1]; exact hz), fun q g1 g2 => by rw [e1, hk q (Nat.lt_of_lt_of_le g1 hS.1) (fun z => g2 (hs q z))]; exact hS.2.1 q g1 g2, fun q hq => by
      rcases List.mem_append.mp hq with g | g
      · exact hS.2.2 q g
      · exact hs _ (hL q g)⟩ T' rfl X'
  exact ⟨t2, st t2 a1, b1⟩
theorem ev_pw {ws : va_W} : (∀ (i j : Nat) (p q : Nat × va_E), ws[i]? = some p → ws[j]? = some q → p.1 = q.1 → i = j) ↔ ws.Pairwise (fun a b => a.1 ≠ b.1) := by
  rw [List.pairwise_iff_getElem]
  constructor
  · intro h i j hi hj hij e
    have := h i j ws[i] ws[j] (List.getElem?_eq_getElem hi) (List.getElem?_eq_getElem hj) e
    omega
  · intro h i j p q h1 h2 e
    obtain ⟨i1, i2⟩ := List.getElem?_eq_some_iff.mp h1
    obtain ⟨j1, j2⟩ := List.getElem?_eq_some_iff.mp h2
    rcases Nat.lt_trichotomy i j with c | c | c
    · exact absurd (by rw [i2, j2]; exact e) (h i j i1 j1 c)
    · exact c
    · exact absurd (by rw [i2, j2]; exact e.symm) (h j i j1 i1 c)
theorem ev_fD {A : Nat → Prop} {ws : va_W} (f : Nat × va_E → Bool) (h : va_D A ws) : va_D A (ws.filter f) := by
  refine ⟨ev_pw.mpr ((ev_pw.mp h.1).filter _), fun k q hq => ?_⟩
  have h1 := (List.mem_filter.mp (List.mem_of_getElem? hq)).1
  obtain ⟨j, hj⟩ := List.getElem?_of_mem h1
  exact h.2 j q hj
theorem ev_fP {D : va_G} {ws : va_W} {H : Heap} (f : Nat × va_E → Bool) (h : va_P D classes ws H) : va_P D classes (ws.filter f) H := by
  intro k q hq
  have h1 := (List.mem_filter.mp (List.mem_of_getElem? hq)).1
  obtain ⟨j, hj⟩ := List.getElem?_of_mem h1
  exact h j q hj
theorem ev_fR {tys : List (ClassId × FieldType)} {h h2 : ev_H} {ws : va_W} (hR : ev_hr tys h ws) (hs : ∀ q c, h2 q = some c → h q = some c) : ev_hr tys h2 (ws.filter (fun q => (h2 q.1).isSome)) := by
  intro q c hq
  obtain ⟨k, e, h1, h3⟩ := hR q c (hs q c hq)
  have hm : (q, e) ∈ ws.filter (fun q => (h2 q.1).isSome) := List.mem_filter.mpr ⟨List.mem_of_getElem? h1, by show (h2 q).isSome = true; rw [hq]; rfl⟩
  obtain ⟨j, hj⟩ := List.getElem?_of_mem hm
  exact ⟨j, e, hj, h3⟩
/-- a world in two parts -/
theorem ev_frame {D : va_G} {A : Nat → Prop} {tys : List (ClassId × FieldType)} {h hs hf : ev_H} {ws : va_W} {H : Heap} (hP : va_P D classes ws H) (hD : va_D A ws) (hR : ev_hr tys h ws) (hj : h = ev_jn hs hf) (hdj : ∀ a x, hf a = some x → hs a = none) : ∃ w1 wf : va_W, va_P D classes w1 H ∧ va_D A w1 ∧ ev_hr tys hs w1 ∧ va_P D classes wf H ∧ va_D A wf ∧ ev_hr tys hf wf ∧ ∀ (i j : Nat) (p q : Nat × va_E), w1[i]? = some p → wf[j]? = some q → p.1 ≠ q.1 := by
  refine ⟨ws.filter (fun q => (hs q.1).isSome), ws.filter (fun q => (hf q.1).isSome), ev_fP _ hP, ev_fD _ hD, ev_fR hR (fun q c e => ?_), ev_fP _ hP, ev_fD _ hD, ev_fR hR (fun q c e => ?_), fun i j p q h1 h2 e => ?_⟩
  · rw [hj]
    unfold ev_jn
    cases hh : hf q with
    | none => exact e
    | some x => rw [hdj q x hh] at e; cases e
  · rw [hj]
    unfold ev_jn
    rw [e]
  · have a1 := (List.mem_filter.mp (List.mem_of_getElem? h1)).2
    have a2 := (List.mem_filter.mp (List.mem_of_getElem? h2)).2
    rw [e] at a1
    obtain ⟨x, hx⟩ := Option.isSome_iff_exists.mp a2
    rw [hdj _ x hx] at a1
    cases a1
theorem ev_monoR {tys t2 : List (ClassId × FieldType)} {c : ev_C} {e : va_E} (h : ev_m tys c e) : ev_m (t2 ++ tys) c e := by
  cases c with
  | inl x =>
    cases e with
    | inl y =>
      obtain ⟨h1, t, h2⟩ := h
      exact ⟨h1, t2.length + t, by rw [List.getElem?_append_right (by omega), Nat.add_sub_cancel_left]; exact h2⟩
    | inr y => exact h.elim
  | inr x =>
    cases e with
    | inl y => exact h.elim
    | inr y => exact h
theorem ev_backF {p : Program} {l : Launch} {e : Env} {R : Room} {s : State} {m : MethodId} {args : Array Value} {below : List Frame} {meth : Method} {c : Code} {H : Heap} {locs : List Loc} {cells slots : Nat} {Q : State → Prop} {pc : Nat} {ls : Array Slot} {rest st0 : List Value} {D : va_G} {G : ev_G} {A : Nat → Prop} {ws wf : va_W} {tys : List (ClassId × FieldType)} {h hf : ev_H} {mc ms : Nat} {post : Option Value → ev_H → Prop} {av : Array Value}
    (hPf : va_P D classes wf H) (hDf : va_D A wf) (hRf : ev_hr tys hf wf) (hdf : ∀ (i j : Nat) (p q : Nat × va_E), ws[i]? = some p → wf[j]? = some q → p.1 ≠ q.1) (hK0 : va_K D classes tys s)
    (_hG : ev_GG G A s s.heap) (_hnw : ev_NN s) (_hP : va_P D classes ws H) (_hK : va_K D classes tys s) (hD : va_D A ws) (_hR : ev_hr tys h ws) (hS : va_S A s.heap H locs) (hA : ∀ q, s.heap.size ≤ q → A q)
    (hrun : va_Run p l e R s m args below meth c H locs cells slots mc ms (F0 m pc ls st0) rest (ev_Qc D (va_A ws H.size) (ev_ok post) av) (va_A ws H.size))
    (kk : ∀ (r : Option Value) (h1 : ev_H) (H1 : Heap) (locs1 : List Loc), post r h1 → (∀ a x, hf a = some x → h1 a = none) → ev_rel D A s (ev_jn h1 hf) H1 → va_S A s.heap H1 locs1 → W p l e R s m args below meth c H1 locs1 (cells + mc) (slots + ms) Q (F0 m (pc + 3) ls (r.toList ++ rest))) : W p l e R s m args below meth c H locs cells slots Q (F0 m pc ls st0) := by
  have hs := ev_sub hD hS hA
  have hout : ∀ (k : Nat) (q : Nat × va_E), wf[k]? = some q → q.1 < H.size ∧ ¬ va_A ws H.size q.1 := by
    intro k q hq
    have lt := (hPf k q hq).lt
    refine ⟨lt, fun z => ?_⟩
    rcases z with ⟨i, e2, z⟩ | z
    · exact hdf i k _ _ z hq rfl
    · omega
  intro T hT X
  obtain ⟨v, st₀, t, T', L, h0, X', hL, e1, e2, ⟨⟨r, h1, hv, hp, ws1, tys1, hP1, hK1, hD1, hR1⟩, hz, hk⟩, st⟩ := hrun T hT X
  cases hv
  rw [h0] at hz hk
  have hal : s.vm.Alike t.vm := by rw [← e2]; exact X'.warmed.alike
  have rel : ev_rel D A s (ev_jn h1 hf) T'.heap := by
    refine ⟨ws1 ++ wf, tys1 ++ tys, ?_, va_K.app (va_K.moved hal.symm hK1) hK0, ?_, ?_⟩
    · rw [e1]
      exact va_P.app hP1 (hPf.kept (fun k q hq => hk q.1 (hout k q hq).1 (hout k q hq).2))
    · exact va_D.app (hD1.weaken (fun _ q _ z => hs q.1 z)) hDf (fun i j p q g1 g2 e => (hout j q g2).2 (by rw [← e]; exact hD1.2 i p g1))
    · intro q c hq
      unfold ev_jn at hq
      cases hh : hf q with
      | some x =>
        rw [hh] at hq
        cases hq
        obtain ⟨k, e3, g1, g2⟩ := hRf q _ hh
        exact ⟨ws1.length + k, e3, by rw [List.getElem?_append_right (by omega), Nat.add_sub_cancel_left]; exact g1, ev_monoR g2⟩
      | none =>
        rw [hh] at hq
        obtain ⟨k, e3, g1, g2⟩ := hR1 q c hq
        exact ⟨k, e3, by rw [List.getElem?_append_left (List.getElem?_eq_some_iff.mp g1).1]; exact g1, ev_mono g2⟩
  have apart : ∀ a x, hf a = some x → h1 a = none := by
    intro a x ha
    cases hh : h1 a with
    | none => rfl
    | some y =>
      obtain ⟨k, e3, g1, -⟩ := hR1 a y hh
      obtain ⟨k2, e4, g2, -⟩ := hRf a x ha
      exact absurd (hD1.2 k _ g1) (hout k2 _ g2).2
  obtain ⟨t2, a1, b1⟩ := kk v h1 T'.heap (locs ++ L) hp apart rel
    ⟨Nat.le_trans hS.1 (by rw [e1]; exact hz), fun q g1 g2 => by rw [e1, hk q (Nat.lt_of_lt_of_le g1 hS.1) (fun z => g2 (hs q z))]; exact hS.2.1 q g1 g2, fun q hq => by
      rcases List.mem_append.mp hq with g | g
      · exact hS.2.2 q g
      · exact hs _ (hL q g)⟩ T' rfl X'
  exact ⟨t2, st t2 a1, b1⟩
theorem ev_kend {D : va_G} {A : Nat → Prop} {s t : State} {h : ev_H} {H : Heap} (hr : ev_rel D A s h H) (hW : s.WarmedH t.vm) (ht : t.heap = H) : ev_rel D A t h t.heap := by
  obtain ⟨ws, tys, hP, hK, hD, hR⟩ := hr
  rw [ht]
  exact ⟨ws, tys, hP, va_K.moved hW.alike hK, hD, hR⟩
theorem ev_end {D : va_G} {A : Nat → Prop} {s t : State} {h : ev_H} {H : Heap} {locs : List Loc} {K : ev_K} {r : Option Value} {av : Array Value} (hS : va_S A s.heap H locs) (ht : t.heap = H) (hr : ev_rel D A t h t.heap) (hk : K (.inl r) h) : ev_Qc D A K av s (.returned r) t := ⟨⟨r, h, rfl, hk, hr⟩, hS.F ht⟩
section EVW
variable {p : Program} {l : Launch} {e : Env} {R : Room} {s : State} {m : MethodId} {args : Array Value} {below : List Frame} {meth : Method} {c0 : Code} {Q : State → Prop} {D : va_G} {A : Nat → Prop} {G : ev_G} {C : ev_L} {M : ev_M} {K : ev_K} {d w : Nat}
/-- a configuration, at the machine -/
def ev_W (p : Program) (l : Launch) (e : Env) (R : Room) (s : State) (m : MethodId) (args : Array Value) (below : List Frame) (meth : Method) (c0 : Code) (Q : State → Prop) (D : va_G) (A : Nat → Prop) (M : ev_M) : ev_S → Prop := fun S => ∀ (H : Heap) (locs : List Loc) (cells slots : Nat) (ls : Array Slot), ev_rel D A s S.2.2.2.1 H → va_S A s.heap H locs → ev_lr ls M.2.2.1 S.2.1 → cells + S.2.2.2.2.1 ≤ R.cells → slots + S.2.2.2.2.2 ≤ R.slots → W p l e R s m args below meth c0 H locs cells slots Q (F0 m S.1 ls S.2.2.1)
/-- what holds of a frame while it runs -/
def ev_fr (p : Program) (R : Room) (s : State) (m : MethodId) (args : Array Value) (meth : Method) (c0 : Code) (A : Nat → Prop) (G : ev_G) (M : ev_M) (d w : Nat) : Prop := p.tables.exec = Jvm.exec ∧ c0.code = M.2.1 ∧ c0.maxLocals = M.2.2.1 ∧ s.vm.findClass M.1.cls = some m.cls ∧ (∀ w ∈ ev_ws, w.before args s = true) ∧ ev_GG G A s s.heap ∧ ev_NN s ∧ (∀ q, s.heap.size ≤ q → A q) ∧ d + 1 ≤ R.frames ∧ w ≤ R.locals ∧ meth.sig.returnType = M.2.2.2 ∧ meth.name = M.1.name ∧ meth.locks = false

set_option maxHeartbeats 1000000 in
theorem ew_iconst (F : ev_fr p R s m args meth c0 A G M d w) (hmet : ev_met l G d w C) (hmw : ev_metW l G d w C) : ru_iconst G C w M K (ev_W p l e R s m args below meth c0 Q D A M) := by
  obtain ⟨hx, hb, hml, hown, hts, hG, hnw, hA, hRf, hRl, hret, hnm, hlk⟩ := F
  intro pc L st h c z n v hd hv k H locs cells slots ls hr hS hl hc hz
  dsimp only at hr hl hc hz ⊢
  exact lv_iconst hx hb hd hv (k H locs cells slots ls hr hS hl hc hz)
set_option maxHeartbeats 1000000 in
theorem ew_bipush (F : ev_fr p R s m args meth c0 A G M d w) (hmet : ev_met l G d w C) (hmw : ev_metW l G d w C) : ru_bipush G C w M K (ev_W p l e R s m args below meth c0 Q D A M) := by
  obtain ⟨hx, hb, hml, hown, hts, hG, hnw, hA, hRf, hRl, hret, hnm, hlk⟩ := F
  intro pc L st h c z n v hd hv k H locs cells slots ls hr hS hl hc hz
  dsimp only at hr hl hc hz ⊢
  exact lv_bipush hx hb hd hv (k H locs cells slots ls hr hS hl hc hz)
set_option maxHeartbeats 1000000 in
theorem ew_sipush (F : ev_fr p R s m args meth c0 A G M d w) (hmet : ev_met l G d w C) (hmw : ev_metW l G d w C) : ru_sipush G C w M K (ev_W p l e R s m args below meth c0 Q D A M) := by
  obtain ⟨hx, hb, hml, hown, hts, hG, hnw, hA, hRf, hRl, hret, hnm, hlk⟩ := F
  intro pc L st h c z n v hd hv k H locs cells slots ls hr hS hl hc hz
  dsimp only at hr hl hc hz ⊢
  exact lv_sipush hx hb hd hv (k H locs cells slots ls hr hS hl hc hz)
set_option maxHeartbeats 1000000 in
theorem ew_lconst (F : ev_fr p R s m args meth c0 A G M d w) (hmet : ev_met l G d w C) (hmw : ev_metW l G d w C) : ru_lconst G C w M K (ev_W p l e R s m args below meth c0 Q D A M) := by
  obtain ⟨hx, hb, hml, hown, hts, hG, hnw, hA, hRf, hRl, hret, hnm, hlk⟩ := F
  intro pc L st h c z n v hd hv k H locs cells slots ls hr hS hl hc hz
  dsimp only at hr hl hc hz ⊢
  exact lv_lconst hx hb hd hv (k H locs cells slots ls hr hS hl hc hz)
set_option maxHeartbeats 1000000 in
theorem ew_null (F : ev_fr p R s m args meth c0 A G M d w) (hmet : ev_met l G d w C) (hmw : ev_metW l G d w C) : ru_null G C w M K (ev_W p l e R s m args below meth c0 Q D A M) := by
  obtain ⟨hx, hb, hml, hown, hts, hG, hnw, hA, hRf, hRl, hret, hnm, hlk⟩ := F
  intro pc L st h c z hd k H locs cells slots ls hr hS hl hc hz
  dsimp only at hr hl hc hz ⊢
  exact lv_null hx hb hd  (k H locs cells slots ls hr hS hl hc hz)
set_option maxHeartbeats 1000000 in
theorem ew_ldc (F : ev_fr p R s m args meth c0 A G M d w) (hmet : ev_met l G d w C) (hmw : ev_metW l G d w C) : ru_ldc G C w M K (ev_W p l e R s m args below meth c0 Q D A M) := by
  obtain ⟨hx, hb, hml, hown, hts, hG, hnw, hA, hRf, hRl, hret, hnm, hlk⟩ := F
  intro pc L st h c z i v hd hw k H locs cells slots ls hr hS hl hc hz
  dsimp only at hr hl hc hz ⊢
  exact lv_ldc hx hb hown (hts _ hw) hd (k H locs cells slots ls hr hS hl hc hz)
set_option maxHeartbeats 1000000 in
theorem ew_ldc2 (F : ev_fr p R s m args meth c0 A G M d w) (hmet : ev_met l G d w C) (hmw : ev_metW l G d w C) : ru_ldc2 G C w M K (ev_W p l e R s m args below meth c0 Q D A M) := by
  obtain ⟨hx, hb, hml, hown, hts, hG, hnw, hA, hRf, hRl, hret, hnm, hlk⟩ := F
  intro pc L st h c z i v hd hw k H locs cells slots ls hr hS hl hc hz
  dsimp only at hr hl hc hz ⊢
  exact lv_ldc2 hx hb hown (hts _ hw) hd (k H locs cells slots ls hr hS hl hc hz)
set_option maxHeartbeats 1000000 in
theorem ew_ldcw (F : ev_fr p R s m args meth c0 A G M d w) (hmet : ev_met l G d w C) (hmw : ev_metW l G d w C) : ru_ldcw G C w M K (ev_W p l e R s m args below meth c0 Q D A M) := by
  obtain ⟨hx, hb, hml, hown, hts, hG, hnw, hA, hRf, hRl, hret, hnm, hlk⟩ := F
  intro pc L st h c z i v hd hw k H locs cells slots ls hr hS hl hc hz
  dsimp only at hr hl hc hz ⊢
  exact lv_ldcw hx hb hown (hts _ hw) hd (k H locs cells slots ls hr hS hl hc hz)
set_option maxHeartbeats 1000000 in
theorem ew_iload_n (F : ev_fr p R s m args meth c0 A G M d w) (hmet : ev_met l G d w C) (hmw : ev_metW l G d w C) : ru_iload_n G C w M K (ev_W p l e R s m args below meth c0 Q D A M) := by
  obtain ⟨hx, hb, hml, hown, hts, hG, hnw, hA, hRf, hRl, hret, hnm, hlk⟩ := F
  intro pc L st h c z j x hd hx1 k H locs cells slots ls hr hS hl hc hz
  dsimp only at hr hl hc hz ⊢
  exact lv_iload_n hx hb hd rfl (hl.at hx1) (k H locs cells slots ls hr hS hl hc hz)
set_option maxHeartbeats 1000000 in
theorem ew_iload (F : ev_fr p R s m args meth c0 A G M d w) (hmet : ev_met l G d w C) (hmw : ev_metW l G d w C) : ru_iload G C w M K (ev_W p l e R s m args below meth c0 Q D A M) := by
  obtain ⟨hx, hb, hml, hown, hts, hG, hnw, hA, hRf, hRl, hret, hnm, hlk⟩ := F
  intro pc L st h c z i x hd hx1 k H locs cells slots ls hr hS hl hc hz
  dsimp only at hr hl hc hz ⊢
  exact lv_iload hx hb hd (hl.at hx1) (k H locs cells slots ls hr hS hl hc hz)
set_option maxHeartbeats 1000000 in
theorem ew_istore_n (F : ev_fr p R s m args meth c0 A G M d w) (hmet : ev_met l G d w C) (hmw : ev_metW l G d w C) : ru_istore_n G C w M K (ev_W p l e R s m args below meth c0 Q D A M) := by
  obtain ⟨hx, hb, hml, hown, hts, hG, hnw, hA, hRf, hRl, hret, hnm, hlk⟩ := F
  intro pc L st h c z j x hd hn k H locs cells slots ls hr hS hl hc hz
  dsimp only at hr hl hc hz ⊢
  obtain ⟨lv, hv1, hv2⟩ := hl
  exact lv_istore_n hx hb hd rfl hv1 (Nat.le_of_ble_eq_true hn) rfl (fun ls2 hl2 => k H locs cells slots ls2 hr hS (ev_lt1 hv2 hl2) hc hz)
set_option maxHeartbeats 1000000 in
theorem ew_istore (F : ev_fr p R s m args meth c0 A G M d w) (hmet : ev_met l G d w C) (hmw : ev_metW l G d w C) : ru_istore G C w M K (ev_W p l e R s m args below meth c0 Q D A M) := by
  obtain ⟨hx, hb, hml, hown, hts, hG, hnw, hA, hRf, hRl, hret, hnm, hlk⟩ := F
  intro pc L st h c z i x hd hn k H locs cells slots ls hr hS hl hc hz
  dsimp only at hr hl hc hz ⊢
  obtain ⟨lv, hv1, hv2⟩ := hl
  exact lv_istore hx hb hd hv1 (Nat.le_of_ble_eq_true hn) rfl (fun ls2 hl2 => k H locs cells slots ls2 hr hS (ev_lt1 hv2 hl2) hc hz)
set_option maxHeartbeats 1000000 in
theorem ew_lload_n (F : ev_fr p R s m args meth c0 A G M d w) (hmet : ev_met l G d w C) (hmw : ev_metW l G d w C) : ru_lload_n G C w M K (ev_W p l e R s m args below meth c0 Q D A M) := by
  obtain ⟨hx, hb, hml, hown, hts, hG, hnw, hA, hRf, hRl, hret, hnm, hlk⟩ := F
  intro pc L st h c z j x hd hx1 k H locs cells slots ls hr hS hl hc hz
  dsimp only at hr hl hc hz ⊢
  exact lv_lload_n hx hb hd rfl (hl.at hx1) (k H locs cells slots ls hr hS hl hc hz)
set_option maxHeartbeats 1000000 in
theorem ew_lload (F : ev_fr p R s m args meth c0 A G M d w) (hmet : ev_met l G d w C) (hmw : ev_metW l G d w C) : ru_lload G C w M K (ev_W p l e R s m args below meth c0 Q D A M) := by
  obtain ⟨hx, hb, hml, hown, hts, hG, hnw, hA, hRf, hRl, hret, hnm, hlk⟩ := F
  intro pc L st h c z i x hd hx1 k H locs cells slots ls hr hS hl hc hz
  dsimp only at hr hl hc hz ⊢
  exact lv_lload hx hb hd (hl.at hx1) (k H locs cells slots ls hr hS hl hc hz)
set_option maxHeartbeats 1000000 in
theorem ew_lstore_n (F : ev_fr p R s m args meth c0 A G M d w) (hmet : ev_met l G d w C) (hmw : ev_metW l G d w C) : ru_lstore_n G C w M K (ev_W p l e R s m args below meth c0 Q D A M) := by
  obtain ⟨hx, hb, hml, hown, hts, hG, hnw, hA, hRf, hRl, hret, hnm, hlk⟩ := F
  intro pc L st h c z j x hd hn k H locs cells slots ls hr hS hl hc hz
  dsimp only at hr hl hc hz ⊢
  obtain ⟨lv, hv1, hv2⟩ := hl
  exact lv_lstore_n hx hb hd rfl hv1 (Nat.le_of_ble_eq_true hn) rfl (fun ls2 hl2 => k H locs cells slots ls2 hr hS (ev_lt2 hv2 hl2) hc hz)
set_option maxHeartbeats 1000000 in
theorem ew_lstore (F : ev_fr p R s m args meth c0 A G M d w) (hmet : ev_met l G d w C) (hmw : ev_metW l G d w C) : ru_lstore G C w M K (ev_W p l e R s m args below meth c0 Q D A M) := by
  obtain ⟨hx, hb, hml, hown, hts, hG, hnw, hA, hRf, hRl, hret, hnm, hlk⟩ := F
  intro pc L st h c z i x hd hn k H locs cells slots ls hr hS hl hc hz
  dsimp only at hr hl hc hz ⊢
  obtain ⟨lv, hv1, hv2⟩ := hl
  exact lv_lstore hx hb hd hv1 (Nat.le_of_ble_eq_true hn) rfl (fun ls2 hl2 => k H locs cells slots ls2 hr hS (ev_lt2 hv2 hl2) hc hz)
set_option maxHeartbeats 1000000 in
theorem ew_aload_n (F : ev_fr p R s m args meth c0 A G M d w) (hmet : ev_met l G d w C) (hmw : ev_metW l G d w C) : ru_aload_n G C w M K (ev_W p l e R s m args below meth c0 Q D A M) := by
  obtain ⟨hx, hb, hml, hown, hts, hG, hnw, hA, hRf, hRl, hret, hnm, hlk⟩ := F
  intro pc L st h c z j x hd hx1 k H locs cells slots ls hr hS hl hc hz
  dsimp only at hr hl hc hz ⊢
  exact lv_aload_n hx hb hd rfl (hl.at hx1) (k H locs cells slots ls hr hS hl hc hz)
set_option maxHeartbeats 1000000 in
theorem ew_aload (F : ev_fr p R s m args meth c0 A G M d w) (hmet : ev_met l G d w C) (hmw : ev_metW l G d w C) : ru_aload G C w M K (ev_W p l e R s m args below meth c0 Q D A M) := by
  obtain ⟨hx, hb, hml, hown, hts, hG, hnw, hA, hRf, hRl, hret, hnm, hlk⟩ := F
  intro pc L st h c z i x hd hx1 k H locs cells slots ls hr hS hl hc hz
  dsimp only at hr hl hc hz ⊢
  exact lv_aload hx hb hd (hl.at hx1) (k H locs cells slots ls hr hS hl hc hz)
set_option maxHeartbeats 1000000 in
theorem ew_astore_n (F : ev_fr p R s m args meth c0 A G M d w) (hmet : ev_met l G d w C) (hmw : ev_metW l G d w C) : ru_astore_n G C w M K (ev_W p l e R s m args below meth c0 Q D A M) := by
  obtain ⟨hx, hb, hml, hown, hts, hG, hnw, hA, hRf, hRl, hret, hnm, hlk⟩ := F
  intro pc L st h c z j x hd hn k H locs cells slots ls hr hS hl hc hz
  dsimp only at hr hl hc hz ⊢
  obtain ⟨lv, hv1, hv2⟩ := hl
  exact lv_astore_n hx hb hd rfl hv1 (Nat.le_of_ble_eq_true hn) rfl (fun ls2 hl2 => k H locs cells slots ls2 hr hS (ev_lt1 hv2 hl2) hc hz)
set_option maxHeartbeats 1000000 in
theorem ew_astore (F : ev_fr p R s m args meth c0 A G M d w) (hmet : ev_met l G d w C) (hmw : ev_metW l G d w C) : ru_astore G C w M K (ev_W p l e R s m args below meth c0 Q D A M) := by
  obtain ⟨hx, hb, hml, hown, hts, hG, hnw, hA, hRf, hRl, hret, hnm, hlk⟩ := F
  intro pc L st h c z i x hd hn k H locs cells slots ls hr hS hl hc hz
  dsimp only at hr hl hc hz ⊢
  obtain ⟨lv, hv1, hv2⟩ := hl
  exact lv_astore hx hb hd hv1 (Nat.le_of_ble_eq_true hn) rfl (fun ls2 hl2 => k H locs cells slots ls2 hr hS (ev_lt1 hv2 hl2) hc hz)
set_option maxHeartbeats 1000000 in
theorem ew_iinc (F : ev_fr p R s m args meth c0 A G M d w) (hmet : ev_met l G d w C) (hmw : ev_metW l G d w C) : ru_iinc G C w M K (ev_W p l e R s m args below meth c0 Q D A M) := by
  obtain ⟨hx, hb, hml, hown, hts, hG, hnw, hA, hRf, hRl, hret, hnm, hlk⟩ := F
  intro pc L st h c z i n x hd hx1 hn k H locs cells slots ls hr hS hl hc hz
  dsimp only at hr hl hc hz ⊢
  obtain ⟨lv, hv1, hv2⟩ := hl
  obtain ⟨q, hq⟩ := List.getElem?_of_mem (hv2 _ _ hx1)
  exact lv_iinc hx hb hd hv1 hq rfl (Nat.le_of_ble_eq_true hn) rfl (fun ls2 hl2 => k H locs cells slots ls2 hr hS (ev_lt1 hv2 hl2) hc hz)
set_option maxHeartbeats 1000000 in
theorem ew_iadd (F : ev_fr p R s m args meth c0 A G M d w) (hmet : ev_met l G d w C) (hmw : ev_metW l G d w C) : ru_iadd G C w M K (ev_W p l e R s m args below meth c0 Q D A M) := by
  obtain ⟨hx, hb, hml, hown, hts, hG, hnw, hA, hRf, hRl, hret, hnm, hlk⟩ := F
  intro pc L st h c z x y hd k H locs cells slots ls hr hS hl hc hz
  dsimp only at hr hl hc hz ⊢
  exact lv_iadd hx hb hd  (k H locs cells slots ls hr hS hl hc hz)
set_option maxHeartbeats 1000000 in
theorem ew_isub (F : ev_fr p R s m args meth c0 A G M d w) (hmet : ev_met l G d w C) (hmw : ev_metW l G d w C) : ru_isub G C w M K (ev_W p l e R s m args below meth c0 Q D A M) := by
  obtain ⟨hx, hb, hml, hown, hts, hG, hnw, hA, hRf, hRl, hret, hnm, hlk⟩ := F
  intro pc L st h c z x y hd k H locs cells slots ls hr hS hl hc hz
  dsimp only at hr hl hc hz ⊢
  exact lv_isub hx hb hd  (k H locs cells slots ls hr hS hl hc hz)
set_option maxHeartbeats 1000000 in
theorem ew_imul (F : ev_fr p R s m args meth c0 A G M d w) (hmet : ev_met l G d w C) (hmw : ev_metW l G d w C) : ru_imul G C w M K (ev_W p l e R s m args below meth c0 Q D A M) := by
  obtain ⟨hx, hb, hml, hown, hts, hG, hnw, hA, hRf, hRl, hret, hnm, hlk⟩ := F
  intro pc L st h c z x y hd k H locs cells slots ls hr hS hl hc hz
  dsimp only at hr hl hc hz ⊢
  exact lv_imul hx hb hd  (k H locs cells slots ls hr hS hl hc hz)
set_option maxHeartbeats 1000000 in
theorem ew_iand (F : ev_fr p R s m args meth c0 A G M d w) (hmet : ev_met l G d w C) (hmw : ev_metW l G d w C) : ru_iand G C w M K (ev_W p l e R s m args below meth c0 Q D A M) := by
  obtain ⟨hx, hb, hml, hown, hts, hG, hnw, hA, hRf, hRl, hret, hnm, hlk⟩ := F
  intro pc L st h c z x y hd k H locs cells slots ls hr hS hl hc hz
  dsimp only at hr hl hc hz ⊢
  exact lv_iand hx hb hd  (k H locs cells slots ls hr hS hl hc hz)
set_option maxHeartbeats 1000000 in
theorem ew_ior (F : ev_fr p R s m args meth c0 A G M d w) (hmet : ev_met l G d w C) (hmw : ev_metW l G d w C) : ru_ior G C w M K (ev_W p l e R s m args below meth c0 Q D A M) := by
  obtain ⟨hx, hb, hml, hown, hts, hG, hnw, hA, hRf, hRl, hret, hnm, hlk⟩ := F
  intro pc L st h c z x y hd k H locs cells slots ls hr hS hl hc hz
  dsimp only at hr hl hc hz ⊢
  exact lv_ior hx hb hd  (k H locs cells slots ls hr hS hl hc hz)
set_option maxHeartbeats 1000000 in
theorem ew_ixor (F : ev_fr p R s m args meth c0 A G M d w) (hmet : ev_met l G d w C) (hmw : ev_metW l G d w C) : ru_ixor G C w M K (ev_W p l e R s m args below meth c0 Q D A M) := by
  obtain ⟨hx, hb, hml, hown, hts, hG, hnw, hA, hRf, hRl, hret, hnm, hlk⟩ := F
  intro pc L st h c z x y hd k H locs cells slots ls hr hS hl hc hz
  dsimp only at hr hl hc hz ⊢
  exact lv_ixor hx hb hd  (k H locs cells slots ls hr hS hl hc hz)
set_option maxHeartbeats 1000000 in
theorem ew_ishl (F : ev_fr p R s m args meth c0 A G M d w) (hmet : ev_met l G d w C) (hmw : ev_metW l G d w C) : ru_ishl G C w M K (ev_W p l e R s m args below meth c0 Q D A M) := by
  obtain ⟨hx, hb, hml, hown, hts, hG, hnw, hA, hRf, hRl, hret, hnm, hlk⟩ := F
  intro pc L st h c z x y hd k H locs cells slots ls hr hS hl hc hz
  dsimp only at hr hl hc hz ⊢
  exact lv_ishl hx hb hd  (k H locs cells slots ls hr hS hl hc hz)
set_option maxHeartbeats 1000000 in
theorem ew_ishr (F : ev_fr p R s m args meth c0 A G M d w) (hmet : ev_met l G d w C) (hmw : ev_metW l G d w C) : ru_ishr G C w M K (ev_W p l e R s m args below meth c0 Q D A M) := by
  obtain ⟨hx, hb, hml, hown, hts, hG, hnw, hA, hRf, hRl, hret, hnm, hlk⟩ := F
  intro pc L st h c z x y hd k H locs cells slots ls hr hS hl hc hz
  dsimp only at hr hl hc hz ⊢
  exact lv_ishr hx hb hd  (k H locs cells slots ls hr hS hl hc hz)
set_option maxHeartbeats 1000000 in
theorem ew_iushr (F : ev_fr p R s m args meth c0 A G M d w) (hmet : ev_met l G d w C) (hmw : ev_metW l G d w C) : ru_iushr G C w M K (ev_W p l e R s m args below meth c0 Q D A M) := by
  obtain ⟨hx, hb, hml, hown, hts, hG, hnw, hA, hRf, hRl, hret, hnm, hlk⟩ := F
  intro pc L st h c z x y hd k H locs cells slots ls hr hS hl hc hz
  dsimp only at hr hl hc hz ⊢
  exact lv_iushr hx hb hd rfl (k H locs cells slots ls hr hS hl hc hz)
set_option maxHeartbeats 1000000 in
theorem ew_idiv (F : ev_fr p R s m args meth c0 A G M d w) (hmet : ev_met l G d w C) (hmw : ev_metW l G d w C) : ru_idiv G C w M K (ev_W p l e R s m args below meth c0 Q D A M) := by
  obtain ⟨hx, hb, hml, hown, hts, hG, hnw, hA, hRf, hRl, hret, hnm, hlk⟩ := F
  intro pc L st h c z x y hd hne k H locs cells slots ls hr hS hl hc hz
  dsimp only at hr hl hc hz ⊢
  exact lv_idiv hx hb hd hne (k H locs cells slots ls hr hS hl hc hz)
set_option maxHeartbeats 1000000 in
theorem ew_irem (F : ev_fr p R s m args meth c0 A G M d w) (hmet : ev_met l G d w C) (hmw : ev_metW l G d w C) : ru_irem G C w M K (ev_W p l e R s m args below meth c0 Q D A M) := by
  obtain ⟨hx, hb, hml, hown, hts, hG, hnw, hA, hRf, hRl, hret, hnm, hlk⟩ := F
  intro pc L st h c z x y hd hne k H locs cells slots ls hr hS hl hc hz
  dsimp only at hr hl hc hz ⊢
  exact lv_irem hx hb hd hne (k H locs cells slots ls hr hS hl hc hz)
set_option maxHeartbeats 1000000 in
theorem ew_ineg (F : ev_fr p R s m args meth c0 A G M d w) (hmet : ev_met l G d w C) (hmw : ev_metW l G d w C) : ru_ineg G C w M K (ev_W p l e R s m args below meth c0 Q D A M) := by
  obtain ⟨hx, hb, hml, hown, hts, hG, hnw, hA, hRf, hRl, hret, hnm, hlk⟩ := F
  intro pc L st h c z x hd k H locs cells slots ls hr hS hl hc hz
  dsimp only at hr hl hc hz ⊢
  exact lv_ineg hx hb hd  (k H locs cells slots ls hr hS hl hc hz)
set_option maxHeartbeats 1000000 in
theorem ew_ladd (F : ev_fr p R s m args meth c0 A G M d w) (hmet : ev_met l G d w C) (hmw : ev_metW l G d w C) : ru_ladd G C w M K (ev_W p l e R s m args below meth c0 Q D A M) := by
  obtain ⟨hx, hb, hml, hown, hts, hG, hnw, hA, hRf, hRl, hret, hnm, hlk⟩ := F
  intro pc L st h c z x y hd k H locs cells slots ls hr hS hl hc hz
  dsimp only at hr hl hc hz ⊢
  exact lv_ladd hx hb hd  (k H locs cells slots ls hr hS hl hc hz)
set_option maxHeartbeats 1000000 in
theorem ew_lsub (F : ev_fr p R s m args meth c0 A G M d w) (hmet : ev_met l G d w C) (hmw : ev_metW l G d w C) : ru_lsub G C w M K (ev_W p l e R s m args below meth c0 Q D A M) := by
  obtain ⟨hx, hb, hml, hown, hts, hG, hnw, hA, hRf, hRl, hret, hnm, hlk⟩ := F
  intro pc L st h c z x y hd k H locs cells slots ls hr hS hl hc hz
  dsimp only at hr hl hc hz ⊢
  exact lv_lsub hx hb hd  (k H locs cells slots ls hr hS hl hc hz)
set_option maxHeartbeats 1000000 in
theorem ew_lmul (F : ev_fr p R s m args meth c0 A G M d w) (hmet : ev_met l G d w C) (hmw : ev_metW l G d w C) : ru_lmul G C w M K (ev_W p l e R s m args below meth c0 Q D A M) := by
  obtain ⟨hx, hb, hml, hown, hts, hG, hnw, hA, hRf, hRl, hret, hnm, hlk⟩ := F
  intro pc L st h c z x y hd k H locs cells slots ls hr hS hl hc hz
  dsimp only at hr hl hc hz ⊢
  exact lv_lmul hx hb hd  (k H locs cells slots ls hr hS hl hc hz)
set_option maxHeartbeats 1000000 in
theorem ew_land (F : ev_fr p R s m args meth c0 A G M d w) (hmet : ev_met l G d w C) (hmw : ev_metW l G d w C) : ru_land G C w M K (ev_W p l e R s m args below meth c0 Q D A M) := by
  obtain ⟨hx, hb, hml, hown, hts, hG, hnw, hA, hRf, hRl, hret, hnm, hlk⟩ := F
  intro pc L st h c z x y hd k H locs cells slots ls hr hS hl hc hz
  dsimp only at hr hl hc hz ⊢
  exact lv_land hx hb hd  (k H locs cells slots ls hr hS hl hc hz)
set_option maxHeartbeats 1000000 in
theorem ew_lor (F : ev_fr p R s m args meth c0 A G M d w) (hmet : ev_met l G d w C) (hmw : ev_metW l G d w C) : ru_lor G C w M K (ev_W p l e R s m args below meth c0 Q D A M) := by
  obtain ⟨hx, hb, hml, hown, hts, hG, hnw, hA, hRf, hRl, hret, hnm, hlk⟩ := F
  intro pc L st h c z x y hd k H locs cells slots ls hr hS hl hc hz
  dsimp only at hr hl hc hz ⊢
  exact lv_lor hx hb hd  (k H locs cells slots ls hr hS hl hc hz)
set_option maxHeartbeats 1000000 in
theorem ew_lxor (F : ev_fr p R s m args meth c0 A G M d w) (hmet : ev_met l G d w C) (hmw : ev_metW l G d w C) : ru_lxor G C w M K (ev_W p l e R s m args below meth c0 Q D A M) := by
  obtain ⟨hx, hb, hml, hown, hts, hG, hnw, hA, hRf, hRl, hret, hnm, hlk⟩ := F
  intro pc L st h c z x y hd k H locs cells slots ls hr hS hl hc hz
  dsimp only at hr hl hc hz ⊢
  exact lv_lxor hx hb hd  (k H locs cells slots ls hr hS hl hc hz)
set_option maxHeartbeats 1000000 in
theorem ew_ldiv (F : ev_fr p R s m args meth c0 A G M d w) (hmet : ev_met l G d w C) (hmw : ev_metW l G d w C) : ru_ldiv G C w M K (ev_W p l e R s m args below meth c0 Q D A M) := by
  obtain ⟨hx, hb, hml, hown, hts, hG, hnw, hA, hRf, hRl, hret, hnm, hlk⟩ := F
  intro pc L st h c z x y hd hne k H locs cells slots ls hr hS hl hc hz
  dsimp only at hr hl hc hz ⊢
  exact lv_ldiv hx hb hd hne (k H locs cells slots ls hr hS hl hc hz)
set_option maxHeartbeats 1000000 in
theorem ew_lrem (F : ev_fr p R s m args meth c0 A G M d w) (hmet : ev_met l G d w C) (hmw : ev_metW l G d w C) : ru_lrem G C w M K (ev_W p l e R s m args below meth c0 Q D A M) := by
  obtain ⟨hx, hb, hml, hown, hts, hG, hnw, hA, hRf, hRl, hret, hnm, hlk⟩ := F
  intro pc L st h c z x y hd hne k H locs cells slots ls hr hS hl hc hz
  dsimp only at hr hl hc hz ⊢
  exact lv_lrem hx hb hd hne (k H locs cells slots ls hr hS hl hc hz)
set_option maxHeartbeats 1000000 in
theorem ew_lshl (F : ev_fr p R s m args meth c0 A G M d w) (hmet : ev_met l G d w C) (hmw : ev_metW l G d w C) : ru_lshl G C w M K (ev_W p l e R s m args below meth c0 Q D A M) := by
  obtain ⟨hx, hb, hml, hown, hts, hG, hnw, hA, hRf, hRl, hret, hnm, hlk⟩ := F
  intro pc L st h c z x y hd k H locs cells slots ls hr hS hl hc hz
  dsimp only at hr hl hc hz ⊢
  exact lv_lshl hx hb hd rfl (k H locs cells slots ls hr hS hl hc hz)
set_option maxHeartbeats 1000000 in
theorem ew_lshr (F : ev_fr p R s m args meth c0 A G M d w) (hmet : ev_met l G d w C) (hmw : ev_metW l G d w C) : ru_lshr G C w M K (ev_W p l e R s m args below meth c0 Q D A M) := by
  obtain ⟨hx, hb, hml, hown, hts, hG, hnw, hA, hRf, hRl, hret, hnm, hlk⟩ := F
  intro pc L st h c z x y hd k H locs cells slots ls hr hS hl hc hz
  dsimp only at hr hl hc hz ⊢
  exact lv_lshr hx hb hd rfl (k H locs cells slots ls hr hS hl hc hz)
set_option maxHeartbeats 1000000 in
theorem ew_lushr (F : ev_fr p R s m args meth c0 A G M d w) (hmet : ev_met l G d w C) (hmw : ev_metW l G d w C) : ru_lushr G C w M K (ev_W p l e R s m args below meth c0 Q D A M) := by
  obtain ⟨hx, hb, hml, hown, hts, hG, hnw, hA, hRf, hRl, hret, hnm, hlk⟩ := F
  intro pc L st h c z x y hd k H locs cells slots ls hr hS hl hc hz
  dsimp only at hr hl hc hz ⊢
  exact lv_lushr hx hb hd rfl (k H locs cells slots ls hr hS hl hc hz)
set_option maxHeartbeats 1000000 in
theorem ew_lneg (F : ev_fr p R s m args meth c0 A G M d w) (hmet : ev_met l G d w C) (hmw : ev_metW l G d w C) : ru_lneg G C w M K (ev_W p l e R s m args below meth c0 Q D A M) := by
  obtain ⟨hx, hb, hml, hown, hts, hG, hnw, hA, hRf, hRl, hret, hnm, hlk⟩ := F
  intro pc L st h c z x hd k H locs cells slots ls hr hS hl hc hz
  dsimp only at hr hl hc hz ⊢
  exact lv_lneg hx hb hd  (k H locs cells slots ls hr hS hl hc hz)
set_option maxHeartbeats 1000000 in
theorem ew_i2l (F : ev_fr p R s m args meth c0 A G M d w) (hmet : ev_met l G d w C) (hmw : ev_metW l G d w C) : ru_i2l G C w M K (ev_W p l e R s m args below meth c0 Q D A M) := by
  obtain ⟨hx, hb, hml, hown, hts, hG, hnw, hA, hRf, hRl, hret, hnm, hlk⟩ := F
  intro pc L st h c z x hd k H locs cells slots ls hr hS hl hc hz
  dsimp only at hr hl hc hz ⊢
  exact lv_i2l hx hb hd rfl (k H locs cells slots ls hr hS hl hc hz)
set_option maxHeartbeats 1000000 in
theorem ew_l2i (F : ev_fr p R s m args meth c0 A G M d w) (hmet : ev_met l G d w C) (hmw : ev_metW l G d w C) : ru_l2i G C w M K (ev_W p l e R s m args below meth c0 Q D A M) := by
  obtain ⟨hx, hb, hml, hown, hts, hG, hnw, hA, hRf, hRl, hret, hnm, hlk⟩ := F
  intro pc L st h c z x hd k H locs cells slots ls hr hS hl hc hz
  dsimp only at hr hl hc hz ⊢
  exact lv_l2i hx hb hd rfl (k H locs cells slots ls hr hS hl hc hz)
set_option maxHeartbeats 1000000 in
theorem ew_i2c (F : ev_fr p R s m args meth c0 A G M d w) (hmet : ev_met l G d w C) (hmw : ev_metW l G d w C) : ru_i2c G C w M K (ev_W p l e R s m args below meth c0 Q D A M) := by
  obtain ⟨hx, hb, hml, hown, hts, hG, hnw, hA, hRf, hRl, hret, hnm, hlk⟩ := F
  intro pc L st h c z x hd k H locs cells slots ls hr hS hl hc hz
  dsimp only at hr hl hc hz ⊢
  exact lv_i2c hx hb hd rfl (k H locs cells slots ls hr hS hl hc hz)
set_option maxHeartbeats 1000000 in
theorem ew_i2b (F : ev_fr p R s m args meth c0 A G M d w) (hmet : ev_met l G d w C) (hmw : ev_metW l G d w C) : ru_i2b G C w M K (ev_W p l e R s m args below meth c0 Q D A M) := by
  obtain ⟨hx, hb, hml, hown, hts, hG, hnw, hA, hRf, hRl, hret, hnm, hlk⟩ := F
  intro pc L st h c z x hd k H locs cells slots ls hr hS hl hc hz
  dsimp only at hr hl hc hz ⊢
  exact lv_i2b hx hb hd rfl (k H locs cells slots ls hr hS hl hc hz)
set_option maxHeartbeats 1000000 in
theorem ew_lcmp (F : ev_fr p R s m args meth c0 A G M d w) (hmet : ev_met l G d w C) (hmw : ev_metW l G d w C) : ru_lcmp G C w M K (ev_W p l e R s m args below meth c0 Q D A M) := by
  obtain ⟨hx, hb, hml, hown, hts, hG, hnw, hA, hRf, hRl, hret, hnm, hlk⟩ := F
  intro pc L st h c z x y hd k H locs cells slots ls hr hS hl hc hz
  dsimp only at hr hl hc hz ⊢
  exact W.lcmp hx hb hd  (k H locs cells slots ls hr hS hl hc hz)
set_option maxHeartbeats 1000000 in
theorem ew_dup (F : ev_fr p R s m args meth c0 A G M d w) (hmet : ev_met l G d w C) (hmw : ev_metW l G d w C) : ru_dup G C w M K (ev_W p l e R s m args below meth c0 Q D A M) := by
  obtain ⟨hx, hb, hml, hown, hts, hG, hnw, hA, hRf, hRl, hret, hnm, hlk⟩ := F
  intro pc L st h c z va hd hva k H locs cells slots ls hr hS hl hc hz
  dsimp only at hr hl hc hz ⊢
  exact lv_dup hx hb hd hva (k H locs cells slots ls hr hS hl hc hz)
set_option maxHeartbeats 1000000 in
theorem ew_pop (F : ev_fr p R s m args meth c0 A G M d w) (hmet : ev_met l G d w C) (hmw : ev_metW l G d w C) : ru_pop G C w M K (ev_W p l e R s m args below meth c0 Q D A M) := by
  obtain ⟨hx, hb, hml, hown, hts, hG, hnw, hA, hRf, hRl, hret, hnm, hlk⟩ := F
  intro pc L st h c z va hd hva k H locs cells slots ls hr hS hl hc hz
  dsimp only at hr hl hc hz ⊢
  exact lv_pop hx hb hd hva (k H locs cells slots ls hr hS hl hc hz)
set_option maxHeartbeats 1000000 in
theorem ew_dup_x1 (F : ev_fr p R s m args meth c0 A G M d w) (hmet : ev_met l G d w C) (hmw : ev_metW l G d w C) : ru_dup_x1 G C w M K (ev_W p l e R s m args below meth c0 Q D A M) := by
  obtain ⟨hx, hb, hml, hown, hts, hG, hnw, hA, hRf, hRl, hret, hnm, hlk⟩ := F
  intro pc L st h c z va vb hd hva hvb k H locs cells slots ls hr hS hl hc hz
  dsimp only at hr hl hc hz ⊢
  exact lv_dup_x1 hx hb hd hva hvb (k H locs cells slots ls hr hS hl hc hz)
set_option maxHeartbeats 1000000 in
theorem ew_dup_x2 (F : ev_fr p R s m args meth c0 A G M d w) (hmet : ev_met l G d w C) (hmw : ev_metW l G d w C) : ru_dup_x2 G C w M K (ev_W p l e R s m args below meth c0 Q D A M) := by
  obtain ⟨hx, hb, hml, hown, hts, hG, hnw, hA, hRf, hRl, hret, hnm, hlk⟩ := F
  intro pc L st h c z va vb vd hd hva hvb hvd k H locs cells slots ls hr hS hl hc hz
  dsimp only at hr hl hc hz ⊢
  exact lv_dup_x2 hx hb hd hva hvb hvd (k H locs cells slots ls hr hS hl hc hz)
set_option maxHeartbeats 1000000 in
theorem ew_dup2_11 (F : ev_fr p R s m args meth c0 A G M d w) (hmet : ev_met l G d w C) (hmw : ev_metW l G d w C) : ru_dup2_11 G C w M K (ev_W p l e R s m args below meth c0 Q D A M) := by
  obtain ⟨hx, hb, hml, hown, hts, hG, hnw, hA, hRf, hRl, hret, hnm, hlk⟩ := F
  intro pc L st h c z va vb hd hva hvb k H locs cells slots ls hr hS hl hc hz
  dsimp only at hr hl hc hz ⊢
  exact lv_dup2_11 hx hb hd hva hvb (k H locs cells slots ls hr hS hl hc hz)
set_option maxHeartbeats 1000000 in
theorem ew_dup2_2 (F : ev_fr p R s m args meth c0 A G M d w) (hmet : ev_met l G d w C) (hmw : ev_metW l G d w C) : ru_dup2_2 G C w M K (ev_W p l e R s m args below meth c0 Q D A M) := by
  obtain ⟨hx, hb, hml, hown, hts, hG, hnw, hA, hRf, hRl, hret, hnm, hlk⟩ := F
  intro pc L st h c z va hd hva k H locs cells slots ls hr hS hl hc hz
  dsimp only at hr hl hc hz ⊢
  exact lv_dup2_2 hx hb hd hva (k H locs cells slots ls hr hS hl hc hz)
set_option maxHeartbeats 1000000 in
theorem ew_pop2_2 (F : ev_fr p R s m args meth c0 A G M d w) (hmet : ev_met l G d w C) (hmw : ev_metW l G d w C) : ru_pop2_2 G C w M K (ev_W p l e R s m args below meth c0 Q D A M) := by
  obtain ⟨hx, hb, hml, hown, hts, hG, hnw, hA, hRf, hRl, hret, hnm, hlk⟩ := F
  intro pc L st h c z va hd hva k H locs cells slots ls hr hS hl hc hz
  dsimp only at hr hl hc hz ⊢
  exact lv_pop2_2 hx hb hd hva (k H locs cells slots ls hr hS hl hc hz)
set_option maxHeartbeats 1000000 in
theorem ew_dup2_x1_2 (F : ev_fr p R s m args meth c0 A G M d w) (hmet : ev_met l G d w C) (hmw : ev_metW l G d w C) : ru_dup2_x1_2 G C w M K (ev_W p l e R s m args below meth c0 Q D A M) := by
  obtain ⟨hx, hb, hml, hown, hts, hG, hnw, hA, hRf, hRl, hret, hnm, hlk⟩ := F
  intro pc L st h c z va vb hd hva hvb k H locs cells slots ls hr hS hl hc hz
  dsimp only at hr hl hc hz ⊢
  exact lv_dup2_x1_2 hx hb hd hva hvb (k H locs cells slots ls hr hS hl hc hz)
set_option maxHeartbeats 1000000 in
theorem ew_dup2_x2_2 (F : ev_fr p R s m args meth c0 A G M d w) (hmet : ev_met l G d w C) (hmw : ev_metW l G d w C) : ru_dup2_x2_2 G C w M K (ev_W p l e R s m args below meth c0 Q D A M) := by
  obtain ⟨hx, hb, hml, hown, hts, hG, hnw, hA, hRf, hRl, hret, hnm, hlk⟩ := F
  intro pc L st h c z va vb vd hd hva hvb hvd k H locs cells slots ls hr hS hl hc hz
  dsimp only at hr hl hc hz ⊢
  exact lv_dup2_x2_2 hx hb hd hva hvb hvd (k H locs cells slots ls hr hS hl hc hz)
set_option maxHeartbeats 1000000 in
theorem ew_if_eq (F : ev_fr p R s m args meth c0 A G M d w) (hmet : ev_met l G d w C) (hmw : ev_metW l G d w C) : ru_if_eq G C w M K (ev_W p l e R s m args below meth c0 Q D A M) := by
  obtain ⟨hx, hb, hml, hown, hts, hG, hnw, hA, hRf, hRl, hret, hnm, hlk⟩ := F
  intro pc L st h c z off tgt x hd ht kt kf H locs cells slots ls hr hS hl hc hz
  dsimp only at hr hl hc hz ⊢
  exact lv_if_eq hx hb hd ht (fun q => kt q H locs cells slots ls hr hS hl hc hz) (fun q => kf q H locs cells slots ls hr hS hl hc hz)
set_option maxHeartbeats 1000000 in
theorem ew_icmp_eq (F : ev_fr p R s m args meth c0 A G M d w) (hmet : ev_met l G d w C) (hmw : ev_metW l G d w C) : ru_icmp_eq G C w M K (ev_W p l e R s m args below meth c0 Q D A M) := by
  obtain ⟨hx, hb, hml, hown, hts, hG, hnw, hA, hRf, hRl, hret, hnm, hlk⟩ := F
  intro pc L st h c z off tgt x y hd ht kt kf H locs cells slots ls hr hS hl hc hz
  dsimp only at hr hl hc hz ⊢
  exact lv_icmp_eq hx hb hd ht (fun q => kt q H locs cells slots ls hr hS hl hc hz) (fun q => kf q H locs cells slots ls hr hS hl hc hz)
set_option maxHeartbeats 1000000 in
theorem ew_if_ne (F : ev_fr p R s m args meth c0 A G M d w) (hmet : ev_met l G d w C) (hmw : ev_metW l G d w C) : ru_if_ne G C w M K (ev_W p l e R s m args below meth c0 Q D A M) := by
  obtain ⟨hx, hb, hml, hown, hts, hG, hnw, hA, hRf, hRl, hret, hnm, hlk⟩ := F
  intro pc L st h c z off tgt x hd ht kt kf H locs cells slots ls hr hS hl hc hz
  dsimp only at hr hl hc hz ⊢
  exact lv_if_ne hx hb hd ht (fun q => kt q H locs cells slots ls hr hS hl hc hz) (fun q => kf q H locs cells slots ls hr hS hl hc hz)
set_option maxHeartbeats 1000000 in
theorem ew_icmp_ne (F : ev_fr p R s m args meth c0 A G M d w) (hmet : ev_met l G d w C) (hmw : ev_metW l G d w C) : ru_icmp_ne G C w M K (ev_W p l e R s m args below meth c0 Q D A M) := by
  obtain ⟨hx, hb, hml, hown, hts, hG, hnw, hA, hRf, hRl, hret, hnm, hlk⟩ := F
  intro pc L st h c z off tgt x y hd ht kt kf H locs cells slots ls hr hS hl hc hz
  dsimp only at hr hl hc hz ⊢
  exact lv_icmp_ne hx hb hd ht (fun q => kt q H locs cells slots ls hr hS hl hc hz) (fun q => kf q H locs cells slots ls hr hS hl hc hz)
set_option maxHeartbeats 1000000 in
theorem ew_if_lt (F : ev_fr p R s m args meth c0 A G M d w) (hmet : ev_met l G d w C) (hmw : ev_metW l G d w C) : ru_if_lt G C w M K (ev_W p l e R s m args below meth c0 Q D A M) := by
  obtain ⟨hx, hb, hml, hown, hts, hG, hnw, hA, hRf, hRl, hret, hnm, hlk⟩ := F
  intro pc L st h c z off tgt x hd ht kt kf H locs cells slots ls hr hS hl hc hz
  dsimp only at hr hl hc hz ⊢
  exact lv_if_lt hx hb hd ht (fun q => kt q H locs cells slots ls hr hS hl hc hz) (fun q => kf q H locs cells slots ls hr hS hl hc hz)
set_option maxHeartbeats 1000000 in
theorem ew_icmp_lt (F : ev_fr p R s m args meth c0 A G M d w) (hmet : ev_met l G d w C) (hmw : ev_metW l G d w C) : ru_icmp_lt G C w M K (ev_W p l e R s m args below meth c0 Q D A M) := by
  obtain ⟨hx, hb, hml, hown, hts, hG, hnw, hA, hRf, hRl, hret, hnm, hlk⟩ := F
  intro pc L st h c z off tgt x y hd ht kt kf H locs cells slots ls hr hS hl hc hz
  dsimp only at hr hl hc hz ⊢
  exact lv_icmp_lt hx hb hd ht (fun q => kt q H locs cells slots ls hr hS hl hc hz) (fun q => kf q H locs cells slots ls hr hS hl hc hz)
set_option maxHeartbeats 1000000 in
theorem ew_if_ge (F : ev_fr p R s m args meth c0 A G M d w) (hmet : ev_met l G d w C) (hmw : ev_metW l G d w C) : ru_if_ge G C w M K (ev_W p l e R s m args below meth c0 Q D A M) := by
  obtain ⟨hx, hb, hml, hown, hts, hG, hnw, hA, hRf, hRl, hret, hnm, hlk⟩ := F
  intro pc L st h c z off tgt x hd ht kt kf H locs cells slots ls hr hS hl hc hz
  dsimp only at hr hl hc hz ⊢
  exact lv_if_ge hx hb hd ht (fun q => kt q H locs cells slots ls hr hS hl hc hz) (fun q => kf q H locs cells slots ls hr hS hl hc hz)
set_option maxHeartbeats 1000000 in
theorem ew_icmp_ge (F : ev_fr p R s m args meth c0 A G M d w) (hmet : ev_met l G d w C) (hmw : ev_metW l G d w C) : ru_icmp_ge G C w M K (ev_W p l e R s m args below meth c0 Q D A M) := by
  obtain ⟨hx, hb, hml, hown, hts, hG, hnw, hA, hRf, hRl, hret, hnm, hlk⟩ := F
  intro pc L st h c z off tgt x y hd ht kt kf H locs cells slots ls hr hS hl hc hz
  dsimp only at hr hl hc hz ⊢
  exact lv_icmp_ge hx hb hd ht (fun q => kt q H locs cells slots ls hr hS hl hc hz) (fun q => kf q H locs cells slots ls hr hS hl hc hz)
set_option maxHeartbeats 1000000 in
theorem ew_if_gt (F : ev_fr p R s m args meth c0 A G M d w) (hmet : ev_met l G d w C) (hmw : ev_metW l G d w C) : ru_if_gt G C w M K (ev_W p l e R s m args below meth c0 Q D A M) := by
  obtain ⟨hx, hb, hml, hown, hts, hG, hnw, hA, hRf, hRl, hret, hnm, hlk⟩ := F
  intro pc L st h c z off tgt x hd ht kt kf H locs cells slots ls hr hS hl hc hz
  dsimp only at hr hl hc hz ⊢
  exact lv_if_gt hx hb hd ht (fun q => kt q H locs cells slots ls hr hS hl hc hz) (fun q => kf q H locs cells slots ls hr hS hl hc hz)
set_option maxHeartbeats 1000000 in
theorem ew_icmp_gt (F : ev_fr p R s m args meth c0 A G M d w) (hmet : ev_met l G d w C) (hmw : ev_metW l G d w C) : ru_icmp_gt G C w M K (ev_W p l e R s m args below meth c0 Q D A M) := by
  obtain ⟨hx, hb, hml, hown, hts, hG, hnw, hA, hRf, hRl, hret, hnm, hlk⟩ := F
  intro pc L st h c z off tgt x y hd ht kt kf H locs cells slots ls hr hS hl hc hz
  dsimp only at hr hl hc hz ⊢
  exact lv_icmp_gt hx hb hd ht (fun q => kt q H locs cells slots ls hr hS hl hc hz) (fun q => kf q H locs cells slots ls hr hS hl hc hz)
set_option maxHeartbeats 1000000 in
theorem ew_if_le (F : ev_fr p R s m args meth c0 A G M d w) (hmet : ev_met l G d w C) (hmw : ev_metW l G d w C) : ru_if_le G C w M K (ev_W p l e R s m args below meth c0 Q D A M) := by
  obtain ⟨hx, hb, hml, hown, hts, hG, hnw, hA, hRf, hRl, hret, hnm, hlk⟩ := F
  intro pc L st h c z off tgt x hd ht kt kf H locs cells slots ls hr hS hl hc hz
  dsimp only at hr hl hc hz ⊢
  exact lv_if_le hx hb hd ht (fun q => kt q H locs cells slots ls hr hS hl hc hz) (fun q => kf q H locs cells slots ls hr hS hl hc hz)
set_option maxHeartbeats 1000000 in
theorem ew_icmp_le (F : ev_fr p R s m args meth c0 A G M d w) (hmet : ev_met l G d w C) (hmw : ev_metW l G d w C) : ru_icmp_le G C w M K (ev_W p l e R s m args below meth c0 Q D A M) := by
  obtain ⟨hx, hb, hml, hown, hts, hG, hnw, hA, hRf, hRl, hret, hnm, hlk⟩ := F
  intro pc L st h c z off tgt x y hd ht kt kf H locs cells slots ls hr hS hl hc hz
  dsimp only at hr hl hc hz ⊢
  exact lv_icmp_le hx hb hd ht (fun q => kt q H locs cells slots ls hr hS hl hc hz) (fun q => kf q H locs cells slots ls hr hS hl hc hz)
set_option maxHeartbeats 1000000 in
theorem ew_goto (F : ev_fr p R s m args meth c0 A G M d w) (hmet : ev_met l G d w C) (hmw : ev_metW l G d w C) : ru_goto G C w M K (ev_W p l e R s m args below meth c0 Q D A M) := by
  obtain ⟨hx, hb, hml, hown, hts, hG, hnw, hA, hRf, hRl, hret, hnm, hlk⟩ := F
  intro pc L st h c z off tgt hd ht k H locs cells slots ls hr hS hl hc hz
  dsimp only at hr hl hc hz ⊢
  exact lv_goto hx hb hd ht (k H locs cells slots ls hr hS hl hc hz)
set_option maxHeartbeats 1000000 in
theorem ew_tableIn (F : ev_fr p R s m args meth c0 A G M d w) (hmet : ev_met l G d w C) (hmw : ev_metW l G d w C) : ru_tableIn G C w M K (ev_W p l e R s m args below meth c0 Q D A M) := by
  obtain ⟨hx, hb, hml, hown, hts, hG, hnw, hA, hRf, hRl, hret, hnm, hlk⟩ := F
  intro pc L st h c z dflt lo hi offs len x off tgt hd h1 h2 ho ht k H locs cells slots ls hr hS hl hc hz
  dsimp only at hr hl hc hz ⊢
  exact lv_tableIn hx hb hd h1 h2 ho ht (k H locs cells slots ls hr hS hl hc hz)
set_option maxHeartbeats 1000000 in
theorem ew_tableOut (F : ev_fr p R s m args meth c0 A G M d w) (hmet : ev_met l G d w C) (hmw : ev_metW l G d w C) : ru_tableOut G C w M K (ev_W p l e R s m args below meth c0 Q D A M) := by
  obtain ⟨hx, hb, hml, hown, hts, hG, hnw, hA, hRf, hRl, hret, hnm, hlk⟩ := F
  intro pc L st h c z dflt lo hi offs len x tgt hd h1 ht k H locs cells slots ls hr hS hl hc hz
  dsimp only at hr hl hc hz ⊢
  exact lv_tableOut hx hb hd h1 ht (k H locs cells slots ls hr hS hl hc hz)
set_option maxHeartbeats 1000000 in
theorem ew_iald (F : ev_fr p R s m args meth c0 A G M d w) (hmet : ev_met l G d w C) (hmw : ev_metW l G d w C) : ru_iald G C w M K (ev_W p l e R s m args below meth c0 Q D A M) := by
  obtain ⟨hx, hb, hml, hown, hts, hG, hnw, hA, hRf, hRl, hret, hnm, hlk⟩ := F
  intro pc L st h c z a n f i hd ha hi k H locs cells slots ls hr hS hl hc hz
  dsimp only at hr hl hc hz ⊢
  obtain ⟨ws, tys, hP, hK, hD, hR⟩ := id hr
  obtain ⟨q0, cA, t0, h1, h2⟩ := ev_arr hR ha
  exact va_iald hx hb hK hP q0 t0 h1 h2 hi hd (k H locs cells slots ls hr hS hl hc hz)
set_option maxHeartbeats 1000000 in
theorem ew_cald (F : ev_fr p R s m args meth c0 A G M d w) (hmet : ev_met l G d w C) (hmw : ev_metW l G d w C) : ru_cald G C w M K (ev_W p l e R s m args below meth c0 Q D A M) := by
  obtain ⟨hx, hb, hml, hown, hts, hG, hnw, hA, hRf, hRl, hret, hnm, hlk⟩ := F
  intro pc L st h c z a n f i hd ha hi k H locs cells slots ls hr hS hl hc hz
  dsimp only at hr hl hc hz ⊢
  obtain ⟨ws, tys, hP, hK, hD, hR⟩ := id hr
  obtain ⟨q0, cA, t0, h1, h2⟩ := ev_arr hR ha
  exact va_cald hx hb hK hP q0 t0 h1 h2 hi hd (k H locs cells slots ls hr hS hl hc hz)
set_option maxHeartbeats 1000000 in
theorem ew_bald (F : ev_fr p R s m args meth c0 A G M d w) (hmet : ev_met l G d w C) (hmw : ev_metW l G d w C) : ru_bald G C w M K (ev_W p l e R s m args below meth c0 Q D A M) := by
  obtain ⟨hx, hb, hml, hown, hts, hG, hnw, hA, hRf, hRl, hret, hnm, hlk⟩ := F
  intro pc L st h c z a n f i hd ha hi k H locs cells slots ls hr hS hl hc hz
  dsimp only at hr hl hc hz ⊢
  obtain ⟨ws, tys, hP, hK, hD, hR⟩ := id hr
  obtain ⟨q0, cA, t0, h1, h2⟩ := ev_arr hR ha
  exact va_bald hx hb hK hP q0 t0 h1 h2 hi hd (k H locs cells slots ls hr hS hl hc hz)
set_option maxHeartbeats 1000000 in
theorem ew_zald (F : ev_fr p R s m args meth c0 A G M d w) (hmet : ev_met l G d w C) (hmw : ev_metW l G d w C) : ru_zald G C w M K (ev_W p l e R s m args below meth c0 Q D A M) := by
  obtain ⟨hx, hb, hml, hown, hts, hG, hnw, hA, hRf, hRl, hret, hnm, hlk⟩ := F
  intro pc L st h c z a n f i hd ha hi k H locs cells slots ls hr hS hl hc hz
  dsimp only at hr hl hc hz ⊢
  obtain ⟨ws, tys, hP, hK, hD, hR⟩ := id hr
  obtain ⟨q0, cA, t0, h1, h2⟩ := ev_arr hR ha
  exact va_zald hx hb hK hP q0 t0 h1 h2 hi hd (k H locs cells slots ls hr hS hl hc hz)
set_option maxHeartbeats 1000000 in
theorem ew_lald (F : ev_fr p R s m args meth c0 A G M d w) (hmet : ev_met l G d w C) (hmw : ev_metW l G d w C) : ru_lald G C w M K (ev_W p l e R s m args below meth c0 Q D A M) := by
  obtain ⟨hx, hb, hml, hown, hts, hG, hnw, hA, hRf, hRl, hret, hnm, hlk⟩ := F
  intro pc L st h c z a n f i hd ha hi k H locs cells slots ls hr hS hl hc hz
  dsimp only at hr hl hc hz ⊢
  obtain ⟨ws, tys, hP, hK, hD, hR⟩ := id hr
  obtain ⟨q0, cA, t0, h1, h2⟩ := ev_arr hR ha
  exact va_lald hx hb hK hP q0 t0 h1 h2 hi hd (k H locs cells slots ls hr hS hl hc hz)
set_option maxHeartbeats 1000000 in
theorem ew_aald (F : ev_fr p R s m args meth c0 A G M d w) (hmet : ev_met l G d w C) (hmw : ev_metW l G d w C) : ru_aald G C w M K (ev_W p l e R s m args below meth c0 Q D A M) := by
  obtain ⟨hx, hb, hml, hown, hts, hG, hnw, hA, hRf, hRl, hret, hnm, hlk⟩ := F
  intro pc L st h c z a n q f i hd ha hi hf k H locs cells slots ls hr hS hl hc hz
  dsimp only at hr hl hc hz ⊢
  obtain ⟨ws, tys, hP, hK, hD, hR⟩ := id hr
  obtain ⟨q0, cA, t0, h1, h2⟩ := ev_arr hR ha
  have hlt : i.toNatClampNeg < n := Nat.not_le.mp (fun z => hi (Or.inr z))
  exact W.aald hx hb (hP q0 _ h1) ((hK.2 t0 _ h2).1 n (fun j => va_rf (f j))) rfl (fun z => by cases z) (by show ¬ (i < 0 ∨ (arrV _ _ _).slots.size ≤ _); rw [arrV_size]; exact hi) (by show (arrV _ _ _).slots[_]? = _; rw [arrV_read _ _ hlt, hf]; rfl) rfl rfl hd (k H locs cells slots ls hr hS hl hc hz)
set_option maxHeartbeats 1000000 in
theorem ew_iast (F : ev_fr p R s m args meth c0 A G M d w) (hmet : ev_met l G d w C) (hmw : ev_metW l G d w C) : ru_iast G C w M K (ev_W p l e R s m args below meth c0 Q D A M) := by
  obtain ⟨hx, hb, hml, hown, hts, hG, hnw, hA, hRf, hRl, hret, hnm, hlk⟩ := F
  intro pc L st h c z a n f i x hd ha hi k H locs cells slots ls hr hS hl hc hz
  dsimp only at hr hl hc hz ⊢
  obtain ⟨ws, tys, hP, hK, hD, hR⟩ := id hr
  obtain ⟨q0, cA, t0, h1, h2⟩ := ev_arr hR ha
  exact va_iast hx hb hK hP hD hS q0 t0 h1 h2 hi hd (fun H1 locs1 hP1 hD1 hS1 => k H1 locs1 cells slots ls ⟨_, tys, hP1, hK, hD1, ev_set hD hR h1 ⟨rfl, t0, h2⟩⟩ hS1 hl hc hz)
set_option maxHeartbeats 1000000 in
theorem ew_cast (F : ev_fr p R s m args meth c0 A G M d w) (hmet : ev_met l G d w C) (hmw : ev_metW l G d w C) : ru_cast G C w M K (ev_W p l e R s m args below meth c0 Q D A M) := by
  obtain ⟨hx, hb, hml, hown, hts, hG, hnw, hA, hRf, hRl, hret, hnm, hlk⟩ := F
  intro pc L st h c z a n f i x hd ha hi k H locs cells slots ls hr hS hl hc hz
  dsimp only at hr hl hc hz ⊢
  obtain ⟨ws, tys, hP, hK, hD, hR⟩ := id hr
  obtain ⟨q0, cA, t0, h1, h2⟩ := ev_arr hR ha
  exact va_cast hx hb hK hP hD hS q0 t0 h1 h2 hi hd (fun H1 locs1 hP1 hD1 hS1 => k H1 locs1 cells slots ls ⟨_, tys, hP1, hK, hD1, ev_set hD hR h1 ⟨rfl, t0, h2⟩⟩ hS1 hl hc hz)
set_option maxHeartbeats 1000000 in
theorem ew_zast (F : ev_fr p R s m args meth c0 A G M d w) (hmet : ev_met l G d w C) (hmw : ev_metW l G d w C) : ru_zast G C w M K (ev_W p l e R s m args below meth c0 Q D A M) := by
  obtain ⟨hx, hb, hml, hown, hts, hG, hnw, hA, hRf, hRl, hret, hnm, hlk⟩ := F
  intro pc L st h c z a n f i x hd ha hi k H locs cells slots ls hr hS hl hc hz
  dsimp only at hr hl hc hz ⊢
  obtain ⟨ws, tys, hP, hK, hD, hR⟩ := id hr
  obtain ⟨q0, cA, t0, h1, h2⟩ := ev_arr hR ha
  exact va_zast hx hb hK hP hD hS q0 t0 h1 h2 hi hd (fun H1 locs1 hP1 hD1 hS1 => k H1 locs1 cells slots ls ⟨_, tys, hP1, hK, hD1, ev_set hD hR h1 ⟨rfl, t0, h2⟩⟩ hS1 hl hc hz)
set_option maxHeartbeats 1000000 in
theorem ew_bast (F : ev_fr p R s m args meth c0 A G M d w) (hmet : ev_met l G d w C) (hmw : ev_metW l G d w C) : ru_bast G C w M K (ev_W p l e R s m args below meth c0 Q D A M) := by
  obtain ⟨hx, hb, hml, hown, hts, hG, hnw, hA, hRf, hRl, hret, hnm, hlk⟩ := F
  intro pc L st h c z a n f i x hd ha hi k H locs cells slots ls hr hS hl hc hz
  dsimp only at hr hl hc hz ⊢
  obtain ⟨ws, tys, hP, hK, hD, hR⟩ := id hr
  obtain ⟨q0, cA, t0, h1, h2⟩ := ev_arr hR ha
  exact va_bast hx hb hK hP hD hS q0 t0 h1 h2 hi hd (fun H1 locs1 hP1 hD1 hS1 => k H1 locs1 cells slots ls ⟨_, tys, hP1, hK, hD1, ev_set hD hR h1 ⟨rfl, t0, h2⟩⟩ hS1 hl hc hz)
set_option maxHeartbeats 1000000 in
theorem ew_last (F : ev_fr p R s m args meth c0 A G M d w) (hmet : ev_met l G d w C) (hmw : ev_metW l G d w C) : ru_last G C w M K (ev_W p l e R s m args below meth c0 Q D A M) := by
  obtain ⟨hx, hb, hml, hown, hts, hG, hnw, hA, hRf, hRl, hret, hnm, hlk⟩ := F
  intro pc L st h c z a n f i x hd ha hi k H locs cells slots ls hr hS hl hc hz
  dsimp only at hr hl hc hz ⊢
  obtain ⟨ws, tys, hP, hK, hD, hR⟩ := id hr
  obtain ⟨q0, cA, t0, h1, h2⟩ := ev_arr hR ha
  exact va_last hx hb hK hP hD hS q0 t0 h1 h2 hi hd (fun H1 locs1 hP1 hD1 hS1 => k H1 locs1 cells slots ls ⟨_, tys, hP1, hK, hD1, ev_set hD hR h1 ⟨rfl, t0, h2⟩⟩ hS1 hl hc hz)
set_option maxHeartbeats 1000000 in
theorem ew_alen (F : ev_fr p R s m args meth c0 A G M d w) (hmet : ev_met l G d w C) (hmw : ev_metW l G d w C) : ru_alen G C w M K (ev_W p l e R s m args below meth c0 Q D A M) := by
  obtain ⟨hx, hb, hml, hown, hts, hG, hnw, hA, hRf, hRl, hret, hnm, hlk⟩ := F
  intro pc L st h c z a ft x hd ha k H locs cells slots ls hr hS hl hc hz
  dsimp only at hr hl hc hz ⊢
  obtain ⟨ws, tys, hP, hK, hD, hR⟩ := id hr
  obtain ⟨q0, cA, t0, h1, h2⟩ := ev_arr hR ha
  exact va_alen hx hb hK hP q0 t0 h1 h2 rfl hd (k H locs cells slots ls hr hS hl hc hz)
set_option maxHeartbeats 1000000 in
theorem ew_riald (F : ev_fr p R s m args meth c0 A G M d w) (hmet : ev_met l G d w C) (hmw : ev_metW l G d w C) : ru_riald G C w M K (ev_W p l e R s m args below meth c0 Q D A M) := by
  obtain ⟨hx, hb, hml, hown, hts, hG, hnw, hA, hRf, hRl, hret, hnm, hlk⟩ := F
  intro pc L st h c z a n f i hd ha hi k H locs cells slots ls hr hS hl hc hz
  dsimp only at hr hl hc hz ⊢
  exact va_ti hx hb (hG.1 _ _ _ ha) hS hi rfl hd (k H locs cells slots ls hr hS hl hc hz)
set_option maxHeartbeats 1000000 in
theorem ew_ralen (F : ev_fr p R s m args meth c0 A G M d w) (hmet : ev_met l G d w C) (hmw : ev_metW l G d w C) : ru_ralen G C w M K (ev_W p l e R s m args below meth c0 Q D A M) := by
  obtain ⟨hx, hb, hml, hown, hts, hG, hnw, hA, hRf, hRl, hret, hnm, hlk⟩ := F
  intro pc L st h c z a n f hd ha k H locs cells slots ls hr hS hl hc hz
  dsimp only at hr hl hc hz ⊢
  exact va_tlen hx hb (hG.1 _ _ _ ha) hS rfl hd (k H locs cells slots ls hr hS hl hc hz)
set_option maxHeartbeats 1000000 in
theorem ew_gets (F : ev_fr p R s m args meth c0 A G M d w) (hmet : ev_met l G d w C) (hmw : ev_metW l G d w C) : ru_gets G C w M K (ev_W p l e R s m args below meth c0 Q D A M) := by
  obtain ⟨hx, hb, hml, hown, hts, hG, hnw, hA, hRf, hRl, hret, hnm, hlk⟩ := F
  intro pc L st h c z i Cn n d a hd hw ha k H locs cells slots ls hr hS hl hc hz
  dsimp only at hr hl hc hz ⊢
  exact va_gets hx hb (hG.2.1 _ _ _ _ ha) hS hown (hts _ hw) (fun _ q => q) hd (k H locs cells slots ls hr hS hl hc hz)
set_option maxHeartbeats 1000000 in
theorem ew_getf (F : ev_fr p R s m args meth c0 A G M d w) (hmet : ev_met l G d w C) (hmw : ev_metW l G d w C) : ru_getf G C w M K (ev_W p l e R s m args below meth c0 Q D A M) := by
  obtain ⟨hx, hb, hml, hown, hts, hG, hnw, hA, hRf, hRl, hret, hnm, hlk⟩ := F
  intro pc L st h c z i a ci kf fs v hd hw ha hv k H locs cells slots ls hr hS hl hc hz
  dsimp only at hr hl hc hz ⊢
  obtain ⟨C, T, N, w1, w2, w3⟩ := hw
  obtain ⟨ws, tys, hP, hK, hD, hR⟩ := id hr
  obtain ⟨q0, h1⟩ := ev_obj hR ha
  exact va_get hx hb hts (ev_cl w1).1 hown hK hP q0 h1 w1 kf w2 (hts _ w3) (fun _ q => q) hv hd (k H locs cells slots ls hr hS hl hc hz)
set_option maxHeartbeats 1000000 in
theorem ew_putf (F : ev_fr p R s m args meth c0 A G M d w) (hmet : ev_met l G d w C) (hmw : ev_metW l G d w C) : ru_putf G C w M K (ev_W p l e R s m args below meth c0 Q D A M) := by
  obtain ⟨hx, hb, hml, hown, hts, hG, hnw, hA, hRf, hRl, hret, hnm, hlk⟩ := F
  intro pc L st h c z i a ci kf ty fs v hd hw ha hl1 hn hf k H locs cells slots ls hr hS hl hc hz
  dsimp only at hr hl hc hz ⊢
  obtain ⟨C, T, N, w1, w2, w3, w4, w5⟩ := hw
  obtain ⟨ws, tys, hP, hK, hD, hR⟩ := id hr
  obtain ⟨q0, h1⟩ := ev_obj hR ha
  obtain ⟨g1, g2, tt, g3⟩ := ev_cl w1
  exact va_put hx hb hts g1 tt g3 g2 hown hK hP hD hS q0 h1 w1 kf w2 (hts _ w3) (fun _ q => q) w4 w5 hn hf (Nat.le_of_ble_eq_true hl1) hd (fun H1 locs1 hP1 hD1 hS1 => k H1 locs1 cells slots ls ⟨_, tys, hP1, hK, hD1, ev_set hD hR h1 rfl⟩ hS1 hl hc hz)
set_option maxHeartbeats 1000000 in
theorem ew_putF (F : ev_fr p R s m args meth c0 A G M d w) (hmet : ev_met l G d w C) (hmw : ev_metW l G d w C) : ru_putF G C w M K (ev_W p l e R s m args below meth c0 Q D A M) := by
  obtain ⟨hx, hb, hml, hown, hts, hG, hnw, hA, hRf, hRl, hret, hnm, hlk⟩ := F
  intro pc L st h c z i a ci kf ty fs v hd hw hi ha hl1 hn hf k H locs cells slots ls hr hS hl hc hz
  dsimp only at hr hl hc hz ⊢
  obtain ⟨C, T, N, w1, w2, w3, w4, w5, w6⟩ := hw
  obtain ⟨ws, tys, hP, hK, hD, hR⟩ := id hr
  obtain ⟨q0, h1⟩ := ev_obj hR ha
  obtain ⟨g1, g2, tt, g3⟩ := ev_cl w1
  exact va_putF hx hb hts g1 tt g3 g2 hown hK hP hD hS q0 h1 w1 kf w2 (hts _ w3) (fun _ q => q) w4 (hnm.trans hi) w6 w5 hn hf (Nat.le_of_ble_eq_true hl1) hd (fun H1 locs1 hP1 hD1 hS1 => k H1 locs1 cells slots ls ⟨_, tys, hP1, hK, hD1, ev_set hD hR h1 rfl⟩ hS1 hl hc hz)
set_option maxHeartbeats 1000000 in
theorem ew_newi (F : ev_fr p R s m args meth c0 A G M d w) (hmet : ev_met l G d w C) (hmw : ev_metW l G d w C) : ru_newi G C w M K (ev_W p l e R s m args below meth c0 Q D A M) := by
  obtain ⟨hx, hb, hml, hown, hts, hG, hnw, hA, hRf, hRl, hret, hnm, hlk⟩ := F
  intro pc L st h c z n N hd hw hn hN hB k H locs cells slots ls hr hS hl hc hz
  dsimp only at hr hl hc hz ⊢
  obtain ⟨ws, tys, hP, hK, hD, hR⟩ := id hr
  refine va_newa (atype := .int) (a0 := (N, .inl (fun _ => 0))) hx hb (hts _ hw) rfl hK hP hD hS hA (fun cA => rfl) hn hN (by show N * componentBytes .int ≤ 536870912; have := Nat.mul_le_mul_left N (show componentBytes .int ≤ 8 by decide); omega) (by omega) (by omega) hd (fun q cA H1 hK1 hP1 hD1 hS1 => ?_)
  obtain ⟨f1, f2⟩ := ev_push hP hD hD1 hR (c := .inl (.int, N, .inl (fun _ => 0))) (tys2 := [(cA, .int)]) ⟨rfl, ev_lastty⟩
  exact k q f1 H1 locs _ _ ls ⟨_, _, hP1, hK1, hD1, f2⟩ hS1 hl (by dsimp only; omega) (by dsimp only; omega)
set_option maxHeartbeats 1000000 in
theorem ew_newc (F : ev_fr p R s m args meth c0 A G M d w) (hmet : ev_met l G d w C) (hmw : ev_metW l G d w C) : ru_newc G C w M K (ev_W p l e R s m args below meth c0 Q D A M) := by
  obtain ⟨hx, hb, hml, hown, hts, hG, hnw, hA, hRf, hRl, hret, hnm, hlk⟩ := F
  intro pc L st h c z n N hd hw hn hN hB k H locs cells slots ls hr hS hl hc hz
  dsimp only at hr hl hc hz ⊢
  obtain ⟨ws, tys, hP, hK, hD, hR⟩ := id hr
  refine va_newa (atype := .char) (a0 := (N, .inl (fun _ => 0))) hx hb (hts _ hw) rfl hK hP hD hS hA (fun cA => rfl) hn hN (by show N * componentBytes .char ≤ 536870912; have := Nat.mul_le_mul_left N (show componentBytes .char ≤ 8 by decide); omega) (by omega) (by omega) hd (fun q cA H1 hK1 hP1 hD1 hS1 => ?_)
  obtain ⟨f1, f2⟩ := ev_push hP hD hD1 hR (c := .inl (.char, N, .inl (fun _ => 0))) (tys2 := [(cA, .char)]) ⟨rfl, ev_lastty⟩
  exact k q f1 H1 locs _ _ ls ⟨_, _, hP1, hK1, hD1, f2⟩ hS1 hl (by dsimp only; omega) (by dsimp only; omega)
set_option maxHeartbeats 1000000 in
theorem ew_newl (F : ev_fr p R s m args meth c0 A G M d w) (hmet : ev_met l G d w C) (hmw : ev_metW l G d w C) : ru_newl G C w M K (ev_W p l e R s m args below meth c0 Q D A M) := by
  obtain ⟨hx, hb, hml, hown, hts, hG, hnw, hA, hRf, hRl, hret, hnm, hlk⟩ := F
  intro pc L st h c z n N hd hw hn hN hB k H locs cells slots ls hr hS hl hc hz
  dsimp only at hr hl hc hz ⊢
  obtain ⟨ws, tys, hP, hK, hD, hR⟩ := id hr
  refine va_newa (atype := .long) (a0 := (N, .inr (.inl (fun _ => 0)))) hx hb (hts _ hw) rfl hK hP hD hS hA (fun cA => rfl) hn hN (by show N * componentBytes .long ≤ 536870912; have := Nat.mul_le_mul_left N (show componentBytes .long ≤ 8 by decide); omega) (by omega) (by omega) hd (fun q cA H1 hK1 hP1 hD1 hS1 => ?_)
  obtain ⟨f1, f2⟩ := ev_push hP hD hD1 hR (c := .inl (.long, N, .inr (.inl (fun _ => 0)))) (tys2 := [(cA, .long)]) ⟨rfl, ev_lastty⟩
  exact k q f1 H1 locs _ _ ls ⟨_, _, hP1, hK1, hD1, f2⟩ hS1 hl (by dsimp only; omega) (by dsimp only; omega)
set_option maxHeartbeats 1000000 in
theorem ew_newz (F : ev_fr p R s m args meth c0 A G M d w) (hmet : ev_met l G d w C) (hmw : ev_metW l G d w C) : ru_newz G C w M K (ev_W p l e R s m args below meth c0 Q D A M) := by
  obtain ⟨hx, hb, hml, hown, hts, hG, hnw, hA, hRf, hRl, hret, hnm, hlk⟩ := F
  intro pc L st h c z n N hd hw hn hN hB k H locs cells slots ls hr hS hl hc hz
  dsimp only at hr hl hc hz ⊢
  obtain ⟨ws, tys, hP, hK, hD, hR⟩ := id hr
  refine va_newa (atype := .boolean) (a0 := (N, .inl (fun _ => 0))) hx hb (hts _ hw) rfl hK hP hD hS hA (fun cA => rfl) hn hN (by show N * componentBytes .boolean ≤ 536870912; have := Nat.mul_le_mul_left N (show componentBytes .boolean ≤ 8 by decide); omega) (by omega) (by omega) hd (fun q cA H1 hK1 hP1 hD1 hS1 => ?_)
  obtain ⟨f1, f2⟩ := ev_push hP hD hD1 hR (c := .inl (.boolean, N, .inl (fun _ => 0))) (tys2 := [(cA, .boolean)]) ⟨rfl, ev_lastty⟩
  exact k q f1 H1 locs _ _ ls ⟨_, _, hP1, hK1, hD1, f2⟩ hS1 hl (by dsimp only; omega) (by dsimp only; omega)
set_option maxHeartbeats 1000000 in
theorem ew_new (F : ev_fr p R s m args meth c0 A G M d w) (hmet : ev_met l G d w C) (hmw : ev_metW l G d w C) : ru_new G C w M K (ev_W p l e R s m args below meth c0 Q D A M) := by
  obtain ⟨hx, hb, hml, hown, hts, hG, hnw, hA, hRf, hRl, hret, hnm, hlk⟩ := F
  intro pc L st h c z i ci N fs hd hw k H locs cells slots ls hr hS hl hc hz
  dsimp only at hr hl hc hz ⊢
  obtain ⟨C, T, w1, w2, w3, w4, tt, w5, w6⟩ := hw
  obtain ⟨ws, tys, hP, hK, hD, hR⟩ := id hr
  obtain ⟨g1, g2, -, -⟩ := ev_cl w1
  refine va_new hx hb hts g1 tt w5 hown (hts _ w2) (hts _ w3) (hts _ w4) hK hP hD hS hA w1 w6 (by omega) (by omega) hd (fun q H1 hP1 hD1 hS1 => ?_)
  obtain ⟨f1, f2⟩ := ev_push hP hD hD1 hR (c := .inr (ci, fs)) (tys2 := []) rfl
  rw [List.append_nil] at f2
  exact k q f1 H1 locs _ _ ls ⟨_, _, hP1, hK, hD1, f2⟩ hS1 hl (by dsimp only; omega) (by dsimp only; omega)
set_option maxHeartbeats 1000000 in
theorem ew_mna (F : ev_fr p R s m args meth c0 A G M d w) (hmet : ev_met l G d w C) (hmw : ev_metW l G d w C) : ru_mna G C w M K (ev_W p l e R s m args below meth c0 Q D A M) := by
  obtain ⟨hx, hb, hml, hown, hts, hG, hnw, hA, hRf, hRl, hret, hnm, hlk⟩ := F
  intro pc L st h c z i hd hw k H locs cells slots ls hr hS hl hc hz
  dsimp only at hr hl hc hz ⊢
  obtain ⟨ws, tys, hP, hK, hD, hR⟩ := id hr
  refine mn_W hx hb hown (hts _ hw.1) (show (Cond.arrayOver (.array .int)).before args s = true from hnw.1 _ hw.2.1) (hts _ hw.2.2) hK hP hD hS hA (by omega) (by omega) hd (fun cA cy H1 locs1 hK1 hP1 hD1 hS1 => ?_)
  obtain ⟨f1, f2⟩ := ev_push4 (cA := cA) (cy := cy) hP hR
  exact k H.size f1 H1 locs1 _ _ ls ⟨_, _, hP1, hK1, hD1, f2⟩ hS1 hl (by dsimp only; omega) (by dsimp only; omega)
set_option maxHeartbeats 1000000 in
theorem ew_iret (F : ev_fr p R s m args meth c0 A G M d w) (hmet : ev_met l G d w C) (hmw : ev_metW l G d w C) : ru_iret G C w M K (ev_W p l e R s m args below meth c0 (MQ below (ev_Qc D A K) args s R.cells R.slots A) D A M) := by
  obtain ⟨hx, hb, hml, hown, hts, hG, hnw, hA, hRf, hRl, hret, hnm, hlk⟩ := F
  intro pc L h c z x ty hd hr1 hn hk  H locs cells slots ls hr hS hl hc hz
  dsimp only at hr hl hc hz ⊢
  exact W.widen (k := R.cells) (n := R.slots) (by omega) (by omega) (W.zret hx hb (hret.trans hr1) hn (fun t ht hW => ev_end hS ht (ev_kend hr hW ht) hk) (fun q hq => hS.2.2 q hq) hd hlk)
set_option maxHeartbeats 1000000 in
theorem ew_lret (F : ev_fr p R s m args meth c0 A G M d w) (hmet : ev_met l G d w C) (hmw : ev_metW l G d w C) : ru_lret G C w M K (ev_W p l e R s m args below meth c0 (MQ below (ev_Qc D A K) args s R.cells R.slots A) D A M) := by
  obtain ⟨hx, hb, hml, hown, hts, hG, hnw, hA, hRf, hRl, hret, hnm, hlk⟩ := F
  intro pc L h c z x hd hr1 hk  H locs cells slots ls hr hS hl hc hz
  dsimp only at hr hl hc hz ⊢
  exact W.widen (k := R.cells) (n := R.slots) (by omega) (by omega) (W.lret hx hb (hret.trans hr1) (fun t ht hW => ev_end hS ht (ev_kend hr hW ht) hk) (fun q hq => hS.2.2 q hq) hd hlk)
set_option maxHeartbeats 1000000 in
theorem ew_aret (F : ev_fr p R s m args meth c0 A G M d w) (hmet : ev_met l G d w C) (hmw : ev_metW l G d w C) : ru_aret G C w M K (ev_W p l e R s m args below meth c0 (MQ below (ev_Qc D A K) args s R.cells R.slots A) D A M) := by
  obtain ⟨hx, hb, hml, hown, hts, hG, hnw, hA, hRf, hRl, hret, hnm, hlk⟩ := F
  intro pc L h c z x ty hd hr1 hrt hk  H locs cells slots ls hr hS hl hc hz
  dsimp only at hr hl hc hz ⊢
  exact W.widen (k := R.cells) (n := R.slots) (by omega) (by omega) (W.aret hx hb (hret.trans hr1) hrt (Or.inr ⟨x, rfl⟩) (fun t ht hW => ev_end hS ht (ev_kend hr hW ht) hk) (fun q hq => hS.2.2 q hq) hd hlk)
set_option maxHeartbeats 1000000 in
theorem ew_vret (F : ev_fr p R s m args meth c0 A G M d w) (hmet : ev_met l G d w C) (hmw : ev_metW l G d w C) : ru_vret G C w M K (ev_W p l e R s m args below meth c0 (MQ below (ev_Qc D A K) args s R.cells R.slots A) D A M) := by
  obtain ⟨hx, hb, hml, hown, hts, hG, hnw, hA, hRf, hRl, hret, hnm, hlk⟩ := F
  intro pc L h c z hd hr1 hk  H locs cells slots ls hr hS hl hc hz
  dsimp only at hr hl hc hz ⊢
  exact W.widen (k := R.cells) (n := R.slots) (by omega) (by omega) (W.vret hx hb (hret.trans hr1) (fun t ht hW => ev_end hS ht (ev_kend hr hW ht) hk) (fun q hq => hS.2.2 q hq) hd hlk)
set_option maxHeartbeats 1000000 in
theorem ew_callV (F : ev_fr p R s m args meth c0 A G M d w) (hmet : ev_met l G d w C) (hmw : ev_metW l G d w C) : ru_callV G C w M K (ev_W p l e R s m args below meth c0 Q D A M) := by
  obtain ⟨hx, hb, hml, hown, hts, hG, hnw, hA, hRf, hRl, hret, hnm, hlk⟩ := F
  intro pc L st h c z i c1 z1 b ci fs N As stk post hd hw hs hq hb1 hci hC hc1 hz1 k H locs cells slots ls hr hS hl hc hz
  dsimp only at hr hl hc hz ⊢
  obtain ⟨w2, hw2, hM⟩ := hmet _ _ _ _ _ _ hC (fun _ _ z => z)
  obtain ⟨ws, tys, hP, hK, hD, hR⟩ := id hr
  subst hs
  replace hc1 := Nat.le_of_ble_eq_true hc1
  replace hz1 := Nat.le_of_ble_eq_true hz1
  obtain ⟨q0, h1⟩ := ev_obj hR hb1
  obtain ⟨w1, w2, w3, w4, w5, w6⟩ := hw
  obtain ⟨qc, hq1, hq2⟩ := Option.map_eq_some_iff.mp hci
  exact ev_back hG hnw hP hK hD hR hS hA (va_runV (As := As) (rest := st) ⟨hx, hb, hml, hown, hts⟩ (hM D ws tys H.size hR) (cwV As.length hts (ev_gV w1 w2 w3 w4 w5) rfl rfl rfl ⟨rfl, w6.1, w6.2.1, w6.2.2⟩ (ev_rmok hRf hRl hw2)) ⟨ev_blind, by have q := va_recv hK hP hq1 h1; rw [hq2] at q; exact q, ev_pre hP hK hD hR hS hA hG hnw⟩ rfl rfl hl.size rfl (lv_room (Nat.le_of_ble_eq_true hq)) hd ⟨by omega, by omega⟩) (fun r h1 H1 locs1 hp hr1 hS1 => k r h1 hp H1 locs1 _ _ ls hr1 hS1 hl (by dsimp only; omega) (by dsimp only; omega))
set_option maxHeartbeats 1000000 in
theorem ew_callS (F : ev_fr p R s m args meth c0 A G M d w) (hmet : ev_met l G d w C) (hmw : ev_metW l G d w C) : ru_callS G C w M K (ev_W p l e R s m args below meth c0 Q D A M) := by
  obtain ⟨hx, hb, hml, hown, hts, hG, hnw, hA, hRf, hRl, hret, hnm, hlk⟩ := F
  intro pc L st h c z i c1 z1 N As stk post hd hw hs hq hC hc1 hz1 k H locs cells slots ls hr hS hl hc hz
  dsimp only at hr hl hc hz ⊢
  obtain ⟨w2, hw2, hM⟩ := hmet _ _ _ _ _ _ hC (fun _ _ z => z)
  obtain ⟨ws, tys, hP, hK, hD, hR⟩ := id hr
  subst hs
  replace hc1 := Nat.le_of_ble_eq_true hc1
  replace hz1 := Nat.le_of_ble_eq_true hz1
  obtain ⟨w1, w2, w4, w5, w6⟩ := hw
  exact ev_back hG hnw hP hK hD hR hS hA (va_runS (As := As) (rest := st) ⟨hx, hb, hml, hown, hts⟩ (hM D ws tys H.size hR) (va_cwS As.length hts (ev_gS w1 w2 w4 w5) rfl rfl rfl ⟨w6.1, w6.2.1, w6.2.2⟩ (ev_rmok hRf hRl hw2)) ⟨ev_blind, ev_pre hP hK hD hR hS hA hG hnw⟩ rfl rfl hl.size rfl (lv_room (Nat.le_of_ble_eq_true hq)) hd ⟨by omega, by omega⟩) (fun r h1 H1 locs1 hp hr1 hS1 => k r h1 hp H1 locs1 _ _ ls hr1 hS1 hl (by dsimp only; omega) (by dsimp only; omega))
set_option maxHeartbeats 1000000 in
theorem ew_callI (F : ev_fr p R s m args meth c0 A G M d w) (hmet : ev_met l G d w C) (hmw : ev_metW l G d w C) : ru_callI G C w M K (ev_W p l e R s m args below meth c0 Q D A M) := by
  obtain ⟨hx, hb, hml, hown, hts, hG, hnw, hA, hRf, hRl, hret, hnm, hlk⟩ := F
  intro pc L st h c z i c1 z1 b N As stk post hd hw hs hq hC hc1 hz1 k H locs cells slots ls hr hS hl hc hz
  dsimp only at hr hl hc hz ⊢
  obtain ⟨w2, hw2, hM⟩ := hmet _ _ _ _ _ _ hC (fun _ _ z => z)
  obtain ⟨ws, tys, hP, hK, hD, hR⟩ := id hr
  subst hs
  replace hc1 := Nat.le_of_ble_eq_true hc1
  replace hz1 := Nat.le_of_ble_eq_true hz1
  obtain ⟨w1, w2, w4, w5, w7, w8, w6⟩ := hw
  obtain ⟨Ny, Nb, Nl, Nr⟩ := N
  cases (show Nr = none from w8)
  exact ev_back hG hnw hP hK hD hR hS hA (va_runI (As := As) (rest := st) ⟨hx, hb, hml, hown, hts⟩ (hM D ws tys H.size hR) (cwI As.length hts (ev_gI w5) rfl rfl rfl (hts _ w4) (hts _ w1) (hts _ w2) w7 ⟨w6.1, w6.2.1, w6.2.2⟩ (ev_rmok hRf hRl hw2)) ⟨ev_blind, ev_pre hP hK hD hR hS hA hG hnw⟩ rfl rfl hl.size rfl (lv_room (Nat.le_of_ble_eq_true hq)) hd ⟨by omega, by omega⟩) (fun r h1 H1 locs1 hp hr1 hS1 => k r h1 hp H1 locs1 _ _ ls hr1 hS1 hl (by dsimp only; omega) (by dsimp only; omega))
set_option maxHeartbeats 1000000 in
theorem ew_callIN (F : ev_fr p R s m args meth c0 A G M d w) (hmet : ev_met l G d w C) (hmw : ev_metW l G d w C) : ru_callIN G C w M K (ev_W p l e R s m args below meth c0 Q D A M) := by
  obtain ⟨hx, hb, hml, hown, hts, hG, hnw, hA, hRf, hRl, hret, hnm, hlk⟩ := F
  intro pc L st h c z i c1 z1 b N As stk post hd hw hs hq hC hc1 hz1 k H locs cells slots ls hr hS hl hc hz
  dsimp only at hr hl hc hz ⊢
  obtain ⟨w2, hw2, hM⟩ := hmet _ _ _ _ _ _ hC (fun _ _ z => z)
  obtain ⟨ws, tys, hP, hK, hD, hR⟩ := id hr
  subst hs
  replace hc1 := Nat.le_of_ble_eq_true hc1
  replace hz1 := Nat.le_of_ble_eq_true hz1
  obtain ⟨host, w1, w2, w4, w5, w7, w8, w6⟩ := hw
  obtain ⟨Ny, Nb, Nl, Nr⟩ := N
  cases (show Nr = none from w8)
  exact ev_back hG hnw hP hK hD hR hS hA (va_runIN (As := As) (rest := st) ⟨hx, hb, hml, hown, hts⟩ (hM D ws tys H.size hR) ⟨va_cnB As.length hts (ev_gI w5) rfl rfl rfl (hnw.1 _ w1) (hts _ w4) ⟨w6.1, w6.2.1, w6.2.2⟩ (ev_rmok hRf hRl hw2), w7, hts _ w2⟩ ⟨ev_blind, ev_pre hP hK hD hR hS hA hG hnw⟩ rfl rfl hl.size rfl (lv_room (Nat.le_of_ble_eq_true hq)) hd ⟨by omega, by omega⟩) (fun r h1 H1 locs1 hp hr1 hS1 => k r h1 hp H1 locs1 _ _ ls hr1 hS1 hl (by dsimp only; omega) (by dsimp only; omega))
set_option maxHeartbeats 1000000 in
theorem ew_callVf (F : ev_fr p R s m args meth c0 A G M d w) (hmet : ev_met l G d w C) (hmw : ev_metW l G d w C) : ru_callVf G C w M K (ev_W p l e R s m args below meth c0 Q D A M) := by
  obtain ⟨hx, hb, hml, hown, hts, hG, hnw, hA, hRf, hRl, hret, hnm, hlk⟩ := F
  intro pc L st h c z i c1 z1 b ci fs N As stk post hs hf hd hw hsk hq hb1 hci hC hc1 hz1 hj hdj k H locs cells slots ls hr hS hl hc hz
  dsimp only at hr hl hc hz ⊢
  obtain ⟨w2, hw2, hM⟩ := hmet _ _ _ _ _ _ hC (fun _ _ z => z)
  obtain ⟨ws0, tys, hP0, hK, hD0, hR0⟩ := id hr
  obtain ⟨ws, wf, hP, hD, hR, hPf, hDf, hRg, hdf⟩ := ev_frame hP0 hD0 hR0 hj hdj
  subst hsk
  replace hc1 := Nat.le_of_ble_eq_true hc1
  replace hz1 := Nat.le_of_ble_eq_true hz1
  obtain ⟨q0, h1⟩ := ev_obj hR hb1
  obtain ⟨w1, w2, w3, w4, w5, w6⟩ := hw
  obtain ⟨qc, hq1, hq2⟩ := Option.map_eq_some_iff.mp hci
  exact ev_backF hPf hDf hRg hdf hK hG hnw hP hK hD hR hS hA (va_runV (As := As) (rest := st) ⟨hx, hb, hml, hown, hts⟩ (hM D ws tys H.size hR) (cwV As.length hts (ev_gV w1 w2 w3 w4 w5) rfl rfl rfl ⟨rfl, w6.1, w6.2.1, w6.2.2⟩ (ev_rmok hRf hRl hw2)) ⟨ev_blind, by have q := va_recv hK hP hq1 h1; rw [hq2] at q; exact q, ev_pre hP hK hD hR hS hA hG hnw⟩ rfl rfl hl.size rfl (lv_room (Nat.le_of_ble_eq_true hq)) hd ⟨by omega, by omega⟩) (fun r h1 H1 locs1 hp hpq hr1 hS1 => k r h1 hp hpq H1 locs1 _ _ ls hr1 hS1 hl (by dsimp only; omega) (by dsimp only; omega))
set_option maxHeartbeats 1000000 in
theorem ew_callIf (F : ev_fr p R s m args meth c0 A G M d w) (hmet : ev_met l G d w C) (hmw : ev_metW l G d w C) : ru_callIf G C w M K (ev_W p l e R s m args below meth c0 Q D A M) := by
  obtain ⟨hx, hb, hml, hown, hts, hG, hnw, hA, hRf, hRl, hret, hnm, hlk⟩ := F
  intro pc L st h c z i c1 z1 b N As stk post hs hf hd hw hsk hq hC hc1 hz1 hj hdj k H locs cells slots ls hr hS hl hc hz
  dsimp only at hr hl hc hz ⊢
  obtain ⟨w2, hw2, hM⟩ := hmet _ _ _ _ _ _ hC (fun _ _ z => z)
  obtain ⟨ws0, tys, hP0, hK, hD0, hR0⟩ := id hr
  obtain ⟨ws, wf, hP, hD, hR, hPf, hDf, hRg, hdf⟩ := ev_frame hP0 hD0 hR0 hj hdj
  subst hsk
  replace hc1 := Nat.le_of_ble_eq_true hc1
  replace hz1 := Nat.le_of_ble_eq_true hz1
  obtain ⟨w1, w2, w4, w5, w7, w8, w6⟩ := hw
  obtain ⟨Ny, Nb, Nl, Nr⟩ := N
  cases (show Nr = none from w8)
  exact ev_backF hPf hDf hRg hdf hK hG hnw hP hK hD hR hS hA (va_runI (As := As) (rest := st) ⟨hx, hb, hml, hown, hts⟩ (hM D ws tys H.size hR) (cwI As.length hts (ev_gI w5) rfl rfl rfl (hts _ w4) (hts _ w1) (hts _ w2) w7 ⟨w6.1, w6.2.1, w6.2.2⟩ (ev_rmok hRf hRl hw2)) ⟨ev_blind, ev_pre hP hK hD hR hS hA hG hnw⟩ rfl rfl hl.size rfl (lv_room (Nat.le_of_ble_eq_true hq)) hd ⟨by omega, by omega⟩) (fun r h1 H1 locs1 hp hpq hr1 hS1 => k r h1 hp hpq H1 locs1 _ _ ls hr1 hS1 hl (by dsimp only; omega) (by dsimp only; omega))
set_option maxHeartbeats 1000000 in
theorem ew_callSW (F : ev_fr p R s m args meth c0 A G M d w) (hmet : ev_met l G d w C) (hmw : ev_metW l G d w C) : ru_callSW G C w M K (ev_W p l e R s m args below meth c0 Q D A M) := by
  obtain ⟨hx, hb, hml, hown, hts, hG, hnw, hA, hRf, hRl, hret, hnm, hlk⟩ := F
  intro pc L st h c z i c1 z1 N As stk post hh hd hw hs hq hC hc1 hz1 k H locs cells slots ls hr hS hl hc hz
  dsimp only at hr hl hc hz ⊢
  obtain ⟨ws, tys, hP, hK, hD, hR⟩ := id hr
  subst hs
  replace hc1 := Nat.le_of_ble_eq_true hc1
  replace hz1 := Nat.le_of_ble_eq_true hz1
  obtain ⟨w1, w2, w4, w5, w6⟩ := hw
  obtain ⟨w2x, hw2x, hMx⟩ := hmw _ hh _ _ _ _ _ hC (fun _ _ z => z) w5
  exact ev_back hG hnw hP hK hD hR hS hA (vx_runSW (As := As) (rest := st) ⟨hx, hb, hml, hown, hts⟩ (hMx D ws tys H.size hR) (vx_cwSW As.length hts (ev_gSW w1 w2 w4 w5) rfl rfl rfl ⟨w6.1, w6.2.1, w6.2.2⟩ (ev_rmok hRf hRl hw2x)) ⟨ev_blind, ev_pre hP hK hD hR hS hA hG hnw⟩ rfl rfl hl.size rfl (lv_room (Nat.le_of_ble_eq_true hq)) hd ⟨by omega, by omega⟩) (fun r h1 H1 locs1 hp hr1 hS1 => k r h1 hp H1 locs1 _ _ ls hr1 hS1 hl (by dsimp only; omega) (by dsimp only; omega))
set_option maxHeartbeats 1000000 in
theorem ew_callSWf (F : ev_fr p R s m args meth c0 A G M d w) (hmet : ev_met l G d w C) (hmw : ev_metW l G d w C) : ru_callSWf G C w M K (ev_W p l e R s m args below meth c0 Q D A M) := by
  obtain ⟨hx, hb, hml, hown, hts, hG, hnw, hA, hRf, hRl, hret, hnm, hlk⟩ := F
  intro pc L st h c z i c1 z1 N As stk post hh hs hf hd hw hsk hq hC hc1 hz1 hj hdj k H locs cells slots ls hr hS hl hc hz
  dsimp only at hr hl hc hz ⊢
  obtain ⟨ws0, tys, hP0, hK, hD0, hR0⟩ := id hr
  obtain ⟨ws, wf, hP, hD, hR, hPf, hDf, hRg, hdf⟩ := ev_frame hP0 hD0 hR0 hj hdj
  subst hsk
  replace hc1 := Nat.le_of_ble_eq_true hc1
  replace hz1 := Nat.le_of_ble_eq_true hz1
  obtain ⟨w1, w2, w4, w5, w6⟩ := hw
  obtain ⟨w2x, hw2x, hMx⟩ := hmw _ hh _ _ _ _ _ hC (fun _ _ z => z) w5
  exact ev_backF hPf hDf hRg hdf hK hG hnw hP hK hD hR hS hA (vx_runSW (As := As) (rest := st) ⟨hx, hb, hml, hown, hts⟩ (hMx D ws tys H.size hR) (vx_cwSW As.length hts (ev_gSW w1 w2 w4 w5) rfl rfl rfl ⟨w6.1, w6.2.1, w6.2.2⟩ (ev_rmok hRf hRl hw2x)) ⟨ev_blind, ev_pre hP hK hD hR hS hA hG hnw⟩ rfl rfl hl.size rfl (lv_room (Nat.le_of_ble_eq_true hq)) hd ⟨by omega, by omega⟩) (fun r h1 H1 locs1 hp hpq hr1 hS1 => k r h1 hp hpq H1 locs1 _ _ ls hr1 hS1 hl (by dsimp only; omega) (by dsimp only; omega))
set_option maxHeartbeats 1000000 in
theorem ew_objInit (F : ev_fr p R s m args meth c0 A G M d w) (hmet : ev_met l G d w C) (hmw : ev_metW l G d w C) : ru_objInit G C w M K (ev_W p l e R s m args below meth c0 Q D A M) := by
  obtain ⟨hx, hb, hml, hown, hts, hG, hnw, hA, hRf, hRl, hret, hnm, hlk⟩ := F
  intro pc L st h c z i a hd hw hq hw9 k H locs cells slots ls hr hS hl hc hz
  dsimp only at hr hl hc hz ⊢
  exact W.objInit hx hb hown (hts _ hw.1) (hts _ hw.2.1) (hts _ hw.2.2) rfl (hl.size.trans hml.symm) rfl hd (by omega) (by have := Nat.le_of_ble_eq_true hq; show 2 * 0 + _ + 12 ≤ _; omega) (k H locs cells slots ls hr hS hl hc hz)
set_option maxHeartbeats 1000000 in
theorem ew_mmax (F : ev_fr p R s m args meth c0 A G M d w) (hmet : ev_met l G d w C) (hmw : ev_metW l G d w C) : ru_mmax G C w M K (ev_W p l e R s m args below meth c0 Q D A M) := by
  obtain ⟨hx, hb, hml, hown, hts, hG, hnw, hA, hRf, hRl, hret, hnm, hlk⟩ := F
  intro pc L st h c z i x y hd hw hq hw9 k H locs cells slots ls hr hS hl hc hz
  dsimp only at hr hl hc hz ⊢
  exact va_mmax hx hb (hml.trans hl.size.symm) hown (hts _ hw.1) (hts _ hw.2.1) (hts _ hw.2.2.1) (hts _ hw.2.2.2) (by omega) (by have := Nat.le_of_ble_eq_true hq; omega) (by omega) (by omega) hd (k H locs cells slots ls hr hS hl hc hz)
set_option maxHeartbeats 1000000 in
theorem ew_mmin (F : ev_fr p R s m args meth c0 A G M d w) (hmet : ev_met l G d w C) (hmw : ev_metW l G d w C) : ru_mmin G C w M K (ev_W p l e R s m args below meth c0 Q D A M) := by
  obtain ⟨hx, hb, hml, hown, hts, hG, hnw, hA, hRf, hRl, hret, hnm, hlk⟩ := F
  intro pc L st h c z i x y hd hw hq hw9 k H locs cells slots ls hr hS hl hc hz
  dsimp only at hr hl hc hz ⊢
  exact va_mmin hx hb (hml.trans hl.size.symm) hown (hts _ hw.1) (hts _ hw.2.1) (hts _ hw.2.2.1) (hts _ hw.2.2.2) (by omega) (by have := Nat.le_of_ble_eq_true hq; omega) (by omega) (by omega) hd (k H locs cells slots ls hr hS hl hc hz)
set_option maxHeartbeats 1000000 in
theorem ew_mmaxl (F : ev_fr p R s m args meth c0 A G M d w) (hmet : ev_met l G d w C) (hmw : ev_metW l G d w C) : ru_mmaxl G C w M K (ev_W p l e R s m args below meth c0 Q D A M) := by
  obtain ⟨hx, hb, hml, hown, hts, hG, hnw, hA, hRf, hRl, hret, hnm, hlk⟩ := F
  intro pc L st h c z i x y hd hw hq hw9 k H locs cells slots ls hr hS hl hc hz
  dsimp only at hr hl hc hz ⊢
  exact va_mmax_long hx hb (hml.trans hl.size.symm) hown (hts _ hw.1) (hts _ hw.2.1) (hts _ hw.2.2.1) (hts _ hw.2.2.2) (by omega) (by have := Nat.le_of_ble_eq_true hq; omega) (by omega) (by omega) hd (k H locs cells slots ls hr hS hl hc hz)
set_option maxHeartbeats 1000000 in
theorem ew_mminl (F : ev_fr p R s m args meth c0 A G M d w) (hmet : ev_met l G d w C) (hmw : ev_metW l G d w C) : ru_mminl G C w M K (ev_W p l e R s m args below meth c0 Q D A M) := by
  obtain ⟨hx, hb, hml, hown, hts, hG, hnw, hA, hRf, hRl, hret, hnm, hlk⟩ := F
  intro pc L st h c z i x y hd hw hq hw9 k H locs cells slots ls hr hS hl hc hz
  dsimp only at hr hl hc hz ⊢
  exact va_mmin_long hx hb (hml.trans hl.size.symm) hown (hts _ hw.1) (hts _ hw.2.1) (hts _ hw.2.2.1) (hts _ hw.2.2.2) (by omega) (by have := Nat.le_of_ble_eq_true hq; omega) (by omega) (by omega) hd (k H locs cells slots ls hr hS hl hc hz)
set_option maxHeartbeats 1000000 in
theorem ew_copyi (F : ev_fr p R s m args meth c0 A G M d w) (hmet : ev_met l G d w C) (hmw : ev_metW l G d w C) : ru_copyi G C w M K (ev_W p l e R s m args below meth c0 Q D A M) := by
  obtain ⟨hx, hb, hml, hown, hts, hG, hnw, hA, hRf, hRl, hret, hnm, hlk⟩ := F
  intro pc L st h c z i a0 a n0 n1 f g sp dp n hd hw hq hw9 ha0 ha h1 h2 h3 h4 h5 k H locs cells slots ls hr hS hl hc hz
  dsimp only at hr hl hc hz ⊢
  obtain ⟨ws, tys, hP, hK, hD, hR⟩ := id hr
  obtain ⟨q0, cA0, t0, g1, g2⟩ := ev_arr hR ha0
  obtain ⟨q1, cA1, t1, g3, g4⟩ := ev_arr hR ha
  exact va_copyi hx hb (hml.trans hl.size.symm) hown (hts _ hw.1) (hts _ hw.2.1) (hts _ hw.2.2.1) (hts _ hw.2.2.2) hK hP hD hS q0 q1 t0 t1 g1 g3 g2 g4 rfl h1 h2 h3 h4 h5 (fun _ _ => rfl) (by omega) (by have := Nat.le_of_ble_eq_true hq; have e5 : nativeFrameWords "java/lang/System" "arraycopy" 5 + 11 = 18 := (by decide +kernel); omega) hd (fun H1 locs1 hP1 hD1 hS1 => k H1 locs1 cells slots ls ⟨_, tys, hP1, hK, hD1, ev_set hD hR g3 ⟨rfl, t1, g4⟩⟩ hS1 hl hc hz)
set_option maxHeartbeats 1000000 in
theorem ew_copyl (F : ev_fr p R s m args meth c0 A G M d w) (hmet : ev_met l G d w C) (hmw : ev_metW l G d w C) : ru_copyl G C w M K (ev_W p l e R s m args below meth c0 Q D A M) := by
  obtain ⟨hx, hb, hml, hown, hts, hG, hnw, hA, hRf, hRl, hret, hnm, hlk⟩ := F
  intro pc L st h c z i a0 a n0 n1 f g sp dp n hd hw hq hw9 ha0 ha h1 h2 h3 h4 h5 k H locs cells slots ls hr hS hl hc hz
  dsimp only at hr hl hc hz ⊢
  obtain ⟨ws, tys, hP, hK, hD, hR⟩ := id hr
  obtain ⟨q0, cA0, t0, g1, g2⟩ := ev_arr hR ha0
  obtain ⟨q1, cA1, t1, g3, g4⟩ := ev_arr hR ha
  exact va_copyl hx hb (hml.trans hl.size.symm) hown (hts _ hw.1) (hts _ hw.2.1) (hts _ hw.2.2.1) (hts _ hw.2.2.2) hK hP hD hS q0 q1 t0 t1 g1 g3 g2 g4 rfl h1 h2 h3 h4 h5 (fun _ _ => rfl) (by omega) (by have := Nat.le_of_ble_eq_true hq; have e5 : nativeFrameWords "java/lang/System" "arraycopy" 5 + 11 = 18 := (by decide +kernel); omega) hd (fun H1 locs1 hP1 hD1 hS1 => k H1 locs1 cells slots ls ⟨_, tys, hP1, hK, hD1, ev_set hD hR g3 ⟨rfl, t1, g4⟩⟩ hS1 hl hc hz)
set_option maxHeartbeats 1000000 in
theorem ew_wk (F : ev_fr p R s m args meth c0 A G M d w) (hmet : ev_met l G d w C) (hmw : ev_metW l G d w C) : ru_wk G C w M K (ev_W p l e R s m args below meth c0 Q D A M) := by
  obtain ⟨hx, hb, hml, hown, hts, hG, hnw, hA, hRf, hRl, hret, hnm, hlk⟩ := F
  intro pc L st h c z L2 hw k H locs cells slots ls hr hS hl hc hz
  dsimp only at hr hl hc hz ⊢
  obtain ⟨lv, hv1, hv2⟩ := hl
  exact k H locs cells slots ls hr hS ⟨lv, hv1, fun i v q => hv2 i v (hw i v q)⟩ hc hz
set_option maxHeartbeats 1000000 in
theorem ew_hw (F : ev_fr p R s m args meth c0 A G M d w) (hmet : ev_met l G d w C) (hmw : ev_metW l G d w C) : ru_hw G C w M K (ev_W p l e R s m args below meth c0 Q D A M) := by
  obtain ⟨hx, hb, hml, hown, hts, hG, hnw, hA, hRf, hRl, hret, hnm, hlk⟩ := F
  intro pc L st h c z h2 hw k H locs cells slots ls hr hS hl hc hz
  dsimp only at hr hl hc hz ⊢
  obtain ⟨ws, tys, hP, hK, hD, hR⟩ := id hr
  exact k H locs cells slots ls ⟨ws, tys, hP, hK, hD, fun q x e => hR q x (hw q x e)⟩ hS hl hc hz
set_option maxHeartbeats 1000000 in
theorem ew_cw (F : ev_fr p R s m args meth c0 A G M d w) (hmet : ev_met l G d w C) (hmw : ev_metW l G d w C) : ru_cw G C w M K (ev_W p l e R s m args below meth c0 Q D A M) := by
  obtain ⟨hx, hb, hml, hown, hts, hG, hnw, hA, hRf, hRl, hret, hnm, hlk⟩ := F
  intro pc L st h c z c2 z2 h1 h2 k H locs cells slots ls hr hS hl hc hz
  dsimp only at hr hl hc hz ⊢
  exact k H locs cells slots ls hr hS hl (by dsimp only; omega) (by dsimp only; omega)
/-- all rules but the ends -/
theorem ew_all (F : ev_fr p R s m args meth c0 A G M d w) (hmet : ev_met l G d w C) (hmw : ev_metW l G d w C) (h_iret : ru_iret G C w M K (ev_W p l e R s m args below meth c0 Q D A M)) (h_lret : ru_lret G C w M K (ev_W p l e R s m args below meth c0 Q D A M)) (h_aret : ru_aret G C w M K (ev_W p l e R s m args below meth c0 Q D A M)) (h_vret : ru_vret G C w M K (ev_W p l e R s m args below meth c0 Q D A M)) (h_stop : ru_stop G C w M K (ev_W p l e R s m args below meth c0 Q D A M)) : ∀ n, ev_ru G C w M K (ev_W p l e R s m args below meth c0 Q D A M) n
  | 0 => ew_iconst (K := K) F hmet hmw
  | 1 => ew_bipush (K := K) F hmet hmw
  | 2 => ew_sipush (K := K) F hmet hmw
  | 3 => ew_lconst (K := K) F hmet hmw
  | 4 => ew_null (K := K) F hmet hmw
  | 5 => ew_ldc (K := K) F hmet hmw
  | 6 => ew_ldc2 (K := K) F hmet hmw
  | 7 => ew_ldcw (K := K) F hmet hmw
  | 8 => ew_iload_n (K := K) F hmet hmw
  | 9 => ew_iload (K := K) F hmet hmw
  | 10 => ew_istore_n (K := K) F hmet hmw
  | 11 => ew_istore (K := K) F hmet hmw
  | 12 => ew_lload_n (K := K) F hmet hmw
  | 13 => ew_lload (K := K) F hmet hmw
  | 14 => ew_lstore_n (K := K) F hmet hmw
  | 15 => ew_lstore (K := K) F hmet hmw
  | 16 => ew_aload_n (K := K) F hmet hmw
  | 17 => ew_aload (K := K) F hmet hmw
  | 18 => ew_astore_n (K := K) F hmet hmw
  | 19 => ew_astore (K := K) F hmet hmw
  | 20 => ew_iinc (K := K) F hmet hmw
  | 21 => ew_iadd (K := K) F hmet hmw
  | 22 => ew_isub (K := K) F hmet hmw
  | 23 => ew_imul (K := K) F hmet hmw
  | 24 => ew_iand (K := K) F hmet hmw
  | 25 => ew_ior (K := K) F hmet hmw
  | 26 => ew_ixor (K := K) F hmet hmw
  | 27 => ew_ishl (K := K) F hmet hmw
  | 28 => ew_ishr (K := K) F hmet hmw
  | 29 => ew_iushr (K := K) F hmet hmw
  | 30 => ew_idiv (K := K) F hmet hmw
  | 31 => ew_irem (K := K) F hmet hmw
  | 32 => ew_ineg (K := K) F hmet hmw
  | 33 => ew_ladd (K := K) F hmet hmw
  | 34 => ew_lsub (K := K) F hmet hmw
  | 35 => ew_lmul (K := K) F hmet hmw
  | 36 => ew_land (K := K) F hmet hmw
  | 37 => ew_lor (K := K) F hmet hmw
  | 38 => ew_lxor (K := K) F hmet hmw
  | 39 => ew_ldiv (K := K) F hmet hmw
  | 40 => ew_lrem (K := K) F hmet hmw
  | 41 => ew_lshl (K := K) F hmet hmw
  | 42 => ew_lshr (K := K) F hmet hmw
  | 43 => ew_lushr (K := K) F hmet hmw
  | 44 => ew_lneg (K := K) F hmet hmw
  | 45 => ew_i2l (K := K) F hmet hmw
  | 46 => ew_l2i (K := K) F hmet hmw
  | 47 => ew_i2c (K := K) F hmet hmw
  | 48 => ew_i2b (K := K) F hmet hmw
  | 49 => ew_lcmp (K := K) F hmet hmw
  | 50 => ew_dup (K := K) F hmet hmw
  | 51 => ew_pop (K := K) F hmet hmw
  | 52 => ew_dup_x1 (K := K) F hmet hmw
  | 53 => ew_dup_x2 (K := K) F hmet hmw
  | 54 => ew_dup2_11 (K := K) F hmet hmw
  | 55 => ew_dup2_2 (K := K) F hmet hmw
  | 56 => ew_pop2_2 (K := K) F hmet hmw
  | 57 => ew_dup2_x1_2 (K := K) F hmet hmw
  | 58 => ew_dup2_x2_2 (K := K) F hmet hmw
  | 59 => ew_if_eq (K := K) F hmet hmw
  | 60 => ew_icmp_eq (K := K) F hmet hmw
  | 61 => ew_if_ne (K := K) F hmet hmw
  | 62 => ew_icmp_ne (K := K) F hmet hmw
  | 63 => ew_if_lt (K := K) F hmet hmw
  | 64 => ew_icmp_lt (K := K) F hmet hmw
  | 65 => ew_if_ge (K := K) F hmet hmw
  | 66 => ew_icmp_ge (K := K) F hmet hmw
  | 67 => ew_if_gt (K := K) F hmet hmw
  | 68 => ew_icmp_gt (K := K) F hmet hmw
  | 69 => ew_if_le (K := K) F hmet hmw
  | 70 => ew_icmp_le (K := K) F hmet hmw
  | 71 => ew_goto (K := K) F hmet hmw
  | 72 => ew_tableIn (K := K) F hmet hmw
  | 73 => ew_tableOut (K := K) F hmet hmw
  | 74 => ew_iald (K := K) F hmet hmw
  | 75 => ew_cald (K := K) F hmet hmw
  | 76 => ew_bald (K := K) F hmet hmw
  | 77 => ew_zald (K := K) F hmet hmw
  | 78 => ew_lald (K := K) F hmet hmw
  | 79 => ew_aald (K := K) F hmet hmw
  | 80 => ew_iast (K := K) F hmet hmw
  | 81 => ew_cast (K := K) F hmet hmw
  | 82 => ew_zast (K := K) F hmet hmw
  | 83 => ew_bast (K := K) F hmet hmw
  | 84 => ew_last (K := K) F hmet hmw
  | 85 => ew_alen (K := K) F hmet hmw
  | 86 => ew_riald (K := K) F hmet hmw
  | 87 => ew_ralen (K := K) F hmet hmw
  | 88 => ew_gets (K := K) F hmet hmw
  | 89 => ew_getf (K := K) F hmet hmw
  | 90 => ew_putf (K := K) F hmet hmw
  | 91 => ew_putF (K := K) F hmet hmw
  | 92 => ew_newi (K := K) F hmet hmw
  | 93 => ew_newc (K := K) F hmet hmw
  | 94 => ew_newl (K := K) F hmet hmw
  | 95 => ew_newz (K := K) F hmet hmw
  | 96 => ew_new (K := K) F hmet hmw
  | 97 => ew_mna (K := K) F hmet hmw
  | 98 => h_iret
  | 99 => h_lret
  | 100 => h_aret
  | 101 => h_vret
  | 102 => h_stop
  | 103 => ew_callV (K := K) F hmet hmw
  | 104 => ew_callS (K := K) F hmet hmw
  | 105 => ew_callI (K := K) F hmet hmw
  | 106 => ew_callIN (K := K) F hmet hmw
  | 107 => ew_callVf (K := K) F hmet hmw
  | 108 => ew_callIf (K := K) F hmet hmw
  | 109 => ew_callSW (K := K) F hmet hmw
  | 110 => ew_callSWf (K := K) F hmet hmw
  | 111 => ew_objInit (K := K) F hmet hmw
  | 112 => ew_mmax (K := K) F hmet hmw
  | 113 => ew_mmin (K := K) F hmet hmw
  | 114 => ew_mmaxl (K := K) F hmet hmw
  | 115 => ew_mminl (K := K) F hmet hmw
  | 116 => ew_copyi (K := K) F hmet hmw
  | 117 => ew_copyl (K := K) F hmet hmw
  | 118 => ew_wk (K := K) F hmet hmw
  | 119 => ew_hw (K := K) F hmet hmw
  | 120 => ew_cw (K := K) F hmet hmw
  | _ + 121 => trivial
end EVW
set_option maxHeartbeats 1000000 in
/-- a call that the rules allow is a contract -/
theorem ev_meets (l : Launch) (G : ev_G) : ∀ d w N args h c z K, ev_Ca G d w N args h c z K → (∀ x y, ¬ K (.inr x) y) → ∀ (D : va_G) (ws : va_W) (tys : List (ClassId × FieldType)) (sz : Nat), ev_hr tys h ws → Met l N.1 (ev_code N :: ev_ws) (ev_rm d w c z) (ev_Pc D G ws tys sz args) (ev_Qc D (va_A ws sz) K) c z (va_A ws sz) ∧ ∀ hh, Met l N.1 (Cond.codeWith N.1 N.2.1 N.2.2.1 N.2.2.2 hh :: ev_ws) (ev_rm d w c z) (ev_Pc D G ws tys sz args) (ev_Qc D (va_A ws sz) K) c z (va_A ws sz)
  | 0, w => fun N args h c z K hC => hC.elim
  | d + 1, w => by
    intro N args h c z K hC hns D ws tys sz hR
    obtain ⟨hpl, hle, hE⟩ := hC
    have hm : ev_met l G d w (fun N a2 h2 c2 z2 K2 => 19 + N.2.2.1 ≤ w ∧ ev_Ca G d (w - (19 + N.2.2.1)) N a2 h2 c2 z2 K2) := fun N2 a2 h2 c2 z2 K2 q n => ⟨w - (19 + N2.2.2.1), by have := q.1; omega, fun D ws tys sz r => (ev_meets l G d (w - (19 + N2.2.2.1)) N2 a2 h2 c2 z2 K2 q.2 n D ws tys sz r).1⟩
    have hmw : ev_metW l G d w (fun N a2 h2 c2 z2 K2 => 19 + N.2.2.1 ≤ w ∧ ev_Ca G d (w - (19 + N.2.2.1)) N a2 h2 c2 z2 K2) := fun N2 hh a2 h2 c2 z2 K2 q n _ => ⟨w - (19 + N2.2.2.1), by have := q.1; omega, fun D ws tys sz r => (ev_meets l G d (w - (19 + N2.2.2.1)) N2 a2 h2 c2 z2 K2 q.2 n D ws tys sz r).2 hh⟩
    have key : ∀ (hw : Cond) (p : Program) (e : Env) (s : State) (m : MethodId) (args0 : Array Value) (below : List Frame) (meth : Method) (c0 : Code) (s₁ : State), BodyLoose p l N.1 (headSpec (hw :: ev_ws) (ev_rm (d + 1) w c z)) N.2.1 N.2.2.1 N.2.2.2 e s m args0 below meth c0 s₁ → c0.maxLocals = N.2.2.1 → ev_Pc D G ws tys sz args args0 s → W p l e (headSpec (hw :: ev_ws) (ev_rm (d + 1) w c z)).room s m args0 below meth c0 s.heap [] 0 0 (MQ below (ev_Qc D (va_A ws sz) K) args0 s c z (va_A ws sz)) (entryFrame m args0 N.2.2.1) := by
      intro hw p e s m args0 below meth c0 s₁ B hml hv
      obtain ⟨rfl, hsz, hP, hK, hD0, hG, hN⟩ := hv
      have hts := atoms_spec (ws := hw :: ev_ws) B.pre
      subst hsz
      have F : ev_fr p (headSpec (hw :: ev_ws) (ev_rm (d + 1) w c z)).room s m args.toArray meth c0 (va_A ws s.heap.size) G N d w := ⟨B.exec, B.bytes, hml, findClass_of_methodNamed B.named, fun w hw => hts w (List.mem_cons_of_mem _ hw), hG, hN, fun q hq => Or.inr hq, Nat.le_refl _, Nat.le_refl _, B.returns, (name_of_methodNamed B.named B.method).1, B.notSynchronized⟩
      have h1 := hE (ev_W p l e (headSpec (hw :: ev_ws) (ev_rm (d + 1) w c z)).room s m args.toArray below meth c0 (MQ below (ev_Qc D (va_A ws s.heap.size) K) args.toArray s c z (va_A ws s.heap.size)) D (va_A ws s.heap.size) N)
        (ew_all F hm hmw (ew_iret (K := K) F hm hmw) (ew_lret (K := K) F hm hmw) (ew_aret (K := K) F hm hmw) (ew_vret (K := K) F hm hmw) (fun hk => absurd hk (hns _ _)))
      have hl := lv_entry args (n := N.2.2.1) (Nat.le_of_ble_eq_true hle)
      rw [lg_entry_eq]
      exact h1 s.heap [] 0 0 _ ⟨ws, tys, hP, hK, hD0.self, hR⟩ va_S.rf ⟨_, hl, fun i v q => ev_lfm q⟩ (by show 0 + c ≤ c; omega) (by show 0 + z ≤ z; omega)
    exact ⟨Met.ofW (cc := N.2.1) (maxL := N.2.2.1) (ret := N.2.2.2) hpl rfl (key _), fun hh => va_MetW (cc := N.2.1) (maxL := N.2.2.1) (ret := N.2.2.2) (hh := hh) hpl rfl (key _)⟩
