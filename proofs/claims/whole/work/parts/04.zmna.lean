/-! 'new int[3][8]': the rows of the kit rest on modules that a round does not see; proved anew here, for these two lengths -/
section MN
/-- the row of rows at h, i of them laid behind it -/
def mn_f (h i : Nat) : Nat → Option Nat := fun j => if j < i then some (h + 1 + j) else none
def mn_o (cA : ClassId) (h i : Nat) : Cell := arrV cA 3 (fun j => va_rf (mn_f h i j))
def mn_i (cy : ClassId) : Cell := arrV cy 8 (fun _ => .int 0)
def mn_S (S : State) (cA cy : ClassId) : Nat → State
  | 0 => S.pushCell (mn_o cA S.heap.size 0)
  | i + 1 => ((mn_S S cA cy i).pushCell (mn_i cy)).setCell S.heap.size (mn_o cA S.heap.size (i + 1))
theorem mn_os (cA : ClassId) (h i : Nat) : (mn_o cA h i).setSlot i (.ref (h + 1 + i)) = mn_o cA h (i + 1) := by
  unfold mn_o
  rw [arrV_store]
  congr 1
  funext j
  unfold updV mn_f
  by_cases e : j = i
  · rw [if_pos e, if_pos (by omega), e]
    rfl
  · rw [if_neg e]
    dsimp only
    by_cases q : j < i
    · rw [if_pos q, if_pos (by omega)]
    · rw [if_neg q, if_neg (by omega)]
theorem mn_facts (S : State) (cA cy : ClassId) : ∀ i, (mn_S S cA cy i).heap.size = S.heap.size + 1 + i ∧ (mn_S S cA cy i).heap[S.heap.size]? = some (mn_o cA S.heap.size i) ∧ (mn_S S cA cy i).vm = S.vm ∧ (mn_S S cA cy i).slotsUsed = S.slotsUsed + 3 + i * 8
  | 0 => ⟨by simp [mn_S], by simp [mn_S], rfl, by simp [mn_S, mn_o, arrV_size]⟩
  | i + 1 => by
    obtain ⟨a1, a2, a3, a4⟩ := mn_facts S cA cy i
    have hlt : S.heap.size < (mn_S S cA cy i).heap.size := by omega
    have h2 : ((mn_S S cA cy i).pushCell (mn_i cy)).heap[S.heap.size]? = some (mn_o cA S.heap.size i) := by
      rw [State.heap_pushCell_of_lt (h := hlt)]
      exact a2
    refine ⟨?_, State.heap_setCell_self h2, by simp [mn_S, a3], ?_⟩
    · simp [mn_S, State.setCell, a1]
      omega
    · simp [mn_S, a4, mn_i, arrV_size]
      omega
theorem mn_top (S : State) (f : JFrame) (cA cy : ClassId) : ∀ i, mn_S (S.setTop f) cA cy i = (mn_S S cA cy i).setTop f
  | 0 => rfl
  | i + 1 => by simp only [mn_S, mn_top S f cA cy i, State.heap_setTop, State.pushCell_setTop, State.setCell_setTop]
theorem mn_old (S : State) (cA cy : ClassId) {a : Addr} (ha : a < S.heap.size) : ∀ i, (mn_S S cA cy i).heap[a]? = S.heap[a]?
  | 0 => State.heap_pushCell_of_lt _ _ ha
  | i + 1 => by
    have f1 := (mn_facts S cA cy i).1
    show (((mn_S S cA cy i).pushCell (mn_i cy)).setCell S.heap.size _).heap[a]? = _
    have hlt : a < (mn_S S cA cy i).heap.size := Nat.lt_of_lt_of_le ha (by rw [f1]; omega)
    rw [State.heap_setCell_other (Nat.ne_of_gt ha), State.heap_pushCell_of_lt (h := hlt)]
    exact mn_old S cA cy ha i
theorem mn_row (S : State) (cA cy : ClassId) : ∀ i j, j < i → (mn_S S cA cy i).heap[S.heap.size + 1 + j]? = some (mn_i cy)
  | 0, j, h => absurd h (Nat.not_lt_zero j)
  | i + 1, j, h => by
    have f1 := (mn_facts S cA cy i).1
    show (((mn_S S cA cy i).pushCell (mn_i cy)).setCell S.heap.size _).heap[S.heap.size + 1 + j]? = _
    rw [State.heap_setCell_other (show S.heap.size ≠ S.heap.size + 1 + j by omega)]
    by_cases q : j < i
    · have hlt : S.heap.size + 1 + j < (mn_S S cA cy i).heap.size := by rw [f1]; omega
      rw [State.heap_pushCell_of_lt (h := hlt)]
      exact mn_row S cA cy i j q
    · rw [show S.heap.size + 1 + j = (mn_S S cA cy i).heap.size by omega]
      exact State.heap_pushCell_size _ _
section
variable {E : CtlPost} {e : Env} {d : Bool} {acts : List Action} {S : State}
theorem mn_make {cA cy cc : ClassId} {k kc : Class} (hk : S.vm.classes[cA]? = some k) (hkind : k.kind = .array cy (.array .int)) (hkc : S.vm.classes[cy]? = some kc) (hkindc : kc.kind = .array cc .int) (hl : e.platform.arrayLengthLimit = 2147483647 ∨ 8 ≤ e.platform.arrayLengthLimit) (hh : 32 ≤ e.platform.maxHeapBytes)
    (hc : S.heap.size + 4 ≤ e.platform.maxCells) (hs : S.slotsUsed + 27 ≤ e.platform.maxSlots) {Q : Addr → Pre} (hq : ∀ d' acts', Q S.heap.size d' acts' (mn_S S cA cy 3)) : wp (multianewarray.make cA [3, 8]) Q E e d acts S := by
  have hl8 : 8 ≤ e.platform.arrayLengthLimit := by omega
  have n3 : ¬ (3 : Int32) < 0 := by decide
  have n8 : ¬ (8 : Int32) < 0 := by decide
  have hfind : ([(8 : Int32)].find? (· < 0)) = none := by decide
  rw [multianewarray.make]
  simp only [wp_bind', W.ite, n3, if_false, wp_pure', W.theClass, hk, hkind, Option.some.injEq, exists_eq_left']
  refine W.newArray_of hk hkind (by show ¬ 3 > _; omega) (by show ¬ 3 * 4 > _; omega) (by omega) (by show S.slotsUsed + 3 ≤ _; omega) rfl (fun acts' => ?_)
  simp only [hfind]
  rw [ite_self, wp_bind', Std.Legacy.Range.forIn_eq_forIn_range']
  show wp (forIn (List.range' 0 3 1) PUnit.unit _) _ E e d acts' _
  have e0 : S.pushCell { cls := cA, slots := Array.replicate 3 Value.null } = mn_S S cA cy 0 := by
    show _ = S.pushCell (arrV cA 3 (fun j => va_rf (mn_f S.heap.size 0 j)))
    have : (fun j => va_rf (mn_f S.heap.size 0 j)) = fun _ => Value.null := by
      funext j
      unfold mn_f
      rw [if_neg (Nat.not_lt_zero j)]
      rfl
    rw [this, ← arrV_new]
  refine wp_forIn_inv (fun rest s' => ∃ i, i ≤ 3 ∧ rest = List.range' i (3 - i) ∧ s' = mn_S S cA cy i) _ _ ⟨0, Nat.zero_le _, rfl, e0⟩ ?_ ?_
  · rintro x rest s' d' acts' Q' ⟨i, hi, hr, rfl⟩ hnext
    have hlt : i < 3 := by
      rcases Nat.lt_or_ge i 3 with h | h
      · exact h
      · rw [show 3 - i = 0 by omega] at hr
        cases hr
    rw [show 3 - i = (3 - (i + 1)) + 1 by omega, List.range'_succ] at hr
    obtain ⟨rfl, hr2⟩ := List.cons.inj hr
    obtain ⟨f1, f2, f3, f4⟩ := mn_facts S cA cy x
    simp only [wp_bind']
    rw [multianewarray.make]
    simp only [wp_bind', W.ite, n8, if_false, wp_pure', W.theClass, f3, hkc, hkindc, Option.some.injEq, exists_eq_left']
    refine W.newArray_of (by rw [f3]; exact hkc) hkindc (by show ¬ 8 > _; omega) (by show ¬ 8 * 4 > _; omega) (by rw [f1]; omega) (by rw [f4]; show _ + 8 ≤ _; omega) rfl (fun acts2 => ?_)
    have ei : ({ cls := cy, slots := Array.replicate (8 : Int32).toNatClampNeg (defaultValue .int) } : Cell) = mn_i cy := arrV_new cy 8 (.int 0)
    have hlt0 : S.heap.size < (mn_S S cA cy x).heap.size := by omega
    simp only [ei, wp_bind', W.writeLoc, wp_pure']
    refine ⟨mn_o cA S.heap.size x, by rw [State.heap_pushCell_of_lt (h := hlt0)]; exact f2, (fun h => by cases h), by show x < (arrV cA 3 _).slots.size; rw [arrV_size]; exact hlt, ?_, hnext _ _ _ ⟨x + 1, hlt, hr2, ?_⟩⟩
    · show State.fitsSlot _ cA .none x _ = true
      simp [State.fitsSlot, State.slotType?, f3, hk, hkind, fits]
    · rw [f1, mn_os]
      rfl
  · rintro s' d' acts' ⟨i, hi, hr, rfl⟩
    have : i = 3 := by
      rcases Nat.lt_or_ge i 3 with h | h
      · rw [show 3 - i = (3 - (i + 1)) + 1 by omega, List.range'_succ] at hr
        cases hr
      · omega
    subst this
    simp only [wp_pure']
    exact hq _ _
end
theorem mn_over {args : Array Value} {s : State} (h : (Cond.arrayOver (.array .int)).before args s = true) : ∃ (cy cA : ClassId) (k : Class), s.vm.findClass (FieldType.array .int).toString = some cy ∧ s.vm.classes[cA]? = some k ∧ k.kind = .array cy (.array .int) ∧ s.vm.findClass ("[" ++ (FieldType.array .int).toString) = some cA := by
  simp only [Cond.before, Cond.holds, Cond.value, beq_iff_eq] at h
  cases hc : s.vm.findClass (FieldType.array .int).toString with
  | none => simp [hc] at h
  | some cy =>
    simp only [hc, Option.bind_some, Option.bind_eq_some_iff, Option.map_eq_some_iff] at h
    obtain ⟨cA, g1, k, g2, g3⟩ := h
    obtain ⟨g4, g5, -⟩ := Array.findIdx?_eq_some_iff_getElem.mp g1
    rw [(Array.getElem?_eq_some_iff.mp g2).2] at g5
    cases g6 : k.kind with
    | array comp ty =>
      rw [g6] at g3 g5
      simp at g3 g5
      exact ⟨cy, cA, k, rfl, g2, by rw [g6, g5, g3.1], g3.2⟩
    | _ => rw [g6] at g3; simp at g3
section
variable {p : Program} {l : Launch} {e : Env} {R : Room} {s : State} {m : MethodId} {args : Array Value} {below : List Frame} {meth : Method} {c : Code} {T : State} {H : Heap} {locs : List Loc} {cells slots : Nat} {Q : State → Prop}
theorem mn_stand (X : Stand p l e R s m args below meth c T locs cells slots) (cA cy : ClassId) : ∀ i, Stand p l e R s m args below meth c (mn_S T cA cy i) (locs ++ (List.range i).map fun j => ⟨T.heap.size, j⟩) (cells + 1 + i) (slots + 3 + i * 8)
  | 0 => by
    have h := X.pushed (mn_o cA T.heap.size 0)
    rw [show (mn_o cA T.heap.size 0).slots.size = 3 from arrV_size _ _ _] at h
    simpa [mn_S] using h
  | i + 1 => by
    have Y := mn_stand X cA cy i
    obtain ⟨f1, f2, -, -⟩ := mn_facts T cA cy i
    have hlt : T.heap.size < (mn_S T cA cy i).heap.size := by rw [f1]; omega
    have hcell : ((mn_S T cA cy i).pushCell (mn_i cy)).heap[T.heap.size]? = some (mn_o cA T.heap.size i) := by
      rw [State.heap_pushCell_of_lt (h := hlt)]
      exact f2
    have h := (Y.pushed (mn_i cy)).stored hcell i (.ref (T.heap.size + 1 + i))
    rw [show (mn_i cy).slots.size = 8 from arrV_size _ _ _, mn_os, List.append_assoc] at h
    have e2 : (List.range (i + 1)).map (fun j => (⟨T.heap.size, j⟩ : Loc)) = (List.range i).map (fun j => (⟨T.heap.size, j⟩ : Loc)) ++ [⟨T.heap.size, i⟩] := by simp [List.range_succ]
    rw [e2, show slots + 3 + (i + 1) * 8 = slots + 3 + i * 8 + 8 by omega]
    exact h
theorem mn_step (X : Stand p l e R s m args below meth c T locs cells slots) (hexec : p.tables.exec = Jvm.exec) {own : String} {index : Nat} (hown : s.vm.findClass own = some m.cls) (hclink : (Cond.classLink own index ("[" ++ (FieldType.array .int).toString)).before args s = true)
    (hover : (Cond.arrayOver (.array .int)).before args s = true) (harr : (Cond.arrayClass .int).before args s = true) {g : JFrame} (hg : g.method = m) (hdg : decode c.code g.pc = .ok (.multianewarray index 2, 4)) {rest : List Value} (hstack : g.stack = .int 8 :: .int 3 :: rest) (hcells : cells + 4 ≤ R.cells) (hslots : slots + 27 ≤ R.slots) :
    ∃ (vm₁ : Vm) (cA cy : ClassId), s.vm.findClass ("[" ++ (FieldType.array .int).toString) = some cA ∧ s.vm.findClass (FieldType.array .int).toString = some cy ∧ ArrOfT s cA (.array .int) ∧ ArrOfT s cy .int ∧
      Stand p l e R s m args below meth c (mn_S (T.setVm vm₁) cA cy 3) (locs ++ (List.range 3).map fun j => ⟨T.heap.size, j⟩) (cells + 4) (slots + 27) ∧
      ∀ target, Steps p.tables e below ((mn_S (T.setVm vm₁) cA cy 3).setTop { g with pc := g.pc + 4, stack := .ref T.heap.size :: rest }) target → Steps p.tables e below (T.setTop g) target := by
  subst hg
  have hpl : e.platform.magicAccessors = ({} : Platform).magicAccessors := by rw [X.admits.platform]
  obtain ⟨cy, cA, kA, h1, h2, h3, h4⟩ := mn_over hover
  obtain ⟨cy', kC, cc, g1, g2, g3⟩ := Cond.arrayClass_spec harr
  cases Option.some.inj (g1.symm.trans h1)
  obtain ⟨c0, hc0, hcl⟩ := Cond.classLink_spec hown hclink e.platform hpl
  cases h4.symm.trans hc0
  obtain ⟨hg1, hw1, -⟩ := State.classEntry (e := e) X.warmed hcl
  generalize T.vm.noted g.method.cls index (.cls cA) = vm₁ at hg1 hw1
  obtain ⟨kA1, hkA1, eA⟩ := hw1.alike.2.2 _ _ h2
  obtain ⟨kC1, hkC1, eC⟩ := hw1.alike.2.2 _ _ g2
  have X1 := X.noted hw1
  obtain ⟨r1, r2⟩ := X.roomAbove hcells hslots
  have XF := mn_stand X1 cA cy 3
  refine ⟨vm₁, cA, cy, h4, h1, fun n z => ⟨fun k h => (by cases h), kA, h2, cy, h3⟩, fun n z => ⟨fun k h => (by cases h), kC, g2, cc, g3⟩, XF, fun target hrest => ?_⟩
  have hlim : 8 ≤ e.platform.arrayLengthLimit := by rw [Launch.admits_arrayLengthLimit X.admits]; omega
  have hby : 32 ≤ e.platform.maxHeapBytes := by rw [Launch.admits_maxHeapBytes X.admits]; omega
  jvm_step X.here [hexec, hdg]
  simp only [multianewarray.sem, wp_bind', W.resolveClassAt_links (State.method?_setTop g X.here.top) hg1]
  rw [W.popN, if_neg (by decide)]
  refine ⟨g, State.topJava?_setTop' (s := T.setVm vm₁) g X.here.top, [.int 3, .int 8], rest, rfl, hstack, ?_⟩
  simp only [List.mapM_cons, List.mapM_nil, wp_bind', wp_pure']
  refine mn_make (k := kA1) (kc := kC1) (cc := cc) hkA1 (by rw [eA]; exact h3) hkC1 (by rw [eC]; exact g3) (Or.inr hlim) hby (by show T.heap.size + 4 ≤ _; omega) (by show T.slotsUsed + 27 ≤ _; omega) (fun d' acts' => ?_)
  have eS : ((T.setTop g).setVm vm₁).setTop { g with stack := rest } = (T.setVm vm₁).setTop { g with stack := rest } := by
    show ((T.setVm vm₁).setTop g).setTop _ = _
    rw [State.setTop_setTop]
  rw [eS, mn_top]
  simp only [wp_bind', W.mark, W.pushRef, State.topJava?_setTop' _ XF.here.top, Option.some.injEq, exists_eq_left', State.setTop_setTop, State.heap_setTop]
  intro acts
  simp [jvm, XF.here.top]
  exact hrest
end
section
variable {p : Program} {l : Launch} {e : Env} {R : Room} {s : State} {m : MethodId} {args : Array Value} {below : List Frame} {meth : Method} {c : Code} {H : Heap} {locs : List Loc} {cells slots : Nat} {Q : State → Prop}
variable {cc : ByteArray} {pc : Nat} {ls : Array Slot} {rest : List Value} {D : va_G} {cl : List vw_C} {A : Nat → Prop} {tys : List (ClassId × FieldType)} {ws : va_W} {H0 : Heap}
def mn_w (h : Nat) (cA cy : ClassId) : va_W := [(h, .inl (cA, 3, .inr (.inr (.inr (.inr (mn_f h 3)))))), (h + 1 + 0, .inl (cy, 8, .inl (fun _ => 0))), (h + 1 + 1, .inl (cy, 8, .inl (fun _ => 0))), (h + 1 + 2, .inl (cy, 8, .inl (fun _ => 0)))]
theorem mn_W (hexec : p.tables.exec = Jvm.exec) (hb : c.code = cc) {own : String} {index : Nat} (hown : s.vm.findClass own = some m.cls) (hclink : (Cond.classLink own index ("[" ++ (FieldType.array .int).toString)).before args s = true) (hover : (Cond.arrayOver (.array .int)).before args s = true) (harr : (Cond.arrayClass .int).before args s = true)
    (hK : va_K D cl tys s) (hP : va_P D cl ws H) (hD : va_D A ws) (hS : va_S A H0 H locs) (hA : ∀ q, H0.size ≤ q → A q) (hcells : cells + 4 ≤ R.cells) (hslots : slots + 27 ≤ R.slots) (hdg : decode cc pc = .ok (.multianewarray index 2, 4))
    (kk : ∀ (cA cy : ClassId) (H1 : Heap) (locs1 : List Loc), va_K D cl (tys ++ [(cA, .array .int), (cy, .int)]) s → va_P D cl (ws ++ mn_w H.size cA cy) H1 → va_D A (ws ++ mn_w H.size cA cy) → va_S A H0 H1 locs1 →
      W p l e R s m args below meth c H1 locs1 (cells + 4) (slots + 27) Q (F0 m (pc + 4) ls (.ref H.size :: rest))) : W p l e R s m args below meth c H locs cells slots Q (F0 m pc ls (.int 8 :: .int 3 :: rest)) := by
  intro T hT X
  obtain ⟨vm₁, cA, cy, h1, h2, h3, h4, X', step⟩ := mn_step X hexec hown hclink hover harr (g := F0 m pc ls (.int 8 :: .int 3 :: rest)) rfl (by rw [hb]; exact hdg) rfl hcells hslots
  have hTh : (T.setVm vm₁).heap = H := hT
  obtain ⟨f1, f2, -, -⟩ := mn_facts (T.setVm vm₁) cA cy 3
  rw [hTh] at f1 f2
  have hold : ∀ x : Nat, x < H.size → (mn_S (T.setVm vm₁) cA cy 3).heap[x]? = H[x]? := fun x hx => by
    have := mn_old (T.setVm vm₁) cA cy (a := x) (by rw [hTh]; exact hx) 3
    rw [hTh] at this
    exact this
  have hrow : ∀ j, j < 3 → (mn_S (T.setVm vm₁) cA cy 3).heap[H.size + 1 + j]? = some (mn_i cy) := fun j hj => by
    have := mn_row (T.setVm vm₁) cA cy 3 j hj
    rw [hTh] at this
    exact this
  have hlt : ∀ (k : Nat) (x : Nat × va_E), ws[k]? = some x → x.1 < H.size := fun k x hx => (hP k x hx).lt
  have hw : ∀ (k : Nat) (x : Nat × va_E), (mn_w H.size cA cy)[k]? = some x → x.1 = H.size + k ∧ va_at D cl x (mn_S (T.setVm vm₁) cA cy 3).heap := by
    intro k x hx
    match k, hx with
    | 0, hx => cases hx; exact ⟨rfl, f2⟩
    | 1, hx => cases hx; exact ⟨rfl, hrow 0 (by decide)⟩
    | 2, hx => cases hx; exact ⟨rfl, hrow 1 (by decide)⟩
    | 3, hx => cases hx; exact ⟨rfl, hrow 2 (by decide)⟩
    | k + 4, hx => cases hx
  have hsz : H0.size ≤ H.size := hS.1
  have hK2 : va_K D cl (tys ++ [(cA, .array .int), (cy, .int)]) s := hK.app ⟨hK.1, fun k x hx => by
    match k, hx with
    | 0, hx => cases hx; exact ⟨h3, h1⟩
    | 1, hx => cases hx; exact ⟨h4, h2⟩
    | k + 2, hx => cases hx⟩
  have hP2 : va_P D cl (ws ++ mn_w H.size cA cy) (mn_S (T.setVm vm₁) cA cy 3).heap := (hP.kept (fun k x hx => hold x.1 (hlt k x hx))).app (fun k x hx => (hw k x hx).2)
  have hD2 : va_D A (ws ++ mn_w H.size cA cy) := hD.app ⟨fun i j p q hp hq e => by
    have := (hw i p hp).1
    have := (hw j q hq).1
    omega, fun k q hq => hA _ (by have := (hw k q hq).1; omega)⟩ (fun i j p q hp hq e => by
    have := hlt i p hp
    have := (hw j q hq).1
    omega)
  have hS2 : va_S A H0 (mn_S (T.setVm vm₁) cA cy 3).heap (locs ++ (List.range 3).map fun j => ⟨T.heap.size, j⟩) := ⟨by rw [f1]; omega, fun x x1 x2 => (hold x (by omega)).trans (hS.2.1 x x1 x2), fun z hz => by
    rcases List.mem_append.mp hz with q | q
    · exact hS.2.2 z q
    · obtain ⟨j, -, rfl⟩ := List.mem_map.mp q
      exact hA _ (by show H0.size ≤ T.heap.size; rw [hT]; exact hsz)⟩
  obtain ⟨t, a1, b1⟩ := kk cA cy _ _ hK2 hP2 hD2 hS2 _ rfl X'
  refine ⟨t, step t ?_, b1⟩
  have e9 : T.heap.size = H.size := by rw [hT]
  rw [e9]
  exact a1
end
end MN
