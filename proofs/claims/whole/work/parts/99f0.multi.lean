/-! five rows of 705 ints, made by one instruction -/
def r2i (k : ClassId) : Cell := { cls := k, slots := Array.replicate 705 (.int 0), vm := .none }
def r2v (h i j : Nat) : Value := if j < i then .ref (h + 1 + j) else .null
def r2o (c : ClassId) (h i : Nat) : Cell := { cls := c, slots := #[r2v h i 0, r2v h i 1, r2v h i 2, r2v h i 3, r2v h i 4], vm := .none }
theorem r2o_0 {c : ClassId} {h : Nat} : r2o c h 0 = { cls := c, slots := Array.replicate 5 .null, vm := .none } := rfl
theorem r2v_s {h i j : Nat} (q : j ≠ i) : r2v h (i + 1) j = r2v h i j := by
  unfold r2v
  by_cases e : j < i
  · rw [if_pos e, if_pos (by omega)]
  · rw [if_neg e, if_neg (by omega)]
theorem r2o_s {c : ClassId} {h i : Nat} (hi : i < 5) : (r2o c h i).setSlot i (.ref (h + 1 + i)) = r2o c h (i + 1) := by
  rcases (show i = 0 ∨ i = 1 ∨ i = 2 ∨ i = 3 ∨ i = 4 by omega) with rfl | rfl | rfl | rfl | rfl <;> rfl
def r2s (T : State) (c k : ClassId) : Nat → State
  | 0 => T.pushCell (r2o c T.heap.size 0)
  | i + 1 => ((r2s T c k i).pushCell (r2i k)).setCell T.heap.size (r2o c T.heap.size (i + 1))
theorem r2i_size {k : ClassId} : (r2i k).slots.size = 705 := Array.size_replicate
theorem r2_facts (T : State) (c k : ClassId) : ∀ i, (r2s T c k i).heap.size = T.heap.size + 1 + i ∧ (r2s T c k i).heap[T.heap.size]? = some (r2o c T.heap.size i) ∧ (r2s T c k i).vm = T.vm ∧ (r2s T c k i).slotsUsed = T.slotsUsed + 5 + i * 705
  | 0 => ⟨by simp [r2s], by simp [r2s], rfl, by simp [r2s, r2o]⟩
  | i + 1 => by
    obtain ⟨a, b, d, u⟩ := r2_facts T c k i
    have hlt : T.heap.size < (r2s T c k i).heap.size := by omega
    have hb' : ((r2s T c k i).pushCell (r2i k)).heap[T.heap.size]? = some (r2o c T.heap.size i) := by rw [State.heap_pushCell_of_lt (h := hlt)]; exact b
    refine ⟨?_, State.heap_setCell_self hb', by simp [r2s, d], ?_⟩
    · simp [r2s, State.setCell, a]
      omega
    · simp [r2s, u, r2i_size, Nat.succ_mul]
      omega
theorem r2_top (T : State) (f : JFrame) (c k : ClassId) : ∀ i, r2s (T.setTop f) c k i = (r2s T c k i).setTop f
  | 0 => rfl
  | i + 1 => by simp only [r2s, r2_top T f c k i, State.heap_setTop, State.pushCell_setTop, State.setCell_setTop]
theorem r2_old (T : State) (c k : ClassId) {a : Nat} (ha : a < T.heap.size) : ∀ i, (r2s T c k i).heap[a]? = T.heap[a]?
  | 0 => State.heap_pushCell_of_lt _ _ ha
  | i + 1 => by
    have f1 := (r2_facts T c k i).1
    have hlt : a < (r2s T c k i).heap.size := by omega
    show (((r2s T c k i).pushCell (r2i k)).setCell T.heap.size _).heap[a]? = _
    rw [State.heap_setCell_other (Nat.ne_of_gt ha), State.heap_pushCell_of_lt (h := hlt)]
    exact r2_old T c k ha i
theorem r2_row (T : State) (c k : ClassId) : ∀ i j, j < i → (r2s T c k i).heap[T.heap.size + 1 + j]? = some (r2i k)
  | 0, _, h => absurd h (Nat.not_lt_zero _)
  | i + 1, j, h => by
    have f1 := (r2_facts T c k i).1
    show (((r2s T c k i).pushCell (r2i k)).setCell T.heap.size _).heap[T.heap.size + 1 + j]? = _
    rw [State.heap_setCell_other (show T.heap.size ≠ T.heap.size + 1 + j by omega)]
    by_cases e : j = i
    · subst e
      rw [← f1]
      exact State.heap_pushCell_size _ _
    · have hlt : T.heap.size + 1 + j < (r2s T c k i).heap.size := by omega
      rw [State.heap_pushCell_of_lt (h := hlt)]
      exact r2_row T c k i j (by omega)
section MU
variable {E : CtlPost} {e : Env} {d : Bool} {acts : List Action} {s : State}
/-- one array of default values -/
theorem wp_arr1 {c comp : ClassId} {k : Class} {type : FieldType} {len : Nat} {v : Value} (hk : s.vm.classes[c]? = some k) (hkind : k.kind = .array comp type) (h1 : ¬ len > e.platform.arrayLengthLimit) (h2 : ¬ len * componentBytes type > e.platform.maxHeapBytes) (hf : fits type v = true) (hv : v.isDefault = true) {Q : Addr → Pre} (h3 : s.heap.size < e.platform.maxCells) (h4 : s.slotsUsed + len ≤ e.platform.maxSlots) (hq : Q s.heap.size d acts (s.pushCell { cls := c, slots := Array.replicate len v, vm := .none })) : wp (Jvm.newArray c len v) Q E e d acts s := by
  have hfits : ∀ i x, (Array.replicate len v)[i]? = some x → s.fitsSlot c .none i x = true := by
    intro i x hx
    rw [Array.getElem?_replicate] at hx
    split at hx
    · cases hx
      simp [State.fitsSlot, State.slotType?, hk, hkind, hf]
    · cases hx
  have hacts : allocActs (Array.replicate len v) s.heap.size acts = acts := by
    unfold allocActs
    rw [if_pos]
    rw [Array.all_replicate]
    split <;> simp [hv]
  simp only [Jvm.newArray, Jvm.arrayFits, wp_bind', W.ask, W.ite, h1, if_false, wp_pure', W.theClass, hk, hkind, h2, W.alloc, W.stop, Option.some.injEq, exists_eq_left', Array.size_replicate, hacts]
  rw [if_neg (by omega)]
  exact ⟨h3, h4, hfits, hq⟩
theorem wp_arr2 {c comp x : ClassId} {kA kC : Class} (hA : s.vm.classes[c]? = some kA) (hA2 : kA.kind = .array comp (.array .int)) (hC : s.vm.classes[comp]? = some kC) (hC2 : kC.kind = .array x .int) (l1 : e.platform.arrayLengthLimit ≥ 705) (l2 : e.platform.maxHeapBytes ≥ 2820) (h3 : s.heap.size + 6 ≤ e.platform.maxCells) (h4 : s.slotsUsed + 3530 ≤ e.platform.maxSlots) {Q : Addr → Pre} (hq : ∀ d' acts', Q s.heap.size d' acts' (r2s s c comp 5)) : wp (multianewarray.make c [5, 705]) Q E e d acts s := by
  have n5 : (5 : Int32).toNatClampNeg = 5 := by decide
  have n705 : (705 : Int32).toNatClampNeg = 705 := by decide
  have c5 : ¬ (5 : Int32) < 0 := by decide
  have c705 : ¬ (705 : Int32) < 0 := by decide
  rw [multianewarray.make]
  simp only [wp_bind', W.ite, c5, if_false, wp_pure', W.theClass, hA, hA2, Option.some.injEq, exists_eq_left', n5]
  refine wp_arr1 hA hA2 (by omega) (by show ¬ 5 * 4 > _; omega) rfl rfl (by omega) (by omega) ?_
  have z5 : ((5 : Int32) == 0) = false := by decide
  simp only [z5, Bool.false_eq_true, if_false]
  rw [wp_bind', Std.Legacy.Range.forIn_eq_forIn_range']
  have hsz : ([:5] : Std.Legacy.Range).size = 5 := by simp [Std.Legacy.Range.size]
  rw [hsz]
  show wp (forIn (List.range' 0 5 1) PUnit.unit _) _ E e d acts _
  refine wp_forIn_inv (fun rest t => ∃ i, i ≤ 5 ∧ rest = List.range' i (5 - i) ∧ t = r2s s c comp i) _ _ ⟨0, by omega, rfl, by rw [r2s, r2o_0]⟩ ?_ ?_
  · rintro y rest t d' acts' Q' ⟨i, hi, hl, rfl⟩ hn
    have hlt : i < 5 := by
      apply Nat.lt_of_not_le
      intro q
      rw [show 5 - i = 0 by omega] at hl
      cases hl
    rw [show 5 - i = (5 - (i + 1)) + 1 by omega, List.range'_succ] at hl
    obtain ⟨hy, hrest⟩ := List.cons.inj hl
    subst hy
    obtain ⟨f1, f2, f3, f4⟩ := r2_facts s c comp y
    have hmul : y * 705 + 705 ≤ 3525 := by omega
    simp only [wp_bind']
    rw [multianewarray.make]
    simp only [wp_bind', W.ite, c705, if_false, wp_pure', W.theClass, f3, hC, hC2, Option.some.injEq, exists_eq_left', n705]
    refine wp_arr1 (by rw [f3]; exact hC) hC2 (by omega) (by show ¬ 705 * 4 > _; omega) rfl rfl (by rw [f1]; omega) (by rw [f4]; omega) ?_
    have hlt0 : s.heap.size < (r2s s c comp y).heap.size := by rw [f1]; omega
    simp only [wp_bind', W.writeLoc, wp_pure']
    refine ⟨r2o c s.heap.size y, (State.heap_pushCell_of_lt _ _ hlt0).trans f2, by show VmData.none ≠ _; simp, hlt, ?_, hn _ _ _ ⟨y + 1, hlt, hrest, ?_⟩⟩
    · simp [State.fitsSlot, State.slotType?, r2o, f3, hA, hA2, fits]
    · show ((r2s s c comp y).pushCell (r2i comp)).setCell s.heap.size ((r2o c s.heap.size y).setSlot y (.ref (r2s s c comp y).heap.size)) = _
      rw [f1, r2o_s hlt]
      rfl
  · rintro t d' acts' ⟨i, hi, hl, rfl⟩
    have hi5 : i = 5 := by
      apply Nat.le_antisymm hi
      apply Nat.le_of_not_lt
      intro q
      rw [show 5 - i = (5 - (i + 1)) + 1 by omega, List.range'_succ] at hl
      cases hl
    subst hi5
    simp only [wp_pure']
    exact hq _ _
end MU
section MV
variable {p : Program} {l : Launch} {e : Env} {R : Room} {s : State} {m : MethodId} {args : Array Value} {below : List Frame} {meth : Method} {c : Code} {T : State} {locs : List Loc} {cells slots : Nat}
theorem r2_stand (X : Stand p l e R s m args below meth c T locs cells slots) (cA cC : ClassId) : ∀ i, i ≤ 5 → Stand p l e R s m args below meth c (r2s T cA cC i) (locs ++ (List.range i).map fun j => ⟨T.heap.size, j⟩) (cells + 1 + i) (slots + 5 + i * 705)
  | 0, _ => by
    have h := X.pushed (r2o cA T.heap.size 0)
    simpa [r2s, r2o] using h
  | i + 1, hi => by
    have Xi := r2_stand X cA cC i (by omega)
    obtain ⟨f1, f2, f3, f4⟩ := r2_facts T cA cC i
    have hlt0 : T.heap.size < (r2s T cA cC i).heap.size := by omega
    have h := (Xi.pushed (r2i cC)).stored ((State.heap_pushCell_of_lt _ _ hlt0).trans f2) i (.ref (T.heap.size + 1 + i))
    rw [r2i_size, r2o_s (by omega)] at h
    have e2 : (locs ++ (List.range (i + 1)).map fun j => (⟨T.heap.size, j⟩ : Loc)) = (locs ++ (List.range i).map fun j => (⟨T.heap.size, j⟩ : Loc)) ++ [⟨T.heap.size, i⟩] := by simp [List.range_succ, List.append_assoc]
    rw [e2, show slots + 5 + (i + 1) * 705 = slots + 5 + i * 705 + 705 by omega]
    exact h
theorem st_multi (X : Stand p l e R s m args below meth c T locs cells slots) (hexec : p.tables.exec = Jvm.exec) {own : String} {ix : Nat} (hown : s.vm.findClass own = some m.cls) (hcl : (Cond.classLink own ix "[[I").before args s = true) {cA cC x : ClassId} {kA kC : Class} (h1 : s.vm.findClass "[[I" = some cA) (h3 : s.vm.classes[cA]? = some kA) (h4 : kA.kind = .array cC (.array .int)) (h5 : s.vm.classes[cC]? = some kC) (h6 : kC.kind = .array x .int)
    {g : JFrame} (hg : g.method = m) (hdg : decode c.code g.pc = .ok (.multianewarray ix 2, 4)) {rest : List Value} (hstack : g.stack = .int 705 :: .int 5 :: rest) (hcells : cells + 6 ≤ R.cells) (hslots : slots + 3530 ≤ R.slots) :
    ∃ vm₁ : Vm, s.WarmedH vm₁ ∧ Stand p l e R s m args below meth c (r2s (T.setVm vm₁) cA cC 5) (locs ++ (List.range 5).map fun j => ⟨T.heap.size, j⟩) (cells + 1 + 5) (slots + 5 + 5 * 705) ∧
      ∀ target, Steps p.tables e below ((r2s (T.setVm vm₁) cA cC 5).setTop { g with pc := g.pc + 4, stack := .ref T.heap.size :: rest }) target → Steps p.tables e below (T.setTop g) target := by
  subst hg
  have hpl : e.platform.magicAccessors = ({} : Platform).magicAccessors := by rw [X.admits.platform]
  obtain ⟨c0, hfc0, hcl⟩ := Cond.classLink_spec hown hcl e.platform hpl
  cases h1.symm.trans hfc0
  obtain ⟨hg₁, hwarm₁, hready₁⟩ := State.classEntry (e := e) X.warmed hcl
  generalize T.vm.noted g.method.cls ix (.cls cA) = vm₁ at hg₁ hwarm₁ hready₁
  have hal : s.vm.Alike vm₁ := hwarm₁.alike
  obtain ⟨kA₁, hkA₁, heA⟩ := hal.2.2 _ _ h3
  obtain ⟨kC₁, hkC₁, heC⟩ := hal.2.2 _ _ h5
  have hkA2 : kA₁.kind = .array cC (.array .int) := by rw [heA]; exact h4
  have hkC2 : kC₁.kind = .array x .int := by rw [heC]; exact h6
  have X₁ := X.noted hwarm₁
  obtain ⟨hr1, hr2⟩ := X.roomAbove hcells hslots
  have XF := r2_stand X₁ cA cC 5 (Nat.le_refl _)
  refine ⟨vm₁, hwarm₁, XF, fun target hrest => ?_⟩
  have l1 : e.platform.arrayLengthLimit ≥ 705 := by rw [Launch.admits_arrayLengthLimit X.admits]; decide
  have l2 : e.platform.maxHeapBytes ≥ 2820 := by rw [Launch.admits_maxHeapBytes X.admits]; decide
  jvm_step X.here [hexec, hdg]
  simp only [multianewarray.sem, wp_bind', W.resolveClassAt_links (State.method?_setTop g X.here.top) hg₁]
  rw [W.popN, if_neg (by decide)]
  refine ⟨g, State.topJava?_setTop' (s := T.setVm vm₁) g X.here.top, [.int 5, .int 705], rest, rfl, hstack, ?_⟩
  simp only [List.mapM_cons, List.mapM_nil, wp_bind', wp_pure']
  refine wp_arr2 (kA := kA₁) (kC := kC₁) (comp := cC) (x := x) hkA₁ hkA2 hkC₁ hkC2 l1 l2 (by show T.heap.size + 6 ≤ _; omega) (by show T.slotsUsed + 3530 ≤ _; omega) (fun d' acts' => ?_)
  have eS : ((T.setTop g).setVm vm₁).setTop { g with stack := rest } = (T.setVm vm₁).setTop { g with stack := rest } := by
    show ((T.setVm vm₁).setTop g).setTop _ = _
    rw [State.setTop_setTop]
  rw [eS, r2_top]
  simp only [wp_bind', W.mark, W.pushRef, State.topJava?_setTop' _ XF.here.top, Option.some.injEq, exists_eq_left', State.setTop_setTop, State.heap_setTop]
  intro acts
  simp [jvm, XF.here.top]
  exact hrest
end MV
