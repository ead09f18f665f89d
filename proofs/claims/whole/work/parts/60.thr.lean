/-! exceptions: throwing, leaving, catching -/
section TH
variable {p : Program} {l : Launch} {e : Env} {R : Room} {s : State} {m : MethodId} {args : Array Value} {below : List Frame} {meth : Method} {c : Code} {T : State} {locs : List Loc} {cells slots : Nat}
/-- the same state, with its own heap as the heap at the start -/
abbrev reS (s T : State) : State := { s with heap := T.heap, slotsUsed := T.slotsUsed }
theorem st_reroot (X : Stand p l e R s m args below meth c T locs cells slots) {R' : Room} (h1 : R'.frames = R.frames) (h2 : R'.locals = R.locals) (h3 : cells + R'.cells ≤ R.cells) (h4 : slots + R'.slots ≤ R.slots) :
    Stand p l e R' (reS s T) m args below meth c T [] 0 0 := by
  have hb := X.book
  have hz := X.heapSize
  have hu := X.used
  have hr := X.room
  have hs := X.same.1
  refine ⟨X.admits, X.cas, X.clock, X.frames, ?_, X.hears, X.method, X.code, X.here, X.tail, X.warmed, X.limits, X.bytes, ?_⟩
  · simp only [State.hasRoom, Bool.and_eq_true, decide_eq_true_eq] at hr ⊢
    obtain ⟨⟨⟨⟨a1, a2⟩, a3⟩, a4⟩, a5⟩ := hr
    refine ⟨⟨⟨⟨?_, ?_⟩, ?_⟩, ?_⟩, hb⟩
    · rw [h2]; exact a1
    · rw [h1, h2]; exact a2
    · show T.heap.size + R'.cells ≤ _
      omega
    · show T.slotsUsed + R'.slots ≤ _
      omega
  · refine ⟨?_, Nat.le_refl _, Nat.le_refl _, ?_, ?_, ?_⟩
    · exact hs
    · show T.slotsUsed = T.slotsUsed + ((T.heap.toList.drop T.heap.size).map _).sum
      rw [List.drop_of_length_le (by simp)]
      rfl
    · show ((T.heap.toList.drop T.heap.size).map _).sum ≤ 0
      rw [List.drop_of_length_le (by simp)]
      exact Nat.le_refl _
    · intro a c1 h
      exact ⟨c1, h, rfl, rfl, fun _ _ => rfl⟩
end TH
/-- the words on heap's statics that a throw needs -/
def zStw : List Cond := [.laysStatic Jvm.Bundle.tN "UNASSIGNED_STACK" Jvm.Bundle.steD, .laysStatic Jvm.Bundle.tN "SUPPRESSED_SENTINEL" Jvm.Bundle.listD, .isRef (.static Jvm.Bundle.tN "UNASSIGNED_STACK" Jvm.Bundle.steD), .isRef (.static Jvm.Bundle.tN "SUPPRESSED_SENTINEL" Jvm.Bundle.listD)]
def zExc : List String := ["java/lang/IllegalArgumentException", "java/lang/UnsupportedOperationException", "java/lang/ArithmeticException", "java/lang/IndexOutOfBoundsException"]
def zChn : List String := ["java/lang/RuntimeException", "java/lang/Exception"]
/-- the words on tables alone that are not among TT -/
def zFaw : List Cond := [.declares (Jvm.Bundle.initS "java/lang/RuntimeException"), .declares (Jvm.Bundle.initS "java/lang/Exception"), .declares (Jvm.Bundle.initS Jvm.Bundle.tN), .castable "java/lang/IllegalArgumentException" "java/lang/IllegalArgumentException", .castable "java/lang/UnsupportedOperationException" "java/lang/UnsupportedOperationException", .castable "java/lang/ArithmeticException" "java/lang/ArithmeticException", .castable "java/lang/IndexOutOfBoundsException" "java/lang/IndexOutOfBoundsException"]
def zStr : List (Nat × String) := [(35, "no such constant"), (62, "a is below 0"), (68, "a is below 0 or b is below 1"), (96, "no digit of the base"), (131, "the other is greater"), (142, "the product is too long"), (152, "the other is 0"), (166, "no such digit"), (176, "nothing to tell"), (178, "no such place"), (180, "nothing to look for, or nowhere"), (186, "a has more than n digits"), (188, "no such base"), (190, "n is not 0 to 6000"), (195, "too many places in this base"), (197, "the number is too long")]
/-- arrays of arrays of ints: their class, and that of the rows -/
def zArr (U : State) : Prop := ∃ (cA cC x : ClassId) (kA kC : Class), U.vm.findClass "[[I" = some cA ∧ U.vm.findClass "[I" = some cC ∧ U.vm.classes[cA]? = some kA ∧ kA.kind = .array cC (.array .int) ∧ U.vm.classes[cC]? = some kC ∧ kC.kind = .array x .int
theorem zArr.moved {u U : State} (h : u.vm.Alike U.vm) (g : zArr u) : zArr U := by
  obtain ⟨cA, cC, x, kA, kC, h1, h2, h3, h4, h5, h6⟩ := g
  obtain ⟨kA1, g3, g4⟩ := h.2.2 _ _ h3
  obtain ⟨kC1, g5, g6⟩ := h.2.2 _ _ h5
  exact ⟨cA, cC, x, kA1, kC1, by rw [h.findClass]; exact h1, by rw [h.findClass]; exact h2, g3, by rw [g4]; exact h4, g5, by rw [g6]; exact h6⟩
def zX (U : State) : Prop := (∀ w ∈ zStw, w.before #[] U = true) ∧ (∀ w ∈ zFaw, w.before #[] U = true) ∧ (∀ q ∈ zStr, ∃ a, vk_R "DigitMill" q.1 q.2 a U) ∧ va_Nc "java/lang/UnsupportedOperationException" "java/lang/IllegalArgumentException" U ∧ zArr U
theorem zFaw_f : ∀ c ∈ zFaw, c.faceAtom = true := by simp [zFaw, Cond.faceAtom]
theorem zStw_f : ∀ c ∈ zStw, c.keepsFace = true := by
  intro c hc
  simp only [zStw, List.mem_cons, List.not_mem_nil, or_false] at hc
  rcases hc with rfl | rfl | rfl | rfl <;> rfl
theorem zX_faw {c : Cond} (hc : c ∈ zFaw) {A A' : Array Value} {u U : State} (hW : u.WarmedH U.vm) (h : c.before A u = true) : c.before A' U = true := by
  have h1 : c.before A (u.setVm U.vm) = true := Cond.faceAtom_setVm hW.alike c (zFaw_f c hc) h
  simp only [zFaw, List.mem_cons, List.not_mem_nil, or_false] at hc
  rcases hc with rfl | rfl | rfl | rfl | rfl | rfl | rfl <;> exact h1
theorem st_lays {o n d : String} {A A' : Array Value} {V U : State} (hv : V.vm = U.vm) (hh : ∀ (a : Nat) (cell : Cell), V.heap[a]? = some cell → cell.vm.isStatics = true → U.heap[a]? = some cell) (h : (Cond.laysStatic o n d).before A V = true) : (Cond.laysStatic o n d).before A' U = true := by
  obtain ⟨c, k, i, f, a, cell, h1, h2, h3, h4, h5, h6, h7, h8, h9⟩ := Cond.laysStatic_spec (args := A) (first := V) (o := none) (s := V) (idx := []) h
  have h5' := hh a cell h5 h6
  have h2' : U.fieldFound? o n d = some (c, k, i, f) := by
    rw [← h2]
    unfold State.fieldFound?
    rw [hv]
  rw [hv] at h1
  simp [Cond.before, Cond.holds, Cond.value, h1, h2', h3, h4, h5', h6, h7, h8, h9]
theorem st_isRef {o n d : String} {A A' : Array Value} {V U : State} (hv : V.vm = U.vm) (hh : ∀ (a : Nat) (cell : Cell), V.heap[a]? = some cell → cell.vm.isStatics = true → U.heap[a]? = some cell) (h : (Cond.isRef (.static o n d)).before A V = true) : (Cond.isRef (.static o n d)).before A' U = true := by
  have hf : U.fieldFound? o n d = V.fieldFound? o n d := by
    unfold State.fieldFound?
    rw [hv]
  simp only [Cond.before, Cond.holds, Cond.value, Term.eval, State.fieldNamed?, hf] at h ⊢
  cases h1 : V.fieldFound? o n d with
  | none => rw [h1] at h; simp at h
  | some q =>
    obtain ⟨c, k, i, f⟩ := q
    rw [h1] at h
    by_cases h2 : f.isStatic = true
    · cases h3 : k.statics with
      | none => simp [h2, h3] at h
      | some a =>
        cases h4 : V.heap[a]? with
        | none => simp [h2, h3, h4] at h
        | some cell =>
          by_cases h5 : cell.vm.isStatics = true
          · simp [h2, h3, h4, h5] at h
            simp [h2, h3, hh a cell h4 h5, h5]
            exact h
          · simp [h2, h3, h4, h5] at h
    · simp [h2] at h
theorem zX_stw {c : Cond} (hc : c ∈ zStw) {A A' : Array Value} {u U : State} (hW : u.WarmedH U.vm) (hh : ∀ (a : Nat) (cell : Cell), u.heap[a]? = some cell → cell.vm.isStatics = true → U.heap[a]? = some cell) (h : c.before A u = true) : c.before A' U = true := by
  have h1 : c.before A (u.setVm U.vm) = true := Cond.before_shiftedFace (State.Shifted.of_warmed hW) c (zStw_f c hc) h
  simp only [zStw, List.mem_cons, List.not_mem_nil, or_false] at hc
  rcases hc with rfl | rfl | rfl | rfl
  · exact st_lays (V := u.setVm U.vm) rfl hh h1
  · exact st_lays (V := u.setVm U.vm) rfl hh h1
  · exact st_isRef (V := u.setVm U.vm) rfl hh h1
  · exact st_isRef (V := u.setVm U.vm) rfl hh h1
theorem zX_to {u U : State} (hW : u.WarmedH U.vm) (hh : ∀ (a : Nat) (cell : Cell), u.heap[a]? = some cell → cell.vm.isStatics = true → U.heap[a]? = some cell) (h : zX u) : zX U :=
  ⟨fun w hw => zX_stw hw hW hh (h.1 w hw), fun w hw => zX_faw hw hW (h.2.1 w hw), fun q hq => by
    obtain ⟨a, ha⟩ := h.2.2.1 q hq
    exact ⟨a, ha.warm hW⟩, va_Nc.moved hW.alike h.2.2.2.1, h.2.2.2.2.moved hW.alike⟩
theorem zidx {L : List Cond} {N : List Nat} {T : List Cond} (h : L.map some = N.map (fun i => T[i]?)) : ∀ a ∈ L, a ∈ T := by
  intro a ha
  have h1 : some a ∈ L.map some := List.mem_map.mpr ⟨a, ha, rfl⟩
  rw [h] at h1
  obtain ⟨i, -, hi⟩ := List.mem_map.mp h1
  exact List.mem_of_getElem? hi
def X_IAE : String := "java/lang/IllegalArgumentException"
theorem own_IAE : ∀ a ∈ Jvm.Bundle.ownAtoms "DigitMill" 37 X_IAE zChn, a ∈ zFaw ++ zStw ++ TT := zidx (N := [71, 302, 309, 315, 317, 319, 303, 304, 96, 97, 305, 308, 316, 527, 292, 528, 294, 529, 296, 306, 7, 307, 8, 298, 523, 524, 526, 298, 514, 515, 516, 517, 0, 517, 518, 519, 520, 1, 520, 521, 522, 523, 2, 648, 288, 3, 289, 290, 291, 293, 295, 297, 9, 10, 301, 300, 299]) (by decide +kernel)
def X_UOE : String := "java/lang/UnsupportedOperationException"
theorem own_UOE : ∀ a ∈ Jvm.Bundle.ownAtoms "DigitMill" 144 X_UOE zChn, a ∈ zFaw ++ zStw ++ TT := zidx (N := [71, 302, 309, 315, 317, 319, 303, 304, 96, 97, 305, 308, 316, 527, 292, 528, 294, 529, 296, 306, 7, 307, 8, 298, 523, 524, 526, 298, 671, 672, 673, 517, 0, 517, 518, 519, 520, 1, 520, 521, 522, 523, 2, 670, 663, 4, 664, 314, 665, 666, 667, 668, 9, 10, 301, 300, 669]) (by decide +kernel)
def X_ARE : String := "java/lang/ArithmeticException"
theorem own_ARE : ∀ a ∈ Jvm.Bundle.ownAtoms "DigitMill" 133 X_ARE zChn, a ∈ zFaw ++ zStw ++ TT := zidx (N := [71, 302, 309, 315, 317, 319, 303, 304, 96, 97, 305, 308, 316, 527, 292, 528, 294, 529, 296, 306, 7, 307, 8, 298, 523, 524, 526, 298, 842, 843, 844, 517, 0, 517, 518, 519, 520, 1, 520, 521, 522, 523, 2, 841, 834, 5, 835, 311, 836, 837, 838, 839, 9, 10, 301, 300, 840]) (by decide +kernel)
def X_IOE : String := "java/lang/IndexOutOfBoundsException"
theorem own_IOE : ∀ a ∈ Jvm.Bundle.ownAtoms "DigitMill" 168 X_IOE zChn, a ∈ zFaw ++ zStw ++ TT := zidx (N := [71, 302, 309, 315, 317, 319, 303, 304, 96, 97, 305, 308, 316, 527, 292, 528, 294, 529, 296, 306, 7, 307, 8, 298, 523, 524, 526, 298, 573, 574, 575, 517, 0, 517, 518, 519, 520, 1, 520, 521, 522, 523, 2, 894, 887, 6, 888, 313, 889, 890, 891, 892, 9, 10, 301, 300, 893]) (by decide +kernel)
section TH2
variable {p : Program} {l : Launch} {e : Env} {R : Room} {s : State} {m : MethodId} {args : Array Value} {below : List Frame} {meth : Method} {c : Code} {T : State} {locs : List Loc} {cells slots : Nat}
theorem same_old {s t : State} {k n : Nat} (h : s.sameButNew t [] k n) {a : Nat} {x : Cell} (hx : s.heap[a]? = some x) : t.heap[a]? = some x := by
  obtain ⟨x', h1, h2, h3, h4⟩ := h.2.2.2.2.2 a x hx
  have : x'.slots = x.slots := Array.ext_getElem? (fun i => h4 i (by simp))
  rw [h1, h2, this]
/-- an exception of its own making leaves the method -/
theorem st_throw (X : Stand p l e R s m args below meth c T locs cells slots) (hexec : p.tables.exec = Jvm.exec) {cc : ByteArray} (hb : c.code = cc) (htr : e.platform.stackTraces = false) (hown : s.vm.findClass "DigitMill" = some m.cls) (ht : ∀ w ∈ TT, w.before args s = true) (hx : zX (reS s T)) {E : String} {ixn ixs ixc : Nat} {tx : String}
    (hE : Jvm.Bundle.fit E = true) (hat : ∀ a ∈ Jvm.Bundle.ownAtoms "DigitMill" ixc E zChn, a ∈ zFaw ++ zStw ++ TT) (hcl : Cond.classLink "DigitMill" ixn E ∈ TT) (hin : Cond.instantiable E 6 ∈ TT) (hini : Cond.initialized E ∈ TT) (hstr : (ixs, tx) ∈ zStr) (htab : c.exceptionTable.isEmpty = true) (hlocks : meth.locks = false)
    {pc : Nat} {ls : Array Slot} (hls : ls.size = c.maxLocals) (d1 : decode cc pc = .ok (.new ixn, 3)) (d2 : decode cc (pc + 3) = .ok (.dup, 1)) (d3 : decode cc (pc + 4) = .ok (.ldc ixs, 2)) (d4 : decode cc (pc + 6) = .ok (.invokespecial ixc, 3)) (d5 : decode cc (pc + 9) = .ok (.athrow, 1))
    (hf : 6 ≤ R.frames) (hl : 100 ≤ R.locals) (hk : cells + 1 ≤ R.cells) (hn : slots + 6 ≤ R.slots) :
    ∃ (U : State) (ce : Cell), Steps p.tables e below (T.setTop (F0 m pc ls [])) U ∧ U.status = .running ∧ Ended U below (.threw T.heap.size) ∧ s.WarmedH U.vm ∧ s.sameButNew ({ U with vm := s.vm } : State) locs (cells + 1) (slots + 6) ∧
      (∀ q, q < T.heap.size → U.heap[q]? = T.heap[q]?) ∧ T.heap.size ≤ U.heap.size ∧ U.heap[T.heap.size]? = some ce ∧ s.vm.findClass E = some ce.cls ∧ ce.vm.isStatics = false := by
  obtain ⟨R1, r1, r2, r3, r4⟩ : ∃ R1 : Room, R1.frames = R.frames ∧ R1.locals = R.locals ∧ R1.cells = 1 ∧ R1.slots = 6 := ⟨{ R with cells := 1, slots := 6 }, rfl, rfl, rfl, rfl⟩
  have X' := st_reroot X (R' := R1) r1 r2 (by omega) (by omega)
  have ht' : ∀ w ∈ TT, w.before args (reS s T) = true := fun w hw => by
    have h1 := good_of_word (List.mem_filter.mp hw).2
    exact word_at (s := s) (U := reS s T) (State.WarmedH.refl s) h1 (ht w hw)
  have hfa : ∀ a ∈ Jvm.Bundle.ownAtoms "DigitMill" ixc E zChn, a.before args (reS s T) = true := fun a ha => by
    rcases List.mem_append.mp (hat a ha) with h1 | h1
    · rcases List.mem_append.mp h1 with h2 | h2
      · exact zX_faw h2 (State.WarmedH.refl _) (hx.2.1 a h2)
      · exact zX_stw h2 (State.WarmedH.refl _) (fun _ _ h _ => h) (hx.1 a h2)
    · exact ht' a h1
  obtain ⟨q, hq⟩ := hx.2.2.1 _ hstr
  obtain ⟨cX, kX, hcX, hkX, -⟩ := Cond.instantiable_spec (ht' _ hin)
  have key : W p l e R1 (reS s T) m args below meth c T.heap [] 0 0 (fun U => ∃ ce, U.status = .running ∧ Ended U below (.threw T.heap.size) ∧ (reS s T).WarmedH U.vm ∧ (reS s T).sameButNew ({ U with vm := (reS s T).vm } : State) [] 1 6 ∧ U.heap[T.heap.size]? = some ce ∧ (reS s T).vm.findClass E = some ce.cls ∧ ce.vm.isStatics = false) (F0 m pc ls []) := by
    refine W.newcK (s := reS s T) (R := R1) (cells := 0) (slots := 0) hexec hb hown (ht' _ hcl) (ht' _ hin) (ht' _ hini) (n := 6) (g := F0 m pc ls []) rfl d1 (by omega) (by omega) hcX (h := T.heap.size) rfl (fun H1 kC hkC e1 z1 o1 => ?_)
    refine lv_dup hexec hb d2 rfl ?_
    refine va_ldcS (s := reS s T) hexec hb hown hq d3 ?_
    intro T2 hT2 X2
    obtain ⟨U, h1, h2, h3, h4, h5, ce, h6, h7⟩ := X2.ctorThrowS hexec htr (own := "DigitMill") (cls := E) (names := zChn) (ic := ixc) hown hE (by decide) hfa (fun _ h => absurd h (by simp)) (a := T.heap.size) hcX hkC (by rw [hT2]; exact e1) (Nat.le_refl _) (msg := .ref q) rfl
      (g := F0 m (pc + 6) ls [.ref q, .ref T.heap.size, .ref T.heap.size]) rfl hls rfl rfl rfl (by rw [hb]; exact d4) (by rw [hb]; exact d5) (fun x hx => by
        rw [Array.isEmpty_iff.mp htab] at hx
        simp at hx) (by show 5 < R1.frames; omega) (by show 2 * 0 + 1 + (13 * 3 + 42) ≤ R1.locals; omega) hlocks
    exact ⟨U, h1, ce, h2, h3, h4, h5, h6, h7.cls, by rw [h7.vm]; rfl⟩
  obtain ⟨U, k1, ce, k2, k3, k4, k5, k6, k7, k8⟩ := key T rfl X'
  have hold : ∀ q, q < T.heap.size → U.heap[q]? = T.heap[q]? := fun q hq => by
    have e1 : (reS s T).heap[q]? = some T.heap[q] := Array.getElem?_eq_getElem hq
    have e2 : U.heap[q]? = some T.heap[q] := same_old k5 e1
    rw [e2]; exact e1.symm
  refine ⟨U, ce, k1, k2, k3, k4, ?_, hold, k5.2.1, k6, k7, k8⟩
  have hs := X.same
  have := hs.trans (u := ({ U with vm := s.vm } : State)) (l2 := []) (c2 := 1) (n2 := 6) ⟨?_, k5.2.1, k5.2.2.1, k5.2.2.2.1, k5.2.2.2.2.1, k5.2.2.2.2.2⟩
  · simpa using this
  · have h5 := k5.1
    have h6 := hs.1
    have h7 : ∀ F : List Frame, (T.setVm s.vm).setFrames F = { s.setFrames F with heap := T.heap, slotsUsed := T.slotsUsed } := fun F => by
      rw [h6]
      show ({ (s.setFrames (T.setVm s.vm).frames).setFrames F with heap := T.heap, slotsUsed := T.slotsUsed } : State) = _
      rw [State.setFrames_setFrames]
    rw [h7]
    exact h5
end TH2
/-- the callee's cells laid back among the caller's: what holds of the heap behind the call -/
theorem zjoin {D : va_G} {dA ad f : Nat → Nat} {A : Nat → Prop} {w wc w' : List va_E} {is : List Nat} {H H' : Heap} (hf : ∀ j a, is[j]? = some a → f j = a) (hnd : va_nd is = true) (hw : is.map (fun i => w[i]?) = wc.map (fun e => some (zE (fun i => i) f e))) (hl' : w'.length = wc.length)
    (h3 : va_P D clz (zW dA ad w) H) (h4 : va_D A (zW dA ad w)) (hP1 : va_P D clz (zW dA (fun j => ad (f j)) w') H') (hk : ∀ q : Nat, q < H.size → ¬ va_A (zW dA (fun j => ad (f j)) wc) H.size q → H'[q]? = H[q]?) :
    va_P D clz (zW dA ad (zput w is (w'.map (zE (fun i => i) f)))) H' ∧ va_D A (zW dA ad (zput w is (w'.map (zE (fun i => i) f)))) := by
  have hpick := zpick (dA := dA) (ad := ad) hf hw
  have hinj := va_nd_inj is hnd
  have hislen : is.length = wc.length := by have := congrArg List.length hw; simpa using this
  have hsz : ∀ (k : Nat) (x : Nat × va_E), (zW dA ad w)[k]? = some x → x.1 < H.size := fun k x hx => (h3 k x hx).lt
  have hP' : va_P D clz (zW dA ad (zput w is (w'.map (zE (fun i => i) f)))) H' := by
    intro k x hx
    have hkl : k < w.length := by
      have := (List.getElem?_eq_some_iff.mp hx).1
      rw [zW_len, zput_len] at this
      exact this
    by_cases hm : k ∈ is
    · obtain ⟨j, hj⟩ := List.getElem?_of_mem hm
      have hjl : j < w'.length := by rw [hl', ← hislen]; exact (List.getElem?_eq_some_iff.mp hj).1
      obtain ⟨e9, he9⟩ : ∃ e9, w'[j]? = some e9 := ⟨_, List.getElem?_eq_getElem hjl⟩
      have h9 : (zput w is (w'.map (zE (fun i => i) f)))[k]? = some (zE (fun i => i) f e9) := zput_at is w _ j k _ hinj hj (by rw [List.getElem?_map, he9]; rfl) hkl
      rw [zW_at h9] at hx
      cases hx
      have h10 := hP1 j _ (zW_at he9)
      rw [zE_comp]
      rw [hf j k hj] at h10
      exact h10
    · obtain ⟨e9, he9⟩ : ∃ e9, w[k]? = some e9 := ⟨_, List.getElem?_eq_getElem hkl⟩
      have h9 : (zput w is (w'.map (zE (fun i => i) f)))[k]? = some e9 := by rw [zput_ne is w _ k hm]; exact he9
      rw [zW_at h9] at hx
      cases hx
      refine (h3 k _ (zW_at he9)).kept ?_
      show H'[ad k]? = H[ad k]?
      refine hk (ad k) (hsz k _ (zW_at he9)) (fun q => ?_)
      rcases q with ⟨j, e8, h8⟩ | q
      · have h7 : (is.map (fun i => (zW dA ad w)[i]?))[j]? = some (some (ad k, e8)) := by rw [hpick, List.getElem?_map, h8]; rfl
        rw [List.getElem?_map] at h7
        cases hi : is[j]? with
        | none => rw [hi] at h7; cases h7
        | some i =>
          rw [hi] at h7
          have h6' : (zW dA ad w)[i]? = some (ad k, e8) := Option.some.inj h7
          have := h4.1 k i _ _ (zW_at he9) h6' rfl
          subst this
          exact hm (List.mem_of_getElem? hi)
      · have := hsz k _ (zW_at he9)
        exact absurd q (Nat.not_le.mpr this)
  have hD' : va_D A (zW dA ad (zput w is (w'.map (zE (fun i => i) f)))) := by
    have hz9 : ∀ (k : Nat) (x : Nat × va_E), (zW dA ad (zput w is (w'.map (zE (fun i => i) f))))[k]? = some x → ∃ e9 : va_E, (zW dA ad w)[k]? = some (x.1, e9) := by
      intro k x hx
      have hkl : k < w.length := by
        have := (List.getElem?_eq_some_iff.mp hx).1
        rw [zW_len, zput_len] at this
        exact this
      obtain ⟨e9, he9⟩ : ∃ e9, w[k]? = some e9 := ⟨_, List.getElem?_eq_getElem hkl⟩
      have hx2 : x.1 = ad k := by
        simp only [zW, List.getElem?_mapIdx] at hx
        cases hq : (zput w is (w'.map (zE (fun i => i) f)))[k]? with
        | none => rw [hq] at hx; cases hx
        | some e7 => rw [hq] at hx; cases hx; rfl
      exact ⟨_, by rw [hx2]; exact zW_at he9⟩
    refine ⟨fun i j x y hx hy hxy => ?_, fun k x hx => ?_⟩
    · obtain ⟨e8, h8⟩ := hz9 i x hx
      obtain ⟨e9, h9⟩ := hz9 j y hy
      exact h4.1 i j _ _ h8 h9 hxy
    · obtain ⟨e8, h8⟩ := hz9 k x hx
      exact h4.2 k (x.1, e8) h8
  exact ⟨hP', hD'⟩
def zQT (D : va_G) (dA : Nat → Nat) (A : Nat → Prop) (ad : Nat → Nat) (n0 : Nat) (E : String) (Post : List va_E → Prop) (st : State) (oc : Outcome) (t : State) : Prop :=
  ∃ (x : Nat) (w : List va_E) (ce : Cell), oc = .threw x ∧ t.heap[x]? = some ce ∧ ce.vm.isStatics = false ∧ st.vm.findClass E = some ce.cls ∧ w.length = n0 ∧ va_P D clz (zW dA ad w) t.heap ∧ va_D A (zW dA ad w) ∧ Post w ∧ va_F A st t
def zET (A : Nat → Prop) (R : Room) (st t : State) : Prop := ∃ L : List Loc, st.WarmedH t.vm ∧ st.sameButNew ({ t with vm := st.vm } : State) L R.cells R.slots ∧ ∀ q ∈ L, A q.base
/-- method y throws an E -/
def MT (y : MethodName) (cc : ByteArray) (nL : Nat) (ret : Option FieldType) (R : Room) (As : List Value) (w : List va_E) (E : String) (Post : List va_E → Prop) : Prop :=
  ∀ (l : Launch) (D : va_G) (dA ad : Nat → Nat) (sz : Nat), l.stackTraces = false → MetFree l y (headSpec (.code y cc nL ret :: TT) R) (va_Pc (As.map (zV ad)) (fun U => zPre D dA ad sz w U ∧ zX U)) (fun _ _ _ _ _ => True) (fun _ st o t => zQT D dA (va_A (zW dA ad w) sz) ad w.length E Post st o t ∧ zET (va_A (zW dA ad w) sz) R st t)
/-- where an exception may leave the method -/
def Ct (Z : ZP) (own : String) (cc : ByteArray) (nL : Nat) (R : Room) (n0 : Nat) (E : String) (Post : List va_E → Prop) : Prop :=
  ∃ (p : Program) (l : Launch) (e : Env) (s : State) (m : MethodId) (args : Array Value) (below : List Frame) (meth : Method) (c : Code) (D : va_G) (dA : Nat → Nat) (A : Nat → Prop) (ad0 : Nat → Nat), zOK p s m args c own cc nL D dA A ∧ l.stackTraces = false ∧ zX s ∧ (∀ q, A q → ∀ cell, s.heap[q]? = some cell → cell.vm.isStatics = false) ∧ c.exceptionTable.isEmpty = true ∧ meth.locks = false ∧
    Z = Zof p l e R s m args below meth c nL D dA A ad0 n0 (fun t => ∃ o, t.status = .running ∧ Ended t below o ∧ zQT D dA A ad0 n0 E Post s o t ∧ zET A R s t)
theorem zw_nst {D : va_G} {cl : List vw_C} {ws : va_W} {H : Heap} (hP : va_P D cl ws H) : ∀ q, va_A ws H.size q → ∀ cell, H[q]? = some cell → cell.vm.isStatics = false := by
  intro q hq cell hc
  rcases hq with ⟨k, e, h1⟩ | h1
  · have h2 := hP k _ h1
    rcases e with e | e
    · have h3 : H[q]? = some (vp_cell e.1 e.2) := h2
      rw [h3] at hc
      cases hc
      obtain ⟨c9, n9, g | g | g | g | g⟩ := e <;> rfl
    · obtain ⟨q', g1, cell', g2, g3, g4, -⟩ := h2
      rw [show H[q]? = some cell' from g2] at hc
      cases hc
      rw [g4]
      rfl
  · have := (Array.getElem?_eq_some_iff.mp hc).1
    exact absurd h1 (Nat.not_le.mpr this)
theorem zX_blind {U : State} {g : JFrame} {mk : MethodId} {a : Array Value} (h : zX U) : zX (U.calling g mk a) := zX_to (u := U) (U := U.calling g mk a) (State.WarmedH.refl U) (fun _ _ h _ => h) h
set_option maxHeartbeats 1000000 in
theorem MT_of {y : MethodName} {cc : ByteArray} {nL : Nat} {ret : Option FieldType} {R : Room} {As : List Value} {w : List va_E} {E : String} {Post : List va_E → Prop} {own : String} (hy : plainName y.cls = true) (ho : y.cls = own) (hsl : ∀ ad : Nat → Nat, (lg_sl (As.map (zV ad))).length ≤ nL)
    (body : ∀ Z : ZP, Cb Z own cc nL R → Ct Z own cc nL R w.length E Post → Z 0 0 w (lv_args 0 As) 0 []) : MT y cc nL ret R As w E Post := by
  intro l D dA ad sz htr
  refine MetFree.of_bodyS (code := cc) (maxLocals := nL) (ret := ret) hy ?_ ?_
  · intro args s m h hn
    obtain ⟨meth, c, h1, h2, h3, h4, h5, h6, -, -⟩ := Cond.code_spec hn (atoms_spec (ws := .code y cc nL ret :: TT) h _ List.mem_cons_self)
    exact ⟨meth, c, h1, h2, h3, h4, h5, h6⟩
  · intro p e s m args below meth c s₁ B hml hv _
    obtain ⟨rfl, ⟨hsz, hP, hK, hN, hD0⟩, hX⟩ := hv
    have hts := atoms_spec (ws := .code y cc nL ret :: TT) B.pre
    have hown : s.vm.findClass own = some m.cls := by rw [← ho]; exact findClass_of_methodNamed B.named
    have hlocks := B.notSynchronized
    have htab : c.exceptionTable.isEmpty = true := by
      obtain ⟨meth', c', h1, h2, h3, h4, h5, h6, h7, -⟩ := Cond.code_spec B.named (hts _ List.mem_cons_self)
      have X₀ := Stand.of_body B
      have e1 := X₀.method
      rw [e1] at h1
      cases h1
      have e2 := X₀.code
      rw [e2] at h2
      cases h2
      exact h7
    subst hsz
    have hD := hD0.self (sz := s.heap.size)
    have hst := zw_nst hP
    generalize hAe : va_A (zW dA ad w) s.heap.size = A at hD hst ⊢
    have hA : ∀ q : Nat, s.heap.size ≤ q → A q := fun q h => by rw [← hAe]; exact Or.inr h
    have hl := lv_entry (As.map (zV ad)) (n := nL) (hsl ad)
    rw [zl_args] at hl
    have hok : zOK p s m (As.map (zV ad)).toArray c own cc nL D dA A := ⟨B.exec, B.bytes, hml, hown, fun q hq => hts q (List.mem_cons_of_mem _ hq), hN, hK, hA⟩
    have key := body (Zof p l e R s m (As.map (zV ad)).toArray below meth c nL D dA A ad w.length (fun t => ∃ o, t.status = .running ∧ Ended t below o ∧ zQT D dA A ad w.length E Post s o t ∧ zET A R s t))
      ⟨p, l, e, s, m, (As.map (zV ad)).toArray, below, meth, c, D, dA, A, ad, w.length, _, hok, rfl⟩
      ⟨p, l, e, s, m, (As.map (zV ad)).toArray, below, meth, c, D, dA, A, ad, hok, htr, hX, hst, htab, hlocks, rfl⟩
    have hh0 : s₁.heap = s.heap := by rw [B.state]; rfl
    have k1 := key ad s.heap [] _ (fun _ _ => rfl) (Nat.le_refl _) hP hD va_S.rf hl
    have k2 : W p l e R s m (As.map (zV ad)).toArray below meth c s.heap [] 0 0 (fun t => ∃ o, t.status = .running ∧ Ended t below o ∧ zQT D dA A ad w.length E Post s o t ∧ zET A R s t) (entryFrame m (As.map (zV ad)).toArray nL) := by
      rw [lg_entry_eq]
      exact k1
    obtain ⟨t, a1, o, b1, b2, b3⟩ := k2 s₁ hh0 (Stand.of_body B)
    exact ⟨t, o, a1, b1, b2, b3⟩
theorem tr_off {l : Launch} {e : Env} (h : l.admits e) (hl : l.stackTraces = false) : e.platform.stackTraces = false := by
  rw [h.platform]; exact hl
section ZT
variable {Z : ZP} {own : String} {cc : ByteArray} {nL : Nat} {R : Room} {k n pc : Nat} {w : List va_E} {lv : List (Nat × Value)}
theorem zX_mid {s T : State} {A : Nat → Prop} {locs : List Loc} (hX : zX s) (hst : ∀ q, A q → ∀ cell, s.heap[q]? = some cell → cell.vm.isStatics = false) (hS : va_S A s.heap T.heap locs) : zX (reS s T) :=
  zX_to (u := s) (U := reS s T) (State.WarmedH.refl s) (fun a cell h hs => by
    have h1 : ¬ A a := fun hA => by rw [hst a hA cell h] at hs; cases hs
    show T.heap[a]? = some cell
    rw [hS.2.1 a (Array.getElem?_eq_some_iff.mp h).1 h1]
    exact h) hX
/-- new E; dup; ldc; invokespecial; athrow -/
theorem z_throw {n0 : Nat} {E : String} {Post : List va_E → Prop} (h : Ct Z "DigitMill" cc nL R n0 E Post) {ixn ixs ixc : Nat} {tx : String} (hE : Jvm.Bundle.fit E = true) (hat : ∀ a ∈ Jvm.Bundle.ownAtoms "DigitMill" ixc E zChn, a ∈ zFaw ++ zStw ++ TT) (hcl : Cond.classLink "DigitMill" ixn E ∈ TT) (hin : Cond.instantiable E 6 ∈ TT) (hini : Cond.initialized E ∈ TT) (hstr : (ixs, tx) ∈ zStr)
    (d1 : decode cc pc = .ok (.new ixn, 3)) (d2 : decode cc (pc + 3) = .ok (.dup, 1)) (d3 : decode cc (pc + 4) = .ok (.ldc ixs, 2)) (d4 : decode cc (pc + 6) = .ok (.invokespecial ixc, 3)) (d5 : decode cc (pc + 9) = .ok (.athrow, 1))
    (hf : 6 ≤ R.frames) (hl : 100 ≤ R.locals) (hk : k + 1 = R.cells) (hn : n + 6 = R.slots) (hw : w.length = n0) (hp : Post w) : Z k n w lv pc [] := by
  obtain ⟨p, l, e, s, m, args, below, meth, c, D, dA, A, ad0, ⟨hx, hb, hml, ho, hts, hnt, hK, hA⟩, htr, hX, hst, htab, hlocks, rfl⟩ := h
  intro ad H locs ls h1 h2 h3 h4 h5 h6 T hT X
  have had : ad = ad0 := funext fun i => h1 i (by rw [hw]; exact Nat.lt_or_ge i n0)
  subst had
  subst hT
  obtain ⟨U, ce, u1, u2, u3, u4, u5, u6, u7, u8, u9, u10⟩ := st_throw X hx hb (tr_off X.admits htr) ho hts (zX_mid hX hst h5) hE hat hcl hin hini hstr htab hlocks (h6.1.trans hml.symm) d1 d2 d3 d4 d5 hf hl (by omega) (by omega)
  refine ⟨U, u1, _, u2, u3, ⟨T.heap.size, w, ce, rfl, u8, u10, u9, hw, h3.kept (fun k x hx => u6 x.1 ((h3 k x hx).lt)), h4, hp, Nat.le_trans h5.1 u7, fun q g1 g2 => ?_⟩, ⟨locs, u4, ?_, h5.2.2⟩⟩
  · rw [u6 q (Nat.lt_of_lt_of_le g1 h5.1)]
    exact h5.2.1 q g1 g2
  · rw [← hk, ← hn]
    exact u5
end ZT
section TH3
variable {p : Program} {l : Launch} {e : Env} {R : Room} {s : State} {m : MethodId} {args : Array Value} {below : List Frame} {meth : Method} {c : Code} {T : State} {locs : List Loc} {cells slots : Nat}
/-- a callee that throws: behind it, the note of the exception lies over the caller's frame -/
theorem st_out (X : Stand p l e R s m args below meth c T locs cells slots) {g : JFrame} (hg : g.method = m) (hsize : g.locals.size = c.maxLocals) {ig : Instr} {len : Nat} (hdg : decode c.code g.pc = .ok (ig, len)) (hW : 2 * g.monitorRoom + (g.stack.map fun v => v.category).sum ≤ 8)
    {y : MethodName} {mk : MethodId} (hn : T.methodNamed? y = some mk) {cy : ByteArray} {ny : Nat} {ry : Option FieldType} {Ry : Room} {P : Array Value → State → Prop} {Q : Array Value → State → Outcome → State → Prop} {A : Nat → Prop}
    (hM : MetFree l y (headSpec (.code y cy ny ry :: TT) Ry) P (fun _ _ _ _ _ => True) (fun a st o t => Q a st o t ∧ zET A Ry st t)) (hpay : ∀ w ∈ Cond.code y cy ny ry :: TT, ∀ a' U, s.WarmedH U.vm → w.before a' U = true) (hini : (Cond.initialized y.cls).before #[] T = true)
    (hfr : Ry.frames + 1 ≤ R.frames) (hlo : 8 + (ny + 11) + Ry.locals ≤ R.locals) (hk : cells + Ry.cells ≤ R.cells) (hs : slots + Ry.slots ≤ R.slots) {a : Array Value} (hP : P a (T.calling g mk a)) (hQ : ∀ o t, Q a (T.calling g mk a) o t → ∃ x, o = .threw x) :
    ∃ (x : Nat) (T' t : State) (L : List Loc), Stand p l e R s m args below meth c T' (locs ++ L) (cells + Ry.cells) (slots + Ry.slots) ∧ (∀ q ∈ L, A q.base) ∧ T'.heap = t.heap ∧ Q a (T.calling g mk a) (.threw x) t ∧ ∀ acts, Steps p.tables e below (doInvoke e (T.setTop g) acts mk a).1 ((T'.setTop g).pushFrame (.throwing x)) := by
  have hcode := hpay _ List.mem_cons_self a T X.warmed
  obtain ⟨methY, cY, hmY, hcY, -, hlY, -, -, -, -⟩ := Cond.code_spec hn hcode
  obtain ⟨kY, hkY, -⟩ := className_of_methodNamed hn
  have hinitY : kY.init = .initialized := Cond.initialized_spec (findClass_of_methodNamed hn) hkY hini
  have h : At T g.method c below := by rw [hg]; exact X.here
  have happ : (headSpec (.code y cy ny ry :: TT) Ry).appliesLoose y e.platform (T.calling g mk a) = true :=
    Spec.appliesLoose_calling (g := g) h hdg hn hkY hinitY (X.room_calling (g := g) (R' := Ry) hsize hmY hcY hfr (by rw [hlY]; omega) hk hs) (atoms_intro fun w hw => hpay w hw _ _ X.warmed)
  obtain ⟨mid, hmid⟩ := h.above
  have hfr : (T.setTop g).frames = (.java g :: mid) ++ below := by rw [State.frames_setTop' g h.top, hmid]; rfl
  obtain ⟨o, s₂, hsteps, -, hend, hq, L, hW2, hsame, hL⟩ := Steps.callFree hM p X.admits X.cas X.clock (acts := []) hfr happ hP trivial
  obtain ⟨x, rfl⟩ := hQ _ _ hq
  rw [State.frames_setTop' g h.top, X.tail] at hend
  obtain ⟨T', X', w1, w2, w3⟩ := X.outOfThrown hg hend hW2 hsame
  refine ⟨x, T', s₂, L, X', hL, ?_, hq, fun acts => ?_⟩
  · rw [w3, Stand.throwing_heap]
  · rw [← w3]
    rw [doInvoke_state] at hsteps ⊢
    exact hsteps
end TH3
section ZT2
variable {Z : ZP} {own : String} {cc : ByteArray} {nL : Nat} {R : Room} {k n pc : Nat} {w : List va_E} {lv : List (Nat × Value)} {st : List Value}
variable {y : MethodName} {cy : ByteArray} {ny : Nat} {ry : Option FieldType} {Ry : Room} {As : List Value} {wc : List va_E}
set_option maxHeartbeats 2000000 in
/-- a static callee throws, and so this method does -/
theorem z_tS {n0 : Nat} {E : String} {Post Post' : List va_E → Prop} (h : Ct Z own cc nL R n0 E Post) {stk : List Value} {ix : Nat} (hM : MT y cy ny ry Ry As wc E Post') (hF : zFit y cy ny ry Ry R As.length) (hl : Cond.methodLink own ix y ∈ TT) (hs : Cond.static y ∈ TT) (d : decode cc pc = .ok (.invokestatic ix, 3)) (hk : k + Ry.cells = R.cells ∧ n + Ry.slots = R.slots) (is : List Nat) (hnd : va_nd is = true) (hw : is.map (fun i => w[i]?) = wc.map (fun e => some (zE (fun i => i) (zfn is) e))) (hst : (st.map fun v => v.category).sum ≤ 8) (hstk : ((As.map (zV (zfn is))).reverse ++ st) = stk) (hwl : w.length = n0)
    (kk : ∀ w', w'.length = wc.length → Post' w' → Post (zput w is (w'.map (zE (fun i => i) (zfn is))))) : Z k n w lv pc stk := by
  subst hstk
  obtain ⟨p, l, e, s, m, args, below, meth, c, D, dA, A, ad0, ⟨hx, hb, hml, ho, hts, hnt, hK, hA⟩, htr, hX, hnst, htab, hlocks, rfl⟩ := h
  intro ad H locs ls h1 h2 h3 h4 h5 h6 T hT X
  have had : ad = ad0 := funext fun i => h1 i (by rw [hwl]; exact Nat.lt_or_ge i n0)
  subst had
  subst hT
  obtain ⟨f1, f2, f3, f4, f5, f6⟩ := hF
  have hpick := zpick (dA := dA) (ad := ad) (zfn_at (is := is)) hw
  have hPc : va_P D clz (zW dA (fun j => ad (zfn is j)) wc) T.heap := h3.sub is (zmap_filter hpick)
  have hDc : va_D A (zW dA (fun j => ad (zfn is j)) wc) := h4.sub is hnd hpick
  have hFc := va_free (wc := zW dA (fun j => ad (zfn is j)) wc) h4 h5 hA is hpick
  have hpay := pay_in (args := args) (s := s) hts (zgood f1)
  obtain ⟨mk, hnamed⟩ : ∃ mk, s.methodNamed? y = some mk := by
    have h9 := hts _ hs
    simp only [Cond.before, Cond.holds, Cond.value] at h9
    cases hq : s.methodNamed? y with
    | none => simp [hq] at h9
    | some mk => exact ⟨mk, rfl⟩
  obtain ⟨methM, cM, hmethM, -, -, -, -, -, -, hsigM⟩ := Cond.code_spec hnamed (hts _ f1)
  have hstatic : methM.isStatic = true := Cond.static_spec hnamed hmethM (hts _ hs)
  obtain ⟨kP, hkP, -⟩ := className_of_methodNamed hnamed
  have hinitP : kP.init = .initialized := Cond.initialized_spec (findClass_of_methodNamed hnamed) hkP (hts _ f2)
  have hlenY : As.length = methM.sig.parameters.length := by
    rw [hsigM] at f4
    exact (Option.some.inj f4).symm
  have e0 : ((As.map (zV (zfn is))).reverse ++ st).map (zV ad) = (As.map (zV (fun j => ad (zfn is j)))).reverse ++ st.map (zV ad) := by
    simp only [List.map_append, List.map_reverse, List.map_map]
    congr 2
    apply List.map_congr_left
    intro v _
    exact zV_comp v
  rw [e0]
  obtain ⟨vm₁, X₁, st₁⟩ := X.invokestatic hx ho (hts _ hl) hnamed hmethM hstatic hkP hinitP f3 (g := F0 m pc ls ((As.map (zV (fun j => ad (zfn is j)))).reverse ++ st.map (zV ad))) rfl (argsL := As.map (zV (fun j => ad (zfn is j)))) (rest := st.map (zV ad)) (by rw [List.length_map]; exact hlenY) rfl (by rw [hb]; exact d)
  have hini1 : (Cond.initialized y.cls).before #[] (T.setVm vm₁) = true := word_at (s := s) (U := T.setVm vm₁) X₁.warmed (good_of_word (List.mem_filter.mp f2).2) (hts _ f2)
  have hXT : zX (T.setVm vm₁) := zX_to (u := reS s T) (U := T.setVm vm₁) X₁.warmed (fun _ _ h _ => h) (zX_mid hX hnst h5)
  have hpre : va_Pc (As.map (zV (fun j => ad (zfn is j)))) (fun U => zPre D dA (fun j => ad (zfn is j)) T.heap.size wc U ∧ zX U) (As.map (zV (fun j => ad (zfn is j)))).toArray (T.setVm vm₁) :=
    ⟨rfl, ⟨rfl, hPc, va_K.moved X₁.warmed.alike hK, nt_warm X₁.warmed hnt, hDc.weaken (fun _ _ _ _ => trivial)⟩, hXT⟩
  obtain ⟨x, T', t, L, X', hL, e1, hq, hgo⟩ := st_out X₁ (g := F0 m pc ls (st.map (zV ad))) rfl (h6.1.trans hml.symm) (by rw [hb]; exact d) (lv_room (zcat hst)) (X₁.named hnamed) (hM l D dA (fun j => ad (zfn is j)) T.heap.size htr) hpay hini1 f5 f6 (by omega) (by omega) (a := (As.map (zV (fun j => ad (zfn is j)))).toArray)
    ⟨hpre.1, zblind (av := As.map (zV (fun j => ad (zfn is j)))) _ _ _ _ ⟨hpre.1, hpre.2.1⟩ |>.2, zX_blind hpre.2.2⟩ (fun o t h => by obtain ⟨x, -, -, h, -⟩ := h; exact ⟨x, h⟩)
  obtain ⟨x', w', ce, hx', q1, q2, q3, q4, q5, q6, q7, q8, q9⟩ := hq
  cases hx'
  have hj := zjoin (A := A) (H' := T'.heap) (zfn_at (is := is)) hnd hw q4 h3 h4 (by rw [e1]; exact q5) (fun q g1 g2 => by rw [e1]; exact q9 q g1 g2)
  obtain ⟨b1, b2, b3, b4, b5⟩ := X'.leaveThrown x (g := F0 m pc ls (st.map (zV ad))) rfl rfl rfl (fun x hx => by
        rw [Array.isEmpty_iff.mp htab] at hx
        simp at hx) hlocks
  have hS' : va_S A s.heap T'.heap (locs ++ L) := ⟨Nat.le_trans h5.1 (by rw [e1]; exact q8), fun q g1 g2 => by
      rw [e1, q9 q (Nat.lt_of_lt_of_le g1 h5.1) (fun z => g2 (hFc q z))]
      exact h5.2.1 q g1 g2, fun q hq => by
      rcases List.mem_append.mp hq with h | h
      · exact h5.2.2 q h
      · exact hFc _ (hL q h)⟩
  refine ⟨_, st₁ _ (fun acts => (hgo acts).trans b1), _, b2, b3, ⟨x, _, ce, rfl, ?_, q2, ?_, ?_, hj.1, hj.2, kk w' q4 q7, hS'.1, hS'.2.1⟩, ⟨locs ++ L, b4, ?_, hS'.2.2⟩⟩
  · show T'.heap[x]? = some ce
    rw [e1]; exact q1
  · rw [← q3]
    exact (X₁.warmed.alike.findClass E _).symm
  · rw [zput_len]; exact hwl
  · rw [← hk.1, ← hk.2]
    exact b5
end ZT2
/-! a catch, its class resolved or not -/
/-- one row of the table: its class is resolved on the way, if it was not -/
theorem hd_row {e : Env} {s : State} {f : JFrame} {a : Nat} {Q : Handler → Jvm.Pre} {E : CtlPost} {d : Bool} {acts : List Action} {x : ExceptionTableEntry} {t : List ExceptionTableEntry} {c : ClassId} {cell : Cell} (hx : covers x f.pc = true) (h0 : x.catchType ≠ 0)
    (hl : s.vm.ClassLinks e.platform f.method.cls x.catchType c) (hcell : s.heap[a]? = some cell) (hobj : cell.vm.isStatics = false) (hk : ∃ k, s.vm.classes[cell.cls]? = some k) (hc : ∃ k, s.vm.classes[c]? = some k) :
    Sem.wp (findHandler.go f a (x :: t)) Q E e d acts s ↔ if s.vm.assignable cell.cls c = true then Q (.found x.handlerPc) d acts (s.setVm (s.vm.noted f.method.cls x.catchType (.cls c))) else Sem.wp (findHandler.go f a t) Q E e d acts (s.setVm (s.vm.noted f.method.cls x.catchType (.cls c))) := by
  simp only [covers] at hx
  have hobj' := VmData.ne_statics_of hobj
  obtain ⟨ha, ht⟩ := (resolveClass_links e.toSetting hl).op (op := VmOp.resolveClass f.method.cls x.catchType) rfl
  have hal : s.vm.Alike (s.vm.noted f.method.cls x.catchType (.cls c)) := (Vm.Alike.refl s.vm).noted _ _ _
  obtain ⟨k1, hk1⟩ := hk
  obtain ⟨k2, hk2⟩ := hc
  obtain ⟨k1', hk1', -⟩ := hal.2.2 _ _ hk1
  obtain ⟨k2', hk2', -⟩ := hal.2.2 _ _ hk2
  have hasg := hal.assignable cell.cls c
  cases hfit : s.vm.assignable cell.cls c <;> rw [hfit] at hasg <;> simp [findHandler.go, hx, h0, ha, ht, hcell, hobj', hk1', hk2', hasg, VmOp.dirties, VmOp.acts]
/-- the search ends at pc, and leaves the tables vm' -/
def FindV (e : Env) (s : State) (f : JFrame) (a pc : Nat) (vm' : Vm) : Prop := ∀ (Q : Handler → Jvm.Pre) (E : CtlPost) (d : Bool) (acts : List Action), Sem.wp (findHandler f a) Q E e d acts s ↔ Q (.found pc) d acts (s.setVm vm')
theorem thr_step {tb : Tables} {e : Env} {s target : State} {g : JFrame} {c : Code} {below : List Frame} {a pc : Nat} {vm' : Vm} (h : At s g.method c below) (hf : FindV e ((s.setTop g).pushFrame (.throwing a)) g a pc vm') (hr : Steps tb e below ((s.setVm vm').setTop { g with pc := pc, stack := [.ref a] }) target) : Steps tb e below ((s.setTop g).pushFrame (.throwing a)) target := by
  obtain ⟨hgo, hw⟩ := h.throwing a
  refine Steps.head hgo hw ?_
  obtain ⟨g₀, hg⟩ := Option.isSome_iff_exists.mp h.top
  obtain ⟨r, hfr⟩ := State.topJava?_eq_some.mp hg
  have key : (stepThrowing e ((s.setTop g).pushFrame (.throwing a)) a (.java g :: s.frames.tail)).1 = (((s.setTop g).pushFrame (.throwing a)).setVm vm').setFrames (.java { g with pc := pc, stack := [.ref a] } :: s.frames.tail) := by
    simp only [stepThrowing, searchFrame, vmDo]
    generalize hres : Sem.go _ e false [] _ = res
    obtain ⟨as, rfl, -⟩ := Sem.eq_ok_of hres (a := Handler.found pc) (s' := ((s.setTop g).pushFrame (.throwing a)).setVm vm') (acts' := []) (by simp [hf _ _ _ _])
    rfl
  rw [stepThread_throwing (frames_entered h.top _), key]
  have hfr' : (s.setVm vm').frames = .java g₀ :: r := hfr
  rw [State.setTop_of_frames _ hfr'] at hr
  have e1 : (((s.setTop g).pushFrame (.throwing a)).setVm vm').setFrames (.java { g with pc := pc, stack := [.ref a] } :: s.frames.tail) = (s.setVm vm').setFrames (.java { g with pc := pc, stack := [.ref a] } :: r) := by
    rw [State.pushFrame, State.setTop_of_frames _ hfr, hfr]
    show (((s.setVm vm').setFrames _).setFrames _).setFrames _ = _
    rw [State.setFrames_setFrames, State.setFrames_setFrames]
    rfl
  rw [e1]
  exact hr
section TH4
variable {p : Program} {l : Launch} {e : Env} {R : Room} {s : State} {m : MethodId} {args : Array Value} {below : List Frame} {meth : Method} {c : Code} {T : State} {locs : List Loc} {cells slots : Nat}
/-- the first row takes it -/
theorem st_catch1 (X : Stand p l e R s m args below meth c T locs cells slots) {a : Nat} {g : JFrame} (hg : g.method = m) {own N1 : String} (hown : s.vm.findClass own = some m.cls) {x : ExceptionTableEntry} {t : List ExceptionTableEntry} (htab : c.exceptionTable.toList = x :: t) (hx : covers x g.pc = true) (h0 : x.catchType ≠ 0) (hl : (Cond.classLink own x.catchType N1).before args s = true) {cell : Cell} (hcell : T.heap[a]? = some cell) (hobj : cell.vm.isStatics = false) (hfit : ∃ cT, s.vm.findClass N1 = some cT ∧ s.vm.assignable cell.cls cT = true) :
    ∃ vm', Stand p l e R s m args below meth c (T.setVm vm') locs cells slots ∧ ∀ target, Steps p.tables e below ((T.setVm vm').setTop { g with pc := x.handlerPc, stack := [.ref a] }) target → Steps p.tables e below ((T.setTop g).pushFrame (.throwing a)) target := by
  have hpl : e.platform.magicAccessors = ({} : Platform).magicAccessors := by rw [X.admits.platform]
  obtain ⟨cT, hcT, hasg⟩ := hfit
  obtain ⟨c', hc', hcl⟩ := Cond.classLink_spec hown hl e.platform hpl
  cases hcT.symm.trans hc'
  obtain ⟨dk, _, _, kt, hd, _, _, _, _, hkt, _, hopen⟩ := hcl.here
  have hW' : s.WarmedH (T.vm.noted m.cls x.catchType (.cls cT)) := X.warmed.noted hd hopen (State.rightAt_cls hcl)
  have hal := X.warmed.alike
  obtain ⟨kt', hkt', -⟩ := hal.2.2 _ _ hkt
  have hfit' : T.vm.assignable cell.cls cT = true := by rw [hal.assignable]; exact hasg
  subst hg
  refine ⟨_, X.noted hW', fun target hr => thr_step X.here ?_ hr⟩
  intro Q E d acts
  rw [W.findHandler_eq (s := (T.setTop g).pushFrame (.throwing a)) X.method' X.code, htab, hd_row (s := (T.setTop g).pushFrame (.throwing a)) hx h0 (X.warmed.classLinks hcl) hcell hobj (Vm.classAt_of_assignable hfit' ⟨kt', hkt'⟩) ⟨kt', hkt'⟩]
  rw [if_pos (show ((T.setTop g).pushFrame (.throwing a)).vm.assignable cell.cls cT = true from hfit')]
  exact Iff.rfl
/-- the first row passes it, the second takes it -/
theorem st_catch2 (X : Stand p l e R s m args below meth c T locs cells slots) {a : Nat} {g : JFrame} (hg : g.method = m) {own N1 N2 : String} (hown : s.vm.findClass own = some m.cls) {x x2 : ExceptionTableEntry} {t : List ExceptionTableEntry} (htab : c.exceptionTable.toList = x :: x2 :: t) (hx : covers x g.pc = true) (h0 : x.catchType ≠ 0) (hx2 : covers x2 g.pc = true) (h02 : x2.catchType ≠ 0) (hl : (Cond.classLink own x.catchType N1).before args s = true) (hl2 : (Cond.classLink own x2.catchType N2).before args s = true) {cell : Cell} (hcell : T.heap[a]? = some cell) (hobj : cell.vm.isStatics = false) (hno : ∃ cT, s.vm.findClass N1 = some cT ∧ s.vm.assignable cell.cls cT = false) (hfit : ∃ cT, s.vm.findClass N2 = some cT ∧ s.vm.assignable cell.cls cT = true) :
    ∃ vm', Stand p l e R s m args below meth c (T.setVm vm') locs cells slots ∧ ∀ target, Steps p.tables e below ((T.setVm vm').setTop { g with pc := x2.handlerPc, stack := [.ref a] }) target → Steps p.tables e below ((T.setTop g).pushFrame (.throwing a)) target := by
  have hpl : e.platform.magicAccessors = ({} : Platform).magicAccessors := by rw [X.admits.platform]
  obtain ⟨cN, hcN, hnasg⟩ := hno
  obtain ⟨cT, hcT, hasg⟩ := hfit
  obtain ⟨c', hc', hcl⟩ := Cond.classLink_spec hown hl e.platform hpl
  cases hcN.symm.trans hc'
  obtain ⟨c', hc', hcl2⟩ := Cond.classLink_spec hown hl2 e.platform hpl
  cases hcT.symm.trans hc'
  obtain ⟨dk, _, _, kt, hd, _, _, _, _, hkt, _, hopen⟩ := hcl.here
  obtain ⟨dk2, _, _, kt2, hd2, _, _, _, _, hkt2, _, hopen2⟩ := hcl2.here
  have hW' : s.WarmedH (T.vm.noted m.cls x.catchType (.cls cN)) := X.warmed.noted hd hopen (State.rightAt_cls hcl)
  have hW2 : s.WarmedH ((T.vm.noted m.cls x.catchType (.cls cN)).noted m.cls x2.catchType (.cls cT)) := hW'.noted hd2 hopen2 (State.rightAt_cls hcl2)
  have hal := X.warmed.alike
  have hal2 := hW'.alike
  obtain ⟨kt', hkt', -⟩ := hal.2.2 _ _ hkt
  obtain ⟨kt2', hkt2', -⟩ := hal.2.2 _ _ hkt2
  obtain ⟨kt3', hkt3', -⟩ := hal2.2.2 _ _ hkt2
  have hfit1 : T.vm.assignable cell.cls cN = false := by rw [hal.assignable]; exact hnasg
  have hfit0 : T.vm.assignable cell.cls cT = true := by rw [hal.assignable]; exact hasg
  have hfit2 : (T.vm.noted m.cls x.catchType (.cls cN)).assignable cell.cls cT = true := by rw [hal2.assignable]; exact hasg
  have hck := Vm.classAt_of_assignable hfit0 ⟨kt2', hkt2'⟩
  have hck2 := Vm.classAt_of_assignable hfit2 ⟨kt3', hkt3'⟩
  subst hg
  refine ⟨_, X.noted hW2, fun target hr => thr_step X.here ?_ hr⟩
  intro Q E d acts
  rw [W.findHandler_eq (s := (T.setTop g).pushFrame (.throwing a)) X.method' X.code, htab, hd_row (s := (T.setTop g).pushFrame (.throwing a)) hx h0 (X.warmed.classLinks hcl) hcell hobj hck ⟨kt', hkt'⟩]
  rw [if_neg (show ¬ ((T.setTop g).pushFrame (.throwing a)).vm.assignable cell.cls cN = true by
    show ¬ T.vm.assignable cell.cls cN = true
    rw [hfit1]; decide)]
  rw [hd_row (s := ((T.setTop g).pushFrame (.throwing a)).setVm (((T.setTop g).pushFrame (.throwing a)).vm.noted g.method.cls x.catchType (.cls cN))) hx2 h02 (hW'.classLinks hcl2) hcell hobj hck2 ⟨kt3', hkt3'⟩]
  rw [if_pos (show (((T.setTop g).pushFrame (.throwing a)).setVm (((T.setTop g).pushFrame (.throwing a)).vm.noted g.method.cls x.catchType (.cls cN))).vm.assignable cell.cls cT = true from hfit2)]
  exact Iff.rfl
end TH4
