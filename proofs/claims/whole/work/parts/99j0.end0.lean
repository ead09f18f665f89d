/-! the law's entry: what the tables and the start give -/
theorem arrOverI {args : Array Value} {s : State} (h : (Cond.arrayOver (.array .int)).before args s = true) : ∃ comp c k, s.vm.findClass "[I" = some comp ∧ s.vm.classes[c]? = some k ∧ k.kind = .array comp (.array .int) ∧ s.vm.findClass "[[I" = some c := by
  have h9 : (Cond.arrayOver (.array .int)).holds args s none s [] = true := h
  simp only [Cond.holds, Cond.value, beq_iff_eq, show (FieldType.array .int).toString = "[I" from rfl, Option.bind_eq_some_iff, Option.map_eq_some_iff] at h9
  obtain ⟨comp, hc, c, hi, k, hk, hb⟩ := h9
  have hp := (Array.findIdx?_eq_some_iff_getElem.mp hi).2.1
  rw [(Array.getElem?_eq_some_iff.mp hk).2] at hp
  refine ⟨comp, c, k, hc, hk, ?_⟩
  revert hb hp
  cases k.kind <;> simp
  intro g1 g2 g3
  exact ⟨⟨g3, g1⟩, g2⟩
theorem zArr_start {s : State} {args : Array Value} (h1 : (Cond.arrayOver (.array .int)).before args s = true) (h2 : (Cond.arrayClass .int).before args s = true) : zArr s := by
  obtain ⟨comp, c, k, g1, g2, g3, g4⟩ := arrOverI h1
  obtain ⟨c2, k2, x, f1, f2, f3⟩ := Cond.arrayClass_spec (first := s) (o := none) (idx := []) h2
  have e : comp = c2 := Option.some.inj (g1.symm.trans f1)
  subst e
  exact ⟨c, comp, x, k, k2, g4, g1, g2, g3, f2, f3⟩
theorem str_start {s : State} {args : Array Value} {own tx : String} {k : Nat} (h : (Cond.stringRef own k tx).before args s = true) : ∃ a, vk_R own k tx a s := by
  cases hc : s.vm.findClass own with
  | none => simp [Cond.before, Cond.holds, Cond.value, hc] at h
  | some cc =>
    obtain ⟨k1, cf, i, a, hk, hcf, hp, -, hr, he⟩ := Cond.stringRef_spec (first := s) (o := none) (idx := []) hc h
    exact ⟨a, h, he⟩
set_option maxRecDepth 100000 in
theorem zX_start {s : State} {b : Nat} (hts : ∀ w ∈ lw_tbl, w.before #[Value.ref b] s = true) (hgv : (Jvm.Cond.and given_1 narrow_1).before #[Value.ref b] s = true) : zX s := by
  have hs := flat_of_before _ hgv
  refine ⟨fun w hw => ?_, fun w hw => ?_, fun q hq => ?_, ?_, ?_⟩
  · refine zX_stw hw (State.WarmedH.refl s) (fun _ _ h _ => h) (A := #[Value.ref b]) ?_
    simp only [zStw, List.mem_cons, List.not_mem_nil, or_false] at hw
    rcases hw with rfl | rfl | rfl | rfl
    · exact hts _ (by decide +kernel)
    · exact hts _ (by decide +kernel)
    · exact hs _ (by decide +kernel)
    · exact hs _ (by decide +kernel)
  · refine zX_faw hw (State.WarmedH.refl s) (A := #[Value.ref b]) ?_
    simp only [zFaw, List.mem_cons, List.not_mem_nil, or_false] at hw
    rcases hw with rfl | rfl | rfl | rfl | rfl | rfl | rfl <;> exact hts _ (by decide +kernel)
  · have : Cond.stringRef "DigitMill" q.1 q.2 ∈ lw_tbl := by
      simp only [zStr, List.mem_cons, List.not_mem_nil, or_false] at hq
      rcases hq with rfl | rfl | rfl | rfl | rfl | rfl | rfl | rfl | rfl | rfl | rfl | rfl | rfl | rfl | rfl | rfl <;> decide +kernel
    exact str_start (hts _ this)
  · exact va_Nc.of (hs _ (by decide +kernel))
  · exact zArr_start (hts _ (by decide +kernel)) (hts _ (by decide +kernel))
