/-! the root, limb after limb -/
theorem tr_div {D P lo d : Nat} (e : D = lo + d * P) (hlo : lo < P) (h1 : P * 1073741824 ≤ D) (h2 : D < 2 * (P * 1073741824)) : d * P ≤ D ∧ D < (d + 1) * P ∧ 1073741824 ≤ d ∧ d < 2147483648 := by
  have a1 : D < (d + 1) * P := by rw [Nat.add_mul]; omega
  refine ⟨by omega, a1, ?_, ?_⟩
  · apply Nat.le_of_not_lt
    intro z
    have : (d + 1) * P ≤ 1073741824 * P := Nat.mul_le_mul_right _ z
    omega
  · apply Nat.lt_of_not_le
    intro z
    have : 2147483648 * P ≤ d * P := Nat.mul_le_mul_right _ z
    omega
theorem tr_head {W Q lo hh : Nat} (e : W = lo + hh * Q) (hlo : lo < Q) (hW : W < 2 * Q * 1152921504606846976) : W / Q = hh ∧ hh < 2305843009213693952 := by
  have hQ : 0 < Q := by omega
  refine ⟨by rw [e, Nat.add_mul_div_right _ _ hQ, Nat.div_eq_of_lt hlo, Nat.zero_add], ?_⟩
  apply Nat.lt_of_not_le
  intro z
  have : 2305843009213693952 * Q ≤ hh * Q := Nat.mul_le_mul_right _ z
  omega
theorem hh2_l {a b c hh : Nat} (e : (a * 1073741824 + b) * 1073741824 + c = hh) (h : hh < 2305843009213693952) : a * 1073741824 + b < 2 ^ 33 := by omega
theorem tr_e2 {D t : Nat} : (t + 1) * (D * 1073741824 + (t + 1)) = t * (D * 1073741824 + t) + (D * 1073741824 + (2 * t + 1)) := by grind
set_option maxRecDepth 100000 in
set_option maxHeartbeats 4000000 in
theorem ms_B_takeRootLimb (p k fr sl sr sq D W t : Nat) (x r y : Nat → Nat) (hx : ∀ j, x j < 1073741824) (hy : ∀ j, y j < 1073741824) (hfr : fr + (k + 1) + 1 = p) (h2p : 2 * p ≤ 1400) (hD : nv 1073741824 (sh y (fr + 1)) (k + 1 + 1) = D) (hev : D % 2 = 0) (hDlo : 1073741824 ^ (k + 1) ≤ D) (hDhi : D < 2 * 1073741824 ^ (k + 1)) (hW : nv 1073741824 (sh x (2 * fr)) (k + 1 + 3) = W) (hWR : W < (D + 1) * 1152921504606846976) (ht : t < 1073741824) (ht1 : t * (D * 1073741824 + t) ≤ W) (ht2 : W < (t + 1) * (D * 1073741824 + (t + 1))) : MS y_B_takeRootLimb c_B_takeRootLimb 12 none (rm 2) [.ref 0, .int (nI p), .int (nI (k + 1))] (bW sl sr sq x r y) (zP (X := (Nat → Nat) × (Nat → Nat)) (fun _ => none) (fun z => bW sl sr sq z.1 r z.2) (fun z => (∀ j, z.1 j < 1073741824) ∧ (∀ j, z.2 j < 1073741824) ∧ (∀ j, j < 2 * fr → z.1 j = x j) ∧ (∀ j, j < fr → z.2 j = y j) ∧ nv 1073741824 (sh z.1 (2 * fr)) (k + 1 + 3) = W - t * (D * 1073741824 + t) ∧ nv 1073741824 (sh z.2 fr) (k + 1 + 2) = D * 1073741824 + 2 * t)) := by
  obtain ⟨d, hd⟩ : ∃ d, y p * 1073741824 + y (p - 1) = d := ⟨_, rfl⟩
  obtain ⟨hh, hhe⟩ : ∃ d, (x (2 * fr + (k + 1) + 2) * 1073741824 + x (2 * fr + (k + 1) + 1)) * 1073741824 + x (2 * fr + (k + 1)) = d := ⟨_, rfl⟩
  have hDe : D = nv 1073741824 (sh y (fr + 1)) k + d * 1073741824 ^ k := by
    rw [← hD, nv_hi2, show fr + 1 + k + 1 = p by omega, show fr + 1 + k = p - 1 by omega, hd]
  have hDl : nv 1073741824 (sh y (fr + 1)) k < 1073741824 ^ k := nv_lt fun j _ => hy _
  have hps : (1073741824 : Nat) ^ (k + 1) = 1073741824 ^ k * 1073741824 := Nat.pow_succ ..
  obtain ⟨g1, g2, g3, g4⟩ := tr_div hDe hDl (by rw [← hps]; exact hDlo) (by rw [← hps]; exact hDhi)
  have hWe : W = nv 1073741824 (sh x (2 * fr)) (k + 1) + hh * 1073741824 ^ (k + 1) := by
    rw [← hW, ← hhe]; exact nv_hi3
  have hWl : nv 1073741824 (sh x (2 * fr)) (k + 1) < 1073741824 ^ (k + 1) := nv_lt fun j _ => hx _
  have hWhi : W < 2 * 1073741824 ^ (k + 1) * 1152921504606846976 := Nat.lt_of_lt_of_le hWR (Nat.mul_le_mul_right _ hDhi)
  obtain ⟨hWd, hh3⟩ := tr_head hWe hWl hWhi
  have hP : 0 < (1073741824 : Nat) ^ k := Nat.pow_pos (by decide)
  have gg := root_guess (B := 1073741824) (P := 1073741824 ^ k) (by decide) hP g3 g1 g2 ht ht1 ht2
  rw [← hps, hWd] at gg
  obtain ⟨g, hg⟩ : ∃ g, min 1073741823 (hh / d) = g := ⟨_, rfl⟩
  rw [show min (1073741824 - 1) (hh / d) = g from hg] at gg
  have hgB : g < 1073741824 := by rw [← hg]; exact Nat.lt_of_le_of_lt (Nat.min_le_left _ _) (by decide)
  have hWB : W < 1073741824 ^ (k + 1 + 3) := by rw [← hW]; exact nv_lt fun j _ => hx _
  have hBBs : (1073741824 : Nat) ^ (k + 1 + 3) = 1073741824 ^ (k + 1) * 1237940039285380274899124224 := by rw [Nat.pow_add]
  have hDB := db_lt hDhi (Nat.pow_pos (by decide))
  rw [← hBBs] at hDB
  have hcast : (1073741824 : Int) ^ (k + 1 + 2 + 1) = (((1073741824 : Nat) ^ (k + 1 + 3) : Nat) : Int) := by simp
  have hUg : nv 1073741824 (sh (un y fr g) fr) (k + 1 + 2) = D * 1073741824 + g := by
    rw [nv_sh1, un_eq]
    have e5 : nv 1073741824 (sh (un y fr g) (fr + 1)) (k + 1 + 1) = D := by rw [← hD]; exact nv_congr fun j _ => by unfold sh; rw [un_ne (by omega)]
    rw [e5, Nat.add_comm]
  have hUt : nv 1073741824 (sh (un (un y fr g) fr (2 * t + 1)) fr) (k + 1 + 2) = D * 1073741824 + (2 * t + 1) := by
    rw [nv_sh1, un_eq]
    have e5 : nv 1073741824 (sh (un (un y fr g) fr (2 * t + 1)) (fr + 1)) (k + 1 + 1) = D := by rw [← hD]; exact nv_congr fun j _ => by unfold sh; rw [un_ne (by omega), un_ne (by omega)]
    rw [e5, Nat.add_comm]
  have hgt : g = t ∨ g = t + 1 := by omega
  have hh2 : x (2 * fr + (k + 1) + 2) * 1073741824 + x (2 * fr + (k + 1) + 1) < 2 ^ 33 := hh2_l hhe hh3
  have hE3 : (t + 1) * (D * 1073741824 + (t + 1)) < t * (D * 1073741824 + t) + 1073741824 ^ (k + 1 + 3) := by
    rw [tr_e2]
    have : D * 1073741824 + (2 * t + 1) < 1073741824 ^ (k + 1 + 3) := Nat.lt_of_le_of_lt (by omega) hDB
    exact Nat.add_lt_add_left this _
  refine MS.mono (ms_B_takeRootLimb0 p (k + 1) fr sl sr sq d hh g t (W - t * (D * 1073741824 + t)) x r y hx hy (by omega) h2p (by omega) hd ⟨by omega, by omega⟩ hhe hh2 (by omega) hg hgB ht ?_) ?_
  · intro x1 ow hA
    obtain ⟨p1, p2, p3⟩ := hA
    have hn1 : nv 1073741824 (sh x1 (2 * fr)) (k + 1 + 2 + 1) < 1073741824 ^ (k + 1 + 3) := nv_lt fun j _ => p1 _
    rw [hUg, show nv 1073741824 (sh x (2 * fr)) (k + 1 + 2 + 1) = W from hW, hcast] at p3
    have q := tr_num (g := g) (t := t) hn1 hWB ht1 ht2 hE3 (ow := ow) (by
      rcases hgt with e | e
      · exact Or.inl ⟨e, by rw [p3, e, Int.natCast_mul]⟩
      · exact Or.inr ⟨e, by rw [p3, e, Int.natCast_mul]⟩)
    rcases q with ⟨e, q1, q2⟩ | ⟨e, q1, q2⟩
    · exact Or.inl ⟨e, q1, q2⟩
    · refine Or.inr ⟨e, q1, fun x2 o2 hA2 => ?_⟩
      obtain ⟨r1, r2, r3⟩ := hA2
      have hn2 : nv 1073741824 (sh x2 (2 * fr)) (k + 1 + 2 + 1) < 1073741824 ^ (k + 1 + 3) := nv_lt fun j _ => r1 _
      rw [hUt, hcast] at r3
      exact tr_num2 hn2 hWB ht1 tr_e2 q2 r3
  · intro rr ww hq
    obtain ⟨z, e1, e2, b1, b2, b3, b4⟩ := hq
    obtain ⟨c1, c2, c3⟩ := twice_ok hy b3 hD hev ht
    exact ⟨(z.1, un (un z.2 fr (2 * t % 1073741824)) (fr + 1) (z.2 (fr + 1) + 2 * t / 1073741824)), e1, e2, b1, c1, b2, fun j hj => c2 j (by omega), b4, c3⟩
/-- the limbs above are gone, those below are still there: what one more limb of the root starts from -/
theorem root_next {r R A lo B : Nat} {t : Nat} (hA : A = r * r + R) (ht : t * (2 * r * B + t) ≤ lo + R * (B * B)) : lo + A * (B * B) = (r * B + t) * (r * B + t) + (lo + R * (B * B) - t * (2 * r * B + t)) := by
  have e1 : lo + A * (B * B) = r * B * (r * B) + (lo + R * (B * B)) := by rw [hA]; grind
  have e2 : (r * B + t) * (r * B + t) = r * B * (r * B) + t * (2 * r * B + t) := by grind
  rw [e1, e2]
  omega
theorem root_rest {r R lo B t : Nat} (ht : lo + R * (B * B) < (t + 1) * (2 * r * B + (t + 1))) : lo + R * (B * B) - t * (2 * r * B + t) ≤ 2 * (r * B + t) := by
  have e : (t + 1) * (2 * r * B + (t + 1)) = t * (2 * r * B + t) + 2 * (r * B + t) + 1 := by grind
  omega
theorem nv_sh2 {a : Nat → Nat} {j m : Nat} : nv 1073741824 (sh a j) (m + 2) = (a j + a (j + 1) * 1073741824) + nv 1073741824 (sh a (j + 2)) m * (1073741824 * 1073741824) := by
  rw [show m + 2 = m + 1 + 1 from rfl, nv_sh1, nv_sh1]
  grind
def RootInv (p k : Nat) (l x y : Nat → Nat) (r R : Nat) : Prop := (∀ j, x j < 1073741824) ∧ (∀ j, y j < 1073741824) ∧ (∀ j, j < 2 * (p - k) → x j = l j) ∧ (∀ j, j < p - k → y j = 0) ∧ nv 1073741824 (sh x (2 * (p - k))) (k + 1) = R ∧ nv 1073741824 (sh y (p - k)) (k + 1) = 2 * r ∧ nv 1073741824 (sh l (2 * (p - k))) (2 * k) = r * r + R ∧ R ≤ 2 * r ∧ 1073741824 ^ k ≤ 2 * r ∧ r < 1073741824 ^ k
theorem ri1 {r P B t : Nat} (h : r < P) (ht : t < B) : r * B + t < P * B := by
  have : (r + 1) * B ≤ P * B := Nat.mul_le_mul_right _ h
  rw [Nat.add_mul, Nat.one_mul] at this
  omega
theorem ri2 {r P B t : Nat} (h : P ≤ 2 * r) : P * B ≤ 2 * (r * B + t) := by
  have h1 : P * B ≤ 2 * r * B := Nat.mul_le_mul_right _ h
  have h2 : 2 * r * B = 2 * (r * B) := Nat.mul_assoc 2 r B
  omega
theorem ri3 {v r B t P : Nat} (h : v ≤ 2 * (r * B + t)) (h2 : r * B + t < P) (hB : 2 ≤ B) : v < P * B := by
  have : P * 2 ≤ P * B := Nat.mul_le_mul_left _ hB
  omega
theorem ri4 {v n x Q : Nat} (e : v = n + x * Q) (h : v < Q) : n = v := by
  rcases Nat.eq_zero_or_pos x with z | z
  · rw [e, z, Nat.zero_mul, Nat.add_zero]
  · have : 1 * Q ≤ x * Q := Nat.mul_le_mul_right _ z
    omega
theorem ri5 {r B t : Nat} : 2 * r * B + 2 * t = 2 * (r * B + t) := by grind
/-- one limb more -/
theorem root_inv_next {p k fr r R t : Nat} {l x y x' y' : Nat → Nat} (hfr : fr + (k + 1) + 1 = p) (hl : ∀ j, l j < 1073741824) (hI : RootInv p (k + 1) l x y r R) (ht : t < 1073741824) (W : Nat) (hW : nv 1073741824 (sh x (2 * fr)) (k + 1 + 3) = W) (ht1 : t * (2 * r * 1073741824 + t) ≤ W) (ht2 : W < (t + 1) * (2 * r * 1073741824 + (t + 1))) (b1 : ∀ j, x' j < 1073741824) (b2 : ∀ j, y' j < 1073741824) (b3 : ∀ j, j < 2 * fr → x' j = x j) (b4 : ∀ j, j < fr → y' j = y j) (b5 : nv 1073741824 (sh x' (2 * fr)) (k + 1 + 3) = W - t * (2 * r * 1073741824 + t)) (b6 : nv 1073741824 (sh y' fr) (k + 1 + 2) = 2 * r * 1073741824 + 2 * t) : RootInv p (k + 1 + 1) l x' y' (r * 1073741824 + t) (W - t * (2 * r * 1073741824 + t)) := by
  obtain ⟨i1, i2, i3, i4, i5, i6, i7, i8, i9, i10⟩ := hI
  have e1 : p - (k + 1) = fr + 1 := by omega
  have e2 : p - (k + 1 + 1) = fr := by omega
  rw [e1] at i3 i4 i5 i6 i7
  have e3 : 2 * (fr + 1) = 2 * fr + 2 := by omega
  rw [e3] at i3 i5 i7
  have hWe : W = (x (2 * fr) + x (2 * fr + 1) * 1073741824) + R * (1073741824 * 1073741824) := by
    rw [← hW, show k + 1 + 3 = k + 1 + 1 + 2 from rfl, nv_sh2, i5]
  have hlo : x (2 * fr) + x (2 * fr + 1) * 1073741824 = l (2 * fr) + l (2 * fr + 1) * 1073741824 := by rw [i3 _ (by omega), i3 _ (by omega)]
  have hrest : W - t * (2 * r * 1073741824 + t) ≤ 2 * (r * 1073741824 + t) := by
    rw [hWe] at ht2 ⊢
    exact root_rest ht2
  have hr1 : r * 1073741824 + t < 1073741824 ^ (k + 1 + 1) := by
    rw [Nat.pow_succ 1073741824 (k + 1)]
    exact ri1 i10 ht
  have hr2 : 1073741824 ^ (k + 1 + 1) ≤ 2 * (r * 1073741824 + t) := by
    rw [Nat.pow_succ 1073741824 (k + 1)]
    exact ri2 i9
  refine ⟨b1, b2, fun j hj => ?_, fun j hj => ?_, ?_, ?_, ?_, hrest, hr2, hr1⟩
  · rw [e2] at hj
    rw [b3 j hj]
    exact i3 j (by omega)
  · rw [e2] at hj
    rw [b4 j hj]
    exact i4 j (by omega)
  · rw [e2]
    have f1 : nv 1073741824 (sh x' (2 * fr)) (k + 1 + 3) = nv 1073741824 (sh x' (2 * fr)) (k + 1 + 1 + 1) + sh x' (2 * fr) (k + 1 + 1 + 1) * 1073741824 ^ (k + 1 + 1 + 1) := nv_s
    rw [b5] at f1
    have hlt : W - t * (2 * r * 1073741824 + t) < 1073741824 ^ (k + 1 + 1 + 1) := by
      rw [Nat.pow_succ 1073741824 (k + 1 + 1)]
      exact ri3 hrest hr1 (by decide)
    exact ri4 f1 hlt
  · rw [e2, show k + 1 + 1 + 1 = k + 1 + 2 from rfl, b6]
    exact ri5
  · rw [e2, show 2 * (k + 1 + 1) = 2 * (k + 1) + 2 by omega, nv_sh2, i7, ← hlo, hWe]
    exact root_next rfl (by rw [← hWe]; exact ht1)
