/-! DigitMillModel: tell, howMany, told, become -/
theorem tl_chunk {b c e : Nat} (hb : 2 ≤ b) (hc : c = b ^ e) (he : c ≤ 32768) : e ≤ 15 := by
  apply Nat.le_of_not_lt
  intro q
  have e1 : 2 ^ 16 ≤ b ^ e := Nat.le_trans (Nat.pow_le_pow_right (by decide) q) (Nat.pow_le_pow_left hb e)
  have e2 : (2 : Nat) ^ 16 = 65536 := by decide
  omega
theorem dv_succ {v b p : Nat} : v / b ^ (p + 1) = v / b ^ p / b := by rw [Nat.pow_succ, Nat.div_div_eq_div_mul]
theorem dv_ne {v b p : Nat} (h : v / b ^ (p + 1) ≠ 0) : v / b ^ p ≠ 0 := fun q => h (by rw [dv_succ, q, Nat.zero_div])
theorem dv_cap {v b p : Nat} (hb : 2 ≤ b) (hv : bl v ≤ 24000) (h : v / b ^ p ≠ 0) : p < 24000 := by
  apply Nat.lt_of_not_le
  intro q
  apply h
  apply Nat.div_eq_of_lt
  exact Nat.lt_of_lt_of_le (bl_ub v) (Nat.le_trans (Nat.pow_le_pow_left hb _) (Nat.pow_le_pow_right (by omega) (Nat.le_trans hv q)))
/-- what is left of a group, a digit on -/
theorem lf_step {v b p j : Nat} (hb : 0 < b) : (v / b ^ p % b ^ (j + 1)) / b = v / b ^ (p + 1) % b ^ j ∧ (v / b ^ p % b ^ (j + 1)) % b = dig b v p := by
  constructor
  · rw [dv_succ, Nat.pow_succ, Nat.mul_comm, Nat.mod_mul_right_div_self]
  · unfold dig
    rw [Nat.pow_succ, Nat.mul_comm]
    exact Nat.mod_mul_right_mod _ _ _
theorem dv_split {v b p j : Nat} : v / b ^ p = v / b ^ (p + j) * b ^ j + v / b ^ p % b ^ j := by
  rw [Nat.pow_add, ← Nat.div_div_eq_div_mul]
  exact (Nat.div_add_mod' _ _).symm
theorem dv_zero {v b p j : Nat} (hb : 0 < b) : v / b ^ p = 0 ↔ v / b ^ (p + j) = 0 ∧ v / b ^ p % b ^ j = 0 := by
  constructor
  · intro h
    refine ⟨?_, by rw [h, Nat.zero_mod]⟩
    rw [Nat.pow_add, ← Nat.div_div_eq_div_mul, h, Nat.zero_div]
  · rintro ⟨h1, h2⟩
    rw [@dv_split v b p j, h1, h2, Nat.zero_mul]
/-- the digits, turned round as far as k -/
def rvs (g : Nat → Nat) (m k : Nat) : Nat → Nat := fun i => if i < k ∨ (m - 1 - k < i ∧ i < m) then g (m - 1 - i) else g i
theorem rvs0 {g : Nat → Nat} {m : Nat} (h : 1 ≤ m) : rvs g m 0 = g := funext fun i => by
  unfold rvs
  rw [if_neg (by omega)]
theorem rvs_step {g : Nat → Nat} {m k : Nat} (h : 2 * k + 1 < m) : un (un (rvs g m k) k (rvs g m k (m - 1 - k))) (m - 1 - k) (rvs g m k k) = rvs g m (k + 1) := funext fun i => by
  have e1 : rvs g m k (m - 1 - k) = g (m - 1 - k) := if_neg (by omega)
  have e2 : rvs g m k k = g k := if_neg (by omega)
  rw [e1, e2]
  by_cases q1 : i = m - 1 - k
  · subst q1
    rw [un_eq]
    unfold rvs
    rw [if_pos (by omega)]
    congr 1
    omega
  · rw [un_ne q1]
    by_cases q2 : i = k
    · subst q2
      rw [un_eq]
      unfold rvs
      rw [if_pos (by omega)]
    · rw [un_ne q2]
      unfold rvs
      by_cases q3 : i < k ∨ (m - 1 - k < i ∧ i < m)
      · rw [if_pos q3, if_pos (by omega)]
      · rw [if_neg q3, if_neg (by omega)]
theorem rvs_end {g : Nat → Nat} {m k i : Nat} (hk : m / 2 ≤ k) (hk2 : 2 * k ≤ m + 1) (hi : i < m) : rvs g m (m / 2) i = g (m - 1 - i) := by
  unfold rvs
  by_cases q : i < m / 2 ∨ (m - 1 - m / 2 < i ∧ i < m)
  · rw [if_pos q]
  · rw [if_neg q]
    congr 1
    omega
set_option maxRecDepth 100000 in
set_option maxHeartbeats 4000000 in
theorem ms_M_tell (d n V : Nat → Nat) (lf : Int64) (b b2 m0 kn t v : Nat) (dg wd : Nat → Nat) (hM : MV d n V) (hb : 2 ≤ b ∧ b < 37) (hv0 : V 0 = v) (hv : bl v ≤ 24000) : MS y_M_tell c_M_tell 5 none (rm 3) [.ref 0] (mW d n lf (G0 b b2 m0 kn t dg wd)) (zP (X := (Nat → Nat) × (Nat → Nat) × Int64 × (Nat → Nat)) (fun _ => none) (fun q => mW q.1 q.2.1 q.2.2.1 (G0 b b2 (nd b v) 1 t q.2.2.2 wd)) (fun q => MV q.1 q.2.1 (un V 3 0) ∧ ∀ i, i < nd b v → q.2.2.2 i = dgt b v i)) := by
  refine MS_of (own := R_M) (by decide) rfl (fun _ => Nat.le_of_ble_eq_true rfl) (fun Z h hr => ?_)
  obtain ⟨hb1, hb2⟩ := hb
  have hb0 : 0 < b := by omega
  have Rev : ∀ (c e : Nat) (e1 n1 : Nat → Nat) (l1 : Int64) (g : Nat → Nat) (M : Nat), MV e1 n1 (un V 3 0) → M = nd b v → M ≤ 24000 → (∀ i, i < M → g i = dig b v i) → ∀ (f k : Nat), f + k = M / 2 → Z 0 0 (mW e1 n1 l1 (G0 b b2 M kn t (rvs g M k) wd)) [(0, .ref 0), (1, .int (nI c)), (2, .int (nI e)), (3, .int (nI k))] 160 [] := by
    intro c e e1 n1 l1 g M hV hMn hM4 hg f
    induction f with
    | zero =>
      intro k hf
      obtain rfl : k = M / 2 := by omega
      refine z_iload_n h d_M_tell_160 rfl ?_
      refine z_aload_n h d_M_tell_161 rfl ?_
      refine z_get (C := R_M) (T := F_M) (N := 10) h 5 d_M_tell_162 in_M rfl (by decide) wf_M_146 rfl rfl ?_
      refine z_iconst (v := nI 2) h d_M_tell_165 (by decide) ?_
      refine z_idivN h d_M_tell_166 (by omega) ?_
      refine z_icmp_geN (tgt := 218) h d_M_tell_167 (by decide) (by omega) (fun c_167 => ?_) (fun c_167 => ?_)
      · refine z_aload_n h d_M_tell_218 rfl ?_
        refine z_iconst (v := nI 1) h d_M_tell_219 (by decide) ?_
        refine z_put (C := R_M) (T := F_M) (N := 10) (ty := .boolean) h 6 d_M_tell_220 in_M rfl ft_M_ok n_M (by decide) wf_M_136 rfl rfl (by decide) (by decide) rfl (Nat.le_of_ble_eq_true rfl) ?_
        refine hr.2.2.2.1 _ _ _ _ _ (Nat.le_refl _) (Nat.le_refl _) rfl d_M_tell_223 ?_
        subst hMn
        refine ⟨(e1, n1, l1, rvs g (nd b v) (nd b v / 2)), rfl, rfl, hV, fun i hi => ?_⟩
        show rvs g (nd b v) (nd b v / 2) i = dig b v (nd b v - 1 - i)
        rw [rvs_end (Nat.le_refl _) (by omega) hi, hg _ (by omega)]
      · exact absurd c_167 (by omega)
    | succ f ih =>
      intro k hf
      refine z_iload_n h d_M_tell_160 rfl ?_
      refine z_aload_n h d_M_tell_161 rfl ?_
      refine z_get (C := R_M) (T := F_M) (N := 10) h 5 d_M_tell_162 in_M rfl (by decide) wf_M_146 rfl rfl ?_
      refine z_iconst (v := nI 2) h d_M_tell_165 (by decide) ?_
      refine z_idivN h d_M_tell_166 (by omega) ?_
      refine z_icmp_geN (tgt := 218) h d_M_tell_167 (by decide) (by omega) (fun c_167 => ?_) (fun c_167 => ?_)
      · exact absurd c_167 (by omega)
      · refine z_aload_n h d_M_tell_170 rfl ?_
        refine z_get (C := R_M) (T := F_M) (N := 10) h 4 d_M_tell_171 in_M rfl (by decide) wf_M_23 rfl rfl ?_
        refine z_iload_n h d_M_tell_174 rfl ?_
        refine z_ialoadN h d_M_tell_175 rfl (by omega) ?_
        refine z_istore h d_M_tell_176 (by decide) ?_
        refine z_aload_n h d_M_tell_178 rfl ?_
        refine z_get (C := R_M) (T := F_M) (N := 10) h 4 d_M_tell_179 in_M rfl (by decide) wf_M_23 rfl rfl ?_
        refine z_iload_n h d_M_tell_182 rfl ?_
        refine z_aload_n h d_M_tell_183 rfl ?_
        refine z_get (C := R_M) (T := F_M) (N := 10) h 4 d_M_tell_184 in_M rfl (by decide) wf_M_23 rfl rfl ?_
        refine z_aload_n h d_M_tell_187 rfl ?_
        refine z_get (C := R_M) (T := F_M) (N := 10) h 5 d_M_tell_188 in_M rfl (by decide) wf_M_146 rfl rfl ?_
        refine z_iconst (v := nI 1) h d_M_tell_191 (by decide) ?_
        refine z_isubN h d_M_tell_192 (by omega) ?_
        refine z_iload_n h d_M_tell_193 rfl ?_
        refine z_isubN h d_M_tell_194 (by omega) ?_
        refine z_ialoadN h d_M_tell_195 rfl (by omega) ?_
        refine z_iastoreN h d_M_tell_196 rfl (by omega) ?_
        refine z_aload_n h d_M_tell_197 rfl ?_
        refine z_get (C := R_M) (T := F_M) (N := 10) h 4 d_M_tell_198 in_M rfl (by decide) wf_M_23 rfl rfl ?_
        refine z_aload_n h d_M_tell_201 rfl ?_
        refine z_get (C := R_M) (T := F_M) (N := 10) h 5 d_M_tell_202 in_M rfl (by decide) wf_M_146 rfl rfl ?_
        refine z_iconst (v := nI 1) h d_M_tell_205 (by decide) ?_
        refine z_isubN h d_M_tell_206 (by omega) ?_
        refine z_iload_n h d_M_tell_207 rfl ?_
        refine z_isubN h d_M_tell_208 (by omega) ?_
        refine z_iload h d_M_tell_209 rfl ?_
        refine z_iastoreN h d_M_tell_211 rfl (by omega) ?_
        refine z_iincN h 1 d_M_tell_212 rfl (by decide) (by decide) ?_
        refine z_goto (tgt := 160) h d_M_tell_215 (by decide) ?_
        have e9 := ih (k + 1) (by omega)
        rw [← rvs_step (by omega)] at e9
        exact z_lv h rfl e9
  have n3 : ∀ (e1 n1 : Nat → Nat) (u : Nat), MV e1 n1 (un V 3 u) → n1 3 ≤ 2800 ∧ (n1 3 = 0 ↔ u = 0) := by
    intro e1 n1 u hV
    have hR := hV.2 3 (by decide)
    rw [un_eq] at hR
    refine ⟨hR.1, fun q => ?_, fun q => ?_⟩
    · rw [q] at hR
      have := Rp_lt hR
      omega
    · rcases hR.2.2.2 with p | p
      · exact p
      · rw [q] at p
        exact absurd (Nat.pow_pos (n := n1 3 - 1) (show 0 < 32768 by decide)) (by omega)
  have End : ∀ (c e M : Nat) (e1 n1 : Nat → Nat) (l1 : Int64) (g : Nat → Nat), MV e1 n1 (un V 3 0) → v / b ^ M = 0 → (M = 0 ∨ v / b ^ (M - 1) ≠ 0) → (∀ i, i < M → g i = dig b v i) → Z 0 0 (mW e1 n1 l1 (G0 b b2 M kn t g wd)) [(0, .ref 0), (1, .int (nI c)), (2, .int (nI e))] 42 [] := by
    intro c e M e1 n1 l1 g hV h0 h1 hg
    obtain ⟨a1, a2⟩ := n3 e1 n1 0 hV
    have a3 : n1 3 = 0 := a2.mpr rfl
    have hcp : M ≤ 24000 := by
      rcases h1 with q | q
      · omega
      · have := dv_cap hb1 hv q
        omega
    refine z_aload_n h d_M_tell_42 rfl ?_
    refine z_get (C := R_M) (T := F_M) (N := 10) h 1 d_M_tell_43 in_M rfl (by decide) wf_M_13 rfl rfl ?_
    refine z_iconst (v := nI 3) h d_M_tell_46 (by decide) ?_
    refine z_ialoadN h d_M_tell_47 rfl (by omega) ?_
    refine z_if_leN (tgt := 139) h d_M_tell_48 (by decide) (by omega) (fun c_48 => ?_) (fun c_48 => ?_)
    · refine z_aload_n h d_M_tell_139 rfl ?_
      refine z_get (C := R_M) (T := F_M) (N := 10) h 5 d_M_tell_140 in_M rfl (by decide) wf_M_146 rfl rfl ?_
      refine z_if_neN (tgt := 158) h d_M_tell_143 (by decide) (by omega) (fun c_143 => ?_) (fun c_143 => ?_)
      · refine z_iconst (v := nI 0) h d_M_tell_158 (by decide) ?_
        refine z_istore_n h d_M_tell_159 (by decide) ?_
        have hMn : M = nd b v := nd_uniq hb1 (by omega) (by
          rcases Nat.div_eq_zero_iff.mp h0 with q | q
          · exact absurd q (Nat.pos_iff_ne_zero.mp (Nat.pow_pos hb0))
          · exact q) (by
          rcases h1 with q | q
          · exact absurd q c_143
          · right
            apply Nat.le_of_not_lt
            intro q2
            exact q (Nat.div_eq_of_lt q2))
        have e9 := Rev c e e1 n1 l1 g M hV hMn hcp hg (M / 2) 0 rfl
        rw [rvs0 (by omega)] at e9
        exact z_lv h rfl e9
      · subst c_143
        rw [Nat.pow_zero, Nat.div_one] at h0
        refine z_aload_n h d_M_tell_146 rfl ?_
        refine z_get (C := R_M) (T := F_M) (N := 10) h 4 d_M_tell_147 in_M rfl (by decide) wf_M_23 rfl rfl ?_
        refine z_iconst (v := nI 0) h d_M_tell_150 (by decide) ?_
        refine z_iconst (v := nI 0) h d_M_tell_151 (by decide) ?_
        refine z_iastoreN h d_M_tell_152 rfl (by omega) ?_
        refine z_aload_n h d_M_tell_153 rfl ?_
        refine z_iconst (v := nI 1) h d_M_tell_154 (by decide) ?_
        refine z_put (C := R_M) (T := F_M) (N := 10) (ty := .int) h 5 d_M_tell_155 in_M rfl ft_M_ok n_M (by decide) wf_M_146 rfl rfl rfl rfl rfl (Nat.le_of_ble_eq_true rfl) ?_
        refine z_iconst (v := nI 0) h d_M_tell_158 (by decide) ?_
        refine z_istore_n h d_M_tell_159 (by decide) ?_
        have hMn : 1 = nd b v := nd_uniq hb1 (by omega) (by rw [h0, Nat.pow_one]; omega) (Or.inl rfl)
        have e9 := Rev c e e1 n1 l1 (un g 0 0) 1 hV hMn (by decide) (fun i hi => by
          obtain rfl : i = 0 := by omega
          rw [un_eq, h0]
          unfold dig
          rw [Nat.zero_div, Nat.zero_mod]) 0 0 rfl
        rw [rvs0 (by omega)] at e9
        exact z_lv h rfl e9
    · exact absurd c_48 (by omega)
  have Out : ∀ (f c e M u : Nat) (e1 n1 : Nat → Nat) (l1 : Int64) (g : Nat → Nat), u ≤ f → c = b ^ e → 1 ≤ e → c ≤ 32768 → MV e1 n1 (un V 3 u) → u = v / b ^ M → (M = 0 ∨ v / b ^ (M - 1) ≠ 0) → (∀ i, i < M → g i = dig b v i) → Z 0 0 (mW e1 n1 l1 (G0 b b2 M kn t g wd)) [(0, .ref 0), (1, .int (nI c)), (2, .int (nI e))] 42 [] := by
    intro f
    induction f with
    | zero =>
      intro c e M u e1 n1 l1 g hu hc he hc2 hV h0 h1 hg
      obtain rfl : u = 0 := by omega
      exact End c e M e1 n1 l1 g hV h0.symm h1 hg
    | succ f ih =>
      intro c e M u e1 n1 l1 g hu hc he hc2 hV h0 h1 hg
      by_cases hu0 : u = 0
      · subst hu0
        exact End c e M e1 n1 l1 g hV h0.symm h1 hg
      · obtain ⟨a1, a2⟩ := n3 e1 n1 u hV
        have he15 := tl_chunk hb1 hc hc2
        have hc0 : 0 < c := by rw [hc]; exact Nat.pow_pos hb0
        have hc1 : 2 ≤ c := by
          rw [hc]
          exact Nat.le_trans hb1 (by have := Nat.pow_le_pow_right hb0 he; rw [Nat.pow_one] at this; exact this)
        refine z_aload_n h d_M_tell_42 rfl ?_
        refine z_get (C := R_M) (T := F_M) (N := 10) h 1 d_M_tell_43 in_M rfl (by decide) wf_M_13 rfl rfl ?_
        refine z_iconst (v := nI 3) h d_M_tell_46 (by decide) ?_
        refine z_ialoadN h d_M_tell_47 rfl (by omega) ?_
        refine z_if_leN (tgt := 139) h d_M_tell_48 (by decide) (by omega) (fun c_48 => ?_) (fun c_48 => ?_)
        · exact absurd (a2.mp c_48) hu0
        · refine z_aload_n h d_M_tell_51 rfl ?_
          refine z_iconst (v := nI 3) h d_M_tell_52 (by decide) ?_
          refine z_iload_n h d_M_tell_53 rfl ?_
          refine z_i2lN h d_M_tell_54 (by omega) ?_
          refine z_cM h (ms_M_lower e1 n1 (un V 3 u) l1 (G0 b b2 M kn t g wd) 3 c (by decide) hV hc0 (by omega)) (zf_M_lower (by decide)) wm_M_87 wi_M_lower ws_M_lower d_M_tell_55 (Nat.le_of_ble_eq_true rfl) rfl (fun x_55 hx_55 => ?_)
          rw [un_eq, un_un] at hx_55
          rw [un_eq]
          have hud : u / c = v / b ^ (M + e) := by rw [h0, hc, Nat.pow_add, Nat.div_div_eq_div_mul]
          have hul : u / c ≤ f := by
            have : u / c < u := Nat.div_lt_self (Nat.pos_of_ne_zero hu0) hc1
            omega
          have hum : u % c = v / b ^ M % b ^ e := by rw [h0, hc]
          rw [hum]
          rw [hud] at hx_55 hul
          obtain ⟨e2, n2⟩ := x_55
          replace hx_55 : MV e2 n2 (un V 3 (v / b ^ (M + e))) := hx_55
          show Z 0 0 (mW e2 n2 (lN (v / b ^ M % b ^ e)) (G0 b b2 M kn t g wd)) _ _ _
          obtain ⟨a3, a4⟩ := n3 e2 n2 _ hx_55
          have In : ∀ (j k p : Nat) (g : Nat → Nat), j + k = e → p = M + k → v / b ^ p ≠ 0 → (∀ i, i < p → g i = dig b v i) → Z 0 0 (mW e2 n2 (lN (v / b ^ p % b ^ j)) (G0 b b2 p kn t g wd)) [(0, .ref 0), (1, .int (nI c)), (2, .int (nI e)), (3, .int (nI k))] 60 [] := by
            intro j
            induction j with
            | zero =>
              intro k p g hj hp hne hg
              obtain rfl : k = e := by omega
              refine z_iload_n h d_M_tell_60 rfl ?_
              refine z_iload_n h d_M_tell_61 rfl ?_
              refine z_icmp_geN (tgt := 136) h d_M_tell_62 (by decide) (by omega) (fun c_62 => ?_) (fun c_62 => ?_)
              · refine z_goto (tgt := 42) h d_M_tell_136 (by decide) ?_
                subst hp
                exact z_lv h rfl (ih c k (M + k) (v / b ^ (M + k)) e2 n2 _ g hul hc he hc2 hx_55 rfl (Or.inr (dv_ne (by rw [show M + k - 1 + 1 = M + k by omega]; exact hne))) hg)
              · exact absurd c_62 (by omega)
            | succ j ihj =>
              intro k p g hj hp hne hg
              have hpc := dv_cap hb1 hv hne
              obtain ⟨s1, s2⟩ := @lf_step v b p j hb0
              have hl1 : v / b ^ p % b ^ (j + 1) < 2 ^ 63 := by
                have q1 : v / b ^ p % b ^ (j + 1) < b ^ (j + 1) := Nat.mod_lt _ (Nat.pow_pos hb0)
                have q2 : b ^ (j + 1) ≤ c := by rw [hc]; exact Nat.pow_le_pow_right hb0 (by omega)
                omega
              have hs_82 : v / b ^ p % b ^ (j + 1) < 2 ^ 63 ∧ 0 < b ∧ b < 2 ^ 63 := by omega
              have hs_95 := hs_82
              have hgn : ∀ i, i < p + 1 → un g p (dig b v p) i = dig b v i := fun i hi => by
                by_cases q : i = p
                · rw [q, un_eq]
                · rw [un_ne q]
                  exact hg i (by omega)
              have hpe : M + e = p + 1 + j := by omega
              have hl2 : v / b ^ (p + 1) % b ^ j < 2 ^ 63 := by rw [← s1]; exact Nat.lt_of_le_of_lt (Nat.div_le_self _ _) hl1
              refine z_iload_n h d_M_tell_60 rfl ?_
              refine z_iload_n h d_M_tell_61 rfl ?_
              refine z_icmp_geN (tgt := 136) h d_M_tell_62 (by decide) (by omega) (fun c_62 => ?_) (fun c_62 => ?_)
              · exact absurd c_62 (by omega)
              · refine z_aload_n h d_M_tell_65 rfl ?_
                refine z_get (C := R_M) (T := F_M) (N := 10) h 4 d_M_tell_66 in_M rfl (by decide) wf_M_23 rfl rfl ?_
                refine z_aload_n h d_M_tell_69 rfl ?_
                refine z_get (C := R_M) (T := F_M) (N := 10) h 5 d_M_tell_70 in_M rfl (by decide) wf_M_146 rfl rfl ?_
                refine z_aload_n h d_M_tell_73 rfl ?_
                refine z_get (C := R_M) (T := F_M) (N := 10) h 9 d_M_tell_74 in_M rfl (by decide) wf_M_42 rfl rfl ?_
                refine z_aload_n h d_M_tell_77 rfl ?_
                refine z_get (C := R_M) (T := F_M) (N := 10) h 2 d_M_tell_78 in_M rfl (by decide) wf_M_16 rfl rfl ?_
                refine z_i2lN h d_M_tell_81 (by omega) ?_
                refine z_lremN h d_M_tell_82 hs_82 ?_
                rw [s2]
                refine z_l2iN h d_M_tell_83 ?_
                refine z_iastoreN h d_M_tell_84 rfl (by omega) ?_
                refine z_aload_n h d_M_tell_85 rfl ?_
                refine z_aload_n h d_M_tell_86 rfl ?_
                refine z_get (C := R_M) (T := F_M) (N := 10) h 9 d_M_tell_87 in_M rfl (by decide) wf_M_42 rfl rfl ?_
                refine z_aload_n h d_M_tell_90 rfl ?_
                refine z_get (C := R_M) (T := F_M) (N := 10) h 2 d_M_tell_91 in_M rfl (by decide) wf_M_16 rfl rfl ?_
                refine z_i2lN h d_M_tell_94 (by omega) ?_
                refine z_ldivN h d_M_tell_95 hs_95 ?_
                rw [s1]
                refine z_put (C := R_M) (T := F_M) (N := 10) (ty := .long) h 9 d_M_tell_96 in_M rfl ft_M_ok n_M (by decide) wf_M_42 rfl rfl rfl rfl rfl (Nat.le_of_ble_eq_true rfl) ?_
                refine z_aload_n h d_M_tell_99 rfl ?_
                refine z_dup h d_M_tell_100 rfl ?_
                refine z_get (C := R_M) (T := F_M) (N := 10) h 5 d_M_tell_101 in_M rfl (by decide) wf_M_146 rfl rfl ?_
                refine z_iconst (v := nI 1) h d_M_tell_104 (by decide) ?_
                refine z_iaddN h d_M_tell_105 ?_
                refine z_put (C := R_M) (T := F_M) (N := 10) (ty := .int) h 5 d_M_tell_106 in_M rfl ft_M_ok n_M (by decide) wf_M_146 rfl rfl rfl rfl rfl (Nat.le_of_ble_eq_true rfl) ?_
                refine z_aload_n h d_M_tell_109 rfl ?_
                refine z_get (C := R_M) (T := F_M) (N := 10) h 1 d_M_tell_110 in_M rfl (by decide) wf_M_13 rfl rfl ?_
                refine z_iconst (v := nI 3) h d_M_tell_113 (by decide) ?_
                refine z_ialoadN h d_M_tell_114 rfl (by omega) ?_
                show Z 0 0 (mW e2 n2 (lN (v / b ^ (p + 1) % b ^ j)) (G0 b b2 (p + 1) kn t (un g p (dig b v p)) wd)) _ _ _
                have Nx : v / b ^ (p + 1) ≠ 0 → Z 0 0 (mW e2 n2 (lN (v / b ^ (p + 1) % b ^ j)) (G0 b b2 (p + 1) kn t (un g p (dig b v p)) wd)) [(0, .ref 0), (1, .int (nI c)), (2, .int (nI e)), (3, .int (nI k))] 130 [] := by
                  intro hne2
                  refine z_iincN h 1 d_M_tell_130 rfl (by decide) (by decide) ?_
                  refine z_goto (tgt := 60) h d_M_tell_133 (by decide) ?_
                  exact z_lv h rfl (ihj (k + 1) (p + 1) (un g p (dig b v p)) (by omega) (by omega) hne2 hgn)
                refine z_if_neN (tgt := 130) h d_M_tell_115 (by decide) (by omega) (fun c_115 => ?_) (fun c_115 => ?_)
                · exact Nx (fun q => c_115 (a4.mpr (by rw [hpe]; exact ((dv_zero hb0).mp q).1)))
                · refine z_aload_n h d_M_tell_118 rfl ?_
                  refine z_get (C := R_M) (T := F_M) (N := 10) h 9 d_M_tell_119 in_M rfl (by decide) wf_M_42 rfl rfl ?_
                  refine z_lconst (v := lN 0) h d_M_tell_122 (by decide) ?_
                  refine z_lcmp_neN (tgt := 130) h d_M_tell_123 d_M_tell_124 (by decide) (by omega) (fun c_123 => ?_) (fun c_123 => ?_)
                  · exact Nx (fun q => c_123 (((dv_zero (j := j) hb0).mp q).2))
                  · refine z_goto (tgt := 136) h d_M_tell_127 (by decide) ?_
                    refine z_goto (tgt := 42) h d_M_tell_136 (by decide) ?_
                    have hz0 : v / b ^ (p + 1) = 0 := (dv_zero (j := j) hb0).mpr ⟨by rw [← hpe]; exact a4.mp c_115, c_123⟩
                    have hV0 : MV e2 n2 (un V 3 0) := by
                      rw [a4.mp c_115] at hx_55
                      exact hx_55
                    exact z_lv h rfl (End c e (p + 1) e2 n2 _ _ hV0 hz0 (Or.inr hne) hgn)
          refine z_iconst (v := nI 0) h d_M_tell_58 (by decide) ?_
          refine z_istore_n h d_M_tell_59 (by decide) ?_
          exact z_lv h rfl (In e 0 M g rfl rfl (by rw [← h0]; exact hu0) hg)
  have Chk : ∀ (f c e : Nat), f + e = 16 → c = b ^ e → 1 ≤ e → c ≤ 32768 → Z 0 0 (mW d n lf (G0 b b2 m0 kn t dg wd)) [(0, .ref 0), (1, .int (nI c)), (2, .int (nI e))] 7 [] := by
    intro f
    induction f with
    | zero =>
      intro c e hf hc he hc2
      have := tl_chunk hb1 hc hc2
      omega
    | succ f ih =>
      intro c e hf hc he hc2
      have hcb : c * b ≤ 32768 * 36 := Nat.mul_le_mul hc2 (by omega)
      refine z_iload_n h d_M_tell_7 rfl ?_
      refine z_aload_n h d_M_tell_8 rfl ?_
      refine z_get (C := R_M) (T := F_M) (N := 10) h 2 d_M_tell_9 in_M rfl (by decide) wf_M_16 rfl rfl ?_
      refine z_imulN h d_M_tell_12 ?_
      refine z_ldc (v := nI 32768) h d_M_tell_13 wv_M_149 ?_
      refine z_icmp_gtN (tgt := 31) h d_M_tell_15 (by decide) (by omega) (fun c_15 => ?_) (fun c_15 => ?_)
      · refine z_aload_n h d_M_tell_31 rfl ?_
        refine z_iconst (v := nI 3) h d_M_tell_32 (by decide) ?_
        refine z_iconst (v := nI 0) h d_M_tell_33 (by decide) ?_
        refine z_cM h (ms_M_copy d n V lf (G0 b b2 m0 kn t dg wd) 3 0 (by decide) (by decide) hM) (zf_M_copy (by decide)) wm_M_70 wi_M_copy ws_M_copy d_M_tell_34 (Nat.le_of_ble_eq_true rfl) rfl (fun x_34 hx_34 => ?_)
        rw [hv0] at hx_34
        refine z_aload_n h d_M_tell_37 rfl ?_
        refine z_iconst (v := nI 0) h d_M_tell_38 (by decide) ?_
        refine z_put (C := R_M) (T := F_M) (N := 10) (ty := .int) h 5 d_M_tell_39 in_M rfl ft_M_ok n_M (by decide) wf_M_146 rfl rfl rfl rfl rfl (Nat.le_of_ble_eq_true rfl) ?_
        exact z_lv h rfl (Out v c e 0 v x_34.1 x_34.2 lf dg (Nat.le_refl _) hc he hc2 hx_34 (by rw [Nat.pow_zero, Nat.div_one]) (Or.inl rfl) (fun i hi => absurd hi (by omega)))
      · refine z_iload_n h d_M_tell_18 rfl ?_
        refine z_aload_n h d_M_tell_19 rfl ?_
        refine z_get (C := R_M) (T := F_M) (N := 10) h 2 d_M_tell_20 in_M rfl (by decide) wf_M_16 rfl rfl ?_
        refine z_imulN h d_M_tell_23 ?_
        refine z_istore_n h d_M_tell_24 (by decide) ?_
        refine z_iincN h 1 d_M_tell_25 rfl (by decide) (by decide) ?_
        refine z_goto (tgt := 7) h d_M_tell_28 (by decide) ?_
        exact z_lv h rfl (ih (c * b) (e + 1) (by omega) (by rw [hc, ← Nat.pow_succ]) (by omega) c_15)
  refine z_aload_n h d_M_tell_0 rfl ?_
  refine z_get (C := R_M) (T := F_M) (N := 10) h 2 d_M_tell_1 in_M rfl (by decide) wf_M_16 rfl rfl ?_
  refine z_istore_n h d_M_tell_4 (by decide) ?_
  refine z_iconst (v := nI 1) h d_M_tell_5 (by decide) ?_
  refine z_istore_n h d_M_tell_6 (by decide) ?_
  exact z_lv h rfl (Chk 15 b 1 rfl (by rw [Nat.pow_one]) (by omega) (by omega))
