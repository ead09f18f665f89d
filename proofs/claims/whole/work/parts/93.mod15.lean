/-! DigitMillModel: the series -/
def alt (P : Nat → Nat) : Nat → Int
  | 0 => 0
  | k + 1 => alt P k + (if k % 2 = 0 then (P k : Int) else -(P k : Int))
theorem alt_bd {P : Nat → Nat} (hP : ∀ k, P (k + 1) ≤ P k) : ∀ k, (k % 2 = 0 → 0 ≤ alt P k ∧ alt P k + P k ≤ P 0) ∧ (k % 2 = 1 → (P k : Int) ≤ alt P k ∧ alt P k ≤ P 0)
  | 0 => ⟨fun _ => ⟨Int.le_refl _, by show (0 : Int) + P 0 ≤ P 0; omega⟩, fun h => absurd h (by decide)⟩
  | k + 1 => by
    have h0 := alt_bd hP k
    have h1 := hP k
    unfold alt
    rcases (show k % 2 = 0 ∨ k % 2 = 1 by omega) with q | q
    · rw [if_pos q]
      have := h0.1 q
      exact ⟨fun q2 => by omega, fun _ => by omega⟩
    · rw [if_neg (by omega)]
      have := h0.2 q
      exact ⟨fun _ => by omega, fun q2 => by omega⟩
theorem alt_nn {P : Nat → Nat} (hP : ∀ k, P (k + 1) ≤ P k) (k : Nat) : 0 ≤ alt P k ∧ alt P k ≤ P 0 := by
  have h0 := alt_bd hP k
  rcases (show k % 2 = 0 ∨ k % 2 = 1 by omega) with q | q
  · have := h0.1 q
    omega
  · have := h0.2 q
    omega
def tA (S x : Nat) : Nat → Nat
  | 0 => S / x
  | k + 1 => tA S x k / (x * x)
def pA (S x k : Nat) : Nat := tA S x k / (2 * k + 1)
theorem pA_anti {S x : Nat} (k : Nat) : pA S x (k + 1) ≤ pA S x k := by
  unfold pA
  exact Nat.div_le_div (Nat.div_le_self _ _) (by omega) (by omega)
theorem pA_0 {S x : Nat} : pA S x 0 ≤ S / x := Nat.div_le_self _ _
abbrev X4 : Type := (Nat → Nat) × (Nat → Nat) × (Nat → Nat) × Int64
def sg (ls : Nat) : Int := if ls = 0 then 1 else -1
/-- the part of the state that the series leave alone -/
def Kp (V U : Nat → Nat) : Prop := ∀ j, j ≠ 3 → j ≠ 4 → j ≠ 5 → U j = V j
theorem Kp_un {V U : Nat → Nat} {i v : Nat} (h : Kp V U) (hi : i = 3 ∨ i = 4 ∨ i = 5) : Kp V (un U i v) := fun j h3 h4 h5 => by
  rw [un_ne (by omega)]
  exact h j h3 h4 h5
theorem sg_step {ls k : Nat} {u U c a p a' : Int} (hls : ls ≤ 1) (h : U = u + sg ls * (c * a)) (ha : a' = a + (if k % 2 = 0 then p else -p)) : (ls = k % 2 → U + c * p = u + sg ls * (c * a')) ∧ (ls ≠ k % 2 → U - c * p = u + sg ls * (c * a')) := by
  rcases (show k % 2 = 0 ∨ k % 2 = 1 by omega) with q | q
  · rw [if_pos q] at ha
    rw [h, ha, q, Int.mul_add]
    unfold sg
    constructor
    · intro q2
      rw [if_pos q2]
      omega
    · intro q2
      rw [if_neg q2]
      omega
  · rw [if_neg (by omega)] at ha
    rw [h, ha, q, Int.mul_add, Int.mul_neg]
    unfold sg
    constructor
    · intro q2
      rw [if_neg (by omega)]
      omega
    · intro q2
      rw [if_pos (by omega)]
      omega
theorem n3_iff {d n V : Nat → Nat} (h : MV d n V) : n 3 ≤ 2800 ∧ (n 3 = 0 ↔ V 3 = 0) := ⟨(h.2 3 (by decide)).1, Rp_nz (by decide) (h.2 3 (by decide))⟩
theorem half_lt {t x f : Nat} (hx : 2 ≤ x) (h : t < 2 ^ (f + 1)) : t / x < 2 ^ f := by
  rw [Nat.div_lt_iff_lt_mul (by omega)]
  rw [Nat.pow_succ] at h
  exact Nat.lt_of_lt_of_le h (Nat.mul_le_mul_left _ hx)
set_option maxRecDepth 100000 in
set_option maxHeartbeats 4000000 in
theorem ms_M_arc (d n V : Nat → Nat) (lf : Int64) (G : MG) (x c ls u S : Nat) (hM : MV d n V) (h2 : V 2 = S) (h5 : V 5 = u) (hx : 2 ≤ x ∧ x ≤ 1000) (hc : c ≤ 16) (hls : ls ≤ 1) (hu : ls = 1 → c * (S / x) ≤ u) (hcap : u + 16 * S < capM) : MS y_M_arc c_M_arc 7 (some .int) (rm 3) [.ref 0, .long (lN x), .long (lN c), .int (nI ls)] (mW d n lf G) (zP (X := X4 × Nat) (fun q => some (.int (nI q.2))) (fun q => mW q.1.1 q.1.2.1 q.1.2.2.2 G) (fun q => MV q.1.1 q.1.2.1 q.1.2.2.1 ∧ Kp V q.1.2.2.1 ∧ q.2 ≤ bl S ∧ tA S x q.2 = 0 ∧ (q.1.2.2.1 5 : Int) = u + sg ls * (c * alt (pA S x) q.2))) := by
  refine MS_of (own := R_M) (by decide) rfl (fun _ => Nat.le_of_ble_eq_true rfl) (fun Z h hr => ?_)
  obtain ⟨hx1, hx2⟩ := hx
  have hxx : 2 ≤ x * x ∧ x * x ≤ 1000000 := ⟨Nat.le_trans hx1 (Nat.le_mul_of_pos_left x (by omega)), Nat.mul_le_mul hx2 hx2⟩
  have hbS := MV_bl hM (show 2 < 10 by decide)
  rw [h2] at hbS
  have halt : ∀ k, 0 ≤ alt (pA S x) k ∧ alt (pA S x) k ≤ (S / x : Nat) := fun k => by
    have h0 := alt_nn (P := pA S x) pA_anti k
    have h1 := @pA_0 S x
    omega
  have hca : ∀ k, 0 ≤ (c : Int) * alt (pA S x) k ∧ (c : Int) * alt (pA S x) k ≤ ((c * (S / x) : Nat) : Int) ∧ c * (S / x) ≤ 16 * S := fun k => by
    refine ⟨Int.mul_nonneg (by omega) (halt k).1, ?_, Nat.mul_le_mul hc (Nat.div_le_self _ _)⟩
    rw [Int.natCast_mul]
    exact Int.mul_le_mul_of_nonneg_left (halt k).2 (by omega)
  have L : ∀ (f k : Nat) (e n' U : Nat → Nat) (l1 : Int64), f + k = bl S → tA S x k < 2 ^ f → MV e n' U → Kp V U → U 3 = tA S x k → (U 5 : Int) = u + sg ls * (c * alt (pA S x) k) → Z 0 0 (mW e n' l1 G) [(0, .ref 0), (1, .long (lN x)), (3, .long (lN c)), (5, .int (nI ls)), (6, .int (nI k))] 15 [] := by
    intro f
    have End : ∀ (k : Nat) (e n' U : Nat → Nat) (l1 : Int64), k ≤ bl S → tA S x k = 0 → MV e n' U → Kp V U → U 3 = tA S x k → (U 5 : Int) = u + sg ls * (c * alt (pA S x) k) → Z 0 0 (mW e n' l1 G) [(0, .ref 0), (1, .long (lN x)), (3, .long (lN c)), (5, .int (nI ls)), (6, .int (nI k))] 15 [] := by
      intro k e n' U l1 hk ht hV hK h3 h5'
      obtain ⟨a1, a2⟩ := n3_iff hV
      refine z_aload_n h d_M_arc_15 rfl ?_
      refine z_get (C := R_M) (T := F_M) (N := 10) h 1 d_M_arc_16 in_M rfl (by decide) wf_M_13 rfl rfl ?_
      refine z_iconst (v := nI 3) h d_M_arc_19 (by decide) ?_
      refine z_ialoadN h d_M_arc_20 rfl (by omega) ?_
      refine z_if_leN (tgt := 93) h d_M_arc_21 (by decide) (by omega) (fun c_21 => ?_) (fun c_21 => ?_)
      · refine z_iload h d_M_arc_93 rfl ?_
        refine hr.1 _ _ _ _ _ _ (Nat.le_refl _) (Nat.le_refl _) rfl d_M_arc_95 ?_
        exact ⟨((e, n', U, l1), k), rfl, rfl, hV, hK, hk, ht, h5'⟩
      · exact absurd (a2.mpr (by rw [h3, ht])) (by omega)
    induction f with
    | zero =>
      intro k e n' U l1 hf ht hV hK h3 h5'
      exact End k e n' U l1 (by omega) (by omega) hV hK h3 h5'
    | succ f ih =>
      intro k e n' U l1 hf ht hV hK h3 h5'
      by_cases ht0 : tA S x k = 0
      · exact End k e n' U l1 (by omega) ht0 hV hK h3 h5'
      · obtain ⟨a1, a2⟩ := n3_iff hV
        have hst : alt (pA S x) (k + 1) = alt (pA S x) k + (if k % 2 = 0 then (pA S x k : Int) else -(pA S x k : Int)) := rfl
        have b0 := hca k
        have b1 := hca (k + 1)
        have Nx : ∀ (e n' U : Nat → Nat) (l1 : Int64), MV e n' U → Kp V U → U 3 = tA S x k → (U 5 : Int) = u + sg ls * (c * alt (pA S x) (k + 1)) → Z 0 0 (mW e n' l1 G) [(0, .ref 0), (1, .long (lN x)), (3, .long (lN c)), (5, .int (nI ls)), (6, .int (nI k))] 79 [] := by
          intro e n' U l1 hV hK h3 h5'
          refine z_aload_n h d_M_arc_79 rfl ?_
          refine z_iconst (v := nI 3) h d_M_arc_80 (by decide) ?_
          refine z_lload_n h d_M_arc_81 rfl ?_
          refine z_lload_n h d_M_arc_82 rfl ?_
          refine z_lmulN h d_M_arc_83 ?_
          refine z_cM h (ms_M_lower e n' U l1 G 3 (x * x) (by decide) hV (by omega) (by omega)) (zf_M_lower (by decide)) wm_M_87 wi_M_lower ws_M_lower d_M_arc_84 (Nat.le_of_ble_eq_true rfl) rfl (fun x_84 hx_84 => ?_)
          refine z_iincN h 1 d_M_arc_87 rfl (by decide) (by decide) ?_
          refine z_goto (tgt := 15) h d_M_arc_90 (by decide) ?_
          refine z_lv h rfl (ih (k + 1) x_84.1 x_84.2 _ _ (by omega) (half_lt hxx.1 ht) hx_84 (Kp_un hK (Or.inl rfl)) ?_ ?_)
          · rw [un_eq, h3]
            rfl
          · rw [un_ne (by decide)]
            exact h5'
        have hp : c * pA S x k = c * pA S x k := rfl
        refine z_aload_n h d_M_arc_15 rfl ?_
        refine z_get (C := R_M) (T := F_M) (N := 10) h 1 d_M_arc_16 in_M rfl (by decide) wf_M_13 rfl rfl ?_
        refine z_iconst (v := nI 3) h d_M_arc_19 (by decide) ?_
        refine z_ialoadN h d_M_arc_20 rfl (by omega) ?_
        refine z_if_leN (tgt := 93) h d_M_arc_21 (by decide) (by omega) (fun c_21 => ?_) (fun c_21 => ?_)
        · exact absurd (a2.mp c_21) (by rw [h3]; exact ht0)
        · refine z_aload_n h d_M_arc_24 rfl ?_
          refine z_iconst (v := nI 4) h d_M_arc_25 (by decide) ?_
          refine z_iconst (v := nI 3) h d_M_arc_26 (by decide) ?_
          refine z_cM h (ms_M_copy e n' U l1 G 4 3 (by decide) (by decide) hV) (zf_M_copy (by decide)) wm_M_70 wi_M_copy ws_M_copy d_M_arc_27 (Nat.le_of_ble_eq_true rfl) rfl (fun x_27 hx_27 => ?_)
          rw [h3] at hx_27
          refine z_aload_n h d_M_arc_30 rfl ?_
          refine z_iconst (v := nI 4) h d_M_arc_31 (by decide) ?_
          refine z_ldc2_w (v := lN 2) h d_M_arc_32 wv_M_73 ?_
          refine z_iload h d_M_arc_35 rfl ?_
          refine z_i2lN h d_M_arc_37 (by omega) ?_
          refine z_lmulN h d_M_arc_38 ?_
          refine z_lconst (v := lN 1) h d_M_arc_39 (by decide) ?_
          refine z_laddN h d_M_arc_40 ?_
          refine z_cM h (ms_M_lower x_27.1 x_27.2 _ l1 G 4 (2 * k + 1) (by decide) hx_27 (by omega) (by omega)) (zf_M_lower (by decide)) wm_M_87 wi_M_lower ws_M_lower d_M_arc_41 (Nat.le_of_ble_eq_true rfl) rfl (fun x_41 hx_41 => ?_)
          rw [un_eq, un_un] at hx_41
          have hV4 : MV x_41.1 x_41.2 (un U 4 (pA S x k)) := hx_41
          rw [un_eq]
          generalize lN (tA S x k % (2 * k + 1)) = l2
          have g5 : un U 4 (pA S x k) 5 = U 5 := un_ne (by decide)
          have g4 : un U 4 (pA S x k) 4 = pA S x k := un_eq
          have Add : (U 5 : Int) + c * pA S x k = u + sg ls * (c * alt (pA S x) (k + 1)) → Z 0 0 (mW x_41.1 x_41.2 l2 G) [(0, .ref 0), (1, .long (lN x)), (3, .long (lN c)), (5, .int (nI ls)), (6, .int (nI k))] 62 [] := by
            intro hq
            have hle : U 5 + c * pA S x k < capM := by
              refine Nat.lt_of_le_of_lt ?_ hcap
              have : ((U 5 + c * pA S x k : Nat) : Int) ≤ ((u + 16 * S : Nat) : Int) := by
                rw [Int.natCast_add, Int.natCast_mul, hq]
                unfold sg
                split <;> omega
              omega
            refine z_aload_n h d_M_arc_62 rfl ?_
            refine z_iconst (v := nI 5) h d_M_arc_63 (by decide) ?_
            refine z_iconst (v := nI 4) h d_M_arc_64 (by decide) ?_
            refine z_lload_n h d_M_arc_65 rfl ?_
            refine z_cM h (ms_M_addTimes x_41.1 x_41.2 _ l2 G 5 4 c (by decide) (by decide) (by decide) hV4 (by omega) (by rw [g5, g4]; exact hle)) (zf_M_addTimes (by decide)) wm_M_50 wi_M_addTimes ws_M_addTimes d_M_arc_66 (Nat.le_of_ble_eq_true rfl) rfl (fun x_66 hx_66 => ?_)
            refine z_goto (tgt := 79) h d_M_arc_69 (by decide) ?_
            refine z_lv h rfl (Nx x_66.1 x_66.2 _ l2 hx_66 (Kp_un (Kp_un hK (Or.inr (Or.inl rfl))) (Or.inr (Or.inr rfl))) ?_ ?_)
            · rw [un_ne (by decide), un_ne (by decide)]
              exact h3
            · rw [un_eq, g5, g4, ← hq, Int.natCast_add, Int.natCast_mul]
          have Sub : (U 5 : Int) - c * pA S x k = u + sg ls * (c * alt (pA S x) (k + 1)) → Z 0 0 (mW x_41.1 x_41.2 l2 G) [(0, .ref 0), (1, .long (lN x)), (3, .long (lN c)), (5, .int (nI ls)), (6, .int (nI k))] 72 [] := by
            intro hq
            have hle : c * pA S x k ≤ U 5 := by
              have : (0 : Int) ≤ u + sg ls * (c * alt (pA S x) (k + 1)) := by
                unfold sg
                split
                · omega
                · have := hu (by omega)
                  omega
              rw [← hq, ← Int.natCast_mul] at this
              omega
            refine z_aload_n h d_M_arc_72 rfl ?_
            refine z_iconst (v := nI 5) h d_M_arc_73 (by decide) ?_
            refine z_iconst (v := nI 4) h d_M_arc_74 (by decide) ?_
            refine z_lload_n h d_M_arc_75 rfl ?_
            refine z_cM h (ms_M_lessTimes x_41.1 x_41.2 _ l2 G 5 4 c (by decide) (by decide) (by decide) hV4.1 (hV4.2 5 (by decide)) (hV4.2 4 (by decide)) (by omega) (by rw [g5, g4]; exact hle)) (zf_M_lessTimes (by decide)) wm_M_64 wi_M_lessTimes ws_M_lessTimes d_M_arc_76 (Nat.le_of_ble_eq_true rfl) rfl (fun x_76 hx_76 => ?_)
            have hV5 := MV_MU hV4 hx_76
            refine z_lv h rfl (Nx x_76.1 x_76.2 _ l2 hV5 (Kp_un (Kp_un hK (Or.inr (Or.inl rfl))) (Or.inr (Or.inr rfl))) ?_ ?_)
            · rw [un_ne (by decide), un_ne (by decide)]
              exact h3
            · rw [un_eq, g5, g4, ← hq, Int.ofNat_sub hle, Int.natCast_mul]
          have hs_49 : k < 2 ^ 31 ∧ 0 < 2 ∧ 2 < 2 ^ 31 := by omega
          have hpar : k % 2 < 2 := Nat.mod_lt _ (by decide)
          obtain ⟨hadd, hsub⟩ := sg_step (c := (c : Int)) (p := (pA S x k : Int)) hls h5' hst
          refine z_iload h d_M_arc_44 rfl ?_
          refine z_iload h d_M_arc_46 rfl ?_
          refine z_iconst (v := nI 2) h d_M_arc_48 (by decide) ?_
          refine z_iremN h d_M_arc_49 hs_49 ?_
          refine z_iconst (v := nI 1) h d_M_arc_50 (by decide) ?_
          refine z_icmp_neN (tgt := 58) h d_M_arc_51 (by decide) (by omega) (fun c_51 => ?_) (fun c_51 => ?_)
          · refine z_iconst (v := nI 0) h d_M_arc_58 (by decide) ?_
            refine z_icmp_neN (tgt := 72) h d_M_arc_59 (by decide) (by omega) (fun c_59 => ?_) (fun c_59 => ?_)
            · exact z_lv h rfl (Sub (hsub (by omega)))
            · exact z_lv h rfl (Add (hadd (by omega)))
          · refine z_iconst (v := nI 1) h d_M_arc_54 (by decide) ?_
            refine z_goto (tgt := 59) h d_M_arc_55 (by decide) ?_
            refine z_icmp_neN (tgt := 72) h d_M_arc_59 (by decide) (by omega) (fun c_59 => ?_) (fun c_59 => ?_)
            · exact z_lv h rfl (Sub (hsub (by omega)))
            · exact z_lv h rfl (Add (hadd (by omega)))
  refine z_aload_n h d_M_arc_0 rfl ?_
  refine z_iconst (v := nI 3) h d_M_arc_1 (by decide) ?_
  refine z_iconst (v := nI 2) h d_M_arc_2 (by decide) ?_
  refine z_cM h (ms_M_copy d n V lf G 3 2 (by decide) (by decide) hM) (zf_M_copy (by decide)) wm_M_70 wi_M_copy ws_M_copy d_M_arc_3 (Nat.le_of_ble_eq_true rfl) rfl (fun x_3 hx_3 => ?_)
  rw [h2] at hx_3
  refine z_aload_n h d_M_arc_6 rfl ?_
  refine z_iconst (v := nI 3) h d_M_arc_7 (by decide) ?_
  refine z_lload_n h d_M_arc_8 rfl ?_
  refine z_cM h (ms_M_lower x_3.1 x_3.2 _ lf G 3 x (by decide) hx_3 (by omega) (by omega)) (zf_M_lower (by decide)) wm_M_87 wi_M_lower ws_M_lower d_M_arc_9 (Nat.le_of_ble_eq_true rfl) rfl (fun x_9 hx_9 => ?_)
  rw [un_eq, un_un] at hx_9
  refine z_iconst (v := nI 0) h d_M_arc_12 (by decide) ?_
  refine z_istore h d_M_arc_13 (by decide) ?_
  refine z_lv h rfl (L (bl S) 0 x_9.1 x_9.2 _ _ rfl (Nat.lt_of_le_of_lt (Nat.div_le_self _ _) (bl_ub S)) hx_9 (Kp_un (fun j _ _ _ => rfl) (Or.inl rfl)) un_eq ?_)
  rw [un_ne (by decide), h5]
  show (u : Int) = u + sg ls * (c * 0)
  rw [Int.mul_zero, Int.mul_zero, Int.add_zero]
def tE (S : Nat) : Nat → Nat
  | 0 => S
  | k + 1 => tE S k / (k + 1)
def sE (S : Nat) : Nat → Nat
  | 0 => 0
  | k + 1 => sE S k + tE S k
theorem tE_le {S : Nat} : ∀ k, tE S k ≤ S
  | 0 => Nat.le_refl _
  | k + 1 => Nat.le_trans (Nat.div_le_self _ _) (tE_le k)
theorem sE_le {S : Nat} : ∀ k, sE S k ≤ k * S
  | 0 => Nat.zero_le _
  | k + 1 => by
    have h1 := @sE_le S k
    have h2 := @tE_le S k
    rw [Nat.add_mul, Nat.one_mul]
    exact Nat.add_le_add h1 h2
set_option maxRecDepth 100000 in
set_option maxHeartbeats 4000000 in
theorem ms_M_factorials (d n V : Nat → Nat) (lf : Int64) (G : MG) (S : Nat) (hM : MV d n V) (h2 : V 2 = S) (h5 : V 5 = 0) (hcap : 50000 * S < capM) : MS y_M_factorials c_M_factorials 2 (some .int) (rm 3) [.ref 0] (mW d n lf G) (zP (X := X4 × Nat) (fun q => some (.int (nI q.2))) (fun q => mW q.1.1 q.1.2.1 q.1.2.2.2 G) (fun q => MV q.1.1 q.1.2.1 q.1.2.2.1 ∧ Kp V q.1.2.2.1 ∧ q.2 ≤ bl S + 1 ∧ tE S q.2 = 0 ∧ q.1.2.2.1 5 = sE S q.2)) := by
  refine MS_of (own := R_M) (by decide) rfl (fun _ => Nat.le_of_ble_eq_true rfl) (fun Z h hr => ?_)
  have hbS := MV_bl hM (show 2 < 10 by decide)
  rw [h2] at hbS
  have L : ∀ (f k : Nat) (e n' U : Nat → Nat) (l1 : Int64), f + k = bl S + 1 → tE S k < 2 ^ f → (k = 0 → tE S k < 2 ^ (f - 1)) → MV e n' U → Kp V U → U 3 = tE S k → U 5 = sE S k → Z 0 0 (mW e n' l1 G) [(0, .ref 0), (1, .int (nI k))] 8 [] := by
    intro f
    have End : ∀ (k : Nat) (e n' U : Nat → Nat) (l1 : Int64), k ≤ bl S + 1 → tE S k = 0 → MV e n' U → Kp V U → U 3 = tE S k → U 5 = sE S k → Z 0 0 (mW e n' l1 G) [(0, .ref 0), (1, .int (nI k))] 8 [] := by
      intro k e n' U l1 hk ht hV hK h3 h5'
      obtain ⟨a1, a2⟩ := n3_iff hV
      refine z_aload_n h d_M_factorials_8 rfl ?_
      refine z_get (C := R_M) (T := F_M) (N := 10) h 1 d_M_factorials_9 in_M rfl (by decide) wf_M_13 rfl rfl ?_
      refine z_iconst (v := nI 3) h d_M_factorials_12 (by decide) ?_
      refine z_ialoadN h d_M_factorials_13 rfl (by omega) ?_
      refine z_if_leN (tgt := 37) h d_M_factorials_14 (by decide) (by omega) (fun c_14 => ?_) (fun c_14 => ?_)
      · refine z_iload_n h d_M_factorials_37 rfl ?_
        refine hr.1 _ _ _ _ _ _ (Nat.le_refl _) (Nat.le_refl _) rfl d_M_factorials_38 ?_
        exact ⟨((e, n', U, l1), k), rfl, rfl, hV, hK, hk, ht, h5'⟩
      · exact absurd (a2.mpr (by rw [h3, ht])) (by omega)
    induction f with
    | zero =>
      intro k e n' U l1 hf ht ht1 hV hK h3 h5'
      exact End k e n' U l1 (by omega) (by omega) hV hK h3 h5'
    | succ f ih =>
      intro k e n' U l1 hf ht ht1 hV hK h3 h5'
      by_cases ht0 : tE S k = 0
      · exact End k e n' U l1 (by omega) ht0 hV hK h3 h5'
      · obtain ⟨a1, a2⟩ := n3_iff hV
        have hcp : U 5 + 1 * U 3 < capM := by
          rw [h5', h3, Nat.one_mul]
          refine Nat.lt_of_le_of_lt (@sE_le S (k + 1)) (Nat.lt_of_le_of_lt (Nat.mul_le_mul_right S (show k + 1 ≤ 50000 by omega)) hcap)
        refine z_aload_n h d_M_factorials_8 rfl ?_
        refine z_get (C := R_M) (T := F_M) (N := 10) h 1 d_M_factorials_9 in_M rfl (by decide) wf_M_13 rfl rfl ?_
        refine z_iconst (v := nI 3) h d_M_factorials_12 (by decide) ?_
        refine z_ialoadN h d_M_factorials_13 rfl (by omega) ?_
        refine z_if_leN (tgt := 37) h d_M_factorials_14 (by decide) (by omega) (fun c_14 => ?_) (fun c_14 => ?_)
        · exact absurd (a2.mp c_14) (by rw [h3]; exact ht0)
        · refine z_aload_n h d_M_factorials_17 rfl ?_
          refine z_iconst (v := nI 5) h d_M_factorials_18 (by decide) ?_
          refine z_iconst (v := nI 3) h d_M_factorials_19 (by decide) ?_
          refine z_lconst (v := lN 1) h d_M_factorials_20 (by decide) ?_
          refine z_cM h (ms_M_addTimes e n' U l1 G 5 3 1 (by decide) (by decide) (by decide) hV (by decide) hcp) (zf_M_addTimes (by decide)) wm_M_50 wi_M_addTimes ws_M_addTimes d_M_factorials_21 (Nat.le_of_ble_eq_true rfl) rfl (fun x_21 hx_21 => ?_)
          rw [h5', h3, Nat.one_mul] at hx_21
          refine z_iincN h 1 d_M_factorials_24 rfl (by decide) (by decide) ?_
          refine z_aload_n h d_M_factorials_27 rfl ?_
          refine z_iconst (v := nI 3) h d_M_factorials_28 (by decide) ?_
          refine z_iload_n h d_M_factorials_29 rfl ?_
          refine z_i2lN h d_M_factorials_30 (by omega) ?_
          refine z_cM h (ms_M_lower x_21.1 x_21.2 _ l1 G 3 (k + 1) (by decide) hx_21 (by omega) (by omega)) (zf_M_lower (by decide)) wm_M_87 wi_M_lower ws_M_lower d_M_factorials_31 (Nat.le_of_ble_eq_true rfl) rfl (fun x_31 hx_31 => ?_)
          refine z_goto (tgt := 8) h d_M_factorials_34 (by decide) ?_
          refine z_lv h rfl (ih (k + 1) x_31.1 x_31.2 _ _ (by omega) ?_ (fun q => absurd q (by omega)) hx_31 (Kp_un (Kp_un hK (Or.inr (Or.inr rfl))) (Or.inl rfl)) ?_ ?_)
          · show tE S k / (k + 1) < 2 ^ f
            by_cases q : k = 0
            · subst q
              rw [Nat.div_one]
              exact ht1 rfl
            · exact half_lt (by omega) ht
          · rw [un_eq, un_ne (by decide), h3]
            rfl
          · rw [un_ne (by decide), un_eq]
            rfl
  refine z_aload_n h d_M_factorials_0 rfl ?_
  refine z_iconst (v := nI 3) h d_M_factorials_1 (by decide) ?_
  refine z_iconst (v := nI 2) h d_M_factorials_2 (by decide) ?_
  refine z_cM h (ms_M_copy d n V lf G 3 2 (by decide) (by decide) hM) (zf_M_copy (by decide)) wm_M_70 wi_M_copy ws_M_copy d_M_factorials_3 (Nat.le_of_ble_eq_true rfl) rfl (fun x_3 hx_3 => ?_)
  rw [h2] at hx_3
  refine z_iconst (v := nI 0) h d_M_factorials_6 (by decide) ?_
  refine z_istore_n h d_M_factorials_7 (by decide) ?_
  refine z_lv h rfl (L (bl S + 1) 0 x_3.1 x_3.2 _ _ rfl (Nat.lt_of_lt_of_le (bl_ub S) (Nat.pow_le_pow_right (by decide) (by omega))) (fun _ => by rw [Nat.add_sub_cancel]; exact bl_ub S) hx_3 (Kp_un (fun j _ _ _ => rfl) (Or.inl rfl)) un_eq ?_)
  rw [un_ne (by decide), h5]
  rfl
def tH (S : Nat) : Nat → Nat
  | 0 => S
  | k + 1 => tH S k / 2
def sH (S : Nat) : Nat → Nat
  | 0 => 0
  | k + 1 => sH S k + tH S (k + 1) / (k + 1)
theorem tH_le {S : Nat} : ∀ k, tH S k ≤ S
  | 0 => Nat.le_refl _
  | k + 1 => Nat.le_trans (Nat.div_le_self _ _) (tH_le k)
theorem sH_le {S : Nat} : ∀ k, sH S k ≤ k * S
  | 0 => Nat.zero_le _
  | k + 1 => by
    have h1 := @sH_le S k
    have h2 := Nat.le_trans (Nat.div_le_self (tH S (k + 1)) (k + 1)) (@tH_le S (k + 1))
    rw [Nat.add_mul, Nat.one_mul]
    exact Nat.add_le_add h1 h2
set_option maxRecDepth 100000 in
set_option maxHeartbeats 4000000 in
theorem ms_M_halves (d n V : Nat → Nat) (lf : Int64) (G : MG) (S : Nat) (hM : MV d n V) (h2 : V 2 = S) (h5 : V 5 = 0) (hcap : 50000 * S < capM) : MS y_M_halves c_M_halves 2 (some .int) (rm 3) [.ref 0] (mW d n lf G) (zP (X := X4 × Nat) (fun q => some (.int (nI q.2))) (fun q => mW q.1.1 q.1.2.1 q.1.2.2.2 G) (fun q => MV q.1.1 q.1.2.1 q.1.2.2.1 ∧ Kp V q.1.2.2.1 ∧ q.2 ≤ bl S ∧ tH S q.2 = 0 ∧ q.1.2.2.1 5 = sH S q.2)) := by
  refine MS_of (own := R_M) (by decide) rfl (fun _ => Nat.le_of_ble_eq_true rfl) (fun Z h hr => ?_)
  have hbS := MV_bl hM (show 2 < 10 by decide)
  rw [h2] at hbS
  have L : ∀ (f k : Nat) (e n' U : Nat → Nat) (l1 : Int64), f + k = bl S → tH S k < 2 ^ f → MV e n' U → Kp V U → U 3 = tH S k → U 5 = sH S k → Z 0 0 (mW e n' l1 G) [(0, .ref 0), (1, .int (nI k))] 8 [] := by
    intro f
    have End : ∀ (k : Nat) (e n' U : Nat → Nat) (l1 : Int64), k ≤ bl S → tH S k = 0 → MV e n' U → Kp V U → U 3 = tH S k → U 5 = sH S k → Z 0 0 (mW e n' l1 G) [(0, .ref 0), (1, .int (nI k))] 8 [] := by
      intro k e n' U l1 hk ht hV hK h3 h5'
      obtain ⟨a1, a2⟩ := n3_iff hV
      refine z_aload_n h d_M_halves_8 rfl ?_
      refine z_get (C := R_M) (T := F_M) (N := 10) h 1 d_M_halves_9 in_M rfl (by decide) wf_M_13 rfl rfl ?_
      refine z_iconst (v := nI 3) h d_M_halves_12 (by decide) ?_
      refine z_ialoadN h d_M_halves_13 rfl (by omega) ?_
      refine z_if_leN (tgt := 51) h d_M_halves_14 (by decide) (by omega) (fun c_14 => ?_) (fun c_14 => ?_)
      · refine z_iload_n h d_M_halves_51 rfl ?_
        refine hr.1 _ _ _ _ _ _ (Nat.le_refl _) (Nat.le_refl _) rfl d_M_halves_52 ?_
        exact ⟨((e, n', U, l1), k), rfl, rfl, hV, hK, hk, ht, h5'⟩
      · exact absurd (a2.mpr (by rw [h3, ht])) (by omega)
    induction f with
    | zero =>
      intro k e n' U l1 hf ht hV hK h3 h5'
      exact End k e n' U l1 (by omega) (by omega) hV hK h3 h5'
    | succ f ih =>
      intro k e n' U l1 hf ht hV hK h3 h5'
      by_cases ht0 : tH S k = 0
      · exact End k e n' U l1 (by omega) ht0 hV hK h3 h5'
      · obtain ⟨a1, a2⟩ := n3_iff hV
        have hcp : sH S k + 1 * (tH S (k + 1) / (k + 1)) < capM := by
          rw [Nat.one_mul]
          refine Nat.lt_of_le_of_lt (@sH_le S (k + 1)) (Nat.lt_of_le_of_lt (Nat.mul_le_mul_right S (show k + 1 ≤ 50000 by omega)) hcap)
        refine z_aload_n h d_M_halves_8 rfl ?_
        refine z_get (C := R_M) (T := F_M) (N := 10) h 1 d_M_halves_9 in_M rfl (by decide) wf_M_13 rfl rfl ?_
        refine z_iconst (v := nI 3) h d_M_halves_12 (by decide) ?_
        refine z_ialoadN h d_M_halves_13 rfl (by omega) ?_
        refine z_if_leN (tgt := 51) h d_M_halves_14 (by decide) (by omega) (fun c_14 => ?_) (fun c_14 => ?_)
        · exact absurd (a2.mp c_14) (by rw [h3]; exact ht0)
        · refine z_iincN h 1 d_M_halves_17 rfl (by decide) (by decide) ?_
          refine z_aload_n h d_M_halves_20 rfl ?_
          refine z_iconst (v := nI 3) h d_M_halves_21 (by decide) ?_
          refine z_ldc2_w (v := lN 2) h d_M_halves_22 wv_M_73 ?_
          refine z_cM h (ms_M_lower e n' U l1 G 3 2 (by decide) hV (by decide) (by decide)) (zf_M_lower (by decide)) wm_M_87 wi_M_lower ws_M_lower d_M_halves_25 (Nat.le_of_ble_eq_true rfl) rfl (fun x_25 hx_25 => ?_)
          rw [h3] at hx_25
          refine z_aload_n h d_M_halves_28 rfl ?_
          refine z_iconst (v := nI 4) h d_M_halves_29 (by decide) ?_
          refine z_iconst (v := nI 3) h d_M_halves_30 (by decide) ?_
          refine z_cM h (ms_M_copy x_25.1 x_25.2 _ _ G 4 3 (by decide) (by decide) hx_25) (zf_M_copy (by decide)) wm_M_70 wi_M_copy ws_M_copy d_M_halves_31 (Nat.le_of_ble_eq_true rfl) rfl (fun x_31 hx_31 => ?_)
          rw [un_eq] at hx_31
          refine z_aload_n h d_M_halves_34 rfl ?_
          refine z_iconst (v := nI 4) h d_M_halves_35 (by decide) ?_
          refine z_iload_n h d_M_halves_36 rfl ?_
          refine z_i2lN h d_M_halves_37 (by omega) ?_
          refine z_cM h (ms_M_lower x_31.1 x_31.2 _ _ G 4 (k + 1) (by decide) hx_31 (by omega) (by omega)) (zf_M_lower (by decide)) wm_M_87 wi_M_lower ws_M_lower d_M_halves_38 (Nat.le_of_ble_eq_true rfl) rfl (fun x_38 hx_38 => ?_)
          rw [un_eq, un_un] at hx_38
          have g5 : un (un U 3 (tH S k / 2)) 4 (tH S k / 2 / (k + 1)) 5 = sH S k := by rw [un_ne (by decide), un_ne (by decide)]; exact h5'
          refine z_aload_n h d_M_halves_41 rfl ?_
          refine z_iconst (v := nI 5) h d_M_halves_42 (by decide) ?_
          refine z_iconst (v := nI 4) h d_M_halves_43 (by decide) ?_
          refine z_lconst (v := lN 1) h d_M_halves_44 (by decide) ?_
          refine z_cM h (ms_M_addTimes x_38.1 x_38.2 _ _ G 5 4 1 (by decide) (by decide) (by decide) hx_38 (by decide) (by rw [g5, un_eq]; exact hcp)) (zf_M_addTimes (by decide)) wm_M_50 wi_M_addTimes ws_M_addTimes d_M_halves_45 (Nat.le_of_ble_eq_true rfl) rfl (fun x_45 hx_45 => ?_)
          refine z_goto (tgt := 8) h d_M_halves_48 (by decide) ?_
          refine z_lv h rfl (ih (k + 1) x_45.1 x_45.2 _ _ (by omega) (half_lt (by omega) ht) hx_45 (Kp_un (Kp_un (Kp_un hK (Or.inl rfl)) (Or.inr (Or.inl rfl))) (Or.inr (Or.inr rfl))) ?_ ?_)
          · rw [un_ne (by decide), un_ne (by decide), un_eq]
            rfl
          · rw [un_eq, g5, un_eq, Nat.one_mul]
            rfl
  refine z_aload_n h d_M_halves_0 rfl ?_
  refine z_iconst (v := nI 3) h d_M_halves_1 (by decide) ?_
  refine z_iconst (v := nI 2) h d_M_halves_2 (by decide) ?_
  refine z_cM h (ms_M_copy d n V lf G 3 2 (by decide) (by decide) hM) (zf_M_copy (by decide)) wm_M_70 wi_M_copy ws_M_copy d_M_halves_3 (Nat.le_of_ble_eq_true rfl) rfl (fun x_3 hx_3 => ?_)
  rw [h2] at hx_3
  refine z_iconst (v := nI 0) h d_M_halves_6 (by decide) ?_
  refine z_istore_n h d_M_halves_7 (by decide) ?_
  refine z_lv h rfl (L (bl S) 0 x_3.1 x_3.2 _ _ rfl (bl_ub S) hx_3 (Kp_un (fun j _ _ _ => rfl) (Or.inl rfl)) un_eq ?_)
  rw [un_ne (by decide), h5]
  rfl
