/-! the constants' numbers, to be worked out by the kernel -/
def frc {α : Type} (n : Nat) (f : Nat → α) : α := Nat.rec (motive := fun _ => α) (f 0) (fun k _ => f (Nat.succ k)) n
theorem frc_eq {α : Type} {n : Nat} {f : Nat → α} : frc n f = f n := by cases n <;> rfl
/-- cnt steps from the index k on; every number is worked out before it is handed on -/
def itk (f1 f2 : Nat → Nat → Nat → Nat) (cnt : Nat) : Nat → Nat → Nat → Nat × Nat := Nat.rec (motive := fun _ => Nat → Nat → Nat → Nat × Nat) (fun _ a b => (a, b)) (fun _ ih k a b => frc (f1 k a b) (fun a' => frc (f2 k a b) (fun b' => frc (Nat.succ k) (fun k' => ih k' a' b')))) cnt
theorem itk_s {f1 f2 : Nat → Nat → Nat → Nat} {c k a b : Nat} : itk f1 f2 (c + 1) k a b = frc (f1 k a b) (fun a' => frc (f2 k a b) (fun b' => frc (Nat.succ k) (fun k' => itk f1 f2 c k' a' b'))) := rfl
theorem itk_eq {f1 f2 : Nat → Nat → Nat → Nat} {A B : Nat → Nat} (hA : ∀ k, A (k + 1) = f1 k (A k) (B k)) (hB : ∀ k, B (k + 1) = f2 k (A k) (B k)) : ∀ (c k : Nat), itk f1 f2 c k (A k) (B k) = (A (k + c), B (k + c))
  | 0, k => rfl
  | c + 1, k => by
    rw [itk_s, frc_eq, frc_eq, frc_eq, ← hA, ← hB]
    have := itk_eq hA hB c (k + 1)
    rw [show k + 1 + c = k + (c + 1) by omega] at this
    exact this
def ito (f1 f2 : Nat → Nat → Nat → Nat) (m : Nat) (cnt : Nat) : Nat → Nat → Nat → Nat × Nat := Nat.rec (motive := fun _ => Nat → Nat → Nat → Nat × Nat) (fun _ a b => (a, b)) (fun _ ih k a b => frc (itk f1 f2 m k a b).1 (fun a' => frc (itk f1 f2 m k a b).2 (fun b' => frc (k + m) (fun k' => ih k' a' b')))) cnt
theorem ito_s {f1 f2 : Nat → Nat → Nat → Nat} {m c k a b : Nat} : ito f1 f2 m (c + 1) k a b = frc (itk f1 f2 m k a b).1 (fun a' => frc (itk f1 f2 m k a b).2 (fun b' => frc (k + m) (fun k' => ito f1 f2 m c k' a' b'))) := rfl
theorem ito_eq {f1 f2 : Nat → Nat → Nat → Nat} {m : Nat} {A B : Nat → Nat} (hA : ∀ k, A (k + 1) = f1 k (A k) (B k)) (hB : ∀ k, B (k + 1) = f2 k (A k) (B k)) : ∀ (c k : Nat), ito f1 f2 m c k (A k) (B k) = (A (k + m * c), B (k + m * c))
  | 0, k => rfl
  | c + 1, k => by
    rw [ito_s, frc_eq, frc_eq, frc_eq, itk_eq hA hB]
    have := ito_eq (m := m) hA hB c (k + m)
    rw [show k + m + m * c = k + m * (c + 1) by rw [Nat.mul_succ]; omega] at this
    exact this
def qM : Nat := 3 ^ 13401
/-- a series from its far end: j steps from K down -/
def dn (f : Nat → Nat → Nat) (K : Nat) : Nat → Nat
  | 0 => 0
  | j + 1 => f (K - j) (dn f K j)
def dnG (f : Nat → Nat → Nat) (K k : Nat) : Nat := dn f K (K - k)
theorem dnG_eq {f : Nat → Nat → Nat} {K k : Nat} (h : k < K) : dnG f K k = f (k + 1) (dnG f K (k + 1)) := by
  unfold dnG
  rw [show K - k = K - (k + 1) + 1 by omega]
  show f (K - (K - (k + 1))) _ = _
  rw [show K - (K - (k + 1)) = k + 1 by omega]
theorem dnG_top {f : Nat → Nat → Nat} {K : Nat} : dnG f K K = 0 := by
  unfold dnG
  rw [Nat.sub_self]
  rfl
/-- the same, worked out -/
def dnK (f : Nat → Nat → Nat) (K c : Nat) : Nat := (ito (fun j a _ => f (K - j) a) (fun _ _ _ => 0) 50 c 0 0 0).1
theorem dnK_eq {f : Nat → Nat → Nat} {K c : Nat} (h : 50 * c = K) : dnG f K 0 = dnK f K c := by
  unfold dnK dnG
  have e := ito_eq (f1 := fun j a _ => f (K - j) a) (f2 := fun _ _ _ => 0) (m := 50) (A := dn f K) (B := fun _ => 0) (fun _ => rfl) (fun _ => rfl) c 0
  rw [Nat.zero_add, h] at e
  rw [Nat.sub_zero]
  show _ = (ito (fun j a _ => f (K - j) a) (fun _ _ _ => 0) 50 c 0 (dn f K 0) 0).1
  rw [e]
def fA (x k m : Nat) : Nat := (m + qM) * (2 * k) / ((2 * k + 1) * x)
def fE (k m : Nat) : Nat := (m + qM) / k
def fL (k m : Nat) : Nat := (qM - m) * k / (4 * (2 * k + 1))
def fZ (k m : Nat) : Nat := hz qM m k
