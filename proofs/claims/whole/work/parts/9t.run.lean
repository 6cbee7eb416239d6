def S0 (a b : Nat) : Int := if a = 1 ∧ b = 1 then 2 else 0
def zf (_ : Nat) : Int := 0
def z_v : Value → Value → Bool
  | .int a, .int b => a == b
  | .long a, .long b => a == b
  | .ref a, .ref b => a == b
  | .null, .null => true
  | _, _ => false
theorem z_v_eq : ∀ a b, z_v a b = true → a = b := by
  intro a b h
  unfold z_v at h
  split at h
  · rw [beq_iff_eq.mp h]
  · rw [beq_iff_eq.mp h]
  · rw [beq_iff_eq.mp h]
  · rfl
  · cases h
def z_l : List Value → List Value → Bool
  | [], [] => true
  | a :: s, b :: t => z_v a b && z_l s t
  | _, _ => false
theorem z_l_eq : ∀ a b, z_l a b = true → a = b := by
  intro a
  induction a with
  | nil => intro b h; cases b with
    | nil => rfl
    | cons _ _ => cases h
  | cons x s ih => intro b h; cases b with
    | nil => cases h
    | cons y t =>
      have h1 : (z_v x y && z_l s t) = true := h
      rw [Bool.and_eq_true] at h1
      rw [z_v_eq _ _ h1.1, ih _ h1.2]
def z_h : am_H → am_H → Bool
  | [], [] => true
  | a :: s, b :: t => a.1 == b.1 && z_l a.2 b.2 && z_h s t
  | _, _ => false
theorem z_h_eq : ∀ a b, z_h a b = true → a = b := by
  intro a
  induction a with
  | nil => intro b h; cases b with
    | nil => rfl
    | cons _ _ => cases h
  | cons x s ih => intro b h; cases b with
    | nil => cases h
    | cons y t =>
      have h1 : (x.1 == y.1 && z_l x.2 y.2 && z_h s t) = true := h
      rw [Bool.and_eq_true, Bool.and_eq_true] at h1
      have e1 : x = y := Prod.ext (beq_iff_eq.mp h1.1.1) (z_l_eq _ _ h1.1.2)
      rw [e1, ih _ h1.2]
def z_is (r : am_R) (H : am_H) : Bool := match r with
  | some (none, A) => z_h A H
  | _ => false
theorem z_is_eq {r : am_R} {H : am_H} (h : z_is r H = true) : r = some (none, H) := by
  unfold z_is at h
  split at h
  · rw [z_h_eq _ _ h]
  · cases h
def zB : am_H := [ob 10 12 (gX 4 13 0), ob 7 2 (gT 0), ar 80 zf, ob 8 14 (gW 4 2 0 0 0 0 0), ar 8 zf, ar 8 zf, ar 8 zf, ar 8 zf, ar 6 zf, ar 6 zf, ar 6 zf, ar 36 zf, ob 8 14 (gW 13 2 0 0 0 0 0), ar 8 zf, ar 8 zf, ar 8 zf, ar 8 zf, ar 6 zf, ar 6 zf, ar 6 zf, ar 36 zf, ob 6 3 (gS 22), ar 6 zf, ar 6 zf, ar 6 zf, ob 0 2 (gA 0), aq 103 12 (fun j => 28 + 4 * j), ob 6 3 (gS 28), ar 6 zf, ar 6 zf, ar 6 zf, ob 6 3 (gS 32), ar 6 zf, ar 6 zf, ar 6 zf, ob 6 3 (gS 36), ar 6 zf, ar 6 zf, ar 6 zf, ob 6 3 (gS 40), ar 6 zf, ar 6 zf, ar 6 zf, ob 6 3 (gS 44), ar 6 zf, ar 6 zf, ar 6 zf, ob 6 3 (gS 48), ar 6 zf, ar 6 zf, ar 6 zf, ob 6 3 (gS 52), ar 6 zf, ar 6 zf, ar 6 zf, ob 6 3 (gS 56), ar 6 zf, ar 6 zf, ar 6 zf, ob 6 3 (gS 60), ar 6 zf, ar 6 zf, ar 6 zf, ob 6 3 (gS 64), ar 6 zf, ar 6 zf, ar 6 zf, ob 6 3 (gS 68), ar 6 zf, ar 6 zf, ar 6 zf, ob 6 3 (gS 72), ar 6 zf, ar 6 zf, ar 6 zf, aq 104 2 (fun j => 95 + 5 * j), ob 2 3 (gS 77), ar 6 zf, ar 6 zf, ar 72 zf, ob 3 7 (gM 0 0 0 0), ar 6 zf, ar 204 zf, ar 6 zf, ob 1 2 (gS 85), ar 6 zf, ar 6 zf, ob 4 4 (gE 0), ar 8 zf, ar 8 zf, az 8 zf, ob 9 2 (gS 92), al 9 (fun _ => 0), al 9 (fun _ => 0), ob 5 2 (gL 96 0), ob 6 3 (gS 96), ar 6 zf, ar 6 zf, ar 6 zf, ob 5 2 (gL 101 0), ob 6 3 (gS 101), ar 6 zf, ar 6 zf, ar 6 zf]
theorem z_run70 : z_is (am_ex 20000 (999, 70, 0, am_lo 70 [.ref 1], [], [(300, []), (10, am_blank.getD 10 [])])) ((300, []) :: zB) = true := by decide +kernel
