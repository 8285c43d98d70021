/-! further rows of V; small helps -/
def maskL (is : List Bool) (L : List (Option Value)) : List (Option Value) := List.zipWith (fun b v => if b then v else none) is L
theorem maskL_get {is : List Bool} {L : List (Option Value)} {i : Nat} {v : Value} (h : (maskL is L)[i]? = some (some v)) : L[i]? = some (some v) := by
  unfold maskL at h
  rw [List.getElem?_zipWith] at h
  cases h1 : is[i]? with
  | none => rw [h1] at h; cases h2 : L[i]? <;> rw [h2] at h <;> simp at h
  | some b =>
    cases h2 : L[i]? with
    | none => rw [h1, h2] at h; simp at h
    | some o =>
      rw [h1, h2] at h
      cases b with
      | false => simp at h
      | true => simpa using h
section VB
variable {K : KT} {S : SI} {k n : Nat} {ws : vWd} {L : List (Option Value)} {st : List Value} {pc : Nat}
theorem V_mask {L' : List (Option Value)} (is : List Bool) (h : maskL is L = L') (kk : V K S k n ws L' st pc) : V K S k n ws L st pc := by
  subst h
  obtain ⟨p, l, e, s, m, args, below, meth, c, D, cA, A, Q, E⟩ := K
  intro C H locs ls hP hD hS hl
  exact kk C H locs ls hP hD hS ⟨hl.1, hl.2.1, fun i v hv => hl.2.2 i v (maskL_get hv)⟩
theorem V_ifd_eq {P : Prop} [Decidable P] {off : Int} {tgt : Nat} (d : decode S.1 pc = .ok (.ifCond .eq off, 3)) (ht : (pc : Int) + off = (tgt : Int)) (k1 : ¬ P → V K S k n ws L st tgt) (k2 : P → V K S k n ws L st (pc + 3)) : V K S k n ws L (.int (zI (bz (decide P))) :: st) pc := V_ifb_eq d ht (fun h => k1 (of_decide_eq_false h)) (fun h => k2 (of_decide_eq_true h))
theorem V_ifd_ne {P : Prop} [Decidable P] {off : Int} {tgt : Nat} (d : decode S.1 pc = .ok (.ifCond .ne off, 3)) (ht : (pc : Int) + off = (tgt : Int)) (k1 : P → V K S k n ws L st tgt) (k2 : ¬ P → V K S k n ws L st (pc + 3)) : V K S k n ws L (.int (zI (bz (decide P))) :: st) pc := V_ifb_ne d ht (fun h => k1 (of_decide_eq_true h)) (fun h => k2 (of_decide_eq_false h))
end VB
theorem bzE {b b' : Bool} (h : b = b') : some (Value.int (zI (bz b))) = some (.int (zI (bz b'))) := h ▸ rfl
theorem bzT {P : Prop} [Decidable P] (h : P) : some (Value.int (zI (bz true))) = some (.int (zI (bz (decide P)))) := by rw [decide_eq_true h]
theorem bzF {P : Prop} [Decidable P] (h : ¬ P) : some (Value.int (zI (bz false))) = some (.int (zI (bz (decide P)))) := by rw [decide_eq_false h]
theorem bzD {P P' : Prop} [Decidable P] [Decidable P'] (h : P ↔ P') : some (Value.int (zI (bz (decide P)))) = some (.int (zI (bz (decide P')))) := by rw [decide_eq_decide.mpr h]
theorem ziE {x y : Int} (h : x = y) : some (Value.int (zI x)) = some (.int (zI y)) := h ▸ rfl
theorem mulB {a b A B : Int} (h0 : 0 ≤ a) (h1 : a ≤ A) (h2 : 0 ≤ b) (h3 : b ≤ B) : 0 ≤ a * b ∧ a * b ≤ A * B := ⟨Int.mul_nonneg h0 h2, Int.le_trans (Int.mul_le_mul_of_nonneg_right h1 h2) (Int.mul_le_mul_of_nonneg_left h3 (Int.le_trans h0 h1))⟩
-- the program's state as both sides have it: keys 0, 3 .. 10, 13 .. 15 of St
def PR (P σ : St) : Prop := ∀ k : Nat, k < 16 → k ≠ 1 → σ k = P k
theorem PR.up {P σ : St} (h : PR P σ) {k : Nat} {i v : Int} (hk : 16 ≤ k ∨ k = 1) : PR P (up σ k i v) := fun j h1 h2 => by rw [up_ne (by omega)]; exact h j h1 h2
def pt (P : St) : Int := P 0 0 * P 0 1
def al (P : St) : Int := P 0 2 * pt P
/-- what holds of a program's state at any time -/
def MI (P : St) : Prop := (1 ≤ P 0 0 ∧ P 0 0 ≤ 8) ∧ (1 ≤ P 0 1 ∧ P 0 1 ≤ 8) ∧ (0 ≤ P 0 2 ∧ P 0 2 ≤ 4) ∧ (0 ≤ P 0 11 ∧ P 0 11 ≤ 9) ∧ (0 ≤ P 0 12 ∧ P 0 12 ≤ 9) ∧
  (∀ s : Int, 0 ≤ s → s < 4 → (0 ≤ P 3 s ∧ P 3 s ≤ 99) ∧ (0 ≤ P 4 s ∧ P 4 s ≤ 4) ∧ (P 9 s = 0 ∨ P 9 s = 1) ∧ (0 ≤ P 10 s ∧ P 10 s ≤ 30) ∧ (P 13 s = 0 ∨ (P 13 s = 1 ∧ 1 ≤ P 14 s ∧ P 14 s ≤ 99) ∨ (P 13 s = 2 ∧ 1 ≤ P 14 s ∧ P 14 s ≤ 99 ∧ 1 ≤ P 15 s ∧ P 15 s ≤ 99) ∨ (P 13 s = 3 ∧ 0 ≤ P 14 s ∧ P 14 s ≤ 9 ∧ 1 ≤ P 15 s ∧ P 15 s ≤ 99)) ∧ (P 0 2 ≤ s → P 4 s = 0 ∧ P 9 s = 0 ∧ P 10 s = 0)) ∧
  (∀ s j : Int, 0 ≤ s → s < 4 → 0 ≤ j → j < P 4 s → (0 ≤ P 5 (4 * s + j) ∧ P 5 (4 * s + j) < P 0 2) ∧ (1 ≤ P 6 (4 * s + j) ∧ P 6 (4 * s + j) ≤ 9) ∧ (0 ≤ P 7 (4 * s + j) ∧ P 7 (4 * s + j) ≤ 3) ∧ (-3 ≤ P 8 (4 * s + j) ∧ P 8 (4 * s + j) ≤ 3))
theorem MI.pts {P : St} (h : MI P) : 1 ≤ pt P ∧ pt P ≤ 64 := by
  have h1 := mulB (a := P 0 0) (b := P 0 1) (A := 8) (B := 8) (by have := h.1; omega) h.1.2 (by have := h.2.1; omega) h.2.1.2
  have h2 : 1 * 1 ≤ P 0 0 * P 0 1 := Int.mul_le_mul h.1.1 h.2.1.1 (by decide) (by have := h.1; omega)
  unfold pt
  omega
theorem MI.als {P : St} (h : MI P) : 0 ≤ al P ∧ al P ≤ 256 := by
  have h1 := mulB (a := P 0 2) (b := pt P) (A := 4) (B := 64) h.2.2.1.1 h.2.2.1.2 (by have := h.pts; omega) h.pts.2
  unfold al
  omega
