/-! differences of cells in conflict; the least windows -/
/-- two places of a statement, x before y, whose cells are in conflict -/
def DP (P : St) (bw cw s x y : Int) : Prop := 0 ≤ x ∧ x < y ∧ y < pt P ∧ cf P bw cw (s * pt P + x) (s * pt P + y) = true
def dR (P : St) (x y : Int) : Int := y / P 0 1 - x / P 0 1
def dC (P : St) (x y : Int) : Int := y % P 0 1 - x % P 0 1
def di (P : St) (x y : Int) : Int := 15 * (y / P 0 1 - x / P 0 1) + y % P 0 1 - x % P 0 1 + 7
theorem d_b {P : St} (hM : MI P) {x y : Int} (hx : 0 ≤ x) (hxy : x < y) (hy : y < pt P) : (0 ≤ dR P x y ∧ dR P x y < P 0 0) ∧ (-(P 0 1) < dC P x y ∧ dC P x y < P 0 1) ∧ dR P x y * P 0 1 + dC P x y = y - x ∧ di P x y = 15 * dR P x y + dC P x y + 7 := by
  obtain ⟨a1, a2, a3, a4, a5⟩ := place_rc hM hx (show x < pt P by omega)
  obtain ⟨b1, b2, b3, b4, b5⟩ := place_rc hM (show 0 ≤ y by omega) hy
  have h := Int.ediv_le_ediv (show 0 < P 0 1 by have := hM.2.1; omega) (show x ≤ y by omega)
  unfold dR dC di
  refine ⟨⟨by omega, by omega⟩, ⟨by omega, by omega⟩, ?_, by omega⟩
  rw [Int.sub_mul, Int.mul_comm, Int.mul_comm (x / P 0 1)]
  omega
theorem di_b {P : St} (hM : MI P) {x y : Int} (hx : 0 ≤ x) (hxy : x < y) (hy : y < pt P) : (0 ≤ di P x y ∧ di P x y < 225) ∧ di P x y / 15 = dR P x y ∧ di P x y % 15 - 7 = dC P x y := by
  obtain ⟨h1, h2, h3, h4⟩ := d_b hM hx hxy hy
  have hR := hM.1
  have hC := hM.2.1
  refine ⟨⟨by omega, by omega⟩, by omega, by omega⟩
def DQ (P : St) (bw cw s i : Int) : Prop := ∃ x y, DP P bw cw s x y ∧ di P x y = i
/-- the differences are found, in the reference's array -/
def Diff (P : St) (bw cw s : Int) (σ : St) : Prop := ∀ i, 0 ≤ i → i < 225 → σ 24 i = bz (dcd (DQ P bw cw s i))
theorem bd_up {f : Int → Int} {Q Q2 : Int → Prop} {i0 n : Int} (h : ∀ i, 0 ≤ i → i < n → f i = bz (dcd (Q i))) (hq : ∀ i, Q2 i ↔ (Q i ∨ i = i0)) : ∀ i, 0 ≤ i → i < n → fup f i0 1 i = bz (dcd (Q2 i)) := by
  intro i a b
  by_cases e : i = i0
  · rw [e, fup_eq, dcd_t.mpr ((hq i0).mpr (Or.inr rfl))]; rfl
  · rw [fup_ne e, h i a b, dcd_congr (show Q i ↔ Q2 i from ⟨fun z => (hq i).mpr (Or.inl z), fun z => ((hq i).mp z).resolve_right e⟩)]
theorem bd_keep {f : Int → Int} {Q Q2 : Int → Prop} {n : Int} (h : ∀ i, 0 ≤ i → i < n → f i = bz (dcd (Q i))) (hq : ∀ i, Q2 i ↔ Q i) : ∀ i, 0 ≤ i → i < n → f i = bz (dcd (Q2 i)) := fun i a b => by rw [h i a b, dcd_congr (hq i)]
theorem bd_none {f : Int → Int} {Q : Int → Prop} {n : Int} (h : ∀ i, 0 ≤ i → i < n → f i = 0) (hq : ∀ i, ¬ Q i) : ∀ i, 0 ≤ i → i < n → f i = bz (dcd (Q i)) := fun i a b => by rw [h i a b, dcd_f.mpr (hq i)]; rfl
/-- which windows are right -/
def rOK (P : St) (bw cw s m : Int) : Prop := ∀ x y, DP P bw cw s x y → Int.tmod (y - x) m ≠ 0
def tOK (P : St) (bw cw s a b : Int) : Prop := ∀ x y, DP P bw cw s x y → ¬ (Int.tmod (dR P x y) a = 0 ∧ Int.tmod (dC P x y) b = 0)
def sOK (P : St) (bw cw s sl m : Int) : Prop := ∀ x y, DP P bw cw s x y → Int.tmod (dR P x y + dC P x y * sl) m ≠ 0
theorem tmod_small {a b : Int} (h1 : -b < a) (h2 : a < b) : Int.tmod a b = a := by
  by_cases h : 0 ≤ a
  · exact Int.tmod_eq_of_lt h h2
  · have e : a = -(-a) := by omega
    rw [e, Int.neg_tmod, Int.tmod_eq_of_lt (by omega) (by omega)]
theorem rOK_64 {P : St} (hM : MI P) (bw cw s : Int) : rOK P bw cw s 64 := fun x y h => by
  have := hM.pts
  obtain ⟨h1, h2, h3, -⟩ := h
  rw [tmod_small (by omega) (by omega)]; omega
theorem tOK_RC {P : St} (hM : MI P) (bw cw s : Int) : tOK P bw cw s (P 0 0) (P 0 1) := fun x y h => by
  obtain ⟨h1, h2, h3, -⟩ := h
  obtain ⟨a1, a2, a3, -⟩ := d_b hM h1 h2 h3
  rw [tmod_small (by omega) (by omega), tmod_small (by omega) (by omega)]
  rintro ⟨e1, e2⟩
  rw [e1, e2] at a3
  omega
theorem sOK_R {P : St} (hM : MI P) (bw cw s : Int) : sOK P bw cw s (P 0 0) (pt P) := fun x y h => by
  obtain ⟨h1, h2, h3, -⟩ := h
  obtain ⟨a1, a2, a3, -⟩ := d_b hM h1 h2 h3
  have hR := hM.1
  have hC := hM.2.1
  have e : pt P = P 0 1 * P 0 0 := Int.mul_comm _ _
  have m1 : dC P x y * P 0 0 ≤ (P 0 1 - 1) * P 0 0 := Int.mul_le_mul_of_nonneg_right (by omega) (by omega)
  have m2 : (-(P 0 1) + 1) * P 0 0 ≤ dC P x y * P 0 0 := Int.mul_le_mul_of_nonneg_right (by omega) (by omega)
  rw [Int.sub_mul, Int.one_mul] at m1
  rw [Int.add_mul, Int.one_mul, Int.neg_mul] at m2
  rw [tmod_small (by omega) (by omega)]
  intro z
  have hz : dC P x y = 0 := by
    rcases Int.lt_trichotomy (dC P x y) 0 with q | q | q
    · have : dC P x y * P 0 0 ≤ (-1) * P 0 0 := Int.mul_le_mul_of_nonneg_right (by omega) (by omega)
      omega
    · exact q
    · have : 1 * P 0 0 ≤ dC P x y * P 0 0 := Int.mul_le_mul_of_nonneg_right (by omega) (by omega)
      omega
  rw [hz] at z a3
  rw [Int.zero_mul] at z
  rw [show dR P x y = 0 by omega] at a3
  omega
theorem rOK_DQ {P : St} (hM : MI P) {bw cw s m : Int} : rOK P bw cw s m ↔ ∀ i, 0 ≤ i → i < 225 → ¬ (DQ P bw cw s i ∧ Int.tmod (i / 15 * P 0 1 + i % 15 - 7) m = 0) := by
  constructor
  · rintro h i - - ⟨⟨x, y, h1, rfl⟩, h2⟩
    obtain ⟨b1, b2, b3⟩ := di_b hM h1.1 h1.2.1 h1.2.2.1
    have d := d_b hM h1.1 h1.2.1 h1.2.2.1
    rw [b2, show dR P x y * P 0 1 + di P x y % 15 - 7 = y - x by omega] at h2
    exact h x y h1 h2
  · intro h x y h1 h2
    obtain ⟨b1, b2, b3⟩ := di_b hM h1.1 h1.2.1 h1.2.2.1
    have d := d_b hM h1.1 h1.2.1 h1.2.2.1
    exact h _ b1.1 b1.2 ⟨⟨x, y, h1, rfl⟩, by rw [b2, show dR P x y * P 0 1 + di P x y % 15 - 7 = y - x by omega]; exact h2⟩
theorem tOK_DQ {P : St} (hM : MI P) {bw cw s a b : Int} : tOK P bw cw s a b ↔ ∀ i, 0 ≤ i → i < 225 → ¬ (DQ P bw cw s i ∧ Int.tmod (i / 15) a = 0 ∧ Int.tmod (i % 15 - 7) b = 0) := by
  constructor
  · rintro h i - - ⟨⟨x, y, h1, rfl⟩, h2⟩
    obtain ⟨b1, b2, b3⟩ := di_b hM h1.1 h1.2.1 h1.2.2.1
    rw [b2, b3] at h2
    exact h x y h1 h2
  · intro h x y h1 h2
    obtain ⟨b1, b2, b3⟩ := di_b hM h1.1 h1.2.1 h1.2.2.1
    exact h _ b1.1 b1.2 ⟨⟨x, y, h1, rfl⟩, by rw [b2, b3]; exact h2⟩
theorem sOK_DQ {P : St} (hM : MI P) {bw cw s sl m : Int} : sOK P bw cw s sl m ↔ ∀ i, 0 ≤ i → i < 225 → ¬ (DQ P bw cw s i ∧ Int.tmod (i / 15 + (i % 15 - 7) * sl) m = 0) := by
  constructor
  · rintro h i - - ⟨⟨x, y, h1, rfl⟩, h2⟩
    obtain ⟨b1, b2, b3⟩ := di_b hM h1.1 h1.2.1 h1.2.2.1
    rw [b2, b3] at h2
    exact h x y h1 h2
  · intro h x y h1 h2
    obtain ⟨b1, b2, b3⟩ := di_b hM h1.1 h1.2.1 h1.2.2.1
    exact h _ b1.1 b1.2 ⟨⟨x, y, h1, rfl⟩, by rw [b2, b3]; exact h2⟩
/-- the least number with p, from lo on -/
def IsLst (p : Int → Prop) (lo m : Int) : Prop := lo ≤ m ∧ p m ∧ ∀ j, lo ≤ j → j < m → ¬ p j
noncomputable def lst (p : Int → Prop) (lo : Int) : Int := @dite Int (∃ m, IsLst p lo m) (Classical.propDecidable _) (fun h => Classical.choose h) (fun _ => 0)
theorem IsLst.uniq {p : Int → Prop} {lo m m2 : Int} (h1 : IsLst p lo m) (h2 : IsLst p lo m2) : m = m2 := by
  rcases Int.lt_trichotomy m m2 with h | h | h
  · exact absurd h1.2.1 (h2.2.2 m h1.1 h)
  · exact h
  · exact absurd h2.2.1 (h1.2.2 m2 h2.1 h)
theorem lst_eq {p : Int → Prop} {lo m : Int} (h : IsLst p lo m) : m = lst p lo := by
  unfold lst
  rw [dif_pos ⟨m, h⟩]
  exact h.uniq (Classical.choose_spec ⟨m, h⟩)
theorem IsLst.ex {p : Int → Prop} {lo : Int} : ∀ n, 0 ≤ n → p (lo + n) → ∃ m, IsLst p lo m ∧ m ≤ lo + n := by
  have key : ∀ n : Nat, ∀ k : Nat, k ≤ n → p (lo + k) → ∃ m, IsLst p lo m ∧ m ≤ lo + k := by
    intro n
    induction n with
    | zero => exact fun k hk hp => ⟨lo + k, ⟨by omega, hp, fun j a b => by omega⟩, by omega⟩
    | succ n ih =>
      intro k hk hp
      by_cases h : ∃ j : Nat, j < k ∧ p (lo + j)
      · obtain ⟨j, h1, h2⟩ := h
        obtain ⟨m, a, b⟩ := ih j (by omega) h2
        exact ⟨m, a, by omega⟩
      · refine ⟨lo + k, ⟨by omega, hp, fun j a b z => h ⟨(j - lo).toNat, by omega, ?_⟩⟩, by omega⟩
        rw [show lo + ((j - lo).toNat : Int) = j by omega]; exact z
  intro n hn hp
  obtain ⟨m, a, b⟩ := key n.toNat n.toNat (Nat.le_refl _) (by rw [Int.toNat_of_nonneg hn]; exact hp)
  exact ⟨m, a, by omega⟩
theorem lst_spec {p : Int → Prop} {lo n : Int} (hn : 0 ≤ n) (h : p (lo + n)) : IsLst p lo (lst p lo) ∧ lst p lo ≤ lo + n := by
  obtain ⟨m, a, b⟩ := IsLst.ex n hn h
  rw [← lst_eq a]
  exact ⟨a, b⟩
noncomputable def lr (P : St) (bw cw s : Int) : Int := lst (rOK P bw cw s) 1
theorem lr_b {P : St} (hM : MI P) (bw cw s : Int) : 1 ≤ lr P bw cw s ∧ lr P bw cw s ≤ 64 := by
  have h := lst_spec (p := rOK P bw cw s) (lo := 1) (n := 63) (by omega) (rOK_64 hM bw cw s)
  exact ⟨h.1.1, by have := h.2; unfold lr; omega⟩
/-- the least right two-rest window: fewest places, then the least row modulus -/
def IsTwo (P : St) (bw cw s a b : Int) : Prop := ((1 ≤ a ∧ a ≤ P 0 0) ∧ (1 ≤ b ∧ b ≤ P 0 1)) ∧ tOK P bw cw s a b ∧ ∀ a2 b2, (1 ≤ a2 ∧ a2 ≤ P 0 0) → (1 ≤ b2 ∧ b2 ≤ P 0 1) → tOK P bw cw s a2 b2 → (a * b < a2 * b2 ∨ (a * b = a2 * b2 ∧ a ≤ a2))
theorem IsTwo.uniq {P : St} {bw cw s a b a2 b2 : Int} (h1 : IsTwo P bw cw s a b) (h2 : IsTwo P bw cw s a2 b2) : a = a2 ∧ b = b2 := by
  have x1 := h1.2.2 a2 b2 h2.1.1 h2.1.2 h2.2.1
  have x2 := h2.2.2 a b h1.1.1 h1.1.2 h1.2.1
  have e : a = a2 := by omega
  subst e
  have e2 : a * b = a * b2 := by omega
  exact ⟨rfl, Int.eq_of_mul_eq_mul_left (by have := h1.1.1; omega) e2⟩
noncomputable def tw1 (P : St) (bw cw s : Int) : Int := @dite Int (∃ a b, IsTwo P bw cw s a b) (Classical.propDecidable _) (fun h => Classical.choose h) (fun _ => 0)
noncomputable def tw2 (P : St) (bw cw s : Int) : Int := @dite Int (∃ b, IsTwo P bw cw s (tw1 P bw cw s) b) (Classical.propDecidable _) (fun h => Classical.choose h) (fun _ => 0)
theorem two_eq {P : St} {bw cw s a b : Int} (h : IsTwo P bw cw s a b) : a = tw1 P bw cw s ∧ b = tw2 P bw cw s := by
  have e1 : a = tw1 P bw cw s := by
    unfold tw1
    rw [dif_pos ⟨a, b, h⟩]
    obtain ⟨b2, h2⟩ := Classical.choose_spec (⟨a, b, h⟩ : ∃ a b, IsTwo P bw cw s a b)
    exact (h.uniq h2).1
  refine ⟨e1, ?_⟩
  have h3 : IsTwo P bw cw s (tw1 P bw cw s) b := e1 ▸ h
  unfold tw2
  rw [dif_pos ⟨b, h3⟩]
  exact (h3.uniq (Classical.choose_spec ⟨b, h3⟩)).2
noncomputable def ls (P : St) (bw cw s : Int) : Int := lst (fun k => sOK P bw cw s (k % 10) (k / 10)) 10
theorem ls_spec {P : St} (hM : MI P) (bw cw s : Int) : IsLst (fun k => sOK P bw cw s (k % 10) (k / 10)) 10 (ls P bw cw s) ∧ ls P bw cw s ≤ 10 * pt P + P 0 0 := by
  have hR := hM.1
  have hp := hM.pts
  have h := lst_spec (p := fun k => sOK P bw cw s (k % 10) (k / 10)) (lo := 10) (n := 10 * pt P + P 0 0 - 10) (by omega) (by
    rw [show 10 + (10 * pt P + P 0 0 - 10) = 10 * pt P + P 0 0 by omega, show (10 * pt P + P 0 0) % 10 = P 0 0 by omega, show (10 * pt P + P 0 0) / 10 = pt P by omega]
    exact sOK_R hM bw cw s)
  exact ⟨h.1, by have := h.2; unfold ls; omega⟩
