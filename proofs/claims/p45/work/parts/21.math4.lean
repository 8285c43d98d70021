/-! how many live; pairs -/
theorem ct_single {p : Int → Bool} {i : Int} (hi : 0 ≤ i) : ∀ k, 0 ≤ k → i < k → (∀ j, 0 ≤ j → j < k → p j = true → j = i) → ct p k = bz (p i) := by
  refine int_ind (fun h => absurd h (by omega)) (fun k hk ih h1 h => ?_)
  rw [ct_s p hk]
  by_cases e : i = k
  · subst e
    rw [ct_none i hk (fun j a b => Bool.eq_false_iff.mpr fun z => by have := h j a (by omega) z; omega)]; omega
  · rw [ih (by omega) (fun j a b c => h j a (by omega) c), show p k = false from Bool.eq_false_iff.mpr fun z => e (h k hk (by omega) z).symm]
    simp [bz]
theorem ct_perm {T : Int → Int} {n : Int} (hn : 0 ≤ n) (q : Int → Bool) : ct (fun t => q (atR T n t)) n = ct q n := by
  have key : ∀ m, 0 ≤ m → m ≤ n → ct (fun k => q k && decide (rk T n k < m)) n = ct (fun t => q (atR T n t)) m := by
    refine int_ind (fun _ => ?_) (fun m hm ih h => ?_)
    · rw [ct_0 (fun t => q (atR T n t)) (by omega)]
      exact ct_none n hn (fun j a b => by have := rk_b (T := T) a b; simp; intro _; omega)
    · rw [ct_s _ hm, ← ih (by omega)]
      obtain ⟨a1, a2, a3⟩ := atR_spec (T := T) hm (show m < n by omega)
      have e1 := ct_single (p := fun k => q k && decide (rk T n k = m)) a1 n hn a2 (fun j a b c => by
        simp only [Bool.and_eq_true, decide_eq_true_eq] at c
        exact rk_inj a b a1 a2 (c.2.trans a3.symm))
      have e2 : (q (atR T n m) && decide (rk T n (atR T n m) = m)) = q (atR T n m) := by rw [a3]; simp
      simp only [e2] at e1
      rw [← e1, ← ct_or n hn (fun j _ _ => by simp only [Bool.and_eq_true, decide_eq_true_eq]; omega)]
      refine ct_congr n hn (fun j _ _ => ?_)
      rw [← Bool.and_or_distrib_left, ← Bool.decide_or]
      congr 1
      exact decide_eq_decide.mpr (by omega)
  rw [← key n hn (Int.le_refl _)]
  exact ct_congr n hn (fun j a b => by have := rk_b (T := T) a b; rw [decide_eq_true this.2, Bool.and_true])
theorem ct_ac {P : St} {bw cw : Int} (h : 0 ≤ al P) (q : Int → Bool) : ct (fun t => q (ac P bw cw t)) (al P) = ct q (al P) := ct_perm h q
def mx (f : Int → Int) : Nat → Int
  | 0 => 0
  | n + 1 => if mx f n < f (n : Int) then f (n : Int) else mx f n
def mxv (f : Int → Int) (k : Int) : Int := mx f k.toNat
theorem mxv_0 (f : Int → Int) : mxv f 0 = 0 := rfl
theorem mxv_s (f : Int → Int) {k : Int} (h : 0 ≤ k) : mxv f (k + 1) = if mxv f k < f k then f k else mxv f k := by
  unfold mxv
  rw [show (k + 1).toNat = k.toNat + 1 by omega]
  show (if mx f k.toNat < f ((k.toNat : Nat) : Int) then f ((k.toNat : Nat) : Int) else mx f k.toNat) = _
  rw [Int.toNat_of_nonneg h]
theorem mxv_b {f : Int → Int} {B : Int} (hB : 0 ≤ B) : ∀ k, 0 ≤ k → (∀ j, 0 ≤ j → j < k → f j ≤ B) → 0 ≤ mxv f k ∧ mxv f k ≤ B := by
  refine int_ind (fun _ => by rw [mxv_0]; omega) (fun k hk ih h => ?_)
  rw [mxv_s f hk]
  have h1 := ih (fun j a b => h j a (by omega))
  have h2 := h k hk (by omega)
  split <;> omega
theorem mxv_congr {f g : Int → Int} : ∀ k, 0 ≤ k → (∀ j, 0 ≤ j → j < k → f j = g j) → mxv f k = mxv g k := by
  refine int_ind (fun _ => rfl) (fun k hk ih h => ?_)
  rw [mxv_s f hk, mxv_s g hk, ih (fun j a b => h j a (by omega)), h k hk (by omega)]
/-- cells of sel that are live at the step t -/
noncomputable def lvN (P : St) (bw cw : Int) (sel : Int → Bool) (t : Int) : Int := ct (fun k => sel k && decide (bt P bw cw k < t ∧ t ≤ en P bw cw k)) (al P)
noncomputable def lvA (P : St) (bw cw : Int) (sel : Int → Bool) (u : Int) : Int := ct (fun k => sel k && decide (bt P bw cw k + 1 = u)) (al P) - ct (fun k => sel k && decide (en P bw cw k + 1 = u)) (al P)
noncomputable def lvS (P : St) (bw cw : Int) (sel : Int → Bool) (u : Int) : Int := ct (fun k => sel k && decide (bt P bw cw k + 1 ≤ u)) (al P) - ct (fun k => sel k && decide (en P bw cw k + 1 ≤ u)) (al P)
theorem ct_le_s {sel : Int → Bool} {f : Int → Int} {n : Int} (hn : 0 ≤ n) (u : Int) : ct (fun k => sel k && decide (f k ≤ u)) n = ct (fun k => sel k && decide (f k ≤ u - 1)) n + ct (fun k => sel k && decide (f k = u)) n := by
  rw [← ct_or n hn (fun j _ _ => by simp only [Bool.and_eq_true, decide_eq_true_eq]; omega)]
  refine ct_congr n hn (fun j _ _ => ?_)
  rw [← Bool.and_or_distrib_left, ← Bool.decide_or]
  congr 1
  exact decide_eq_decide.mpr (by omega)
theorem lvS_s {P : St} (hM : MI P) {bw cw : Int} {sel : Int → Bool} (u : Int) : lvS P bw cw sel u = lvS P bw cw sel (u - 1) + lvA P bw cw sel u := by
  unfold lvS lvA
  rw [ct_le_s (f := fun k => bt P bw cw k + 1) hM.als.1 u, ct_le_s (f := fun k => en P bw cw k + 1) hM.als.1 u]
  omega
theorem lvS_0 {P : St} (hM : MI P) {bw cw : Int} {sel : Int → Bool} : lvS P bw cw sel (-1) = 0 := by
  unfold lvS
  rw [ct_none _ hM.als.1 (fun j a b => by have := bt_b (bw := bw) (cw := cw) a b; simp; intro _; omega), ct_none _ hM.als.1 (fun j a b => by have := bt_b (bw := bw) (cw := cw) a b; have := en_b (bw := bw) (cw := cw) a b; simp; intro _; omega)]
  rfl
theorem lvS_N {P : St} (hM : MI P) {bw cw : Int} {sel : Int → Bool} (u : Int) : lvS P bw cw sel u = lvN P bw cw sel u := by
  unfold lvS lvN
  have h : ct (fun k => sel k && decide (bt P bw cw k + 1 ≤ u)) (al P) = ct (fun k => sel k && decide (bt P bw cw k < u ∧ u ≤ en P bw cw k)) (al P) + ct (fun k => sel k && decide (en P bw cw k + 1 ≤ u)) (al P) := by
    rw [← ct_or _ hM.als.1 (fun j _ _ => by simp only [Bool.and_eq_true, decide_eq_true_eq]; omega)]
    refine ct_congr _ hM.als.1 (fun j a b => ?_)
    have := en_b (bw := bw) (cw := cw) a b
    rw [← Bool.and_or_distrib_left, ← Bool.decide_or]
    congr 1
    exact decide_eq_decide.mpr (by omega)
  omega
theorem lvN_b {P : St} (hM : MI P) {bw cw : Int} {sel : Int → Bool} (u : Int) : 0 ≤ lvN P bw cw sel u ∧ lvN P bw cw sel u ≤ 256 := by
  have := ct_b (fun k => sel k && decide (bt P bw cw k < u ∧ u ≤ en P bw cw k)) (al P) hM.als.1
  have := hM.als
  unfold lvN
  omega
theorem chg {f : Int → Int} {x y u A B : Int} (h : f u = A - B) : fup (fup f x (f x + 1)) y (fup f x (f x + 1) y - 1) u = (A + bz (decide (x = u))) - (B + bz (decide (y = u))) := by
  unfold fup
  by_cases e1 : u = x <;> by_cases e2 : u = y
  · subst e1; subst e2; simp [bz]; omega
  · subst e1; simp [bz, e2, Ne.symm e2]; omega
  · subst e2; simp [bz, e1, Ne.symm e1]; omega
  · simp [bz, e1, e2, Ne.symm e1, Ne.symm e2]; omega
def selS (P : St) (s : Int) (k : Int) : Bool := decide (s < 0 ∨ k / pt P = s)
/-- sums -/
def sm (f : Int → Int) : Nat → Int
  | 0 => 0
  | n + 1 => sm f n + f (n : Int)
def smv (f : Int → Int) (k : Int) : Int := sm f k.toNat
theorem smv_0 (f : Int → Int) : smv f 0 = 0 := rfl
theorem smv_s (f : Int → Int) {k : Int} (h : 0 ≤ k) : smv f (k + 1) = smv f k + f k := by
  unfold smv
  rw [show (k + 1).toNat = k.toNat + 1 by omega]
  show sm f k.toNat + f ((k.toNat : Nat) : Int) = _
  rw [Int.toNat_of_nonneg h]
theorem smv_b {f : Int → Int} {B : Int} : ∀ k, 0 ≤ k → (∀ j, 0 ≤ j → j < k → 0 ≤ f j ∧ f j ≤ B) → 0 ≤ smv f k ∧ smv f k ≤ k * B := by
  refine int_ind (fun _ => by rw [smv_0]; simp) (fun k hk ih h => ?_)
  rw [smv_s f hk, Int.add_mul, Int.one_mul]
  have h1 := ih (fun j a b => h j a (by omega))
  have h2 := h k hk (by omega)
  omega
theorem smv_congr {f g : Int → Int} : ∀ k, 0 ≤ k → (∀ j, 0 ≤ j → j < k → f j = g j) → smv f k = smv g k := by
  refine int_ind (fun _ => rfl) (fun k hk ih h => ?_)
  rw [smv_s f hk, smv_s g hk, ih (fun j a b => h j a (by omega)), h k hk (by omega)]
/-- counting from lo on -/
theorem ct_tail {p : Int → Bool} {lo : Int} (hl : 0 ≤ lo) : ∀ k, 0 ≤ k → ct (fun j => decide (lo ≤ j) && p j) (lo + k) = ct (fun j => p (lo + j)) k := by
  refine int_ind ?_ (fun k hk ih => ?_)
  · rw [ct_0 (fun j => p (lo + j)) (by omega)]
    exact ct_none _ (by omega) (fun j a b => by simp; intro _; omega)
  · rw [show lo + (k + 1) = (lo + k) + 1 by omega, ct_s _ (by omega), ct_s _ hk, ih]
    rw [decide_eq_true (show lo ≤ lo + k by omega), Bool.true_and]
/-- pairs: each pair once, or twice -/
theorem pairs {g : Int → Int → Bool} (hs : ∀ a b, g a b = g b a) (hi : ∀ a, g a a = false) : ∀ n, 0 ≤ n → smv (fun a => ct (fun b => g a b) n) n = 2 * smv (fun a => ct (fun b => decide (a + 1 ≤ b) && g a b) n) n := by
  refine int_ind (by rw [smv_0, smv_0]; rfl) (fun n hn ih => ?_)
  rw [smv_s _ hn, smv_s _ hn]
  have e1 : ∀ k, 0 ≤ k → smv (fun a => ct (fun b => g a b) (n + 1)) k = smv (fun a => ct (fun b => g a b) n) k + ct (fun b => g n b) k := by
    refine int_ind (by rw [smv_0, smv_0, ct_0 _ (by omega)]; rfl) (fun k hk ih2 => ?_)
    rw [smv_s _ hk, smv_s _ hk, ct_s _ hk, ih2, ct_s _ hn, hs n k]; omega
  have e2 : ∀ k, 0 ≤ k → k ≤ n → smv (fun a => ct (fun b => decide (a + 1 ≤ b) && g a b) (n + 1)) k = smv (fun a => ct (fun b => decide (a + 1 ≤ b) && g a b) n) k + ct (fun b => g n b) k := by
    refine int_ind (fun _ => by rw [smv_0, smv_0, ct_0 _ (by omega)]; rfl) (fun k hk ih2 h => ?_)
    rw [smv_s _ hk, smv_s _ hk, ct_s _ hk, ih2 (by omega), ct_s _ hn, hs n k, decide_eq_true (show k + 1 ≤ n by omega), Bool.true_and]; omega
  have e3 : ct (fun b => decide (n + 1 ≤ b) && g n b) (n + 1) = 0 := ct_none _ (by omega) (fun j a b => by simp; intro _; omega)
  have e4 : ct (fun b => g n b) (n + 1) = ct (fun b => g n b) n := by rw [ct_s _ hn, hi]; simp [bz]
  rw [e1 n hn, e2 n hn (Int.le_refl _), e3, e4, ih]
  omega
