/-! lives and conflicts -/
/-- the greatest of a base and of the x with R x -/
def EndS (R : Int → Prop) (b e : Int) : Prop := b ≤ e ∧ (∀ x, R x → x ≤ e) ∧ (e = b ∨ ∃ x, R x ∧ e = x)
theorem EndS.uniq {R : Int → Prop} {b e e2 : Int} (h1 : EndS R b e) (h2 : EndS R b e2) : e = e2 := by
  obtain ⟨a1, a2, a3⟩ := h1
  obtain ⟨b1, b2, b3⟩ := h2
  have x1 : e ≤ e2 := by
    rcases a3 with h | ⟨x, h, r⟩
    · omega
    · have := b2 x h; omega
  have x2 : e2 ≤ e := by
    rcases b3 with h | ⟨x, h, r⟩
    · omega
    · have := a2 x h; omega
  omega
theorem EndS.congr {R R2 : Int → Prop} {b e : Int} (h : EndS R b e) (hr : ∀ x, R x ↔ R2 x) : EndS R2 b e := ⟨h.1, fun x hx => h.2.1 x ((hr x).mpr hx), h.2.2.imp id (fun ⟨x, a, c⟩ => ⟨x, (hr x).mp a, c⟩)⟩
theorem EndS.none {R : Int → Prop} {b : Int} (h : ∀ x, ¬ R x) : EndS R b b := ⟨Int.le_refl _, fun x hx => absurd hx (h x), Or.inl rfl⟩
/-- one more, t: greater than all before -/
theorem EndS.up {R R2 : Int → Prop} {b e t : Int} (h : EndS R b e) (hr : ∀ x, R2 x ↔ (R x ∨ x = t)) (ht : e ≤ t) : EndS R2 b t := by
  refine ⟨by have := h.1; omega, fun x hx => ?_, Or.inr ⟨t, (hr t).mpr (Or.inr rfl), rfl⟩⟩
  rcases (hr x).mp hx with h1 | h1
  · have := h.2.1 x h1; omega
  · omega
theorem EndS.keep {R R2 : Int → Prop} {b e t : Int} (h : EndS R b e) (hr : ∀ x, R2 x ↔ (R x ∨ x = t)) (ht : t ≤ e) : EndS R2 b e := by
  refine ⟨h.1, fun x hx => ?_, h.2.2.imp id (fun ⟨x, a, c⟩ => ⟨x, (hr x).mpr (Or.inl a), c⟩)⟩
  rcases (hr x).mp hx with h1 | h1
  · exact h.2.1 x h1
  · omega
theorem EndS.ex {R : Int → Prop} {b : Int} : ∀ n, 0 ≤ n → ∃ e, EndS (fun x => R x ∧ 0 ≤ x ∧ x < n) b e := by
  refine int_ind ⟨b, EndS.none (fun x h => by omega)⟩ (fun n hn ih => ?_)
  obtain ⟨e, he⟩ := ih
  by_cases h : R n
  · have hr : ∀ x, (R x ∧ 0 ≤ x ∧ x < n + 1) ↔ ((R x ∧ 0 ≤ x ∧ x < n) ∨ x = n) := fun x => by
      constructor
      · rintro ⟨h1, h2, h3⟩
        by_cases e : x = n
        · exact Or.inr e
        · exact Or.inl ⟨h1, h2, by omega⟩
      · rintro (⟨h1, h2, h3⟩ | rfl)
        · exact ⟨h1, h2, by omega⟩
        · exact ⟨h, hn, by omega⟩
    rcases Int.le_total e n with h1 | h1
    · exact ⟨n, he.up hr h1⟩
    · exact ⟨e, he.keep hr h1⟩
  · exact ⟨e, he.congr (fun x => ⟨fun ⟨a, c, d⟩ => ⟨a, c, by omega⟩, fun ⟨a, c, d⟩ => ⟨a, c, by
      by_cases e : x = n
      · rw [e] at a; exact absurd a h
      · omega⟩⟩)⟩
/-- the cell r (compact) takes the cell k by one of its first n reads -/
def RDn (P : St) (k r n : Int) : Prop := ∃ j, 0 ≤ j ∧ j < n ∧ inP P (r % pt P) (4 * (r / pt P) + j) ∧ rdc P (r % pt P) (4 * (r / pt P) + j) = k
def Rf (P : St) (bw cw k x : Int) : Prop := ∃ r, 0 ≤ r ∧ r < al P ∧ RDn P k r (P 4 (r / pt P)) ∧ x = bt P bw cw r
def eb (P : St) (bw cw k : Int) : Int := if P 9 (k / pt P) = 0 then bt P bw cw k else al P
noncomputable def en (P : St) (bw cw k : Int) : Int := @dite Int (∃ e, EndS (Rf P bw cw k) (eb P bw cw k) e) (Classical.propDecidable _) (fun h => Classical.choose h) (fun _ => 0)
theorem en_spec (P : St) (bw cw k : Int) : EndS (Rf P bw cw k) (eb P bw cw k) (en P bw cw k) := by
  have h : ∃ e, EndS (Rf P bw cw k) (eb P bw cw k) e := by
    by_cases ha : 0 ≤ al P
    · obtain ⟨e, he⟩ := EndS.ex (R := Rf P bw cw k) (b := eb P bw cw k) (al P) ha
      exact ⟨e, he.congr (fun x => ⟨fun h => h.1, fun h => ⟨h, by
        obtain ⟨r, h1, h2, -, rfl⟩ := h
        exact bt_b h1 h2⟩⟩)⟩
    · exact ⟨_, EndS.none (fun x h => by
        obtain ⟨r, h1, h2, -⟩ := h
        omega)⟩
  unfold en
  rw [dif_pos h]
  exact Classical.choose_spec h
theorem en_eq {P : St} {bw cw k e : Int} (h : EndS (Rf P bw cw k) (eb P bw cw k) e) : e = en P bw cw k := h.uniq (en_spec P bw cw k)
theorem en_b {P : St} {bw cw k : Int} (hk : 0 ≤ k) (hkn : k < al P) : bt P bw cw k ≤ en P bw cw k ∧ en P bw cw k ≤ al P := by
  obtain ⟨h1, h2, h3⟩ := en_spec P bw cw k
  have b := bt_b (bw := bw) (cw := cw) hk hkn
  have e1 : bt P bw cw k ≤ eb P bw cw k ∧ eb P bw cw k ≤ al P := by unfold eb; split <;> omega
  refine ⟨by omega, ?_⟩
  rcases h3 with h3 | ⟨x, ⟨r, a, c, -, rfl⟩, h3⟩
  · omega
  · have := bt_b (bw := bw) (cw := cw) a c; omega
theorem ac_spec {P : St} {bw cw t : Int} (ht : 0 ≤ t) (htn : t < al P) : 0 ≤ ac P bw cw t ∧ ac P bw cw t < al P ∧ bt P bw cw (ac P bw cw t) = t := atR_spec ht htn
theorem ac_bt {P : St} {bw cw k : Int} (hk : 0 ≤ k) (hkn : k < al P) : ac P bw cw (bt P bw cw k) = k := atR_rk hk hkn
/-- readers of k seen by the reference before the step t, and there by its first n reads -/
def Rm (P : St) (bw cw t n k x : Int) : Prop := 0 ≤ x ∧ x < al P ∧ ((x < t ∧ RDn P k (ac P bw cw x) (P 4 (ac P bw cw x / pt P))) ∨ (x = t ∧ RDn P k (ac P bw cw x) n))
theorem Rm_0 {P : St} {bw cw k x : Int} : ¬ Rm P bw cw 0 0 k x := by
  rintro ⟨h1, h2, ⟨h3, -⟩ | ⟨-, j, h4, h5, -⟩⟩ <;> omega
theorem Rm_end {P : St} {bw cw k x : Int} : Rm P bw cw (al P) 0 k x ↔ Rf P bw cw k x := by
  constructor
  · rintro ⟨h1, h2, ⟨-, h3⟩ | ⟨h3, -⟩⟩
    · obtain ⟨a, b, c⟩ := ac_spec (bw := bw) (cw := cw) h1 h2
      exact ⟨_, a, b, h3, c.symm⟩
    · omega
  · rintro ⟨r, a, b, h, rfl⟩
    have c := bt_b (bw := bw) (cw := cw) a b
    exact ⟨c.1, c.2, Or.inl ⟨c.2, by rw [ac_bt a b]; exact h⟩⟩
theorem Rm_row {P : St} {bw cw t k x : Int} (ht : 0 ≤ t) (htn : t < al P) : Rm P bw cw t (P 4 (ac P bw cw t / pt P)) k x ↔ Rm P bw cw (t + 1) 0 k x := by
  constructor
  · rintro ⟨h1, h2, ⟨h3, h4⟩ | ⟨rfl, h4⟩⟩
    · exact ⟨h1, h2, Or.inl ⟨by omega, h4⟩⟩
    · exact ⟨h1, h2, Or.inl ⟨by omega, h4⟩⟩
  · rintro ⟨h1, h2, ⟨h3, h4⟩ | ⟨h3, j, h4, h5, -⟩⟩
    · by_cases e : x = t
      · subst e; exact ⟨h1, h2, Or.inr ⟨rfl, h4⟩⟩
      · exact ⟨h1, h2, Or.inl ⟨by omega, h4⟩⟩
    · omega
theorem RDn_s {P : St} {k r n : Int} (hn : 0 ≤ n) : RDn P k r (n + 1) ↔ (RDn P k r n ∨ (inP P (r % pt P) (4 * (r / pt P) + n) ∧ rdc P (r % pt P) (4 * (r / pt P) + n) = k)) := by
  constructor
  · rintro ⟨j, h1, h2, h3⟩
    by_cases e : j = n
    · subst e; exact Or.inr h3
    · exact Or.inl ⟨j, h1, by omega, h3⟩
  · rintro (⟨j, h1, h2, h3⟩ | h3)
    · exact ⟨j, h1, by omega, h3⟩
    · exact ⟨n, hn, by omega, h3⟩
theorem Rm_no {P : St} {bw cw t n k x : Int} (hn : 0 ≤ n) (h : ¬ (inP P (ac P bw cw t % pt P) (4 * (ac P bw cw t / pt P) + n) ∧ rdc P (ac P bw cw t % pt P) (4 * (ac P bw cw t / pt P) + n) = k)) : Rm P bw cw t n k x ↔ Rm P bw cw t (n + 1) k x := by
  constructor
  · rintro ⟨h1, h2, h3 | ⟨rfl, h3⟩⟩
    · exact ⟨h1, h2, Or.inl h3⟩
    · exact ⟨h1, h2, Or.inr ⟨rfl, (RDn_s hn).mpr (Or.inl h3)⟩⟩
  · rintro ⟨h1, h2, h3 | ⟨rfl, h3⟩⟩
    · exact ⟨h1, h2, Or.inl h3⟩
    · rcases (RDn_s hn).mp h3 with h4 | h4
      · exact ⟨h1, h2, Or.inr ⟨rfl, h4⟩⟩
      · exact absurd h4 h
theorem Rm_yes {P : St} {bw cw t n k x : Int} (hn : 0 ≤ n) (ht : 0 ≤ t) (htn : t < al P) (h : inP P (ac P bw cw t % pt P) (4 * (ac P bw cw t / pt P) + n) ∧ rdc P (ac P bw cw t % pt P) (4 * (ac P bw cw t / pt P) + n) = k) : Rm P bw cw t (n + 1) k x ↔ (Rm P bw cw t n k x ∨ x = t) := by
  constructor
  · rintro ⟨h1, h2, h3 | ⟨rfl, h3⟩⟩
    · exact Or.inl ⟨h1, h2, Or.inl h3⟩
    · exact Or.inr rfl
  · rintro (⟨h1, h2, h3 | ⟨rfl, h3⟩⟩ | rfl)
    · exact ⟨h1, h2, Or.inl h3⟩
    · exact ⟨h1, h2, Or.inr ⟨rfl, (RDn_s hn).mpr (Or.inl h3)⟩⟩
    · exact ⟨ht, htn, Or.inr ⟨rfl, (RDn_s hn).mpr (Or.inr h)⟩⟩
/-- the ends are found, in the reference's array -/
def Lived (P : St) (bw cw : Int) (σ : St) : Prop := ∀ k, 0 ≤ k → k < al P → σ 19 (cid P k) = en P bw cw k
noncomputable def cf (P : St) (bw cw a b : Int) : Bool := decide ((bt P bw cw a < bt P bw cw b ∧ bt P bw cw b < en P bw cw a) ∨ (bt P bw cw b < bt P bw cw a ∧ bt P bw cw a < en P bw cw b))
theorem cf_t {P : St} {bw cw a b : Int} (h : (bt P bw cw a < bt P bw cw b ∧ bt P bw cw b < en P bw cw a) ∨ (bt P bw cw b < bt P bw cw a ∧ bt P bw cw a < en P bw cw b)) : true = cf P bw cw a b := by unfold cf; rw [decide_eq_true h]
theorem cf_f {P : St} {bw cw a b : Int} (h : ¬ ((bt P bw cw a < bt P bw cw b ∧ bt P bw cw b < en P bw cw a) ∨ (bt P bw cw b < bt P bw cw a ∧ bt P bw cw a < en P bw cw b))) : false = cf P bw cw a b := by unfold cf; rw [decide_eq_false h]
theorem cf_self (P : St) (bw cw a : Int) : cf P bw cw a a = false := by unfold cf; simp
theorem cf_sym (P : St) (bw cw a b : Int) : cf P bw cw a b = cf P bw cw b a := by unfold cf; exact decide_eq_decide.mpr (by omega)
theorem cell_of {P : St} (hM : MI P) {k : Int} (hk : 0 ≤ k) (hkn : k < al P) : k / pt P * pt P + k % pt P = k := by
  have := (cell_st hM hk hkn).2.2.2.2
  rw [Int.mul_comm] at this; omega
