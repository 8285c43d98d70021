/-! the class: the least joint rest -/
theorem dv {P : St} (hM : MI P) {x y : Int} (hx : 0 ≤ x ∧ x < pt P) (hy : 0 ≤ y ∧ y < pt P) : dR P x y * P 0 1 + dC P x y = y - x := by
  have h1 := place_rc hM hx.1 hx.2
  have h2 := place_rc hM hy.1 hy.2
  unfold dR dC
  rw [Int.sub_mul, Int.mul_comm, Int.mul_comm (x / P 0 1)]
  omega
theorem tm_neg {a b m : Int} : Int.tmod (a - b) m = 0 ↔ Int.tmod (b - a) m = 0 := by
  rw [show a - b = -(b - a) by omega, Int.neg_tmod]; omega
/-- values of the pairs of two statements -/
theorem gD_ok {P : St} (hM : MI P) {bw cw s o m : Int} {D : Int → Int → Prop} : rD P (gD P bw cw s o D) m ↔ (rD P D m ∧ ∀ x y, PQ P bw cw s o x y → Int.tmod (y - x) m ≠ 0) := by
  constructor
  · intro h
    refine ⟨fun r d hd => h r d (Or.inl hd), fun x y hp => ?_⟩
    have := h _ _ (Or.inr ⟨x, y, hp, rfl, rfl⟩)
    rw [dv hM hp.1 hp.2.1] at this
    exact this
  · rintro ⟨h1, h2⟩ r d (hd | ⟨x, y, hp, rfl, rfl⟩)
    · exact h1 r d hd
    · rw [dv hM hp.1 hp.2.1]; exact h2 x y hp
theorem PQ_same {P : St} {bw cw s m : Int} : (∀ x y, PQ P bw cw s s x y → Int.tmod (y - x) m ≠ 0) ↔ ∀ a b, cfp P bw cw s s a b → Int.tmod (a - b) m ≠ 0 := by
  constructor
  · rintro h a b ⟨h1, h2, h3⟩
    rcases Int.lt_trichotomy a b with hl | hl | hl
    · exact fun z => h a b ⟨h1, h2, fun _ => hl, h3⟩ (tm_neg.mp z)
    · rw [hl, cf_self] at h3; cases h3
    · exact h b a ⟨h2, h1, fun _ => hl, by rw [cf_sym]; exact h3⟩
  · rintro h x y ⟨h1, h2, -, h4⟩ z
    exact h x y ⟨h1, h2, h4⟩ (tm_neg.mp z)
theorem PQ_two {P : St} {bw cw s o m : Int} (hso : s ≠ o) : (∀ x y, PQ P bw cw s o x y → Int.tmod (y - x) m ≠ 0) ↔ ∀ a b, cfp P bw cw s o a b → Int.tmod (a - b) m ≠ 0 := by
  constructor
  · rintro h a b ⟨h1, h2, h3⟩ z
    exact h a b ⟨h1, h2, fun e => absurd e hso, h3⟩ (tm_neg.mp z)
  · rintro h x y ⟨h1, h2, -, h4⟩ z
    exact h x y ⟨h1, h2, h4⟩ (tm_neg.mp z)
theorem rD_no {P : St} {m : Int} : rD P noD m := fun _ _ h => h.elim
theorem rDj_two {P : St} (hM : MI P) {bw cw s o m : Int} (hso : s ≠ o) : rD P (gD P bw cw s o (gD P bw cw o o (gD P bw cw s s noD))) m ↔ jOK P bw cw s o m := by
  rw [gD_ok hM, gD_ok hM, gD_ok hM, PQ_same, PQ_same, PQ_two hso]
  unfold jOK
  constructor
  · rintro ⟨⟨⟨-, h1⟩, h2⟩, h3⟩ a b (h | h | h)
    · exact h1 a b h
    · exact h2 a b h
    · exact h3 a b h
  · intro h
    exact ⟨⟨⟨rD_no, fun a b z => h a b (Or.inl z)⟩, fun a b z => h a b (Or.inr (Or.inl z))⟩, fun a b z => h a b (Or.inr (Or.inr z))⟩
theorem rDj_one {P : St} (hM : MI P) {bw cw s m : Int} : rD P (gD P bw cw s s noD) m ↔ jOK P bw cw s s m := by
  rw [gD_ok hM, PQ_same]
  unfold jOK
  constructor
  · rintro ⟨-, h1⟩ a b (h | h | h) <;> exact h1 a b h
  · intro h
    exact ⟨rD_no, fun a b z => h a b (Or.inl z)⟩
theorem LRs.ljr {P κ2 : St} {bw cw s o x i : Int} {D : Int → Int → Prop} (h : LRs P D x i κ2) (hq : ∀ m, rD P D m ↔ jOK P bw cw s o m) : x = ljr P bw cw s o := by
  rcases h with ⟨⟨h1, h2⟩, -⟩ | ⟨h1, h2⟩
  · exact ljr_yes (h1.congr hq) h2
  · rw [h1]
    exact ljr_no (fun j a b z => h2 j a b ((hq j).mpr z))
