/-! the class: the smallest window kept -/
/-- the window i is of the kind k, with its numbers a and b -/
def WK1 (κ : St) (i k a b : Int) : Prop := κ 39 i = k ∧ (k = 1 → κ 40 i = a) ∧ (k = 2 → κ 41 i = a ∧ κ 42 i = b) ∧ (k = 3 → κ 43 i = a ∧ κ 40 i = b)
theorem WR1.kp {P κ : St} {s k a b : Int} (h : WK1 κ s k a b) (hb : WB κ s) : WR1 (kp P s k a b) κ s := by
  refine ⟨?_, hb⟩
  rw [kp_13, kp_14, kp_15, if_pos rfl, if_pos rfl, if_pos rfl]
  exact h
theorem WR1.frW {P κ κ2 : St} {s i : Int} (h : WR1 P κ s) (hf : frW i κ κ2) (hi : s ≠ i) : WR1 P κ2 s := by
  refine ⟨?_, h.2.frW hf hi⟩
  rw [hf 39 s (by omega), hf 40 s (by omega), hf 41 s (by omega), hf 42 s (by omega), hf 43 s (by omega)]
  exact h.1
theorem WK1.cp {κ κ2 : St} {i j k a b : Int} (h : WK1 κ j k a b) (hc : cpW i j κ κ2) : WK1 κ2 i k a b := by
  unfold WK1
  rw [hc 39 (by decide) (by decide), hc 40 (by decide) (by decide), hc 41 (by decide) (by decide), hc 42 (by decide) (by decide), hc 43 (by decide) (by decide)]
  exact h
theorem kis {P R κ κ2 : St} {s k a b sv : Int} (hM : MI R) (hp : pt R = pt P) (hs : 0 ≤ s ∧ s < R 0 2) (hR : WR1 R κ s) (h4 : WK1 κ 4 k a b) (hb4 : WB κ 4) (hv : wsz κ 4 (pt P) = sv) (h1 : wsz κ 4 (pt P) < wsz κ s (pt P) → cpW s 4 κ κ2) (h2 : ¬ wsz κ 4 (pt P) < wsz κ s (pt P) → κ2 = κ) : WR1 (if sv < sz R s then Jvm.Pilot.@@N@@.kp R s k a b else R) κ2 s := by
  have e := wsz_sz hM hs hR
  rw [hp] at e
  rw [hv, e] at h1 h2
  by_cases hc : sv < sz R s
  · rw [if_pos hc]
    exact WR1.kp (h4.cp (h1 hc)) (hb4.cp (h1 hc))
  · rw [if_neg hc, h2 hc]
    exact hR
