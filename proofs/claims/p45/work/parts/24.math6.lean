/-! windows -/
theorem Dealt.of {P : St} {bw cw : Int} {σ σ2 : St} (h : Dealt P bw cw σ) (e1 : σ2 17 = σ 17) (e2 : σ2 18 = σ 18) : Dealt P bw cw σ2 := by unfold Dealt; rw [e1, e2]; exact h
theorem Lived.of {P : St} {bw cw : Int} {σ σ2 : St} (h : Lived P bw cw σ) (e1 : σ2 19 = σ 19) : Lived P bw cw σ2 := by unfold Lived; rw [e1]; exact h
theorem Diff.of {P : St} {bw cw s : Int} {σ σ2 : St} (h : Diff P bw cw s σ) (e1 : σ2 24 = σ 24) : Diff P bw cw s σ2 := by unfold Diff; rw [e1]; exact h
/-- the places of a window; the place of a point in it -/
def sz (P : St) (s : Int) : Int := if P 13 s = 0 then pt P else if P 13 s = 2 then P 14 s * P 15 s else if P 13 s = 1 then P 14 s else P 15 s
def plc (P : St) (s p : Int) : Int := if P 13 s = 0 then p else if P 13 s = 1 then p % P 14 s else if P 13 s = 2 then p / P 0 1 % P 14 s * P 15 s + p % P 0 1 % P 15 s else (p / P 0 1 + p % P 0 1 * P 14 s) % P 15 s
def MW (P : St) (s : Int) : Prop := P 13 s = 0 ∨ (P 13 s = 1 ∧ 1 ≤ P 14 s ∧ P 14 s ≤ 99) ∨ (P 13 s = 2 ∧ 1 ≤ P 14 s ∧ P 14 s ≤ 99 ∧ 1 ≤ P 15 s ∧ P 15 s ≤ 99) ∨ (P 13 s = 3 ∧ 0 ≤ P 14 s ∧ P 14 s ≤ 9 ∧ 1 ≤ P 15 s ∧ P 15 s ≤ 99)
theorem MI.mw {P : St} (h : MI P) {s : Int} (h0 : 0 ≤ s) (h1 : s < 4) : MW P s := (h.2.2.2.2.2.1 s h0 h1).2.2.2.2.1
theorem sz_b {P : St} (hM : MI P) {s : Int} (h0 : 0 ≤ s) (h1 : s < 4) : 1 ≤ sz P s ∧ sz P s ≤ 9801 := by
  have hp := hM.pts
  unfold sz
  rcases hM.mw h0 h1 with h | ⟨h, h2, h3⟩ | ⟨h, h2, h3, h4, h5⟩ | ⟨h, h2, h3, h4, h5⟩
  · rw [if_pos h]; omega
  · rw [h, if_neg (by decide), if_neg (by decide), if_pos rfl]; omega
  · rw [h, if_neg (by decide), if_pos rfl]
    have m1 := mulB (A := 99) (B := 99) (show 0 ≤ P 14 s by omega) h3 (show 0 ≤ P 15 s by omega) h5
    have m2 : 1 * 1 ≤ P 14 s * P 15 s := Int.mul_le_mul h2 h4 (by decide) (by omega)
    omega
  · rw [h, if_neg (by decide), if_neg (by decide), if_neg (by decide)]; omega
theorem emod_le {a b : Int} (ha : 0 ≤ a) (hb : 0 < b) : a % b ≤ a := by
  have h1 := Int.mul_ediv_add_emod a b
  have h2 := Int.mul_nonneg (show 0 ≤ b by omega) (Int.ediv_nonneg ha (show 0 ≤ b by omega))
  omega
theorem plc_b {P : St} (hM : MI P) {s p : Int} (h0 : 0 ≤ s) (h1 : s < 4) (hp : 0 ≤ p) (hpn : p < pt P) : 0 ≤ plc P s p ∧ plc P s p ≤ 700 := by
  have hq := hM.pts
  obtain ⟨a1, a2, a3, a4, a5⟩ := place_rc hM hp hpn
  have hR := hM.1
  have hC := hM.2.1
  unfold plc
  rcases hM.mw h0 h1 with h | ⟨h, h2, h3⟩ | ⟨h, h2, h3, h4, h5⟩ | ⟨h, h2, h3, h4, h5⟩
  · rw [if_pos h]; omega
  · rw [h, if_neg (by decide), if_pos rfl]
    have b1 := Int.emod_nonneg p (show P 14 s ≠ 0 by omega)
    have b2 := Int.emod_lt_of_pos p (show 0 < P 14 s by omega)
    omega
  · rw [h, if_neg (by decide), if_neg (by decide), if_pos rfl]
    have b1 := Int.emod_nonneg (p / P 0 1) (show P 14 s ≠ 0 by omega)
    have b2 : p / P 0 1 % P 14 s ≤ p / P 0 1 := emod_le a1 (by omega)
    have b3 := Int.emod_nonneg (p % P 0 1) (show P 15 s ≠ 0 by omega)
    have b4 : p % P 0 1 % P 15 s ≤ p % P 0 1 := emod_le a3 (by omega)
    have m1 := mulB (A := 7) (B := 99) b1 (by omega) (show 0 ≤ P 15 s by omega) h5
    omega
  · rw [h, if_neg (by decide), if_neg (by decide), if_neg (by decide)]
    have b1 := Int.emod_nonneg (p / P 0 1 + p % P 0 1 * P 14 s) (show P 15 s ≠ 0 by omega)
    have b2 := Int.emod_lt_of_pos (p / P 0 1 + p % P 0 1 * P 14 s) (show 0 < P 15 s by omega)
    omega
/-- a window for a statement -/
def kp (P : St) (s k a b : Int) : St := up (up (up P 13 s k) 14 s a) 15 s b
theorem PR.kp {P σ : St} (h : PR P σ) (s k a b : Int) : PR (kp P s k a b) (kp σ s k a b) := by
  intro j h1 h2
  have e : ∀ (X Y : St), PR X Y → ∀ q i v, PR (Jvm.Pilot.@@N@@.up X q i v) (Jvm.Pilot.@@N@@.up Y q i v) := by
    intro X Y hXY q i v j h1 h2
    by_cases hq : j = q
    · subst hq; rw [up_eq, up_eq, hXY j h1 h2]
    · rw [up_ne hq, up_ne hq]; exact hXY j h1 h2
  exact e _ _ (e _ _ (e _ _ h 13 s k) 14 s a) 15 s b j h1 h2
theorem kp_13 (P : St) (s k a b : Int) (i : Int) : kp P s k a b 13 i = if i = s then k else P 13 i := rfl
theorem kp_14 (P : St) (s k a b : Int) (i : Int) : kp P s k a b 14 i = if i = s then a else P 14 i := rfl
theorem kp_15 (P : St) (s k a b : Int) (i : Int) : kp P s k a b 15 i = if i = s then b else P 15 i := rfl
theorem MI.kp {P : St} (h : MI P) {s k a b : Int} (hk : k = 0 ∨ (k = 1 ∧ 1 ≤ a ∧ a ≤ 99) ∨ (k = 2 ∧ 1 ≤ a ∧ a ≤ 99 ∧ 1 ≤ b ∧ b ≤ 99) ∨ (k = 3 ∧ 0 ≤ a ∧ a ≤ 9 ∧ 1 ≤ b ∧ b ≤ 99)) : MI (kp P s k a b) := by
  obtain ⟨h1, h2, h3, h4, h5, h6, h7⟩ := h
  refine ⟨h1, h2, h3, h4, h5, fun i i0 i1 => ?_, h7⟩
  obtain ⟨g1, g2, g3, g4, g5, g6⟩ := h6 i i0 i1
  refine ⟨g1, g2, g3, g4, ?_, g6⟩
  rw [kp_13, kp_14, kp_15]
  by_cases e : i = s
  · rw [if_pos e, if_pos e, if_pos e]; exact hk
  · rw [if_neg e, if_neg e, if_neg e]; exact g5
theorem bt_kp (P : St) (s k a b bw cw : Int) : bt (kp P s k a b) bw cw = bt P bw cw := rfl
theorem ac_kp (P : St) (s k a b bw cw : Int) : ac (kp P s k a b) bw cw = ac P bw cw := rfl
theorem en_kp (P : St) (s k a b bw cw : Int) : en (kp P s k a b) bw cw = en P bw cw := rfl
theorem cf_kp (P : St) (s k a b bw cw : Int) : cf (kp P s k a b) bw cw = cf P bw cw := rfl
