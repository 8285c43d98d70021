/-! values; the best schedule; the window of two statements together -/
def bdv (P : St) (p r : Int) : Int := (5 * wi P p r + 7 * wj P p r + P 5 r) % 100
noncomputable def tkn (P : St) (f : Int → Int) (p r : Int) : Int := @ite Int (inP P p r) (Classical.propDecidable _) (f (rdc P p r)) (bdv P p r)
noncomputable def tkc (P : St) (g : Int → Int → Int) (p r : Int) : Int := @ite Int (inP P p r) (Classical.propDecidable _) (g (P 5 r) (plc P (P 5 r) (rdp P p r))) (bdv P p r)
noncomputable def psm (P : St) (f : Int → Int) (k n : Int) : Int := P 3 (k / pt P) + smv (fun j => P 6 (4 * (k / pt P) + j) * tkn P f (k % pt P) (4 * (k / pt P) + j)) n
noncomputable def csm (P : St) (g : Int → Int → Int) (k n : Int) : Int := P 3 (k / pt P) + smv (fun j => P 6 (4 * (k / pt P) + j) * tkc P g (k % pt P) (4 * (k / pt P) + j)) n
noncomputable def pvl (P : St) (f : Int → Int) (k : Int) : Int := psm P f k (P 4 (k / pt P)) % 9973
noncomputable def cvl (P : St) (g : Int → Int → Int) (k : Int) : Int := csm P g k (P 4 (k / pt P)) % 9973
def fup2 (g : Int → Int → Int) (s q v : Int) : Int → Int → Int := fun s2 q2 => if s2 = s ∧ q2 = q then v else g s2 q2
noncomputable def pv (P : St) (bw cw : Int) : Nat → Int → Int
  | 0 => fun _ => 0
  | n + 1 => fup (pv P bw cw n) (ac P bw cw (n : Int)) (pvl P (pv P bw cw n) (ac P bw cw (n : Int)))
noncomputable def kv (P : St) (bw cw : Int) : Nat → Int → Int → Int
  | 0 => fun _ _ => 0
  | n + 1 => fup2 (kv P bw cw n) (ac P bw cw (n : Int) / pt P) (plc P (ac P bw cw (n : Int) / pt P) (ac P bw cw (n : Int) % pt P)) (cvl P (kv P bw cw n) (ac P bw cw (n : Int)))
noncomputable def pvt (P : St) (bw cw t : Int) : Int → Int := pv P bw cw t.toNat
noncomputable def kvt (P : St) (bw cw t : Int) : Int → Int → Int := kv P bw cw t.toNat
theorem pvt_0 (P : St) (bw cw : Int) : pvt P bw cw 0 = fun _ => 0 := rfl
theorem kvt_0 (P : St) (bw cw : Int) : kvt P bw cw 0 = fun _ _ => 0 := rfl
theorem pvt_s (P : St) (bw cw : Int) {t : Int} (ht : 0 ≤ t) : pvt P bw cw (t + 1) = fup (pvt P bw cw t) (ac P bw cw t) (pvl P (pvt P bw cw t) (ac P bw cw t)) := by
  unfold pvt
  rw [show (t + 1).toNat = t.toNat + 1 by omega, pv, Int.toNat_of_nonneg ht]
theorem kvt_s (P : St) (bw cw : Int) {t : Int} (ht : 0 ≤ t) : kvt P bw cw (t + 1) = fup2 (kvt P bw cw t) (ac P bw cw t / pt P) (plc P (ac P bw cw t / pt P) (ac P bw cw t % pt P)) (cvl P (kvt P bw cw t) (ac P bw cw t)) := by
  unfold kvt
  rw [show (t + 1).toNat = t.toNat + 1 by omega, kv, Int.toNat_of_nonneg ht]
theorem v_b (x : Int) : 0 ≤ x % 9973 ∧ x % 9973 ≤ 9972 := by omega
theorem pvt_b (P : St) (bw cw : Int) : ∀ t, 0 ≤ t → ∀ k, 0 ≤ pvt P bw cw t k ∧ pvt P bw cw t k ≤ 9972 := by
  refine int_ind (fun k => by rw [pvt_0]; exact ⟨Int.le_refl 0, (by decide : (0 : Int) ≤ 9972)⟩) (fun t ht ih k => ?_)
  rw [pvt_s P bw cw ht]
  unfold fup
  split
  · exact v_b _
  · exact ih k
theorem kvt_b (P : St) (bw cw : Int) : ∀ t, 0 ≤ t → ∀ s q, 0 ≤ kvt P bw cw t s q ∧ kvt P bw cw t s q ≤ 9972 := by
  refine int_ind (fun s q => by rw [kvt_0]; exact ⟨Int.le_refl 0, (by decide : (0 : Int) ≤ 9972)⟩) (fun t ht ih s q => ?_)
  rw [kvt_s P bw cw ht]
  unfold fup2
  split
  · exact v_b _
  · exact ih s q
theorem bdv_b (P : St) (p r : Int) : 0 ≤ bdv P p r ∧ bdv P p r ≤ 99 := by unfold bdv; omega
theorem tkn_b {P : St} {f : Int → Int} (hf : ∀ k, 0 ≤ f k ∧ f k ≤ 9972) (p r : Int) : 0 ≤ tkn P f p r ∧ tkn P f p r ≤ 9972 := by
  unfold tkn
  split
  · exact hf _
  · have := bdv_b P p r; omega
theorem tkc_b {P : St} {g : Int → Int → Int} (hg : ∀ s q, 0 ≤ g s q ∧ g s q ≤ 9972) (p r : Int) : 0 ≤ tkc P g p r ∧ tkc P g p r ≤ 9972 := by
  unfold tkc
  split
  · exact hg _ _
  · have := bdv_b P p r; omega
theorem psm_b {P : St} (hM : MI P) {f : Int → Int} (hf : ∀ k, 0 ≤ f k ∧ f k ≤ 9972) {k : Int} (hk : 0 ≤ k) (hkn : k < al P) {n : Int} (hn : 0 ≤ n) (hn2 : n ≤ P 4 (k / pt P)) : 0 ≤ psm P f k n ∧ psm P f k n ≤ 400000 := by
  obtain ⟨a1, a2, -⟩ := cell_st hM hk hkn
  have mN := hM.2.2.1
  have q := hM.2.2.2.2.2.1 (k / pt P) a1 (by omega)
  have b := smv_b (f := fun j => P 6 (4 * (k / pt P) + j) * tkn P f (k % pt P) (4 * (k / pt P) + j)) (B := 9 * 9972) n hn (fun j c d => by
    have r := (hM.2.2.2.2.2.2 (k / pt P) j a1 (by omega) c (by omega)).2.1
    have t := tkn_b hf (P := P) (k % pt P) (4 * (k / pt P) + j)
    exact mulB (by omega) r.2 t.1 t.2)
  unfold psm
  omega
theorem csm_b {P : St} (hM : MI P) {g : Int → Int → Int} (hg : ∀ s q, 0 ≤ g s q ∧ g s q ≤ 9972) {k : Int} (hk : 0 ≤ k) (hkn : k < al P) {n : Int} (hn : 0 ≤ n) (hn2 : n ≤ P 4 (k / pt P)) : 0 ≤ csm P g k n ∧ csm P g k n ≤ 400000 := by
  obtain ⟨a1, a2, -⟩ := cell_st hM hk hkn
  have mN := hM.2.2.1
  have q := hM.2.2.2.2.2.1 (k / pt P) a1 (by omega)
  have b := smv_b (f := fun j => P 6 (4 * (k / pt P) + j) * tkc P g (k % pt P) (4 * (k / pt P) + j)) (B := 9 * 9972) n hn (fun j c d => by
    have r := (hM.2.2.2.2.2.2 (k / pt P) j a1 (by omega) c (by omega)).2.1
    have t := tkc_b hg (P := P) (k % pt P) (4 * (k / pt P) + j)
    exact mulB (by omega) r.2 t.1 t.2)
  unfold csm
  omega
/-- what a step writes -/
noncomputable def vof (P : St) (bw cw k : Int) : Int := pvl P (pvt P bw cw (bt P bw cw k)) k
noncomputable def cof (P : St) (bw cw k : Int) : Int := cvl P (kvt P bw cw (bt P bw cw k)) k
theorem pvt_of {P : St} {bw cw k : Int} (hk : 0 ≤ k) (hkn : k < al P) : ∀ t, 0 ≤ t → t ≤ al P → pvt P bw cw t k = if bt P bw cw k < t then vof P bw cw k else 0 := by
  have hb := bt_b (bw := bw) (cw := cw) hk hkn
  refine int_ind (fun _ => by rw [pvt_0, if_neg (by omega)]) (fun t ht ih htn => ?_)
  rw [pvt_s P bw cw ht]
  obtain ⟨a1, a2, a3⟩ := ac_spec (bw := bw) (cw := cw) ht (show t < al P by omega)
  by_cases e : k = ac P bw cw t
  · rw [← e, fup_eq, if_pos (by rw [e, a3]; omega)]
    unfold vof
    rw [show bt P bw cw k = t by rw [e, a3]]
  · rw [fup_ne e, ih (by omega)]
    have : bt P bw cw k ≠ t := fun z => e (by rw [← z]; exact (ac_bt hk hkn).symm)
    by_cases h : bt P bw cw k < t
    · rw [if_pos h, if_pos (by omega)]
    · rw [if_neg h, if_neg (by omega)]
/-- the first step before t at which the two write unlike values, or -1 -/
def IsFw (P : St) (bw cw t w : Int) : Prop := (w = -1 ∧ ∀ x, 0 ≤ x → x < t → vof P bw cw (ac P bw cw x) = cof P bw cw (ac P bw cw x)) ∨ (0 ≤ w ∧ w < t ∧ vof P bw cw (ac P bw cw w) ≠ cof P bw cw (ac P bw cw w) ∧ ∀ x, 0 ≤ x → x < w → vof P bw cw (ac P bw cw x) = cof P bw cw (ac P bw cw x))
theorem IsFw.uniq {P : St} {bw cw t w w2 : Int} (h1 : IsFw P bw cw t w) (h2 : IsFw P bw cw t w2) : w = w2 := by
  rcases h1 with ⟨a1, a2⟩ | ⟨a1, a2, a3, a4⟩ <;> rcases h2 with ⟨b1, b2⟩ | ⟨b1, b2, b3, b4⟩
  · omega
  · exact absurd (a2 w2 b1 b2) b3
  · exact absurd (b2 w a1 a2) a3
  · rcases Int.lt_trichotomy w w2 with h | h | h
    · exact absurd (b4 w a1 h) a3
    · exact h
    · exact absurd (a4 w2 b1 h) b3
noncomputable def fws (P : St) (bw cw : Int) : Int := @dite Int (∃ w, IsFw P bw cw (al P) w) (Classical.propDecidable _) (fun h => Classical.choose h) (fun _ => 0)
theorem fws_eq {P : St} {bw cw w : Int} (h : IsFw P bw cw (al P) w) : w = fws P bw cw := by
  unfold fws
  rw [dif_pos ⟨w, h⟩]
  exact h.uniq (Classical.choose_spec ⟨w, h⟩)
theorem IsFw.same {P : St} {bw cw t w : Int} (h : IsFw P bw cw t w) (ht : 0 ≤ t) (hs : 0 ≤ w ∨ vof P bw cw (ac P bw cw t) = cof P bw cw (ac P bw cw t)) : IsFw P bw cw (t + 1) w := by
  rcases h with ⟨h1, h2⟩ | ⟨h1, h2, h3⟩
  · refine Or.inl ⟨h1, fun x a b => ?_⟩
    by_cases e : x = t
    · rw [e]; exact hs.resolve_left (by omega)
    · exact h2 x a (by omega)
  · exact Or.inr ⟨h1, by omega, h3⟩
theorem IsFw.new {P : St} {bw cw t w : Int} (h : IsFw P bw cw t w) (ht : 0 ≤ t) (hw : w < 0) (hs : vof P bw cw (ac P bw cw t) ≠ cof P bw cw (ac P bw cw t)) : IsFw P bw cw (t + 1) t := by
  rcases h with ⟨h1, h2⟩ | ⟨h1, h2, h3⟩
  · exact Or.inr ⟨ht, by omega, hs, h2⟩
  · omega
/-- the window that two statements could have together -/
def cfp (P : St) (bw cw s o a b : Int) : Prop := (0 ≤ a ∧ a < pt P) ∧ (0 ≤ b ∧ b < pt P) ∧ cf P bw cw (s * pt P + a) (o * pt P + b) = true
def jOK (P : St) (bw cw s o m : Int) : Prop := ∀ a b, (cfp P bw cw s s a b ∨ cfp P bw cw o o a b ∨ cfp P bw cw s o a b) → Int.tmod (a - b) m ≠ 0
def ab (a b : Int) : Int := if a < b then b - a else a - b
theorem ab_tmod {a b m : Int} : Int.tmod (ab a b) m = 0 ↔ Int.tmod (a - b) m = 0 := by
  unfold ab
  split
  · rw [show b - a = -(a - b) by omega, Int.neg_tmod]; omega
  · rfl
def AQ (P : St) (bw cw s o i : Int) : Prop := ∃ a b, cfp P bw cw s o a b ∧ ab a b = i
noncomputable def ljr (P : St) (bw cw s o : Int) : Int := @ite Int (∃ m, 1 ≤ m ∧ m ≤ 99 ∧ jOK P bw cw s o m) (Classical.propDecidable _) (lst (jOK P bw cw s o) 1) (-1)
/-- the best schedule of the first n of sixteen -/
def IsBest (P : St) (n b r c : Int) : Prop := (b = -1 ∧ ∀ k, 0 ≤ k → k < n → ¬ alw P (k / 4) (k % 4)) ∨
  (0 ≤ b ∧ (∃ k, 0 ≤ k ∧ k < n ∧ alw P (k / 4) (k % 4) ∧ b = smv (lr P (k / 4) (k % 4)) (P 0 2) ∧ r = k / 4 ∧ c = k % 4 ∧ (∀ j, 0 ≤ j → j < k → alw P (j / 4) (j % 4) → b < smv (lr P (j / 4) (j % 4)) (P 0 2)) ∧ ∀ j, k ≤ j → j < n → alw P (j / 4) (j % 4) → b ≤ smv (lr P (j / 4) (j % 4)) (P 0 2)))
theorem IsBest.uniq {P : St} {n b r c b2 r2 c2 : Int} (h1 : IsBest P n b r c) (h2 : IsBest P n b2 r2 c2) (hb : 0 ≤ b) : b = b2 ∧ r = r2 ∧ c = c2 := by
  rcases h1 with ⟨a1, a2⟩ | ⟨a1, k, k1, k2, k3, k4, k5, k6, k7, k8⟩
  · omega
  · rcases h2 with ⟨b1, b2⟩ | ⟨b1, j, j1, j2, j3, j4, j5, j6, j7, j8⟩
    · exact absurd k3 (b2 k k1 k2)
    · have e : k = j := by
        rcases Int.lt_trichotomy k j with h | h | h
        · have x1 := j7 k k1 h k3
          have x2 := k8 j (by omega) j2 j3
          omega
        · exact h
        · have x1 := k7 j j1 h j3
          have x2 := j8 k (by omega) k2 k3
          omega
      subst e
      exact ⟨by omega, by omega, by omega⟩
