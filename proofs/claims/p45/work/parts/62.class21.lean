/-! the class: values written -/
noncomputable def GS (P : St) (bw cw m t : Int) : Int → Int → Int := if m = 0 then (fun s q => if q < pt P then pvt P bw cw t (s * pt P + q) else 0) else kvt P bw cw t
noncomputable def VL (P : St) (bw cw m k : Int) : Int := if m = 0 then vof P bw cw k else cof P bw cw k
theorem GS_b (P : St) (bw cw m : Int) {t : Int} (ht : 0 ≤ t) : GB (GS P bw cw m t) := by
  intro s q
  unfold GS
  by_cases e : m = 0
  · rw [if_pos e]
    show 0 ≤ (if q < pt P then pvt P bw cw t (s * pt P + q) else 0) ∧ (if q < pt P then pvt P bw cw t (s * pt P + q) else 0) ≤ 9972
    split
    · exact pvt_b P bw cw t ht _
    · omega
  · rw [if_neg e]; exact kvt_b P bw cw t ht s q
theorem gsm_p {P : St} (hM : MI P) {g : Int → Int → Int} {f : Int → Int} (hg : ∀ s q, 0 ≤ q → q < pt P → g s q = f (s * pt P + q)) (k n : Int) (hn : 0 ≤ n) : gsm P 0 g k n = psm P f k n := by
  unfold gsm psm
  refine congrArg (fun z => P 3 (k / pt P) + z) (smv_congr n hn (fun j a b => congrArg (fun z => P 6 (4 * (k / pt P) + j) * z) ?_))
  by_cases h : inP P (k % pt P) (4 * (k / pt P) + j)
  · rw [tkn_in h]
    have hr := rdp_b hM h
    unfold tkr
    exact (if_pos h).trans (hg _ _ hr.1 hr.2.1)
  · rw [tkn_out h]
    unfold tkr
    exact (if_neg h).trans rfl
theorem gsm_c {P : St} {g : Int → Int → Int} (k n : Int) (hn : 0 ≤ n) : gsm P 1 g k n = csm P g k n := by
  unfold gsm csm
  refine congrArg (fun z => P 3 (k / pt P) + z) (smv_congr n hn (fun j a b => congrArg (fun z => P 6 (4 * (k / pt P) + j) * z) ?_))
  by_cases h : inP P (k % pt P) (4 * (k / pt P) + j)
  · rw [tkc_in h]
    unfold tkr
    exact (if_pos h).trans rfl
  · rw [tkc_out h]
    unfold tkr
    exact (if_neg h).trans rfl
theorem gvl_VL {P : St} (hM : MI P) {bw cw m t : Int} (hm : 0 ≤ m ∧ m ≤ 1) (ht : 0 ≤ t) (htn : t < al P) : gvl P m (GS P bw cw m t) (ac P bw cw t) = VL P bw cw m (ac P bw cw t) := by
  have hac := ac_spec (bw := bw) (cw := cw) ht htn
  have hc := cell_st hM hac.1 hac.2.1
  have h4 := hM.r4 (i := ac P bw cw t / pt P) ⟨hc.1, hc.2.1⟩
  unfold gvl VL GS
  by_cases e : m = 0
  · rw [if_pos e, if_pos e, e, vof_at ht htn]
    unfold pvl
    rw [gsm_p hM (f := pvt P bw cw t) (fun s q a b => if_pos b) _ _ h4.1]
  · have e1 : m = 1 := by omega
    rw [if_neg e, if_neg e, e1, cof_at ht htn]
    unfold cvl
    rw [gsm_c _ _ h4.1]
theorem KV.congr {m : Int} {g g2 : Int → Int → Int} {κ : St} (h : KV m g κ) (hg : ∀ s q, 0 ≤ s → 0 ≤ q → g s q = g2 s q) : KV m g2 κ := fun s q a b c d => by rw [h s q a b c d, hg s q a c]
theorem KV.next {P κ : St} (hM : MI P) {bw cw m t : Int} (hm : 0 ≤ m ∧ m ≤ 1) (ht : 0 ≤ t) (htn : t < al P) (h : KV m (fup2 (GS P bw cw m t) (ac P bw cw t / pt P) (plm P m (ac P bw cw t / pt P) (ac P bw cw t % pt P)) (gvl P m (GS P bw cw m t) (ac P bw cw t))) κ) : KV m (GS P bw cw m (t + 1)) κ := by
  have hac := ac_spec (bw := bw) (cw := cw) ht htn
  have hc := cell_st hM hac.1 hac.2.1
  have hq := hM.pts
  have h4 := hM.r4 (i := ac P bw cw t / pt P) ⟨hc.1, hc.2.1⟩
  refine h.congr (fun s q hs0 hq0 => ?_)
  unfold GS
  by_cases e : m = 0
  · rw [if_pos e, if_pos e, e]
    have ep : plm P 0 (ac P bw cw t / pt P) (ac P bw cw t % pt P) = ac P bw cw t % pt P := if_pos rfl
    rw [ep, pvt_s P bw cw ht]
    have eg : gvl P 0 (fun s q => if q < pt P then pvt P bw cw t (s * pt P + q) else 0) (ac P bw cw t) = pvl P (pvt P bw cw t) (ac P bw cw t) := by
      unfold gvl pvl
      rw [gsm_p hM (f := pvt P bw cw t) (fun s q a b => if_pos b) _ _ h4.1]
    rw [eg]
    show (if s = ac P bw cw t / pt P ∧ q = ac P bw cw t % pt P then _ else (if q < pt P then pvt P bw cw t (s * pt P + q) else 0)) = (if q < pt P then fup (pvt P bw cw t) (ac P bw cw t) _ (s * pt P + q) else 0)
    by_cases hqp : q < pt P
    · rw [if_pos hqp, if_pos hqp]
      have e1 : (s * pt P + q) / pt P = s := by rw [Int.add_comm, Int.add_mul_ediv_right _ _ (by omega), Int.ediv_eq_zero_of_lt hq0 hqp]; omega
      have e2 : (s * pt P + q) % pt P = q := by rw [Int.add_comm, Int.add_mul_emod_self_right]; exact Int.emod_eq_of_lt hq0 hqp
      by_cases hk : s * pt P + q = ac P bw cw t
      · rw [hk, fup_eq, if_pos ⟨by rw [← hk, e1], by rw [← hk, e2]⟩]
      · rw [fup_ne hk, if_neg]
        rintro ⟨z1, z2⟩
        refine hk ?_
        rw [z1, z2, Int.mul_comm]
        omega
    · rw [if_neg hqp, if_neg hqp, if_neg (fun z => hqp (by omega))]
  · have e1 : m = 1 := by omega
    rw [if_neg e, if_neg e, e1, kvt_s P bw cw ht]
    have eg : gvl P 1 (kvt P bw cw t) (ac P bw cw t) = cvl P (kvt P bw cw t) (ac P bw cw t) := by
      unfold gvl cvl
      rw [gsm_c _ _ h4.1]
    rw [eg]
    rfl
theorem KV.start {P κ : St} {bw cw m : Int} (h : KV m (fun _ _ => 0) κ) : KV m (GS P bw cw m 0) κ := h.congr (fun s q _ _ => by
  unfold GS
  by_cases e : m = 0
  · rw [if_pos e]
    show (0 : Int) = if q < pt P then pvt P bw cw 0 (s * pt P + q) else 0
    rw [pvt_0]; split <;> rfl
  · rw [if_neg e, kvt_0])
theorem frN.fr {m : Int} {κ κ2 : St} (h : frN m κ κ2) (hm : 0 ≤ m ∧ m ≤ 1) : fr [70, 71, 72, 73, 74, 75, 76, 77] κ κ2 := fun k hk => h k (by
  simp at hk
  omega)
