theorem psm_s (P : St) (f : Int → Int) (k : Int) {n : Int} (h : 0 ≤ n) : psm P f k (n + 1) = psm P f k n + P 6 (4 * (k / pt P) + n) * tkn P f (k % pt P) (4 * (k / pt P) + n) := by
  unfold psm; rw [smv_s _ h, Int.add_assoc]
theorem csm_s (P : St) (g : Int → Int → Int) (k : Int) {n : Int} (h : 0 ≤ n) : csm P g k (n + 1) = csm P g k n + P 6 (4 * (k / pt P) + n) * tkc P g (k % pt P) (4 * (k / pt P) + n) := by
  unfold csm; rw [smv_s _ h, Int.add_assoc]
theorem psm_0 (P : St) (f : Int → Int) (k : Int) : psm P f k 0 = P 3 (k / pt P) := by unfold psm; rw [smv_0]; omega
theorem csm_0 (P : St) (g : Int → Int → Int) (k : Int) : csm P g k 0 = P 3 (k / pt P) := by unfold csm; rw [smv_0]; omega
theorem tkn_in {P : St} {f : Int → Int} {p r : Int} (h : inP P p r) : tkn P f p r = f (rdc P p r) := by unfold tkn; rw [if_pos h]
theorem tkn_out {P : St} {f : Int → Int} {p r : Int} (h : ¬ inP P p r) : tkn P f p r = bdv P p r := by unfold tkn; rw [if_neg h]
theorem tkc_in {P : St} {g : Int → Int → Int} {p r : Int} (h : inP P p r) : tkc P g p r = g (P 5 r) (plc P (P 5 r) (rdp P p r)) := by unfold tkc; rw [if_pos h]
theorem tkc_out {P : St} {g : Int → Int → Int} {p r : Int} (h : ¬ inP P p r) : tkc P g p r = bdv P p r := by unfold tkc; rw [if_neg h]
theorem vof_at {P : St} {bw cw t : Int} (ht : 0 ≤ t) (htn : t < al P) : vof P bw cw (ac P bw cw t) = pvl P (pvt P bw cw t) (ac P bw cw t) := by unfold vof; rw [(ac_spec (bw := bw) (cw := cw) ht htn).2.2]
theorem cof_at {P : St} {bw cw t : Int} (ht : 0 ≤ t) (htn : t < al P) : cof P bw cw (ac P bw cw t) = cvl P (kvt P bw cw t) (ac P bw cw t) := by unfold cof; rw [(ac_spec (bw := bw) (cw := cw) ht htn).2.2]
