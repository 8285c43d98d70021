/-! reads; what is allowed -/
noncomputable def dcd (p : Prop) : Bool := @decide p (Classical.propDecidable p)
theorem dcd_t {p : Prop} : dcd p = true ↔ p := @decide_eq_true_iff p (Classical.propDecidable p)
theorem dcd_f {p : Prop} : dcd p = false ↔ ¬ p := @decide_eq_false_iff_not p (Classical.propDecidable p)
theorem dcd_of {p : Prop} {b : Bool} (h : b = true ↔ p) : b = dcd p := by
  cases b with
  | true => exact (dcd_t.mpr (h.mp rfl)).symm
  | false => exact (dcd_f.mpr (fun z => by have := h.mpr z; cases this)).symm
theorem dcd_congr {p q : Prop} (h : p ↔ q) : dcd p = dcd q := dcd_of (dcd_t.trans h)
theorem ball_s {ok : Int → Prop} {k : Int} {b b' : Bool} (hb : b = true ↔ ∀ p, 0 ≤ p → p < k → ok p) (hk : 0 ≤ k) (h : b' = true ↔ (b = true ∧ ok k)) : b' = true ↔ ∀ p, 0 ≤ p → p < k + 1 → ok p := by
  rw [h, hb]
  constructor
  · rintro ⟨h1, h2⟩ p a c
    by_cases e : p = k
    · rw [e]; exact h2
    · exact h1 p a (by omega)
  · intro h1
    exact ⟨fun p a c => h1 p a (by omega), h1 k hk (by omega)⟩
theorem ball_0 {ok : Int → Prop} : (true = true) ↔ ∀ p : Int, 0 ≤ p → p < 0 → ok p := ⟨fun _ p a b => absurd b (by omega), fun _ => rfl⟩
theorem band_s {ok : Int → Prop} {k : Int} {b c c' : Bool} (hc : c = true ↔ (b = true ∧ ∀ p, 0 ≤ p → p < k → ok p)) (hk : 0 ≤ k) (h : c' = true ↔ (c = true ∧ ok k)) : c' = true ↔ (b = true ∧ ∀ p, 0 ≤ p → p < k + 1 → ok p) := by
  rw [h, hc]
  constructor
  · rintro ⟨⟨h0, h1⟩, h2⟩
    refine ⟨h0, fun p a c => ?_⟩
    by_cases e : p = k
    · rw [e]; exact h2
    · exact h1 p a (by omega)
  · rintro ⟨h0, h1⟩
    exact ⟨⟨h0, fun p a c => h1 p a (by omega)⟩, h1 k hk (by omega)⟩
-- the point that the cell k wants by its read r
def wi (P : St) (p r : Int) : Int := p / P 0 1 - P 7 r
def wj (P : St) (p r : Int) : Int := p % P 0 1 - P 8 r
def inF (P : St) (i j : Int) : Prop := 0 ≤ i ∧ i < P 0 0 ∧ 0 ≤ j ∧ j < P 0 1
def inP (P : St) (p r : Int) : Prop := inF P (wi P p r) (wj P p r)
def rdp (P : St) (p r : Int) : Int := wi P p r * P 0 1 + wj P p r
/-- the cell (compact number) that is wanted, if it lies inside -/
def rdc (P : St) (p r : Int) : Int := P 5 r * pt P + rdp P p r
noncomputable def wt (P : St) (c r : Int) : Int := @ite Int (inP P (c % 64) r) (Classical.propDecidable _) (64 * P 5 r + rdp P (c % 64) r) (-1)
theorem rdp_b {P : St} (hM : MI P) {i j : Int} (h : inF P i j) : 0 ≤ i * P 0 1 + j ∧ i * P 0 1 + j < pt P ∧ (i * P 0 1 + j) / P 0 1 = i ∧ (i * P 0 1 + j) % P 0 1 = j := by
  obtain ⟨h1, h2, h3, h4⟩ := h
  have hC := hM.2.1
  have m1 := Int.mul_nonneg h1 (show 0 ≤ P 0 1 by omega)
  have m2 : (i + 1) * P 0 1 ≤ P 0 0 * P 0 1 := Int.mul_le_mul_of_nonneg_right (by omega) (by omega)
  rw [Int.add_mul, Int.one_mul] at m2
  refine ⟨by omega, by unfold pt; omega, ?_, ?_⟩
  · rw [Int.add_comm, Int.add_mul_ediv_right _ _ (by omega), Int.ediv_eq_zero_of_lt h3 h4]; omega
  · rw [Int.add_comm, Int.add_mul_emod_self_right]; exact Int.emod_eq_of_lt h3 h4
theorem comp_eq {P : St} (hM : MI P) {s p : Int} (hs : 0 ≤ s) (hsn : s < P 0 2) (hp : 0 ≤ p) (hpn : p < pt P) : (0 ≤ s * pt P + p ∧ s * pt P + p < al P) ∧ (s * pt P + p) / pt P = s ∧ (s * pt P + p) % pt P = p ∧ cid P (s * pt P + p) = 64 * s + p := by
  have hq := hM.pts
  have m1 := Int.mul_nonneg hs (show 0 ≤ pt P by omega)
  have m2 : (s + 1) * pt P ≤ P 0 2 * pt P := Int.mul_le_mul_of_nonneg_right (by omega) (by omega)
  rw [Int.add_mul, Int.one_mul] at m2
  have e1 : (s * pt P + p) / pt P = s := by rw [Int.add_comm, Int.add_mul_ediv_right _ _ (by omega), Int.ediv_eq_zero_of_lt hp hpn]; omega
  have e2 : (s * pt P + p) % pt P = p := by rw [Int.add_comm, Int.add_mul_emod_self_right]; exact Int.emod_eq_of_lt hp hpn
  exact ⟨⟨by omega, by unfold al; omega⟩, e1, e2, by unfold cid; rw [e1, e2]⟩
theorem wt_cases {P : St} (hM : MI P) {s p r : Int} (hs : 0 ≤ s) (hsn : s < P 0 2) (hp : 0 ≤ p) (hpn : p < pt P) (hr : 0 ≤ P 5 r ∧ P 5 r < P 0 2) : (wt P (64 * s + p) r = -1 ∧ ¬ inP P p r) ∨ (inP P p r ∧ wt P (64 * s + p) r = cid P (rdc P p r) ∧ (0 ≤ rdc P p r ∧ rdc P p r < al P) ∧ rdc P p r / pt P = P 5 r ∧ rdc P p r % pt P = rdp P p r ∧ wt P (64 * s + p) r = 64 * P 5 r + rdp P p r) := by
  have hq := hM.pts
  have e : (64 * s + p) % 64 = p := by omega
  unfold wt
  rw [e]
  by_cases h : inP P p r
  · right
    rw [if_pos h]
    obtain ⟨a1, a2, -, -⟩ := rdp_b hM h
    have c := comp_eq hM hr.1 hr.2 a1 a2
    exact ⟨h, c.2.2.2.symm, c.1, c.2.1, c.2.2.1, rfl⟩
  · left
    rw [if_neg h]
    exact ⟨rfl, h⟩
/-- a read comes in order at every point; all reads do -/
def inO (P : St) (bw cw s j : Int) : Prop := ∀ p, 0 ≤ p → p < pt P → inP P p (4 * s + j) → bt P bw cw (rdc P p (4 * s + j)) < bt P bw cw (s * pt P + p)
def alw (P : St) (bw cw : Int) : Prop := ∀ s, 0 ≤ s → s < P 0 2 → ∀ j, 0 ≤ j → j < P 4 s → inO P bw cw s j
theorem Dealt.st {P : St} {bw cw : Int} {σ : St} (h : Dealt P bw cw σ) (hM : MI P) {s p : Int} (hs : 0 ≤ s) (hsn : s < P 0 2) (hp : 0 ≤ p) (hpn : p < pt P) : σ 17 (64 * s + p) = bt P bw cw (s * pt P + p) := by
  have c := comp_eq hM hs hsn hp hpn
  rw [← c.2.2.2]; exact h.1 _ c.1.1 c.1.2
theorem bt_b {P : St} {bw cw k : Int} (hk : 0 ≤ k) (hkn : k < al P) : 0 ≤ bt P bw cw k ∧ bt P bw cw k < al P := rk_b hk hkn
section VD
variable {K : KT} {S : SI} {k n : Nat} {ws : vWd} {L : List (Option Value)} {st : List Value} {pc : Nat}
theorem V_ifc_eq {P : Prop} {off : Int} {tgt : Nat} (d : decode S.1 pc = .ok (.ifCond .eq off, 3)) (ht : (pc : Int) + off = (tgt : Int)) (k1 : ¬ P → V K S k n ws L st tgt) (k2 : P → V K S k n ws L st (pc + 3)) : V K S k n ws L (.int (zI (bz (dcd P))) :: st) pc := V_ifb_eq d ht (fun h => k1 (dcd_f.mp h)) (fun h => k2 (dcd_t.mp h))
theorem V_ifc_ne {P : Prop} {off : Int} {tgt : Nat} (d : decode S.1 pc = .ok (.ifCond .ne off, 3)) (ht : (pc : Int) + off = (tgt : Int)) (k1 : P → V K S k n ws L st tgt) (k2 : ¬ P → V K S k n ws L st (pc + 3)) : V K S k n ws L (.int (zI (bz (dcd P))) :: st) pc := V_ifb_ne d ht (fun h => k1 (dcd_t.mp h)) (fun h => k2 (dcd_f.mp h))
theorem V_locE {L' : List (Option Value)} (h : L = L') (kk : V K S k n ws L' st pc) : V K S k n ws L st pc := h ▸ kk
end VD
