theorem bd_or {f : Int → Int} {Q Q2 : Int → Prop} {i0 n : Int} {b : Bool} (h : ∀ i, 0 ≤ i → i < n → f i = bz (dcd (Q i))) (hq : ∀ i, Q2 i ↔ (Q i ∨ (i = i0 ∧ b = true))) : ∀ i, 0 ≤ i → i < n → fup f i0 (bz (dcd (Q i0) || b)) i = bz (dcd (Q2 i)) := by
  intro i a c
  by_cases e : i = i0
  · subst e
    rw [fup_eq]
    congr 1
    exact dcd_of (by rw [Bool.or_eq_true, dcd_t, hq i]; simp)
  · rw [fup_ne e, h i a c, dcd_congr (show Q i ↔ Q2 i by rw [hq i]; simp [e])]
theorem bz_01o (b : Bool) : bz b = 0 ∨ bz b = 1 := by cases b <;> decide
theorem bex_s {ok : Int → Prop} {k : Int} {b b' : Bool} (hb : b = true ↔ ∃ p, 0 ≤ p ∧ p < k ∧ ok p) (hk : 0 ≤ k) (h : b' = true ↔ (b = true ∨ ok k)) : b' = true ↔ ∃ p, 0 ≤ p ∧ p < k + 1 ∧ ok p := by
  rw [h, hb]
  constructor
  · rintro (⟨p, a, c, d⟩ | d)
    · exact ⟨p, a, by omega, d⟩
    · exact ⟨k, hk, by omega, d⟩
  · rintro ⟨p, a, c, d⟩
    by_cases e : p = k
    · rw [e] at d; exact Or.inr d
    · exact Or.inl ⟨p, a, by omega, d⟩
def EXD (Q : Int → Prop) (m k : Int) : Prop := ∃ i, 0 ≤ i ∧ i < k ∧ (Q i ∧ i % m = 0)
theorem bex_0 {ok : Int → Prop} : (false = true) ↔ ∃ p : Int, 0 ≤ p ∧ p < 0 ∧ ok p := ⟨fun h => (nomatch h), fun ⟨p, a, b, _⟩ => absurd b (by omega)⟩
section VE
variable {K : KT} {S : SI} {k n : Nat} {ws : vWd} {L : List (Option Value)} {st : List Value} {pc : Nat}
theorem V_iorb {b c : Bool} (d : decode S.1 pc = .ok (.ior, 1)) (kk : V K S k n ws L (.int (zI (bz (c || b))) :: st) (pc + 1)) : V K S k n ws L (.int (zI (bz b)) :: .int (zI (bz c)) :: st) pc :=
  V_ior d (V_eqT (y := zI (bz (c || b))) (by cases b <;> cases c <;> decide) kk)
end VE
theorem IsBest.no {P : St} {n b r c : Int} (h : IsBest P n b r c) (hn : 0 ≤ n) (ha : ¬ alw P (n / 4) (n % 4)) : IsBest P (n + 1) b r c := by
  rcases h with ⟨h1, h2⟩ | ⟨h1, k, k1, k2, k3, k4, k5, k6, k7, k8⟩
  · refine Or.inl ⟨h1, fun k a d => ?_⟩
    by_cases e : k = n
    · rw [e]; exact ha
    · exact h2 k a (by omega)
  · refine Or.inr ⟨h1, k, k1, by omega, k3, k4, k5, k6, k7, fun j a d g => ?_⟩
    by_cases e : j = n
    · rw [e] at g; exact absurd g ha
    · exact k8 j a (by omega) g
theorem IsBest.worse {P : St} {n b r c : Int} (h : IsBest P n b r c) (hn : 0 ≤ n) (hb : 0 ≤ b) (hs : b ≤ smv (lr P (n / 4) (n % 4)) (P 0 2)) : IsBest P (n + 1) b r c := by
  rcases h with ⟨h1, h2⟩ | ⟨h1, k, k1, k2, k3, k4, k5, k6, k7, k8⟩
  · omega
  · refine Or.inr ⟨h1, k, k1, by omega, k3, k4, k5, k6, k7, fun j a d g => ?_⟩
    by_cases e : j = n
    · rw [e]; exact hs
    · exact k8 j a (by omega) g
theorem IsBest.new {P : St} {n b r c : Int} (h : IsBest P n b r c) (hn : 0 ≤ n) (ha : alw P (n / 4) (n % 4)) (h0 : 0 ≤ smv (lr P (n / 4) (n % 4)) (P 0 2)) (hs : b < 0 ∨ smv (lr P (n / 4) (n % 4)) (P 0 2) < b) : IsBest P (n + 1) (smv (lr P (n / 4) (n % 4)) (P 0 2)) (n / 4) (n % 4) := by
  refine Or.inr ⟨h0, n, hn, by omega, ha, rfl, rfl, rfl, fun j a d g => ?_, fun j a d g => ?_⟩
  · rcases h with ⟨h1, h2⟩ | ⟨h1, k, k1, k2, k3, k4, k5, k6, k7, k8⟩
    · exact absurd g (h2 j a d)
    · by_cases e : j < k
      · have := k7 j a e g; omega
      · have := k8 j (by omega) d g; omega
  · rw [show j = n by omega]; exact Int.le_refl _
