/-! counting; the steps of the work -/
def cn (p : Int → Bool) : Nat → Int
  | 0 => 0
  | n + 1 => cn p n + bz (p (n : Int))
def ct (p : Int → Bool) (k : Int) : Int := cn p k.toNat
theorem bz_01 (b : Bool) : 0 ≤ bz b ∧ bz b ≤ 1 := by cases b <;> decide
theorem ct_0 (p : Int → Bool) {k : Int} (h : k ≤ 0) : ct p k = 0 := by
  unfold ct; rw [show k.toNat = 0 by omega]; rfl
theorem ct_s (p : Int → Bool) {k : Int} (h : 0 ≤ k) : ct p (k + 1) = ct p k + bz (p k) := by
  unfold ct
  rw [show (k + 1).toNat = k.toNat + 1 by omega]
  show cn p k.toNat + bz (p ((k.toNat : Nat) : Int)) = _
  rw [Int.toNat_of_nonneg h]
/-- induction over whole numbers from 0 -/
theorem int_ind {P : Int → Prop} (h0 : P 0) (hs : ∀ k, 0 ≤ k → P k → P (k + 1)) : ∀ k, 0 ≤ k → P k := by
  intro k hk
  obtain ⟨n, rfl⟩ := Int.eq_ofNat_of_zero_le hk
  induction n with
  | zero => exact h0
  | succ n ih => exact hs _ (by omega) (ih (by omega))
theorem ct_b (p : Int → Bool) : ∀ k, 0 ≤ k → 0 ≤ ct p k ∧ ct p k ≤ k := by
  refine int_ind (by rw [ct_0 p (by omega)]; omega) (fun k hk ih => ?_)
  rw [ct_s p hk]
  have := bz_01 (p k)
  omega
theorem ct_congr {p q : Int → Bool} : ∀ k, 0 ≤ k → (∀ j, 0 ≤ j → j < k → p j = q j) → ct p k = ct q k := by
  refine int_ind (fun _ => by rw [ct_0 p (by omega), ct_0 q (by omega)]) (fun k hk ih h => ?_)
  rw [ct_s p hk, ct_s q hk, ih (fun j h1 h2 => h j h1 (by omega)), h k hk (by omega)]
theorem ct_or {p q : Int → Bool} : ∀ k, 0 ≤ k → (∀ j, 0 ≤ j → j < k → ¬ (p j = true ∧ q j = true)) → ct (fun j => p j || q j) k = ct p k + ct q k := by
  refine int_ind (fun _ => by rw [ct_0 _ (by omega), ct_0 p (by omega), ct_0 q (by omega)]; rfl) (fun k hk ih h => ?_)
  rw [ct_s _ hk, ct_s p hk, ct_s q hk, ih (fun j h1 h2 => h j h1 (by omega))]
  have h9 := h k hk (by omega)
  cases h1 : p k <;> cases h2 : q k <;> simp_all [bz] <;> omega
theorem ct_le {p q : Int → Bool} : ∀ k, 0 ≤ k → (∀ j, 0 ≤ j → j < k → p j = true → q j = true) → ct p k ≤ ct q k := by
  refine int_ind (fun _ => by rw [ct_0 p (by omega), ct_0 q (by omega)]; omega) (fun k hk ih h => ?_)
  rw [ct_s p hk, ct_s q hk]
  have h1 := ih (fun j h1 h2 => h j h1 (by omega))
  have h2 := h k hk (by omega)
  cases h3 : p k <;> cases h4 : q k <;> simp_all [bz] <;> omega
theorem ct_lt {p q : Int → Bool} {i : Int} (hp : p i = false) (hq : q i = true) (h0 : 0 ≤ i) : ∀ k, 0 ≤ k → (∀ j, 0 ≤ j → j < k → p j = true → q j = true) → i < k → ct p k < ct q k := by
  refine int_ind (fun _ h => absurd h (by omega)) (fun k hk ih h hi => ?_)
  rw [ct_s p hk, ct_s q hk]
  by_cases e : i = k
  · subst e
    have h1 := ct_le i hk (fun j h1 h2 => h j h1 (by omega))
    rw [hp, hq]
    simp [bz]; omega
  · have h1 := ih (fun j h1 h2 => h j h1 (by omega)) (by omega)
    have h2 := h k hk (by omega)
    cases h3 : p k <;> cases h4 : q k <;> simp_all [bz] <;> omega
theorem ct_all {p : Int → Bool} (k : Int) (hk : 0 ≤ k) (h : ∀ j, 0 ≤ j → j < k → p j = true) : ct p k = k := by
  revert h; revert k
  refine int_ind (fun _ => by rw [ct_0 p (by omega)]) (fun k hk ih h => ?_)
  rw [ct_s p hk, ih (fun j h1 h2 => h j h1 (by omega)), h k hk (by omega)]
  rfl
theorem ct_none {p : Int → Bool} (k : Int) (hk : 0 ≤ k) (h : ∀ j, 0 ≤ j → j < k → p j = false) : ct p k = 0 := by
  revert h; revert k
  refine int_ind (fun _ => by rw [ct_0 p (by omega)]) (fun k hk ih h => ?_)
  rw [ct_s p hk, ih (fun j h1 h2 => h j h1 (by omega)), h k hk (by omega)]
  rfl
theorem ct_pos {p : Int → Bool} : ∀ k, 0 ≤ k → 0 < ct p k → ∃ j, 0 ≤ j ∧ j < k ∧ p j = true := by
  refine int_ind (fun h => by rw [ct_0 p (by omega)] at h; omega) (fun k hk ih h => ?_)
  by_cases e : p k = true
  · exact ⟨k, hk, by omega, e⟩
  · rw [ct_s p hk, Bool.eq_false_iff.mpr e] at h
    obtain ⟨j, a, b, c⟩ := ih (by simp [bz] at h; omega)
    exact ⟨j, a, by omega, c⟩
theorem ct_one {p : Int → Bool} : ∀ k, 0 ≤ k → (∀ i j, 0 ≤ i → i < k → 0 ≤ j → j < k → p i = true → p j = true → i = j) → ct p k ≤ 1 := by
  refine int_ind (fun _ => by rw [ct_0 p (by omega)]; omega) (fun k hk ih h => ?_)
  rw [ct_s p hk]
  by_cases e : p k = true
  · have h1 : ct p k = 0 := ct_none k hk (fun j h1 h2 => Bool.eq_false_iff.mpr fun z => by
      have := h j k h1 (by omega) hk (by omega) z e
      omega)
    rw [h1, e]; decide
  · have h1 := ih (fun i j a b c d => h i j a (by omega) c (by omega))
    rw [Bool.eq_false_iff.mpr e]
    simp [bz]; omega
/-- before: by T, then by number -/
def lx (T : Int → Int) (j k : Int) : Bool := decide (T j < T k ∨ (T j = T k ∧ j < k))
def rk (T : Int → Int) (n k : Int) : Int := ct (fun j => lx T j k) n
theorem lx_tot {T : Int → Int} {j k : Int} (h : j ≠ k) : lx T j k = true ∨ lx T k j = true := by
  simp only [lx, decide_eq_true_eq]; omega
theorem lx_irr (T : Int → Int) (k : Int) : lx T k k = false := by simp only [lx, decide_eq_false_iff_not]; omega
theorem lx_tr {T : Int → Int} {i j k : Int} (h1 : lx T i j = true) (h2 : lx T j k = true) : lx T i k = true := by
  simp only [lx, decide_eq_true_eq] at *; omega
theorem rk_lt {T : Int → Int} {n j k : Int} (hj : 0 ≤ j) (hn : j < n) (h : lx T j k = true) : rk T n j < rk T n k :=
  ct_lt (p := fun i => lx T i j) (q := fun i => lx T i k) (i := j) (lx_irr T j) h hj n (by omega) (fun i _ _ hi => lx_tr hi h) hn
theorem rk_lt_iff {T : Int → Int} {n j k : Int} (hj : 0 ≤ j) (hjn : j < n) (hk : 0 ≤ k) (hkn : k < n) : rk T n j < rk T n k ↔ lx T j k = true := by
  constructor
  · intro h
    by_cases e : j = k
    · subst e; omega
    · rcases lx_tot (T := T) e with h1 | h1
      · exact h1
      · have := rk_lt hk hkn h1; omega
  · exact rk_lt hj hjn
theorem rk_inj {T : Int → Int} {n j k : Int} (hj : 0 ≤ j) (hjn : j < n) (hk : 0 ≤ k) (hkn : k < n) (h : rk T n j = rk T n k) : j = k := by
  by_cases e : j = k
  · exact e
  · rcases lx_tot (T := T) e with h1 | h1
    · have := rk_lt hj hjn h1; omega
    · have := rk_lt hk hkn h1; omega
theorem rk_b {T : Int → Int} {n k : Int} (hk : 0 ≤ k) (hkn : k < n) : 0 ≤ rk T n k ∧ rk T n k < n := by
  refine ⟨(ct_b _ n (by omega)).1, ?_⟩
  have h := ct_lt (p := fun j => lx T j k) (q := fun _ => true) (i := k) (lx_irr T k) rfl hk n (by omega) (fun _ _ _ _ => rfl) hkn
  rw [ct_all (p := fun _ => true) n (by omega) (fun _ _ _ => rfl)] at h
  exact h
theorem rk_split {T : Int → Int} {n k : Int} (hk : 0 ≤ k) (hkn : k ≤ n) : ct (fun j => decide (T j < T k)) n + ct (fun j => decide (T j = T k)) k = rk T n k := by
  have e1 : rk T n k = ct (fun j => decide (T j < T k) || decide (T j = T k ∧ j < k)) n := ct_congr n (by omega) (fun j _ _ => by simp only [lx]; rw [Bool.decide_or])
  have e2 : ∀ m, 0 ≤ m → ct (fun j => decide (T j = T k ∧ j < k)) (k + m) = ct (fun j => decide (T j = T k)) k := by
    refine int_ind ?_ (fun m hm ih => ?_)
    · rw [Int.add_zero]; exact ct_congr k hk (fun j _ h => by simp [h])
    · rw [show k + (m + 1) = (k + m) + 1 by omega, ct_s _ (by omega), ih]
      have : decide (T (k + m) = T k ∧ k + m < k) = false := by simp; omega
      simp only [this, bz_f]; omega
  rw [e1, ct_or n (by omega) (fun j _ _ => by simp; omega)]
  have := e2 (n - k) (by omega)
  rw [show k + (n - k) = n by omega] at this
  rw [this]
theorem rk_onto {T : Int → Int} {n t : Int} (ht : 0 ≤ t) (htn : t < n) : ∃ k, 0 ≤ k ∧ k < n ∧ rk T n k = t := by
  have hn : 0 ≤ n := by omega
  have up1 : ∀ u, 0 ≤ u → ct (fun k => decide (rk T n k < u + 1)) n = ct (fun k => decide (rk T n k < u)) n + ct (fun k => decide (rk T n k = u)) n := fun u _ => by
    rw [← ct_or n hn (fun j _ _ => by simp; omega)]
    exact ct_congr n hn (fun j _ _ => by rw [← Bool.decide_or]; exact decide_eq_decide.mpr (by omega))
  have le1 : ∀ u, ct (fun k => decide (rk T n k = u)) n ≤ 1 := fun u => ct_one n hn (fun i j a b c d e f => rk_inj (T := T) a b c d (by simp at e f; omega))
  have lo : ∀ u, 0 ≤ u → ct (fun k => decide (rk T n k < u)) n ≤ u := by
    refine int_ind ?_ (fun u hu ih => ?_)
    · rw [ct_none n hn (fun j a b => by have := rk_b (T := T) a b; simp; omega)]; omega
    · rw [up1 u hu]; have := le1 u; omega
  have hi : ∀ m, 0 ≤ m → m ≤ n → n - m ≤ ct (fun k => decide (rk T n k < n - m)) n := by
    refine int_ind (fun _ => ?_) (fun m hm ih h => ?_)
    · rw [ct_all n hn (fun j a b => by have := rk_b (T := T) a b; simp; omega)]; omega
    · have h1 := ih (by omega)
      have h2 := up1 (n - (m + 1)) (by omega)
      rw [show n - (m + 1) + 1 = n - m by omega] at h2
      have := le1 (n - (m + 1))
      omega
  have h1 := hi (n - (t + 1)) (by omega) (by omega)
  rw [show n - (n - (t + 1)) = t + 1 by omega, up1 t ht] at h1
  have h2 := lo t ht
  obtain ⟨k, a, b, c⟩ := ct_pos n hn (show 0 < ct (fun k => decide (rk T n k = t)) n by omega)
  exact ⟨k, a, b, by simpa using c⟩
noncomputable def atR (T : Int → Int) (n t : Int) : Int := @dite Int (∃ k, 0 ≤ k ∧ k < n ∧ rk T n k = t) (Classical.propDecidable _) (fun h => Classical.choose h) (fun _ => 0)
theorem atR_spec {T : Int → Int} {n t : Int} (ht : 0 ≤ t) (htn : t < n) : 0 ≤ atR T n t ∧ atR T n t < n ∧ rk T n (atR T n t) = t := by
  unfold atR
  rw [dif_pos (rk_onto ht htn)]
  exact Classical.choose_spec (rk_onto (T := T) ht htn)
theorem atR_rk {T : Int → Int} {n k : Int} (hk : 0 ≤ k) (hkn : k < n) : atR T n (rk T n k) = k := by
  have b := rk_b (T := T) hk hkn
  obtain ⟨h1, h2, h3⟩ := atR_spec (T := T) b.1 b.2
  exact rk_inj h1 h2 hk hkn h3
-- cells: numbered by statement, then by place in line
def cid (P : St) (k : Int) : Int := 64 * (k / pt P) + k % pt P
def tmc (P : St) (bw cw c : Int) : Int := c % 64 / P 0 1 * bw + c % 64 % P 0 1 * cw + P 10 (c / 64)
def tm (P : St) (bw cw k : Int) : Int := tmc P bw cw (cid P k)
def bt (P : St) (bw cw k : Int) : Int := rk (tm P bw cw) (al P) k
noncomputable def ac (P : St) (bw cw t : Int) : Int := atR (tm P bw cw) (al P) t
theorem cell_st {P : St} (hM : MI P) {k : Int} (hk : 0 ≤ k) (hkn : k < al P) : 0 ≤ k / pt P ∧ k / pt P < P 0 2 ∧ 0 ≤ k % pt P ∧ k % pt P < pt P ∧ k = pt P * (k / pt P) + k % pt P := by
  have hp := hM.pts
  have h1 := Int.emod_nonneg k (show pt P ≠ 0 by omega)
  have h2 := Int.emod_lt_of_pos k (show 0 < pt P by omega)
  have h3 := Int.mul_ediv_add_emod k (pt P)
  refine ⟨Int.ediv_nonneg hk (by omega), Int.ediv_lt_of_lt_mul (by omega) hkn, h1, h2, h3.symm⟩
theorem cid_b {P : St} (hM : MI P) {k : Int} (hk : 0 ≤ k) (hkn : k < al P) : (0 ≤ cid P k ∧ cid P k ≤ 255) ∧ cid P k / 64 = k / pt P ∧ cid P k % 64 = k % pt P := by
  obtain ⟨h1, h2, h3, h4, h5⟩ := cell_st hM hk hkn
  have hp := hM.pts
  have hn := hM.2.2.1
  unfold cid
  refine ⟨⟨by omega, by omega⟩, by omega, by omega⟩
theorem cid_inj {P : St} (hM : MI P) {j k : Int} (hj : 0 ≤ j) (hjn : j < al P) (hk : 0 ≤ k) (hkn : k < al P) (h : cid P j = cid P k) : j = k := by
  obtain ⟨-, a1, a2⟩ := cid_b hM hj hjn
  obtain ⟨-, b1, b2⟩ := cid_b hM hk hkn
  have c1 := (cell_st hM hj hjn).2.2.2.2
  have c2 := (cell_st hM hk hkn).2.2.2.2
  rw [h] at a1 a2
  rw [← a1, b1] at c1
  rw [← a2, b2] at c1
  omega
/-- the row and the column of a place in line -/
theorem place_rc {P : St} (hM : MI P) {p : Int} (hp : 0 ≤ p) (hpn : p < pt P) : 0 ≤ p / P 0 1 ∧ p / P 0 1 < P 0 0 ∧ 0 ≤ p % P 0 1 ∧ p % P 0 1 < P 0 1 ∧ p = P 0 1 * (p / P 0 1) + p % P 0 1 := by
  have hC := hM.2.1
  have h1 := Int.emod_nonneg p (show P 0 1 ≠ 0 by omega)
  have h2 := Int.emod_lt_of_pos p (show 0 < P 0 1 by omega)
  have h3 := Int.mul_ediv_add_emod p (P 0 1)
  exact ⟨Int.ediv_nonneg hp (by omega), Int.ediv_lt_of_lt_mul (by omega) hpn, h1, h2, h3.symm⟩
theorem tmc_b {P : St} (hM : MI P) {bw cw c : Int} (hb : 0 ≤ bw ∧ bw ≤ 9) (hc : 0 ≤ cw ∧ cw ≤ 9) (h0 : 0 ≤ c) (h1 : c ≤ 255) (h2 : c % 64 < pt P) : 0 ≤ tmc P bw cw c ∧ tmc P bw cw c ≤ 156 := by
  obtain ⟨a1, a2, a3, a4, -⟩ := place_rc hM (p := c % 64) (by omega) h2
  have hR := hM.1
  have hC := hM.2.1
  have ho := (hM.2.2.2.2.2.1 (c / 64) (by omega) (by omega)).2.2.2.1
  have m1 := mulB (A := 7) (B := 9) a1 (by omega) hb.1 hb.2
  have m2 := mulB (A := 7) (B := 9) a3 (by omega) hc.1 hc.2
  unfold tmc
  omega
theorem tm_b {P : St} (hM : MI P) {bw cw k : Int} (hb : 0 ≤ bw ∧ bw ≤ 9) (hc : 0 ≤ cw ∧ cw ≤ 9) (hk : 0 ≤ k) (hkn : k < al P) : 0 ≤ tm P bw cw k ∧ tm P bw cw k ≤ 156 := by
  obtain ⟨h1, h2, h3⟩ := cid_b hM hk hkn
  exact tmc_b hM hb hc h1.1 h1.2 (by rw [h3]; exact (cell_st hM hk hkn).2.2.2.1)
/-- the steps are dealt out, in the reference's arrays -/
def Dealt (P : St) (bw cw : Int) (σ : St) : Prop := (∀ k, 0 ≤ k → k < al P → σ 17 (cid P k) = bt P bw cw k) ∧ (∀ k, 0 ≤ k → k < al P → σ 18 (bt P bw cw k) = cid P k)
theorem Dealt.at {P : St} {bw cw : Int} {σ : St} (h : Dealt P bw cw σ) {t : Int} (ht : 0 ≤ t) (htn : t < al P) : σ 18 t = cid P (ac P bw cw t) := by
  obtain ⟨h1, h2, h3⟩ := atR_spec (T := tm P bw cw) ht htn
  have := h.2 (ac P bw cw t) h1 h2
  rw [show bt P bw cw (ac P bw cw t) = t from h3] at this
  exact this
def fr (ks : List Nat) (σ σ2 : St) : Prop := ∀ k : Nat, k ∉ ks → σ2 k = σ k
theorem fr.rf (ks : List Nat) (σ : St) : fr ks σ σ := fun _ _ => rfl
theorem fr.upd {ks : List Nat} {σ σ2 : St} (h : fr ks σ σ2) {k : Nat} {i v : Int} (hk : k ∈ ks) : fr ks σ (up σ2 k i v) := fun j hj => by
  rw [up_ne (fun e : j = k => hj (by rw [e]; exact hk))]; exact h j hj
theorem fr.tr {ks : List Nat} {σ σ1 σ2 : St} (h1 : fr ks σ σ1) (h2 : fr ks σ1 σ2) : fr ks σ σ2 := fun j hj => (h2 j hj).trans (h1 j hj)
theorem fr.mono {ks ks' : List Nat} {σ σ2 : St} (h : fr ks σ σ2) (hs : ∀ k ∈ ks, k ∈ ks') : fr ks' σ σ2 := fun j hj => h j (fun z => hj (hs j z))
theorem PR.fr {P σ σ2 : St} {ks : List Nat} (h : PR P σ) (hf : fr ks σ σ2) (hs : ks.all (fun k => decide (16 ≤ k ∨ k = 1)) = true) : PR P σ2 := fun k h1 h2 => by
  rw [hf k (fun z => by have := List.all_eq_true.mp hs k z; simp at this; omega)]; exact h k h1 h2
