/-! the law: conflicts, places, right windows, the least ones -/
def KW (kd f1 f2 : Int) : Prop := kd = 0 ∨ (kd = 1 ∧ 1 ≤ f1 ∧ f1 ≤ 100) ∨ (kd = 2 ∧ 1 ≤ f1 ∧ f1 ≤ 100 ∧ 1 ≤ f2 ∧ f2 ≤ 100) ∨ (kd = 3 ∧ 0 ≤ f1 ∧ f1 ≤ 9 ∧ 1 ≤ f2 ∧ f2 ≤ 100)
def pw (P : St) (kd f1 f2 p : Int) : Int := if kd = 0 then p else if kd = 1 then p % f1 else if kd = 2 then p / P 0 1 % f1 * f2 + p % P 0 1 % f2 else (p / P 0 1 + p % P 0 1 * f1) % f2
theorem pw_plc (P : St) (s p : Int) : pw P (P 13 s) (P 14 s) (P 15 s) p = plc P s p := rfl
theorem pw_b {P : St} (hM : MI P) {kd f1 f2 p : Int} (hk : KW kd f1 f2) (hp : 0 ≤ p) (hpn : p < pt P) : 0 ≤ pw P kd f1 f2 p ∧ pw P kd f1 f2 p ≤ 100000 := by
  have h := place_rc hM hp hpn
  have h2 := hM.pts
  unfold pw
  rcases hk with e | ⟨e, e1, e2⟩ | ⟨e, e1, e2, e3, e4⟩ | ⟨e, e1, e2, e3, e4⟩ <;> subst e
  · simp only [if_true]; omega
  · simp only [if_true, if_neg (show ¬ (1 : Int) = 0 by decide)]
    have := Int.emod_nonneg p (b := f1) (by omega)
    have := Int.emod_lt_of_pos p (b := f1) (by omega)
    omega
  · simp only [if_true, if_neg (show ¬ (2 : Int) = 0 by decide), if_neg (show ¬ (2 : Int) = 1 by decide)]
    have a1 := Int.emod_nonneg (p / P 0 1) (b := f1) (by omega)
    have a2 := Int.emod_lt_of_pos (p / P 0 1) (b := f1) (by omega)
    have a3 := Int.emod_nonneg (p % P 0 1) (b := f2) (by omega)
    have a4 := Int.emod_lt_of_pos (p % P 0 1) (b := f2) (by omega)
    have a5 := mulB (a := p / P 0 1 % f1) (b := f2) (A := 100) (B := 100) a1 (by omega) (by omega) e4
    omega
  · simp only [if_neg (show ¬ (3 : Int) = 0 by decide), if_neg (show ¬ (3 : Int) = 1 by decide), if_neg (show ¬ (3 : Int) = 2 by decide)]
    have := Int.emod_nonneg (p / P 0 1 + p % P 0 1 * f1) (b := f2) (by omega)
    have := Int.emod_lt_of_pos (p / P 0 1 + p % P 0 1 * f1) (b := f2) (by omega)
    omega
theorem cf_fl {T E : Int → Int} {x y f l : Int} (hf1 : T x < T y → f = x) (hf2 : ¬ T x < T y → f = y) (hl1 : f = x → l = y) (hl2 : f ≠ x → l = x) : (T f < T l ∧ T l < E f) ↔ ((T x < T y ∧ T y < E x) ∨ (T y < T x ∧ T x < E y)) := by
  by_cases q : T x < T y
  · have e := hf1 q
    have e2 := hl1 e
    subst e; subst e2; omega
  · have e := hf2 q
    by_cases q2 : f = x
    · have e2 := hl1 q2
      subst e2; subst e; subst q2; omega
    · have e2 := hl2 q2
      subst e; subst e2; omega
def RG (P : St) (bw cw s o kd f1 f2 : Int) : Prop := ∀ x y, 0 ≤ x → x < pt P → 0 ≤ y → y < pt P → pw P kd f1 f2 x = pw P kd f1 f2 y → cf P bw cw (s * pt P + x) (o * pt P + y) = false
theorem RG_s {P : St} {bw cw s kd f1 f2 : Int} : RG P bw cw s s kd f1 f2 ↔ ∀ x y, DP P bw cw s x y → pw P kd f1 f2 x ≠ pw P kd f1 f2 y := by
  constructor
  · rintro h x y ⟨a, b, c, d⟩ e
    rw [h x y a (by omega) (by omega) c e] at d
    exact nomatch d
  · intro h x y a b c d e
    rcases Int.lt_trichotomy x y with q | q | q
    · cases hc : cf P bw cw (s * pt P + x) (s * pt P + y) with
      | false => rfl
      | true => exact absurd e (h x y ⟨a, q, d, hc⟩)
    · subst q; exact cf_self _ _ _ _
    · cases hc : cf P bw cw (s * pt P + x) (s * pt P + y) with
      | false => rfl
      | true => exact absurd e.symm (h y x ⟨c, q, b, by rw [cf_sym]; exact hc⟩)
theorem tm0 {x y m : Int} : Int.tmod (y - x) m = 0 ↔ x % m = y % m := by
  constructor
  · intro h
    have h1 := Int.emod_eq_zero_of_dvd (Int.dvd_of_tmod_eq_zero h)
    exact ((Int.emod_eq_emod_iff_emod_sub_eq_zero).mpr h1).symm
  · intro h
    exact Int.tmod_eq_zero_of_dvd (Int.dvd_of_emod_eq_zero ((Int.emod_eq_emod_iff_emod_sub_eq_zero).mp h.symm))
theorem lr_is {P : St} (hM : MI P) (bw cw s : Int) : IsLst (rOK P bw cw s) 1 (lr P bw cw s) := (lst_spec (n := 63) (by decide) (show rOK P bw cw s (1 + 63) from rOK_64 hM bw cw s)).1
theorem RG_r {P : St} (hM : MI P) {bw cw s m q : Int} (hm : 1 ≤ m) : RG P bw cw s s 1 m q ↔ rOK P bw cw s m := by
  rw [RG_s]
  have e : ∀ p, pw P 1 m q p = p % m := fun p => rfl
  exact ⟨fun h x y d z => h x y d (by rw [e, e]; exact tm0.mp z), fun h x y d z => h x y d (tm0.mpr (by rw [e, e] at z; exact z))⟩
theorem jOK_RG {P : St} {bw cw s o m q : Int} (hm : 1 ≤ m) (h : jOK P bw cw s o m) : RG P bw cw s s 1 m q ∧ RG P bw cw o o 1 m q ∧ RG P bw cw s o 1 m q := by
  have key : ∀ s2 o2, (∀ a b, cfp P bw cw s2 o2 a b → Int.tmod (a - b) m ≠ 0) → RG P bw cw s2 o2 1 m q := by
    intro s2 o2 g x y a b c d e
    cases hc : cf P bw cw (s2 * pt P + x) (o2 * pt P + y) with
    | false => rfl
    | true => exact absurd (tm0.mpr (show y % m = x % m from e.symm)) (g x y ⟨⟨a, b⟩, ⟨c, d⟩, hc⟩)
  exact ⟨key s s (fun a b z => h a b (Or.inl z)), key o o (fun a b z => h a b (Or.inr (Or.inl z))), key s o (fun a b z => h a b (Or.inr (Or.inr z)))⟩
theorem RG_jOK {P : St} {bw cw s o m q : Int} (hm : 1 ≤ m) (h1 : RG P bw cw s s 1 m q) (h2 : RG P bw cw o o 1 m q) (h3 : RG P bw cw s o 1 m q) : jOK P bw cw s o m := by
  have key : ∀ s2 o2 a b, RG P bw cw s2 o2 1 m q → cfp P bw cw s2 o2 a b → Int.tmod (a - b) m ≠ 0 := by
    rintro s2 o2 a b g ⟨a1, b1, c1⟩ z
    rw [g a b a1.1 a1.2 b1.1 b1.2 (show a % m = b % m from (tm0.mp z).symm)] at c1
    exact nomatch c1
  rintro a b (z | z | z)
  · exact key s s a b h1 z
  · exact key o o a b h2 z
  · exact key s o a b h3 z
theorem two_u {a b c d m : Int} (h0 : 0 ≤ b) (h1 : b < m) (h2 : 0 ≤ d) (h3 : d < m) (h : a * m + b = c * m + d) : a = c ∧ b = d := by
  have e1 : (a * m + b) / m = a := by rw [Int.add_comm, Int.add_mul_ediv_right _ _ (by omega), Int.ediv_eq_zero_of_lt h0 h1]; omega
  have e2 : (c * m + d) / m = c := by rw [Int.add_comm, Int.add_mul_ediv_right _ _ (by omega), Int.ediv_eq_zero_of_lt h2 h3]; omega
  have e3 : a = c := by rw [← e1, h, e2]
  subst e3
  exact ⟨rfl, by omega⟩
theorem RG_t {P : St} (hM : MI P) {bw cw s u v : Int} (hu : 1 ≤ u) (hv : 1 ≤ v) : RG P bw cw s s 2 u v ↔ tOK P bw cw s u v := by
  rw [RG_s]
  have e : ∀ p, pw P 2 u v p = p / P 0 1 % u * v + p % P 0 1 % v := fun p => rfl
  have b1 : ∀ q : Int, 0 ≤ q % v ∧ q % v < v := fun q => ⟨Int.emod_nonneg q (by omega), Int.emod_lt_of_pos q (by omega)⟩
  constructor
  · rintro h x y d ⟨z1, z2⟩
    refine h x y d ?_
    rw [e, e, tm0.mp z1, tm0.mp z2]
  · intro h x y d z
    rw [e, e] at z
    obtain ⟨z1, z2⟩ := two_u (b1 _).1 (b1 _).2 (b1 _).1 (b1 _).2 z
    exact h x y d ⟨tm0.mpr z1, tm0.mpr z2⟩
theorem RG_sl {P : St} (hM : MI P) {bw cw s l m : Int} (hl : 0 ≤ l) (hm : 1 ≤ m) : RG P bw cw s s 3 l m ↔ sOK P bw cw s l m := by
  rw [RG_s]
  have e : ∀ p, pw P 3 l m p = (p / P 0 1 + p % P 0 1 * l) % m := fun p => rfl
  have e2 : ∀ x y, dR P x y + dC P x y * l = (y / P 0 1 + y % P 0 1 * l) - (x / P 0 1 + x % P 0 1 * l) := fun x y => by unfold dR dC; rw [Int.sub_mul]; omega
  constructor
  · intro h x y d z
    rw [e2] at z
    exact h x y d (by rw [e, e]; exact tm0.mp z)
  · intro h x y d z
    rw [e, e] at z
    exact h x y d (by rw [e2]; exact tm0.mpr z)
theorem div_b {m u : Int} (hm : 1 ≤ m) (hu : 1 ≤ u) (h : m % u = 0) : (1 ≤ m / u ∧ m / u ≤ m) ∧ u * (m / u) = m := by
  have h1 := Int.mul_ediv_add_emod m u
  rw [h, Int.add_zero] at h1
  refine ⟨⟨?_, Int.ediv_le_self _ (by omega)⟩, h1⟩
  apply Int.not_lt.mp
  intro q
  have h0 : 0 ≤ m / u := Int.ediv_nonneg (by omega) (by omega)
  rw [show m / u = 0 by omega] at h1
  omega
theorem two_max {u v R C : Int} (a : 1 ≤ u ∧ u ≤ R) (b : 1 ≤ v ∧ v ≤ C) (h : R * C ≤ u * v) : u = R ∧ v = C := by
  have h1 : u * v ≤ R * v := Int.mul_le_mul_of_nonneg_right a.2 (by omega)
  have h3 : R * v ≤ R * C := Int.mul_le_mul_of_nonneg_left b.2 (by omega)
  have h4 : R * v = R * C := by omega
  have h5 : u * v = R * v := by omega
  exact ⟨Int.eq_of_mul_eq_mul_right (by omega) h5, Int.eq_of_mul_eq_mul_left (by omega) h4⟩

set_option maxRecDepth 100000 in
set_option maxHeartbeats 4000000 in
theorem q_inConflict {E : EV} (hE : Stb E) (b : Nat → Nat) (τ : St) (X : vWd) (x : Int) (y : Int) (P : St) (hp : MI P ∧ LR P τ ∧ LT P τ ∧ LE P τ ∧ (0 ≤ x ∧ x < al P) ∧ (0 ≤ y ∧ y < al P)) : MC E yL_inConflict sL_inConflict [.ref (b 3), .ref (b 4), .int (zI x), .int (zI y)] (lW b τ X) (fun v w => v = some (.int (zI (bz (cf P (P 0 11) (P 0 12) x y)))) ∧ w = (lW b τ X)) := by
  refine MC.of hE [some (.ref (b 3)), some (.ref (b 4)), some (.int (zI x)), some (.int (zI y)), none, none] 2 rfl rfl rfl (by simp [Value.category]) (Nat.le_of_ble_eq_true rfl) (fun K hK hR => ?_)
  obtain ⟨hM, hL, hp⟩ := hp
  have mR := hM.1
  have mC := hM.2.1
  have mN := hM.2.2.1
  have mp := hM.pts
  have ma := hM.als
  have mV := hM.2.2.2.1
  have mW := hM.2.2.2.2.1
  obtain ⟨hT, hE4, hx, hy⟩ := hp
  have hsm := hL.small hM
  have bx := bt_b (P := P) (bw := P 0 11) (cw := P 0 12) hx.1 hx.2
  have by_ := bt_b (P := P) (bw := P 0 11) (cw := P 0 12) hy.1 hy.2
  have ex := en_b (P := P) (bw := P 0 11) (cw := P 0 12) hx.1 hx.2
  have ey := en_b (P := P) (bw := P 0 11) (cw := P 0 12) hy.1 hy.2
  have seg_16 : ∀ (f : Int), (bt P (P 0 11) (P 0 12) x < bt P (P 0 11) (P 0 12) y → f = x) → (¬ bt P (P 0 11) (P 0 12) x < bt P (P 0 11) (P 0 12) y → f = y) → V K sL_inConflict 0 0 (lW b τ X) [some (.ref (b 3)), some (.ref (b 4)), some (.int (zI x)), some (.int (zI y)), some (.int (zI f)), none] [] 16 := by
    intro f hf1 hf2
    have seg_29 : ∀ (l : Int), (f = x → l = y) → (f ≠ x → l = x) → V K sL_inConflict 0 0 (lW b τ X) [some (.ref (b 3)), some (.ref (b 4)), some (.int (zI x)), some (.int (zI y)), some (.int (zI f)), some (.int (zI l))] [] 29 := by
      intro l hl1 hl2
      have hfx : f = x ∨ f = y := by omega
      have hlx : l = x ∨ l = y := by
        by_cases e : f = x
        · exact Or.inr (hl1 e)
        · exact Or.inl (hl2 e)
      refine V_aload_n dL_inConflict_29 rfl ?_
      refine V_iload dL_inConflict_30 rfl ?_
      refine ll_3 ⟨by omega, by omega⟩ dL_inConflict_32 ?_
      have bf : 0 ≤ bt P (P 0 11) (P 0 12) f ∧ bt P (P 0 11) (P 0 12) f < al P := by rcases hfx with e | e <;> rw [e] <;> assumption
      refine V_eqT (y := zI (bt P (P 0 11) (P 0 12) f)) (congrArg zI (hT _ (by omega) (by omega))) ?_
      refine V_aload_n dL_inConflict_33 rfl ?_
      refine V_iload dL_inConflict_34 rfl ?_
      refine ll_3 ⟨by omega, by omega⟩ dL_inConflict_36 ?_
      have bl : 0 ≤ bt P (P 0 11) (P 0 12) l ∧ bt P (P 0 11) (P 0 12) l < al P := by rcases hlx with e | e <;> rw [e] <;> assumption
      refine V_eqT (y := zI (bt P (P 0 11) (P 0 12) l)) (congrArg zI (hT _ (by omega) (by omega))) ?_
      refine V_icmp_ge (tgt := 55) dL_inConflict_37 (by decide) ⟨⟨by omega, by omega⟩, ⟨by omega, by omega⟩⟩ (fun c_1 => ?_) (fun c_1 => ?_)
      · refine V_iconst dL_inConflict_55 ?_
        show V K sL_inConflict 0 0 _ _ [.int (zI (bz false))] 56
        refine V_zret hR rfl (Nat.le_of_ble_eq_true rfl) (Nat.le_of_ble_eq_true rfl) dL_inConflict_56 ?_
        have hv := cf_fl (T := bt P (P 0 11) (P 0 12)) (E := en P (P 0 11) (P 0 12)) hf1 hf2 hl1 hl2
        exact ⟨bzE (cf_f (by omega)), rfl⟩
      · refine V_aload_n dL_inConflict_40 rfl ?_
        refine V_iload dL_inConflict_41 rfl ?_
        refine ll_3 ⟨by omega, by omega⟩ dL_inConflict_43 ?_
        refine V_eqT (y := zI (bt P (P 0 11) (P 0 12) l)) (congrArg zI (hT _ (by omega) (by omega))) ?_
        refine V_aload_n dL_inConflict_44 rfl ?_
        refine V_iload dL_inConflict_45 rfl ?_
        refine ll_4 ⟨by omega, by omega⟩ dL_inConflict_47 ?_
        have ef : bt P (P 0 11) (P 0 12) f ≤ en P (P 0 11) (P 0 12) f ∧ en P (P 0 11) (P 0 12) f ≤ al P := by rcases hfx with e | e <;> rw [e] <;> assumption
        refine V_eqT (y := zI (en P (P 0 11) (P 0 12) f)) (congrArg zI (hE4 _ (by omega) (by omega))) ?_
        refine V_icmp_ge (tgt := 55) dL_inConflict_48 (by decide) ⟨⟨by omega, by omega⟩, ⟨by omega, by omega⟩⟩ (fun c_2 => ?_) (fun c_2 => ?_)
        · refine V_iconst dL_inConflict_55 ?_
          show V K sL_inConflict 0 0 _ _ [.int (zI (bz false))] 56
          refine V_zret hR rfl (Nat.le_of_ble_eq_true rfl) (Nat.le_of_ble_eq_true rfl) dL_inConflict_56 ?_
          have hv := cf_fl (T := bt P (P 0 11) (P 0 12)) (E := en P (P 0 11) (P 0 12)) hf1 hf2 hl1 hl2
          exact ⟨bzE (cf_f (by omega)), rfl⟩
        · refine V_iconst dL_inConflict_51 ?_
          refine V_goto (tgt := 56) dL_inConflict_52 (by decide) ?_
          show V K sL_inConflict 0 0 _ _ [.int (zI (bz true))] 56
          refine V_zret hR rfl (Nat.le_of_ble_eq_true rfl) (Nat.le_of_ble_eq_true rfl) dL_inConflict_56 ?_
          have hv := cf_fl (T := bt P (P 0 11) (P 0 12)) (E := en P (P 0 11) (P 0 12)) hf1 hf2 hl1 hl2
          exact ⟨bzE (cf_t (by omega)), rfl⟩
    refine V_iload dL_inConflict_16 rfl ?_
    refine V_iload_n dL_inConflict_18 rfl ?_
    refine V_icmp_ne (tgt := 26) dL_inConflict_19 (by decide) ⟨⟨by omega, by omega⟩, ⟨by omega, by omega⟩⟩ (fun c_3 => ?_) (fun c_3 => ?_)
    · refine V_iload_n dL_inConflict_26 rfl ?_
      refine V_istore (L' := [some (.ref (b 3)), some (.ref (b 4)), some (.int (zI x)), some (.int (zI y)), some (.int (zI f)), some (.int (zI x))]) dL_inConflict_27 (by decide) rfl ?_
      refine seg_29 x ?_ ?_
      · omega
      · omega
    · refine V_iload_n dL_inConflict_22 rfl ?_
      refine V_goto (tgt := 27) dL_inConflict_23 (by decide) ?_
      refine V_istore (L' := [some (.ref (b 3)), some (.ref (b 4)), some (.int (zI x)), some (.int (zI y)), some (.int (zI f)), some (.int (zI y))]) dL_inConflict_27 (by decide) rfl ?_
      refine seg_29 y ?_ ?_
      · omega
      · omega
  refine V_aload_n dL_inConflict_0 rfl ?_
  refine V_iload_n dL_inConflict_1 rfl ?_
  refine ll_3 ⟨by omega, by omega⟩ dL_inConflict_2 ?_
  refine V_eqT (y := zI (bt P (P 0 11) (P 0 12) x)) (congrArg zI (hT x hx.1 hx.2)) ?_
  refine V_aload_n dL_inConflict_3 rfl ?_
  refine V_iload_n dL_inConflict_4 rfl ?_
  refine ll_3 ⟨by omega, by omega⟩ dL_inConflict_5 ?_
  refine V_eqT (y := zI (bt P (P 0 11) (P 0 12) y)) (congrArg zI (hT y hy.1 hy.2)) ?_
  refine V_icmp_ge (tgt := 13) dL_inConflict_6 (by decide) ⟨⟨by omega, by omega⟩, ⟨by omega, by omega⟩⟩ (fun c_4 => ?_) (fun c_4 => ?_)
  · refine V_iload_n dL_inConflict_13 rfl ?_
    refine V_istore (L' := [some (.ref (b 3)), some (.ref (b 4)), some (.int (zI x)), some (.int (zI y)), some (.int (zI y)), none]) dL_inConflict_14 (by decide) rfl ?_
    refine seg_16 y ?_ ?_
    · omega
    · omega
  · refine V_iload_n dL_inConflict_9 rfl ?_
    refine V_goto (tgt := 14) dL_inConflict_10 (by decide) ?_
    refine V_istore (L' := [some (.ref (b 3)), some (.ref (b 4)), some (.int (zI x)), some (.int (zI y)), some (.int (zI x)), none]) dL_inConflict_14 (by decide) rfl ?_
    refine seg_16 x ?_ ?_
    · omega
    · omega
set_option maxRecDepth 100000 in
set_option maxHeartbeats 4000000 in
theorem q_place {E : EV} (hE : Stb E) (b : Nat → Nat) (τ : St) (X : vWd) (kd : Int) (f1 : Int) (f2 : Int) (cell : Int) (P : St) (hp : MI P ∧ LR P τ ∧ (0 ≤ cell ∧ cell < al P) ∧ KW kd f1 f2) : MC E yL_place sL_place [.ref (b 0), .int (zI kd), .int (zI f1), .int (zI f2), .int (zI cell)] (lW b τ X) (fun v w => v = some (.int (zI (pw P kd f1 f2 (cell % pt P)))) ∧ w = (lW b τ X)) := by
  refine MC.of hE [some (.ref (b 0)), some (.int (zI kd)), some (.int (zI f1)), some (.int (zI f2)), some (.int (zI cell)), none, none, none] 3 rfl rfl rfl (by simp [Value.category]) (Nat.le_of_ble_eq_true rfl) (fun K hK hR => ?_)
  obtain ⟨hM, hL, hp⟩ := hp
  have mR := hM.1
  have mC := hM.2.1
  have mN := hM.2.2.1
  have mp := hM.pts
  have ma := hM.als
  have mV := hM.2.2.2.1
  have mW := hM.2.2.2.2.1
  obtain ⟨hcl, hk⟩ := hp
  have hsm := hL.small hM
  have hc := cell_st hM hcl.1 hcl.2
  have hr := place_rc hM hc.2.2.1 hc.2.2.2.1
  unfold KW at hk
  refine V_iload dL_place_0 rfl ?_
  refine V_aload_n dL_place_2 rfl ?_
  refine V_callSF (As := [.ref (b 0)]) hK (q_points hE b τ X P ⟨hM, hL⟩) mokL_points w871 w872 ⟨Nat.le_of_ble_eq_true rfl, Nat.le_of_ble_eq_true rfl⟩ rfl (Nat.le_of_ble_eq_true rfl) ⟨Nat.le_of_ble_eq_true rfl, Nat.le_of_ble_eq_true rfl⟩ dL_place_3 (fun v w p_1 => ?_)
  obtain ⟨rfl, rfl⟩ := p_1
  show V K sL_place 0 0 (lW b τ X) _ [.int (zI (pt P)), .int (zI cell)] 6
  refine V_iremN dL_place_6 ⟨⟨by omega, by omega⟩, ⟨by omega, by omega⟩, by omega, by omega⟩ ?_
  refine V_istore (L' := [some (.ref (b 0)), some (.int (zI kd)), some (.int (zI f1)), some (.int (zI f2)), some (.int (zI cell)), some (.int (zI (cell % (pt P)))), none, none]) dL_place_7 (by decide) rfl ?_
  refine V_iload dL_place_9 rfl ?_
  refine V_aload_n dL_place_11 rfl ?_
  refine V_iconst dL_place_12 ?_
  refine ll_0 ⟨by omega, by omega⟩ dL_place_13 ?_
  refine V_eqT (y := zI (P 0 1)) (congrArg zI (LR.g1 hL)) ?_
  refine V_idiv dL_place_14 ⟨⟨by omega, by omega⟩, ⟨by omega, by omega⟩, by omega, by omega⟩ ?_
  refine V_istore (L' := [some (.ref (b 0)), some (.int (zI kd)), some (.int (zI f1)), some (.int (zI f2)), some (.int (zI cell)), some (.int (zI (cell % (pt P)))), some (.int (zI ((cell % (pt P)) / (P 0 1)))), none]) dL_place_15 (by decide) rfl ?_
  refine V_iload dL_place_17 rfl ?_
  refine V_aload_n dL_place_19 rfl ?_
  refine V_iconst dL_place_20 ?_
  refine ll_0 ⟨by omega, by omega⟩ dL_place_21 ?_
  refine V_eqT (y := zI (P 0 1)) (congrArg zI (LR.g1 hL)) ?_
  refine V_iremN dL_place_22 ⟨⟨by omega, by omega⟩, ⟨by omega, by omega⟩, by omega, by omega⟩ ?_
  refine V_istore (L' := [some (.ref (b 0)), some (.int (zI kd)), some (.int (zI f1)), some (.int (zI f2)), some (.int (zI cell)), some (.int (zI (cell % (pt P)))), some (.int (zI ((cell % (pt P)) / (P 0 1)))), some (.int (zI ((cell % (pt P)) % (P 0 1))))]) dL_place_23 (by decide) rfl ?_
  refine V_iload_n dL_place_25 rfl ?_
  refine V_if_ne (tgt := 34) dL_place_26 (by decide) ⟨by omega, by omega⟩ (fun c_2 => ?_) (fun c_2 => ?_)
  · refine V_iload_n dL_place_34 rfl ?_
    refine V_iconst dL_place_35 ?_
    refine V_icmp_ne (tgt := 46) dL_place_36 (by decide) ⟨⟨by omega, by omega⟩, ⟨by omega, by omega⟩⟩ (fun c_3 => ?_) (fun c_3 => ?_)
    · refine V_iload_n dL_place_46 rfl ?_
      refine V_iconst dL_place_47 ?_
      refine V_icmp_ne (tgt := 65) dL_place_48 (by decide) ⟨⟨by omega, by omega⟩, ⟨by omega, by omega⟩⟩ (fun c_4 => ?_) (fun c_4 => ?_)
      · have hk3 : 0 ≤ f1 ∧ f1 ≤ 9 ∧ 1 ≤ f2 ∧ f2 ≤ 100 := by omega
        have hm3 := mulB (a := cell % pt P % P 0 1) (b := f1) (A := 8) (B := 9) hr.2.2.1 (by omega) hk3.1 hk3.2.1
        refine V_iload dL_place_65 rfl ?_
        refine V_iload dL_place_67 rfl ?_
        refine V_iload_n dL_place_69 rfl ?_
        refine V_imul dL_place_70 ?_
        refine V_iadd dL_place_71 ?_
        refine V_iload_n dL_place_72 rfl ?_
        refine V_iremN dL_place_73 ⟨⟨by omega, by omega⟩, ⟨by omega, by omega⟩, by omega, by omega⟩ ?_
        refine V_iret hR rfl (Nat.le_of_ble_eq_true rfl) (Nat.le_of_ble_eq_true rfl) dL_place_74 ?_
        exact ⟨ziE (by unfold pw; rw [if_neg c_2, if_neg c_3, if_neg c_4]), rfl⟩
      · refine V_iload dL_place_51 rfl ?_
        refine V_iload_n dL_place_53 rfl ?_
        refine V_iremN dL_place_54 ⟨⟨by omega, by omega⟩, ⟨by omega, by omega⟩, by omega, by omega⟩ ?_
        refine V_iload_n dL_place_55 rfl ?_
        refine V_imul dL_place_56 ?_
        refine V_iload dL_place_57 rfl ?_
        refine V_iload_n dL_place_59 rfl ?_
        refine V_iremN dL_place_60 ⟨⟨by omega, by omega⟩, ⟨by omega, by omega⟩, by omega, by omega⟩ ?_
        refine V_iadd dL_place_61 ?_
        refine V_goto (tgt := 74) dL_place_62 (by decide) ?_
        refine V_iret hR rfl (Nat.le_of_ble_eq_true rfl) (Nat.le_of_ble_eq_true rfl) dL_place_74 ?_
        exact ⟨ziE (by unfold pw; rw [if_neg c_2, if_neg c_3, if_pos c_4]), rfl⟩
    · refine V_iload dL_place_39 rfl ?_
      refine V_iload_n dL_place_41 rfl ?_
      refine V_iremN dL_place_42 ⟨⟨by omega, by omega⟩, ⟨by omega, by omega⟩, by omega, by omega⟩ ?_
      refine V_goto (tgt := 74) dL_place_43 (by decide) ?_
      refine V_iret hR rfl (Nat.le_of_ble_eq_true rfl) (Nat.le_of_ble_eq_true rfl) dL_place_74 ?_
      exact ⟨ziE (by unfold pw; rw [if_neg c_2, if_pos c_3]), rfl⟩
  · refine V_iload dL_place_29 rfl ?_
    refine V_goto (tgt := 74) dL_place_31 (by decide) ?_
    refine V_iret hR rfl (Nat.le_of_ble_eq_true rfl) (Nat.le_of_ble_eq_true rfl) dL_place_74 ?_
    exact ⟨ziE (by unfold pw; rw [if_pos c_2]), rfl⟩
set_option maxRecDepth 100000 in
set_option maxHeartbeats 4000000 in
theorem q_isRight {E : EV} (hE : Stb E) (b : Nat → Nat) (τ : St) (X : vWd) (s : Int) (o : Int) (kd : Int) (f1 : Int) (f2 : Int) (P : St) (hp : MI P ∧ LR P τ ∧ LT P τ ∧ LE P τ ∧ (0 ≤ s ∧ s < P 0 2) ∧ (0 ≤ o ∧ o < P 0 2) ∧ KW kd f1 f2) : MC E yL_isRight sL_isRight [.ref (b 0), .ref (b 3), .ref (b 4), .int (zI s), .int (zI o), .int (zI kd), .int (zI f1), .int (zI f2)] (lW b τ X) (fun v w => v = some (.int (zI (bz (dcd (RG P (P 0 11) (P 0 12) s o kd f1 f2))))) ∧ w = (lW b τ X)) := by
  refine MC.of hE [some (.ref (b 0)), some (.ref (b 3)), some (.ref (b 4)), some (.int (zI s)), some (.int (zI o)), some (.int (zI kd)), some (.int (zI f1)), some (.int (zI f2)), none, none, none, none] 4 rfl rfl rfl (by simp [Value.category]) (Nat.le_of_ble_eq_true rfl) (fun K hK hR => ?_)
  obtain ⟨hM, hL, hp⟩ := hp
  have mR := hM.1
  have mC := hM.2.1
  have mN := hM.2.2.1
  have mp := hM.pts
  have ma := hM.als
  have mV := hM.2.2.2.1
  have mW := hM.2.2.2.2.1
  obtain ⟨hT, hE4, hs, ho, hkw⟩ := hp
  have hsm := hL.small hM
  have loop_9 : ∀ (n0 : Nat) (k : Int), (pt P - k).toNat = n0 → (0 ≤ k ∧ k ≤ pt P) → (∀ x, 0 ≤ x → x < k → ∀ y, 0 ≤ y → y < pt P → pw P kd f1 f2 x = pw P kd f1 f2 y → cf P (P 0 11) (P 0 12) (s * pt P + x) (o * pt P + y) = false) → V K sL_isRight 0 0 (lW b τ X) [some (.ref (b 0)), some (.ref (b 3)), some (.ref (b 4)), some (.int (zI s)), some (.int (zI o)), some (.int (zI kd)), some (.int (zI f1)), some (.int (zI f2)), some (.int (zI (pt P))), some (.int (zI k)), none, none] [] 9 := by
    intro n0
    induction n0 using Nat.strongRecOn with
    | _ n0 ih_9 =>
    intro k hm_9 hk hb
    have loop_19 : ∀ (n0 : Nat) (j : Int), (pt P - j).toNat = n0 → (k < pt P) → (0 ≤ j ∧ j ≤ pt P) → (∀ y, 0 ≤ y → y < j → pw P kd f1 f2 k = pw P kd f1 f2 y → cf P (P 0 11) (P 0 12) (s * pt P + k) (o * pt P + y) = false) → V K sL_isRight 0 0 (lW b τ X) [some (.ref (b 0)), some (.ref (b 3)), some (.ref (b 4)), some (.int (zI s)), some (.int (zI o)), some (.int (zI kd)), some (.int (zI f1)), some (.int (zI f2)), some (.int (zI (pt P))), some (.int (zI k)), some (.int (zI j)), none] [] 19 := by
      intro n0
      induction n0 using Nat.strongRecOn with
      | _ n0 ih_19 =>
      intro j hm_19 hkn hj hb2
      have seg_69 : ∀ (bb : Bool), (j < pt P) → (bb = true ↔ pw P kd f1 f2 k = pw P kd f1 f2 j) → V K sL_isRight 0 0 (lW b τ X) [some (.ref (b 0)), some (.ref (b 3)), some (.ref (b 4)), some (.int (zI s)), some (.int (zI o)), some (.int (zI kd)), some (.int (zI f1)), some (.int (zI f2)), some (.int (zI (pt P))), some (.int (zI k)), some (.int (zI j)), none] [.int (zI (bz bb))] 69 := by
        intro bb hjn hbb
        have hcs := comp_eq hM hs.1 hs.2 hk.1 hkn
        have hco := comp_eq hM ho.1 ho.2 hj.1 (show j < pt P by omega)
        refine V_istore (L' := [some (.ref (b 0)), some (.ref (b 3)), some (.ref (b 4)), some (.int (zI s)), some (.int (zI o)), some (.int (zI kd)), some (.int (zI f1)), some (.int (zI f2)), some (.int (zI (pt P))), some (.int (zI k)), some (.int (zI j)), some (.int (zI (bz bb)))]) dL_isRight_69 (by decide) rfl ?_
        refine V_iload dL_isRight_71 rfl ?_
        refine V_ifb_eq (tgt := 101) dL_isRight_73 (by decide) (fun c_1 => ?_) (fun c_1 => ?_)
        · refine V_iinc (L' := [some (.ref (b 0)), some (.ref (b 3)), some (.ref (b 4)), some (.int (zI s)), some (.int (zI o)), some (.int (zI kd)), some (.int (zI f1)), some (.int (zI f2)), some (.int (zI (pt P))), some (.int (zI k)), some (.int (zI (j + 1))), some (.int (zI (bz bb)))]) dL_isRight_101 (by decide) rfl rfl ?_
          refine V_goto (tgt := 19) dL_isRight_104 (by decide) ?_
          refine V_mask (L' := [some (.ref (b 0)), some (.ref (b 3)), some (.ref (b 4)), some (.int (zI s)), some (.int (zI o)), some (.int (zI kd)), some (.int (zI f1)), some (.int (zI f2)), some (.int (zI (pt P))), some (.int (zI k)), some (.int (zI (j + 1))), none]) [true, true, true, true, true, true, true, true, true, true, true, false] rfl ?_
          refine ih_19 _ (by omega) (j + 1) rfl ?_ ?_ ?_
          · omega
          · omega
          · intro y a b2 e
            by_cases q : y = j
            · exact absurd (hbb.mpr (q ▸ e)) (by rw [c_1]; decide)
            · exact hb2 y a (by omega) e
        · refine V_aload_n dL_isRight_76 rfl ?_
          refine V_aload_n dL_isRight_77 rfl ?_
          refine V_iload_n dL_isRight_78 rfl ?_
          refine V_iload dL_isRight_79 rfl ?_
          refine V_imul dL_isRight_81 ?_
          refine V_iload dL_isRight_82 rfl ?_
          refine V_iadd dL_isRight_84 ?_
          refine V_iload dL_isRight_85 rfl ?_
          refine V_iload dL_isRight_87 rfl ?_
          refine V_imul dL_isRight_89 ?_
          refine V_iload dL_isRight_90 rfl ?_
          refine V_iadd dL_isRight_92 ?_
          refine V_callSF (As := [.ref (b 3), .ref (b 4), .int (zI ((s * (pt P)) + k)), .int (zI ((o * (pt P)) + j))]) hK (q_inConflict hE b τ X ((s * (pt P)) + k) ((o * (pt P)) + j) P ⟨hM, hL, hT, hE4, hcs.1, hco.1⟩) mokL_inConflict w892 w893 ⟨Nat.le_of_ble_eq_true rfl, Nat.le_of_ble_eq_true rfl⟩ rfl (Nat.le_of_ble_eq_true rfl) ⟨Nat.le_of_ble_eq_true rfl, Nat.le_of_ble_eq_true rfl⟩ dL_isRight_93 (fun v w p_2 => ?_)
          obtain ⟨rfl, rfl⟩ := p_2
          show V K sL_isRight 0 0 (lW b τ X) _ [.int (zI (bz (cf P (P 0 11) (P 0 12) ((s * (pt P)) + k) ((o * (pt P)) + j))))] 96
          refine V_ifb_eq (tgt := 101) dL_isRight_96 (by decide) (fun c_3 => ?_) (fun c_3 => ?_)
          · refine V_iinc (L' := [some (.ref (b 0)), some (.ref (b 3)), some (.ref (b 4)), some (.int (zI s)), some (.int (zI o)), some (.int (zI kd)), some (.int (zI f1)), some (.int (zI f2)), some (.int (zI (pt P))), some (.int (zI k)), some (.int (zI (j + 1))), some (.int (zI (bz bb)))]) dL_isRight_101 (by decide) rfl rfl ?_
            refine V_goto (tgt := 19) dL_isRight_104 (by decide) ?_
            refine V_mask (L' := [some (.ref (b 0)), some (.ref (b 3)), some (.ref (b 4)), some (.int (zI s)), some (.int (zI o)), some (.int (zI kd)), some (.int (zI f1)), some (.int (zI f2)), some (.int (zI (pt P))), some (.int (zI k)), some (.int (zI (j + 1))), none]) [true, true, true, true, true, true, true, true, true, true, true, false] rfl ?_
            refine ih_19 _ (by omega) (j + 1) rfl ?_ ?_ ?_
            · omega
            · omega
            · intro y a b2 e
              by_cases q : y = j
              · rw [q]; exact c_3
              · exact hb2 y a (by omega) e
          · refine V_iconst dL_isRight_99 ?_
            show V K sL_isRight 0 0 _ _ [.int (zI (bz false))] 100
            refine V_zret hR rfl (Nat.le_of_ble_eq_true rfl) (Nat.le_of_ble_eq_true rfl) dL_isRight_100 ?_
            exact ⟨bzE (dcd_f.mpr (fun h => by have := h k j hk.1 hkn hj.1 (by omega) (hbb.mp c_1); rw [c_3] at this; exact nomatch this)).symm, rfl⟩
      refine V_iload dL_isRight_19 rfl ?_
      refine V_iload dL_isRight_21 rfl ?_
      refine V_icmp_ge (tgt := 107) dL_isRight_23 (by decide) ⟨⟨by omega, by omega⟩, ⟨by omega, by omega⟩⟩ (fun c_4 => ?_) (fun c_4 => ?_)
      · refine V_iinc (L' := [some (.ref (b 0)), some (.ref (b 3)), some (.ref (b 4)), some (.int (zI s)), some (.int (zI o)), some (.int (zI kd)), some (.int (zI f1)), some (.int (zI f2)), some (.int (zI (pt P))), some (.int (zI (k + 1))), some (.int (zI j)), none]) dL_isRight_107 (by decide) rfl rfl ?_
        refine V_goto (tgt := 9) dL_isRight_110 (by decide) ?_
        refine V_mask (L' := [some (.ref (b 0)), some (.ref (b 3)), some (.ref (b 4)), some (.int (zI s)), some (.int (zI o)), some (.int (zI kd)), some (.int (zI f1)), some (.int (zI f2)), some (.int (zI (pt P))), some (.int (zI (k + 1))), none, none]) [true, true, true, true, true, true, true, true, true, true, false, false] rfl ?_
        refine ih_9 _ (by omega) (k + 1) rfl ?_ ?_
        · omega
        · intro x a b2 y a2 b3 e
          by_cases q : x = k
          · subst q; exact hb2 y a2 (by omega) e
          · exact hb x a (by omega) y a2 b3 e
      · have hcs := comp_eq hM hs.1 hs.2 hk.1 hkn
        have hco := comp_eq hM ho.1 ho.2 hj.1 (show j < pt P by omega)
        have bs := pw_b hM hkw hk.1 hkn
        have bo := pw_b hM hkw hj.1 (show j < pt P by omega)
        refine V_aload_n dL_isRight_26 rfl ?_
        refine V_iload dL_isRight_27 rfl ?_
        refine V_iload dL_isRight_29 rfl ?_
        refine V_iload dL_isRight_31 rfl ?_
        refine V_iload_n dL_isRight_33 rfl ?_
        refine V_iload dL_isRight_34 rfl ?_
        refine V_imul dL_isRight_36 ?_
        refine V_iload dL_isRight_37 rfl ?_
        refine V_iadd dL_isRight_39 ?_
        refine V_callSF (As := [.ref (b 0), .int (zI kd), .int (zI f1), .int (zI f2), .int (zI ((s * (pt P)) + k))]) hK (q_place hE b τ X kd f1 f2 ((s * (pt P)) + k) P ⟨hM, hL, hcs.1, hkw⟩) mokL_place w937 w938 ⟨Nat.le_of_ble_eq_true rfl, Nat.le_of_ble_eq_true rfl⟩ rfl (Nat.le_of_ble_eq_true rfl) ⟨Nat.le_of_ble_eq_true rfl, Nat.le_of_ble_eq_true rfl⟩ dL_isRight_40 (fun v w p_5 => ?_)
        obtain ⟨rfl, rfl⟩ := p_5
        show V K sL_isRight 0 0 (lW b τ X) _ [.int (zI (pw P kd f1 f2 (((s * (pt P)) + k) % pt P)))] 43
        refine V_eqT (y := zI (pw P kd f1 f2 k)) (by rw [hcs.2.2.1]) ?_
        refine V_aload_n dL_isRight_43 rfl ?_
        refine V_iload dL_isRight_44 rfl ?_
        refine V_iload dL_isRight_46 rfl ?_
        refine V_iload dL_isRight_48 rfl ?_
        refine V_iload dL_isRight_50 rfl ?_
        refine V_iload dL_isRight_52 rfl ?_
        refine V_imul dL_isRight_54 ?_
        refine V_iload dL_isRight_55 rfl ?_
        refine V_iadd dL_isRight_57 ?_
        refine V_callSF (As := [.ref (b 0), .int (zI kd), .int (zI f1), .int (zI f2), .int (zI ((o * (pt P)) + j))]) hK (q_place hE b τ X kd f1 f2 ((o * (pt P)) + j) P ⟨hM, hL, hco.1, hkw⟩) mokL_place w937 w938 ⟨Nat.le_of_ble_eq_true rfl, Nat.le_of_ble_eq_true rfl⟩ rfl (Nat.le_of_ble_eq_true rfl) ⟨Nat.le_of_ble_eq_true rfl, Nat.le_of_ble_eq_true rfl⟩ dL_isRight_58 (fun v w p_6 => ?_)
        obtain ⟨rfl, rfl⟩ := p_6
        show V K sL_isRight 0 0 (lW b τ X) _ [.int (zI (pw P kd f1 f2 (((o * (pt P)) + j) % pt P))), .int (zI (pw P kd f1 f2 k))] 61
        refine V_eqT (y := zI (pw P kd f1 f2 j)) (by rw [hco.2.2.1]) ?_
        refine V_icmp_ne (tgt := 68) dL_isRight_61 (by decide) ⟨⟨by omega, by omega⟩, ⟨by omega, by omega⟩⟩ (fun c_7 => ?_) (fun c_7 => ?_)
        · refine V_iconst dL_isRight_68 ?_
          refine seg_69 false ?_ ?_
          · omega
          · exact ⟨(fun h => nomatch h), fun h => absurd h c_7⟩
        · refine V_iconst dL_isRight_64 ?_
          refine V_goto (tgt := 69) dL_isRight_65 (by decide) ?_
          refine seg_69 true ?_ ?_
          · omega
          · exact ⟨fun _ => c_7, fun _ => rfl⟩
    have seg_19 : ∀ (j : Int), (k < pt P) → (0 ≤ j ∧ j ≤ pt P) → (∀ y, 0 ≤ y → y < j → pw P kd f1 f2 k = pw P kd f1 f2 y → cf P (P 0 11) (P 0 12) (s * pt P + k) (o * pt P + y) = false) → V K sL_isRight 0 0 (lW b τ X) [some (.ref (b 0)), some (.ref (b 3)), some (.ref (b 4)), some (.int (zI s)), some (.int (zI o)), some (.int (zI kd)), some (.int (zI f1)), some (.int (zI f2)), some (.int (zI (pt P))), some (.int (zI k)), some (.int (zI j)), none] [] 19 := fun j hkn hj hb2 => loop_19 _ j rfl hkn hj hb2
    refine V_iload dL_isRight_9 rfl ?_
    refine V_iload dL_isRight_11 rfl ?_
    refine V_icmp_ge (tgt := 113) dL_isRight_13 (by decide) ⟨⟨by omega, by omega⟩, ⟨by omega, by omega⟩⟩ (fun c_8 => ?_) (fun c_8 => ?_)
    · refine V_iconst dL_isRight_113 ?_
      show V K sL_isRight 0 0 _ _ [.int (zI (bz true))] 114
      refine V_zret hR rfl (Nat.le_of_ble_eq_true rfl) (Nat.le_of_ble_eq_true rfl) dL_isRight_114 ?_
      exact ⟨bzE (dcd_t.mpr (fun x y a b2 c d e => hb x a (by omega) y c d e)).symm, rfl⟩
    · refine V_iconst dL_isRight_16 ?_
      refine V_istore (L' := [some (.ref (b 0)), some (.ref (b 3)), some (.ref (b 4)), some (.int (zI s)), some (.int (zI o)), some (.int (zI kd)), some (.int (zI f1)), some (.int (zI f2)), some (.int (zI (pt P))), some (.int (zI k)), some (.int (zI 0)), none]) dL_isRight_17 (by decide) rfl ?_
      refine seg_19 0 ?_ ?_ ?_
      · omega
      · omega
      · intro y a b; omega
  have seg_9 : ∀ (k : Int), (0 ≤ k ∧ k ≤ pt P) → (∀ x, 0 ≤ x → x < k → ∀ y, 0 ≤ y → y < pt P → pw P kd f1 f2 x = pw P kd f1 f2 y → cf P (P 0 11) (P 0 12) (s * pt P + x) (o * pt P + y) = false) → V K sL_isRight 0 0 (lW b τ X) [some (.ref (b 0)), some (.ref (b 3)), some (.ref (b 4)), some (.int (zI s)), some (.int (zI o)), some (.int (zI kd)), some (.int (zI f1)), some (.int (zI f2)), some (.int (zI (pt P))), some (.int (zI k)), none, none] [] 9 := fun k hk hb => loop_9 _ k rfl hk hb
  refine V_aload_n dL_isRight_0 rfl ?_
  refine V_callSF (As := [.ref (b 0)]) hK (q_points hE b τ X P ⟨hM, hL⟩) mokL_points w871 w872 ⟨Nat.le_of_ble_eq_true rfl, Nat.le_of_ble_eq_true rfl⟩ rfl (Nat.le_of_ble_eq_true rfl) ⟨Nat.le_of_ble_eq_true rfl, Nat.le_of_ble_eq_true rfl⟩ dL_isRight_1 (fun v w p_9 => ?_)
  obtain ⟨rfl, rfl⟩ := p_9
  show V K sL_isRight 0 0 (lW b τ X) _ [.int (zI (pt P))] 4
  refine V_istore (L' := [some (.ref (b 0)), some (.ref (b 3)), some (.ref (b 4)), some (.int (zI s)), some (.int (zI o)), some (.int (zI kd)), some (.int (zI f1)), some (.int (zI f2)), some (.int (zI (pt P))), none, none, none]) dL_isRight_4 (by decide) rfl ?_
  refine V_iconst dL_isRight_6 ?_
  refine V_istore (L' := [some (.ref (b 0)), some (.ref (b 3)), some (.ref (b 4)), some (.int (zI s)), some (.int (zI o)), some (.int (zI kd)), some (.int (zI f1)), some (.int (zI f2)), some (.int (zI (pt P))), some (.int (zI 0)), none, none]) dL_isRight_7 (by decide) rfl ?_
  refine seg_9 0 ?_ ?_
  · omega
  · intro x a b; omega
set_option maxRecDepth 100000 in
set_option maxHeartbeats 4000000 in
theorem q_rest {E : EV} (hE : Stb E) (b : Nat → Nat) (τ : St) (X : vWd) (s : Int) (P : St) (hp : MI P ∧ LR P τ ∧ LT P τ ∧ LE P τ ∧ (0 ≤ s ∧ s < P 0 2)) : MC E yL_rest sL_rest [.ref (b 0), .ref (b 3), .ref (b 4), .int (zI s)] (lW b τ X) (fun v w => v = some (.int (zI (lr P (P 0 11) (P 0 12) s))) ∧ w = (lW b τ X)) := by
  refine MC.of hE [some (.ref (b 0)), some (.ref (b 3)), some (.ref (b 4)), some (.int (zI s)), none] 1 rfl rfl rfl (by simp [Value.category]) (Nat.le_of_ble_eq_true rfl) (fun K hK hR => ?_)
  obtain ⟨hM, hL, hp⟩ := hp
  have mR := hM.1
  have mC := hM.2.1
  have mN := hM.2.2.1
  have mp := hM.pts
  have ma := hM.als
  have mV := hM.2.2.2.1
  have mW := hM.2.2.2.2.1
  obtain ⟨hT, hE4, hs⟩ := hp
  have hlr := lr_b hM (P 0 11) (P 0 12) s
  have hli := lr_is hM (P 0 11) (P 0 12) s
  have loop_3 : ∀ (n0 : Nat) (m : Int), (65 - m).toNat = n0 → (1 ≤ m ∧ m ≤ lr P (P 0 11) (P 0 12) s) → (∀ j, 1 ≤ j → j < m → ¬ rOK P (P 0 11) (P 0 12) s j) → V K sL_rest 0 0 (lW b τ X) [some (.ref (b 0)), some (.ref (b 3)), some (.ref (b 4)), some (.int (zI s)), some (.int (zI m))] [] 3 := by
    intro n0
    induction n0 using Nat.strongRecOn with
    | _ n0 ih_3 =>
    intro m hm_3 hm hno
    refine V_aload_n dL_rest_3 rfl ?_
    refine V_aload_n dL_rest_4 rfl ?_
    refine V_aload_n dL_rest_5 rfl ?_
    refine V_iload_n dL_rest_6 rfl ?_
    refine V_iload_n dL_rest_7 rfl ?_
    refine V_iconst dL_rest_8 ?_
    refine V_iload dL_rest_9 rfl ?_
    refine V_iconst dL_rest_11 ?_
    refine V_callSF (As := [.ref (b 0), .ref (b 3), .ref (b 4), .int (zI s), .int (zI s), .int (zI 1), .int (zI m), .int (zI 0)]) hK (q_isRight hE b τ X s s 1 m 0 P ⟨hM, hL, hT, hE4, hs, hs, Or.inr (Or.inl ⟨rfl, by omega, by omega⟩)⟩) mokL_isRight w945 w946 ⟨Nat.le_of_ble_eq_true rfl, Nat.le_of_ble_eq_true rfl⟩ rfl (Nat.le_of_ble_eq_true rfl) ⟨Nat.le_of_ble_eq_true rfl, Nat.le_of_ble_eq_true rfl⟩ dL_rest_12 (fun v w p_1 => ?_)
    obtain ⟨rfl, rfl⟩ := p_1
    show V K sL_rest 0 0 (lW b τ X) _ [.int (zI (bz (dcd (RG P (P 0 11) (P 0 12) s s 1 m 0))))] 15
    refine V_ifc_ne (tgt := 24) dL_rest_15 (by decide) (fun c_2 => ?_) (fun c_2 => ?_)
    · refine V_iload dL_rest_24 rfl ?_
      refine V_iret hR rfl (Nat.le_of_ble_eq_true rfl) (Nat.le_of_ble_eq_true rfl) dL_rest_26 ?_
      exact ⟨ziE (lst_eq ⟨hm.1, (RG_r hM (by omega)).mp c_2, hno⟩), rfl⟩
    · refine V_iinc (L' := [some (.ref (b 0)), some (.ref (b 3)), some (.ref (b 4)), some (.int (zI s)), some (.int (zI (m + 1)))]) dL_rest_18 (by decide) rfl rfl ?_
      refine V_goto (tgt := 3) dL_rest_21 (by decide) ?_
      refine ih_3 _ (by omega) (m + 1) rfl ?_ ?_
      · refine ⟨by omega, ?_⟩
        apply Int.not_lt.mp
        intro q
        exact c_2 ((RG_r hM (by omega)).mpr (by rw [show m = lr P (P 0 11) (P 0 12) s by omega]; exact hli.2.1))
      · intro j a b
        by_cases q : j = m
        · rw [q]; exact fun h => c_2 ((RG_r hM (by omega)).mpr h)
        · exact hno j a (by omega)
  have seg_3 : ∀ (m : Int), (1 ≤ m ∧ m ≤ lr P (P 0 11) (P 0 12) s) → (∀ j, 1 ≤ j → j < m → ¬ rOK P (P 0 11) (P 0 12) s j) → V K sL_rest 0 0 (lW b τ X) [some (.ref (b 0)), some (.ref (b 3)), some (.ref (b 4)), some (.int (zI s)), some (.int (zI m))] [] 3 := fun m hm hno => loop_3 _ m rfl hm hno
  refine V_iconst dL_rest_0 ?_
  refine V_istore (L' := [some (.ref (b 0)), some (.ref (b 3)), some (.ref (b 4)), some (.int (zI s)), some (.int (zI 1))]) dL_rest_1 (by decide) rfl ?_
  refine seg_3 1 ?_ ?_
  · exact ⟨by omega, hlr.1⟩
  · intro j a b; omega
set_option maxRecDepth 100000 in
set_option maxHeartbeats 4000000 in
theorem q_joint {E : EV} (hE : Stb E) (b : Nat → Nat) (τ : St) (X : vWd) (s : Int) (o : Int) (P : St) (hp : MI P ∧ LR P τ ∧ LT P τ ∧ LE P τ ∧ (0 ≤ s ∧ s < P 0 2) ∧ (0 ≤ o ∧ o < P 0 2)) : MC E yL_joint sL_joint [.ref (b 0), .ref (b 3), .ref (b 4), .int (zI s), .int (zI o)] (lW b τ X) (fun v w => v = some (.int (zI (ljr P (P 0 11) (P 0 12) s o))) ∧ w = (lW b τ X)) := by
  refine MC.of hE [some (.ref (b 0)), some (.ref (b 3)), some (.ref (b 4)), some (.int (zI s)), some (.int (zI o)), none] 1 rfl rfl rfl (by simp [Value.category]) (Nat.le_of_ble_eq_true rfl) (fun K hK hR => ?_)
  obtain ⟨hM, hL, hp⟩ := hp
  have mR := hM.1
  have mC := hM.2.1
  have mN := hM.2.2.1
  have mp := hM.pts
  have ma := hM.als
  have mV := hM.2.2.2.1
  have mW := hM.2.2.2.2.1
  obtain ⟨hT, hE4, hs, ho⟩ := hp
  have loop_3 : ∀ (n0 : Nat) (m : Int), (100 - m).toNat = n0 → (1 ≤ m ∧ m ≤ 100) → (∀ j, 1 ≤ j → j < m → ¬ jOK P (P 0 11) (P 0 12) s o j) → V K sL_joint 0 0 (lW b τ X) [some (.ref (b 0)), some (.ref (b 3)), some (.ref (b 4)), some (.int (zI s)), some (.int (zI o)), some (.int (zI m))] [] 3 := by
    intro n0
    induction n0 using Nat.strongRecOn with
    | _ n0 ih_3 =>
    intro m hm_3 hm hno
    refine V_iload dL_joint_3 rfl ?_
    refine V_bipush dL_joint_5 (by decide) ?_
    refine V_icmp_ge (tgt := 67) dL_joint_7 (by decide) ⟨⟨by omega, by omega⟩, ⟨by omega, by omega⟩⟩ (fun c_1 => ?_) (fun c_1 => ?_)
    · refine V_iconst dL_joint_67 ?_
      refine V_iret hR rfl (Nat.le_of_ble_eq_true rfl) (Nat.le_of_ble_eq_true rfl) dL_joint_68 ?_
      exact ⟨ziE (ljr_no (fun j a b => hno j a (by omega))), rfl⟩
    · refine V_aload_n dL_joint_10 rfl ?_
      refine V_aload_n dL_joint_11 rfl ?_
      refine V_aload_n dL_joint_12 rfl ?_
      refine V_iload_n dL_joint_13 rfl ?_
      refine V_iload_n dL_joint_14 rfl ?_
      refine V_iconst dL_joint_15 ?_
      refine V_iload dL_joint_16 rfl ?_
      refine V_iconst dL_joint_18 ?_
      refine V_callSF (As := [.ref (b 0), .ref (b 3), .ref (b 4), .int (zI s), .int (zI s), .int (zI 1), .int (zI m), .int (zI 0)]) hK (q_isRight hE b τ X s s 1 m 0 P ⟨hM, hL, hT, hE4, hs, hs, Or.inr (Or.inl ⟨rfl, by omega, by omega⟩)⟩) mokL_isRight w945 w946 ⟨Nat.le_of_ble_eq_true rfl, Nat.le_of_ble_eq_true rfl⟩ rfl (Nat.le_of_ble_eq_true rfl) ⟨Nat.le_of_ble_eq_true rfl, Nat.le_of_ble_eq_true rfl⟩ dL_joint_19 (fun v w p_2 => ?_)
      obtain ⟨rfl, rfl⟩ := p_2
      show V K sL_joint 0 0 (lW b τ X) _ [.int (zI (bz (dcd (RG P (P 0 11) (P 0 12) s s 1 m 0))))] 22
      refine V_ifc_eq (tgt := 61) dL_joint_22 (by decide) (fun c_3 => ?_) (fun c_3 => ?_)
      · refine V_iinc (L' := [some (.ref (b 0)), some (.ref (b 3)), some (.ref (b 4)), some (.int (zI s)), some (.int (zI o)), some (.int (zI (m + 1)))]) dL_joint_61 (by decide) rfl rfl ?_
        refine V_goto (tgt := 3) dL_joint_64 (by decide) ?_
        refine ih_3 _ (by omega) (m + 1) rfl ?_ ?_
        · omega
        · intro j a b
          by_cases q : j = m
          · rw [q]; exact fun h => c_3 (jOK_RG (by omega) h).1
          · exact hno j a (by omega)
      · refine V_aload_n dL_joint_25 rfl ?_
        refine V_aload_n dL_joint_26 rfl ?_
        refine V_aload_n dL_joint_27 rfl ?_
        refine V_iload dL_joint_28 rfl ?_
        refine V_iload dL_joint_30 rfl ?_
        refine V_iconst dL_joint_32 ?_
        refine V_iload dL_joint_33 rfl ?_
        refine V_iconst dL_joint_35 ?_
        refine V_callSF (As := [.ref (b 0), .ref (b 3), .ref (b 4), .int (zI o), .int (zI o), .int (zI 1), .int (zI m), .int (zI 0)]) hK (q_isRight hE b τ X o o 1 m 0 P ⟨hM, hL, hT, hE4, ho, ho, Or.inr (Or.inl ⟨rfl, by omega, by omega⟩)⟩) mokL_isRight w945 w946 ⟨Nat.le_of_ble_eq_true rfl, Nat.le_of_ble_eq_true rfl⟩ rfl (Nat.le_of_ble_eq_true rfl) ⟨Nat.le_of_ble_eq_true rfl, Nat.le_of_ble_eq_true rfl⟩ dL_joint_36 (fun v w p_4 => ?_)
        obtain ⟨rfl, rfl⟩ := p_4
        show V K sL_joint 0 0 (lW b τ X) _ [.int (zI (bz (dcd (RG P (P 0 11) (P 0 12) o o 1 m 0))))] 39
        refine V_ifc_eq (tgt := 61) dL_joint_39 (by decide) (fun c_5 => ?_) (fun c_5 => ?_)
        · refine V_iinc (L' := [some (.ref (b 0)), some (.ref (b 3)), some (.ref (b 4)), some (.int (zI s)), some (.int (zI o)), some (.int (zI (m + 1)))]) dL_joint_61 (by decide) rfl rfl ?_
          refine V_goto (tgt := 3) dL_joint_64 (by decide) ?_
          refine ih_3 _ (by omega) (m + 1) rfl ?_ ?_
          · omega
          · intro j a b
            by_cases q : j = m
            · rw [q]; exact fun h => c_5 (jOK_RG (by omega) h).2.1
            · exact hno j a (by omega)
        · refine V_aload_n dL_joint_42 rfl ?_
          refine V_aload_n dL_joint_43 rfl ?_
          refine V_aload_n dL_joint_44 rfl ?_
          refine V_iload_n dL_joint_45 rfl ?_
          refine V_iload dL_joint_46 rfl ?_
          refine V_iconst dL_joint_48 ?_
          refine V_iload dL_joint_49 rfl ?_
          refine V_iconst dL_joint_51 ?_
          refine V_callSF (As := [.ref (b 0), .ref (b 3), .ref (b 4), .int (zI s), .int (zI o), .int (zI 1), .int (zI m), .int (zI 0)]) hK (q_isRight hE b τ X s o 1 m 0 P ⟨hM, hL, hT, hE4, hs, ho, Or.inr (Or.inl ⟨rfl, by omega, by omega⟩)⟩) mokL_isRight w945 w946 ⟨Nat.le_of_ble_eq_true rfl, Nat.le_of_ble_eq_true rfl⟩ rfl (Nat.le_of_ble_eq_true rfl) ⟨Nat.le_of_ble_eq_true rfl, Nat.le_of_ble_eq_true rfl⟩ dL_joint_52 (fun v w p_6 => ?_)
          obtain ⟨rfl, rfl⟩ := p_6
          show V K sL_joint 0 0 (lW b τ X) _ [.int (zI (bz (dcd (RG P (P 0 11) (P 0 12) s o 1 m 0))))] 55
          refine V_ifc_eq (tgt := 61) dL_joint_55 (by decide) (fun c_7 => ?_) (fun c_7 => ?_)
          · refine V_iinc (L' := [some (.ref (b 0)), some (.ref (b 3)), some (.ref (b 4)), some (.int (zI s)), some (.int (zI o)), some (.int (zI (m + 1)))]) dL_joint_61 (by decide) rfl rfl ?_
            refine V_goto (tgt := 3) dL_joint_64 (by decide) ?_
            refine ih_3 _ (by omega) (m + 1) rfl ?_ ?_
            · omega
            · intro j a b
              by_cases q : j = m
              · rw [q]; exact fun h => c_7 (jOK_RG (by omega) h).2.2
              · exact hno j a (by omega)
          · refine V_iload dL_joint_58 rfl ?_
            refine V_iret hR rfl (Nat.le_of_ble_eq_true rfl) (Nat.le_of_ble_eq_true rfl) dL_joint_60 ?_
            exact ⟨ziE (ljr_yes ⟨hm.1, RG_jOK (by omega) c_3 c_5 c_7, hno⟩ (by omega)), rfl⟩
  have seg_3 : ∀ (m : Int), (1 ≤ m ∧ m ≤ 100) → (∀ j, 1 ≤ j → j < m → ¬ jOK P (P 0 11) (P 0 12) s o j) → V K sL_joint 0 0 (lW b τ X) [some (.ref (b 0)), some (.ref (b 3)), some (.ref (b 4)), some (.int (zI s)), some (.int (zI o)), some (.int (zI m))] [] 3 := fun m hm hno => loop_3 _ m rfl hm hno
  refine V_iconst dL_joint_0 ?_
  refine V_istore (L' := [some (.ref (b 0)), some (.ref (b 3)), some (.ref (b 4)), some (.int (zI s)), some (.int (zI o)), some (.int (zI 1))]) dL_joint_1 (by decide) rfl ?_
  refine seg_3 1 ?_ ?_
  · omega
  · intro j a b; omega
set_option maxRecDepth 100000 in
set_option maxHeartbeats 4000000 in
theorem q_two {E : EV} (hE : Stb E) (b : Nat → Nat) (τ : St) (X : vWd) (s : Int) (P : St) (hp : MI P ∧ LR P τ ∧ LT P τ ∧ LE P τ ∧ (0 ≤ s ∧ s < P 0 2)) : MC E yL_two sL_two [.ref (b 0), .ref (b 3), .ref (b 4), .int (zI s)] (lW b τ X) (fun v w => v = some (.int (zI (100 * tw1 P (P 0 11) (P 0 12) s + tw2 P (P 0 11) (P 0 12) s))) ∧ w = (lW b τ X)) := by
  refine MC.of hE [some (.ref (b 0)), some (.ref (b 3)), some (.ref (b 4)), some (.int (zI s)), none, none] 2 rfl rfl rfl (by simp [Value.category]) (Nat.le_of_ble_eq_true rfl) (fun K hK hR => ?_)
  obtain ⟨hM, hL, hp⟩ := hp
  have mR := hM.1
  have mC := hM.2.1
  have mN := hM.2.2.1
  have mp := hM.pts
  have ma := hM.als
  have mV := hM.2.2.2.1
  have mW := hM.2.2.2.2.1
  obtain ⟨hT, hE4, hs⟩ := hp
  have hsm := hL.small hM
  have hRC := tOK_RC hM (P 0 11) (P 0 12) s
  have loop_3 : ∀ (n0 : Nat) (m : Int), (pt P - m).toNat = n0 → (1 ≤ m ∧ m ≤ pt P) → (∀ u v, (1 ≤ u ∧ u ≤ P 0 0) → (1 ≤ v ∧ v ≤ P 0 1) → u * v < m → ¬ tOK P (P 0 11) (P 0 12) s u v) → V K sL_two 0 0 (lW b τ X) [some (.ref (b 0)), some (.ref (b 3)), some (.ref (b 4)), some (.int (zI s)), some (.int (zI m)), none] [] 3 := by
    intro n0
    induction n0 using Nat.strongRecOn with
    | _ n0 ih_3 =>
    intro m hm_3 hm hno
    have loop_15 : ∀ (n0 : Nat) (u : Int), (P 0 0 + 1 - u).toNat = n0 → (m < pt P) → (1 ≤ u ∧ u ≤ P 0 0 + 1) → (∀ w v, (1 ≤ w ∧ w < u) → (1 ≤ v ∧ v ≤ P 0 1) → w * v = m → ¬ tOK P (P 0 11) (P 0 12) s w v) → V K sL_two 0 0 (lW b τ X) [some (.ref (b 0)), some (.ref (b 3)), some (.ref (b 4)), some (.int (zI s)), some (.int (zI m)), some (.int (zI u))] [] 15 := by
      intro n0
      induction n0 using Nat.strongRecOn with
      | _ n0 ih_15 =>
      intro u hm_15 hmn hu hnu
      refine V_iload dL_two_15 rfl ?_
      refine V_aload_n dL_two_17 rfl ?_
      refine V_iconst dL_two_18 ?_
      refine ll_0 ⟨by omega, by omega⟩ dL_two_19 ?_
      refine V_eqT (y := zI (P 0 0)) (congrArg zI (LR.g0 hL)) ?_
      refine V_icmp_gt (tgt := 79) dL_two_20 (by decide) ⟨⟨by omega, by omega⟩, ⟨by omega, by omega⟩⟩ (fun c_1 => ?_) (fun c_1 => ?_)
      · refine V_iinc (L' := [some (.ref (b 0)), some (.ref (b 3)), some (.ref (b 4)), some (.int (zI s)), some (.int (zI (m + 1))), some (.int (zI u))]) dL_two_79 (by decide) rfl rfl ?_
        refine V_goto (tgt := 3) dL_two_82 (by decide) ?_
        refine V_mask (L' := [some (.ref (b 0)), some (.ref (b 3)), some (.ref (b 4)), some (.int (zI s)), some (.int (zI (m + 1))), none]) [true, true, true, true, true, false] rfl ?_
        refine ih_3 _ (by omega) (m + 1) rfl ?_ ?_
        · omega
        · intro w v a b c
          by_cases q : w * v = m
          · exact hnu w v (by omega) b q
          · exact hno w v a b (by omega)
      · refine V_iload dL_two_23 rfl ?_
        refine V_iload dL_two_25 rfl ?_
        refine V_iremN dL_two_27 ⟨⟨by omega, by omega⟩, ⟨by omega, by omega⟩, by omega, by omega⟩ ?_
        have hmb : 0 ≤ m % u ∧ m % u < u := ⟨Int.emod_nonneg _ (by omega), Int.emod_lt_of_pos _ (by omega)⟩
        refine V_if_ne (tgt := 73) dL_two_28 (by decide) ⟨by omega, by omega⟩ (fun c_2 => ?_) (fun c_2 => ?_)
        · refine V_iinc (L' := [some (.ref (b 0)), some (.ref (b 3)), some (.ref (b 4)), some (.int (zI s)), some (.int (zI m)), some (.int (zI (u + 1)))]) dL_two_73 (by decide) rfl rfl ?_
          refine V_goto (tgt := 15) dL_two_76 (by decide) ?_
          refine ih_15 _ (by omega) (u + 1) rfl ?_ ?_ ?_
          · omega
          · omega
          · intro w v a b c
            by_cases q : w = u
            · subst q; exact absurd (by rw [← c]; exact Int.mul_emod_right _ _) c_2
            · exact hnu w v (by omega) b c
        · refine V_iload dL_two_31 rfl ?_
          refine V_iload dL_two_33 rfl ?_
          have hdv := div_b hm.1 hu.1 c_2
          refine V_idiv dL_two_35 ⟨⟨by omega, by omega⟩, ⟨by omega, by omega⟩, by omega, by omega⟩ ?_
          refine V_aload_n dL_two_36 rfl ?_
          refine V_iconst dL_two_37 ?_
          refine ll_0 ⟨by omega, by omega⟩ dL_two_38 ?_
          refine V_eqT (y := zI (P 0 1)) (congrArg zI (LR.g1 hL)) ?_
          refine V_icmp_gt (tgt := 73) dL_two_39 (by decide) ⟨⟨by omega, by omega⟩, ⟨by omega, by omega⟩⟩ (fun c_3 => ?_) (fun c_3 => ?_)
          · refine V_iinc (L' := [some (.ref (b 0)), some (.ref (b 3)), some (.ref (b 4)), some (.int (zI s)), some (.int (zI m)), some (.int (zI (u + 1)))]) dL_two_73 (by decide) rfl rfl ?_
            refine V_goto (tgt := 15) dL_two_76 (by decide) ?_
            refine ih_15 _ (by omega) (u + 1) rfl ?_ ?_ ?_
            · omega
            · omega
            · intro w v a b c
              by_cases q : w = u
              · subst q; exact absurd (show m / w = v by rw [← c]; exact Int.mul_ediv_cancel_left _ (by omega)) (by omega)
              · exact hnu w v (by omega) b c
          · refine V_aload_n dL_two_42 rfl ?_
            refine V_aload_n dL_two_43 rfl ?_
            refine V_aload_n dL_two_44 rfl ?_
            refine V_iload_n dL_two_45 rfl ?_
            refine V_iload_n dL_two_46 rfl ?_
            refine V_iconst dL_two_47 ?_
            refine V_iload dL_two_48 rfl ?_
            refine V_iload dL_two_50 rfl ?_
            refine V_iload dL_two_52 rfl ?_
            refine V_idiv dL_two_54 ⟨⟨by omega, by omega⟩, ⟨by omega, by omega⟩, by omega, by omega⟩ ?_
            refine V_callSF (As := [.ref (b 0), .ref (b 3), .ref (b 4), .int (zI s), .int (zI s), .int (zI 2), .int (zI u), .int (zI (m / u))]) hK (q_isRight hE b τ X s s 2 u (m / u) P ⟨hM, hL, hT, hE4, hs, hs, Or.inr (Or.inr (Or.inl ⟨rfl, by omega, by omega, by omega, by omega⟩))⟩) mokL_isRight w945 w946 ⟨Nat.le_of_ble_eq_true rfl, Nat.le_of_ble_eq_true rfl⟩ rfl (Nat.le_of_ble_eq_true rfl) ⟨Nat.le_of_ble_eq_true rfl, Nat.le_of_ble_eq_true rfl⟩ dL_two_55 (fun v w p_4 => ?_)
            obtain ⟨rfl, rfl⟩ := p_4
            show V K sL_two 0 0 (lW b τ X) _ [.int (zI (bz (dcd (RG P (P 0 11) (P 0 12) s s 2 u (m / u)))))] 58
            refine V_ifc_eq (tgt := 73) dL_two_58 (by decide) (fun c_5 => ?_) (fun c_5 => ?_)
            · refine V_iinc (L' := [some (.ref (b 0)), some (.ref (b 3)), some (.ref (b 4)), some (.int (zI s)), some (.int (zI m)), some (.int (zI (u + 1)))]) dL_two_73 (by decide) rfl rfl ?_
              refine V_goto (tgt := 15) dL_two_76 (by decide) ?_
              refine ih_15 _ (by omega) (u + 1) rfl ?_ ?_ ?_
              · omega
              · omega
              · intro w v a b c
                by_cases q : w = u
                · subst q; intro h; refine c_5 ((RG_t hM (by omega) (by omega)).mpr ?_); rw [show m / w = v by rw [← c]; exact Int.mul_ediv_cancel_left _ (by omega)]; exact h
                · exact hnu w v (by omega) b c
            · refine V_bipush dL_two_61 (by decide) ?_
              refine V_iload dL_two_63 rfl ?_
              refine V_imul dL_two_65 ?_
              refine V_iload dL_two_66 rfl ?_
              refine V_iload dL_two_68 rfl ?_
              refine V_idiv dL_two_70 ⟨⟨by omega, by omega⟩, ⟨by omega, by omega⟩, by omega, by omega⟩ ?_
              refine V_iadd dL_two_71 ?_
              refine V_iret hR rfl (Nat.le_of_ble_eq_true rfl) (Nat.le_of_ble_eq_true rfl) dL_two_72 ?_
              have ht := two_eq (P := P) (bw := P 0 11) (cw := P 0 12) (s := s) (a := u) (b := m / u) ⟨⟨⟨hu.1, by omega⟩, by omega, by omega⟩, (RG_t hM (by omega) (by omega)).mp c_5, fun w v a b h => by
                rw [hdv.2]
                by_cases q1 : w * v < m
                · exact absurd h (hno w v a b q1)
                · by_cases q2 : w * v = m
                  · refine Or.inr ⟨q2.symm, ?_⟩
                    apply Int.not_lt.mp
                    intro q3
                    exact hnu w v ⟨a.1, q3⟩ b q2 h
                  · exact Or.inl (by omega)⟩
              exact ⟨ziE (by rw [← ht.1, ← ht.2]), rfl⟩
    have seg_15 : ∀ (u : Int), (m < pt P) → (1 ≤ u ∧ u ≤ P 0 0 + 1) → (∀ w v, (1 ≤ w ∧ w < u) → (1 ≤ v ∧ v ≤ P 0 1) → w * v = m → ¬ tOK P (P 0 11) (P 0 12) s w v) → V K sL_two 0 0 (lW b τ X) [some (.ref (b 0)), some (.ref (b 3)), some (.ref (b 4)), some (.int (zI s)), some (.int (zI m)), some (.int (zI u))] [] 15 := fun u hmn hu hnu => loop_15 _ u rfl hmn hu hnu
    refine V_iload dL_two_3 rfl ?_
    refine V_aload_n dL_two_5 rfl ?_
    refine V_callSF (As := [.ref (b 0)]) hK (q_points hE b τ X P ⟨hM, hL⟩) mokL_points w871 w872 ⟨Nat.le_of_ble_eq_true rfl, Nat.le_of_ble_eq_true rfl⟩ rfl (Nat.le_of_ble_eq_true rfl) ⟨Nat.le_of_ble_eq_true rfl, Nat.le_of_ble_eq_true rfl⟩ dL_two_6 (fun v w p_6 => ?_)
    obtain ⟨rfl, rfl⟩ := p_6
    show V K sL_two 0 0 (lW b τ X) _ [.int (zI (pt P)), .int (zI m)] 9
    refine V_icmp_ge (tgt := 85) dL_two_9 (by decide) ⟨⟨by omega, by omega⟩, ⟨by omega, by omega⟩⟩ (fun c_7 => ?_) (fun c_7 => ?_)
    · refine V_bipush dL_two_85 (by decide) ?_
      refine V_aload_n dL_two_87 rfl ?_
      refine V_iconst dL_two_88 ?_
      refine ll_0 ⟨by omega, by omega⟩ dL_two_89 ?_
      refine V_eqT (y := zI (P 0 0)) (congrArg zI (LR.g0 hL)) ?_
      refine V_imul dL_two_90 ?_
      refine V_aload_n dL_two_91 rfl ?_
      refine V_iconst dL_two_92 ?_
      refine ll_0 ⟨by omega, by omega⟩ dL_two_93 ?_
      refine V_eqT (y := zI (P 0 1)) (congrArg zI (LR.g1 hL)) ?_
      refine V_iadd dL_two_94 ?_
      refine V_iret hR rfl (Nat.le_of_ble_eq_true rfl) (Nat.le_of_ble_eq_true rfl) dL_two_95 ?_
      have ht := two_eq (P := P) (bw := P 0 11) (cw := P 0 12) (s := s) (a := P 0 0) (b := P 0 1) ⟨⟨⟨mR.1, Int.le_refl _⟩, mC.1, Int.le_refl _⟩, hRC, fun w v a b h => by
        have h1 : ¬ w * v < m := fun q => hno w v a b q h
        have h2 := Int.mul_le_mul a.2 b.2 (by omega) (by omega)
        have h3 : P 0 0 * P 0 1 = pt P := rfl
        obtain ⟨e1, e2⟩ := two_max a b (by omega)
        exact Or.inr ⟨by rw [e1, e2], by omega⟩⟩
      exact ⟨ziE (by rw [← ht.1, ← ht.2]), rfl⟩
    · refine V_iconst dL_two_12 ?_
      refine V_istore (L' := [some (.ref (b 0)), some (.ref (b 3)), some (.ref (b 4)), some (.int (zI s)), some (.int (zI m)), some (.int (zI 1))]) dL_two_13 (by decide) rfl ?_
      refine seg_15 1 ?_ ?_ ?_
      · omega
      · omega
      · intro w v a b c; omega
  have seg_3 : ∀ (m : Int), (1 ≤ m ∧ m ≤ pt P) → (∀ u v, (1 ≤ u ∧ u ≤ P 0 0) → (1 ≤ v ∧ v ≤ P 0 1) → u * v < m → ¬ tOK P (P 0 11) (P 0 12) s u v) → V K sL_two 0 0 (lW b τ X) [some (.ref (b 0)), some (.ref (b 3)), some (.ref (b 4)), some (.int (zI s)), some (.int (zI m)), none] [] 3 := fun m hm hno => loop_3 _ m rfl hm hno
  refine V_iconst dL_two_0 ?_
  refine V_istore (L' := [some (.ref (b 0)), some (.ref (b 3)), some (.ref (b 4)), some (.int (zI s)), some (.int (zI 1)), none]) dL_two_1 (by decide) rfl ?_
  refine seg_3 1 ?_ ?_
  · omega
  · intro u v a b c
    have := Int.mul_le_mul a.1 b.1 (by decide) (by omega)
    omega
set_option maxRecDepth 100000 in
set_option maxHeartbeats 4000000 in
theorem q_slant {E : EV} (hE : Stb E) (b : Nat → Nat) (τ : St) (X : vWd) (s : Int) (P : St) (hp : MI P ∧ LR P τ ∧ LT P τ ∧ LE P τ ∧ (0 ≤ s ∧ s < P 0 2)) : MC E yL_slant sL_slant [.ref (b 0), .ref (b 3), .ref (b 4), .int (zI s)] (lW b τ X) (fun v w => v = some (.int (zI (ls P (P 0 11) (P 0 12) s))) ∧ w = (lW b τ X)) := by
  refine MC.of hE [some (.ref (b 0)), some (.ref (b 3)), some (.ref (b 4)), some (.int (zI s)), none, none] 2 rfl rfl rfl (by simp [Value.category]) (Nat.le_of_ble_eq_true rfl) (fun K hK hR => ?_)
  obtain ⟨hM, hL, hp⟩ := hp
  have mR := hM.1
  have mC := hM.2.1
  have mN := hM.2.2.1
  have mp := hM.pts
  have ma := hM.als
  have mV := hM.2.2.2.1
  have mW := hM.2.2.2.2.1
  obtain ⟨hT, hE4, hs⟩ := hp
  have hsm := hL.small hM
  have hli := ls_spec hM (P 0 11) (P 0 12) s
  have hl2 := hli.2
  have loop_3 : ∀ (n0 : Nat) (m : Int), (30 - m).toNat = n0 → (1 ≤ m ∧ 10 * m ≤ ls P (P 0 11) (P 0 12) s) → (∀ j, 10 ≤ j → j < 10 * m → ¬ sOK P (P 0 11) (P 0 12) s (j % 10) (j / 10)) → V K sL_slant 0 0 (lW b τ X) [some (.ref (b 0)), some (.ref (b 3)), some (.ref (b 4)), some (.int (zI s)), some (.int (zI m)), none] [] 3 := by
    intro n0
    induction n0 using Nat.strongRecOn with
    | _ n0 ih_3 =>
    intro m hm_3 hm hno
    have loop_6 : ∀ (n0 : Nat) (k : Int), (10 - k).toNat = n0 → (0 ≤ k ∧ k ≤ 10 ∧ 10 * m + k ≤ ls P (P 0 11) (P 0 12) s) → (∀ j, 10 ≤ j → j < 10 * m + k → ¬ sOK P (P 0 11) (P 0 12) s (j % 10) (j / 10)) → V K sL_slant 0 0 (lW b τ X) [some (.ref (b 0)), some (.ref (b 3)), some (.ref (b 4)), some (.int (zI s)), some (.int (zI m)), some (.int (zI k))] [] 6 := by
      intro n0
      induction n0 using Nat.strongRecOn with
      | _ n0 ih_6 =>
      intro k hm_6 hk hno2
      refine V_iload dL_slant_6 rfl ?_
      refine V_bipush dL_slant_8 (by decide) ?_
      refine V_icmp_ge (tgt := 44) dL_slant_10 (by decide) ⟨⟨by omega, by omega⟩, ⟨by omega, by omega⟩⟩ (fun c_1 => ?_) (fun c_1 => ?_)
      · refine V_iinc (L' := [some (.ref (b 0)), some (.ref (b 3)), some (.ref (b 4)), some (.int (zI s)), some (.int (zI (m + 1))), some (.int (zI k))]) dL_slant_44 (by decide) rfl rfl ?_
        refine V_goto (tgt := 3) dL_slant_47 (by decide) ?_
        refine V_mask (L' := [some (.ref (b 0)), some (.ref (b 3)), some (.ref (b 4)), some (.int (zI s)), some (.int (zI (m + 1))), none]) [true, true, true, true, true, false] rfl ?_
        refine ih_3 _ (by omega) (m + 1) rfl ?_ ?_
        · omega
        · intro j a b; exact hno2 j a (by omega)
      · have hk9 : k < 10 := by omega
        have hdm : (10 * m + k) % 10 = k ∧ (10 * m + k) / 10 = m := by omega
        refine V_aload_n dL_slant_13 rfl ?_
        refine V_aload_n dL_slant_14 rfl ?_
        refine V_aload_n dL_slant_15 rfl ?_
        refine V_iload_n dL_slant_16 rfl ?_
        refine V_iload_n dL_slant_17 rfl ?_
        refine V_iconst dL_slant_18 ?_
        refine V_iload dL_slant_19 rfl ?_
        refine V_iload dL_slant_21 rfl ?_
        refine V_callSF (As := [.ref (b 0), .ref (b 3), .ref (b 4), .int (zI s), .int (zI s), .int (zI 3), .int (zI k), .int (zI m)]) hK (q_isRight hE b τ X s s 3 k m P ⟨hM, hL, hT, hE4, hs, hs, Or.inr (Or.inr (Or.inr ⟨rfl, by omega, by omega, by omega, by omega⟩))⟩) mokL_isRight w945 w946 ⟨Nat.le_of_ble_eq_true rfl, Nat.le_of_ble_eq_true rfl⟩ rfl (Nat.le_of_ble_eq_true rfl) ⟨Nat.le_of_ble_eq_true rfl, Nat.le_of_ble_eq_true rfl⟩ dL_slant_23 (fun v w p_2 => ?_)
        obtain ⟨rfl, rfl⟩ := p_2
        show V K sL_slant 0 0 (lW b τ X) _ [.int (zI (bz (dcd (RG P (P 0 11) (P 0 12) s s 3 k m))))] 26
        refine V_ifc_eq (tgt := 38) dL_slant_26 (by decide) (fun c_3 => ?_) (fun c_3 => ?_)
        · refine V_iinc (L' := [some (.ref (b 0)), some (.ref (b 3)), some (.ref (b 4)), some (.int (zI s)), some (.int (zI m)), some (.int (zI (k + 1)))]) dL_slant_38 (by decide) rfl rfl ?_
          refine V_goto (tgt := 6) dL_slant_41 (by decide) ?_
          refine ih_6 _ (by omega) (k + 1) rfl ?_ ?_
          · refine ⟨by omega, by omega, ?_⟩
            apply Int.not_lt.mp
            intro q
            refine c_3 ((RG_sl hM (by omega) (by omega)).mpr ?_)
            have h := hli.1.2.1
            rw [show ls P (P 0 11) (P 0 12) s = 10 * m + k by omega] at h
            rw [show (10 * m + k) % 10 = k by omega, show (10 * m + k) / 10 = m by omega] at h
            exact h
          · intro j a b
            by_cases q : j = 10 * m + k
            · rw [q, hdm.1, hdm.2]; exact fun h => c_3 ((RG_sl hM (by omega) (by omega)).mpr h)
            · exact hno2 j a (by omega)
        · refine V_bipush dL_slant_29 (by decide) ?_
          refine V_iload dL_slant_31 rfl ?_
          refine V_imul dL_slant_33 ?_
          refine V_iload dL_slant_34 rfl ?_
          refine V_iadd dL_slant_36 ?_
          refine V_iret hR rfl (Nat.le_of_ble_eq_true rfl) (Nat.le_of_ble_eq_true rfl) dL_slant_37 ?_
          exact ⟨ziE (lst_eq (p := fun k => sOK P (P 0 11) (P 0 12) s (k % 10) (k / 10)) ⟨by omega, by show sOK P (P 0 11) (P 0 12) s ((10 * m + k) % 10) ((10 * m + k) / 10); rw [hdm.1, hdm.2]; exact (RG_sl hM (by omega) (by omega)).mp c_3, hno2⟩), rfl⟩
    have seg_6 : ∀ (k : Int), (0 ≤ k ∧ k ≤ 10 ∧ 10 * m + k ≤ ls P (P 0 11) (P 0 12) s) → (∀ j, 10 ≤ j → j < 10 * m + k → ¬ sOK P (P 0 11) (P 0 12) s (j % 10) (j / 10)) → V K sL_slant 0 0 (lW b τ X) [some (.ref (b 0)), some (.ref (b 3)), some (.ref (b 4)), some (.int (zI s)), some (.int (zI m)), some (.int (zI k))] [] 6 := fun k hk hno2 => loop_6 _ k rfl hk hno2
    refine V_iconst dL_slant_3 ?_
    refine V_istore (L' := [some (.ref (b 0)), some (.ref (b 3)), some (.ref (b 4)), some (.int (zI s)), some (.int (zI m)), some (.int (zI 0))]) dL_slant_4 (by decide) rfl ?_
    refine seg_6 0 ?_ ?_
    · omega
    · intro j a b; exact hno j a (by omega)
  have seg_3 : ∀ (m : Int), (1 ≤ m ∧ 10 * m ≤ ls P (P 0 11) (P 0 12) s) → (∀ j, 10 ≤ j → j < 10 * m → ¬ sOK P (P 0 11) (P 0 12) s (j % 10) (j / 10)) → V K sL_slant 0 0 (lW b τ X) [some (.ref (b 0)), some (.ref (b 3)), some (.ref (b 4)), some (.int (zI s)), some (.int (zI m)), none] [] 3 := fun m hm hno => loop_3 _ m rfl hm hno
  refine V_iconst dL_slant_0 ?_
  refine V_istore (L' := [some (.ref (b 0)), some (.ref (b 3)), some (.ref (b 4)), some (.int (zI s)), some (.int (zI 1)), none]) dL_slant_1 (by decide) rfl ?_
  refine seg_3 1 ?_ ?_
  · exact ⟨by omega, hli.1.1⟩
  · intro j a b; omega
