/-! the class: a statement added -/
theorem all1 {α : Type} {p : α → Prop} {a : α} (h : p a) : ∀ x ∈ [a], p x := List.forall_mem_cons.mpr ⟨h, fun _ h => absurd h List.not_mem_nil⟩
theorem all2 {α : Type} {p : α → Prop} {a b : α} (h : p a) (h2 : p b) : ∀ x ∈ [a, b], p x := List.forall_mem_cons.mpr ⟨h, all1 h2⟩
theorem all3 {α : Type} {p : α → Prop} {a b d : α} (h : p a) (h2 : p b) (h3 : p d) : ∀ x ∈ [a, b, d], p x := List.forall_mem_cons.mpr ⟨h, all2 h2 h3⟩
def cup (c : Nat → Nat) (i x : Nat) : Nat → Nat := fun p => if p = i then x else c p
theorem cup_eq (c : Nat → Nat) (i x : Nat) : cup c i x i = x := if_pos rfl
theorem cup_ne {c : Nat → Nat} {i x p : Nat} (h : p ≠ i) : cup c i x p = c p := if_neg h
def asC (c : Nat → Nat) (n : Int) (q r w ad : Nat) : Nat → Nat := cup (cup (cup (cup c 68 ad) (35 + 8 * n.toNat) r) (34 + 8 * n.toNat) w) (33 + 8 * n.toNat) q
theorem asC_ne {c : Nat → Nat} {n : Int} {q r w ad p : Nat} (h0 : p ≠ 68) (h : p < 33 + 8 * n.toNat ∨ 35 + 8 * n.toNat < p) : asC c n q r w ad p = c p := by
  unfold asC
  rw [cup_ne (by omega), cup_ne (by omega), cup_ne (by omega), cup_ne h0]
def asK (κ : St) (n v : Int) : St := up (up (up (up (up (up (up (up (up (up (up (up κ 3 n v) 13 n 0) 0 2 (n + 1)) 39 n 0) 40 n 1) 41 n 1) 42 n 1) 43 n 0) 79 4 (κ 79 4 + 1)) 79 n 0) 80 4 1) 80 n 0
theorem asK_ne {κ : St} {n v : Int} {k : Nat} (h : k ≠ 0 ∧ k ≠ 3 ∧ k ≠ 13 ∧ (k < 39 ∨ 43 < k) ∧ k ≠ 79 ∧ k ≠ 80) : asK κ n v k = κ k := by
  unfold asK
  rw [up_ne (by omega), up_ne (by omega), up_ne (by omega), up_ne (by omega), up_ne (by omega), up_ne (by omega), up_ne (by omega), up_ne (by omega), up_ne (by omega), up_ne (by omega), up_ne (by omega), up_ne (by omega)]
theorem asK_t {κ : St} {n v t : Int} (h : t ≠ n) (h4 : t ≠ 4) (k : Nat) (hk : k ≠ 0) : asK κ n v k t = κ k t := by
  by_cases a : k ≠ 0 ∧ k ≠ 3 ∧ k ≠ 13 ∧ (k < 39 ∨ 43 < k) ∧ k ≠ 79 ∧ k ≠ 80
  · rw [asK_ne a]
  · rcases (show k = 3 ∨ k = 13 ∨ k = 39 ∨ k = 40 ∨ k = 41 ∨ k = 42 ∨ k = 43 ∨ k = 79 ∨ k = 80 by omega) with rfl | rfl | rfl | rfl | rfl | rfl | rfl | rfl | rfl
    · exact fup_ne h
    · exact fup_ne h
    · exact fup_ne h
    · exact fup_ne h
    · exact fup_ne h
    · exact fup_ne h
    · exact fup_ne h
    · exact (fup_ne h).trans (fup_ne h4)
    · exact (fup_ne h).trans (fup_ne h4)
theorem as_gpS {κ : St} {n v t : Int} (h : t ≠ n) (ht : 0 ≤ t ∧ t < 4) (h02 : κ 0 2 = n) : gpS κ (asK κ n v) t := by
  refine ⟨?_, fun k hk => asK_t h (by omega) k (by omega), fun k j hk _ _ => by rw [asK_ne (by omega)]⟩
  show t < n + 1 ↔ t < κ 0 2
  omega
theorem gp_none {en c : Nat → Nat} {κ : St} {n : Int} (h : ¬ n < κ 0 2) : gpO en c κ n = [none, none, none, none, none, none, none, none] := by
  unfold gpO
  rw [if_neg h, if_neg h, if_neg h, if_neg (fun z => h z.1), if_neg (fun z => h z.1), if_neg (fun z => h z.1), if_neg (fun z => h z.1), if_neg (fun z => h z.1)]
theorem as_gp {en c : Nat → Nat} {κ : St} {n v : Int} {q r w ad : Nat} (hn : 0 ≤ n ∧ n < 4) (h4 : κ 4 n = 0) (h9 : κ 9 n = 0) (h10 : κ 10 n = 0) : gpO en (asC c n q r w ad) (asK κ n v) n = [some (q, .inr (6, [.int (zI v), .ref r, .ref w, .int (zI 0), .int (zI 0)])), some (w, .inr (7, [.ref (en 0), .int (zI 1), .int (zI 1), .int (zI 1), .int (zI 0)])), some (r, .inr (0, [.int (zI 0), .ref (en 5), .int (zI 0)])), none, none, none, none, none] := by
  have e0 : n < asK κ n v 0 2 := by show n < n + 1; omega
  have e3 : asK κ n v 3 n = v := fup_eq _ _ _
  have e4 : asK κ n v 4 n = 0 := h4
  have e9 : asK κ n v 9 n = 0 := h9
  have e10 : asK κ n v 10 n = 0 := h10
  have e39 : asK κ n v 39 n = 0 := fup_eq _ _ _
  have e40 : asK κ n v 40 n = 1 := fup_eq _ _ _
  have e41 : asK κ n v 41 n = 1 := fup_eq _ _ _
  have e42 : asK κ n v 42 n = 1 := fup_eq _ _ _
  have e43 : asK κ n v 43 n = 0 := fup_eq _ _ _
  have e79 : asK κ n v 79 n = 0 := fup_eq _ _ _
  have e80 : asK κ n v 80 n = 0 := fup_eq _ _ _
  have ez : lsz (asK κ n v) n = 0 := by unfold lsz; rw [if_neg (by omega), e4]
  have c1 : asC c n q r w ad (33 + 8 * n.toNat) = q := cup_eq _ _ _
  have c2 : asC c n q r w ad (34 + 8 * n.toNat) = w := (cup_ne (by omega)).trans (cup_eq _ _ _)
  have c3 : asC c n q r w ad (35 + 8 * n.toNat) = r := (cup_ne (by omega)).trans ((cup_ne (by omega)).trans (cup_eq _ _ _))
  unfold gpO smF wnF alF
  rw [if_pos e0, if_pos e0, if_pos e0, if_neg (fun z : n < asK κ n v 0 2 ∧ asK κ n v 80 n ≠ 0 => z.2 e80), e4, if_neg (fun z : n < asK κ n v 0 2 ∧ (0 : Int) < 0 => by omega), if_neg (fun z : n < asK κ n v 0 2 ∧ (1 : Int) < 0 => by omega), if_neg (fun z : n < asK κ n v 0 2 ∧ (2 : Int) < 0 => by omega), if_neg (fun z : n < asK κ n v 0 2 ∧ (3 : Int) < 0 => by omega), e3, e9, e10, e39, e40, e41, e42, e43, e79, ez, if_pos e80, c1, c2, c3]
  rfl
theorem as_lA {c : Nat → Nat} {κ : St} {n v : Int} {q r w ad : Nat} (hn : 0 ≤ n ∧ n < 4) (h02 : κ 0 2 = n) : lA (asC c n q r w ad) (asK κ n v) 4 = fup (lA c κ 4) n (some q) := by
  funext j
  show (if 0 ≤ j ∧ j < n + 1 then some (asC c n q r w ad (33 + 8 * j.toNat)) else none) = (if j = n then some q else (if 0 ≤ j ∧ j < κ 0 2 then some (c (33 + 8 * j.toNat)) else none))
  by_cases e : j = n
  · subst e
    rw [if_pos (by omega), if_pos rfl]
    exact congrArg some (cup_eq _ _ _)
  · rw [if_neg e, h02]
    by_cases h : 0 ≤ j ∧ j < n
    · rw [if_pos (by omega), if_pos h, asC_ne (by omega) (by omega)]
    · rw [if_neg (by omega), if_neg h]
theorem as_tl {en c : Nat → Nat} {κ : St} {n v : Int} {q r w ad : Nat} (hn : 0 ≤ n ∧ n < 4) (h02 : κ 0 2 = n) : tlO en (asC c n q r w ad) (asK κ n v) = [none, some (c 66, .inr (7, wnF en κ 4)), some (c 67, .inr (0, [.int (zI (κ 79 4 + 1)), .ref ad, .int (zI (n + 1))])), some (ad, oE 3 10 (fup (lA c κ 4) n (some q)))] := by
  have h4 : (4 : Int) ≠ n := by omega
  have e39 : asK κ n v 39 4 = κ 39 4 := fup_ne h4
  have e40 : asK κ n v 40 4 = κ 40 4 := fup_ne h4
  have e41 : asK κ n v 41 4 = κ 41 4 := fup_ne h4
  have e42 : asK κ n v 42 4 = κ 42 4 := fup_ne h4
  have e43 : asK κ n v 43 4 = κ 43 4 := fup_ne h4
  have e79 : asK κ n v 79 4 = κ 79 4 + 1 := (fup_ne h4).trans (fup_eq (κ 79) 4 (κ 79 4 + 1))
  have e80 : asK κ n v 80 4 = 1 := (fup_ne h4).trans (fup_eq (κ 80) 4 1)
  have ez : lsz (asK κ n v) 4 = n + 1 := rfl
  have c66 : asC c n q r w ad 66 = c 66 := asC_ne (by decide) (by omega)
  have c67 : asC c n q r w ad 67 = c 67 := asC_ne (by decide) (by omega)
  have c68 : asC c n q r w ad 68 = ad := by
    unfold asC
    rw [cup_ne (by omega), cup_ne (by omega), cup_ne (by omega), cup_eq]
  have c68' : asC c n q r w ad (36 + 8 * (4 : Int).toNat) = ad := c68
  unfold tlO wnF alF
  rw [e39, e40, e41, e42, e43, e79, e80, ez, c66, c67, c68, c68', as_lA hn h02]
  rfl
theorem as_hd {en c : Nat → Nat} {κ : St} {n v : Int} {q r w ad : Nat} (hn : 0 ≤ n ∧ n < 4) : hdO en (asC c n q r w ad) (asK κ n v) = hdO en c κ := by
  refine hd_eq (fun p hp => asC_ne (by omega) (by omega)) (fun k h1 h2 => asK_ne (by omega)) (fun i hi => ?_)
  exact fup_ne hi
theorem as_gpe {en c : Nat → Nat} {κ : St} {n v t : Int} {q r w ad : Nat} (hn : 0 ≤ n ∧ n < 4) (h02 : κ 0 2 = n) (hb : ∀ t, 0 ≤ t → t < 4 → κ 4 t ≤ 4) (ht : 0 ≤ t ∧ t < 4) (h : t ≠ n) : gpO en (asC c n q r w ad) (asK κ n v) t = gpO en c κ t :=
  gp_eq ht (hb t ht.1 ht.2) (as_gpS h ht h02) (fun p h1 h2 => asC_ne (by omega) (by omega))
def asP (P : St) (n v : Int) : St := up (up (up P 3 n v) 13 n 0) 0 2 (n + 1)
theorem as_CI {P κ : St} {n v : Int} (h : CI P κ) (hn : 0 ≤ n ∧ n < 4) (h4 : κ 4 n = 0) : CI (asP P n v) (asK κ n v) := by
  refine ⟨?_, h.2.1, fun i i0 i1 hl => ?_⟩
  · have h1 : PR (asP P n v) (up (up (up κ 3 n v) 13 n 0) 0 2 (n + 1)) := ((h.1.upP 3 n v).upP 13 n 0).upP 0 2 (n + 1)
    unfold asK
    exact ((((((((h1.up (by omega)).up (by omega)).up (by omega)).up (by omega)).up (by omega)).up (by omega)).up (by omega)).up (by omega)).up (by omega)
  · by_cases e : i = n
    · subst e
      have : lsz (asK κ i v) i = κ 4 i := by unfold lsz; rw [if_neg (by omega)]; rfl
      omega
    · by_cases e4 : i = 4
      · subst e4
        have : asK κ n v 80 4 = 1 := (fup_ne (fun z => e z)).trans (fup_eq (κ 80) 4 1)
        omega
      · rw [asK_t e e4 80 (by decide)]
        refine h.2.2 i i0 i1 ?_
        have : lsz (asK κ n v) i = lsz κ i := by unfold lsz; rw [if_neg e4, if_neg e4]; rfl
        omega
theorem as_WB {κ : St} {n v : Int} (hn : 0 ≤ n ∧ n < 4) : WB (asK κ n v) n := by
  have e39 : asK κ n v 39 n = 0 := fup_eq _ _ _
  have e40 : asK κ n v 40 n = 1 := fup_eq _ _ _
  have e41 : asK κ n v 41 n = 1 := fup_eq _ _ _
  have e42 : asK κ n v 42 n = 1 := fup_eq _ _ _
  have e43 : asK κ n v 43 n = 0 := fup_eq _ _ _
  unfold WB
  omega
theorem as_keep {κ : St} {n v t : Int} (h : t ≠ n) (k : Nat) (hk : 39 ≤ k ∧ k ≤ 43) : asK κ n v k t = κ k t := by
  rcases (show k = 39 ∨ k = 40 ∨ k = 41 ∨ k = 42 ∨ k = 43 by omega) with rfl | rfl | rfl | rfl | rfl <;> exact fup_ne h
theorem as_CWP {P κ : St} {n v : Int} (h : CWP P κ) (hn : 0 ≤ n ∧ n < 4) (h02 : P 0 2 = n) (h4 : κ 4 n = 0) : CWP (asP P n v) (asK κ n v) := by
  refine ⟨as_CI h.1 hn h4, fun t t0 t1 => ?_, ?_⟩
  · have t1' : t < n + 1 := t1
    by_cases e : t = n
    · subst e
      refine ⟨?_, as_WB hn⟩
      have e39 : asK κ t v 39 t = 0 := fup_eq _ _ _
      have e13 : asP P t v 13 t = 0 := fup_eq _ _ _
      rw [e39, e13]
      exact ⟨rfl, fun z => by omega, fun z => by omega, fun z => by omega⟩
    · obtain ⟨g1, g2⟩ := h.2.1 t t0 (by omega)
      have e13 : asP P n v 13 t = P 13 t := fup_ne e
      have e14 : asP P n v 14 t = P 14 t := rfl
      have e15 : asP P n v 15 t = P 15 t := rfl
      unfold WR1 WB
      rw [as_keep e 39 (by omega), as_keep e 40 (by omega), as_keep e 41 (by omega), as_keep e 42 (by omega), as_keep e 43 (by omega), e13, e14, e15]
      exact ⟨g1, g2⟩
  · have g := h.2.2
    have h4n : (4 : Int) ≠ n := by omega
    unfold WB at g ⊢
    rw [as_keep h4n 39 (by omega), as_keep h4n 40 (by omega), as_keep h4n 41 (by omega), as_keep h4n 42 (by omega), as_keep h4n 43 (by omega)]
    exact g
theorem as_MI {P : St} {n v : Int} (hM : MI P) (hn : P 0 2 = n) (h4 : n < 4) (hv : 0 ≤ v ∧ v ≤ 99) : MI (asP P n v) := by
  obtain ⟨g1, g2, g3, g4, g5, g6, g7⟩ := hM
  refine ⟨g1, g2, (by show 0 ≤ n + 1 ∧ n + 1 ≤ 4; omega), g4, g5, fun i i0 i1 => ?_, fun i j i0 i1 j0 j1 => ?_⟩
  · obtain ⟨a1, a2, a3, a4, a5, a6⟩ := g6 i i0 i1
    have e3 : asP P n v 3 i = if i = n then v else P 3 i := rfl
    have e13 : asP P n v 13 i = if i = n then 0 else P 13 i := rfl
    refine ⟨?_, a2, a3, a4, ?_, fun z => ?_⟩
    · rw [e3]; split <;> omega
    · rw [e13]
      split
      · exact Or.inl rfl
      · exact a5
    · have z' : n + 1 ≤ i := z
      exact a6 (by omega)
  · obtain ⟨b1, b2⟩ := g7 i j i0 i1 j0 j1
    refine ⟨⟨b1.1, ?_⟩, b2⟩
    have : asP P n v 0 2 = n + 1 := rfl
    have b3 := b1.2
    show P 5 (4 * i + j) < n + 1
    omega
theorem as_eqE0 {en c : Nat → Nat} {κ : St} {v : Int} {q r w ad : Nat} (h02 : κ 0 2 = 0) (hb : ∀ t, 0 ≤ t → t < 4 → κ 4 t ≤ 4) (h4 : κ 4 0 = 0) (h9 : κ 9 0 = 0) (h10 : κ 10 0 = 0) : insO (remO (insO (cO en c κ) [(33, (q, .inr (6, [.int (zI v), .ref r, .ref w, .int (zI 0), .int (zI 0)]))), (35, (r, .inr (0, [.int (zI 0), .ref (en 5), .int (zI 0)]))), (34, (w, .inr (7, [.ref (en 0), .int (zI 1), .int (zI 1), .int (zI 1), .int (zI 0)])))]) [67, 33]) [(67, (c 67, .inr (0, [.int (zI (κ 79 4 + 1)), .ref ad, .int (zI (0 + 1))]))), (68, (ad, oE 3 10 (fup (lA c κ 4) 0 (some q)))), (33, (q, .inr (6, [.int (zI v), .ref r, .ref w, .int (zI 0), .int (zI 0)])))] = cO en (asC c 0 q r w ad) (asK κ 0 v) := by
  rw [cO_g, cO_g, gp_none (en := en) (c := c) (κ := κ) (n := 0) (by omega), as_hd (by omega), as_gp (by omega) h4 h9 h10, as_tl (by omega) h02, as_gpe (t := 1) (by omega) h02 hb (by omega) (by omega), as_gpe (t := 2) (by omega) h02 hb (by omega) (by omega), as_gpe (t := 3) (by omega) h02 hb (by omega) (by omega)]
  rfl
theorem as_eqA0 {en c : Nat → Nat} {κ : St} {v : Int} {q r w ad : Nat} (h02 : κ 0 2 = 0) (hb : ∀ t, 0 ≤ t → t < 4 → κ 4 t ≤ 4) (h4 : κ 4 0 = 0) (h9 : κ 9 0 = 0) (h10 : κ 10 0 = 0) : insO (remO (insO (cO en c κ) [(33, (q, .inr (6, [.int (zI v), .ref r, .ref w, .int (zI 0), .int (zI 0)]))), (35, (r, .inr (0, [.int (zI 0), .ref (en 5), .int (zI 0)]))), (34, (w, .inr (7, [.ref (en 0), .int (zI 1), .int (zI 1), .int (zI 1), .int (zI 0)])))]) [67, 68, 33]) [(67, (c 67, .inr (0, [.int (zI (κ 79 4 + 1)), .ref ad, .int (zI (0 + 1))]))), (68, (ad, oE 3 10 (fup (lA c κ 4) 0 (some q)))), (33, (q, .inr (6, [.int (zI v), .ref r, .ref w, .int (zI 0), .int (zI 0)])))] = cO en (asC c 0 q r w ad) (asK κ 0 v) := by
  rw [cO_g, cO_g, gp_none (en := en) (c := c) (κ := κ) (n := 0) (by omega), as_hd (by omega), as_gp (by omega) h4 h9 h10, as_tl (by omega) h02, as_gpe (t := 1) (by omega) h02 hb (by omega) (by omega), as_gpe (t := 2) (by omega) h02 hb (by omega) (by omega), as_gpe (t := 3) (by omega) h02 hb (by omega) (by omega)]
  rfl
set_option maxRecDepth 100000 in
theorem as_callE0 {en c : Nat → Nat} {κ : St} {v : Int} {q r w k9 n9 : Nat} {K : KT} (hK : evK K = EN en) (h02 : κ 0 2 = 0) (hb : ∀ t, 0 ≤ t → t < 4 → κ 4 t ≤ 4) (h4 : κ 4 0 = 0) (h9 : κ 9 0 = 0) (h10 : κ 10 0 = 0) (h80 : κ 80 4 = 0) (hroom : k9 + 1 ≤ 6 ∧ n9 + 10 ≤ 35)
    (kk : ∀ ad : Nat, V K sX10_addStatement (k9 + 1) (n9 + 10) (fm (cO en (asC c 0 q r w ad) (asK κ 0 v))) [some (.ref (c 0)), some (.int (zI v))] [.int (zI (bz true))] 49) : V K sX10_addStatement k9 n9 (fm (cO en c κ) ++ [(q, .inr (6, [.int (zI v), .ref r, .ref w, .int (zI 0), .int (zI 0)])), (r, .inr (0, [.int (zI 0), .ref (en 5), .int (zI 0)])), (w, .inr (7, [.ref (en 0), .int (zI 1), .int (zI 1), .int (zI 1), .int (zI 0)]))]) [some (.ref (c 0)), some (.int (zI v))] [.ref q, .ref (c (35 + 8 * Int.toNat 4))] 46 := by
  have hz : lsz κ 4 = 0 := h02
  have hal : alF en c κ 4 = [.int (zI (κ 79 4)), .ref (en 5), .int (zI 0)] := by unfold alF; rw [hz, if_pos h80]
  have elA : lA c κ 4 = fun _ => none := by
    funext j
    unfold lA lsz
    rw [if_neg (fun z => by have := z.1; have := z.2; rw [if_pos rfl, h02] at this; omega)]
  refine V_ins [(33, (q, .inr (6, [.int (zI v), .ref r, .ref w, .int (zI 0), .int (zI 0)]))), (35, (r, .inr (0, [.int (zI 0), .ref (en 5), .int (zI 0)]))), (34, (w, .inr (7, [.ref (en 0), .int (zI 1), .int (zI 1), .int (zI 1), .int (zI 0)])))] rfl (all3 (congrArg some (if_neg (by omega))) (congrArg some (if_neg (by omega))) (congrArg some (if_neg (by omega)))) (by show ([33, 35, 34] : List Nat).Nodup; decide) ?_
  refine VO_callVP (As := [.ref q]) (b := c 67) (ci := 0) (fs := [.int (zI (κ 79 4)), .ref (en 5), .int (zI 0)]) (T := TJx4a65c) (N := 3) 67 [(33, (q, .inr (6, [.int (zI v), .ref r, .ref w, .int (zI 0), .int (zI 0)])))] (all2 (by show some (some (c 67, (.inr (0, alF en c κ 4) : vE))) = _; rw [hal]) rfl) (by show ([67, 33] : List Nat).Nodup; decide) rfl hK (k_addE en (c 67) (κ 79 4) q 6 [.int (zI v), .ref r, .ref w, .int (zI 0), .int (zI 0)] _ rfl wn1042) mokJx4a65c_add_9ea2d w641 w642 w643 ⟨Nat.le_of_ble_eq_true rfl, Nat.le_of_ble_eq_true rfl⟩ rfl (Nat.le_of_ble_eq_true rfl) hroom dX10_addStatement_46 (fun v2 w2 h => ?_)
  obtain ⟨ad, rfl, rfl⟩ := h
  refine V_ins (w := [_, _, _]) [(67, (c 67, .inr (0, [.int (zI (κ 79 4 + 1)), .ref ad, .int (zI (0 + 1))]))), (68, (ad, oE 3 10 (fup (lA c κ 4) 0 (some q)))), (33, (q, .inr (6, [.int (zI v), .ref r, .ref w, .int (zI 0), .int (zI 0)])))] (by rw [elA]; rfl) (all3 rfl (by show some (if κ 80 4 ≠ 0 then some (c 68, oE 3 10 (lA c κ 4)) else none) = _; rw [if_neg (fun z => z h80)]) rfl) (by show ([67, 68, 33] : List Nat).Nodup; decide) ?_
  refine V_eqO (as_eqE0 h02 hb h4 h9 h10) ?_
  exact kk ad
set_option maxRecDepth 100000 in
theorem as_callA0 {en c : Nat → Nat} {κ : St} {v : Int} {q r w k9 n9 : Nat} {K : KT} (hK : evK K = EN en) (h02 : κ 0 2 = 0) (hb : ∀ t, 0 ≤ t → t < 4 → κ 4 t ≤ 4) (h4 : κ 4 0 = 0) (h9 : κ 9 0 = 0) (h10 : κ 10 0 = 0) (h80 : κ 80 4 ≠ 0) (hroom : k9 + 1 ≤ 6 ∧ n9 + 10 ≤ 35)
    (kk : ∀ ad : Nat, V K sX10_addStatement (k9 + 1) (n9 + 10) (fm (cO en (asC c 0 q r w ad) (asK κ 0 v))) [some (.ref (c 0)), some (.int (zI v))] [.int (zI (bz true))] 49) : V K sX10_addStatement k9 n9 (fm (cO en c κ) ++ [(q, .inr (6, [.int (zI v), .ref r, .ref w, .int (zI 0), .int (zI 0)])), (r, .inr (0, [.int (zI 0), .ref (en 5), .int (zI 0)])), (w, .inr (7, [.ref (en 0), .int (zI 1), .int (zI 1), .int (zI 1), .int (zI 0)]))]) [some (.ref (c 0)), some (.int (zI v))] [.ref q, .ref (c (35 + 8 * Int.toNat 4))] 46 := by
  have hz : lsz κ 4 = 0 := h02
  have hal : alF en c κ 4 = [.int (zI (κ 79 4)), .ref (c 68), .int (zI 0)] := by unfold alF; rw [hz, if_neg h80]; rfl
  refine V_ins [(33, (q, .inr (6, [.int (zI v), .ref r, .ref w, .int (zI 0), .int (zI 0)]))), (35, (r, .inr (0, [.int (zI 0), .ref (en 5), .int (zI 0)]))), (34, (w, .inr (7, [.ref (en 0), .int (zI 1), .int (zI 1), .int (zI 1), .int (zI 0)])))] rfl (all3 (congrArg some (if_neg (by omega))) (congrArg some (if_neg (by omega))) (congrArg some (if_neg (by omega)))) (by show ([33, 35, 34] : List Nat).Nodup; decide) ?_
  refine VO_callVP (As := [.ref q]) (b := c 67) (ci := 0) (fs := [.int (zI (κ 79 4)), .ref (c 68), .int (zI 0)]) (T := TJx4a65c) (N := 3) 67 [(68, (c 68, oE 3 10 (lA c κ 4))), (33, (q, .inr (6, [.int (zI v), .ref r, .ref w, .int (zI 0), .int (zI 0)])))] (all3 (by show some (some (c 67, (.inr (0, alF en c κ 4) : vE))) = _; rw [hal]) (by show some (if κ 80 4 ≠ 0 then some (c 68, oE 3 10 (lA c κ 4)) else none) = _; rw [if_pos h80]) rfl) (by show ([67, 68, 33] : List Nat).Nodup; decide) rfl hK (k_addA en (c 67) (c 68) (κ 79 4) 0 (lA c κ 4) (by omega) q 6 [.int (zI v), .ref r, .ref w, .int (zI 0), .int (zI 0)] _ rfl wn1042) mokJx4a65c_add_9ea2d w641 w642 w643 ⟨Nat.le_of_ble_eq_true rfl, Nat.le_of_ble_eq_true rfl⟩ rfl (Nat.le_of_ble_eq_true rfl) hroom dX10_addStatement_46 (fun v2 w2 h => ?_)
  obtain ⟨rfl, rfl⟩ := h
  refine V_ins (w := [_, _, _]) [(67, (c 67, .inr (0, [.int (zI (κ 79 4 + 1)), .ref (c 68), .int (zI (0 + 1))]))), (68, ((c 68), oE 3 10 (fup (lA c κ 4) 0 (some q)))), (33, (q, .inr (6, [.int (zI v), .ref r, .ref w, .int (zI 0), .int (zI 0)])))] rfl (all3 rfl rfl rfl) (by show ([67, 68, 33] : List Nat).Nodup; decide) ?_
  refine V_eqO (as_eqA0 h02 hb h4 h9 h10) ?_
  exact kk (c 68)
theorem as_eqA1 {en c : Nat → Nat} {κ : St} {v : Int} {q r w ad : Nat} (h02 : κ 0 2 = 1) (hb : ∀ t, 0 ≤ t → t < 4 → κ 4 t ≤ 4) (h4 : κ 4 1 = 0) (h9 : κ 9 1 = 0) (h10 : κ 10 1 = 0) : insO (remO (insO (cO en c κ) [(41, (q, .inr (6, [.int (zI v), .ref r, .ref w, .int (zI 0), .int (zI 0)]))), (43, (r, .inr (0, [.int (zI 0), .ref (en 5), .int (zI 0)]))), (42, (w, .inr (7, [.ref (en 0), .int (zI 1), .int (zI 1), .int (zI 1), .int (zI 0)])))]) [67, 68, 41]) [(67, (c 67, .inr (0, [.int (zI (κ 79 4 + 1)), .ref ad, .int (zI (1 + 1))]))), (68, (ad, oE 3 10 (fup (lA c κ 4) 1 (some q)))), (41, (q, .inr (6, [.int (zI v), .ref r, .ref w, .int (zI 0), .int (zI 0)])))] = cO en (asC c 1 q r w ad) (asK κ 1 v) := by
  rw [cO_g, cO_g, gp_none (en := en) (c := c) (κ := κ) (n := 1) (by omega), as_hd (by omega), as_gp (by omega) h4 h9 h10, as_tl (by omega) h02, as_gpe (t := 0) (by omega) h02 hb (by omega) (by omega), as_gpe (t := 2) (by omega) h02 hb (by omega) (by omega), as_gpe (t := 3) (by omega) h02 hb (by omega) (by omega)]
  rfl
set_option maxRecDepth 100000 in
theorem as_callA1 {en c : Nat → Nat} {κ : St} {v : Int} {q r w k9 n9 : Nat} {K : KT} (hK : evK K = EN en) (h02 : κ 0 2 = 1) (hb : ∀ t, 0 ≤ t → t < 4 → κ 4 t ≤ 4) (h4 : κ 4 1 = 0) (h9 : κ 9 1 = 0) (h10 : κ 10 1 = 0) (h80 : κ 80 4 ≠ 0) (hroom : k9 + 1 ≤ 6 ∧ n9 + 10 ≤ 35)
    (kk : ∀ ad : Nat, V K sX10_addStatement (k9 + 1) (n9 + 10) (fm (cO en (asC c 1 q r w ad) (asK κ 1 v))) [some (.ref (c 0)), some (.int (zI v))] [.int (zI (bz true))] 49) : V K sX10_addStatement k9 n9 (fm (cO en c κ) ++ [(q, .inr (6, [.int (zI v), .ref r, .ref w, .int (zI 0), .int (zI 0)])), (r, .inr (0, [.int (zI 0), .ref (en 5), .int (zI 0)])), (w, .inr (7, [.ref (en 0), .int (zI 1), .int (zI 1), .int (zI 1), .int (zI 0)]))]) [some (.ref (c 0)), some (.int (zI v))] [.ref q, .ref (c (35 + 8 * Int.toNat 4))] 46 := by
  have hz : lsz κ 4 = 1 := h02
  have hal : alF en c κ 4 = [.int (zI (κ 79 4)), .ref (c 68), .int (zI 1)] := by unfold alF; rw [hz, if_neg h80]; rfl
  refine V_ins [(41, (q, .inr (6, [.int (zI v), .ref r, .ref w, .int (zI 0), .int (zI 0)]))), (43, (r, .inr (0, [.int (zI 0), .ref (en 5), .int (zI 0)]))), (42, (w, .inr (7, [.ref (en 0), .int (zI 1), .int (zI 1), .int (zI 1), .int (zI 0)])))] rfl (all3 (congrArg some (if_neg (by omega))) (congrArg some (if_neg (by omega))) (congrArg some (if_neg (by omega)))) (by show ([41, 43, 42] : List Nat).Nodup; decide) ?_
  refine VO_callVP (As := [.ref q]) (b := c 67) (ci := 0) (fs := [.int (zI (κ 79 4)), .ref (c 68), .int (zI 1)]) (T := TJx4a65c) (N := 3) 67 [(68, (c 68, oE 3 10 (lA c κ 4))), (41, (q, .inr (6, [.int (zI v), .ref r, .ref w, .int (zI 0), .int (zI 0)])))] (all3 (by show some (some (c 67, (.inr (0, alF en c κ 4) : vE))) = _; rw [hal]) (by show some (if κ 80 4 ≠ 0 then some (c 68, oE 3 10 (lA c κ 4)) else none) = _; rw [if_pos h80]) rfl) (by show ([67, 68, 41] : List Nat).Nodup; decide) rfl hK (k_addA en (c 67) (c 68) (κ 79 4) 1 (lA c κ 4) (by omega) q 6 [.int (zI v), .ref r, .ref w, .int (zI 0), .int (zI 0)] _ rfl wn1042) mokJx4a65c_add_9ea2d w641 w642 w643 ⟨Nat.le_of_ble_eq_true rfl, Nat.le_of_ble_eq_true rfl⟩ rfl (Nat.le_of_ble_eq_true rfl) hroom dX10_addStatement_46 (fun v2 w2 h => ?_)
  obtain ⟨rfl, rfl⟩ := h
  refine V_ins (w := [_, _, _]) [(67, (c 67, .inr (0, [.int (zI (κ 79 4 + 1)), .ref (c 68), .int (zI (1 + 1))]))), (68, ((c 68), oE 3 10 (fup (lA c κ 4) 1 (some q)))), (41, (q, .inr (6, [.int (zI v), .ref r, .ref w, .int (zI 0), .int (zI 0)])))] rfl (all3 rfl rfl rfl) (by show ([67, 68, 41] : List Nat).Nodup; decide) ?_
  refine V_eqO (as_eqA1 h02 hb h4 h9 h10) ?_
  exact kk (c 68)
theorem as_eqA2 {en c : Nat → Nat} {κ : St} {v : Int} {q r w ad : Nat} (h02 : κ 0 2 = 2) (hb : ∀ t, 0 ≤ t → t < 4 → κ 4 t ≤ 4) (h4 : κ 4 2 = 0) (h9 : κ 9 2 = 0) (h10 : κ 10 2 = 0) : insO (remO (insO (cO en c κ) [(49, (q, .inr (6, [.int (zI v), .ref r, .ref w, .int (zI 0), .int (zI 0)]))), (51, (r, .inr (0, [.int (zI 0), .ref (en 5), .int (zI 0)]))), (50, (w, .inr (7, [.ref (en 0), .int (zI 1), .int (zI 1), .int (zI 1), .int (zI 0)])))]) [67, 68, 49]) [(67, (c 67, .inr (0, [.int (zI (κ 79 4 + 1)), .ref ad, .int (zI (2 + 1))]))), (68, (ad, oE 3 10 (fup (lA c κ 4) 2 (some q)))), (49, (q, .inr (6, [.int (zI v), .ref r, .ref w, .int (zI 0), .int (zI 0)])))] = cO en (asC c 2 q r w ad) (asK κ 2 v) := by
  rw [cO_g, cO_g, gp_none (en := en) (c := c) (κ := κ) (n := 2) (by omega), as_hd (by omega), as_gp (by omega) h4 h9 h10, as_tl (by omega) h02, as_gpe (t := 0) (by omega) h02 hb (by omega) (by omega), as_gpe (t := 1) (by omega) h02 hb (by omega) (by omega), as_gpe (t := 3) (by omega) h02 hb (by omega) (by omega)]
  rfl
set_option maxRecDepth 100000 in
theorem as_callA2 {en c : Nat → Nat} {κ : St} {v : Int} {q r w k9 n9 : Nat} {K : KT} (hK : evK K = EN en) (h02 : κ 0 2 = 2) (hb : ∀ t, 0 ≤ t → t < 4 → κ 4 t ≤ 4) (h4 : κ 4 2 = 0) (h9 : κ 9 2 = 0) (h10 : κ 10 2 = 0) (h80 : κ 80 4 ≠ 0) (hroom : k9 + 1 ≤ 6 ∧ n9 + 10 ≤ 35)
    (kk : ∀ ad : Nat, V K sX10_addStatement (k9 + 1) (n9 + 10) (fm (cO en (asC c 2 q r w ad) (asK κ 2 v))) [some (.ref (c 0)), some (.int (zI v))] [.int (zI (bz true))] 49) : V K sX10_addStatement k9 n9 (fm (cO en c κ) ++ [(q, .inr (6, [.int (zI v), .ref r, .ref w, .int (zI 0), .int (zI 0)])), (r, .inr (0, [.int (zI 0), .ref (en 5), .int (zI 0)])), (w, .inr (7, [.ref (en 0), .int (zI 1), .int (zI 1), .int (zI 1), .int (zI 0)]))]) [some (.ref (c 0)), some (.int (zI v))] [.ref q, .ref (c (35 + 8 * Int.toNat 4))] 46 := by
  have hz : lsz κ 4 = 2 := h02
  have hal : alF en c κ 4 = [.int (zI (κ 79 4)), .ref (c 68), .int (zI 2)] := by unfold alF; rw [hz, if_neg h80]; rfl
  refine V_ins [(49, (q, .inr (6, [.int (zI v), .ref r, .ref w, .int (zI 0), .int (zI 0)]))), (51, (r, .inr (0, [.int (zI 0), .ref (en 5), .int (zI 0)]))), (50, (w, .inr (7, [.ref (en 0), .int (zI 1), .int (zI 1), .int (zI 1), .int (zI 0)])))] rfl (all3 (congrArg some (if_neg (by omega))) (congrArg some (if_neg (by omega))) (congrArg some (if_neg (by omega)))) (by show ([49, 51, 50] : List Nat).Nodup; decide) ?_
  refine VO_callVP (As := [.ref q]) (b := c 67) (ci := 0) (fs := [.int (zI (κ 79 4)), .ref (c 68), .int (zI 2)]) (T := TJx4a65c) (N := 3) 67 [(68, (c 68, oE 3 10 (lA c κ 4))), (49, (q, .inr (6, [.int (zI v), .ref r, .ref w, .int (zI 0), .int (zI 0)])))] (all3 (by show some (some (c 67, (.inr (0, alF en c κ 4) : vE))) = _; rw [hal]) (by show some (if κ 80 4 ≠ 0 then some (c 68, oE 3 10 (lA c κ 4)) else none) = _; rw [if_pos h80]) rfl) (by show ([67, 68, 49] : List Nat).Nodup; decide) rfl hK (k_addA en (c 67) (c 68) (κ 79 4) 2 (lA c κ 4) (by omega) q 6 [.int (zI v), .ref r, .ref w, .int (zI 0), .int (zI 0)] _ rfl wn1042) mokJx4a65c_add_9ea2d w641 w642 w643 ⟨Nat.le_of_ble_eq_true rfl, Nat.le_of_ble_eq_true rfl⟩ rfl (Nat.le_of_ble_eq_true rfl) hroom dX10_addStatement_46 (fun v2 w2 h => ?_)
  obtain ⟨rfl, rfl⟩ := h
  refine V_ins (w := [_, _, _]) [(67, (c 67, .inr (0, [.int (zI (κ 79 4 + 1)), .ref (c 68), .int (zI (2 + 1))]))), (68, ((c 68), oE 3 10 (fup (lA c κ 4) 2 (some q)))), (49, (q, .inr (6, [.int (zI v), .ref r, .ref w, .int (zI 0), .int (zI 0)])))] rfl (all3 rfl rfl rfl) (by show ([67, 68, 49] : List Nat).Nodup; decide) ?_
  refine V_eqO (as_eqA2 h02 hb h4 h9 h10) ?_
  exact kk (c 68)
theorem as_eqA3 {en c : Nat → Nat} {κ : St} {v : Int} {q r w ad : Nat} (h02 : κ 0 2 = 3) (hb : ∀ t, 0 ≤ t → t < 4 → κ 4 t ≤ 4) (h4 : κ 4 3 = 0) (h9 : κ 9 3 = 0) (h10 : κ 10 3 = 0) : insO (remO (insO (cO en c κ) [(57, (q, .inr (6, [.int (zI v), .ref r, .ref w, .int (zI 0), .int (zI 0)]))), (59, (r, .inr (0, [.int (zI 0), .ref (en 5), .int (zI 0)]))), (58, (w, .inr (7, [.ref (en 0), .int (zI 1), .int (zI 1), .int (zI 1), .int (zI 0)])))]) [67, 68, 57]) [(67, (c 67, .inr (0, [.int (zI (κ 79 4 + 1)), .ref ad, .int (zI (3 + 1))]))), (68, (ad, oE 3 10 (fup (lA c κ 4) 3 (some q)))), (57, (q, .inr (6, [.int (zI v), .ref r, .ref w, .int (zI 0), .int (zI 0)])))] = cO en (asC c 3 q r w ad) (asK κ 3 v) := by
  rw [cO_g, cO_g, gp_none (en := en) (c := c) (κ := κ) (n := 3) (by omega), as_hd (by omega), as_gp (by omega) h4 h9 h10, as_tl (by omega) h02, as_gpe (t := 0) (by omega) h02 hb (by omega) (by omega), as_gpe (t := 1) (by omega) h02 hb (by omega) (by omega), as_gpe (t := 2) (by omega) h02 hb (by omega) (by omega)]
  rfl
set_option maxRecDepth 100000 in
theorem as_callA3 {en c : Nat → Nat} {κ : St} {v : Int} {q r w k9 n9 : Nat} {K : KT} (hK : evK K = EN en) (h02 : κ 0 2 = 3) (hb : ∀ t, 0 ≤ t → t < 4 → κ 4 t ≤ 4) (h4 : κ 4 3 = 0) (h9 : κ 9 3 = 0) (h10 : κ 10 3 = 0) (h80 : κ 80 4 ≠ 0) (hroom : k9 + 1 ≤ 6 ∧ n9 + 10 ≤ 35)
    (kk : ∀ ad : Nat, V K sX10_addStatement (k9 + 1) (n9 + 10) (fm (cO en (asC c 3 q r w ad) (asK κ 3 v))) [some (.ref (c 0)), some (.int (zI v))] [.int (zI (bz true))] 49) : V K sX10_addStatement k9 n9 (fm (cO en c κ) ++ [(q, .inr (6, [.int (zI v), .ref r, .ref w, .int (zI 0), .int (zI 0)])), (r, .inr (0, [.int (zI 0), .ref (en 5), .int (zI 0)])), (w, .inr (7, [.ref (en 0), .int (zI 1), .int (zI 1), .int (zI 1), .int (zI 0)]))]) [some (.ref (c 0)), some (.int (zI v))] [.ref q, .ref (c (35 + 8 * Int.toNat 4))] 46 := by
  have hz : lsz κ 4 = 3 := h02
  have hal : alF en c κ 4 = [.int (zI (κ 79 4)), .ref (c 68), .int (zI 3)] := by unfold alF; rw [hz, if_neg h80]; rfl
  refine V_ins [(57, (q, .inr (6, [.int (zI v), .ref r, .ref w, .int (zI 0), .int (zI 0)]))), (59, (r, .inr (0, [.int (zI 0), .ref (en 5), .int (zI 0)]))), (58, (w, .inr (7, [.ref (en 0), .int (zI 1), .int (zI 1), .int (zI 1), .int (zI 0)])))] rfl (all3 (congrArg some (if_neg (by omega))) (congrArg some (if_neg (by omega))) (congrArg some (if_neg (by omega)))) (by show ([57, 59, 58] : List Nat).Nodup; decide) ?_
  refine VO_callVP (As := [.ref q]) (b := c 67) (ci := 0) (fs := [.int (zI (κ 79 4)), .ref (c 68), .int (zI 3)]) (T := TJx4a65c) (N := 3) 67 [(68, (c 68, oE 3 10 (lA c κ 4))), (57, (q, .inr (6, [.int (zI v), .ref r, .ref w, .int (zI 0), .int (zI 0)])))] (all3 (by show some (some (c 67, (.inr (0, alF en c κ 4) : vE))) = _; rw [hal]) (by show some (if κ 80 4 ≠ 0 then some (c 68, oE 3 10 (lA c κ 4)) else none) = _; rw [if_pos h80]) rfl) (by show ([67, 68, 57] : List Nat).Nodup; decide) rfl hK (k_addA en (c 67) (c 68) (κ 79 4) 3 (lA c κ 4) (by omega) q 6 [.int (zI v), .ref r, .ref w, .int (zI 0), .int (zI 0)] _ rfl wn1042) mokJx4a65c_add_9ea2d w641 w642 w643 ⟨Nat.le_of_ble_eq_true rfl, Nat.le_of_ble_eq_true rfl⟩ rfl (Nat.le_of_ble_eq_true rfl) hroom dX10_addStatement_46 (fun v2 w2 h => ?_)
  obtain ⟨rfl, rfl⟩ := h
  refine V_ins (w := [_, _, _]) [(67, (c 67, .inr (0, [.int (zI (κ 79 4 + 1)), .ref (c 68), .int (zI (3 + 1))]))), (68, ((c 68), oE 3 10 (fup (lA c κ 4) 3 (some q)))), (57, (q, .inr (6, [.int (zI v), .ref r, .ref w, .int (zI 0), .int (zI 0)])))] rfl (all3 rfl rfl rfl) (by show ([67, 68, 57] : List Nat).Nodup; decide) ?_
  refine V_eqO (as_eqA3 h02 hb h4 h9 h10) ?_
  exact kk (c 68)
theorem as_end {en c : Nat → Nat} {κ P : St} {v : Int} {K : KT} {Post : Option Value → vWd → Prop} (hK : evK K = EN en) (hR : RetOK K 6 35 Post) (hM : MI P) (hC : CI P κ) (kk : Post (some (.int (zI (P 0 2 - 1)))) (fm (cO en c κ))) : V K sX10_addStatement 5 29 (fm (cO en c κ)) [some (.ref (c 0)), some (.int (zI v))] [.int (zI (bz true))] 49 := by
  have hN4 := hM.2.2.1
  refine V_pop dX10_addStatement_49 rfl ?_
  refine V_aload_n dX10_addStatement_50 rfl ?_
  refine VO_getf (C0 := RX10) (T := TX10) (N := 9) (ci := 9) (fs := cwF c κ) 0 0 iwX10 (by decide) w233 (Or.inl rfl) rfl (at_cw) rfl dX10_addStatement_51 ?_
  refine VO_getN (C0 := RX5) (T := TX5) (N := 4) (ci := 4) (fs := prF c κ) 1 0 iwX5 (by decide) hK wn69 rfl (at_pr) rfl dX10_addStatement_54 ?_
  show V K sX10_addStatement 5 29 (fm (cO en c κ)) [some (.ref (c 0)), some (.int (zI v))] [.ref (c (35 + 8 * Int.toNat 4))] 57
  refine VO_callVF (As := []) (b := c (35 + 8 * Int.toNat 4)) (i := 35 + 8 * Int.toNat 4) (ci := 0) (fs := alF en c κ 4) (T := TJx4a65c) (N := 3) (at_al (CI.w4 _)) rfl hK (k_size4 en c κ P ⟨hM, hC⟩) mokJx4a65c_size_8abf5 w364 w270 w271 ⟨Nat.le_of_ble_eq_true rfl, Nat.le_of_ble_eq_true rfl⟩ rfl (Nat.le_of_ble_eq_true rfl) ⟨Nat.le_of_ble_eq_true rfl, Nat.le_of_ble_eq_true rfl⟩ dX10_addStatement_57 (fun v w p_1 => ?_)
  obtain ⟨rfl, rfl⟩ := p_1
  show V K sX10_addStatement 5 29 (fm (cO en c κ)) [some (.ref (c 0)), some (.int (zI v))] [.int (zI (P 0 2))] 60
  refine V_iconst dX10_addStatement_60 ?_
  refine V_isub dX10_addStatement_61 ?_
  refine V_iret hR rfl (Nat.le_of_ble_eq_true rfl) (Nat.le_of_ble_eq_true rfl) dX10_addStatement_62 ?_
  exact kk
set_option maxRecDepth 100000 in
theorem as_tail {en c : Nat → Nat} {κ P : St} {v : Int} {K : KT} {Post : Option Value → vWd → Prop} (hK : evK K = EN en) (hR : RetOK K 6 35 Post) (hM : MI P) (hCW : CWP P κ) (hn : P 0 2 < 4) (hv : 0 ≤ v ∧ v ≤ 99) (kk : ∀ (c2 : Nat → Nat) (κ2 : St), c2 0 = c 0 → CWP (asP P (P 0 2) v) κ2 → Post (some (.int (zI (P 0 2)))) (fm (cO en c2 κ2))) : V K sX10_addStatement 1 6 (fm (cO en c κ)) [some (.ref (c 0)), some (.int (zI v))] [.ref (c (35 + 8 * Int.toNat 4))] 38 := by
  obtain ⟨n, hnn⟩ : ∃ n : Int, n = P 0 2 := ⟨_, rfl⟩
  have hC := hCW.1
  have h02 : κ 0 2 = n := by rw [hC.n2, hnn]
  have hn0 : 0 ≤ n ∧ n < 4 := by have := hM.2.2.1; omega
  have k4 : κ 4 = P 4 := hC.1 4 (by decide) (by decide)
  have k9 : κ 9 = P 9 := hC.1 9 (by decide) (by decide)
  have k10 : κ 10 = P 10 := hC.1 10 (by decide) (by decide)
  have hb : ∀ t, 0 ≤ t → t < 4 → κ 4 t ≤ 4 := fun t a b => by rw [k4]; exact (hM.2.2.2.2.2.1 t a b).2.1.2
  obtain ⟨z4, z9, z10⟩ := (hM.2.2.2.2.2.1 n hn0.1 hn0.2).2.2.2.2.2 (by omega)
  have h4 : κ 4 n = 0 := by rw [k4]; exact z4
  have h9 : κ 9 n = 0 := by rw [k9]; exact z9
  have h10 : κ 10 n = 0 := by rw [k10]; exact z10
  have hC2 := as_CWP (v := v) hCW hn0 hnn.symm h4
  have hM2 := as_MI (v := v) hM hnn.symm hn0.2 hv
  have hend : ∀ (q r w ad : Nat), V K sX10_addStatement 5 29 (fm (cO en (asC c n q r w ad) (asK κ n v))) [some (.ref (c 0)), some (.int (zI v))] [.int (zI (bz true))] 49 := fun q r w ad => by
    have e0 : asC c n q r w ad 0 = c 0 := asC_ne (by decide) (by omega)
    rw [← e0]
    refine as_end hK hR hM2 hC2.1 ?_
    have e1 : asP P n v 0 2 - 1 = P 0 2 := by show n + 1 - 1 = P 0 2; omega
    rw [e1]
    refine kk _ _ e0 ?_
    rw [← hnn]
    exact hC2
  refine V_new (C0 := RX7) (T := TX7) (N := 5) (ci := 6) (fs := [.int (zI 0), .null, .null, .int (zI 0), .int (zI 0)]) iwX7 tyX7 tyX7_ok w391 w604 w23 rfl (fun j hj => by rcases (show j = 0 ∨ j = 1 ∨ j = 2 ∨ j = 3 ∨ j = 4 by omega) with rfl | rfl | rfl | rfl | rfl <;> rfl) ⟨Nat.le_of_ble_eq_true rfl, Nat.le_of_ble_eq_true rfl⟩ dX10_addStatement_38 (fun q => ?_)
  show V K sX10_addStatement 2 11 (fm (cO en c κ) ++ [(q, .inr (6, [.int (zI 0), .null, .null, .int (zI 0), .int (zI 0)]))]) [some (.ref (c 0)), some (.int (zI v))] [.ref q, .ref (c (35 + 8 * Int.toNat 4))] 41
  refine V_dup dX10_addStatement_41 rfl ?_
  refine V_iload_n dX10_addStatement_42 rfl ?_
  refine V_callIB (As := [.int (zI v)]) (b := q) (wr := fm (cO en c κ)) (wc := [(q, .inr (6, [.int (zI 0), .null, .null, .int (zI 0), .int (zI 0)]))]) rfl hK (k_w7_init en q v) mokX7_init w605 w606 rfl rfl ⟨Nat.le_of_ble_eq_true rfl, Nat.le_of_ble_eq_true rfl⟩ rfl (Nat.le_of_ble_eq_true rfl) ⟨Nat.le_of_ble_eq_true rfl, Nat.le_of_ble_eq_true rfl⟩ dX10_addStatement_43 (fun v2 w2 h => ?_)
  obtain ⟨r, w, rfl, rfl⟩ := h
  show V K sX10_addStatement 4 19 (fm (cO en c κ) ++ [(q, .inr (6, [.int (zI v), .ref r, .ref w, .int (zI 0), .int (zI 0)])), (r, .inr (0, [.int (zI 0), .ref (en 5), .int (zI 0)])), (w, .inr (7, [.ref (en 0), .int (zI 1), .int (zI 1), .int (zI 1), .int (zI 0)]))]) [some (.ref (c 0)), some (.int (zI v))] [.ref q, .ref (c (35 + 8 * Int.toNat 4))] 46
  clear hnn
  by_cases h80 : κ 80 4 = 0
  · have hz : n = 0 := by
      apply Classical.byContradiction
      intro z
      exact hC.2.2 4 (by omega) (by omega) (by show 0 < κ 0 2; omega) h80
    subst hz
    exact as_callE0 hK h02 hb h4 h9 h10 h80 ⟨by omega, by omega⟩ (fun ad => hend q r w ad)
  · rcases (show n = 0 ∨ n = 1 ∨ n = 2 ∨ n = 3 by omega) with e | e | e | e
    · subst e; exact as_callA0 hK h02 hb h4 h9 h10 h80 ⟨by omega, by omega⟩ (fun ad => hend q r w ad)
    · subst e; exact as_callA1 hK h02 hb h4 h9 h10 h80 ⟨by omega, by omega⟩ (fun ad => hend q r w ad)
    · subst e; exact as_callA2 hK h02 hb h4 h9 h10 h80 ⟨by omega, by omega⟩ (fun ad => hend q r w ad)
    · subst e; exact as_callA3 hK h02 hb h4 h9 h10 h80 ⟨by omega, by omega⟩ (fun ad => hend q r w ad)
set_option maxRecDepth 100000 in
set_option maxHeartbeats 4000000 in
theorem k_addStatement (en : Nat → Nat) (c : Nat → Nat) (κ : St) (x : Int) (P : St) (hp : MI P ∧ CI P κ ∧ iR x ∧ WR P κ ∧ WB κ 4) : MCX (EN en) yX10_addStatement sX10_addStatement [.ref (c 0), .int (zI x)] (fm (cO en c κ)) (fun v w => ∃ (c2 : Nat → Nat) (κ2 : St), v = some (.int (zI ((sp_addStatement P x).2.1))) ∧ w = fm (cO en c2 κ2) ∧ (c2 0 = c 0) ∧ ((sp_addStatement P x).1 = 0) ∧ (CWP (sp_addStatement P x).2.2 κ2)) (XP1 en c (sp_addStatement P x) P [(1, IAEs), (2, ISEs)]) := by
  refine MCX.of (EN.stb en) [some (.ref (c 0)), some (.int (zI x))] 0 rfl rfl rfl (by simp [Value.category]) (Nat.le_of_ble_eq_true rfl) (fun K hK hR hX => ?_)
  obtain ⟨hM, hC, hp⟩ := hp
  have hN4 := hM.2.2.1
  obtain ⟨hr_x, hW, hW4⟩ := hp
  have hCW : CWP P κ := ⟨hC, hW, hW4⟩
  unfold iR at hr_x
  refine V_iload_n dX10_addStatement_0 rfl ?_
  refine V_iconst dX10_addStatement_1 ?_
  refine V_bipush dX10_addStatement_2 (by decide) ?_
  refine V_callXSE (As := [.int (zI x), .int (zI 0), .int (zI 99)]) hK (k_requireRange en x 0 99 (⟨hr_x, ⟨by omega, by omega⟩, ⟨by omega, by omega⟩⟩)) mokX10_requireRange w517 w518 ⟨Nat.le_of_ble_eq_true rfl, Nat.le_of_ble_eq_true rfl⟩ rfl (Nat.le_of_ble_eq_true rfl) ⟨Nat.le_of_ble_eq_true rfl, Nat.le_of_ble_eq_true rfl⟩ dX10_addStatement_4 hX (fun X w h => XP1.of (gd_f h.2.2) h.1 (by decide) rfl hCW) (Nat.le_of_ble_eq_true rfl) (Nat.le_of_ble_eq_true rfl) (fun v w p_1 => ?_)
  obtain ⟨rfl, rfl, q_2⟩ := p_1
  show V K sX10_addStatement 1 6 (fm (cO en c κ)) [some (.ref (c 0)), some (.int (zI x))] [] 7
  refine V_aload_n dX10_addStatement_7 rfl ?_
  refine VO_getf (C0 := RX10) (T := TX10) (N := 9) (ci := 9) (fs := cwF c κ) 0 0 iwX10 (by decide) w233 (Or.inl rfl) rfl (at_cw) rfl dX10_addStatement_8 ?_
  refine VO_getN (C0 := RX5) (T := TX5) (N := 4) (ci := 4) (fs := prF c κ) 1 0 iwX5 (by decide) hK wn69 rfl (at_pr) rfl dX10_addStatement_11 ?_
  show V K sX10_addStatement 1 6 (fm (cO en c κ)) [some (.ref (c 0)), some (.int (zI x))] [.ref (c (35 + 8 * Int.toNat 4))] 14
  refine VO_callVF (As := []) (b := c (35 + 8 * Int.toNat 4)) (i := 35 + 8 * Int.toNat 4) (ci := 0) (fs := alF en c κ 4) (T := TJx4a65c) (N := 3) (at_al (CI.w4 _)) rfl hK (k_size4 en c κ P ⟨hM, hC⟩) mokJx4a65c_size_8abf5 w364 w270 w271 ⟨Nat.le_of_ble_eq_true rfl, Nat.le_of_ble_eq_true rfl⟩ rfl (Nat.le_of_ble_eq_true rfl) ⟨Nat.le_of_ble_eq_true rfl, Nat.le_of_ble_eq_true rfl⟩ dX10_addStatement_14 (fun v w p_3 => ?_)
  obtain ⟨rfl, rfl⟩ := p_3
  show V K sX10_addStatement 1 6 (fm (cO en c κ)) [some (.ref (c 0)), some (.int (zI x))] [.int (zI (P 0 2))] 17
  refine V_iconst dX10_addStatement_17 ?_
  refine V_icmp_lt (tgt := 31) dX10_addStatement_18 (by decide) ⟨⟨by omega, by omega⟩, ⟨by omega, by omega⟩⟩ (fun c_4 => ?_) (fun c_4 => ?_)
  · refine V_aload_n dX10_addStatement_31 rfl ?_
    refine VO_getf (C0 := RX10) (T := TX10) (N := 9) (ci := 9) (fs := cwF c κ) 0 0 iwX10 (by decide) w233 (Or.inl rfl) rfl (at_cw) rfl dX10_addStatement_32 ?_
    refine VO_getN (C0 := RX5) (T := TX5) (N := 4) (ci := 4) (fs := prF c κ) 1 0 iwX5 (by decide) hK wn69 rfl (at_pr) rfl dX10_addStatement_35 ?_
    show V K sX10_addStatement 1 6 (fm (cO en c κ)) [some (.ref (c 0)), some (.int (zI x))] [.ref (c (35 + 8 * Int.toNat 4))] 38
    have hsp : sp_addStatement P x = (0, P 0 2, asP P (P 0 2) x) := (gd_t q_2).trans (gd_t (by omega))
    exact as_tail hK hR hM hCW (by omega) q_2 (fun c2 κ2 e h => ⟨c2, κ2, by rw [hsp], rfl, e, by rw [hsp], by rw [hsp]; exact h⟩)
  · refine V_throwS2 (i := 1) hK hX (XP1.of ((gd_t q_2).trans (gd_f (fun z => by omega))) rfl (by decide) rfl hCW) rfl (by decide +kernel) (by decide +kernel) w588 w22 hat_ISE hgd_ISE (by decide) rfl dX10_addStatement_21 dX10_addStatement_24 dX10_addStatement_25 dX10_addStatement_27 dX10_addStatement_30 ⟨by decide, by decide⟩ ⟨Nat.le_of_ble_eq_true rfl, Nat.le_of_ble_eq_true rfl⟩ ⟨Nat.le_of_ble_eq_true rfl, Nat.le_of_ble_eq_true rfl⟩
