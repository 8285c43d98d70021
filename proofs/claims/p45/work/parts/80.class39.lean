/-! the class's world: cells taken out and put in; places dropped; groups -/
theorem sub_nd {l1 l2 : List Nat} (h : l1.Sublist l2) (h2 : l2.Nodup) : l1.Nodup := List.Pairwise.sublist h h2
section VSUB
variable {K : KT} {S : SI} {k n : Nat} {ws : vWd} {L : List (Option Value)} {st : List Value} {pc : Nat} {Post : Option Value → vWd → Prop}
theorem V_Sub {ws' : vWd} (h : ws'.Sublist ws) (kk : V K S k n ws' L st pc) : V K S k n ws L st pc := by
  obtain ⟨p, l, e, s, m, args, below, meth, c, D, cA, A, Q, E⟩ := K
  intro C H locs ls hP hD hS hl
  have h1 : (tw cA ws').Sublist (tw cA ws) := h.map _
  have hm : ∀ q, q ∈ tw cA ws' → q ∈ tw cA ws := fun q hq => h1.subset hq
  refine kk C H locs ls (fun k q hk => ?_) ⟨?_, fun k q hk => ?_⟩ hS hl
  · obtain ⟨i, hi⟩ := List.getElem?_of_mem (hm q (List.mem_of_getElem? hk))
    exact hP i q hi
  · have hn : ((tw cA ws).map Prod.fst).Nodup := by
      refine List.pairwise_iff_getElem.mpr (fun i j hi hj hij e1 => ?_)
      rw [List.getElem_map, List.getElem_map] at e1
      have := hD.1 i j _ _ (List.getElem?_eq_getElem (by simpa using hi)) (List.getElem?_eq_getElem (by simpa using hj)) e1
      omega
    have hn2 := List.pairwise_iff_getElem.mp (sub_nd (h1.map Prod.fst) hn)
    have key : ∀ i j : Nat, ∀ p q : Nat × va_E, i < j → (tw cA ws')[i]? = some p → (tw cA ws')[j]? = some q → p.1 = q.1 → False := by
      intro i j p q hij hi hj e1
      obtain ⟨hi1, hi2⟩ := List.getElem?_eq_some_iff.mp hi
      obtain ⟨hj1, hj2⟩ := List.getElem?_eq_some_iff.mp hj
      refine hn2 i j (by simpa using hi1) (by simpa using hj1) hij ?_
      rw [List.getElem_map, List.getElem_map, hi2, hj2]
      exact e1
    intro i j p q hi hj e1
    rcases Nat.lt_trichotomy i j with hlt | he | hlt
    · exact (key i j p q hlt hi hj e1).elim
    · exact he
    · exact (key j i q p hlt hj hi e1.symm).elim
  · obtain ⟨i, hi⟩ := List.getElem?_of_mem (hm q (List.mem_of_getElem? hk))
    exact hD.2 i q hi
def subO : oW → oW → Prop
  | [], [] => True
  | x :: xs, y :: ys => (y = none ∨ y = x) ∧ subO xs ys
  | _, _ => False
theorem subO_fm : ∀ {o o2 : oW}, subO o o2 → (fm o2).Sublist (fm o)
  | [], [], _ => List.Sublist.refl _
  | x :: xs, y :: ys, h => by
    have ih := subO_fm h.2
    rcases h.1 with e | e
    · subst e
      cases x with
      | none => exact ih
      | some z => exact List.Sublist.cons z ih
    · subst e
      cases y with
      | none => exact ih
      | some z => exact List.Sublist.cons_cons z ih
  | [], _ :: _, h => h.elim
  | _ :: _, [], h => h.elim
def remO (o : oW) (l : List Nat) : oW := l.foldl (fun o i => o.set i none) o
def insO (o : oW) (l : List (Nat × (Nat × vE))) : oW := l.foldl (fun o p => o.set p.1 (some p.2)) o
theorem fm_rem : ∀ {l : List (Nat × (Nat × vE))} {o : oW}, (∀ p ∈ l, o[p.1]? = some (some p.2)) → (l.map Prod.fst).Nodup → (fm o).Perm (fm (remO o (l.map Prod.fst)) ++ l.map Prod.snd)
  | [], o, _, _ => by simp only [List.map_nil, List.append_nil]; exact List.Perm.refl _
  | (i, x) :: l, o, h, hn => by
    have hx := h (i, x) List.mem_cons_self
    have hl : i < o.length := (List.getElem?_eq_some_iff.mp hx).1
    have hno : (o.set i none)[i]? = some none := by rw [List.getElem?_set_self hl]
    have h0 : (o.set i none).set i (some x) = o := by rw [List.set_set]; exact set_self hx
    have h1 := fm_push x hno
    rw [h0] at h1
    have hn' := List.nodup_cons.mp hn
    have ih := fm_rem (l := l) (o := o.set i none) (fun p hp => by
      have e : p.1 ≠ i := fun e => hn'.1 (List.mem_map.mpr ⟨p, hp, e⟩)
      rw [List.getElem?_set_ne (Ne.symm e)]
      exact h p (List.mem_cons_of_mem _ hp)) hn'.2
    refine h1.symm.trans ((ih.append_right [x]).trans ?_)
    show ((fm (remO (o.set i none) (l.map Prod.fst)) ++ l.map Prod.snd) ++ [x]).Perm (fm (remO (o.set i none) (l.map Prod.fst)) ++ (x :: l.map Prod.snd))
    rw [List.append_assoc]
    exact (List.Perm.append_left _ (List.perm_append_comm (l₁ := l.map Prod.snd) (l₂ := [x])))
theorem fm_ins : ∀ {l : List (Nat × (Nat × vE))} {o : oW}, (∀ p ∈ l, o[p.1]? = some none) → (l.map Prod.fst).Nodup → (fm o ++ l.map Prod.snd).Perm (fm (insO o l))
  | [], o, _, _ => by simp only [List.map_nil, List.append_nil]; exact List.Perm.refl _
  | (i, x) :: l, o, h, hn => by
    have hx := h (i, x) List.mem_cons_self
    have h1 := fm_push x hx
    have hn' := List.nodup_cons.mp hn
    have ih := fm_ins (l := l) (o := o.set i (some x)) (fun p hp => by
      have e : p.1 ≠ i := fun e => hn'.1 (List.mem_map.mpr ⟨p, hp, e⟩)
      rw [List.getElem?_set_ne (Ne.symm e)]
      exact h p (List.mem_cons_of_mem _ hp)) hn'.2
    refine List.Perm.trans ?_ ih
    show (fm o ++ (x :: l.map Prod.snd)).Perm (fm (o.set i (some x)) ++ l.map Prod.snd)
    have e : fm o ++ (x :: l.map Prod.snd) = (fm o ++ [x]) ++ l.map Prod.snd := by rw [List.append_assoc]; rfl
    rw [e]
    exact h1.append_right _
theorem VO_callVP {E : EV} {y : MethodName} {S' : SI} {As stk : List Value} {b : Nat} {idx ci : Nat} {fs : List Value} {T : u_T} {N : Nat} {o : oW} (i0 : Nat) (l : List (Nat × (Nat × vE))) (hl : ∀ p ∈ (i0, (b, .inr (ci, fs))) :: l, o[p.1]? = some (some p.2)) (hnd : (((i0, (b, .inr (ci, fs))) :: l : List (Nat × (Nat × vE))).map Prod.fst).Nodup) (hc : vwCl[ci]? = some (y.cls, T, N)) (hE : evK K = E) (hM : MC E y S' (.ref b :: As) (((i0, (b, .inr (ci, fs))) :: l : List (Nat × (Nat × vE))).map Prod.snd) Post) (hM0 : MOK y S' As.length) (hlk : Cond.methodLink S.2.1 idx y ∈ WA) (hin : Cond.instanceMethod y ∈ WA) (hsel : Cond.selects y.cls y y ∈ WA) (hR : ROK S S') (hstk : stk = As.reverse ++ .ref b :: st) (hcat : (st.map fun v => v.category).sum ≤ 8) (hroom : k + S'.2.2.2.2.cells ≤ S.2.2.2.2.cells ∧ n + S'.2.2.2.2.slots ≤ S.2.2.2.2.slots) (d : decode S.1 pc = .ok (.invokevirtual idx, 3))
    (kk : ∀ (v : Option Value) (w : vWd), Post v w → V K S (k + S'.2.2.2.2.cells) (n + S'.2.2.2.2.slots) (fm (remO o (((i0, (b, .inr (ci, fs))) :: l : List (Nat × (Nat × vE))).map Prod.fst)) ++ w) L (v.toList ++ st) (pc + 3)) : V K S k n (fm o) L stk pc := by
  refine V_Perm (fm_rem hl hnd) ?_
  refine V_callVB (q0 := (fm (remO o (((i0, (b, .inr (ci, fs))) :: l : List (Nat × (Nat × vE))).map Prod.fst))).length) (ci := ci) (fs := fs) (T := T) (N := N) ?_ hc rfl hE hM hM0 hlk hin hsel hR hstk hcat hroom d kk
  rw [List.getElem?_append_right (Nat.le_refl _), Nat.sub_self]
  rfl
theorem V_ins {o : oW} (l : List (Nat × (Nat × vE))) {w : vWd} (hw : w = l.map Prod.snd) (hl : ∀ p ∈ l, o[p.1]? = some none) (hnd : (l.map Prod.fst).Nodup) (kk : V K S k n (fm (insO o l)) L st pc) : V K S k n (fm o ++ w) L st pc := by
  subst hw
  exact V_Perm (fm_ins hl hnd) kk
theorem V_eqO {o o2 : oW} (h : o = o2) (kk : V K S k n (fm o2) L st pc) : V K S k n (fm o) L st pc := by subst h; exact kk
end VSUB
def hdO (en c : Nat → Nat) (κ : St) : oW := [some (c 0, .inr (9, cwF c κ)), some (c 1, .inr (4, prF c κ)), some (c 2, .inr (8, wkF c κ)), some (c 3, iE 0 256 (κ 51)), some (c 4, iE 0 256 (κ 52)), some (c 5, iE 0 256 (κ 53)), some (c 6, iE 0 256 (κ 54)), some (c 7, iE 0 256 (κ 55)), some (c 8, iE 0 256 (κ 56)), some (c 9, iE 0 256 (κ 57)), some (c 10, iE 0 158 (κ 58)), some (c 11, iE 0 258 (κ 59)), some (c 12, .inr (2, dfF c κ)), some (c 13, iE 1 225 (κ 60)), some (c 14, iE 0 225 (κ 61)), some (c 15, iE 0 225 (κ 62)), some (c 16, iE 1 64 (κ 63)), none, some (c 18, .inr (3, mcF c 0)), some (c 19, oE 4 4 (kA c 0)), some (c 20, iE 0 64 (κ 70)), some (c 21, iE 0 64 (κ 71)), some (c 22, iE 0 64 (κ 72)), some (c 23, iE 0 64 (κ 73)), some (c 24, .inr (3, mcF c 1)), some (c 25, oE 4 4 (kA c 1)), some (c 26, iE 0 701 (κ 74)), some (c 27, iE 0 701 (κ 75)), some (c 28, iE 0 701 (κ 76)), some (c 29, iE 0 701 (κ 77)), some (c 30, .inr (1, bsF κ)), none, none]
def gpO (en c : Nat → Nat) (κ : St) (s : Int) : oW := [if s < κ 0 2 then some (c (33 + 8 * s.toNat), .inr (6, smF c κ s)) else none, if s < κ 0 2 then some (c (34 + 8 * s.toNat), .inr (7, wnF en κ s)) else none, if s < κ 0 2 then some (c (35 + 8 * s.toNat), .inr (0, alF en c κ s)) else none, if s < κ 0 2 ∧ κ 80 s ≠ 0 then some (c (36 + 8 * s.toNat), oE 3 10 (lA c κ s)) else none, if s < κ 0 2 ∧ 0 < κ 4 s then some (c (37 + 8 * s.toNat + (0 : Int).toNat), .inr (5, rdF κ s 0)) else none, if s < κ 0 2 ∧ 1 < κ 4 s then some (c (37 + 8 * s.toNat + (1 : Int).toNat), .inr (5, rdF κ s 1)) else none, if s < κ 0 2 ∧ 2 < κ 4 s then some (c (37 + 8 * s.toNat + (2 : Int).toNat), .inr (5, rdF κ s 2)) else none, if s < κ 0 2 ∧ 3 < κ 4 s then some (c (37 + 8 * s.toNat + (3 : Int).toNat), .inr (5, rdF κ s 3)) else none]
def tlO (en c : Nat → Nat) (κ : St) : oW := [none, some (c 66, .inr (7, wnF en κ 4)), some (c 67, .inr (0, alF en c κ 4)), if κ 80 4 ≠ 0 then some (c 68, oE 3 10 (lA c κ 4)) else none]
theorem cO_g (en c : Nat → Nat) (κ : St) : cO en c κ = hdO en c κ ++ (gpO en c κ 0 ++ (gpO en c κ 1 ++ (gpO en c κ 2 ++ (gpO en c κ 3 ++ tlO en c κ)))) := rfl
theorem kA_eq {c c2 : Nat → Nat} {m : Int} (hm : 0 ≤ m ∧ m ≤ 1) (hc : ∀ p, p < 33 → c2 p = c p) : kA c2 m = kA c m := by
  funext j
  unfold kA
  by_cases h : 0 ≤ j ∧ j < 4
  · rw [if_pos h, if_pos h, hc _ (by omega)]
  · rw [if_neg h, if_neg h]
theorem hd_eq {en c c2 : Nat → Nat} {κ κ2 : St} (hc : ∀ p, (p < 33 ∨ p = 66 ∨ p = 67) → c2 p = c p) (hk : ∀ k : Nat, 49 ≤ k → k < 79 → κ2 k = κ k) (h0 : ∀ i, i ≠ 2 → κ2 0 i = κ 0 i) : hdO en c2 κ2 = hdO en c κ := by
  have hc0 : ∀ p, p < 33 → c2 p = c p := fun p h => hc p (Or.inl h)
  have e19 : c2 (19 + 6 * Int.toNat 0) = c (19 + 6 * Int.toNat 0) := hc 19 (by decide)
  have e25 : c2 (19 + 6 * Int.toNat 1) = c (19 + 6 * Int.toNat 1) := hc 25 (by decide)
  unfold hdO cwF prF wkF dfF bsF mcF
  rw [kA_eq (m := 0) (by omega) hc0, kA_eq (m := 1) (by omega) hc0]
  simp only [e19, e25, hk 49 (by decide) (by decide), hk 50 (by decide) (by decide), hk 51 (by decide) (by decide), hk 52 (by decide) (by decide), hk 53 (by decide) (by decide), hk 54 (by decide) (by decide), hk 55 (by decide) (by decide), hk 56 (by decide) (by decide), hk 57 (by decide) (by decide), hk 58 (by decide) (by decide), hk 59 (by decide) (by decide), hk 60 (by decide) (by decide), hk 61 (by decide) (by decide), hk 62 (by decide) (by decide), hk 63 (by decide) (by decide), hk 64 (by decide) (by decide), hk 70 (by decide) (by decide), hk 71 (by decide) (by decide), hk 72 (by decide) (by decide), hk 73 (by decide) (by decide), hk 74 (by decide) (by decide), hk 75 (by decide) (by decide), hk 76 (by decide) (by decide), hk 77 (by decide) (by decide), hk 78 (by decide) (by decide), h0 0 (by decide), h0 1 (by decide), h0 11 (by decide), h0 12 (by decide), hc 0 (by decide), hc 1 (by decide), hc 2 (by decide), hc 3 (by decide), hc 4 (by decide), hc 5 (by decide), hc 6 (by decide), hc 7 (by decide), hc 8 (by decide), hc 9 (by decide), hc 10 (by decide), hc 11 (by decide), hc 12 (by decide), hc 13 (by decide), hc 14 (by decide), hc 15 (by decide), hc 16 (by decide), hc 18 (by decide), hc 19 (by decide), hc 20 (by decide), hc 21 (by decide), hc 22 (by decide), hc 23 (by decide), hc 24 (by decide), hc 25 (by decide), hc 26 (by decide), hc 27 (by decide), hc 28 (by decide), hc 29 (by decide), hc 30 (by decide), hc 66 (by decide), hc 67 (by decide)]
theorem ite_same {p q : Prop} [Decidable p] [Decidable q] {α : Type} {x y : α} (h : p ↔ q) (hxy : p → x = y) : (if p then some x else none) = (if q then some y else none) := by
  by_cases hp : p
  · rw [if_pos hp, if_pos (h.mp hp), hxy hp]
  · rw [if_neg hp, if_neg (fun z => hp (h.mpr z))]
theorem lc {α : Type} {a b : α} {l l2 : List α} (h : a = b) (t : l = l2) : a :: l = b :: l2 := by rw [h, t]
theorem lA_eq {c c2 : Nat → Nat} {κ κ2 : St} {t : Int} (ht : 0 ≤ t ∧ t < 4) (hb : κ 4 t ≤ 4) (h4 : κ2 4 t = κ 4 t) (hc : ∀ p : Nat, 33 + 8 * t.toNat ≤ p → p < 41 + 8 * t.toNat → c2 p = c p) : lA c2 κ2 t = lA c κ t := by
  funext j
  have ht4 : ¬ t = 4 := by omega
  unfold lA lsz
  simp only [if_neg ht4, h4]
  by_cases h : 0 ≤ j ∧ j < κ 4 t
  · rw [if_pos h, if_pos h, hc _ (by omega) (by omega)]
  · rw [if_neg h, if_neg h]
/-- a group of places is as before -/
def gpS (κ κ2 : St) (t : Int) : Prop := (t < κ2 0 2 ↔ t < κ 0 2) ∧ (∀ k : Nat, (k = 3 ∨ k = 4 ∨ k = 9 ∨ k = 10 ∨ (39 ≤ k ∧ k ≤ 43) ∨ k = 79 ∨ k = 80) → κ2 k t = κ k t) ∧ ∀ (k : Nat) (j : Int), (5 ≤ k ∧ k ≤ 8) → 0 ≤ j → j < 4 → κ2 k (4 * t + j) = κ k (4 * t + j)
theorem gp_eq {en c c2 : Nat → Nat} {κ κ2 : St} {t : Int} (ht : 0 ≤ t ∧ t < 4) (hb : κ 4 t ≤ 4) (hs : gpS κ κ2 t) (hc : ∀ p : Nat, 33 + 8 * t.toNat ≤ p → p < 41 + 8 * t.toNat → c2 p = c p) : gpO en c2 κ2 t = gpO en c κ t := by
  obtain ⟨g0, g1, g2⟩ := hs
  have e3 := g1 3 (by omega)
  have e4 := g1 4 (by omega)
  have e9 := g1 9 (by omega)
  have e10 := g1 10 (by omega)
  have e39 := g1 39 (by omega)
  have e40 := g1 40 (by omega)
  have e41 := g1 41 (by omega)
  have e42 := g1 42 (by omega)
  have e43 := g1 43 (by omega)
  have e79 := g1 79 (by omega)
  have e80 := g1 80 (by omega)
  have hl := lA_eq (c := c) (c2 := c2) (κ := κ) (κ2 := κ2) ht hb e4 hc
  have hz : lsz κ2 t = lsz κ t := by unfold lsz; rw [if_neg (show ¬ t = 4 by omega), if_neg (show ¬ t = 4 by omega), e4]
  unfold gpO smF wnF alF rdF
  rw [e3, e4, e9, e10, e39, e40, e41, e42, e43, e79, e80, hl, hz]
  rw [hc (33 + 8 * t.toNat) (by omega) (by omega), hc (34 + 8 * t.toNat) (by omega) (by omega), hc (35 + 8 * t.toNat) (by omega) (by omega), hc (36 + 8 * t.toNat) (by omega) (by omega), hc (37 + 8 * t.toNat + (0 : Int).toNat) (by omega) (by omega), hc (37 + 8 * t.toNat + (1 : Int).toNat) (by omega) (by omega), hc (37 + 8 * t.toNat + (2 : Int).toNat) (by omega) (by omega), hc (37 + 8 * t.toNat + (3 : Int).toNat) (by omega) (by omega)]
  rw [g2 5 0 (by omega) (by omega) (by omega), g2 6 0 (by omega) (by omega) (by omega), g2 7 0 (by omega) (by omega) (by omega), g2 8 0 (by omega) (by omega) (by omega), g2 5 1 (by omega) (by omega) (by omega), g2 6 1 (by omega) (by omega) (by omega), g2 7 1 (by omega) (by omega) (by omega), g2 8 1 (by omega) (by omega) (by omega), g2 5 2 (by omega) (by omega) (by omega), g2 6 2 (by omega) (by omega) (by omega), g2 7 2 (by omega) (by omega) (by omega), g2 8 2 (by omega) (by omega) (by omega), g2 5 3 (by omega) (by omega) (by omega), g2 6 3 (by omega) (by omega) (by omega), g2 7 3 (by omega) (by omega) (by omega), g2 8 3 (by omega) (by omega) (by omega)]
  refine lc (ite_same g0 (fun _ => rfl)) (lc (ite_same g0 (fun _ => rfl)) (lc (ite_same g0 (fun _ => rfl)) (lc (ite_same (and_congr g0 Iff.rfl) (fun _ => rfl)) (lc (ite_same (and_congr g0 Iff.rfl) (fun _ => rfl)) (lc (ite_same (and_congr g0 Iff.rfl) (fun _ => rfl)) (lc (ite_same (and_congr g0 Iff.rfl) (fun _ => rfl)) (lc (ite_same (and_congr g0 Iff.rfl) (fun _ => rfl)) rfl)))))))
