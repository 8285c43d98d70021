/-! the class: a read added, reads dropped -/
theorem remO_len : ∀ (l : List Nat) (o : oW), (remO o l).length = o.length
  | [], _ => rfl
  | i :: l, o => by
    show (remO (o.set i none) l).length = o.length
    rw [remO_len l, List.length_set]
theorem remO_ne : ∀ (l : List Nat) (o : oW) (i : Nat), i ∉ l → (remO o l)[i]? = o[i]?
  | [], _, _, _ => rfl
  | j :: l, o, i, h => by
    show (remO (o.set j none) l)[i]? = o[i]?
    rw [remO_ne l _ i (fun z => h (List.mem_cons_of_mem _ z)), List.getElem?_set_ne (fun e => h (by rw [e]; exact List.mem_cons_self))]
theorem remO_in : ∀ (l : List Nat) (o : oW) (i : Nat), i ∈ l → i < o.length → (remO o l)[i]? = some none
  | [], _, _, h, _ => absurd h List.not_mem_nil
  | j :: l, o, i, h, hl => by
    show (remO (o.set j none) l)[i]? = some none
    by_cases hi : i ∈ l
    · exact remO_in l _ i hi (by rw [List.length_set]; exact hl)
    · rw [remO_ne l _ i hi]
      rcases List.mem_cons.mp h with e | e
      · subst e
        rw [List.getElem?_set_self hl]
      · exact absurd e hi
theorem cO_len (en c : Nat → Nat) (κ : St) : (cO en c κ).length = 69 := rfl
theorem no_rd {en c : Nat → Nat} {κ : St} {s j : Int} (hs : 0 ≤ s ∧ s < 4) (hj : 0 ≤ j ∧ j < 4) (h : ¬ j < κ 4 s) : (cO en c κ)[37 + 8 * s.toNat + j.toNat]? = some none := by
  obtain rfl | rfl | rfl | rfl : s = 0 ∨ s = 1 ∨ s = 2 ∨ s = 3 := (by omega) <;> (obtain rfl | rfl | rfl | rfl : j = 0 ∨ j = 1 ∨ j = 2 ∨ j = 3 := (by omega)) <;> exact congrArg some (if_neg (fun z => h z.2))
theorem no_la {en c : Nat → Nat} {κ : St} {s : Int} (hs : 0 ≤ s ∧ s < 4) (h : κ 80 s = 0) : (cO en c κ)[36 + 8 * s.toNat]? = some none := by
  obtain rfl | rfl | rfl | rfl : s = 0 ∨ s = 1 ∨ s = 2 ∨ s = 3 := (by omega) <;> exact congrArg some (if_neg (fun z => z.2 h))
def arC (c : Nat → Nat) (s j : Int) (q ad : Nat) : Nat → Nat := cup (cup c (36 + 8 * s.toNat) ad) (37 + 8 * s.toNat + j.toNat) q
def arK (κ : St) (s j f m u l : Int) : St := up (up (up (up (up (up (up κ 5 (4 * s + j) f) 6 (4 * s + j) m) 7 (4 * s + j) u) 8 (4 * s + j) l) 4 s (j + 1)) 79 s (κ 79 s + 1)) 80 s 1
theorem arC_ne {c : Nat → Nat} {s j : Int} {q ad p : Nat} (h0 : p ≠ 36 + 8 * s.toNat) (h : p ≠ 37 + 8 * s.toNat + j.toNat) : arC c s j q ad p = c p := by
  unfold arC
  rw [cup_ne h, cup_ne h0]
theorem arK_ne {κ : St} {s j f m u l : Int} {k : Nat} (h : k < 4 ∨ (8 < k ∧ k ≠ 79 ∧ k ≠ 80)) : arK κ s j f m u l k = κ k := by
  unfold arK
  rw [up_ne (by omega), up_ne (by omega), up_ne (by omega), up_ne (by omega), up_ne (by omega), up_ne (by omega), up_ne (by omega)]
theorem ar_hd {en c : Nat → Nat} {κ : St} {s j f m u l : Int} {q ad : Nat} (hs : 0 ≤ s ∧ s < 4) (hj : 0 ≤ j ∧ j < 4) : hdO en (arC c s j q ad) (arK κ s j f m u l) = hdO en c κ :=
  hd_eq (fun p hp => arC_ne (by omega) (by omega)) (fun k h1 h2 => arK_ne (by omega)) (fun i hi => by rw [arK_ne (by omega)])
theorem ar_gpe {en c : Nat → Nat} {κ : St} {s j f m u l t : Int} {q ad : Nat} (hs : 0 ≤ s ∧ s < 4) (hj : 0 ≤ j ∧ j < 4) (hb : ∀ t, 0 ≤ t → t < 4 → κ 4 t ≤ 4) (ht : 0 ≤ t ∧ t < 4) (h : t ≠ s) : gpO en (arC c s j q ad) (arK κ s j f m u l) t = gpO en c κ t := by
  refine gp_eq ht (hb t ht.1 ht.2) ⟨?_, fun k hk => ?_, fun k i hk i0 i1 => ?_⟩ (fun p h1 h2 => arC_ne (by omega) (by omega))
  · rw [arK_ne (by omega)]
  · by_cases a : k = 4
    · subst a; exact fup_ne h
    · by_cases b : k = 79
      · subst b; exact fup_ne h
      · by_cases d : k = 80
        · subst d; exact fup_ne h
        · rw [arK_ne (by omega)]
  · have hne : 4 * t + i ≠ 4 * s + j := by omega
    rcases (show k = 5 ∨ k = 6 ∨ k = 7 ∨ k = 8 by omega) with rfl | rfl | rfl | rfl <;> exact fup_ne hne
theorem ar_tl {en c : Nat → Nat} {κ : St} {s j f m u l : Int} {q ad : Nat} (hs : 0 ≤ s ∧ s < 4) (hj : 0 ≤ j ∧ j < 4) : tlO en (arC c s j q ad) (arK κ s j f m u l) = tlO en c κ := by
  have h4 : (4 : Int) ≠ s := by omega
  have e39 : arK κ s j f m u l 39 = κ 39 := arK_ne (by omega)
  have e40 : arK κ s j f m u l 40 = κ 40 := arK_ne (by omega)
  have e41 : arK κ s j f m u l 41 = κ 41 := arK_ne (by omega)
  have e42 : arK κ s j f m u l 42 = κ 42 := arK_ne (by omega)
  have e43 : arK κ s j f m u l 43 = κ 43 := arK_ne (by omega)
  have e79 : arK κ s j f m u l 79 4 = κ 79 4 := fup_ne h4
  have e80 : arK κ s j f m u l 80 4 = κ 80 4 := fup_ne h4
  have ez : lsz (arK κ s j f m u l) 4 = lsz κ 4 := rfl
  have c66 : arC c s j q ad 66 = c 66 := arC_ne (by omega) (by omega)
  have c67 : arC c s j q ad 67 = c 67 := arC_ne (by omega) (by omega)
  have c68 : arC c s j q ad 68 = c 68 := arC_ne (by omega) (by omega)
  have c68' : arC c s j q ad (36 + 8 * (4 : Int).toNat) = c (36 + 8 * (4 : Int).toNat) := c68
  have el : lA (arC c s j q ad) (arK κ s j f m u l) 4 = lA c κ 4 := by
    funext i
    show (if 0 ≤ i ∧ i < κ 0 2 then some (arC c s j q ad (33 + 8 * i.toNat)) else none) = (if 0 ≤ i ∧ i < κ 0 2 then some (c (33 + 8 * i.toNat)) else none)
    by_cases h : 0 ≤ i ∧ i < κ 0 2
    · rw [if_pos h, if_pos h, arC_ne (by omega) (by omega)]
    · rw [if_neg h, if_neg h]
  unfold tlO wnF alF
  rw [e39, e40, e41, e42, e43, e79, e80, ez, c66, c67, c68, c68', el]
theorem ar_lA {c : Nat → Nat} {κ : St} {s j f m u l : Int} {q ad : Nat} (hs : 0 ≤ s ∧ s < 4) (hj : 0 ≤ j ∧ j < 4) (h4 : κ 4 s = j) : lA (arC c s j q ad) (arK κ s j f m u l) s = fup (lA c κ s) j (some q) := by
  have hs4 : ¬ s = 4 := by omega
  have e4 : arK κ s j f m u l 4 s = j + 1 := fup_eq _ _ _
  funext i
  show lA (arC c s j q ad) (arK κ s j f m u l) s i = (if i = j then some q else lA c κ s i)
  unfold lA lsz
  simp only [if_neg hs4, e4, h4]
  by_cases e : i = j
  · subst e
    rw [if_pos (by omega), if_pos rfl]
    exact congrArg some (cup_eq _ _ _)
  · rw [if_neg e]
    by_cases h : 0 ≤ i ∧ i < j
    · rw [if_pos (by omega), if_pos h, arC_ne (by omega) (by omega)]
    · rw [if_neg (by omega), if_neg h]
theorem gp_live0 {en c : Nat → Nat} {κ : St} {s : Int} (hs : s < κ 0 2) (h4 : κ 4 s = 0) : gpO en c κ s = [some (c (33 + 8 * s.toNat), .inr (6, smF c κ s)), some (c (34 + 8 * s.toNat), .inr (7, wnF en κ s)), some (c (35 + 8 * s.toNat), .inr (0, alF en c κ s)), (if κ 80 s ≠ 0 then some (c (36 + 8 * s.toNat), oE 3 10 (lA c κ s)) else none), none, none, none, none] := by
  have e36 : (if s < κ 0 2 ∧ κ 80 s ≠ 0 then some (c (36 + 8 * s.toNat), oE 3 10 (lA c κ s)) else none) = (if κ 80 s ≠ 0 then some (c (36 + 8 * s.toNat), oE 3 10 (lA c κ s)) else none) := by
    by_cases h : κ 80 s ≠ 0
    · rw [if_pos ⟨hs, h⟩, if_pos h]
    · rw [if_neg (fun z => h z.2), if_neg h]
  unfold gpO
  rw [e36, if_pos hs, if_pos hs, if_pos hs, if_neg (fun z : s < κ 0 2 ∧ 0 < κ 4 s => by omega), if_neg (fun z : s < κ 0 2 ∧ 1 < κ 4 s => by omega), if_neg (fun z : s < κ 0 2 ∧ 2 < κ 4 s => by omega), if_neg (fun z : s < κ 0 2 ∧ 3 < κ 4 s => by omega)]
theorem ar_gp0 {en c : Nat → Nat} {κ : St} {s f m u l : Int} {q ad : Nat} (hs4 : 0 ≤ s ∧ s < 4) (hs : s < κ 0 2) (h4 : κ 4 s = 0) : gpO en (arC c s 0 q ad) (arK κ s 0 f m u l) s = [some (c (33 + 8 * s.toNat), .inr (6, smF c κ s)), some (c (34 + 8 * s.toNat), .inr (7, wnF en κ s)), some (c (35 + 8 * s.toNat), .inr (0, [.int (zI (κ 79 s + 1)), .ref ad, .int (zI (0 + 1))])), some (ad, oE 3 10 (fup (lA c κ s) 0 (some q))), some (q, .inr (5, [.int (zI f), .int (zI m), .int (zI u), .int (zI l)])), none, none, none] := by
  have e02 : arK κ s 0 f m u l 0 2 = κ 0 2 := rfl
  have e3 : arK κ s 0 f m u l 3 s = κ 3 s := rfl
  have e4 : arK κ s 0 f m u l 4 s = 0 + 1 := fup_eq _ _ _
  have e9 : arK κ s 0 f m u l 9 s = κ 9 s := rfl
  have e10 : arK κ s 0 f m u l 10 s = κ 10 s := rfl
  have e39 : arK κ s 0 f m u l 39 s = κ 39 s := rfl
  have e40 : arK κ s 0 f m u l 40 s = κ 40 s := rfl
  have e41 : arK κ s 0 f m u l 41 s = κ 41 s := rfl
  have e42 : arK κ s 0 f m u l 42 s = κ 42 s := rfl
  have e43 : arK κ s 0 f m u l 43 s = κ 43 s := rfl
  have e79 : arK κ s 0 f m u l 79 s = κ 79 s + 1 := fup_eq _ _ _
  have e80 : arK κ s 0 f m u l 80 s = 1 := fup_eq _ _ _
  have ez : lsz (arK κ s 0 f m u l) s = 0 + 1 := by unfold lsz; rw [if_neg (by omega)]; exact e4
  have r50 : arK κ s 0 f m u l 5 (4 * s + 0) = f := fup_eq _ _ _
  have r60 : arK κ s 0 f m u l 6 (4 * s + 0) = m := fup_eq _ _ _
  have r70 : arK κ s 0 f m u l 7 (4 * s + 0) = u := fup_eq _ _ _
  have r80 : arK κ s 0 f m u l 8 (4 * s + 0) = l := fup_eq _ _ _
  have c370 : arC c s 0 q ad (37 + 8 * s.toNat + (0 : Int).toNat) = q := cup_eq _ _ _
  have c33 : arC c s 0 q ad (33 + 8 * s.toNat) = c (33 + 8 * s.toNat) := arC_ne (by omega) (by omega)
  have c34 : arC c s 0 q ad (34 + 8 * s.toNat) = c (34 + 8 * s.toNat) := arC_ne (by omega) (by omega)
  have c35 : arC c s 0 q ad (35 + 8 * s.toNat) = c (35 + 8 * s.toNat) := arC_ne (by omega) (by omega)
  have c36 : arC c s 0 q ad (36 + 8 * s.toNat) = ad := (cup_ne (by omega)).trans (cup_eq _ _ _)
  unfold gpO smF wnF alF rdF
  rw [e02, e3, e4, e9, e10, e39, e40, e41, e42, e43, e79, e80, ez, c33, c34, c35, c36, ar_lA hs4 (by omega) h4, if_pos hs, if_pos hs, if_pos hs, if_pos (⟨hs, by decide⟩ : s < κ 0 2 ∧ (1 : Int) ≠ 0), if_pos (⟨hs, by omega⟩ : s < κ 0 2 ∧ (0 : Int) < 0 + 1), if_neg (fun z : s < κ 0 2 ∧ (1 : Int) < 0 + 1 => by omega), if_neg (fun z : s < κ 0 2 ∧ (2 : Int) < 0 + 1 => by omega), if_neg (fun z : s < κ 0 2 ∧ (3 : Int) < 0 + 1 => by omega)]
  simp only [c370, r50, r60, r70, r80]
  rfl
theorem gp_live1 {en c : Nat → Nat} {κ : St} {s : Int} (hs : s < κ 0 2) (h4 : κ 4 s = 1) : gpO en c κ s = [some (c (33 + 8 * s.toNat), .inr (6, smF c κ s)), some (c (34 + 8 * s.toNat), .inr (7, wnF en κ s)), some (c (35 + 8 * s.toNat), .inr (0, alF en c κ s)), (if κ 80 s ≠ 0 then some (c (36 + 8 * s.toNat), oE 3 10 (lA c κ s)) else none), some (c (37 + 8 * s.toNat + (0 : Int).toNat), .inr (5, rdF κ s 0)), none, none, none] := by
  have e36 : (if s < κ 0 2 ∧ κ 80 s ≠ 0 then some (c (36 + 8 * s.toNat), oE 3 10 (lA c κ s)) else none) = (if κ 80 s ≠ 0 then some (c (36 + 8 * s.toNat), oE 3 10 (lA c κ s)) else none) := by
    by_cases h : κ 80 s ≠ 0
    · rw [if_pos ⟨hs, h⟩, if_pos h]
    · rw [if_neg (fun z => h z.2), if_neg h]
  unfold gpO
  rw [e36, if_pos hs, if_pos hs, if_pos hs, if_pos (⟨hs, by omega⟩ : s < κ 0 2 ∧ 0 < κ 4 s), if_neg (fun z : s < κ 0 2 ∧ 1 < κ 4 s => by omega), if_neg (fun z : s < κ 0 2 ∧ 2 < κ 4 s => by omega), if_neg (fun z : s < κ 0 2 ∧ 3 < κ 4 s => by omega)]
theorem ar_gp1 {en c : Nat → Nat} {κ : St} {s f m u l : Int} {q ad : Nat} (hs4 : 0 ≤ s ∧ s < 4) (hs : s < κ 0 2) (h4 : κ 4 s = 1) : gpO en (arC c s 1 q ad) (arK κ s 1 f m u l) s = [some (c (33 + 8 * s.toNat), .inr (6, smF c κ s)), some (c (34 + 8 * s.toNat), .inr (7, wnF en κ s)), some (c (35 + 8 * s.toNat), .inr (0, [.int (zI (κ 79 s + 1)), .ref ad, .int (zI (1 + 1))])), some (ad, oE 3 10 (fup (lA c κ s) 1 (some q))), some (c (37 + 8 * s.toNat + (0 : Int).toNat), .inr (5, rdF κ s 0)), some (q, .inr (5, [.int (zI f), .int (zI m), .int (zI u), .int (zI l)])), none, none] := by
  have e02 : arK κ s 1 f m u l 0 2 = κ 0 2 := rfl
  have e3 : arK κ s 1 f m u l 3 s = κ 3 s := rfl
  have e4 : arK κ s 1 f m u l 4 s = 1 + 1 := fup_eq _ _ _
  have e9 : arK κ s 1 f m u l 9 s = κ 9 s := rfl
  have e10 : arK κ s 1 f m u l 10 s = κ 10 s := rfl
  have e39 : arK κ s 1 f m u l 39 s = κ 39 s := rfl
  have e40 : arK κ s 1 f m u l 40 s = κ 40 s := rfl
  have e41 : arK κ s 1 f m u l 41 s = κ 41 s := rfl
  have e42 : arK κ s 1 f m u l 42 s = κ 42 s := rfl
  have e43 : arK κ s 1 f m u l 43 s = κ 43 s := rfl
  have e79 : arK κ s 1 f m u l 79 s = κ 79 s + 1 := fup_eq _ _ _
  have e80 : arK κ s 1 f m u l 80 s = 1 := fup_eq _ _ _
  have ez : lsz (arK κ s 1 f m u l) s = 1 + 1 := by unfold lsz; rw [if_neg (by omega)]; exact e4
  have r50 : arK κ s 1 f m u l 5 (4 * s + 0) = κ 5 (4 * s + 0) := fup_ne (by omega)
  have r60 : arK κ s 1 f m u l 6 (4 * s + 0) = κ 6 (4 * s + 0) := fup_ne (by omega)
  have r70 : arK κ s 1 f m u l 7 (4 * s + 0) = κ 7 (4 * s + 0) := fup_ne (by omega)
  have r80 : arK κ s 1 f m u l 8 (4 * s + 0) = κ 8 (4 * s + 0) := fup_ne (by omega)
  have c370 : arC c s 1 q ad (37 + 8 * s.toNat + (0 : Int).toNat) = c (37 + 8 * s.toNat + (0 : Int).toNat) := arC_ne (by omega) (by omega)
  have r51 : arK κ s 1 f m u l 5 (4 * s + 1) = f := fup_eq _ _ _
  have r61 : arK κ s 1 f m u l 6 (4 * s + 1) = m := fup_eq _ _ _
  have r71 : arK κ s 1 f m u l 7 (4 * s + 1) = u := fup_eq _ _ _
  have r81 : arK κ s 1 f m u l 8 (4 * s + 1) = l := fup_eq _ _ _
  have c371 : arC c s 1 q ad (37 + 8 * s.toNat + (1 : Int).toNat) = q := cup_eq _ _ _
  have c33 : arC c s 1 q ad (33 + 8 * s.toNat) = c (33 + 8 * s.toNat) := arC_ne (by omega) (by omega)
  have c34 : arC c s 1 q ad (34 + 8 * s.toNat) = c (34 + 8 * s.toNat) := arC_ne (by omega) (by omega)
  have c35 : arC c s 1 q ad (35 + 8 * s.toNat) = c (35 + 8 * s.toNat) := arC_ne (by omega) (by omega)
  have c36 : arC c s 1 q ad (36 + 8 * s.toNat) = ad := (cup_ne (by omega)).trans (cup_eq _ _ _)
  unfold gpO smF wnF alF rdF
  rw [e02, e3, e4, e9, e10, e39, e40, e41, e42, e43, e79, e80, ez, c33, c34, c35, c36, ar_lA hs4 (by omega) h4, if_pos hs, if_pos hs, if_pos hs, if_pos (⟨hs, by decide⟩ : s < κ 0 2 ∧ (1 : Int) ≠ 0), if_pos (⟨hs, by omega⟩ : s < κ 0 2 ∧ (0 : Int) < 1 + 1), if_pos (⟨hs, by omega⟩ : s < κ 0 2 ∧ (1 : Int) < 1 + 1), if_neg (fun z : s < κ 0 2 ∧ (2 : Int) < 1 + 1 => by omega), if_neg (fun z : s < κ 0 2 ∧ (3 : Int) < 1 + 1 => by omega)]
  simp only [c370, c371, r50, r60, r70, r80, r51, r61, r71, r81]
  rfl
theorem gp_live2 {en c : Nat → Nat} {κ : St} {s : Int} (hs : s < κ 0 2) (h4 : κ 4 s = 2) : gpO en c κ s = [some (c (33 + 8 * s.toNat), .inr (6, smF c κ s)), some (c (34 + 8 * s.toNat), .inr (7, wnF en κ s)), some (c (35 + 8 * s.toNat), .inr (0, alF en c κ s)), (if κ 80 s ≠ 0 then some (c (36 + 8 * s.toNat), oE 3 10 (lA c κ s)) else none), some (c (37 + 8 * s.toNat + (0 : Int).toNat), .inr (5, rdF κ s 0)), some (c (37 + 8 * s.toNat + (1 : Int).toNat), .inr (5, rdF κ s 1)), none, none] := by
  have e36 : (if s < κ 0 2 ∧ κ 80 s ≠ 0 then some (c (36 + 8 * s.toNat), oE 3 10 (lA c κ s)) else none) = (if κ 80 s ≠ 0 then some (c (36 + 8 * s.toNat), oE 3 10 (lA c κ s)) else none) := by
    by_cases h : κ 80 s ≠ 0
    · rw [if_pos ⟨hs, h⟩, if_pos h]
    · rw [if_neg (fun z => h z.2), if_neg h]
  unfold gpO
  rw [e36, if_pos hs, if_pos hs, if_pos hs, if_pos (⟨hs, by omega⟩ : s < κ 0 2 ∧ 0 < κ 4 s), if_pos (⟨hs, by omega⟩ : s < κ 0 2 ∧ 1 < κ 4 s), if_neg (fun z : s < κ 0 2 ∧ 2 < κ 4 s => by omega), if_neg (fun z : s < κ 0 2 ∧ 3 < κ 4 s => by omega)]
theorem ar_gp2 {en c : Nat → Nat} {κ : St} {s f m u l : Int} {q ad : Nat} (hs4 : 0 ≤ s ∧ s < 4) (hs : s < κ 0 2) (h4 : κ 4 s = 2) : gpO en (arC c s 2 q ad) (arK κ s 2 f m u l) s = [some (c (33 + 8 * s.toNat), .inr (6, smF c κ s)), some (c (34 + 8 * s.toNat), .inr (7, wnF en κ s)), some (c (35 + 8 * s.toNat), .inr (0, [.int (zI (κ 79 s + 1)), .ref ad, .int (zI (2 + 1))])), some (ad, oE 3 10 (fup (lA c κ s) 2 (some q))), some (c (37 + 8 * s.toNat + (0 : Int).toNat), .inr (5, rdF κ s 0)), some (c (37 + 8 * s.toNat + (1 : Int).toNat), .inr (5, rdF κ s 1)), some (q, .inr (5, [.int (zI f), .int (zI m), .int (zI u), .int (zI l)])), none] := by
  have e02 : arK κ s 2 f m u l 0 2 = κ 0 2 := rfl
  have e3 : arK κ s 2 f m u l 3 s = κ 3 s := rfl
  have e4 : arK κ s 2 f m u l 4 s = 2 + 1 := fup_eq _ _ _
  have e9 : arK κ s 2 f m u l 9 s = κ 9 s := rfl
  have e10 : arK κ s 2 f m u l 10 s = κ 10 s := rfl
  have e39 : arK κ s 2 f m u l 39 s = κ 39 s := rfl
  have e40 : arK κ s 2 f m u l 40 s = κ 40 s := rfl
  have e41 : arK κ s 2 f m u l 41 s = κ 41 s := rfl
  have e42 : arK κ s 2 f m u l 42 s = κ 42 s := rfl
  have e43 : arK κ s 2 f m u l 43 s = κ 43 s := rfl
  have e79 : arK κ s 2 f m u l 79 s = κ 79 s + 1 := fup_eq _ _ _
  have e80 : arK κ s 2 f m u l 80 s = 1 := fup_eq _ _ _
  have ez : lsz (arK κ s 2 f m u l) s = 2 + 1 := by unfold lsz; rw [if_neg (by omega)]; exact e4
  have r50 : arK κ s 2 f m u l 5 (4 * s + 0) = κ 5 (4 * s + 0) := fup_ne (by omega)
  have r60 : arK κ s 2 f m u l 6 (4 * s + 0) = κ 6 (4 * s + 0) := fup_ne (by omega)
  have r70 : arK κ s 2 f m u l 7 (4 * s + 0) = κ 7 (4 * s + 0) := fup_ne (by omega)
  have r80 : arK κ s 2 f m u l 8 (4 * s + 0) = κ 8 (4 * s + 0) := fup_ne (by omega)
  have c370 : arC c s 2 q ad (37 + 8 * s.toNat + (0 : Int).toNat) = c (37 + 8 * s.toNat + (0 : Int).toNat) := arC_ne (by omega) (by omega)
  have r51 : arK κ s 2 f m u l 5 (4 * s + 1) = κ 5 (4 * s + 1) := fup_ne (by omega)
  have r61 : arK κ s 2 f m u l 6 (4 * s + 1) = κ 6 (4 * s + 1) := fup_ne (by omega)
  have r71 : arK κ s 2 f m u l 7 (4 * s + 1) = κ 7 (4 * s + 1) := fup_ne (by omega)
  have r81 : arK κ s 2 f m u l 8 (4 * s + 1) = κ 8 (4 * s + 1) := fup_ne (by omega)
  have c371 : arC c s 2 q ad (37 + 8 * s.toNat + (1 : Int).toNat) = c (37 + 8 * s.toNat + (1 : Int).toNat) := arC_ne (by omega) (by omega)
  have r52 : arK κ s 2 f m u l 5 (4 * s + 2) = f := fup_eq _ _ _
  have r62 : arK κ s 2 f m u l 6 (4 * s + 2) = m := fup_eq _ _ _
  have r72 : arK κ s 2 f m u l 7 (4 * s + 2) = u := fup_eq _ _ _
  have r82 : arK κ s 2 f m u l 8 (4 * s + 2) = l := fup_eq _ _ _
  have c372 : arC c s 2 q ad (37 + 8 * s.toNat + (2 : Int).toNat) = q := cup_eq _ _ _
  have c33 : arC c s 2 q ad (33 + 8 * s.toNat) = c (33 + 8 * s.toNat) := arC_ne (by omega) (by omega)
  have c34 : arC c s 2 q ad (34 + 8 * s.toNat) = c (34 + 8 * s.toNat) := arC_ne (by omega) (by omega)
  have c35 : arC c s 2 q ad (35 + 8 * s.toNat) = c (35 + 8 * s.toNat) := arC_ne (by omega) (by omega)
  have c36 : arC c s 2 q ad (36 + 8 * s.toNat) = ad := (cup_ne (by omega)).trans (cup_eq _ _ _)
  unfold gpO smF wnF alF rdF
  rw [e02, e3, e4, e9, e10, e39, e40, e41, e42, e43, e79, e80, ez, c33, c34, c35, c36, ar_lA hs4 (by omega) h4, if_pos hs, if_pos hs, if_pos hs, if_pos (⟨hs, by decide⟩ : s < κ 0 2 ∧ (1 : Int) ≠ 0), if_pos (⟨hs, by omega⟩ : s < κ 0 2 ∧ (0 : Int) < 2 + 1), if_pos (⟨hs, by omega⟩ : s < κ 0 2 ∧ (1 : Int) < 2 + 1), if_pos (⟨hs, by omega⟩ : s < κ 0 2 ∧ (2 : Int) < 2 + 1), if_neg (fun z : s < κ 0 2 ∧ (3 : Int) < 2 + 1 => by omega)]
  simp only [c370, c371, c372, r50, r60, r70, r80, r51, r61, r71, r81, r52, r62, r72, r82]
  rfl
theorem gp_live3 {en c : Nat → Nat} {κ : St} {s : Int} (hs : s < κ 0 2) (h4 : κ 4 s = 3) : gpO en c κ s = [some (c (33 + 8 * s.toNat), .inr (6, smF c κ s)), some (c (34 + 8 * s.toNat), .inr (7, wnF en κ s)), some (c (35 + 8 * s.toNat), .inr (0, alF en c κ s)), (if κ 80 s ≠ 0 then some (c (36 + 8 * s.toNat), oE 3 10 (lA c κ s)) else none), some (c (37 + 8 * s.toNat + (0 : Int).toNat), .inr (5, rdF κ s 0)), some (c (37 + 8 * s.toNat + (1 : Int).toNat), .inr (5, rdF κ s 1)), some (c (37 + 8 * s.toNat + (2 : Int).toNat), .inr (5, rdF κ s 2)), none] := by
  have e36 : (if s < κ 0 2 ∧ κ 80 s ≠ 0 then some (c (36 + 8 * s.toNat), oE 3 10 (lA c κ s)) else none) = (if κ 80 s ≠ 0 then some (c (36 + 8 * s.toNat), oE 3 10 (lA c κ s)) else none) := by
    by_cases h : κ 80 s ≠ 0
    · rw [if_pos ⟨hs, h⟩, if_pos h]
    · rw [if_neg (fun z => h z.2), if_neg h]
  unfold gpO
  rw [e36, if_pos hs, if_pos hs, if_pos hs, if_pos (⟨hs, by omega⟩ : s < κ 0 2 ∧ 0 < κ 4 s), if_pos (⟨hs, by omega⟩ : s < κ 0 2 ∧ 1 < κ 4 s), if_pos (⟨hs, by omega⟩ : s < κ 0 2 ∧ 2 < κ 4 s), if_neg (fun z : s < κ 0 2 ∧ 3 < κ 4 s => by omega)]
theorem ar_gp3 {en c : Nat → Nat} {κ : St} {s f m u l : Int} {q ad : Nat} (hs4 : 0 ≤ s ∧ s < 4) (hs : s < κ 0 2) (h4 : κ 4 s = 3) : gpO en (arC c s 3 q ad) (arK κ s 3 f m u l) s = [some (c (33 + 8 * s.toNat), .inr (6, smF c κ s)), some (c (34 + 8 * s.toNat), .inr (7, wnF en κ s)), some (c (35 + 8 * s.toNat), .inr (0, [.int (zI (κ 79 s + 1)), .ref ad, .int (zI (3 + 1))])), some (ad, oE 3 10 (fup (lA c κ s) 3 (some q))), some (c (37 + 8 * s.toNat + (0 : Int).toNat), .inr (5, rdF κ s 0)), some (c (37 + 8 * s.toNat + (1 : Int).toNat), .inr (5, rdF κ s 1)), some (c (37 + 8 * s.toNat + (2 : Int).toNat), .inr (5, rdF κ s 2)), some (q, .inr (5, [.int (zI f), .int (zI m), .int (zI u), .int (zI l)]))] := by
  have e02 : arK κ s 3 f m u l 0 2 = κ 0 2 := rfl
  have e3 : arK κ s 3 f m u l 3 s = κ 3 s := rfl
  have e4 : arK κ s 3 f m u l 4 s = 3 + 1 := fup_eq _ _ _
  have e9 : arK κ s 3 f m u l 9 s = κ 9 s := rfl
  have e10 : arK κ s 3 f m u l 10 s = κ 10 s := rfl
  have e39 : arK κ s 3 f m u l 39 s = κ 39 s := rfl
  have e40 : arK κ s 3 f m u l 40 s = κ 40 s := rfl
  have e41 : arK κ s 3 f m u l 41 s = κ 41 s := rfl
  have e42 : arK κ s 3 f m u l 42 s = κ 42 s := rfl
  have e43 : arK κ s 3 f m u l 43 s = κ 43 s := rfl
  have e79 : arK κ s 3 f m u l 79 s = κ 79 s + 1 := fup_eq _ _ _
  have e80 : arK κ s 3 f m u l 80 s = 1 := fup_eq _ _ _
  have ez : lsz (arK κ s 3 f m u l) s = 3 + 1 := by unfold lsz; rw [if_neg (by omega)]; exact e4
  have r50 : arK κ s 3 f m u l 5 (4 * s + 0) = κ 5 (4 * s + 0) := fup_ne (by omega)
  have r60 : arK κ s 3 f m u l 6 (4 * s + 0) = κ 6 (4 * s + 0) := fup_ne (by omega)
  have r70 : arK κ s 3 f m u l 7 (4 * s + 0) = κ 7 (4 * s + 0) := fup_ne (by omega)
  have r80 : arK κ s 3 f m u l 8 (4 * s + 0) = κ 8 (4 * s + 0) := fup_ne (by omega)
  have c370 : arC c s 3 q ad (37 + 8 * s.toNat + (0 : Int).toNat) = c (37 + 8 * s.toNat + (0 : Int).toNat) := arC_ne (by omega) (by omega)
  have r51 : arK κ s 3 f m u l 5 (4 * s + 1) = κ 5 (4 * s + 1) := fup_ne (by omega)
  have r61 : arK κ s 3 f m u l 6 (4 * s + 1) = κ 6 (4 * s + 1) := fup_ne (by omega)
  have r71 : arK κ s 3 f m u l 7 (4 * s + 1) = κ 7 (4 * s + 1) := fup_ne (by omega)
  have r81 : arK κ s 3 f m u l 8 (4 * s + 1) = κ 8 (4 * s + 1) := fup_ne (by omega)
  have c371 : arC c s 3 q ad (37 + 8 * s.toNat + (1 : Int).toNat) = c (37 + 8 * s.toNat + (1 : Int).toNat) := arC_ne (by omega) (by omega)
  have r52 : arK κ s 3 f m u l 5 (4 * s + 2) = κ 5 (4 * s + 2) := fup_ne (by omega)
  have r62 : arK κ s 3 f m u l 6 (4 * s + 2) = κ 6 (4 * s + 2) := fup_ne (by omega)
  have r72 : arK κ s 3 f m u l 7 (4 * s + 2) = κ 7 (4 * s + 2) := fup_ne (by omega)
  have r82 : arK κ s 3 f m u l 8 (4 * s + 2) = κ 8 (4 * s + 2) := fup_ne (by omega)
  have c372 : arC c s 3 q ad (37 + 8 * s.toNat + (2 : Int).toNat) = c (37 + 8 * s.toNat + (2 : Int).toNat) := arC_ne (by omega) (by omega)
  have r53 : arK κ s 3 f m u l 5 (4 * s + 3) = f := fup_eq _ _ _
  have r63 : arK κ s 3 f m u l 6 (4 * s + 3) = m := fup_eq _ _ _
  have r73 : arK κ s 3 f m u l 7 (4 * s + 3) = u := fup_eq _ _ _
  have r83 : arK κ s 3 f m u l 8 (4 * s + 3) = l := fup_eq _ _ _
  have c373 : arC c s 3 q ad (37 + 8 * s.toNat + (3 : Int).toNat) = q := cup_eq _ _ _
  have c33 : arC c s 3 q ad (33 + 8 * s.toNat) = c (33 + 8 * s.toNat) := arC_ne (by omega) (by omega)
  have c34 : arC c s 3 q ad (34 + 8 * s.toNat) = c (34 + 8 * s.toNat) := arC_ne (by omega) (by omega)
  have c35 : arC c s 3 q ad (35 + 8 * s.toNat) = c (35 + 8 * s.toNat) := arC_ne (by omega) (by omega)
  have c36 : arC c s 3 q ad (36 + 8 * s.toNat) = ad := (cup_ne (by omega)).trans (cup_eq _ _ _)
  unfold gpO smF wnF alF rdF
  rw [e02, e3, e4, e9, e10, e39, e40, e41, e42, e43, e79, e80, ez, c33, c34, c35, c36, ar_lA hs4 (by omega) h4, if_pos hs, if_pos hs, if_pos hs, if_pos (⟨hs, by decide⟩ : s < κ 0 2 ∧ (1 : Int) ≠ 0), if_pos (⟨hs, by omega⟩ : s < κ 0 2 ∧ (0 : Int) < 3 + 1), if_pos (⟨hs, by omega⟩ : s < κ 0 2 ∧ (1 : Int) < 3 + 1), if_pos (⟨hs, by omega⟩ : s < κ 0 2 ∧ (2 : Int) < 3 + 1), if_pos (⟨hs, by omega⟩ : s < κ 0 2 ∧ (3 : Int) < 3 + 1)]
  simp only [c370, c371, c372, c373, r50, r60, r70, r80, r51, r61, r71, r81, r52, r62, r72, r82, r53, r63, r73, r83]
  rfl
theorem ar_eqE {en c : Nat → Nat} {κ : St} {s j f m u l : Int} {q ad : Nat} (hs4 : 0 ≤ s ∧ s < 4) (hj : j = 0) (hs : s < κ 0 2) (hb : ∀ t, 0 ≤ t → t < 4 → κ 4 t ≤ 4) (h4 : κ 4 s = j) : insO (remO (insO (cO en c κ) [(37 + 8 * s.toNat + j.toNat, (q, .inr (5, [.int (zI f), .int (zI m), .int (zI u), .int (zI l)])))]) [35 + 8 * s.toNat, 37 + 8 * s.toNat + j.toNat]) [(35 + 8 * s.toNat, (c (35 + 8 * s.toNat), .inr (0, [.int (zI (κ 79 s + 1)), .ref ad, .int (zI (j + 1))]))), (36 + 8 * s.toNat, (ad, oE 3 10 (fup (lA c κ s) j (some q)))), (37 + 8 * s.toNat + j.toNat, (q, .inr (5, [.int (zI f), .int (zI m), .int (zI u), .int (zI l)])))] = cO en (arC c s j q ad) (arK κ s j f m u l) := by
  subst hj
  obtain rfl | rfl | rfl | rfl : s = 0 ∨ s = 1 ∨ s = 2 ∨ s = 3 := (by omega)
  · rw [cO_g, cO_g, ar_hd (by omega) (by omega), ar_tl (by omega) (by omega), ar_gpe (t := 1) (by omega) (by omega) hb (by omega) (by omega), ar_gpe (t := 2) (by omega) (by omega) hb (by omega) (by omega), ar_gpe (t := 3) (by omega) (by omega) hb (by omega) (by omega), ar_gp0 (by omega) hs h4, gp_live0 hs h4]
    rfl
  · rw [cO_g, cO_g, ar_hd (by omega) (by omega), ar_tl (by omega) (by omega), ar_gpe (t := 0) (by omega) (by omega) hb (by omega) (by omega), ar_gpe (t := 2) (by omega) (by omega) hb (by omega) (by omega), ar_gpe (t := 3) (by omega) (by omega) hb (by omega) (by omega), ar_gp0 (by omega) hs h4, gp_live0 hs h4]
    rfl
  · rw [cO_g, cO_g, ar_hd (by omega) (by omega), ar_tl (by omega) (by omega), ar_gpe (t := 0) (by omega) (by omega) hb (by omega) (by omega), ar_gpe (t := 1) (by omega) (by omega) hb (by omega) (by omega), ar_gpe (t := 3) (by omega) (by omega) hb (by omega) (by omega), ar_gp0 (by omega) hs h4, gp_live0 hs h4]
    rfl
  · rw [cO_g, cO_g, ar_hd (by omega) (by omega), ar_tl (by omega) (by omega), ar_gpe (t := 0) (by omega) (by omega) hb (by omega) (by omega), ar_gpe (t := 1) (by omega) (by omega) hb (by omega) (by omega), ar_gpe (t := 2) (by omega) (by omega) hb (by omega) (by omega), ar_gp0 (by omega) hs h4, gp_live0 hs h4]
    rfl
theorem ar_eqA {en c : Nat → Nat} {κ : St} {s j f m u l : Int} {q ad : Nat} (hs4 : 0 ≤ s ∧ s < 4) (hj : 0 ≤ j ∧ j < 4) (hs : s < κ 0 2) (hb : ∀ t, 0 ≤ t → t < 4 → κ 4 t ≤ 4) (h4 : κ 4 s = j) : insO (remO (insO (cO en c κ) [(37 + 8 * s.toNat + j.toNat, (q, .inr (5, [.int (zI f), .int (zI m), .int (zI u), .int (zI l)])))]) [35 + 8 * s.toNat, 36 + 8 * s.toNat, 37 + 8 * s.toNat + j.toNat]) [(35 + 8 * s.toNat, (c (35 + 8 * s.toNat), .inr (0, [.int (zI (κ 79 s + 1)), .ref ad, .int (zI (j + 1))]))), (36 + 8 * s.toNat, (ad, oE 3 10 (fup (lA c κ s) j (some q)))), (37 + 8 * s.toNat + j.toNat, (q, .inr (5, [.int (zI f), .int (zI m), .int (zI u), .int (zI l)])))] = cO en (arC c s j q ad) (arK κ s j f m u l) := by
  obtain rfl | rfl | rfl | rfl : s = 0 ∨ s = 1 ∨ s = 2 ∨ s = 3 := (by omega) <;> (obtain rfl | rfl | rfl | rfl : j = 0 ∨ j = 1 ∨ j = 2 ∨ j = 3 := (by omega))
  · rw [cO_g, cO_g, ar_hd (by omega) (by omega), ar_tl (by omega) (by omega), ar_gpe (t := 1) (by omega) (by omega) hb (by omega) (by omega), ar_gpe (t := 2) (by omega) (by omega) hb (by omega) (by omega), ar_gpe (t := 3) (by omega) (by omega) hb (by omega) (by omega), ar_gp0 (by omega) hs h4, gp_live0 hs h4]
    rfl
  · rw [cO_g, cO_g, ar_hd (by omega) (by omega), ar_tl (by omega) (by omega), ar_gpe (t := 1) (by omega) (by omega) hb (by omega) (by omega), ar_gpe (t := 2) (by omega) (by omega) hb (by omega) (by omega), ar_gpe (t := 3) (by omega) (by omega) hb (by omega) (by omega), ar_gp1 (by omega) hs h4, gp_live1 hs h4]
    rfl
  · rw [cO_g, cO_g, ar_hd (by omega) (by omega), ar_tl (by omega) (by omega), ar_gpe (t := 1) (by omega) (by omega) hb (by omega) (by omega), ar_gpe (t := 2) (by omega) (by omega) hb (by omega) (by omega), ar_gpe (t := 3) (by omega) (by omega) hb (by omega) (by omega), ar_gp2 (by omega) hs h4, gp_live2 hs h4]
    rfl
  · rw [cO_g, cO_g, ar_hd (by omega) (by omega), ar_tl (by omega) (by omega), ar_gpe (t := 1) (by omega) (by omega) hb (by omega) (by omega), ar_gpe (t := 2) (by omega) (by omega) hb (by omega) (by omega), ar_gpe (t := 3) (by omega) (by omega) hb (by omega) (by omega), ar_gp3 (by omega) hs h4, gp_live3 hs h4]
    rfl
  · rw [cO_g, cO_g, ar_hd (by omega) (by omega), ar_tl (by omega) (by omega), ar_gpe (t := 0) (by omega) (by omega) hb (by omega) (by omega), ar_gpe (t := 2) (by omega) (by omega) hb (by omega) (by omega), ar_gpe (t := 3) (by omega) (by omega) hb (by omega) (by omega), ar_gp0 (by omega) hs h4, gp_live0 hs h4]
    rfl
  · rw [cO_g, cO_g, ar_hd (by omega) (by omega), ar_tl (by omega) (by omega), ar_gpe (t := 0) (by omega) (by omega) hb (by omega) (by omega), ar_gpe (t := 2) (by omega) (by omega) hb (by omega) (by omega), ar_gpe (t := 3) (by omega) (by omega) hb (by omega) (by omega), ar_gp1 (by omega) hs h4, gp_live1 hs h4]
    rfl
  · rw [cO_g, cO_g, ar_hd (by omega) (by omega), ar_tl (by omega) (by omega), ar_gpe (t := 0) (by omega) (by omega) hb (by omega) (by omega), ar_gpe (t := 2) (by omega) (by omega) hb (by omega) (by omega), ar_gpe (t := 3) (by omega) (by omega) hb (by omega) (by omega), ar_gp2 (by omega) hs h4, gp_live2 hs h4]
    rfl
  · rw [cO_g, cO_g, ar_hd (by omega) (by omega), ar_tl (by omega) (by omega), ar_gpe (t := 0) (by omega) (by omega) hb (by omega) (by omega), ar_gpe (t := 2) (by omega) (by omega) hb (by omega) (by omega), ar_gpe (t := 3) (by omega) (by omega) hb (by omega) (by omega), ar_gp3 (by omega) hs h4, gp_live3 hs h4]
    rfl
  · rw [cO_g, cO_g, ar_hd (by omega) (by omega), ar_tl (by omega) (by omega), ar_gpe (t := 0) (by omega) (by omega) hb (by omega) (by omega), ar_gpe (t := 1) (by omega) (by omega) hb (by omega) (by omega), ar_gpe (t := 3) (by omega) (by omega) hb (by omega) (by omega), ar_gp0 (by omega) hs h4, gp_live0 hs h4]
    rfl
  · rw [cO_g, cO_g, ar_hd (by omega) (by omega), ar_tl (by omega) (by omega), ar_gpe (t := 0) (by omega) (by omega) hb (by omega) (by omega), ar_gpe (t := 1) (by omega) (by omega) hb (by omega) (by omega), ar_gpe (t := 3) (by omega) (by omega) hb (by omega) (by omega), ar_gp1 (by omega) hs h4, gp_live1 hs h4]
    rfl
  · rw [cO_g, cO_g, ar_hd (by omega) (by omega), ar_tl (by omega) (by omega), ar_gpe (t := 0) (by omega) (by omega) hb (by omega) (by omega), ar_gpe (t := 1) (by omega) (by omega) hb (by omega) (by omega), ar_gpe (t := 3) (by omega) (by omega) hb (by omega) (by omega), ar_gp2 (by omega) hs h4, gp_live2 hs h4]
    rfl
  · rw [cO_g, cO_g, ar_hd (by omega) (by omega), ar_tl (by omega) (by omega), ar_gpe (t := 0) (by omega) (by omega) hb (by omega) (by omega), ar_gpe (t := 1) (by omega) (by omega) hb (by omega) (by omega), ar_gpe (t := 3) (by omega) (by omega) hb (by omega) (by omega), ar_gp3 (by omega) hs h4, gp_live3 hs h4]
    rfl
  · rw [cO_g, cO_g, ar_hd (by omega) (by omega), ar_tl (by omega) (by omega), ar_gpe (t := 0) (by omega) (by omega) hb (by omega) (by omega), ar_gpe (t := 1) (by omega) (by omega) hb (by omega) (by omega), ar_gpe (t := 2) (by omega) (by omega) hb (by omega) (by omega), ar_gp0 (by omega) hs h4, gp_live0 hs h4]
    rfl
  · rw [cO_g, cO_g, ar_hd (by omega) (by omega), ar_tl (by omega) (by omega), ar_gpe (t := 0) (by omega) (by omega) hb (by omega) (by omega), ar_gpe (t := 1) (by omega) (by omega) hb (by omega) (by omega), ar_gpe (t := 2) (by omega) (by omega) hb (by omega) (by omega), ar_gp1 (by omega) hs h4, gp_live1 hs h4]
    rfl
  · rw [cO_g, cO_g, ar_hd (by omega) (by omega), ar_tl (by omega) (by omega), ar_gpe (t := 0) (by omega) (by omega) hb (by omega) (by omega), ar_gpe (t := 1) (by omega) (by omega) hb (by omega) (by omega), ar_gpe (t := 2) (by omega) (by omega) hb (by omega) (by omega), ar_gp2 (by omega) hs h4, gp_live2 hs h4]
    rfl
  · rw [cO_g, cO_g, ar_hd (by omega) (by omega), ar_tl (by omega) (by omega), ar_gpe (t := 0) (by omega) (by omega) hb (by omega) (by omega), ar_gpe (t := 1) (by omega) (by omega) hb (by omega) (by omega), ar_gpe (t := 2) (by omega) (by omega) hb (by omega) (by omega), ar_gp3 (by omega) hs h4, gp_live3 hs h4]
    rfl
set_option maxRecDepth 100000 in
theorem ar_callE {en c : Nat → Nat} {κ : St} {s j f m u l : Int} {q : Nat} {K : KT} (hK : evK K = EN en) (hs4 : 0 ≤ s ∧ s < 4) (hj : j = 0) (hs : s < κ 0 2) (hb : ∀ t, 0 ≤ t → t < 4 → κ 4 t ≤ 4) (h4 : κ 4 s = j) (h80 : κ 80 s = 0)
    (kk : ∀ ad : Nat, V K sX10_addRead 7 44 (fm (cO en (arC c s j q ad) (arK κ s j f m u l))) [some (.ref (c 0)), some (.int (zI s)), some (.int (zI f)), some (.int (zI m)), some (.int (zI u)), some (.int (zI l)), some (.ref (c (35 + 8 * Int.toNat s)))] [.int (zI (bz true))] 88) : V K sX10_addRead 6 34 (fm (cO en c κ) ++ [(q, .inr (5, [.int (zI f), .int (zI m), .int (zI u), .int (zI l)]))]) [some (.ref (c 0)), some (.int (zI s)), some (.int (zI f)), some (.int (zI m)), some (.int (zI u)), some (.int (zI l)), some (.ref (c (35 + 8 * Int.toNat s)))] [.ref q, .ref (c (35 + 8 * Int.toNat s))] 85 := by
  have hz : lsz κ s = 0 := by unfold lsz; rw [if_neg (show ¬ s = 4 by omega)]; omega
  have hae : alF en c κ s = [.int (zI (κ 79 s)), .ref (en 5), .int (zI 0)] := by unfold alF; rw [hz, if_pos h80]
  have hal : (cO en c κ)[35 + 8 * s.toNat]? = some (some (c (35 + 8 * s.toNat), .inr (0, [.int (zI (κ 79 s)), .ref (en 5), .int (zI 0)]))) := by rw [← hae]; exact at_al ⟨⟨hs4.1, by omega⟩, Or.inr hs⟩
  have elA : lA c κ s = fun _ => none := by
    funext i
    unfold lA lsz
    rw [if_neg (show ¬ s = 4 by omega)]
    exact if_neg (fun z => by omega)
  refine V_ins [(37 + 8 * s.toNat + j.toNat, (q, .inr (5, [.int (zI f), .int (zI m), .int (zI u), .int (zI l)])))] rfl (all1 (no_rd hs4 ⟨by omega, by omega⟩ (by omega))) (by simp) ?_
  refine VO_callVP (As := [.ref q]) (b := c (35 + 8 * s.toNat)) (ci := 0) (fs := [.int (zI (κ 79 s)), .ref (en 5), .int (zI 0)]) (T := TJx4a65c) (N := 3) (35 + 8 * s.toNat) [(37 + 8 * s.toNat + j.toNat, (q, .inr (5, [.int (zI f), .int (zI m), .int (zI u), .int (zI l)])))] (all2 (by rw [show insO (cO en c κ) [(37 + 8 * s.toNat + j.toNat, (q, .inr (5, [.int (zI f), .int (zI m), .int (zI u), .int (zI l)])))] = (cO en c κ).set (37 + 8 * s.toNat + j.toNat) (some (q, .inr (5, [.int (zI f), .int (zI m), .int (zI u), .int (zI l)]))) from rfl, List.getElem?_set_ne (by omega)]; exact hal) (by rw [show insO (cO en c κ) [(37 + 8 * s.toNat + j.toNat, (q, .inr (5, [.int (zI f), .int (zI m), .int (zI u), .int (zI l)])))] = (cO en c κ).set (37 + 8 * s.toNat + j.toNat) (some (q, .inr (5, [.int (zI f), .int (zI m), .int (zI u), .int (zI l)]))) from rfl, List.getElem?_set_self (by rw [cO_len]; omega)])) (by simp; omega) rfl hK (k_addE en (c (35 + 8 * s.toNat)) (κ 79 s) q 5 [.int (zI f), .int (zI m), .int (zI u), .int (zI l)] _ rfl wn1044) mokJx4a65c_add_9ea2d w641 w642 w643 ⟨Nat.le_of_ble_eq_true rfl, Nat.le_of_ble_eq_true rfl⟩ rfl (Nat.le_of_ble_eq_true rfl) ⟨Nat.le_of_ble_eq_true rfl, Nat.le_of_ble_eq_true rfl⟩ dX10_addRead_85 (fun v2 w2 h => ?_)
  obtain ⟨ad, rfl, rfl⟩ := h
  refine V_ins (w := [_, _, _]) [(35 + 8 * s.toNat, (c (35 + 8 * s.toNat), .inr (0, [.int (zI (κ 79 s + 1)), .ref ad, .int (zI (j + 1))]))), (36 + 8 * s.toNat, (ad, oE 3 10 (fup (lA c κ s) j (some q)))), (37 + 8 * s.toNat + j.toNat, (q, .inr (5, [.int (zI f), .int (zI m), .int (zI u), .int (zI l)])))] (by subst hj; rw [elA]; rfl) (all3 (remO_in _ _ _ (by simp) (by rw [show (insO (cO en c κ) [(37 + 8 * s.toNat + j.toNat, (q, .inr (5, [.int (zI f), .int (zI m), .int (zI u), .int (zI l)])))]).length = 69 from (List.length_set ..).trans (cO_len en c κ)]; omega)) ((remO_ne _ _ _ (by simp; omega)).trans (by rw [show insO (cO en c κ) [(37 + 8 * s.toNat + j.toNat, (q, .inr (5, [.int (zI f), .int (zI m), .int (zI u), .int (zI l)])))] = (cO en c κ).set (37 + 8 * s.toNat + j.toNat) (some (q, .inr (5, [.int (zI f), .int (zI m), .int (zI u), .int (zI l)]))) from rfl, List.getElem?_set_ne (by omega)]; exact no_la hs4 h80)) (remO_in _ _ _ (by simp) (by rw [show (insO (cO en c κ) [(37 + 8 * s.toNat + j.toNat, (q, .inr (5, [.int (zI f), .int (zI m), .int (zI u), .int (zI l)])))]).length = 69 from (List.length_set ..).trans (cO_len en c κ)]; omega))) (by simp; omega) ?_
  refine V_eqO (ar_eqE hs4 hj hs hb h4) ?_
  exact kk ad
set_option maxRecDepth 100000 in
theorem ar_callA {en c : Nat → Nat} {κ : St} {s j f m u l : Int} {q : Nat} {K : KT} (hK : evK K = EN en) (hs4 : 0 ≤ s ∧ s < 4) (hj : 0 ≤ j ∧ j < 4) (hs : s < κ 0 2) (hb : ∀ t, 0 ≤ t → t < 4 → κ 4 t ≤ 4) (h4 : κ 4 s = j) (h80 : κ 80 s ≠ 0)
    (kk : ∀ ad : Nat, V K sX10_addRead 7 44 (fm (cO en (arC c s j q ad) (arK κ s j f m u l))) [some (.ref (c 0)), some (.int (zI s)), some (.int (zI f)), some (.int (zI m)), some (.int (zI u)), some (.int (zI l)), some (.ref (c (35 + 8 * Int.toNat s)))] [.int (zI (bz true))] 88) : V K sX10_addRead 6 34 (fm (cO en c κ) ++ [(q, .inr (5, [.int (zI f), .int (zI m), .int (zI u), .int (zI l)]))]) [some (.ref (c 0)), some (.int (zI s)), some (.int (zI f)), some (.int (zI m)), some (.int (zI u)), some (.int (zI l)), some (.ref (c (35 + 8 * Int.toNat s)))] [.ref q, .ref (c (35 + 8 * Int.toNat s))] 85 := by
  have hz : lsz κ s = j := by unfold lsz; rw [if_neg (show ¬ s = 4 by omega)]; omega
  have hae : alF en c κ s = [.int (zI (κ 79 s)), .ref (c (36 + 8 * s.toNat)), .int (zI j)] := by unfold alF; rw [hz, if_neg h80]
  have hal : (cO en c κ)[35 + 8 * s.toNat]? = some (some (c (35 + 8 * s.toNat), .inr (0, [.int (zI (κ 79 s)), .ref (c (36 + 8 * s.toNat)), .int (zI j)]))) := by rw [← hae]; exact at_al ⟨⟨hs4.1, by omega⟩, Or.inr hs⟩
  refine V_ins [(37 + 8 * s.toNat + j.toNat, (q, .inr (5, [.int (zI f), .int (zI m), .int (zI u), .int (zI l)])))] rfl (all1 (no_rd hs4 ⟨by omega, by omega⟩ (by omega))) (by simp) ?_
  refine VO_callVP (As := [.ref q]) (b := c (35 + 8 * s.toNat)) (ci := 0) (fs := [.int (zI (κ 79 s)), .ref (c (36 + 8 * s.toNat)), .int (zI j)]) (T := TJx4a65c) (N := 3) (35 + 8 * s.toNat) [(36 + 8 * s.toNat, (c (36 + 8 * s.toNat), oE 3 10 (lA c κ s))), (37 + 8 * s.toNat + j.toNat, (q, .inr (5, [.int (zI f), .int (zI m), .int (zI u), .int (zI l)])))] (all3 (by rw [show insO (cO en c κ) [(37 + 8 * s.toNat + j.toNat, (q, .inr (5, [.int (zI f), .int (zI m), .int (zI u), .int (zI l)])))] = (cO en c κ).set (37 + 8 * s.toNat + j.toNat) (some (q, .inr (5, [.int (zI f), .int (zI m), .int (zI u), .int (zI l)]))) from rfl, List.getElem?_set_ne (by omega)]; exact hal) (by rw [show insO (cO en c κ) [(37 + 8 * s.toNat + j.toNat, (q, .inr (5, [.int (zI f), .int (zI m), .int (zI u), .int (zI l)])))] = (cO en c κ).set (37 + 8 * s.toNat + j.toNat) (some (q, .inr (5, [.int (zI f), .int (zI m), .int (zI u), .int (zI l)]))) from rfl, List.getElem?_set_ne (by omega)]; exact (at_la ⟨⟨hs4.1, by omega⟩, Or.inr hs⟩ h80)) (by rw [show insO (cO en c κ) [(37 + 8 * s.toNat + j.toNat, (q, .inr (5, [.int (zI f), .int (zI m), .int (zI u), .int (zI l)])))] = (cO en c κ).set (37 + 8 * s.toNat + j.toNat) (some (q, .inr (5, [.int (zI f), .int (zI m), .int (zI u), .int (zI l)]))) from rfl, List.getElem?_set_self (by rw [cO_len]; omega)])) (by simp; omega) rfl hK (k_addA en (c (35 + 8 * s.toNat)) (c (36 + 8 * s.toNat)) (κ 79 s) j (lA c κ s) (by omega) q 5 [.int (zI f), .int (zI m), .int (zI u), .int (zI l)] _ rfl wn1044) mokJx4a65c_add_9ea2d w641 w642 w643 ⟨Nat.le_of_ble_eq_true rfl, Nat.le_of_ble_eq_true rfl⟩ rfl (Nat.le_of_ble_eq_true rfl) ⟨Nat.le_of_ble_eq_true rfl, Nat.le_of_ble_eq_true rfl⟩ dX10_addRead_85 (fun v2 w2 h => ?_)
  obtain ⟨rfl, rfl⟩ := h
  refine V_ins (w := [_, _, _]) [(35 + 8 * s.toNat, (c (35 + 8 * s.toNat), .inr (0, [.int (zI (κ 79 s + 1)), .ref (c (36 + 8 * s.toNat)), .int (zI (j + 1))]))), (36 + 8 * s.toNat, ((c (36 + 8 * s.toNat)), oE 3 10 (fup (lA c κ s) j (some q)))), (37 + 8 * s.toNat + j.toNat, (q, .inr (5, [.int (zI f), .int (zI m), .int (zI u), .int (zI l)])))] rfl (all3 (remO_in _ _ _ (by simp) (by rw [show (insO (cO en c κ) [(37 + 8 * s.toNat + j.toNat, (q, .inr (5, [.int (zI f), .int (zI m), .int (zI u), .int (zI l)])))]).length = 69 from (List.length_set ..).trans (cO_len en c κ)]; omega)) (remO_in _ _ _ (by simp) (by rw [show (insO (cO en c κ) [(37 + 8 * s.toNat + j.toNat, (q, .inr (5, [.int (zI f), .int (zI m), .int (zI u), .int (zI l)])))]).length = 69 from (List.length_set ..).trans (cO_len en c κ)]; omega)) (remO_in _ _ _ (by simp) (by rw [show (insO (cO en c κ) [(37 + 8 * s.toNat + j.toNat, (q, .inr (5, [.int (zI f), .int (zI m), .int (zI u), .int (zI l)])))]).length = 69 from (List.length_set ..).trans (cO_len en c κ)]; omega))) (by simp; omega) ?_
  refine V_eqO (ar_eqA hs4 hj hs hb h4) ?_
  exact kk (c (36 + 8 * s.toNat))
theorem ar_end {en c : Nat → Nat} {κ P : St} {s f m u l : Int} {K : KT} {Post : Option Value → vWd → Prop} (hK : evK K = EN en) (hR : RetOK K 8 50 Post) (hM : MI P) (hC : CI P κ) (hs : 0 ≤ s ∧ s < P 0 2) (kk : Post (some (.int (zI (P 4 s - 1)))) (fm (cO en c κ))) : V K sX10_addRead 7 44 (fm (cO en c κ)) [some (.ref (c 0)), some (.int (zI s)), some (.int (zI f)), some (.int (zI m)), some (.int (zI u)), some (.int (zI l)), some (.ref (c (35 + 8 * Int.toNat s)))] [.int (zI (bz true))] 88 := by
  have hN4 := hM.2.2.1
  refine V_pop dX10_addRead_88 rfl ?_
  refine V_aload dX10_addRead_89 rfl ?_
  refine VO_callVF (As := []) (b := c (35 + 8 * Int.toNat s)) (i := 35 + 8 * Int.toNat s) (ci := 0) (fs := alF en c κ s) (T := TJx4a65c) (N := 3) (at_al ((hC).wn hM (by omega))) rfl hK (k_sizer en c κ s P ⟨hM, hC, hs⟩) mokJx4a65c_size_8abf5 w364 w270 w271 ⟨Nat.le_of_ble_eq_true rfl, Nat.le_of_ble_eq_true rfl⟩ rfl (Nat.le_of_ble_eq_true rfl) ⟨Nat.le_of_ble_eq_true rfl, Nat.le_of_ble_eq_true rfl⟩ dX10_addRead_91 (fun v w p_1 => ?_)
  obtain ⟨rfl, rfl⟩ := p_1
  show V K sX10_addRead 7 44 (fm (cO en c κ)) [some (.ref (c 0)), some (.int (zI s)), some (.int (zI f)), some (.int (zI m)), some (.int (zI u)), some (.int (zI l)), some (.ref (c (35 + 8 * Int.toNat s)))] [.int (zI (P 4 s))] 94
  refine V_iconst dX10_addRead_94 ?_
  refine V_isub dX10_addRead_95 ?_
  refine V_iret hR rfl (Nat.le_of_ble_eq_true rfl) (Nat.le_of_ble_eq_true rfl) dX10_addRead_96 ?_
  exact kk
def arP (P : St) (s f m u l : Int) : St := up (up (up (up (up P 5 (4 * s + P 4 s) f) 6 (4 * s + P 4 s) m) 7 (4 * s + P 4 s) u) 8 (4 * s + P 4 s) l) 4 s (P 4 s + 1)
theorem ar_MI {P : St} {s f m u l : Int} (hM : MI P) (hs : inS P s) (hf : inS P f) (hr : (1 ≤ m ∧ m ≤ 9) ∧ (0 ≤ u ∧ u ≤ 3) ∧ (-3 ≤ l ∧ l ≤ 3)) (h4 : P 4 s ≠ 4) : MI (arP P s f m u l) := by
  have hr4 := hM.r4 hs
  obtain ⟨g1, g2, g3, g4, g5, g6, g7⟩ := hM
  refine ⟨g1, g2, g3, g4, g5, fun i i0 i1 => ?_, fun i j i0 i1 j0 j1 => ?_⟩
  · obtain ⟨a1, a2, a3, a4, a5, a6⟩ := g6 i i0 i1
    have e4 : arP P s f m u l 4 i = if i = s then P 4 s + 1 else P 4 i := rfl
    refine ⟨a1, ?_, a3, a4, a5, fun z => ?_⟩
    · rw [e4]; split <;> omega
    · have z' : P 0 2 ≤ i := z
      have hne : i ≠ s := fun e => by have h := hs.2; omega
      obtain ⟨b1, b2, b3⟩ := a6 z'
      exact ⟨by rw [e4, if_neg hne]; exact b1, b2, b3⟩
  · have e4 : arP P s f m u l 4 i = if i = s then P 4 s + 1 else P 4 i := rfl
    rw [e4] at j1
    have hs1 := hs.1
    have hs2 := hs.2
    by_cases hq : 4 * i + j = 4 * s + P 4 s
    · have q5 : arP P s f m u l 5 (4 * i + j) = f := if_pos hq
      have q6 : arP P s f m u l 6 (4 * i + j) = m := if_pos hq
      have q7 : arP P s f m u l 7 (4 * i + j) = u := if_pos hq
      have q8 : arP P s f m u l 8 (4 * i + j) = l := if_pos hq
      rw [q5, q6, q7, q8]
      exact ⟨hf, hr.1, hr.2.1, hr.2.2⟩
    · have q5 : arP P s f m u l 5 (4 * i + j) = P 5 (4 * i + j) := if_neg hq
      have q6 : arP P s f m u l 6 (4 * i + j) = P 6 (4 * i + j) := if_neg hq
      have q7 : arP P s f m u l 7 (4 * i + j) = P 7 (4 * i + j) := if_neg hq
      have q8 : arP P s f m u l 8 (4 * i + j) = P 8 (4 * i + j) := if_neg hq
      rw [q5, q6, q7, q8]
      refine g7 i j i0 i1 j0 ?_
      by_cases e : i = s
      · subst e
        rw [if_pos rfl] at j1
        omega
      · rw [if_neg e] at j1
        exact j1
theorem ar_CI {P κ : St} {s f m u l : Int} (h : CI P κ) (hs : 0 ≤ s ∧ s < 4) : CI (arP P s f m u l) (arK κ s (P 4 s) f m u l) := by
  refine ⟨?_, h.2.1, fun i i0 i1 hl => ?_⟩
  · have h1 : PR (arP P s f m u l) (up (up (up (up (up κ 5 (4 * s + P 4 s) f) 6 (4 * s + P 4 s) m) 7 (4 * s + P 4 s) u) 8 (4 * s + P 4 s) l) 4 s (P 4 s + 1)) := ((((h.1.upP 5 _ f).upP 6 _ m).upP 7 _ u).upP 8 _ l).upP 4 s (P 4 s + 1)
    unfold arK
    exact (h1.up (by omega)).up (by omega)
  · by_cases e : i = s
    · subst e
      have : arK κ i (P 4 i) f m u l 80 i = 1 := fup_eq _ _ _
      omega
    · have e80 : arK κ s (P 4 s) f m u l 80 i = κ 80 i := fup_ne e
      rw [e80]
      refine h.2.2 i i0 i1 ?_
      unfold lsz at hl ⊢
      have e4 : arK κ s (P 4 s) f m u l 4 i = κ 4 i := fup_ne e
      rw [e4] at hl
      exact hl
theorem ar_CWP {P κ : St} {s f m u l : Int} (h : CWP P κ) (hs : 0 ≤ s ∧ s < 4) : CWP (arP P s f m u l) (arK κ s (P 4 s) f m u l) := ⟨ar_CI h.1 hs, h.2.1, h.2.2⟩
set_option maxRecDepth 100000 in
theorem ar_tail {en c : Nat → Nat} {κ P : St} {s f m u l : Int} {K : KT} {Post : Option Value → vWd → Prop} (hK : evK K = EN en) (hR : RetOK K 8 50 Post) (hM : MI P) (hCW : CWP P κ) (hs : inS P s) (hf : inS P f) (hr : (1 ≤ m ∧ m ≤ 9) ∧ (0 ≤ u ∧ u ≤ 3) ∧ (-3 ≤ l ∧ l ≤ 3)) (h4n : P 4 s < 4) (kk : ∀ (c2 : Nat → Nat) (κ2 : St), c2 0 = c 0 → CWP (arP P s f m u l) κ2 → Post (some (.int (zI (P 4 s)))) (fm (cO en c2 κ2))) : V K sX10_addRead 5 30 (fm (cO en c κ)) [some (.ref (c 0)), some (.int (zI s)), some (.int (zI f)), some (.int (zI m)), some (.int (zI u)), some (.int (zI l)), some (.ref (c (35 + 8 * Int.toNat s)))] [.ref (c (35 + 8 * Int.toNat s))] 72 := by
  have hC := hCW.1
  have k4 : κ 4 = P 4 := hC.1 4 (by decide) (by decide)
  have hb : ∀ t, 0 ≤ t → t < 4 → κ 4 t ≤ 4 := fun t a b => by rw [k4]; exact (hM.2.2.2.2.2.1 t a b).2.1.2
  have hN := hM.2.2.1
  have hs4 : 0 ≤ s ∧ s < 4 := ⟨hs.1, by have := hs.2; omega⟩
  have hsk : s < κ 0 2 := by rw [hC.n2]; exact hs.2
  have hr4 := hM.r4 hs
  have h4 : κ 4 s = P 4 s := by rw [k4]
  have hC2 := ar_CWP (f := f) (m := m) (u := u) (l := l) hCW hs4
  have hM2 := ar_MI hM hs hf hr (by omega)
  have hend : ∀ (q ad : Nat), V K sX10_addRead 7 44 (fm (cO en (arC c s (P 4 s) q ad) (arK κ s (P 4 s) f m u l))) [some (.ref (c 0)), some (.int (zI s)), some (.int (zI f)), some (.int (zI m)), some (.int (zI u)), some (.int (zI l)), some (.ref (c (35 + 8 * Int.toNat s)))] [.int (zI (bz true))] 88 := fun q ad => by
    have e0 : arC c s (P 4 s) q ad 0 = c 0 := arC_ne (by omega) (by omega)
    have e1 : arC c s (P 4 s) q ad (35 + 8 * Int.toNat s) = c (35 + 8 * Int.toNat s) := arC_ne (by omega) (by omega)
    rw [← e0, ← e1]
    refine ar_end hK hR hM2 hC2.1 hs ?_
    have e2 : arP P s f m u l 4 s - 1 = P 4 s := by
      have : arP P s f m u l 4 s = P 4 s + 1 := fup_eq _ _ _
      omega
    rw [e2]
    exact kk _ _ e0 hC2
  refine V_new (C0 := RX6) (T := TX6) (N := 4) (ci := 5) (fs := [.int (zI 0), .int (zI 0), .int (zI 0), .int (zI 0)]) iwX6 tyX6 tyX6_ok w725 w726 w27 rfl (fun j hj => by rcases (show j = 0 ∨ j = 1 ∨ j = 2 ∨ j = 3 by omega) with rfl | rfl | rfl | rfl <;> rfl) ⟨Nat.le_of_ble_eq_true rfl, Nat.le_of_ble_eq_true rfl⟩ dX10_addRead_72 (fun q => ?_)
  show V K sX10_addRead 6 34 (fm (cO en c κ) ++ [(q, .inr (5, [.int (zI 0), .int (zI 0), .int (zI 0), .int (zI 0)]))]) [some (.ref (c 0)), some (.int (zI s)), some (.int (zI f)), some (.int (zI m)), some (.int (zI u)), some (.int (zI l)), some (.ref (c (35 + 8 * Int.toNat s)))] [.ref q, .ref (c (35 + 8 * Int.toNat s))] 75
  refine V_dup dX10_addRead_75 rfl ?_
  refine V_iload_n dX10_addRead_76 rfl ?_
  refine V_iload_n dX10_addRead_77 rfl ?_
  refine V_iload dX10_addRead_78 rfl ?_
  refine V_iload dX10_addRead_80 rfl ?_
  refine V_callIB (As := [.int (zI f), .int (zI m), .int (zI u), .int (zI l)]) (b := q) (wr := fm (cO en c κ)) (wc := [(q, .inr (5, [.int (zI 0), .int (zI 0), .int (zI 0), .int (zI 0)]))]) rfl hK (k_w6_init en q f m u l) mokX6_init w727 w728 rfl rfl ⟨Nat.le_of_ble_eq_true rfl, Nat.le_of_ble_eq_true rfl⟩ rfl (Nat.le_of_ble_eq_true rfl) ⟨Nat.le_of_ble_eq_true rfl, Nat.le_of_ble_eq_true rfl⟩ dX10_addRead_82 (fun v2 w2 h => ?_)
  obtain ⟨rfl, rfl⟩ := h
  show V K sX10_addRead 6 34 (fm (cO en c κ) ++ [(q, .inr (5, [.int (zI f), .int (zI m), .int (zI u), .int (zI l)]))]) [some (.ref (c 0)), some (.int (zI s)), some (.int (zI f)), some (.int (zI m)), some (.int (zI u)), some (.int (zI l)), some (.ref (c (35 + 8 * Int.toNat s)))] [.ref q, .ref (c (35 + 8 * Int.toNat s))] 85
  by_cases h80 : κ 80 s = 0
  · have hz : P 4 s = 0 := by
      apply Classical.byContradiction
      intro z
      exact hC.2.2 s hs.1 (by omega) (by unfold lsz; rw [if_neg (show ¬ s = 4 by omega)]; omega) h80
    exact ar_callE hK hs4 hz hsk hb h4 h80 (fun ad => hend q ad)
  · exact ar_callA hK hs4 ⟨hr4.1, h4n⟩ hsk hb h4 h80 (fun ad => hend q ad)
def drK (κ : St) (s : Int) : St := up (up κ 79 s (κ 79 s + 1)) 4 s 0
theorem subO_rfl : ∀ (o : oW), subO o o
  | [] => trivial
  | x :: o => ⟨Or.inr rfl, subO_rfl o⟩
theorem subO_app : ∀ {a b a2 b2 : oW}, subO a b → subO a2 b2 → subO (a ++ a2) (b ++ b2)
  | [], [], _, _, _, h2 => h2
  | x :: a, y :: b, _, _, h, h2 => ⟨h.1, subO_app h.2 h2⟩
  | [], _ :: _, _, _, h, _ => h.elim
  | _ :: _, [], _, _, h, _ => h.elim
theorem dr_hd {en c : Nat → Nat} {κ : St} {s : Int} : hdO en c (drK κ s) = hdO en c κ :=
  hd_eq (fun p _ => rfl) (fun k h1 h2 => by unfold drK; rw [up_ne (by omega), up_ne (by omega)]) (fun i hi => rfl)
theorem dr_tl {en c : Nat → Nat} {κ : St} {s : Int} (hs : s < 4) : tlO en c (drK κ s) = tlO en c κ := by
  have e79 : drK κ s 79 4 = κ 79 4 := fup_ne (by omega)
  have ez : lsz (drK κ s) 4 = lsz κ 4 := rfl
  have el : lA c (drK κ s) 4 = lA c κ 4 := rfl
  unfold tlO alF
  rw [e79, ez, el]
  rfl
theorem dr_gpe {en c : Nat → Nat} {κ : St} {s t : Int} (hb : ∀ t, 0 ≤ t → t < 4 → κ 4 t ≤ 4) (ht : 0 ≤ t ∧ t < 4) (h : t ≠ s) : gpO en c (drK κ s) t = gpO en c κ t := by
  refine gp_eq ht (hb t ht.1 ht.2) ⟨Iff.rfl, fun k hk => ?_, fun k i hk i0 i1 => ?_⟩ (fun p h1 h2 => rfl)
  · by_cases a : k = 4
    · subst a; exact fup_ne h
    · by_cases b : k = 79
      · subst b; exact fup_ne h
      · unfold drK; rw [up_ne a, up_ne b]
  · unfold drK; rw [up_ne (by omega), up_ne (by omega)]
theorem dr_gpE {en c : Nat → Nat} {κ : St} {s : Int} (hs4 : 0 ≤ s ∧ s < 4) (hs : s < κ 0 2) (h80 : κ 80 s = 0) : gpO en c (drK κ s) s = [some (c (33 + 8 * s.toNat), .inr (6, smF c κ s)), some (c (34 + 8 * s.toNat), .inr (7, wnF en κ s)), some (c (35 + 8 * s.toNat), .inr (0, [.int (zI (κ 79 s + 1)), .ref (en 5), .int (zI 0)])), none, none, none, none, none] := by
  have e02 : drK κ s 0 2 = κ 0 2 := rfl
  have e4 : drK κ s 4 s = 0 := fup_eq _ _ _
  have e79 : drK κ s 79 s = κ 79 s + 1 := fup_eq _ _ _
  have e80 : drK κ s 80 s = κ 80 s := rfl
  have ez : lsz (drK κ s) s = 0 := by unfold lsz; rw [if_neg (by omega)]; exact e4
  have el : lA c (drK κ s) s = fun _ => none := by
    funext i
    unfold lA
    rw [ez]
    exact if_neg (fun z => by omega)
  unfold gpO alF
  rw [e02, e4, e79, e80, ez, el, if_pos hs, if_pos hs, if_pos hs, if_neg (fun z : s < κ 0 2 ∧ κ 80 s ≠ 0 => z.2 h80), if_pos h80, if_neg (fun z : s < κ 0 2 ∧ (0 : Int) < 0 => by omega), if_neg (fun z : s < κ 0 2 ∧ (1 : Int) < 0 => by omega), if_neg (fun z : s < κ 0 2 ∧ (2 : Int) < 0 => by omega), if_neg (fun z : s < κ 0 2 ∧ (3 : Int) < 0 => by omega)]
  rfl
theorem dr_oldE {en c : Nat → Nat} {κ : St} {s : Int} (hs : s < κ 0 2) (h80 : κ 80 s = 0) : gpO en c κ s = [some (c (33 + 8 * s.toNat), .inr (6, smF c κ s)), some (c (34 + 8 * s.toNat), .inr (7, wnF en κ s)), some (c (35 + 8 * s.toNat), .inr (0, alF en c κ s)), none, (if s < κ 0 2 ∧ 0 < κ 4 s then some (c (37 + 8 * s.toNat + (0 : Int).toNat), .inr (5, rdF κ s 0)) else none), (if s < κ 0 2 ∧ 1 < κ 4 s then some (c (37 + 8 * s.toNat + (1 : Int).toNat), .inr (5, rdF κ s 1)) else none), (if s < κ 0 2 ∧ 2 < κ 4 s then some (c (37 + 8 * s.toNat + (2 : Int).toNat), .inr (5, rdF κ s 2)) else none), (if s < κ 0 2 ∧ 3 < κ 4 s then some (c (37 + 8 * s.toNat + (3 : Int).toNat), .inr (5, rdF κ s 3)) else none)] := by
  unfold gpO
  rw [if_pos hs, if_pos hs, if_pos hs, if_neg (fun z : s < κ 0 2 ∧ κ 80 s ≠ 0 => z.2 h80)]
theorem dr_subE {en c : Nat → Nat} {κ : St} {s : Int} (hs4 : 0 ≤ s ∧ s < 4) (hs : s < κ 0 2) (hb : ∀ t, 0 ≤ t → t < 4 → κ 4 t ≤ 4) (h80 : κ 80 s = 0) : subO (insO (remO (cO en c κ) [35 + 8 * s.toNat]) [(35 + 8 * s.toNat, (c (35 + 8 * s.toNat), .inr (0, [.int (zI (κ 79 s + 1)), .ref (en 5), .int (zI 0)])))]) (cO en c (drK κ s)) := by
  obtain rfl | rfl | rfl | rfl : s = 0 ∨ s = 1 ∨ s = 2 ∨ s = 3 := (by omega)
  · rw [cO_g, cO_g, dr_hd, dr_tl (by omega), dr_gpe (t := 1) hb (by omega) (by omega), dr_gpe (t := 2) hb (by omega) (by omega), dr_gpe (t := 3) hb (by omega) (by omega), dr_gpE (by omega) hs h80, dr_oldE hs h80]
    show subO (hdO en c κ ++ (([some (c (33 + 8 * (0 : Int).toNat), .inr (6, smF c κ 0)), some (c (34 + 8 * (0 : Int).toNat), .inr (7, wnF en κ 0)), some (c (35 + 8 * (0 : Int).toNat), .inr (0, [.int (zI (κ 79 0 + 1)), .ref (en 5), .int (zI 0)])), none, (if 0 < κ 0 2 ∧ 0 < κ 4 0 then some (c (37 + 8 * (0 : Int).toNat + (0 : Int).toNat), .inr (5, rdF κ 0 0)) else none), (if 0 < κ 0 2 ∧ 1 < κ 4 0 then some (c (37 + 8 * (0 : Int).toNat + (1 : Int).toNat), .inr (5, rdF κ 0 1)) else none), (if 0 < κ 0 2 ∧ 2 < κ 4 0 then some (c (37 + 8 * (0 : Int).toNat + (2 : Int).toNat), .inr (5, rdF κ 0 2)) else none), (if 0 < κ 0 2 ∧ 3 < κ 4 0 then some (c (37 + 8 * (0 : Int).toNat + (3 : Int).toNat), .inr (5, rdF κ 0 3)) else none)] : oW) ++ (gpO en c κ 1 ++ (gpO en c κ 2 ++ (gpO en c κ 3 ++ tlO en c κ))))) _
    exact subO_app (subO_rfl _) (subO_app ⟨Or.inr rfl, Or.inr rfl, Or.inr rfl, Or.inr rfl, Or.inl rfl, Or.inl rfl, Or.inl rfl, Or.inl rfl, trivial⟩ (subO_app (subO_rfl _) (subO_app (subO_rfl _) (subO_app (subO_rfl _) (subO_rfl _)))))
  · rw [cO_g, cO_g, dr_hd, dr_tl (by omega), dr_gpe (t := 0) hb (by omega) (by omega), dr_gpe (t := 2) hb (by omega) (by omega), dr_gpe (t := 3) hb (by omega) (by omega), dr_gpE (by omega) hs h80, dr_oldE hs h80]
    show subO (hdO en c κ ++ (gpO en c κ 0 ++ (([some (c (33 + 8 * (1 : Int).toNat), .inr (6, smF c κ 1)), some (c (34 + 8 * (1 : Int).toNat), .inr (7, wnF en κ 1)), some (c (35 + 8 * (1 : Int).toNat), .inr (0, [.int (zI (κ 79 1 + 1)), .ref (en 5), .int (zI 0)])), none, (if 1 < κ 0 2 ∧ 0 < κ 4 1 then some (c (37 + 8 * (1 : Int).toNat + (0 : Int).toNat), .inr (5, rdF κ 1 0)) else none), (if 1 < κ 0 2 ∧ 1 < κ 4 1 then some (c (37 + 8 * (1 : Int).toNat + (1 : Int).toNat), .inr (5, rdF κ 1 1)) else none), (if 1 < κ 0 2 ∧ 2 < κ 4 1 then some (c (37 + 8 * (1 : Int).toNat + (2 : Int).toNat), .inr (5, rdF κ 1 2)) else none), (if 1 < κ 0 2 ∧ 3 < κ 4 1 then some (c (37 + 8 * (1 : Int).toNat + (3 : Int).toNat), .inr (5, rdF κ 1 3)) else none)] : oW) ++ (gpO en c κ 2 ++ (gpO en c κ 3 ++ tlO en c κ))))) _
    exact subO_app (subO_rfl _) (subO_app (subO_rfl _) (subO_app ⟨Or.inr rfl, Or.inr rfl, Or.inr rfl, Or.inr rfl, Or.inl rfl, Or.inl rfl, Or.inl rfl, Or.inl rfl, trivial⟩ (subO_app (subO_rfl _) (subO_app (subO_rfl _) (subO_rfl _)))))
  · rw [cO_g, cO_g, dr_hd, dr_tl (by omega), dr_gpe (t := 0) hb (by omega) (by omega), dr_gpe (t := 1) hb (by omega) (by omega), dr_gpe (t := 3) hb (by omega) (by omega), dr_gpE (by omega) hs h80, dr_oldE hs h80]
    show subO (hdO en c κ ++ (gpO en c κ 0 ++ (gpO en c κ 1 ++ (([some (c (33 + 8 * (2 : Int).toNat), .inr (6, smF c κ 2)), some (c (34 + 8 * (2 : Int).toNat), .inr (7, wnF en κ 2)), some (c (35 + 8 * (2 : Int).toNat), .inr (0, [.int (zI (κ 79 2 + 1)), .ref (en 5), .int (zI 0)])), none, (if 2 < κ 0 2 ∧ 0 < κ 4 2 then some (c (37 + 8 * (2 : Int).toNat + (0 : Int).toNat), .inr (5, rdF κ 2 0)) else none), (if 2 < κ 0 2 ∧ 1 < κ 4 2 then some (c (37 + 8 * (2 : Int).toNat + (1 : Int).toNat), .inr (5, rdF κ 2 1)) else none), (if 2 < κ 0 2 ∧ 2 < κ 4 2 then some (c (37 + 8 * (2 : Int).toNat + (2 : Int).toNat), .inr (5, rdF κ 2 2)) else none), (if 2 < κ 0 2 ∧ 3 < κ 4 2 then some (c (37 + 8 * (2 : Int).toNat + (3 : Int).toNat), .inr (5, rdF κ 2 3)) else none)] : oW) ++ (gpO en c κ 3 ++ tlO en c κ))))) _
    exact subO_app (subO_rfl _) (subO_app (subO_rfl _) (subO_app (subO_rfl _) (subO_app ⟨Or.inr rfl, Or.inr rfl, Or.inr rfl, Or.inr rfl, Or.inl rfl, Or.inl rfl, Or.inl rfl, Or.inl rfl, trivial⟩ (subO_app (subO_rfl _) (subO_rfl _)))))
  · rw [cO_g, cO_g, dr_hd, dr_tl (by omega), dr_gpe (t := 0) hb (by omega) (by omega), dr_gpe (t := 1) hb (by omega) (by omega), dr_gpe (t := 2) hb (by omega) (by omega), dr_gpE (by omega) hs h80, dr_oldE hs h80]
    show subO (hdO en c κ ++ (gpO en c κ 0 ++ (gpO en c κ 1 ++ (gpO en c κ 2 ++ (([some (c (33 + 8 * (3 : Int).toNat), .inr (6, smF c κ 3)), some (c (34 + 8 * (3 : Int).toNat), .inr (7, wnF en κ 3)), some (c (35 + 8 * (3 : Int).toNat), .inr (0, [.int (zI (κ 79 3 + 1)), .ref (en 5), .int (zI 0)])), none, (if 3 < κ 0 2 ∧ 0 < κ 4 3 then some (c (37 + 8 * (3 : Int).toNat + (0 : Int).toNat), .inr (5, rdF κ 3 0)) else none), (if 3 < κ 0 2 ∧ 1 < κ 4 3 then some (c (37 + 8 * (3 : Int).toNat + (1 : Int).toNat), .inr (5, rdF κ 3 1)) else none), (if 3 < κ 0 2 ∧ 2 < κ 4 3 then some (c (37 + 8 * (3 : Int).toNat + (2 : Int).toNat), .inr (5, rdF κ 3 2)) else none), (if 3 < κ 0 2 ∧ 3 < κ 4 3 then some (c (37 + 8 * (3 : Int).toNat + (3 : Int).toNat), .inr (5, rdF κ 3 3)) else none)] : oW) ++ tlO en c κ))))) _
    exact subO_app (subO_rfl _) (subO_app (subO_rfl _) (subO_app (subO_rfl _) (subO_app (subO_rfl _) (subO_app ⟨Or.inr rfl, Or.inr rfl, Or.inr rfl, Or.inr rfl, Or.inl rfl, Or.inl rfl, Or.inl rfl, Or.inl rfl, trivial⟩ (subO_rfl _)))))
theorem dr_gpA {en c : Nat → Nat} {κ : St} {s : Int} (hs4 : 0 ≤ s ∧ s < 4) (hs : s < κ 0 2) (h80 : κ 80 s ≠ 0) : gpO en c (drK κ s) s = [some (c (33 + 8 * s.toNat), .inr (6, smF c κ s)), some (c (34 + 8 * s.toNat), .inr (7, wnF en κ s)), some (c (35 + 8 * s.toNat), .inr (0, [.int (zI (κ 79 s + 1)), .ref (c (36 + 8 * s.toNat)), .int (zI 0)])), some (c (36 + 8 * s.toNat), oE 3 10 (fun _ => none)), none, none, none, none] := by
  have e02 : drK κ s 0 2 = κ 0 2 := rfl
  have e4 : drK κ s 4 s = 0 := fup_eq _ _ _
  have e79 : drK κ s 79 s = κ 79 s + 1 := fup_eq _ _ _
  have e80 : drK κ s 80 s = κ 80 s := rfl
  have ez : lsz (drK κ s) s = 0 := by unfold lsz; rw [if_neg (by omega)]; exact e4
  have el : lA c (drK κ s) s = fun _ => none := by
    funext i
    unfold lA
    rw [ez]
    exact if_neg (fun z => by omega)
  unfold gpO alF
  rw [e02, e4, e79, e80, ez, el, if_pos hs, if_pos hs, if_pos hs, if_pos (⟨hs, h80⟩ : s < κ 0 2 ∧ κ 80 s ≠ 0), if_neg h80, if_neg (fun z : s < κ 0 2 ∧ (0 : Int) < 0 => by omega), if_neg (fun z : s < κ 0 2 ∧ (1 : Int) < 0 => by omega), if_neg (fun z : s < κ 0 2 ∧ (2 : Int) < 0 => by omega), if_neg (fun z : s < κ 0 2 ∧ (3 : Int) < 0 => by omega)]
  rfl
theorem dr_oldA {en c : Nat → Nat} {κ : St} {s : Int} (hs : s < κ 0 2) (h80 : κ 80 s ≠ 0) : gpO en c κ s = [some (c (33 + 8 * s.toNat), .inr (6, smF c κ s)), some (c (34 + 8 * s.toNat), .inr (7, wnF en κ s)), some (c (35 + 8 * s.toNat), .inr (0, alF en c κ s)), some (c (36 + 8 * s.toNat), oE 3 10 (lA c κ s)), (if s < κ 0 2 ∧ 0 < κ 4 s then some (c (37 + 8 * s.toNat + (0 : Int).toNat), .inr (5, rdF κ s 0)) else none), (if s < κ 0 2 ∧ 1 < κ 4 s then some (c (37 + 8 * s.toNat + (1 : Int).toNat), .inr (5, rdF κ s 1)) else none), (if s < κ 0 2 ∧ 2 < κ 4 s then some (c (37 + 8 * s.toNat + (2 : Int).toNat), .inr (5, rdF κ s 2)) else none), (if s < κ 0 2 ∧ 3 < κ 4 s then some (c (37 + 8 * s.toNat + (3 : Int).toNat), .inr (5, rdF κ s 3)) else none)] := by
  unfold gpO
  rw [if_pos hs, if_pos hs, if_pos hs, if_pos (⟨hs, h80⟩ : s < κ 0 2 ∧ κ 80 s ≠ 0)]
theorem dr_subA {en c : Nat → Nat} {κ : St} {s : Int} (hs4 : 0 ≤ s ∧ s < 4) (hs : s < κ 0 2) (hb : ∀ t, 0 ≤ t → t < 4 → κ 4 t ≤ 4) (h80 : κ 80 s ≠ 0) : subO (insO (remO (cO en c κ) [35 + 8 * s.toNat, 36 + 8 * s.toNat]) [(35 + 8 * s.toNat, (c (35 + 8 * s.toNat), .inr (0, [.int (zI (κ 79 s + 1)), .ref (c (36 + 8 * s.toNat)), .int (zI 0)]))), (36 + 8 * s.toNat, (c (36 + 8 * s.toNat), oE 3 10 (fun _ => none)))]) (cO en c (drK κ s)) := by
  obtain rfl | rfl | rfl | rfl : s = 0 ∨ s = 1 ∨ s = 2 ∨ s = 3 := (by omega)
  · rw [cO_g, cO_g, dr_hd, dr_tl (by omega), dr_gpe (t := 1) hb (by omega) (by omega), dr_gpe (t := 2) hb (by omega) (by omega), dr_gpe (t := 3) hb (by omega) (by omega), dr_gpA (by omega) hs h80, dr_oldA hs h80]
    show subO (hdO en c κ ++ (([some (c (33 + 8 * (0 : Int).toNat), .inr (6, smF c κ 0)), some (c (34 + 8 * (0 : Int).toNat), .inr (7, wnF en κ 0)), some (c (35 + 8 * (0 : Int).toNat), .inr (0, [.int (zI (κ 79 0 + 1)), .ref (c (36 + 8 * (0 : Int).toNat)), .int (zI 0)])), some (c (36 + 8 * (0 : Int).toNat), oE 3 10 (fun _ => none)), (if 0 < κ 0 2 ∧ 0 < κ 4 0 then some (c (37 + 8 * (0 : Int).toNat + (0 : Int).toNat), .inr (5, rdF κ 0 0)) else none), (if 0 < κ 0 2 ∧ 1 < κ 4 0 then some (c (37 + 8 * (0 : Int).toNat + (1 : Int).toNat), .inr (5, rdF κ 0 1)) else none), (if 0 < κ 0 2 ∧ 2 < κ 4 0 then some (c (37 + 8 * (0 : Int).toNat + (2 : Int).toNat), .inr (5, rdF κ 0 2)) else none), (if 0 < κ 0 2 ∧ 3 < κ 4 0 then some (c (37 + 8 * (0 : Int).toNat + (3 : Int).toNat), .inr (5, rdF κ 0 3)) else none)] : oW) ++ (gpO en c κ 1 ++ (gpO en c κ 2 ++ (gpO en c κ 3 ++ tlO en c κ))))) _
    exact subO_app (subO_rfl _) (subO_app ⟨Or.inr rfl, Or.inr rfl, Or.inr rfl, Or.inr rfl, Or.inl rfl, Or.inl rfl, Or.inl rfl, Or.inl rfl, trivial⟩ (subO_app (subO_rfl _) (subO_app (subO_rfl _) (subO_app (subO_rfl _) (subO_rfl _)))))
  · rw [cO_g, cO_g, dr_hd, dr_tl (by omega), dr_gpe (t := 0) hb (by omega) (by omega), dr_gpe (t := 2) hb (by omega) (by omega), dr_gpe (t := 3) hb (by omega) (by omega), dr_gpA (by omega) hs h80, dr_oldA hs h80]
    show subO (hdO en c κ ++ (gpO en c κ 0 ++ (([some (c (33 + 8 * (1 : Int).toNat), .inr (6, smF c κ 1)), some (c (34 + 8 * (1 : Int).toNat), .inr (7, wnF en κ 1)), some (c (35 + 8 * (1 : Int).toNat), .inr (0, [.int (zI (κ 79 1 + 1)), .ref (c (36 + 8 * (1 : Int).toNat)), .int (zI 0)])), some (c (36 + 8 * (1 : Int).toNat), oE 3 10 (fun _ => none)), (if 1 < κ 0 2 ∧ 0 < κ 4 1 then some (c (37 + 8 * (1 : Int).toNat + (0 : Int).toNat), .inr (5, rdF κ 1 0)) else none), (if 1 < κ 0 2 ∧ 1 < κ 4 1 then some (c (37 + 8 * (1 : Int).toNat + (1 : Int).toNat), .inr (5, rdF κ 1 1)) else none), (if 1 < κ 0 2 ∧ 2 < κ 4 1 then some (c (37 + 8 * (1 : Int).toNat + (2 : Int).toNat), .inr (5, rdF κ 1 2)) else none), (if 1 < κ 0 2 ∧ 3 < κ 4 1 then some (c (37 + 8 * (1 : Int).toNat + (3 : Int).toNat), .inr (5, rdF κ 1 3)) else none)] : oW) ++ (gpO en c κ 2 ++ (gpO en c κ 3 ++ tlO en c κ))))) _
    exact subO_app (subO_rfl _) (subO_app (subO_rfl _) (subO_app ⟨Or.inr rfl, Or.inr rfl, Or.inr rfl, Or.inr rfl, Or.inl rfl, Or.inl rfl, Or.inl rfl, Or.inl rfl, trivial⟩ (subO_app (subO_rfl _) (subO_app (subO_rfl _) (subO_rfl _)))))
  · rw [cO_g, cO_g, dr_hd, dr_tl (by omega), dr_gpe (t := 0) hb (by omega) (by omega), dr_gpe (t := 1) hb (by omega) (by omega), dr_gpe (t := 3) hb (by omega) (by omega), dr_gpA (by omega) hs h80, dr_oldA hs h80]
    show subO (hdO en c κ ++ (gpO en c κ 0 ++ (gpO en c κ 1 ++ (([some (c (33 + 8 * (2 : Int).toNat), .inr (6, smF c κ 2)), some (c (34 + 8 * (2 : Int).toNat), .inr (7, wnF en κ 2)), some (c (35 + 8 * (2 : Int).toNat), .inr (0, [.int (zI (κ 79 2 + 1)), .ref (c (36 + 8 * (2 : Int).toNat)), .int (zI 0)])), some (c (36 + 8 * (2 : Int).toNat), oE 3 10 (fun _ => none)), (if 2 < κ 0 2 ∧ 0 < κ 4 2 then some (c (37 + 8 * (2 : Int).toNat + (0 : Int).toNat), .inr (5, rdF κ 2 0)) else none), (if 2 < κ 0 2 ∧ 1 < κ 4 2 then some (c (37 + 8 * (2 : Int).toNat + (1 : Int).toNat), .inr (5, rdF κ 2 1)) else none), (if 2 < κ 0 2 ∧ 2 < κ 4 2 then some (c (37 + 8 * (2 : Int).toNat + (2 : Int).toNat), .inr (5, rdF κ 2 2)) else none), (if 2 < κ 0 2 ∧ 3 < κ 4 2 then some (c (37 + 8 * (2 : Int).toNat + (3 : Int).toNat), .inr (5, rdF κ 2 3)) else none)] : oW) ++ (gpO en c κ 3 ++ tlO en c κ))))) _
    exact subO_app (subO_rfl _) (subO_app (subO_rfl _) (subO_app (subO_rfl _) (subO_app ⟨Or.inr rfl, Or.inr rfl, Or.inr rfl, Or.inr rfl, Or.inl rfl, Or.inl rfl, Or.inl rfl, Or.inl rfl, trivial⟩ (subO_app (subO_rfl _) (subO_rfl _)))))
  · rw [cO_g, cO_g, dr_hd, dr_tl (by omega), dr_gpe (t := 0) hb (by omega) (by omega), dr_gpe (t := 1) hb (by omega) (by omega), dr_gpe (t := 2) hb (by omega) (by omega), dr_gpA (by omega) hs h80, dr_oldA hs h80]
    show subO (hdO en c κ ++ (gpO en c κ 0 ++ (gpO en c κ 1 ++ (gpO en c κ 2 ++ (([some (c (33 + 8 * (3 : Int).toNat), .inr (6, smF c κ 3)), some (c (34 + 8 * (3 : Int).toNat), .inr (7, wnF en κ 3)), some (c (35 + 8 * (3 : Int).toNat), .inr (0, [.int (zI (κ 79 3 + 1)), .ref (c (36 + 8 * (3 : Int).toNat)), .int (zI 0)])), some (c (36 + 8 * (3 : Int).toNat), oE 3 10 (fun _ => none)), (if 3 < κ 0 2 ∧ 0 < κ 4 3 then some (c (37 + 8 * (3 : Int).toNat + (0 : Int).toNat), .inr (5, rdF κ 3 0)) else none), (if 3 < κ 0 2 ∧ 1 < κ 4 3 then some (c (37 + 8 * (3 : Int).toNat + (1 : Int).toNat), .inr (5, rdF κ 3 1)) else none), (if 3 < κ 0 2 ∧ 2 < κ 4 3 then some (c (37 + 8 * (3 : Int).toNat + (2 : Int).toNat), .inr (5, rdF κ 3 2)) else none), (if 3 < κ 0 2 ∧ 3 < κ 4 3 then some (c (37 + 8 * (3 : Int).toNat + (3 : Int).toNat), .inr (5, rdF κ 3 3)) else none)] : oW) ++ tlO en c κ))))) _
    exact subO_app (subO_rfl _) (subO_app (subO_rfl _) (subO_app (subO_rfl _) (subO_app (subO_rfl _) (subO_app ⟨Or.inr rfl, Or.inr rfl, Or.inr rfl, Or.inr rfl, Or.inl rfl, Or.inl rfl, Or.inl rfl, Or.inl rfl, trivial⟩ (subO_rfl _)))))
def drP (P : St) (s : Int) : St := up P 4 s 0
theorem dr_MI {P : St} {s : Int} (hM : MI P) : MI (drP P s) := by
  obtain ⟨g1, g2, g3, g4, g5, g6, g7⟩ := hM
  have e4 : ∀ i, drP P s 4 i = if i = s then 0 else P 4 i := fun i => rfl
  refine ⟨g1, g2, g3, g4, g5, fun i i0 i1 => ?_, fun i j i0 i1 j0 j1 => ?_⟩
  · obtain ⟨a1, a2, a3, a4, a5, a6⟩ := g6 i i0 i1
    refine ⟨a1, ?_, a3, a4, a5, fun z => ?_⟩
    · rw [e4]; split <;> omega
    · obtain ⟨b1, b2, b3⟩ := a6 z
      refine ⟨?_, b2, b3⟩
      rw [e4]; split <;> omega
  · rw [e4] at j1
    refine g7 i j i0 i1 j0 ?_
    split at j1 <;> omega
theorem dr_CWP {P κ : St} {s : Int} (h : CWP P κ) (hs : s < 4) : CWP (drP P s) (drK κ s) := by
  refine ⟨⟨?_, h.1.2.1, fun i i0 i1 hl => ?_⟩, h.2.1, h.2.2⟩
  · unfold drK drP
    exact (h.1.1.up (by omega)).upP 4 s 0
  · have e80 : drK κ s 80 i = κ 80 i := rfl
    rw [e80]
    refine h.1.2.2 i i0 i1 ?_
    unfold lsz at hl ⊢
    by_cases e : i = 4
    · rw [if_pos e] at hl ⊢; exact hl
    · rw [if_neg e] at hl ⊢
      have e4 : drK κ s 4 i = if i = s then 0 else κ 4 i := rfl
      rw [e4] at hl
      split at hl
      · omega
      · exact hl
set_option maxRecDepth 100000 in
theorem dr_tail {en c : Nat → Nat} {κ P : St} {s : Int} {K : KT} {Post : Option Value → vWd → Prop} (hK : evK K = EN en) (hR : RetOK K 1 6 Post) (hM : MI P) (hCW : CWP P κ) (hs : inS P s) (kk : CWP (drP P s) (drK κ s) → Post (some (.int (zI (P 4 s)))) (fm (cO en c (drK κ s)))) : V K sX10_dropReads 1 6 (fm (cO en c κ)) [some (.ref (c 0)), some (.int (zI s)), some (.ref (c (35 + 8 * Int.toNat s))), some (.int (zI (P 4 s)))] [] 28 := by
  have hC := hCW.1
  have k4 : κ 4 = P 4 := hC.1 4 (by decide) (by decide)
  have hb : ∀ t, 0 ≤ t → t < 4 → κ 4 t ≤ 4 := fun t a b => by rw [k4]; exact (hM.2.2.2.2.2.1 t a b).2.1.2
  have hN := hM.2.2.1
  have hs4 : 0 ≤ s ∧ s < 4 := ⟨hs.1, by have := hs.2; omega⟩
  have hsk : s < κ 0 2 := by rw [hC.n2]; exact hs.2
  have hr4 := hM.r4 hs
  have hz0 : lsz κ s = P 4 s := hC.lr hs4.2
  have hend : V K sX10_dropReads 1 6 (fm (cO en c (drK κ s))) [some (.ref (c 0)), some (.int (zI s)), some (.ref (c (35 + 8 * Int.toNat s))), some (.int (zI (P 4 s)))] [] 32 := by
    refine V_iload_n dX10_dropReads_32 rfl ?_
    refine V_iret hR rfl (Nat.le_of_ble_eq_true rfl) (Nat.le_of_ble_eq_true rfl) dX10_dropReads_33 ?_
    exact kk (dr_CWP hCW hs4.2)
  refine V_aload_n dX10_dropReads_28 rfl ?_
  by_cases h80 : κ 80 s = 0
  · have hzz : P 4 s = 0 := by
      apply Classical.byContradiction
      intro z
      exact hC.2.2 s hs.1 (by omega) (by rw [hz0]; omega) h80
    have hz : lsz κ s = 0 := by rw [hz0]; exact hzz
    have hae : alF en c κ s = [.int (zI (κ 79 s)), .ref (en 5), .int (zI 0)] := by unfold alF; rw [hz, if_pos h80]
    have hal : (cO en c κ)[35 + 8 * s.toNat]? = some (some (c (35 + 8 * s.toNat), .inr (0, [.int (zI (κ 79 s)), .ref (en 5), .int (zI 0)]))) := by rw [← hae]; exact at_al ⟨⟨hs4.1, by omega⟩, Or.inr hsk⟩
    refine VO_callVP (As := []) (b := c (35 + 8 * s.toNat)) (ci := 0) (fs := [.int (zI (κ 79 s)), .ref (en 5), .int (zI 0)]) (T := TJx4a65c) (N := 3) (35 + 8 * s.toNat) [] (all1 hal) (by simp) rfl hK (k_clearE en (c (35 + 8 * s.toNat)) (κ 79 s)) mokJx4a65c_clear_da8c8 w758 w759 w760 ⟨Nat.le_of_ble_eq_true rfl, Nat.le_of_ble_eq_true rfl⟩ rfl (Nat.le_of_ble_eq_true rfl) ⟨Nat.le_of_ble_eq_true rfl, Nat.le_of_ble_eq_true rfl⟩ dX10_dropReads_29 (fun v2 w2 h => ?_)
    obtain ⟨rfl, rfl⟩ := h
    skip
    refine V_ins [(35 + 8 * s.toNat, (c (35 + 8 * s.toNat), .inr (0, [.int (zI (κ 79 s + 1)), .ref (en 5), .int (zI 0)])))] rfl (all1 (remO_in _ _ _ (by simp) (by rw [cO_len]; omega))) (by simp) ?_
    refine V_Sub (subO_fm (dr_subE hs4 hsk hb h80)) ?_
    exact hend
  · skip
    have hz : lsz κ s = P 4 s := hz0
    have hae : alF en c κ s = [.int (zI (κ 79 s)), .ref (c (36 + 8 * s.toNat)), .int (zI (P 4 s))] := by unfold alF; rw [hz, if_neg h80]
    have hal : (cO en c κ)[35 + 8 * s.toNat]? = some (some (c (35 + 8 * s.toNat), .inr (0, [.int (zI (κ 79 s)), .ref (c (36 + 8 * s.toNat)), .int (zI (P 4 s))]))) := by rw [← hae]; exact at_al ⟨⟨hs4.1, by omega⟩, Or.inr hsk⟩
    have efl : (fun i => if 0 ≤ i ∧ i < P 4 s then none else lA c κ s i) = (fun _ => none) := by
      funext i
      show (if 0 ≤ i ∧ i < P 4 s then none else lA c κ s i) = none
      by_cases h : 0 ≤ i ∧ i < P 4 s
      · rw [if_pos h]
      · rw [if_neg h]
        unfold lA
        rw [hz0]
        exact if_neg h
    refine VO_callVP (As := []) (b := c (35 + 8 * s.toNat)) (ci := 0) (fs := [.int (zI (κ 79 s)), .ref (c (36 + 8 * s.toNat)), .int (zI (P 4 s))]) (T := TJx4a65c) (N := 3) (35 + 8 * s.toNat) [(36 + 8 * s.toNat, (c (36 + 8 * s.toNat), oE 3 10 (lA c κ s)))] (all2 hal (at_la ⟨⟨hs4.1, by omega⟩, Or.inr hsk⟩ h80)) (by simp) rfl hK (k_clearA en (c (35 + 8 * s.toNat)) (c (36 + 8 * s.toNat)) (κ 79 s) (P 4 s) (lA c κ s) (by omega)) mokJx4a65c_clear_da8c8 w758 w759 w760 ⟨Nat.le_of_ble_eq_true rfl, Nat.le_of_ble_eq_true rfl⟩ rfl (Nat.le_of_ble_eq_true rfl) ⟨Nat.le_of_ble_eq_true rfl, Nat.le_of_ble_eq_true rfl⟩ dX10_dropReads_29 (fun v2 w2 h => ?_)
    obtain ⟨rfl, rfl⟩ := h
    rw [efl]
    refine V_ins [(35 + 8 * s.toNat, (c (35 + 8 * s.toNat), .inr (0, [.int (zI (κ 79 s + 1)), .ref (c (36 + 8 * s.toNat)), .int (zI 0)]))), (36 + 8 * s.toNat, (c (36 + 8 * s.toNat), oE 3 10 (fun _ => none)))] rfl (all2 (remO_in _ _ _ (by simp) (by rw [cO_len]; omega)) (remO_in _ _ _ (by simp) (by rw [cO_len]; omega))) (by simp) ?_
    refine V_Sub (subO_fm (dr_subA hs4 hsk hb h80)) ?_
    exact hend
set_option maxRecDepth 100000 in
set_option maxHeartbeats 4000000 in
theorem k_addRead (en : Nat → Nat) (c : Nat → Nat) (κ : St) (s : Int) (f : Int) (m : Int) (u : Int) (l : Int) (P : St) (hp : MI P ∧ CI P κ ∧ iR s ∧ iR f ∧ iR m ∧ iR u ∧ iR l ∧ WR P κ ∧ WB κ 4) : MCX (EN en) yX10_addRead sX10_addRead [.ref (c 0), .int (zI s), .int (zI f), .int (zI m), .int (zI u), .int (zI l)] (fm (cO en c κ)) (fun v w => ∃ (c2 : Nat → Nat) (κ2 : St), v = some (.int (zI ((sp_addRead P s f m u l).2.1))) ∧ w = fm (cO en c2 κ2) ∧ (c2 0 = c 0) ∧ ((sp_addRead P s f m u l).1 = 0) ∧ (CWP (sp_addRead P s f m u l).2.2 κ2)) (XP1 en c (sp_addRead P s f m u l) P [(1, IOBs), (2, IAEs), (3, ISEs)]) := by
  refine MCX.of (EN.stb en) [some (.ref (c 0)), some (.int (zI s)), some (.int (zI f)), some (.int (zI m)), some (.int (zI u)), some (.int (zI l)), none] 1 rfl rfl rfl (by simp [Value.category]) (Nat.le_of_ble_eq_true rfl) (fun K hK hR hX => ?_)
  obtain ⟨hM, hC, hp⟩ := hp
  have hN4 := hM.2.2.1
  obtain ⟨hr_s, hr_f, hr_m, hr_u, hr_l, hW, hW4⟩ := hp
  have hCW : CWP P κ := ⟨hC, hW, hW4⟩
  unfold iR at hr_s
  unfold iR at hr_f
  unfold iR at hr_m
  unfold iR at hr_u
  unfold iR at hr_l
  refine V_aload_n dX10_addRead_0 rfl ?_
  refine V_iload_n dX10_addRead_1 rfl ?_
  refine VO_callXVF (As := [.int (zI s)]) (b := c 0) (i := 0) (ci := 9) (fs := cwF c κ) (T := TX10) (N := 9) (at_cw) rfl hK (k_requireStatement en c κ s P ⟨hM, hC, hr_s⟩) mokX10_requireStatement w704 w706 wps1_1 ⟨Nat.le_of_ble_eq_true rfl, Nat.le_of_ble_eq_true rfl⟩ rfl (Nat.le_of_ble_eq_true rfl) ⟨Nat.le_of_ble_eq_true rfl, Nat.le_of_ble_eq_true rfl⟩ dX10_addRead_2 hX (fun X w h => XP1.of (gd_f (fun z => h.2.2 z.1)) h.1 (by decide) h.2.1 hCW) (Nat.le_of_ble_eq_true rfl) (Nat.le_of_ble_eq_true rfl) (fun v w p_1 => ?_)
  obtain ⟨rfl, rfl, q_2⟩ := p_1
  show V K sX10_addRead 1 6 (fm (cO en c κ)) [some (.ref (c 0)), some (.int (zI s)), some (.int (zI f)), some (.int (zI m)), some (.int (zI u)), some (.int (zI l)), none] [] 5
  refine V_aload_n dX10_addRead_5 rfl ?_
  refine V_iload_n dX10_addRead_6 rfl ?_
  refine VO_callXVF (As := [.int (zI f)]) (b := c 0) (i := 0) (ci := 9) (fs := cwF c κ) (T := TX10) (N := 9) (at_cw) rfl hK (k_requireStatement en c κ f P ⟨hM, hC, hr_f⟩) mokX10_requireStatement w704 w706 wps1_1 ⟨Nat.le_of_ble_eq_true rfl, Nat.le_of_ble_eq_true rfl⟩ rfl (Nat.le_of_ble_eq_true rfl) ⟨Nat.le_of_ble_eq_true rfl, Nat.le_of_ble_eq_true rfl⟩ dX10_addRead_7 hX (fun X w h => XP1.of (gd_f (fun z => h.2.2 z.2)) h.1 (by decide) h.2.1 hCW) (Nat.le_of_ble_eq_true rfl) (Nat.le_of_ble_eq_true rfl) (fun v w p_3 => ?_)
  obtain ⟨rfl, rfl, q_4⟩ := p_3
  show V K sX10_addRead 2 12 (fm (cO en c κ)) [some (.ref (c 0)), some (.int (zI s)), some (.int (zI f)), some (.int (zI m)), some (.int (zI u)), some (.int (zI l)), none] [] 10
  refine V_iload_n dX10_addRead_10 rfl ?_
  refine V_iconst dX10_addRead_11 ?_
  refine V_bipush dX10_addRead_12 (by decide) ?_
  refine V_callXSE (As := [.int (zI m), .int (zI 1), .int (zI 9)]) hK (k_requireRange en m 1 9 (⟨hr_m, ⟨by omega, by omega⟩, ⟨by omega, by omega⟩⟩)) mokX10_requireRange w517 w518 ⟨Nat.le_of_ble_eq_true rfl, Nat.le_of_ble_eq_true rfl⟩ rfl (Nat.le_of_ble_eq_true rfl) ⟨Nat.le_of_ble_eq_true rfl, Nat.le_of_ble_eq_true rfl⟩ dX10_addRead_14 hX (fun X w h => XP1.of ((gd_t ⟨q_2, q_4⟩).trans (gd_f (fun z => h.2.2 z.1))) h.1 (by decide) rfl hCW) (Nat.le_of_ble_eq_true rfl) (Nat.le_of_ble_eq_true rfl) (fun v w p_5 => ?_)
  obtain ⟨rfl, rfl, q_6⟩ := p_5
  show V K sX10_addRead 3 18 (fm (cO en c κ)) [some (.ref (c 0)), some (.int (zI s)), some (.int (zI f)), some (.int (zI m)), some (.int (zI u)), some (.int (zI l)), none] [] 17
  refine V_iload dX10_addRead_17 rfl ?_
  refine V_iconst dX10_addRead_19 ?_
  refine V_iconst dX10_addRead_20 ?_
  refine V_callXSE (As := [.int (zI u), .int (zI 0), .int (zI 3)]) hK (k_requireRange en u 0 3 (⟨hr_u, ⟨by omega, by omega⟩, ⟨by omega, by omega⟩⟩)) mokX10_requireRange w517 w518 ⟨Nat.le_of_ble_eq_true rfl, Nat.le_of_ble_eq_true rfl⟩ rfl (Nat.le_of_ble_eq_true rfl) ⟨Nat.le_of_ble_eq_true rfl, Nat.le_of_ble_eq_true rfl⟩ dX10_addRead_21 hX (fun X w h => XP1.of ((gd_t ⟨q_2, q_4⟩).trans (gd_f (fun z => h.2.2 z.2.1))) h.1 (by decide) rfl hCW) (Nat.le_of_ble_eq_true rfl) (Nat.le_of_ble_eq_true rfl) (fun v w p_7 => ?_)
  obtain ⟨rfl, rfl, q_8⟩ := p_7
  show V K sX10_addRead 4 24 (fm (cO en c κ)) [some (.ref (c 0)), some (.int (zI s)), some (.int (zI f)), some (.int (zI m)), some (.int (zI u)), some (.int (zI l)), none] [] 24
  refine V_iload dX10_addRead_24 rfl ?_
  refine V_bipush dX10_addRead_26 (by decide) ?_
  refine V_iconst dX10_addRead_28 ?_
  refine V_callXSE (As := [.int (zI l), .int (zI (-3)), .int (zI 3)]) hK (k_requireRange en l (-3) 3 (⟨hr_l, ⟨by omega, by omega⟩, ⟨by omega, by omega⟩⟩)) mokX10_requireRange w517 w518 ⟨Nat.le_of_ble_eq_true rfl, Nat.le_of_ble_eq_true rfl⟩ rfl (Nat.le_of_ble_eq_true rfl) ⟨Nat.le_of_ble_eq_true rfl, Nat.le_of_ble_eq_true rfl⟩ dX10_addRead_29 hX (fun X w h => XP1.of ((gd_t ⟨q_2, q_4⟩).trans (gd_f (fun z => h.2.2 z.2.2))) h.1 (by decide) rfl hCW) (Nat.le_of_ble_eq_true rfl) (Nat.le_of_ble_eq_true rfl) (fun v w p_9 => ?_)
  obtain ⟨rfl, rfl, q_10⟩ := p_9
  show V K sX10_addRead 5 30 (fm (cO en c κ)) [some (.ref (c 0)), some (.int (zI s)), some (.int (zI f)), some (.int (zI m)), some (.int (zI u)), some (.int (zI l)), none] [] 32
  refine V_aload_n dX10_addRead_32 rfl ?_
  refine VO_getf (C0 := RX10) (T := TX10) (N := 9) (ci := 9) (fs := cwF c κ) 0 0 iwX10 (by decide) w233 (Or.inl rfl) rfl (at_cw) rfl dX10_addRead_33 ?_
  refine VO_getN (C0 := RX5) (T := TX5) (N := 4) (ci := 4) (fs := prF c κ) 1 0 iwX5 (by decide) hK wn69 rfl (at_pr) rfl dX10_addRead_36 ?_
  show V K sX10_addRead 5 30 (fm (cO en c κ)) [some (.ref (c 0)), some (.int (zI s)), some (.int (zI f)), some (.int (zI m)), some (.int (zI u)), some (.int (zI l)), none] [.ref (c (35 + 8 * Int.toNat 4))] 39
  refine V_iload_n dX10_addRead_39 rfl ?_
  refine VO_callVF (As := [.int (zI s)]) (b := c (35 + 8 * Int.toNat 4)) (i := 35 + 8 * Int.toNat 4) (ci := 0) (fs := alF en c κ 4) (T := TJx4a65c) (N := 3) (at_al (CI.w4 _)) rfl hK (k_get4 en c κ s P ⟨hM, hC, by first | assumption | omega | exact ⟨by omega, by omega⟩ | exact ⟨⟨by omega, by omega⟩, by omega, by omega⟩ | exact ⟨⟨by omega, by omega⟩, ⟨by omega, by omega⟩⟩ | exact ⟨⟨by omega, by omega⟩, ⟨by omega, by omega⟩, by omega, by omega⟩⟩) mokJx4a65c_get_915e3 w390 w274 w275 ⟨Nat.le_of_ble_eq_true rfl, Nat.le_of_ble_eq_true rfl⟩ rfl (Nat.le_of_ble_eq_true rfl) ⟨Nat.le_of_ble_eq_true rfl, Nat.le_of_ble_eq_true rfl⟩ dX10_addRead_40 (fun v w p_11 => ?_)
  obtain ⟨rfl, rfl⟩ := p_11
  show V K sX10_addRead 5 30 (fm (cO en c κ)) [some (.ref (c 0)), some (.int (zI s)), some (.int (zI f)), some (.int (zI m)), some (.int (zI u)), some (.int (zI l)), none] [.ref (c (33 + 8 * Int.toNat s))] 43
  refine VO_castS (33 + 8 * Int.toNat s) (at_sm ((hC).sm hM (by omega))) rfl w391 dX10_addRead_43 ?_
  refine VO_getN (C0 := RX7) (T := TX7) (N := 5) (ci := 6) (fs := smF c κ s) (33 + 8 * Int.toNat s) 1 iwX7 (by decide) hK wn616 rfl (at_sm ((hC).sm hM (by omega))) rfl dX10_addRead_46 ?_
  refine V_astore (L' := [some (.ref (c 0)), some (.int (zI s)), some (.int (zI f)), some (.int (zI m)), some (.int (zI u)), some (.int (zI l)), some (.ref (c (35 + 8 * Int.toNat s)))]) dX10_addRead_49 (by decide) rfl ?_
  have hr4 := hM.r4 q_2
  refine V_aload dX10_addRead_51 rfl ?_
  refine VO_callVF (As := []) (b := c (35 + 8 * Int.toNat s)) (i := 35 + 8 * Int.toNat s) (ci := 0) (fs := alF en c κ s) (T := TJx4a65c) (N := 3) (at_al ((hC).wn hM (by omega))) rfl hK (k_sizer en c κ s P ⟨hM, hC, by first | assumption | omega | exact ⟨by omega, by omega⟩ | exact ⟨⟨by omega, by omega⟩, by omega, by omega⟩ | exact ⟨⟨by omega, by omega⟩, ⟨by omega, by omega⟩⟩ | exact ⟨⟨by omega, by omega⟩, ⟨by omega, by omega⟩, by omega, by omega⟩⟩) mokJx4a65c_size_8abf5 w364 w270 w271 ⟨Nat.le_of_ble_eq_true rfl, Nat.le_of_ble_eq_true rfl⟩ rfl (Nat.le_of_ble_eq_true rfl) ⟨Nat.le_of_ble_eq_true rfl, Nat.le_of_ble_eq_true rfl⟩ dX10_addRead_53 (fun v w p_12 => ?_)
  obtain ⟨rfl, rfl⟩ := p_12
  show V K sX10_addRead 5 30 (fm (cO en c κ)) [some (.ref (c 0)), some (.int (zI s)), some (.int (zI f)), some (.int (zI m)), some (.int (zI u)), some (.int (zI l)), some (.ref (c (35 + 8 * Int.toNat s)))] [.int (zI (P 4 s))] 56
  refine V_iconst dX10_addRead_56 ?_
  refine V_icmp_lt (tgt := 70) dX10_addRead_57 (by decide) ⟨⟨by omega, by omega⟩, ⟨by omega, by omega⟩⟩ (fun c_13 => ?_) (fun c_13 => ?_)
  · refine V_aload dX10_addRead_70 rfl ?_
    have hsp : sp_addRead P s f m u l = (0, P 4 s, arP P s f m u l) := (gd_t ⟨q_2, q_4⟩).trans ((gd_t ⟨q_6, q_8, q_10⟩).trans (gd_t (by omega)))
    exact ar_tail hK hR hM hCW q_2 q_4 ⟨q_6, q_8, q_10⟩ (by omega) (fun c2 κ2 e h => ⟨c2, κ2, by rw [hsp], rfl, e, by rw [hsp], by rw [hsp]; exact h⟩)
  · refine V_throwS2 (i := 3) hK hX (XP1.of ((gd_t ⟨q_2, q_4⟩).trans ((gd_t ⟨q_6, q_8, q_10⟩).trans (gd_f (fun z => by omega)))) rfl (by decide) rfl hCW) rfl (by decide +kernel) (by decide +kernel) w588 w22 hat_ISE hgd_ISE (by decide) rfl dX10_addRead_60 dX10_addRead_63 dX10_addRead_64 dX10_addRead_66 dX10_addRead_69 ⟨by decide, by decide⟩ ⟨Nat.le_of_ble_eq_true rfl, Nat.le_of_ble_eq_true rfl⟩ ⟨Nat.le_of_ble_eq_true rfl, Nat.le_of_ble_eq_true rfl⟩
set_option maxRecDepth 100000 in
set_option maxHeartbeats 4000000 in
theorem k_dropReads (en : Nat → Nat) (c : Nat → Nat) (κ : St) (s : Int) (P : St) (hp : MI P ∧ CI P κ ∧ iR s ∧ WR P κ ∧ WB κ 4) : MCX (EN en) yX10_dropReads sX10_dropReads [.ref (c 0), .int (zI s)] (fm (cO en c κ)) (fun v w => ∃ κ2 : St, v = some (.int (zI ((sp_dropReads P s).2.1))) ∧ w = fm (cO en c κ2) ∧ ((sp_dropReads P s).1 = 0) ∧ (CWP (sp_dropReads P s).2.2 κ2)) (XP1 en c (sp_dropReads P s) P [(1, IOBs)]) := by
  refine MCX.of (EN.stb en) [some (.ref (c 0)), some (.int (zI s)), none, none] 2 rfl rfl rfl (by simp [Value.category]) (Nat.le_of_ble_eq_true rfl) (fun K hK hR hX => ?_)
  obtain ⟨hM, hC, hp⟩ := hp
  have hN4 := hM.2.2.1
  obtain ⟨hr_s, hW, hW4⟩ := hp
  have hCW : CWP P κ := ⟨hC, hW, hW4⟩
  unfold iR at hr_s
  refine V_aload_n dX10_dropReads_0 rfl ?_
  refine V_iload_n dX10_dropReads_1 rfl ?_
  refine VO_callXVF (As := [.int (zI s)]) (b := c 0) (i := 0) (ci := 9) (fs := cwF c κ) (T := TX10) (N := 9) (at_cw) rfl hK (k_requireStatement en c κ s P ⟨hM, hC, hr_s⟩) mokX10_requireStatement w704 w706 wps1_1 ⟨Nat.le_of_ble_eq_true rfl, Nat.le_of_ble_eq_true rfl⟩ rfl (Nat.le_of_ble_eq_true rfl) ⟨Nat.le_of_ble_eq_true rfl, Nat.le_of_ble_eq_true rfl⟩ dX10_dropReads_2 hX (fun X w h => XP1.of (gd_f h.2.2) h.1 (by decide) h.2.1 hCW) (Nat.le_of_ble_eq_true rfl) (Nat.le_of_ble_eq_true rfl) (fun v w p_1 => ?_)
  obtain ⟨rfl, rfl, q_2⟩ := p_1
  show V K sX10_dropReads 1 6 (fm (cO en c κ)) [some (.ref (c 0)), some (.int (zI s)), none, none] [] 5
  refine V_aload_n dX10_dropReads_5 rfl ?_
  refine VO_getf (C0 := RX10) (T := TX10) (N := 9) (ci := 9) (fs := cwF c κ) 0 0 iwX10 (by decide) w233 (Or.inl rfl) rfl (at_cw) rfl dX10_dropReads_6 ?_
  refine VO_getN (C0 := RX5) (T := TX5) (N := 4) (ci := 4) (fs := prF c κ) 1 0 iwX5 (by decide) hK wn69 rfl (at_pr) rfl dX10_dropReads_9 ?_
  show V K sX10_dropReads 1 6 (fm (cO en c κ)) [some (.ref (c 0)), some (.int (zI s)), none, none] [.ref (c (35 + 8 * Int.toNat 4))] 12
  refine V_iload_n dX10_dropReads_12 rfl ?_
  refine VO_callVF (As := [.int (zI s)]) (b := c (35 + 8 * Int.toNat 4)) (i := 35 + 8 * Int.toNat 4) (ci := 0) (fs := alF en c κ 4) (T := TJx4a65c) (N := 3) (at_al (CI.w4 _)) rfl hK (k_get4 en c κ s P ⟨hM, hC, by first | assumption | omega | exact ⟨by omega, by omega⟩ | exact ⟨⟨by omega, by omega⟩, by omega, by omega⟩ | exact ⟨⟨by omega, by omega⟩, ⟨by omega, by omega⟩⟩ | exact ⟨⟨by omega, by omega⟩, ⟨by omega, by omega⟩, by omega, by omega⟩⟩) mokJx4a65c_get_915e3 w390 w274 w275 ⟨Nat.le_of_ble_eq_true rfl, Nat.le_of_ble_eq_true rfl⟩ rfl (Nat.le_of_ble_eq_true rfl) ⟨Nat.le_of_ble_eq_true rfl, Nat.le_of_ble_eq_true rfl⟩ dX10_dropReads_13 (fun v w p_3 => ?_)
  obtain ⟨rfl, rfl⟩ := p_3
  show V K sX10_dropReads 1 6 (fm (cO en c κ)) [some (.ref (c 0)), some (.int (zI s)), none, none] [.ref (c (33 + 8 * Int.toNat s))] 16
  refine VO_castS (33 + 8 * Int.toNat s) (at_sm ((hC).sm hM (by omega))) rfl w391 dX10_dropReads_16 ?_
  refine VO_getN (C0 := RX7) (T := TX7) (N := 5) (ci := 6) (fs := smF c κ s) (33 + 8 * Int.toNat s) 1 iwX7 (by decide) hK wn616 rfl (at_sm ((hC).sm hM (by omega))) rfl dX10_dropReads_19 ?_
  refine V_astore_n (L' := [some (.ref (c 0)), some (.int (zI s)), some (.ref (c (35 + 8 * Int.toNat s))), none]) dX10_dropReads_22 (by decide) rfl ?_
  refine V_aload_n dX10_dropReads_23 rfl ?_
  refine VO_callVF (As := []) (b := c (35 + 8 * Int.toNat s)) (i := 35 + 8 * Int.toNat s) (ci := 0) (fs := alF en c κ s) (T := TJx4a65c) (N := 3) (at_al ((hC).wn hM (by omega))) rfl hK (k_sizer en c κ s P ⟨hM, hC, by first | assumption | omega | exact ⟨by omega, by omega⟩ | exact ⟨⟨by omega, by omega⟩, by omega, by omega⟩ | exact ⟨⟨by omega, by omega⟩, ⟨by omega, by omega⟩⟩ | exact ⟨⟨by omega, by omega⟩, ⟨by omega, by omega⟩, by omega, by omega⟩⟩) mokJx4a65c_size_8abf5 w364 w270 w271 ⟨Nat.le_of_ble_eq_true rfl, Nat.le_of_ble_eq_true rfl⟩ rfl (Nat.le_of_ble_eq_true rfl) ⟨Nat.le_of_ble_eq_true rfl, Nat.le_of_ble_eq_true rfl⟩ dX10_dropReads_24 (fun v w p_4 => ?_)
  obtain ⟨rfl, rfl⟩ := p_4
  show V K sX10_dropReads 1 6 (fm (cO en c κ)) [some (.ref (c 0)), some (.int (zI s)), some (.ref (c (35 + 8 * Int.toNat s))), none] [.int (zI (P 4 s))] 27
  refine V_istore_n (L' := [some (.ref (c 0)), some (.int (zI s)), some (.ref (c (35 + 8 * Int.toNat s))), some (.int (zI (P 4 s)))]) dX10_dropReads_27 (by decide) rfl ?_
  have hsp : sp_dropReads P s = (0, P 4 s, drP P s) := gd_t q_2
  exact dr_tail hK hR hM hCW q_2 (fun h => ⟨drK κ s, by rw [hsp], rfl, by rw [hsp], by rw [hsp]; exact h⟩)
