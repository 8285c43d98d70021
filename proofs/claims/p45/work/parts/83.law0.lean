/-! the law's own arrays: 0 the numbers g, 1 a, 2 the reads d, 3 the steps t, 4 the ends e; its relation to a program's state -/
def lW (b : Nat → Nat) (τ : St) (X : vWd) : vWd := (b 0, iE 0 5 (τ 0)) :: (b 1, iE 0 29 (τ 1)) :: (b 2, iE 0 16 (τ 2)) :: (b 3, iE 0 64 (τ 3)) :: (b 4, iE 0 64 (τ 4)) :: X
section LROWS
variable {K : KT} {S : SI} {k n : Nat} {b : Nat → Nat} {τ : St} {X : vWd} {L : List (Option Value)} {st : List Value} {pc : Nat}
theorem ll_0 {i : Int} (hi : 0 ≤ i ∧ i < 5) (d : decode S.1 pc = .ok (.iaload, 1)) (kk : V K S k n (lW b τ X) L (.int (zI (τ 0 i)) :: st) (pc + 1)) : V K S k n (lW b τ X) L (.int (zI i) :: .ref (b 0) :: st) pc := V_iald (N := 5) 0 rfl hi (by decide) d kk
theorem ls_0 {i v : Int} (hi : 0 ≤ i ∧ i < 5) (d : decode S.1 pc = .ok (.iastore, 1)) (kk : V K S k n (lW b (up τ 0 i v) X) L st (pc + 1)) : V K S k n (lW b τ X) L (.int (zI v) :: .int (zI i) :: .ref (b 0) :: st) pc := V_iast (N := 5) 0 rfl hi (by decide) d (by rw [show (lW b τ X).set 0 (b 0, .inl (0, 5, .inl (zA (fup (τ 0) i v)))) = lW b (up τ 0 i v) X from rfl]; exact kk)
theorem ll_1 {i : Int} (hi : 0 ≤ i ∧ i < 29) (d : decode S.1 pc = .ok (.iaload, 1)) (kk : V K S k n (lW b τ X) L (.int (zI (τ 1 i)) :: st) (pc + 1)) : V K S k n (lW b τ X) L (.int (zI i) :: .ref (b 1) :: st) pc := V_iald (N := 29) 1 rfl hi (by decide) d kk
theorem ls_1 {i v : Int} (hi : 0 ≤ i ∧ i < 29) (d : decode S.1 pc = .ok (.iastore, 1)) (kk : V K S k n (lW b (up τ 1 i v) X) L st (pc + 1)) : V K S k n (lW b τ X) L (.int (zI v) :: .int (zI i) :: .ref (b 1) :: st) pc := V_iast (N := 29) 1 rfl hi (by decide) d (by rw [show (lW b τ X).set 1 (b 1, .inl (0, 29, .inl (zA (fup (τ 1) i v)))) = lW b (up τ 1 i v) X from rfl]; exact kk)
theorem ll_2 {i : Int} (hi : 0 ≤ i ∧ i < 16) (d : decode S.1 pc = .ok (.iaload, 1)) (kk : V K S k n (lW b τ X) L (.int (zI (τ 2 i)) :: st) (pc + 1)) : V K S k n (lW b τ X) L (.int (zI i) :: .ref (b 2) :: st) pc := V_iald (N := 16) 2 rfl hi (by decide) d kk
theorem ls_2 {i v : Int} (hi : 0 ≤ i ∧ i < 16) (d : decode S.1 pc = .ok (.iastore, 1)) (kk : V K S k n (lW b (up τ 2 i v) X) L st (pc + 1)) : V K S k n (lW b τ X) L (.int (zI v) :: .int (zI i) :: .ref (b 2) :: st) pc := V_iast (N := 16) 2 rfl hi (by decide) d (by rw [show (lW b τ X).set 2 (b 2, .inl (0, 16, .inl (zA (fup (τ 2) i v)))) = lW b (up τ 2 i v) X from rfl]; exact kk)
theorem ll_3 {i : Int} (hi : 0 ≤ i ∧ i < 64) (d : decode S.1 pc = .ok (.iaload, 1)) (kk : V K S k n (lW b τ X) L (.int (zI (τ 3 i)) :: st) (pc + 1)) : V K S k n (lW b τ X) L (.int (zI i) :: .ref (b 3) :: st) pc := V_iald (N := 64) 3 rfl hi (by decide) d kk
theorem ls_3 {i v : Int} (hi : 0 ≤ i ∧ i < 64) (d : decode S.1 pc = .ok (.iastore, 1)) (kk : V K S k n (lW b (up τ 3 i v) X) L st (pc + 1)) : V K S k n (lW b τ X) L (.int (zI v) :: .int (zI i) :: .ref (b 3) :: st) pc := V_iast (N := 64) 3 rfl hi (by decide) d (by rw [show (lW b τ X).set 3 (b 3, .inl (0, 64, .inl (zA (fup (τ 3) i v)))) = lW b (up τ 3 i v) X from rfl]; exact kk)
theorem ll_4 {i : Int} (hi : 0 ≤ i ∧ i < 64) (d : decode S.1 pc = .ok (.iaload, 1)) (kk : V K S k n (lW b τ X) L (.int (zI (τ 4 i)) :: st) (pc + 1)) : V K S k n (lW b τ X) L (.int (zI i) :: .ref (b 4) :: st) pc := V_iald (N := 64) 4 rfl hi (by decide) d kk
theorem ls_4 {i v : Int} (hi : 0 ≤ i ∧ i < 64) (d : decode S.1 pc = .ok (.iastore, 1)) (kk : V K S k n (lW b (up τ 4 i v) X) L st (pc + 1)) : V K S k n (lW b τ X) L (.int (zI v) :: .int (zI i) :: .ref (b 4) :: st) pc := V_iast (N := 64) 4 rfl hi (by decide) d (by rw [show (lW b τ X).set 4 (b 4, .inl (0, 64, .inl (zA (fup (τ 4) i v)))) = lW b (up τ 4 i v) X from rfl]; exact kk)
theorem lW_push (x : Nat × vE) : (lW b τ X ++ [x]).Perm (lW b τ (x :: X)) := by
  have h : (X ++ [x]).Perm (x :: X) := List.perm_append_comm (l₁ := X) (l₂ := [x])
  exact ((((h.cons _).cons _).cons _).cons _).cons _
theorem V_newl {z : Int} {N : Nat} (harr : Cond.arrayClass .int ∈ WA) (hz : z = (N : Int)) (hN : N < 100000) (hroom : k + 1 ≤ S.2.2.2.2.cells ∧ n + N ≤ S.2.2.2.2.slots) (d : decode S.1 pc = .ok (.newarray .int, 2)) (kk : ∀ q : Nat, V K S (k + 1) (n + N) (lW b τ ((q, iE 0 N (fun _ => 0)) :: X)) L (.ref q :: st) (pc + 2)) : V K S k n (lW b τ X) L (.int (zI z) :: st) pc := V_newa_i harr hz hN hroom d (fun q => V_Perm (lW_push _) (kk q))
end LROWS
theorem lW_cw (b : Nat → Nat) (τ : St) (Z : vWd) (en c : Nat → Nat) (κ : St) : (lW b τ (Z ++ fm (cO en c κ)))[5 + Z.length]? = some (c 0, .inr (9, cwF c κ)) := by
  show (((b 0, iE 0 5 (τ 0)) :: (b 1, iE 0 29 (τ 1)) :: (b 2, iE 0 16 (τ 2)) :: (b 3, iE 0 64 (τ 3)) :: (b 4, iE 0 64 (τ 4)) :: Z) ++ fm (cO en c κ))[5 + Z.length]? = _
  rw [List.getElem?_append_right (by simp only [List.length_cons]; omega)]
  simp only [List.length_cons]
  rw [show 5 + Z.length - (Z.length + 1 + 1 + 1 + 1 + 1) = 0 by omega]
  rfl
theorem lW_drop0 {b : Nat → Nat} {τ : St} {x : Nat × vE} {X : vWd} : (lW b τ X).Sublist (lW b τ (x :: X)) := (((((List.sublist_cons_self x X).cons₂ _).cons₂ _).cons₂ _).cons₂ _).cons₂ _
theorem lW_drop2 {b : Nat → Nat} {τ : St} {x y : Nat × vE} {X : vWd} : (lW b τ X).Sublist (lW b τ (x :: y :: X)) := ((((((List.sublist_cons_self y X).cons x).cons₂ _).cons₂ _).cons₂ _).cons₂ _).cons₂ _
theorem lW_drop1 {b : Nat → Nat} {τ : St} {x y : Nat × vE} {X : vWd} : (lW b τ (x :: X)).Sublist (lW b τ (x :: y :: X)) := ((((((List.sublist_cons_self y X).cons₂ x).cons₂ _).cons₂ _).cons₂ _).cons₂ _).cons₂ _
/-- a read as the law keeps it -/
def rde (P : St) (r : Int) : Int := P 5 r + 8 * P 6 r + 128 * P 7 r + 1024 * (P 8 r + 3)
def LR (P τ : St) : Prop := (τ 0 0 = P 0 0 ∧ τ 0 1 = P 0 1 ∧ τ 0 2 = P 0 2 ∧ τ 0 3 = P 0 11 ∧ τ 0 4 = P 0 12) ∧ (P 0 0 ≤ 4 ∧ P 0 1 ≤ 4) ∧
  (∀ s, 0 ≤ s → s < 4 → τ 1 s = P 3 s ∧ τ 1 (4 + s) = P 4 s ∧ τ 1 (8 + s) = P 9 s ∧ τ 1 (12 + s) = P 10 s ∧ τ 1 (16 + s) = P 13 s ∧ (P 13 s ≠ 0 → τ 1 (20 + s) = P 14 s) ∧ (P 13 s = 2 ∨ P 13 s = 3 → τ 1 (24 + s) = P 15 s)) ∧
  (∀ s j, 0 ≤ s → s < 4 → 0 ≤ j → j < P 4 s → τ 2 (4 * s + j) = rde P (4 * s + j))
def LT (P τ : St) : Prop := ∀ k, 0 ≤ k → k < al P → τ 3 k = bt P (P 0 11) (P 0 12) k
def LE (P τ : St) : Prop := ∀ k, 0 ≤ k → k < al P → τ 4 k = en P (P 0 11) (P 0 12) k
theorem LR.g0 {P τ : St} (h : LR P τ) : τ 0 0 = P 0 0 := h.1.1
theorem LR.g1 {P τ : St} (h : LR P τ) : τ 0 1 = P 0 1 := h.1.2.1
theorem LR.g2 {P τ : St} (h : LR P τ) : τ 0 2 = P 0 2 := h.1.2.2.1
theorem LR.g3 {P τ : St} (h : LR P τ) : τ 0 3 = P 0 11 := h.1.2.2.2.1
theorem LR.g4 {P τ : St} (h : LR P τ) : τ 0 4 = P 0 12 := h.1.2.2.2.2
theorem LR.at {P τ : St} (h : LR P τ) {s : Int} (h0 : 0 ≤ s) (h1 : s < 4) : τ 1 s = P 3 s ∧ τ 1 (4 + s) = P 4 s ∧ τ 1 (8 + s) = P 9 s ∧ τ 1 (12 + s) = P 10 s ∧ τ 1 (16 + s) = P 13 s ∧ (P 13 s ≠ 0 → τ 1 (20 + s) = P 14 s) ∧ (P 13 s = 2 ∨ P 13 s = 3 → τ 1 (24 + s) = P 15 s) := h.2.2.1 s h0 h1
theorem LR.rd {P τ : St} (h : LR P τ) {s j : Int} (h0 : 0 ≤ s) (h1 : s < 4) (h2 : 0 ≤ j) (h3 : j < P 4 s) : τ 2 (4 * s + j) = rde P (4 * s + j) := h.2.2.2 s j h0 h1 h2 h3
theorem LR.same {P τ τ2 : St} (h : LR P τ) (h0 : τ2 0 = τ 0) (h1 : τ2 1 = τ 1) (h2 : τ2 2 = τ 2) : LR P τ2 := by
  obtain ⟨a, b, c, d⟩ := h
  exact ⟨by rw [h0]; exact a, b, by rw [h1]; exact c, by rw [h2]; exact d⟩
theorem LR.upd {P τ : St} (h : LR P τ) {k : Nat} {i v : Int} (hk : 3 ≤ k) : LR P (up τ k i v) := h.same (up_ne (by omega)) (up_ne (by omega)) (up_ne (by omega))
theorem LR.fr {P τ τ2 : St} {ks : List Nat} (h : LR P τ) (hf : fr ks τ τ2) (hs : ks.all (fun k => decide (3 ≤ k)) = true) : LR P τ2 := by
  have g : ∀ k : Nat, k < 3 → τ2 k = τ k := fun k hk => hf k (fun z => by have := of_decide_eq_true (List.all_eq_true.mp hs k z); omega)
  exact h.same (g 0 (by decide)) (g 1 (by decide)) (g 2 (by decide))
theorem LT.same {P τ τ2 : St} (h : LT P τ) (h3 : τ2 3 = τ 3) : LT P τ2 := by unfold LT; rw [h3]; exact h
theorem LE.same {P τ τ2 : St} (h : LE P τ) (h4 : τ2 4 = τ 4) : LE P τ2 := by unfold LE; rw [h4]; exact h
theorem LR.small {P τ : St} (h : LR P τ) (hM : MI P) : (1 ≤ pt P ∧ pt P ≤ 16) ∧ 0 ≤ al P ∧ al P ≤ 64 := by
  have h1 := mulB (a := P 0 0) (b := P 0 1) (A := 4) (B := 4) (by have := hM.1; omega) h.2.1.1 (by have := hM.2.1; omega) h.2.1.2
  have h2 := hM.pts
  have h3 := mulB (a := P 0 2) (b := pt P) (A := 4) (B := 16) hM.2.2.1.1 hM.2.2.1.2 (by omega) (by unfold pt; omega)
  unfold pt at h2
  refine ⟨⟨h2.1, ?_⟩, ?_⟩
  · unfold pt; omega
  · unfold al; omega
theorem rd_b {P : St} (hM : MI P) {s j : Int} (h0 : 0 ≤ s) (h1 : s < 4) (h2 : 0 ≤ j) (h3 : j < P 4 s) : ((0 ≤ P 5 (4 * s + j) ∧ P 5 (4 * s + j) < P 0 2) ∧ (1 ≤ P 6 (4 * s + j) ∧ P 6 (4 * s + j) ≤ 9) ∧ (0 ≤ P 7 (4 * s + j) ∧ P 7 (4 * s + j) ≤ 3) ∧ (-3 ≤ P 8 (4 * s + j) ∧ P 8 (4 * s + j) ≤ 3)) := hM.2.2.2.2.2.2 s j h0 h1 h2 h3
/-- a read's parts lie in their ranges -/
def RB (P : St) (r : Int) : Prop := (0 ≤ P 5 r ∧ P 5 r < P 0 2) ∧ (1 ≤ P 6 r ∧ P 6 r ≤ 9) ∧ (0 ≤ P 7 r ∧ P 7 r ≤ 3) ∧ (-3 ≤ P 8 r ∧ P 8 r ≤ 3)
theorem rde_dec {P : St} (hM : MI P) {r : Int} (h : RB P r) : (0 ≤ rde P r ∧ rde P r ≤ 8000) ∧ rde P r % 8 = P 5 r ∧ rde P r / 8 % 16 = P 6 r ∧ rde P r / 128 % 8 = P 7 r ∧ rde P r / 1024 - 3 = P 8 r := by
  obtain ⟨a, b, c, d⟩ := h
  have hN := hM.2.2.1
  unfold rde
  omega
theorem rds_b {P : St} (hM : MI P) {s : Int} (h0 : 0 ≤ s) (h1 : s < 4) : 0 ≤ P 4 s ∧ P 4 s ≤ 4 := (hM.2.2.2.2.2.1 s h0 h1).2.1
theorem off_b {P : St} (hM : MI P) {s : Int} (h0 : 0 ≤ s) (h1 : s < 4) : 0 ≤ P 10 s ∧ P 10 s ≤ 30 := (hM.2.2.2.2.2.1 s h0 h1).2.2.2.1
theorem las_b {P : St} (hM : MI P) {s : Int} (h0 : 0 ≤ s) (h1 : s < 4) : P 9 s = 0 ∨ P 9 s = 1 := (hM.2.2.2.2.2.1 s h0 h1).2.2.1
theorem add_b {P : St} (hM : MI P) {s : Int} (h0 : 0 ≤ s) (h1 : s < 4) : 0 ≤ P 3 s ∧ P 3 s ≤ 99 := (hM.2.2.2.2.2.1 s h0 h1).1
theorem LR.noread {P : St} (hM : MI P) {s : Int} (h0 : 0 ≤ s) (h1 : s < 4) (h : P 0 2 ≤ s) : P 4 s = 0 := ((hM.2.2.2.2.2.1 s h0 h1).2.2.2.2.2 h).1
abbrev tL_areLives : SI := (cL_areLives, RL, 19, (some (FieldType.boolean)), ⟨10, 1000, 10000, 209⟩)
theorem nokL_areLives : MOK yL_areLives tL_areLives 8 := ⟨w885, w0, by decide +kernel⟩
abbrev tL_areWindows : SI := (cL_areWindows, RL, 14, (some (FieldType.boolean)), ⟨8, 100, 1000, 158⟩)
theorem nokL_areWindows : MOK yL_areWindows tL_areWindows 6 := ⟨w927, w0, by decide +kernel⟩
abbrev tL_areValues : SI := (cL_areValues, RL, 20, (some (FieldType.boolean)), ⟨9, 1000, 10000, 191⟩)
theorem nokL_areValues : MOK yL_areValues tL_areValues 6 := ⟨w995, w0, by decide +kernel⟩
abbrev tL_isBest : SI := (cL_isBest, RL, 12, (some (FieldType.boolean)), ⟨10, 100, 1000, 209⟩)
theorem nokL_isBest : MOK yL_isBest tL_isBest 4 := ⟨w1019, w0, by decide +kernel⟩
abbrev tL_isProgram : SI := (cL_isProgram, RL, 17, (some (FieldType.boolean)), ⟨10, 20, 200, 209⟩)
theorem nokL_isProgram : MOK yL_isProgram tL_isProgram 8 := ⟨w1022, w0, by decide +kernel⟩
abbrev tL_isWindow : SI := (cL_isWindow, RL, 14, (some (FieldType.boolean)), ⟨10, 10, 100, 209⟩)
theorem nokL_isWindow : MOK yL_isWindow tL_isWindow 6 := ⟨w1025, w0, by decide +kernel⟩
abbrev tL_isContracted : SI := (cL_isContracted, RL, 11, (some (FieldType.boolean)), ⟨7, 0, 0, 157⟩)
theorem nokL_isContracted : MOK yL_isContracted tL_isContracted 5 := ⟨w1028, w0, by decide +kernel⟩
