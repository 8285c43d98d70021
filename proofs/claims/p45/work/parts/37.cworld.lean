/-! worlds with places that may stand empty, and the class's own world -/
abbrev oW : Type := List (Option (Nat × vE))
def fm (o : oW) : vWd := o.filterMap id
theorem fm_get : ∀ {o : oW} {i : Nat} {x : Nat × vE}, o[i]? = some (some x) → ∃ q, (fm o)[q]? = some x ∧ ∀ y, (fm o).set q y = fm (o.set i (some y))
  | [], i, x, h => by simp at h
  | none :: o, 0, x, h => by simp at h
  | some z :: o, 0, x, h => ⟨0, by simp at h; subst h; rfl, fun y => rfl⟩
  | none :: o, i + 1, x, h => by
    obtain ⟨q, h1, h2⟩ := fm_get (o := o) (i := i) (x := x) (by simpa using h)
    exact ⟨q, h1, fun y => h2 y⟩
  | some z :: o, i + 1, x, h => by
    obtain ⟨q, h1, h2⟩ := fm_get (o := o) (i := i) (x := x) (by simpa using h)
    exact ⟨q + 1, by simpa [fm] using h1, fun y => by have := h2 y; simp only [fm] at this; simp [fm, this]⟩
theorem fm_push : ∀ {o : oW} {i : Nat} (x : Nat × vE), o[i]? = some none → (fm o ++ [x]).Perm (fm (o.set i (some x)))
  | [], i, x, h => by simp at h
  | some z :: o, 0, x, h => by simp at h
  | none :: o, 0, x, h => by
    have : (fm o ++ [x]).Perm (x :: fm o) := List.perm_append_comm (l₁ := fm o) (l₂ := [x])
    exact this
  | none :: o, i + 1, x, h => fm_push (o := o) (i := i) x (by simpa using h)
  | some z :: o, i + 1, x, h => (fm_push (o := o) (i := i) x (by simpa using h)).cons z
theorem set_self {l : oW} {p : Nat} {x : Option (Nat × vE)} (h : l[p]? = some x) : l.set p x = l := by
  obtain ⟨h1, h2⟩ := List.getElem?_eq_some_iff.mp h
  subst h2
  exact List.set_getElem_self h1
section VO
variable {K : KT} {S : SI} {k n : Nat} {o : oW} {L : List (Option Value)} {st : List Value} {pc : Nat}
theorem VO_getf {ref C0 : String} {T : u_T} {N ci idx a : Nat} {fs : List Value} {v : Value} (i j : Nat) (hin : ∀ w ∈ u_ws C0 T N, w ∈ WA) (hj : j < N) (hlink : Cond.fieldLink S.2.1 idx ref (T j).2.1 (T j).2.2.1 ∈ WA) (hsame : ref = (T j).1 ∨ Cond.sameField ref (T j).1 (T j).2.1 (T j).2.2.1 ∈ WA) (hc : vwCl[ci]? = some (C0, T, N)) (he : o[i]? = some (some (a, .inr (ci, fs)))) (hv : fs[j]? = some v) (d : decode S.1 pc = .ok (.getfield idx, 3)) (kk : V K S k n (fm o) L (v :: st) (pc + 3)) : V K S k n (fm o) L (.ref a :: st) (pc) := by
  obtain ⟨q, h1, h2⟩ := fm_get he
  exact V_getf q j hin hj hlink hsame hc h1 hv d kk
theorem VO_getN {en : Nat → Nat} {host : String} {C0 : String} {T : u_T} {N ci idx a : Nat} {fs : List Value} {v : Value} (i j : Nat) (hin : ∀ w ∈ u_ws C0 T N, w ∈ WA) (hj : j < N) (hE : evK K = EN en) (hlink : Cond.fieldLinkNest S.2.1 idx (T j).1 (T j).2.1 (T j).2.2.1 host ∈ WN) (hc : vwCl[ci]? = some (C0, T, N)) (he : o[i]? = some (some (a, .inr (ci, fs)))) (hv : fs[j]? = some v) (d : decode S.1 pc = .ok (.getfield idx, 3)) (kk : V K S k n (fm o) L (v :: st) (pc + 3)) : V K S k n (fm o) L (.ref a :: st) (pc) := by
  obtain ⟨q, h1, h2⟩ := fm_get he
  exact V_getN hE q j hin hj hlink hc h1 hv d kk
theorem VO_putf {ref C0 : String} {T : u_T} {N ci idx a : Nat} {fs : List Value} {v : Value} {o2 : oW} (i j : Nat) (hin : ∀ w ∈ u_ws C0 T N, w ∈ WA) (hj : j < N) (hlink : Cond.fieldLink S.2.1 idx ref (T j).2.1 (T j).2.2.1 ∈ WA) (hsame : ref = (T j).1 ∨ Cond.sameField ref (T j).1 (T j).2.1 (T j).2.2.1 ∈ WA) (ty0 : Nat → FieldType) (hty : ∀ k, k < N → parseFieldDescriptor (T k).2.2.1 = some (ty0 k)) (hnm : ∀ a, a < N → ∀ b, b < N → a ≠ b → (T a).2.1 ≠ (T b).2.1) (hfin : (T j).2.2.2 = false) (hc : vwCl[ci]? = some (C0, T, N)) (he : o[i]? = some (some (a, .inr (ci, fs)))) (hl0 : j < fs.length) (hn : narrow (ty0 j) v = v) (hfit : fits (ty0 j) v = true) (d : decode S.1 pc = .ok (.putfield idx, 3)) (ho : o.set i (some (a, .inr (ci, fs.set j v))) = o2) (kk : V K S k n (fm o2) L (st) (pc + 3)) : V K S k n (fm o) L (v :: .ref a :: st) (pc) := by
  obtain ⟨q, h1, h2⟩ := fm_get he
  subst ho
  exact V_putf q j hin hj hlink hsame ty0 hty hnm hfin hc h1 hl0 hn hfit d (by rw [h2]; exact kk)
theorem VO_putN {en : Nat → Nat} {host : String} {o2 : oW} {C0 : String} {T : u_T} {N ci idx a : Nat} {fs : List Value} {v : Value} (i j : Nat) (hin : ∀ w ∈ u_ws C0 T N, w ∈ WA) (hj : j < N) (hE : evK K = EN en) (hlink : Cond.fieldLinkNest S.2.1 idx (T j).1 (T j).2.1 (T j).2.2.1 host ∈ WN) (ty0 : Nat → FieldType) (hty : ∀ k, k < N → parseFieldDescriptor (T k).2.2.1 = some (ty0 k)) (hnm : ∀ a, a < N → ∀ b, b < N → a ≠ b → (T a).2.1 ≠ (T b).2.1) (hfin : (T j).2.2.2 = false) (hc : vwCl[ci]? = some (C0, T, N)) (he : o[i]? = some (some (a, .inr (ci, fs)))) (hl0 : j < fs.length) (hn : narrow (ty0 j) v = v) (hfit : fits (ty0 j) v = true) (d : decode S.1 pc = .ok (.putfield idx, 3)) (ho : o.set i (some (a, .inr (ci, fs.set j v))) = o2) (kk : V K S k n (fm o2) L (st) (pc + 3)) : V K S k n (fm o) L (v :: .ref a :: st) (pc) := by
  obtain ⟨q, h1, h2⟩ := fm_get he
  subst ho
  exact V_putN hE q j hin hj hlink ty0 hty hnm hfin hc h1 hl0 hn hfit d (by rw [h2]; exact kk)
theorem VO_iald {a N : Nat} {f : Int → Int} {x : Int} (i : Nat) (he : o[i]? = some (some (a, iE 0 N f))) (hi : 0 ≤ x ∧ x < (N : Int)) (hN : N < 2147483648) (d : decode S.1 pc = .ok (.iaload, 1)) (kk : V K S k n (fm o) L (.int (zI (f x)) :: st) (pc + 1)) : V K S k n (fm o) L (.int (zI x) :: .ref a :: st) (pc) := by
  obtain ⟨q, h1, h2⟩ := fm_get he
  exact V_iald q h1 hi hN d kk
theorem VO_zald {a N : Nat} {f : Int → Int} {x : Int} (i : Nat) (he : o[i]? = some (some (a, iE 1 N f))) (hi : 0 ≤ x ∧ x < (N : Int)) (hN : N < 2147483648) (d : decode S.1 pc = .ok (.baload, 1)) (kk : V K S k n (fm o) L (.int (zI (f x)) :: st) (pc + 1)) : V K S k n (fm o) L (.int (zI x) :: .ref a :: st) (pc) := by
  obtain ⟨q, h1, h2⟩ := fm_get he
  exact V_zald q h1 hi hN d kk
theorem VO_iast {a N : Nat} {f : Int → Int} {x v : Int} {o2 : oW} (i : Nat) (he : o[i]? = some (some (a, iE 0 N f))) (hi : 0 ≤ x ∧ x < (N : Int)) (hN : N < 2147483648) (d : decode S.1 pc = .ok (.iastore, 1)) (ho : o.set i (some (a, iE 0 N (fup f x v))) = o2) (kk : V K S k n (fm o2) L (st) (pc + 1)) : V K S k n (fm o) L (.int (zI v) :: .int (zI x) :: .ref a :: st) (pc) := by
  obtain ⟨q, h1, h2⟩ := fm_get he
  subst ho
  exact V_iast q h1 hi hN d (by rw [h2]; exact kk)
theorem VO_zast {a N : Nat} {f : Int → Int} {x v : Int} {o2 : oW} (i : Nat) (he : o[i]? = some (some (a, iE 1 N f))) (hi : 0 ≤ x ∧ x < (N : Int)) (hN : N < 2147483648) (hv : v = 0 ∨ v = 1) (d : decode S.1 pc = .ok (.bastore, 1)) (ho : o.set i (some (a, iE 1 N (fup f x v))) = o2) (kk : V K S k n (fm o2) L (st) (pc + 1)) : V K S k n (fm o) L (.int (zI v) :: .int (zI x) :: .ref a :: st) (pc) := by
  obtain ⟨q, h1, h2⟩ := fm_get he
  subst ho
  exact V_zast q h1 hi hN hv d (by rw [h2]; exact kk)
theorem VO_alen {a : Nat} {x : Nat × vp_A} {t : FieldType} (i : Nat) (he : o[i]? = some (some (a, .inl x))) (ht : ∀ cA, (tyL cA)[x.1]? = some (cA x.1, t)) (d : decode S.1 pc = .ok (.arraylength, 1)) (kk : V K S k n (fm o) L (.int (zI (x.2.1 : Int)) :: st) (pc + 1)) : V K S k n (fm o) L (.ref a :: st) (pc) := by
  obtain ⟨q, h1, h2⟩ := fm_get he
  exact V_alen q h1 ht d kk
theorem VO_aald {a N b : Nat} {f : Int → Option Nat} {x : Int} (i : Nat) (he : o[i]? = some (some (a, oE 3 N f))) (hi : 0 ≤ x ∧ x < (N : Int)) (hN : N < 2147483648) (hf : f x = some b) (d : decode S.1 pc = .ok (.aaload, 1)) (kk : V K S k n (fm o) L (.ref b :: st) (pc + 1)) : V K S k n (fm o) L (.int (zI x) :: .ref a :: st) (pc) := by
  obtain ⟨q, h1, h2⟩ := fm_get he
  exact V_aald q h1 hi hN hf d kk
theorem VO_aaldA {a N b : Nat} {f : Int → Option Nat} {x : Int} (i : Nat) (he : o[i]? = some (some (a, oE 4 N f))) (hi : 0 ≤ x ∧ x < (N : Int)) (hN : N < 2147483648) (hf : f x = some b) (d : decode S.1 pc = .ok (.aaload, 1)) (kk : V K S k n (fm o) L (.ref b :: st) (pc + 1)) : V K S k n (fm o) L (.int (zI x) :: .ref a :: st) (pc) := by
  obtain ⟨q, h1, h2⟩ := fm_get he
  exact V_aaldA q h1 hi hN hf d kk
theorem VO_aastO {en : Nat → Nat} {a N b ci : Nat} {vs : List Value} {r : vw_C} {f : Int → Option Nat} {x : Int} {o2 : oW} (hE : evK K = EN en) (i ik : Nat) (he : o[i]? = some (some (a, oE 3 N f))) (hca : Cond.castable r.1 "java/lang/Object" ∈ WN) (hek : o[ik]? = some (some (b, .inr (ci, vs)))) (hc : vwCl[ci]? = some r) (hi : 0 ≤ x ∧ x < (N : Int)) (hN : N < 2147483648) (d : decode S.1 pc = .ok (.aastore, 1)) (ho : o.set i (some (a, oE 3 N (fup f x (some b)))) = o2) (kk : V K S k n (fm o2) L (st) (pc + 1)) : V K S k n (fm o) L (.ref b :: .int (zI x) :: .ref a :: st) (pc) := by
  obtain ⟨q, h1, h2⟩ := fm_get he
  obtain ⟨q', h1', -⟩ := fm_get hek
  subst ho
  exact V_aastO hE q q' h1 hca h1' hc hi hN d (by rw [h2]; exact kk)
theorem VO_aastN {a N : Nat} {f : Int → Option Nat} {x : Int} {o2 : oW} (i : Nat) (he : o[i]? = some (some (a, oE 3 N f))) (hi : 0 ≤ x ∧ x < (N : Int)) (hN : N < 2147483648) (d : decode S.1 pc = .ok (.aastore, 1)) (ho : o.set i (some (a, oE 3 N (fup f x none))) = o2) (kk : V K S k n (fm o2) L (st) (pc + 1)) : V K S k n (fm o) L (.null :: .int (zI x) :: .ref a :: st) (pc) := by
  obtain ⟨q, h1, h2⟩ := fm_get he
  subst ho
  exact V_aastN q h1 hi hN d (by rw [h2]; exact kk)
theorem VO_castS {a ci idx N : Nat} {fs : List Value} {nm : String} {T : u_T} (i : Nat) (he : o[i]? = some (some (a, .inr (ci, fs)))) (hc : vwCl[ci]? = some (nm, T, N)) (hcl : Cond.classLink S.2.1 idx nm ∈ WA) (d : decode S.1 pc = .ok (.checkcast idx, 3)) (kk : V K S k n (fm o) L (.ref a :: st) (pc + 3)) : V K S k n (fm o) L (.ref a :: st) (pc) := by
  obtain ⟨q, h1, h2⟩ := fm_get he
  exact V_castS q h1 hc hcl d kk
theorem VO_neE {en : Nat → Nat} {a : Nat} {x : vE} (hE : evK K = EN en) (i : Nat) (he : o[i]? = some (some (a, x))) (kk : a ≠ en 5 → V K S k n (fm o) L (st) (pc)) : V K S k n (fm o) L (st) (pc) := by
  obtain ⟨q, h1, h2⟩ := fm_get he
  exact V_neE hE q h1 kk
theorem VO_new {C0 : String} {T : u_T} {N ci idx : Nat} {fs : List Value} (i : Nat) (hin : ∀ w ∈ u_ws C0 T N, w ∈ WA) (ty0 : Nat → FieldType) (hty : ∀ k, k < N → parseFieldDescriptor (T k).2.2.1 = some (ty0 k)) (hcl : Cond.classLink S.2.1 idx C0 ∈ WA) (hinst : Cond.instantiable C0 N ∈ WA) (hini : Cond.initialized C0 ∈ WA) (hc : vwCl[ci]? = some (C0, T, N)) (hfs : ∀ j, j < N → defaultValue (ty0 j) = vp_V fs j) (he : o[i]? = some none) (hroom : k + 1 ≤ S.2.2.2.2.cells ∧ n + N ≤ S.2.2.2.2.slots) (d : decode S.1 pc = .ok (.new idx, 3)) (kk : ∀ q : Nat, V K S (k + 1) (n + N) (fm (o.set i (some (q, .inr (ci, fs))))) L (.ref q :: st) (pc + 3)) : V K S k n (fm o) L (st) (pc) := by
  exact V_new hin ty0 hty hcl hinst hini hc hfs hroom d (fun q => V_Perm (fm_push _ he) (kk q))
theorem VO_newq {en : Nat → Nat} {z : Int} {N idx : Nat} (i : Nat) (hE : evK K = EN en) (hcl : Cond.classLink S.2.1 idx "java/lang/Object" ∈ WA) (hz : z = (N : Int)) (hN : N < 100000) (he : o[i]? = some none) (hroom : k + 1 ≤ S.2.2.2.2.cells ∧ n + N ≤ S.2.2.2.2.slots) (d : decode S.1 pc = .ok (.anewarray idx, 3)) (kk : ∀ q : Nat, V K S (k + 1) (n + N) (fm (o.set i (some (q, oE 3 N (fun _ => none))))) L (.ref q :: st) (pc + 3)) : V K S k n (fm o) L (.int (zI z) :: st) (pc) := by
  exact V_newq hE hcl hz hN hroom d (fun q => V_Perm (fm_push _ he) (kk q))
end VO
def lsz (κ : St) (i : Int) : Int := if i = 4 then κ 0 2 else κ 4 i
def lA (c : Nat → Nat) (κ : St) (i : Int) : Int → Option Nat := fun j => if 0 ≤ j ∧ j < lsz κ i then some (c (if i = 4 then 33 + 8 * j.toNat else 37 + 8 * i.toNat + j.toNat)) else none
def kA (c : Nat → Nat) (m : Int) : Int → Option Nat := fun j => if 0 ≤ j ∧ j < 4 then some (c (20 + 6 * m.toNat + j.toNat)) else none
def kL (m : Int) : Nat := if m = 0 then 64 else 701
def cwF (c : Nat → Nat) (κ : St) : List Value := [.ref (c 1), .ref (c 2), .ref (c 12), .ref (c 66), .ref (c 18), .ref (c 24), .ref (c 30), .int (zI (κ 0 11)), .int (zI (κ 0 12))]
def prF (c : Nat → Nat) (κ : St) : List Value := [.ref (c 67), .int (zI (κ 0 0)), .int (zI (κ 0 1)), .int (zI (κ 49 0))]
def wkF (c : Nat → Nat) (κ : St) : List Value := [.ref (c 3), .ref (c 4), .ref (c 5), .ref (c 6), .ref (c 7), .ref (c 8), .ref (c 9), .ref (c 10), .ref (c 11), .int (zI (κ 50 0))]
def dfF (c : Nat → Nat) (κ : St) : List Value := [.ref (c 13), .ref (c 14), .ref (c 15), .ref (c 16), .int (zI (κ 64 0)), .int (zI (κ 64 1)), .int (zI (κ 64 2))]
def bsF (κ : St) : List Value := [.int (zI (κ 78 0)), .int (zI (κ 78 1)), .int (zI (κ 78 2)), .int (zI (κ 78 3))]
def wnF (en : Nat → Nat) (κ : St) (i : Int) : List Value := [.ref (en (κ 39 i).toNat), .int (zI (κ 40 i)), .int (zI (κ 41 i)), .int (zI (κ 42 i)), .int (zI (κ 43 i))]
def smF (c : Nat → Nat) (κ : St) (i : Int) : List Value := [.int (zI (κ 3 i)), .ref (c (35 + 8 * i.toNat)), .ref (c (34 + 8 * i.toNat)), .int (zI (κ 10 i)), .int (zI (κ 9 i))]
def rdF (κ : St) (i j : Int) : List Value := [.int (zI (κ 5 (4 * i + j))), .int (zI (κ 6 (4 * i + j))), .int (zI (κ 7 (4 * i + j))), .int (zI (κ 8 (4 * i + j)))]
def mcF (c : Nat → Nat) (m : Int) : List Value := [.int (zI m), .ref (c (19 + 6 * m.toNat))]
def alF (en c : Nat → Nat) (κ : St) (i : Int) : List Value := [.int (zI (κ 79 i)), .ref (if κ 80 i = 0 then en 5 else c (36 + 8 * i.toNat)), .int (zI (lsz κ i))]
def cO (en c : Nat → Nat) (κ : St) : oW := [some (c 0, .inr (9, cwF c κ)),
  some (c 1, .inr (4, prF c κ)),
  some (c 2, .inr (8, wkF c κ)),
  some (c 3, iE 0 256 (κ 51)),
  some (c 4, iE 0 256 (κ 52)),
  some (c 5, iE 0 256 (κ 53)),
  some (c 6, iE 0 256 (κ 54)),
  some (c 7, iE 0 256 (κ 55)),
  some (c 8, iE 0 256 (κ 56)),
  some (c 9, iE 0 256 (κ 57)),
  some (c 10, iE 0 158 (κ 58)),
  some (c 11, iE 0 258 (κ 59)),
  some (c 12, .inr (2, dfF c κ)),
  some (c 13, iE 1 225 (κ 60)),
  some (c 14, iE 0 225 (κ 61)),
  some (c 15, iE 0 225 (κ 62)),
  some (c 16, iE 1 64 (κ 63)),
  none,
  some (c 18, .inr (3, mcF c 0)),
  some (c 19, oE 4 4 (kA c 0)),
  some (c 20, iE 0 64 (κ 70)),
  some (c 21, iE 0 64 (κ 71)),
  some (c 22, iE 0 64 (κ 72)),
  some (c 23, iE 0 64 (κ 73)),
  some (c 24, .inr (3, mcF c 1)),
  some (c 25, oE 4 4 (kA c 1)),
  some (c 26, iE 0 701 (κ 74)),
  some (c 27, iE 0 701 (κ 75)),
  some (c 28, iE 0 701 (κ 76)),
  some (c 29, iE 0 701 (κ 77)),
  some (c 30, .inr (1, bsF κ)),
  none,
  none,
  if 0 < κ 0 2 then some (c 33, .inr (6, smF c κ 0)) else none,
  if 0 < κ 0 2 then some (c 34, .inr (7, wnF en κ 0)) else none,
  if 0 < κ 0 2 then some (c 35, .inr (0, alF en c κ 0)) else none,
  if 0 < κ 0 2 ∧ κ 80 0 ≠ 0 then some (c 36, oE 3 10 (lA c κ 0)) else none,
  if 0 < κ 0 2 ∧ 0 < κ 4 0 then some (c 37, .inr (5, rdF κ 0 0)) else none,
  if 0 < κ 0 2 ∧ 1 < κ 4 0 then some (c 38, .inr (5, rdF κ 0 1)) else none,
  if 0 < κ 0 2 ∧ 2 < κ 4 0 then some (c 39, .inr (5, rdF κ 0 2)) else none,
  if 0 < κ 0 2 ∧ 3 < κ 4 0 then some (c 40, .inr (5, rdF κ 0 3)) else none,
  if 1 < κ 0 2 then some (c 41, .inr (6, smF c κ 1)) else none,
  if 1 < κ 0 2 then some (c 42, .inr (7, wnF en κ 1)) else none,
  if 1 < κ 0 2 then some (c 43, .inr (0, alF en c κ 1)) else none,
  if 1 < κ 0 2 ∧ κ 80 1 ≠ 0 then some (c 44, oE 3 10 (lA c κ 1)) else none,
  if 1 < κ 0 2 ∧ 0 < κ 4 1 then some (c 45, .inr (5, rdF κ 1 0)) else none,
  if 1 < κ 0 2 ∧ 1 < κ 4 1 then some (c 46, .inr (5, rdF κ 1 1)) else none,
  if 1 < κ 0 2 ∧ 2 < κ 4 1 then some (c 47, .inr (5, rdF κ 1 2)) else none,
  if 1 < κ 0 2 ∧ 3 < κ 4 1 then some (c 48, .inr (5, rdF κ 1 3)) else none,
  if 2 < κ 0 2 then some (c 49, .inr (6, smF c κ 2)) else none,
  if 2 < κ 0 2 then some (c 50, .inr (7, wnF en κ 2)) else none,
  if 2 < κ 0 2 then some (c 51, .inr (0, alF en c κ 2)) else none,
  if 2 < κ 0 2 ∧ κ 80 2 ≠ 0 then some (c 52, oE 3 10 (lA c κ 2)) else none,
  if 2 < κ 0 2 ∧ 0 < κ 4 2 then some (c 53, .inr (5, rdF κ 2 0)) else none,
  if 2 < κ 0 2 ∧ 1 < κ 4 2 then some (c 54, .inr (5, rdF κ 2 1)) else none,
  if 2 < κ 0 2 ∧ 2 < κ 4 2 then some (c 55, .inr (5, rdF κ 2 2)) else none,
  if 2 < κ 0 2 ∧ 3 < κ 4 2 then some (c 56, .inr (5, rdF κ 2 3)) else none,
  if 3 < κ 0 2 then some (c 57, .inr (6, smF c κ 3)) else none,
  if 3 < κ 0 2 then some (c 58, .inr (7, wnF en κ 3)) else none,
  if 3 < κ 0 2 then some (c 59, .inr (0, alF en c κ 3)) else none,
  if 3 < κ 0 2 ∧ κ 80 3 ≠ 0 then some (c 60, oE 3 10 (lA c κ 3)) else none,
  if 3 < κ 0 2 ∧ 0 < κ 4 3 then some (c 61, .inr (5, rdF κ 3 0)) else none,
  if 3 < κ 0 2 ∧ 1 < κ 4 3 then some (c 62, .inr (5, rdF κ 3 1)) else none,
  if 3 < κ 0 2 ∧ 2 < κ 4 3 then some (c 63, .inr (5, rdF κ 3 2)) else none,
  if 3 < κ 0 2 ∧ 3 < κ 4 3 then some (c 64, .inr (5, rdF κ 3 3)) else none,
  none,
  some (c 66, .inr (7, wnF en κ 4)),
  some (c 67, .inr (0, alF en c κ 4)),
  if κ 80 4 ≠ 0 then some (c 68, oE 3 10 (lA c κ 4)) else none]
theorem at_cw {en c : Nat → Nat} {κ : St}   : (cO en c κ)[0]? = some (some (c (0), .inr (9, cwF c κ))) := rfl
theorem at_pr {en c : Nat → Nat} {κ : St}   : (cO en c κ)[1]? = some (some (c (1), .inr (4, prF c κ))) := rfl
theorem at_wk {en c : Nat → Nat} {κ : St}   : (cO en c κ)[2]? = some (some (c (2), .inr (8, wkF c κ))) := rfl
theorem at_df {en c : Nat → Nat} {κ : St}   : (cO en c κ)[12]? = some (some (c (12), .inr (2, dfF c κ))) := rfl
theorem at_bs {en c : Nat → Nat} {κ : St}  : (cO en c κ)[30]? = some (some (c (30), .inr (1, bsF κ))) := rfl
theorem at_wn {en c : Nat → Nat} {κ : St}   {i : Int} (h : (0 ≤ i ∧ i ≤ 4) ∧ (i = 4 ∨ i < κ 0 2)) : (cO en c κ)[34 + 8 * i.toNat]? = some (some (c (34 + 8 * i.toNat), .inr (7, wnF en κ i))) := by
  obtain ⟨h1, h2⟩ := h
  obtain rfl | rfl | rfl | rfl | rfl : i = 0 ∨ i = 1 ∨ i = 2 ∨ i = 3 ∨ i = 4 := (by omega)
  · exact congrArg some (if_pos (by omega))
  · exact congrArg some (if_pos (by omega))
  · exact congrArg some (if_pos (by omega))
  · exact congrArg some (if_pos (by omega))
  · rfl
theorem at_sm {en c : Nat → Nat} {κ : St}   {i : Int} (h : (0 ≤ i ∧ i < 4) ∧ i < κ 0 2) : (cO en c κ)[33 + 8 * i.toNat]? = some (some (c (33 + 8 * i.toNat), .inr (6, smF c κ i))) := by
  obtain ⟨h1, h2⟩ := h
  obtain rfl | rfl | rfl | rfl : i = 0 ∨ i = 1 ∨ i = 2 ∨ i = 3 := (by omega)
  · exact congrArg some (if_pos (by omega))
  · exact congrArg some (if_pos (by omega))
  · exact congrArg some (if_pos (by omega))
  · exact congrArg some (if_pos (by omega))
theorem at_rd {en c : Nat → Nat} {κ : St}  {i j : Int} (h : (0 ≤ i ∧ i < 4) ∧ (0 ≤ j ∧ j < 4) ∧ i < κ 0 2 ∧ j < κ 4 i) : (cO en c κ)[37 + 8 * i.toNat + j.toNat]? = some (some (c (37 + 8 * i.toNat + j.toNat), .inr (5, rdF κ i j))) := by
  obtain ⟨h1, h2, h3, h4⟩ := h
  obtain rfl | rfl | rfl | rfl : i = 0 ∨ i = 1 ∨ i = 2 ∨ i = 3 := (by omega) <;> (obtain rfl | rfl | rfl | rfl : j = 0 ∨ j = 1 ∨ j = 2 ∨ j = 3 := (by omega)) <;> exact congrArg some (if_pos ⟨by omega, by omega⟩)
theorem at_mc {en c : Nat → Nat} {κ : St}  {m : Int} (h : 0 ≤ m ∧ m ≤ 1) : (cO en c κ)[18 + 6 * m.toNat]? = some (some (c (18 + 6 * m.toNat), .inr (3, mcF c m))) := by
  obtain rfl | rfl : m = 0 ∨ m = 1 := (by omega) <;> rfl
theorem at_al {en c : Nat → Nat} {κ : St}   {i : Int} (h : (0 ≤ i ∧ i ≤ 4) ∧ (i = 4 ∨ i < κ 0 2)) : (cO en c κ)[35 + 8 * i.toNat]? = some (some (c (35 + 8 * i.toNat), .inr (0, alF en c κ i))) := by
  obtain ⟨h1, h2⟩ := h
  obtain rfl | rfl | rfl | rfl | rfl : i = 0 ∨ i = 1 ∨ i = 2 ∨ i = 3 ∨ i = 4 := (by omega)
  · exact congrArg some (if_pos (by omega))
  · exact congrArg some (if_pos (by omega))
  · exact congrArg some (if_pos (by omega))
  · exact congrArg some (if_pos (by omega))
  · rfl
theorem at_la {en c : Nat → Nat} {κ : St} {i : Int} (h : (0 ≤ i ∧ i ≤ 4) ∧ (i = 4 ∨ i < κ 0 2)) (h0 : κ 80 i ≠ 0) : (cO en c κ)[36 + 8 * i.toNat]? = some (some (c (36 + 8 * i.toNat), oE 3 10 (lA c κ i))) := by
  obtain ⟨h1, h2⟩ := h
  obtain rfl | rfl | rfl | rfl | rfl : i = 0 ∨ i = 1 ∨ i = 2 ∨ i = 3 ∨ i = 4 := (by omega)
  · exact congrArg some (if_pos ⟨by omega, h0⟩)
  · exact congrArg some (if_pos ⟨by omega, h0⟩)
  · exact congrArg some (if_pos ⟨by omega, h0⟩)
  · exact congrArg some (if_pos ⟨by omega, h0⟩)
  · exact congrArg some (if_pos h0)
theorem at_ka {en c : Nat → Nat} {κ : St} {m : Int} (h : 0 ≤ m ∧ m ≤ 1) : (cO en c κ)[19 + 6 * m.toNat]? = some (some (c (19 + 6 * m.toNat), oE 4 4 (kA c m))) := by
  obtain rfl | rfl : m = 0 ∨ m = 1 := (by omega) <;> rfl
theorem at_kr {en c : Nat → Nat} {κ : St} {m j : Int} (h : (0 ≤ m ∧ m ≤ 1) ∧ 0 ≤ j ∧ j < 4) : (cO en c κ)[20 + 6 * m.toNat + j.toNat]? = some (some (c (20 + 6 * m.toNat + j.toNat), iE 0 (kL m) (κ (70 + 4 * m.toNat + j.toNat)))) := by
  obtain ⟨h1, h2⟩ := h
  obtain rfl | rfl : m = 0 ∨ m = 1 := (by omega) <;> (obtain rfl | rfl | rfl | rfl : j = 0 ∨ j = 1 ∨ j = 2 ∨ j = 3 := (by omega)) <;> rfl
theorem at_wk_number {en c : Nat → Nat} {κ : St} : (cO en c κ)[3]? = some (some (c 3, iE 0 256 (κ 51))) := rfl
theorem at_wk_row {en c : Nat → Nat} {κ : St} : (cO en c κ)[4]? = some (some (c 4, iE 0 256 (κ 52))) := rfl
theorem at_wk_column {en c : Nat → Nat} {κ : St} : (cO en c κ)[5]? = some (some (c 5, iE 0 256 (κ 53))) := rfl
theorem at_wk_birth {en c : Nat → Nat} {κ : St} : (cO en c κ)[6]? = some (some (c 6, iE 0 256 (κ 54))) := rfl
theorem at_wk_end {en c : Nat → Nat} {κ : St} : (cO en c κ)[7]? = some (some (c 7, iE 0 256 (κ 55))) := rfl
theorem at_wk_cellAt {en c : Nat → Nat} {κ : St} : (cO en c κ)[8]? = some (some (c 8, iE 0 256 (κ 56))) := rfl
theorem at_wk_time {en c : Nat → Nat} {κ : St} : (cO en c κ)[9]? = some (some (c 9, iE 0 256 (κ 57))) := rfl
theorem at_wk_nextStep {en c : Nat → Nat} {κ : St} : (cO en c κ)[10]? = some (some (c 10, iE 0 158 (κ 58))) := rfl
theorem at_wk_change {en c : Nat → Nat} {κ : St} : (cO en c κ)[11]? = some (some (c 11, iE 0 258 (κ 59))) := rfl
theorem at_df_known {en c : Nat → Nat} {κ : St} : (cO en c κ)[13]? = some (some (c 13, iE 1 225 (κ 60))) := rfl
theorem at_df_rowDifference {en c : Nat → Nat} {κ : St} : (cO en c κ)[14]? = some (some (c 14, iE 0 225 (κ 61))) := rfl
theorem at_df_columnDifference {en c : Nat → Nat} {κ : St} : (cO en c κ)[15]? = some (some (c 15, iE 0 225 (κ 62))) := rfl
theorem at_df_inLine {en c : Nat → Nat} {κ : St} : (cO en c κ)[16]? = some (some (c 16, iE 1 64 (κ 63))) := rfl
theorem st_cw_rowWeight {en c : Nat → Nat} {κ : St}   (z : Int) : (cO en c κ).set (0) (some (c (0), .inr (9, (cwF c κ).set 7 (.int (zI z))))) = cO en c (up κ 0 11 z) := by
  exact (rfl : (cO en c κ).set _ _ = (cO en c (up κ 0 11 z)).set _ _).trans (set_self (at_cw (en := en) (c := c) (κ := up κ 0 11 z)))
theorem st_cw_columnWeight {en c : Nat → Nat} {κ : St}   (z : Int) : (cO en c κ).set (0) (some (c (0), .inr (9, (cwF c κ).set 8 (.int (zI z))))) = cO en c (up κ 0 12 z) := by
  exact (rfl : (cO en c κ).set _ _ = (cO en c (up κ 0 12 z)).set _ _).trans (set_self (at_cw (en := en) (c := c) (κ := up κ 0 12 z)))
theorem st_pr_rows {en c : Nat → Nat} {κ : St}   (z : Int) : (cO en c κ).set (1) (some (c (1), .inr (4, (prF c κ).set 1 (.int (zI z))))) = cO en c (up κ 0 0 z) := by
  exact (rfl : (cO en c κ).set _ _ = (cO en c (up κ 0 0 z)).set _ _).trans (set_self (at_pr (en := en) (c := c) (κ := up κ 0 0 z)))
theorem st_pr_columns {en c : Nat → Nat} {κ : St}   (z : Int) : (cO en c κ).set (1) (some (c (1), .inr (4, (prF c κ).set 2 (.int (zI z))))) = cO en c (up κ 0 1 z) := by
  exact (rfl : (cO en c κ).set _ _ = (cO en c (up κ 0 1 z)).set _ _).trans (set_self (at_pr (en := en) (c := c) (κ := up κ 0 1 z)))
theorem st_pr_points {en c : Nat → Nat} {κ : St}   (z : Int) : (cO en c κ).set (1) (some (c (1), .inr (4, (prF c κ).set 3 (.int (zI z))))) = cO en c (up κ 49 0 z) := by
  exact (rfl : (cO en c κ).set _ _ = (cO en c (up κ 49 0 z)).set _ _).trans (set_self (at_pr (en := en) (c := c) (κ := up κ 49 0 z)))
theorem st_wk_cells {en c : Nat → Nat} {κ : St}   (z : Int) : (cO en c κ).set (2) (some (c (2), .inr (8, (wkF c κ).set 9 (.int (zI z))))) = cO en c (up κ 50 0 z) := by
  exact (rfl : (cO en c κ).set _ _ = (cO en c (up κ 50 0 z)).set _ _).trans (set_self (at_wk (en := en) (c := c) (κ := up κ 50 0 z)))
theorem st_df_count {en c : Nat → Nat} {κ : St}   (z : Int) : (cO en c κ).set (12) (some (c (12), .inr (2, (dfF c κ).set 4 (.int (zI z))))) = cO en c (up κ 64 0 z) := by
  exact (rfl : (cO en c κ).set _ _ = (cO en c (up κ 64 0 z)).set _ _).trans (set_self (at_df (en := en) (c := c) (κ := up κ 64 0 z)))
theorem st_df_rows {en c : Nat → Nat} {κ : St}   (z : Int) : (cO en c κ).set (12) (some (c (12), .inr (2, (dfF c κ).set 5 (.int (zI z))))) = cO en c (up κ 64 1 z) := by
  exact (rfl : (cO en c κ).set _ _ = (cO en c (up κ 64 1 z)).set _ _).trans (set_self (at_df (en := en) (c := c) (κ := up κ 64 1 z)))
theorem st_df_columns {en c : Nat → Nat} {κ : St}   (z : Int) : (cO en c κ).set (12) (some (c (12), .inr (2, (dfF c κ).set 6 (.int (zI z))))) = cO en c (up κ 64 2 z) := by
  exact (rfl : (cO en c κ).set _ _ = (cO en c (up κ 64 2 z)).set _ _).trans (set_self (at_df (en := en) (c := c) (κ := up κ 64 2 z)))
theorem st_bs_found {en c : Nat → Nat} {κ : St}  (z : Int) : (cO en c κ).set (30) (some (c (30), .inr (1, (bsF κ).set 0 (.int (zI z))))) = cO en c (up κ 78 0 z) := by
  exact (rfl : (cO en c κ).set _ _ = (cO en c (up κ 78 0 z)).set _ _).trans (set_self (at_bs (en := en) (c := c) (κ := up κ 78 0 z)))
theorem st_bs_rowWeight {en c : Nat → Nat} {κ : St}  (z : Int) : (cO en c κ).set (30) (some (c (30), .inr (1, (bsF κ).set 1 (.int (zI z))))) = cO en c (up κ 78 1 z) := by
  exact (rfl : (cO en c κ).set _ _ = (cO en c (up κ 78 1 z)).set _ _).trans (set_self (at_bs (en := en) (c := c) (κ := up κ 78 1 z)))
theorem st_bs_columnWeight {en c : Nat → Nat} {κ : St}  (z : Int) : (cO en c κ).set (30) (some (c (30), .inr (1, (bsF κ).set 2 (.int (zI z))))) = cO en c (up κ 78 2 z) := by
  exact (rfl : (cO en c κ).set _ _ = (cO en c (up κ 78 2 z)).set _ _).trans (set_self (at_bs (en := en) (c := c) (κ := up κ 78 2 z)))
theorem st_bs_room {en c : Nat → Nat} {κ : St}  (z : Int) : (cO en c κ).set (30) (some (c (30), .inr (1, (bsF κ).set 3 (.int (zI z))))) = cO en c (up κ 78 3 z) := by
  exact (rfl : (cO en c κ).set _ _ = (cO en c (up κ 78 3 z)).set _ _).trans (set_self (at_bs (en := en) (c := c) (κ := up κ 78 3 z)))
theorem st_wn_kind {en c : Nat → Nat} {κ : St}   {i : Int} (z : Nat) (h : (0 ≤ i ∧ i ≤ 4) ∧ (i = 4 ∨ i < κ 0 2)) : (cO en c κ).set (34 + 8 * i.toNat) (some (c (34 + 8 * i.toNat), .inr (7, (wnF en κ i).set 0 (.ref (en z))))) = cO en c (up κ 39 i (z : Int)) := by
  obtain ⟨h1, h2⟩ := h
  obtain rfl | rfl | rfl | rfl | rfl : i = 0 ∨ i = 1 ∨ i = 2 ∨ i = 3 ∨ i = 4 := (by omega)
  · exact (rfl : (cO en c κ).set _ _ = (cO en c (up κ 39 0 (z : Int))).set _ _).trans (set_self (at_wn (en := en) (c := c) (κ := up κ 39 0 (z : Int)) (i := 0) ⟨by omega, by first | exact Or.inl rfl | exact Or.inr (by show 0 < κ 0 2; omega) | (show 0 < κ 0 2; omega)⟩))
  · exact (rfl : (cO en c κ).set _ _ = (cO en c (up κ 39 1 (z : Int))).set _ _).trans (set_self (at_wn (en := en) (c := c) (κ := up κ 39 1 (z : Int)) (i := 1) ⟨by omega, by first | exact Or.inl rfl | exact Or.inr (by show 1 < κ 0 2; omega) | (show 1 < κ 0 2; omega)⟩))
  · exact (rfl : (cO en c κ).set _ _ = (cO en c (up κ 39 2 (z : Int))).set _ _).trans (set_self (at_wn (en := en) (c := c) (κ := up κ 39 2 (z : Int)) (i := 2) ⟨by omega, by first | exact Or.inl rfl | exact Or.inr (by show 2 < κ 0 2; omega) | (show 2 < κ 0 2; omega)⟩))
  · exact (rfl : (cO en c κ).set _ _ = (cO en c (up κ 39 3 (z : Int))).set _ _).trans (set_self (at_wn (en := en) (c := c) (κ := up κ 39 3 (z : Int)) (i := 3) ⟨by omega, by first | exact Or.inl rfl | exact Or.inr (by show 3 < κ 0 2; omega) | (show 3 < κ 0 2; omega)⟩))
  · exact (rfl : (cO en c κ).set _ _ = (cO en c (up κ 39 4 (z : Int))).set _ _).trans (set_self (at_wn (en := en) (c := c) (κ := up κ 39 4 (z : Int)) (i := 4) ⟨by omega, by first | exact Or.inl rfl | exact Or.inr (by show 4 < κ 0 2; omega) | (show 4 < κ 0 2; omega)⟩))
theorem st_wn_modulus {en c : Nat → Nat} {κ : St}   {i : Int} (z : Int) (h : (0 ≤ i ∧ i ≤ 4) ∧ (i = 4 ∨ i < κ 0 2)) : (cO en c κ).set (34 + 8 * i.toNat) (some (c (34 + 8 * i.toNat), .inr (7, (wnF en κ i).set 1 (.int (zI z))))) = cO en c (up κ 40 i z) := by
  obtain ⟨h1, h2⟩ := h
  obtain rfl | rfl | rfl | rfl | rfl : i = 0 ∨ i = 1 ∨ i = 2 ∨ i = 3 ∨ i = 4 := (by omega)
  · exact (rfl : (cO en c κ).set _ _ = (cO en c (up κ 40 0 z)).set _ _).trans (set_self (at_wn (en := en) (c := c) (κ := up κ 40 0 z) (i := 0) ⟨by omega, by first | exact Or.inl rfl | exact Or.inr (by show 0 < κ 0 2; omega) | (show 0 < κ 0 2; omega)⟩))
  · exact (rfl : (cO en c κ).set _ _ = (cO en c (up κ 40 1 z)).set _ _).trans (set_self (at_wn (en := en) (c := c) (κ := up κ 40 1 z) (i := 1) ⟨by omega, by first | exact Or.inl rfl | exact Or.inr (by show 1 < κ 0 2; omega) | (show 1 < κ 0 2; omega)⟩))
  · exact (rfl : (cO en c κ).set _ _ = (cO en c (up κ 40 2 z)).set _ _).trans (set_self (at_wn (en := en) (c := c) (κ := up κ 40 2 z) (i := 2) ⟨by omega, by first | exact Or.inl rfl | exact Or.inr (by show 2 < κ 0 2; omega) | (show 2 < κ 0 2; omega)⟩))
  · exact (rfl : (cO en c κ).set _ _ = (cO en c (up κ 40 3 z)).set _ _).trans (set_self (at_wn (en := en) (c := c) (κ := up κ 40 3 z) (i := 3) ⟨by omega, by first | exact Or.inl rfl | exact Or.inr (by show 3 < κ 0 2; omega) | (show 3 < κ 0 2; omega)⟩))
  · exact (rfl : (cO en c κ).set _ _ = (cO en c (up κ 40 4 z)).set _ _).trans (set_self (at_wn (en := en) (c := c) (κ := up κ 40 4 z) (i := 4) ⟨by omega, by first | exact Or.inl rfl | exact Or.inr (by show 4 < κ 0 2; omega) | (show 4 < κ 0 2; omega)⟩))
theorem st_wn_rowModulus {en c : Nat → Nat} {κ : St}   {i : Int} (z : Int) (h : (0 ≤ i ∧ i ≤ 4) ∧ (i = 4 ∨ i < κ 0 2)) : (cO en c κ).set (34 + 8 * i.toNat) (some (c (34 + 8 * i.toNat), .inr (7, (wnF en κ i).set 2 (.int (zI z))))) = cO en c (up κ 41 i z) := by
  obtain ⟨h1, h2⟩ := h
  obtain rfl | rfl | rfl | rfl | rfl : i = 0 ∨ i = 1 ∨ i = 2 ∨ i = 3 ∨ i = 4 := (by omega)
  · exact (rfl : (cO en c κ).set _ _ = (cO en c (up κ 41 0 z)).set _ _).trans (set_self (at_wn (en := en) (c := c) (κ := up κ 41 0 z) (i := 0) ⟨by omega, by first | exact Or.inl rfl | exact Or.inr (by show 0 < κ 0 2; omega) | (show 0 < κ 0 2; omega)⟩))
  · exact (rfl : (cO en c κ).set _ _ = (cO en c (up κ 41 1 z)).set _ _).trans (set_self (at_wn (en := en) (c := c) (κ := up κ 41 1 z) (i := 1) ⟨by omega, by first | exact Or.inl rfl | exact Or.inr (by show 1 < κ 0 2; omega) | (show 1 < κ 0 2; omega)⟩))
  · exact (rfl : (cO en c κ).set _ _ = (cO en c (up κ 41 2 z)).set _ _).trans (set_self (at_wn (en := en) (c := c) (κ := up κ 41 2 z) (i := 2) ⟨by omega, by first | exact Or.inl rfl | exact Or.inr (by show 2 < κ 0 2; omega) | (show 2 < κ 0 2; omega)⟩))
  · exact (rfl : (cO en c κ).set _ _ = (cO en c (up κ 41 3 z)).set _ _).trans (set_self (at_wn (en := en) (c := c) (κ := up κ 41 3 z) (i := 3) ⟨by omega, by first | exact Or.inl rfl | exact Or.inr (by show 3 < κ 0 2; omega) | (show 3 < κ 0 2; omega)⟩))
  · exact (rfl : (cO en c κ).set _ _ = (cO en c (up κ 41 4 z)).set _ _).trans (set_self (at_wn (en := en) (c := c) (κ := up κ 41 4 z) (i := 4) ⟨by omega, by first | exact Or.inl rfl | exact Or.inr (by show 4 < κ 0 2; omega) | (show 4 < κ 0 2; omega)⟩))
theorem st_wn_columnModulus {en c : Nat → Nat} {κ : St}   {i : Int} (z : Int) (h : (0 ≤ i ∧ i ≤ 4) ∧ (i = 4 ∨ i < κ 0 2)) : (cO en c κ).set (34 + 8 * i.toNat) (some (c (34 + 8 * i.toNat), .inr (7, (wnF en κ i).set 3 (.int (zI z))))) = cO en c (up κ 42 i z) := by
  obtain ⟨h1, h2⟩ := h
  obtain rfl | rfl | rfl | rfl | rfl : i = 0 ∨ i = 1 ∨ i = 2 ∨ i = 3 ∨ i = 4 := (by omega)
  · exact (rfl : (cO en c κ).set _ _ = (cO en c (up κ 42 0 z)).set _ _).trans (set_self (at_wn (en := en) (c := c) (κ := up κ 42 0 z) (i := 0) ⟨by omega, by first | exact Or.inl rfl | exact Or.inr (by show 0 < κ 0 2; omega) | (show 0 < κ 0 2; omega)⟩))
  · exact (rfl : (cO en c κ).set _ _ = (cO en c (up κ 42 1 z)).set _ _).trans (set_self (at_wn (en := en) (c := c) (κ := up κ 42 1 z) (i := 1) ⟨by omega, by first | exact Or.inl rfl | exact Or.inr (by show 1 < κ 0 2; omega) | (show 1 < κ 0 2; omega)⟩))
  · exact (rfl : (cO en c κ).set _ _ = (cO en c (up κ 42 2 z)).set _ _).trans (set_self (at_wn (en := en) (c := c) (κ := up κ 42 2 z) (i := 2) ⟨by omega, by first | exact Or.inl rfl | exact Or.inr (by show 2 < κ 0 2; omega) | (show 2 < κ 0 2; omega)⟩))
  · exact (rfl : (cO en c κ).set _ _ = (cO en c (up κ 42 3 z)).set _ _).trans (set_self (at_wn (en := en) (c := c) (κ := up κ 42 3 z) (i := 3) ⟨by omega, by first | exact Or.inl rfl | exact Or.inr (by show 3 < κ 0 2; omega) | (show 3 < κ 0 2; omega)⟩))
  · exact (rfl : (cO en c κ).set _ _ = (cO en c (up κ 42 4 z)).set _ _).trans (set_self (at_wn (en := en) (c := c) (κ := up κ 42 4 z) (i := 4) ⟨by omega, by first | exact Or.inl rfl | exact Or.inr (by show 4 < κ 0 2; omega) | (show 4 < κ 0 2; omega)⟩))
theorem st_wn_slant {en c : Nat → Nat} {κ : St}   {i : Int} (z : Int) (h : (0 ≤ i ∧ i ≤ 4) ∧ (i = 4 ∨ i < κ 0 2)) : (cO en c κ).set (34 + 8 * i.toNat) (some (c (34 + 8 * i.toNat), .inr (7, (wnF en κ i).set 4 (.int (zI z))))) = cO en c (up κ 43 i z) := by
  obtain ⟨h1, h2⟩ := h
  obtain rfl | rfl | rfl | rfl | rfl : i = 0 ∨ i = 1 ∨ i = 2 ∨ i = 3 ∨ i = 4 := (by omega)
  · exact (rfl : (cO en c κ).set _ _ = (cO en c (up κ 43 0 z)).set _ _).trans (set_self (at_wn (en := en) (c := c) (κ := up κ 43 0 z) (i := 0) ⟨by omega, by first | exact Or.inl rfl | exact Or.inr (by show 0 < κ 0 2; omega) | (show 0 < κ 0 2; omega)⟩))
  · exact (rfl : (cO en c κ).set _ _ = (cO en c (up κ 43 1 z)).set _ _).trans (set_self (at_wn (en := en) (c := c) (κ := up κ 43 1 z) (i := 1) ⟨by omega, by first | exact Or.inl rfl | exact Or.inr (by show 1 < κ 0 2; omega) | (show 1 < κ 0 2; omega)⟩))
  · exact (rfl : (cO en c κ).set _ _ = (cO en c (up κ 43 2 z)).set _ _).trans (set_self (at_wn (en := en) (c := c) (κ := up κ 43 2 z) (i := 2) ⟨by omega, by first | exact Or.inl rfl | exact Or.inr (by show 2 < κ 0 2; omega) | (show 2 < κ 0 2; omega)⟩))
  · exact (rfl : (cO en c κ).set _ _ = (cO en c (up κ 43 3 z)).set _ _).trans (set_self (at_wn (en := en) (c := c) (κ := up κ 43 3 z) (i := 3) ⟨by omega, by first | exact Or.inl rfl | exact Or.inr (by show 3 < κ 0 2; omega) | (show 3 < κ 0 2; omega)⟩))
  · exact (rfl : (cO en c κ).set _ _ = (cO en c (up κ 43 4 z)).set _ _).trans (set_self (at_wn (en := en) (c := c) (κ := up κ 43 4 z) (i := 4) ⟨by omega, by first | exact Or.inl rfl | exact Or.inr (by show 4 < κ 0 2; omega) | (show 4 < κ 0 2; omega)⟩))
theorem st_sm_offset {en c : Nat → Nat} {κ : St}   {i : Int} (z : Int) (h : (0 ≤ i ∧ i < 4) ∧ i < κ 0 2) : (cO en c κ).set (33 + 8 * i.toNat) (some (c (33 + 8 * i.toNat), .inr (6, (smF c κ i).set 3 (.int (zI z))))) = cO en c (up κ 10 i z) := by
  obtain ⟨h1, h2⟩ := h
  obtain rfl | rfl | rfl | rfl : i = 0 ∨ i = 1 ∨ i = 2 ∨ i = 3 := (by omega)
  · exact (rfl : (cO en c κ).set _ _ = (cO en c (up κ 10 0 z)).set _ _).trans (set_self (at_sm (en := en) (c := c) (κ := up κ 10 0 z) (i := 0) ⟨by omega, by first | exact Or.inl rfl | exact Or.inr (by show 0 < κ 0 2; omega) | (show 0 < κ 0 2; omega)⟩))
  · exact (rfl : (cO en c κ).set _ _ = (cO en c (up κ 10 1 z)).set _ _).trans (set_self (at_sm (en := en) (c := c) (κ := up κ 10 1 z) (i := 1) ⟨by omega, by first | exact Or.inl rfl | exact Or.inr (by show 1 < κ 0 2; omega) | (show 1 < κ 0 2; omega)⟩))
  · exact (rfl : (cO en c κ).set _ _ = (cO en c (up κ 10 2 z)).set _ _).trans (set_self (at_sm (en := en) (c := c) (κ := up κ 10 2 z) (i := 2) ⟨by omega, by first | exact Or.inl rfl | exact Or.inr (by show 2 < κ 0 2; omega) | (show 2 < κ 0 2; omega)⟩))
  · exact (rfl : (cO en c κ).set _ _ = (cO en c (up κ 10 3 z)).set _ _).trans (set_self (at_sm (en := en) (c := c) (κ := up κ 10 3 z) (i := 3) ⟨by omega, by first | exact Or.inl rfl | exact Or.inr (by show 3 < κ 0 2; omega) | (show 3 < κ 0 2; omega)⟩))
theorem st_sm_lasting {en c : Nat → Nat} {κ : St}   {i : Int} (z : Int) (h : (0 ≤ i ∧ i < 4) ∧ i < κ 0 2) : (cO en c κ).set (33 + 8 * i.toNat) (some (c (33 + 8 * i.toNat), .inr (6, (smF c κ i).set 4 (.int (zI z))))) = cO en c (up κ 9 i z) := by
  obtain ⟨h1, h2⟩ := h
  obtain rfl | rfl | rfl | rfl : i = 0 ∨ i = 1 ∨ i = 2 ∨ i = 3 := (by omega)
  · exact (rfl : (cO en c κ).set _ _ = (cO en c (up κ 9 0 z)).set _ _).trans (set_self (at_sm (en := en) (c := c) (κ := up κ 9 0 z) (i := 0) ⟨by omega, by first | exact Or.inl rfl | exact Or.inr (by show 0 < κ 0 2; omega) | (show 0 < κ 0 2; omega)⟩))
  · exact (rfl : (cO en c κ).set _ _ = (cO en c (up κ 9 1 z)).set _ _).trans (set_self (at_sm (en := en) (c := c) (κ := up κ 9 1 z) (i := 1) ⟨by omega, by first | exact Or.inl rfl | exact Or.inr (by show 1 < κ 0 2; omega) | (show 1 < κ 0 2; omega)⟩))
  · exact (rfl : (cO en c κ).set _ _ = (cO en c (up κ 9 2 z)).set _ _).trans (set_self (at_sm (en := en) (c := c) (κ := up κ 9 2 z) (i := 2) ⟨by omega, by first | exact Or.inl rfl | exact Or.inr (by show 2 < κ 0 2; omega) | (show 2 < κ 0 2; omega)⟩))
  · exact (rfl : (cO en c κ).set _ _ = (cO en c (up κ 9 3 z)).set _ _).trans (set_self (at_sm (en := en) (c := c) (κ := up κ 9 3 z) (i := 3) ⟨by omega, by first | exact Or.inl rfl | exact Or.inr (by show 3 < κ 0 2; omega) | (show 3 < κ 0 2; omega)⟩))
theorem st_wk_number {en c : Nat → Nat} {κ : St} (i v : Int) : (cO en c κ).set 3 (some (c 3, iE 0 256 (fup (κ 51) i v))) = cO en c (up κ 51 i v) := rfl
theorem st_wk_row {en c : Nat → Nat} {κ : St} (i v : Int) : (cO en c κ).set 4 (some (c 4, iE 0 256 (fup (κ 52) i v))) = cO en c (up κ 52 i v) := rfl
theorem st_wk_column {en c : Nat → Nat} {κ : St} (i v : Int) : (cO en c κ).set 5 (some (c 5, iE 0 256 (fup (κ 53) i v))) = cO en c (up κ 53 i v) := rfl
theorem st_wk_birth {en c : Nat → Nat} {κ : St} (i v : Int) : (cO en c κ).set 6 (some (c 6, iE 0 256 (fup (κ 54) i v))) = cO en c (up κ 54 i v) := rfl
theorem st_wk_end {en c : Nat → Nat} {κ : St} (i v : Int) : (cO en c κ).set 7 (some (c 7, iE 0 256 (fup (κ 55) i v))) = cO en c (up κ 55 i v) := rfl
theorem st_wk_cellAt {en c : Nat → Nat} {κ : St} (i v : Int) : (cO en c κ).set 8 (some (c 8, iE 0 256 (fup (κ 56) i v))) = cO en c (up κ 56 i v) := rfl
theorem st_wk_time {en c : Nat → Nat} {κ : St} (i v : Int) : (cO en c κ).set 9 (some (c 9, iE 0 256 (fup (κ 57) i v))) = cO en c (up κ 57 i v) := rfl
theorem st_wk_nextStep {en c : Nat → Nat} {κ : St} (i v : Int) : (cO en c κ).set 10 (some (c 10, iE 0 158 (fup (κ 58) i v))) = cO en c (up κ 58 i v) := rfl
theorem st_wk_change {en c : Nat → Nat} {κ : St} (i v : Int) : (cO en c κ).set 11 (some (c 11, iE 0 258 (fup (κ 59) i v))) = cO en c (up κ 59 i v) := rfl
theorem st_df_known {en c : Nat → Nat} {κ : St} (i v : Int) : (cO en c κ).set 13 (some (c 13, iE 1 225 (fup (κ 60) i v))) = cO en c (up κ 60 i v) := rfl
theorem st_df_rowDifference {en c : Nat → Nat} {κ : St} (i v : Int) : (cO en c κ).set 14 (some (c 14, iE 0 225 (fup (κ 61) i v))) = cO en c (up κ 61 i v) := rfl
theorem st_df_columnDifference {en c : Nat → Nat} {κ : St} (i v : Int) : (cO en c κ).set 15 (some (c 15, iE 0 225 (fup (κ 62) i v))) = cO en c (up κ 62 i v) := rfl
theorem st_df_inLine {en c : Nat → Nat} {κ : St} (i v : Int) : (cO en c κ).set 16 (some (c 16, iE 1 64 (fup (κ 63) i v))) = cO en c (up κ 63 i v) := rfl
theorem st_kr {en c : Nat → Nat} {κ : St} {m j : Int} (i v : Int) (h : (0 ≤ m ∧ m ≤ 1) ∧ 0 ≤ j ∧ j < 4) : (cO en c κ).set (20 + 6 * m.toNat + j.toNat) (some (c (20 + 6 * m.toNat + j.toNat), iE 0 (kL m) (fup (κ (70 + 4 * m.toNat + j.toNat)) i v))) = cO en c (up κ (70 + 4 * m.toNat + j.toNat) i v) := by
  obtain ⟨h1, h2⟩ := h
  obtain rfl | rfl : m = 0 ∨ m = 1 := (by omega) <;> (obtain rfl | rfl | rfl | rfl : j = 0 ∨ j = 1 ∨ j = 2 ∨ j = 3 := (by omega)) <;> rfl
