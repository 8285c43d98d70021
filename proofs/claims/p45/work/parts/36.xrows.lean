/-! further rows of V: nest mates, new objects and arrays, arrays of references, statics, casts -/
def rA (f : Int → Option Nat) : Nat → Option Nat := fun j => f (j : Int)
theorem rA_up (f : Int → Option Nat) {i : Int} (v : Option Nat) (h0 : 0 ≤ i) (h1 : i < 2147483648) : va_up (rA f) (zI i).toNatClampNeg v = rA (fup f i v) := by
  funext j
  rw [zI_cl h0 h1]
  unfold va_up rA fup
  by_cases h : j = i.toNat
  · rw [if_pos h, if_pos (by omega)]
  · rw [if_neg h, if_neg (by omega)]
theorem rA_get (f : Int → Option Nat) {i : Int} (h0 : 0 ≤ i) (h1 : i < 2147483648) : rA f (zI i).toNatClampNeg = f i := by
  rw [zI_cl h0 h1]
  unfold rA
  rw [Int.toNat_of_nonneg h0]
abbrev oE (t n : Nat) (f : Int → Option Nat) : vE := .inl (t, n, .inr (.inr (.inr (.inr (rA f)))))
abbrev iE (t n : Nat) (f : Int → Int) : vE := .inl (t, n, .inl (zA f))
theorem tw_push {cA : Nat → ClassId} {ws : vWd} {q : Nat × vE} : tw cA ws ++ [twE cA q] = tw cA (ws ++ [q]) := by rw [tw_app]; rfl
theorem same_rfl {s : State} {a n d : String} : ∀ x, s.fieldFound? a n d = some x → s.fieldFound? a n d = some x := fun _ h => h
section VX
variable {K : KT} {S : SI} {k n : Nat} {ws : vWd} {L : List (Option Value)} {st : List Value} {pc : Nat}
theorem V_getN {en : Nat → Nat} {C0 host : String} {T : u_T} {N ci idx a : Nat} {fs : List Value} {v : Value} (hE : evK K = EN en) (q0 j : Nat) (hin : ∀ w ∈ u_ws C0 T N, w ∈ WA) (hj : j < N) (hlink : Cond.fieldLinkNest S.2.1 idx (T j).1 (T j).2.1 (T j).2.2.1 host ∈ WN) (hc : vwCl[ci]? = some (C0, T, N)) (he : ws[q0]? = some (a, .inr (ci, fs))) (hv : fs[j]? = some v) (d : decode S.1 pc = .ok (.getfield idx, 3)) (kk : V K S k n ws L (v :: st) (pc + 3)) : V K S k n ws L (.ref a :: st) (pc) := by
  obtain ⟨p, l, e, s, m, args, below, meth, c, D, cA, A, Q, E⟩ := K
  intro C H locs ls hP hD hS hl
  have hE' : E = EN en := hE
  subst hE'
  have hN := C.2.2.2.2.2.2.2.2.2.2.2
  exact va_getN (Ts := WA) C.1 C.2.1 C.2.2.2.2.1 hin C.2.2.2.1 C.2.2.2.2.2.1 hP q0 (tw_get he) hc j hj (va_Nw.use rfl (hN.1 _ hlink)) same_rfl hv d (kk C H locs ls hP hD hS hl)
theorem V_putN {en : Nat → Nat} {C0 host : String} {T : u_T} {N ci idx a : Nat} {fs : List Value} {v : Value} (hE : evK K = EN en) (q0 j : Nat) (hin : ∀ w ∈ u_ws C0 T N, w ∈ WA) (hj : j < N) (hlink : Cond.fieldLinkNest S.2.1 idx (T j).1 (T j).2.1 (T j).2.2.1 host ∈ WN) (ty0 : Nat → FieldType) (hty : ∀ k, k < N → parseFieldDescriptor (T k).2.2.1 = some (ty0 k)) (hnm : ∀ a, a < N → ∀ b, b < N → a ≠ b → (T a).2.1 ≠ (T b).2.1) (hfin : (T j).2.2.2 = false) (hc : vwCl[ci]? = some (C0, T, N)) (he : ws[q0]? = some (a, .inr (ci, fs))) (hl0 : j < fs.length) (hn : narrow (ty0 j) v = v) (hfit : fits (ty0 j) v = true) (d : decode S.1 pc = .ok (.putfield idx, 3)) (kk : V K S k n (ws.set q0 (a, .inr (ci, fs.set j v))) L (st) (pc + 3)) : V K S k n ws L (v :: .ref a :: st) (pc) := by
  obtain ⟨p, l, e, s, m, args, below, meth, c, D, cA, A, Q, E⟩ := K
  intro C H locs ls hP hD hS hl
  have hE' : E = EN en := hE
  subst hE'
  have hN := C.2.2.2.2.2.2.2.2.2.2.2
  refine va_putN (Ts := WA) C.1 C.2.1 C.2.2.2.2.1 hin ty0 hty hnm C.2.2.2.1 C.2.2.2.2.2.1 hP hD hS q0 (tw_get he) hc j hj (va_Nw.use rfl (hN.1 _ hlink)) same_rfl hfin (hty j hj) hn hfit hl0 d (fun H1 locs1 hP1 hD1 hS1 => kk C H1 locs1 ls ?_ ?_ hS1 hl)
  · rw [← tw_set]; exact hP1
  · rw [← tw_set]; exact hD1
def isInit (K : KT) : Prop := K.2.2.2.2.2.2.2.1.name = "<init>"
theorem V_putF {C0 : String} {T : u_T} {N ci idx a : Nat} {fs : List Value} {v : Value} (hI : isInit K) (q0 j : Nat) (hin : ∀ w ∈ u_ws C0 T N, w ∈ WA) (hj : j < N) (hlink : Cond.fieldLink S.2.1 idx (T j).1 (T j).2.1 (T j).2.2.1 ∈ WA) (hown : (T j).1 = S.2.1) (ty0 : Nat → FieldType) (hty : ∀ k, k < N → parseFieldDescriptor (T k).2.2.1 = some (ty0 k)) (hnm : ∀ a, a < N → ∀ b, b < N → a ≠ b → (T a).2.1 ≠ (T b).2.1) (hfin : (T j).2.2.2 = true) (hc : vwCl[ci]? = some (C0, T, N)) (he : ws[q0]? = some (a, .inr (ci, fs))) (hl0 : j < fs.length) (hn : narrow (ty0 j) v = v) (hfit : fits (ty0 j) v = true) (d : decode S.1 pc = .ok (.putfield idx, 3)) (kk : V K S k n (ws.set q0 (a, .inr (ci, fs.set j v))) L (st) (pc + 3)) : V K S k n ws L (v :: .ref a :: st) (pc) := by
  obtain ⟨p, l, e, s, m, args, below, meth, c, D, cA, A, Q, E⟩ := K
  intro C H locs ls hP hD hS hl
  refine va_putF (Ts := WA) C.1 C.2.1 C.2.2.2.2.1 hin ty0 hty hnm C.2.2.2.1 C.2.2.2.2.2.1 hP hD hS q0 (tw_get he) hc j hj (C.2.2.2.2.1 _ hlink) same_rfl hfin hI hown (hty j hj) hn hfit hl0 d (fun H1 locs1 hP1 hD1 hS1 => kk C H1 locs1 ls ?_ ?_ hS1 hl)
  · rw [← tw_set]; exact hP1
  · rw [← tw_set]; exact hD1
theorem V_new {C0 : String} {T : u_T} {N ci idx : Nat} {fs : List Value} (hin : ∀ w ∈ u_ws C0 T N, w ∈ WA) (ty0 : Nat → FieldType) (hty : ∀ k, k < N → parseFieldDescriptor (T k).2.2.1 = some (ty0 k)) (hcl : Cond.classLink S.2.1 idx C0 ∈ WA) (hinst : Cond.instantiable C0 N ∈ WA) (hini : Cond.initialized C0 ∈ WA) (hc : vwCl[ci]? = some (C0, T, N)) (hfs : ∀ j, j < N → defaultValue (ty0 j) = vp_V fs j) (hroom : k + 1 ≤ S.2.2.2.2.cells ∧ n + N ≤ S.2.2.2.2.slots) (d : decode S.1 pc = .ok (.new idx, 3)) (kk : ∀ q : Nat, V K S (k + 1) (n + N) (ws ++ [(q, .inr (ci, fs))]) L (.ref q :: st) (pc + 3)) : V K S k n ws L (st) (pc) := by
  obtain ⟨p, l, e, s, m, args, below, meth, c, D, cA, A, Q, E⟩ := K
  intro C H locs ls hP hD hS hl
  refine va_new (Ts := WA) C.1 C.2.1 C.2.2.2.2.1 hin ty0 hty C.2.2.2.1 (C.2.2.2.2.1 _ hcl) (C.2.2.2.2.1 _ hinst) (C.2.2.2.2.1 _ hini) C.2.2.2.2.2.1 hP hD hS C.2.2.2.2.2.2.1 hc hfs hroom.1 hroom.2 d (fun q H1 hP1 hD1 hS1 => kk q C H1 locs ls ?_ ?_ hS1 hl)
  · rw [← tw_push]; exact hP1
  · rw [← tw_push]; exact hD1
theorem V_newa_i {z : Int} {N : Nat} (harr : Cond.arrayClass .int ∈ WA) (hz : z = (N : Int)) (hN : N < 100000) (hroom : k + 1 ≤ S.2.2.2.2.cells ∧ n + N ≤ S.2.2.2.2.slots) (d : decode S.1 pc = .ok (.newarray .int, 2)) (kk : ∀ q : Nat, V K S (k + 1) (n + N) (ws ++ [(q, iE 0 N (fun _ => 0))]) L (.ref q :: st) (pc + 2)) : V K S k n ws L (.int (zI z) :: st) (pc) := by
  obtain ⟨p, l, e, s, m, args, below, meth, c, D, cA, A, Q, E⟩ := K
  intro C H locs ls hP hD hS hl
  subst hz
  refine va_newa (atype := .int) (ty := .int) (N' := N) (a0 := (N, .inl (zA (fun _ => 0)))) C.1 C.2.1 (C.2.2.2.2.1 _ harr) rfl C.2.2.2.2.2.1 hP hD hS C.2.2.2.2.2.2.1 (fun cA => rfl) (by rw [Int32.lt_iff_toInt_lt, zI_toInt ⟨by omega, by omega⟩]; show ¬ (N : Int) < 0; omega) (by rw [zI_cl (by omega) (by omega)]; omega) (by simp only [componentBytes]; omega) hroom.1 hroom.2 d (fun q cB H1 hK1 hP1 hD1 hS1 => ?_)
  have e1 := (C.2.2.2.2.2.1.2 0 _ rfl).2
  have e2 := (hK1.2 5 _ rfl).2
  have e3 : cB = cA 0 := Option.some.inj (e2.symm.trans e1)
  subst e3
  refine kk q C H1 locs ls ?_ ?_ hS1 hl
  · rw [← tw_push]; exact hP1
  · rw [← tw_push]; exact hD1
theorem V_newa_z {z : Int} {N : Nat} (harr : Cond.arrayClass .boolean ∈ WA) (hz : z = (N : Int)) (hN : N < 100000) (hroom : k + 1 ≤ S.2.2.2.2.cells ∧ n + N ≤ S.2.2.2.2.slots) (d : decode S.1 pc = .ok (.newarray .boolean, 2)) (kk : ∀ q : Nat, V K S (k + 1) (n + N) (ws ++ [(q, iE 1 N (fun _ => 0))]) L (.ref q :: st) (pc + 2)) : V K S k n ws L (.int (zI z) :: st) (pc) := by
  obtain ⟨p, l, e, s, m, args, below, meth, c, D, cA, A, Q, E⟩ := K
  intro C H locs ls hP hD hS hl
  subst hz
  refine va_newa (atype := .boolean) (ty := .boolean) (N' := N) (a0 := (N, .inl (zA (fun _ => 0)))) C.1 C.2.1 (C.2.2.2.2.1 _ harr) rfl C.2.2.2.2.2.1 hP hD hS C.2.2.2.2.2.2.1 (fun cA => rfl) (by rw [Int32.lt_iff_toInt_lt, zI_toInt ⟨by omega, by omega⟩]; show ¬ (N : Int) < 0; omega) (by rw [zI_cl (by omega) (by omega)]; omega) (by simp only [componentBytes]; omega) hroom.1 hroom.2 d (fun q cB H1 hK1 hP1 hD1 hS1 => ?_)
  have e1 := (C.2.2.2.2.2.1.2 1 _ rfl).2
  have e2 := (hK1.2 5 _ rfl).2
  have e3 : cB = cA 1 := Option.some.inj (e2.symm.trans e1)
  subst e3
  refine kk q C H1 locs ls ?_ ?_ hS1 hl
  · rw [← tw_push]; exact hP1
  · rw [← tw_push]; exact hD1
theorem V_newq {en : Nat → Nat} {z : Int} {N idx : Nat} (hE : evK K = EN en) (hcl : Cond.classLink S.2.1 idx "java/lang/Object" ∈ WA) (hz : z = (N : Int)) (hN : N < 100000) (hroom : k + 1 ≤ S.2.2.2.2.cells ∧ n + N ≤ S.2.2.2.2.slots) (d : decode S.1 pc = .ok (.anewarray idx, 3)) (kk : ∀ q : Nat, V K S (k + 1) (n + N) (ws ++ [(q, oE 3 N (fun _ => none))]) L (.ref q :: st) (pc + 3)) : V K S k n ws L (.int (zI z) :: st) (pc) := by
  obtain ⟨p, l, e, s, m, args, below, meth, c, D, cA, A, Q, E⟩ := K
  intro C H locs ls hP hD hS hl
  have hE' : E = EN en := hE
  subst hE'
  have hN := C.2.2.2.2.2.2.2.2.2.2.2
  subst hz
  refine va_newq (N' := N) C.1 C.2.1 C.2.2.2.1 (C.2.2.2.2.1 _ hcl) hN.2.2.2.2.2.2.2.2.1 C.2.2.2.2.2.1 hP hD hS C.2.2.2.2.2.2.1 (by rw [Int32.lt_iff_toInt_lt, zI_toInt ⟨by omega, by omega⟩]; show ¬ (N : Int) < 0; omega) (by rw [zI_cl (by omega) (by omega)]; omega) (by omega) hroom.1 hroom.2 d (fun q cB H1 hK1 hP1 hD1 hS1 => ?_)
  obtain ⟨_, _, _, _, _, e1⟩ := (C.2.2.2.2.2.1.2 3 _ rfl).2
  obtain ⟨_, _, _, _, _, e2⟩ := (hK1.2 5 _ rfl).2
  have e3 : cB = cA 3 := Option.some.inj (e2.symm.trans e1)
  subst e3
  refine kk q C H1 locs ls ?_ ?_ hS1 hl
  · rw [← tw_push]; exact hP1
  · rw [← tw_push]; exact hD1
theorem V_aald {a N b : Nat} {f : Int → Option Nat} {i : Int} (q0 : Nat) (ha : ws[q0]? = some (a, oE 3 N f)) (hi : 0 ≤ i ∧ i < (N : Int)) (hN : N < 2147483648) (hf : f i = some b) (d : decode S.1 pc = .ok (.aaload, 1)) (kk : V K S k n ws L (.ref b :: st) (pc + 1)) : V K S k n ws L (.int (zI i) :: .ref a :: st) (pc) := by
  obtain ⟨p, l, e, s, m, args, below, meth, c, D, cA, A, Q, E⟩ := K
  intro C H locs ls hP hD hS hl
  have h1 := rA_get f hi.1 (by omega)
  rw [hf] at h1
  refine va_aldq C.1 C.2.1 C.2.2.2.2.2.1 hP q0 3 (tw_get ha) rfl (zI_in hi.1 hi.2 (by omega)) d ?_
  rw [h1]
  exact kk C H locs ls hP hD hS hl
theorem V_aaldA {a N b : Nat} {f : Int → Option Nat} {i : Int} (q0 : Nat) (ha : ws[q0]? = some (a, oE 4 N f)) (hi : 0 ≤ i ∧ i < (N : Int)) (hN : N < 2147483648) (hf : f i = some b) (d : decode S.1 pc = .ok (.aaload, 1)) (kk : V K S k n ws L (.ref b :: st) (pc + 1)) : V K S k n ws L (.int (zI i) :: .ref a :: st) (pc) := by
  obtain ⟨p, l, e, s, m, args, below, meth, c, D, cA, A, Q, E⟩ := K
  intro C H locs ls hP hD hS hl
  have h1 := rA_get f hi.1 (by omega)
  rw [hf] at h1
  have hin := zI_in hi.1 hi.2 hN
  have hlt : (zI i).toNatClampNeg < N := Nat.not_le.mp fun q => hin (Or.inr q)
  exact W.aald (v := .ref b) (ty := .array .int) C.1 C.2.1 (hP q0 _ (tw_get ha)) ((C.2.2.2.2.2.1.2 4 _ rfl).1 N (fun j => va_rf (rA f j))) rfl (fun q => by cases q) (by show ¬ (zI i < 0 ∨ (arrV _ _ _).slots.size ≤ _); rw [arrV_size]; exact hin) (by show (arrV _ _ _).slots[_]? = _; rw [arrV_read _ _ hlt, h1]; rfl) rfl rfl d (kk C H locs ls hP hD hS hl)
theorem V_aastO {en : Nat → Nat} {a N b ci : Nat} {vs : List Value} {r : vw_C} {f : Int → Option Nat} {i : Int} (hE : evK K = EN en) (q0 qk : Nat) (ha : ws[q0]? = some (a, oE 3 N f)) (hca : Cond.castable r.1 "java/lang/Object" ∈ WN) (hv : ws[qk]? = some (b, .inr (ci, vs))) (hc : vwCl[ci]? = some r) (hi : 0 ≤ i ∧ i < (N : Int)) (hN : N < 2147483648) (d : decode S.1 pc = .ok (.aastore, 1)) (kk : V K S k n (ws.set q0 (a, oE 3 N (fup f i (some b)))) L (st) (pc + 1)) : V K S k n ws L (.ref b :: .int (zI i) :: .ref a :: st) (pc) := by
  obtain ⟨p, l, e, s, m, args, below, meth, c, D, cA, A, Q, E⟩ := K
  intro C H locs ls hP hD hS hl
  have hE' : E = EN en := hE
  subst hE'
  have hN := C.2.2.2.2.2.2.2.2.2.2.2
  refine va_astqO C.1 C.2.1 C.2.2.2.2.2.1 hP hD hS q0 3 qk ci (tw_get ha) rfl (hN.1 _ hca) (tw_get hv) hc (zI_in hi.1 hi.2 (by omega)) d (fun H1 locs1 hP1 hD1 hS1 => kk C H1 locs1 ls ?_ ?_ hS1 hl)
  · rw [← tw_set]; unfold oE; rw [← rA_up f (some b) hi.1 (by omega)]; exact hP1
  · rw [← tw_set]; unfold oE; rw [← rA_up f (some b) hi.1 (by omega)]; exact hD1
theorem V_aastN {a N : Nat} {f : Int → Option Nat} {i : Int} (q0 : Nat) (ha : ws[q0]? = some (a, oE 3 N f)) (hi : 0 ≤ i ∧ i < (N : Int)) (hN : N < 2147483648) (d : decode S.1 pc = .ok (.aastore, 1)) (kk : V K S k n (ws.set q0 (a, oE 3 N (fup f i none))) L (st) (pc + 1)) : V K S k n ws L (.null :: .int (zI i) :: .ref a :: st) (pc) := by
  obtain ⟨p, l, e, s, m, args, below, meth, c, D, cA, A, Q, E⟩ := K
  intro C H locs ls hP hD hS hl
  refine va_astqN C.1 C.2.1 C.2.2.2.2.2.1 hP hD hS q0 3 (tw_get ha) rfl (zI_in hi.1 hi.2 (by omega)) d (fun H1 locs1 hP1 hD1 hS1 => kk C H1 locs1 ls ?_ ?_ hS1 hl)
  · rw [← tw_set]; unfold oE; rw [← rA_up f none hi.1 (by omega)]; exact hP1
  · rw [← tw_set]; unfold oE; rw [← rA_up f none hi.1 (by omega)]; exact hD1
theorem V_castS {a ci idx N : Nat} {fs : List Value} {nm : String} {T : u_T} (q0 : Nat) (he : ws[q0]? = some (a, .inr (ci, fs))) (hc : vwCl[ci]? = some (nm, T, N)) (hcl : Cond.classLink S.2.1 idx nm ∈ WA) (d : decode S.1 pc = .ok (.checkcast idx, 3)) (kk : V K S k n ws L (.ref a :: st) (pc + 3)) : V K S k n ws L (.ref a :: st) (pc) := by
  obtain ⟨p, l, e, s, m, args, below, meth, c, D, cA, A, Q, E⟩ := K
  intro C H locs ls hP hD hS hl
  exact va_castS C.1 C.2.1 C.2.2.2.1 (C.2.2.2.2.1 _ hcl) (C.2.2.2.2.2.1.1 ci _ hc).2 (va_recv C.2.2.2.2.2.1 hP hc (tw_get he)) d (kk C H locs ls hP hD hS hl)
theorem V_null (d : decode S.1 pc = .ok (.aconst_null, 1)) (kk : V K S k n ws L (.null :: st) (pc + 1)) : V K S k n ws L (st) (pc) := by
  obtain ⟨p, l, e, s, m, args, below, meth, c, D, cA, A, Q, E⟩ := K
  intro C H locs ls hP hD hS hl
  exact lv_null C.1 C.2.1 d (kk C H locs ls hP hD hS hl)
theorem V_aloadN {j : Fin 4} (d : decode S.1 pc = .ok (.aload_n j, 1)) (h : L[(j : Nat)]? = some (some .null)) (kk : V K S k n ws L (.null :: st) (pc + 1)) : V K S k n ws L (st) (pc) := by
  obtain ⟨p, l, e, s, m, args, below, meth, c, D, cA, A, Q, E⟩ := K
  intro C H locs ls hP hD hS hl
  exact lv_aload_nN C.1 C.2.1 d rfl (hl.2.2 _ _ h).1 (kk C H locs ls hP hD hS hl)
theorem V_acmp_eq {x y : Nat} {off : Int} {tgt : Nat} (d : decode S.1 pc = .ok (.if_acmp .eq off, 3)) (ht : (pc : Int) + off = (tgt : Int)) (k1 : x = y → V K S k n ws L (st) (tgt)) (k2 : x ≠ y → V K S k n ws L (st) (pc + 3)) : V K S k n ws L (.ref y :: .ref x :: st) (pc) := by
  obtain ⟨p, l, e, s, m, args, below, meth, c, D, cA, A, Q, E⟩ := K
  intro C H locs ls hP hD hS hl
  exact lv_acmp_eq (rx := some x) (ry := some y) C.1 C.2.1 d ht (fun q => k1 (Option.some.inj q) C H locs ls hP hD hS hl) (fun q => k2 (fun z => q (by rw [z])) C H locs ls hP hD hS hl)
theorem V_acmp_ne {x y : Nat} {off : Int} {tgt : Nat} (d : decode S.1 pc = .ok (.if_acmp .ne off, 3)) (ht : (pc : Int) + off = (tgt : Int)) (k1 : x ≠ y → V K S k n ws L (st) (tgt)) (k2 : x = y → V K S k n ws L (st) (pc + 3)) : V K S k n ws L (.ref y :: .ref x :: st) (pc) := by
  obtain ⟨p, l, e, s, m, args, below, meth, c, D, cA, A, Q, E⟩ := K
  intro C H locs ls hP hD hS hl
  exact lv_acmp_ne (rx := some x) (ry := some y) C.1 C.2.1 d ht (fun q => k1 (fun z => q (by rw [z])) C H locs ls hP hD hS hl) (fun q => k2 (Option.some.inj q) C H locs ls hP hD hS hl)
theorem V_getK {en : Nat → Nat} {idx i : Nat} (hE : evK K = EN en) (hi : i < 4) (hlk : Cond.fieldLink S.2.1 idx "CellWindows$Kind" (kNm i) "LCellWindows$Kind;" ∈ WA) (d : decode S.1 pc = .ok (.getstatic idx, 3)) (kk : V K S k n ws L (.ref (en i) :: st) (pc + 3)) : V K S k n ws L (st) (pc) := by
  obtain ⟨p, l, e, s, m, args, below, meth, c, D, cA, A, Q, E⟩ := K
  intro C H locs ls hP hD hS hl
  have hE' : E = EN en := hE
  subst hE'
  have hN := C.2.2.2.2.2.2.2.2.2.2.2
  exact va_gets C.1 C.2.1 (hN.2.1 i hi).1 hS C.2.2.2.1 (C.2.2.2.2.1 _ hlk) same_rfl d (kk C H locs ls hP hD hS hl)
theorem V_getM {en : Nat → Nat} {idx : Nat} (hE : evK K = EN en) (hlk : Cond.fieldLink S.2.1 idx "CellWindows$1" "$SwitchMap$CellWindows$Kind" "[I" ∈ WA) (d : decode S.1 pc = .ok (.getstatic idx, 3)) (kk : V K S k n ws L (.ref (en 4) :: st) (pc + 3)) : V K S k n ws L (st) (pc) := by
  obtain ⟨p, l, e, s, m, args, below, meth, c, D, cA, A, Q, E⟩ := K
  intro C H locs ls hP hD hS hl
  have hE' : E = EN en := hE
  subst hE'
  have hN := C.2.2.2.2.2.2.2.2.2.2.2
  exact va_gets C.1 C.2.1 hN.2.2.2.2.1.1 hS C.2.2.2.1 (C.2.2.2.2.1 _ hlk) same_rfl d (kk C H locs ls hP hD hS hl)
theorem V_getE {en : Nat → Nat} {idx : Nat} (hE : evK K = EN en) (hlk : Cond.fieldLink S.2.1 idx "java/util/ArrayList" "DEFAULTCAPACITY_EMPTY_ELEMENTDATA" "[Ljava/lang/Object;" ∈ WA) (d : decode S.1 pc = .ok (.getstatic idx, 3)) (kk : V K S k n ws L (.ref (en 5) :: st) (pc + 3)) : V K S k n ws L (st) (pc) := by
  obtain ⟨p, l, e, s, m, args, below, meth, c, D, cA, A, Q, E⟩ := K
  intro C H locs ls hP hD hS hl
  have hE' : E = EN en := hE
  subst hE'
  have hN := C.2.2.2.2.2.2.2.2.2.2.2
  exact va_gets C.1 C.2.1 hN.2.2.2.2.2.1.1 hS C.2.2.2.1 (C.2.2.2.2.1 _ hlk) same_rfl d (kk C H locs ls hP hD hS hl)
theorem V_ldM {en : Nat → Nat} {i : Int} (hE : evK K = EN en) (hi : 0 ≤ i ∧ i < 4) (d : decode S.1 pc = .ok (.iaload, 1)) (kk : V K S k n ws L (.int (zI i) :: st) (pc + 1)) : V K S k n ws L (.int (zI i) :: .ref (en 4) :: st) (pc) := by
  obtain ⟨p, l, e, s, m, args, below, meth, c, D, cA, A, Q, E⟩ := K
  intro C H locs ls hP hD hS hl
  have hE' : E = EN en := hE
  subst hE'
  have hN := C.2.2.2.2.2.2.2.2.2.2.2
  refine va_ti (N := 4) C.1 C.2.1 hN.2.2.2.2.1.2 hS (zI_in hi.1 hi.2 (by omega)) (v := .int (zI i)) ?_ d (kk C H locs ls hP hD hS hl)
  rw [zI_cl hi.1 (by omega), ← zI_nat, Int.toNat_of_nonneg hi.1]
theorem V_lenE {en : Nat → Nat} (hE : evK K = EN en) (d : decode S.1 pc = .ok (.arraylength, 1)) (kk : V K S k n ws L (.int (zI 0) :: st) (pc + 1)) : V K S k n ws L (.ref (en 5) :: st) (pc) := by
  obtain ⟨p, l, e, s, m, args, below, meth, c, D, cA, A, Q, E⟩ := K
  intro C H locs ls hP hD hS hl
  have hE' : E = EN en := hE
  subst hE'
  have hN := C.2.2.2.2.2.2.2.2.2.2.2
  exact va_tlen C.1 C.2.1 hN.2.2.2.2.2.1.2 hS rfl d (kk C H locs ls hP hD hS hl)
theorem V_getO {en : Nat → Nat} {idx i : Nat} (hE : evK K = EN en) (hi : i < 4) (hlk : Cond.fieldLink S.2.1 idx "java/lang/Enum" "ordinal" "I" ∈ WA) (d : decode S.1 pc = .ok (.getfield idx, 3)) (kk : V K S k n ws L (.int (zI (i : Int)) :: st) (pc + 3)) : V K S k n ws L (.ref (en i) :: st) (pc) := by
  obtain ⟨p, l, e, s, m, args, below, meth, c, D, cA, A, Q, E⟩ := K
  intro C H locs ls hP hD hS hl
  have hE' : E = EN en := hE
  subst hE'
  have hN := C.2.2.2.2.2.2.2.2.2.2.2
  rw [zI_nat] at kk
  exact va_getX C.1 C.2.1 hN.2.2.1 hi hS C.2.2.2.1 (C.2.2.2.2.1 _ hlk) same_rfl d (kk C H locs ls hP hD hS hl)
theorem V_aret {mc ms : Nat} {v : Value} {rt : FieldType} {Post : Option Value → vWd → Prop} (hR : RetOK K mc ms Post) (hs : S.2.2.2.1 = some rt) (hrt : (∃ n, rt = .object n) ∨ ∃ t, rt = .array t) (hv : v = .null ∨ ∃ a, v = .ref a) (hk : k ≤ mc) (hn : n ≤ ms) (d : decode S.1 pc = .ok (.areturn, 1)) (hp : Post (some v) ws) : V K S k n ws L [v] pc := by
  obtain ⟨p, l, e, s, m, args, below, meth, c, D, cA, A, Q, E⟩ := K
  intro C H locs ls hP hD hS hl
  refine W.widen hk hn (hR _ H locs _ ?_)
  exact W.aret C.1 C.2.1 (C.2.2.2.2.2.2.2.2.1.trans hs) hrt hv (fun t ht hW => ⟨⟨_, ws, rfl, hp, by rw [ht]; exact hP, va_K.moved hW.alike C.2.2.2.2.2.1, hD⟩, hS.F ht⟩) hS.2.2 d C.2.2.2.2.2.2.2.1
theorem en_inj {en : Nat → Nat} (hE : evK K = EN en) (kk : (∀ i j, i < 4 → j < 4 → en i = en j → i = j) → V K S k n ws L st pc) : V K S k n ws L st pc := by
  obtain ⟨p, l, e, s, m, args, below, meth, c, D, cA, A, Q, E⟩ := K
  have hE' : E = EN en := hE
  subst hE'
  intro C
  exact kk C.2.2.2.2.2.2.2.2.2.2.2.2.2.2.1 C
theorem V_neE {en : Nat → Nat} {a : Nat} {x : vE} (hE : evK K = EN en) (q0 : Nat) (he : ws[q0]? = some (a, x)) (kk : a ≠ en 5 → V K S k n ws L st pc) : V K S k n ws L st pc := by
  obtain ⟨p, l, e, s, m, args, below, meth, c, D, cA, A, Q, E⟩ := K
  have hE' : E = EN en := hE
  subst hE'
  intro C H locs ls hP hD hS hl
  exact kk (fun h => C.2.2.2.2.2.2.2.2.2.2.2.2.2.2.2.2.1.2.out (h ▸ hD.2 q0 _ (tw_get he))) C H locs ls hP hD hS hl
theorem V_Perm {ws' : vWd} (h : ws.Perm ws') (kk : V K S k n ws' L st pc) : V K S k n ws L st pc := by
  obtain ⟨p, l, e, s, m, args, below, meth, c, D, cA, A, Q, E⟩ := K
  intro C H locs ls hP hD hS hl
  have h1 : (tw cA ws).Perm (tw cA ws') := h.map _
  have hm : ∀ q, q ∈ tw cA ws' → q ∈ tw cA ws := fun q hq => h1.mem_iff.mpr hq
  refine kk C H locs ls (fun k q hk => ?_) ⟨?_, fun k q hk => ?_⟩ hS hl
  · obtain ⟨i, hi⟩ := List.getElem?_of_mem (hm q (List.mem_of_getElem? hk))
    exact hP i q hi
  · have hn : ((tw cA ws).map Prod.fst).Nodup := by
      refine List.pairwise_iff_getElem.mpr (fun i j hi hj hij e1 => ?_)
      rw [List.getElem_map, List.getElem_map] at e1
      have := hD.1 i j _ _ (List.getElem?_eq_getElem (by simpa using hi)) (List.getElem?_eq_getElem (by simpa using hj)) e1
      omega
    have hn2 := List.pairwise_iff_getElem.mp ((h1.map Prod.fst).nodup_iff.mp hn)
    have key : ∀ i j : Nat, ∀ p q : Nat × va_E, i < j → (tw cA ws')[i]? = some p → (tw cA ws')[j]? = some q → p.1 = q.1 → False := by
      intro i j p q hij hi hj e1
      obtain ⟨hi1, hi2⟩ := List.getElem?_eq_some_iff.mp hi
      obtain ⟨hj1, hj2⟩ := List.getElem?_eq_some_iff.mp hj
      refine hn2 i j (by simpa using hi1) (by simpa using hj1) hij ?_
      rw [List.getElem_map, List.getElem_map, hi2, hj2]
      exact e1
    intro i j p q hi hj e1
    rcases Nat.lt_trichotomy i j with hlt | he | hlt
    · exact (key i j p q hlt hi hj e1).elim
    · exact he
    · exact (key j i q p hlt hj hi e1.symm).elim
  · obtain ⟨i, hi⟩ := List.getElem?_of_mem (hm q (List.mem_of_getElem? hk))
    exact hD.2 i q hi
end VX
