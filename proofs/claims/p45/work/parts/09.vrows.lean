theorem tw_places {cA : Nat → ClassId} {ws wc : vWd} {is : List Nat} (h : is.map (fun (i : Nat) => ws[i]?) = wc.map some) : is.map (fun (i : Nat) => (tw cA ws)[i]?) = (tw cA wc).map some := by
  have h2 := congrArg (List.map (Option.map (twE cA))) h
  unfold tw
  simp only [List.map_map] at h2 ⊢
  have e1 : (Option.map (twE cA) ∘ fun (i : Nat) => ws[i]?) = fun (i : Nat) => (List.map (twE cA) ws)[i]? := by funext i; simp
  have e2 : (Option.map (twE cA) ∘ some) = (some ∘ twE cA) := rfl
  rw [e1, e2] at h2
  exact h2
section VR
variable {K : KT} {S : SI} {k n : Nat} {ws : vWd} {L : List (Option Value)} {st : List Value} {pc : Nat}
theorem V_iconst {z : Int} (d : decode S.1 pc = .ok (.iconst z, 1)) (kk : V K S k n ws L (.int (zI z) :: st) (pc + 1)) : V K S k n ws L (st) (pc) := by
  obtain ⟨p, l, e, s, m, args, below, meth, c, D, cA, A, Q, E⟩ := K
  intro C H locs ls hP hD hS hl
  exact lv_iconst C.1 C.2.1 d rfl (kk C H locs ls hP hD hS hl)
theorem V_bipush {z : Int} (d : decode S.1 pc = .ok (.bipush z, 2)) (hz : (Int8.ofInt z).toInt32 = zI z) (kk : V K S k n ws L (.int (zI z) :: st) (pc + 2)) : V K S k n ws L (st) (pc) := by
  obtain ⟨p, l, e, s, m, args, below, meth, c, D, cA, A, Q, E⟩ := K
  intro C H locs ls hP hD hS hl
  exact lv_bipush C.1 C.2.1 d hz (kk C H locs ls hP hD hS hl)
theorem V_sipush {z : Int} (d : decode S.1 pc = .ok (.sipush z, 3)) (hz : (Int16.ofInt z).toInt32 = zI z) (kk : V K S k n ws L (.int (zI z) :: st) (pc + 3)) : V K S k n ws L (st) (pc) := by
  obtain ⟨p, l, e, s, m, args, below, meth, c, D, cA, A, Q, E⟩ := K
  intro C H locs ls hP hD hS hl
  exact lv_sipush C.1 C.2.1 d hz (kk C H locs ls hP hD hS hl)
theorem V_lconst {z : Fin 2} (d : decode S.1 pc = .ok (.lconst z, 1)) (kk : V K S k n ws L (.long (Int64.ofNat (z : Nat)) :: st) (pc + 1)) : V K S k n ws L (st) (pc) := by
  obtain ⟨p, l, e, s, m, args, below, meth, c, D, cA, A, Q, E⟩ := K
  intro C H locs ls hP hD hS hl
  exact lv_lconst C.1 C.2.1 d rfl (kk C H locs ls hP hD hS hl)
theorem V_iload_n {j : Fin 4} {x : Int32} (d : decode S.1 pc = .ok (.iload_n j, 1)) (h : L[(j : Nat)]? = some (some (.int x))) (kk : V K S k n ws L (.int x :: st) (pc + 1)) : V K S k n ws L (st) (pc) := by
  obtain ⟨p, l, e, s, m, args, below, meth, c, D, cA, A, Q, E⟩ := K
  intro C H locs ls hP hD hS hl
  exact lv_iload_n C.1 C.2.1 d rfl (hl.2.2 _ _ h).1 (kk C H locs ls hP hD hS hl)
theorem V_iload {j : Nat} {x : Int32} (d : decode S.1 pc = .ok (.iload j, 2)) (h : L[j]? = some (some (.int x))) (kk : V K S k n ws L (.int x :: st) (pc + 2)) : V K S k n ws L (st) (pc) := by
  obtain ⟨p, l, e, s, m, args, below, meth, c, D, cA, A, Q, E⟩ := K
  intro C H locs ls hP hD hS hl
  exact lv_iload C.1 C.2.1 d (hl.2.2 _ _ h).1 (kk C H locs ls hP hD hS hl)
theorem V_aload_n {j : Fin 4} {x : Nat} (d : decode S.1 pc = .ok (.aload_n j, 1)) (h : L[(j : Nat)]? = some (some (.ref x))) (kk : V K S k n ws L (.ref x :: st) (pc + 1)) : V K S k n ws L (st) (pc) := by
  obtain ⟨p, l, e, s, m, args, below, meth, c, D, cA, A, Q, E⟩ := K
  intro C H locs ls hP hD hS hl
  exact lv_aload_n C.1 C.2.1 d rfl (hl.2.2 _ _ h).1 (kk C H locs ls hP hD hS hl)
theorem V_aload {j : Nat} {x : Nat} (d : decode S.1 pc = .ok (.aload j, 2)) (h : L[j]? = some (some (.ref x))) (kk : V K S k n ws L (.ref x :: st) (pc + 2)) : V K S k n ws L (st) (pc) := by
  obtain ⟨p, l, e, s, m, args, below, meth, c, D, cA, A, Q, E⟩ := K
  intro C H locs ls hP hD hS hl
  exact lv_aload C.1 C.2.1 d (hl.2.2 _ _ h).1 (kk C H locs ls hP hD hS hl)
theorem V_istore_n {j : Fin 4} {x : Int32} {L' : List (Option Value)} (d : decode S.1 pc = .ok (.istore_n j, 1)) (hn : (j : Nat) < S.2.2.1) (h : L.set (j : Nat) (some (.int x)) = L') (kk : V K S k n ws L' (st) (pc + 1)) : V K S k n ws L (.int x :: st) (pc) := by
  obtain ⟨p, l, e, s, m, args, below, meth, c, D, cA, A, Q, E⟩ := K
  intro C H locs ls hP hD hS hl
  subst h
  exact lv_istore_n C.1 C.2.1 d rfl hl.has hn rfl (fun ls' h' => kk C H locs ls' hP hD hS (hl.store rfl h'))
theorem V_istore {j : Nat} {x : Int32} {L' : List (Option Value)} (d : decode S.1 pc = .ok (.istore j, 2)) (hn : j < S.2.2.1) (h : L.set j (some (.int x)) = L') (kk : V K S k n ws L' (st) (pc + 2)) : V K S k n ws L (.int x :: st) (pc) := by
  obtain ⟨p, l, e, s, m, args, below, meth, c, D, cA, A, Q, E⟩ := K
  intro C H locs ls hP hD hS hl
  subst h
  exact lv_istore C.1 C.2.1 d hl.has hn rfl (fun ls' h' => kk C H locs ls' hP hD hS (hl.store rfl h'))
theorem V_astore_n {j : Fin 4} {x : Nat} {L' : List (Option Value)} (d : decode S.1 pc = .ok (.astore_n j, 1)) (hn : (j : Nat) < S.2.2.1) (h : L.set (j : Nat) (some (.ref x)) = L') (kk : V K S k n ws L' (st) (pc + 1)) : V K S k n ws L (.ref x :: st) (pc) := by
  obtain ⟨p, l, e, s, m, args, below, meth, c, D, cA, A, Q, E⟩ := K
  intro C H locs ls hP hD hS hl
  subst h
  exact lv_astore_n C.1 C.2.1 d rfl hl.has hn rfl (fun ls' h' => kk C H locs ls' hP hD hS (hl.store rfl h'))
theorem V_astore {j : Nat} {x : Nat} {L' : List (Option Value)} (d : decode S.1 pc = .ok (.astore j, 2)) (hn : j < S.2.2.1) (h : L.set j (some (.ref x)) = L') (kk : V K S k n ws L' (st) (pc + 2)) : V K S k n ws L (.ref x :: st) (pc) := by
  obtain ⟨p, l, e, s, m, args, below, meth, c, D, cA, A, Q, E⟩ := K
  intro C H locs ls hP hD hS hl
  subst h
  exact lv_astore C.1 C.2.1 d hl.has hn rfl (fun ls' h' => kk C H locs ls' hP hD hS (hl.store rfl h'))
theorem V_iinc {j : Nat} {z x : Int} {L' : List (Option Value)} (d : decode S.1 pc = .ok (.iinc j z, 3)) (hn : j < S.2.2.1) (hx : L[j]? = some (some (.int (zI x)))) (h : L.set j (some (.int (zI (x + z)))) = L') (kk : V K S k n ws L' (st) (pc + 3)) : V K S k n ws L (st) (pc) := by
  obtain ⟨p, l, e, s, m, args, below, meth, c, D, cA, A, Q, E⟩ := K
  intro C H locs ls hP hD hS hl
  subst h
  obtain ⟨q, hq⟩ := List.getElem?_of_mem (lvL_mem.mpr hx)
  exact lv_iinc C.1 C.2.1 d hl.has hq (zI_add x z) hn rfl (fun ls' h' => kk C H locs ls' hP hD hS (hl.store rfl h'))
theorem V_iadd {x y : Int} (d : decode S.1 pc = .ok (.iadd, 1)) (kk : V K S k n ws L (.int (zI (x + y)) :: st) (pc + 1)) : V K S k n ws L (.int (zI y) :: .int (zI x) :: st) (pc) := by
  obtain ⟨p, l, e, s, m, args, below, meth, c, D, cA, A, Q, E⟩ := K
  intro C H locs ls hP hD hS hl
  rw [← zI_add] at kk
  exact lv_iadd C.1 C.2.1 d (kk C H locs ls hP hD hS hl)
theorem V_isub {x y : Int} (d : decode S.1 pc = .ok (.isub, 1)) (kk : V K S k n ws L (.int (zI (x - y)) :: st) (pc + 1)) : V K S k n ws L (.int (zI y) :: .int (zI x) :: st) (pc) := by
  obtain ⟨p, l, e, s, m, args, below, meth, c, D, cA, A, Q, E⟩ := K
  intro C H locs ls hP hD hS hl
  rw [← zI_sub] at kk
  exact lv_isub C.1 C.2.1 d (kk C H locs ls hP hD hS hl)
theorem V_imul {x y : Int} (d : decode S.1 pc = .ok (.imul, 1)) (kk : V K S k n ws L (.int (zI (x * y)) :: st) (pc + 1)) : V K S k n ws L (.int (zI y) :: .int (zI x) :: st) (pc) := by
  obtain ⟨p, l, e, s, m, args, below, meth, c, D, cA, A, Q, E⟩ := K
  intro C H locs ls hP hD hS hl
  rw [← zI_mul] at kk
  exact lv_imul C.1 C.2.1 d (kk C H locs ls hP hD hS hl)
theorem V_ineg {x : Int} (d : decode S.1 pc = .ok (.ineg, 1)) (kk : V K S k n ws L (.int (zI (-x)) :: st) (pc + 1)) : V K S k n ws L (.int (zI x) :: st) (pc) := by
  obtain ⟨p, l, e, s, m, args, below, meth, c, D, cA, A, Q, E⟩ := K
  intro C H locs ls hP hD hS hl
  rw [← zI_neg] at kk
  exact lv_ineg C.1 C.2.1 d (kk C H locs ls hP hD hS hl)
theorem V_idiv {x y : Int} (d : decode S.1 pc = .ok (.idiv, 1)) (h : iR x ∧ iR y ∧ 0 ≤ x ∧ 0 < y) (kk : V K S k n ws L (.int (zI (x / y)) :: st) (pc + 1)) : V K S k n ws L (.int (zI y) :: .int (zI x) :: st) (pc) := by
  obtain ⟨p, l, e, s, m, args, below, meth, c, D, cA, A, Q, E⟩ := K
  intro C H locs ls hP hD hS hl
  rw [← zI_div h.1 h.2.1 h.2.2.1 h.2.2.2] at kk
  exact lv_idiv C.1 C.2.1 d (zI_ne0 h.2.1 h.2.2.2) (kk C H locs ls hP hD hS hl)
theorem V_irem {x y : Int} (d : decode S.1 pc = .ok (.irem, 1)) (h : iR x ∧ iR y ∧ 0 < y) (kk : V K S k n ws L (.int (zI (x.tmod y)) :: st) (pc + 1)) : V K S k n ws L (.int (zI y) :: .int (zI x) :: st) (pc) := by
  obtain ⟨p, l, e, s, m, args, below, meth, c, D, cA, A, Q, E⟩ := K
  intro C H locs ls hP hD hS hl
  rw [← zI_rem h.2.1 h.1 h.2.2] at kk
  exact lv_irem C.1 C.2.1 d (zI_ne0 h.2.1 h.2.2) (kk C H locs ls hP hD hS hl)
theorem V_iremN {x y : Int} (d : decode S.1 pc = .ok (.irem, 1)) (h : iR x ∧ iR y ∧ 0 ≤ x ∧ 0 < y) (kk : V K S k n ws L (.int (zI (x % y)) :: st) (pc + 1)) : V K S k n ws L (.int (zI y) :: .int (zI x) :: st) (pc) := by
  obtain ⟨p, l, e, s, m, args, below, meth, c, D, cA, A, Q, E⟩ := K
  intro C H locs ls hP hD hS hl
  rw [← tmod_nn h.2.2.1, ← zI_rem h.2.1 h.1 h.2.2.2] at kk
  exact lv_irem C.1 C.2.1 d (zI_ne0 h.2.1 h.2.2.2) (kk C H locs ls hP hD hS hl)
theorem V_iand {x y : Int32} (d : decode S.1 pc = .ok (.iand, 1)) (kk : V K S k n ws L (.int (x &&& y) :: st) (pc + 1)) : V K S k n ws L (.int y :: .int x :: st) (pc) := by
  obtain ⟨p, l, e, s, m, args, below, meth, c, D, cA, A, Q, E⟩ := K
  intro C H locs ls hP hD hS hl
  exact lv_iand C.1 C.2.1 d (kk C H locs ls hP hD hS hl)
theorem V_ior {x y : Int32} (d : decode S.1 pc = .ok (.ior, 1)) (kk : V K S k n ws L (.int (x ||| y) :: st) (pc + 1)) : V K S k n ws L (.int y :: .int x :: st) (pc) := by
  obtain ⟨p, l, e, s, m, args, below, meth, c, D, cA, A, Q, E⟩ := K
  intro C H locs ls hP hD hS hl
  exact lv_ior C.1 C.2.1 d (kk C H locs ls hP hD hS hl)
theorem V_ixor {x y : Int32} (d : decode S.1 pc = .ok (.ixor, 1)) (kk : V K S k n ws L (.int (x ^^^ y) :: st) (pc + 1)) : V K S k n ws L (.int y :: .int x :: st) (pc) := by
  obtain ⟨p, l, e, s, m, args, below, meth, c, D, cA, A, Q, E⟩ := K
  intro C H locs ls hP hD hS hl
  exact lv_ixor C.1 C.2.1 d (kk C H locs ls hP hD hS hl)
theorem V_i2l {x : Int32} (d : decode S.1 pc = .ok (.i2l, 1)) (kk : V K S k n ws L (.long x.toInt64 :: st) (pc + 1)) : V K S k n ws L (.int x :: st) (pc) := by
  obtain ⟨p, l, e, s, m, args, below, meth, c, D, cA, A, Q, E⟩ := K
  intro C H locs ls hP hD hS hl
  exact lv_i2l C.1 C.2.1 d rfl (kk C H locs ls hP hD hS hl)
theorem V_lcmp {x y : Int64} (d : decode S.1 pc = .ok (.lcmp, 1)) (kk : V K S k n ws L (.int (lg_cmp x y) :: st) (pc + 1)) : V K S k n ws L (.long y :: .long x :: st) (pc) := by
  obtain ⟨p, l, e, s, m, args, below, meth, c, D, cA, A, Q, E⟩ := K
  intro C H locs ls hP hD hS hl
  exact W.lcmp C.1 C.2.1 d (kk C H locs ls hP hD hS hl)
theorem V_eqT {x y : Int32} (h : x = y) (kk : V K S k n ws L (.int y :: st) (pc)) : V K S k n ws L (.int x :: st) (pc) := by
  obtain ⟨p, l, e, s, m, args, below, meth, c, D, cA, A, Q, E⟩ := K
  intro C H locs ls hP hD hS hl
  subst h
  exact kk C H locs ls hP hD hS hl
theorem V_if_eq {x off : Int} {tgt : Nat} (d : decode S.1 pc = .ok (.ifCond .eq off, 3)) (ht : (pc : Int) + off = (tgt : Int)) (h : iR x) (k1 : x = 0 → V K S k n ws L (st) (tgt)) (k2 : x ≠ 0 → V K S k n ws L (st) (pc + 3)) : V K S k n ws L (.int (zI x) :: st) (pc) := by
  obtain ⟨p, l, e, s, m, args, below, meth, c, D, cA, A, Q, E⟩ := K
  intro C H locs ls hP hD hS hl
  have hz : iR 0 := ⟨by decide, by decide⟩
  exact lv_if_eq C.1 C.2.1 d ht (fun q => k1 ((zI_eq h hz).mp q) C H locs ls hP hD hS hl) (fun q => k2 (fun z => q ((zI_eq h hz).mpr z)) C H locs ls hP hD hS hl)
theorem V_if_ne {x off : Int} {tgt : Nat} (d : decode S.1 pc = .ok (.ifCond .ne off, 3)) (ht : (pc : Int) + off = (tgt : Int)) (h : iR x) (k1 : x ≠ 0 → V K S k n ws L (st) (tgt)) (k2 : x = 0 → V K S k n ws L (st) (pc + 3)) : V K S k n ws L (.int (zI x) :: st) (pc) := by
  obtain ⟨p, l, e, s, m, args, below, meth, c, D, cA, A, Q, E⟩ := K
  intro C H locs ls hP hD hS hl
  have hz : iR 0 := ⟨by decide, by decide⟩
  exact lv_if_ne C.1 C.2.1 d ht (fun q => k1 (fun z => q ((zI_eq h hz).mpr z)) C H locs ls hP hD hS hl) (fun q => k2 ((zI_eq h hz).mp q) C H locs ls hP hD hS hl)
theorem V_if_lt {x off : Int} {tgt : Nat} (d : decode S.1 pc = .ok (.ifCond .lt off, 3)) (ht : (pc : Int) + off = (tgt : Int)) (h : iR x) (k1 : x < 0 → V K S k n ws L (st) (tgt)) (k2 : 0 ≤ x → V K S k n ws L (st) (pc + 3)) : V K S k n ws L (.int (zI x) :: st) (pc) := by
  obtain ⟨p, l, e, s, m, args, below, meth, c, D, cA, A, Q, E⟩ := K
  intro C H locs ls hP hD hS hl
  have hz : iR 0 := ⟨by decide, by decide⟩
  exact lv_if_lt C.1 C.2.1 d ht (fun q => k1 ((zI_lt h hz).mp q) C H locs ls hP hD hS hl) (fun q => k2 (Int.not_lt.mp fun z => q ((zI_lt h hz).mpr z)) C H locs ls hP hD hS hl)
theorem V_if_ge {x off : Int} {tgt : Nat} (d : decode S.1 pc = .ok (.ifCond .ge off, 3)) (ht : (pc : Int) + off = (tgt : Int)) (h : iR x) (k1 : 0 ≤ x → V K S k n ws L (st) (tgt)) (k2 : x < 0 → V K S k n ws L (st) (pc + 3)) : V K S k n ws L (.int (zI x) :: st) (pc) := by
  obtain ⟨p, l, e, s, m, args, below, meth, c, D, cA, A, Q, E⟩ := K
  intro C H locs ls hP hD hS hl
  have hz : iR 0 := ⟨by decide, by decide⟩
  exact lv_if_ge C.1 C.2.1 d ht (fun q => k1 ((zI_le hz h).mp q) C H locs ls hP hD hS hl) (fun q => k2 (Int.not_le.mp fun z => q ((zI_le hz h).mpr z)) C H locs ls hP hD hS hl)
theorem V_if_gt {x off : Int} {tgt : Nat} (d : decode S.1 pc = .ok (.ifCond .gt off, 3)) (ht : (pc : Int) + off = (tgt : Int)) (h : iR x) (k1 : 0 < x → V K S k n ws L (st) (tgt)) (k2 : x ≤ 0 → V K S k n ws L (st) (pc + 3)) : V K S k n ws L (.int (zI x) :: st) (pc) := by
  obtain ⟨p, l, e, s, m, args, below, meth, c, D, cA, A, Q, E⟩ := K
  intro C H locs ls hP hD hS hl
  have hz : iR 0 := ⟨by decide, by decide⟩
  exact lv_if_gt C.1 C.2.1 d ht (fun q => k1 ((zI_lt hz h).mp q) C H locs ls hP hD hS hl) (fun q => k2 (Int.not_lt.mp fun z => q ((zI_lt hz h).mpr z)) C H locs ls hP hD hS hl)
theorem V_if_le {x off : Int} {tgt : Nat} (d : decode S.1 pc = .ok (.ifCond .le off, 3)) (ht : (pc : Int) + off = (tgt : Int)) (h : iR x) (k1 : x ≤ 0 → V K S k n ws L (st) (tgt)) (k2 : 0 < x → V K S k n ws L (st) (pc + 3)) : V K S k n ws L (.int (zI x) :: st) (pc) := by
  obtain ⟨p, l, e, s, m, args, below, meth, c, D, cA, A, Q, E⟩ := K
  intro C H locs ls hP hD hS hl
  have hz : iR 0 := ⟨by decide, by decide⟩
  exact lv_if_le C.1 C.2.1 d ht (fun q => k1 ((zI_le h hz).mp q) C H locs ls hP hD hS hl) (fun q => k2 (Int.not_le.mp fun z => q ((zI_le h hz).mpr z)) C H locs ls hP hD hS hl)
def bz (b : Bool) : Int := if b then 1 else 0
theorem bz_R (b : Bool) : iR (bz b) := by cases b <;> exact ⟨by decide, by decide⟩
theorem bz_t : bz true = 1 := rfl
theorem bz_f : bz false = 0 := rfl
theorem bz_0 {b : Bool} : bz b = 0 ↔ b = false := by cases b <;> decide
theorem bz_n0 {b : Bool} : bz b ≠ 0 ↔ b = true := by cases b <;> decide
theorem V_ifb_eq {b : Bool} {off : Int} {tgt : Nat} (d : decode S.1 pc = .ok (.ifCond .eq off, 3)) (ht : (pc : Int) + off = (tgt : Int)) (k1 : b = false → V K S k n ws L (st) (tgt)) (k2 : b = true → V K S k n ws L (st) (pc + 3)) : V K S k n ws L (.int (zI (bz b)) :: st) (pc) := by
  obtain ⟨p, l, e, s, m, args, below, meth, c, D, cA, A, Q, E⟩ := K
  intro C H locs ls hP hD hS hl
  cases b
  · exact lv_if_eq C.1 C.2.1 d ht (fun q => k1 rfl C H locs ls hP hD hS hl) (fun q => absurd rfl q)
  · exact lv_if_eq C.1 C.2.1 d ht (fun q => absurd q (by decide)) (fun q => k2 rfl C H locs ls hP hD hS hl)
theorem V_ifb_ne {b : Bool} {off : Int} {tgt : Nat} (d : decode S.1 pc = .ok (.ifCond .ne off, 3)) (ht : (pc : Int) + off = (tgt : Int)) (k1 : b = true → V K S k n ws L (st) (tgt)) (k2 : b = false → V K S k n ws L (st) (pc + 3)) : V K S k n ws L (.int (zI (bz b)) :: st) (pc) := by
  obtain ⟨p, l, e, s, m, args, below, meth, c, D, cA, A, Q, E⟩ := K
  intro C H locs ls hP hD hS hl
  cases b
  · exact lv_if_ne C.1 C.2.1 d ht (fun q => absurd rfl q) (fun q => k2 rfl C H locs ls hP hD hS hl)
  · exact lv_if_ne C.1 C.2.1 d ht (fun q => k1 rfl C H locs ls hP hD hS hl) (fun q => absurd q (by decide))
theorem V_icmp_eq {x y off : Int} {tgt : Nat} (d : decode S.1 pc = .ok (.if_icmp .eq off, 3)) (ht : (pc : Int) + off = (tgt : Int)) (h : iR x ∧ iR y) (k1 : x = y → V K S k n ws L (st) (tgt)) (k2 : x ≠ y → V K S k n ws L (st) (pc + 3)) : V K S k n ws L (.int (zI y) :: .int (zI x) :: st) (pc) := by
  obtain ⟨p, l, e, s, m, args, below, meth, c, D, cA, A, Q, E⟩ := K
  intro C H locs ls hP hD hS hl
  exact lv_icmp_eq C.1 C.2.1 d ht (fun q => k1 ((zI_eq h.1 h.2).mp q) C H locs ls hP hD hS hl) (fun q => k2 (fun z => q ((zI_eq h.1 h.2).mpr z)) C H locs ls hP hD hS hl)
theorem V_icmp_ne {x y off : Int} {tgt : Nat} (d : decode S.1 pc = .ok (.if_icmp .ne off, 3)) (ht : (pc : Int) + off = (tgt : Int)) (h : iR x ∧ iR y) (k1 : x ≠ y → V K S k n ws L (st) (tgt)) (k2 : x = y → V K S k n ws L (st) (pc + 3)) : V K S k n ws L (.int (zI y) :: .int (zI x) :: st) (pc) := by
  obtain ⟨p, l, e, s, m, args, below, meth, c, D, cA, A, Q, E⟩ := K
  intro C H locs ls hP hD hS hl
  exact lv_icmp_ne C.1 C.2.1 d ht (fun q => k1 (fun z => q ((zI_eq h.1 h.2).mpr z)) C H locs ls hP hD hS hl) (fun q => k2 ((zI_eq h.1 h.2).mp q) C H locs ls hP hD hS hl)
theorem V_icmp_lt {x y off : Int} {tgt : Nat} (d : decode S.1 pc = .ok (.if_icmp .lt off, 3)) (ht : (pc : Int) + off = (tgt : Int)) (h : iR x ∧ iR y) (k1 : x < y → V K S k n ws L (st) (tgt)) (k2 : y ≤ x → V K S k n ws L (st) (pc + 3)) : V K S k n ws L (.int (zI y) :: .int (zI x) :: st) (pc) := by
  obtain ⟨p, l, e, s, m, args, below, meth, c, D, cA, A, Q, E⟩ := K
  intro C H locs ls hP hD hS hl
  exact lv_icmp_lt C.1 C.2.1 d ht (fun q => k1 ((zI_lt h.1 h.2).mp q) C H locs ls hP hD hS hl) (fun q => k2 (Int.not_lt.mp fun z => q ((zI_lt h.1 h.2).mpr z)) C H locs ls hP hD hS hl)
theorem V_icmp_ge {x y off : Int} {tgt : Nat} (d : decode S.1 pc = .ok (.if_icmp .ge off, 3)) (ht : (pc : Int) + off = (tgt : Int)) (h : iR x ∧ iR y) (k1 : y ≤ x → V K S k n ws L (st) (tgt)) (k2 : x < y → V K S k n ws L (st) (pc + 3)) : V K S k n ws L (.int (zI y) :: .int (zI x) :: st) (pc) := by
  obtain ⟨p, l, e, s, m, args, below, meth, c, D, cA, A, Q, E⟩ := K
  intro C H locs ls hP hD hS hl
  exact lv_icmp_ge C.1 C.2.1 d ht (fun q => k1 ((zI_le h.2 h.1).mp q) C H locs ls hP hD hS hl) (fun q => k2 (Int.not_le.mp fun z => q ((zI_le h.2 h.1).mpr z)) C H locs ls hP hD hS hl)
theorem V_icmp_gt {x y off : Int} {tgt : Nat} (d : decode S.1 pc = .ok (.if_icmp .gt off, 3)) (ht : (pc : Int) + off = (tgt : Int)) (h : iR x ∧ iR y) (k1 : y < x → V K S k n ws L (st) (tgt)) (k2 : x ≤ y → V K S k n ws L (st) (pc + 3)) : V K S k n ws L (.int (zI y) :: .int (zI x) :: st) (pc) := by
  obtain ⟨p, l, e, s, m, args, below, meth, c, D, cA, A, Q, E⟩ := K
  intro C H locs ls hP hD hS hl
  exact lv_icmp_gt C.1 C.2.1 d ht (fun q => k1 ((zI_lt h.2 h.1).mp q) C H locs ls hP hD hS hl) (fun q => k2 (Int.not_lt.mp fun z => q ((zI_lt h.2 h.1).mpr z)) C H locs ls hP hD hS hl)
theorem V_icmp_le {x y off : Int} {tgt : Nat} (d : decode S.1 pc = .ok (.if_icmp .le off, 3)) (ht : (pc : Int) + off = (tgt : Int)) (h : iR x ∧ iR y) (k1 : x ≤ y → V K S k n ws L (st) (tgt)) (k2 : y < x → V K S k n ws L (st) (pc + 3)) : V K S k n ws L (.int (zI y) :: .int (zI x) :: st) (pc) := by
  obtain ⟨p, l, e, s, m, args, below, meth, c, D, cA, A, Q, E⟩ := K
  intro C H locs ls hP hD hS hl
  exact lv_icmp_le C.1 C.2.1 d ht (fun q => k1 ((zI_le h.1 h.2).mp q) C H locs ls hP hD hS hl) (fun q => k2 (Int.not_le.mp fun z => q ((zI_le h.1 h.2).mpr z)) C H locs ls hP hD hS hl)
theorem V_goto {off : Int} {tgt : Nat} (d : decode S.1 pc = .ok (.goto off, 3)) (ht : (pc : Int) + off = (tgt : Int)) (kk : V K S k n ws L (st) (tgt)) : V K S k n ws L (st) (pc) := by
  obtain ⟨p, l, e, s, m, args, below, meth, c, D, cA, A, Q, E⟩ := K
  intro C H locs ls hP hD hS hl
  exact lv_goto C.1 C.2.1 d ht (kk C H locs ls hP hD hS hl)
theorem V_dup {v : Value} (d : decode S.1 pc = .ok (.dup, 1)) (hv : v.category = 1) (kk : V K S k n ws L (v :: v :: st) (pc + 1)) : V K S k n ws L (v :: st) (pc) := by
  obtain ⟨p, l, e, s, m, args, below, meth, c, D, cA, A, Q, E⟩ := K
  intro C H locs ls hP hD hS hl
  exact lv_dup C.1 C.2.1 d hv (kk C H locs ls hP hD hS hl)
theorem V_dup_x1 {v w : Value} (d : decode S.1 pc = .ok (.dup_x1, 1)) (hv : v.category = 1) (hw : w.category = 1) (kk : V K S k n ws L (v :: w :: v :: st) (pc + 1)) : V K S k n ws L (v :: w :: st) (pc) := by
  obtain ⟨p, l, e, s, m, args, below, meth, c, D, cA, A, Q, E⟩ := K
  intro C H locs ls hP hD hS hl
  exact lv_dup_x1 C.1 C.2.1 d hv hw (kk C H locs ls hP hD hS hl)
theorem V_dup2 {v w : Value} (d : decode S.1 pc = .ok (.dup2, 1)) (hv : v.category = 1) (hw : w.category = 1) (kk : V K S k n ws L (v :: w :: v :: w :: st) (pc + 1)) : V K S k n ws L (v :: w :: st) (pc) := by
  obtain ⟨p, l, e, s, m, args, below, meth, c, D, cA, A, Q, E⟩ := K
  intro C H locs ls hP hD hS hl
  exact lv_dup2_11 C.1 C.2.1 d hv hw (kk C H locs ls hP hD hS hl)
theorem V_pop {v : Value} (d : decode S.1 pc = .ok (.pop, 1)) (hv : v.category = 1) (kk : V K S k n ws L (st) (pc + 1)) : V K S k n ws L (v :: st) (pc) := by
  obtain ⟨p, l, e, s, m, args, below, meth, c, D, cA, A, Q, E⟩ := K
  intro C H locs ls hP hD hS hl
  exact lv_pop C.1 C.2.1 d hv (kk C H locs ls hP hD hS hl)
theorem V_widen {k' n' : Nat} (h1 : k ≤ k') (h2 : n ≤ n') (kk : V K S k' n' ws L (st) (pc)) : V K S k n ws L (st) (pc) := by
  obtain ⟨p, l, e, s, m, args, below, meth, c, D, cA, A, Q, E⟩ := K
  intro C H locs ls hP hD hS hl
  exact W.widen h1 h2 (kk C H locs ls hP hD hS hl)
theorem V_tableIn {dflt lo hi x off : Int} {offs : Array Int} {len tgt : Nat} (d : decode S.1 pc = .ok (.tableswitch dflt lo hi offs, len)) (hx : iR x) (h1 : lo ≤ x) (h2 : x ≤ hi) (ho : offs[(x - lo).toNat]? = some off) (ht : (pc : Int) + off = (tgt : Int)) (kk : V K S k n ws L (st) (tgt)) : V K S k n ws L (.int (zI x) :: st) (pc) := by
  obtain ⟨p, l, e, s, m, args, below, meth, c, D, cA, A, Q, E⟩ := K
  intro C H locs ls hP hD hS hl
  exact lv_tableIn C.1 C.2.1 d (by rw [zI_toInt hx]; omega) (by rw [zI_toInt hx]; omega) (by rw [zI_toInt hx]; exact ho) ht (kk C H locs ls hP hD hS hl)
theorem V_tableOut {dflt lo hi x : Int} {offs : Array Int} {len tgt : Nat} (d : decode S.1 pc = .ok (.tableswitch dflt lo hi offs, len)) (hx : iR x) (h : x < lo ∨ hi < x) (ht : (pc : Int) + dflt = (tgt : Int)) (kk : V K S k n ws L (st) (tgt)) : V K S k n ws L (.int (zI x) :: st) (pc) := by
  obtain ⟨p, l, e, s, m, args, below, meth, c, D, cA, A, Q, E⟩ := K
  intro C H locs ls hP hD hS hl
  exact lv_tableOut C.1 C.2.1 d (by rw [zI_toInt hx]; exact h) ht (kk C H locs ls hP hD hS hl)
theorem V_getf {ref C0 : String} {T : u_T} {N ci idx a : Nat} {fs : List Value} {v : Value} (q0 j : Nat) (hin : ∀ w ∈ u_ws C0 T N, w ∈ WA) (hj : j < N) (hlink : Cond.fieldLink S.2.1 idx ref (T j).2.1 (T j).2.2.1 ∈ WA) (hsame : ref = (T j).1 ∨ Cond.sameField ref (T j).1 (T j).2.1 (T j).2.2.1 ∈ WA) (hc : vwCl[ci]? = some (C0, T, N)) (he : ws[q0]? = some (a, .inr (ci, fs))) (hv : fs[j]? = some v) (d : decode S.1 pc = .ok (.getfield idx, 3)) (kk : V K S k n ws L (v :: st) (pc + 3)) : V K S k n ws L (.ref a :: st) (pc) := by
  obtain ⟨p, l, e, s, m, args, below, meth, c, D, cA, A, Q, E⟩ := K
  intro C H locs ls hP hD hS hl
  have hsm : ∀ x, s.fieldFound? (T j).1 (T j).2.1 (T j).2.2.1 = some x → s.fieldFound? ref (T j).2.1 (T j).2.2.1 = some x := by
    rcases hsame with rfl | hsame
    · exact fun _ h => h
    · exact fun x hx => u_same (C.2.2.2.2.1 _ hsame) x hx
  exact va_get (Ts := WA) C.1 C.2.1 C.2.2.2.2.1 hin C.2.2.2.1 C.2.2.2.2.2.1 hP q0 (tw_get he) hc j hj (C.2.2.2.2.1 _ hlink) hsm hv d (kk C H locs ls hP hD hS hl)
theorem V_putf {ref C0 : String} {T : u_T} {N ci idx a : Nat} {fs : List Value} {v : Value} (q0 j : Nat) (hin : ∀ w ∈ u_ws C0 T N, w ∈ WA) (hj : j < N) (hlink : Cond.fieldLink S.2.1 idx ref (T j).2.1 (T j).2.2.1 ∈ WA) (hsame : ref = (T j).1 ∨ Cond.sameField ref (T j).1 (T j).2.1 (T j).2.2.1 ∈ WA) (ty0 : Nat → FieldType) (hty : ∀ k, k < N → parseFieldDescriptor (T k).2.2.1 = some (ty0 k)) (hnm : ∀ a, a < N → ∀ b, b < N → a ≠ b → (T a).2.1 ≠ (T b).2.1) (hfin : (T j).2.2.2 = false) (hc : vwCl[ci]? = some (C0, T, N)) (he : ws[q0]? = some (a, .inr (ci, fs))) (hl0 : j < fs.length) (hn : narrow (ty0 j) v = v) (hfit : fits (ty0 j) v = true) (d : decode S.1 pc = .ok (.putfield idx, 3)) (kk : V K S k n (ws.set q0 (a, .inr (ci, fs.set j v))) L (st) (pc + 3)) : V K S k n ws L (v :: .ref a :: st) (pc) := by
  obtain ⟨p, l, e, s, m, args, below, meth, c, D, cA, A, Q, E⟩ := K
  intro C H locs ls hP hD hS hl
  have hsm : ∀ x, s.fieldFound? (T j).1 (T j).2.1 (T j).2.2.1 = some x → s.fieldFound? ref (T j).2.1 (T j).2.2.1 = some x := by
    rcases hsame with rfl | hsame
    · exact fun _ h => h
    · exact fun x hx => u_same (C.2.2.2.2.1 _ hsame) x hx
  refine va_put (Ts := WA) C.1 C.2.1 C.2.2.2.2.1 hin ty0 hty hnm C.2.2.2.1 C.2.2.2.2.2.1 hP hD hS q0 (tw_get he) hc j hj (C.2.2.2.2.1 _ hlink) hsm hfin (hty j hj) hn hfit hl0 d (fun H1 locs1 hP1 hD1 hS1 => kk C H1 locs1 ls ?_ ?_ hS1 hl)
  · rw [← tw_set]; exact hP1
  · rw [← tw_set]; exact hD1
theorem V_iald {a N : Nat} {f : Int → Int} {i : Int} (q0 : Nat) (ha : ws[q0]? = some (a, .inl (0, N, .inl (zA f)))) (hi : 0 ≤ i ∧ i < (N : Int)) (hN : N < 2147483648) (d : decode S.1 pc = .ok (.iaload, 1)) (kk : V K S k n ws L (.int (zI (f i)) :: st) (pc + 1)) : V K S k n ws L (.int (zI i) :: .ref a :: st) (pc) := by
  obtain ⟨p, l, e, s, m, args, below, meth, c, D, cA, A, Q, E⟩ := K
  intro C H locs ls hP hD hS hl
  rw [← zA_get f hi.1 (by omega)] at kk
  exact va_iald C.1 C.2.1 C.2.2.2.2.2.1 hP q0 0 (tw_get ha) rfl (zI_in hi.1 hi.2 (by omega)) d (kk C H locs ls hP hD hS hl)
theorem V_zald {a N : Nat} {f : Int → Int} {i : Int} (q0 : Nat) (ha : ws[q0]? = some (a, .inl (1, N, .inl (zA f)))) (hi : 0 ≤ i ∧ i < (N : Int)) (hN : N < 2147483648) (d : decode S.1 pc = .ok (.baload, 1)) (kk : V K S k n ws L (.int (zI (f i)) :: st) (pc + 1)) : V K S k n ws L (.int (zI i) :: .ref a :: st) (pc) := by
  obtain ⟨p, l, e, s, m, args, below, meth, c, D, cA, A, Q, E⟩ := K
  intro C H locs ls hP hD hS hl
  rw [← zA_get f hi.1 (by omega)] at kk
  exact va_zald C.1 C.2.1 C.2.2.2.2.2.1 hP q0 1 (tw_get ha) rfl (zI_in hi.1 hi.2 (by omega)) d (kk C H locs ls hP hD hS hl)
theorem V_iast {a N : Nat} {f : Int → Int} {i v : Int} (q0 : Nat) (ha : ws[q0]? = some (a, .inl (0, N, .inl (zA f)))) (hi : 0 ≤ i ∧ i < (N : Int)) (hN : N < 2147483648) (d : decode S.1 pc = .ok (.iastore, 1)) (kk : V K S k n (ws.set q0 (a, .inl (0, N, .inl (zA (fup f i v))))) L (st) (pc + 1)) : V K S k n ws L (.int (zI v) :: .int (zI i) :: .ref a :: st) (pc) := by
  obtain ⟨p, l, e, s, m, args, below, meth, c, D, cA, A, Q, E⟩ := K
  intro C H locs ls hP hD hS hl
  refine va_iast C.1 C.2.1 C.2.2.2.2.2.1 hP hD hS q0 0 (tw_get ha) rfl (zI_in hi.1 hi.2 (by omega)) d (fun H1 locs1 hP1 hD1 hS1 => kk C H1 locs1 ls ?_ ?_ hS1 hl)
  · rw [← tw_set, ← zA_upd f v hi.1 (by omega)]; exact hP1
  · rw [← tw_set, ← zA_upd f v hi.1 (by omega)]; exact hD1
theorem vp_bz {b : Int} (h : b = 0 ∨ b = 1) : vp_nar .boolean (zI b) = zI b := by rcases h with rfl | rfl <;> decide
theorem V_zast {a N : Nat} {f : Int → Int} {i v : Int} (q0 : Nat) (ha : ws[q0]? = some (a, .inl (1, N, .inl (zA f)))) (hi : 0 ≤ i ∧ i < (N : Int)) (hN : N < 2147483648) (hv : v = 0 ∨ v = 1) (d : decode S.1 pc = .ok (.bastore, 1)) (kk : V K S k n (ws.set q0 (a, .inl (1, N, .inl (zA (fup f i v))))) L (st) (pc + 1)) : V K S k n ws L (.int (zI v) :: .int (zI i) :: .ref a :: st) (pc) := by
  obtain ⟨p, l, e, s, m, args, below, meth, c, D, cA, A, Q, E⟩ := K
  intro C H locs ls hP hD hS hl
  refine va_zast C.1 C.2.1 C.2.2.2.2.2.1 hP hD hS q0 1 (tw_get ha) rfl (zI_in hi.1 hi.2 (by omega)) d (fun H1 locs1 hP1 hD1 hS1 => kk C H1 locs1 ls ?_ ?_ hS1 hl)
  · rw [← tw_set, ← zA_upd f v hi.1 (by omega), ← vp_bz hv]; exact hP1
  · rw [← tw_set, ← zA_upd f v hi.1 (by omega), ← vp_bz hv]; exact hD1
theorem V_alen {a : Nat} {x : Nat × vp_A} {t : FieldType} (q0 : Nat) (ha : ws[q0]? = some (a, .inl x)) (ht : ∀ cA, (tyL cA)[x.1]? = some (cA x.1, t)) (d : decode S.1 pc = .ok (.arraylength, 1)) (kk : V K S k n ws L (.int (zI (x.2.1 : Int)) :: st) (pc + 1)) : V K S k n ws L (.ref a :: st) (pc) := by
  obtain ⟨p, l, e, s, m, args, below, meth, c, D, cA, A, Q, E⟩ := K
  intro C H locs ls hP hD hS hl
  rw [zI_nat] at kk
  exact va_alen C.1 C.2.1 C.2.2.2.2.2.1 hP q0 x.1 (tw_get ha) (ht cA) rfl d (kk C H locs ls hP hD hS hl)
theorem V_perm {ws' : vWd} (is : List Nat) (hn : va_nd is = true) (h : is.map (fun (i : Nat) => ws[i]?) = ws'.map some) (kk : V K S k n ws' L (st) (pc)) : V K S k n ws L (st) (pc) := by
  obtain ⟨p, l, e, s, m, args, below, meth, c, D, cA, A, Q, E⟩ := K
  intro C H locs ls hP hD hS hl
  have h1 := tw_places (cA := cA) h
  refine kk C H locs ls (fun k q hk => ?_) (hD.sub is hn h1) hS hl
  have h2 : ((tw cA ws').map some)[k]? = some (some q) := by rw [List.getElem?_map, hk]; rfl
  rw [← h1, List.getElem?_map] at h2
  cases hi : is[k]? with
  | none => rw [hi] at h2; cases h2
  | some i => rw [hi] at h2; exact hP i q (Option.some.inj h2)
end VR
