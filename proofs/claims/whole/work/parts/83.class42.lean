/-! the law: its environment, methods with handlers, calls of them -/
def NcL : List (String × String) := [(ISEs, IAEs), (IAEs, IOBs), (ISEs, IOBs)]
def EX (en : Nat → Nat) : EV := fun A U H => EN en A U H ∧ ∀ p ∈ NcL, va_Nc p.1 p.2 U
theorem EX.stb (en : Nat → Nat) : Stb (EX en) := by
  obtain ⟨h1, h2, h3⟩ := EN.stb en
  exact ⟨fun A B U H hAB h => ⟨h1 A B U H hAB h.1, h.2⟩, fun A u U H hW h => ⟨h2 A u U H hW h.1, fun p hp => va_Nc.moved hW.alike (h.2 p hp)⟩, fun A U H H1 hk h => ⟨h3 A U H H1 hk h.1, h.2⟩⟩
theorem PV.env {E E' : EV} (h : ∀ A U H, E' A U H → E A U H) {D : va_G} {cA : Nat → ClassId} {as : List Value} {ws : vWd} {sz : Nat} {a : Array Value} {s : State} (hp : PV E' D cA as ws sz a s) : PV E D cA as ws sz a s := by
  obtain ⟨h1, h2, h3, h4, h5, h6⟩ := hp
  exact ⟨h1, h2, h3, h4, h5, h _ _ _ h6⟩
theorem MetFree.pre {l : Launch} {x : MethodName} {S : Spec} {P P' : Array Value → State → Prop} {Kq : Program → Env → List Frame → State → Array Value → Prop} {Q : Array Value → State → Outcome → State → Prop} (h : ∀ a s, P' a s → P a s) (hM : MetFree l x S P Kq Q) : MetFree l x S P' Kq Q := fun p e h1 h2 h3 s m args below h4 h5 h6 h7 => hM p e h1 h2 h3 s m args below h4 h5 (h _ _ h6) h7
theorem MC.env {E E' : EV} (h : ∀ A U H, E' A U H → E A U H) {y : MethodName} {S : SI} {as : List Value} {ws : vWd} {Post : Option Value → vWd → Prop} (hM : MC E y S as ws Post) : MC E' y S as ws Post := fun l hl D cA sz => MetFree.pre (fun _ _ hp => PV.env h hp) (hM l hl D cA sz)
theorem MCX.env {E E' : EV} (h : ∀ A U H, E' A U H → E A U H) {y : MethodName} {S : SI} {as : List Value} {ws : vWd} {Post : Option Value → vWd → Prop} {XPost : String → vWd → Prop} (hM : MCX E y S as ws Post XPost) : MCX E' y S as ws Post XPost := fun l hl D cA sz => MetFree.pre (fun _ _ hp => PV.env h hp) (hM l hl D cA sz)
theorem EX.en {en : Nat → Nat} : ∀ A U H, EX en A U H → EN en A U H := fun _ _ _ h => h.1
def tabK (K : KT) : List ExceptionTableEntry := match K with | (_, _, _, _, _, _, _, _, c, _, _, _, _, _) => c.exceptionTable.toList
/-- the contract of a method with handlers, that returns -/
def MCH (E : EV) (y : MethodName) (S : SI) (hh : List (Nat × Nat × Nat × Nat)) (as : List Value) (ws : vWd) (Post : Option Value → vWd → Prop) : Prop := ∀ (l : Launch), l.stackTraces = false → ∀ (D : va_G) (cA : Nat → ClassId) (sz : Nat), Met l y (.codeWith y S.1 S.2.2.1 S.2.2.2.1 hh :: WA) S.2.2.2.2 (PV E D cA as ws sz) (QV D cA Post (va_A (tw cA ws) sz)) S.2.2.2.2.cells S.2.2.2.2.slots (va_A (tw cA ws) sz)
theorem Met.ofWH {l : Launch} {y : MethodName} {ws ws' : List Cond} {rm : Room} {Pc : Array Value → State → Prop} {Qc : Array Value → State → Outcome → State → Prop} {mc ms : Nat} {free : Addr → Prop} {cc : ByteArray} {maxL : Nat} {ret : Option FieldType} {hh : List (Nat × Nat × Nat × Nat)}
    (hy : plainName y.cls = true) (hw : ws = Cond.codeWith y cc maxL ret hh :: ws')
    (body : ∀ p e s m args below meth c s₁, BodyLoose p l y (headSpec ws rm) cc maxL ret e s m args below meth c s₁ → c.maxLocals = maxL → c.exceptionTable.toList = tableOf hh → Pc args s →
      W p l e (headSpec ws rm).room s m args below meth c s.heap [] 0 0 (MQ below Qc args s mc ms free) (entryFrame m args maxL)) : Met l y ws rm Pc Qc mc ms free := by
  refine MetFree.of_bodyS (code := cc) (maxLocals := maxL) (ret := ret) hy ?_ ?_
  · intro args s m h hn
    obtain ⟨m9, meth, c, hn9, h1, h2, h3, h4, -, h5, h6, -⟩ := Cond.codeWith_spec (atoms_spec (ws := ws) h _ (by rw [hw]; exact List.mem_cons_self))
    cases hn.symm.trans hn9
    exact ⟨meth, c, h1, h2, h3, h4, h5, h6⟩
  · intro p e s m args below meth c s₁ B hml hP _
    have hh0 : s₁.heap = s.heap := by rw [B.state]; rfl
    have ht := vx_table (x := y) B (atoms_spec (ws := ws) B.pre _ (by rw [hw]; exact List.mem_cons_self))
    obtain ⟨t, a1, o, b1, b2, b3⟩ := body p e s m args below meth c s₁ B hml ht hP s₁ hh0 (Stand.of_body B)
    exact ⟨t, o, a1, b1, b2, ⟨b3.1, b3.2⟩⟩
theorem wa_goodInH {x y : Cond} (h : y ∈ WA) : GoodIn (x :: WA) (y :: WA) := wa_goodIn h
theorem MCH.of {E : EV} (hE : Stb E) {y : MethodName} {S : SI} {hh : List (Nat × Nat × Nat × Nat)} {as : List Value} {ws : vWd} {Post : Option Value → vWd → Prop} (L0 : List (Option Value)) (r : Nat) (hL0 : as.map some ++ List.replicate r none = L0) (hy : plainName y.cls = true) (hS : y.cls = S.2.1) (hc : ∀ v ∈ as, v.category = 1) (hm : as.length ≤ S.2.2.1)
    (body : ∀ K : KT, evK K = E → tabK K = tableOf hh → RetOK K S.2.2.2.2.cells S.2.2.2.2.slots Post → V K S 0 0 ws L0 [] 0) : MCH E y S hh as ws Post := by
  subst hL0
  intro l hst D cA sz
  refine Met.ofWH (cc := S.1) (maxL := S.2.2.1) (ret := S.2.2.2.1) hy rfl ?_
  intro p e s m args below meth c s₁ B hml ht hv
  obtain ⟨rfl, hsz, hP, hK, hD0, hEv⟩ := hv
  have hts := atoms_spec (ws := .codeWith y S.1 S.2.2.1 S.2.2.2.1 hh :: WA) B.pre
  have hown : s.vm.findClass y.cls = some m.cls := findClass_of_methodNamed B.named
  subst hsz
  rw [lg_entry_eq]
  exact body (p, l, e, s, m, as.toArray, below, meth, c, D, cA, va_A (tw cA ws) s.heap.size, MQ below (QV D cA Post (va_A (tw cA ws) s.heap.size)) as.toArray s S.2.2.2.2.cells S.2.2.2.2.slots (va_A (tw cA ws) s.heap.size), E) rfl ht (fun _ _ _ _ h => h)
    ⟨B.exec, B.bytes, hml, hS ▸ hown, fun w hw => hts w (List.mem_cons_of_mem _ hw), hK, fun q h => Or.inr h, B.notSynchronized, B.returns, hst, hE, hEv⟩ s.heap [] _ hP hD0.self va_S.rf (lvO.entry hc hm)
def MOKH (y : MethodName) (S : SI) (hh : List (Nat × Nat × Nat × Nat)) (n : Nat) : Prop := Cond.codeWith y S.1 S.2.2.1 S.2.2.2.1 hh ∈ WA ∧ Cond.initialized y.cls ∈ WA ∧ (y.cls ≠ "java/lang/invoke/MethodHandle" ∧ y.cls ≠ "java/lang/invoke/VarHandle" ∧ (parseMethodDescriptor y.desc).map (fun d => d.parameters.length) = some n)
section VH
variable {K : KT} {S : SI} {k n : Nat} {ws : vWd} {L : List (Option Value)} {st : List Value} {pc : Nat} {Post : Option Value → vWd → Prop} {XPost : String → vWd → Prop}
/-- what a handler must say of a class thrown -/
def HD (K : KT) (S : SI) (hh : List (Nat × Nat × Nat × Nat)) (pc : Nat) (X : String) (h : Nat) : Prop := ∃ (pre : List ExceptionTableEntry) (x : ExceptionTableEntry) (suf : List ExceptionTableEntry), tableOf hh = pre ++ x :: suf ∧ (∀ z ∈ pre, z.catchType ≠ 0 ∧ ∃ nm : String, Cond.classLink S.2.1 z.catchType nm ∈ WA ∧ (X, nm) ∈ NcL) ∧ covers x pc = true ∧ x.catchType ≠ 0 ∧ Cond.classLink S.2.1 x.catchType X ∈ WA ∧ Cond.castable X X ∈ WN ∧ x.handlerPc = h
theorem V_callXVAH {en : Nat → Nat} {hh : List (Nat × Nat × Nat × Nat)} {y : MethodName} {S' : SI} {As stk : List Value} {b : Nat} {idx : Nat} {q0 ci : Nat} {fs : List Value} {T : u_T} {N : Nat} (hb : ws[q0]? = some (b, .inr (ci, fs))) (hc : vwCl[ci]? = some (y.cls, T, N)) {wc wr : vWd} (hw : ws = wc ++ wr) (hE : evK K = EX en) (hT : tabK K = tableOf hh) (hM : MCX (EX en) y S' (.ref b :: As) wc Post XPost) (hM0 : MOK y S' As.length) (hlk : Cond.methodLink S.2.1 idx y ∈ WA) (hin : Cond.instanceMethod y ∈ WA) (hsel : Cond.selects y.cls y y ∈ WA) (hR : ROK S S') (hstk : stk = As.reverse ++ .ref b :: st) (hcat : (st.map fun v => v.category).sum ≤ 8) (hroom : k + S'.2.2.2.2.cells ≤ S.2.2.2.2.cells ∧ n + S'.2.2.2.2.slots ≤ S.2.2.2.2.slots) (d : decode S.1 pc = .ok (.invokevirtual idx, 3))
    (hx : ∀ (X : String) (w : vWd), XPost X w → ∃ h : Nat, HD K S hh pc X h ∧ ∀ q : Nat, V K S (k + S'.2.2.2.2.cells) (n + S'.2.2.2.2.slots) (w ++ wr) L [.ref q] h)
    (kk : ∀ (v : Option Value) (w : vWd), Post v w → V K S (k + S'.2.2.2.2.cells) (n + S'.2.2.2.2.slots) (w ++ wr) L (v.toList ++ st) (pc + 3)) : V K S k n ws L stk pc := by
  obtain ⟨p, l, e, s, m, args, below, meth, c, D, cA, A, Q, E0⟩ := K
  have hE' : E0 = EX en := hE
  subst hE'
  subst hstk
  intro C H locs ls hP hD hS hl
  subst hw
  have hbr := va_recv C.2.2.2.2.2.1 hP hc (tw_get hb)
  rw [tw_app] at hP hD
  have hPc : va_P D vwCl (tw cA wc) H := hP.left
  have hPr : va_P D vwCl (tw cA wr) H := hP.right
  have hDc : va_D A (tw cA wc) := hD.left
  have hDr : va_D A (tw cA wr) := hD.right
  have hap := hD.apart
  have hF := va_A_sub hDc hS C.2.2.2.2.2.2.1
  have hr : vx_Run p l e S.2.2.2.2 s m args below meth c H locs k n S'.2.2.2.2.cells S'.2.2.2.2.slots (F0 m pc ls (As.reverse ++ .ref b :: st)) st (QV D cA Post (va_A (tw cA wc) H.size) (.ref b :: As).toArray) (XV D cA XPost (va_A (tw cA wc) H.size)) (va_A (tw cA wc) H.size) := by
    refine vx_runV (As := As) (rest := st) (n := As.length) (Ts := WA) ⟨C.1, C.2.1, C.2.2.1, C.2.2.2.1, C.2.2.2.2.1⟩ (hM l C.2.2.2.2.2.2.2.2.2.1 D cA H.size) ⟨(callB_of As.length C.2.2.2.2.1 (wa_goodIn0 hM0.1) rfl rfl rfl (C.2.2.2.2.1 _ hM0.2.1) (C.2.2.2.2.1 _ hlk) hM0.2.2 hR), C.2.2.2.2.1 _ hin, C.2.2.2.2.1 _ hsel⟩ ⟨PV.blind C.2.2.2.2.2.2.2.2.2.2.1, hbr, fun U hU hW => ?_⟩ rfl rfl hl.1 rfl (lv_room hcat) d hroom
    exact ⟨rfl, by rw [hU], by rw [hU]; exact hPc, va_K.moved hW.alike C.2.2.2.2.2.1, hDc.weaken (fun _ _ _ _ => trivial), by
      rw [hU]
      exact C.2.2.2.2.2.2.2.2.2.2.1.1 _ _ _ _ hF (C.2.2.2.2.2.2.2.2.2.2.1.2.1 _ s U _ hW (C.2.2.2.2.2.2.2.2.2.2.1.2.2 _ _ _ _ hS.2.1 C.2.2.2.2.2.2.2.2.2.2.2))⟩
  have hap2 : ∀ (i j : Nat) (x y : Nat × va_E), (tw cA wr)[i]? = some x → (tw cA wc)[j]? = some y → x.1 = y.1 → False := fun i j x y h1 h2 h3 => hap j i y x h2 h1 h3.symm
  have hjP : ∀ (w : vWd) (H1 : Heap), va_P D vwCl (tw cA w) H1 → (∀ q : Nat, q < H.size → ¬ va_A (tw cA wc) H.size q → H1[q]? = H[q]?) → va_P D vwCl (tw cA (w ++ wr)) H1 := fun w H1 hP1 hk1 => by rw [tw_app]; exact va_P.app hP1 (hPr.keepO hap2 hk1)
  have hjD : ∀ (w : vWd), va_D (va_A (tw cA wc) H.size) (tw cA w) → va_D A (tw cA (w ++ wr)) := fun w hD1 => by rw [tw_app]; exact va_D.app (hD1.weaken (fun j q _ h => hF q.1 h)) hDr (fun i j x y hx hy => joinA hD1 hPr hap2 i j x y hx hy)
  refine vq_callX hr hS (fun q _ h => hF q h) hF (fun X ce q9 w H1 locs1 hp hP1 hD1 hz1 hk1 hS1 hce hcv hcl => ?_) (fun v w H1 locs1 hp hP1 hD1 hz1 hk1 hS1 => kk v w hp C H1 locs1 ls (hjP w H1 hP1 hk1) (hjD w hD1) hS1 hl)
  obtain ⟨h, ⟨pre, x, suf, e1, e2, e3, e4, e5, e6, e7⟩, hv⟩ := hx X w hp
  have hEx := C.2.2.2.2.2.2.2.2.2.2.2
  have hT' : c.exceptionTable.toList = tableOf hh := hT
  refine vx_catch (name := X) C.2.2.2.1 pre x suf (hT'.trans e1) (fun z hz => Or.inr ⟨(e2 z hz).1, ?_⟩) e3 e4 (C.2.2.2.2.1 _ e5) (va_Nw.use rfl (hEx.1.1 _ e6)) hce hcv hcl ?_
  · obtain ⟨-, nm, g1, g2⟩ := e2 z hz
    exact ⟨nm, C.2.2.2.2.1 _ g1, hEx.2 _ g2⟩
  · rw [e7]
    exact hv q9 C H1 locs1 ls (hjP w H1 hP1 hk1) (hjD w hD1) hS1 hl
theorem V_callSBH {E : EV} {hh : List (Nat × Nat × Nat × Nat)} {y : MethodName} {S' : SI} {As stk : List Value} {idx : Nat} {wc wr : vWd} (hw : ws = wr ++ wc) (hE : evK K = E) (hM : MCH E y S' hh As wc Post) (hM0 : MOKH y S' hh As.length) (hlk : Cond.methodLink S.2.1 idx y ∈ WA) (hst' : Cond.static y ∈ WA) (hR : ROK S S') (hstk : stk = As.reverse ++ st) (hcat : (st.map fun v => v.category).sum ≤ 8) (hroom : k + S'.2.2.2.2.cells ≤ S.2.2.2.2.cells ∧ n + S'.2.2.2.2.slots ≤ S.2.2.2.2.slots) (d : decode S.1 pc = .ok (.invokestatic idx, 3))
    (kk : ∀ (v : Option Value) (w : vWd), Post v w → V K S (k + S'.2.2.2.2.cells) (n + S'.2.2.2.2.slots) (wr ++ w) L (v.toList ++ st) (pc + 3)) : V K S k n ws L stk pc := by
  obtain ⟨p, l, e, s, m, args, below, meth, c, D, cA, A, Q, E0⟩ := K
  have hE' : E0 = E := hE
  subst hE'
  subst hstk
  intro C H locs ls hP hD hS hl
  subst hw
  rw [tw_app] at hP hD
  have hPc : va_P D vwCl (tw cA wc) H := hP.right
  have hPr : va_P D vwCl (tw cA wr) H := hP.left
  have hDc : va_D A (tw cA wc) := hD.right
  have hDr : va_D A (tw cA wr) := hD.left
  have hap := hD.apart
  have hF := va_A_sub hDc hS C.2.2.2.2.2.2.1
  have hG : GoodIn WA (va_wsS S.2.1 idx y (.codeWith y S'.1 S'.2.2.1 S'.2.2.2.1 hh :: WA)) := by
    intro w hw
    have hmem : w ∈ WA := by
      unfold va_wsS at hw
      rcases List.mem_append.mp hw with h | h
      · simp only [List.mem_cons, List.not_mem_nil, or_false] at h
        rcases h with rfl | rfl | rfl
        · exact hlk
        · exact hst'
        · exact hM0.2.1
      · rcases List.mem_cons.mp h with rfl | h
        · exact hM0.1
        · exact h
    exact ⟨hmem, good_of_word (wa_good hmem)⟩
  have hr : va_Run p l e S.2.2.2.2 s m args below meth c H locs k n S'.2.2.2.2.cells S'.2.2.2.2.slots (F0 m pc ls (As.reverse ++ st)) st (QV D cA Post (va_A (tw cA wc) H.size) As.toArray) (va_A (tw cA wc) H.size) := by
    refine vx_runSW (As := As) (rest := st) (n := As.length) (Ts := WA) ⟨C.1, C.2.1, C.2.2.1, C.2.2.2.1, C.2.2.2.2.1⟩ (hM l C.2.2.2.2.2.2.2.2.2.1 D cA H.size) (vx_cwSW As.length C.2.2.2.2.1 hG rfl rfl rfl hM0.2.2 hR) ⟨PV.blind C.2.2.2.2.2.2.2.2.2.2.1, fun U hU hW => ?_⟩ rfl rfl hl.1 rfl (lv_room hcat) d hroom
    exact ⟨rfl, by rw [hU], by rw [hU]; exact hPc, va_K.moved hW.alike C.2.2.2.2.2.1, hDc.weaken (fun _ _ _ _ => trivial), by
      rw [hU]
      exact C.2.2.2.2.2.2.2.2.2.2.1.1 _ _ _ _ hF (C.2.2.2.2.2.2.2.2.2.2.1.2.1 _ s U _ hW (C.2.2.2.2.2.2.2.2.2.2.1.2.2 _ _ _ _ hS.2.1 C.2.2.2.2.2.2.2.2.2.2.2))⟩
  refine vq_call hr hS (fun q _ h => hF q h) hF (fun v w H1 locs1 hp hP1 hD1 hz1 hk1 hS1 => kk v w hp C H1 locs1 ls ?_ ?_ hS1 hl)
  · rw [tw_app]; exact va_P.app (hPr.keepO (fun _ _ _ _ h1 h2 h3 => hap _ _ _ _ h1 h2 h3) hk1) hP1
  · rw [tw_app]; exact va_D.app hDr (hD1.weaken (fun j q _ h => hF q.1 h)) (fun i j x y hx hy hxy => joinA hD1 hPr (fun _ _ _ _ h1 h2 h3 => hap _ _ _ _ h1 h2 h3) j i y x hy hx hxy.symm)
-- an array of longs
abbrev lE (N : Nat) (f : Nat → Int64) : vE := .inl (2, N, .inr (.inl f))
theorem V_last {a N : Nat} {f : Nat → Int64} {i : Int} {x : Int64} (q0 : Nat) (ha : ws[q0]? = some (a, lE N f)) (hi : 0 ≤ i ∧ i < (N : Int)) (hN : N < 2147483648) (d : decode S.1 pc = .ok (.lastore, 1)) (kk : V K S k n (ws.set q0 (a, lE N (vp_updL f i.toNat x))) L st (pc + 1)) : V K S k n ws L (.long x :: .int (zI i) :: .ref a :: st) pc := by
  obtain ⟨p, l, e, s, m, args, below, meth, c, D, cA, A, Q, E⟩ := K
  intro C H locs ls hP hD hS hl
  refine va_last C.1 C.2.1 C.2.2.2.2.2.1 hP hD hS q0 2 (tw_get ha) rfl (zI_in hi.1 hi.2 (by omega)) d (fun H1 locs1 hP1 hD1 hS1 => kk C H1 locs1 ls ?_ ?_ hS1 hl)
  · rw [← tw_set, ← zI_cl hi.1 (by omega)]; exact hP1
  · rw [← tw_set, ← zI_cl hi.1 (by omega)]; exact hD1
theorem V_lald {a N : Nat} {f : Nat → Int64} {i : Int} (q0 : Nat) (ha : ws[q0]? = some (a, lE N f)) (hi : 0 ≤ i ∧ i < (N : Int)) (hN : N < 2147483648) (d : decode S.1 pc = .ok (.laload, 1)) (kk : V K S k n ws L (.long (f i.toNat) :: st) (pc + 1)) : V K S k n ws L (.int (zI i) :: .ref a :: st) pc := by
  obtain ⟨p, l, e, s, m, args, below, meth, c, D, cA, A, Q, E⟩ := K
  intro C H locs ls hP hD hS hl
  rw [← zI_cl hi.1 (by omega)] at kk
  exact va_lald C.1 C.2.1 C.2.2.2.2.2.1 hP q0 2 (tw_get ha) rfl (zI_in hi.1 hi.2 (by omega)) d (kk C H locs ls hP hD hS hl)
end VH
/-- what a wrapper answers: the number of the exception, the answer laid into the row -/
def LQ (en c : Nat → Nat) (o : Nat) (sp : SP) (B : Bool) : Option Value → vWd → Prop := fun v w => ∃ (c2 : Nat → Nat) (κ2 : St) (g : Nat → Int64), v = some (.int (zI sp.1)) ∧ w = fm (cO en c2 κ2) ++ [(o, lE 1 g)] ∧ c2 0 = c 0 ∧ CWP sp.2.2 κ2 ∧ (0 ≤ sp.1 ∧ sp.1 ≤ 3) ∧ (sp.1 = 0 → g 0 = (zI sp.2.1).toInt64 ∧ (B = true → sp.2.1 = 0 ∨ sp.2.1 = 1))
theorem fm_cw (en c : Nat → Nat) (κ : St) (w : vWd) : (fm (cO en c κ) ++ w)[0]? = some (c 0, .inr (9, cwF c κ)) := rfl
theorem fm_out (en c : Nat → Nat) (κ : St) (o : Nat) (g : Nat → Int64) : (fm (cO en c κ) ++ [(o, lE 1 g)])[(fm (cO en c κ)).length]? = some (o, lE 1 g) := by rw [List.getElem?_append_right (Nat.le_refl _), Nat.sub_self]; rfl
theorem fm_set (en c : Nat → Nat) (κ : St) (o : Nat) (g : Nat → Int64) (x : Nat × vE) : (fm (cO en c κ) ++ [(o, lE 1 g)]).set (fm (cO en c κ)).length x = fm (cO en c κ) ++ [x] := by rw [List.set_append_right _ _ (Nat.le_refl _), Nat.sub_self]; rfl
theorem LQ.ok {en c c2 : Nat → Nat} {κ2 : St} {o : Nat} {sp : SP} {B : Bool} {f : Nat → Int64} {x : Int64} (h : sp.1 = 0) (hc : c2 0 = c 0) (hC : CWP sp.2.2 κ2) (hx : x = (zI sp.2.1).toInt64) (hB : B = true → sp.2.1 = 0 ∨ sp.2.1 = 1) : LQ en c o sp B (some (.int (zI 0))) (fm (cO en c2 κ2) ++ [(o, lE 1 (vp_updL f (0 : Int).toNat x))]) := ⟨c2, κ2, _, by rw [h], rfl, hc, hC, by omega, fun _ => ⟨hx, hB⟩⟩
theorem LQ.thrown {en c : Nat → Nat} {κ2 : St} {o : Nat} {sp : SP} {P : St} {B : Bool} {g : Nat → Int64} {n : Int} (h : sp.1 = n) (hn : 1 ≤ n ∧ n ≤ 3) (hP : sp.2.2 = P) (hC : CWP P κ2) : LQ en c o sp B (some (.int (zI n))) (fm (cO en c κ2) ++ [(o, lE 1 g)]) := ⟨c, κ2, g, by rw [h], rfl, rfl, by rw [hP]; exact hC, by omega, fun z => by omega⟩

theorem MC.post {E : EV} {y : MethodName} {S : SI} {as : List Value} {ws : vWd} {Post Post' : Option Value → vWd → Prop} (hM : MC E y S as ws Post) (h : ∀ v w, Post v w → Post' v w) : MC E y S as ws Post' := by
  intro l hl D cA sz p e h1 h2 h3 s m args below h4 h5 h6 h7
  obtain ⟨n, o, g1, g2, g3, ⟨⟨v, w, q1, q2, q3⟩, qF⟩, g5⟩ := hM l hl D cA sz p e h1 h2 h3 s m args below h4 h5 h6 h7
  exact ⟨n, o, g1, g2, g3, ⟨⟨v, w, q1, h v w q2, q3⟩, qF⟩, g5⟩
theorem gd_b {c : Prop} [Decidable c] {k : Int} {P : St} {r : SP} (h : c → r.2.1 = 0 ∨ r.2.1 = 1) : (gd c k P r).2.1 = 0 ∨ (gd c k P r).2.1 = 1 := by
  by_cases hc : c
  · rw [gd_t hc]; exact h hc
  · rw [gd_f hc]; exact Or.inl rfl
theorem bzv (b : Bool) : bz b = 0 ∨ bz b = 1 := by cases b; exact Or.inl rfl; exact Or.inr rfl
abbrev sL_addStatement : SI := (cL_addStatement, RL, 4, (some (FieldType.int)), ⟨8, 6, 35, 173⟩)
theorem w506 : Cond.codeWith yL_addStatement cL_addStatement 4 (Option.some Jvm.ClassFile.FieldType.int) [(0, 9, 12, 13), (0, 9, 15, 15)] ∈ WA := wa_of (wm3 (List.mem_of_getElem? (i := 26) rfl)) rfl
theorem mokL_addStatement : MOKH yL_addStatement sL_addStatement [(0, 9, 12, 13), (0, 9, 15, 15)] 3 := ⟨w506, w0, by decide +kernel⟩
set_option maxRecDepth 100000 in
set_option maxHeartbeats 4000000 in
theorem l_addStatement (en c : Nat → Nat) (κ P : St) (o : Nat) (g : Nat → Int64) (p0 : Int) (hM : MI P) (hC : CWP P κ) (h_p0 : iR p0) : MCH (EX en) yL_addStatement sL_addStatement [(0, 9, 12, 13), (0, 9, 15, 15)] [.ref (c 0), .int (zI p0), .ref o] (fm (cO en c κ) ++ [(o, lE 1 g)]) (LQ en c o (sp_addStatement P p0) false) := by
  refine MCH.of (EX.stb en) [some (.ref (c 0)), some (.int (zI p0)), some (.ref o), none] 1 rfl rfl rfl (by simp [Value.category]) (Nat.le_of_ble_eq_true rfl) (fun K hK hT hR => ?_)
  refine V_aload_n dL_addStatement_0 rfl ?_
  refine V_iconst dL_addStatement_1 ?_
  refine V_aload_n dL_addStatement_2 rfl ?_
  refine V_iload_n dL_addStatement_3 rfl ?_
  refine V_callXVAH (As := [.int (zI p0)]) (b := c 0) (q0 := 0) (ci := 9) (fs := cwF c κ) (T := TX10) (N := 9) (fm_cw en c κ _) rfl (wc := fm (cO en c κ)) (wr := [(o, lE 1 g)]) rfl hK hT (MCX.env EX.en (k_addStatement en c κ p0 P ⟨hM, hC.1, h_p0, hC.2.1, hC.2.2⟩)) mokX10_addStatement w509 w510 w511 ⟨Nat.le_of_ble_eq_true rfl, Nat.le_of_ble_eq_true rfl⟩ rfl (Nat.le_of_ble_eq_true rfl) ⟨Nat.le_of_ble_eq_true rfl, Nat.le_of_ble_eq_true rfl⟩ dL_addStatement_4 (fun X w hx => ?_) (fun v w hx => ?_)
  · obtain ⟨κ9, rfl, hC9, hP9, hL⟩ := hx
    simp only [List.mem_cons, List.not_mem_nil, or_false, Prod.mk.injEq] at hL
    rcases hL with ⟨e, rfl⟩ | ⟨e, rfl⟩
    · refine ⟨12, ⟨tableOf [], ⟨0, 9, 12, 13⟩, tableOf [(0, 9, 15, 15)], rfl, fun z hz => absurd hz List.not_mem_nil, by decide, by decide, w507, wn518, rfl⟩, fun q => ?_⟩
      refine V_astore_n (L' := [some (.ref (c 0)), some (.int (zI p0)), some (.ref o), some (.ref q)]) dL_addStatement_12 (by decide) rfl ?_
      refine V_iconst dL_addStatement_13 ?_
      refine V_iret hR rfl (Nat.le_of_ble_eq_true rfl) (Nat.le_of_ble_eq_true rfl) dL_addStatement_14 ?_
      exact LQ.thrown e ⟨by decide, by decide⟩ hP9 hC9
    · refine ⟨15, ⟨tableOf [(0, 9, 12, 13)], ⟨0, 9, 15, 15⟩, tableOf [], rfl, all1 ⟨by decide, _, w507, by simp [NcL]⟩, by decide, by decide, w508, wn586, rfl⟩, fun q => ?_⟩
      refine V_astore_n (L' := [some (.ref (c 0)), some (.int (zI p0)), some (.ref o), some (.ref q)]) dL_addStatement_15 (by decide) rfl ?_
      refine V_iconst dL_addStatement_16 ?_
      refine V_iret hR rfl (Nat.le_of_ble_eq_true rfl) (Nat.le_of_ble_eq_true rfl) dL_addStatement_17 ?_
      exact LQ.thrown e ⟨by decide, by decide⟩ hP9 hC9
  · obtain ⟨c2, κ2, rfl, rfl, e0, e1, hC2⟩ := hx
    show V K sL_addStatement 6 35 (fm (cO en c2 κ2) ++ [(o, lE 1 g)]) [some (.ref (c 0)), some (.int (zI p0)), some (.ref o), none] [.int (zI ((sp_addStatement P p0).2.1)), .int (zI 0), .ref o] 7
    refine V_i2l dL_addStatement_7 ?_
    refine V_last (N := 1) _ (fm_out en c2 κ2 o g) ⟨by decide, by decide⟩ (by decide) dL_addStatement_8 ?_
    rw [fm_set]
    refine V_goto (tgt := 18) dL_addStatement_9 (by decide) ?_
    refine V_iconst dL_addStatement_18 ?_
    refine V_iret hR rfl (Nat.le_of_ble_eq_true rfl) (Nat.le_of_ble_eq_true rfl) dL_addStatement_19 ?_
    exact LQ.ok e1 e0 hC2 rfl (fun z => absurd z (by decide))
abbrev sL_addRead : SI := (cL_addRead, RL, 8, (some (FieldType.int)), ⟨8, 8, 50, 178⟩)
theorem w699 : Cond.codeWith yL_addRead cL_addRead 8 (Option.some Jvm.ClassFile.FieldType.int) [(0, 16, 19, 21), (0, 16, 23, 13), (0, 16, 27, 15)] ∈ WA := wa_of (wm3 (List.mem_of_getElem? (i := 219) rfl)) rfl
theorem mokL_addRead : MOKH yL_addRead sL_addRead [(0, 16, 19, 21), (0, 16, 23, 13), (0, 16, 27, 15)] 7 := ⟨w699, w0, by decide +kernel⟩
set_option maxRecDepth 100000 in
set_option maxHeartbeats 4000000 in
theorem l_addRead (en c : Nat → Nat) (κ P : St) (o : Nat) (g : Nat → Int64) (p0 : Int) (p1 : Int) (p2 : Int) (p3 : Int) (p4 : Int) (hM : MI P) (hC : CWP P κ) (h_p0 : iR p0) (h_p1 : iR p1) (h_p2 : iR p2) (h_p3 : iR p3) (h_p4 : iR p4) : MCH (EX en) yL_addRead sL_addRead [(0, 16, 19, 21), (0, 16, 23, 13), (0, 16, 27, 15)] [.ref (c 0), .int (zI p0), .int (zI p1), .int (zI p2), .int (zI p3), .int (zI p4), .ref o] (fm (cO en c κ) ++ [(o, lE 1 g)]) (LQ en c o (sp_addRead P p0 p1 p2 p3 p4) false) := by
  refine MCH.of (EX.stb en) [some (.ref (c 0)), some (.int (zI p0)), some (.int (zI p1)), some (.int (zI p2)), some (.int (zI p3)), some (.int (zI p4)), some (.ref o), none] 1 rfl rfl rfl (by simp [Value.category]) (Nat.le_of_ble_eq_true rfl) (fun K hK hT hR => ?_)
  refine V_aload dL_addRead_0 rfl ?_
  refine V_iconst dL_addRead_2 ?_
  refine V_aload_n dL_addRead_3 rfl ?_
  refine V_iload_n dL_addRead_4 rfl ?_
  refine V_iload_n dL_addRead_5 rfl ?_
  refine V_iload_n dL_addRead_6 rfl ?_
  refine V_iload dL_addRead_7 rfl ?_
  refine V_iload dL_addRead_9 rfl ?_
  refine V_callXVAH (As := [.int (zI p0), .int (zI p1), .int (zI p2), .int (zI p3), .int (zI p4)]) (b := c 0) (q0 := 0) (ci := 9) (fs := cwF c κ) (T := TX10) (N := 9) (fm_cw en c κ _) rfl (wc := fm (cO en c κ)) (wr := [(o, lE 1 g)]) rfl hK hT (MCX.env EX.en (k_addRead en c κ p0 p1 p2 p3 p4 P ⟨hM, hC.1, h_p0, h_p1, h_p2, h_p3, h_p4, hC.2.1, hC.2.2⟩)) mokX10_addRead w701 w702 w703 ⟨Nat.le_of_ble_eq_true rfl, Nat.le_of_ble_eq_true rfl⟩ rfl (Nat.le_of_ble_eq_true rfl) ⟨Nat.le_of_ble_eq_true rfl, Nat.le_of_ble_eq_true rfl⟩ dL_addRead_11 (fun X w hx => ?_) (fun v w hx => ?_)
  · obtain ⟨κ9, rfl, hC9, hP9, hL⟩ := hx
    simp only [List.mem_cons, List.not_mem_nil, or_false, Prod.mk.injEq] at hL
    rcases hL with ⟨e, rfl⟩ | ⟨e, rfl⟩ | ⟨e, rfl⟩
    · refine ⟨19, ⟨tableOf [], ⟨0, 16, 19, 21⟩, tableOf [(0, 16, 23, 13), (0, 16, 27, 15)], rfl, fun z hz => absurd hz List.not_mem_nil, by decide, by decide, w700, wn711, rfl⟩, fun q => ?_⟩
      refine V_astore (L' := [some (.ref (c 0)), some (.int (zI p0)), some (.int (zI p1)), some (.int (zI p2)), some (.int (zI p3)), some (.int (zI p4)), some (.ref o), some (.ref q)]) dL_addRead_19 (by decide) rfl ?_
      refine V_iconst dL_addRead_21 ?_
      refine V_iret hR rfl (Nat.le_of_ble_eq_true rfl) (Nat.le_of_ble_eq_true rfl) dL_addRead_22 ?_
      exact LQ.thrown e ⟨by decide, by decide⟩ hP9 hC9
    · refine ⟨23, ⟨tableOf [(0, 16, 19, 21)], ⟨0, 16, 23, 13⟩, tableOf [(0, 16, 27, 15)], rfl, all1 ⟨by decide, _, w700, by simp [NcL]⟩, by decide, by decide, w507, wn518, rfl⟩, fun q => ?_⟩
      refine V_astore (L' := [some (.ref (c 0)), some (.int (zI p0)), some (.int (zI p1)), some (.int (zI p2)), some (.int (zI p3)), some (.int (zI p4)), some (.ref o), some (.ref q)]) dL_addRead_23 (by decide) rfl ?_
      refine V_iconst dL_addRead_25 ?_
      refine V_iret hR rfl (Nat.le_of_ble_eq_true rfl) (Nat.le_of_ble_eq_true rfl) dL_addRead_26 ?_
      exact LQ.thrown e ⟨by decide, by decide⟩ hP9 hC9
    · refine ⟨27, ⟨tableOf [(0, 16, 19, 21), (0, 16, 23, 13)], ⟨0, 16, 27, 15⟩, tableOf [], rfl, all2 ⟨by decide, _, w700, by simp [NcL]⟩ ⟨by decide, _, w507, by simp [NcL]⟩, by decide, by decide, w508, wn586, rfl⟩, fun q => ?_⟩
      refine V_astore (L' := [some (.ref (c 0)), some (.int (zI p0)), some (.int (zI p1)), some (.int (zI p2)), some (.int (zI p3)), some (.int (zI p4)), some (.ref o), some (.ref q)]) dL_addRead_27 (by decide) rfl ?_
      refine V_iconst dL_addRead_29 ?_
      refine V_iret hR rfl (Nat.le_of_ble_eq_true rfl) (Nat.le_of_ble_eq_true rfl) dL_addRead_30 ?_
      exact LQ.thrown e ⟨by decide, by decide⟩ hP9 hC9
  · obtain ⟨c2, κ2, rfl, rfl, e0, e1, hC2⟩ := hx
    show V K sL_addRead 8 50 (fm (cO en c2 κ2) ++ [(o, lE 1 g)]) [some (.ref (c 0)), some (.int (zI p0)), some (.int (zI p1)), some (.int (zI p2)), some (.int (zI p3)), some (.int (zI p4)), some (.ref o), none] [.int (zI ((sp_addRead P p0 p1 p2 p3 p4).2.1)), .int (zI 0), .ref o] 14
    refine V_i2l dL_addRead_14 ?_
    refine V_last (N := 1) _ (fm_out en c2 κ2 o g) ⟨by decide, by decide⟩ (by decide) dL_addRead_15 ?_
    rw [fm_set]
    refine V_goto (tgt := 31) dL_addRead_16 (by decide) ?_
    refine V_iconst dL_addRead_31 ?_
    refine V_iret hR rfl (Nat.le_of_ble_eq_true rfl) (Nat.le_of_ble_eq_true rfl) dL_addRead_32 ?_
    exact LQ.ok e1 e0 hC2 rfl (fun z => absurd z (by decide))
abbrev sL_dropReads : SI := (cL_dropReads, RL, 4, (some (FieldType.int)), ⟨8, 1, 6, 134⟩)
theorem w757 : Cond.codeWith yL_dropReads cL_dropReads 4 (Option.some Jvm.ClassFile.FieldType.int) [(0, 9, 12, 21)] ∈ WA := wa_of (wm4 (List.mem_of_getElem? (i := 37) rfl)) rfl
theorem mokL_dropReads : MOKH yL_dropReads sL_dropReads [(0, 9, 12, 21)] 3 := ⟨w757, w0, by decide +kernel⟩
set_option maxRecDepth 100000 in
set_option maxHeartbeats 4000000 in
theorem l_dropReads (en c : Nat → Nat) (κ P : St) (o : Nat) (g : Nat → Int64) (p0 : Int) (hM : MI P) (hC : CWP P κ) (h_p0 : iR p0) : MCH (EX en) yL_dropReads sL_dropReads [(0, 9, 12, 21)] [.ref (c 0), .int (zI p0), .ref o] (fm (cO en c κ) ++ [(o, lE 1 g)]) (LQ en c o (sp_dropReads P p0) false) := by
  refine MCH.of (EX.stb en) [some (.ref (c 0)), some (.int (zI p0)), some (.ref o), none] 1 rfl rfl rfl (by simp [Value.category]) (Nat.le_of_ble_eq_true rfl) (fun K hK hT hR => ?_)
  refine V_aload_n dL_dropReads_0 rfl ?_
  refine V_iconst dL_dropReads_1 ?_
  refine V_aload_n dL_dropReads_2 rfl ?_
  refine V_iload_n dL_dropReads_3 rfl ?_
  refine V_callXVAH (As := [.int (zI p0)]) (b := c 0) (q0 := 0) (ci := 9) (fs := cwF c κ) (T := TX10) (N := 9) (fm_cw en c κ _) rfl (wc := fm (cO en c κ)) (wr := [(o, lE 1 g)]) rfl hK hT (MCX.env EX.en (k_dropReads en c κ p0 P ⟨hM, hC.1, h_p0, hC.2.1, hC.2.2⟩)) mokX10_dropReads w758 w759 w760 ⟨Nat.le_of_ble_eq_true rfl, Nat.le_of_ble_eq_true rfl⟩ rfl (Nat.le_of_ble_eq_true rfl) ⟨Nat.le_of_ble_eq_true rfl, Nat.le_of_ble_eq_true rfl⟩ dL_dropReads_4 (fun X w hx => ?_) (fun v w hx => ?_)
  · obtain ⟨κ9, rfl, hC9, hP9, hL⟩ := hx
    simp only [List.mem_cons, List.not_mem_nil, or_false, Prod.mk.injEq] at hL
    obtain ⟨e, rfl⟩ := hL
    refine ⟨12, ⟨tableOf [], ⟨0, 9, 12, 21⟩, tableOf [], rfl, fun z hz => absurd hz List.not_mem_nil, by decide, by decide, w700, wn711, rfl⟩, fun q => ?_⟩
    refine V_astore_n (L' := [some (.ref (c 0)), some (.int (zI p0)), some (.ref o), some (.ref q)]) dL_dropReads_12 (by decide) rfl ?_
    refine V_iconst dL_dropReads_13 ?_
    refine V_iret hR rfl (Nat.le_of_ble_eq_true rfl) (Nat.le_of_ble_eq_true rfl) dL_dropReads_14 ?_
    exact LQ.thrown e ⟨by decide, by decide⟩ hP9 hC9
  · obtain ⟨κ2, rfl, rfl, e1, hC2⟩ := hx
    show V K sL_dropReads 1 6 (fm (cO en c κ2) ++ [(o, lE 1 g)]) [some (.ref (c 0)), some (.int (zI p0)), some (.ref o), none] [.int (zI ((sp_dropReads P p0).2.1)), .int (zI 0), .ref o] 7
    refine V_i2l dL_dropReads_7 ?_
    refine V_last (N := 1) _ (fm_out en c κ2 o g) ⟨by decide, by decide⟩ (by decide) dL_dropReads_8 ?_
    rw [fm_set]
    refine V_goto (tgt := 15) dL_dropReads_9 (by decide) ?_
    refine V_iconst dL_dropReads_15 ?_
    refine V_iret hR rfl (Nat.le_of_ble_eq_true rfl) (Nat.le_of_ble_eq_true rfl) dL_dropReads_16 ?_
    exact LQ.ok e1 rfl hC2 rfl (fun z => absurd z (by decide))
abbrev sL_setLasting : SI := (cL_setLasting, RL, 5, (some (FieldType.int)), ⟨8, 1, 6, 135⟩)
theorem w768 : Cond.codeWith yL_setLasting cL_setLasting 5 (Option.some Jvm.ClassFile.FieldType.int) [(0, 17, 20, 21)] ∈ WA := wa_of (wm4 (List.mem_of_getElem? (i := 48) rfl)) rfl
theorem mokL_setLasting : MOKH yL_setLasting sL_setLasting [(0, 17, 20, 21)] 4 := ⟨w768, w0, by decide +kernel⟩
set_option maxRecDepth 100000 in
set_option maxHeartbeats 4000000 in
theorem l_setLasting (en c : Nat → Nat) (κ P : St) (o : Nat) (g : Nat → Int64) (p0 : Int) (p1 : Int) (hM : MI P) (hC : CWP P κ) (h_p0 : iR p0) (h_p1 : p1 = 0 ∨ p1 = 1) : MCH (EX en) yL_setLasting sL_setLasting [(0, 17, 20, 21)] [.ref (c 0), .int (zI p0), .int (zI p1), .ref o] (fm (cO en c κ) ++ [(o, lE 1 g)]) (LQ en c o (sp_setLasting P p0 p1) true) := by
  refine MCH.of (EX.stb en) [some (.ref (c 0)), some (.int (zI p0)), some (.int (zI p1)), some (.ref o), none] 1 rfl rfl rfl (by simp [Value.category]) (Nat.le_of_ble_eq_true rfl) (fun K hK hT hR => ?_)
  refine V_aload_n dL_setLasting_0 rfl ?_
  refine V_iconst dL_setLasting_1 ?_
  refine V_aload_n dL_setLasting_2 rfl ?_
  refine V_iload_n dL_setLasting_3 rfl ?_
  refine V_iload_n dL_setLasting_4 rfl ?_
  refine V_callXVAH (As := [.int (zI p0), .int (zI p1)]) (b := c 0) (q0 := 0) (ci := 9) (fs := cwF c κ) (T := TX10) (N := 9) (fm_cw en c κ _) rfl (wc := fm (cO en c κ)) (wr := [(o, lE 1 g)]) rfl hK hT (MCX.env EX.en (k_setLasting en c κ p0 p1 P ⟨hM, hC.1, h_p0, h_p1, hC.2.1, hC.2.2⟩)) mokX10_setLasting w769 w770 w771 ⟨Nat.le_of_ble_eq_true rfl, Nat.le_of_ble_eq_true rfl⟩ rfl (Nat.le_of_ble_eq_true rfl) ⟨Nat.le_of_ble_eq_true rfl, Nat.le_of_ble_eq_true rfl⟩ dL_setLasting_5 (fun X w hx => ?_) (fun v w hx => ?_)
  · obtain ⟨κ9, rfl, hC9, hP9, hL⟩ := hx
    simp only [List.mem_cons, List.not_mem_nil, or_false, Prod.mk.injEq] at hL
    obtain ⟨e, rfl⟩ := hL
    refine ⟨20, ⟨tableOf [], ⟨0, 17, 20, 21⟩, tableOf [], rfl, fun z hz => absurd hz List.not_mem_nil, by decide, by decide, w700, wn711, rfl⟩, fun q => ?_⟩
    refine V_astore (L' := [some (.ref (c 0)), some (.int (zI p0)), some (.int (zI p1)), some (.ref o), some (.ref q)]) dL_setLasting_20 (by decide) rfl ?_
    refine V_iconst dL_setLasting_22 ?_
    refine V_iret hR rfl (Nat.le_of_ble_eq_true rfl) (Nat.le_of_ble_eq_true rfl) dL_setLasting_23 ?_
    exact LQ.thrown e ⟨by decide, by decide⟩ hP9 hC9
  · obtain ⟨κ2, rfl, rfl, e1, hC2⟩ := hx
    show V K sL_setLasting 1 6 (fm (cO en c κ2) ++ [(o, lE 1 g)]) [some (.ref (c 0)), some (.int (zI p0)), some (.int (zI p1)), some (.ref o), none] [.int (zI ((sp_setLasting P p0 p1).2.1)), .int (zI 0), .ref o] 8
    have hb : (sp_setLasting P p0 p1).2.1 = 0 ∨ (sp_setLasting P p0 p1).2.1 = 1 := gd_b (fun h => (hM.2.2.2.2.2.1 p0 h.1 (by have := hM.2.2.1; have := h.2; omega)).2.2.1)
    refine V_if_eq (tgt := 15) dL_setLasting_8 (by decide) ⟨by omega, by omega⟩ (fun c1 => ?_) (fun c1 => ?_)
    · refine V_lconst dL_setLasting_15 ?_
      refine V_last (N := 1) _ (fm_out en c κ2 o g) ⟨by decide, by decide⟩ (by decide) dL_setLasting_16 ?_
      rw [fm_set]
      refine V_goto (tgt := 24) dL_setLasting_17 (by decide) ?_
      refine V_iconst dL_setLasting_24 ?_
      refine V_iret hR rfl (Nat.le_of_ble_eq_true rfl) (Nat.le_of_ble_eq_true rfl) dL_setLasting_25 ?_
      exact LQ.ok e1 rfl hC2 (by rw [c1]; rfl) (fun _ => hb)
    · refine V_lconst dL_setLasting_11 ?_
      refine V_goto (tgt := 16) dL_setLasting_12 (by decide) ?_
      refine V_last (N := 1) _ (fm_out en c κ2 o g) ⟨by decide, by decide⟩ (by decide) dL_setLasting_16 ?_
      rw [fm_set]
      refine V_goto (tgt := 24) dL_setLasting_17 (by decide) ?_
      refine V_iconst dL_setLasting_24 ?_
      refine V_iret hR rfl (Nat.le_of_ble_eq_true rfl) (Nat.le_of_ble_eq_true rfl) dL_setLasting_25 ?_
      exact LQ.ok e1 rfl hC2 (by rw [show (sp_setLasting P p0 p1).2.1 = 1 by omega]; rfl) (fun _ => hb)
abbrev sL_setField : SI := (cL_setField, RL, 5, (some (FieldType.int)), ⟨8, 2, 12, 134⟩)
theorem w775 : Cond.codeWith yL_setField cL_setField 5 (Option.some Jvm.ClassFile.FieldType.int) [(0, 10, 13, 13)] ∈ WA := wa_of (wm4 (List.mem_of_getElem? (i := 55) rfl)) rfl
theorem mokL_setField : MOKH yL_setField sL_setField [(0, 10, 13, 13)] 4 := ⟨w775, w0, by decide +kernel⟩
set_option maxRecDepth 100000 in
set_option maxHeartbeats 4000000 in
theorem l_setField (en c : Nat → Nat) (κ P : St) (o : Nat) (g : Nat → Int64) (p0 : Int) (p1 : Int) (hM : MI P) (hC : CWP P κ) (h_p0 : iR p0) (h_p1 : iR p1) : MCH (EX en) yL_setField sL_setField [(0, 10, 13, 13)] [.ref (c 0), .int (zI p0), .int (zI p1), .ref o] (fm (cO en c κ) ++ [(o, lE 1 g)]) (LQ en c o (sp_setField P p0 p1) false) := by
  refine MCH.of (EX.stb en) [some (.ref (c 0)), some (.int (zI p0)), some (.int (zI p1)), some (.ref o), none] 1 rfl rfl rfl (by simp [Value.category]) (Nat.le_of_ble_eq_true rfl) (fun K hK hT hR => ?_)
  refine V_aload_n dL_setField_0 rfl ?_
  refine V_iconst dL_setField_1 ?_
  refine V_aload_n dL_setField_2 rfl ?_
  refine V_iload_n dL_setField_3 rfl ?_
  refine V_iload_n dL_setField_4 rfl ?_
  refine V_callXVAH (As := [.int (zI p0), .int (zI p1)]) (b := c 0) (q0 := 0) (ci := 9) (fs := cwF c κ) (T := TX10) (N := 9) (fm_cw en c κ _) rfl (wc := fm (cO en c κ)) (wr := [(o, lE 1 g)]) rfl hK hT (MCX.env EX.en (k_setField en c κ p0 p1 P ⟨hM, hC.1, h_p0, h_p1, hC.2.1, hC.2.2⟩)) mokX10_setField w776 w777 w778 ⟨Nat.le_of_ble_eq_true rfl, Nat.le_of_ble_eq_true rfl⟩ rfl (Nat.le_of_ble_eq_true rfl) ⟨Nat.le_of_ble_eq_true rfl, Nat.le_of_ble_eq_true rfl⟩ dL_setField_5 (fun X w hx => ?_) (fun v w hx => ?_)
  · obtain ⟨κ9, rfl, hC9, hP9, hL⟩ := hx
    simp only [List.mem_cons, List.not_mem_nil, or_false, Prod.mk.injEq] at hL
    obtain ⟨e, rfl⟩ := hL
    refine ⟨13, ⟨tableOf [], ⟨0, 10, 13, 13⟩, tableOf [], rfl, fun z hz => absurd hz List.not_mem_nil, by decide, by decide, w507, wn518, rfl⟩, fun q => ?_⟩
    refine V_astore (L' := [some (.ref (c 0)), some (.int (zI p0)), some (.int (zI p1)), some (.ref o), some (.ref q)]) dL_setField_13 (by decide) rfl ?_
    refine V_iconst dL_setField_15 ?_
    refine V_iret hR rfl (Nat.le_of_ble_eq_true rfl) (Nat.le_of_ble_eq_true rfl) dL_setField_16 ?_
    exact LQ.thrown e ⟨by decide, by decide⟩ hP9 hC9
  · obtain ⟨κ2, rfl, rfl, e1, hC2⟩ := hx
    show V K sL_setField 2 12 (fm (cO en c κ2) ++ [(o, lE 1 g)]) [some (.ref (c 0)), some (.int (zI p0)), some (.int (zI p1)), some (.ref o), none] [.int (zI ((sp_setField P p0 p1).2.1)), .int (zI 0), .ref o] 8
    refine V_i2l dL_setField_8 ?_
    refine V_last (N := 1) _ (fm_out en c κ2 o g) ⟨by decide, by decide⟩ (by decide) dL_setField_9 ?_
    rw [fm_set]
    refine V_goto (tgt := 17) dL_setField_10 (by decide) ?_
    refine V_iconst dL_setField_17 ?_
    refine V_iret hR rfl (Nat.le_of_ble_eq_true rfl) (Nat.le_of_ble_eq_true rfl) dL_setField_18 ?_
    exact LQ.ok e1 rfl hC2 rfl (fun z => absurd z (by decide))
abbrev sL_setSchedule : SI := (cL_setSchedule, RL, 5, (some (FieldType.int)), ⟨9, 2, 12, 156⟩)
theorem w786 : Cond.codeWith yL_setSchedule cL_setSchedule 5 (Option.some Jvm.ClassFile.FieldType.int) [(0, 17, 20, 13)] ∈ WA := wa_of (wm4 (List.mem_of_getElem? (i := 66) rfl)) rfl
theorem mokL_setSchedule : MOKH yL_setSchedule sL_setSchedule [(0, 17, 20, 13)] 4 := ⟨w786, w0, by decide +kernel⟩
set_option maxRecDepth 100000 in
set_option maxHeartbeats 4000000 in
theorem l_setSchedule (en c : Nat → Nat) (κ P : St) (o : Nat) (g : Nat → Int64) (p0 : Int) (p1 : Int) (hM : MI P) (hC : CWP P κ) (h_p0 : iR p0) (h_p1 : iR p1) : MCH (EX en) yL_setSchedule sL_setSchedule [(0, 17, 20, 13)] [.ref (c 0), .int (zI p0), .int (zI p1), .ref o] (fm (cO en c κ) ++ [(o, lE 1 g)]) (LQ en c o (sp_setSchedule P p0 p1) true) := by
  refine MCH.of (EX.stb en) [some (.ref (c 0)), some (.int (zI p0)), some (.int (zI p1)), some (.ref o), none] 1 rfl rfl rfl (by simp [Value.category]) (Nat.le_of_ble_eq_true rfl) (fun K hK hT hR => ?_)
  refine V_aload_n dL_setSchedule_0 rfl ?_
  refine V_iconst dL_setSchedule_1 ?_
  refine V_aload_n dL_setSchedule_2 rfl ?_
  refine V_iload_n dL_setSchedule_3 rfl ?_
  refine V_iload_n dL_setSchedule_4 rfl ?_
  refine V_callXVAH (As := [.int (zI p0), .int (zI p1)]) (b := c 0) (q0 := 0) (ci := 9) (fs := cwF c κ) (T := TX10) (N := 9) (fm_cw en c κ _) rfl (wc := fm (cO en c κ)) (wr := [(o, lE 1 g)]) rfl hK hT (MCX.env EX.en (k_setSchedule en c κ p0 p1 P ⟨hM, hC.1, h_p0, h_p1, hC.2.1, hC.2.2⟩)) mokX10_setSchedule w787 w788 w789 ⟨Nat.le_of_ble_eq_true rfl, Nat.le_of_ble_eq_true rfl⟩ rfl (Nat.le_of_ble_eq_true rfl) ⟨Nat.le_of_ble_eq_true rfl, Nat.le_of_ble_eq_true rfl⟩ dL_setSchedule_5 (fun X w hx => ?_) (fun v w hx => ?_)
  · obtain ⟨κ9, rfl, hC9, hP9, hL⟩ := hx
    simp only [List.mem_cons, List.not_mem_nil, or_false, Prod.mk.injEq] at hL
    obtain ⟨e, rfl⟩ := hL
    refine ⟨20, ⟨tableOf [], ⟨0, 17, 20, 13⟩, tableOf [], rfl, fun z hz => absurd hz List.not_mem_nil, by decide, by decide, w507, wn518, rfl⟩, fun q => ?_⟩
    refine V_astore (L' := [some (.ref (c 0)), some (.int (zI p0)), some (.int (zI p1)), some (.ref o), some (.ref q)]) dL_setSchedule_20 (by decide) rfl ?_
    refine V_iconst dL_setSchedule_22 ?_
    refine V_iret hR rfl (Nat.le_of_ble_eq_true rfl) (Nat.le_of_ble_eq_true rfl) dL_setSchedule_23 ?_
    exact LQ.thrown e ⟨by decide, by decide⟩ hP9 hC9
  · obtain ⟨κ2, rfl, rfl, e1, hC2⟩ := hx
    show V K sL_setSchedule 2 12 (fm (cO en c κ2) ++ [(o, lE 1 g)]) [some (.ref (c 0)), some (.int (zI p0)), some (.int (zI p1)), some (.ref o), none] [.int (zI ((sp_setSchedule P p0 p1).2.1)), .int (zI 0), .ref o] 8
    have hb : (sp_setSchedule P p0 p1).2.1 = 0 ∨ (sp_setSchedule P p0 p1).2.1 = 1 := gd_b (fun _ => bzv _)
    refine V_if_eq (tgt := 15) dL_setSchedule_8 (by decide) ⟨by omega, by omega⟩ (fun c1 => ?_) (fun c1 => ?_)
    · refine V_lconst dL_setSchedule_15 ?_
      refine V_last (N := 1) _ (fm_out en c κ2 o g) ⟨by decide, by decide⟩ (by decide) dL_setSchedule_16 ?_
      rw [fm_set]
      refine V_goto (tgt := 24) dL_setSchedule_17 (by decide) ?_
      refine V_iconst dL_setSchedule_24 ?_
      refine V_iret hR rfl (Nat.le_of_ble_eq_true rfl) (Nat.le_of_ble_eq_true rfl) dL_setSchedule_25 ?_
      exact LQ.ok e1 rfl hC2 (by rw [c1]; rfl) (fun _ => hb)
    · refine V_lconst dL_setSchedule_11 ?_
      refine V_goto (tgt := 16) dL_setSchedule_12 (by decide) ?_
      refine V_last (N := 1) _ (fm_out en c κ2 o g) ⟨by decide, by decide⟩ (by decide) dL_setSchedule_16 ?_
      rw [fm_set]
      refine V_goto (tgt := 24) dL_setSchedule_17 (by decide) ?_
      refine V_iconst dL_setSchedule_24 ?_
      refine V_iret hR rfl (Nat.le_of_ble_eq_true rfl) (Nat.le_of_ble_eq_true rfl) dL_setSchedule_25 ?_
      exact LQ.ok e1 rfl hC2 (by rw [show (sp_setSchedule P p0 p1).2.1 = 1 by omega]; rfl) (fun _ => hb)
abbrev sL_setOffset : SI := (cL_setOffset, RL, 5, (some (FieldType.int)), ⟨8, 2, 12, 156⟩)
theorem w797 : Cond.codeWith yL_setOffset cL_setOffset 5 (Option.some Jvm.ClassFile.FieldType.int) [(0, 17, 20, 21), (0, 17, 24, 13)] ∈ WA := wa_of (wm4 (List.mem_of_getElem? (i := 77) rfl)) rfl
theorem mokL_setOffset : MOKH yL_setOffset sL_setOffset [(0, 17, 20, 21), (0, 17, 24, 13)] 4 := ⟨w797, w0, by decide +kernel⟩
set_option maxRecDepth 100000 in
set_option maxHeartbeats 4000000 in
theorem l_setOffset (en c : Nat → Nat) (κ P : St) (o : Nat) (g : Nat → Int64) (p0 : Int) (p1 : Int) (hM : MI P) (hC : CWP P κ) (h_p0 : iR p0) (h_p1 : iR p1) : MCH (EX en) yL_setOffset sL_setOffset [(0, 17, 20, 21), (0, 17, 24, 13)] [.ref (c 0), .int (zI p0), .int (zI p1), .ref o] (fm (cO en c κ) ++ [(o, lE 1 g)]) (LQ en c o (sp_setOffset P p0 p1) true) := by
  refine MCH.of (EX.stb en) [some (.ref (c 0)), some (.int (zI p0)), some (.int (zI p1)), some (.ref o), none] 1 rfl rfl rfl (by simp [Value.category]) (Nat.le_of_ble_eq_true rfl) (fun K hK hT hR => ?_)
  refine V_aload_n dL_setOffset_0 rfl ?_
  refine V_iconst dL_setOffset_1 ?_
  refine V_aload_n dL_setOffset_2 rfl ?_
  refine V_iload_n dL_setOffset_3 rfl ?_
  refine V_iload_n dL_setOffset_4 rfl ?_
  refine V_callXVAH (As := [.int (zI p0), .int (zI p1)]) (b := c 0) (q0 := 0) (ci := 9) (fs := cwF c κ) (T := TX10) (N := 9) (fm_cw en c κ _) rfl (wc := fm (cO en c κ)) (wr := [(o, lE 1 g)]) rfl hK hT (MCX.env EX.en (k_setOffset en c κ p0 p1 P ⟨hM, hC.1, h_p0, h_p1, hC.2.1, hC.2.2⟩)) mokX10_setOffset w798 w799 w800 ⟨Nat.le_of_ble_eq_true rfl, Nat.le_of_ble_eq_true rfl⟩ rfl (Nat.le_of_ble_eq_true rfl) ⟨Nat.le_of_ble_eq_true rfl, Nat.le_of_ble_eq_true rfl⟩ dL_setOffset_5 (fun X w hx => ?_) (fun v w hx => ?_)
  · obtain ⟨κ9, rfl, hC9, hP9, hL⟩ := hx
    simp only [List.mem_cons, List.not_mem_nil, or_false, Prod.mk.injEq] at hL
    rcases hL with ⟨e, rfl⟩ | ⟨e, rfl⟩
    · refine ⟨20, ⟨tableOf [], ⟨0, 17, 20, 21⟩, tableOf [(0, 17, 24, 13)], rfl, fun z hz => absurd hz List.not_mem_nil, by decide, by decide, w700, wn711, rfl⟩, fun q => ?_⟩
      refine V_astore (L' := [some (.ref (c 0)), some (.int (zI p0)), some (.int (zI p1)), some (.ref o), some (.ref q)]) dL_setOffset_20 (by decide) rfl ?_
      refine V_iconst dL_setOffset_22 ?_
      refine V_iret hR rfl (Nat.le_of_ble_eq_true rfl) (Nat.le_of_ble_eq_true rfl) dL_setOffset_23 ?_
      exact LQ.thrown e ⟨by decide, by decide⟩ hP9 hC9
    · refine ⟨24, ⟨tableOf [(0, 17, 20, 21)], ⟨0, 17, 24, 13⟩, tableOf [], rfl, all1 ⟨by decide, _, w700, by simp [NcL]⟩, by decide, by decide, w507, wn518, rfl⟩, fun q => ?_⟩
      refine V_astore (L' := [some (.ref (c 0)), some (.int (zI p0)), some (.int (zI p1)), some (.ref o), some (.ref q)]) dL_setOffset_24 (by decide) rfl ?_
      refine V_iconst dL_setOffset_26 ?_
      refine V_iret hR rfl (Nat.le_of_ble_eq_true rfl) (Nat.le_of_ble_eq_true rfl) dL_setOffset_27 ?_
      exact LQ.thrown e ⟨by decide, by decide⟩ hP9 hC9
  · obtain ⟨κ2, rfl, rfl, e1, hC2⟩ := hx
    show V K sL_setOffset 2 12 (fm (cO en c κ2) ++ [(o, lE 1 g)]) [some (.ref (c 0)), some (.int (zI p0)), some (.int (zI p1)), some (.ref o), none] [.int (zI ((sp_setOffset P p0 p1).2.1)), .int (zI 0), .ref o] 8
    have hb : (sp_setOffset P p0 p1).2.1 = 0 ∨ (sp_setOffset P p0 p1).2.1 = 1 := gd_b (fun _ => gd_b (fun _ => bzv _))
    refine V_if_eq (tgt := 15) dL_setOffset_8 (by decide) ⟨by omega, by omega⟩ (fun c1 => ?_) (fun c1 => ?_)
    · refine V_lconst dL_setOffset_15 ?_
      refine V_last (N := 1) _ (fm_out en c κ2 o g) ⟨by decide, by decide⟩ (by decide) dL_setOffset_16 ?_
      rw [fm_set]
      refine V_goto (tgt := 28) dL_setOffset_17 (by decide) ?_
      refine V_iconst dL_setOffset_28 ?_
      refine V_iret hR rfl (Nat.le_of_ble_eq_true rfl) (Nat.le_of_ble_eq_true rfl) dL_setOffset_29 ?_
      exact LQ.ok e1 rfl hC2 (by rw [c1]; rfl) (fun _ => hb)
    · refine V_lconst dL_setOffset_11 ?_
      refine V_goto (tgt := 16) dL_setOffset_12 (by decide) ?_
      refine V_last (N := 1) _ (fm_out en c κ2 o g) ⟨by decide, by decide⟩ (by decide) dL_setOffset_16 ?_
      rw [fm_set]
      refine V_goto (tgt := 28) dL_setOffset_17 (by decide) ?_
      refine V_iconst dL_setOffset_28 ?_
      refine V_iret hR rfl (Nat.le_of_ble_eq_true rfl) (Nat.le_of_ble_eq_true rfl) dL_setOffset_29 ?_
      exact LQ.ok e1 rfl hC2 (by rw [show (sp_setOffset P p0 p1).2.1 = 1 by omega]; rfl) (fun _ => hb)
abbrev sL_isAllowedWith : SI := (cL_isAllowedWith, RL, 5, (some (FieldType.int)), ⟨9, 2, 12, 155⟩)
theorem w804 : Cond.codeWith yL_isAllowedWith cL_isAllowedWith 5 (Option.some Jvm.ClassFile.FieldType.int) [(0, 17, 20, 13)] ∈ WA := wa_of (wm4 (List.mem_of_getElem? (i := 84) rfl)) rfl
theorem mokL_isAllowedWith : MOKH yL_isAllowedWith sL_isAllowedWith [(0, 17, 20, 13)] 4 := ⟨w804, w0, by decide +kernel⟩
set_option maxRecDepth 100000 in
set_option maxHeartbeats 4000000 in
theorem l_isAllowedWith (en c : Nat → Nat) (κ P : St) (o : Nat) (g : Nat → Int64) (p0 : Int) (p1 : Int) (hM : MI P) (hC : CWP P κ) (h_p0 : iR p0) (h_p1 : iR p1) : MCH (EX en) yL_isAllowedWith sL_isAllowedWith [(0, 17, 20, 13)] [.ref (c 0), .int (zI p0), .int (zI p1), .ref o] (fm (cO en c κ) ++ [(o, lE 1 g)]) (LQ en c o (sp_isAllowedWith P p0 p1) true) := by
  refine MCH.of (EX.stb en) [some (.ref (c 0)), some (.int (zI p0)), some (.int (zI p1)), some (.ref o), none] 1 rfl rfl rfl (by simp [Value.category]) (Nat.le_of_ble_eq_true rfl) (fun K hK hT hR => ?_)
  refine V_aload_n dL_isAllowedWith_0 rfl ?_
  refine V_iconst dL_isAllowedWith_1 ?_
  refine V_aload_n dL_isAllowedWith_2 rfl ?_
  refine V_iload_n dL_isAllowedWith_3 rfl ?_
  refine V_iload_n dL_isAllowedWith_4 rfl ?_
  refine V_callXVAH (As := [.int (zI p0), .int (zI p1)]) (b := c 0) (q0 := 0) (ci := 9) (fs := cwF c κ) (T := TX10) (N := 9) (fm_cw en c κ _) rfl (wc := fm (cO en c κ)) (wr := [(o, lE 1 g)]) rfl hK hT (MCX.env EX.en (k_isAllowedWith en c κ p0 p1 P ⟨hM, hC.1, h_p0, h_p1, hC.2.1, hC.2.2⟩)) mokX10_isAllowedWith w805 w806 w807 ⟨Nat.le_of_ble_eq_true rfl, Nat.le_of_ble_eq_true rfl⟩ rfl (Nat.le_of_ble_eq_true rfl) ⟨Nat.le_of_ble_eq_true rfl, Nat.le_of_ble_eq_true rfl⟩ dL_isAllowedWith_5 (fun X w hx => ?_) (fun v w hx => ?_)
  · obtain ⟨κ9, rfl, hC9, hP9, hL⟩ := hx
    simp only [List.mem_cons, List.not_mem_nil, or_false, Prod.mk.injEq] at hL
    obtain ⟨e, rfl⟩ := hL
    refine ⟨20, ⟨tableOf [], ⟨0, 17, 20, 13⟩, tableOf [], rfl, fun z hz => absurd hz List.not_mem_nil, by decide, by decide, w507, wn518, rfl⟩, fun q => ?_⟩
    refine V_astore (L' := [some (.ref (c 0)), some (.int (zI p0)), some (.int (zI p1)), some (.ref o), some (.ref q)]) dL_isAllowedWith_20 (by decide) rfl ?_
    refine V_iconst dL_isAllowedWith_22 ?_
    refine V_iret hR rfl (Nat.le_of_ble_eq_true rfl) (Nat.le_of_ble_eq_true rfl) dL_isAllowedWith_23 ?_
    exact LQ.thrown e ⟨by decide, by decide⟩ hP9 hC9
  · obtain ⟨κ2, rfl, rfl, e1, hC2⟩ := hx
    show V K sL_isAllowedWith 2 12 (fm (cO en c κ2) ++ [(o, lE 1 g)]) [some (.ref (c 0)), some (.int (zI p0)), some (.int (zI p1)), some (.ref o), none] [.int (zI ((sp_isAllowedWith P p0 p1).2.1)), .int (zI 0), .ref o] 8
    have hb : (sp_isAllowedWith P p0 p1).2.1 = 0 ∨ (sp_isAllowedWith P p0 p1).2.1 = 1 := gd_b (fun _ => bzv _)
    refine V_if_eq (tgt := 15) dL_isAllowedWith_8 (by decide) ⟨by omega, by omega⟩ (fun c1 => ?_) (fun c1 => ?_)
    · refine V_lconst dL_isAllowedWith_15 ?_
      refine V_last (N := 1) _ (fm_out en c κ2 o g) ⟨by decide, by decide⟩ (by decide) dL_isAllowedWith_16 ?_
      rw [fm_set]
      refine V_goto (tgt := 24) dL_isAllowedWith_17 (by decide) ?_
      refine V_iconst dL_isAllowedWith_24 ?_
      refine V_iret hR rfl (Nat.le_of_ble_eq_true rfl) (Nat.le_of_ble_eq_true rfl) dL_isAllowedWith_25 ?_
      exact LQ.ok e1 rfl hC2 (by rw [c1]; rfl) (fun _ => hb)
    · refine V_lconst dL_isAllowedWith_11 ?_
      refine V_goto (tgt := 16) dL_isAllowedWith_12 (by decide) ?_
      refine V_last (N := 1) _ (fm_out en c κ2 o g) ⟨by decide, by decide⟩ (by decide) dL_isAllowedWith_16 ?_
      rw [fm_set]
      refine V_goto (tgt := 24) dL_isAllowedWith_17 (by decide) ?_
      refine V_iconst dL_isAllowedWith_24 ?_
      refine V_iret hR rfl (Nat.le_of_ble_eq_true rfl) (Nat.le_of_ble_eq_true rfl) dL_isAllowedWith_25 ?_
      exact LQ.ok e1 rfl hC2 (by rw [show (sp_isAllowedWith P p0 p1).2.1 = 1 by omega]; rfl) (fun _ => hb)
abbrev sL_isReadInOrder : SI := (cL_isReadInOrder, RL, 5, (some (FieldType.int)), ⟨8, 2, 12, 134⟩)
theorem w811 : Cond.codeWith yL_isReadInOrder cL_isReadInOrder 5 (Option.some Jvm.ClassFile.FieldType.int) [(0, 17, 20, 21)] ∈ WA := wa_of (wm4 (List.mem_of_getElem? (i := 91) rfl)) rfl
theorem mokL_isReadInOrder : MOKH yL_isReadInOrder sL_isReadInOrder [(0, 17, 20, 21)] 4 := ⟨w811, w0, by decide +kernel⟩
set_option maxRecDepth 100000 in
set_option maxHeartbeats 4000000 in
theorem l_isReadInOrder (en c : Nat → Nat) (κ P : St) (o : Nat) (g : Nat → Int64) (p0 : Int) (p1 : Int) (hM : MI P) (hC : CWP P κ) (h_p0 : iR p0) (h_p1 : iR p1) : MCH (EX en) yL_isReadInOrder sL_isReadInOrder [(0, 17, 20, 21)] [.ref (c 0), .int (zI p0), .int (zI p1), .ref o] (fm (cO en c κ) ++ [(o, lE 1 g)]) (LQ en c o (sp_isReadInOrder P p0 p1) true) := by
  refine MCH.of (EX.stb en) [some (.ref (c 0)), some (.int (zI p0)), some (.int (zI p1)), some (.ref o), none] 1 rfl rfl rfl (by simp [Value.category]) (Nat.le_of_ble_eq_true rfl) (fun K hK hT hR => ?_)
  refine V_aload_n dL_isReadInOrder_0 rfl ?_
  refine V_iconst dL_isReadInOrder_1 ?_
  refine V_aload_n dL_isReadInOrder_2 rfl ?_
  refine V_iload_n dL_isReadInOrder_3 rfl ?_
  refine V_iload_n dL_isReadInOrder_4 rfl ?_
  refine V_callXVAH (As := [.int (zI p0), .int (zI p1)]) (b := c 0) (q0 := 0) (ci := 9) (fs := cwF c κ) (T := TX10) (N := 9) (fm_cw en c κ _) rfl (wc := fm (cO en c κ)) (wr := [(o, lE 1 g)]) rfl hK hT (MCX.env EX.en (k_isReadInOrder en c κ p0 p1 P ⟨hM, hC.1, h_p0, h_p1, hC.2.1, hC.2.2⟩)) mokX10_isReadInOrder w812 w813 w814 ⟨Nat.le_of_ble_eq_true rfl, Nat.le_of_ble_eq_true rfl⟩ rfl (Nat.le_of_ble_eq_true rfl) ⟨Nat.le_of_ble_eq_true rfl, Nat.le_of_ble_eq_true rfl⟩ dL_isReadInOrder_5 (fun X w hx => ?_) (fun v w hx => ?_)
  · obtain ⟨κ9, rfl, hC9, hP9, hL⟩ := hx
    simp only [List.mem_cons, List.not_mem_nil, or_false, Prod.mk.injEq] at hL
    obtain ⟨e, rfl⟩ := hL
    refine ⟨20, ⟨tableOf [], ⟨0, 17, 20, 21⟩, tableOf [], rfl, fun z hz => absurd hz List.not_mem_nil, by decide, by decide, w700, wn711, rfl⟩, fun q => ?_⟩
    refine V_astore (L' := [some (.ref (c 0)), some (.int (zI p0)), some (.int (zI p1)), some (.ref o), some (.ref q)]) dL_isReadInOrder_20 (by decide) rfl ?_
    refine V_iconst dL_isReadInOrder_22 ?_
    refine V_iret hR rfl (Nat.le_of_ble_eq_true rfl) (Nat.le_of_ble_eq_true rfl) dL_isReadInOrder_23 ?_
    exact LQ.thrown e ⟨by decide, by decide⟩ hP9 hC9
  · obtain ⟨κ2, rfl, rfl, e1, hC2⟩ := hx
    show V K sL_isReadInOrder 2 12 (fm (cO en c κ2) ++ [(o, lE 1 g)]) [some (.ref (c 0)), some (.int (zI p0)), some (.int (zI p1)), some (.ref o), none] [.int (zI ((sp_isReadInOrder P p0 p1).2.1)), .int (zI 0), .ref o] 8
    have hb : (sp_isReadInOrder P p0 p1).2.1 = 0 ∨ (sp_isReadInOrder P p0 p1).2.1 = 1 := gd_b (fun _ => bzv _)
    refine V_if_eq (tgt := 15) dL_isReadInOrder_8 (by decide) ⟨by omega, by omega⟩ (fun c1 => ?_) (fun c1 => ?_)
    · refine V_lconst dL_isReadInOrder_15 ?_
      refine V_last (N := 1) _ (fm_out en c κ2 o g) ⟨by decide, by decide⟩ (by decide) dL_isReadInOrder_16 ?_
      rw [fm_set]
      refine V_goto (tgt := 24) dL_isReadInOrder_17 (by decide) ?_
      refine V_iconst dL_isReadInOrder_24 ?_
      refine V_iret hR rfl (Nat.le_of_ble_eq_true rfl) (Nat.le_of_ble_eq_true rfl) dL_isReadInOrder_25 ?_
      exact LQ.ok e1 rfl hC2 (by rw [c1]; rfl) (fun _ => hb)
    · refine V_lconst dL_isReadInOrder_11 ?_
      refine V_goto (tgt := 16) dL_isReadInOrder_12 (by decide) ?_
      refine V_last (N := 1) _ (fm_out en c κ2 o g) ⟨by decide, by decide⟩ (by decide) dL_isReadInOrder_16 ?_
      rw [fm_set]
      refine V_goto (tgt := 24) dL_isReadInOrder_17 (by decide) ?_
      refine V_iconst dL_isReadInOrder_24 ?_
      refine V_iret hR rfl (Nat.le_of_ble_eq_true rfl) (Nat.le_of_ble_eq_true rfl) dL_isReadInOrder_25 ?_
      exact LQ.ok e1 rfl hC2 (by rw [show (sp_isReadInOrder P p0 p1).2.1 = 1 by omega]; rfl) (fun _ => hb)
abbrev sL_stepOf : SI := (cL_stepOf, RL, 6, (some (FieldType.int)), ⟨9, 2, 12, 160⟩)
theorem w820 : Cond.codeWith yL_stepOf cL_stepOf 6 (Option.some Jvm.ClassFile.FieldType.int) [(0, 12, 15, 21)] ∈ WA := wa_of (wm4 (List.mem_of_getElem? (i := 100) rfl)) rfl
theorem mokL_stepOf : MOKH yL_stepOf sL_stepOf [(0, 12, 15, 21)] 5 := ⟨w820, w0, by decide +kernel⟩
set_option maxRecDepth 100000 in
set_option maxHeartbeats 4000000 in
theorem l_stepOf (en c : Nat → Nat) (κ P : St) (o : Nat) (g : Nat → Int64) (p0 : Int) (p1 : Int) (p2 : Int) (hM : MI P) (hC : CWP P κ) (h_p0 : iR p0) (h_p1 : iR p1) (h_p2 : iR p2) : MCH (EX en) yL_stepOf sL_stepOf [(0, 12, 15, 21)] [.ref (c 0), .int (zI p0), .int (zI p1), .int (zI p2), .ref o] (fm (cO en c κ) ++ [(o, lE 1 g)]) (LQ en c o (sp_stepOf P p0 p1 p2) false) := by
  refine MCH.of (EX.stb en) [some (.ref (c 0)), some (.int (zI p0)), some (.int (zI p1)), some (.int (zI p2)), some (.ref o), none] 1 rfl rfl rfl (by simp [Value.category]) (Nat.le_of_ble_eq_true rfl) (fun K hK hT hR => ?_)
  refine V_aload dL_stepOf_0 rfl ?_
  refine V_iconst dL_stepOf_2 ?_
  refine V_aload_n dL_stepOf_3 rfl ?_
  refine V_iload_n dL_stepOf_4 rfl ?_
  refine V_iload_n dL_stepOf_5 rfl ?_
  refine V_iload_n dL_stepOf_6 rfl ?_
  refine V_callXVAH (As := [.int (zI p0), .int (zI p1), .int (zI p2)]) (b := c 0) (q0 := 0) (ci := 9) (fs := cwF c κ) (T := TX10) (N := 9) (fm_cw en c κ _) rfl (wc := fm (cO en c κ)) (wr := [(o, lE 1 g)]) rfl hK hT (MCX.env EX.en (k_stepOf en c κ p0 p1 p2 P ⟨hM, hC.1, h_p0, h_p1, h_p2, hC.2.1, hC.2.2⟩)) mokX10_stepOf w821 w822 w823 ⟨Nat.le_of_ble_eq_true rfl, Nat.le_of_ble_eq_true rfl⟩ rfl (Nat.le_of_ble_eq_true rfl) ⟨Nat.le_of_ble_eq_true rfl, Nat.le_of_ble_eq_true rfl⟩ dL_stepOf_7 (fun X w hx => ?_) (fun v w hx => ?_)
  · obtain ⟨κ9, rfl, hC9, hP9, hL⟩ := hx
    simp only [List.mem_cons, List.not_mem_nil, or_false, Prod.mk.injEq] at hL
    obtain ⟨e, rfl⟩ := hL
    refine ⟨15, ⟨tableOf [], ⟨0, 12, 15, 21⟩, tableOf [], rfl, fun z hz => absurd hz List.not_mem_nil, by decide, by decide, w700, wn711, rfl⟩, fun q => ?_⟩
    refine V_astore (L' := [some (.ref (c 0)), some (.int (zI p0)), some (.int (zI p1)), some (.int (zI p2)), some (.ref o), some (.ref q)]) dL_stepOf_15 (by decide) rfl ?_
    refine V_iconst dL_stepOf_17 ?_
    refine V_iret hR rfl (Nat.le_of_ble_eq_true rfl) (Nat.le_of_ble_eq_true rfl) dL_stepOf_18 ?_
    exact LQ.thrown e ⟨by decide, by decide⟩ hP9 hC9
  · obtain ⟨κ2, rfl, rfl, e1, hC2⟩ := hx
    show V K sL_stepOf 2 12 (fm (cO en c κ2) ++ [(o, lE 1 g)]) [some (.ref (c 0)), some (.int (zI p0)), some (.int (zI p1)), some (.int (zI p2)), some (.ref o), none] [.int (zI ((sp_stepOf P p0 p1 p2).2.1)), .int (zI 0), .ref o] 10
    refine V_i2l dL_stepOf_10 ?_
    refine V_last (N := 1) _ (fm_out en c κ2 o g) ⟨by decide, by decide⟩ (by decide) dL_stepOf_11 ?_
    rw [fm_set]
    refine V_goto (tgt := 19) dL_stepOf_12 (by decide) ?_
    refine V_iconst dL_stepOf_19 ?_
    refine V_iret hR rfl (Nat.le_of_ble_eq_true rfl) (Nat.le_of_ble_eq_true rfl) dL_stepOf_20 ?_
    exact LQ.ok e1 rfl hC2 rfl (fun z => absurd z (by decide))
abbrev sL_statementAt : SI := (cL_statementAt, RL, 4, (some (FieldType.int)), ⟨8, 1, 6, 157⟩)
theorem w838 : Cond.codeWith yL_statementAt cL_statementAt 4 (Option.some Jvm.ClassFile.FieldType.int) [(0, 9, 12, 21)] ∈ WA := wa_of (wm4 (List.mem_of_getElem? (i := 118) rfl)) rfl
theorem mokL_statementAt : MOKH yL_statementAt sL_statementAt [(0, 9, 12, 21)] 3 := ⟨w838, w0, by decide +kernel⟩
set_option maxRecDepth 100000 in
set_option maxHeartbeats 4000000 in
theorem l_statementAt (en c : Nat → Nat) (κ P : St) (o : Nat) (g : Nat → Int64) (p0 : Int) (hM : MI P) (hC : CWP P κ) (h_p0 : iR p0) : MCH (EX en) yL_statementAt sL_statementAt [(0, 9, 12, 21)] [.ref (c 0), .int (zI p0), .ref o] (fm (cO en c κ) ++ [(o, lE 1 g)]) (LQ en c o (sp_statementAt P p0) false) := by
  refine MCH.of (EX.stb en) [some (.ref (c 0)), some (.int (zI p0)), some (.ref o), none] 1 rfl rfl rfl (by simp [Value.category]) (Nat.le_of_ble_eq_true rfl) (fun K hK hT hR => ?_)
  refine V_aload_n dL_statementAt_0 rfl ?_
  refine V_iconst dL_statementAt_1 ?_
  refine V_aload_n dL_statementAt_2 rfl ?_
  refine V_iload_n dL_statementAt_3 rfl ?_
  refine V_callXVAH (As := [.int (zI p0)]) (b := c 0) (q0 := 0) (ci := 9) (fs := cwF c κ) (T := TX10) (N := 9) (fm_cw en c κ _) rfl (wc := fm (cO en c κ)) (wr := [(o, lE 1 g)]) rfl hK hT (MCX.env EX.en (k_statementAt en c κ p0 P ⟨hM, hC.1, h_p0, hC.2.1, hC.2.2⟩)) mokX10_statementAt w839 w840 w841 ⟨Nat.le_of_ble_eq_true rfl, Nat.le_of_ble_eq_true rfl⟩ rfl (Nat.le_of_ble_eq_true rfl) ⟨Nat.le_of_ble_eq_true rfl, Nat.le_of_ble_eq_true rfl⟩ dL_statementAt_4 (fun X w hx => ?_) (fun v w hx => ?_)
  · obtain ⟨κ9, rfl, hC9, hP9, hL⟩ := hx
    simp only [List.mem_cons, List.not_mem_nil, or_false, Prod.mk.injEq] at hL
    obtain ⟨e, rfl⟩ := hL
    refine ⟨12, ⟨tableOf [], ⟨0, 9, 12, 21⟩, tableOf [], rfl, fun z hz => absurd hz List.not_mem_nil, by decide, by decide, w700, wn711, rfl⟩, fun q => ?_⟩
    refine V_astore_n (L' := [some (.ref (c 0)), some (.int (zI p0)), some (.ref o), some (.ref q)]) dL_statementAt_12 (by decide) rfl ?_
    refine V_iconst dL_statementAt_13 ?_
    refine V_iret hR rfl (Nat.le_of_ble_eq_true rfl) (Nat.le_of_ble_eq_true rfl) dL_statementAt_14 ?_
    exact LQ.thrown e ⟨by decide, by decide⟩ hP9 hC9
  · obtain ⟨κ2, rfl, rfl, e1, hC2⟩ := hx
    show V K sL_statementAt 1 6 (fm (cO en c κ2) ++ [(o, lE 1 g)]) [some (.ref (c 0)), some (.int (zI p0)), some (.ref o), none] [.int (zI ((sp_statementAt P p0).2.1)), .int (zI 0), .ref o] 7
    refine V_i2l dL_statementAt_7 ?_
    refine V_last (N := 1) _ (fm_out en c κ2 o g) ⟨by decide, by decide⟩ (by decide) dL_statementAt_8 ?_
    rw [fm_set]
    refine V_goto (tgt := 15) dL_statementAt_9 (by decide) ?_
    refine V_iconst dL_statementAt_15 ?_
    refine V_iret hR rfl (Nat.le_of_ble_eq_true rfl) (Nat.le_of_ble_eq_true rfl) dL_statementAt_16 ?_
    exact LQ.ok e1 rfl hC2 rfl (fun z => absurd z (by decide))
abbrev sL_pointAt : SI := (cL_pointAt, RL, 4, (some (FieldType.int)), ⟨8, 1, 6, 158⟩)
theorem w850 : Cond.codeWith yL_pointAt cL_pointAt 4 (Option.some Jvm.ClassFile.FieldType.int) [(0, 9, 12, 21)] ∈ WA := wa_of (wm4 (List.mem_of_getElem? (i := 130) rfl)) rfl
theorem mokL_pointAt : MOKH yL_pointAt sL_pointAt [(0, 9, 12, 21)] 3 := ⟨w850, w0, by decide +kernel⟩
set_option maxRecDepth 100000 in
set_option maxHeartbeats 4000000 in
theorem l_pointAt (en c : Nat → Nat) (κ P : St) (o : Nat) (g : Nat → Int64) (p0 : Int) (hM : MI P) (hC : CWP P κ) (h_p0 : iR p0) : MCH (EX en) yL_pointAt sL_pointAt [(0, 9, 12, 21)] [.ref (c 0), .int (zI p0), .ref o] (fm (cO en c κ) ++ [(o, lE 1 g)]) (LQ en c o (sp_pointAt P p0) false) := by
  refine MCH.of (EX.stb en) [some (.ref (c 0)), some (.int (zI p0)), some (.ref o), none] 1 rfl rfl rfl (by simp [Value.category]) (Nat.le_of_ble_eq_true rfl) (fun K hK hT hR => ?_)
  refine V_aload_n dL_pointAt_0 rfl ?_
  refine V_iconst dL_pointAt_1 ?_
  refine V_aload_n dL_pointAt_2 rfl ?_
  refine V_iload_n dL_pointAt_3 rfl ?_
  refine V_callXVAH (As := [.int (zI p0)]) (b := c 0) (q0 := 0) (ci := 9) (fs := cwF c κ) (T := TX10) (N := 9) (fm_cw en c κ _) rfl (wc := fm (cO en c κ)) (wr := [(o, lE 1 g)]) rfl hK hT (MCX.env EX.en (k_pointAt en c κ p0 P ⟨hM, hC.1, h_p0, hC.2.1, hC.2.2⟩)) mokX10_pointAt w851 w852 w853 ⟨Nat.le_of_ble_eq_true rfl, Nat.le_of_ble_eq_true rfl⟩ rfl (Nat.le_of_ble_eq_true rfl) ⟨Nat.le_of_ble_eq_true rfl, Nat.le_of_ble_eq_true rfl⟩ dL_pointAt_4 (fun X w hx => ?_) (fun v w hx => ?_)
  · obtain ⟨κ9, rfl, hC9, hP9, hL⟩ := hx
    simp only [List.mem_cons, List.not_mem_nil, or_false, Prod.mk.injEq] at hL
    obtain ⟨e, rfl⟩ := hL
    refine ⟨12, ⟨tableOf [], ⟨0, 9, 12, 21⟩, tableOf [], rfl, fun z hz => absurd hz List.not_mem_nil, by decide, by decide, w700, wn711, rfl⟩, fun q => ?_⟩
    refine V_astore_n (L' := [some (.ref (c 0)), some (.int (zI p0)), some (.ref o), some (.ref q)]) dL_pointAt_12 (by decide) rfl ?_
    refine V_iconst dL_pointAt_13 ?_
    refine V_iret hR rfl (Nat.le_of_ble_eq_true rfl) (Nat.le_of_ble_eq_true rfl) dL_pointAt_14 ?_
    exact LQ.thrown e ⟨by decide, by decide⟩ hP9 hC9
  · obtain ⟨κ2, rfl, rfl, e1, hC2⟩ := hx
    show V K sL_pointAt 1 6 (fm (cO en c κ2) ++ [(o, lE 1 g)]) [some (.ref (c 0)), some (.int (zI p0)), some (.ref o), none] [.int (zI ((sp_pointAt P p0).2.1)), .int (zI 0), .ref o] 7
    refine V_i2l dL_pointAt_7 ?_
    refine V_last (N := 1) _ (fm_out en c κ2 o g) ⟨by decide, by decide⟩ (by decide) dL_pointAt_8 ?_
    rw [fm_set]
    refine V_goto (tgt := 15) dL_pointAt_9 (by decide) ?_
    refine V_iconst dL_pointAt_15 ?_
    refine V_iret hR rfl (Nat.le_of_ble_eq_true rfl) (Nat.le_of_ble_eq_true rfl) dL_pointAt_16 ?_
    exact LQ.ok e1 rfl hC2 rfl (fun z => absurd z (by decide))
abbrev sL_endOf : SI := (cL_endOf, RL, 6, (some (FieldType.int)), ⟨9, 2, 12, 160⟩)
theorem w858 : Cond.codeWith yL_endOf cL_endOf 6 (Option.some Jvm.ClassFile.FieldType.int) [(0, 12, 15, 21)] ∈ WA := wa_of (wm4 (List.mem_of_getElem? (i := 138) rfl)) rfl
theorem mokL_endOf : MOKH yL_endOf sL_endOf [(0, 12, 15, 21)] 5 := ⟨w858, w0, by decide +kernel⟩
set_option maxRecDepth 100000 in
set_option maxHeartbeats 4000000 in
theorem l_endOf (en c : Nat → Nat) (κ P : St) (o : Nat) (g : Nat → Int64) (p0 : Int) (p1 : Int) (p2 : Int) (hM : MI P) (hC : CWP P κ) (h_p0 : iR p0) (h_p1 : iR p1) (h_p2 : iR p2) : MCH (EX en) yL_endOf sL_endOf [(0, 12, 15, 21)] [.ref (c 0), .int (zI p0), .int (zI p1), .int (zI p2), .ref o] (fm (cO en c κ) ++ [(o, lE 1 g)]) (LQ en c o (sp_endOf P p0 p1 p2) false) := by
  refine MCH.of (EX.stb en) [some (.ref (c 0)), some (.int (zI p0)), some (.int (zI p1)), some (.int (zI p2)), some (.ref o), none] 1 rfl rfl rfl (by simp [Value.category]) (Nat.le_of_ble_eq_true rfl) (fun K hK hT hR => ?_)
  refine V_aload dL_endOf_0 rfl ?_
  refine V_iconst dL_endOf_2 ?_
  refine V_aload_n dL_endOf_3 rfl ?_
  refine V_iload_n dL_endOf_4 rfl ?_
  refine V_iload_n dL_endOf_5 rfl ?_
  refine V_iload_n dL_endOf_6 rfl ?_
  refine V_callXVAH (As := [.int (zI p0), .int (zI p1), .int (zI p2)]) (b := c 0) (q0 := 0) (ci := 9) (fs := cwF c κ) (T := TX10) (N := 9) (fm_cw en c κ _) rfl (wc := fm (cO en c κ)) (wr := [(o, lE 1 g)]) rfl hK hT (MCX.env EX.en (k_endOf en c κ p0 p1 p2 P ⟨hM, hC.1, h_p0, h_p1, h_p2, hC.2.1, hC.2.2⟩)) mokX10_endOf w859 w860 w861 ⟨Nat.le_of_ble_eq_true rfl, Nat.le_of_ble_eq_true rfl⟩ rfl (Nat.le_of_ble_eq_true rfl) ⟨Nat.le_of_ble_eq_true rfl, Nat.le_of_ble_eq_true rfl⟩ dL_endOf_7 (fun X w hx => ?_) (fun v w hx => ?_)
  · obtain ⟨κ9, rfl, hC9, hP9, hL⟩ := hx
    simp only [List.mem_cons, List.not_mem_nil, or_false, Prod.mk.injEq] at hL
    obtain ⟨e, rfl⟩ := hL
    refine ⟨15, ⟨tableOf [], ⟨0, 12, 15, 21⟩, tableOf [], rfl, fun z hz => absurd hz List.not_mem_nil, by decide, by decide, w700, wn711, rfl⟩, fun q => ?_⟩
    refine V_astore (L' := [some (.ref (c 0)), some (.int (zI p0)), some (.int (zI p1)), some (.int (zI p2)), some (.ref o), some (.ref q)]) dL_endOf_15 (by decide) rfl ?_
    refine V_iconst dL_endOf_17 ?_
    refine V_iret hR rfl (Nat.le_of_ble_eq_true rfl) (Nat.le_of_ble_eq_true rfl) dL_endOf_18 ?_
    exact LQ.thrown e ⟨by decide, by decide⟩ hP9 hC9
  · obtain ⟨κ2, rfl, rfl, e1, hC2⟩ := hx
    show V K sL_endOf 2 12 (fm (cO en c κ2) ++ [(o, lE 1 g)]) [some (.ref (c 0)), some (.int (zI p0)), some (.int (zI p1)), some (.int (zI p2)), some (.ref o), none] [.int (zI ((sp_endOf P p0 p1 p2).2.1)), .int (zI 0), .ref o] 10
    refine V_i2l dL_endOf_10 ?_
    refine V_last (N := 1) _ (fm_out en c κ2 o g) ⟨by decide, by decide⟩ (by decide) dL_endOf_11 ?_
    rw [fm_set]
    refine V_goto (tgt := 19) dL_endOf_12 (by decide) ?_
    refine V_iconst dL_endOf_19 ?_
    refine V_iret hR rfl (Nat.le_of_ble_eq_true rfl) (Nat.le_of_ble_eq_true rfl) dL_endOf_20 ?_
    exact LQ.ok e1 rfl hC2 rfl (fun z => absurd z (by decide))
abbrev sL_liveAt : SI := (cL_liveAt, RL, 4, (some (FieldType.int)), ⟨8, 1, 6, 157⟩)
theorem w865 : Cond.codeWith yL_liveAt cL_liveAt 4 (Option.some Jvm.ClassFile.FieldType.int) [(0, 9, 12, 21)] ∈ WA := wa_of (wm4 (List.mem_of_getElem? (i := 145) rfl)) rfl
theorem mokL_liveAt : MOKH yL_liveAt sL_liveAt [(0, 9, 12, 21)] 3 := ⟨w865, w0, by decide +kernel⟩
set_option maxRecDepth 100000 in
set_option maxHeartbeats 4000000 in
theorem l_liveAt (en c : Nat → Nat) (κ P : St) (o : Nat) (g : Nat → Int64) (p0 : Int) (hM : MI P) (hC : CWP P κ) (h_p0 : iR p0) : MCH (EX en) yL_liveAt sL_liveAt [(0, 9, 12, 21)] [.ref (c 0), .int (zI p0), .ref o] (fm (cO en c κ) ++ [(o, lE 1 g)]) (LQ en c o (sp_liveAt P p0) false) := by
  refine MCH.of (EX.stb en) [some (.ref (c 0)), some (.int (zI p0)), some (.ref o), none] 1 rfl rfl rfl (by simp [Value.category]) (Nat.le_of_ble_eq_true rfl) (fun K hK hT hR => ?_)
  refine V_aload_n dL_liveAt_0 rfl ?_
  refine V_iconst dL_liveAt_1 ?_
  refine V_aload_n dL_liveAt_2 rfl ?_
  refine V_iload_n dL_liveAt_3 rfl ?_
  refine V_callXVAH (As := [.int (zI p0)]) (b := c 0) (q0 := 0) (ci := 9) (fs := cwF c κ) (T := TX10) (N := 9) (fm_cw en c κ _) rfl (wc := fm (cO en c κ)) (wr := [(o, lE 1 g)]) rfl hK hT (MCX.env EX.en (k_liveAt en c κ p0 P ⟨hM, hC.1, h_p0, hC.2.1, hC.2.2⟩)) mokX10_liveAt w866 w867 w868 ⟨Nat.le_of_ble_eq_true rfl, Nat.le_of_ble_eq_true rfl⟩ rfl (Nat.le_of_ble_eq_true rfl) ⟨Nat.le_of_ble_eq_true rfl, Nat.le_of_ble_eq_true rfl⟩ dL_liveAt_4 (fun X w hx => ?_) (fun v w hx => ?_)
  · obtain ⟨κ9, rfl, hC9, hP9, hL⟩ := hx
    simp only [List.mem_cons, List.not_mem_nil, or_false, Prod.mk.injEq] at hL
    obtain ⟨e, rfl⟩ := hL
    refine ⟨12, ⟨tableOf [], ⟨0, 9, 12, 21⟩, tableOf [], rfl, fun z hz => absurd hz List.not_mem_nil, by decide, by decide, w700, wn711, rfl⟩, fun q => ?_⟩
    refine V_astore_n (L' := [some (.ref (c 0)), some (.int (zI p0)), some (.ref o), some (.ref q)]) dL_liveAt_12 (by decide) rfl ?_
    refine V_iconst dL_liveAt_13 ?_
    refine V_iret hR rfl (Nat.le_of_ble_eq_true rfl) (Nat.le_of_ble_eq_true rfl) dL_liveAt_14 ?_
    exact LQ.thrown e ⟨by decide, by decide⟩ hP9 hC9
  · obtain ⟨κ2, rfl, rfl, e1, hC2⟩ := hx
    show V K sL_liveAt 1 6 (fm (cO en c κ2) ++ [(o, lE 1 g)]) [some (.ref (c 0)), some (.int (zI p0)), some (.ref o), none] [.int (zI ((sp_liveAt P p0).2.1)), .int (zI 0), .ref o] 7
    refine V_i2l dL_liveAt_7 ?_
    refine V_last (N := 1) _ (fm_out en c κ2 o g) ⟨by decide, by decide⟩ (by decide) dL_liveAt_8 ?_
    rw [fm_set]
    refine V_goto (tgt := 15) dL_liveAt_9 (by decide) ?_
    refine V_iconst dL_liveAt_15 ?_
    refine V_iret hR rfl (Nat.le_of_ble_eq_true rfl) (Nat.le_of_ble_eq_true rfl) dL_liveAt_16 ?_
    exact LQ.ok e1 rfl hC2 rfl (fun z => absurd z (by decide))
abbrev sL_mostLiveOf : SI := (cL_mostLiveOf, RL, 4, (some (FieldType.int)), ⟨8, 1, 6, 157⟩)
theorem w876 : Cond.codeWith yL_mostLiveOf cL_mostLiveOf 4 (Option.some Jvm.ClassFile.FieldType.int) [(0, 9, 12, 21)] ∈ WA := wa_of (wm4 (List.mem_of_getElem? (i := 156) rfl)) rfl
theorem mokL_mostLiveOf : MOKH yL_mostLiveOf sL_mostLiveOf [(0, 9, 12, 21)] 3 := ⟨w876, w0, by decide +kernel⟩
set_option maxRecDepth 100000 in
set_option maxHeartbeats 4000000 in
theorem l_mostLiveOf (en c : Nat → Nat) (κ P : St) (o : Nat) (g : Nat → Int64) (p0 : Int) (hM : MI P) (hC : CWP P κ) (h_p0 : iR p0) : MCH (EX en) yL_mostLiveOf sL_mostLiveOf [(0, 9, 12, 21)] [.ref (c 0), .int (zI p0), .ref o] (fm (cO en c κ) ++ [(o, lE 1 g)]) (LQ en c o (sp_mostLiveOf P p0) false) := by
  refine MCH.of (EX.stb en) [some (.ref (c 0)), some (.int (zI p0)), some (.ref o), none] 1 rfl rfl rfl (by simp [Value.category]) (Nat.le_of_ble_eq_true rfl) (fun K hK hT hR => ?_)
  refine V_aload_n dL_mostLiveOf_0 rfl ?_
  refine V_iconst dL_mostLiveOf_1 ?_
  refine V_aload_n dL_mostLiveOf_2 rfl ?_
  refine V_iload_n dL_mostLiveOf_3 rfl ?_
  refine V_callXVAH (As := [.int (zI p0)]) (b := c 0) (q0 := 0) (ci := 9) (fs := cwF c κ) (T := TX10) (N := 9) (fm_cw en c κ _) rfl (wc := fm (cO en c κ)) (wr := [(o, lE 1 g)]) rfl hK hT (MCX.env EX.en (k_mostLiveOf en c κ p0 P ⟨hM, hC.1, h_p0, hC.2.1, hC.2.2⟩)) mokX10_mostLiveOf w877 w878 w879 ⟨Nat.le_of_ble_eq_true rfl, Nat.le_of_ble_eq_true rfl⟩ rfl (Nat.le_of_ble_eq_true rfl) ⟨Nat.le_of_ble_eq_true rfl, Nat.le_of_ble_eq_true rfl⟩ dL_mostLiveOf_4 (fun X w hx => ?_) (fun v w hx => ?_)
  · obtain ⟨κ9, rfl, hC9, hP9, hL⟩ := hx
    simp only [List.mem_cons, List.not_mem_nil, or_false, Prod.mk.injEq] at hL
    obtain ⟨e, rfl⟩ := hL
    refine ⟨12, ⟨tableOf [], ⟨0, 9, 12, 21⟩, tableOf [], rfl, fun z hz => absurd hz List.not_mem_nil, by decide, by decide, w700, wn711, rfl⟩, fun q => ?_⟩
    refine V_astore_n (L' := [some (.ref (c 0)), some (.int (zI p0)), some (.ref o), some (.ref q)]) dL_mostLiveOf_12 (by decide) rfl ?_
    refine V_iconst dL_mostLiveOf_13 ?_
    refine V_iret hR rfl (Nat.le_of_ble_eq_true rfl) (Nat.le_of_ble_eq_true rfl) dL_mostLiveOf_14 ?_
    exact LQ.thrown e ⟨by decide, by decide⟩ hP9 hC9
  · obtain ⟨κ2, rfl, rfl, e1, hC2⟩ := hx
    show V K sL_mostLiveOf 1 6 (fm (cO en c κ2) ++ [(o, lE 1 g)]) [some (.ref (c 0)), some (.int (zI p0)), some (.ref o), none] [.int (zI ((sp_mostLiveOf P p0).2.1)), .int (zI 0), .ref o] 7
    refine V_i2l dL_mostLiveOf_7 ?_
    refine V_last (N := 1) _ (fm_out en c κ2 o g) ⟨by decide, by decide⟩ (by decide) dL_mostLiveOf_8 ?_
    rw [fm_set]
    refine V_goto (tgt := 15) dL_mostLiveOf_9 (by decide) ?_
    refine V_iconst dL_mostLiveOf_15 ?_
    refine V_iret hR rfl (Nat.le_of_ble_eq_true rfl) (Nat.le_of_ble_eq_true rfl) dL_mostLiveOf_16 ?_
    exact LQ.ok e1 rfl hC2 rfl (fun z => absurd z (by decide))
abbrev sL_conflictsOf : SI := (cL_conflictsOf, RL, 7, (some (FieldType.int)), ⟨9, 3, 18, 161⟩)
theorem w883 : Cond.codeWith yL_conflictsOf cL_conflictsOf 7 (Option.some Jvm.ClassFile.FieldType.int) [(0, 14, 17, 21)] ∈ WA := wa_of (wm4 (List.mem_of_getElem? (i := 163) rfl)) rfl
theorem mokL_conflictsOf : MOKH yL_conflictsOf sL_conflictsOf [(0, 14, 17, 21)] 6 := ⟨w883, w0, by decide +kernel⟩
set_option maxRecDepth 100000 in
set_option maxHeartbeats 4000000 in
theorem l_conflictsOf (en c : Nat → Nat) (κ P : St) (o : Nat) (g : Nat → Int64) (p0 : Int) (p1 : Int) (p2 : Int) (p3 : Int) (hM : MI P) (hC : CWP P κ) (h_p0 : iR p0) (h_p1 : iR p1) (h_p2 : iR p2) (h_p3 : iR p3) : MCH (EX en) yL_conflictsOf sL_conflictsOf [(0, 14, 17, 21)] [.ref (c 0), .int (zI p0), .int (zI p1), .int (zI p2), .int (zI p3), .ref o] (fm (cO en c κ) ++ [(o, lE 1 g)]) (LQ en c o (sp_conflictsOf P p0 p1 p2 p3) false) := by
  refine MCH.of (EX.stb en) [some (.ref (c 0)), some (.int (zI p0)), some (.int (zI p1)), some (.int (zI p2)), some (.int (zI p3)), some (.ref o), none] 1 rfl rfl rfl (by simp [Value.category]) (Nat.le_of_ble_eq_true rfl) (fun K hK hT hR => ?_)
  refine V_aload dL_conflictsOf_0 rfl ?_
  refine V_iconst dL_conflictsOf_2 ?_
  refine V_aload_n dL_conflictsOf_3 rfl ?_
  refine V_iload_n dL_conflictsOf_4 rfl ?_
  refine V_iload_n dL_conflictsOf_5 rfl ?_
  refine V_iload_n dL_conflictsOf_6 rfl ?_
  refine V_iload dL_conflictsOf_7 rfl ?_
  refine V_callXVAH (As := [.int (zI p0), .int (zI p1), .int (zI p2), .int (zI p3)]) (b := c 0) (q0 := 0) (ci := 9) (fs := cwF c κ) (T := TX10) (N := 9) (fm_cw en c κ _) rfl (wc := fm (cO en c κ)) (wr := [(o, lE 1 g)]) rfl hK hT (MCX.env EX.en (k_conflictsOf en c κ p0 p1 p2 p3 P ⟨hM, hC.1, h_p0, h_p1, h_p2, h_p3, hC.2.1, hC.2.2⟩)) mokX10_conflictsOf w884 w885 w886 ⟨Nat.le_of_ble_eq_true rfl, Nat.le_of_ble_eq_true rfl⟩ rfl (Nat.le_of_ble_eq_true rfl) ⟨Nat.le_of_ble_eq_true rfl, Nat.le_of_ble_eq_true rfl⟩ dL_conflictsOf_9 (fun X w hx => ?_) (fun v w hx => ?_)
  · obtain ⟨κ9, rfl, hC9, hP9, hL⟩ := hx
    simp only [List.mem_cons, List.not_mem_nil, or_false, Prod.mk.injEq] at hL
    obtain ⟨e, rfl⟩ := hL
    refine ⟨17, ⟨tableOf [], ⟨0, 14, 17, 21⟩, tableOf [], rfl, fun z hz => absurd hz List.not_mem_nil, by decide, by decide, w700, wn711, rfl⟩, fun q => ?_⟩
    refine V_astore (L' := [some (.ref (c 0)), some (.int (zI p0)), some (.int (zI p1)), some (.int (zI p2)), some (.int (zI p3)), some (.ref o), some (.ref q)]) dL_conflictsOf_17 (by decide) rfl ?_
    refine V_iconst dL_conflictsOf_19 ?_
    refine V_iret hR rfl (Nat.le_of_ble_eq_true rfl) (Nat.le_of_ble_eq_true rfl) dL_conflictsOf_20 ?_
    exact LQ.thrown e ⟨by decide, by decide⟩ hP9 hC9
  · obtain ⟨κ2, rfl, rfl, e1, hC2⟩ := hx
    show V K sL_conflictsOf 3 18 (fm (cO en c κ2) ++ [(o, lE 1 g)]) [some (.ref (c 0)), some (.int (zI p0)), some (.int (zI p1)), some (.int (zI p2)), some (.int (zI p3)), some (.ref o), none] [.int (zI ((sp_conflictsOf P p0 p1 p2 p3).2.1)), .int (zI 0), .ref o] 12
    refine V_i2l dL_conflictsOf_12 ?_
    refine V_last (N := 1) _ (fm_out en c κ2 o g) ⟨by decide, by decide⟩ (by decide) dL_conflictsOf_13 ?_
    rw [fm_set]
    refine V_goto (tgt := 21) dL_conflictsOf_14 (by decide) ?_
    refine V_iconst dL_conflictsOf_21 ?_
    refine V_iret hR rfl (Nat.le_of_ble_eq_true rfl) (Nat.le_of_ble_eq_true rfl) dL_conflictsOf_22 ?_
    exact LQ.ok e1 rfl hC2 rfl (fun z => absurd z (by decide))
abbrev sL_conflictPairs : SI := (cL_conflictPairs, RL, 4, (some (FieldType.int)), ⟨8, 1, 6, 160⟩)
theorem w895 : Cond.codeWith yL_conflictPairs cL_conflictPairs 4 (Option.some Jvm.ClassFile.FieldType.int) [(0, 9, 12, 21)] ∈ WA := wa_of (wm4 (List.mem_of_getElem? (i := 175) rfl)) rfl
theorem mokL_conflictPairs : MOKH yL_conflictPairs sL_conflictPairs [(0, 9, 12, 21)] 3 := ⟨w895, w0, by decide +kernel⟩
set_option maxRecDepth 100000 in
set_option maxHeartbeats 4000000 in
theorem l_conflictPairs (en c : Nat → Nat) (κ P : St) (o : Nat) (g : Nat → Int64) (p0 : Int) (hM : MI P) (hC : CWP P κ) (h_p0 : iR p0) : MCH (EX en) yL_conflictPairs sL_conflictPairs [(0, 9, 12, 21)] [.ref (c 0), .int (zI p0), .ref o] (fm (cO en c κ) ++ [(o, lE 1 g)]) (LQ en c o (sp_conflictPairs P p0) false) := by
  refine MCH.of (EX.stb en) [some (.ref (c 0)), some (.int (zI p0)), some (.ref o), none] 1 rfl rfl rfl (by simp [Value.category]) (Nat.le_of_ble_eq_true rfl) (fun K hK hT hR => ?_)
  refine V_aload_n dL_conflictPairs_0 rfl ?_
  refine V_iconst dL_conflictPairs_1 ?_
  refine V_aload_n dL_conflictPairs_2 rfl ?_
  refine V_iload_n dL_conflictPairs_3 rfl ?_
  refine V_callXVAH (As := [.int (zI p0)]) (b := c 0) (q0 := 0) (ci := 9) (fs := cwF c κ) (T := TX10) (N := 9) (fm_cw en c κ _) rfl (wc := fm (cO en c κ)) (wr := [(o, lE 1 g)]) rfl hK hT (MCX.env EX.en (k_conflictPairs en c κ p0 P ⟨hM, hC.1, h_p0, hC.2.1, hC.2.2⟩)) mokX10_conflictPairs w896 w897 w898 ⟨Nat.le_of_ble_eq_true rfl, Nat.le_of_ble_eq_true rfl⟩ rfl (Nat.le_of_ble_eq_true rfl) ⟨Nat.le_of_ble_eq_true rfl, Nat.le_of_ble_eq_true rfl⟩ dL_conflictPairs_4 (fun X w hx => ?_) (fun v w hx => ?_)
  · obtain ⟨κ9, rfl, hC9, hP9, hL⟩ := hx
    simp only [List.mem_cons, List.not_mem_nil, or_false, Prod.mk.injEq] at hL
    obtain ⟨e, rfl⟩ := hL
    refine ⟨12, ⟨tableOf [], ⟨0, 9, 12, 21⟩, tableOf [], rfl, fun z hz => absurd hz List.not_mem_nil, by decide, by decide, w700, wn711, rfl⟩, fun q => ?_⟩
    refine V_astore_n (L' := [some (.ref (c 0)), some (.int (zI p0)), some (.ref o), some (.ref q)]) dL_conflictPairs_12 (by decide) rfl ?_
    refine V_iconst dL_conflictPairs_13 ?_
    refine V_iret hR rfl (Nat.le_of_ble_eq_true rfl) (Nat.le_of_ble_eq_true rfl) dL_conflictPairs_14 ?_
    exact LQ.thrown e ⟨by decide, by decide⟩ hP9 hC9
  · obtain ⟨κ2, rfl, rfl, e1, hC2⟩ := hx
    show V K sL_conflictPairs 1 6 (fm (cO en c κ2) ++ [(o, lE 1 g)]) [some (.ref (c 0)), some (.int (zI p0)), some (.ref o), none] [.int (zI ((sp_conflictPairs P p0).2.1)), .int (zI 0), .ref o] 7
    refine V_i2l dL_conflictPairs_7 ?_
    refine V_last (N := 1) _ (fm_out en c κ2 o g) ⟨by decide, by decide⟩ (by decide) dL_conflictPairs_8 ?_
    rw [fm_set]
    refine V_goto (tgt := 15) dL_conflictPairs_9 (by decide) ?_
    refine V_iconst dL_conflictPairs_15 ?_
    refine V_iret hR rfl (Nat.le_of_ble_eq_true rfl) (Nat.le_of_ble_eq_true rfl) dL_conflictPairs_16 ?_
    exact LQ.ok e1 rfl hC2 rfl (fun z => absurd z (by decide))
abbrev sL_keepWhole : SI := (cL_keepWhole, RL, 4, (some (FieldType.int)), ⟨8, 1, 6, 132⟩)
theorem w902 : Cond.codeWith yL_keepWhole cL_keepWhole 4 (Option.some Jvm.ClassFile.FieldType.int) [(0, 9, 12, 21)] ∈ WA := wa_of (wm4 (List.mem_of_getElem? (i := 182) rfl)) rfl
theorem mokL_keepWhole : MOKH yL_keepWhole sL_keepWhole [(0, 9, 12, 21)] 3 := ⟨w902, w0, by decide +kernel⟩
set_option maxRecDepth 100000 in
set_option maxHeartbeats 4000000 in
theorem l_keepWhole (en c : Nat → Nat) (κ P : St) (o : Nat) (g : Nat → Int64) (p0 : Int) (hM : MI P) (hC : CWP P κ) (h_p0 : iR p0) : MCH (EX en) yL_keepWhole sL_keepWhole [(0, 9, 12, 21)] [.ref (c 0), .int (zI p0), .ref o] (fm (cO en c κ) ++ [(o, lE 1 g)]) (LQ en c o (sp_keepWhole P p0) false) := by
  refine MCH.of (EX.stb en) [some (.ref (c 0)), some (.int (zI p0)), some (.ref o), none] 1 rfl rfl rfl (by simp [Value.category]) (Nat.le_of_ble_eq_true rfl) (fun K hK hT hR => ?_)
  refine V_aload_n dL_keepWhole_0 rfl ?_
  refine V_iconst dL_keepWhole_1 ?_
  refine V_aload_n dL_keepWhole_2 rfl ?_
  refine V_iload_n dL_keepWhole_3 rfl ?_
  refine V_callXVAH (As := [.int (zI p0)]) (b := c 0) (q0 := 0) (ci := 9) (fs := cwF c κ) (T := TX10) (N := 9) (fm_cw en c κ _) rfl (wc := fm (cO en c κ)) (wr := [(o, lE 1 g)]) rfl hK hT (MCX.env EX.en (k_keepWhole en c κ p0 P ⟨hM, hC.1, h_p0, hC.2.1, hC.2.2⟩)) mokX10_keepWhole w903 w904 w905 ⟨Nat.le_of_ble_eq_true rfl, Nat.le_of_ble_eq_true rfl⟩ rfl (Nat.le_of_ble_eq_true rfl) ⟨Nat.le_of_ble_eq_true rfl, Nat.le_of_ble_eq_true rfl⟩ dL_keepWhole_4 (fun X w hx => ?_) (fun v w hx => ?_)
  · obtain ⟨κ9, rfl, hC9, hP9, hL⟩ := hx
    simp only [List.mem_cons, List.not_mem_nil, or_false, Prod.mk.injEq] at hL
    obtain ⟨e, rfl⟩ := hL
    refine ⟨12, ⟨tableOf [], ⟨0, 9, 12, 21⟩, tableOf [], rfl, fun z hz => absurd hz List.not_mem_nil, by decide, by decide, w700, wn711, rfl⟩, fun q => ?_⟩
    refine V_astore_n (L' := [some (.ref (c 0)), some (.int (zI p0)), some (.ref o), some (.ref q)]) dL_keepWhole_12 (by decide) rfl ?_
    refine V_iconst dL_keepWhole_13 ?_
    refine V_iret hR rfl (Nat.le_of_ble_eq_true rfl) (Nat.le_of_ble_eq_true rfl) dL_keepWhole_14 ?_
    exact LQ.thrown e ⟨by decide, by decide⟩ hP9 hC9
  · obtain ⟨κ2, rfl, rfl, e1, hC2⟩ := hx
    show V K sL_keepWhole 1 6 (fm (cO en c κ2) ++ [(o, lE 1 g)]) [some (.ref (c 0)), some (.int (zI p0)), some (.ref o), none] [.int (zI ((sp_keepWhole P p0).2.1)), .int (zI 0), .ref o] 7
    refine V_i2l dL_keepWhole_7 ?_
    refine V_last (N := 1) _ (fm_out en c κ2 o g) ⟨by decide, by decide⟩ (by decide) dL_keepWhole_8 ?_
    rw [fm_set]
    refine V_goto (tgt := 15) dL_keepWhole_9 (by decide) ?_
    refine V_iconst dL_keepWhole_15 ?_
    refine V_iret hR rfl (Nat.le_of_ble_eq_true rfl) (Nat.le_of_ble_eq_true rfl) dL_keepWhole_16 ?_
    exact LQ.ok e1 rfl hC2 rfl (fun z => absurd z (by decide))
abbrev sL_keepRest : SI := (cL_keepRest, RL, 5, (some (FieldType.int)), ⟨8, 2, 12, 134⟩)
theorem w909 : Cond.codeWith yL_keepRest cL_keepRest 5 (Option.some Jvm.ClassFile.FieldType.int) [(0, 10, 13, 21), (0, 10, 17, 13)] ∈ WA := wa_of (wm4 (List.mem_of_getElem? (i := 189) rfl)) rfl
theorem mokL_keepRest : MOKH yL_keepRest sL_keepRest [(0, 10, 13, 21), (0, 10, 17, 13)] 4 := ⟨w909, w0, by decide +kernel⟩
set_option maxRecDepth 100000 in
set_option maxHeartbeats 4000000 in
theorem l_keepRest (en c : Nat → Nat) (κ P : St) (o : Nat) (g : Nat → Int64) (p0 : Int) (p1 : Int) (hM : MI P) (hC : CWP P κ) (h_p0 : iR p0) (h_p1 : iR p1) : MCH (EX en) yL_keepRest sL_keepRest [(0, 10, 13, 21), (0, 10, 17, 13)] [.ref (c 0), .int (zI p0), .int (zI p1), .ref o] (fm (cO en c κ) ++ [(o, lE 1 g)]) (LQ en c o (sp_keepRest P p0 p1) false) := by
  refine MCH.of (EX.stb en) [some (.ref (c 0)), some (.int (zI p0)), some (.int (zI p1)), some (.ref o), none] 1 rfl rfl rfl (by simp [Value.category]) (Nat.le_of_ble_eq_true rfl) (fun K hK hT hR => ?_)
  refine V_aload_n dL_keepRest_0 rfl ?_
  refine V_iconst dL_keepRest_1 ?_
  refine V_aload_n dL_keepRest_2 rfl ?_
  refine V_iload_n dL_keepRest_3 rfl ?_
  refine V_iload_n dL_keepRest_4 rfl ?_
  refine V_callXVAH (As := [.int (zI p0), .int (zI p1)]) (b := c 0) (q0 := 0) (ci := 9) (fs := cwF c κ) (T := TX10) (N := 9) (fm_cw en c κ _) rfl (wc := fm (cO en c κ)) (wr := [(o, lE 1 g)]) rfl hK hT (MCX.env EX.en (k_keepRest en c κ p0 p1 P ⟨hM, hC.1, h_p0, h_p1, hC.2.1, hC.2.2⟩)) mokX10_keepRest w910 w911 w912 ⟨Nat.le_of_ble_eq_true rfl, Nat.le_of_ble_eq_true rfl⟩ rfl (Nat.le_of_ble_eq_true rfl) ⟨Nat.le_of_ble_eq_true rfl, Nat.le_of_ble_eq_true rfl⟩ dL_keepRest_5 (fun X w hx => ?_) (fun v w hx => ?_)
  · obtain ⟨κ9, rfl, hC9, hP9, hL⟩ := hx
    simp only [List.mem_cons, List.not_mem_nil, or_false, Prod.mk.injEq] at hL
    rcases hL with ⟨e, rfl⟩ | ⟨e, rfl⟩
    · refine ⟨13, ⟨tableOf [], ⟨0, 10, 13, 21⟩, tableOf [(0, 10, 17, 13)], rfl, fun z hz => absurd hz List.not_mem_nil, by decide, by decide, w700, wn711, rfl⟩, fun q => ?_⟩
      refine V_astore (L' := [some (.ref (c 0)), some (.int (zI p0)), some (.int (zI p1)), some (.ref o), some (.ref q)]) dL_keepRest_13 (by decide) rfl ?_
      refine V_iconst dL_keepRest_15 ?_
      refine V_iret hR rfl (Nat.le_of_ble_eq_true rfl) (Nat.le_of_ble_eq_true rfl) dL_keepRest_16 ?_
      exact LQ.thrown e ⟨by decide, by decide⟩ hP9 hC9
    · refine ⟨17, ⟨tableOf [(0, 10, 13, 21)], ⟨0, 10, 17, 13⟩, tableOf [], rfl, all1 ⟨by decide, _, w700, by simp [NcL]⟩, by decide, by decide, w507, wn518, rfl⟩, fun q => ?_⟩
      refine V_astore (L' := [some (.ref (c 0)), some (.int (zI p0)), some (.int (zI p1)), some (.ref o), some (.ref q)]) dL_keepRest_17 (by decide) rfl ?_
      refine V_iconst dL_keepRest_19 ?_
      refine V_iret hR rfl (Nat.le_of_ble_eq_true rfl) (Nat.le_of_ble_eq_true rfl) dL_keepRest_20 ?_
      exact LQ.thrown e ⟨by decide, by decide⟩ hP9 hC9
  · obtain ⟨κ2, rfl, rfl, e1, hC2⟩ := hx
    show V K sL_keepRest 2 12 (fm (cO en c κ2) ++ [(o, lE 1 g)]) [some (.ref (c 0)), some (.int (zI p0)), some (.int (zI p1)), some (.ref o), none] [.int (zI ((sp_keepRest P p0 p1).2.1)), .int (zI 0), .ref o] 8
    refine V_i2l dL_keepRest_8 ?_
    refine V_last (N := 1) _ (fm_out en c κ2 o g) ⟨by decide, by decide⟩ (by decide) dL_keepRest_9 ?_
    rw [fm_set]
    refine V_goto (tgt := 21) dL_keepRest_10 (by decide) ?_
    refine V_iconst dL_keepRest_21 ?_
    refine V_iret hR rfl (Nat.le_of_ble_eq_true rfl) (Nat.le_of_ble_eq_true rfl) dL_keepRest_22 ?_
    exact LQ.ok e1 rfl hC2 rfl (fun z => absurd z (by decide))
abbrev sL_keepTwoRests : SI := (cL_keepTwoRests, RL, 6, (some (FieldType.int)), ⟨8, 3, 18, 135⟩)
theorem w917 : Cond.codeWith yL_keepTwoRests cL_keepTwoRests 6 (Option.some Jvm.ClassFile.FieldType.int) [(0, 12, 15, 21), (0, 12, 19, 13)] ∈ WA := wa_of (wm4 (List.mem_of_getElem? (i := 197) rfl)) rfl
theorem mokL_keepTwoRests : MOKH yL_keepTwoRests sL_keepTwoRests [(0, 12, 15, 21), (0, 12, 19, 13)] 5 := ⟨w917, w0, by decide +kernel⟩
set_option maxRecDepth 100000 in
set_option maxHeartbeats 4000000 in
theorem l_keepTwoRests (en c : Nat → Nat) (κ P : St) (o : Nat) (g : Nat → Int64) (p0 : Int) (p1 : Int) (p2 : Int) (hM : MI P) (hC : CWP P κ) (h_p0 : iR p0) (h_p1 : iR p1) (h_p2 : iR p2) : MCH (EX en) yL_keepTwoRests sL_keepTwoRests [(0, 12, 15, 21), (0, 12, 19, 13)] [.ref (c 0), .int (zI p0), .int (zI p1), .int (zI p2), .ref o] (fm (cO en c κ) ++ [(o, lE 1 g)]) (LQ en c o (sp_keepTwoRests P p0 p1 p2) false) := by
  refine MCH.of (EX.stb en) [some (.ref (c 0)), some (.int (zI p0)), some (.int (zI p1)), some (.int (zI p2)), some (.ref o), none] 1 rfl rfl rfl (by simp [Value.category]) (Nat.le_of_ble_eq_true rfl) (fun K hK hT hR => ?_)
  refine V_aload dL_keepTwoRests_0 rfl ?_
  refine V_iconst dL_keepTwoRests_2 ?_
  refine V_aload_n dL_keepTwoRests_3 rfl ?_
  refine V_iload_n dL_keepTwoRests_4 rfl ?_
  refine V_iload_n dL_keepTwoRests_5 rfl ?_
  refine V_iload_n dL_keepTwoRests_6 rfl ?_
  refine V_callXVAH (As := [.int (zI p0), .int (zI p1), .int (zI p2)]) (b := c 0) (q0 := 0) (ci := 9) (fs := cwF c κ) (T := TX10) (N := 9) (fm_cw en c κ _) rfl (wc := fm (cO en c κ)) (wr := [(o, lE 1 g)]) rfl hK hT (MCX.env EX.en (k_keepTwoRests en c κ p0 p1 p2 P ⟨hM, hC.1, h_p0, h_p1, h_p2, hC.2.1, hC.2.2⟩)) mokX10_keepTwoRests w918 w919 w920 ⟨Nat.le_of_ble_eq_true rfl, Nat.le_of_ble_eq_true rfl⟩ rfl (Nat.le_of_ble_eq_true rfl) ⟨Nat.le_of_ble_eq_true rfl, Nat.le_of_ble_eq_true rfl⟩ dL_keepTwoRests_7 (fun X w hx => ?_) (fun v w hx => ?_)
  · obtain ⟨κ9, rfl, hC9, hP9, hL⟩ := hx
    simp only [List.mem_cons, List.not_mem_nil, or_false, Prod.mk.injEq] at hL
    rcases hL with ⟨e, rfl⟩ | ⟨e, rfl⟩
    · refine ⟨15, ⟨tableOf [], ⟨0, 12, 15, 21⟩, tableOf [(0, 12, 19, 13)], rfl, fun z hz => absurd hz List.not_mem_nil, by decide, by decide, w700, wn711, rfl⟩, fun q => ?_⟩
      refine V_astore (L' := [some (.ref (c 0)), some (.int (zI p0)), some (.int (zI p1)), some (.int (zI p2)), some (.ref o), some (.ref q)]) dL_keepTwoRests_15 (by decide) rfl ?_
      refine V_iconst dL_keepTwoRests_17 ?_
      refine V_iret hR rfl (Nat.le_of_ble_eq_true rfl) (Nat.le_of_ble_eq_true rfl) dL_keepTwoRests_18 ?_
      exact LQ.thrown e ⟨by decide, by decide⟩ hP9 hC9
    · refine ⟨19, ⟨tableOf [(0, 12, 15, 21)], ⟨0, 12, 19, 13⟩, tableOf [], rfl, all1 ⟨by decide, _, w700, by simp [NcL]⟩, by decide, by decide, w507, wn518, rfl⟩, fun q => ?_⟩
      refine V_astore (L' := [some (.ref (c 0)), some (.int (zI p0)), some (.int (zI p1)), some (.int (zI p2)), some (.ref o), some (.ref q)]) dL_keepTwoRests_19 (by decide) rfl ?_
      refine V_iconst dL_keepTwoRests_21 ?_
      refine V_iret hR rfl (Nat.le_of_ble_eq_true rfl) (Nat.le_of_ble_eq_true rfl) dL_keepTwoRests_22 ?_
      exact LQ.thrown e ⟨by decide, by decide⟩ hP9 hC9
  · obtain ⟨κ2, rfl, rfl, e1, hC2⟩ := hx
    show V K sL_keepTwoRests 3 18 (fm (cO en c κ2) ++ [(o, lE 1 g)]) [some (.ref (c 0)), some (.int (zI p0)), some (.int (zI p1)), some (.int (zI p2)), some (.ref o), none] [.int (zI ((sp_keepTwoRests P p0 p1 p2).2.1)), .int (zI 0), .ref o] 10
    refine V_i2l dL_keepTwoRests_10 ?_
    refine V_last (N := 1) _ (fm_out en c κ2 o g) ⟨by decide, by decide⟩ (by decide) dL_keepTwoRests_11 ?_
    rw [fm_set]
    refine V_goto (tgt := 23) dL_keepTwoRests_12 (by decide) ?_
    refine V_iconst dL_keepTwoRests_23 ?_
    refine V_iret hR rfl (Nat.le_of_ble_eq_true rfl) (Nat.le_of_ble_eq_true rfl) dL_keepTwoRests_24 ?_
    exact LQ.ok e1 rfl hC2 rfl (fun z => absurd z (by decide))
abbrev sL_keepSlant : SI := (cL_keepSlant, RL, 6, (some (FieldType.int)), ⟨8, 3, 18, 135⟩)
theorem w925 : Cond.codeWith yL_keepSlant cL_keepSlant 6 (Option.some Jvm.ClassFile.FieldType.int) [(0, 12, 15, 21), (0, 12, 19, 13)] ∈ WA := wa_of (wm4 (List.mem_of_getElem? (i := 205) rfl)) rfl
theorem mokL_keepSlant : MOKH yL_keepSlant sL_keepSlant [(0, 12, 15, 21), (0, 12, 19, 13)] 5 := ⟨w925, w0, by decide +kernel⟩
set_option maxRecDepth 100000 in
set_option maxHeartbeats 4000000 in
theorem l_keepSlant (en c : Nat → Nat) (κ P : St) (o : Nat) (g : Nat → Int64) (p0 : Int) (p1 : Int) (p2 : Int) (hM : MI P) (hC : CWP P κ) (h_p0 : iR p0) (h_p1 : iR p1) (h_p2 : iR p2) : MCH (EX en) yL_keepSlant sL_keepSlant [(0, 12, 15, 21), (0, 12, 19, 13)] [.ref (c 0), .int (zI p0), .int (zI p1), .int (zI p2), .ref o] (fm (cO en c κ) ++ [(o, lE 1 g)]) (LQ en c o (sp_keepSlant P p0 p1 p2) false) := by
  refine MCH.of (EX.stb en) [some (.ref (c 0)), some (.int (zI p0)), some (.int (zI p1)), some (.int (zI p2)), some (.ref o), none] 1 rfl rfl rfl (by simp [Value.category]) (Nat.le_of_ble_eq_true rfl) (fun K hK hT hR => ?_)
  refine V_aload dL_keepSlant_0 rfl ?_
  refine V_iconst dL_keepSlant_2 ?_
  refine V_aload_n dL_keepSlant_3 rfl ?_
  refine V_iload_n dL_keepSlant_4 rfl ?_
  refine V_iload_n dL_keepSlant_5 rfl ?_
  refine V_iload_n dL_keepSlant_6 rfl ?_
  refine V_callXVAH (As := [.int (zI p0), .int (zI p1), .int (zI p2)]) (b := c 0) (q0 := 0) (ci := 9) (fs := cwF c κ) (T := TX10) (N := 9) (fm_cw en c κ _) rfl (wc := fm (cO en c κ)) (wr := [(o, lE 1 g)]) rfl hK hT (MCX.env EX.en (k_keepSlant en c κ p0 p1 p2 P ⟨hM, hC.1, h_p0, h_p1, h_p2, hC.2.1, hC.2.2⟩)) mokX10_keepSlant w926 w927 w928 ⟨Nat.le_of_ble_eq_true rfl, Nat.le_of_ble_eq_true rfl⟩ rfl (Nat.le_of_ble_eq_true rfl) ⟨Nat.le_of_ble_eq_true rfl, Nat.le_of_ble_eq_true rfl⟩ dL_keepSlant_7 (fun X w hx => ?_) (fun v w hx => ?_)
  · obtain ⟨κ9, rfl, hC9, hP9, hL⟩ := hx
    simp only [List.mem_cons, List.not_mem_nil, or_false, Prod.mk.injEq] at hL
    rcases hL with ⟨e, rfl⟩ | ⟨e, rfl⟩
    · refine ⟨15, ⟨tableOf [], ⟨0, 12, 15, 21⟩, tableOf [(0, 12, 19, 13)], rfl, fun z hz => absurd hz List.not_mem_nil, by decide, by decide, w700, wn711, rfl⟩, fun q => ?_⟩
      refine V_astore (L' := [some (.ref (c 0)), some (.int (zI p0)), some (.int (zI p1)), some (.int (zI p2)), some (.ref o), some (.ref q)]) dL_keepSlant_15 (by decide) rfl ?_
      refine V_iconst dL_keepSlant_17 ?_
      refine V_iret hR rfl (Nat.le_of_ble_eq_true rfl) (Nat.le_of_ble_eq_true rfl) dL_keepSlant_18 ?_
      exact LQ.thrown e ⟨by decide, by decide⟩ hP9 hC9
    · refine ⟨19, ⟨tableOf [(0, 12, 15, 21)], ⟨0, 12, 19, 13⟩, tableOf [], rfl, all1 ⟨by decide, _, w700, by simp [NcL]⟩, by decide, by decide, w507, wn518, rfl⟩, fun q => ?_⟩
      refine V_astore (L' := [some (.ref (c 0)), some (.int (zI p0)), some (.int (zI p1)), some (.int (zI p2)), some (.ref o), some (.ref q)]) dL_keepSlant_19 (by decide) rfl ?_
      refine V_iconst dL_keepSlant_21 ?_
      refine V_iret hR rfl (Nat.le_of_ble_eq_true rfl) (Nat.le_of_ble_eq_true rfl) dL_keepSlant_22 ?_
      exact LQ.thrown e ⟨by decide, by decide⟩ hP9 hC9
  · obtain ⟨κ2, rfl, rfl, e1, hC2⟩ := hx
    show V K sL_keepSlant 3 18 (fm (cO en c κ2) ++ [(o, lE 1 g)]) [some (.ref (c 0)), some (.int (zI p0)), some (.int (zI p1)), some (.int (zI p2)), some (.ref o), none] [.int (zI ((sp_keepSlant P p0 p1 p2).2.1)), .int (zI 0), .ref o] 10
    refine V_i2l dL_keepSlant_10 ?_
    refine V_last (N := 1) _ (fm_out en c κ2 o g) ⟨by decide, by decide⟩ (by decide) dL_keepSlant_11 ?_
    rw [fm_set]
    refine V_goto (tgt := 23) dL_keepSlant_12 (by decide) ?_
    refine V_iconst dL_keepSlant_23 ?_
    refine V_iret hR rfl (Nat.le_of_ble_eq_true rfl) (Nat.le_of_ble_eq_true rfl) dL_keepSlant_24 ?_
    exact LQ.ok e1 rfl hC2 rfl (fun z => absurd z (by decide))
abbrev sL_windowSize : SI := (cL_windowSize, RL, 4, (some (FieldType.int)), ⟨8, 1, 6, 132⟩)
theorem w933 : Cond.codeWith yL_windowSize cL_windowSize 4 (Option.some Jvm.ClassFile.FieldType.int) [(0, 9, 12, 21)] ∈ WA := wa_of (wm4 (List.mem_of_getElem? (i := 213) rfl)) rfl
theorem mokL_windowSize : MOKH yL_windowSize sL_windowSize [(0, 9, 12, 21)] 3 := ⟨w933, w0, by decide +kernel⟩
set_option maxRecDepth 100000 in
set_option maxHeartbeats 4000000 in
theorem l_windowSize (en c : Nat → Nat) (κ P : St) (o : Nat) (g : Nat → Int64) (p0 : Int) (hM : MI P) (hC : CWP P κ) (h_p0 : iR p0) : MCH (EX en) yL_windowSize sL_windowSize [(0, 9, 12, 21)] [.ref (c 0), .int (zI p0), .ref o] (fm (cO en c κ) ++ [(o, lE 1 g)]) (LQ en c o (sp_windowSize P p0) false) := by
  refine MCH.of (EX.stb en) [some (.ref (c 0)), some (.int (zI p0)), some (.ref o), none] 1 rfl rfl rfl (by simp [Value.category]) (Nat.le_of_ble_eq_true rfl) (fun K hK hT hR => ?_)
  refine V_aload_n dL_windowSize_0 rfl ?_
  refine V_iconst dL_windowSize_1 ?_
  refine V_aload_n dL_windowSize_2 rfl ?_
  refine V_iload_n dL_windowSize_3 rfl ?_
  refine V_callXVAH (As := [.int (zI p0)]) (b := c 0) (q0 := 0) (ci := 9) (fs := cwF c κ) (T := TX10) (N := 9) (fm_cw en c κ _) rfl (wc := fm (cO en c κ)) (wr := [(o, lE 1 g)]) rfl hK hT (MCX.env EX.en (k_windowSize en c κ p0 P ⟨hM, hC.1, h_p0, hC.2.1, hC.2.2⟩)) mokX10_windowSize w934 w935 w936 ⟨Nat.le_of_ble_eq_true rfl, Nat.le_of_ble_eq_true rfl⟩ rfl (Nat.le_of_ble_eq_true rfl) ⟨Nat.le_of_ble_eq_true rfl, Nat.le_of_ble_eq_true rfl⟩ dL_windowSize_4 (fun X w hx => ?_) (fun v w hx => ?_)
  · obtain ⟨κ9, rfl, hC9, hP9, hL⟩ := hx
    simp only [List.mem_cons, List.not_mem_nil, or_false, Prod.mk.injEq] at hL
    obtain ⟨e, rfl⟩ := hL
    refine ⟨12, ⟨tableOf [], ⟨0, 9, 12, 21⟩, tableOf [], rfl, fun z hz => absurd hz List.not_mem_nil, by decide, by decide, w700, wn711, rfl⟩, fun q => ?_⟩
    refine V_astore_n (L' := [some (.ref (c 0)), some (.int (zI p0)), some (.ref o), some (.ref q)]) dL_windowSize_12 (by decide) rfl ?_
    refine V_iconst dL_windowSize_13 ?_
    refine V_iret hR rfl (Nat.le_of_ble_eq_true rfl) (Nat.le_of_ble_eq_true rfl) dL_windowSize_14 ?_
    exact LQ.thrown e ⟨by decide, by decide⟩ hP9 hC9
  · obtain ⟨κ2, rfl, rfl, e1, hC2⟩ := hx
    show V K sL_windowSize 1 6 (fm (cO en c κ2) ++ [(o, lE 1 g)]) [some (.ref (c 0)), some (.int (zI p0)), some (.ref o), none] [.int (zI ((sp_windowSize P p0).2.1)), .int (zI 0), .ref o] 7
    refine V_i2l dL_windowSize_7 ?_
    refine V_last (N := 1) _ (fm_out en c κ2 o g) ⟨by decide, by decide⟩ (by decide) dL_windowSize_8 ?_
    rw [fm_set]
    refine V_goto (tgt := 15) dL_windowSize_9 (by decide) ?_
    refine V_iconst dL_windowSize_15 ?_
    refine V_iret hR rfl (Nat.le_of_ble_eq_true rfl) (Nat.le_of_ble_eq_true rfl) dL_windowSize_16 ?_
    exact LQ.ok e1 rfl hC2 rfl (fun z => absurd z (by decide))
abbrev sL_placeOf : SI := (cL_placeOf, RL, 6, (some (FieldType.int)), ⟨8, 2, 12, 135⟩)
theorem w940 : Cond.codeWith yL_placeOf cL_placeOf 6 (Option.some Jvm.ClassFile.FieldType.int) [(0, 12, 15, 21)] ∈ WA := wa_of (wm4 (List.mem_of_getElem? (i := 220) rfl)) rfl
theorem mokL_placeOf : MOKH yL_placeOf sL_placeOf [(0, 12, 15, 21)] 5 := ⟨w940, w0, by decide +kernel⟩
set_option maxRecDepth 100000 in
set_option maxHeartbeats 4000000 in
theorem l_placeOf (en c : Nat → Nat) (κ P : St) (o : Nat) (g : Nat → Int64) (p0 : Int) (p1 : Int) (p2 : Int) (hM : MI P) (hC : CWP P κ) (h_p0 : iR p0) (h_p1 : iR p1) (h_p2 : iR p2) : MCH (EX en) yL_placeOf sL_placeOf [(0, 12, 15, 21)] [.ref (c 0), .int (zI p0), .int (zI p1), .int (zI p2), .ref o] (fm (cO en c κ) ++ [(o, lE 1 g)]) (LQ en c o (sp_placeOf P p0 p1 p2) false) := by
  refine MCH.of (EX.stb en) [some (.ref (c 0)), some (.int (zI p0)), some (.int (zI p1)), some (.int (zI p2)), some (.ref o), none] 1 rfl rfl rfl (by simp [Value.category]) (Nat.le_of_ble_eq_true rfl) (fun K hK hT hR => ?_)
  refine V_aload dL_placeOf_0 rfl ?_
  refine V_iconst dL_placeOf_2 ?_
  refine V_aload_n dL_placeOf_3 rfl ?_
  refine V_iload_n dL_placeOf_4 rfl ?_
  refine V_iload_n dL_placeOf_5 rfl ?_
  refine V_iload_n dL_placeOf_6 rfl ?_
  refine V_callXVAH (As := [.int (zI p0), .int (zI p1), .int (zI p2)]) (b := c 0) (q0 := 0) (ci := 9) (fs := cwF c κ) (T := TX10) (N := 9) (fm_cw en c κ _) rfl (wc := fm (cO en c κ)) (wr := [(o, lE 1 g)]) rfl hK hT (MCX.env EX.en (k_placeOf en c κ p0 p1 p2 P ⟨hM, hC.1, h_p0, h_p1, h_p2, hC.2.1, hC.2.2⟩)) mokX10_placeOf w941 w942 w943 ⟨Nat.le_of_ble_eq_true rfl, Nat.le_of_ble_eq_true rfl⟩ rfl (Nat.le_of_ble_eq_true rfl) ⟨Nat.le_of_ble_eq_true rfl, Nat.le_of_ble_eq_true rfl⟩ dL_placeOf_7 (fun X w hx => ?_) (fun v w hx => ?_)
  · obtain ⟨κ9, rfl, hC9, hP9, hL⟩ := hx
    simp only [List.mem_cons, List.not_mem_nil, or_false, Prod.mk.injEq] at hL
    obtain ⟨e, rfl⟩ := hL
    refine ⟨15, ⟨tableOf [], ⟨0, 12, 15, 21⟩, tableOf [], rfl, fun z hz => absurd hz List.not_mem_nil, by decide, by decide, w700, wn711, rfl⟩, fun q => ?_⟩
    refine V_astore (L' := [some (.ref (c 0)), some (.int (zI p0)), some (.int (zI p1)), some (.int (zI p2)), some (.ref o), some (.ref q)]) dL_placeOf_15 (by decide) rfl ?_
    refine V_iconst dL_placeOf_17 ?_
    refine V_iret hR rfl (Nat.le_of_ble_eq_true rfl) (Nat.le_of_ble_eq_true rfl) dL_placeOf_18 ?_
    exact LQ.thrown e ⟨by decide, by decide⟩ hP9 hC9
  · obtain ⟨κ2, rfl, rfl, e1, hC2⟩ := hx
    show V K sL_placeOf 2 12 (fm (cO en c κ2) ++ [(o, lE 1 g)]) [some (.ref (c 0)), some (.int (zI p0)), some (.int (zI p1)), some (.int (zI p2)), some (.ref o), none] [.int (zI ((sp_placeOf P p0 p1 p2).2.1)), .int (zI 0), .ref o] 10
    refine V_i2l dL_placeOf_10 ?_
    refine V_last (N := 1) _ (fm_out en c κ2 o g) ⟨by decide, by decide⟩ (by decide) dL_placeOf_11 ?_
    rw [fm_set]
    refine V_goto (tgt := 19) dL_placeOf_12 (by decide) ?_
    refine V_iconst dL_placeOf_19 ?_
    refine V_iret hR rfl (Nat.le_of_ble_eq_true rfl) (Nat.le_of_ble_eq_true rfl) dL_placeOf_20 ?_
    exact LQ.ok e1 rfl hC2 rfl (fun z => absurd z (by decide))
abbrev sL_isRight : SI := (cL_isRight, RL, 4, (some (FieldType.int)), ⟨8, 1, 6, 157⟩)
theorem w948 : Cond.codeWith yL_isRight cL_isRight 4 (Option.some Jvm.ClassFile.FieldType.int) [(0, 16, 19, 21)] ∈ WA := wa_of (wm4 (List.mem_of_getElem? (i := 228) rfl)) rfl
theorem mokL_isRight : MOKH yL_isRight sL_isRight [(0, 16, 19, 21)] 3 := ⟨w948, w0, by decide +kernel⟩
set_option maxRecDepth 100000 in
set_option maxHeartbeats 4000000 in
theorem l_isRight (en c : Nat → Nat) (κ P : St) (o : Nat) (g : Nat → Int64) (p0 : Int) (hM : MI P) (hC : CWP P κ) (h_p0 : iR p0) : MCH (EX en) yL_isRight sL_isRight [(0, 16, 19, 21)] [.ref (c 0), .int (zI p0), .ref o] (fm (cO en c κ) ++ [(o, lE 1 g)]) (LQ en c o (sp_isRight P p0) true) := by
  refine MCH.of (EX.stb en) [some (.ref (c 0)), some (.int (zI p0)), some (.ref o), none] 1 rfl rfl rfl (by simp [Value.category]) (Nat.le_of_ble_eq_true rfl) (fun K hK hT hR => ?_)
  refine V_aload_n dL_isRight_0 rfl ?_
  refine V_iconst dL_isRight_1 ?_
  refine V_aload_n dL_isRight_2 rfl ?_
  refine V_iload_n dL_isRight_3 rfl ?_
  refine V_callXVAH (As := [.int (zI p0)]) (b := c 0) (q0 := 0) (ci := 9) (fs := cwF c κ) (T := TX10) (N := 9) (fm_cw en c κ _) rfl (wc := fm (cO en c κ)) (wr := [(o, lE 1 g)]) rfl hK hT (MCX.env EX.en (k_isRight en c κ p0 P ⟨hM, hC.1, h_p0, hC.2.1, hC.2.2⟩)) mokX10_isRight w949 w950 w951 ⟨Nat.le_of_ble_eq_true rfl, Nat.le_of_ble_eq_true rfl⟩ rfl (Nat.le_of_ble_eq_true rfl) ⟨Nat.le_of_ble_eq_true rfl, Nat.le_of_ble_eq_true rfl⟩ dL_isRight_4 (fun X w hx => ?_) (fun v w hx => ?_)
  · obtain ⟨κ9, rfl, hC9, hP9, hL⟩ := hx
    simp only [List.mem_cons, List.not_mem_nil, or_false, Prod.mk.injEq] at hL
    obtain ⟨e, rfl⟩ := hL
    refine ⟨19, ⟨tableOf [], ⟨0, 16, 19, 21⟩, tableOf [], rfl, fun z hz => absurd hz List.not_mem_nil, by decide, by decide, w700, wn711, rfl⟩, fun q => ?_⟩
    refine V_astore_n (L' := [some (.ref (c 0)), some (.int (zI p0)), some (.ref o), some (.ref q)]) dL_isRight_19 (by decide) rfl ?_
    refine V_iconst dL_isRight_20 ?_
    refine V_iret hR rfl (Nat.le_of_ble_eq_true rfl) (Nat.le_of_ble_eq_true rfl) dL_isRight_21 ?_
    exact LQ.thrown e ⟨by decide, by decide⟩ hP9 hC9
  · obtain ⟨κ2, rfl, rfl, e1, hC2⟩ := hx
    show V K sL_isRight 1 6 (fm (cO en c κ2) ++ [(o, lE 1 g)]) [some (.ref (c 0)), some (.int (zI p0)), some (.ref o), none] [.int (zI ((sp_isRight P p0).2.1)), .int (zI 0), .ref o] 7
    have hb : (sp_isRight P p0).2.1 = 0 ∨ (sp_isRight P p0).2.1 = 1 := gd_b (fun _ => bzv _)
    refine V_if_eq (tgt := 14) dL_isRight_7 (by decide) ⟨by omega, by omega⟩ (fun c1 => ?_) (fun c1 => ?_)
    · refine V_lconst dL_isRight_14 ?_
      refine V_last (N := 1) _ (fm_out en c κ2 o g) ⟨by decide, by decide⟩ (by decide) dL_isRight_15 ?_
      rw [fm_set]
      refine V_goto (tgt := 22) dL_isRight_16 (by decide) ?_
      refine V_iconst dL_isRight_22 ?_
      refine V_iret hR rfl (Nat.le_of_ble_eq_true rfl) (Nat.le_of_ble_eq_true rfl) dL_isRight_23 ?_
      exact LQ.ok e1 rfl hC2 (by rw [c1]; rfl) (fun _ => hb)
    · refine V_lconst dL_isRight_10 ?_
      refine V_goto (tgt := 15) dL_isRight_11 (by decide) ?_
      refine V_last (N := 1) _ (fm_out en c κ2 o g) ⟨by decide, by decide⟩ (by decide) dL_isRight_15 ?_
      rw [fm_set]
      refine V_goto (tgt := 22) dL_isRight_16 (by decide) ?_
      refine V_iconst dL_isRight_22 ?_
      refine V_iret hR rfl (Nat.le_of_ble_eq_true rfl) (Nat.le_of_ble_eq_true rfl) dL_isRight_23 ?_
      exact LQ.ok e1 rfl hC2 (by rw [show (sp_isRight P p0).2.1 = 1 by omega]; rfl) (fun _ => hb)
abbrev sL_leastRest : SI := (cL_leastRest, RL, 4, (some (FieldType.int)), ⟨8, 1, 6, 157⟩)
theorem w956 : Cond.codeWith yL_leastRest cL_leastRest 4 (Option.some Jvm.ClassFile.FieldType.int) [(0, 9, 12, 21)] ∈ WA := wa_of (wm4 (List.mem_of_getElem? (i := 236) rfl)) rfl
theorem mokL_leastRest : MOKH yL_leastRest sL_leastRest [(0, 9, 12, 21)] 3 := ⟨w956, w0, by decide +kernel⟩
set_option maxRecDepth 100000 in
set_option maxHeartbeats 4000000 in
theorem l_leastRest (en c : Nat → Nat) (κ P : St) (o : Nat) (g : Nat → Int64) (p0 : Int) (hM : MI P) (hC : CWP P κ) (h_p0 : iR p0) : MCH (EX en) yL_leastRest sL_leastRest [(0, 9, 12, 21)] [.ref (c 0), .int (zI p0), .ref o] (fm (cO en c κ) ++ [(o, lE 1 g)]) (LQ en c o (sp_leastRest P p0) false) := by
  refine MCH.of (EX.stb en) [some (.ref (c 0)), some (.int (zI p0)), some (.ref o), none] 1 rfl rfl rfl (by simp [Value.category]) (Nat.le_of_ble_eq_true rfl) (fun K hK hT hR => ?_)
  refine V_aload_n dL_leastRest_0 rfl ?_
  refine V_iconst dL_leastRest_1 ?_
  refine V_aload_n dL_leastRest_2 rfl ?_
  refine V_iload_n dL_leastRest_3 rfl ?_
  refine V_callXVAH (As := [.int (zI p0)]) (b := c 0) (q0 := 0) (ci := 9) (fs := cwF c κ) (T := TX10) (N := 9) (fm_cw en c κ _) rfl (wc := fm (cO en c κ)) (wr := [(o, lE 1 g)]) rfl hK hT (MCX.env EX.en (k_leastRest en c κ p0 P ⟨hM, hC.1, h_p0, hC.2.1, hC.2.2⟩)) mokX10_leastRest w957 w958 w959 ⟨Nat.le_of_ble_eq_true rfl, Nat.le_of_ble_eq_true rfl⟩ rfl (Nat.le_of_ble_eq_true rfl) ⟨Nat.le_of_ble_eq_true rfl, Nat.le_of_ble_eq_true rfl⟩ dL_leastRest_4 (fun X w hx => ?_) (fun v w hx => ?_)
  · obtain ⟨κ9, rfl, hC9, hP9, hL⟩ := hx
    simp only [List.mem_cons, List.not_mem_nil, or_false, Prod.mk.injEq] at hL
    obtain ⟨e, rfl⟩ := hL
    refine ⟨12, ⟨tableOf [], ⟨0, 9, 12, 21⟩, tableOf [], rfl, fun z hz => absurd hz List.not_mem_nil, by decide, by decide, w700, wn711, rfl⟩, fun q => ?_⟩
    refine V_astore_n (L' := [some (.ref (c 0)), some (.int (zI p0)), some (.ref o), some (.ref q)]) dL_leastRest_12 (by decide) rfl ?_
    refine V_iconst dL_leastRest_13 ?_
    refine V_iret hR rfl (Nat.le_of_ble_eq_true rfl) (Nat.le_of_ble_eq_true rfl) dL_leastRest_14 ?_
    exact LQ.thrown e ⟨by decide, by decide⟩ hP9 hC9
  · obtain ⟨κ2, rfl, rfl, e1, hC2⟩ := hx
    show V K sL_leastRest 1 6 (fm (cO en c κ2) ++ [(o, lE 1 g)]) [some (.ref (c 0)), some (.int (zI p0)), some (.ref o), none] [.int (zI ((sp_leastRest P p0).2.1)), .int (zI 0), .ref o] 7
    refine V_i2l dL_leastRest_7 ?_
    refine V_last (N := 1) _ (fm_out en c κ2 o g) ⟨by decide, by decide⟩ (by decide) dL_leastRest_8 ?_
    rw [fm_set]
    refine V_goto (tgt := 15) dL_leastRest_9 (by decide) ?_
    refine V_iconst dL_leastRest_15 ?_
    refine V_iret hR rfl (Nat.le_of_ble_eq_true rfl) (Nat.le_of_ble_eq_true rfl) dL_leastRest_16 ?_
    exact LQ.ok e1 rfl hC2 rfl (fun z => absurd z (by decide))
abbrev sL_leastRestByDifferences : SI := (cL_leastRestByDifferences, RL, 4, (some (FieldType.int)), ⟨8, 1, 6, 157⟩)
theorem w963 : Cond.codeWith yL_leastRestByDifferences cL_leastRestByDifferences 4 (Option.some Jvm.ClassFile.FieldType.int) [(0, 9, 12, 21)] ∈ WA := wa_of (wm5 (List.mem_of_getElem? (i := 3) rfl)) rfl
theorem mokL_leastRestByDifferences : MOKH yL_leastRestByDifferences sL_leastRestByDifferences [(0, 9, 12, 21)] 3 := ⟨w963, w0, by decide +kernel⟩
set_option maxRecDepth 100000 in
set_option maxHeartbeats 4000000 in
theorem l_leastRestByDifferences (en c : Nat → Nat) (κ P : St) (o : Nat) (g : Nat → Int64) (p0 : Int) (hM : MI P) (hC : CWP P κ) (h_p0 : iR p0) : MCH (EX en) yL_leastRestByDifferences sL_leastRestByDifferences [(0, 9, 12, 21)] [.ref (c 0), .int (zI p0), .ref o] (fm (cO en c κ) ++ [(o, lE 1 g)]) (LQ en c o (sp_leastRest P p0) false) := by
  refine MCH.of (EX.stb en) [some (.ref (c 0)), some (.int (zI p0)), some (.ref o), none] 1 rfl rfl rfl (by simp [Value.category]) (Nat.le_of_ble_eq_true rfl) (fun K hK hT hR => ?_)
  refine V_aload_n dL_leastRestByDifferences_0 rfl ?_
  refine V_iconst dL_leastRestByDifferences_1 ?_
  refine V_aload_n dL_leastRestByDifferences_2 rfl ?_
  refine V_iload_n dL_leastRestByDifferences_3 rfl ?_
  refine V_callXVAH (As := [.int (zI p0)]) (b := c 0) (q0 := 0) (ci := 9) (fs := cwF c κ) (T := TX10) (N := 9) (fm_cw en c κ _) rfl (wc := fm (cO en c κ)) (wr := [(o, lE 1 g)]) rfl hK hT (MCX.env EX.en (k_leastRestByDifferences en c κ p0 P ⟨hM, hC.1, h_p0, hC.2.1, hC.2.2⟩)) mokX10_leastRestByDifferences w964 w965 w966 ⟨Nat.le_of_ble_eq_true rfl, Nat.le_of_ble_eq_true rfl⟩ rfl (Nat.le_of_ble_eq_true rfl) ⟨Nat.le_of_ble_eq_true rfl, Nat.le_of_ble_eq_true rfl⟩ dL_leastRestByDifferences_4 (fun X w hx => ?_) (fun v w hx => ?_)
  · obtain ⟨κ9, rfl, hC9, hP9, hL⟩ := hx
    simp only [List.mem_cons, List.not_mem_nil, or_false, Prod.mk.injEq] at hL
    obtain ⟨e, rfl⟩ := hL
    refine ⟨12, ⟨tableOf [], ⟨0, 9, 12, 21⟩, tableOf [], rfl, fun z hz => absurd hz List.not_mem_nil, by decide, by decide, w700, wn711, rfl⟩, fun q => ?_⟩
    refine V_astore_n (L' := [some (.ref (c 0)), some (.int (zI p0)), some (.ref o), some (.ref q)]) dL_leastRestByDifferences_12 (by decide) rfl ?_
    refine V_iconst dL_leastRestByDifferences_13 ?_
    refine V_iret hR rfl (Nat.le_of_ble_eq_true rfl) (Nat.le_of_ble_eq_true rfl) dL_leastRestByDifferences_14 ?_
    exact LQ.thrown e ⟨by decide, by decide⟩ hP9 hC9
  · obtain ⟨κ2, rfl, rfl, e1, hC2⟩ := hx
    show V K sL_leastRestByDifferences 1 6 (fm (cO en c κ2) ++ [(o, lE 1 g)]) [some (.ref (c 0)), some (.int (zI p0)), some (.ref o), none] [.int (zI ((sp_leastRest P p0).2.1)), .int (zI 0), .ref o] 7
    refine V_i2l dL_leastRestByDifferences_7 ?_
    refine V_last (N := 1) _ (fm_out en c κ2 o g) ⟨by decide, by decide⟩ (by decide) dL_leastRestByDifferences_8 ?_
    rw [fm_set]
    refine V_goto (tgt := 15) dL_leastRestByDifferences_9 (by decide) ?_
    refine V_iconst dL_leastRestByDifferences_15 ?_
    refine V_iret hR rfl (Nat.le_of_ble_eq_true rfl) (Nat.le_of_ble_eq_true rfl) dL_leastRestByDifferences_16 ?_
    exact LQ.ok e1 rfl hC2 rfl (fun z => absurd z (by decide))
abbrev sL_leastRowRest : SI := (cL_leastRowRest, RL, 4, (some (FieldType.int)), ⟨8, 1, 6, 157⟩)
theorem w979 : Cond.codeWith yL_leastRowRest cL_leastRowRest 4 (Option.some Jvm.ClassFile.FieldType.int) [(0, 9, 12, 21)] ∈ WA := wa_of (wm5 (List.mem_of_getElem? (i := 19) rfl)) rfl
theorem mokL_leastRowRest : MOKH yL_leastRowRest sL_leastRowRest [(0, 9, 12, 21)] 3 := ⟨w979, w0, by decide +kernel⟩
set_option maxRecDepth 100000 in
set_option maxHeartbeats 4000000 in
theorem l_leastRowRest (en c : Nat → Nat) (κ P : St) (o : Nat) (g : Nat → Int64) (p0 : Int) (hM : MI P) (hC : CWP P κ) (h_p0 : iR p0) : MCH (EX en) yL_leastRowRest sL_leastRowRest [(0, 9, 12, 21)] [.ref (c 0), .int (zI p0), .ref o] (fm (cO en c κ) ++ [(o, lE 1 g)]) (LQ en c o (sp_leastRowRest P p0) false) := by
  refine MCH.of (EX.stb en) [some (.ref (c 0)), some (.int (zI p0)), some (.ref o), none] 1 rfl rfl rfl (by simp [Value.category]) (Nat.le_of_ble_eq_true rfl) (fun K hK hT hR => ?_)
  refine V_aload_n dL_leastRowRest_0 rfl ?_
  refine V_iconst dL_leastRowRest_1 ?_
  refine V_aload_n dL_leastRowRest_2 rfl ?_
  refine V_iload_n dL_leastRowRest_3 rfl ?_
  refine V_callXVAH (As := [.int (zI p0)]) (b := c 0) (q0 := 0) (ci := 9) (fs := cwF c κ) (T := TX10) (N := 9) (fm_cw en c κ _) rfl (wc := fm (cO en c κ)) (wr := [(o, lE 1 g)]) rfl hK hT (MCX.env EX.en (k_leastRowRest en c κ p0 P ⟨hM, hC.1, h_p0, hC.2.1, hC.2.2⟩)) mokX10_leastRowRest w980 w981 w982 ⟨Nat.le_of_ble_eq_true rfl, Nat.le_of_ble_eq_true rfl⟩ rfl (Nat.le_of_ble_eq_true rfl) ⟨Nat.le_of_ble_eq_true rfl, Nat.le_of_ble_eq_true rfl⟩ dL_leastRowRest_4 (fun X w hx => ?_) (fun v w hx => ?_)
  · obtain ⟨κ9, rfl, hC9, hP9, hL⟩ := hx
    simp only [List.mem_cons, List.not_mem_nil, or_false, Prod.mk.injEq] at hL
    obtain ⟨e, rfl⟩ := hL
    refine ⟨12, ⟨tableOf [], ⟨0, 9, 12, 21⟩, tableOf [], rfl, fun z hz => absurd hz List.not_mem_nil, by decide, by decide, w700, wn711, rfl⟩, fun q => ?_⟩
    refine V_astore_n (L' := [some (.ref (c 0)), some (.int (zI p0)), some (.ref o), some (.ref q)]) dL_leastRowRest_12 (by decide) rfl ?_
    refine V_iconst dL_leastRowRest_13 ?_
    refine V_iret hR rfl (Nat.le_of_ble_eq_true rfl) (Nat.le_of_ble_eq_true rfl) dL_leastRowRest_14 ?_
    exact LQ.thrown e ⟨by decide, by decide⟩ hP9 hC9
  · obtain ⟨κ2, rfl, rfl, e1, hC2⟩ := hx
    show V K sL_leastRowRest 1 6 (fm (cO en c κ2) ++ [(o, lE 1 g)]) [some (.ref (c 0)), some (.int (zI p0)), some (.ref o), none] [.int (zI ((sp_leastRowRest P p0).2.1)), .int (zI 0), .ref o] 7
    refine V_i2l dL_leastRowRest_7 ?_
    refine V_last (N := 1) _ (fm_out en c κ2 o g) ⟨by decide, by decide⟩ (by decide) dL_leastRowRest_8 ?_
    rw [fm_set]
    refine V_goto (tgt := 15) dL_leastRowRest_9 (by decide) ?_
    refine V_iconst dL_leastRowRest_15 ?_
    refine V_iret hR rfl (Nat.le_of_ble_eq_true rfl) (Nat.le_of_ble_eq_true rfl) dL_leastRowRest_16 ?_
    exact LQ.ok e1 rfl hC2 rfl (fun z => absurd z (by decide))
abbrev sL_leastColumnRest : SI := (cL_leastColumnRest, RL, 4, (some (FieldType.int)), ⟨8, 1, 6, 157⟩)
theorem w986 : Cond.codeWith yL_leastColumnRest cL_leastColumnRest 4 (Option.some Jvm.ClassFile.FieldType.int) [(0, 9, 12, 21)] ∈ WA := wa_of (wm5 (List.mem_of_getElem? (i := 26) rfl)) rfl
theorem mokL_leastColumnRest : MOKH yL_leastColumnRest sL_leastColumnRest [(0, 9, 12, 21)] 3 := ⟨w986, w0, by decide +kernel⟩
set_option maxRecDepth 100000 in
set_option maxHeartbeats 4000000 in
theorem l_leastColumnRest (en c : Nat → Nat) (κ P : St) (o : Nat) (g : Nat → Int64) (p0 : Int) (hM : MI P) (hC : CWP P κ) (h_p0 : iR p0) : MCH (EX en) yL_leastColumnRest sL_leastColumnRest [(0, 9, 12, 21)] [.ref (c 0), .int (zI p0), .ref o] (fm (cO en c κ) ++ [(o, lE 1 g)]) (LQ en c o (sp_leastColumnRest P p0) false) := by
  refine MCH.of (EX.stb en) [some (.ref (c 0)), some (.int (zI p0)), some (.ref o), none] 1 rfl rfl rfl (by simp [Value.category]) (Nat.le_of_ble_eq_true rfl) (fun K hK hT hR => ?_)
  refine V_aload_n dL_leastColumnRest_0 rfl ?_
  refine V_iconst dL_leastColumnRest_1 ?_
  refine V_aload_n dL_leastColumnRest_2 rfl ?_
  refine V_iload_n dL_leastColumnRest_3 rfl ?_
  refine V_callXVAH (As := [.int (zI p0)]) (b := c 0) (q0 := 0) (ci := 9) (fs := cwF c κ) (T := TX10) (N := 9) (fm_cw en c κ _) rfl (wc := fm (cO en c κ)) (wr := [(o, lE 1 g)]) rfl hK hT (MCX.env EX.en (k_leastColumnRest en c κ p0 P ⟨hM, hC.1, h_p0, hC.2.1, hC.2.2⟩)) mokX10_leastColumnRest w987 w988 w989 ⟨Nat.le_of_ble_eq_true rfl, Nat.le_of_ble_eq_true rfl⟩ rfl (Nat.le_of_ble_eq_true rfl) ⟨Nat.le_of_ble_eq_true rfl, Nat.le_of_ble_eq_true rfl⟩ dL_leastColumnRest_4 (fun X w hx => ?_) (fun v w hx => ?_)
  · obtain ⟨κ9, rfl, hC9, hP9, hL⟩ := hx
    simp only [List.mem_cons, List.not_mem_nil, or_false, Prod.mk.injEq] at hL
    obtain ⟨e, rfl⟩ := hL
    refine ⟨12, ⟨tableOf [], ⟨0, 9, 12, 21⟩, tableOf [], rfl, fun z hz => absurd hz List.not_mem_nil, by decide, by decide, w700, wn711, rfl⟩, fun q => ?_⟩
    refine V_astore_n (L' := [some (.ref (c 0)), some (.int (zI p0)), some (.ref o), some (.ref q)]) dL_leastColumnRest_12 (by decide) rfl ?_
    refine V_iconst dL_leastColumnRest_13 ?_
    refine V_iret hR rfl (Nat.le_of_ble_eq_true rfl) (Nat.le_of_ble_eq_true rfl) dL_leastColumnRest_14 ?_
    exact LQ.thrown e ⟨by decide, by decide⟩ hP9 hC9
  · obtain ⟨κ2, rfl, rfl, e1, hC2⟩ := hx
    show V K sL_leastColumnRest 1 6 (fm (cO en c κ2) ++ [(o, lE 1 g)]) [some (.ref (c 0)), some (.int (zI p0)), some (.ref o), none] [.int (zI ((sp_leastColumnRest P p0).2.1)), .int (zI 0), .ref o] 7
    refine V_i2l dL_leastColumnRest_7 ?_
    refine V_last (N := 1) _ (fm_out en c κ2 o g) ⟨by decide, by decide⟩ (by decide) dL_leastColumnRest_8 ?_
    rw [fm_set]
    refine V_goto (tgt := 15) dL_leastColumnRest_9 (by decide) ?_
    refine V_iconst dL_leastColumnRest_15 ?_
    refine V_iret hR rfl (Nat.le_of_ble_eq_true rfl) (Nat.le_of_ble_eq_true rfl) dL_leastColumnRest_16 ?_
    exact LQ.ok e1 rfl hC2 rfl (fun z => absurd z (by decide))
abbrev sL_leastSlantModulus : SI := (cL_leastSlantModulus, RL, 4, (some (FieldType.int)), ⟨8, 1, 6, 157⟩)
theorem w993 : Cond.codeWith yL_leastSlantModulus cL_leastSlantModulus 4 (Option.some Jvm.ClassFile.FieldType.int) [(0, 9, 12, 21)] ∈ WA := wa_of (wm5 (List.mem_of_getElem? (i := 33) rfl)) rfl
theorem mokL_leastSlantModulus : MOKH yL_leastSlantModulus sL_leastSlantModulus [(0, 9, 12, 21)] 3 := ⟨w993, w0, by decide +kernel⟩
set_option maxRecDepth 100000 in
set_option maxHeartbeats 4000000 in
theorem l_leastSlantModulus (en c : Nat → Nat) (κ P : St) (o : Nat) (g : Nat → Int64) (p0 : Int) (hM : MI P) (hC : CWP P κ) (h_p0 : iR p0) : MCH (EX en) yL_leastSlantModulus sL_leastSlantModulus [(0, 9, 12, 21)] [.ref (c 0), .int (zI p0), .ref o] (fm (cO en c κ) ++ [(o, lE 1 g)]) (LQ en c o (sp_leastSlantModulus P p0) false) := by
  refine MCH.of (EX.stb en) [some (.ref (c 0)), some (.int (zI p0)), some (.ref o), none] 1 rfl rfl rfl (by simp [Value.category]) (Nat.le_of_ble_eq_true rfl) (fun K hK hT hR => ?_)
  refine V_aload_n dL_leastSlantModulus_0 rfl ?_
  refine V_iconst dL_leastSlantModulus_1 ?_
  refine V_aload_n dL_leastSlantModulus_2 rfl ?_
  refine V_iload_n dL_leastSlantModulus_3 rfl ?_
  refine V_callXVAH (As := [.int (zI p0)]) (b := c 0) (q0 := 0) (ci := 9) (fs := cwF c κ) (T := TX10) (N := 9) (fm_cw en c κ _) rfl (wc := fm (cO en c κ)) (wr := [(o, lE 1 g)]) rfl hK hT (MCX.env EX.en (k_leastSlantModulus en c κ p0 P ⟨hM, hC.1, h_p0, hC.2.1, hC.2.2⟩)) mokX10_leastSlantModulus w994 w995 w996 ⟨Nat.le_of_ble_eq_true rfl, Nat.le_of_ble_eq_true rfl⟩ rfl (Nat.le_of_ble_eq_true rfl) ⟨Nat.le_of_ble_eq_true rfl, Nat.le_of_ble_eq_true rfl⟩ dL_leastSlantModulus_4 (fun X w hx => ?_) (fun v w hx => ?_)
  · obtain ⟨κ9, rfl, hC9, hP9, hL⟩ := hx
    simp only [List.mem_cons, List.not_mem_nil, or_false, Prod.mk.injEq] at hL
    obtain ⟨e, rfl⟩ := hL
    refine ⟨12, ⟨tableOf [], ⟨0, 9, 12, 21⟩, tableOf [], rfl, fun z hz => absurd hz List.not_mem_nil, by decide, by decide, w700, wn711, rfl⟩, fun q => ?_⟩
    refine V_astore_n (L' := [some (.ref (c 0)), some (.int (zI p0)), some (.ref o), some (.ref q)]) dL_leastSlantModulus_12 (by decide) rfl ?_
    refine V_iconst dL_leastSlantModulus_13 ?_
    refine V_iret hR rfl (Nat.le_of_ble_eq_true rfl) (Nat.le_of_ble_eq_true rfl) dL_leastSlantModulus_14 ?_
    exact LQ.thrown e ⟨by decide, by decide⟩ hP9 hC9
  · obtain ⟨κ2, rfl, rfl, e1, hC2⟩ := hx
    show V K sL_leastSlantModulus 1 6 (fm (cO en c κ2) ++ [(o, lE 1 g)]) [some (.ref (c 0)), some (.int (zI p0)), some (.ref o), none] [.int (zI ((sp_leastSlantModulus P p0).2.1)), .int (zI 0), .ref o] 7
    refine V_i2l dL_leastSlantModulus_7 ?_
    refine V_last (N := 1) _ (fm_out en c κ2 o g) ⟨by decide, by decide⟩ (by decide) dL_leastSlantModulus_8 ?_
    rw [fm_set]
    refine V_goto (tgt := 15) dL_leastSlantModulus_9 (by decide) ?_
    refine V_iconst dL_leastSlantModulus_15 ?_
    refine V_iret hR rfl (Nat.le_of_ble_eq_true rfl) (Nat.le_of_ble_eq_true rfl) dL_leastSlantModulus_16 ?_
    exact LQ.ok e1 rfl hC2 rfl (fun z => absurd z (by decide))
abbrev sL_leastSlant : SI := (cL_leastSlant, RL, 4, (some (FieldType.int)), ⟨8, 1, 6, 157⟩)
theorem w1000 : Cond.codeWith yL_leastSlant cL_leastSlant 4 (Option.some Jvm.ClassFile.FieldType.int) [(0, 9, 12, 21)] ∈ WA := wa_of (wm5 (List.mem_of_getElem? (i := 40) rfl)) rfl
theorem mokL_leastSlant : MOKH yL_leastSlant sL_leastSlant [(0, 9, 12, 21)] 3 := ⟨w1000, w0, by decide +kernel⟩
set_option maxRecDepth 100000 in
set_option maxHeartbeats 4000000 in
theorem l_leastSlant (en c : Nat → Nat) (κ P : St) (o : Nat) (g : Nat → Int64) (p0 : Int) (hM : MI P) (hC : CWP P κ) (h_p0 : iR p0) : MCH (EX en) yL_leastSlant sL_leastSlant [(0, 9, 12, 21)] [.ref (c 0), .int (zI p0), .ref o] (fm (cO en c κ) ++ [(o, lE 1 g)]) (LQ en c o (sp_leastSlant P p0) false) := by
  refine MCH.of (EX.stb en) [some (.ref (c 0)), some (.int (zI p0)), some (.ref o), none] 1 rfl rfl rfl (by simp [Value.category]) (Nat.le_of_ble_eq_true rfl) (fun K hK hT hR => ?_)
  refine V_aload_n dL_leastSlant_0 rfl ?_
  refine V_iconst dL_leastSlant_1 ?_
  refine V_aload_n dL_leastSlant_2 rfl ?_
  refine V_iload_n dL_leastSlant_3 rfl ?_
  refine V_callXVAH (As := [.int (zI p0)]) (b := c 0) (q0 := 0) (ci := 9) (fs := cwF c κ) (T := TX10) (N := 9) (fm_cw en c κ _) rfl (wc := fm (cO en c κ)) (wr := [(o, lE 1 g)]) rfl hK hT (MCX.env EX.en (k_leastSlant en c κ p0 P ⟨hM, hC.1, h_p0, hC.2.1, hC.2.2⟩)) mokX10_leastSlant w1001 w1002 w1003 ⟨Nat.le_of_ble_eq_true rfl, Nat.le_of_ble_eq_true rfl⟩ rfl (Nat.le_of_ble_eq_true rfl) ⟨Nat.le_of_ble_eq_true rfl, Nat.le_of_ble_eq_true rfl⟩ dL_leastSlant_4 (fun X w hx => ?_) (fun v w hx => ?_)
  · obtain ⟨κ9, rfl, hC9, hP9, hL⟩ := hx
    simp only [List.mem_cons, List.not_mem_nil, or_false, Prod.mk.injEq] at hL
    obtain ⟨e, rfl⟩ := hL
    refine ⟨12, ⟨tableOf [], ⟨0, 9, 12, 21⟩, tableOf [], rfl, fun z hz => absurd hz List.not_mem_nil, by decide, by decide, w700, wn711, rfl⟩, fun q => ?_⟩
    refine V_astore_n (L' := [some (.ref (c 0)), some (.int (zI p0)), some (.ref o), some (.ref q)]) dL_leastSlant_12 (by decide) rfl ?_
    refine V_iconst dL_leastSlant_13 ?_
    refine V_iret hR rfl (Nat.le_of_ble_eq_true rfl) (Nat.le_of_ble_eq_true rfl) dL_leastSlant_14 ?_
    exact LQ.thrown e ⟨by decide, by decide⟩ hP9 hC9
  · obtain ⟨κ2, rfl, rfl, e1, hC2⟩ := hx
    show V K sL_leastSlant 1 6 (fm (cO en c κ2) ++ [(o, lE 1 g)]) [some (.ref (c 0)), some (.int (zI p0)), some (.ref o), none] [.int (zI ((sp_leastSlant P p0).2.1)), .int (zI 0), .ref o] 7
    refine V_i2l dL_leastSlant_7 ?_
    refine V_last (N := 1) _ (fm_out en c κ2 o g) ⟨by decide, by decide⟩ (by decide) dL_leastSlant_8 ?_
    rw [fm_set]
    refine V_goto (tgt := 15) dL_leastSlant_9 (by decide) ?_
    refine V_iconst dL_leastSlant_15 ?_
    refine V_iret hR rfl (Nat.le_of_ble_eq_true rfl) (Nat.le_of_ble_eq_true rfl) dL_leastSlant_16 ?_
    exact LQ.ok e1 rfl hC2 rfl (fun z => absurd z (by decide))
abbrev sL_leastJointRest : SI := (cL_leastJointRest, RL, 5, (some (FieldType.int)), ⟨8, 2, 12, 158⟩)
theorem w1007 : Cond.codeWith yL_leastJointRest cL_leastJointRest 5 (Option.some Jvm.ClassFile.FieldType.int) [(0, 10, 13, 21)] ∈ WA := wa_of (wm5 (List.mem_of_getElem? (i := 47) rfl)) rfl
theorem mokL_leastJointRest : MOKH yL_leastJointRest sL_leastJointRest [(0, 10, 13, 21)] 4 := ⟨w1007, w0, by decide +kernel⟩
set_option maxRecDepth 100000 in
set_option maxHeartbeats 4000000 in
theorem l_leastJointRest (en c : Nat → Nat) (κ P : St) (o : Nat) (g : Nat → Int64) (p0 : Int) (p1 : Int) (hM : MI P) (hC : CWP P κ) (h_p0 : iR p0) (h_p1 : iR p1) : MCH (EX en) yL_leastJointRest sL_leastJointRest [(0, 10, 13, 21)] [.ref (c 0), .int (zI p0), .int (zI p1), .ref o] (fm (cO en c κ) ++ [(o, lE 1 g)]) (LQ en c o (sp_leastJointRest P p0 p1) false) := by
  refine MCH.of (EX.stb en) [some (.ref (c 0)), some (.int (zI p0)), some (.int (zI p1)), some (.ref o), none] 1 rfl rfl rfl (by simp [Value.category]) (Nat.le_of_ble_eq_true rfl) (fun K hK hT hR => ?_)
  refine V_aload_n dL_leastJointRest_0 rfl ?_
  refine V_iconst dL_leastJointRest_1 ?_
  refine V_aload_n dL_leastJointRest_2 rfl ?_
  refine V_iload_n dL_leastJointRest_3 rfl ?_
  refine V_iload_n dL_leastJointRest_4 rfl ?_
  refine V_callXVAH (As := [.int (zI p0), .int (zI p1)]) (b := c 0) (q0 := 0) (ci := 9) (fs := cwF c κ) (T := TX10) (N := 9) (fm_cw en c κ _) rfl (wc := fm (cO en c κ)) (wr := [(o, lE 1 g)]) rfl hK hT (MCX.env EX.en (k_leastJointRest en c κ p0 p1 P ⟨hM, hC.1, h_p0, h_p1, hC.2.1, hC.2.2⟩)) mokX10_leastJointRest w1008 w1009 w1010 ⟨Nat.le_of_ble_eq_true rfl, Nat.le_of_ble_eq_true rfl⟩ rfl (Nat.le_of_ble_eq_true rfl) ⟨Nat.le_of_ble_eq_true rfl, Nat.le_of_ble_eq_true rfl⟩ dL_leastJointRest_5 (fun X w hx => ?_) (fun v w hx => ?_)
  · obtain ⟨κ9, rfl, hC9, hP9, hL⟩ := hx
    simp only [List.mem_cons, List.not_mem_nil, or_false, Prod.mk.injEq] at hL
    obtain ⟨e, rfl⟩ := hL
    refine ⟨13, ⟨tableOf [], ⟨0, 10, 13, 21⟩, tableOf [], rfl, fun z hz => absurd hz List.not_mem_nil, by decide, by decide, w700, wn711, rfl⟩, fun q => ?_⟩
    refine V_astore (L' := [some (.ref (c 0)), some (.int (zI p0)), some (.int (zI p1)), some (.ref o), some (.ref q)]) dL_leastJointRest_13 (by decide) rfl ?_
    refine V_iconst dL_leastJointRest_15 ?_
    refine V_iret hR rfl (Nat.le_of_ble_eq_true rfl) (Nat.le_of_ble_eq_true rfl) dL_leastJointRest_16 ?_
    exact LQ.thrown e ⟨by decide, by decide⟩ hP9 hC9
  · obtain ⟨κ2, rfl, rfl, e1, hC2⟩ := hx
    show V K sL_leastJointRest 2 12 (fm (cO en c κ2) ++ [(o, lE 1 g)]) [some (.ref (c 0)), some (.int (zI p0)), some (.int (zI p1)), some (.ref o), none] [.int (zI ((sp_leastJointRest P p0 p1).2.1)), .int (zI 0), .ref o] 8
    refine V_i2l dL_leastJointRest_8 ?_
    refine V_last (N := 1) _ (fm_out en c κ2 o g) ⟨by decide, by decide⟩ (by decide) dL_leastJointRest_9 ?_
    rw [fm_set]
    refine V_goto (tgt := 17) dL_leastJointRest_10 (by decide) ?_
    refine V_iconst dL_leastJointRest_17 ?_
    refine V_iret hR rfl (Nat.le_of_ble_eq_true rfl) (Nat.le_of_ble_eq_true rfl) dL_leastJointRest_18 ?_
    exact LQ.ok e1 rfl hC2 rfl (fun z => absurd z (by decide))
abbrev sL_valueOf : SI := (cL_valueOf, RL, 6, (some (FieldType.int)), ⟨9, 2, 12, 191⟩)
theorem w1014 : Cond.codeWith yL_valueOf cL_valueOf 6 (Option.some Jvm.ClassFile.FieldType.int) [(0, 12, 15, 21)] ∈ WA := wa_of (wm5 (List.mem_of_getElem? (i := 54) rfl)) rfl
theorem mokL_valueOf : MOKH yL_valueOf sL_valueOf [(0, 12, 15, 21)] 5 := ⟨w1014, w0, by decide +kernel⟩
set_option maxRecDepth 100000 in
set_option maxHeartbeats 4000000 in
theorem l_valueOf (en c : Nat → Nat) (κ P : St) (o : Nat) (g : Nat → Int64) (p0 : Int) (p1 : Int) (p2 : Int) (hM : MI P) (hC : CWP P κ) (h_p0 : iR p0) (h_p1 : iR p1) (h_p2 : iR p2) : MCH (EX en) yL_valueOf sL_valueOf [(0, 12, 15, 21)] [.ref (c 0), .int (zI p0), .int (zI p1), .int (zI p2), .ref o] (fm (cO en c κ) ++ [(o, lE 1 g)]) (LQ en c o (sp_valueOf P p0 p1 p2) false) := by
  refine MCH.of (EX.stb en) [some (.ref (c 0)), some (.int (zI p0)), some (.int (zI p1)), some (.int (zI p2)), some (.ref o), none] 1 rfl rfl rfl (by simp [Value.category]) (Nat.le_of_ble_eq_true rfl) (fun K hK hT hR => ?_)
  refine V_aload dL_valueOf_0 rfl ?_
  refine V_iconst dL_valueOf_2 ?_
  refine V_aload_n dL_valueOf_3 rfl ?_
  refine V_iload_n dL_valueOf_4 rfl ?_
  refine V_iload_n dL_valueOf_5 rfl ?_
  refine V_iload_n dL_valueOf_6 rfl ?_
  refine V_callXVAH (As := [.int (zI p0), .int (zI p1), .int (zI p2)]) (b := c 0) (q0 := 0) (ci := 9) (fs := cwF c κ) (T := TX10) (N := 9) (fm_cw en c κ _) rfl (wc := fm (cO en c κ)) (wr := [(o, lE 1 g)]) rfl hK hT (MCX.env EX.en (k_valueOf en c κ p0 p1 p2 P ⟨hM, hC.1, h_p0, h_p1, h_p2, hC.2.1, hC.2.2⟩)) mokX10_valueOf w1015 w1016 w1017 ⟨Nat.le_of_ble_eq_true rfl, Nat.le_of_ble_eq_true rfl⟩ rfl (Nat.le_of_ble_eq_true rfl) ⟨Nat.le_of_ble_eq_true rfl, Nat.le_of_ble_eq_true rfl⟩ dL_valueOf_7 (fun X w hx => ?_) (fun v w hx => ?_)
  · obtain ⟨κ9, rfl, hC9, hP9, hL⟩ := hx
    simp only [List.mem_cons, List.not_mem_nil, or_false, Prod.mk.injEq] at hL
    obtain ⟨e, rfl⟩ := hL
    refine ⟨15, ⟨tableOf [], ⟨0, 12, 15, 21⟩, tableOf [], rfl, fun z hz => absurd hz List.not_mem_nil, by decide, by decide, w700, wn711, rfl⟩, fun q => ?_⟩
    refine V_astore (L' := [some (.ref (c 0)), some (.int (zI p0)), some (.int (zI p1)), some (.int (zI p2)), some (.ref o), some (.ref q)]) dL_valueOf_15 (by decide) rfl ?_
    refine V_iconst dL_valueOf_17 ?_
    refine V_iret hR rfl (Nat.le_of_ble_eq_true rfl) (Nat.le_of_ble_eq_true rfl) dL_valueOf_18 ?_
    exact LQ.thrown e ⟨by decide, by decide⟩ hP9 hC9
  · obtain ⟨κ2, rfl, rfl, e1, hC2⟩ := hx
    show V K sL_valueOf 2 12 (fm (cO en c κ2) ++ [(o, lE 1 g)]) [some (.ref (c 0)), some (.int (zI p0)), some (.int (zI p1)), some (.int (zI p2)), some (.ref o), none] [.int (zI ((sp_valueOf P p0 p1 p2).2.1)), .int (zI 0), .ref o] 10
    refine V_i2l dL_valueOf_10 ?_
    refine V_last (N := 1) _ (fm_out en c κ2 o g) ⟨by decide, by decide⟩ (by decide) dL_valueOf_11 ?_
    rw [fm_set]
    refine V_goto (tgt := 19) dL_valueOf_12 (by decide) ?_
    refine V_iconst dL_valueOf_19 ?_
    refine V_iret hR rfl (Nat.le_of_ble_eq_true rfl) (Nat.le_of_ble_eq_true rfl) dL_valueOf_20 ?_
    exact LQ.ok e1 rfl hC2 rfl (fun z => absurd z (by decide))
abbrev sL_contractedValueOf : SI := (cL_contractedValueOf, RL, 6, (some (FieldType.int)), ⟨9, 2, 12, 191⟩)
theorem w1025 : Cond.codeWith yL_contractedValueOf cL_contractedValueOf 6 (Option.some Jvm.ClassFile.FieldType.int) [(0, 12, 15, 21)] ∈ WA := wa_of (wm5 (List.mem_of_getElem? (i := 65) rfl)) rfl
theorem mokL_contractedValueOf : MOKH yL_contractedValueOf sL_contractedValueOf [(0, 12, 15, 21)] 5 := ⟨w1025, w0, by decide +kernel⟩
set_option maxRecDepth 100000 in
set_option maxHeartbeats 4000000 in
theorem l_contractedValueOf (en c : Nat → Nat) (κ P : St) (o : Nat) (g : Nat → Int64) (p0 : Int) (p1 : Int) (p2 : Int) (hM : MI P) (hC : CWP P κ) (h_p0 : iR p0) (h_p1 : iR p1) (h_p2 : iR p2) : MCH (EX en) yL_contractedValueOf sL_contractedValueOf [(0, 12, 15, 21)] [.ref (c 0), .int (zI p0), .int (zI p1), .int (zI p2), .ref o] (fm (cO en c κ) ++ [(o, lE 1 g)]) (LQ en c o (sp_contractedValueOf P p0 p1 p2) false) := by
  refine MCH.of (EX.stb en) [some (.ref (c 0)), some (.int (zI p0)), some (.int (zI p1)), some (.int (zI p2)), some (.ref o), none] 1 rfl rfl rfl (by simp [Value.category]) (Nat.le_of_ble_eq_true rfl) (fun K hK hT hR => ?_)
  refine V_aload dL_contractedValueOf_0 rfl ?_
  refine V_iconst dL_contractedValueOf_2 ?_
  refine V_aload_n dL_contractedValueOf_3 rfl ?_
  refine V_iload_n dL_contractedValueOf_4 rfl ?_
  refine V_iload_n dL_contractedValueOf_5 rfl ?_
  refine V_iload_n dL_contractedValueOf_6 rfl ?_
  refine V_callXVAH (As := [.int (zI p0), .int (zI p1), .int (zI p2)]) (b := c 0) (q0 := 0) (ci := 9) (fs := cwF c κ) (T := TX10) (N := 9) (fm_cw en c κ _) rfl (wc := fm (cO en c κ)) (wr := [(o, lE 1 g)]) rfl hK hT (MCX.env EX.en (k_contractedValueOf en c κ p0 p1 p2 P ⟨hM, hC.1, h_p0, h_p1, h_p2, hC.2.1, hC.2.2⟩)) mokX10_contractedValueOf w1026 w1027 w1028 ⟨Nat.le_of_ble_eq_true rfl, Nat.le_of_ble_eq_true rfl⟩ rfl (Nat.le_of_ble_eq_true rfl) ⟨Nat.le_of_ble_eq_true rfl, Nat.le_of_ble_eq_true rfl⟩ dL_contractedValueOf_7 (fun X w hx => ?_) (fun v w hx => ?_)
  · obtain ⟨κ9, rfl, hC9, hP9, hL⟩ := hx
    simp only [List.mem_cons, List.not_mem_nil, or_false, Prod.mk.injEq] at hL
    obtain ⟨e, rfl⟩ := hL
    refine ⟨15, ⟨tableOf [], ⟨0, 12, 15, 21⟩, tableOf [], rfl, fun z hz => absurd hz List.not_mem_nil, by decide, by decide, w700, wn711, rfl⟩, fun q => ?_⟩
    refine V_astore (L' := [some (.ref (c 0)), some (.int (zI p0)), some (.int (zI p1)), some (.int (zI p2)), some (.ref o), some (.ref q)]) dL_contractedValueOf_15 (by decide) rfl ?_
    refine V_iconst dL_contractedValueOf_17 ?_
    refine V_iret hR rfl (Nat.le_of_ble_eq_true rfl) (Nat.le_of_ble_eq_true rfl) dL_contractedValueOf_18 ?_
    exact LQ.thrown e ⟨by decide, by decide⟩ hP9 hC9
  · obtain ⟨κ2, rfl, rfl, e1, hC2⟩ := hx
    show V K sL_contractedValueOf 2 12 (fm (cO en c κ2) ++ [(o, lE 1 g)]) [some (.ref (c 0)), some (.int (zI p0)), some (.int (zI p1)), some (.int (zI p2)), some (.ref o), none] [.int (zI ((sp_contractedValueOf P p0 p1 p2).2.1)), .int (zI 0), .ref o] 10
    refine V_i2l dL_contractedValueOf_10 ?_
    refine V_last (N := 1) _ (fm_out en c κ2 o g) ⟨by decide, by decide⟩ (by decide) dL_contractedValueOf_11 ?_
    rw [fm_set]
    refine V_goto (tgt := 19) dL_contractedValueOf_12 (by decide) ?_
    refine V_iconst dL_contractedValueOf_19 ?_
    refine V_iret hR rfl (Nat.le_of_ble_eq_true rfl) (Nat.le_of_ble_eq_true rfl) dL_contractedValueOf_20 ?_
    exact LQ.ok e1 rfl hC2 rfl (fun z => absurd z (by decide))
abbrev sL_bestRowWeight : SI := (cL_bestRowWeight, RL, 3, (some (FieldType.int)), ⟨8, 1, 6, 182⟩)
theorem w1032 : Cond.codeWith yL_bestRowWeight cL_bestRowWeight 3 (Option.some Jvm.ClassFile.FieldType.int) [(0, 8, 11, 15)] ∈ WA := wa_of (wm5 (List.mem_of_getElem? (i := 72) rfl)) rfl
theorem mokL_bestRowWeight : MOKH yL_bestRowWeight sL_bestRowWeight [(0, 8, 11, 15)] 2 := ⟨w1032, w0, by decide +kernel⟩
set_option maxRecDepth 100000 in
set_option maxHeartbeats 4000000 in
theorem l_bestRowWeight (en c : Nat → Nat) (κ P : St) (o : Nat) (g : Nat → Int64) (hM : MI P) (hC : CWP P κ) : MCH (EX en) yL_bestRowWeight sL_bestRowWeight [(0, 8, 11, 15)] [.ref (c 0), .ref o] (fm (cO en c κ) ++ [(o, lE 1 g)]) (LQ en c o (sp_bestRowWeight P) false) := by
  refine MCH.of (EX.stb en) [some (.ref (c 0)), some (.ref o), none] 1 rfl rfl rfl (by simp [Value.category]) (Nat.le_of_ble_eq_true rfl) (fun K hK hT hR => ?_)
  refine V_aload_n dL_bestRowWeight_0 rfl ?_
  refine V_iconst dL_bestRowWeight_1 ?_
  refine V_aload_n dL_bestRowWeight_2 rfl ?_
  refine V_callXVAH (As := []) (b := c 0) (q0 := 0) (ci := 9) (fs := cwF c κ) (T := TX10) (N := 9) (fm_cw en c κ _) rfl (wc := fm (cO en c κ)) (wr := [(o, lE 1 g)]) rfl hK hT (MCX.env EX.en (k_bestRowWeight en c κ P ⟨hM, hC.1, hC.2.1, hC.2.2⟩)) mokX10_bestRowWeight w1033 w1034 w1035 ⟨Nat.le_of_ble_eq_true rfl, Nat.le_of_ble_eq_true rfl⟩ rfl (Nat.le_of_ble_eq_true rfl) ⟨Nat.le_of_ble_eq_true rfl, Nat.le_of_ble_eq_true rfl⟩ dL_bestRowWeight_3 (fun X w hx => ?_) (fun v w hx => ?_)
  · obtain ⟨κ9, rfl, hC9, hP9, hL⟩ := hx
    simp only [List.mem_cons, List.not_mem_nil, or_false, Prod.mk.injEq] at hL
    obtain ⟨e, rfl⟩ := hL
    refine ⟨11, ⟨tableOf [], ⟨0, 8, 11, 15⟩, tableOf [], rfl, fun z hz => absurd hz List.not_mem_nil, by decide, by decide, w508, wn586, rfl⟩, fun q => ?_⟩
    refine V_astore_n (L' := [some (.ref (c 0)), some (.ref o), some (.ref q)]) dL_bestRowWeight_11 (by decide) rfl ?_
    refine V_iconst dL_bestRowWeight_12 ?_
    refine V_iret hR rfl (Nat.le_of_ble_eq_true rfl) (Nat.le_of_ble_eq_true rfl) dL_bestRowWeight_13 ?_
    exact LQ.thrown e ⟨by decide, by decide⟩ hP9 hC9
  · obtain ⟨κ2, rfl, rfl, e1, hC2⟩ := hx
    show V K sL_bestRowWeight 1 6 (fm (cO en c κ2) ++ [(o, lE 1 g)]) [some (.ref (c 0)), some (.ref o), none] [.int (zI ((sp_bestRowWeight P).2.1)), .int (zI 0), .ref o] 6
    refine V_i2l dL_bestRowWeight_6 ?_
    refine V_last (N := 1) _ (fm_out en c κ2 o g) ⟨by decide, by decide⟩ (by decide) dL_bestRowWeight_7 ?_
    rw [fm_set]
    refine V_goto (tgt := 14) dL_bestRowWeight_8 (by decide) ?_
    refine V_iconst dL_bestRowWeight_14 ?_
    refine V_iret hR rfl (Nat.le_of_ble_eq_true rfl) (Nat.le_of_ble_eq_true rfl) dL_bestRowWeight_15 ?_
    exact LQ.ok e1 rfl hC2 rfl (fun z => absurd z (by decide))
abbrev sL_bestColumnWeight : SI := (cL_bestColumnWeight, RL, 3, (some (FieldType.int)), ⟨8, 1, 6, 182⟩)
theorem w1052 : Cond.codeWith yL_bestColumnWeight cL_bestColumnWeight 3 (Option.some Jvm.ClassFile.FieldType.int) [(0, 8, 11, 15)] ∈ WA := wa_of (wm5 (List.mem_of_getElem? (i := 92) rfl)) rfl
theorem mokL_bestColumnWeight : MOKH yL_bestColumnWeight sL_bestColumnWeight [(0, 8, 11, 15)] 2 := ⟨w1052, w0, by decide +kernel⟩
set_option maxRecDepth 100000 in
set_option maxHeartbeats 4000000 in
theorem l_bestColumnWeight (en c : Nat → Nat) (κ P : St) (o : Nat) (g : Nat → Int64) (hM : MI P) (hC : CWP P κ) : MCH (EX en) yL_bestColumnWeight sL_bestColumnWeight [(0, 8, 11, 15)] [.ref (c 0), .ref o] (fm (cO en c κ) ++ [(o, lE 1 g)]) (LQ en c o (sp_bestColumnWeight P) false) := by
  refine MCH.of (EX.stb en) [some (.ref (c 0)), some (.ref o), none] 1 rfl rfl rfl (by simp [Value.category]) (Nat.le_of_ble_eq_true rfl) (fun K hK hT hR => ?_)
  refine V_aload_n dL_bestColumnWeight_0 rfl ?_
  refine V_iconst dL_bestColumnWeight_1 ?_
  refine V_aload_n dL_bestColumnWeight_2 rfl ?_
  refine V_callXVAH (As := []) (b := c 0) (q0 := 0) (ci := 9) (fs := cwF c κ) (T := TX10) (N := 9) (fm_cw en c κ _) rfl (wc := fm (cO en c κ)) (wr := [(o, lE 1 g)]) rfl hK hT (MCX.env EX.en (k_bestColumnWeight en c κ P ⟨hM, hC.1, hC.2.1, hC.2.2⟩)) mokX10_bestColumnWeight w1053 w1054 w1055 ⟨Nat.le_of_ble_eq_true rfl, Nat.le_of_ble_eq_true rfl⟩ rfl (Nat.le_of_ble_eq_true rfl) ⟨Nat.le_of_ble_eq_true rfl, Nat.le_of_ble_eq_true rfl⟩ dL_bestColumnWeight_3 (fun X w hx => ?_) (fun v w hx => ?_)
  · obtain ⟨κ9, rfl, hC9, hP9, hL⟩ := hx
    simp only [List.mem_cons, List.not_mem_nil, or_false, Prod.mk.injEq] at hL
    obtain ⟨e, rfl⟩ := hL
    refine ⟨11, ⟨tableOf [], ⟨0, 8, 11, 15⟩, tableOf [], rfl, fun z hz => absurd hz List.not_mem_nil, by decide, by decide, w508, wn586, rfl⟩, fun q => ?_⟩
    refine V_astore_n (L' := [some (.ref (c 0)), some (.ref o), some (.ref q)]) dL_bestColumnWeight_11 (by decide) rfl ?_
    refine V_iconst dL_bestColumnWeight_12 ?_
    refine V_iret hR rfl (Nat.le_of_ble_eq_true rfl) (Nat.le_of_ble_eq_true rfl) dL_bestColumnWeight_13 ?_
    exact LQ.thrown e ⟨by decide, by decide⟩ hP9 hC9
  · obtain ⟨κ2, rfl, rfl, e1, hC2⟩ := hx
    show V K sL_bestColumnWeight 1 6 (fm (cO en c κ2) ++ [(o, lE 1 g)]) [some (.ref (c 0)), some (.ref o), none] [.int (zI ((sp_bestColumnWeight P).2.1)), .int (zI 0), .ref o] 6
    refine V_i2l dL_bestColumnWeight_6 ?_
    refine V_last (N := 1) _ (fm_out en c κ2 o g) ⟨by decide, by decide⟩ (by decide) dL_bestColumnWeight_7 ?_
    rw [fm_set]
    refine V_goto (tgt := 14) dL_bestColumnWeight_8 (by decide) ?_
    refine V_iconst dL_bestColumnWeight_14 ?_
    refine V_iret hR rfl (Nat.le_of_ble_eq_true rfl) (Nat.le_of_ble_eq_true rfl) dL_bestColumnWeight_15 ?_
    exact LQ.ok e1 rfl hC2 rfl (fun z => absurd z (by decide))
abbrev sL_bestRoom : SI := (cL_bestRoom, RL, 3, (some (FieldType.int)), ⟨8, 1, 6, 182⟩)
theorem w1059 : Cond.codeWith yL_bestRoom cL_bestRoom 3 (Option.some Jvm.ClassFile.FieldType.int) [(0, 8, 11, 15)] ∈ WA := wa_of (wm5 (List.mem_of_getElem? (i := 99) rfl)) rfl
theorem mokL_bestRoom : MOKH yL_bestRoom sL_bestRoom [(0, 8, 11, 15)] 2 := ⟨w1059, w0, by decide +kernel⟩
set_option maxRecDepth 100000 in
set_option maxHeartbeats 4000000 in
theorem l_bestRoom (en c : Nat → Nat) (κ P : St) (o : Nat) (g : Nat → Int64) (hM : MI P) (hC : CWP P κ) : MCH (EX en) yL_bestRoom sL_bestRoom [(0, 8, 11, 15)] [.ref (c 0), .ref o] (fm (cO en c κ) ++ [(o, lE 1 g)]) (LQ en c o (sp_bestRoom P) false) := by
  refine MCH.of (EX.stb en) [some (.ref (c 0)), some (.ref o), none] 1 rfl rfl rfl (by simp [Value.category]) (Nat.le_of_ble_eq_true rfl) (fun K hK hT hR => ?_)
  refine V_aload_n dL_bestRoom_0 rfl ?_
  refine V_iconst dL_bestRoom_1 ?_
  refine V_aload_n dL_bestRoom_2 rfl ?_
  refine V_callXVAH (As := []) (b := c 0) (q0 := 0) (ci := 9) (fs := cwF c κ) (T := TX10) (N := 9) (fm_cw en c κ _) rfl (wc := fm (cO en c κ)) (wr := [(o, lE 1 g)]) rfl hK hT (MCX.env EX.en (k_bestRoom en c κ P ⟨hM, hC.1, hC.2.1, hC.2.2⟩)) mokX10_bestRoom w1060 w1061 w1062 ⟨Nat.le_of_ble_eq_true rfl, Nat.le_of_ble_eq_true rfl⟩ rfl (Nat.le_of_ble_eq_true rfl) ⟨Nat.le_of_ble_eq_true rfl, Nat.le_of_ble_eq_true rfl⟩ dL_bestRoom_3 (fun X w hx => ?_) (fun v w hx => ?_)
  · obtain ⟨κ9, rfl, hC9, hP9, hL⟩ := hx
    simp only [List.mem_cons, List.not_mem_nil, or_false, Prod.mk.injEq] at hL
    obtain ⟨e, rfl⟩ := hL
    refine ⟨11, ⟨tableOf [], ⟨0, 8, 11, 15⟩, tableOf [], rfl, fun z hz => absurd hz List.not_mem_nil, by decide, by decide, w508, wn586, rfl⟩, fun q => ?_⟩
    refine V_astore_n (L' := [some (.ref (c 0)), some (.ref o), some (.ref q)]) dL_bestRoom_11 (by decide) rfl ?_
    refine V_iconst dL_bestRoom_12 ?_
    refine V_iret hR rfl (Nat.le_of_ble_eq_true rfl) (Nat.le_of_ble_eq_true rfl) dL_bestRoom_13 ?_
    exact LQ.thrown e ⟨by decide, by decide⟩ hP9 hC9
  · obtain ⟨κ2, rfl, rfl, e1, hC2⟩ := hx
    show V K sL_bestRoom 1 6 (fm (cO en c κ2) ++ [(o, lE 1 g)]) [some (.ref (c 0)), some (.ref o), none] [.int (zI ((sp_bestRoom P).2.1)), .int (zI 0), .ref o] 6
    refine V_i2l dL_bestRoom_6 ?_
    refine V_last (N := 1) _ (fm_out en c κ2 o g) ⟨by decide, by decide⟩ (by decide) dL_bestRoom_7 ?_
    rw [fm_set]
    refine V_goto (tgt := 14) dL_bestRoom_8 (by decide) ?_
    refine V_iconst dL_bestRoom_14 ?_
    refine V_iret hR rfl (Nat.le_of_ble_eq_true rfl) (Nat.le_of_ble_eq_true rfl) dL_bestRoom_15 ?_
    exact LQ.ok e1 rfl hC2 rfl (fun z => absurd z (by decide))
