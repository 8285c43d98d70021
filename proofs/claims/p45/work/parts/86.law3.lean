/-! the law: its environment, methods with handlers, calls of them -/
def NcL : List (String × String) := [(ISEs, IAEs), (IAEs, IOBs), (ISEs, IOBs)]
def EX (en : Nat → Nat) : EV := fun A U H => EN en A U H ∧ ∀ p ∈ NcL, va_Nc p.1 p.2 U
theorem EX.stb (en : Nat → Nat) : Stb (EX en) := by
  obtain ⟨h1, h2, h3⟩ := EN.stb en
  exact ⟨fun A B U H hAB h => ⟨h1 A B U H hAB h.1, h.2⟩, fun A u U H hW h => ⟨h2 A u U H hW h.1, fun p hp => va_Nc.moved hW.alike (h.2 p hp)⟩, fun A U H H1 hk h => ⟨h3 A U H H1 hk h.1, h.2⟩⟩
theorem PV.env {E E' : EV} (h : ∀ A U H, E' A U H → E A U H) {D : va_G} {cA : Nat → ClassId} {as : List Value} {ws : vWd} {sz : Nat} {a : Array Value} {s : State} (hp : PV E' D cA as ws sz a s) : PV E D cA as ws sz a s := by
  obtain ⟨h1, h2, h3, h4, h5, h6⟩ := hp
  exact ⟨h1, h2, h3, h4, h5, h _ _ _ h6⟩
theorem MetFree.pre {l : Launch} {x : MethodName} {S : Spec} {P P' : Array Value → State → Prop} {Kq : Program → Env → List Frame → State → Array Value → Prop} {Q : Array Value → State → Outcome → State → Prop} (h : ∀ a s, P' a s → P a s) (hM : MetFree l x S P Kq Q) : MetFree l x S P' Kq Q := fun p e h1 h2 h3 s m args below h4 h5 h6 h7 => hM p e h1 h2 h3 s m args below h4 h5 (h _ _ h6) h7
theorem MC.env {E E' : EV} (h : ∀ A U H, E' A U H → E A U H) {y : MethodName} {S : SI} {as : List Value} {ws : vWd} {Post : Option Value → vWd → Prop} (hM : MC E y S as ws Post) : MC E' y S as ws Post := fun l hl D cA sz => MetFree.pre (fun _ _ hp => PV.env h hp) (hM l hl D cA sz)
theorem MCX.env {E E' : EV} (h : ∀ A U H, E' A U H → E A U H) {y : MethodName} {S : SI} {as : List Value} {ws : vWd} {Post : Option Value → vWd → Prop} {XPost : String → vWd → Prop} (hM : MCX E y S as ws Post XPost) : MCX E' y S as ws Post XPost := fun l hl D cA sz => MetFree.pre (fun _ _ hp => PV.env h hp) (hM l hl D cA sz)
theorem EX.en {en : Nat → Nat} : ∀ A U H, EX en A U H → EN en A U H := fun _ _ _ h => h.1
def tabK (K : KT) : List ExceptionTableEntry := match K with | (_, _, _, _, _, _, _, _, c, _, _, _, _, _) => c.exceptionTable.toList
/-- the contract of a method with handlers, that returns -/
def MCH (E : EV) (y : MethodName) (S : SI) (hh : List (Nat × Nat × Nat × Nat)) (as : List Value) (ws : vWd) (Post : Option Value → vWd → Prop) : Prop := ∀ (l : Launch), l.stackTraces = false → ∀ (D : va_G) (cA : Nat → ClassId) (sz : Nat), Met l y (.codeWith y S.1 S.2.2.1 S.2.2.2.1 hh :: WA) S.2.2.2.2 (PV E D cA as ws sz) (QV D cA Post (va_A (tw cA ws) sz)) S.2.2.2.2.cells S.2.2.2.2.slots (va_A (tw cA ws) sz)
theorem Met.ofWH {l : Launch} {y : MethodName} {ws ws' : List Cond} {rm : Room} {Pc : Array Value → State → Prop} {Qc : Array Value → State → Outcome → State → Prop} {mc ms : Nat} {free : Addr → Prop} {cc : ByteArray} {maxL : Nat} {ret : Option FieldType} {hh : List (Nat × Nat × Nat × Nat)}
    (hy : plainName y.cls = true) (hw : ws = Cond.codeWith y cc maxL ret hh :: ws')
    (body : ∀ p e s m args below meth c s₁, BodyLoose p l y (headSpec ws rm) cc maxL ret e s m args below meth c s₁ → c.maxLocals = maxL → c.exceptionTable.toList = tableOf hh → Pc args s →
      W p l e (headSpec ws rm).room s m args below meth c s.heap [] 0 0 (MQ below Qc args s mc ms free) (entryFrame m args maxL)) : Met l y ws rm Pc Qc mc ms free := by
  refine MetFree.of_bodyS (code := cc) (maxLocals := maxL) (ret := ret) hy ?_ ?_
  · intro args s m h hn
    obtain ⟨m9, meth, c, hn9, h1, h2, h3, h4, -, h5, h6, -⟩ := Cond.codeWith_spec (atoms_spec (ws := ws) h _ (by rw [hw]; exact List.mem_cons_self))
    cases hn.symm.trans hn9
    exact ⟨meth, c, h1, h2, h3, h4, h5, h6⟩
  · intro p e s m args below meth c s₁ B hml hP _
    have hh0 : s₁.heap = s.heap := by rw [B.state]; rfl
    have ht := vx_table (x := y) B (atoms_spec (ws := ws) B.pre _ (by rw [hw]; exact List.mem_cons_self))
    obtain ⟨t, a1, o, b1, b2, b3⟩ := body p e s m args below meth c s₁ B hml ht hP s₁ hh0 (Stand.of_body B)
    exact ⟨t, o, a1, b1, b2, ⟨b3.1, b3.2⟩⟩
theorem wa_goodInH {x y : Cond} (h : y ∈ WA) : GoodIn (x :: WA) (y :: WA) := wa_goodIn h
theorem MCH.of {E : EV} (hE : Stb E) {y : MethodName} {S : SI} {hh : List (Nat × Nat × Nat × Nat)} {as : List Value} {ws : vWd} {Post : Option Value → vWd → Prop} (L0 : List (Option Value)) (r : Nat) (hL0 : as.map some ++ List.replicate r none = L0) (hy : plainName y.cls = true) (hS : y.cls = S.2.1) (hc : ∀ v ∈ as, v.category = 1) (hm : as.length ≤ S.2.2.1)
    (body : ∀ K : KT, evK K = E → tabK K = tableOf hh → RetOK K S.2.2.2.2.cells S.2.2.2.2.slots Post → V K S 0 0 ws L0 [] 0) : MCH E y S hh as ws Post := by
  subst hL0
  intro l hst D cA sz
  refine Met.ofWH (cc := S.1) (maxL := S.2.2.1) (ret := S.2.2.2.1) hy rfl ?_
  intro p e s m args below meth c s₁ B hml ht hv
  obtain ⟨rfl, hsz, hP, hK, hD0, hEv⟩ := hv
  have hts := atoms_spec (ws := .codeWith y S.1 S.2.2.1 S.2.2.2.1 hh :: WA) B.pre
  have hown : s.vm.findClass y.cls = some m.cls := findClass_of_methodNamed B.named
  subst hsz
  rw [lg_entry_eq]
  exact body (p, l, e, s, m, as.toArray, below, meth, c, D, cA, va_A (tw cA ws) s.heap.size, MQ below (QV D cA Post (va_A (tw cA ws) s.heap.size)) as.toArray s S.2.2.2.2.cells S.2.2.2.2.slots (va_A (tw cA ws) s.heap.size), E) rfl ht (fun _ _ _ _ h => h)
    ⟨B.exec, B.bytes, hml, hS ▸ hown, fun w hw => hts w (List.mem_cons_of_mem _ hw), hK, fun q h => Or.inr h, B.notSynchronized, B.returns, hst, hE, hEv⟩ s.heap [] _ hP hD0.self va_S.rf (lvO.entry hc hm)
def MOKH (y : MethodName) (S : SI) (hh : List (Nat × Nat × Nat × Nat)) (n : Nat) : Prop := Cond.codeWith y S.1 S.2.2.1 S.2.2.2.1 hh ∈ WA ∧ Cond.initialized y.cls ∈ WA ∧ (y.cls ≠ "java/lang/invoke/MethodHandle" ∧ y.cls ≠ "java/lang/invoke/VarHandle" ∧ (parseMethodDescriptor y.desc).map (fun d => d.parameters.length) = some n)
section VH
variable {K : KT} {S : SI} {k n : Nat} {ws : vWd} {L : List (Option Value)} {st : List Value} {pc : Nat} {Post : Option Value → vWd → Prop} {XPost : String → vWd → Prop}
/-- what a handler must say of a class thrown -/
def HD (K : KT) (S : SI) (hh : List (Nat × Nat × Nat × Nat)) (pc : Nat) (X : String) (h : Nat) : Prop := ∃ (pre : List ExceptionTableEntry) (x : ExceptionTableEntry) (suf : List ExceptionTableEntry), tableOf hh = pre ++ x :: suf ∧ (∀ z ∈ pre, z.catchType ≠ 0 ∧ ∃ nm : String, Cond.classLink S.2.1 z.catchType nm ∈ WA ∧ (X, nm) ∈ NcL) ∧ covers x pc = true ∧ x.catchType ≠ 0 ∧ Cond.classLink S.2.1 x.catchType X ∈ WA ∧ Cond.castable X X ∈ WN ∧ x.handlerPc = h
theorem V_callXVAH {en : Nat → Nat} {hh : List (Nat × Nat × Nat × Nat)} {y : MethodName} {S' : SI} {As stk : List Value} {b : Nat} {idx : Nat} {q0 ci : Nat} {fs : List Value} {T : u_T} {N : Nat} (hb : ws[q0]? = some (b, .inr (ci, fs))) (hc : vwCl[ci]? = some (y.cls, T, N)) {wc wr : vWd} (hw : ws = wc ++ wr) (hE : evK K = EX en) (hT : tabK K = tableOf hh) (hM : MCX (EX en) y S' (.ref b :: As) wc Post XPost) (hM0 : MOK y S' As.length) (hlk : Cond.methodLink S.2.1 idx y ∈ WA) (hin : Cond.instanceMethod y ∈ WA) (hsel : Cond.selects y.cls y y ∈ WA) (hR : ROK S S') (hstk : stk = As.reverse ++ .ref b :: st) (hcat : (st.map fun v => v.category).sum ≤ 8) (hroom : k + S'.2.2.2.2.cells ≤ S.2.2.2.2.cells ∧ n + S'.2.2.2.2.slots ≤ S.2.2.2.2.slots) (d : decode S.1 pc = .ok (.invokevirtual idx, 3))
    (hx : ∀ (X : String) (w : vWd), XPost X w → ∃ h : Nat, HD K S hh pc X h ∧ ∀ q : Nat, V K S (k + S'.2.2.2.2.cells) (n + S'.2.2.2.2.slots) (w ++ wr) L [.ref q] h)
    (kk : ∀ (v : Option Value) (w : vWd), Post v w → V K S (k + S'.2.2.2.2.cells) (n + S'.2.2.2.2.slots) (w ++ wr) L (v.toList ++ st) (pc + 3)) : V K S k n ws L stk pc := by
  obtain ⟨p, l, e, s, m, args, below, meth, c, D, cA, A, Q, E0⟩ := K
  have hE' : E0 = EX en := hE
  subst hE'
  subst hstk
  intro C H locs ls hP hD hS hl
  subst hw
  have hbr := va_recv C.2.2.2.2.2.1 hP hc (tw_get hb)
  rw [tw_app] at hP hD
  have hPc : va_P D vwCl (tw cA wc) H := hP.left
  have hPr : va_P D vwCl (tw cA wr) H := hP.right
  have hDc : va_D A (tw cA wc) := hD.left
  have hDr : va_D A (tw cA wr) := hD.right
  have hap := hD.apart
  have hF := va_A_sub hDc hS C.2.2.2.2.2.2.1
  have hr : vx_Run p l e S.2.2.2.2 s m args below meth c H locs k n S'.2.2.2.2.cells S'.2.2.2.2.slots (F0 m pc ls (As.reverse ++ .ref b :: st)) st (QV D cA Post (va_A (tw cA wc) H.size) (.ref b :: As).toArray) (XV D cA XPost (va_A (tw cA wc) H.size)) (va_A (tw cA wc) H.size) := by
    refine vx_runV (As := As) (rest := st) (n := As.length) (Ts := WA) ⟨C.1, C.2.1, C.2.2.1, C.2.2.2.1, C.2.2.2.2.1⟩ (hM l C.2.2.2.2.2.2.2.2.2.1 D cA H.size) ⟨(callB_of As.length C.2.2.2.2.1 (wa_goodIn0 hM0.1) rfl rfl rfl (C.2.2.2.2.1 _ hM0.2.1) (C.2.2.2.2.1 _ hlk) hM0.2.2 hR), C.2.2.2.2.1 _ hin, C.2.2.2.2.1 _ hsel⟩ ⟨PV.blind C.2.2.2.2.2.2.2.2.2.2.1, hbr, fun U hU hW => ?_⟩ rfl rfl hl.1 rfl (lv_room hcat) d hroom
    exact ⟨rfl, by rw [hU], by rw [hU]; exact hPc, va_K.moved hW.alike C.2.2.2.2.2.1, hDc.weaken (fun _ _ _ _ => trivial), by
      rw [hU]
      exact C.2.2.2.2.2.2.2.2.2.2.1.1 _ _ _ _ hF (C.2.2.2.2.2.2.2.2.2.2.1.2.1 _ s U _ hW (C.2.2.2.2.2.2.2.2.2.2.1.2.2 _ _ _ _ hS.2.1 C.2.2.2.2.2.2.2.2.2.2.2))⟩
  have hap2 : ∀ (i j : Nat) (x y : Nat × va_E), (tw cA wr)[i]? = some x → (tw cA wc)[j]? = some y → x.1 = y.1 → False := fun i j x y h1 h2 h3 => hap j i y x h2 h1 h3.symm
  have hjP : ∀ (w : vWd) (H1 : Heap), va_P D vwCl (tw cA w) H1 → (∀ q : Nat, q < H.size → ¬ va_A (tw cA wc) H.size q → H1[q]? = H[q]?) → va_P D vwCl (tw cA (w ++ wr)) H1 := fun w H1 hP1 hk1 => by rw [tw_app]; exact va_P.app hP1 (hPr.keepO hap2 hk1)
  have hjD : ∀ (w : vWd), va_D (va_A (tw cA wc) H.size) (tw cA w) → va_D A (tw cA (w ++ wr)) := fun w hD1 => by rw [tw_app]; exact va_D.app (hD1.weaken (fun j q _ h => hF q.1 h)) hDr (fun i j x y hx hy => joinA hD1 hPr hap2 i j x y hx hy)
  refine vq_callX hr hS (fun q _ h => hF q h) hF (fun X ce q9 w H1 locs1 hp hP1 hD1 hz1 hk1 hS1 hce hcv hcl => ?_) (fun v w H1 locs1 hp hP1 hD1 hz1 hk1 hS1 => kk v w hp C H1 locs1 ls (hjP w H1 hP1 hk1) (hjD w hD1) hS1 hl)
  obtain ⟨h, ⟨pre, x, suf, e1, e2, e3, e4, e5, e6, e7⟩, hv⟩ := hx X w hp
  have hEx := C.2.2.2.2.2.2.2.2.2.2.2
  have hT' : c.exceptionTable.toList = tableOf hh := hT
  refine vx_catch (name := X) C.2.2.2.1 pre x suf (hT'.trans e1) (fun z hz => Or.inr ⟨(e2 z hz).1, ?_⟩) e3 e4 (C.2.2.2.2.1 _ e5) (va_Nw.use rfl (hEx.1.1 _ e6)) hce hcv hcl ?_
  · obtain ⟨-, nm, g1, g2⟩ := e2 z hz
    exact ⟨nm, C.2.2.2.2.1 _ g1, hEx.2 _ g2⟩
  · rw [e7]
    exact hv q9 C H1 locs1 ls (hjP w H1 hP1 hk1) (hjD w hD1) hS1 hl
theorem V_callSBH {E : EV} {hh : List (Nat × Nat × Nat × Nat)} {y : MethodName} {S' : SI} {As stk : List Value} {idx : Nat} {wc wr : vWd} (hw : ws = wr ++ wc) (hE : evK K = E) (hM : MCH E y S' hh As wc Post) (hM0 : MOKH y S' hh As.length) (hlk : Cond.methodLink S.2.1 idx y ∈ WA) (hst' : Cond.static y ∈ WA) (hR : ROK S S') (hstk : stk = As.reverse ++ st) (hcat : (st.map fun v => v.category).sum ≤ 8) (hroom : k + S'.2.2.2.2.cells ≤ S.2.2.2.2.cells ∧ n + S'.2.2.2.2.slots ≤ S.2.2.2.2.slots) (d : decode S.1 pc = .ok (.invokestatic idx, 3))
    (kk : ∀ (v : Option Value) (w : vWd), Post v w → V K S (k + S'.2.2.2.2.cells) (n + S'.2.2.2.2.slots) (wr ++ w) L (v.toList ++ st) (pc + 3)) : V K S k n ws L stk pc := by
  obtain ⟨p, l, e, s, m, args, below, meth, c, D, cA, A, Q, E0⟩ := K
  have hE' : E0 = E := hE
  subst hE'
  subst hstk
  intro C H locs ls hP hD hS hl
  subst hw
  rw [tw_app] at hP hD
  have hPc : va_P D vwCl (tw cA wc) H := hP.right
  have hPr : va_P D vwCl (tw cA wr) H := hP.left
  have hDc : va_D A (tw cA wc) := hD.right
  have hDr : va_D A (tw cA wr) := hD.left
  have hap := hD.apart
  have hF := va_A_sub hDc hS C.2.2.2.2.2.2.1
  have hG : GoodIn WA (va_wsS S.2.1 idx y (.codeWith y S'.1 S'.2.2.1 S'.2.2.2.1 hh :: WA)) := by
    intro w hw
    have hmem : w ∈ WA := by
      unfold va_wsS at hw
      rcases List.mem_append.mp hw with h | h
      · simp only [List.mem_cons, List.not_mem_nil, or_false] at h
        rcases h with rfl | rfl | rfl
        · exact hlk
        · exact hst'
        · exact hM0.2.1
      · rcases List.mem_cons.mp h with rfl | h
        · exact hM0.1
        · exact h
    exact ⟨hmem, good_of_word (wa_good hmem)⟩
  have hr : va_Run p l e S.2.2.2.2 s m args below meth c H locs k n S'.2.2.2.2.cells S'.2.2.2.2.slots (F0 m pc ls (As.reverse ++ st)) st (QV D cA Post (va_A (tw cA wc) H.size) As.toArray) (va_A (tw cA wc) H.size) := by
    refine vx_runSW (As := As) (rest := st) (n := As.length) (Ts := WA) ⟨C.1, C.2.1, C.2.2.1, C.2.2.2.1, C.2.2.2.2.1⟩ (hM l C.2.2.2.2.2.2.2.2.2.1 D cA H.size) (vx_cwSW As.length C.2.2.2.2.1 hG rfl rfl rfl hM0.2.2 hR) ⟨PV.blind C.2.2.2.2.2.2.2.2.2.2.1, fun U hU hW => ?_⟩ rfl rfl hl.1 rfl (lv_room hcat) d hroom
    exact ⟨rfl, by rw [hU], by rw [hU]; exact hPc, va_K.moved hW.alike C.2.2.2.2.2.1, hDc.weaken (fun _ _ _ _ => trivial), by
      rw [hU]
      exact C.2.2.2.2.2.2.2.2.2.2.1.1 _ _ _ _ hF (C.2.2.2.2.2.2.2.2.2.2.1.2.1 _ s U _ hW (C.2.2.2.2.2.2.2.2.2.2.1.2.2 _ _ _ _ hS.2.1 C.2.2.2.2.2.2.2.2.2.2.2))⟩
  refine vq_call hr hS (fun q _ h => hF q h) hF (fun v w H1 locs1 hp hP1 hD1 hz1 hk1 hS1 => kk v w hp C H1 locs1 ls ?_ ?_ hS1 hl)
  · rw [tw_app]; exact va_P.app (hPr.keepO (fun _ _ _ _ h1 h2 h3 => hap _ _ _ _ h1 h2 h3) hk1) hP1
  · rw [tw_app]; exact va_D.app hDr (hD1.weaken (fun j q _ h => hF q.1 h)) (fun i j x y hx hy hxy => joinA hD1 hPr (fun _ _ _ _ h1 h2 h3 => hap _ _ _ _ h1 h2 h3) j i y x hy hx hxy.symm)
end VH
theorem MC.post {E : EV} {y : MethodName} {S : SI} {as : List Value} {ws : vWd} {Post Post' : Option Value → vWd → Prop} (hM : MC E y S as ws Post) (h : ∀ v w, Post v w → Post' v w) : MC E y S as ws Post' := by
  intro l hl D cA sz p e h1 h2 h3 s m args below h4 h5 h6 h7
  obtain ⟨n, o, g1, g2, g3, ⟨⟨v, w, q1, q2, q3⟩, qF⟩, g5⟩ := hM l hl D cA sz p e h1 h2 h3 s m args below h4 h5 h6 h7
  exact ⟨n, o, g1, g2, g3, ⟨⟨v, w, q1, h v w q2, q3⟩, qF⟩, g5⟩
theorem gd_b {c : Prop} [Decidable c] {k : Int} {P : St} {r : SP} (h : c → r.2.1 = 0 ∨ r.2.1 = 1) : (gd c k P r).2.1 = 0 ∨ (gd c k P r).2.1 = 1 := by
  by_cases hc : c
  · rw [gd_t hc]; exact h hc
  · rw [gd_f hc]; exact Or.inl rfl
theorem bzv (b : Bool) : bz b = 0 ∨ bz b = 1 := by cases b; exact Or.inl rfl; exact Or.inr rfl
/-- the law's own environment: the script too -/
def ES (en : Nat → Nat) (sb Ln : Nat) (xs : Nat → Int32) : EV := fun A U H => EX en A U H ∧ va_T .int sb Ln (fun j => .int (xs j)) A U H
theorem ES.stb (en : Nat → Nat) (sb Ln : Nat) (xs : Nat → Int32) : Stb (ES en sb Ln xs) := by
  obtain ⟨h1, h2, h3⟩ := EX.stb en
  exact ⟨fun A B U H hAB h => ⟨h1 A B U H hAB h.1, h.2.narrow hAB⟩, fun A u U H hW h => ⟨h2 A u U H hW h.1, va_T.moved hW.alike h.2⟩, fun A U H H1 hk h => ⟨h3 A U H H1 hk h.1, h.2.kept hk⟩⟩
theorem ES.ex {en : Nat → Nat} {sb Ln : Nat} {xs : Nat → Int32} : ∀ A U H, ES en sb Ln xs A U H → EX en A U H := fun _ _ _ h => h.1
theorem MCH.env {E E' : EV} (h : ∀ A U H, E' A U H → E A U H) {y : MethodName} {S : SI} {hh : List (Nat × Nat × Nat × Nat)} {as : List Value} {ws : vWd} {Post : Option Value → vWd → Prop} (hM : MCH E y S hh as ws Post) : MCH E' y S hh as ws Post := fun l hl D cA sz => MetFree.pre (fun _ _ hp => PV.env h hp) (hM l hl D cA sz)
section VSC
variable {K : KT} {S : SI} {k n : Nat} {ws : vWd} {L : List (Option Value)} {st : List Value} {pc : Nat}
theorem V_scl {en : Nat → Nat} {sb Ln : Nat} {xs : Nat → Int32} {i : Int} (hE : evK K = ES en sb Ln xs) (hi : 0 ≤ i ∧ i < (Ln : Int)) (hL : Ln ≤ 260) (d : decode S.1 pc = .ok (.iaload, 1)) (kk : V K S k n ws L (.int (zI (xs i.toNat).toInt) :: st) (pc + 1)) : V K S k n ws L (.int (zI i) :: .ref sb :: st) pc := by
  obtain ⟨p, l, e, s, m, args, below, meth, c, D, cA, A, Q, E0⟩ := K
  have hE' : E0 = ES en sb Ln xs := hE
  subst hE'
  intro C H locs ls hP hD hS hl
  have hN := C.2.2.2.2.2.2.2.2.2.2.2
  refine va_ti (N := Ln) C.1 C.2.1 hN.2 hS (zI_in hi.1 hi.2 (by omega)) (v := .int (zI (xs i.toNat).toInt)) ?_ d (kk C H locs ls hP hD hS hl)
  rw [zI_cl hi.1 (by omega), zI_self]
theorem V_ldc {idx : Nat} {z : Int} (hcn : Cond.constant S.2.1 idx (zI z) ∈ WA) (d : decode S.1 pc = .ok (.ldc idx, 2)) (kk : V K S k n ws L (.int (zI z) :: st) (pc + 2)) : V K S k n ws L st pc := by
  obtain ⟨p, l, e, s, m, args, below, meth, c, D, cA, A, Q, E0⟩ := K
  intro C H locs ls hP hD hS hl
  exact lv_ldc C.1 C.2.1 C.2.2.2.1 (C.2.2.2.2.1 _ hcn) d (kk C H locs ls hP hD hS hl)
theorem V_scn {en : Nat → Nat} {sb Ln : Nat} {xs : Nat → Int32} (hE : evK K = ES en sb Ln xs) (d : decode S.1 pc = .ok (.arraylength, 1)) (kk : V K S k n ws L (.int (zI (Ln : Int)) :: st) (pc + 1)) : V K S k n ws L (.ref sb :: st) pc := by
  obtain ⟨p, l, e, s, m, args, below, meth, c, D, cA, A, Q, E0⟩ := K
  have hE' : E0 = ES en sb Ln xs := hE
  subst hE'
  intro C H locs ls hP hD hS hl
  have hN := C.2.2.2.2.2.2.2.2.2.2.2
  exact va_tlen C.1 C.2.1 hN.2 hS (by rw [zI_nat]; rfl) d (kk C H locs ls hP hD hS hl)
end VSC
theorem and_nn (x : Int32) : 0 ≤ (x &&& zI 2147483647).toInt := by
  show 0 ≤ (x &&& zI 2147483647).toBitVec.toInt
  have h : (x &&& zI 2147483647).toBitVec.msb = false := by
    rw [Int32.toBitVec_and, BitVec.msb_and, show (zI 2147483647).toBitVec.msb = false by decide, Bool.and_false]
  rw [BitVec.toInt_eq_msb_cond, h]
  simp only [Bool.false_eq_true, if_false]
  omega
-- the place of a cell in its statement's window, as the law's numbers have it
theorem pw_lr {P τ : St} (hM : MI P) (hL : LR P τ) {s : Int} (h0 : 0 ≤ s) (h1 : s < 4) (p : Int) : pw P (P 13 s) (τ 1 (20 + s)) (τ 1 (24 + s)) p = plc P s p ∧ KW (P 13 s) (τ 1 (20 + s)) (τ 1 (24 + s)) := by
  obtain ⟨-, -, -, -, -, a, b⟩ := hL.at h0 h1
  have h := hM.mw h0 h1
  rw [← pw_plc]
  rcases h with e | ⟨e, e1, e2⟩ | ⟨e, e1, e2, e3, e4⟩ | ⟨e, e1, e2, e3, e4⟩
  · rw [e]; exact ⟨rfl, Or.inl rfl⟩
  · rw [e, a (by omega)]; exact ⟨rfl, Or.inr (Or.inl ⟨rfl, e1, by omega⟩)⟩
  · rw [e, a (by omega), b (by omega)]; exact ⟨rfl, Or.inr (Or.inr (Or.inl ⟨rfl, e1, by omega, e3, by omega⟩))⟩
  · rw [e, a (by omega), b (by omega)]; exact ⟨rfl, Or.inr (Or.inr (Or.inr ⟨rfl, e1, e2, e3, by omega⟩))⟩
/-- of the first m cells of s with the place q, written ahead of the step n, the last one; -1 without one -/
def LyP (P : St) (bw cw s q n l m : Int) : Prop := (l = -1 ∧ ∀ p, 0 ≤ p → p < m → plc P s p = q → ¬ bt P bw cw (s * pt P + p) < n) ∨
  (∃ p0, 0 ≤ p0 ∧ p0 < m ∧ l = s * pt P + p0 ∧ plc P s p0 = q ∧ bt P bw cw l < n ∧ ∀ p, 0 ≤ p → p < m → plc P s p = q → bt P bw cw (s * pt P + p) < n → bt P bw cw (s * pt P + p) ≤ bt P bw cw l)
theorem LyP.b {P : St} (hM : MI P) {bw cw s q n l m : Int} (h : LyP P bw cw s q n l m) (hs : 0 ≤ s ∧ s < P 0 2) (hm : m ≤ pt P) : -1 ≤ l ∧ l < al P := by
  have := hM.als
  rcases h with ⟨e, -⟩ | ⟨p0, a, b, e, -⟩
  · omega
  · have := comp_eq hM hs.1 hs.2 a (show p0 < pt P by omega)
    omega
theorem LyP.skip {P : St} {bw cw s q n l m : Int} (h : LyP P bw cw s q n l m) (hs : plc P s m = q → bt P bw cw (s * pt P + m) < n → 0 ≤ l ∧ bt P bw cw (s * pt P + m) ≤ bt P bw cw l) : LyP P bw cw s q n l (m + 1) := by
  rcases h with ⟨e, g⟩ | ⟨p0, a, b, e, g1, g2, g3⟩
  · refine Or.inl ⟨e, fun p a b c d => ?_⟩
    by_cases z : p = m
    · subst z; have := hs c d; omega
    · exact g p a (by omega) c d
  · refine Or.inr ⟨p0, a, by omega, e, g1, g2, fun p a b c d => ?_⟩
    by_cases z : p = m
    · subst z; exact (hs c d).2
    · exact g3 p a (by omega) c d
theorem LyP.take {P : St} {bw cw s q n l m : Int} (h : LyP P bw cw s q n l m) (hm : 0 ≤ m) (h1 : plc P s m = q) (h2 : bt P bw cw (s * pt P + m) < n) (h3 : l < 0 ∨ bt P bw cw l < bt P bw cw (s * pt P + m)) (hs : 0 ≤ s * pt P) : LyP P bw cw s q n (s * pt P + m) (m + 1) := by
  refine Or.inr ⟨m, hm, by omega, rfl, h1, h2, fun p a b c d => ?_⟩
  by_cases z : p = m
  · subst z; exact Int.le_refl _
  · rcases h with ⟨e, g⟩ | ⟨p0, a0, b0, e, g1, g2, g3⟩
    · exact absurd d (g p a (by omega) c)
    · have := g3 p a (by omega) c d
      rcases h3 with h3 | h3
      · omega
      · omega

set_option maxRecDepth 100000 in
set_option maxHeartbeats 4000000 in
theorem q_border {E : EV} (hE : Stb E) (b : Nat → Nat) (τ : St) (X : vWd) (i : Int) (j : Int) (s : Int) (hp : (-10 ≤ i ∧ i ≤ 10) ∧ (-10 ≤ j ∧ j ≤ 10) ∧ (0 ≤ s ∧ s ≤ 4)) : MC E yL_border sL_border [.int (zI i), .int (zI j), .int (zI s)] (lW b τ X) (fun v w => v = some (.int (zI ((5 * i + 7 * j + s) % 100))) ∧ w = (lW b τ X)) := by
  refine MC.of hE [some (.int (zI i)), some (.int (zI j)), some (.int (zI s)), none] 1 rfl rfl rfl (by simp [Value.category]) (Nat.le_of_ble_eq_true rfl) (fun K hK hR => ?_)
  obtain ⟨hi, hj, hs⟩ := hp
  have ht := tmod_bounds (a := 5 * i + 7 * j + s) (M := 100) (by decide)
  have hq := Int.mul_tdiv_add_tmod (5 * i + 7 * j + s) 100
  refine V_iconst dL_border_0 ?_
  refine V_iload_n dL_border_1 rfl ?_
  refine V_imul dL_border_2 ?_
  refine V_bipush dL_border_3 (by decide) ?_
  refine V_iload_n dL_border_5 rfl ?_
  refine V_imul dL_border_6 ?_
  refine V_iadd dL_border_7 ?_
  refine V_iload_n dL_border_8 rfl ?_
  refine V_iadd dL_border_9 ?_
  refine V_bipush dL_border_10 (by decide) ?_
  refine V_irem dL_border_12 ⟨⟨by omega, by omega⟩, ⟨by omega, by omega⟩, by omega⟩ ?_
  refine V_istore_n (L' := [some (.int (zI i)), some (.int (zI j)), some (.int (zI s)), some (.int (zI (Int.tmod (((5 * i) + (7 * j)) + s) 100)))]) dL_border_13 (by decide) rfl ?_
  refine V_iload_n dL_border_14 rfl ?_
  refine V_if_ge (tgt := 25) dL_border_15 (by decide) ⟨by omega, by omega⟩ (fun c_1 => ?_) (fun c_1 => ?_)
  · refine V_iload_n dL_border_25 rfl ?_
    refine V_iret hR rfl (Nat.le_of_ble_eq_true rfl) (Nat.le_of_ble_eq_true rfl) dL_border_26 ?_
    exact ⟨ziE (by omega), rfl⟩
  · refine V_iload_n dL_border_18 rfl ?_
    refine V_bipush dL_border_19 (by decide) ?_
    refine V_iadd dL_border_21 ?_
    refine V_goto (tgt := 26) dL_border_22 (by decide) ?_
    refine V_iret hR rfl (Nat.le_of_ble_eq_true rfl) (Nat.le_of_ble_eq_true rfl) dL_border_26 ?_
    exact ⟨ziE (by omega), rfl⟩
set_option maxRecDepth 100000 in
set_option maxHeartbeats 4000000 in
theorem q_cellAt {E : EV} (hE : Stb E) (b : Nat → Nat) (τ : St) (X : vWd) (n : Int) (P : St) (hp : MI P ∧ LR P τ ∧ LT P τ ∧ (0 ≤ n ∧ n < al P)) : MC E yL_cellAt sL_cellAt [.ref (b 0), .ref (b 3), .int (zI n)] (lW b τ X) (fun v w => v = some (.int (zI (ac P (P 0 11) (P 0 12) n))) ∧ w = (lW b τ X)) := by
  refine MC.of hE [some (.ref (b 0)), some (.ref (b 3)), some (.int (zI n)), none] 1 rfl rfl rfl (by simp [Value.category]) (Nat.le_of_ble_eq_true rfl) (fun K hK hR => ?_)
  obtain ⟨hM, hL, hp⟩ := hp
  have mR := hM.1
  have mC := hM.2.1
  have mN := hM.2.2.1
  have mp := hM.pts
  have ma := hM.als
  have mV := hM.2.2.2.1
  have mW := hM.2.2.2.2.1
  obtain ⟨hT, hn⟩ := hp
  have hsm := hL.small hM
  have hac := ac_spec (P := P) (bw := P 0 11) (cw := P 0 12) hn.1 hn.2
  have loop_2 : ∀ (n0 : Nat) (k : Int), (al P - k).toNat = n0 → (0 ≤ k ∧ k ≤ al P) → (∀ j, 0 ≤ j → j < k → bt P (P 0 11) (P 0 12) j ≠ n) → V K sL_cellAt 0 0 (lW b τ X) [some (.ref (b 0)), some (.ref (b 3)), some (.int (zI n)), some (.int (zI k))] [] 2 := by
    intro n0
    induction n0 using Nat.strongRecOn with
    | _ n0 ih_2 =>
    intro k hm_2 hk hno
    refine V_iload_n dL_cellAt_2 rfl ?_
    refine V_aload_n dL_cellAt_3 rfl ?_
    refine V_iconst dL_cellAt_4 ?_
    refine ll_0 ⟨by omega, by omega⟩ dL_cellAt_5 ?_
    refine V_eqT (y := zI (P 0 2)) (congrArg zI (LR.g2 hL)) ?_
    refine V_aload_n dL_cellAt_6 rfl ?_
    refine V_callSF (As := [.ref (b 0)]) hK (q_points hE b τ X P ⟨hM, hL⟩) mokL_points w871 w872 ⟨Nat.le_of_ble_eq_true rfl, Nat.le_of_ble_eq_true rfl⟩ rfl (Nat.le_of_ble_eq_true rfl) ⟨Nat.le_of_ble_eq_true rfl, Nat.le_of_ble_eq_true rfl⟩ dL_cellAt_7 (fun v w p_1 => ?_)
    obtain ⟨rfl, rfl⟩ := p_1
    show V K sL_cellAt 0 0 (lW b τ X) _ [.int (zI (pt P)), .int (zI (P 0 2)), .int (zI k)] 10
    refine V_imul dL_cellAt_10 ?_
    refine V_eqT (y := zI (al P)) (rfl) ?_
    refine V_icmp_ge (tgt := 29) dL_cellAt_11 (by decide) ⟨⟨by omega, by omega⟩, ⟨by omega, by omega⟩⟩ (fun c_2 => ?_) (fun c_2 => ?_)
    · refine V_iconst dL_cellAt_29 ?_
      refine V_iret hR rfl (Nat.le_of_ble_eq_true rfl) (Nat.le_of_ble_eq_true rfl) dL_cellAt_30 ?_
      exact absurd hac.2.2 (hno _ hac.1 (by omega))
    · refine V_aload_n dL_cellAt_14 rfl ?_
      refine V_iload_n dL_cellAt_15 rfl ?_
      refine ll_3 ⟨by omega, by omega⟩ dL_cellAt_16 ?_
      have kb := bt_b (P := P) (bw := P 0 11) (cw := P 0 12) hk.1 (show k < al P by omega)
      refine V_eqT (y := zI (bt P (P 0 11) (P 0 12) k)) (congrArg zI (hT k hk.1 (by omega))) ?_
      refine V_iload_n dL_cellAt_17 rfl ?_
      refine V_icmp_ne (tgt := 23) dL_cellAt_18 (by decide) ⟨⟨by omega, by omega⟩, ⟨by omega, by omega⟩⟩ (fun c_3 => ?_) (fun c_3 => ?_)
      · refine V_iinc (L' := [some (.ref (b 0)), some (.ref (b 3)), some (.int (zI n)), some (.int (zI (k + 1)))]) dL_cellAt_23 (by decide) rfl rfl ?_
        refine V_goto (tgt := 2) dL_cellAt_26 (by decide) ?_
        refine ih_2 _ (by omega) (k + 1) rfl ?_ ?_
        · omega
        · intro j a b
          by_cases e : j = k
          · rw [e]; omega
          · exact hno j a (by omega)
      · refine V_iload_n dL_cellAt_21 rfl ?_
        refine V_iret hR rfl (Nat.le_of_ble_eq_true rfl) (Nat.le_of_ble_eq_true rfl) dL_cellAt_22 ?_
        exact ⟨ziE (by rw [← c_3, ac_bt hk.1 (by omega)]), rfl⟩
  have seg_2 : ∀ (k : Int), (0 ≤ k ∧ k ≤ al P) → (∀ j, 0 ≤ j → j < k → bt P (P 0 11) (P 0 12) j ≠ n) → V K sL_cellAt 0 0 (lW b τ X) [some (.ref (b 0)), some (.ref (b 3)), some (.int (zI n)), some (.int (zI k))] [] 2 := fun k hk hno => loop_2 _ k rfl hk hno
  refine V_iconst dL_cellAt_0 ?_
  refine V_istore_n (L' := [some (.ref (b 0)), some (.ref (b 3)), some (.int (zI n)), some (.int (zI 0))]) dL_cellAt_1 (by decide) rfl ?_
  refine seg_2 0 ?_ ?_
  · omega
  · intro j a b; omega
set_option maxRecDepth 100000 in
set_option maxHeartbeats 4000000 in
theorem q_lies {E : EV} (hE : Stb E) (b : Nat → Nat) (τ : St) (X : vWd) (wn : Int) (n : Int) (q : Nat) (f : Int → Int) (P : St) (hp : MI P ∧ LR P τ ∧ LT P τ ∧ (0 ≤ wn ∧ wn < al P) ∧ (0 ≤ n ∧ n ≤ al P)) : MC E yL_lies sL_lies [.ref (b 0), .ref (b 1), .ref (b 3), .ref q, .int (zI wn), .int (zI n)] (lW b τ ((q, iE 0 64 f) :: X)) (fun v w => ∃ (l : Int), v = some (.int (zI (if l < 0 then 0 else f l))) ∧ w = (lW b τ ((q, iE 0 64 f) :: X)) ∧ (LyP P (P 0 11) (P 0 12) (wn / pt P) (plc P (wn / pt P) (wn % pt P)) n l (pt P)) ∧ (-1 ≤ l ∧ l < al P)) := by
  refine MC.of hE [some (.ref (b 0)), some (.ref (b 1)), some (.ref (b 3)), some (.ref q), some (.int (zI wn)), some (.int (zI n)), none, none, none, none, none] 5 rfl rfl rfl (by simp [Value.category]) (Nat.le_of_ble_eq_true rfl) (fun K hK hR => ?_)
  obtain ⟨hM, hL, hp⟩ := hp
  have mR := hM.1
  have mC := hM.2.1
  have mN := hM.2.2.1
  have mp := hM.pts
  have ma := hM.als
  have mV := hM.2.2.2.1
  have mW := hM.2.2.2.2.1
  obtain ⟨hT, hw, hn⟩ := hp
  have hsm := hL.small hM
  have hc := cell_st hM hw.1 hw.2
  have hpl := fun p => pw_lr hM hL hc.1 (show wn / pt P < 4 by omega) p
  have ha := hL.at hc.1 (show wn / pt P < 4 by omega)
  have hs0 : 0 ≤ wn / pt P * pt P := Int.mul_nonneg hc.1 (by omega)
  have hs1 := cell_of hM hw.1 hw.2
  have loop_23 : ∀ (n0 : Nat) (p : Int) (l : Int), (pt P - p).toNat = n0 → (0 ≤ p ∧ p ≤ pt P) → (LyP P (P 0 11) (P 0 12) (wn / pt P) (plc P (wn / pt P) (wn % pt P)) n l p) → V K sL_lies 0 0 (lW b τ ((q, iE 0 64 f) :: X)) [some (.ref (b 0)), some (.ref (b 1)), some (.ref (b 3)), some (.ref q), some (.int (zI wn)), some (.int (zI n)), some (.int (zI (pt P))), some (.int (zI (wn / pt P))), some (.int (zI l)), some (.int (zI (wn / pt P * pt P + p))), none] [] 23 := by
    intro n0
    induction n0 using Nat.strongRecOn with
    | _ n0 ih_23 =>
    intro p l hm_23 hp2 hl
    have seg_98 : ∀ (bb : Bool), (p < pt P) → (bb = true ↔ plc P (wn / pt P) p = (plc P (wn / pt P) (wn % pt P))) → V K sL_lies 0 0 (lW b τ ((q, iE 0 64 f) :: X)) [some (.ref (b 0)), some (.ref (b 1)), some (.ref (b 3)), some (.ref q), some (.int (zI wn)), some (.int (zI n)), some (.int (zI (pt P))), some (.int (zI (wn / pt P))), some (.int (zI l)), some (.int (zI (wn / pt P * pt P + p))), none] [.int (zI (bz bb))] 98 := by
      intro bb hpn hbb
      have seg_137 : ∀ (l2 : Int), (LyP P (P 0 11) (P 0 12) (wn / pt P) (plc P (wn / pt P) (wn % pt P)) n l2 (p + 1)) → V K sL_lies 0 0 (lW b τ ((q, iE 0 64 f) :: X)) [some (.ref (b 0)), some (.ref (b 1)), some (.ref (b 3)), some (.ref q), some (.int (zI wn)), some (.int (zI n)), some (.int (zI (pt P))), some (.int (zI (wn / pt P))), none, some (.int (zI (wn / pt P * pt P + p))), none] [.int (zI l2)] 137 := by
        intro l2 hl2
        refine V_istore (L' := [some (.ref (b 0)), some (.ref (b 1)), some (.ref (b 3)), some (.ref q), some (.int (zI wn)), some (.int (zI n)), some (.int (zI (pt P))), some (.int (zI (wn / pt P))), some (.int (zI l2)), some (.int (zI (wn / pt P * pt P + p))), none]) dL_lies_137 (by decide) rfl ?_
        refine V_iinc (L' := [some (.ref (b 0)), some (.ref (b 1)), some (.ref (b 3)), some (.ref q), some (.int (zI wn)), some (.int (zI n)), some (.int (zI (pt P))), some (.int (zI (wn / pt P))), some (.int (zI l2)), some (.int (zI ((wn / pt P * pt P + p) + 1))), none]) dL_lies_139 (by decide) rfl rfl ?_
        refine V_goto (tgt := 23) dL_lies_142 (by decide) ?_
        refine V_locE (L' := [some (.ref (b 0)), some (.ref (b 1)), some (.ref (b 3)), some (.ref q), some (.int (zI wn)), some (.int (zI n)), some (.int (zI (pt P))), some (.int (zI (wn / pt P))), some (.int (zI l2)), some (.int (zI (wn / pt P * pt P + (p + 1)))), none]) (by rw [Int.add_assoc]) ?_
        refine ih_23 _ (by omega) (p + 1) l2 rfl ?_ ?_
        · omega
        · exact hl2
      have hcm := comp_eq hM hc.1 hc.2.1 hp2.1 (show p < pt P by omega)
      have hlb := hl.b hM ⟨hc.1, hc.2.1⟩ hp2.2
      have kb := bt_b (P := P) (bw := P 0 11) (cw := P 0 12) hcm.1.1 hcm.1.2
      refine V_istore (L' := [some (.ref (b 0)), some (.ref (b 1)), some (.ref (b 3)), some (.ref q), some (.int (zI wn)), some (.int (zI n)), some (.int (zI (pt P))), some (.int (zI (wn / pt P))), some (.int (zI l)), some (.int (zI (wn / pt P * pt P + p))), some (.int (zI (bz bb)))]) dL_lies_98 (by decide) rfl ?_
      refine V_iload dL_lies_100 rfl ?_
      refine V_ifb_eq (tgt := 135) dL_lies_102 (by decide) (fun c_1 => ?_) (fun c_1 => ?_)
      · refine V_iload dL_lies_135 rfl ?_
        refine V_mask (L' := [some (.ref (b 0)), some (.ref (b 1)), some (.ref (b 3)), some (.ref q), some (.int (zI wn)), some (.int (zI n)), some (.int (zI (pt P))), some (.int (zI (wn / pt P))), none, some (.int (zI (wn / pt P * pt P + p))), none]) [true, true, true, true, true, true, true, true, false, true, false] rfl ?_
        refine seg_137 l ?_
        · exact hl.skip (fun h => absurd (hbb.mpr h) (by rw [c_1]; decide))
      · refine V_aload_n dL_lies_105 rfl ?_
        refine V_iload dL_lies_106 rfl ?_
        refine ll_3 ⟨by omega, by omega⟩ dL_lies_108 ?_
        refine V_eqT (y := zI (bt P (P 0 11) (P 0 12) (wn / pt P * pt P + p))) (congrArg zI (hT _ hcm.1.1 hcm.1.2)) ?_
        refine V_iload dL_lies_109 rfl ?_
        refine V_icmp_ge (tgt := 135) dL_lies_111 (by decide) ⟨⟨by omega, by omega⟩, ⟨by omega, by omega⟩⟩ (fun c_2 => ?_) (fun c_2 => ?_)
        · refine V_iload dL_lies_135 rfl ?_
          refine V_mask (L' := [some (.ref (b 0)), some (.ref (b 1)), some (.ref (b 3)), some (.ref q), some (.int (zI wn)), some (.int (zI n)), some (.int (zI (pt P))), some (.int (zI (wn / pt P))), none, some (.int (zI (wn / pt P * pt P + p))), none]) [true, true, true, true, true, true, true, true, false, true, false] rfl ?_
          refine seg_137 l ?_
          · exact hl.skip (fun _ h => absurd h (by omega))
        · refine V_iload dL_lies_114 rfl ?_
          refine V_if_lt (tgt := 130) dL_lies_116 (by decide) ⟨by omega, by omega⟩ (fun c_3 => ?_) (fun c_3 => ?_)
          · refine V_iload dL_lies_130 rfl ?_
            refine V_goto (tgt := 137) dL_lies_132 (by decide) ?_
            refine V_mask (L' := [some (.ref (b 0)), some (.ref (b 1)), some (.ref (b 3)), some (.ref q), some (.int (zI wn)), some (.int (zI n)), some (.int (zI (pt P))), some (.int (zI (wn / pt P))), none, some (.int (zI (wn / pt P * pt P + p))), none]) [true, true, true, true, true, true, true, true, false, true, false] rfl ?_
            refine seg_137 (wn / pt P * pt P + p) ?_
            · exact hl.take hp2.1 (hbb.mp c_1) (by omega) (Or.inl (by omega)) hs0
          · refine V_aload_n dL_lies_119 rfl ?_
            refine V_iload dL_lies_120 rfl ?_
            refine ll_3 ⟨by omega, by omega⟩ dL_lies_122 ?_
            refine V_eqT (y := zI (bt P (P 0 11) (P 0 12) (wn / pt P * pt P + p))) (congrArg zI (hT _ hcm.1.1 hcm.1.2)) ?_
            refine V_aload_n dL_lies_123 rfl ?_
            refine V_iload dL_lies_124 rfl ?_
            refine ll_3 ⟨by omega, by omega⟩ dL_lies_126 ?_
            have kl := bt_b (P := P) (bw := P 0 11) (cw := P 0 12) (k := l) (by omega) hlb.2
            refine V_eqT (y := zI (bt P (P 0 11) (P 0 12) l)) (congrArg zI (hT _ (by omega) hlb.2)) ?_
            refine V_icmp_le (tgt := 135) dL_lies_127 (by decide) ⟨⟨by omega, by omega⟩, ⟨by omega, by omega⟩⟩ (fun c_4 => ?_) (fun c_4 => ?_)
            · refine V_iload dL_lies_135 rfl ?_
              refine V_mask (L' := [some (.ref (b 0)), some (.ref (b 1)), some (.ref (b 3)), some (.ref q), some (.int (zI wn)), some (.int (zI n)), some (.int (zI (pt P))), some (.int (zI (wn / pt P))), none, some (.int (zI (wn / pt P * pt P + p))), none]) [true, true, true, true, true, true, true, true, false, true, false] rfl ?_
              refine seg_137 l ?_
              · exact hl.skip (fun _ _ => by omega)
            · refine V_iload dL_lies_130 rfl ?_
              refine V_goto (tgt := 137) dL_lies_132 (by decide) ?_
              refine V_mask (L' := [some (.ref (b 0)), some (.ref (b 1)), some (.ref (b 3)), some (.ref q), some (.int (zI wn)), some (.int (zI n)), some (.int (zI (pt P))), some (.int (zI (wn / pt P))), none, some (.int (zI (wn / pt P * pt P + p))), none]) [true, true, true, true, true, true, true, true, false, true, false] rfl ?_
              refine seg_137 (wn / pt P * pt P + p) ?_
              · exact hl.take hp2.1 (hbb.mp c_1) (by omega) (Or.inr (by omega)) hs0
    refine V_iload dL_lies_23 rfl ?_
    refine V_iload dL_lies_25 rfl ?_
    refine V_iload dL_lies_27 rfl ?_
    refine V_imul dL_lies_29 ?_
    refine V_iload dL_lies_30 rfl ?_
    refine V_iadd dL_lies_32 ?_
    refine V_icmp_ge (tgt := 145) dL_lies_33 (by decide) ⟨⟨by omega, by omega⟩, ⟨by omega, by omega⟩⟩ (fun c_5 => ?_) (fun c_5 => ?_)
    · have hlb := hl.b hM ⟨hc.1, hc.2.1⟩ hp2.2
      refine V_iload dL_lies_145 rfl ?_
      refine V_if_ge (tgt := 154) dL_lies_147 (by decide) ⟨by omega, by omega⟩ (fun c_6 => ?_) (fun c_6 => ?_)
      · refine V_aload_n dL_lies_154 rfl ?_
        refine V_iload dL_lies_155 rfl ?_
        refine V_iald (N := 64) (f := f) 5 rfl ⟨by omega, by omega⟩ (by decide) dL_lies_157 ?_
        refine V_iret hR rfl (Nat.le_of_ble_eq_true rfl) (Nat.le_of_ble_eq_true rfl) dL_lies_158 ?_
        have e : p = pt P := by omega
        subst e
        exact ⟨l, ziE (if_neg (by omega)).symm, rfl, hl, hlb⟩
      · refine V_iconst dL_lies_150 ?_
        refine V_goto (tgt := 158) dL_lies_151 (by decide) ?_
        refine V_iret hR rfl (Nat.le_of_ble_eq_true rfl) (Nat.le_of_ble_eq_true rfl) dL_lies_158 ?_
        have e : p = pt P := by omega
        subst e
        exact ⟨l, ziE (if_pos (by omega)).symm, rfl, hl, hlb⟩
    · have hcm := comp_eq hM hc.1 hc.2.1 hp2.1 (show p < pt P by omega)
      refine V_aload_n dL_lies_36 rfl ?_
      refine V_aload_n dL_lies_37 rfl ?_
      refine V_bipush dL_lies_38 (by decide) ?_
      refine V_iload dL_lies_40 rfl ?_
      refine V_iadd dL_lies_42 ?_
      refine ll_1 ⟨by omega, by omega⟩ dL_lies_43 ?_
      refine V_eqT (y := zI (P 13 (wn / pt P))) (congrArg zI ha.2.2.2.2.1) ?_
      refine V_aload_n dL_lies_44 rfl ?_
      refine V_bipush dL_lies_45 (by decide) ?_
      refine V_iload dL_lies_47 rfl ?_
      refine V_iadd dL_lies_49 ?_
      refine ll_1 ⟨by omega, by omega⟩ dL_lies_50 ?_
      refine V_aload_n dL_lies_51 rfl ?_
      refine V_bipush dL_lies_52 (by decide) ?_
      refine V_iload dL_lies_54 rfl ?_
      refine V_iadd dL_lies_56 ?_
      refine ll_1 ⟨by omega, by omega⟩ dL_lies_57 ?_
      refine V_iload dL_lies_58 rfl ?_
      refine V_callSF (As := [.ref (b 0), .int (zI (P 13 (wn / pt P))), .int (zI (τ 1 (20 + (wn / pt P)))), .int (zI (τ 1 (24 + (wn / pt P)))), .int (zI (wn / pt P * pt P + p))]) hK (q_place hE b τ ((q, iE 0 64 f) :: X) (P 13 (wn / pt P)) (τ 1 (20 + (wn / pt P))) (τ 1 (24 + (wn / pt P))) (wn / pt P * pt P + p) P ⟨hM, hL, hcm.1, (hpl 0).2⟩) mokL_place w937 w938 ⟨Nat.le_of_ble_eq_true rfl, Nat.le_of_ble_eq_true rfl⟩ rfl (Nat.le_of_ble_eq_true rfl) ⟨Nat.le_of_ble_eq_true rfl, Nat.le_of_ble_eq_true rfl⟩ dL_lies_60 (fun v w p_7 => ?_)
      obtain ⟨rfl, rfl⟩ := p_7
      show V K sL_lies 0 0 (lW b τ ((q, iE 0 64 f) :: X)) _ [.int (zI (pw P (P 13 (wn / pt P)) (τ 1 (20 + (wn / pt P))) (τ 1 (24 + (wn / pt P))) ((wn / pt P * pt P + p) % pt P)))] 63
      refine V_eqT (y := zI (plc P (wn / pt P) p)) (by rw [hcm.2.2.1, (hpl _).1]) ?_
      refine V_aload_n dL_lies_63 rfl ?_
      refine V_aload_n dL_lies_64 rfl ?_
      refine V_bipush dL_lies_65 (by decide) ?_
      refine V_iload dL_lies_67 rfl ?_
      refine V_iadd dL_lies_69 ?_
      refine ll_1 ⟨by omega, by omega⟩ dL_lies_70 ?_
      refine V_eqT (y := zI (P 13 (wn / pt P))) (congrArg zI ha.2.2.2.2.1) ?_
      refine V_aload_n dL_lies_71 rfl ?_
      refine V_bipush dL_lies_72 (by decide) ?_
      refine V_iload dL_lies_74 rfl ?_
      refine V_iadd dL_lies_76 ?_
      refine ll_1 ⟨by omega, by omega⟩ dL_lies_77 ?_
      refine V_aload_n dL_lies_78 rfl ?_
      refine V_bipush dL_lies_79 (by decide) ?_
      refine V_iload dL_lies_81 rfl ?_
      refine V_iadd dL_lies_83 ?_
      refine ll_1 ⟨by omega, by omega⟩ dL_lies_84 ?_
      refine V_iload dL_lies_85 rfl ?_
      refine V_callSF (As := [.ref (b 0), .int (zI (P 13 (wn / pt P))), .int (zI (τ 1 (20 + (wn / pt P)))), .int (zI (τ 1 (24 + (wn / pt P)))), .int (zI wn)]) hK (q_place hE b τ ((q, iE 0 64 f) :: X) (P 13 (wn / pt P)) (τ 1 (20 + (wn / pt P))) (τ 1 (24 + (wn / pt P))) wn P ⟨hM, hL, hw, (hpl 0).2⟩) mokL_place w937 w938 ⟨Nat.le_of_ble_eq_true rfl, Nat.le_of_ble_eq_true rfl⟩ rfl (Nat.le_of_ble_eq_true rfl) ⟨Nat.le_of_ble_eq_true rfl, Nat.le_of_ble_eq_true rfl⟩ dL_lies_87 (fun v w p_8 => ?_)
      obtain ⟨rfl, rfl⟩ := p_8
      show V K sL_lies 0 0 (lW b τ ((q, iE 0 64 f) :: X)) _ [.int (zI (pw P (P 13 (wn / pt P)) (τ 1 (20 + (wn / pt P))) (τ 1 (24 + (wn / pt P))) (wn % pt P))), .int (zI (plc P (wn / pt P) p))] 90
      have b1 := plc_b hM hc.1 (show wn / pt P < 4 by omega) hp2.1 (show p < pt P by omega)
      have b2 := plc_b hM hc.1 (show wn / pt P < 4 by omega) hc.2.2.1 hc.2.2.2.1
      refine V_eqT (y := zI (plc P (wn / pt P) (wn % pt P))) (by rw [(hpl _).1]) ?_
      refine V_icmp_ne (tgt := 97) dL_lies_90 (by decide) ⟨⟨by omega, by omega⟩, ⟨by omega, by omega⟩⟩ (fun c_9 => ?_) (fun c_9 => ?_)
      · refine V_iconst dL_lies_97 ?_
        refine seg_98 false ?_ ?_
        · omega
        · exact ⟨(fun h => nomatch h), fun h => absurd h c_9⟩
      · refine V_iconst dL_lies_93 ?_
        refine V_goto (tgt := 98) dL_lies_94 (by decide) ?_
        refine seg_98 true ?_ ?_
        · omega
        · exact ⟨fun _ => c_9, fun _ => rfl⟩
  have seg_23 : ∀ (p : Int) (l : Int), (0 ≤ p ∧ p ≤ pt P) → (LyP P (P 0 11) (P 0 12) (wn / pt P) (plc P (wn / pt P) (wn % pt P)) n l p) → V K sL_lies 0 0 (lW b τ ((q, iE 0 64 f) :: X)) [some (.ref (b 0)), some (.ref (b 1)), some (.ref (b 3)), some (.ref q), some (.int (zI wn)), some (.int (zI n)), some (.int (zI (pt P))), some (.int (zI (wn / pt P))), some (.int (zI l)), some (.int (zI (wn / pt P * pt P + p))), none] [] 23 := fun p l hp2 hl => loop_23 _ p l rfl hp2 hl
  refine V_aload_n dL_lies_0 rfl ?_
  refine V_callSF (As := [.ref (b 0)]) hK (q_points hE b τ ((q, iE 0 64 f) :: X) P ⟨hM, hL⟩) mokL_points w871 w872 ⟨Nat.le_of_ble_eq_true rfl, Nat.le_of_ble_eq_true rfl⟩ rfl (Nat.le_of_ble_eq_true rfl) ⟨Nat.le_of_ble_eq_true rfl, Nat.le_of_ble_eq_true rfl⟩ dL_lies_1 (fun v w p_10 => ?_)
  obtain ⟨rfl, rfl⟩ := p_10
  show V K sL_lies 0 0 (lW b τ ((q, iE 0 64 f) :: X)) _ [.int (zI (pt P))] 4
  refine V_istore (L' := [some (.ref (b 0)), some (.ref (b 1)), some (.ref (b 3)), some (.ref q), some (.int (zI wn)), some (.int (zI n)), some (.int (zI (pt P))), none, none, none, none]) dL_lies_4 (by decide) rfl ?_
  refine V_iload dL_lies_6 rfl ?_
  refine V_iload dL_lies_8 rfl ?_
  refine V_idiv dL_lies_10 ⟨⟨by omega, by omega⟩, ⟨by omega, by omega⟩, by omega, by omega⟩ ?_
  refine V_istore (L' := [some (.ref (b 0)), some (.ref (b 1)), some (.ref (b 3)), some (.ref q), some (.int (zI wn)), some (.int (zI n)), some (.int (zI (pt P))), some (.int (zI (wn / (pt P)))), none, none, none]) dL_lies_11 (by decide) rfl ?_
  refine V_iconst dL_lies_13 ?_
  refine V_istore (L' := [some (.ref (b 0)), some (.ref (b 1)), some (.ref (b 3)), some (.ref q), some (.int (zI wn)), some (.int (zI n)), some (.int (zI (pt P))), some (.int (zI (wn / (pt P)))), some (.int (zI (-1))), none, none]) dL_lies_14 (by decide) rfl ?_
  refine V_iload dL_lies_16 rfl ?_
  refine V_iload dL_lies_18 rfl ?_
  refine V_imul dL_lies_20 ?_
  refine V_istore (L' := [some (.ref (b 0)), some (.ref (b 1)), some (.ref (b 3)), some (.ref q), some (.int (zI wn)), some (.int (zI n)), some (.int (zI (pt P))), some (.int (zI (wn / (pt P)))), some (.int (zI (-1))), some (.int (zI ((wn / (pt P)) * (pt P)))), none]) dL_lies_21 (by decide) rfl ?_
  refine V_locE (L' := [some (.ref (b 0)), some (.ref (b 1)), some (.ref (b 3)), some (.ref q), some (.int (zI wn)), some (.int (zI n)), some (.int (zI (pt P))), some (.int (zI (wn / (pt P)))), some (.int (zI (-1))), some (.int (zI (wn / pt P * pt P + 0))), none]) (by rw [Int.add_zero]) ?_
  refine seg_23 0 (-1) ?_ ?_
  · omega
  · exact Or.inl ⟨rfl, fun p a b => absurd b (by omega)⟩
theorem wldc_7 : Cond.constant RL 7 (zI 2147483647) ∈ WA := wa_of (wm3 (List.mem_of_getElem? (i := 26) rfl)) rfl
theorem wldc_220 : Cond.constant RL 220 (zI 60000) ∈ WA := wa_of (wm5 (List.mem_of_getElem? (i := 69) rfl)) rfl
set_option maxRecDepth 100000 in
set_option maxHeartbeats 4000000 in
theorem q_part (en : Nat → Nat) (sb Ln : Nat) (xs : Nat → Int32) (hLn : Ln ≤ 260) (b : Nat → Nat) (τ : St) (X : vWd) (k n : Int) (hp : (0 ≤ k ∧ k ≤ 100) ∧ (1 ≤ n ∧ n ≤ 100000)) : MC (ES en sb Ln xs) yL_part sL_part [.ref sb, .int (zI k), .int (zI n)] (lW b τ X) (fun v w => ∃ (r : Int), v = some (.int (zI r)) ∧ w = lW b τ X ∧ (0 ≤ r ∧ r < n)) := by
  obtain ⟨hk, hn⟩ := hp
  have key : ∀ (K : KT) (hK : evK K = ES en sb Ln xs) (hR : RetOK K 0 0 (fun v w => ∃ (r : Int), v = some (.int (zI r)) ∧ w = lW b τ X ∧ (0 ≤ r ∧ r < n))) (x : Int), V K sL_part 0 0 (lW b τ X) [some (.ref sb), some (.int (zI k)), some (.int (zI n)), none] [.int (zI x)] 25 := by
    intro K hK hR x
    refine V_istore_n (L' := [some (.ref sb), some (.int (zI k)), some (.int (zI n)), some (.int (zI x))]) dL_part_25 (by decide) rfl ?_
    refine V_iload_n dL_part_26 rfl ?_
    refine V_ldc (z := 2147483647) wldc_7 dL_part_27 ?_
    refine V_iand dL_part_29 ?_
    have hb := and_nn (zI x)
    have hb2 := zI_rng (zI x &&& zI 2147483647)
    refine V_eqT (y := zI (zI x &&& zI 2147483647).toInt) (zI_self _).symm ?_
    refine V_iload_n dL_part_30 rfl ?_
    refine V_iremN dL_part_31 ⟨hb2, ⟨by omega, by omega⟩, hb, by omega⟩ ?_
    refine V_iret hR rfl (Nat.le_refl _) (Nat.le_refl _) dL_part_32 ?_
    exact ⟨_, rfl, rfl, Int.emod_nonneg _ (by omega), Int.emod_lt_of_pos _ (by omega)⟩
  refine MC.of (ES.stb en sb Ln xs) [some (.ref sb), some (.int (zI k)), some (.int (zI n)), none] 1 rfl rfl rfl (by simp [Value.category]) (Nat.le_of_ble_eq_true rfl) (fun K hK hR => ?_)
  refine V_iload_n dL_part_0 rfl ?_
  refine V_aload_n dL_part_1 rfl ?_
  refine V_scn hK dL_part_2 ?_
  refine V_icmp_ge (tgt := 12) dL_part_3 (by decide) ⟨⟨by omega, by omega⟩, ⟨by omega, by omega⟩⟩ (fun c_1 => ?_) (fun c_1 => ?_)
  · refine V_sipush dL_part_12 (by decide) ?_
    refine V_iload_n dL_part_15 rfl ?_
    refine V_imul dL_part_16 ?_
    refine V_sipush dL_part_17 (by decide) ?_
    refine V_iload_n dL_part_20 rfl ?_
    refine V_imul dL_part_21 ?_
    refine V_iload_n dL_part_22 rfl ?_
    refine V_imul dL_part_23 ?_
    refine V_iadd dL_part_24 ?_
    exact key K hK hR _
  · refine V_aload_n dL_part_6 rfl ?_
    refine V_iload_n dL_part_7 rfl ?_
    refine V_scl hK ⟨hk.1, c_1⟩ hLn dL_part_8 ?_
    refine V_goto (tgt := 25) dL_part_9 (by decide) ?_
    exact key K hK hR _
