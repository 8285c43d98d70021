/-! methods that may throw: contracts, throws, calls; calls of nest mates -/
def XV (D : va_G) (cA : Nat → ClassId) (XPost : String → vWd → Prop) (A : Nat → Prop) : String → State → State → Prop := fun X st t => (∃ w : vWd, XPost X w ∧ va_P D vwCl (tw cA w) t.heap ∧ va_K D vwCl (tyL cA) t ∧ va_D A (tw cA w)) ∧ va_F A st t
def MCX (E : EV) (y : MethodName) (S : SI) (as : List Value) (ws : vWd) (Post : Option Value → vWd → Prop) (XPost : String → vWd → Prop) : Prop := ∀ (l : Launch), l.stackTraces = false → ∀ (D : va_G) (cA : Nat → ClassId) (sz : Nat), vx_Met l y (.code y S.1 S.2.2.1 S.2.2.2.1 :: WA) S.2.2.2.2 (PV E D cA as ws sz) (QV D cA Post (va_A (tw cA ws) sz)) (XV D cA XPost (va_A (tw cA ws) sz)) S.2.2.2.2.cells S.2.2.2.2.slots (va_A (tw cA ws) sz)
def XOK (K : KT) (mc ms : Nat) (XPost : String → vWd → Prop) : Prop := match K with
  | (_, _, _, s, _, args, below, _, c, D, cA, A, Q, _) => (∀ x ∈ c.exceptionTable.toList, False) ∧ ∃ Qc, Q = vx_MQ below Qc (XV D cA XPost A) args s mc ms A
theorem MCX.of {E : EV} (hE : Stb E) {y : MethodName} {S : SI} {as : List Value} {ws : vWd} {Post : Option Value → vWd → Prop} {XPost : String → vWd → Prop} (L0 : List (Option Value)) (r : Nat) (hL0 : as.map some ++ List.replicate r none = L0) (hy : plainName y.cls = true) (hS : y.cls = S.2.1) (hc : ∀ v ∈ as, v.category = 1) (hm : as.length ≤ S.2.2.1)
    (body : ∀ K : KT, evK K = E → RetOK K S.2.2.2.2.cells S.2.2.2.2.slots Post → XOK K S.2.2.2.2.cells S.2.2.2.2.slots XPost → V K S 0 0 ws L0 [] 0) : MCX E y S as ws Post XPost := by
  subst hL0
  intro l hst D cA sz
  refine vx_ofW (cc := S.1) (maxL := S.2.2.1) (ret := S.2.2.2.1) hy rfl ?_
  intro p e s m args below meth c s₁ B hml ht hv
  obtain ⟨rfl, hsz, hP, hK, hD0, hEv⟩ := hv
  have hts := atoms_spec (ws := .code y S.1 S.2.2.1 S.2.2.2.1 :: WA) B.pre
  have hown : s.vm.findClass y.cls = some m.cls := findClass_of_methodNamed B.named
  subst hsz
  rw [lg_entry_eq]
  exact body (p, l, e, s, m, as.toArray, below, meth, c, D, cA, va_A (tw cA ws) s.heap.size, vx_MQ below (QV D cA Post (va_A (tw cA ws) s.heap.size)) (XV D cA XPost (va_A (tw cA ws) s.heap.size)) as.toArray s S.2.2.2.2.cells S.2.2.2.2.slots (va_A (tw cA ws) s.heap.size), E) rfl (fun _ _ _ _ h => vx_ret h) ⟨ht, _, rfl⟩
    ⟨B.exec, B.bytes, hml, hS ▸ hown, fun w hw => hts w (List.mem_cons_of_mem _ hw), hK, fun q h => Or.inr h, B.notSynchronized, B.returns, hst, hE, hEv⟩ s.heap [] _ hP hD0.self va_S.rf (lvO.entry hc hm)
theorem MC.ofI {E : EV} (hE : Stb E) {y : MethodName} {S : SI} {as : List Value} {ws : vWd} {Post : Option Value → vWd → Prop} (hyn : y.name = "<init>") (L0 : List (Option Value)) (r : Nat) (hL0 : as.map some ++ List.replicate r none = L0) (hy : plainName y.cls = true) (hS : y.cls = S.2.1) (hc : ∀ v ∈ as, v.category = 1) (hm : as.length ≤ S.2.2.1)
    (body : ∀ K : KT, evK K = E → isInit K → RetOK K S.2.2.2.2.cells S.2.2.2.2.slots Post → V K S 0 0 ws L0 [] 0) : MC E y S as ws Post := by
  subst hL0
  intro l hst D cA sz
  refine Met.ofW (cc := S.1) (maxL := S.2.2.1) (ret := S.2.2.2.1) hy rfl ?_
  intro p e s m args below meth c s₁ B hml hv
  obtain ⟨rfl, hsz, hP, hK, hD0, hEv⟩ := hv
  have hts := atoms_spec (ws := .code y S.1 S.2.2.1 S.2.2.2.1 :: WA) B.pre
  have hown : s.vm.findClass y.cls = some m.cls := findClass_of_methodNamed B.named
  have hnm : meth.name = "<init>" := ((name_of_methodNamed B.named B.method).1).trans hyn
  subst hsz
  rw [lg_entry_eq]
  exact body (p, l, e, s, m, as.toArray, below, meth, c, D, cA, va_A (tw cA ws) s.heap.size, MQ below (QV D cA Post (va_A (tw cA ws) s.heap.size)) as.toArray s S.2.2.2.2.cells S.2.2.2.2.slots (va_A (tw cA ws) s.heap.size), E) rfl hnm (fun _ _ _ _ h => h)
    ⟨B.exec, B.bytes, hml, hS ▸ hown, fun w hw => hts w (List.mem_cons_of_mem _ hw), hK, fun q h => Or.inr h, B.notSynchronized, B.returns, hst, hE, hEv⟩ s.heap [] _ hP hD0.self va_S.rf (lvO.entry hc hm)
theorem vq_callX {p : Program} {l : Launch} {e : Env} {R : Room} {s : State} {m : MethodId} {args : Array Value} {below : List Frame} {meth : Method} {c : Code} {H : Heap} {locs : List Loc} {cells slots : Nat} {Q : State → Prop} {pc : Nat} {ls : Array Slot} {rest st0 : List Value} {a : Array Value} {A0 A1 : Nat → Prop} {H0 : Heap} {mc ms : Nat} {free : Addr → Prop} {D : va_G} {cA : Nat → ClassId} {Post : Option Value → vWd → Prop} {XPost : String → vWd → Prop}
    (hr : vx_Run p l e R s m args below meth c H locs cells slots mc ms (F0 m pc ls st0) rest (QV D cA Post A1 a) (XV D cA XPost A1) free) (hS : va_S A0 H0 H locs) (hA : ∀ q, q < H.size → A1 q → A0 q) (hf : ∀ q, free q → A0 q)
    (kx : ∀ (X : String) (ce : Cell) (q9 : Addr) (w : vWd) (H1 : Heap) (locs1 : List Loc), XPost X w → va_P D vwCl (tw cA w) H1 → va_D A1 (tw cA w) → H.size ≤ H1.size → (∀ q : Nat, q < H.size → ¬ A1 q → H1[q]? = H[q]?) → va_S A0 H0 H1 locs1 → H1[q9]? = some ce → ce.vm = .none → s.vm.findClass X = some ce.cls → vx_W p l e R s m args below meth c H1 locs1 (cells + mc) (slots + ms) Q (F0 m pc ls rest) q9)
    (kk : ∀ (v : Option Value) (w : vWd) (H1 : Heap) (locs1 : List Loc), Post v w → va_P D vwCl (tw cA w) H1 → va_D A1 (tw cA w) → H.size ≤ H1.size → (∀ q : Nat, q < H.size → ¬ A1 q → H1[q]? = H[q]?) → va_S A0 H0 H1 locs1 → W p l e R s m args below meth c H1 locs1 (cells + mc) (slots + ms) Q (F0 m (pc + 3) ls (v.toList ++ rest))) : W p l e R s m args below meth c H locs cells slots Q (F0 m pc ls st0) := by
  intro T hT X
  rcases hr T hT X with ⟨v0, st₀, t, T', Lo, h0, X', hL, e1, e2, ⟨⟨v, w, hv, hp, hPw, -, hDw⟩, hF⟩, st⟩ | ⟨q, st₀, t, T', Lo, E, ce, h0, X', hL, e1, e2, ⟨⟨w, hp, hPw, -, hDw⟩, hF⟩, hce, hcv, hcl, st⟩
  · cases hv
    obtain ⟨k1, k2, k3⟩ := vx_keep h0 e1 hS hA hf hL hF
    obtain ⟨t2, a1, b1⟩ := kk v0 w T'.heap (locs ++ Lo) hp (by rw [e1]; exact hPw) hDw k1 k2 k3 T' rfl X'
    exact ⟨t2, st t2 a1, b1⟩
  · obtain ⟨k1, k2, k3⟩ := vx_keep h0 e1 hS hA hf hL hF
    obtain ⟨t2, a1, b1⟩ := kx E ce q w T'.heap (locs ++ Lo) hp (by rw [e1]; exact hPw) hDw k1 k2 k3 (by rw [e1]; exact hce) hcv hcl T' rfl X'
    exact ⟨t2, st.trans a1, b1⟩
section XCALL
variable {K : KT} {S : SI} {k n : Nat} {ws : vWd} {L : List (Option Value)} {st : List Value} {pc : Nat} {Post : Option Value → vWd → Prop} {XPost XP0 : String → vWd → Prop} {mc ms : Nat}
theorem V_callXVF {E : EV} {y : MethodName} {S' : SI} {As stk : List Value} {b : Nat} {idx : Nat} {q0 ci : Nat} {fs : List Value} {T : u_T} {N : Nat} (hb : ws[q0]? = some (b, .inr (ci, fs))) (hc : vwCl[ci]? = some (y.cls, T, N)) (hE : evK K = E) (hM : MCX E y S' (.ref b :: As) ws Post XPost) (hM0 : MOK y S' As.length) (hlk : Cond.methodLink S.2.1 idx y ∈ WA) (hin : Cond.instanceMethod y ∈ WA) (hsel : Cond.selects y.cls y y ∈ WA) (hR : ROK S S') (hstk : stk = As.reverse ++ .ref b :: st) (hcat : (st.map fun v => v.category).sum ≤ 8) (hroom : k + S'.2.2.2.2.cells ≤ S.2.2.2.2.cells ∧ n + S'.2.2.2.2.slots ≤ S.2.2.2.2.slots) (d : decode S.1 pc = .ok (.invokevirtual idx, 3)) (hX : XOK K mc ms XP0) (hxp : ∀ X w, XPost X w → XP0 X w) (hmc : k + S'.2.2.2.2.cells ≤ mc) (hms : n + S'.2.2.2.2.slots ≤ ms)
    (kk : ∀ (v : Option Value) (w : vWd), Post v w → V K S (k + S'.2.2.2.2.cells) (n + S'.2.2.2.2.slots) w L (v.toList ++ st) (pc + 3)) : V K S k n ws L stk pc := by
  obtain ⟨p, l, e, s, m, args, below, meth, c, D, cA, A, Q, E0⟩ := K
  have hE' : E0 = E := hE
  subst hE'
  subst hstk
  obtain ⟨hX1, Qc, rfl⟩ := hX
  intro C H locs ls hP hD hS hl
  have hPc := hP
  have hDc := hD
  have hF := va_A_sub hD hS C.2.2.2.2.2.2.1
  have hr : vx_Run p l e S.2.2.2.2 s m args below meth c H locs k n S'.2.2.2.2.cells S'.2.2.2.2.slots (F0 m pc ls (As.reverse ++ .ref b :: st)) st (QV D cA Post (va_A (tw cA ws) H.size) (.ref b :: As).toArray) (XV D cA XPost (va_A (tw cA ws) H.size)) (va_A (tw cA ws) H.size) := by
    refine vx_runV (As := As) (rest := st) (n := As.length) (Ts := WA) ⟨C.1, C.2.1, C.2.2.1, C.2.2.2.1, C.2.2.2.2.1⟩ (hM l C.2.2.2.2.2.2.2.2.2.1 D cA H.size) ⟨(callB_of As.length C.2.2.2.2.1 (wa_goodIn0 hM0.1) rfl rfl rfl (C.2.2.2.2.1 _ hM0.2.1) (C.2.2.2.2.1 _ hlk) hM0.2.2 hR), C.2.2.2.2.1 _ hin, C.2.2.2.2.1 _ hsel⟩ ⟨PV.blind C.2.2.2.2.2.2.2.2.2.2.1, va_recv C.2.2.2.2.2.1 hP hc (tw_get hb), fun U hU hW => ?_⟩ rfl rfl hl.1 rfl (lv_room hcat) d hroom
    exact ⟨rfl, by rw [hU], by rw [hU]; exact hPc, va_K.moved hW.alike C.2.2.2.2.2.1, hDc.weaken (fun _ _ _ _ => trivial), by
      rw [hU]
      exact C.2.2.2.2.2.2.2.2.2.2.1.1 _ _ _ _ hF (C.2.2.2.2.2.2.2.2.2.2.1.2.1 _ s U _ hW (C.2.2.2.2.2.2.2.2.2.2.1.2.2 _ _ _ _ hS.2.1 C.2.2.2.2.2.2.2.2.2.2.2))⟩
  refine vq_callX hr hS (fun q _ h => hF q h) hF (fun X ce q9 w H1 locs1 hp hP1 hD1 hz1 hk1 hS1 hce hcv hcl => ?_) (fun v w H1 locs1 hp hP1 hD1 hz1 hk1 hS1 => kk v w hp C H1 locs1 ls (hP1) (hD1.weaken (fun j q _ h => hF q.1 h)) hS1 hl)
  exact vx_out (fun x hx => (hX1 x hx).elim) C.2.2.2.2.2.2.2.1 hce hcv hcl (fun t ht ha => ⟨⟨w, hxp X w hp, by rw [ht]; exact hP1, va_K.moved ha C.2.2.2.2.2.1, hD1.weaken (fun j q _ h => hF q.1 h)⟩, hS1.F ht⟩) hS1.2.2 hmc hms
theorem V_callXSE {E : EV} {y : MethodName} {S' : SI} {As stk : List Value} {idx : Nat} (hE : evK K = E) (hM : MCX E y S' As [] Post XPost) (hM0 : MOK y S' As.length) (hlk : Cond.methodLink S.2.1 idx y ∈ WA) (hst' : Cond.static y ∈ WA) (hR : ROK S S') (hstk : stk = As.reverse ++ st) (hcat : (st.map fun v => v.category).sum ≤ 8) (hroom : k + S'.2.2.2.2.cells ≤ S.2.2.2.2.cells ∧ n + S'.2.2.2.2.slots ≤ S.2.2.2.2.slots) (d : decode S.1 pc = .ok (.invokestatic idx, 3)) (hX : XOK K mc ms XP0) (hxp : ∀ X w, XPost X w → XP0 X ws) (hmc : k + S'.2.2.2.2.cells ≤ mc) (hms : n + S'.2.2.2.2.slots ≤ ms)
    (kk : ∀ (v : Option Value) (w : vWd), Post v w → V K S (k + S'.2.2.2.2.cells) (n + S'.2.2.2.2.slots) ws L (v.toList ++ st) (pc + 3)) : V K S k n ws L stk pc := by
  obtain ⟨p, l, e, s, m, args, below, meth, c, D, cA, A, Q, E0⟩ := K
  have hE' : E0 = E := hE
  subst hE'
  subst hstk
  obtain ⟨hX1, Qc, rfl⟩ := hX
  intro C H locs ls hP hD hS hl
  have hPc : va_P D vwCl (tw cA []) H := fun k q h => by simp [tw] at h
  have hDc : va_D A (tw cA []) := ⟨fun i j p q h => by simp [tw] at h, fun k q h => by simp [tw] at h⟩
  have hF := va_A_sub hDc hS C.2.2.2.2.2.2.1
  have hr : vx_Run p l e S.2.2.2.2 s m args below meth c H locs k n S'.2.2.2.2.cells S'.2.2.2.2.slots (F0 m pc ls (As.reverse ++ st)) st (QV D cA Post (va_A (tw cA []) H.size) As.toArray) (XV D cA XPost (va_A (tw cA []) H.size)) (va_A (tw cA []) H.size) := by
    refine vx_runS (As := As) (rest := st) (n := As.length) (Ts := WA) ⟨C.1, C.2.1, C.2.2.1, C.2.2.2.1, C.2.2.2.2.1⟩ (hM l C.2.2.2.2.2.2.2.2.2.1 D cA H.size) ⟨(callB_of As.length C.2.2.2.2.1 (wa_goodIn0 hM0.1) rfl rfl rfl (C.2.2.2.2.1 _ hM0.2.1) (C.2.2.2.2.1 _ hlk) hM0.2.2 hR), C.2.2.2.2.1 _ hst'⟩ ⟨PV.blind C.2.2.2.2.2.2.2.2.2.2.1, fun U hU hW => ?_⟩ rfl rfl hl.1 rfl (lv_room hcat) d hroom
    exact ⟨rfl, by rw [hU], by rw [hU]; exact hPc, va_K.moved hW.alike C.2.2.2.2.2.1, hDc.weaken (fun _ _ _ _ => trivial), by
      rw [hU]
      exact C.2.2.2.2.2.2.2.2.2.2.1.1 _ _ _ _ hF (C.2.2.2.2.2.2.2.2.2.2.1.2.1 _ s U _ hW (C.2.2.2.2.2.2.2.2.2.2.1.2.2 _ _ _ _ hS.2.1 C.2.2.2.2.2.2.2.2.2.2.2))⟩
  refine vq_callX hr hS (fun q _ h => hF q h) hF (fun X ce q9 w H1 locs1 hp hP1 hD1 hz1 hk1 hS1 hce hcv hcl => ?_) (fun v w H1 locs1 hp hP1 hD1 hz1 hk1 hS1 => kk v w hp C H1 locs1 ls (hP.keep hk1) (hD) hS1 hl)
  exact vx_out (fun x hx => (hX1 x hx).elim) C.2.2.2.2.2.2.2.1 hce hcv hcl (fun t ht ha => ⟨⟨ws, hxp X w hp, by rw [ht]; exact hP.keep hk1, va_K.moved ha C.2.2.2.2.2.1, hD⟩, hS1.F ht⟩) hS1.2.2 hmc hms
theorem V_callSEN {en : Nat → Nat} {y : MethodName} {S' : SI} {As stk : List Value} {host : String} {idx : Nat} (hE : evK K = (EN en)) (hM : MC (EN en) y S' As [] Post) (hM0 : MOK y S' As.length) (hlk : Cond.methodLinkNest S.2.1 idx y host ∈ WN) (hst' : Cond.static y ∈ WA) (hR : ROK S S') (hstk : stk = As.reverse ++ st) (hcat : (st.map fun v => v.category).sum ≤ 8) (hroom : k + S'.2.2.2.2.cells ≤ S.2.2.2.2.cells ∧ n + S'.2.2.2.2.slots ≤ S.2.2.2.2.slots) (d : decode S.1 pc = .ok (.invokestatic idx, 3))
    (kk : ∀ (v : Option Value) (w : vWd), Post v w → V K S (k + S'.2.2.2.2.cells) (n + S'.2.2.2.2.slots) ws L (v.toList ++ st) (pc + 3)) : V K S k n ws L stk pc := by
  obtain ⟨p, l, e, s, m, args, below, meth, c, D, cA, A, Q, E0⟩ := K
  have hE' : E0 = (EN en) := hE
  subst hE'
  subst hstk
  skip
  intro C H locs ls hP hD hS hl
  have hPc : va_P D vwCl (tw cA []) H := fun k q h => by simp [tw] at h
  have hDc : va_D A (tw cA []) := ⟨fun i j p q h => by simp [tw] at h, fun k q h => by simp [tw] at h⟩
  have hF := va_A_sub hDc hS C.2.2.2.2.2.2.1
  have hr : va_Run p l e S.2.2.2.2 s m args below meth c H locs k n S'.2.2.2.2.cells S'.2.2.2.2.slots (F0 m pc ls (As.reverse ++ st)) st (QV D cA Post (va_A (tw cA []) H.size) As.toArray) (va_A (tw cA []) H.size) := by
    refine va_runSN (As := As) (rest := st) (n := As.length) (Ts := WA) ⟨C.1, C.2.1, C.2.2.1, C.2.2.2.1, C.2.2.2.2.1⟩ (hM l C.2.2.2.2.2.2.2.2.2.1 D cA H.size) ⟨(va_cnB As.length C.2.2.2.2.1 (wa_goodIn0 hM0.1) rfl rfl rfl (C.2.2.2.2.2.2.2.2.2.2.2.1 _ hlk) (C.2.2.2.2.1 _ hM0.2.1) hM0.2.2 hR), C.2.2.2.2.1 _ hst', trivial⟩ ⟨PV.blind C.2.2.2.2.2.2.2.2.2.2.1, fun U hU hW => ?_⟩ rfl rfl hl.1 rfl (lv_room hcat) d hroom
    exact ⟨rfl, by rw [hU], by rw [hU]; exact hPc, va_K.moved hW.alike C.2.2.2.2.2.1, hDc.weaken (fun _ _ _ _ => trivial), by
      rw [hU]
      exact C.2.2.2.2.2.2.2.2.2.2.1.1 _ _ _ _ hF (C.2.2.2.2.2.2.2.2.2.2.1.2.1 _ s U _ hW (C.2.2.2.2.2.2.2.2.2.2.1.2.2 _ _ _ _ hS.2.1 C.2.2.2.2.2.2.2.2.2.2.2))⟩
  exact vq_call hr hS (fun q _ h => hF q h) hF (fun v w H1 locs1 hp hP1 hD1 hz1 hk1 hS1 => kk v w hp C H1 locs1 ls (hP.keep hk1) (hD) hS1 hl)
theorem V_callIBN {en : Nat → Nat} {y : MethodName} {S' : SI} {As stk : List Value} {b : Nat} {host : String} {idx : Nat} {wc wr : vWd} (hw : ws = wr ++ wc) (hE : evK K = (EN en)) (hM : MC (EN en) y S' (.ref b :: As) wc Post) (hM0 : MOK y S' As.length) (hlk : Cond.methodLinkNest S.2.1 idx y host ∈ WN) (hin : Cond.instanceMethod y ∈ WA) (hnm : y.name = "<init>") (hrv : S'.2.2.2.1 = none) (hR : ROK S S') (hstk : stk = As.reverse ++ .ref b :: st) (hcat : (st.map fun v => v.category).sum ≤ 8) (hroom : k + S'.2.2.2.2.cells ≤ S.2.2.2.2.cells ∧ n + S'.2.2.2.2.slots ≤ S.2.2.2.2.slots) (d : decode S.1 pc = .ok (.invokespecial idx, 3))
    (kk : ∀ (v : Option Value) (w : vWd), Post v w → V K S (k + S'.2.2.2.2.cells) (n + S'.2.2.2.2.slots) (wr ++ w) L (v.toList ++ st) (pc + 3)) : V K S k n ws L stk pc := by
  obtain ⟨p, l, e, s, m, args, below, meth, c, D, cA, A, Q, E0⟩ := K
  have hE' : E0 = (EN en) := hE
  subst hE'
  subst hstk
  skip
  intro C H locs ls hP hD hS hl
  subst hw
  rw [tw_app] at hP hD
  have hPc : va_P D vwCl (tw cA wc) H := hP.right
  have hPr : va_P D vwCl (tw cA wr) H := hP.left
  have hDc : va_D A (tw cA wc) := hD.right
  have hDr : va_D A (tw cA wr) := hD.left
  have hap := hD.apart
  have hF := va_A_sub hDc hS C.2.2.2.2.2.2.1
  have hr : va_Run p l e S.2.2.2.2 s m args below meth c H locs k n S'.2.2.2.2.cells S'.2.2.2.2.slots (F0 m pc ls (As.reverse ++ .ref b :: st)) st (QV D cA Post (va_A (tw cA wc) H.size) (.ref b :: As).toArray) (va_A (tw cA wc) H.size) := by
    refine va_runIN (As := As) (rest := st) (n := As.length) (Ts := WA) ⟨C.1, C.2.1, C.2.2.1, C.2.2.2.1, C.2.2.2.2.1⟩ (hM l C.2.2.2.2.2.2.2.2.2.1 D cA H.size) ⟨by rw [← hrv]; exact (va_cnB As.length C.2.2.2.2.1 (wa_goodIn0 hM0.1) rfl rfl rfl (C.2.2.2.2.2.2.2.2.2.2.2.1 _ hlk) (C.2.2.2.2.1 _ hM0.2.1) hM0.2.2 hR), hnm, C.2.2.2.2.1 _ hin⟩ ⟨PV.blind C.2.2.2.2.2.2.2.2.2.2.1, fun U hU hW => ?_⟩ rfl rfl hl.1 rfl (lv_room hcat) d hroom
    exact ⟨rfl, by rw [hU], by rw [hU]; exact hPc, va_K.moved hW.alike C.2.2.2.2.2.1, hDc.weaken (fun _ _ _ _ => trivial), by
      rw [hU]
      exact C.2.2.2.2.2.2.2.2.2.2.1.1 _ _ _ _ hF (C.2.2.2.2.2.2.2.2.2.2.1.2.1 _ s U _ hW (C.2.2.2.2.2.2.2.2.2.2.1.2.2 _ _ _ _ hS.2.1 C.2.2.2.2.2.2.2.2.2.2.2))⟩
  exact vq_call hr hS (fun q _ h => hF q h) hF (fun v w H1 locs1 hp hP1 hD1 hz1 hk1 hS1 => kk v w hp C H1 locs1 ls (by rw [tw_app]; exact va_P.app (hPr.keepO (fun _ _ _ _ h1 h2 h3 => hap _ _ _ _ h1 h2 h3) hk1) hP1) (by rw [tw_app]; exact va_D.app hDr (hD1.weaken (fun j q _ h => hF q.1 h)) (fun i j x y hx hy hxy => joinA hD1 hPr (fun _ _ _ _ h1 h2 h3 => hap _ _ _ _ h1 h2 h3) j i y x hy hx hxy.symm)) hS1 hl)
theorem V_callIFN {en : Nat → Nat} {y : MethodName} {S' : SI} {As stk : List Value} {b : Nat} {host : String} {idx : Nat} (hE : evK K = (EN en)) (hM : MC (EN en) y S' (.ref b :: As) ws Post) (hM0 : MOK y S' As.length) (hlk : Cond.methodLinkNest S.2.1 idx y host ∈ WN) (hin : Cond.instanceMethod y ∈ WA) (hnm : y.name = "<init>") (hrv : S'.2.2.2.1 = none) (hR : ROK S S') (hstk : stk = As.reverse ++ .ref b :: st) (hcat : (st.map fun v => v.category).sum ≤ 8) (hroom : k + S'.2.2.2.2.cells ≤ S.2.2.2.2.cells ∧ n + S'.2.2.2.2.slots ≤ S.2.2.2.2.slots) (d : decode S.1 pc = .ok (.invokespecial idx, 3))
    (kk : ∀ (v : Option Value) (w : vWd), Post v w → V K S (k + S'.2.2.2.2.cells) (n + S'.2.2.2.2.slots) w L (v.toList ++ st) (pc + 3)) : V K S k n ws L stk pc := by
  obtain ⟨p, l, e, s, m, args, below, meth, c, D, cA, A, Q, E0⟩ := K
  have hE' : E0 = (EN en) := hE
  subst hE'
  subst hstk
  skip
  intro C H locs ls hP hD hS hl
  have hPc := hP
  have hDc := hD
  have hF := va_A_sub hD hS C.2.2.2.2.2.2.1
  have hr : va_Run p l e S.2.2.2.2 s m args below meth c H locs k n S'.2.2.2.2.cells S'.2.2.2.2.slots (F0 m pc ls (As.reverse ++ .ref b :: st)) st (QV D cA Post (va_A (tw cA ws) H.size) (.ref b :: As).toArray) (va_A (tw cA ws) H.size) := by
    refine va_runIN (As := As) (rest := st) (n := As.length) (Ts := WA) ⟨C.1, C.2.1, C.2.2.1, C.2.2.2.1, C.2.2.2.2.1⟩ (hM l C.2.2.2.2.2.2.2.2.2.1 D cA H.size) ⟨by rw [← hrv]; exact (va_cnB As.length C.2.2.2.2.1 (wa_goodIn0 hM0.1) rfl rfl rfl (C.2.2.2.2.2.2.2.2.2.2.2.1 _ hlk) (C.2.2.2.2.1 _ hM0.2.1) hM0.2.2 hR), hnm, C.2.2.2.2.1 _ hin⟩ ⟨PV.blind C.2.2.2.2.2.2.2.2.2.2.1, fun U hU hW => ?_⟩ rfl rfl hl.1 rfl (lv_room hcat) d hroom
    exact ⟨rfl, by rw [hU], by rw [hU]; exact hPc, va_K.moved hW.alike C.2.2.2.2.2.1, hDc.weaken (fun _ _ _ _ => trivial), by
      rw [hU]
      exact C.2.2.2.2.2.2.2.2.2.2.1.1 _ _ _ _ hF (C.2.2.2.2.2.2.2.2.2.2.1.2.1 _ s U _ hW (C.2.2.2.2.2.2.2.2.2.2.1.2.2 _ _ _ _ hS.2.1 C.2.2.2.2.2.2.2.2.2.2.2))⟩
  exact vq_call hr hS (fun q _ h => hF q h) hF (fun v w H1 locs1 hp hP1 hD1 hz1 hk1 hS1 => kk v w hp C H1 locs1 ls (hP1) (hD1.weaken (fun j q _ h => hF q.1 h)) hS1 hl)
theorem V_throwS {en : Nat → Nat} {ik ic is i : Nat} {cls : String} {names : List String} (hE : evK K = EN en) (hX : XOK K mc ms XPost) (hxp : XPost cls ws) (hown : S.2.1 = "CellWindows") (hcls : Bundle.fit cls = true) (hnames : ∀ n ∈ names, Bundle.fit n = true)
    (hk : Cond.classLink "CellWindows" ik cls ∈ WA) (hini : Cond.initialized cls ∈ WA) (hat : ∀ w ∈ vx_atS "CellWindows" ic cls names, w ∈ WA ∨ w ∈ WN) (hgood : ∀ w ∈ Cond.classLink "CellWindows" ik cls :: Cond.initialized cls :: vx_atS "CellWindows" ic cls names, vx_ot w = true) (hi : i < 8) (his : sIx i = is)
    (d0 : decode S.1 pc = .ok (.new ik, 3)) (d3 : decode S.1 (pc + 3) = .ok (.dup, 1)) (d4 : decode S.1 (pc + 4) = .ok (.ldc_w is, 3)) (d7 : decode S.1 (pc + 7) = .ok (.invokespecial ic, 3)) (d10 : decode S.1 (pc + 10) = .ok (.athrow, 1))
    (hR : names.length + 3 < S.2.2.2.2.frames ∧ (st.map fun v => v.category).sum + (13 * (names.length + 1) + 43) ≤ S.2.2.2.2.locals) (hroom : k + 1 ≤ S.2.2.2.2.cells ∧ n + 6 ≤ S.2.2.2.2.slots) (hm : k + 1 ≤ mc ∧ n + 6 ≤ ms) : V K S k n ws L st pc := by
  obtain ⟨p, l, e, s, m, args, below, meth, c, D, cA, A, Q, E0⟩ := K
  have hE' : E0 = EN en := hE
  subst hE'
  subst his
  obtain ⟨hX1, Qc, rfl⟩ := hX
  intro C H locs ls hP hD hS hl
  have hN := C.2.2.2.2.2.2.2.2.2.2.2
  refine vx_throwSW (A := A) (own := "CellWindows") (text := sTx i) C.1 C.2.1 C.2.2.2.2.2.2.2.2.2.1 (hown ▸ C.2.2.2.1) hcls hnames (C.2.2.2.2.1 _ hk) (C.2.2.2.2.1 _ hini) (hN.2.2.2.2.2.2.2.1 i hi) (fun w hw => ?_) hgood hN.2.2.2.2.2.2.1.1 hN.2.2.2.2.2.2.1.2 hS (hl.1.trans C.2.2.1.symm) d0 d3 d4 d7 d10 (fun x hx => (hX1 x hx).elim) hR.1 hR.2 hroom.1 hroom.2 C.2.2.2.2.2.2.2.1 (fun t ha hz hq => ?_) hS.2.2 hm.1 hm.2
  · rcases hat w hw with h | h
    · exact C.2.2.2.2.1 _ h
    · have h0 : w.onTables = true := by
        have hg := (List.mem_filter.mp h).2
        cases w <;> first | rfl | cases hg
      exact va_Nw.use h0 (hN.1 _ h)
  · refine ⟨⟨ws, hxp, hP.kept (fun j q hj => hq q.1 ((hP j q hj).lt)), va_K.moved ha C.2.2.2.2.2.1, hD⟩, Nat.le_trans hS.1 hz, fun q h1 h2 => ?_⟩
    rw [hq q (Nat.lt_of_lt_of_le h1 hS.1)]
    exact hS.2.1 q h1 h2
theorem V_throwS2 {en : Nat → Nat} {ik ic is i : Nat} {cls : String} {names : List String} (hE : evK K = EN en) (hX : XOK K mc ms XPost) (hxp : XPost cls ws) (hown : S.2.1 = "CellWindows") (hcls : Bundle.fit cls = true) (hnames : ∀ n ∈ names, Bundle.fit n = true)
    (hk : Cond.classLink "CellWindows" ik cls ∈ WA) (hini : Cond.initialized cls ∈ WA) (hat : ∀ w ∈ vx_atS "CellWindows" ic cls names, w ∈ WA ∨ w ∈ WN) (hgood : ∀ w ∈ Cond.classLink "CellWindows" ik cls :: Cond.initialized cls :: vx_atS "CellWindows" ic cls names, vx_ot w = true) (hi : i < 8) (his : sIx i = is)
    (d0 : decode S.1 pc = .ok (.new ik, 3)) (d3 : decode S.1 (pc + 3) = .ok (.dup, 1)) (d4 : decode S.1 (pc + 4) = .ok (.ldc is, 2)) (d6 : decode S.1 (pc + 6) = .ok (.invokespecial ic, 3)) (d9 : decode S.1 (pc + 9) = .ok (.athrow, 1))
    (hR : names.length + 3 < S.2.2.2.2.frames ∧ (st.map fun v => v.category).sum + (13 * (names.length + 1) + 43) ≤ S.2.2.2.2.locals) (hroom : k + 1 ≤ S.2.2.2.2.cells ∧ n + 6 ≤ S.2.2.2.2.slots) (hm : k + 1 ≤ mc ∧ n + 6 ≤ ms) : V K S k n ws L st pc := by
  obtain ⟨p, l, e, s, m, args, below, meth, c, D, cA, A, Q, E0⟩ := K
  have hE' : E0 = EN en := hE
  subst hE'
  subst his
  obtain ⟨hX1, Qc, rfl⟩ := hX
  intro C H locs ls hP hD hS hl
  have hN := C.2.2.2.2.2.2.2.2.2.2.2
  refine vx_throwS (A := A) (own := "CellWindows") (text := sTx i) C.1 C.2.1 C.2.2.2.2.2.2.2.2.2.1 (hown ▸ C.2.2.2.1) hcls hnames (C.2.2.2.2.1 _ hk) (C.2.2.2.2.1 _ hini) (hN.2.2.2.2.2.2.2.1 i hi) (fun w hw => ?_) hgood hN.2.2.2.2.2.2.1.1 hN.2.2.2.2.2.2.1.2 hS (hl.1.trans C.2.2.1.symm) d0 d3 d4 d6 d9 (fun x hx => (hX1 x hx).elim) hR.1 hR.2 hroom.1 hroom.2 C.2.2.2.2.2.2.2.1 (fun t ha hz hq => ?_) hS.2.2 hm.1 hm.2
  · rcases hat w hw with h | h
    · exact C.2.2.2.2.1 _ h
    · have h0 : w.onTables = true := by
        have hg := (List.mem_filter.mp h).2
        cases w <;> first | rfl | cases hg
      exact va_Nw.use h0 (hN.1 _ h)
  · refine ⟨⟨ws, hxp, hP.kept (fun j q hj => hq q.1 ((hP j q hj).lt)), va_K.moved ha C.2.2.2.2.2.1, hD⟩, Nat.le_trans hS.1 hz, fun q h1 h2 => ?_⟩
    rw [hq q (Nat.lt_of_lt_of_le h1 hS.1)]
    exact hS.2.1 q h1 h2
theorem V_ordinal {en : Nat → Nat} {S' : SI} {idx i : Nat} (hE : evK K = EN en) (hi : i < 4) (hM : MC (EN en) yJx29ce0_ordinal_8abf5 S' [.ref (en i)] [] Post) (hM0 : MOK yJx29ce0_ordinal_8abf5 S' 0)
    (hlk : Cond.methodLink S.2.1 idx ⟨"CellWindows$Kind", "ordinal", "()I"⟩ ∈ WA) (hsm : Cond.sameMethod "CellWindows$Kind" "java/lang/Enum" "ordinal" "()I" ∈ WA) (hsel : Cond.selects "CellWindows$Kind" ⟨"CellWindows$Kind", "ordinal", "()I"⟩ yJx29ce0_ordinal_8abf5 ∈ WA) (hin : Cond.instanceMethod yJx29ce0_ordinal_8abf5 ∈ WA) (hR : ROK S S') (hcat : (st.map fun v => v.category).sum ≤ 8) (hroom : k + S'.2.2.2.2.cells ≤ S.2.2.2.2.cells ∧ n + S'.2.2.2.2.slots ≤ S.2.2.2.2.slots) (d : decode S.1 pc = .ok (.invokevirtual idx, 3))
    (kk : ∀ (v : Option Value) (w : vWd), Post v w → V K S (k + S'.2.2.2.2.cells) (n + S'.2.2.2.2.slots) ws L (v.toList ++ st) (pc + 3)) : V K S k n ws L (.ref (en i) :: st) pc := by
  obtain ⟨p, l, e, s, m, args, below, meth, c, D, cA, A, Q, E0⟩ := K
  have hE' : E0 = EN en := hE
  subst hE'
  intro C H locs ls hP hD hS hl
  have hN := C.2.2.2.2.2.2.2.2.2.2.2
  have hPc : va_P D vwCl (tw cA []) H := fun k q h => by simp [tw] at h
  have hDc : va_D A (tw cA []) := ⟨fun i j p q h => by simp [tw] at h, fun k q h => by simp [tw] at h⟩
  have hF := va_A_sub hDc hS C.2.2.2.2.2.2.1
  have hG : GoodIn WA (va_wsU S.2.1 idx "CellWindows$Kind" "java/lang/Enum" ⟨"CellWindows$Kind", "ordinal", "()I"⟩ yJx29ce0_ordinal_8abf5 (.code yJx29ce0_ordinal_8abf5 S'.1 S'.2.2.1 S'.2.2.2.1 :: WA)) := by
    intro w hw
    have hmem : w ∈ WA := by
      unfold va_wsU at hw
      rcases List.mem_append.mp hw with h | h
      · simp only [List.mem_cons, List.not_mem_nil, or_false] at h
        rcases h with rfl | rfl | rfl | rfl | rfl
        · exact hlk
        · exact hsm
        · exact hsel
        · exact hin
        · exact hM0.2.1
      · rcases List.mem_cons.mp h with rfl | h
        · exact hM0.1
        · exact h
    exact ⟨hmem, good_of_word (wa_good hmem)⟩
  have hr : va_Run p l e S.2.2.2.2 s m args below meth c H locs k n S'.2.2.2.2.cells S'.2.2.2.2.slots (F0 m pc ls (.ref (en i) :: st)) st (QV D cA Post (va_A (tw cA []) H.size) [.ref (en i)].toArray) (va_A (tw cA []) H.size) := by
    refine va_runU (As := []) (rest := st) (n := 0) (Ts := WA) ⟨C.1, C.2.1, C.2.2.1, C.2.2.2.1, C.2.2.2.2.1⟩ (hM l C.2.2.2.2.2.2.2.2.2.1 D cA H.size) (va_cwU 0 C.2.2.2.2.1 hG rfl rfl rfl rfl ⟨by decide +kernel, by decide +kernel, by decide +kernel⟩ hR) ⟨PV.blind C.2.2.2.2.2.2.2.2.2.2.1, ?_, fun U hU hW => ?_⟩ rfl rfl hl.1 rfl (lv_room hcat) d hroom
    · obtain ⟨cell, z1, z2, z3, -⟩ := (hN.2.1 i hi).2.kept hS.2.1
      exact ⟨cell, z1, z2, z3⟩
    exact ⟨rfl, by rw [hU], by rw [hU]; exact hPc, va_K.moved hW.alike C.2.2.2.2.2.1, hDc.weaken (fun _ _ _ _ => trivial), by
      rw [hU]
      exact C.2.2.2.2.2.2.2.2.2.2.1.1 _ _ _ _ hF (C.2.2.2.2.2.2.2.2.2.2.1.2.1 _ s U _ hW (C.2.2.2.2.2.2.2.2.2.2.1.2.2 _ _ _ _ hS.2.1 C.2.2.2.2.2.2.2.2.2.2.2))⟩
  exact vq_call hr hS (fun q _ h => hF q h) hF (fun v w H1 locs1 hp hP1 hD1 hz1 hk1 hS1 => kk v w hp C H1 locs1 ls (hP.keep hk1) hD hS1 hl)
end XCALL
