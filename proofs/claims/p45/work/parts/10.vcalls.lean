/-! contracts over V's worlds, and calls -/
theorem va_P.left {D : va_G} {cl : List vw_C} {w1 w2 : va_W} {H : Heap} (h : va_P D cl (w1 ++ w2) H) : va_P D cl w1 H := fun k q hk => h k q (by rw [List.getElem?_append_left (List.getElem?_eq_some_iff.mp hk).1]; exact hk)
theorem va_P.right {D : va_G} {cl : List vw_C} {w1 w2 : va_W} {H : Heap} (h : va_P D cl (w1 ++ w2) H) : va_P D cl w2 H := fun k q hk => h (w1.length + k) q (by rw [List.getElem?_append_right (by omega)]; simpa using hk)
theorem va_D.left {A : Nat → Prop} {w1 w2 : va_W} (h : va_D A (w1 ++ w2)) : va_D A w1 := by
  have g : ∀ (k : Nat) (q : Nat × va_E), w1[k]? = some q → (w1 ++ w2)[k]? = some q := fun k q hk => by rw [List.getElem?_append_left (List.getElem?_eq_some_iff.mp hk).1]; exact hk
  exact ⟨fun i j p q hi hj e => h.1 i j p q (g i p hi) (g j q hj) e, fun k q hk => h.2 k q (g k q hk)⟩
theorem va_D.right {A : Nat → Prop} {w1 w2 : va_W} (h : va_D A (w1 ++ w2)) : va_D A w2 := by
  have g : ∀ (k : Nat) (q : Nat × va_E), w2[k]? = some q → (w1 ++ w2)[w1.length + k]? = some q := fun k q hk => by rw [List.getElem?_append_right (by omega)]; simpa using hk
  exact ⟨fun i j p q hi hj e => by have := h.1 _ _ p q (g i p hi) (g j q hj) e; omega, fun k q hk => h.2 _ q (g k q hk)⟩
theorem va_D.apart {A : Nat → Prop} {w1 w2 : va_W} (h : va_D A (w1 ++ w2)) : ∀ (i j : Nat) (p q : Nat × va_E), w1[i]? = some p → w2[j]? = some q → p.1 ≠ q.1 := by
  intro i j p q hi hj e
  have h1 : (w1 ++ w2)[i]? = some p := by rw [List.getElem?_append_left (List.getElem?_eq_some_iff.mp hi).1]; exact hi
  have h2 : (w1 ++ w2)[w1.length + j]? = some q := by rw [List.getElem?_append_right (by omega)]; simpa using hj
  have h3 := h.1 _ _ p q h1 h2 e
  have h4 := (List.getElem?_eq_some_iff.mp hi).1
  omega
theorem va_P.keepO {D : va_G} {wc wr : va_W} {H H1 : Heap} (h : va_P D vwCl wr H) (hap : ∀ (i j : Nat) (p q : Nat × va_E), wr[i]? = some p → wc[j]? = some q → p.1 = q.1 → False) (hk : ∀ q : Nat, q < H.size → ¬ va_A wc H.size q → H1[q]? = H[q]?) : va_P D vwCl wr H1 := fun k q hq => (h k q hq).kept (hk q.1 (h k q hq).lt (by
  rintro (⟨j, e, z⟩ | z)
  · exact hap k j _ _ hq z rfl
  · have := (h k q hq).lt; omega))
theorem joinA {D : va_G} {wc w wr : va_W} {H : Heap} (h1 : va_D (va_A wc H.size) w) (hr : va_P D vwCl wr H) (hap : ∀ (i j : Nat) (p q : Nat × va_E), wr[i]? = some p → wc[j]? = some q → p.1 = q.1 → False) : ∀ (i j : Nat) (p q : Nat × va_E), w[i]? = some p → wr[j]? = some q → p.1 ≠ q.1 := by
  intro i j p q hi hj e
  rcases h1.2 i p hi with ⟨x, y, z⟩ | z
  · exact hap j x _ _ hj z e.symm
  · have := (hr j q hj).lt; omega
theorem place_of {ws wc : va_W} {is : List Nat} (h : is.map (fun (i : Nat) => ws[i]?) = wc.map some) {k : Nat} {q : Nat × va_E} (hk : wc[k]? = some q) : ∃ i : Nat, ws[i]? = some q := by
  have h2 : (wc.map some)[k]? = some (some q) := by rw [List.getElem?_map, hk]; rfl
  rw [← h, List.getElem?_map] at h2
  cases hi : is[k]? with
  | none => rw [hi] at h2; cases h2
  | some i => rw [hi] at h2; exact ⟨i, Option.some.inj h2⟩
theorem va_P.places {D : va_G} {cl : List vw_C} {ws wc : va_W} {is : List Nat} {H : Heap} (hP : va_P D cl ws H) (h : is.map (fun (i : Nat) => ws[i]?) = wc.map some) : va_P D cl wc H := fun k q hk => by
  obtain ⟨i, hi⟩ := place_of h hk
  exact hP i q hi

def QV (D : va_G) (cA : Nat → ClassId) (Post : Option Value → vWd → Prop) (A : Nat → Prop) : Array Value → State → Outcome → State → Prop := fun _ st oc t => (∃ (v : Option Value) (w : vWd), oc = .returned v ∧ Post v w ∧ va_P D vwCl (tw cA w) t.heap ∧ va_K D vwCl (tyL cA) t ∧ va_D A (tw cA w)) ∧ va_F A st t
def PV (E : EV) (D : va_G) (cA : Nat → ClassId) (as : List Value) (ws : vWd) (sz : Nat) : Array Value → State → Prop := va_Pc as (fun U => U.heap.size = sz ∧ va_P D vwCl (tw cA ws) U.heap ∧ va_K D vwCl (tyL cA) U ∧ va_D (fun _ => True) (tw cA ws) ∧ E (va_A (tw cA ws) sz) U U.heap)
theorem PV.blind {E : EV} (hE : Stb E) {D : va_G} {cA : Nat → ClassId} {as : List Value} {ws : vWd} {sz : Nat} : FrameBlind (PV E D cA as ws sz) := by
  intro a U g mk h
  obtain ⟨h1, h2, h3, h4, h5, h6⟩ := h
  exact ⟨h1, h2, h3, va_K.moved (u := U) (U := U.calling g mk a) (Vm.Alike.refl U.vm) h4, h5, hE.2.1 _ U (U.calling g mk a) _ (State.WarmedH.refl U) h6⟩
/-- the contract of a method that returns -/
def MC (E : EV) (y : MethodName) (S : SI) (as : List Value) (ws : vWd) (Post : Option Value → vWd → Prop) : Prop := ∀ (l : Launch), l.stackTraces = false → ∀ (D : va_G) (cA : Nat → ClassId) (sz : Nat), Met l y (.code y S.1 S.2.2.1 S.2.2.2.1 :: WA) S.2.2.2.2 (PV E D cA as ws sz) (QV D cA Post (va_A (tw cA ws) sz)) S.2.2.2.2.cells S.2.2.2.2.slots (va_A (tw cA ws) sz)
/-- a body may end by a return -/
def RetOK (K : KT) (mc ms : Nat) (Post : Option Value → vWd → Prop) : Prop := match K with
  | (p, l, e, s, m, args, below, meth, c, D, cA, A, Q, _) => ∀ (R : Room) (H : Heap) (locs : List Loc) (g : JFrame), W p l e R s m args below meth c H locs mc ms (MQ below (QV D cA Post A) args s mc ms A) g → W p l e R s m args below meth c H locs mc ms Q g
def evK (K : KT) : EV := K.2.2.2.2.2.2.2.2.2.2.2.2.2
theorem lv_args_cat : ∀ (vs : List Value) (j : Nat), (∀ v ∈ vs, v.category = 1) → ∀ (i : Nat) (v : Value), vs[i]? = some v → (j + i, v) ∈ lv_args j vs
  | [], _, _, i, v, h => by simp at h
  | a :: vs, j, hc, i, v, h => by
    have ha : ¬ a.category = 2 := by have := hc a List.mem_cons_self; omega
    simp only [lv_args, if_neg ha]
    cases i with
    | zero => simp at h; subst h; exact List.mem_cons_self
    | succ i =>
      have h2 := lv_args_cat vs (j + 1) (fun w hw => hc w (List.mem_cons_of_mem _ hw)) i v (by simpa using h)
      rw [show j + (i + 1) = j + 1 + i by omega]
      exact List.mem_cons_of_mem _ h2
theorem lg_sl_cat : ∀ (vs : List Value), (∀ v ∈ vs, v.category = 1) → (lg_sl vs).length = vs.length
  | [], _ => rfl
  | a :: vs, hc => by
    have ha : ¬ a.category = 2 := by have := hc a List.mem_cons_self; omega
    have := lg_sl_cat vs (fun w hw => hc w (List.mem_cons_of_mem _ hw))
    unfold lg_sl at this ⊢
    simp [ha, this]
theorem lvO.entry {vs : List Value} {n r : Nat} (hc : ∀ v ∈ vs, v.category = 1) (hn : vs.length ≤ n) : lvO ((lg_sl vs ++ List.replicate (n - (lg_sl vs).length) Slot.unset).toArray) n (vs.map some ++ List.replicate r none) := by
  have h := lv_entry vs (n := n) (by rw [lg_sl_cat vs hc]; exact hn)
  refine ⟨h.1, h.2.1, fun i v hi => ?_⟩
  have hv : vs[i]? = some v := by
    by_cases hl : i < vs.length
    · rw [List.getElem?_append_left (by simpa using hl)] at hi
      simpa using hi
    · rw [List.getElem?_append_right (by simpa using hl)] at hi
      have := List.mem_of_getElem? hi
      rw [List.mem_replicate] at this
      exact absurd this.2 (by simp)
  have h1 := lv_args_cat vs 0 hc i v hv
  rw [Nat.zero_add] at h1
  exact ⟨h.2.2 _ h1, hc v (List.mem_of_getElem? hv)⟩
theorem MC.of {E : EV} (hE : Stb E) {y : MethodName} {S : SI} {as : List Value} {ws : vWd} {Post : Option Value → vWd → Prop} (L0 : List (Option Value)) (r : Nat) (hL0 : as.map some ++ List.replicate r none = L0) (hy : plainName y.cls = true) (hS : y.cls = S.2.1) (hc : ∀ v ∈ as, v.category = 1) (hm : as.length ≤ S.2.2.1)
    (body : ∀ K : KT, evK K = E → RetOK K S.2.2.2.2.cells S.2.2.2.2.slots Post → V K S 0 0 ws L0 [] 0) : MC E y S as ws Post := by
  subst hL0
  intro l hst D cA sz
  refine Met.ofW (cc := S.1) (maxL := S.2.2.1) (ret := S.2.2.2.1) hy rfl ?_
  intro p e s m args below meth c s₁ B hml hv
  obtain ⟨rfl, hsz, hP, hK, hD0, hEv⟩ := hv
  have hts := atoms_spec (ws := .code y S.1 S.2.2.1 S.2.2.2.1 :: WA) B.pre
  have hown : s.vm.findClass y.cls = some m.cls := findClass_of_methodNamed B.named
  subst hsz
  rw [lg_entry_eq]
  exact body (p, l, e, s, m, as.toArray, below, meth, c, D, cA, va_A (tw cA ws) s.heap.size, MQ below (QV D cA Post (va_A (tw cA ws) s.heap.size)) as.toArray s S.2.2.2.2.cells S.2.2.2.2.slots (va_A (tw cA ws) s.heap.size), E) rfl (fun _ _ _ _ h => h)
    ⟨B.exec, B.bytes, hml, hS ▸ hown, fun w hw => hts w (List.mem_cons_of_mem _ hw), hK, fun q h => Or.inr h, B.notSynchronized, B.returns, hst, hE, hEv⟩ s.heap [] _ hP hD0.self va_S.rf (lvO.entry hc hm)
section VCALL
variable {K : KT} {S : SI} {k n : Nat} {ws : vWd} {L : List (Option Value)} {st : List Value} {pc : Nat} {Post : Option Value → vWd → Prop}
theorem V_iret {mc ms : Nat} {x : Int32} (hR : RetOK K mc ms Post) (hs : S.2.2.2.1 = some .int) (hk : k ≤ mc) (hn : n ≤ ms) (d : decode S.1 pc = .ok (.ireturn, 1)) (hp : Post (some (.int x)) ws) : V K S k n ws L [.int x] pc := by
  obtain ⟨p, l, e, s, m, args, below, meth, c, D, cA, A, Q, E⟩ := K
  intro C H locs ls hP hD hS hl
  refine W.widen hk hn (hR _ H locs _ ?_)
  exact W.iret C.1 C.2.1 (C.2.2.2.2.2.2.2.2.1.trans hs) (fun t ht hW => ⟨⟨_, ws, rfl, hp, by rw [ht]; exact hP, va_K.moved hW.alike C.2.2.2.2.2.1, hD⟩, hS.F ht⟩) hS.2.2 d C.2.2.2.2.2.2.2.1
theorem V_zret {mc ms : Nat} {b : Bool} (hR : RetOK K mc ms Post) (hs : S.2.2.2.1 = some .boolean) (hk : k ≤ mc) (hn : n ≤ ms) (d : decode S.1 pc = .ok (.ireturn, 1)) (hp : Post (some (.int (zI (bz b)))) ws) : V K S k n ws L [.int (zI (bz b))] pc := by
  obtain ⟨p, l, e, s, m, args, below, meth, c, D, cA, A, Q, E⟩ := K
  intro C H locs ls hP hD hS hl
  refine W.widen hk hn (hR _ H locs _ ?_)
  exact W.zret C.1 C.2.1 (C.2.2.2.2.2.2.2.2.1.trans hs) (by cases b <;> decide) (fun t ht hW => ⟨⟨_, ws, rfl, hp, by rw [ht]; exact hP, va_K.moved hW.alike C.2.2.2.2.2.1, hD⟩, hS.F ht⟩) hS.2.2 d C.2.2.2.2.2.2.2.1
theorem V_vret {mc ms : Nat}  (hR : RetOK K mc ms Post) (hs : S.2.2.2.1 = none) (hk : k ≤ mc) (hn : n ≤ ms) (d : decode S.1 pc = .ok (.return_, 1)) (hp : Post none ws) : V K S k n ws L [] pc := by
  obtain ⟨p, l, e, s, m, args, below, meth, c, D, cA, A, Q, E⟩ := K
  intro C H locs ls hP hD hS hl
  refine W.widen hk hn (hR _ H locs _ ?_)
  exact W.vret C.1 C.2.1 (C.2.2.2.2.2.2.2.2.1.trans hs) (fun t ht hW => ⟨⟨_, ws, rfl, hp, by rw [ht]; exact hP, va_K.moved hW.alike C.2.2.2.2.2.1, hD⟩, hS.F ht⟩) hS.2.2 d C.2.2.2.2.2.2.2.1
/-- what the tables say of a callee; and of a place that calls it -/
def MOK (y : MethodName) (S : SI) (n : Nat) : Prop := Cond.code y S.1 S.2.2.1 S.2.2.2.1 ∈ WA ∧ Cond.initialized y.cls ∈ WA ∧ (y.cls ≠ "java/lang/invoke/MethodHandle" ∧ y.cls ≠ "java/lang/invoke/VarHandle" ∧ (parseMethodDescriptor y.desc).map (fun d => d.parameters.length) = some n)
def ROK (S S' : SI) : Prop := S'.2.2.2.2.frames + 1 ≤ S.2.2.2.2.frames ∧ 8 + (S'.2.2.1 + 11) + S'.2.2.2.2.locals ≤ S.2.2.2.2.locals
theorem vq_call {p : Program} {l : Launch} {e : Env} {R : Room} {s : State} {m : MethodId} {args : Array Value} {below : List Frame} {meth : Method} {c : Code} {H : Heap} {locs : List Loc} {cells slots : Nat} {Q : State → Prop} {pc : Nat} {ls : Array Slot} {rest st0 : List Value} {a : Array Value} {A0 A1 : Nat → Prop} {H0 : Heap} {mc ms : Nat} {free : Addr → Prop} {D : va_G} {cA : Nat → ClassId} {Post : Option Value → vWd → Prop}
    (hr : va_Run p l e R s m args below meth c H locs cells slots mc ms (F0 m pc ls st0) rest (QV D cA Post A1 a) free) (hS : va_S A0 H0 H locs) (hA : ∀ q, q < H.size → A1 q → A0 q) (hf : ∀ q, free q → A0 q)
    (kk : ∀ (v : Option Value) (w : vWd) (H1 : Heap) (locs1 : List Loc), Post v w → va_P D vwCl (tw cA w) H1 → va_D A1 (tw cA w) → H.size ≤ H1.size → (∀ q : Nat, q < H.size → ¬ A1 q → H1[q]? = H[q]?) → va_S A0 H0 H1 locs1 → W p l e R s m args below meth c H1 locs1 (cells + mc) (slots + ms) Q (F0 m (pc + 3) ls (v.toList ++ rest))) : W p l e R s m args below meth c H locs cells slots Q (F0 m pc ls st0) := by
  intro T hT X
  obtain ⟨v0, st₀, t, T', Lo, h0, X', hL, e1, e2, ⟨⟨v, w, hv, hp, hPw, -, hDw⟩, hz, hk⟩, st⟩ := hr T hT X
  cases hv
  rw [h0] at hz hk
  obtain ⟨t2, a1, b1⟩ := kk v0 w T'.heap (locs ++ Lo) hp (by rw [e1]; exact hPw) hDw (by rw [e1]; exact hz) (fun q h1 h2 => by rw [e1]; exact hk q h1 h2)
    ⟨Nat.le_trans hS.1 (by rw [e1]; exact hz), fun q h1 h2 => by rw [e1, hk q (Nat.lt_of_lt_of_le h1 hS.1) (fun z => h2 (hA q (Nat.lt_of_lt_of_le h1 hS.1) z))]; exact hS.2.1 q h1 h2, fun q hq => by
      rcases List.mem_append.mp hq with h | h
      · exact hS.2.2 q h
      · exact hf _ (hL q h)⟩ T' rfl X'
  exact ⟨t2, st t2 a1, b1⟩
theorem va_A_sub {A0 : Nat → Prop} {ws : va_W} {H0 H : Heap} {locs : List Loc} (hD : va_D A0 ws) (hS : va_S A0 H0 H locs) (hA : ∀ q, H0.size ≤ q → A0 q) : ∀ q, va_A ws H.size q → A0 q := by
  rintro q (⟨k, e, h⟩ | h)
  · exact hD.2 k (q, e) h
  · exact hA q (Nat.le_trans hS.1 h)
theorem va_P.keep {D : va_G} {ws : va_W} {H H1 : Heap} (h : va_P D vwCl ws H) (hk : ∀ q : Nat, q < H.size → ¬ va_A [] H.size q → H1[q]? = H[q]?) : va_P D vwCl ws H1 := fun k q hq => (h k q hq).kept (hk q.1 (h k q hq).lt (by
  rintro (⟨j, e, z⟩ | z)
  · simp at z
  · have := (h k q hq).lt; omega))
theorem V_callVF {E : EV} {y : MethodName} {S' : SI} {As stk : List Value} {b : Nat} {idx : Nat} {q0 ci : Nat} {fs : List Value} {T : u_T} {N : Nat} (hb : ws[q0]? = some (b, .inr (ci, fs))) (hc : vwCl[ci]? = some (y.cls, T, N)) (hE : evK K = E) (hM : MC E y S' (.ref b :: As) ws Post) (hM0 : MOK y S' As.length) (hlk : Cond.methodLink S.2.1 idx y ∈ WA) (hin : Cond.instanceMethod y ∈ WA) (hsel : Cond.selects y.cls y y ∈ WA) (hR : ROK S S') (hstk : stk = As.reverse ++ .ref b :: st) (hcat : (st.map fun v => v.category).sum ≤ 8) (hroom : k + S'.2.2.2.2.cells ≤ S.2.2.2.2.cells ∧ n + S'.2.2.2.2.slots ≤ S.2.2.2.2.slots) (d : decode S.1 pc = .ok (.invokevirtual idx, 3))
    (kk : ∀ (v : Option Value) (w : vWd), Post v w → V K S (k + S'.2.2.2.2.cells) (n + S'.2.2.2.2.slots) w L (v.toList ++ st) (pc + 3)) : V K S k n ws L stk pc := by
  obtain ⟨p, l, e, s, m, args, below, meth, c, D, cA, A, Q, E0⟩ := K
  have hE' : E0 = E := hE
  subst hE'
  subst hstk
  intro C H locs ls hP hD hS hl
  have hPc := hP
  have hDc := hD
  have hF := va_A_sub hD hS C.2.2.2.2.2.2.1
  have hr : va_Run p l e S.2.2.2.2 s m args below meth c H locs k n S'.2.2.2.2.cells S'.2.2.2.2.slots (F0 m pc ls (As.reverse ++ .ref b :: st)) st (QV D cA Post (va_A (tw cA ws) H.size) (.ref b :: As).toArray) (va_A (tw cA ws) H.size) := by
    refine va_runV (As := As) (rest := st) (n := As.length) (Ts := WA) ⟨C.1, C.2.1, C.2.2.1, C.2.2.2.1, C.2.2.2.2.1⟩ (hM l C.2.2.2.2.2.2.2.2.2.1 D cA H.size) ⟨(callB_of As.length C.2.2.2.2.1 (wa_goodIn0 hM0.1) rfl rfl rfl (C.2.2.2.2.1 _ hM0.2.1) (C.2.2.2.2.1 _ hlk) hM0.2.2 hR), C.2.2.2.2.1 _ hin, C.2.2.2.2.1 _ hsel⟩ ⟨PV.blind C.2.2.2.2.2.2.2.2.2.2.1, va_recv C.2.2.2.2.2.1 hP hc (tw_get hb), fun U hU hW => ?_⟩ rfl rfl hl.1 rfl (lv_room hcat) d hroom
    exact ⟨rfl, by rw [hU], by rw [hU]; exact hPc, va_K.moved hW.alike C.2.2.2.2.2.1, hDc.weaken (fun _ _ _ _ => trivial), by
      rw [hU]
      exact C.2.2.2.2.2.2.2.2.2.2.1.1 _ _ _ _ hF (C.2.2.2.2.2.2.2.2.2.2.1.2.1 _ s U _ hW (C.2.2.2.2.2.2.2.2.2.2.1.2.2 _ _ _ _ hS.2.1 C.2.2.2.2.2.2.2.2.2.2.2))⟩
  refine vq_call hr hS (fun q _ h => hF q h) hF (fun v w H1 locs1 hp hP1 hD1 hz1 hk1 hS1 => kk v w hp C H1 locs1 ls ?_ ?_ hS1 hl)
  · exact hP1
  · exact hD1.weaken (fun j q _ h => hF q.1 h)
theorem V_callVE {E : EV} {y : MethodName} {S' : SI} {As stk : List Value} {b : Nat} {idx : Nat} {q0 ci : Nat} {fs : List Value} {T : u_T} {N : Nat} (hb : ws[q0]? = some (b, .inr (ci, fs))) (hc : vwCl[ci]? = some (y.cls, T, N)) (hE : evK K = E) (hM : MC E y S' (.ref b :: As) [] Post) (hM0 : MOK y S' As.length) (hlk : Cond.methodLink S.2.1 idx y ∈ WA) (hin : Cond.instanceMethod y ∈ WA) (hsel : Cond.selects y.cls y y ∈ WA) (hR : ROK S S') (hstk : stk = As.reverse ++ .ref b :: st) (hcat : (st.map fun v => v.category).sum ≤ 8) (hroom : k + S'.2.2.2.2.cells ≤ S.2.2.2.2.cells ∧ n + S'.2.2.2.2.slots ≤ S.2.2.2.2.slots) (d : decode S.1 pc = .ok (.invokevirtual idx, 3))
    (kk : ∀ (v : Option Value) (w : vWd), Post v w → V K S (k + S'.2.2.2.2.cells) (n + S'.2.2.2.2.slots) ws L (v.toList ++ st) (pc + 3)) : V K S k n ws L stk pc := by
  obtain ⟨p, l, e, s, m, args, below, meth, c, D, cA, A, Q, E0⟩ := K
  have hE' : E0 = E := hE
  subst hE'
  subst hstk
  intro C H locs ls hP hD hS hl
  have hPc : va_P D vwCl (tw cA []) H := fun k q h => by simp [tw] at h
  have hDc : va_D A (tw cA []) := ⟨fun i j p q h => by simp [tw] at h, fun k q h => by simp [tw] at h⟩
  have hF := va_A_sub hDc hS C.2.2.2.2.2.2.1
  have hr : va_Run p l e S.2.2.2.2 s m args below meth c H locs k n S'.2.2.2.2.cells S'.2.2.2.2.slots (F0 m pc ls (As.reverse ++ .ref b :: st)) st (QV D cA Post (va_A (tw cA []) H.size) (.ref b :: As).toArray) (va_A (tw cA []) H.size) := by
    refine va_runV (As := As) (rest := st) (n := As.length) (Ts := WA) ⟨C.1, C.2.1, C.2.2.1, C.2.2.2.1, C.2.2.2.2.1⟩ (hM l C.2.2.2.2.2.2.2.2.2.1 D cA H.size) ⟨(callB_of As.length C.2.2.2.2.1 (wa_goodIn0 hM0.1) rfl rfl rfl (C.2.2.2.2.1 _ hM0.2.1) (C.2.2.2.2.1 _ hlk) hM0.2.2 hR), C.2.2.2.2.1 _ hin, C.2.2.2.2.1 _ hsel⟩ ⟨PV.blind C.2.2.2.2.2.2.2.2.2.2.1, va_recv C.2.2.2.2.2.1 hP hc (tw_get hb), fun U hU hW => ?_⟩ rfl rfl hl.1 rfl (lv_room hcat) d hroom
    exact ⟨rfl, by rw [hU], by rw [hU]; exact hPc, va_K.moved hW.alike C.2.2.2.2.2.1, hDc.weaken (fun _ _ _ _ => trivial), by
      rw [hU]
      exact C.2.2.2.2.2.2.2.2.2.2.1.1 _ _ _ _ hF (C.2.2.2.2.2.2.2.2.2.2.1.2.1 _ s U _ hW (C.2.2.2.2.2.2.2.2.2.2.1.2.2 _ _ _ _ hS.2.1 C.2.2.2.2.2.2.2.2.2.2.2))⟩
  refine vq_call hr hS (fun q _ h => hF q h) hF (fun v w H1 locs1 hp hP1 hD1 hz1 hk1 hS1 => kk v w hp C H1 locs1 ls ?_ ?_ hS1 hl)
  · exact hP.keep hk1
  · exact hD
theorem V_callVA {E : EV} {y : MethodName} {S' : SI} {As stk : List Value} {b : Nat} {idx : Nat} {q0 ci : Nat} {fs : List Value} {T : u_T} {N : Nat} (hb : ws[q0]? = some (b, .inr (ci, fs))) (hc : vwCl[ci]? = some (y.cls, T, N)) {wc wr : vWd} (hw : ws = wc ++ wr) (hE : evK K = E) (hM : MC E y S' (.ref b :: As) wc Post) (hM0 : MOK y S' As.length) (hlk : Cond.methodLink S.2.1 idx y ∈ WA) (hin : Cond.instanceMethod y ∈ WA) (hsel : Cond.selects y.cls y y ∈ WA) (hR : ROK S S') (hstk : stk = As.reverse ++ .ref b :: st) (hcat : (st.map fun v => v.category).sum ≤ 8) (hroom : k + S'.2.2.2.2.cells ≤ S.2.2.2.2.cells ∧ n + S'.2.2.2.2.slots ≤ S.2.2.2.2.slots) (d : decode S.1 pc = .ok (.invokevirtual idx, 3))
    (kk : ∀ (v : Option Value) (w : vWd), Post v w → V K S (k + S'.2.2.2.2.cells) (n + S'.2.2.2.2.slots) (w ++ wr) L (v.toList ++ st) (pc + 3)) : V K S k n ws L stk pc := by
  obtain ⟨p, l, e, s, m, args, below, meth, c, D, cA, A, Q, E0⟩ := K
  have hE' : E0 = E := hE
  subst hE'
  subst hstk
  intro C H locs ls hP hD hS hl
  subst hw
  rw [tw_app] at hP hD
  have hPc : va_P D vwCl (tw cA wc) H := hP.left
  have hPr : va_P D vwCl (tw cA wr) H := hP.right
  have hDc : va_D A (tw cA wc) := hD.left
  have hDr : va_D A (tw cA wr) := hD.right
  have hap := hD.apart
  have hF := va_A_sub hDc hS C.2.2.2.2.2.2.1
  have hr : va_Run p l e S.2.2.2.2 s m args below meth c H locs k n S'.2.2.2.2.cells S'.2.2.2.2.slots (F0 m pc ls (As.reverse ++ .ref b :: st)) st (QV D cA Post (va_A (tw cA wc) H.size) (.ref b :: As).toArray) (va_A (tw cA wc) H.size) := by
    refine va_runV (As := As) (rest := st) (n := As.length) (Ts := WA) ⟨C.1, C.2.1, C.2.2.1, C.2.2.2.1, C.2.2.2.2.1⟩ (hM l C.2.2.2.2.2.2.2.2.2.1 D cA H.size) ⟨(callB_of As.length C.2.2.2.2.1 (wa_goodIn0 hM0.1) rfl rfl rfl (C.2.2.2.2.1 _ hM0.2.1) (C.2.2.2.2.1 _ hlk) hM0.2.2 hR), C.2.2.2.2.1 _ hin, C.2.2.2.2.1 _ hsel⟩ ⟨PV.blind C.2.2.2.2.2.2.2.2.2.2.1, va_recv (ws := tw cA _) C.2.2.2.2.2.1 (by rw [tw_app]; exact hP) hc (tw_get hb), fun U hU hW => ?_⟩ rfl rfl hl.1 rfl (lv_room hcat) d hroom
    exact ⟨rfl, by rw [hU], by rw [hU]; exact hPc, va_K.moved hW.alike C.2.2.2.2.2.1, hDc.weaken (fun _ _ _ _ => trivial), by
      rw [hU]
      exact C.2.2.2.2.2.2.2.2.2.2.1.1 _ _ _ _ hF (C.2.2.2.2.2.2.2.2.2.2.1.2.1 _ s U _ hW (C.2.2.2.2.2.2.2.2.2.2.1.2.2 _ _ _ _ hS.2.1 C.2.2.2.2.2.2.2.2.2.2.2))⟩
  refine vq_call hr hS (fun q _ h => hF q h) hF (fun v w H1 locs1 hp hP1 hD1 hz1 hk1 hS1 => kk v w hp C H1 locs1 ls ?_ ?_ hS1 hl)
  · rw [tw_app]; exact va_P.app hP1 (hPr.keepO (fun _ _ _ _ h1 h2 h3 => hap _ _ _ _ h2 h1 h3.symm) hk1)
  · rw [tw_app]; exact va_D.app (hD1.weaken (fun j q _ h => hF q.1 h)) hDr (joinA hD1 hPr (fun _ _ _ _ h1 h2 h3 => hap _ _ _ _ h2 h1 h3.symm))
theorem V_callVB {E : EV} {y : MethodName} {S' : SI} {As stk : List Value} {b : Nat} {idx : Nat} {q0 ci : Nat} {fs : List Value} {T : u_T} {N : Nat} (hb : ws[q0]? = some (b, .inr (ci, fs))) (hc : vwCl[ci]? = some (y.cls, T, N)) {wc wr : vWd} (hw : ws = wr ++ wc) (hE : evK K = E) (hM : MC E y S' (.ref b :: As) wc Post) (hM0 : MOK y S' As.length) (hlk : Cond.methodLink S.2.1 idx y ∈ WA) (hin : Cond.instanceMethod y ∈ WA) (hsel : Cond.selects y.cls y y ∈ WA) (hR : ROK S S') (hstk : stk = As.reverse ++ .ref b :: st) (hcat : (st.map fun v => v.category).sum ≤ 8) (hroom : k + S'.2.2.2.2.cells ≤ S.2.2.2.2.cells ∧ n + S'.2.2.2.2.slots ≤ S.2.2.2.2.slots) (d : decode S.1 pc = .ok (.invokevirtual idx, 3))
    (kk : ∀ (v : Option Value) (w : vWd), Post v w → V K S (k + S'.2.2.2.2.cells) (n + S'.2.2.2.2.slots) (wr ++ w) L (v.toList ++ st) (pc + 3)) : V K S k n ws L stk pc := by
  obtain ⟨p, l, e, s, m, args, below, meth, c, D, cA, A, Q, E0⟩ := K
  have hE' : E0 = E := hE
  subst hE'
  subst hstk
  intro C H locs ls hP hD hS hl
  subst hw
  rw [tw_app] at hP hD
  have hPc : va_P D vwCl (tw cA wc) H := hP.right
  have hPr : va_P D vwCl (tw cA wr) H := hP.left
  have hDc : va_D A (tw cA wc) := hD.right
  have hDr : va_D A (tw cA wr) := hD.left
  have hap := hD.apart
  have hF := va_A_sub hDc hS C.2.2.2.2.2.2.1
  have hr : va_Run p l e S.2.2.2.2 s m args below meth c H locs k n S'.2.2.2.2.cells S'.2.2.2.2.slots (F0 m pc ls (As.reverse ++ .ref b :: st)) st (QV D cA Post (va_A (tw cA wc) H.size) (.ref b :: As).toArray) (va_A (tw cA wc) H.size) := by
    refine va_runV (As := As) (rest := st) (n := As.length) (Ts := WA) ⟨C.1, C.2.1, C.2.2.1, C.2.2.2.1, C.2.2.2.2.1⟩ (hM l C.2.2.2.2.2.2.2.2.2.1 D cA H.size) ⟨(callB_of As.length C.2.2.2.2.1 (wa_goodIn0 hM0.1) rfl rfl rfl (C.2.2.2.2.1 _ hM0.2.1) (C.2.2.2.2.1 _ hlk) hM0.2.2 hR), C.2.2.2.2.1 _ hin, C.2.2.2.2.1 _ hsel⟩ ⟨PV.blind C.2.2.2.2.2.2.2.2.2.2.1, va_recv (ws := tw cA _) C.2.2.2.2.2.1 (by rw [tw_app]; exact hP) hc (tw_get hb), fun U hU hW => ?_⟩ rfl rfl hl.1 rfl (lv_room hcat) d hroom
    exact ⟨rfl, by rw [hU], by rw [hU]; exact hPc, va_K.moved hW.alike C.2.2.2.2.2.1, hDc.weaken (fun _ _ _ _ => trivial), by
      rw [hU]
      exact C.2.2.2.2.2.2.2.2.2.2.1.1 _ _ _ _ hF (C.2.2.2.2.2.2.2.2.2.2.1.2.1 _ s U _ hW (C.2.2.2.2.2.2.2.2.2.2.1.2.2 _ _ _ _ hS.2.1 C.2.2.2.2.2.2.2.2.2.2.2))⟩
  refine vq_call hr hS (fun q _ h => hF q h) hF (fun v w H1 locs1 hp hP1 hD1 hz1 hk1 hS1 => kk v w hp C H1 locs1 ls ?_ ?_ hS1 hl)
  · rw [tw_app]; exact va_P.app (hPr.keepO (fun _ _ _ _ h1 h2 h3 => hap _ _ _ _ h1 h2 h3) hk1) hP1
  · rw [tw_app]; exact va_D.app hDr (hD1.weaken (fun j q _ h => hF q.1 h)) (fun i j x y hx hy hxy => joinA hD1 hPr (fun _ _ _ _ h1 h2 h3 => hap _ _ _ _ h1 h2 h3) j i y x hy hx hxy.symm)
theorem V_callVP {E : EV} {y : MethodName} {S' : SI} {As stk : List Value} {b : Nat} {idx : Nat} {q0 ci : Nat} {fs : List Value} {T : u_T} {N : Nat} (hb : ws[q0]? = some (b, .inr (ci, fs))) (hc : vwCl[ci]? = some (y.cls, T, N)) {wc wr : vWd} (isC isR : List Nat) (hC : isC.map (fun (i : Nat) => ws[i]?) = wc.map some) (hRr : isR.map (fun (i : Nat) => ws[i]?) = wr.map some) (hnn : va_nd isR = true) (hdis : ∀ i ∈ isR, i ∉ isC) (hnc : va_nd isC = true) (hE : evK K = E) (hM : MC E y S' (.ref b :: As) wc Post) (hM0 : MOK y S' As.length) (hlk : Cond.methodLink S.2.1 idx y ∈ WA) (hin : Cond.instanceMethod y ∈ WA) (hsel : Cond.selects y.cls y y ∈ WA) (hR : ROK S S') (hstk : stk = As.reverse ++ .ref b :: st) (hcat : (st.map fun v => v.category).sum ≤ 8) (hroom : k + S'.2.2.2.2.cells ≤ S.2.2.2.2.cells ∧ n + S'.2.2.2.2.slots ≤ S.2.2.2.2.slots) (d : decode S.1 pc = .ok (.invokevirtual idx, 3))
    (kk : ∀ (v : Option Value) (w : vWd), Post v w → V K S (k + S'.2.2.2.2.cells) (n + S'.2.2.2.2.slots) (wr ++ w) L (v.toList ++ st) (pc + 3)) : V K S k n ws L stk pc := by
  obtain ⟨p, l, e, s, m, args, below, meth, c, D, cA, A, Q, E0⟩ := K
  have hE' : E0 = E := hE
  subst hE'
  subst hstk
  intro C H locs ls hP hD hS hl
  have hC' := tw_places (cA := cA) hC
  have hR' := tw_places (cA := cA) hRr
  have hPc : va_P D vwCl (tw cA wc) H := hP.places hC'
  have hDc0 : ∀ (j : Nat) (q : Nat × va_E), (tw cA wc)[j]? = some q → A q.1 := fun j q h => by
    obtain ⟨i, hi⟩ := place_of hC' h
    exact hD.2 i q hi
  have hF := va_free hD hS C.2.2.2.2.2.2.1 isC hC'
  have hDP : va_D (fun _ => True) (tw cA wc) := (hD.sub isC hnc hC').weaken (fun _ _ _ _ => trivial)
  have hr : va_Run p l e S.2.2.2.2 s m args below meth c H locs k n S'.2.2.2.2.cells S'.2.2.2.2.slots (F0 m pc ls (As.reverse ++ .ref b :: st)) st (QV D cA Post (va_A (tw cA wc) H.size) (.ref b :: As).toArray) (va_A (tw cA wc) H.size) := by
    refine va_runV (As := As) (rest := st) (n := As.length) (Ts := WA) ⟨C.1, C.2.1, C.2.2.1, C.2.2.2.1, C.2.2.2.2.1⟩ (hM l C.2.2.2.2.2.2.2.2.2.1 D cA H.size) ⟨(callB_of As.length C.2.2.2.2.1 (wa_goodIn0 hM0.1) rfl rfl rfl (C.2.2.2.2.1 _ hM0.2.1) (C.2.2.2.2.1 _ hlk) hM0.2.2 hR), C.2.2.2.2.1 _ hin, C.2.2.2.2.1 _ hsel⟩ ⟨PV.blind C.2.2.2.2.2.2.2.2.2.2.1, va_recv C.2.2.2.2.2.1 hP hc (tw_get hb), fun U hU hW => ?_⟩ rfl rfl hl.1 rfl (lv_room hcat) d hroom
    exact ⟨rfl, by rw [hU], by rw [hU]; exact hPc, va_K.moved hW.alike C.2.2.2.2.2.1, hDP, by
      rw [hU]
      exact C.2.2.2.2.2.2.2.2.2.2.1.1 _ _ _ _ hF (C.2.2.2.2.2.2.2.2.2.2.1.2.1 _ s U _ hW (C.2.2.2.2.2.2.2.2.2.2.1.2.2 _ _ _ _ hS.2.1 C.2.2.2.2.2.2.2.2.2.2.2))⟩
  refine vq_call hr hS (fun q _ h => hF q h) hF (fun v w H1 locs1 hp hP1 hD1 hz1 hk1 hS1 => kk v w hp C H1 locs1 ls ?_ ?_ hS1 hl)
  · rw [tw_app]; exact (va_join hP hD isC isR hC' hR' hnn hdis hk1 hF hP1 hD1).1
  · rw [tw_app]; exact (va_join hP hD isC isR hC' hR' hnn hdis hk1 hF hP1 hD1).2
theorem V_callSF {E : EV} {y : MethodName} {S' : SI} {As stk : List Value} {idx : Nat} (hE : evK K = E) (hM : MC E y S' As ws Post) (hM0 : MOK y S' As.length) (hlk : Cond.methodLink S.2.1 idx y ∈ WA) (hst' : Cond.static y ∈ WA) (hR : ROK S S') (hstk : stk = As.reverse ++ st) (hcat : (st.map fun v => v.category).sum ≤ 8) (hroom : k + S'.2.2.2.2.cells ≤ S.2.2.2.2.cells ∧ n + S'.2.2.2.2.slots ≤ S.2.2.2.2.slots) (d : decode S.1 pc = .ok (.invokestatic idx, 3))
    (kk : ∀ (v : Option Value) (w : vWd), Post v w → V K S (k + S'.2.2.2.2.cells) (n + S'.2.2.2.2.slots) w L (v.toList ++ st) (pc + 3)) : V K S k n ws L stk pc := by
  obtain ⟨p, l, e, s, m, args, below, meth, c, D, cA, A, Q, E0⟩ := K
  have hE' : E0 = E := hE
  subst hE'
  subst hstk
  intro C H locs ls hP hD hS hl
  have hPc := hP
  have hDc := hD
  have hF := va_A_sub hD hS C.2.2.2.2.2.2.1
  have hr : va_Run p l e S.2.2.2.2 s m args below meth c H locs k n S'.2.2.2.2.cells S'.2.2.2.2.slots (F0 m pc ls (As.reverse ++ st)) st (QV D cA Post (va_A (tw cA ws) H.size) As.toArray) (va_A (tw cA ws) H.size) := by
    refine va_runS (As := As) (rest := st) (n := As.length) (Ts := WA) ⟨C.1, C.2.1, C.2.2.1, C.2.2.2.1, C.2.2.2.2.1⟩ (hM l C.2.2.2.2.2.2.2.2.2.1 D cA H.size) ⟨(callB_of As.length C.2.2.2.2.1 (wa_goodIn0 hM0.1) rfl rfl rfl (C.2.2.2.2.1 _ hM0.2.1) (C.2.2.2.2.1 _ hlk) hM0.2.2 hR), C.2.2.2.2.1 _ hst'⟩ ⟨PV.blind C.2.2.2.2.2.2.2.2.2.2.1, fun U hU hW => ?_⟩ rfl rfl hl.1 rfl (lv_room hcat) d hroom
    exact ⟨rfl, by rw [hU], by rw [hU]; exact hPc, va_K.moved hW.alike C.2.2.2.2.2.1, hDc.weaken (fun _ _ _ _ => trivial), by
      rw [hU]
      exact C.2.2.2.2.2.2.2.2.2.2.1.1 _ _ _ _ hF (C.2.2.2.2.2.2.2.2.2.2.1.2.1 _ s U _ hW (C.2.2.2.2.2.2.2.2.2.2.1.2.2 _ _ _ _ hS.2.1 C.2.2.2.2.2.2.2.2.2.2.2))⟩
  refine vq_call hr hS (fun q _ h => hF q h) hF (fun v w H1 locs1 hp hP1 hD1 hz1 hk1 hS1 => kk v w hp C H1 locs1 ls ?_ ?_ hS1 hl)
  · exact hP1
  · exact hD1.weaken (fun j q _ h => hF q.1 h)
theorem V_callSE {E : EV} {y : MethodName} {S' : SI} {As stk : List Value} {idx : Nat} (hE : evK K = E) (hM : MC E y S' As [] Post) (hM0 : MOK y S' As.length) (hlk : Cond.methodLink S.2.1 idx y ∈ WA) (hst' : Cond.static y ∈ WA) (hR : ROK S S') (hstk : stk = As.reverse ++ st) (hcat : (st.map fun v => v.category).sum ≤ 8) (hroom : k + S'.2.2.2.2.cells ≤ S.2.2.2.2.cells ∧ n + S'.2.2.2.2.slots ≤ S.2.2.2.2.slots) (d : decode S.1 pc = .ok (.invokestatic idx, 3))
    (kk : ∀ (v : Option Value) (w : vWd), Post v w → V K S (k + S'.2.2.2.2.cells) (n + S'.2.2.2.2.slots) ws L (v.toList ++ st) (pc + 3)) : V K S k n ws L stk pc := by
  obtain ⟨p, l, e, s, m, args, below, meth, c, D, cA, A, Q, E0⟩ := K
  have hE' : E0 = E := hE
  subst hE'
  subst hstk
  intro C H locs ls hP hD hS hl
  have hPc : va_P D vwCl (tw cA []) H := fun k q h => by simp [tw] at h
  have hDc : va_D A (tw cA []) := ⟨fun i j p q h => by simp [tw] at h, fun k q h => by simp [tw] at h⟩
  have hF := va_A_sub hDc hS C.2.2.2.2.2.2.1
  have hr : va_Run p l e S.2.2.2.2 s m args below meth c H locs k n S'.2.2.2.2.cells S'.2.2.2.2.slots (F0 m pc ls (As.reverse ++ st)) st (QV D cA Post (va_A (tw cA []) H.size) As.toArray) (va_A (tw cA []) H.size) := by
    refine va_runS (As := As) (rest := st) (n := As.length) (Ts := WA) ⟨C.1, C.2.1, C.2.2.1, C.2.2.2.1, C.2.2.2.2.1⟩ (hM l C.2.2.2.2.2.2.2.2.2.1 D cA H.size) ⟨(callB_of As.length C.2.2.2.2.1 (wa_goodIn0 hM0.1) rfl rfl rfl (C.2.2.2.2.1 _ hM0.2.1) (C.2.2.2.2.1 _ hlk) hM0.2.2 hR), C.2.2.2.2.1 _ hst'⟩ ⟨PV.blind C.2.2.2.2.2.2.2.2.2.2.1, fun U hU hW => ?_⟩ rfl rfl hl.1 rfl (lv_room hcat) d hroom
    exact ⟨rfl, by rw [hU], by rw [hU]; exact hPc, va_K.moved hW.alike C.2.2.2.2.2.1, hDc.weaken (fun _ _ _ _ => trivial), by
      rw [hU]
      exact C.2.2.2.2.2.2.2.2.2.2.1.1 _ _ _ _ hF (C.2.2.2.2.2.2.2.2.2.2.1.2.1 _ s U _ hW (C.2.2.2.2.2.2.2.2.2.2.1.2.2 _ _ _ _ hS.2.1 C.2.2.2.2.2.2.2.2.2.2.2))⟩
  refine vq_call hr hS (fun q _ h => hF q h) hF (fun v w H1 locs1 hp hP1 hD1 hz1 hk1 hS1 => kk v w hp C H1 locs1 ls ?_ ?_ hS1 hl)
  · exact hP.keep hk1
  · exact hD
theorem V_callSA {E : EV} {y : MethodName} {S' : SI} {As stk : List Value} {idx : Nat} {wc wr : vWd} (hw : ws = wc ++ wr) (hE : evK K = E) (hM : MC E y S' As wc Post) (hM0 : MOK y S' As.length) (hlk : Cond.methodLink S.2.1 idx y ∈ WA) (hst' : Cond.static y ∈ WA) (hR : ROK S S') (hstk : stk = As.reverse ++ st) (hcat : (st.map fun v => v.category).sum ≤ 8) (hroom : k + S'.2.2.2.2.cells ≤ S.2.2.2.2.cells ∧ n + S'.2.2.2.2.slots ≤ S.2.2.2.2.slots) (d : decode S.1 pc = .ok (.invokestatic idx, 3))
    (kk : ∀ (v : Option Value) (w : vWd), Post v w → V K S (k + S'.2.2.2.2.cells) (n + S'.2.2.2.2.slots) (w ++ wr) L (v.toList ++ st) (pc + 3)) : V K S k n ws L stk pc := by
  obtain ⟨p, l, e, s, m, args, below, meth, c, D, cA, A, Q, E0⟩ := K
  have hE' : E0 = E := hE
  subst hE'
  subst hstk
  intro C H locs ls hP hD hS hl
  subst hw
  rw [tw_app] at hP hD
  have hPc : va_P D vwCl (tw cA wc) H := hP.left
  have hPr : va_P D vwCl (tw cA wr) H := hP.right
  have hDc : va_D A (tw cA wc) := hD.left
  have hDr : va_D A (tw cA wr) := hD.right
  have hap := hD.apart
  have hF := va_A_sub hDc hS C.2.2.2.2.2.2.1
  have hr : va_Run p l e S.2.2.2.2 s m args below meth c H locs k n S'.2.2.2.2.cells S'.2.2.2.2.slots (F0 m pc ls (As.reverse ++ st)) st (QV D cA Post (va_A (tw cA wc) H.size) As.toArray) (va_A (tw cA wc) H.size) := by
    refine va_runS (As := As) (rest := st) (n := As.length) (Ts := WA) ⟨C.1, C.2.1, C.2.2.1, C.2.2.2.1, C.2.2.2.2.1⟩ (hM l C.2.2.2.2.2.2.2.2.2.1 D cA H.size) ⟨(callB_of As.length C.2.2.2.2.1 (wa_goodIn0 hM0.1) rfl rfl rfl (C.2.2.2.2.1 _ hM0.2.1) (C.2.2.2.2.1 _ hlk) hM0.2.2 hR), C.2.2.2.2.1 _ hst'⟩ ⟨PV.blind C.2.2.2.2.2.2.2.2.2.2.1, fun U hU hW => ?_⟩ rfl rfl hl.1 rfl (lv_room hcat) d hroom
    exact ⟨rfl, by rw [hU], by rw [hU]; exact hPc, va_K.moved hW.alike C.2.2.2.2.2.1, hDc.weaken (fun _ _ _ _ => trivial), by
      rw [hU]
      exact C.2.2.2.2.2.2.2.2.2.2.1.1 _ _ _ _ hF (C.2.2.2.2.2.2.2.2.2.2.1.2.1 _ s U _ hW (C.2.2.2.2.2.2.2.2.2.2.1.2.2 _ _ _ _ hS.2.1 C.2.2.2.2.2.2.2.2.2.2.2))⟩
  refine vq_call hr hS (fun q _ h => hF q h) hF (fun v w H1 locs1 hp hP1 hD1 hz1 hk1 hS1 => kk v w hp C H1 locs1 ls ?_ ?_ hS1 hl)
  · rw [tw_app]; exact va_P.app hP1 (hPr.keepO (fun _ _ _ _ h1 h2 h3 => hap _ _ _ _ h2 h1 h3.symm) hk1)
  · rw [tw_app]; exact va_D.app (hD1.weaken (fun j q _ h => hF q.1 h)) hDr (joinA hD1 hPr (fun _ _ _ _ h1 h2 h3 => hap _ _ _ _ h2 h1 h3.symm))
theorem V_callSB {E : EV} {y : MethodName} {S' : SI} {As stk : List Value} {idx : Nat} {wc wr : vWd} (hw : ws = wr ++ wc) (hE : evK K = E) (hM : MC E y S' As wc Post) (hM0 : MOK y S' As.length) (hlk : Cond.methodLink S.2.1 idx y ∈ WA) (hst' : Cond.static y ∈ WA) (hR : ROK S S') (hstk : stk = As.reverse ++ st) (hcat : (st.map fun v => v.category).sum ≤ 8) (hroom : k + S'.2.2.2.2.cells ≤ S.2.2.2.2.cells ∧ n + S'.2.2.2.2.slots ≤ S.2.2.2.2.slots) (d : decode S.1 pc = .ok (.invokestatic idx, 3))
    (kk : ∀ (v : Option Value) (w : vWd), Post v w → V K S (k + S'.2.2.2.2.cells) (n + S'.2.2.2.2.slots) (wr ++ w) L (v.toList ++ st) (pc + 3)) : V K S k n ws L stk pc := by
  obtain ⟨p, l, e, s, m, args, below, meth, c, D, cA, A, Q, E0⟩ := K
  have hE' : E0 = E := hE
  subst hE'
  subst hstk
  intro C H locs ls hP hD hS hl
  subst hw
  rw [tw_app] at hP hD
  have hPc : va_P D vwCl (tw cA wc) H := hP.right
  have hPr : va_P D vwCl (tw cA wr) H := hP.left
  have hDc : va_D A (tw cA wc) := hD.right
  have hDr : va_D A (tw cA wr) := hD.left
  have hap := hD.apart
  have hF := va_A_sub hDc hS C.2.2.2.2.2.2.1
  have hr : va_Run p l e S.2.2.2.2 s m args below meth c H locs k n S'.2.2.2.2.cells S'.2.2.2.2.slots (F0 m pc ls (As.reverse ++ st)) st (QV D cA Post (va_A (tw cA wc) H.size) As.toArray) (va_A (tw cA wc) H.size) := by
    refine va_runS (As := As) (rest := st) (n := As.length) (Ts := WA) ⟨C.1, C.2.1, C.2.2.1, C.2.2.2.1, C.2.2.2.2.1⟩ (hM l C.2.2.2.2.2.2.2.2.2.1 D cA H.size) ⟨(callB_of As.length C.2.2.2.2.1 (wa_goodIn0 hM0.1) rfl rfl rfl (C.2.2.2.2.1 _ hM0.2.1) (C.2.2.2.2.1 _ hlk) hM0.2.2 hR), C.2.2.2.2.1 _ hst'⟩ ⟨PV.blind C.2.2.2.2.2.2.2.2.2.2.1, fun U hU hW => ?_⟩ rfl rfl hl.1 rfl (lv_room hcat) d hroom
    exact ⟨rfl, by rw [hU], by rw [hU]; exact hPc, va_K.moved hW.alike C.2.2.2.2.2.1, hDc.weaken (fun _ _ _ _ => trivial), by
      rw [hU]
      exact C.2.2.2.2.2.2.2.2.2.2.1.1 _ _ _ _ hF (C.2.2.2.2.2.2.2.2.2.2.1.2.1 _ s U _ hW (C.2.2.2.2.2.2.2.2.2.2.1.2.2 _ _ _ _ hS.2.1 C.2.2.2.2.2.2.2.2.2.2.2))⟩
  refine vq_call hr hS (fun q _ h => hF q h) hF (fun v w H1 locs1 hp hP1 hD1 hz1 hk1 hS1 => kk v w hp C H1 locs1 ls ?_ ?_ hS1 hl)
  · rw [tw_app]; exact va_P.app (hPr.keepO (fun _ _ _ _ h1 h2 h3 => hap _ _ _ _ h1 h2 h3) hk1) hP1
  · rw [tw_app]; exact va_D.app hDr (hD1.weaken (fun j q _ h => hF q.1 h)) (fun i j x y hx hy hxy => joinA hD1 hPr (fun _ _ _ _ h1 h2 h3 => hap _ _ _ _ h1 h2 h3) j i y x hy hx hxy.symm)
theorem V_callSP {E : EV} {y : MethodName} {S' : SI} {As stk : List Value} {idx : Nat} {wc wr : vWd} (isC isR : List Nat) (hC : isC.map (fun (i : Nat) => ws[i]?) = wc.map some) (hRr : isR.map (fun (i : Nat) => ws[i]?) = wr.map some) (hnn : va_nd isR = true) (hdis : ∀ i ∈ isR, i ∉ isC) (hnc : va_nd isC = true) (hE : evK K = E) (hM : MC E y S' As wc Post) (hM0 : MOK y S' As.length) (hlk : Cond.methodLink S.2.1 idx y ∈ WA) (hst' : Cond.static y ∈ WA) (hR : ROK S S') (hstk : stk = As.reverse ++ st) (hcat : (st.map fun v => v.category).sum ≤ 8) (hroom : k + S'.2.2.2.2.cells ≤ S.2.2.2.2.cells ∧ n + S'.2.2.2.2.slots ≤ S.2.2.2.2.slots) (d : decode S.1 pc = .ok (.invokestatic idx, 3))
    (kk : ∀ (v : Option Value) (w : vWd), Post v w → V K S (k + S'.2.2.2.2.cells) (n + S'.2.2.2.2.slots) (wr ++ w) L (v.toList ++ st) (pc + 3)) : V K S k n ws L stk pc := by
  obtain ⟨p, l, e, s, m, args, below, meth, c, D, cA, A, Q, E0⟩ := K
  have hE' : E0 = E := hE
  subst hE'
  subst hstk
  intro C H locs ls hP hD hS hl
  have hC' := tw_places (cA := cA) hC
  have hR' := tw_places (cA := cA) hRr
  have hPc : va_P D vwCl (tw cA wc) H := hP.places hC'
  have hDc0 : ∀ (j : Nat) (q : Nat × va_E), (tw cA wc)[j]? = some q → A q.1 := fun j q h => by
    obtain ⟨i, hi⟩ := place_of hC' h
    exact hD.2 i q hi
  have hF := va_free hD hS C.2.2.2.2.2.2.1 isC hC'
  have hDP : va_D (fun _ => True) (tw cA wc) := (hD.sub isC hnc hC').weaken (fun _ _ _ _ => trivial)
  have hr : va_Run p l e S.2.2.2.2 s m args below meth c H locs k n S'.2.2.2.2.cells S'.2.2.2.2.slots (F0 m pc ls (As.reverse ++ st)) st (QV D cA Post (va_A (tw cA wc) H.size) As.toArray) (va_A (tw cA wc) H.size) := by
    refine va_runS (As := As) (rest := st) (n := As.length) (Ts := WA) ⟨C.1, C.2.1, C.2.2.1, C.2.2.2.1, C.2.2.2.2.1⟩ (hM l C.2.2.2.2.2.2.2.2.2.1 D cA H.size) ⟨(callB_of As.length C.2.2.2.2.1 (wa_goodIn0 hM0.1) rfl rfl rfl (C.2.2.2.2.1 _ hM0.2.1) (C.2.2.2.2.1 _ hlk) hM0.2.2 hR), C.2.2.2.2.1 _ hst'⟩ ⟨PV.blind C.2.2.2.2.2.2.2.2.2.2.1, fun U hU hW => ?_⟩ rfl rfl hl.1 rfl (lv_room hcat) d hroom
    exact ⟨rfl, by rw [hU], by rw [hU]; exact hPc, va_K.moved hW.alike C.2.2.2.2.2.1, hDP, by
      rw [hU]
      exact C.2.2.2.2.2.2.2.2.2.2.1.1 _ _ _ _ hF (C.2.2.2.2.2.2.2.2.2.2.1.2.1 _ s U _ hW (C.2.2.2.2.2.2.2.2.2.2.1.2.2 _ _ _ _ hS.2.1 C.2.2.2.2.2.2.2.2.2.2.2))⟩
  refine vq_call hr hS (fun q _ h => hF q h) hF (fun v w H1 locs1 hp hP1 hD1 hz1 hk1 hS1 => kk v w hp C H1 locs1 ls ?_ ?_ hS1 hl)
  · rw [tw_app]; exact (va_join hP hD isC isR hC' hR' hnn hdis hk1 hF hP1 hD1).1
  · rw [tw_app]; exact (va_join hP hD isC isR hC' hR' hnn hdis hk1 hF hP1 hD1).2
theorem V_callIF {E : EV} {y : MethodName} {S' : SI} {As stk : List Value} {b : Nat} {idx : Nat} (hE : evK K = E) (hM : MC E y S' (.ref b :: As) ws Post) (hM0 : MOK y S' As.length) (hlk : Cond.methodLink S.2.1 idx y ∈ WA) (hin : Cond.instanceMethod y ∈ WA) (hnm : y.name = "<init>") (hrv : S'.2.2.2.1 = none) (hR : ROK S S') (hstk : stk = As.reverse ++ .ref b :: st) (hcat : (st.map fun v => v.category).sum ≤ 8) (hroom : k + S'.2.2.2.2.cells ≤ S.2.2.2.2.cells ∧ n + S'.2.2.2.2.slots ≤ S.2.2.2.2.slots) (d : decode S.1 pc = .ok (.invokespecial idx, 3))
    (kk : ∀ (v : Option Value) (w : vWd), Post v w → V K S (k + S'.2.2.2.2.cells) (n + S'.2.2.2.2.slots) w L (v.toList ++ st) (pc + 3)) : V K S k n ws L stk pc := by
  obtain ⟨p, l, e, s, m, args, below, meth, c, D, cA, A, Q, E0⟩ := K
  have hE' : E0 = E := hE
  subst hE'
  subst hstk
  intro C H locs ls hP hD hS hl
  have hPc := hP
  have hDc := hD
  have hF := va_A_sub hD hS C.2.2.2.2.2.2.1
  have hr : va_Run p l e S.2.2.2.2 s m args below meth c H locs k n S'.2.2.2.2.cells S'.2.2.2.2.slots (F0 m pc ls (As.reverse ++ .ref b :: st)) st (QV D cA Post (va_A (tw cA ws) H.size) (.ref b :: As).toArray) (va_A (tw cA ws) H.size) := by
    refine va_runI (As := As) (rest := st) (n := As.length) (Ts := WA) ⟨C.1, C.2.1, C.2.2.1, C.2.2.2.1, C.2.2.2.2.1⟩ (hM l C.2.2.2.2.2.2.2.2.2.1 D cA H.size) ⟨by rw [← hrv]; exact (callB_of As.length C.2.2.2.2.1 (wa_goodIn0 hM0.1) rfl rfl rfl (C.2.2.2.2.1 _ hM0.2.1) (C.2.2.2.2.1 _ hlk) hM0.2.2 hR), hnm, C.2.2.2.2.1 _ hin⟩ ⟨PV.blind C.2.2.2.2.2.2.2.2.2.2.1, fun U hU hW => ?_⟩ rfl rfl hl.1 rfl (lv_room hcat) d hroom
    exact ⟨rfl, by rw [hU], by rw [hU]; exact hPc, va_K.moved hW.alike C.2.2.2.2.2.1, hDc.weaken (fun _ _ _ _ => trivial), by
      rw [hU]
      exact C.2.2.2.2.2.2.2.2.2.2.1.1 _ _ _ _ hF (C.2.2.2.2.2.2.2.2.2.2.1.2.1 _ s U _ hW (C.2.2.2.2.2.2.2.2.2.2.1.2.2 _ _ _ _ hS.2.1 C.2.2.2.2.2.2.2.2.2.2.2))⟩
  refine vq_call hr hS (fun q _ h => hF q h) hF (fun v w H1 locs1 hp hP1 hD1 hz1 hk1 hS1 => kk v w hp C H1 locs1 ls ?_ ?_ hS1 hl)
  · exact hP1
  · exact hD1.weaken (fun j q _ h => hF q.1 h)
theorem V_callIE {E : EV} {y : MethodName} {S' : SI} {As stk : List Value} {b : Nat} {idx : Nat} (hE : evK K = E) (hM : MC E y S' (.ref b :: As) [] Post) (hM0 : MOK y S' As.length) (hlk : Cond.methodLink S.2.1 idx y ∈ WA) (hin : Cond.instanceMethod y ∈ WA) (hnm : y.name = "<init>") (hrv : S'.2.2.2.1 = none) (hR : ROK S S') (hstk : stk = As.reverse ++ .ref b :: st) (hcat : (st.map fun v => v.category).sum ≤ 8) (hroom : k + S'.2.2.2.2.cells ≤ S.2.2.2.2.cells ∧ n + S'.2.2.2.2.slots ≤ S.2.2.2.2.slots) (d : decode S.1 pc = .ok (.invokespecial idx, 3))
    (kk : ∀ (v : Option Value) (w : vWd), Post v w → V K S (k + S'.2.2.2.2.cells) (n + S'.2.2.2.2.slots) ws L (v.toList ++ st) (pc + 3)) : V K S k n ws L stk pc := by
  obtain ⟨p, l, e, s, m, args, below, meth, c, D, cA, A, Q, E0⟩ := K
  have hE' : E0 = E := hE
  subst hE'
  subst hstk
  intro C H locs ls hP hD hS hl
  have hPc : va_P D vwCl (tw cA []) H := fun k q h => by simp [tw] at h
  have hDc : va_D A (tw cA []) := ⟨fun i j p q h => by simp [tw] at h, fun k q h => by simp [tw] at h⟩
  have hF := va_A_sub hDc hS C.2.2.2.2.2.2.1
  have hr : va_Run p l e S.2.2.2.2 s m args below meth c H locs k n S'.2.2.2.2.cells S'.2.2.2.2.slots (F0 m pc ls (As.reverse ++ .ref b :: st)) st (QV D cA Post (va_A (tw cA []) H.size) (.ref b :: As).toArray) (va_A (tw cA []) H.size) := by
    refine va_runI (As := As) (rest := st) (n := As.length) (Ts := WA) ⟨C.1, C.2.1, C.2.2.1, C.2.2.2.1, C.2.2.2.2.1⟩ (hM l C.2.2.2.2.2.2.2.2.2.1 D cA H.size) ⟨by rw [← hrv]; exact (callB_of As.length C.2.2.2.2.1 (wa_goodIn0 hM0.1) rfl rfl rfl (C.2.2.2.2.1 _ hM0.2.1) (C.2.2.2.2.1 _ hlk) hM0.2.2 hR), hnm, C.2.2.2.2.1 _ hin⟩ ⟨PV.blind C.2.2.2.2.2.2.2.2.2.2.1, fun U hU hW => ?_⟩ rfl rfl hl.1 rfl (lv_room hcat) d hroom
    exact ⟨rfl, by rw [hU], by rw [hU]; exact hPc, va_K.moved hW.alike C.2.2.2.2.2.1, hDc.weaken (fun _ _ _ _ => trivial), by
      rw [hU]
      exact C.2.2.2.2.2.2.2.2.2.2.1.1 _ _ _ _ hF (C.2.2.2.2.2.2.2.2.2.2.1.2.1 _ s U _ hW (C.2.2.2.2.2.2.2.2.2.2.1.2.2 _ _ _ _ hS.2.1 C.2.2.2.2.2.2.2.2.2.2.2))⟩
  refine vq_call hr hS (fun q _ h => hF q h) hF (fun v w H1 locs1 hp hP1 hD1 hz1 hk1 hS1 => kk v w hp C H1 locs1 ls ?_ ?_ hS1 hl)
  · exact hP.keep hk1
  · exact hD
theorem V_callIA {E : EV} {y : MethodName} {S' : SI} {As stk : List Value} {b : Nat} {idx : Nat} {wc wr : vWd} (hw : ws = wc ++ wr) (hE : evK K = E) (hM : MC E y S' (.ref b :: As) wc Post) (hM0 : MOK y S' As.length) (hlk : Cond.methodLink S.2.1 idx y ∈ WA) (hin : Cond.instanceMethod y ∈ WA) (hnm : y.name = "<init>") (hrv : S'.2.2.2.1 = none) (hR : ROK S S') (hstk : stk = As.reverse ++ .ref b :: st) (hcat : (st.map fun v => v.category).sum ≤ 8) (hroom : k + S'.2.2.2.2.cells ≤ S.2.2.2.2.cells ∧ n + S'.2.2.2.2.slots ≤ S.2.2.2.2.slots) (d : decode S.1 pc = .ok (.invokespecial idx, 3))
    (kk : ∀ (v : Option Value) (w : vWd), Post v w → V K S (k + S'.2.2.2.2.cells) (n + S'.2.2.2.2.slots) (w ++ wr) L (v.toList ++ st) (pc + 3)) : V K S k n ws L stk pc := by
  obtain ⟨p, l, e, s, m, args, below, meth, c, D, cA, A, Q, E0⟩ := K
  have hE' : E0 = E := hE
  subst hE'
  subst hstk
  intro C H locs ls hP hD hS hl
  subst hw
  rw [tw_app] at hP hD
  have hPc : va_P D vwCl (tw cA wc) H := hP.left
  have hPr : va_P D vwCl (tw cA wr) H := hP.right
  have hDc : va_D A (tw cA wc) := hD.left
  have hDr : va_D A (tw cA wr) := hD.right
  have hap := hD.apart
  have hF := va_A_sub hDc hS C.2.2.2.2.2.2.1
  have hr : va_Run p l e S.2.2.2.2 s m args below meth c H locs k n S'.2.2.2.2.cells S'.2.2.2.2.slots (F0 m pc ls (As.reverse ++ .ref b :: st)) st (QV D cA Post (va_A (tw cA wc) H.size) (.ref b :: As).toArray) (va_A (tw cA wc) H.size) := by
    refine va_runI (As := As) (rest := st) (n := As.length) (Ts := WA) ⟨C.1, C.2.1, C.2.2.1, C.2.2.2.1, C.2.2.2.2.1⟩ (hM l C.2.2.2.2.2.2.2.2.2.1 D cA H.size) ⟨by rw [← hrv]; exact (callB_of As.length C.2.2.2.2.1 (wa_goodIn0 hM0.1) rfl rfl rfl (C.2.2.2.2.1 _ hM0.2.1) (C.2.2.2.2.1 _ hlk) hM0.2.2 hR), hnm, C.2.2.2.2.1 _ hin⟩ ⟨PV.blind C.2.2.2.2.2.2.2.2.2.2.1, fun U hU hW => ?_⟩ rfl rfl hl.1 rfl (lv_room hcat) d hroom
    exact ⟨rfl, by rw [hU], by rw [hU]; exact hPc, va_K.moved hW.alike C.2.2.2.2.2.1, hDc.weaken (fun _ _ _ _ => trivial), by
      rw [hU]
      exact C.2.2.2.2.2.2.2.2.2.2.1.1 _ _ _ _ hF (C.2.2.2.2.2.2.2.2.2.2.1.2.1 _ s U _ hW (C.2.2.2.2.2.2.2.2.2.2.1.2.2 _ _ _ _ hS.2.1 C.2.2.2.2.2.2.2.2.2.2.2))⟩
  refine vq_call hr hS (fun q _ h => hF q h) hF (fun v w H1 locs1 hp hP1 hD1 hz1 hk1 hS1 => kk v w hp C H1 locs1 ls ?_ ?_ hS1 hl)
  · rw [tw_app]; exact va_P.app hP1 (hPr.keepO (fun _ _ _ _ h1 h2 h3 => hap _ _ _ _ h2 h1 h3.symm) hk1)
  · rw [tw_app]; exact va_D.app (hD1.weaken (fun j q _ h => hF q.1 h)) hDr (joinA hD1 hPr (fun _ _ _ _ h1 h2 h3 => hap _ _ _ _ h2 h1 h3.symm))
theorem V_callIB {E : EV} {y : MethodName} {S' : SI} {As stk : List Value} {b : Nat} {idx : Nat} {wc wr : vWd} (hw : ws = wr ++ wc) (hE : evK K = E) (hM : MC E y S' (.ref b :: As) wc Post) (hM0 : MOK y S' As.length) (hlk : Cond.methodLink S.2.1 idx y ∈ WA) (hin : Cond.instanceMethod y ∈ WA) (hnm : y.name = "<init>") (hrv : S'.2.2.2.1 = none) (hR : ROK S S') (hstk : stk = As.reverse ++ .ref b :: st) (hcat : (st.map fun v => v.category).sum ≤ 8) (hroom : k + S'.2.2.2.2.cells ≤ S.2.2.2.2.cells ∧ n + S'.2.2.2.2.slots ≤ S.2.2.2.2.slots) (d : decode S.1 pc = .ok (.invokespecial idx, 3))
    (kk : ∀ (v : Option Value) (w : vWd), Post v w → V K S (k + S'.2.2.2.2.cells) (n + S'.2.2.2.2.slots) (wr ++ w) L (v.toList ++ st) (pc + 3)) : V K S k n ws L stk pc := by
  obtain ⟨p, l, e, s, m, args, below, meth, c, D, cA, A, Q, E0⟩ := K
  have hE' : E0 = E := hE
  subst hE'
  subst hstk
  intro C H locs ls hP hD hS hl
  subst hw
  rw [tw_app] at hP hD
  have hPc : va_P D vwCl (tw cA wc) H := hP.right
  have hPr : va_P D vwCl (tw cA wr) H := hP.left
  have hDc : va_D A (tw cA wc) := hD.right
  have hDr : va_D A (tw cA wr) := hD.left
  have hap := hD.apart
  have hF := va_A_sub hDc hS C.2.2.2.2.2.2.1
  have hr : va_Run p l e S.2.2.2.2 s m args below meth c H locs k n S'.2.2.2.2.cells S'.2.2.2.2.slots (F0 m pc ls (As.reverse ++ .ref b :: st)) st (QV D cA Post (va_A (tw cA wc) H.size) (.ref b :: As).toArray) (va_A (tw cA wc) H.size) := by
    refine va_runI (As := As) (rest := st) (n := As.length) (Ts := WA) ⟨C.1, C.2.1, C.2.2.1, C.2.2.2.1, C.2.2.2.2.1⟩ (hM l C.2.2.2.2.2.2.2.2.2.1 D cA H.size) ⟨by rw [← hrv]; exact (callB_of As.length C.2.2.2.2.1 (wa_goodIn0 hM0.1) rfl rfl rfl (C.2.2.2.2.1 _ hM0.2.1) (C.2.2.2.2.1 _ hlk) hM0.2.2 hR), hnm, C.2.2.2.2.1 _ hin⟩ ⟨PV.blind C.2.2.2.2.2.2.2.2.2.2.1, fun U hU hW => ?_⟩ rfl rfl hl.1 rfl (lv_room hcat) d hroom
    exact ⟨rfl, by rw [hU], by rw [hU]; exact hPc, va_K.moved hW.alike C.2.2.2.2.2.1, hDc.weaken (fun _ _ _ _ => trivial), by
      rw [hU]
      exact C.2.2.2.2.2.2.2.2.2.2.1.1 _ _ _ _ hF (C.2.2.2.2.2.2.2.2.2.2.1.2.1 _ s U _ hW (C.2.2.2.2.2.2.2.2.2.2.1.2.2 _ _ _ _ hS.2.1 C.2.2.2.2.2.2.2.2.2.2.2))⟩
  refine vq_call hr hS (fun q _ h => hF q h) hF (fun v w H1 locs1 hp hP1 hD1 hz1 hk1 hS1 => kk v w hp C H1 locs1 ls ?_ ?_ hS1 hl)
  · rw [tw_app]; exact va_P.app (hPr.keepO (fun _ _ _ _ h1 h2 h3 => hap _ _ _ _ h1 h2 h3) hk1) hP1
  · rw [tw_app]; exact va_D.app hDr (hD1.weaken (fun j q _ h => hF q.1 h)) (fun i j x y hx hy hxy => joinA hD1 hPr (fun _ _ _ _ h1 h2 h3 => hap _ _ _ _ h1 h2 h3) j i y x hy hx hxy.symm)
theorem V_callIP {E : EV} {y : MethodName} {S' : SI} {As stk : List Value} {b : Nat} {idx : Nat} {wc wr : vWd} (isC isR : List Nat) (hC : isC.map (fun (i : Nat) => ws[i]?) = wc.map some) (hRr : isR.map (fun (i : Nat) => ws[i]?) = wr.map some) (hnn : va_nd isR = true) (hdis : ∀ i ∈ isR, i ∉ isC) (hnc : va_nd isC = true) (hE : evK K = E) (hM : MC E y S' (.ref b :: As) wc Post) (hM0 : MOK y S' As.length) (hlk : Cond.methodLink S.2.1 idx y ∈ WA) (hin : Cond.instanceMethod y ∈ WA) (hnm : y.name = "<init>") (hrv : S'.2.2.2.1 = none) (hR : ROK S S') (hstk : stk = As.reverse ++ .ref b :: st) (hcat : (st.map fun v => v.category).sum ≤ 8) (hroom : k + S'.2.2.2.2.cells ≤ S.2.2.2.2.cells ∧ n + S'.2.2.2.2.slots ≤ S.2.2.2.2.slots) (d : decode S.1 pc = .ok (.invokespecial idx, 3))
    (kk : ∀ (v : Option Value) (w : vWd), Post v w → V K S (k + S'.2.2.2.2.cells) (n + S'.2.2.2.2.slots) (wr ++ w) L (v.toList ++ st) (pc + 3)) : V K S k n ws L stk pc := by
  obtain ⟨p, l, e, s, m, args, below, meth, c, D, cA, A, Q, E0⟩ := K
  have hE' : E0 = E := hE
  subst hE'
  subst hstk
  intro C H locs ls hP hD hS hl
  have hC' := tw_places (cA := cA) hC
  have hR' := tw_places (cA := cA) hRr
  have hPc : va_P D vwCl (tw cA wc) H := hP.places hC'
  have hDc0 : ∀ (j : Nat) (q : Nat × va_E), (tw cA wc)[j]? = some q → A q.1 := fun j q h => by
    obtain ⟨i, hi⟩ := place_of hC' h
    exact hD.2 i q hi
  have hF := va_free hD hS C.2.2.2.2.2.2.1 isC hC'
  have hDP : va_D (fun _ => True) (tw cA wc) := (hD.sub isC hnc hC').weaken (fun _ _ _ _ => trivial)
  have hr : va_Run p l e S.2.2.2.2 s m args below meth c H locs k n S'.2.2.2.2.cells S'.2.2.2.2.slots (F0 m pc ls (As.reverse ++ .ref b :: st)) st (QV D cA Post (va_A (tw cA wc) H.size) (.ref b :: As).toArray) (va_A (tw cA wc) H.size) := by
    refine va_runI (As := As) (rest := st) (n := As.length) (Ts := WA) ⟨C.1, C.2.1, C.2.2.1, C.2.2.2.1, C.2.2.2.2.1⟩ (hM l C.2.2.2.2.2.2.2.2.2.1 D cA H.size) ⟨by rw [← hrv]; exact (callB_of As.length C.2.2.2.2.1 (wa_goodIn0 hM0.1) rfl rfl rfl (C.2.2.2.2.1 _ hM0.2.1) (C.2.2.2.2.1 _ hlk) hM0.2.2 hR), hnm, C.2.2.2.2.1 _ hin⟩ ⟨PV.blind C.2.2.2.2.2.2.2.2.2.2.1, fun U hU hW => ?_⟩ rfl rfl hl.1 rfl (lv_room hcat) d hroom
    exact ⟨rfl, by rw [hU], by rw [hU]; exact hPc, va_K.moved hW.alike C.2.2.2.2.2.1, hDP, by
      rw [hU]
      exact C.2.2.2.2.2.2.2.2.2.2.1.1 _ _ _ _ hF (C.2.2.2.2.2.2.2.2.2.2.1.2.1 _ s U _ hW (C.2.2.2.2.2.2.2.2.2.2.1.2.2 _ _ _ _ hS.2.1 C.2.2.2.2.2.2.2.2.2.2.2))⟩
  refine vq_call hr hS (fun q _ h => hF q h) hF (fun v w H1 locs1 hp hP1 hD1 hz1 hk1 hS1 => kk v w hp C H1 locs1 ls ?_ ?_ hS1 hl)
  · rw [tw_app]; exact (va_join hP hD isC isR hC' hR' hnn hdis hk1 hF hP1 hD1).1
  · rw [tw_app]; exact (va_join hP hD isC isR hC' hR' hnn hdis hk1 hF hP1 hD1).2
end VCALL
