/-! V: the judgement W, over every heap, every array of locals that hold what is listed; numbers as Int (my own layer over the kit) -/
def WA : List Cond := lw_tbl.filter goodWord
theorem wa_of {w : Cond} (h : w ∈ tables_1) (g : goodWord w = true) : w ∈ WA := List.mem_filter.mpr ⟨List.mem_append_right _ h, g⟩
theorem wa_sel {q : MethodName × Nat} (h : q ∈ lw_privs) (g : goodWord (Cond.selects q.1.cls q.1 q.1) = true) : Cond.selects q.1.cls q.1 q.1 ∈ WA := List.mem_filter.mpr ⟨List.mem_append_left _ (List.mem_map.mpr ⟨q, h, rfl⟩), g⟩
theorem wa_tbl {w : Cond} (h : w ∈ WA) : w ∈ lw_tbl := (List.mem_filter.mp h).1
theorem wa_good {w : Cond} (h : w ∈ WA) : goodWord w = true := (List.mem_filter.mp h).2
theorem wa_goodIn {x y : Cond} (h : y ∈ WA) : GoodIn (x :: WA) (y :: WA) := by
  intro w hw
  rcases List.mem_cons.mp hw with rfl | hw
  · exact ⟨List.mem_cons_of_mem _ h, good_of_word (wa_good h)⟩
  · exact ⟨List.mem_cons_of_mem _ hw, good_of_word (wa_good hw)⟩
theorem wa_goodIn0 {y : Cond} (h : y ∈ WA) : GoodIn WA (y :: WA) := by
  intro w hw
  rcases List.mem_cons.mp hw with rfl | hw
  · exact ⟨h, good_of_word (wa_good h)⟩
  · exact ⟨hw, good_of_word (wa_good hw)⟩
-- numbers
def zI (z : Int) : Int32 := Int32.ofInt z
def iR (z : Int) : Prop := -2147483648 ≤ z ∧ z ≤ 2147483647
theorem zI_add (a b : Int) : zI a + zI b = zI (a + b) := (Int32.ofInt_add a b).symm
theorem zI_sub (a b : Int) : zI a - zI b = zI (a - b) := (Int32.ofInt_sub a b).symm
theorem zI_mul (a b : Int) : zI a * zI b = zI (a * b) := (Int32.ofInt_mul a b).symm
theorem zI_neg (a : Int) : -zI a = zI (-a) := (Int32.ofInt_neg a).symm
theorem zI_toInt {a : Int} (h : iR a) : (zI a).toInt = a := Int32.toInt_ofInt_of_le (by have := h.1; omega) (by have := h.2; omega)
theorem zI_self (x : Int32) : zI x.toInt = x := Int32.ofInt_toInt x
theorem zI_rng (x : Int32) : iR x.toInt := ⟨by have := x.le_toInt; omega, by have := x.toInt_lt; omega⟩
theorem zI_lt {a b : Int} (ha : iR a) (hb : iR b) : zI a < zI b ↔ a < b := by rw [Int32.lt_iff_toInt_lt, zI_toInt ha, zI_toInt hb]
theorem zI_le {a b : Int} (ha : iR a) (hb : iR b) : zI a ≤ zI b ↔ a ≤ b := by rw [Int32.le_iff_toInt_le, zI_toInt ha, zI_toInt hb]
theorem zI_eq {a b : Int} (ha : iR a) (hb : iR b) : zI a = zI b ↔ a = b := by rw [← Int32.toInt_inj, zI_toInt ha, zI_toInt hb]
theorem zI_inj {a b : Int} (ha : iR a) (hb : iR b) (h : zI a = zI b) : a = b := (zI_eq ha hb).mp h
theorem zI_nat (n : Nat) : zI (n : Int) = nI n := Int32.ofInt_eq_ofNat
theorem zI_0 : zI 0 = 0 := rfl
theorem zI_div {a b : Int} (ha : iR a) (hb : iR b) (h0 : 0 ≤ a) (h1 : 0 < b) : zI a / zI b = zI (a / b) := by
  obtain ⟨n, rfl⟩ := Int.eq_ofNat_of_zero_le h0
  obtain ⟨k, rfl⟩ := Int.eq_ofNat_of_zero_le (Int.le_of_lt h1)
  have e : ((n : Int) / (k : Int)) = ((n / k : Nat) : Int) := (Int.natCast_ediv n k).symm
  have a1 := ha.2
  have b1 := hb.2
  rw [e, zI_nat, zI_nat, zI_nat, pk_div (by omega) (by omega) (by omega)]
theorem zI_rem {a b : Int} (hb : iR b) (ha : iR a) (h1 : 0 < b) : zI a - zI a / zI b * zI b = zI (a.tmod b) := by
  have t := tmod_bounds (a := a) h1
  have b1 := hb.2
  rw [← Int32.toInt_inj, rem_toInt, zI_toInt ha, zI_toInt hb, zI_toInt ⟨by omega, by omega⟩]
theorem zI_in {a : Int} {n : Nat} (h0 : 0 ≤ a) (h1 : a < (n : Int)) (hn : n < 2 ^ 31) : vp_in (zI a) n := by
  rw [vp_in_iff, zI_toInt ⟨by omega, by omega⟩]; omega
theorem zI_cl {a : Int} (h0 : 0 ≤ a) (h1 : a < 2147483648) : (zI a).toNatClampNeg = a.toNat := by
  rw [← Int32.toNat_toInt, zI_toInt ⟨by omega, by omega⟩]
theorem zI_ne0 {b : Int} (hb : iR b) (h1 : 0 < b) : ¬ zI b = 0 := fun h => by
  have := (zI_eq hb (b := 0) ⟨by omega, by omega⟩).mp h
  omega
theorem tmod_nn {a b : Int} (h : 0 ≤ a) : a.tmod b = a % b := Int.tmod_eq_emod_of_nonneg h
/-- an array's contents -/
def zA (f : Int → Int) : Nat → Int32 := fun j => zI (f (j : Int))
def fup {α : Type} (f : Int → α) (i : Int) (v : α) : Int → α := fun j => if j = i then v else f j
theorem fup_eq {α : Type} (f : Int → α) (i : Int) (v : α) : fup f i v i = v := if_pos rfl
theorem fup_ne {α : Type} {f : Int → α} {i j : Int} {v : α} (h : j ≠ i) : fup f i v j = f j := if_neg h
theorem zA_upd (f : Int → Int) {i : Int} (v : Int) (h0 : 0 ≤ i) (h1 : i < 2147483648) : upd (zA f) (zI i).toNatClampNeg (zI v) = zA (fup f i v) := by
  funext j
  rw [zI_cl h0 h1]
  unfold upd zA fup
  by_cases h : j = i.toNat
  · rw [if_pos h, if_pos (by omega)]
  · rw [if_neg h, if_neg (by omega)]
theorem zA_get (f : Int → Int) {i : Int} (h0 : 0 ≤ i) (h1 : i < 2147483648) : zA f (zI i).toNatClampNeg = zI (f i) := by
  rw [zI_cl h0 h1]
  unfold zA
  rw [Int.toNat_of_nonneg h0]
-- worlds: an array names its class by a place of tyL
abbrev vE : Type := (Nat × vp_A) ⊕ (Nat × List Value)
abbrev vWd : Type := List (Nat × vE)
def twE (cA : Nat → ClassId) (q : Nat × vE) : Nat × va_E := (q.1, match q.2 with | .inl a => .inl (cA a.1, a.2) | .inr o => .inr o)
def tw (cA : Nat → ClassId) (ws : vWd) : va_W := ws.map (twE cA)
theorem tw_get {cA : Nat → ClassId} {ws : vWd} {k : Nat} {q : Nat × vE} (h : ws[k]? = some q) : (tw cA ws)[k]? = some (twE cA q) := by
  unfold tw; rw [List.getElem?_map, h]; rfl
theorem tw_set {cA : Nat → ClassId} {ws : vWd} {k : Nat} {q : Nat × vE} : (tw cA ws).set k (twE cA q) = tw cA (ws.set k q) := by
  unfold tw; rw [List.map_set]
theorem tw_app {cA : Nat → ClassId} {w1 w2 : vWd} : tw cA (w1 ++ w2) = tw cA w1 ++ tw cA w2 := List.map_append
def tyL (cA : Nat → ClassId) : List (ClassId × FieldType) := [(cA 0, .int), (cA 1, .boolean), (cA 2, .byte), (cA 3, .object "java/lang/Object"), (cA 4, .array .int)]
-- locals: a place each
def lvL (L : List (Option Value)) : List (Nat × Value) := (List.range L.length).filterMap (fun i => (L.getD i none).map (fun v => (i, v)))
theorem lvL_mem {L : List (Option Value)} {j : Nat} {w : Value} : (j, w) ∈ lvL L ↔ L[j]? = some (some w) := by
  unfold lvL
  rw [List.mem_filterMap]
  constructor
  · rintro ⟨i, hi, h⟩
    have hi := List.mem_range.mp hi
    rw [List.getD_eq_getElem?_getD] at h
    cases hx : L[i]? with
    | none => rw [hx] at h; cases h
    | some o =>
      rw [hx] at h
      cases o with
      | none => cases h
      | some v => cases h; exact hx
  · intro h
    refine ⟨j, List.mem_range.mpr (List.getElem?_eq_some_iff.mp h).1, ?_⟩
    rw [List.getD_eq_getElem?_getD, h]
    rfl
def lvO (ls : Array Slot) (nL : Nat) (L : List (Option Value)) : Prop := ls.size = nL ∧ lv_wf ls ∧ ∀ (i : Nat) (v : Value), L[i]? = some (some v) → ls[i]? = some (.val v) ∧ v.category = 1
theorem lvO.has {ls : Array Slot} {nL : Nat} {L : List (Option Value)} (h : lvO ls nL L) : lv_has ls nL (lvL L) := ⟨h.1, h.2.1, fun q hq => (h.2.2 q.1 q.2 (lvL_mem.mp hq)).1⟩
theorem lvO.store {ls ls' : Array Slot} {nL i : Nat} {L : List (Option Value)} {v : Value} (hL : lvO ls nL L) (hv : v.category = 1) (h : lv_has ls' nL ((i, v) :: (lvL L).filter (fun q => !(q.1 == i) && !(q.1 + 1 == i && q.2.category == 2)))) : lvO ls' nL (L.set i (some v)) := by
  refine ⟨h.1, h.2.1, fun j w hj => ?_⟩
  by_cases e : j = i
  · subst e
    have hlt : j < L.length := by
      have := (List.getElem?_eq_some_iff.mp hj).1
      rwa [List.length_set] at this
    rw [List.getElem?_set_self hlt] at hj
    cases hj
    exact ⟨h.2.2 (j, v) List.mem_cons_self, hv⟩
  · rw [List.getElem?_set_ne (Ne.symm e)] at hj
    have hc := (hL.2.2 j w hj).2
    refine ⟨h.2.2 (j, w) (List.mem_cons_of_mem _ (List.mem_filter.mpr ⟨lvL_mem.mpr hj, ?_⟩)), hc⟩
    simp [e, hc]
/-- a method: code, class, locals, answer, room -/
abbrev SI : Type := ByteArray × String × Nat × Option FieldType × Room
/-- what the launch gives beside the world (statics, constants): said of the cells outside A; stable -/
abbrev EV : Type := (Nat → Prop) → State → Heap → Prop
def Stb (E : EV) : Prop := (∀ (A B : Nat → Prop) (U : State) (H : Heap), (∀ q, B q → A q) → E A U H → E B U H) ∧ (∀ (A : Nat → Prop) (u U : State) (H : Heap), u.WarmedH U.vm → E A u H → E A U H) ∧ (∀ (A : Nat → Prop) (U : State) (H H1 : Heap), (∀ a : Nat, a < H.size → ¬ A a → H1[a]? = H[a]?) → E A U H → E A U H1)
def KT : Type := Program × Launch × Env × State × MethodId × Array Value × List Frame × Method × Code × va_G × (Nat → ClassId) × (Nat → Prop) × (State → Prop) × EV
def Cx (K : KT) (S : SI) : Prop := match K with
  | (p, l, _, s, m, args, _, meth, c, D, cA, A, _, E) => p.tables.exec = Jvm.exec ∧ c.code = S.1 ∧ c.maxLocals = S.2.2.1 ∧ s.vm.findClass S.2.1 = some m.cls ∧ (∀ w ∈ WA, w.before args s = true) ∧ va_K D vwCl (tyL cA) s ∧ (∀ q : Nat, s.heap.size ≤ q → A q) ∧ meth.locks = false ∧ meth.sig.returnType = S.2.2.2.1 ∧ l.stackTraces = false ∧ Stb E ∧ E A s s.heap
def V (K : KT) (S : SI) (k n : Nat) (ws : vWd) (L : List (Option Value)) (st : List Value) (pc : Nat) : Prop := match K with
  | (p, l, e, s, m, args, below, meth, c, D, cA, A, Q, E) => Cx (p, l, e, s, m, args, below, meth, c, D, cA, A, Q, E) S → ∀ (H : Heap) (locs : List Loc) (ls : Array Slot), va_P D vwCl (tw cA ws) H → va_D A (tw cA ws) → va_S A s.heap H locs → lvO ls S.2.2.1 L → W p l e S.2.2.2.2 s m args below meth c H locs k n Q (F0 m pc ls st)
