/-! the law: its rows, its cases -/
abbrev sL_law : SI := (cL_law, RL, 7, ret, room_1)
def scK (K : KT) (b Ln : Nat) (xs : Nat → Int32) : Prop := match K with | (_, _, _, s, _, _, _, _, _, _, _, A, _, _) => va_X b Ln xs s s.heap ∧ b < s.heap.size ∧ ¬ A b
def sc (xs : Nat → Int32) (z : Int) : Int := (xs z.toNat).toInt
section VLAW
variable {K : KT} {S : SI} {k n : Nat} {ws : vWd} {L : List (Option Value)} {st : List Value} {pc : Nat}
theorem V_sld {b Ln : Nat} {xs : Nat → Int32} {i : Int} (hX : scK K b Ln xs) (hi : 0 ≤ i ∧ i < (Ln : Int)) (hL : Ln ≤ 3072) (d : decode S.1 pc = .ok (.iaload, 1)) (kk : V K S k n ws L (.int (zI (sc xs i)) :: st) (pc + 1)) : V K S k n ws L (.int (zI i) :: .ref b :: st) pc := by
  obtain ⟨p, l, e, s, m, args, below, meth, c, D, cA, A, Q, E⟩ := K
  intro C H locs ls hP hD hS hl
  unfold sc at kk
  rw [zI_self, ← zI_cl hi.1 (by omega)] at kk
  exact va_sld C.1 C.2.1 hX.1 hX.2.1 hX.2.2 hS (zI_in hi.1 hi.2 (by omega)) d (kk C H locs ls hP hD hS hl)
theorem V_slen {b Ln : Nat} {xs : Nat → Int32} (hX : scK K b Ln xs) (d : decode S.1 pc = .ok (.arraylength, 1)) (kk : V K S k n ws L (.int (zI (Ln : Int)) :: st) (pc + 1)) : V K S k n ws L (.ref b :: st) pc := by
  obtain ⟨p, l, e, s, m, args, below, meth, c, D, cA, A, Q, E⟩ := K
  intro C H locs ls hP hD hS hl
  rw [zI_nat] at kk
  exact va_slen C.1 C.2.1 hX.1 hX.2.1 hX.2.2 hS d (kk C H locs ls hP hD hS hl)
theorem V_icmp_same {x : Int32} {off : Int} {tgt : Nat} (d : decode S.1 pc = .ok (.if_icmp .eq off, 3)) (ht : (pc : Int) + off = (tgt : Int)) (kk : V K S k n ws L st tgt) : V K S k n ws L (.int x :: .int x :: st) pc := by
  obtain ⟨p, l, e, s, m, args, below, meth, c, D, cA, A, Q, E⟩ := K
  intro C H locs ls hP hD hS hl
  exact lv_icmp_eq C.1 C.2.1 d ht (fun _ => kk C H locs ls hP hD hS hl) (fun q => absurd rfl q)
theorem V_newa_l {z : Int} {N : Nat} (harr : Cond.arrayClass .long ∈ WA) (hz : z = (N : Int)) (hN : N < 100000) (hroom : k + 1 ≤ S.2.2.2.2.cells ∧ n + N ≤ S.2.2.2.2.slots) (d : decode S.1 pc = .ok (.newarray .long, 2)) (kk : ∀ q : Nat, V K S (k + 1) (n + N) (ws ++ [(q, lE N (fun _ => 0))]) L (.ref q :: st) (pc + 2)) : V K S k n ws L (.int (zI z) :: st) pc := by
  obtain ⟨p, l, e, s, m, args, below, meth, c, D, cA, A, Q, E⟩ := K
  intro C H locs ls hP hD hS hl
  subst hz
  refine va_newa (atype := .long) (ty := .long) (N' := N) (a0 := (N, .inr (.inl (fun _ => 0)))) C.1 C.2.1 (C.2.2.2.2.1 _ harr) rfl C.2.2.2.2.2.1 hP hD hS C.2.2.2.2.2.2.1 (fun cA => rfl) (by rw [Int32.lt_iff_toInt_lt, zI_toInt ⟨by omega, by omega⟩]; show ¬ (N : Int) < 0; omega) (by rw [zI_cl (by omega) (by omega)]; omega) (by simp only [componentBytes]; omega) hroom.1 hroom.2 d (fun q cB H1 hK1 hP1 hD1 hS1 => ?_)
  have e1 := (C.2.2.2.2.2.1.2 2 _ rfl).2
  have e2 := (hK1.2 5 _ rfl).2
  have e3 : cB = cA 2 := Option.some.inj (e2.symm.trans e1)
  subst e3
  refine kk q C H1 locs ls ?_ ?_ hS1 hl
  · rw [← tw_push]; exact hP1
  · rw [← tw_push]; exact hD1
end VLAW
theorem lg_self (x : Int64) : lg_cmp x x = zI 0 := by
  unfold lg_cmp
  rw [if_neg (by rw [gt_iff_lt, Int64.lt_iff_toInt_lt]; omega), if_pos rfl]
  rfl
theorem lg_eq {x y : Int64} (h : x = y) : lg_cmp x y = zI 0 := by rw [h]; exact lg_self y
theorem sc_R (xs : Nat → Int32) (z : Int) : iR (sc xs z) := zI_rng _
/-- the law's world -/
abbrev wL3 (en c a : Nat → Nat) (κ σ : St) (o : Nat) (g : Nat → Int64) : vWd := mW a σ ++ (fm (cO en c κ) ++ [(o, lE 1 g)])
theorem wL3_out (en c a : Nat → Nat) (κ σ : St) (o : Nat) (g : Nat → Int64) : (wL3 en c a κ σ o g)[(mW a σ).length + (fm (cO en c κ)).length]? = some (o, lE 1 g) := by
  unfold wL3
  rw [List.getElem?_append_right (by omega), Nat.add_sub_cancel_left]
  exact fm_out en c κ o g
theorem law_P1 (A B C : vWd) : (A ++ (B ++ C)).Perm ((A ++ C) ++ B) := by
  rw [List.append_assoc]
  exact List.Perm.append_left _ List.perm_append_comm
theorem law_P2 (A B C : vWd) : ((A ++ C) ++ B).Perm (A ++ (B ++ C)) := (law_P1 A B C).symm
theorem wL3_cw (en c a : Nat → Nat) (κ σ : St) (o : Nat) (g : Nat → Int64) : ((mW a σ ++ [(o, lE 1 g)]) ++ fm (cO en c κ))[(mW a σ ++ [(o, lE 1 g)]).length]? = some (c 0, .inr (9, cwF c κ)) := by
  rw [List.getElem?_append_right (Nat.le_refl _), Nat.sub_self]
  rfl
theorem rm_k {k c : Nat} (h : k + 8 ≤ 601024) (hc : c ≤ 8) : k + c ≤ 601024 := by omega
theorem rm_n {n c : Nat} (h : n + 50 ≤ 7293034) (hc : c ≤ 50) : n + c ≤ 7293034 := by omega
-- the program's state stays one
theorem gd_MI {c : Prop} [Decidable c] {k : Int} {P : St} {r : SP} (hM : MI P) (h : c → MI r.2.2) : MI (gd c k P r).2.2 := by
  by_cases hc : c
  · rw [gd_t hc]; exact h hc
  · rw [gd_f hc]; exact hM
theorem gc_MI {c : Prop} {k : Int} {P : St} {r : SP} (hM : MI P) (h : c → MI r.2.2) : MI (gc c k P r).2.2 := by
  by_cases hc : c
  · rw [gc_t hc]; exact h hc
  · rw [gc_f hc]; exact hM
theorem last_MI {P : St} (hM : MI P) {s v : Int} (hs : inS P s) (hv : v = 0 ∨ v = 1) : MI (up P 9 s v) := by
  obtain ⟨g1, g2, g3, g4, g5, g6, g7⟩ := hM
  refine ⟨g1, g2, g3, g4, g5, fun i i0 i1 => ?_, g7⟩
  obtain ⟨a1, a2, a3, a4, a5, a6⟩ := g6 i i0 i1
  have e9 : up P 9 s v 9 i = if i = s then v else P 9 i := rfl
  refine ⟨a1, a2, ?_, a4, a5, fun z => ?_⟩
  · rw [e9]; split <;> omega
  · have z' : P 0 2 ≤ i := z
    obtain ⟨b1, b2, b3⟩ := a6 z'
    refine ⟨b1, ?_, b3⟩
    rw [e9, if_neg (fun e => by have := hs.2; omega)]
    exact b2
theorem ctp_MS {P : St} (hM : MI P) : ∀ n : Nat, MS P (ctp P n)
  | 0 => ms_rf hM
  | n + 1 => ms_3 hM (ms_2 hM (ms_1 hM (ms_0 (ctp_MS hM n) n) n) n) n
theorem k_roomP (en c : Nat → Nat) (κ P : St) (hp : MI P ∧ CI P κ ∧ WR P κ ∧ WB κ 4) : MC (EN en) yX10_room sX10_room [.ref (c 0)] (fm (cO en c κ)) (fun v w => ∃ κ2 : St, v = some (.int (zI ((sp_room P).2.1))) ∧ w = fm (cO en c κ2) ∧ ((sp_room P).1 = 0) ∧ (CWP (sp_room P).2.2 κ2)) :=
  MC.post (k_room en c κ P ⟨hp.1, hp.2.1, hp.2.2.1⟩) (fun v w h => ⟨κ, h.1, h.2, rfl, hp.2⟩)
theorem mi_addStatement {P : St} {x : Int} (hM : MI P) : MI (sp_addStatement P x).2.2 := gd_MI hM (fun h => gd_MI hM (fun h2 => as_MI hM rfl (by have := hM.2.2.1; omega) h))
theorem mi_addRead {P : St} {s f m u l : Int} (hM : MI P) : MI (sp_addRead P s f m u l).2.2 := gd_MI hM (fun h => gd_MI hM (fun h2 => gd_MI hM (fun h3 => ar_MI hM h.1 h.2 h2 h3)))
theorem mi_dropReads {P : St} {s : Int} (hM : MI P) : MI (sp_dropReads P s).2.2 := gd_MI hM (fun h => dr_MI hM)
theorem mi_setLasting {P : St} {s x : Int} (hM : MI P) (hx : x = 0 ∨ x = 1) : MI (sp_setLasting P s x).2.2 := gd_MI hM (fun h => last_MI hM h hx)
theorem mi_setField {P : St} {x y : Int} (hM : MI P) : MI (sp_setField P x y).2.2 := gd_MI hM (fun h => hM.field h.1 h.2)
theorem mi_setSchedule {P : St} {x y : Int} (hM : MI P) : MI (sp_setSchedule P x y).2.2 := gd_MI hM (fun h => hM.sched h.1 h.2)
theorem mi_setOffset {P : St} {s x : Int} (hM : MI P) : MI (sp_setOffset P s x).2.2 := gd_MI hM (fun h => gd_MI hM (fun h2 => hM.offset h h2))
theorem mi_isAllowedWith {P : St} {a0 a1 : Int} (hM : MI P) : MI (sp_isAllowedWith P a0 a1).2.2 := gd_MI hM (fun _ => hM)
theorem mi_isReadInOrder {P : St} {a0 a1 : Int} (hM : MI P) : MI (sp_isReadInOrder P a0 a1).2.2 := gd_MI hM (fun _ => hM)
theorem mi_stepOf {P : St} {a0 a1 a2 : Int} (hM : MI P) : MI (sp_stepOf P a0 a1 a2).2.2 := gd_MI hM (fun _ => hM)
theorem mi_statementAt {P : St} {a0 : Int} (hM : MI P) : MI (sp_statementAt P a0).2.2 := gd_MI hM (fun _ => hM)
theorem mi_pointAt {P : St} {a0 : Int} (hM : MI P) : MI (sp_pointAt P a0).2.2 := gd_MI hM (fun _ => hM)
theorem mi_endOf {P : St} {a0 a1 a2 : Int} (hM : MI P) : MI (sp_endOf P a0 a1 a2).2.2 := gd_MI hM (fun _ => hM)
theorem mi_liveAt {P : St} {a0 : Int} (hM : MI P) : MI (sp_liveAt P a0).2.2 := gd_MI hM (fun _ => hM)
theorem mi_mostLiveOf {P : St} {a0 : Int} (hM : MI P) : MI (sp_mostLiveOf P a0).2.2 := gd_MI hM (fun _ => hM)
theorem mi_conflictsOf {P : St} {a0 a1 a2 a3 : Int} (hM : MI P) : MI (sp_conflictsOf P a0 a1 a2 a3).2.2 := gd_MI hM (fun _ => hM)
theorem mi_conflictPairs {P : St} {a0 : Int} (hM : MI P) : MI (sp_conflictPairs P a0).2.2 := gd_MI hM (fun _ => hM)
theorem mi_keepWhole {P : St} {s : Int} (hM : MI P) : MI (sp_keepWhole P s).2.2 := gd_MI hM (fun h => hM.kp (Or.inl rfl))
theorem mi_keepRest {P : St} {s x : Int} (hM : MI P) : MI (sp_keepRest P s x).2.2 := gd_MI hM (fun h => gd_MI hM (fun h2 => hM.kp (Or.inr (Or.inl ⟨rfl, h2⟩))))
theorem mi_keepTwoRests {P : St} {s x y : Int} (hM : MI P) : MI (sp_keepTwoRests P s x y).2.2 := gd_MI hM (fun h => gd_MI hM (fun h2 => hM.kp (Or.inr (Or.inr (Or.inl ⟨rfl, h2.1.1, h2.1.2, h2.2⟩)))))
theorem mi_keepSlant {P : St} {s x y : Int} (hM : MI P) : MI (sp_keepSlant P s x y).2.2 := gd_MI hM (fun h => gd_MI hM (fun h2 => hM.kp (Or.inr (Or.inr (Or.inr ⟨rfl, h2.1.1, h2.1.2, h2.2⟩)))))
theorem mi_windowSize {P : St} {a0 : Int} (hM : MI P) : MI (sp_windowSize P a0).2.2 := gd_MI hM (fun _ => hM)
theorem mi_placeOf {P : St} {a0 a1 a2 : Int} (hM : MI P) : MI (sp_placeOf P a0 a1 a2).2.2 := gd_MI hM (fun _ => hM)
theorem mi_isRight {P : St} {a0 : Int} (hM : MI P) : MI (sp_isRight P a0).2.2 := gd_MI hM (fun _ => hM)
theorem mi_leastRest {P : St} {a0 : Int} (hM : MI P) : MI (sp_leastRest P a0).2.2 := gd_MI hM (fun _ => hM)
theorem mi_leastRowRest {P : St} {a0 : Int} (hM : MI P) : MI (sp_leastRowRest P a0).2.2 := gd_MI hM (fun _ => hM)
theorem mi_leastColumnRest {P : St} {a0 : Int} (hM : MI P) : MI (sp_leastColumnRest P a0).2.2 := gd_MI hM (fun _ => hM)
theorem mi_leastSlantModulus {P : St} {a0 : Int} (hM : MI P) : MI (sp_leastSlantModulus P a0).2.2 := gd_MI hM (fun _ => hM)
theorem mi_leastSlant {P : St} {a0 : Int} (hM : MI P) : MI (sp_leastSlant P a0).2.2 := gd_MI hM (fun _ => hM)
theorem mi_leastJointRest {P : St} {a0 a1 : Int} (hM : MI P) : MI (sp_leastJointRest P a0 a1).2.2 := gd_MI hM (fun _ => hM)
theorem mi_valueOf {P : St} {a0 a1 a2 : Int} (hM : MI P) : MI (sp_valueOf P a0 a1 a2).2.2 := gd_MI hM (fun _ => hM)
theorem mi_contractedValueOf {P : St} {a0 a1 a2 : Int} (hM : MI P) : MI (sp_contractedValueOf P a0 a1 a2).2.2 := gd_MI hM (fun _ => hM)
theorem mi_bestRowWeight {P : St} (hM : MI P) : MI (sp_bestRowWeight P).2.2 := gc_MI hM (fun _ => hM)
theorem mi_bestColumnWeight {P : St} (hM : MI P) : MI (sp_bestColumnWeight P).2.2 := gc_MI hM (fun _ => hM)
theorem mi_bestRoom {P : St} (hM : MI P) : MI (sp_bestRoom P).2.2 := gc_MI hM (fun _ => hM)
theorem mi_isAllowed {P : St} (hM : MI P) : MI (sp_isAllowed P).2.2 := hM
theorem mi_steps {P : St} (hM : MI P) : MI (sp_steps P).2.2 := hM
theorem mi_mostLive {P : St} (hM : MI P) : MI (sp_mostLive P).2.2 := hM
theorem mi_contract {P : St} (hM : MI P) : MI (sp_contract P).2.2 := (ctp_MS hM _).1
theorem mi_room {P : St} (hM : MI P) : MI (sp_room P).2.2 := hM
theorem mi_firstWrongStep {P : St} (hM : MI P) : MI (sp_firstWrongStep P).2.2 := hM
set_option maxRecDepth 100000 in
set_option maxHeartbeats 4000000 in
theorem law_addStatement {K : KT} {en c a : Nat → Nat} {κ σ P : St} {o b Ln k n : Nat} {xs : Nat → Int32} {g : Nat → Int64} {i : Int} (hK : evK K = EX en) (hX : scK K b Ln xs) (hL : Ln ≤ 3072) (hi : 0 ≤ i ∧ i + 6 ≤ (Ln : Int)) (hk : k + 8 ≤ 601024) (hn : n + 50 ≤ 7293034) (hM : MI P) (hC : CWP P κ) (hP : PR P σ)
    (hnext : ∀ (c2 : Nat → Nat) (κ2 σ2 P2 : St) (g2 : Nat → Int64), c2 0 = c 0 → MI P2 → CWP P2 κ2 → PR P2 σ2 → V K sL_law (k + 8) (n + 50) (wL3 en c2 a κ2 σ2 o g2) [some (.ref b), some (.ref (c 0)), some (.ref (a 0)), some (.ref o), some (.int (zI i)), none, none] [] 2688) : V K sL_law k n (wL3 en c a κ σ o g) [some (.ref b), some (.ref (c 0)), some (.ref (a 0)), some (.ref o), some (.int (zI i)), none, none] [] 224 := by
  refine V_aload_n dL_law_224 rfl ?_
  refine V_aload_n dL_law_225 rfl ?_
  refine V_iload dL_law_226 rfl ?_
  refine V_iconst dL_law_228 ?_
  refine V_iadd dL_law_229 ?_
  refine V_sld hX ⟨by omega, by omega⟩ hL dL_law_230 ?_
  refine V_aload_n dL_law_231 rfl ?_
  refine V_callSBH (As := [.ref (c 0), .int (zI (sc xs (i + 1))), .ref o]) (wr := mW a σ) (wc := fm (cO en c κ) ++ [(o, lE 1 g)]) rfl hK (l_addStatement en c κ P o g (sc xs (i + 1)) hM hC (sc_R _ _)) mokL_addStatement w504 w505 ⟨Nat.le_of_ble_eq_true rfl, Nat.le_of_ble_eq_true rfl⟩ rfl (Nat.le_of_ble_eq_true rfl) ⟨rm_k hk (Nat.le_of_ble_eq_true rfl), rm_n hn (Nat.le_of_ble_eq_true rfl)⟩ dL_law_232 (fun v w h => ?_)
  obtain ⟨c2, κ2, g2, rfl, rfl, e0, hC2, hn2, hz2⟩ := h
  show V K sL_law (k + 6) (n + 35) (wL3 en c2 a κ2 σ o g2) [some (.ref b), some (.ref (c 0)), some (.ref (a 0)), some (.ref o), some (.int (zI i)), none, none] [.int (zI ((sp_addStatement P (sc xs (i + 1))).1))] 235
  refine V_istore (L' := [some (.ref b), some (.ref (c 0)), some (.ref (a 0)), some (.ref o), some (.int (zI i)), some (.int (zI ((sp_addStatement P (sc xs (i + 1))).1))), none]) dL_law_235 (by decide) rfl ?_
  refine V_aload_n dL_law_237 rfl ?_
  refine V_aload_n dL_law_238 rfl ?_
  refine V_iload dL_law_239 rfl ?_
  refine V_iconst dL_law_241 ?_
  refine V_iadd dL_law_242 ?_
  refine V_sld hX ⟨by omega, by omega⟩ hL dL_law_243 ?_
  refine V_callVA (As := [.int (zI (sc xs (i + 1)))]) (b := a 0) (q0 := 0) (ci := 10) (fs := mF a σ) (T := TX11) (N := 30) rfl rfl (wc := mW a σ) (wr := fm (cO en c2 κ2) ++ [(o, lE 1 g2)]) rfl hK (c_addStatement (EX.stb en) a σ (sc xs (i + 1)) P ⟨hM, hP, sc_R _ _⟩) mokX11_addStatement w1165 w1166 w1167 ⟨Nat.le_of_ble_eq_true rfl, Nat.le_of_ble_eq_true rfl⟩ rfl (Nat.le_of_ble_eq_true rfl) ⟨rm_k (c := 6) hk (Nat.le_of_ble_eq_true rfl), rm_n (c := 35) hn (Nat.le_of_ble_eq_true rfl)⟩ dL_law_244 (fun v w h => ?_)
  obtain ⟨σ2, rfl, rfl, et, hP2⟩ := h
  show V K sL_law (k + 6) (n + 35) (wL3 en c2 a κ2 σ2 o g2) [some (.ref b), some (.ref (c 0)), some (.ref (a 0)), some (.ref o), some (.int (zI i)), some (.int (zI ((sp_addStatement P (sc xs (i + 1))).1))), none] [.int (zI ((sp_addStatement P (sc xs (i + 1))).2.1))] 247
  refine V_istore (L' := [some (.ref b), some (.ref (c 0)), some (.ref (a 0)), some (.ref o), some (.int (zI i)), some (.int (zI ((sp_addStatement P (sc xs (i + 1))).1))), some (.int (zI ((sp_addStatement P (sc xs (i + 1))).2.1)))]) dL_law_247 (by decide) rfl ?_
  refine V_aload_n dL_law_249 rfl ?_
  refine V_callVA (As := []) (b := a 0) (q0 := 0) (ci := 10) (fs := mF a σ2) (T := TX11) (N := 30) rfl rfl (wc := mW a σ2) (wr := fm (cO en c2 κ2) ++ [(o, lE 1 g2)]) rfl hK (c_thrown (EX.stb en) a σ2) mokX11_thrown w1161 w1162 w1163 ⟨Nat.le_of_ble_eq_true rfl, Nat.le_of_ble_eq_true rfl⟩ rfl (Nat.le_of_ble_eq_true rfl) ⟨rm_k (c := 6) hk (Nat.le_of_ble_eq_true rfl), rm_n (c := 35) hn (Nat.le_of_ble_eq_true rfl)⟩ dL_law_250 (fun v w h => ?_)
  obtain ⟨rfl, rfl⟩ := h
  show V K sL_law (k + 6) (n + 35) (wL3 en c2 a κ2 σ2 o g2) [some (.ref b), some (.ref (c 0)), some (.ref (a 0)), some (.ref o), some (.int (zI i)), some (.int (zI ((sp_addStatement P (sc xs (i + 1))).1))), some (.int (zI ((sp_addStatement P (sc xs (i + 1))).2.1)))] [.int (zI (σ2 1 29))] 253
  refine V_eqT (y := zI (sp_addStatement P (sc xs (i + 1))).1) (by rw [et]) ?_
  refine V_iload dL_law_253 rfl ?_
  refine V_icmp_same (tgt := 260) dL_law_255 (by decide) ?_
  refine V_iload dL_law_260 rfl ?_
  refine V_if_ne (tgt := 277) dL_law_262 (by decide) ⟨by have := hn2; omega, by have := hn2; omega⟩ (fun h1 => ?_) (fun h1 => ?_)
  · refine V_goto (tgt := 2688) dL_law_277 (by decide) ?_
    refine V_mask (L' := [some (.ref b), some (.ref (c 0)), some (.ref (a 0)), some (.ref o), some (.int (zI i)), none, none]) [true, true, true, true, true, false, false] rfl ?_
    refine V_widen (k' := k + 8) (n' := n + 50) (by omega) (by omega) ?_
    exact hnext c2 κ2 σ2 _ g2 e0 (mi_addStatement hM) hC2 hP2
  · refine V_aload_n dL_law_265 rfl ?_
    refine V_iconst dL_law_266 ?_
    refine V_lald (N := 1) _ (wL3_out en c2 a κ2 σ2 o g2) ⟨by decide, by decide⟩ (by decide) dL_law_267 ?_
    refine V_iload dL_law_268 rfl ?_
    refine V_i2l dL_law_270 ?_
    refine V_lcmp dL_law_271 ?_
    refine V_eqT (y := zI 0) (lg_eq (hz2 h1).1) ?_
    refine V_if_eq (tgt := 277) dL_law_272 (by decide) ⟨by omega, by omega⟩ (fun _ => ?_) (fun h => absurd rfl h)
    refine V_goto (tgt := 2688) dL_law_277 (by decide) ?_
    refine V_mask (L' := [some (.ref b), some (.ref (c 0)), some (.ref (a 0)), some (.ref o), some (.int (zI i)), none, none]) [true, true, true, true, true, false, false] rfl ?_
    refine V_widen (k' := k + 8) (n' := n + 50) (by omega) (by omega) ?_
    exact hnext c2 κ2 σ2 _ g2 e0 (mi_addStatement hM) hC2 hP2
set_option maxRecDepth 100000 in
set_option maxHeartbeats 4000000 in
theorem law_addRead {K : KT} {en c a : Nat → Nat} {κ σ P : St} {o b Ln k n : Nat} {xs : Nat → Int32} {g : Nat → Int64} {i : Int} (hK : evK K = EX en) (hX : scK K b Ln xs) (hL : Ln ≤ 3072) (hi : 0 ≤ i ∧ i + 6 ≤ (Ln : Int)) (hk : k + 8 ≤ 601024) (hn : n + 50 ≤ 7293034) (hM : MI P) (hC : CWP P κ) (hP : PR P σ)
    (hnext : ∀ (c2 : Nat → Nat) (κ2 σ2 P2 : St) (g2 : Nat → Int64), c2 0 = c 0 → MI P2 → CWP P2 κ2 → PR P2 σ2 → V K sL_law (k + 8) (n + 50) (wL3 en c2 a κ2 σ2 o g2) [some (.ref b), some (.ref (c 0)), some (.ref (a 0)), some (.ref o), some (.int (zI i)), none, none] [] 2688) : V K sL_law k n (wL3 en c a κ σ o g) [some (.ref b), some (.ref (c 0)), some (.ref (a 0)), some (.ref o), some (.int (zI i)), none, none] [] 280 := by
  refine V_aload_n dL_law_280 rfl ?_
  refine V_aload_n dL_law_281 rfl ?_
  refine V_iload dL_law_282 rfl ?_
  refine V_iconst dL_law_284 ?_
  refine V_iadd dL_law_285 ?_
  refine V_sld hX ⟨by omega, by omega⟩ hL dL_law_286 ?_
  refine V_aload_n dL_law_287 rfl ?_
  refine V_iload dL_law_288 rfl ?_
  refine V_iconst dL_law_290 ?_
  refine V_iadd dL_law_291 ?_
  refine V_sld hX ⟨by omega, by omega⟩ hL dL_law_292 ?_
  refine V_aload_n dL_law_293 rfl ?_
  refine V_iload dL_law_294 rfl ?_
  refine V_iconst dL_law_296 ?_
  refine V_iadd dL_law_297 ?_
  refine V_sld hX ⟨by omega, by omega⟩ hL dL_law_298 ?_
  refine V_aload_n dL_law_299 rfl ?_
  refine V_iload dL_law_300 rfl ?_
  refine V_iconst dL_law_302 ?_
  refine V_iadd dL_law_303 ?_
  refine V_sld hX ⟨by omega, by omega⟩ hL dL_law_304 ?_
  refine V_aload_n dL_law_305 rfl ?_
  refine V_iload dL_law_306 rfl ?_
  refine V_iconst dL_law_308 ?_
  refine V_iadd dL_law_309 ?_
  refine V_sld hX ⟨by omega, by omega⟩ hL dL_law_310 ?_
  refine V_aload_n dL_law_311 rfl ?_
  refine V_callSBH (As := [.ref (c 0), .int (zI (sc xs (i + 1))), .int (zI (sc xs (i + 2))), .int (zI (sc xs (i + 3))), .int (zI (sc xs (i + 4))), .int (zI (sc xs (i + 5))), .ref o]) (wr := mW a σ) (wc := fm (cO en c κ) ++ [(o, lE 1 g)]) rfl hK (l_addRead en c κ P o g (sc xs (i + 1)) (sc xs (i + 2)) (sc xs (i + 3)) (sc xs (i + 4)) (sc xs (i + 5)) hM hC (sc_R _ _) (sc_R _ _) (sc_R _ _) (sc_R _ _) (sc_R _ _)) mokL_addRead w697 w698 ⟨Nat.le_of_ble_eq_true rfl, Nat.le_of_ble_eq_true rfl⟩ rfl (Nat.le_of_ble_eq_true rfl) ⟨rm_k hk (Nat.le_of_ble_eq_true rfl), rm_n hn (Nat.le_of_ble_eq_true rfl)⟩ dL_law_312 (fun v w h => ?_)
  obtain ⟨c2, κ2, g2, rfl, rfl, e0, hC2, hn2, hz2⟩ := h
  show V K sL_law (k + 8) (n + 50) (wL3 en c2 a κ2 σ o g2) [some (.ref b), some (.ref (c 0)), some (.ref (a 0)), some (.ref o), some (.int (zI i)), none, none] [.int (zI ((sp_addRead P (sc xs (i + 1)) (sc xs (i + 2)) (sc xs (i + 3)) (sc xs (i + 4)) (sc xs (i + 5))).1))] 315
  refine V_istore (L' := [some (.ref b), some (.ref (c 0)), some (.ref (a 0)), some (.ref o), some (.int (zI i)), some (.int (zI ((sp_addRead P (sc xs (i + 1)) (sc xs (i + 2)) (sc xs (i + 3)) (sc xs (i + 4)) (sc xs (i + 5))).1))), none]) dL_law_315 (by decide) rfl ?_
  refine V_aload_n dL_law_317 rfl ?_
  refine V_aload_n dL_law_318 rfl ?_
  refine V_iload dL_law_319 rfl ?_
  refine V_iconst dL_law_321 ?_
  refine V_iadd dL_law_322 ?_
  refine V_sld hX ⟨by omega, by omega⟩ hL dL_law_323 ?_
  refine V_aload_n dL_law_324 rfl ?_
  refine V_iload dL_law_325 rfl ?_
  refine V_iconst dL_law_327 ?_
  refine V_iadd dL_law_328 ?_
  refine V_sld hX ⟨by omega, by omega⟩ hL dL_law_329 ?_
  refine V_aload_n dL_law_330 rfl ?_
  refine V_iload dL_law_331 rfl ?_
  refine V_iconst dL_law_333 ?_
  refine V_iadd dL_law_334 ?_
  refine V_sld hX ⟨by omega, by omega⟩ hL dL_law_335 ?_
  refine V_aload_n dL_law_336 rfl ?_
  refine V_iload dL_law_337 rfl ?_
  refine V_iconst dL_law_339 ?_
  refine V_iadd dL_law_340 ?_
  refine V_sld hX ⟨by omega, by omega⟩ hL dL_law_341 ?_
  refine V_aload_n dL_law_342 rfl ?_
  refine V_iload dL_law_343 rfl ?_
  refine V_iconst dL_law_345 ?_
  refine V_iadd dL_law_346 ?_
  refine V_sld hX ⟨by omega, by omega⟩ hL dL_law_347 ?_
  refine V_callVA (As := [.int (zI (sc xs (i + 1))), .int (zI (sc xs (i + 2))), .int (zI (sc xs (i + 3))), .int (zI (sc xs (i + 4))), .int (zI (sc xs (i + 5)))]) (b := a 0) (q0 := 0) (ci := 10) (fs := mF a σ) (T := TX11) (N := 30) rfl rfl (wc := mW a σ) (wr := fm (cO en c2 κ2) ++ [(o, lE 1 g2)]) rfl hK (c_addRead (EX.stb en) a σ (sc xs (i + 1)) (sc xs (i + 2)) (sc xs (i + 3)) (sc xs (i + 4)) (sc xs (i + 5)) P ⟨hM, hP, sc_R _ _, sc_R _ _, sc_R _ _, sc_R _ _, sc_R _ _⟩) mokX11_addRead w1176 w1177 w1178 ⟨Nat.le_of_ble_eq_true rfl, Nat.le_of_ble_eq_true rfl⟩ rfl (Nat.le_of_ble_eq_true rfl) ⟨rm_k (c := 8) hk (Nat.le_of_ble_eq_true rfl), rm_n (c := 50) hn (Nat.le_of_ble_eq_true rfl)⟩ dL_law_348 (fun v w h => ?_)
  obtain ⟨σ2, rfl, rfl, et, hP2⟩ := h
  show V K sL_law (k + 8) (n + 50) (wL3 en c2 a κ2 σ2 o g2) [some (.ref b), some (.ref (c 0)), some (.ref (a 0)), some (.ref o), some (.int (zI i)), some (.int (zI ((sp_addRead P (sc xs (i + 1)) (sc xs (i + 2)) (sc xs (i + 3)) (sc xs (i + 4)) (sc xs (i + 5))).1))), none] [.int (zI ((sp_addRead P (sc xs (i + 1)) (sc xs (i + 2)) (sc xs (i + 3)) (sc xs (i + 4)) (sc xs (i + 5))).2.1))] 351
  refine V_istore (L' := [some (.ref b), some (.ref (c 0)), some (.ref (a 0)), some (.ref o), some (.int (zI i)), some (.int (zI ((sp_addRead P (sc xs (i + 1)) (sc xs (i + 2)) (sc xs (i + 3)) (sc xs (i + 4)) (sc xs (i + 5))).1))), some (.int (zI ((sp_addRead P (sc xs (i + 1)) (sc xs (i + 2)) (sc xs (i + 3)) (sc xs (i + 4)) (sc xs (i + 5))).2.1)))]) dL_law_351 (by decide) rfl ?_
  refine V_aload_n dL_law_353 rfl ?_
  refine V_callVA (As := []) (b := a 0) (q0 := 0) (ci := 10) (fs := mF a σ2) (T := TX11) (N := 30) rfl rfl (wc := mW a σ2) (wr := fm (cO en c2 κ2) ++ [(o, lE 1 g2)]) rfl hK (c_thrown (EX.stb en) a σ2) mokX11_thrown w1161 w1162 w1163 ⟨Nat.le_of_ble_eq_true rfl, Nat.le_of_ble_eq_true rfl⟩ rfl (Nat.le_of_ble_eq_true rfl) ⟨rm_k (c := 8) hk (Nat.le_of_ble_eq_true rfl), rm_n (c := 50) hn (Nat.le_of_ble_eq_true rfl)⟩ dL_law_354 (fun v w h => ?_)
  obtain ⟨rfl, rfl⟩ := h
  show V K sL_law (k + 8) (n + 50) (wL3 en c2 a κ2 σ2 o g2) [some (.ref b), some (.ref (c 0)), some (.ref (a 0)), some (.ref o), some (.int (zI i)), some (.int (zI ((sp_addRead P (sc xs (i + 1)) (sc xs (i + 2)) (sc xs (i + 3)) (sc xs (i + 4)) (sc xs (i + 5))).1))), some (.int (zI ((sp_addRead P (sc xs (i + 1)) (sc xs (i + 2)) (sc xs (i + 3)) (sc xs (i + 4)) (sc xs (i + 5))).2.1)))] [.int (zI (σ2 1 29))] 357
  refine V_eqT (y := zI (sp_addRead P (sc xs (i + 1)) (sc xs (i + 2)) (sc xs (i + 3)) (sc xs (i + 4)) (sc xs (i + 5))).1) (by rw [et]) ?_
  refine V_iload dL_law_357 rfl ?_
  refine V_icmp_same (tgt := 364) dL_law_359 (by decide) ?_
  refine V_iload dL_law_364 rfl ?_
  refine V_if_ne (tgt := 381) dL_law_366 (by decide) ⟨by have := hn2; omega, by have := hn2; omega⟩ (fun h1 => ?_) (fun h1 => ?_)
  · refine V_goto (tgt := 2688) dL_law_381 (by decide) ?_
    refine V_mask (L' := [some (.ref b), some (.ref (c 0)), some (.ref (a 0)), some (.ref o), some (.int (zI i)), none, none]) [true, true, true, true, true, false, false] rfl ?_
    refine V_widen (k' := k + 8) (n' := n + 50) (by omega) (by omega) ?_
    exact hnext c2 κ2 σ2 _ g2 e0 (mi_addRead hM) hC2 hP2
  · refine V_aload_n dL_law_369 rfl ?_
    refine V_iconst dL_law_370 ?_
    refine V_lald (N := 1) _ (wL3_out en c2 a κ2 σ2 o g2) ⟨by decide, by decide⟩ (by decide) dL_law_371 ?_
    refine V_iload dL_law_372 rfl ?_
    refine V_i2l dL_law_374 ?_
    refine V_lcmp dL_law_375 ?_
    refine V_eqT (y := zI 0) (lg_eq (hz2 h1).1) ?_
    refine V_if_eq (tgt := 381) dL_law_376 (by decide) ⟨by omega, by omega⟩ (fun _ => ?_) (fun h => absurd rfl h)
    refine V_goto (tgt := 2688) dL_law_381 (by decide) ?_
    refine V_mask (L' := [some (.ref b), some (.ref (c 0)), some (.ref (a 0)), some (.ref o), some (.int (zI i)), none, none]) [true, true, true, true, true, false, false] rfl ?_
    refine V_widen (k' := k + 8) (n' := n + 50) (by omega) (by omega) ?_
    exact hnext c2 κ2 σ2 _ g2 e0 (mi_addRead hM) hC2 hP2
set_option maxRecDepth 100000 in
set_option maxHeartbeats 4000000 in
theorem law_dropReads {K : KT} {en c a : Nat → Nat} {κ σ P : St} {o b Ln k n : Nat} {xs : Nat → Int32} {g : Nat → Int64} {i : Int} (hK : evK K = EX en) (hX : scK K b Ln xs) (hL : Ln ≤ 3072) (hi : 0 ≤ i ∧ i + 6 ≤ (Ln : Int)) (hk : k + 8 ≤ 601024) (hn : n + 50 ≤ 7293034) (hM : MI P) (hC : CWP P κ) (hP : PR P σ)
    (hnext : ∀ (c2 : Nat → Nat) (κ2 σ2 P2 : St) (g2 : Nat → Int64), c2 0 = c 0 → MI P2 → CWP P2 κ2 → PR P2 σ2 → V K sL_law (k + 8) (n + 50) (wL3 en c2 a κ2 σ2 o g2) [some (.ref b), some (.ref (c 0)), some (.ref (a 0)), some (.ref o), some (.int (zI i)), none, none] [] 2688) : V K sL_law k n (wL3 en c a κ σ o g) [some (.ref b), some (.ref (c 0)), some (.ref (a 0)), some (.ref o), some (.int (zI i)), none, none] [] 384 := by
  refine V_aload_n dL_law_384 rfl ?_
  refine V_aload_n dL_law_385 rfl ?_
  refine V_iload dL_law_386 rfl ?_
  refine V_iconst dL_law_388 ?_
  refine V_iadd dL_law_389 ?_
  refine V_sld hX ⟨by omega, by omega⟩ hL dL_law_390 ?_
  refine V_aload_n dL_law_391 rfl ?_
  refine V_callSBH (As := [.ref (c 0), .int (zI (sc xs (i + 1))), .ref o]) (wr := mW a σ) (wc := fm (cO en c κ) ++ [(o, lE 1 g)]) rfl hK (l_dropReads en c κ P o g (sc xs (i + 1)) hM hC (sc_R _ _)) mokL_dropReads w755 w756 ⟨Nat.le_of_ble_eq_true rfl, Nat.le_of_ble_eq_true rfl⟩ rfl (Nat.le_of_ble_eq_true rfl) ⟨rm_k hk (Nat.le_of_ble_eq_true rfl), rm_n hn (Nat.le_of_ble_eq_true rfl)⟩ dL_law_392 (fun v w h => ?_)
  obtain ⟨c2, κ2, g2, rfl, rfl, e0, hC2, hn2, hz2⟩ := h
  show V K sL_law (k + 1) (n + 6) (wL3 en c2 a κ2 σ o g2) [some (.ref b), some (.ref (c 0)), some (.ref (a 0)), some (.ref o), some (.int (zI i)), none, none] [.int (zI ((sp_dropReads P (sc xs (i + 1))).1))] 395
  refine V_istore (L' := [some (.ref b), some (.ref (c 0)), some (.ref (a 0)), some (.ref o), some (.int (zI i)), some (.int (zI ((sp_dropReads P (sc xs (i + 1))).1))), none]) dL_law_395 (by decide) rfl ?_
  refine V_aload_n dL_law_397 rfl ?_
  refine V_aload_n dL_law_398 rfl ?_
  refine V_iload dL_law_399 rfl ?_
  refine V_iconst dL_law_401 ?_
  refine V_iadd dL_law_402 ?_
  refine V_sld hX ⟨by omega, by omega⟩ hL dL_law_403 ?_
  refine V_callVA (As := [.int (zI (sc xs (i + 1)))]) (b := a 0) (q0 := 0) (ci := 10) (fs := mF a σ) (T := TX11) (N := 30) rfl rfl (wc := mW a σ) (wr := fm (cO en c2 κ2) ++ [(o, lE 1 g2)]) rfl hK (c_dropReads (EX.stb en) a σ (sc xs (i + 1)) P ⟨hM, hP, sc_R _ _⟩) mokX11_dropReads w1184 w1185 w1186 ⟨Nat.le_of_ble_eq_true rfl, Nat.le_of_ble_eq_true rfl⟩ rfl (Nat.le_of_ble_eq_true rfl) ⟨rm_k (c := 1) hk (Nat.le_of_ble_eq_true rfl), rm_n (c := 6) hn (Nat.le_of_ble_eq_true rfl)⟩ dL_law_404 (fun v w h => ?_)
  obtain ⟨σ2, rfl, rfl, et, hP2⟩ := h
  show V K sL_law (k + 1) (n + 6) (wL3 en c2 a κ2 σ2 o g2) [some (.ref b), some (.ref (c 0)), some (.ref (a 0)), some (.ref o), some (.int (zI i)), some (.int (zI ((sp_dropReads P (sc xs (i + 1))).1))), none] [.int (zI ((sp_dropReads P (sc xs (i + 1))).2.1))] 407
  refine V_istore (L' := [some (.ref b), some (.ref (c 0)), some (.ref (a 0)), some (.ref o), some (.int (zI i)), some (.int (zI ((sp_dropReads P (sc xs (i + 1))).1))), some (.int (zI ((sp_dropReads P (sc xs (i + 1))).2.1)))]) dL_law_407 (by decide) rfl ?_
  refine V_aload_n dL_law_409 rfl ?_
  refine V_callVA (As := []) (b := a 0) (q0 := 0) (ci := 10) (fs := mF a σ2) (T := TX11) (N := 30) rfl rfl (wc := mW a σ2) (wr := fm (cO en c2 κ2) ++ [(o, lE 1 g2)]) rfl hK (c_thrown (EX.stb en) a σ2) mokX11_thrown w1161 w1162 w1163 ⟨Nat.le_of_ble_eq_true rfl, Nat.le_of_ble_eq_true rfl⟩ rfl (Nat.le_of_ble_eq_true rfl) ⟨rm_k (c := 1) hk (Nat.le_of_ble_eq_true rfl), rm_n (c := 6) hn (Nat.le_of_ble_eq_true rfl)⟩ dL_law_410 (fun v w h => ?_)
  obtain ⟨rfl, rfl⟩ := h
  show V K sL_law (k + 1) (n + 6) (wL3 en c2 a κ2 σ2 o g2) [some (.ref b), some (.ref (c 0)), some (.ref (a 0)), some (.ref o), some (.int (zI i)), some (.int (zI ((sp_dropReads P (sc xs (i + 1))).1))), some (.int (zI ((sp_dropReads P (sc xs (i + 1))).2.1)))] [.int (zI (σ2 1 29))] 413
  refine V_eqT (y := zI (sp_dropReads P (sc xs (i + 1))).1) (by rw [et]) ?_
  refine V_iload dL_law_413 rfl ?_
  refine V_icmp_same (tgt := 420) dL_law_415 (by decide) ?_
  refine V_iload dL_law_420 rfl ?_
  refine V_if_ne (tgt := 437) dL_law_422 (by decide) ⟨by have := hn2; omega, by have := hn2; omega⟩ (fun h1 => ?_) (fun h1 => ?_)
  · refine V_goto (tgt := 2688) dL_law_437 (by decide) ?_
    refine V_mask (L' := [some (.ref b), some (.ref (c 0)), some (.ref (a 0)), some (.ref o), some (.int (zI i)), none, none]) [true, true, true, true, true, false, false] rfl ?_
    refine V_widen (k' := k + 8) (n' := n + 50) (by omega) (by omega) ?_
    exact hnext c2 κ2 σ2 _ g2 e0 (mi_dropReads hM) hC2 hP2
  · refine V_aload_n dL_law_425 rfl ?_
    refine V_iconst dL_law_426 ?_
    refine V_lald (N := 1) _ (wL3_out en c2 a κ2 σ2 o g2) ⟨by decide, by decide⟩ (by decide) dL_law_427 ?_
    refine V_iload dL_law_428 rfl ?_
    refine V_i2l dL_law_430 ?_
    refine V_lcmp dL_law_431 ?_
    refine V_eqT (y := zI 0) (lg_eq (hz2 h1).1) ?_
    refine V_if_eq (tgt := 437) dL_law_432 (by decide) ⟨by omega, by omega⟩ (fun _ => ?_) (fun h => absurd rfl h)
    refine V_goto (tgt := 2688) dL_law_437 (by decide) ?_
    refine V_mask (L' := [some (.ref b), some (.ref (c 0)), some (.ref (a 0)), some (.ref o), some (.int (zI i)), none, none]) [true, true, true, true, true, false, false] rfl ?_
    refine V_widen (k' := k + 8) (n' := n + 50) (by omega) (by omega) ?_
    exact hnext c2 κ2 σ2 _ g2 e0 (mi_dropReads hM) hC2 hP2
set_option maxRecDepth 100000 in
set_option maxHeartbeats 4000000 in
theorem law_setLasting {K : KT} {en c a : Nat → Nat} {κ σ P : St} {o b Ln k n : Nat} {xs : Nat → Int32} {g : Nat → Int64} {i : Int} (hK : evK K = EX en) (hX : scK K b Ln xs) (hL : Ln ≤ 3072) (hi : 0 ≤ i ∧ i + 6 ≤ (Ln : Int)) (hk : k + 8 ≤ 601024) (hn : n + 50 ≤ 7293034) (hM : MI P) (hC : CWP P κ) (hP : PR P σ)
    (hnext : ∀ (c2 : Nat → Nat) (κ2 σ2 P2 : St) (g2 : Nat → Int64), c2 0 = c 0 → MI P2 → CWP P2 κ2 → PR P2 σ2 → V K sL_law (k + 8) (n + 50) (wL3 en c2 a κ2 σ2 o g2) [some (.ref b), some (.ref (c 0)), some (.ref (a 0)), some (.ref o), some (.int (zI i)), none, none] [] 2688) : V K sL_law k n (wL3 en c a κ σ o g) [some (.ref b), some (.ref (c 0)), some (.ref (a 0)), some (.ref o), some (.int (zI i)), none, none] [] 440 := by
  refine V_aload_n dL_law_440 rfl ?_
  refine V_aload_n dL_law_441 rfl ?_
  refine V_iload dL_law_442 rfl ?_
  refine V_iconst dL_law_444 ?_
  refine V_iadd dL_law_445 ?_
  refine V_sld hX ⟨by omega, by omega⟩ hL dL_law_446 ?_
  refine V_aload_n dL_law_447 rfl ?_
  refine V_iload dL_law_448 rfl ?_
  refine V_iconst dL_law_450 ?_
  refine V_iadd dL_law_451 ?_
  refine V_sld hX ⟨by omega, by omega⟩ hL dL_law_452 ?_
  by_cases hb : sc xs (i + 2) = 0
  · refine V_if_eq (tgt := 460) dL_law_453 (by decide) (sc_R _ _) (fun _ => ?_) (fun h => absurd hb h)
    refine V_iconst dL_law_460 ?_
    refine V_aload_n dL_law_461 rfl ?_
    refine V_callSBH (As := [.ref (c 0), .int (zI (sc xs (i + 1))), .int (zI 0), .ref o]) (wr := mW a σ) (wc := fm (cO en c κ) ++ [(o, lE 1 g)]) rfl hK (l_setLasting en c κ P o g (sc xs (i + 1)) 0 hM hC (sc_R _ _) (Or.inl rfl)) mokL_setLasting w766 w767 ⟨Nat.le_of_ble_eq_true rfl, Nat.le_of_ble_eq_true rfl⟩ rfl (Nat.le_of_ble_eq_true rfl) ⟨rm_k hk (Nat.le_of_ble_eq_true rfl), rm_n hn (Nat.le_of_ble_eq_true rfl)⟩ dL_law_462 (fun v w h => ?_)
    obtain ⟨c2, κ2, g2, rfl, rfl, e0, hC2, hn2, hz2⟩ := h
    show V K sL_law (k + 1) (n + 6) (wL3 en c2 a κ2 σ o g2) [some (.ref b), some (.ref (c 0)), some (.ref (a 0)), some (.ref o), some (.int (zI i)), none, none] [.int (zI ((sp_setLasting P (sc xs (i + 1)) 0).1))] 465
    refine V_istore (L' := [some (.ref b), some (.ref (c 0)), some (.ref (a 0)), some (.ref o), some (.int (zI i)), some (.int (zI ((sp_setLasting P (sc xs (i + 1)) 0).1))), none]) dL_law_465 (by decide) rfl ?_
    refine V_aload_n dL_law_467 rfl ?_
    refine V_aload_n dL_law_468 rfl ?_
    refine V_iload dL_law_469 rfl ?_
    refine V_iconst dL_law_471 ?_
    refine V_iadd dL_law_472 ?_
    refine V_sld hX ⟨by omega, by omega⟩ hL dL_law_473 ?_
    refine V_aload_n dL_law_474 rfl ?_
    refine V_iload dL_law_475 rfl ?_
    refine V_iconst dL_law_477 ?_
    refine V_iadd dL_law_478 ?_
    refine V_sld hX ⟨by omega, by omega⟩ hL dL_law_479 ?_
    refine V_if_eq (tgt := 487) dL_law_480 (by decide) (sc_R _ _) (fun _ => ?_) (fun h => absurd hb h)
    refine V_iconst dL_law_487 ?_
    refine V_callVA (As := [.int (zI (sc xs (i + 1))), .int (zI 0)]) (b := a 0) (q0 := 0) (ci := 10) (fs := mF a σ) (T := TX11) (N := 30) rfl rfl (wc := mW a σ) (wr := fm (cO en c2 κ2) ++ [(o, lE 1 g2)]) rfl hK (c_setLasting (EX.stb en) a σ (sc xs (i + 1)) 0 P ⟨hM, hP, sc_R _ _, Or.inl rfl⟩) mokX11_setLasting w1188 w1189 w1190 ⟨Nat.le_of_ble_eq_true rfl, Nat.le_of_ble_eq_true rfl⟩ rfl (Nat.le_of_ble_eq_true rfl) ⟨rm_k (c := 1) hk (Nat.le_of_ble_eq_true rfl), rm_n (c := 6) hn (Nat.le_of_ble_eq_true rfl)⟩ dL_law_488 (fun v w h => ?_)
    obtain ⟨σ2, rfl, rfl, et, hP2⟩ := h
    show V K sL_law (k + 1) (n + 6) (wL3 en c2 a κ2 σ2 o g2) [some (.ref b), some (.ref (c 0)), some (.ref (a 0)), some (.ref o), some (.int (zI i)), some (.int (zI ((sp_setLasting P (sc xs (i + 1)) 0).1))), none] [.int (zI ((sp_setLasting P (sc xs (i + 1)) 0).2.1))] 491
    refine V_istore (L' := [some (.ref b), some (.ref (c 0)), some (.ref (a 0)), some (.ref o), some (.int (zI i)), some (.int (zI ((sp_setLasting P (sc xs (i + 1)) 0).1))), some (.int (zI ((sp_setLasting P (sc xs (i + 1)) 0).2.1)))]) dL_law_491 (by decide) rfl ?_
    refine V_aload_n dL_law_493 rfl ?_
    refine V_callVA (As := []) (b := a 0) (q0 := 0) (ci := 10) (fs := mF a σ2) (T := TX11) (N := 30) rfl rfl (wc := mW a σ2) (wr := fm (cO en c2 κ2) ++ [(o, lE 1 g2)]) rfl hK (c_thrown (EX.stb en) a σ2) mokX11_thrown w1161 w1162 w1163 ⟨Nat.le_of_ble_eq_true rfl, Nat.le_of_ble_eq_true rfl⟩ rfl (Nat.le_of_ble_eq_true rfl) ⟨rm_k (c := 1) hk (Nat.le_of_ble_eq_true rfl), rm_n (c := 6) hn (Nat.le_of_ble_eq_true rfl)⟩ dL_law_494 (fun v w h => ?_)
    obtain ⟨rfl, rfl⟩ := h
    show V K sL_law (k + 1) (n + 6) (wL3 en c2 a κ2 σ2 o g2) [some (.ref b), some (.ref (c 0)), some (.ref (a 0)), some (.ref o), some (.int (zI i)), some (.int (zI ((sp_setLasting P (sc xs (i + 1)) 0).1))), some (.int (zI ((sp_setLasting P (sc xs (i + 1)) 0).2.1)))] [.int (zI (σ2 1 29))] 497
    refine V_eqT (y := zI (sp_setLasting P (sc xs (i + 1)) 0).1) (by rw [et]) ?_
    refine V_iload dL_law_497 rfl ?_
    refine V_icmp_same (tgt := 504) dL_law_499 (by decide) ?_
    refine V_iload dL_law_504 rfl ?_
    refine V_if_ne (tgt := 528) dL_law_506 (by decide) ⟨by have := hn2; omega, by have := hn2; omega⟩ (fun h1 => ?_) (fun h1 => ?_)
    · refine V_goto (tgt := 2688) dL_law_528 (by decide) ?_
      refine V_mask (L' := [some (.ref b), some (.ref (c 0)), some (.ref (a 0)), some (.ref o), some (.int (zI i)), none, none]) [true, true, true, true, true, false, false] rfl ?_
      refine V_widen (k' := k + 8) (n' := n + 50) (by omega) (by omega) ?_
      exact hnext c2 κ2 σ2 _ g2 e0 (mi_setLasting hM (Or.inl rfl)) hC2 hP2
    · refine V_aload_n dL_law_509 rfl ?_
      refine V_iconst dL_law_510 ?_
      refine V_lald (N := 1) _ (wL3_out en c2 a κ2 σ2 o g2) ⟨by decide, by decide⟩ (by decide) dL_law_511 ?_
      refine V_iload dL_law_512 rfl ?_
      have v3 := (hz2 h1).2 rfl
      refine V_if_eq (tgt := 521) dL_law_514 (by decide) ⟨by omega, by omega⟩ (fun h2 => ?_) (fun h2 => ?_)
      · refine V_lconst dL_law_521 ?_
        refine V_lcmp dL_law_522 ?_
        refine V_eqT (y := zI 0) (lg_eq ((hz2 h1).1.trans (by rw [h2]; rfl))) ?_
        refine V_if_eq (tgt := 528) dL_law_523 (by decide) ⟨by omega, by omega⟩ (fun _ => ?_) (fun h => absurd rfl h)
        refine V_goto (tgt := 2688) dL_law_528 (by decide) ?_
        refine V_mask (L' := [some (.ref b), some (.ref (c 0)), some (.ref (a 0)), some (.ref o), some (.int (zI i)), none, none]) [true, true, true, true, true, false, false] rfl ?_
        refine V_widen (k' := k + 8) (n' := n + 50) (by omega) (by omega) ?_
        exact hnext c2 κ2 σ2 _ g2 e0 (mi_setLasting hM (Or.inl rfl)) hC2 hP2
      · refine V_lconst dL_law_517 ?_
        refine V_goto (tgt := 522) dL_law_518 (by decide) ?_
        refine V_lcmp dL_law_522 ?_
        refine V_eqT (y := zI 0) (lg_eq ((hz2 h1).1.trans (by rw [show (sp_setLasting P (sc xs (i + 1)) 0).2.1 = 1 by omega]; rfl))) ?_
        refine V_if_eq (tgt := 528) dL_law_523 (by decide) ⟨by omega, by omega⟩ (fun _ => ?_) (fun h => absurd rfl h)
        refine V_goto (tgt := 2688) dL_law_528 (by decide) ?_
        refine V_mask (L' := [some (.ref b), some (.ref (c 0)), some (.ref (a 0)), some (.ref o), some (.int (zI i)), none, none]) [true, true, true, true, true, false, false] rfl ?_
        refine V_widen (k' := k + 8) (n' := n + 50) (by omega) (by omega) ?_
        exact hnext c2 κ2 σ2 _ g2 e0 (mi_setLasting hM (Or.inl rfl)) hC2 hP2
  · refine V_if_eq (tgt := 460) dL_law_453 (by decide) (sc_R _ _) (fun h => absurd h hb) (fun _ => ?_)
    refine V_iconst dL_law_456 ?_
    refine V_goto (tgt := 461) dL_law_457 (by decide) ?_
    refine V_aload_n dL_law_461 rfl ?_
    refine V_callSBH (As := [.ref (c 0), .int (zI (sc xs (i + 1))), .int (zI 1), .ref o]) (wr := mW a σ) (wc := fm (cO en c κ) ++ [(o, lE 1 g)]) rfl hK (l_setLasting en c κ P o g (sc xs (i + 1)) 1 hM hC (sc_R _ _) (Or.inr rfl)) mokL_setLasting w766 w767 ⟨Nat.le_of_ble_eq_true rfl, Nat.le_of_ble_eq_true rfl⟩ rfl (Nat.le_of_ble_eq_true rfl) ⟨rm_k hk (Nat.le_of_ble_eq_true rfl), rm_n hn (Nat.le_of_ble_eq_true rfl)⟩ dL_law_462 (fun v w h => ?_)
    obtain ⟨c2, κ2, g2, rfl, rfl, e0, hC2, hn2, hz2⟩ := h
    show V K sL_law (k + 1) (n + 6) (wL3 en c2 a κ2 σ o g2) [some (.ref b), some (.ref (c 0)), some (.ref (a 0)), some (.ref o), some (.int (zI i)), none, none] [.int (zI ((sp_setLasting P (sc xs (i + 1)) 1).1))] 465
    refine V_istore (L' := [some (.ref b), some (.ref (c 0)), some (.ref (a 0)), some (.ref o), some (.int (zI i)), some (.int (zI ((sp_setLasting P (sc xs (i + 1)) 1).1))), none]) dL_law_465 (by decide) rfl ?_
    refine V_aload_n dL_law_467 rfl ?_
    refine V_aload_n dL_law_468 rfl ?_
    refine V_iload dL_law_469 rfl ?_
    refine V_iconst dL_law_471 ?_
    refine V_iadd dL_law_472 ?_
    refine V_sld hX ⟨by omega, by omega⟩ hL dL_law_473 ?_
    refine V_aload_n dL_law_474 rfl ?_
    refine V_iload dL_law_475 rfl ?_
    refine V_iconst dL_law_477 ?_
    refine V_iadd dL_law_478 ?_
    refine V_sld hX ⟨by omega, by omega⟩ hL dL_law_479 ?_
    refine V_if_eq (tgt := 487) dL_law_480 (by decide) (sc_R _ _) (fun h => absurd h hb) (fun _ => ?_)
    refine V_iconst dL_law_483 ?_
    refine V_goto (tgt := 488) dL_law_484 (by decide) ?_
    refine V_callVA (As := [.int (zI (sc xs (i + 1))), .int (zI 1)]) (b := a 0) (q0 := 0) (ci := 10) (fs := mF a σ) (T := TX11) (N := 30) rfl rfl (wc := mW a σ) (wr := fm (cO en c2 κ2) ++ [(o, lE 1 g2)]) rfl hK (c_setLasting (EX.stb en) a σ (sc xs (i + 1)) 1 P ⟨hM, hP, sc_R _ _, Or.inr rfl⟩) mokX11_setLasting w1188 w1189 w1190 ⟨Nat.le_of_ble_eq_true rfl, Nat.le_of_ble_eq_true rfl⟩ rfl (Nat.le_of_ble_eq_true rfl) ⟨rm_k (c := 1) hk (Nat.le_of_ble_eq_true rfl), rm_n (c := 6) hn (Nat.le_of_ble_eq_true rfl)⟩ dL_law_488 (fun v w h => ?_)
    obtain ⟨σ2, rfl, rfl, et, hP2⟩ := h
    show V K sL_law (k + 1) (n + 6) (wL3 en c2 a κ2 σ2 o g2) [some (.ref b), some (.ref (c 0)), some (.ref (a 0)), some (.ref o), some (.int (zI i)), some (.int (zI ((sp_setLasting P (sc xs (i + 1)) 1).1))), none] [.int (zI ((sp_setLasting P (sc xs (i + 1)) 1).2.1))] 491
    refine V_istore (L' := [some (.ref b), some (.ref (c 0)), some (.ref (a 0)), some (.ref o), some (.int (zI i)), some (.int (zI ((sp_setLasting P (sc xs (i + 1)) 1).1))), some (.int (zI ((sp_setLasting P (sc xs (i + 1)) 1).2.1)))]) dL_law_491 (by decide) rfl ?_
    refine V_aload_n dL_law_493 rfl ?_
    refine V_callVA (As := []) (b := a 0) (q0 := 0) (ci := 10) (fs := mF a σ2) (T := TX11) (N := 30) rfl rfl (wc := mW a σ2) (wr := fm (cO en c2 κ2) ++ [(o, lE 1 g2)]) rfl hK (c_thrown (EX.stb en) a σ2) mokX11_thrown w1161 w1162 w1163 ⟨Nat.le_of_ble_eq_true rfl, Nat.le_of_ble_eq_true rfl⟩ rfl (Nat.le_of_ble_eq_true rfl) ⟨rm_k (c := 1) hk (Nat.le_of_ble_eq_true rfl), rm_n (c := 6) hn (Nat.le_of_ble_eq_true rfl)⟩ dL_law_494 (fun v w h => ?_)
    obtain ⟨rfl, rfl⟩ := h
    show V K sL_law (k + 1) (n + 6) (wL3 en c2 a κ2 σ2 o g2) [some (.ref b), some (.ref (c 0)), some (.ref (a 0)), some (.ref o), some (.int (zI i)), some (.int (zI ((sp_setLasting P (sc xs (i + 1)) 1).1))), some (.int (zI ((sp_setLasting P (sc xs (i + 1)) 1).2.1)))] [.int (zI (σ2 1 29))] 497
    refine V_eqT (y := zI (sp_setLasting P (sc xs (i + 1)) 1).1) (by rw [et]) ?_
    refine V_iload dL_law_497 rfl ?_
    refine V_icmp_same (tgt := 504) dL_law_499 (by decide) ?_
    refine V_iload dL_law_504 rfl ?_
    refine V_if_ne (tgt := 528) dL_law_506 (by decide) ⟨by have := hn2; omega, by have := hn2; omega⟩ (fun h4 => ?_) (fun h4 => ?_)
    · refine V_goto (tgt := 2688) dL_law_528 (by decide) ?_
      refine V_mask (L' := [some (.ref b), some (.ref (c 0)), some (.ref (a 0)), some (.ref o), some (.int (zI i)), none, none]) [true, true, true, true, true, false, false] rfl ?_
      refine V_widen (k' := k + 8) (n' := n + 50) (by omega) (by omega) ?_
      exact hnext c2 κ2 σ2 _ g2 e0 (mi_setLasting hM (Or.inr rfl)) hC2 hP2
    · refine V_aload_n dL_law_509 rfl ?_
      refine V_iconst dL_law_510 ?_
      refine V_lald (N := 1) _ (wL3_out en c2 a κ2 σ2 o g2) ⟨by decide, by decide⟩ (by decide) dL_law_511 ?_
      refine V_iload dL_law_512 rfl ?_
      have v6 := (hz2 h4).2 rfl
      refine V_if_eq (tgt := 521) dL_law_514 (by decide) ⟨by omega, by omega⟩ (fun h5 => ?_) (fun h5 => ?_)
      · refine V_lconst dL_law_521 ?_
        refine V_lcmp dL_law_522 ?_
        refine V_eqT (y := zI 0) (lg_eq ((hz2 h4).1.trans (by rw [h5]; rfl))) ?_
        refine V_if_eq (tgt := 528) dL_law_523 (by decide) ⟨by omega, by omega⟩ (fun _ => ?_) (fun h => absurd rfl h)
        refine V_goto (tgt := 2688) dL_law_528 (by decide) ?_
        refine V_mask (L' := [some (.ref b), some (.ref (c 0)), some (.ref (a 0)), some (.ref o), some (.int (zI i)), none, none]) [true, true, true, true, true, false, false] rfl ?_
        refine V_widen (k' := k + 8) (n' := n + 50) (by omega) (by omega) ?_
        exact hnext c2 κ2 σ2 _ g2 e0 (mi_setLasting hM (Or.inr rfl)) hC2 hP2
      · refine V_lconst dL_law_517 ?_
        refine V_goto (tgt := 522) dL_law_518 (by decide) ?_
        refine V_lcmp dL_law_522 ?_
        refine V_eqT (y := zI 0) (lg_eq ((hz2 h4).1.trans (by rw [show (sp_setLasting P (sc xs (i + 1)) 1).2.1 = 1 by omega]; rfl))) ?_
        refine V_if_eq (tgt := 528) dL_law_523 (by decide) ⟨by omega, by omega⟩ (fun _ => ?_) (fun h => absurd rfl h)
        refine V_goto (tgt := 2688) dL_law_528 (by decide) ?_
        refine V_mask (L' := [some (.ref b), some (.ref (c 0)), some (.ref (a 0)), some (.ref o), some (.int (zI i)), none, none]) [true, true, true, true, true, false, false] rfl ?_
        refine V_widen (k' := k + 8) (n' := n + 50) (by omega) (by omega) ?_
        exact hnext c2 κ2 σ2 _ g2 e0 (mi_setLasting hM (Or.inr rfl)) hC2 hP2
set_option maxRecDepth 100000 in
set_option maxHeartbeats 4000000 in
theorem law_setField {K : KT} {en c a : Nat → Nat} {κ σ P : St} {o b Ln k n : Nat} {xs : Nat → Int32} {g : Nat → Int64} {i : Int} (hK : evK K = EX en) (hX : scK K b Ln xs) (hL : Ln ≤ 3072) (hi : 0 ≤ i ∧ i + 6 ≤ (Ln : Int)) (hk : k + 8 ≤ 601024) (hn : n + 50 ≤ 7293034) (hM : MI P) (hC : CWP P κ) (hP : PR P σ)
    (hnext : ∀ (c2 : Nat → Nat) (κ2 σ2 P2 : St) (g2 : Nat → Int64), c2 0 = c 0 → MI P2 → CWP P2 κ2 → PR P2 σ2 → V K sL_law (k + 8) (n + 50) (wL3 en c2 a κ2 σ2 o g2) [some (.ref b), some (.ref (c 0)), some (.ref (a 0)), some (.ref o), some (.int (zI i)), none, none] [] 2688) : V K sL_law k n (wL3 en c a κ σ o g) [some (.ref b), some (.ref (c 0)), some (.ref (a 0)), some (.ref o), some (.int (zI i)), none, none] [] 531 := by
  refine V_aload_n dL_law_531 rfl ?_
  refine V_aload_n dL_law_532 rfl ?_
  refine V_iload dL_law_533 rfl ?_
  refine V_iconst dL_law_535 ?_
  refine V_iadd dL_law_536 ?_
  refine V_sld hX ⟨by omega, by omega⟩ hL dL_law_537 ?_
  refine V_aload_n dL_law_538 rfl ?_
  refine V_iload dL_law_539 rfl ?_
  refine V_iconst dL_law_541 ?_
  refine V_iadd dL_law_542 ?_
  refine V_sld hX ⟨by omega, by omega⟩ hL dL_law_543 ?_
  refine V_aload_n dL_law_544 rfl ?_
  refine V_callSBH (As := [.ref (c 0), .int (zI (sc xs (i + 1))), .int (zI (sc xs (i + 2))), .ref o]) (wr := mW a σ) (wc := fm (cO en c κ) ++ [(o, lE 1 g)]) rfl hK (l_setField en c κ P o g (sc xs (i + 1)) (sc xs (i + 2)) hM hC (sc_R _ _) (sc_R _ _)) mokL_setField w773 w774 ⟨Nat.le_of_ble_eq_true rfl, Nat.le_of_ble_eq_true rfl⟩ rfl (Nat.le_of_ble_eq_true rfl) ⟨rm_k hk (Nat.le_of_ble_eq_true rfl), rm_n hn (Nat.le_of_ble_eq_true rfl)⟩ dL_law_545 (fun v w h => ?_)
  obtain ⟨c2, κ2, g2, rfl, rfl, e0, hC2, hn2, hz2⟩ := h
  show V K sL_law (k + 2) (n + 12) (wL3 en c2 a κ2 σ o g2) [some (.ref b), some (.ref (c 0)), some (.ref (a 0)), some (.ref o), some (.int (zI i)), none, none] [.int (zI ((sp_setField P (sc xs (i + 1)) (sc xs (i + 2))).1))] 548
  refine V_istore (L' := [some (.ref b), some (.ref (c 0)), some (.ref (a 0)), some (.ref o), some (.int (zI i)), some (.int (zI ((sp_setField P (sc xs (i + 1)) (sc xs (i + 2))).1))), none]) dL_law_548 (by decide) rfl ?_
  refine V_aload_n dL_law_550 rfl ?_
  refine V_aload_n dL_law_551 rfl ?_
  refine V_iload dL_law_552 rfl ?_
  refine V_iconst dL_law_554 ?_
  refine V_iadd dL_law_555 ?_
  refine V_sld hX ⟨by omega, by omega⟩ hL dL_law_556 ?_
  refine V_aload_n dL_law_557 rfl ?_
  refine V_iload dL_law_558 rfl ?_
  refine V_iconst dL_law_560 ?_
  refine V_iadd dL_law_561 ?_
  refine V_sld hX ⟨by omega, by omega⟩ hL dL_law_562 ?_
  refine V_callVA (As := [.int (zI (sc xs (i + 1))), .int (zI (sc xs (i + 2)))]) (b := a 0) (q0 := 0) (ci := 10) (fs := mF a σ) (T := TX11) (N := 30) rfl rfl (wc := mW a σ) (wr := fm (cO en c2 κ2) ++ [(o, lE 1 g2)]) rfl hK (c_setField (EX.stb en) a σ (sc xs (i + 1)) (sc xs (i + 2)) P ⟨hM, hP, sc_R _ _, sc_R _ _⟩) mokX11_setField w1192 w1193 w1194 ⟨Nat.le_of_ble_eq_true rfl, Nat.le_of_ble_eq_true rfl⟩ rfl (Nat.le_of_ble_eq_true rfl) ⟨rm_k (c := 2) hk (Nat.le_of_ble_eq_true rfl), rm_n (c := 12) hn (Nat.le_of_ble_eq_true rfl)⟩ dL_law_563 (fun v w h => ?_)
  obtain ⟨σ2, rfl, rfl, et, hP2⟩ := h
  show V K sL_law (k + 2) (n + 12) (wL3 en c2 a κ2 σ2 o g2) [some (.ref b), some (.ref (c 0)), some (.ref (a 0)), some (.ref o), some (.int (zI i)), some (.int (zI ((sp_setField P (sc xs (i + 1)) (sc xs (i + 2))).1))), none] [.int (zI ((sp_setField P (sc xs (i + 1)) (sc xs (i + 2))).2.1))] 566
  refine V_istore (L' := [some (.ref b), some (.ref (c 0)), some (.ref (a 0)), some (.ref o), some (.int (zI i)), some (.int (zI ((sp_setField P (sc xs (i + 1)) (sc xs (i + 2))).1))), some (.int (zI ((sp_setField P (sc xs (i + 1)) (sc xs (i + 2))).2.1)))]) dL_law_566 (by decide) rfl ?_
  refine V_aload_n dL_law_568 rfl ?_
  refine V_callVA (As := []) (b := a 0) (q0 := 0) (ci := 10) (fs := mF a σ2) (T := TX11) (N := 30) rfl rfl (wc := mW a σ2) (wr := fm (cO en c2 κ2) ++ [(o, lE 1 g2)]) rfl hK (c_thrown (EX.stb en) a σ2) mokX11_thrown w1161 w1162 w1163 ⟨Nat.le_of_ble_eq_true rfl, Nat.le_of_ble_eq_true rfl⟩ rfl (Nat.le_of_ble_eq_true rfl) ⟨rm_k (c := 2) hk (Nat.le_of_ble_eq_true rfl), rm_n (c := 12) hn (Nat.le_of_ble_eq_true rfl)⟩ dL_law_569 (fun v w h => ?_)
  obtain ⟨rfl, rfl⟩ := h
  show V K sL_law (k + 2) (n + 12) (wL3 en c2 a κ2 σ2 o g2) [some (.ref b), some (.ref (c 0)), some (.ref (a 0)), some (.ref o), some (.int (zI i)), some (.int (zI ((sp_setField P (sc xs (i + 1)) (sc xs (i + 2))).1))), some (.int (zI ((sp_setField P (sc xs (i + 1)) (sc xs (i + 2))).2.1)))] [.int (zI (σ2 1 29))] 572
  refine V_eqT (y := zI (sp_setField P (sc xs (i + 1)) (sc xs (i + 2))).1) (by rw [et]) ?_
  refine V_iload dL_law_572 rfl ?_
  refine V_icmp_same (tgt := 579) dL_law_574 (by decide) ?_
  refine V_iload dL_law_579 rfl ?_
  refine V_if_ne (tgt := 596) dL_law_581 (by decide) ⟨by have := hn2; omega, by have := hn2; omega⟩ (fun h1 => ?_) (fun h1 => ?_)
  · refine V_goto (tgt := 2688) dL_law_596 (by decide) ?_
    refine V_mask (L' := [some (.ref b), some (.ref (c 0)), some (.ref (a 0)), some (.ref o), some (.int (zI i)), none, none]) [true, true, true, true, true, false, false] rfl ?_
    refine V_widen (k' := k + 8) (n' := n + 50) (by omega) (by omega) ?_
    exact hnext c2 κ2 σ2 _ g2 e0 (mi_setField hM) hC2 hP2
  · refine V_aload_n dL_law_584 rfl ?_
    refine V_iconst dL_law_585 ?_
    refine V_lald (N := 1) _ (wL3_out en c2 a κ2 σ2 o g2) ⟨by decide, by decide⟩ (by decide) dL_law_586 ?_
    refine V_iload dL_law_587 rfl ?_
    refine V_i2l dL_law_589 ?_
    refine V_lcmp dL_law_590 ?_
    refine V_eqT (y := zI 0) (lg_eq (hz2 h1).1) ?_
    refine V_if_eq (tgt := 596) dL_law_591 (by decide) ⟨by omega, by omega⟩ (fun _ => ?_) (fun h => absurd rfl h)
    refine V_goto (tgt := 2688) dL_law_596 (by decide) ?_
    refine V_mask (L' := [some (.ref b), some (.ref (c 0)), some (.ref (a 0)), some (.ref o), some (.int (zI i)), none, none]) [true, true, true, true, true, false, false] rfl ?_
    refine V_widen (k' := k + 8) (n' := n + 50) (by omega) (by omega) ?_
    exact hnext c2 κ2 σ2 _ g2 e0 (mi_setField hM) hC2 hP2
set_option maxRecDepth 100000 in
set_option maxHeartbeats 4000000 in
theorem law_setSchedule {K : KT} {en c a : Nat → Nat} {κ σ P : St} {o b Ln k n : Nat} {xs : Nat → Int32} {g : Nat → Int64} {i : Int} (hK : evK K = EX en) (hX : scK K b Ln xs) (hL : Ln ≤ 3072) (hi : 0 ≤ i ∧ i + 6 ≤ (Ln : Int)) (hk : k + 8 ≤ 601024) (hn : n + 50 ≤ 7293034) (hM : MI P) (hC : CWP P κ) (hP : PR P σ)
    (hnext : ∀ (c2 : Nat → Nat) (κ2 σ2 P2 : St) (g2 : Nat → Int64), c2 0 = c 0 → MI P2 → CWP P2 κ2 → PR P2 σ2 → V K sL_law (k + 8) (n + 50) (wL3 en c2 a κ2 σ2 o g2) [some (.ref b), some (.ref (c 0)), some (.ref (a 0)), some (.ref o), some (.int (zI i)), none, none] [] 2688) : V K sL_law k n (wL3 en c a κ σ o g) [some (.ref b), some (.ref (c 0)), some (.ref (a 0)), some (.ref o), some (.int (zI i)), none, none] [] 599 := by
  refine V_aload_n dL_law_599 rfl ?_
  refine V_aload_n dL_law_600 rfl ?_
  refine V_iload dL_law_601 rfl ?_
  refine V_iconst dL_law_603 ?_
  refine V_iadd dL_law_604 ?_
  refine V_sld hX ⟨by omega, by omega⟩ hL dL_law_605 ?_
  refine V_aload_n dL_law_606 rfl ?_
  refine V_iload dL_law_607 rfl ?_
  refine V_iconst dL_law_609 ?_
  refine V_iadd dL_law_610 ?_
  refine V_sld hX ⟨by omega, by omega⟩ hL dL_law_611 ?_
  refine V_aload_n dL_law_612 rfl ?_
  refine V_callSBH (As := [.ref (c 0), .int (zI (sc xs (i + 1))), .int (zI (sc xs (i + 2))), .ref o]) (wr := mW a σ) (wc := fm (cO en c κ) ++ [(o, lE 1 g)]) rfl hK (l_setSchedule en c κ P o g (sc xs (i + 1)) (sc xs (i + 2)) hM hC (sc_R _ _) (sc_R _ _)) mokL_setSchedule w784 w785 ⟨Nat.le_of_ble_eq_true rfl, Nat.le_of_ble_eq_true rfl⟩ rfl (Nat.le_of_ble_eq_true rfl) ⟨rm_k hk (Nat.le_of_ble_eq_true rfl), rm_n hn (Nat.le_of_ble_eq_true rfl)⟩ dL_law_613 (fun v w h => ?_)
  obtain ⟨c2, κ2, g2, rfl, rfl, e0, hC2, hn2, hz2⟩ := h
  show V K sL_law (k + 2) (n + 12) (wL3 en c2 a κ2 σ o g2) [some (.ref b), some (.ref (c 0)), some (.ref (a 0)), some (.ref o), some (.int (zI i)), none, none] [.int (zI ((sp_setSchedule P (sc xs (i + 1)) (sc xs (i + 2))).1))] 616
  refine V_istore (L' := [some (.ref b), some (.ref (c 0)), some (.ref (a 0)), some (.ref o), some (.int (zI i)), some (.int (zI ((sp_setSchedule P (sc xs (i + 1)) (sc xs (i + 2))).1))), none]) dL_law_616 (by decide) rfl ?_
  refine V_aload_n dL_law_618 rfl ?_
  refine V_aload_n dL_law_619 rfl ?_
  refine V_iload dL_law_620 rfl ?_
  refine V_iconst dL_law_622 ?_
  refine V_iadd dL_law_623 ?_
  refine V_sld hX ⟨by omega, by omega⟩ hL dL_law_624 ?_
  refine V_aload_n dL_law_625 rfl ?_
  refine V_iload dL_law_626 rfl ?_
  refine V_iconst dL_law_628 ?_
  refine V_iadd dL_law_629 ?_
  refine V_sld hX ⟨by omega, by omega⟩ hL dL_law_630 ?_
  refine V_callVA (As := [.int (zI (sc xs (i + 1))), .int (zI (sc xs (i + 2)))]) (b := a 0) (q0 := 0) (ci := 10) (fs := mF a σ) (T := TX11) (N := 30) rfl rfl (wc := mW a σ) (wr := fm (cO en c2 κ2) ++ [(o, lE 1 g2)]) rfl hK (c_setSchedule (EX.stb en) a σ (sc xs (i + 1)) (sc xs (i + 2)) P ⟨hM, hP, sc_R _ _, sc_R _ _⟩) mokX11_setSchedule w1196 w1197 w1198 ⟨Nat.le_of_ble_eq_true rfl, Nat.le_of_ble_eq_true rfl⟩ rfl (Nat.le_of_ble_eq_true rfl) ⟨rm_k (c := 2) hk (Nat.le_of_ble_eq_true rfl), rm_n (c := 12) hn (Nat.le_of_ble_eq_true rfl)⟩ dL_law_631 (fun v w h => ?_)
  obtain ⟨σ2, rfl, rfl, et, hP2⟩ := h
  show V K sL_law (k + 2) (n + 12) (wL3 en c2 a κ2 σ2 o g2) [some (.ref b), some (.ref (c 0)), some (.ref (a 0)), some (.ref o), some (.int (zI i)), some (.int (zI ((sp_setSchedule P (sc xs (i + 1)) (sc xs (i + 2))).1))), none] [.int (zI ((sp_setSchedule P (sc xs (i + 1)) (sc xs (i + 2))).2.1))] 634
  refine V_istore (L' := [some (.ref b), some (.ref (c 0)), some (.ref (a 0)), some (.ref o), some (.int (zI i)), some (.int (zI ((sp_setSchedule P (sc xs (i + 1)) (sc xs (i + 2))).1))), some (.int (zI ((sp_setSchedule P (sc xs (i + 1)) (sc xs (i + 2))).2.1)))]) dL_law_634 (by decide) rfl ?_
  refine V_aload_n dL_law_636 rfl ?_
  refine V_callVA (As := []) (b := a 0) (q0 := 0) (ci := 10) (fs := mF a σ2) (T := TX11) (N := 30) rfl rfl (wc := mW a σ2) (wr := fm (cO en c2 κ2) ++ [(o, lE 1 g2)]) rfl hK (c_thrown (EX.stb en) a σ2) mokX11_thrown w1161 w1162 w1163 ⟨Nat.le_of_ble_eq_true rfl, Nat.le_of_ble_eq_true rfl⟩ rfl (Nat.le_of_ble_eq_true rfl) ⟨rm_k (c := 2) hk (Nat.le_of_ble_eq_true rfl), rm_n (c := 12) hn (Nat.le_of_ble_eq_true rfl)⟩ dL_law_637 (fun v w h => ?_)
  obtain ⟨rfl, rfl⟩ := h
  show V K sL_law (k + 2) (n + 12) (wL3 en c2 a κ2 σ2 o g2) [some (.ref b), some (.ref (c 0)), some (.ref (a 0)), some (.ref o), some (.int (zI i)), some (.int (zI ((sp_setSchedule P (sc xs (i + 1)) (sc xs (i + 2))).1))), some (.int (zI ((sp_setSchedule P (sc xs (i + 1)) (sc xs (i + 2))).2.1)))] [.int (zI (σ2 1 29))] 640
  refine V_eqT (y := zI (sp_setSchedule P (sc xs (i + 1)) (sc xs (i + 2))).1) (by rw [et]) ?_
  refine V_iload dL_law_640 rfl ?_
  refine V_icmp_same (tgt := 647) dL_law_642 (by decide) ?_
  refine V_iload dL_law_647 rfl ?_
  refine V_if_ne (tgt := 671) dL_law_649 (by decide) ⟨by have := hn2; omega, by have := hn2; omega⟩ (fun h1 => ?_) (fun h1 => ?_)
  · refine V_goto (tgt := 2688) dL_law_671 (by decide) ?_
    refine V_mask (L' := [some (.ref b), some (.ref (c 0)), some (.ref (a 0)), some (.ref o), some (.int (zI i)), none, none]) [true, true, true, true, true, false, false] rfl ?_
    refine V_widen (k' := k + 8) (n' := n + 50) (by omega) (by omega) ?_
    exact hnext c2 κ2 σ2 _ g2 e0 (mi_setSchedule hM) hC2 hP2
  · refine V_aload_n dL_law_652 rfl ?_
    refine V_iconst dL_law_653 ?_
    refine V_lald (N := 1) _ (wL3_out en c2 a κ2 σ2 o g2) ⟨by decide, by decide⟩ (by decide) dL_law_654 ?_
    refine V_iload dL_law_655 rfl ?_
    have v3 := (hz2 h1).2 rfl
    refine V_if_eq (tgt := 664) dL_law_657 (by decide) ⟨by omega, by omega⟩ (fun h2 => ?_) (fun h2 => ?_)
    · refine V_lconst dL_law_664 ?_
      refine V_lcmp dL_law_665 ?_
      refine V_eqT (y := zI 0) (lg_eq ((hz2 h1).1.trans (by rw [h2]; rfl))) ?_
      refine V_if_eq (tgt := 671) dL_law_666 (by decide) ⟨by omega, by omega⟩ (fun _ => ?_) (fun h => absurd rfl h)
      refine V_goto (tgt := 2688) dL_law_671 (by decide) ?_
      refine V_mask (L' := [some (.ref b), some (.ref (c 0)), some (.ref (a 0)), some (.ref o), some (.int (zI i)), none, none]) [true, true, true, true, true, false, false] rfl ?_
      refine V_widen (k' := k + 8) (n' := n + 50) (by omega) (by omega) ?_
      exact hnext c2 κ2 σ2 _ g2 e0 (mi_setSchedule hM) hC2 hP2
    · refine V_lconst dL_law_660 ?_
      refine V_goto (tgt := 665) dL_law_661 (by decide) ?_
      refine V_lcmp dL_law_665 ?_
      refine V_eqT (y := zI 0) (lg_eq ((hz2 h1).1.trans (by rw [show (sp_setSchedule P (sc xs (i + 1)) (sc xs (i + 2))).2.1 = 1 by omega]; rfl))) ?_
      refine V_if_eq (tgt := 671) dL_law_666 (by decide) ⟨by omega, by omega⟩ (fun _ => ?_) (fun h => absurd rfl h)
      refine V_goto (tgt := 2688) dL_law_671 (by decide) ?_
      refine V_mask (L' := [some (.ref b), some (.ref (c 0)), some (.ref (a 0)), some (.ref o), some (.int (zI i)), none, none]) [true, true, true, true, true, false, false] rfl ?_
      refine V_widen (k' := k + 8) (n' := n + 50) (by omega) (by omega) ?_
      exact hnext c2 κ2 σ2 _ g2 e0 (mi_setSchedule hM) hC2 hP2
set_option maxRecDepth 100000 in
set_option maxHeartbeats 4000000 in
theorem law_setOffset {K : KT} {en c a : Nat → Nat} {κ σ P : St} {o b Ln k n : Nat} {xs : Nat → Int32} {g : Nat → Int64} {i : Int} (hK : evK K = EX en) (hX : scK K b Ln xs) (hL : Ln ≤ 3072) (hi : 0 ≤ i ∧ i + 6 ≤ (Ln : Int)) (hk : k + 8 ≤ 601024) (hn : n + 50 ≤ 7293034) (hM : MI P) (hC : CWP P κ) (hP : PR P σ)
    (hnext : ∀ (c2 : Nat → Nat) (κ2 σ2 P2 : St) (g2 : Nat → Int64), c2 0 = c 0 → MI P2 → CWP P2 κ2 → PR P2 σ2 → V K sL_law (k + 8) (n + 50) (wL3 en c2 a κ2 σ2 o g2) [some (.ref b), some (.ref (c 0)), some (.ref (a 0)), some (.ref o), some (.int (zI i)), none, none] [] 2688) : V K sL_law k n (wL3 en c a κ σ o g) [some (.ref b), some (.ref (c 0)), some (.ref (a 0)), some (.ref o), some (.int (zI i)), none, none] [] 674 := by
  refine V_aload_n dL_law_674 rfl ?_
  refine V_aload_n dL_law_675 rfl ?_
  refine V_iload dL_law_676 rfl ?_
  refine V_iconst dL_law_678 ?_
  refine V_iadd dL_law_679 ?_
  refine V_sld hX ⟨by omega, by omega⟩ hL dL_law_680 ?_
  refine V_aload_n dL_law_681 rfl ?_
  refine V_iload dL_law_682 rfl ?_
  refine V_iconst dL_law_684 ?_
  refine V_iadd dL_law_685 ?_
  refine V_sld hX ⟨by omega, by omega⟩ hL dL_law_686 ?_
  refine V_aload_n dL_law_687 rfl ?_
  refine V_callSBH (As := [.ref (c 0), .int (zI (sc xs (i + 1))), .int (zI (sc xs (i + 2))), .ref o]) (wr := mW a σ) (wc := fm (cO en c κ) ++ [(o, lE 1 g)]) rfl hK (l_setOffset en c κ P o g (sc xs (i + 1)) (sc xs (i + 2)) hM hC (sc_R _ _) (sc_R _ _)) mokL_setOffset w795 w796 ⟨Nat.le_of_ble_eq_true rfl, Nat.le_of_ble_eq_true rfl⟩ rfl (Nat.le_of_ble_eq_true rfl) ⟨rm_k hk (Nat.le_of_ble_eq_true rfl), rm_n hn (Nat.le_of_ble_eq_true rfl)⟩ dL_law_688 (fun v w h => ?_)
  obtain ⟨c2, κ2, g2, rfl, rfl, e0, hC2, hn2, hz2⟩ := h
  show V K sL_law (k + 2) (n + 12) (wL3 en c2 a κ2 σ o g2) [some (.ref b), some (.ref (c 0)), some (.ref (a 0)), some (.ref o), some (.int (zI i)), none, none] [.int (zI ((sp_setOffset P (sc xs (i + 1)) (sc xs (i + 2))).1))] 691
  refine V_istore (L' := [some (.ref b), some (.ref (c 0)), some (.ref (a 0)), some (.ref o), some (.int (zI i)), some (.int (zI ((sp_setOffset P (sc xs (i + 1)) (sc xs (i + 2))).1))), none]) dL_law_691 (by decide) rfl ?_
  refine V_aload_n dL_law_693 rfl ?_
  refine V_aload_n dL_law_694 rfl ?_
  refine V_iload dL_law_695 rfl ?_
  refine V_iconst dL_law_697 ?_
  refine V_iadd dL_law_698 ?_
  refine V_sld hX ⟨by omega, by omega⟩ hL dL_law_699 ?_
  refine V_aload_n dL_law_700 rfl ?_
  refine V_iload dL_law_701 rfl ?_
  refine V_iconst dL_law_703 ?_
  refine V_iadd dL_law_704 ?_
  refine V_sld hX ⟨by omega, by omega⟩ hL dL_law_705 ?_
  refine V_callVA (As := [.int (zI (sc xs (i + 1))), .int (zI (sc xs (i + 2)))]) (b := a 0) (q0 := 0) (ci := 10) (fs := mF a σ) (T := TX11) (N := 30) rfl rfl (wc := mW a σ) (wr := fm (cO en c2 κ2) ++ [(o, lE 1 g2)]) rfl hK (c_setOffset (EX.stb en) a σ (sc xs (i + 1)) (sc xs (i + 2)) P ⟨hM, hP, sc_R _ _, sc_R _ _⟩) mokX11_setOffset w1247 w1248 w1249 ⟨Nat.le_of_ble_eq_true rfl, Nat.le_of_ble_eq_true rfl⟩ rfl (Nat.le_of_ble_eq_true rfl) ⟨rm_k (c := 2) hk (Nat.le_of_ble_eq_true rfl), rm_n (c := 12) hn (Nat.le_of_ble_eq_true rfl)⟩ dL_law_706 (fun v w h => ?_)
  obtain ⟨σ2, rfl, rfl, et, hP2⟩ := h
  show V K sL_law (k + 2) (n + 12) (wL3 en c2 a κ2 σ2 o g2) [some (.ref b), some (.ref (c 0)), some (.ref (a 0)), some (.ref o), some (.int (zI i)), some (.int (zI ((sp_setOffset P (sc xs (i + 1)) (sc xs (i + 2))).1))), none] [.int (zI ((sp_setOffset P (sc xs (i + 1)) (sc xs (i + 2))).2.1))] 709
  refine V_istore (L' := [some (.ref b), some (.ref (c 0)), some (.ref (a 0)), some (.ref o), some (.int (zI i)), some (.int (zI ((sp_setOffset P (sc xs (i + 1)) (sc xs (i + 2))).1))), some (.int (zI ((sp_setOffset P (sc xs (i + 1)) (sc xs (i + 2))).2.1)))]) dL_law_709 (by decide) rfl ?_
  refine V_aload_n dL_law_711 rfl ?_
  refine V_callVA (As := []) (b := a 0) (q0 := 0) (ci := 10) (fs := mF a σ2) (T := TX11) (N := 30) rfl rfl (wc := mW a σ2) (wr := fm (cO en c2 κ2) ++ [(o, lE 1 g2)]) rfl hK (c_thrown (EX.stb en) a σ2) mokX11_thrown w1161 w1162 w1163 ⟨Nat.le_of_ble_eq_true rfl, Nat.le_of_ble_eq_true rfl⟩ rfl (Nat.le_of_ble_eq_true rfl) ⟨rm_k (c := 2) hk (Nat.le_of_ble_eq_true rfl), rm_n (c := 12) hn (Nat.le_of_ble_eq_true rfl)⟩ dL_law_712 (fun v w h => ?_)
  obtain ⟨rfl, rfl⟩ := h
  show V K sL_law (k + 2) (n + 12) (wL3 en c2 a κ2 σ2 o g2) [some (.ref b), some (.ref (c 0)), some (.ref (a 0)), some (.ref o), some (.int (zI i)), some (.int (zI ((sp_setOffset P (sc xs (i + 1)) (sc xs (i + 2))).1))), some (.int (zI ((sp_setOffset P (sc xs (i + 1)) (sc xs (i + 2))).2.1)))] [.int (zI (σ2 1 29))] 715
  refine V_eqT (y := zI (sp_setOffset P (sc xs (i + 1)) (sc xs (i + 2))).1) (by rw [et]) ?_
  refine V_iload dL_law_715 rfl ?_
  refine V_icmp_same (tgt := 722) dL_law_717 (by decide) ?_
  refine V_iload dL_law_722 rfl ?_
  refine V_if_ne (tgt := 746) dL_law_724 (by decide) ⟨by have := hn2; omega, by have := hn2; omega⟩ (fun h1 => ?_) (fun h1 => ?_)
  · refine V_goto (tgt := 2688) dL_law_746 (by decide) ?_
    refine V_mask (L' := [some (.ref b), some (.ref (c 0)), some (.ref (a 0)), some (.ref o), some (.int (zI i)), none, none]) [true, true, true, true, true, false, false] rfl ?_
    refine V_widen (k' := k + 8) (n' := n + 50) (by omega) (by omega) ?_
    exact hnext c2 κ2 σ2 _ g2 e0 (mi_setOffset hM) hC2 hP2
  · refine V_aload_n dL_law_727 rfl ?_
    refine V_iconst dL_law_728 ?_
    refine V_lald (N := 1) _ (wL3_out en c2 a κ2 σ2 o g2) ⟨by decide, by decide⟩ (by decide) dL_law_729 ?_
    refine V_iload dL_law_730 rfl ?_
    have v3 := (hz2 h1).2 rfl
    refine V_if_eq (tgt := 739) dL_law_732 (by decide) ⟨by omega, by omega⟩ (fun h2 => ?_) (fun h2 => ?_)
    · refine V_lconst dL_law_739 ?_
      refine V_lcmp dL_law_740 ?_
      refine V_eqT (y := zI 0) (lg_eq ((hz2 h1).1.trans (by rw [h2]; rfl))) ?_
      refine V_if_eq (tgt := 746) dL_law_741 (by decide) ⟨by omega, by omega⟩ (fun _ => ?_) (fun h => absurd rfl h)
      refine V_goto (tgt := 2688) dL_law_746 (by decide) ?_
      refine V_mask (L' := [some (.ref b), some (.ref (c 0)), some (.ref (a 0)), some (.ref o), some (.int (zI i)), none, none]) [true, true, true, true, true, false, false] rfl ?_
      refine V_widen (k' := k + 8) (n' := n + 50) (by omega) (by omega) ?_
      exact hnext c2 κ2 σ2 _ g2 e0 (mi_setOffset hM) hC2 hP2
    · refine V_lconst dL_law_735 ?_
      refine V_goto (tgt := 740) dL_law_736 (by decide) ?_
      refine V_lcmp dL_law_740 ?_
      refine V_eqT (y := zI 0) (lg_eq ((hz2 h1).1.trans (by rw [show (sp_setOffset P (sc xs (i + 1)) (sc xs (i + 2))).2.1 = 1 by omega]; rfl))) ?_
      refine V_if_eq (tgt := 746) dL_law_741 (by decide) ⟨by omega, by omega⟩ (fun _ => ?_) (fun h => absurd rfl h)
      refine V_goto (tgt := 2688) dL_law_746 (by decide) ?_
      refine V_mask (L' := [some (.ref b), some (.ref (c 0)), some (.ref (a 0)), some (.ref o), some (.int (zI i)), none, none]) [true, true, true, true, true, false, false] rfl ?_
      refine V_widen (k' := k + 8) (n' := n + 50) (by omega) (by omega) ?_
      exact hnext c2 κ2 σ2 _ g2 e0 (mi_setOffset hM) hC2 hP2
set_option maxRecDepth 100000 in
set_option maxHeartbeats 4000000 in
theorem law_isAllowed {K : KT} {en c a : Nat → Nat} {κ σ P : St} {o b Ln k n : Nat} {xs : Nat → Int32} {g : Nat → Int64} {i : Int} (hK : evK K = EX en) (hX : scK K b Ln xs) (hL : Ln ≤ 3072) (hi : 0 ≤ i ∧ i + 6 ≤ (Ln : Int)) (hk : k + 8 ≤ 601024) (hn : n + 50 ≤ 7293034) (hM : MI P) (hC : CWP P κ) (hP : PR P σ)
    (hnext : ∀ (c2 : Nat → Nat) (κ2 σ2 P2 : St) (g2 : Nat → Int64), c2 0 = c 0 → MI P2 → CWP P2 κ2 → PR P2 σ2 → V K sL_law (k + 8) (n + 50) (wL3 en c2 a κ2 σ2 o g2) [some (.ref b), some (.ref (c 0)), some (.ref (a 0)), some (.ref o), some (.int (zI i)), none, none] [] 2688) : V K sL_law k n (wL3 en c a κ σ o g) [some (.ref b), some (.ref (c 0)), some (.ref (a 0)), some (.ref o), some (.int (zI i)), none, none] [] 749 := by
  refine V_aload_n dL_law_749 rfl ?_
  refine V_Perm (law_P1 _ _ _) ?_
  refine V_callVB (As := []) (b := c 0) (ci := 9) (fs := cwF c κ) (T := TX10) (N := 9) (wL3_cw en c a κ σ o g) rfl (wr := mW a σ ++ [(o, lE 1 g)]) (wc := fm (cO en c κ)) rfl hK (MC.env EX.en (k_isAllowed en c κ P ⟨hM, hC.1, hC.2.1, hC.2.2⟩)) mokX10_isAllowed w262 w263 w264 ⟨Nat.le_of_ble_eq_true rfl, Nat.le_of_ble_eq_true rfl⟩ rfl (Nat.le_of_ble_eq_true rfl) ⟨rm_k (c := 0) hk (Nat.le_of_ble_eq_true rfl), rm_n (c := 0) hn (Nat.le_of_ble_eq_true rfl)⟩ dL_law_750 (fun v w h => ?_)
  obtain ⟨κ2, rfl, rfl, e1, hC2⟩ := h
  refine V_Perm (law_P2 _ _ _) ?_
  show V K sL_law (k + 0) (n + 0) (wL3 en c a κ2 σ o g) [some (.ref b), some (.ref (c 0)), some (.ref (a 0)), some (.ref o), some (.int (zI i)), none, none] [.int (zI ((sp_isAllowed P).2.1))] 753
  refine V_aload_n dL_law_753 rfl ?_
  refine V_callVA (As := []) (b := a 0) (q0 := 0) (ci := 10) (fs := mF a σ) (T := TX11) (N := 30) rfl rfl (wc := mW a σ) (wr := fm (cO en c κ2) ++ [(o, lE 1 g)]) rfl hK (c_isAllowed (EX.stb en) a σ P ⟨hM, hP⟩) mokX11_isAllowed w1251 w1252 w1253 ⟨Nat.le_of_ble_eq_true rfl, Nat.le_of_ble_eq_true rfl⟩ rfl (Nat.le_of_ble_eq_true rfl) ⟨rm_k (c := 0) hk (Nat.le_of_ble_eq_true rfl), rm_n (c := 0) hn (Nat.le_of_ble_eq_true rfl)⟩ dL_law_754 (fun v w h => ?_)
  obtain ⟨σ2, rfl, rfl, et, hP2⟩ := h
  show V K sL_law (k + 0) (n + 0) (wL3 en c a κ2 σ2 o g) [some (.ref b), some (.ref (c 0)), some (.ref (a 0)), some (.ref o), some (.int (zI i)), none, none] [.int (zI ((sp_isAllowed P).2.1)), .int (zI ((sp_isAllowed P).2.1))] 757
  refine V_icmp_same (tgt := 2688) dL_law_757 (by decide) ?_
  refine V_widen (k' := k + 8) (n' := n + 50) (by omega) (by omega) ?_
  exact hnext c κ2 σ2 _ g rfl (mi_isAllowed hM) hC2 hP2
set_option maxRecDepth 100000 in
set_option maxHeartbeats 4000000 in
theorem law_isAllowedWith {K : KT} {en c a : Nat → Nat} {κ σ P : St} {o b Ln k n : Nat} {xs : Nat → Int32} {g : Nat → Int64} {i : Int} (hK : evK K = EX en) (hX : scK K b Ln xs) (hL : Ln ≤ 3072) (hi : 0 ≤ i ∧ i + 6 ≤ (Ln : Int)) (hk : k + 8 ≤ 601024) (hn : n + 50 ≤ 7293034) (hM : MI P) (hC : CWP P κ) (hP : PR P σ)
    (hnext : ∀ (c2 : Nat → Nat) (κ2 σ2 P2 : St) (g2 : Nat → Int64), c2 0 = c 0 → MI P2 → CWP P2 κ2 → PR P2 σ2 → V K sL_law (k + 8) (n + 50) (wL3 en c2 a κ2 σ2 o g2) [some (.ref b), some (.ref (c 0)), some (.ref (a 0)), some (.ref o), some (.int (zI i)), none, none] [] 2688) : V K sL_law k n (wL3 en c a κ σ o g) [some (.ref b), some (.ref (c 0)), some (.ref (a 0)), some (.ref o), some (.int (zI i)), none, none] [] 762 := by
  refine V_aload_n dL_law_762 rfl ?_
  refine V_aload_n dL_law_763 rfl ?_
  refine V_iload dL_law_764 rfl ?_
  refine V_iconst dL_law_766 ?_
  refine V_iadd dL_law_767 ?_
  refine V_sld hX ⟨by omega, by omega⟩ hL dL_law_768 ?_
  refine V_aload_n dL_law_769 rfl ?_
  refine V_iload dL_law_770 rfl ?_
  refine V_iconst dL_law_772 ?_
  refine V_iadd dL_law_773 ?_
  refine V_sld hX ⟨by omega, by omega⟩ hL dL_law_774 ?_
  refine V_aload_n dL_law_775 rfl ?_
  refine V_callSBH (As := [.ref (c 0), .int (zI (sc xs (i + 1))), .int (zI (sc xs (i + 2))), .ref o]) (wr := mW a σ) (wc := fm (cO en c κ) ++ [(o, lE 1 g)]) rfl hK (l_isAllowedWith en c κ P o g (sc xs (i + 1)) (sc xs (i + 2)) hM hC (sc_R _ _) (sc_R _ _)) mokL_isAllowedWith w802 w803 ⟨Nat.le_of_ble_eq_true rfl, Nat.le_of_ble_eq_true rfl⟩ rfl (Nat.le_of_ble_eq_true rfl) ⟨rm_k hk (Nat.le_of_ble_eq_true rfl), rm_n hn (Nat.le_of_ble_eq_true rfl)⟩ dL_law_776 (fun v w h => ?_)
  obtain ⟨c2, κ2, g2, rfl, rfl, e0, hC2, hn2, hz2⟩ := h
  show V K sL_law (k + 2) (n + 12) (wL3 en c2 a κ2 σ o g2) [some (.ref b), some (.ref (c 0)), some (.ref (a 0)), some (.ref o), some (.int (zI i)), none, none] [.int (zI ((sp_isAllowedWith P (sc xs (i + 1)) (sc xs (i + 2))).1))] 779
  refine V_istore (L' := [some (.ref b), some (.ref (c 0)), some (.ref (a 0)), some (.ref o), some (.int (zI i)), some (.int (zI ((sp_isAllowedWith P (sc xs (i + 1)) (sc xs (i + 2))).1))), none]) dL_law_779 (by decide) rfl ?_
  refine V_aload_n dL_law_781 rfl ?_
  refine V_aload_n dL_law_782 rfl ?_
  refine V_iload dL_law_783 rfl ?_
  refine V_iconst dL_law_785 ?_
  refine V_iadd dL_law_786 ?_
  refine V_sld hX ⟨by omega, by omega⟩ hL dL_law_787 ?_
  refine V_aload_n dL_law_788 rfl ?_
  refine V_iload dL_law_789 rfl ?_
  refine V_iconst dL_law_791 ?_
  refine V_iadd dL_law_792 ?_
  refine V_sld hX ⟨by omega, by omega⟩ hL dL_law_793 ?_
  refine V_callVA (As := [.int (zI (sc xs (i + 1))), .int (zI (sc xs (i + 2)))]) (b := a 0) (q0 := 0) (ci := 10) (fs := mF a σ) (T := TX11) (N := 30) rfl rfl (wc := mW a σ) (wr := fm (cO en c2 κ2) ++ [(o, lE 1 g2)]) rfl hK (c_isAllowedWith (EX.stb en) a σ (sc xs (i + 1)) (sc xs (i + 2)) P ⟨hM, hP, sc_R _ _, sc_R _ _⟩) mokX11_isAllowedWith w1255 w1256 w1257 ⟨Nat.le_of_ble_eq_true rfl, Nat.le_of_ble_eq_true rfl⟩ rfl (Nat.le_of_ble_eq_true rfl) ⟨rm_k (c := 2) hk (Nat.le_of_ble_eq_true rfl), rm_n (c := 12) hn (Nat.le_of_ble_eq_true rfl)⟩ dL_law_794 (fun v w h => ?_)
  obtain ⟨σ2, rfl, rfl, et, hP2⟩ := h
  show V K sL_law (k + 2) (n + 12) (wL3 en c2 a κ2 σ2 o g2) [some (.ref b), some (.ref (c 0)), some (.ref (a 0)), some (.ref o), some (.int (zI i)), some (.int (zI ((sp_isAllowedWith P (sc xs (i + 1)) (sc xs (i + 2))).1))), none] [.int (zI ((sp_isAllowedWith P (sc xs (i + 1)) (sc xs (i + 2))).2.1))] 797
  refine V_istore (L' := [some (.ref b), some (.ref (c 0)), some (.ref (a 0)), some (.ref o), some (.int (zI i)), some (.int (zI ((sp_isAllowedWith P (sc xs (i + 1)) (sc xs (i + 2))).1))), some (.int (zI ((sp_isAllowedWith P (sc xs (i + 1)) (sc xs (i + 2))).2.1)))]) dL_law_797 (by decide) rfl ?_
  refine V_aload_n dL_law_799 rfl ?_
  refine V_callVA (As := []) (b := a 0) (q0 := 0) (ci := 10) (fs := mF a σ2) (T := TX11) (N := 30) rfl rfl (wc := mW a σ2) (wr := fm (cO en c2 κ2) ++ [(o, lE 1 g2)]) rfl hK (c_thrown (EX.stb en) a σ2) mokX11_thrown w1161 w1162 w1163 ⟨Nat.le_of_ble_eq_true rfl, Nat.le_of_ble_eq_true rfl⟩ rfl (Nat.le_of_ble_eq_true rfl) ⟨rm_k (c := 2) hk (Nat.le_of_ble_eq_true rfl), rm_n (c := 12) hn (Nat.le_of_ble_eq_true rfl)⟩ dL_law_800 (fun v w h => ?_)
  obtain ⟨rfl, rfl⟩ := h
  show V K sL_law (k + 2) (n + 12) (wL3 en c2 a κ2 σ2 o g2) [some (.ref b), some (.ref (c 0)), some (.ref (a 0)), some (.ref o), some (.int (zI i)), some (.int (zI ((sp_isAllowedWith P (sc xs (i + 1)) (sc xs (i + 2))).1))), some (.int (zI ((sp_isAllowedWith P (sc xs (i + 1)) (sc xs (i + 2))).2.1)))] [.int (zI (σ2 1 29))] 803
  refine V_eqT (y := zI (sp_isAllowedWith P (sc xs (i + 1)) (sc xs (i + 2))).1) (by rw [et]) ?_
  refine V_iload dL_law_803 rfl ?_
  refine V_icmp_same (tgt := 810) dL_law_805 (by decide) ?_
  refine V_iload dL_law_810 rfl ?_
  refine V_if_ne (tgt := 834) dL_law_812 (by decide) ⟨by have := hn2; omega, by have := hn2; omega⟩ (fun h1 => ?_) (fun h1 => ?_)
  · refine V_goto (tgt := 2688) dL_law_834 (by decide) ?_
    refine V_mask (L' := [some (.ref b), some (.ref (c 0)), some (.ref (a 0)), some (.ref o), some (.int (zI i)), none, none]) [true, true, true, true, true, false, false] rfl ?_
    refine V_widen (k' := k + 8) (n' := n + 50) (by omega) (by omega) ?_
    exact hnext c2 κ2 σ2 _ g2 e0 (mi_isAllowedWith hM) hC2 hP2
  · refine V_aload_n dL_law_815 rfl ?_
    refine V_iconst dL_law_816 ?_
    refine V_lald (N := 1) _ (wL3_out en c2 a κ2 σ2 o g2) ⟨by decide, by decide⟩ (by decide) dL_law_817 ?_
    refine V_iload dL_law_818 rfl ?_
    have v3 := (hz2 h1).2 rfl
    refine V_if_eq (tgt := 827) dL_law_820 (by decide) ⟨by omega, by omega⟩ (fun h2 => ?_) (fun h2 => ?_)
    · refine V_lconst dL_law_827 ?_
      refine V_lcmp dL_law_828 ?_
      refine V_eqT (y := zI 0) (lg_eq ((hz2 h1).1.trans (by rw [h2]; rfl))) ?_
      refine V_if_eq (tgt := 834) dL_law_829 (by decide) ⟨by omega, by omega⟩ (fun _ => ?_) (fun h => absurd rfl h)
      refine V_goto (tgt := 2688) dL_law_834 (by decide) ?_
      refine V_mask (L' := [some (.ref b), some (.ref (c 0)), some (.ref (a 0)), some (.ref o), some (.int (zI i)), none, none]) [true, true, true, true, true, false, false] rfl ?_
      refine V_widen (k' := k + 8) (n' := n + 50) (by omega) (by omega) ?_
      exact hnext c2 κ2 σ2 _ g2 e0 (mi_isAllowedWith hM) hC2 hP2
    · refine V_lconst dL_law_823 ?_
      refine V_goto (tgt := 828) dL_law_824 (by decide) ?_
      refine V_lcmp dL_law_828 ?_
      refine V_eqT (y := zI 0) (lg_eq ((hz2 h1).1.trans (by rw [show (sp_isAllowedWith P (sc xs (i + 1)) (sc xs (i + 2))).2.1 = 1 by omega]; rfl))) ?_
      refine V_if_eq (tgt := 834) dL_law_829 (by decide) ⟨by omega, by omega⟩ (fun _ => ?_) (fun h => absurd rfl h)
      refine V_goto (tgt := 2688) dL_law_834 (by decide) ?_
      refine V_mask (L' := [some (.ref b), some (.ref (c 0)), some (.ref (a 0)), some (.ref o), some (.int (zI i)), none, none]) [true, true, true, true, true, false, false] rfl ?_
      refine V_widen (k' := k + 8) (n' := n + 50) (by omega) (by omega) ?_
      exact hnext c2 κ2 σ2 _ g2 e0 (mi_isAllowedWith hM) hC2 hP2
set_option maxRecDepth 100000 in
set_option maxHeartbeats 4000000 in
theorem law_isReadInOrder {K : KT} {en c a : Nat → Nat} {κ σ P : St} {o b Ln k n : Nat} {xs : Nat → Int32} {g : Nat → Int64} {i : Int} (hK : evK K = EX en) (hX : scK K b Ln xs) (hL : Ln ≤ 3072) (hi : 0 ≤ i ∧ i + 6 ≤ (Ln : Int)) (hk : k + 8 ≤ 601024) (hn : n + 50 ≤ 7293034) (hM : MI P) (hC : CWP P κ) (hP : PR P σ)
    (hnext : ∀ (c2 : Nat → Nat) (κ2 σ2 P2 : St) (g2 : Nat → Int64), c2 0 = c 0 → MI P2 → CWP P2 κ2 → PR P2 σ2 → V K sL_law (k + 8) (n + 50) (wL3 en c2 a κ2 σ2 o g2) [some (.ref b), some (.ref (c 0)), some (.ref (a 0)), some (.ref o), some (.int (zI i)), none, none] [] 2688) : V K sL_law k n (wL3 en c a κ σ o g) [some (.ref b), some (.ref (c 0)), some (.ref (a 0)), some (.ref o), some (.int (zI i)), none, none] [] 837 := by
  refine V_aload_n dL_law_837 rfl ?_
  refine V_aload_n dL_law_838 rfl ?_
  refine V_iload dL_law_839 rfl ?_
  refine V_iconst dL_law_841 ?_
  refine V_iadd dL_law_842 ?_
  refine V_sld hX ⟨by omega, by omega⟩ hL dL_law_843 ?_
  refine V_aload_n dL_law_844 rfl ?_
  refine V_iload dL_law_845 rfl ?_
  refine V_iconst dL_law_847 ?_
  refine V_iadd dL_law_848 ?_
  refine V_sld hX ⟨by omega, by omega⟩ hL dL_law_849 ?_
  refine V_aload_n dL_law_850 rfl ?_
  refine V_callSBH (As := [.ref (c 0), .int (zI (sc xs (i + 1))), .int (zI (sc xs (i + 2))), .ref o]) (wr := mW a σ) (wc := fm (cO en c κ) ++ [(o, lE 1 g)]) rfl hK (l_isReadInOrder en c κ P o g (sc xs (i + 1)) (sc xs (i + 2)) hM hC (sc_R _ _) (sc_R _ _)) mokL_isReadInOrder w809 w810 ⟨Nat.le_of_ble_eq_true rfl, Nat.le_of_ble_eq_true rfl⟩ rfl (Nat.le_of_ble_eq_true rfl) ⟨rm_k hk (Nat.le_of_ble_eq_true rfl), rm_n hn (Nat.le_of_ble_eq_true rfl)⟩ dL_law_851 (fun v w h => ?_)
  obtain ⟨c2, κ2, g2, rfl, rfl, e0, hC2, hn2, hz2⟩ := h
  show V K sL_law (k + 2) (n + 12) (wL3 en c2 a κ2 σ o g2) [some (.ref b), some (.ref (c 0)), some (.ref (a 0)), some (.ref o), some (.int (zI i)), none, none] [.int (zI ((sp_isReadInOrder P (sc xs (i + 1)) (sc xs (i + 2))).1))] 854
  refine V_istore (L' := [some (.ref b), some (.ref (c 0)), some (.ref (a 0)), some (.ref o), some (.int (zI i)), some (.int (zI ((sp_isReadInOrder P (sc xs (i + 1)) (sc xs (i + 2))).1))), none]) dL_law_854 (by decide) rfl ?_
  refine V_aload_n dL_law_856 rfl ?_
  refine V_aload_n dL_law_857 rfl ?_
  refine V_iload dL_law_858 rfl ?_
  refine V_iconst dL_law_860 ?_
  refine V_iadd dL_law_861 ?_
  refine V_sld hX ⟨by omega, by omega⟩ hL dL_law_862 ?_
  refine V_aload_n dL_law_863 rfl ?_
  refine V_iload dL_law_864 rfl ?_
  refine V_iconst dL_law_866 ?_
  refine V_iadd dL_law_867 ?_
  refine V_sld hX ⟨by omega, by omega⟩ hL dL_law_868 ?_
  refine V_callVA (As := [.int (zI (sc xs (i + 1))), .int (zI (sc xs (i + 2)))]) (b := a 0) (q0 := 0) (ci := 10) (fs := mF a σ) (T := TX11) (N := 30) rfl rfl (wc := mW a σ) (wr := fm (cO en c2 κ2) ++ [(o, lE 1 g2)]) rfl hK (c_isReadInOrder (EX.stb en) a σ (sc xs (i + 1)) (sc xs (i + 2)) P ⟨hM, hP, sc_R _ _, sc_R _ _⟩) mokX11_isReadInOrder w1259 w1260 w1261 ⟨Nat.le_of_ble_eq_true rfl, Nat.le_of_ble_eq_true rfl⟩ rfl (Nat.le_of_ble_eq_true rfl) ⟨rm_k (c := 2) hk (Nat.le_of_ble_eq_true rfl), rm_n (c := 12) hn (Nat.le_of_ble_eq_true rfl)⟩ dL_law_869 (fun v w h => ?_)
  obtain ⟨σ2, rfl, rfl, et, hP2⟩ := h
  show V K sL_law (k + 2) (n + 12) (wL3 en c2 a κ2 σ2 o g2) [some (.ref b), some (.ref (c 0)), some (.ref (a 0)), some (.ref o), some (.int (zI i)), some (.int (zI ((sp_isReadInOrder P (sc xs (i + 1)) (sc xs (i + 2))).1))), none] [.int (zI ((sp_isReadInOrder P (sc xs (i + 1)) (sc xs (i + 2))).2.1))] 872
  refine V_istore (L' := [some (.ref b), some (.ref (c 0)), some (.ref (a 0)), some (.ref o), some (.int (zI i)), some (.int (zI ((sp_isReadInOrder P (sc xs (i + 1)) (sc xs (i + 2))).1))), some (.int (zI ((sp_isReadInOrder P (sc xs (i + 1)) (sc xs (i + 2))).2.1)))]) dL_law_872 (by decide) rfl ?_
  refine V_aload_n dL_law_874 rfl ?_
  refine V_callVA (As := []) (b := a 0) (q0 := 0) (ci := 10) (fs := mF a σ2) (T := TX11) (N := 30) rfl rfl (wc := mW a σ2) (wr := fm (cO en c2 κ2) ++ [(o, lE 1 g2)]) rfl hK (c_thrown (EX.stb en) a σ2) mokX11_thrown w1161 w1162 w1163 ⟨Nat.le_of_ble_eq_true rfl, Nat.le_of_ble_eq_true rfl⟩ rfl (Nat.le_of_ble_eq_true rfl) ⟨rm_k (c := 2) hk (Nat.le_of_ble_eq_true rfl), rm_n (c := 12) hn (Nat.le_of_ble_eq_true rfl)⟩ dL_law_875 (fun v w h => ?_)
  obtain ⟨rfl, rfl⟩ := h
  show V K sL_law (k + 2) (n + 12) (wL3 en c2 a κ2 σ2 o g2) [some (.ref b), some (.ref (c 0)), some (.ref (a 0)), some (.ref o), some (.int (zI i)), some (.int (zI ((sp_isReadInOrder P (sc xs (i + 1)) (sc xs (i + 2))).1))), some (.int (zI ((sp_isReadInOrder P (sc xs (i + 1)) (sc xs (i + 2))).2.1)))] [.int (zI (σ2 1 29))] 878
  refine V_eqT (y := zI (sp_isReadInOrder P (sc xs (i + 1)) (sc xs (i + 2))).1) (by rw [et]) ?_
  refine V_iload dL_law_878 rfl ?_
  refine V_icmp_same (tgt := 885) dL_law_880 (by decide) ?_
  refine V_iload dL_law_885 rfl ?_
  refine V_if_ne (tgt := 909) dL_law_887 (by decide) ⟨by have := hn2; omega, by have := hn2; omega⟩ (fun h1 => ?_) (fun h1 => ?_)
  · refine V_goto (tgt := 2688) dL_law_909 (by decide) ?_
    refine V_mask (L' := [some (.ref b), some (.ref (c 0)), some (.ref (a 0)), some (.ref o), some (.int (zI i)), none, none]) [true, true, true, true, true, false, false] rfl ?_
    refine V_widen (k' := k + 8) (n' := n + 50) (by omega) (by omega) ?_
    exact hnext c2 κ2 σ2 _ g2 e0 (mi_isReadInOrder hM) hC2 hP2
  · refine V_aload_n dL_law_890 rfl ?_
    refine V_iconst dL_law_891 ?_
    refine V_lald (N := 1) _ (wL3_out en c2 a κ2 σ2 o g2) ⟨by decide, by decide⟩ (by decide) dL_law_892 ?_
    refine V_iload dL_law_893 rfl ?_
    have v3 := (hz2 h1).2 rfl
    refine V_if_eq (tgt := 902) dL_law_895 (by decide) ⟨by omega, by omega⟩ (fun h2 => ?_) (fun h2 => ?_)
    · refine V_lconst dL_law_902 ?_
      refine V_lcmp dL_law_903 ?_
      refine V_eqT (y := zI 0) (lg_eq ((hz2 h1).1.trans (by rw [h2]; rfl))) ?_
      refine V_if_eq (tgt := 909) dL_law_904 (by decide) ⟨by omega, by omega⟩ (fun _ => ?_) (fun h => absurd rfl h)
      refine V_goto (tgt := 2688) dL_law_909 (by decide) ?_
      refine V_mask (L' := [some (.ref b), some (.ref (c 0)), some (.ref (a 0)), some (.ref o), some (.int (zI i)), none, none]) [true, true, true, true, true, false, false] rfl ?_
      refine V_widen (k' := k + 8) (n' := n + 50) (by omega) (by omega) ?_
      exact hnext c2 κ2 σ2 _ g2 e0 (mi_isReadInOrder hM) hC2 hP2
    · refine V_lconst dL_law_898 ?_
      refine V_goto (tgt := 903) dL_law_899 (by decide) ?_
      refine V_lcmp dL_law_903 ?_
      refine V_eqT (y := zI 0) (lg_eq ((hz2 h1).1.trans (by rw [show (sp_isReadInOrder P (sc xs (i + 1)) (sc xs (i + 2))).2.1 = 1 by omega]; rfl))) ?_
      refine V_if_eq (tgt := 909) dL_law_904 (by decide) ⟨by omega, by omega⟩ (fun _ => ?_) (fun h => absurd rfl h)
      refine V_goto (tgt := 2688) dL_law_909 (by decide) ?_
      refine V_mask (L' := [some (.ref b), some (.ref (c 0)), some (.ref (a 0)), some (.ref o), some (.int (zI i)), none, none]) [true, true, true, true, true, false, false] rfl ?_
      refine V_widen (k' := k + 8) (n' := n + 50) (by omega) (by omega) ?_
      exact hnext c2 κ2 σ2 _ g2 e0 (mi_isReadInOrder hM) hC2 hP2
set_option maxRecDepth 100000 in
set_option maxHeartbeats 4000000 in
theorem law_steps {K : KT} {en c a : Nat → Nat} {κ σ P : St} {o b Ln k n : Nat} {xs : Nat → Int32} {g : Nat → Int64} {i : Int} (hK : evK K = EX en) (hX : scK K b Ln xs) (hL : Ln ≤ 3072) (hi : 0 ≤ i ∧ i + 6 ≤ (Ln : Int)) (hk : k + 8 ≤ 601024) (hn : n + 50 ≤ 7293034) (hM : MI P) (hC : CWP P κ) (hP : PR P σ)
    (hnext : ∀ (c2 : Nat → Nat) (κ2 σ2 P2 : St) (g2 : Nat → Int64), c2 0 = c 0 → MI P2 → CWP P2 κ2 → PR P2 σ2 → V K sL_law (k + 8) (n + 50) (wL3 en c2 a κ2 σ2 o g2) [some (.ref b), some (.ref (c 0)), some (.ref (a 0)), some (.ref o), some (.int (zI i)), none, none] [] 2688) : V K sL_law k n (wL3 en c a κ σ o g) [some (.ref b), some (.ref (c 0)), some (.ref (a 0)), some (.ref o), some (.int (zI i)), none, none] [] 912 := by
  refine V_aload_n dL_law_912 rfl ?_
  refine V_Perm (law_P1 _ _ _) ?_
  refine V_callVB (As := []) (b := c 0) (ci := 9) (fs := cwF c κ) (T := TX10) (N := 9) (wL3_cw en c a κ σ o g) rfl (wr := mW a σ ++ [(o, lE 1 g)]) (wc := fm (cO en c κ)) rfl hK (MC.env EX.en (k_steps en c κ P ⟨hM, hC.1, hC.2.1, hC.2.2⟩)) mokX10_steps w297 w298 w299 ⟨Nat.le_of_ble_eq_true rfl, Nat.le_of_ble_eq_true rfl⟩ rfl (Nat.le_of_ble_eq_true rfl) ⟨rm_k (c := 0) hk (Nat.le_of_ble_eq_true rfl), rm_n (c := 0) hn (Nat.le_of_ble_eq_true rfl)⟩ dL_law_913 (fun v w h => ?_)
  obtain ⟨κ2, rfl, rfl, e1, hC2⟩ := h
  refine V_Perm (law_P2 _ _ _) ?_
  show V K sL_law (k + 0) (n + 0) (wL3 en c a κ2 σ o g) [some (.ref b), some (.ref (c 0)), some (.ref (a 0)), some (.ref o), some (.int (zI i)), none, none] [.int (zI ((sp_steps P).2.1))] 916
  refine V_aload_n dL_law_916 rfl ?_
  refine V_callVA (As := []) (b := a 0) (q0 := 0) (ci := 10) (fs := mF a σ) (T := TX11) (N := 30) rfl rfl (wc := mW a σ) (wr := fm (cO en c κ2) ++ [(o, lE 1 g)]) rfl hK (c_steps (EX.stb en) a σ P ⟨hM, hP⟩) mokX11_steps w1267 w1268 w1269 ⟨Nat.le_of_ble_eq_true rfl, Nat.le_of_ble_eq_true rfl⟩ rfl (Nat.le_of_ble_eq_true rfl) ⟨rm_k (c := 0) hk (Nat.le_of_ble_eq_true rfl), rm_n (c := 0) hn (Nat.le_of_ble_eq_true rfl)⟩ dL_law_917 (fun v w h => ?_)
  obtain ⟨σ2, rfl, rfl, et, hP2⟩ := h
  show V K sL_law (k + 0) (n + 0) (wL3 en c a κ2 σ2 o g) [some (.ref b), some (.ref (c 0)), some (.ref (a 0)), some (.ref o), some (.int (zI i)), none, none] [.int (zI ((sp_steps P).2.1)), .int (zI ((sp_steps P).2.1))] 920
  refine V_icmp_same (tgt := 2688) dL_law_920 (by decide) ?_
  refine V_widen (k' := k + 8) (n' := n + 50) (by omega) (by omega) ?_
  exact hnext c κ2 σ2 _ g rfl (mi_steps hM) hC2 hP2
set_option maxRecDepth 100000 in
set_option maxHeartbeats 4000000 in
theorem law_stepOf {K : KT} {en c a : Nat → Nat} {κ σ P : St} {o b Ln k n : Nat} {xs : Nat → Int32} {g : Nat → Int64} {i : Int} (hK : evK K = EX en) (hX : scK K b Ln xs) (hL : Ln ≤ 3072) (hi : 0 ≤ i ∧ i + 6 ≤ (Ln : Int)) (hk : k + 8 ≤ 601024) (hn : n + 50 ≤ 7293034) (hM : MI P) (hC : CWP P κ) (hP : PR P σ)
    (hnext : ∀ (c2 : Nat → Nat) (κ2 σ2 P2 : St) (g2 : Nat → Int64), c2 0 = c 0 → MI P2 → CWP P2 κ2 → PR P2 σ2 → V K sL_law (k + 8) (n + 50) (wL3 en c2 a κ2 σ2 o g2) [some (.ref b), some (.ref (c 0)), some (.ref (a 0)), some (.ref o), some (.int (zI i)), none, none] [] 2688) : V K sL_law k n (wL3 en c a κ σ o g) [some (.ref b), some (.ref (c 0)), some (.ref (a 0)), some (.ref o), some (.int (zI i)), none, none] [] 925 := by
  refine V_aload_n dL_law_925 rfl ?_
  refine V_aload_n dL_law_926 rfl ?_
  refine V_iload dL_law_927 rfl ?_
  refine V_iconst dL_law_929 ?_
  refine V_iadd dL_law_930 ?_
  refine V_sld hX ⟨by omega, by omega⟩ hL dL_law_931 ?_
  refine V_aload_n dL_law_932 rfl ?_
  refine V_iload dL_law_933 rfl ?_
  refine V_iconst dL_law_935 ?_
  refine V_iadd dL_law_936 ?_
  refine V_sld hX ⟨by omega, by omega⟩ hL dL_law_937 ?_
  refine V_aload_n dL_law_938 rfl ?_
  refine V_iload dL_law_939 rfl ?_
  refine V_iconst dL_law_941 ?_
  refine V_iadd dL_law_942 ?_
  refine V_sld hX ⟨by omega, by omega⟩ hL dL_law_943 ?_
  refine V_aload_n dL_law_944 rfl ?_
  refine V_callSBH (As := [.ref (c 0), .int (zI (sc xs (i + 1))), .int (zI (sc xs (i + 2))), .int (zI (sc xs (i + 3))), .ref o]) (wr := mW a σ) (wc := fm (cO en c κ) ++ [(o, lE 1 g)]) rfl hK (l_stepOf en c κ P o g (sc xs (i + 1)) (sc xs (i + 2)) (sc xs (i + 3)) hM hC (sc_R _ _) (sc_R _ _) (sc_R _ _)) mokL_stepOf w818 w819 ⟨Nat.le_of_ble_eq_true rfl, Nat.le_of_ble_eq_true rfl⟩ rfl (Nat.le_of_ble_eq_true rfl) ⟨rm_k hk (Nat.le_of_ble_eq_true rfl), rm_n hn (Nat.le_of_ble_eq_true rfl)⟩ dL_law_945 (fun v w h => ?_)
  obtain ⟨c2, κ2, g2, rfl, rfl, e0, hC2, hn2, hz2⟩ := h
  show V K sL_law (k + 2) (n + 12) (wL3 en c2 a κ2 σ o g2) [some (.ref b), some (.ref (c 0)), some (.ref (a 0)), some (.ref o), some (.int (zI i)), none, none] [.int (zI ((sp_stepOf P (sc xs (i + 1)) (sc xs (i + 2)) (sc xs (i + 3))).1))] 948
  refine V_istore (L' := [some (.ref b), some (.ref (c 0)), some (.ref (a 0)), some (.ref o), some (.int (zI i)), some (.int (zI ((sp_stepOf P (sc xs (i + 1)) (sc xs (i + 2)) (sc xs (i + 3))).1))), none]) dL_law_948 (by decide) rfl ?_
  refine V_aload_n dL_law_950 rfl ?_
  refine V_aload_n dL_law_951 rfl ?_
  refine V_iload dL_law_952 rfl ?_
  refine V_iconst dL_law_954 ?_
  refine V_iadd dL_law_955 ?_
  refine V_sld hX ⟨by omega, by omega⟩ hL dL_law_956 ?_
  refine V_aload_n dL_law_957 rfl ?_
  refine V_iload dL_law_958 rfl ?_
  refine V_iconst dL_law_960 ?_
  refine V_iadd dL_law_961 ?_
  refine V_sld hX ⟨by omega, by omega⟩ hL dL_law_962 ?_
  refine V_aload_n dL_law_963 rfl ?_
  refine V_iload dL_law_964 rfl ?_
  refine V_iconst dL_law_966 ?_
  refine V_iadd dL_law_967 ?_
  refine V_sld hX ⟨by omega, by omega⟩ hL dL_law_968 ?_
  refine V_callVA (As := [.int (zI (sc xs (i + 1))), .int (zI (sc xs (i + 2))), .int (zI (sc xs (i + 3)))]) (b := a 0) (q0 := 0) (ci := 10) (fs := mF a σ) (T := TX11) (N := 30) rfl rfl (wc := mW a σ) (wr := fm (cO en c2 κ2) ++ [(o, lE 1 g2)]) rfl hK (c_stepOf (EX.stb en) a σ (sc xs (i + 1)) (sc xs (i + 2)) (sc xs (i + 3)) P ⟨hM, hP, sc_R _ _, sc_R _ _, sc_R _ _⟩) mokX11_stepOf w1271 w1272 w1273 ⟨Nat.le_of_ble_eq_true rfl, Nat.le_of_ble_eq_true rfl⟩ rfl (Nat.le_of_ble_eq_true rfl) ⟨rm_k (c := 2) hk (Nat.le_of_ble_eq_true rfl), rm_n (c := 12) hn (Nat.le_of_ble_eq_true rfl)⟩ dL_law_969 (fun v w h => ?_)
  obtain ⟨σ2, rfl, rfl, et, hP2⟩ := h
  show V K sL_law (k + 2) (n + 12) (wL3 en c2 a κ2 σ2 o g2) [some (.ref b), some (.ref (c 0)), some (.ref (a 0)), some (.ref o), some (.int (zI i)), some (.int (zI ((sp_stepOf P (sc xs (i + 1)) (sc xs (i + 2)) (sc xs (i + 3))).1))), none] [.int (zI ((sp_stepOf P (sc xs (i + 1)) (sc xs (i + 2)) (sc xs (i + 3))).2.1))] 972
  refine V_istore (L' := [some (.ref b), some (.ref (c 0)), some (.ref (a 0)), some (.ref o), some (.int (zI i)), some (.int (zI ((sp_stepOf P (sc xs (i + 1)) (sc xs (i + 2)) (sc xs (i + 3))).1))), some (.int (zI ((sp_stepOf P (sc xs (i + 1)) (sc xs (i + 2)) (sc xs (i + 3))).2.1)))]) dL_law_972 (by decide) rfl ?_
  refine V_aload_n dL_law_974 rfl ?_
  refine V_callVA (As := []) (b := a 0) (q0 := 0) (ci := 10) (fs := mF a σ2) (T := TX11) (N := 30) rfl rfl (wc := mW a σ2) (wr := fm (cO en c2 κ2) ++ [(o, lE 1 g2)]) rfl hK (c_thrown (EX.stb en) a σ2) mokX11_thrown w1161 w1162 w1163 ⟨Nat.le_of_ble_eq_true rfl, Nat.le_of_ble_eq_true rfl⟩ rfl (Nat.le_of_ble_eq_true rfl) ⟨rm_k (c := 2) hk (Nat.le_of_ble_eq_true rfl), rm_n (c := 12) hn (Nat.le_of_ble_eq_true rfl)⟩ dL_law_975 (fun v w h => ?_)
  obtain ⟨rfl, rfl⟩ := h
  show V K sL_law (k + 2) (n + 12) (wL3 en c2 a κ2 σ2 o g2) [some (.ref b), some (.ref (c 0)), some (.ref (a 0)), some (.ref o), some (.int (zI i)), some (.int (zI ((sp_stepOf P (sc xs (i + 1)) (sc xs (i + 2)) (sc xs (i + 3))).1))), some (.int (zI ((sp_stepOf P (sc xs (i + 1)) (sc xs (i + 2)) (sc xs (i + 3))).2.1)))] [.int (zI (σ2 1 29))] 978
  refine V_eqT (y := zI (sp_stepOf P (sc xs (i + 1)) (sc xs (i + 2)) (sc xs (i + 3))).1) (by rw [et]) ?_
  refine V_iload dL_law_978 rfl ?_
  refine V_icmp_same (tgt := 985) dL_law_980 (by decide) ?_
  refine V_iload dL_law_985 rfl ?_
  refine V_if_ne (tgt := 1002) dL_law_987 (by decide) ⟨by have := hn2; omega, by have := hn2; omega⟩ (fun h1 => ?_) (fun h1 => ?_)
  · refine V_goto (tgt := 2688) dL_law_1002 (by decide) ?_
    refine V_mask (L' := [some (.ref b), some (.ref (c 0)), some (.ref (a 0)), some (.ref o), some (.int (zI i)), none, none]) [true, true, true, true, true, false, false] rfl ?_
    refine V_widen (k' := k + 8) (n' := n + 50) (by omega) (by omega) ?_
    exact hnext c2 κ2 σ2 _ g2 e0 (mi_stepOf hM) hC2 hP2
  · refine V_aload_n dL_law_990 rfl ?_
    refine V_iconst dL_law_991 ?_
    refine V_lald (N := 1) _ (wL3_out en c2 a κ2 σ2 o g2) ⟨by decide, by decide⟩ (by decide) dL_law_992 ?_
    refine V_iload dL_law_993 rfl ?_
    refine V_i2l dL_law_995 ?_
    refine V_lcmp dL_law_996 ?_
    refine V_eqT (y := zI 0) (lg_eq (hz2 h1).1) ?_
    refine V_if_eq (tgt := 1002) dL_law_997 (by decide) ⟨by omega, by omega⟩ (fun _ => ?_) (fun h => absurd rfl h)
    refine V_goto (tgt := 2688) dL_law_1002 (by decide) ?_
    refine V_mask (L' := [some (.ref b), some (.ref (c 0)), some (.ref (a 0)), some (.ref o), some (.int (zI i)), none, none]) [true, true, true, true, true, false, false] rfl ?_
    refine V_widen (k' := k + 8) (n' := n + 50) (by omega) (by omega) ?_
    exact hnext c2 κ2 σ2 _ g2 e0 (mi_stepOf hM) hC2 hP2
set_option maxRecDepth 100000 in
set_option maxHeartbeats 4000000 in
theorem law_statementAt {K : KT} {en c a : Nat → Nat} {κ σ P : St} {o b Ln k n : Nat} {xs : Nat → Int32} {g : Nat → Int64} {i : Int} (hK : evK K = EX en) (hX : scK K b Ln xs) (hL : Ln ≤ 3072) (hi : 0 ≤ i ∧ i + 6 ≤ (Ln : Int)) (hk : k + 8 ≤ 601024) (hn : n + 50 ≤ 7293034) (hM : MI P) (hC : CWP P κ) (hP : PR P σ)
    (hnext : ∀ (c2 : Nat → Nat) (κ2 σ2 P2 : St) (g2 : Nat → Int64), c2 0 = c 0 → MI P2 → CWP P2 κ2 → PR P2 σ2 → V K sL_law (k + 8) (n + 50) (wL3 en c2 a κ2 σ2 o g2) [some (.ref b), some (.ref (c 0)), some (.ref (a 0)), some (.ref o), some (.int (zI i)), none, none] [] 2688) : V K sL_law k n (wL3 en c a κ σ o g) [some (.ref b), some (.ref (c 0)), some (.ref (a 0)), some (.ref o), some (.int (zI i)), none, none] [] 1005 := by
  refine V_aload_n dL_law_1005 rfl ?_
  refine V_aload_n dL_law_1006 rfl ?_
  refine V_iload dL_law_1007 rfl ?_
  refine V_iconst dL_law_1009 ?_
  refine V_iadd dL_law_1010 ?_
  refine V_sld hX ⟨by omega, by omega⟩ hL dL_law_1011 ?_
  refine V_aload_n dL_law_1012 rfl ?_
  refine V_callSBH (As := [.ref (c 0), .int (zI (sc xs (i + 1))), .ref o]) (wr := mW a σ) (wc := fm (cO en c κ) ++ [(o, lE 1 g)]) rfl hK (l_statementAt en c κ P o g (sc xs (i + 1)) hM hC (sc_R _ _)) mokL_statementAt w836 w837 ⟨Nat.le_of_ble_eq_true rfl, Nat.le_of_ble_eq_true rfl⟩ rfl (Nat.le_of_ble_eq_true rfl) ⟨rm_k hk (Nat.le_of_ble_eq_true rfl), rm_n hn (Nat.le_of_ble_eq_true rfl)⟩ dL_law_1013 (fun v w h => ?_)
  obtain ⟨c2, κ2, g2, rfl, rfl, e0, hC2, hn2, hz2⟩ := h
  show V K sL_law (k + 1) (n + 6) (wL3 en c2 a κ2 σ o g2) [some (.ref b), some (.ref (c 0)), some (.ref (a 0)), some (.ref o), some (.int (zI i)), none, none] [.int (zI ((sp_statementAt P (sc xs (i + 1))).1))] 1016
  refine V_istore (L' := [some (.ref b), some (.ref (c 0)), some (.ref (a 0)), some (.ref o), some (.int (zI i)), some (.int (zI ((sp_statementAt P (sc xs (i + 1))).1))), none]) dL_law_1016 (by decide) rfl ?_
  refine V_aload_n dL_law_1018 rfl ?_
  refine V_aload_n dL_law_1019 rfl ?_
  refine V_iload dL_law_1020 rfl ?_
  refine V_iconst dL_law_1022 ?_
  refine V_iadd dL_law_1023 ?_
  refine V_sld hX ⟨by omega, by omega⟩ hL dL_law_1024 ?_
  refine V_callVA (As := [.int (zI (sc xs (i + 1)))]) (b := a 0) (q0 := 0) (ci := 10) (fs := mF a σ) (T := TX11) (N := 30) rfl rfl (wc := mW a σ) (wr := fm (cO en c2 κ2) ++ [(o, lE 1 g2)]) rfl hK (c_statementAt (EX.stb en) a σ (sc xs (i + 1)) P ⟨hM, hP, sc_R _ _⟩) mokX11_statementAt w1279 w1280 w1281 ⟨Nat.le_of_ble_eq_true rfl, Nat.le_of_ble_eq_true rfl⟩ rfl (Nat.le_of_ble_eq_true rfl) ⟨rm_k (c := 1) hk (Nat.le_of_ble_eq_true rfl), rm_n (c := 6) hn (Nat.le_of_ble_eq_true rfl)⟩ dL_law_1025 (fun v w h => ?_)
  obtain ⟨σ2, rfl, rfl, et, hP2⟩ := h
  show V K sL_law (k + 1) (n + 6) (wL3 en c2 a κ2 σ2 o g2) [some (.ref b), some (.ref (c 0)), some (.ref (a 0)), some (.ref o), some (.int (zI i)), some (.int (zI ((sp_statementAt P (sc xs (i + 1))).1))), none] [.int (zI ((sp_statementAt P (sc xs (i + 1))).2.1))] 1028
  refine V_istore (L' := [some (.ref b), some (.ref (c 0)), some (.ref (a 0)), some (.ref o), some (.int (zI i)), some (.int (zI ((sp_statementAt P (sc xs (i + 1))).1))), some (.int (zI ((sp_statementAt P (sc xs (i + 1))).2.1)))]) dL_law_1028 (by decide) rfl ?_
  refine V_aload_n dL_law_1030 rfl ?_
  refine V_callVA (As := []) (b := a 0) (q0 := 0) (ci := 10) (fs := mF a σ2) (T := TX11) (N := 30) rfl rfl (wc := mW a σ2) (wr := fm (cO en c2 κ2) ++ [(o, lE 1 g2)]) rfl hK (c_thrown (EX.stb en) a σ2) mokX11_thrown w1161 w1162 w1163 ⟨Nat.le_of_ble_eq_true rfl, Nat.le_of_ble_eq_true rfl⟩ rfl (Nat.le_of_ble_eq_true rfl) ⟨rm_k (c := 1) hk (Nat.le_of_ble_eq_true rfl), rm_n (c := 6) hn (Nat.le_of_ble_eq_true rfl)⟩ dL_law_1031 (fun v w h => ?_)
  obtain ⟨rfl, rfl⟩ := h
  show V K sL_law (k + 1) (n + 6) (wL3 en c2 a κ2 σ2 o g2) [some (.ref b), some (.ref (c 0)), some (.ref (a 0)), some (.ref o), some (.int (zI i)), some (.int (zI ((sp_statementAt P (sc xs (i + 1))).1))), some (.int (zI ((sp_statementAt P (sc xs (i + 1))).2.1)))] [.int (zI (σ2 1 29))] 1034
  refine V_eqT (y := zI (sp_statementAt P (sc xs (i + 1))).1) (by rw [et]) ?_
  refine V_iload dL_law_1034 rfl ?_
  refine V_icmp_same (tgt := 1041) dL_law_1036 (by decide) ?_
  refine V_iload dL_law_1041 rfl ?_
  refine V_if_ne (tgt := 1058) dL_law_1043 (by decide) ⟨by have := hn2; omega, by have := hn2; omega⟩ (fun h1 => ?_) (fun h1 => ?_)
  · refine V_goto (tgt := 2688) dL_law_1058 (by decide) ?_
    refine V_mask (L' := [some (.ref b), some (.ref (c 0)), some (.ref (a 0)), some (.ref o), some (.int (zI i)), none, none]) [true, true, true, true, true, false, false] rfl ?_
    refine V_widen (k' := k + 8) (n' := n + 50) (by omega) (by omega) ?_
    exact hnext c2 κ2 σ2 _ g2 e0 (mi_statementAt hM) hC2 hP2
  · refine V_aload_n dL_law_1046 rfl ?_
    refine V_iconst dL_law_1047 ?_
    refine V_lald (N := 1) _ (wL3_out en c2 a κ2 σ2 o g2) ⟨by decide, by decide⟩ (by decide) dL_law_1048 ?_
    refine V_iload dL_law_1049 rfl ?_
    refine V_i2l dL_law_1051 ?_
    refine V_lcmp dL_law_1052 ?_
    refine V_eqT (y := zI 0) (lg_eq (hz2 h1).1) ?_
    refine V_if_eq (tgt := 1058) dL_law_1053 (by decide) ⟨by omega, by omega⟩ (fun _ => ?_) (fun h => absurd rfl h)
    refine V_goto (tgt := 2688) dL_law_1058 (by decide) ?_
    refine V_mask (L' := [some (.ref b), some (.ref (c 0)), some (.ref (a 0)), some (.ref o), some (.int (zI i)), none, none]) [true, true, true, true, true, false, false] rfl ?_
    refine V_widen (k' := k + 8) (n' := n + 50) (by omega) (by omega) ?_
    exact hnext c2 κ2 σ2 _ g2 e0 (mi_statementAt hM) hC2 hP2
set_option maxRecDepth 100000 in
set_option maxHeartbeats 4000000 in
theorem law_pointAt {K : KT} {en c a : Nat → Nat} {κ σ P : St} {o b Ln k n : Nat} {xs : Nat → Int32} {g : Nat → Int64} {i : Int} (hK : evK K = EX en) (hX : scK K b Ln xs) (hL : Ln ≤ 3072) (hi : 0 ≤ i ∧ i + 6 ≤ (Ln : Int)) (hk : k + 8 ≤ 601024) (hn : n + 50 ≤ 7293034) (hM : MI P) (hC : CWP P κ) (hP : PR P σ)
    (hnext : ∀ (c2 : Nat → Nat) (κ2 σ2 P2 : St) (g2 : Nat → Int64), c2 0 = c 0 → MI P2 → CWP P2 κ2 → PR P2 σ2 → V K sL_law (k + 8) (n + 50) (wL3 en c2 a κ2 σ2 o g2) [some (.ref b), some (.ref (c 0)), some (.ref (a 0)), some (.ref o), some (.int (zI i)), none, none] [] 2688) : V K sL_law k n (wL3 en c a κ σ o g) [some (.ref b), some (.ref (c 0)), some (.ref (a 0)), some (.ref o), some (.int (zI i)), none, none] [] 1061 := by
  refine V_aload_n dL_law_1061 rfl ?_
  refine V_aload_n dL_law_1062 rfl ?_
  refine V_iload dL_law_1063 rfl ?_
  refine V_iconst dL_law_1065 ?_
  refine V_iadd dL_law_1066 ?_
  refine V_sld hX ⟨by omega, by omega⟩ hL dL_law_1067 ?_
  refine V_aload_n dL_law_1068 rfl ?_
  refine V_callSBH (As := [.ref (c 0), .int (zI (sc xs (i + 1))), .ref o]) (wr := mW a σ) (wc := fm (cO en c κ) ++ [(o, lE 1 g)]) rfl hK (l_pointAt en c κ P o g (sc xs (i + 1)) hM hC (sc_R _ _)) mokL_pointAt w848 w849 ⟨Nat.le_of_ble_eq_true rfl, Nat.le_of_ble_eq_true rfl⟩ rfl (Nat.le_of_ble_eq_true rfl) ⟨rm_k hk (Nat.le_of_ble_eq_true rfl), rm_n hn (Nat.le_of_ble_eq_true rfl)⟩ dL_law_1069 (fun v w h => ?_)
  obtain ⟨c2, κ2, g2, rfl, rfl, e0, hC2, hn2, hz2⟩ := h
  show V K sL_law (k + 1) (n + 6) (wL3 en c2 a κ2 σ o g2) [some (.ref b), some (.ref (c 0)), some (.ref (a 0)), some (.ref o), some (.int (zI i)), none, none] [.int (zI ((sp_pointAt P (sc xs (i + 1))).1))] 1072
  refine V_istore (L' := [some (.ref b), some (.ref (c 0)), some (.ref (a 0)), some (.ref o), some (.int (zI i)), some (.int (zI ((sp_pointAt P (sc xs (i + 1))).1))), none]) dL_law_1072 (by decide) rfl ?_
  refine V_aload_n dL_law_1074 rfl ?_
  refine V_aload_n dL_law_1075 rfl ?_
  refine V_iload dL_law_1076 rfl ?_
  refine V_iconst dL_law_1078 ?_
  refine V_iadd dL_law_1079 ?_
  refine V_sld hX ⟨by omega, by omega⟩ hL dL_law_1080 ?_
  refine V_callVA (As := [.int (zI (sc xs (i + 1)))]) (b := a 0) (q0 := 0) (ci := 10) (fs := mF a σ) (T := TX11) (N := 30) rfl rfl (wc := mW a σ) (wr := fm (cO en c2 κ2) ++ [(o, lE 1 g2)]) rfl hK (c_pointAt (EX.stb en) a σ (sc xs (i + 1)) P ⟨hM, hP, sc_R _ _⟩) mokX11_pointAt w1287 w1288 w1289 ⟨Nat.le_of_ble_eq_true rfl, Nat.le_of_ble_eq_true rfl⟩ rfl (Nat.le_of_ble_eq_true rfl) ⟨rm_k (c := 1) hk (Nat.le_of_ble_eq_true rfl), rm_n (c := 6) hn (Nat.le_of_ble_eq_true rfl)⟩ dL_law_1081 (fun v w h => ?_)
  obtain ⟨σ2, rfl, rfl, et, hP2⟩ := h
  show V K sL_law (k + 1) (n + 6) (wL3 en c2 a κ2 σ2 o g2) [some (.ref b), some (.ref (c 0)), some (.ref (a 0)), some (.ref o), some (.int (zI i)), some (.int (zI ((sp_pointAt P (sc xs (i + 1))).1))), none] [.int (zI ((sp_pointAt P (sc xs (i + 1))).2.1))] 1084
  refine V_istore (L' := [some (.ref b), some (.ref (c 0)), some (.ref (a 0)), some (.ref o), some (.int (zI i)), some (.int (zI ((sp_pointAt P (sc xs (i + 1))).1))), some (.int (zI ((sp_pointAt P (sc xs (i + 1))).2.1)))]) dL_law_1084 (by decide) rfl ?_
  refine V_aload_n dL_law_1086 rfl ?_
  refine V_callVA (As := []) (b := a 0) (q0 := 0) (ci := 10) (fs := mF a σ2) (T := TX11) (N := 30) rfl rfl (wc := mW a σ2) (wr := fm (cO en c2 κ2) ++ [(o, lE 1 g2)]) rfl hK (c_thrown (EX.stb en) a σ2) mokX11_thrown w1161 w1162 w1163 ⟨Nat.le_of_ble_eq_true rfl, Nat.le_of_ble_eq_true rfl⟩ rfl (Nat.le_of_ble_eq_true rfl) ⟨rm_k (c := 1) hk (Nat.le_of_ble_eq_true rfl), rm_n (c := 6) hn (Nat.le_of_ble_eq_true rfl)⟩ dL_law_1087 (fun v w h => ?_)
  obtain ⟨rfl, rfl⟩ := h
  show V K sL_law (k + 1) (n + 6) (wL3 en c2 a κ2 σ2 o g2) [some (.ref b), some (.ref (c 0)), some (.ref (a 0)), some (.ref o), some (.int (zI i)), some (.int (zI ((sp_pointAt P (sc xs (i + 1))).1))), some (.int (zI ((sp_pointAt P (sc xs (i + 1))).2.1)))] [.int (zI (σ2 1 29))] 1090
  refine V_eqT (y := zI (sp_pointAt P (sc xs (i + 1))).1) (by rw [et]) ?_
  refine V_iload dL_law_1090 rfl ?_
  refine V_icmp_same (tgt := 1097) dL_law_1092 (by decide) ?_
  refine V_iload dL_law_1097 rfl ?_
  refine V_if_ne (tgt := 1114) dL_law_1099 (by decide) ⟨by have := hn2; omega, by have := hn2; omega⟩ (fun h1 => ?_) (fun h1 => ?_)
  · refine V_goto (tgt := 2688) dL_law_1114 (by decide) ?_
    refine V_mask (L' := [some (.ref b), some (.ref (c 0)), some (.ref (a 0)), some (.ref o), some (.int (zI i)), none, none]) [true, true, true, true, true, false, false] rfl ?_
    refine V_widen (k' := k + 8) (n' := n + 50) (by omega) (by omega) ?_
    exact hnext c2 κ2 σ2 _ g2 e0 (mi_pointAt hM) hC2 hP2
  · refine V_aload_n dL_law_1102 rfl ?_
    refine V_iconst dL_law_1103 ?_
    refine V_lald (N := 1) _ (wL3_out en c2 a κ2 σ2 o g2) ⟨by decide, by decide⟩ (by decide) dL_law_1104 ?_
    refine V_iload dL_law_1105 rfl ?_
    refine V_i2l dL_law_1107 ?_
    refine V_lcmp dL_law_1108 ?_
    refine V_eqT (y := zI 0) (lg_eq (hz2 h1).1) ?_
    refine V_if_eq (tgt := 1114) dL_law_1109 (by decide) ⟨by omega, by omega⟩ (fun _ => ?_) (fun h => absurd rfl h)
    refine V_goto (tgt := 2688) dL_law_1114 (by decide) ?_
    refine V_mask (L' := [some (.ref b), some (.ref (c 0)), some (.ref (a 0)), some (.ref o), some (.int (zI i)), none, none]) [true, true, true, true, true, false, false] rfl ?_
    refine V_widen (k' := k + 8) (n' := n + 50) (by omega) (by omega) ?_
    exact hnext c2 κ2 σ2 _ g2 e0 (mi_pointAt hM) hC2 hP2
set_option maxRecDepth 100000 in
set_option maxHeartbeats 4000000 in
theorem law_endOf {K : KT} {en c a : Nat → Nat} {κ σ P : St} {o b Ln k n : Nat} {xs : Nat → Int32} {g : Nat → Int64} {i : Int} (hK : evK K = EX en) (hX : scK K b Ln xs) (hL : Ln ≤ 3072) (hi : 0 ≤ i ∧ i + 6 ≤ (Ln : Int)) (hk : k + 8 ≤ 601024) (hn : n + 50 ≤ 7293034) (hM : MI P) (hC : CWP P κ) (hP : PR P σ)
    (hnext : ∀ (c2 : Nat → Nat) (κ2 σ2 P2 : St) (g2 : Nat → Int64), c2 0 = c 0 → MI P2 → CWP P2 κ2 → PR P2 σ2 → V K sL_law (k + 8) (n + 50) (wL3 en c2 a κ2 σ2 o g2) [some (.ref b), some (.ref (c 0)), some (.ref (a 0)), some (.ref o), some (.int (zI i)), none, none] [] 2688) : V K sL_law k n (wL3 en c a κ σ o g) [some (.ref b), some (.ref (c 0)), some (.ref (a 0)), some (.ref o), some (.int (zI i)), none, none] [] 1117 := by
  refine V_aload_n dL_law_1117 rfl ?_
  refine V_aload_n dL_law_1118 rfl ?_
  refine V_iload dL_law_1119 rfl ?_
  refine V_iconst dL_law_1121 ?_
  refine V_iadd dL_law_1122 ?_
  refine V_sld hX ⟨by omega, by omega⟩ hL dL_law_1123 ?_
  refine V_aload_n dL_law_1124 rfl ?_
  refine V_iload dL_law_1125 rfl ?_
  refine V_iconst dL_law_1127 ?_
  refine V_iadd dL_law_1128 ?_
  refine V_sld hX ⟨by omega, by omega⟩ hL dL_law_1129 ?_
  refine V_aload_n dL_law_1130 rfl ?_
  refine V_iload dL_law_1131 rfl ?_
  refine V_iconst dL_law_1133 ?_
  refine V_iadd dL_law_1134 ?_
  refine V_sld hX ⟨by omega, by omega⟩ hL dL_law_1135 ?_
  refine V_aload_n dL_law_1136 rfl ?_
  refine V_callSBH (As := [.ref (c 0), .int (zI (sc xs (i + 1))), .int (zI (sc xs (i + 2))), .int (zI (sc xs (i + 3))), .ref o]) (wr := mW a σ) (wc := fm (cO en c κ) ++ [(o, lE 1 g)]) rfl hK (l_endOf en c κ P o g (sc xs (i + 1)) (sc xs (i + 2)) (sc xs (i + 3)) hM hC (sc_R _ _) (sc_R _ _) (sc_R _ _)) mokL_endOf w856 w857 ⟨Nat.le_of_ble_eq_true rfl, Nat.le_of_ble_eq_true rfl⟩ rfl (Nat.le_of_ble_eq_true rfl) ⟨rm_k hk (Nat.le_of_ble_eq_true rfl), rm_n hn (Nat.le_of_ble_eq_true rfl)⟩ dL_law_1137 (fun v w h => ?_)
  obtain ⟨c2, κ2, g2, rfl, rfl, e0, hC2, hn2, hz2⟩ := h
  show V K sL_law (k + 2) (n + 12) (wL3 en c2 a κ2 σ o g2) [some (.ref b), some (.ref (c 0)), some (.ref (a 0)), some (.ref o), some (.int (zI i)), none, none] [.int (zI ((sp_endOf P (sc xs (i + 1)) (sc xs (i + 2)) (sc xs (i + 3))).1))] 1140
  refine V_istore (L' := [some (.ref b), some (.ref (c 0)), some (.ref (a 0)), some (.ref o), some (.int (zI i)), some (.int (zI ((sp_endOf P (sc xs (i + 1)) (sc xs (i + 2)) (sc xs (i + 3))).1))), none]) dL_law_1140 (by decide) rfl ?_
  refine V_aload_n dL_law_1142 rfl ?_
  refine V_aload_n dL_law_1143 rfl ?_
  refine V_iload dL_law_1144 rfl ?_
  refine V_iconst dL_law_1146 ?_
  refine V_iadd dL_law_1147 ?_
  refine V_sld hX ⟨by omega, by omega⟩ hL dL_law_1148 ?_
  refine V_aload_n dL_law_1149 rfl ?_
  refine V_iload dL_law_1150 rfl ?_
  refine V_iconst dL_law_1152 ?_
  refine V_iadd dL_law_1153 ?_
  refine V_sld hX ⟨by omega, by omega⟩ hL dL_law_1154 ?_
  refine V_aload_n dL_law_1155 rfl ?_
  refine V_iload dL_law_1156 rfl ?_
  refine V_iconst dL_law_1158 ?_
  refine V_iadd dL_law_1159 ?_
  refine V_sld hX ⟨by omega, by omega⟩ hL dL_law_1160 ?_
  refine V_callVA (As := [.int (zI (sc xs (i + 1))), .int (zI (sc xs (i + 2))), .int (zI (sc xs (i + 3)))]) (b := a 0) (q0 := 0) (ci := 10) (fs := mF a σ) (T := TX11) (N := 30) rfl rfl (wc := mW a σ) (wr := fm (cO en c2 κ2) ++ [(o, lE 1 g2)]) rfl hK (c_endOf (EX.stb en) a σ (sc xs (i + 1)) (sc xs (i + 2)) (sc xs (i + 3)) P ⟨hM, hP, sc_R _ _, sc_R _ _, sc_R _ _⟩) mokX11_endOf w1291 w1292 w1293 ⟨Nat.le_of_ble_eq_true rfl, Nat.le_of_ble_eq_true rfl⟩ rfl (Nat.le_of_ble_eq_true rfl) ⟨rm_k (c := 2) hk (Nat.le_of_ble_eq_true rfl), rm_n (c := 12) hn (Nat.le_of_ble_eq_true rfl)⟩ dL_law_1161 (fun v w h => ?_)
  obtain ⟨σ2, rfl, rfl, et, hP2⟩ := h
  show V K sL_law (k + 2) (n + 12) (wL3 en c2 a κ2 σ2 o g2) [some (.ref b), some (.ref (c 0)), some (.ref (a 0)), some (.ref o), some (.int (zI i)), some (.int (zI ((sp_endOf P (sc xs (i + 1)) (sc xs (i + 2)) (sc xs (i + 3))).1))), none] [.int (zI ((sp_endOf P (sc xs (i + 1)) (sc xs (i + 2)) (sc xs (i + 3))).2.1))] 1164
  refine V_istore (L' := [some (.ref b), some (.ref (c 0)), some (.ref (a 0)), some (.ref o), some (.int (zI i)), some (.int (zI ((sp_endOf P (sc xs (i + 1)) (sc xs (i + 2)) (sc xs (i + 3))).1))), some (.int (zI ((sp_endOf P (sc xs (i + 1)) (sc xs (i + 2)) (sc xs (i + 3))).2.1)))]) dL_law_1164 (by decide) rfl ?_
  refine V_aload_n dL_law_1166 rfl ?_
  refine V_callVA (As := []) (b := a 0) (q0 := 0) (ci := 10) (fs := mF a σ2) (T := TX11) (N := 30) rfl rfl (wc := mW a σ2) (wr := fm (cO en c2 κ2) ++ [(o, lE 1 g2)]) rfl hK (c_thrown (EX.stb en) a σ2) mokX11_thrown w1161 w1162 w1163 ⟨Nat.le_of_ble_eq_true rfl, Nat.le_of_ble_eq_true rfl⟩ rfl (Nat.le_of_ble_eq_true rfl) ⟨rm_k (c := 2) hk (Nat.le_of_ble_eq_true rfl), rm_n (c := 12) hn (Nat.le_of_ble_eq_true rfl)⟩ dL_law_1167 (fun v w h => ?_)
  obtain ⟨rfl, rfl⟩ := h
  show V K sL_law (k + 2) (n + 12) (wL3 en c2 a κ2 σ2 o g2) [some (.ref b), some (.ref (c 0)), some (.ref (a 0)), some (.ref o), some (.int (zI i)), some (.int (zI ((sp_endOf P (sc xs (i + 1)) (sc xs (i + 2)) (sc xs (i + 3))).1))), some (.int (zI ((sp_endOf P (sc xs (i + 1)) (sc xs (i + 2)) (sc xs (i + 3))).2.1)))] [.int (zI (σ2 1 29))] 1170
  refine V_eqT (y := zI (sp_endOf P (sc xs (i + 1)) (sc xs (i + 2)) (sc xs (i + 3))).1) (by rw [et]) ?_
  refine V_iload dL_law_1170 rfl ?_
  refine V_icmp_same (tgt := 1177) dL_law_1172 (by decide) ?_
  refine V_iload dL_law_1177 rfl ?_
  refine V_if_ne (tgt := 1194) dL_law_1179 (by decide) ⟨by have := hn2; omega, by have := hn2; omega⟩ (fun h1 => ?_) (fun h1 => ?_)
  · refine V_goto (tgt := 2688) dL_law_1194 (by decide) ?_
    refine V_mask (L' := [some (.ref b), some (.ref (c 0)), some (.ref (a 0)), some (.ref o), some (.int (zI i)), none, none]) [true, true, true, true, true, false, false] rfl ?_
    refine V_widen (k' := k + 8) (n' := n + 50) (by omega) (by omega) ?_
    exact hnext c2 κ2 σ2 _ g2 e0 (mi_endOf hM) hC2 hP2
  · refine V_aload_n dL_law_1182 rfl ?_
    refine V_iconst dL_law_1183 ?_
    refine V_lald (N := 1) _ (wL3_out en c2 a κ2 σ2 o g2) ⟨by decide, by decide⟩ (by decide) dL_law_1184 ?_
    refine V_iload dL_law_1185 rfl ?_
    refine V_i2l dL_law_1187 ?_
    refine V_lcmp dL_law_1188 ?_
    refine V_eqT (y := zI 0) (lg_eq (hz2 h1).1) ?_
    refine V_if_eq (tgt := 1194) dL_law_1189 (by decide) ⟨by omega, by omega⟩ (fun _ => ?_) (fun h => absurd rfl h)
    refine V_goto (tgt := 2688) dL_law_1194 (by decide) ?_
    refine V_mask (L' := [some (.ref b), some (.ref (c 0)), some (.ref (a 0)), some (.ref o), some (.int (zI i)), none, none]) [true, true, true, true, true, false, false] rfl ?_
    refine V_widen (k' := k + 8) (n' := n + 50) (by omega) (by omega) ?_
    exact hnext c2 κ2 σ2 _ g2 e0 (mi_endOf hM) hC2 hP2
set_option maxRecDepth 100000 in
set_option maxHeartbeats 4000000 in
theorem law_liveAt {K : KT} {en c a : Nat → Nat} {κ σ P : St} {o b Ln k n : Nat} {xs : Nat → Int32} {g : Nat → Int64} {i : Int} (hK : evK K = EX en) (hX : scK K b Ln xs) (hL : Ln ≤ 3072) (hi : 0 ≤ i ∧ i + 6 ≤ (Ln : Int)) (hk : k + 8 ≤ 601024) (hn : n + 50 ≤ 7293034) (hM : MI P) (hC : CWP P κ) (hP : PR P σ)
    (hnext : ∀ (c2 : Nat → Nat) (κ2 σ2 P2 : St) (g2 : Nat → Int64), c2 0 = c 0 → MI P2 → CWP P2 κ2 → PR P2 σ2 → V K sL_law (k + 8) (n + 50) (wL3 en c2 a κ2 σ2 o g2) [some (.ref b), some (.ref (c 0)), some (.ref (a 0)), some (.ref o), some (.int (zI i)), none, none] [] 2688) : V K sL_law k n (wL3 en c a κ σ o g) [some (.ref b), some (.ref (c 0)), some (.ref (a 0)), some (.ref o), some (.int (zI i)), none, none] [] 1197 := by
  refine V_aload_n dL_law_1197 rfl ?_
  refine V_aload_n dL_law_1198 rfl ?_
  refine V_iload dL_law_1199 rfl ?_
  refine V_iconst dL_law_1201 ?_
  refine V_iadd dL_law_1202 ?_
  refine V_sld hX ⟨by omega, by omega⟩ hL dL_law_1203 ?_
  refine V_aload_n dL_law_1204 rfl ?_
  refine V_callSBH (As := [.ref (c 0), .int (zI (sc xs (i + 1))), .ref o]) (wr := mW a σ) (wc := fm (cO en c κ) ++ [(o, lE 1 g)]) rfl hK (l_liveAt en c κ P o g (sc xs (i + 1)) hM hC (sc_R _ _)) mokL_liveAt w863 w864 ⟨Nat.le_of_ble_eq_true rfl, Nat.le_of_ble_eq_true rfl⟩ rfl (Nat.le_of_ble_eq_true rfl) ⟨rm_k hk (Nat.le_of_ble_eq_true rfl), rm_n hn (Nat.le_of_ble_eq_true rfl)⟩ dL_law_1205 (fun v w h => ?_)
  obtain ⟨c2, κ2, g2, rfl, rfl, e0, hC2, hn2, hz2⟩ := h
  show V K sL_law (k + 1) (n + 6) (wL3 en c2 a κ2 σ o g2) [some (.ref b), some (.ref (c 0)), some (.ref (a 0)), some (.ref o), some (.int (zI i)), none, none] [.int (zI ((sp_liveAt P (sc xs (i + 1))).1))] 1208
  refine V_istore (L' := [some (.ref b), some (.ref (c 0)), some (.ref (a 0)), some (.ref o), some (.int (zI i)), some (.int (zI ((sp_liveAt P (sc xs (i + 1))).1))), none]) dL_law_1208 (by decide) rfl ?_
  refine V_aload_n dL_law_1210 rfl ?_
  refine V_aload_n dL_law_1211 rfl ?_
  refine V_iload dL_law_1212 rfl ?_
  refine V_iconst dL_law_1214 ?_
  refine V_iadd dL_law_1215 ?_
  refine V_sld hX ⟨by omega, by omega⟩ hL dL_law_1216 ?_
  refine V_callVA (As := [.int (zI (sc xs (i + 1)))]) (b := a 0) (q0 := 0) (ci := 10) (fs := mF a σ) (T := TX11) (N := 30) rfl rfl (wc := mW a σ) (wr := fm (cO en c2 κ2) ++ [(o, lE 1 g2)]) rfl hK (c_liveAt (EX.stb en) a σ (sc xs (i + 1)) P ⟨hM, hP, sc_R _ _⟩) mokX11_liveAt w1303 w1304 w1305 ⟨Nat.le_of_ble_eq_true rfl, Nat.le_of_ble_eq_true rfl⟩ rfl (Nat.le_of_ble_eq_true rfl) ⟨rm_k (c := 1) hk (Nat.le_of_ble_eq_true rfl), rm_n (c := 6) hn (Nat.le_of_ble_eq_true rfl)⟩ dL_law_1217 (fun v w h => ?_)
  obtain ⟨σ2, rfl, rfl, et, hP2⟩ := h
  show V K sL_law (k + 1) (n + 6) (wL3 en c2 a κ2 σ2 o g2) [some (.ref b), some (.ref (c 0)), some (.ref (a 0)), some (.ref o), some (.int (zI i)), some (.int (zI ((sp_liveAt P (sc xs (i + 1))).1))), none] [.int (zI ((sp_liveAt P (sc xs (i + 1))).2.1))] 1220
  refine V_istore (L' := [some (.ref b), some (.ref (c 0)), some (.ref (a 0)), some (.ref o), some (.int (zI i)), some (.int (zI ((sp_liveAt P (sc xs (i + 1))).1))), some (.int (zI ((sp_liveAt P (sc xs (i + 1))).2.1)))]) dL_law_1220 (by decide) rfl ?_
  refine V_aload_n dL_law_1222 rfl ?_
  refine V_callVA (As := []) (b := a 0) (q0 := 0) (ci := 10) (fs := mF a σ2) (T := TX11) (N := 30) rfl rfl (wc := mW a σ2) (wr := fm (cO en c2 κ2) ++ [(o, lE 1 g2)]) rfl hK (c_thrown (EX.stb en) a σ2) mokX11_thrown w1161 w1162 w1163 ⟨Nat.le_of_ble_eq_true rfl, Nat.le_of_ble_eq_true rfl⟩ rfl (Nat.le_of_ble_eq_true rfl) ⟨rm_k (c := 1) hk (Nat.le_of_ble_eq_true rfl), rm_n (c := 6) hn (Nat.le_of_ble_eq_true rfl)⟩ dL_law_1223 (fun v w h => ?_)
  obtain ⟨rfl, rfl⟩ := h
  show V K sL_law (k + 1) (n + 6) (wL3 en c2 a κ2 σ2 o g2) [some (.ref b), some (.ref (c 0)), some (.ref (a 0)), some (.ref o), some (.int (zI i)), some (.int (zI ((sp_liveAt P (sc xs (i + 1))).1))), some (.int (zI ((sp_liveAt P (sc xs (i + 1))).2.1)))] [.int (zI (σ2 1 29))] 1226
  refine V_eqT (y := zI (sp_liveAt P (sc xs (i + 1))).1) (by rw [et]) ?_
  refine V_iload dL_law_1226 rfl ?_
  refine V_icmp_same (tgt := 1233) dL_law_1228 (by decide) ?_
  refine V_iload dL_law_1233 rfl ?_
  refine V_if_ne (tgt := 1250) dL_law_1235 (by decide) ⟨by have := hn2; omega, by have := hn2; omega⟩ (fun h1 => ?_) (fun h1 => ?_)
  · refine V_goto (tgt := 2688) dL_law_1250 (by decide) ?_
    refine V_mask (L' := [some (.ref b), some (.ref (c 0)), some (.ref (a 0)), some (.ref o), some (.int (zI i)), none, none]) [true, true, true, true, true, false, false] rfl ?_
    refine V_widen (k' := k + 8) (n' := n + 50) (by omega) (by omega) ?_
    exact hnext c2 κ2 σ2 _ g2 e0 (mi_liveAt hM) hC2 hP2
  · refine V_aload_n dL_law_1238 rfl ?_
    refine V_iconst dL_law_1239 ?_
    refine V_lald (N := 1) _ (wL3_out en c2 a κ2 σ2 o g2) ⟨by decide, by decide⟩ (by decide) dL_law_1240 ?_
    refine V_iload dL_law_1241 rfl ?_
    refine V_i2l dL_law_1243 ?_
    refine V_lcmp dL_law_1244 ?_
    refine V_eqT (y := zI 0) (lg_eq (hz2 h1).1) ?_
    refine V_if_eq (tgt := 1250) dL_law_1245 (by decide) ⟨by omega, by omega⟩ (fun _ => ?_) (fun h => absurd rfl h)
    refine V_goto (tgt := 2688) dL_law_1250 (by decide) ?_
    refine V_mask (L' := [some (.ref b), some (.ref (c 0)), some (.ref (a 0)), some (.ref o), some (.int (zI i)), none, none]) [true, true, true, true, true, false, false] rfl ?_
    refine V_widen (k' := k + 8) (n' := n + 50) (by omega) (by omega) ?_
    exact hnext c2 κ2 σ2 _ g2 e0 (mi_liveAt hM) hC2 hP2
set_option maxRecDepth 100000 in
set_option maxHeartbeats 4000000 in
theorem law_mostLive {K : KT} {en c a : Nat → Nat} {κ σ P : St} {o b Ln k n : Nat} {xs : Nat → Int32} {g : Nat → Int64} {i : Int} (hK : evK K = EX en) (hX : scK K b Ln xs) (hL : Ln ≤ 3072) (hi : 0 ≤ i ∧ i + 6 ≤ (Ln : Int)) (hk : k + 8 ≤ 601024) (hn : n + 50 ≤ 7293034) (hM : MI P) (hC : CWP P κ) (hP : PR P σ)
    (hnext : ∀ (c2 : Nat → Nat) (κ2 σ2 P2 : St) (g2 : Nat → Int64), c2 0 = c 0 → MI P2 → CWP P2 κ2 → PR P2 σ2 → V K sL_law (k + 8) (n + 50) (wL3 en c2 a κ2 σ2 o g2) [some (.ref b), some (.ref (c 0)), some (.ref (a 0)), some (.ref o), some (.int (zI i)), none, none] [] 2688) : V K sL_law k n (wL3 en c a κ σ o g) [some (.ref b), some (.ref (c 0)), some (.ref (a 0)), some (.ref o), some (.int (zI i)), none, none] [] 1253 := by
  refine V_aload_n dL_law_1253 rfl ?_
  refine V_Perm (law_P1 _ _ _) ?_
  refine V_callVB (As := []) (b := c 0) (ci := 9) (fs := cwF c κ) (T := TX10) (N := 9) (wL3_cw en c a κ σ o g) rfl (wr := mW a σ ++ [(o, lE 1 g)]) (wc := fm (cO en c κ)) rfl hK (MC.env EX.en (k_mostLive en c κ P ⟨hM, hC.1, hC.2.1, hC.2.2⟩)) mokX10_mostLive w309 w310 w311 ⟨Nat.le_of_ble_eq_true rfl, Nat.le_of_ble_eq_true rfl⟩ rfl (Nat.le_of_ble_eq_true rfl) ⟨rm_k (c := 0) hk (Nat.le_of_ble_eq_true rfl), rm_n (c := 0) hn (Nat.le_of_ble_eq_true rfl)⟩ dL_law_1254 (fun v w h => ?_)
  obtain ⟨κ2, rfl, rfl, e1, hC2⟩ := h
  refine V_Perm (law_P2 _ _ _) ?_
  show V K sL_law (k + 0) (n + 0) (wL3 en c a κ2 σ o g) [some (.ref b), some (.ref (c 0)), some (.ref (a 0)), some (.ref o), some (.int (zI i)), none, none] [.int (zI ((sp_mostLive P).2.1))] 1257
  refine V_aload_n dL_law_1257 rfl ?_
  refine V_callVA (As := []) (b := a 0) (q0 := 0) (ci := 10) (fs := mF a σ) (T := TX11) (N := 30) rfl rfl (wc := mW a σ) (wr := fm (cO en c κ2) ++ [(o, lE 1 g)]) rfl hK (c_mostLive (EX.stb en) a σ P ⟨hM, hP⟩) mokX11_mostLive w1311 w1312 w1313 ⟨Nat.le_of_ble_eq_true rfl, Nat.le_of_ble_eq_true rfl⟩ rfl (Nat.le_of_ble_eq_true rfl) ⟨rm_k (c := 0) hk (Nat.le_of_ble_eq_true rfl), rm_n (c := 0) hn (Nat.le_of_ble_eq_true rfl)⟩ dL_law_1258 (fun v w h => ?_)
  obtain ⟨σ2, rfl, rfl, et, hP2⟩ := h
  show V K sL_law (k + 0) (n + 0) (wL3 en c a κ2 σ2 o g) [some (.ref b), some (.ref (c 0)), some (.ref (a 0)), some (.ref o), some (.int (zI i)), none, none] [.int (zI ((sp_mostLive P).2.1)), .int (zI ((sp_mostLive P).2.1))] 1261
  refine V_icmp_same (tgt := 2688) dL_law_1261 (by decide) ?_
  refine V_widen (k' := k + 8) (n' := n + 50) (by omega) (by omega) ?_
  exact hnext c κ2 σ2 _ g rfl (mi_mostLive hM) hC2 hP2
set_option maxRecDepth 100000 in
set_option maxHeartbeats 4000000 in
theorem law_mostLiveOf {K : KT} {en c a : Nat → Nat} {κ σ P : St} {o b Ln k n : Nat} {xs : Nat → Int32} {g : Nat → Int64} {i : Int} (hK : evK K = EX en) (hX : scK K b Ln xs) (hL : Ln ≤ 3072) (hi : 0 ≤ i ∧ i + 6 ≤ (Ln : Int)) (hk : k + 8 ≤ 601024) (hn : n + 50 ≤ 7293034) (hM : MI P) (hC : CWP P κ) (hP : PR P σ)
    (hnext : ∀ (c2 : Nat → Nat) (κ2 σ2 P2 : St) (g2 : Nat → Int64), c2 0 = c 0 → MI P2 → CWP P2 κ2 → PR P2 σ2 → V K sL_law (k + 8) (n + 50) (wL3 en c2 a κ2 σ2 o g2) [some (.ref b), some (.ref (c 0)), some (.ref (a 0)), some (.ref o), some (.int (zI i)), none, none] [] 2688) : V K sL_law k n (wL3 en c a κ σ o g) [some (.ref b), some (.ref (c 0)), some (.ref (a 0)), some (.ref o), some (.int (zI i)), none, none] [] 1266 := by
  refine V_aload_n dL_law_1266 rfl ?_
  refine V_aload_n dL_law_1267 rfl ?_
  refine V_iload dL_law_1268 rfl ?_
  refine V_iconst dL_law_1270 ?_
  refine V_iadd dL_law_1271 ?_
  refine V_sld hX ⟨by omega, by omega⟩ hL dL_law_1272 ?_
  refine V_aload_n dL_law_1273 rfl ?_
  refine V_callSBH (As := [.ref (c 0), .int (zI (sc xs (i + 1))), .ref o]) (wr := mW a σ) (wc := fm (cO en c κ) ++ [(o, lE 1 g)]) rfl hK (l_mostLiveOf en c κ P o g (sc xs (i + 1)) hM hC (sc_R _ _)) mokL_mostLiveOf w874 w875 ⟨Nat.le_of_ble_eq_true rfl, Nat.le_of_ble_eq_true rfl⟩ rfl (Nat.le_of_ble_eq_true rfl) ⟨rm_k hk (Nat.le_of_ble_eq_true rfl), rm_n hn (Nat.le_of_ble_eq_true rfl)⟩ dL_law_1274 (fun v w h => ?_)
  obtain ⟨c2, κ2, g2, rfl, rfl, e0, hC2, hn2, hz2⟩ := h
  show V K sL_law (k + 1) (n + 6) (wL3 en c2 a κ2 σ o g2) [some (.ref b), some (.ref (c 0)), some (.ref (a 0)), some (.ref o), some (.int (zI i)), none, none] [.int (zI ((sp_mostLiveOf P (sc xs (i + 1))).1))] 1277
  refine V_istore (L' := [some (.ref b), some (.ref (c 0)), some (.ref (a 0)), some (.ref o), some (.int (zI i)), some (.int (zI ((sp_mostLiveOf P (sc xs (i + 1))).1))), none]) dL_law_1277 (by decide) rfl ?_
  refine V_aload_n dL_law_1279 rfl ?_
  refine V_aload_n dL_law_1280 rfl ?_
  refine V_iload dL_law_1281 rfl ?_
  refine V_iconst dL_law_1283 ?_
  refine V_iadd dL_law_1284 ?_
  refine V_sld hX ⟨by omega, by omega⟩ hL dL_law_1285 ?_
  refine V_callVA (As := [.int (zI (sc xs (i + 1)))]) (b := a 0) (q0 := 0) (ci := 10) (fs := mF a σ) (T := TX11) (N := 30) rfl rfl (wc := mW a σ) (wr := fm (cO en c2 κ2) ++ [(o, lE 1 g2)]) rfl hK (c_mostLiveOf (EX.stb en) a σ (sc xs (i + 1)) P ⟨hM, hP, sc_R _ _⟩) mokX11_mostLiveOf w1315 w1316 w1317 ⟨Nat.le_of_ble_eq_true rfl, Nat.le_of_ble_eq_true rfl⟩ rfl (Nat.le_of_ble_eq_true rfl) ⟨rm_k (c := 1) hk (Nat.le_of_ble_eq_true rfl), rm_n (c := 6) hn (Nat.le_of_ble_eq_true rfl)⟩ dL_law_1286 (fun v w h => ?_)
  obtain ⟨σ2, rfl, rfl, et, hP2⟩ := h
  show V K sL_law (k + 1) (n + 6) (wL3 en c2 a κ2 σ2 o g2) [some (.ref b), some (.ref (c 0)), some (.ref (a 0)), some (.ref o), some (.int (zI i)), some (.int (zI ((sp_mostLiveOf P (sc xs (i + 1))).1))), none] [.int (zI ((sp_mostLiveOf P (sc xs (i + 1))).2.1))] 1289
  refine V_istore (L' := [some (.ref b), some (.ref (c 0)), some (.ref (a 0)), some (.ref o), some (.int (zI i)), some (.int (zI ((sp_mostLiveOf P (sc xs (i + 1))).1))), some (.int (zI ((sp_mostLiveOf P (sc xs (i + 1))).2.1)))]) dL_law_1289 (by decide) rfl ?_
  refine V_aload_n dL_law_1291 rfl ?_
  refine V_callVA (As := []) (b := a 0) (q0 := 0) (ci := 10) (fs := mF a σ2) (T := TX11) (N := 30) rfl rfl (wc := mW a σ2) (wr := fm (cO en c2 κ2) ++ [(o, lE 1 g2)]) rfl hK (c_thrown (EX.stb en) a σ2) mokX11_thrown w1161 w1162 w1163 ⟨Nat.le_of_ble_eq_true rfl, Nat.le_of_ble_eq_true rfl⟩ rfl (Nat.le_of_ble_eq_true rfl) ⟨rm_k (c := 1) hk (Nat.le_of_ble_eq_true rfl), rm_n (c := 6) hn (Nat.le_of_ble_eq_true rfl)⟩ dL_law_1292 (fun v w h => ?_)
  obtain ⟨rfl, rfl⟩ := h
  show V K sL_law (k + 1) (n + 6) (wL3 en c2 a κ2 σ2 o g2) [some (.ref b), some (.ref (c 0)), some (.ref (a 0)), some (.ref o), some (.int (zI i)), some (.int (zI ((sp_mostLiveOf P (sc xs (i + 1))).1))), some (.int (zI ((sp_mostLiveOf P (sc xs (i + 1))).2.1)))] [.int (zI (σ2 1 29))] 1295
  refine V_eqT (y := zI (sp_mostLiveOf P (sc xs (i + 1))).1) (by rw [et]) ?_
  refine V_iload dL_law_1295 rfl ?_
  refine V_icmp_same (tgt := 1302) dL_law_1297 (by decide) ?_
  refine V_iload dL_law_1302 rfl ?_
  refine V_if_ne (tgt := 1319) dL_law_1304 (by decide) ⟨by have := hn2; omega, by have := hn2; omega⟩ (fun h1 => ?_) (fun h1 => ?_)
  · refine V_goto (tgt := 2688) dL_law_1319 (by decide) ?_
    refine V_mask (L' := [some (.ref b), some (.ref (c 0)), some (.ref (a 0)), some (.ref o), some (.int (zI i)), none, none]) [true, true, true, true, true, false, false] rfl ?_
    refine V_widen (k' := k + 8) (n' := n + 50) (by omega) (by omega) ?_
    exact hnext c2 κ2 σ2 _ g2 e0 (mi_mostLiveOf hM) hC2 hP2
  · refine V_aload_n dL_law_1307 rfl ?_
    refine V_iconst dL_law_1308 ?_
    refine V_lald (N := 1) _ (wL3_out en c2 a κ2 σ2 o g2) ⟨by decide, by decide⟩ (by decide) dL_law_1309 ?_
    refine V_iload dL_law_1310 rfl ?_
    refine V_i2l dL_law_1312 ?_
    refine V_lcmp dL_law_1313 ?_
    refine V_eqT (y := zI 0) (lg_eq (hz2 h1).1) ?_
    refine V_if_eq (tgt := 1319) dL_law_1314 (by decide) ⟨by omega, by omega⟩ (fun _ => ?_) (fun h => absurd rfl h)
    refine V_goto (tgt := 2688) dL_law_1319 (by decide) ?_
    refine V_mask (L' := [some (.ref b), some (.ref (c 0)), some (.ref (a 0)), some (.ref o), some (.int (zI i)), none, none]) [true, true, true, true, true, false, false] rfl ?_
    refine V_widen (k' := k + 8) (n' := n + 50) (by omega) (by omega) ?_
    exact hnext c2 κ2 σ2 _ g2 e0 (mi_mostLiveOf hM) hC2 hP2
set_option maxRecDepth 100000 in
set_option maxHeartbeats 4000000 in
theorem law_conflictsOf {K : KT} {en c a : Nat → Nat} {κ σ P : St} {o b Ln k n : Nat} {xs : Nat → Int32} {g : Nat → Int64} {i : Int} (hK : evK K = EX en) (hX : scK K b Ln xs) (hL : Ln ≤ 3072) (hi : 0 ≤ i ∧ i + 6 ≤ (Ln : Int)) (hk : k + 8 ≤ 601024) (hn : n + 50 ≤ 7293034) (hM : MI P) (hC : CWP P κ) (hP : PR P σ)
    (hnext : ∀ (c2 : Nat → Nat) (κ2 σ2 P2 : St) (g2 : Nat → Int64), c2 0 = c 0 → MI P2 → CWP P2 κ2 → PR P2 σ2 → V K sL_law (k + 8) (n + 50) (wL3 en c2 a κ2 σ2 o g2) [some (.ref b), some (.ref (c 0)), some (.ref (a 0)), some (.ref o), some (.int (zI i)), none, none] [] 2688) : V K sL_law k n (wL3 en c a κ σ o g) [some (.ref b), some (.ref (c 0)), some (.ref (a 0)), some (.ref o), some (.int (zI i)), none, none] [] 1322 := by
  refine V_aload_n dL_law_1322 rfl ?_
  refine V_aload_n dL_law_1323 rfl ?_
  refine V_iload dL_law_1324 rfl ?_
  refine V_iconst dL_law_1326 ?_
  refine V_iadd dL_law_1327 ?_
  refine V_sld hX ⟨by omega, by omega⟩ hL dL_law_1328 ?_
  refine V_aload_n dL_law_1329 rfl ?_
  refine V_iload dL_law_1330 rfl ?_
  refine V_iconst dL_law_1332 ?_
  refine V_iadd dL_law_1333 ?_
  refine V_sld hX ⟨by omega, by omega⟩ hL dL_law_1334 ?_
  refine V_aload_n dL_law_1335 rfl ?_
  refine V_iload dL_law_1336 rfl ?_
  refine V_iconst dL_law_1338 ?_
  refine V_iadd dL_law_1339 ?_
  refine V_sld hX ⟨by omega, by omega⟩ hL dL_law_1340 ?_
  refine V_aload_n dL_law_1341 rfl ?_
  refine V_iload dL_law_1342 rfl ?_
  refine V_iconst dL_law_1344 ?_
  refine V_iadd dL_law_1345 ?_
  refine V_sld hX ⟨by omega, by omega⟩ hL dL_law_1346 ?_
  refine V_aload_n dL_law_1347 rfl ?_
  refine V_callSBH (As := [.ref (c 0), .int (zI (sc xs (i + 1))), .int (zI (sc xs (i + 2))), .int (zI (sc xs (i + 3))), .int (zI (sc xs (i + 4))), .ref o]) (wr := mW a σ) (wc := fm (cO en c κ) ++ [(o, lE 1 g)]) rfl hK (l_conflictsOf en c κ P o g (sc xs (i + 1)) (sc xs (i + 2)) (sc xs (i + 3)) (sc xs (i + 4)) hM hC (sc_R _ _) (sc_R _ _) (sc_R _ _) (sc_R _ _)) mokL_conflictsOf w881 w882 ⟨Nat.le_of_ble_eq_true rfl, Nat.le_of_ble_eq_true rfl⟩ rfl (Nat.le_of_ble_eq_true rfl) ⟨rm_k hk (Nat.le_of_ble_eq_true rfl), rm_n hn (Nat.le_of_ble_eq_true rfl)⟩ dL_law_1348 (fun v w h => ?_)
  obtain ⟨c2, κ2, g2, rfl, rfl, e0, hC2, hn2, hz2⟩ := h
  show V K sL_law (k + 3) (n + 18) (wL3 en c2 a κ2 σ o g2) [some (.ref b), some (.ref (c 0)), some (.ref (a 0)), some (.ref o), some (.int (zI i)), none, none] [.int (zI ((sp_conflictsOf P (sc xs (i + 1)) (sc xs (i + 2)) (sc xs (i + 3)) (sc xs (i + 4))).1))] 1351
  refine V_istore (L' := [some (.ref b), some (.ref (c 0)), some (.ref (a 0)), some (.ref o), some (.int (zI i)), some (.int (zI ((sp_conflictsOf P (sc xs (i + 1)) (sc xs (i + 2)) (sc xs (i + 3)) (sc xs (i + 4))).1))), none]) dL_law_1351 (by decide) rfl ?_
  refine V_aload_n dL_law_1353 rfl ?_
  refine V_aload_n dL_law_1354 rfl ?_
  refine V_iload dL_law_1355 rfl ?_
  refine V_iconst dL_law_1357 ?_
  refine V_iadd dL_law_1358 ?_
  refine V_sld hX ⟨by omega, by omega⟩ hL dL_law_1359 ?_
  refine V_aload_n dL_law_1360 rfl ?_
  refine V_iload dL_law_1361 rfl ?_
  refine V_iconst dL_law_1363 ?_
  refine V_iadd dL_law_1364 ?_
  refine V_sld hX ⟨by omega, by omega⟩ hL dL_law_1365 ?_
  refine V_aload_n dL_law_1366 rfl ?_
  refine V_iload dL_law_1367 rfl ?_
  refine V_iconst dL_law_1369 ?_
  refine V_iadd dL_law_1370 ?_
  refine V_sld hX ⟨by omega, by omega⟩ hL dL_law_1371 ?_
  refine V_aload_n dL_law_1372 rfl ?_
  refine V_iload dL_law_1373 rfl ?_
  refine V_iconst dL_law_1375 ?_
  refine V_iadd dL_law_1376 ?_
  refine V_sld hX ⟨by omega, by omega⟩ hL dL_law_1377 ?_
  refine V_callVA (As := [.int (zI (sc xs (i + 1))), .int (zI (sc xs (i + 2))), .int (zI (sc xs (i + 3))), .int (zI (sc xs (i + 4)))]) (b := a 0) (q0 := 0) (ci := 10) (fs := mF a σ) (T := TX11) (N := 30) rfl rfl (wc := mW a σ) (wr := fm (cO en c2 κ2) ++ [(o, lE 1 g2)]) rfl hK (c_conflictsOf (EX.stb en) a σ (sc xs (i + 1)) (sc xs (i + 2)) (sc xs (i + 3)) (sc xs (i + 4)) P ⟨hM, hP, sc_R _ _, sc_R _ _, sc_R _ _, sc_R _ _⟩) mokX11_conflictsOf w1319 w1320 w1321 ⟨Nat.le_of_ble_eq_true rfl, Nat.le_of_ble_eq_true rfl⟩ rfl (Nat.le_of_ble_eq_true rfl) ⟨rm_k (c := 3) hk (Nat.le_of_ble_eq_true rfl), rm_n (c := 18) hn (Nat.le_of_ble_eq_true rfl)⟩ dL_law_1378 (fun v w h => ?_)
  obtain ⟨σ2, rfl, rfl, et, hP2⟩ := h
  show V K sL_law (k + 3) (n + 18) (wL3 en c2 a κ2 σ2 o g2) [some (.ref b), some (.ref (c 0)), some (.ref (a 0)), some (.ref o), some (.int (zI i)), some (.int (zI ((sp_conflictsOf P (sc xs (i + 1)) (sc xs (i + 2)) (sc xs (i + 3)) (sc xs (i + 4))).1))), none] [.int (zI ((sp_conflictsOf P (sc xs (i + 1)) (sc xs (i + 2)) (sc xs (i + 3)) (sc xs (i + 4))).2.1))] 1381
  refine V_istore (L' := [some (.ref b), some (.ref (c 0)), some (.ref (a 0)), some (.ref o), some (.int (zI i)), some (.int (zI ((sp_conflictsOf P (sc xs (i + 1)) (sc xs (i + 2)) (sc xs (i + 3)) (sc xs (i + 4))).1))), some (.int (zI ((sp_conflictsOf P (sc xs (i + 1)) (sc xs (i + 2)) (sc xs (i + 3)) (sc xs (i + 4))).2.1)))]) dL_law_1381 (by decide) rfl ?_
  refine V_aload_n dL_law_1383 rfl ?_
  refine V_callVA (As := []) (b := a 0) (q0 := 0) (ci := 10) (fs := mF a σ2) (T := TX11) (N := 30) rfl rfl (wc := mW a σ2) (wr := fm (cO en c2 κ2) ++ [(o, lE 1 g2)]) rfl hK (c_thrown (EX.stb en) a σ2) mokX11_thrown w1161 w1162 w1163 ⟨Nat.le_of_ble_eq_true rfl, Nat.le_of_ble_eq_true rfl⟩ rfl (Nat.le_of_ble_eq_true rfl) ⟨rm_k (c := 3) hk (Nat.le_of_ble_eq_true rfl), rm_n (c := 18) hn (Nat.le_of_ble_eq_true rfl)⟩ dL_law_1384 (fun v w h => ?_)
  obtain ⟨rfl, rfl⟩ := h
  show V K sL_law (k + 3) (n + 18) (wL3 en c2 a κ2 σ2 o g2) [some (.ref b), some (.ref (c 0)), some (.ref (a 0)), some (.ref o), some (.int (zI i)), some (.int (zI ((sp_conflictsOf P (sc xs (i + 1)) (sc xs (i + 2)) (sc xs (i + 3)) (sc xs (i + 4))).1))), some (.int (zI ((sp_conflictsOf P (sc xs (i + 1)) (sc xs (i + 2)) (sc xs (i + 3)) (sc xs (i + 4))).2.1)))] [.int (zI (σ2 1 29))] 1387
  refine V_eqT (y := zI (sp_conflictsOf P (sc xs (i + 1)) (sc xs (i + 2)) (sc xs (i + 3)) (sc xs (i + 4))).1) (by rw [et]) ?_
  refine V_iload dL_law_1387 rfl ?_
  refine V_icmp_same (tgt := 1394) dL_law_1389 (by decide) ?_
  refine V_iload dL_law_1394 rfl ?_
  refine V_if_ne (tgt := 1411) dL_law_1396 (by decide) ⟨by have := hn2; omega, by have := hn2; omega⟩ (fun h1 => ?_) (fun h1 => ?_)
  · refine V_goto (tgt := 2688) dL_law_1411 (by decide) ?_
    refine V_mask (L' := [some (.ref b), some (.ref (c 0)), some (.ref (a 0)), some (.ref o), some (.int (zI i)), none, none]) [true, true, true, true, true, false, false] rfl ?_
    refine V_widen (k' := k + 8) (n' := n + 50) (by omega) (by omega) ?_
    exact hnext c2 κ2 σ2 _ g2 e0 (mi_conflictsOf hM) hC2 hP2
  · refine V_aload_n dL_law_1399 rfl ?_
    refine V_iconst dL_law_1400 ?_
    refine V_lald (N := 1) _ (wL3_out en c2 a κ2 σ2 o g2) ⟨by decide, by decide⟩ (by decide) dL_law_1401 ?_
    refine V_iload dL_law_1402 rfl ?_
    refine V_i2l dL_law_1404 ?_
    refine V_lcmp dL_law_1405 ?_
    refine V_eqT (y := zI 0) (lg_eq (hz2 h1).1) ?_
    refine V_if_eq (tgt := 1411) dL_law_1406 (by decide) ⟨by omega, by omega⟩ (fun _ => ?_) (fun h => absurd rfl h)
    refine V_goto (tgt := 2688) dL_law_1411 (by decide) ?_
    refine V_mask (L' := [some (.ref b), some (.ref (c 0)), some (.ref (a 0)), some (.ref o), some (.int (zI i)), none, none]) [true, true, true, true, true, false, false] rfl ?_
    refine V_widen (k' := k + 8) (n' := n + 50) (by omega) (by omega) ?_
    exact hnext c2 κ2 σ2 _ g2 e0 (mi_conflictsOf hM) hC2 hP2
set_option maxRecDepth 100000 in
set_option maxHeartbeats 4000000 in
theorem law_conflictPairs {K : KT} {en c a : Nat → Nat} {κ σ P : St} {o b Ln k n : Nat} {xs : Nat → Int32} {g : Nat → Int64} {i : Int} (hK : evK K = EX en) (hX : scK K b Ln xs) (hL : Ln ≤ 3072) (hi : 0 ≤ i ∧ i + 6 ≤ (Ln : Int)) (hk : k + 8 ≤ 601024) (hn : n + 50 ≤ 7293034) (hM : MI P) (hC : CWP P κ) (hP : PR P σ)
    (hnext : ∀ (c2 : Nat → Nat) (κ2 σ2 P2 : St) (g2 : Nat → Int64), c2 0 = c 0 → MI P2 → CWP P2 κ2 → PR P2 σ2 → V K sL_law (k + 8) (n + 50) (wL3 en c2 a κ2 σ2 o g2) [some (.ref b), some (.ref (c 0)), some (.ref (a 0)), some (.ref o), some (.int (zI i)), none, none] [] 2688) : V K sL_law k n (wL3 en c a κ σ o g) [some (.ref b), some (.ref (c 0)), some (.ref (a 0)), some (.ref o), some (.int (zI i)), none, none] [] 1414 := by
  refine V_aload_n dL_law_1414 rfl ?_
  refine V_aload_n dL_law_1415 rfl ?_
  refine V_iload dL_law_1416 rfl ?_
  refine V_iconst dL_law_1418 ?_
  refine V_iadd dL_law_1419 ?_
  refine V_sld hX ⟨by omega, by omega⟩ hL dL_law_1420 ?_
  refine V_aload_n dL_law_1421 rfl ?_
  refine V_callSBH (As := [.ref (c 0), .int (zI (sc xs (i + 1))), .ref o]) (wr := mW a σ) (wc := fm (cO en c κ) ++ [(o, lE 1 g)]) rfl hK (l_conflictPairs en c κ P o g (sc xs (i + 1)) hM hC (sc_R _ _)) mokL_conflictPairs w893 w894 ⟨Nat.le_of_ble_eq_true rfl, Nat.le_of_ble_eq_true rfl⟩ rfl (Nat.le_of_ble_eq_true rfl) ⟨rm_k hk (Nat.le_of_ble_eq_true rfl), rm_n hn (Nat.le_of_ble_eq_true rfl)⟩ dL_law_1422 (fun v w h => ?_)
  obtain ⟨c2, κ2, g2, rfl, rfl, e0, hC2, hn2, hz2⟩ := h
  show V K sL_law (k + 1) (n + 6) (wL3 en c2 a κ2 σ o g2) [some (.ref b), some (.ref (c 0)), some (.ref (a 0)), some (.ref o), some (.int (zI i)), none, none] [.int (zI ((sp_conflictPairs P (sc xs (i + 1))).1))] 1425
  refine V_istore (L' := [some (.ref b), some (.ref (c 0)), some (.ref (a 0)), some (.ref o), some (.int (zI i)), some (.int (zI ((sp_conflictPairs P (sc xs (i + 1))).1))), none]) dL_law_1425 (by decide) rfl ?_
  refine V_aload_n dL_law_1427 rfl ?_
  refine V_aload_n dL_law_1428 rfl ?_
  refine V_iload dL_law_1429 rfl ?_
  refine V_iconst dL_law_1431 ?_
  refine V_iadd dL_law_1432 ?_
  refine V_sld hX ⟨by omega, by omega⟩ hL dL_law_1433 ?_
  refine V_callVA (As := [.int (zI (sc xs (i + 1)))]) (b := a 0) (q0 := 0) (ci := 10) (fs := mF a σ) (T := TX11) (N := 30) rfl rfl (wc := mW a σ) (wr := fm (cO en c2 κ2) ++ [(o, lE 1 g2)]) rfl hK (c_conflictPairs (EX.stb en) a σ (sc xs (i + 1)) P ⟨hM, hP, sc_R _ _⟩) mokX11_conflictPairs w1331 w1332 w1333 ⟨Nat.le_of_ble_eq_true rfl, Nat.le_of_ble_eq_true rfl⟩ rfl (Nat.le_of_ble_eq_true rfl) ⟨rm_k (c := 1) hk (Nat.le_of_ble_eq_true rfl), rm_n (c := 6) hn (Nat.le_of_ble_eq_true rfl)⟩ dL_law_1434 (fun v w h => ?_)
  obtain ⟨σ2, rfl, rfl, et, hP2⟩ := h
  show V K sL_law (k + 1) (n + 6) (wL3 en c2 a κ2 σ2 o g2) [some (.ref b), some (.ref (c 0)), some (.ref (a 0)), some (.ref o), some (.int (zI i)), some (.int (zI ((sp_conflictPairs P (sc xs (i + 1))).1))), none] [.int (zI ((sp_conflictPairs P (sc xs (i + 1))).2.1))] 1437
  refine V_istore (L' := [some (.ref b), some (.ref (c 0)), some (.ref (a 0)), some (.ref o), some (.int (zI i)), some (.int (zI ((sp_conflictPairs P (sc xs (i + 1))).1))), some (.int (zI ((sp_conflictPairs P (sc xs (i + 1))).2.1)))]) dL_law_1437 (by decide) rfl ?_
  refine V_aload_n dL_law_1439 rfl ?_
  refine V_callVA (As := []) (b := a 0) (q0 := 0) (ci := 10) (fs := mF a σ2) (T := TX11) (N := 30) rfl rfl (wc := mW a σ2) (wr := fm (cO en c2 κ2) ++ [(o, lE 1 g2)]) rfl hK (c_thrown (EX.stb en) a σ2) mokX11_thrown w1161 w1162 w1163 ⟨Nat.le_of_ble_eq_true rfl, Nat.le_of_ble_eq_true rfl⟩ rfl (Nat.le_of_ble_eq_true rfl) ⟨rm_k (c := 1) hk (Nat.le_of_ble_eq_true rfl), rm_n (c := 6) hn (Nat.le_of_ble_eq_true rfl)⟩ dL_law_1440 (fun v w h => ?_)
  obtain ⟨rfl, rfl⟩ := h
  show V K sL_law (k + 1) (n + 6) (wL3 en c2 a κ2 σ2 o g2) [some (.ref b), some (.ref (c 0)), some (.ref (a 0)), some (.ref o), some (.int (zI i)), some (.int (zI ((sp_conflictPairs P (sc xs (i + 1))).1))), some (.int (zI ((sp_conflictPairs P (sc xs (i + 1))).2.1)))] [.int (zI (σ2 1 29))] 1443
  refine V_eqT (y := zI (sp_conflictPairs P (sc xs (i + 1))).1) (by rw [et]) ?_
  refine V_iload dL_law_1443 rfl ?_
  refine V_icmp_same (tgt := 1450) dL_law_1445 (by decide) ?_
  refine V_iload dL_law_1450 rfl ?_
  refine V_if_ne (tgt := 1467) dL_law_1452 (by decide) ⟨by have := hn2; omega, by have := hn2; omega⟩ (fun h1 => ?_) (fun h1 => ?_)
  · refine V_goto (tgt := 2688) dL_law_1467 (by decide) ?_
    refine V_mask (L' := [some (.ref b), some (.ref (c 0)), some (.ref (a 0)), some (.ref o), some (.int (zI i)), none, none]) [true, true, true, true, true, false, false] rfl ?_
    refine V_widen (k' := k + 8) (n' := n + 50) (by omega) (by omega) ?_
    exact hnext c2 κ2 σ2 _ g2 e0 (mi_conflictPairs hM) hC2 hP2
  · refine V_aload_n dL_law_1455 rfl ?_
    refine V_iconst dL_law_1456 ?_
    refine V_lald (N := 1) _ (wL3_out en c2 a κ2 σ2 o g2) ⟨by decide, by decide⟩ (by decide) dL_law_1457 ?_
    refine V_iload dL_law_1458 rfl ?_
    refine V_i2l dL_law_1460 ?_
    refine V_lcmp dL_law_1461 ?_
    refine V_eqT (y := zI 0) (lg_eq (hz2 h1).1) ?_
    refine V_if_eq (tgt := 1467) dL_law_1462 (by decide) ⟨by omega, by omega⟩ (fun _ => ?_) (fun h => absurd rfl h)
    refine V_goto (tgt := 2688) dL_law_1467 (by decide) ?_
    refine V_mask (L' := [some (.ref b), some (.ref (c 0)), some (.ref (a 0)), some (.ref o), some (.int (zI i)), none, none]) [true, true, true, true, true, false, false] rfl ?_
    refine V_widen (k' := k + 8) (n' := n + 50) (by omega) (by omega) ?_
    exact hnext c2 κ2 σ2 _ g2 e0 (mi_conflictPairs hM) hC2 hP2
set_option maxRecDepth 100000 in
set_option maxHeartbeats 4000000 in
theorem law_keepWhole {K : KT} {en c a : Nat → Nat} {κ σ P : St} {o b Ln k n : Nat} {xs : Nat → Int32} {g : Nat → Int64} {i : Int} (hK : evK K = EX en) (hX : scK K b Ln xs) (hL : Ln ≤ 3072) (hi : 0 ≤ i ∧ i + 6 ≤ (Ln : Int)) (hk : k + 8 ≤ 601024) (hn : n + 50 ≤ 7293034) (hM : MI P) (hC : CWP P κ) (hP : PR P σ)
    (hnext : ∀ (c2 : Nat → Nat) (κ2 σ2 P2 : St) (g2 : Nat → Int64), c2 0 = c 0 → MI P2 → CWP P2 κ2 → PR P2 σ2 → V K sL_law (k + 8) (n + 50) (wL3 en c2 a κ2 σ2 o g2) [some (.ref b), some (.ref (c 0)), some (.ref (a 0)), some (.ref o), some (.int (zI i)), none, none] [] 2688) : V K sL_law k n (wL3 en c a κ σ o g) [some (.ref b), some (.ref (c 0)), some (.ref (a 0)), some (.ref o), some (.int (zI i)), none, none] [] 1470 := by
  refine V_aload_n dL_law_1470 rfl ?_
  refine V_aload_n dL_law_1471 rfl ?_
  refine V_iload dL_law_1472 rfl ?_
  refine V_iconst dL_law_1474 ?_
  refine V_iadd dL_law_1475 ?_
  refine V_sld hX ⟨by omega, by omega⟩ hL dL_law_1476 ?_
  refine V_aload_n dL_law_1477 rfl ?_
  refine V_callSBH (As := [.ref (c 0), .int (zI (sc xs (i + 1))), .ref o]) (wr := mW a σ) (wc := fm (cO en c κ) ++ [(o, lE 1 g)]) rfl hK (l_keepWhole en c κ P o g (sc xs (i + 1)) hM hC (sc_R _ _)) mokL_keepWhole w900 w901 ⟨Nat.le_of_ble_eq_true rfl, Nat.le_of_ble_eq_true rfl⟩ rfl (Nat.le_of_ble_eq_true rfl) ⟨rm_k hk (Nat.le_of_ble_eq_true rfl), rm_n hn (Nat.le_of_ble_eq_true rfl)⟩ dL_law_1478 (fun v w h => ?_)
  obtain ⟨c2, κ2, g2, rfl, rfl, e0, hC2, hn2, hz2⟩ := h
  show V K sL_law (k + 1) (n + 6) (wL3 en c2 a κ2 σ o g2) [some (.ref b), some (.ref (c 0)), some (.ref (a 0)), some (.ref o), some (.int (zI i)), none, none] [.int (zI ((sp_keepWhole P (sc xs (i + 1))).1))] 1481
  refine V_istore (L' := [some (.ref b), some (.ref (c 0)), some (.ref (a 0)), some (.ref o), some (.int (zI i)), some (.int (zI ((sp_keepWhole P (sc xs (i + 1))).1))), none]) dL_law_1481 (by decide) rfl ?_
  refine V_aload_n dL_law_1483 rfl ?_
  refine V_aload_n dL_law_1484 rfl ?_
  refine V_iload dL_law_1485 rfl ?_
  refine V_iconst dL_law_1487 ?_
  refine V_iadd dL_law_1488 ?_
  refine V_sld hX ⟨by omega, by omega⟩ hL dL_law_1489 ?_
  refine V_callVA (As := [.int (zI (sc xs (i + 1)))]) (b := a 0) (q0 := 0) (ci := 10) (fs := mF a σ) (T := TX11) (N := 30) rfl rfl (wc := mW a σ) (wr := fm (cO en c2 κ2) ++ [(o, lE 1 g2)]) rfl hK (c_keepWhole (EX.stb en) a σ (sc xs (i + 1)) P ⟨hM, hP, sc_R _ _⟩) mokX11_keepWhole w1335 w1336 w1337 ⟨Nat.le_of_ble_eq_true rfl, Nat.le_of_ble_eq_true rfl⟩ rfl (Nat.le_of_ble_eq_true rfl) ⟨rm_k (c := 1) hk (Nat.le_of_ble_eq_true rfl), rm_n (c := 6) hn (Nat.le_of_ble_eq_true rfl)⟩ dL_law_1490 (fun v w h => ?_)
  obtain ⟨σ2, rfl, rfl, et, hP2⟩ := h
  show V K sL_law (k + 1) (n + 6) (wL3 en c2 a κ2 σ2 o g2) [some (.ref b), some (.ref (c 0)), some (.ref (a 0)), some (.ref o), some (.int (zI i)), some (.int (zI ((sp_keepWhole P (sc xs (i + 1))).1))), none] [.int (zI ((sp_keepWhole P (sc xs (i + 1))).2.1))] 1493
  refine V_istore (L' := [some (.ref b), some (.ref (c 0)), some (.ref (a 0)), some (.ref o), some (.int (zI i)), some (.int (zI ((sp_keepWhole P (sc xs (i + 1))).1))), some (.int (zI ((sp_keepWhole P (sc xs (i + 1))).2.1)))]) dL_law_1493 (by decide) rfl ?_
  refine V_aload_n dL_law_1495 rfl ?_
  refine V_callVA (As := []) (b := a 0) (q0 := 0) (ci := 10) (fs := mF a σ2) (T := TX11) (N := 30) rfl rfl (wc := mW a σ2) (wr := fm (cO en c2 κ2) ++ [(o, lE 1 g2)]) rfl hK (c_thrown (EX.stb en) a σ2) mokX11_thrown w1161 w1162 w1163 ⟨Nat.le_of_ble_eq_true rfl, Nat.le_of_ble_eq_true rfl⟩ rfl (Nat.le_of_ble_eq_true rfl) ⟨rm_k (c := 1) hk (Nat.le_of_ble_eq_true rfl), rm_n (c := 6) hn (Nat.le_of_ble_eq_true rfl)⟩ dL_law_1496 (fun v w h => ?_)
  obtain ⟨rfl, rfl⟩ := h
  show V K sL_law (k + 1) (n + 6) (wL3 en c2 a κ2 σ2 o g2) [some (.ref b), some (.ref (c 0)), some (.ref (a 0)), some (.ref o), some (.int (zI i)), some (.int (zI ((sp_keepWhole P (sc xs (i + 1))).1))), some (.int (zI ((sp_keepWhole P (sc xs (i + 1))).2.1)))] [.int (zI (σ2 1 29))] 1499
  refine V_eqT (y := zI (sp_keepWhole P (sc xs (i + 1))).1) (by rw [et]) ?_
  refine V_iload dL_law_1499 rfl ?_
  refine V_icmp_same (tgt := 1506) dL_law_1501 (by decide) ?_
  refine V_iload dL_law_1506 rfl ?_
  refine V_if_ne (tgt := 1523) dL_law_1508 (by decide) ⟨by have := hn2; omega, by have := hn2; omega⟩ (fun h1 => ?_) (fun h1 => ?_)
  · refine V_goto (tgt := 2688) dL_law_1523 (by decide) ?_
    refine V_mask (L' := [some (.ref b), some (.ref (c 0)), some (.ref (a 0)), some (.ref o), some (.int (zI i)), none, none]) [true, true, true, true, true, false, false] rfl ?_
    refine V_widen (k' := k + 8) (n' := n + 50) (by omega) (by omega) ?_
    exact hnext c2 κ2 σ2 _ g2 e0 (mi_keepWhole hM) hC2 hP2
  · refine V_aload_n dL_law_1511 rfl ?_
    refine V_iconst dL_law_1512 ?_
    refine V_lald (N := 1) _ (wL3_out en c2 a κ2 σ2 o g2) ⟨by decide, by decide⟩ (by decide) dL_law_1513 ?_
    refine V_iload dL_law_1514 rfl ?_
    refine V_i2l dL_law_1516 ?_
    refine V_lcmp dL_law_1517 ?_
    refine V_eqT (y := zI 0) (lg_eq (hz2 h1).1) ?_
    refine V_if_eq (tgt := 1523) dL_law_1518 (by decide) ⟨by omega, by omega⟩ (fun _ => ?_) (fun h => absurd rfl h)
    refine V_goto (tgt := 2688) dL_law_1523 (by decide) ?_
    refine V_mask (L' := [some (.ref b), some (.ref (c 0)), some (.ref (a 0)), some (.ref o), some (.int (zI i)), none, none]) [true, true, true, true, true, false, false] rfl ?_
    refine V_widen (k' := k + 8) (n' := n + 50) (by omega) (by omega) ?_
    exact hnext c2 κ2 σ2 _ g2 e0 (mi_keepWhole hM) hC2 hP2
set_option maxRecDepth 100000 in
set_option maxHeartbeats 4000000 in
theorem law_keepRest {K : KT} {en c a : Nat → Nat} {κ σ P : St} {o b Ln k n : Nat} {xs : Nat → Int32} {g : Nat → Int64} {i : Int} (hK : evK K = EX en) (hX : scK K b Ln xs) (hL : Ln ≤ 3072) (hi : 0 ≤ i ∧ i + 6 ≤ (Ln : Int)) (hk : k + 8 ≤ 601024) (hn : n + 50 ≤ 7293034) (hM : MI P) (hC : CWP P κ) (hP : PR P σ)
    (hnext : ∀ (c2 : Nat → Nat) (κ2 σ2 P2 : St) (g2 : Nat → Int64), c2 0 = c 0 → MI P2 → CWP P2 κ2 → PR P2 σ2 → V K sL_law (k + 8) (n + 50) (wL3 en c2 a κ2 σ2 o g2) [some (.ref b), some (.ref (c 0)), some (.ref (a 0)), some (.ref o), some (.int (zI i)), none, none] [] 2688) : V K sL_law k n (wL3 en c a κ σ o g) [some (.ref b), some (.ref (c 0)), some (.ref (a 0)), some (.ref o), some (.int (zI i)), none, none] [] 1526 := by
  refine V_aload_n dL_law_1526 rfl ?_
  refine V_aload_n dL_law_1527 rfl ?_
  refine V_iload dL_law_1528 rfl ?_
  refine V_iconst dL_law_1530 ?_
  refine V_iadd dL_law_1531 ?_
  refine V_sld hX ⟨by omega, by omega⟩ hL dL_law_1532 ?_
  refine V_aload_n dL_law_1533 rfl ?_
  refine V_iload dL_law_1534 rfl ?_
  refine V_iconst dL_law_1536 ?_
  refine V_iadd dL_law_1537 ?_
  refine V_sld hX ⟨by omega, by omega⟩ hL dL_law_1538 ?_
  refine V_aload_n dL_law_1539 rfl ?_
  refine V_callSBH (As := [.ref (c 0), .int (zI (sc xs (i + 1))), .int (zI (sc xs (i + 2))), .ref o]) (wr := mW a σ) (wc := fm (cO en c κ) ++ [(o, lE 1 g)]) rfl hK (l_keepRest en c κ P o g (sc xs (i + 1)) (sc xs (i + 2)) hM hC (sc_R _ _) (sc_R _ _)) mokL_keepRest w907 w908 ⟨Nat.le_of_ble_eq_true rfl, Nat.le_of_ble_eq_true rfl⟩ rfl (Nat.le_of_ble_eq_true rfl) ⟨rm_k hk (Nat.le_of_ble_eq_true rfl), rm_n hn (Nat.le_of_ble_eq_true rfl)⟩ dL_law_1540 (fun v w h => ?_)
  obtain ⟨c2, κ2, g2, rfl, rfl, e0, hC2, hn2, hz2⟩ := h
  show V K sL_law (k + 2) (n + 12) (wL3 en c2 a κ2 σ o g2) [some (.ref b), some (.ref (c 0)), some (.ref (a 0)), some (.ref o), some (.int (zI i)), none, none] [.int (zI ((sp_keepRest P (sc xs (i + 1)) (sc xs (i + 2))).1))] 1543
  refine V_istore (L' := [some (.ref b), some (.ref (c 0)), some (.ref (a 0)), some (.ref o), some (.int (zI i)), some (.int (zI ((sp_keepRest P (sc xs (i + 1)) (sc xs (i + 2))).1))), none]) dL_law_1543 (by decide) rfl ?_
  refine V_aload_n dL_law_1545 rfl ?_
  refine V_aload_n dL_law_1546 rfl ?_
  refine V_iload dL_law_1547 rfl ?_
  refine V_iconst dL_law_1549 ?_
  refine V_iadd dL_law_1550 ?_
  refine V_sld hX ⟨by omega, by omega⟩ hL dL_law_1551 ?_
  refine V_aload_n dL_law_1552 rfl ?_
  refine V_iload dL_law_1553 rfl ?_
  refine V_iconst dL_law_1555 ?_
  refine V_iadd dL_law_1556 ?_
  refine V_sld hX ⟨by omega, by omega⟩ hL dL_law_1557 ?_
  refine V_callVA (As := [.int (zI (sc xs (i + 1))), .int (zI (sc xs (i + 2)))]) (b := a 0) (q0 := 0) (ci := 10) (fs := mF a σ) (T := TX11) (N := 30) rfl rfl (wc := mW a σ) (wr := fm (cO en c2 κ2) ++ [(o, lE 1 g2)]) rfl hK (c_keepRest (EX.stb en) a σ (sc xs (i + 1)) (sc xs (i + 2)) P ⟨hM, hP, sc_R _ _, sc_R _ _⟩) mokX11_keepRest w1347 w1348 w1349 ⟨Nat.le_of_ble_eq_true rfl, Nat.le_of_ble_eq_true rfl⟩ rfl (Nat.le_of_ble_eq_true rfl) ⟨rm_k (c := 2) hk (Nat.le_of_ble_eq_true rfl), rm_n (c := 12) hn (Nat.le_of_ble_eq_true rfl)⟩ dL_law_1558 (fun v w h => ?_)
  obtain ⟨σ2, rfl, rfl, et, hP2⟩ := h
  show V K sL_law (k + 2) (n + 12) (wL3 en c2 a κ2 σ2 o g2) [some (.ref b), some (.ref (c 0)), some (.ref (a 0)), some (.ref o), some (.int (zI i)), some (.int (zI ((sp_keepRest P (sc xs (i + 1)) (sc xs (i + 2))).1))), none] [.int (zI ((sp_keepRest P (sc xs (i + 1)) (sc xs (i + 2))).2.1))] 1561
  refine V_istore (L' := [some (.ref b), some (.ref (c 0)), some (.ref (a 0)), some (.ref o), some (.int (zI i)), some (.int (zI ((sp_keepRest P (sc xs (i + 1)) (sc xs (i + 2))).1))), some (.int (zI ((sp_keepRest P (sc xs (i + 1)) (sc xs (i + 2))).2.1)))]) dL_law_1561 (by decide) rfl ?_
  refine V_aload_n dL_law_1563 rfl ?_
  refine V_callVA (As := []) (b := a 0) (q0 := 0) (ci := 10) (fs := mF a σ2) (T := TX11) (N := 30) rfl rfl (wc := mW a σ2) (wr := fm (cO en c2 κ2) ++ [(o, lE 1 g2)]) rfl hK (c_thrown (EX.stb en) a σ2) mokX11_thrown w1161 w1162 w1163 ⟨Nat.le_of_ble_eq_true rfl, Nat.le_of_ble_eq_true rfl⟩ rfl (Nat.le_of_ble_eq_true rfl) ⟨rm_k (c := 2) hk (Nat.le_of_ble_eq_true rfl), rm_n (c := 12) hn (Nat.le_of_ble_eq_true rfl)⟩ dL_law_1564 (fun v w h => ?_)
  obtain ⟨rfl, rfl⟩ := h
  show V K sL_law (k + 2) (n + 12) (wL3 en c2 a κ2 σ2 o g2) [some (.ref b), some (.ref (c 0)), some (.ref (a 0)), some (.ref o), some (.int (zI i)), some (.int (zI ((sp_keepRest P (sc xs (i + 1)) (sc xs (i + 2))).1))), some (.int (zI ((sp_keepRest P (sc xs (i + 1)) (sc xs (i + 2))).2.1)))] [.int (zI (σ2 1 29))] 1567
  refine V_eqT (y := zI (sp_keepRest P (sc xs (i + 1)) (sc xs (i + 2))).1) (by rw [et]) ?_
  refine V_iload dL_law_1567 rfl ?_
  refine V_icmp_same (tgt := 1574) dL_law_1569 (by decide) ?_
  refine V_iload dL_law_1574 rfl ?_
  refine V_if_ne (tgt := 1591) dL_law_1576 (by decide) ⟨by have := hn2; omega, by have := hn2; omega⟩ (fun h1 => ?_) (fun h1 => ?_)
  · refine V_goto (tgt := 2688) dL_law_1591 (by decide) ?_
    refine V_mask (L' := [some (.ref b), some (.ref (c 0)), some (.ref (a 0)), some (.ref o), some (.int (zI i)), none, none]) [true, true, true, true, true, false, false] rfl ?_
    refine V_widen (k' := k + 8) (n' := n + 50) (by omega) (by omega) ?_
    exact hnext c2 κ2 σ2 _ g2 e0 (mi_keepRest hM) hC2 hP2
  · refine V_aload_n dL_law_1579 rfl ?_
    refine V_iconst dL_law_1580 ?_
    refine V_lald (N := 1) _ (wL3_out en c2 a κ2 σ2 o g2) ⟨by decide, by decide⟩ (by decide) dL_law_1581 ?_
    refine V_iload dL_law_1582 rfl ?_
    refine V_i2l dL_law_1584 ?_
    refine V_lcmp dL_law_1585 ?_
    refine V_eqT (y := zI 0) (lg_eq (hz2 h1).1) ?_
    refine V_if_eq (tgt := 1591) dL_law_1586 (by decide) ⟨by omega, by omega⟩ (fun _ => ?_) (fun h => absurd rfl h)
    refine V_goto (tgt := 2688) dL_law_1591 (by decide) ?_
    refine V_mask (L' := [some (.ref b), some (.ref (c 0)), some (.ref (a 0)), some (.ref o), some (.int (zI i)), none, none]) [true, true, true, true, true, false, false] rfl ?_
    refine V_widen (k' := k + 8) (n' := n + 50) (by omega) (by omega) ?_
    exact hnext c2 κ2 σ2 _ g2 e0 (mi_keepRest hM) hC2 hP2
set_option maxRecDepth 100000 in
set_option maxHeartbeats 4000000 in
theorem law_keepTwoRests {K : KT} {en c a : Nat → Nat} {κ σ P : St} {o b Ln k n : Nat} {xs : Nat → Int32} {g : Nat → Int64} {i : Int} (hK : evK K = EX en) (hX : scK K b Ln xs) (hL : Ln ≤ 3072) (hi : 0 ≤ i ∧ i + 6 ≤ (Ln : Int)) (hk : k + 8 ≤ 601024) (hn : n + 50 ≤ 7293034) (hM : MI P) (hC : CWP P κ) (hP : PR P σ)
    (hnext : ∀ (c2 : Nat → Nat) (κ2 σ2 P2 : St) (g2 : Nat → Int64), c2 0 = c 0 → MI P2 → CWP P2 κ2 → PR P2 σ2 → V K sL_law (k + 8) (n + 50) (wL3 en c2 a κ2 σ2 o g2) [some (.ref b), some (.ref (c 0)), some (.ref (a 0)), some (.ref o), some (.int (zI i)), none, none] [] 2688) : V K sL_law k n (wL3 en c a κ σ o g) [some (.ref b), some (.ref (c 0)), some (.ref (a 0)), some (.ref o), some (.int (zI i)), none, none] [] 1594 := by
  refine V_aload_n dL_law_1594 rfl ?_
  refine V_aload_n dL_law_1595 rfl ?_
  refine V_iload dL_law_1596 rfl ?_
  refine V_iconst dL_law_1598 ?_
  refine V_iadd dL_law_1599 ?_
  refine V_sld hX ⟨by omega, by omega⟩ hL dL_law_1600 ?_
  refine V_aload_n dL_law_1601 rfl ?_
  refine V_iload dL_law_1602 rfl ?_
  refine V_iconst dL_law_1604 ?_
  refine V_iadd dL_law_1605 ?_
  refine V_sld hX ⟨by omega, by omega⟩ hL dL_law_1606 ?_
  refine V_aload_n dL_law_1607 rfl ?_
  refine V_iload dL_law_1608 rfl ?_
  refine V_iconst dL_law_1610 ?_
  refine V_iadd dL_law_1611 ?_
  refine V_sld hX ⟨by omega, by omega⟩ hL dL_law_1612 ?_
  refine V_aload_n dL_law_1613 rfl ?_
  refine V_callSBH (As := [.ref (c 0), .int (zI (sc xs (i + 1))), .int (zI (sc xs (i + 2))), .int (zI (sc xs (i + 3))), .ref o]) (wr := mW a σ) (wc := fm (cO en c κ) ++ [(o, lE 1 g)]) rfl hK (l_keepTwoRests en c κ P o g (sc xs (i + 1)) (sc xs (i + 2)) (sc xs (i + 3)) hM hC (sc_R _ _) (sc_R _ _) (sc_R _ _)) mokL_keepTwoRests w915 w916 ⟨Nat.le_of_ble_eq_true rfl, Nat.le_of_ble_eq_true rfl⟩ rfl (Nat.le_of_ble_eq_true rfl) ⟨rm_k hk (Nat.le_of_ble_eq_true rfl), rm_n hn (Nat.le_of_ble_eq_true rfl)⟩ dL_law_1614 (fun v w h => ?_)
  obtain ⟨c2, κ2, g2, rfl, rfl, e0, hC2, hn2, hz2⟩ := h
  show V K sL_law (k + 3) (n + 18) (wL3 en c2 a κ2 σ o g2) [some (.ref b), some (.ref (c 0)), some (.ref (a 0)), some (.ref o), some (.int (zI i)), none, none] [.int (zI ((sp_keepTwoRests P (sc xs (i + 1)) (sc xs (i + 2)) (sc xs (i + 3))).1))] 1617
  refine V_istore (L' := [some (.ref b), some (.ref (c 0)), some (.ref (a 0)), some (.ref o), some (.int (zI i)), some (.int (zI ((sp_keepTwoRests P (sc xs (i + 1)) (sc xs (i + 2)) (sc xs (i + 3))).1))), none]) dL_law_1617 (by decide) rfl ?_
  refine V_aload_n dL_law_1619 rfl ?_
  refine V_aload_n dL_law_1620 rfl ?_
  refine V_iload dL_law_1621 rfl ?_
  refine V_iconst dL_law_1623 ?_
  refine V_iadd dL_law_1624 ?_
  refine V_sld hX ⟨by omega, by omega⟩ hL dL_law_1625 ?_
  refine V_aload_n dL_law_1626 rfl ?_
  refine V_iload dL_law_1627 rfl ?_
  refine V_iconst dL_law_1629 ?_
  refine V_iadd dL_law_1630 ?_
  refine V_sld hX ⟨by omega, by omega⟩ hL dL_law_1631 ?_
  refine V_aload_n dL_law_1632 rfl ?_
  refine V_iload dL_law_1633 rfl ?_
  refine V_iconst dL_law_1635 ?_
  refine V_iadd dL_law_1636 ?_
  refine V_sld hX ⟨by omega, by omega⟩ hL dL_law_1637 ?_
  refine V_callVA (As := [.int (zI (sc xs (i + 1))), .int (zI (sc xs (i + 2))), .int (zI (sc xs (i + 3)))]) (b := a 0) (q0 := 0) (ci := 10) (fs := mF a σ) (T := TX11) (N := 30) rfl rfl (wc := mW a σ) (wr := fm (cO en c2 κ2) ++ [(o, lE 1 g2)]) rfl hK (c_keepTwoRests (EX.stb en) a σ (sc xs (i + 1)) (sc xs (i + 2)) (sc xs (i + 3)) P ⟨hM, hP, sc_R _ _, sc_R _ _, sc_R _ _⟩) mokX11_keepTwoRests w1354 w1355 w1356 ⟨Nat.le_of_ble_eq_true rfl, Nat.le_of_ble_eq_true rfl⟩ rfl (Nat.le_of_ble_eq_true rfl) ⟨rm_k (c := 3) hk (Nat.le_of_ble_eq_true rfl), rm_n (c := 18) hn (Nat.le_of_ble_eq_true rfl)⟩ dL_law_1638 (fun v w h => ?_)
  obtain ⟨σ2, rfl, rfl, et, hP2⟩ := h
  show V K sL_law (k + 3) (n + 18) (wL3 en c2 a κ2 σ2 o g2) [some (.ref b), some (.ref (c 0)), some (.ref (a 0)), some (.ref o), some (.int (zI i)), some (.int (zI ((sp_keepTwoRests P (sc xs (i + 1)) (sc xs (i + 2)) (sc xs (i + 3))).1))), none] [.int (zI ((sp_keepTwoRests P (sc xs (i + 1)) (sc xs (i + 2)) (sc xs (i + 3))).2.1))] 1641
  refine V_istore (L' := [some (.ref b), some (.ref (c 0)), some (.ref (a 0)), some (.ref o), some (.int (zI i)), some (.int (zI ((sp_keepTwoRests P (sc xs (i + 1)) (sc xs (i + 2)) (sc xs (i + 3))).1))), some (.int (zI ((sp_keepTwoRests P (sc xs (i + 1)) (sc xs (i + 2)) (sc xs (i + 3))).2.1)))]) dL_law_1641 (by decide) rfl ?_
  refine V_aload_n dL_law_1643 rfl ?_
  refine V_callVA (As := []) (b := a 0) (q0 := 0) (ci := 10) (fs := mF a σ2) (T := TX11) (N := 30) rfl rfl (wc := mW a σ2) (wr := fm (cO en c2 κ2) ++ [(o, lE 1 g2)]) rfl hK (c_thrown (EX.stb en) a σ2) mokX11_thrown w1161 w1162 w1163 ⟨Nat.le_of_ble_eq_true rfl, Nat.le_of_ble_eq_true rfl⟩ rfl (Nat.le_of_ble_eq_true rfl) ⟨rm_k (c := 3) hk (Nat.le_of_ble_eq_true rfl), rm_n (c := 18) hn (Nat.le_of_ble_eq_true rfl)⟩ dL_law_1644 (fun v w h => ?_)
  obtain ⟨rfl, rfl⟩ := h
  show V K sL_law (k + 3) (n + 18) (wL3 en c2 a κ2 σ2 o g2) [some (.ref b), some (.ref (c 0)), some (.ref (a 0)), some (.ref o), some (.int (zI i)), some (.int (zI ((sp_keepTwoRests P (sc xs (i + 1)) (sc xs (i + 2)) (sc xs (i + 3))).1))), some (.int (zI ((sp_keepTwoRests P (sc xs (i + 1)) (sc xs (i + 2)) (sc xs (i + 3))).2.1)))] [.int (zI (σ2 1 29))] 1647
  refine V_eqT (y := zI (sp_keepTwoRests P (sc xs (i + 1)) (sc xs (i + 2)) (sc xs (i + 3))).1) (by rw [et]) ?_
  refine V_iload dL_law_1647 rfl ?_
  refine V_icmp_same (tgt := 1654) dL_law_1649 (by decide) ?_
  refine V_iload dL_law_1654 rfl ?_
  refine V_if_ne (tgt := 1671) dL_law_1656 (by decide) ⟨by have := hn2; omega, by have := hn2; omega⟩ (fun h1 => ?_) (fun h1 => ?_)
  · refine V_goto (tgt := 2688) dL_law_1671 (by decide) ?_
    refine V_mask (L' := [some (.ref b), some (.ref (c 0)), some (.ref (a 0)), some (.ref o), some (.int (zI i)), none, none]) [true, true, true, true, true, false, false] rfl ?_
    refine V_widen (k' := k + 8) (n' := n + 50) (by omega) (by omega) ?_
    exact hnext c2 κ2 σ2 _ g2 e0 (mi_keepTwoRests hM) hC2 hP2
  · refine V_aload_n dL_law_1659 rfl ?_
    refine V_iconst dL_law_1660 ?_
    refine V_lald (N := 1) _ (wL3_out en c2 a κ2 σ2 o g2) ⟨by decide, by decide⟩ (by decide) dL_law_1661 ?_
    refine V_iload dL_law_1662 rfl ?_
    refine V_i2l dL_law_1664 ?_
    refine V_lcmp dL_law_1665 ?_
    refine V_eqT (y := zI 0) (lg_eq (hz2 h1).1) ?_
    refine V_if_eq (tgt := 1671) dL_law_1666 (by decide) ⟨by omega, by omega⟩ (fun _ => ?_) (fun h => absurd rfl h)
    refine V_goto (tgt := 2688) dL_law_1671 (by decide) ?_
    refine V_mask (L' := [some (.ref b), some (.ref (c 0)), some (.ref (a 0)), some (.ref o), some (.int (zI i)), none, none]) [true, true, true, true, true, false, false] rfl ?_
    refine V_widen (k' := k + 8) (n' := n + 50) (by omega) (by omega) ?_
    exact hnext c2 κ2 σ2 _ g2 e0 (mi_keepTwoRests hM) hC2 hP2
set_option maxRecDepth 100000 in
set_option maxHeartbeats 4000000 in
theorem law_keepSlant {K : KT} {en c a : Nat → Nat} {κ σ P : St} {o b Ln k n : Nat} {xs : Nat → Int32} {g : Nat → Int64} {i : Int} (hK : evK K = EX en) (hX : scK K b Ln xs) (hL : Ln ≤ 3072) (hi : 0 ≤ i ∧ i + 6 ≤ (Ln : Int)) (hk : k + 8 ≤ 601024) (hn : n + 50 ≤ 7293034) (hM : MI P) (hC : CWP P κ) (hP : PR P σ)
    (hnext : ∀ (c2 : Nat → Nat) (κ2 σ2 P2 : St) (g2 : Nat → Int64), c2 0 = c 0 → MI P2 → CWP P2 κ2 → PR P2 σ2 → V K sL_law (k + 8) (n + 50) (wL3 en c2 a κ2 σ2 o g2) [some (.ref b), some (.ref (c 0)), some (.ref (a 0)), some (.ref o), some (.int (zI i)), none, none] [] 2688) : V K sL_law k n (wL3 en c a κ σ o g) [some (.ref b), some (.ref (c 0)), some (.ref (a 0)), some (.ref o), some (.int (zI i)), none, none] [] 1674 := by
  refine V_aload_n dL_law_1674 rfl ?_
  refine V_aload_n dL_law_1675 rfl ?_
  refine V_iload dL_law_1676 rfl ?_
  refine V_iconst dL_law_1678 ?_
  refine V_iadd dL_law_1679 ?_
  refine V_sld hX ⟨by omega, by omega⟩ hL dL_law_1680 ?_
  refine V_aload_n dL_law_1681 rfl ?_
  refine V_iload dL_law_1682 rfl ?_
  refine V_iconst dL_law_1684 ?_
  refine V_iadd dL_law_1685 ?_
  refine V_sld hX ⟨by omega, by omega⟩ hL dL_law_1686 ?_
  refine V_aload_n dL_law_1687 rfl ?_
  refine V_iload dL_law_1688 rfl ?_
  refine V_iconst dL_law_1690 ?_
  refine V_iadd dL_law_1691 ?_
  refine V_sld hX ⟨by omega, by omega⟩ hL dL_law_1692 ?_
  refine V_aload_n dL_law_1693 rfl ?_
  refine V_callSBH (As := [.ref (c 0), .int (zI (sc xs (i + 1))), .int (zI (sc xs (i + 2))), .int (zI (sc xs (i + 3))), .ref o]) (wr := mW a σ) (wc := fm (cO en c κ) ++ [(o, lE 1 g)]) rfl hK (l_keepSlant en c κ P o g (sc xs (i + 1)) (sc xs (i + 2)) (sc xs (i + 3)) hM hC (sc_R _ _) (sc_R _ _) (sc_R _ _)) mokL_keepSlant w923 w924 ⟨Nat.le_of_ble_eq_true rfl, Nat.le_of_ble_eq_true rfl⟩ rfl (Nat.le_of_ble_eq_true rfl) ⟨rm_k hk (Nat.le_of_ble_eq_true rfl), rm_n hn (Nat.le_of_ble_eq_true rfl)⟩ dL_law_1694 (fun v w h => ?_)
  obtain ⟨c2, κ2, g2, rfl, rfl, e0, hC2, hn2, hz2⟩ := h
  show V K sL_law (k + 3) (n + 18) (wL3 en c2 a κ2 σ o g2) [some (.ref b), some (.ref (c 0)), some (.ref (a 0)), some (.ref o), some (.int (zI i)), none, none] [.int (zI ((sp_keepSlant P (sc xs (i + 1)) (sc xs (i + 2)) (sc xs (i + 3))).1))] 1697
  refine V_istore (L' := [some (.ref b), some (.ref (c 0)), some (.ref (a 0)), some (.ref o), some (.int (zI i)), some (.int (zI ((sp_keepSlant P (sc xs (i + 1)) (sc xs (i + 2)) (sc xs (i + 3))).1))), none]) dL_law_1697 (by decide) rfl ?_
  refine V_aload_n dL_law_1699 rfl ?_
  refine V_aload_n dL_law_1700 rfl ?_
  refine V_iload dL_law_1701 rfl ?_
  refine V_iconst dL_law_1703 ?_
  refine V_iadd dL_law_1704 ?_
  refine V_sld hX ⟨by omega, by omega⟩ hL dL_law_1705 ?_
  refine V_aload_n dL_law_1706 rfl ?_
  refine V_iload dL_law_1707 rfl ?_
  refine V_iconst dL_law_1709 ?_
  refine V_iadd dL_law_1710 ?_
  refine V_sld hX ⟨by omega, by omega⟩ hL dL_law_1711 ?_
  refine V_aload_n dL_law_1712 rfl ?_
  refine V_iload dL_law_1713 rfl ?_
  refine V_iconst dL_law_1715 ?_
  refine V_iadd dL_law_1716 ?_
  refine V_sld hX ⟨by omega, by omega⟩ hL dL_law_1717 ?_
  refine V_callVA (As := [.int (zI (sc xs (i + 1))), .int (zI (sc xs (i + 2))), .int (zI (sc xs (i + 3)))]) (b := a 0) (q0 := 0) (ci := 10) (fs := mF a σ) (T := TX11) (N := 30) rfl rfl (wc := mW a σ) (wr := fm (cO en c2 κ2) ++ [(o, lE 1 g2)]) rfl hK (c_keepSlant (EX.stb en) a σ (sc xs (i + 1)) (sc xs (i + 2)) (sc xs (i + 3)) P ⟨hM, hP, sc_R _ _, sc_R _ _, sc_R _ _⟩) mokX11_keepSlant w1358 w1359 w1360 ⟨Nat.le_of_ble_eq_true rfl, Nat.le_of_ble_eq_true rfl⟩ rfl (Nat.le_of_ble_eq_true rfl) ⟨rm_k (c := 3) hk (Nat.le_of_ble_eq_true rfl), rm_n (c := 18) hn (Nat.le_of_ble_eq_true rfl)⟩ dL_law_1718 (fun v w h => ?_)
  obtain ⟨σ2, rfl, rfl, et, hP2⟩ := h
  show V K sL_law (k + 3) (n + 18) (wL3 en c2 a κ2 σ2 o g2) [some (.ref b), some (.ref (c 0)), some (.ref (a 0)), some (.ref o), some (.int (zI i)), some (.int (zI ((sp_keepSlant P (sc xs (i + 1)) (sc xs (i + 2)) (sc xs (i + 3))).1))), none] [.int (zI ((sp_keepSlant P (sc xs (i + 1)) (sc xs (i + 2)) (sc xs (i + 3))).2.1))] 1721
  refine V_istore (L' := [some (.ref b), some (.ref (c 0)), some (.ref (a 0)), some (.ref o), some (.int (zI i)), some (.int (zI ((sp_keepSlant P (sc xs (i + 1)) (sc xs (i + 2)) (sc xs (i + 3))).1))), some (.int (zI ((sp_keepSlant P (sc xs (i + 1)) (sc xs (i + 2)) (sc xs (i + 3))).2.1)))]) dL_law_1721 (by decide) rfl ?_
  refine V_aload_n dL_law_1723 rfl ?_
  refine V_callVA (As := []) (b := a 0) (q0 := 0) (ci := 10) (fs := mF a σ2) (T := TX11) (N := 30) rfl rfl (wc := mW a σ2) (wr := fm (cO en c2 κ2) ++ [(o, lE 1 g2)]) rfl hK (c_thrown (EX.stb en) a σ2) mokX11_thrown w1161 w1162 w1163 ⟨Nat.le_of_ble_eq_true rfl, Nat.le_of_ble_eq_true rfl⟩ rfl (Nat.le_of_ble_eq_true rfl) ⟨rm_k (c := 3) hk (Nat.le_of_ble_eq_true rfl), rm_n (c := 18) hn (Nat.le_of_ble_eq_true rfl)⟩ dL_law_1724 (fun v w h => ?_)
  obtain ⟨rfl, rfl⟩ := h
  show V K sL_law (k + 3) (n + 18) (wL3 en c2 a κ2 σ2 o g2) [some (.ref b), some (.ref (c 0)), some (.ref (a 0)), some (.ref o), some (.int (zI i)), some (.int (zI ((sp_keepSlant P (sc xs (i + 1)) (sc xs (i + 2)) (sc xs (i + 3))).1))), some (.int (zI ((sp_keepSlant P (sc xs (i + 1)) (sc xs (i + 2)) (sc xs (i + 3))).2.1)))] [.int (zI (σ2 1 29))] 1727
  refine V_eqT (y := zI (sp_keepSlant P (sc xs (i + 1)) (sc xs (i + 2)) (sc xs (i + 3))).1) (by rw [et]) ?_
  refine V_iload dL_law_1727 rfl ?_
  refine V_icmp_same (tgt := 1734) dL_law_1729 (by decide) ?_
  refine V_iload dL_law_1734 rfl ?_
  refine V_if_ne (tgt := 1751) dL_law_1736 (by decide) ⟨by have := hn2; omega, by have := hn2; omega⟩ (fun h1 => ?_) (fun h1 => ?_)
  · refine V_goto (tgt := 2688) dL_law_1751 (by decide) ?_
    refine V_mask (L' := [some (.ref b), some (.ref (c 0)), some (.ref (a 0)), some (.ref o), some (.int (zI i)), none, none]) [true, true, true, true, true, false, false] rfl ?_
    refine V_widen (k' := k + 8) (n' := n + 50) (by omega) (by omega) ?_
    exact hnext c2 κ2 σ2 _ g2 e0 (mi_keepSlant hM) hC2 hP2
  · refine V_aload_n dL_law_1739 rfl ?_
    refine V_iconst dL_law_1740 ?_
    refine V_lald (N := 1) _ (wL3_out en c2 a κ2 σ2 o g2) ⟨by decide, by decide⟩ (by decide) dL_law_1741 ?_
    refine V_iload dL_law_1742 rfl ?_
    refine V_i2l dL_law_1744 ?_
    refine V_lcmp dL_law_1745 ?_
    refine V_eqT (y := zI 0) (lg_eq (hz2 h1).1) ?_
    refine V_if_eq (tgt := 1751) dL_law_1746 (by decide) ⟨by omega, by omega⟩ (fun _ => ?_) (fun h => absurd rfl h)
    refine V_goto (tgt := 2688) dL_law_1751 (by decide) ?_
    refine V_mask (L' := [some (.ref b), some (.ref (c 0)), some (.ref (a 0)), some (.ref o), some (.int (zI i)), none, none]) [true, true, true, true, true, false, false] rfl ?_
    refine V_widen (k' := k + 8) (n' := n + 50) (by omega) (by omega) ?_
    exact hnext c2 κ2 σ2 _ g2 e0 (mi_keepSlant hM) hC2 hP2
set_option maxRecDepth 100000 in
set_option maxHeartbeats 4000000 in
theorem law_contract {K : KT} {en c a : Nat → Nat} {κ σ P : St} {o b Ln k n : Nat} {xs : Nat → Int32} {g : Nat → Int64} {i : Int} (hK : evK K = EX en) (hX : scK K b Ln xs) (hL : Ln ≤ 3072) (hi : 0 ≤ i ∧ i + 6 ≤ (Ln : Int)) (hk : k + 8 ≤ 601024) (hn : n + 50 ≤ 7293034) (hM : MI P) (hC : CWP P κ) (hP : PR P σ)
    (hnext : ∀ (c2 : Nat → Nat) (κ2 σ2 P2 : St) (g2 : Nat → Int64), c2 0 = c 0 → MI P2 → CWP P2 κ2 → PR P2 σ2 → V K sL_law (k + 8) (n + 50) (wL3 en c2 a κ2 σ2 o g2) [some (.ref b), some (.ref (c 0)), some (.ref (a 0)), some (.ref o), some (.int (zI i)), none, none] [] 2688) : V K sL_law k n (wL3 en c a κ σ o g) [some (.ref b), some (.ref (c 0)), some (.ref (a 0)), some (.ref o), some (.int (zI i)), none, none] [] 1754 := by
  refine V_aload_n dL_law_1754 rfl ?_
  refine V_Perm (law_P1 _ _ _) ?_
  refine V_callVB (As := []) (b := c 0) (ci := 9) (fs := cwF c κ) (T := TX10) (N := 9) (wL3_cw en c a κ σ o g) rfl (wr := mW a σ ++ [(o, lE 1 g)]) (wc := fm (cO en c κ)) rfl hK (MC.env EX.en (k_contract en c κ P ⟨hM, hC.1, hC.2.1, hC.2.2⟩)) mokX10_contract w361 w362 w363 ⟨Nat.le_of_ble_eq_true rfl, Nat.le_of_ble_eq_true rfl⟩ rfl (Nat.le_of_ble_eq_true rfl) ⟨rm_k (c := 0) hk (Nat.le_of_ble_eq_true rfl), rm_n (c := 0) hn (Nat.le_of_ble_eq_true rfl)⟩ dL_law_1755 (fun v w h => ?_)
  obtain ⟨κ2, rfl, rfl, e1, hC2⟩ := h
  refine V_Perm (law_P2 _ _ _) ?_
  show V K sL_law (k + 0) (n + 0) (wL3 en c a κ2 σ o g) [some (.ref b), some (.ref (c 0)), some (.ref (a 0)), some (.ref o), some (.int (zI i)), none, none] [.int (zI ((sp_contract P).2.1))] 1758
  refine V_aload_n dL_law_1758 rfl ?_
  refine V_callVA (As := []) (b := a 0) (q0 := 0) (ci := 10) (fs := mF a σ) (T := TX11) (N := 30) rfl rfl (wc := mW a σ) (wr := fm (cO en c κ2) ++ [(o, lE 1 g)]) rfl hK (c_contract (EX.stb en) a σ P ⟨hM, hP⟩) mokX11_contract w1362 w1363 w1364 ⟨Nat.le_of_ble_eq_true rfl, Nat.le_of_ble_eq_true rfl⟩ rfl (Nat.le_of_ble_eq_true rfl) ⟨rm_k (c := 0) hk (Nat.le_of_ble_eq_true rfl), rm_n (c := 0) hn (Nat.le_of_ble_eq_true rfl)⟩ dL_law_1759 (fun v w h => ?_)
  obtain ⟨σ2, rfl, rfl, et, hP2⟩ := h
  show V K sL_law (k + 0) (n + 0) (wL3 en c a κ2 σ2 o g) [some (.ref b), some (.ref (c 0)), some (.ref (a 0)), some (.ref o), some (.int (zI i)), none, none] [.int (zI ((sp_contract P).2.1)), .int (zI ((sp_contract P).2.1))] 1762
  refine V_icmp_same (tgt := 2688) dL_law_1762 (by decide) ?_
  refine V_widen (k' := k + 8) (n' := n + 50) (by omega) (by omega) ?_
  exact hnext c κ2 σ2 _ g rfl (mi_contract hM) hC2 hP2
set_option maxRecDepth 100000 in
set_option maxHeartbeats 4000000 in
theorem law_windowSize {K : KT} {en c a : Nat → Nat} {κ σ P : St} {o b Ln k n : Nat} {xs : Nat → Int32} {g : Nat → Int64} {i : Int} (hK : evK K = EX en) (hX : scK K b Ln xs) (hL : Ln ≤ 3072) (hi : 0 ≤ i ∧ i + 6 ≤ (Ln : Int)) (hk : k + 8 ≤ 601024) (hn : n + 50 ≤ 7293034) (hM : MI P) (hC : CWP P κ) (hP : PR P σ)
    (hnext : ∀ (c2 : Nat → Nat) (κ2 σ2 P2 : St) (g2 : Nat → Int64), c2 0 = c 0 → MI P2 → CWP P2 κ2 → PR P2 σ2 → V K sL_law (k + 8) (n + 50) (wL3 en c2 a κ2 σ2 o g2) [some (.ref b), some (.ref (c 0)), some (.ref (a 0)), some (.ref o), some (.int (zI i)), none, none] [] 2688) : V K sL_law k n (wL3 en c a κ σ o g) [some (.ref b), some (.ref (c 0)), some (.ref (a 0)), some (.ref o), some (.int (zI i)), none, none] [] 1767 := by
  refine V_aload_n dL_law_1767 rfl ?_
  refine V_aload_n dL_law_1768 rfl ?_
  refine V_iload dL_law_1769 rfl ?_
  refine V_iconst dL_law_1771 ?_
  refine V_iadd dL_law_1772 ?_
  refine V_sld hX ⟨by omega, by omega⟩ hL dL_law_1773 ?_
  refine V_aload_n dL_law_1774 rfl ?_
  refine V_callSBH (As := [.ref (c 0), .int (zI (sc xs (i + 1))), .ref o]) (wr := mW a σ) (wc := fm (cO en c κ) ++ [(o, lE 1 g)]) rfl hK (l_windowSize en c κ P o g (sc xs (i + 1)) hM hC (sc_R _ _)) mokL_windowSize w931 w932 ⟨Nat.le_of_ble_eq_true rfl, Nat.le_of_ble_eq_true rfl⟩ rfl (Nat.le_of_ble_eq_true rfl) ⟨rm_k hk (Nat.le_of_ble_eq_true rfl), rm_n hn (Nat.le_of_ble_eq_true rfl)⟩ dL_law_1775 (fun v w h => ?_)
  obtain ⟨c2, κ2, g2, rfl, rfl, e0, hC2, hn2, hz2⟩ := h
  show V K sL_law (k + 1) (n + 6) (wL3 en c2 a κ2 σ o g2) [some (.ref b), some (.ref (c 0)), some (.ref (a 0)), some (.ref o), some (.int (zI i)), none, none] [.int (zI ((sp_windowSize P (sc xs (i + 1))).1))] 1778
  refine V_istore (L' := [some (.ref b), some (.ref (c 0)), some (.ref (a 0)), some (.ref o), some (.int (zI i)), some (.int (zI ((sp_windowSize P (sc xs (i + 1))).1))), none]) dL_law_1778 (by decide) rfl ?_
  refine V_aload_n dL_law_1780 rfl ?_
  refine V_aload_n dL_law_1781 rfl ?_
  refine V_iload dL_law_1782 rfl ?_
  refine V_iconst dL_law_1784 ?_
  refine V_iadd dL_law_1785 ?_
  refine V_sld hX ⟨by omega, by omega⟩ hL dL_law_1786 ?_
  refine V_callVA (As := [.int (zI (sc xs (i + 1)))]) (b := a 0) (q0 := 0) (ci := 10) (fs := mF a σ) (T := TX11) (N := 30) rfl rfl (wc := mW a σ) (wr := fm (cO en c2 κ2) ++ [(o, lE 1 g2)]) rfl hK (c_windowSize (EX.stb en) a σ (sc xs (i + 1)) P ⟨hM, hP, sc_R _ _⟩) mokX11_windowSize w1398 w1399 w1400 ⟨Nat.le_of_ble_eq_true rfl, Nat.le_of_ble_eq_true rfl⟩ rfl (Nat.le_of_ble_eq_true rfl) ⟨rm_k (c := 1) hk (Nat.le_of_ble_eq_true rfl), rm_n (c := 6) hn (Nat.le_of_ble_eq_true rfl)⟩ dL_law_1787 (fun v w h => ?_)
  obtain ⟨σ2, rfl, rfl, et, hP2⟩ := h
  show V K sL_law (k + 1) (n + 6) (wL3 en c2 a κ2 σ2 o g2) [some (.ref b), some (.ref (c 0)), some (.ref (a 0)), some (.ref o), some (.int (zI i)), some (.int (zI ((sp_windowSize P (sc xs (i + 1))).1))), none] [.int (zI ((sp_windowSize P (sc xs (i + 1))).2.1))] 1790
  refine V_istore (L' := [some (.ref b), some (.ref (c 0)), some (.ref (a 0)), some (.ref o), some (.int (zI i)), some (.int (zI ((sp_windowSize P (sc xs (i + 1))).1))), some (.int (zI ((sp_windowSize P (sc xs (i + 1))).2.1)))]) dL_law_1790 (by decide) rfl ?_
  refine V_aload_n dL_law_1792 rfl ?_
  refine V_callVA (As := []) (b := a 0) (q0 := 0) (ci := 10) (fs := mF a σ2) (T := TX11) (N := 30) rfl rfl (wc := mW a σ2) (wr := fm (cO en c2 κ2) ++ [(o, lE 1 g2)]) rfl hK (c_thrown (EX.stb en) a σ2) mokX11_thrown w1161 w1162 w1163 ⟨Nat.le_of_ble_eq_true rfl, Nat.le_of_ble_eq_true rfl⟩ rfl (Nat.le_of_ble_eq_true rfl) ⟨rm_k (c := 1) hk (Nat.le_of_ble_eq_true rfl), rm_n (c := 6) hn (Nat.le_of_ble_eq_true rfl)⟩ dL_law_1793 (fun v w h => ?_)
  obtain ⟨rfl, rfl⟩ := h
  show V K sL_law (k + 1) (n + 6) (wL3 en c2 a κ2 σ2 o g2) [some (.ref b), some (.ref (c 0)), some (.ref (a 0)), some (.ref o), some (.int (zI i)), some (.int (zI ((sp_windowSize P (sc xs (i + 1))).1))), some (.int (zI ((sp_windowSize P (sc xs (i + 1))).2.1)))] [.int (zI (σ2 1 29))] 1796
  refine V_eqT (y := zI (sp_windowSize P (sc xs (i + 1))).1) (by rw [et]) ?_
  refine V_iload dL_law_1796 rfl ?_
  refine V_icmp_same (tgt := 1803) dL_law_1798 (by decide) ?_
  refine V_iload dL_law_1803 rfl ?_
  refine V_if_ne (tgt := 1820) dL_law_1805 (by decide) ⟨by have := hn2; omega, by have := hn2; omega⟩ (fun h1 => ?_) (fun h1 => ?_)
  · refine V_goto (tgt := 2688) dL_law_1820 (by decide) ?_
    refine V_mask (L' := [some (.ref b), some (.ref (c 0)), some (.ref (a 0)), some (.ref o), some (.int (zI i)), none, none]) [true, true, true, true, true, false, false] rfl ?_
    refine V_widen (k' := k + 8) (n' := n + 50) (by omega) (by omega) ?_
    exact hnext c2 κ2 σ2 _ g2 e0 (mi_windowSize hM) hC2 hP2
  · refine V_aload_n dL_law_1808 rfl ?_
    refine V_iconst dL_law_1809 ?_
    refine V_lald (N := 1) _ (wL3_out en c2 a κ2 σ2 o g2) ⟨by decide, by decide⟩ (by decide) dL_law_1810 ?_
    refine V_iload dL_law_1811 rfl ?_
    refine V_i2l dL_law_1813 ?_
    refine V_lcmp dL_law_1814 ?_
    refine V_eqT (y := zI 0) (lg_eq (hz2 h1).1) ?_
    refine V_if_eq (tgt := 1820) dL_law_1815 (by decide) ⟨by omega, by omega⟩ (fun _ => ?_) (fun h => absurd rfl h)
    refine V_goto (tgt := 2688) dL_law_1820 (by decide) ?_
    refine V_mask (L' := [some (.ref b), some (.ref (c 0)), some (.ref (a 0)), some (.ref o), some (.int (zI i)), none, none]) [true, true, true, true, true, false, false] rfl ?_
    refine V_widen (k' := k + 8) (n' := n + 50) (by omega) (by omega) ?_
    exact hnext c2 κ2 σ2 _ g2 e0 (mi_windowSize hM) hC2 hP2
set_option maxRecDepth 100000 in
set_option maxHeartbeats 4000000 in
theorem law_room {K : KT} {en c a : Nat → Nat} {κ σ P : St} {o b Ln k n : Nat} {xs : Nat → Int32} {g : Nat → Int64} {i : Int} (hK : evK K = EX en) (hX : scK K b Ln xs) (hL : Ln ≤ 3072) (hi : 0 ≤ i ∧ i + 6 ≤ (Ln : Int)) (hk : k + 8 ≤ 601024) (hn : n + 50 ≤ 7293034) (hM : MI P) (hC : CWP P κ) (hP : PR P σ)
    (hnext : ∀ (c2 : Nat → Nat) (κ2 σ2 P2 : St) (g2 : Nat → Int64), c2 0 = c 0 → MI P2 → CWP P2 κ2 → PR P2 σ2 → V K sL_law (k + 8) (n + 50) (wL3 en c2 a κ2 σ2 o g2) [some (.ref b), some (.ref (c 0)), some (.ref (a 0)), some (.ref o), some (.int (zI i)), none, none] [] 2688) : V K sL_law k n (wL3 en c a κ σ o g) [some (.ref b), some (.ref (c 0)), some (.ref (a 0)), some (.ref o), some (.int (zI i)), none, none] [] 1823 := by
  refine V_aload_n dL_law_1823 rfl ?_
  refine V_Perm (law_P1 _ _ _) ?_
  refine V_callVB (As := []) (b := c 0) (ci := 9) (fs := cwF c κ) (T := TX10) (N := 9) (wL3_cw en c a κ σ o g) rfl (wr := mW a σ ++ [(o, lE 1 g)]) (wc := fm (cO en c κ)) rfl hK (MC.env EX.en (k_roomP en c κ P ⟨hM, hC.1, hC.2.1, hC.2.2⟩)) mokX10_room w470 w463 w464 ⟨Nat.le_of_ble_eq_true rfl, Nat.le_of_ble_eq_true rfl⟩ rfl (Nat.le_of_ble_eq_true rfl) ⟨rm_k (c := 0) hk (Nat.le_of_ble_eq_true rfl), rm_n (c := 0) hn (Nat.le_of_ble_eq_true rfl)⟩ dL_law_1824 (fun v w h => ?_)
  obtain ⟨κ2, rfl, rfl, e1, hC2⟩ := h
  refine V_Perm (law_P2 _ _ _) ?_
  show V K sL_law (k + 0) (n + 0) (wL3 en c a κ2 σ o g) [some (.ref b), some (.ref (c 0)), some (.ref (a 0)), some (.ref o), some (.int (zI i)), none, none] [.int (zI ((sp_room P).2.1))] 1827
  refine V_aload_n dL_law_1827 rfl ?_
  refine V_callVA (As := []) (b := a 0) (q0 := 0) (ci := 10) (fs := mF a σ) (T := TX11) (N := 30) rfl rfl (wc := mW a σ) (wr := fm (cO en c κ2) ++ [(o, lE 1 g)]) rfl hK (c_room (EX.stb en) a σ P ⟨hM, hP⟩) mokX11_room w1402 w1403 w1404 ⟨Nat.le_of_ble_eq_true rfl, Nat.le_of_ble_eq_true rfl⟩ rfl (Nat.le_of_ble_eq_true rfl) ⟨rm_k (c := 0) hk (Nat.le_of_ble_eq_true rfl), rm_n (c := 0) hn (Nat.le_of_ble_eq_true rfl)⟩ dL_law_1828 (fun v w h => ?_)
  obtain ⟨σ2, rfl, rfl, et, hP2⟩ := h
  show V K sL_law (k + 0) (n + 0) (wL3 en c a κ2 σ2 o g) [some (.ref b), some (.ref (c 0)), some (.ref (a 0)), some (.ref o), some (.int (zI i)), none, none] [.int (zI ((sp_room P).2.1)), .int (zI ((sp_room P).2.1))] 1831
  refine V_icmp_same (tgt := 2688) dL_law_1831 (by decide) ?_
  refine V_widen (k' := k + 8) (n' := n + 50) (by omega) (by omega) ?_
  exact hnext c κ2 σ2 _ g rfl (mi_room hM) hC2 hP2
set_option maxRecDepth 100000 in
set_option maxHeartbeats 4000000 in
theorem law_placeOf {K : KT} {en c a : Nat → Nat} {κ σ P : St} {o b Ln k n : Nat} {xs : Nat → Int32} {g : Nat → Int64} {i : Int} (hK : evK K = EX en) (hX : scK K b Ln xs) (hL : Ln ≤ 3072) (hi : 0 ≤ i ∧ i + 6 ≤ (Ln : Int)) (hk : k + 8 ≤ 601024) (hn : n + 50 ≤ 7293034) (hM : MI P) (hC : CWP P κ) (hP : PR P σ)
    (hnext : ∀ (c2 : Nat → Nat) (κ2 σ2 P2 : St) (g2 : Nat → Int64), c2 0 = c 0 → MI P2 → CWP P2 κ2 → PR P2 σ2 → V K sL_law (k + 8) (n + 50) (wL3 en c2 a κ2 σ2 o g2) [some (.ref b), some (.ref (c 0)), some (.ref (a 0)), some (.ref o), some (.int (zI i)), none, none] [] 2688) : V K sL_law k n (wL3 en c a κ σ o g) [some (.ref b), some (.ref (c 0)), some (.ref (a 0)), some (.ref o), some (.int (zI i)), none, none] [] 1836 := by
  refine V_aload_n dL_law_1836 rfl ?_
  refine V_aload_n dL_law_1837 rfl ?_
  refine V_iload dL_law_1838 rfl ?_
  refine V_iconst dL_law_1840 ?_
  refine V_iadd dL_law_1841 ?_
  refine V_sld hX ⟨by omega, by omega⟩ hL dL_law_1842 ?_
  refine V_aload_n dL_law_1843 rfl ?_
  refine V_iload dL_law_1844 rfl ?_
  refine V_iconst dL_law_1846 ?_
  refine V_iadd dL_law_1847 ?_
  refine V_sld hX ⟨by omega, by omega⟩ hL dL_law_1848 ?_
  refine V_aload_n dL_law_1849 rfl ?_
  refine V_iload dL_law_1850 rfl ?_
  refine V_iconst dL_law_1852 ?_
  refine V_iadd dL_law_1853 ?_
  refine V_sld hX ⟨by omega, by omega⟩ hL dL_law_1854 ?_
  refine V_aload_n dL_law_1855 rfl ?_
  refine V_callSBH (As := [.ref (c 0), .int (zI (sc xs (i + 1))), .int (zI (sc xs (i + 2))), .int (zI (sc xs (i + 3))), .ref o]) (wr := mW a σ) (wc := fm (cO en c κ) ++ [(o, lE 1 g)]) rfl hK (l_placeOf en c κ P o g (sc xs (i + 1)) (sc xs (i + 2)) (sc xs (i + 3)) hM hC (sc_R _ _) (sc_R _ _) (sc_R _ _)) mokL_placeOf w938 w939 ⟨Nat.le_of_ble_eq_true rfl, Nat.le_of_ble_eq_true rfl⟩ rfl (Nat.le_of_ble_eq_true rfl) ⟨rm_k hk (Nat.le_of_ble_eq_true rfl), rm_n hn (Nat.le_of_ble_eq_true rfl)⟩ dL_law_1856 (fun v w h => ?_)
  obtain ⟨c2, κ2, g2, rfl, rfl, e0, hC2, hn2, hz2⟩ := h
  show V K sL_law (k + 2) (n + 12) (wL3 en c2 a κ2 σ o g2) [some (.ref b), some (.ref (c 0)), some (.ref (a 0)), some (.ref o), some (.int (zI i)), none, none] [.int (zI ((sp_placeOf P (sc xs (i + 1)) (sc xs (i + 2)) (sc xs (i + 3))).1))] 1859
  refine V_istore (L' := [some (.ref b), some (.ref (c 0)), some (.ref (a 0)), some (.ref o), some (.int (zI i)), some (.int (zI ((sp_placeOf P (sc xs (i + 1)) (sc xs (i + 2)) (sc xs (i + 3))).1))), none]) dL_law_1859 (by decide) rfl ?_
  refine V_aload_n dL_law_1861 rfl ?_
  refine V_aload_n dL_law_1862 rfl ?_
  refine V_iload dL_law_1863 rfl ?_
  refine V_iconst dL_law_1865 ?_
  refine V_iadd dL_law_1866 ?_
  refine V_sld hX ⟨by omega, by omega⟩ hL dL_law_1867 ?_
  refine V_aload_n dL_law_1868 rfl ?_
  refine V_iload dL_law_1869 rfl ?_
  refine V_iconst dL_law_1871 ?_
  refine V_iadd dL_law_1872 ?_
  refine V_sld hX ⟨by omega, by omega⟩ hL dL_law_1873 ?_
  refine V_aload_n dL_law_1874 rfl ?_
  refine V_iload dL_law_1875 rfl ?_
  refine V_iconst dL_law_1877 ?_
  refine V_iadd dL_law_1878 ?_
  refine V_sld hX ⟨by omega, by omega⟩ hL dL_law_1879 ?_
  refine V_callVA (As := [.int (zI (sc xs (i + 1))), .int (zI (sc xs (i + 2))), .int (zI (sc xs (i + 3)))]) (b := a 0) (q0 := 0) (ci := 10) (fs := mF a σ) (T := TX11) (N := 30) rfl rfl (wc := mW a σ) (wr := fm (cO en c2 κ2) ++ [(o, lE 1 g2)]) rfl hK (c_placeOf (EX.stb en) a σ (sc xs (i + 1)) (sc xs (i + 2)) (sc xs (i + 3)) P ⟨hM, hP, sc_R _ _, sc_R _ _, sc_R _ _⟩) mokX11_placeOf w1406 w1407 w1408 ⟨Nat.le_of_ble_eq_true rfl, Nat.le_of_ble_eq_true rfl⟩ rfl (Nat.le_of_ble_eq_true rfl) ⟨rm_k (c := 2) hk (Nat.le_of_ble_eq_true rfl), rm_n (c := 12) hn (Nat.le_of_ble_eq_true rfl)⟩ dL_law_1880 (fun v w h => ?_)
  obtain ⟨σ2, rfl, rfl, et, hP2⟩ := h
  show V K sL_law (k + 2) (n + 12) (wL3 en c2 a κ2 σ2 o g2) [some (.ref b), some (.ref (c 0)), some (.ref (a 0)), some (.ref o), some (.int (zI i)), some (.int (zI ((sp_placeOf P (sc xs (i + 1)) (sc xs (i + 2)) (sc xs (i + 3))).1))), none] [.int (zI ((sp_placeOf P (sc xs (i + 1)) (sc xs (i + 2)) (sc xs (i + 3))).2.1))] 1883
  refine V_istore (L' := [some (.ref b), some (.ref (c 0)), some (.ref (a 0)), some (.ref o), some (.int (zI i)), some (.int (zI ((sp_placeOf P (sc xs (i + 1)) (sc xs (i + 2)) (sc xs (i + 3))).1))), some (.int (zI ((sp_placeOf P (sc xs (i + 1)) (sc xs (i + 2)) (sc xs (i + 3))).2.1)))]) dL_law_1883 (by decide) rfl ?_
  refine V_aload_n dL_law_1885 rfl ?_
  refine V_callVA (As := []) (b := a 0) (q0 := 0) (ci := 10) (fs := mF a σ2) (T := TX11) (N := 30) rfl rfl (wc := mW a σ2) (wr := fm (cO en c2 κ2) ++ [(o, lE 1 g2)]) rfl hK (c_thrown (EX.stb en) a σ2) mokX11_thrown w1161 w1162 w1163 ⟨Nat.le_of_ble_eq_true rfl, Nat.le_of_ble_eq_true rfl⟩ rfl (Nat.le_of_ble_eq_true rfl) ⟨rm_k (c := 2) hk (Nat.le_of_ble_eq_true rfl), rm_n (c := 12) hn (Nat.le_of_ble_eq_true rfl)⟩ dL_law_1886 (fun v w h => ?_)
  obtain ⟨rfl, rfl⟩ := h
  show V K sL_law (k + 2) (n + 12) (wL3 en c2 a κ2 σ2 o g2) [some (.ref b), some (.ref (c 0)), some (.ref (a 0)), some (.ref o), some (.int (zI i)), some (.int (zI ((sp_placeOf P (sc xs (i + 1)) (sc xs (i + 2)) (sc xs (i + 3))).1))), some (.int (zI ((sp_placeOf P (sc xs (i + 1)) (sc xs (i + 2)) (sc xs (i + 3))).2.1)))] [.int (zI (σ2 1 29))] 1889
  refine V_eqT (y := zI (sp_placeOf P (sc xs (i + 1)) (sc xs (i + 2)) (sc xs (i + 3))).1) (by rw [et]) ?_
  refine V_iload dL_law_1889 rfl ?_
  refine V_icmp_same (tgt := 1896) dL_law_1891 (by decide) ?_
  refine V_iload dL_law_1896 rfl ?_
  refine V_if_ne (tgt := 1913) dL_law_1898 (by decide) ⟨by have := hn2; omega, by have := hn2; omega⟩ (fun h1 => ?_) (fun h1 => ?_)
  · refine V_goto (tgt := 2688) dL_law_1913 (by decide) ?_
    refine V_mask (L' := [some (.ref b), some (.ref (c 0)), some (.ref (a 0)), some (.ref o), some (.int (zI i)), none, none]) [true, true, true, true, true, false, false] rfl ?_
    refine V_widen (k' := k + 8) (n' := n + 50) (by omega) (by omega) ?_
    exact hnext c2 κ2 σ2 _ g2 e0 (mi_placeOf hM) hC2 hP2
  · refine V_aload_n dL_law_1901 rfl ?_
    refine V_iconst dL_law_1902 ?_
    refine V_lald (N := 1) _ (wL3_out en c2 a κ2 σ2 o g2) ⟨by decide, by decide⟩ (by decide) dL_law_1903 ?_
    refine V_iload dL_law_1904 rfl ?_
    refine V_i2l dL_law_1906 ?_
    refine V_lcmp dL_law_1907 ?_
    refine V_eqT (y := zI 0) (lg_eq (hz2 h1).1) ?_
    refine V_if_eq (tgt := 1913) dL_law_1908 (by decide) ⟨by omega, by omega⟩ (fun _ => ?_) (fun h => absurd rfl h)
    refine V_goto (tgt := 2688) dL_law_1913 (by decide) ?_
    refine V_mask (L' := [some (.ref b), some (.ref (c 0)), some (.ref (a 0)), some (.ref o), some (.int (zI i)), none, none]) [true, true, true, true, true, false, false] rfl ?_
    refine V_widen (k' := k + 8) (n' := n + 50) (by omega) (by omega) ?_
    exact hnext c2 κ2 σ2 _ g2 e0 (mi_placeOf hM) hC2 hP2
set_option maxRecDepth 100000 in
set_option maxHeartbeats 4000000 in
theorem law_isRight {K : KT} {en c a : Nat → Nat} {κ σ P : St} {o b Ln k n : Nat} {xs : Nat → Int32} {g : Nat → Int64} {i : Int} (hK : evK K = EX en) (hX : scK K b Ln xs) (hL : Ln ≤ 3072) (hi : 0 ≤ i ∧ i + 6 ≤ (Ln : Int)) (hk : k + 8 ≤ 601024) (hn : n + 50 ≤ 7293034) (hM : MI P) (hC : CWP P κ) (hP : PR P σ)
    (hnext : ∀ (c2 : Nat → Nat) (κ2 σ2 P2 : St) (g2 : Nat → Int64), c2 0 = c 0 → MI P2 → CWP P2 κ2 → PR P2 σ2 → V K sL_law (k + 8) (n + 50) (wL3 en c2 a κ2 σ2 o g2) [some (.ref b), some (.ref (c 0)), some (.ref (a 0)), some (.ref o), some (.int (zI i)), none, none] [] 2688) : V K sL_law k n (wL3 en c a κ σ o g) [some (.ref b), some (.ref (c 0)), some (.ref (a 0)), some (.ref o), some (.int (zI i)), none, none] [] 1916 := by
  refine V_aload_n dL_law_1916 rfl ?_
  refine V_aload_n dL_law_1917 rfl ?_
  refine V_iload dL_law_1918 rfl ?_
  refine V_iconst dL_law_1920 ?_
  refine V_iadd dL_law_1921 ?_
  refine V_sld hX ⟨by omega, by omega⟩ hL dL_law_1922 ?_
  refine V_aload_n dL_law_1923 rfl ?_
  refine V_callSBH (As := [.ref (c 0), .int (zI (sc xs (i + 1))), .ref o]) (wr := mW a σ) (wc := fm (cO en c κ) ++ [(o, lE 1 g)]) rfl hK (l_isRight en c κ P o g (sc xs (i + 1)) hM hC (sc_R _ _)) mokL_isRight w946 w947 ⟨Nat.le_of_ble_eq_true rfl, Nat.le_of_ble_eq_true rfl⟩ rfl (Nat.le_of_ble_eq_true rfl) ⟨rm_k hk (Nat.le_of_ble_eq_true rfl), rm_n hn (Nat.le_of_ble_eq_true rfl)⟩ dL_law_1924 (fun v w h => ?_)
  obtain ⟨c2, κ2, g2, rfl, rfl, e0, hC2, hn2, hz2⟩ := h
  show V K sL_law (k + 1) (n + 6) (wL3 en c2 a κ2 σ o g2) [some (.ref b), some (.ref (c 0)), some (.ref (a 0)), some (.ref o), some (.int (zI i)), none, none] [.int (zI ((sp_isRight P (sc xs (i + 1))).1))] 1927
  refine V_istore (L' := [some (.ref b), some (.ref (c 0)), some (.ref (a 0)), some (.ref o), some (.int (zI i)), some (.int (zI ((sp_isRight P (sc xs (i + 1))).1))), none]) dL_law_1927 (by decide) rfl ?_
  refine V_aload_n dL_law_1929 rfl ?_
  refine V_aload_n dL_law_1930 rfl ?_
  refine V_iload dL_law_1931 rfl ?_
  refine V_iconst dL_law_1933 ?_
  refine V_iadd dL_law_1934 ?_
  refine V_sld hX ⟨by omega, by omega⟩ hL dL_law_1935 ?_
  refine V_callVA (As := [.int (zI (sc xs (i + 1)))]) (b := a 0) (q0 := 0) (ci := 10) (fs := mF a σ) (T := TX11) (N := 30) rfl rfl (wc := mW a σ) (wr := fm (cO en c2 κ2) ++ [(o, lE 1 g2)]) rfl hK (c_isRight (EX.stb en) a σ (sc xs (i + 1)) P ⟨hM, hP, sc_R _ _⟩) mokX11_isRight w1414 w1415 w1416 ⟨Nat.le_of_ble_eq_true rfl, Nat.le_of_ble_eq_true rfl⟩ rfl (Nat.le_of_ble_eq_true rfl) ⟨rm_k (c := 1) hk (Nat.le_of_ble_eq_true rfl), rm_n (c := 6) hn (Nat.le_of_ble_eq_true rfl)⟩ dL_law_1936 (fun v w h => ?_)
  obtain ⟨σ2, rfl, rfl, et, hP2⟩ := h
  show V K sL_law (k + 1) (n + 6) (wL3 en c2 a κ2 σ2 o g2) [some (.ref b), some (.ref (c 0)), some (.ref (a 0)), some (.ref o), some (.int (zI i)), some (.int (zI ((sp_isRight P (sc xs (i + 1))).1))), none] [.int (zI ((sp_isRight P (sc xs (i + 1))).2.1))] 1939
  refine V_istore (L' := [some (.ref b), some (.ref (c 0)), some (.ref (a 0)), some (.ref o), some (.int (zI i)), some (.int (zI ((sp_isRight P (sc xs (i + 1))).1))), some (.int (zI ((sp_isRight P (sc xs (i + 1))).2.1)))]) dL_law_1939 (by decide) rfl ?_
  refine V_aload_n dL_law_1941 rfl ?_
  refine V_callVA (As := []) (b := a 0) (q0 := 0) (ci := 10) (fs := mF a σ2) (T := TX11) (N := 30) rfl rfl (wc := mW a σ2) (wr := fm (cO en c2 κ2) ++ [(o, lE 1 g2)]) rfl hK (c_thrown (EX.stb en) a σ2) mokX11_thrown w1161 w1162 w1163 ⟨Nat.le_of_ble_eq_true rfl, Nat.le_of_ble_eq_true rfl⟩ rfl (Nat.le_of_ble_eq_true rfl) ⟨rm_k (c := 1) hk (Nat.le_of_ble_eq_true rfl), rm_n (c := 6) hn (Nat.le_of_ble_eq_true rfl)⟩ dL_law_1942 (fun v w h => ?_)
  obtain ⟨rfl, rfl⟩ := h
  show V K sL_law (k + 1) (n + 6) (wL3 en c2 a κ2 σ2 o g2) [some (.ref b), some (.ref (c 0)), some (.ref (a 0)), some (.ref o), some (.int (zI i)), some (.int (zI ((sp_isRight P (sc xs (i + 1))).1))), some (.int (zI ((sp_isRight P (sc xs (i + 1))).2.1)))] [.int (zI (σ2 1 29))] 1945
  refine V_eqT (y := zI (sp_isRight P (sc xs (i + 1))).1) (by rw [et]) ?_
  refine V_iload dL_law_1945 rfl ?_
  refine V_icmp_same (tgt := 1952) dL_law_1947 (by decide) ?_
  refine V_iload dL_law_1952 rfl ?_
  refine V_if_ne (tgt := 1976) dL_law_1954 (by decide) ⟨by have := hn2; omega, by have := hn2; omega⟩ (fun h1 => ?_) (fun h1 => ?_)
  · refine V_goto (tgt := 2688) dL_law_1976 (by decide) ?_
    refine V_mask (L' := [some (.ref b), some (.ref (c 0)), some (.ref (a 0)), some (.ref o), some (.int (zI i)), none, none]) [true, true, true, true, true, false, false] rfl ?_
    refine V_widen (k' := k + 8) (n' := n + 50) (by omega) (by omega) ?_
    exact hnext c2 κ2 σ2 _ g2 e0 (mi_isRight hM) hC2 hP2
  · refine V_aload_n dL_law_1957 rfl ?_
    refine V_iconst dL_law_1958 ?_
    refine V_lald (N := 1) _ (wL3_out en c2 a κ2 σ2 o g2) ⟨by decide, by decide⟩ (by decide) dL_law_1959 ?_
    refine V_iload dL_law_1960 rfl ?_
    have v3 := (hz2 h1).2 rfl
    refine V_if_eq (tgt := 1969) dL_law_1962 (by decide) ⟨by omega, by omega⟩ (fun h2 => ?_) (fun h2 => ?_)
    · refine V_lconst dL_law_1969 ?_
      refine V_lcmp dL_law_1970 ?_
      refine V_eqT (y := zI 0) (lg_eq ((hz2 h1).1.trans (by rw [h2]; rfl))) ?_
      refine V_if_eq (tgt := 1976) dL_law_1971 (by decide) ⟨by omega, by omega⟩ (fun _ => ?_) (fun h => absurd rfl h)
      refine V_goto (tgt := 2688) dL_law_1976 (by decide) ?_
      refine V_mask (L' := [some (.ref b), some (.ref (c 0)), some (.ref (a 0)), some (.ref o), some (.int (zI i)), none, none]) [true, true, true, true, true, false, false] rfl ?_
      refine V_widen (k' := k + 8) (n' := n + 50) (by omega) (by omega) ?_
      exact hnext c2 κ2 σ2 _ g2 e0 (mi_isRight hM) hC2 hP2
    · refine V_lconst dL_law_1965 ?_
      refine V_goto (tgt := 1970) dL_law_1966 (by decide) ?_
      refine V_lcmp dL_law_1970 ?_
      refine V_eqT (y := zI 0) (lg_eq ((hz2 h1).1.trans (by rw [show (sp_isRight P (sc xs (i + 1))).2.1 = 1 by omega]; rfl))) ?_
      refine V_if_eq (tgt := 1976) dL_law_1971 (by decide) ⟨by omega, by omega⟩ (fun _ => ?_) (fun h => absurd rfl h)
      refine V_goto (tgt := 2688) dL_law_1976 (by decide) ?_
      refine V_mask (L' := [some (.ref b), some (.ref (c 0)), some (.ref (a 0)), some (.ref o), some (.int (zI i)), none, none]) [true, true, true, true, true, false, false] rfl ?_
      refine V_widen (k' := k + 8) (n' := n + 50) (by omega) (by omega) ?_
      exact hnext c2 κ2 σ2 _ g2 e0 (mi_isRight hM) hC2 hP2
set_option maxRecDepth 100000 in
set_option maxHeartbeats 4000000 in
theorem law_leastRest {K : KT} {en c a : Nat → Nat} {κ σ P : St} {o b Ln k n : Nat} {xs : Nat → Int32} {g : Nat → Int64} {i : Int} (hK : evK K = EX en) (hX : scK K b Ln xs) (hL : Ln ≤ 3072) (hi : 0 ≤ i ∧ i + 6 ≤ (Ln : Int)) (hk : k + 8 ≤ 601024) (hn : n + 50 ≤ 7293034) (hM : MI P) (hC : CWP P κ) (hP : PR P σ)
    (hnext : ∀ (c2 : Nat → Nat) (κ2 σ2 P2 : St) (g2 : Nat → Int64), c2 0 = c 0 → MI P2 → CWP P2 κ2 → PR P2 σ2 → V K sL_law (k + 8) (n + 50) (wL3 en c2 a κ2 σ2 o g2) [some (.ref b), some (.ref (c 0)), some (.ref (a 0)), some (.ref o), some (.int (zI i)), none, none] [] 2688) : V K sL_law k n (wL3 en c a κ σ o g) [some (.ref b), some (.ref (c 0)), some (.ref (a 0)), some (.ref o), some (.int (zI i)), none, none] [] 1979 := by
  refine V_aload_n dL_law_1979 rfl ?_
  refine V_aload_n dL_law_1980 rfl ?_
  refine V_iload dL_law_1981 rfl ?_
  refine V_iconst dL_law_1983 ?_
  refine V_iadd dL_law_1984 ?_
  refine V_sld hX ⟨by omega, by omega⟩ hL dL_law_1985 ?_
  refine V_aload_n dL_law_1986 rfl ?_
  refine V_callSBH (As := [.ref (c 0), .int (zI (sc xs (i + 1))), .ref o]) (wr := mW a σ) (wc := fm (cO en c κ) ++ [(o, lE 1 g)]) rfl hK (l_leastRest en c κ P o g (sc xs (i + 1)) hM hC (sc_R _ _)) mokL_leastRest w954 w955 ⟨Nat.le_of_ble_eq_true rfl, Nat.le_of_ble_eq_true rfl⟩ rfl (Nat.le_of_ble_eq_true rfl) ⟨rm_k hk (Nat.le_of_ble_eq_true rfl), rm_n hn (Nat.le_of_ble_eq_true rfl)⟩ dL_law_1987 (fun v w h => ?_)
  obtain ⟨c2, κ2, g2, rfl, rfl, e0, hC2, hn2, hz2⟩ := h
  show V K sL_law (k + 1) (n + 6) (wL3 en c2 a κ2 σ o g2) [some (.ref b), some (.ref (c 0)), some (.ref (a 0)), some (.ref o), some (.int (zI i)), none, none] [.int (zI ((sp_leastRest P (sc xs (i + 1))).1))] 1990
  refine V_istore (L' := [some (.ref b), some (.ref (c 0)), some (.ref (a 0)), some (.ref o), some (.int (zI i)), some (.int (zI ((sp_leastRest P (sc xs (i + 1))).1))), none]) dL_law_1990 (by decide) rfl ?_
  refine V_aload_n dL_law_1992 rfl ?_
  refine V_aload_n dL_law_1993 rfl ?_
  refine V_iload dL_law_1994 rfl ?_
  refine V_iconst dL_law_1996 ?_
  refine V_iadd dL_law_1997 ?_
  refine V_sld hX ⟨by omega, by omega⟩ hL dL_law_1998 ?_
  refine V_callVA (As := [.int (zI (sc xs (i + 1)))]) (b := a 0) (q0 := 0) (ci := 10) (fs := mF a σ) (T := TX11) (N := 30) rfl rfl (wc := mW a σ) (wr := fm (cO en c2 κ2) ++ [(o, lE 1 g2)]) rfl hK (c_leastRest (EX.stb en) a σ (sc xs (i + 1)) P ⟨hM, hP, sc_R _ _⟩) mokX11_leastRest w1418 w1419 w1420 ⟨Nat.le_of_ble_eq_true rfl, Nat.le_of_ble_eq_true rfl⟩ rfl (Nat.le_of_ble_eq_true rfl) ⟨rm_k (c := 1) hk (Nat.le_of_ble_eq_true rfl), rm_n (c := 6) hn (Nat.le_of_ble_eq_true rfl)⟩ dL_law_1999 (fun v w h => ?_)
  obtain ⟨σ2, rfl, rfl, et, hP2⟩ := h
  show V K sL_law (k + 1) (n + 6) (wL3 en c2 a κ2 σ2 o g2) [some (.ref b), some (.ref (c 0)), some (.ref (a 0)), some (.ref o), some (.int (zI i)), some (.int (zI ((sp_leastRest P (sc xs (i + 1))).1))), none] [.int (zI ((sp_leastRest P (sc xs (i + 1))).2.1))] 2002
  refine V_istore (L' := [some (.ref b), some (.ref (c 0)), some (.ref (a 0)), some (.ref o), some (.int (zI i)), some (.int (zI ((sp_leastRest P (sc xs (i + 1))).1))), some (.int (zI ((sp_leastRest P (sc xs (i + 1))).2.1)))]) dL_law_2002 (by decide) rfl ?_
  refine V_aload_n dL_law_2004 rfl ?_
  refine V_callVA (As := []) (b := a 0) (q0 := 0) (ci := 10) (fs := mF a σ2) (T := TX11) (N := 30) rfl rfl (wc := mW a σ2) (wr := fm (cO en c2 κ2) ++ [(o, lE 1 g2)]) rfl hK (c_thrown (EX.stb en) a σ2) mokX11_thrown w1161 w1162 w1163 ⟨Nat.le_of_ble_eq_true rfl, Nat.le_of_ble_eq_true rfl⟩ rfl (Nat.le_of_ble_eq_true rfl) ⟨rm_k (c := 1) hk (Nat.le_of_ble_eq_true rfl), rm_n (c := 6) hn (Nat.le_of_ble_eq_true rfl)⟩ dL_law_2005 (fun v w h => ?_)
  obtain ⟨rfl, rfl⟩ := h
  show V K sL_law (k + 1) (n + 6) (wL3 en c2 a κ2 σ2 o g2) [some (.ref b), some (.ref (c 0)), some (.ref (a 0)), some (.ref o), some (.int (zI i)), some (.int (zI ((sp_leastRest P (sc xs (i + 1))).1))), some (.int (zI ((sp_leastRest P (sc xs (i + 1))).2.1)))] [.int (zI (σ2 1 29))] 2008
  refine V_eqT (y := zI (sp_leastRest P (sc xs (i + 1))).1) (by rw [et]) ?_
  refine V_iload dL_law_2008 rfl ?_
  refine V_icmp_same (tgt := 2015) dL_law_2010 (by decide) ?_
  refine V_iload dL_law_2015 rfl ?_
  refine V_if_ne (tgt := 2032) dL_law_2017 (by decide) ⟨by have := hn2; omega, by have := hn2; omega⟩ (fun h1 => ?_) (fun h1 => ?_)
  · refine V_goto (tgt := 2688) dL_law_2032 (by decide) ?_
    refine V_mask (L' := [some (.ref b), some (.ref (c 0)), some (.ref (a 0)), some (.ref o), some (.int (zI i)), none, none]) [true, true, true, true, true, false, false] rfl ?_
    refine V_widen (k' := k + 8) (n' := n + 50) (by omega) (by omega) ?_
    exact hnext c2 κ2 σ2 _ g2 e0 (mi_leastRest hM) hC2 hP2
  · refine V_aload_n dL_law_2020 rfl ?_
    refine V_iconst dL_law_2021 ?_
    refine V_lald (N := 1) _ (wL3_out en c2 a κ2 σ2 o g2) ⟨by decide, by decide⟩ (by decide) dL_law_2022 ?_
    refine V_iload dL_law_2023 rfl ?_
    refine V_i2l dL_law_2025 ?_
    refine V_lcmp dL_law_2026 ?_
    refine V_eqT (y := zI 0) (lg_eq (hz2 h1).1) ?_
    refine V_if_eq (tgt := 2032) dL_law_2027 (by decide) ⟨by omega, by omega⟩ (fun _ => ?_) (fun h => absurd rfl h)
    refine V_goto (tgt := 2688) dL_law_2032 (by decide) ?_
    refine V_mask (L' := [some (.ref b), some (.ref (c 0)), some (.ref (a 0)), some (.ref o), some (.int (zI i)), none, none]) [true, true, true, true, true, false, false] rfl ?_
    refine V_widen (k' := k + 8) (n' := n + 50) (by omega) (by omega) ?_
    exact hnext c2 κ2 σ2 _ g2 e0 (mi_leastRest hM) hC2 hP2
set_option maxRecDepth 100000 in
set_option maxHeartbeats 4000000 in
theorem law_leastRestByDifferences {K : KT} {en c a : Nat → Nat} {κ σ P : St} {o b Ln k n : Nat} {xs : Nat → Int32} {g : Nat → Int64} {i : Int} (hK : evK K = EX en) (hX : scK K b Ln xs) (hL : Ln ≤ 3072) (hi : 0 ≤ i ∧ i + 6 ≤ (Ln : Int)) (hk : k + 8 ≤ 601024) (hn : n + 50 ≤ 7293034) (hM : MI P) (hC : CWP P κ) (hP : PR P σ)
    (hnext : ∀ (c2 : Nat → Nat) (κ2 σ2 P2 : St) (g2 : Nat → Int64), c2 0 = c 0 → MI P2 → CWP P2 κ2 → PR P2 σ2 → V K sL_law (k + 8) (n + 50) (wL3 en c2 a κ2 σ2 o g2) [some (.ref b), some (.ref (c 0)), some (.ref (a 0)), some (.ref o), some (.int (zI i)), none, none] [] 2688) : V K sL_law k n (wL3 en c a κ σ o g) [some (.ref b), some (.ref (c 0)), some (.ref (a 0)), some (.ref o), some (.int (zI i)), none, none] [] 2035 := by
  refine V_aload_n dL_law_2035 rfl ?_
  refine V_aload_n dL_law_2036 rfl ?_
  refine V_iload dL_law_2037 rfl ?_
  refine V_iconst dL_law_2039 ?_
  refine V_iadd dL_law_2040 ?_
  refine V_sld hX ⟨by omega, by omega⟩ hL dL_law_2041 ?_
  refine V_aload_n dL_law_2042 rfl ?_
  refine V_callSBH (As := [.ref (c 0), .int (zI (sc xs (i + 1))), .ref o]) (wr := mW a σ) (wc := fm (cO en c κ) ++ [(o, lE 1 g)]) rfl hK (l_leastRestByDifferences en c κ P o g (sc xs (i + 1)) hM hC (sc_R _ _)) mokL_leastRestByDifferences w961 w962 ⟨Nat.le_of_ble_eq_true rfl, Nat.le_of_ble_eq_true rfl⟩ rfl (Nat.le_of_ble_eq_true rfl) ⟨rm_k hk (Nat.le_of_ble_eq_true rfl), rm_n hn (Nat.le_of_ble_eq_true rfl)⟩ dL_law_2043 (fun v w h => ?_)
  obtain ⟨c2, κ2, g2, rfl, rfl, e0, hC2, hn2, hz2⟩ := h
  show V K sL_law (k + 1) (n + 6) (wL3 en c2 a κ2 σ o g2) [some (.ref b), some (.ref (c 0)), some (.ref (a 0)), some (.ref o), some (.int (zI i)), none, none] [.int (zI ((sp_leastRest P (sc xs (i + 1))).1))] 2046
  refine V_istore (L' := [some (.ref b), some (.ref (c 0)), some (.ref (a 0)), some (.ref o), some (.int (zI i)), some (.int (zI ((sp_leastRest P (sc xs (i + 1))).1))), none]) dL_law_2046 (by decide) rfl ?_
  refine V_aload_n dL_law_2048 rfl ?_
  refine V_aload_n dL_law_2049 rfl ?_
  refine V_iload dL_law_2050 rfl ?_
  refine V_iconst dL_law_2052 ?_
  refine V_iadd dL_law_2053 ?_
  refine V_sld hX ⟨by omega, by omega⟩ hL dL_law_2054 ?_
  refine V_callVA (As := [.int (zI (sc xs (i + 1)))]) (b := a 0) (q0 := 0) (ci := 10) (fs := mF a σ) (T := TX11) (N := 30) rfl rfl (wc := mW a σ) (wr := fm (cO en c2 κ2) ++ [(o, lE 1 g2)]) rfl hK (c_leastRestByDifferences (EX.stb en) a σ (sc xs (i + 1)) P ⟨hM, hP, sc_R _ _⟩) mokX11_leastRestByDifferences w1426 w1427 w1428 ⟨Nat.le_of_ble_eq_true rfl, Nat.le_of_ble_eq_true rfl⟩ rfl (Nat.le_of_ble_eq_true rfl) ⟨rm_k (c := 1) hk (Nat.le_of_ble_eq_true rfl), rm_n (c := 6) hn (Nat.le_of_ble_eq_true rfl)⟩ dL_law_2055 (fun v w h => ?_)
  obtain ⟨σ2, rfl, rfl, et, hP2⟩ := h
  show V K sL_law (k + 1) (n + 6) (wL3 en c2 a κ2 σ2 o g2) [some (.ref b), some (.ref (c 0)), some (.ref (a 0)), some (.ref o), some (.int (zI i)), some (.int (zI ((sp_leastRest P (sc xs (i + 1))).1))), none] [.int (zI ((sp_leastRest P (sc xs (i + 1))).2.1))] 2058
  refine V_istore (L' := [some (.ref b), some (.ref (c 0)), some (.ref (a 0)), some (.ref o), some (.int (zI i)), some (.int (zI ((sp_leastRest P (sc xs (i + 1))).1))), some (.int (zI ((sp_leastRest P (sc xs (i + 1))).2.1)))]) dL_law_2058 (by decide) rfl ?_
  refine V_aload_n dL_law_2060 rfl ?_
  refine V_callVA (As := []) (b := a 0) (q0 := 0) (ci := 10) (fs := mF a σ2) (T := TX11) (N := 30) rfl rfl (wc := mW a σ2) (wr := fm (cO en c2 κ2) ++ [(o, lE 1 g2)]) rfl hK (c_thrown (EX.stb en) a σ2) mokX11_thrown w1161 w1162 w1163 ⟨Nat.le_of_ble_eq_true rfl, Nat.le_of_ble_eq_true rfl⟩ rfl (Nat.le_of_ble_eq_true rfl) ⟨rm_k (c := 1) hk (Nat.le_of_ble_eq_true rfl), rm_n (c := 6) hn (Nat.le_of_ble_eq_true rfl)⟩ dL_law_2061 (fun v w h => ?_)
  obtain ⟨rfl, rfl⟩ := h
  show V K sL_law (k + 1) (n + 6) (wL3 en c2 a κ2 σ2 o g2) [some (.ref b), some (.ref (c 0)), some (.ref (a 0)), some (.ref o), some (.int (zI i)), some (.int (zI ((sp_leastRest P (sc xs (i + 1))).1))), some (.int (zI ((sp_leastRest P (sc xs (i + 1))).2.1)))] [.int (zI (σ2 1 29))] 2064
  refine V_eqT (y := zI (sp_leastRest P (sc xs (i + 1))).1) (by rw [et]) ?_
  refine V_iload dL_law_2064 rfl ?_
  refine V_icmp_same (tgt := 2071) dL_law_2066 (by decide) ?_
  refine V_iload dL_law_2071 rfl ?_
  refine V_if_ne (tgt := 2088) dL_law_2073 (by decide) ⟨by have := hn2; omega, by have := hn2; omega⟩ (fun h1 => ?_) (fun h1 => ?_)
  · refine V_goto (tgt := 2688) dL_law_2088 (by decide) ?_
    refine V_mask (L' := [some (.ref b), some (.ref (c 0)), some (.ref (a 0)), some (.ref o), some (.int (zI i)), none, none]) [true, true, true, true, true, false, false] rfl ?_
    refine V_widen (k' := k + 8) (n' := n + 50) (by omega) (by omega) ?_
    exact hnext c2 κ2 σ2 _ g2 e0 (mi_leastRest hM) hC2 hP2
  · refine V_aload_n dL_law_2076 rfl ?_
    refine V_iconst dL_law_2077 ?_
    refine V_lald (N := 1) _ (wL3_out en c2 a κ2 σ2 o g2) ⟨by decide, by decide⟩ (by decide) dL_law_2078 ?_
    refine V_iload dL_law_2079 rfl ?_
    refine V_i2l dL_law_2081 ?_
    refine V_lcmp dL_law_2082 ?_
    refine V_eqT (y := zI 0) (lg_eq (hz2 h1).1) ?_
    refine V_if_eq (tgt := 2088) dL_law_2083 (by decide) ⟨by omega, by omega⟩ (fun _ => ?_) (fun h => absurd rfl h)
    refine V_goto (tgt := 2688) dL_law_2088 (by decide) ?_
    refine V_mask (L' := [some (.ref b), some (.ref (c 0)), some (.ref (a 0)), some (.ref o), some (.int (zI i)), none, none]) [true, true, true, true, true, false, false] rfl ?_
    refine V_widen (k' := k + 8) (n' := n + 50) (by omega) (by omega) ?_
    exact hnext c2 κ2 σ2 _ g2 e0 (mi_leastRest hM) hC2 hP2
set_option maxRecDepth 100000 in
set_option maxHeartbeats 4000000 in
theorem law_leastRowRest {K : KT} {en c a : Nat → Nat} {κ σ P : St} {o b Ln k n : Nat} {xs : Nat → Int32} {g : Nat → Int64} {i : Int} (hK : evK K = EX en) (hX : scK K b Ln xs) (hL : Ln ≤ 3072) (hi : 0 ≤ i ∧ i + 6 ≤ (Ln : Int)) (hk : k + 8 ≤ 601024) (hn : n + 50 ≤ 7293034) (hM : MI P) (hC : CWP P κ) (hP : PR P σ)
    (hnext : ∀ (c2 : Nat → Nat) (κ2 σ2 P2 : St) (g2 : Nat → Int64), c2 0 = c 0 → MI P2 → CWP P2 κ2 → PR P2 σ2 → V K sL_law (k + 8) (n + 50) (wL3 en c2 a κ2 σ2 o g2) [some (.ref b), some (.ref (c 0)), some (.ref (a 0)), some (.ref o), some (.int (zI i)), none, none] [] 2688) : V K sL_law k n (wL3 en c a κ σ o g) [some (.ref b), some (.ref (c 0)), some (.ref (a 0)), some (.ref o), some (.int (zI i)), none, none] [] 2091 := by
  refine V_aload_n dL_law_2091 rfl ?_
  refine V_aload_n dL_law_2092 rfl ?_
  refine V_iload dL_law_2093 rfl ?_
  refine V_iconst dL_law_2095 ?_
  refine V_iadd dL_law_2096 ?_
  refine V_sld hX ⟨by omega, by omega⟩ hL dL_law_2097 ?_
  refine V_aload_n dL_law_2098 rfl ?_
  refine V_callSBH (As := [.ref (c 0), .int (zI (sc xs (i + 1))), .ref o]) (wr := mW a σ) (wc := fm (cO en c κ) ++ [(o, lE 1 g)]) rfl hK (l_leastRowRest en c κ P o g (sc xs (i + 1)) hM hC (sc_R _ _)) mokL_leastRowRest w977 w978 ⟨Nat.le_of_ble_eq_true rfl, Nat.le_of_ble_eq_true rfl⟩ rfl (Nat.le_of_ble_eq_true rfl) ⟨rm_k hk (Nat.le_of_ble_eq_true rfl), rm_n hn (Nat.le_of_ble_eq_true rfl)⟩ dL_law_2099 (fun v w h => ?_)
  obtain ⟨c2, κ2, g2, rfl, rfl, e0, hC2, hn2, hz2⟩ := h
  show V K sL_law (k + 1) (n + 6) (wL3 en c2 a κ2 σ o g2) [some (.ref b), some (.ref (c 0)), some (.ref (a 0)), some (.ref o), some (.int (zI i)), none, none] [.int (zI ((sp_leastRowRest P (sc xs (i + 1))).1))] 2102
  refine V_istore (L' := [some (.ref b), some (.ref (c 0)), some (.ref (a 0)), some (.ref o), some (.int (zI i)), some (.int (zI ((sp_leastRowRest P (sc xs (i + 1))).1))), none]) dL_law_2102 (by decide) rfl ?_
  refine V_aload_n dL_law_2104 rfl ?_
  refine V_aload_n dL_law_2105 rfl ?_
  refine V_iload dL_law_2106 rfl ?_
  refine V_iconst dL_law_2108 ?_
  refine V_iadd dL_law_2109 ?_
  refine V_sld hX ⟨by omega, by omega⟩ hL dL_law_2110 ?_
  refine V_callVA (As := [.int (zI (sc xs (i + 1)))]) (b := a 0) (q0 := 0) (ci := 10) (fs := mF a σ) (T := TX11) (N := 30) rfl rfl (wc := mW a σ) (wr := fm (cO en c2 κ2) ++ [(o, lE 1 g2)]) rfl hK (c_leastRowRest (EX.stb en) a σ (sc xs (i + 1)) P ⟨hM, hP, sc_R _ _⟩) mokX11_leastRowRest w1431 w1432 w1433 ⟨Nat.le_of_ble_eq_true rfl, Nat.le_of_ble_eq_true rfl⟩ rfl (Nat.le_of_ble_eq_true rfl) ⟨rm_k (c := 1) hk (Nat.le_of_ble_eq_true rfl), rm_n (c := 6) hn (Nat.le_of_ble_eq_true rfl)⟩ dL_law_2111 (fun v w h => ?_)
  obtain ⟨σ2, rfl, rfl, et, hP2⟩ := h
  show V K sL_law (k + 1) (n + 6) (wL3 en c2 a κ2 σ2 o g2) [some (.ref b), some (.ref (c 0)), some (.ref (a 0)), some (.ref o), some (.int (zI i)), some (.int (zI ((sp_leastRowRest P (sc xs (i + 1))).1))), none] [.int (zI ((sp_leastRowRest P (sc xs (i + 1))).2.1))] 2114
  refine V_istore (L' := [some (.ref b), some (.ref (c 0)), some (.ref (a 0)), some (.ref o), some (.int (zI i)), some (.int (zI ((sp_leastRowRest P (sc xs (i + 1))).1))), some (.int (zI ((sp_leastRowRest P (sc xs (i + 1))).2.1)))]) dL_law_2114 (by decide) rfl ?_
  refine V_aload_n dL_law_2116 rfl ?_
  refine V_callVA (As := []) (b := a 0) (q0 := 0) (ci := 10) (fs := mF a σ2) (T := TX11) (N := 30) rfl rfl (wc := mW a σ2) (wr := fm (cO en c2 κ2) ++ [(o, lE 1 g2)]) rfl hK (c_thrown (EX.stb en) a σ2) mokX11_thrown w1161 w1162 w1163 ⟨Nat.le_of_ble_eq_true rfl, Nat.le_of_ble_eq_true rfl⟩ rfl (Nat.le_of_ble_eq_true rfl) ⟨rm_k (c := 1) hk (Nat.le_of_ble_eq_true rfl), rm_n (c := 6) hn (Nat.le_of_ble_eq_true rfl)⟩ dL_law_2117 (fun v w h => ?_)
  obtain ⟨rfl, rfl⟩ := h
  show V K sL_law (k + 1) (n + 6) (wL3 en c2 a κ2 σ2 o g2) [some (.ref b), some (.ref (c 0)), some (.ref (a 0)), some (.ref o), some (.int (zI i)), some (.int (zI ((sp_leastRowRest P (sc xs (i + 1))).1))), some (.int (zI ((sp_leastRowRest P (sc xs (i + 1))).2.1)))] [.int (zI (σ2 1 29))] 2120
  refine V_eqT (y := zI (sp_leastRowRest P (sc xs (i + 1))).1) (by rw [et]) ?_
  refine V_iload dL_law_2120 rfl ?_
  refine V_icmp_same (tgt := 2127) dL_law_2122 (by decide) ?_
  refine V_iload dL_law_2127 rfl ?_
  refine V_if_ne (tgt := 2144) dL_law_2129 (by decide) ⟨by have := hn2; omega, by have := hn2; omega⟩ (fun h1 => ?_) (fun h1 => ?_)
  · refine V_goto (tgt := 2688) dL_law_2144 (by decide) ?_
    refine V_mask (L' := [some (.ref b), some (.ref (c 0)), some (.ref (a 0)), some (.ref o), some (.int (zI i)), none, none]) [true, true, true, true, true, false, false] rfl ?_
    refine V_widen (k' := k + 8) (n' := n + 50) (by omega) (by omega) ?_
    exact hnext c2 κ2 σ2 _ g2 e0 (mi_leastRowRest hM) hC2 hP2
  · refine V_aload_n dL_law_2132 rfl ?_
    refine V_iconst dL_law_2133 ?_
    refine V_lald (N := 1) _ (wL3_out en c2 a κ2 σ2 o g2) ⟨by decide, by decide⟩ (by decide) dL_law_2134 ?_
    refine V_iload dL_law_2135 rfl ?_
    refine V_i2l dL_law_2137 ?_
    refine V_lcmp dL_law_2138 ?_
    refine V_eqT (y := zI 0) (lg_eq (hz2 h1).1) ?_
    refine V_if_eq (tgt := 2144) dL_law_2139 (by decide) ⟨by omega, by omega⟩ (fun _ => ?_) (fun h => absurd rfl h)
    refine V_goto (tgt := 2688) dL_law_2144 (by decide) ?_
    refine V_mask (L' := [some (.ref b), some (.ref (c 0)), some (.ref (a 0)), some (.ref o), some (.int (zI i)), none, none]) [true, true, true, true, true, false, false] rfl ?_
    refine V_widen (k' := k + 8) (n' := n + 50) (by omega) (by omega) ?_
    exact hnext c2 κ2 σ2 _ g2 e0 (mi_leastRowRest hM) hC2 hP2
set_option maxRecDepth 100000 in
set_option maxHeartbeats 4000000 in
theorem law_leastColumnRest {K : KT} {en c a : Nat → Nat} {κ σ P : St} {o b Ln k n : Nat} {xs : Nat → Int32} {g : Nat → Int64} {i : Int} (hK : evK K = EX en) (hX : scK K b Ln xs) (hL : Ln ≤ 3072) (hi : 0 ≤ i ∧ i + 6 ≤ (Ln : Int)) (hk : k + 8 ≤ 601024) (hn : n + 50 ≤ 7293034) (hM : MI P) (hC : CWP P κ) (hP : PR P σ)
    (hnext : ∀ (c2 : Nat → Nat) (κ2 σ2 P2 : St) (g2 : Nat → Int64), c2 0 = c 0 → MI P2 → CWP P2 κ2 → PR P2 σ2 → V K sL_law (k + 8) (n + 50) (wL3 en c2 a κ2 σ2 o g2) [some (.ref b), some (.ref (c 0)), some (.ref (a 0)), some (.ref o), some (.int (zI i)), none, none] [] 2688) : V K sL_law k n (wL3 en c a κ σ o g) [some (.ref b), some (.ref (c 0)), some (.ref (a 0)), some (.ref o), some (.int (zI i)), none, none] [] 2147 := by
  refine V_aload_n dL_law_2147 rfl ?_
  refine V_aload_n dL_law_2148 rfl ?_
  refine V_iload dL_law_2149 rfl ?_
  refine V_iconst dL_law_2151 ?_
  refine V_iadd dL_law_2152 ?_
  refine V_sld hX ⟨by omega, by omega⟩ hL dL_law_2153 ?_
  refine V_aload_n dL_law_2154 rfl ?_
  refine V_callSBH (As := [.ref (c 0), .int (zI (sc xs (i + 1))), .ref o]) (wr := mW a σ) (wc := fm (cO en c κ) ++ [(o, lE 1 g)]) rfl hK (l_leastColumnRest en c κ P o g (sc xs (i + 1)) hM hC (sc_R _ _)) mokL_leastColumnRest w984 w985 ⟨Nat.le_of_ble_eq_true rfl, Nat.le_of_ble_eq_true rfl⟩ rfl (Nat.le_of_ble_eq_true rfl) ⟨rm_k hk (Nat.le_of_ble_eq_true rfl), rm_n hn (Nat.le_of_ble_eq_true rfl)⟩ dL_law_2155 (fun v w h => ?_)
  obtain ⟨c2, κ2, g2, rfl, rfl, e0, hC2, hn2, hz2⟩ := h
  show V K sL_law (k + 1) (n + 6) (wL3 en c2 a κ2 σ o g2) [some (.ref b), some (.ref (c 0)), some (.ref (a 0)), some (.ref o), some (.int (zI i)), none, none] [.int (zI ((sp_leastColumnRest P (sc xs (i + 1))).1))] 2158
  refine V_istore (L' := [some (.ref b), some (.ref (c 0)), some (.ref (a 0)), some (.ref o), some (.int (zI i)), some (.int (zI ((sp_leastColumnRest P (sc xs (i + 1))).1))), none]) dL_law_2158 (by decide) rfl ?_
  refine V_aload_n dL_law_2160 rfl ?_
  refine V_aload_n dL_law_2161 rfl ?_
  refine V_iload dL_law_2162 rfl ?_
  refine V_iconst dL_law_2164 ?_
  refine V_iadd dL_law_2165 ?_
  refine V_sld hX ⟨by omega, by omega⟩ hL dL_law_2166 ?_
  refine V_callVA (As := [.int (zI (sc xs (i + 1)))]) (b := a 0) (q0 := 0) (ci := 10) (fs := mF a σ) (T := TX11) (N := 30) rfl rfl (wc := mW a σ) (wr := fm (cO en c2 κ2) ++ [(o, lE 1 g2)]) rfl hK (c_leastColumnRest (EX.stb en) a σ (sc xs (i + 1)) P ⟨hM, hP, sc_R _ _⟩) mokX11_leastColumnRest w1435 w1436 w1437 ⟨Nat.le_of_ble_eq_true rfl, Nat.le_of_ble_eq_true rfl⟩ rfl (Nat.le_of_ble_eq_true rfl) ⟨rm_k (c := 1) hk (Nat.le_of_ble_eq_true rfl), rm_n (c := 6) hn (Nat.le_of_ble_eq_true rfl)⟩ dL_law_2167 (fun v w h => ?_)
  obtain ⟨σ2, rfl, rfl, et, hP2⟩ := h
  show V K sL_law (k + 1) (n + 6) (wL3 en c2 a κ2 σ2 o g2) [some (.ref b), some (.ref (c 0)), some (.ref (a 0)), some (.ref o), some (.int (zI i)), some (.int (zI ((sp_leastColumnRest P (sc xs (i + 1))).1))), none] [.int (zI ((sp_leastColumnRest P (sc xs (i + 1))).2.1))] 2170
  refine V_istore (L' := [some (.ref b), some (.ref (c 0)), some (.ref (a 0)), some (.ref o), some (.int (zI i)), some (.int (zI ((sp_leastColumnRest P (sc xs (i + 1))).1))), some (.int (zI ((sp_leastColumnRest P (sc xs (i + 1))).2.1)))]) dL_law_2170 (by decide) rfl ?_
  refine V_aload_n dL_law_2172 rfl ?_
  refine V_callVA (As := []) (b := a 0) (q0 := 0) (ci := 10) (fs := mF a σ2) (T := TX11) (N := 30) rfl rfl (wc := mW a σ2) (wr := fm (cO en c2 κ2) ++ [(o, lE 1 g2)]) rfl hK (c_thrown (EX.stb en) a σ2) mokX11_thrown w1161 w1162 w1163 ⟨Nat.le_of_ble_eq_true rfl, Nat.le_of_ble_eq_true rfl⟩ rfl (Nat.le_of_ble_eq_true rfl) ⟨rm_k (c := 1) hk (Nat.le_of_ble_eq_true rfl), rm_n (c := 6) hn (Nat.le_of_ble_eq_true rfl)⟩ dL_law_2173 (fun v w h => ?_)
  obtain ⟨rfl, rfl⟩ := h
  show V K sL_law (k + 1) (n + 6) (wL3 en c2 a κ2 σ2 o g2) [some (.ref b), some (.ref (c 0)), some (.ref (a 0)), some (.ref o), some (.int (zI i)), some (.int (zI ((sp_leastColumnRest P (sc xs (i + 1))).1))), some (.int (zI ((sp_leastColumnRest P (sc xs (i + 1))).2.1)))] [.int (zI (σ2 1 29))] 2176
  refine V_eqT (y := zI (sp_leastColumnRest P (sc xs (i + 1))).1) (by rw [et]) ?_
  refine V_iload dL_law_2176 rfl ?_
  refine V_icmp_same (tgt := 2183) dL_law_2178 (by decide) ?_
  refine V_iload dL_law_2183 rfl ?_
  refine V_if_ne (tgt := 2200) dL_law_2185 (by decide) ⟨by have := hn2; omega, by have := hn2; omega⟩ (fun h1 => ?_) (fun h1 => ?_)
  · refine V_goto (tgt := 2688) dL_law_2200 (by decide) ?_
    refine V_mask (L' := [some (.ref b), some (.ref (c 0)), some (.ref (a 0)), some (.ref o), some (.int (zI i)), none, none]) [true, true, true, true, true, false, false] rfl ?_
    refine V_widen (k' := k + 8) (n' := n + 50) (by omega) (by omega) ?_
    exact hnext c2 κ2 σ2 _ g2 e0 (mi_leastColumnRest hM) hC2 hP2
  · refine V_aload_n dL_law_2188 rfl ?_
    refine V_iconst dL_law_2189 ?_
    refine V_lald (N := 1) _ (wL3_out en c2 a κ2 σ2 o g2) ⟨by decide, by decide⟩ (by decide) dL_law_2190 ?_
    refine V_iload dL_law_2191 rfl ?_
    refine V_i2l dL_law_2193 ?_
    refine V_lcmp dL_law_2194 ?_
    refine V_eqT (y := zI 0) (lg_eq (hz2 h1).1) ?_
    refine V_if_eq (tgt := 2200) dL_law_2195 (by decide) ⟨by omega, by omega⟩ (fun _ => ?_) (fun h => absurd rfl h)
    refine V_goto (tgt := 2688) dL_law_2200 (by decide) ?_
    refine V_mask (L' := [some (.ref b), some (.ref (c 0)), some (.ref (a 0)), some (.ref o), some (.int (zI i)), none, none]) [true, true, true, true, true, false, false] rfl ?_
    refine V_widen (k' := k + 8) (n' := n + 50) (by omega) (by omega) ?_
    exact hnext c2 κ2 σ2 _ g2 e0 (mi_leastColumnRest hM) hC2 hP2
set_option maxRecDepth 100000 in
set_option maxHeartbeats 4000000 in
theorem law_leastSlantModulus {K : KT} {en c a : Nat → Nat} {κ σ P : St} {o b Ln k n : Nat} {xs : Nat → Int32} {g : Nat → Int64} {i : Int} (hK : evK K = EX en) (hX : scK K b Ln xs) (hL : Ln ≤ 3072) (hi : 0 ≤ i ∧ i + 6 ≤ (Ln : Int)) (hk : k + 8 ≤ 601024) (hn : n + 50 ≤ 7293034) (hM : MI P) (hC : CWP P κ) (hP : PR P σ)
    (hnext : ∀ (c2 : Nat → Nat) (κ2 σ2 P2 : St) (g2 : Nat → Int64), c2 0 = c 0 → MI P2 → CWP P2 κ2 → PR P2 σ2 → V K sL_law (k + 8) (n + 50) (wL3 en c2 a κ2 σ2 o g2) [some (.ref b), some (.ref (c 0)), some (.ref (a 0)), some (.ref o), some (.int (zI i)), none, none] [] 2688) : V K sL_law k n (wL3 en c a κ σ o g) [some (.ref b), some (.ref (c 0)), some (.ref (a 0)), some (.ref o), some (.int (zI i)), none, none] [] 2203 := by
  refine V_aload_n dL_law_2203 rfl ?_
  refine V_aload_n dL_law_2204 rfl ?_
  refine V_iload dL_law_2205 rfl ?_
  refine V_iconst dL_law_2207 ?_
  refine V_iadd dL_law_2208 ?_
  refine V_sld hX ⟨by omega, by omega⟩ hL dL_law_2209 ?_
  refine V_aload_n dL_law_2210 rfl ?_
  refine V_callSBH (As := [.ref (c 0), .int (zI (sc xs (i + 1))), .ref o]) (wr := mW a σ) (wc := fm (cO en c κ) ++ [(o, lE 1 g)]) rfl hK (l_leastSlantModulus en c κ P o g (sc xs (i + 1)) hM hC (sc_R _ _)) mokL_leastSlantModulus w991 w992 ⟨Nat.le_of_ble_eq_true rfl, Nat.le_of_ble_eq_true rfl⟩ rfl (Nat.le_of_ble_eq_true rfl) ⟨rm_k hk (Nat.le_of_ble_eq_true rfl), rm_n hn (Nat.le_of_ble_eq_true rfl)⟩ dL_law_2211 (fun v w h => ?_)
  obtain ⟨c2, κ2, g2, rfl, rfl, e0, hC2, hn2, hz2⟩ := h
  show V K sL_law (k + 1) (n + 6) (wL3 en c2 a κ2 σ o g2) [some (.ref b), some (.ref (c 0)), some (.ref (a 0)), some (.ref o), some (.int (zI i)), none, none] [.int (zI ((sp_leastSlantModulus P (sc xs (i + 1))).1))] 2214
  refine V_istore (L' := [some (.ref b), some (.ref (c 0)), some (.ref (a 0)), some (.ref o), some (.int (zI i)), some (.int (zI ((sp_leastSlantModulus P (sc xs (i + 1))).1))), none]) dL_law_2214 (by decide) rfl ?_
  refine V_aload_n dL_law_2216 rfl ?_
  refine V_aload_n dL_law_2217 rfl ?_
  refine V_iload dL_law_2218 rfl ?_
  refine V_iconst dL_law_2220 ?_
  refine V_iadd dL_law_2221 ?_
  refine V_sld hX ⟨by omega, by omega⟩ hL dL_law_2222 ?_
  refine V_callVA (As := [.int (zI (sc xs (i + 1)))]) (b := a 0) (q0 := 0) (ci := 10) (fs := mF a σ) (T := TX11) (N := 30) rfl rfl (wc := mW a σ) (wr := fm (cO en c2 κ2) ++ [(o, lE 1 g2)]) rfl hK (c_leastSlantModulus (EX.stb en) a σ (sc xs (i + 1)) P ⟨hM, hP, sc_R _ _⟩) mokX11_leastSlantModulus w1439 w1440 w1441 ⟨Nat.le_of_ble_eq_true rfl, Nat.le_of_ble_eq_true rfl⟩ rfl (Nat.le_of_ble_eq_true rfl) ⟨rm_k (c := 1) hk (Nat.le_of_ble_eq_true rfl), rm_n (c := 6) hn (Nat.le_of_ble_eq_true rfl)⟩ dL_law_2223 (fun v w h => ?_)
  obtain ⟨σ2, rfl, rfl, et, hP2⟩ := h
  show V K sL_law (k + 1) (n + 6) (wL3 en c2 a κ2 σ2 o g2) [some (.ref b), some (.ref (c 0)), some (.ref (a 0)), some (.ref o), some (.int (zI i)), some (.int (zI ((sp_leastSlantModulus P (sc xs (i + 1))).1))), none] [.int (zI ((sp_leastSlantModulus P (sc xs (i + 1))).2.1))] 2226
  refine V_istore (L' := [some (.ref b), some (.ref (c 0)), some (.ref (a 0)), some (.ref o), some (.int (zI i)), some (.int (zI ((sp_leastSlantModulus P (sc xs (i + 1))).1))), some (.int (zI ((sp_leastSlantModulus P (sc xs (i + 1))).2.1)))]) dL_law_2226 (by decide) rfl ?_
  refine V_aload_n dL_law_2228 rfl ?_
  refine V_callVA (As := []) (b := a 0) (q0 := 0) (ci := 10) (fs := mF a σ2) (T := TX11) (N := 30) rfl rfl (wc := mW a σ2) (wr := fm (cO en c2 κ2) ++ [(o, lE 1 g2)]) rfl hK (c_thrown (EX.stb en) a σ2) mokX11_thrown w1161 w1162 w1163 ⟨Nat.le_of_ble_eq_true rfl, Nat.le_of_ble_eq_true rfl⟩ rfl (Nat.le_of_ble_eq_true rfl) ⟨rm_k (c := 1) hk (Nat.le_of_ble_eq_true rfl), rm_n (c := 6) hn (Nat.le_of_ble_eq_true rfl)⟩ dL_law_2229 (fun v w h => ?_)
  obtain ⟨rfl, rfl⟩ := h
  show V K sL_law (k + 1) (n + 6) (wL3 en c2 a κ2 σ2 o g2) [some (.ref b), some (.ref (c 0)), some (.ref (a 0)), some (.ref o), some (.int (zI i)), some (.int (zI ((sp_leastSlantModulus P (sc xs (i + 1))).1))), some (.int (zI ((sp_leastSlantModulus P (sc xs (i + 1))).2.1)))] [.int (zI (σ2 1 29))] 2232
  refine V_eqT (y := zI (sp_leastSlantModulus P (sc xs (i + 1))).1) (by rw [et]) ?_
  refine V_iload dL_law_2232 rfl ?_
  refine V_icmp_same (tgt := 2239) dL_law_2234 (by decide) ?_
  refine V_iload dL_law_2239 rfl ?_
  refine V_if_ne (tgt := 2256) dL_law_2241 (by decide) ⟨by have := hn2; omega, by have := hn2; omega⟩ (fun h1 => ?_) (fun h1 => ?_)
  · refine V_goto (tgt := 2688) dL_law_2256 (by decide) ?_
    refine V_mask (L' := [some (.ref b), some (.ref (c 0)), some (.ref (a 0)), some (.ref o), some (.int (zI i)), none, none]) [true, true, true, true, true, false, false] rfl ?_
    refine V_widen (k' := k + 8) (n' := n + 50) (by omega) (by omega) ?_
    exact hnext c2 κ2 σ2 _ g2 e0 (mi_leastSlantModulus hM) hC2 hP2
  · refine V_aload_n dL_law_2244 rfl ?_
    refine V_iconst dL_law_2245 ?_
    refine V_lald (N := 1) _ (wL3_out en c2 a κ2 σ2 o g2) ⟨by decide, by decide⟩ (by decide) dL_law_2246 ?_
    refine V_iload dL_law_2247 rfl ?_
    refine V_i2l dL_law_2249 ?_
    refine V_lcmp dL_law_2250 ?_
    refine V_eqT (y := zI 0) (lg_eq (hz2 h1).1) ?_
    refine V_if_eq (tgt := 2256) dL_law_2251 (by decide) ⟨by omega, by omega⟩ (fun _ => ?_) (fun h => absurd rfl h)
    refine V_goto (tgt := 2688) dL_law_2256 (by decide) ?_
    refine V_mask (L' := [some (.ref b), some (.ref (c 0)), some (.ref (a 0)), some (.ref o), some (.int (zI i)), none, none]) [true, true, true, true, true, false, false] rfl ?_
    refine V_widen (k' := k + 8) (n' := n + 50) (by omega) (by omega) ?_
    exact hnext c2 κ2 σ2 _ g2 e0 (mi_leastSlantModulus hM) hC2 hP2
set_option maxRecDepth 100000 in
set_option maxHeartbeats 4000000 in
theorem law_leastSlant {K : KT} {en c a : Nat → Nat} {κ σ P : St} {o b Ln k n : Nat} {xs : Nat → Int32} {g : Nat → Int64} {i : Int} (hK : evK K = EX en) (hX : scK K b Ln xs) (hL : Ln ≤ 3072) (hi : 0 ≤ i ∧ i + 6 ≤ (Ln : Int)) (hk : k + 8 ≤ 601024) (hn : n + 50 ≤ 7293034) (hM : MI P) (hC : CWP P κ) (hP : PR P σ)
    (hnext : ∀ (c2 : Nat → Nat) (κ2 σ2 P2 : St) (g2 : Nat → Int64), c2 0 = c 0 → MI P2 → CWP P2 κ2 → PR P2 σ2 → V K sL_law (k + 8) (n + 50) (wL3 en c2 a κ2 σ2 o g2) [some (.ref b), some (.ref (c 0)), some (.ref (a 0)), some (.ref o), some (.int (zI i)), none, none] [] 2688) : V K sL_law k n (wL3 en c a κ σ o g) [some (.ref b), some (.ref (c 0)), some (.ref (a 0)), some (.ref o), some (.int (zI i)), none, none] [] 2259 := by
  refine V_aload_n dL_law_2259 rfl ?_
  refine V_aload_n dL_law_2260 rfl ?_
  refine V_iload dL_law_2261 rfl ?_
  refine V_iconst dL_law_2263 ?_
  refine V_iadd dL_law_2264 ?_
  refine V_sld hX ⟨by omega, by omega⟩ hL dL_law_2265 ?_
  refine V_aload_n dL_law_2266 rfl ?_
  refine V_callSBH (As := [.ref (c 0), .int (zI (sc xs (i + 1))), .ref o]) (wr := mW a σ) (wc := fm (cO en c κ) ++ [(o, lE 1 g)]) rfl hK (l_leastSlant en c κ P o g (sc xs (i + 1)) hM hC (sc_R _ _)) mokL_leastSlant w998 w999 ⟨Nat.le_of_ble_eq_true rfl, Nat.le_of_ble_eq_true rfl⟩ rfl (Nat.le_of_ble_eq_true rfl) ⟨rm_k hk (Nat.le_of_ble_eq_true rfl), rm_n hn (Nat.le_of_ble_eq_true rfl)⟩ dL_law_2267 (fun v w h => ?_)
  obtain ⟨c2, κ2, g2, rfl, rfl, e0, hC2, hn2, hz2⟩ := h
  show V K sL_law (k + 1) (n + 6) (wL3 en c2 a κ2 σ o g2) [some (.ref b), some (.ref (c 0)), some (.ref (a 0)), some (.ref o), some (.int (zI i)), none, none] [.int (zI ((sp_leastSlant P (sc xs (i + 1))).1))] 2270
  refine V_istore (L' := [some (.ref b), some (.ref (c 0)), some (.ref (a 0)), some (.ref o), some (.int (zI i)), some (.int (zI ((sp_leastSlant P (sc xs (i + 1))).1))), none]) dL_law_2270 (by decide) rfl ?_
  refine V_aload_n dL_law_2272 rfl ?_
  refine V_aload_n dL_law_2273 rfl ?_
  refine V_iload dL_law_2274 rfl ?_
  refine V_iconst dL_law_2276 ?_
  refine V_iadd dL_law_2277 ?_
  refine V_sld hX ⟨by omega, by omega⟩ hL dL_law_2278 ?_
  refine V_callVA (As := [.int (zI (sc xs (i + 1)))]) (b := a 0) (q0 := 0) (ci := 10) (fs := mF a σ) (T := TX11) (N := 30) rfl rfl (wc := mW a σ) (wr := fm (cO en c2 κ2) ++ [(o, lE 1 g2)]) rfl hK (c_leastSlant (EX.stb en) a σ (sc xs (i + 1)) P ⟨hM, hP, sc_R _ _⟩) mokX11_leastSlant w1443 w1444 w1445 ⟨Nat.le_of_ble_eq_true rfl, Nat.le_of_ble_eq_true rfl⟩ rfl (Nat.le_of_ble_eq_true rfl) ⟨rm_k (c := 1) hk (Nat.le_of_ble_eq_true rfl), rm_n (c := 6) hn (Nat.le_of_ble_eq_true rfl)⟩ dL_law_2279 (fun v w h => ?_)
  obtain ⟨σ2, rfl, rfl, et, hP2⟩ := h
  show V K sL_law (k + 1) (n + 6) (wL3 en c2 a κ2 σ2 o g2) [some (.ref b), some (.ref (c 0)), some (.ref (a 0)), some (.ref o), some (.int (zI i)), some (.int (zI ((sp_leastSlant P (sc xs (i + 1))).1))), none] [.int (zI ((sp_leastSlant P (sc xs (i + 1))).2.1))] 2282
  refine V_istore (L' := [some (.ref b), some (.ref (c 0)), some (.ref (a 0)), some (.ref o), some (.int (zI i)), some (.int (zI ((sp_leastSlant P (sc xs (i + 1))).1))), some (.int (zI ((sp_leastSlant P (sc xs (i + 1))).2.1)))]) dL_law_2282 (by decide) rfl ?_
  refine V_aload_n dL_law_2284 rfl ?_
  refine V_callVA (As := []) (b := a 0) (q0 := 0) (ci := 10) (fs := mF a σ2) (T := TX11) (N := 30) rfl rfl (wc := mW a σ2) (wr := fm (cO en c2 κ2) ++ [(o, lE 1 g2)]) rfl hK (c_thrown (EX.stb en) a σ2) mokX11_thrown w1161 w1162 w1163 ⟨Nat.le_of_ble_eq_true rfl, Nat.le_of_ble_eq_true rfl⟩ rfl (Nat.le_of_ble_eq_true rfl) ⟨rm_k (c := 1) hk (Nat.le_of_ble_eq_true rfl), rm_n (c := 6) hn (Nat.le_of_ble_eq_true rfl)⟩ dL_law_2285 (fun v w h => ?_)
  obtain ⟨rfl, rfl⟩ := h
  show V K sL_law (k + 1) (n + 6) (wL3 en c2 a κ2 σ2 o g2) [some (.ref b), some (.ref (c 0)), some (.ref (a 0)), some (.ref o), some (.int (zI i)), some (.int (zI ((sp_leastSlant P (sc xs (i + 1))).1))), some (.int (zI ((sp_leastSlant P (sc xs (i + 1))).2.1)))] [.int (zI (σ2 1 29))] 2288
  refine V_eqT (y := zI (sp_leastSlant P (sc xs (i + 1))).1) (by rw [et]) ?_
  refine V_iload dL_law_2288 rfl ?_
  refine V_icmp_same (tgt := 2295) dL_law_2290 (by decide) ?_
  refine V_iload dL_law_2295 rfl ?_
  refine V_if_ne (tgt := 2312) dL_law_2297 (by decide) ⟨by have := hn2; omega, by have := hn2; omega⟩ (fun h1 => ?_) (fun h1 => ?_)
  · refine V_goto (tgt := 2688) dL_law_2312 (by decide) ?_
    refine V_mask (L' := [some (.ref b), some (.ref (c 0)), some (.ref (a 0)), some (.ref o), some (.int (zI i)), none, none]) [true, true, true, true, true, false, false] rfl ?_
    refine V_widen (k' := k + 8) (n' := n + 50) (by omega) (by omega) ?_
    exact hnext c2 κ2 σ2 _ g2 e0 (mi_leastSlant hM) hC2 hP2
  · refine V_aload_n dL_law_2300 rfl ?_
    refine V_iconst dL_law_2301 ?_
    refine V_lald (N := 1) _ (wL3_out en c2 a κ2 σ2 o g2) ⟨by decide, by decide⟩ (by decide) dL_law_2302 ?_
    refine V_iload dL_law_2303 rfl ?_
    refine V_i2l dL_law_2305 ?_
    refine V_lcmp dL_law_2306 ?_
    refine V_eqT (y := zI 0) (lg_eq (hz2 h1).1) ?_
    refine V_if_eq (tgt := 2312) dL_law_2307 (by decide) ⟨by omega, by omega⟩ (fun _ => ?_) (fun h => absurd rfl h)
    refine V_goto (tgt := 2688) dL_law_2312 (by decide) ?_
    refine V_mask (L' := [some (.ref b), some (.ref (c 0)), some (.ref (a 0)), some (.ref o), some (.int (zI i)), none, none]) [true, true, true, true, true, false, false] rfl ?_
    refine V_widen (k' := k + 8) (n' := n + 50) (by omega) (by omega) ?_
    exact hnext c2 κ2 σ2 _ g2 e0 (mi_leastSlant hM) hC2 hP2
set_option maxRecDepth 100000 in
set_option maxHeartbeats 4000000 in
theorem law_leastJointRest {K : KT} {en c a : Nat → Nat} {κ σ P : St} {o b Ln k n : Nat} {xs : Nat → Int32} {g : Nat → Int64} {i : Int} (hK : evK K = EX en) (hX : scK K b Ln xs) (hL : Ln ≤ 3072) (hi : 0 ≤ i ∧ i + 6 ≤ (Ln : Int)) (hk : k + 8 ≤ 601024) (hn : n + 50 ≤ 7293034) (hM : MI P) (hC : CWP P κ) (hP : PR P σ)
    (hnext : ∀ (c2 : Nat → Nat) (κ2 σ2 P2 : St) (g2 : Nat → Int64), c2 0 = c 0 → MI P2 → CWP P2 κ2 → PR P2 σ2 → V K sL_law (k + 8) (n + 50) (wL3 en c2 a κ2 σ2 o g2) [some (.ref b), some (.ref (c 0)), some (.ref (a 0)), some (.ref o), some (.int (zI i)), none, none] [] 2688) : V K sL_law k n (wL3 en c a κ σ o g) [some (.ref b), some (.ref (c 0)), some (.ref (a 0)), some (.ref o), some (.int (zI i)), none, none] [] 2315 := by
  refine V_aload_n dL_law_2315 rfl ?_
  refine V_aload_n dL_law_2316 rfl ?_
  refine V_iload dL_law_2317 rfl ?_
  refine V_iconst dL_law_2319 ?_
  refine V_iadd dL_law_2320 ?_
  refine V_sld hX ⟨by omega, by omega⟩ hL dL_law_2321 ?_
  refine V_aload_n dL_law_2322 rfl ?_
  refine V_iload dL_law_2323 rfl ?_
  refine V_iconst dL_law_2325 ?_
  refine V_iadd dL_law_2326 ?_
  refine V_sld hX ⟨by omega, by omega⟩ hL dL_law_2327 ?_
  refine V_aload_n dL_law_2328 rfl ?_
  refine V_callSBH (As := [.ref (c 0), .int (zI (sc xs (i + 1))), .int (zI (sc xs (i + 2))), .ref o]) (wr := mW a σ) (wc := fm (cO en c κ) ++ [(o, lE 1 g)]) rfl hK (l_leastJointRest en c κ P o g (sc xs (i + 1)) (sc xs (i + 2)) hM hC (sc_R _ _) (sc_R _ _)) mokL_leastJointRest w1005 w1006 ⟨Nat.le_of_ble_eq_true rfl, Nat.le_of_ble_eq_true rfl⟩ rfl (Nat.le_of_ble_eq_true rfl) ⟨rm_k hk (Nat.le_of_ble_eq_true rfl), rm_n hn (Nat.le_of_ble_eq_true rfl)⟩ dL_law_2329 (fun v w h => ?_)
  obtain ⟨c2, κ2, g2, rfl, rfl, e0, hC2, hn2, hz2⟩ := h
  show V K sL_law (k + 2) (n + 12) (wL3 en c2 a κ2 σ o g2) [some (.ref b), some (.ref (c 0)), some (.ref (a 0)), some (.ref o), some (.int (zI i)), none, none] [.int (zI ((sp_leastJointRest P (sc xs (i + 1)) (sc xs (i + 2))).1))] 2332
  refine V_istore (L' := [some (.ref b), some (.ref (c 0)), some (.ref (a 0)), some (.ref o), some (.int (zI i)), some (.int (zI ((sp_leastJointRest P (sc xs (i + 1)) (sc xs (i + 2))).1))), none]) dL_law_2332 (by decide) rfl ?_
  refine V_aload_n dL_law_2334 rfl ?_
  refine V_aload_n dL_law_2335 rfl ?_
  refine V_iload dL_law_2336 rfl ?_
  refine V_iconst dL_law_2338 ?_
  refine V_iadd dL_law_2339 ?_
  refine V_sld hX ⟨by omega, by omega⟩ hL dL_law_2340 ?_
  refine V_aload_n dL_law_2341 rfl ?_
  refine V_iload dL_law_2342 rfl ?_
  refine V_iconst dL_law_2344 ?_
  refine V_iadd dL_law_2345 ?_
  refine V_sld hX ⟨by omega, by omega⟩ hL dL_law_2346 ?_
  refine V_callVA (As := [.int (zI (sc xs (i + 1))), .int (zI (sc xs (i + 2)))]) (b := a 0) (q0 := 0) (ci := 10) (fs := mF a σ) (T := TX11) (N := 30) rfl rfl (wc := mW a σ) (wr := fm (cO en c2 κ2) ++ [(o, lE 1 g2)]) rfl hK (c_leastJointRest (EX.stb en) a σ (sc xs (i + 1)) (sc xs (i + 2)) P ⟨hM, hP, sc_R _ _, sc_R _ _⟩) mokX11_leastJointRest w1447 w1448 w1449 ⟨Nat.le_of_ble_eq_true rfl, Nat.le_of_ble_eq_true rfl⟩ rfl (Nat.le_of_ble_eq_true rfl) ⟨rm_k (c := 2) hk (Nat.le_of_ble_eq_true rfl), rm_n (c := 12) hn (Nat.le_of_ble_eq_true rfl)⟩ dL_law_2347 (fun v w h => ?_)
  obtain ⟨σ2, rfl, rfl, et, hP2⟩ := h
  show V K sL_law (k + 2) (n + 12) (wL3 en c2 a κ2 σ2 o g2) [some (.ref b), some (.ref (c 0)), some (.ref (a 0)), some (.ref o), some (.int (zI i)), some (.int (zI ((sp_leastJointRest P (sc xs (i + 1)) (sc xs (i + 2))).1))), none] [.int (zI ((sp_leastJointRest P (sc xs (i + 1)) (sc xs (i + 2))).2.1))] 2350
  refine V_istore (L' := [some (.ref b), some (.ref (c 0)), some (.ref (a 0)), some (.ref o), some (.int (zI i)), some (.int (zI ((sp_leastJointRest P (sc xs (i + 1)) (sc xs (i + 2))).1))), some (.int (zI ((sp_leastJointRest P (sc xs (i + 1)) (sc xs (i + 2))).2.1)))]) dL_law_2350 (by decide) rfl ?_
  refine V_aload_n dL_law_2352 rfl ?_
  refine V_callVA (As := []) (b := a 0) (q0 := 0) (ci := 10) (fs := mF a σ2) (T := TX11) (N := 30) rfl rfl (wc := mW a σ2) (wr := fm (cO en c2 κ2) ++ [(o, lE 1 g2)]) rfl hK (c_thrown (EX.stb en) a σ2) mokX11_thrown w1161 w1162 w1163 ⟨Nat.le_of_ble_eq_true rfl, Nat.le_of_ble_eq_true rfl⟩ rfl (Nat.le_of_ble_eq_true rfl) ⟨rm_k (c := 2) hk (Nat.le_of_ble_eq_true rfl), rm_n (c := 12) hn (Nat.le_of_ble_eq_true rfl)⟩ dL_law_2353 (fun v w h => ?_)
  obtain ⟨rfl, rfl⟩ := h
  show V K sL_law (k + 2) (n + 12) (wL3 en c2 a κ2 σ2 o g2) [some (.ref b), some (.ref (c 0)), some (.ref (a 0)), some (.ref o), some (.int (zI i)), some (.int (zI ((sp_leastJointRest P (sc xs (i + 1)) (sc xs (i + 2))).1))), some (.int (zI ((sp_leastJointRest P (sc xs (i + 1)) (sc xs (i + 2))).2.1)))] [.int (zI (σ2 1 29))] 2356
  refine V_eqT (y := zI (sp_leastJointRest P (sc xs (i + 1)) (sc xs (i + 2))).1) (by rw [et]) ?_
  refine V_iload dL_law_2356 rfl ?_
  refine V_icmp_same (tgt := 2363) dL_law_2358 (by decide) ?_
  refine V_iload dL_law_2363 rfl ?_
  refine V_if_ne (tgt := 2380) dL_law_2365 (by decide) ⟨by have := hn2; omega, by have := hn2; omega⟩ (fun h1 => ?_) (fun h1 => ?_)
  · refine V_goto (tgt := 2688) dL_law_2380 (by decide) ?_
    refine V_mask (L' := [some (.ref b), some (.ref (c 0)), some (.ref (a 0)), some (.ref o), some (.int (zI i)), none, none]) [true, true, true, true, true, false, false] rfl ?_
    refine V_widen (k' := k + 8) (n' := n + 50) (by omega) (by omega) ?_
    exact hnext c2 κ2 σ2 _ g2 e0 (mi_leastJointRest hM) hC2 hP2
  · refine V_aload_n dL_law_2368 rfl ?_
    refine V_iconst dL_law_2369 ?_
    refine V_lald (N := 1) _ (wL3_out en c2 a κ2 σ2 o g2) ⟨by decide, by decide⟩ (by decide) dL_law_2370 ?_
    refine V_iload dL_law_2371 rfl ?_
    refine V_i2l dL_law_2373 ?_
    refine V_lcmp dL_law_2374 ?_
    refine V_eqT (y := zI 0) (lg_eq (hz2 h1).1) ?_
    refine V_if_eq (tgt := 2380) dL_law_2375 (by decide) ⟨by omega, by omega⟩ (fun _ => ?_) (fun h => absurd rfl h)
    refine V_goto (tgt := 2688) dL_law_2380 (by decide) ?_
    refine V_mask (L' := [some (.ref b), some (.ref (c 0)), some (.ref (a 0)), some (.ref o), some (.int (zI i)), none, none]) [true, true, true, true, true, false, false] rfl ?_
    refine V_widen (k' := k + 8) (n' := n + 50) (by omega) (by omega) ?_
    exact hnext c2 κ2 σ2 _ g2 e0 (mi_leastJointRest hM) hC2 hP2
set_option maxRecDepth 100000 in
set_option maxHeartbeats 4000000 in
theorem law_valueOf {K : KT} {en c a : Nat → Nat} {κ σ P : St} {o b Ln k n : Nat} {xs : Nat → Int32} {g : Nat → Int64} {i : Int} (hK : evK K = EX en) (hX : scK K b Ln xs) (hL : Ln ≤ 3072) (hi : 0 ≤ i ∧ i + 6 ≤ (Ln : Int)) (hk : k + 8 ≤ 601024) (hn : n + 50 ≤ 7293034) (hM : MI P) (hC : CWP P κ) (hP : PR P σ)
    (hnext : ∀ (c2 : Nat → Nat) (κ2 σ2 P2 : St) (g2 : Nat → Int64), c2 0 = c 0 → MI P2 → CWP P2 κ2 → PR P2 σ2 → V K sL_law (k + 8) (n + 50) (wL3 en c2 a κ2 σ2 o g2) [some (.ref b), some (.ref (c 0)), some (.ref (a 0)), some (.ref o), some (.int (zI i)), none, none] [] 2688) : V K sL_law k n (wL3 en c a κ σ o g) [some (.ref b), some (.ref (c 0)), some (.ref (a 0)), some (.ref o), some (.int (zI i)), none, none] [] 2383 := by
  refine V_aload_n dL_law_2383 rfl ?_
  refine V_aload_n dL_law_2384 rfl ?_
  refine V_iload dL_law_2385 rfl ?_
  refine V_iconst dL_law_2387 ?_
  refine V_iadd dL_law_2388 ?_
  refine V_sld hX ⟨by omega, by omega⟩ hL dL_law_2389 ?_
  refine V_aload_n dL_law_2390 rfl ?_
  refine V_iload dL_law_2391 rfl ?_
  refine V_iconst dL_law_2393 ?_
  refine V_iadd dL_law_2394 ?_
  refine V_sld hX ⟨by omega, by omega⟩ hL dL_law_2395 ?_
  refine V_aload_n dL_law_2396 rfl ?_
  refine V_iload dL_law_2397 rfl ?_
  refine V_iconst dL_law_2399 ?_
  refine V_iadd dL_law_2400 ?_
  refine V_sld hX ⟨by omega, by omega⟩ hL dL_law_2401 ?_
  refine V_aload_n dL_law_2402 rfl ?_
  refine V_callSBH (As := [.ref (c 0), .int (zI (sc xs (i + 1))), .int (zI (sc xs (i + 2))), .int (zI (sc xs (i + 3))), .ref o]) (wr := mW a σ) (wc := fm (cO en c κ) ++ [(o, lE 1 g)]) rfl hK (l_valueOf en c κ P o g (sc xs (i + 1)) (sc xs (i + 2)) (sc xs (i + 3)) hM hC (sc_R _ _) (sc_R _ _) (sc_R _ _)) mokL_valueOf w1012 w1013 ⟨Nat.le_of_ble_eq_true rfl, Nat.le_of_ble_eq_true rfl⟩ rfl (Nat.le_of_ble_eq_true rfl) ⟨rm_k hk (Nat.le_of_ble_eq_true rfl), rm_n hn (Nat.le_of_ble_eq_true rfl)⟩ dL_law_2403 (fun v w h => ?_)
  obtain ⟨c2, κ2, g2, rfl, rfl, e0, hC2, hn2, hz2⟩ := h
  show V K sL_law (k + 2) (n + 12) (wL3 en c2 a κ2 σ o g2) [some (.ref b), some (.ref (c 0)), some (.ref (a 0)), some (.ref o), some (.int (zI i)), none, none] [.int (zI ((sp_valueOf P (sc xs (i + 1)) (sc xs (i + 2)) (sc xs (i + 3))).1))] 2406
  refine V_istore (L' := [some (.ref b), some (.ref (c 0)), some (.ref (a 0)), some (.ref o), some (.int (zI i)), some (.int (zI ((sp_valueOf P (sc xs (i + 1)) (sc xs (i + 2)) (sc xs (i + 3))).1))), none]) dL_law_2406 (by decide) rfl ?_
  refine V_aload_n dL_law_2408 rfl ?_
  refine V_aload_n dL_law_2409 rfl ?_
  refine V_iload dL_law_2410 rfl ?_
  refine V_iconst dL_law_2412 ?_
  refine V_iadd dL_law_2413 ?_
  refine V_sld hX ⟨by omega, by omega⟩ hL dL_law_2414 ?_
  refine V_aload_n dL_law_2415 rfl ?_
  refine V_iload dL_law_2416 rfl ?_
  refine V_iconst dL_law_2418 ?_
  refine V_iadd dL_law_2419 ?_
  refine V_sld hX ⟨by omega, by omega⟩ hL dL_law_2420 ?_
  refine V_aload_n dL_law_2421 rfl ?_
  refine V_iload dL_law_2422 rfl ?_
  refine V_iconst dL_law_2424 ?_
  refine V_iadd dL_law_2425 ?_
  refine V_sld hX ⟨by omega, by omega⟩ hL dL_law_2426 ?_
  refine V_callVA (As := [.int (zI (sc xs (i + 1))), .int (zI (sc xs (i + 2))), .int (zI (sc xs (i + 3)))]) (b := a 0) (q0 := 0) (ci := 10) (fs := mF a σ) (T := TX11) (N := 30) rfl rfl (wc := mW a σ) (wr := fm (cO en c2 κ2) ++ [(o, lE 1 g2)]) rfl hK (c_valueOf (EX.stb en) a σ (sc xs (i + 1)) (sc xs (i + 2)) (sc xs (i + 3)) P ⟨hM, hP, sc_R _ _, sc_R _ _, sc_R _ _⟩) mokX11_valueOf w1459 w1460 w1461 ⟨Nat.le_of_ble_eq_true rfl, Nat.le_of_ble_eq_true rfl⟩ rfl (Nat.le_of_ble_eq_true rfl) ⟨rm_k (c := 2) hk (Nat.le_of_ble_eq_true rfl), rm_n (c := 12) hn (Nat.le_of_ble_eq_true rfl)⟩ dL_law_2427 (fun v w h => ?_)
  obtain ⟨σ2, rfl, rfl, et, hP2⟩ := h
  show V K sL_law (k + 2) (n + 12) (wL3 en c2 a κ2 σ2 o g2) [some (.ref b), some (.ref (c 0)), some (.ref (a 0)), some (.ref o), some (.int (zI i)), some (.int (zI ((sp_valueOf P (sc xs (i + 1)) (sc xs (i + 2)) (sc xs (i + 3))).1))), none] [.int (zI ((sp_valueOf P (sc xs (i + 1)) (sc xs (i + 2)) (sc xs (i + 3))).2.1))] 2430
  refine V_istore (L' := [some (.ref b), some (.ref (c 0)), some (.ref (a 0)), some (.ref o), some (.int (zI i)), some (.int (zI ((sp_valueOf P (sc xs (i + 1)) (sc xs (i + 2)) (sc xs (i + 3))).1))), some (.int (zI ((sp_valueOf P (sc xs (i + 1)) (sc xs (i + 2)) (sc xs (i + 3))).2.1)))]) dL_law_2430 (by decide) rfl ?_
  refine V_aload_n dL_law_2432 rfl ?_
  refine V_callVA (As := []) (b := a 0) (q0 := 0) (ci := 10) (fs := mF a σ2) (T := TX11) (N := 30) rfl rfl (wc := mW a σ2) (wr := fm (cO en c2 κ2) ++ [(o, lE 1 g2)]) rfl hK (c_thrown (EX.stb en) a σ2) mokX11_thrown w1161 w1162 w1163 ⟨Nat.le_of_ble_eq_true rfl, Nat.le_of_ble_eq_true rfl⟩ rfl (Nat.le_of_ble_eq_true rfl) ⟨rm_k (c := 2) hk (Nat.le_of_ble_eq_true rfl), rm_n (c := 12) hn (Nat.le_of_ble_eq_true rfl)⟩ dL_law_2433 (fun v w h => ?_)
  obtain ⟨rfl, rfl⟩ := h
  show V K sL_law (k + 2) (n + 12) (wL3 en c2 a κ2 σ2 o g2) [some (.ref b), some (.ref (c 0)), some (.ref (a 0)), some (.ref o), some (.int (zI i)), some (.int (zI ((sp_valueOf P (sc xs (i + 1)) (sc xs (i + 2)) (sc xs (i + 3))).1))), some (.int (zI ((sp_valueOf P (sc xs (i + 1)) (sc xs (i + 2)) (sc xs (i + 3))).2.1)))] [.int (zI (σ2 1 29))] 2436
  refine V_eqT (y := zI (sp_valueOf P (sc xs (i + 1)) (sc xs (i + 2)) (sc xs (i + 3))).1) (by rw [et]) ?_
  refine V_iload dL_law_2436 rfl ?_
  refine V_icmp_same (tgt := 2443) dL_law_2438 (by decide) ?_
  refine V_iload dL_law_2443 rfl ?_
  refine V_if_ne (tgt := 2460) dL_law_2445 (by decide) ⟨by have := hn2; omega, by have := hn2; omega⟩ (fun h1 => ?_) (fun h1 => ?_)
  · refine V_goto (tgt := 2688) dL_law_2460 (by decide) ?_
    refine V_mask (L' := [some (.ref b), some (.ref (c 0)), some (.ref (a 0)), some (.ref o), some (.int (zI i)), none, none]) [true, true, true, true, true, false, false] rfl ?_
    refine V_widen (k' := k + 8) (n' := n + 50) (by omega) (by omega) ?_
    exact hnext c2 κ2 σ2 _ g2 e0 (mi_valueOf hM) hC2 hP2
  · refine V_aload_n dL_law_2448 rfl ?_
    refine V_iconst dL_law_2449 ?_
    refine V_lald (N := 1) _ (wL3_out en c2 a κ2 σ2 o g2) ⟨by decide, by decide⟩ (by decide) dL_law_2450 ?_
    refine V_iload dL_law_2451 rfl ?_
    refine V_i2l dL_law_2453 ?_
    refine V_lcmp dL_law_2454 ?_
    refine V_eqT (y := zI 0) (lg_eq (hz2 h1).1) ?_
    refine V_if_eq (tgt := 2460) dL_law_2455 (by decide) ⟨by omega, by omega⟩ (fun _ => ?_) (fun h => absurd rfl h)
    refine V_goto (tgt := 2688) dL_law_2460 (by decide) ?_
    refine V_mask (L' := [some (.ref b), some (.ref (c 0)), some (.ref (a 0)), some (.ref o), some (.int (zI i)), none, none]) [true, true, true, true, true, false, false] rfl ?_
    refine V_widen (k' := k + 8) (n' := n + 50) (by omega) (by omega) ?_
    exact hnext c2 κ2 σ2 _ g2 e0 (mi_valueOf hM) hC2 hP2
set_option maxRecDepth 100000 in
set_option maxHeartbeats 4000000 in
theorem law_contractedValueOf {K : KT} {en c a : Nat → Nat} {κ σ P : St} {o b Ln k n : Nat} {xs : Nat → Int32} {g : Nat → Int64} {i : Int} (hK : evK K = EX en) (hX : scK K b Ln xs) (hL : Ln ≤ 3072) (hi : 0 ≤ i ∧ i + 6 ≤ (Ln : Int)) (hk : k + 8 ≤ 601024) (hn : n + 50 ≤ 7293034) (hM : MI P) (hC : CWP P κ) (hP : PR P σ)
    (hnext : ∀ (c2 : Nat → Nat) (κ2 σ2 P2 : St) (g2 : Nat → Int64), c2 0 = c 0 → MI P2 → CWP P2 κ2 → PR P2 σ2 → V K sL_law (k + 8) (n + 50) (wL3 en c2 a κ2 σ2 o g2) [some (.ref b), some (.ref (c 0)), some (.ref (a 0)), some (.ref o), some (.int (zI i)), none, none] [] 2688) : V K sL_law k n (wL3 en c a κ σ o g) [some (.ref b), some (.ref (c 0)), some (.ref (a 0)), some (.ref o), some (.int (zI i)), none, none] [] 2463 := by
  refine V_aload_n dL_law_2463 rfl ?_
  refine V_aload_n dL_law_2464 rfl ?_
  refine V_iload dL_law_2465 rfl ?_
  refine V_iconst dL_law_2467 ?_
  refine V_iadd dL_law_2468 ?_
  refine V_sld hX ⟨by omega, by omega⟩ hL dL_law_2469 ?_
  refine V_aload_n dL_law_2470 rfl ?_
  refine V_iload dL_law_2471 rfl ?_
  refine V_iconst dL_law_2473 ?_
  refine V_iadd dL_law_2474 ?_
  refine V_sld hX ⟨by omega, by omega⟩ hL dL_law_2475 ?_
  refine V_aload_n dL_law_2476 rfl ?_
  refine V_iload dL_law_2477 rfl ?_
  refine V_iconst dL_law_2479 ?_
  refine V_iadd dL_law_2480 ?_
  refine V_sld hX ⟨by omega, by omega⟩ hL dL_law_2481 ?_
  refine V_aload_n dL_law_2482 rfl ?_
  refine V_callSBH (As := [.ref (c 0), .int (zI (sc xs (i + 1))), .int (zI (sc xs (i + 2))), .int (zI (sc xs (i + 3))), .ref o]) (wr := mW a σ) (wc := fm (cO en c κ) ++ [(o, lE 1 g)]) rfl hK (l_contractedValueOf en c κ P o g (sc xs (i + 1)) (sc xs (i + 2)) (sc xs (i + 3)) hM hC (sc_R _ _) (sc_R _ _) (sc_R _ _)) mokL_contractedValueOf w1023 w1024 ⟨Nat.le_of_ble_eq_true rfl, Nat.le_of_ble_eq_true rfl⟩ rfl (Nat.le_of_ble_eq_true rfl) ⟨rm_k hk (Nat.le_of_ble_eq_true rfl), rm_n hn (Nat.le_of_ble_eq_true rfl)⟩ dL_law_2483 (fun v w h => ?_)
  obtain ⟨c2, κ2, g2, rfl, rfl, e0, hC2, hn2, hz2⟩ := h
  show V K sL_law (k + 2) (n + 12) (wL3 en c2 a κ2 σ o g2) [some (.ref b), some (.ref (c 0)), some (.ref (a 0)), some (.ref o), some (.int (zI i)), none, none] [.int (zI ((sp_contractedValueOf P (sc xs (i + 1)) (sc xs (i + 2)) (sc xs (i + 3))).1))] 2486
  refine V_istore (L' := [some (.ref b), some (.ref (c 0)), some (.ref (a 0)), some (.ref o), some (.int (zI i)), some (.int (zI ((sp_contractedValueOf P (sc xs (i + 1)) (sc xs (i + 2)) (sc xs (i + 3))).1))), none]) dL_law_2486 (by decide) rfl ?_
  refine V_aload_n dL_law_2488 rfl ?_
  refine V_aload_n dL_law_2489 rfl ?_
  refine V_iload dL_law_2490 rfl ?_
  refine V_iconst dL_law_2492 ?_
  refine V_iadd dL_law_2493 ?_
  refine V_sld hX ⟨by omega, by omega⟩ hL dL_law_2494 ?_
  refine V_aload_n dL_law_2495 rfl ?_
  refine V_iload dL_law_2496 rfl ?_
  refine V_iconst dL_law_2498 ?_
  refine V_iadd dL_law_2499 ?_
  refine V_sld hX ⟨by omega, by omega⟩ hL dL_law_2500 ?_
  refine V_aload_n dL_law_2501 rfl ?_
  refine V_iload dL_law_2502 rfl ?_
  refine V_iconst dL_law_2504 ?_
  refine V_iadd dL_law_2505 ?_
  refine V_sld hX ⟨by omega, by omega⟩ hL dL_law_2506 ?_
  refine V_callVA (As := [.int (zI (sc xs (i + 1))), .int (zI (sc xs (i + 2))), .int (zI (sc xs (i + 3)))]) (b := a 0) (q0 := 0) (ci := 10) (fs := mF a σ) (T := TX11) (N := 30) rfl rfl (wc := mW a σ) (wr := fm (cO en c2 κ2) ++ [(o, lE 1 g2)]) rfl hK (c_contractedValueOf (EX.stb en) a σ (sc xs (i + 1)) (sc xs (i + 2)) (sc xs (i + 3)) P ⟨hM, hP, sc_R _ _, sc_R _ _, sc_R _ _⟩) mokX11_contractedValueOf w1470 w1471 w1472 ⟨Nat.le_of_ble_eq_true rfl, Nat.le_of_ble_eq_true rfl⟩ rfl (Nat.le_of_ble_eq_true rfl) ⟨rm_k (c := 2) hk (Nat.le_of_ble_eq_true rfl), rm_n (c := 12) hn (Nat.le_of_ble_eq_true rfl)⟩ dL_law_2507 (fun v w h => ?_)
  obtain ⟨σ2, rfl, rfl, et, hP2⟩ := h
  show V K sL_law (k + 2) (n + 12) (wL3 en c2 a κ2 σ2 o g2) [some (.ref b), some (.ref (c 0)), some (.ref (a 0)), some (.ref o), some (.int (zI i)), some (.int (zI ((sp_contractedValueOf P (sc xs (i + 1)) (sc xs (i + 2)) (sc xs (i + 3))).1))), none] [.int (zI ((sp_contractedValueOf P (sc xs (i + 1)) (sc xs (i + 2)) (sc xs (i + 3))).2.1))] 2510
  refine V_istore (L' := [some (.ref b), some (.ref (c 0)), some (.ref (a 0)), some (.ref o), some (.int (zI i)), some (.int (zI ((sp_contractedValueOf P (sc xs (i + 1)) (sc xs (i + 2)) (sc xs (i + 3))).1))), some (.int (zI ((sp_contractedValueOf P (sc xs (i + 1)) (sc xs (i + 2)) (sc xs (i + 3))).2.1)))]) dL_law_2510 (by decide) rfl ?_
  refine V_aload_n dL_law_2512 rfl ?_
  refine V_callVA (As := []) (b := a 0) (q0 := 0) (ci := 10) (fs := mF a σ2) (T := TX11) (N := 30) rfl rfl (wc := mW a σ2) (wr := fm (cO en c2 κ2) ++ [(o, lE 1 g2)]) rfl hK (c_thrown (EX.stb en) a σ2) mokX11_thrown w1161 w1162 w1163 ⟨Nat.le_of_ble_eq_true rfl, Nat.le_of_ble_eq_true rfl⟩ rfl (Nat.le_of_ble_eq_true rfl) ⟨rm_k (c := 2) hk (Nat.le_of_ble_eq_true rfl), rm_n (c := 12) hn (Nat.le_of_ble_eq_true rfl)⟩ dL_law_2513 (fun v w h => ?_)
  obtain ⟨rfl, rfl⟩ := h
  show V K sL_law (k + 2) (n + 12) (wL3 en c2 a κ2 σ2 o g2) [some (.ref b), some (.ref (c 0)), some (.ref (a 0)), some (.ref o), some (.int (zI i)), some (.int (zI ((sp_contractedValueOf P (sc xs (i + 1)) (sc xs (i + 2)) (sc xs (i + 3))).1))), some (.int (zI ((sp_contractedValueOf P (sc xs (i + 1)) (sc xs (i + 2)) (sc xs (i + 3))).2.1)))] [.int (zI (σ2 1 29))] 2516
  refine V_eqT (y := zI (sp_contractedValueOf P (sc xs (i + 1)) (sc xs (i + 2)) (sc xs (i + 3))).1) (by rw [et]) ?_
  refine V_iload dL_law_2516 rfl ?_
  refine V_icmp_same (tgt := 2523) dL_law_2518 (by decide) ?_
  refine V_iload dL_law_2523 rfl ?_
  refine V_if_ne (tgt := 2540) dL_law_2525 (by decide) ⟨by have := hn2; omega, by have := hn2; omega⟩ (fun h1 => ?_) (fun h1 => ?_)
  · refine V_goto (tgt := 2688) dL_law_2540 (by decide) ?_
    refine V_mask (L' := [some (.ref b), some (.ref (c 0)), some (.ref (a 0)), some (.ref o), some (.int (zI i)), none, none]) [true, true, true, true, true, false, false] rfl ?_
    refine V_widen (k' := k + 8) (n' := n + 50) (by omega) (by omega) ?_
    exact hnext c2 κ2 σ2 _ g2 e0 (mi_contractedValueOf hM) hC2 hP2
  · refine V_aload_n dL_law_2528 rfl ?_
    refine V_iconst dL_law_2529 ?_
    refine V_lald (N := 1) _ (wL3_out en c2 a κ2 σ2 o g2) ⟨by decide, by decide⟩ (by decide) dL_law_2530 ?_
    refine V_iload dL_law_2531 rfl ?_
    refine V_i2l dL_law_2533 ?_
    refine V_lcmp dL_law_2534 ?_
    refine V_eqT (y := zI 0) (lg_eq (hz2 h1).1) ?_
    refine V_if_eq (tgt := 2540) dL_law_2535 (by decide) ⟨by omega, by omega⟩ (fun _ => ?_) (fun h => absurd rfl h)
    refine V_goto (tgt := 2688) dL_law_2540 (by decide) ?_
    refine V_mask (L' := [some (.ref b), some (.ref (c 0)), some (.ref (a 0)), some (.ref o), some (.int (zI i)), none, none]) [true, true, true, true, true, false, false] rfl ?_
    refine V_widen (k' := k + 8) (n' := n + 50) (by omega) (by omega) ?_
    exact hnext c2 κ2 σ2 _ g2 e0 (mi_contractedValueOf hM) hC2 hP2
set_option maxRecDepth 100000 in
set_option maxHeartbeats 4000000 in
theorem law_firstWrongStep {K : KT} {en c a : Nat → Nat} {κ σ P : St} {o b Ln k n : Nat} {xs : Nat → Int32} {g : Nat → Int64} {i : Int} (hK : evK K = EX en) (hX : scK K b Ln xs) (hL : Ln ≤ 3072) (hi : 0 ≤ i ∧ i + 6 ≤ (Ln : Int)) (hk : k + 8 ≤ 601024) (hn : n + 50 ≤ 7293034) (hM : MI P) (hC : CWP P κ) (hP : PR P σ)
    (hnext : ∀ (c2 : Nat → Nat) (κ2 σ2 P2 : St) (g2 : Nat → Int64), c2 0 = c 0 → MI P2 → CWP P2 κ2 → PR P2 σ2 → V K sL_law (k + 8) (n + 50) (wL3 en c2 a κ2 σ2 o g2) [some (.ref b), some (.ref (c 0)), some (.ref (a 0)), some (.ref o), some (.int (zI i)), none, none] [] 2688) : V K sL_law k n (wL3 en c a κ σ o g) [some (.ref b), some (.ref (c 0)), some (.ref (a 0)), some (.ref o), some (.int (zI i)), none, none] [] 2543 := by
  refine V_aload_n dL_law_2543 rfl ?_
  refine V_Perm (law_P1 _ _ _) ?_
  refine V_callVB (As := []) (b := c 0) (ci := 9) (fs := cwF c κ) (T := TX10) (N := 9) (wL3_cw en c a κ σ o g) rfl (wr := mW a σ ++ [(o, lE 1 g)]) (wc := fm (cO en c κ)) rfl hK (MC.env EX.en (k_firstWrongStep en c κ P ⟨hM, hC.1, hC.2.1, hC.2.2⟩)) mokX10_firstWrongStep w471 w472 w473 ⟨Nat.le_of_ble_eq_true rfl, Nat.le_of_ble_eq_true rfl⟩ rfl (Nat.le_of_ble_eq_true rfl) ⟨rm_k (c := 0) hk (Nat.le_of_ble_eq_true rfl), rm_n (c := 0) hn (Nat.le_of_ble_eq_true rfl)⟩ dL_law_2544 (fun v w h => ?_)
  obtain ⟨κ2, rfl, rfl, e1, hC2⟩ := h
  refine V_Perm (law_P2 _ _ _) ?_
  show V K sL_law (k + 0) (n + 0) (wL3 en c a κ2 σ o g) [some (.ref b), some (.ref (c 0)), some (.ref (a 0)), some (.ref o), some (.int (zI i)), none, none] [.int (zI ((sp_firstWrongStep P).2.1))] 2547
  refine V_aload_n dL_law_2547 rfl ?_
  refine V_callVA (As := []) (b := a 0) (q0 := 0) (ci := 10) (fs := mF a σ) (T := TX11) (N := 30) rfl rfl (wc := mW a σ) (wr := fm (cO en c κ2) ++ [(o, lE 1 g)]) rfl hK (c_firstWrongStep (EX.stb en) a σ P ⟨hM, hP⟩) mokX11_firstWrongStep w1474 w1475 w1476 ⟨Nat.le_of_ble_eq_true rfl, Nat.le_of_ble_eq_true rfl⟩ rfl (Nat.le_of_ble_eq_true rfl) ⟨rm_k (c := 0) hk (Nat.le_of_ble_eq_true rfl), rm_n (c := 0) hn (Nat.le_of_ble_eq_true rfl)⟩ dL_law_2548 (fun v w h => ?_)
  obtain ⟨σ2, rfl, rfl, et, hP2⟩ := h
  show V K sL_law (k + 0) (n + 0) (wL3 en c a κ2 σ2 o g) [some (.ref b), some (.ref (c 0)), some (.ref (a 0)), some (.ref o), some (.int (zI i)), none, none] [.int (zI ((sp_firstWrongStep P).2.1)), .int (zI ((sp_firstWrongStep P).2.1))] 2551
  refine V_icmp_same (tgt := 2688) dL_law_2551 (by decide) ?_
  refine V_widen (k' := k + 8) (n' := n + 50) (by omega) (by omega) ?_
  exact hnext c κ2 σ2 _ g rfl (mi_firstWrongStep hM) hC2 hP2
set_option maxRecDepth 100000 in
set_option maxHeartbeats 4000000 in
theorem law_bestRowWeight {K : KT} {en c a : Nat → Nat} {κ σ P : St} {o b Ln k n : Nat} {xs : Nat → Int32} {g : Nat → Int64} {i : Int} (hK : evK K = EX en) (hX : scK K b Ln xs) (hL : Ln ≤ 3072) (hi : 0 ≤ i ∧ i + 6 ≤ (Ln : Int)) (hk : k + 8 ≤ 601024) (hn : n + 50 ≤ 7293034) (hM : MI P) (hC : CWP P κ) (hP : PR P σ)
    (hnext : ∀ (c2 : Nat → Nat) (κ2 σ2 P2 : St) (g2 : Nat → Int64), c2 0 = c 0 → MI P2 → CWP P2 κ2 → PR P2 σ2 → V K sL_law (k + 8) (n + 50) (wL3 en c2 a κ2 σ2 o g2) [some (.ref b), some (.ref (c 0)), some (.ref (a 0)), some (.ref o), some (.int (zI i)), none, none] [] 2688) : V K sL_law k n (wL3 en c a κ σ o g) [some (.ref b), some (.ref (c 0)), some (.ref (a 0)), some (.ref o), some (.int (zI i)), none, none] [] 2556 := by
  refine V_aload_n dL_law_2556 rfl ?_
  refine V_aload_n dL_law_2557 rfl ?_
  refine V_callSBH (As := [.ref (c 0), .ref o]) (wr := mW a σ) (wc := fm (cO en c κ) ++ [(o, lE 1 g)]) rfl hK (l_bestRowWeight en c κ P o g hM hC ) mokL_bestRowWeight w1030 w1031 ⟨Nat.le_of_ble_eq_true rfl, Nat.le_of_ble_eq_true rfl⟩ rfl (Nat.le_of_ble_eq_true rfl) ⟨rm_k hk (Nat.le_of_ble_eq_true rfl), rm_n hn (Nat.le_of_ble_eq_true rfl)⟩ dL_law_2558 (fun v w h => ?_)
  obtain ⟨c2, κ2, g2, rfl, rfl, e0, hC2, hn2, hz2⟩ := h
  show V K sL_law (k + 1) (n + 6) (wL3 en c2 a κ2 σ o g2) [some (.ref b), some (.ref (c 0)), some (.ref (a 0)), some (.ref o), some (.int (zI i)), none, none] [.int (zI ((sp_bestRowWeight P).1))] 2561
  refine V_istore (L' := [some (.ref b), some (.ref (c 0)), some (.ref (a 0)), some (.ref o), some (.int (zI i)), some (.int (zI ((sp_bestRowWeight P).1))), none]) dL_law_2561 (by decide) rfl ?_
  refine V_aload_n dL_law_2563 rfl ?_
  refine V_callVA (As := []) (b := a 0) (q0 := 0) (ci := 10) (fs := mF a σ) (T := TX11) (N := 30) rfl rfl (wc := mW a σ) (wr := fm (cO en c2 κ2) ++ [(o, lE 1 g2)]) rfl hK (c_bestRowWeight (EX.stb en) a σ P ⟨hM, hP⟩) mokX11_bestRowWeight w1478 w1479 w1480 ⟨Nat.le_of_ble_eq_true rfl, Nat.le_of_ble_eq_true rfl⟩ rfl (Nat.le_of_ble_eq_true rfl) ⟨rm_k (c := 1) hk (Nat.le_of_ble_eq_true rfl), rm_n (c := 6) hn (Nat.le_of_ble_eq_true rfl)⟩ dL_law_2564 (fun v w h => ?_)
  obtain ⟨σ2, rfl, rfl, et, hP2⟩ := h
  show V K sL_law (k + 1) (n + 6) (wL3 en c2 a κ2 σ2 o g2) [some (.ref b), some (.ref (c 0)), some (.ref (a 0)), some (.ref o), some (.int (zI i)), some (.int (zI ((sp_bestRowWeight P).1))), none] [.int (zI ((sp_bestRowWeight P).2.1))] 2567
  refine V_istore (L' := [some (.ref b), some (.ref (c 0)), some (.ref (a 0)), some (.ref o), some (.int (zI i)), some (.int (zI ((sp_bestRowWeight P).1))), some (.int (zI ((sp_bestRowWeight P).2.1)))]) dL_law_2567 (by decide) rfl ?_
  refine V_aload_n dL_law_2569 rfl ?_
  refine V_callVA (As := []) (b := a 0) (q0 := 0) (ci := 10) (fs := mF a σ2) (T := TX11) (N := 30) rfl rfl (wc := mW a σ2) (wr := fm (cO en c2 κ2) ++ [(o, lE 1 g2)]) rfl hK (c_thrown (EX.stb en) a σ2) mokX11_thrown w1161 w1162 w1163 ⟨Nat.le_of_ble_eq_true rfl, Nat.le_of_ble_eq_true rfl⟩ rfl (Nat.le_of_ble_eq_true rfl) ⟨rm_k (c := 1) hk (Nat.le_of_ble_eq_true rfl), rm_n (c := 6) hn (Nat.le_of_ble_eq_true rfl)⟩ dL_law_2570 (fun v w h => ?_)
  obtain ⟨rfl, rfl⟩ := h
  show V K sL_law (k + 1) (n + 6) (wL3 en c2 a κ2 σ2 o g2) [some (.ref b), some (.ref (c 0)), some (.ref (a 0)), some (.ref o), some (.int (zI i)), some (.int (zI ((sp_bestRowWeight P).1))), some (.int (zI ((sp_bestRowWeight P).2.1)))] [.int (zI (σ2 1 29))] 2573
  refine V_eqT (y := zI (sp_bestRowWeight P).1) (by rw [et]) ?_
  refine V_iload dL_law_2573 rfl ?_
  refine V_icmp_same (tgt := 2580) dL_law_2575 (by decide) ?_
  refine V_iload dL_law_2580 rfl ?_
  refine V_if_ne (tgt := 2597) dL_law_2582 (by decide) ⟨by have := hn2; omega, by have := hn2; omega⟩ (fun h1 => ?_) (fun h1 => ?_)
  · refine V_goto (tgt := 2688) dL_law_2597 (by decide) ?_
    refine V_mask (L' := [some (.ref b), some (.ref (c 0)), some (.ref (a 0)), some (.ref o), some (.int (zI i)), none, none]) [true, true, true, true, true, false, false] rfl ?_
    refine V_widen (k' := k + 8) (n' := n + 50) (by omega) (by omega) ?_
    exact hnext c2 κ2 σ2 _ g2 e0 (mi_bestRowWeight hM) hC2 hP2
  · refine V_aload_n dL_law_2585 rfl ?_
    refine V_iconst dL_law_2586 ?_
    refine V_lald (N := 1) _ (wL3_out en c2 a κ2 σ2 o g2) ⟨by decide, by decide⟩ (by decide) dL_law_2587 ?_
    refine V_iload dL_law_2588 rfl ?_
    refine V_i2l dL_law_2590 ?_
    refine V_lcmp dL_law_2591 ?_
    refine V_eqT (y := zI 0) (lg_eq (hz2 h1).1) ?_
    refine V_if_eq (tgt := 2597) dL_law_2592 (by decide) ⟨by omega, by omega⟩ (fun _ => ?_) (fun h => absurd rfl h)
    refine V_goto (tgt := 2688) dL_law_2597 (by decide) ?_
    refine V_mask (L' := [some (.ref b), some (.ref (c 0)), some (.ref (a 0)), some (.ref o), some (.int (zI i)), none, none]) [true, true, true, true, true, false, false] rfl ?_
    refine V_widen (k' := k + 8) (n' := n + 50) (by omega) (by omega) ?_
    exact hnext c2 κ2 σ2 _ g2 e0 (mi_bestRowWeight hM) hC2 hP2
set_option maxRecDepth 100000 in
set_option maxHeartbeats 4000000 in
theorem law_bestColumnWeight {K : KT} {en c a : Nat → Nat} {κ σ P : St} {o b Ln k n : Nat} {xs : Nat → Int32} {g : Nat → Int64} {i : Int} (hK : evK K = EX en) (hX : scK K b Ln xs) (hL : Ln ≤ 3072) (hi : 0 ≤ i ∧ i + 6 ≤ (Ln : Int)) (hk : k + 8 ≤ 601024) (hn : n + 50 ≤ 7293034) (hM : MI P) (hC : CWP P κ) (hP : PR P σ)
    (hnext : ∀ (c2 : Nat → Nat) (κ2 σ2 P2 : St) (g2 : Nat → Int64), c2 0 = c 0 → MI P2 → CWP P2 κ2 → PR P2 σ2 → V K sL_law (k + 8) (n + 50) (wL3 en c2 a κ2 σ2 o g2) [some (.ref b), some (.ref (c 0)), some (.ref (a 0)), some (.ref o), some (.int (zI i)), none, none] [] 2688) : V K sL_law k n (wL3 en c a κ σ o g) [some (.ref b), some (.ref (c 0)), some (.ref (a 0)), some (.ref o), some (.int (zI i)), none, none] [] 2600 := by
  refine V_aload_n dL_law_2600 rfl ?_
  refine V_aload_n dL_law_2601 rfl ?_
  refine V_callSBH (As := [.ref (c 0), .ref o]) (wr := mW a σ) (wc := fm (cO en c κ) ++ [(o, lE 1 g)]) rfl hK (l_bestColumnWeight en c κ P o g hM hC ) mokL_bestColumnWeight w1050 w1051 ⟨Nat.le_of_ble_eq_true rfl, Nat.le_of_ble_eq_true rfl⟩ rfl (Nat.le_of_ble_eq_true rfl) ⟨rm_k hk (Nat.le_of_ble_eq_true rfl), rm_n hn (Nat.le_of_ble_eq_true rfl)⟩ dL_law_2602 (fun v w h => ?_)
  obtain ⟨c2, κ2, g2, rfl, rfl, e0, hC2, hn2, hz2⟩ := h
  show V K sL_law (k + 1) (n + 6) (wL3 en c2 a κ2 σ o g2) [some (.ref b), some (.ref (c 0)), some (.ref (a 0)), some (.ref o), some (.int (zI i)), none, none] [.int (zI ((sp_bestColumnWeight P).1))] 2605
  refine V_istore (L' := [some (.ref b), some (.ref (c 0)), some (.ref (a 0)), some (.ref o), some (.int (zI i)), some (.int (zI ((sp_bestColumnWeight P).1))), none]) dL_law_2605 (by decide) rfl ?_
  refine V_aload_n dL_law_2607 rfl ?_
  refine V_callVA (As := []) (b := a 0) (q0 := 0) (ci := 10) (fs := mF a σ) (T := TX11) (N := 30) rfl rfl (wc := mW a σ) (wr := fm (cO en c2 κ2) ++ [(o, lE 1 g2)]) rfl hK (c_bestColumnWeight (EX.stb en) a σ P ⟨hM, hP⟩) mokX11_bestColumnWeight w1486 w1487 w1488 ⟨Nat.le_of_ble_eq_true rfl, Nat.le_of_ble_eq_true rfl⟩ rfl (Nat.le_of_ble_eq_true rfl) ⟨rm_k (c := 1) hk (Nat.le_of_ble_eq_true rfl), rm_n (c := 6) hn (Nat.le_of_ble_eq_true rfl)⟩ dL_law_2608 (fun v w h => ?_)
  obtain ⟨σ2, rfl, rfl, et, hP2⟩ := h
  show V K sL_law (k + 1) (n + 6) (wL3 en c2 a κ2 σ2 o g2) [some (.ref b), some (.ref (c 0)), some (.ref (a 0)), some (.ref o), some (.int (zI i)), some (.int (zI ((sp_bestColumnWeight P).1))), none] [.int (zI ((sp_bestColumnWeight P).2.1))] 2611
  refine V_istore (L' := [some (.ref b), some (.ref (c 0)), some (.ref (a 0)), some (.ref o), some (.int (zI i)), some (.int (zI ((sp_bestColumnWeight P).1))), some (.int (zI ((sp_bestColumnWeight P).2.1)))]) dL_law_2611 (by decide) rfl ?_
  refine V_aload_n dL_law_2613 rfl ?_
  refine V_callVA (As := []) (b := a 0) (q0 := 0) (ci := 10) (fs := mF a σ2) (T := TX11) (N := 30) rfl rfl (wc := mW a σ2) (wr := fm (cO en c2 κ2) ++ [(o, lE 1 g2)]) rfl hK (c_thrown (EX.stb en) a σ2) mokX11_thrown w1161 w1162 w1163 ⟨Nat.le_of_ble_eq_true rfl, Nat.le_of_ble_eq_true rfl⟩ rfl (Nat.le_of_ble_eq_true rfl) ⟨rm_k (c := 1) hk (Nat.le_of_ble_eq_true rfl), rm_n (c := 6) hn (Nat.le_of_ble_eq_true rfl)⟩ dL_law_2614 (fun v w h => ?_)
  obtain ⟨rfl, rfl⟩ := h
  show V K sL_law (k + 1) (n + 6) (wL3 en c2 a κ2 σ2 o g2) [some (.ref b), some (.ref (c 0)), some (.ref (a 0)), some (.ref o), some (.int (zI i)), some (.int (zI ((sp_bestColumnWeight P).1))), some (.int (zI ((sp_bestColumnWeight P).2.1)))] [.int (zI (σ2 1 29))] 2617
  refine V_eqT (y := zI (sp_bestColumnWeight P).1) (by rw [et]) ?_
  refine V_iload dL_law_2617 rfl ?_
  refine V_icmp_same (tgt := 2624) dL_law_2619 (by decide) ?_
  refine V_iload dL_law_2624 rfl ?_
  refine V_if_ne (tgt := 2641) dL_law_2626 (by decide) ⟨by have := hn2; omega, by have := hn2; omega⟩ (fun h1 => ?_) (fun h1 => ?_)
  · refine V_goto (tgt := 2688) dL_law_2641 (by decide) ?_
    refine V_mask (L' := [some (.ref b), some (.ref (c 0)), some (.ref (a 0)), some (.ref o), some (.int (zI i)), none, none]) [true, true, true, true, true, false, false] rfl ?_
    refine V_widen (k' := k + 8) (n' := n + 50) (by omega) (by omega) ?_
    exact hnext c2 κ2 σ2 _ g2 e0 (mi_bestColumnWeight hM) hC2 hP2
  · refine V_aload_n dL_law_2629 rfl ?_
    refine V_iconst dL_law_2630 ?_
    refine V_lald (N := 1) _ (wL3_out en c2 a κ2 σ2 o g2) ⟨by decide, by decide⟩ (by decide) dL_law_2631 ?_
    refine V_iload dL_law_2632 rfl ?_
    refine V_i2l dL_law_2634 ?_
    refine V_lcmp dL_law_2635 ?_
    refine V_eqT (y := zI 0) (lg_eq (hz2 h1).1) ?_
    refine V_if_eq (tgt := 2641) dL_law_2636 (by decide) ⟨by omega, by omega⟩ (fun _ => ?_) (fun h => absurd rfl h)
    refine V_goto (tgt := 2688) dL_law_2641 (by decide) ?_
    refine V_mask (L' := [some (.ref b), some (.ref (c 0)), some (.ref (a 0)), some (.ref o), some (.int (zI i)), none, none]) [true, true, true, true, true, false, false] rfl ?_
    refine V_widen (k' := k + 8) (n' := n + 50) (by omega) (by omega) ?_
    exact hnext c2 κ2 σ2 _ g2 e0 (mi_bestColumnWeight hM) hC2 hP2
set_option maxRecDepth 100000 in
set_option maxHeartbeats 4000000 in
theorem law_bestRoom {K : KT} {en c a : Nat → Nat} {κ σ P : St} {o b Ln k n : Nat} {xs : Nat → Int32} {g : Nat → Int64} {i : Int} (hK : evK K = EX en) (hX : scK K b Ln xs) (hL : Ln ≤ 3072) (hi : 0 ≤ i ∧ i + 6 ≤ (Ln : Int)) (hk : k + 8 ≤ 601024) (hn : n + 50 ≤ 7293034) (hM : MI P) (hC : CWP P κ) (hP : PR P σ)
    (hnext : ∀ (c2 : Nat → Nat) (κ2 σ2 P2 : St) (g2 : Nat → Int64), c2 0 = c 0 → MI P2 → CWP P2 κ2 → PR P2 σ2 → V K sL_law (k + 8) (n + 50) (wL3 en c2 a κ2 σ2 o g2) [some (.ref b), some (.ref (c 0)), some (.ref (a 0)), some (.ref o), some (.int (zI i)), none, none] [] 2688) : V K sL_law k n (wL3 en c a κ σ o g) [some (.ref b), some (.ref (c 0)), some (.ref (a 0)), some (.ref o), some (.int (zI i)), none, none] [] 2644 := by
  refine V_aload_n dL_law_2644 rfl ?_
  refine V_aload_n dL_law_2645 rfl ?_
  refine V_callSBH (As := [.ref (c 0), .ref o]) (wr := mW a σ) (wc := fm (cO en c κ) ++ [(o, lE 1 g)]) rfl hK (l_bestRoom en c κ P o g hM hC ) mokL_bestRoom w1057 w1058 ⟨Nat.le_of_ble_eq_true rfl, Nat.le_of_ble_eq_true rfl⟩ rfl (Nat.le_of_ble_eq_true rfl) ⟨rm_k hk (Nat.le_of_ble_eq_true rfl), rm_n hn (Nat.le_of_ble_eq_true rfl)⟩ dL_law_2646 (fun v w h => ?_)
  obtain ⟨c2, κ2, g2, rfl, rfl, e0, hC2, hn2, hz2⟩ := h
  show V K sL_law (k + 1) (n + 6) (wL3 en c2 a κ2 σ o g2) [some (.ref b), some (.ref (c 0)), some (.ref (a 0)), some (.ref o), some (.int (zI i)), none, none] [.int (zI ((sp_bestRoom P).1))] 2649
  refine V_istore (L' := [some (.ref b), some (.ref (c 0)), some (.ref (a 0)), some (.ref o), some (.int (zI i)), some (.int (zI ((sp_bestRoom P).1))), none]) dL_law_2649 (by decide) rfl ?_
  refine V_aload_n dL_law_2651 rfl ?_
  refine V_callVA (As := []) (b := a 0) (q0 := 0) (ci := 10) (fs := mF a σ) (T := TX11) (N := 30) rfl rfl (wc := mW a σ) (wr := fm (cO en c2 κ2) ++ [(o, lE 1 g2)]) rfl hK (c_bestRoom (EX.stb en) a σ P ⟨hM, hP⟩) mokX11_bestRoom w1490 w1491 w1492 ⟨Nat.le_of_ble_eq_true rfl, Nat.le_of_ble_eq_true rfl⟩ rfl (Nat.le_of_ble_eq_true rfl) ⟨rm_k (c := 1) hk (Nat.le_of_ble_eq_true rfl), rm_n (c := 6) hn (Nat.le_of_ble_eq_true rfl)⟩ dL_law_2652 (fun v w h => ?_)
  obtain ⟨σ2, rfl, rfl, et, hP2⟩ := h
  show V K sL_law (k + 1) (n + 6) (wL3 en c2 a κ2 σ2 o g2) [some (.ref b), some (.ref (c 0)), some (.ref (a 0)), some (.ref o), some (.int (zI i)), some (.int (zI ((sp_bestRoom P).1))), none] [.int (zI ((sp_bestRoom P).2.1))] 2655
  refine V_istore (L' := [some (.ref b), some (.ref (c 0)), some (.ref (a 0)), some (.ref o), some (.int (zI i)), some (.int (zI ((sp_bestRoom P).1))), some (.int (zI ((sp_bestRoom P).2.1)))]) dL_law_2655 (by decide) rfl ?_
  refine V_aload_n dL_law_2657 rfl ?_
  refine V_callVA (As := []) (b := a 0) (q0 := 0) (ci := 10) (fs := mF a σ2) (T := TX11) (N := 30) rfl rfl (wc := mW a σ2) (wr := fm (cO en c2 κ2) ++ [(o, lE 1 g2)]) rfl hK (c_thrown (EX.stb en) a σ2) mokX11_thrown w1161 w1162 w1163 ⟨Nat.le_of_ble_eq_true rfl, Nat.le_of_ble_eq_true rfl⟩ rfl (Nat.le_of_ble_eq_true rfl) ⟨rm_k (c := 1) hk (Nat.le_of_ble_eq_true rfl), rm_n (c := 6) hn (Nat.le_of_ble_eq_true rfl)⟩ dL_law_2658 (fun v w h => ?_)
  obtain ⟨rfl, rfl⟩ := h
  show V K sL_law (k + 1) (n + 6) (wL3 en c2 a κ2 σ2 o g2) [some (.ref b), some (.ref (c 0)), some (.ref (a 0)), some (.ref o), some (.int (zI i)), some (.int (zI ((sp_bestRoom P).1))), some (.int (zI ((sp_bestRoom P).2.1)))] [.int (zI (σ2 1 29))] 2661
  refine V_eqT (y := zI (sp_bestRoom P).1) (by rw [et]) ?_
  refine V_iload dL_law_2661 rfl ?_
  refine V_icmp_same (tgt := 2668) dL_law_2663 (by decide) ?_
  refine V_iload dL_law_2668 rfl ?_
  refine V_if_ne (tgt := 2685) dL_law_2670 (by decide) ⟨by have := hn2; omega, by have := hn2; omega⟩ (fun h1 => ?_) (fun h1 => ?_)
  · refine V_goto (tgt := 2688) dL_law_2685 (by decide) ?_
    refine V_mask (L' := [some (.ref b), some (.ref (c 0)), some (.ref (a 0)), some (.ref o), some (.int (zI i)), none, none]) [true, true, true, true, true, false, false] rfl ?_
    refine V_widen (k' := k + 8) (n' := n + 50) (by omega) (by omega) ?_
    exact hnext c2 κ2 σ2 _ g2 e0 (mi_bestRoom hM) hC2 hP2
  · refine V_aload_n dL_law_2673 rfl ?_
    refine V_iconst dL_law_2674 ?_
    refine V_lald (N := 1) _ (wL3_out en c2 a κ2 σ2 o g2) ⟨by decide, by decide⟩ (by decide) dL_law_2675 ?_
    refine V_iload dL_law_2676 rfl ?_
    refine V_i2l dL_law_2678 ?_
    refine V_lcmp dL_law_2679 ?_
    refine V_eqT (y := zI 0) (lg_eq (hz2 h1).1) ?_
    refine V_if_eq (tgt := 2685) dL_law_2680 (by decide) ⟨by omega, by omega⟩ (fun _ => ?_) (fun h => absurd rfl h)
    refine V_goto (tgt := 2688) dL_law_2685 (by decide) ?_
    refine V_mask (L' := [some (.ref b), some (.ref (c 0)), some (.ref (a 0)), some (.ref o), some (.int (zI i)), none, none]) [true, true, true, true, true, false, false] rfl ?_
    refine V_widen (k' := k + 8) (n' := n + 50) (by omega) (by omega) ?_
    exact hnext c2 κ2 σ2 _ g2 e0 (mi_bestRoom hM) hC2 hP2
