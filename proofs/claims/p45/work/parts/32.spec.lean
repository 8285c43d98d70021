/-! what each call answers, of a program's state: which exception (0 none), the answer, the state then -/
abbrev SP : Type := Int × Int × St
abbrev inS (P : St) (s : Int) : Prop := 0 ≤ s ∧ s < P 0 2
abbrev inC (P : St) (s i j : Int) : Prop := (0 ≤ s ∧ s < P 0 2) ∧ 0 ≤ i ∧ i < P 0 0 ∧ 0 ≤ j ∧ j < P 0 1
abbrev inT (P : St) (t : Int) : Prop := 0 ≤ t ∧ t < al P
def cc (P : St) (s i j : Int) : Int := s * pt P + (i * P 0 1 + j)
theorem cc_b {P : St} (hM : MI P) {s i j : Int} (h : inC P s i j) : (0 ≤ cc P s i j ∧ cc P s i j < al P) ∧ cid P (cc P s i j) = 64 * s + i * P 0 1 + j ∧ cc P s i j / pt P = s ∧ cc P s i j % pt P = i * P 0 1 + j := by
  obtain ⟨a1, a2, a3, a4⟩ := rdp_b hM h.2
  obtain ⟨b1, b2, b3, b4⟩ := comp_eq hM h.1.1 h.1.2 a1 a2
  exact ⟨b1, by rw [cc, b4]; omega, b2, b3⟩
def gd (c : Prop) [Decidable c] (k : Int) (P : St) (r : SP) : SP := if c then r else (k, 0, P)
noncomputable def gc (c : Prop) (k : Int) (P : St) (r : SP) : SP := @ite SP c (Classical.propDecidable c) r (k, 0, P)
def sp_addStatement (P : St) (v : Int) : SP := gd (0 ≤ v ∧ v ≤ 99) 1 P (gd (P 0 2 ≠ 4) 2 P (0, P 0 2, up (up (up P 3 (P 0 2) v) 13 (P 0 2) 0) 0 2 (P 0 2 + 1)))
def sp_addRead (P : St) (s f v u l : Int) : SP := gd (inS P s ∧ inS P f) 1 P (gd ((1 ≤ v ∧ v ≤ 9) ∧ (0 ≤ u ∧ u ≤ 3) ∧ (-3 ≤ l ∧ l ≤ 3)) 2 P (gd (P 4 s ≠ 4) 3 P (0, P 4 s, up (up (up (up (up P 5 (4 * s + P 4 s) f) 6 (4 * s + P 4 s) v) 7 (4 * s + P 4 s) u) 8 (4 * s + P 4 s) l) 4 s (P 4 s + 1))))
def sp_dropReads (P : St) (s : Int) : SP := gd (inS P s) 1 P (0, P 4 s, up P 4 s 0)
def sp_setLasting (P : St) (s v : Int) : SP := gd (inS P s) 1 P (0, P 9 s, up P 9 s v)
def sp_setField (P : St) (h w : Int) : SP := gd ((1 ≤ h ∧ h ≤ 8) ∧ (1 ≤ w ∧ w ≤ 8)) 1 P (0, h * w, up (up P 0 0 h) 0 1 w)
noncomputable def sp_setSchedule (P : St) (v w : Int) : SP := gd ((0 ≤ v ∧ v ≤ 9) ∧ (0 ≤ w ∧ w ≤ 9)) 1 P (0, bz (dcd (alw (up (up P 0 11 v) 0 12 w) v w)), up (up P 0 11 v) 0 12 w)
noncomputable def sp_setOffset (P : St) (s v : Int) : SP := gd (inS P s) 1 P (gd (0 ≤ v ∧ v ≤ 30) 2 P (0, bz (dcd (alw (up P 10 s v) (P 0 11) (P 0 12))), up P 10 s v))
noncomputable def sp_isAllowed (P : St) : SP := (0, bz (dcd (alw P (P 0 11) (P 0 12))), P)
noncomputable def sp_isAllowedWith (P : St) (v w : Int) : SP := gd ((0 ≤ v ∧ v ≤ 9) ∧ (0 ≤ w ∧ w ≤ 9)) 1 P (0, bz (dcd (alw P v w)), P)
noncomputable def sp_isReadInOrder (P : St) (s j : Int) : SP := gd (inS P s ∧ (0 ≤ j ∧ j < P 4 s)) 1 P (0, bz (dcd (inO P (P 0 11) (P 0 12) s j)), P)
def sp_steps (P : St) : SP := (0, al P, P)
def sp_stepOf (P : St) (s i j : Int) : SP := gd (inC P s i j) 1 P (0, bt P (P 0 11) (P 0 12) (cc P s i j), P)
noncomputable def sp_statementAt (P : St) (t : Int) : SP := gd (inT P t) 1 P (0, ac P (P 0 11) (P 0 12) t / pt P, P)
noncomputable def sp_pointAt (P : St) (t : Int) : SP := gd (inT P t) 1 P (0, ac P (P 0 11) (P 0 12) t % pt P, P)
noncomputable def sp_endOf (P : St) (s i j : Int) : SP := gd (inC P s i j) 1 P (0, en P (P 0 11) (P 0 12) (cc P s i j), P)
noncomputable def sp_liveAt (P : St) (t : Int) : SP := gd (inT P t) 1 P (0, lvN P (P 0 11) (P 0 12) (selS P (-1)) t, P)
noncomputable def sp_mostLive (P : St) : SP := (0, mxv (lvN P (P 0 11) (P 0 12) (selS P (-1))) (al P), P)
noncomputable def sp_mostLiveOf (P : St) (s : Int) : SP := gd (inS P s) 1 P (0, mxv (lvN P (P 0 11) (P 0 12) (selS P s)) (al P), P)
noncomputable def sp_conflictsOf (P : St) (s i j o : Int) : SP := gd (inC P s i j ∧ inS P o) 1 P (0, ct (fun p => cf P (P 0 11) (P 0 12) (cc P s i j) (o * pt P + p)) (pt P), P)
noncomputable def cpr (P : St) (s : Int) : Int := smv (fun q => ct (fun p => cf P (P 0 11) (P 0 12) (s * pt P + q) (s * pt P + p)) (pt P)) (pt P)
noncomputable def sp_conflictPairs (P : St) (s : Int) : SP := gd (inS P s) 1 P (0, cpr P s / 2, P)
def sp_keepWhole (P : St) (s : Int) : SP := gd (inS P s) 1 P (0, sz (kp P s 0 0 0) s, kp P s 0 0 0)
def sp_keepRest (P : St) (s m : Int) : SP := gd (inS P s) 1 P (gd (1 ≤ m ∧ m ≤ 99) 2 P (0, sz (kp P s 1 m 0) s, kp P s 1 m 0))
def sp_keepTwoRests (P : St) (s m q : Int) : SP := gd (inS P s) 1 P (gd ((1 ≤ m ∧ m ≤ 99) ∧ (1 ≤ q ∧ q ≤ 99)) 2 P (0, sz (kp P s 2 m q) s, kp P s 2 m q))
def sp_keepSlant (P : St) (s l m : Int) : SP := gd (inS P s) 1 P (gd ((0 ≤ l ∧ l ≤ 9) ∧ (1 ≤ m ∧ m ≤ 99)) 2 P (0, sz (kp P s 3 l m) s, kp P s 3 l m))
/-- contraction: the smallest window of a statement -/
noncomputable def cw1 (P : St) (s : Int) (Q : St) : St := if lr P (P 0 11) (P 0 12) s < sz Q s then kp Q s 1 (lr P (P 0 11) (P 0 12) s) 0 else Q
noncomputable def cw2 (P : St) (s : Int) (Q : St) : St := if tw1 P (P 0 11) (P 0 12) s * tw2 P (P 0 11) (P 0 12) s < sz Q s then kp Q s 2 (tw1 P (P 0 11) (P 0 12) s) (tw2 P (P 0 11) (P 0 12) s) else Q
noncomputable def cw3 (P : St) (s : Int) (Q : St) : St := if ls P (P 0 11) (P 0 12) s / 10 < sz Q s then kp Q s 3 (ls P (P 0 11) (P 0 12) s % 10) (ls P (P 0 11) (P 0 12) s / 10) else Q
noncomputable def ctp (P : St) : Nat → St
  | 0 => P
  | n + 1 => cw3 P (n : Int) (cw2 P (n : Int) (cw1 P (n : Int) (kp (ctp P n) (n : Int) 0 0 0)))
noncomputable def ctq (P : St) (s : Int) : St := ctp P s.toNat
theorem ctq_0 (P : St) : ctq P 0 = P := rfl
theorem ctq_s (P : St) {s : Int} (h : 0 ≤ s) : ctq P (s + 1) = cw3 P s (cw2 P s (cw1 P s (kp (ctq P s) s 0 0 0))) := by
  unfold ctq
  rw [show (s + 1).toNat = s.toNat + 1 by omega, ctp, Int.toNat_of_nonneg h]
/-- another state's windows -/
def ov (P A : St) : St := fun k => if k = 13 then A 13 else if k = 14 then A 14 else if k = 15 then A 15 else P k
theorem ov_lr (P A : St) : lr (ov P A) = lr P := rfl
theorem ov_tw1 (P A : St) : tw1 (ov P A) = tw1 P := rfl
theorem ov_tw2 (P A : St) : tw2 (ov P A) = tw2 P := rfl
theorem ov_ls (P A : St) : ls (ov P A) = ls P := rfl
theorem ov_Dealt (P A : St) : Dealt (ov P A) = Dealt P := rfl
theorem ov_Lived (P A : St) : Lived (ov P A) = Lived P := rfl
theorem ov_Diff (P A : St) : Diff (ov P A) = Diff P := rfl
/-- the same but for the windows -/
def Sw (P Q : St) : Prop := Q = ov P Q
theorem Sw.rf (P : St) : Sw P P := by
  funext k
  unfold ov
  split
  · rename_i h; rw [h]
  · split
    · rename_i h; rw [h]
    · split
      · rename_i h; rw [h]
      · rfl
theorem Sw.kp {P Q : St} (h : Sw P Q) (s k u v : Int) : Sw P (kp Q s k u v) := by
  funext j
  by_cases h1 : j = 13
  · subst h1; rfl
  · by_cases h2 : j = 14
    · subst h2; rfl
    · by_cases h3 : j = 15
      · subst h3; rfl
      · have e1 : Jvm.Pilot.@@N@@.kp Q s k u v j = Q j := by unfold Jvm.Pilot.@@N@@.kp; rw [up_ne h3, up_ne h2, up_ne h1]
        rw [e1]
        have e2 : Q j = ov P Q j := congrFun h j
        rw [e2]
        unfold ov
        simp only [if_neg h1, if_neg h2, if_neg h3]
theorem Sw.keys {P Q : St} (h : Sw P Q) : Q 0 = P 0 := by
  have e : Q 0 = ov P Q 0 := congrFun h 0
  rw [e]; rfl
theorem Sw.lr {P Q : St} (h : Sw P Q) : lr Q = lr P := by rw [h]; rfl
theorem Sw.tw1 {P Q : St} (h : Sw P Q) : tw1 Q = tw1 P := by rw [h]; rfl
theorem Sw.tw2 {P Q : St} (h : Sw P Q) : tw2 Q = tw2 P := by rw [h]; rfl
theorem Sw.ls {P Q : St} (h : Sw P Q) : ls Q = ls P := by rw [h]; rfl
theorem Sw.Dealt {P Q : St} (h : Sw P Q) : Dealt Q = Dealt P := by rw [h]; rfl
theorem Sw.Lived {P Q : St} (h : Sw P Q) : Lived Q = Lived P := by rw [h]; rfl
theorem Sw.Diff {P Q : St} (h : Sw P Q) : Diff Q = Diff P := by rw [h]; rfl
theorem Sw.pt {P Q : St} (h : Sw P Q) : pt Q = pt P := by rw [h]; rfl
noncomputable def sp_contract (P : St) : SP := (0, smv (sz (ctq P (P 0 2))) (P 0 2), ctq P (P 0 2))
def sp_windowSize (P : St) (s : Int) : SP := gd (inS P s) 1 P (0, sz P s, P)
def sp_room (P : St) : SP := (0, smv (sz P) (P 0 2), P)
def sp_placeOf (P : St) (s i j : Int) : SP := gd (inC P s i j) 1 P (0, plc P s (i * P 0 1 + j), P)
def wR (P : St) (s : Int) : Prop := ∀ u v, DP P (P 0 11) (P 0 12) s u v → plc P s u ≠ plc P s v
noncomputable def sp_isRight (P : St) (s : Int) : SP := gd (inS P s) 1 P (0, bz (dcd (wR P s)), P)
noncomputable def sp_leastRest (P : St) (s : Int) : SP := gd (inS P s) 1 P (0, lr P (P 0 11) (P 0 12) s, P)
noncomputable def sp_leastRowRest (P : St) (s : Int) : SP := gd (inS P s) 1 P (0, tw1 P (P 0 11) (P 0 12) s, P)
noncomputable def sp_leastColumnRest (P : St) (s : Int) : SP := gd (inS P s) 1 P (0, tw2 P (P 0 11) (P 0 12) s, P)
noncomputable def sp_leastSlantModulus (P : St) (s : Int) : SP := gd (inS P s) 1 P (0, ls P (P 0 11) (P 0 12) s / 10, P)
noncomputable def sp_leastSlant (P : St) (s : Int) : SP := gd (inS P s) 1 P (0, ls P (P 0 11) (P 0 12) s % 10, P)
noncomputable def sp_leastJointRest (P : St) (s o : Int) : SP := gd (inS P s ∧ inS P o) 1 P (0, ljr P (P 0 11) (P 0 12) s o, P)
noncomputable def sp_valueOf (P : St) (s i j : Int) : SP := gd (inC P s i j) 1 P (0, vof P (P 0 11) (P 0 12) (cc P s i j), P)
noncomputable def sp_contractedValueOf (P : St) (s i j : Int) : SP := gd (inC P s i j) 1 P (0, cof P (P 0 11) (P 0 12) (cc P s i j), P)
noncomputable def sp_firstWrongStep (P : St) : SP := (0, fws P (P 0 11) (P 0 12), P)
def hasB (P : St) : Prop := ∃ k, 0 ≤ k ∧ k < 16 ∧ alw P (k / 4) (k % 4)
noncomputable def bsB (P : St) : Int := @dite Int (∃ b r c, IsBest P 16 b r c) (Classical.propDecidable _) (fun h => Classical.choose h) (fun _ => 0)
noncomputable def bsR (P : St) : Int := @dite Int (∃ r b c, IsBest P 16 b r c) (Classical.propDecidable _) (fun h => Classical.choose h) (fun _ => 0)
noncomputable def bsC (P : St) : Int := @dite Int (∃ c b r, IsBest P 16 b r c) (Classical.propDecidable _) (fun h => Classical.choose h) (fun _ => 0)
theorem bs_eq {P : St} {b r c : Int} (h : IsBest P 16 b r c) (hb : 0 ≤ b) : b = bsB P ∧ r = bsR P ∧ c = bsC P := by
  unfold bsB bsR bsC
  have e1 : ∃ b r c, IsBest P 16 b r c := ⟨b, r, c, h⟩
  have e2 : ∃ r b c, IsBest P 16 b r c := ⟨r, b, c, h⟩
  have e3 : ∃ c b r, IsBest P 16 b r c := ⟨c, b, r, h⟩
  rw [dif_pos e1, dif_pos e2, dif_pos e3]
  obtain ⟨r1, c1, h1⟩ := Classical.choose_spec e1
  obtain ⟨b2, c2, h2⟩ := Classical.choose_spec e2
  obtain ⟨b3, r3, h3⟩ := Classical.choose_spec e3
  exact ⟨(h.uniq h1 hb).1, (h.uniq h2 hb).2.1, (h.uniq h3 hb).2.2⟩
theorem hasB_iff {P : St} {b r c : Int} (h : IsBest P 16 b r c) : hasB P ↔ 0 ≤ b := by
  rcases h with ⟨h1, h2⟩ | ⟨h1, k, k1, k2, k3, -⟩
  · exact ⟨fun ⟨k, a, d, e⟩ => absurd e (h2 k a d), fun z => by omega⟩
  · exact ⟨fun _ => h1, fun _ => ⟨k, k1, k2, k3⟩⟩
noncomputable def sp_bestRowWeight (P : St) : SP := gc (hasB P) 1 P (0, bsR P, P)
noncomputable def sp_bestColumnWeight (P : St) : SP := gc (hasB P) 1 P (0, bsC P, P)
noncomputable def sp_bestRoom (P : St) : SP := gc (hasB P) 1 P (0, bsB P, P)
theorem PR.upP {P σ : St} (h : PR P σ) (k : Nat) (i v : Int) : PR (Jvm.Pilot.@@N@@.up P k i v) (Jvm.Pilot.@@N@@.up σ k i v) := by
  intro j h1 h2
  by_cases hq : j = k
  · subst hq; rw [up_eq, up_eq, h j h1 h2]
  · rw [up_ne hq, up_ne hq]; exact h j h1 h2
theorem gd_t {c : Prop} [Decidable c] {k : Int} {P : St} {r : SP} (h : c) : gd c k P r = r := if_pos h
theorem gd_f {c : Prop} [Decidable c] {k : Int} {P : St} {r : SP} (h : ¬ c) : gd c k P r = (k, 0, P) := if_neg h
theorem gc_t {c : Prop} {k : Int} {P : St} {r : SP} (h : c) : gc c k P r = r := if_pos h
theorem gc_f {c : Prop} {k : Int} {P : St} {r : SP} (h : ¬ c) : gc c k P r = (k, 0, P) := if_neg h
theorem V_zretI {K : KT} {S : SI} {k n : Nat} {ws : vWd} {L : List (Option Value)} {pc : Nat} {Post : Option Value → vWd → Prop} {mc ms : Nat} {v : Int} (hR : RetOK K mc ms Post) (hs : S.2.2.2.1 = some .boolean) (hv : v = 0 ∨ v = 1) (hk : k ≤ mc) (hn : n ≤ ms) (d : decode S.1 pc = .ok (.ireturn, 1)) (hp : Post (some (.int (zI v))) ws) : V K S k n ws L [.int (zI v)] pc := by
  rcases hv with rfl | rfl
  · exact V_zret (b := false) hR hs hk hn d hp
  · exact V_zret (b := true) hR hs hk hn d hp
theorem MI.keys {P Q : St} (h : MI P) (hr : 1 ≤ Q 0 0 ∧ Q 0 0 ≤ 8) (hc : 1 ≤ Q 0 1 ∧ Q 0 1 ≤ 8) (hn : Q 0 2 = P 0 2) (hv : 0 ≤ Q 0 11 ∧ Q 0 11 ≤ 9) (hw : 0 ≤ Q 0 12 ∧ Q 0 12 ≤ 9) (hk : ∀ j : Nat, j < 16 → j ≠ 0 → j ≠ 1 → Q j = P j) : MI Q := by
  obtain ⟨h1, h2, h3, h4, h5, h6, h7⟩ := h
  refine ⟨hr, hc, by rw [hn]; exact h3, hv, hw, ?_, ?_⟩
  · rw [hk 3 (by decide) (by decide) (by decide), hk 4 (by decide) (by decide) (by decide), hk 9 (by decide) (by decide) (by decide), hk 10 (by decide) (by decide) (by decide), hk 13 (by decide) (by decide) (by decide), hk 14 (by decide) (by decide) (by decide), hk 15 (by decide) (by decide) (by decide), hn]
    exact h6
  · rw [hk 4 (by decide) (by decide) (by decide), hk 5 (by decide) (by decide) (by decide), hk 6 (by decide) (by decide) (by decide), hk 7 (by decide) (by decide) (by decide), hk 8 (by decide) (by decide) (by decide), hn]
    exact h7
theorem MI.sched {P : St} (h : MI P) {v w : Int} (hv : 0 ≤ v ∧ v ≤ 9) (hw : 0 ≤ w ∧ w ≤ 9) : MI (up (up P 0 11 v) 0 12 w) := h.keys h.1 h.2.1 rfl hv hw (fun j a b c => by rw [up_ne b, up_ne b])
theorem MI.field {P : St} (h : MI P) {v w : Int} (hv : 1 ≤ v ∧ v ≤ 8) (hw : 1 ≤ w ∧ w ≤ 8) : MI (up (up P 0 0 v) 0 1 w) := h.keys hv hw rfl h.2.2.2.1 h.2.2.2.2.1 (fun j a b c => by rw [up_ne b, up_ne b])
theorem MI.offset {P : St} (h : MI P) {s v : Int} (hs : inS P s) (hv : 0 ≤ v ∧ v ≤ 30) : MI (up P 10 s v) := by
  obtain ⟨h1, h2, h3, h4, h5, h6, h7⟩ := h
  refine ⟨h1, h2, h3, h4, h5, fun i i0 i1 => ?_, h7⟩
  obtain ⟨g1, g2, g3, g4, g5, g6⟩ := h6 i i0 i1
  have e : up P 10 s v 10 i = if i = s then v else P 10 i := rfl
  refine ⟨g1, g2, g3, ?_, g5, fun z => ⟨(g6 z).1, (g6 z).2.1, ?_⟩⟩
  · rw [e]; split <;> omega
  · have z2 : P 0 2 ≤ i := z
    rw [e, if_neg (by omega)]; exact (g6 z).2.2
theorem IsTwo.ex {P : St} (hM : MI P) (bw cw s : Int) : ∃ u v, IsTwo P bw cw s u v := by
  -- by the least product, then the least row
  have hR := hM.1
  have hC := hM.2.1
  have h1 : ∃ n, IsLst (fun n => ∃ u v, (1 ≤ u ∧ u ≤ P 0 0) ∧ (1 ≤ v ∧ v ≤ P 0 1) ∧ tOK P bw cw s u v ∧ u * v = n) 0 n := by
    obtain ⟨m, h, -⟩ := IsLst.ex (p := fun n => ∃ u v, (1 ≤ u ∧ u ≤ P 0 0) ∧ (1 ≤ v ∧ v ≤ P 0 1) ∧ tOK P bw cw s u v ∧ u * v = n) (lo := 0) (pt P) (by have := hM.pts; omega) ⟨P 0 0, P 0 1, by omega, by omega, tOK_RC hM bw cw s, by rw [Int.zero_add]; rfl⟩
    exact ⟨m, h⟩
  obtain ⟨n, hn⟩ := h1
  obtain ⟨u0, v0, a1, a2, a3, a4⟩ := hn.2.1
  obtain ⟨u, h2, -⟩ := IsLst.ex (p := fun u => ∃ v, (1 ≤ u ∧ u ≤ P 0 0) ∧ (1 ≤ v ∧ v ≤ P 0 1) ∧ tOK P bw cw s u v ∧ u * v = n) (lo := 0) u0 (by omega) (by rw [Int.zero_add]; exact ⟨v0, a1, a2, a3, a4⟩)
  obtain ⟨v, b1, b2, b3, b4⟩ := h2.2.1
  refine ⟨u, v, ⟨b1, b2⟩, b3, fun u2 v2 c1 c2 c3 => ?_⟩
  rcases Int.lt_trichotomy (u * v) (u2 * v2) with h | h | h
  · exact Or.inl h
  · refine Or.inr ⟨h, ?_⟩
    apply Int.not_lt.mp
    intro z
    exact h2.2.2 u2 (by omega) z ⟨v2, c1, c2, c3, by omega⟩
  · exact absurd ⟨u2, v2, c1, c2, c3, rfl⟩ (hn.2.2 (u2 * v2) (Int.mul_nonneg (by omega) (by omega)) (by omega))
theorem two_b {P : St} (hM : MI P) (bw cw s : Int) : (1 ≤ tw1 P bw cw s ∧ tw1 P bw cw s ≤ P 0 0) ∧ (1 ≤ tw2 P bw cw s ∧ tw2 P bw cw s ≤ P 0 1) ∧ (1 ≤ tw1 P bw cw s ∧ tw1 P bw cw s ≤ 8) ∧ (1 ≤ tw2 P bw cw s ∧ tw2 P bw cw s ≤ 8) := by
  obtain ⟨u, v, h⟩ := IsTwo.ex hM bw cw s
  obtain ⟨e1, e2⟩ := two_eq h
  have hR := hM.1
  have hC := hM.2.1
  rw [← e1, ← e2]
  have := h.1
  omega
/-- a window of its own is right -/
theorem wR_iff {P : St} {s : Int} : wR P s ↔ ∀ v, 0 ≤ v → v < pt P → ∀ u, 0 ≤ u → u < v → ¬ (plc P s v = plc P s u ∧ cf P (P 0 11) (P 0 12) (s * pt P + v) (s * pt P + u) = true) := by
  constructor
  · intro h v v0 v1 u u0 u1 ⟨e, c⟩
    rw [cf_sym] at c
    exact h u v ⟨u0, u1, v1, c⟩ e.symm
  · intro h u v ⟨u0, u1, v1, c⟩ e
    rw [cf_sym] at c
    exact h v (by omega) v1 u u0 u1 ⟨e.symm, c⟩
def JQ (P : St) (bw cw s o i : Int) : Prop := ((False ∨ AQ P bw cw s s i) ∨ AQ P bw cw o o i) ∨ AQ P bw cw s o i
theorem ab_b {P : St} (hM : MI P) {u v : Int} (hu : 0 ≤ u ∧ u < pt P) (hv : 0 ≤ v ∧ v < pt P) : 0 ≤ ab u v ∧ ab u v < 64 := by
  have := hM.pts
  unfold ab
  split <;> omega
theorem jOK_iff {P : St} (hM : MI P) {bw cw s o m : Int} (hm : 1 ≤ m) : EXD (JQ P bw cw s o) m 64 ↔ ¬ jOK P bw cw s o m := by
  constructor
  · rintro ⟨i, h1, h2, h3, h4⟩ h
    have key : ∀ s2 o2, AQ P bw cw s2 o2 i → (∀ u v, cfp P bw cw s2 o2 u v → Int.tmod (u - v) m ≠ 0) → False := by
      rintro s2 o2 ⟨u, v, g1, g2⟩ g3
      refine g3 u v g1 (ab_tmod.mp ?_)
      rw [g2, tmod_nn h1]; exact h4
    rcases h3 with ((h3 | h3) | h3) | h3
    · exact h3
    · exact key s s h3 (fun u v g => h u v (Or.inl g))
    · exact key o o h3 (fun u v g => h u v (Or.inr (Or.inl g)))
    · exact key s o h3 (fun u v g => h u v (Or.inr (Or.inr g)))
  · intro h
    apply Classical.byContradiction
    intro hn
    refine h (fun u v hc e => hn ⟨ab u v, ?_⟩)
    have key : ∀ s2 o2, cfp P bw cw s2 o2 u v → 0 ≤ ab u v ∧ ab u v < 64 := fun s2 o2 g => ab_b hM g.1 g.2.1
    have hb : 0 ≤ ab u v ∧ ab u v < 64 := by
      rcases hc with g | g | g
      · exact key _ _ g
      · exact key _ _ g
      · exact key _ _ g
    refine ⟨hb.1, hb.2, ?_, by rw [← tmod_nn hb.1]; exact ab_tmod.mpr e⟩
    rcases hc with g | g | g
    · exact Or.inl (Or.inl (Or.inr ⟨u, v, g, rfl⟩))
    · exact Or.inl (Or.inr ⟨u, v, g, rfl⟩)
    · exact Or.inr ⟨u, v, g, rfl⟩
theorem ljr_yes {P : St} {bw cw s o m : Int} (h : IsLst (jOK P bw cw s o) 1 m) (hm : m ≤ 99) : m = ljr P bw cw s o := by
  unfold ljr
  rw [if_pos ⟨m, h.1, hm, h.2.1⟩]
  exact lst_eq h
theorem ljr_no {P : St} {bw cw s o : Int} (h : ∀ j, 1 ≤ j → j < 100 → ¬ jOK P bw cw s o j) : -1 = ljr P bw cw s o := by
  unfold ljr
  rw [if_neg]
  rintro ⟨m, h1, h2, h3⟩
  exact h m h1 (by omega) h3
