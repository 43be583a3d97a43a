/-! the race: what stands, and what moves -/
def ST (nw r h l lp : Nat) (s : Nat → Nat) (x m : Me) : Prop :=
  (nw ≤ 17 ∧ r ≤ 10 ∧ h ≤ 16 ∧ 12 ≤ l ∧ l ≤ 60 ∧ 1 ≤ lp ∧ lp ≤ 5) ∧
  (x 13 0 = nI nw ∧ m 17 0 = nI nw ∧ x 29 0 = nI r ∧ m 30 0 = nI r ∧ x 25 0 = nI l ∧ m 35 0 = nI l ∧ x 31 0 = nI lp ∧ m 46 0 = nI lp ∧ x 32 0 = m 47 0 ∧ x 33 0 = m 48 0) ∧
  RB x m ∧ RO nw x m ∧ (∀ i, i < r → s i < nw ∧ m 23 (s i) = 1 ∧ x 37 i = nI (s i)) ∧ (∀ i j, i < r → j < r → s i = s j → i = j) ∧ (∀ j, j < nw → m 23 j = 1 → ∃ i, i < r ∧ s i = j) ∧ (∀ j, j < nw → m 23 j = 0 ∨ m 23 j = 1) ∧
  (∀ i, i < r → ∃ g k, g < h ∧ k ≤ 999 ∧ m 22 (s i) = nI g ∧ m 27 g = nI k ∧ x 38 i = nI (3 + k / 250))
/-- a runner on both sides -/
def LK (x m : Me) (i w : Nat) : Prop := x 39 i = m 37 w ∧ x 40 i = m 38 w ∧ x 41 i = m 39 w ∧ x 42 i = m 40 w ∧ x 43 i = m 41 w ∧ x 44 i = m 42 w
/-- its numbers -/
def NB (lp l ar : Nat) (x : Me) (i : Nat) : Prop := (∃ d, x 39 i + 2 = nI d ∧ d ≤ lp * l + 2 ∧ (x 43 i = -1 → d < lp * l + 2)) ∧ (∃ la, la < 4 ∧ x 40 i = nI la) ∧ (∃ pc, pc ≤ 6 ∧ x 41 i = nI pc) ∧ (x 42 i = 0 ∨ x 42 i = 1) ∧ (x 43 i = -1 ∨ ∃ k, k < ar ∧ x 43 i = nI k)
def DI (r l : Nat) (x : Me) : Prop := ∀ i j, i < r → j < r → i ≠ j → x 43 i = -1 → x 43 j = -1 → x 40 i = x 40 j → ∀ d e : Nat, d ≤ 400 → e ≤ 400 → x 39 i + 2 = nI d → x 39 j + 2 = nI e → ¬ d % l = e % l
def CN (r ar : Nat) (x : Me) : Prop := ((List.range r).filter (fun i => decide (x 43 i = -1))).length + ar = r
def DY (r l lp : Nat) (s : Nat → Nat) (ar : Nat) (x m : Me) : Prop := (x 49 1 = m 29 0 ∧ x 35 0 = nI ar ∧ m 43 0 = nI ar ∧ x 36 0 = m 45 0) ∧ (∀ i, i < r → LK x m i (s i) ∧ NB lp l ar x i) ∧ CN r ar x ∧ DI r l x
/-- a cell is taken -/
def OC (r l : Nat) (x : Me) (d la : Nat) : Prop := ∃ i e, i < r ∧ x 43 i = -1 ∧ x 40 i = nI la ∧ x 39 i + 2 = nI e ∧ e ≤ 400 ∧ e % l = d % l
noncomputable def fre (r l : Nat) (x : Me) (d la : Nat) : Bool := @decide (¬ OC r l x d la) (Classical.propDecidable _)
theorem fre_t {r l : Nat} {x : Me} {d la : Nat} (h : fre r l x d la = true) : ¬ OC r l x d la := by
  unfold fre at h
  exact @of_decide_eq_true _ (Classical.propDecidable _) h
theorem fre_0 {r l : Nat} {x : Me} {d la : Nat} (h : OC r l x d la) : fre r l x d la = false := by
  unfold fre
  exact @decide_eq_false _ (Classical.propDecidable _) (fun z => z h)
theorem fre_1 {r l : Nat} {x : Me} {d la : Nat} (h : ¬ OC r l x d la) : fre r l x d la = true := by
  unfold fre
  exact @decide_eq_true _ (Classical.propDecidable _) h
abbrev FX : List Nat := [30, 34, 35, 36, 39, 40, 41, 42, 43, 44, 49]
abbrev FM : List Nat := [29, 37, 38, 39, 40, 41, 42, 43, 44, 45, 49]
theorem ST_of {nw r h l lp : Nat} {s : Nat → Nat} {x m x' m' : Me} (hS : ST nw r h l lp s x m) (hx : ∀ f, inL FX f = false → x' f = x f) (hm : ∀ f, inL FM f = false → m' f = m f) : ST nw r h l lp s x' m' := by
  obtain ⟨gx, rfl⟩ := msL_of hx
  obtain ⟨gm, rfl⟩ := msL_of hm
  exact hS
section PUR24
variable {fu nw r h l lp ar : Nat} {s : Nat → Nat} {x m : Me}
theorem lpl (hS : ST nw r h l lp s x m) : 12 ≤ lp * l ∧ lp * l ≤ 300 := by
  obtain ⟨⟨_, _, _, h4, h5, h6, h7⟩, _⟩ := hS
  have a := Nat.mul_le_mul h6 h4
  have b := Nat.mul_le_mul h7 h5
  omega
theorem ifX (hS : ST nw r h l lp s x m) (hD : DY r l lp s ar x m) {a : Int32} {d la : Nat} (ha : a + 2 = nI d) (hd : d ≤ 400) (hla : la < 100) : ∀ (k i n : Nat), i + k = r → k < n → (∀ j, j < i → ¬ (x 43 j = -1 ∧ x 40 j = nI la ∧ ∃ e, x 39 j + 2 = nI e ∧ e ≤ 400 ∧ e % l = d % l)) → f_X2_isFree_2 fu nw a (nI la) (fun (x_9 : Me) => some (x_9, 1)) n x (nI i) = some (x, b01 (fre r l x d la))
  | 0, i, n + 1, hi, _, hno => by
    have h29 := hS.2.1.2.2.1
    have hr := hS.1.2.1
    rw [f_X2_isFree_2_s, h29, if_pos (nI_le (by omega) (by omega)), fre_1 (fun ⟨j, e, j1, j2, j3, j4, j5, j6⟩ => hno j (by omega) ⟨j2, j3, e, j4, j5, j6⟩)]
    rfl
  | k + 1, i, n + 1, hi, hn, hno => by
    have h29 := hS.2.1.2.2.1
    have h25 := hS.2.1.2.2.2.2.1
    obtain ⟨_, hr, _, hl, hl2, _⟩ := hS.1
    have hlp := lpl hS
    obtain ⟨⟨e, e1, e2, e3⟩, ⟨lj, lj1, lj2⟩, _⟩ := (hD.2.1 i (by omega)).2
    have ih := fun hno => ifX hS hD ha hd hla k (i + 1) n (by omega) (by omega) hno
    have hnx : ¬ (x 43 i = -1 ∧ x 40 i = nI la ∧ ∃ e, x 39 i + 2 = nI e ∧ e ≤ 400 ∧ e % l = d % l) → f_X2_isFree_2 fu nw a (nI la) (fun (x_9 : Me) => some (x_9, 1)) n x (nI (i + 1)) = some (x, b01 (fre r l x d la)) := fun c => ih (fun j hj => by
      by_cases q : j = i
      · rw [q]; exact c
      · exact hno j (by omega))
    rw [f_X2_isFree_2_s, h29, h25, if_neg (nI_ge (by omega) (by omega)), if_neg (nI_nle (by omega) (by omega)), if_pos (inb_nI (by omega) (by decide)), nI_clamp (by omega), nI_1]
    unfold f_X4_onRing
    rw [if_pos (show i < 10 by omega)]
    by_cases q1 : x 43 i = -1
    · rw [if_pos q1, ob_s, if_neg n10]
      by_cases q2 : x 40 i = nI la
      · rw [if_pos q2, h25, if_pos (nI_ne0 (by omega) (by omega))]
        by_cases q3 : e % l = d % l
        · rw [if_pos ((rem_sp e1 ha (by omega) (by omega) hl hl2).mpr q3), fre_0 ⟨i, e, by omega, q1, q2, e1, by omega, q3⟩]
          rfl
        · rw [if_neg (fun z => q3 ((rem_sp e1 ha (by omega) (by omega) hl hl2).mp z))]
          exact hnx (fun ⟨_, _, e', z1, z2, z3⟩ => q3 (by
            have := (nI_eq (by omega) (by omega)).mp (e1.symm.trans z1)
            rw [this]; exact z3))
      · rw [if_neg q2]
        exact hnx (fun z => q2 z.2.1)
    · rw [if_neg q1, ob_s, if_pos (show (0 : Int32) = 0 from rfl)]
      exact hnx (fun z => q1 z.1)
  | 0, _, 0, _, h, _ => absurd h (by omega)
  | k + 1, _, 0, _, h, _ => absurd h (by omega)
theorem ifM (hS : ST nw r h l lp s x m) (hD : DY r l lp s ar x m) {a : Int32} {d la : Nat} (ha : a + 2 = nI d) (hd : d ≤ 400) (hla : la < 100) : ∀ (k w n : Nat), w + k = nw → k < n → (∀ j, j < r → s j < w → ¬ (x 43 j = -1 ∧ x 40 j = nI la ∧ ∃ e, x 39 j + 2 = nI e ∧ e ≤ 400 ∧ e % l = d % l)) → f_X11_isFree_2 fu a (nI la) (fun (x_9 : Me) => some (x_9, 1)) n m (nI w) = some (m, b01 (fre r l x d la))
  | 0, w, n + 1, hi, _, hno => by
    have h17 := hS.2.1.2.1
    have hr := hS.1.1
    rw [f_X11_isFree_2_s, h17, if_pos (nI_le (by omega) (by omega)), fre_1 (fun ⟨j, e, j1, j2, j3, j4, j5, j6⟩ => hno j j1 (by have := (hS.2.2.2.2.1 j j1).1; omega) ⟨j2, j3, e, j4, j5, j6⟩)]
    rfl
  | k + 1, w, n + 1, hi, hn, hno => by
    have h17 := hS.2.1.2.1
    have h35 := hS.2.1.2.2.2.2.2.1
    obtain ⟨hnw, hr, _, hl, hl2, _⟩ := hS.1
    have hlp := lpl hS
    have ih := fun hno => ifM hS hD ha hd hla k (w + 1) n (by omega) (by omega) hno
    have hnx : (∀ j, j < r → s j = w → ¬ (x 43 j = -1 ∧ x 40 j = nI la ∧ ∃ e, x 39 j + 2 = nI e ∧ e ≤ 400 ∧ e % l = d % l)) → f_X11_isFree_2 fu a (nI la) (fun (x_9 : Me) => some (x_9, 1)) n m (nI (w + 1)) = some (m, b01 (fre r l x d la)) := fun c => ih (fun j hj hjw => by
      by_cases q : s j = w
      · exact c j hj q
      · exact hno j hj (by omega))
    rw [f_X11_isFree_2_s, h17, if_neg (nI_ge (by omega) (by omega)), nI_1]
    unfold f_X11_isOn
    rw [if_pos (inb_nI (by omega) (by decide)), nI_clamp (by omega)]
    rcases hS.2.2.2.2.2.2.2.1 w (by omega) with q0 | q0
    · rw [if_pos q0, ob_s, if_pos (show (0 : Int32) = 0 from rfl)]
      refine hnx (fun j hj hjw => ?_)
      have := (hS.2.2.2.2.1 j hj).2.1
      rw [hjw, q0] at this
      exact absurd this (by decide)
    · obtain ⟨i, hir, hiw⟩ := hS.2.2.2.2.2.2.1 w (by omega) q0
      obtain ⟨⟨L1, L2, L3, L4, L5, L6⟩, ⟨e, e1, e2, e3⟩, ⟨lj, lj1, lj2⟩, _⟩ := hD.2.1 i hir
      rw [hiw] at L1 L2 L3 L4 L5 L6
      have huq : ∀ j, j < r → s j = w → j = i := fun j hj hjw => hS.2.2.2.2.2.1 j i hj hir (by rw [hjw, hiw])
      rw [if_neg (show ¬ m 23 w = 0 by rw [q0]; decide), ← L5]
      by_cases q1 : x 43 i = -1
      · rw [if_pos q1, ob_s, if_neg n10, if_pos (inb_nI (by omega) (by decide)), ← L2]
        by_cases q2 : x 40 i = nI la
        · have e1' : m 37 w + 2 = nI e := by rw [← L1]; exact e1
          rw [if_pos q2, co_f h35 hl hl2 e1' (by omega), ob_s, co_f h35 hl hl2 ha (by omega), ob_s]
          have hc1 := Nat.mod_lt (e + l - 2) (show 0 < l by omega)
          have hc2 := Nat.mod_lt (d + l - 2) (show 0 < l by omega)
          have hcc : nI (cel l e) = nI (cel l d) ↔ e % l = d % l := by
            rw [nI_eq (by unfold cel; omega) (by unfold cel; omega), cel_eq hl]
          by_cases q3 : e % l = d % l
          · rw [if_pos (hcc.mpr q3), fre_0 ⟨i, e, hir, q1, q2, e1, by omega, q3⟩]
            rfl
          · rw [if_neg (fun z => q3 (hcc.mp z))]
            refine hnx (fun j hj hjw => ?_)
            rw [huq j hj hjw]
            exact fun ⟨_, _, e', z1, z2, z3⟩ => q3 (by
              have := (nI_eq (by omega) (by omega)).mp (e1.symm.trans z1)
              rw [this]; exact z3)
        · rw [if_neg q2]
          refine hnx (fun j hj hjw => ?_)
          rw [huq j hj hjw]
          exact fun z => q2 z.2.1
      · rw [if_neg q1, ob_s, if_pos (show (0 : Int32) = 0 from rfl)]
        refine hnx (fun j hj hjw => ?_)
        rw [huq j hj hjw]
        exact fun z => q1 z.1
  | 0, _, 0, _, h, _ => absurd h (by omega)
  | k + 1, _, 0, _, h, _ => absurd h (by omega)
theorem iX (hfu : 70000 ≤ fu) (hS : ST nw r h l lp s x m) (hD : DY r l lp s ar x m) {a : Int32} {d la : Nat} (ha : a + 2 = nI d) (hd : d ≤ 400) (hla : la < 100) : f_X2_isFree fu nw x a (nI la) = some (x, b01 (fre r l x d la)) :=
  ifX (fu := fu) hS hD ha hd hla r 0 fu (by omega) (by have := hS.1.2.1; omega) (fun j hj => absurd hj (by omega))
theorem iM (hfu : 70000 ≤ fu) (hS : ST nw r h l lp s x m) (hD : DY r l lp s ar x m) {a : Int32} {d la : Nat} (ha : a + 2 = nI d) (hd : d ≤ 400) (hla : la < 100) : f_X11_isFree fu m a (nI la) = some (m, b01 (fre r l x d la)) :=
  ifM (fu := fu) hS hD ha hd hla nw 0 fu (by omega) (by have := hS.1.1; omega) (fun j hj hjw => absurd hjw (by omega))
/-- the lane that is taken instead, if there is one -/
noncomputable def nlB (r l : Nat) (x : Me) (d la : Nat) : Option Nat := if 0 < la ∧ fre r l x d (la - 1) = true then some (la - 1) else if la < 3 ∧ fre r l x d (la + 1) = true then some (la + 1) else none
noncomputable def oI (o : Option Nat) : Int32 := match o with
  | none => -1
  | some b => nI b
theorem nlB_p {d la b : Nat} (hla : la < 4) (hb : nlB r l x d la = some b) : b < 4 ∧ ¬ OC r l x d b ∧ b ≠ la := by
  unfold nlB at hb
  by_cases q : 0 < la ∧ fre r l x d (la - 1) = true
  · rw [if_pos q] at hb
    have := Option.some.inj hb
    subst this
    exact ⟨by omega, fre_t q.2, by omega⟩
  · rw [if_neg q] at hb
    by_cases q2 : la < 3 ∧ fre r l x d (la + 1) = true
    · rw [if_pos q2] at hb
      have := Option.some.inj hb
      subst this
      exact ⟨by omega, fre_t q2.2, by omega⟩
    · rw [if_neg q2] at hb; cases hb
theorem lb_sp (hfu : 70000 ≤ fu) (hS : ST nw r h l lp s x m) (hD : DY r l lp s ar x m) {a : Int32} {d la : Nat} (ha : a + 2 = nI d) (hd : d ≤ 400) (hla : la < 4) : f_X2_laneBeside fu nw x a (nI la) = some (x, oI (nlB r l x d la)) := by
  unfold f_X2_laneBeside nlB
  simp only [jn]
  have up : (if (3 : Int32) ≤ nI la then some (x, (-1 : Int32)) else ob (f_X2_isFree fu nw x a (nI la + 1)) (fun x_2 r_2 => if r_2 = 0 then some (x_2, (-1)) else some (x_2, nI la + 1))) = some (x, oI (if la < 3 ∧ fre r l x d (la + 1) = true then some (la + 1) else none)) := by
    by_cases q : la < 3
    · rw [if_neg (show ¬ (3 : Int32) ≤ nI la from nI_ge (b := 3) q (by decide)), nI_1, iX hfu hS hD ha hd (by omega), ob_s]
      cases z : fre r l x d (la + 1) with
      | true => rw [if_neg (show ¬ b01 true = 0 by decide), if_pos ⟨q, rfl⟩]; rfl
      | false => rw [if_pos (show b01 false = 0 from rfl), if_neg (show ¬ (la < 3 ∧ false = true) from fun c => by cases c.2)]; rfl
    · rw [if_pos (show (3 : Int32) ≤ nI la from nI_le (a := 3) (by omega) (by omega)), if_neg (show ¬ (la < 3 ∧ fre r l x d (la + 1) = true) from fun c => q c.1)]; rfl
  by_cases q : 0 < la
  · rw [if_neg (nI_nle q (by omega)), show nI la - 1 = nI (la - 1) from pk_sub (b := 1) q, iX hfu hS hD ha hd (by omega), ob_s]
    cases z : fre r l x d (la - 1) with
    | true => rw [if_neg (show ¬ b01 true = 0 by decide), if_pos ⟨q, rfl⟩]; rfl
    | false => rw [if_pos (show b01 false = 0 from rfl), up, if_neg (show ¬ (0 < la ∧ false = true) from fun c => by cases c.2)]
  · rw [if_pos (show nI la ≤ 0 from nI_le (b := 0) (by omega) (by decide)), up, if_neg (show ¬ (0 < la ∧ fre r l x d (la - 1) = true) from fun c => q c.1)]
theorem iL {b : Nat} (hb : b < 100) : f_X11_isLane fu m (nI b) = some (m, b01 (decide (b ≤ 3))) := by
  unfold f_X11_isLane
  rw [if_neg (nI_pos (by omega))]
  by_cases q : b ≤ 3
  · rw [if_neg (show ¬ (3 : Int32) < nI b from nI_nlt (a := 3) q (by decide)), decide_eq_true q]; rfl
  · rw [if_pos (show (3 : Int32) < nI b from nI_lt (a := 3) (by omega) (by omega)), decide_eq_false q]; rfl
theorem iLm {la : Nat} (hla : la < 4) : f_X11_isLane fu m (nI la - 1) = some (m, b01 (decide (0 < la))) := by
  by_cases q : 0 < la
  · rw [show nI la - 1 = nI (la - 1) from pk_sub (b := 1) q, iL (by omega), decide_eq_true (show la - 1 ≤ 3 by omega), decide_eq_true q]
  · have : la = 0 := by omega
    subst this
    rfl
end PUR24
