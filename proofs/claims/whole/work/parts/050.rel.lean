/-! THE PURE SIDE: how the class's memory x and the reference's m belong together -/
def RA (nw y st tl ns h l np : Nat) (x m : Me) : Prop :=
  (x 1 0 = nI y ∧ m 3 0 = nI y ∧ y ≤ 99) ∧ (x 2 0 = nI st ∧ m 4 0 = nI st ∧ st ≤ 5) ∧ (x 4 0 = nI tl ∧ m 2 0 = nI tl ∧ tl ≤ 600) ∧ (x 10 0 = nI ns ∧ m 7 0 = nI ns ∧ ns ≤ 10) ∧ (x 13 0 = nI nw ∧ m 17 0 = nI nw ∧ nw ≤ 17) ∧ (x 15 0 = nI h ∧ m 26 0 = nI h ∧ h ≤ 16) ∧ (x 25 0 = nI l ∧ m 35 0 = nI l ∧ 12 ≤ l ∧ l ≤ 60) ∧ (x 45 0 = nI np ∧ m 53 0 = nI np ∧ np ≤ 40) ∧ (x 8 0 = m 15 0 ∧ x 9 0 = m 16 0)
/-- the tape's bytes -/
def RT (tl : Nat) (x m : Me) : Prop := ∀ j, j < tl → ∃ b, b < 256 ∧ m 1 j = nI b ∧ x 3 j = (nI b).toInt8.toInt32
/-- what a line may say -/
def okv (w : Nat) (v : Int32) : Prop := v = -1 ∨ ∃ n, v = nI n ∧ (([2, 1, 1, 0, 0, 0, 0] : List Nat).getD w 0) ≤ n ∧ n ≤ (([10, 5, 9, 1, 9, 9, 9] : List Nat).getD w 0)
def RS (ns : Nat) (x m : Me) : Prop := ∀ i, i < ns → (∃ fy, fy ≤ 99 ∧ x 11 i = nI fy ∧ m 5 i = nI fy) ∧ ∀ w, w < 7 → x 12 (7 * i + w) = m 6 (7 * i + w) ∧ okv w (m 6 (7 * i + w))
def RW (nw : Nat) (x m : Me) : Prop := (∀ j, j < nw → x 50 j = m 23 j ∧ (m 23 j = 0 ∨ m 23 j = 1) ∧ x 52 j = m 18 j ∧ x 53 j = m 19 j ∧ x 54 j = m 20 j ∧ x 55 j = m 21 j) ∧ ∀ j, nw ≤ j → j < 17 → m 18 j = -1 ∧ m 19 j = -1 ∧ m 20 j = 0 ∧ m 21 j = 0 ∧ m 23 j = 0
def RH (h : Nat) (x m : Me) : Prop := ∀ i, i < h → (∃ k, k ≤ 999 ∧ x 16 i = nI k ∧ m 27 i = nI k) ∧ x 17 i = m 28 i ∧ (m 28 i = 0 ∨ m 28 i = 1)
def RB (x m : Me) : Prop := ∀ c, c < 60 → x 26 c = m 36 c ∧ (m 36 c = 0 ∨ m 36 c = 1)
def RO (nw : Nat) (x m : Me) : Prop := ∀ j, j < 17 → x 27 j = m 24 j ∧ x 28 j = m 25 j ∧ (m 24 j = 0 ∨ ((m 24 j = 1 ∨ m 24 j = 2) ∧ ∃ o, o < nw ∧ o ≠ j ∧ m 25 j = nI o))
def RP (nw np : Nat) (x m : Me) : Prop := ∀ i, i < np → x 48 i = m 52 i ∧ ∃ a b, a < nw ∧ b < nw ∧ a ≠ b ∧ x 46 i = nI a ∧ m 50 i = nI a ∧ x 47 i = nI b ∧ m 51 i = nI b
/-- by the stage -/
def R0 (nw st : Nat) (x m : Me) : Prop := (st = 0 → ∀ j, j < nw → m 23 j = 0) ∧ (st < 3 → ∀ j, j < nw → x 51 j = -1) ∧ (st < 4 → m 44 0 = 0)
/-- the wards that run, by numbers -/
def runs (nw : Nat) (m : Me) : List Nat := (List.range nw).filter (fun j => decide (m 23 j = 1))
def R1 (nw st r : Nat) (x m : Me) : Prop := 1 ≤ st → x 20 0 = nI r ∧ m 30 0 = nI r ∧ 2 ≤ r ∧ r ≤ 10 ∧ (runs nw m).length = r ∧ ∀ k, k < r → x 21 k = nI ((runs nw m).getD k 0)
def R2 (st r h : Nat) (x m : Me) : Prop := 2 ≤ st → ∀ k, k < r → ∃ i, i < h ∧ x 18 k = nI i ∧ m 31 k = nI i
def R3 (nw st r h : Nat) (x m : Me) : Prop := 3 ≤ st →
  (∀ p, p < r → ∃ w, w < nw ∧ x 22 p = nI w ∧ m 32 p = nI w ∧ m 23 w = 1) ∧ ((∀ p q, p < r → q < r → m 32 p = m 32 q → p = q) ∧ ∀ j, j < nw → m 23 j = 1 → ∃ p, p < r ∧ m 32 p = nI j) ∧
  (∀ j, j < nw → (m 23 j = 1 → ∃ i, i < h ∧ x 51 j = nI i ∧ m 22 j = nI i) ∧ (m 23 j = 0 → x 51 j = -1)) ∧
  (st = 3 → ∀ p, p < r → (x 23 p = -1 ∧ m 33 p = m 32 p) ∨ ∃ w, w < nw ∧ x 23 p = nI w ∧ m 33 p = nI w)
/-- the race: a runner i of the class is the ward w of the reference -/
def R4a (x m : Me) (i w : Nat) : Prop := x 37 i = nI w ∧ x 39 i = m 37 w ∧ x 40 i = m 38 w ∧ x 41 i = m 39 w ∧ x 42 i = m 40 w ∧ x 43 i = m 41 w ∧ x 44 i = m 42 w
/-- what holds of a ward's numbers on the ring -/
def R4b (lp l r ar : Nat) (m : Me) (w : Nat) : Prop := (∃ d, m 37 w + 2 = nI d ∧ d ≤ lp * l + 2 ∧ (m 41 w = -1 → d < lp * l + 2)) ∧ (∃ la, la < 4 ∧ m 38 w = nI la) ∧ (∃ pc, pc ≤ 6 ∧ m 39 w = nI pc) ∧ (m 40 w = 0 ∨ m 40 w = 1) ∧ (m 41 w = -1 ∨ ∃ k, k < ar ∧ m 41 w = nI k)
def R4 (nw st r h l : Nat) (x m : Me) : Prop := 4 ≤ st → ∃ lp t ar, 1 ≤ lp ∧ lp ≤ 5 ∧ t ≤ 400 ∧ ar ≤ r ∧
  (x 29 0 = nI r ∧ x 31 0 = nI lp ∧ m 46 0 = nI lp ∧ x 32 0 = m 47 0 ∧ x 33 0 = m 48 0 ∧ (m 48 0 = 0 ∨ m 48 0 = 1) ∧ x 34 0 = nI t ∧ m 44 0 = nI t ∧ x 35 0 = nI ar ∧ m 43 0 = nI ar ∧ x 36 0 = m 45 0) ∧
  (∀ i w, i < r → m 32 i = nI w → w < nw → R4a x m i w) ∧ (st = 4 → x 49 1 = m 29 0 ∧ ar < r ∧ t < 400 ∧
    (∀ i w, i < r → m 32 i = nI w → w < nw → R4b lp l r ar m w ∧ ∃ hh, hh < h ∧ x 51 w = nI hh ∧ x 38 i = 3 + x 16 hh / 250) ∧
    ((List.range r).filter (fun i => decide (x 43 i = -1))).length + ar = r ∧
    (∀ i j, i < r → j < r → i ≠ j → x 43 i = -1 → x 43 j = -1 → x 40 i = x 40 j → ∀ d e : Nat, d ≤ 400 → e ≤ 400 → x 39 i + 2 = nI d → x 39 j + 2 = nI e → ¬ d % l = e % l))
def Rel (nw : Nat) (x m : Me) : Prop := ∃ y st tl ns h l np r : Nat, RA nw y st tl ns h l np x m ∧ RT tl x m ∧ RS ns x m ∧ RW nw x m ∧ RH h x m ∧ RB x m ∧ RO nw x m ∧ RP nw np x m ∧ R0 nw st x m ∧ R1 nw st r x m ∧ R2 st r h x m ∧ R3 nw st r h x m ∧ R4 nw st r h l x m
theorem rel_start : Rel 0 x0 m0 := by
  refine ⟨0, 0, 0, 0, 0, 20, 0, 0, ⟨⟨rfl, rfl, by decide⟩, ⟨rfl, rfl, by decide⟩, ⟨rfl, rfl, by decide⟩, ⟨rfl, rfl, by decide⟩, ⟨rfl, rfl, by decide⟩, ⟨rfl, rfl, by decide⟩, ⟨rfl, rfl, by decide, by decide⟩, ⟨rfl, rfl, by decide⟩, rfl, rfl⟩, fun j hj => absurd hj (by omega), fun i hi => absurd hi (by omega), ⟨fun j hj => absurd hj (by omega), fun j _ hj => ⟨ch17_in j hj, ch17_in j hj, rfl, rfl, rfl⟩⟩, fun i hi => absurd hi (by omega), fun c _ => ⟨rfl, Or.inl rfl⟩, fun j _ => ⟨rfl, rfl, Or.inl rfl⟩, fun i hi => absurd hi (by omega), ⟨fun _ j hj => absurd hj (by omega), fun _ j hj => absurd hj (by omega), fun _ => rfl⟩, fun h => absurd h (by omega), fun h => absurd h (by omega), fun h => absurd h (by omega), fun h => absurd h (by omega)⟩
/-! tools: numbers -/
theorem inb_nI {i n : Nat} (h : i < n) (hn : n < 2 ^ 31) : inb (nI i) n = true := by
  have h1 := nI_in h hn
  unfold inb
  simp only [Bool.not_eq_true', Bool.or_eq_false_iff, decide_eq_false_iff_not]
  exact ⟨fun q => h1 (Or.inl q), fun q => h1 (Or.inr q)⟩
theorem inb_of {x : Int32} {n : Nat} (h : inb x n = true) (hn : n < 2 ^ 31) : ∃ j, j < n ∧ x = nI j := vp_in_of (inb_in h) hn
theorem inb_nn {x : Int32} {n : Nat} (h0 : ¬ x < 0) (h1 : x < nI n) (hn : n < 2 ^ 31) : ∃ j, j < n ∧ x = nI j := by
  obtain ⟨j, hj, rfl⟩ := nI_of h0
  exact ⟨j, (nI_ltI hj hn).mp h1, rfl⟩
theorem mu_same (x : Me) (f i : Nat) (v : Int32) : mu x f i v f i = v := by unfold mu; rw [if_pos rfl, if_pos rfl]
theorem mu_ne (x : Me) (f i j : Nat) (v : Int32) (h : j ≠ i) : mu x f i v f j = x f j := by unfold mu; rw [if_pos rfl, if_neg h]
theorem mu_nf (x : Me) (f g i j : Nat) (v : Int32) (h : g ≠ f) : mu x f i v g j = x g j := by unfold mu; rw [if_neg h]
theorem vz1 : vp_nar .boolean 1 = 1 := rfl
theorem vz0 : vp_nar .boolean 0 = 0 := rfl
/-! the first calls -/
theorem st_fault {fu nw : Nat} {x m : Me} (h : Rel nw x m) : ∀ a, S2 Rel nw (f_X10_fault fu nw x a) (f_X11_fault fu m a) := by
  intro a
  obtain ⟨y, st, tl, ns, hh, l, np, r, hA, hT, hS, hW, hH, hB, hO, hP, h0, h1, h2, h3, h4⟩ := h
  have hR : Rel nw x (mu m 0 0 0) := ⟨y, st, tl, ns, hh, l, np, r, hA, hT, hS, hW, hH, hB, hO, hP, h0, h1, h2, h3, h4⟩
  unfold f_X10_fault f_X11_fault
  by_cases c0 : a = 0
  · rw [if_pos c0, if_pos c0]
    exact ⟨x, _, _, rfl, by rw [hA.2.2.2.2.2.2.2.2.1], hR⟩
  · rw [if_neg c0, if_neg c0]
    by_cases c1 : a = 1
    · rw [if_pos c1, if_pos c1]
      exact ⟨x, _, _, rfl, by rw [hA.2.2.2.2.2.2.2.2.2], hR⟩
    · rw [if_neg c1, if_neg c1]
      exact ⟨x, _, _, rfl, rfl, hR⟩
