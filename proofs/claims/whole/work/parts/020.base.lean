/-! memory of the two sides: a field (or a row) by its number, a member (or a place) by its number -/
abbrev Me : Type := Nat → Nat → Int32
def mu (x : Me) (f i : Nat) (v : Int32) : Me := fun f' i' => if f' = f then (if i' = i then v else x f i') else x f' i'
def inb (i : Int32) (n : Nat) : Bool := !(decide (i < 0) || decide (n ≤ i.toNatClampNeg))
theorem inb_in {i : Int32} {n : Nat} (h : inb i n = true) : vp_in i n := by
  intro q
  rcases q with q | q
  · simp [inb, q] at h
  · simp [inb, q] at h
theorem inb_lt {i : Int32} {n : Nat} (h : inb i n = true) : i.toNatClampNeg < n := Nat.not_le.mp fun q => inb_in h (Or.inr q)
def ob {α ρ : Type} (o : Option (Me × α)) (k : Me → α → Option ρ) : Option ρ := match o with
  | none => none
  | some q => k q.1 q.2
theorem ob_some {α ρ : Type} {o : Option (Me × α)} {k : Me → α → Option ρ} {v : ρ} (h : ob o k = some v) : ∃ (x : Me) (a : α), o = some (x, a) ∧ k x a = some v := by
  cases o with
  | none => cases h
  | some q => exact ⟨q.1, q.2, rfl, h⟩
def jn {α ρ : Type} (j : α) (k : α → ρ) : ρ := k j
theorem i_t {c : Prop} [Decidable c] {ρ : Type} {a b v : ρ} (h : (if c then a else b) = v) (hc : c) : a = v := by rw [if_pos hc] at h; exact h
theorem i_f {c : Prop} [Decidable c] {ρ : Type} {a b v : ρ} (h : (if c then a else b) = v) (hc : ¬ c) : b = v := by rw [if_neg hc] at h; exact h
theorem i_n {c : Prop} [Decidable c] {ρ : Type} {a : Option ρ} {v : ρ} (h : (if c then a else none) = some v) : c ∧ a = some v := by
  by_cases hc : c
  · rw [if_pos hc] at h; exact ⟨hc, h⟩
  · rw [if_neg hc] at h; cases h
/-- what is fixed of the worlds: the cells that are ours, the classes' numbers, the cells' addresses, the rows' classes, static rows, text constants -/
abbrev GG : Type := (Nat → Prop) × va_G × (Nat → Nat) × (Nat → ClassId) × (Nat → Nat) × (Nat → Nat) × (Nat → Nat)
def gA (G : GG) : Nat → Prop := G.1
def gD (G : GG) : va_G := G.2.1
def ga (G : GG) : Nat → Nat := G.2.2.1
def gc (G : GG) : Nat → ClassId := G.2.2.2.1
def gs (G : GG) : Nat → Nat := G.2.2.2.2.1
def gk (G : GG) : Nat → Nat := G.2.2.2.2.2.1
def gv (G : GG) : Nat → Nat := G.2.2.2.2.2.2
/-- the objects' fields -/
def oX10 (G : GG) (x : Me) : List Value := [.ref (ga G 1), .ref (ga G 4), .ref (ga G 7), .ref (ga G 9), .ref (ga G 14), .ref (ga G 19), .ref (ga G 36), .ref (ga G 40), .int (x 1 0), .int (x 2 0)]
def oX7 (G : GG) (x : Me) : List Value := [.ref (ga G 2), .int (x 4 0), .int (x 5 0), .int (x 6 0), .ref (ga G 3), .int (x 8 0), .int (x 9 0)]
def oX6 (G : GG) (x : Me) : List Value := [.int (x 10 0), .ref (ga G 5), .ref (ga G 6)]
def oX8 (G : GG) (x : Me) : List Value := [.int (x 13 0), .ref (ga G 8)]
def oX5 (G : GG) (x : Me) : List Value := [.int (x 15 0), .ref (ga G 10), .ref (ga G 11), .ref (ga G 12), .ref (ga G 13)]
def oX3 (G : GG) (x : Me) : List Value := [.int (x 20 0), .ref (ga G 15), .ref (ga G 16), .ref (ga G 17), .ref (ga G 18)]
def oX1 (G : GG) (x : Me) : List Value := [.int (x 45 0), .ref (ga G 37), .ref (ga G 38), .ref (ga G 39)]
def oX2 (G : GG) (x : Me) : List Value := [.int (x 25 0), .ref (ga G 20), .ref (ga G 21), .ref (ga G 22), .int (x 29 0), .ref (ga G 23), .ref (ga G 24), .ref (ga G 25), .int (x 31 0), .int (x 32 0), .int (x 33 0), .int (x 34 0), .int (x 35 0), .int (x 36 0)]
def oX0 (x : Me) (i : Nat) : List Value := [.int (x 49 i)]
def oX4 (x : Me) (i : Nat) : List Value := [.int (x 37 i), .int (x 38 i), .int (x 39 i), .int (x 40 i), .int (x 41 i), .int (x 42 i), .int (x 43 i), .int (x 44 i)]
def oX9 (x : Me) (i : Nat) : List Value := [.int (x 50 i), .int (x 51 i), .int (x 52 i), .int (x 53 i), .int (x 54 i), .int (x 55 i)]
def oX11 (G : GG) (x : Me) : List Value := [.int (x 0 0), .ref (ga G 42), .int (x 2 0), .int (x 3 0), .int (x 4 0), .ref (ga G 43), .ref (ga G 44), .int (x 7 0), .int (x 8 0), .int (x 9 0), .int (x 10 0), .int (x 11 0), .int (x 12 0), .int (x 13 0), .int (x 14 0), .int (x 15 0), .int (x 16 0), .int (x 17 0), .ref (ga G 45), .ref (ga G 46), .ref (ga G 47), .ref (ga G 48), .ref (ga G 49), .ref (ga G 50), .ref (ga G 51), .ref (ga G 52), .int (x 26 0), .ref (ga G 53), .ref (ga G 54), .int (x 29 0), .int (x 30 0), .ref (ga G 55), .ref (ga G 56), .ref (ga G 57), .int (x 34 0), .int (x 35 0), .ref (ga G 58), .ref (ga G 59), .ref (ga G 60), .ref (ga G 61), .ref (ga G 62), .ref (ga G 63), .ref (ga G 64), .int (x 43 0), .int (x 44 0), .int (x 45 0), .int (x 46 0), .int (x 47 0), .int (x 48 0), .ref (ga G 65), .ref (ga G 66), .ref (ga G 67), .ref (ga G 68), .int (x 53 0)]
/-- the cells of the first, of the second, the wards -/
def mwX (G : GG) (nw : Nat) (x : Me) : va_W := [(ga G 0, .inr (10, oX10 G x)), (ga G 1, .inr (7, oX7 G x)), (ga G 2, .inl (gc G 0, 600, .inl (x 3))), (ga G 3, .inl (gc G 1, 7, .inl (x 7))), (ga G 4, .inr (6, oX6 G x)), (ga G 5, .inl (gc G 1, 10, .inl (x 11))), (ga G 6, .inl (gc G 1, 70, .inl (x 12))), (ga G 7, .inr (8, oX8 G x)), (ga G 8, .inl (gc G 4, 17, .inr (.inr (.inr (.inr (fun j => if j < nw then some (ga G (69 + j)) else none)))))), (ga G 9, .inr (5, oX5 G x)), (ga G 10, .inl (gc G 1, 16, .inl (x 16))), (ga G 11, .inl (gc G 2, 16, .inl (x 17))), (ga G 12, .inl (gc G 1, 10, .inl (x 18))), (ga G 13, .inl (gc G 1, 10, .inl (x 19))), (ga G 14, .inr (3, oX3 G x)), (ga G 15, .inl (gc G 1, 10, .inl (x 21))), (ga G 16, .inl (gc G 1, 10, .inl (x 22))), (ga G 17, .inl (gc G 1, 10, .inl (x 23))), (ga G 18, .inl (gc G 1, 10, .inl (x 24))), (ga G 19, .inr (2, oX2 G x)), (ga G 20, .inl (gc G 2, 60, .inl (x 26))), (ga G 21, .inl (gc G 1, 17, .inl (x 27))), (ga G 22, .inl (gc G 1, 17, .inl (x 28))), (ga G 23, .inl (gc G 3, 10, .inr (.inr (.inr (.inr (fun j => some (ga G (26 + j)))))))), (ga G 24, .inl (gc G 1, 10, .inl (x 30))), (ga G 25, .inr (0, oX0 x 1)), (ga G 26, .inr (4, oX4 x 0)), (ga G 27, .inr (4, oX4 x 1)), (ga G 28, .inr (4, oX4 x 2)), (ga G 29, .inr (4, oX4 x 3)), (ga G 30, .inr (4, oX4 x 4)), (ga G 31, .inr (4, oX4 x 5)), (ga G 32, .inr (4, oX4 x 6)), (ga G 33, .inr (4, oX4 x 7)), (ga G 34, .inr (4, oX4 x 8)), (ga G 35, .inr (4, oX4 x 9)), (ga G 36, .inr (1, oX1 G x)), (ga G 37, .inl (gc G 1, 40, .inl (x 46))), (ga G 38, .inl (gc G 1, 40, .inl (x 47))), (ga G 39, .inl (gc G 1, 40, .inl (x 48))), (ga G 40, .inr (0, oX0 x 0))]
def mwM (G : GG) (m : Me) : va_W := [(ga G 41, .inr (11, oX11 G m)), (ga G 42, .inl (gc G 1, 600, .inl (m 1))), (ga G 43, .inl (gc G 1, 10, .inl (m 5))), (ga G 44, .inl (gc G 1, 77, .inl (m 6))), (ga G 45, .inl (gc G 1, 17, .inl (m 18))), (ga G 46, .inl (gc G 1, 17, .inl (m 19))), (ga G 47, .inl (gc G 1, 17, .inl (m 20))), (ga G 48, .inl (gc G 1, 17, .inl (m 21))), (ga G 49, .inl (gc G 1, 17, .inl (m 22))), (ga G 50, .inl (gc G 2, 17, .inl (m 23))), (ga G 51, .inl (gc G 1, 17, .inl (m 24))), (ga G 52, .inl (gc G 1, 17, .inl (m 25))), (ga G 53, .inl (gc G 1, 16, .inl (m 27))), (ga G 54, .inl (gc G 2, 16, .inl (m 28))), (ga G 55, .inl (gc G 1, 10, .inl (m 31))), (ga G 56, .inl (gc G 1, 10, .inl (m 32))), (ga G 57, .inl (gc G 1, 10, .inl (m 33))), (ga G 58, .inl (gc G 2, 60, .inl (m 36))), (ga G 59, .inl (gc G 1, 17, .inl (m 37))), (ga G 60, .inl (gc G 1, 17, .inl (m 38))), (ga G 61, .inl (gc G 1, 17, .inl (m 39))), (ga G 62, .inl (gc G 2, 17, .inl (m 40))), (ga G 63, .inl (gc G 1, 17, .inl (m 41))), (ga G 64, .inl (gc G 1, 17, .inl (m 42))), (ga G 65, .inl (gc G 1, 17, .inl (m 49))), (ga G 66, .inl (gc G 1, 40, .inl (m 50))), (ga G 67, .inl (gc G 1, 40, .inl (m 51))), (ga G 68, .inl (gc G 1, 40, .inl (m 52)))]
def mwW (G : GG) (nw : Nat) (x : Me) : va_W := (List.range nw).map (fun j => (ga G (69 + j), .inr (9, oX9 x j)))
def mw (G : GG) (nw : Nat) (x m : Me) : va_W := mwX G nw x ++ (mwM G m ++ mwW G nw x)
def tyL (G : GG) : List (ClassId × FieldType) := [(gc G 0, .byte), (gc G 1, .int), (gc G 2, .boolean), (gc G 3, .object "RopeRace$Runner"), (gc G 4, .object "RopeRace$Ward")]
def MemP (G : GG) (nw : Nat) (x m : Me) (H : Heap) : Prop := va_P (gD G) vwCl (mw G nw x m) H ∧ va_D (gA G) (mw G nw x m)
def isNest : Cond → Bool
  | .fieldLinkNest _ _ _ _ _ _ => true
  | .methodLinkNest _ _ _ _ => true
  | _ => false
/-- the static rows -/
def tS : Nat → List Int32
  | 0 => [2, 1, 1, 0, 0, 0, 0]
  | 1 => [10, 5, 9, 1, 9, 9, 9]
  | _ => [3, 1, 9, 0, 0, 0, 0]
def nS : Nat → String
  | 0 => "LEAST_SAID"
  | 1 => "MOST_SAID"
  | _ => "UNTOLD"
/-- the texts -/
def txS : List String := ["run", "laps", "bend", "loose", "bar", "apart", "false", "run laps bend loose bar apart false "]
def bytS : List (List Int32) := [[114, 117, 110], [108, 97, 112, 115], [98, 101, 110, 100], [108, 111, 111, 115, 101], [98, 97, 114], [97, 112, 97, 114, 116], [102, 97, 108, 115, 101], [114, 117, 110, 32, 108, 97, 112, 115, 32, 98, 101, 110, 100, 32, 108, 111, 111, 115, 101, 32, 98, 97, 114, 32, 97, 112, 97, 114, 116, 32, 102, 97, 108, 115, 101, 32]]
def lenS : List Nat := [3, 4, 4, 5, 3, 5, 5, 36]
def EnvP (G : GG) (s : State) : Prop :=
  va_K (gD G) vwCl (tyL G) s ∧ (∀ w ∈ lw_tbl, (goodWord w || isNest w) = true → va_Nw w s) ∧ (∀ q, s.heap.size ≤ q → gA G q) ∧
  (∀ i, i < 3 → va_Z "RopeRace" (nS i) "[I" (.ref (gs G i)) (gA G) s s.heap ∧ va_T .int (gs G i) 7 (fun j => .int ((tS i).getD j 0)) (gA G) s s.heap) ∧
  va_Z "java/lang/String" "COMPACT_STRINGS" "Z" (.int 1) (gA G) s s.heap ∧ va_Zq "jdk/internal/util/Preconditions" "SIOOBE_FORMATTER" "Ljava/util/function/BiFunction;" (gA G) s s.heap ∧
  vk_S 8 lenS bytS (gk G) (gv G) (gA G) s s.heap ∧ (∀ i, i < 7 → vk_R "RopeRace$Tape" (92 + 2 * i) (txS.getD i "") (gk G i) s) ∧ vk_R "RopeRaceModel" 137 "run laps bend loose bar apart false " (gk G 7) s
theorem ew {G : GG} {s : State} {args : Array Value} {w : Cond} (hE : EnvP G s) (h : w ∈ lw_tbl) (hg : goodWord w = true) : w.before args s = true :=
  word_at (State.WarmedH.refl s) (good_of_word hg) (hE.2.1 w h (by rw [hg]; rfl))
theorem en_F {G : GG} {s : State} {args : Array Value} {a : String} {i : Nat} {b n d h : String} (hE : EnvP G s) (hw : Cond.fieldLinkNest a i b n d h ∈ lw_tbl) : (Cond.fieldLinkNest a i b n d h).before args s = true :=
  va_Nw.use rfl (hE.2.1 _ hw (by simp [isNest]))
theorem en_M {G : GG} {s : State} {a : String} {i : Nat} {y : MethodName} {h : String} (hE : EnvP G s) (hw : Cond.methodLinkNest a i y h ∈ lw_tbl) : va_Nw (Cond.methodLinkNest a i y h) s :=
  hE.2.1 _ hw (by simp [isNest])
theorem EnvP.move {G : GG} {s U : State} {H : Heap} {locs : List Loc} (hE : EnvP G s) (hW : s.WarmedH U.vm) (hU : U.heap = H) (hS : va_S (gA G) s.heap H locs) : EnvP G U := by
  obtain ⟨h1, h2, h3, h4, h5, h6, h7, h8, h9⟩ := hE
  have hk : ∀ a : Nat, a < s.heap.size → ¬ gA G a → U.heap[a]? = s.heap[a]? := fun a q r => by rw [hU]; exact hS.2.1 a q r
  refine ⟨va_K.moved hW.alike h1, fun w hw hg => ?_, fun q hq => h3 q (Nat.le_trans hS.1 (by rw [← hU]; exact hq)), fun i hi => ⟨va_Z.moved hW.alike ((h4 i hi).1.kept hk), va_T.moved hW.alike ((h4 i hi).2.kept hk)⟩, va_Z.moved hW.alike (h5.kept hk), va_Zq.moved hW.alike (h6.kept hk), vk_S.moved hW.alike (h7.kept hk), fun i hi => vk_R.warm hW (h8 i hi), vk_R.warm hW h9⟩
  cases hgw : goodWord w with
  | true => exact word_at hW (good_of_word hgw) (h2 w hw hg)
  | false =>
    rw [hgw] at hg
    have h0 := h2 w hw (by rw [hgw]; exact hg)
    cases w with
    | fieldLinkNest a i b n d h => exact va_Nw.warmF hW h0
    | methodLinkNest a i y h => exact va_Nw.warmM hW h0
    | _ => simp [isNest] at hg
theorem EnvP.calling {G : GG} {U : State} {g : JFrame} {mk : MethodId} {a : Array Value} (h : EnvP G U) : EnvP G (U.calling g mk a) := EnvP.move (U := U.calling g mk a) h (State.WarmedH.refl U) rfl va_S.rf
def Pre (G : GG) (nw : Nat) (x m : Me) : State → Prop := fun U => EnvP G U ∧ MemP G nw x m U.heap
abbrev PI (G : GG) (nw : Nat) (x m : Me) (r : Int32) : Array Value → State → Outcome → State → Prop := va_Qi (fun r' (_ : Unit) => r' = r) (fun _ t => MemP G nw x m t.heap) (gA G)
abbrev PV (G : GG) (nw : Nat) (x m : Me) : Array Value → State → Outcome → State → Prop := va_Qv (fun (_ : Unit) => True) (fun _ t => MemP G nw x m t.heap) (gA G)
abbrev PQ (G : GG) (nw : Nat) (x m : Me) (r : Option Nat) : Array Value → State → Outcome → State → Prop := va_Qq (fun r' (_ : Unit) => r' = r) (fun _ t => MemP G nw x m t.heap) (gA G)
