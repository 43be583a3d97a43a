/-- a whole row put in -/
def ms (x : Me) (f : Nat) (g : Nat → Int32) : Me := fun f' => if f' = f then g else x f'
theorem ms2 {x x' : Me} (a b : Nat) (h : ∀ f, f ≠ a → f ≠ b → x' f = x f) : x' = ms (ms x a (x' a)) b (x' b) := by
  funext f
  unfold ms
  by_cases h1 : f = b
  · rw [if_pos h1, h1]
  · rw [if_neg h1]
    by_cases h2 : f = a
    · rw [if_pos h2, h2]
    · rw [if_neg h2]; exact h f h2 h1
theorem mu_id {x : Me} {f i : Nat} {v : Int32} (h : x f i = v) : mu x f i v = x := by
  funext f' i'
  unfold mu
  by_cases h1 : f' = f
  · rw [if_pos h1]
    by_cases h2 : i' = i
    · rw [if_pos h2, h1, h2, h]
    · rw [if_neg h2, h1]
  · rw [if_neg h1]
theorem mu_of (x : Me) (f i : Nat) (v : Int32) (g : Nat) (h : g ≠ f) : mu x f i v g = x g := by
  funext i'; unfold mu; rw [if_neg h]
theorem cnt_eq {p q : Nat → Bool} (n : Nat) (h : ∀ j, j < n → q j = p j) : (List.range n).filter q = (List.range n).filter p := List.filter_congr (fun j hj => h j (List.mem_range.mp hj))
theorem cnt_up {p q : Nat → Bool} {w : Nat} : ∀ n, w < n → p w = false → q w = true → (∀ j, j < n → j ≠ w → q j = p j) → ((List.range n).filter q).length = ((List.range n).filter p).length + 1
  | 0, h, _, _, _ => absurd h (by omega)
  | n + 1, h, h1, h2, h3 => by
    rw [List.range_succ, List.filter_append, List.filter_append, List.length_append, List.length_append]
    by_cases e : w = n
    · subst e
      rw [cnt_eq w (fun j hj => h3 j (by omega) (by omega))]
      simp [h1, h2]
    · rw [cnt_up n (by omega) h1 h2 (fun j hj => h3 j (by omega))]
      have : [n].filter q = [n].filter p := List.filter_congr (fun j hj => by rw [List.mem_singleton.mp hj]; exact h3 n (by omega) (fun z => e z.symm))
      rw [this]; omega
/-- the number drawn -/
def nx (s : Int32) : Int32 := (1103515245 * s) + 12345
def dv (s : Int32) (n : Nat) : Nat := ((nx s >>> ((16 : Int32) &&& 31)).toBitVec.toNat % 2 ^ 15) % n
section PUR10
variable {fu nw y : Nat} {x m : Me}
theorem bel0_sp {n : Nat} (h : 0 < n) (hn : n < 2 ^ 31) : f_X0_below_40 fu nw x (nI n) = some (mu x 49 0 (nx (x 49 0)), nI (dv (x 49 0) n)) := by
  unfold f_X0_below_40
  rw [if_neg (nI_nle h hn), if_pos (nI_ne0 h hn), pk_and _ 15 rfl, pk_rem (Nat.lt_of_lt_of_le (Nat.mod_lt _ (by decide)) (by decide)) h hn]
  rfl
theorem bel1_sp {n : Nat} (h : 0 < n) (hn : n < 2 ^ 31) : f_X0_below_25 fu nw x (nI n) = some (mu x 49 1 (nx (x 49 1)), nI (dv (x 49 1) n)) := by
  unfold f_X0_below_25
  rw [if_neg (nI_nle h hn), if_pos (nI_ne0 h hn), pk_and _ 15 rfl, pk_rem (Nat.lt_of_lt_of_le (Nat.mod_lt _ (by decide)) (by decide)) h hn]
  rfl
theorem drw_sp {n : Nat} (h : 0 < n) (hn : n < 2 ^ 31) : f_X11_draws fu m (nI n) = some (mu m 29 0 (nx (m 29 0)), nI (dv (m 29 0) n)) := by
  unfold f_X11_draws
  rw [if_pos (nI_ne0 h hn), pk_and _ 15 rfl, pk_rem (Nat.lt_of_lt_of_le (Nat.mod_lt _ (by decide)) (by decide)) h hn]
  rfl
theorem dv_lt (s : Int32) {n : Nat} (h : 0 < n) : dv s n < n := Nat.mod_lt _ h
theorem cf_sp {k : Me → Int32 → Option (Me × Int32)} (hc : CW nw x m) (hn : nw ≤ 17) (e1 : x 13 0 = nI nw) : ∀ (d i n c : Nat), i + d = nw → d < n → f_X8_countFree_4 fu nw (nI y) k n x (nI c) (nI i) = k x (nI (c + ((List.range' i d).filter (fr m y)).length))
  | 0, i, n + 1, c, h, _ => by
    rw [f_X8_countFree_4_s, e1, if_pos (nI_le (by omega) (by omega))]; rfl
  | d + 1, i, n + 1, c, h, g => by
    have hi : i < nw := by omega
    rw [f_X8_countFree_4_s, e1, if_neg (nI_ge (by omega) (by omega)), if_pos (inb_nI (by omega) (by decide)), nI_clamp (by omega), if_pos hi, mb_sp hc hi, ob_s, nI_1, nI_1, List.range'_succ]
    by_cases q : fr m y i = true
    · rw [if_pos q, if_neg n10, List.filter_cons_of_pos q, cf_sp hc hn e1 d (i + 1) n (c + 1) (by omega) (by omega), List.length_cons]
      exact congrArg (fun z => k x (nI z)) (by omega)
    · rw [if_neg q, if_pos rfl, List.filter_cons_of_neg q, cf_sp hc hn e1 d (i + 1) n c (by omega) (by omega)]
  | 0, _, 0, _, _, h => absurd h (by omega)
  | d + 1, _, 0, _, _, h => absurd h (by omega)
theorem c18_sp {b1 : Int32} {k : Me → Int32 → Option (Me × Int32)} (hn : nw ≤ 17) (e2 : m 17 0 = nI nw) (hy : m 3 0 = nI y) (h0 : ∀ j, j < nw → m 23 j = 0) : ∀ (d i n c : Nat), i + d = nw → d < n → f_X11_choose_18 fu b1 k n m (nI c) (nI i) = k m (nI (c + ((List.range' i d).filter (fr m y)).length))
  | 0, i, n + 1, c, h, _ => by
    rw [f_X11_choose_18_s, e2, if_pos (nI_le (by omega) (by omega))]; rfl
  | d + 1, i, n + 1, c, h, g => by
    have hi : i < nw := by omega
    rw [f_X11_choose_18_s, e2, if_neg (nI_ge (by omega) (by omega)), ib_sp hy (by omega), ob_s]
    simp only [jn]
    rw [if_pos (inb_nI (by omega) (by decide)), if_pos (inb_nI (by omega) (by decide)), nI_clamp (by omega), vz0, mu_id (h0 i hi), nI_1, List.range'_succ]
    by_cases q : m 19 i < nI y
    · rw [if_pos q, if_pos rfl, List.filter_cons_of_pos (by simp [fr, q, h0 i hi]), nI_1, c18_sp hn e2 hy h0 d (i + 1) n (c + 1) (by omega) (by omega), List.length_cons]
      exact congrArg (fun z => k m (nI z)) (by omega)
    · rw [if_neg q, if_neg n10, List.filter_cons_of_neg (by simp [fr, q]), Int32.add_zero, nI_1, c18_sp hn e2 hy h0 d (i + 1) n c (by omega) (by omega)]
  | 0, _, 0, _, _, h => absurd h (by omega)
  | d + 1, _, 0, _, _, h => absurd h (by omega)
theorem frA_sp {k : Me → Option (Me × Int32)} (hc : CW nw x m) (hn : nw ≤ 17) (e1 : x 13 0 = nI nw) : ∀ (d i n a c w : Nat), i + d = nw → d ≤ n → a + c < 100 → ((List.range' i d).filter (fr m y))[c]? = some w → f_X8_freeAt_5 fu nw (nI (a + c)) (nI y) k n x (nI a) (nI i) = some (x, nI w)
  | 0, _, _, _, _, _, _, _, _, hw => by simp at hw
  | d + 1, i, n + 1, a, c, w, h, g, ha, hw => by
    have hi : i < nw := by omega
    rw [List.range'_succ] at hw
    rw [f_X8_freeAt_5_s, e1, if_neg (nI_ge (by omega) (by omega)), if_pos (inb_nI (by omega) (by decide)), nI_clamp (by omega), if_pos hi, mb_sp hc hi, ob_s, nI_1, nI_1]
    by_cases q : fr m y i = true
    · rw [List.filter_cons_of_pos q] at hw
      rw [if_pos q, if_neg n10]
      cases c with
      | zero =>
        rw [List.getElem?_cons_zero] at hw
        cases hw
        rw [if_pos (show nI a = nI (a + 0) from rfl)]
      | succ c =>
        rw [List.getElem?_cons_succ] at hw
        rw [if_neg (show ¬ nI a = nI (a + (c + 1)) from fun z => by have := (nI_eq (by omega) (by omega)).mp z; omega), show a + (c + 1) = (a + 1) + c by omega]
        exact frA_sp hc hn e1 d (i + 1) n (a + 1) c w (by omega) (by omega) (by omega) hw
    · rw [List.filter_cons_of_neg q] at hw
      rw [if_neg q, if_pos rfl]
      exact frA_sp hc hn e1 d (i + 1) n a c w (by omega) (by omega) ha hw
  | d + 1, _, 0, _, _, _, _, h, _, _ => absurd h (by omega)
end PUR10
