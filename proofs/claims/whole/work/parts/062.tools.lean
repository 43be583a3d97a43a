/-! frames, bits, lists -/
def inL : List Nat → Nat → Bool
  | [], _ => false
  | a :: l, f => cond (Nat.beq a f) true (inL l f)
def msL (S : List Nat) (x g : Me) : Me := fun f => cond (inL S f) (g f) (x f)
theorem msL_of {S : List Nat} {x x' : Me} (h : ∀ f, inL S f = false → x' f = x f) : ∃ g, x' = msL S x g := by
  refine ⟨x', funext fun f => ?_⟩
  unfold msL
  cases hc : inL S f with
  | true => rfl
  | false => exact h f hc
theorem inL_ne {S : List Nat} {f a : Nat} (h : inL S f = false) (ha : inL S a = true) : f ≠ a := fun e => by rw [e, ha] at h; cases h
theorem mu_fr {S : List Nat} {f a : Nat} (x : Me) (i : Nat) (v : Int32) (h : inL S f = false) (ha : inL S a = true) : mu x a i v f = x f := mu_of _ _ _ _ _ (inL_ne h ha)
theorem inL_mono {S : List Nat} : ∀ {S1 : List Nat} (_ : S1.all (inL S) = true) {f : Nat} (_ : inL S f = false), inL S1 f = false
  | [], _, _, _ => rfl
  | a :: l, hs, f, h => by
    rw [List.all_cons, Bool.and_eq_true] at hs
    show cond (Nat.beq a f) true (inL l f) = false
    cases q : Nat.beq a f with
    | true =>
      have e : a = f := Nat.eq_of_beq_eq_true q
      rw [e, h] at hs
      exact absurd hs.1 (by decide)
    | false => exact inL_mono hs.2 h
theorem ms_same (x : Me) (f : Nat) (g : Nat → Int32) : ms x f g f = g := if_pos rfl
theorem ms_ne (x : Me) (f f' : Nat) (g : Nat → Int32) (h : f' ≠ f) : ms x f g f' = x f' := if_neg h
theorem ms_fr {S : List Nat} {f a : Nat} (x : Me) (g : Nat → Int32) (h : inL S f = false) (ha : inL S a = true) : ms x a g f = x f := ms_ne _ _ _ _ (inL_ne h ha)
theorem b31 {k : Nat} (h : k < 32) : ((nI k &&& 31).toBitVec.smod 32).toNat = k := by
  have : ∀ j : Fin 32, ((nI j.val &&& 31).toBitVec.smod 32).toNat = j.val := by decide +kernel
  exact this ⟨k, h⟩
theorem bit_sp {s k : Nat} (hs : s < 2 ^ 31) (hk : k < 32) : (nI s >>> (nI k &&& 31)) &&& 1 = if s.testBit k = true then 1 else 0 := by
  rw [pk_shrN hs _ k (b31 hk), pk_andN (Nat.lt_of_le_of_lt (Nat.div_le_self _ _) (by omega)) 1 rfl, Nat.testBit_eq_decide_div_mod_eq]
  rcases Nat.mod_two_eq_zero_or_one (s / 2 ^ k) with q | q
  · rw [show s / 2 ^ k % 2 ^ 1 = 0 from q]; rfl
  · rw [show s / 2 ^ k % 2 ^ 1 = 1 from q]; rfl
theorem bit_1 {s k : Nat} (hs : s < 2 ^ 31) (hk : k < 32) (h : s.testBit k = true) : (nI s >>> (nI k &&& 31)) &&& 1 = 1 := by
  rw [bit_sp hs hk, if_pos h]
theorem bit_0 {s k : Nat} (hs : s < 2 ^ 31) (hk : k < 32) (h : s.testBit k = false) : (nI s >>> (nI k &&& 31)) &&& 1 = 0 := by
  rw [bit_sp hs hk, if_neg (by rw [h]; decide)]
theorem bor_sp {s k : Nat} (hk : k < 31) : nI s ||| ((1 : Int32) <<< (nI k &&& 31)) = nI (s ||| 2 ^ k) := by
  have h1 : (1 : Int32) <<< (nI k &&& 31) = nI (2 ^ k) := by
    have := pk_shlN (n := 1) (nI k &&& 31) k (b31 (by omega)) (by rw [Nat.one_mul]; exact Nat.pow_lt_pow_right (by decide) (by omega))
    rw [Nat.one_mul] at this
    exact this
  rw [h1]
  apply Int32.toBitVec_inj.1
  rw [Int32.toBitVec_or]
  exact BitVec.ofNat_or.symm
theorem er_sp : ∀ (l : List Nat) (c w : Nat), l.Nodup → l[c]? = some w → l.filter (fun j => decide (j ≠ w)) = l.eraseIdx c
  | [], c, w, _, h => by simp at h
  | a :: l, 0, w, hn, h => by
    rw [List.getElem?_cons_zero] at h
    have e : a = w := Option.some.inj h
    rw [List.filter_cons_of_neg (by simp [e]), List.eraseIdx_cons_zero]
    rw [List.nodup_cons] at hn
    exact List.filter_eq_self.mpr (fun b hb => by
      have : b ≠ w := fun q => hn.1 (by rw [e, ← q]; exact hb)
      simpa using this)
  | a :: l, c + 1, w, hn, h => by
    rw [List.getElem?_cons_succ] at h
    rw [List.nodup_cons] at hn
    have : a ≠ w := fun e => hn.1 (e ▸ List.mem_of_getElem? h)
    rw [List.filter_cons_of_pos (by simpa using this), List.eraseIdx_cons_succ, er_sp l c w hn.2 h]
def LR (L : List Nat) (V g : Nat → Int32) : Prop := ∀ j w, L[j]? = some w → g j = V w
def gp (g : Nat → Int32) (c i : Nat) : Nat → Int32 := fun j => if c ≤ j ∧ j < i then g (j + 1) else g j
theorem LR_er {L : List Nat} {V g : Nat → Int32} {c r : Nat} (h : LR L V g) (hl : L.length ≤ r) : LR (L.eraseIdx c) V (gp g c (r - 1)) := by
  intro j w hw
  rw [List.getElem?_eraseIdx] at hw
  unfold gp
  by_cases q : j < c
  · rw [if_pos q] at hw
    rw [if_neg (by omega)]
    exact h j w hw
  · rw [if_neg q] at hw
    obtain ⟨hh, _⟩ := List.getElem?_eq_some_iff.mp hw
    rw [if_pos (by omega)]
    exact h (j + 1) w hw
theorem gp_s (x : Me) (g : Nat → Int32) (f c i : Nat) (h : c ≤ i) : mu (ms x f (gp g c i)) f i (g (i + 1)) = ms x f (gp g c (i + 1)) := by
  funext f' j
  by_cases e : f' = f
  · rw [e]
    by_cases q : j = i
    · rw [q, mu_same, ms_same]
      exact (if_pos (by omega)).symm
    · rw [mu_ne _ _ _ _ _ q, ms_same, ms_same]
      unfold gp
      by_cases z : c ≤ j ∧ j < i
      · rw [if_pos z, if_pos (by omega)]
      · rw [if_neg z, if_neg (by omega)]
  · rw [mu_nf _ _ _ _ _ _ e, ms_ne _ _ _ _ e, ms_ne _ _ _ _ e]
theorem gp_0 (x : Me) (f c : Nat) : ms x f (gp (x f) c c) = x := by
  funext f' j
  by_cases e : f' = f
  · rw [e, ms_same]; exact if_neg (by omega)
  · rw [ms_ne _ _ _ _ e]
theorem gp_at (g : Nat → Int32) (c i : Nat) : gp g c i (i + 1) = g (i + 1) := if_neg (by omega)
/-- what is not yet taken -/
def ft (p : Nat → Bool) (tk q : Nat) : Bool := p q && !tk.testBit q
theorem ft_er {tk r c q : Nat} {p : Nat → Bool} (h : ((List.range r).filter (ft p tk))[c]? = some q) : (List.range r).filter (ft p (tk ||| 2 ^ q)) = ((List.range r).filter (ft p tk)).eraseIdx c := by
  rw [← er_sp _ c q (List.Nodup.sublist List.filter_sublist List.nodup_range) h, List.filter_filter]
  apply List.filter_congr
  intro a _
  unfold ft
  rw [Nat.testBit_or, Nat.testBit_two_pow]
  by_cases e : a = q
  · subst e; simp
  · have : ¬ q = a := fun z => e z.symm
    simp [e, this]
theorem ft_mem {tk r c q : Nat} {p : Nat → Bool} (h : ((List.range r).filter (ft p tk))[c]? = some q) : q < r ∧ p q = true ∧ tk.testBit q = false := by
  have := List.mem_of_getElem? h
  rw [List.mem_filter, List.mem_range] at this
  obtain ⟨h1, h2⟩ := this
  unfold ft at h2
  rw [Bool.and_eq_true] at h2
  exact ⟨h1, h2.1, by simpa using h2.2⟩
theorem ft_tb {tk q a : Nat} : (tk ||| 2 ^ q).testBit a = (tk.testBit a || decide (q = a)) := by
  rw [Nat.testBit_or, Nat.testBit_two_pow]
