/-! the order of turns -/
def kyx (x : Me) (i : Nat) : Nat := (400 - (x 39 i + 2).toNatClampNeg) * 4 + (x 40 i).toNatClampNeg
def kym (m : Me) (w : Nat) : Nat := (400 - (m 37 w + 2).toNatClampNeg) * 4 + (m 38 w).toNatClampNeg
def sh (A : Nat → Nat) (g : Nat → Int32) (p c : Nat) : Nat → Int32 := fun t => if p < t ∧ t ≤ c then nI (A (t - 1)) else g t
theorem sh_0 (A : Nat → Nat) (g : Nat → Int32) (c : Nat) : sh A g c c = g := funext fun t => if_neg (by omega)
theorem sh_s (x : Me) (f : Nat) (A : Nat → Nat) (g : Nat → Int32) {p c : Nat} (h : p + 1 ≤ c) : mu (ms x f (sh A g (p + 1) c)) f (p + 1) (nI (A p)) = ms x f (sh A g p c) := by
  funext f' t
  by_cases e : f' = f
  · rw [e]
    by_cases q : t = p + 1
    · rw [q, mu_same, ms_same]
      exact (if_pos (show p < p + 1 ∧ p + 1 ≤ c by omega)).symm
    · rw [mu_ne _ _ _ _ _ q, ms_same, ms_same]
      unfold sh
      by_cases z : p + 1 < t ∧ t ≤ c
      · rw [if_pos z, if_pos (by omega)]
      · rw [if_neg z, if_neg (by omega)]
  · rw [mu_nf _ _ _ _ _ _ e, ms_ne _ _ _ _ e, ms_ne _ _ _ _ e]
theorem ms_mu (x : Me) (f : Nat) (g : Nat → Int32) (q : Nat) (v : Int32) : mu (ms x f g) f q v = ms x f (fun t => if t = q then v else g t) := by
  funext f' t
  by_cases e : f' = f
  · rw [e, ms_same]
    by_cases z : t = q
    · rw [z, mu_same, if_pos rfl]
    · rw [mu_ne _ _ _ _ _ z, ms_same, if_neg z]
  · rw [mu_nf _ _ _ _ _ _ e, ms_ne _ _ _ _ e, ms_ne _ _ _ _ e]
theorem ms_id (x : Me) (f : Nat) : ms x f (x f) = x := by
  funext f'
  by_cases e : f' = f
  · rw [e, ms_same]
  · rw [ms_ne _ _ _ _ e]
def SRT (key : Nat → Nat) (A : Nat → Nat) (c : Nat) : Prop := ∀ a b, a < b → b < c → key (A a) < key (A b)
def ins (A : Nat → Nat) (q i : Nat) : Nat → Nat := fun t => if t < q then A t else if t = q then i else A (t - 1)
theorem ins_lt {A : Nat → Nat} {q i t : Nat} (h : t < q) : ins A q i t = A t := if_pos h
theorem ins_eq {A : Nat → Nat} {q i : Nat} : ins A q i q = i := by unfold ins; rw [if_neg (by omega), if_pos rfl]
theorem ins_gt {A : Nat → Nat} {q i t : Nat} (h : q < t) : ins A q i t = A (t - 1) := by unfold ins; rw [if_neg (by omega), if_neg (by omega)]
theorem ins_sr {key : Nat → Nat} {A : Nat → Nat} {c q i : Nat} (hA : SRT key A c) (hq : q ≤ c) (h1 : ∀ t, q ≤ t → t < c → key i < key (A t)) (h2 : q = 0 ∨ ¬ key i < key (A (q - 1))) (hne : ∀ t, t < c → key (A t) ≠ key i) : SRT key (ins A q i) (c + 1) := by
  have hlow : ∀ t, t < q → key (A t) < key i := fun t ht => by
    have hq1 : key (A (q - 1)) < key i := by
      have := h2.resolve_left (by omega)
      have := hne (q - 1) (by omega)
      omega
    by_cases e : t = q - 1
    · rw [e]; exact hq1
    · exact Nat.lt_trans (hA t (q - 1) (by omega) (by omega)) hq1
  intro a b hab hb
  rcases Nat.lt_trichotomy a q with ha | ha | ha
  · rw [ins_lt ha]
    rcases Nat.lt_trichotomy b q with hb' | hb' | hb'
    · rw [ins_lt hb']; exact hA a b hab (by omega)
    · rw [hb', ins_eq]; exact hlow a ha
    · rw [ins_gt hb']; exact hA a (b - 1) (by omega) (by omega)
  · rw [ha, ins_eq, ins_gt (by omega)]
    exact h1 (b - 1) (by omega) (by omega)
  · rw [ins_gt ha, ins_gt (by omega)]
    exact hA (a - 1) (b - 1) (by omega) (by omega)
theorem ins_mem {A : Nat → Nat} {c q i : Nat} (hq : q ≤ c) (v : Nat) : (∃ t, t < c + 1 ∧ ins A q i t = v) ↔ ((∃ t, t < c ∧ A t = v) ∨ v = i) := by
  constructor
  · rintro ⟨t, t1, t2⟩
    rcases Nat.lt_trichotomy t q with z | z | z
    · rw [ins_lt z] at t2; exact Or.inl ⟨t, by omega, t2⟩
    · rw [z, ins_eq] at t2; exact Or.inr t2.symm
    · rw [ins_gt z] at t2; exact Or.inl ⟨t - 1, by omega, t2⟩
  · rintro (⟨t, t1, t2⟩ | z)
    · by_cases q1 : t < q
      · exact ⟨t, by omega, by rw [ins_lt q1]; exact t2⟩
      · exact ⟨t + 1, by omega, by rw [ins_gt (by omega)]; exact t2⟩
    · exact ⟨q, by omega, by rw [ins_eq, z]⟩
theorem srt_uq (key : Nat → Nat) : ∀ (A B : List Nat), A.Pairwise (fun a b => key a < key b) → B.Pairwise (fun a b => key a < key b) → (∀ v, v ∈ A ↔ v ∈ B) → A = B
  | [], [], _, _, _ => rfl
  | [], b :: B, _, _, h => absurd ((h b).mpr List.mem_cons_self) (by simp)
  | a :: A, [], _, _, h => absurd ((h a).mp List.mem_cons_self) (by simp)
  | a :: A, b :: B, hA, hB, h => by
    rw [List.pairwise_cons] at hA hB
    have e : a = b := by
      rcases List.mem_cons.mp ((h a).mp List.mem_cons_self) with z | z
      · exact z
      · rcases List.mem_cons.mp ((h b).mpr List.mem_cons_self) with y | y
        · exact y.symm
        · have := hB.1 a z
          have := hA.1 b y
          omega
    subst e
    rw [srt_uq key A B hA.2 hB.2 (fun v => ?_)]
    constructor
    · intro z
      rcases List.mem_cons.mp ((h v).mp (List.mem_cons_of_mem _ z)) with y | y
      · have := hA.1 v z
        rw [y] at this
        exact absurd this (Nat.lt_irrefl _)
      · exact y
    · intro z
      rcases List.mem_cons.mp ((h v).mpr (List.mem_cons_of_mem _ z)) with y | y
      · have := hB.1 v z
        rw [y] at this
        exact absurd this (Nat.lt_irrefl _)
      · exact y
theorem srt_fn {key : Nat → Nat} {A B : Nat → Nat} {c c' : Nat} (hA : SRT key A c) (hB : SRT key B c') (h : ∀ v, (∃ t, t < c ∧ A t = v) ↔ (∃ t, t < c' ∧ B t = v)) : c = c' ∧ ∀ t, t < c → A t = B t := by
  have pw : ∀ (A : Nat → Nat) (c : Nat), SRT key A c → ((List.range c).map A).Pairwise (fun a b => key a < key b) := fun A c hA => by
    rw [List.pairwise_iff_getElem]
    intro a b ha hb hab
    rw [List.length_map, List.length_range] at ha hb
    rw [List.getElem_map, List.getElem_map, List.getElem_range, List.getElem_range]
    exact hA a b hab hb
  have mm : ∀ (A : Nat → Nat) (c v : Nat), v ∈ (List.range c).map A ↔ ∃ t, t < c ∧ A t = v := fun A c v => by
    rw [List.mem_map]
    constructor
    · rintro ⟨t, t1, t2⟩; exact ⟨t, List.mem_range.mp t1, t2⟩
    · rintro ⟨t, t1, t2⟩; exact ⟨t, List.mem_range.mpr t1, t2⟩
  have e := srt_uq key _ _ (pw A c hA) (pw B c' hB) (fun v => by rw [mm, mm]; exact h v)
  have hl := congrArg List.length e
  rw [List.length_map, List.length_map, List.length_range, List.length_range] at hl
  refine ⟨hl, fun t ht => ?_⟩
  have h1 : ((List.range c).map A)[t]? = some (A t) := by rw [List.getElem?_map, List.getElem?_range ht]; rfl
  have h2 : ((List.range c').map B)[t]? = some (B t) := by rw [List.getElem?_map, List.getElem?_range (by omega)]; rfl
  rw [e, h2] at h1
  exact (Option.some.inj h1).symm
section PUR29
variable {fu nw r h l lp ar : Nat} {s : Nat → Nat} {x m : Me}
theorem kyx_v {i d la : Nat} (h1 : x 39 i + 2 = nI d) (h2 : x 40 i = nI la) (hd : d ≤ 400) (hla : la < 4) : kyx x i = (400 - d) * 4 + la := by
  unfold kyx
  rw [h1, h2, nI_clamp (by omega), nI_clamp (by omega)]
theorem kym_x {i : Nat} (hL : LK x m i (s i)) : kym m (s i) = kyx x i := by
  unfold kym kyx
  rw [hL.1, hL.2.1]
theorem ga_sp (hS : ST nw r h l lp s x m) (hD : DY r l lp s ar x m) {i j : Nat} (hi : i < r) (hj : j < r) (g : Nat → Int32) : f_X4_goesAheadOf fu nw (ms x 30 g) i j = some (ms x 30 g, b01 (decide (kyx x i < kyx x j))) := by
  have hr := hS.1.2.1
  have hlp := lpl hS
  obtain ⟨_, ⟨d, d1, d2, _⟩, ⟨la, la1, la2⟩, _⟩ := hD.2.1 i hi
  obtain ⟨_, ⟨e, e1, e2, _⟩, ⟨lb, lb1, lb2⟩, _⟩ := hD.2.1 j hj
  unfold f_X4_goesAheadOf
  rw [if_pos (show i < 10 by omega), if_pos (show j < 10 by omega), kyx_v d1 la2 (by omega) la1, kyx_v e1 lb2 (by omega) lb1, show ms x 30 g 39 j = x 39 j from rfl, show ms x 30 g 39 i = x 39 i from rfl, show ms x 30 g 40 j = x 40 j from rfl, show ms x 30 g 40 i = x 40 i from rfl, la2, lb2]
  rcases Nat.lt_trichotomy e d with q | q | q
  · rw [if_pos ((dL e1 d1 (by omega) (by omega)).mpr q), decide_eq_true (by omega)]; rfl
  · rw [if_neg (fun z => by have := (dL e1 d1 (by omega) (by omega)).mp z; omega), if_pos ((dE d1 e1 (by omega) (by omega)).mpr q.symm)]
    by_cases z : lb ≤ la
    · rw [if_pos (nI_le z (by omega)), decide_eq_false (by omega)]; rfl
    · rw [if_neg (nI_ge (by omega) (by omega)), decide_eq_true (by omega)]; rfl
  · rw [if_neg (fun z => by have := (dL e1 d1 (by omega) (by omega)).mp z; omega), if_neg (fun z => by have := (dE d1 e1 (by omega) (by omega)).mp z; omega), decide_eq_false (by omega)]; rfl
theorem ib_sp2 (hS : ST nw r h l lp s x m) (hD : DY r l lp s ar x m) {i j : Nat} (hi : i < r) (hj : j < r) (g : Nat → Int32) : f_X11_isBehind fu (ms m 49 g) (nI (s j)) (nI (s i)) = some (ms m 49 g, b01 (decide (kym m (s i) < kym m (s j)))) := by
  have hnw := hS.1.1
  have hlp := lpl hS
  have hsi := (hS.2.2.2.2.1 i hi).1
  have hsj := (hS.2.2.2.2.1 j hj).1
  obtain ⟨Li, ⟨d, d1, d2, _⟩, ⟨la, la1, la2⟩, _⟩ := hD.2.1 i hi
  obtain ⟨Lj, ⟨e, e1, e2, _⟩, ⟨lb, lb1, lb2⟩, _⟩ := hD.2.1 j hj
  unfold f_X11_isBehind
  rw [if_pos (inb_nI (by omega) (by decide)), if_pos (inb_nI (by omega) (by decide)), nI_clamp (by omega), nI_clamp (by omega), kym_x Li, kym_x Lj, kyx_v d1 la2 (by omega) la1, kyx_v e1 lb2 (by omega) lb1, show ms m 49 g 37 (s j) = x 39 j from Lj.1.symm, show ms m 49 g 37 (s i) = x 39 i from Li.1.symm, show ms m 49 g 38 (s j) = nI lb from Lj.2.1.symm.trans lb2, show ms m 49 g 38 (s i) = nI la from Li.2.1.symm.trans la2]
  rcases Nat.lt_trichotomy e d with q | q | q
  · rw [if_pos ((dL e1 d1 (by omega) (by omega)).mpr q), decide_eq_true (by omega)]; rfl
  · rw [if_neg (fun z => by have := (dL e1 d1 (by omega) (by omega)).mp z; omega), if_pos ((dE e1 d1 (by omega) (by omega)).mpr q)]
    by_cases z : lb ≤ la
    · rw [if_pos (nI_le z (by omega)), decide_eq_false (by omega)]; rfl
    · rw [if_neg (nI_ge (by omega) (by omega)), decide_eq_true (by omega)]; rfl
  · rw [if_neg (fun z => by have := (dL e1 d1 (by omega) (by omega)).mp z; omega), if_neg (fun z => by have := (dE e1 d1 (by omega) (by omega)).mp z; omega), decide_eq_false (by omega)]; rfl
theorem ky_ne (hS : ST nw r h l lp s x m) (hD : DY r l lp s ar x m) {i j : Nat} (hi : i < r) (hj : j < r) (hij : i ≠ j) (h1 : x 43 i = -1) (h2 : x 43 j = -1) : kyx x i ≠ kyx x j := by
  have hlp := lpl hS
  obtain ⟨_, ⟨d, d1, d2, _⟩, ⟨la, la1, la2⟩, _⟩ := hD.2.1 i hi
  obtain ⟨_, ⟨e, e1, e2, _⟩, ⟨lb, lb1, lb2⟩, _⟩ := hD.2.1 j hj
  rw [kyx_v d1 la2 (by omega) la1, kyx_v e1 lb2 (by omega) lb1]
  intro z
  have q1 : d = e := by omega
  have q2 : la = lb := by omega
  exact hD.2.2.2 i j hi hj hij h1 h2 (by rw [la2, lb2, q2]) d e (by omega) (by omega) d1 e1 (by rw [q1])
theorem itX (hS : ST nw r h l lp s x m) (hD : DY r l lp s ar x m) {A : Nat → Nat} {g : Nat → Int32} {i c : Nat} {k : Me → Int32 → Option (Me × Unit)} (hi : i < r) (hc : c < 10) (hA : ∀ t, t < c → A t < r ∧ g t = nI (A t)) : ∀ (p n : Nat), p ≤ c → p < n → ∃ q, q ≤ p ∧ f_X2_insertTurn_2 fu nw (nI i) k n (ms x 30 (sh A g p c)) (nI p) = k (ms x 30 (sh A g q c)) (nI q) ∧ (∀ t, q ≤ t → t < p → kyx x i < kyx x (A t)) ∧ (q = 0 ∨ ¬ kyx x i < kyx x (A (q - 1)))
  | 0, n + 1, _, _ => ⟨0, Nat.le_refl _, by rw [f_X2_insertTurn_2_s, if_pos (show nI 0 ≤ 0 by decide)], fun t _ h => absurd h (by omega), Or.inl rfl⟩
  | p + 1, n + 1, hp, hn => by
    have hr := hS.1.2.1
    obtain ⟨a1, a2⟩ := hA p (by omega)
    have hx : ms x 30 (sh A g (p + 1) c) 30 p = nI (A p) := by
      rw [ms_same]
      exact (if_neg (show ¬ (p + 1 < p ∧ p ≤ c) by omega)).trans a2
    rw [f_X2_insertTurn_2_s, if_neg (nI_nle (by omega) (by omega)), if_pos (inb_nI (by omega) (by decide)), show nI (p + 1) - 1 = nI p from nI_pred p, if_pos (inb_nI (by omega) (by decide)), nI_clamp (n := p) (by omega), hx, if_pos (inb_nI (by omega) (by decide)), nI_clamp (n := i) (by omega), nI_clamp (n := A p) (by omega), ga_sp hS hD hi a1, ob_s]
    by_cases z : kyx x i < kyx x (A p)
    · rw [decide_eq_true z, if_neg (show ¬ b01 true = 0 by decide), if_pos (inb_nI (by omega) (by decide)), nI_clamp (by omega), hx, sh_s _ _ _ _ hp, pk_m1]
      obtain ⟨q, q1, q2, q3, q4⟩ := itX (k := k) hS hD hi hc hA p n (by omega) (by omega)
      refine ⟨q, by omega, q2, fun t t1 t2 => ?_, q4⟩
      by_cases e : t = p
      · rw [e]; exact z
      · exact q3 t t1 (by omega)
    · rw [decide_eq_false z, if_pos (show b01 false = 0 from rfl)]
      exact ⟨p + 1, Nat.le_refl _, rfl, fun t h1 h2 => absurd h2 (by omega), Or.inr z⟩
  | 0, 0, _, h => absurd h (by omega)
  | p + 1, 0, _, h => absurd h (by omega)
theorem luX (hfu : 70000 ≤ fu) (hS : ST nw r h l lp s x m) (hD : DY r l lp s ar x m) {K : Me → Int32 → Option (Me × Int32)} : ∀ (k i n c : Nat) (A : Nat → Nat) (g : Nat → Int32), i + k = r → k < n → c ≤ i → (∀ t, t < c → A t < r ∧ g t = nI (A t)) → SRT (kyx x) A c → (∀ v, (∃ t, t < c ∧ A t = v) ↔ (v < i ∧ x 43 v = -1)) →
    ∃ c' A' g', f_X2_lineUp_4 fu nw K n (ms x 30 g) (nI c) (nI i) = K (ms x 30 g') (nI c') ∧ c' ≤ r ∧ (∀ t, t < c' → A' t < r ∧ g' t = nI (A' t)) ∧ SRT (kyx x) A' c' ∧ ∀ v, (∃ t, t < c' ∧ A' t = v) ↔ (v < r ∧ x 43 v = -1)
  | 0, i, n + 1, c, A, g, hi, _, hc, hA, hs, hm => by
    have hr := hS.1.2.1
    have e : i = r := hi
    refine ⟨c, A, g, ?_, by omega, hA, hs, by rw [← e]; exact hm⟩
    rw [f_X2_lineUp_4_s, show ms x 30 g 29 0 = nI r from hS.2.1.2.2.1, if_pos (nI_le (by omega) (by omega))]
  | k + 1, i, n + 1, c, A, g, hi, hn, hc, hA, hs, hm => by
    have hr := hS.1.2.1
    rw [f_X2_lineUp_4_s, show ms x 30 g 29 0 = nI r from hS.2.1.2.2.1, if_neg (nI_ge (by omega) (by omega)), if_pos (inb_nI (by omega) (by decide)), nI_clamp (by omega)]
    unfold f_X4_onRing
    rw [if_pos (show i < 10 by omega), show ms x 30 g 43 i = x 43 i from rfl]
    by_cases q : x 43 i = -1
    · rw [if_pos q, ob_s, if_neg n10]
      unfold f_X2_insertTurn
      obtain ⟨p, p1, p2, p3, p4⟩ := itX (fu := fu) (nw := nw) (A := A) (g := g) (i := i) (c := c) (k := fun (x_8 : Me) (a3_8 : Int32) => if inb a3_8 10 = true then some ((mu x_8 30 a3_8.toNatClampNeg (nI i)), ()) else none) hS hD (by omega) (by omega) hA c fu (Nat.le_refl _) (by omega)
      rw [sh_0] at p2
      rw [p2, if_pos (inb_nI (by omega) (by decide)), nI_clamp (by omega), ob_s, ms_mu, nI_1, nI_1]
      refine luX hfu hS hD k (i + 1) n (c + 1) (ins A p i) _ (by omega) (by omega) (by omega) (fun t ht => ?_) (ins_sr hs p1 p3 p4 (fun t ht => ?_)) (fun v => ?_)
      · rcases Nat.lt_trichotomy t p with z | z | z
        · rw [ins_lt z, if_neg (by omega)]
          refine ⟨(hA t (by omega)).1, ?_⟩
          exact (if_neg (show ¬ (p < t ∧ t ≤ c) by omega)).trans (hA t (by omega)).2
        · rw [z, ins_eq, if_pos rfl]
          exact ⟨by omega, rfl⟩
        · rw [ins_gt z, if_neg (by omega)]
          refine ⟨(hA (t - 1) (by omega)).1, ?_⟩
          exact if_pos (show p < t ∧ t ≤ c by omega)
      · obtain ⟨w1, w2⟩ := (hm (A t)).mp ⟨t, ht, rfl⟩
        exact ky_ne hS hD (hA t ht).1 (by omega) (by omega) w2 q
      · rw [ins_mem p1, hm]
        constructor
        · rintro (⟨z1, z2⟩ | z)
          · exact ⟨by omega, z2⟩
          · rw [z]; exact ⟨by omega, q⟩
        · rintro ⟨z1, z2⟩
          by_cases z : v = i
          · exact Or.inr z
          · exact Or.inl ⟨by omega, z2⟩
    · rw [if_neg q, ob_s, if_pos (show (0 : Int32) = 0 from rfl), nI_1]
      refine luX hfu hS hD k (i + 1) n c A g (by omega) (by omega) (by omega) hA hs (fun v => ?_)
      rw [hm]
      constructor
      · rintro ⟨z1, z2⟩; exact ⟨by omega, z2⟩
      · rintro ⟨z1, z2⟩
        refine ⟨?_, z2⟩
        by_cases z : v = i
        · rw [z] at z2; exact absurd z2 q
        · omega
  | 0, _, 0, _, _, _, _, h, _, _, _, _ => absurd h (by omega)
  | k + 1, _, 0, _, _, _, _, h, _, _, _, _ => absurd h (by omega)
end PUR29
