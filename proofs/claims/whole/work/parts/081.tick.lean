section PUR30
variable {fu nw r h l lp ar : Nat} {s : Nat → Nat} {x m : Me}
theorem itM (hS : ST nw r h l lp s x m) (hD : DY r l lp s ar x m) {A : Nat → Nat} {g : Nat → Int32} {i c : Nat} {b1 : Int32} {k : Me → Int32 → Option (Me × Unit)} (hi : i < r) (hc : c < 17) (hA : ∀ t, t < c → (∃ j, j < r ∧ s j = A t) ∧ g t = nI (A t)) : ∀ (p n : Nat), p ≤ c → p < n → ∃ q, q ≤ p ∧ f_X11_tick_25 fu b1 (nI (s i)) k n (ms m 49 (sh A g p c)) (nI p) = k (ms m 49 (sh A g q c)) (nI q) ∧ (∀ t, q ≤ t → t < p → kym m (s i) < kym m (A t)) ∧ (q = 0 ∨ ¬ kym m (s i) < kym m (A (q - 1)))
  | 0, n + 1, _, _ => ⟨0, Nat.le_refl _, by rw [f_X11_tick_25_s, if_pos (show nI 0 ≤ 0 by decide)], fun t _ h => absurd h (by omega), Or.inl rfl⟩
  | p + 1, n + 1, hp, hn => by
    obtain ⟨⟨j, j1, j2⟩, a2⟩ := hA p (by omega)
    have hx : ms m 49 (sh A g (p + 1) c) 49 p = nI (A p) := by
      rw [ms_same]
      exact (if_neg (show ¬ (p + 1 < p ∧ p ≤ c) by omega)).trans a2
    rw [f_X11_tick_25_s, if_neg (nI_nle (by omega) (by omega)), show nI (p + 1) - 1 = nI p from nI_pred p, if_pos (inb_nI (by omega) (by decide)), nI_clamp (n := p) (by omega), hx, ← j2, ib_sp2 hS hD hi j1, ob_s, j2]
    by_cases z : kym m (s i) < kym m (A p)
    · rw [decide_eq_true z, if_neg (show ¬ b01 true = 0 by decide), if_pos (inb_nI (by omega) (by decide)), nI_clamp (by omega), hx, sh_s _ _ _ _ hp, pk_m1]
      obtain ⟨q, q1, q2, q3, q4⟩ := itM (b1 := b1) (k := k) hS hD hi hc hA p n (by omega) (by omega)
      refine ⟨q, by omega, q2, fun t t1 t2 => ?_, q4⟩
      by_cases e : t = p
      · rw [e]; exact z
      · exact q3 t t1 (by omega)
    · rw [decide_eq_false z, if_pos (show b01 false = 0 from rfl)]
      exact ⟨p + 1, Nat.le_refl _, rfl, fun t h1 h2 => absurd h2 (by omega), Or.inr z⟩
  | 0, 0, _, h => absurd h (by omega)
  | p + 1, 0, _, h => absurd h (by omega)
theorem luM (hfu : 70000 ≤ fu) (hS : ST nw r h l lp s x m) (hD : DY r l lp s ar x m) {K : Me → Int32 → Option (Me × Unit)} : ∀ (k w n c : Nat) (A : Nat → Nat) (g : Nat → Int32), w + k = nw → k < n → c ≤ w → (∀ t, t < c → (∃ j, j < r ∧ s j = A t) ∧ g t = nI (A t)) → SRT (kym m) A c → (∀ v, (∃ t, t < c ∧ A t = v) ↔ (v < w ∧ m 23 v = 1 ∧ m 41 v = -1)) →
    ∃ c' A' g', f_X11_tick_4 fu K n (ms m 49 g) (nI c) (nI w) = K (ms m 49 g') (nI c') ∧ c' ≤ nw ∧ (∀ t, t < c' → g' t = nI (A' t)) ∧ SRT (kym m) A' c' ∧ ∀ v, (∃ t, t < c' ∧ A' t = v) ↔ (v < nw ∧ m 23 v = 1 ∧ m 41 v = -1)
  | 0, w, n + 1, c, A, g, hi, _, hc, hA, hs, hm => by
    have hr := hS.1.1
    have e : w = nw := hi
    refine ⟨c, A, g, ?_, by omega, fun t ht => (hA t ht).2, hs, by rw [← e]; exact hm⟩
    rw [f_X11_tick_4_s, show ms m 49 g 17 0 = nI nw from hS.2.1.2.1, if_pos (nI_le (by omega) (by omega))]
  | k + 1, w, n + 1, c, A, g, hi, hn, hc, hA, hs, hm => by
    have hr := hS.1.1
    rw [f_X11_tick_4_s, show ms m 49 g 17 0 = nI nw from hS.2.1.2.1, if_neg (nI_ge (by omega) (by omega))]
    unfold f_X11_isOn
    rw [if_pos (inb_nI (by omega) (by decide)), nI_clamp (by omega), show ms m 49 g 23 w = m 23 w from rfl, show ms m 49 g 41 w = m 41 w from rfl]
    have skip : ¬ (m 23 w = 1 ∧ m 41 w = -1) → ∃ c' A' g', f_X11_tick_4 fu K n (ms m 49 g) (nI c) (nI (w + 1)) = K (ms m 49 g') (nI c') ∧ c' ≤ nw ∧ (∀ t, t < c' → g' t = nI (A' t)) ∧ SRT (kym m) A' c' ∧ ∀ v, (∃ t, t < c' ∧ A' t = v) ↔ (v < nw ∧ m 23 v = 1 ∧ m 41 v = -1) := by
      intro q
      refine luM hfu hS hD k (w + 1) n c A g (by omega) (by omega) (by omega) hA hs (fun v => ?_)
      rw [hm]
      constructor
      · rintro ⟨z1, z2⟩; exact ⟨by omega, z2⟩
      · rintro ⟨z1, z2⟩
        refine ⟨?_, z2⟩
        by_cases z : v = w
        · rw [z] at z2; exact absurd z2 q
        · omega
    rcases hS.2.2.2.2.2.2.2.1 w (by omega) with q0 | q0
    · rw [if_pos q0, ob_s, if_pos (show (0 : Int32) = 0 from rfl), nI_1]
      exact skip (fun z => by rw [q0] at z; exact absurd z.1 (by decide))
    · rw [if_neg (show ¬ m 23 w = 0 by rw [q0]; decide)]
      by_cases q : m 41 w = -1
      · obtain ⟨i, hir, hiw⟩ := hS.2.2.2.2.2.2.1 w (by omega) q0
        have hon : x 43 i = -1 := by
          have := (hD.2.1 i hir).1.2.2.2.2.1
          rw [hiw] at this
          rw [this]; exact q
        rw [if_pos q, ob_s, if_neg n10]
        obtain ⟨p, p1, p2, p3, p4⟩ := itM (fu := fu) (A := A) (g := g) (i := i) (c := c) (b1 := nI c) (k := fun (x_7 : Me) (a3_7 : Int32) => if inb a3_7 17 = true then f_X11_tick_4 fu K n (mu x_7 49 a3_7.toNatClampNeg (nI (s i))) (nI c + 1) (nI (s i) + 1) else none) hS hD hir (by omega) hA c fu (Nat.le_refl _) (by omega)
        rw [sh_0, hiw] at p2
        rw [hiw] at p3 p4
        rw [p2, if_pos (inb_nI (by omega) (by decide)), nI_clamp (by omega), ms_mu, nI_1, nI_1]
        refine luM hfu hS hD k (w + 1) n (c + 1) (ins A p w) _ (by omega) (by omega) (by omega) (fun t ht => ?_) (ins_sr hs p1 p3 p4 (fun t ht => ?_)) (fun v => ?_)
        · rcases Nat.lt_trichotomy t p with z | z | z
          · rw [ins_lt z, if_neg (by omega)]
            refine ⟨(hA t (by omega)).1, ?_⟩
            exact (if_neg (show ¬ (p < t ∧ t ≤ c) by omega)).trans (hA t (by omega)).2
          · rw [z, ins_eq, if_pos rfl]
            exact ⟨⟨i, hir, hiw⟩, rfl⟩
          · rw [ins_gt z, if_neg (by omega)]
            refine ⟨(hA (t - 1) (by omega)).1, ?_⟩
            exact if_pos (show p < t ∧ t ≤ c by omega)
        · obtain ⟨w1, w2, w3⟩ := (hm (A t)).mp ⟨t, ht, rfl⟩
          obtain ⟨⟨j, j1, j2⟩, _⟩ := hA t ht
          have hLj := (hD.2.1 j j1).1
          have hLi := (hD.2.1 i hir).1
          rw [← j2, ← hiw, kym_x hLj, kym_x hLi]
          refine ky_ne hS hD j1 hir (fun z => ?_) ?_ hon
          · rw [z, hiw] at j2; omega
          · rw [hLj.2.2.2.2.1, j2]; exact w3
        · rw [ins_mem p1, hm]
          constructor
          · rintro (⟨z1, z2⟩ | z)
            · exact ⟨by omega, z2⟩
            · rw [z]; exact ⟨by omega, q0, q⟩
          · rintro ⟨z1, z2⟩
            by_cases z : v = w
            · exact Or.inr z
            · exact Or.inl ⟨by omega, z2⟩
      · rw [if_neg q, ob_s, if_pos (show (0 : Int32) = 0 from rfl), nI_1]
        exact skip (fun z => q z.2)
  | 0, _, 0, _, _, _, _, h, _, _, _, _ => absurd h (by omega)
  | k + 1, _, 0, _, _, _, _, h, _, _, _, _ => absurd h (by omega)
/-- all turns of a tick -/
theorem tks (hfu : 70000 ≤ fu) {c : Nat} {A : Nat → Nat} {K : Me → Option (Me × Unit)} {K' : Me → Option (Me × Unit)} (hc : c ≤ 10) (hA : ∀ t, t < c → A t < r) (hinj : ∀ a b, a < c → b < c → A a = A b → a = b) : ∀ (k t n1 n2 ar : Nat) (x m : Me), t + k = c → k < n1 → k < n2 → ST nw r h l lp s x m → DY r l lp s ar x m → (∀ u, u < c → x 30 u = nI (A u) ∧ m 49 u = nI (s (A u))) → (∀ u, t ≤ u → u < c → x 43 (A u) = -1) →
    ∃ x' m' ar', f_X2_tick_7 fu nw (nI c) K n1 x (nI t) = K x' ∧ f_X11_tick_83 fu (nI c) K' n2 m (nI t) = K' m' ∧ (∀ f, inL FX f = false → x' f = x f) ∧ (∀ f, inL FM f = false → m' f = m f) ∧ DY r l lp s ar' x' m' ∧ ar ≤ ar' ∧ x' 34 = x 34 ∧ m' 44 = m 44
  | 0, t, n1 + 1, n2 + 1, ar, x, m, ht, _, _, hS, hD, hO, _ => by
    refine ⟨x, m, ar, ?_, ?_, fun _ _ => rfl, fun _ _ => rfl, hD, Nat.le_refl _, rfl, rfl⟩
    · rw [f_X2_tick_7_s, if_pos (nI_le (by omega) (by omega))]
    · rw [f_X11_tick_83_s, if_pos (nI_le (by omega) (by omega))]
  | k + 1, t, n1 + 1, n2 + 1, ar, x, m, ht, g1, g2, hS, hD, hO, hN => by
    have hr := hS.1.2.1
    obtain ⟨o1, o2⟩ := hO t (by omega)
    have hAt := hA t (by omega)
    obtain ⟨x1, m1, a1, p1, p2, p3, p4, p5, p6, p7, p8, p9, p10, p11⟩ := tn_sp (fu := fu) hfu hAt hS hD (hN t (Nat.le_refl _) (by omega))
    obtain ⟨x2, m2, a2, q1, q2, q3, q4, q5, q6, q7, q8⟩ := tks hfu (K := K) (K' := K') hc hA hinj k (t + 1) n1 n2 a1 x1 m1 (by omega) (by omega) (by omega) (ST_of hS p3 p4) p5 (fun u hu => by rw [p8, p9]; exact hO u hu) (fun u hu1 hu2 => by
      rw [p6 (A u) (fun z => by have := hinj u t hu2 (by omega) z; omega)]
      exact hN u (by omega) hu2)
    refine ⟨x2, m2, a2, ?_, ?_, fun f hf => (q3 f hf).trans (p3 f hf), fun f hf => (q4 f hf).trans (p4 f hf), q5, by omega, q7.trans p10, q8.trans p11⟩
    · rw [f_X2_tick_7_s, if_neg (nI_ge (by omega) (by omega)), if_pos (inb_nI (by omega) (by decide)), nI_clamp (by omega), o1, if_pos (inb_nI (by omega) (by decide)), nI_clamp (by omega), p1, ob_s, nI_1, q1]
    · rw [f_X11_tick_83_s, if_neg (nI_ge (by omega) (by omega)), if_pos (inb_nI (by omega) (by decide)), nI_clamp (by omega), o2, p2, ob_s, nI_1, q2]
  | 0, _, 0, _, _, _, _, _, h, _, _, _, _, _ => absurd h (by omega)
  | 0, _, n + 1, 0, _, _, _, _, _, h, _, _, _, _ => absurd h (by omega)
  | k + 1, _, 0, _, _, _, _, _, h, _, _, _, _, _ => absurd h (by omega)
  | k + 1, _, n + 1, 0, _, _, _, _, _, h, _, _, _, _ => absurd h (by omega)
def tkE (fu : Nat) (x_15 : Me) : Option (Me × Unit) := if (x_15 43 0) = (x_15 30 0) then ob (f_X11_ends fu (mu x_15 44 0 ((x_15 44 0) + 1))) (fun x_16 _ => some (x_16, ())) else if ((x_15 44 0) + 1) = 400 then ob (f_X11_ends fu (mu x_15 44 0 ((x_15 44 0) + 1))) (fun x_17 _ => some (x_17, ())) else some ((mu x_15 44 0 ((x_15 44 0) + 1)), ())
/-- a tick -/
theorem tick_sp (hfu : 70000 ≤ fu) {t : Nat} (hS : ST nw r h l lp s x m) (hD : DY r l lp s ar x m) (h34 : x 34 0 = nI t) (h44 : m 44 0 = nI t) : ∃ x' m1 ar', f_X2_tick fu nw x = some (mu x' 34 0 (nI (t + 1)), ()) ∧ f_X11_tick fu m = tkE fu m1 ∧ (∀ f, inL FX f = false → x' f = x f) ∧ (∀ f, inL FM f = false → m1 f = m f) ∧ DY r l lp s ar' x' m1 ∧ ar ≤ ar' ∧ m1 44 0 = nI t := by
  have hr := hS.1.2.1
  have hnw := hS.1.1
  obtain ⟨c, A, g, p1, p2, p3, p4, p5⟩ := luX (fu := fu) hfu hS hD (K := fun (x_6 : Me) (a1_6 : Int32) => some (x_6, a1_6)) r 0 fu 0 (fun _ => 0) (x 30) (by omega) (by omega) (by omega) (fun t ht => absurd ht (by omega)) (fun a b _ hb => absurd hb (by omega)) (fun v => ⟨fun ⟨t, t1, _⟩ => absurd t1 (by omega), fun z => absurd z.1 (by omega)⟩)
  obtain ⟨c', B, g', q1, q2, q3, q4, q5⟩ := luM (fu := fu) hfu hS hD (K := fun (x_11 : Me) (a1_11 : Int32) => f_X11_tick_83 fu a1_11 (tkE fu) fu x_11 0) nw 0 fu 0 (fun _ => 0) (m 49) (by omega) (by omega) (by omega) (fun t ht => absurd ht (by omega)) (fun a b _ hb => absurd hb (by omega)) (fun v => ⟨fun ⟨t, t1, _⟩ => absurd t1 (by omega), fun z => absurd z.1 (by omega)⟩)
  rw [ms_id] at p1 q1
  have hkey : ∀ i, i < r → kym m (s i) = kyx x i := fun i hi => kym_x (hD.2.1 i hi).1
  have hon : ∀ i, i < r → (x 43 i = -1 ↔ m 41 (s i) = -1) := fun i hi => by rw [(hD.2.1 i hi).1.2.2.2.2.1]
  obtain ⟨e1, e2⟩ := srt_fn (key := kym m) (A := fun t => s (A t)) (B := B) (c := c) (c' := c') (fun a b hab hb => by
    show kym m (s (A a)) < kym m (s (A b))
    rw [hkey _ (p3 a (by omega)).1, hkey _ (p3 b hb).1]
    exact p4 a b hab hb) q4 (fun v => by
    rw [q5]
    constructor
    · rintro ⟨t, t1, t2⟩
      have t2' : s (A t) = v := t2
      obtain ⟨z1, z2⟩ := (p5 (A t)).mp ⟨t, t1, rfl⟩
      obtain ⟨y1, y2, _⟩ := hS.2.2.2.2.1 (A t) z1
      rw [← t2']
      exact ⟨y1, y2, (hon _ z1).mp z2⟩
    · rintro ⟨z1, z2, z3⟩
      obtain ⟨i, hi, hiv⟩ := hS.2.2.2.2.2.2.1 v z1 z2
      obtain ⟨t, t1, t2⟩ := (p5 i).mpr ⟨hi, (hon i hi).mpr (by rw [hiv]; exact z3)⟩
      exact ⟨t, t1, by show s (A t) = v; rw [t2, hiv]⟩)
  have hinj : ∀ a b, a < c → b < c → A a = A b → a = b := fun a b ha hb hab => by
    rcases Nat.lt_trichotomy a b with z | z | z
    · have := p4 a b z hb
      rw [hab] at this
      exact absurd this (Nat.lt_irrefl _)
    · exact z
    · have := p4 b a z ha
      rw [hab] at this
      exact absurd this (Nat.lt_irrefl _)
  have hS1 : ST nw r h l lp s (ms x 30 g) (ms m 49 g') := hS
  have hD1 : DY r l lp s ar (ms x 30 g) (ms m 49 g') := hD
  obtain ⟨x', m', ar', t1, t2, t3, t4, t5, t6, t7, t8⟩ := tks (fu := fu) (nw := nw) (r := r) (h := h) (l := l) (lp := lp) (s := s) hfu (c := c) (A := A) (K := fun (x_6 : Me) => some ((mu x_6 34 0 ((x_6 34 0) + 1)), ())) (K' := tkE fu) (by omega) (fun t ht => (p3 t ht).1) hinj c 0 fu fu ar (ms x 30 g) (ms m 49 g') (by omega) (by omega) (by omega) hS1 hD1 (fun u hu => by
    refine ⟨(p3 u hu).2, ?_⟩
    show g' u = nI (s (A u))
    rw [q3 u (by omega), ← e2 u hu]) (fun u _ hu => ((p5 (A u)).mp ⟨u, hu, rfl⟩).2)
  refine ⟨x', m', ar', ?_, ?_, fun f hf => (t3 f hf).trans (ms_fr _ _ hf rfl), fun f hf => (t4 f hf).trans (ms_fr _ _ hf rfl), t5, t6, by rw [t8]; exact h44⟩
  · unfold f_X2_tick f_X2_lineUp
    rw [show f_X2_lineUp_4 fu nw (fun (x_6 : Me) (a1_6 : Int32) => some (x_6, a1_6)) fu x 0 0 = some (ms x 30 g, nI c) from p1, ob_s, show f_X2_tick_7 fu nw (nI c) (fun (x_6 : Me) => some ((mu x_6 34 0 ((x_6 34 0) + 1)), ())) fu (ms x 30 g) 0 = _ from t1, t7, show ms x 30 g 34 0 = nI t from h34, nI_1]
  · unfold f_X11_tick
    have q1' : f_X11_tick_4 fu (fun (x_11 : Me) (a1_11 : Int32) => f_X11_tick_83 fu a1_11 (tkE fu) fu x_11 0) fu m 0 0 = f_X11_tick_83 fu (nI c') (tkE fu) fu (ms m 49 g') 0 := q1
    refine (show _ = f_X11_tick_83 fu (nI c') (tkE fu) fu (ms m 49 g') 0 from q1').trans ?_
    rw [← e1]
    exact t2
end PUR30
