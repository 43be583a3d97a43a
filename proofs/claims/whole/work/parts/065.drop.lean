/-- a ward as it enters the race -/
def EN (h : Nat) (x m : Me) (i w : Nat) : Prop := x 37 i = nI w ∧ (x 39 i = -(nI i / 4) ∧ m 37 w = -(nI i / 4)) ∧ (x 40 i = nI (i % 4) ∧ m 38 w = nI (i % 4)) ∧ (x 41 i = 0 ∧ m 39 w = 0) ∧ (x 42 i = 0 ∧ m 40 w = 0) ∧ (x 43 i = -1 ∧ m 41 w = -1) ∧ (x 44 i = 0 ∧ m 42 w = 0) ∧ ∃ g, g < h ∧ x 51 w = nI g ∧ x 38 i = 3 + x 16 g / 250
theorem mu_nj (x : Me) (f i : Nat) (v : Int32) (f' j : Nat) (h : j ≠ i) : mu x f i v f' j = x f' j := by
  unfold mu
  by_cases e : f' = f
  · rw [if_pos e, if_neg h, e]
  · rw [if_neg e]
theorem inL_ne2 {S : List Nat} {f a : Nat} (h : inL S f = true) (ha : inL S a = false) : f ≠ a := fun e => by rw [e, ha] at h; cases h
theorem EN_keep {h : Nat} {x m x' m' : Me} {i w : Nat} (hE : EN h x m i w) (hx : ∀ f, inL [37, 38, 39, 40, 41, 42, 43, 44] f = true → x' f i = x f i) (hm : ∀ f, inL [37, 38, 39, 40, 41, 42] f = true → m' f w = m f w) (h51 : x' 51 w = x 51 w) (h16 : x' 16 = x 16) : EN h x' m' i w := by
  unfold EN at hE ⊢
  rw [hx 37 rfl, hx 38 rfl, hx 39 rfl, hx 40 rfl, hx 41 rfl, hx 42 rfl, hx 43 rfl, hx 44 rfl, hm 37 rfl, hm 38 rfl, hm 39 rfl, hm 40 rfl, hm 41 rfl, hm 42 rfl, h51, h16]
  exact hE
def enX (x : Me) (i w : Nat) (mk v : Int32) : Me := mu (mu (mu (mu (mu (mu (mu (mu (mu (mu x 37 i (nI w)) 38 i (3 + (mk / 250))) 39 i (-(nI i / 4))) 40 i (nI (i % 4))) 41 i 0) 42 i 0) 43 i (-1)) 44 i 0) 29 0 (nI (i + 1))) 52 w v
def enM (m : Me) (i w : Nat) (v : Int32) : Me := mu (mu (mu (mu (mu (mu (mu m 37 w (-(nI i / 4))) 38 w (nI (i % 4))) 39 w 0) 40 w 0) 41 w (-1)) 42 w 0) 18 w v
theorem enX_f {S : List Nat} {f : Nat} (x : Me) (i w : Nat) (mk v : Int32) (h : inL S f = false) (hs : [29, 37, 38, 39, 40, 41, 42, 43, 44, 52].all (inL S) = true) : enX x i w mk v f = x f := by
  have h' := inL_mono hs h
  unfold enX
  rw [mu_fr _ _ _ h' rfl, mu_fr _ _ _ h' rfl, mu_fr _ _ _ h' rfl, mu_fr _ _ _ h' rfl, mu_fr _ _ _ h' rfl, mu_fr _ _ _ h' rfl, mu_fr _ _ _ h' rfl, mu_fr _ _ _ h' rfl, mu_fr _ _ _ h' rfl, mu_fr _ _ _ h' rfl]
theorem enM_f {S : List Nat} {f : Nat} (m : Me) (i w : Nat) (v : Int32) (h : inL S f = false) (hs : [37, 38, 39, 40, 41, 42, 18].all (inL S) = true) : enM m i w v f = m f := by
  have h' := inL_mono hs h
  unfold enM
  rw [mu_fr _ _ _ h' rfl, mu_fr _ _ _ h' rfl, mu_fr _ _ _ h' rfl, mu_fr _ _ _ h' rfl, mu_fr _ _ _ h' rfl, mu_fr _ _ _ h' rfl, mu_fr _ _ _ h' rfl]
theorem enX_j {f j : Nat} (x : Me) (i w : Nat) (mk v : Int32) (h : inL [37, 38, 39, 40, 41, 42, 43, 44] f = true) (hj : j ≠ i) : enX x i w mk v f j = x f j := by
  unfold enX
  rw [mu_of _ _ _ _ _ (inL_ne2 h rfl), mu_of _ _ _ _ _ (inL_ne2 h rfl), mu_nj _ _ _ _ _ _ hj, mu_nj _ _ _ _ _ _ hj, mu_nj _ _ _ _ _ _ hj, mu_nj _ _ _ _ _ _ hj, mu_nj _ _ _ _ _ _ hj, mu_nj _ _ _ _ _ _ hj, mu_nj _ _ _ _ _ _ hj, mu_nj _ _ _ _ _ _ hj]
theorem enM_j {f j : Nat} (m : Me) (i w : Nat) (v : Int32) (hj : j ≠ w) : enM m i w v f j = m f j := by
  unfold enM
  rw [mu_nj _ _ _ _ _ _ hj, mu_nj _ _ _ _ _ _ hj, mu_nj _ _ _ _ _ _ hj, mu_nj _ _ _ _ _ _ hj, mu_nj _ _ _ _ _ _ hj, mu_nj _ _ _ _ _ _ hj, mu_nj _ _ _ _ _ _ hj]
theorem en_new {h : Nat} {x m : Me} {i w g : Nat} {v v' : Int32} (hg : g < h) (h51 : x 51 w = nI g) : EN h (enX x i w (x 16 g) v) (enM m i w v') i w := by
  refine ⟨?_, ⟨?_, ?_⟩, ⟨?_, ?_⟩, ⟨?_, ?_⟩, ⟨?_, ?_⟩, ⟨?_, ?_⟩, ⟨?_, ?_⟩, g, hg, ?_, ?_⟩
  all_goals first
    | (simp [enX, mu]; done)
    | (simp [enM, mu]; done)
    | (simp [enX, mu, h51]; done)
section PUR14
variable {fu nw r : Nat} {x m : Me}
theorem mk_sp {h g : Nat} (e : x 15 0 = nI h) (hg : g < h) (hh : h ≤ 16) : f_X5_markOf fu nw x (nI g) = some (x, x 16 g) := by
  unfold f_X5_markOf f_X5_has
  rw [e, if_neg (nI_pos (by omega)), if_neg (nI_ge hg (by omega)), ob_s, if_neg n10, if_pos (inb_nI (by omega) (by decide)), nI_clamp (by omega)]
theorem ent_sp {i w : Nat} {mk : Int32} (e : x 29 0 = nI i) (hi : i < 10) (v : Int32) : ∃ x1, f_X2_enter fu nw x (nI w) mk = some (x1, ()) ∧ x1 1 0 = x 1 0 ∧ mu x1 52 w v = enX x i w mk v := by
  unfold f_X2_enter f_X4_begin
  have hq : nI i - nI i / 4 * 4 = nI (i % 4) := pk_rem (d := 4) (by omega) (by decide) (by decide)
  rw [e, if_neg (show ¬ (10 : Int32) ≤ nI i from nI_ge (b := 10) hi (by decide)), if_pos (inb_nI hi (by decide)), nI_clamp (by omega), if_pos hi, ob_s, hq]
  refine ⟨_, rfl, rfl, ?_⟩
  show mu (mu _ 29 0 (x 29 0 + 1)) 52 w v = _
  rw [e, nI_1]
  rfl
theorem sr_sp (hfu : 70000 ≤ fu) {b2 : Int32} {h : Nat} {k : Me → Option (Me × Unit)} {k' : Me → Option (Me × Int32)} (hr : r ≤ 10) (hn : nw ≤ 17) (hh : h ≤ 16) : ∀ (d i n1 n2 : Nat) (x m : Me), i + d = r → d < n1 → d < n2 → x 13 0 = nI nw → x 15 0 = nI h → x 20 0 = nI r → m 30 0 = nI r → x 29 0 = nI i → x 1 0 = m 3 0 → PL nw r x m → (∀ j, j < nw → m 23 j = 1 → ∃ g, g < h ∧ x 51 j = nI g) → (∀ j, j < nw → x 52 j = m 18 j) → (∀ p w, p < i → w < nw → m 32 p = nI w → EN h x m p w) →
    ∃ x' m', f_X10_startRace_53 fu nw k n1 x (nI i) = k x' ∧ f_X11_drop_148 fu b2 k' n2 m (nI i) = k' m' ∧ (∀ f, inL [29, 37, 38, 39, 40, 41, 42, 43, 44, 52] f = false → x' f = x f) ∧ (∀ f, inL [37, 38, 39, 40, 41, 42, 18] f = false → m' f = m f) ∧ x' 29 0 = nI r ∧ (∀ j, j < nw → x' 52 j = m' 18 j) ∧ (∀ j, nw ≤ j → m' 18 j = m 18 j) ∧ (∀ p w, p < r → w < nw → m 32 p = nI w → EN h x' m' p w)
  | 0, i, n1 + 1, n2 + 1, x, m, hi, _, _, e0, e15, e1, e2, e29, ey, hL, hG, hR, hE => by
    have hir : i = r := hi
    subst hir
    refine ⟨x, m, ?_, ?_, fun _ _ => rfl, fun _ _ => rfl, e29, hR, fun _ _ => rfl, hE⟩
    · rw [f_X10_startRace_53_s, e1, if_pos (nI_le (by omega) (by omega))]
    · rw [f_X11_drop_148_s, e2, if_pos (nI_le (by omega) (by omega))]
  | d + 1, i, n1 + 1, n2 + 1, x, m, hi, g1, g2, e0, e15, e1, e2, e29, ey, hL, hG, hR, hE => by
    obtain ⟨w, w1, w2, w3, w4⟩ := hL.1 i (by omega)
    obtain ⟨g, hg, h51⟩ := hG w w1 w4
    obtain ⟨x1, t1, t2, t3⟩ := ent_sp (fu := fu) (nw := nw) (i := i) (w := w) (mk := x 16 g) e29 (by omega) (x 1 0)
    have hq : nI i - nI i / 4 * 4 = nI (i % 4) := pk_rem (d := 4) (by omega) (by decide) (by decide)
    obtain ⟨x', m', k1, k2, k3, k4, k5, k6, k7, k8⟩ := sr_sp hfu (b2 := b2) (h := h) (k := k) (k' := k') hr hn hh d (i + 1) n1 n2 (enX x i w (x 16 g) (x 1 0)) (enM m i w (m 3 0)) (by omega) (by omega) (by omega) e0 e15 e1 e2 rfl ey hL hG
      (fun j hj => by
        show (if j = w then x 1 0 else x 52 j) = (if j = w then m 3 0 else m 18 j)
        by_cases q : j = w
        · rw [if_pos q, if_pos q, ey]
        · rw [if_neg q, if_neg q]; exact hR j hj)
      (fun p v hp hv hm => by
        have hm' : m 32 p = nI v := hm
        by_cases q : p = i
        · have : w = v := (nI_eq (by omega) (by omega)).mp (by rw [← w3, ← hm', q])
          rw [q, ← this]
          exact en_new hg h51
        · have hvw : v ≠ w := fun z => q (hL.2.1 p i (by omega) (by omega) (by rw [hm', w3, z]))
          exact EN_keep (hE p v (by omega) hv hm') (fun f hf => enX_j _ _ _ _ _ hf q) (fun f _ => enM_j _ _ _ _ hvw) rfl rfl)
    refine ⟨x', m', ?_, ?_, fun f hf => ?_, fun f hf => ?_, k5, k6, fun j hj => ?_, k8⟩
    · rw [f_X10_startRace_53_s, e1, if_neg (nI_ge (by omega) (by omega)), if_pos (inb_nI (by omega) (by decide)), nI_clamp (by omega), w2, find_yes e0 w1 hn, ob_s, om_1, if_pos w1, h51, mk_sp e15 hg hh, ob_s, w2, t1, ob_s, t2, t3, nI_1, k1]
    · rw [f_X11_drop_148_s, e2, if_neg (nI_ge (by omega) (by omega)), if_pos (inb_nI (by omega) (by decide)), nI_clamp (by omega), w3, if_pos (inb_nI (by omega) (by decide)), nI_clamp (by omega), hq, vz0, nI_1]
      exact k2
    · rw [k3 f hf, enX_f _ _ _ _ _ hf rfl]
    · rw [k4 f hf, enM_f _ _ _ _ hf rfl]
    · rw [k7 j hj]
      exact if_neg (show ¬ j = w by omega)
  | 0, _, 0, _, _, _, _, h, _, _, _, _, _, _, _, _, _, _, _ => absurd h (by omega)
  | 0, _, n + 1, 0, _, _, _, _, h, _, _, _, _, _, _, _, _, _, _ => absurd h (by omega)
  | d + 1, _, 0, _, _, _, _, h, _, _, _, _, _, _, _, _, _, _, _ => absurd h (by omega)
  | d + 1, _, n + 1, 0, _, _, _, _, h, _, _, _, _, _, _, _, _, _, _ => absurd h (by omega)
theorem d4 {i : Nat} (h : i < 10) : -(nI i / 4) + 2 = nI (2 - i / 4) := by
  have : ∀ j : Fin 10, -(nI j.val / 4) + 2 = nI (2 - j.val / 4) := by decide +kernel
  exact this ⟨i, h⟩
theorem t4 {i : Nat} (h : i < 10) : (-(nI i / 4)).toInt = -((i / 4 : Nat) : Int) := by
  have : ∀ j : Fin 10, (-(nI j.val / 4)).toInt = -((j.val / 4 : Nat) : Int) := by decide +kernel
  exact this ⟨i, h⟩
theorem zl_no {z a : Int} {l : Nat} (hl : 12 ≤ l) (h : a = z * l) (h1 : a ≤ 2) (h2 : -2 ≤ a) : a = 0 := by
  rcases Int.lt_trichotomy z 0 with q | q | q
  · have := Int.mul_le_mul_of_nonneg_right (show z ≤ -1 by omega) (show (0 : Int) ≤ (l : Int) by omega)
    omega
  · rw [q, Int.zero_mul] at h; exact h
  · have := Int.mul_le_mul_of_nonneg_right (show 1 ≤ z by omega) (show (0 : Int) ≤ (l : Int) by omega)
    omega
theorem st_drop (hfu : 70000 ≤ fu) (h : Rel nw x m) : ∀ a, S2 Rel nw (f_X10_drop fu nw x a) (f_X11_drop fu m a) := by
  intro a
  have hR := rel_th h
  obtain ⟨y, st, tl, ns, hh, l, np, r, hA, hT, hS, hW, hH, hB, hO, hP, h0, h1, h2, h3, h4⟩ := h
  obtain ⟨⟨y1, y2, y3⟩, ⟨s1, s2, s3⟩, a3, ⟨d1, d2, d3⟩, ⟨e1, e2, e3⟩, ⟨o1, o2, o3⟩, a7, a8, a9⟩ := hA
  unfold f_X10_drop f_X11_drop
  rw [s1, s2]
  by_cases c0 : nI st = 3
  · rw [if_pos c0, if_pos c0]
    have hst : st = 3 := (nI_eq (by omega) (by decide)).mp (show nI st = nI 3 from c0)
    subst hst
    obtain ⟨r1, r2, r3, r4, r5, r6⟩ := h1 (by omega)
    obtain ⟨g1, g2, g3, g4⟩ := h3 (by omega)
    have hPL : PL nw r x (mu m 0 0 0) := ⟨g1, g2.1, g2.2⟩
    have hSN : SN nw r x (mu m 0 0 0) := g4 rfl
    have h01 : ∀ j, j < nw → m 23 j = 0 ∨ m 23 j = 1 := fun j hj => (hW.1 j hj).2.1
    unfold f_X3_countOthers
    have hco : ∃ c, c ≤ 10 ∧ f_X3_countOthers_4 fu nw (fun (x_4 : Me) (a1_4 : Int32) => some (x_4, a1_4)) fu x 0 0 = some (x, nI c) ∧ ∀ K, f_X11_drop_20 fu a K fu (mu m 0 0 0) 0 0 = K (mu m 0 0 0) (nI c) := by
      have key := fun K => co_sp (fu := fu) (b1 := a) (k := fun (x_4 : Me) (a1_4 : Int32) => some (x_4, a1_4)) (k' := K) r4 e3 r1 (show (mu m 0 0 0) 30 0 = nI r from r2) hSN hPL r 0 fu fu 0 (by omega) (by omega) (by omega)
      obtain ⟨c, c1, c2, _⟩ := key (fun x v => some (x, v))
      refine ⟨c, by omega, c2, fun K => ?_⟩
      obtain ⟨c', c1', c2', c3'⟩ := key K
      have : nI c = nI c' := by
        have := c2.symm.trans c2'
        exact (Prod.mk.inj (Option.some.inj this)).2
      rw [this]; exact c3'
    obtain ⟨c, hc, hc1, hc2⟩ := hco
    rw [hc1, ob_s, hc2]
    obtain ⟨v, ⟨vn, rfl, v1, v2⟩, l1, l2⟩ := law_sp (fu := fu) (nw := nw) (x := x) (m := mu m 0 0 0) (w := 5) (b := nI y) hfu (by decide) d1 d2 d3 hS
    rw [y1, show f_X6_inForce fu nw x 5 (nI y) = some (x, nI vn) from l1, ob_s, show (mu m 0 0 0) 3 0 = nI y from y2, show f_X11_lawOf fu (mu m 0 0 0) 5 (nI y) = some (mu m 0 0 0, nI vn) from l2, ob_s]
    by_cases ca : nI c ≤ nI vn
    · rw [if_pos ca, if_pos ca, show (mu m 0 0 0) 3 0 = nI y from y2]
      unfold f_X10_startRace f_X2_begin f_X0_begin_25
      rw [ob_s, ob_s]
      obtain ⟨u1, ⟨lp, rfl, lp1, lp2⟩, p1, p2⟩ := law_sp (fu := fu) (nw := nw) (x := mu (mu (mu (mu (mu x 49 1 a) 29 0 0) 34 0 0) 35 0 0) 36 0 (-1)) (m := mu (mu m 0 0 0) 29 0 a) (w := 1) (b := nI y) hfu (by decide) d1 d2 d3 hS
      obtain ⟨u2, _, p3, p4⟩ := law_sp (fu := fu) (nw := nw) (x := mu (mu (mu (mu (mu x 49 1 a) 29 0 0) 34 0 0) 35 0 0) 36 0 (-1)) (m := mu (mu (mu m 0 0 0) 29 0 a) 46 0 (nI lp)) (w := 2) (b := nI y) hfu (by decide) d1 d2 d3 hS
      obtain ⟨u3, _, p5, p6⟩ := law_sp (fu := fu) (nw := nw) (x := mu (mu (mu (mu (mu x 49 1 a) 29 0 0) 34 0 0) 35 0 0) 36 0 (-1)) (m := mu (mu (mu (mu m 0 0 0) 29 0 a) 46 0 (nI lp)) 47 0 u2) (w := 3) (b := nI y) hfu (by decide) d1 d2 d3 hS
      have hy1 : mu (mu (mu (mu (mu x 49 1 a) 29 0 0) 34 0 0) 35 0 0) 36 0 (-1) 1 0 = nI y := y1
      have hy2 : mu (mu m 0 0 0) 29 0 a 3 0 = nI y := y2
      have hy3 : mu (mu (mu m 0 0 0) 29 0 a) 46 0 (nI lp) 3 0 = nI y := y2
      rw [hy1, show f_X6_inForce fu nw (mu (mu (mu (mu (mu x 49 1 a) 29 0 0) 34 0 0) 35 0 0) 36 0 (-1)) 1 (nI y) = _ from p1, ob_s, hy1, show f_X6_inForce fu nw (mu (mu (mu (mu (mu x 49 1 a) 29 0 0) 34 0 0) 35 0 0) 36 0 (-1)) 2 (nI y) = _ from p3, ob_s, hy1, show f_X6_inForce fu nw (mu (mu (mu (mu (mu x 49 1 a) 29 0 0) 34 0 0) 35 0 0) 36 0 (-1)) 3 (nI y) = _ from p5, ob_s]
      rw [show f_X11_lawOf fu (mu (mu m 0 0 0) 29 0 a) 1 (nI y) = _ from p2, ob_s, hy2, show f_X11_lawOf fu (mu (mu (mu m 0 0 0) 29 0 a) 46 0 (nI lp)) 2 (nI y) = _ from p4, ob_s, hy3, show f_X11_lawOf fu (mu (mu (mu (mu m 0 0 0) 29 0 a) 46 0 (nI lp)) 47 0 u2) 3 (nI y) = _ from p6, ob_s]
      simp only [jn]
      have tail : ∀ s : Int32, (s = 0 ∨ s = 1) → S2 Rel nw (ob (f_X10_startRace_53 fu nw (fun (x_11 : Me) => some ((mu x_11 2 0 4), ())) fu (mu (mu (mu (mu (mu (mu (mu (mu x 49 1 a) 29 0 0) 34 0 0) 35 0 0) 36 0 (-1)) 31 0 (nI lp)) 32 0 u2) 33 0 s) 0) (fun x_3 _ => some (x_3, nI c))) (f_X11_drop_148 fu (nI c) (fun (x_14 : Me) => some ((mu x_14 4 0 4), nI c)) fu (mu (mu (mu (mu (mu (mu (mu (mu m 0 0 0) 29 0 a) 46 0 (nI lp)) 47 0 u2) 48 0 s) 43 0 0) 44 0 0) 45 0 (-1)) 0) := by
        intro s hs
        obtain ⟨x4, m4, k1, k2, k3, k4, k5, k6, k7, k8⟩ := sr_sp (fu := fu) (nw := nw) (r := r) hfu (b2 := nI c) (h := hh) (k := fun (x_11 : Me) => some ((mu x_11 2 0 4), ())) (k' := fun (x_14 : Me) => some ((mu x_14 4 0 4), nI c)) r4 e3 o3 r 0 fu fu (mu (mu (mu (mu (mu (mu (mu (mu x 49 1 a) 29 0 0) 34 0 0) 35 0 0) 36 0 (-1)) 31 0 (nI lp)) 32 0 u2) 33 0 s) (mu (mu (mu (mu (mu (mu (mu (mu m 0 0 0) 29 0 a) 46 0 (nI lp)) 47 0 u2) 48 0 s) 43 0 0) 44 0 0) 45 0 (-1)) (by omega) (by omega) (by omega) e1 o1 r1 r2 rfl (y1.trans y2.symm) hPL (fun j hj h23 => by
            obtain ⟨g, z1, z2, _⟩ := (g3 j hj).1 h23
            exact ⟨g, z1, z2⟩) (fun j hj => (hW.1 j hj).2.2.1) (fun p w hp => absurd hp (by omega))
        rw [show f_X10_startRace_53 fu nw (fun (x_11 : Me) => some ((mu x_11 2 0 4), ())) fu (mu (mu (mu (mu (mu (mu (mu (mu x 49 1 a) 29 0 0) 34 0 0) 35 0 0) 36 0 (-1)) 31 0 (nI lp)) 32 0 u2) 33 0 s) 0 = _ from k1, show f_X11_drop_148 fu (nI c) (fun (x_14 : Me) => some ((mu x_14 4 0 4), nI c)) fu (mu (mu (mu (mu (mu (mu (mu (mu m 0 0 0) 29 0 a) 46 0 (nI lp)) 47 0 u2) 48 0 s) 43 0 0) 44 0 0) 45 0 (-1)) 0 = _ from k2]
        have hx4 : ∀ f, inL [29, 31, 32, 33, 34, 35, 36, 37, 38, 39, 40, 41, 42, 43, 44, 49, 52] f = false → x4 f = x f := fun f hf => by
          rw [k3 f (inL_mono rfl hf), mu_fr _ _ _ hf rfl, mu_fr _ _ _ hf rfl, mu_fr _ _ _ hf rfl, mu_fr _ _ _ hf rfl, mu_fr _ _ _ hf rfl, mu_fr _ _ _ hf rfl, mu_fr _ _ _ hf rfl, mu_fr _ _ _ hf rfl]
        have hm4 : ∀ f, inL [0, 18, 29, 37, 38, 39, 40, 41, 42, 43, 44, 45, 46, 47, 48] f = false → m4 f = m f := fun f hf => by
          rw [k4 f (inL_mono rfl hf), mu_fr _ _ _ hf rfl, mu_fr _ _ _ hf rfl, mu_fr _ _ _ hf rfl, mu_fr _ _ _ hf rfl, mu_fr _ _ _ hf rfl, mu_fr _ _ _ hf rfl, mu_fr _ _ _ hf rfl, mu_fr _ _ _ hf rfl]
        have f31 : x4 31 0 = nI lp := by rw [k3 31 rfl]; rfl
        have f32 : x4 32 0 = u2 := by rw [k3 32 rfl]; rfl
        have f33 : x4 33 0 = s := by rw [k3 33 rfl]; rfl
        have f34 : x4 34 0 = nI 0 := by rw [k3 34 rfl]; rfl
        have f35 : x4 35 0 = nI 0 := by rw [k3 35 rfl]; rfl
        have f36 : x4 36 0 = -1 := by rw [k3 36 rfl]; rfl
        have f49 : x4 49 1 = a := by rw [k3 49 rfl]; rfl
        have n46 : m4 46 0 = nI lp := by rw [k4 46 rfl]; rfl
        have n47 : m4 47 0 = u2 := by rw [k4 47 rfl]; rfl
        have n48 : m4 48 0 = s := by rw [k4 48 rfl]; rfl
        have n44 : m4 44 0 = nI 0 := by rw [k4 44 rfl]; rfl
        have n43 : m4 43 0 = nI 0 := by rw [k4 43 rfl]; rfl
        have n45 : m4 45 0 = -1 := by rw [k4 45 rfl]; rfl
        have n29 : m4 29 0 = a := by rw [k4 29 rfl]; rfl
        have hE : ∀ p w, p < r → w < nw → m 32 p = nI w → EN hh x4 m4 p w := k8
        have k7' : ∀ j, nw ≤ j → m4 18 j = m 18 j := k7
        clear k1 k2 k3 k4 k7 k8
        obtain ⟨gx, rfl⟩ := msL_of hx4
        obtain ⟨gm, rfl⟩ := msL_of hm4
        clear hx4 hm4
        have h43 : ∀ i, i < r → gx 43 i = -1 := fun i hi => by
          obtain ⟨w, w1, _, w3, _⟩ := g1 i hi
          exact (hE i w hi w1 w3).2.2.2.2.2.1.1
        refine ⟨_, _, _, rfl, rfl, ⟨y, 4, tl, ns, hh, l, np, r, ⟨⟨y1, y2, y3⟩, ⟨rfl, rfl, by decide⟩, a3, ⟨d1, d2, d3⟩, ⟨e1, e2, e3⟩, ⟨o1, o2, o3⟩, a7, a8, a9⟩, hT, hS, ⟨fun j hj => ?_, fun j z1 z2 => ?_⟩, hH, hB, hO, hP, ⟨fun q => absurd q (by decide), fun q => absurd q (by decide), fun q => absurd q (by decide)⟩, fun _ => ⟨r1, r2, r3, r4, r5, r6⟩, fun _ => h2 (by decide), fun _ => ⟨g1, g2, g3, fun q => absurd q (by decide)⟩, fun _ => ⟨lp, 0, 0, lp1, lp2, by omega, by omega, ⟨k5, f31, n46, f32.trans n47.symm, f33.trans n48.symm, by rw [show (mu (msL [0, 18, 29, 37, 38, 39, 40, 41, 42, 43, 44, 45, 46, 47, 48] m gm) 4 0 4) 48 0 = s from n48]; exact hs, f34, n44, f35, n43, f36.trans n45.symm⟩, fun i w hi hm hw => ?_, fun _ => ⟨f49.trans n29.symm, by omega, by omega, fun i w hi hm hw => ?_, ?_, fun i j hi hj hne q1 q2 q3 => ?_⟩⟩⟩⟩
        · obtain ⟨b1, b2, b3, b4, b5, b6⟩ := hW.1 j hj
          exact ⟨b1, b2, k6 j hj, b4, b5, b6⟩
        · obtain ⟨b1, b2, b3, b4, b5⟩ := hW.2 j z1 z2
          exact ⟨(k7' j z1).trans b1, b2, b3, b4, b5⟩
        · obtain ⟨b1, ⟨b2, b3⟩, ⟨b4, b5⟩, ⟨b6, b7⟩, ⟨b8, b9⟩, ⟨b10, b11⟩, ⟨b12, b13⟩, _⟩ := hE i w hi hw hm
          exact ⟨b1, b2.trans b3.symm, b4.trans b5.symm, b6.trans b7.symm, b8.trans b9.symm, b10.trans b11.symm, b12.trans b13.symm⟩
        · obtain ⟨b1, ⟨b2, b3⟩, ⟨b4, b5⟩, ⟨b6, b7⟩, ⟨b8, b9⟩, ⟨b10, b11⟩, ⟨b12, b13⟩, g, hg, hg1, hg2⟩ := hE i w hi hw hm
          have hll : 12 ≤ lp * l := Nat.le_trans (show 12 ≤ 1 * 12 by decide) (Nat.mul_le_mul (show 1 ≤ lp from lp1) a7.2.2.1)
          refine ⟨⟨⟨2 - i / 4, ?_, by omega, fun _ => by omega⟩, ⟨i % 4, by omega, b5⟩, ⟨0, by omega, b7⟩, Or.inl b9, Or.inl b11⟩, g, hg, hg1, hg2⟩
          have : gm 37 w + 2 = nI (2 - i / 4) := by rw [show gm 37 w = -(nI i / 4) from b3, d4 (by omega)]
          exact this
        · have : (List.range r).filter (fun i => decide (gx 43 i = -1)) = List.range r := List.filter_eq_self.mpr (fun i hi => by rw [h43 i (List.mem_range.mp hi)]; rfl)
          show ((List.range r).filter (fun i => decide (gx 43 i = -1))).length + 0 = r
          rw [this, List.length_range]; rfl
        · intro d e hd he hz1 hz2 hmodl
          obtain ⟨wi, wi1, _, wi3, _⟩ := g1 i hi
          obtain ⟨wj, wj1, _, wj3, _⟩ := g1 j hj
          obtain ⟨_, ⟨bi2, _⟩, ⟨bi4, _⟩, _⟩ := hE i wi hi wi1 wi3
          obtain ⟨_, ⟨bj2, _⟩, ⟨bj4, _⟩, _⟩ := hE j wj hj wj1 wj3
          have q3' : nI (i % 4) = nI (j % 4) := bi4.symm.trans (Eq.trans q3 bj4)
          have hmod := (nI_eq (by omega) (by omega)).mp q3'
          have hz1' : gx 39 i + 2 = nI d := hz1
          have hz2' : gx 39 j + 2 = nI e := hz2
          rw [show gx 39 i = -(nI i / 4) from bi2, d4 (by omega)] at hz1'
          rw [show gx 39 j = -(nI j / 4) from bj2, d4 (by omega)] at hz2'
          have k1 := (nI_eq (by omega) (by omega)).mp hz1'
          have k2 := (nI_eq (by omega) (by omega)).mp hz2'
          have h12 := a7.2.2.1
          rw [Nat.mod_eq_of_lt (show d < l by omega), Nat.mod_eq_of_lt (show e < l by omega)] at hmodl
          omega
      by_cases cu : u3 = 1
      · rw [if_pos cu]
        have : f_X2_setLaws fu nw (mu (mu (mu (mu (mu x 49 1 a) 29 0 0) 34 0 0) 35 0 0) 36 0 (-1)) (nI lp) u2 u3 = some (mu (mu (mu (mu (mu (mu (mu (mu x 49 1 a) 29 0 0) 34 0 0) 35 0 0) 36 0 (-1)) 31 0 (nI lp)) 32 0 u2) 33 0 1, ()) := if_pos cu
        rw [this, ob_s, if_pos (show z01 1 = true from rfl)]
        exact tail 1 (Or.inr rfl)
      · rw [if_neg cu]
        have : f_X2_setLaws fu nw (mu (mu (mu (mu (mu x 49 1 a) 29 0 0) 34 0 0) 35 0 0) 36 0 (-1)) (nI lp) u2 u3 = some (mu (mu (mu (mu (mu (mu (mu (mu x 49 1 a) 29 0 0) 34 0 0) 35 0 0) 36 0 (-1)) 31 0 (nI lp)) 32 0 u2) 33 0 0, ()) := if_neg cu
        rw [this, ob_s, if_pos (show z01 0 = true from rfl)]
        exact tail 0 (Or.inl rfl)
    · rw [if_neg ca, if_neg ca]
      unfold f_X3_addFalseStarts f_X11_isFalse
      obtain ⟨u, _, p1, p2⟩ := law_sp (fu := fu) (nw := nw) (x := x) (m := mu m 0 0 0) (w := 6) (b := nI y) hfu (by decide) d1 d2 d3 hS
      rw [show (mu m 0 0 0) 3 0 = nI y from y2, show f_X11_lawOf fu (mu m 0 0 0) 6 (nI y) = _ from p2, ob_s]
      obtain ⟨x1, m1, k1, k2, k3, k4, k5, k6⟩ := af_sp (fu := fu) (nw := nw) (r := r) (b1 := u) (k := fun (x_6 : Me) => some (x_6, ())) (k' := fun (x_6 : Me) => f_X11_isFalse_59 fu u (fun (x_18 : Me) => f_X11_isFalse_165 fu (fun (x_21 : Me) => some (x_21, ())) fu x_18 0) fu x_6 0) r4 e3 r 0 fu fu x (mu m 0 0 0) (by omega) (by omega) (by omega) e1 r1 r2 hSN hPL (fun j hj => (hW.1 j hj).2.2.2.2.1)
      rw [show f_X3_addFalseStarts_2 fu nw (fun (x_6 : Me) => some (x_6, ())) fu x 0 = _ from k1, ob_s, show f_X11_isFalse_13 fu u (fun (x_6 : Me) => f_X11_isFalse_59 fu u (fun (x_18 : Me) => f_X11_isFalse_165 fu (fun (x_21 : Me) => some (x_21, ())) fu x_18 0) fu x_6 0) fu (mu m 0 0 0) 0 = _ from k2]
      obtain ⟨x2, f1, f2, f3⟩ := fs_sp (fu := fu) (nw := nw) hfu x1
      have hx2 : ∀ f, inL [23, 54] f = false → x2 f = x f := fun f hf => by rw [f2 f (inL_mono rfl hf), k3 f (inL_mono rfl hf)]
      have hm1 : ∀ f, inL [0, 20] f = false → m1 f = m f := fun f hf => by rw [k4 f (inL_mono rfl hf), mu_fr _ _ _ hf rfl]
      have p1' : f_X6_inForce fu nw x2 6 (nI y) = some (x2, u) := by
        obtain ⟨u', _, z1, z2⟩ := law_sp (fu := fu) (nw := nw) (x := x2) (m := mu m 0 0 0) (w := 6) (b := nI y) hfu (by decide) (by rw [hx2 10 rfl]; exact d1) d2 d3 (fun i hi => by rw [hx2 11 rfl, hx2 12 rfl]; exact hS i hi)
        have : u' = u := (Prod.mk.inj (Option.some.inj (z2.symm.trans p2))).2
        rw [this] at z1; exact z1
      rw [f1, ob_s, show x2 1 0 = nI y by rw [hx2 1 rfl]; exact y1, p1', ob_s]
      unfold f_X3_sendBack
      obtain ⟨x3, m3, q1, q2, q3, q4, q5, q6, q7⟩ := sb_sp (fu := fu) (nw := nw) (r := r) hfu (v := u) (k := fun (x_7 : Me) => some (x_7, ())) (k' := fun (x_18 : Me) => f_X11_isFalse_165 fu (fun (x_21 : Me) => some (x_21, ())) fu x_18 0) r4 e3 nw 0 0 fu fu x2 m1 (by omega) (by omega) (by omega) (by rw [hx2 13 rfl]; exact e1) (by rw [hm1 17 rfl]; exact e2) (by rw [hx2 20 rfl]; exact r1) (by rw [hm1 30 rfl]; exact r2) (fun j hj => by rw [hm1 23 rfl]; exact h01 j hj)
        (by unfold PL; rw [hx2 22 rfl, hm1 32 rfl, hm1 23 rfl]; exact hPL) (fun w hw => by rw [f2 54 rfl]; exact k5 w hw) (by rw [hm1 23 rfl, ← List.range_eq_range', Nat.zero_add]; exact r5)
        (fun t w ht => by
          rw [hm1 23 rfl, ← List.range_eq_range'] at ht
          obtain ⟨z1, _⟩ := List.getElem?_eq_some_iff.mp ht
          have z1' : t < (runs nw m).length := z1
          rw [hx2 21 rfl, Nat.zero_add, r6 t (by omega), List.getD_eq_getElem?_getD, show (runs nw m)[t]? = some w from ht]
          rfl)
      rw [show f_X3_sendBack_2 fu nw u (fun (x_7 : Me) => some (x_7, ())) fu x2 0 = _ from q1, ob_s, show f_X11_isFalse_59 fu u (fun (x_18 : Me) => f_X11_isFalse_165 fu (fun (x_21 : Me) => some (x_21, ())) fu x_18 0) fu m1 0 = _ from q2]
      obtain ⟨m4, t1, t2, _, t4⟩ := c165 (fu := fu) (r := r) (k := fun (x_21 : Me) => some (x_21, ())) r4 r 0 fu m3 (by rw [q4 30 rfl, hm1 30 rfl]; exact r2) (by omega) (by omega)
      rw [show f_X11_isFalse_165 fu (fun (x_21 : Me) => some (x_21, ())) fu m3 0 = _ from t1, ob_s]
      have hx3 : ∀ f, inL [22, 23, 54] f = false → x3 f = x f := fun f hf => by rw [q3 f (inL_mono rfl hf), hx2 f (inL_mono rfl hf)]
      have hm4 : ∀ f, inL [0, 20, 32, 33] f = false → m4 f = m f := fun f hf => by rw [t2 f (inL_mono rfl hf), q4 f (inL_mono rfl hf), hm1 f (inL_mono rfl hf)]
      have hF : ∀ w, w < nw → x3 54 w = m4 20 w := fun w hw => by rw [t2 20 rfl]; exact q5 w hw
      have hF2 : ∀ w, nw ≤ w → m4 20 w = m 20 w := fun w hw => by rw [t2 20 rfl, q6 w hw, k6 w hw]; rfl
      have hL2 : PL nw r x3 m4 := by
        unfold PL
        rw [t2 32 rfl, t2 23 rfl]; exact q7
      have hsn : ∀ p, p < r → x3 23 p = -1 ∧ m4 33 p = m4 32 p := fun p hp => by
        rw [q3 23 rfl, t2 32 rfl]
        exact ⟨f3 p (by omega), t4 p (by omega) hp⟩
      clear k1 k2 k3 k4 k5 k6 f1 f2 f3 q1 q2 q3 q4 q5 q6 q7 t1 t2 t4 hx2 hm1 p1'
      obtain ⟨gx, rfl⟩ := msL_of hx3
      obtain ⟨gm, rfl⟩ := msL_of hm4
      refine ⟨_, _, _, rfl, rfl, ⟨y, 3, tl, ns, hh, l, np, r, ⟨⟨y1, y2, y3⟩, ⟨s1, s2, s3⟩, a3, ⟨d1, d2, d3⟩, ⟨e1, e2, e3⟩, ⟨o1, o2, o3⟩, a7, a8, a9⟩, hT, hS, ⟨fun j hj => ?_, fun j z1 z2 => ?_⟩, hH, hB, hO, hP, h0, fun _ => ⟨r1, r2, r3, r4, r5, r6⟩, fun _ => h2 (by decide), fun _ => ⟨hL2.1, ⟨hL2.2.1, hL2.2.2⟩, g3, fun _ p hp => Or.inl (hsn p hp)⟩, fun q => absurd q (by decide)⟩⟩
      · obtain ⟨b1, b2, b3, b4, b5, b6⟩ := hW.1 j hj
        exact ⟨b1, b2, b3, b4, hF j hj, b6⟩
      · obtain ⟨b1, b2, b3, b4, b5⟩ := hW.2 j z1 z2
        exact ⟨b1, b2, (hF2 j z1).trans b3, b4, b5⟩
  · rw [if_neg c0, if_neg c0]
    exact ⟨x, _, _, rfl, rfl, hR⟩
end PUR14
