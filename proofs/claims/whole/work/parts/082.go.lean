abbrev FXo : List Nat := [30, 34, 35, 36, 39, 40, 41, 42, 43, 44, 45, 49, 55]
abbrev FMo : List Nat := [4, 21, 29, 37, 38, 39, 40, 41, 42, 43, 44, 45, 49, 53]
def goX (fu nw : Nat) (x_5 : Me) (a2_5 : Int32) : Option (Me × Int32) := ob (f_X2_isOver fu nw x_5) (fun x_6 r_6 => if r_6 = 0 then some (x_6, a2_5) else ob (f_X1_settle fu nw x_6 (x_6 36 0)) (fun x_7 _ => some ((mu x_7 2 0 5), a2_5)))
section PUR31
variable {fu nw np : Nat} {x m : Me}
theorem stl {win : Int32} {K : Me → Option (Me × Unit)} {K' : Me → Option (Me × Unit)} (hn : nw ≤ 17) (hnp : np ≤ 40) : ∀ (k i n1 n2 : Nat) (x m : Me), i + k = np → k < n1 → k < n2 → x 13 0 = nI nw → x 45 0 = nI np → m 53 0 = nI np → m 45 0 = win → RP nw np x m → (∀ j, j < nw → x 55 j = m 21 j) →
    ∃ x' m', f_X1_settle_2 fu nw win K n1 x (nI i) = K x' ∧ f_X11_ends_7 fu K' n2 m (nI i) = K' m' ∧ (∀ f, inL [55] f = false → x' f = x f) ∧ (∀ f, inL [21] f = false → m' f = m f) ∧ (∀ j, j < nw → x' 55 j = m' 21 j) ∧ ∀ j, nw ≤ j → m' 21 j = m 21 j
  | 0, i, n1 + 1, n2 + 1, x, m, hi, _, _, e1, e2, e3, e4, hP, hF => by
    refine ⟨x, m, ?_, ?_, fun _ _ => rfl, fun _ _ => rfl, hF, fun _ _ => rfl⟩
    · rw [f_X1_settle_2_s, e2, if_pos (nI_le (by omega) (by omega))]
    · rw [f_X11_ends_7_s, e3, if_pos (nI_le (by omega) (by omega))]
  | k + 1, i, n1 + 1, n2 + 1, x, m, hi, g1, g2, e1, e2, e3, e4, hP, hF => by
    obtain ⟨p1, a, b, ha, hb, hab, p2, p3, p4, p5⟩ := hP i (by omega)
    rw [f_X1_settle_2_s, f_X11_ends_7_s, e2, e3, e4, if_neg (nI_ge (by omega) (by omega)), if_neg (nI_ge (by omega) (by omega)), if_pos (inb_nI (by omega) (by decide)), if_pos (inb_nI (by omega) (by decide)), nI_clamp (n := i) (by omega), p2, p3, p5, find_yes e1 ha hn, ob_s, om_1, if_pos ha, p4, find_yes e1 hb hn, ob_s, om_1, if_pos hb, p2, nI_1]
    by_cases q : nI a = win
    · rw [if_pos q, if_pos q, if_pos (inb_nI (by omega) (by decide)), if_pos (inb_nI (by omega) (by decide)), nI_clamp (n := a) (by omega), nI_clamp (n := b) (by omega)]
      obtain ⟨x', m', k1, k2, k3, k4, k5, k6⟩ := stl (win := win) (K := K) (K' := K') hn hnp k (i + 1) n1 n2 (mu (mu x 55 a ((x 55 a) - (x 48 i))) 55 b (((mu x 55 a ((x 55 a) - (x 48 i))) 55 b) + (x 48 i))) (mu (mu m 21 a ((m 21 a) - (m 52 i))) 21 b (((mu m 21 a ((m 21 a) - (m 52 i))) 21 b) + (m 52 i))) (by omega) (by omega) (by omega) e1 e2 e3 e4 hP (fun j hj => by
        by_cases z : j = b
        · rw [z, mu_same, mu_same, mu_ne _ _ _ _ _ (fun c => hab c.symm), mu_ne _ _ _ _ _ (fun c => hab c.symm), hF b hb, p1]
        · rw [mu_ne _ _ _ _ _ z, mu_ne _ _ _ _ _ z]
          by_cases y : j = a
          · rw [y, mu_same, mu_same, hF a ha, p1]
          · rw [mu_ne _ _ _ _ _ y, mu_ne _ _ _ _ _ y]; exact hF j hj)
      refine ⟨x', m', k1, k2, fun f hf => ?_, fun f hf => ?_, k5, fun j hj => ?_⟩
      · rw [k3 f hf, mu_fr _ _ _ hf rfl, mu_fr _ _ _ hf rfl]
      · rw [k4 f hf, mu_fr _ _ _ hf rfl, mu_fr _ _ _ hf rfl]
      · rw [k6 j hj, mu_ne _ _ _ _ _ (by omega), mu_ne _ _ _ _ _ (by omega)]
    · rw [if_neg q, if_neg q]
      exact stl hn hnp k (i + 1) n1 n2 x m (by omega) (by omega) (by omega) e1 e2 e3 e4 hP hF
  | 0, _, 0, _, _, _, _, h, _, _, _, _, _, _, _ => absurd h (by omega)
  | 0, _, n + 1, 0, _, _, _, _, h, _, _, _, _, _, _ => absurd h (by omega)
  | k + 1, _, 0, _, _, _, _, h, _, _, _, _, _, _, _ => absurd h (by omega)
  | k + 1, _, n + 1, 0, _, _, _, _, h, _, _, _, _, _, _ => absurd h (by omega)
theorem go_core (hfu : 70000 ≤ fu) (hR0 : Rel nw x m) (hm4 : m 4 0 = 4) {N : Nat} (hN : N ≤ 400) : S2 Rel nw (f_X10_go_24 fu nw (nI N) (goX fu nw) fu x 0) (f_X11_go_29 fu (nI N) (fun (x_4 : Me) (a2_4 : Int32) => some (x_4, a2_4)) fu m 0) := by
  obtain ⟨y, st, tl, ns, hh, l, np, r, hA, hT, hSt, hW, hH, hB, hO, hP, h0, h1, h2, h3, h4⟩ := hR0
  obtain ⟨a1, ⟨s1, s2, s3⟩, a3, a4, ⟨e1, e2, e3⟩, a6, ⟨l1, l2, l3, l4⟩, ⟨n1, n2, n3⟩, a9⟩ := hA
  have hst : st = 4 := by
    rw [s2] at hm4
    exact (nI_eq (b := 4) (by omega) (by decide)).mp hm4
  subst hst
  obtain ⟨r1, r2, r3, r4, r5, r6⟩ := h1 (by omega)
  obtain ⟨g1, ⟨g2, g2'⟩, g3, _⟩ := h3 (by omega)
  obtain ⟨lp, t0, ar0, lp1, lp2, ht0, har0, ⟨c1, c2, c3, c4, c5, c6, c7, c8, c9, c10, c11⟩, d1, d2⟩ := h4 (by omega)
  obtain ⟨f1, f2, f3, f4, f5, f6⟩ := d2 rfl
  have hs : ∀ i, i < r → ∃ w, w < nw ∧ m 32 i = nI w ∧ (m 32 i).toNatClampNeg = w ∧ m 23 w = 1 := fun i hi => by
    obtain ⟨w, w1, _, w3, w4⟩ := g1 i hi
    exact ⟨w, w1, w3, by rw [w3, nI_clamp (by omega)], w4⟩
  have hS : ST nw r hh l lp (fun i => (m 32 i).toNatClampNeg) x m := by
    refine ⟨⟨e3, r4, a6.2.2, l3, l4, lp1, lp2⟩, ⟨e1, e2, c1, r2, l1, l2, c2, c3, c4, c5⟩, hB, hO, fun i hi => ?_, fun i j hi hj hij => ?_, fun j hj hj1 => ?_, fun j hj => (hW.1 j hj).2.1, fun i hi => ?_⟩
    · obtain ⟨w, w1, w2, w3, w4⟩ := hs i hi
      show (m 32 i).toNatClampNeg < nw ∧ m 23 (m 32 i).toNatClampNeg = 1 ∧ x 37 i = nI (m 32 i).toNatClampNeg
      rw [w3]
      exact ⟨w1, w4, (d1 i w hi w2 w1).1⟩
    · obtain ⟨w, w1, w2, w3, w4⟩ := hs i hi
      obtain ⟨v, v1, v2, v3, v4⟩ := hs j hj
      have hij' : (m 32 i).toNatClampNeg = (m 32 j).toNatClampNeg := hij
      rw [w3, v3] at hij'
      exact g2 i j hi hj (by rw [w2, v2, hij'])
    · obtain ⟨p, p1, p2⟩ := g2' j hj hj1
      exact ⟨p, p1, by show (m 32 p).toNatClampNeg = j; rw [p2, nI_clamp (by omega)]⟩
    · obtain ⟨w, w1, w2, w3, w4⟩ := hs i hi
      show ∃ g k, g < hh ∧ k ≤ 999 ∧ m 22 (m 32 i).toNatClampNeg = nI g ∧ m 27 g = nI k ∧ x 38 i = nI (3 + k / 250)
      rw [w3]
      obtain ⟨g, z1, z2, z3⟩ := (g3 w w1).1 w4
      obtain ⟨_, g', y1, y2, y3⟩ := f4 i w hi w2 w1
      have hgg : g = g' := (nI_eq (by omega) (by omega)).mp (z2.symm.trans y2)
      subst hgg
      obtain ⟨⟨k, k1, k2, k3⟩, _⟩ := hH g z1
      refine ⟨g, k, z1, k1, z3, k3, ?_⟩
      rw [y3, k2, show nI k / 250 = nI (k / 250) from pk_div (d := 250) (by omega) (by decide) (by decide), show (3 : Int32) + nI (k / 250) = nI (3 + k / 250) from nI_add 3 _]
  have hD : DY r l lp (fun i => (m 32 i).toNatClampNeg) ar0 x m := by
    refine ⟨⟨f1, c9, c10, c11⟩, fun i hi => ?_, f5, f6⟩
    obtain ⟨w, w1, w2, w3, w4⟩ := hs i hi
    obtain ⟨_, b2, b3, b4, b5, b6, b7⟩ := d1 i w hi w2 w1
    obtain ⟨⟨q1, q2, q3, q4, q5⟩, _⟩ := f4 i w hi w2 w1
    show LK x m i (m 32 i).toNatClampNeg ∧ NB lp l ar0 x i
    rw [w3]
    refine ⟨⟨b2, b3, b4, b5, b6, b7⟩, ?_⟩
    unfold NB
    rw [b2, b3, b4, b5, b6]
    exact ⟨q1, q2, q3, q4, q5⟩
  have har : ∀ ar' (x' : Me), CN r ar' x' → ar' ≤ r := fun ar' x' hC => by unfold CN at hC; omega
  -- what holds while the race goes on
  have relA : ∀ (x' m' : Me) (t' ar' : Nat), (∀ f, inL FX f = false → x' f = x f) → (∀ f, inL FM f = false → m' f = m f) → DY r l lp (fun i => (m 32 i).toNatClampNeg) ar' x' m' → x' 34 0 = nI t' → m' 44 0 = nI t' → ar' < r → t' < 400 → Rel nw x' m' := by
    intro x' m' t' ar' fx fm hD' h34 h44 har' ht'
    obtain ⟨gx, rfl⟩ := msL_of fx
    obtain ⟨gm, rfl⟩ := msL_of fm
    obtain ⟨⟨u1, u2, u3, u4⟩, v1, v2, v3⟩ := hD'
    have hw : ∀ i w, i < r → m 32 i = nI w → w < nw → LK (msL FX x gx) (msL FM m gm) i w ∧ NB lp l ar' (msL FX x gx) i := fun i w hi hm hwn => by
      have := v1 i hi
      have e : (m 32 i).toNatClampNeg = w := by rw [hm, nI_clamp (by omega)]
      have this' : LK (msL FX x gx) (msL FM m gm) i (m 32 i).toNatClampNeg ∧ NB lp l ar' (msL FX x gx) i := this
      rw [e] at this'
      exact this'
    refine ⟨y, 4, tl, ns, hh, l, np, r, ⟨a1, ⟨s1, s2, s3⟩, a3, a4, ⟨e1, e2, e3⟩, a6, ⟨l1, l2, l3, l4⟩, ⟨n1, n2, n3⟩, a9⟩, hT, hSt, hW, hH, hB, hO, hP, ⟨fun q => absurd q (by decide), fun q => absurd q (by decide), fun q => absurd q (by decide)⟩, fun _ => ⟨r1, r2, r3, r4, r5, r6⟩, h2, fun _ => ⟨g1, ⟨g2, g2'⟩, g3, fun q => absurd q (by decide)⟩, fun _ => ⟨lp, t', ar', lp1, lp2, by omega, by omega, ⟨c1, c2, c3, c4, c5, c6, h34, h44, u2, u3, u4⟩, fun i w hi hm hwn => ?_, fun _ => ⟨u1, har', ht', fun i w hi hm hwn => ?_, v2, v3⟩⟩⟩
    · obtain ⟨⟨L1, L2, L3, L4, L5, L6⟩, _⟩ := hw i w hi hm hwn
      exact ⟨(d1 i w hi hm hwn).1, L1, L2, L3, L4, L5, L6⟩
    · obtain ⟨⟨L1, L2, L3, L4, L5, L6⟩, hN'⟩ := hw i w hi hm hwn
      refine ⟨?_, (f4 i w hi hm hwn).2⟩
      unfold NB at hN'
      rw [L1, L2, L3, L4, L5] at hN'
      exact hN'
  -- what holds when it is over
  have relB : ∀ (x' m' : Me) (t' ar' : Nat), (∀ f, inL FX f = false → x' f = x f) → (∀ f, inL FM f = false → m' f = m f) → DY r l lp (fun i => (m 32 i).toNatClampNeg) ar' x' m' → x' 34 0 = nI t' → m' 44 0 = nI t' → t' ≤ 400 → ∃ x3 m3, f_X1_settle fu nw x' (x' 36 0) = some (x3, ()) ∧ f_X11_ends fu m' = some (m3, ()) ∧ Rel nw (mu x3 2 0 5) m3 ∧ m3 4 0 = 5 := by
    intro x' m' t' ar' fx fm hD' h34 h44 ht'
    obtain ⟨⟨u1, u2, u3, u4⟩, v1, v2, v3⟩ := hD'
    obtain ⟨x2, m2, k1, k2, k3, k4, k5, k6⟩ := stl (fu := fu) (nw := nw) (np := np) (win := x' 36 0) (K := fun (x_10 : Me) => some ((mu x_10 45 0 0), ())) (K' := fun (x_6 : Me) => some ((mu x_6 53 0 0), ())) e3 n3 np 0 fu fu x' (mu m' 4 0 5) (by omega) (by omega) (by omega) (by rw [fx 13 rfl]; exact e1) (by rw [fx 45 rfl]; exact n1) (by show m' 53 0 = nI np; rw [fm 53 rfl]; exact n2) u4.symm (by
      unfold RP
      rw [fx 46 rfl, fx 47 rfl, fx 48 rfl, show mu m' 4 0 5 50 = m 50 from fm 50 rfl, show mu m' 4 0 5 51 = m 51 from fm 51 rfl, show mu m' 4 0 5 52 = m 52 from fm 52 rfl]
      exact hP) (fun j hj => by
      rw [fx 55 rfl]
      show x 55 j = m' 21 j
      rw [fm 21 rfl]
      exact (hW.1 j hj).2.2.2.2.2)
    refine ⟨mu x2 45 0 0, mu m2 53 0 0, k1, k2, ?_, ?_⟩
    · have hx2 : ∀ f, inL FXo f = false → mu x2 45 0 0 f = x f := fun f hf => by rw [mu_fr _ _ _ hf rfl, k3 f (inL_mono rfl hf), fx f (inL_mono rfl hf)]
      have hm2 : ∀ f, inL FMo f = false → mu m2 53 0 0 f = m f := fun f hf => by rw [mu_fr _ _ _ hf rfl, k4 f (inL_mono rfl hf), mu_fr _ _ _ hf rfl, fm f (inL_mono rfl hf)]
      have w34 : mu x2 45 0 0 34 0 = nI t' := by show x2 34 0 = nI t'; rw [k3 34 rfl]; exact h34
      have w44 : mu m2 53 0 0 44 0 = nI t' := by show m2 44 0 = nI t'; rw [k4 44 rfl]; exact h44
      have w35 : mu x2 45 0 0 35 0 = nI ar' := by show x2 35 0 = nI ar'; rw [k3 35 rfl]; exact u2
      have w43 : mu m2 53 0 0 43 0 = nI ar' := by show m2 43 0 = nI ar'; rw [k4 43 rfl]; exact u3
      have w36 : mu x2 45 0 0 36 0 = mu m2 53 0 0 45 0 := by show x2 36 0 = m2 45 0; rw [k3 36 rfl, k4 45 rfl]; exact u4
      have w4 : mu m2 53 0 0 4 0 = nI 5 := by show m2 4 0 = nI 5; rw [k4 4 rfl]; rfl
      have wF : ∀ j, j < nw → mu x2 45 0 0 55 j = mu m2 53 0 0 21 j := k5
      have wF2 : ∀ j, nw ≤ j → mu m2 53 0 0 21 j = m 21 j := fun j hj => by
        show m2 21 j = m 21 j
        rw [k6 j hj]
        show m' 21 j = m 21 j
        rw [fm 21 rfl]
      have wL : ∀ i w, i < r → m 32 i = nI w → w < nw → LK (mu x2 45 0 0) (mu m2 53 0 0) i w := fun i w hi hm hwn => by
        have h1 := (v1 i hi).1
        have e : (m 32 i).toNatClampNeg = w := by rw [hm, nI_clamp (by omega)]
        have h1' : LK x' m' i (m 32 i).toNatClampNeg := h1
        rw [e] at h1'
        show LK x2 m2 i w
        unfold LK
        rw [k3 39 rfl, k3 40 rfl, k3 41 rfl, k3 42 rfl, k3 43 rfl, k3 44 rfl, k4 37 rfl, k4 38 rfl, k4 39 rfl, k4 40 rfl, k4 41 rfl, k4 42 rfl]
        exact h1'
      have w45 : mu x2 45 0 0 45 0 = nI 0 := mu_same _ _ _ _
      have w53 : mu m2 53 0 0 53 0 = nI 0 := mu_same _ _ _ _
      have hari := har ar' x' v2
      generalize mu x2 45 0 0 = xx at hx2 w34 w35 w36 wF wL w45
      generalize mu m2 53 0 0 = mm at hm2 w44 w43 w36 w4 wF wF2 wL w53
      obtain ⟨gx, rfl⟩ := msL_of hx2
      obtain ⟨gm, rfl⟩ := msL_of hm2
      refine ⟨y, 5, tl, ns, hh, l, 0, r, ⟨a1, ⟨rfl, w4, by decide⟩, a3, a4, ⟨e1, e2, e3⟩, a6, ⟨l1, l2, l3, l4⟩, ⟨w45, w53, by decide⟩, a9⟩, hT, hSt, ⟨fun j hj => ?_, fun j z1 z2 => ?_⟩, hH, hB, hO, fun i hi => absurd hi (by omega), ⟨fun q => absurd q (by decide), fun q => absurd q (by decide), fun q => absurd q (by decide)⟩, fun _ => ⟨r1, r2, r3, r4, r5, r6⟩, fun _ => h2 (by decide), fun _ => ⟨g1, ⟨g2, g2'⟩, g3, fun q => absurd q (by decide)⟩, fun _ => ⟨lp, t', ar', lp1, lp2, ht', hari, ⟨c1, c2, c3, c4, c5, c6, w34, w44, w35, w43, w36⟩, fun i w hi hm hwn => ?_, fun q => absurd q (by decide)⟩⟩
      · obtain ⟨b1, b2, b3, b4, b5, b6⟩ := hW.1 j hj
        exact ⟨b1, b2, b3, b4, b5, wF j hj⟩
      · obtain ⟨b1, b2, b3, b4, b5⟩ := hW.2 j z1 z2
        exact ⟨b1, b2, b3, (wF2 j z1).trans b4, b5⟩
      · obtain ⟨L1, L2, L3, L4, L5, L6⟩ := wL i w hi hm hwn
        exact ⟨(d1 i w hi hm hwn).1, L1, L2, L3, L4, L5, L6⟩
    · show m2 4 0 = 5
      rw [k4 4 rfl]; rfl
  -- the loop
  have key : ∀ (d dn q1 q2 t ar : Nat) (x' m' : Me), dn + d = N → d < q1 → d < q2 → (∀ f, inL FX f = false → x' f = x f) → (∀ f, inL FM f = false → m' f = m f) → DY r l lp (fun i => (m 32 i).toNatClampNeg) ar x' m' → x' 34 0 = nI t → m' 44 0 = nI t → ar < r → t < 400 →
      S2 Rel nw (f_X10_go_24 fu nw (nI N) (goX fu nw) q1 x' (nI dn)) (f_X11_go_29 fu (nI N) (fun (x_4 : Me) (a2_4 : Int32) => some (x_4, a2_4)) q2 m' (nI dn)) := by
    intro d
    induction d with
    | zero =>
      intro dn q1 q2 t ar x' m' hdn g1' g2'' fx fm hD' h34 h44 har' ht'
      obtain ⟨q1, rfl⟩ : ∃ q, q1 = q + 1 := ⟨q1 - 1, by omega⟩
      obtain ⟨q2, rfl⟩ : ∃ q, q2 = q + 1 := ⟨q2 - 1, by omega⟩
      refine ⟨x', m', nI dn, ?_, ?_, relA x' m' t ar fx fm hD' h34 h44 har' ht'⟩
      · rw [f_X10_go_24_s, if_pos (nI_le (by omega) (by omega))]
        unfold goX f_X2_isOver
        rw [fx 29 rfl, c1, hD'.1.2.1, if_neg (nI_ge har' (by omega)), h34, if_pos (show nI t < 400 from nI_lt (b := 400) ht' (by decide)), ob_s, if_pos (show (0 : Int32) = 0 from rfl)]
      · rw [f_X11_go_29_s, if_pos (nI_le (by omega) (by omega))]
    | succ d ih =>
      intro dn q1 q2 t ar x' m' hdn g1' g2'' fx fm hD' h34 h44 har' ht'
      obtain ⟨q1, rfl⟩ : ∃ q, q1 = q + 1 := ⟨q1 - 1, by omega⟩
      obtain ⟨q2, rfl⟩ : ∃ q, q2 = q + 1 := ⟨q2 - 1, by omega⟩
      have hS' := ST_of hS fx fm
      obtain ⟨x1, m1, ar1, p1, p2, p3, p4, p5, p6, p7⟩ := tick_sp (fu := fu) hfu hS' hD' h34 h44
      have m40 : m' 4 0 = 4 := by rw [fm 4 rfl]; exact s2
      have hov : f_X2_isOver fu nw x' = some (x', 0) := by
        unfold f_X2_isOver
        rw [fx 29 rfl, c1, hD'.1.2.1, if_neg (nI_ge har' (by omega)), h34, if_pos (show nI t < 400 from nI_lt (b := 400) ht' (by decide))]
      rw [f_X10_go_24_s, if_neg (nI_ge (by omega) (by omega)), hov, ob_s, if_pos (show (0 : Int32) = 0 from rfl), p1, ob_s, f_X11_go_29_s, if_neg (nI_ge (by omega) (by omega)), m40, if_pos (show (4 : Int32) = 4 from rfl), p2, nI_1]
      have fx1 : ∀ f, inL FX f = false → mu x1 34 0 (nI (t + 1)) f = x f := fun f hf => by rw [mu_fr _ _ _ hf rfl, p3 f hf, fx f hf]
      have fm1 : ∀ f, inL FM f = false → mu m1 44 0 (nI (t + 1)) f = m f := fun f hf => by rw [mu_fr _ _ _ hf rfl, p4 f hf, fm f hf]
      have hD1 : DY r l lp (fun i => (m 32 i).toNatClampNeg) ar1 (mu x1 34 0 (nI (t + 1))) (mu m1 44 0 (nI (t + 1))) := p5
      have har1 := har ar1 x1 p5.2.2.1
      unfold tkE
      rw [p7, nI_1, p5.1.2.2.1, show m1 30 0 = nI r by rw [p4 30 rfl, fm 30 rfl]; exact r2]
      have over : (ar1 = r ∨ t + 1 = 400) → S2 Rel nw (f_X10_go_24 fu nw (nI N) (goX fu nw) q1 (mu x1 34 0 (nI (t + 1))) (nI (dn + 1))) (ob (ob (f_X11_ends fu (mu m1 44 0 (nI (t + 1)))) (fun x_16 _ => some (x_16, ()))) (fun x_1 _ => f_X11_go_29 fu (nI N) (fun (x_4 : Me) (a2_4 : Int32) => some (x_4, a2_4)) q2 x_1 (nI (dn + 1)))) := by
        intro hov2
        obtain ⟨q1, rfl⟩ : ∃ q, q1 = q + 1 := ⟨q1 - 1, by omega⟩
        obtain ⟨q2, rfl⟩ : ∃ q, q2 = q + 1 := ⟨q2 - 1, by omega⟩
        obtain ⟨x3, m3, k1, k2, k3, k4⟩ := relB (mu x1 34 0 (nI (t + 1))) (mu m1 44 0 (nI (t + 1))) (t + 1) ar1 fx1 fm1 hD1 rfl rfl (by omega)
        have hov3 : f_X2_isOver fu nw (mu x1 34 0 (nI (t + 1))) = some (mu x1 34 0 (nI (t + 1)), 1) := by
          unfold f_X2_isOver
          rw [fx1 29 rfl, c1, hD1.1.2.1]
          by_cases z : ar1 = r
          · rw [if_pos (nI_le (by omega) (by omega))]
          · have z2 := hov2.resolve_left z
            rw [if_neg (nI_ge (by omega) (by omega)), show mu x1 34 0 (nI (t + 1)) 34 0 = nI (t + 1) from mu_same _ _ _ _, if_neg (show ¬ nI (t + 1) < 400 from nI_nlt (b := 400) (by omega) (by omega))]
        have hend : goX fu nw (mu x1 34 0 (nI (t + 1))) (nI (dn + 1)) = some (mu x3 2 0 5, nI (dn + 1)) := by
          unfold goX
          rw [hov3, ob_s, if_neg n10, k1, ob_s]
        refine ⟨mu x3 2 0 5, m3, nI (dn + 1), ?_, ?_, k3⟩
        · rw [f_X10_go_24_s, hov3, ob_s, if_neg n10, hend]
          split <;> rfl
        · rw [k2, ob_s, ob_s, f_X11_go_29_s, k4, if_neg (show ¬ (5 : Int32) = 4 by decide)]
          split <;> rfl
      by_cases z : ar1 = r
      · rw [if_pos (show nI ar1 = nI r by rw [z])]
        exact over (Or.inl z)
      · rw [if_neg (show ¬ nI ar1 = nI r from fun y => z ((nI_eq (by omega) (by omega)).mp y))]
        by_cases z2 : t + 1 = 400
        · rw [if_pos (show nI (t + 1) = 400 by rw [z2]; rfl)]
          exact over (Or.inr z2)
        · rw [if_neg (show ¬ nI (t + 1) = 400 from fun y => z2 ((nI_eq (b := 400) (by omega) (by decide)).mp y)), ob_s]
          exact ih (dn + 1) q1 q2 (t + 1) ar1 (mu x1 34 0 (nI (t + 1))) (mu m1 44 0 (nI (t + 1))) (by omega) (by omega) (by omega) fx1 fm1 hD1 rfl rfl (by omega) (by omega)
  exact key N 0 fu fu t0 ar0 x m (by omega) (by omega) (by omega) (fun _ _ => rfl) (fun _ _ => rfl) hD c7 c8 f2 f3
theorem st_go (hfu : 70000 ≤ fu) (h : Rel nw x m) : ∀ a, S2 Rel nw (f_X10_go fu nw x a) (f_X11_go fu m a) := by
  intro a
  have hR := rel_th h
  have hz : S2 Rel nw (some (x, -1)) (some (mu m 0 0 0, -1)) := ⟨x, _, _, rfl, rfl, hR⟩
  have hs : x 2 0 = m 4 0 := by
    obtain ⟨y, st, tl, ns, hh, l, np, r, hA, _⟩ := h
    rw [hA.2.1.1, hA.2.1.2.1]
  unfold f_X10_go f_X11_go
  rw [hs]
  by_cases c1 : a < 1
  · rw [if_pos c1, if_pos c1]
    split <;> exact hz
  · rw [if_neg c1, if_neg c1]
    have h0 : ¬ a < 0 := fun q => c1 (Int32.lt_trans q (by decide))
    obtain ⟨N, hN31, rfl⟩ := nI_of h0
    by_cases c2 : N ≤ 400
    · rw [if_pos (show nI N ≤ 400 from nI_le (b := 400) c2 (by decide)), if_neg (show ¬ (400 : Int32) < nI N from nI_nlt (a := 400) c2 (by decide))]
      by_cases c3 : m 4 0 = 4
      · rw [if_pos c3, if_pos c3]
        exact go_core hfu hR c3 c2
      · rw [if_neg c3, if_neg c3]
        exact hz
    · rw [if_neg (show ¬ nI N ≤ 400 from nI_ge (a := 400) (by omega) hN31), if_pos (show (400 : Int32) < nI N from nI_lt (a := 400) (by omega) hN31)]
      split <;> exact hz
end PUR31
