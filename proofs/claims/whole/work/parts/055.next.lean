/-- what a new year forgets of the wards -/
def fgX (x : Me) (a b : Nat) : Me := fun f j => if f = 50 then (if a ≤ j ∧ j < b then 0 else x 50 j) else if f = 51 then (if a ≤ j ∧ j < b then -1 else x 51 j) else if f = 54 then (if a ≤ j ∧ j < b then 0 else x 54 j) else x f j
def fgM (x : Me) (a b : Nat) : Me := fun f j => if f = 20 then (if a ≤ j ∧ j < b then 0 else x 20 j) else if f = 23 then (if a ≤ j ∧ j < b then 0 else x 23 j) else x f j
theorem if_rng {ρ : Type} {a b j : Nat} {v w : ρ} (h : a < b) : (if a + 1 ≤ j ∧ j < b then v else if j = a then v else w) = if a ≤ j ∧ j < b then v else w := by
  by_cases q : a + 1 ≤ j ∧ j < b
  · rw [if_pos q, if_pos (by omega)]
  · rw [if_neg q]
    by_cases e : j = a
    · rw [if_pos e, if_pos (by omega)]
    · rw [if_neg e, if_neg (by omega)]
theorem fgX_mu (x : Me) {a b : Nat} (h : a < b) : fgX (mu (mu (mu x 50 a 0) 51 a (-1)) 54 a 0) (a + 1) b = fgX x a b := by
  funext f j
  unfold fgX
  by_cases f1 : f = 50
  · rw [if_pos f1, if_pos f1]
    exact if_rng h
  rw [if_neg f1, if_neg f1]
  by_cases f2 : f = 51
  · rw [if_pos f2, if_pos f2]
    exact if_rng h
  rw [if_neg f2, if_neg f2]
  by_cases f3 : f = 54
  · rw [if_pos f3, if_pos f3]
    exact if_rng h
  rw [if_neg f3, if_neg f3, mu_nf _ _ _ _ _ _ f3, mu_nf _ _ _ _ _ _ f2, mu_nf _ _ _ _ _ _ f1]
theorem fgX_0 (x : Me) (b : Nat) : fgX x b b = x := by
  funext f j
  unfold fgX
  rw [if_neg (show ¬ (b ≤ j ∧ j < b) by omega), if_neg (show ¬ (b ≤ j ∧ j < b) by omega), if_neg (show ¬ (b ≤ j ∧ j < b) by omega)]
  by_cases f1 : f = 50
  · rw [if_pos f1, f1]
  rw [if_neg f1]
  by_cases f2 : f = 51
  · rw [if_pos f2, f2]
  rw [if_neg f2]
  by_cases f3 : f = 54
  · rw [if_pos f3, f3]
  rw [if_neg f3]
theorem fgM_mu (x : Me) {a b : Nat} (h : a < b) : fgM (mu (mu x 20 a 0) 23 a 0) (a + 1) b = fgM x a b := by
  funext f j
  unfold fgM
  by_cases f1 : f = 20
  · rw [if_pos f1, if_pos f1]
    exact if_rng h
  rw [if_neg f1, if_neg f1]
  by_cases f2 : f = 23
  · rw [if_pos f2, if_pos f2]
    exact if_rng h
  rw [if_neg f2, if_neg f2, mu_nf _ _ _ _ _ _ f2, mu_nf _ _ _ _ _ _ f1]
theorem fgM_0 (x : Me) (b : Nat) : fgM x b b = x := by
  funext f j
  unfold fgM
  rw [if_neg (show ¬ (b ≤ j ∧ j < b) by omega), if_neg (show ¬ (b ≤ j ∧ j < b) by omega)]
  by_cases f1 : f = 20
  · rw [if_pos f1, f1]
  rw [if_neg f1]
  by_cases f2 : f = 23
  · rw [if_pos f2, f2]
  rw [if_neg f2]
section PUR5
variable {fu nw : Nat} {x m : Me}
theorem fgX_sp {k : Me → Option (Me × Unit)} (hn : nw ≤ 17) : ∀ (d i n : Nat) (x : Me), x 13 0 = nI nw → i + d = nw → d < n → f_X8_forgetYear_2 fu nw k n x (nI i) = k (fgX x i nw)
  | 0, i, n + 1, x, e, h, _ => by
    rw [f_X8_forgetYear_2_s, e, if_pos (nI_le (by omega) (by omega)), show i = nw by omega, fgX_0]
  | d + 1, i, n + 1, x, e, h, hd => by
    rw [f_X8_forgetYear_2_s, e, if_neg (nI_ge (by omega) (by omega)), if_pos (inb_nI (by omega) (by decide)), nI_clamp (by omega), if_pos (show i < nw by omega), if_pos (show i < nw by omega), if_pos (show i < nw by omega), nI_1, fgX_sp hn d (i + 1) n (mu (mu (mu x 50 i 0) 51 i (-1)) 54 i 0) e (by omega) (by omega), fgX_mu _ (by omega)]
  | 0, _, 0, _, _, _, h => absurd h (by omega)
  | d + 1, _, 0, _, _, _, h => absurd h (by omega)
theorem fgM_sp {k : Me → Option (Me × Int32)} : ∀ (d i n : Nat) (x : Me), i + d = 17 → d < n → f_X11_next_46 fu k n x (nI i) = k (fgM x i 17)
  | 0, i, n + 1, x, h, _ => by
    rw [f_X11_next_46_s, if_pos (show (17 : Int32) ≤ nI i from nI_le (a := 17) (by omega) (by omega)), show i = 17 by omega, fgM_0]
  | d + 1, i, n + 1, x, h, hd => by
    rw [f_X11_next_46_s, if_neg (show ¬ (17 : Int32) ≤ nI i from nI_ge (b := 17) (by omega) (by omega)), if_pos (inb_nI (by omega) (by decide)), nI_clamp (by omega), nI_1, vz0, fgM_sp d (i + 1) n _ (by omega) (by omega), fgM_mu _ (by omega)]
  | 0, _, 0, _, _, h => absurd h (by omega)
  | d + 1, _, 0, _, _, h => absurd h (by omega)
theorem st_next (hfu : 70000 ≤ fu) (h : Rel nw x m) : S2 Rel nw (f_X10_next fu nw x) (f_X11_next fu m) := by
  have hR := rel_th h
  obtain ⟨y, st, tl, ns, hh, l, np, r, hA, hT, hS, hW, hH, hB, hO, hP, h0, h1, h2, h3, h4⟩ := h
  obtain ⟨⟨y1, y2, y3⟩, ⟨s1, s2, s3⟩, a3, a4, ⟨e1, e2, e3⟩, a6, a7, a8, a9⟩ := hA
  have hz : S2 Rel nw (some (x, -1)) (some (mu m 0 0 0, -1)) := ⟨x, _, _, rfl, rfl, hR⟩
  unfold f_X10_next f_X11_next f_X8_forgetYear
  rw [s1, s2, y1, y2]
  by_cases c4 : nI st = 4
  · rw [if_pos c4, if_pos c4]; exact hz
  rw [if_neg c4, if_neg c4]
  by_cases c9 : y = 99
  · subst c9
    rw [if_neg (show ¬ nI 99 < 99 by decide), if_pos (show nI 99 = 99 from rfl)]; exact hz
  · rw [if_pos (show nI y < 99 from nI_lt (b := 99) (by omega) (by decide)), if_neg (show ¬ nI y = 99 from fun q => c9 ((nI_eq (by omega) (by decide)).mp (show nI y = nI 99 from q)))]
    rw [show (0 : Int32) = nI 0 from rfl, fgX_sp e3 nw 0 fu (mu (mu x 1 0 (nI y + 1)) 2 0 (nI 0)) e1 (by omega) (by omega), fgM_sp 17 0 fu _ (by omega) (by omega), ob_s, nI_1]
    refine ⟨_, _, nI (y + 1), rfl, rfl, ⟨y + 1, 0, tl, ns, hh, l, np, r, ⟨⟨rfl, rfl, by omega⟩, ⟨rfl, rfl, by omega⟩, a3, a4, ⟨e1, e2, e3⟩, a6, a7, a8, a9⟩, hT, hS, ⟨fun j hj => ?_, fun j h1 h2 => ?_⟩, hH, hB, hO, hP, ⟨fun _ j hj => ?_, fun _ j hj => ?_, fun _ => rfl⟩, fun h => absurd h (by omega), fun h => absurd h (by omega), fun h => absurd h (by omega), fun h => absurd h (by omega)⟩⟩
    · obtain ⟨u1, u2, u3, u4, u5, u6⟩ := hW.1 j hj
      have t1 : (0 ≤ j ∧ j < nw) := ⟨Nat.zero_le _, hj⟩
      have t2 : (0 ≤ j ∧ j < 17) := ⟨Nat.zero_le _, by omega⟩
      refine ⟨?_, Or.inl ?_, u3, u4, ?_, u6⟩
      · show (if 0 ≤ j ∧ j < nw then (0 : Int32) else _) = (if 0 ≤ j ∧ j < 17 then (0 : Int32) else _)
        rw [if_pos t1, if_pos t2]
      · show (if 0 ≤ j ∧ j < 17 then (0 : Int32) else _) = 0
        rw [if_pos t2]
      · show (if 0 ≤ j ∧ j < nw then (0 : Int32) else _) = (if 0 ≤ j ∧ j < 17 then (0 : Int32) else _)
        rw [if_pos t1, if_pos t2]
    · obtain ⟨u1, u2, u3, u4, u5⟩ := hW.2 j h1 h2
      have t2 : (0 ≤ j ∧ j < 17) := ⟨Nat.zero_le _, h2⟩
      refine ⟨u1, u2, ?_, u4, ?_⟩
      · show (if 0 ≤ j ∧ j < 17 then (0 : Int32) else _) = 0
        rw [if_pos t2]
      · show (if 0 ≤ j ∧ j < 17 then (0 : Int32) else _) = 0
        rw [if_pos t2]
    · show (if 0 ≤ j ∧ j < 17 then (0 : Int32) else _) = 0
      rw [if_pos ⟨Nat.zero_le _, by omega⟩]
    · show (if 0 ≤ j ∧ j < nw then (-1 : Int32) else _) = -1
      rw [if_pos ⟨Nat.zero_le _, hj⟩]
theorem runs_ext {m m' : Me} (h : ∀ j, j < nw → m' 23 j = m 23 j) : runs nw m' = runs nw m := by
  unfold runs
  apply List.filter_congr
  intro j hj
  rw [h j (List.mem_range.mp hj)]
theorem runs_up {m : Me} (h : m 23 nw = 0) : runs (nw + 1) m = runs nw m := by
  unfold runs
  rw [List.range_succ, List.filter_append]
  have : List.filter (fun j => decide (m 23 j = 1)) [nw] = [] := by
    rw [List.filter_cons_of_neg (by rw [h]; decide)]
    rfl
  rw [this, List.append_nil]
theorem st_ward (h : Rel nw x m) : SW Rel fu nw x m := by
  have hR := rel_th h
  obtain ⟨y, st, tl, ns, hh, l, np, r, hA, hT, hS, hW, hH, hB, hO, hP, h0, h1, h2, h3, h4⟩ := h
  obtain ⟨a1, a2, a3, a4, ⟨e1, e2, e3⟩, a6, a7, a8, a9⟩ := hA
  by_cases c : nw = 17
  · refine ⟨mu m 0 0 0, -1, ?_, Or.inl ⟨?_, rfl, hR⟩⟩
    · unfold f_X11_ward
      rw [e2, c]
      rfl
    · rw [e1, c]; decide
  · have hlt : nw < 17 := by omega
    refine ⟨mu (mu m 0 0 0) 17 0 (nI nw + 1), nI nw + 1 - 1, ?_, Or.inr ⟨e1, hlt, by rw [e1], ?_⟩⟩
    · unfold f_X11_ward
      rw [e2, if_neg (show ¬ nI nw = 17 from fun q => c ((nI_eq (by omega) (by decide)).mp (show nI nw = nI 17 from q)))]
    obtain ⟨z1, z2, z3, z4, z5⟩ := hW.2 nw (Nat.le_refl _) hlt
    have w50 : ∀ j, wx x nw 50 j = mu x 50 nw 0 50 j := fun _ => rfl
    have w51 : ∀ j, wx x nw 51 j = mu x 51 nw (-1) 51 j := fun _ => rfl
    have w52 : ∀ j, wx x nw 52 j = mu x 52 nw (-1) 52 j := fun _ => rfl
    have w53 : ∀ j, wx x nw 53 j = mu x 53 nw (-1) 53 j := fun _ => rfl
    have w54 : ∀ j, wx x nw 54 j = mu x 54 nw 0 54 j := fun _ => rfl
    have w55 : ∀ j, wx x nw 55 j = mu x 55 nw 0 55 j := fun _ => rfl
    have v51 : ∀ j, j < nw → wx x nw 51 j = x 51 j := fun j hj => by rw [w51, mu_ne _ _ _ _ _ (by omega)]
    refine ⟨y, st, tl, ns, hh, l, np, r, ⟨a1, a2, a3, a4, ⟨?_, ?_, by omega⟩, a6, a7, a8, a9⟩, hT, hS, ⟨fun j hj => ?_, fun j q1 q2 => hW.2 j (by omega) q2⟩, hH, hB, fun j hj => ?_, fun i hi => ?_, ⟨fun hs j hj => ?_, fun hs j hj => ?_, h0.2.2⟩, fun hs => ?_, h2, fun hs => ?_, fun hs => ?_⟩
    · show x 13 0 + 1 = nI (nw + 1)
      rw [e1, nI_1]
    · show nI nw + 1 = nI (nw + 1)
      rw [nI_1]
    · by_cases q : j = nw
      · subst q
        rw [w50, w52, w53, w54, w55, mu_same, mu_same, mu_same, mu_same, mu_same]
        exact ⟨z5.symm, Or.inl z5, z1.symm, z2.symm, z3.symm, z4.symm⟩
      · rw [w50, w52, w53, w54, w55, mu_ne _ _ _ _ _ q, mu_ne _ _ _ _ _ q, mu_ne _ _ _ _ _ q, mu_ne _ _ _ _ _ q, mu_ne _ _ _ _ _ q]
        exact hW.1 j (by omega)
    · obtain ⟨u1, u2, u3⟩ := hO j hj
      refine ⟨u1, u2, u3.imp id (fun q => ⟨q.1, ?_⟩)⟩
      obtain ⟨o, o1, o2⟩ := q.2
      exact ⟨o, by omega, o2⟩
    · obtain ⟨u1, a, b, o1, o2, o3⟩ := hP i hi
      exact ⟨u1, a, b, by omega, by omega, o3⟩
    · by_cases q : j = nw
      · rw [q]; exact z5
      · exact h0.1 hs j (by omega)
    · by_cases q : j = nw
      · rw [q, w51, mu_same]
      · rw [v51 j (by omega)]; exact h0.2.1 hs j (by omega)
    · obtain ⟨u1, u2, u3, u4, u5, u6⟩ := h1 hs
      have er : runs (nw + 1) (mu (mu m 0 0 0) 17 0 (nI nw + 1)) = runs nw m := by
        rw [runs_up (show (mu (mu m 0 0 0) 17 0 (nI nw + 1)) 23 nw = 0 from z5)]
        exact runs_ext (fun _ _ => rfl)
      exact ⟨u1, u2, u3, u4, by rw [er]; exact u5, fun k hk => by rw [er]; exact u6 k hk⟩
    · obtain ⟨g1, g2, g3, g4⟩ := h3 hs
      refine ⟨fun p hp => ?_, ⟨g2.1, fun j hj hm => ?_⟩, fun j hj => ?_, fun hs3 p hp => ?_⟩
      · obtain ⟨w, q1, q2⟩ := g1 p hp
        exact ⟨w, by omega, q2⟩
      · by_cases q : j = nw
        · subst q
          exact absurd (z5.symm.trans hm) (by decide)
        · exact g2.2 j (by omega) hm
      · by_cases q : j = nw
        · subst q
          refine ⟨fun q => absurd (z5.symm.trans q) (by decide), fun _ => by rw [w51, mu_same]⟩
        · rw [v51 j (by omega)]; exact g3 j (by omega)
      · rcases g4 hs3 p hp with q | ⟨w, q1, q2⟩
        · exact Or.inl q
        · exact Or.inr ⟨w, by omega, q2⟩
    · obtain ⟨g1, -⟩ := h3 (by omega)
      have hw : ∀ i w, i < r → m 32 i = nI w → w < nw + 1 → w < nw := by
        intro i w hi hm hw
        obtain ⟨w', q1, q2, q3, q4⟩ := g1 i hi
        have := (nI_eq (by omega) (by omega)).mp (hm.symm.trans q3)
        omega
      obtain ⟨lp, t, ar, p1, p2, p3, p4, p5, p6, p7⟩ := h4 hs
      refine ⟨lp, t, ar, p1, p2, p3, p4, p5, fun i w hi hm hn => p6 i w hi hm (hw i w hi hm hn), fun h4' => ?_⟩
      obtain ⟨q1, q2, q3, q4, q5, q6⟩ := p7 h4'
      refine ⟨q1, q2, q3, fun i w hi hm hn => ⟨(q4 i w hi hm (hw i w hi hm hn)).1, ?_⟩, q5, q6⟩
      obtain ⟨hq, k1, k2, k3⟩ := (q4 i w hi hm (hw i w hi hm hn)).2
      exact ⟨hq, k1, by rw [v51 w (hw i w hi hm hn)]; exact k2, k3⟩
end PUR5
