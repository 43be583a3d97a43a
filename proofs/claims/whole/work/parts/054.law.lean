def okl (w : Nat) (v : Int32) : Prop := ∃ n, v = nI n ∧ (([2, 1, 1, 0, 0, 0, 0] : List Nat).getD w 0) ≤ n ∧ n ≤ (([10, 5, 9, 1, 9, 9, 9] : List Nat).getD w 0)
section PUR4
variable {fu nw : Nat} {x m : Me}
theorem law_lp {w ns : Nat} {b : Int32} {k k' : Me → Int32 → Option (Me × Int32)} (hw : w < 7) (e1 : x 10 0 = nI ns) (e2 : m 7 0 = nI ns) (e3 : ns ≤ 10) (hS : RS ns x m) : ∀ (d i n1 n2 : Nat) (lat v : Int32), i + d = ns → d < n1 → d < n2 → okl w v →
    ∃ v', okl w v' ∧ f_X6_inForce_12 fu nw (nI w) b k n1 x lat v (nI i) = k x v' ∧ f_X11_lawOf_35 fu (nI w) b k' n2 m v lat (nI i) = k' m v'
  | 0, i, n1 + 1, n2 + 1, lat, v, h, _, _, hv => by
    refine ⟨v, hv, ?_, ?_⟩
    · rw [f_X6_inForce_12_s, e1, if_pos (nI_le (by omega) (by omega))]
    · rw [f_X11_lawOf_35_s, e2, if_pos (nI_le (by omega) (by omega))]
  | d + 1, i, n1 + 1, n2 + 1, lat, v, h, h1, h2, hv => by
    obtain ⟨⟨fy, q1, q2, q3⟩, q4⟩ := hS i (by omega)
    obtain ⟨g1, g2⟩ := q4 w hw
    have i1 : nI i * 7 + nI w = nI (7 * i + w) := by rw [show (7 : Int32) = nI 7 from rfl, pk_mul, nI_add, Nat.mul_comm]
    have i2 : 7 * nI i + nI w = nI (7 * i + w) := by rw [show (7 : Int32) = nI 7 from rfl, pk_mul, nI_add]
    have ih := fun lat v hv => law_lp (b := b) (k := k) (k' := k') hw e1 e2 e3 hS d (i + 1) n1 n2 lat v (by omega) (by omega) (by omega) hv
    rw [f_X6_inForce_12_s, f_X11_lawOf_35_s, e1, e2, if_neg (nI_ge (by omega) (by omega)), if_neg (nI_ge (by omega) (by omega)), i1, i2, if_pos (inb_nI (by omega) (by decide)), if_pos (inb_nI (by omega) (by decide)), if_pos (inb_nI (by omega) (by decide)), if_pos (inb_nI (by omega) (by decide)), nI_clamp (by omega), nI_clamp (by omega), nI_1, g1, q2, q3]
    by_cases c1 : m 6 (7 * i + w) = -1
    · rw [if_pos c1, if_pos c1]
      by_cases c2 : b < nI fy
      · rw [if_pos c2]; exact ih lat v hv
      · rw [if_neg c2]
        by_cases c3 : nI fy < lat
        · rw [if_pos c3]; exact ih lat v hv
        · rw [if_neg c3]; exact ih lat v hv
    · rw [if_neg c1, if_neg c1]
      by_cases c2 : b < nI fy
      · rw [if_pos c2, if_pos c2]; exact ih lat v hv
      · rw [if_neg c2, if_neg c2]
        by_cases c3 : nI fy < lat
        · rw [if_pos c3, if_pos c3]; exact ih lat v hv
        · rw [if_neg c3, if_neg c3]; exact ih (nI fy) _ (g2.resolve_left c1)
  | 0, _, 0, _, _, _, _, h, _, _ => absurd h (by omega)
  | 0, _, n + 1, 0, _, _, _, _, h, _ => absurd h (by omega)
  | d + 1, _, 0, _, _, _, _, h, _, _ => absurd h (by omega)
  | d + 1, _, n + 1, 0, _, _, _, _, h, _ => absurd h (by omega)
theorem law_sp (hfu : 70000 ≤ fu) {w ns : Nat} {b : Int32} (hw : w < 7) (e1 : x 10 0 = nI ns) (e2 : m 7 0 = nI ns) (e3 : ns ≤ 10) (hS : RS ns x m) :
    ∃ v, okl w v ∧ f_X6_inForce fu nw x (nI w) b = some (x, v) ∧ f_X11_lawOf fu m (nI w) b = some (m, v) := by
  have key : ∀ v0 : Int32, okl w v0 → (tS 2).getD w 0 = v0 → f_X11_lawOf fu m (nI w) b = f_X11_lawOf_35 fu (nI w) b (fun x_8 a3_8 => some (x_8, a3_8)) fu m v0 (-1) 0 → ∃ v, okl w v ∧ f_X6_inForce fu nw x (nI w) b = some (x, v) ∧ f_X11_lawOf fu m (nI w) b = some (m, v) := by
    intro v0 h0 ht hl
    obtain ⟨v, hv, g1, g2⟩ := law_lp (fu := fu) (nw := nw) (b := b) (k := fun x_8 a3_8 => some (x_8, a3_8)) (k' := fun x_8 a3_8 => some (x_8, a3_8)) hw e1 e2 e3 hS ns 0 fu fu (-1) v0 (by omega) (by omega) (by omega) h0
    refine ⟨v, hv, ?_, hl.trans g2⟩
    unfold f_X6_inForce
    rw [if_pos (inb_nI hw (by decide)), nI_clamp (by omega), ht]
    exact g1
  rcases (show w = 0 ∨ w = 1 ∨ w = 2 ∨ w = 3 ∨ w = 4 ∨ w = 5 ∨ w = 6 by omega) with rfl | rfl | rfl | rfl | rfl | rfl | rfl
  · exact key 3 ⟨3, rfl, by decide, by decide⟩ rfl rfl
  · exact key 1 ⟨1, rfl, by decide, by decide⟩ rfl rfl
  · exact key 9 ⟨9, rfl, by decide, by decide⟩ rfl rfl
  · exact key 0 ⟨0, rfl, by decide, by decide⟩ rfl rfl
  · exact key 0 ⟨0, rfl, by decide, by decide⟩ rfl rfl
  · exact key 0 ⟨0, rfl, by decide, by decide⟩ rfl rfl
  · exact key 0 ⟨0, rfl, by decide, by decide⟩ rfl rfl
theorem st_law (hfu : 70000 ≤ fu) (h : Rel nw x m) : ∀ a b, S2 Rel nw (f_X10_law fu nw x a b) (f_X11_law fu m a b) := by
  intro a b
  have hR := rel_th h
  obtain ⟨y, st, tl, ns, hh, l, np, r, hA, hT, hS, hW, hH, hB, hO, hP, h0, h1, h2, h3, h4⟩ := h
  obtain ⟨d1, d2, d3⟩ := hA.2.2.2.1
  have hz : S2 Rel nw (some (x, -1)) (some (mu m 0 0 0, -1)) := ⟨x, _, _, rfl, rfl, hR⟩
  unfold f_X10_law f_X11_law f_X10_isYear
  by_cases c0 : a < 0
  · rw [if_pos c0, if_pos c0]; exact hz
  rw [if_neg c0, if_neg c0]
  obtain ⟨w, hw, rfl⟩ := nI_of c0
  by_cases c1 : w < 7
  · rw [if_neg (show ¬ (7 : Int32) ≤ nI w from nI_ge (b := 7) c1 (by decide)), if_neg (show ¬ (6 : Int32) < nI w from nI_nlt (a := 6) (by omega) (by decide))]
    by_cases c2 : b < 0
    · rw [if_pos c2, if_pos c2, ob_s, if_pos rfl]; exact hz
    rw [if_neg c2, if_neg c2]
    by_cases c3 : b ≤ 99
    · rw [if_neg (Int32.not_lt.mpr c3), if_pos c3, ob_s, if_neg n10]
      obtain ⟨v, _, g1, g2⟩ := law_sp (fu := fu) (nw := nw) (x := x) (m := mu m 0 0 0) (b := b) hfu c1 d1 d2 d3 hS
      rw [g1, g2, ob_s, ob_s]
      exact ⟨x, _, _, rfl, rfl, hR⟩
    · rw [if_pos (Int32.not_le.mp c3), if_neg c3, ob_s, if_pos rfl]; exact hz
  · rw [if_pos (show (7 : Int32) ≤ nI w from nI_le (a := 7) (by omega) hw), if_pos (show (6 : Int32) < nI w from nI_lt (a := 6) (by omega) hw)]
    exact hz
theorem st_punish (hfu : 70000 ≤ fu) (h : Rel nw x m) : ∀ a, S2 Rel nw (f_X10_punish fu nw x a) (f_X11_punish fu m a) := by
  intro a
  have hR := rel_th h
  obtain ⟨y, st, tl, ns, hh, l, np, r, hA, hT, hS, hW, hH, hB, hO, hP, h0, h1, h2, h3, h4⟩ := h
  obtain ⟨y1, y2, y3⟩ := hA.1
  obtain ⟨s1, s2, s3⟩ := hA.2.1
  obtain ⟨d1, d2, d3⟩ := hA.2.2.2.1
  obtain ⟨e1, e2, e3⟩ := hA.2.2.2.2.1
  have e2' : (mu m 0 0 0) 17 0 = nI nw := e2
  have hz : S2 Rel nw (some (x, -2)) (some (mu m 0 0 0, -2)) := ⟨x, _, _, rfl, rfl, hR⟩
  unfold f_X10_punish f_X11_punish
  rw [s2]
  rcases rng_ix a (n := nw) (by omega) with ⟨j, hj, rfl⟩ | hc
  · rw [find_yes e1 hj e3, ob_s, om_1, if_pos hj, s1]
    by_cases c5 : nI st = 5
    · have hst : st = 5 := (nI_eq (by omega) (by decide)).mp (show nI st = nI 5 from c5)
      rw [if_pos c5, if_pos c5, mr_yes e2' hj e3 (show ¬ (mu m 0 0 0) 4 0 ≤ 0 by rw [show (mu m 0 0 0) 4 0 = nI st from s2, hst]; decide), ob_s]
      obtain ⟨w1, w2, w3, w4, w5, w6⟩ := hW.1 j hj
      rw [show (mu m 0 0 0) 23 j = m 23 j from rfl, w1]
      rcases w2 with q | q
      · rw [if_pos q, if_pos q, if_pos rfl]; exact hz
      · have qn : ¬ m 23 j = 0 := by rw [q]; decide
        rw [if_neg qn, if_neg qn, if_neg n10, y1, show (mu m 0 0 0) 3 0 = nI y from y2]
        obtain ⟨v, _, g1, g2⟩ := law_sp (fu := fu) (nw := nw) (x := x) (m := mu m 0 0 0) (w := 4) (b := nI y) hfu (by decide) d1 d2 d3 hS
        rw [show (4 : Int32) = nI 4 from rfl, g1, g2, ob_s, ob_s, if_pos (inb_nI (by omega) (by decide)), if_pos (inb_nI (by omega) (by decide)), nI_clamp (by omega)]
        by_cases c : v ≤ 0
        · rw [if_pos c, if_pos c]
          exact ⟨x, _, _, rfl, by rw [w4]; rfl, hR⟩
        · rw [if_neg c, if_neg c, y1, show (mu m 0 0 0) 3 0 = nI y from y2, w4, show (mu m 0 0 0) 19 j = m 19 j from rfl, mu_same, mu_same]
          refine ⟨_, _, _, rfl, rfl, ⟨y, st, tl, ns, hh, l, np, r, hA, hT, hS, ⟨fun i hi => ?_, fun i h1 h2 => ?_⟩, hH, hB, hO, hP, h0, h1, h2, h3, h4⟩⟩
          · obtain ⟨u1, u2, u3, u4, u5, u6⟩ := hW.1 i hi
            refine ⟨u1, u2, u3, ?_, u5, u6⟩
            by_cases q : i = j
            · subst q; rw [mu_same, mu_same]
            · rw [mu_ne _ _ _ _ _ q, mu_ne _ _ _ _ _ q]; exact u4
          · obtain ⟨u1, u2, u3, u4, u5⟩ := hW.2 i h1 h2
            refine ⟨u1, ?_, u3, u4, u5⟩
            rw [mu_ne _ _ _ _ _ (show i ≠ j by omega)]; exact u2
    · rw [if_neg c5, if_neg c5]; exact hz
  · rw [find_no e1 hc, ob_s, om_0]
    by_cases c5 : nI st = 5
    · rw [s1, if_pos c5, if_pos c5, mr_no e2' hc, ob_s, if_pos rfl]; exact hz
    · rw [s1, if_neg c5, if_neg c5]; exact hz
end PUR4
