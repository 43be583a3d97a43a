section PUR6
variable {fu nw : Nat} {x m : Me}
theorem rf_hit {a : Int32} {r p : Nat} {k : Me → Option (Me × Option Nat)} (e : x 29 0 = nI r) (hr : r ≤ 10) (hp : p < r) (ha : x 37 p = a) (hne : ∀ q, q < p → x 37 q ≠ a) : ∀ (d i n : Nat), i + d = p → d < n → f_X2_find_2 fu nw a k n x (nI i) = some (x, some p)
  | 0, i, n + 1, h, _ => by
    rw [f_X2_find_2_s, e, if_neg (nI_ge (by omega) (by omega)), if_pos (inb_nI (by omega) (by decide)), nI_clamp (by omega), show i = p by omega, if_pos ha]
  | d + 1, i, n + 1, h, hn => by
    rw [f_X2_find_2_s, e, if_neg (nI_ge (by omega) (by omega)), if_pos (inb_nI (by omega) (by decide)), nI_clamp (by omega), if_neg (hne i (by omega)), nI_1]
    exact rf_hit e hr hp ha hne d (i + 1) n (by omega) (by omega)
  | 0, _, 0, _, h => absurd h (by omega)
  | d + 1, _, 0, _, h => absurd h (by omega)
theorem rf_miss {a : Int32} {r : Nat} {k : Me → Option (Me × Option Nat)} (e : x 29 0 = nI r) (hr : r ≤ 10) (hne : ∀ q, q < r → x 37 q ≠ a) : ∀ (d i n : Nat), i + d = r → d < n → f_X2_find_2 fu nw a k n x (nI i) = k x
  | 0, i, n + 1, h, _ => by
    rw [f_X2_find_2_s, e, if_pos (nI_le (by omega) (by omega))]
  | d + 1, i, n + 1, h, hn => by
    rw [f_X2_find_2_s, e, if_neg (nI_ge (by omega) (by omega)), if_pos (inb_nI (by omega) (by decide)), nI_clamp (by omega), if_neg (hne i (by omega)), nI_1]
    exact rf_miss e hr hne d (i + 1) n (by omega) (by omega)
  | 0, _, 0, _, h => absurd h (by omega)
  | d + 1, _, 0, _, h => absurd h (by omega)
theorem rf_hit0 {a : Int32} {r p : Nat} {k : Me → Option (Me × Option Nat)} (hfu : 70000 ≤ fu) (e : x 29 0 = nI r) (hr : r ≤ 10) (hp : p < r) (ha : x 37 p = a) (hne : ∀ q, q < p → x 37 q ≠ a) : f_X2_find_2 fu nw a k fu x 0 = some (x, some p) := rf_hit e hr hp ha hne p 0 fu (by omega) (by omega)
theorem rf_miss0 {a : Int32} {r : Nat} {k : Me → Option (Me × Option Nat)} (hfu : 70000 ≤ fu) (e : x 29 0 = nI r) (hr : r ≤ 10) (hne : ∀ q, q < r → x 37 q ≠ a) : f_X2_find_2 fu nw a k fu x 0 = k x := rf_miss e hr hne r 0 fu (by omega) (by omega)
theorem st_race (hfu : 70000 ≤ fu) (h : Rel nw x m) : ∀ a b, S2 Rel nw (f_X10_race fu nw x a b) (f_X11_race fu m a b) := by
  intro a b
  have hR := rel_th h
  obtain ⟨y, st, tl, ns, hh, l, np, r, hA, hT, hS, hW, hH, hB, hO, hP, h0, h1, h2, h3, h4⟩ := h
  obtain ⟨s1, s2, s3⟩ := hA.2.1
  obtain ⟨e1, e2, e3⟩ := hA.2.2.2.2.1
  have e2' : (mu m 0 0 0) 17 0 = nI nw := e2
  have hk : ∀ v w : Int32, v = w → S2 Rel nw (some (x, v)) (some (mu m 0 0 0, w)) := fun v w e => ⟨x, _, v, rfl, by rw [e], hR⟩
  unfold f_X10_race f_X11_race f_X2_find
  rw [s1, s2]
  by_cases c4 : nI st < 4
  · rw [if_pos c4, if_pos c4]; exact hk _ _ rfl
  rw [if_neg c4, if_neg c4]
  have hst : 4 ≤ st := by
    rcases Nat.lt_or_ge st 4 with q | q
    · exact absurd (nI_lt (b := 4) q (by decide)) c4
    · exact q
  obtain ⟨g1, g2, g3, g4⟩ := h3 (by omega)
  obtain ⟨r1, r2, r3, r4, r5, r6⟩ := h1 (by omega)
  obtain ⟨lp, t, ar, p1, p2, p3, p4, p5, p6, p7⟩ := h4 hst
  have hms : ¬ (mu m 0 0 0) 4 0 ≤ 0 := by
    rw [show (mu m 0 0 0) 4 0 = nI st from s2]
    exact nI_nle (by omega) (by omega)
  have h37 : ∀ q, q < r → ∃ w, w < nw ∧ x 37 q = nI w ∧ m 32 q = nI w ∧ m 23 w = 1 := by
    intro q hq
    obtain ⟨w, q1, q2, q3, q4⟩ := g1 q hq
    exact ⟨w, q1, (p6 q w hq q3 q1).1, q3, q4⟩
  rcases rng_ix a (n := nw) (by omega) with ⟨j, hj, rfl⟩ | hc
  · obtain ⟨w1, w2, -⟩ := hW.1 j hj
    rcases w2 with q | q
    · rw [rf_miss0 hfu p5.1 r4 (fun q' hq' => ?_), ob_s, om_0]
      · rw [mr_yes e2' hj e3 hms, ob_s, show (mu m 0 0 0) 23 j = m 23 j from rfl, if_pos q, if_pos rfl]
        exact hk _ _ rfl
      · obtain ⟨w, z1, z2, z3, z4⟩ := h37 q' hq'
        intro z
        have hw : w = j := (nI_eq (by omega) (by omega)).mp (z2.symm.trans z)
        rw [hw, q] at z4
        exact absurd z4 (by decide)
    · have qn : ¬ m 23 j = 0 := by rw [q]; decide
      obtain ⟨p, hp, hpm⟩ := g2.2 j hj q
      obtain ⟨t1, t2, t3, t4, t5, t6, t7⟩ := p6 p j hp hpm hj
      rw [rf_hit0 hfu p5.1 r4 hp t1 (fun q' hq' => ?_), ob_s, om_1, if_pos (by omega)]
      · rw [mr_yes e2' hj e3 hms, ob_s, show (mu m 0 0 0) 23 j = m 23 j from rfl, if_neg qn, if_neg n10, nI_clamp (by omega)]
        have hin : inb (nI j) 17 = true := inb_nI (by omega) (by decide)
        by_cases c0 : b = 0
        · rw [if_pos c0, if_pos c0, if_pos hin]; exact hk _ _ t2
        rw [if_neg c0, if_neg c0]
        by_cases c1 : b = 1
        · rw [if_pos c1, if_pos c1, if_pos hin]; exact hk _ _ t3
        rw [if_neg c1, if_neg c1]
        by_cases c2 : b = 2
        · rw [if_pos c2, if_pos c2, if_pos hin]; exact hk _ _ t4
        rw [if_neg c2, if_neg c2]
        by_cases c3 : b = 3
        · rw [if_pos c3, if_pos c3, if_pos hin, t5, show (mu m 0 0 0) 40 j = m 40 j from rfl]
          by_cases z : m 40 j = 0
          · rw [if_pos z, if_pos z]; exact hk _ _ rfl
          · rw [if_neg z, if_neg z]; exact hk _ _ rfl
        rw [if_neg c3, if_neg c3]
        by_cases c5 : b = 4
        · rw [if_pos c5, if_pos c5, if_pos hin]; exact hk _ _ t6
        rw [if_neg c5, if_neg c5]
        by_cases c6 : b = 5
        · rw [if_pos c6, if_pos c6, if_pos hin]; exact hk _ _ t7
        rw [if_neg c6, if_neg c6]
        exact hk _ _ rfl
      · obtain ⟨w, z1, z2, z3, z4⟩ := h37 q' (by omega)
        intro z
        have hw : w = j := (nI_eq (by omega) (by omega)).mp (z2.symm.trans z)
        rw [hw] at z3
        have := g2.1 q' p (by omega) hp (z3.trans hpm.symm)
        omega
  · rw [rf_miss0 hfu p5.1 r4 (fun q' hq' => ?_), ob_s, om_0, mr_no e2' hc, ob_s, if_pos rfl]
    · exact hk _ _ rfl
    · obtain ⟨w, z1, z2, z3, z4⟩ := h37 q' hq'
      intro z
      rw [← z, z2] at hc
      rcases hc with hc | hc
      · exact absurd hc (nI_pos (by omega))
      · exact absurd hc (nI_ge z1 (by omega))
end PUR6
