theorem jn_e {α ρ : Type} (j : α) (k : α → ρ) : jn j k = k j := rfl
section PUR2
variable {fu nw : Nat} {x m : Me}
theorem st_orders (h : Rel nw x m) : ∀ a b c, S2 Rel nw (f_X10_orders fu nw x a b c) (f_X11_orders fu m a b c) := by
  intro a b c
  have hR := rel_th h
  obtain ⟨y, st, tl, ns, hh, l, np, r, hA, hT, hS, hW, hH, hB, hO, hP, h0, h1, h2, h3, h4⟩ := h
  obtain ⟨e1, e2, e3⟩ := hA.2.2.2.2.1
  have e2' : (mu m 0 0 0) 17 0 = nI nw := e2
  have hz : S2 Rel nw (some (x, 0)) (some (mu m 0 0 0, 0)) := ⟨x, _, _, rfl, rfl, hR⟩
  unfold f_X10_orders f_X11_orders
  rcases rng_ix a (n := nw) (by omega) with ⟨j, hj, rfl⟩ | hc
  · rw [has_yes e1 hj e3, isW_yes e2' hj e3, ob_s, ob_s, if_neg n10, if_neg n10]
    by_cases cb : b < 0
    · rw [if_pos cb, if_pos cb]; exact hz
    rw [if_neg cb, if_neg cb]
    by_cases cb2 : b ≤ 2
    · rw [if_pos cb2, if_neg (Int32.not_lt.mpr cb2)]
      rw [jn_e, jn_e]
      have hset : (b = 0 ∨ ((b = 1 ∨ b = 2) ∧ ∃ o, o < nw ∧ o ≠ j ∧ c = nI o)) → S2 Rel nw (if inb (nI j) 17 = true then some (mu (mu x 27 (nI j).toNatClampNeg b) 28 (nI j).toNatClampNeg c, 1) else none) (if inb (nI j) 17 = true then some (mu (mu (mu m 0 0 0) 24 (nI j).toNatClampNeg b) 25 (nI j).toNatClampNeg c, 1) else none) := by
        intro ho
        rw [if_pos (inb_nI (by omega) (by decide)), if_pos (inb_nI (by omega) (by decide)), nI_clamp (by omega)]
        refine ⟨_, _, _, rfl, rfl, ⟨y, st, tl, ns, hh, l, np, r, hA, hT, hS, hW, hH, hB, ?_, hP, h0, h1, h2, h3, h4⟩⟩
        intro i hi
        have u27 : mu (mu x 27 j b) 28 j c 27 i = mu x 27 j b 27 i := rfl
        have u24 : mu (mu (mu m 0 0 0) 24 j b) 25 j c 24 i = mu (mu m 0 0 0) 24 j b 24 i := rfl
        by_cases q : i = j
        · subst q
          rw [u27, u24, mu_same, mu_same, mu_same, mu_same]
          exact ⟨rfl, rfl, ho⟩
        · rw [u27, u24, mu_ne _ _ _ _ _ q, mu_ne _ _ _ _ _ q, mu_ne _ _ _ _ _ q, mu_ne _ _ _ _ _ q]
          exact hO i hi
      by_cases cb0 : b = 0
      · rw [if_pos cb0, if_pos (by rw [cb0]; exact Int32.le_refl _)]
        exact hset (Or.inl cb0)
      · have hb12 : b = 1 ∨ b = 2 := by
          obtain ⟨k, hk, rfl⟩ := nI_of cb
          have h2 : k ≤ 2 := (nI_leI hk (by decide)).mp (show nI k ≤ nI 2 from cb2)
          have h0 : k ≠ 0 := fun q => cb0 (by rw [q]; rfl)
          rcases (show k = 1 ∨ k = 2 by omega) with rfl | rfl
          · exact Or.inl rfl
          · exact Or.inr rfl
        have hnle : ¬ b ≤ 0 := by rcases hb12 with rfl | rfl <;> decide
        rw [if_neg cb0, if_neg hnle]
        rcases rng_ix c (n := nw) (by omega) with ⟨o, ho, rfl⟩ | hc
        · rw [has_yes e1 ho e3, isW_yes e2' ho e3, ob_s, ob_s, if_neg n10, if_neg n10]
          by_cases cc : nI o = nI j
          · rw [if_pos cc, if_pos cc]; exact hz
          · rw [if_neg cc, if_neg cc]
            exact hset (Or.inr ⟨hb12, o, ho, fun q => cc (by rw [q]), rfl⟩)
        · rw [has_no e1 hc, isW_no e2' hc, ob_s, ob_s, if_pos rfl, if_pos rfl]; exact hz
    · rw [if_neg cb2, if_pos (Int32.not_le.mp cb2)]; exact hz
  · rw [has_no e1 hc, isW_no e2' hc, ob_s, ob_s, if_pos rfl, if_pos rfl]; exact hz
theorem st_pact (h : Rel nw x m) : ∀ a b c, S2 Rel nw (f_X10_pact fu nw x a b c) (f_X11_pact fu m a b c) := by
  intro a b c
  have hR := rel_th h
  obtain ⟨y, st, tl, ns, hh, l, np, r, hA, hT, hS, hW, hH, hB, hO, hP, h0, h1, h2, h3, h4⟩ := h
  obtain ⟨a1, a2, a3, a4, a5, a6, a7, a8, a9⟩ := hA
  obtain ⟨e1, e2, e3⟩ := a5
  obtain ⟨f1, f2, f3⟩ := a8
  have e2' : (mu m 0 0 0) 17 0 = nI nw := e2
  have f2' : (mu m 0 0 0) 53 0 = nI np := f2
  have hz : S2 Rel nw (some (x, -1)) (some (mu m 0 0 0, -1)) := ⟨x, _, _, rfl, rfl, hR⟩
  unfold f_X10_pact f_X11_pact
  rcases rng_ix a (n := nw) (by omega) with ⟨j, hj, rfl⟩ | hc
  · rw [has_yes e1 hj e3, isW_yes e2' hj e3, ob_s, ob_s, if_neg n10, if_neg n10]
    rcases rng_ix b (n := nw) (by omega) with ⟨o, ho, rfl⟩ | hc
    · rw [has_yes e1 ho e3, isW_yes e2' ho e3, ob_s, ob_s, if_neg n10, if_neg n10]
      by_cases cj : nI j = nI o
      · rw [if_pos cj, if_pos cj]; exact hz
      rw [if_neg cj, if_neg cj]
      by_cases c1 : c < 1
      · rw [if_pos c1, if_pos c1]; exact hz
      rw [if_neg c1, if_neg c1]
      by_cases c2 : c ≤ 9999
      · rw [if_pos c2, if_neg (Int32.not_lt.mpr c2)]
        unfold f_X1_add
        rw [f1, f2']
        by_cases cn : np = 40
        · subst cn
          rw [if_neg (show ¬ nI 40 < 40 by decide), if_pos (show nI 40 = 40 from rfl), ob_s]
          exact hz
        · rw [if_pos (show nI np < 40 from nI_lt (b := 40) (by omega) (by decide)), if_neg (show ¬ nI np = 40 from fun q => cn ((nI_eq (by omega) (by decide)).mp (show nI np = nI 40 from q))), if_pos (inb_nI (by omega) (by decide)), if_pos (inb_nI (by omega) (by decide)), ob_s, nI_clamp (by omega), nI_1]
          refine ⟨_, _, _, rfl, rfl, ⟨y, st, tl, ns, hh, l, np + 1, r, ⟨a1, a2, a3, a4, ⟨e1, e2, e3⟩, a6, a7, ⟨rfl, rfl, by omega⟩, a9⟩, hT, hS, hW, hH, hB, hO, ?_, h0, h1, h2, h3, h4⟩⟩
          intro i hi
          show mu x 48 np c 48 i = mu m 52 np c 52 i ∧ ∃ a b, a < nw ∧ b < nw ∧ a ≠ b ∧ mu x 46 np (nI j) 46 i = nI a ∧ mu m 50 np (nI j) 50 i = nI a ∧ mu x 47 np (nI o) 47 i = nI b ∧ mu m 51 np (nI o) 51 i = nI b
          by_cases q : i = np
          · subst q
            rw [mu_same, mu_same, mu_same, mu_same, mu_same, mu_same]
            exact ⟨rfl, j, o, hj, ho, fun q => cj (by rw [q]), rfl, rfl, rfl, rfl⟩
          · rw [mu_ne _ _ _ _ _ q, mu_ne _ _ _ _ _ q, mu_ne _ _ _ _ _ q, mu_ne _ _ _ _ _ q, mu_ne _ _ _ _ _ q, mu_ne _ _ _ _ _ q]
            exact hP i (by omega)
      · rw [if_neg c2, if_pos (Int32.not_le.mp c2)]; exact hz
    · rw [has_no e1 hc, isW_no e2' hc, ob_s, ob_s, if_pos rfl, if_pos rfl]; exact hz
  · rw [has_no e1 hc, isW_no e2' hc, ob_s, ob_s, if_pos rfl, if_pos rfl]; exact hz
theorem st_horse (h : Rel nw x m) : ∀ a, S2 Rel nw (f_X10_horse fu nw x a) (f_X11_horse fu m a) := by
  intro a
  have hR := rel_th h
  obtain ⟨y, st, tl, ns, hh, l, np, r, hA, hT, hS, hW, hH, hB, hO, hP, h0, h1, h2, h3, h4⟩ := h
  obtain ⟨a1, a2, a3, a4, a5, a6, a7, a8, a9⟩ := hA
  obtain ⟨f1, f2, f3⟩ := a6
  have hz : S2 Rel nw (some (x, -1)) (some (mu m 0 0 0, -1)) := ⟨x, _, _, rfl, rfl, hR⟩
  unfold f_X10_horse f_X11_horse f_X5_addHorse
  rw [f1, f2]
  by_cases c0 : a < 0
  · rw [if_pos c0, if_pos c0]; exact hz
  rw [if_neg c0, if_neg c0]
  by_cases c1 : 999 < a
  · rw [if_pos c1, if_pos c1]; exact hz
  rw [if_neg c1, if_neg c1]
  obtain ⟨k, hk, rfl⟩ := nI_of c0
  have hk9 : k ≤ 999 := by
    rcases Nat.lt_or_ge 999 k with q | q
    · exact absurd (nI_lt q hk) c1
    · exact q
  by_cases cn : hh = 16
  · subst cn
    rw [if_neg (show ¬ nI 16 < 16 by decide), if_pos (show nI 16 = 16 from rfl), ob_s]
    exact hz
  · rw [if_pos (show nI hh < 16 from nI_lt (b := 16) (by omega) (by decide)), if_neg (show ¬ nI hh = 16 from fun q => cn ((nI_eq (by omega) (by decide)).mp (show nI hh = nI 16 from q))), if_pos (inb_nI (by omega) (by decide)), if_pos (inb_nI (by omega) (by decide)), ob_s, nI_clamp (by omega), nI_1, vz1]
    refine ⟨_, _, _, rfl, rfl, ⟨y, st, tl, ns, hh + 1, l, np, r, ⟨a1, a2, a3, a4, a5, ⟨rfl, rfl, by omega⟩, a7, a8, a9⟩, hT, hS, hW, ?_, hB, hO, hP, h0, h1, ?_, ?_, ?_⟩⟩
    · intro i hi
      show (∃ k', k' ≤ 999 ∧ mu x 16 hh (nI k) 16 i = nI k' ∧ mu m 27 hh (nI k) 27 i = nI k') ∧ mu x 17 hh 1 17 i = mu m 28 hh 1 28 i ∧ (mu m 28 hh 1 28 i = 0 ∨ mu m 28 hh 1 28 i = 1)
      by_cases q : i = hh
      · subst q
        rw [mu_same, mu_same, mu_same, mu_same]
        exact ⟨⟨k, hk9, rfl, rfl⟩, rfl, Or.inr rfl⟩
      · rw [mu_ne _ _ _ _ _ q, mu_ne _ _ _ _ _ q, mu_ne _ _ _ _ _ q, mu_ne _ _ _ _ _ q]
        exact hH i (by omega)
    · intro hs k hk
      obtain ⟨i, g1, g2⟩ := h2 hs k hk
      exact ⟨i, by omega, g2⟩
    · intro hs
      obtain ⟨g1, g2, g3, g4⟩ := h3 hs
      refine ⟨g1, g2, fun j hj => ⟨fun hq => ?_, (g3 j hj).2⟩, g4⟩
      obtain ⟨i, q1, q2⟩ := (g3 j hj).1 hq
      exact ⟨i, by omega, q2⟩
    · intro hs
      obtain ⟨lp, t, ar, p1, p2, p3, p4, p5, p6, p7⟩ := h4 hs
      refine ⟨lp, t, ar, p1, p2, p3, p4, p5, p6, fun h4' => ?_⟩
      obtain ⟨q1, q2, q3, q4, q5, q6⟩ := p7 h4'
      refine ⟨q1, q2, q3, fun i w hi hw hn => ⟨(q4 i w hi hw hn).1, ?_⟩, q5, q6⟩
      obtain ⟨hq, z1, z2, z3⟩ := (q4 i w hi hw hn).2
      refine ⟨hq, by omega, z2, ?_⟩
      show x 38 i = 3 + mu x 16 hh (nI k) 16 hq / 250
      rw [mu_ne _ _ _ _ _ (show hq ≠ hh by omega)]
      exact z3
end PUR2
