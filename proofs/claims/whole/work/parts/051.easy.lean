theorem ob_s {α ρ : Type} (x : Me) (a : α) (k : Me → α → Option ρ) : ob (some (x, a)) k = k x a := rfl
theorem om_0 {ρ : Type} (a : Option ρ) (b : Nat → Option ρ) : om none a b = a := rfl
theorem om_1 {ρ : Type} (j : Nat) (a : Option ρ) (b : Nat → Option ρ) : om (some j) a b = b j := rfl
theorem n10 : ¬ (1 : Int32) = 0 := by decide
theorem rng_no {ρ : Type} {A B : ρ} {a N : Int32} (h : a < 0 ∨ N ≤ a) : (if a < 0 then A else if N ≤ a then A else B) = A := by
  by_cases c : a < 0
  · rw [if_pos c]
  · rw [if_neg c, if_pos (h.resolve_left c)]
theorem rng_yes {ρ : Type} {A B : ρ} {j n : Nat} (h : j < n) (hn : n < 2 ^ 31) : (if nI j < 0 then A else if nI n ≤ nI j then A else B) = B := by
  rw [if_neg (nI_pos (by omega)), if_neg (nI_ge h hn)]
theorem rng_ix (a : Int32) {n : Nat} (hn : n < 2 ^ 31) : (∃ j, j < n ∧ a = nI j) ∨ (a < 0 ∨ nI n ≤ a) := by
  rcases pk_ix a hn with h | h | h
  · exact Or.inr (Or.inl h)
  · exact Or.inr (Or.inr h)
  · exact Or.inl h
section PUR
variable {fu nw : Nat} {x m : Me}
theorem has_no {a : Int32} (e : x 13 0 = nI nw) (h : a < 0 ∨ nI nw ≤ a) : f_X8_has fu nw x a = some (x, 0) := by
  unfold f_X8_has
  rw [e]
  exact rng_no h
theorem has_yes {j : Nat} (e : x 13 0 = nI nw) (h : j < nw) (hn : nw ≤ 17) : f_X8_has fu nw x (nI j) = some (x, 1) := by
  unfold f_X8_has
  rw [e]
  exact rng_yes h (by omega)
theorem isW_no {a : Int32} (e : m 17 0 = nI nw) (h : a < 0 ∨ nI nw ≤ a) : f_X11_isWard fu m a = some (m, 0) := by
  unfold f_X11_isWard
  rw [e]
  exact rng_no h
theorem isW_yes {j : Nat} (e : m 17 0 = nI nw) (h : j < nw) (hn : nw ≤ 17) : f_X11_isWard fu m (nI j) = some (m, 1) := by
  unfold f_X11_isWard
  rw [e]
  exact rng_yes h (by omega)
theorem find_no {a : Int32} (e : x 13 0 = nI nw) (h : a < 0 ∨ nI nw ≤ a) : f_X8_find fu nw x a = some (x, none) := by
  unfold f_X8_find
  rw [has_no e h]
  rfl
theorem find_yes {j : Nat} (e : x 13 0 = nI nw) (h : j < nw) (hn : nw ≤ 17) : f_X8_find fu nw x (nI j) = some (x, some j) := by
  unfold f_X8_find
  rw [has_yes e h hn, ob_s, if_neg n10, if_pos (inb_nI (by omega) (by decide)), nI_clamp (by omega), if_pos h]
theorem rel_th (h : Rel nw x m) : Rel nw x (mu m 0 0 0) := h
theorem st_won (h : Rel nw x m) : S2 Rel nw (f_X10_won fu nw x) (f_X11_won fu m) := by
  have hR := rel_th h
  obtain ⟨y, st, tl, ns, hh, l, np, r, hA, hT, hS, hW, hH, hB, hO, hP, h0, h1, h2, h3, h4⟩ := h
  obtain ⟨e1, e2, e3⟩ := hA.2.1
  unfold f_X10_won f_X11_won
  rw [e1, e2]
  by_cases c : nI st < 4
  · rw [if_pos c, if_pos c]
    exact ⟨x, _, _, rfl, rfl, hR⟩
  · rw [if_neg c, if_neg c]
    have hst : 4 ≤ st := by
      rcases Nat.lt_or_ge st 4 with q | q
      · exact absurd (nI_lt (b := 4) q (by decide)) c
      · exact q
    obtain ⟨lp, t, ar, _, _, _, _, hs, _⟩ := h4 hst
    exact ⟨x, _, _, rfl, by rw [hs.2.2.2.2.2.2.2.2.2.2], hR⟩
theorem st_count (h : Rel nw x m) : ∀ a, S2 Rel nw (f_X10_count fu nw x a) (f_X11_count fu m a) := by
  intro a
  have hR := rel_th h
  obtain ⟨y, st, tl, ns, hh, l, np, r, hA, hT, hS, hW, hH, hB, hO, hP, h0, h1, h2, h3, h4⟩ := h
  obtain ⟨a1, a2, a3, a4, a5, a6, a7, a8, a9⟩ := hA
  have hk : ∀ v w : Int32, v = w → S2 Rel nw (some (x, v)) (some (mu m 0 0 0, w)) := fun v w e => ⟨x, _, v, rfl, by rw [e], hR⟩
  unfold f_X10_count f_X11_count
  by_cases c0 : a = 0
  · rw [if_pos c0, if_pos c0]; exact hk _ _ (a1.1.trans a1.2.1.symm)
  rw [if_neg c0, if_neg c0]
  by_cases c1 : a = 1
  · rw [if_pos c1, if_pos c1]; exact hk _ _ (a2.1.trans a2.2.1.symm)
  rw [if_neg c1, if_neg c1]
  by_cases c2 : a = 2
  · rw [if_pos c2, if_pos c2, a2.1]
    by_cases c : nI st < 4
    · rw [if_pos c]
      have hst : st < 4 := (nI_ltI (by omega) (by decide)).mp (show nI st < nI 4 from c)
      exact hk _ _ (h0.2.2 hst).symm
    · rw [if_neg c]
      have hst : 4 ≤ st := by
        rcases Nat.lt_or_ge st 4 with q | q
        · exact absurd (nI_lt (b := 4) q (by decide)) c
        · exact q
      obtain ⟨lp, t, ar, _, _, _, _, hs, _⟩ := h4 hst
      exact hk _ _ (hs.2.2.2.2.2.2.1.trans hs.2.2.2.2.2.2.2.1.symm)
  rw [if_neg c2, if_neg c2]
  by_cases c3 : a = 3
  · rw [if_pos c3, if_pos c3]; exact hk _ _ (a5.1.trans a5.2.1.symm)
  rw [if_neg c3, if_neg c3]
  by_cases c4 : a = 4
  · rw [if_pos c4, if_pos c4]; exact hk _ _ (a6.1.trans a6.2.1.symm)
  rw [if_neg c4, if_neg c4]
  by_cases c5 : a = 5
  · rw [if_pos c5, if_pos c5]; exact hk _ _ (a8.1.trans a8.2.1.symm)
  rw [if_neg c5, if_neg c5]
  by_cases c6 : a = 6
  · rw [if_pos c6, if_pos c6]; exact hk _ _ (a4.1.trans a4.2.1.symm)
  rw [if_neg c6, if_neg c6]
  by_cases c7 : a = 7
  · rw [if_pos c7, if_pos c7]; exact hk _ _ (a7.1.trans a7.2.1.symm)
  rw [if_neg c7, if_neg c7]
  exact hk _ _ rfl
/-- a 0 or a 1 is kept in a row of booleans -/
theorem vz01 {z : Int32} (h : z = 0 ∨ z = 1) : vp_nar .boolean z = z := by rcases h with rfl | rfl <;> rfl
theorem st_sound (h : Rel nw x m) : ∀ a z : Int32, (z = 0 ∨ z = 1) → S2 Rel nw (f_X10_sound fu nw x a z) (f_X11_sound fu m a z) := by
  intro a z hz
  have hR := rel_th h
  obtain ⟨y, st, tl, ns, hh, l, np, r, hA, hT, hS, hW, hH, hB, hO, hP, h0, h1, h2, h3, h4⟩ := h
  obtain ⟨e1, e2, e3⟩ := hA.2.2.2.2.2.1
  unfold f_X10_sound f_X5_has f_X11_sound
  rw [e1, e2]
  rcases rng_ix a (n := hh) (by omega) with ⟨j, hj, rfl⟩ | hc
  · rw [rng_yes hj (by omega), if_neg (nI_pos (by omega)), if_pos (nI_lt hj (by omega)), ob_s, if_neg n10, if_pos (inb_nI (by omega) (by decide)), if_pos (inb_nI (by omega) (by decide)), nI_clamp (by omega), vz01 hz]
    refine ⟨_, _, _, rfl, rfl, ⟨y, st, tl, ns, hh, l, np, r, hA, hT, hS, hW, ?_, hB, hO, hP, h0, h1, h2, h3, h4⟩⟩
    intro i hi
    obtain ⟨b1, b2, b3⟩ := hH i hi
    refine ⟨b1, ?_, ?_⟩
    · by_cases q : i = j
      · subst q; rw [mu_same, mu_same]
      · rw [mu_ne _ _ _ _ _ q, mu_ne _ _ _ _ _ q]; exact b2
    · by_cases q : i = j
      · subst q; rw [mu_same]; exact hz
      · rw [mu_ne _ _ _ _ _ q]; exact b3
  · rw [rng_no hc, ob_s, if_pos rfl]
    by_cases c : a < 0
    · rw [if_pos c]; exact ⟨x, _, _, rfl, rfl, hR⟩
    · rw [if_neg c, if_neg (Int32.not_lt.mpr (hc.resolve_left c))]; exact ⟨x, _, _, rfl, rfl, hR⟩
theorem st_bend (h : Rel nw x m) : ∀ a z : Int32, (z = 0 ∨ z = 1) → S2 Rel nw (f_X10_bend fu nw x a z) (f_X11_bend fu m a z) := by
  intro a z hz
  have hR := rel_th h
  obtain ⟨y, st, tl, ns, hh, l, np, r, hA, hT, hS, hW, hH, hB, hO, hP, h0, h1, h2, h3, h4⟩ := h
  obtain ⟨e1, e2, e3, e4⟩ := hA.2.2.2.2.2.2.1
  obtain ⟨d1, d2, d3⟩ := hA.2.1
  unfold f_X10_bend f_X11_bend
  rw [e1, e2, d1, d2]
  rcases rng_ix a (n := l) (by omega) with ⟨j, hj, rfl⟩ | hc
  · rw [rng_yes hj (by omega), rng_yes hj (by omega)]
    by_cases c : nI st = 4
    · rw [if_pos c, if_pos c]; exact ⟨x, _, _, rfl, rfl, hR⟩
    · rw [if_neg c, if_neg c, if_pos (inb_nI (by omega) (by decide)), if_pos (inb_nI (by omega) (by decide)), nI_clamp (by omega), vz01 hz]
      refine ⟨_, _, _, rfl, rfl, ⟨y, st, tl, ns, hh, l, np, r, hA, hT, hS, hW, hH, ?_, hO, hP, h0, h1, h2, h3, h4⟩⟩
      intro i hi
      by_cases q : i = j
      · subst q; rw [mu_same, mu_same]; exact ⟨rfl, hz⟩
      · rw [mu_ne _ _ _ _ _ q, mu_ne _ _ _ _ _ q]; exact hB i hi
  · rw [rng_no hc, rng_no hc]; exact ⟨x, _, _, rfl, rfl, hR⟩
theorem st_look (h : Rel nw x m) : ∀ a b, S2 Rel nw (f_X10_look fu nw x a b) (f_X11_look fu m a b) := by
  intro a b
  have hR := rel_th h
  obtain ⟨y, st, tl, ns, hh, l, np, r, hA, hT, hS, hW, hH, hB, hO, hP, h0, h1, h2, h3, h4⟩ := h
  obtain ⟨e1, e2, e3⟩ := hA.2.2.2.2.1
  obtain ⟨d1, d2, d3⟩ := hA.2.1
  have hk : ∀ v w : Int32, v = w → S2 Rel nw (some (x, v)) (some (mu m 0 0 0, w)) := fun v w e => ⟨x, _, v, rfl, by rw [e], hR⟩
  unfold f_X10_look f_X11_look
  rcases rng_ix a (n := nw) (by omega) with ⟨j, hj, rfl⟩ | hc
  · rw [find_yes e1 hj e3, isW_yes (show (mu m 0 0 0) 17 0 = nI nw from e2) hj e3, ob_s, ob_s, om_1, if_pos hj, if_neg n10, nI_clamp (by omega)]
    obtain ⟨w1, w2, w3, w4, w5, w6⟩ := hW.1 j hj
    by_cases c0 : b = 0
    · rw [if_pos c0, if_pos c0]
      rw [show (mu m 0 0 0) 4 0 = nI st from d2]
      by_cases c : nI st < 3
      · rw [if_pos c]
        have hst : st < 3 := (nI_ltI (by omega) (by decide)).mp (show nI st < nI 3 from c)
        exact hk _ _ (h0.2.1 hst j hj)
      · rw [if_neg c, if_pos (inb_nI (by omega) (by decide))]
        have hst : 3 ≤ st := by
          rcases Nat.lt_or_ge st 3 with q | q
          · exact absurd (nI_lt (b := 3) q (by decide)) c
          · exact q
        obtain ⟨g1, g2, g3, g4⟩ := h3 hst
        rcases w2 with q | q
        · rw [if_pos (show (mu m 0 0 0) 23 j = 0 from q)]
          exact hk _ _ ((g3 j hj).2 q)
        · rw [if_neg (show ¬ (mu m 0 0 0) 23 j = 0 from fun z => by rw [show (mu m 0 0 0) 23 j = m 23 j from rfl, q] at z; exact absurd z (by decide))]
          obtain ⟨i, _, f1, f2⟩ := (g3 j hj).1 q
          exact hk _ _ (f1.trans f2.symm)
    rw [if_neg c0, if_neg c0]
    by_cases c1 : b = 1
    · rw [if_pos c1, if_pos c1, if_pos (inb_nI (by omega) (by decide))]; exact hk _ _ w3
    rw [if_neg c1, if_neg c1]
    by_cases c2 : b = 2
    · rw [if_pos c2, if_pos c2, if_pos (inb_nI (by omega) (by decide))]; exact hk _ _ w4
    rw [if_neg c2, if_neg c2]
    by_cases c3 : b = 3
    · rw [if_pos c3, if_pos c3, if_pos (inb_nI (by omega) (by decide))]; exact hk _ _ w5
    rw [if_neg c3, if_neg c3]
    by_cases c4 : b = 4
    · rw [if_pos c4, if_pos c4, if_pos (inb_nI (by omega) (by decide))]; exact hk _ _ w6
    rw [if_neg c4, if_neg c4]
    exact hk _ _ rfl
  · rw [find_no e1 hc, isW_no (show (mu m 0 0 0) 17 0 = nI nw from e2) hc]
    exact hk _ _ rfl
end PUR
