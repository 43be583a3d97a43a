section PUR7
variable {fu nw : Nat} {x m : Me}
theorem dr_sp {k : Me → Int32 → Option (Me × Int32)} (hn : nw ≤ 17) (h01 : ∀ j, j < nw → m 23 j = 0 ∨ m 23 j = 1) : ∀ (d j n c w : Nat), j + d = nw → d ≤ n → c < 100 → ((List.range' j d).filter (fun i => decide (m 23 i = 1)))[c]? = some w → f_X11_drawn_65 fu k n m (nI c) (nI j) = k m (nI w)
  | 0, j, n, c, w, h, _, _, hw => by simp at hw
  | d + 1, j, n + 1, c, w, h, hd, hc, hw => by
    rw [List.range'_succ] at hw
    rw [f_X11_drawn_65_s, if_pos (inb_nI (by omega) (by decide)), nI_clamp (by omega), nI_1]
    simp only [jn]
    rcases h01 j (by omega) with q | q
    · rw [List.filter_cons_of_neg (by rw [q]; decide)] at hw
      rw [if_pos q, if_pos q, Int32.sub_zero]
      exact dr_sp hn h01 d (j + 1) n c w (by omega) (by omega) hc hw
    · have qn : ¬ m 23 j = 0 := by rw [q]; decide
      rw [List.filter_cons_of_pos (by rw [q]; decide)] at hw
      rw [if_neg qn]
      cases c with
      | zero =>
        rw [List.getElem?_cons_zero] at hw
        cases hw
        rw [if_pos (by decide)]
      | succ c =>
        rw [List.getElem?_cons_succ] at hw
        rw [if_neg (nI_nle (by omega) (by omega)), if_neg qn, nI_pred]
        exact dr_sp hn h01 d (j + 1) n c w (by omega) (by omega) (by omega) hw
  | d + 1, _, 0, _, _, _, h, _, _ => absurd h (by omega)
theorem st_drawn (hfu : 70000 ≤ fu) (h : Rel nw x m) : ∀ a b, S2 Rel nw (f_X10_drawn fu nw x a b) (f_X11_drawn fu m a b) := by
  intro a b
  have hR := rel_th h
  obtain ⟨y, st, tl, ns, hh, l, np, r, hA, hT, hS, hW, hH, hB, hO, hP, h0, h1, h2, h3, h4⟩ := h
  obtain ⟨s1, s2, s3⟩ := hA.2.1
  obtain ⟨e1, e2, e3⟩ := hA.2.2.2.2.1
  have hk : ∀ v w : Int32, v = w → S2 Rel nw (some (x, v)) (some (mu m 0 0 0, w)) := fun v w e => ⟨x, _, v, rfl, by rw [e], hR⟩
  unfold f_X10_drawn f_X11_drawn
  rw [s1, s2]
  by_cases cb : b < 0
  · rw [if_pos cb]
    have : ∀ (A B : Option (Me × Int32)), (if a < 0 then some (mu m 0 0 0, (-1 : Int32)) else if 2 < a then some (mu m 0 0 0, -1) else if nI st ≤ a then some (mu m 0 0 0, -1) else some (mu m 0 0 0, -1)) = some (mu m 0 0 0, -1) := by
      intro _ _
      split <;> first | rfl | (split <;> first | rfl | (split <;> rfl))
    rw [if_pos cb, this none none]
    exact hk _ _ rfl
  rw [if_neg cb, if_neg cb]
  by_cases ca : ∃ w, w < 3 ∧ a = nI w
  · obtain ⟨w, hw, rfl⟩ := ca
    rw [if_neg (show ¬ nI w < 0 from nI_pos (by omega)), if_neg (show ¬ (2 : Int32) < nI w from nI_nlt (a := 2) (by omega) (by decide))]
    by_cases cs : st ≤ w
    · rw [if_pos (nI_le cs (by omega))]
      have hlt : nI st < 1 ∨ 1 ≤ w := by
        rcases Nat.eq_zero_or_pos w with q | q
        · exact Or.inl (nI_lt (b := 1) (by omega) (by decide))
        · exact Or.inr q
      have hX : (if b < x 20 0 then if nI w = 0 then if nI st < 1 then some (x, -1) else if inb b 10 = true then some (x, x 21 b.toNatClampNeg) else none else if nI w = 1 then if nI st < 2 then some (x, -1) else if inb b 10 = true then some (x, x 18 b.toNatClampNeg) else none else if nI w = 2 then if nI st < 3 then some (x, -1) else if inb b 10 = true then some (x, x 22 b.toNatClampNeg) else none else some (x, -1) else some (x, (-1 : Int32))) = some (x, -1) := by
        by_cases c : b < x 20 0
        · rw [if_pos c]
          rcases (show w = 0 ∨ w = 1 ∨ w = 2 by omega) with rfl | rfl | rfl
          · rw [if_pos (show nI 0 = 0 from rfl), if_pos (show nI st < 1 from nI_lt (b := 1) (by omega) (by decide))]
          · rw [if_neg (show ¬ nI 1 = 0 by decide), if_pos (show nI 1 = 1 from rfl), if_pos (show nI st < 2 from nI_lt (b := 2) (by omega) (by decide))]
          · rw [if_neg (show ¬ nI 2 = 0 by decide), if_neg (show ¬ nI 2 = 1 by decide), if_pos (show nI 2 = 2 from rfl), if_pos (show nI st < 3 from nI_lt (b := 3) (by omega) (by decide))]
        · rw [if_neg c]
      rw [hX]
      exact hk _ _ rfl
    · obtain ⟨r1, r2, r3, r4, r5, r6⟩ := h1 (by omega)
      rw [if_neg (show ¬ nI st ≤ nI w from nI_ge (by omega) (by omega)), r1, r2]
      by_cases cr : b < nI r
      · obtain ⟨k, hkr, rfl⟩ := inb_nn cb cr (by omega)
        have hin : inb (nI k) 10 = true := inb_nI (by omega) (by decide)
        rw [if_pos cr, if_pos cr, nI_clamp (by omega)]
        rcases (show w = 0 ∨ w = 1 ∨ w = 2 by omega) with rfl | rfl | rfl
        · rw [if_pos (show nI 0 = 0 from rfl), if_neg (show ¬ nI st < 1 from nI_nlt (b := 1) (by omega) (by omega)), if_pos hin, if_neg (show ¬ nI 0 = 1 by decide), if_neg (show ¬ nI 0 = 2 by decide)]
          have hget : (runs nw m)[k]? = some ((runs nw m).getD k 0) := by
            rw [List.getElem?_eq_getElem (by omega), List.getD_eq_getElem?_getD, List.getElem?_eq_getElem (by omega)]
            rfl
          have hl := dr_sp (fu := fu) (m := mu m 0 0 0) (k := fun x_6 a4_6 => some (x_6, a4_6)) e3 (fun j hj => (hW.1 j hj).2.1) nw 0 fu k ((runs nw m).getD k 0) (by omega) (by omega) (by omega) (by rw [← List.range_eq_range']; exact hget)
          refine ⟨x, mu m 0 0 0, _, rfl, ?_, hR⟩
          rw [r6 k hkr]
          exact hl
        · rw [if_neg (show ¬ nI 1 = 0 by decide), if_pos (show nI 1 = 1 from rfl), if_neg (show ¬ nI st < 2 from nI_nlt (b := 2) (by omega) (by omega)), if_pos (show nI 1 = 1 from rfl), if_pos hin, if_pos hin]
          obtain ⟨i, _, q1, q2⟩ := h2 (by omega) k hkr
          exact hk _ _ (q1.trans q2.symm)
        · rw [if_neg (show ¬ nI 2 = 0 by decide), if_neg (show ¬ nI 2 = 1 by decide), if_pos (show nI 2 = 2 from rfl), if_neg (show ¬ nI st < 3 from nI_nlt (b := 3) (by omega) (by omega)), if_neg (show ¬ nI 2 = 1 by decide), if_pos (show nI 2 = 2 from rfl), if_pos hin, if_pos hin]
          obtain ⟨w, _, q1, q2, _⟩ := (h3 (by omega)).1 k hkr
          exact hk _ _ (q1.trans q2.symm)
      · rw [if_neg cr, if_neg cr]; exact hk _ _ rfl
  · have n0 : ¬ a = 0 := fun q => ca ⟨0, by decide, q⟩
    have n1 : ¬ a = 1 := fun q => ca ⟨1, by decide, q⟩
    have n2 : ¬ a = 2 := fun q => ca ⟨2, by decide, q⟩
    have hM : a < 0 ∨ 2 < a := by
      by_cases q : a < 0
      · exact Or.inl q
      · obtain ⟨w, hw, rfl⟩ := nI_of q
        refine Or.inr (nI_lt (a := 2) ?_ hw)
        rcases Nat.lt_or_ge 2 w with z | z
        · exact z
        · exact absurd ⟨w, by omega, rfl⟩ ca
    have hX : ∀ A B C : Option (Me × Int32), (if b < x 20 0 then if a = 0 then A else if a = 1 then B else if a = 2 then C else some (x, (-1 : Int32)) else some (x, -1)) = some (x, -1) := by
      intro A B C
      rw [if_neg n0, if_neg n1, if_neg n2]
      split <;> rfl
    rw [hX]
    rcases hM with q | q
    · rw [if_pos q]; exact hk _ _ rfl
    · by_cases q0 : a < 0
      · rw [if_pos q0]; exact hk _ _ rfl
      · rw [if_neg q0, if_pos q]; exact hk _ _ rfl
end PUR7
