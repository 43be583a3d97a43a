/-- a ward that may be chosen in a year -/
def fr (m : Me) (y j : Nat) : Bool := decide (m 19 j < nI y) && decide (m 23 j = 0)
/-- what choosing looks at, alike on both sides -/
def CW (nw : Nat) (x m : Me) : Prop := ∀ j, j < nw → x 50 j = m 23 j ∧ x 52 j = m 18 j ∧ x 53 j = m 19 j
section PUR9
variable {fu nw y : Nat} {x m : Me}
theorem mb_sp {j : Nat} (hc : CW nw x m) (hj : j < nw) : f_X9_mayBeChosen fu nw x j (nI y) = some (x, if fr m y j = true then 1 else 0) := by
  obtain ⟨c1, c2, c3⟩ := hc j hj
  unfold f_X9_mayBeChosen fr
  rw [if_pos hj, c1, c3]
  by_cases q : nI y ≤ m 19 j
  · have q' : ¬ m 19 j < nI y := Int32.not_lt.mpr q
    rw [if_pos q]
    simp [q']
  · have q' : m 19 j < nI y := Int32.not_le.mp q
    rw [if_neg q]
    by_cases z : m 23 j = 0
    · rw [if_pos z]; simp [q', z]
    · rw [if_neg z]; simp [z]
theorem ib_sp {j : Nat} (hy : m 3 0 = nI y) (hj : j < 17) : f_X11_isBarred fu m (nI j) = some (m, if m 19 j < nI y then 0 else 1) := by
  unfold f_X11_isBarred
  rw [if_pos (inb_nI hj (by decide)), nI_clamp (by omega), hy]
  by_cases q : m 19 j < nI y
  · rw [if_pos q, if_pos q]
  · rw [if_neg q, if_neg q]
theorem lg_sp {k k' : Me → Int32 → Option (Me × Int32)} (hc : CW nw x m) (hn : nw ≤ 17) (e1 : x 13 0 = nI nw) (e2 : m 17 0 = nI nw) (hy : m 3 0 = nI y) : ∀ (d i n1 n2 : Nat) (acc : Int32), i + d = nw → d < n1 → d < n2 → (acc = -1 ∨ ∃ w, w < nw ∧ acc = nI w ∧ fr m y w = true) →
    ∃ acc', ((acc' = -1 ∧ acc = -1 ∧ ∀ j, i ≤ j → j < nw → fr m y j = false) ∨ ∃ w, w < nw ∧ acc' = nI w ∧ fr m y w = true) ∧ f_X8_longestAgo_4 fu nw (nI y) k n1 x acc (nI i) = k x acc' ∧ f_X11_longest_4 fu k' n2 m acc (nI i) = k' m acc'
  | 0, i, n1 + 1, n2 + 1, acc, h, _, _, ha => by
    refine ⟨acc, ?_, ?_, ?_⟩
    · rcases ha with q | q
      · exact Or.inl ⟨q, q, fun j _ _ => absurd ‹j < nw› (by omega)⟩
      · exact Or.inr q
    · rw [f_X8_longestAgo_4_s, e1, if_pos (nI_le (by omega) (by omega))]
    · rw [f_X11_longest_4_s, e2, if_pos (nI_le (by omega) (by omega))]
  | d + 1, i, n1 + 1, n2 + 1, acc, h, g1, g2, ha => by
    have ih := fun acc ha => lg_sp (k := k) (k' := k') hc hn e1 e2 hy d (i + 1) n1 n2 acc (by omega) (by omega) (by omega) ha
    have hi : i < nw := by omega
    rw [f_X8_longestAgo_4_s, f_X11_longest_4_s, e1, e2, if_neg (nI_ge (by omega) (by omega)), if_neg (nI_ge (by omega) (by omega)), if_pos (inb_nI (by omega) (by decide)), nI_clamp (by omega), if_pos hi, mb_sp hc hi, ib_sp hy (by omega), ob_s, ob_s, nI_1]
    by_cases q1 : m 19 i < nI y
    · by_cases q2 : m 23 i = 0
      · have hf : fr m y i = true := by simp [fr, q1, q2]
        rw [if_pos hf, if_neg n10, if_pos q1, if_pos rfl, if_pos (inb_nI (by omega) (by decide)), if_pos q2]
        rcases ha with rfl | ⟨w, w1, rfl, w3⟩
        · rw [if_pos rfl, if_pos rfl]
          obtain ⟨acc', b1, b2⟩ := ih (nI i) (Or.inr ⟨i, hi, rfl, hf⟩)
          refine ⟨acc', Or.inr ?_, b2⟩
          rcases b1 with ⟨_, z, _⟩ | z
          · exact absurd z (fun q => nI_pos (n := i) (by omega) (by rw [q]; decide))
          · exact z
        · have hm : ¬ nI w = -1 := fun q => nI_pos (n := w) (by omega) (by rw [q]; decide)
          have done : ∀ acc'', (∃ v, v < nw ∧ acc'' = nI v ∧ fr m y v = true) → ∃ acc', ((acc' = -1 ∧ nI w = -1 ∧ ∀ j, i ≤ j → j < nw → fr m y j = false) ∨ ∃ w, w < nw ∧ acc' = nI w ∧ fr m y w = true) ∧ f_X8_longestAgo_4 fu nw (nI y) k n1 x acc'' (nI (i + 1)) = k x acc' ∧ f_X11_longest_4 fu k' n2 m acc'' (nI (i + 1)) = k' m acc' := by
            intro acc'' hv
            obtain ⟨acc', b1, b2⟩ := ih acc'' (Or.inr hv)
            refine ⟨acc', Or.inr ?_, b2⟩
            rcases b1 with ⟨_, z, _⟩ | z
            · obtain ⟨v, v1, v2, _⟩ := hv
              exact absurd (v2.symm.trans z) (fun q => nI_pos (n := v) (by omega) (by rw [q]; decide))
            · exact z
          rw [if_neg hm, if_neg hm, if_pos hi, if_pos (inb_nI (by omega) (by decide)), if_pos (inb_nI (by omega) (by decide)), nI_clamp (by omega), if_pos w1, (hc w w1).2.1, (hc i hi).2.1]
          by_cases c : m 18 w ≤ m 18 i
          · rw [if_pos c, if_pos c]
            exact done (nI w) ⟨w, w1, rfl, w3⟩
          · rw [if_neg c, if_neg c]
            exact done (nI i) ⟨i, hi, rfl, hf⟩
      · have hf : ¬ fr m y i = true := by simp [fr, q2]
        rw [if_neg hf, if_pos rfl, if_pos q1, if_pos rfl, if_pos (inb_nI (by omega) (by decide)), if_neg q2]
        obtain ⟨acc', b1, b2⟩ := ih acc ha
        refine ⟨acc', b1.imp (fun z => ⟨z.1, z.2.1, fun j j1 j2 => ?_⟩) id, b2⟩
        by_cases e : j = i
        · rw [e]; simpa using hf
        · exact z.2.2 j (by omega) j2
    · have hf : ¬ fr m y i = true := by simp [fr, q1]
      rw [if_neg hf, if_pos rfl, if_neg q1, if_neg n10]
      obtain ⟨acc', b1, b2⟩ := ih acc ha
      refine ⟨acc', b1.imp (fun z => ⟨z.1, z.2.1, fun j j1 j2 => ?_⟩) id, b2⟩
      by_cases e : j = i
      · rw [e]; simpa using hf
      · exact z.2.2 j (by omega) j2
  | 0, _, 0, _, _, _, h, _, _ => absurd h (by omega)
  | 0, _, n + 1, 0, _, _, _, h, _ => absurd h (by omega)
  | d + 1, _, 0, _, _, _, h, _, _ => absurd h (by omega)
  | d + 1, _, n + 1, 0, _, _, _, h, _ => absurd h (by omega)
end PUR9
