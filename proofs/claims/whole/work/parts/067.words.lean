def chS : List (List Nat) := [[114, 117, 110], [108, 97, 112, 115], [98, 101, 110, 100], [108, 111, 111, 115, 101], [98, 97, 114], [97, 112, 97, 114, 116], [102, 97, 108, 115, 101]]
def chN (w i : Nat) : Nat := (chS.getD w []).getD i 0
def lnN (w : Nat) : Nat := lenS.getD w 0
def ofN (w : Nat) : Nat := ([0, 4, 9, 14, 20, 24, 30, 36] : List Nat).getD w 0
/-- the bytes from s to e are the word w -/
def mtW (b : Nat → Nat) (s e w : Nat) : Prop := e = s + lnN w ∧ ∀ i, i < lnN w → b (s + i) = chN w i
theorem ch_fa : ∀ w : Fin 7, ∀ i : Fin 5, i.val < lnN w.val → sCh w.val (nI i.val) = nI (chN w.val i.val) ∧ sCh 7 (nI (ofN w.val + i.val)) = nI (chN w.val i.val) ∧ 97 ≤ chN w.val i.val ∧ chN w.val i.val ≤ 122 := by decide +kernel
theorem ch_ea : ∀ w : Fin 7, sCh 7 (nI (ofN w.val + lnN w.val)) = 32 ∧ ofN (w.val + 1) = ofN w.val + lnN w.val + 1 ∧ 3 ≤ lnN w.val ∧ lnN w.val ≤ 5 ∧ sLen w.val = nI (lnN w.val) ∧ ofN w.val + lnN w.val < 36 := by decide +kernel
theorem sl_7 : sLen 7 = nI 36 := by decide +kernel
theorem ch_e {w : Nat} (h : w < 7) : sCh 7 (nI (ofN w + lnN w)) = 32 ∧ ofN (w + 1) = ofN w + lnN w + 1 ∧ 3 ≤ lnN w ∧ lnN w ≤ 5 ∧ sLen w = nI (lnN w) ∧ ofN w + lnN w < 36 := ch_ea ⟨w, h⟩
theorem ch_f {w i : Nat} (h : w < 7) (hi : i < lnN w) : sCh w (nI i) = nI (chN w i) ∧ sCh 7 (nI (ofN w + i)) = nI (chN w i) ∧ 97 ≤ chN w i ∧ chN w i ≤ 122 := ch_fa ⟨w, h⟩ ⟨i, by have := (ch_e h).2.2.2.1; omega⟩ hi
/-- the first word that stands there, from the w-th on -/
def fstW (b : Nat → Nat) (s e w : Nat) (z : Int32) : Prop := (∃ u, w ≤ u ∧ u < 7 ∧ z = nI u ∧ mtW b s e u ∧ ∀ u', w ≤ u' → u' < u → ¬ mtW b s e u') ∨ (z = -1 ∧ ∀ u, w ≤ u → u < 7 → ¬ mtW b s e u)
theorem fstW_eq {b : Nat → Nat} {s e w : Nat} {z z' : Int32} (h : fstW b s e w z) (h' : fstW b s e w z') : z = z' := by
  rcases h with ⟨u, u1, u2, u3, u4, u5⟩ | ⟨h1, h2⟩
  · rcases h' with ⟨v, v1, v2, v3, v4, v5⟩ | ⟨g1, g2⟩
    · rcases Nat.lt_trichotomy u v with q | q | q
      · exact absurd u4 (v5 u u1 q)
      · rw [u3, v3, q]
      · exact absurd v4 (u5 v v1 q)
    · exact absurd u4 (g2 u u1 u2)
  · rcases h' with ⟨v, v1, v2, v3, v4, v5⟩ | ⟨g1, g2⟩
    · exact absurd v4 (h2 v v1 v2)
    · rw [h1, g1]
theorem fstW_s {b : Nat → Nat} {s e w : Nat} {z : Int32} (hn : ¬ mtW b s e w) (h : fstW b s e (w + 1) z) : fstW b s e w z := by
  rcases h with ⟨u, u1, u2, u3, u4, u5⟩ | ⟨h1, h2⟩
  · refine Or.inl ⟨u, by omega, u2, u3, u4, fun u' a c => ?_⟩
    by_cases q : u' = w
    · rw [q]; exact hn
    · exact u5 u' (by omega) c
  · refine Or.inr ⟨h1, fun u a c => ?_⟩
    by_cases q : u = w
    · rw [q]; exact hn
    · exact h2 u (by omega) c
section PUR16
variable {fu nw : Nat} {x m : Me} {b : Nat → Nat} {n s e : Nat}
theorem sp26 {w : Nat} (hw : w < 7) (hs : s + lnN w ≤ 600) (hb : ∀ j, j < lnN w → b (s + j) < 128 ∧ x 3 (s + j) = nI (b (s + j))) : ∀ (d i nf : Nat), i + d = lnN w → d < nf → (∀ j, j < i → b (s + j) = chN w j) → ∃ z, f_X7_spells_26 fu nw w (nI s) (nI (lnN w)) (fun (x_7 : Me) => some (x_7, 1)) nf x (nI i) = some (x, z) ∧ ((z = 1 ∧ ∀ j, j < lnN w → b (s + j) = chN w j) ∨ (z = 0 ∧ ¬ ∀ j, j < lnN w → b (s + j) = chN w j))
  | 0, i, nf + 1, h, _, ha => by
    refine ⟨1, ?_, Or.inl ⟨rfl, fun j hj => ha j (by omega)⟩⟩
    rw [f_X7_spells_26_s, if_pos (nI_le (by omega) (by have := (ch_e hw).2.2.2.1; omega))]
  | d + 1, i, nf + 1, h, hn, ha => by
    have hi : i < lnN w := by omega
    have h5 := (ch_e hw).2.2.2.1
    obtain ⟨c1, c2, c3, c4⟩ := ch_f hw hi
    obtain ⟨b1, b2⟩ := hb i hi
    rw [f_X7_spells_26_s, if_neg (nI_ge hi (by omega)), nI_add, if_pos (inb_nI (by omega) (by decide)), if_pos (show w < 8 by omega), if_pos (inb_nI (show i < lenS.getD w 0 from hi) (show lenS.getD w 0 < 2 ^ 31 from by have : lenS.getD w 0 = lnN w := rfl; omega)), nI_clamp (by omega), b2, c1, nI_1]
    by_cases q : b (s + i) = chN w i
    · rw [if_pos (by rw [q])]
      exact sp26 hw hs hb d (i + 1) nf (by omega) (by omega) (fun j hj => by
        by_cases z : j = i
        · rw [z]; exact q
        · exact ha j (by omega))
    · refine ⟨0, ?_, Or.inr ⟨rfl, fun z => q (z i hi)⟩⟩
      rw [if_neg (fun z => q ((nI_eq (by omega) (by omega)).mp z))]
  | 0, _, 0, _, h, _ => absurd h (by omega)
  | d + 1, _, 0, _, h, _ => absurd h (by omega)
theorem sps (hfu : 70000 ≤ fu) {w : Nat} (hw : w < 7) (hse : s ≤ e) (he : e ≤ 600) (hb : ∀ j, s ≤ j → j < e → b j < 128 ∧ x 3 j = nI (b j)) : ∃ z, f_X7_spells fu nw x w (nI s) (nI e - nI s) = some (x, z) ∧ ((z = 1 ∧ mtW b s e w) ∨ (z = 0 ∧ ¬ mtW b s e w)) := by
  unfold f_X7_spells
  have h5 := (ch_e hw).2.2.2.1
  rw [if_pos (show w < 8 by omega), if_neg (nI_pos (by omega)), pk_sub hse, (ch_e hw).2.2.2.2.1]
  by_cases q : e - s = lnN w
  · rw [q, if_pos (show nI (lnN w) = nI (lnN w) from rfl), nI_add, if_pos (show nI (s + lnN w) ≤ 600 from nI_le (b := 600) (by omega) (by decide))]
    obtain ⟨z, k1, k2⟩ := sp26 (fu := fu) (nw := nw) (x := x) (b := b) (s := s) hw (by omega) (fun j hj => hb (s + j) (by omega) (by omega)) (lnN w) 0 fu (by omega) (by omega) (fun j hj => absurd hj (by omega))
    refine ⟨z, k1, k2.imp (fun a => ⟨a.1, by omega, a.2⟩) (fun a => ⟨a.1, fun c => a.2 c.2⟩)⟩
  · rw [if_neg (fun z => q ((nI_eq (by omega) (by omega)).mp z))]
    exact ⟨0, rfl, Or.inr ⟨rfl, fun c => q (by have := c.1; omega)⟩⟩
theorem splg {w : Nat} (hw : w < 7) : f_X7_spelling fu nw x (nI w) = some (x, w) := by
  rcases (show w = 0 ∨ w = 1 ∨ w = 2 ∨ w = 3 ∨ w = 4 ∨ w = 5 ∨ w = 6 by omega) with rfl | rfl | rfl | rfl | rfl | rfl | rfl <;> rfl
theorem tw49 (hfu : 70000 ≤ fu) (hse : s ≤ e) (he : e ≤ 600) (h5 : x 5 0 = nI e) (hb : ∀ j, s ≤ j → j < e → b j < 128 ∧ x 3 j = nI (b j)) : ∀ (d w nf : Nat), w + d = 7 → d < nf → ∃ z, f_X7_takeWord_49 fu nw (nI s) (fun (x_11 : Me) => some (x_11, (-1))) nf x (nI w) = some (x, z) ∧ fstW b s e w z
  | 0, w, nf + 1, h, _ => by
    refine ⟨-1, ?_, Or.inr ⟨rfl, fun u a c => absurd c (by omega)⟩⟩
    rw [f_X7_takeWord_49_s, if_pos (show (7 : Int32) ≤ nI w from nI_le (a := 7) (by omega) (by omega))]
  | d + 1, w, nf + 1, h, hn => by
    have hw : w < 7 := by omega
    obtain ⟨z, k1, k2⟩ := sps (fu := fu) (nw := nw) (x := x) (b := b) hfu hw hse he hb
    rw [f_X7_takeWord_49_s, if_neg (show ¬ (7 : Int32) ≤ nI w from nI_ge (b := 7) hw (by decide)), splg hw, ob_s, h5, k1, ob_s, nI_1]
    rcases k2 with ⟨rfl, c⟩ | ⟨rfl, c⟩
    · rw [if_neg n10]
      exact ⟨_, rfl, Or.inl ⟨w, Nat.le_refl _, hw, rfl, c, fun u' a q => absurd q (by omega)⟩⟩
    · rw [if_pos (show (0 : Int32) = 0 from rfl)]
      obtain ⟨z, g1, g2⟩ := tw49 hfu hse he h5 hb d (w + 1) nf (by omega) (by omega)
      exact ⟨z, g1, fstW_s c g2⟩
  | 0, _, 0, _, h => absurd h (by omega)
  | d + 1, _, 0, _, h => absurd h (by omega)
theorem w15 {w : Nat} {b1 : Int32} {k : Me → Int32 → Option (Me × Int32)} (hw : w < 7) (hse : s ≤ e) (he : e ≤ 600) (h10 : m 10 0 = nI s) (h9 : m 9 0 = nI e) (hb : ∀ j, s ≤ j → j < e → b j < 128 ∧ m 1 j = nI (b j)) : ∀ (d i nf : Nat), i + d = lnN w → d < nf → s + i ≤ e → (∀ j, j < i → b (s + j) = chN w j) →
    ∃ i0, i0 ≤ lnN w ∧ s + i0 ≤ e ∧ f_X11_wordOf_15 fu b1 (nI (ofN w)) k nf m (nI i) = k m (nI i0) ∧ ((i0 = lnN w ∧ s + i0 = e) ↔ mtW b s e w)
  | 0, i, nf + 1, h, _, hi, ha => by
    have h36 := (ch_e hw).2.2.2.2.2
    have hil : i = lnN w := h
    refine ⟨i, by omega, hi, ?_, ⟨fun c => ⟨by omega, fun j hj => ha j (by omega)⟩, fun c => ⟨hil, by have := c.1; omega⟩⟩⟩
    rw [f_X11_wordOf_15_s, nI_add, hil, if_pos (inb_nI (show ofN w + lnN w < lenS.getD 7 0 from h36) (by decide)), if_pos (ch_e hw).1]
  | d + 1, i, nf + 1, h, hn, hi, ha => by
    have h36 := (ch_e hw).2.2.2.2.2
    have hil : i < lnN w := by omega
    obtain ⟨c1, c2, c3, c4⟩ := ch_f hw hil
    have hin : inb (nI (ofN w + i)) (lenS.getD 7 0) = true := inb_nI (show ofN w + i < 36 by omega) (by decide)
    rw [f_X11_wordOf_15_s, nI_add, if_pos hin, if_pos hin, c2, if_neg (show ¬ nI (chN w i) = 32 from fun z => by have := (nI_eq (b := 32) (by omega) (by decide)).mp z; omega), h9, h10, nI_add, nI_1]
    by_cases q : e ≤ s + i
    · refine ⟨i, by omega, hi, ?_, ⟨fun c => absurd c.1 (by omega), fun c => absurd c.1 (by omega)⟩⟩
      rw [if_pos (nI_le q (by omega))]
    · obtain ⟨b1, b2⟩ := hb (s + i) (by omega) (by omega)
      rw [if_neg (nI_ge (by omega) (by omega)), if_pos (inb_nI (by omega) (by decide)), nI_clamp (by omega), b2]
      by_cases q2 : b (s + i) = chN w i
      · rw [if_pos (by rw [q2])]
        exact w15 hw hse he h10 h9 hb d (i + 1) nf (by omega) (by omega) (by omega) (fun j hj => by
          by_cases z : j = i
          · rw [z]; exact q2
          · exact ha j (by omega))
      · refine ⟨i, by omega, hi, ?_, ⟨fun c => absurd c.1 (by omega), fun c => absurd (c.2 i hil) q2⟩⟩
        rw [if_neg (fun z => q2 ((nI_eq (by omega) (by omega)).mp z))]
  | 0, _, 0, _, h, _, _ => absurd h (by omega)
  | d + 1, _, 0, _, h, _, _ => absurd h (by omega)
theorem w97 {w : Nat} {b1 : Int32} {k : Me → Int32 → Option (Me × Int32)} (hw : w < 7) : ∀ (d i nf : Nat), i + d = lnN w → d < nf → f_X11_wordOf_97 fu b1 k nf m (nI (ofN w + i)) = k m (nI (ofN w + lnN w))
  | 0, i, nf + 1, h, _ => by
    have h36 := (ch_e hw).2.2.2.2.2
    have hil : i = lnN w := h
    rw [f_X11_wordOf_97_s, hil, if_pos (inb_nI (show ofN w + lnN w < lenS.getD 7 0 from h36) (by decide)), if_pos (ch_e hw).1]
  | d + 1, i, nf + 1, h, hn => by
    have h36 := (ch_e hw).2.2.2.2.2
    have hil : i < lnN w := by omega
    obtain ⟨c1, c2, c3, c4⟩ := ch_f hw hil
    rw [f_X11_wordOf_97_s, if_pos (inb_nI (show ofN w + i < lenS.getD 7 0 from by show ofN w + i < 36; omega) (by decide)), c2, if_neg (show ¬ nI (chN w i) = 32 from fun z => by have := (nI_eq (b := 32) (by omega) (by decide)).mp z; omega), nI_1]
    exact w97 hw d (i + 1) nf (by omega) (by omega)
  | 0, _, 0, _, h => absurd h (by omega)
  | d + 1, _, 0, _, h => absurd h (by omega)
theorem w4 (hfu : 70000 ≤ fu) (hse : s ≤ e) (he : e ≤ 600) (h10 : m 10 0 = nI s) (h9 : m 9 0 = nI e) (hb : ∀ j, s ≤ j → j < e → b j < 128 ∧ m 1 j = nI (b j)) : ∀ (d w nf : Nat), w + d = 7 → d < nf → ∃ z, f_X11_wordOf_4 fu (fun (x_18 : Me) => some (x_18, (-1))) nf m (nI w) (nI (ofN w)) = some (m, z) ∧ fstW b s e w z
  | 0, w, nf + 1, h, _ => by
    have hw : w = 7 := h
    refine ⟨-1, ?_, Or.inr ⟨rfl, fun u a c => absurd c (by omega)⟩⟩
    rw [f_X11_wordOf_4_s, sl_7, hw, if_pos (show nI 36 ≤ nI (ofN 7) from nI_le (Nat.le_refl _) (by decide))]
  | d + 1, w, nf + 1, h, hn => by
    have hw : w < 7 := by omega
    have he6 := ch_e hw
    have h36 := he6.2.2.2.2.2
    obtain ⟨z, g1, g2⟩ := w4 hfu hse he h10 h9 hb d (w + 1) nf (by omega) (by omega)
    have c0 := ch_f hw (show 0 < lnN w by omega)
    have hskip : ∀ a1 : Int32, f_X11_wordOf_97 fu a1 (fun (x_13 : Me) (a2_13 : Int32) => f_X11_wordOf_4 fu (fun (x_18 : Me) => some (x_18, (-1))) nf x_13 (nI (w + 1)) (a2_13 + 1)) fu m (nI (ofN w + 1)) = some (m, z) := by
      intro a1
      have := w97 (fu := fu) (m := m) (b1 := a1) (k := (fun (x_13 : Me) (a2_13 : Int32) => f_X11_wordOf_4 fu (fun (x_18 : Me) => some (x_18, (-1))) nf x_13 (nI (w + 1)) (a2_13 + 1))) hw (lnN w - 1) 1 fu (by omega) (by omega)
      rw [this, nI_1, ← he6.2.1]
      exact g1
    rw [f_X11_wordOf_4_s, sl_7, if_neg (nI_ge (by omega) (by decide))]
    obtain ⟨i0, i1, i2, i3, i4⟩ := w15 (fu := fu) (m := m) (b := b) (b1 := nI w) (k := (fun (x_7 : Me) (a3_7 : Int32) => if inb (nI (ofN w) + a3_7) (lenS.getD 7 0) = true then jn (fun (x_9 : Me) => if inb (nI (ofN w)) (lenS.getD 7 0) = true then if (sCh 7 (nI (ofN w))) = 32 then f_X11_wordOf_4 fu (fun (x_18 : Me) => some (x_18, (-1))) nf x_9 (nI w + 1) (nI (ofN w) + 1) else f_X11_wordOf_97 fu (nI w) (fun (x_13 : Me) (a2_13 : Int32) => f_X11_wordOf_4 fu (fun (x_18 : Me) => some (x_18, (-1))) nf x_13 (nI w + 1) (a2_13 + 1)) fu x_9 (nI (ofN w) + 1) else none) (fun j_9 => if (sCh 7 (nI (ofN w) + a3_7)) = 32 then if ((x_7 10 0) + a3_7) = (x_7 9 0) then some (x_7, nI w) else j_9 x_7 else j_9 x_7) else none)) hw hse he h10 h9 hb (lnN w) 0 fu (by omega) (by omega) (by omega) (fun j hj => absurd hj (by omega))
    rw [show (0 : Int32) = nI 0 from rfl]
    rw [i3]
    simp only [jn]
    rw [nI_add, if_pos (show inb (nI (ofN w + i0)) (lenS.getD 7 0) = true from inb_nI (show ofN w + i0 < 36 by omega) (by decide)), if_pos (show inb (nI (ofN w)) (lenS.getD 7 0) = true from inb_nI (show ofN w < 36 by omega) (by decide)), h10, h9, nI_add, nI_1, nI_1]
    have c0' : ¬ sCh 7 (nI (ofN w)) = 32 := by
      rw [show sCh 7 (nI (ofN w)) = nI (chN w 0) from c0.2.1]
      exact fun z => by have := (nI_eq (b := 32) (by omega) (by decide)).mp z; omega
    rw [if_neg c0', hskip]
    by_cases q : mtW b s e w
    · obtain ⟨q1, q2⟩ := i4.mpr q
      rw [q1, if_pos he6.1, if_pos (show nI (s + lnN w) = nI e by rw [← q1, q2])]
      exact ⟨_, rfl, Or.inl ⟨w, Nat.le_refl _, hw, rfl, q, fun u' a c => absurd c (by omega)⟩⟩
    · refine ⟨z, ?_, fstW_s q g2⟩
      by_cases q1 : i0 = lnN w
      · rw [q1, if_pos he6.1, if_neg (fun c => q (i4.mp ⟨q1, by rw [q1]; exact (nI_eq (by omega) (by omega)).mp c⟩))]
      · rw [(ch_f hw (show i0 < lnN w by omega)).2.1, if_neg (fun c => by
          have := (nI_eq (b := 32) (by have := (ch_f hw (show i0 < lnN w by omega)).2.2.2; omega) (by decide)).mp c
          have := (ch_f hw (show i0 < lnN w by omega)).2.2.1
          omega)]
  | 0, _, 0, _, h => absurd h (by omega)
  | d + 1, _, 0, _, h => absurd h (by omega)
end PUR16
