/-- the places at the rope, alike on both sides -/
def PL (nw r : Nat) (x m : Me) : Prop := (∀ p, p < r → ∃ w, w < nw ∧ x 22 p = nI w ∧ m 32 p = nI w ∧ m 23 w = 1) ∧ (∀ p q, p < r → q < r → m 32 p = m 32 q → p = q) ∧ ∀ j, j < nw → m 23 j = 1 → ∃ p, p < r ∧ m 32 p = nI j
def SN (nw r : Nat) (x m : Me) : Prop := ∀ p, p < r → (x 23 p = -1 ∧ m 33 p = m 32 p) ∨ ∃ w, w < nw ∧ x 23 p = nI w ∧ m 33 p = nI w
/-- where the ward at a place stood before another was sent to the end -/
def sg (r p0 q : Nat) : Nat := if q = r - 1 then p0 else if p0 ≤ q then q + 1 else q
section PUR13
variable {fu nw r : Nat} {x m : Me}
theorem nI_n1 {w : Nat} (h : w < 2 ^ 31) : ¬ nI w = -1 := fun q => nI_pos h (by rw [q]; decide)
theorem ho_sp {p : Nat} (hr : r ≤ 10) (hn : nw ≤ 17) (hS : SN nw r x m) (hL : PL nw r x m) (hp : p < r) : f_X3_hasOther fu nw x (nI p) = some (x, if m 33 p = m 32 p then 0 else 1) := by
  unfold f_X3_hasOther
  rw [if_pos (inb_nI (by omega) (by decide)), nI_clamp (by omega)]
  obtain ⟨w, w1, w2, w3, _⟩ := hL.1 p hp
  rcases hS p hp with ⟨q1, q2⟩ | ⟨v, v1, v2, v3⟩
  · rw [if_pos q1, if_pos q2]
  · rw [v2, if_neg (nI_n1 (by omega)), w2, v3, w3]
    by_cases e : nI v = nI w
    · rw [if_pos e, if_pos e]
    · rw [if_neg e, if_neg e]
theorem co_sp {b1 : Int32} {k k' : Me → Int32 → Option (Me × Int32)} (hr : r ≤ 10) (hn : nw ≤ 17) (e1 : x 20 0 = nI r) (e2 : m 30 0 = nI r) (hS : SN nw r x m) (hL : PL nw r x m) : ∀ (d i n1 n2 c : Nat), i + d = r → d < n1 → d < n2 → ∃ c', c' ≤ c + d ∧ f_X3_countOthers_4 fu nw k n1 x (nI c) (nI i) = k x (nI c') ∧ f_X11_drop_20 fu b1 k' n2 m (nI c) (nI i) = k' m (nI c')
  | 0, i, n1 + 1, n2 + 1, c, h, _, _ => by
    refine ⟨c, Nat.le_refl _, ?_, ?_⟩
    · rw [f_X3_countOthers_4_s, e1, if_pos (nI_le (by omega) (by omega))]
    · rw [f_X11_drop_20_s, e2, if_pos (nI_le (by omega) (by omega))]
  | d + 1, i, n1 + 1, n2 + 1, c, h, g1, g2 => by
    rw [f_X3_countOthers_4_s, f_X11_drop_20_s, e1, e2, if_neg (nI_ge (by omega) (by omega)), if_neg (nI_ge (by omega) (by omega)), ho_sp hr hn hS hL (by omega), ob_s, if_pos (inb_nI (by omega) (by decide)), nI_clamp (by omega), Int32.add_zero, nI_1, nI_1]
    by_cases e : m 33 i = m 32 i
    · rw [if_pos e, if_pos e, if_pos (show (0 : Int32) = 0 from rfl)]
      obtain ⟨c', h1, h2⟩ := co_sp (b1 := b1) (k := k) (k' := k') hr hn e1 e2 hS hL d (i + 1) n1 n2 c (by omega) (by omega) (by omega)
      exact ⟨c', by omega, h2⟩
    · rw [if_neg e, if_neg e, if_neg n10]
      obtain ⟨c', h1, h2⟩ := co_sp (b1 := b1) (k := k) (k' := k') hr hn e1 e2 hS hL d (i + 1) n1 n2 (c + 1) (by omega) (by omega) (by omega)
      exact ⟨c', by omega, h2⟩
  | 0, _, 0, _, _, _, h, _ => absurd h (by omega)
  | 0, _, n + 1, 0, _, _, _, h => absurd h (by omega)
  | d + 1, _, 0, _, _, _, h, _ => absurd h (by omega)
  | d + 1, _, n + 1, 0, _, _, _, h => absurd h (by omega)
theorem af_sp {b1 : Int32} {k : Me → Option (Me × Unit)} {k' : Me → Option (Me × Unit)} (hr : r ≤ 10) (hn : nw ≤ 17) : ∀ (d i n1 n2 : Nat) (x m : Me), i + d = r → d < n1 → d < n2 → x 13 0 = nI nw → x 20 0 = nI r → m 30 0 = nI r → SN nw r x m → PL nw r x m → (∀ w, w < nw → x 54 w = m 20 w) →
    ∃ x' m', f_X3_addFalseStarts_2 fu nw k n1 x (nI i) = k x' ∧ f_X11_isFalse_13 fu b1 k' n2 m (nI i) = k' m' ∧ (∀ f, inL [54] f = false → x' f = x f) ∧ (∀ f, inL [20] f = false → m' f = m f) ∧ (∀ w, w < nw → x' 54 w = m' 20 w) ∧ ∀ w, nw ≤ w → m' 20 w = m 20 w
  | 0, i, n1 + 1, n2 + 1, x, m, h, _, _, e0, e1, e2, hS, hL, hF => by
    refine ⟨x, m, ?_, ?_, fun _ _ => rfl, fun _ _ => rfl, hF, fun _ _ => rfl⟩
    · rw [f_X3_addFalseStarts_2_s, e1, if_pos (nI_le (by omega) (by omega))]
    · rw [f_X11_isFalse_13_s, e2, if_pos (nI_le (by omega) (by omega))]
  | d + 1, i, n1 + 1, n2 + 1, x, m, h, g1, g2, e0, e1, e2, hS, hL, hF => by
    obtain ⟨w, w1, w2, w3, _⟩ := hL.1 i (by omega)
    rw [f_X3_addFalseStarts_2_s, f_X11_isFalse_13_s, e1, e2, if_neg (nI_ge (by omega) (by omega)), if_neg (nI_ge (by omega) (by omega)), if_pos (inb_nI (by omega) (by decide)), if_pos (inb_nI (by omega) (by decide)), nI_clamp (by omega), w2, find_yes e0 w1 hn, ob_s, om_1, if_pos w1, ho_sp hr hn hS hL (by omega), ob_s, nI_1]
    by_cases e : m 33 i = m 32 i
    · rw [if_pos e, if_pos e, if_pos (show (0 : Int32) = 0 from rfl)]
      exact af_sp hr hn d (i + 1) n1 n2 x m (by omega) (by omega) (by omega) e0 e1 e2 hS hL hF
    · rw [if_neg e, if_neg e, if_neg n10, w3, if_pos (inb_nI (by omega) (by decide)), nI_clamp (by omega)]
      obtain ⟨x', m', k1, k2, k3, k4, k5, k6⟩ := af_sp (b1 := b1) (k := k) (k' := k') hr hn d (i + 1) n1 n2 (mu x 54 w (x 54 w + 1)) (mu m 20 w (m 20 w + 1)) (by omega) (by omega) (by omega) e0 e1 e2 hS hL (fun v hv => by
        by_cases q : v = w
        · rw [q, mu_same, mu_same, hF w w1]
        · rw [mu_ne _ _ _ _ _ q, mu_ne _ _ _ _ _ q]; exact hF v hv)
      refine ⟨x', m', k1, k2, fun f hf => (k3 f hf).trans (mu_fr _ _ _ hf rfl), fun f hf => (k4 f hf).trans (mu_fr _ _ _ hf rfl), k5, fun v hv => (k6 v hv).trans (mu_ne _ _ _ _ _ (by omega))⟩
  | 0, _, 0, _, _, _, _, h, _, _, _, _, _, _, _ => absurd h (by omega)
  | 0, _, n + 1, 0, _, _, _, _, h, _, _, _, _, _, _ => absurd h (by omega)
  | d + 1, _, 0, _, _, _, _, h, _, _, _, _, _, _, _ => absurd h (by omega)
  | d + 1, _, n + 1, 0, _, _, _, _, h, _, _, _, _, _, _ => absurd h (by omega)
theorem cg16 {g : Nat → Int32} {c : Nat} {k : Me → Option (Me × Unit)} (hr : r ≤ 10) (hx : x 20 0 = nI r) : ∀ (d i n : Nat), i + d + 1 = r → d < n → c ≤ i → f_X3_closeGap_16_2 fu nw k n (ms x 22 (gp g c i)) (nI i) = k (ms x 22 (gp g c (r - 1)))
  | 0, i, n + 1, h, _, hc => by
    rw [f_X3_closeGap_16_2_s, nI_1, show (ms x 22 (gp g c i)) 20 0 = nI r from hx, if_pos (nI_le (by omega) (by omega)), show i = r - 1 by omega]
  | d + 1, i, n + 1, h, hn, hc => by
    rw [f_X3_closeGap_16_2_s, nI_1, show (ms x 22 (gp g c i)) 20 0 = nI r from hx, if_neg (nI_ge (by omega) (by omega)), if_neg (show ¬ (10 : Int32) ≤ nI (i + 1) from nI_ge (b := 10) (by omega) (by decide)), if_pos (inb_nI (by omega) (by decide)), if_pos (inb_nI (by omega) (by decide)), nI_clamp (by omega), nI_clamp (by omega), show (ms x 22 (gp g c i)) 22 (i + 1) = g (i + 1) from gp_at g c i, gp_s _ _ _ _ _ hc]
    exact cg16 hr hx d (i + 1) n (by omega) (by omega) (by omega)
  | 0, _, 0, _, h, _ => absurd h (by omega)
  | d + 1, _, 0, _, h, _ => absurd h (by omega)
theorem mt_sp (hfu : 70000 ≤ fu) {p0 : Nat} {b1 : Int32} {k : Me → Option (Me × Unit)} (hr : r ≤ 10) (hx : x 20 0 = nI r) (hp : p0 < r) (h1 : x 22 p0 = b1) (h2 : ∀ p, p < p0 → ¬ x 22 p = b1) : ∀ (d i n : Nat), i + d = p0 → d < n → f_X3_moveToEnd_2 fu nw b1 k n x (nI i) = some (mu (ms x 22 (gp (x 22) p0 (r - 1))) 22 (r - 1) b1, ())
  | 0, i, n + 1, h, _ => by
    have hi : i = p0 := h
    have := cg16 (fu := fu) (nw := nw) (g := x 22) (c := p0) (k := fun (x_5 : Me) => some (x_5, ())) hr hx (r - 1 - p0) p0 fu (by omega) (by omega) (Nat.le_refl _)
    rw [gp_0] at this
    rw [f_X3_moveToEnd_2_s, hx, hi, if_neg (nI_ge (by omega) (by omega)), if_pos (inb_nI (by omega) (by decide)), nI_clamp (by omega), if_pos h1]
    unfold f_X3_closeGap_16
    rw [this, ob_s, show ms x 22 (gp (x 22) p0 (r - 1)) 20 0 = nI r from hx, show nI r - 1 = nI (r - 1) from pk_sub (b := 1) (by omega), if_pos (inb_nI (by omega) (by decide)), nI_clamp (by omega)]
  | d + 1, i, n + 1, h, hn => by
    rw [f_X3_moveToEnd_2_s, hx, if_neg (nI_ge (by omega) (by omega)), if_pos (inb_nI (by omega) (by decide)), nI_clamp (by omega), if_neg (h2 i (by omega)), nI_1]
    exact mt_sp hfu hr hx hp h1 h2 d (i + 1) n (by omega) (by omega)
  | 0, _, 0, _, h => absurd h (by omega)
  | d + 1, _, 0, _, h => absurd h (by omega)
theorem c105b {p0 : Nat} {b1 b2 : Int32} {k : Me → Int32 → Option (Me × Unit)} (hr : r ≤ 10) (hm : m 30 0 = nI r) (h2 : ∀ p, p < r → p ≠ p0 → ¬ m 32 p = b2) : ∀ (d i n : Nat), i + d = r → d < n → p0 + 1 ≤ i → f_X11_isFalse_105 fu b1 b2 k n (ms m 32 (gp (m 32) p0 (i - 1))) (nI (i - 1)) (nI i) = k (ms m 32 (gp (m 32) p0 (r - 1))) (nI (r - 1))
  | 0, i, n + 1, h, _, hc => by
    rw [f_X11_isFalse_105_s, show ms m 32 (gp (m 32) p0 (i - 1)) 30 0 = nI r from hm, if_pos (nI_le (by omega) (by omega)), show i = r by omega]
  | d + 1, i, n + 1, h, hn, hc => by
    have hg : ms m 32 (gp (m 32) p0 (i - 1)) 32 i = m 32 i := if_neg (show ¬ (p0 ≤ i ∧ i < i - 1) by omega)
    have hs := gp_s m (m 32) 32 p0 (i - 1) (by omega)
    rw [show i - 1 + 1 = i by omega] at hs
    rw [f_X11_isFalse_105_s, show ms m 32 (gp (m 32) p0 (i - 1)) 30 0 = nI r from hm, if_neg (nI_ge (by omega) (by omega)), if_pos (inb_nI (by omega) (by decide)), nI_clamp (by omega), hg, if_neg (h2 i (by omega) (by omega)), if_pos (inb_nI (by omega) (by decide)), nI_clamp (by omega), hs, nI_1, nI_1, show i - 1 + 1 = i by omega]
    exact c105b hr hm h2 d (i + 1) n (by omega) (by omega) (by omega)
  | 0, _, 0, _, h, _ => absurd h (by omega)
  | d + 1, _, 0, _, h, _ => absurd h (by omega)
theorem c105a {p0 : Nat} {b1 b2 : Int32} {k : Me → Int32 → Option (Me × Unit)} (hr : r ≤ 10) (hm : m 30 0 = nI r) (hp : p0 < r) (h1 : m 32 p0 = b2) (h2 : ∀ p, p < r → p ≠ p0 → ¬ m 32 p = b2) : ∀ (d i n : Nat), i + d = p0 → r + 1 ≤ i + n → f_X11_isFalse_105 fu b1 b2 k n m (nI i) (nI i) = k (ms m 32 (gp (m 32) p0 (r - 1))) (nI (r - 1))
  | 0, i, n + 1, h, hn => by
    have hi : i = p0 := h
    have := c105b (fu := fu) (b1 := b1) (k := k) hr hm h2 (r - (p0 + 1)) (p0 + 1) n (by omega) (by omega) (by omega)
    rw [show p0 + 1 - 1 = p0 by omega, gp_0] at this
    rw [f_X11_isFalse_105_s, hm, hi, if_neg (nI_ge (by omega) (by omega)), if_pos (inb_nI (by omega) (by decide)), nI_clamp (by omega), if_pos h1, nI_1]
    exact this
  | d + 1, i, n + 1, h, hn => by
    rw [f_X11_isFalse_105_s, hm, if_neg (nI_ge (by omega) (by omega)), if_pos (inb_nI (by omega) (by decide)), nI_clamp (by omega), if_neg (h2 i (by omega) (by omega)), if_pos (inb_nI (by omega) (by decide)), mu_id (show m 32 i = m 32 i from rfl), nI_1]
    exact c105a hr hm hp h1 h2 d (i + 1) n (by omega) (by omega)
  | 0, _, 0, _, h => absurd h (by omega)
  | d + 1, _, 0, _, h => absurd h (by omega)
theorem gp_sg {g : Nat → Int32} {p0 q : Nat} {v : Int32} (hp : p0 < r) (hv : g p0 = v) (hq : q < r) : (if q = r - 1 then v else gp g p0 (r - 1) q) = g (sg r p0 q) := by
  unfold sg gp
  by_cases h1 : q = r - 1
  · rw [if_pos h1, if_pos h1, hv]
  · rw [if_neg h1, if_neg h1]
    by_cases h2 : p0 ≤ q
    · rw [if_pos h2, if_pos (by omega)]
    · rw [if_neg h2, if_neg (by omega)]
theorem sg_lt {p0 q : Nat} (hp : p0 < r) (hq : q < r) : sg r p0 q < r := by
  unfold sg
  split
  · exact hp
  · split <;> omega
theorem sg_inj {p0 p q : Nat} (hp0 : p0 < r) (hp : p < r) (hq : q < r) (h : sg r p0 p = sg r p0 q) : p = q := by
  have key : ∀ t, t < r → (t = r - 1 ∧ sg r p0 t = p0) ∨ (t ≠ r - 1 ∧ p0 ≤ t ∧ sg r p0 t = t + 1) ∨ (t ≠ r - 1 ∧ t < p0 ∧ sg r p0 t = t) := by
    intro t ht
    unfold sg
    by_cases h1 : t = r - 1
    · exact Or.inl ⟨h1, if_pos h1⟩
    · rw [if_neg h1]
      by_cases h2 : p0 ≤ t
      · exact Or.inr (Or.inl ⟨h1, h2, if_pos h2⟩)
      · exact Or.inr (Or.inr ⟨h1, by omega, if_neg h2⟩)
  rcases key p hp with a | a | a <;> rcases key q hq with b | b | b <;> omega
theorem PL_sg {p0 : Nat} {x' m' : Me} (hp : p0 < r) (hL : PL nw r x m) (hx : ∀ q, q < r → x' 22 q = x 22 (sg r p0 q)) (hm : ∀ q, q < r → m' 32 q = m 32 (sg r p0 q)) (h23 : m' 23 = m 23) : PL nw r x' m' := by
  obtain ⟨h1, h2, h3⟩ := hL
  refine ⟨fun p hpr => ?_, fun p q hp' hq he => ?_, fun j hj hj1 => ?_⟩
  · obtain ⟨w, w1, w2, w3, w4⟩ := h1 (sg r p0 p) (sg_lt hp hpr)
    exact ⟨w, w1, by rw [hx p hpr]; exact w2, by rw [hm p hpr]; exact w3, by rw [h23]; exact w4⟩
  · rw [hm p hp', hm q hq] at he
    exact sg_inj hp hp' hq (h2 _ _ (sg_lt hp hp') (sg_lt hp hq) he)
  · rw [h23] at hj1
    obtain ⟨p, p1, p2⟩ := h3 j hj hj1
    rcases Nat.lt_trichotomy p p0 with q | q | q
    · refine ⟨p, p1, ?_⟩
      rw [hm p p1, show sg r p0 p = p by unfold sg; rw [if_neg (by omega), if_neg (by omega)]]; exact p2
    · refine ⟨r - 1, by omega, ?_⟩
      rw [hm _ (by omega), show sg r p0 (r - 1) = p0 from if_pos rfl, ← q]; exact p2
    · refine ⟨p - 1, by omega, ?_⟩
      rw [hm _ (by omega), show sg r p0 (p - 1) = p by unfold sg; rw [if_neg (by omega), if_pos (by omega)]; omega]; exact p2
theorem sb_sp (hfu : 70000 ≤ fu) {v : Int32} {k : Me → Option (Me × Unit)} {k' : Me → Option (Me × Unit)} (hr : r ≤ 10) (hn : nw ≤ 17) : ∀ (d j i n1 n2 : Nat) (x m : Me), j + d = nw → d < n2 → r - i < n1 → x 13 0 = nI nw → m 17 0 = nI nw → x 20 0 = nI r → m 30 0 = nI r → (∀ j, j < nw → m 23 j = 0 ∨ m 23 j = 1) → PL nw r x m → (∀ w, w < nw → x 54 w = m 20 w) →
    i + ((List.range' j d).filter (fun j => decide (m 23 j = 1))).length = r → (∀ t w, ((List.range' j d).filter (fun j => decide (m 23 j = 1)))[t]? = some w → x 21 (i + t) = nI w) →
    ∃ x' m', f_X3_sendBack_2 fu nw v k n1 x (nI i) = k x' ∧ f_X11_isFalse_59 fu v k' n2 m (nI j) = k' m' ∧ (∀ f, inL [22, 54] f = false → x' f = x f) ∧ (∀ f, inL [20, 32] f = false → m' f = m f) ∧ (∀ w, w < nw → x' 54 w = m' 20 w) ∧ (∀ w, nw ≤ w → m' 20 w = m 20 w) ∧ PL nw r x' m'
  | 0, j, i, n1 + 1, n2 + 1, x, m, hj, g2, g1, e0, e4, e1, e2, h01, hL, hF, c1, c2 => by
    have hi : i = r := c1
    refine ⟨x, m, ?_, ?_, fun _ _ => rfl, fun _ _ => rfl, hF, fun _ _ => rfl, hL⟩
    · rw [f_X3_sendBack_2_s, e1, if_pos (nI_le (by omega) (by omega))]
    · rw [f_X11_isFalse_59_s, e4, if_pos (nI_le (by omega) (by omega))]
  | d + 1, j, i, n1 + 1, n2 + 1, x, m, hj, g2, g1, e0, e4, e1, e2, h01, hL, hF, c1, c2 => by
    rw [List.range'_succ] at c1 c2
    have hjn : j < nw := by omega
    by_cases hv : v ≤ 0
    · refine ⟨x, m, ?_, ?_, fun _ _ => rfl, fun _ _ => rfl, hF, fun _ _ => rfl, hL⟩
      · rw [f_X3_sendBack_2_s, if_pos hv]; split <;> rfl
      · rw [f_X11_isFalse_59_s, if_pos hv]; split <;> rfl
    rcases h01 j hjn with z | z
    · rw [List.filter_cons_of_neg (by simp [z])] at c1 c2
      obtain ⟨x', m', k1, k2, k3⟩ := sb_sp hfu (v := v) (k := k) (k' := k') hr hn d (j + 1) i (n1 + 1) n2 x m (by omega) (by omega) g1 e0 e4 e1 e2 h01 hL hF c1 c2
      refine ⟨x', m', k1, ?_, k3⟩
      rw [f_X11_isFalse_59_s, e4, if_neg (nI_ge (by omega) (by omega)), if_neg hv, if_pos (inb_nI (by omega) (by decide)), nI_clamp (by omega), if_pos z, nI_1, k2]
    · have zn : ¬ m 23 j = 0 := by rw [z]; decide
      rw [List.filter_cons_of_pos (by simp [z])] at c1 c2
      rw [List.length_cons] at c1
      have hir : i < r := by omega
      have hrun0 : x 21 i = nI j := c2 0 j rfl
      have c2' : ∀ t w, ((List.range' (j + 1) d).filter (fun j => decide (m 23 j = 1)))[t]? = some w → x 21 (i + 1 + t) = nI w := fun t w ht => by
        rw [show i + 1 + t = i + (t + 1) by omega]
        exact c2 (t + 1) w (by rw [List.getElem?_cons_succ]; exact ht)
      rw [f_X3_sendBack_2_s, f_X11_isFalse_59_s, e1, e4, if_neg (nI_ge (by omega) (by omega)), if_neg (nI_ge (by omega) (by omega)), if_neg hv, if_neg hv, if_pos (inb_nI (by omega) (by decide)), if_pos (inb_nI (by omega) (by decide)), nI_clamp (by omega), nI_clamp (by omega), hrun0, find_yes e0 hjn hn, ob_s, om_1, if_pos hjn, if_neg zn, hrun0, hF j hjn, nI_1, nI_1]
      by_cases c : v ≤ m 20 j
      · rw [if_neg (Int32.not_lt.mpr c), if_pos c]
        obtain ⟨p0, hp0, hp1⟩ := hL.2.2 j hjn z
        have hx0 : x 22 p0 = nI j := by
          obtain ⟨w, _, w2, w3, _⟩ := hL.1 p0 hp0
          rw [w2, ← w3, hp1]
        have hxm : ∀ p, p < r → x 22 p = m 32 p := fun p hp => by
          obtain ⟨w, _, w2, w3, _⟩ := hL.1 p hp
          rw [w2, w3]
        have hne : ∀ p, p < r → p ≠ p0 → ¬ m 32 p = nI j := fun p hp hq he => hq (hL.2.1 p p0 hp hp0 (he.trans hp1.symm))
        unfold f_X3_moveToEnd
        rw [show f_X3_moveToEnd_2 fu nw (nI j) (fun (x_6 : Me) => some (x_6, ())) fu x 0 = _ from mt_sp (fu := fu) (nw := nw) hfu hr e1 hp0 hx0 (fun p hp => by rw [hxm p (by omega)]; exact hne p (by omega) (by omega)) p0 0 fu (by omega) (by omega), ob_s]
        rw [show ∀ K : Me → Int32 → Option (Me × Unit), f_X11_isFalse_105 fu v (nI j) K fu (mu m 20 j 0) 0 0 = K (ms (mu m 20 j 0) 32 (gp (m 32) p0 (r - 1))) (nI (r - 1)) from fun K => c105a (fu := fu) (m := mu m 20 j 0) (b1 := v) (k := K) hr e2 hp0 hp1 hne p0 0 fu (by omega) (by omega)]
        rw [if_pos (inb_nI (by omega) (by decide)), nI_clamp (by omega)]
        obtain ⟨x', m', k1, k2, k3, k4, k5, k6, k7⟩ := sb_sp hfu (v := v) (k := k) (k' := k') hr hn d (j + 1) (i + 1) n1 n2 (mu (mu (ms x 22 (gp (x 22) p0 (r - 1))) 22 (r - 1) (nI j)) 54 j 0) (mu (ms (mu m 20 j 0) 32 (gp (m 32) p0 (r - 1))) 32 (r - 1) (nI j)) (by omega) (by omega) (by omega) e0 e4 e1 e2 h01
          (PL_sg (x := x) (m := m) hp0 hL (fun q hq => gp_sg hp0 hx0 hq) (fun q hq => gp_sg hp0 hp1 hq) rfl)
          (fun w hw => by
            show (if w = j then 0 else x 54 w) = (if w = j then 0 else m 20 w)
            by_cases q : w = j
            · rw [if_pos q, if_pos q]
            · rw [if_neg q, if_neg q]; exact hF w hw)
          (by show i + 1 + ((List.range' (j + 1) d).filter (fun j => decide (m 23 j = 1))).length = r; omega) c2'
        refine ⟨x', m', k1, k2, fun f hf => ?_, fun f hf => ?_, k5, fun w hw => ?_, k7⟩
        · rw [k3 f hf, mu_fr _ _ _ hf rfl, mu_fr _ _ _ hf rfl, ms_fr _ _ hf rfl]
        · rw [k4 f hf, mu_fr _ _ _ hf rfl, ms_fr _ _ hf rfl, mu_fr _ _ _ hf rfl]
        · rw [k6 w hw]
          exact if_neg (show ¬ w = j by omega)
      · rw [if_pos (Int32.not_le.mp c), if_neg c]
        exact sb_sp hfu hr hn d (j + 1) (i + 1) n1 n2 x m (by omega) (by omega) (by omega) e0 e4 e1 e2 h01 hL hF (by omega) c2'
  | 0, _, _, 0, _, _, _, _, _, h, _, _, _, _, _, _, _, _, _ => absurd h (by omega)
  | 0, _, _, n + 1, 0, _, _, _, h, _, _, _, _, _, _, _, _, _, _ => absurd h (by omega)
  | d + 1, _, _, 0, _, _, _, _, _, h, _, _, _, _, _, _, _, _, _ => absurd h (by omega)
  | d + 1, _, _, n + 1, 0, _, _, _, h, _, _, _, _, _, _, _, _, _, _ => absurd h (by omega)
theorem c165 {k : Me → Option (Me × Unit)} (hr : r ≤ 10) : ∀ (d i n : Nat) (m : Me), m 30 0 = nI r → i + d = r → d < n → ∃ m', f_X11_isFalse_165 fu k n m (nI i) = k m' ∧ (∀ f, inL [33] f = false → m' f = m f) ∧ (∀ j, j < i → m' 33 j = m 33 j) ∧ ∀ j, i ≤ j → j < r → m' 33 j = m 32 j
  | 0, i, n + 1, m, hm, h, _ => ⟨m, by rw [f_X11_isFalse_165_s, hm, if_pos (nI_le (by omega) (by omega))], fun _ _ => rfl, fun _ _ => rfl, fun j h1 h2 => absurd h2 (by omega)⟩
  | d + 1, i, n + 1, m, hm, h, hn => by
    obtain ⟨m', k1, k2, k3, k4⟩ := c165 (k := k) hr d (i + 1) n (mu m 33 i (m 32 i)) hm (by omega) (by omega)
    refine ⟨m', ?_, fun f hf => (k2 f hf).trans (mu_fr _ _ _ hf rfl), fun j hj => (k3 j (by omega)).trans (mu_ne _ _ _ _ _ (by omega)), fun j h1 h2 => ?_⟩
    · rw [f_X11_isFalse_165_s, hm, if_neg (nI_ge (by omega) (by omega)), if_pos (inb_nI (by omega) (by decide)), nI_clamp (by omega), nI_1, k1]
    · by_cases e : j = i
      · rw [e, k3 i (by omega), mu_same]
      · exact k4 j (by omega) h2
  | 0, _, 0, _, _, _, h => absurd h (by omega)
  | d + 1, _, 0, _, _, _, h => absurd h (by omega)
end PUR13
