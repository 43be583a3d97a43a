/-! texts: how far a reading goes -/
def adF (p : Nat → Bool) : Nat → Nat → Nat
  | 0, i => i
  | d + 1, i => cond (p i) (adF p d (i + 1)) i
def ad (p : Nat → Bool) (n i : Nat) : Nat := adF p (n - i) i
theorem adF_b (p : Nat → Bool) : ∀ d i, i ≤ adF p d i ∧ adF p d i ≤ i + d
  | 0, i => ⟨Nat.le_refl _, Nat.le_refl _⟩
  | d + 1, i => by
    show i ≤ cond (p i) (adF p d (i + 1)) i ∧ cond (p i) (adF p d (i + 1)) i ≤ i + (d + 1)
    have := adF_b p d (i + 1)
    cases p i with
    | true => exact ⟨by show i ≤ adF p d (i + 1); omega, by show adF p d (i + 1) ≤ _; omega⟩
    | false => exact ⟨Nat.le_refl _, by show i ≤ _; omega⟩
theorem adF_all (p : Nat → Bool) : ∀ d i j, i ≤ j → j < adF p d i → p j = true
  | 0, i, j, h, h2 => absurd (show j < i from h2) (by omega)
  | d + 1, i, j, h, h2 => by
    have h2' : j < cond (p i) (adF p d (i + 1)) i := h2
    cases q : p i with
    | true =>
      rw [q] at h2'
      by_cases e : j = i
      · rw [e]; exact q
      · exact adF_all p d (i + 1) j (by omega) h2'
    | false =>
      rw [q] at h2'
      exact absurd (show j < i from h2') (by omega)
theorem adF_st (p : Nat → Bool) : ∀ d i, adF p d i < i + d → p (adF p d i) = false
  | 0, i, h => absurd (show i < i + 0 from h) (by omega)
  | d + 1, i, h => by
    have h' : cond (p i) (adF p d (i + 1)) i < i + (d + 1) := h
    show p (cond (p i) (adF p d (i + 1)) i) = false
    cases q : p i with
    | true =>
      rw [q] at h'
      exact adF_st p d (i + 1) (by have : adF p d (i + 1) < i + (d + 1) := h'; omega)
    | false => exact q
theorem ad_s {p : Nat → Bool} {n i : Nat} (h : i < n) (hp : p i = true) : ad p n i = ad p n (i + 1) := by
  unfold ad
  rw [show n - i = (n - (i + 1)) + 1 by omega]
  show cond (p i) (adF p (n - (i + 1)) (i + 1)) i = _
  rw [hp]
  rfl
theorem ad_e {p : Nat → Bool} {n i : Nat} (h : n ≤ i ∨ p i = false) : ad p n i = i := by
  unfold ad
  by_cases q : n ≤ i
  · rw [show n - i = 0 by omega]; rfl
  · rw [show n - i = (n - (i + 1)) + 1 by omega]
    show cond (p i) (adF p (n - (i + 1)) (i + 1)) i = _
    rw [h.resolve_left q]
    rfl
theorem ad_b (p : Nat → Bool) {n i : Nat} (h : i ≤ n) : i ≤ ad p n i ∧ ad p n i ≤ n := by
  have := adF_b p (n - i) i
  unfold ad
  omega
theorem ad_all {p : Nat → Bool} {n i j : Nat} (h : i ≤ j) (h2 : j < ad p n i) : p j = true := adF_all p _ i j h h2
theorem ad_st {p : Nat → Bool} {n i : Nat} (hi : i ≤ n) (h : ad p n i < n) : p (ad p n i) = false := adF_st p _ i (by unfold ad at h; omega)
def bl (b : Nat → Nat) (j : Nat) : Bool := decide (b j = 10) || decide (b j = 32)
def sm (b : Nat → Nat) (j : Nat) : Bool := decide (97 ≤ b j) && decide (b j ≤ 122)
def dg (b : Nat → Nat) (j : Nat) : Bool := decide (48 ≤ b j) && decide (b j ≤ 57)
def cvF (b : Nat → Nat) : Nat → Nat → Nat → Nat
  | 0, _, c => c
  | d + 1, i, c => cond (dg b i) (cvF b d (i + 1) (if c * 10 + b i - 48 < 1000 then c * 10 + b i - 48 else 1000)) c
def rvF (b : Nat → Nat) : Nat → Nat → Nat → Nat
  | 0, _, v => v
  | d + 1, i, v => cond (dg b i) (rvF b d (i + 1) (if v ≤ 1000 then 10 * v + b i - 48 else v)) v
theorem dg_b {b : Nat → Nat} {i : Nat} (h : dg b i = true) : 48 ≤ b i ∧ b i ≤ 57 := by
  unfold dg at h
  rw [Bool.and_eq_true, decide_eq_true_eq, decide_eq_true_eq] at h
  exact h
theorem sm_b {b : Nat → Nat} {i : Nat} (h : sm b i = true) : 97 ≤ b i ∧ b i ≤ 122 := by
  unfold sm at h
  rw [Bool.and_eq_true, decide_eq_true_eq, decide_eq_true_eq] at h
  exact h
theorem dg_n {b : Nat → Nat} {i : Nat} (h : dg b i = false) : b i < 48 ∨ 57 < b i := by
  unfold dg at h
  rw [Bool.and_eq_false_iff, decide_eq_false_iff_not, decide_eq_false_iff_not] at h
  omega
theorem sm_n {b : Nat → Nat} {i : Nat} (h : sm b i = false) : b i < 97 ∨ 122 < b i := by
  unfold sm at h
  rw [Bool.and_eq_false_iff, decide_eq_false_iff_not, decide_eq_false_iff_not] at h
  omega
theorem bl_b {b : Nat → Nat} {i : Nat} (h : bl b i = true) : b i = 10 ∨ b i = 32 := by
  unfold bl at h
  rw [Bool.or_eq_true, decide_eq_true_eq, decide_eq_true_eq] at h
  exact h
theorem bl_n {b : Nat → Nat} {i : Nat} (h : bl b i = false) : b i ≠ 10 ∧ b i ≠ 32 := by
  unfold bl at h
  rw [Bool.or_eq_false_iff, decide_eq_false_iff_not, decide_eq_false_iff_not] at h
  exact h
theorem cv_rv (b : Nat → Nat) : ∀ d i c v, c = (if v < 1000 then v else 1000) → v ≤ 20000 → cvF b d i c = (if rvF b d i v < 1000 then rvF b d i v else 1000) ∧ rvF b d i v ≤ 20000
  | 0, i, c, v, h, h2 => ⟨h, h2⟩
  | d + 1, i, c, v, h, h2 => by
    show cond (dg b i) (cvF b d (i + 1) (if c * 10 + b i - 48 < 1000 then c * 10 + b i - 48 else 1000)) c = (if cond (dg b i) (rvF b d (i + 1) (if v ≤ 1000 then 10 * v + b i - 48 else v)) v < 1000 then cond (dg b i) (rvF b d (i + 1) (if v ≤ 1000 then 10 * v + b i - 48 else v)) v else 1000) ∧ cond (dg b i) (rvF b d (i + 1) (if v ≤ 1000 then 10 * v + b i - 48 else v)) v ≤ 20000
    cases q : dg b i with
    | true =>
      have hb := dg_b q
      refine cv_rv b d (i + 1) _ _ ?_ ?_
      · by_cases h1 : v < 1000
        · rw [if_pos h1] at h
          rw [if_pos (show v ≤ 1000 by omega), h, show v * 10 = 10 * v by omega]
        · rw [if_neg h1] at h
          rw [h, if_neg (by omega)]
          by_cases h3 : v ≤ 1000
          · rw [if_pos h3, if_neg (by omega)]
          · rw [if_neg h3, if_neg h1]
      · by_cases h3 : v ≤ 1000
        · rw [if_pos h3]; omega
        · rw [if_neg h3]; exact h2
    | false => exact ⟨h, h2⟩
/-- where a reading stands -/
def CX (b : Nat → Nat) (n i : Nat) (x : Me) : Prop := n ≤ 600 ∧ i ≤ n ∧ x 5 0 = nI i ∧ x 6 0 = nI n ∧ ∀ j, j < n → b j < 256 ∧ x 3 j = (nI (b j)).toInt8.toInt32
def CM (b : Nat → Nat) (n i : Nat) (m : Me) : Prop := n ≤ 600 ∧ i ≤ n ∧ m 9 0 = nI i ∧ m 8 0 = nI n ∧ ∀ j, j < n → b j < 256 ∧ m 1 j = nI (b j)
theorem by255 {c : Nat} (h : c < 256) : (nI c).toInt8.toInt32 &&& 255 = nI c := by
  have : ∀ j : Fin 256, (nI j.val).toInt8.toInt32 &&& 255 = nI j.val := by decide +kernel
  exact this ⟨c, h⟩
theorem by127 {c : Nat} (h : c < 128) : (nI c).toInt8.toInt32 = nI c := by
  have : ∀ j : Fin 128, (nI j.val).toInt8.toInt32 = nI j.val := by decide +kernel
  exact this ⟨c, h⟩
theorem mu_mu (x : Me) (f i : Nat) (v w : Int32) : mu (mu x f i v) f i w = mu x f i w := by
  funext f' j
  by_cases e : f' = f
  · by_cases q : j = i
    · rw [e, q, mu_same, mu_same]
    · rw [mu_nj _ _ _ _ _ _ q, mu_nj _ _ _ _ _ _ q, mu_nj _ _ _ _ _ _ q]
  · rw [mu_nf _ _ _ _ _ _ e, mu_nf _ _ _ _ _ _ e, mu_nf _ _ _ _ _ _ e]
section PUR15
variable {fu nw : Nat} {x m : Me} {b : Nat → Nat} {n : Nat}
theorem CX_mv {i j : Nat} (h : CX b n i x) (hj : j ≤ n) : CX b n j (mu x 5 0 (nI j)) := ⟨h.1, hj, mu_same _ _ _ _, h.2.2.2.1, h.2.2.2.2⟩
theorem CM_mv {i j : Nat} (h : CM b n i m) (hj : j ≤ n) : CM b n j (mu m 9 0 (nI j)) := ⟨h.1, hj, mu_same _ _ _ _, h.2.2.2.1, h.2.2.2.2⟩
theorem bh_y {i : Nat} (h : CX b n i x) (hi : i < n) : f_X7_byteHere fu nw x = some (x, nI (b i)) := by
  obtain ⟨h1, h2, h3, h4, h5⟩ := h
  unfold f_X7_byteHere
  rw [h3, h4, if_neg (nI_pos (by omega)), if_neg (nI_ge hi (by omega)), if_neg (show ¬ (600 : Int32) ≤ nI i from nI_ge (b := 600) (by omega) (by decide)), if_pos (inb_nI (by omega) (by decide)), nI_clamp (by omega), (h5 i hi).2, by255 (h5 i hi).1]
theorem bh_n {i : Nat} (h : CX b n i x) (hi : i = n) : f_X7_byteHere fu nw x = some (x, -1) := by
  obtain ⟨h1, h2, h3, h4, h5⟩ := h
  unfold f_X7_byteHere
  rw [h3, h4, if_neg (nI_pos (by omega)), if_pos (nI_le (by omega) (by omega))]
theorem hr_y {i : Nat} (h : CM b n i m) (hi : i < n) : f_X11_here fu m = some (m, nI (b i)) := by
  obtain ⟨h1, h2, h3, h4, h5⟩ := h
  unfold f_X11_here
  rw [h3, h4, if_neg (nI_ge hi (by omega)), if_pos (inb_nI (by omega) (by decide)), nI_clamp (by omega), (h5 i hi).2]
theorem hr_n {i : Nat} (h : CM b n i m) (hi : i = n) : f_X11_here fu m = some (m, -1) := by
  obtain ⟨h1, h2, h3, h4, h5⟩ := h
  unfold f_X11_here
  rw [h3, h4, if_pos (nI_le (by omega) (by omega))]
theorem sk0 {k : Me → Option (Me × Unit)} : ∀ (d i nf : Nat) (x : Me), i + d = n → d < nf → CX b n i x → f_X7_skipBlanks_0 fu nw k nf x = k (mu x 5 0 (nI (ad (bl b) n i)))
  | 0, i, nf + 1, x, h, _, hc => by
    rw [f_X7_skipBlanks_0_s, hc.2.2.1, hc.2.2.2.1, if_pos (nI_le (by omega) (by have := hc.1; omega)), ad_e (Or.inl (by omega)), mu_id hc.2.2.1]
  | d + 1, i, nf + 1, x, h, hn, hc => by
    have hb := (hc.2.2.2.2 i (by omega)).1
    have h6 := hc.1
    rw [f_X7_skipBlanks_0_s, hc.2.2.1, hc.2.2.2.1, if_neg (nI_ge (by omega) (by omega)), bh_y hc (by omega), ob_s, bh_y hc (by omega), ob_s, hc.2.2.1, nI_1]
    cases q : bl b i with
    | true =>
      have ih := sk0 (k := k) d (i + 1) nf (mu x 5 0 (nI (i + 1))) (by omega) (by omega) (CX_mv hc (by omega))
      rw [mu_mu, ← ad_s (by omega) q] at ih
      rw [ih]
      rcases bl_b q with z | z
      · rw [if_pos (by rw [z]; rfl)]
      · rw [if_neg (by rw [z]; decide), if_pos (by rw [z]; rfl)]
    | false =>
      obtain ⟨z1, z2⟩ := bl_n q
      rw [if_neg (show ¬ nI (b i) = 10 from fun z => z1 ((nI_eq (by omega) (by decide)).mp (show nI (b i) = nI 10 from z))), if_neg (show ¬ nI (b i) = 32 from fun z => z2 ((nI_eq (by omega) (by decide)).mp (show nI (b i) = nI 32 from z))), ad_e (Or.inr q), mu_id hc.2.2.1]
  | 0, _, 0, _, _, h, _ => absurd h (by omega)
  | d + 1, _, 0, _, _, h, _ => absurd h (by omega)
theorem sk_sp (hfu : 70000 ≤ fu) {i : Nat} (h : CX b n i x) : f_X7_skipBlanks fu nw x = some (mu x 5 0 (nI (ad (bl b) n i)), ()) := by
  have e : f_X7_skipBlanks fu nw x = f_X7_skipBlanks_0 fu nw (fun (x_8 : Me) => some (x_8, ())) (fu + 1) x := rfl
  have h1 := h.1
  have h2 := h.2.1
  rw [e, sk0 (n - i) i (fu + 1) x (by omega) (by omega) h]
theorem tw5 {b1 : Int32} {k : Me → Option (Me × Int32)} : ∀ (d i nf : Nat) (x : Me), i + d = n → d < nf → CX b n i x → f_X7_takeWord_5 fu nw b1 k nf x = k (mu x 5 0 (nI (ad (sm b) n i)))
  | 0, i, nf + 1, x, h, _, hc => by
    rw [f_X7_takeWord_5_s, hc.2.2.1, hc.2.2.2.1, if_pos (nI_le (by omega) (by have := hc.1; omega)), ad_e (Or.inl (by omega)), mu_id hc.2.2.1]
  | d + 1, i, nf + 1, x, h, hn, hc => by
    have hb := (hc.2.2.2.2 i (by omega)).1
    have h6 := hc.1
    rw [f_X7_takeWord_5_s, hc.2.2.1, hc.2.2.2.1, if_neg (nI_ge (by omega) (by omega)), bh_y hc (by omega), ob_s, bh_y hc (by omega), ob_s, hc.2.2.1, nI_1]
    cases q : sm b i with
    | true =>
      have z := sm_b q
      rw [if_neg (show ¬ nI (b i) < 97 from nI_nlt (b := 97) (by omega) (by omega)), if_neg (show ¬ (122 : Int32) < nI (b i) from nI_nlt (a := 122) (by omega) (by decide)), tw5 d (i + 1) nf (mu x 5 0 (nI (i + 1))) (by omega) (by omega) (CX_mv hc (by omega)), mu_mu, ← ad_s (by omega) q]
    | false =>
      rw [ad_e (Or.inr q), mu_id hc.2.2.1]
      rcases sm_n q with z | z
      · rw [if_pos (show nI (b i) < 97 from nI_lt (b := 97) z (by decide))]
      · rw [if_neg (show ¬ nI (b i) < 97 from nI_nlt (b := 97) (by omega) (by omega)), if_pos (show (122 : Int32) < nI (b i) from nI_lt (a := 122) z (by omega))]
  | 0, _, 0, _, _, h, _ => absurd h (by omega)
  | d + 1, _, 0, _, _, h, _ => absurd h (by omega)
theorem tn_st {i c nf : Nat} {a1 : Int32} {k : Me → Int32 → Option (Me × Int32)} (hc : CX b n i x) (hi : i < n) (q : dg b i = true) (ha : (if a1 < 0 then 0 else a1) = nI c) (hcc : c ≤ 1000) : f_X7_takeNumber_2 fu nw k (nf + 1) x a1 = f_X7_takeNumber_2 fu nw k nf (mu x 5 0 (nI (i + 1))) (nI (if c * 10 + b i - 48 < 1000 then c * 10 + b i - 48 else 1000)) := by
  have z := dg_b q
  have h6 := hc.1
  rw [f_X7_takeNumber_2_s, hc.2.2.1, hc.2.2.2.1, if_neg (nI_ge (by omega) (by omega)), bh_y hc hi, ob_s, bh_y hc hi, ob_s, bh_y hc hi, ob_s, hc.2.2.1, nI_1, if_neg (show ¬ nI (b i) < 48 from nI_nlt (b := 48) (by omega) (by omega)), if_neg (show ¬ (57 : Int32) < nI (b i) from nI_nlt (a := 57) (by omega) (by decide)), ha, show nI c * 10 = nI (c * 10) from pk_mul c 10, nI_add, show nI (c * 10 + b i) - 48 = nI (c * 10 + b i - 48) from pk_sub (b := 48) (by omega)]
  by_cases h1 : c * 10 + b i - 48 < 1000
  · rw [if_pos (show nI (c * 10 + b i - 48) < 1000 from nI_lt (b := 1000) h1 (by decide)), if_pos h1]
  · rw [if_neg (show ¬ nI (c * 10 + b i - 48) < 1000 from nI_nlt (b := 1000) (by omega) (by omega)), if_neg h1]
    rfl
theorem tn_no {i nf : Nat} {a1 : Int32} {k : Me → Int32 → Option (Me × Int32)} (hc : CX b n i x) (q : i = n ∨ dg b i = false) : f_X7_takeNumber_2 fu nw k (nf + 1) x a1 = k x a1 := by
  have h6 := hc.1
  have h7 := hc.2.1
  rw [f_X7_takeNumber_2_s, hc.2.2.1, hc.2.2.2.1]
  by_cases e : i = n
  · rw [if_pos (nI_le (by omega) (by omega))]
  · have hb := (hc.2.2.2.2 i (by omega)).1
    rw [if_neg (nI_ge (by omega) (by omega)), bh_y hc (by omega), ob_s, bh_y hc (by omega), ob_s]
    rcases dg_n (q.resolve_left e) with z | z
    · rw [if_pos (show nI (b i) < 48 from nI_lt (b := 48) z (by decide))]
    · rw [if_neg (show ¬ nI (b i) < 48 from nI_nlt (b := 48) (by omega) (by omega)), if_pos (show (57 : Int32) < nI (b i) from nI_lt (a := 57) z (by omega))]
theorem cvF_s {i c : Nat} (hi : i < n) (q : dg b i = true) : cvF b (n - i) i c = cvF b (n - (i + 1)) (i + 1) (if c * 10 + b i - 48 < 1000 then c * 10 + b i - 48 else 1000) := by
  rw [show n - i = (n - (i + 1)) + 1 by omega]
  show cond (dg b i) _ c = _
  rw [q]
  rfl
theorem cvF_e {i c : Nat} (h : n ≤ i ∨ dg b i = false) : cvF b (n - i) i c = c := by
  by_cases q : n ≤ i
  · rw [show n - i = 0 by omega]; rfl
  · rw [show n - i = (n - (i + 1)) + 1 by omega]
    show cond (dg b i) _ c = _
    rw [h.resolve_left q]
    rfl
theorem rvF_s {i c : Nat} (hi : i < n) (q : dg b i = true) : rvF b (n - i) i c = rvF b (n - (i + 1)) (i + 1) (if c ≤ 1000 then 10 * c + b i - 48 else c) := by
  rw [show n - i = (n - (i + 1)) + 1 by omega]
  show cond (dg b i) _ c = _
  rw [q]
  rfl
theorem rvF_e {i c : Nat} (h : n ≤ i ∨ dg b i = false) : rvF b (n - i) i c = c := by
  by_cases q : n ≤ i
  · rw [show n - i = 0 by omega]; rfl
  · rw [show n - i = (n - (i + 1)) + 1 by omega]
    show cond (dg b i) _ c = _
    rw [h.resolve_left q]
    rfl
theorem tn2 {k : Me → Int32 → Option (Me × Int32)} : ∀ (d i nf c : Nat) (x : Me), i + d = n → d < nf → c ≤ 1000 → CX b n i x → f_X7_takeNumber_2 fu nw k nf x (nI c) = k (mu x 5 0 (nI (ad (dg b) n i))) (nI (cvF b (n - i) i c))
  | 0, i, nf + 1, c, x, h, _, _, hc => by
    rw [tn_no hc (Or.inl (by omega)), ad_e (Or.inl (by omega)), mu_id hc.2.2.1, cvF_e (Or.inl (by omega))]
  | d + 1, i, nf + 1, c, x, h, hn, hcc, hc => by
    cases q : dg b i with
    | true =>
      rw [tn_st hc (by omega) q (if_neg (nI_pos (by omega))) hcc, tn2 d (i + 1) nf _ (mu x 5 0 (nI (i + 1))) (by omega) (by omega) (by split <;> omega) (CX_mv hc (by omega)), mu_mu, ← ad_s (by omega) q, cvF_s (c := c) (by omega) q]
    | false => rw [tn_no hc (Or.inr q), ad_e (Or.inr q), mu_id hc.2.2.1, cvF_e (Or.inr q)]
  | 0, _, 0, _, _, _, h, _, _ => absurd h (by omega)
  | d + 1, _, 0, _, _, _, h, _, _ => absurd h (by omega)
theorem tn_y (hfu : 70000 ≤ fu) {i : Nat} (hc : CX b n i x) (hi : i < n) (q : dg b i = true) : f_X7_takeNumber fu nw x = some (mu x 5 0 (nI (ad (dg b) n i)), nI (cvF b (n - i) i 0)) := by
  unfold f_X7_takeNumber
  have h6 := hc.1
  obtain ⟨f, hf⟩ : ∃ f, fu = f + 1 := ⟨fu - 1, by omega⟩
  have key : ∀ f2, f_X7_takeNumber_2 f2 nw (fun (x_7 : Me) (a1_7 : Int32) => some (x_7, a1_7)) (f + 1) x (-1) = some (mu x 5 0 (nI (ad (dg b) n i)), nI (cvF b (n - i) i 0)) := by
    intro f2
    rw [tn_st hc hi q (c := 0) (by decide) (by omega), tn2 (n - (i + 1)) (i + 1) f _ _ (by omega) (by omega) (by split <;> omega) (CX_mv hc (by omega)), mu_mu, ← ad_s hi q, ← cvF_s hi q]
  have := key fu
  rw [← hf] at this
  exact this
theorem tn_n (hfu : 70000 ≤ fu) {i : Nat} (hc : CX b n i x) (q : i = n ∨ dg b i = false) : f_X7_takeNumber fu nw x = some (x, -1) := by
  unfold f_X7_takeNumber
  obtain ⟨f, hf⟩ : ∃ f, fu = f + 1 := ⟨fu - 1, by omega⟩
  have key : ∀ f2, f_X7_takeNumber_2 f2 nw (fun (x_7 : Me) (a1_7 : Int32) => some (x_7, a1_7)) (f + 1) x (-1) = some (x, -1) := fun f2 => tn_no hc q
  have := key fu
  rw [← hf] at this
  exact this
theorem iS_sp {c : Nat} (h : c < 256) : f_X11_isSmall fu m (nI c) = some (m, if 97 ≤ c ∧ c ≤ 122 then 1 else 0) := by
  unfold f_X11_isSmall
  by_cases h1 : c < 97
  · rw [if_pos (show nI c < 97 from nI_lt (b := 97) h1 (by decide)), if_neg (by omega)]
  · rw [if_neg (show ¬ nI c < 97 from nI_nlt (b := 97) (by omega) (by omega))]
    by_cases h2 : 122 < c
    · rw [if_pos (show (122 : Int32) < nI c from nI_lt (a := 122) h2 (by omega)), if_neg (by omega)]
    · rw [if_neg (show ¬ (122 : Int32) < nI c from nI_nlt (a := 122) (by omega) (by decide)), if_pos (by omega)]
theorem iD_sp {c : Nat} (h : c < 256) : f_X11_isDigit fu m (nI c) = some (m, if 48 ≤ c ∧ c ≤ 57 then 1 else 0) := by
  unfold f_X11_isDigit
  by_cases h1 : c < 48
  · rw [if_pos (show nI c < 48 from nI_lt (b := 48) h1 (by decide)), if_neg (by omega)]
  · rw [if_neg (show ¬ nI c < 48 from nI_nlt (b := 48) (by omega) (by omega))]
    by_cases h2 : 57 < c
    · rw [if_pos (show (57 : Int32) < nI c from nI_lt (a := 57) h2 (by omega)), if_neg (by omega)]
    · rw [if_neg (show ¬ (57 : Int32) < nI c from nI_nlt (a := 57) (by omega) (by decide)), if_pos (by omega)]
theorem st0 {k : Me → Option (Me × Unit)} : ∀ (d i nf : Nat) (m : Me), i + d = n → d < nf → CM b n i m → f_X11_step_0 fu k nf m = k (mu m 9 0 (nI (ad (bl b) n i)))
  | 0, i, nf + 1, m, h, _, hc => by
    rw [f_X11_step_0_s, hr_n hc (by omega), ob_s, hr_n hc (by omega), ob_s, if_neg (by decide), if_neg (by decide), ad_e (Or.inl (by omega)), mu_id hc.2.2.1]
  | d + 1, i, nf + 1, m, h, hn, hc => by
    have hb := (hc.2.2.2.2 i (by omega)).1
    have h6 := hc.1
    rw [f_X11_step_0_s, hr_y hc (by omega), ob_s, hr_y hc (by omega), ob_s, hc.2.2.1, nI_1]
    cases q : bl b i with
    | true =>
      have ih := st0 (k := k) d (i + 1) nf (mu m 9 0 (nI (i + 1))) (by omega) (by omega) (CM_mv hc (by omega))
      rw [mu_mu, ← ad_s (by omega) q] at ih
      rw [ih]
      rcases bl_b q with z | z
      · rw [if_pos (by rw [z]; rfl)]
      · rw [if_neg (by rw [z]; decide), if_pos (by rw [z]; rfl)]
    | false =>
      obtain ⟨z1, z2⟩ := bl_n q
      rw [if_neg (show ¬ nI (b i) = 10 from fun z => z1 ((nI_eq (by omega) (by decide)).mp (show nI (b i) = nI 10 from z))), if_neg (show ¬ nI (b i) = 32 from fun z => z2 ((nI_eq (by omega) (by decide)).mp (show nI (b i) = nI 32 from z))), ad_e (Or.inr q), mu_id hc.2.2.1]
  | 0, _, 0, _, _, h, _ => absurd h (by omega)
  | d + 1, _, 0, _, _, h, _ => absurd h (by omega)
theorem s64 {k : Me → Option (Me × Unit)} : ∀ (d i nf : Nat) (m : Me), i + d = n → d < nf → CM b n i m → f_X11_step_64 fu k nf m = k (mu m 9 0 (nI (ad (sm b) n i)))
  | 0, i, nf + 1, m, h, _, hc => by
    rw [f_X11_step_64_s, hr_n hc (by omega), ob_s, show f_X11_isSmall fu m (-1) = some (m, 0) from rfl, ob_s, if_pos (show (0 : Int32) = 0 from rfl), ad_e (Or.inl (by omega)), mu_id hc.2.2.1]
  | d + 1, i, nf + 1, m, h, hn, hc => by
    have hb := (hc.2.2.2.2 i (by omega)).1
    rw [f_X11_step_64_s, hr_y hc (by omega), ob_s, iS_sp hb, ob_s, hc.2.2.1, nI_1]
    cases q : sm b i with
    | true =>
      rw [if_pos (sm_b q), if_neg n10, s64 d (i + 1) nf (mu m 9 0 (nI (i + 1))) (by omega) (by omega) (CM_mv hc (by omega)), mu_mu, ← ad_s (by omega) q]
    | false =>
      have := sm_n q
      rw [if_neg (show ¬ (97 ≤ b i ∧ b i ≤ 122) by omega), if_pos (show (0 : Int32) = 0 from rfl), ad_e (Or.inr q), mu_id hc.2.2.1]
  | 0, _, 0, _, _, h, _ => absurd h (by omega)
  | d + 1, _, 0, _, _, h, _ => absurd h (by omega)
theorem s132 {b1 : Int32} {k : Me → Option (Me × Unit)} : ∀ (d i nf v : Nat) (m : Me), i + d = n → d < nf → v ≤ 20000 → CM b n i m → m 12 0 = nI v → ∃ m', f_X11_step_132 fu b1 k nf m = some (m', ()) ∧ (∀ f, inL [9, 12] f = false → m' f = m f) ∧ m' 9 0 = nI (ad (dg b) n i) ∧ m' 12 0 = nI (rvF b (n - i) i v)
  | 0, i, nf + 1, v, m, h, _, _, hc, hv => by
    refine ⟨m, ?_, fun _ _ => rfl, ?_, ?_⟩
    · rw [f_X11_step_132_s, hr_n hc (by omega), ob_s, show f_X11_isDigit fu m (-1) = some (m, 0) from rfl, ob_s, if_pos (show (0 : Int32) = 0 from rfl)]
    · rw [ad_e (Or.inl (by omega))]; exact hc.2.2.1
    · rw [rvF_e (Or.inl (by omega))]; exact hv
  | d + 1, i, nf + 1, v, m, h, hn, hvv, hc, hv => by
    have hb := (hc.2.2.2.2 i (by omega)).1
    cases q : dg b i with
    | true =>
      have z := dg_b q
      have stp : ∀ v' : Nat, v' ≤ 20000 → v' = (if v ≤ 1000 then 10 * v + b i - 48 else v) → ∃ m', f_X11_step_132 fu b1 k nf (mu (mu m 12 0 (nI v')) 9 0 (nI (i + 1))) = some (m', ()) ∧ (∀ f, inL [9, 12] f = false → m' f = m f) ∧ m' 9 0 = nI (ad (dg b) n i) ∧ m' 12 0 = nI (rvF b (n - i) i v) := by
        intro v' hv1 hv2
        obtain ⟨m', k1, k2, k3, k4⟩ := s132 (b1 := b1) (k := k) d (i + 1) nf v' (mu (mu m 12 0 (nI v')) 9 0 (nI (i + 1))) (by omega) (by omega) hv1 (CM_mv (m := mu m 12 0 (nI v')) hc (by omega)) rfl
        refine ⟨m', k1, fun f hf => ?_, ?_, ?_⟩
        · rw [k2 f hf, mu_fr _ _ _ hf rfl, mu_fr _ _ _ hf rfl]
        · rw [k3, ← ad_s (by omega) q]
        · rw [k4, hv2, ← rvF_s (by omega) q]
      rw [f_X11_step_132_s, hr_y hc (by omega), ob_s, iD_sp hb, ob_s, if_pos z, if_neg n10, hv, hc.2.2.1, nI_1]
      by_cases h1 : v ≤ 1000
      · rw [if_pos (show nI v ≤ 1000 from nI_le (b := 1000) h1 (by decide)), hr_y hc (by omega), ob_s, hc.2.2.1, nI_1, show (10 : Int32) * nI v = nI (10 * v) from pk_mul 10 v, nI_add, show nI (10 * v + b i) - 48 = nI (10 * v + b i - 48) from pk_sub (b := 48) (by omega)]
        exact stp _ (by omega) (by rw [if_pos h1])
      · rw [if_neg (show ¬ nI v ≤ 1000 from nI_ge (a := 1000) (by omega) (by omega))]
        exact stp v hvv (by rw [if_neg h1])
    | false =>
      have := dg_n q
      refine ⟨m, ?_, fun _ _ => rfl, ?_, ?_⟩
      · rw [f_X11_step_132_s, hr_y hc (by omega), ob_s, iD_sp hb, ob_s, if_neg (show ¬ (48 ≤ b i ∧ b i ≤ 57) by omega), if_pos (show (0 : Int32) = 0 from rfl)]
      · rw [ad_e (Or.inr q)]; exact hc.2.2.1
      · rw [rvF_e (Or.inr q)]; exact hv
  | 0, _, 0, _, _, _, h, _, _, _ => absurd h (by omega)
  | d + 1, _, 0, _, _, _, h, _, _, _ => absurd h (by omega)
end PUR15
