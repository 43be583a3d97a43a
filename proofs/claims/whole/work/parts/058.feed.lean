theorem fa_byte_low (x : Int32) : (x &&& 255).toInt8 = x.toInt8 := by
  apply Int8.toBitVec_inj.1
  apply BitVec.eq_of_getLsbD_eq
  intro i hi
  have h2 : (255 : Int32).toBitVec.getLsbD i = true := by
    have : ∀ j : Fin 8, (255 : Int32).toBitVec.getLsbD j.val = true := by decide +kernel
    exact this ⟨i, hi⟩
  have h4 : (x &&& 255).toBitVec.getLsbD i = x.toBitVec.getLsbD i := by
    show (x.toBitVec &&& (255 : Int32).toBitVec).getLsbD i = _
    rw [BitVec.getLsbD_and, h2, Bool.and_true]
  have h3 : i < 32 := by omega
  first
    | (show (((x &&& 255).toBitVec).signExtend 8).getLsbD i = (x.toBitVec.signExtend 8).getLsbD i; rw [BitVec.getLsbD_signExtend, BitVec.getLsbD_signExtend, if_pos h3, if_pos h3, h4])
    | (show (((x &&& 255).toBitVec).setWidth 8).getLsbD i = (x.toBitVec.setWidth 8).getLsbD i; rw [BitVec.getLsbD_setWidth, BitVec.getLsbD_setWidth, h4])
    | (simp [hi, h3, h4]; done)
def apN (x : Me) (t : Nat) (B : Nat → Int32) (k : Nat) : Me := fun f j => if f = 3 then (if t ≤ j ∧ j < t + k then (B (j - t)).toInt8.toInt32 else x 3 j) else if f = 4 then (if j = 0 then nI (t + k) else x 4 j) else x f j
def mpN (m : Me) (t : Nat) (B : Nat → Int32) (k : Nat) : Me := fun f j => if f = 1 then (if t ≤ j ∧ j < t + k then B (j - t) &&& 255 else m 1 j) else m f j
theorem apN_s (x : Me) (t : Nat) (B : Nat → Int32) (k : Nat) : mu (mu (apN x t B k) 3 (t + k) (B k).toInt8.toInt32) 4 0 (nI (t + k + 1)) = apN x t B (k + 1) := by
  funext f j
  by_cases f3 : f = 3
  · subst f3
    show mu (apN x t B k) 3 (t + k) (B k).toInt8.toInt32 3 j = (if t ≤ j ∧ j < t + (k + 1) then (B (j - t)).toInt8.toInt32 else x 3 j)
    by_cases e : j = t + k
    · subst e
      rw [mu_same, if_pos (by omega), show t + k - t = k by omega]
    · rw [mu_ne _ _ _ _ _ e]
      show (if t ≤ j ∧ j < t + k then (B (j - t)).toInt8.toInt32 else x 3 j) = _
      by_cases q : t ≤ j ∧ j < t + k
      · rw [if_pos q, if_pos (by omega)]
      · rw [if_neg q, if_neg (by omega)]
  · by_cases f4 : f = 4
    · subst f4
      show (if j = 0 then nI (t + k + 1) else (if j = 0 then nI (t + k) else x 4 j)) = (if j = 0 then nI (t + (k + 1)) else x 4 j)
      by_cases e : j = 0
      · rw [if_pos e, if_pos e]; rfl
      · rw [if_neg e, if_neg e, if_neg e]
    · rw [mu_nf _ _ _ _ _ _ f4, mu_nf _ _ _ _ _ _ f3]
      unfold apN
      rw [if_neg f3, if_neg f4, if_neg f3, if_neg f4]
theorem apN_0 {x : Me} {t : Nat} (e : x 4 0 = nI t) (B : Nat → Int32) : apN x t B 0 = x := by
  funext f j
  unfold apN
  by_cases f3 : f = 3
  · rw [if_pos f3, if_neg (by omega), f3]
  · rw [if_neg f3]
    by_cases f4 : f = 4
    · rw [if_pos f4]
      by_cases j0 : j = 0
      · rw [if_pos j0, f4, j0, e]; rfl
      · rw [if_neg j0, f4]
    · rw [if_neg f4]
theorem mpN_s (m : Me) (t : Nat) (B : Nat → Int32) (k : Nat) : mu (mpN m t B k) 1 (t + k) (B k &&& 255) = mpN m t B (k + 1) := by
  funext f j
  by_cases f3 : f = 1
  · subst f3
    by_cases e : j = t + k
    · subst e
      rw [mu_same]
      show _ = (if t ≤ t + k ∧ t + k < t + (k + 1) then B (t + k - t) &&& 255 else m 1 (t + k))
      rw [if_pos (by omega), show t + k - t = k by omega]
    · rw [mu_ne _ _ _ _ _ e]
      show (if t ≤ j ∧ j < t + k then B (j - t) &&& 255 else m 1 j) = (if t ≤ j ∧ j < t + (k + 1) then B (j - t) &&& 255 else m 1 j)
      by_cases q : t ≤ j ∧ j < t + k
      · rw [if_pos q, if_pos (by omega)]
      · rw [if_neg q, if_neg (by omega)]
  · rw [mu_nf _ _ _ _ _ _ f3]
    unfold mpN
    rw [if_neg f3, if_neg f3]
theorem mpN_0 (m : Me) (t : Nat) (B : Nat → Int32) : mpN m t B 0 = m := by
  funext f j
  unfold mpN
  by_cases f3 : f = 1
  · rw [if_pos f3, if_neg (by omega), f3]
  · rw [if_neg f3]
section PUR8
variable {fu nw : Nat} {x m : Me}
theorem ap_step {B : Nat → Int32} {t k n : Nat} {a v : Int32} {K : Me → Option (Me × Unit)} (ht : t + k < 600) (h0 : ¬ a < 0) (hB : v >>> (a &&& 31) = B k) : f_X7_append_3 fu nw v K (n + 1) (apN x t B k) a = f_X7_append_3 fu nw v K n (apN x t B (k + 1)) (a + -8) := by
  rw [f_X7_append_3_s, if_neg h0, show (apN x t B k) 4 0 = nI (t + k) from rfl, if_neg (show ¬ (600 : Int32) ≤ nI (t + k) from nI_ge (b := 600) ht (by decide)), if_pos (inb_nI ht (by decide)), nI_clamp (by omega), nI_1, pk_vb, hB, apN_s]
theorem ap_sp (hfu : 70000 ≤ fu) {B : Nat → Int32} {t k : Nat} {v : Int32} (ht : t + k + 4 ≤ 600) (b0 : v >>> ((24 : Int32) &&& 31) = B k) (b1 : v >>> ((16 : Int32) &&& 31) = B (k + 1)) (b2 : v >>> ((8 : Int32) &&& 31) = B (k + 2)) (b3 : v >>> ((0 : Int32) &&& 31) = B (k + 3)) : f_X7_append fu nw (apN x t B k) v = some (apN x t B (k + 4), ()) := by
  unfold f_X7_append
  obtain ⟨n, hn⟩ : ∃ n, fu = n + 5 := ⟨fu - 5, by omega⟩
  have key : ∀ f2, f_X7_append_3 f2 nw v (fun x_4 => some (x_4, ())) (n + 5) (apN x t B k) 24 = some (apN x t B (k + 4), ()) := by
    intro f2
    rw [ap_step (by omega) (by decide) b0, show (24 : Int32) + -8 = 16 from rfl, ap_step (by omega) (by decide) b1, show (16 : Int32) + -8 = 8 from rfl, ap_step (by omega) (by decide) b2, show (8 : Int32) + -8 = 0 from rfl, ap_step (by omega) (by decide) b3, show (0 : Int32) + -8 = -8 from rfl, f_X7_append_3_s, if_pos (by decide)]
  have := key fu
  rw [← hn] at this
  exact this
/-- the bytes of five numbers -/
def fB (a b c d e : Int32) (i : Nat) : Int32 := (if 4 ≤ i then if 8 ≤ i then if 12 ≤ i then if 16 ≤ i then e else d else c else b else a) >>> (nI (24 - 8 * (i % 4)) &&& 31)
theorem mp_sp {a b c d e : Int32} {t : Nat} {K : Me → Option (Me × Int32)} (e2 : m 2 0 = nI t) (ht : t + 20 ≤ 600) : ∀ (dd i n : Nat), i + dd = 20 → dd < n → f_X11_feed_20 fu a b c d e K n (mpN m t (fB a b c d e) i) (nI i) = K (mpN m t (fB a b c d e) 20)
  | 0, i, n + 1, h, _ => by
    rw [f_X11_feed_20_s, if_pos (show (20 : Int32) ≤ nI i from nI_le (a := 20) (by omega) (by omega)), show i = 20 by omega]
  | dd + 1, i, n + 1, h, hn => by
    have hs : (24 : Int32) - 8 * (nI i - nI i / 4 * 4) = nI (24 - 8 * (i % 4)) := by
      rw [show (4 : Int32) = nI 4 from rfl, pk_rem (by omega) (by decide) (by decide), show (8 : Int32) = nI 8 from rfl, pk_mul, show (24 : Int32) = nI 24 from rfl, pk_sub (by omega)]
    have hj : ∀ v : Int32, (v >>> (nI (24 - 8 * (i % 4)) &&& 31)) = fB a b c d e i → (if inb ((mpN m t (fB a b c d e) i) 2 0 + nI i) 600 = true then f_X11_feed_20 fu a b c d e K n (mu (mpN m t (fB a b c d e) i) 1 (((mpN m t (fB a b c d e) i) 2 0 + nI i).toNatClampNeg) ((v >>> ((24 - (8 * (nI i - nI i / 4 * 4))) &&& 31)) &&& 255)) (nI i + 1) else none) = K (mpN m t (fB a b c d e) 20) := by
      intro v hv
      rw [show (mpN m t (fB a b c d e) i) 2 0 = nI t from e2, nI_add, if_pos (inb_nI (by omega) (by decide)), nI_clamp (by omega), hs, hv, mpN_s, nI_1]
      exact mp_sp e2 ht dd (i + 1) n (by omega) (by omega)
    rw [f_X11_feed_20_s, if_neg (show ¬ (20 : Int32) ≤ nI i from nI_ge (b := 20) (by omega) (by omega))]
    simp only [jn]
    by_cases c4 : 4 ≤ i
    · rw [if_pos (show (4 : Int32) ≤ nI i from nI_le (a := 4) c4 (by omega))]
      by_cases c8 : 8 ≤ i
      · rw [if_pos (show (8 : Int32) ≤ nI i from nI_le (a := 8) c8 (by omega))]
        by_cases c12 : 12 ≤ i
        · rw [if_pos (show (12 : Int32) ≤ nI i from nI_le (a := 12) c12 (by omega))]
          by_cases c16 : 16 ≤ i
          · rw [if_pos (show (16 : Int32) ≤ nI i from nI_le (a := 16) c16 (by omega))]
            exact hj e (by unfold fB; rw [if_pos c4, if_pos c8, if_pos c12, if_pos c16])
          · rw [if_neg (show ¬ (16 : Int32) ≤ nI i from nI_ge (b := 16) (by omega) (by omega))]
            exact hj d (by unfold fB; rw [if_pos c4, if_pos c8, if_pos c12, if_neg c16])
        · rw [if_neg (show ¬ (12 : Int32) ≤ nI i from nI_ge (b := 12) (by omega) (by omega))]
          exact hj c (by unfold fB; rw [if_pos c4, if_pos c8, if_neg c12])
      · rw [if_neg (show ¬ (8 : Int32) ≤ nI i from nI_ge (b := 8) (by omega) (by omega))]
        exact hj b (by unfold fB; rw [if_pos c4, if_neg c8])
    · rw [if_neg (show ¬ (4 : Int32) ≤ nI i from nI_ge (b := 4) (by omega) (by omega))]
      exact hj a (by unfold fB; rw [if_neg c4])
  | 0, _, 0, _, h => absurd h (by omega)
  | dd + 1, _, 0, _, h => absurd h (by omega)
theorem st_feed (hfu : 70000 ≤ fu) (h : Rel nw x m) : ∀ a b c d e, S2 Rel nw (f_X10_feed fu nw x a b c d e) (f_X11_feed fu m a b c d e) := by
  intro a b c d e
  have hR := rel_th h
  obtain ⟨y, st, tl, ns, hh, l, np, r, hA, hT, hS, hW, hH, hB, hO, hP, h0, h1, h2, h3, h4⟩ := h
  obtain ⟨a1, a2, ⟨t1, t2, t3⟩, a4, a5, a6, a7, a8, a9⟩ := hA
  unfold f_X10_feed f_X11_feed
  rw [t1, t2]
  by_cases c0 : tl + 20 ≤ 600
  · rw [show nI tl + 20 = nI (tl + 20) by rw [show (20 : Int32) = nI 20 from rfl, nI_add], if_pos (show nI (tl + 20) ≤ 600 from nI_le (b := 600) c0 (by decide)), if_pos (show nI tl ≤ 580 from nI_le (b := 580) (by omega) (by decide))]
    have hX : ∀ z, z = x → ob (f_X7_append fu nw z a) (fun x_1 _ => ob (f_X7_append fu nw x_1 b) (fun x_2 _ => ob (f_X7_append fu nw x_2 c) (fun x_3 _ => ob (f_X7_append fu nw x_3 d) (fun x_4 _ => ob (f_X7_append fu nw x_4 e) (fun x_5 _ => some (x_5, x_5 4 0)))))) = some (apN x tl (fB a b c d e) 20, nI (tl + 20)) := by
      intro z hz
      rw [hz, ← apN_0 t1 (fB a b c d e)]
      rw [ap_sp hfu (by omega) rfl rfl rfl rfl, ob_s, ap_sp hfu (by omega) rfl rfl rfl rfl, ob_s, ap_sp hfu (by omega) rfl rfl rfl rfl, ob_s, ap_sp hfu (by omega) rfl rfl rfl rfl, ob_s, ap_sp hfu (by omega) rfl rfl rfl rfl, ob_s, apN_0 t1]
      rfl
    have hM : f_X11_feed_20 fu a b c d e (fun x_8 => some ((mu x_8 2 0 ((x_8 2 0) + 20)), (x_8 2 0) + 20)) fu (mu m 0 0 0) 0 = some (mu (mpN (mu m 0 0 0) tl (fB a b c d e) 20) 2 0 (nI (tl + 20)), nI (tl + 20)) := by
      have := mp_sp (fu := fu) (m := mu m 0 0 0) (a := a) (b := b) (c := c) (d := d) (e := e) (K := fun x_8 => some ((mu x_8 2 0 ((x_8 2 0) + 20)), (x_8 2 0) + 20)) t2 c0 20 0 fu (by omega) (by omega)
      rw [mpN_0] at this
      refine this.trans ?_
      rw [show (mpN (mu m 0 0 0) tl (fB a b c d e) 20) 2 0 = nI tl from t2, show nI tl + 20 = nI (tl + 20) by rw [show (20 : Int32) = nI 20 from rfl, nI_add]]
    rw [hX x rfl, hM]
    refine ⟨_, _, _, rfl, rfl, ⟨y, st, tl + 20, ns, hh, l, np, r, ⟨a1, a2, ⟨rfl, rfl, c0⟩, a4, a5, a6, a7, a8, a9⟩, fun j hj => ?_, hS, hW, hH, hB, hO, hP, h0, h1, h2, h3, h4⟩⟩
    show ∃ bb, bb < 256 ∧ (if tl ≤ j ∧ j < tl + 20 then fB a b c d e (j - tl) &&& 255 else m 1 j) = nI bb ∧ (if tl ≤ j ∧ j < tl + 20 then (fB a b c d e (j - tl)).toInt8.toInt32 else x 3 j) = (nI bb).toInt8.toInt32
    by_cases q : tl ≤ j ∧ j < tl + 20
    · rw [if_pos q, if_pos q]
      obtain ⟨bb, hb1, hb2⟩ := pk_andE (fB a b c d e (j - tl)) (m := 255) 8 (by decide)
      exact ⟨bb, hb1, hb2, by rw [← hb2, fa_byte_low]⟩
    · rw [if_neg q, if_neg q]
      exact hT j (by omega)
  · rw [show nI tl + 20 = nI (tl + 20) by rw [show (20 : Int32) = nI 20 from rfl, nI_add], if_neg (show ¬ nI (tl + 20) ≤ 600 from nI_ge (a := 600) (by omega) (by omega)), if_neg (show ¬ nI tl ≤ 580 from nI_ge (a := 580) (by omega) (by omega))]
    exact ⟨x, _, _, rfl, rfl, hR⟩
end PUR8
