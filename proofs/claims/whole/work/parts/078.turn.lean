def R2S (r l lp : Nat) (s : Nat → Nat) (ar i : Nat) (x m x' m' : Me) (ar' : Nat) : Prop := (∀ f, inL FX f = false → x' f = x f) ∧ (∀ f, inL FM f = false → m' f = m f) ∧ DY r l lp s ar' x' m' ∧ (∀ j, j ≠ i → x' 43 j = x 43 j) ∧ ar ≤ ar' ∧ x' 30 = x 30 ∧ m' 49 = m 49 ∧ x' 34 = x 34 ∧ m' 44 = m 44
def tkT (fu nw : Nat) (r1 : Nat) (x_2 : Me) : Option (Me × Unit) := ob (f_X2_setPace fu nw x_2 r1) (fun x_3 _ => f_X2_takeTurn_24 fu nw r1 (x_3 41 r1) (fun (x_7 : Me) => some (x_7, ())) fu x_3 0)
def trT (fu : Nat) (a1 : Int32) (x_2 : Me) : Option (Me × Unit) := if inb (x_2 22 a1.toNatClampNeg) 16 = true then ob (f_X11_draws fu (mu x_2 39 a1.toNatClampNeg (if (3 + ((x_2 27 ((x_2 22 a1.toNatClampNeg).toNatClampNeg)) / 250)) < ((x_2 39 a1.toNatClampNeg) + 1) then (3 + ((x_2 27 ((x_2 22 a1.toNatClampNeg).toNatClampNeg)) / 250)) else ((x_2 39 a1.toNatClampNeg) + 1))) 8) (fun x_4 r_4 => jn (fun (x_5 : Me) => f_X11_turns_104 fu a1 ((mu x_5 39 a1.toNatClampNeg (if 1 < (x_5 39 a1.toNatClampNeg) then (x_5 39 a1.toNatClampNeg) else 1)) 39 a1.toNatClampNeg) (fun (x_9 : Me) => some (x_9, ())) fu (mu x_5 39 a1.toNatClampNeg (if 1 < (x_5 39 a1.toNatClampNeg) then (x_5 39 a1.toNatClampNeg) else 1)) 1 0) (fun j_5 => if r_4 = 0 then j_5 (mu x_4 39 a1.toNatClampNeg ((x_4 39 a1.toNatClampNeg) - 1)) else j_5 x_4)) else none
theorem tkT_e (fu nw : Nat) (x : Me) (r1 : Nat) : f_X2_takeTurn fu nw x r1 = if r1 < 10 then (if (x 42 r1) = 0 then ob (f_X2_followOrders fu nw x r1) (fun x_8 _ => tkT fu nw r1 x_8) else tkT fu nw r1 x) else none := rfl
theorem trT_e (fu : Nat) (x : Me) (a1 : Int32) : f_X11_turns fu x a1 = if inb a1 17 = true then (if (x 40 a1.toNatClampNeg) = 0 then if (x 24 a1.toNatClampNeg) ≤ 0 then trT fu a1 x else ob (f_X11_obeys fu x a1) (fun x_11 _ => trT fu a1 x_11) else trT fu a1 x) else none := rfl
/-- the pace of a turn -/
def npN (pc k : Nat) (v : Int32) : Nat := if (if dv v 8 = 0 then (if 3 + k / 250 < pc + 1 then 3 + k / 250 else pc + 1) - 1 else (if 3 + k / 250 < pc + 1 then 3 + k / 250 else pc + 1)) < 1 then 1 else (if dv v 8 = 0 then (if 3 + k / 250 < pc + 1 then 3 + k / 250 else pc + 1) - 1 else (if 3 + k / 250 < pc + 1 then 3 + k / 250 else pc + 1))
theorem npN_le {pc k : Nat} {v : Int32} (hk : k ≤ 999) : npN pc k v ≤ 6 := by
  have hm : (if 3 + k / 250 < pc + 1 then 3 + k / 250 else pc + 1) ≤ 6 := by split <;> omega
  unfold npN
  generalize (if 3 + k / 250 < pc + 1 then 3 + k / 250 else pc + 1) = q at hm
  have key : ∀ p : Nat, p ≤ 6 → (if p < 1 then 1 else p) ≤ 6 := fun p hp => by split <;> omega
  exact key _ (by split <;> omega)
section PUR27
variable {fu nw r h l lp ar : Nat} {s : Nat → Nat} {x m : Me}
theorem R2S_tr {i a1 a2 : Nat} {x1 m1 x2 m2 : Me} (h1 : R2S r l lp s ar i x m x1 m1 a1) (h2 : R2S r l lp s a1 i x1 m1 x2 m2 a2) : R2S r l lp s ar i x m x2 m2 a2 := by
  obtain ⟨p1, p2, p3, p4, p5, p6, p7, p8, p9⟩ := h1
  obtain ⟨q1, q2, q3, q4, q5, q6, q7, q8, q9⟩ := h2
  exact ⟨fun f hf => (q1 f hf).trans (p1 f hf), fun f hf => (q2 f hf).trans (p2 f hf), q3, fun j hj => (q4 j hj).trans (p4 j hj), by omega, q6.trans p6, q7.trans p7, q8.trans p8, q9.trans p9⟩
theorem lpS (hfu : 70000 ≤ fu) {i steps : Nat} (hi : i < r) (hst : steps ≤ 6) : ∀ (k j n1 n2 ar : Nat) (x m : Me), j + k = steps → k < n1 → k < n2 → ST nw r h l lp s x m → DY r l lp s ar x m → x 43 i = -1 → ∃ x' m' ar', f_X2_takeTurn_24 fu nw i (nI steps) (fun (x_7 : Me) => some (x_7, ())) n1 x (nI j) = some (x', ()) ∧ f_X11_turns_104 fu (nI (s i)) (nI steps) (fun (x_9 : Me) => some (x_9, ())) n2 m 1 (nI j) = some (m', ()) ∧ R2S r l lp s ar i x m x' m' ar'
  | 0, j, n1 + 1, n2 + 1, ar, x, m, hj, _, _, hS, hD, hon => by
    refine ⟨x, m, ar, ?_, ?_, fun _ _ => rfl, fun _ _ => rfl, hD, fun _ _ => rfl, Nat.le_refl _, rfl, rfl, rfl, rfl⟩
    · rw [f_X2_takeTurn_24_s, if_pos (nI_le (by omega) (by omega))]
    · rw [f_X11_turns_104_s, if_pos (nI_le (by omega) (by omega))]
  | k + 1, j, n1 + 1, n2 + 1, ar, x, m, hj, g1, g2, hS, hD, hon => by
    obtain ⟨x1, m1, z, a1, p1, p2, p3, p4, p5, p6, p7, p8, p9, p10, p11, p12, p13⟩ := mv_sp (fu := fu) hfu hS hD hi hon
    rw [f_X2_takeTurn_24_s, f_X11_turns_104_s, if_neg (nI_ge (by omega) (by omega)), if_neg (nI_ge (by omega) (by omega)), if_neg n10, p1, p2, ob_s, ob_s, nI_1]
    rcases p6 with rfl | rfl
    · obtain ⟨n2, rfl⟩ : ∃ q, n2 = q + 1 := ⟨n2 - 1, by omega⟩
      rw [if_pos (show (0 : Int32) = 0 from rfl)]
      refine ⟨x1, m1, a1, rfl, ?_, p3, p4, p5, p8, p9, p10, p11, p12, p13⟩
      rw [f_X11_turns_104_s, if_pos (show (0 : Int32) = 0 from rfl)]
      split <;> rfl
    · rw [if_neg n10]
      obtain ⟨x2, m2, a2, q1, q2, q3⟩ := lpS hfu hi hst k (j + 1) n1 n2 a1 x1 m1 (by omega) (by omega) (by omega) (ST_of hS p3 p4) p5 (p7 rfl)
      exact ⟨x2, m2, a2, q1, q2, R2S_tr ⟨p3, p4, p5, p8, p9, p10, p11, p12, p13⟩ q3⟩
  | 0, _, 0, _, _, _, _, _, h, _, _, _, _ => absurd h (by omega)
  | 0, _, n + 1, 0, _, _, _, _, _, h, _, _, _ => absurd h (by omega)
  | k + 1, _, 0, _, _, _, _, _, h, _, _, _, _ => absurd h (by omega)
  | k + 1, _, n + 1, 0, _, _, _, _, _, h, _, _, _ => absurd h (by omega)
theorem tkP {i pc k : Nat} (hi : i < 10) (hk : k ≤ 999) (hpc : pc ≤ 6) (h41 : x 41 i = nI pc) (h38 : x 38 i = nI (3 + k / 250)) : tkT fu nw i x = f_X2_takeTurn_24 fu nw i (nI (npN pc k (x 49 1))) (fun (x_7 : Me) => some (x_7, ())) fu (mu (mu x 49 1 (nx (x 49 1))) 41 i (nI (npN pc k (x 49 1)))) 0 := by
  unfold tkT f_X2_setPace
  rw [if_pos hi, show (8 : Int32) = nI 8 from rfl, bel1_sp (by decide) (by decide), ob_s, h41, h38, nI_1]
  have hm : (if nI (3 + k / 250) < nI (pc + 1) then nI (3 + k / 250) else nI (pc + 1)) = nI (if 3 + k / 250 < pc + 1 then 3 + k / 250 else pc + 1) := by
    by_cases q : 3 + k / 250 < pc + 1
    · rw [if_pos (nI_lt q (by omega)), if_pos q]
    · rw [if_neg (nI_nlt (by omega) (by omega)), if_neg q]
  have hm6 : 1 ≤ (if 3 + k / 250 < pc + 1 then 3 + k / 250 else pc + 1) ∧ (if 3 + k / 250 < pc + 1 then 3 + k / 250 else pc + 1) ≤ 10 := by split <;> omega
  rw [hm]
  unfold npN
  generalize (if 3 + k / 250 < pc + 1 then 3 + k / 250 else pc + 1) = q at hm6
  have key : ∀ p : Nat, p ≤ 10 → (if nI p < 1 then 1 else nI p) = nI (if p < 1 then 1 else p) := fun p hp => by
    by_cases c : p < 1
    · rw [if_pos (show nI p < 1 from nI_lt (b := 1) c (by decide)), if_pos c]; rfl
    · rw [if_neg (show ¬ nI p < 1 from nI_nlt (b := 1) (by omega) (by omega)), if_neg c]
  have hdv := dv_lt (x 49 1) (show 0 < 8 by decide)
  by_cases c : dv (x 49 1) 8 = 0
  · rw [if_pos (show nI (dv (x 49 1) 8) = 0 by rw [c]; rfl), ob_s, if_pos c, mu_same]
    have e : nI q + (-1) = nI (q - 1) := by
      have := pk_m1 (q - 1)
      rw [show q - 1 + 1 = q by omega] at this
      exact this
    rw [e, key _ (by omega)]
  · rw [if_neg (show ¬ nI (dv (x 49 1) 8) = 0 from fun z => c ((nI_eq (b := 0) (by omega) (by decide)).mp z)), ob_s, if_neg c, mu_same, key _ (by omega)]
theorem trP {w pc k g : Nat} (hw : w < 17) (hk : k ≤ 999) (hpc : pc ≤ 6) (hg : g < 16) (h39 : m 39 w = nI pc) (h22 : m 22 w = nI g) (h27 : m 27 g = nI k) : ∃ m', trT fu (nI w) m = f_X11_turns_104 fu (nI w) (nI (npN pc k (m 29 0))) (fun (x_9 : Me) => some (x_9, ())) fu m' 1 0 ∧ (∀ f, inL [29, 39] f = false → m' f = m f) ∧ (∀ v, v ≠ w → m' 39 v = m 39 v) ∧ m' 39 w = nI (npN pc k (m 29 0)) ∧ m' 29 0 = nx (m 29 0) := by
  unfold trT
  rw [nI_clamp (by omega), h22, if_pos (inb_nI hg (by decide)), nI_clamp (by omega), h27, h39, show nI k / 250 = nI (k / 250) from pk_div (d := 250) (by omega) (by decide) (by decide), show (3 : Int32) + nI (k / 250) = nI (3 + k / 250) from nI_add 3 _, nI_1]
  have hm : (if nI (3 + k / 250) < nI (pc + 1) then nI (3 + k / 250) else nI (pc + 1)) = nI (if 3 + k / 250 < pc + 1 then 3 + k / 250 else pc + 1) := by
    by_cases q : 3 + k / 250 < pc + 1
    · rw [if_pos (nI_lt q (by omega)), if_pos q]
    · rw [if_neg (nI_nlt (by omega) (by omega)), if_neg q]
  have hm6 : 1 ≤ (if 3 + k / 250 < pc + 1 then 3 + k / 250 else pc + 1) ∧ (if 3 + k / 250 < pc + 1 then 3 + k / 250 else pc + 1) ≤ 10 := by split <;> omega
  rw [hm]
  unfold npN
  generalize (if 3 + k / 250 < pc + 1 then 3 + k / 250 else pc + 1) = q at hm6
  have key : ∀ p : Nat, p ≤ 10 → (if 1 < nI p then nI p else 1) = nI (if p < 1 then 1 else p) := fun p hp => by
    by_cases c : 1 < p
    · rw [if_pos (show (1 : Int32) < nI p from nI_lt (a := 1) c (by omega)), if_neg (by omega)]
    · rw [if_neg (show ¬ (1 : Int32) < nI p from nI_nlt (a := 1) (by omega) (by decide))]
      by_cases c2 : p < 1
      · rw [if_pos c2]; rfl
      · rw [if_neg c2, show p = 1 by omega]; rfl
  have hdv := dv_lt (m 29 0) (show 0 < 8 by decide)
  rw [show (8 : Int32) = nI 8 from rfl, drw_sp (by decide) (by decide), ob_s, show mu m 39 w (nI q) 29 0 = m 29 0 from rfl]
  dsimp only [jn]
  by_cases c : dv (m 29 0) 8 = 0
  · rw [if_pos (show nI (dv (m 29 0) 8) = 0 by rw [c]; rfl), if_pos c, show mu (mu m 39 w (nI q)) 29 0 (nx (m 29 0)) 39 w = nI q from mu_same m 39 w _, show nI q - 1 = nI (q - 1) from pk_sub (b := 1) hm6.1, mu_same, mu_same, key _ (by omega)]
    refine ⟨_, rfl, fun f hf => ?_, fun v hv => ?_, mu_same _ _ _ _, rfl⟩
    · rw [mu_fr _ _ _ hf rfl, mu_fr _ _ _ hf rfl, mu_fr _ _ _ hf rfl, mu_fr _ _ _ hf rfl]
    · rw [mu_nj _ _ _ _ _ _ hv, mu_nj _ _ _ _ _ _ hv]
      exact mu_ne m 39 w v _ hv
  · rw [if_neg (show ¬ nI (dv (m 29 0) 8) = 0 from fun z => c ((nI_eq (b := 0) (by omega) (by decide)).mp z)), if_neg c, show mu (mu m 39 w (nI q)) 29 0 (nx (m 29 0)) 39 w = nI q from mu_same m 39 w _, key _ (by omega), mu_same]
    refine ⟨_, rfl, fun f hf => ?_, fun v hv => ?_, mu_same _ _ _ _, rfl⟩
    · rw [mu_fr _ _ _ hf rfl, mu_fr _ _ _ hf rfl, mu_fr _ _ _ hf rfl]
    · rw [mu_nj _ _ _ _ _ _ hv]
      exact mu_ne m 39 w v _ hv
/-- pace and steps of a turn -/
theorem tt_sp (hfu : 70000 ≤ fu) {i : Nat} (hi : i < r) (hS : ST nw r h l lp s x m) (hD : DY r l lp s ar x m) (hon : x 43 i = -1) : ∃ x' m' ar', tkT fu nw i x = some (x', ()) ∧ trT fu (nI (s i)) m = some (m', ()) ∧ R2S r l lp s ar i x m x' m' ar' := by
  obtain ⟨⟨L1, L2, L3, L4, L5, L6⟩, n1, n2, ⟨pc, pc1, pc2⟩, n4, n5⟩ := hD.2.1 i hi
  obtain ⟨g, k, hg, hk, k1, k2, k3⟩ := hS.2.2.2.2.2.2.2.2 i hi
  have hr := hS.1.2.1
  have hnw := hS.1.1
  have hh := hS.1.2.2.1
  have hwn := (hS.2.2.2.2.1 i hi).1
  rw [tkP (by omega) hk pc1 pc2 k3]
  obtain ⟨m1, p1, p2, p3, p4, p5⟩ := trP (fu := fu) (m := m) (w := s i) (pc := pc) (k := k) (g := g) (by omega) hk pc1 (by omega) (by rw [← L3]; exact pc2) k1 k2
  rw [p1, ← hD.1.1]
  rw [← hD.1.1] at p4 p5
  have hnp := npN_le (pc := pc) (v := x 49 1) hk
  generalize npN pc k (x 49 1) = np at p4 hnp
  have hfx : ∀ f, inL FX f = false → mu (mu x 49 1 (nx (x 49 1))) 41 i (nI np) f = x f := fun f hf => by rw [mu_fr _ _ _ hf rfl, mu_fr _ _ _ hf rfl]
  have hfm : ∀ f, inL FM f = false → m1 f = m f := fun f hf => p2 f (inL_mono rfl hf)
  have hD1 : DY r l lp s ar (mu (mu x 49 1 (nx (x 49 1))) 41 i (nI np)) m1 := by
    refine DY_up hS hD hi (Nat.le_refl _) (fun j hj f hf => ?_) (fun v hv f hf => ?_) ⟨?_, ?_, ?_, ?_, ?_, ?_⟩ ⟨n1, n2, ⟨np, hnp, mu_same _ _ _ _⟩, n4, n5⟩ ⟨?_, hD.1.2.1, ?_, ?_⟩ (CN_eq hD.2.2.1 (fun j => rfl)) (fun _ j hj hji j1 j2 d' e hd' he q1 q2 => hD.2.2.2 i j hi hj (fun z => hji z.symm) hon j1 j2 d' e hd' he q1 q2)
    · rw [mu_nj _ _ _ _ _ _ hj, mu_of _ _ _ _ _ (inL_ne2 hf rfl)]
    · by_cases z : f = 39
      · subst z; exact p3 v hv
      · have : m1 f = m f := by
          refine p2 f ?_
          show cond (Nat.beq 29 f) true (cond (Nat.beq 39 f) true false) = false
          have hb : ∀ a : Nat, f ≠ a → Nat.beq a f = false := fun a ha => by
            cases q2 : Nat.beq a f with
            | true => exact absurd (Nat.eq_of_beq_eq_true q2).symm ha
            | false => rfl
          rw [hb 29 (inL_ne2 hf rfl), hb 39 z]
          rfl
        rw [this]
    · rw [p2 37 rfl]; exact L1
    · rw [p2 38 rfl]; exact L2
    · rw [mu_same, p4]
    · rw [p2 40 rfl]; exact L4
    · rw [p2 41 rfl]; exact L5
    · rw [p2 42 rfl]; exact L6
    · rw [p5]; rfl
    · rw [p2 43 rfl]; exact hD.1.2.2.1
    · rw [p2 45 rfl]; exact hD.1.2.2.2
  obtain ⟨x2, m2, a2, q1, q2, q3⟩ := lpS (fu := fu) (nw := nw) (h := h) (l := l) (lp := lp) (s := s) hfu hi hnp np 0 fu fu ar (mu (mu x 49 1 (nx (x 49 1))) 41 i (nI np)) m1 (by omega) (by omega) (by omega) (ST_of hS hfx hfm) hD1 hon
  refine ⟨x2, m2, a2, q1, q2, R2S_tr ⟨hfx, hfm, hD1, fun j hj => rfl, Nat.le_refl _, rfl, p2 49 rfl, rfl, p2 44 rfl⟩ q3⟩
end PUR27
