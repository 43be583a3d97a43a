noncomputable def nlF (r l : Nat) (x : Me) (d la : Nat) : Option Nat := if fre r l x d la = true then some la else nlB r l x d la
def B5 (r l lp : Nat) (s : Nat → Nat) (ar i b d : Nat) (x m x5 m5 : Me) : Prop := (∀ f, inL FX f = false → x5 f = x f) ∧ (∀ f, inL FM f = false → m5 f = m f) ∧ (x5 30 = x 30 ∧ m5 49 = m 49 ∧ x5 34 = x 34 ∧ m5 44 = m 44) ∧ (∀ j, j ≠ i → ∀ f, inL PX6 f = true → x5 f j = x f j) ∧ (∀ v, v ≠ s i → ∀ f, inL PM6 f = true → m5 f v = m f v) ∧ LK x5 m5 i (s i) ∧ (x5 39 i + 2 = nI (d + 1) ∧ x5 40 i = nI b ∧ (∃ pc, pc ≤ 6 ∧ x5 41 i = nI pc) ∧ (x5 42 i = 0 ∨ x5 42 i = 1) ∧ x5 43 i = -1) ∧ (x5 49 1 = m5 29 0 ∧ x5 35 0 = nI ar ∧ m5 43 0 = nI ar ∧ x5 36 0 = m5 45 0)
section PUR26
variable {fu nw r h l lp ar : Nat} {s : Nat → Nat} {x m : Me}
theorem tl3 {i b d : Nat} {x5 m5 : Me} {zz : Int32} (hzz : zz = 0 ∨ zz = 1) (hS : ST nw r h l lp s x m) (hD : DY r l lp s ar x m) (hi : i < r) (hon : x 43 i = -1) (h39 : x 39 i + 2 = nI d) (hd : d < lp * l + 2) (hb : b < 4) (hfree : ¬ OC r l x (d + 1) b) (hB : B5 r l lp s ar i b d x m x5 m5) :
    ∃ x' m' z ar', (if ((x 39 i) + 1) = ((x5 31 0) * (x5 25 0)) then ob (f_X2_arrive fu nw x5 i) (fun x_7 _ => some (x_7, 0)) else some (x5, zz)) = some (x', z) ∧ mvT (nI (s i)) m5 zz = some (m', z) ∧ RES r l lp s ar i x m x' m' z ar' := by
  obtain ⟨b1, b2, ⟨b3, b4, b5, b6⟩, b7, b8, b9, ⟨c1, c2, c3, c4, c5⟩, c6, c7, c8, c9⟩ := hB
  exact tl2 hzz hS hD hi hon h39 hd hb hfree b1 b2 b3 b4 b5 b6 b7 b8 b9 c1 c2 c3 c4 c5 c6 c7 c8 c9
theorem B5_draw {i b d : Nat} {x5 m5 : Me} (v : Int32) (hB : B5 r l lp s ar i b d x m x5 m5) : B5 r l lp s ar i b d x m (mu x5 49 1 v) (mu m5 29 0 v) := by
  obtain ⟨b1, b2, b3, b7, b8, b9, c1, c6, c7, c8, c9⟩ := hB
  exact ⟨fun f hf => by rw [mu_fr _ _ _ hf rfl]; exact b1 f hf, fun f hf => by rw [mu_fr _ _ _ hf rfl]; exact b2 f hf, b3, fun j hj f hf => by rw [mu_of _ _ _ _ _ (inL_ne2 hf rfl)]; exact b7 j hj f hf, fun j hj f hf => by rw [mu_of _ _ _ _ _ (inL_ne2 hf rfl)]; exact b8 j hj f hf, b9, c1, rfl, c7, c8, c9⟩
theorem B5_fall {i b d : Nat} {x5 m5 : Me} (hB : B5 r l lp s ar i b d x m x5 m5) : B5 r l lp s ar i b d x m (mu (mu x5 42 i 1) 41 i 1) (mu (mu m5 40 (s i) 1) 39 (s i) 1) := by
  obtain ⟨b1, b2, b3, b7, b8, ⟨L1, L2, L3, L4, L5, L6⟩, ⟨c1, c2, c3, c4, c5⟩, c6, c7, c8, c9⟩ := hB
  refine ⟨fun f hf => by rw [mu_fr _ _ _ hf rfl, mu_fr _ _ _ hf rfl]; exact b1 f hf, fun f hf => by rw [mu_fr _ _ _ hf rfl, mu_fr _ _ _ hf rfl]; exact b2 f hf, b3, fun j hj f hf => by rw [mu_nj _ _ _ _ _ _ hj, mu_nj _ _ _ _ _ _ hj]; exact b7 j hj f hf, fun j hj f hf => by rw [mu_nj _ _ _ _ _ _ hj, mu_nj _ _ _ _ _ _ hj]; exact b8 j hj f hf, ⟨L1, L2, ?_, ?_, L5, L6⟩, ⟨c1, c2, ⟨1, by omega, ?_⟩, Or.inr ?_, c5⟩, c6, c7, c8, c9⟩
  · rw [mu_same, mu_same]
  · exact (mu_same x5 42 i 1).trans (mu_same m5 40 (s i) 1).symm
  · rw [mu_same]; rfl
  · exact mu_same x5 42 i 1
theorem stX (hfu : 70000 ≤ fu) (hS : ST nw r h l lp s x m) (hD : DY r l lp s ar x m) {i d la : Nat} (hi : i < r) (h39 : x 39 i + 2 = nI d) (hd : d ≤ 399) (h40 : x 40 i = nI la) (hla : la < 4) : f_X2_stepOn fu nw x i = stB fu nw x i x (oI (nlF r l x (d + 1) la)) := by
  have hr := hS.1.2.1
  rw [stB_e, if_pos (show i < 10 by omega), h40, iX hfu hS hD (dS h39) (by omega) (by omega), ob_s]
  unfold nlF
  cases z : fre r l x (d + 1) la with
  | true =>
    rw [if_neg (show ¬ b01 true = 0 by decide), if_pos (show true = true from rfl), h40]
    rfl
  | false => rw [if_pos (show b01 false = 0 from rfl), if_neg (show ¬ false = true by decide), h40, lb_sp hfu hS hD (dS h39) (by omega) hla, ob_s]
theorem mvM (hfu : 70000 ≤ fu) (hS : ST nw r h l lp s x m) (hD : DY r l lp s ar x m) {w d la : Nat} (hw : w < nw) (h37 : m 37 w + 2 = nI d) (hd : d ≤ 399) (h38 : m 38 w = nI la) (hla : la < 4) : f_X11_moves fu m (nI w) = mvB fu (nI w) m (oI (nlF r l x (d + 1) la)) := by
  have hnw := hS.1.1
  have upM : ob (f_X11_isLane fu m (nI la + 1)) (fun x_20 r_20 => if r_20 = 0 then mvB fu (nI w) x_20 (-1) else ob (f_X11_isFree fu x_20 ((x_20 37 w) + 1) (nI la + 1)) (fun x_22 r_22 => if r_22 = 0 then mvB fu (nI w) x_22 (-1) else mvB fu (nI w) x_22 (nI la + 1))) = mvB fu (nI w) m (oI (if la < 3 ∧ fre r l x (d + 1) (la + 1) = true then some (la + 1) else none)) := by
    rw [nI_1, iL (by omega), ob_s]
    by_cases q : la < 3
    · rw [decide_eq_true (show la + 1 ≤ 3 by omega), if_neg (show ¬ b01 true = 0 by decide), iM hfu hS hD (dS h37) (by omega) (by omega), ob_s]
      cases z : fre r l x (d + 1) (la + 1) with
      | true => rw [if_neg (show ¬ b01 true = 0 by decide), if_pos (show la < 3 ∧ true = true from ⟨q, rfl⟩)]; rfl
      | false => rw [if_pos (show b01 false = 0 from rfl), if_neg (show ¬ (la < 3 ∧ false = true) from fun c => by cases c.2)]; rfl
    · rw [decide_eq_false (show ¬ la + 1 ≤ 3 by omega), if_pos (show b01 false = 0 from rfl), if_neg (show ¬ (la < 3 ∧ fre r l x (d + 1) (la + 1) = true) from fun c => q c.1)]; rfl
  rw [mvB_e, if_pos (inb_nI (by omega) (by decide)), nI_clamp (by omega), h38, iM hfu hS hD (dS h37) (by omega) (by omega), ob_s]
  unfold nlF nlB
  cases z : fre r l x (d + 1) la with
  | true =>
    rw [if_neg (show ¬ b01 true = 0 by decide), if_pos (show true = true from rfl)]
    rfl
  | false =>
    rw [if_pos (show b01 false = 0 from rfl), if_neg (show ¬ false = true by decide), iLm hla, ob_s]
    simp only [jn]
    by_cases q : 0 < la
    · rw [decide_eq_true q, if_neg (show ¬ b01 true = 0 by decide), show nI la - 1 = nI (la - 1) from pk_sub (b := 1) q, iM hfu hS hD (dS h37) (by omega) (by omega), ob_s]
      cases z2 : fre r l x (d + 1) (la - 1) with
      | true =>
        rw [if_neg (show ¬ b01 true = 0 by decide), if_pos (show 0 < la ∧ true = true from ⟨q, rfl⟩)]
        have e : nI la + (-1) = nI (la - 1) := by
          have := pk_m1 (la - 1)
          rw [show la - 1 + 1 = la by omega] at this
          exact this
        rw [e]
        rfl
      | false => rw [if_pos (show b01 false = 0 from rfl), upM, if_neg (show ¬ (0 < la ∧ false = true) from fun c => by cases c.2)]
    · rw [decide_eq_false q, if_pos (show b01 false = 0 from rfl), upM, if_neg (show ¬ (0 < la ∧ fre r l x (d + 1) (la - 1) = true) from fun c => q c.1)]
theorem mv_sp (hfu : 70000 ≤ fu) (hS : ST nw r h l lp s x m) (hD : DY r l lp s ar x m) {i : Nat} (hi : i < r) (hon : x 43 i = -1) : ∃ x' m' z ar', f_X2_stepOn fu nw x i = some (x', z) ∧ f_X11_moves fu m (nI (s i)) = some (m', z) ∧ RES r l lp s ar i x m x' m' z ar' := by
  obtain ⟨⟨L1, L2, L3, L4, L5, L6⟩, ⟨d, d1, d2, d3⟩, ⟨la, la1, la2⟩, ⟨pc, pc1, pc2⟩, n4, n5⟩ := hD.2.1 i hi
  have hd := d3 hon
  have hlp := lpl hS
  have hwn := (hS.2.2.2.2.1 i hi).1
  have hnw := hS.1.1
  have hr := hS.1.2.1
  have hl := hS.1.2.2.2.1
  have hl2 := hS.1.2.2.2.2.1
  have h25 := hS.2.1.2.2.2.2.1
  have h35 := hS.2.1.2.2.2.2.2.1
  have h37 : m 37 (s i) + 2 = nI d := by rw [← L1]; exact d1
  have h38 : m 38 (s i) = nI la := by rw [← L2]; exact la2
  rw [stX hfu hS hD hi d1 (by omega) la2 la1, mvM hfu hS hD hwn h37 (by omega) h38 la1]
  cases hn : nlF r l x (d + 1) la with
  | none =>
    unfold stB mvB
    rw [if_pos (show oI none = -1 from rfl), if_pos (show oI none = -1 from rfl), nI_clamp (by omega)]
    refine ⟨_, _, 0, ar, rfl, rfl, fun f hf => ?_, fun f hf => ?_, ?_, Or.inl rfl, fun z => absurd z (by decide), fun j hj => rfl, Nat.le_refl _, rfl, rfl, rfl, rfl⟩
    · rw [mu_fr _ _ _ hf rfl, mu_fr _ _ _ hf rfl]
    · rw [mu_fr _ _ _ hf rfl, mu_fr _ _ _ hf rfl]
    · refine DY_up hS hD hi (Nat.le_refl _) (fun j hj f hf => by rw [mu_nj _ _ _ _ _ _ hj, mu_nj _ _ _ _ _ _ hj]) (fun j hj f hf => by rw [mu_nj _ _ _ _ _ _ hj, mu_nj _ _ _ _ _ _ hj]) ⟨L1, L2, ?_, L4, L5, ?_⟩ ⟨⟨d, d1, d2, d3⟩, ⟨la, la1, la2⟩, ⟨0, by omega, ?_⟩, n4, n5⟩ hD.1 hD.2.2.1 (fun _ j hj hji j1 j2 d' e hd' he q1 q2 => hD.2.2.2 i j hi hj (fun z => hji z.symm) hon j1 j2 d' e hd' he q1 q2)
      · exact (mu_same x 41 i 0).trans (mu_same m 39 (s i) 0).symm
      · rw [mu_same, mu_same]
        show x 44 i + 1 = m 42 (s i) + 1
        rw [L6]
      · exact mu_same x 41 i 0
  | some b =>
    have hbp : b < 4 ∧ ¬ OC r l x (d + 1) b := by
      unfold nlF at hn
      by_cases z : fre r l x (d + 1) la = true
      · rw [if_pos z] at hn
        have := Option.some.inj hn
        subst this
        exact ⟨la1, fre_t z⟩
      · rw [if_neg z] at hn
        obtain ⟨z1, z2, _⟩ := nlB_p la1 hn
        exact ⟨z1, z2⟩
    obtain ⟨hb, hfree⟩ := hbp
    unfold stB mvB
    rw [if_neg (show ¬ oI (some b) = -1 from nI_n1 (by omega)), if_neg (show ¬ oI (some b) = -1 from nI_n1 (by omega)), nI_clamp (by omega), show oI (some b) = nI b from rfl]
    have hB : B5 r l lp s ar i b d x m (mu (mu x 39 i ((x 39 i) + 1)) 40 i (nI b)) (mu (mu m 38 (s i) (nI b)) 37 (s i) ((m 37 (s i)) + 1)) := by
      refine ⟨fun f hf => by rw [mu_fr _ _ _ hf rfl, mu_fr _ _ _ hf rfl], fun f hf => by rw [mu_fr _ _ _ hf rfl, mu_fr _ _ _ hf rfl], ⟨rfl, rfl, rfl, rfl⟩, fun j hj f hf => by rw [mu_nj _ _ _ _ _ _ hj, mu_nj _ _ _ _ _ _ hj], fun j hj f hf => by rw [mu_nj _ _ _ _ _ _ hj, mu_nj _ _ _ _ _ _ hj], ⟨?_, ?_, L3, L4, L5, L6⟩, ⟨?_, ?_, ⟨pc, pc1, pc2⟩, n4, hon⟩, hD.1⟩
      · rw [show mu (mu x 39 i ((x 39 i) + 1)) 40 i (nI b) 39 i = x 39 i + 1 from mu_same x 39 i _, mu_same, L1]
      · rw [mu_same]
        exact (mu_same m 38 (s i) (nI b)).symm
      · rw [show mu (mu x 39 i ((x 39 i) + 1)) 40 i (nI b) 39 i = x 39 i + 1 from mu_same x 39 i _]
        exact dS d1
      · exact mu_same _ _ _ _
    have e39 : mu (mu x 39 i ((x 39 i) + 1)) 40 i (nI b) 39 i = x 39 i + 1 := mu_same x 39 i _
    have e37 : mu (mu m 38 (s i) (nI b)) 37 (s i) ((m 37 (s i)) + 1) 37 (s i) = m 37 (s i) + 1 := mu_same _ _ _ _
    have hX25 : mu (mu x 39 i ((x 39 i) + 1)) 40 i (nI b) 25 0 = nI l := h25
    have hM35 : mu (mu m 38 (s i) (nI b)) 37 (s i) ((m 37 (s i)) + 1) 35 0 = nI l := h35
    have hX42 : mu (mu x 39 i ((x 39 i) + 1)) 40 i (nI b) 42 i = m 40 (s i) := L4
    have hM40 : mu (mu m 38 (s i) (nI b)) 37 (s i) ((m 37 (s i)) + 1) 40 (s i) = m 40 (s i) := rfl
    have hX41 : mu (mu x 39 i ((x 39 i) + 1)) 40 i (nI b) 41 i = m 39 (s i) := L3
    have hM39 : mu (mu m 38 (s i) (nI b)) 37 (s i) ((m 37 (s i)) + 1) 39 (s i) = m 39 (s i) := rfl
    have hX32 : mu (mu x 39 i ((x 39 i) + 1)) 40 i (nI b) 32 0 = m 47 0 := hS.2.1.2.2.2.2.2.2.2.2.1
    have hM47 : mu (mu m 38 (s i) (nI b)) 37 (s i) ((m 37 (s i)) + 1) 47 0 = m 47 0 := rfl
    have hX49 : mu (mu x 39 i ((x 39 i) + 1)) 40 i (nI b) 49 1 = m 29 0 := hD.1.1
    have hM29 : mu (mu m 38 (s i) (nI b)) 37 (s i) ((m 37 (s i)) + 1) 29 0 = m 29 0 := rfl
    have hM36 : ∀ c, mu (mu m 38 (s i) (nI b)) 37 (s i) ((m 37 (s i)) + 1) 36 c = m 36 c := fun c => rfl
    have hX26 : ∀ c, c < 60 → mu (mu x 39 i ((x 39 i) + 1)) 40 i (nI b) 26 c = m 36 c := fun c hc => (hS.2.2.1 c hc).1
    generalize mu (mu x 39 i ((x 39 i) + 1)) 40 i (nI b) = x1 at hB e39 hX25 hX42 hX41 hX32 hX49 hX26
    generalize mu (mu m 38 (s i) (nI b)) 37 (s i) ((m 37 (s i)) + 1) = m1 at hB e37 hM35 hM40 hM39 hM47 hM29 hM36
    have hc : cel l (d + 1) < 60 := Nat.lt_of_lt_of_le (Nat.mod_lt _ (by omega)) hl2
    have hbend : f_X2_isBend fu nw x1 (x 39 i + 1) = some (x1, if m 36 (cel l (d + 1)) = 0 then 0 else 1) := by
      unfold f_X2_isBend
      simp only [jn]
      rw [hX25, if_neg (nI_nle (by omega) (by omega)), fm_sp (d := d + 1) hl hl2 (dS d1) (by omega) (by omega), ob_s, if_neg (nI_pos (by omega)), if_neg (show ¬ (60 : Int32) ≤ nI (cel l (d + 1)) from nI_ge (b := 60) hc (by decide)), if_pos (inb_nI hc (by decide)), nI_clamp (by omega), hX26 _ hc]
      by_cases z : m 36 (cel l (d + 1)) = 0
      · rw [if_pos z, if_pos z]
      · rw [if_neg z, if_neg z]
    unfold f_X2_fallsHere
    rw [if_pos (show i < 10 by omega), e39, hbend, ob_s, e37, co_f hM35 hl hl2 (dS h37) (by omega), ob_s, if_pos (inb_nI hc (by decide)), nI_clamp (by omega), hM36, hM40, hM39, hM47, hX42, hX41, hX32]
    have nofall : ∃ x' m' z ar', ob (some (x1, (0 : Int32))) (fun x_4 r_4 => jn (fun (x_5 : Me) => if ((x 39 i) + 1) = ((x_5 31 0) * (x_5 25 0)) then ob (f_X2_arrive fu nw x_5 i) (fun x_7 _ => some (x_7, 0)) else if r_4 = 0 then some (x_5, 1) else some (x_5, 0)) (fun j_5 => if r_4 = 0 then j_5 x_4 else j_5 (mu (mu x_4 42 i 1) 41 i 1))) = some (x', z) ∧ mvT (nI (s i)) m1 1 = some (m', z) ∧ RES r l lp s ar i x m x' m' z ar' := by
      rw [ob_s]
      dsimp only [jn]
      rw [if_pos (show (0 : Int32) = 0 from rfl), if_pos (show (0 : Int32) = 0 from rfl)]
      exact tl3 (fu := fu) (nw := nw) (zz := 1) (Or.inr rfl) hS hD hi hon d1 hd hb hfree hB
    by_cases q1 : m 36 (cel l (d + 1)) = 0
    · rw [if_pos q1, if_pos q1, if_pos (show (0 : Int32) = 0 from rfl)]
      exact nofall
    · rw [if_neg q1, if_neg q1, if_neg n10]
      by_cases q2 : m 40 (s i) = 0
      · rw [if_pos q2, if_pos q2]
        by_cases q3 : m 39 (s i) ≤ m 47 0
        · rw [if_pos q3, if_pos q3]
          exact nofall
        · rw [if_neg q3, if_neg q3, show (4 : Int32) = nI 4 from rfl, bel1_sp (by decide) (by decide), drw_sp (by decide) (by decide), ob_s, ob_s, hX49, hM29]
          have hB2 := B5_draw (nx (m 29 0)) hB
          by_cases q4 : nI (dv (m 29 0) 4) = 0
          · rw [if_pos q4, if_pos q4, vz1, ob_s]
            dsimp only [jn]
            rw [if_neg n10, if_neg n10]
            exact tl3 (fu := fu) (nw := nw) (zz := 0) (Or.inl rfl) hS hD hi hon d1 hd hb hfree (B5_fall hB2)
          · rw [if_neg q4, if_neg q4, ob_s]
            dsimp only [jn]
            rw [if_pos (show (0 : Int32) = 0 from rfl), if_pos (show (0 : Int32) = 0 from rfl)]
            exact tl3 (fu := fu) (nw := nw) (zz := 1) (Or.inr rfl) hS hD hi hon d1 hd hb hfree hB2
      · rw [if_neg q2, if_neg q2]
        exact nofall
end PUR26
