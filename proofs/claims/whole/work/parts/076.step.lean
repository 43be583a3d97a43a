def stB (fu nw : Nat) (x : Me) (r1 : Nat) (x_3 : Me) (s_3 : Int32) : Option (Me × Int32) := if s_3 = (-1) then some ((mu (mu x_3 41 r1 0) 44 r1 ((x_3 44 r1) + 1)), 0) else ob (f_X2_fallsHere fu nw (mu (mu x_3 39 r1 ((x 39 r1) + 1)) 40 r1 s_3) r1) (fun x_4 r_4 => jn (fun (x_5 : Me) => if ((x 39 r1) + 1) = ((x_5 31 0) * (x_5 25 0)) then ob (f_X2_arrive fu nw x_5 r1) (fun x_7 _ => some (x_7, 0)) else if r_4 = 0 then some (x_5, 1) else some (x_5, 0)) (fun j_5 => if r_4 = 0 then j_5 x_4 else j_5 (mu (mu x_4 42 r1 1) 41 r1 1)))
def mvT (a1 : Int32) (x_6 : Me) (a3_6 : Int32) : Option (Me × Int32) := if ((x_6 46 0) * (x_6 35 0)) ≤ (x_6 37 a1.toNatClampNeg) then if (x_6 45 0) = (-1) then if (x_6 40 a1.toNatClampNeg) = 0 then some ((mu (mu (mu x_6 41 a1.toNatClampNeg (x_6 43 0)) 43 0 ((x_6 43 0) + 1)) 45 0 a1), 0) else if (x_6 48 0) = 0 then some ((mu (mu x_6 41 a1.toNatClampNeg (x_6 43 0)) 43 0 ((x_6 43 0) + 1)), 0) else some ((mu (mu (mu x_6 41 a1.toNatClampNeg (x_6 43 0)) 43 0 ((x_6 43 0) + 1)) 45 0 a1), 0) else some ((mu (mu x_6 41 a1.toNatClampNeg (x_6 43 0)) 43 0 ((x_6 43 0) + 1)), 0) else if z01 a3_6 = true then some (x_6, a3_6) else none
def mvB (fu : Nat) (a1 : Int32) (x_3 : Me) (a2_3 : Int32) : Option (Me × Int32) := if a2_3 = (-1) then some ((mu (mu x_3 39 a1.toNatClampNeg 0) 42 a1.toNatClampNeg ((x_3 42 a1.toNatClampNeg) + 1)), 0) else ob (f_X11_cellOf fu (mu (mu x_3 38 a1.toNatClampNeg a2_3) 37 a1.toNatClampNeg ((x_3 37 a1.toNatClampNeg) + 1)) ((mu (mu x_3 38 a1.toNatClampNeg a2_3) 37 a1.toNatClampNeg ((x_3 37 a1.toNatClampNeg) + 1)) 37 a1.toNatClampNeg)) (fun x_4 r_4 => if inb r_4 60 = true then if (x_4 36 r_4.toNatClampNeg) = 0 then mvT a1 x_4 1 else if (x_4 40 a1.toNatClampNeg) = 0 then if (x_4 39 a1.toNatClampNeg) ≤ (x_4 47 0) then mvT a1 x_4 1 else ob (f_X11_draws fu x_4 4) (fun x_12 r_12 => if r_12 = 0 then mvT a1 (mu (mu x_12 40 a1.toNatClampNeg (vp_nar .boolean 1)) 39 a1.toNatClampNeg 1) 0 else mvT a1 x_12 1) else mvT a1 x_4 1 else none)
theorem stB_e (fu nw : Nat) (x : Me) (r1 : Nat) : f_X2_stepOn fu nw x r1 = if r1 < 10 then ob (f_X2_isFree fu nw x ((x 39 r1) + 1) (x 40 r1)) (fun x_2 r_2 => if r_2 = 0 then ob (f_X2_laneBeside fu nw x_2 ((x 39 r1) + 1) (x_2 40 r1)) (fun x_11 r_11 => stB fu nw x r1 x_11 r_11) else stB fu nw x r1 x_2 (x_2 40 r1)) else none := rfl
theorem mvB_e (fu : Nat) (x : Me) (a1 : Int32) : f_X11_moves fu x a1 = if inb a1 17 = true then ob (f_X11_isFree fu x ((x 37 a1.toNatClampNeg) + 1) (x 38 a1.toNatClampNeg)) (fun x_2 r_2 => if r_2 = 0 then ob (f_X11_isLane fu x_2 ((x 38 a1.toNatClampNeg) - 1)) (fun x_18 r_18 => jn (fun (x_19 : Me) (a2_19 : Int32) => ob (f_X11_isLane fu x_19 (a2_19 + 1)) (fun x_20 r_20 => if r_20 = 0 then mvB fu a1 x_20 (-1) else ob (f_X11_isFree fu x_20 ((x_20 37 a1.toNatClampNeg) + 1) (a2_19 + 1)) (fun x_22 r_22 => if r_22 = 0 then mvB fu a1 x_22 (-1) else mvB fu a1 x_22 (a2_19 + 1)))) (fun j_19 => if r_18 = 0 then j_19 x_18 (x 38 a1.toNatClampNeg) else ob (f_X11_isFree fu x_18 ((x_18 37 a1.toNatClampNeg) + 1) ((x 38 a1.toNatClampNeg) - 1)) (fun x_25 r_25 => if r_25 = 0 then j_19 x_25 (x 38 a1.toNatClampNeg) else mvB fu a1 x_25 ((x 38 a1.toNatClampNeg) + (-1))))) else mvB fu a1 x_2 (x 38 a1.toNatClampNeg)) else none := rfl
abbrev PX6 : List Nat := [39, 40, 41, 42, 43, 44]
abbrev PM6 : List Nat := [37, 38, 39, 40, 41, 42]
section PUR25
variable {fu nw r h l lp ar : Nat} {s : Nat → Nat} {x m : Me}
theorem DY_up {i ar' : Nat} {x' m' : Me} (hS : ST nw r h l lp s x m) (hD : DY r l lp s ar x m) (hi : i < r) (haa : ar ≤ ar') (hx : ∀ j, j ≠ i → ∀ f, inL PX6 f = true → x' f j = x f j) (hm : ∀ v, v ≠ s i → ∀ f, inL PM6 f = true → m' f v = m f v) (hL : LK x' m' i (s i)) (hN : NB lp l ar' x' i) (h4 : x' 49 1 = m' 29 0 ∧ x' 35 0 = nI ar' ∧ m' 43 0 = nI ar' ∧ x' 36 0 = m' 45 0) (hC : CN r ar' x') (hI : x' 43 i = -1 → ∀ j, j < r → j ≠ i → x 43 j = -1 → x' 40 i = x 40 j → ∀ d e : Nat, d ≤ 400 → e ≤ 400 → x' 39 i + 2 = nI d → x 39 j + 2 = nI e → ¬ d % l = e % l) : DY r l lp s ar' x' m' := by
  refine ⟨h4, fun j hj => ?_, hC, fun a c ha hc hac q1 q2 q3 d e hd he d1 d2 => ?_⟩
  · by_cases q : j = i
    · rw [q]; exact ⟨hL, hN⟩
    · obtain ⟨g1, g2⟩ := hD.2.1 j hj
      have hsj : s j ≠ s i := fun z => q (hS.2.2.2.2.2.1 j i hj hi z)
      refine ⟨?_, ?_⟩
      · unfold LK
        rw [hx j q 39 rfl, hx j q 40 rfl, hx j q 41 rfl, hx j q 42 rfl, hx j q 43 rfl, hx j q 44 rfl, hm _ hsj 37 rfl, hm _ hsj 38 rfl, hm _ hsj 39 rfl, hm _ hsj 40 rfl, hm _ hsj 41 rfl, hm _ hsj 42 rfl]
        exact g1
      · unfold NB
        rw [hx j q 39 rfl, hx j q 40 rfl, hx j q 41 rfl, hx j q 42 rfl, hx j q 43 rfl]
        obtain ⟨n1, n2, n3, n4, n5⟩ := g2
        exact ⟨n1, n2, n3, n4, n5.imp id (fun ⟨k, k1, k2⟩ => ⟨k, by omega, k2⟩)⟩
  · by_cases qa : a = i
    · subst qa
      have qc : c ≠ a := fun z => hac z.symm
      rw [hx c qc 43 rfl] at q2
      rw [hx c qc 40 rfl] at q3
      rw [hx c qc 39 rfl] at d2
      exact hI q1 c hc qc q2 q3 d e hd he d1 d2
    · by_cases qc : c = i
      · subst qc
        rw [hx a qa 43 rfl] at q1
        rw [hx a qa 40 rfl] at q3
        rw [hx a qa 39 rfl] at d1
        exact fun z => hI q2 a ha qa q1 q3.symm e d he hd d2 d1 z.symm
      · rw [hx a qa 43 rfl] at q1
        rw [hx c qc 43 rfl] at q2
        rw [hx a qa 40 rfl, hx c qc 40 rfl] at q3
        rw [hx a qa 39 rfl] at d1
        rw [hx c qc 39 rfl] at d2
        exact hD.2.2.2 a c ha hc hac q1 q2 q3 d e hd he d1 d2
/-- what a move leaves -/
def RES (r l lp : Nat) (s : Nat → Nat) (ar i : Nat) (x m x' m' : Me) (z : Int32) (ar' : Nat) : Prop := (∀ f, inL FX f = false → x' f = x f) ∧ (∀ f, inL FM f = false → m' f = m f) ∧ DY r l lp s ar' x' m' ∧ (z = 0 ∨ z = 1) ∧ (z = 1 → x' 43 i = -1) ∧ (∀ j, j ≠ i → x' 43 j = x 43 j) ∧ ar ≤ ar' ∧ x' 30 = x 30 ∧ m' 49 = m 49 ∧ x' 34 = x 34 ∧ m' 44 = m 44
theorem CN_eq {x' : Me} (hC : CN r ar x) (h43 : ∀ j, x' 43 j = x 43 j) : CN r ar x' := by
  unfold CN
  rw [show (fun i => decide (x' 43 i = -1)) = (fun i => decide (x 43 i = -1)) from funext fun i => by rw [h43]]
  exact hC
theorem CN_up {i : Nat} {x' : Me} (hC : CN r ar x) (hi : i < r) (h1 : x 43 i = -1) (h2 : ¬ x' 43 i = -1) (h43 : ∀ j, j ≠ i → x' 43 j = x 43 j) : CN r (ar + 1) x' := by
  have := cnt_up (p := fun j => decide (x' 43 j = -1)) (q := fun j => decide (x 43 j = -1)) r hi (by simpa using h2) (by simpa using h1) (fun j _ hj => by rw [h43 j hj])
  unfold CN at hC ⊢
  omega
/-- behind the fall: arriving, or not -/
theorem tl2 {i b d : Nat} {x5 m5 : Me} {zz : Int32} (hzz : zz = 0 ∨ zz = 1) (hS : ST nw r h l lp s x m) (hD : DY r l lp s ar x m) (hi : i < r) (hon : x 43 i = -1) (h39 : x 39 i + 2 = nI d) (hd : d < lp * l + 2) (hb : b < 4) (hfree : ¬ OC r l x (d + 1) b)
    (fx : ∀ f, inL FX f = false → x5 f = x f) (fm : ∀ f, inL FM f = false → m5 f = m f) (x30 : x5 30 = x 30) (m49 : m5 49 = m 49) (x34 : x5 34 = x 34) (m44 : m5 44 = m 44) (px : ∀ j, j ≠ i → ∀ f, inL PX6 f = true → x5 f j = x f j) (pm' : ∀ v, v ≠ s i → ∀ f, inL PM6 f = true → m5 f v = m f v) (hL : LK x5 m5 i (s i))
    (h5 : x5 39 i + 2 = nI (d + 1)) (h40 : x5 40 i = nI b) (h41 : ∃ pc, pc ≤ 6 ∧ x5 41 i = nI pc) (h42 : x5 42 i = 0 ∨ x5 42 i = 1) (h43 : x5 43 i = -1) (e1 : x5 49 1 = m5 29 0) (e2 : x5 35 0 = nI ar) (e3 : m5 43 0 = nI ar) (e4 : x5 36 0 = m5 45 0) :
    ∃ x' m' z ar', (if ((x 39 i) + 1) = ((x5 31 0) * (x5 25 0)) then ob (f_X2_arrive fu nw x5 i) (fun x_7 _ => some (x_7, 0)) else some (x5, zz)) = some (x', z) ∧ mvT (nI (s i)) m5 zz = some (m', z) ∧ RES r l lp s ar i x m x' m' z ar' := by
  have hS0 := hS
  obtain ⟨⟨hnw, hr, _, hl, hl2, hlp1, hlp2⟩, ⟨_, _, _, _, c25, c35, c31, c46, c32, c33⟩, _⟩ := hS0
  have hlp := lpl hS
  have hwi := (hS.2.2.2.2.1 i hi).1
  obtain ⟨L1, L2, L3, L4, L5, L6⟩ := hL
  have hother : ∀ j, j < r → j ≠ i → x 43 j = -1 → nI b = x 40 j → ∀ d' e : Nat, d' ≤ 400 → e ≤ 400 → nI (d + 1) = nI d' → x 39 j + 2 = nI e → ¬ d' % l = e % l := fun j hj hji j1 j2 d' e hd' he q1 q2 q3 => by
    have : d + 1 = d' := (nI_eq (by omega) (by omega)).mp q1
    exact hfree ⟨j, e, hj, j1, j2.symm, q2, he, by rw [this]; exact q3.symm⟩
  unfold mvT
  rw [fx 31 rfl, fx 25 rfl, fm 46 rfl, fm 35 rfl, c31, c25, c46, c35, pk_mul, nI_clamp (by omega), ← L1]
  have hd1 := dS h39
  have harr : (x 39 i + 1 = nI (lp * l)) ↔ d + 1 = lp * l + 2 := dE hd1 (show nI (lp * l) + 2 = nI (lp * l + 2) by rw [show (2 : Int32) = nI 2 from rfl, nI_add]) (by omega) (by omega)
  have harr2 : (nI (lp * l) ≤ x5 39 i) ↔ d + 1 = lp * l + 2 := by
    rw [← Int32.not_lt, dL h5 (show nI (lp * l) + 2 = nI (lp * l + 2) by rw [show (2 : Int32) = nI 2 from rfl, nI_add]) (by omega) (by omega)]
    omega
  by_cases q : d + 1 = lp * l + 2
  · rw [if_pos (harr.mpr q), if_pos (harr2.mpr q)]
    unfold f_X2_arrive
    rw [if_pos (show i < 10 by omega), e2, e3, nI_1, ← e4, ← L4, fx 33 rfl, fm 48 rfl, c33, fx 37 rfl, (hS.2.2.2.2.1 i hi).2.2]
    have hn1 : ¬ nI ar = -1 := nI_n1 (by
      have := hD.2.2.1
      unfold CN at this
      omega)
    have fin : ∀ x' m' : Me, (∀ f, inL FX f = false → x' f = x5 f) → (∀ f, inL FM f = false → m' f = m5 f) → x' 30 = x5 30 → m' 49 = m5 49 → x' 34 = x5 34 → m' 44 = m5 44 → (∀ f, f ≠ 43 → inL PX6 f = true → x' f = x5 f) → (∀ f, f ≠ 41 → inL PM6 f = true → m' f = m5 f) → (∀ j, j ≠ i → x' 43 j = x5 43 j) → (∀ j, j ≠ s i → m' 41 j = m5 41 j) → x' 43 i = nI ar → m' 41 (s i) = nI ar → x' 49 = x5 49 → m' 29 = m5 29 → x' 35 0 = nI (ar + 1) → m' 43 0 = nI (ar + 1) → x' 36 0 = m' 45 0 → RES r l lp s ar i x m x' m' 0 (ar + 1) := by
      intro x' m' g1 g2 g30 g49' g34 g44 g3 g4 g5 g6 g7 g8 g9 g10 g11 g12 g13
      have g543 : ∀ j, j ≠ i → x' 43 j = x 43 j := fun j hj => by rw [g5 j hj, px j hj 43 rfl]
      refine ⟨fun f hf => by rw [g1 f hf, fx f hf], fun f hf => by rw [g2 f hf, fm f hf], ?_, Or.inl rfl, fun z => absurd z (by decide), g543, by omega, by rw [g30, x30], by rw [g49', m49], by rw [g34, x34], by rw [g44, m44]⟩
      refine DY_up hS hD hi (by omega) (fun j hj f hf => ?_) (fun v hv f hf => ?_) ?_ ?_ ⟨by rw [g9, g10]; exact e1, g11, g12, g13⟩ (CN_up hD.2.2.1 hi hon (by rw [g7]; exact hn1) g543) (fun z => absurd z (by rw [g7]; exact hn1))
      · by_cases z : f = 43
        · subst z; exact g543 j hj
        · rw [g3 f z hf]
          exact px j hj f hf
      · by_cases z : f = 41
        · subst z; rw [g6 v hv]; exact pm' v hv 41 rfl
        · rw [g4 f z hf]
          exact pm' v hv f hf
      · unfold LK
        rw [g3 39 (by decide) rfl, g3 40 (by decide) rfl, g3 41 (by decide) rfl, g3 42 (by decide) rfl, g3 44 (by decide) rfl, g4 37 (by decide) rfl, g4 38 (by decide) rfl, g4 39 (by decide) rfl, g4 40 (by decide) rfl, g4 42 (by decide) rfl, g7, g8]
        exact ⟨L1, L2, L3, L4, rfl, L6⟩
      · unfold NB
        rw [g3 39 (by decide) rfl, g3 40 (by decide) rfl, g3 41 (by decide) rfl, g3 42 (by decide) rfl, g7]
        exact ⟨⟨d + 1, h5, by omega, fun z => absurd z hn1⟩, ⟨b, hb, h40⟩, h41, h42, Or.inr ⟨ar, by omega, rfl⟩⟩
    have finN : RES r l lp s ar i x m (mu (mu x5 43 i (nI ar)) 35 0 (nI (ar + 1))) (mu (mu m5 41 (s i) (nI ar)) 43 0 (nI (ar + 1))) 0 (ar + 1) := fin _ _ (fun f hf => by rw [mu_fr _ _ _ hf rfl, mu_fr _ _ _ hf rfl]) (fun f hf => by rw [mu_fr _ _ _ hf rfl, mu_fr _ _ _ hf rfl]) rfl rfl rfl rfl (fun f hz hf => by rw [mu_of _ _ _ _ _ (inL_ne2 hf rfl), mu_of _ _ _ _ _ hz]) (fun f hz hf => by rw [mu_of _ _ _ _ _ (inL_ne2 hf rfl), mu_of _ _ _ _ _ hz]) (fun j hj => mu_ne x5 43 i j _ hj) (fun j hj => mu_ne m5 41 (s i) j _ hj) (mu_same x5 43 i _) (mu_same m5 41 (s i) _) rfl rfl rfl rfl e4
    have finW : RES r l lp s ar i x m (mu (mu (mu x5 43 i (nI ar)) 35 0 (nI (ar + 1))) 36 0 (nI (s i))) (mu (mu (mu m5 41 (s i) (nI ar)) 43 0 (nI (ar + 1))) 45 0 (nI (s i))) 0 (ar + 1) := fin _ _ (fun f hf => by rw [mu_fr _ _ _ hf rfl, mu_fr _ _ _ hf rfl, mu_fr _ _ _ hf rfl]) (fun f hf => by rw [mu_fr _ _ _ hf rfl, mu_fr _ _ _ hf rfl, mu_fr _ _ _ hf rfl]) rfl rfl rfl rfl (fun f hz hf => by rw [mu_of _ _ _ _ _ (inL_ne2 hf rfl), mu_of _ _ _ _ _ (inL_ne2 hf rfl), mu_of _ _ _ _ _ hz]) (fun f hz hf => by rw [mu_of _ _ _ _ _ (inL_ne2 hf rfl), mu_of _ _ _ _ _ (inL_ne2 hf rfl), mu_of _ _ _ _ _ hz]) (fun j hj => mu_ne x5 43 i j _ hj) (fun j hj => mu_ne m5 41 (s i) j _ hj) (mu_same x5 43 i _) (mu_same m5 41 (s i) _) rfl rfl rfl rfl rfl
    by_cases w1 : x5 36 0 = -1
    · rw [if_pos w1, if_pos w1]
      by_cases w2 : m 48 0 = 0
      · rw [if_pos w2, if_pos w2]
        by_cases w3 : x5 42 i = 0
        · rw [if_pos w3, if_pos w3]
          exact ⟨_, _, _, _, rfl, rfl, finW⟩
        · rw [if_neg w3, if_neg w3]
          exact ⟨_, _, _, _, rfl, rfl, finN⟩
      · rw [if_neg w2, if_neg w2]
        by_cases w3 : x5 42 i = 0
        · rw [if_pos w3]
          exact ⟨_, _, _, _, rfl, rfl, finW⟩
        · rw [if_neg w3]
          exact ⟨_, _, _, _, rfl, rfl, finW⟩
    · rw [if_neg w1, if_neg w1]
      exact ⟨_, _, _, _, rfl, rfl, finN⟩
  · rw [if_neg (fun z => q (harr.mp z)), if_neg (fun z => q (harr2.mp z)), if_pos (show z01 zz = true by rcases hzz with rfl | rfl <;> rfl)]
    have g543 : ∀ j, j ≠ i → x5 43 j = x 43 j := fun j hj => px j hj 43 rfl
    refine ⟨x5, m5, zz, ar, rfl, rfl, fx, fm, ?_, hzz, fun _ => h43, g543, Nat.le_refl _, x30, m49, x34, m44⟩
    refine DY_up hS hD hi (Nat.le_refl _) px pm' ⟨L1, L2, L3, L4, L5, L6⟩ ⟨⟨d + 1, h5, by omega, fun _ => by omega⟩, ⟨b, hb, h40⟩, h41, h42, Or.inl h43⟩ ⟨e1, e2, e3, e4⟩ (CN_eq hD.2.2.1 (fun j => by
      by_cases z : j = i
      · rw [z, h43, hon]
      · exact g543 j z)) (fun _ j hj hji j1 j2 d' e hd' he q1 q2 => hother j hj hji j1 (by rw [← h40]; exact j2) d' e hd' he (by rw [← h5]; exact q1) q2)
end PUR25
