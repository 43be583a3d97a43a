def foS (r1 : Nat) (x_7 : Me) (a4_7 : Int32) : Option (Me × Unit) := if a4_7 = (-1) then some (x_7, ()) else some ((mu x_7 40 r1 a4_7), ())
def foH (fu nw : Nat) (r1 m_4 : Nat) (s_2 : Int32) (x_9 : Me) (a4_9 : Int32) : Option (Me × Unit) := if s_2 = 2 then if a4_9 = (x_9 40 m_4) then ob (f_X2_laneBeside fu nw x_9 (x_9 39 r1) a4_9) (fun x_10 r_10 => foS r1 x_10 r_10) else foS r1 x_9 a4_9 else foS r1 x_9 a4_9
def foB (fu nw : Nat) (r1 : Nat) (x_2 : Me) (s_2 : Int32) : Option (Me × Unit) := if s_2 = 0 then some (x_2, ()) else if inb (x_2 37 r1) 17 = true then ob (f_X2_find fu nw x_2 (x_2 28 ((x_2 37 r1).toNatClampNeg))) (fun x_4 r_4 => om r_4 (some (x_4, ())) (fun m_4 => if m_4 < 10 then ob (f_X4_onRing fu nw x_4 m_4) (fun x_5 r_5 => if r_5 = 0 then some (x_5, ()) else ob (f_X4_isCloseAheadOf fu nw x_5 r1 m_4) (fun x_6 r_6 => if r_6 = 0 then some (x_6, ()) else (if s_2 = 1 then if (if 0 ≤ ((x_6 40 r1) - (x_6 40 m_4)) then ((x_6 40 r1) - (x_6 40 m_4)) else 0 - ((x_6 40 r1) - (x_6 40 m_4))) = 1 then ob (f_X2_isFree fu nw x_6 (x_6 39 r1) (x_6 40 m_4)) (fun x_13 r_13 => if r_13 = 0 then foH fu nw r1 m_4 s_2 x_13 (x_6 40 r1) else foS r1 x_13 (x_13 40 m_4)) else foH fu nw r1 m_4 s_2 x_6 (x_6 40 r1) else foH fu nw r1 m_4 s_2 x_6 (x_6 40 r1)))) else none)) else none
theorem foB_e (fu nw : Nat) (x : Me) (r1 : Nat) : f_X2_followOrders fu nw x r1 = if r1 < 10 then (if (x 37 r1) < 0 then foB fu nw r1 x 0 else if 17 ≤ (x 37 r1) then foB fu nw r1 x 0 else if inb (x 37 r1) 17 = true then foB fu nw r1 x (x 27 ((x 37 r1).toNatClampNeg)) else none) else none := rfl
def obF (fu : Nat) (w o : Nat) (x_15 : Me) (s_15 : Int32) : Option (Me × Unit) := if s_15 = 0 then some (x_15, ()) else ob (f_X11_isFree fu x_15 (x_15 37 w) (x_15 38 o)) (fun x_16 r_16 => if r_16 = 0 then some (x_16, ()) else some ((mu x_16 38 w (x_16 38 o)), ()))
def obU (fu : Nat) (w : Nat) (x_6 : Me) : Option (Me × Unit) := ob (f_X11_isLane fu x_6 ((x_6 38 w) + 1)) (fun x_7 r_7 => if r_7 = 0 then some (x_7, ()) else ob (f_X11_isFree fu x_7 (x_7 37 w) ((x_7 38 w) + 1)) (fun x_8 r_8 => if r_8 = 0 then some (x_8, ()) else some ((mu x_8 38 w ((x_8 38 w) + 1)), ())))
def obH (fu : Nat) (w o : Nat) (x_4 : Me) : Option (Me × Unit) := if (x_4 24 w) = 1 then (if (x_4 38 o) = ((x_4 38 w) + 1) then obF fu w o x_4 1 else if (x_4 38 o) = ((x_4 38 w) - 1) then obF fu w o x_4 1 else obF fu w o x_4 0) else if (x_4 38 o) = (x_4 38 w) then ob (f_X11_isLane fu x_4 ((x_4 38 w) - 1)) (fun x_5 r_5 => if r_5 = 0 then obU fu w x_5 else ob (f_X11_isFree fu x_5 (x_5 37 w) ((x_5 38 w) - 1)) (fun x_11 r_11 => if r_11 = 0 then obU fu w x_11 else some ((mu x_11 38 w ((x_11 38 w) - 1)), ()))) else some (x_4, ())
theorem obH_e (fu : Nat) (x : Me) (a1 : Int32) : f_X11_obeys fu x a1 = if inb a1 17 = true then ob (f_X11_isOn fu x (x 25 a1.toNatClampNeg)) (fun x_2 r_2 => if r_2 = 0 then some (x_2, ()) else if inb (x 25 a1.toNatClampNeg) 17 = true then (if (x_2 37 ((x 25 a1.toNatClampNeg).toNatClampNeg)) = ((x_2 37 a1.toNatClampNeg) - 1) then obH fu a1.toNatClampNeg ((x 25 a1.toNatClampNeg).toNatClampNeg) x_2 else if (x_2 37 ((x 25 a1.toNatClampNeg).toNatClampNeg)) = ((x_2 37 a1.toNatClampNeg) - 2) then obH fu a1.toNatClampNeg ((x 25 a1.toNatClampNeg).toNatClampNeg) x_2 else some (x_2, ())) else none) else none := rfl
theorem ab4 : ∀ a b : Fin 4, ((if 0 ≤ (nI a.val - nI b.val) then (nI a.val - nI b.val) else 0 - (nI a.val - nI b.val)) = 1 ↔ (b.val = a.val + 1 ∨ a.val = b.val + 1)) ∧ (nI b.val = nI a.val + 1 ↔ b.val = a.val + 1) ∧ (nI b.val = nI a.val - 1 ↔ a.val = b.val + 1) := by decide +kernel
section PUR28
variable {fu nw r h l lp ar : Nat} {s : Nat → Nat} {x m : Me}
theorem fdY {j o : Nat} {K : Me → Option (Me × Option Nat)} (hS : ST nw r h l lp s x m) (hj : j < r) (ho : s j = o) : ∀ (k i n : Nat), i + k = j → k < n → f_X2_find_2 fu nw (nI o) K n x (nI i) = some (x, some j)
  | 0, i, n + 1, hi, _ => by
    have hr := hS.1.2.1
    have e : i = j := hi
    rw [f_X2_find_2_s, hS.2.1.2.2.1, e, if_neg (nI_ge hj (by omega)), if_pos (inb_nI (by omega) (by decide)), nI_clamp (by omega), (hS.2.2.2.2.1 j hj).2.2, ho, if_pos (show nI o = nI o from rfl)]
  | k + 1, i, n + 1, hi, hn => by
    have hr := hS.1.2.1
    have hnw := hS.1.1
    have hsi := hS.2.2.2.2.1 i (by omega)
    have hsj := (hS.2.2.2.2.1 j hj).1
    rw [f_X2_find_2_s, hS.2.1.2.2.1, if_neg (nI_ge (by omega) (by omega)), if_pos (inb_nI (by omega) (by decide)), nI_clamp (by omega), hsi.2.2, if_neg (fun z => by
      have := (nI_eq (by have := hsi.1; omega) (by omega)).mp z
      have := hS.2.2.2.2.2.1 i j (by omega) hj (by omega)
      omega), nI_1]
    exact fdY hS hj ho k (i + 1) n (by omega) (by omega)
  | 0, _, 0, _, h => absurd h (by omega)
  | k + 1, _, 0, _, h => absurd h (by omega)
theorem fdN {o : Nat} {K : Me → Option (Me × Option Nat)} (hS : ST nw r h l lp s x m) (ho31 : o < 17) (ho : ∀ j, j < r → s j ≠ o) : ∀ (k i n : Nat), i + k = r → k < n → f_X2_find_2 fu nw (nI o) K n x (nI i) = K x
  | 0, i, n + 1, hi, _ => by
    have hr := hS.1.2.1
    rw [f_X2_find_2_s, hS.2.1.2.2.1, if_pos (nI_le (by omega) (by omega))]
  | k + 1, i, n + 1, hi, hn => by
    have hr := hS.1.2.1
    have hnw := hS.1.1
    have hsi := hS.2.2.2.2.1 i (by omega)
    rw [f_X2_find_2_s, hS.2.1.2.2.1, if_neg (nI_ge (by omega) (by omega)), if_pos (inb_nI (by omega) (by decide)), nI_clamp (by omega), hsi.2.2, if_neg (fun z => ho i (by omega) ((nI_eq (by have := hsi.1; omega) (by omega)).mp z)), nI_1]
    exact fdN hS ho31 ho k (i + 1) n (by omega) (by omega)
  | 0, _, 0, _, h => absurd h (by omega)
  | k + 1, _, 0, _, h => absurd h (by omega)
theorem R2S_id {i : Nat} (hD : DY r l lp s ar x m) : R2S r l lp s ar i x m x m ar := ⟨fun _ _ => rfl, fun _ _ => rfl, hD, fun _ _ => rfl, Nat.le_refl _, rfl, rfl, rfl, rfl⟩
theorem R2S_ln {i d b : Nat} (hS : ST nw r h l lp s x m) (hD : DY r l lp s ar x m) (hi : i < r) (h39 : x 39 i + 2 = nI d) (hd : d ≤ 400) (hb : b < 4) (hfree : ¬ OC r l x d b) : R2S r l lp s ar i x m (mu x 40 i (nI b)) (mu m 38 (s i) (nI b)) ar := by
  obtain ⟨⟨L1, L2, L3, L4, L5, L6⟩, n1, n2, n3, n4, n5⟩ := hD.2.1 i hi
  refine ⟨fun f hf => by rw [mu_fr _ _ _ hf rfl], fun f hf => by rw [mu_fr _ _ _ hf rfl], ?_, fun j hj => rfl, Nat.le_refl _, rfl, rfl, rfl, rfl⟩
  refine DY_up hS hD hi (Nat.le_refl _) (fun j hj f hf => by rw [mu_nj _ _ _ _ _ _ hj]) (fun v hv f hf => by rw [mu_nj _ _ _ _ _ _ hv]) ⟨L1, by rw [mu_same, mu_same], L3, L4, L5, L6⟩ ⟨n1, ⟨b, hb, mu_same _ _ _ _⟩, n3, n4, n5⟩ hD.1 (CN_eq hD.2.2.1 (fun j => rfl)) (fun _ j hj hji j1 j2 d' e hd' he q1 q2 q3 => ?_)
  have q1' : nI d = nI d' := h39.symm.trans q1
  have : d = d' := (nI_eq (by omega) (by omega)).mp q1'
  rw [mu_same] at j2
  exact hfree ⟨j, e, hj, j1, j2.symm, q2, he, by rw [this]; exact q3.symm⟩
theorem foS_id {i la : Nat} (h40 : x 40 i = nI la) (hla : la < 4) : foS i x (nI la) = some (x, ()) := by
  unfold foS
  rw [if_neg (nI_n1 (by omega)), mu_id h40]
theorem fo_sp (hfu : 70000 ≤ fu) {i : Nat} (hi : i < r) (hS : ST nw r h l lp s x m) (hD : DY r l lp s ar x m) : ∃ x' m', f_X2_followOrders fu nw x i = some (x', ()) ∧ (if m 24 (s i) ≤ 0 then some (m, ()) else f_X11_obeys fu m (nI (s i))) = some (m', ()) ∧ R2S r l lp s ar i x m x' m' ar ∧ x' 43 = x 43 := by
  obtain ⟨⟨L1, L2, L3, L4, L5, L6⟩, ⟨d, d1, d2, d3⟩, ⟨la, la1, la2⟩, n3, n4, n5⟩ := hD.2.1 i hi
  have hlp := lpl hS
  have hr := hS.1.2.1
  have hnw := hS.1.1
  obtain ⟨hwn, _, h37⟩ := hS.2.2.2.2.1 i hi
  have hd : d ≤ 400 := by omega
  rw [foB_e, if_pos (show i < 10 by omega), h37, if_neg (nI_pos (by omega)), if_neg (show ¬ (17 : Int32) ≤ nI (s i) from nI_ge (b := 17) (by omega) (by decide)), if_pos (inb_nI (by omega) (by decide)), nI_clamp (by omega)]
  obtain ⟨o1, o2, o3⟩ := hS.2.2.2.1 (s i) (by omega)
  rw [o1]
  have h38 : m 38 (s i) = nI la := by rw [← L2]; exact la2
  have h37m : m 37 (s i) + 2 = nI d := by rw [← L1]; exact d1
  rcases o3 with o3 | ⟨o3, o, ho1, ho2, ho3⟩
  · unfold foB
    rw [o3, if_pos (show (0 : Int32) = 0 from rfl), if_pos (show (0 : Int32) ≤ 0 by decide)]
    exact ⟨x, m, rfl, rfl, R2S_id hD, rfl⟩
  · have hn0 : ¬ m 24 (s i) = 0 := by rcases o3 with q | q <;> (rw [q]; decide)
    have hnl : ¬ m 24 (s i) ≤ 0 := by rcases o3 with q | q <;> (rw [q]; decide)
    rw [if_neg hnl, obH_e, if_pos (inb_nI (by omega) (by decide)), nI_clamp (by omega)]
    unfold foB
    rw [if_neg hn0, h37, if_pos (inb_nI (by omega) (by decide)), nI_clamp (by omega), o2, ho3]
    unfold f_X2_find f_X11_isOn
    rw [if_pos (inb_nI (by omega) (by decide)), nI_clamp (by omega)]
    rcases hS.2.2.2.2.2.2.2.1 o ho1 with q0 | q0
    · have hno : ∀ j, j < r → s j ≠ o := fun j hj hjo => by
        have := (hS.2.2.2.2.1 j hj).2.1
        rw [hjo, q0] at this
        exact absurd this (by decide)
      rw [if_pos q0, ob_s, if_pos (show (0 : Int32) = 0 from rfl), show f_X2_find_2 fu nw (nI o) (fun (x_4 : Me) => some (x_4, none)) fu x 0 = some (x, none) from fdN (fu := fu) hS (by omega) hno r 0 fu (by omega) (by omega), ob_s, om_0]
      exact ⟨x, m, rfl, rfl, R2S_id hD, rfl⟩
    · obtain ⟨j, hj, hjo⟩ := hS.2.2.2.2.2.2.1 o ho1 q0
      obtain ⟨⟨M1, M2, M3, M4, M5, M6⟩, ⟨e, e1, e2, e3⟩, ⟨lb, lb1, lb2⟩, _⟩ := hD.2.1 j hj
      rw [hjo] at M1 M2 M3 M4 M5 M6
      have h38o : m 38 o = nI lb := by rw [← M2]; exact lb2
      rw [if_neg (show ¬ m 23 o = 0 by rw [q0]; decide), show f_X2_find_2 fu nw (nI o) (fun (x_4 : Me) => some (x_4, none)) fu x 0 = some (x, some j) from fdY (fu := fu) hS hj hjo j 0 fu (by omega) (by omega), ob_s, om_1, if_pos (show j < 10 by omega), ← M5]
      unfold f_X4_onRing
      rw [if_pos (show j < 10 by omega)]
      by_cases qon : x 43 j = -1
      · rw [if_pos qon, if_pos qon, ob_s, ob_s, if_neg n10, if_neg n10, if_pos (inb_nI (by omega) (by decide))]
        unfold f_X4_isCloseAheadOf
        rw [if_pos (show i < 10 by omega), if_pos (show j < 10 by omega), ← M1, ← L1]
        have main : ∃ x' m', (if m 24 (s i) = 1 then if (if 0 ≤ ((x 40 i) - (x 40 j)) then ((x 40 i) - (x 40 j)) else 0 - ((x 40 i) - (x 40 j))) = 1 then ob (f_X2_isFree fu nw x (x 39 i) (x 40 j)) (fun x_13 r_13 => if r_13 = 0 then foH fu nw i j (m 24 (s i)) x_13 (x 40 i) else foS i x_13 (x_13 40 j)) else foH fu nw i j (m 24 (s i)) x (x 40 i) else foH fu nw i j (m 24 (s i)) x (x 40 i)) = some (x', ()) ∧ obH fu (s i) o m = some (m', ()) ∧ R2S r l lp s ar i x m x' m' ar ∧ x' 43 = x 43 := by
          unfold obH
          rw [la2, lb2, h38, h38o]
          obtain ⟨a1, a2, a3⟩ := ab4 ⟨la, la1⟩ ⟨lb, lb1⟩
          have a1' : ((if 0 ≤ (nI la - nI lb) then (nI la - nI lb) else 0 - (nI la - nI lb)) = 1 ↔ (lb = la + 1 ∨ la = lb + 1)) := a1
          have a2' : (nI lb = nI la + 1 ↔ lb = la + 1) := a2
          have a3' : (nI lb = nI la - 1 ↔ la = lb + 1) := a3
          rcases o3 with o3 | o3
          · rw [o3, if_pos (show (1 : Int32) = 1 from rfl), if_pos (show (1 : Int32) = 1 from rfl)]
            have hfoH : foH fu nw i j 1 x (nI la) = some (x, ()) := by
              unfold foH
              rw [if_neg (show ¬ (1 : Int32) = 2 by decide), foS_id la2 la1]
            by_cases qa : lb = la + 1 ∨ la = lb + 1
            · have hF : (if nI lb = nI la + 1 then obF fu (s i) o m 1 else if nI lb = nI la - 1 then obF fu (s i) o m 1 else obF fu (s i) o m 0) = obF fu (s i) o m 1 := by
                rcases qa with qa | qa
                · rw [if_pos (a2'.mpr qa)]
                · rw [if_pos (a3'.mpr qa)]; split <;> rfl
              rw [if_pos (a1'.mpr qa), hF, iX hfu hS hD d1 hd (by omega), ob_s]
              unfold obF
              rw [if_neg n10, h38o, iM hfu hS hD h37m hd (by omega), ob_s]
              cases z : fre r l x d lb with
              | true =>
                rw [if_neg (show ¬ b01 true = 0 by decide), if_neg (show ¬ b01 true = 0 by decide), lb2, h38o]
                unfold foS
                rw [if_neg (nI_n1 (by omega))]
                exact ⟨_, _, rfl, rfl, R2S_ln hS hD hi d1 hd lb1 (fre_t z), rfl⟩
              | false =>
                rw [if_pos (show b01 false = 0 from rfl), if_pos (show b01 false = 0 from rfl), hfoH]
                exact ⟨x, m, rfl, rfl, R2S_id hD, rfl⟩
            · rw [if_neg (fun z => qa (a1'.mp z)), if_neg (fun z => qa (Or.inl (a2'.mp z))), if_neg (fun z => qa (Or.inr (a3'.mp z))), hfoH]
              unfold obF
              rw [if_pos (show (0 : Int32) = 0 from rfl)]
              exact ⟨x, m, rfl, rfl, R2S_id hD, rfl⟩
          · rw [o3, if_neg (show ¬ (2 : Int32) = 1 by decide), if_neg (show ¬ (2 : Int32) = 1 by decide)]
            unfold foH
            rw [if_pos (show (2 : Int32) = 2 from rfl), lb2]
            by_cases ql : la = lb
            · rw [if_pos (show nI la = nI lb by rw [ql]), if_pos (show nI lb = nI la by rw [ql]), lb_sp hfu hS hD d1 hd la1, ob_s, iLm la1, ob_s]
              have hU : obU fu (s i) m = some ((if la < 3 ∧ fre r l x d (la + 1) = true then mu m 38 (s i) (nI (la + 1)) else m), ()) := by
                unfold obU
                rw [h38, nI_1, iL (by omega), ob_s]
                by_cases q3 : la < 3
                · rw [decide_eq_true (show la + 1 ≤ 3 by omega), if_neg (show ¬ b01 true = 0 by decide), h38, nI_1, iM hfu hS hD h37m hd (by omega), ob_s]
                  cases z : fre r l x d (la + 1) with
                  | true => rw [if_neg (show ¬ b01 true = 0 by decide), h38, nI_1, if_pos (show la < 3 ∧ true = true from ⟨q3, rfl⟩)]
                  | false => rw [if_pos (show b01 false = 0 from rfl), if_neg (show ¬ (la < 3 ∧ false = true) from fun c => by cases c.2)]
                · rw [decide_eq_false (show ¬ la + 1 ≤ 3 by omega), if_pos (show b01 false = 0 from rfl), if_neg (show ¬ (la < 3 ∧ fre r l x d (la + 1) = true) from fun c => q3 c.1)]
              have hup : ∀ X : Option (Me × Unit), X = obU fu (s i) m → nlB r l x d la = (if la < 3 ∧ fre r l x d (la + 1) = true then some (la + 1) else none) → ∃ x' m', foS i x (oI (nlB r l x d la)) = some (x', ()) ∧ X = some (m', ()) ∧ R2S r l lp s ar i x m x' m' ar ∧ x' 43 = x 43 := by
                intro X hXe hn
                rw [hXe, hU]
                by_cases q3 : la < 3 ∧ fre r l x d (la + 1) = true
                · rw [if_pos q3] at hn ⊢
                  rw [hn]
                  unfold foS
                  rw [if_neg (show ¬ oI (some (la + 1)) = -1 from nI_n1 (by omega))]
                  exact ⟨_, _, rfl, rfl, R2S_ln hS hD hi d1 hd (by omega) (fre_t q3.2), rfl⟩
                · rw [if_neg q3] at hn ⊢
                  rw [hn]
                  exact ⟨x, m, rfl, rfl, R2S_id hD, rfl⟩
              by_cases q : 0 < la
              · rw [decide_eq_true q, if_neg (show ¬ b01 true = 0 by decide), h38, show nI la - 1 = nI (la - 1) from pk_sub (b := 1) q, iM hfu hS hD h37m hd (by omega), ob_s]
                cases z : fre r l x d (la - 1) with
                | true =>
                  rw [if_neg (show ¬ b01 true = 0 by decide), h38, show nI la - 1 = nI (la - 1) from pk_sub (b := 1) q]
                  have hn : nlB r l x d la = some (la - 1) := by unfold nlB; rw [if_pos ⟨q, z⟩]
                  rw [hn]
                  unfold foS
                  rw [if_neg (show ¬ oI (some (la - 1)) = -1 from nI_n1 (by omega))]
                  exact ⟨_, _, rfl, rfl, R2S_ln hS hD hi d1 hd (by omega) (fre_t z), rfl⟩
                | false =>
                  rw [if_pos (show b01 false = 0 from rfl)]
                  exact hup _ rfl (by unfold nlB; rw [if_neg (fun c => by rw [z] at c; cases c.2)])
              · rw [decide_eq_false q, if_pos (show b01 false = 0 from rfl)]
                exact hup _ rfl (by unfold nlB; rw [if_neg (fun c => q c.1)])
            · rw [if_neg (fun z => ql ((nI_eq (by omega) (by omega)).mp z)), if_neg (fun z => ql ((nI_eq (by omega) (by omega)).mp z).symm), foS_id la2 la1]
              exact ⟨x, m, rfl, rfl, R2S_id hD, rfl⟩
        by_cases c1 : x 39 i = x 39 j + 1
        · rw [if_pos c1, if_pos (sub1.mpr c1), ob_s, if_neg n10]
          exact main
        · rw [if_neg c1, if_neg (fun z => c1 (sub1.mp z))]
          by_cases c2 : x 39 i = x 39 j + 2
          · rw [if_pos c2, if_pos (sub2.mpr c2), ob_s, if_neg n10]
            exact main
          · rw [if_neg c2, if_neg (fun z => c2 (sub2.mp z)), ob_s, if_pos (show (0 : Int32) = 0 from rfl)]
            exact ⟨x, m, rfl, rfl, R2S_id hD, rfl⟩
      · rw [if_neg qon, if_neg qon, ob_s, ob_s, if_pos (show (0 : Int32) = 0 from rfl), if_pos (show (0 : Int32) = 0 from rfl)]
        exact ⟨x, m, rfl, rfl, R2S_id hD, rfl⟩
/-- a turn -/
theorem tn_sp (hfu : 70000 ≤ fu) {i : Nat} (hi : i < r) (hS : ST nw r h l lp s x m) (hD : DY r l lp s ar x m) (hon : x 43 i = -1) : ∃ x' m' ar', f_X2_takeTurn fu nw x i = some (x', ()) ∧ f_X11_turns fu m (nI (s i)) = some (m', ()) ∧ R2S r l lp s ar i x m x' m' ar' := by
  have hr := hS.1.2.1
  have hnw := hS.1.1
  obtain ⟨hwn, _, h37⟩ := hS.2.2.2.2.1 i hi
  obtain ⟨⟨L1, L2, L3, L4, L5, L6⟩, _⟩ := hD.2.1 i hi
  rw [tkT_e, trT_e, if_pos (show i < 10 by omega), if_pos (inb_nI (by omega) (by decide)), nI_clamp (by omega), L4]
  by_cases q : m 40 (s i) = 0
  · rw [if_pos q, if_pos q]
    obtain ⟨x1, m1, p1, p2, p3, p4⟩ := fo_sp (fu := fu) hfu hi hS hD
    obtain ⟨x2, m2, a2, q1, q2, q3⟩ := tt_sp (fu := fu) (nw := nw) hfu hi (ST_of hS p3.1 p3.2.1) p3.2.2.1 (show x1 43 i = -1 by rw [p4]; exact hon)
    rw [p1, ob_s, q1]
    by_cases z : m 24 (s i) ≤ 0
    · rw [if_pos z] at p2 ⊢
      have e : m1 = m := ((Prod.mk.inj (Option.some.inj p2)).1).symm
      rw [e] at q2
      rw [q2]
      exact ⟨x2, m2, a2, rfl, rfl, R2S_tr p3 q3⟩
    · rw [if_neg z] at p2 ⊢
      rw [p2, ob_s, q2]
      exact ⟨x2, m2, a2, rfl, rfl, R2S_tr p3 q3⟩
  · rw [if_neg q, if_neg q]
    exact tt_sp (fu := fu) (nw := nw) hfu hi hS hD hon
end PUR28
