def stK (fu : Nat) (x_7 : Me) : Option (Me × Unit) := ob (f_X11_here fu (mu x_7 10 0 (x_7 9 0))) (fun x_8 r_8 => if r_8 = (-1) then some ((mu x_8 11 0 3), ()) else ob (f_X11_isSmall fu x_8 r_8) (fun x_9 r_9 => if r_9 = 0 then ob (f_X11_isDigit fu x_9 r_8) (fun x_10 r_10 => if r_10 = 0 then if r_8 = 59 then some ((mu (mu x_10 9 0 ((x_10 9 0) + 1)) 11 0 2), ()) else some ((mu (mu x_10 9 0 ((x_10 9 0) + 1)) 11 0 4), ()) else f_X11_step_132 fu r_8 (fun (x_17 : Me) => if r_8 = 59 then some ((mu (mu x_17 9 0 ((x_17 9 0) + 1)) 11 0 2), ()) else some ((mu (mu x_17 9 0 ((x_17 9 0) + 1)) 11 0 4), ())) fu (mu (mu x_10 11 0 1) 12 0 0)) else f_X11_step_64 fu (fun (x_23 : Me) => ob (f_X11_wordOf fu x_23) (fun x_24 r_24 => if r_24 = (-1) then some ((mu (mu x_24 12 0 r_24) 11 0 4), ()) else some ((mu (mu x_24 12 0 r_24) 11 0 0), ()))) fu x_9))
/-- the token that stands at P -/
def TK (b : Nat → Nat) (n P : Nat) (m : Me) : Prop :=
  (P = n ∧ m 11 0 = 3) ∨ (P < n ∧ (
   (sm b P = true ∧ m 9 0 = nI (ad (sm b) n P) ∧ ∃ z, fstW b P (ad (sm b) n P) 0 z ∧ ((z = -1 ∧ m 11 0 = 4) ∨ (z ≠ -1 ∧ m 11 0 = 0 ∧ m 12 0 = z))) ∨
   (sm b P = false ∧ dg b P = true ∧ m 11 0 = 1 ∧ m 12 0 = nI (rvF b (n - P) P 0) ∧ m 9 0 = nI (ad (dg b) n P)) ∨
   (sm b P = false ∧ dg b P = false ∧ b P = 59 ∧ m 11 0 = 2 ∧ m 9 0 = nI (P + 1)) ∨
   (sm b P = false ∧ dg b P = false ∧ b P ≠ 59 ∧ m 11 0 = 4)))
def CMb (b : Nat → Nat) (n : Nat) (m : Me) : Prop := n ≤ 600 ∧ m 8 0 = nI n ∧ ∀ j, j < n → b j < 256 ∧ m 1 j = nI (b j)
def SD (x m : Me) : Prop := ∀ w, w < 7 → x 7 w = m 6 (70 + w) ∧ okv w (m 6 (70 + w))
section PUR17
variable {fu nw : Nat} {x m : Me} {b : Nat → Nat} {n : Nat}
theorem CMb_at {i : Nat} (h : CMb b n m) (hi : i ≤ n) (h9 : m 9 0 = nI i) : CM b n i m := ⟨h.1, hi, h9, h.2.1, h.2.2⟩
theorem CMb_of {m' : Me} (h : CMb b n m) (h8 : m' 8 = m 8) (h1 : m' 1 = m 1) : CMb b n m' := ⟨h.1, by rw [h8]; exact h.2.1, by rw [h1]; exact h.2.2⟩
theorem stp_sp (hfu : 70000 ≤ fu) {i : Nat} (h : CM b n i m) : ∃ m', f_X11_step fu m = some (m', ()) ∧ (∀ f, inL [9, 10, 11, 12] f = false → m' f = m f) ∧ m' 10 0 = nI (ad (bl b) n i) ∧ TK b n (ad (bl b) n i) m' := by
  have e : f_X11_step fu m = f_X11_step_0 fu (stK fu) (fu + 1) m := by rw [f_X11_step_0_s]; rfl
  have h1 := h.1
  have h2 := h.2.1
  have hP := ad_b (bl b) h2
  rw [e, st0 (n - i) i (fu + 1) m (by omega) (by omega) h]
  generalize hPd : ad (bl b) n i = P at hP
  have hc : CM b n P (mu (mu m 9 0 (nI P)) 10 0 (nI P)) := ⟨h.1, hP.2, rfl, h.2.2.2.1, h.2.2.2.2⟩
  unfold stK
  rw [mu_same]
  by_cases q : P = n
  · rw [hr_n hc q, ob_s, if_pos (show (-1 : Int32) = -1 from rfl)]
    refine ⟨_, rfl, fun f hf => ?_, rfl, Or.inl ⟨q, mu_same _ _ _ _⟩⟩
    rw [mu_fr _ _ _ hf rfl, mu_fr _ _ _ hf rfl, mu_fr _ _ _ hf rfl]
  · have hPn : P < n := by omega
    have hb := (hc.2.2.2.2 P hPn).1
    rw [hr_y hc hPn, ob_s, if_neg (nI_n1 (by omega)), iS_sp hb, ob_s]
    cases z1 : sm b P with
    | true =>
      rw [if_pos (sm_b z1), if_neg n10, s64 (n - P) P fu _ (by omega) (by omega) hc]
      have hE := ad_b (sm b) hP.2
      have hword : ∃ z, f_X11_wordOf fu (mu (mu (mu m 9 0 (nI P)) 10 0 (nI P)) 9 0 (nI (ad (sm b) n P))) = some (mu (mu (mu m 9 0 (nI P)) 10 0 (nI P)) 9 0 (nI (ad (sm b) n P)), z) ∧ fstW b P (ad (sm b) n P) 0 z := by
        have hz := w4 (fu := fu) (m := mu (mu (mu m 9 0 (nI P)) 10 0 (nI P)) 9 0 (nI (ad (sm b) n P))) (b := b) (s := P) (e := ad (sm b) n P) hfu hE.1 (by omega) rfl rfl (fun j hj1 hj2 => by
          have := sm_b (ad_all hj1 hj2)
          exact ⟨by omega, (hc.2.2.2.2 j (by omega)).2⟩) 7 0 fu (by omega) (by omega)
        exact hz
      obtain ⟨z, k1, k2⟩ := hword
      rw [k1, ob_s]
      by_cases zz : z = -1
      · rw [if_pos zz]
        refine ⟨_, rfl, fun f hf => ?_, rfl, Or.inr ⟨hPn, Or.inl ⟨z1, rfl, z, k2, Or.inl ⟨zz, mu_same _ _ _ _⟩⟩⟩⟩
        rw [mu_fr _ _ _ hf rfl, mu_fr _ _ _ hf rfl, mu_fr _ _ _ hf rfl, mu_fr _ _ _ hf rfl, mu_fr _ _ _ hf rfl]
      · rw [if_neg zz]
        refine ⟨_, rfl, fun f hf => ?_, rfl, Or.inr ⟨hPn, Or.inl ⟨z1, rfl, z, k2, Or.inr ⟨zz, mu_same _ _ _ _, rfl⟩⟩⟩⟩
        rw [mu_fr _ _ _ hf rfl, mu_fr _ _ _ hf rfl, mu_fr _ _ _ hf rfl, mu_fr _ _ _ hf rfl, mu_fr _ _ _ hf rfl]
    | false =>
      have hs := sm_n z1
      rw [if_neg (show ¬ (97 ≤ b P ∧ b P ≤ 122) by omega), if_pos (show (0 : Int32) = 0 from rfl), iD_sp hb, ob_s]
      cases z2 : dg b P with
      | true =>
        rw [if_pos (dg_b z2), if_neg n10]
        obtain ⟨m', k1, k2, k3, k4⟩ := s132 (fu := fu) (b := b) (n := n) (b1 := nI (b P)) (k := (fun (x_17 : Me) => if nI (b P) = 59 then some ((mu (mu x_17 9 0 ((x_17 9 0) + 1)) 11 0 2), ()) else some ((mu (mu x_17 9 0 ((x_17 9 0) + 1)) 11 0 4), ()))) (n - P) P fu 0 (mu (mu (mu (mu m 9 0 (nI P)) 10 0 (nI P)) 11 0 1) 12 0 0) (by omega) (by omega) (by omega) hc rfl
        refine ⟨m', k1, fun f hf => ?_, ?_, Or.inr ⟨hPn, Or.inr (Or.inl ⟨z1, z2, ?_, k4, k3⟩)⟩⟩
        · rw [k2 f (inL_mono rfl hf), mu_fr _ _ _ hf rfl, mu_fr _ _ _ hf rfl, mu_fr _ _ _ hf rfl, mu_fr _ _ _ hf rfl]
        · rw [k2 10 rfl]; rfl
        · rw [k2 11 rfl]; rfl
      | false =>
        have hd := dg_n z2
        rw [if_neg (show ¬ (48 ≤ b P ∧ b P ≤ 57) by omega), if_pos (show (0 : Int32) = 0 from rfl), hc.2.2.1, nI_1]
        by_cases z3 : b P = 59
        · rw [if_pos (show nI (b P) = 59 by rw [z3]; rfl)]
          refine ⟨_, rfl, fun f hf => ?_, rfl, Or.inr ⟨hPn, Or.inr (Or.inr (Or.inl ⟨z1, z2, z3, mu_same _ _ _ _, rfl⟩))⟩⟩
          rw [mu_fr _ _ _ hf rfl, mu_fr _ _ _ hf rfl, mu_fr _ _ _ hf rfl, mu_fr _ _ _ hf rfl]
        · rw [if_neg (show ¬ nI (b P) = 59 from fun c => z3 ((nI_eq (b := 59) (by omega) (by decide)).mp c))]
          refine ⟨_, rfl, fun f hf => ?_, rfl, Or.inr ⟨hPn, Or.inr (Or.inr (Or.inr ⟨z1, z2, z3, mu_same _ _ _ _⟩))⟩⟩
          rw [mu_fr _ _ _ hf rfl, mu_fr _ _ _ hf rfl, mu_fr _ _ _ hf rfl, mu_fr _ _ _ hf rfl]
theorem tkw (hfu : 70000 ≤ fu) {P : Nat} (h : CX b n P x) : ∃ z, f_X7_takeWord fu nw x = some (mu x 5 0 (nI (ad (sm b) n P)), z) ∧ fstW b P (ad (sm b) n P) 0 z := by
  have h1 := h.1
  have h2 := h.2.1
  have hE := ad_b (sm b) h2
  obtain ⟨z, k1, k2⟩ := tw49 (fu := fu) (nw := nw) (x := mu x 5 0 (nI (ad (sm b) n P))) (b := b) (s := P) (e := ad (sm b) n P) hfu hE.1 (by omega) (mu_same _ _ _ _) (fun j hj1 hj2 => by
    have := sm_b (ad_all hj1 hj2)
    have h5 := h.2.2.2.2 j (by omega)
    refine ⟨by omega, ?_⟩
    show x 3 j = nI (b j)
    rw [h5.2, by127 (by omega)]) 7 0 fu (by omega) (by omega)
  refine ⟨z, ?_, k2⟩
  unfold f_X7_takeWord
  rw [h.2.2.1, tw5 (n - P) P fu x (by omega) (by omega) h]
  exact k1
theorem fst_no {P : Nat} {z : Int32} (h : fstW b P P 0 z) : z = -1 := by
  rcases h with ⟨u, _, u2, _, u4, _⟩ | ⟨h1, _⟩
  · exact absurd u4.1 (by have := (ch_e u2).2.2.1; omega)
  · exact h1
theorem wr_0 (h : m 13 0 = 0) (a p : Int32) : f_X11_wrong fu m a p = some (mu (mu m 13 0 a) 14 0 p, ()) := if_pos h
theorem wr_1 (h : ¬ m 13 0 = 0) (a p : Int32) : f_X11_wrong fu m a p = some (m, ()) := if_neg h
def loN (w : Nat) : Nat := ([2, 1, 1, 0, 0, 0, 0] : List Nat).getD w 0
def hiN (w : Nat) : Nat := ([10, 5, 9, 1, 9, 9, 9] : List Nat).getD w 0
theorem lh_t : ∀ w : Fin 7, (tS 0).getD w.val 0 = nI (loN w.val) ∧ (tS 1).getD w.val 0 = nI (hiN w.val) ∧ loN w.val ≤ hiN w.val ∧ hiN w.val ≤ 10 := by decide +kernel
theorem iw_c {v l h : Nat} {L H : Int32} (hv : v ≤ 20000) (hh : h ≤ 10) (hl : l ≤ h) (e1 : L = nI l) (e2 : H = nI h) : (if nI v < L then some (m, (0 : Int32)) else if H < nI v then some (m, 0) else some (m, 1)) = some (m, if l ≤ v ∧ v ≤ h then 1 else 0) := by
  rw [e1, e2]
  by_cases h1 : v < l
  · rw [if_pos (nI_lt h1 (by omega)), if_neg (by omega)]
  · rw [if_neg (nI_nlt (by omega) (by omega))]
    by_cases h2 : h < v
    · rw [if_pos (nI_lt h2 (by omega)), if_neg (by omega)]
    · rw [if_neg (nI_nlt (by omega) (by omega)), if_pos (by omega)]
theorem iw_d {v h : Nat} {H : Int32} (hv : v ≤ 20000) (hh : h ≤ 10) (e2 : H = nI h) : (if H < nI v then some (m, (0 : Int32)) else some (m, 1)) = some (m, if 0 ≤ v ∧ v ≤ h then 1 else 0) := by
  rw [e2]
  by_cases h2 : h < v
  · rw [if_pos (nI_lt h2 (by omega)), if_neg (by omega)]
  · rw [if_neg (nI_nlt (by omega) (by omega)), if_pos (by omega)]
theorem iw_sp {w v : Nat} (hw : w < 7) (hv : v ≤ 20000) : f_X11_isWithin fu m (nI w) (nI v) = some (m, if loN w ≤ v ∧ v ≤ hiN w then 1 else 0) := by
  rcases (show w = 0 ∨ w = 1 ∨ w = 2 ∨ w = 3 ∨ w = 4 ∨ w = 5 ∨ w = 6 by omega) with rfl | rfl | rfl | rfl | rfl | rfl | rfl
  · exact iw_c (l := 2) (h := 10) hv (by decide) (by decide) rfl rfl
  · exact iw_c (l := 1) (h := 5) hv (by decide) (by decide) rfl rfl
  · exact iw_c (l := 1) (h := 9) hv (by decide) (by decide) rfl rfl
  · exact iw_d (h := 1) hv (by decide) rfl
  · exact iw_d (h := 9) hv (by decide) rfl
  · exact iw_d (h := 9) hv (by decide) rfl
  · exact iw_d (h := 9) hv (by decide) rfl
end PUR17
