section PUR18
variable {fu nw : Nat} {x m : Me} {b : Nat → Nat} {n : Nat}
/-- how a line ends: both told the same fault, or both stand at the next token -/
def LE (b : Nat → Nat) (n P i3 : Nat) (x3 m' : Me) : Prop := (x3 8 0 = m' 13 0 ∧ ¬ m' 13 0 = 0 ∧ x3 9 0 = m' 14 0) ∨ (P < i3 ∧ x3 8 0 = 0 ∧ x3 9 0 = -1 ∧ m' 13 0 = 0 ∧ m' 14 0 = -1 ∧ m' 10 0 = nI (ad (bl b) n i3) ∧ TK b n (ad (bl b) n i3) m' ∧ SD x3 m')
theorem ln_sp (hfu : 70000 ≤ fu) {P : Nat} (hP : P < n) (hX : CX b n P x) (hM : CMb b n m) (hT : TK b n P m) (h10 : m 10 0 = nI P) (hS : SD x m) (f8 : x 8 0 = 0) (f9 : x 9 0 = -1) (f13 : m 13 0 = 0) (f14 : m 14 0 = -1) :
    ∃ x3 m' i3, f_X7_readLine fu nw x = some (x3, ()) ∧ CX b n i3 x3 ∧ f_X11_line fu m = some (m', ()) ∧ (∀ f, inL [5, 7, 8, 9] f = false → x3 f = x f) ∧ (∀ f, inL [6, 9, 10, 11, 12, 13, 14] f = false → m' f = m f) ∧ (∀ j, j < 70 → m' 6 j = m 6 j) ∧ LE b n P i3 x3 m' := by
  have h600 := hX.1
  obtain ⟨z, k1, k2⟩ := tkw (fu := fu) (nw := nw) hfu hX
  have hE := ad_b (sm b) hX.2.1
  unfold f_X7_readLine f_X11_line
  rw [k1, ob_s, hX.2.2.1, h10]
  have bad : z = -1 → ¬ m 11 0 = 0 → ∃ x3 m' i3, (if z = -1 then ob (f_X7_blame fu nw (mu x 5 0 (nI (ad (sm b) n P))) 1 (nI P)) (fun x_14 _ => some (x_14, ())) else none) = some (x3, ()) ∧ CX b n i3 x3 ∧ ob (f_X11_wrong fu m 1 (nI P)) (fun x_19 _ => some (x_19, ())) = some (m', ()) ∧ (∀ f, inL [5, 7, 8, 9] f = false → x3 f = x f) ∧ (∀ f, inL [6, 9, 10, 11, 12, 13, 14] f = false → m' f = m f) ∧ (∀ j, j < 70 → m' 6 j = m 6 j) ∧ LE b n P i3 x3 m' := by
    intro z1 _
    rw [if_pos z1, wr_0 f13, ob_s]
    refine ⟨mu (mu (mu x 5 0 (nI (ad (sm b) n P))) 8 0 1) 9 0 (nI P), _, ad (sm b) n P, rfl, ⟨hX.1, hE.2, rfl, hX.2.2.2.1, hX.2.2.2.2⟩, rfl, fun f hf => ?_, fun f hf => ?_, fun j _ => rfl, Or.inl ⟨rfl, by rw [show mu (mu m 13 0 1) 14 0 (nI P) 13 0 = 1 from rfl]; decide, rfl⟩⟩
    · rw [mu_fr _ _ _ hf rfl, mu_fr _ _ _ hf rfl, mu_fr _ _ _ hf rfl]
    · rw [mu_fr _ _ _ hf rfl, mu_fr _ _ _ hf rfl]
  have bad' : z = -1 → ¬ m 11 0 = 0 → ∀ (A : Option (Me × Unit)) (B : Option (Me × Unit)), ∃ x3 m' i3, (if z = -1 then ob (f_X7_blame fu nw (mu x 5 0 (nI (ad (sm b) n P))) 1 (nI P)) (fun x_14 _ => some (x_14, ())) else A) = some (x3, ()) ∧ CX b n i3 x3 ∧ (if m 11 0 = 0 then B else ob (f_X11_wrong fu m 1 (nI P)) (fun x_19 _ => some (x_19, ()))) = some (m', ()) ∧ (∀ f, inL [5, 7, 8, 9] f = false → x3 f = x f) ∧ (∀ f, inL [6, 9, 10, 11, 12, 13, 14] f = false → m' f = m f) ∧ (∀ j, j < 70 → m' 6 j = m 6 j) ∧ LE b n P i3 x3 m' := by
    intro z1 z2 A B
    have := bad z1 z2
    rw [if_pos z1] at this
    rw [if_pos z1, if_neg z2]
    exact this
  rcases hT with ⟨t1, _⟩ | ⟨_, ⟨t1, t2, z', t3, t4⟩ | ⟨t1, t2, t3, _⟩ | ⟨t1, t2, _, t3, _⟩ | ⟨t1, t2, _, t3⟩⟩
  · exact absurd t1 (by omega)
  · have hz : z' = z := fstW_eq t3 k2
    subst hz
    rcases t4 with ⟨t5, t6⟩ | ⟨t5, t6, t7⟩
    · exact bad' t5 (by rw [t6]; decide) _ _
    · rw [if_neg t5, if_pos t6, t7]
      obtain ⟨w, _, hw, hzw, hmt, _⟩ := k2.resolve_right (fun c => t5 c.1)
      subst hzw
      obtain ⟨lh1, lh2, lh3, lh4⟩ := lh_t ⟨w, hw⟩
      have hPe : P < ad (sm b) n P := by have := hmt.1; have := (ch_e hw).2.2.1; omega
      generalize ad (sm b) n P = e at t2 hE hPe
      have hX1 : CX b n e (mu x 5 0 (nI e)) := CX_mv hX hE.2
      have hM1 : CM b n e m := CMb_at hM hE.2 t2
      obtain ⟨m1, p1, p2, p3, p4⟩ := stp_sp hfu hM1
      rw [sk_sp hfu hX1, ob_s, p1, ob_s, mu_mu]
      have hQ := ad_b (bl b) hE.2
      generalize ad (bl b) n e = Q at p3 p4 hQ
      have hX2 : CX b n Q (mu x 5 0 (nI Q)) := CX_mv hX hQ.2
      have f13' : m1 13 0 = 0 := by rw [p2 13 rfl]; exact f13
      have f14' : m1 14 0 = -1 := by rw [p2 14 rfl]; exact f14
      simp only [jn]
      by_cases hd : Q < n ∧ dg b Q = true
      · obtain ⟨hd1, hd2⟩ := hd
        have hdb := dg_b hd2
        have hq4 : m1 11 0 = 1 ∧ m1 12 0 = nI (rvF b (n - Q) Q 0) ∧ m1 9 0 = nI (ad (dg b) n Q) := by
          rcases p4 with ⟨u1, _⟩ | ⟨_, ⟨u1, _⟩ | ⟨_, _, u3⟩ | ⟨_, u2, _⟩ | ⟨_, u2, _⟩⟩
          · exact absurd u1 (by omega)
          · exact absurd (sm_b u1) (by omega)
          · exact u3
          · rw [hd2] at u2; cases u2
          · rw [hd2] at u2; cases u2
        obtain ⟨q1, q2, q3⟩ := hq4
        obtain ⟨hcv, hrv⟩ := cv_rv b (n - Q) Q 0 0 rfl (by omega)
        rw [tn_y hfu hX2 hd1 hd2, ob_s, q1, if_pos (show (1 : Int32) = 1 from rfl), q2]
        generalize cvF b (n - Q) Q 0 = c at hcv
        generalize rvF b (n - Q) Q 0 = v at hcv hrv q2
        have hE2 := ad_b (dg b) hQ.2
        generalize ad (dg b) n Q = e2 at q3 hE2
        have hc1000 : c ≤ 1000 := by rw [hcv]; split <;> omega
        rw [mu_mu, if_neg (nI_n1 (by omega)), if_pos (inb_nI hw (by decide)), nI_clamp (by omega), lh1, lh2, iw_sp hw hrv, ob_s, show mu x 5 0 (nI Q) 5 0 = nI Q from rfl]
        by_cases hin : loN w ≤ v ∧ v ≤ hiN w
        · have hcv' : c = v := by rw [hcv, if_pos (by have : hiN w ≤ 10 := lh4; omega)]
          have hhi : hiN w ≤ 10 := lh4
          rw [if_pos hin, if_neg n10, if_neg (show ¬ nI c < nI (loN w) from nI_nlt (by omega) (by omega)), if_pos (show nI c ≤ nI (hiN w) from nI_le (by omega) (by omega)), f13', if_pos (show (0 : Int32) = 0 from rfl)]
          have hM2 : CM b n e2 m1 := CMb_at (CMb_of hM (p2 8 rfl) (p2 1 rfl)) hE2.2 q3
          obtain ⟨m2, r1, r2, r3, r4⟩ := stp_sp hfu hM2
          have g13 : m2 13 0 = 0 := by rw [r2 13 rfl]; exact f13'
          have g14 : m2 14 0 = -1 := by rw [r2 14 rfl]; exact f14'
          have g6 : ∀ j, m2 6 j = m 6 j := fun j => by rw [r2 6 rfl, p2 6 rfl]
          have g10 : m2 10 0 = nI (ad (bl b) n e2) := r3
          rw [r1, ob_s, show (70 : Int32) + nI w = nI (70 + w) from nI_add 70 w, if_pos (inb_nI (by omega) (by decide)), nI_clamp (by omega), g6]
          have hfr : ∀ f, inL [6, 9, 10, 11, 12, 13, 14] f = false → m2 f = m f := fun f hf => by rw [r2 f (inL_mono rfl hf), p2 f (inL_mono rfl hf)]
          rw [show mu x 5 0 (nI e2) 7 w = m 6 (70 + w) from (hS w hw).1]
          by_cases h3 : m 6 (70 + w) = -1
          · rw [if_pos h3, if_pos h3]
            have hX3 : CX b n e2 (mu (mu x 5 0 (nI e2)) 7 w (nI c)) := ⟨hX.1, hE2.2, rfl, hX.2.2.2.1, hX.2.2.2.2⟩
            have hR := ad_b (bl b) hE2.2
            unfold f_X7_takeLineEnd
            rw [sk_sp hfu hX3, ob_s]
            generalize ad (bl b) n e2 = R at r4 g10 hR
            have hX4 : CX b n R (mu (mu (mu x 5 0 (nI e2)) 7 w (nI c)) 5 0 (nI R)) := CX_mv hX3 hR.2
            by_cases h59 : R < n ∧ b R = 59
            · have hs2 : m2 11 0 = 2 ∧ m2 9 0 = nI (R + 1) := by
                rcases r4 with ⟨u1, _⟩ | ⟨_, ⟨u1, _⟩ | ⟨_, u2, _⟩ | ⟨_, _, _, u3⟩ | ⟨_, _, u3, _⟩⟩
                · exact absurd u1 (by omega)
                · exact absurd (sm_b u1) (by omega)
                · exact absurd (dg_b u2) (by omega)
                · exact u3
                · exact absurd h59.2 u3
              rw [bh_y hX4 h59.1, ob_s, h59.2, if_pos (show nI 59 = 59 from rfl), hX4.2.2.1, nI_1, hs2.1, if_pos (show (2 : Int32) = 2 from rfl), g13, if_pos (show (0 : Int32) = 0 from rfl), ob_s]
              have hM3 : CM b n (R + 1) (mu m2 6 (70 + w) (nI v)) := ⟨hX.1, by omega, hs2.2, by show m2 8 0 = nI n; rw [hfr 8 rfl]; exact hM.2.1, by show ∀ j, j < n → b j < 256 ∧ m2 1 j = nI (b j); rw [hfr 1 rfl]; exact hM.2.2⟩
              obtain ⟨m3, s1, s2, s3, s4⟩ := stp_sp hfu hM3
              rw [q2, s1, ob_s]
              refine ⟨_, m3, R + 1, rfl, ⟨hX.1, by omega, rfl, hX.2.2.2.1, hX.2.2.2.2⟩, rfl, fun f hf => ?_, fun f hf => ?_, fun j hj => ?_, Or.inr ⟨by omega, f8, f9, ?_, ?_, s3, s4, fun u hu => ?_⟩⟩
              · rw [mu_fr _ _ _ hf rfl, mu_fr _ _ _ hf rfl, mu_fr _ _ _ hf rfl, mu_fr _ _ _ hf rfl]
              · rw [s2 f (inL_mono rfl hf), mu_fr _ _ _ hf rfl, hfr f hf]
              · rw [s2 6 rfl, mu_ne _ _ _ _ _ (by omega), g6]
              · rw [s2 13 rfl]; exact g13
              · rw [s2 14 rfl]; exact g14
              · rw [s2 6 rfl]
                by_cases huw : u = w
                · rw [huw, mu_same]
                  refine ⟨?_, Or.inr ⟨v, rfl, hin.1, hin.2⟩⟩
                  rw [← hcv']
                  exact mu_same (mu x 5 0 (nI e2)) 7 w (nI c)
                · rw [mu_ne _ _ _ _ _ (show 70 + u ≠ 70 + w by omega), g6]
                  refine ⟨?_, (hS u hu).2⟩
                  rw [← (hS u hu).1]
                  exact mu_ne (mu x 5 0 (nI e2)) 7 w u (nI c) huw
            · have hs2 : ¬ m2 11 0 = 2 := by
                rcases r4 with ⟨_, u2⟩ | ⟨u0, ⟨_, _, _, _, u3⟩ | ⟨_, _, u3, _⟩ | ⟨_, _, u3, _⟩ | ⟨_, _, _, u3⟩⟩
                · rw [u2]; decide
                · rcases u3 with ⟨_, u3⟩ | ⟨_, u3, _⟩ <;> (rw [u3]; decide)
                · rw [u3]; decide
                · exact absurd ⟨u0, u3⟩ h59
                · rw [u3]; decide
              rw [if_neg hs2, wr_0 g13, ob_s, if_neg (show ¬ mu (mu m2 13 0 1) 14 0 (m2 10 0) 13 0 = 0 by rw [show mu (mu m2 13 0 1) 14 0 (m2 10 0) 13 0 = 1 from rfl]; decide)]
              have hbl : ∀ K : Me → Int32 → Option (Me × Unit), ∃ r5 : Int32, ob (f_X7_byteHere fu nw (mu (mu (mu x 5 0 (nI e2)) 7 w (nI c)) 5 0 (nI R))) K = K (mu (mu (mu x 5 0 (nI e2)) 7 w (nI c)) 5 0 (nI R)) r5 ∧ ¬ r5 = 59 := by
                intro K
                by_cases hRn : R < n
                · refine ⟨nI (b R), by rw [bh_y hX4 hRn, ob_s], fun c => h59 ⟨hRn, ?_⟩⟩
                  have := (hX4.2.2.2.2 R hRn).1
                  exact (nI_eq (b := 59) (by omega) (by decide)).mp c
                · exact ⟨-1, by rw [bh_n hX4 (by omega), ob_s], by decide⟩
              obtain ⟨r5, hb1, hb2⟩ := hbl (fun x_2 r_2 => if r_2 = 59 then some ((mu x_2 5 0 ((x_2 5 0) + 1)), ()) else ob (f_X7_blame fu nw x_2 1 (x_2 5 0)) (fun x_3 _ => some (x_3, ())))
              rw [hb1, if_neg hb2]
              refine ⟨_, _, R, rfl, ⟨hX.1, hR.2, rfl, hX.2.2.2.1, hX.2.2.2.2⟩, rfl, fun f hf => ?_, fun f hf => ?_, fun j hj => g6 j, Or.inl ⟨rfl, by rw [show mu (mu m2 13 0 1) 14 0 (m2 10 0) 13 0 = 1 from rfl]; decide, g10.symm⟩⟩
              · dsimp only; rw [mu_fr _ _ _ hf rfl, mu_fr _ _ _ hf rfl, mu_fr _ _ _ hf rfl, mu_fr _ _ _ hf rfl, mu_fr _ _ _ hf rfl]
              · rw [mu_fr _ _ _ hf rfl, mu_fr _ _ _ hf rfl, hfr f hf]
          · rw [if_neg h3, if_neg h3, wr_0 g13, ob_s]
            have g13b : ¬ mu (mu m2 13 0 3) 14 0 (nI P) 13 0 = 0 := by rw [show mu (mu m2 13 0 3) 14 0 (nI P) 13 0 = 3 from rfl]; decide
            have hend : ∀ A : Option (Me × Unit), (if mu (mu m2 13 0 3) 14 0 (nI P) 11 0 = 2 then (if mu (mu m2 13 0 3) 14 0 (nI P) 13 0 = 0 then A else some (mu (mu m2 13 0 3) 14 0 (nI P), ())) else ob (f_X11_wrong fu (mu (mu m2 13 0 3) 14 0 (nI P)) 1 (mu (mu m2 13 0 3) 14 0 (nI P) 10 0)) (fun x_9 _ => if x_9 13 0 = 0 then ob (f_X11_step fu (mu x_9 6 (70 + w) (nI v))) (fun x_7 _ => some (x_7, ())) else some (x_9, ()))) = some (mu (mu m2 13 0 3) 14 0 (nI P), ()) := by
              intro A
              split
              · first | rfl | rw [if_neg g13b]
              · rw [wr_1 g13b, ob_s, if_neg g13b]
            rw [q2, hend]
            refine ⟨_, _, e2, rfl, ⟨hX.1, hE2.2, rfl, hX.2.2.2.1, hX.2.2.2.2⟩, rfl, fun f hf => ?_, fun f hf => ?_, fun j hj => g6 j, Or.inl ⟨rfl, g13b, rfl⟩⟩
            · dsimp only; rw [mu_fr _ _ _ hf rfl, mu_fr _ _ _ hf rfl, mu_fr _ _ _ hf rfl]
            · rw [mu_fr _ _ _ hf rfl, mu_fr _ _ _ hf rfl, hfr f hf]
        · rw [if_neg hin, if_pos (show (0 : Int32) = 0 from rfl), wr_0 f13', ob_s, if_neg (show ¬ mu (mu m1 13 0 2) 14 0 (m1 10 0) 13 0 = 0 by rw [show mu (mu m1 13 0 2) 14 0 (m1 10 0) 13 0 = 2 from rfl]; decide)]
          have hhi : hiN w ≤ 10 := lh4
          have hcl : (if nI c < nI (loN w) then ob (f_X7_blame fu nw (mu x 5 0 (nI e2)) 2 (nI Q)) (fun x_5 _ => some (x_5, ())) else if nI c ≤ nI (hiN w) then (if (mu x 5 0 (nI e2) 7 w) = (-1) then ob (f_X7_takeLineEnd fu nw (mu (mu x 5 0 (nI e2)) 7 w (nI c))) (fun x_6 _ => some (x_6, ())) else ob (f_X7_blame fu nw (mu x 5 0 (nI e2)) 3 (nI P)) (fun x_7 _ => some (x_7, ()))) else ob (f_X7_blame fu nw (mu x 5 0 (nI e2)) 2 (nI Q)) (fun x_9 _ => some (x_9, ()))) = some (mu (mu (mu x 5 0 (nI e2)) 8 0 2) 9 0 (nI Q), ()) := by
            by_cases hlo : v < loN w
            · have : loN w ≤ hiN w := lh3
              rw [if_pos (show nI c < nI (loN w) from nI_lt (by rw [hcv, if_pos (by omega)]; exact hlo) (by omega))]
              rfl
            · have hcc : hiN w < c := by rw [hcv]; split <;> omega
              have : loN w ≤ hiN w := lh3
              rw [if_neg (show ¬ nI c < nI (loN w) from nI_nlt (by omega) (by omega)), if_neg (show ¬ nI c ≤ nI (hiN w) from nI_ge (by omega) (by omega))]
              rfl
          rw [hcl]
          refine ⟨_, _, e2, rfl, ⟨hX.1, hE2.2, rfl, hX.2.2.2.1, hX.2.2.2.2⟩, rfl, fun f hf => ?_, fun f hf => ?_, fun j hj => by show m1 6 j = m 6 j; rw [p2 6 rfl], Or.inl ⟨rfl, by rw [show mu (mu m1 13 0 2) 14 0 (m1 10 0) 13 0 = 2 from rfl]; decide, p3.symm⟩⟩
          · rw [mu_fr _ _ _ hf rfl, mu_fr _ _ _ hf rfl, mu_fr _ _ _ hf rfl]
          · rw [mu_fr _ _ _ hf rfl, mu_fr _ _ _ hf rfl, p2 f (inL_mono rfl hf)]
      · have hq1 : ¬ m1 11 0 = 1 := by
          rcases p4 with ⟨_, u2⟩ | ⟨u0, ⟨_, _, _, _, u3⟩ | ⟨_, u2, _⟩ | ⟨_, _, _, u3, _⟩ | ⟨_, _, _, u3⟩⟩
          · rw [u2]; decide
          · rcases u3 with ⟨_, u3⟩ | ⟨_, u3, _⟩ <;> (rw [u3]; decide)
          · exact absurd ⟨u0, u2⟩ hd
          · rw [u3]; decide
          · rw [u3]; decide
        have hno : Q = n ∨ dg b Q = false := by
          by_cases c : Q = n
          · exact Or.inl c
          · refine Or.inr ?_
            cases c2 : dg b Q with
            | true => exact absurd ⟨by omega, c2⟩ hd
            | false => rfl
        rw [tn_n hfu hX2 hno, ob_s, if_pos (show (-1 : Int32) = -1 from rfl), if_neg hq1, wr_0 f13', ob_s, if_neg (show ¬ mu (mu m1 13 0 1) 14 0 (m1 10 0) 13 0 = 0 by rw [show mu (mu m1 13 0 1) 14 0 (m1 10 0) 13 0 = 1 from rfl]; decide)]
        refine ⟨_, _, Q, rfl, ⟨hX.1, hQ.2, rfl, hX.2.2.2.1, hX.2.2.2.2⟩, rfl, fun f hf => ?_, fun f hf => ?_, fun j hj => by show m1 6 j = m 6 j; rw [p2 6 rfl], Or.inl ⟨rfl, by rw [show mu (mu m1 13 0 1) 14 0 (m1 10 0) 13 0 = 1 from rfl]; decide, p3.symm⟩⟩
        · dsimp only; rw [mu_fr _ _ _ hf rfl, mu_fr _ _ _ hf rfl, mu_fr _ _ _ hf rfl]
        · rw [mu_fr _ _ _ hf rfl, mu_fr _ _ _ hf rfl, p2 f (inL_mono rfl hf)]
  · rw [ad_e (Or.inr t1)] at k2
    exact bad' (fst_no k2) (by rw [t3]; decide) _ _
  · rw [ad_e (Or.inr t1)] at k2
    exact bad' (fst_no k2) (by rw [t3]; decide) _ _
  · rw [ad_e (Or.inr t1)] at k2
    exact bad' (fst_no k2) (by rw [t3]; decide) _ _
end PUR18
