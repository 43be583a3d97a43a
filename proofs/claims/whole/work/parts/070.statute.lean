section PUR19
variable {fu nw : Nat} {x m : Me} {b : Nat → Nat} {n : Nat}
/-- how a text ends -/
def TE (x' m' : Me) : Prop := (x' 8 0 = m' 13 0 ∧ ¬ m' 13 0 = 0 ∧ x' 9 0 = m' 14 0) ∨ (x' 8 0 = 0 ∧ m' 13 0 = 0 ∧ x' 9 0 = -1 ∧ m' 14 0 = -1 ∧ SD x' m')
theorem rt_sp (hfu : 70000 ≤ fu) {b2 : Int32} {k : Me → Option (Me × Unit)} {k' : Me → Option (Me × Int32)} : ∀ (d P L n1 n2 : Nat) (x m : Me), n - P ≤ d → d < n1 → d < n2 → L ≤ P → CX b n P x → CMb b n m → TK b n P m → m 10 0 = nI P → SD x m → x 8 0 = 0 → x 9 0 = -1 → m 13 0 = 0 → m 14 0 = -1 →
    ∃ x' m', f_X7_readText_41 fu nw (nI n) k n1 x (nI L) = k x' ∧ f_X11_statute_90 fu b2 k' n2 m = k' m' ∧ (∀ f, inL [5, 7, 8, 9] f = false → x' f = x f) ∧ (∀ f, inL [6, 9, 10, 11, 12, 13, 14] f = false → m' f = m f) ∧ (∀ j, j < 70 → m' 6 j = m 6 j) ∧ TE x' m' := by
  intro d
  induction d with
  | zero =>
    intro P L n1 n2 x m h g1 g2 hL hX hM hT h10 hS f8 f9 f13 f14
    obtain ⟨n1, rfl⟩ : ∃ q, n1 = q + 1 := ⟨n1 - 1, by omega⟩
    obtain ⟨n2, rfl⟩ : ∃ q, n2 = q + 1 := ⟨n2 - 1, by omega⟩
    have hP : P = n := by have := hX.2.1; omega
    have h600 := hX.1
    have h11 : m 11 0 = 3 := by
      rcases hT with ⟨_, u⟩ | ⟨u, _⟩
      · exact u
      · exact absurd u (by omega)
    refine ⟨x, m, ?_, ?_, fun _ _ => rfl, fun _ _ => rfl, fun _ _ => rfl, Or.inr ⟨f8, f13, f9, f14, hS⟩⟩
    · rw [f_X7_readText_41_s, hX.2.2.1, hX.2.2.2.1, if_pos (show nI n ≤ nI P from nI_le (by omega) (by omega))]
      split <;> rfl
    · rw [f_X11_statute_90_s, f13, h11, if_pos (show (0 : Int32) = 0 from rfl), if_pos (show (3 : Int32) = 3 from rfl)]
  | succ d ih =>
    intro P L n1 n2 x m h g1 g2 hL hX hM hT h10 hS f8 f9 f13 f14
    obtain ⟨n1, rfl⟩ : ∃ q, n1 = q + 1 := ⟨n1 - 1, by omega⟩
    obtain ⟨n2, rfl⟩ : ∃ q, n2 = q + 1 := ⟨n2 - 1, by omega⟩
    have h600 := hX.1
    have hPn := hX.2.1
    by_cases hP : P = n
    · have h11 : m 11 0 = 3 := by
        rcases hT with ⟨_, u⟩ | ⟨u, _⟩
        · exact u
        · exact absurd u (by omega)
      refine ⟨x, m, ?_, ?_, fun _ _ => rfl, fun _ _ => rfl, fun _ _ => rfl, Or.inr ⟨f8, f13, f9, f14, hS⟩⟩
      · rw [f_X7_readText_41_s, hX.2.2.1, hX.2.2.2.1, if_pos (show nI n ≤ nI P from nI_le (by omega) (by omega))]
        split <;> rfl
      · rw [f_X11_statute_90_s, f13, h11, if_pos (show (0 : Int32) = 0 from rfl), if_pos (show (3 : Int32) = 3 from rfl)]
    · have h11 : ¬ m 11 0 = 3 := by
        rcases hT with ⟨u, _⟩ | ⟨_, ⟨_, _, _, _, u3⟩ | ⟨_, _, u3, _⟩ | ⟨_, _, _, u3, _⟩ | ⟨_, _, _, u3⟩⟩
        · exact absurd u hP
        · rcases u3 with ⟨_, u3⟩ | ⟨_, u3, _⟩ <;> (rw [u3]; decide)
        · rw [u3]; decide
        · rw [u3]; decide
        · rw [u3]; decide
      obtain ⟨x3, m3, i3, k1, k2, k3, k4, k5, k6, k7⟩ := ln_sp hfu (show P < n by omega) hX hM hT h10 hS f8 f9 f13 f14
      have hX' := CX_mv k2 (ad_b (bl b) k2.2.1).2
      rw [f_X7_readText_41_s, f_X11_statute_90_s, hX.2.2.1, hX.2.2.2.1, if_neg (show ¬ nI n ≤ nI L from nI_ge (by omega) (by omega)), if_neg (show ¬ nI n ≤ nI P from nI_ge (by omega) (by omega)), f8, if_pos (show (0 : Int32) = 0 from rfl), k1, ob_s, sk_sp hfu k2, ob_s, f13, if_pos (show (0 : Int32) = 0 from rfl), if_neg h11, k3, ob_s, nI_1]
      rcases k7 with ⟨u1, u2, u3⟩ | ⟨u0, u1, u2, u3, u4, u5, u6, u7⟩
      · obtain ⟨n1, rfl⟩ : ∃ q, n1 = q + 1 := ⟨n1 - 1, by omega⟩
        obtain ⟨n2, rfl⟩ : ∃ q, n2 = q + 1 := ⟨n2 - 1, by omega⟩
        refine ⟨mu x3 5 0 (nI (ad (bl b) n i3)), m3, ?_, ?_, fun f hf => ?_, k5, k6, Or.inl ⟨u1, u2, u3⟩⟩
        · rw [f_X7_readText_41_s, if_neg (show ¬ mu x3 5 0 (nI (ad (bl b) n i3)) 8 0 = 0 from fun c => u2 (by rw [← u1]; exact c))]
          split
          · rfl
          · split <;> rfl
        · rw [f_X11_statute_90_s, if_neg u2]
        · rw [mu_fr _ _ _ hf rfl, k4 f hf]
      · have hb := ad_b (bl b) k2.2.1
        obtain ⟨x', m', p1, p2, p3, p4, p5, p6⟩ := ih (ad (bl b) n i3) (L + 1) n1 n2 (mu x3 5 0 (nI (ad (bl b) n i3))) m3 (by omega) (by omega) (by omega) (by omega) hX' (CMb_of hM (k5 8 rfl) (k5 1 rfl)) u6 u5 u7 u1 u2 u3 u4
        refine ⟨x', m', p1, p2, fun f hf => ?_, fun f hf => ?_, fun j hj => ?_, p6⟩
        · rw [p3 f hf, mu_fr _ _ _ hf rfl, k4 f hf]
        · rw [p4 f hf, k5 f hf]
        · rw [p5 j hj, k6 j hj]
theorem fl3_sp {v : Int32} {k : Me → Option (Me × Unit)} : ∀ (d i nf : Nat) (x : Me), i + d = 7 → d < nf → ∃ x', f_J7_fill_53178_3_5 fu nw v 7 k nf x (nI i) = k x' ∧ (∀ f, inL [7] f = false → x' f = x f) ∧ (∀ j, j < i → x' 7 j = x 7 j) ∧ ∀ j, i ≤ j → j < 7 → x' 7 j = v
  | 0, i, nf + 1, x, h, _ => ⟨x, by rw [f_J7_fill_53178_3_5_s, if_pos (show (7 : Int32) ≤ nI i from nI_le (a := 7) (by omega) (by omega))], fun _ _ => rfl, fun _ _ => rfl, fun j h1 h2 => absurd h2 (by omega)⟩
  | d + 1, i, nf + 1, x, h, hn => by
    obtain ⟨x', k1, k2, k3, k4⟩ := fl3_sp (v := v) (k := k) d (i + 1) nf (mu x 7 i v) (by omega) (by omega)
    refine ⟨x', ?_, fun f hf => (k2 f hf).trans (mu_fr _ _ _ hf rfl), fun j hj => (k3 j (by omega)).trans (mu_ne _ _ _ _ _ (by omega)), fun j h1 h2 => ?_⟩
    · rw [f_J7_fill_53178_3_5_s, if_neg (show ¬ (7 : Int32) ≤ nI i from nI_ge (b := 7) (by omega) (by decide)), if_pos (inb_nI (by omega) (by decide)), nI_clamp (by omega), nI_1, k1]
    · by_cases e : j = i
      · rw [e, k3 i (by omega), mu_same]
      · exact k4 j (by omega) h2
  | 0, _, 0, _, _, h => absurd h (by omega)
  | d + 1, _, 0, _, _, h => absurd h (by omega)
theorem s67_sp {b2 : Int32} {k : Me → Option (Me × Int32)} : ∀ (d i nf : Nat) (m : Me), i + d = 77 → 70 ≤ i → d < nf → ∃ m', f_X11_statute_67 fu b2 k nf m (nI i) = k m' ∧ (∀ f, inL [6] f = false → m' f = m f) ∧ (∀ j, j < i → m' 6 j = m 6 j) ∧ ∀ j, i ≤ j → j < 77 → m' 6 j = -1
  | 0, i, nf + 1, m, h, _, _ => ⟨m, by rw [f_X11_statute_67_s, if_pos (show (77 : Int32) ≤ nI i from nI_le (a := 77) (by omega) (by omega))], fun _ _ => rfl, fun _ _ => rfl, fun j h1 h2 => absurd h2 (by omega)⟩
  | d + 1, i, nf + 1, m, h, h7, hn => by
    obtain ⟨m', k1, k2, k3, k4⟩ := s67_sp (b2 := b2) (k := k) d (i + 1) nf (mu m 6 i (-1)) (by omega) (by omega) (by omega)
    refine ⟨m', ?_, fun f hf => (k2 f hf).trans (mu_fr _ _ _ hf rfl), fun j hj => (k3 j (by omega)).trans (mu_ne _ _ _ _ _ (by omega)), fun j h1 h2 => ?_⟩
    · rw [f_X11_statute_67_s, if_neg (show ¬ (77 : Int32) ≤ nI i from nI_ge (b := 77) (by omega) (by decide)), if_pos (inb_nI (by omega) (by decide)), nI_clamp (by omega), nI_1, k1]
    · by_cases e : j = i
      · rw [e, k3 i (by omega), mu_same]
      · exact k4 j (by omega) h2
  | 0, _, 0, _, _, _, h => absurd h (by omega)
  | d + 1, _, 0, _, _, _, h => absurd h (by omega)
theorem s149_sp {ns : Nat} {k : Me → Option (Me × Int32)} (hns : ns < 10) : ∀ (d i nf : Nat) (m : Me), i + d = 7 → d < nf → m 7 0 = nI ns → ∃ m', f_X11_statute_149 fu k nf m (nI i) = k m' ∧ (∀ f, inL [6] f = false → m' f = m f) ∧ (∀ j, (j < 7 * ns + i ∨ 70 ≤ j) → m' 6 j = m 6 j) ∧ ∀ w, i ≤ w → w < 7 → m' 6 (7 * ns + w) = m 6 (70 + w)
  | 0, i, nf + 1, m, h, _, _ => ⟨m, by rw [f_X11_statute_149_s, if_pos (show (7 : Int32) ≤ nI i from nI_le (a := 7) (by omega) (by omega))], fun _ _ => rfl, fun _ _ => rfl, fun j h1 h2 => absurd h2 (by omega)⟩
  | d + 1, i, nf + 1, m, h, hn, h7 => by
    obtain ⟨m', k1, k2, k3, k4⟩ := s149_sp (k := k) hns d (i + 1) nf (mu m 6 (7 * ns + i) (m 6 (70 + i))) (by omega) (by omega) h7
    refine ⟨m', ?_, fun f hf => (k2 f hf).trans (mu_fr _ _ _ hf rfl), fun j hj => (k3 j (by omega)).trans (mu_ne _ _ _ _ _ (by omega)), fun w h1 h2 => ?_⟩
    · rw [f_X11_statute_149_s, if_neg (show ¬ (7 : Int32) ≤ nI i from nI_ge (b := 7) (by omega) (by decide)), show (70 : Int32) + nI i = nI (70 + i) from nI_add 70 i, h7, show (7 : Int32) * nI ns = nI (7 * ns) from pk_mul 7 ns, nI_add, if_pos (inb_nI (by omega) (by decide)), if_pos (inb_nI (by omega) (by decide)), nI_clamp (by omega), nI_clamp (by omega), nI_1, k1]
    · by_cases e : w = i
      · rw [e, k3 _ (Or.inl (by omega)), mu_same]
      · rw [k4 w (by omega) h2, mu_ne _ _ _ _ _ (by omega)]
  | 0, _, 0, _, _, h, _ => absurd h (by omega)
  | d + 1, _, 0, _, _, h, _ => absurd h (by omega)
theorem ac_t : ∀ i : Fin 10, acok 0 (nI i.val * 7) 7 7 70 = true := by decide +kernel
theorem st_statute (hfu : 70000 ≤ fu) (h : Rel nw x m) : ∀ a c, S2 Rel nw (f_X10_statute fu nw x a c) (f_X11_statute fu m a c) := by
  intro a c
  have hR := rel_th h
  have hz : S2 Rel nw (some (x, -2)) (some (mu m 0 0 0, -2)) := ⟨x, _, _, rfl, rfl, hR⟩
  obtain ⟨y, st, tl, ns, hh, l, np, r, hA, hT, hS, hW, hH, hB, hO, hP, h0, h1, h2, h3, h4⟩ := h
  obtain ⟨a1, a2, ⟨t1, t2, t3⟩, ⟨d1, d2, d3⟩, a5, a6, a7, a8, a9⟩ := hA
  unfold f_X10_statute f_X11_statute
  by_cases c0 : a < 0
  · rw [if_pos c0, if_pos c0]; exact hz
  rw [if_neg c0, if_neg c0, t1, t2]
  by_cases c1 : nI tl < a
  · rw [if_pos c1, if_pos c1]; exact hz
  rw [if_neg c1, if_neg c1]
  unfold f_X10_isYear
  by_cases c2 : c < 0
  · rw [if_pos c2, if_pos c2, ob_s, if_pos (show (0 : Int32) = 0 from rfl)]; exact hz
  rw [if_neg c2, if_neg c2]
  by_cases c3 : 99 < c
  · rw [if_pos c3, if_pos c3, ob_s, if_pos (show (0 : Int32) = 0 from rfl)]; exact hz
  rw [if_neg c3, if_neg c3, ob_s, if_neg n10, d1, d2]
  by_cases c4 : ns = 10
  · rw [if_neg (show ¬ nI ns < 10 from nI_nlt (b := 10) (by omega) (by omega)), if_pos (show nI ns = 10 by rw [c4]; rfl)]; exact hz
  rw [if_pos (show nI ns < 10 from nI_lt (b := 10) (by omega) (by decide)), if_neg (show ¬ nI ns = 10 from fun q => c4 ((nI_eq (b := 10) (by omega) (by decide)).mp q))]
  obtain ⟨n, hn31, rfl⟩ := nI_of c0
  have hn : n ≤ tl := by
    rcases Nat.lt_or_ge tl n with q | q
    · exact absurd (nI_lt q hn31) c1
    · exact q
  obtain ⟨fy, hf31, rfl⟩ := nI_of c2
  have hfy : fy ≤ 99 := by
    rcases Nat.lt_or_ge 99 fy with q | q
    · exact absurd (nI_lt (a := 99) q hf31) c3
    · exact q
  have hbx : ∀ j, ∃ bb, j < tl → bb < 256 ∧ m 1 j = nI bb ∧ x 3 j = (nI bb).toInt8.toInt32 := fun j => by
    by_cases q : j < tl
    · obtain ⟨bb, q1⟩ := hT j q
      exact ⟨bb, fun _ => q1⟩
    · exact ⟨0, fun z => absurd z q⟩
  let b : Nat → Nat := fun j => (hbx j).choose
  have hb : ∀ j, j < tl → b j < 256 ∧ m 1 j = nI (b j) ∧ x 3 j = (nI (b j)).toInt8.toInt32 := fun j hj => (hbx j).choose_spec hj
  clear_value b
  unfold f_X7_readText
  rw [t1, if_neg c1]
  unfold f_J7_fill_53178_3
  obtain ⟨x1, p1, p2, _, p4⟩ := fl3_sp (fu := fu) (nw := nw) (v := -1) (k := fun (x_3 : Me) => some (x_3, ())) 7 0 fu (mu (mu (mu (mu x 5 0 0) 6 0 (nI n)) 8 0 0) 9 0 (-1)) (by omega) (by omega)
  have hX1 : CX b n 0 x1 := ⟨by omega, by omega, by rw [p2 5 rfl]; rfl, by rw [p2 6 rfl]; rfl, fun j hj => by rw [p2 3 rfl]; exact ⟨(hb j (by omega)).1, (hb j (by omega)).2.2⟩⟩
  rw [show f_J7_fill_53178_3_5 fu nw (-1) 7 (fun (x_3 : Me) => some (x_3, ())) fu (mu (mu (mu (mu x 5 0 0) 6 0 (nI n)) 8 0 0) 9 0 (-1)) 0 = _ from p1, ob_s, sk_sp hfu hX1, ob_s]
  have hm67 := fun K => s67_sp (fu := fu) (b2 := nI fy) (k := K) 7 70 fu (mu (mu (mu (mu (mu (mu m 0 0 0) 8 0 (nI n)) 2 0 0) 9 0 0) 13 0 0) 14 0 (-1)) (by omega) (by omega) (by omega)
  obtain ⟨m1, q1, q2, q3, q4⟩ := hm67 (fun (x_3 : Me) => ob (f_X11_step fu x_3) (fun x_4 _ => f_X11_statute_90 fu (nI fy) (fun (x_8 : Me) => if (x_8 13 0) = 0 then if inb (x_8 7 0) 10 = true then f_X11_statute_149 fu (fun (x_13 : Me) => some ((mu x_13 7 0 ((x_13 7 0) + 1)), ((x_13 7 0) + 1) - 1)) fu (mu (mu (mu x_8 15 0 (x_8 13 0)) 16 0 (x_8 14 0)) 5 ((x_8 7 0).toNatClampNeg) (nI fy)) 0 else none else some ((mu (mu x_8 15 0 (x_8 13 0)) 16 0 (x_8 14 0)), (-1))) fu x_4))
  rw [show (70 : Int32) = nI 70 from rfl, q1]
  have hM1 : CM b n 0 m1 := ⟨by omega, by omega, by rw [q2 9 rfl]; rfl, by rw [q2 8 rfl]; rfl, fun j hj => by rw [q2 1 rfl]; exact ⟨(hb j (by omega)).1, (hb j (by omega)).2.1⟩⟩
  obtain ⟨m2, r1, r2, r3, r4⟩ := stp_sp hfu hM1
  rw [r1, ob_s]
  have hP0 := ad_b (bl b) (show 0 ≤ n by omega)
  have hSD : SD (mu x1 5 0 (nI (ad (bl b) n 0))) m2 := fun w hw => by
    rw [r2 6 rfl, q4 (70 + w) (by omega) (by omega)]
    exact ⟨p4 w (by omega) hw, Or.inl rfl⟩
  obtain ⟨x3, m3, s1, s2, s3, s4, s5, s6⟩ := rt_sp (fu := fu) (nw := nw) (b := b) (n := n) hfu (b2 := nI fy) (k := fun (x_8 : Me) => some ((mu x_8 4 0 0), ())) (k' := (fun (x_8 : Me) => if (x_8 13 0) = 0 then if inb (x_8 7 0) 10 = true then f_X11_statute_149 fu (fun (x_13 : Me) => some ((mu x_13 7 0 ((x_13 7 0) + 1)), ((x_13 7 0) + 1) - 1)) fu (mu (mu (mu x_8 15 0 (x_8 13 0)) 16 0 (x_8 14 0)) 5 ((x_8 7 0).toNatClampNeg) (nI fy)) 0 else none else some ((mu (mu x_8 15 0 (x_8 13 0)) 16 0 (x_8 14 0)), (-1)))) n (ad (bl b) n 0) 0 fu fu (mu x1 5 0 (nI (ad (bl b) n 0))) m2 (by omega) (by omega) (by omega) (by omega) (CX_mv hX1 hP0.2) ⟨by omega, by rw [r2 8 rfl]; exact hM1.2.2.2.1, fun j hj => by rw [r2 1 rfl]; exact hM1.2.2.2.2 j hj⟩ r4 r3 hSD (by show x1 8 0 = 0; rw [p2 8 rfl]; rfl) (by show x1 9 0 = -1; rw [p2 9 rfl]; rfl) (by rw [r2 13 rfl, q2 13 rfl]; rfl) (by rw [r2 14 rfl, q2 14 rfl]; rfl)
  rw [show f_X7_readText_41 fu nw (nI n) (fun (x_8 : Me) => some ((mu x_8 4 0 0), ())) fu (mu x1 5 0 (nI (ad (bl b) n 0))) 0 = _ from s1, ob_s, s2]
  have hx3 : ∀ f, inL [5, 6, 7, 8, 9] f = false → x3 f = x f := fun f hf => by
    rw [s3 f (inL_mono rfl hf), mu_fr _ _ _ hf rfl, p2 f (inL_mono rfl hf), mu_fr _ _ _ hf rfl, mu_fr _ _ _ hf rfl, mu_fr _ _ _ hf rfl, mu_fr _ _ _ hf rfl]
  have hm3 : ∀ f, inL [0, 2, 6, 8, 9, 10, 11, 12, 13, 14] f = false → m3 f = m f := fun f hf => by
    rw [s4 f (inL_mono rfl hf), r2 f (inL_mono rfl hf), q2 f (inL_mono rfl hf), mu_fr _ _ _ hf rfl, mu_fr _ _ _ hf rfl, mu_fr _ _ _ hf rfl, mu_fr _ _ _ hf rfl, mu_fr _ _ _ hf rfl, mu_fr _ _ _ hf rfl]
  have hm2 : m3 2 0 = 0 := by rw [s4 2 rfl, r2 2 rfl, q2 2 rfl]; rfl
  have hm6 : ∀ j, j < 70 → m3 6 j = m 6 j := fun j hj => by
    rw [s5 j hj, r2 6 rfl, q3 j hj]; rfl
  clear s1 s2 s3 s4 s5 r1 r2 r3 r4 q1 q2 q3 q4 p1 p2 p4 hm67 hX1 hM1 hSD hP0
  rcases s6 with ⟨u1, u2, u3⟩ | ⟨u1, u2, u3, u4, u5⟩
  · rw [if_neg (show ¬ mu x3 4 0 0 8 0 = 0 from fun z => u2 (by rw [← u1]; exact z)), if_neg u2]
    obtain ⟨gx, rfl⟩ := msL_of hx3
    obtain ⟨gm, rfl⟩ := msL_of hm3
    refine ⟨_, _, _, rfl, rfl, ⟨y, st, 0, ns, hh, l, np, r, ⟨a1, a2, ⟨rfl, hm2, by omega⟩, ⟨d1, d2, d3⟩, a5, a6, a7, a8, ⟨u1, u3⟩⟩, fun j hj => absurd hj (by omega), fun i hi => ?_, hW, hH, hB, hO, hP, h0, h1, h2, h3, h4⟩⟩
    obtain ⟨b1, b2⟩ := hS i hi
    refine ⟨b1, fun w hw => ?_⟩
    have := hm6 (7 * i + w) (by omega)
    have e : mu (mu (msL [0, 2, 6, 8, 9, 10, 11, 12, 13, 14] m gm) 15 0 (msL [0, 2, 6, 8, 9, 10, 11, 12, 13, 14] m gm 13 0)) 16 0 (msL [0, 2, 6, 8, 9, 10, 11, 12, 13, 14] m gm 14 0) 6 (7 * i + w) = m 6 (7 * i + w) := this
    rw [e]
    exact b2 w hw
  · have h10 : x3 10 0 = nI ns := by rw [hx3 10 rfl]; exact d1
    have h7 : m3 7 0 = nI ns := by rw [hm3 7 rfl]; exact d2
    rw [if_pos (show mu x3 4 0 0 8 0 = 0 from u1), if_pos u2, h7, if_pos (inb_nI (by omega) (by decide)), nI_clamp (by omega), u2, u4]
    unfold f_X6_keep_3
    rw [show mu x3 4 0 0 10 0 = nI ns from h10, if_neg (show ¬ (10 : Int32) ≤ nI ns from nI_ge (b := 10) (by omega) (by decide)), if_pos (show (7 : Int32) = 7 from rfl), if_pos (inb_nI (by omega) (by decide)), if_pos (ac_t ⟨ns, by omega⟩), nI_clamp (by omega), ob_s, nI_1, nI_pred]
    obtain ⟨m4, v1, v2, v3, v4⟩ := s149_sp (fu := fu) (ns := ns) (k := fun (x_13 : Me) => some ((mu x_13 7 0 ((x_13 7 0) + 1)), ((x_13 7 0) + 1) - 1)) (by omega) 7 0 fu (mu (mu (mu m3 15 0 0) 16 0 (-1)) 5 ns (nI fy)) (by omega) (by omega) h7
    rw [show f_X11_statute_149 fu (fun (x_13 : Me) => some ((mu x_13 7 0 ((x_13 7 0) + 1)), ((x_13 7 0) + 1) - 1)) fu (mu (mu (mu m3 15 0 0) 16 0 (-1)) 5 ns (nI fy)) 0 = _ from v1]
    have w7 : m4 7 0 = nI ns := by rw [v2 7 rfl]; exact h7
    rw [w7, nI_1, nI_pred]
    have hm4 : ∀ f, inL [0, 2, 5, 6, 8, 9, 10, 11, 12, 13, 14, 15, 16] f = false → m4 f = m f := fun f hf => by
      rw [v2 f (inL_mono rfl hf), mu_fr _ _ _ hf rfl, mu_fr _ _ _ hf rfl, mu_fr _ _ _ hf rfl, hm3 f (inL_mono rfl hf)]
    have w2 : m4 2 0 = 0 := by rw [v2 2 rfl]; exact hm2
    have w15 : m4 15 0 = 0 := by rw [v2 15 rfl]; rfl
    have w16 : m4 16 0 = -1 := by rw [v2 16 rfl]; rfl
    have w5 : ∀ i, i < ns → m4 5 i = m 5 i := fun i hi => by
      rw [v2 5 rfl, mu_ne _ _ _ _ _ (by omega)]
      show m3 5 i = m 5 i
      rw [hm3 5 rfl]
    have w5n : m4 5 ns = nI fy := by rw [v2 5 rfl, mu_same]
    have w6 : ∀ j, j < 7 * ns → m4 6 j = m 6 j := fun j hj => by
      rw [v3 j (Or.inl (by omega))]
      exact hm6 j (by omega)
    have w6n : ∀ w, w < 7 → m4 6 (7 * ns + w) = m3 6 (70 + w) := fun w hw => v4 w (by omega) hw
    clear v1 v2 v3 v4 hm3 hm6 h7
    obtain ⟨gx, rfl⟩ := msL_of hx3
    obtain ⟨gm, rfl⟩ := msL_of hm4
    refine ⟨_, _, _, rfl, rfl, ⟨y, st, 0, ns + 1, hh, l, np, r, ⟨a1, a2, ⟨rfl, w2, by omega⟩, ⟨rfl, rfl, by omega⟩, a5, a6, a7, a8, ⟨u1.trans w15.symm, u3.trans w16.symm⟩⟩, fun j hj => absurd hj (by omega), fun i hi => ?_, hW, hH, hB, hO, hP, h0, h1, h2, h3, h4⟩⟩
    have hdp : (nI ns * 7).toNatClampNeg = 7 * ns := by
      rw [show nI ns * 7 = nI (ns * 7) from pk_mul ns 7, nI_clamp (by omega)]; omega
    have hx12 : ∀ j, mu (mcpy (mu (mu (msL [5, 6, 7, 8, 9] x gx) 4 0 0) 11 ns (nI fy)) 7 12 0 (nI ns * 7) 7) 10 0 (nI (ns + 1)) 12 j = (if 7 * ns ≤ j ∧ j < 7 * ns + 7 then gx 7 (0 + (j - 7 * ns)) else x 12 j) := fun j => by
      show va_cpy (gx 7) (x 12) (0 : Int32).toNatClampNeg (nI ns * 7).toNatClampNeg (7 : Int32).toNatClampNeg j = _
      rw [hdp]
      rfl
    have hx11 : ∀ j, mu (mcpy (mu (mu (msL [5, 6, 7, 8, 9] x gx) 4 0 0) 11 ns (nI fy)) 7 12 0 (nI ns * 7) 7) 10 0 (nI (ns + 1)) 11 j = (if j = ns then nI fy else x 11 j) := fun j => rfl
    by_cases e : i = ns
    · subst e
      refine ⟨⟨fy, hfy, ?_, ?_⟩, fun w hw => ?_⟩
      · rw [hx11, if_pos rfl]
      · exact w5n
      · obtain ⟨z1, z2⟩ := u5 w hw
        have e6 : mu (msL [0, 2, 5, 6, 8, 9, 10, 11, 12, 13, 14, 15, 16] m gm) 7 0 (nI (i + 1)) 6 (7 * i + w) = m3 6 (70 + w) := w6n w hw
        rw [hx12, if_pos (by omega), e6, ← z1, show 0 + (7 * i + w - 7 * i) = w by omega]
        exact ⟨rfl, by rw [z1]; exact z2⟩
    · obtain ⟨b1, b2⟩ := hS i (by omega)
      refine ⟨?_, fun w hw => ?_⟩
      · obtain ⟨f, f1, f2, f3⟩ := b1
        refine ⟨f, f1, ?_, ?_⟩
        · rw [hx11, if_neg e]; exact f2
        · exact (w5 i (by omega)).trans f3
      · have e6 : mu (msL [0, 2, 5, 6, 8, 9, 10, 11, 12, 13, 14, 15, 16] m gm) 7 0 (nI (ns + 1)) 6 (7 * i + w) = m 6 (7 * i + w) := w6 _ (by omega)
        rw [hx12, if_neg (by omega), e6]
        exact b2 w hw
end PUR19
