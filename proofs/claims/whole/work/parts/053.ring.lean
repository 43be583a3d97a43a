/-- a row is filled from a on, up to b -/
def fillz (x : Me) (f a b : Nat) (v : Int32) : Me := fun f' j => if f' = f then (if a ≤ j ∧ j < b then v else x f j) else x f' j
theorem fz_mu (x : Me) (f a b : Nat) (v : Int32) (h : a < b) : fillz (mu x f a v) f (a + 1) b v = fillz x f a b v := by
  funext f' j
  unfold fillz mu
  by_cases hf : f' = f
  · rw [if_pos hf, if_pos hf, if_pos rfl]
    by_cases q : a + 1 ≤ j ∧ j < b
    · rw [if_pos q, if_pos (by omega)]
    · rw [if_neg q]
      by_cases e : j = a
      · rw [if_pos e, if_pos (by omega)]
      · rw [if_neg e, if_neg (by omega)]
  · rw [if_neg hf, if_neg hf, if_neg hf]
theorem fz_0 (x : Me) (f b : Nat) (v : Int32) : fillz x f b b v = x := by
  funext f' j
  unfold fillz
  by_cases hf : f' = f
  · rw [if_pos hf, if_neg (by omega), hf]
  · rw [if_neg hf]
theorem fz_in (x : Me) (f a b j : Nat) (v : Int32) (h1 : a ≤ j) (h2 : j < b) : fillz x f a b v f j = v := by
  unfold fillz; rw [if_pos rfl, if_pos ⟨h1, h2⟩]
theorem fz_out (x : Me) (f a b j : Nat) (v : Int32) (h : ¬ (a ≤ j ∧ j < b)) : fillz x f a b v f j = x f j := by
  unfold fillz; rw [if_pos rfl, if_neg h]
section PUR3
variable {fu nw : Nat} {x m : Me}
theorem lay_sp {k : Me → Option (Me × Unit)} : ∀ (d i n : Nat) (x : Me), i + d = 60 → d < n → f_X2_layRing_7 fu nw k n x (nI i) = k (fillz x 26 i 60 0)
  | 0, i, n + 1, x, h, _ => by
    rw [f_X2_layRing_7_s, if_pos (show (60 : Int32) ≤ nI i from nI_le (a := 60) (by omega) (by omega)), show i = 60 by omega, fz_0]
  | d + 1, i, n + 1, x, h, hn => by
    rw [f_X2_layRing_7_s, if_neg (show ¬ (60 : Int32) ≤ nI i from nI_ge (b := 60) (by omega) (by omega)), if_pos (inb_nI (by omega) (by decide)), nI_clamp (by omega), nI_1, vz0, lay_sp d (i + 1) n _ (by omega) (by omega), fz_mu _ _ _ _ _ (by omega)]
  | 0, _, 0, _, _, h => absurd h (by omega)
  | d + 1, _, 0, _, _, h => absurd h (by omega)
theorem rin_sp {k : Me → Option (Me × Int32)} : ∀ (d i n : Nat) (x : Me), i + d = 60 → d < n → f_X11_ring_34 fu k n x (nI i) = k (fillz x 36 i 60 0)
  | 0, i, n + 1, x, h, _ => by
    rw [f_X11_ring_34_s, if_pos (show (60 : Int32) ≤ nI i from nI_le (a := 60) (by omega) (by omega)), show i = 60 by omega, fz_0]
  | d + 1, i, n + 1, x, h, hn => by
    rw [f_X11_ring_34_s, if_neg (show ¬ (60 : Int32) ≤ nI i from nI_ge (b := 60) (by omega) (by omega)), if_pos (inb_nI (by omega) (by decide)), nI_clamp (by omega), nI_1, vz0, rin_sp d (i + 1) n _ (by omega) (by omega), fz_mu _ _ _ _ _ (by omega)]
  | 0, _, 0, _, _, h => absurd h (by omega)
  | d + 1, _, 0, _, _, h => absurd h (by omega)
theorem st_ring (hfu : 70000 ≤ fu) (h : Rel nw x m) : ∀ a, S2 Rel nw (f_X10_ring fu nw x a) (f_X11_ring fu m a) := by
  intro a
  have hR := rel_th h
  obtain ⟨y, st, tl, ns, hh, l, np, r, hA, hT, hS, hW, hH, hB, hO, hP, h0, h1, h2, h3, h4⟩ := h
  obtain ⟨a1, a2, a3, a4, a5, a6, a7, a8, a9⟩ := hA
  obtain ⟨d1, d2, d3⟩ := a2
  have hz : S2 Rel nw (some (x, 0)) (some (mu m 0 0 0, 0)) := ⟨x, _, _, rfl, rfl, hR⟩
  unfold f_X10_ring f_X11_ring f_X2_layRing
  rw [d1, d2]
  by_cases c0 : a < 12
  · rw [if_pos c0, if_pos c0]; exact hz
  rw [if_neg c0, if_neg c0]
  by_cases c1 : 60 < a
  · rw [if_pos c1, if_pos c1]; exact hz
  rw [if_neg c1, if_neg c1]
  by_cases c2 : nI st = 4
  · rw [if_pos c2, if_pos c2]; exact hz
  rw [if_neg c2, if_neg c2]
  have hst : st ≠ 4 := fun q => c2 (by rw [q]; rfl)
  have hn0 : ¬ a < 0 := fun q => c0 (Int32.lt_trans q (by decide))
  obtain ⟨k, hk, rfl⟩ := nI_of hn0
  have hk1 : 12 ≤ k := by
    rcases Nat.lt_or_ge k 12 with q | q
    · exact absurd (nI_lt (b := 12) q (by decide)) c0
    · exact q
  have hk2 : k ≤ 60 := by
    rcases Nat.lt_or_ge 60 k with q | q
    · exact absurd (nI_lt (a := 60) q hk) c1
    · exact q
  rw [show (0 : Int32) = nI 0 from rfl, lay_sp 60 0 fu _ (by omega) (by omega), rin_sp 60 0 fu _ (by omega) (by omega), ob_s]
  refine ⟨_, _, _, rfl, rfl, ⟨y, st, tl, ns, hh, k, np, r, ⟨a1, ⟨d1, d2, d3⟩, a3, a4, a5, a6, ⟨rfl, rfl, hk1, hk2⟩, a8, a9⟩, hT, hS, hW, hH, ?_, hO, hP, h0, h1, h2, h3, ?_⟩⟩
  · intro c hc
    rw [fz_in _ _ _ _ _ _ (by omega) hc, fz_in _ _ _ _ _ _ (by omega) hc]
    exact ⟨rfl, Or.inl rfl⟩
  · intro hs
    obtain ⟨lp, t, ar, p1, p2, p3, p4, p5, p6, p7⟩ := h4 hs
    exact ⟨lp, t, ar, p1, p2, p3, p4, p5, p6, fun q => absurd q hst⟩
theorem xr_no {a : Int32} (e : x 13 0 = nI nw) (h : a < 0 ∨ nI nw ≤ a) : f_X8_runs fu nw x a = some (x, 0) := by
  unfold f_X8_runs
  rw [find_no e h]
  rfl
theorem xr_yes {j : Nat} (e : x 13 0 = nI nw) (h : j < nw) (hn : nw ≤ 17) : f_X8_runs fu nw x (nI j) = some (x, if x 50 j = 0 then 0 else 1) := by
  unfold f_X8_runs
  rw [find_yes e h hn, ob_s, om_1, if_pos h]
  by_cases c : x 50 j = 0
  · rw [if_pos c, if_pos c]
  · rw [if_neg c, if_neg c]
theorem mr_no {a : Int32} (e : m 17 0 = nI nw) (h : a < 0 ∨ nI nw ≤ a) : f_X11_runs fu m a = some (m, 0) := by
  unfold f_X11_runs
  rw [isW_no e h]
  rfl
theorem mr_yes {j : Nat} (e : m 17 0 = nI nw) (h : j < nw) (hn : nw ≤ 17) (hs : ¬ m 4 0 ≤ 0) : f_X11_runs fu m (nI j) = some (m, if m 23 j = 0 then 0 else 1) := by
  unfold f_X11_runs
  rw [isW_yes e h hn, ob_s, if_neg n10, if_neg hs, if_pos (inb_nI (by omega) (by decide)), nI_clamp (by omega)]
  by_cases c : m 23 j = 0
  · rw [if_pos c, if_pos c]
  · rw [if_neg c, if_neg c]
theorem st_seen (h : Rel nw x m) : ∀ a b, S2 Rel nw (f_X10_seen fu nw x a b) (f_X11_seen fu m a b) := by
  intro a b
  have hR := rel_th h
  obtain ⟨y, st, tl, ns, hh, l, np, r, hA, hT, hS, hW, hH, hB, hO, hP, h0, h1, h2, h3, h4⟩ := h
  obtain ⟨d1, d2, d3⟩ := hA.2.1
  obtain ⟨e1, e2, e3⟩ := hA.2.2.2.2.1
  have e2' : (mu m 0 0 0) 17 0 = nI nw := e2
  have hz : S2 Rel nw (some (x, 0)) (some (mu m 0 0 0, 0)) := ⟨x, _, _, rfl, rfl, hR⟩
  unfold f_X10_seen f_X11_seen
  rw [d1, d2]
  by_cases c3 : nI st = 3
  · rw [if_pos c3, if_pos c3]
    have hst : st = 3 := (nI_eq (by omega) (by decide)).mp (show nI st = nI 3 from c3)
    subst hst
    obtain ⟨r1, r2, r3, r4, r5, r6⟩ := h1 (by omega)
    rw [r1, r2]
    rcases rng_ix a (n := r) (by omega) with ⟨p, hp, rfl⟩ | hc
    · rw [rng_yes hp (by omega), rng_yes hp (by omega)]
      rcases rng_ix b (n := nw) (by omega) with ⟨j, hj, rfl⟩ | hc
      · rw [xr_yes e1 hj e3, mr_yes e2' hj e3 (show ¬ (mu m 0 0 0) 4 0 ≤ 0 by rw [show (mu m 0 0 0) 4 0 = nI 3 from d2]; decide), ob_s, ob_s]
        obtain ⟨w1, w2, -⟩ := hW.1 j hj
        rw [show (mu m 0 0 0) 23 j = m 23 j from rfl, w1]
        rcases w2 with q | q
        · rw [if_pos q, if_pos rfl, if_pos rfl]; exact hz
        · have qn : ¬ m 23 j = 0 := by rw [q]; decide
          rw [if_neg qn, if_neg n10, if_neg n10, if_pos (inb_nI (by omega) (by decide)), if_pos (inb_nI (by omega) (by decide)), nI_clamp (by omega)]
          refine ⟨_, _, _, rfl, rfl, ⟨y, 3, tl, ns, hh, l, np, r, hA, hT, hS, hW, hH, hB, hO, hP, h0, h1, h2, ?_, h4⟩⟩
          intro hs
          obtain ⟨g1, g2, g3, g4⟩ := h3 hs
          refine ⟨g1, g2, g3, fun hs3 p' hp' => ?_⟩
          show (mu x 23 p (nI j) 23 p' = -1 ∧ mu (mu m 0 0 0) 33 p (nI j) 33 p' = m 32 p') ∨ ∃ w, w < nw ∧ mu x 23 p (nI j) 23 p' = nI w ∧ mu (mu m 0 0 0) 33 p (nI j) 33 p' = nI w
          by_cases e : p' = p
          · subst e
            rw [mu_same, mu_same]
            exact Or.inr ⟨j, hj, rfl, rfl⟩
          · rw [mu_ne _ _ _ _ _ e, mu_ne _ _ _ _ _ e]
            exact g4 hs3 p' hp'
      · rw [xr_no e1 hc, mr_no e2' hc, ob_s, ob_s, if_pos rfl, if_pos rfl]; exact hz
    · rw [rng_no hc, rng_no hc]; exact hz
  · rw [if_neg c3, if_neg c3]; exact hz
end PUR3
