section PUR12
variable {fu nw : Nat} {x m : Me}
theorem cg18 {g : Nat → Int32} {c r : Nat} {k : Me → Option (Me × Unit)} (hr : r ≤ 10) (hx : x 20 0 = nI r) : ∀ (d i n : Nat), i + d + 1 = r → d < n → c ≤ i → f_X3_closeGap_18_2 fu nw k n (ms x 24 (gp g c i)) (nI i) = k (ms x 24 (gp g c (r - 1)))
  | 0, i, n + 1, h, _, hc => by
    rw [f_X3_closeGap_18_2_s, nI_1, show (ms x 24 (gp g c i)) 20 0 = nI r from hx, if_pos (nI_le (by omega) (by omega)), show i = r - 1 by omega]
  | d + 1, i, n + 1, h, hn, hc => by
    rw [f_X3_closeGap_18_2_s, nI_1, show (ms x 24 (gp g c i)) 20 0 = nI r from hx, if_neg (nI_ge (by omega) (by omega)), if_neg (show ¬ (10 : Int32) ≤ nI (i + 1) from nI_ge (b := 10) (by omega) (by decide)), if_pos (inb_nI (by omega) (by decide)), if_pos (inb_nI (by omega) (by decide)), nI_clamp (by omega), nI_clamp (by omega), show (ms x 24 (gp g c i)) 24 (i + 1) = g (i + 1) from gp_at g c i, gp_s _ _ _ _ _ hc]
    exact cg18 hr hx d (i + 1) n (by omega) (by omega) (by omega)
  | 0, _, 0, _, h, _ => absurd h (by omega)
  | d + 1, _, 0, _, h, _ => absurd h (by omega)
theorem tl_sp (hfu : 70000 ≤ fu) {r c : Nat} (hr : r ≤ 10) (hx : x 20 0 = nI r) (hc : c < r) : f_X3_takeLeft fu nw x (nI c) = some (ms x 24 (gp (x 24) c (r - 1)), x 24 c) := by
  unfold f_X3_takeLeft f_X3_closeGap_18
  have := cg18 (fu := fu) (nw := nw) (g := x 24) (c := c) (k := fun (x_5 : Me) => some (x_5, ())) hr hx (r - 1 - c) c fu (by omega) (by omega) (Nat.le_refl _)
  rw [gp_0] at this
  rw [hx, if_neg (nI_pos (by omega)), if_pos (nI_lt hc (by omega)), if_pos (inb_nI (by omega) (by decide)), this, nI_clamp (by omega)]
  rfl
theorem l62_sp {b3 b4 : Int32} {k : Me → Int32 → Option (Me × Int32)} {tk : Nat} (htk : tk < 2 ^ 31) : ∀ (d i n c w : Nat), i + d ≤ 20 → d ≤ n → c < 100 → ((List.range' i d).filter (ft (fun _ => true) tk))[c]? = some w → f_X11_lots_62 fu (nI tk) b3 b4 k n m (nI c) (nI i) = k m (nI w)
  | 0, _, _, _, _, _, _, _, hw => by simp at hw
  | d + 1, i, n + 1, c, w, h, hn, hc, hw => by
    have ih := fun c hc hw => l62_sp (b3 := b3) (b4 := b4) (k := k) htk d (i + 1) n c w (by omega) (by omega) hc hw
    rw [List.range'_succ] at hw
    rw [f_X11_lots_62_s, Int32.sub_zero, nI_1]
    simp only [jn]
    cases q : tk.testBit i with
    | true =>
      rw [List.filter_cons_of_neg (by simp [ft, q])] at hw
      rw [if_pos (bit_1 htk (by omega) q), if_pos (bit_1 htk (by omega) q)]
      exact ih c hc hw
    | false =>
      have hb : ¬ (nI tk >>> (nI i &&& 31)) &&& 1 = 1 := by rw [bit_0 htk (by omega) q]; decide
      rw [List.filter_cons_of_pos (by simp [ft, q])] at hw
      rw [if_neg hb]
      cases c with
      | zero =>
        rw [List.getElem?_cons_zero] at hw
        have e : i = w := Option.some.inj hw
        rw [if_pos (show nI 0 ≤ 0 by decide), e]
      | succ c =>
        rw [List.getElem?_cons_succ] at hw
        rw [if_neg (nI_nle (by omega) (by omega)), if_neg hb, nI_pred]
        exact ih c (by omega) hw
  | d + 1, _, 0, _, _, _, h, _, _ => absurd h (by omega)
theorem l163_sp {b4 : Int32} {k : Me → Int32 → Option (Me × Int32)} {tk : Nat} (htk : tk < 2 ^ 31) (hn : nw ≤ 17) (h01 : ∀ j, j < nw → m 23 j = 0 ∨ m 23 j = 1) : ∀ (d i n c w : Nat), i + d = nw → d ≤ n → c < 100 → ((List.range' i d).filter (ft (fun j => decide (m 23 j = 1)) tk))[c]? = some w → f_X11_lots_163 fu (nI tk) b4 k n m (nI c) (nI i) = k m (nI w)
  | 0, _, _, _, _, _, _, _, hw => by simp at hw
  | d + 1, i, n + 1, c, w, h, hn', hc, hw => by
    have ih := fun c hc hw => l163_sp (b4 := b4) (k := k) htk hn h01 d (i + 1) n c w (by omega) (by omega) hc hw
    rw [List.range'_succ] at hw
    rw [f_X11_lots_163_s, if_pos (inb_nI (by omega) (by decide)), nI_clamp (by omega), Int32.sub_zero, nI_1]
    simp only [jn]
    rcases h01 i (by omega) with z | z
    · rw [List.filter_cons_of_neg (by simp [ft, z])] at hw
      rw [if_pos z, if_pos z]
      exact ih c hc hw
    · have zn : ¬ m 23 i = 0 := by rw [z]; decide
      cases q : tk.testBit i with
      | true =>
        rw [List.filter_cons_of_neg (by simp [ft, q])] at hw
        rw [if_neg zn, if_pos (bit_1 htk (by omega) q), if_neg zn, if_pos (bit_1 htk (by omega) q)]
        exact ih c hc hw
      | false =>
        have hb : ¬ (nI tk >>> (nI i &&& 31)) &&& 1 = 1 := by rw [bit_0 htk (by omega) q]; decide
        rw [List.filter_cons_of_pos (by simp [ft, q, z])] at hw
        rw [if_neg zn, if_neg hb]
        cases c with
        | zero =>
          rw [List.getElem?_cons_zero] at hw
          have e : i = w := Option.some.inj hw
          rw [if_pos (show nI 0 ≤ 0 by decide), e]
        | succ c =>
          rw [List.getElem?_cons_succ] at hw
          rw [if_neg (nI_nle (by omega) (by omega)), if_neg zn, if_neg hb, nI_pred]
          exact ih c (by omega) hw
  | d + 1, _, 0, _, _, _, h, _, _ => absurd h (by omega)
theorem fl_sp {v : Int32} {k : Me → Option (Me × Unit)} : ∀ (d i n : Nat) (x : Me), i + d = 10 → d < n → ∃ x', f_J7_fill_53178_17_5 fu nw v 10 k n x (nI i) = k x' ∧ (∀ f, inL [23] f = false → x' f = x f) ∧ (∀ j, j < i → x' 23 j = x 23 j) ∧ ∀ j, i ≤ j → j < 10 → x' 23 j = v
  | 0, i, n + 1, x, h, _ => ⟨x, by rw [f_J7_fill_53178_17_5_s, if_pos (show (10 : Int32) ≤ nI i from nI_le (a := 10) (by omega) (by omega))], fun _ _ => rfl, fun _ _ => rfl, fun j h1 h2 => absurd h2 (by omega)⟩
  | d + 1, i, n + 1, x, h, hn => by
    obtain ⟨x', k1, k2, k3, k4⟩ := fl_sp (v := v) (k := k) d (i + 1) n (mu x 23 i v) (by omega) (by omega)
    refine ⟨x', ?_, fun f hf => (k2 f hf).trans (mu_fr _ _ _ hf rfl), fun j hj => (k3 j (by omega)).trans (mu_ne _ _ _ _ _ (by omega)), fun j h1 h2 => ?_⟩
    · rw [f_J7_fill_53178_17_5_s, if_neg (show ¬ (10 : Int32) ≤ nI i from nI_ge (b := 10) (by omega) (by decide)), if_pos (inb_nI (by omega) (by decide)), nI_clamp (by omega), nI_1, k1]
    · by_cases e : j = i
      · rw [e, k3 i (by omega), mu_same]
      · exact k4 j (by omega) h2
  | 0, _, 0, _, _, h => absurd h (by omega)
  | d + 1, _, 0, _, _, h => absurd h (by omega)
theorem fs_sp (hfu : 70000 ≤ fu) (x : Me) : ∃ x', f_X3_forgetSeen fu nw x = some (x', ()) ∧ (∀ f, inL [23] f = false → x' f = x f) ∧ ∀ j, j < 10 → x' 23 j = -1 := by
  obtain ⟨x', k1, k2, _, k4⟩ := fl_sp (fu := fu) (nw := nw) (v := -1) (k := fun (x_3 : Me) => some (x_3, ())) 10 0 fu x (by omega) (by omega)
  refine ⟨x', ?_, k2, fun j hj => k4 j (by omega) hj⟩
  unfold f_X3_forgetSeen f_J7_fill_53178_17
  rw [show (0 : Int32) = nI 0 from rfl, k1]
  rfl
theorem ly12 {r : Nat} {k : Me → Option (Me × Unit)} (hr : r ≤ 10) : ∀ (d i n : Nat) (x : Me), x 20 0 = nI r → i + d = r → d < n → ∃ x', f_X3_layOut_12_2 fu nw k n x (nI i) = k x' ∧ (∀ f, inL [24] f = false → x' f = x f) ∧ (∀ j, j < i → x' 24 j = x 24 j) ∧ ∀ j, i ≤ j → j < r → x' 24 j = x 18 j
  | 0, i, n + 1, x, hx, h, _ => ⟨x, by rw [f_X3_layOut_12_2_s, hx, if_pos (nI_le (by omega) (by omega))], fun _ _ => rfl, fun _ _ => rfl, fun j h1 h2 => absurd h2 (by omega)⟩
  | d + 1, i, n + 1, x, hx, h, hn => by
    obtain ⟨x', k1, k2, k3, k4⟩ := ly12 (k := k) hr d (i + 1) n (mu x 24 i (x 18 i)) hx (by omega) (by omega)
    refine ⟨x', ?_, fun f hf => (k2 f hf).trans (mu_fr _ _ _ hf rfl), fun j hj => (k3 j (by omega)).trans (mu_ne _ _ _ _ _ (by omega)), fun j h1 h2 => ?_⟩
    · rw [f_X3_layOut_12_2_s, hx, if_neg (nI_ge (by omega) (by omega)), if_neg (show ¬ (10 : Int32) ≤ nI i from nI_ge (b := 10) (by omega) (by decide)), if_pos (inb_nI (by omega) (by decide)), nI_clamp (by omega), nI_1, k1]
    · by_cases e : j = i
      · rw [e, k3 i (by omega), mu_same]
      · exact k4 j (by omega) h2
  | 0, _, 0, _, _, _, h => absurd h (by omega)
  | d + 1, _, 0, _, _, _, h => absurd h (by omega)
theorem ly15 {r : Nat} {k : Me → Option (Me × Unit)} (hr : r ≤ 10) : ∀ (d i n : Nat) (x : Me), x 20 0 = nI r → i + d = r → d < n → ∃ x', f_X3_layOut_15_2 fu nw k n x (nI i) = k x' ∧ (∀ f, inL [24] f = false → x' f = x f) ∧ (∀ j, j < i → x' 24 j = x 24 j) ∧ ∀ j, i ≤ j → j < r → x' 24 j = x 21 j
  | 0, i, n + 1, x, hx, h, _ => ⟨x, by rw [f_X3_layOut_15_2_s, hx, if_pos (nI_le (by omega) (by omega))], fun _ _ => rfl, fun _ _ => rfl, fun j h1 h2 => absurd h2 (by omega)⟩
  | d + 1, i, n + 1, x, hx, h, hn => by
    obtain ⟨x', k1, k2, k3, k4⟩ := ly15 (k := k) hr d (i + 1) n (mu x 24 i (x 21 i)) hx (by omega) (by omega)
    refine ⟨x', ?_, fun f hf => (k2 f hf).trans (mu_fr _ _ _ hf rfl), fun j hj => (k3 j (by omega)).trans (mu_ne _ _ _ _ _ (by omega)), fun j h1 h2 => ?_⟩
    · rw [f_X3_layOut_15_2_s, hx, if_neg (nI_ge (by omega) (by omega)), if_neg (show ¬ (10 : Int32) ≤ nI i from nI_ge (b := 10) (by omega) (by decide)), if_pos (inb_nI (by omega) (by decide)), nI_clamp (by omega), nI_1, k1]
    · by_cases e : j = i
      · rw [e, k3 i (by omega), mu_same]
      · exact k4 j (by omega) h2
  | 0, _, 0, _, _, _, h => absurd h (by omega)
  | d + 1, _, 0, _, _, _, h => absurd h (by omega)
theorem lh_sp (hfu : 70000 ≤ fu) {r h : Nat} {k : Me → Option (Me × Unit)} {k' : Me → Option (Me × Int32)} (hn : nw ≤ 17) (hr : r ≤ 10) : ∀ (d j i n1 n2 tk : Nat) (x m : Me), j + d = nw → d < n2 → r - i < n1 → tk < 2 ^ 10 → x 13 0 = nI nw → m 17 0 = nI nw → x 20 0 = nI r → x 49 0 = m 29 0 → (∀ j, j < nw → m 23 j = 0 ∨ m 23 j = 1) →
    i + ((List.range' j d).filter (fun j => decide (m 23 j = 1))).length = r → (∀ t w, ((List.range' j d).filter (fun j => decide (m 23 j = 1)))[t]? = some w → x 21 (i + t) = nI w) → (∀ q, q < r → ∃ g, g < h ∧ x 18 q = nI g ∧ m 31 q = nI g) →
    ((List.range r).filter (ft (fun _ => true) tk)).length = r - i → LR ((List.range r).filter (ft (fun _ => true) tk)) (x 18) (x 24) →
    ∃ x' m', f_X3_drawHorses_12_8 fu nw k n1 x (nI i) = k x' ∧ f_X11_lots_30 fu k' n2 m (nI tk) (nI (r - i)) (nI j) = k' m' ∧ (∀ f, inL [24, 49, 51] f = false → x' f = x f) ∧ (∀ f, inL [29, 22] f = false → m' f = m f) ∧ x' 49 0 = m' 29 0 ∧ (∀ w, j ≤ w → w < nw → m 23 w = 1 → ∃ g, g < h ∧ x' 51 w = nI g ∧ m' 22 w = nI g) ∧ (∀ w, (w < j ∨ m 23 w = 0) → x' 51 w = x 51 w ∧ m' 22 w = m 22 w)
  | 0, j, i, n1 + 1, n2 + 1, tk, x, m, hj, g2, g1, htk, e1, e2, e3, e4, h01, c1, c2, c3, c4, c5 => by
    have hi : i = r := c1
    refine ⟨x, m, ?_, ?_, fun _ _ => rfl, fun _ _ => rfl, e4, fun w a b => absurd b (by omega), fun w _ => ⟨rfl, rfl⟩⟩
    · rw [f_X3_drawHorses_12_8_s, e3, if_pos (nI_le (by omega) (by omega))]
    · rw [f_X11_lots_30_s, e2, if_pos (nI_le (by omega) (by omega))]
  | d + 1, j, i, n1 + 1, n2 + 1, tk, x, m, hj, g2, g1, htk, e1, e2, e3, e4, h01, c1, c2, c3, c4, c5 => by
    rw [List.range'_succ] at c1 c2
    have hjn : j < nw := by omega
    rcases h01 j hjn with z | z
    · rw [List.filter_cons_of_neg (by simp [z])] at c1 c2
      obtain ⟨x', m', k1, k2, k3, k4, k5, k6, k7⟩ := lh_sp hfu (h := h) (k := k) (k' := k') hn hr d (j + 1) i (n1 + 1) n2 tk x m (by omega) (by omega) g1 htk e1 e2 e3 e4 h01 c1 c2 c3 c4 c5
      refine ⟨x', m', k1, ?_, k3, k4, k5, fun w a b c => ?_, fun w a => ?_⟩
      · rw [f_X11_lots_30_s, e2, if_neg (nI_ge (by omega) (by omega)), if_pos (inb_nI (by omega) (by decide)), nI_clamp (by omega), if_pos z, nI_1, k2]
      · by_cases e : w = j
        · rw [e, z] at c; exact absurd c (by decide)
        · exact k6 w (by omega) b c
      · exact k7 w (a.imp (fun q => by omega) id)
    · have zn : ¬ m 23 j = 0 := by rw [z]; decide
      rw [List.filter_cons_of_pos (by simp [z])] at c1 c2
      rw [List.length_cons] at c1
      have hir : i < r := by omega
      have hlt : dv (m 29 0) (r - i) < ((List.range r).filter (ft (fun _ => true) tk)).length := by rw [c4]; exact dv_lt _ (by omega)
      obtain ⟨q, hq⟩ : ∃ q, ((List.range r).filter (ft (fun _ => true) tk))[dv (m 29 0) (r - i)]? = some q := ⟨_, List.getElem?_eq_getElem hlt⟩
      obtain ⟨q1, _, q3⟩ := ft_mem hq
      obtain ⟨g, hg, hgx, hgm⟩ := c3 q q1
      have hcl : dv (m 29 0) (r - i) < r - i := dv_lt _ (by omega)
      generalize hcd : dv (m 29 0) (r - i) = c at hq hcl hlt
      have htk' : tk ||| 2 ^ q < 2 ^ 10 := Nat.or_lt_two_pow htk (Nat.pow_lt_pow_right (by decide) (by omega))
      have hlen : ((List.range r).filter (ft (fun _ => true) (tk ||| 2 ^ q))).length = r - (i + 1) := by
        rw [ft_er hq, List.length_eraseIdx, if_pos hlt, c4]; omega
      have hrun0 : x 21 i = nI j := c2 0 j rfl
      obtain ⟨x', m', k1, k2, k3, k4, k5, k6, k7⟩ := lh_sp hfu (h := h) (k := k) (k' := k') hn hr d (j + 1) (i + 1) n1 n2 (tk ||| 2 ^ q) (mu (ms (mu x 49 0 (nx (x 49 0))) 24 (gp (x 24) c (r - 1))) 51 j (nI g)) (mu (mu m 29 0 (nx (m 29 0))) 22 j (nI g)) (by omega) (by omega) (by omega) htk' e1 e2 e3 (by show nx (x 49 0) = nx (m 29 0); rw [e4]) h01 (by show i + 1 + ((List.range' (j + 1) d).filter (fun j => decide (m 23 j = 1))).length = r; omega)
        (fun t w ht => by
          show x 21 (i + 1 + t) = nI w
          rw [show i + 1 + t = i + (t + 1) by omega]
          exact c2 (t + 1) w (by rw [List.getElem?_cons_succ]; exact ht)) c3 hlen (by rw [ft_er hq]; exact LR_er c5 (by omega))
      refine ⟨x', m', ?_, ?_, fun f hf => ?_, fun f hf => ?_, k5, fun w a b cc => ?_, fun w a => ?_⟩
      · rw [f_X3_drawHorses_12_8_s, e3, if_neg (nI_ge (by omega) (by omega)), pk_sub (by omega), bel0_sp (by omega) (by omega), ob_s, e4, hcd, tl_sp hfu hr (show mu x 49 0 (nx (m 29 0)) 20 0 = nI r from e3) (by omega), ob_s, if_pos (inb_nI (by omega) (by decide)), nI_clamp (by omega)]
        rw [show ms (mu x 49 0 (nx (m 29 0))) 24 (gp (mu x 49 0 (nx (m 29 0)) 24) c (r - 1)) 21 i = nI j from hrun0, find_yes (show ms (mu x 49 0 (nx (m 29 0))) 24 (gp (mu x 49 0 (nx (m 29 0)) 24) c (r - 1)) 13 0 = nI nw from e1) hjn hn, ob_s, om_1, if_pos hjn, nI_1, show mu x 49 0 (nx (m 29 0)) 24 c = nI g from (c5 c q hq).trans hgx]
        rw [e4] at k1
        exact k1
      · rw [f_X11_lots_30_s, e2, if_neg (nI_ge (by omega) (by omega)), if_pos (inb_nI (by omega) (by decide)), nI_clamp (by omega), if_neg zn, drw_sp (by omega) (by omega), ob_s, hcd]
        have := l62_sp (fu := fu) (m := mu m 29 0 (nx (m 29 0))) (b3 := nI (r - i)) (b4 := nI j) (tk := tk) (k := (fun (x_7 : Me) (a6_7 : Int32) => if inb a6_7 10 = true then if inb (nI j) 17 = true then f_X11_lots_30 fu k' n2 (mu x_7 22 j (x_7 31 a6_7.toNatClampNeg)) (nI tk ||| ((1 : Int32) <<< (a6_7 &&& 31))) (nI (r - i) + (-1)) (nI j + 1) else none else none)) (by omega) r 0 fu c q (by omega) (by omega) (by omega) (by rw [← List.range_eq_range']; exact hq)
        refine this.trans ?_
        show (if inb (nI q) 10 = true then if inb (nI j) 17 = true then f_X11_lots_30 fu k' n2 (mu (mu m 29 0 (nx (m 29 0))) 22 j (mu m 29 0 (nx (m 29 0)) 31 (nI q).toNatClampNeg)) (nI tk ||| ((1 : Int32) <<< (nI q &&& 31))) (nI (r - i) + (-1)) (nI j + 1) else none else none) = k' m'
        rw [if_pos (inb_nI (by omega) (by decide)), if_pos (inb_nI (by omega) (by decide)), nI_clamp (by omega), show mu m 29 0 (nx (m 29 0)) 31 q = nI g from hgm, bor_sp (by omega), show r - i = (r - (i + 1)) + 1 by omega, pk_m1, nI_1, k2]
      · rw [k3 f hf, mu_fr _ _ _ hf rfl, ms_fr _ _ hf rfl, mu_fr _ _ _ hf rfl]
      · rw [k4 f hf, mu_fr _ _ _ hf rfl, mu_fr _ _ _ hf rfl]
      · by_cases e : w = j
        · refine ⟨g, hg, ?_, ?_⟩
          · rw [(k7 w (Or.inl (by omega))).1, e, mu_same]
          · rw [(k7 w (Or.inl (by omega))).2, e, mu_same]
        · exact k6 w (by omega) b cc
      · have hne : w ≠ j := fun e => by
          rcases a with a | a
          · omega
          · rw [e] at a; exact zn a
        rw [(k7 w (a.imp (fun q => by omega) id)).1, (k7 w (a.imp (fun q => by omega) id)).2, mu_ne _ _ _ _ _ hne, mu_ne _ _ _ _ _ hne]
        exact ⟨rfl, rfl⟩
  | 0, _, _, 0, _, _, _, _, _, _, h, _, _, _, _, _, _, _, _, _, _, _ => absurd h (by omega)
  | 0, _, _, n + 1, 0, _, _, _, _, h, _, _, _, _, _, _, _, _, _, _, _, _ => absurd h (by omega)
  | d + 1, _, _, 0, _, _, _, _, _, _, h, _, _, _, _, _, _, _, _, _, _, _ => absurd h (by omega)
  | d + 1, _, _, n + 1, 0, _, _, _, _, h, _, _, _, _, _, _, _, _, _, _, _, _ => absurd h (by omega)
theorem lp_sp (hfu : 70000 ≤ fu) {r : Nat} {k : Me → Option (Me × Unit)} {k' : Me → Option (Me × Int32)} (hn : nw ≤ 17) (hr : r ≤ 10) : ∀ (d p n1 n2 tk : Nat) (x m : Me), p + d = r → d < n1 → d < n2 → tk < 2 ^ 17 → x 20 0 = nI r → m 30 0 = nI r → x 49 0 = m 29 0 → (∀ j, j < nw → m 23 j = 0 ∨ m 23 j = 1) →
    ((List.range nw).filter (ft (fun j => decide (m 23 j = 1)) tk)).length = r - p → LR ((List.range nw).filter (ft (fun j => decide (m 23 j = 1)) tk)) nI (x 24) →
    ∃ x' m', f_X3_drawPlaces_10 fu nw k n1 x (nI p) = k x' ∧ f_X11_lots_138 fu k' n2 m (nI tk) (nI p) = k' m' ∧ (∀ f, inL [22, 24, 49] f = false → x' f = x f) ∧ (∀ f, inL [29, 32, 33] f = false → m' f = m f) ∧
      (∀ q, q < p → x' 22 q = x 22 q ∧ m' 32 q = m 32 q ∧ m' 33 q = m 33 q) ∧
      (∀ q, p ≤ q → q < r → ∃ w, w < nw ∧ x' 22 q = nI w ∧ m' 32 q = nI w ∧ m' 33 q = nI w ∧ m 23 w = 1 ∧ tk.testBit w = false) ∧
      (∀ q1 q2, p ≤ q1 → q1 < q2 → q2 < r → m' 32 q1 ≠ m' 32 q2) ∧ (∀ w, w < nw → m 23 w = 1 → tk.testBit w = false → ∃ q, p ≤ q ∧ q < r ∧ m' 32 q = nI w)
  | 0, p, n1 + 1, n2 + 1, tk, x, m, hp, g1, g2, htk, e3, e2, e4, h01, c4, c5 => by
    refine ⟨x, m, ?_, ?_, fun _ _ => rfl, fun _ _ => rfl, fun _ _ => ⟨rfl, rfl, rfl⟩, fun q a b => absurd b (by omega), fun q1 q2 a b c => absurd c (by omega), fun w a b c => ?_⟩
    · rw [f_X3_drawPlaces_10_s, e3, if_pos (nI_le (by omega) (by omega))]
    · rw [f_X11_lots_138_s, e2, if_pos (nI_le (by omega) (by omega))]
    · have hnil : (List.range nw).filter (ft (fun j => decide (m 23 j = 1)) tk) = [] := List.eq_nil_of_length_eq_zero (by omega)
      have := List.filter_eq_nil_iff.mp hnil w (List.mem_range.mpr a)
      exact absurd (by simp [ft, b, c]) this
  | d + 1, p, n1 + 1, n2 + 1, tk, x, m, hp, g1, g2, htk, e3, e2, e4, h01, c4, c5 => by
    have hlt : dv (m 29 0) (r - p) < ((List.range nw).filter (ft (fun j => decide (m 23 j = 1)) tk)).length := by rw [c4]; exact dv_lt _ (by omega)
    obtain ⟨w, hw⟩ : ∃ q, ((List.range nw).filter (ft (fun j => decide (m 23 j = 1)) tk))[dv (m 29 0) (r - p)]? = some q := ⟨_, List.getElem?_eq_getElem hlt⟩
    obtain ⟨w1, w2, w3⟩ := ft_mem hw
    have w2' : m 23 w = 1 := by simpa using w2
    have hcl : dv (m 29 0) (r - p) < r - p := dv_lt _ (by omega)
    generalize hcd : dv (m 29 0) (r - p) = c at hw hcl hlt
    have htk' : tk ||| 2 ^ w < 2 ^ 17 := Nat.or_lt_two_pow htk (Nat.pow_lt_pow_right (by decide) (by omega))
    have hlen : ((List.range nw).filter (ft (fun j => decide (m 23 j = 1)) (tk ||| 2 ^ w))).length = r - (p + 1) := by
      rw [ft_er hw, List.length_eraseIdx, if_pos hlt, c4]; omega
    obtain ⟨x', m', k1, k2, k3, k4, k5, k6, k7, k8⟩ := lp_sp hfu (k := k) (k' := k') hn hr d (p + 1) n1 n2 (tk ||| 2 ^ w) (mu (ms (mu x 49 0 (nx (x 49 0))) 24 (gp (x 24) c (r - 1))) 22 p (nI w)) (mu (mu (mu m 29 0 (nx (m 29 0))) 32 p (nI w)) 33 p (nI w)) (by omega) (by omega) (by omega) htk' e3 e2 (by show nx (x 49 0) = nx (m 29 0); rw [e4]) h01 hlen (by rw [show (fun j => decide (mu (mu (mu m 29 0 (nx (m 29 0))) 32 p (nI w)) 33 p (nI w) 23 j = 1)) = (fun j => decide (m 23 j = 1)) from rfl, ft_er hw]; exact LR_er c5 (by omega))
    obtain ⟨a1, a2, a3⟩ := k5 p (by omega)
    have a2' : m' 32 p = nI w := by rw [a2]; exact mu_same (mu m 29 0 (nx (m 29 0))) 32 p (nI w)
    refine ⟨x', m', ?_, ?_, fun f hf => ?_, fun f hf => ?_, fun q hq => ?_, fun q hq1 hq2 => ?_, fun q1 q2 h1 h2 h3 => ?_, fun v v1 v2 v3 => ?_⟩
    · rw [f_X3_drawPlaces_10_s, e3, if_neg (nI_ge (by omega) (by omega)), pk_sub (by omega), bel0_sp (by omega) (by omega), ob_s, e4, hcd, tl_sp hfu hr (show mu x 49 0 (nx (m 29 0)) 20 0 = nI r from e3) (by omega), ob_s, if_pos (inb_nI (by omega) (by decide)), nI_clamp (by omega), nI_1, show mu x 49 0 (nx (m 29 0)) 24 c = nI w from c5 c w hw]
      rw [e4] at k1
      exact k1
    · rw [f_X11_lots_138_s, e2, if_neg (nI_ge (by omega) (by omega)), pk_sub (by omega), drw_sp (by omega) (by omega), ob_s, hcd]
      have := l163_sp (fu := fu) (nw := nw) (m := mu m 29 0 (nx (m 29 0))) (b4 := nI p) (tk := tk) (k := (fun (x_21 : Me) (a6_21 : Int32) => if inb (nI p) 10 = true then f_X11_lots_138 fu k' n2 (mu (mu x_21 32 (nI p).toNatClampNeg a6_21) 33 (nI p).toNatClampNeg a6_21) (nI tk ||| ((1 : Int32) <<< (a6_21 &&& 31))) (nI p + 1) else none)) (by omega) hn h01 nw 0 fu c w (by omega) (by omega) (by omega) (by rw [← List.range_eq_range']; exact hw)
      refine this.trans ?_
      show (if inb (nI p) 10 = true then f_X11_lots_138 fu k' n2 (mu (mu (mu m 29 0 (nx (m 29 0))) 32 (nI p).toNatClampNeg (nI w)) 33 (nI p).toNatClampNeg (nI w)) (nI tk ||| ((1 : Int32) <<< (nI w &&& 31))) (nI p + 1) else none) = k' m'
      rw [if_pos (inb_nI (by omega) (by decide)), nI_clamp (by omega), bor_sp (by omega), nI_1, k2]
    · rw [k3 f hf, mu_fr _ _ _ hf rfl, ms_fr _ _ hf rfl, mu_fr _ _ _ hf rfl]
    · rw [k4 f hf, mu_fr _ _ _ hf rfl, mu_fr _ _ _ hf rfl, mu_fr _ _ _ hf rfl]
    · obtain ⟨b1, b2, b3⟩ := k5 q (by omega)
      exact ⟨b1.trans (mu_ne _ _ _ _ _ (by omega)), b2.trans (mu_ne (mu m 29 0 (nx (m 29 0))) 32 p q (nI w) (by omega)), b3.trans (mu_ne _ _ _ _ _ (by omega))⟩
    · by_cases e : q = p
      · rw [e]
        exact ⟨w, w1, a1.trans (mu_same _ _ _ _), a2', a3.trans (mu_same _ _ _ _), w2', w3⟩
      · obtain ⟨v, v1, v2, v3, v4, v5, v6⟩ := k6 q (by omega) hq2
        refine ⟨v, v1, v2, v3, v4, v5, ?_⟩
        rw [ft_tb, Bool.or_eq_false_iff] at v6
        exact v6.1
    · by_cases e : q1 = p
      · obtain ⟨v, v1, v2, v3, v4, v5, v6⟩ := k6 q2 (by omega) h3
        rw [ft_tb, Bool.or_eq_false_iff] at v6
        rw [e, a2', v3]
        intro z
        have := (nI_eq (by omega) (by omega)).mp z
        rw [this] at v6
        simp at v6
      · exact k7 q1 q2 (by omega) h2 h3
    · by_cases e : w = v
      · exact ⟨p, by omega, by omega, by rw [a2', e]⟩
      · obtain ⟨q, q1, q2, q3⟩ := k8 v v1 v2 (by rw [ft_tb, v3]; simp [e])
        exact ⟨q, by omega, q2, q3⟩
  | 0, _, 0, _, _, _, _, _, h, _, _, _, _, _, _, _, _ => absurd h (by omega)
  | 0, _, n + 1, 0, _, _, _, _, _, h, _, _, _, _, _, _, _ => absurd h (by omega)
  | d + 1, _, 0, _, _, _, _, _, h, _, _, _, _, _, _, _, _ => absurd h (by omega)
  | d + 1, _, n + 1, 0, _, _, _, _, _, h, _, _, _, _, _, _, _ => absurd h (by omega)
theorem st_lots (hfu : 70000 ≤ fu) (h : Rel nw x m) : ∀ a, S2 Rel nw (f_X10_lots fu nw x a) (f_X11_lots fu m a) := by
  intro a
  have hR := rel_th h
  obtain ⟨y, st, tl, ns, hh, l, np, r, hA, hT, hS, hW, hH, hB, hO, hP, h0, h1, h2, h3, h4⟩ := h
  obtain ⟨a1, ⟨s1, s2, s3⟩, a3, a4, ⟨e1, e2, e3⟩, a6, a7, a8, a9⟩ := hA
  unfold f_X10_lots f_X11_lots
  rw [s1, s2]
  by_cases c0 : nI st = 2
  · rw [if_pos c0, if_pos c0]
    have hst : st = 2 := (nI_eq (by omega) (by decide)).mp (show nI st = nI 2 from c0)
    subst hst
    obtain ⟨r1, r2, r3, r4, r5, r6⟩ := h1 (by omega)
    have hh2 := h2 (by omega)
    unfold f_X0_begin_40 f_X3_drawHorses_12 f_X3_layOut_12
    rw [ob_s]
    have h01 : ∀ j, j < nw → m 23 j = 0 ∨ m 23 j = 1 := fun j hj => (hW.1 j hj).2.1
    have hruns : ∀ t w, (runs nw m)[t]? = some w → t < r ∧ x 21 t = nI w := fun t w ht => by
      obtain ⟨q1, q2⟩ := List.getElem?_eq_some_iff.mp ht
      refine ⟨by omega, ?_⟩
      rw [r6 t (by omega), List.getD_eq_getElem?_getD, ht]
      rfl
    obtain ⟨x1, k1, k2, _, k4⟩ := ly12 (fu := fu) (nw := nw) (r := r) (k := fun (x_4 : Me) => some (x_4, ())) r4 r 0 fu (mu x 49 0 a) r1 (by omega) (by omega)
    rw [show f_X3_layOut_12_2 fu nw (fun (x_4 : Me) => some (x_4, ())) fu (mu x 49 0 a) 0 = some (x1, ()) from k1, ob_s]
    have hft : (List.range r).filter (ft (fun _ => true) 0) = List.range r := List.filter_eq_self.mpr (fun b _ => by simp [ft])
    have hgr : ∀ j w, (List.range r)[j]? = some w → j = w ∧ w < r := fun j w hj => by
      obtain ⟨q1, q2⟩ := List.getElem?_eq_some_iff.mp hj
      rw [List.getElem_range] at q2
      rw [List.length_range] at q1
      omega
    have hx1 : ∀ f, f ≠ 24 → x1 f = mu x 49 0 a f := fun f hf => k2 f (by
      show cond (Nat.beq 24 f) true false = false
      cases q : Nat.beq 24 f with
      | true => exact absurd (Nat.eq_of_beq_eq_true q).symm hf
      | false => rfl)
    obtain ⟨x2, m2, p1, p2, p3, p4, p5, p6, p7⟩ := lh_sp (fu := fu) (nw := nw) hfu (r := r) (h := hh) (k := fun (x_7 : Me) => some (x_7, ())) (k' := fun (x_12 : Me) => f_X11_lots_138 fu (fun (x_24 : Me) => some ((mu x_24 4 0 3), 1)) fu x_12 0 0) e3 r4 nw 0 0 fu fu 0 x1 (mu (mu m 0 0 0) 29 0 a) (by omega) (by omega) (by omega) (by decide)
      (by rw [hx1 13 (by decide)]; exact e1) e2 (by rw [hx1 20 (by decide)]; exact r1) (by rw [hx1 49 (by decide), mu_same, mu_same]) h01 (by rw [← List.range_eq_range', Nat.zero_add]; exact r5)
      (fun t w ht => by rw [hx1 21 (by decide), Nat.zero_add]; rw [← List.range_eq_range'] at ht; exact (hruns t w ht).2)
      (fun q hq => by rw [hx1 18 (by decide)]; exact hh2 q hq) (by rw [hft, List.length_range]; rfl)
      (by
        rw [hft]
        intro j w hj
        obtain ⟨q1, q2⟩ := hgr j w hj
        rw [q1, k4 w (by omega) q2, hx1 18 (by decide)])
    rw [Nat.sub_zero] at p2
    rw [show f_X3_drawHorses_12_8 fu nw (fun (x_7 : Me) => some (x_7, ())) fu x1 0 = some (x2, ()) from p1, ob_s]
    have p2' : f_X11_lots_30 fu (fun (x_12 : Me) => f_X11_lots_138 fu (fun (x_24 : Me) => some ((mu x_24 4 0 3), 1)) fu x_12 0 0) fu (mu (mu m 0 0 0) 29 0 a) 0 (m 30 0) 0 = f_X11_lots_138 fu (fun (x_24 : Me) => some ((mu x_24 4 0 3), 1)) fu m2 0 0 := by rw [r2]; exact p2
    rw [p2']
    unfold f_X3_drawPlaces f_X3_layOut_15
    have hx2 : ∀ f, inL [24, 49, 51] f = false → x2 f = x f := fun f hf => by
      rw [p3 f hf, hx1 f (inL_ne hf rfl), mu_fr _ _ _ hf rfl]
    have hm2 : ∀ f, inL [0, 22, 29] f = false → m2 f = m f := fun f hf => by
      rw [p4 f (inL_mono rfl hf), mu_fr _ _ _ hf rfl, mu_fr _ _ _ hf rfl]
    obtain ⟨x3, b1, b2, _, b4⟩ := ly15 (fu := fu) (nw := nw) (r := r) (k := fun (x_4 : Me) => some (x_4, ())) r4 r 0 fu x2 (by rw [hx2 20 rfl]; exact r1) (by omega) (by omega)
    rw [show f_X3_layOut_15_2 fu nw (fun (x_4 : Me) => some (x_4, ())) fu x2 0 = some (x3, ()) from b1, ob_s]
    have hft2 : (List.range nw).filter (ft (fun j => decide (m2 23 j = 1)) 0) = runs nw m := List.filter_congr (fun b _ => by rw [hm2 23 rfl]; simp [ft])
    obtain ⟨x4, m4, q1, q2, q3, q4, _, q6, q7, q8⟩ := lp_sp (fu := fu) (nw := nw) hfu (r := r) (k := fun (x_6 : Me) => ob (f_X3_forgetSeen fu nw x_6) (fun x_7 _ => some (x_7, ()))) (k' := fun (x_24 : Me) => some ((mu x_24 4 0 3), 1)) e3 r4 r 0 fu fu 0 x3 m2 (by omega) (by omega) (by omega) (by decide) (by rw [b2 20 rfl, hx2 20 rfl]; exact r1) (by rw [hm2 30 rfl]; exact r2) (by rw [b2 49 rfl]; exact p5) (fun j hj => by rw [hm2 23 rfl]; exact h01 j hj) (by rw [hft2]; exact r5)
      (by
        rw [hft2]
        intro j w hj
        obtain ⟨z1, z2⟩ := hruns j w hj
        rw [b4 j (by omega) z1, hx2 21 rfl]; exact z2)
    rw [show f_X3_drawPlaces_10 fu nw (fun (x_6 : Me) => ob (f_X3_forgetSeen fu nw x_6) (fun x_7 _ => some (x_7, ()))) fu x3 0 = ob (f_X3_forgetSeen fu nw x4) (fun x_7 _ => some (x_7, ())) from q1, show f_X11_lots_138 fu (fun (x_24 : Me) => some ((mu x_24 4 0 3), 1)) fu m2 0 0 = some ((mu m4 4 0 3), 1) from q2]
    obtain ⟨x5, f1, f2, f3⟩ := fs_sp (fu := fu) (nw := nw) hfu x4
    rw [f1, ob_s, ob_s]
    have hx5 : ∀ f, inL [22, 23, 24, 49, 51] f = false → x5 f = x f := fun f hf => by
      rw [f2 f (inL_mono rfl hf), q3 f (inL_mono rfl hf), b2 f (inL_mono rfl hf), hx2 f (inL_mono rfl hf)]
    have hm4 : ∀ f, inL [0, 22, 29, 32, 33] f = false → m4 f = m f := fun f hf => by
      rw [q4 f (inL_mono rfl hf), hm2 f (inL_mono rfl hf)]
    have hxp : ∀ q, q < r → ∃ w, w < nw ∧ x5 22 q = nI w ∧ m4 32 q = nI w ∧ m4 33 q = nI w ∧ m 23 w = 1 := fun q hq => by
      obtain ⟨w, w1, w2, w3, w4, w5, _⟩ := q6 q (by omega) hq
      rw [hm2 23 rfl] at w5
      exact ⟨w, w1, by rw [f2 22 rfl]; exact w2, w3, w4, w5⟩
    have hx51 : ∀ w, x5 51 w = x2 51 w := fun w => by rw [f2 51 rfl, q3 51 rfl, b2 51 rfl]
    have hm22 : ∀ w, m4 22 w = m2 22 w := fun w => by rw [q4 22 rfl]
    have hx151 : ∀ w, x1 51 w = x 51 w := fun w => by rw [hx1 51 (by decide)]; rfl
    have hq8 : ∀ w, w < nw → m 23 w = 1 → ∃ q, q < r ∧ m4 32 q = nI w := fun w v1 v2 => by
      obtain ⟨q, _, z2, z3⟩ := q8 w v1 (by rw [hm2 23 rfl]; exact v2) (Nat.zero_testBit w)
      exact ⟨q, z2, z3⟩
    have hA2 : ∀ j, j < nw → (m 23 j = 1 → ∃ i, i < hh ∧ x5 51 j = nI i ∧ m4 22 j = nI i) ∧ (m 23 j = 0 → x5 51 j = -1) := fun j hj => by
      refine ⟨fun q => ?_, fun q => ?_⟩
      · rw [hx51, hm22]; exact p6 j (by omega) hj q
      · rw [hx51, (p7 j (Or.inr q)).1, hx151]; exact h0.2.1 (by decide) j hj
    have hsn : ∀ p, p < r → x5 23 p = -1 ∧ m4 33 p = m4 32 p := fun p hp => by
      obtain ⟨w, _, _, w3, w4, _⟩ := hxp p hp
      exact ⟨f3 p (by omega), by rw [w3, w4]⟩
    have hdi : ∀ p q, p < r → q < r → m4 32 p = m4 32 q → p = q := fun p q hp hq he => by
      rcases Nat.lt_trichotomy p q with z | z | z
      · exact absurd he (q7 p q (by omega) z hq)
      · exact z
      · exact absurd he.symm (q7 q p (by omega) z hp)
    clear q1 q2 q3 q4 q6 q7 q8 f1 f2 f3 hx51 hm22 hx151 p1 p2 p2' p3 p4 p5 p6 p7 k1 k2 k4 b1 b2 b4 hft2 hx2 hm2 hx1
    obtain ⟨gx, rfl⟩ := msL_of hx5
    obtain ⟨gm, rfl⟩ := msL_of hm4
    refine ⟨_, _, _, rfl, rfl, ⟨y, 3, tl, ns, hh, l, np, r, ⟨a1, ⟨rfl, rfl, by decide⟩, a3, a4, ⟨e1, e2, e3⟩, a6, a7, a8, a9⟩, hT, hS, hW, hH, hB, hO, hP, ⟨fun q => absurd q (by decide), fun q => absurd q (by decide), fun _ => h0.2.2 (by decide)⟩, fun _ => ⟨r1, r2, r3, r4, r5, r6⟩, fun _ => hh2, fun _ => ⟨fun p hp => ?_, ⟨hdi, hq8⟩, hA2, fun _ p hp => Or.inl (hsn p hp)⟩, fun q => absurd q (by decide)⟩⟩
    obtain ⟨w, w1, w2, w3, _, w5⟩ := hxp p hp
    exact ⟨w, w1, w2, w3, w5⟩
  · rw [if_neg c0, if_neg c0]
    exact ⟨x, _, _, rfl, rfl, hR⟩
end PUR12
