section PUR11
variable {fu nw y : Nat} {x m : Me}
theorem dwd_sp {k : Me → Int32 → Option (Me × Int32)} (hn : nw ≤ 17) (hy : m 3 0 = nI y) : ∀ (d i n c w : Nat), i + d = nw → d ≤ n → c < 100 → ((List.range' i d).filter (fr m y))[c]? = some w → f_X11_drawnWard_8 fu k n m (nI c) (nI i) = k m (nI w)
  | 0, _, _, _, _, _, _, _, hw => by simp at hw
  | d + 1, i, n + 1, c, w, h, g, hcc, hw => by
    have ih := fun c hcc hw => dwd_sp (k := k) hn hy d (i + 1) n c w (by omega) (by omega) hcc hw
    rw [List.range'_succ] at hw
    rw [f_X11_drawnWard_8_s, ib_sp hy (by omega), ob_s]
    simp only [jn]
    rw [ib_sp hy (by omega), ob_s, if_pos (inb_nI (by omega) (by decide)), if_pos (inb_nI (by omega) (by decide)), nI_clamp (by omega), nI_1, Int32.sub_zero]
    by_cases q1 : m 19 i < nI y
    · simp only [if_pos q1, if_true]
      by_cases q2 : m 23 i = 0
      · have q : fr m y i = true := by simp [fr, q1, q2]
        rw [List.filter_cons_of_pos q] at hw
        simp only [if_pos q2]
        cases c with
        | zero =>
          rw [List.getElem?_cons_zero] at hw
          cases hw
          rw [if_pos (show nI 0 ≤ 0 by decide)]
        | succ c =>
          rw [List.getElem?_cons_succ] at hw
          rw [if_neg (nI_nle (by omega) (by omega)), nI_pred]
          exact ih c (by omega) hw
      · have q : ¬ fr m y i = true := by simp [fr, q2]
        rw [List.filter_cons_of_neg q] at hw
        simp only [if_neg q2]
        exact ih c hcc hw
    · have q : ¬ fr m y i = true := by simp [fr, q1]
      rw [List.filter_cons_of_neg q] at hw
      simp only [if_neg q1, if_neg n10]
      exact ih c hcc hw
  | d + 1, _, 0, _, _, _, h, _, _ => absurd h (by omega)
theorem ch_sp (hfu : 70000 ≤ fu) {run can : Nat} {k : Me → Option (Me × Unit)} {k' : Me → Option (Me × Int32)} (hn : nw ≤ 17) (hcan : can ≤ 17) (hrc : run ≤ can) : ∀ (d i n1 n2 : Nat) (x m : Me), i + d = run → d < n1 → d < n2 → CW nw x m → x 13 0 = nI nw → m 17 0 = nI nw → m 3 0 = nI y → m 30 0 = nI run → x 49 0 = m 29 0 → ((List.range nw).filter (fr m y)).length + i = can → (runs nw m).length = i → (∀ j, j < nw → m 23 j = 0 ∨ m 23 j = 1) →
    ∃ x' m', f_X8_chooseRunners_10 fu nw (nI run) (nI can) (nI y) (nI run - nI run / 3) k n1 x (nI i) = k x' ∧ f_X11_choose_89 fu (nI can) k' n2 m (nI i) = k' m' ∧ (∀ f, f ≠ 49 → f ≠ 50 → x' f = x f) ∧ (∀ f, f ≠ 29 → f ≠ 23 → m' f = m f) ∧ CW nw x' m' ∧ (∀ j, j < nw → m' 23 j = 0 ∨ m' 23 j = 1) ∧ (∀ j, nw ≤ j → m' 23 j = m 23 j) ∧ (runs nw m').length = run
  | 0, i, n1 + 1, n2 + 1, x, m, h, _, _, hc, e1, e2, hy, e3, e4, c1, c2, h01 => by
    refine ⟨x, m, ?_, ?_, fun _ _ _ => rfl, fun _ _ _ => rfl, hc, h01, fun _ _ => rfl, by omega⟩
    · rw [f_X8_chooseRunners_10_s, if_pos (nI_le (by omega) (by omega))]
    · rw [f_X11_choose_89_s, e3, if_pos (nI_le (by omega) (by omega))]
  | d + 1, i, n1 + 1, n2 + 1, x, m, h, g1, g2, hc, e1, e2, hy, e3, e4, c1, c2, h01 => by
    have stp : ∀ (x1 m1 : Me) (w : Nat), (∀ f, f ≠ 49 → x1 f = x f) → (∀ f, f ≠ 29 → m1 f = m f) → x1 49 0 = m1 29 0 → w < nw → fr m y w = true → ∃ x' m', f_X8_chooseRunners_10 fu nw (nI run) (nI can) (nI y) (nI run - nI run / 3) k n1 (mu x1 50 w 1) (nI (i + 1)) = k x' ∧ f_X11_choose_89 fu (nI can) k' n2 (mu m1 23 w 1) (nI (i + 1)) = k' m' ∧ (∀ f, f ≠ 49 → f ≠ 50 → x' f = x f) ∧ (∀ f, f ≠ 29 → f ≠ 23 → m' f = m f) ∧ CW nw x' m' ∧ (∀ j, j < nw → m' 23 j = 0 ∨ m' 23 j = 1) ∧ (∀ j, nw ≤ j → m' 23 j = m 23 j) ∧ (runs nw m').length = run := by
      intro x1 m1 w hx hm hs hw hf
      have hf' : m 19 w < nI y ∧ m 23 w = 0 := by simpa [fr] using hf
      have hm23 : ∀ j, mu m1 23 w 1 23 j = if j = w then 1 else m 23 j := by
        intro j
        by_cases e : j = w
        · rw [if_pos e, e, mu_same]
        · rw [if_neg e, mu_ne _ _ _ _ _ e, hm 23 (by decide)]
      have hx50 : ∀ j, mu x1 50 w 1 50 j = if j = w then 1 else x 50 j := by
        intro j
        by_cases e : j = w
        · rw [if_pos e, e, mu_same]
        · rw [if_neg e, mu_ne _ _ _ _ _ e, hx 50 (by decide)]
      have hmf : ∀ f, f ≠ 29 → f ≠ 23 → mu m1 23 w 1 f = m f := fun f h1 h2 => by rw [mu_of _ _ _ _ _ h2, hm f h1]
      have hxf : ∀ f, f ≠ 49 → f ≠ 50 → mu x1 50 w 1 f = x f := fun f h1 h2 => by rw [mu_of _ _ _ _ _ h2, hx f h1]
      have hfr : ∀ j, fr (mu m1 23 w 1) y j = if j = w then false else fr m y j := by
        intro j
        unfold fr
        rw [hmf 19 (by decide) (by decide), hm23]
        by_cases e : j = w
        · rw [if_pos e, if_pos e]; simp
        · rw [if_neg e, if_neg e]
      obtain ⟨x', m', k1, k2, k3, k4, k5, k6, k7, k8⟩ := ch_sp hfu (k := k) (k' := k') hn hcan hrc d (i + 1) n1 n2 (mu x1 50 w 1) (mu m1 23 w 1) (by omega) (by omega) (by omega)
        (fun j hj => by
          obtain ⟨a1, a2, a3⟩ := hc j hj
          rw [hm23, hx50, hxf 52 (by decide) (by decide), hxf 53 (by decide) (by decide), hmf 18 (by decide) (by decide), hmf 19 (by decide) (by decide)]
          exact ⟨by rw [a1], a2, a3⟩)
        (by rw [hxf 13 (by decide) (by decide)]; exact e1) (by rw [hmf 17 (by decide) (by decide)]; exact e2) (by rw [hmf 3 (by decide) (by decide)]; exact hy) (by rw [hmf 30 (by decide) (by decide)]; exact e3)
        (by rw [mu_of _ _ _ _ _ (show 49 ≠ 50 by decide), mu_of _ _ _ _ _ (show 29 ≠ 23 by decide)]; exact hs)
        (by
          have := cnt_up (p := fr (mu m1 23 w 1) y) (q := fr m y) nw hw (by rw [hfr, if_pos rfl]) hf (fun j _ hne => by rw [hfr, if_neg hne])
          omega)
        (by
          have := cnt_up (p := fun j => decide (m 23 j = 1)) (q := fun j => decide (mu m1 23 w 1 23 j = 1)) nw hw (by rw [hf'.2]; decide) (by rw [hm23, if_pos rfl]; decide) (fun j _ hne => by rw [hm23, if_neg hne])
          unfold runs at c2 ⊢
          omega)
        (fun j hj => by
          rw [hm23]
          by_cases e : j = w
          · rw [if_pos e]; exact Or.inr rfl
          · rw [if_neg e]; exact h01 j hj)
      refine ⟨x', m', k1, k2, fun f a b => (k3 f a b).trans (hxf f a b), fun f a b => (k4 f a b).trans (hmf f a b), k5, k6, fun j hj => ?_, k8⟩
      rw [k7 j hj, hm23, if_neg (by omega)]
    rw [f_X8_chooseRunners_10_s, f_X11_choose_89_s, e3, if_neg (nI_ge (by omega) (by omega)), if_neg (nI_ge (by omega) (by omega)), nI_1]
    simp only [jn]
    have hpos : 0 < ((List.range nw).filter (fr m y)).length := by omega
    by_cases cb : nI run - nI run / 3 ≤ nI i
    · rw [if_pos cb, if_pos cb, pk_sub (by omega), bel0_sp (by omega) (by omega), ob_s]
      have hlt : dv (m 29 0) (can - i) < ((List.range nw).filter (fr m y)).length := Nat.lt_of_lt_of_le (dv_lt _ (by omega)) (by omega)
      obtain ⟨w, hw⟩ : ∃ w, ((List.range nw).filter (fr m y))[dv (m 29 0) (can - i)]? = some w := ⟨_, List.getElem?_eq_getElem hlt⟩
      have hmem := List.mem_of_getElem? hw
      rw [List.mem_filter, List.mem_range] at hmem
      have hw' := hw
      rw [List.range_eq_range'] at hw'
      have hA : f_X8_freeAt fu nw (mu x 49 0 (nx (x 49 0))) (nI (dv (x 49 0) (can - i))) (nI y) = some (mu x 49 0 (nx (x 49 0)), nI w) := by
        unfold f_X8_freeAt
        have := frA_sp (fu := fu) (nw := nw) (y := y) (x := mu x 49 0 (nx (x 49 0))) (m := m) (k := fun (x_7 : Me) => some (x_7, (-1))) hc hn e1 nw 0 fu 0 (dv (m 29 0) (can - i)) w (by omega) (by omega) (by omega) hw'
        rw [Nat.zero_add] at this
        rw [e4] at this ⊢
        exact this
      have hD : f_X11_drawnWard fu m (nI (can - i)) = some (mu m 29 0 (nx (m 29 0)), nI w) := by
        unfold f_X11_drawnWard
        rw [drw_sp (by omega) (by omega), ob_s]
        exact dwd_sp (fu := fu) (nw := nw) (y := y) (m := mu m 29 0 (nx (m 29 0))) hn hy nw 0 fu (dv (m 29 0) (can - i)) w (by omega) (by omega) (by omega) hw'
      rw [hA, hD, ob_s, ob_s, find_yes (show mu x 49 0 (nx (x 49 0)) 13 0 = nI nw from e1) hmem.1 hn, ob_s, om_1, if_pos hmem.1, if_pos (inb_nI (by omega) (by decide)), nI_clamp (by omega), vz1]
      exact stp _ _ w (fun f hf => mu_of _ _ _ _ _ hf) (fun f hf => mu_of _ _ _ _ _ hf) (by rw [mu_same, mu_same, e4]) hmem.1 hmem.2
    · rw [if_neg cb, if_neg cb]
      obtain ⟨acc', b1, b2, b3⟩ := lg_sp (fu := fu) (nw := nw) (y := y) (x := x) (m := m) (k := fun (x_11 : Me) (a2_11 : Int32) => some (x_11, a2_11)) (k' := fun (x_11 : Me) (a2_11 : Int32) => some (x_11, a2_11)) hc hn e1 e2 hy nw 0 fu fu (-1) (by omega) (by omega) (by omega) (Or.inl rfl)
      have hw : ∃ w, w < nw ∧ acc' = nI w ∧ fr m y w = true := by
        rcases b1 with ⟨_, _, z⟩ | z
        · have : (List.range nw).filter (fr m y) = [] := List.filter_eq_nil_iff.mpr (fun j hj => by rw [z j (by omega) (List.mem_range.mp hj)]; decide)
          rw [this] at hpos
          exact absurd hpos (by decide)
        · exact z
      obtain ⟨w, hw, rfl, hf⟩ := hw
      rw [show f_X8_longestAgo fu nw x (nI y) = some (x, nI w) from b2, show f_X11_longest fu m = some (m, nI w) from b3, ob_s, ob_s, find_yes e1 hw hn, ob_s, om_1, if_pos hw, if_pos (inb_nI (by omega) (by decide)), nI_clamp (by omega), vz1]
      exact stp _ _ w (fun f hf => rfl) (fun f hf => rfl) e4 hw hf
  | 0, _, 0, _, _, _, _, h, _, _, _, _, _, _, _, _, _, _ => absurd h (by omega)
  | 0, _, n + 1, 0, _, _, _, _, h, _, _, _, _, _, _, _, _, _ => absurd h (by omega)
  | d + 1, _, 0, _, _, _, _, h, _, _, _, _, _, _, _, _, _, _ => absurd h (by omega)
  | d + 1, _, n + 1, 0, _, _, _, _, h, _, _, _, _, _, _, _, _, _ => absurd h (by omega)
theorem lr_sp {k : Me → Option (Me × Unit)} (hn : nw ≤ 17) : ∀ (d i n c : Nat) (x : Me), i + d = nw → d < n → x 13 0 = nI nw → x 20 0 = nI c → (∀ j, j < nw → x 50 j = m 23 j ∧ (m 23 j = 0 ∨ m 23 j = 1)) → c + ((List.range' i d).filter (fun j => decide (m 23 j = 1))).length ≤ 10 →
    ∃ x', f_X3_listRunners_7 fu nw k n x (nI i) = k x' ∧ (∀ f, f ≠ 20 → f ≠ 21 → x' f = x f) ∧ x' 20 0 = nI (c + ((List.range' i d).filter (fun j => decide (m 23 j = 1))).length) ∧ (∀ t, t < c → x' 21 t = x 21 t) ∧ ∀ t, t < ((List.range' i d).filter (fun j => decide (m 23 j = 1))).length → x' 21 (c + t) = nI (((List.range' i d).filter (fun j => decide (m 23 j = 1))).getD t 0)
  | 0, i, n + 1, c, x, h, _, e1, e2, _, _ => by
    refine ⟨x, ?_, fun _ _ _ => rfl, e2, fun _ _ => rfl, fun t ht => absurd ht (by simp)⟩
    rw [f_X3_listRunners_7_s, e1, if_pos (nI_le (by omega) (by omega))]
  | d + 1, i, n + 1, c, x, h, g, e1, e2, hc, hl => by
    by_cases c10 : c = 10
    · have hz : ((List.range' i (d + 1)).filter (fun j => decide (m 23 j = 1))).length = 0 := by omega
      refine ⟨x, ?_, fun _ _ _ => rfl, by rw [hz, e2]; rfl, fun _ _ => rfl, fun t ht => absurd ht (by omega)⟩
      rw [f_X3_listRunners_7_s, e1, e2, if_neg (nI_ge (by omega) (by omega)), if_pos (show (10 : Int32) ≤ nI c by rw [c10]; decide)]
    · rw [List.range'_succ] at hl ⊢
      have hi : i < nw := by omega
      rw [f_X3_listRunners_7_s, e1, e2, if_neg (nI_ge (by omega) (by omega)), if_neg (show ¬ (10 : Int32) ≤ nI c from nI_ge (b := 10) (by omega) (by decide)), xr_yes e1 hi hn, ob_s, nI_1, e2, if_pos (inb_nI (by omega) (by decide)), nI_clamp (by omega), nI_1]
      obtain ⟨h1, h2⟩ := hc i hi
      rw [h1]
      rcases h2 with q | q
      · rw [List.filter_cons_of_neg (by rw [q]; decide)] at hl ⊢
        rw [if_pos q, if_pos rfl]
        exact lr_sp hn d (i + 1) n c x (by omega) (by omega) e1 e2 hc hl
      · rw [List.filter_cons_of_pos (by rw [q]; decide)] at hl ⊢
        rw [List.length_cons] at hl
        rw [if_neg (show ¬ m 23 i = 0 by rw [q]; decide), if_neg n10]
        obtain ⟨x', k1, k2, k3, k4, k5⟩ := lr_sp (k := k) hn d (i + 1) n (c + 1) (mu (mu x 21 c (nI i)) 20 0 (nI (c + 1))) (by omega) (by omega) e1 (mu_same _ _ _ _) hc (by omega)
        refine ⟨x', k1, fun f a b => (k2 f a b).trans ?_, ?_, fun t ht => ?_, fun t ht => ?_⟩
        · rw [mu_of _ _ _ _ _ a, mu_of _ _ _ _ _ b]
        · rw [k3, List.length_cons]; exact congrArg nI (by omega)
        · rw [k4 t (by omega), mu_of _ _ _ _ _ (show 21 ≠ 20 by decide), mu_ne _ _ _ _ _ (by omega)]
        · cases t with
          | zero => rw [Nat.add_zero, k4 c (by omega), mu_of _ _ _ _ _ (show 21 ≠ 20 by decide), mu_same]; rfl
          | succ t =>
            rw [List.length_cons] at ht
            rw [show c + (t + 1) = c + 1 + t by omega, k5 t (by omega)]; rfl
  | 0, _, 0, _, _, _, h, _, _, _, _ => absurd h (by omega)
  | d + 1, _, 0, _, _, _, h, _, _, _, _ => absurd h (by omega)
theorem st_choose (hfu : 70000 ≤ fu) (h : Rel nw x m) : ∀ a, S2 Rel nw (f_X10_choose fu nw x a) (f_X11_choose fu m a) := by
  intro a
  have hR := rel_th h
  obtain ⟨y, st, tl, ns, hh, l, np, r, hA, hT, hS, hW, hH, hB, hO, hP, h0, h1, h2, h3, h4⟩ := h
  obtain ⟨a1, a2, a3, a4, a5, a6, a7, a8, a9⟩ := hA
  obtain ⟨y1, y2, y3⟩ := a1
  obtain ⟨s1, s2, s3⟩ := a2
  obtain ⟨d1, d2, d3⟩ := a4
  obtain ⟨e1, e2, e3⟩ := a5
  unfold f_X10_choose f_X11_choose
  rw [s1, s2]
  by_cases c0 : nI st = 0
  · rw [if_pos c0, if_pos c0]
    have hst : st = 0 := (nI_eq (by omega) (by decide)).mp (show nI st = nI 0 from c0)
    subst hst
    have hc : CW nw x (mu m 0 0 0) := fun j hj => by
      obtain ⟨b1, _, b3, b4, _⟩ := hW.1 j hj
      exact ⟨b1, b3, b4⟩
    have hcan : ((List.range nw).filter (fr (mu m 0 0 0) y)).length ≤ 17 := Nat.le_trans (List.length_filter_le _ _) (by rw [List.length_range]; exact e3)
    generalize hcd : ((List.range nw).filter (fr (mu m 0 0 0) y)).length = can at hcan
    have hX : f_X8_countFree fu nw x (nI y) = some (x, nI can) := by
      have := cf_sp (fu := fu) (y := y) (k := fun (x_6 : Me) (a2_6 : Int32) => some (x_6, a2_6)) hc e3 e1 nw 0 fu 0 (by omega) (by omega)
      rw [← List.range_eq_range', hcd, Nat.zero_add] at this
      exact this
    have hM : ∀ K : Me → Int32 → Option (Me × Int32), f_X11_choose_18 fu a K fu (mu m 0 0 0) 0 0 = K (mu m 0 0 0) (nI can) := by
      intro K
      have := c18_sp (fu := fu) (y := y) (b1 := a) (m := mu m 0 0 0) (k := K) e3 e2 y2 (fun j hj => h0.1 rfl j hj) nw 0 fu 0 (by omega) (by omega)
      rw [← List.range_eq_range', hcd, Nat.zero_add] at this
      exact this
    obtain ⟨v, ⟨vn, rfl, v1, v2⟩, g1, g2⟩ := law_sp (fu := fu) (nw := nw) (x := x) (m := mu m 0 0 0) (w := 0) (b := nI y) hfu (by decide) d1 d2 d3 hS
    have v1' : 2 ≤ vn := v1
    have v2' : vn ≤ 10 := v2
    rw [y1, hX, ob_s, y1, show f_X6_inForce fu nw x 0 (nI y) = some (x, nI vn) from g1, ob_s, hM, show (mu m 0 0 0) 3 0 = nI y from y2, show f_X11_lawOf fu (mu m 0 0 0) 0 (nI y) = some (mu m 0 0 0, nI vn) from g2, ob_s]
    obtain ⟨run, hr1, hr2, hr3, hr4⟩ : ∃ run, run ≤ can ∧ run ≤ 10 ∧ (if nI can < nI vn then nI can else nI vn) = nI run ∧ (if nI vn < nI can then nI vn else nI can) = nI run := by
      rcases Nat.lt_trichotomy can vn with q | q | q
      · exact ⟨can, by omega, by omega, by rw [if_pos (nI_lt q (by omega))], by rw [if_neg (nI_nlt (by omega) (by omega))]⟩
      · subst q
        exact ⟨can, by omega, by omega, by rw [if_neg (nI_nlt (by omega) (by omega))], by rw [if_neg (nI_nlt (by omega) (by omega))]⟩
      · exact ⟨vn, by omega, by omega, by rw [if_neg (nI_nlt (by omega) (by omega))], by rw [if_pos (nI_lt q (by omega))]⟩
    rw [hr3, hr4]
    by_cases c2 : 2 ≤ run
    · rw [if_pos (show (2 : Int32) ≤ nI run from nI_le (a := 2) c2 (by omega)), if_pos (show (2 : Int32) ≤ nI run from nI_le (a := 2) c2 (by omega))]
      unfold f_X0_begin_40 f_X8_chooseRunners
      rw [ob_s]
      have hr0 : runs nw m = [] := List.filter_eq_nil_iff.mpr (fun j hj => by rw [h0.1 rfl j (List.mem_range.mp hj)]; decide)
      obtain ⟨x1, m1, k1, k2, k3, k4, k5, k6, k7, k8⟩ := ch_sp (fu := fu) (nw := nw) (y := y) hfu (k := fun (x_8 : Me) => some (x_8, ())) (k' := fun (x_14 : Me) => some ((mu x_14 4 0 1), x_14 30 0)) e3 hcan hr1 run 0 fu fu (mu x 49 0 a) (mu (mu (mu m 0 0 0) 30 0 (nI run)) 29 0 a) (by omega) (by omega) (by omega) hc e1 e2 y2 (by rw [mu_of _ _ _ _ _ (show 30 ≠ 29 by decide), mu_same]) (by rw [mu_same, mu_same]) hcd (by show (runs nw m).length = 0; rw [hr0]; rfl) (fun j hj => (hW.1 j hj).2.1)
      have k1' : f_X8_chooseRunners_10 fu nw (nI run) (nI can) (mu x 49 0 a 1 0) (nI run - nI run / 3) (fun (x_8 : Me) => some (x_8, ())) fu (mu x 49 0 a) 0 = some (x1, ()) := by
        rw [show mu x 49 0 a 1 0 = nI y from y1]; exact k1
      have k2' : f_X11_choose_89 fu (nI can) (fun (x_14 : Me) => some ((mu x_14 4 0 1), x_14 30 0)) fu (mu (mu (mu m 0 0 0) 30 0 (nI run)) 29 0 a) 0 = some (mu m1 4 0 1, m1 30 0) := k2
      rw [k1', k2', ob_s]
      have k4a := k4 30 (by decide) (by decide)
      have k3a := k3 13 (by decide) (by decide)
      have hx1 := ms2 49 50 k3
      have hm1 := ms2 29 23 k4
      generalize hgx : x1 49 = gx1 at hx1
      generalize hgx5 : x1 50 = gx2 at hx1
      generalize hgm : m1 29 = gm1 at hm1
      generalize hgm5 : m1 23 = gm2 at hm1
      unfold f_X3_listRunners
      obtain ⟨x2, q1, q2, q3, q4, q5⟩ := lr_sp (fu := fu) (nw := nw) (m := m1) (k := fun (x_6 : Me) => some (x_6, ())) e3 nw 0 fu 0 (mu x1 20 0 0) (by omega) (by omega) (by rw [mu_of _ _ _ _ _ (show 13 ≠ 20 by decide), k3a]; exact e1) (mu_same _ _ _ _) (fun j hj => ⟨by rw [mu_of _ _ _ _ _ (show 50 ≠ 20 by decide)]; exact (k5 j hj).1, k6 j hj⟩) (by rw [← List.range_eq_range']; show 0 + (runs nw m1).length ≤ 10; omega)
      rw [show f_X3_listRunners_7 fu nw (fun (x_6 : Me) => some (x_6, ())) fu (mu x1 20 0 0) 0 = some (x2, ()) from q1, ob_s]
      have hx2 := ms2 20 21 q2
      rw [← List.range_eq_range', Nat.zero_add] at q3
      rw [← List.range_eq_range'] at q5
      generalize hg2 : x2 20 = gx3 at hx2 q3
      generalize hg3 : x2 21 = gx4 at hx2 q4 q5
      have hrun : (runs nw m1).length = run := k8
      have hmr : (mu m1 4 0 1) 30 0 = nI run := by
        rw [mu_of _ _ _ _ _ (show 30 ≠ 4 by decide), k4a, mu_of _ _ _ _ _ (show 30 ≠ 29 by decide), mu_same]
      refine ⟨mu x2 2 0 1, mu m1 4 0 1, nI run, rfl, ?_, ?_⟩
      · rw [← hmr]; rfl
      have hRr : x2 20 0 = nI run ∧ m1 30 0 = nI run ∧ 2 ≤ run ∧ run ≤ 10 ∧ (runs nw m1).length = run ∧ ∀ k, k < run → x2 21 k = nI ((runs nw m1).getD k 0) := by
        refine ⟨by rw [hg2, q3]; exact congrArg nI hrun, hmr, c2, hr2, hrun, fun k hk => ?_⟩
        have := q5 k (by have : (runs nw m1).length = run := hrun; unfold runs at this; omega)
        rw [Nat.zero_add] at this
        rw [hg3]; exact this
      have hWx : ∀ j, j < nw → x2 50 j = m1 23 j := fun j hj => by
        rw [q2 50 (by decide) (by decide), mu_of _ _ _ _ _ (show 50 ≠ 20 by decide)]; exact (k5 j hj).1
      have hW2 : ∀ j, nw ≤ j → j < 17 → m1 23 j = 0 := fun j h1 h2 => by
        rw [k7 j h1]; exact (hW.2 j h1 h2).2.2.2.2
      have k6' := k6
      clear k1 k2 k1' k2' k3 k4 k5 k6 k7 q1 q2 q3 q4 q5 hmr k3a k4a
      subst hx2 hx1 hm1
      refine ⟨y, 1, tl, ns, hh, l, np, run, ⟨⟨y1, y2, y3⟩, ⟨rfl, rfl, by decide⟩, a3, ⟨d1, d2, d3⟩, ⟨e1, e2, e3⟩, a6, a7, a8, a9⟩, hT, hS, ⟨fun j hj => ?_, fun j h1 h2 => ?_⟩, hH, hB, hO, hP, ⟨fun q => absurd q (by decide), fun _ j hj => h0.2.1 (by decide) j hj, fun _ => h0.2.2 (by decide)⟩, fun _ => hRr, fun q => absurd q (by decide), fun q => absurd q (by decide), fun q => absurd q (by decide)⟩
      · obtain ⟨b1, b2, b3, b4, b5, b6⟩ := hW.1 j hj
        exact ⟨hWx j hj, k6' j hj, b3, b4, b5, b6⟩
      · obtain ⟨b1, b2, b3, b4, b5⟩ := hW.2 j h1 h2
        exact ⟨b1, b2, b3, b4, hW2 j h1 h2⟩
    · rw [if_neg (show ¬ (2 : Int32) ≤ nI run from nI_ge (b := 2) (by omega) (by omega)), if_neg (show ¬ (2 : Int32) ≤ nI run from nI_ge (b := 2) (by omega) (by omega))]
      exact ⟨x, _, _, rfl, rfl, ⟨y, 0, tl, ns, hh, l, np, r, ⟨⟨y1, y2, y3⟩, ⟨s1, s2, s3⟩, a3, ⟨d1, d2, d3⟩, ⟨e1, e2, e3⟩, a6, a7, a8, a9⟩, hT, hS, hW, hH, hB, hO, hP, h0, fun q => absurd q (by decide), fun q => absurd q (by decide), fun q => absurd q (by decide), fun q => absurd q (by decide)⟩⟩
  · rw [if_neg c0, if_neg c0]
    exact ⟨x, _, _, rfl, rfl, hR⟩
end PUR11
