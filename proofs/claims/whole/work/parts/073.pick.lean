section PUR22
variable {fu nw : Nat} {x m : Me} {K : Nat → Nat} {S : Nat → Bool} {h r s : Nat}
theorem t12 {k : Me → Int32 → Int32 → Int32 → Option (Me × Unit)} (hs : s < 2 ^ 31) (hh : h ≤ 16) (e : m 26 0 = nI h) (hM : HM K S h m) : ∀ (d i n c lo M : Nat), i + d = h → d < n → lo ≤ 1000 → M ≤ 1000 →
    ((∀ w, w ∈ (List.range' i d).filter (fun q => s.testBit q) → S w = true) ∧ f_X11_tries_12 fu (nI s) k n m (nI c) (nI lo) (pm M) (nI i) = k m (nI (c + ((List.range' i d).filter (fun q => s.testBit q)).length)) (nI (mnF K ((List.range' i d).filter (fun q => s.testBit q)) lo)) (pm (mxF K ((List.range' i d).filter (fun q => s.testBit q)) M))) ∨ ((¬ ∀ w, w ∈ (List.range' i d).filter (fun q => s.testBit q) → S w = true) ∧ f_X11_tries_12 fu (nI s) k n m (nI c) (nI lo) (pm M) (nI i) = some (m, ()))
  | 0, i, n + 1, c, lo, M, hi, _, _, _ => by
    refine Or.inl ⟨fun w hw => by simp at hw, ?_⟩
    rw [f_X11_tries_12_s, e, if_pos (nI_le (by omega) (by omega))]
    rfl
  | d + 1, i, n + 1, c, lo, M, hi, hn, hlo, hMM => by
    obtain ⟨k1, k2, k3⟩ := hM i (by omega)
    rw [f_X11_tries_12_s, e, if_neg (nI_ge (by omega) (by omega)), nI_1, nI_1, List.range'_succ]
    cases q : s.testBit i with
    | false =>
      rw [if_pos (bit_0 hs (by omega) q), List.filter_cons_of_neg (by rw [q]; decide)]
      exact t12 hs hh e hM d (i + 1) n c lo M (by omega) (by omega) hlo hMM
    | true =>
      rw [if_neg (show ¬ (nI s >>> (nI i &&& 31)) &&& 1 = 0 by rw [bit_1 hs (by omega) q]; decide), if_pos (inb_nI (by omega) (by decide)), nI_clamp (by omega), List.filter_cons_of_pos (p := fun q => s.testBit q) q, k2, k3]
      cases z : S i with
      | false =>
        rw [if_pos (show b01 false = 0 from rfl)]
        exact Or.inr ⟨fun c => by have := c i List.mem_cons_self; rw [z] at this; exact absurd this (by decide), rfl⟩
      | true =>
        have e3 : (if nI (K i) < nI lo then nI (K i) else nI lo) = nI (if K i < lo then K i else lo) := by
          by_cases u : K i < lo
          · rw [if_pos (nI_lt u (by omega)), if_pos u]
          · rw [if_neg (nI_nlt (by omega) (by omega)), if_neg u]
        rw [if_neg (show ¬ b01 true = 0 by decide), e3, pm_s hMM k1]
        have ih := t12 (k := k) hs hh e hM d (i + 1) n (c + 1) (if K i < lo then K i else lo) (if M < K i + 1 then K i + 1 else M) (by omega) (by omega) (by split <;> omega) (by split <;> omega)
        rcases ih with ⟨u1, u2⟩ | ⟨u1, u2⟩
        · refine Or.inl ⟨fun w hw => ?_, ?_⟩
          · rcases List.mem_cons.mp hw with c' | c'
            · rw [c']; exact z
            · exact u1 w c'
          · rw [u2, List.length_cons, show c + 1 + ((List.range' (i + 1) d).filter (fun q => s.testBit q)).length = c + (((List.range' (i + 1) d).filter (fun q => s.testBit q)).length + 1) by omega]
            rfl
        · exact Or.inr ⟨fun c' => u1 (fun w hw => c' w (List.mem_cons_of_mem _ hw)), u2⟩
  | 0, _, 0, _, _, _, _, h, _, _ => absurd h (by omega)
  | d + 1, _, 0, _, _, _, _, h, _, _ => absurd h (by omega)
theorem iah (hs : s < 2 ^ 31) (hh : h ≤ 16) (hr : r ≤ 10) (e : m 26 0 = nI h) : ∀ (d i n : Nat) (P : List Nat) (to : Nat), i + d = h → d < n → ((List.range' i d).filter (fun q => s.testBit q)).length = P.length → to + P.length = r → (∀ t w, P[t]? = some w → m 31 (to + t) = nI w ∧ w < 2 ^ 31) → ∃ z, f_X11_isAhead_4 fu (nI s) (fun (x_6 : Me) => some (x_6, 0)) n m (nI to) (nI i) = some (m, z) ∧ ((z = 1 ∧ lx ((List.range' i d).filter (fun q => s.testBit q)) P = true) ∨ (z = 0 ∧ lx ((List.range' i d).filter (fun q => s.testBit q)) P = false))
  | 0, i, n + 1, P, to, hi, _, hl, _, _ => by
    have hP : P = [] := List.eq_nil_of_length_eq_zero hl.symm
    refine ⟨0, ?_, Or.inr ⟨rfl, by rw [hP]; rfl⟩⟩
    rw [f_X11_isAhead_4_s, e, if_pos (nI_le (by omega) (by omega))]
  | d + 1, i, n + 1, P, to, hi, hn, hl, ht, hP => by
    rw [List.range'_succ] at hl ⊢
    rw [f_X11_isAhead_4_s, e, if_neg (nI_ge (by omega) (by omega)), nI_1, nI_1]
    cases q : s.testBit i with
    | false =>
      rw [List.filter_cons_of_neg (by rw [q]; decide)] at hl ⊢
      rw [if_pos (bit_0 hs (by omega) q)]
      exact iah hs hh hr e d (i + 1) n P to (by omega) (by omega) hl ht hP
    | true =>
      rw [List.filter_cons_of_pos (p := fun q => s.testBit q) q] at hl ⊢
      rw [if_neg (show ¬ (nI s >>> (nI i &&& 31)) &&& 1 = 0 by rw [bit_1 hs (by omega) q]; decide)]
      cases P with
      | nil => cases hl
      | cons p P =>
        rw [List.length_cons] at ht
        rw [List.length_cons, List.length_cons] at hl
        obtain ⟨p1, p2⟩ := hP 0 p rfl
        rw [Nat.add_zero] at p1
        rw [if_pos (inb_nI (by omega) (by decide)), nI_clamp (by omega), p1]
        rcases Nat.lt_trichotomy p i with u | u | u
        · rw [if_neg (fun z => by have := (nI_eq p2 (by omega)).mp z; omega), if_pos (nI_le (by omega) (by omega))]
          refine ⟨0, rfl, Or.inr ⟨rfl, ?_⟩⟩
          cases z2 : lx (i :: (List.range' (i + 1) d).filter (fun q => s.testBit q)) (p :: P) with
          | false => rfl
          | true => rcases lx_c.mp z2 with z3 | ⟨z3, _⟩ <;> omega
        · rw [if_pos (by rw [u])]
          obtain ⟨z, g1, g2⟩ := iah hs hh hr e d (i + 1) n P (to + 1) (by omega) (by omega) (by omega) (by omega) (fun t w ht => by
            rw [show to + 1 + t = to + (t + 1) by omega]; exact hP (t + 1) w (by rw [List.getElem?_cons_succ]; exact ht))
          refine ⟨z, g1, g2.imp (fun v => ⟨v.1, lx_c.mpr (Or.inr ⟨u.symm, v.2⟩)⟩) (fun v => ⟨v.1, ?_⟩)⟩
          cases z2 : lx (i :: (List.range' (i + 1) d).filter (fun q => s.testBit q)) (p :: P) with
          | false => rfl
          | true =>
            rcases lx_c.mp z2 with z3 | ⟨_, z3⟩
            · omega
            · rw [v.2] at z3; cases z3
        · rw [if_neg (fun z => by have := (nI_eq p2 (by omega)).mp z; omega), if_neg (nI_ge u p2)]
          exact ⟨1, rfl, Or.inl ⟨rfl, lx_c.mpr (Or.inl u)⟩⟩
  | 0, _, 0, _, _, _, h, _, _, _ => absurd h (by omega)
  | d + 1, _, 0, _, _, _, h, _, _, _ => absurd h (by omega)
theorem t140 {k : Me → Option (Me × Unit)} (hs : s < 2 ^ 31) (hh : h ≤ 16) : ∀ (d i n to : Nat) (m : Me), m 26 0 = nI h → i + d = h → d < n → to + ((List.range' i d).filter (fun q => s.testBit q)).length ≤ 10 → ∃ m', f_X11_tries_140 fu (nI s) k n m (nI to) (nI i) = k m' ∧ (∀ f, inL [31] f = false → m' f = m f) ∧ (∀ t, t < to → m' 31 t = m 31 t) ∧ ∀ t w, ((List.range' i d).filter (fun q => s.testBit q))[t]? = some w → m' 31 (to + t) = nI w
  | 0, i, n + 1, to, m, e, hi, _, _ => by
    refine ⟨m, ?_, fun _ _ => rfl, fun _ _ => rfl, fun t w ht => by simp at ht⟩
    rw [f_X11_tries_140_s, e, if_pos (nI_le (by omega) (by omega))]
  | d + 1, i, n + 1, to, m, e, hi, hn, hl => by
    rw [List.range'_succ] at hl ⊢
    rw [f_X11_tries_140_s, e, if_neg (nI_ge (by omega) (by omega)), nI_1, nI_1]
    cases q : s.testBit i with
    | false =>
      rw [List.filter_cons_of_neg (by rw [q]; decide)] at hl ⊢
      rw [if_pos (bit_0 hs (by omega) q)]
      exact t140 hs hh d (i + 1) n to m e (by omega) (by omega) hl
    | true =>
      rw [List.filter_cons_of_pos (p := fun q => s.testBit q) q] at hl ⊢
      rw [List.length_cons] at hl
      rw [if_neg (show ¬ (nI s >>> (nI i &&& 31)) &&& 1 = 0 by rw [bit_1 hs (by omega) q]; decide), if_pos (inb_nI (by omega) (by decide)), nI_clamp (by omega)]
      obtain ⟨m', g1, g2, g3, g4⟩ := t140 (k := k) hs hh d (i + 1) n (to + 1) (mu m 31 to (nI i)) e (by omega) (by omega) (by omega)
      refine ⟨m', g1, fun f hf => (g2 f hf).trans (mu_fr _ _ _ hf rfl), fun t ht => (g3 t (by omega)).trans (mu_ne _ _ _ _ _ (by omega)), fun t w ht => ?_⟩
      cases t with
      | zero =>
        rw [List.getElem?_cons_zero] at ht
        rw [Nat.add_zero, g3 to (by omega), mu_same, Option.some.inj ht]
      | succ t =>
        rw [List.getElem?_cons_succ] at ht
        rw [show to + (t + 1) = to + 1 + t by omega]
        exact g4 t w ht
  | 0, _, 0, _, _, _, _, h, _ => absurd h (by omega)
  | d + 1, _, 0, _, _, _, _, h, _ => absurd h (by omega)
theorem trs (hfu : 70000 ≤ fu) {o : Option (Nat × List Nat)} (hs : s < 2 ^ 31) (hh : h ≤ 16) (hr2 : 2 ≤ r) (hr : r ≤ 10) (e : m 26 0 = nI h) (e30 : m 30 0 = nI r) (hM : HM K S h m) (hP : PM h r m o) : ∃ m', f_X11_tries fu m (nI s) = some (m', ()) ∧ (∀ f, inL [31, 34] f = false → m' f = m f) ∧ PM h r m' (up o (se K S h r s)) := by
  have up0 : ∀ o : Option (Nat × List Nat), up o none = o := fun o => by cases o <;> rfl
  have hmem : ∀ w, w ∈ stL h s → w < h := fun w hw => List.mem_range.mp (List.mem_filter.mp hw).1
  have key := t12 (fu := fu) (K := K) (S := S) (s := s) (k := (fun (x_5 : Me) (a2_5 : Int32) (a3_5 : Int32) (a4_5 : Int32) => if a2_5 = (x_5 30 0) then jn (fun (x_6 : Me) => f_X11_tries_140 fu (nI s) (fun (x_10 : Me) => some (x_10, ())) fu (mu x_6 34 0 (a4_5 - a3_5)) 0 0) (fun j_6 => if (x_5 34 0) = (-1) then j_6 x_5 else if (x_5 34 0) < (a4_5 - a3_5) then some (x_5, ()) else if (a4_5 - a3_5) = (x_5 34 0) then ob (f_X11_isAhead fu x_5 (nI s)) (fun x_11 r_11 => if r_11 = 0 then some (x_11, ()) else j_6 x_11) else j_6 x_5) else some (x_5, ()))) hs hh e hM h 0 fu 0 1000 0 (by omega) (by omega) (by omega) (by omega)
  rw [← List.range_eq_range', Nat.zero_add] at key
  have keep : se K S h r s = none → PM h r m (up o (se K S h r s)) := fun z => by rw [z, up0]; exact hP
  rcases key with ⟨u1, u2⟩ | ⟨u1, u2⟩
  · have u2' : f_X11_tries fu m (nI s) = _ := u2
    rw [u2']
    have u1' : ∀ w, w ∈ stL h s → S w = true := u1
    have hst : (List.range h).filter (fun q => s.testBit q) = stL h s := rfl
    rw [hst, e30]
    simp only [jn]
    have hlen : (stL h s).length ≤ 16 := Nat.le_trans (List.length_filter_le _ _) (by rw [List.length_range]; exact hh)
    by_cases hl : (stL h s).length = r
    · rw [if_pos (by rw [hl])]
      have hse : se K S h r s = some (spL K (stL h s), stL h s) := by unfold se; rw [if_pos ⟨u1', hl⟩]
      obtain ⟨m1, m2, m3⟩ := mnF_p K (stL h s) 1000
      obtain ⟨n1, n2, n3⟩ := mxF_p K (stL h s) 0
      obtain ⟨w0, hw0⟩ : ∃ w, w ∈ stL h s := by
        cases q : stL h s with
        | nil => rw [q] at hl; exact absurd hl (by show ¬ 0 = r; omega)
        | cons w _ => exact ⟨w, List.mem_cons_self⟩
      have hmx : mxF K (stL h s) 0 ≤ 1000 := by
        rcases n3 with z | ⟨w, w1, w2⟩
        · omega
        · have := (hM w (hmem w w1)).1; omega
      have hmn := m2 w0 hw0
      have hmx2 := n2 w0 hw0
      have hsp : pm (mxF K (stL h s) 0) - nI (mnF K (stL h s) 1000) = nI (spL K (stL h s)) := by
        unfold pm spL
        rw [if_neg (by omega), pk_sub (by omega)]
      have hsp9 : spL K (stL h s) ≤ 999 := by unfold spL; omega
      rw [hsp]
      generalize hD : spL K (stL h s) = D at hse hsp9
      obtain ⟨mA, g1, g2, _, g4⟩ := t140 (fu := fu) (s := s) (k := fun (x_10 : Me) => some (x_10, ())) hs hh h 0 fu 0 (mu m 34 0 (nI D)) e (by omega) (by omega) (by rw [← List.range_eq_range', Nat.zero_add, hst]; omega)
      rw [← List.range_eq_range', hst] at g4
      have fA : ∀ f, inL [31, 34] f = false → mA f = m f := fun f hf => by rw [g2 f (inL_mono rfl hf), mu_fr _ _ _ hf rfl]
      have new : ∀ o', o' = some (D, stL h s) → PM h r mA o' := fun o' ho => by
        refine Or.inr ⟨D, stL h s, ho, by rw [g2 34 rfl, mu_same], hsp9, hl, fun t w ht => ?_, hmem⟩
        have := g4 t w ht
        rw [Nat.zero_add] at this; exact this
      have g1' : f_X11_tries_140 fu (nI s) (fun (x_10 : Me) => some (x_10, ())) fu (mu m 34 0 (nI D)) 0 0 = some (mA, ()) := g1
      rw [g1']
      rcases hP with ⟨ho, h1⟩ | ⟨d, L, ho, h1, h2, h3, h4, h5⟩
      · rw [if_pos h1]
        exact ⟨mA, rfl, fA, new _ (by rw [ho, hse]; rfl)⟩
      · rw [h1, if_neg (nI_n1 (by omega))]
        have hkeep : bt (D, stL h s) (d, L) = false → PM h r m (up o (se K S h r s)) := fun z => by
          refine Or.inr ⟨d, L, ?_, h1, h2, h3, h4, h5⟩
          rw [ho, hse]
          show cond (bt _ _) _ _ = _
          rw [z]; rfl
        have hnew : bt (D, stL h s) (d, L) = true → PM h r mA (up o (se K S h r s)) := fun z => new _ (by
          rw [ho, hse]
          show cond (bt _ _) _ _ = _
          rw [z]; rfl)
        rcases Nat.lt_trichotomy d D with q | q | q
        · rw [if_pos (nI_lt q (by omega))]
          exact ⟨m, rfl, fun _ _ => rfl, hkeep (bt_f.mpr (fun c => by
            rcases c with c | ⟨c, _⟩
            · exact absurd c (by show ¬ D < d; omega)
            · exact absurd c (by show ¬ D = d; omega)))⟩
        · rw [if_neg (nI_nlt (by omega) (by omega)), if_pos (by rw [q])]
          unfold f_X11_isAhead
          obtain ⟨z, z1, z2⟩ := iah (fu := fu) (m := m) hs hh hr e h 0 fu L 0 (by omega) (by omega) (by rw [← List.range_eq_range', hst]; omega) (by omega) (fun t w ht => by
            rw [Nat.zero_add]
            have := h5 w (List.mem_of_getElem? ht)
            exact ⟨h4 t w ht, by omega⟩)
          rw [← List.range_eq_range', hst] at z2
          rw [show f_X11_isAhead_4 fu (nI s) (fun (x_6 : Me) => some (x_6, 0)) fu m 0 0 = _ from z1, ob_s]
          rcases z2 with ⟨rfl, z3⟩ | ⟨rfl, z3⟩
          · rw [if_neg n10, g1']
            exact ⟨mA, rfl, fA, hnew (bt_c.mpr (Or.inr ⟨q.symm, z3⟩))⟩
          · rw [if_pos (show (0 : Int32) = 0 from rfl)]
            exact ⟨m, rfl, fun _ _ => rfl, hkeep (bt_f.mpr (fun c => by
              rcases c with c | ⟨_, c⟩
              · exact absurd c (by show ¬ D < d; omega)
              · rw [z3] at c; cases c))⟩
        · rw [if_neg (nI_nlt (by omega) (by omega)), if_neg (fun z => by have := (nI_eq (by omega) (by omega)).mp z; omega)]
          exact ⟨mA, rfl, fA, hnew (bt_c.mpr (Or.inl q))⟩
    · rw [if_neg (fun z => hl ((nI_eq (by omega) (by omega)).mp z))]
      exact ⟨m, rfl, fun _ _ => rfl, keep (by unfold se; rw [if_neg (fun c => hl c.2)])⟩
  · have u2' : f_X11_tries fu m (nI s) = some (m, ()) := u2
    exact ⟨m, u2', fun _ _ => rfl, keep (by unfold se; rw [if_neg (fun c => u1 c.1)])⟩
theorem p22 (hfu : 70000 ≤ fu) {k : Me → Option (Me × Int32)} (hh : h ≤ 16) (hr2 : 2 ≤ r) (hr : r ≤ 10) : ∀ (d s n : Nat) (m : Me) (o : Option (Nat × List Nat)), s + d = 2 ^ h → d < n → m 26 0 = nI h → m 30 0 = nI r → HM K S h m → PM h r m o → ∃ m', f_X11_pick_22 fu k n m (nI s) = k m' ∧ (∀ f, inL [31, 34] f = false → m' f = m f) ∧ PM h r m' ((List.range' s d).foldl (fun o s => up o (se K S h r s)) o) := by
  have h2 : 2 ^ h ≤ 65536 := Nat.pow_le_pow_right (n := 2) (by decide) hh
  have hsh : (1 : Int32) <<< (nI h &&& 31) = nI (2 ^ h) := by
    have := pk_shlN (n := 1) (nI h &&& 31) h (b31 (by omega)) (by rw [Nat.one_mul]; omega)
    rw [Nat.one_mul] at this
    exact this
  intro d
  induction d with
  | zero =>
    intro s n m o hs hn e e30 hM hP
    obtain ⟨n, rfl⟩ : ∃ q, n = q + 1 := ⟨n - 1, by omega⟩
    refine ⟨m, ?_, fun _ _ => rfl, hP⟩
    rw [f_X11_pick_22_s, e, hsh, if_pos (nI_le (by omega) (by omega))]
  | succ d ih =>
    intro s n m o hs hn e e30 hM hP
    obtain ⟨n, rfl⟩ : ∃ q, n = q + 1 := ⟨n - 1, by omega⟩
    obtain ⟨m1, p1, p2, p3⟩ := trs (fu := fu) (K := K) (S := S) (s := s) hfu (by omega) hh hr2 hr e e30 hM hP
    obtain ⟨m2, q1, q2, q3⟩ := ih (s + 1) n m1 _ (by omega) (by omega) (by rw [p2 26 rfl]; exact e) (by rw [p2 30 rfl]; exact e30) (HM_of hM (p2 27 rfl) (p2 28 rfl)) p3
    refine ⟨m2, ?_, fun f hf => (q2 f hf).trans (p2 f hf), by rw [List.range'_succ, List.foldl_cons]; exact q3⟩
    rw [f_X11_pick_22_s, e, hsh, if_neg (nI_ge (by omega) (by omega)), p1, ob_s, nI_1, q1]
theorem st_pick (hfu : 70000 ≤ fu) (hR0 : Rel nw x m) : S2 Rel nw (f_X10_pick fu nw x) (f_X11_pick fu m) := by
  have hR := rel_th hR0
  obtain ⟨y, st, tl, ns, hh, l, np, r, hA, hT, hS, hW, hH, hB, hO, hP, h0, h1, h2, h3, h4⟩ := hR0
  obtain ⟨a1, ⟨s1, s2, s3⟩, a3, a4, a5, ⟨o1, o2, o3⟩, a7, a8, a9⟩ := hA
  unfold f_X10_pick f_X11_pick
  rw [s1, s2]
  by_cases c0 : nI st = 1
  · rw [if_pos c0, if_pos c0]
    have hst : st = 1 := (nI_eq (by omega) (by decide)).mp (show nI st = nI 1 from c0)
    subst hst
    obtain ⟨r1, r2, r3, r4, r5, r6⟩ := h1 (by omega)
    have hX : HX (fun i => (x 16 i).toNatClampNeg) (fun i => decide (x 17 i = 1)) hh x := fun i hi => by
      obtain ⟨⟨k, k1, k2, k3⟩, k4, k5⟩ := hH i hi
      have e : (x 16 i).toNatClampNeg = k := by rw [k2, nI_clamp (by omega)]
      refine ⟨by show (x 16 i).toNatClampNeg ≤ 999; omega, by show x 16 i = nI (x 16 i).toNatClampNeg; rw [e, k2], ?_⟩
      show x 17 i = b01 (decide (x 17 i = 1))
      rcases k5 with z | z
      · rw [k4, z]; rfl
      · rw [k4, z]; rfl
    have hM : HM (fun i => (x 16 i).toNatClampNeg) (fun i => decide (x 17 i = 1)) hh (mu (mu m 0 0 0) 34 0 (-1)) := fun i hi => by
      obtain ⟨⟨k, k1, k2, k3⟩, k4, k5⟩ := hH i hi
      have e : (x 16 i).toNatClampNeg = k := by rw [k2, nI_clamp (by omega)]
      refine ⟨by show (x 16 i).toNatClampNeg ≤ 999; omega, by show m 27 i = nI (x 16 i).toNatClampNeg; rw [e, k3], ?_⟩
      show m 28 i = b01 (decide (x 17 i = 1))
      rcases k5 with z | z
      · rw [k4, z]; rfl
      · rw [k4, z]; rfl
    unfold f_X5_pickEven
    rw [r1]
    obtain ⟨x1, a2, p1, p2, p3⟩ := p4_sp (fu := fu) (nw := nw) (k := fun (x_22 : Me) (a2_22 : Int32) => some (x_22, a2_22)) hfu r3 r4 o3 hh 0 fu x (-1) none (by omega) (by omega) o1 hX (Or.inl ⟨rfl, rfl⟩)
    obtain ⟨m1, q1, q2, q3⟩ := p22 (fu := fu) (k := fun (x_3 : Me) => if (x_3 34 0) = (-1) then some (x_3, (-1)) else some ((mu x_3 4 0 2), x_3 34 0)) hfu o3 r3 r4 (2 ^ hh) 0 fu (mu (mu m 0 0 0) 34 0 (-1)) none (by omega) (by have : 2 ^ hh ≤ 65536 := Nat.pow_le_pow_right (n := 2) (by decide) o3; omega) o2 r2 hM (Or.inl ⟨rfl, rfl⟩)
    rw [← List.range_eq_range'] at p3 q3
    have hsame := pk_same (K := fun i => (x 16 i).toNatClampNeg) (S := fun i => decide (x 17 i = 1)) (h := hh) (r := r) r3 (fun i hi => (hX i hi).1)
    rw [List.foldl_flatMap, List.foldl_map] at hsame
    simp only [List.foldl_map] at hsame
    rw [hsame] at p3
    rw [show f_X5_pickEven_4 fu nw (nI r) (fun (x_22 : Me) (a2_22 : Int32) => some (x_22, a2_22)) fu x (-1) 0 = some (x1, a2) from p1, ob_s, show f_X11_pick_22 fu (fun (x_3 : Me) => if (x_3 34 0) = (-1) then some (x_3, (-1)) else some ((mu x_3 4 0 2), x_3 34 0)) fu (mu (mu m 0 0 0) 34 0 (-1)) 0 = _ from q1]
    have hm1 : ∀ f, inL [0, 31, 34] f = false → m1 f = m f := fun f hf => by
      rw [q2 f (inL_mono rfl hf), mu_fr _ _ _ hf rfl, mu_fr _ _ _ hf rfl]
    generalize (List.range (2 ^ hh)).foldl (fun o s => up o (se (fun i => (x 16 i).toNatClampNeg) (fun i => decide (x 17 i = 1)) hh r s)) none = o at p3 q3
    clear p1 q1 q2 hsame hX hM
    rcases p3 with ⟨u1, u2⟩ | ⟨d, L, u1, u2, u3, u4, u5, u6⟩
    · rcases q3 with ⟨v1, v2⟩ | ⟨d', L', v1, v2, _⟩
      · rw [if_pos u2, if_pos v2, u2]
        obtain ⟨gx, rfl⟩ := msL_of p2
        obtain ⟨gm, rfl⟩ := msL_of hm1
        exact ⟨_, _, _, rfl, rfl, ⟨y, 1, tl, ns, hh, l, np, r, ⟨a1, ⟨s1, s2, s3⟩, a3, a4, a5, ⟨o1, o2, o3⟩, a7, a8, a9⟩, hT, hS, hW, hH, hB, hO, hP, h0, fun _ => ⟨r1, r2, r3, r4, r5, r6⟩, fun q => absurd q (by decide), fun q => absurd q (by decide), fun q => absurd q (by decide)⟩⟩
      · rw [u1] at v1; cases v1
    · rcases q3 with ⟨v1, v2⟩ | ⟨d', L', v1, v2, v3, v4, v5, v6⟩
      · rw [u1] at v1; cases v1
      · rw [u1] at v1
        have e1 : d = d' := (Prod.mk.inj (Option.some.inj v1)).1
        have e2 : L = L' := (Prod.mk.inj (Option.some.inj v1)).2
        subst e1 e2
        rw [u2, v2, if_neg (nI_n1 (by omega)), if_neg (nI_n1 (by omega))]
        have hR2 : ∀ k, k < r → ∃ i, i < hh ∧ x1 18 k = nI i ∧ m1 31 k = nI i := fun k hk => by
          have hg : L[k]? = some (L[k]'(by omega)) := List.getElem?_eq_getElem (by omega)
          exact ⟨_, u6 _ (List.mem_of_getElem? hg), u5 k _ hg, v5 k _ hg⟩
        clear u5 v5 v2 u2
        obtain ⟨gx, rfl⟩ := msL_of p2
        obtain ⟨gm, rfl⟩ := msL_of hm1
        exact ⟨_, _, _, rfl, rfl, ⟨y, 2, tl, ns, hh, l, np, r, ⟨a1, ⟨rfl, rfl, by decide⟩, a3, a4, a5, ⟨o1, o2, o3⟩, a7, a8, a9⟩, hT, hS, hW, hH, hB, hO, hP, ⟨fun q => absurd q (by decide), fun _ => h0.2.1 (by decide), fun _ => h0.2.2 (by decide)⟩, fun _ => ⟨r1, r2, r3, r4, r5, r6⟩, fun _ => hR2, fun q => absurd q (by decide), fun q => absurd q (by decide)⟩⟩
  · rw [if_neg c0, if_neg c0]
    exact ⟨x, _, _, rfl, rfl, hR⟩
end PUR22
