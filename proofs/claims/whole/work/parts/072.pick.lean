def b01 (v : Bool) : Int32 := cond v 1 0
def HX (K : Nat → Nat) (S : Nat → Bool) (h : Nat) (x : Me) : Prop := ∀ i, i < h → K i ≤ 999 ∧ x 16 i = nI (K i) ∧ x 17 i = b01 (S i)
def HM (K : Nat → Nat) (S : Nat → Bool) (h : Nat) (m : Me) : Prop := ∀ i, i < h → K i ≤ 999 ∧ m 27 i = nI (K i) ∧ m 28 i = b01 (S i)
def PX (h r : Nat) (x : Me) (a2 : Int32) (o : Option (Nat × List Nat)) : Prop := (o = none ∧ a2 = -1) ∨ ∃ d L, o = some (d, L) ∧ a2 = nI d ∧ d ≤ 999 ∧ L.length = r ∧ LR L nI (x 18) ∧ ∀ w, w ∈ L → w < h
def PM (h r : Nat) (m : Me) (o : Option (Nat × List Nat)) : Prop := (o = none ∧ m 34 0 = -1) ∨ ∃ d L, o = some (d, L) ∧ m 34 0 = nI d ∧ d ≤ 999 ∧ L.length = r ∧ LR L nI (m 31) ∧ ∀ w, w ∈ L → w < h
def pm (M : Nat) : Int32 := if M = 0 then -1 else nI (M - 1)
theorem pm_s {M k : Nat} (hM : M ≤ 1000) (hk : k ≤ 999) : (if pm M < nI k then nI k else pm M) = pm (if M < k + 1 then k + 1 else M) := by
  have e1 : pm (k + 1) = nI k := by unfold pm; rw [if_neg (by omega)]; rfl
  by_cases h0 : M = 0
  · rw [h0, show pm 0 = -1 from rfl, if_pos (show (-1 : Int32) < nI k from Int32.lt_of_lt_of_le (by decide) (nI_pos' (by omega))), if_pos (by omega), e1]
  · have e2 : pm M = nI (M - 1) := by unfold pm; rw [if_neg h0]
    rw [e2]
    by_cases q : M < k + 1
    · rw [if_pos (nI_lt (by omega) (by omega)), if_pos q, e1]
    · rw [if_neg (nI_nlt (by omega) (by omega)), if_neg q, e2]
section PUR21
variable {fu nw : Nat} {x m : Me} {K : Nat → Nat} {S : Nat → Bool} {h r : Nat}
theorem HX_of {x' : Me} (hX : HX K S h x) (h16 : x' 16 = x 16) (h17 : x' 17 = x 17) : HX K S h x' := by
  unfold HX; rw [h16, h17]; exact hX
theorem HM_of {m' : Me} (hX : HM K S h m) (h16 : m' 27 = m 27) (h17 : m' 28 = m 28) : HM K S h m' := by
  unfold HM; rw [h16, h17]; exact hX
theorem ft6 {k : Me → Int32 → Option (Me × Int32)} {lo hi : Nat} (hlo : lo ≤ 999) (hhi : hi ≤ 999) (hr : r ≤ 10) (hh : h ≤ 16) : ∀ (d i c n : Nat) (x : Me), i + d = h → d < n → c ≤ r → x 15 0 = nI h → HX K S h x → ∃ x', f_X5_fillTried_6 fu nw (nI r) (nI lo) (nI hi) k n x (nI c) (nI i) = k x' (nI (c + (((List.range' i d).filter (inS K S lo hi)).take (r - c)).length)) ∧ (∀ f, inL [19] f = false → x' f = x f) ∧ (∀ t, t < c → x' 19 t = x 19 t) ∧ ∀ t w, (((List.range' i d).filter (inS K S lo hi)).take (r - c))[t]? = some w → x' 19 (c + t) = nI w
  | 0, i, c, n + 1, x, hi', _, hc, e, hX => by
    refine ⟨x, ?_, fun _ _ => rfl, fun _ _ => rfl, fun t w ht => by simp at ht⟩
    rw [f_X5_fillTried_6_s, e, if_pos (nI_le (by omega) (by omega))]
    simp
  | d + 1, i, c, n + 1, x, hi', hn, hc, e, hX => by
    by_cases q : c = r
    · refine ⟨x, ?_, fun _ _ => rfl, fun _ _ => rfl, fun t w ht => by rw [q, Nat.sub_self, List.take_zero] at ht; simp at ht⟩
      rw [f_X5_fillTried_6_s, e, if_neg (nI_ge (by omega) (by omega)), if_pos (nI_le (by omega) (by omega)), q, Nat.sub_self, List.take_zero]
      rfl
    · obtain ⟨k1, k2, k3⟩ := hX i (by omega)
      rw [List.range'_succ, f_X5_fillTried_6_s, e, if_neg (nI_ge (by omega) (by omega)), if_neg (nI_ge (by omega) (by omega)), if_neg (show ¬ (10 : Int32) ≤ nI c from nI_ge (b := 10) (by omega) (by decide)), if_pos (inb_nI (by omega) (by decide)), nI_clamp (by omega), k2, k3, nI_1, nI_1]
      have out : inS K S lo hi i = false → ∃ x', f_X5_fillTried_6 fu nw (nI r) (nI lo) (nI hi) k n x (nI c) (nI (i + 1)) = k x' (nI (c + (((i :: List.range' (i + 1) d).filter (inS K S lo hi)).take (r - c)).length)) ∧ (∀ f, inL [19] f = false → x' f = x f) ∧ (∀ t, t < c → x' 19 t = x 19 t) ∧ ∀ t w, (((i :: List.range' (i + 1) d).filter (inS K S lo hi)).take (r - c))[t]? = some w → x' 19 (c + t) = nI w := by
        intro z
        rw [List.filter_cons_of_neg (by rw [z]; decide)]
        exact ft6 hlo hhi hr hh d (i + 1) c n x (by omega) (by omega) hc e hX
      cases z1 : S i with
      | false =>
        rw [if_pos (show b01 false = 0 from rfl)]
        exact out (by unfold inS; rw [z1]; rfl)
      | true =>
        rw [if_neg (show ¬ b01 true = 0 by decide)]
        by_cases z2 : lo ≤ K i
        · rw [if_neg (nI_nlt z2 (by omega))]
          by_cases z3 : K i ≤ hi
          · rw [if_neg (nI_nlt z3 (by omega)), if_pos (inb_nI (by omega) (by decide)), nI_clamp (by omega)]
            rw [List.filter_cons_of_pos (inS_c.mpr ⟨z1, z2, z3⟩), show r - c = (r - (c + 1)) + 1 by omega, List.take_succ_cons]
            obtain ⟨x', p1, p2, p3, p4⟩ := ft6 (k := k) hlo hhi hr hh d (i + 1) (c + 1) n (mu x 19 c (nI i)) (by omega) (by omega) (by omega) e hX
            refine ⟨x', ?_, fun f hf => (p2 f hf).trans (mu_fr _ _ _ hf rfl), fun t ht => (p3 t (by omega)).trans (mu_ne _ _ _ _ _ (by omega)), fun t w ht => ?_⟩
            · rw [p1, List.length_cons]
              exact congrArg (fun z => k x' (nI z)) (by omega)
            · cases t with
              | zero =>
                rw [List.getElem?_cons_zero] at ht
                rw [Nat.add_zero, p3 c (by omega), mu_same, Option.some.inj ht]
              | succ t =>
                rw [List.getElem?_cons_succ] at ht
                rw [show c + (t + 1) = c + 1 + t by omega]
                exact p4 t w ht
          · rw [if_pos (nI_lt (by omega) (by omega))]
            exact out (by
              cases q2 : inS K S lo hi i with
              | true => exact absurd (inS_c.mp q2).2.2 z3
              | false => rfl)
        · rw [if_pos (nI_lt (by omega) (by omega))]
          exact out (by
            cases q2 : inS K S lo hi i with
            | true => exact absurd (inS_c.mp q2).2.1 z2
            | false => rfl)
  | 0, _, _, 0, _, _, h, _, _, _ => absurd h (by omega)
  | d + 1, _, _, 0, _, _, h, _, _, _ => absurd h (by omega)
theorem fT_sp (hfu : 70000 ≤ fu) {lo hi : Nat} (hlo : lo ≤ 999) (hhi : hi ≤ 999) (hr : r ≤ 10) (hh : h ≤ 16) (e : x 15 0 = nI h) (hX : HX K S h x) : ∃ x', f_X5_fillTried fu nw x (nI r) (nI lo) (nI hi) = some (x', if (spn K S h r lo hi).length = r then 1 else 0) ∧ (∀ f, inL [19] f = false → x' f = x f) ∧ LR (spn K S h r lo hi) nI (x' 19) := by
  obtain ⟨x', p1, p2, _, p4⟩ := ft6 (fu := fu) (nw := nw) (k := fun (x_9 : Me) (a4_9 : Int32) => if a4_9 = nI r then some (x_9, 1) else some (x_9, 0)) hlo hhi hr hh h 0 0 fu x (by omega) (by omega) (by omega) e hX
  rw [← List.range_eq_range', Nat.sub_zero, Nat.zero_add] at p1
  rw [← List.range_eq_range', Nat.sub_zero] at p4
  refine ⟨x', ?_, p2, fun t w ht => by have := p4 t w ht; rw [Nat.zero_add] at this; exact this⟩
  have hl : (spn K S h r lo hi).length ≤ r := by unfold spn; rw [List.length_take]; omega
  refine (show f_X5_fillTried fu nw x (nI r) (nI lo) (nI hi) = (if nI (spn K S h r lo hi).length = nI r then some (x', 1) else some (x', 0)) from p1).trans ?_
  by_cases q : (spn K S h r lo hi).length = r
  · rw [if_pos (by rw [q]), if_pos q]
  · rw [if_neg (fun z => q ((nI_eq (by omega) (by omega)).mp z)), if_neg q]
theorem tia (hr : r ≤ 10) : ∀ (T P : List Nat) (i n : Nat), T.length = P.length → i + T.length = r → T.length < n → (∀ t w, T[t]? = some w → x 19 (i + t) = nI w ∧ w < 2 ^ 31) → (∀ t w, P[t]? = some w → x 18 (i + t) = nI w ∧ w < 2 ^ 31) → ∃ z, f_X5_triedIsAhead_2 fu nw (nI r) (fun (x_6 : Me) => some (x_6, 0)) n x (nI i) = some (x, z) ∧ ((z = 1 ∧ lx T P = true) ∨ (z = 0 ∧ lx T P = false))
  | [], [], i, n + 1, _, hi, _, _, _ => by
    have hi' : i = r := hi
    refine ⟨0, ?_, Or.inr ⟨rfl, rfl⟩⟩
    rw [f_X5_triedIsAhead_2_s, if_pos (nI_le (by omega) (by omega))]
  | a :: T, c :: P, i, n + 1, hl, hi, hn, h1, h2 => by
    rw [List.length_cons] at hi hn
    rw [List.length_cons, List.length_cons] at hl
    obtain ⟨a1, a2⟩ := h1 0 a rfl
    obtain ⟨c1, c2⟩ := h2 0 c rfl
    rw [Nat.add_zero] at a1 c1
    rw [f_X5_triedIsAhead_2_s, if_neg (nI_ge (by omega) (by omega)), if_neg (show ¬ (10 : Int32) ≤ nI i from nI_ge (b := 10) (by omega) (by decide)), if_pos (inb_nI (by omega) (by decide)), nI_clamp (by omega), a1, c1, nI_1]
    rcases Nat.lt_trichotomy a c with q | q | q
    · rw [if_neg (fun z => by have := (nI_eq a2 c2).mp z; omega), if_neg (nI_ge q c2)]
      exact ⟨1, rfl, Or.inl ⟨rfl, lx_c.mpr (Or.inl q)⟩⟩
    · rw [if_pos (by rw [q])]
      obtain ⟨z, k1, k2⟩ := tia hr T P (i + 1) n (by omega) (by omega) (by omega) (fun t w ht => by
        rw [show i + 1 + t = i + (t + 1) by omega]; exact h1 (t + 1) w (by rw [List.getElem?_cons_succ]; exact ht)) (fun t w ht => by
        rw [show i + 1 + t = i + (t + 1) by omega]; exact h2 (t + 1) w (by rw [List.getElem?_cons_succ]; exact ht))
      refine ⟨z, k1, k2.imp (fun u => ⟨u.1, lx_c.mpr (Or.inr ⟨q, u.2⟩)⟩) (fun u => ⟨u.1, ?_⟩)⟩
      cases z2 : lx (a :: T) (c :: P) with
      | false => rfl
      | true =>
        rcases lx_c.mp z2 with z3 | ⟨_, z3⟩
        · omega
        · rw [u.2] at z3; cases z3
    · rw [if_neg (fun z => by have := (nI_eq a2 c2).mp z; omega), if_pos (nI_le (by omega) a2)]
      refine ⟨0, rfl, Or.inr ⟨rfl, ?_⟩⟩
      cases z2 : lx (a :: T) (c :: P) with
      | false => rfl
      | true => rcases lx_c.mp z2 with z3 | ⟨z3, _⟩ <;> omega
  | [], _ :: _, _, _, h, _, _, _, _ => by cases h
  | _ :: _, [], _, _, h, _, _, _, _ => by cases h
  | [], [], _, 0, _, _, h, _, _ => absurd h (by omega)
  | _ :: _, _ :: _, _, 0, _, _, h, _, _ => absurd h (by omega)
theorem spn_mem {lo hi w : Nat} (hw : w ∈ spn K S h r lo hi) : w < h := List.mem_range.mp (List.mem_filter.mp (List.mem_of_mem_take hw)).1
theorem p15_1 (hfu : 70000 ≤ fu) {a c n : Nat} {a2 : Int32} {o : Option (Nat × List Nat)} {k : Me → Int32 → Option (Me × Int32)} (hr2 : 2 ≤ r) (hr : r ≤ 10) (hh : h ≤ 16) (ha : a < h) (hc : c < h) (e : x 15 0 = nI h) (hX : HX K S h x) (hP : PX h r x a2 o) : ∃ x1 a21, f_X5_pickEven_15 fu nw (nI r) (nI a) k (n + 1) x a2 (nI c) = f_X5_pickEven_15 fu nw (nI r) (nI a) k n x1 a21 (nI (c + 1)) ∧ (∀ f, inL [18, 19] f = false → x1 f = x f) ∧ PX h r x1 a21 (up o (pe K S h r a c)) := by
  obtain ⟨ka1, ka2, ka3⟩ := hX a ha
  obtain ⟨kc1, kc2, kc3⟩ := hX c hc
  have up0 : ∀ o : Option (Nat × List Nat), up o none = o := fun o => by cases o <;> rfl
  rw [f_X5_pickEven_15_s, e, if_neg (nI_ge hc (by omega)), if_pos (inb_nI (by omega) (by decide)), if_pos (inb_nI (by omega) (by decide)), nI_clamp (by omega), nI_clamp (by omega)]
  simp only [jn]
  rw [ka2, ka3, kc2, kc3, nI_1]
  by_cases q : K c < K a
  · rw [if_pos (pk_sneg (by omega) q), if_pos trivial]
    refine ⟨x, a2, rfl, fun _ _ => rfl, ?_⟩
    unfold pe
    rw [if_neg (fun z => by have := z.1.2.2; omega), up0]
    exact hP
  · rw [pk_sub (by omega), if_neg (show ¬ nI (K c - K a) < 0 from nI_pos (by omega)), if_pos trivial, if_neg n10]
    have keep : pe K S h r a c = none → ∀ x1 : Me, x1 18 = x 18 → PX h r x1 a2 (up o (pe K S h r a c)) := fun z x1 h18 => by
      rw [z, up0]
      unfold PX; rw [h18]; exact hP
    have body : (∀ d L, o = some (d, L) → K c - K a ≤ d) → ∃ x1 a21, (if b01 (S a) = 0 then f_X5_pickEven_15 fu nw (nI r) (nI a) k n x a2 (nI (c + 1)) else if b01 (S c) = 0 then f_X5_pickEven_15 fu nw (nI r) (nI a) k n x a2 (nI (c + 1)) else ob (f_X5_fillTried fu nw x (nI r) (nI (K a)) (nI (K c))) (fun x_4 r_4 => if r_4 = 0 then f_X5_pickEven_15 fu nw (nI r) (nI a) k n x_4 a2 (nI (c + 1)) else if nI (K c - K a) = a2 then ob (f_X5_triedIsAhead fu nw x_4 (nI r)) (fun x_7 r_7 => if r_7 = 0 then f_X5_pickEven_15 fu nw (nI r) (nI a) k n x_7 a2 (nI (c + 1)) else if acok 0 0 10 10 10 = true then f_X5_pickEven_15 fu nw (nI r) (nI a) k n (mcpy x_7 19 18 0 0 10) (nI (K c - K a)) (nI (c + 1)) else none) else if acok 0 0 10 10 10 = true then f_X5_pickEven_15 fu nw (nI r) (nI a) k n (mcpy x_4 19 18 0 0 10) (nI (K c - K a)) (nI (c + 1)) else none)) = f_X5_pickEven_15 fu nw (nI r) (nI a) k n x1 a21 (nI (c + 1)) ∧ (∀ f, inL [18, 19] f = false → x1 f = x f) ∧ PX h r x1 a21 (up o (pe K S h r a c)) := by
      intro hle
      cases sa : S a with
      | false =>
        rw [if_pos (show b01 false = 0 from rfl)]
        exact ⟨x, a2, rfl, fun _ _ => rfl, keep (by unfold pe; rw [if_neg (fun z => by rw [sa] at z; cases z.1.1)]) x rfl⟩
      | true =>
      cases sc : S c with
      | false =>
        rw [if_neg (show ¬ b01 true = 0 by decide), if_pos (show b01 false = 0 from rfl)]
        exact ⟨x, a2, rfl, fun _ _ => rfl, keep (by unfold pe; rw [if_neg (fun z => by rw [sc] at z; cases z.1.2.1)]) x rfl⟩
      | true =>
      rw [if_neg (show ¬ b01 true = 0 by decide), if_neg (show ¬ b01 true = 0 by decide)]
      obtain ⟨x4, f1, f2, f3⟩ := fT_sp (fu := fu) (nw := nw) hfu ka1 kc1 hr hh e hX
      rw [f1, ob_s]
      have fr4 : ∀ f, inL [18, 19] f = false → x4 f = x f := fun f hf => f2 f (inL_mono rfl hf)
      by_cases hl : (spn K S h r (K a) (K c)).length = r
      · rw [if_pos hl, if_neg n10]
        have hpe : pe K S h r a c = some (K c - K a, spn K S h r (K a) (K c)) := by unfold pe; rw [if_pos ⟨⟨sa, sc, by omega⟩, hl⟩]
        have new : ∀ o', o' = some (K c - K a, spn K S h r (K a) (K c)) → PX h r (mcpy x4 19 18 0 0 10) (nI (K c - K a)) o' := fun o' ho => by
          refine Or.inr ⟨_, _, ho, rfl, by omega, hl, fun t w ht => ?_, fun w hw => spn_mem hw⟩
          have htl : t < r := by
            obtain ⟨z, _⟩ := List.getElem?_eq_some_iff.mp ht
            omega
          have : mcpy x4 19 18 0 0 10 18 t = x4 19 (0 + (t - 0)) := if_pos (show 0 ≤ t ∧ t < 0 + 10 by omega)
          rw [this, Nat.zero_add, Nat.sub_zero]
          exact f3 t w ht
        have frn : ∀ f, inL [18, 19] f = false → mcpy x4 19 18 0 0 10 f = x f := fun f hf => by
          have : mcpy x4 19 18 0 0 10 f = x4 f := if_neg (inL_ne hf rfl)
          rw [this, fr4 f hf]
        have hac : acok 0 0 10 10 10 = true := by decide
        rcases hP with ⟨ho, h1⟩ | ⟨d, L, ho, h1, h2, h3, h4, h5⟩
        · rw [if_neg (show ¬ nI (K c - K a) = a2 by rw [h1]; exact nI_n1 (by omega)), if_pos hac]
          exact ⟨_, _, rfl, frn, new _ (by rw [ho, hpe]; rfl)⟩
        · have hDd := hle d L ho
          by_cases hD : K c - K a = d
          · rw [if_pos (show nI (K c - K a) = a2 by rw [hD, h1])]
            unfold f_X5_triedIsAhead
            obtain ⟨z, z1, z2⟩ := tia (fu := fu) (nw := nw) (x := x4) hr (spn K S h r (K a) (K c)) L 0 fu (by omega) (by omega) (by omega) (fun t w ht => by
              rw [Nat.zero_add]
              have := spn_mem (List.mem_of_getElem? ht)
              exact ⟨f3 t w ht, by omega⟩) (fun t w ht => by
              rw [Nat.zero_add, f2 18 rfl]
              have := h5 w (List.mem_of_getElem? ht)
              exact ⟨h4 t w ht, by omega⟩)
            rw [show f_X5_triedIsAhead_2 fu nw (nI r) (fun (x_6 : Me) => some (x_6, 0)) fu x4 0 = _ from z1, ob_s]
            rcases z2 with ⟨rfl, z3⟩ | ⟨rfl, z3⟩
            · rw [if_neg n10, if_pos hac]
              refine ⟨_, _, rfl, frn, new _ ?_⟩
              rw [ho, hpe]
              show cond (bt _ _) _ _ = _
              rw [bt_c.mpr (Or.inr ⟨hD, z3⟩)]; rfl
            · rw [if_pos (show (0 : Int32) = 0 from rfl)]
              refine ⟨x4, a2, rfl, fr4, Or.inr ⟨d, L, ?_, h1, h2, h3, by rw [f2 18 rfl]; exact h4, h5⟩⟩
              rw [ho, hpe]
              show cond (bt _ _) _ _ = _
              rw [bt_f.mpr (fun u => by
                rcases u with u | ⟨_, u⟩
                · exact absurd u (by show ¬ K c - K a < d; omega)
                · rw [z3] at u; cases u)]; rfl
          · rw [if_neg (show ¬ nI (K c - K a) = a2 by rw [h1]; exact fun u => hD ((nI_eq (by omega) (by omega)).mp u)), if_pos hac]
            refine ⟨_, _, rfl, frn, new _ ?_⟩
            rw [ho, hpe]
            show cond (bt _ _) _ _ = _
            rw [bt_c.mpr (Or.inl (by show K c - K a < d; omega))]; rfl
      · rw [if_neg hl, if_pos (show (0 : Int32) = 0 from rfl)]
        exact ⟨x4, a2, rfl, fr4, keep (by unfold pe; rw [if_neg (fun z => hl z.2)]) x4 (f2 18 rfl)⟩
    rcases hP with ⟨ho, h1⟩ | ⟨d, L, ho, h1, h2, h3, h4, h5⟩
    · rw [if_pos h1]
      exact body (fun d L z => by rw [ho] at z; cases z)
    · rw [if_neg (show ¬ a2 = -1 by rw [h1]; exact nI_n1 (by omega))]
      by_cases hD : d < K c - K a
      · rw [if_pos (show a2 < nI (K c - K a) by rw [h1]; exact nI_lt hD (by omega))]
        refine ⟨x, a2, rfl, fun _ _ => rfl, Or.inr ⟨d, L, ?_, h1, h2, h3, h4, h5⟩⟩
        unfold pe
        by_cases z : (S a = true ∧ S c = true ∧ K a ≤ K c) ∧ (spn K S h r (K a) (K c)).length = r
        · rw [if_pos z, ho]
          show cond (bt _ _) _ _ = _
          rw [bt_f.mpr (fun u => by
            rcases u with u | ⟨u, _⟩
            · exact absurd u (by show ¬ K c - K a < d; omega)
            · exact absurd u (by show ¬ K c - K a = d; omega))]; rfl
        · rw [if_neg z, up0, ho]
      · rw [if_neg (show ¬ a2 < nI (K c - K a) by rw [h1]; exact nI_nlt (by omega) (by omega))]
        exact body (fun d' L' z => by
          rw [ho] at z
          have := (Prod.mk.inj (Option.some.inj z)).1
          omega)
theorem p15 (hfu : 70000 ≤ fu) {a : Nat} {k : Me → Int32 → Option (Me × Int32)} (hr2 : 2 ≤ r) (hr : r ≤ 10) (hh : h ≤ 16) (ha : a < h) : ∀ (d c n : Nat) (x : Me) (a2 : Int32) (o : Option (Nat × List Nat)), c + d = h → d < n → x 15 0 = nI h → HX K S h x → PX h r x a2 o → ∃ x1 a21, f_X5_pickEven_15 fu nw (nI r) (nI a) k n x a2 (nI c) = k x1 a21 ∧ (∀ f, inL [18, 19] f = false → x1 f = x f) ∧ PX h r x1 a21 ((List.range' c d).foldl (fun o c => up o (pe K S h r a c)) o)
  | 0, c, n + 1, x, a2, o, hc, _, e, hX, hP => by
    refine ⟨x, a2, ?_, fun _ _ => rfl, hP⟩
    rw [f_X5_pickEven_15_s, e, if_pos (nI_le (by omega) (by omega))]
  | d + 1, c, n + 1, x, a2, o, hc, hn, e, hX, hP => by
    obtain ⟨x1, a21, p1, p2, p3⟩ := p15_1 (fu := fu) (nw := nw) (n := n) (k := k) hfu hr2 hr hh ha (show c < h by omega) e hX hP
    obtain ⟨x2, a22, q1, q2, q3⟩ := p15 (k := k) hfu hr2 hr hh ha d (c + 1) n x1 a21 _ (by omega) (by omega) (by rw [p2 15 rfl]; exact e) (HX_of hX (p2 16 rfl) (p2 17 rfl)) p3
    exact ⟨x2, a22, p1.trans q1, fun f hf => (q2 f hf).trans (p2 f hf), by rw [List.range'_succ, List.foldl_cons]; exact q3⟩
  | 0, _, 0, _, _, _, _, h, _, _, _ => absurd h (by omega)
  | d + 1, _, 0, _, _, _, _, h, _, _, _ => absurd h (by omega)
theorem p4_sp (hfu : 70000 ≤ fu) {k : Me → Int32 → Option (Me × Int32)} (hr2 : 2 ≤ r) (hr : r ≤ 10) (hh : h ≤ 16) : ∀ (d a n : Nat) (x : Me) (a2 : Int32) (o : Option (Nat × List Nat)), a + d = h → d < n → x 15 0 = nI h → HX K S h x → PX h r x a2 o → ∃ x1 a21, f_X5_pickEven_4 fu nw (nI r) k n x a2 (nI a) = k x1 a21 ∧ (∀ f, inL [18, 19] f = false → x1 f = x f) ∧ PX h r x1 a21 ((List.range' a d).foldl (fun o a => (List.range h).foldl (fun o c => up o (pe K S h r a c)) o) o)
  | 0, a, n + 1, x, a2, o, hc, _, e, hX, hP => by
    refine ⟨x, a2, ?_, fun _ _ => rfl, hP⟩
    rw [f_X5_pickEven_4_s, e, if_pos (nI_le (by omega) (by omega))]
  | d + 1, a, n + 1, x, a2, o, hc, hn, e, hX, hP => by
    obtain ⟨x1, a21, p1, p2, p3⟩ := p15 (fu := fu) (nw := nw) (k := fun (x_20 : Me) (a2_20 : Int32) => f_X5_pickEven_4 fu nw (nI r) k n x_20 a2_20 (nI a + 1)) hfu hr2 hr hh (show a < h by omega) h 0 fu x a2 o (by omega) (by omega) e hX hP
    rw [← List.range_eq_range'] at p3
    obtain ⟨x2, a22, q1, q2, q3⟩ := p4_sp (k := k) hfu hr2 hr hh d (a + 1) n x1 a21 _ (by omega) (by omega) (by rw [p2 15 rfl]; exact e) (HX_of hX (p2 16 rfl) (p2 17 rfl)) p3
    refine ⟨x2, a22, ?_, fun f hf => (q2 f hf).trans (p2 f hf), by rw [List.range'_succ, List.foldl_cons]; exact q3⟩
    rw [f_X5_pickEven_4_s, e, if_neg (nI_ge (by omega) (by omega)), show (0 : Int32) = nI 0 from rfl, p1, nI_1, q1]
  | 0, _, 0, _, _, _, _, h, _, _, _ => absurd h (by omega)
  | d + 1, _, 0, _, _, _, _, h, _, _, _ => absurd h (by omega)
end PUR21
