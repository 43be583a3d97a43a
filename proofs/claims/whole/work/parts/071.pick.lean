/-! the most even set, and the first of them by numbers -/
def lx : List Nat → List Nat → Bool
  | a :: l, c :: l' => decide (a < c) || (decide (a = c) && lx l l')
  | [], _ :: _ => true
  | _, [] => false
theorem lx_c {a c : Nat} {l l' : List Nat} : lx (a :: l) (c :: l') = true ↔ a < c ∨ (a = c ∧ lx l l' = true) := by
  show (decide (a < c) || (decide (a = c) && lx l l')) = true ↔ _
  rw [Bool.or_eq_true, Bool.and_eq_true, decide_eq_true_eq, decide_eq_true_eq]
theorem lx_tr : ∀ {a b c : List Nat}, lx a b = true → lx b c = true → lx a c = true
  | [], [], _, h, _ => by cases h
  | [], _ :: _, [], _, h => by cases h
  | [], _ :: _, _ :: _, _, _ => rfl
  | _ :: _, [], _, h, _ => by cases h
  | _ :: _, _ :: _, [], _, h => by cases h
  | a :: l, b :: l', c :: l'', h1, h2 => by
    rw [lx_c] at h1 h2 ⊢
    rcases h1 with h1 | ⟨h1, h3⟩
    · rcases h2 with h2 | ⟨h2, _⟩
      · exact Or.inl (by omega)
      · exact Or.inl (by omega)
    · rcases h2 with h2 | ⟨h2, h4⟩
      · exact Or.inl (by omega)
      · exact Or.inr ⟨by omega, lx_tr h3 h4⟩
theorem lx_to : ∀ {a b : List Nat}, lx a b = false → lx b a = false → a = b
  | [], [], _, _ => rfl
  | [], _ :: _, h, _ => by cases h
  | _ :: _, [], _, h => by cases h
  | a :: l, b :: l', h1, h2 => by
    have e1 : ¬ (a < b ∨ (a = b ∧ lx l l' = true)) := fun c => by rw [lx_c.mpr c] at h1; cases h1
    have e2 : ¬ (b < a ∨ (b = a ∧ lx l' l = true)) := fun c => by rw [lx_c.mpr c] at h2; cases h2
    have e3 : a = b := by omega
    have e4 : lx l l' = false := by
      cases q : lx l l' with
      | true => exact absurd (Or.inr ⟨e3, q⟩) e1
      | false => rfl
    have e5 : lx l' l = false := by
      cases q : lx l' l with
      | true => exact absurd (Or.inr ⟨e3.symm, q⟩) e2
      | false => rfl
    rw [e3, lx_to e4 e5]
theorem lx_ir : ∀ a : List Nat, lx a a = false
  | [] => rfl
  | a :: l => by
    cases q : lx (a :: l) (a :: l) with
    | true =>
      rcases lx_c.mp q with c | ⟨_, c⟩
      · exact absurd c (by omega)
      · rw [lx_ir l] at c; cases c
    | false => rfl
def bt (a b : Nat × List Nat) : Bool := decide (a.1 < b.1) || (decide (a.1 = b.1) && lx a.2 b.2)
theorem bt_c {a b : Nat × List Nat} : bt a b = true ↔ a.1 < b.1 ∨ (a.1 = b.1 ∧ lx a.2 b.2 = true) := by
  unfold bt
  rw [Bool.or_eq_true, Bool.and_eq_true, decide_eq_true_eq, decide_eq_true_eq]
theorem bt_f {a b : Nat × List Nat} : bt a b = false ↔ ¬ (a.1 < b.1 ∨ (a.1 = b.1 ∧ lx a.2 b.2 = true)) := by
  rw [← bt_c]
  cases bt a b <;> simp
theorem bt_tr {a b c : Nat × List Nat} (h1 : bt a b = true) (h2 : bt b c = true) : bt a c = true := by
  rw [bt_c] at h1 h2 ⊢
  rcases h1 with h1 | ⟨h1, h3⟩
  · rcases h2 with h2 | ⟨h2, _⟩
    · exact Or.inl (by omega)
    · exact Or.inl (by omega)
  · rcases h2 with h2 | ⟨h2, h4⟩
    · exact Or.inl (by omega)
    · exact Or.inr ⟨by omega, lx_tr h3 h4⟩
theorem bt_nt {a b c : Nat × List Nat} (h1 : bt a b = false) (h2 : bt b c = false) : bt a c = false := by
  cases z : bt a c with
  | false => rfl
  | true =>
    rw [bt_f] at h1 h2
    rw [bt_c] at z
    exfalso
    rcases z with z | ⟨z1, z2⟩
    · by_cases q : a.1 < b.1
      · exact h1 (Or.inl q)
      · exact h2 (Or.inl (by omega))
    · by_cases q1 : a.1 < b.1
      · exact h1 (Or.inl q1)
      · by_cases q2 : b.1 < c.1
        · exact h2 (Or.inl q2)
        · have e1 : lx a.2 b.2 = false := by
            cases q : lx a.2 b.2 with
            | true => exact absurd (Or.inr ⟨by omega, q⟩) h1
            | false => rfl
          have e2 : lx b.2 c.2 = false := by
            cases q : lx b.2 c.2 with
            | true => exact absurd (Or.inr ⟨by omega, q⟩) h2
            | false => rfl
          cases q : lx b.2 a.2 with
          | true => rw [lx_tr q z2] at e2; cases e2
          | false => rw [lx_to e1 q, e2] at z2; cases z2
def up : Option (Nat × List Nat) → Option (Nat × List Nat) → Option (Nat × List Nat)
  | o, none => o
  | none, some e => some e
  | some o, some e => cond (bt e o) (some e) (some o)
/-- what a run over entries leaves: one of them, and none is better -/
theorem up_min : ∀ (l : List (Option (Nat × List Nat))) (o : Option (Nat × List Nat)), (l.foldl up o = none → o = none ∧ ∀ e, some e ∉ l) ∧ ∀ a, l.foldl up o = some a → (o = some a ∨ some a ∈ l) ∧ ∀ e, (o = some e ∨ some e ∈ l) → bt e a = false
  | [], o => by
    refine ⟨fun h => ⟨h, fun e h => by cases h⟩, fun a h => ⟨Or.inl h, fun e he => ?_⟩⟩
    rcases he with he | he
    · have : e = a := Option.some.inj (he.symm.trans h)
      rw [this]
      exact bt_f.mpr (fun c => by
        rcases c with c | ⟨_, c⟩
        · omega
        · rw [lx_ir] at c; cases c)
    · cases he
  | none :: l, o => by
    have ih := up_min l o
    refine ⟨fun h => ?_, fun a h => ?_⟩
    · obtain ⟨h1, h2⟩ := ih.1 (by cases o <;> exact h)
      exact ⟨h1, fun e he => by
        rcases List.mem_cons.mp he with c | c
        · cases c
        · exact h2 e c⟩
    · obtain ⟨h1, h2⟩ := ih.2 a (by cases o <;> exact h)
      refine ⟨h1.imp id (List.mem_cons_of_mem _), fun e he => h2 e (he.imp id (fun c => ?_))⟩
      rcases List.mem_cons.mp c with c | c
      · cases c
      · exact c
  | some f :: l, none => by
    have ih := up_min l (some f)
    refine ⟨fun h => absurd (ih.1 h).1 (by simp), fun a h => ?_⟩
    obtain ⟨h1, h2⟩ := ih.2 a h
    refine ⟨Or.inr (h1.elim (fun c => by rw [c]; exact List.mem_cons_self) (List.mem_cons_of_mem _)), fun e he => ?_⟩
    rcases he with he | he
    · cases he
    · rcases List.mem_cons.mp he with c | c
      · exact h2 e (Or.inl c.symm)
      · exact h2 e (Or.inr c)
  | some f :: l, some o => by
    cases q : bt f o with
    | true =>
      have ih := up_min l (some f)
      have e : (some f :: l).foldl up (some o) = l.foldl up (some f) := by
        show l.foldl up (cond (bt f o) (some f) (some o)) = _
        rw [q]; rfl
      rw [e]
      refine ⟨fun h => absurd (ih.1 h).1 (by simp), fun a h => ?_⟩
      obtain ⟨h1, h2⟩ := ih.2 a h
      refine ⟨Or.inr (h1.elim (fun c => by rw [c]; exact List.mem_cons_self) (List.mem_cons_of_mem _)), fun e he => ?_⟩
      rcases he with he | he
      · have : o = e := Option.some.inj he
        subst this
        cases z : bt o a with
        | true =>
          have := bt_tr q z
          rw [h2 f (Or.inl rfl)] at this; cases this
        | false => rfl
      · rcases List.mem_cons.mp he with c | c
        · exact h2 e (Or.inl c.symm)
        · exact h2 e (Or.inr c)
    | false =>
      have ih := up_min l (some o)
      have e : (some f :: l).foldl up (some o) = l.foldl up (some o) := by
        show l.foldl up (cond (bt f o) (some f) (some o)) = _
        rw [q]; rfl
      rw [e]
      refine ⟨fun h => absurd (ih.1 h).1 (by simp), fun a h => ?_⟩
      obtain ⟨h1, h2⟩ := ih.2 a h
      refine ⟨h1.imp id (List.mem_cons_of_mem _), fun e he => ?_⟩
      rcases he with he | he
      · exact h2 e (Or.inl he)
      · rcases List.mem_cons.mp he with c | c
        · have : e = f := Option.some.inj c
          subst this
          exact bt_nt q (h2 o (Or.inl rfl))
        · exact h2 e (Or.inr c)
section PUR20
variable {K : Nat → Nat} {S : Nat → Bool} {h r : Nat}
def mnF (K : Nat → Nat) (L : List Nat) (a : Nat) : Nat := L.foldl (fun a w => if K w < a then K w else a) a
def mxF (K : Nat → Nat) (L : List Nat) (a : Nat) : Nat := L.foldl (fun a w => if a < K w + 1 then K w + 1 else a) a
theorem mnF_p (K : Nat → Nat) : ∀ (L : List Nat) (a : Nat), mnF K L a ≤ a ∧ (∀ w, w ∈ L → mnF K L a ≤ K w) ∧ (mnF K L a = a ∨ ∃ w, w ∈ L ∧ mnF K L a = K w)
  | [], a => ⟨Nat.le_refl _, fun w hw => (by cases hw), Or.inl rfl⟩
  | v :: L, a => by
    have ih := mnF_p K L (if K v < a then K v else a)
    have e : mnF K (v :: L) a = mnF K L (if K v < a then K v else a) := rfl
    rw [e]
    obtain ⟨h1, h2, h3⟩ := ih
    have h0 : (if K v < a then K v else a) ≤ a ∧ (if K v < a then K v else a) ≤ K v := by split <;> omega
    refine ⟨by omega, fun w hw => ?_, ?_⟩
    · rcases List.mem_cons.mp hw with c | c
      · rw [c]; omega
      · exact h2 w c
    · rcases h3 with c | ⟨w, w1, w2⟩
      · rw [c]
        split
        · exact Or.inr ⟨v, List.mem_cons_self, rfl⟩
        · exact Or.inl rfl
      · exact Or.inr ⟨w, List.mem_cons_of_mem _ w1, w2⟩
theorem mxF_p (K : Nat → Nat) : ∀ (L : List Nat) (a : Nat), a ≤ mxF K L a ∧ (∀ w, w ∈ L → K w + 1 ≤ mxF K L a) ∧ (mxF K L a = a ∨ ∃ w, w ∈ L ∧ mxF K L a = K w + 1)
  | [], a => ⟨Nat.le_refl _, fun w hw => (by cases hw), Or.inl rfl⟩
  | v :: L, a => by
    have ih := mxF_p K L (if a < K v + 1 then K v + 1 else a)
    have e : mxF K (v :: L) a = mxF K L (if a < K v + 1 then K v + 1 else a) := rfl
    rw [e]
    obtain ⟨h1, h2, h3⟩ := ih
    have h0 : a ≤ (if a < K v + 1 then K v + 1 else a) ∧ K v + 1 ≤ (if a < K v + 1 then K v + 1 else a) := by split <;> omega
    refine ⟨by omega, fun w hw => ?_, ?_⟩
    · rcases List.mem_cons.mp hw with c | c
      · rw [c]; omega
      · exact h2 w c
    · rcases h3 with c | ⟨w, w1, w2⟩
      · rw [c]
        split
        · exact Or.inr ⟨v, List.mem_cons_self, rfl⟩
        · exact Or.inl rfl
      · exact Or.inr ⟨w, List.mem_cons_of_mem _ w1, w2⟩
def spL (K : Nat → Nat) (L : List Nat) : Nat := mxF K L 0 - 1 - mnF K L 1000
/-- the horses of a span -/
def inS (K : Nat → Nat) (S : Nat → Bool) (lo hi i : Nat) : Bool := S i && (decide (lo ≤ K i) && decide (K i ≤ hi))
def spn (K : Nat → Nat) (S : Nat → Bool) (h r lo hi : Nat) : List Nat := ((List.range h).filter (inS K S lo hi)).take r
def pe (K : Nat → Nat) (S : Nat → Bool) (h r a c : Nat) : Option (Nat × List Nat) := if (S a = true ∧ S c = true ∧ K a ≤ K c) ∧ (spn K S h r (K a) (K c)).length = r then some (K c - K a, spn K S h r (K a) (K c)) else none
def stL (h s : Nat) : List Nat := (List.range h).filter (fun i => s.testBit i)
def se (K : Nat → Nat) (S : Nat → Bool) (h r s : Nat) : Option (Nat × List Nat) := if (∀ w, w ∈ stL h s → S w = true) ∧ (stL h s).length = r then some (spL K (stL h s), stL h s) else none
theorem inS_c {lo hi i : Nat} : inS K S lo hi i = true ↔ S i = true ∧ lo ≤ K i ∧ K i ≤ hi := by
  unfold inS
  rw [Bool.and_eq_true, Bool.and_eq_true, decide_eq_true_eq, decide_eq_true_eq]
theorem msk : ∀ (h : Nat) (L : List Nat), L.Sublist (List.range h) → ∃ s, s < 2 ^ h ∧ stL h s = L
  | 0, L, hL => ⟨0, by decide, by
    have : L = [] := List.eq_nil_of_length_eq_zero (by have := hL.length_le; rw [List.length_range] at this; omega)
    rw [this]; rfl⟩
  | h + 1, L, hL => by
    rw [List.range_succ] at hL
    obtain ⟨L1, L2, e, h1, h2⟩ := List.sublist_append_iff.mp hL
    obtain ⟨s, s1, s2⟩ := msk h L1 h1
    have hsh : s.testBit h = false := Nat.testBit_lt_two_pow s1
    have hL2 : L2 = [] ∨ L2 = [h] := by
      cases L2 with
      | nil => exact Or.inl rfl
      | cons a l =>
        have h4 := h2.length_le
        rw [List.length_cons] at h4
        have hl : l = [] := List.eq_nil_of_length_eq_zero (by have : [h].length = 1 := rfl; omega)
        have ha : a ∈ [h] := h2.subset List.mem_cons_self
        rw [hl, List.mem_singleton.mp ha]; exact Or.inr rfl
    have hex : ∀ t, stL (h + 1) t = stL h t ++ (if t.testBit h = true then [h] else []) := fun t => by
      unfold stL
      rw [List.range_succ, List.filter_append]
      congr 1
      cases q : t.testBit h with
      | true => rw [if_pos rfl, List.filter_cons_of_pos q]; rfl
      | false => rw [if_neg (by decide), List.filter_cons_of_neg (by rw [q]; decide)]; rfl
    rcases hL2 with q | q
    · refine ⟨s, Nat.lt_of_lt_of_le s1 (Nat.pow_le_pow_right (by decide) (by omega)), ?_⟩
      rw [hex, hsh, if_neg (by decide), s2, e, q]
    · refine ⟨s ||| 2 ^ h, Nat.or_lt_two_pow (Nat.lt_of_lt_of_le s1 (Nat.pow_le_pow_right (by decide) (by omega))) (Nat.pow_lt_pow_right (by decide) (by omega)), ?_⟩
      have e1 : stL h (s ||| 2 ^ h) = stL h s := List.filter_congr (fun i hi => by
        have := List.mem_range.mp hi
        rw [ft_tb]
        simp [show ¬ h = i by omega])
      rw [hex, e1, s2, if_pos (by rw [ft_tb]; simp), e, q]
theorem tk_lx : ∀ {L F : List Nat}, L.Sublist F → F.Pairwise (· < ·) → lx L (F.take L.length) = false
  | [], F, _, _ => by
    rw [show ([] : List Nat).length = 0 from rfl, List.take_zero]; rfl
  | l :: L, [], hs, _ => by cases hs
  | l :: L, a :: F, hs, hp => by
    rw [List.pairwise_cons] at hp
    rw [List.length_cons, List.take_succ_cons]
    cases q : lx (l :: L) (a :: F.take L.length) with
    | false => rfl
    | true =>
      rw [lx_c] at q
      cases hs with
      | cons _ hs =>
        have := hp.1 l (hs.subset List.mem_cons_self)
        rcases q with q | ⟨q, _⟩ <;> exact absurd q (by omega)
      | cons_cons _ hs =>
        rcases q with q | ⟨_, q⟩
        · exact absurd q (by omega)
        · rw [tk_lx hs hp.2] at q; cases q
theorem pe_se {a c d : Nat} {L : List Nat} (hr : 2 ≤ r) (hK : ∀ i, i < h → K i ≤ 999) (hc : c < h) (he : pe K S h r a c = some (d, L)) : ∃ s d', s < 2 ^ h ∧ d' ≤ d ∧ se K S h r s = some (d', L) := by
  unfold pe at he
  by_cases q : (S a = true ∧ S c = true ∧ K a ≤ K c) ∧ (spn K S h r (K a) (K c)).length = r
  · rw [if_pos q] at he
    have he' := Option.some.inj he
    have hd : K c - K a = d := (Prod.mk.inj he').1
    have hL : spn K S h r (K a) (K c) = L := (Prod.mk.inj he').2
    have hsub : L.Sublist ((List.range h).filter (inS K S (K a) (K c))) := by rw [← hL]; exact List.take_sublist _ _
    obtain ⟨s, s1, s2⟩ := msk h L (hsub.trans List.filter_sublist)
    have hin : ∀ w, w ∈ L → S w = true ∧ K a ≤ K w ∧ K w ≤ K c := fun w hw => inS_c.mp (List.mem_filter.mp (hsub.subset hw)).2
    have hlen : L.length = r := by rw [← hL]; exact q.2
    refine ⟨s, spL K L, s1, ?_, ?_⟩
    · unfold spL
      obtain ⟨m1, m2, m3⟩ := mnF_p K L 1000
      obtain ⟨n1, n2, n3⟩ := mxF_p K L 0
      obtain ⟨w0, hw0⟩ : ∃ w, w ∈ L := by
        cases L with
        | nil => exact absurd hlen (by show ¬ 0 = r; omega)
        | cons w _ => exact ⟨w, List.mem_cons_self⟩
      have hKc := hK c hc
      have h1 : mxF K L 0 ≤ K c + 1 := by
        rcases n3 with z | ⟨w, w1, w2⟩
        · rw [z]; omega
        · have := (hin w w1).2.2; omega
      have h2 : K a ≤ mnF K L 1000 := by
        rcases m3 with z | ⟨w, w1, w2⟩
        · have := q.1.2.2; omega
        · have := (hin w w1).2.1; omega
      omega
    · unfold se
      rw [s2, if_pos ⟨fun w hw => (hin w hw).1, hlen⟩]
  · rw [if_neg q] at he; cases he
theorem se_pe {s d : Nat} {L : List Nat} (hr : 2 ≤ r) (hK : ∀ i, i < h → K i ≤ 999) (he : se K S h r s = some (d, L)) : ∃ a c L', a < h ∧ c < h ∧ pe K S h r a c = some (d, L') ∧ lx L L' = false := by
  unfold se at he
  by_cases q : (∀ w, w ∈ stL h s → S w = true) ∧ (stL h s).length = r
  · rw [if_pos q] at he
    have he' := Option.some.inj he
    have hd : spL K (stL h s) = d := (Prod.mk.inj he').1
    have hL : stL h s = L := (Prod.mk.inj he').2
    rw [hL] at q hd
    have hLr : L.Sublist (List.range h) := by rw [← hL]; exact List.filter_sublist
    have hmem : ∀ w, w ∈ L → w < h := fun w hw => List.mem_range.mp (hLr.subset hw)
    obtain ⟨m1, m2, m3⟩ := mnF_p K L 1000
    obtain ⟨n1, n2, n3⟩ := mxF_p K L 0
    obtain ⟨w0, hw0⟩ : ∃ w, w ∈ L := by
      cases L with
      | nil => exact absurd q.2 (by show ¬ 0 = r; omega)
      | cons w _ => exact ⟨w, List.mem_cons_self⟩
    obtain ⟨a, a1, a2⟩ : ∃ w, w ∈ L ∧ mnF K L 1000 = K w := m3.resolve_left (fun z => by
      have := m2 w0 hw0
      have := hK w0 (hmem w0 hw0)
      omega)
    obtain ⟨c, c1, c2⟩ : ∃ w, w ∈ L ∧ mxF K L 0 = K w + 1 := n3.resolve_left (fun z => by
      have := n2 w0 hw0
      omega)
    have hsp : ∀ w, w ∈ L → inS K S (K a) (K c) w = true := fun w hw => inS_c.mpr ⟨q.1 w hw, by have := m2 w hw; omega, by have := n2 w hw; omega⟩
    have hsub : L.Sublist ((List.range h).filter (inS K S (K a) (K c))) := by
      have := hLr.filter (inS K S (K a) (K c))
      rw [List.filter_eq_self.mpr hsp] at this
      exact this
    refine ⟨a, c, spn K S h r (K a) (K c), hmem a a1, hmem c c1, ?_, ?_⟩
    · unfold pe
      rw [if_pos ⟨⟨q.1 a a1, q.1 c c1, by have := n2 a a1; omega⟩, by
        unfold spn
        rw [List.length_take]
        have := hsub.length_le
        omega⟩, ← hd]
      unfold spL
      rw [a2, c2, show K c + 1 - 1 = K c by omega]
    · unfold spn
      rw [← q.2]
      exact tk_lx hsub (List.Pairwise.filter _ List.pairwise_lt_range)
  · rw [if_neg q] at he; cases he
/-- both ways of picking leave the same -/
theorem pk_same (hr : 2 ≤ r) (hK : ∀ i, i < h → K i ≤ 999) : ((List.range h).flatMap (fun a => (List.range h).map (pe K S h r a))).foldl up none = ((List.range (2 ^ h)).map (se K S h r)).foldl up none := by
  obtain ⟨A1, A2⟩ := up_min ((List.range h).flatMap (fun a => (List.range h).map (pe K S h r a))) none
  obtain ⟨B1, B2⟩ := up_min ((List.range (2 ^ h)).map (se K S h r)) none
  have memA : ∀ e, some e ∈ (List.range h).flatMap (fun a => (List.range h).map (pe K S h r a)) ↔ ∃ a c, a < h ∧ c < h ∧ pe K S h r a c = some e := fun e => by
    rw [List.mem_flatMap]
    constructor
    · rintro ⟨a, a1, a2⟩
      obtain ⟨c, c1, c2⟩ := List.mem_map.mp a2
      exact ⟨a, c, List.mem_range.mp a1, List.mem_range.mp c1, c2⟩
    · rintro ⟨a, c, a1, c1, c2⟩
      exact ⟨a, List.mem_range.mpr a1, List.mem_map.mpr ⟨c, List.mem_range.mpr c1, c2⟩⟩
  have memB : ∀ e, some e ∈ (List.range (2 ^ h)).map (se K S h r) ↔ ∃ s, s < 2 ^ h ∧ se K S h r s = some e := fun e => by
    rw [List.mem_map]
    constructor
    · rintro ⟨s, s1, s2⟩
      exact ⟨s, List.mem_range.mp s1, s2⟩
    · rintro ⟨s, s1, s2⟩
      exact ⟨s, List.mem_range.mpr s1, s2⟩
  generalize ((List.range h).flatMap (fun a => (List.range h).map (pe K S h r a))).foldl up none = oa at A1 A2
  generalize ((List.range (2 ^ h)).map (se K S h r)).foldl up none = ob' at B1 B2
  cases oa with
  | none =>
    cases ob' with
    | none => rfl
    | some e =>
      obtain ⟨h1, _⟩ := B2 e rfl
      obtain ⟨s, s1, s2⟩ := (memB e).mp (h1.resolve_left (by simp))
      obtain ⟨a, c, L', a1, c1, p1, _⟩ := se_pe hr hK (d := e.1) (L := e.2) s2
      exact absurd ((memA _).mpr ⟨a, c, a1, c1, p1⟩) ((A1 rfl).2 _)
  | some f =>
    obtain ⟨h1, h2⟩ := A2 f rfl
    obtain ⟨a, c, a1, c1, p1⟩ := (memA f).mp (h1.resolve_left (by simp))
    obtain ⟨s, d', s1, hd, p2⟩ := pe_se hr hK (d := f.1) (L := f.2) c1 p1
    cases ob' with
    | none => exact absurd ((memB _).mpr ⟨s, s1, p2⟩) ((B1 rfl).2 _)
    | some e =>
      obtain ⟨g1, g2⟩ := B2 e rfl
      obtain ⟨s', s1', s2'⟩ := (memB e).mp (g1.resolve_left (by simp))
      obtain ⟨a', c', L', a1', c1', p1', hlx⟩ := se_pe hr hK (d := e.1) (L := e.2) s2'
      have k1 := h2 (e.1, L') (Or.inr ((memA _).mpr ⟨a', c', a1', c1', p1'⟩))
      have k2 := g2 (d', f.2) (Or.inr ((memB _).mpr ⟨s, s1, p2⟩))
      rw [bt_f] at k1 k2
      have e1 : ¬ e.1 < f.1 := fun z => k1 (Or.inl z)
      have e2 : ¬ d' < e.1 := fun z => k2 (Or.inl z)
      have e3 : e.1 = f.1 := by omega
      have e4 : d' = e.1 := by omega
      have q1 : lx L' f.2 = false := by
        cases q : lx L' f.2 with
        | true => exact absurd (Or.inr ⟨e3, q⟩) k1
        | false => rfl
      have q2 : lx f.2 e.2 = false := by
        cases q : lx f.2 e.2 with
        | true => exact absurd (Or.inr ⟨e4, q⟩) k2
        | false => rfl
      have q3 : lx e.2 f.2 = false := by
        cases q : lx e.2 f.2 with
        | false => rfl
        | true =>
          cases z : lx L' e.2 with
          | true => rw [lx_tr z q] at q1; cases q1
          | false =>
            have := lx_to hlx z
            rw [← this, q] at q1; cases q1
      have e5 : e.2 = f.2 := lx_to q3 q2
      rw [show f = e from Prod.ext e3.symm e5.symm]
end PUR20
