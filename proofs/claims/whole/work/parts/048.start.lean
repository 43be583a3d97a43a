/-- WHAT THE PURE SIDE OWES: every call keeps the relation and answers alike -/
def StepsP (Rel : Nat → Me → Me → Prop) (fu : Nat) : Prop := ∀ (nw : Nat) (x m : Me), Rel nw x m →
  (∀ a b c d e : Int32, S2 Rel nw (f_X10_feed fu nw x a b c d e) (f_X11_feed fu m a b c d e)) ∧
  (∀ a b : Int32, S2 Rel nw (f_X10_statute fu nw x a b) (f_X11_statute fu m a b)) ∧
  (∀ a : Int32, S2 Rel nw (f_X10_fault fu nw x a) (f_X11_fault fu m a)) ∧
  (∀ a b : Int32, S2 Rel nw (f_X10_law fu nw x a b) (f_X11_law fu m a b)) ∧
  SW Rel fu nw x m ∧
  (∀ a : Int32, S2 Rel nw (f_X10_horse fu nw x a) (f_X11_horse fu m a)) ∧
  (∀ a z : Int32, (z = 0 ∨ z = 1) → S2 Rel nw (f_X10_sound fu nw x a z) (f_X11_sound fu m a z)) ∧
  (∀ a : Int32, S2 Rel nw (f_X10_choose fu nw x a) (f_X11_choose fu m a)) ∧
  S2 Rel nw (f_X10_pick fu nw x) (f_X11_pick fu m) ∧
  (∀ a : Int32, S2 Rel nw (f_X10_lots fu nw x a) (f_X11_lots fu m a)) ∧
  (∀ a b : Int32, S2 Rel nw (f_X10_drawn fu nw x a b) (f_X11_drawn fu m a b)) ∧
  (∀ a b : Int32, S2 Rel nw (f_X10_look fu nw x a b) (f_X11_look fu m a b)) ∧
  (∀ a : Int32, S2 Rel nw (f_X10_ring fu nw x a) (f_X11_ring fu m a)) ∧
  (∀ a z : Int32, (z = 0 ∨ z = 1) → S2 Rel nw (f_X10_bend fu nw x a z) (f_X11_bend fu m a z)) ∧
  (∀ a b c : Int32, S2 Rel nw (f_X10_orders fu nw x a b c) (f_X11_orders fu m a b c)) ∧
  (∀ a b : Int32, S2 Rel nw (f_X10_seen fu nw x a b) (f_X11_seen fu m a b)) ∧
  (∀ a : Int32, S2 Rel nw (f_X10_drop fu nw x a) (f_X11_drop fu m a)) ∧
  (∀ a : Int32, S2 Rel nw (f_X10_go fu nw x a) (f_X11_go fu m a)) ∧
  (∀ a b : Int32, S2 Rel nw (f_X10_race fu nw x a b) (f_X11_race fu m a b)) ∧
  S2 Rel nw (f_X10_won fu nw x) (f_X11_won fu m) ∧
  (∀ a b c : Int32, S2 Rel nw (f_X10_pact fu nw x a b c) (f_X11_pact fu m a b c)) ∧
  (∀ a : Int32, S2 Rel nw (f_X10_punish fu nw x a) (f_X11_punish fu m a)) ∧
  S2 Rel nw (f_X10_next fu nw x) (f_X11_next fu m) ∧
  (∀ a : Int32, S2 Rel nw (f_X10_count fu nw x a) (f_X11_count fu m a))
set_option maxHeartbeats 4000000 in
set_option maxRecDepth 100000 in
theorem law_body {p : Program} {l : Launch} {e : Env} {s : State} {m : MethodId} {below : List Frame} {meth : Method} {c : Code} {b L : Nat} {xs : Nat → Int32} {fu : Nat} {Rel : Nat → Me → Me → Prop} (hSt : StepsP Rel fu) (C0 : lw_At p s m meth c b L xs) (hO : AOs s) {a3 : Int32} (h0 : vp_in a3 L) (h1 : vp_in (a3 + 1) L) (h2 : vp_in (a3 + 2) L) (h3 : vp_in (a3 + 3) L) (h4 : vp_in (a3 + 4) L) (h5 : vp_in (a3 + 5) L) {cells slots : Nat} (hcs : cells + 1 ≤ 600000 ∧ slots + 6 ≤ 7302250) (kk : LwK Rel p l e s m below meth c b a3 (cells + 1) (slots + 6) 848) : LwK Rel p l e s m below meth c b a3 cells slots 27 := by
  intro G nw x mm H locs ls hGA hE hR hM hS hl
  obtain ⟨s0, s1, s2, s3, s4, s5, s6, s7, s8, s9, s10, s11, s12, s13, s14, s15, s16, s17, s18, s19, s20, s21, s22, s23⟩ := hSt nw x mm hR
  obtain ⟨hx, hb, hr, hml, hown, hts, hX, hbl, hlocks, hgv⟩ := id C0
  have hbA : ¬ gA G b := by rw [hGA]; exact Nat.not_le.mpr hbl
  refine lv_aload_n hx hb dL_law_27 rfl (lv_at hl 0 rfl) ?_
  refine lv_iload_n hx hb dL_law_28 rfl (lv_at hl 3 rfl) ?_
  refine va_sld hx hb hX hbl hbA hS h0 dL_law_29 ?_
  refine lv_bipush (v := 31) hx hb dL_law_30 (by decide) ?_
  refine lv_iand hx hb dL_law_32 ?_
  by_cases hc0 : xs a3.toNatClampNeg &&& 31 = 0
  · refine lv_tabK (k := 0) (tgt := 144) hx hb dL_law_33 hc0 (by decide) (by decide) rfl (by decide) ?_
    exact law_c0 C0 hO h1 h2 h3 h4 h5 hcs (s0 (xs (a3 + 1).toNatClampNeg) (xs (a3 + 2).toNatClampNeg) (xs (a3 + 3).toNatClampNeg) (xs (a3 + 4).toNatClampNeg) (xs (a3 + 5).toNatClampNeg)) hGA hE hM hS hl kk
  by_cases hc1 : xs a3.toNatClampNeg &&& 31 = 1
  · refine lv_tabK (k := 1) (tgt := 207) hx hb dL_law_33 hc1 (by decide) (by decide) rfl (by decide) ?_
    exact law_c1 C0 hO h1 h2 hcs (s1 (xs (a3 + 1).toNatClampNeg) (xs (a3 + 2).toNatClampNeg)) hGA hE hM hS hl kk
  by_cases hc2 : xs a3.toNatClampNeg &&& 31 = 2
  · refine lv_tabK (k := 2) (tgt := 240) hx hb dL_law_33 hc2 (by decide) (by decide) rfl (by decide) ?_
    exact law_c2 C0 hO h1 hcs (s2 (xs (a3 + 1).toNatClampNeg)) hGA hE hM hS hl kk
  by_cases hc3 : xs a3.toNatClampNeg &&& 31 = 3
  · refine lv_tabK (k := 3) (tgt := 263) hx hb dL_law_33 hc3 (by decide) (by decide) rfl (by decide) ?_
    exact law_c3 C0 hO h1 h2 hcs (s3 (xs (a3 + 1).toNatClampNeg) (xs (a3 + 2).toNatClampNeg)) hGA hE hM hS hl kk
  by_cases hc4 : xs a3.toNatClampNeg &&& 31 = 4
  · refine lv_tabK (k := 4) (tgt := 296) hx hb dL_law_33 hc4 (by decide) (by decide) rfl (by decide) ?_
    exact law_c4 C0 hO hcs s4 hGA hE hM hS hl kk
  by_cases hc5 : xs a3.toNatClampNeg &&& 31 = 5
  · refine lv_tabK (k := 5) (tgt := 309) hx hb dL_law_33 hc5 (by decide) (by decide) rfl (by decide) ?_
    exact law_c5 C0 hO h1 hcs (s5 (xs (a3 + 1).toNatClampNeg)) hGA hE hM hS hl kk
  by_cases hc6 : xs a3.toNatClampNeg &&& 31 = 6
  · refine lv_tabK (k := 6) (tgt := 332) hx hb dL_law_33 hc6 (by decide) (by decide) rfl (by decide) ?_
    exact law_c6 C0 hO h1 h2 hcs (s6 (xs (a3 + 1).toNatClampNeg)) hGA hE hM hS hl kk
  by_cases hc7 : xs a3.toNatClampNeg &&& 31 = 7
  · refine lv_tabK (k := 7) (tgt := 381) hx hb dL_law_33 hc7 (by decide) (by decide) rfl (by decide) ?_
    exact law_c7 C0 hO h1 hcs (s7 (xs (a3 + 1).toNatClampNeg)) hGA hE hM hS hl kk
  by_cases hc8 : xs a3.toNatClampNeg &&& 31 = 8
  · refine lv_tabK (k := 8) (tgt := 404) hx hb dL_law_33 hc8 (by decide) (by decide) rfl (by decide) ?_
    exact law_c8 C0 hO hcs s8 hGA hE hM hS hl kk
  by_cases hc9 : xs a3.toNatClampNeg &&& 31 = 9
  · refine lv_tabK (k := 9) (tgt := 417) hx hb dL_law_33 hc9 (by decide) (by decide) rfl (by decide) ?_
    exact law_c9 C0 hO h1 hcs (s9 (xs (a3 + 1).toNatClampNeg)) hGA hE hM hS hl kk
  by_cases hc10 : xs a3.toNatClampNeg &&& 31 = 10
  · refine lv_tabK (k := 10) (tgt := 440) hx hb dL_law_33 hc10 (by decide) (by decide) rfl (by decide) ?_
    exact law_c10 C0 hO h1 h2 hcs (s10 (xs (a3 + 1).toNatClampNeg) (xs (a3 + 2).toNatClampNeg)) hGA hE hM hS hl kk
  by_cases hc11 : xs a3.toNatClampNeg &&& 31 = 11
  · refine lv_tabK (k := 11) (tgt := 473) hx hb dL_law_33 hc11 (by decide) (by decide) rfl (by decide) ?_
    exact law_c11 C0 hO h1 h2 hcs (s11 (xs (a3 + 1).toNatClampNeg) (xs (a3 + 2).toNatClampNeg)) hGA hE hM hS hl kk
  by_cases hc12 : xs a3.toNatClampNeg &&& 31 = 12
  · refine lv_tabK (k := 12) (tgt := 506) hx hb dL_law_33 hc12 (by decide) (by decide) rfl (by decide) ?_
    exact law_c12 C0 hO h1 hcs (s12 (xs (a3 + 1).toNatClampNeg)) hGA hE hM hS hl kk
  by_cases hc13 : xs a3.toNatClampNeg &&& 31 = 13
  · refine lv_tabK (k := 13) (tgt := 529) hx hb dL_law_33 hc13 (by decide) (by decide) rfl (by decide) ?_
    exact law_c13 C0 hO h1 h2 hcs (s13 (xs (a3 + 1).toNatClampNeg)) hGA hE hM hS hl kk
  by_cases hc14 : xs a3.toNatClampNeg &&& 31 = 14
  · refine lv_tabK (k := 14) (tgt := 578) hx hb dL_law_33 hc14 (by decide) (by decide) rfl (by decide) ?_
    exact law_c14 C0 hO h1 h2 h3 hcs (s14 (xs (a3 + 1).toNatClampNeg) (xs (a3 + 2).toNatClampNeg) (xs (a3 + 3).toNatClampNeg)) hGA hE hM hS hl kk
  by_cases hc15 : xs a3.toNatClampNeg &&& 31 = 15
  · refine lv_tabK (k := 15) (tgt := 621) hx hb dL_law_33 hc15 (by decide) (by decide) rfl (by decide) ?_
    exact law_c15 C0 hO h1 h2 hcs (s15 (xs (a3 + 1).toNatClampNeg) (xs (a3 + 2).toNatClampNeg)) hGA hE hM hS hl kk
  by_cases hc16 : xs a3.toNatClampNeg &&& 31 = 16
  · refine lv_tabK (k := 16) (tgt := 654) hx hb dL_law_33 hc16 (by decide) (by decide) rfl (by decide) ?_
    exact law_c16 C0 hO h1 hcs (s16 (xs (a3 + 1).toNatClampNeg)) hGA hE hM hS hl kk
  by_cases hc17 : xs a3.toNatClampNeg &&& 31 = 17
  · refine lv_tabK (k := 17) (tgt := 677) hx hb dL_law_33 hc17 (by decide) (by decide) rfl (by decide) ?_
    exact law_c17 C0 hO h1 hcs (s17 (xs (a3 + 1).toNatClampNeg)) hGA hE hM hS hl kk
  by_cases hc18 : xs a3.toNatClampNeg &&& 31 = 18
  · refine lv_tabK (k := 18) (tgt := 700) hx hb dL_law_33 hc18 (by decide) (by decide) rfl (by decide) ?_
    exact law_c18 C0 hO h1 h2 hcs (s18 (xs (a3 + 1).toNatClampNeg) (xs (a3 + 2).toNatClampNeg)) hGA hE hM hS hl kk
  by_cases hc19 : xs a3.toNatClampNeg &&& 31 = 19
  · refine lv_tabK (k := 19) (tgt := 733) hx hb dL_law_33 hc19 (by decide) (by decide) rfl (by decide) ?_
    exact law_c19 C0 hO hcs s19 hGA hE hM hS hl kk
  by_cases hc20 : xs a3.toNatClampNeg &&& 31 = 20
  · refine lv_tabK (k := 20) (tgt := 746) hx hb dL_law_33 hc20 (by decide) (by decide) rfl (by decide) ?_
    exact law_c20 C0 hO h1 h2 h3 hcs (s20 (xs (a3 + 1).toNatClampNeg) (xs (a3 + 2).toNatClampNeg) (xs (a3 + 3).toNatClampNeg)) hGA hE hM hS hl kk
  by_cases hc21 : xs a3.toNatClampNeg &&& 31 = 21
  · refine lv_tabK (k := 21) (tgt := 789) hx hb dL_law_33 hc21 (by decide) (by decide) rfl (by decide) ?_
    exact law_c21 C0 hO h1 hcs (s21 (xs (a3 + 1).toNatClampNeg)) hGA hE hM hS hl kk
  by_cases hc22 : xs a3.toNatClampNeg &&& 31 = 22
  · refine lv_tabK (k := 22) (tgt := 812) hx hb dL_law_33 hc22 (by decide) (by decide) rfl (by decide) ?_
    exact law_c22 C0 hO hcs s22 hGA hE hM hS hl kk
  by_cases hc23 : xs a3.toNatClampNeg &&& 31 = 23
  · refine lv_tabK (k := 23) (tgt := 825) hx hb dL_law_33 hc23 (by decide) (by decide) rfl (by decide) ?_
    exact law_c23 C0 hO h1 hcs (s23 (xs (a3 + 1).toNatClampNeg)) hGA hE hM hS hl kk
  refine lv_tableOut (tgt := 848) hx hb dL_law_33 (by have q0 := lv_neT (a := 0) hc0 rfl; have q1 := lv_neT (a := 1) hc1 rfl; have q2 := lv_neT (a := 2) hc2 rfl; have q3 := lv_neT (a := 3) hc3 rfl; have q4 := lv_neT (a := 4) hc4 rfl; have q5 := lv_neT (a := 5) hc5 rfl; have q6 := lv_neT (a := 6) hc6 rfl; have q7 := lv_neT (a := 7) hc7 rfl; have q8 := lv_neT (a := 8) hc8 rfl; have q9 := lv_neT (a := 9) hc9 rfl; have q10 := lv_neT (a := 10) hc10 rfl; have q11 := lv_neT (a := 11) hc11 rfl; have q12 := lv_neT (a := 12) hc12 rfl; have q13 := lv_neT (a := 13) hc13 rfl; have q14 := lv_neT (a := 14) hc14 rfl; have q15 := lv_neT (a := 15) hc15 rfl; have q16 := lv_neT (a := 16) hc16 rfl; have q17 := lv_neT (a := 17) hc17 rfl; have q18 := lv_neT (a := 18) hc18 rfl; have q19 := lv_neT (a := 19) hc19 rfl; have q20 := lv_neT (a := 20) hc20 rfl; have q21 := lv_neT (a := 21) hc21 rfl; have q22 := lv_neT (a := 22) hc22 rfl; have q23 := lv_neT (a := 23) hc23 rfl; omega) (by decide) ?_
  exact W.widen (k := cells + 1) (n := slots + 6) (by omega) (by omega) (kk G nw _ _ _ _ _ hGA hE hR hM hS hl)
theorem ix_in {i j L : Nat} {a3 k : Int32} (ea : a3 = nI i) (ek : k = nI j) (h : i + j < L) (hL : L ≤ 3072) : vp_in (a3 + k) L := by
  rw [ea, ek, nI_add]
  exact vp_in_nI h (by omega)
theorem lw_cmp {i L : Nat} (hL : L ≤ 3072) (hi : i ≤ 4000) : (nI L - 6 < nI i) ↔ L < i + 6 := by
  rw [Int32.lt_iff_toInt_lt, show (6 : Int32) = nI 6 from rfl, pk_sub_toInt (by omega) (by omega), nI_toInt (by omega)]
  omega
set_option maxHeartbeats 4000000 in
set_option maxRecDepth 100000 in
theorem law_loop {p : Program} {l : Launch} {e : Env} {s : State} {m : MethodId} {below : List Frame} {meth : Method} {c : Code} {b L : Nat} {xs : Nat → Int32} {fu : Nat} {Rel : Nat → Me → Me → Prop} (hSt : StepsP Rel fu) (hL : L ≤ 3072) (C0 : lw_At p s m meth c b L xs) (hO : AOs s) : ∀ (n i : Nat) (a3 : Int32) (cells slots : Nat), a3 = nI i → i ≤ L + 6 → L + 7 ≤ i + n → cells + (L + 12 - i) ≤ 600000 → slots + (L + 12 - i) ≤ 7302250 → LwK Rel p l e s m below meth c b a3 cells slots 18 := by
  intro n
  induction n with
  | zero =>
    intro i a3 cells slots e1 h1 h2
    exact absurd h2 (by omega)
  | succ n ih =>
    intro i a3 cells slots ea hi hn hc hsl
    intro G nw x mm H locs ls hGA hE hR hM hS hl
    obtain ⟨hx, hb, hr, hml, hown, hts, hX, hbl, hlocks, hgv⟩ := id C0
    have hbA : ¬ gA G b := by rw [hGA]; exact Nat.not_le.mpr hbl
    refine lv_iload_n hx hb dL_law_18 rfl (lv_at hl 3 rfl) ?_
    refine lv_aload_n hx hb dL_law_19 rfl (lv_at hl 0 rfl) ?_
    refine va_slen hx hb hX hbl hbA hS dL_law_20 ?_
    refine lv_bipush (v := 6) hx hb dL_law_21 (by decide) ?_
    refine lv_isub hx hb dL_law_23 ?_
    refine lv_icmp_gt (tgt := 854) hx hb dL_law_24 (by decide) (fun hcm => ?_) (fun hcm => ?_)
    · refine lv_iconst (v := 1) hx hb dL_law_854 (by decide) ?_
      refine va_forget (fun q hq => by have := hS.2.2 q hq; rw [hGA] at this; exact this) ?_
      refine W.widen (k := 600000) (n := 7302250) (by omega) (by omega) ?_
      exact lw_ret hx hb hr hlocks dL_law_855
    · have hlt : i + 6 ≤ L := by
        rcases Nat.lt_or_ge L (i + 6) with q | q
        · exact absurd (by rw [ea]; exact (lw_cmp hL (by omega)).mpr q) hcm
        · exact q
      refine law_body hSt C0 hO (by rw [ea]; exact vp_in_nI (by omega) (by omega)) (ix_in ea rfl (j := 1) (by omega) hL) (ix_in ea rfl (j := 2) (by omega) hL) (ix_in ea rfl (j := 3) (by omega) hL) (ix_in ea rfl (j := 4) (by omega) hL) (ix_in ea rfl (j := 5) (by omega) hL) ⟨by omega, by omega⟩ ?_ G nw x mm H locs ls hGA hE hR hM hS hl
      intro G nw x mm H locs ls hGA hE hR hM hS hl
      refine lv_iinc (v := a3 + 6) (lv' := [(3, .int (a3 + 6)), (0, .ref b), (1, .ref (ga G 0)), (2, .ref (ga G 41))]) hx hb dL_law_848 hl (k := 3) rfl rfl (by decide) rfl (fun ls hl => ?_)
      refine lv_goto (tgt := 18) hx hb dL_law_851 (by decide) ?_
      exact ih (i + 6) (a3 + 6) (cells + 1) (slots + 6) (by rw [ea, show (6 : Int32) = nI 6 from rfl, nI_add]) (by omega) (by omega) (by omega) (by omega) G nw x mm H locs ls hGA hE hR hM hS (lv_sub hl [1, 2, 3, 0] rfl)
set_option maxHeartbeats 4000000 in
set_option maxRecDepth 100000 in
/-- from the entry, over what the pure side owes -/
theorem whole_open {p : Program} {e : Env} {s : State} {m : MethodId} {below : List Frame} {meth : Method} {c : Code} (l : Launch) {b L : Nat} {xs : Nat → Int32} {Rel : Nat → Me → Me → Prop} {fu : Nat} (hSt : StepsP Rel fu) (hR0 : Rel 0 x0 m0) (hL : L ≤ 3072) (C0 : lw_At p s m meth c b L xs) : W p l e room_1 s m #[Value.ref b] below meth c s.heap [] 0 0 (lw_Z below #[Value.ref b] s) (entryFrame m ([Value.ref b] : List Value).toArray 4) := by
  obtain ⟨G, hGA, hE, hO⟩ := env_start C0
  obtain ⟨hx, hb, hr, hml, hown, hts, hX, hbl, hlocks, hgv⟩ := id C0
  have hS : va_S (gA G) s.heap s.heap [] := va_S.rf
  have hM : WoP G [] s.heap := ⟨fun k q h => by simp at h, ⟨fun i j p q h => by simp at h, fun k q h => by simp at h⟩⟩
  have hl := lv_entry ([.ref b]) (n := 4) (Nat.le_of_ble_eq_true rfl)
  rw [lg_entry_eq]
  generalize (lg_sl ([.ref b]) ++ List.replicate (4 - (lg_sl ([.ref b])).length) Slot.unset).toArray = ls at hl ⊢
  have hl : lv_has ls 4 [(0, .ref b)] := hl
  refine ct_new (ci := 10) tyX10 tyX10_ok dfX10 hx hb hown laX10 w_1_20 w_1_21 w_1_1 hE hM hS rfl (Nat.le_of_ble_eq_true rfl) (Nat.le_of_ble_eq_true rfl) dL_law_0 (fun q0 H hM hS => ?_)
  refine lv_dup hx hb dL_law_3 rfl ?_
  refine ct_callI hx hb hml hown hE hO hM hS (c_X10_init l G [] q0) w_1_22 w_1_23 w_1_1 w_1_24 rfl rfl rfl ⟨by decide, by decide, by decide +kernel⟩ ⟨Nat.le_of_ble_eq_true rfl, Nat.le_of_ble_eq_true rfl⟩ hl.1 (Nat.le_of_ble_eq_true rfl) dL_law_4 ⟨Nat.le_of_ble_eq_true rfl, Nat.le_of_ble_eq_true rfl⟩ (fun u H locs hM hS => ?_)
  refine lv_astore_n (lv' := [(1, .ref q0), (0, .ref b)]) hx hb dL_law_7 rfl hl (by decide) rfl (fun ls hl => ?_)
  refine ct_new (ci := 11) tyX11 tyX11_ok dfX11 hx hb hown laX11 w_4_94 w_4_95 w_1_11 hE hM hS rfl (Nat.le_of_ble_eq_true rfl) (Nat.le_of_ble_eq_true rfl) dL_law_8 (fun qm H hM hS => ?_)
  refine lv_dup hx hb dL_law_11 rfl ?_
  refine ct_callI hx hb hml hown hE hO hM hS (c_X11_init l G _ qm) w_4_96 w_4_97 w_1_11 w_4_98 rfl rfl rfl ⟨by decide, by decide, by decide +kernel⟩ ⟨Nat.le_of_ble_eq_true rfl, Nat.le_of_ble_eq_true rfl⟩ hl.1 (Nat.le_of_ble_eq_true rfl) dL_law_12 ⟨Nat.le_of_ble_eq_true rfl, Nat.le_of_ble_eq_true rfl⟩ (fun v H locs hM hS => ?_)
  refine lv_astore_n (lv' := [(2, .ref qm), (1, .ref q0), (0, .ref b)]) hx hb dL_law_15 rfl hl (by decide) rfl (fun ls hl => ?_)
  refine lv_iconst (v := 0) hx hb dL_law_16 (by decide) ?_
  refine lv_istore_n (lv' := [(3, .int 0), (2, .ref qm), (1, .ref q0), (0, .ref b)]) hx hb dL_law_17 rfl hl (by decide) rfl (fun ls hl => ?_)
  have hM := wo_start hM
  have hE' : EnvP (G0 G q0 u qm v) s := hE
  have hl' : lv_has ls 4 [(0, .ref b), (1, .ref (ga (G0 G q0 u qm v) 0)), (2, .ref (ga (G0 G q0 u qm v) 41)), (3, .int 0)] := lv_sub hl [3, 2, 1, 0] rfl
  refine W.widen (k := 1000) (n := 100000) (Nat.le_of_ble_eq_true rfl) (Nat.le_of_ble_eq_true rfl) ?_
  exact law_loop hSt hL C0 hO (L + 7) 0 0 1000 100000 nI_0.symm (by omega) (by omega) (by omega) (by omega) (G0 G q0 u qm v) 0 x0 m0 _ _ _ hGA hE' hR0 hM hS hl'
