def tmS : Nat → Term := fun i => match i with
  | 7 => .string "RopeRaceModel" 137
  | i => .string "RopeRace$Tape" (92 + 2 * i)
theorem fl_ex : ∀ i, i < 8 → Cond.exactly (tmS i) "java/lang/String" ∈ flatC (Jvm.Cond.and given_1 narrow_1) := by decide +kernel
theorem fl_co : ∀ i, i < 8 → Cond.eq (.field (tmS i) "java/lang/String" "coder" "B") (.int 0) ∈ flatC (Jvm.Cond.and given_1 narrow_1) := by decide +kernel
theorem fl_ar : ∀ i, i < 8 → Cond.arrayOf (.field (tmS i) "java/lang/String" "value" "[B") .byte ∈ flatC (Jvm.Cond.and given_1 narrow_1) := by decide +kernel
theorem fl_le : ∀ i, i < 8 → Cond.eq (.length (.field (tmS i) "java/lang/String" "value" "[B")) (.int (Int32.ofNat (lenS.getD i 0))) ∈ flatC (Jvm.Cond.and given_1 narrow_1) := by decide +kernel
theorem fl_el : ∀ i, i < 8 → ∀ j, j < lenS.getD i 0 → Cond.eq (.elem (.field (tmS i) "java/lang/String" "value" "[B") (.int (Int32.ofNat j))) (.int ((bytS.getD i []).getD j 0)) ∈ flatC (Jvm.Cond.and given_1 narrow_1) := by decide +kernel
theorem fl_ne : ∀ i, i < 8 → ∀ j, j < 8 → i ≠ j → (Cond.not (Cond.eq (tmS i) (tmS j)) ∈ flatC (Jvm.Cond.and given_1 narrow_1) ∨ Cond.not (Cond.eq (tmS j) (tmS i)) ∈ flatC (Jvm.Cond.and given_1 narrow_1)) := by decide +kernel
theorem fl_sa : ∀ i, i < 3 → Cond.arrayOf (.static "RopeRace" (nS i) "[I") .int ∈ flatC (Jvm.Cond.and given_1 narrow_1) := by decide +kernel
theorem fl_sl : ∀ i, i < 3 → Cond.eq (.length (.static "RopeRace" (nS i) "[I")) (.int (Int32.ofNat 7)) ∈ flatC (Jvm.Cond.and given_1 narrow_1) := by decide +kernel
theorem fl_se : ∀ i, i < 3 → ∀ j, j < 7 → Cond.eq (.elem (.static "RopeRace" (nS i) "[I") (.int (Int32.ofNat j))) (.int ((tS i).getD j 0)) ∈ flatC (Jvm.Cond.and given_1 narrow_1) := by decide +kernel
theorem w_ls : ∀ i, i < 3 → Cond.laysStatic "RopeRace" (nS i) "[I" ∈ lw_tbl
  | 0, _ => tm2 (List.mem_of_getElem? (i := 187) rfl)
  | 1, _ => tm2 (List.mem_of_getElem? (i := 189) rfl)
  | 2, _ => tm2 (List.mem_of_getElem? (i := 214) rfl)
  | n + 3, h => absurd h (by omega)
theorem w_sr : ∀ i, i < 7 → Cond.stringRef "RopeRace$Tape" (92 + 2 * i) (txS.getD i "") ∈ lw_tbl
  | 0, _ => tm2 (List.mem_of_getElem? (i := 116) rfl)
  | 1, _ => tm2 (List.mem_of_getElem? (i := 117) rfl)
  | 2, _ => tm2 (List.mem_of_getElem? (i := 118) rfl)
  | 3, _ => tm2 (List.mem_of_getElem? (i := 119) rfl)
  | 4, _ => tm2 (List.mem_of_getElem? (i := 120) rfl)
  | 5, _ => tm2 (List.mem_of_getElem? (i := 121) rfl)
  | 6, _ => tm2 (List.mem_of_getElem? (i := 122) rfl)
  | n + 7, h => absurd h (by omega)
set_option maxHeartbeats 4000000 in
set_option maxRecDepth 100000 in
theorem env_start {p : Program} {s : State} {m : MethodId} {meth : Method} {c : Code} {b L : Nat} {xs : Nat → Int32} (C0 : lw_At p s m meth c b L xs) : ∃ G : GG, gA G = (fun q : Nat => s.heap.size ≤ q) ∧ EnvP G s ∧ AOs s := by
  obtain ⟨hx, hb, hr, hml, hown, hts, hX, hbl, hlocks, hgv⟩ := C0
  have hs := flat_of_before _ hgv
  have hA : ∀ a : Nat, a < s.heap.size → ¬ (fun q : Nat => s.heap.size ≤ q) a := fun a h => Nat.not_le.mpr h
  obtain ⟨c0, i0, k0⟩ := u_known (C := RX0) (T := TX0) (N := 1) (n := 1) hts (fun w h => (laX0 w h).1) (hts (.instantiable RX0 1) w_1_157)
  obtain ⟨c1, i1, k1⟩ := u_known (C := RX1) (T := TX1) (N := 4) (n := 4) hts (fun w h => (laX1 w h).1) (hts (.instantiable RX1 4) w_2_20)
  obtain ⟨c2, i2, k2⟩ := u_known (C := RX2) (T := TX2) (N := 14) (n := 14) hts (fun w h => (laX2 w h).1) (hts (.instantiable RX2 14) w_1_149)
  obtain ⟨c3, i3, k3⟩ := u_known (C := RX3) (T := TX3) (N := 5) (n := 5) hts (fun w h => (laX3 w h).1) (hts (.instantiable RX3 5) w_1_123)
  obtain ⟨c4, i4, k4⟩ := u_known (C := RX4) (T := TX4) (N := 8) (n := 8) hts (fun w h => (laX4 w h).1) (hts (.instantiable RX4 8) w_1_166)
  obtain ⟨c5, i5, k5⟩ := u_known (C := RX5) (T := TX5) (N := 5) (n := 5) hts (fun w h => (laX5 w h).1) (hts (.instantiable RX5 5) w_1_97)
  obtain ⟨c6, i6, k6⟩ := u_known (C := RX6) (T := TX6) (N := 3) (n := 3) hts (fun w h => (laX6 w h).1) (hts (.instantiable RX6 3) w_1_63)
  obtain ⟨c7, i7, k7⟩ := u_known (C := RX7) (T := TX7) (N := 7) (n := 7) hts (fun w h => (laX7 w h).1) (hts (.instantiable RX7 7) w_1_29)
  obtain ⟨c8, i8, k8⟩ := u_known (C := RX8) (T := TX8) (N := 2) (n := 2) hts (fun w h => (laX8 w h).1) (hts (.instantiable RX8 2) w_1_80)
  obtain ⟨c9, i9, k9⟩ := u_known (C := RX9) (T := TX9) (N := 6) (n := 6) hts (fun w h => (laX9 w h).1) (hts (.instantiable RX9 6) w_2_223)
  obtain ⟨c10, i10, k10⟩ := u_known (C := RX10) (T := TX10) (N := 10) (n := 10) hts (fun w h => (laX10 w h).1) (hts (.instantiable RX10 10) w_1_21)
  obtain ⟨c11, i11, k11⟩ := u_known (C := RX11) (T := TX11) (N := 54) (n := 54) hts (fun w h => (laX11 w h).1) (hts (.instantiable RX11 54) w_4_95)
  obtain ⟨dC, dI, hKc⟩ : ∃ (dC : Nat → ClassId) (dI : Nat → Nat → Nat), ∀ (k : Nat) (q : vw_C), vwCl[k]? = some q → u_Kn s q.1 q.2.1 q.2.2 (dC k) (dI k) := by
    refine ⟨fun k => ([c0, c1, c2, c3, c4, c5, c6, c7, c8, c9, c10, c11] : List ClassId).getD k c0, fun k => ([i0, i1, i2, i3, i4, i5, i6, i7, i8, i9, i10, i11] : List (Nat → Nat)).getD k i0, ?_⟩
    intro k q hq
    match k, hq with
    | 0, hq => cases hq; exact k0
    | 1, hq => cases hq; exact k1
    | 2, hq => cases hq; exact k2
    | 3, hq => cases hq; exact k3
    | 4, hq => cases hq; exact k4
    | 5, hq => cases hq; exact k5
    | 6, hq => cases hq; exact k6
    | 7, hq => cases hq; exact k7
    | 8, hq => cases hq; exact k8
    | 9, hq => cases hq; exact k9
    | 10, hq => cases hq; exact k10
    | 11, hq => cases hq; exact k11
    | k + 12, hq => simp [vwCl] at hq
  have hOR : va_AO "RopeRace$Runner" s := va_AO.of (hts (.arrayOver (.object "RopeRace$Runner")) (tm1 (List.mem_of_getElem? (i := 155) rfl)))
  have hOW : va_AO "RopeRace$Ward" s := va_AO.of (hts (.arrayOver (.object "RopeRace$Ward")) (tm1 (List.mem_of_getElem? (i := 86) rfl)))
  obtain ⟨aB, kB, pB, fB, gB, jB⟩ := Cond.arrayClass_spec (hts (.arrayClass .byte) w_ab)
  obtain ⟨aI, kI, pI, fI, gI, jI⟩ := Cond.arrayClass_spec (hts (.arrayClass .int) w_ai)
  obtain ⟨aZ, kZ, pZ, fZ, gZ, jZ⟩ := Cond.arrayClass_spec (hts (.arrayClass .boolean) w_az)
  obtain ⟨pR, aR, kR, r1, r2, r3, r4, r5⟩ := Cond.arrayOver_spec hOR
  obtain ⟨pW, aW, kW, v1, v2, v3, v4, v5⟩ := Cond.arrayOver_spec hOW
  have hst : ∀ i, i < 3 → ∃ t : Nat, (Term.static "RopeRace" (nS i) "[I").eval #[Value.ref b] s none [] s = some (.ref t) ∧ va_T .int t 7 (fun j => .int ((tS i).getD j 0)) (fun q : Nat => s.heap.size ≤ q) s s.heap := fun i hi =>
    va_Tof (by decide) (hs _ (fl_sa i hi)) (va_eqt (hs _ (fl_sl i hi))) (fun j hj => va_eqt (hs _ (fl_se i hi j hj))) hA
  obtain ⟨t0, e0, T0⟩ := hst 0 (by decide)
  obtain ⟨t1, e1, T1⟩ := hst 1 (by decide)
  obtain ⟨t2, e2, T2⟩ := hst 2 (by decide)
  have hRi : (Cond.initialized "RopeRace").before #[Value.ref b] s = true := hts _ w_1_1
  obtain ⟨adK, adV, hSS, had⟩ := vk_Sof (args := #[Value.ref b]) (s := s) (N := 8) (tm := tmS) (len := lenS) (byt := bytS) (by decide) (fun i hi => hs _ (fl_ex i hi)) (fun i hi => hs _ (fl_co i hi)) (fun i hi => hs _ (fl_ar i hi)) (fun i hi => hs _ (fl_le i hi)) (fun i hi j hj => hs _ (fl_el i hi j hj)) (fun i j hi hj hij => (fl_ne i hi j hj hij).imp (hs _) (hs _)) hA
  refine ⟨(fun q : Nat => s.heap.size ≤ q, (dC, dI), fun _ => 0, fun k => ([aB, aI, aZ, aR, aW] : List ClassId).getD k aB, fun k => ([t0, t1, t2] : List Nat).getD k t0, adK, adV), rfl, ⟨⟨hKc, ?_⟩, ?_, fun q h => h, ?_, ?_, ?_, hSS, ?_, ?_⟩, hOR, hOW⟩
  · intro k q hk
    match k, hk with
    | 0, hk => cases hk; exact ⟨fun n z => ⟨fun k h => (by cases h), kB, gB, pB, jB⟩, fB⟩
    | 1, hk => cases hk; exact ⟨fun n z => ⟨fun k h => (by cases h), kI, gI, pI, jI⟩, fI⟩
    | 2, hk => cases hk; exact ⟨fun n z => ⟨fun k h => (by cases h), kZ, gZ, pZ, jZ⟩, fZ⟩
    | 3, hk => cases hk; exact ⟨fun n z => ⟨fun k h => (by cases h), kR, r3, pR, r4⟩, kR, pR, r3, r4, r1, r5⟩
    | 4, hk => cases hk; exact ⟨fun n z => ⟨fun k h => (by cases h), kW, v3, pW, v4⟩, kW, pW, v3, v4, v1, v5⟩
    | k + 5, hk => simp [tyL] at hk
  · intro w hw hg
    cases hgw : goodWord w with
    | true => exact word_at (State.WarmedH.refl s) (good_of_word hgw) (hts w hw)
    | false =>
      rw [hgw] at hg
      cases w with
      | fieldLinkNest a i b n d h => exact va_Nw.of rfl (hts _ hw)
      | methodLinkNest a i y h => exact va_Nw.of rfl (hts _ hw)
      | _ => simp [isNest] at hg
  · intro i hi
    match i, hi with
    | 0, hi => exact ⟨va_Zref (hts _ (w_ls 0 hi)) hRi e0 hA, T0⟩
    | 1, hi => exact ⟨va_Zref (hts _ (w_ls 1 hi)) hRi e1 hA, T1⟩
    | 2, hi => exact ⟨va_Zref (hts _ (w_ls 2 hi)) hRi e2 hA, T2⟩
    | n + 3, h => exact absurd h (by omega)
  · exact va_Zof (hts (.laysStatic "java/lang/String" "COMPACT_STRINGS" "Z") (tm2 (List.mem_of_getElem? (i := 136) rfl))) (hts _ w_1_14) (va_eqi (hs (.eq (.static "java/lang/String" "COMPACT_STRINGS" "Z") (.int 1)) (by decide +kernel))) hA
  · exact va_Zqof (hts (.laysStatic "jdk/internal/util/Preconditions" "SIOOBE_FORMATTER" "Ljava/util/function/BiFunction;") (tm2 (List.mem_of_getElem? (i := 152) rfl))) (hts _ w_1_16) (hs (.isRef (.static "jdk/internal/util/Preconditions" "SIOOBE_FORMATTER" "Ljava/util/function/BiFunction;")) (by decide +kernel)) hA
  · intro i hi
    match i, hi with
    | 0, hi => exact vk_R.of (hts _ (w_sr 0 hi)) (had 0 (by decide))
    | 1, hi => exact vk_R.of (hts _ (w_sr 1 hi)) (had 1 (by decide))
    | 2, hi => exact vk_R.of (hts _ (w_sr 2 hi)) (had 2 (by decide))
    | 3, hi => exact vk_R.of (hts _ (w_sr 3 hi)) (had 3 (by decide))
    | 4, hi => exact vk_R.of (hts _ (w_sr 4 hi)) (had 4 (by decide))
    | 5, hi => exact vk_R.of (hts _ (w_sr 5 hi)) (had 5 (by decide))
    | 6, hi => exact vk_R.of (hts _ (w_sr 6 hi)) (had 6 (by decide))
    | n + 7, h => exact absurd h (by omega)
  · exact vk_R.of (hts (.stringRef "RopeRaceModel" 137 "run laps bend loose bar apart false ") (tm5 (List.mem_of_getElem? (i := 46) rfl))) (had 7 (by decide))
def x0 : Me := fun f _ => match f with
  | 9 => -1
  | 25 => 20
  | 36 => -1
  | _ => 0
def ch17 : Nat → Int32 := (upd (upd (upd (upd (upd (upd (upd (upd (upd (upd (upd (upd (upd (upd (upd (upd (upd (fun _ => 0) 0 (-1)) 1 (-1)) 2 (-1)) 3 (-1)) 4 (-1)) 5 (-1)) 6 (-1)) 7 (-1)) 8 (-1)) 9 (-1)) 10 (-1)) 11 (-1)) 12 (-1)) 13 (-1)) 14 (-1)) 15 (-1)) 16 (-1))
def m0 : Me := fun f => match f with
  | 16 => fun _ => -1
  | 18 => ch17
  | 19 => ch17
  | 35 => fun _ => 20
  | 45 => fun _ => -1
  | _ => fun _ => 0
theorem ch17_in : ∀ i, i < 17 → ch17 i = -1 := by decide
def ad0 (q0 : Nat) (u : Nat → Nat) (qm : Nat) (v : Nat → Nat) : Nat → Nat := fun o => if o = 0 then q0 else if o ≤ 40 then u (o - 1) else if o = 41 then qm else v (o - 42)
def G0 (G : GG) (q0 : Nat) (u : Nat → Nat) (qm : Nat) (v : Nat → Nat) : GG := (G.1, G.2.1, ad0 q0 u qm v, G.2.2.2.1, G.2.2.2.2.1, G.2.2.2.2.2.1, G.2.2.2.2.2.2)
theorem gz_0 {G : GG} {q0 qm : Nat} {u v : Nat → Nat} : ga (G0 G q0 u qm v) 0 = q0 := rfl
theorem gz_1 {G : GG} {q0 qm : Nat} {u v : Nat → Nat} : ga (G0 G q0 u qm v) 1 = u 0 := rfl
theorem gz_2 {G : GG} {q0 qm : Nat} {u v : Nat → Nat} : ga (G0 G q0 u qm v) 2 = u 1 := rfl
theorem gz_3 {G : GG} {q0 qm : Nat} {u v : Nat → Nat} : ga (G0 G q0 u qm v) 3 = u 2 := rfl
theorem gz_4 {G : GG} {q0 qm : Nat} {u v : Nat → Nat} : ga (G0 G q0 u qm v) 4 = u 3 := rfl
theorem gz_5 {G : GG} {q0 qm : Nat} {u v : Nat → Nat} : ga (G0 G q0 u qm v) 5 = u 4 := rfl
theorem gz_6 {G : GG} {q0 qm : Nat} {u v : Nat → Nat} : ga (G0 G q0 u qm v) 6 = u 5 := rfl
theorem gz_7 {G : GG} {q0 qm : Nat} {u v : Nat → Nat} : ga (G0 G q0 u qm v) 7 = u 6 := rfl
theorem gz_8 {G : GG} {q0 qm : Nat} {u v : Nat → Nat} : ga (G0 G q0 u qm v) 8 = u 7 := rfl
theorem gz_9 {G : GG} {q0 qm : Nat} {u v : Nat → Nat} : ga (G0 G q0 u qm v) 9 = u 8 := rfl
theorem gz_10 {G : GG} {q0 qm : Nat} {u v : Nat → Nat} : ga (G0 G q0 u qm v) 10 = u 9 := rfl
theorem gz_11 {G : GG} {q0 qm : Nat} {u v : Nat → Nat} : ga (G0 G q0 u qm v) 11 = u 10 := rfl
theorem gz_12 {G : GG} {q0 qm : Nat} {u v : Nat → Nat} : ga (G0 G q0 u qm v) 12 = u 11 := rfl
theorem gz_13 {G : GG} {q0 qm : Nat} {u v : Nat → Nat} : ga (G0 G q0 u qm v) 13 = u 12 := rfl
theorem gz_14 {G : GG} {q0 qm : Nat} {u v : Nat → Nat} : ga (G0 G q0 u qm v) 14 = u 13 := rfl
theorem gz_15 {G : GG} {q0 qm : Nat} {u v : Nat → Nat} : ga (G0 G q0 u qm v) 15 = u 14 := rfl
theorem gz_16 {G : GG} {q0 qm : Nat} {u v : Nat → Nat} : ga (G0 G q0 u qm v) 16 = u 15 := rfl
theorem gz_17 {G : GG} {q0 qm : Nat} {u v : Nat → Nat} : ga (G0 G q0 u qm v) 17 = u 16 := rfl
theorem gz_18 {G : GG} {q0 qm : Nat} {u v : Nat → Nat} : ga (G0 G q0 u qm v) 18 = u 17 := rfl
theorem gz_19 {G : GG} {q0 qm : Nat} {u v : Nat → Nat} : ga (G0 G q0 u qm v) 19 = u 18 := rfl
theorem gz_20 {G : GG} {q0 qm : Nat} {u v : Nat → Nat} : ga (G0 G q0 u qm v) 20 = u 19 := rfl
theorem gz_21 {G : GG} {q0 qm : Nat} {u v : Nat → Nat} : ga (G0 G q0 u qm v) 21 = u 20 := rfl
theorem gz_22 {G : GG} {q0 qm : Nat} {u v : Nat → Nat} : ga (G0 G q0 u qm v) 22 = u 21 := rfl
theorem gz_23 {G : GG} {q0 qm : Nat} {u v : Nat → Nat} : ga (G0 G q0 u qm v) 23 = u 22 := rfl
theorem gz_24 {G : GG} {q0 qm : Nat} {u v : Nat → Nat} : ga (G0 G q0 u qm v) 24 = u 23 := rfl
theorem gz_25 {G : GG} {q0 qm : Nat} {u v : Nat → Nat} : ga (G0 G q0 u qm v) 25 = u 24 := rfl
theorem gz_26 {G : GG} {q0 qm : Nat} {u v : Nat → Nat} : ga (G0 G q0 u qm v) 26 = u 25 := rfl
theorem gz_27 {G : GG} {q0 qm : Nat} {u v : Nat → Nat} : ga (G0 G q0 u qm v) 27 = u 26 := rfl
theorem gz_28 {G : GG} {q0 qm : Nat} {u v : Nat → Nat} : ga (G0 G q0 u qm v) 28 = u 27 := rfl
theorem gz_29 {G : GG} {q0 qm : Nat} {u v : Nat → Nat} : ga (G0 G q0 u qm v) 29 = u 28 := rfl
theorem gz_30 {G : GG} {q0 qm : Nat} {u v : Nat → Nat} : ga (G0 G q0 u qm v) 30 = u 29 := rfl
theorem gz_31 {G : GG} {q0 qm : Nat} {u v : Nat → Nat} : ga (G0 G q0 u qm v) 31 = u 30 := rfl
theorem gz_32 {G : GG} {q0 qm : Nat} {u v : Nat → Nat} : ga (G0 G q0 u qm v) 32 = u 31 := rfl
theorem gz_33 {G : GG} {q0 qm : Nat} {u v : Nat → Nat} : ga (G0 G q0 u qm v) 33 = u 32 := rfl
theorem gz_34 {G : GG} {q0 qm : Nat} {u v : Nat → Nat} : ga (G0 G q0 u qm v) 34 = u 33 := rfl
theorem gz_35 {G : GG} {q0 qm : Nat} {u v : Nat → Nat} : ga (G0 G q0 u qm v) 35 = u 34 := rfl
theorem gz_36 {G : GG} {q0 qm : Nat} {u v : Nat → Nat} : ga (G0 G q0 u qm v) 36 = u 35 := rfl
theorem gz_37 {G : GG} {q0 qm : Nat} {u v : Nat → Nat} : ga (G0 G q0 u qm v) 37 = u 36 := rfl
theorem gz_38 {G : GG} {q0 qm : Nat} {u v : Nat → Nat} : ga (G0 G q0 u qm v) 38 = u 37 := rfl
theorem gz_39 {G : GG} {q0 qm : Nat} {u v : Nat → Nat} : ga (G0 G q0 u qm v) 39 = u 38 := rfl
theorem gz_40 {G : GG} {q0 qm : Nat} {u v : Nat → Nat} : ga (G0 G q0 u qm v) 40 = u 39 := rfl
theorem gz_41 {G : GG} {q0 qm : Nat} {u v : Nat → Nat} : ga (G0 G q0 u qm v) 41 = qm := rfl
theorem gz_42 {G : GG} {q0 qm : Nat} {u v : Nat → Nat} : ga (G0 G q0 u qm v) 42 = v 0 := rfl
theorem gz_43 {G : GG} {q0 qm : Nat} {u v : Nat → Nat} : ga (G0 G q0 u qm v) 43 = v 1 := rfl
theorem gz_44 {G : GG} {q0 qm : Nat} {u v : Nat → Nat} : ga (G0 G q0 u qm v) 44 = v 2 := rfl
theorem gz_45 {G : GG} {q0 qm : Nat} {u v : Nat → Nat} : ga (G0 G q0 u qm v) 45 = v 3 := rfl
theorem gz_46 {G : GG} {q0 qm : Nat} {u v : Nat → Nat} : ga (G0 G q0 u qm v) 46 = v 4 := rfl
theorem gz_47 {G : GG} {q0 qm : Nat} {u v : Nat → Nat} : ga (G0 G q0 u qm v) 47 = v 5 := rfl
theorem gz_48 {G : GG} {q0 qm : Nat} {u v : Nat → Nat} : ga (G0 G q0 u qm v) 48 = v 6 := rfl
theorem gz_49 {G : GG} {q0 qm : Nat} {u v : Nat → Nat} : ga (G0 G q0 u qm v) 49 = v 7 := rfl
theorem gz_50 {G : GG} {q0 qm : Nat} {u v : Nat → Nat} : ga (G0 G q0 u qm v) 50 = v 8 := rfl
theorem gz_51 {G : GG} {q0 qm : Nat} {u v : Nat → Nat} : ga (G0 G q0 u qm v) 51 = v 9 := rfl
theorem gz_52 {G : GG} {q0 qm : Nat} {u v : Nat → Nat} : ga (G0 G q0 u qm v) 52 = v 10 := rfl
theorem gz_53 {G : GG} {q0 qm : Nat} {u v : Nat → Nat} : ga (G0 G q0 u qm v) 53 = v 11 := rfl
theorem gz_54 {G : GG} {q0 qm : Nat} {u v : Nat → Nat} : ga (G0 G q0 u qm v) 54 = v 12 := rfl
theorem gz_55 {G : GG} {q0 qm : Nat} {u v : Nat → Nat} : ga (G0 G q0 u qm v) 55 = v 13 := rfl
theorem gz_56 {G : GG} {q0 qm : Nat} {u v : Nat → Nat} : ga (G0 G q0 u qm v) 56 = v 14 := rfl
theorem gz_57 {G : GG} {q0 qm : Nat} {u v : Nat → Nat} : ga (G0 G q0 u qm v) 57 = v 15 := rfl
theorem gz_58 {G : GG} {q0 qm : Nat} {u v : Nat → Nat} : ga (G0 G q0 u qm v) 58 = v 16 := rfl
theorem gz_59 {G : GG} {q0 qm : Nat} {u v : Nat → Nat} : ga (G0 G q0 u qm v) 59 = v 17 := rfl
theorem gz_60 {G : GG} {q0 qm : Nat} {u v : Nat → Nat} : ga (G0 G q0 u qm v) 60 = v 18 := rfl
theorem gz_61 {G : GG} {q0 qm : Nat} {u v : Nat → Nat} : ga (G0 G q0 u qm v) 61 = v 19 := rfl
theorem gz_62 {G : GG} {q0 qm : Nat} {u v : Nat → Nat} : ga (G0 G q0 u qm v) 62 = v 20 := rfl
theorem gz_63 {G : GG} {q0 qm : Nat} {u v : Nat → Nat} : ga (G0 G q0 u qm v) 63 = v 21 := rfl
theorem gz_64 {G : GG} {q0 qm : Nat} {u v : Nat → Nat} : ga (G0 G q0 u qm v) 64 = v 22 := rfl
theorem gz_65 {G : GG} {q0 qm : Nat} {u v : Nat → Nat} : ga (G0 G q0 u qm v) 65 = v 23 := rfl
theorem gz_66 {G : GG} {q0 qm : Nat} {u v : Nat → Nat} : ga (G0 G q0 u qm v) 66 = v 24 := rfl
theorem gz_67 {G : GG} {q0 qm : Nat} {u v : Nat → Nat} : ga (G0 G q0 u qm v) 67 = v 25 := rfl
theorem gz_68 {G : GG} {q0 qm : Nat} {u v : Nat → Nat} : ga (G0 G q0 u qm v) 68 = v 26 := rfl
theorem gz_c {G : GG} {q0 qm : Nat} {u v : Nat → Nat} (k : Nat) : gc (G0 G q0 u qm v) k = gc G k := rfl
theorem xz_1 (i : Nat) : x0 1 i = 0 := rfl
theorem xz_2 (i : Nat) : x0 2 i = 0 := rfl
theorem xz_3 : x0 3 = fun _ => 0 := rfl
theorem xz_4 (i : Nat) : x0 4 i = 0 := rfl
theorem xz_5 (i : Nat) : x0 5 i = 0 := rfl
theorem xz_6 (i : Nat) : x0 6 i = 0 := rfl
theorem xz_7 : x0 7 = fun _ => 0 := rfl
theorem xz_8 (i : Nat) : x0 8 i = 0 := rfl
theorem xz_9 (i : Nat) : x0 9 i = -1 := rfl
theorem xz_10 (i : Nat) : x0 10 i = 0 := rfl
theorem xz_11 : x0 11 = fun _ => 0 := rfl
theorem xz_12 : x0 12 = fun _ => 0 := rfl
theorem xz_13 (i : Nat) : x0 13 i = 0 := rfl
theorem xz_15 (i : Nat) : x0 15 i = 0 := rfl
theorem xz_16 : x0 16 = fun _ => 0 := rfl
theorem xz_17 : x0 17 = fun _ => 0 := rfl
theorem xz_18 : x0 18 = fun _ => 0 := rfl
theorem xz_19 : x0 19 = fun _ => 0 := rfl
theorem xz_20 (i : Nat) : x0 20 i = 0 := rfl
theorem xz_21 : x0 21 = fun _ => 0 := rfl
theorem xz_22 : x0 22 = fun _ => 0 := rfl
theorem xz_23 : x0 23 = fun _ => 0 := rfl
theorem xz_24 : x0 24 = fun _ => 0 := rfl
theorem xz_25 (i : Nat) : x0 25 i = 20 := rfl
theorem xz_26 : x0 26 = fun _ => 0 := rfl
theorem xz_27 : x0 27 = fun _ => 0 := rfl
theorem xz_28 : x0 28 = fun _ => 0 := rfl
theorem xz_29 (i : Nat) : x0 29 i = 0 := rfl
theorem xz_30 : x0 30 = fun _ => 0 := rfl
theorem xz_31 (i : Nat) : x0 31 i = 0 := rfl
theorem xz_32 (i : Nat) : x0 32 i = 0 := rfl
theorem xz_33 (i : Nat) : x0 33 i = 0 := rfl
theorem xz_34 (i : Nat) : x0 34 i = 0 := rfl
theorem xz_35 (i : Nat) : x0 35 i = 0 := rfl
theorem xz_36 (i : Nat) : x0 36 i = -1 := rfl
theorem xz_37 (i : Nat) : x0 37 i = 0 := rfl
theorem xz_38 (i : Nat) : x0 38 i = 0 := rfl
theorem xz_39 (i : Nat) : x0 39 i = 0 := rfl
theorem xz_40 (i : Nat) : x0 40 i = 0 := rfl
theorem xz_41 (i : Nat) : x0 41 i = 0 := rfl
theorem xz_42 (i : Nat) : x0 42 i = 0 := rfl
theorem xz_43 (i : Nat) : x0 43 i = 0 := rfl
theorem xz_44 (i : Nat) : x0 44 i = 0 := rfl
theorem xz_45 (i : Nat) : x0 45 i = 0 := rfl
theorem xz_46 : x0 46 = fun _ => 0 := rfl
theorem xz_47 : x0 47 = fun _ => 0 := rfl
theorem xz_48 : x0 48 = fun _ => 0 := rfl
theorem xz_49 (i : Nat) : x0 49 i = 0 := rfl
theorem xz_50 (i : Nat) : x0 50 i = 0 := rfl
theorem xz_51 (i : Nat) : x0 51 i = 0 := rfl
theorem xz_52 (i : Nat) : x0 52 i = 0 := rfl
theorem xz_53 (i : Nat) : x0 53 i = 0 := rfl
theorem xz_54 (i : Nat) : x0 54 i = 0 := rfl
theorem xz_55 (i : Nat) : x0 55 i = 0 := rfl
theorem mz_0 : m0 0 0 = 0 := rfl
theorem mz_1 : m0 1 = fun _ => 0 := rfl
theorem mz_2 : m0 2 0 = 0 := rfl
theorem mz_3 : m0 3 0 = 0 := rfl
theorem mz_4 : m0 4 0 = 0 := rfl
theorem mz_5 : m0 5 = fun _ => 0 := rfl
theorem mz_6 : m0 6 = fun _ => 0 := rfl
theorem mz_7 : m0 7 0 = 0 := rfl
theorem mz_8 : m0 8 0 = 0 := rfl
theorem mz_9 : m0 9 0 = 0 := rfl
theorem mz_10 : m0 10 0 = 0 := rfl
theorem mz_11 : m0 11 0 = 0 := rfl
theorem mz_12 : m0 12 0 = 0 := rfl
theorem mz_13 : m0 13 0 = 0 := rfl
theorem mz_14 : m0 14 0 = 0 := rfl
theorem mz_15 : m0 15 0 = 0 := rfl
theorem mz_16 : m0 16 0 = -1 := rfl
theorem mz_17 : m0 17 0 = 0 := rfl
theorem mz_18 : m0 18 = ch17 := rfl
theorem mz_19 : m0 19 = ch17 := rfl
theorem mz_20 : m0 20 = fun _ => 0 := rfl
theorem mz_21 : m0 21 = fun _ => 0 := rfl
theorem mz_22 : m0 22 = fun _ => 0 := rfl
theorem mz_23 : m0 23 = fun _ => 0 := rfl
theorem mz_24 : m0 24 = fun _ => 0 := rfl
theorem mz_25 : m0 25 = fun _ => 0 := rfl
theorem mz_26 : m0 26 0 = 0 := rfl
theorem mz_27 : m0 27 = fun _ => 0 := rfl
theorem mz_28 : m0 28 = fun _ => 0 := rfl
theorem mz_29 : m0 29 0 = 0 := rfl
theorem mz_30 : m0 30 0 = 0 := rfl
theorem mz_31 : m0 31 = fun _ => 0 := rfl
theorem mz_32 : m0 32 = fun _ => 0 := rfl
theorem mz_33 : m0 33 = fun _ => 0 := rfl
theorem mz_34 : m0 34 0 = 0 := rfl
theorem mz_35 : m0 35 0 = 20 := rfl
theorem mz_36 : m0 36 = fun _ => 0 := rfl
theorem mz_37 : m0 37 = fun _ => 0 := rfl
theorem mz_38 : m0 38 = fun _ => 0 := rfl
theorem mz_39 : m0 39 = fun _ => 0 := rfl
theorem mz_40 : m0 40 = fun _ => 0 := rfl
theorem mz_41 : m0 41 = fun _ => 0 := rfl
theorem mz_42 : m0 42 = fun _ => 0 := rfl
theorem mz_43 : m0 43 0 = 0 := rfl
theorem mz_44 : m0 44 0 = 0 := rfl
theorem mz_45 : m0 45 0 = -1 := rfl
theorem mz_46 : m0 46 0 = 0 := rfl
theorem mz_47 : m0 47 0 = 0 := rfl
theorem mz_48 : m0 48 0 = 0 := rfl
theorem mz_49 : m0 49 = fun _ => 0 := rfl
theorem mz_50 : m0 50 = fun _ => 0 := rfl
theorem mz_51 : m0 51 = fun _ => 0 := rfl
theorem mz_52 : m0 52 = fun _ => 0 := rfl
theorem mz_53 : m0 53 0 = 0 := rfl
def snocs {α : Type} (w : List α) : List α → List α
  | [] => w
  | a :: l => snocs (w ++ [a]) l
theorem snocs_eq {α : Type} : ∀ (l w : List α), snocs w l = w ++ l
  | [], w => (List.append_nil w).symm
  | a :: l, w => by rw [snocs, snocs_eq l, List.append_assoc]; rfl
theorem cons_eq {α : Type} {a b : α} {l l' : List α} (h1 : a = b) (h2 : l = l') : a :: l = b :: l' := by rw [h1, h2]
set_option maxRecDepth 100000 in
theorem woM {G : GG} {q0 qm : Nat} {u v : Nat → Nat} {w : va_W} : wo_X11_init G w qm v = w ++ mwM (G0 G q0 u qm v) m0 := by
  have e : wo_X11_init G w qm v = snocs w [(qm, .inr (11, [.int 0, .ref (v 0), .int 0, .int 0, .int 0, .ref (v 1), .ref (v 2), .int 0, .int 0, .int 0, .int 0, .int 0, .int 0, .int 0, .int 0, .int 0, .int (-1), .int 0, .ref (v 3), .ref (v 4), .ref (v 5), .ref (v 6), .ref (v 7), .ref (v 8), .ref (v 9), .ref (v 10), .int 0, .ref (v 11), .ref (v 12), .int 0, .int 0, .ref (v 13), .ref (v 14), .ref (v 15), .int 0, .int 20, .ref (v 16), .ref (v 17), .ref (v 18), .ref (v 19), .ref (v 20), .ref (v 21), .ref (v 22), .int 0, .int 0, .int (-1), .int 0, .int 0, .int 0, .ref (v 23), .ref (v 24), .ref (v 25), .ref (v 26), .int 0])), ((v 0), .inl (gc G 1, 600, .inl (fun _ => 0))), ((v 1), .inl (gc G 1, 10, .inl (fun _ => 0))), ((v 2), .inl (gc G 1, 77, .inl (fun _ => 0))), ((v 3), .inl (gc G 1, 17, .inl (upd (upd (upd (upd (upd (upd (upd (upd (upd (upd (upd (upd (upd (upd (upd (upd (upd (fun _ => 0) 0 (-1)) 1 (-1)) 2 (-1)) 3 (-1)) 4 (-1)) 5 (-1)) 6 (-1)) 7 (-1)) 8 (-1)) 9 (-1)) 10 (-1)) 11 (-1)) 12 (-1)) 13 (-1)) 14 (-1)) 15 (-1)) 16 (-1)))), ((v 4), .inl (gc G 1, 17, .inl (upd (upd (upd (upd (upd (upd (upd (upd (upd (upd (upd (upd (upd (upd (upd (upd (upd (fun _ => 0) 0 (-1)) 1 (-1)) 2 (-1)) 3 (-1)) 4 (-1)) 5 (-1)) 6 (-1)) 7 (-1)) 8 (-1)) 9 (-1)) 10 (-1)) 11 (-1)) 12 (-1)) 13 (-1)) 14 (-1)) 15 (-1)) 16 (-1)))), ((v 5), .inl (gc G 1, 17, .inl (fun _ => 0))), ((v 6), .inl (gc G 1, 17, .inl (fun _ => 0))), ((v 7), .inl (gc G 1, 17, .inl (fun _ => 0))), ((v 8), .inl (gc G 2, 17, .inl (fun _ => 0))), ((v 9), .inl (gc G 1, 17, .inl (fun _ => 0))), ((v 10), .inl (gc G 1, 17, .inl (fun _ => 0))), ((v 11), .inl (gc G 1, 16, .inl (fun _ => 0))), ((v 12), .inl (gc G 2, 16, .inl (fun _ => 0))), ((v 13), .inl (gc G 1, 10, .inl (fun _ => 0))), ((v 14), .inl (gc G 1, 10, .inl (fun _ => 0))), ((v 15), .inl (gc G 1, 10, .inl (fun _ => 0))), ((v 16), .inl (gc G 2, 60, .inl (fun _ => 0))), ((v 17), .inl (gc G 1, 17, .inl (fun _ => 0))), ((v 18), .inl (gc G 1, 17, .inl (fun _ => 0))), ((v 19), .inl (gc G 1, 17, .inl (fun _ => 0))), ((v 20), .inl (gc G 2, 17, .inl (fun _ => 0))), ((v 21), .inl (gc G 1, 17, .inl (fun _ => 0))), ((v 22), .inl (gc G 1, 17, .inl (fun _ => 0))), ((v 23), .inl (gc G 1, 17, .inl (fun _ => 0))), ((v 24), .inl (gc G 1, 40, .inl (fun _ => 0))), ((v 25), .inl (gc G 1, 40, .inl (fun _ => 0))), ((v 26), .inl (gc G 1, 40, .inl (fun _ => 0)))] := rfl
  rw [e, snocs_eq]
  exact congrArg (fun t => w ++ t) (cons_eq rfl (cons_eq rfl (cons_eq rfl (cons_eq rfl (cons_eq rfl (cons_eq rfl (cons_eq rfl (cons_eq rfl (cons_eq rfl (cons_eq rfl (cons_eq rfl (cons_eq rfl (cons_eq rfl (cons_eq rfl (cons_eq rfl (cons_eq rfl (cons_eq rfl (cons_eq rfl (cons_eq rfl (cons_eq rfl (cons_eq rfl (cons_eq rfl (cons_eq rfl (cons_eq rfl (cons_eq rfl (cons_eq rfl (cons_eq rfl (cons_eq rfl rfl))))))))))))))))))))))))))))
set_option maxRecDepth 100000 in
theorem woX {G : GG} {q0 qm : Nat} {u v : Nat → Nat} : wo_X10_init G [] q0 u = ((mwX (G0 G q0 u qm v) 0 x0).set 8 (ga (G0 G q0 u qm v) 8, .inl (gc (G0 G q0 u qm v) 4, 17, .inr (.inr (.inr (.inr (fun _ => none))))))).set 23 (ga (G0 G q0 u qm v) 23, .inl (gc (G0 G q0 u qm v) 3, 10, .inr (.inr (.inr (.inr (va_up (va_up (va_up (va_up (va_up (va_up (va_up (va_up (va_up (va_up (fun _ => none) 0 (some (u 25))) 1 (some (u 26))) 2 (some (u 27))) 3 (some (u 28))) 4 (some (u 29))) 5 (some (u 30))) 6 (some (u 31))) 7 (some (u 32))) 8 (some (u 33))) 9 (some (u 34)))))))) := by
  have e : wo_X10_init G [] q0 u = snocs [] [(q0, .inr (10, [.ref (u 0), .ref (u 3), .ref (u 6), .ref (u 8), .ref (u 13), .ref (u 18), .ref (u 35), .ref (u 39), .int 0, .int 0])), ((u 0), .inr (7, [.ref (u 1), .int 0, .int 0, .int 0, .ref (u 2), .int 0, .int (-1)])), ((u 1), .inl (gc G 0, 600, .inl (fun _ => 0))), ((u 2), .inl (gc G 1, 7, .inl (fun _ => 0))), ((u 3), .inr (6, [.int 0, .ref (u 4), .ref (u 5)])), ((u 4), .inl (gc G 1, 10, .inl (fun _ => 0))), ((u 5), .inl (gc G 1, 70, .inl (fun _ => 0))), ((u 6), .inr (8, [.int 0, .ref (u 7)])), ((u 7), .inl (gc G 4, 17, .inr (.inr (.inr (.inr (fun _ => none)))))), ((u 8), .inr (5, [.int 0, .ref (u 9), .ref (u 10), .ref (u 11), .ref (u 12)])), ((u 9), .inl (gc G 1, 16, .inl (fun _ => 0))), ((u 10), .inl (gc G 2, 16, .inl (fun _ => 0))), ((u 11), .inl (gc G 1, 10, .inl (fun _ => 0))), ((u 12), .inl (gc G 1, 10, .inl (fun _ => 0))), ((u 13), .inr (3, [.int 0, .ref (u 14), .ref (u 15), .ref (u 16), .ref (u 17)])), ((u 14), .inl (gc G 1, 10, .inl (fun _ => 0))), ((u 15), .inl (gc G 1, 10, .inl (fun _ => 0))), ((u 16), .inl (gc G 1, 10, .inl (fun _ => 0))), ((u 17), .inl (gc G 1, 10, .inl (fun _ => 0))), ((u 18), .inr (2, [.int 20, .ref (u 19), .ref (u 20), .ref (u 21), .int 0, .ref (u 22), .ref (u 23), .ref (u 24), .int 0, .int 0, .int 0, .int 0, .int 0, .int (-1)])), ((u 19), .inl (gc G 2, 60, .inl (fun _ => 0))), ((u 20), .inl (gc G 1, 17, .inl (fun _ => 0))), ((u 21), .inl (gc G 1, 17, .inl (fun _ => 0))), ((u 22), .inl (gc G 3, 10, .inr (.inr (.inr (.inr (va_up (va_up (va_up (va_up (va_up (va_up (va_up (va_up (va_up (va_up (fun _ => none) 0 (some (u 25))) 1 (some (u 26))) 2 (some (u 27))) 3 (some (u 28))) 4 (some (u 29))) 5 (some (u 30))) 6 (some (u 31))) 7 (some (u 32))) 8 (some (u 33))) 9 (some (u 34)))))))), ((u 23), .inl (gc G 1, 10, .inl (fun _ => 0))), ((u 24), .inr (0, [.int 0])), ((u 25), .inr (4, [.int 0, .int 0, .int 0, .int 0, .int 0, .int 0, .int 0, .int 0])), ((u 26), .inr (4, [.int 0, .int 0, .int 0, .int 0, .int 0, .int 0, .int 0, .int 0])), ((u 27), .inr (4, [.int 0, .int 0, .int 0, .int 0, .int 0, .int 0, .int 0, .int 0])), ((u 28), .inr (4, [.int 0, .int 0, .int 0, .int 0, .int 0, .int 0, .int 0, .int 0])), ((u 29), .inr (4, [.int 0, .int 0, .int 0, .int 0, .int 0, .int 0, .int 0, .int 0])), ((u 30), .inr (4, [.int 0, .int 0, .int 0, .int 0, .int 0, .int 0, .int 0, .int 0])), ((u 31), .inr (4, [.int 0, .int 0, .int 0, .int 0, .int 0, .int 0, .int 0, .int 0])), ((u 32), .inr (4, [.int 0, .int 0, .int 0, .int 0, .int 0, .int 0, .int 0, .int 0])), ((u 33), .inr (4, [.int 0, .int 0, .int 0, .int 0, .int 0, .int 0, .int 0, .int 0])), ((u 34), .inr (4, [.int 0, .int 0, .int 0, .int 0, .int 0, .int 0, .int 0, .int 0])), ((u 35), .inr (1, [.int 0, .ref (u 36), .ref (u 37), .ref (u 38)])), ((u 36), .inl (gc G 1, 40, .inl (fun _ => 0))), ((u 37), .inl (gc G 1, 40, .inl (fun _ => 0))), ((u 38), .inl (gc G 1, 40, .inl (fun _ => 0))), ((u 39), .inr (0, [.int 0]))] := rfl
  have r : ((mwX (G0 G q0 u qm v) 0 x0).set 8 (ga (G0 G q0 u qm v) 8, .inl (gc (G0 G q0 u qm v) 4, 17, .inr (.inr (.inr (.inr (fun _ => none))))))).set 23 (ga (G0 G q0 u qm v) 23, .inl (gc (G0 G q0 u qm v) 3, 10, .inr (.inr (.inr (.inr (va_up (va_up (va_up (va_up (va_up (va_up (va_up (va_up (va_up (va_up (fun _ => none) 0 (some (u 25))) 1 (some (u 26))) 2 (some (u 27))) 3 (some (u 28))) 4 (some (u 29))) 5 (some (u 30))) 6 (some (u 31))) 7 (some (u 32))) 8 (some (u 33))) 9 (some (u 34)))))))) = [(ga (G0 G q0 u qm v) 0, .inr (10, oX10 (G0 G q0 u qm v) x0)), (ga (G0 G q0 u qm v) 1, .inr (7, oX7 (G0 G q0 u qm v) x0)), (ga (G0 G q0 u qm v) 2, .inl (gc (G0 G q0 u qm v) 0, 600, .inl (x0 3))), (ga (G0 G q0 u qm v) 3, .inl (gc (G0 G q0 u qm v) 1, 7, .inl (x0 7))), (ga (G0 G q0 u qm v) 4, .inr (6, oX6 (G0 G q0 u qm v) x0)), (ga (G0 G q0 u qm v) 5, .inl (gc (G0 G q0 u qm v) 1, 10, .inl (x0 11))), (ga (G0 G q0 u qm v) 6, .inl (gc (G0 G q0 u qm v) 1, 70, .inl (x0 12))), (ga (G0 G q0 u qm v) 7, .inr (8, oX8 (G0 G q0 u qm v) x0)), (ga (G0 G q0 u qm v) 8, .inl (gc (G0 G q0 u qm v) 4, 17, .inr (.inr (.inr (.inr (fun _ => none)))))), (ga (G0 G q0 u qm v) 9, .inr (5, oX5 (G0 G q0 u qm v) x0)), (ga (G0 G q0 u qm v) 10, .inl (gc (G0 G q0 u qm v) 1, 16, .inl (x0 16))), (ga (G0 G q0 u qm v) 11, .inl (gc (G0 G q0 u qm v) 2, 16, .inl (x0 17))), (ga (G0 G q0 u qm v) 12, .inl (gc (G0 G q0 u qm v) 1, 10, .inl (x0 18))), (ga (G0 G q0 u qm v) 13, .inl (gc (G0 G q0 u qm v) 1, 10, .inl (x0 19))), (ga (G0 G q0 u qm v) 14, .inr (3, oX3 (G0 G q0 u qm v) x0)), (ga (G0 G q0 u qm v) 15, .inl (gc (G0 G q0 u qm v) 1, 10, .inl (x0 21))), (ga (G0 G q0 u qm v) 16, .inl (gc (G0 G q0 u qm v) 1, 10, .inl (x0 22))), (ga (G0 G q0 u qm v) 17, .inl (gc (G0 G q0 u qm v) 1, 10, .inl (x0 23))), (ga (G0 G q0 u qm v) 18, .inl (gc (G0 G q0 u qm v) 1, 10, .inl (x0 24))), (ga (G0 G q0 u qm v) 19, .inr (2, oX2 (G0 G q0 u qm v) x0)), (ga (G0 G q0 u qm v) 20, .inl (gc (G0 G q0 u qm v) 2, 60, .inl (x0 26))), (ga (G0 G q0 u qm v) 21, .inl (gc (G0 G q0 u qm v) 1, 17, .inl (x0 27))), (ga (G0 G q0 u qm v) 22, .inl (gc (G0 G q0 u qm v) 1, 17, .inl (x0 28))), (ga (G0 G q0 u qm v) 23, .inl (gc (G0 G q0 u qm v) 3, 10, .inr (.inr (.inr (.inr (va_up (va_up (va_up (va_up (va_up (va_up (va_up (va_up (va_up (va_up (fun _ => none) 0 (some (u 25))) 1 (some (u 26))) 2 (some (u 27))) 3 (some (u 28))) 4 (some (u 29))) 5 (some (u 30))) 6 (some (u 31))) 7 (some (u 32))) 8 (some (u 33))) 9 (some (u 34)))))))), (ga (G0 G q0 u qm v) 24, .inl (gc (G0 G q0 u qm v) 1, 10, .inl (x0 30))), (ga (G0 G q0 u qm v) 25, .inr (0, oX0 x0 1)), (ga (G0 G q0 u qm v) 26, .inr (4, oX4 x0 0)), (ga (G0 G q0 u qm v) 27, .inr (4, oX4 x0 1)), (ga (G0 G q0 u qm v) 28, .inr (4, oX4 x0 2)), (ga (G0 G q0 u qm v) 29, .inr (4, oX4 x0 3)), (ga (G0 G q0 u qm v) 30, .inr (4, oX4 x0 4)), (ga (G0 G q0 u qm v) 31, .inr (4, oX4 x0 5)), (ga (G0 G q0 u qm v) 32, .inr (4, oX4 x0 6)), (ga (G0 G q0 u qm v) 33, .inr (4, oX4 x0 7)), (ga (G0 G q0 u qm v) 34, .inr (4, oX4 x0 8)), (ga (G0 G q0 u qm v) 35, .inr (4, oX4 x0 9)), (ga (G0 G q0 u qm v) 36, .inr (1, oX1 (G0 G q0 u qm v) x0)), (ga (G0 G q0 u qm v) 37, .inl (gc (G0 G q0 u qm v) 1, 40, .inl (x0 46))), (ga (G0 G q0 u qm v) 38, .inl (gc (G0 G q0 u qm v) 1, 40, .inl (x0 47))), (ga (G0 G q0 u qm v) 39, .inl (gc (G0 G q0 u qm v) 1, 40, .inl (x0 48))), (ga (G0 G q0 u qm v) 40, .inr (0, oX0 x0 0))] := by simp only [mwX, List.set]
  rw [e, snocs_eq, List.nil_append, r]
  exact (cons_eq rfl (cons_eq rfl (cons_eq rfl (cons_eq rfl (cons_eq rfl (cons_eq rfl (cons_eq rfl (cons_eq rfl (cons_eq rfl (cons_eq rfl (cons_eq rfl (cons_eq rfl (cons_eq rfl (cons_eq rfl (cons_eq rfl (cons_eq rfl (cons_eq rfl (cons_eq rfl (cons_eq rfl (cons_eq rfl (cons_eq rfl (cons_eq rfl (cons_eq rfl (cons_eq rfl (cons_eq rfl (cons_eq rfl (cons_eq rfl (cons_eq rfl (cons_eq rfl (cons_eq rfl (cons_eq rfl (cons_eq rfl (cons_eq rfl (cons_eq rfl (cons_eq rfl (cons_eq rfl (cons_eq rfl (cons_eq rfl (cons_eq rfl (cons_eq rfl (cons_eq rfl rfl)))))))))))))))))))))))))))))))))))))))))
theorem woS {G : GG} {q0 qm : Nat} {u v : Nat → Nat} {x : Me} : ((mwX (G0 G q0 u qm v) 0 x).set 8 (ga (G0 G q0 u qm v) 8, .inl (gc (G0 G q0 u qm v) 4, 17, .inr (.inr (.inr (.inr (fun j => if j < 0 then some (ga (G0 G q0 u qm v) (69 + j)) else none))))))).set 23 (ga (G0 G q0 u qm v) 23, .inl (gc (G0 G q0 u qm v) 3, 10, .inr (.inr (.inr (.inr (fun j => some (ga (G0 G q0 u qm v) (26 + j)))))))) = mwX (G0 G q0 u qm v) 0 x := by
  simp only [mwX, List.set]
theorem woA {G : GG} {q0 qm : Nat} {u v : Nat → Nat} {x mo : Me} {A B : Nat × va_E} : ((mw (G0 G q0 u qm v) 0 x mo).set 8 A).set 23 B = (((mwX (G0 G q0 u qm v) 0 x).set 8 A).set 23 B) ++ mwM (G0 G q0 u qm v) mo := by
  have l1 : (mwX (G0 G q0 u qm v) 0 x).length = 41 := rfl
  show (((mwX (G0 G q0 u qm v) 0 x ++ (mwM (G0 G q0 u qm v) mo ++ [])).set 8 A).set 23 B) = _
  rw [List.append_nil, List.set_append_left _ _ (by omega), List.set_append_left _ _ (by rw [List.length_set]; omega)]
set_option maxHeartbeats 4000000 in
set_option maxRecDepth 100000 in
theorem wo_start {G : GG} {q0 qm : Nat} {u v : Nat → Nat} {H : Heap} (hM : WoP G (wo_X11_init G (wo_X10_init G [] q0 u) qm v) H) : MemP (G0 G q0 u qm v) 0 x0 m0 H := by
  rw [woM (q0 := q0) (u := u), woX (qm := qm) (v := v), ← woA] at hM
  have l1 : 23 < ((mw (G0 G q0 u qm v) 0 x0 m0).set 8 (ga (G0 G q0 u qm v) 8, .inl (gc (G0 G q0 u qm v) 4, 17, .inr (.inr (.inr (.inr (fun _ => none))))))).length := by
    rw [List.length_set]
    show 23 < (mwX (G0 G q0 u qm v) 0 x0 ++ (mwM (G0 G q0 u qm v) m0 ++ mwW (G0 G q0 u qm v) 0 x0)).length
    rw [List.length_append]
    have : (mwX (G0 G q0 u qm v) 0 x0).length = 41 := rfl
    omega
  have e23 : (((mw (G0 G q0 u qm v) 0 x0 m0).set 8 (ga (G0 G q0 u qm v) 8, .inl (gc (G0 G q0 u qm v) 4, 17, .inr (.inr (.inr (.inr (fun _ => none))))))).set 23 (ga (G0 G q0 u qm v) 23, .inl (gc (G0 G q0 u qm v) 3, 10, .inr (.inr (.inr (.inr (va_up (va_up (va_up (va_up (va_up (va_up (va_up (va_up (va_up (va_up (fun _ => none) 0 (some (u 25))) 1 (some (u 26))) 2 (some (u 27))) 3 (some (u 28))) 4 (some (u 29))) 5 (some (u 30))) 6 (some (u 31))) 7 (some (u 32))) 8 (some (u 33))) 9 (some (u 34)))))))))[23]? = some (ga (G0 G q0 u qm v) 23, .inl (gc (G0 G q0 u qm v) 3, 10, .inr (.inr (.inr (.inr (va_up (va_up (va_up (va_up (va_up (va_up (va_up (va_up (va_up (va_up (fun _ => none) 0 (some (u 25))) 1 (some (u 26))) 2 (some (u 27))) 3 (some (u 28))) 4 (some (u 29))) 5 (some (u 30))) 6 (some (u 31))) 7 (some (u 32))) 8 (some (u 33))) 9 (some (u 34)))))))) := List.getElem?_set_self l1
  have h0 := hM.1 23 _ e23
  have hc : vp_cell (gc (G0 G q0 u qm v) 3) (10, .inr (.inr (.inr (.inr (va_up (va_up (va_up (va_up (va_up (va_up (va_up (va_up (va_up (va_up (fun _ => none) 0 (some (u 25))) 1 (some (u 26))) 2 (some (u 27))) 3 (some (u 28))) 4 (some (u 29))) 5 (some (u 30))) 6 (some (u 31))) 7 (some (u 32))) 8 (some (u 33))) 9 (some (u 34))))))) = vp_cell (gc (G0 G q0 u qm v) 3) (10, .inr (.inr (.inr (.inr (fun j => some (ga (G0 G q0 u qm v) (26 + j))))))) := by
    rw [vp_cell_q, vp_cell_q]
    unfold arrV
    congr 1
  have hP := hM.1.set (H1 := H) (e := .inl (gc (G0 G q0 u qm v) 3, 10, .inr (.inr (.inr (.inr (fun j => some (ga (G0 G q0 u qm v) (26 + j)))))))) hM.2 e23 (by show H[_]? = some (vp_cell _ _); rw [← hc]; exact h0) (fun _ _ => rfl)
  have hD := hM.2.set (e := .inl (gc (G0 G q0 u qm v) 3, 10, .inr (.inr (.inr (.inr (fun j => some (ga (G0 G q0 u qm v) (26 + j)))))))) e23
  have e8 : (fun _ : Nat => (none : Option Nat)) = (fun j => if j < 0 then some (ga (G0 G q0 u qm v) (69 + j)) else none) := by
    funext j
    rw [if_neg (by omega)]
  have e9 : mwX (G0 G q0 u qm v) 0 x0 ++ mwM (G0 G q0 u qm v) m0 = mw (G0 G q0 u qm v) 0 x0 m0 := by
    show _ = mwX (G0 G q0 u qm v) 0 x0 ++ (mwM (G0 G q0 u qm v) m0 ++ [])
    rw [List.append_nil]
  rw [List.set_set, e8, woA, woS, e9] at hP hD
  exact ⟨hP, hD⟩
