def tmS : Nat → Term := fun i => match i with
  | 7 => .string "RopeRaceModel" 137
  | i => .string "RopeRace$Tape" (92 + 2 * i)
theorem fl_ex : ∀ i, i < 8 → Cond.exactly (tmS i) "java/lang/String" ∈ flatC (Jvm.Cond.and given_1 narrow_1) := by decide +kernel
theorem fl_co : ∀ i, i < 8 → Cond.eq (.field (tmS i) "java/lang/String" "coder" "B") (.int 0) ∈ flatC (Jvm.Cond.and given_1 narrow_1) := by decide +kernel
theorem fl_ar : ∀ i, i < 8 → Cond.arrayOf (.field (tmS i) "java/lang/String" "value" "[B") .byte ∈ flatC (Jvm.Cond.and given_1 narrow_1) := by decide +kernel
theorem fl_le : ∀ i, i < 8 → Cond.eq (.length (.field (tmS i) "java/lang/String" "value" "[B")) (.int (Int32.ofNat (lenS.getD i 0))) ∈ flatC (Jvm.Cond.and given_1 narrow_1) := by decide +kernel
theorem fl_el : ∀ i, i < 8 → ∀ j, j < lenS.getD i 0 → Cond.eq (.elem (.field (tmS i) "java/lang/String" "value" "[B") (.int (Int32.ofNat j))) (.int ((bytS.getD i []).getD j 0)) ∈ flatC (Jvm.Cond.and given_1 narrow_1) := by decide +kernel
theorem fl_ne : ∀ i, i < 8 → ∀ j, j < 8 → i ≠ j → (Cond.not (Cond.eq (tmS i) (tmS j)) ∈ flatC (Jvm.Cond.and given_1 narrow_1) ∨ Cond.not (Cond.eq (tmS j) (tmS i)) ∈ flatC (Jvm.Cond.and given_1 narrow_1)) := by decide +kernel
theorem fl_sa : ∀ i, i < 3 → Cond.arrayOf (.static "RopeRace" (nS i) "[I") .int ∈ flatC (Jvm.Cond.and given_1 narrow_1) := by decide +kernel
theorem fl_sl : ∀ i, i < 3 → Cond.eq (.length (.static "RopeRace" (nS i) "[I")) (.int (Int32.ofNat 7)) ∈ flatC (Jvm.Cond.and given_1 narrow_1) := by decide +kernel
theorem fl_se : ∀ i, i < 3 → ∀ j, j < 7 → Cond.eq (.elem (.static "RopeRace" (nS i) "[I") (.int (Int32.ofNat j))) (.int ((tS i).getD j 0)) ∈ flatC (Jvm.Cond.and given_1 narrow_1) := by decide +kernel
theorem w_ls : ∀ i, i < 3 → Cond.laysStatic "RopeRace" (nS i) "[I" ∈ lw_tbl
  | 0, _ => tm2 (List.mem_of_getElem? (i := 187) rfl)
  | 1, _ => tm2 (List.mem_of_getElem? (i := 189) rfl)
  | 2, _ => tm2 (List.mem_of_getElem? (i := 214) rfl)
  | n + 3, h => absurd h (by omega)
theorem w_sr : ∀ i, i < 7 → Cond.stringRef "RopeRace$Tape" (92 + 2 * i) (txS.getD i "") ∈ lw_tbl
  | 0, _ => tm2 (List.mem_of_getElem? (i := 116) rfl)
  | 1, _ => tm2 (List.mem_of_getElem? (i := 117) rfl)
  | 2, _ => tm2 (List.mem_of_getElem? (i := 118) rfl)
  | 3, _ => tm2 (List.mem_of_getElem? (i := 119) rfl)
  | 4, _ => tm2 (List.mem_of_getElem? (i := 120) rfl)
  | 5, _ => tm2 (List.mem_of_getElem? (i := 121) rfl)
  | 6, _ => tm2 (List.mem_of_getElem? (i := 122) rfl)
  | n + 7, h => absurd h (by omega)
set_option maxHeartbeats 4000000 in
set_option maxRecDepth 100000 in
theorem env_start {p : Program} {s : State} {m : MethodId} {meth : Method} {c : Code} {b L : Nat} {xs : Nat → Int32} (C0 : lw_At p s m meth c b L xs) : ∃ G : GG, gA G = (fun q : Nat => s.heap.size ≤ q) ∧ EnvP G s ∧ AOs s := by
  obtain ⟨hx, hb, hr, hml, hown, hts, hX, hbl, hlocks, hgv⟩ := C0
  have hs := flat_of_before _ hgv
  have hA : ∀ a : Nat, a < s.heap.size → ¬ (fun q : Nat => s.heap.size ≤ q) a := fun a h => Nat.not_le.mpr h
  obtain ⟨c0, i0, k0⟩ := u_known (C := RX0) (T := TX0) (N := 1) (n := 1) hts (fun w h => (laX0 w h).1) (hts (.instantiable RX0 1) w_1_157)
  obtain ⟨c1, i1, k1⟩ := u_known (C := RX1) (T := TX1) (N := 4) (n := 4) hts (fun w h => (laX1 w h).1) (hts (.instantiable RX1 4) w_2_20)
  obtain ⟨c2, i2, k2⟩ := u_known (C := RX2) (T := TX2) (N := 14) (n := 14) hts (fun w h => (laX2 w h).1) (hts (.instantiable RX2 14) w_1_149)
  obtain ⟨c3, i3, k3⟩ := u_known (C := RX3) (T := TX3) (N := 5) (n := 5) hts (fun w h => (laX3 w h).1) (hts (.instantiable RX3 5) w_1_123)
  obtain ⟨c4, i4, k4⟩ := u_known (C := RX4) (T := TX4) (N := 8) (n := 8) hts (fun w h => (laX4 w h).1) (hts (.instantiable RX4 8) w_1_166)
  obtain ⟨c5, i5, k5⟩ := u_known (C := RX5) (T := TX5) (N := 5) (n := 5) hts (fun w h => (laX5 w h).1) (hts (.instantiable RX5 5) w_1_97)
  obtain ⟨c6, i6, k6⟩ := u_known (C := RX6) (T := TX6) (N := 3) (n := 3) hts (fun w h => (laX6 w h).1) (hts (.instantiable RX6 3) w_1_63)
  obtain ⟨c7, i7, k7⟩ := u_known (C := RX7) (T := TX7) (N := 7) (n := 7) hts (fun w h => (laX7 w h).1) (hts (.instantiable RX7 7) w_1_29)
  obtain ⟨c8, i8, k8⟩ := u_known (C := RX8) (T := TX8) (N := 2) (n := 2) hts (fun w h => (laX8 w h).1) (hts (.instantiable RX8 2) w_1_80)
  obtain ⟨c9, i9, k9⟩ := u_known (C := RX9) (T := TX9) (N := 6) (n := 6) hts (fun w h => (laX9 w h).1) (hts (.instantiable RX9 6) w_2_223)
  obtain ⟨c10, i10, k10⟩ := u_known (C := RX10) (T := TX10) (N := 10) (n := 10) hts (fun w h => (laX10 w h).1) (hts (.instantiable RX10 10) w_1_21)
  obtain ⟨c11, i11, k11⟩ := u_known (C := RX11) (T := TX11) (N := 54) (n := 54) hts (fun w h => (laX11 w h).1) (hts (.instantiable RX11 54) w_4_95)
  obtain ⟨dC, dI, hKc⟩ : ∃ (dC : Nat → ClassId) (dI : Nat → Nat → Nat), ∀ (k : Nat) (q : vw_C), vwCl[k]? = some q → u_Kn s q.1 q.2.1 q.2.2 (dC k) (dI k) := by
    refine ⟨fun k => ([c0, c1, c2, c3, c4, c5, c6, c7, c8, c9, c10, c11] : List ClassId).getD k c0, fun k => ([i0, i1, i2, i3, i4, i5, i6, i7, i8, i9, i10, i11] : List (Nat → Nat)).getD k i0, ?_⟩
    intro k q hq
    match k, hq with
    | 0, hq => cases hq; exact k0
    | 1, hq => cases hq; exact k1
    | 2, hq => cases hq; exact k2
    | 3, hq => cases hq; exact k3
    | 4, hq => cases hq; exact k4
    | 5, hq => cases hq; exact k5
    | 6, hq => cases hq; exact k6
    | 7, hq => cases hq; exact k7
    | 8, hq => cases hq; exact k8
    | 9, hq => cases hq; exact k9
    | 10, hq => cases hq; exact k10
    | 11, hq => cases hq; exact k11
    | k + 12, hq => simp [vwCl] at hq
  have hOR : va_AO "RopeRace$Runner" s := va_AO.of (hts (.arrayOver (.object "RopeRace$Runner")) (tm1 (List.mem_of_getElem? (i := 155) rfl)))
  have hOW : va_AO "RopeRace$Ward" s := va_AO.of (hts (.arrayOver (.object "RopeRace$Ward")) (tm1 (List.mem_of_getElem? (i := 86) rfl)))
  obtain ⟨aB, kB, pB, fB, gB, jB⟩ := Cond.arrayClass_spec (hts (.arrayClass .byte) w_ab)
  obtain ⟨aI, kI, pI, fI, gI, jI⟩ := Cond.arrayClass_spec (hts (.arrayClass .int) w_ai)
  obtain ⟨aZ, kZ, pZ, fZ, gZ, jZ⟩ := Cond.arrayClass_spec (hts (.arrayClass .boolean) w_az)
  obtain ⟨pR, aR, kR, r1, r2, r3, r4, r5⟩ := Cond.arrayOver_spec hOR
  obtain ⟨pW, aW, kW, v1, v2, v3, v4, v5⟩ := Cond.arrayOver_spec hOW
  have hst : ∀ i, i < 3 → ∃ t : Nat, (Term.static "RopeRace" (nS i) "[I").eval #[Value.ref b] s none [] s = some (.ref t) ∧ va_T .int t 7 (fun j => .int ((tS i).getD j 0)) (fun q : Nat => s.heap.size ≤ q) s s.heap := fun i hi =>
    va_Tof (by decide) (hs _ (fl_sa i hi)) (va_eqt (hs _ (fl_sl i hi))) (fun j hj => va_eqt (hs _ (fl_se i hi j hj))) hA
  obtain ⟨t0, e0, T0⟩ := hst 0 (by decide)
  obtain ⟨t1, e1, T1⟩ := hst 1 (by decide)
  obtain ⟨t2, e2, T2⟩ := hst 2 (by decide)
  have hRi : (Cond.initialized "RopeRace").before #[Value.ref b] s = true := hts _ w_1_1
  obtain ⟨adK, adV, hSS, had⟩ := vk_Sof (args := #[Value.ref b]) (s := s) (N := 8) (tm := tmS) (len := lenS) (byt := bytS) (by decide) (fun i hi => hs _ (fl_ex i hi)) (fun i hi => hs _ (fl_co i hi)) (fun i hi => hs _ (fl_ar i hi)) (fun i hi => hs _ (fl_le i hi)) (fun i hi j hj => hs _ (fl_el i hi j hj)) (fun i j hi hj hij => (fl_ne i hi j hj hij).imp (hs _) (hs _)) hA
  refine ⟨(fun q : Nat => s.heap.size ≤ q, (dC, dI), fun _ => 0, fun k => ([aB, aI, aZ, aR, aW] : List ClassId).getD k aB, fun k => ([t0, t1, t2] : List Nat).getD k t0, adK, adV), rfl, ⟨⟨hKc, ?_⟩, ?_, fun q h => h, ?_, ?_, ?_, hSS, ?_, ?_⟩, hOR, hOW⟩
  · intro k q hk
    match k, hk with
    | 0, hk => cases hk; exact ⟨fun n z => ⟨fun k h => (by cases h), kB, gB, pB, jB⟩, fB⟩
    | 1, hk => cases hk; exact ⟨fun n z => ⟨fun k h => (by cases h), kI, gI, pI, jI⟩, fI⟩
    | 2, hk => cases hk; exact ⟨fun n z => ⟨fun k h => (by cases h), kZ, gZ, pZ, jZ⟩, fZ⟩
    | 3, hk => cases hk; exact ⟨fun n z => ⟨fun k h => (by cases h), kR, r3, pR, r4⟩, kR, pR, r3, r4, r1, r5⟩
    | 4, hk => cases hk; exact ⟨fun n z => ⟨fun k h => (by cases h), kW, v3, pW, v4⟩, kW, pW, v3, v4, v1, v5⟩
    | k + 5, hk => simp [tyL] at hk
  · intro w hw hg
    cases hgw : goodWord w with
    | true => exact word_at (State.WarmedH.refl s) (good_of_word hgw) (hts w hw)
    | false =>
      rw [hgw] at hg
      cases w with
      | fieldLinkNest a i b n d h => exact va_Nw.of rfl (hts _ hw)
      | methodLinkNest a i y h => exact va_Nw.of rfl (hts _ hw)
      | _ => simp [isNest] at hg
  · intro i hi
    match i, hi with
    | 0, hi => exact ⟨va_Zref (hts _ (w_ls 0 hi)) hRi e0 hA, T0⟩
    | 1, hi => exact ⟨va_Zref (hts _ (w_ls 1 hi)) hRi e1 hA, T1⟩
    | 2, hi => exact ⟨va_Zref (hts _ (w_ls 2 hi)) hRi e2 hA, T2⟩
    | n + 3, h => exact absurd h (by omega)
  · exact va_Zof (hts (.laysStatic "java/lang/String" "COMPACT_STRINGS" "Z") (tm2 (List.mem_of_getElem? (i := 136) rfl))) (hts _ w_1_14) (va_eqi (hs (.eq (.static "java/lang/String" "COMPACT_STRINGS" "Z") (.int 1)) (by decide +kernel))) hA
  · exact va_Zqof (hts (.laysStatic "jdk/internal/util/Preconditions" "SIOOBE_FORMATTER" "Ljava/util/function/BiFunction;") (tm2 (List.mem_of_getElem? (i := 152) rfl))) (hts _ w_1_16) (hs (.isRef (.static "jdk/internal/util/Preconditions" "SIOOBE_FORMATTER" "Ljava/util/function/BiFunction;")) (by decide +kernel)) hA
  · intro i hi
    match i, hi with
    | 0, hi => exact vk_R.of (hts _ (w_sr 0 hi)) (had 0 (by decide))
    | 1, hi => exact vk_R.of (hts _ (w_sr 1 hi)) (had 1 (by decide))
    | 2, hi => exact vk_R.of (hts _ (w_sr 2 hi)) (had 2 (by decide))
    | 3, hi => exact vk_R.of (hts _ (w_sr 3 hi)) (had 3 (by decide))
    | 4, hi => exact vk_R.of (hts _ (w_sr 4 hi)) (had 4 (by decide))
    | 5, hi => exact vk_R.of (hts _ (w_sr 5 hi)) (had 5 (by decide))
    | 6, hi => exact vk_R.of (hts _ (w_sr 6 hi)) (had 6 (by decide))
    | n + 7, h => exact absurd h (by omega)
  · exact vk_R.of (hts (.stringRef "RopeRaceModel" 137 "run laps bend loose bar apart false ") (tm5 (List.mem_of_getElem? (i := 46) rfl))) (had 7 (by decide))
def x0 : Me := fun f _ => match f with
  | 9 => -1
  | 25 => 20
  | 36 => -1
  | _ => 0
def ch17 : Nat → Int32 := (upd (upd (upd (upd (upd (upd (upd (upd (upd (upd (upd (upd (upd (upd (upd (upd (upd (fun _ => 0) 0 (-1)) 1 (-1)) 2 (-1)) 3 (-1)) 4 (-1)) 5 (-1)) 6 (-1)) 7 (-1)) 8 (-1)) 9 (-1)) 10 (-1)) 11 (-1)) 12 (-1)) 13 (-1)) 14 (-1)) 15 (-1)) 16 (-1))
def m0 : Me := fun f => match f with
  | 16 => fun _ => -1
  | 18 => ch17
  | 19 => ch17
  | 35 => fun _ => 20
  | 45 => fun _ => -1
  | _ => fun _ => 0
theorem ch17_in : ∀ i, i < 17 → ch17 i = -1 := by decide
def ad0 (q0 : Nat) (u : Nat → Nat) (qm : Nat) (v : Nat → Nat) : Nat → Nat := fun o => if o = 0 then q0 else if o ≤ 40 then u (o - 1) else if o = 41 then qm else v (o - 42)
def G0 (G : GG) (q0 : Nat) (u : Nat → Nat) (qm : Nat) (v : Nat → Nat) : GG := (G.1, G.2.1, ad0 q0 u qm v, G.2.2.2.1, G.2.2.2.2.1, G.2.2.2.2.2.1, G.2.2.2.2.2.2)
theorem gz_0 {G : GG} {q0 qm : Nat} {u v : Nat → Nat} : ga (G0 G q0 u qm v) 0 = q0 := rfl
theorem gz_1 {G : GG} {q0 qm : Nat} {u v : Nat → Nat} : ga (G0 G q0 u qm v) 1 = u 0 := rfl
theorem gz_2 {G : GG} {q0 qm : Nat} {u v : Nat → Nat} : ga (G0 G q0 u qm v) 2 = u 1 := rfl
theorem gz_3 {G : GG} {q0 qm : Nat} {u v : Nat → Nat} : ga (G0 G q0 u qm v) 3 = u 2 := rfl
theorem gz_4 {G : GG} {q0 qm : Nat} {u v : Nat → Nat} : ga (G0 G q0 u qm v) 4 = u 3 := rfl
theorem gz_5 {G : GG} {q0 qm : Nat} {u v : Nat → Nat} : ga (G0 G q0 u qm v) 5 = u 4 := rfl
theorem gz_6 {G : GG} {q0 qm : Nat} {u v : Nat → Nat} : ga (G0 G q0 u qm v) 6 = u 5 := rfl
theorem gz_7 {G : GG} {q0 qm : Nat} {u v : Nat → Nat} : ga (G0 G q0 u qm v) 7 = u 6 := rfl
theorem gz_8 {G : GG} {q0 qm : Nat} {u v : Nat → Nat} : ga (G0 G q0 u qm v) 8 = u 7 := rfl
theorem gz_9 {G : GG} {q0 qm : Nat} {u v : Nat → Nat} : ga (G0 G q0 u qm v) 9 = u 8 := rfl
theorem gz_10 {G : GG} {q0 qm : Nat} {u v : Nat → Nat} : ga (G0 G q0 u qm v) 10 = u 9 := rfl
theorem gz_11 {G : GG} {q0 qm : Nat} {u v : Nat → Nat} : ga (G0 G q0 u qm v) 11 = u 10 := rfl
theorem gz_12 {G : GG} {q0 qm : Nat} {u v : Nat → Nat} : ga (G0 G q0 u qm v) 12 = u 11 := rfl
theorem gz_13 {G : GG} {q0 qm : Nat} {u v : Nat → Nat} : ga (G0 G q0 u qm v) 13 = u 12 := rfl
theorem gz_14 {G : GG} {q0 qm : Nat} {u v : Nat → Nat} : ga (G0 G q0 u qm v) 14 = u 13 := rfl
theorem gz_15 {G : GG} {q0 qm : Nat} {u v : Nat → Nat} : ga (G0 G q0 u qm v) 15 = u 14 := rfl
theorem gz_16 {G : GG} {q0 qm : Nat} {u v : Nat → Nat} : ga (G0 G q0 u qm v) 16 = u 15 := rfl
theorem gz_17 {G : GG} {q0 qm : Nat} {u v : Nat → Nat} : ga (G0 G q0 u qm v) 17 = u 16 := rfl
theorem gz_18 {G : GG} {q0 qm : Nat} {u v : Nat → Nat} : ga (G0 G q0 u qm v) 18 = u 17 := rfl
theorem gz_19 {G : GG} {q0 qm : Nat} {u v : Nat → Nat} : ga (G0 G q0 u qm v) 19 = u 18 := rfl
theorem gz_20 {G : GG} {q0 qm : Nat} {u v : Nat → Nat} : ga (G0 G q0 u qm v) 20 = u 19 := rfl
theorem gz_21 {G : GG} {q0 qm : Nat} {u v : Nat → Nat} : ga (G0 G q0 u qm v) 21 = u 20 := rfl
theorem gz_22 {G : GG} {q0 qm : Nat} {u v : Nat → Nat} : ga (G0 G q0 u qm v) 22 = u 21 := rfl
theorem gz_23 {G : GG} {q0 qm : Nat} {u v : Nat → Nat} : ga (G0 G q0 u qm v) 23 = u 22 := rfl
theorem gz_24 {G : GG} {q0 qm : Nat} {u v : Nat → Nat} : ga (G0 G q0 u qm v) 24 = u 23 := rfl
theorem gz_25 {G : GG} {q0 qm : Nat} {u v : Nat → Nat} : ga (G0 G q0 u qm v) 25 = u 24 := rfl
theorem gz_26 {G : GG} {q0 qm : Nat} {u v : Nat → Nat} : ga (G0 G q0 u qm v) 26 = u 25 := rfl
theorem gz_27 {G : GG} {q0 qm : Nat} {u v : Nat → Nat} : ga (G0 G q0 u qm v) 27 = u 26 := rfl
theorem gz_28 {G : GG} {q0 qm : Nat} {u v : Nat → Nat} : ga (G0 G q0 u qm v) 28 = u 27 := rfl
theorem gz_29 {G : GG} {q0 qm : Nat} {u v : Nat → Nat} : ga (G0 G q0 u qm v) 29 = u 28 := rfl
theorem gz_30 {G : GG} {q0 qm : Nat} {u v : Nat → Nat} : ga (G0 G q0 u qm v) 30 = u 29 := rfl
theorem gz_31 {G : GG} {q0 qm : Nat} {u v : Nat → Nat} : ga (G0 G q0 u qm v) 31 = u 30 := rfl
theorem gz_32 {G : GG} {q0 qm : Nat} {u v : Nat → Nat} : ga (G0 G q0 u qm v) 32 = u 31 := rfl
theorem gz_33 {G : GG} {q0 qm : Nat} {u v : Nat → Nat} : ga (G0 G q0 u qm v) 33 = u 32 := rfl
theorem gz_34 {G : GG} {q0 qm : Nat} {u v : Nat → Nat} : ga (G0 G q0 u qm v) 34 = u 33 := rfl
theorem gz_35 {G : GG} {q0 qm : Nat} {u v : Nat → Nat} : ga (G0 G q0 u qm v) 35 = u 34 := rfl
theorem gz_36 {G : GG} {q0 qm : Nat} {u v : Nat → Nat} : ga (G0 G q0 u qm v) 36 = u 35 := rfl
theorem gz_37 {G : GG} {q0 qm : Nat} {u v : Nat → Nat} : ga (G0 G q0 u qm v) 37 = u 36 := rfl
theorem gz_38 {G : GG} {q0 qm : Nat} {u v : Nat → Nat} : ga (G0 G q0 u qm v) 38 = u 37 := rfl
theorem gz_39 {G : GG} {q0 qm : Nat} {u v : Nat → Nat} : ga (G0 G q0 u qm v) 39 = u 38 := rfl
theorem gz_40 {G : GG} {q0 qm : Nat} {u v : Nat → Nat} : ga (G0 G q0 u qm v) 40 = u 39 := rfl
theorem gz_41 {G : GG} {q0 qm : Nat} {u v : Nat → Nat} : ga (G0 G q0 u qm v) 41 = qm := rfl
theorem gz_42 {G : GG} {q0 qm : Nat} {u v : Nat → Nat} : ga (G0 G q0 u qm v) 42 = v 0 := rfl
theorem gz_43 {G : GG} {q0 qm : Nat} {u v : Nat → Nat} : ga (G0 G q0 u qm v) 43 = v 1 := rfl
theorem gz_44 {G : GG} {q0 qm : Nat} {u v : Nat → Nat} : ga (G0 G q0 u qm v) 44 = v 2 := rfl
theorem gz_45 {G : GG} {q0 qm : Nat} {u v : Nat → Nat} : ga (G0 G q0 u qm v) 45 = v 3 := rfl
theorem gz_46 {G : GG} {q0 qm : Nat} {u v : Nat → Nat} : ga (G0 G q0 u qm v) 46 = v 4 := rfl
theorem gz_47 {G : GG} {q0 qm : Nat} {u v : Nat → Nat} : ga (G0 G q0 u qm v) 47 = v 5 := rfl
theorem gz_48 {G : GG} {q0 qm : Nat} {u v : Nat → Nat} : ga (G0 G q0 u qm v) 48 = v 6 := rfl
theorem gz_49 {G : GG} {q0 qm : Nat} {u v : Nat → Nat} : ga (G0 G q0 u qm v) 49 = v 7 := rfl
theorem gz_50 {G : GG} {q0 qm : Nat} {u v : Nat → Nat} : ga (G0 G q0 u qm v) 50 = v 8 := rfl
theorem gz_51 {G : GG} {q0 qm : Nat} {u v : Nat → Nat} : ga (G0 G q0 u qm v) 51 = v 9 := rfl
theorem gz_52 {G : GG} {q0 qm : Nat} {u v : Nat → Nat} : ga (G0 G q0 u qm v) 52 = v 10 := rfl
theorem gz_53 {G : GG} {q0 qm : Nat} {u v : Nat → Nat} : ga (G0 G q0 u qm v) 53 = v 11 := rfl
theorem gz_54 {G : GG} {q0 qm : Nat} {u v : Nat → Nat} : ga (G0 G q0 u qm v) 54 = v 12 := rfl
theorem gz_55 {G : GG} {q0 qm : Nat} {u v : Nat → Nat} : ga (G0 G q0 u qm v) 55 = v 13 := rfl
theorem gz_56 {G : GG} {q0 qm : Nat} {u v : Nat → Nat} : ga (G0 G q0 u qm v) 56 = v 14 := rfl
theorem gz_57 {G : GG} {q0 qm : Nat} {u v : Nat → Nat} : ga (G0 G q0 u qm v) 57 = v 15 := rfl
theorem gz_58 {G : GG} {q0 qm : Nat} {u v : Nat → Nat} : ga (G0 G q0 u qm v) 58 = v 16 := rfl
theorem gz_59 {G : GG} {q0 qm : Nat} {u v : Nat → Nat} : ga (G0 G q0 u qm v) 59 = v 17 := rfl
theorem gz_60 {G : GG} {q0 qm : Nat} {u v : Nat → Nat} : ga (G0 G q0 u qm v) 60 = v 18 := rfl
theorem gz_61 {G : GG} {q0 qm : Nat} {u v : Nat → Nat} : ga (G0 G q0 u qm v) 61 = v 19 := rfl
theorem gz_62 {G : GG} {q0 qm : Nat} {u v : Nat → Nat} : ga (G0 G q0 u qm v) 62 = v 20 := rfl
theorem gz_63 {G : GG} {q0 qm : Nat} {u v : Nat → Nat} : ga (G0 G q0 u qm v) 63 = v 21 := rfl
theorem gz_64 {G : GG} {q0 qm : Nat} {u v : Nat → Nat} : ga (G0 G q0 u qm v) 64 = v 22 := rfl
theorem gz_65 {G : GG} {q0 qm : Nat} {u v : Nat → Nat} : ga (G0 G q0 u qm v) 65 = v 23 := rfl
theorem gz_66 {G : GG} {q0 qm : Nat} {u v : Nat → Nat} : ga (G0 G q0 u qm v) 66 = v 24 := rfl
theorem gz_67 {G : GG} {q0 qm : Nat} {u v : Nat → Nat} : ga (G0 G q0 u qm v) 67 = v 25 := rfl
theorem gz_68 {G : GG} {q0 qm : Nat} {u v : Nat → Nat} : ga (G0 G q0 u qm v) 68 = v 26 := rfl
theorem gz_c {G : GG} {q0 qm : Nat} {u v : Nat → Nat} (k : Nat) : gc (G0 G q0 u qm v) k = gc G k := rfl
theorem xz_1 (i : Nat) : x0 1 i = 0 := rfl
theorem xz_2 (i : Nat) : x0 2 i = 0 := rfl
theorem xz_3 : x0 3 = fun _ => 0 := rfl
theorem xz_4 (i : Nat) : x0 4 i = 0 := rfl
theorem xz_5 (i : Nat) : x0 5 i = 0 := rfl
theorem xz_6 (i : Nat) : x0 6 i = 0 := rfl
theorem xz_7 : x0 7 = fun _ => 0 := rfl
theorem xz_8 (i : Nat) : x0 8 i = 0 := rfl
theorem xz_9 (i : Nat) : x0 9 i = -1 := rfl
theorem xz_10 (i : Nat) : x0 10 i = 0 := rfl
theorem xz_11 : x0 11 = fun _ => 0 := rfl
theorem xz_12 : x0 12 = fun _ => 0 := rfl
theorem xz_13 (i : Nat) : x0 13 i = 0 := rfl
theorem xz_15 (i : Nat) : x0 15 i = 0 := rfl
theorem xz_16 : x0 16 = fun _ => 0 := rfl
theorem xz_17 : x0 17 = fun _ => 0 := rfl
theorem xz_18 : x0 18 = fun _ => 0 := rfl
theorem xz_19 : x0 19 = fun _ => 0 := rfl
theorem xz_20 (i : Nat) : x0 20 i = 0 := rfl
theorem xz_21 : x0 21 = fun _ => 0 := rfl
theorem xz_22 : x0 22 = fun _ => 0 := rfl
theorem xz_23 : x0 23 = fun _ => 0 := rfl
theorem xz_24 : x0 24 = fun _ => 0 := rfl
theorem xz_25 (i : Nat) : x0 25 i = 20 := rfl
theorem xz_26 : x0 26 = fun _ => 0 := rfl
theorem xz_27 : x0 27 = fun _ => 0 := rfl
theorem xz_28 : x0 28 = fun _ => 0 := rfl
theorem xz_29 (i : Nat) : x0 29 i = 0 := rfl
theorem xz_30 : x0 30 = fun _ => 0 := rfl
theorem xz_31 (i : Nat) : x0 31 i = 0 := rfl
theorem xz_32 (i : Nat) : x0 32 i = 0 := rfl
theorem xz_33 (i : Nat) : x0 33 i = 0 := rfl
theorem xz_34 (i : Nat) : x0 34 i = 0 := rfl
theorem xz_35 (i : Nat) : x0 35 i = 0 := rfl
theorem xz_36 (i : Nat) : x0 36 i = -1 := rfl
theorem xz_37 (i : Nat) : x0 37 i = 0 := rfl
theorem xz_38 (i : Nat) : x0 38 i = 0 := rfl
theorem xz_39 (i : Nat) : x0 39 i = 0 := rfl
theorem xz_40 (i : Nat) : x0 40 i = 0 := rfl
theorem xz_41 (i : Nat) : x0 41 i = 0 := rfl
theorem xz_42 (i : Nat) : x0 42 i = 0 := rfl
theorem xz_43 (i : Nat) : x0 43 i = 0 := rfl
theorem xz_44 (i : Nat) : x0 44 i = 0 := rfl
theorem xz_45 (i : Nat) : x0 45 i = 0 := rfl
theorem xz_46 : x0 46 = fun _ => 0 := rfl
theorem xz_47 : x0 47 = fun _ => 0 := rfl
theorem xz_48 : x0 48 = fun _ => 0 := rfl
theorem xz_49 (i : Nat) : x0 49 i = 0 := rfl
theorem xz_50 (i : Nat) : x0 50 i = 0 := rfl
theorem xz_51 (i : Nat) : x0 51 i = 0 := rfl
theorem xz_52 (i : Nat) : x0 52 i = 0 := rfl
theorem xz_53 (i : Nat) : x0 53 i = 0 := rfl
theorem xz_54 (i : Nat) : x0 54 i = 0 := rfl
theorem xz_55 (i : Nat) : x0 55 i = 0 := rfl
theorem mz_0 : m0 0 0 = 0 := rfl
theorem mz_1 : m0 1 = fun _ => 0 := rfl
theorem mz_2 : m0 2 0 = 0 := rfl
theorem mz_3 : m0 3 0 = 0 := rfl
theorem mz_4 : m0 4 0 = 0 := rfl
theorem mz_5 : m0 5 = fun _ => 0 := rfl
theorem mz_6 : m0 6 = fun _ => 0 := rfl
theorem mz_7 : m0 7 0 = 0 := rfl
theorem mz_8 : m0 8 0 = 0 := rfl
theorem mz_9 : m0 9 0 = 0 := rfl
theorem mz_10 : m0 10 0 = 0 := rfl
theorem mz_11 : m0 11 0 = 0 := rfl
theorem mz_12 : m0 12 0 = 0 := rfl
theorem mz_13 : m0 13 0 = 0 := rfl
theorem mz_14 : m0 14 0 = 0 := rfl
theorem mz_15 : m0 15 0 = 0 := rfl
theorem mz_16 : m0 16 0 = -1 := rfl
theorem mz_17 : m0 17 0 = 0 := rfl
theorem mz_18 : m0 18 = ch17 := rfl
theorem mz_19 : m0 19 = ch17 := rfl
theorem mz_20 : m0 20 = fun _ => 0 := rfl
theorem mz_21 : m0 21 = fun _ => 0 := rfl
theorem mz_22 : m0 22 = fun _ => 0 := rfl
theorem mz_23 : m0 23 = fun _ => 0 := rfl
theorem mz_24 : m0 24 = fun _ => 0 := rfl
theorem mz_25 : m0 25 = fun _ => 0 := rfl
theorem mz_26 : m0 26 0 = 0 := rfl
theorem mz_27 : m0 27 = fun _ => 0 := rfl
theorem mz_28 : m0 28 = fun _ => 0 := rfl
theorem mz_29 : m0 29 0 = 0 := rfl
theorem mz_30 : m0 30 0 = 0 := rfl
theorem mz_31 : m0 31 = fun _ => 0 := rfl
theorem mz_32 : m0 32 = fun _ => 0 := rfl
theorem mz_33 : m0 33 = fun _ => 0 := rfl
theorem mz_34 : m0 34 0 = 0 := rfl
theorem mz_35 : m0 35 0 = 20 := rfl
theorem mz_36 : m0 36 = fun _ => 0 := rfl
theorem mz_37 : m0 37 = fun _ => 0 := rfl
theorem mz_38 : m0 38 = fun _ => 0 := rfl
theorem mz_39 : m0 39 = fun _ => 0 := rfl
theorem mz_40 : m0 40 = fun _ => 0 := rfl
theorem mz_41 : m0 41 = fun _ => 0 := rfl
theorem mz_42 : m0 42 = fun _ => 0 := rfl
theorem mz_43 : m0 43 0 = 0 := rfl
theorem mz_44 : m0 44 0 = 0 := rfl
theorem mz_45 : m0 45 0 = -1 := rfl
theorem mz_46 : m0 46 0 = 0 := rfl
theorem mz_47 : m0 47 0 = 0 := rfl
theorem mz_48 : m0 48 0 = 0 := rfl
theorem mz_49 : m0 49 = fun _ => 0 := rfl
theorem mz_50 : m0 50 = fun _ => 0 := rfl
theorem mz_51 : m0 51 = fun _ => 0 := rfl
theorem mz_52 : m0 52 = fun _ => 0 := rfl
theorem mz_53 : m0 53 0 = 0 := rfl
theorem woM {G : GG} {q0 qm : Nat} {u v : Nat → Nat} {w : va_W} : wo_X11_init G w qm v = w ++ mwM (G0 G q0 u qm v) m0 := by
  simp only [wo_X11_init, mwM, oX11, List.append_assoc, List.cons_append, List.nil_append, gz_c, gz_41, gz_42, gz_43, gz_44, gz_45, gz_46, gz_47, gz_48, gz_49, gz_50, gz_51, gz_52, gz_53, gz_54, gz_55, gz_56, gz_57, gz_58, gz_59, gz_60, gz_61, gz_62, gz_63, gz_64, gz_65, gz_66, gz_67, gz_68, mz_0, mz_1, mz_2, mz_3, mz_4, mz_5, mz_6, mz_7, mz_8, mz_9, mz_10, mz_11, mz_12, mz_13, mz_14, mz_15, mz_16, mz_17, mz_18, mz_19, mz_20, mz_21, mz_22, mz_23, mz_24, mz_25, mz_26, mz_27, mz_28, mz_29, mz_30, mz_31, mz_32, mz_33, mz_34, mz_35, mz_36, mz_37, mz_38, mz_39, mz_40, mz_41, mz_42, mz_43, mz_44, mz_45, mz_46, mz_47, mz_48, mz_49, mz_50, mz_51, mz_52, mz_53, ch17]
theorem woX {G : GG} {q0 qm : Nat} {u v : Nat → Nat} : wo_X10_init G [] q0 u = ((mwX (G0 G q0 u qm v) 0 x0).set 8 (ga (G0 G q0 u qm v) 8, .inl (gc (G0 G q0 u qm v) 4, 17, .inr (.inr (.inr (.inr (fun _ => none))))))).set 23 (ga (G0 G q0 u qm v) 23, .inl (gc (G0 G q0 u qm v) 3, 10, .inr (.inr (.inr (.inr (va_up (va_up (va_up (va_up (va_up (va_up (va_up (va_up (va_up (va_up (fun _ => none) 0 (some (u 25))) 1 (some (u 26))) 2 (some (u 27))) 3 (some (u 28))) 4 (some (u 29))) 5 (some (u 30))) 6 (some (u 31))) 7 (some (u 32))) 8 (some (u 33))) 9 (some (u 34)))))))) := by
  simp only [wo_X10_init, mwX, oX10, oX7, oX6, oX8, oX5, oX3, oX1, oX2, oX0, oX4, List.append_assoc, List.cons_append, List.nil_append, gz_c, gz_0, gz_1, gz_2, gz_3, gz_4, gz_5, gz_6, gz_7, gz_8, gz_9, gz_10, gz_11, gz_12, gz_13, gz_14, gz_15, gz_16, gz_17, gz_18, gz_19, gz_20, gz_21, gz_22, gz_23, gz_24, gz_25, gz_26, gz_27, gz_28, gz_29, gz_30, gz_31, gz_32, gz_33, gz_34, gz_35, gz_36, gz_37, gz_38, gz_39, gz_40, xz_1, xz_2, xz_3, xz_4, xz_5, xz_6, xz_7, xz_8, xz_9, xz_10, xz_11, xz_12, xz_13, xz_15, xz_16, xz_17, xz_18, xz_19, xz_20, xz_21, xz_22, xz_23, xz_24, xz_25, xz_26, xz_27, xz_28, xz_29, xz_30, xz_31, xz_32, xz_33, xz_34, xz_35, xz_36, xz_37, xz_38, xz_39, xz_40, xz_41, xz_42, xz_43, xz_44, xz_45, xz_46, xz_47, xz_48, xz_49, xz_50, xz_51, xz_52, xz_53, xz_54, xz_55, List.set]
theorem woS {G : GG} {q0 qm : Nat} {u v : Nat → Nat} {x : Me} : ((mwX (G0 G q0 u qm v) 0 x).set 8 (ga (G0 G q0 u qm v) 8, .inl (gc (G0 G q0 u qm v) 4, 17, .inr (.inr (.inr (.inr (fun j => if j < 0 then some (ga (G0 G q0 u qm v) (69 + j)) else none))))))).set 23 (ga (G0 G q0 u qm v) 23, .inl (gc (G0 G q0 u qm v) 3, 10, .inr (.inr (.inr (.inr (fun j => some (ga (G0 G q0 u qm v) (26 + j)))))))) = mwX (G0 G q0 u qm v) 0 x := by
  simp only [mwX, List.set]
theorem woA {G : GG} {q0 qm : Nat} {u v : Nat → Nat} {x mo : Me} {A B : Nat × va_E} : ((mw (G0 G q0 u qm v) 0 x mo).set 8 A).set 23 B = (((mwX (G0 G q0 u qm v) 0 x).set 8 A).set 23 B) ++ mwM (G0 G q0 u qm v) mo := by
  have l1 : (mwX (G0 G q0 u qm v) 0 x).length = 41 := rfl
  show (((mwX (G0 G q0 u qm v) 0 x ++ (mwM (G0 G q0 u qm v) mo ++ [])).set 8 A).set 23 B) = _
  rw [List.append_nil, List.set_append_left _ _ (by omega), List.set_append_left _ _ (by rw [List.length_set]; omega)]
set_option maxHeartbeats 4000000 in
set_option maxRecDepth 100000 in
theorem wo_start {G : GG} {q0 qm : Nat} {u v : Nat → Nat} {H : Heap} (hM : WoP G (wo_X11_init G (wo_X10_init G [] q0 u) qm v) H) : MemP (G0 G q0 u qm v) 0 x0 m0 H := by
  rw [woM (q0 := q0) (u := u), woX (qm := qm) (v := v), ← woA] at hM
  have l1 : 23 < ((mw (G0 G q0 u qm v) 0 x0 m0).set 8 (ga (G0 G q0 u qm v) 8, .inl (gc (G0 G q0 u qm v) 4, 17, .inr (.inr (.inr (.inr (fun _ => none))))))).length := by
    rw [List.length_set]
    show 23 < (mwX (G0 G q0 u qm v) 0 x0 ++ (mwM (G0 G q0 u qm v) m0 ++ mwW (G0 G q0 u qm v) 0 x0)).length
    rw [List.length_append]
    have : (mwX (G0 G q0 u qm v) 0 x0).length = 41 := rfl
    omega
  have e23 : (((mw (G0 G q0 u qm v) 0 x0 m0).set 8 (ga (G0 G q0 u qm v) 8, .inl (gc (G0 G q0 u qm v) 4, 17, .inr (.inr (.inr (.inr (fun _ => none))))))).set 23 (ga (G0 G q0 u qm v) 23, .inl (gc (G0 G q0 u qm v) 3, 10, .inr (.inr (.inr (.inr (va_up (va_up (va_up (va_up (va_up (va_up (va_up (va_up (va_up (va_up (fun _ => none) 0 (some (u 25))) 1 (some (u 26))) 2 (some (u 27))) 3 (some (u 28))) 4 (some (u 29))) 5 (some (u 30))) 6 (some (u 31))) 7 (some (u 32))) 8 (some (u 33))) 9 (some (u 34)))))))))[23]? = some (ga (G0 G q0 u qm v) 23, .inl (gc (G0 G q0 u qm v) 3, 10, .inr (.inr (.inr (.inr (va_up (va_up (va_up (va_up (va_up (va_up (va_up (va_up (va_up (va_up (fun _ => none) 0 (some (u 25))) 1 (some (u 26))) 2 (some (u 27))) 3 (some (u 28))) 4 (some (u 29))) 5 (some (u 30))) 6 (some (u 31))) 7 (some (u 32))) 8 (some (u 33))) 9 (some (u 34)))))))) := List.getElem?_set_self l1
  have h0 := hM.1 23 _ e23
  have hc : vp_cell (gc (G0 G q0 u qm v) 3) (10, .inr (.inr (.inr (.inr (va_up (va_up (va_up (va_up (va_up (va_up (va_up (va_up (va_up (va_up (fun _ => none) 0 (some (u 25))) 1 (some (u 26))) 2 (some (u 27))) 3 (some (u 28))) 4 (some (u 29))) 5 (some (u 30))) 6 (some (u 31))) 7 (some (u 32))) 8 (some (u 33))) 9 (some (u 34))))))) = vp_cell (gc (G0 G q0 u qm v) 3) (10, .inr (.inr (.inr (.inr (fun j => some (ga (G0 G q0 u qm v) (26 + j))))))) := by
    rw [vp_cell_q, vp_cell_q]
    unfold arrV
    congr 1
    apply congrArg
    funext j
    match j with
    | ⟨0, _⟩ => rfl
    | ⟨1, _⟩ => rfl
    | ⟨2, _⟩ => rfl
    | ⟨3, _⟩ => rfl
    | ⟨4, _⟩ => rfl
    | ⟨5, _⟩ => rfl
    | ⟨6, _⟩ => rfl
    | ⟨7, _⟩ => rfl
    | ⟨8, _⟩ => rfl
    | ⟨9, _⟩ => rfl
  have hP := hM.1.set (H1 := H) (e := .inl (gc (G0 G q0 u qm v) 3, 10, .inr (.inr (.inr (.inr (fun j => some (ga (G0 G q0 u qm v) (26 + j)))))))) hM.2 e23 (by show H[_]? = some (vp_cell _ _); rw [← hc]; exact h0) (fun _ _ => rfl)
  have hD := hM.2.set (e := .inl (gc (G0 G q0 u qm v) 3, 10, .inr (.inr (.inr (.inr (fun j => some (ga (G0 G q0 u qm v) (26 + j)))))))) e23
  have e8 : (fun _ : Nat => (none : Option Nat)) = (fun j => if j < 0 then some (ga (G0 G q0 u qm v) (69 + j)) else none) := by
    funext j
    rw [if_neg (by omega)]
  have e9 : mwX (G0 G q0 u qm v) 0 x0 ++ mwM (G0 G q0 u qm v) m0 = mw (G0 G q0 u qm v) 0 x0 m0 := by
    show _ = mwX (G0 G q0 u qm v) 0 x0 ++ (mwM (G0 G q0 u qm v) m0 ++ [])
    rw [List.append_nil]
  rw [List.set_set, e8, woA, woS, e9] at hP hD
  exact ⟨hP, hD⟩
/-- WHAT THE PURE SIDE OWES: every call keeps the relation and answers alike -/
def StepsP (Rel : Nat → Me → Me → Prop) (fu : Nat) : Prop := ∀ (nw : Nat) (x m : Me), Rel nw x m →
  (∀ a b c d e : Int32, S2 Rel nw (f_X10_feed fu nw x a b c d e) (f_X11_feed fu m a b c d e)) ∧
  (∀ a b : Int32, S2 Rel nw (f_X10_statute fu nw x a b) (f_X11_statute fu m a b)) ∧
  (∀ a : Int32, S2 Rel nw (f_X10_fault fu nw x a) (f_X11_fault fu m a)) ∧
  (∀ a b : Int32, S2 Rel nw (f_X10_law fu nw x a b) (f_X11_law fu m a b)) ∧
  SW Rel fu nw x m ∧
  (∀ a : Int32, S2 Rel nw (f_X10_horse fu nw x a) (f_X11_horse fu m a)) ∧
  (∀ a z : Int32, (z = 0 ∨ z = 1) → S2 Rel nw (f_X10_sound fu nw x a z) (f_X11_sound fu m a z)) ∧
  (∀ a : Int32, S2 Rel nw (f_X10_choose fu nw x a) (f_X11_choose fu m a)) ∧
  S2 Rel nw (f_X10_pick fu nw x) (f_X11_pick fu m) ∧
  (∀ a : Int32, S2 Rel nw (f_X10_lots fu nw x a) (f_X11_lots fu m a)) ∧
  (∀ a b : Int32, S2 Rel nw (f_X10_drawn fu nw x a b) (f_X11_drawn fu m a b)) ∧
  (∀ a b : Int32, S2 Rel nw (f_X10_look fu nw x a b) (f_X11_look fu m a b)) ∧
  (∀ a : Int32, S2 Rel nw (f_X10_ring fu nw x a) (f_X11_ring fu m a)) ∧
  (∀ a z : Int32, (z = 0 ∨ z = 1) → S2 Rel nw (f_X10_bend fu nw x a z) (f_X11_bend fu m a z)) ∧
  (∀ a b c : Int32, S2 Rel nw (f_X10_orders fu nw x a b c) (f_X11_orders fu m a b c)) ∧
  (∀ a b : Int32, S2 Rel nw (f_X10_seen fu nw x a b) (f_X11_seen fu m a b)) ∧
  (∀ a : Int32, S2 Rel nw (f_X10_drop fu nw x a) (f_X11_drop fu m a)) ∧
  (∀ a : Int32, S2 Rel nw (f_X10_go fu nw x a) (f_X11_go fu m a)) ∧
  (∀ a b : Int32, S2 Rel nw (f_X10_race fu nw x a b) (f_X11_race fu m a b)) ∧
  S2 Rel nw (f_X10_won fu nw x) (f_X11_won fu m) ∧
  (∀ a b c : Int32, S2 Rel nw (f_X10_pact fu nw x a b c) (f_X11_pact fu m a b c)) ∧
  (∀ a : Int32, S2 Rel nw (f_X10_punish fu nw x a) (f_X11_punish fu m a)) ∧
  S2 Rel nw (f_X10_next fu nw x) (f_X11_next fu m) ∧
  (∀ a : Int32, S2 Rel nw (f_X10_count fu nw x a) (f_X11_count fu m a))
set_option maxHeartbeats 4000000 in
set_option maxRecDepth 100000 in
theorem law_body {p : Program} {l : Launch} {e : Env} {s : State} {m : MethodId} {below : List Frame} {meth : Method} {c : Code} {b L : Nat} {xs : Nat → Int32} {fu : Nat} {Rel : Nat → Me → Me → Prop} (hSt : StepsP Rel fu) (C0 : lw_At p s m meth c b L xs) (hO : AOs s) {a3 : Int32} (h0 : vp_in a3 L) (h1 : vp_in (a3 + 1) L) (h2 : vp_in (a3 + 2) L) (h3 : vp_in (a3 + 3) L) (h4 : vp_in (a3 + 4) L) (h5 : vp_in (a3 + 5) L) {cells slots : Nat} (hcs : cells + 1 ≤ 600000 ∧ slots + 6 ≤ 7302250) (kk : LwK Rel p l e s m below meth c b a3 (cells + 1) (slots + 6) 848) : LwK Rel p l e s m below meth c b a3 cells slots 27 := by
  intro G nw x mm H locs ls hGA hE hR hM hS hl
  obtain ⟨s0, s1, s2, s3, s4, s5, s6, s7, s8, s9, s10, s11, s12, s13, s14, s15, s16, s17, s18, s19, s20, s21, s22, s23⟩ := hSt nw x mm hR
  obtain ⟨hx, hb, hr, hml, hown, hts, hX, hbl, hlocks, hgv⟩ := id C0
  have hbA : ¬ gA G b := by rw [hGA]; exact Nat.not_le.mpr hbl
  refine lv_aload_n hx hb dL_law_27 rfl (lv_at hl 0 rfl) ?_
  refine lv_iload_n hx hb dL_law_28 rfl (lv_at hl 3 rfl) ?_
  refine va_sld hx hb hX hbl hbA hS h0 dL_law_29 ?_
  refine lv_bipush (v := 31) hx hb dL_law_30 (by decide) ?_
  refine lv_iand hx hb dL_law_32 ?_
  by_cases hc0 : xs a3.toNatClampNeg &&& 31 = 0
  · refine lv_tabK (k := 0) (tgt := 144) hx hb dL_law_33 hc0 (by decide) (by decide) rfl (by decide) ?_
    exact law_c0 C0 hO h1 h2 h3 h4 h5 hcs (s0 (xs (a3 + 1).toNatClampNeg) (xs (a3 + 2).toNatClampNeg) (xs (a3 + 3).toNatClampNeg) (xs (a3 + 4).toNatClampNeg) (xs (a3 + 5).toNatClampNeg)) hGA hE hM hS hl kk
  by_cases hc1 : xs a3.toNatClampNeg &&& 31 = 1
  · refine lv_tabK (k := 1) (tgt := 207) hx hb dL_law_33 hc1 (by decide) (by decide) rfl (by decide) ?_
    exact law_c1 C0 hO h1 h2 hcs (s1 (xs (a3 + 1).toNatClampNeg) (xs (a3 + 2).toNatClampNeg)) hGA hE hM hS hl kk
  by_cases hc2 : xs a3.toNatClampNeg &&& 31 = 2
  · refine lv_tabK (k := 2) (tgt := 240) hx hb dL_law_33 hc2 (by decide) (by decide) rfl (by decide) ?_
    exact law_c2 C0 hO h1 hcs (s2 (xs (a3 + 1).toNatClampNeg)) hGA hE hM hS hl kk
  by_cases hc3 : xs a3.toNatClampNeg &&& 31 = 3
  · refine lv_tabK (k := 3) (tgt := 263) hx hb dL_law_33 hc3 (by decide) (by decide) rfl (by decide) ?_
    exact law_c3 C0 hO h1 h2 hcs (s3 (xs (a3 + 1).toNatClampNeg) (xs (a3 + 2).toNatClampNeg)) hGA hE hM hS hl kk
  by_cases hc4 : xs a3.toNatClampNeg &&& 31 = 4
  · refine lv_tabK (k := 4) (tgt := 296) hx hb dL_law_33 hc4 (by decide) (by decide) rfl (by decide) ?_
    exact law_c4 C0 hO hcs s4 hGA hE hM hS hl kk
  by_cases hc5 : xs a3.toNatClampNeg &&& 31 = 5
  · refine lv_tabK (k := 5) (tgt := 309) hx hb dL_law_33 hc5 (by decide) (by decide) rfl (by decide) ?_
    exact law_c5 C0 hO h1 hcs (s5 (xs (a3 + 1).toNatClampNeg)) hGA hE hM hS hl kk
  by_cases hc6 : xs a3.toNatClampNeg &&& 31 = 6
  · refine lv_tabK (k := 6) (tgt := 332) hx hb dL_law_33 hc6 (by decide) (by decide) rfl (by decide) ?_
    exact law_c6 C0 hO h1 h2 hcs (s6 (xs (a3 + 1).toNatClampNeg)) hGA hE hM hS hl kk
  by_cases hc7 : xs a3.toNatClampNeg &&& 31 = 7
  · refine lv_tabK (k := 7) (tgt := 381) hx hb dL_law_33 hc7 (by decide) (by decide) rfl (by decide) ?_
    exact law_c7 C0 hO h1 hcs (s7 (xs (a3 + 1).toNatClampNeg)) hGA hE hM hS hl kk
  by_cases hc8 : xs a3.toNatClampNeg &&& 31 = 8
  · refine lv_tabK (k := 8) (tgt := 404) hx hb dL_law_33 hc8 (by decide) (by decide) rfl (by decide) ?_
    exact law_c8 C0 hO hcs s8 hGA hE hM hS hl kk
  by_cases hc9 : xs a3.toNatClampNeg &&& 31 = 9
  · refine lv_tabK (k := 9) (tgt := 417) hx hb dL_law_33 hc9 (by decide) (by decide) rfl (by decide) ?_
    exact law_c9 C0 hO h1 hcs (s9 (xs (a3 + 1).toNatClampNeg)) hGA hE hM hS hl kk
  by_cases hc10 : xs a3.toNatClampNeg &&& 31 = 10
  · refine lv_tabK (k := 10) (tgt := 440) hx hb dL_law_33 hc10 (by decide) (by decide) rfl (by decide) ?_
    exact law_c10 C0 hO h1 h2 hcs (s10 (xs (a3 + 1).toNatClampNeg) (xs (a3 + 2).toNatClampNeg)) hGA hE hM hS hl kk
  by_cases hc11 : xs a3.toNatClampNeg &&& 31 = 11
  · refine lv_tabK (k := 11) (tgt := 473) hx hb dL_law_33 hc11 (by decide) (by decide) rfl (by decide) ?_
    exact law_c11 C0 hO h1 h2 hcs (s11 (xs (a3 + 1).toNatClampNeg) (xs (a3 + 2).toNatClampNeg)) hGA hE hM hS hl kk
  by_cases hc12 : xs a3.toNatClampNeg &&& 31 = 12
  · refine lv_tabK (k := 12) (tgt := 506) hx hb dL_law_33 hc12 (by decide) (by decide) rfl (by decide) ?_
    exact law_c12 C0 hO h1 hcs (s12 (xs (a3 + 1).toNatClampNeg)) hGA hE hM hS hl kk
  by_cases hc13 : xs a3.toNatClampNeg &&& 31 = 13
  · refine lv_tabK (k := 13) (tgt := 529) hx hb dL_law_33 hc13 (by decide) (by decide) rfl (by decide) ?_
    exact law_c13 C0 hO h1 h2 hcs (s13 (xs (a3 + 1).toNatClampNeg)) hGA hE hM hS hl kk
  by_cases hc14 : xs a3.toNatClampNeg &&& 31 = 14
  · refine lv_tabK (k := 14) (tgt := 578) hx hb dL_law_33 hc14 (by decide) (by decide) rfl (by decide) ?_
    exact law_c14 C0 hO h1 h2 h3 hcs (s14 (xs (a3 + 1).toNatClampNeg) (xs (a3 + 2).toNatClampNeg) (xs (a3 + 3).toNatClampNeg)) hGA hE hM hS hl kk
  by_cases hc15 : xs a3.toNatClampNeg &&& 31 = 15
  · refine lv_tabK (k := 15) (tgt := 621) hx hb dL_law_33 hc15 (by decide) (by decide) rfl (by decide) ?_
    exact law_c15 C0 hO h1 h2 hcs (s15 (xs (a3 + 1).toNatClampNeg) (xs (a3 + 2).toNatClampNeg)) hGA hE hM hS hl kk
  by_cases hc16 : xs a3.toNatClampNeg &&& 31 = 16
  · refine lv_tabK (k := 16) (tgt := 654) hx hb dL_law_33 hc16 (by decide) (by decide) rfl (by decide) ?_
    exact law_c16 C0 hO h1 hcs (s16 (xs (a3 + 1).toNatClampNeg)) hGA hE hM hS hl kk
  by_cases hc17 : xs a3.toNatClampNeg &&& 31 = 17
  · refine lv_tabK (k := 17) (tgt := 677) hx hb dL_law_33 hc17 (by decide) (by decide) rfl (by decide) ?_
    exact law_c17 C0 hO h1 hcs (s17 (xs (a3 + 1).toNatClampNeg)) hGA hE hM hS hl kk
  by_cases hc18 : xs a3.toNatClampNeg &&& 31 = 18
  · refine lv_tabK (k := 18) (tgt := 700) hx hb dL_law_33 hc18 (by decide) (by decide) rfl (by decide) ?_
    exact law_c18 C0 hO h1 h2 hcs (s18 (xs (a3 + 1).toNatClampNeg) (xs (a3 + 2).toNatClampNeg)) hGA hE hM hS hl kk
  by_cases hc19 : xs a3.toNatClampNeg &&& 31 = 19
  · refine lv_tabK (k := 19) (tgt := 733) hx hb dL_law_33 hc19 (by decide) (by decide) rfl (by decide) ?_
    exact law_c19 C0 hO hcs s19 hGA hE hM hS hl kk
  by_cases hc20 : xs a3.toNatClampNeg &&& 31 = 20
  · refine lv_tabK (k := 20) (tgt := 746) hx hb dL_law_33 hc20 (by decide) (by decide) rfl (by decide) ?_
    exact law_c20 C0 hO h1 h2 h3 hcs (s20 (xs (a3 + 1).toNatClampNeg) (xs (a3 + 2).toNatClampNeg) (xs (a3 + 3).toNatClampNeg)) hGA hE hM hS hl kk
  by_cases hc21 : xs a3.toNatClampNeg &&& 31 = 21
  · refine lv_tabK (k := 21) (tgt := 789) hx hb dL_law_33 hc21 (by decide) (by decide) rfl (by decide) ?_
    exact law_c21 C0 hO h1 hcs (s21 (xs (a3 + 1).toNatClampNeg)) hGA hE hM hS hl kk
  by_cases hc22 : xs a3.toNatClampNeg &&& 31 = 22
  · refine lv_tabK (k := 22) (tgt := 812) hx hb dL_law_33 hc22 (by decide) (by decide) rfl (by decide) ?_
    exact law_c22 C0 hO hcs s22 hGA hE hM hS hl kk
  by_cases hc23 : xs a3.toNatClampNeg &&& 31 = 23
  · refine lv_tabK (k := 23) (tgt := 825) hx hb dL_law_33 hc23 (by decide) (by decide) rfl (by decide) ?_
    exact law_c23 C0 hO h1 hcs (s23 (xs (a3 + 1).toNatClampNeg)) hGA hE hM hS hl kk
  refine lv_tableOut (tgt := 848) hx hb dL_law_33 (by have q0 := lv_neT (a := 0) hc0 rfl; have q1 := lv_neT (a := 1) hc1 rfl; have q2 := lv_neT (a := 2) hc2 rfl; have q3 := lv_neT (a := 3) hc3 rfl; have q4 := lv_neT (a := 4) hc4 rfl; have q5 := lv_neT (a := 5) hc5 rfl; have q6 := lv_neT (a := 6) hc6 rfl; have q7 := lv_neT (a := 7) hc7 rfl; have q8 := lv_neT (a := 8) hc8 rfl; have q9 := lv_neT (a := 9) hc9 rfl; have q10 := lv_neT (a := 10) hc10 rfl; have q11 := lv_neT (a := 11) hc11 rfl; have q12 := lv_neT (a := 12) hc12 rfl; have q13 := lv_neT (a := 13) hc13 rfl; have q14 := lv_neT (a := 14) hc14 rfl; have q15 := lv_neT (a := 15) hc15 rfl; have q16 := lv_neT (a := 16) hc16 rfl; have q17 := lv_neT (a := 17) hc17 rfl; have q18 := lv_neT (a := 18) hc18 rfl; have q19 := lv_neT (a := 19) hc19 rfl; have q20 := lv_neT (a := 20) hc20 rfl; have q21 := lv_neT (a := 21) hc21 rfl; have q22 := lv_neT (a := 22) hc22 rfl; have q23 := lv_neT (a := 23) hc23 rfl; omega) (by decide) ?_
  exact W.widen (k := cells + 1) (n := slots + 6) (by omega) (by omega) (kk G nw _ _ _ _ _ hGA hE hR hM hS hl)
theorem ix_in {i j L : Nat} {a3 k : Int32} (ea : a3 = nI i) (ek : k = nI j) (h : i + j < L) (hL : L ≤ 3072) : vp_in (a3 + k) L := by
  rw [ea, ek, nI_add]
  exact vp_in_nI h (by omega)
theorem lw_cmp {i L : Nat} (hL : L ≤ 3072) (hi : i ≤ 4000) : (nI L - 6 < nI i) ↔ L < i + 6 := by
  rw [Int32.lt_iff_toInt_lt, show (6 : Int32) = nI 6 from rfl, pk_sub_toInt (by omega) (by omega), nI_toInt (by omega)]
  omega
set_option maxHeartbeats 4000000 in
set_option maxRecDepth 100000 in
theorem law_loop {p : Program} {l : Launch} {e : Env} {s : State} {m : MethodId} {below : List Frame} {meth : Method} {c : Code} {b L : Nat} {xs : Nat → Int32} {fu : Nat} {Rel : Nat → Me → Me → Prop} (hSt : StepsP Rel fu) (hL : L ≤ 3072) (C0 : lw_At p s m meth c b L xs) (hO : AOs s) : ∀ (n i : Nat) (a3 : Int32) (cells slots : Nat), a3 = nI i → i ≤ L + 6 → L + 7 ≤ i + n → cells + (L + 12 - i) ≤ 600000 → slots + (L + 12 - i) ≤ 7302250 → LwK Rel p l e s m below meth c b a3 cells slots 18 := by
  intro n
  induction n with
  | zero =>
    intro i a3 cells slots e1 h1 h2
    exact absurd h2 (by omega)
  | succ n ih =>
    intro i a3 cells slots ea hi hn hc hsl
    intro G nw x mm H locs ls hGA hE hR hM hS hl
    obtain ⟨hx, hb, hr, hml, hown, hts, hX, hbl, hlocks, hgv⟩ := id C0
    have hbA : ¬ gA G b := by rw [hGA]; exact Nat.not_le.mpr hbl
    refine lv_iload_n hx hb dL_law_18 rfl (lv_at hl 3 rfl) ?_
    refine lv_aload_n hx hb dL_law_19 rfl (lv_at hl 0 rfl) ?_
    refine va_slen hx hb hX hbl hbA hS dL_law_20 ?_
    refine lv_bipush (v := 6) hx hb dL_law_21 (by decide) ?_
    refine lv_isub hx hb dL_law_23 ?_
    refine lv_icmp_gt (tgt := 854) hx hb dL_law_24 (by decide) (fun hcm => ?_) (fun hcm => ?_)
    · refine lv_iconst (v := 1) hx hb dL_law_854 (by decide) ?_
      refine va_forget (fun q hq => by have := hS.2.2 q hq; rw [hGA] at this; exact this) ?_
      refine W.widen (k := 600000) (n := 7302250) (by omega) (by omega) ?_
      exact lw_ret hx hb hr hlocks dL_law_855
    · have hlt : i + 6 ≤ L := by
        rcases Nat.lt_or_ge L (i + 6) with q | q
        · exact absurd (by rw [ea]; exact (lw_cmp hL (by omega)).mpr q) hcm
        · exact q
      refine law_body hSt C0 hO (by rw [ea]; exact vp_in_nI (by omega) (by omega)) (ix_in ea rfl (j := 1) (by omega) hL) (ix_in ea rfl (j := 2) (by omega) hL) (ix_in ea rfl (j := 3) (by omega) hL) (ix_in ea rfl (j := 4) (by omega) hL) (ix_in ea rfl (j := 5) (by omega) hL) ⟨by omega, by omega⟩ ?_ G nw x mm H locs ls hGA hE hR hM hS hl
      intro G nw x mm H locs ls hGA hE hR hM hS hl
      refine lv_iinc (v := a3 + 6) (lv' := [(3, .int (a3 + 6)), (0, .ref b), (1, .ref (ga G 0)), (2, .ref (ga G 41))]) hx hb dL_law_848 hl (k := 3) rfl rfl (by decide) rfl (fun ls hl => ?_)
      refine lv_goto (tgt := 18) hx hb dL_law_851 (by decide) ?_
      exact ih (i + 6) (a3 + 6) (cells + 1) (slots + 6) (by rw [ea, show (6 : Int32) = nI 6 from rfl, nI_add]) (by omega) (by omega) (by omega) (by omega) G nw x mm H locs ls hGA hE hR hM hS (lv_sub hl [1, 2, 3, 0] rfl)
set_option maxHeartbeats 4000000 in
set_option maxRecDepth 100000 in
/-- from the entry, over what the pure side owes -/
theorem whole_open {p : Program} {e : Env} {s : State} {m : MethodId} {below : List Frame} {meth : Method} {c : Code} (l : Launch) {b L : Nat} {xs : Nat → Int32} {Rel : Nat → Me → Me → Prop} {fu : Nat} (hSt : StepsP Rel fu) (hR0 : Rel 0 x0 m0) (hL : L ≤ 3072) (C0 : lw_At p s m meth c b L xs) : W p l e room_1 s m #[Value.ref b] below meth c s.heap [] 0 0 (lw_Z below #[Value.ref b] s) (entryFrame m ([Value.ref b] : List Value).toArray 4) := by
  obtain ⟨G, hGA, hE, hO⟩ := env_start C0
  obtain ⟨hx, hb, hr, hml, hown, hts, hX, hbl, hlocks, hgv⟩ := id C0
  have hS : va_S (gA G) s.heap s.heap [] := va_S.rf
  have hM : WoP G [] s.heap := ⟨fun k q h => by simp at h, ⟨fun i j p q h => by simp at h, fun k q h => by simp at h⟩⟩
  have hl := lv_entry ([.ref b]) (n := 4) (Nat.le_of_ble_eq_true rfl)
  rw [lg_entry_eq]
  generalize (lg_sl ([.ref b]) ++ List.replicate (4 - (lg_sl ([.ref b])).length) Slot.unset).toArray = ls at hl ⊢
  have hl : lv_has ls 4 [(0, .ref b)] := hl
  refine ct_new (ci := 10) tyX10 tyX10_ok dfX10 hx hb hown laX10 w_1_20 w_1_21 w_1_1 hE hM hS rfl (Nat.le_of_ble_eq_true rfl) (Nat.le_of_ble_eq_true rfl) dL_law_0 (fun q0 H hM hS => ?_)
  refine lv_dup hx hb dL_law_3 rfl ?_
  refine ct_callI hx hb hml hown hE hO hM hS (c_X10_init l G [] q0) w_1_22 w_1_23 w_1_1 w_1_24 rfl rfl rfl ⟨by decide, by decide, by decide +kernel⟩ ⟨Nat.le_of_ble_eq_true rfl, Nat.le_of_ble_eq_true rfl⟩ hl.1 (Nat.le_of_ble_eq_true rfl) dL_law_4 ⟨Nat.le_of_ble_eq_true rfl, Nat.le_of_ble_eq_true rfl⟩ (fun u H locs hM hS => ?_)
  refine lv_astore_n (lv' := [(1, .ref q0), (0, .ref b)]) hx hb dL_law_7 rfl hl (by decide) rfl (fun ls hl => ?_)
  refine ct_new (ci := 11) tyX11 tyX11_ok dfX11 hx hb hown laX11 w_4_94 w_4_95 w_1_11 hE hM hS rfl (Nat.le_of_ble_eq_true rfl) (Nat.le_of_ble_eq_true rfl) dL_law_8 (fun qm H hM hS => ?_)
  refine lv_dup hx hb dL_law_11 rfl ?_
  refine ct_callI hx hb hml hown hE hO hM hS (c_X11_init l G _ qm) w_4_96 w_4_97 w_1_11 w_4_98 rfl rfl rfl ⟨by decide, by decide, by decide +kernel⟩ ⟨Nat.le_of_ble_eq_true rfl, Nat.le_of_ble_eq_true rfl⟩ hl.1 (Nat.le_of_ble_eq_true rfl) dL_law_12 ⟨Nat.le_of_ble_eq_true rfl, Nat.le_of_ble_eq_true rfl⟩ (fun v H locs hM hS => ?_)
  refine lv_astore_n (lv' := [(2, .ref qm), (1, .ref q0), (0, .ref b)]) hx hb dL_law_15 rfl hl (by decide) rfl (fun ls hl => ?_)
  refine lv_iconst (v := 0) hx hb dL_law_16 (by decide) ?_
  refine lv_istore_n (lv' := [(3, .int 0), (2, .ref qm), (1, .ref q0), (0, .ref b)]) hx hb dL_law_17 rfl hl (by decide) rfl (fun ls hl => ?_)
  have hM := wo_start hM
  have hE' : EnvP (G0 G q0 u qm v) s := hE
  have hl' : lv_has ls 4 [(0, .ref b), (1, .ref (ga (G0 G q0 u qm v) 0)), (2, .ref (ga (G0 G q0 u qm v) 41)), (3, .int 0)] := lv_sub hl [3, 2, 1, 0] rfl
  refine W.widen (k := 1000) (n := 100000) (Nat.le_of_ble_eq_true rfl) (Nat.le_of_ble_eq_true rfl) ?_
  exact law_loop hSt hL C0 hO (L + 7) 0 0 1000 100000 nI_0.symm (by omega) (by omega) (by omega) (by omega) (G0 G q0 u qm v) 0 x0 m0 _ _ _ hGA hE' hR0 hM hS hl'
