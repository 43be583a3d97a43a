def f_X3_listRunners_7 (fu nw : Nat) (k : Me → Option (Me × Unit)) : Nat → Me → Int32 → Option (Me × Unit)
  | 0 => fun _ _ => none
  | n + 1 => fun x a2 => if (x 13 0) ≤ a2 then k x else if 10 ≤ (x 20 0) then k x else ob (f_X8_runs fu nw x a2) (fun x_1 r_1 => if r_1 = 0 then f_X3_listRunners_7 fu nw k n x_1 (a2 + 1) else if inb (x_1 20 0) 10 = true then f_X3_listRunners_7 fu nw k n (mu (mu x_1 21 ((x_1 20 0).toNatClampNeg) a2) 20 0 ((x_1 20 0) + 1)) (a2 + 1) else none)
def f_X3_listRunners (fu nw : Nat) (x : Me) : Option (Me × Unit) := f_X3_listRunners_7 fu nw (fun (x_6 : Me) => some (x_6, ())) fu (mu x 20 0 0) 0
def rm_X3_listRunners : Room := { frames := 3, cells := 0, slots := 0, locals := 64 }
set_option maxHeartbeats 4000000 in
set_option maxRecDepth 100000 in
theorem wk_X3_listRunners_7 {p : Program} {l : Launch} {e : Env} {s : State} {m : MethodId} {args : Array Value} {below : List Frame} {meth : Method} {c : Code} {fu nw : Nat} {G : GG} {mo : Me} (hx : p.tables.exec = Jvm.exec) (hb : c.code = cX3_listRunners) (hml : c.maxLocals = 3) (hown : s.vm.findClass RX3 = some m.cls) (hE : EnvP G s) (hr : meth.sig.returnType = none) (hlocks : meth.locks = false) {x' : Me} {r : Unit} {k : Me → Option (Me × Unit)} (hk : ∀ (x : Me) (H : Heap) (locs : List Loc) (ls : Array Slot), k x = some (x', r) → MemP G nw x mo H → va_S (gA G) s.heap H locs → lv_has ls 3 [] → W p l e rm_X3_listRunners s m args below meth c H locs 0 0 (MQ below (PV G nw x' mo) args s 0 0 (gA G)) (F0 m 58 ls [])) : ∀ (n : Nat) (x : Me) (a2 : Int32) (H : Heap) (locs : List Loc) (ls : Array Slot), f_X3_listRunners_7 fu nw k n x a2 = some (x', r) → MemP G nw x mo H → va_S (gA G) s.heap H locs → lv_has ls 3 [(0, .ref (ga G 14)), (1, .ref (ga G 7)), (2, .int a2)] → W p l e rm_X3_listRunners s m args below meth c H locs 0 0 (MQ below (PV G nw x' mo) args s 0 0 (gA G)) (F0 m 7 ls []) := by
  intro n
  induction n with
  | zero =>
    intro x a2 H locs ls hf hM hS hl
    exact nn hf
  | succ n ih =>
    intro x a2 H locs ls hf hM hS hl
    rw [f_X3_listRunners_7] at hf
    refine lv_iload_n hx hb dX3_listRunners_7 rfl (lv_at hl 2 rfl) ?_
    refine lv_aload_n hx hb dX3_listRunners_8 rfl (lv_at hl 1 rfl) ?_
    refine gf_13N hx hb hE hM hown w_1_88 dX3_listRunners_9 ?_
    refine lv_icmp_ge (tgt := 58) hx hb dX3_listRunners_12 (by decide) (fun hc_5 => ?_) (fun hc_5 => ?_)
    · replace hf := i_t hf hc_5
      exact hk x _ _ _ hf hM hS (lv_sub hl [] rfl)
    · replace hf := i_f hf hc_5
      refine lv_aload_n hx hb dX3_listRunners_15 rfl (lv_at hl 0 rfl) ?_
      refine gf_20 hx hb hE hM hown w_1_128 dX3_listRunners_16 ?_
      refine lv_bipush (v := 10) hx hb dX3_listRunners_19 (by decide) ?_
      refine lv_icmp_ge (tgt := 58) hx hb dX3_listRunners_21 (by decide) (fun hc_4 => ?_) (fun hc_4 => ?_)
      · replace hf := i_t hf hc_4
        exact hk x _ _ _ hf hM hS (lv_sub hl [] rfl)
      · replace hf := i_f hf hc_4
        refine lv_aload_n hx hb dX3_listRunners_24 rfl (lv_at hl 1 rfl) ?_
        refine lv_iload_n hx hb dX3_listRunners_25 rfl (lv_at hl 2 rfl) ?_
        obtain ⟨x_1, r_1, hq_1, hf⟩ := ob_some hf
        refine k_X8_runs hx hb hml hown hE hM hS w_3_80 hq_1 (Nat.le_of_ble_eq_true rfl) (Nat.le_of_ble_eq_true rfl) hl.1 (Nat.le_of_ble_eq_true rfl) ⟨Nat.zero_le _, Nat.zero_le _⟩ dX3_listRunners_26 (fun H locs hM hS => ?_)
        refine lv_if_eq (tgt := 52) hx hb dX3_listRunners_29 (by decide) (fun hc_3 => ?_) (fun hc_3 => ?_)
        · replace hf := i_t hf hc_3
          refine lv_iinc (v := a2 + 1) (lv' := [(2, .int (a2 + 1)), (0, .ref (ga G 14)), (1, .ref (ga G 7))]) hx hb dX3_listRunners_52 hl (k := 2) rfl rfl (by decide) rfl (fun ls hl => ?_)
          refine lv_goto (tgt := 7) hx hb dX3_listRunners_55 (by decide) ?_
          exact ih x_1 (a2 + 1) _ _ _ hf hM hS (lv_sub hl [1, 2, 0] rfl)
        · replace hf := i_f hf hc_3
          refine lv_aload_n hx hb dX3_listRunners_32 rfl (lv_at hl 0 rfl) ?_
          refine gr_15 hx hb hE hM hown w_1_130 dX3_listRunners_33 ?_
          refine lv_aload_n hx hb dX3_listRunners_36 rfl (lv_at hl 0 rfl) ?_
          refine gf_20 hx hb hE hM hown w_1_128 dX3_listRunners_37 ?_
          refine lv_iload_n hx hb dX3_listRunners_40 rfl (lv_at hl 2 rfl) ?_
          obtain ⟨hi_2, hf⟩ := i_n hf
          refine sa_15 hx hb hE hM hS hi_2 dX3_listRunners_41 (fun H locs hM hS => ?_)
          refine lv_aload_n hx hb dX3_listRunners_42 rfl (lv_at hl 0 rfl) ?_
          refine lv_dup hx hb dX3_listRunners_43 rfl ?_
          refine gf_20 hx hb hE hM hown w_1_128 dX3_listRunners_44 ?_
          refine lv_iconst (v := 1) hx hb dX3_listRunners_47 (by decide) ?_
          refine lv_iadd hx hb dX3_listRunners_48 ?_
          refine pf_20 hx hb hE hM hS hown w_1_128 dX3_listRunners_49 (fun H locs hM hS => ?_)
          refine lv_iinc (v := a2 + 1) (lv' := [(2, .int (a2 + 1)), (0, .ref (ga G 14)), (1, .ref (ga G 7))]) hx hb dX3_listRunners_52 hl (k := 2) rfl rfl (by decide) rfl (fun ls hl => ?_)
          refine lv_goto (tgt := 7) hx hb dX3_listRunners_55 (by decide) ?_
          exact ih (mu (mu x_1 21 ((x_1 20 0).toNatClampNeg) a2) 20 0 ((x_1 20 0) + 1)) (a2 + 1) _ _ _ hf hM hS (lv_sub hl [1, 2, 0] rfl)
set_option maxHeartbeats 4000000 in
set_option maxRecDepth 100000 in
theorem c_X3_listRunners (l : Launch) (fu nw : Nat) (G : GG) (x x' mo : Me) (r : Unit) (hf : f_X3_listRunners fu nw x = some (x', r)) : Met l yX3_listRunners [.code yX3_listRunners cX3_listRunners 3 none] rm_X3_listRunners (va_Pc [.ref (ga G 14), .ref (ga G 7)] (Pre G nw x mo)) (PV G nw x' mo) 0 0 (gA G) := by
  refine mt_ofW (cc := cX3_listRunners) (maxL := 3) (ret := none) (by decide +kernel) rfl ?_
  intro p e s m args below meth c s₁ B hml hv
  obtain ⟨rfl, hE, hM⟩ := hv
  have hx := B.exec
  have hb := B.bytes
  have hr := B.returns
  have hown : s.vm.findClass RX3 = some m.cls := findClass_of_methodNamed B.named
  have hlocks := B.notSynchronized
  have hS : va_S (gA G) s.heap s.heap [] := va_S.rf
  have hl := lv_entry ([.ref (ga G 14), .ref (ga G 7)]) (n := 3) (Nat.le_of_ble_eq_true rfl)
  rw [lg_entry_eq]
  generalize (lg_sl ([.ref (ga G 14), .ref (ga G 7)]) ++ List.replicate (3 - (lg_sl ([.ref (ga G 14), .ref (ga G 7)])).length) Slot.unset).toArray = ls at hl ⊢
  have hl : lv_has ls 3 [(0, .ref (ga G 14)), (1, .ref (ga G 7))] := hl
  generalize ([.ref (ga G 14), .ref (ga G 7)] : List Value).toArray = args
  unfold f_X3_listRunners at hf
  refine lv_aload_n hx hb dX3_listRunners_0 rfl (lv_at hl 0 rfl) ?_
  refine lv_iconst (v := 0) hx hb dX3_listRunners_1 (by decide) ?_
  refine pf_20 hx hb hE hM hS hown w_1_128 dX3_listRunners_2 (fun H locs hM hS => ?_)
  refine lv_iconst (v := 0) hx hb dX3_listRunners_5 (by decide) ?_
  refine lv_istore_n (lv' := [(2, .int 0), (0, .ref (ga G 14)), (1, .ref (ga G 7))]) hx hb dX3_listRunners_6 rfl hl (by decide) rfl (fun ls hl => ?_)
  refine wk_X3_listRunners_7 hx hb hml hown hE hr hlocks ?_ fu (mu x 20 0 0) 0 _ _ _ hf hM hS (lv_sub hl [1, 2, 0] rfl)
  intro x_6 H locs ls hf hM hS hl
  exact rt_vX hx hb hr hf hM hS dX3_listRunners_58 hlocks
theorem k_X3_listRunners {p : Program} {l : Launch} {e : Env} {R : Room} {s : State} {m : MethodId} {args : Array Value} {below : List Frame} {meth : Method} {c : Code} {H : Heap} {locs : List Loc} {cells slots : Nat} {Q : State → Prop} {cc : ByteArray} {pc nL : Nat} {ls : Array Slot} {rest : List Value} {G : GG} {fu nw : Nat} {x x' mo : Me} {own : String} {index : Nat} {r : Unit} (hx : p.tables.exec = Jvm.exec) (hb : c.code = cc) (hml : c.maxLocals = nL) (hown : s.vm.findClass own = some m.cls) (hE : EnvP G s) (hM : MemP G nw x mo H) (hS : va_S (gA G) s.heap H locs) (hw : Cond.methodLink own index yX3_listRunners ∈ lw_tbl) (hf : f_X3_listRunners fu nw x = some (x', r)) (h1 : 3 + 1 ≤ R.frames) (h2 : 8 + (3 + 11) + 64 ≤ R.locals) (hsz : ls.size = nL) (hW : (rest.map fun v => v.category).sum ≤ 8) (hcs : cells ≤ R.cells ∧ slots ≤ R.slots) (hdg : decode cc pc = .ok (.invokevirtual index, 3)) (kk : ∀ (H1 : Heap) (locs1 : List Loc), MemP G nw x' mo H1 → va_S (gA G) s.heap H1 locs1 → W p l e R s m args below meth c H1 locs1 cells slots Q (F0 m (pc + 3) ls rest)) : W p l e R s m args below meth c H locs cells slots Q (F0 m pc ls (.ref (ga G 7) :: .ref (ga G 14) :: rest)) := mm_kv hS (mm_runV (n := 1) (o := 14) (C := RX3) (T := TX3) (N := 5) (ci := 3) (As := [.ref (ga G 7)]) hx hb hml hown hE hM hS (c_X3_listRunners l fu nw G x x' mo _ hf) (List.forall_mem_cons.mpr ⟨⟨hw, rfl⟩, List.forall_mem_cons.mpr ⟨⟨w_3_77, rfl⟩, List.forall_mem_cons.mpr ⟨⟨w_3_78, rfl⟩, List.forall_mem_cons.mpr ⟨⟨w_1_6, rfl⟩, List.forall_mem_cons.mpr ⟨⟨w_3_79, rfl⟩, fun _ h => absurd h List.not_mem_nil⟩⟩⟩⟩⟩) rfl rfl ⟨rfl, by decide, by decide, by decide +kernel⟩ ⟨h1, h2⟩ rfl rfl rfl hsz rfl hW hdg hcs) kk
def f_X3_hasOther (fu nw : Nat) (x : Me) (a1 : Int32) : Option (Me × Int32) := if inb a1 10 = true then if (x 23 a1.toNatClampNeg) = (-1) then some (x, 0) else if (x 23 a1.toNatClampNeg) = (x 22 a1.toNatClampNeg) then some (x, 0) else some (x, 1) else none
def rm_X3_hasOther : Room := { frames := 0, cells := 0, slots := 0, locals := 0 }
set_option maxHeartbeats 4000000 in
set_option maxRecDepth 100000 in
theorem c_X3_hasOther (l : Launch) (fu nw : Nat) (G : GG) (x x' mo : Me) (a1 : Int32) (r : Int32) (hf : f_X3_hasOther fu nw x a1 = some (x', r)) : Met l yX3_hasOther [.code yX3_hasOther cX3_hasOther 2 (some .boolean)] rm_X3_hasOther (va_Pc [.ref (ga G 14), .int a1] (Pre G nw x mo)) (PI G nw x' mo r) 0 0 (gA G) := by
  refine mt_ofW (cc := cX3_hasOther) (maxL := 2) (ret := (some .boolean)) (by decide +kernel) rfl ?_
  intro p e s m args below meth c s₁ B hml hv
  obtain ⟨rfl, hE, hM⟩ := hv
  have hx := B.exec
  have hb := B.bytes
  have hr := B.returns
  have hown : s.vm.findClass RX3 = some m.cls := findClass_of_methodNamed B.named
  have hlocks := B.notSynchronized
  have hS : va_S (gA G) s.heap s.heap [] := va_S.rf
  have hl := lv_entry ([.ref (ga G 14), .int a1]) (n := 2) (Nat.le_of_ble_eq_true rfl)
  rw [lg_entry_eq]
  generalize (lg_sl ([.ref (ga G 14), .int a1]) ++ List.replicate (2 - (lg_sl ([.ref (ga G 14), .int a1])).length) Slot.unset).toArray = ls at hl ⊢
  have hl : lv_has ls 2 [(0, .ref (ga G 14)), (1, .int a1)] := hl
  generalize ([.ref (ga G 14), .int a1] : List Value).toArray = args
  unfold f_X3_hasOther at hf
  refine lv_aload_n hx hb dX3_hasOther_0 rfl (lv_at hl 0 rfl) ?_
  refine gr_17 hx hb hE hM hown w_1_134 dX3_hasOther_1 ?_
  refine lv_iload_n hx hb dX3_hasOther_4 rfl (lv_at hl 1 rfl) ?_
  obtain ⟨hi_1, hf⟩ := i_n hf
  refine la_17 hx hb hE hM hi_1 dX3_hasOther_5 ?_
  refine lv_iconst (v := (-1)) hx hb dX3_hasOther_6 (by decide) ?_
  refine lv_icmp_eq (tgt := 29) hx hb dX3_hasOther_7 (by decide) (fun hc_3 => ?_) (fun hc_3 => ?_)
  · replace hf := i_t hf hc_3
    refine lv_iconst (v := 0) hx hb dX3_hasOther_29 (by decide) ?_
    exact rt_zX hx hb hr rfl hf hM hS dX3_hasOther_30 hlocks
  · replace hf := i_f hf hc_3
    refine lv_aload_n hx hb dX3_hasOther_10 rfl (lv_at hl 0 rfl) ?_
    refine gr_17 hx hb hE hM hown w_1_134 dX3_hasOther_11 ?_
    refine lv_iload_n hx hb dX3_hasOther_14 rfl (lv_at hl 1 rfl) ?_
    refine la_17 hx hb hE hM hi_1 dX3_hasOther_15 ?_
    refine lv_aload_n hx hb dX3_hasOther_16 rfl (lv_at hl 0 rfl) ?_
    refine gr_16 hx hb hE hM hown w_1_132 dX3_hasOther_17 ?_
    refine lv_iload_n hx hb dX3_hasOther_20 rfl (lv_at hl 1 rfl) ?_
    refine la_16 hx hb hE hM hi_1 dX3_hasOther_21 ?_
    refine lv_icmp_eq (tgt := 29) hx hb dX3_hasOther_22 (by decide) (fun hc_2 => ?_) (fun hc_2 => ?_)
    · replace hf := i_t hf hc_2
      refine lv_iconst (v := 0) hx hb dX3_hasOther_29 (by decide) ?_
      exact rt_zX hx hb hr rfl hf hM hS dX3_hasOther_30 hlocks
    · replace hf := i_f hf hc_2
      refine lv_iconst (v := 1) hx hb dX3_hasOther_25 (by decide) ?_
      refine lv_goto (tgt := 30) hx hb dX3_hasOther_26 (by decide) ?_
      exact rt_zX hx hb hr rfl hf hM hS dX3_hasOther_30 hlocks
theorem k_X3_hasOther {p : Program} {l : Launch} {e : Env} {R : Room} {s : State} {m : MethodId} {args : Array Value} {below : List Frame} {meth : Method} {c : Code} {H : Heap} {locs : List Loc} {cells slots : Nat} {Q : State → Prop} {cc : ByteArray} {pc nL : Nat} {ls : Array Slot} {rest : List Value} {G : GG} {fu nw : Nat} {x x' mo : Me} {own : String} {index : Nat} {a1 : Int32} {r : Int32} (hx : p.tables.exec = Jvm.exec) (hb : c.code = cc) (hml : c.maxLocals = nL) (hown : s.vm.findClass own = some m.cls) (hE : EnvP G s) (hM : MemP G nw x mo H) (hS : va_S (gA G) s.heap H locs) (hw : Cond.methodLink own index yX3_hasOther ∈ lw_tbl) (hf : f_X3_hasOther fu nw x a1 = some (x', r)) (h1 : 0 + 1 ≤ R.frames) (h2 : 8 + (2 + 11) + 0 ≤ R.locals) (hsz : ls.size = nL) (hW : (rest.map fun v => v.category).sum ≤ 8) (hcs : cells ≤ R.cells ∧ slots ≤ R.slots) (hdg : decode cc pc = .ok (.invokevirtual index, 3)) (kk : ∀ (H1 : Heap) (locs1 : List Loc), MemP G nw x' mo H1 → va_S (gA G) s.heap H1 locs1 → W p l e R s m args below meth c H1 locs1 cells slots Q (F0 m (pc + 3) ls (.int r :: rest))) : W p l e R s m args below meth c H locs cells slots Q (F0 m pc ls (.int a1 :: .ref (ga G 14) :: rest)) := mm_ki hS (mm_runV (n := 1) (o := 14) (C := RX3) (T := TX3) (N := 5) (ci := 3) (As := [.int a1]) hx hb hml hown hE hM hS (c_X3_hasOther l fu nw G x x' mo a1 _ hf) (List.forall_mem_cons.mpr ⟨⟨hw, rfl⟩, List.forall_mem_cons.mpr ⟨⟨w_3_173, rfl⟩, List.forall_mem_cons.mpr ⟨⟨w_0_15, rfl⟩, List.forall_mem_cons.mpr ⟨⟨w_1_6, rfl⟩, List.forall_mem_cons.mpr ⟨⟨w_3_174, rfl⟩, fun _ h => absurd h List.not_mem_nil⟩⟩⟩⟩⟩) rfl rfl ⟨rfl, by decide, by decide, by decide +kernel⟩ ⟨h1, h2⟩ rfl rfl rfl hsz rfl hW hdg hcs) kk
def f_X3_countOthers_4 (fu nw : Nat) (k : Me → Int32 → Option (Me × Int32)) : Nat → Me → Int32 → Int32 → Option (Me × Int32)
  | 0 => fun _ _ _ => none
  | n + 1 => fun x a1 a2 => if (x 20 0) ≤ a2 then k x a1 else ob (f_X3_hasOther fu nw x a2) (fun x_1 r_1 => if r_1 = 0 then f_X3_countOthers_4 fu nw k n x_1 a1 (a2 + 1) else f_X3_countOthers_4 fu nw k n x_1 (a1 + 1) (a2 + 1))
def f_X3_countOthers (fu nw : Nat) (x : Me) : Option (Me × Int32) := f_X3_countOthers_4 fu nw (fun (x_4 : Me) (a1_4 : Int32) => some (x_4, a1_4)) fu x 0 0
def rm_X3_countOthers : Room := { frames := 1, cells := 0, slots := 0, locals := 21 }
set_option maxHeartbeats 4000000 in
set_option maxRecDepth 100000 in
theorem wk_X3_countOthers_4 {p : Program} {l : Launch} {e : Env} {s : State} {m : MethodId} {args : Array Value} {below : List Frame} {meth : Method} {c : Code} {fu nw : Nat} {G : GG} {mo : Me} (hx : p.tables.exec = Jvm.exec) (hb : c.code = cX3_countOthers) (hml : c.maxLocals = 3) (hown : s.vm.findClass RX3 = some m.cls) (hE : EnvP G s) (hr : meth.sig.returnType = (some .int)) (hlocks : meth.locks = false) {x' : Me} {r : Int32} {k : Me → Int32 → Option (Me × Int32)} (hk : ∀ (x : Me) (a1 : Int32) (H : Heap) (locs : List Loc) (ls : Array Slot), k x a1 = some (x', r) → MemP G nw x mo H → va_S (gA G) s.heap H locs → lv_has ls 3 [(1, .int a1)] → W p l e rm_X3_countOthers s m args below meth c H locs 0 0 (MQ below (PI G nw x' mo r) args s 0 0 (gA G)) (F0 m 29 ls [])) : ∀ (n : Nat) (x : Me) (a1 : Int32) (a2 : Int32) (H : Heap) (locs : List Loc) (ls : Array Slot), f_X3_countOthers_4 fu nw k n x a1 a2 = some (x', r) → MemP G nw x mo H → va_S (gA G) s.heap H locs → lv_has ls 3 [(0, .ref (ga G 14)), (1, .int a1), (2, .int a2)] → W p l e rm_X3_countOthers s m args below meth c H locs 0 0 (MQ below (PI G nw x' mo r) args s 0 0 (gA G)) (F0 m 4 ls []) := by
  intro n
  induction n with
  | zero =>
    intro x a1 a2 H locs ls hf hM hS hl
    exact nn hf
  | succ n ih =>
    intro x a1 a2 H locs ls hf hM hS hl
    rw [f_X3_countOthers_4] at hf
    refine lv_iload_n hx hb dX3_countOthers_4 rfl (lv_at hl 2 rfl) ?_
    refine lv_aload_n hx hb dX3_countOthers_5 rfl (lv_at hl 0 rfl) ?_
    refine gf_20 hx hb hE hM hown w_1_128 dX3_countOthers_6 ?_
    refine lv_icmp_ge (tgt := 29) hx hb dX3_countOthers_9 (by decide) (fun hc_3 => ?_) (fun hc_3 => ?_)
    · replace hf := i_t hf hc_3
      exact hk x a1 _ _ _ hf hM hS (lv_sub hl [1] rfl)
    · replace hf := i_f hf hc_3
      refine lv_aload_n hx hb dX3_countOthers_12 rfl (lv_at hl 0 rfl) ?_
      refine lv_iload_n hx hb dX3_countOthers_13 rfl (lv_at hl 2 rfl) ?_
      obtain ⟨x_1, r_1, hq_1, hf⟩ := ob_some hf
      refine k_X3_hasOther hx hb hml hown hE hM hS w_3_171 hq_1 (Nat.le_of_ble_eq_true rfl) (Nat.le_of_ble_eq_true rfl) hl.1 (Nat.le_of_ble_eq_true rfl) ⟨Nat.zero_le _, Nat.zero_le _⟩ dX3_countOthers_14 (fun H locs hM hS => ?_)
      refine lv_if_eq (tgt := 23) hx hb dX3_countOthers_17 (by decide) (fun hc_2 => ?_) (fun hc_2 => ?_)
      · replace hf := i_t hf hc_2
        refine lv_iinc (v := a2 + 1) (lv' := [(2, .int (a2 + 1)), (0, .ref (ga G 14)), (1, .int a1)]) hx hb dX3_countOthers_23 hl (k := 2) rfl rfl (by decide) rfl (fun ls hl => ?_)
        refine lv_goto (tgt := 4) hx hb dX3_countOthers_26 (by decide) ?_
        exact ih x_1 a1 (a2 + 1) _ _ _ hf hM hS (lv_sub hl [1, 2, 0] rfl)
      · replace hf := i_f hf hc_2
        refine lv_iinc (v := a1 + 1) (lv' := [(1, .int (a1 + 1)), (0, .ref (ga G 14)), (2, .int a2)]) hx hb dX3_countOthers_20 hl (k := 1) rfl rfl (by decide) rfl (fun ls hl => ?_)
        refine lv_iinc (v := a2 + 1) (lv' := [(2, .int (a2 + 1)), (1, .int (a1 + 1)), (0, .ref (ga G 14))]) hx hb dX3_countOthers_23 hl (k := 2) rfl rfl (by decide) rfl (fun ls hl => ?_)
        refine lv_goto (tgt := 4) hx hb dX3_countOthers_26 (by decide) ?_
        exact ih x_1 (a1 + 1) (a2 + 1) _ _ _ hf hM hS (lv_sub hl [2, 1, 0] rfl)
set_option maxHeartbeats 4000000 in
set_option maxRecDepth 100000 in
theorem c_X3_countOthers (l : Launch) (fu nw : Nat) (G : GG) (x x' mo : Me) (r : Int32) (hf : f_X3_countOthers fu nw x = some (x', r)) : Met l yX3_countOthers [.code yX3_countOthers cX3_countOthers 3 (some .int)] rm_X3_countOthers (va_Pc [.ref (ga G 14)] (Pre G nw x mo)) (PI G nw x' mo r) 0 0 (gA G) := by
  refine mt_ofW (cc := cX3_countOthers) (maxL := 3) (ret := (some .int)) (by decide +kernel) rfl ?_
  intro p e s m args below meth c s₁ B hml hv
  obtain ⟨rfl, hE, hM⟩ := hv
  have hx := B.exec
  have hb := B.bytes
  have hr := B.returns
  have hown : s.vm.findClass RX3 = some m.cls := findClass_of_methodNamed B.named
  have hlocks := B.notSynchronized
  have hS : va_S (gA G) s.heap s.heap [] := va_S.rf
  have hl := lv_entry ([.ref (ga G 14)]) (n := 3) (Nat.le_of_ble_eq_true rfl)
  rw [lg_entry_eq]
  generalize (lg_sl ([.ref (ga G 14)]) ++ List.replicate (3 - (lg_sl ([.ref (ga G 14)])).length) Slot.unset).toArray = ls at hl ⊢
  have hl : lv_has ls 3 [(0, .ref (ga G 14))] := hl
  generalize ([.ref (ga G 14)] : List Value).toArray = args
  unfold f_X3_countOthers at hf
  refine lv_iconst (v := 0) hx hb dX3_countOthers_0 (by decide) ?_
  refine lv_istore_n (lv' := [(1, .int 0), (0, .ref (ga G 14))]) hx hb dX3_countOthers_1 rfl hl (by decide) rfl (fun ls hl => ?_)
  refine lv_iconst (v := 0) hx hb dX3_countOthers_2 (by decide) ?_
  refine lv_istore_n (lv' := [(2, .int 0), (1, .int 0), (0, .ref (ga G 14))]) hx hb dX3_countOthers_3 rfl hl (by decide) rfl (fun ls hl => ?_)
  refine wk_X3_countOthers_4 hx hb hml hown hE hr hlocks ?_ fu x 0 0 _ _ _ hf hM hS (lv_sub hl [2, 1, 0] rfl)
  intro x_4 a1_4 H locs ls hf hM hS hl
  refine lv_iload_n hx hb dX3_countOthers_29 rfl (lv_at hl 0 rfl) ?_
  exact rt_iX hx hb hr hf hM hS dX3_countOthers_30 hlocks
theorem k_X3_countOthers {p : Program} {l : Launch} {e : Env} {R : Room} {s : State} {m : MethodId} {args : Array Value} {below : List Frame} {meth : Method} {c : Code} {H : Heap} {locs : List Loc} {cells slots : Nat} {Q : State → Prop} {cc : ByteArray} {pc nL : Nat} {ls : Array Slot} {rest : List Value} {G : GG} {fu nw : Nat} {x x' mo : Me} {own : String} {index : Nat} {r : Int32} (hx : p.tables.exec = Jvm.exec) (hb : c.code = cc) (hml : c.maxLocals = nL) (hown : s.vm.findClass own = some m.cls) (hE : EnvP G s) (hM : MemP G nw x mo H) (hS : va_S (gA G) s.heap H locs) (hw : Cond.methodLink own index yX3_countOthers ∈ lw_tbl) (hf : f_X3_countOthers fu nw x = some (x', r)) (h1 : 1 + 1 ≤ R.frames) (h2 : 8 + (3 + 11) + 21 ≤ R.locals) (hsz : ls.size = nL) (hW : (rest.map fun v => v.category).sum ≤ 8) (hcs : cells ≤ R.cells ∧ slots ≤ R.slots) (hdg : decode cc pc = .ok (.invokevirtual index, 3)) (kk : ∀ (H1 : Heap) (locs1 : List Loc), MemP G nw x' mo H1 → va_S (gA G) s.heap H1 locs1 → W p l e R s m args below meth c H1 locs1 cells slots Q (F0 m (pc + 3) ls (.int r :: rest))) : W p l e R s m args below meth c H locs cells slots Q (F0 m pc ls (.ref (ga G 14) :: rest)) := mm_ki hS (mm_runV (n := 0) (o := 14) (C := RX3) (T := TX3) (N := 5) (ci := 3) (As := []) hx hb hml hown hE hM hS (c_X3_countOthers l fu nw G x x' mo _ hf) (List.forall_mem_cons.mpr ⟨⟨hw, rfl⟩, List.forall_mem_cons.mpr ⟨⟨w_3_168, rfl⟩, List.forall_mem_cons.mpr ⟨⟨w_3_169, rfl⟩, List.forall_mem_cons.mpr ⟨⟨w_1_6, rfl⟩, List.forall_mem_cons.mpr ⟨⟨w_3_170, rfl⟩, fun _ h => absurd h List.not_mem_nil⟩⟩⟩⟩⟩) rfl rfl ⟨rfl, by decide, by decide, by decide +kernel⟩ ⟨h1, h2⟩ rfl rfl rfl hsz rfl hW hdg hcs) kk
def f_X3_addFalseStarts_2 (fu nw : Nat) (k : Me → Option (Me × Unit)) : Nat → Me → Int32 → Option (Me × Unit)
  | 0 => fun _ _ => none
  | n + 1 => fun x a2 => if (x 20 0) ≤ a2 then k x else if inb a2 10 = true then ob (f_X8_find fu nw x (x 22 a2.toNatClampNeg)) (fun x_2 r_2 => om r_2 (f_X3_addFalseStarts_2 fu nw k n x_2 (a2 + 1)) (fun m_2 => if m_2 < nw then ob (f_X3_hasOther fu nw x_2 a2) (fun x_3 r_3 => if r_3 = 0 then f_X3_addFalseStarts_2 fu nw k n x_3 (a2 + 1) else f_X3_addFalseStarts_2 fu nw k n (mu x_3 54 m_2 ((x_3 54 m_2) + 1)) (a2 + 1)) else none)) else none
def f_X3_addFalseStarts (fu nw : Nat) (x : Me) : Option (Me × Unit) := f_X3_addFalseStarts_2 fu nw (fun (x_6 : Me) => some (x_6, ())) fu x 0
def rm_X3_addFalseStarts : Room := { frames := 2, cells := 0, slots := 0, locals := 42 }
set_option maxHeartbeats 4000000 in
set_option maxRecDepth 100000 in
theorem wk_X3_addFalseStarts_2 {p : Program} {l : Launch} {e : Env} {s : State} {m : MethodId} {args : Array Value} {below : List Frame} {meth : Method} {c : Code} {fu nw : Nat} {G : GG} {mo : Me} (hx : p.tables.exec = Jvm.exec) (hb : c.code = cX3_addFalseStarts) (hml : c.maxLocals = 4) (hown : s.vm.findClass RX3 = some m.cls) (hE : EnvP G s) (hr : meth.sig.returnType = none) (hlocks : meth.locks = false) {x' : Me} {r : Unit} {k : Me → Option (Me × Unit)} (hk : ∀ (x : Me) (H : Heap) (locs : List Loc) (ls : Array Slot), k x = some (x', r) → MemP G nw x mo H → va_S (gA G) s.heap H locs → lv_has ls 4 [] → W p l e rm_X3_addFalseStarts s m args below meth c H locs 0 0 (MQ below (PV G nw x' mo) args s 0 0 (gA G)) (F0 m 49 ls [])) : ∀ (n : Nat) (x : Me) (a2 : Int32) (H : Heap) (locs : List Loc) (ls : Array Slot), f_X3_addFalseStarts_2 fu nw k n x a2 = some (x', r) → MemP G nw x mo H → va_S (gA G) s.heap H locs → lv_has ls 4 [(0, .ref (ga G 14)), (1, .ref (ga G 7)), (2, .int a2)] → W p l e rm_X3_addFalseStarts s m args below meth c H locs 0 0 (MQ below (PV G nw x' mo) args s 0 0 (gA G)) (F0 m 2 ls []) := by
  intro n
  induction n with
  | zero =>
    intro x a2 H locs ls hf hM hS hl
    exact nn hf
  | succ n ih =>
    intro x a2 H locs ls hf hM hS hl
    rw [f_X3_addFalseStarts_2] at hf
    refine lv_iload_n hx hb dX3_addFalseStarts_2 rfl (lv_at hl 2 rfl) ?_
    refine lv_aload_n hx hb dX3_addFalseStarts_3 rfl (lv_at hl 0 rfl) ?_
    refine gf_20 hx hb hE hM hown w_1_128 dX3_addFalseStarts_4 ?_
    refine lv_icmp_ge (tgt := 49) hx hb dX3_addFalseStarts_7 (by decide) (fun hc_5 => ?_) (fun hc_5 => ?_)
    · replace hf := i_t hf hc_5
      exact hk x _ _ _ hf hM hS (lv_sub hl [] rfl)
    · replace hf := i_f hf hc_5
      refine lv_aload_n hx hb dX3_addFalseStarts_10 rfl (lv_at hl 1 rfl) ?_
      refine lv_aload_n hx hb dX3_addFalseStarts_11 rfl (lv_at hl 0 rfl) ?_
      refine gr_16 hx hb hE hM hown w_1_132 dX3_addFalseStarts_12 ?_
      refine lv_iload_n hx hb dX3_addFalseStarts_15 rfl (lv_at hl 2 rfl) ?_
      obtain ⟨hi_1, hf⟩ := i_n hf
      refine la_16 hx hb hE hM hi_1 dX3_addFalseStarts_16 ?_
      obtain ⟨x_2, r_2, hq_2, hf⟩ := ob_some hf
      refine k_X8_find hx hb hml hown hE hM hS w_3_122 hq_2 (Nat.le_of_ble_eq_true rfl) (Nat.le_of_ble_eq_true rfl) hl.1 (Nat.le_of_ble_eq_true rfl) ⟨Nat.zero_le _, Nat.zero_le _⟩ dX3_addFalseStarts_17 (fun h_2 H locs hM hS => ?_) (fun m_2 h_2 H locs hM hS => ?_)
      · subst h_2
        replace hf := om_n hf
        refine lv_astore_nN (lv' := [(3, .null), (0, .ref (ga G 14)), (1, .ref (ga G 7)), (2, .int a2)]) hx hb dX3_addFalseStarts_20 rfl hl (by decide) rfl (fun ls hl => ?_)
        refine lv_aload_nN hx hb dX3_addFalseStarts_21 rfl (lv_at hl 0 rfl) ?_
        refine lv_ifnullN (tgt := 43) hx hb dX3_addFalseStarts_22 (by decide) ?_
        refine lv_iinc (v := a2 + 1) (lv' := [(2, .int (a2 + 1)), (3, .null), (0, .ref (ga G 14)), (1, .ref (ga G 7))]) hx hb dX3_addFalseStarts_43 hl (k := 3) rfl rfl (by decide) rfl (fun ls hl => ?_)
        refine lv_goto (tgt := 2) hx hb dX3_addFalseStarts_46 (by decide) ?_
        exact ih x_2 (a2 + 1) _ _ _ hf hM hS (lv_sub hl [2, 3, 0] rfl)
      · subst h_2
        replace hf := om_s hf
        obtain ⟨hm_2, hf⟩ := i_n hf
        refine lv_astore_n (lv' := [(3, .ref (ga G (69 + m_2))), (0, .ref (ga G 14)), (1, .ref (ga G 7)), (2, .int a2)]) hx hb dX3_addFalseStarts_20 rfl hl (by decide) rfl (fun ls hl => ?_)
        refine lv_aload_n hx hb dX3_addFalseStarts_21 rfl (lv_at hl 0 rfl) ?_
        refine lv_ifnull hx hb dX3_addFalseStarts_22 ?_
        refine lv_aload_n hx hb dX3_addFalseStarts_25 rfl (lv_at hl 1 rfl) ?_
        refine lv_iload_n hx hb dX3_addFalseStarts_26 rfl (lv_at hl 3 rfl) ?_
        obtain ⟨x_3, r_3, hq_3, hf⟩ := ob_some hf
        refine k_X3_hasOther hx hb hml hown hE hM hS w_3_171 hq_3 (Nat.le_of_ble_eq_true rfl) (Nat.le_of_ble_eq_true rfl) hl.1 (Nat.le_of_ble_eq_true rfl) ⟨Nat.zero_le _, Nat.zero_le _⟩ dX3_addFalseStarts_27 (fun H locs hM hS => ?_)
        refine lv_if_eq (tgt := 43) hx hb dX3_addFalseStarts_30 (by decide) (fun hc_4 => ?_) (fun hc_4 => ?_)
        · replace hf := i_t hf hc_4
          refine lv_iinc (v := a2 + 1) (lv' := [(2, .int (a2 + 1)), (3, .ref (ga G (69 + m_2))), (0, .ref (ga G 14)), (1, .ref (ga G 7))]) hx hb dX3_addFalseStarts_43 hl (k := 3) rfl rfl (by decide) rfl (fun ls hl => ?_)
          refine lv_goto (tgt := 2) hx hb dX3_addFalseStarts_46 (by decide) ?_
          exact ih x_3 (a2 + 1) _ _ _ hf hM hS (lv_sub hl [2, 3, 0] rfl)
        · replace hf := i_f hf hc_4
          refine lv_aload_n hx hb dX3_addFalseStarts_33 rfl (lv_at hl 0 rfl) ?_
          refine lv_dup hx hb dX3_addFalseStarts_34 rfl ?_
          refine gf_54N hm_2 hx hb hE hM hown w_3_1 dX3_addFalseStarts_35 ?_
          refine lv_iconst (v := 1) hx hb dX3_addFalseStarts_38 (by decide) ?_
          refine lv_iadd hx hb dX3_addFalseStarts_39 ?_
          refine pf_54N hm_2 hx hb hE hM hS hown w_3_1 dX3_addFalseStarts_40 (fun H locs hM hS => ?_)
          refine lv_iinc (v := a2 + 1) (lv' := [(2, .int (a2 + 1)), (3, .ref (ga G (69 + m_2))), (0, .ref (ga G 14)), (1, .ref (ga G 7))]) hx hb dX3_addFalseStarts_43 hl (k := 3) rfl rfl (by decide) rfl (fun ls hl => ?_)
          refine lv_goto (tgt := 2) hx hb dX3_addFalseStarts_46 (by decide) ?_
          exact ih (mu x_3 54 m_2 ((x_3 54 m_2) + 1)) (a2 + 1) _ _ _ hf hM hS (lv_sub hl [2, 3, 0] rfl)
set_option maxHeartbeats 4000000 in
set_option maxRecDepth 100000 in
theorem c_X3_addFalseStarts (l : Launch) (fu nw : Nat) (G : GG) (x x' mo : Me) (r : Unit) (hf : f_X3_addFalseStarts fu nw x = some (x', r)) : Met l yX3_addFalseStarts [.code yX3_addFalseStarts cX3_addFalseStarts 4 none] rm_X3_addFalseStarts (va_Pc [.ref (ga G 14), .ref (ga G 7)] (Pre G nw x mo)) (PV G nw x' mo) 0 0 (gA G) := by
  refine mt_ofW (cc := cX3_addFalseStarts) (maxL := 4) (ret := none) (by decide +kernel) rfl ?_
  intro p e s m args below meth c s₁ B hml hv
  obtain ⟨rfl, hE, hM⟩ := hv
  have hx := B.exec
  have hb := B.bytes
  have hr := B.returns
  have hown : s.vm.findClass RX3 = some m.cls := findClass_of_methodNamed B.named
  have hlocks := B.notSynchronized
  have hS : va_S (gA G) s.heap s.heap [] := va_S.rf
  have hl := lv_entry ([.ref (ga G 14), .ref (ga G 7)]) (n := 4) (Nat.le_of_ble_eq_true rfl)
  rw [lg_entry_eq]
  generalize (lg_sl ([.ref (ga G 14), .ref (ga G 7)]) ++ List.replicate (4 - (lg_sl ([.ref (ga G 14), .ref (ga G 7)])).length) Slot.unset).toArray = ls at hl ⊢
  have hl : lv_has ls 4 [(0, .ref (ga G 14)), (1, .ref (ga G 7))] := hl
  generalize ([.ref (ga G 14), .ref (ga G 7)] : List Value).toArray = args
  unfold f_X3_addFalseStarts at hf
  refine lv_iconst (v := 0) hx hb dX3_addFalseStarts_0 (by decide) ?_
  refine lv_istore_n (lv' := [(2, .int 0), (0, .ref (ga G 14)), (1, .ref (ga G 7))]) hx hb dX3_addFalseStarts_1 rfl hl (by decide) rfl (fun ls hl => ?_)
  refine wk_X3_addFalseStarts_2 hx hb hml hown hE hr hlocks ?_ fu x 0 _ _ _ hf hM hS (lv_sub hl [1, 2, 0] rfl)
  intro x_6 H locs ls hf hM hS hl
  exact rt_vX hx hb hr hf hM hS dX3_addFalseStarts_49 hlocks
theorem k_X3_addFalseStarts {p : Program} {l : Launch} {e : Env} {R : Room} {s : State} {m : MethodId} {args : Array Value} {below : List Frame} {meth : Method} {c : Code} {H : Heap} {locs : List Loc} {cells slots : Nat} {Q : State → Prop} {cc : ByteArray} {pc nL : Nat} {ls : Array Slot} {rest : List Value} {G : GG} {fu nw : Nat} {x x' mo : Me} {own : String} {index : Nat} {r : Unit} (hx : p.tables.exec = Jvm.exec) (hb : c.code = cc) (hml : c.maxLocals = nL) (hown : s.vm.findClass own = some m.cls) (hE : EnvP G s) (hM : MemP G nw x mo H) (hS : va_S (gA G) s.heap H locs) (hw : Cond.methodLink own index yX3_addFalseStarts ∈ lw_tbl) (hf : f_X3_addFalseStarts fu nw x = some (x', r)) (h1 : 2 + 1 ≤ R.frames) (h2 : 8 + (4 + 11) + 42 ≤ R.locals) (hsz : ls.size = nL) (hW : (rest.map fun v => v.category).sum ≤ 8) (hcs : cells ≤ R.cells ∧ slots ≤ R.slots) (hdg : decode cc pc = .ok (.invokevirtual index, 3)) (kk : ∀ (H1 : Heap) (locs1 : List Loc), MemP G nw x' mo H1 → va_S (gA G) s.heap H1 locs1 → W p l e R s m args below meth c H1 locs1 cells slots Q (F0 m (pc + 3) ls rest)) : W p l e R s m args below meth c H locs cells slots Q (F0 m pc ls (.ref (ga G 7) :: .ref (ga G 14) :: rest)) := mm_kv hS (mm_runV (n := 1) (o := 14) (C := RX3) (T := TX3) (N := 5) (ci := 3) (As := [.ref (ga G 7)]) hx hb hml hown hE hM hS (c_X3_addFalseStarts l fu nw G x x' mo _ hf) (List.forall_mem_cons.mpr ⟨⟨hw, rfl⟩, List.forall_mem_cons.mpr ⟨⟨w_3_176, rfl⟩, List.forall_mem_cons.mpr ⟨⟨w_3_177, rfl⟩, List.forall_mem_cons.mpr ⟨⟨w_1_6, rfl⟩, List.forall_mem_cons.mpr ⟨⟨w_3_178, rfl⟩, fun _ h => absurd h List.not_mem_nil⟩⟩⟩⟩⟩) rfl rfl ⟨rfl, by decide, by decide, by decide +kernel⟩ ⟨h1, h2⟩ rfl rfl rfl hsz rfl hW hdg hcs) kk
def f_X3_closeGap_16_2 (fu nw : Nat) (k : Me → Option (Me × Unit)) : Nat → Me → Int32 → Option (Me × Unit)
  | 0 => fun _ _ => none
  | n + 1 => fun x a3 => if (x 20 0) ≤ (a3 + 1) then k x else if 10 ≤ (a3 + 1) then k x else if inb (a3 + 1) 10 = true then if inb a3 10 = true then f_X3_closeGap_16_2 fu nw k n (mu x 22 a3.toNatClampNeg (x 22 ((a3 + 1).toNatClampNeg))) (a3 + 1) else none else none
def f_X3_closeGap_16 (fu nw : Nat) (x : Me) (a2 : Int32) : Option (Me × Unit) := f_X3_closeGap_16_2 fu nw (fun (x_5 : Me) => some (x_5, ())) fu x a2
def rm_X3_closeGap_16 : Room := { frames := 0, cells := 0, slots := 0, locals := 0 }
set_option maxHeartbeats 4000000 in
set_option maxRecDepth 100000 in
theorem wk_X3_closeGap_16_2 {p : Program} {l : Launch} {e : Env} {s : State} {m : MethodId} {args : Array Value} {below : List Frame} {meth : Method} {c : Code} {fu nw : Nat} {G : GG} {mo : Me} (hx : p.tables.exec = Jvm.exec) (hb : c.code = cX3_closeGap) (hml : c.maxLocals = 4) (hown : s.vm.findClass RX3 = some m.cls) (hE : EnvP G s) (hr : meth.sig.returnType = none) (hlocks : meth.locks = false) {x' : Me} {r : Unit} {k : Me → Option (Me × Unit)} (hk : ∀ (x : Me) (H : Heap) (locs : List Loc) (ls : Array Slot), k x = some (x', r) → MemP G nw x mo H → va_S (gA G) s.heap H locs → lv_has ls 4 [] → W p l e rm_X3_closeGap_16 s m args below meth c H locs 0 0 (MQ below (PV G nw x' mo) args s 0 0 (gA G)) (F0 m 34 ls [])) : ∀ (n : Nat) (x : Me) (a3 : Int32) (H : Heap) (locs : List Loc) (ls : Array Slot), f_X3_closeGap_16_2 fu nw k n x a3 = some (x', r) → MemP G nw x mo H → va_S (gA G) s.heap H locs → lv_has ls 4 [(0, .ref (ga G 14)), (1, .ref (ga G 16)), (3, .int a3)] → W p l e rm_X3_closeGap_16 s m args below meth c H locs 0 0 (MQ below (PV G nw x' mo) args s 0 0 (gA G)) (F0 m 2 ls []) := by
  intro n
  induction n with
  | zero =>
    intro x a3 H locs ls hf hM hS hl
    exact nn hf
  | succ n ih =>
    intro x a3 H locs ls hf hM hS hl
    rw [f_X3_closeGap_16_2] at hf
    refine lv_iload_n hx hb dX3_closeGap_2 rfl (lv_at hl 2 rfl) ?_
    refine lv_iconst (v := 1) hx hb dX3_closeGap_3 (by decide) ?_
    refine lv_iadd hx hb dX3_closeGap_4 ?_
    refine lv_aload_n hx hb dX3_closeGap_5 rfl (lv_at hl 0 rfl) ?_
    refine gf_20 hx hb hE hM hown w_1_128 dX3_closeGap_6 ?_
    refine lv_icmp_ge (tgt := 34) hx hb dX3_closeGap_9 (by decide) (fun hc_4 => ?_) (fun hc_4 => ?_)
    · replace hf := i_t hf hc_4
      exact hk x _ _ _ hf hM hS (lv_sub hl [] rfl)
    · replace hf := i_f hf hc_4
      refine lv_iload_n hx hb dX3_closeGap_12 rfl (lv_at hl 2 rfl) ?_
      refine lv_iconst (v := 1) hx hb dX3_closeGap_13 (by decide) ?_
      refine lv_iadd hx hb dX3_closeGap_14 ?_
      refine lv_aload_n hx hb dX3_closeGap_15 rfl (lv_at hl 1 rfl) ?_
      refine ln_16 hx hb hE hM dX3_closeGap_16 ?_
      refine lv_icmp_ge (tgt := 34) hx hb dX3_closeGap_17 (by decide) (fun hc_3 => ?_) (fun hc_3 => ?_)
      · replace hf := i_t hf hc_3
        exact hk x _ _ _ hf hM hS (lv_sub hl [] rfl)
      · replace hf := i_f hf hc_3
        refine lv_aload_n hx hb dX3_closeGap_20 rfl (lv_at hl 1 rfl) ?_
        refine lv_iload_n hx hb dX3_closeGap_21 rfl (lv_at hl 2 rfl) ?_
        refine lv_aload_n hx hb dX3_closeGap_22 rfl (lv_at hl 1 rfl) ?_
        refine lv_iload_n hx hb dX3_closeGap_23 rfl (lv_at hl 2 rfl) ?_
        refine lv_iconst (v := 1) hx hb dX3_closeGap_24 (by decide) ?_
        refine lv_iadd hx hb dX3_closeGap_25 ?_
        obtain ⟨hi_1, hf⟩ := i_n hf
        refine la_16 hx hb hE hM hi_1 dX3_closeGap_26 ?_
        obtain ⟨hi_2, hf⟩ := i_n hf
        refine sa_16 hx hb hE hM hS hi_2 dX3_closeGap_27 (fun H locs hM hS => ?_)
        refine lv_iinc (v := a3 + 1) (lv' := [(3, .int (a3 + 1)), (0, .ref (ga G 14)), (1, .ref (ga G 16))]) hx hb dX3_closeGap_28 hl (k := 2) rfl rfl (by decide) rfl (fun ls hl => ?_)
        refine lv_goto (tgt := 2) hx hb dX3_closeGap_31 (by decide) ?_
        exact ih (mu x 22 a3.toNatClampNeg (x 22 ((a3 + 1).toNatClampNeg))) (a3 + 1) _ _ _ hf hM hS (lv_sub hl [1, 2, 0] rfl)
set_option maxHeartbeats 4000000 in
set_option maxRecDepth 100000 in
theorem c_X3_closeGap_16 (l : Launch) (fu nw : Nat) (G : GG) (x x' mo : Me) (a2 : Int32) (r : Unit) (hf : f_X3_closeGap_16 fu nw x a2 = some (x', r)) : Met l yX3_closeGap [.code yX3_closeGap cX3_closeGap 4 none] rm_X3_closeGap_16 (va_Pc [.ref (ga G 14), .ref (ga G 16), .int a2] (Pre G nw x mo)) (PV G nw x' mo) 0 0 (gA G) := by
  refine mt_ofW (cc := cX3_closeGap) (maxL := 4) (ret := none) (by decide +kernel) rfl ?_
  intro p e s m args below meth c s₁ B hml hv
  obtain ⟨rfl, hE, hM⟩ := hv
  have hx := B.exec
  have hb := B.bytes
  have hr := B.returns
  have hown : s.vm.findClass RX3 = some m.cls := findClass_of_methodNamed B.named
  have hlocks := B.notSynchronized
  have hS : va_S (gA G) s.heap s.heap [] := va_S.rf
  have hl := lv_entry ([.ref (ga G 14), .ref (ga G 16), .int a2]) (n := 4) (Nat.le_of_ble_eq_true rfl)
  rw [lg_entry_eq]
  generalize (lg_sl ([.ref (ga G 14), .ref (ga G 16), .int a2]) ++ List.replicate (4 - (lg_sl ([.ref (ga G 14), .ref (ga G 16), .int a2])).length) Slot.unset).toArray = ls at hl ⊢
  have hl : lv_has ls 4 [(0, .ref (ga G 14)), (1, .ref (ga G 16)), (2, .int a2)] := hl
  generalize ([.ref (ga G 14), .ref (ga G 16), .int a2] : List Value).toArray = args
  unfold f_X3_closeGap_16 at hf
  refine lv_iload_n hx hb dX3_closeGap_0 rfl (lv_at hl 2 rfl) ?_
  refine lv_istore_n (lv' := [(3, .int a2), (0, .ref (ga G 14)), (1, .ref (ga G 16)), (2, .int a2)]) hx hb dX3_closeGap_1 rfl hl (by decide) rfl (fun ls hl => ?_)
  refine wk_X3_closeGap_16_2 hx hb hml hown hE hr hlocks ?_ fu x a2 _ _ _ hf hM hS (lv_sub hl [1, 2, 0] rfl)
  intro x_5 H locs ls hf hM hS hl
  exact rt_vX hx hb hr hf hM hS dX3_closeGap_34 hlocks
theorem k_X3_closeGap_16 {p : Program} {l : Launch} {e : Env} {R : Room} {s : State} {m : MethodId} {args : Array Value} {below : List Frame} {meth : Method} {c : Code} {H : Heap} {locs : List Loc} {cells slots : Nat} {Q : State → Prop} {cc : ByteArray} {pc nL : Nat} {ls : Array Slot} {rest : List Value} {G : GG} {fu nw : Nat} {x x' mo : Me} {own : String} {index : Nat} {a2 : Int32} {r : Unit} (hx : p.tables.exec = Jvm.exec) (hb : c.code = cc) (hml : c.maxLocals = nL) (hown : s.vm.findClass own = some m.cls) (hE : EnvP G s) (hM : MemP G nw x mo H) (hS : va_S (gA G) s.heap H locs) (hw : Cond.methodLink own index yX3_closeGap ∈ lw_tbl) (hf : f_X3_closeGap_16 fu nw x a2 = some (x', r)) (h1 : 0 + 1 ≤ R.frames) (h2 : 8 + (4 + 11) + 0 ≤ R.locals) (hsz : ls.size = nL) (hW : (rest.map fun v => v.category).sum ≤ 8) (hcs : cells ≤ R.cells ∧ slots ≤ R.slots) (hdg : decode cc pc = .ok (.invokevirtual index, 3)) (kk : ∀ (H1 : Heap) (locs1 : List Loc), MemP G nw x' mo H1 → va_S (gA G) s.heap H1 locs1 → W p l e R s m args below meth c H1 locs1 cells slots Q (F0 m (pc + 3) ls rest)) : W p l e R s m args below meth c H locs cells slots Q (F0 m pc ls (.int a2 :: .ref (ga G 16) :: .ref (ga G 14) :: rest)) := mm_kv hS (mm_runV (n := 2) (o := 14) (C := RX3) (T := TX3) (N := 5) (ci := 3) (As := [.ref (ga G 16), .int a2]) hx hb hml hown hE hM hS (c_X3_closeGap_16 l fu nw G x x' mo a2 _ hf) (List.forall_mem_cons.mpr ⟨⟨hw, rfl⟩, List.forall_mem_cons.mpr ⟨⟨w_3_120, rfl⟩, List.forall_mem_cons.mpr ⟨⟨w_0_14, rfl⟩, List.forall_mem_cons.mpr ⟨⟨w_1_6, rfl⟩, List.forall_mem_cons.mpr ⟨⟨w_3_121, rfl⟩, fun _ h => absurd h List.not_mem_nil⟩⟩⟩⟩⟩) rfl rfl ⟨rfl, by decide, by decide, by decide +kernel⟩ ⟨h1, h2⟩ rfl rfl rfl hsz rfl hW hdg hcs) kk
def f_X3_moveToEnd_2 (fu nw : Nat) (b1 : Int32) (k : Me → Option (Me × Unit)) : Nat → Me → Int32 → Option (Me × Unit)
  | 0 => fun _ _ => none
  | n + 1 => fun x a2 => if (x 20 0) ≤ a2 then k x else if inb a2 10 = true then if (x 22 a2.toNatClampNeg) = b1 then ob (f_X3_closeGap_16 fu nw x a2) (fun x_2 _ => if inb ((x_2 20 0) - 1) 10 = true then some ((mu x_2 22 (((x_2 20 0) - 1).toNatClampNeg) b1), ()) else none) else f_X3_moveToEnd_2 fu nw b1 k n x (a2 + 1) else none
def f_X3_moveToEnd (fu nw : Nat) (x : Me) (a1 : Int32) : Option (Me × Unit) := f_X3_moveToEnd_2 fu nw a1 (fun (x_6 : Me) => some (x_6, ())) fu x 0
def rm_X3_moveToEnd : Room := { frames := 1, cells := 0, slots := 0, locals := 23 }
set_option maxHeartbeats 4000000 in
set_option maxRecDepth 100000 in
theorem wk_X3_moveToEnd_2 {p : Program} {l : Launch} {e : Env} {s : State} {m : MethodId} {args : Array Value} {below : List Frame} {meth : Method} {c : Code} {fu nw : Nat} {G : GG} {mo : Me} {b1 : Int32} (hx : p.tables.exec = Jvm.exec) (hb : c.code = cX3_moveToEnd) (hml : c.maxLocals = 3) (hown : s.vm.findClass RX3 = some m.cls) (hE : EnvP G s) (hr : meth.sig.returnType = none) (hlocks : meth.locks = false) {x' : Me} {r : Unit} {k : Me → Option (Me × Unit)} (hk : ∀ (x : Me) (H : Heap) (locs : List Loc) (ls : Array Slot), k x = some (x', r) → MemP G nw x mo H → va_S (gA G) s.heap H locs → lv_has ls 3 [] → W p l e rm_X3_moveToEnd s m args below meth c H locs 0 0 (MQ below (PV G nw x' mo) args s 0 0 (gA G)) (F0 m 48 ls [])) : ∀ (n : Nat) (x : Me) (a2 : Int32) (H : Heap) (locs : List Loc) (ls : Array Slot), f_X3_moveToEnd_2 fu nw b1 k n x a2 = some (x', r) → MemP G nw x mo H → va_S (gA G) s.heap H locs → lv_has ls 3 [(0, .ref (ga G 14)), (1, .int b1), (2, .int a2)] → W p l e rm_X3_moveToEnd s m args below meth c H locs 0 0 (MQ below (PV G nw x' mo) args s 0 0 (gA G)) (F0 m 2 ls []) := by
  intro n
  induction n with
  | zero =>
    intro x a2 H locs ls hf hM hS hl
    exact nn hf
  | succ n ih =>
    intro x a2 H locs ls hf hM hS hl
    rw [f_X3_moveToEnd_2] at hf
    refine lv_iload_n hx hb dX3_moveToEnd_2 rfl (lv_at hl 2 rfl) ?_
    refine lv_aload_n hx hb dX3_moveToEnd_3 rfl (lv_at hl 0 rfl) ?_
    refine gf_20 hx hb hE hM hown w_1_128 dX3_moveToEnd_4 ?_
    refine lv_icmp_ge (tgt := 48) hx hb dX3_moveToEnd_7 (by decide) (fun hc_5 => ?_) (fun hc_5 => ?_)
    · replace hf := i_t hf hc_5
      exact hk x _ _ _ hf hM hS (lv_sub hl [] rfl)
    · replace hf := i_f hf hc_5
      refine lv_aload_n hx hb dX3_moveToEnd_10 rfl (lv_at hl 0 rfl) ?_
      refine gr_16 hx hb hE hM hown w_1_132 dX3_moveToEnd_11 ?_
      refine lv_iload_n hx hb dX3_moveToEnd_14 rfl (lv_at hl 2 rfl) ?_
      obtain ⟨hi_1, hf⟩ := i_n hf
      refine la_16 hx hb hE hM hi_1 dX3_moveToEnd_15 ?_
      refine lv_iload_n hx hb dX3_moveToEnd_16 rfl (lv_at hl 1 rfl) ?_
      refine lv_icmp_ne (tgt := 42) hx hb dX3_moveToEnd_17 (by decide) (fun hc_4 => ?_) (fun hc_4 => ?_)
      · replace hf := i_f hf hc_4
        refine lv_iinc (v := a2 + 1) (lv' := [(2, .int (a2 + 1)), (0, .ref (ga G 14)), (1, .int b1)]) hx hb dX3_moveToEnd_42 hl (k := 2) rfl rfl (by decide) rfl (fun ls hl => ?_)
        refine lv_goto (tgt := 2) hx hb dX3_moveToEnd_45 (by decide) ?_
        exact ih x (a2 + 1) _ _ _ hf hM hS (lv_sub hl [1, 2, 0] rfl)
      · replace hf := i_t hf hc_4
        refine lv_aload_n hx hb dX3_moveToEnd_20 rfl (lv_at hl 0 rfl) ?_
        refine lv_aload_n hx hb dX3_moveToEnd_21 rfl (lv_at hl 0 rfl) ?_
        refine gr_16 hx hb hE hM hown w_1_132 dX3_moveToEnd_22 ?_
        refine lv_iload_n hx hb dX3_moveToEnd_25 rfl (lv_at hl 2 rfl) ?_
        obtain ⟨x_2, r_2, hq_2, hf⟩ := ob_some hf
        refine k_X3_closeGap_16 hx hb hml hown hE hM hS w_3_118 hq_2 (Nat.le_of_ble_eq_true rfl) (Nat.le_of_ble_eq_true rfl) hl.1 (Nat.le_of_ble_eq_true rfl) ⟨Nat.zero_le _, Nat.zero_le _⟩ dX3_moveToEnd_26 (fun H locs hM hS => ?_)
        refine lv_aload_n hx hb dX3_moveToEnd_29 rfl (lv_at hl 0 rfl) ?_
        refine gr_16 hx hb hE hM hown w_1_132 dX3_moveToEnd_30 ?_
        refine lv_aload_n hx hb dX3_moveToEnd_33 rfl (lv_at hl 0 rfl) ?_
        refine gf_20 hx hb hE hM hown w_1_128 dX3_moveToEnd_34 ?_
        refine lv_iconst (v := 1) hx hb dX3_moveToEnd_37 (by decide) ?_
        refine lv_isub hx hb dX3_moveToEnd_38 ?_
        refine lv_iload_n hx hb dX3_moveToEnd_39 rfl (lv_at hl 1 rfl) ?_
        obtain ⟨hi_3, hf⟩ := i_n hf
        refine sa_16 hx hb hE hM hS hi_3 dX3_moveToEnd_40 (fun H locs hM hS => ?_)
        exact rt_vX hx hb hr hf hM hS dX3_moveToEnd_41 hlocks
set_option maxHeartbeats 4000000 in
set_option maxRecDepth 100000 in
theorem c_X3_moveToEnd (l : Launch) (fu nw : Nat) (G : GG) (x x' mo : Me) (a1 : Int32) (r : Unit) (hf : f_X3_moveToEnd fu nw x a1 = some (x', r)) : Met l yX3_moveToEnd [.code yX3_moveToEnd cX3_moveToEnd 3 none] rm_X3_moveToEnd (va_Pc [.ref (ga G 14), .int a1] (Pre G nw x mo)) (PV G nw x' mo) 0 0 (gA G) := by
  refine mt_ofW (cc := cX3_moveToEnd) (maxL := 3) (ret := none) (by decide +kernel) rfl ?_
  intro p e s m args below meth c s₁ B hml hv
  obtain ⟨rfl, hE, hM⟩ := hv
  have hx := B.exec
  have hb := B.bytes
  have hr := B.returns
  have hown : s.vm.findClass RX3 = some m.cls := findClass_of_methodNamed B.named
  have hlocks := B.notSynchronized
  have hS : va_S (gA G) s.heap s.heap [] := va_S.rf
  have hl := lv_entry ([.ref (ga G 14), .int a1]) (n := 3) (Nat.le_of_ble_eq_true rfl)
  rw [lg_entry_eq]
  generalize (lg_sl ([.ref (ga G 14), .int a1]) ++ List.replicate (3 - (lg_sl ([.ref (ga G 14), .int a1])).length) Slot.unset).toArray = ls at hl ⊢
  have hl : lv_has ls 3 [(0, .ref (ga G 14)), (1, .int a1)] := hl
  generalize ([.ref (ga G 14), .int a1] : List Value).toArray = args
  unfold f_X3_moveToEnd at hf
  refine lv_iconst (v := 0) hx hb dX3_moveToEnd_0 (by decide) ?_
  refine lv_istore_n (lv' := [(2, .int 0), (0, .ref (ga G 14)), (1, .int a1)]) hx hb dX3_moveToEnd_1 rfl hl (by decide) rfl (fun ls hl => ?_)
  refine wk_X3_moveToEnd_2 hx hb hml hown hE hr hlocks ?_ fu x 0 _ _ _ hf hM hS (lv_sub hl [1, 2, 0] rfl)
  intro x_6 H locs ls hf hM hS hl
  exact rt_vX hx hb hr hf hM hS dX3_moveToEnd_48 hlocks
theorem k_X3_moveToEnd {p : Program} {l : Launch} {e : Env} {R : Room} {s : State} {m : MethodId} {args : Array Value} {below : List Frame} {meth : Method} {c : Code} {H : Heap} {locs : List Loc} {cells slots : Nat} {Q : State → Prop} {cc : ByteArray} {pc nL : Nat} {ls : Array Slot} {rest : List Value} {G : GG} {fu nw : Nat} {x x' mo : Me} {own : String} {index : Nat} {a1 : Int32} {r : Unit} (hx : p.tables.exec = Jvm.exec) (hb : c.code = cc) (hml : c.maxLocals = nL) (hown : s.vm.findClass own = some m.cls) (hE : EnvP G s) (hM : MemP G nw x mo H) (hS : va_S (gA G) s.heap H locs) (hw : Cond.methodLink own index yX3_moveToEnd ∈ lw_tbl) (hf : f_X3_moveToEnd fu nw x a1 = some (x', r)) (h1 : 1 + 1 ≤ R.frames) (h2 : 8 + (3 + 11) + 23 ≤ R.locals) (hsz : ls.size = nL) (hW : (rest.map fun v => v.category).sum ≤ 8) (hcs : cells ≤ R.cells ∧ slots ≤ R.slots) (hdg : decode cc pc = .ok (.invokevirtual index, 3)) (kk : ∀ (H1 : Heap) (locs1 : List Loc), MemP G nw x' mo H1 → va_S (gA G) s.heap H1 locs1 → W p l e R s m args below meth c H1 locs1 cells slots Q (F0 m (pc + 3) ls rest)) : W p l e R s m args below meth c H locs cells slots Q (F0 m pc ls (.int a1 :: .ref (ga G 14) :: rest)) := mm_kv hS (mm_runV (n := 1) (o := 14) (C := RX3) (T := TX3) (N := 5) (ci := 3) (As := [.int a1]) hx hb hml hown hE hM hS (c_X3_moveToEnd l fu nw G x x' mo a1 _ hf) (List.forall_mem_cons.mpr ⟨⟨hw, rfl⟩, List.forall_mem_cons.mpr ⟨⟨w_3_186, rfl⟩, List.forall_mem_cons.mpr ⟨⟨w_0_16, rfl⟩, List.forall_mem_cons.mpr ⟨⟨w_1_6, rfl⟩, List.forall_mem_cons.mpr ⟨⟨w_3_187, rfl⟩, fun _ h => absurd h List.not_mem_nil⟩⟩⟩⟩⟩) rfl rfl ⟨rfl, by decide, by decide, by decide +kernel⟩ ⟨h1, h2⟩ rfl rfl rfl hsz rfl hW hdg hcs) kk
def f_X3_sendBack_2 (fu nw : Nat) (b2 : Int32) (k : Me → Option (Me × Unit)) : Nat → Me → Int32 → Option (Me × Unit)
  | 0 => fun _ _ => none
  | n + 1 => fun x a3 => if (x 20 0) ≤ a3 then k x else if b2 ≤ 0 then k x else if inb a3 10 = true then ob (f_X8_find fu nw x (x 21 a3.toNatClampNeg)) (fun x_2 r_2 => om r_2 (f_X3_sendBack_2 fu nw b2 k n x_2 (a3 + 1)) (fun m_2 => if m_2 < nw then if (x_2 54 m_2) < b2 then f_X3_sendBack_2 fu nw b2 k n x_2 (a3 + 1) else ob (f_X3_moveToEnd fu nw x_2 (x_2 21 a3.toNatClampNeg)) (fun x_3 _ => f_X3_sendBack_2 fu nw b2 k n (mu x_3 54 m_2 0) (a3 + 1)) else none)) else none
def f_X3_sendBack (fu nw : Nat) (x : Me) (a2 : Int32) : Option (Me × Unit) := f_X3_sendBack_2 fu nw a2 (fun (x_7 : Me) => some (x_7, ())) fu x 0
def rm_X3_sendBack : Room := { frames := 2, cells := 0, slots := 0, locals := 45 }
set_option maxHeartbeats 4000000 in
set_option maxRecDepth 100000 in
theorem wk_X3_sendBack_2 {p : Program} {l : Launch} {e : Env} {s : State} {m : MethodId} {args : Array Value} {below : List Frame} {meth : Method} {c : Code} {fu nw : Nat} {G : GG} {mo : Me} {b2 : Int32} (hx : p.tables.exec = Jvm.exec) (hb : c.code = cX3_sendBack) (hml : c.maxLocals = 5) (hown : s.vm.findClass RX3 = some m.cls) (hE : EnvP G s) (hr : meth.sig.returnType = none) (hlocks : meth.locks = false) {x' : Me} {r : Unit} {k : Me → Option (Me × Unit)} (hk : ∀ (x : Me) (H : Heap) (locs : List Loc) (ls : Array Slot), k x = some (x', r) → MemP G nw x mo H → va_S (gA G) s.heap H locs → lv_has ls 5 [] → W p l e rm_X3_sendBack s m args below meth c H locs 0 0 (MQ below (PV G nw x' mo) args s 0 0 (gA G)) (F0 m 62 ls [])) : ∀ (n : Nat) (x : Me) (a3 : Int32) (H : Heap) (locs : List Loc) (ls : Array Slot), f_X3_sendBack_2 fu nw b2 k n x a3 = some (x', r) → MemP G nw x mo H → va_S (gA G) s.heap H locs → lv_has ls 5 [(0, .ref (ga G 14)), (1, .ref (ga G 7)), (2, .int b2), (3, .int a3)] → W p l e rm_X3_sendBack s m args below meth c H locs 0 0 (MQ below (PV G nw x' mo) args s 0 0 (gA G)) (F0 m 2 ls []) := by
  intro n
  induction n with
  | zero =>
    intro x a3 H locs ls hf hM hS hl
    exact nn hf
  | succ n ih =>
    intro x a3 H locs ls hf hM hS hl
    rw [f_X3_sendBack_2] at hf
    refine lv_iload_n hx hb dX3_sendBack_2 rfl (lv_at hl 3 rfl) ?_
    refine lv_aload_n hx hb dX3_sendBack_3 rfl (lv_at hl 0 rfl) ?_
    refine gf_20 hx hb hE hM hown w_1_128 dX3_sendBack_4 ?_
    refine lv_icmp_ge (tgt := 62) hx hb dX3_sendBack_7 (by decide) (fun hc_6 => ?_) (fun hc_6 => ?_)
    · replace hf := i_t hf hc_6
      exact hk x _ _ _ hf hM hS (lv_sub hl [] rfl)
    · replace hf := i_f hf hc_6
      refine lv_iload_n hx hb dX3_sendBack_10 rfl (lv_at hl 2 rfl) ?_
      refine lv_if_le (tgt := 62) hx hb dX3_sendBack_11 (by decide) (fun hc_5 => ?_) (fun hc_5 => ?_)
      · replace hf := i_t hf hc_5
        exact hk x _ _ _ hf hM hS (lv_sub hl [] rfl)
      · replace hf := i_f hf hc_5
        refine lv_aload_n hx hb dX3_sendBack_14 rfl (lv_at hl 1 rfl) ?_
        refine lv_aload_n hx hb dX3_sendBack_15 rfl (lv_at hl 0 rfl) ?_
        refine gr_15 hx hb hE hM hown w_1_130 dX3_sendBack_16 ?_
        refine lv_iload_n hx hb dX3_sendBack_19 rfl (lv_at hl 3 rfl) ?_
        obtain ⟨hi_1, hf⟩ := i_n hf
        refine la_15 hx hb hE hM hi_1 dX3_sendBack_20 ?_
        obtain ⟨x_2, r_2, hq_2, hf⟩ := ob_some hf
        refine k_X8_find hx hb hml hown hE hM hS w_3_122 hq_2 (Nat.le_of_ble_eq_true rfl) (Nat.le_of_ble_eq_true rfl) hl.1 (Nat.le_of_ble_eq_true rfl) ⟨Nat.zero_le _, Nat.zero_le _⟩ dX3_sendBack_21 (fun h_2 H locs hM hS => ?_) (fun m_2 h_2 H locs hM hS => ?_)
        · subst h_2
          replace hf := om_n hf
          refine lv_astoreN (lv' := [(4, .null), (0, .ref (ga G 14)), (1, .ref (ga G 7)), (2, .int b2), (3, .int a3)]) hx hb dX3_sendBack_24 hl (by decide) rfl (fun ls hl => ?_)
          refine lv_aloadN hx hb dX3_sendBack_26 (lv_at hl 0 rfl) ?_
          refine lv_ifnullN (tgt := 56) hx hb dX3_sendBack_28 (by decide) ?_
          refine lv_iinc (v := a3 + 1) (lv' := [(3, .int (a3 + 1)), (4, .null), (0, .ref (ga G 14)), (1, .ref (ga G 7)), (2, .int b2)]) hx hb dX3_sendBack_56 hl (k := 4) rfl rfl (by decide) rfl (fun ls hl => ?_)
          refine lv_goto (tgt := 2) hx hb dX3_sendBack_59 (by decide) ?_
          exact ih x_2 (a3 + 1) _ _ _ hf hM hS (lv_sub hl [2, 3, 4, 0] rfl)
        · subst h_2
          replace hf := om_s hf
          obtain ⟨hm_2, hf⟩ := i_n hf
          refine lv_astore (lv' := [(4, .ref (ga G (69 + m_2))), (0, .ref (ga G 14)), (1, .ref (ga G 7)), (2, .int b2), (3, .int a3)]) hx hb dX3_sendBack_24 hl (by decide) rfl (fun ls hl => ?_)
          refine lv_aload hx hb dX3_sendBack_26 (lv_at hl 0 rfl) ?_
          refine lv_ifnull hx hb dX3_sendBack_28 ?_
          refine lv_aload hx hb dX3_sendBack_31 (lv_at hl 0 rfl) ?_
          refine gf_54N hm_2 hx hb hE hM hown w_3_1 dX3_sendBack_33 ?_
          refine lv_iload_n hx hb dX3_sendBack_36 rfl (lv_at hl 3 rfl) ?_
          refine lv_icmp_lt (tgt := 56) hx hb dX3_sendBack_37 (by decide) (fun hc_4 => ?_) (fun hc_4 => ?_)
          · replace hf := i_t hf hc_4
            refine lv_iinc (v := a3 + 1) (lv' := [(3, .int (a3 + 1)), (4, .ref (ga G (69 + m_2))), (0, .ref (ga G 14)), (1, .ref (ga G 7)), (2, .int b2)]) hx hb dX3_sendBack_56 hl (k := 4) rfl rfl (by decide) rfl (fun ls hl => ?_)
            refine lv_goto (tgt := 2) hx hb dX3_sendBack_59 (by decide) ?_
            exact ih x_2 (a3 + 1) _ _ _ hf hM hS (lv_sub hl [2, 3, 4, 0] rfl)
          · replace hf := i_f hf hc_4
            refine lv_aload_n hx hb dX3_sendBack_40 rfl (lv_at hl 1 rfl) ?_
            refine lv_aload_n hx hb dX3_sendBack_41 rfl (lv_at hl 1 rfl) ?_
            refine gr_15 hx hb hE hM hown w_1_130 dX3_sendBack_42 ?_
            refine lv_iload_n hx hb dX3_sendBack_45 rfl (lv_at hl 4 rfl) ?_
            refine la_15 hx hb hE hM hi_1 dX3_sendBack_46 ?_
            obtain ⟨x_3, r_3, hq_3, hf⟩ := ob_some hf
            refine k_X3_moveToEnd hx hb hml hown hE hM hS w_3_184 hq_3 (Nat.le_of_ble_eq_true rfl) (Nat.le_of_ble_eq_true rfl) hl.1 (Nat.le_of_ble_eq_true rfl) ⟨Nat.zero_le _, Nat.zero_le _⟩ dX3_sendBack_47 (fun H locs hM hS => ?_)
            refine lv_aload hx hb dX3_sendBack_50 (lv_at hl 0 rfl) ?_
            refine lv_iconst (v := 0) hx hb dX3_sendBack_52 (by decide) ?_
            refine pf_54N hm_2 hx hb hE hM hS hown w_3_1 dX3_sendBack_53 (fun H locs hM hS => ?_)
            refine lv_iinc (v := a3 + 1) (lv' := [(3, .int (a3 + 1)), (4, .ref (ga G (69 + m_2))), (0, .ref (ga G 14)), (1, .ref (ga G 7)), (2, .int b2)]) hx hb dX3_sendBack_56 hl (k := 4) rfl rfl (by decide) rfl (fun ls hl => ?_)
            refine lv_goto (tgt := 2) hx hb dX3_sendBack_59 (by decide) ?_
            exact ih (mu x_3 54 m_2 0) (a3 + 1) _ _ _ hf hM hS (lv_sub hl [2, 3, 4, 0] rfl)
set_option maxHeartbeats 4000000 in
set_option maxRecDepth 100000 in
theorem c_X3_sendBack (l : Launch) (fu nw : Nat) (G : GG) (x x' mo : Me) (a2 : Int32) (r : Unit) (hf : f_X3_sendBack fu nw x a2 = some (x', r)) : Met l yX3_sendBack [.code yX3_sendBack cX3_sendBack 5 none] rm_X3_sendBack (va_Pc [.ref (ga G 14), .ref (ga G 7), .int a2] (Pre G nw x mo)) (PV G nw x' mo) 0 0 (gA G) := by
  refine mt_ofW (cc := cX3_sendBack) (maxL := 5) (ret := none) (by decide +kernel) rfl ?_
  intro p e s m args below meth c s₁ B hml hv
  obtain ⟨rfl, hE, hM⟩ := hv
  have hx := B.exec
  have hb := B.bytes
  have hr := B.returns
  have hown : s.vm.findClass RX3 = some m.cls := findClass_of_methodNamed B.named
  have hlocks := B.notSynchronized
  have hS : va_S (gA G) s.heap s.heap [] := va_S.rf
  have hl := lv_entry ([.ref (ga G 14), .ref (ga G 7), .int a2]) (n := 5) (Nat.le_of_ble_eq_true rfl)
  rw [lg_entry_eq]
  generalize (lg_sl ([.ref (ga G 14), .ref (ga G 7), .int a2]) ++ List.replicate (5 - (lg_sl ([.ref (ga G 14), .ref (ga G 7), .int a2])).length) Slot.unset).toArray = ls at hl ⊢
  have hl : lv_has ls 5 [(0, .ref (ga G 14)), (1, .ref (ga G 7)), (2, .int a2)] := hl
  generalize ([.ref (ga G 14), .ref (ga G 7), .int a2] : List Value).toArray = args
  unfold f_X3_sendBack at hf
  refine lv_iconst (v := 0) hx hb dX3_sendBack_0 (by decide) ?_
  refine lv_istore_n (lv' := [(3, .int 0), (0, .ref (ga G 14)), (1, .ref (ga G 7)), (2, .int a2)]) hx hb dX3_sendBack_1 rfl hl (by decide) rfl (fun ls hl => ?_)
  refine wk_X3_sendBack_2 hx hb hml hown hE hr hlocks ?_ fu x 0 _ _ _ hf hM hS (lv_sub hl [1, 2, 3, 0] rfl)
  intro x_7 H locs ls hf hM hS hl
  exact rt_vX hx hb hr hf hM hS dX3_sendBack_62 hlocks
theorem k_X3_sendBack {p : Program} {l : Launch} {e : Env} {R : Room} {s : State} {m : MethodId} {args : Array Value} {below : List Frame} {meth : Method} {c : Code} {H : Heap} {locs : List Loc} {cells slots : Nat} {Q : State → Prop} {cc : ByteArray} {pc nL : Nat} {ls : Array Slot} {rest : List Value} {G : GG} {fu nw : Nat} {x x' mo : Me} {own : String} {index : Nat} {a2 : Int32} {r : Unit} (hx : p.tables.exec = Jvm.exec) (hb : c.code = cc) (hml : c.maxLocals = nL) (hown : s.vm.findClass own = some m.cls) (hE : EnvP G s) (hM : MemP G nw x mo H) (hS : va_S (gA G) s.heap H locs) (hw : Cond.methodLink own index yX3_sendBack ∈ lw_tbl) (hf : f_X3_sendBack fu nw x a2 = some (x', r)) (h1 : 2 + 1 ≤ R.frames) (h2 : 8 + (5 + 11) + 45 ≤ R.locals) (hsz : ls.size = nL) (hW : (rest.map fun v => v.category).sum ≤ 8) (hcs : cells ≤ R.cells ∧ slots ≤ R.slots) (hdg : decode cc pc = .ok (.invokevirtual index, 3)) (kk : ∀ (H1 : Heap) (locs1 : List Loc), MemP G nw x' mo H1 → va_S (gA G) s.heap H1 locs1 → W p l e R s m args below meth c H1 locs1 cells slots Q (F0 m (pc + 3) ls rest)) : W p l e R s m args below meth c H locs cells slots Q (F0 m pc ls (.int a2 :: .ref (ga G 7) :: .ref (ga G 14) :: rest)) := mm_kv hS (mm_runV (n := 2) (o := 14) (C := RX3) (T := TX3) (N := 5) (ci := 3) (As := [.ref (ga G 7), .int a2]) hx hb hml hown hE hM hS (c_X3_sendBack l fu nw G x x' mo a2 _ hf) (List.forall_mem_cons.mpr ⟨⟨hw, rfl⟩, List.forall_mem_cons.mpr ⟨⟨w_3_181, rfl⟩, List.forall_mem_cons.mpr ⟨⟨w_3_182, rfl⟩, List.forall_mem_cons.mpr ⟨⟨w_1_6, rfl⟩, List.forall_mem_cons.mpr ⟨⟨w_3_183, rfl⟩, fun _ h => absurd h List.not_mem_nil⟩⟩⟩⟩⟩) rfl rfl ⟨rfl, by decide, by decide, by decide +kernel⟩ ⟨h1, h2⟩ rfl rfl rfl hsz rfl hW hdg hcs) kk
def f_J7_fill_53178_17_5 (fu nw : Nat) (b1 : Int32) (b3 : Int32) (k : Me → Option (Me × Unit)) : Nat → Me → Int32 → Option (Me × Unit)
  | 0 => fun _ _ => none
  | n + 1 => fun x a2 => if b3 ≤ a2 then k x else if inb a2 10 = true then f_J7_fill_53178_17_5 fu nw b1 b3 k n (mu x 23 a2.toNatClampNeg b1) (a2 + 1) else none
def f_J7_fill_53178_17 (fu nw : Nat) (x : Me) (a1 : Int32) : Option (Me × Unit) := f_J7_fill_53178_17_5 fu nw a1 10 (fun (x_3 : Me) => some (x_3, ())) fu x 0
def rm_J7_fill_53178_17 : Room := { frames := 0, cells := 0, slots := 0, locals := 0 }
set_option maxHeartbeats 4000000 in
set_option maxRecDepth 100000 in
theorem wk_J7_fill_53178_17_5 {p : Program} {l : Launch} {e : Env} {s : State} {m : MethodId} {args : Array Value} {below : List Frame} {meth : Method} {c : Code} {fu nw : Nat} {G : GG} {mo : Me} {b1 : Int32} {b3 : Int32} (hx : p.tables.exec = Jvm.exec) (hb : c.code = cJ7_fill_53178) (hml : c.maxLocals = 4) (hown : s.vm.findClass RJ7 = some m.cls) (hE : EnvP G s) (hr : meth.sig.returnType = none) (hlocks : meth.locks = false) {x' : Me} {r : Unit} {k : Me → Option (Me × Unit)} (hk : ∀ (x : Me) (H : Heap) (locs : List Loc) (ls : Array Slot), k x = some (x', r) → MemP G nw x mo H → va_S (gA G) s.heap H locs → lv_has ls 4 [] → W p l e rm_J7_fill_53178_17 s m args below meth c H locs 0 0 (MQ below (PV G nw x' mo) args s 0 0 (gA G)) (F0 m 20 ls [])) : ∀ (n : Nat) (x : Me) (a2 : Int32) (H : Heap) (locs : List Loc) (ls : Array Slot), f_J7_fill_53178_17_5 fu nw b1 b3 k n x a2 = some (x', r) → MemP G nw x mo H → va_S (gA G) s.heap H locs → lv_has ls 4 [(0, .ref (ga G 17)), (1, .int b1), (2, .int a2), (3, .int b3)] → W p l e rm_J7_fill_53178_17 s m args below meth c H locs 0 0 (MQ below (PV G nw x' mo) args s 0 0 (gA G)) (F0 m 5 ls []) := by
  intro n
  induction n with
  | zero =>
    intro x a2 H locs ls hf hM hS hl
    exact nn hf
  | succ n ih =>
    intro x a2 H locs ls hf hM hS hl
    rw [f_J7_fill_53178_17_5] at hf
    refine lv_iload_n hx hb dJ7_fill_53178_5 rfl (lv_at hl 2 rfl) ?_
    refine lv_iload_n hx hb dJ7_fill_53178_6 rfl (lv_at hl 3 rfl) ?_
    refine lv_icmp_ge (tgt := 20) hx hb dJ7_fill_53178_7 (by decide) (fun hc_2 => ?_) (fun hc_2 => ?_)
    · replace hf := i_t hf hc_2
      exact hk x _ _ _ hf hM hS (lv_sub hl [] rfl)
    · replace hf := i_f hf hc_2
      refine lv_aload_n hx hb dJ7_fill_53178_10 rfl (lv_at hl 0 rfl) ?_
      refine lv_iload_n hx hb dJ7_fill_53178_11 rfl (lv_at hl 2 rfl) ?_
      refine lv_iload_n hx hb dJ7_fill_53178_12 rfl (lv_at hl 1 rfl) ?_
      obtain ⟨hi_1, hf⟩ := i_n hf
      refine sa_17 hx hb hE hM hS hi_1 dJ7_fill_53178_13 (fun H locs hM hS => ?_)
      refine lv_iinc (v := a2 + 1) (lv' := [(2, .int (a2 + 1)), (0, .ref (ga G 17)), (1, .int b1), (3, .int b3)]) hx hb dJ7_fill_53178_14 hl (k := 2) rfl rfl (by decide) rfl (fun ls hl => ?_)
      refine lv_goto (tgt := 5) hx hb dJ7_fill_53178_17 (by decide) ?_
      exact ih (mu x 23 a2.toNatClampNeg b1) (a2 + 1) _ _ _ hf hM hS (lv_sub hl [1, 2, 0, 3] rfl)
set_option maxHeartbeats 4000000 in
set_option maxRecDepth 100000 in
theorem c_J7_fill_53178_17 (l : Launch) (fu nw : Nat) (G : GG) (x x' mo : Me) (a1 : Int32) (r : Unit) (hf : f_J7_fill_53178_17 fu nw x a1 = some (x', r)) : Met l yJ7_fill_53178 [.code yJ7_fill_53178 cJ7_fill_53178 4 none] rm_J7_fill_53178_17 (va_Pc [.ref (ga G 17), .int a1] (Pre G nw x mo)) (PV G nw x' mo) 0 0 (gA G) := by
  refine mt_ofW (cc := cJ7_fill_53178) (maxL := 4) (ret := none) (by decide +kernel) rfl ?_
  intro p e s m args below meth c s₁ B hml hv
  obtain ⟨rfl, hE, hM⟩ := hv
  have hx := B.exec
  have hb := B.bytes
  have hr := B.returns
  have hown : s.vm.findClass RJ7 = some m.cls := findClass_of_methodNamed B.named
  have hlocks := B.notSynchronized
  have hS : va_S (gA G) s.heap s.heap [] := va_S.rf
  have hl := lv_entry ([.ref (ga G 17), .int a1]) (n := 4) (Nat.le_of_ble_eq_true rfl)
  rw [lg_entry_eq]
  generalize (lg_sl ([.ref (ga G 17), .int a1]) ++ List.replicate (4 - (lg_sl ([.ref (ga G 17), .int a1])).length) Slot.unset).toArray = ls at hl ⊢
  have hl : lv_has ls 4 [(0, .ref (ga G 17)), (1, .int a1)] := hl
  generalize ([.ref (ga G 17), .int a1] : List Value).toArray = args
  unfold f_J7_fill_53178_17 at hf
  refine lv_iconst (v := 0) hx hb dJ7_fill_53178_0 (by decide) ?_
  refine lv_istore_n (lv' := [(2, .int 0), (0, .ref (ga G 17)), (1, .int a1)]) hx hb dJ7_fill_53178_1 rfl hl (by decide) rfl (fun ls hl => ?_)
  refine lv_aload_n hx hb dJ7_fill_53178_2 rfl (lv_at hl 1 rfl) ?_
  refine ln_17 hx hb hE hM dJ7_fill_53178_3 ?_
  refine lv_istore_n (lv' := [(3, .int 10), (2, .int 0), (0, .ref (ga G 17)), (1, .int a1)]) hx hb dJ7_fill_53178_4 rfl hl (by decide) rfl (fun ls hl => ?_)
  refine wk_J7_fill_53178_17_5 hx hb hml hown hE hr hlocks ?_ fu x 0 _ _ _ hf hM hS (lv_sub hl [2, 3, 1, 0] rfl)
  intro x_3 H locs ls hf hM hS hl
  exact rt_vX hx hb hr hf hM hS dJ7_fill_53178_20 hlocks
theorem k_J7_fill_53178_17 {p : Program} {l : Launch} {e : Env} {R : Room} {s : State} {m : MethodId} {args : Array Value} {below : List Frame} {meth : Method} {c : Code} {H : Heap} {locs : List Loc} {cells slots : Nat} {Q : State → Prop} {cc : ByteArray} {pc nL : Nat} {ls : Array Slot} {rest : List Value} {G : GG} {fu nw : Nat} {x x' mo : Me} {own : String} {index : Nat} {a1 : Int32} {r : Unit} (hx : p.tables.exec = Jvm.exec) (hb : c.code = cc) (hml : c.maxLocals = nL) (hown : s.vm.findClass own = some m.cls) (hE : EnvP G s) (hM : MemP G nw x mo H) (hS : va_S (gA G) s.heap H locs) (hw : Cond.methodLink own index yJ7_fill_53178 ∈ lw_tbl) (hf : f_J7_fill_53178_17 fu nw x a1 = some (x', r)) (h1 : 0 + 1 ≤ R.frames) (h2 : 8 + (4 + 11) + 0 ≤ R.locals) (hsz : ls.size = nL) (hW : (rest.map fun v => v.category).sum ≤ 8) (hcs : cells ≤ R.cells ∧ slots ≤ R.slots) (hdg : decode cc pc = .ok (.invokestatic index, 3)) (kk : ∀ (H1 : Heap) (locs1 : List Loc), MemP G nw x' mo H1 → va_S (gA G) s.heap H1 locs1 → W p l e R s m args below meth c H1 locs1 cells slots Q (F0 m (pc + 3) ls rest)) : W p l e R s m args below meth c H locs cells slots Q (F0 m pc ls (.int a1 :: .ref (ga G 17) :: rest)) := mm_kv hS (mm_runS (n := 2) (As := [.ref (ga G 17), .int a1]) hx hb hml hown hE hM hS (c_J7_fill_53178_17 l fu nw G x x' mo a1 _ hf) (List.forall_mem_cons.mpr ⟨⟨hw, rfl⟩, List.forall_mem_cons.mpr ⟨⟨w_2_95, rfl⟩, List.forall_mem_cons.mpr ⟨⟨w_1_13, rfl⟩, List.forall_mem_cons.mpr ⟨⟨w_2_96, rfl⟩, fun _ h => absurd h List.not_mem_nil⟩⟩⟩⟩) rfl rfl ⟨by decide, by decide, by decide +kernel⟩ ⟨h1, h2⟩ rfl hsz rfl hW hdg hcs) kk
def f_X3_forgetSeen (fu nw : Nat) (x : Me) : Option (Me × Unit) := ob (f_J7_fill_53178_17 fu nw x (-1)) (fun x_1 _ => some (x_1, ()))
def rm_X3_forgetSeen : Room := { frames := 1, cells := 0, slots := 0, locals := 23 }
set_option maxHeartbeats 4000000 in
set_option maxRecDepth 100000 in
theorem c_X3_forgetSeen (l : Launch) (fu nw : Nat) (G : GG) (x x' mo : Me) (r : Unit) (hf : f_X3_forgetSeen fu nw x = some (x', r)) : Met l yX3_forgetSeen [.code yX3_forgetSeen cX3_forgetSeen 1 none] rm_X3_forgetSeen (va_Pc [.ref (ga G 14)] (Pre G nw x mo)) (PV G nw x' mo) 0 0 (gA G) := by
  refine mt_ofW (cc := cX3_forgetSeen) (maxL := 1) (ret := none) (by decide +kernel) rfl ?_
  intro p e s m args below meth c s₁ B hml hv
  obtain ⟨rfl, hE, hM⟩ := hv
  have hx := B.exec
  have hb := B.bytes
  have hr := B.returns
  have hown : s.vm.findClass RX3 = some m.cls := findClass_of_methodNamed B.named
  have hlocks := B.notSynchronized
  have hS : va_S (gA G) s.heap s.heap [] := va_S.rf
  have hl := lv_entry ([.ref (ga G 14)]) (n := 1) (Nat.le_of_ble_eq_true rfl)
  rw [lg_entry_eq]
  generalize (lg_sl ([.ref (ga G 14)]) ++ List.replicate (1 - (lg_sl ([.ref (ga G 14)])).length) Slot.unset).toArray = ls at hl ⊢
  have hl : lv_has ls 1 [(0, .ref (ga G 14))] := hl
  generalize ([.ref (ga G 14)] : List Value).toArray = args
  unfold f_X3_forgetSeen at hf
  refine lv_aload_n hx hb dX3_forgetSeen_0 rfl (lv_at hl 0 rfl) ?_
  refine gr_17 hx hb hE hM hown w_1_134 dX3_forgetSeen_1 ?_
  refine lv_iconst (v := (-1)) hx hb dX3_forgetSeen_4 (by decide) ?_
  obtain ⟨x_1, r_1, hq_1, hf⟩ := ob_some hf
  refine k_J7_fill_53178_17 hx hb hml hown hE hM hS w_3_131 hq_1 (Nat.le_of_ble_eq_true rfl) (Nat.le_of_ble_eq_true rfl) hl.1 (Nat.le_of_ble_eq_true rfl) ⟨Nat.zero_le _, Nat.zero_le _⟩ dX3_forgetSeen_5 (fun H locs hM hS => ?_)
  exact rt_vX hx hb hr hf hM hS dX3_forgetSeen_8 hlocks
theorem k_X3_forgetSeen {p : Program} {l : Launch} {e : Env} {R : Room} {s : State} {m : MethodId} {args : Array Value} {below : List Frame} {meth : Method} {c : Code} {H : Heap} {locs : List Loc} {cells slots : Nat} {Q : State → Prop} {cc : ByteArray} {pc nL : Nat} {ls : Array Slot} {rest : List Value} {G : GG} {fu nw : Nat} {x x' mo : Me} {own : String} {index : Nat} {r : Unit} (hx : p.tables.exec = Jvm.exec) (hb : c.code = cc) (hml : c.maxLocals = nL) (hown : s.vm.findClass own = some m.cls) (hE : EnvP G s) (hM : MemP G nw x mo H) (hS : va_S (gA G) s.heap H locs) (hw : Cond.methodLink own index yX3_forgetSeen ∈ lw_tbl) (hf : f_X3_forgetSeen fu nw x = some (x', r)) (h1 : 1 + 1 ≤ R.frames) (h2 : 8 + (1 + 11) + 23 ≤ R.locals) (hsz : ls.size = nL) (hW : (rest.map fun v => v.category).sum ≤ 8) (hcs : cells ≤ R.cells ∧ slots ≤ R.slots) (hdg : decode cc pc = .ok (.invokevirtual index, 3)) (kk : ∀ (H1 : Heap) (locs1 : List Loc), MemP G nw x' mo H1 → va_S (gA G) s.heap H1 locs1 → W p l e R s m args below meth c H1 locs1 cells slots Q (F0 m (pc + 3) ls rest)) : W p l e R s m args below meth c H locs cells slots Q (F0 m pc ls (.ref (ga G 14) :: rest)) := mm_kv hS (mm_runV (n := 0) (o := 14) (C := RX3) (T := TX3) (N := 5) (ci := 3) (As := []) hx hb hml hown hE hM hS (c_X3_forgetSeen l fu nw G x x' mo _ hf) (List.forall_mem_cons.mpr ⟨⟨hw, rfl⟩, List.forall_mem_cons.mpr ⟨⟨w_3_128, rfl⟩, List.forall_mem_cons.mpr ⟨⟨w_3_129, rfl⟩, List.forall_mem_cons.mpr ⟨⟨w_1_6, rfl⟩, List.forall_mem_cons.mpr ⟨⟨w_3_130, rfl⟩, fun _ h => absurd h List.not_mem_nil⟩⟩⟩⟩⟩) rfl rfl ⟨rfl, by decide, by decide, by decide +kernel⟩ ⟨h1, h2⟩ rfl rfl rfl hsz rfl hW hdg hcs) kk
def f_X3_layOut_12_2 (fu nw : Nat) (k : Me → Option (Me × Unit)) : Nat → Me → Int32 → Option (Me × Unit)
  | 0 => fun _ _ => none
  | n + 1 => fun x a2 => if (x 20 0) ≤ a2 then k x else if 10 ≤ a2 then k x else if inb a2 10 = true then f_X3_layOut_12_2 fu nw k n (mu x 24 a2.toNatClampNeg (x 18 a2.toNatClampNeg)) (a2 + 1) else none
def f_X3_layOut_12 (fu nw : Nat) (x : Me) : Option (Me × Unit) := f_X3_layOut_12_2 fu nw (fun (x_4 : Me) => some (x_4, ())) fu x 0
def rm_X3_layOut_12 : Room := { frames := 0, cells := 0, slots := 0, locals := 0 }
set_option maxHeartbeats 4000000 in
set_option maxRecDepth 100000 in
theorem wk_X3_layOut_12_2 {p : Program} {l : Launch} {e : Env} {s : State} {m : MethodId} {args : Array Value} {below : List Frame} {meth : Method} {c : Code} {fu nw : Nat} {G : GG} {mo : Me} (hx : p.tables.exec = Jvm.exec) (hb : c.code = cX3_layOut) (hml : c.maxLocals = 3) (hown : s.vm.findClass RX3 = some m.cls) (hE : EnvP G s) (hr : meth.sig.returnType = none) (hlocks : meth.locks = false) {x' : Me} {r : Unit} {k : Me → Option (Me × Unit)} (hk : ∀ (x : Me) (H : Heap) (locs : List Loc) (ls : Array Slot), k x = some (x', r) → MemP G nw x mo H → va_S (gA G) s.heap H locs → lv_has ls 3 [] → W p l e rm_X3_layOut_12 s m args below meth c H locs 0 0 (MQ below (PV G nw x' mo) args s 0 0 (gA G)) (F0 m 31 ls [])) : ∀ (n : Nat) (x : Me) (a2 : Int32) (H : Heap) (locs : List Loc) (ls : Array Slot), f_X3_layOut_12_2 fu nw k n x a2 = some (x', r) → MemP G nw x mo H → va_S (gA G) s.heap H locs → lv_has ls 3 [(0, .ref (ga G 14)), (1, .ref (ga G 12)), (2, .int a2)] → W p l e rm_X3_layOut_12 s m args below meth c H locs 0 0 (MQ below (PV G nw x' mo) args s 0 0 (gA G)) (F0 m 2 ls []) := by
  intro n
  induction n with
  | zero =>
    intro x a2 H locs ls hf hM hS hl
    exact nn hf
  | succ n ih =>
    intro x a2 H locs ls hf hM hS hl
    rw [f_X3_layOut_12_2] at hf
    refine lv_iload_n hx hb dX3_layOut_2 rfl (lv_at hl 2 rfl) ?_
    refine lv_aload_n hx hb dX3_layOut_3 rfl (lv_at hl 0 rfl) ?_
    refine gf_20 hx hb hE hM hown w_1_128 dX3_layOut_4 ?_
    refine lv_icmp_ge (tgt := 31) hx hb dX3_layOut_7 (by decide) (fun hc_3 => ?_) (fun hc_3 => ?_)
    · replace hf := i_t hf hc_3
      exact hk x _ _ _ hf hM hS (lv_sub hl [] rfl)
    · replace hf := i_f hf hc_3
      refine lv_iload_n hx hb dX3_layOut_10 rfl (lv_at hl 2 rfl) ?_
      refine lv_aload_n hx hb dX3_layOut_11 rfl (lv_at hl 1 rfl) ?_
      refine ln_12 hx hb hE hM dX3_layOut_12 ?_
      refine lv_icmp_ge (tgt := 31) hx hb dX3_layOut_13 (by decide) (fun hc_2 => ?_) (fun hc_2 => ?_)
      · replace hf := i_t hf hc_2
        exact hk x _ _ _ hf hM hS (lv_sub hl [] rfl)
      · replace hf := i_f hf hc_2
        refine lv_aload_n hx hb dX3_layOut_16 rfl (lv_at hl 0 rfl) ?_
        refine gr_18 hx hb hE hM hown w_1_136 dX3_layOut_17 ?_
        refine lv_iload_n hx hb dX3_layOut_20 rfl (lv_at hl 2 rfl) ?_
        refine lv_aload_n hx hb dX3_layOut_21 rfl (lv_at hl 1 rfl) ?_
        refine lv_iload_n hx hb dX3_layOut_22 rfl (lv_at hl 2 rfl) ?_
        obtain ⟨hi_1, hf⟩ := i_n hf
        refine la_12 hx hb hE hM hi_1 dX3_layOut_23 ?_
        refine sa_18 hx hb hE hM hS hi_1 dX3_layOut_24 (fun H locs hM hS => ?_)
        refine lv_iinc (v := a2 + 1) (lv' := [(2, .int (a2 + 1)), (0, .ref (ga G 14)), (1, .ref (ga G 12))]) hx hb dX3_layOut_25 hl (k := 2) rfl rfl (by decide) rfl (fun ls hl => ?_)
        refine lv_goto (tgt := 2) hx hb dX3_layOut_28 (by decide) ?_
        exact ih (mu x 24 a2.toNatClampNeg (x 18 a2.toNatClampNeg)) (a2 + 1) _ _ _ hf hM hS (lv_sub hl [1, 2, 0] rfl)
set_option maxHeartbeats 4000000 in
set_option maxRecDepth 100000 in
theorem c_X3_layOut_12 (l : Launch) (fu nw : Nat) (G : GG) (x x' mo : Me) (r : Unit) (hf : f_X3_layOut_12 fu nw x = some (x', r)) : Met l yX3_layOut [.code yX3_layOut cX3_layOut 3 none] rm_X3_layOut_12 (va_Pc [.ref (ga G 14), .ref (ga G 12)] (Pre G nw x mo)) (PV G nw x' mo) 0 0 (gA G) := by
  refine mt_ofW (cc := cX3_layOut) (maxL := 3) (ret := none) (by decide +kernel) rfl ?_
  intro p e s m args below meth c s₁ B hml hv
  obtain ⟨rfl, hE, hM⟩ := hv
  have hx := B.exec
  have hb := B.bytes
  have hr := B.returns
  have hown : s.vm.findClass RX3 = some m.cls := findClass_of_methodNamed B.named
  have hlocks := B.notSynchronized
  have hS : va_S (gA G) s.heap s.heap [] := va_S.rf
  have hl := lv_entry ([.ref (ga G 14), .ref (ga G 12)]) (n := 3) (Nat.le_of_ble_eq_true rfl)
  rw [lg_entry_eq]
  generalize (lg_sl ([.ref (ga G 14), .ref (ga G 12)]) ++ List.replicate (3 - (lg_sl ([.ref (ga G 14), .ref (ga G 12)])).length) Slot.unset).toArray = ls at hl ⊢
  have hl : lv_has ls 3 [(0, .ref (ga G 14)), (1, .ref (ga G 12))] := hl
  generalize ([.ref (ga G 14), .ref (ga G 12)] : List Value).toArray = args
  unfold f_X3_layOut_12 at hf
  refine lv_iconst (v := 0) hx hb dX3_layOut_0 (by decide) ?_
  refine lv_istore_n (lv' := [(2, .int 0), (0, .ref (ga G 14)), (1, .ref (ga G 12))]) hx hb dX3_layOut_1 rfl hl (by decide) rfl (fun ls hl => ?_)
  refine wk_X3_layOut_12_2 hx hb hml hown hE hr hlocks ?_ fu x 0 _ _ _ hf hM hS (lv_sub hl [1, 2, 0] rfl)
  intro x_4 H locs ls hf hM hS hl
  exact rt_vX hx hb hr hf hM hS dX3_layOut_31 hlocks
theorem k_X3_layOut_12 {p : Program} {l : Launch} {e : Env} {R : Room} {s : State} {m : MethodId} {args : Array Value} {below : List Frame} {meth : Method} {c : Code} {H : Heap} {locs : List Loc} {cells slots : Nat} {Q : State → Prop} {cc : ByteArray} {pc nL : Nat} {ls : Array Slot} {rest : List Value} {G : GG} {fu nw : Nat} {x x' mo : Me} {own : String} {index : Nat} {r : Unit} (hx : p.tables.exec = Jvm.exec) (hb : c.code = cc) (hml : c.maxLocals = nL) (hown : s.vm.findClass own = some m.cls) (hE : EnvP G s) (hM : MemP G nw x mo H) (hS : va_S (gA G) s.heap H locs) (hw : Cond.methodLink own index yX3_layOut ∈ lw_tbl) (hf : f_X3_layOut_12 fu nw x = some (x', r)) (h1 : 0 + 1 ≤ R.frames) (h2 : 8 + (3 + 11) + 0 ≤ R.locals) (hsz : ls.size = nL) (hW : (rest.map fun v => v.category).sum ≤ 8) (hcs : cells ≤ R.cells ∧ slots ≤ R.slots) (hdg : decode cc pc = .ok (.invokevirtual index, 3)) (kk : ∀ (H1 : Heap) (locs1 : List Loc), MemP G nw x' mo H1 → va_S (gA G) s.heap H1 locs1 → W p l e R s m args below meth c H1 locs1 cells slots Q (F0 m (pc + 3) ls rest)) : W p l e R s m args below meth c H locs cells slots Q (F0 m pc ls (.ref (ga G 12) :: .ref (ga G 14) :: rest)) := mm_kv hS (mm_runV (n := 1) (o := 14) (C := RX3) (T := TX3) (N := 5) (ci := 3) (As := [.ref (ga G 12)]) hx hb hml hown hE hM hS (c_X3_layOut_12 l fu nw G x x' mo _ hf) (List.forall_mem_cons.mpr ⟨⟨hw, rfl⟩, List.forall_mem_cons.mpr ⟨⟨w_3_111, rfl⟩, List.forall_mem_cons.mpr ⟨⟨w_0_12, rfl⟩, List.forall_mem_cons.mpr ⟨⟨w_1_6, rfl⟩, List.forall_mem_cons.mpr ⟨⟨w_3_112, rfl⟩, fun _ h => absurd h List.not_mem_nil⟩⟩⟩⟩⟩) rfl rfl ⟨rfl, by decide, by decide, by decide +kernel⟩ ⟨h1, h2⟩ rfl rfl rfl hsz rfl hW hdg hcs) kk
def f_X3_closeGap_18_2 (fu nw : Nat) (k : Me → Option (Me × Unit)) : Nat → Me → Int32 → Option (Me × Unit)
  | 0 => fun _ _ => none
  | n + 1 => fun x a3 => if (x 20 0) ≤ (a3 + 1) then k x else if 10 ≤ (a3 + 1) then k x else if inb (a3 + 1) 10 = true then if inb a3 10 = true then f_X3_closeGap_18_2 fu nw k n (mu x 24 a3.toNatClampNeg (x 24 ((a3 + 1).toNatClampNeg))) (a3 + 1) else none else none
def f_X3_closeGap_18 (fu nw : Nat) (x : Me) (a2 : Int32) : Option (Me × Unit) := f_X3_closeGap_18_2 fu nw (fun (x_5 : Me) => some (x_5, ())) fu x a2
def rm_X3_closeGap_18 : Room := { frames := 0, cells := 0, slots := 0, locals := 0 }
set_option maxHeartbeats 4000000 in
set_option maxRecDepth 100000 in
theorem wk_X3_closeGap_18_2 {p : Program} {l : Launch} {e : Env} {s : State} {m : MethodId} {args : Array Value} {below : List Frame} {meth : Method} {c : Code} {fu nw : Nat} {G : GG} {mo : Me} (hx : p.tables.exec = Jvm.exec) (hb : c.code = cX3_closeGap) (hml : c.maxLocals = 4) (hown : s.vm.findClass RX3 = some m.cls) (hE : EnvP G s) (hr : meth.sig.returnType = none) (hlocks : meth.locks = false) {x' : Me} {r : Unit} {k : Me → Option (Me × Unit)} (hk : ∀ (x : Me) (H : Heap) (locs : List Loc) (ls : Array Slot), k x = some (x', r) → MemP G nw x mo H → va_S (gA G) s.heap H locs → lv_has ls 4 [] → W p l e rm_X3_closeGap_18 s m args below meth c H locs 0 0 (MQ below (PV G nw x' mo) args s 0 0 (gA G)) (F0 m 34 ls [])) : ∀ (n : Nat) (x : Me) (a3 : Int32) (H : Heap) (locs : List Loc) (ls : Array Slot), f_X3_closeGap_18_2 fu nw k n x a3 = some (x', r) → MemP G nw x mo H → va_S (gA G) s.heap H locs → lv_has ls 4 [(0, .ref (ga G 14)), (1, .ref (ga G 18)), (3, .int a3)] → W p l e rm_X3_closeGap_18 s m args below meth c H locs 0 0 (MQ below (PV G nw x' mo) args s 0 0 (gA G)) (F0 m 2 ls []) := by
  intro n
  induction n with
  | zero =>
    intro x a3 H locs ls hf hM hS hl
    exact nn hf
  | succ n ih =>
    intro x a3 H locs ls hf hM hS hl
    rw [f_X3_closeGap_18_2] at hf
    refine lv_iload_n hx hb dX3_closeGap_2 rfl (lv_at hl 2 rfl) ?_
    refine lv_iconst (v := 1) hx hb dX3_closeGap_3 (by decide) ?_
    refine lv_iadd hx hb dX3_closeGap_4 ?_
    refine lv_aload_n hx hb dX3_closeGap_5 rfl (lv_at hl 0 rfl) ?_
    refine gf_20 hx hb hE hM hown w_1_128 dX3_closeGap_6 ?_
    refine lv_icmp_ge (tgt := 34) hx hb dX3_closeGap_9 (by decide) (fun hc_4 => ?_) (fun hc_4 => ?_)
    · replace hf := i_t hf hc_4
      exact hk x _ _ _ hf hM hS (lv_sub hl [] rfl)
    · replace hf := i_f hf hc_4
      refine lv_iload_n hx hb dX3_closeGap_12 rfl (lv_at hl 2 rfl) ?_
      refine lv_iconst (v := 1) hx hb dX3_closeGap_13 (by decide) ?_
      refine lv_iadd hx hb dX3_closeGap_14 ?_
      refine lv_aload_n hx hb dX3_closeGap_15 rfl (lv_at hl 1 rfl) ?_
      refine ln_18 hx hb hE hM dX3_closeGap_16 ?_
      refine lv_icmp_ge (tgt := 34) hx hb dX3_closeGap_17 (by decide) (fun hc_3 => ?_) (fun hc_3 => ?_)
      · replace hf := i_t hf hc_3
        exact hk x _ _ _ hf hM hS (lv_sub hl [] rfl)
      · replace hf := i_f hf hc_3
        refine lv_aload_n hx hb dX3_closeGap_20 rfl (lv_at hl 1 rfl) ?_
        refine lv_iload_n hx hb dX3_closeGap_21 rfl (lv_at hl 2 rfl) ?_
        refine lv_aload_n hx hb dX3_closeGap_22 rfl (lv_at hl 1 rfl) ?_
        refine lv_iload_n hx hb dX3_closeGap_23 rfl (lv_at hl 2 rfl) ?_
        refine lv_iconst (v := 1) hx hb dX3_closeGap_24 (by decide) ?_
        refine lv_iadd hx hb dX3_closeGap_25 ?_
        obtain ⟨hi_1, hf⟩ := i_n hf
        refine la_18 hx hb hE hM hi_1 dX3_closeGap_26 ?_
        obtain ⟨hi_2, hf⟩ := i_n hf
        refine sa_18 hx hb hE hM hS hi_2 dX3_closeGap_27 (fun H locs hM hS => ?_)
        refine lv_iinc (v := a3 + 1) (lv' := [(3, .int (a3 + 1)), (0, .ref (ga G 14)), (1, .ref (ga G 18))]) hx hb dX3_closeGap_28 hl (k := 2) rfl rfl (by decide) rfl (fun ls hl => ?_)
        refine lv_goto (tgt := 2) hx hb dX3_closeGap_31 (by decide) ?_
        exact ih (mu x 24 a3.toNatClampNeg (x 24 ((a3 + 1).toNatClampNeg))) (a3 + 1) _ _ _ hf hM hS (lv_sub hl [1, 2, 0] rfl)
set_option maxHeartbeats 4000000 in
set_option maxRecDepth 100000 in
theorem c_X3_closeGap_18 (l : Launch) (fu nw : Nat) (G : GG) (x x' mo : Me) (a2 : Int32) (r : Unit) (hf : f_X3_closeGap_18 fu nw x a2 = some (x', r)) : Met l yX3_closeGap [.code yX3_closeGap cX3_closeGap 4 none] rm_X3_closeGap_18 (va_Pc [.ref (ga G 14), .ref (ga G 18), .int a2] (Pre G nw x mo)) (PV G nw x' mo) 0 0 (gA G) := by
  refine mt_ofW (cc := cX3_closeGap) (maxL := 4) (ret := none) (by decide +kernel) rfl ?_
  intro p e s m args below meth c s₁ B hml hv
  obtain ⟨rfl, hE, hM⟩ := hv
  have hx := B.exec
  have hb := B.bytes
  have hr := B.returns
  have hown : s.vm.findClass RX3 = some m.cls := findClass_of_methodNamed B.named
  have hlocks := B.notSynchronized
  have hS : va_S (gA G) s.heap s.heap [] := va_S.rf
  have hl := lv_entry ([.ref (ga G 14), .ref (ga G 18), .int a2]) (n := 4) (Nat.le_of_ble_eq_true rfl)
  rw [lg_entry_eq]
  generalize (lg_sl ([.ref (ga G 14), .ref (ga G 18), .int a2]) ++ List.replicate (4 - (lg_sl ([.ref (ga G 14), .ref (ga G 18), .int a2])).length) Slot.unset).toArray = ls at hl ⊢
  have hl : lv_has ls 4 [(0, .ref (ga G 14)), (1, .ref (ga G 18)), (2, .int a2)] := hl
  generalize ([.ref (ga G 14), .ref (ga G 18), .int a2] : List Value).toArray = args
  unfold f_X3_closeGap_18 at hf
  refine lv_iload_n hx hb dX3_closeGap_0 rfl (lv_at hl 2 rfl) ?_
  refine lv_istore_n (lv' := [(3, .int a2), (0, .ref (ga G 14)), (1, .ref (ga G 18)), (2, .int a2)]) hx hb dX3_closeGap_1 rfl hl (by decide) rfl (fun ls hl => ?_)
  refine wk_X3_closeGap_18_2 hx hb hml hown hE hr hlocks ?_ fu x a2 _ _ _ hf hM hS (lv_sub hl [1, 2, 0] rfl)
  intro x_5 H locs ls hf hM hS hl
  exact rt_vX hx hb hr hf hM hS dX3_closeGap_34 hlocks
theorem k_X3_closeGap_18 {p : Program} {l : Launch} {e : Env} {R : Room} {s : State} {m : MethodId} {args : Array Value} {below : List Frame} {meth : Method} {c : Code} {H : Heap} {locs : List Loc} {cells slots : Nat} {Q : State → Prop} {cc : ByteArray} {pc nL : Nat} {ls : Array Slot} {rest : List Value} {G : GG} {fu nw : Nat} {x x' mo : Me} {own : String} {index : Nat} {a2 : Int32} {r : Unit} (hx : p.tables.exec = Jvm.exec) (hb : c.code = cc) (hml : c.maxLocals = nL) (hown : s.vm.findClass own = some m.cls) (hE : EnvP G s) (hM : MemP G nw x mo H) (hS : va_S (gA G) s.heap H locs) (hw : Cond.methodLink own index yX3_closeGap ∈ lw_tbl) (hf : f_X3_closeGap_18 fu nw x a2 = some (x', r)) (h1 : 0 + 1 ≤ R.frames) (h2 : 8 + (4 + 11) + 0 ≤ R.locals) (hsz : ls.size = nL) (hW : (rest.map fun v => v.category).sum ≤ 8) (hcs : cells ≤ R.cells ∧ slots ≤ R.slots) (hdg : decode cc pc = .ok (.invokevirtual index, 3)) (kk : ∀ (H1 : Heap) (locs1 : List Loc), MemP G nw x' mo H1 → va_S (gA G) s.heap H1 locs1 → W p l e R s m args below meth c H1 locs1 cells slots Q (F0 m (pc + 3) ls rest)) : W p l e R s m args below meth c H locs cells slots Q (F0 m pc ls (.int a2 :: .ref (ga G 18) :: .ref (ga G 14) :: rest)) := mm_kv hS (mm_runV (n := 2) (o := 14) (C := RX3) (T := TX3) (N := 5) (ci := 3) (As := [.ref (ga G 18), .int a2]) hx hb hml hown hE hM hS (c_X3_closeGap_18 l fu nw G x x' mo a2 _ hf) (List.forall_mem_cons.mpr ⟨⟨hw, rfl⟩, List.forall_mem_cons.mpr ⟨⟨w_3_120, rfl⟩, List.forall_mem_cons.mpr ⟨⟨w_0_14, rfl⟩, List.forall_mem_cons.mpr ⟨⟨w_1_6, rfl⟩, List.forall_mem_cons.mpr ⟨⟨w_3_121, rfl⟩, fun _ h => absurd h List.not_mem_nil⟩⟩⟩⟩⟩) rfl rfl ⟨rfl, by decide, by decide, by decide +kernel⟩ ⟨h1, h2⟩ rfl rfl rfl hsz rfl hW hdg hcs) kk
def f_X3_takeLeft (fu nw : Nat) (x : Me) (a1 : Int32) : Option (Me × Int32) := if a1 < 0 then some (x, (-1)) else if a1 < (x 20 0) then if inb a1 10 = true then ob (f_X3_closeGap_18 fu nw x a1) (fun x_2 _ => some (x_2, x 24 a1.toNatClampNeg)) else none else some (x, (-1))
def rm_X3_takeLeft : Room := { frames := 1, cells := 0, slots := 0, locals := 23 }
set_option maxHeartbeats 4000000 in
set_option maxRecDepth 100000 in
theorem c_X3_takeLeft (l : Launch) (fu nw : Nat) (G : GG) (x x' mo : Me) (a1 : Int32) (r : Int32) (hf : f_X3_takeLeft fu nw x a1 = some (x', r)) : Met l yX3_takeLeft [.code yX3_takeLeft cX3_takeLeft 3 (some .int)] rm_X3_takeLeft (va_Pc [.ref (ga G 14), .int a1] (Pre G nw x mo)) (PI G nw x' mo r) 0 0 (gA G) := by
  refine mt_ofW (cc := cX3_takeLeft) (maxL := 3) (ret := (some .int)) (by decide +kernel) rfl ?_
  intro p e s m args below meth c s₁ B hml hv
  obtain ⟨rfl, hE, hM⟩ := hv
  have hx := B.exec
  have hb := B.bytes
  have hr := B.returns
  have hown : s.vm.findClass RX3 = some m.cls := findClass_of_methodNamed B.named
  have hlocks := B.notSynchronized
  have hS : va_S (gA G) s.heap s.heap [] := va_S.rf
  have hl := lv_entry ([.ref (ga G 14), .int a1]) (n := 3) (Nat.le_of_ble_eq_true rfl)
  rw [lg_entry_eq]
  generalize (lg_sl ([.ref (ga G 14), .int a1]) ++ List.replicate (3 - (lg_sl ([.ref (ga G 14), .int a1])).length) Slot.unset).toArray = ls at hl ⊢
  have hl : lv_has ls 3 [(0, .ref (ga G 14)), (1, .int a1)] := hl
  generalize ([.ref (ga G 14), .int a1] : List Value).toArray = args
  unfold f_X3_takeLeft at hf
  refine lv_iload_n hx hb dX3_takeLeft_0 rfl (lv_at hl 1 rfl) ?_
  refine lv_if_lt (tgt := 12) hx hb dX3_takeLeft_1 (by decide) (fun hc_4 => ?_) (fun hc_4 => ?_)
  · replace hf := i_t hf hc_4
    refine lv_iconst (v := (-1)) hx hb dX3_takeLeft_12 (by decide) ?_
    exact rt_iX hx hb hr hf hM hS dX3_takeLeft_13 hlocks
  · replace hf := i_f hf hc_4
    refine lv_iload_n hx hb dX3_takeLeft_4 rfl (lv_at hl 1 rfl) ?_
    refine lv_aload_n hx hb dX3_takeLeft_5 rfl (lv_at hl 0 rfl) ?_
    refine gf_20 hx hb hE hM hown w_1_128 dX3_takeLeft_6 ?_
    refine lv_icmp_lt (tgt := 14) hx hb dX3_takeLeft_9 (by decide) (fun hc_3 => ?_) (fun hc_3 => ?_)
    · replace hf := i_t hf hc_3
      refine lv_aload_n hx hb dX3_takeLeft_14 rfl (lv_at hl 0 rfl) ?_
      refine gr_18 hx hb hE hM hown w_1_136 dX3_takeLeft_15 ?_
      refine lv_iload_n hx hb dX3_takeLeft_18 rfl (lv_at hl 1 rfl) ?_
      obtain ⟨hi_1, hf⟩ := i_n hf
      refine la_18 hx hb hE hM hi_1 dX3_takeLeft_19 ?_
      refine lv_istore_n (lv' := [(2, .int (x 24 a1.toNatClampNeg)), (0, .ref (ga G 14)), (1, .int a1)]) hx hb dX3_takeLeft_20 rfl hl (by decide) rfl (fun ls hl => ?_)
      refine lv_aload_n hx hb dX3_takeLeft_21 rfl (lv_at hl 1 rfl) ?_
      refine lv_aload_n hx hb dX3_takeLeft_22 rfl (lv_at hl 1 rfl) ?_
      refine gr_18 hx hb hE hM hown w_1_136 dX3_takeLeft_23 ?_
      refine lv_iload_n hx hb dX3_takeLeft_26 rfl (lv_at hl 2 rfl) ?_
      obtain ⟨x_2, r_2, hq_2, hf⟩ := ob_some hf
      refine k_X3_closeGap_18 hx hb hml hown hE hM hS w_3_118 hq_2 (Nat.le_of_ble_eq_true rfl) (Nat.le_of_ble_eq_true rfl) hl.1 (Nat.le_of_ble_eq_true rfl) ⟨Nat.zero_le _, Nat.zero_le _⟩ dX3_takeLeft_27 (fun H locs hM hS => ?_)
      refine lv_iload_n hx hb dX3_takeLeft_30 rfl (lv_at hl 0 rfl) ?_
      exact rt_iX hx hb hr hf hM hS dX3_takeLeft_31 hlocks
    · replace hf := i_f hf hc_3
      refine lv_iconst (v := (-1)) hx hb dX3_takeLeft_12 (by decide) ?_
      exact rt_iX hx hb hr hf hM hS dX3_takeLeft_13 hlocks
theorem k_X3_takeLeft {p : Program} {l : Launch} {e : Env} {R : Room} {s : State} {m : MethodId} {args : Array Value} {below : List Frame} {meth : Method} {c : Code} {H : Heap} {locs : List Loc} {cells slots : Nat} {Q : State → Prop} {cc : ByteArray} {pc nL : Nat} {ls : Array Slot} {rest : List Value} {G : GG} {fu nw : Nat} {x x' mo : Me} {own : String} {index : Nat} {a1 : Int32} {r : Int32} (hx : p.tables.exec = Jvm.exec) (hb : c.code = cc) (hml : c.maxLocals = nL) (hown : s.vm.findClass own = some m.cls) (hE : EnvP G s) (hM : MemP G nw x mo H) (hS : va_S (gA G) s.heap H locs) (hw : Cond.methodLink own index yX3_takeLeft ∈ lw_tbl) (hf : f_X3_takeLeft fu nw x a1 = some (x', r)) (h1 : 1 + 1 ≤ R.frames) (h2 : 8 + (3 + 11) + 23 ≤ R.locals) (hsz : ls.size = nL) (hW : (rest.map fun v => v.category).sum ≤ 8) (hcs : cells ≤ R.cells ∧ slots ≤ R.slots) (hdg : decode cc pc = .ok (.invokevirtual index, 3)) (kk : ∀ (H1 : Heap) (locs1 : List Loc), MemP G nw x' mo H1 → va_S (gA G) s.heap H1 locs1 → W p l e R s m args below meth c H1 locs1 cells slots Q (F0 m (pc + 3) ls (.int r :: rest))) : W p l e R s m args below meth c H locs cells slots Q (F0 m pc ls (.int a1 :: .ref (ga G 14) :: rest)) := mm_ki hS (mm_runV (n := 1) (o := 14) (C := RX3) (T := TX3) (N := 5) (ci := 3) (As := [.int a1]) hx hb hml hown hE hM hS (c_X3_takeLeft l fu nw G x x' mo a1 _ hf) (List.forall_mem_cons.mpr ⟨⟨hw, rfl⟩, List.forall_mem_cons.mpr ⟨⟨w_3_116, rfl⟩, List.forall_mem_cons.mpr ⟨⟨w_0_13, rfl⟩, List.forall_mem_cons.mpr ⟨⟨w_1_6, rfl⟩, List.forall_mem_cons.mpr ⟨⟨w_3_117, rfl⟩, fun _ h => absurd h List.not_mem_nil⟩⟩⟩⟩⟩) rfl rfl ⟨rfl, by decide, by decide, by decide +kernel⟩ ⟨h1, h2⟩ rfl rfl rfl hsz rfl hW hdg hcs) kk
def f_X3_drawHorses_12_8 (fu nw : Nat) (k : Me → Option (Me × Unit)) : Nat → Me → Int32 → Option (Me × Unit)
  | 0 => fun _ _ => none
  | n + 1 => fun x a4 => if (x 20 0) ≤ a4 then k x else ob (f_X0_below_40 fu nw x ((x 20 0) - a4)) (fun x_2 r_2 => ob (f_X3_takeLeft fu nw x_2 r_2) (fun x_3 r_3 => if inb a4 10 = true then ob (f_X8_find fu nw x_3 (x_3 21 a4.toNatClampNeg)) (fun x_5 r_5 => om r_5 (f_X3_drawHorses_12_8 fu nw k n x_5 (a4 + 1)) (fun m_5 => if m_5 < nw then f_X3_drawHorses_12_8 fu nw k n (mu x_5 51 m_5 r_3) (a4 + 1) else none)) else none))
def f_X3_drawHorses_12 (fu nw : Nat) (x : Me) : Option (Me × Unit) := ob (f_X3_layOut_12 fu nw x) (fun x_1 _ => f_X3_drawHorses_12_8 fu nw (fun (x_7 : Me) => some (x_7, ())) fu x_1 0)
def rm_X3_drawHorses_12 : Room := { frames := 2, cells := 0, slots := 0, locals := 45 }
set_option maxHeartbeats 4000000 in
set_option maxRecDepth 100000 in
theorem wk_X3_drawHorses_12_8 {p : Program} {l : Launch} {e : Env} {s : State} {m : MethodId} {args : Array Value} {below : List Frame} {meth : Method} {c : Code} {fu nw : Nat} {G : GG} {mo : Me} (hx : p.tables.exec = Jvm.exec) (hb : c.code = cX3_drawHorses) (hml : c.maxLocals = 7) (hown : s.vm.findClass RX3 = some m.cls) (hE : EnvP G s) (hr : meth.sig.returnType = none) (hlocks : meth.locks = false) {x' : Me} {r : Unit} {k : Me → Option (Me × Unit)} (hk : ∀ (x : Me) (H : Heap) (locs : List Loc) (ls : Array Slot), k x = some (x', r) → MemP G nw x mo H → va_S (gA G) s.heap H locs → lv_has ls 7 [] → W p l e rm_X3_drawHorses_12 s m args below meth c H locs 0 0 (MQ below (PV G nw x' mo) args s 0 0 (gA G)) (F0 m 65 ls [])) : ∀ (n : Nat) (x : Me) (a4 : Int32) (H : Heap) (locs : List Loc) (ls : Array Slot), f_X3_drawHorses_12_8 fu nw k n x a4 = some (x', r) → MemP G nw x mo H → va_S (gA G) s.heap H locs → lv_has ls 7 [(0, .ref (ga G 14)), (1, .ref (ga G 7)), (3, .ref (ga G 40)), (4, .int a4)] → W p l e rm_X3_drawHorses_12 s m args below meth c H locs 0 0 (MQ below (PV G nw x' mo) args s 0 0 (gA G)) (F0 m 8 ls []) := by
  intro n
  induction n with
  | zero =>
    intro x a4 H locs ls hf hM hS hl
    exact nn hf
  | succ n ih =>
    intro x a4 H locs ls hf hM hS hl
    rw [f_X3_drawHorses_12_8] at hf
    refine lv_iload hx hb dX3_drawHorses_8 (lv_at hl 3 rfl) ?_
    refine lv_aload_n hx hb dX3_drawHorses_10 rfl (lv_at hl 0 rfl) ?_
    refine gf_20 hx hb hE hM hown w_1_128 dX3_drawHorses_11 ?_
    refine lv_icmp_ge (tgt := 65) hx hb dX3_drawHorses_14 (by decide) (fun hc_6 => ?_) (fun hc_6 => ?_)
    · replace hf := i_t hf hc_6
      exact hk x _ _ _ hf hM hS (lv_sub hl [] rfl)
    · replace hf := i_f hf hc_6
      refine lv_aload_n hx hb dX3_drawHorses_17 rfl (lv_at hl 0 rfl) ?_
      refine lv_aload_n hx hb dX3_drawHorses_18 rfl (lv_at hl 2 rfl) ?_
      refine lv_aload_n hx hb dX3_drawHorses_19 rfl (lv_at hl 0 rfl) ?_
      refine gf_20 hx hb hE hM hown w_1_128 dX3_drawHorses_20 ?_
      refine lv_iload hx hb dX3_drawHorses_23 (lv_at hl 3 rfl) ?_
      refine lv_isub hx hb dX3_drawHorses_25 ?_
      obtain ⟨x_2, r_2, hq_2, hf⟩ := ob_some hf
      refine k_X0_below_40 hx hb hml hown hE hM hS w_3_113 hq_2 (Nat.le_of_ble_eq_true rfl) (Nat.le_of_ble_eq_true rfl) hl.1 (Nat.le_of_ble_eq_true rfl) ⟨Nat.zero_le _, Nat.zero_le _⟩ dX3_drawHorses_26 (fun H locs hM hS => ?_)
      obtain ⟨x_3, r_3, hq_3, hf⟩ := ob_some hf
      refine k_X3_takeLeft hx hb hml hown hE hM hS w_3_114 hq_3 (Nat.le_of_ble_eq_true rfl) (Nat.le_of_ble_eq_true rfl) hl.1 (Nat.le_of_ble_eq_true rfl) ⟨Nat.zero_le _, Nat.zero_le _⟩ dX3_drawHorses_29 (fun H locs hM hS => ?_)
      refine lv_istore (lv' := [(5, .int r_3), (0, .ref (ga G 14)), (1, .ref (ga G 7)), (3, .ref (ga G 40)), (4, .int a4)]) hx hb dX3_drawHorses_32 hl (by decide) rfl (fun ls hl => ?_)
      refine lv_aload_n hx hb dX3_drawHorses_34 rfl (lv_at hl 2 rfl) ?_
      refine lv_aload_n hx hb dX3_drawHorses_35 rfl (lv_at hl 1 rfl) ?_
      refine gr_15 hx hb hE hM hown w_1_130 dX3_drawHorses_36 ?_
      refine lv_iload hx hb dX3_drawHorses_39 (lv_at hl 4 rfl) ?_
      obtain ⟨hi_4, hf⟩ := i_n hf
      refine la_15 hx hb hE hM hi_4 dX3_drawHorses_41 ?_
      obtain ⟨x_5, r_5, hq_5, hf⟩ := ob_some hf
      refine k_X8_find hx hb hml hown hE hM hS w_3_122 hq_5 (Nat.le_of_ble_eq_true rfl) (Nat.le_of_ble_eq_true rfl) hl.1 (Nat.le_of_ble_eq_true rfl) ⟨Nat.zero_le _, Nat.zero_le _⟩ dX3_drawHorses_42 (fun h_5 H locs hM hS => ?_) (fun m_5 h_5 H locs hM hS => ?_)
      · subst h_5
        replace hf := om_n hf
        refine lv_astoreN (lv' := [(6, .null), (5, .int r_3), (0, .ref (ga G 14)), (1, .ref (ga G 7)), (3, .ref (ga G 40)), (4, .int a4)]) hx hb dX3_drawHorses_45 hl (by decide) rfl (fun ls hl => ?_)
        refine lv_aloadN hx hb dX3_drawHorses_47 (lv_at hl 0 rfl) ?_
        refine lv_ifnullN (tgt := 59) hx hb dX3_drawHorses_49 (by decide) ?_
        refine lv_iinc (v := a4 + 1) (lv' := [(4, .int (a4 + 1)), (6, .null), (5, .int r_3), (0, .ref (ga G 14)), (1, .ref (ga G 7)), (3, .ref (ga G 40))]) hx hb dX3_drawHorses_59 hl (k := 5) rfl rfl (by decide) rfl (fun ls hl => ?_)
        refine lv_goto (tgt := 8) hx hb dX3_drawHorses_62 (by decide) ?_
        exact ih x_5 (a4 + 1) _ _ _ hf hM hS (lv_sub hl [3, 4, 5, 0] rfl)
      · subst h_5
        replace hf := om_s hf
        obtain ⟨hm_5, hf⟩ := i_n hf
        refine lv_astore (lv' := [(6, .ref (ga G (69 + m_5))), (5, .int r_3), (0, .ref (ga G 14)), (1, .ref (ga G 7)), (3, .ref (ga G 40)), (4, .int a4)]) hx hb dX3_drawHorses_45 hl (by decide) rfl (fun ls hl => ?_)
        refine lv_aload hx hb dX3_drawHorses_47 (lv_at hl 0 rfl) ?_
        refine lv_ifnull hx hb dX3_drawHorses_49 ?_
        refine lv_aload hx hb dX3_drawHorses_52 (lv_at hl 0 rfl) ?_
        refine lv_iload hx hb dX3_drawHorses_54 (lv_at hl 1 rfl) ?_
        refine pf_51N hm_5 hx hb hE hM hS hown w_2_232 dX3_drawHorses_56 (fun H locs hM hS => ?_)
        refine lv_iinc (v := a4 + 1) (lv' := [(4, .int (a4 + 1)), (6, .ref (ga G (69 + m_5))), (5, .int r_3), (0, .ref (ga G 14)), (1, .ref (ga G 7)), (3, .ref (ga G 40))]) hx hb dX3_drawHorses_59 hl (k := 5) rfl rfl (by decide) rfl (fun ls hl => ?_)
        refine lv_goto (tgt := 8) hx hb dX3_drawHorses_62 (by decide) ?_
        exact ih (mu x_5 51 m_5 r_3) (a4 + 1) _ _ _ hf hM hS (lv_sub hl [3, 4, 5, 0] rfl)
set_option maxHeartbeats 4000000 in
set_option maxRecDepth 100000 in
theorem c_X3_drawHorses_12 (l : Launch) (fu nw : Nat) (G : GG) (x x' mo : Me) (r : Unit) (hf : f_X3_drawHorses_12 fu nw x = some (x', r)) : Met l yX3_drawHorses [.code yX3_drawHorses cX3_drawHorses 7 none] rm_X3_drawHorses_12 (va_Pc [.ref (ga G 14), .ref (ga G 7), .ref (ga G 12), .ref (ga G 40)] (Pre G nw x mo)) (PV G nw x' mo) 0 0 (gA G) := by
  refine mt_ofW (cc := cX3_drawHorses) (maxL := 7) (ret := none) (by decide +kernel) rfl ?_
  intro p e s m args below meth c s₁ B hml hv
  obtain ⟨rfl, hE, hM⟩ := hv
  have hx := B.exec
  have hb := B.bytes
  have hr := B.returns
  have hown : s.vm.findClass RX3 = some m.cls := findClass_of_methodNamed B.named
  have hlocks := B.notSynchronized
  have hS : va_S (gA G) s.heap s.heap [] := va_S.rf
  have hl := lv_entry ([.ref (ga G 14), .ref (ga G 7), .ref (ga G 12), .ref (ga G 40)]) (n := 7) (Nat.le_of_ble_eq_true rfl)
  rw [lg_entry_eq]
  generalize (lg_sl ([.ref (ga G 14), .ref (ga G 7), .ref (ga G 12), .ref (ga G 40)]) ++ List.replicate (7 - (lg_sl ([.ref (ga G 14), .ref (ga G 7), .ref (ga G 12), .ref (ga G 40)])).length) Slot.unset).toArray = ls at hl ⊢
  have hl : lv_has ls 7 [(0, .ref (ga G 14)), (1, .ref (ga G 7)), (2, .ref (ga G 12)), (3, .ref (ga G 40))] := hl
  generalize ([.ref (ga G 14), .ref (ga G 7), .ref (ga G 12), .ref (ga G 40)] : List Value).toArray = args
  unfold f_X3_drawHorses_12 at hf
  refine lv_aload_n hx hb dX3_drawHorses_0 rfl (lv_at hl 0 rfl) ?_
  refine lv_aload_n hx hb dX3_drawHorses_1 rfl (lv_at hl 2 rfl) ?_
  obtain ⟨x_1, r_1, hq_1, hf⟩ := ob_some hf
  refine k_X3_layOut_12 hx hb hml hown hE hM hS w_3_109 hq_1 (Nat.le_of_ble_eq_true rfl) (Nat.le_of_ble_eq_true rfl) hl.1 (Nat.le_of_ble_eq_true rfl) ⟨Nat.zero_le _, Nat.zero_le _⟩ dX3_drawHorses_2 (fun H locs hM hS => ?_)
  refine lv_iconst (v := 0) hx hb dX3_drawHorses_5 (by decide) ?_
  refine lv_istore (lv' := [(4, .int 0), (0, .ref (ga G 14)), (1, .ref (ga G 7)), (2, .ref (ga G 12)), (3, .ref (ga G 40))]) hx hb dX3_drawHorses_6 hl (by decide) rfl (fun ls hl => ?_)
  refine wk_X3_drawHorses_12_8 hx hb hml hown hE hr hlocks ?_ fu x_1 0 _ _ _ hf hM hS (lv_sub hl [1, 2, 4, 0] rfl)
  intro x_7 H locs ls hf hM hS hl
  exact rt_vX hx hb hr hf hM hS dX3_drawHorses_65 hlocks
theorem k_X3_drawHorses_12 {p : Program} {l : Launch} {e : Env} {R : Room} {s : State} {m : MethodId} {args : Array Value} {below : List Frame} {meth : Method} {c : Code} {H : Heap} {locs : List Loc} {cells slots : Nat} {Q : State → Prop} {cc : ByteArray} {pc nL : Nat} {ls : Array Slot} {rest : List Value} {G : GG} {fu nw : Nat} {x x' mo : Me} {own : String} {index : Nat} {r : Unit} (hx : p.tables.exec = Jvm.exec) (hb : c.code = cc) (hml : c.maxLocals = nL) (hown : s.vm.findClass own = some m.cls) (hE : EnvP G s) (hM : MemP G nw x mo H) (hS : va_S (gA G) s.heap H locs) (hw : Cond.methodLink own index yX3_drawHorses ∈ lw_tbl) (hf : f_X3_drawHorses_12 fu nw x = some (x', r)) (h1 : 2 + 1 ≤ R.frames) (h2 : 8 + (7 + 11) + 45 ≤ R.locals) (hsz : ls.size = nL) (hW : (rest.map fun v => v.category).sum ≤ 8) (hcs : cells ≤ R.cells ∧ slots ≤ R.slots) (hdg : decode cc pc = .ok (.invokevirtual index, 3)) (kk : ∀ (H1 : Heap) (locs1 : List Loc), MemP G nw x' mo H1 → va_S (gA G) s.heap H1 locs1 → W p l e R s m args below meth c H1 locs1 cells slots Q (F0 m (pc + 3) ls rest)) : W p l e R s m args below meth c H locs cells slots Q (F0 m pc ls (.ref (ga G 40) :: .ref (ga G 12) :: .ref (ga G 7) :: .ref (ga G 14) :: rest)) := mm_kv hS (mm_runV (n := 3) (o := 14) (C := RX3) (T := TX3) (N := 5) (ci := 3) (As := [.ref (ga G 7), .ref (ga G 12), .ref (ga G 40)]) hx hb hml hown hE hM hS (c_X3_drawHorses_12 l fu nw G x x' mo _ hf) (List.forall_mem_cons.mpr ⟨⟨hw, rfl⟩, List.forall_mem_cons.mpr ⟨⟨w_3_106, rfl⟩, List.forall_mem_cons.mpr ⟨⟨w_3_107, rfl⟩, List.forall_mem_cons.mpr ⟨⟨w_1_6, rfl⟩, List.forall_mem_cons.mpr ⟨⟨w_3_108, rfl⟩, fun _ h => absurd h List.not_mem_nil⟩⟩⟩⟩⟩) rfl rfl ⟨rfl, by decide, by decide, by decide +kernel⟩ ⟨h1, h2⟩ rfl rfl rfl hsz rfl hW hdg hcs) kk
def f_X3_layOut_15_2 (fu nw : Nat) (k : Me → Option (Me × Unit)) : Nat → Me → Int32 → Option (Me × Unit)
  | 0 => fun _ _ => none
  | n + 1 => fun x a2 => if (x 20 0) ≤ a2 then k x else if 10 ≤ a2 then k x else if inb a2 10 = true then f_X3_layOut_15_2 fu nw k n (mu x 24 a2.toNatClampNeg (x 21 a2.toNatClampNeg)) (a2 + 1) else none
def f_X3_layOut_15 (fu nw : Nat) (x : Me) : Option (Me × Unit) := f_X3_layOut_15_2 fu nw (fun (x_4 : Me) => some (x_4, ())) fu x 0
def rm_X3_layOut_15 : Room := { frames := 0, cells := 0, slots := 0, locals := 0 }
set_option maxHeartbeats 4000000 in
set_option maxRecDepth 100000 in
theorem wk_X3_layOut_15_2 {p : Program} {l : Launch} {e : Env} {s : State} {m : MethodId} {args : Array Value} {below : List Frame} {meth : Method} {c : Code} {fu nw : Nat} {G : GG} {mo : Me} (hx : p.tables.exec = Jvm.exec) (hb : c.code = cX3_layOut) (hml : c.maxLocals = 3) (hown : s.vm.findClass RX3 = some m.cls) (hE : EnvP G s) (hr : meth.sig.returnType = none) (hlocks : meth.locks = false) {x' : Me} {r : Unit} {k : Me → Option (Me × Unit)} (hk : ∀ (x : Me) (H : Heap) (locs : List Loc) (ls : Array Slot), k x = some (x', r) → MemP G nw x mo H → va_S (gA G) s.heap H locs → lv_has ls 3 [] → W p l e rm_X3_layOut_15 s m args below meth c H locs 0 0 (MQ below (PV G nw x' mo) args s 0 0 (gA G)) (F0 m 31 ls [])) : ∀ (n : Nat) (x : Me) (a2 : Int32) (H : Heap) (locs : List Loc) (ls : Array Slot), f_X3_layOut_15_2 fu nw k n x a2 = some (x', r) → MemP G nw x mo H → va_S (gA G) s.heap H locs → lv_has ls 3 [(0, .ref (ga G 14)), (1, .ref (ga G 15)), (2, .int a2)] → W p l e rm_X3_layOut_15 s m args below meth c H locs 0 0 (MQ below (PV G nw x' mo) args s 0 0 (gA G)) (F0 m 2 ls []) := by
  intro n
  induction n with
  | zero =>
    intro x a2 H locs ls hf hM hS hl
    exact nn hf
  | succ n ih =>
    intro x a2 H locs ls hf hM hS hl
    rw [f_X3_layOut_15_2] at hf
    refine lv_iload_n hx hb dX3_layOut_2 rfl (lv_at hl 2 rfl) ?_
    refine lv_aload_n hx hb dX3_layOut_3 rfl (lv_at hl 0 rfl) ?_
    refine gf_20 hx hb hE hM hown w_1_128 dX3_layOut_4 ?_
    refine lv_icmp_ge (tgt := 31) hx hb dX3_layOut_7 (by decide) (fun hc_3 => ?_) (fun hc_3 => ?_)
    · replace hf := i_t hf hc_3
      exact hk x _ _ _ hf hM hS (lv_sub hl [] rfl)
    · replace hf := i_f hf hc_3
      refine lv_iload_n hx hb dX3_layOut_10 rfl (lv_at hl 2 rfl) ?_
      refine lv_aload_n hx hb dX3_layOut_11 rfl (lv_at hl 1 rfl) ?_
      refine ln_15 hx hb hE hM dX3_layOut_12 ?_
      refine lv_icmp_ge (tgt := 31) hx hb dX3_layOut_13 (by decide) (fun hc_2 => ?_) (fun hc_2 => ?_)
      · replace hf := i_t hf hc_2
        exact hk x _ _ _ hf hM hS (lv_sub hl [] rfl)
      · replace hf := i_f hf hc_2
        refine lv_aload_n hx hb dX3_layOut_16 rfl (lv_at hl 0 rfl) ?_
        refine gr_18 hx hb hE hM hown w_1_136 dX3_layOut_17 ?_
        refine lv_iload_n hx hb dX3_layOut_20 rfl (lv_at hl 2 rfl) ?_
        refine lv_aload_n hx hb dX3_layOut_21 rfl (lv_at hl 1 rfl) ?_
        refine lv_iload_n hx hb dX3_layOut_22 rfl (lv_at hl 2 rfl) ?_
        obtain ⟨hi_1, hf⟩ := i_n hf
        refine la_15 hx hb hE hM hi_1 dX3_layOut_23 ?_
        refine sa_18 hx hb hE hM hS hi_1 dX3_layOut_24 (fun H locs hM hS => ?_)
        refine lv_iinc (v := a2 + 1) (lv' := [(2, .int (a2 + 1)), (0, .ref (ga G 14)), (1, .ref (ga G 15))]) hx hb dX3_layOut_25 hl (k := 2) rfl rfl (by decide) rfl (fun ls hl => ?_)
        refine lv_goto (tgt := 2) hx hb dX3_layOut_28 (by decide) ?_
        exact ih (mu x 24 a2.toNatClampNeg (x 21 a2.toNatClampNeg)) (a2 + 1) _ _ _ hf hM hS (lv_sub hl [1, 2, 0] rfl)
set_option maxHeartbeats 4000000 in
set_option maxRecDepth 100000 in
theorem c_X3_layOut_15 (l : Launch) (fu nw : Nat) (G : GG) (x x' mo : Me) (r : Unit) (hf : f_X3_layOut_15 fu nw x = some (x', r)) : Met l yX3_layOut [.code yX3_layOut cX3_layOut 3 none] rm_X3_layOut_15 (va_Pc [.ref (ga G 14), .ref (ga G 15)] (Pre G nw x mo)) (PV G nw x' mo) 0 0 (gA G) := by
  refine mt_ofW (cc := cX3_layOut) (maxL := 3) (ret := none) (by decide +kernel) rfl ?_
  intro p e s m args below meth c s₁ B hml hv
  obtain ⟨rfl, hE, hM⟩ := hv
  have hx := B.exec
  have hb := B.bytes
  have hr := B.returns
  have hown : s.vm.findClass RX3 = some m.cls := findClass_of_methodNamed B.named
  have hlocks := B.notSynchronized
  have hS : va_S (gA G) s.heap s.heap [] := va_S.rf
  have hl := lv_entry ([.ref (ga G 14), .ref (ga G 15)]) (n := 3) (Nat.le_of_ble_eq_true rfl)
  rw [lg_entry_eq]
  generalize (lg_sl ([.ref (ga G 14), .ref (ga G 15)]) ++ List.replicate (3 - (lg_sl ([.ref (ga G 14), .ref (ga G 15)])).length) Slot.unset).toArray = ls at hl ⊢
  have hl : lv_has ls 3 [(0, .ref (ga G 14)), (1, .ref (ga G 15))] := hl
  generalize ([.ref (ga G 14), .ref (ga G 15)] : List Value).toArray = args
  unfold f_X3_layOut_15 at hf
  refine lv_iconst (v := 0) hx hb dX3_layOut_0 (by decide) ?_
  refine lv_istore_n (lv' := [(2, .int 0), (0, .ref (ga G 14)), (1, .ref (ga G 15))]) hx hb dX3_layOut_1 rfl hl (by decide) rfl (fun ls hl => ?_)
  refine wk_X3_layOut_15_2 hx hb hml hown hE hr hlocks ?_ fu x 0 _ _ _ hf hM hS (lv_sub hl [1, 2, 0] rfl)
  intro x_4 H locs ls hf hM hS hl
  exact rt_vX hx hb hr hf hM hS dX3_layOut_31 hlocks
theorem k_X3_layOut_15 {p : Program} {l : Launch} {e : Env} {R : Room} {s : State} {m : MethodId} {args : Array Value} {below : List Frame} {meth : Method} {c : Code} {H : Heap} {locs : List Loc} {cells slots : Nat} {Q : State → Prop} {cc : ByteArray} {pc nL : Nat} {ls : Array Slot} {rest : List Value} {G : GG} {fu nw : Nat} {x x' mo : Me} {own : String} {index : Nat} {r : Unit} (hx : p.tables.exec = Jvm.exec) (hb : c.code = cc) (hml : c.maxLocals = nL) (hown : s.vm.findClass own = some m.cls) (hE : EnvP G s) (hM : MemP G nw x mo H) (hS : va_S (gA G) s.heap H locs) (hw : Cond.methodLink own index yX3_layOut ∈ lw_tbl) (hf : f_X3_layOut_15 fu nw x = some (x', r)) (h1 : 0 + 1 ≤ R.frames) (h2 : 8 + (3 + 11) + 0 ≤ R.locals) (hsz : ls.size = nL) (hW : (rest.map fun v => v.category).sum ≤ 8) (hcs : cells ≤ R.cells ∧ slots ≤ R.slots) (hdg : decode cc pc = .ok (.invokevirtual index, 3)) (kk : ∀ (H1 : Heap) (locs1 : List Loc), MemP G nw x' mo H1 → va_S (gA G) s.heap H1 locs1 → W p l e R s m args below meth c H1 locs1 cells slots Q (F0 m (pc + 3) ls rest)) : W p l e R s m args below meth c H locs cells slots Q (F0 m pc ls (.ref (ga G 15) :: .ref (ga G 14) :: rest)) := mm_kv hS (mm_runV (n := 1) (o := 14) (C := RX3) (T := TX3) (N := 5) (ci := 3) (As := [.ref (ga G 15)]) hx hb hml hown hE hM hS (c_X3_layOut_15 l fu nw G x x' mo _ hf) (List.forall_mem_cons.mpr ⟨⟨hw, rfl⟩, List.forall_mem_cons.mpr ⟨⟨w_3_111, rfl⟩, List.forall_mem_cons.mpr ⟨⟨w_0_12, rfl⟩, List.forall_mem_cons.mpr ⟨⟨w_1_6, rfl⟩, List.forall_mem_cons.mpr ⟨⟨w_3_112, rfl⟩, fun _ h => absurd h List.not_mem_nil⟩⟩⟩⟩⟩) rfl rfl ⟨rfl, by decide, by decide, by decide +kernel⟩ ⟨h1, h2⟩ rfl rfl rfl hsz rfl hW hdg hcs) kk
def f_X3_drawPlaces_10 (fu nw : Nat) (k : Me → Option (Me × Unit)) : Nat → Me → Int32 → Option (Me × Unit)
  | 0 => fun _ _ => none
  | n + 1 => fun x a2 => if (x 20 0) ≤ a2 then k x else ob (f_X0_below_40 fu nw x ((x 20 0) - a2)) (fun x_2 r_2 => ob (f_X3_takeLeft fu nw x_2 r_2) (fun x_3 r_3 => if inb a2 10 = true then f_X3_drawPlaces_10 fu nw k n (mu x_3 22 a2.toNatClampNeg r_3) (a2 + 1) else none))
def f_X3_drawPlaces (fu nw : Nat) (x : Me) : Option (Me × Unit) := ob (f_X3_layOut_15 fu nw x) (fun x_1 _ => f_X3_drawPlaces_10 fu nw (fun (x_6 : Me) => ob (f_X3_forgetSeen fu nw x_6) (fun x_7 _ => some (x_7, ()))) fu x_1 0)
def rm_X3_drawPlaces : Room := { frames := 2, cells := 0, slots := 0, locals := 45 }
set_option maxHeartbeats 4000000 in
set_option maxRecDepth 100000 in
theorem wk_X3_drawPlaces_10 {p : Program} {l : Launch} {e : Env} {s : State} {m : MethodId} {args : Array Value} {below : List Frame} {meth : Method} {c : Code} {fu nw : Nat} {G : GG} {mo : Me} (hx : p.tables.exec = Jvm.exec) (hb : c.code = cX3_drawPlaces) (hml : c.maxLocals = 3) (hown : s.vm.findClass RX3 = some m.cls) (hE : EnvP G s) (hr : meth.sig.returnType = none) (hlocks : meth.locks = false) {x' : Me} {r : Unit} {k : Me → Option (Me × Unit)} (hk : ∀ (x : Me) (H : Heap) (locs : List Loc) (ls : Array Slot), k x = some (x', r) → MemP G nw x mo H → va_S (gA G) s.heap H locs → lv_has ls 3 [(0, .ref (ga G 14))] → W p l e rm_X3_drawPlaces s m args below meth c H locs 0 0 (MQ below (PV G nw x' mo) args s 0 0 (gA G)) (F0 m 44 ls [])) : ∀ (n : Nat) (x : Me) (a2 : Int32) (H : Heap) (locs : List Loc) (ls : Array Slot), f_X3_drawPlaces_10 fu nw k n x a2 = some (x', r) → MemP G nw x mo H → va_S (gA G) s.heap H locs → lv_has ls 3 [(0, .ref (ga G 14)), (1, .ref (ga G 40)), (2, .int a2)] → W p l e rm_X3_drawPlaces s m args below meth c H locs 0 0 (MQ below (PV G nw x' mo) args s 0 0 (gA G)) (F0 m 10 ls []) := by
  intro n
  induction n with
  | zero =>
    intro x a2 H locs ls hf hM hS hl
    exact nn hf
  | succ n ih =>
    intro x a2 H locs ls hf hM hS hl
    rw [f_X3_drawPlaces_10] at hf
    refine lv_iload_n hx hb dX3_drawPlaces_10 rfl (lv_at hl 2 rfl) ?_
    refine lv_aload_n hx hb dX3_drawPlaces_11 rfl (lv_at hl 0 rfl) ?_
    refine gf_20 hx hb hE hM hown w_1_128 dX3_drawPlaces_12 ?_
    refine lv_icmp_ge (tgt := 44) hx hb dX3_drawPlaces_15 (by decide) (fun hc_5 => ?_) (fun hc_5 => ?_)
    · replace hf := i_t hf hc_5
      exact hk x _ _ _ hf hM hS (lv_sub hl [0] rfl)
    · replace hf := i_f hf hc_5
      refine lv_aload_n hx hb dX3_drawPlaces_18 rfl (lv_at hl 0 rfl) ?_
      refine gr_16 hx hb hE hM hown w_1_132 dX3_drawPlaces_19 ?_
      refine lv_iload_n hx hb dX3_drawPlaces_22 rfl (lv_at hl 2 rfl) ?_
      refine lv_aload_n hx hb dX3_drawPlaces_23 rfl (lv_at hl 0 rfl) ?_
      refine lv_aload_n hx hb dX3_drawPlaces_24 rfl (lv_at hl 1 rfl) ?_
      refine lv_aload_n hx hb dX3_drawPlaces_25 rfl (lv_at hl 0 rfl) ?_
      refine gf_20 hx hb hE hM hown w_1_128 dX3_drawPlaces_26 ?_
      refine lv_iload_n hx hb dX3_drawPlaces_29 rfl (lv_at hl 2 rfl) ?_
      refine lv_isub hx hb dX3_drawPlaces_30 ?_
      obtain ⟨x_2, r_2, hq_2, hf⟩ := ob_some hf
      refine k_X0_below_40 hx hb hml hown hE hM hS w_3_113 hq_2 (Nat.le_of_ble_eq_true rfl) (Nat.le_of_ble_eq_true rfl) hl.1 (Nat.le_of_ble_eq_true rfl) ⟨Nat.zero_le _, Nat.zero_le _⟩ dX3_drawPlaces_31 (fun H locs hM hS => ?_)
      obtain ⟨x_3, r_3, hq_3, hf⟩ := ob_some hf
      refine k_X3_takeLeft hx hb hml hown hE hM hS w_3_114 hq_3 (Nat.le_of_ble_eq_true rfl) (Nat.le_of_ble_eq_true rfl) hl.1 (Nat.le_of_ble_eq_true rfl) ⟨Nat.zero_le _, Nat.zero_le _⟩ dX3_drawPlaces_34 (fun H locs hM hS => ?_)
      obtain ⟨hi_4, hf⟩ := i_n hf
      refine sa_16 hx hb hE hM hS hi_4 dX3_drawPlaces_37 (fun H locs hM hS => ?_)
      refine lv_iinc (v := a2 + 1) (lv' := [(2, .int (a2 + 1)), (0, .ref (ga G 14)), (1, .ref (ga G 40))]) hx hb dX3_drawPlaces_38 hl (k := 2) rfl rfl (by decide) rfl (fun ls hl => ?_)
      refine lv_goto (tgt := 10) hx hb dX3_drawPlaces_41 (by decide) ?_
      exact ih (mu x_3 22 a2.toNatClampNeg r_3) (a2 + 1) _ _ _ hf hM hS (lv_sub hl [1, 2, 0] rfl)
set_option maxHeartbeats 4000000 in
set_option maxRecDepth 100000 in
theorem c_X3_drawPlaces (l : Launch) (fu nw : Nat) (G : GG) (x x' mo : Me) (r : Unit) (hf : f_X3_drawPlaces fu nw x = some (x', r)) : Met l yX3_drawPlaces [.code yX3_drawPlaces cX3_drawPlaces 3 none] rm_X3_drawPlaces (va_Pc [.ref (ga G 14), .ref (ga G 40)] (Pre G nw x mo)) (PV G nw x' mo) 0 0 (gA G) := by
  refine mt_ofW (cc := cX3_drawPlaces) (maxL := 3) (ret := none) (by decide +kernel) rfl ?_
  intro p e s m args below meth c s₁ B hml hv
  obtain ⟨rfl, hE, hM⟩ := hv
  have hx := B.exec
  have hb := B.bytes
  have hr := B.returns
  have hown : s.vm.findClass RX3 = some m.cls := findClass_of_methodNamed B.named
  have hlocks := B.notSynchronized
  have hS : va_S (gA G) s.heap s.heap [] := va_S.rf
  have hl := lv_entry ([.ref (ga G 14), .ref (ga G 40)]) (n := 3) (Nat.le_of_ble_eq_true rfl)
  rw [lg_entry_eq]
  generalize (lg_sl ([.ref (ga G 14), .ref (ga G 40)]) ++ List.replicate (3 - (lg_sl ([.ref (ga G 14), .ref (ga G 40)])).length) Slot.unset).toArray = ls at hl ⊢
  have hl : lv_has ls 3 [(0, .ref (ga G 14)), (1, .ref (ga G 40))] := hl
  generalize ([.ref (ga G 14), .ref (ga G 40)] : List Value).toArray = args
  unfold f_X3_drawPlaces at hf
  refine lv_aload_n hx hb dX3_drawPlaces_0 rfl (lv_at hl 0 rfl) ?_
  refine lv_aload_n hx hb dX3_drawPlaces_1 rfl (lv_at hl 0 rfl) ?_
  refine gr_15 hx hb hE hM hown w_1_130 dX3_drawPlaces_2 ?_
  obtain ⟨x_1, r_1, hq_1, hf⟩ := ob_some hf
  refine k_X3_layOut_15 hx hb hml hown hE hM hS w_3_109 hq_1 (Nat.le_of_ble_eq_true rfl) (Nat.le_of_ble_eq_true rfl) hl.1 (Nat.le_of_ble_eq_true rfl) ⟨Nat.zero_le _, Nat.zero_le _⟩ dX3_drawPlaces_5 (fun H locs hM hS => ?_)
  refine lv_iconst (v := 0) hx hb dX3_drawPlaces_8 (by decide) ?_
  refine lv_istore_n (lv' := [(2, .int 0), (0, .ref (ga G 14)), (1, .ref (ga G 40))]) hx hb dX3_drawPlaces_9 rfl hl (by decide) rfl (fun ls hl => ?_)
  refine wk_X3_drawPlaces_10 hx hb hml hown hE hr hlocks ?_ fu x_1 0 _ _ _ hf hM hS (lv_sub hl [1, 2, 0] rfl)
  intro x_6 H locs ls hf hM hS hl
  refine lv_aload_n hx hb dX3_drawPlaces_44 rfl (lv_at hl 0 rfl) ?_
  obtain ⟨x_7, r_7, hq_7, hf⟩ := ob_some hf
  refine k_X3_forgetSeen hx hb hml hown hE hM hS w_3_127 hq_7 (Nat.le_of_ble_eq_true rfl) (Nat.le_of_ble_eq_true rfl) hl.1 (Nat.le_of_ble_eq_true rfl) ⟨Nat.zero_le _, Nat.zero_le _⟩ dX3_drawPlaces_45 (fun H locs hM hS => ?_)
  exact rt_vX hx hb hr hf hM hS dX3_drawPlaces_48 hlocks
theorem k_X3_drawPlaces {p : Program} {l : Launch} {e : Env} {R : Room} {s : State} {m : MethodId} {args : Array Value} {below : List Frame} {meth : Method} {c : Code} {H : Heap} {locs : List Loc} {cells slots : Nat} {Q : State → Prop} {cc : ByteArray} {pc nL : Nat} {ls : Array Slot} {rest : List Value} {G : GG} {fu nw : Nat} {x x' mo : Me} {own : String} {index : Nat} {r : Unit} (hx : p.tables.exec = Jvm.exec) (hb : c.code = cc) (hml : c.maxLocals = nL) (hown : s.vm.findClass own = some m.cls) (hE : EnvP G s) (hM : MemP G nw x mo H) (hS : va_S (gA G) s.heap H locs) (hw : Cond.methodLink own index yX3_drawPlaces ∈ lw_tbl) (hf : f_X3_drawPlaces fu nw x = some (x', r)) (h1 : 2 + 1 ≤ R.frames) (h2 : 8 + (3 + 11) + 45 ≤ R.locals) (hsz : ls.size = nL) (hW : (rest.map fun v => v.category).sum ≤ 8) (hcs : cells ≤ R.cells ∧ slots ≤ R.slots) (hdg : decode cc pc = .ok (.invokevirtual index, 3)) (kk : ∀ (H1 : Heap) (locs1 : List Loc), MemP G nw x' mo H1 → va_S (gA G) s.heap H1 locs1 → W p l e R s m args below meth c H1 locs1 cells slots Q (F0 m (pc + 3) ls rest)) : W p l e R s m args below meth c H locs cells slots Q (F0 m pc ls (.ref (ga G 40) :: .ref (ga G 14) :: rest)) := mm_kv hS (mm_runV (n := 1) (o := 14) (C := RX3) (T := TX3) (N := 5) (ci := 3) (As := [.ref (ga G 40)]) hx hb hml hown hE hM hS (c_X3_drawPlaces l fu nw G x x' mo _ hf) (List.forall_mem_cons.mpr ⟨⟨hw, rfl⟩, List.forall_mem_cons.mpr ⟨⟨w_3_124, rfl⟩, List.forall_mem_cons.mpr ⟨⟨w_3_125, rfl⟩, List.forall_mem_cons.mpr ⟨⟨w_1_6, rfl⟩, List.forall_mem_cons.mpr ⟨⟨w_3_126, rfl⟩, fun _ h => absurd h List.not_mem_nil⟩⟩⟩⟩⟩) rfl rfl ⟨rfl, by decide, by decide, by decide +kernel⟩ ⟨h1, h2⟩ rfl rfl rfl hsz rfl hW hdg hcs) kk
