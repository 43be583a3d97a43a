def f_X0_begin_40 (fu nw : Nat) (x : Me) (a1 : Int32) : Option (Me × Unit) := some ((mu x 49 0 a1), ())
def rm_X0_begin_40 : Room := { frames := 0, cells := 0, slots := 0, locals := 0 }
set_option maxHeartbeats 4000000 in
set_option maxRecDepth 100000 in
theorem c_X0_begin_40 (l : Launch) (fu nw : Nat) (G : GG) (x x' mo : Me) (a1 : Int32) (r : Unit) (hf : f_X0_begin_40 fu nw x a1 = some (x', r)) : Met l yX0_begin [.code yX0_begin cX0_begin 2 none] rm_X0_begin_40 (va_Pc [.ref (ga G 40), .int a1] (Pre G nw x mo)) (PV G nw x' mo) 0 0 (gA G) := by
  refine mt_ofW (cc := cX0_begin) (maxL := 2) (ret := none) (by decide +kernel) rfl ?_
  intro p e s m args below meth c s₁ B hml hv
  obtain ⟨rfl, hE, hM⟩ := hv
  have hx := B.exec
  have hb := B.bytes
  have hr := B.returns
  have hown : s.vm.findClass RX0 = some m.cls := findClass_of_methodNamed B.named
  have hlocks := B.notSynchronized
  have hS : va_S (gA G) s.heap s.heap [] := va_S.rf
  have hl := lv_entry ([.ref (ga G 40), .int a1]) (n := 2) (Nat.le_of_ble_eq_true rfl)
  rw [lg_entry_eq]
  generalize (lg_sl ([.ref (ga G 40), .int a1]) ++ List.replicate (2 - (lg_sl ([.ref (ga G 40), .int a1])).length) Slot.unset).toArray = ls at hl ⊢
  have hl : lv_has ls 2 [(0, .ref (ga G 40)), (1, .int a1)] := hl
  generalize ([.ref (ga G 40), .int a1] : List Value).toArray = args
  unfold f_X0_begin_40 at hf
  refine lv_aload_n hx hb dX0_begin_0 rfl (lv_at hl 0 rfl) ?_
  refine lv_iload_n hx hb dX0_begin_1 rfl (lv_at hl 1 rfl) ?_
  refine pf_49_0 hx hb hE hM hS hown w_1_162 dX0_begin_2 (fun H locs hM hS => ?_)
  exact rt_vX hx hb hr hf hM hS dX0_begin_5 hlocks
theorem k_X0_begin_40 {p : Program} {l : Launch} {e : Env} {R : Room} {s : State} {m : MethodId} {args : Array Value} {below : List Frame} {meth : Method} {c : Code} {H : Heap} {locs : List Loc} {cells slots : Nat} {Q : State → Prop} {cc : ByteArray} {pc nL : Nat} {ls : Array Slot} {rest : List Value} {G : GG} {fu nw : Nat} {x x' mo : Me} {own : String} {index : Nat} {a1 : Int32} {r : Unit} (hx : p.tables.exec = Jvm.exec) (hb : c.code = cc) (hml : c.maxLocals = nL) (hown : s.vm.findClass own = some m.cls) (hE : EnvP G s) (hM : MemP G nw x mo H) (hS : va_S (gA G) s.heap H locs) (hw : Cond.methodLink own index yX0_begin ∈ lw_tbl) (hf : f_X0_begin_40 fu nw x a1 = some (x', r)) (h1 : 0 + 1 ≤ R.frames) (h2 : 8 + (2 + 11) + 0 ≤ R.locals) (hsz : ls.size = nL) (hW : (rest.map fun v => v.category).sum ≤ 8) (hcs : cells ≤ R.cells ∧ slots ≤ R.slots) (hdg : decode cc pc = .ok (.invokevirtual index, 3)) (kk : ∀ (H1 : Heap) (locs1 : List Loc), MemP G nw x' mo H1 → va_S (gA G) s.heap H1 locs1 → W p l e R s m args below meth c H1 locs1 cells slots Q (F0 m (pc + 3) ls rest)) : W p l e R s m args below meth c H locs cells slots Q (F0 m pc ls (.int a1 :: .ref (ga G 40) :: rest)) := mm_kv hS (mm_runV (n := 1) (o := 40) (C := RX0) (T := TX0) (N := 1) (ci := 0) (As := [.int a1]) hx hb hml hown hE hM hS (c_X0_begin_40 l fu nw G x x' mo a1 _ hf) (List.forall_mem_cons.mpr ⟨⟨hw, rfl⟩, List.forall_mem_cons.mpr ⟨⟨w_3_48, rfl⟩, List.forall_mem_cons.mpr ⟨⟨w_3_49, rfl⟩, List.forall_mem_cons.mpr ⟨⟨w_1_8, rfl⟩, List.forall_mem_cons.mpr ⟨⟨w_3_50, rfl⟩, fun _ h => absurd h List.not_mem_nil⟩⟩⟩⟩⟩) rfl rfl ⟨rfl, by decide, by decide, by decide +kernel⟩ ⟨h1, h2⟩ rfl rfl rfl hsz rfl hW hdg hcs) kk
def f_X0_below_40 (fu nw : Nat) (x : Me) (a1 : Int32) : Option (Me × Int32) := if a1 ≤ 0 then some ((mu x 49 0 ((1103515245 * (x 49 0)) + 12345)), 0) else if ¬ a1 = 0 then some ((mu x 49 0 ((1103515245 * (x 49 0)) + 12345)), ((((1103515245 * (x 49 0)) + 12345) >>> ((16 : Int32) &&& 31)) &&& 32767) - ((((1103515245 * (x 49 0)) + 12345) >>> ((16 : Int32) &&& 31)) &&& 32767) / a1 * a1) else none
def rm_X0_below_40 : Room := { frames := 0, cells := 0, slots := 0, locals := 0 }
set_option maxHeartbeats 4000000 in
set_option maxRecDepth 100000 in
theorem c_X0_below_40 (l : Launch) (fu nw : Nat) (G : GG) (x x' mo : Me) (a1 : Int32) (r : Int32) (hf : f_X0_below_40 fu nw x a1 = some (x', r)) : Met l yX0_below [.code yX0_below cX0_below 3 (some .int)] rm_X0_below_40 (va_Pc [.ref (ga G 40), .int a1] (Pre G nw x mo)) (PI G nw x' mo r) 0 0 (gA G) := by
  refine mt_ofW (cc := cX0_below) (maxL := 3) (ret := (some .int)) (by decide +kernel) rfl ?_
  intro p e s m args below meth c s₁ B hml hv
  obtain ⟨rfl, hE, hM⟩ := hv
  have hx := B.exec
  have hb := B.bytes
  have hr := B.returns
  have hown : s.vm.findClass RX0 = some m.cls := findClass_of_methodNamed B.named
  have hlocks := B.notSynchronized
  have hS : va_S (gA G) s.heap s.heap [] := va_S.rf
  have hl := lv_entry ([.ref (ga G 40), .int a1]) (n := 3) (Nat.le_of_ble_eq_true rfl)
  rw [lg_entry_eq]
  generalize (lg_sl ([.ref (ga G 40), .int a1]) ++ List.replicate (3 - (lg_sl ([.ref (ga G 40), .int a1])).length) Slot.unset).toArray = ls at hl ⊢
  have hl : lv_has ls 3 [(0, .ref (ga G 40)), (1, .int a1)] := hl
  generalize ([.ref (ga G 40), .int a1] : List Value).toArray = args
  unfold f_X0_below_40 at hf
  refine lv_aload_n hx hb dX0_below_0 rfl (lv_at hl 0 rfl) ?_
  refine lv_ldc (v := 1103515245) hx hb hown (ew hE w_3_63 rfl) dX0_below_1 ?_
  refine lv_aload_n hx hb dX0_below_3 rfl (lv_at hl 0 rfl) ?_
  refine gf_49_0 hx hb hE hM hown w_1_162 dX0_below_4 ?_
  refine lv_imul hx hb dX0_below_7 ?_
  refine lv_sipush (v := 12345) hx hb dX0_below_8 (by decide) ?_
  refine lv_iadd hx hb dX0_below_11 ?_
  refine pf_49_0 hx hb hE hM hS hown w_1_162 dX0_below_12 (fun H locs hM hS => ?_)
  refine lv_aload_n hx hb dX0_below_15 rfl (lv_at hl 0 rfl) ?_
  refine gf_49_0 hx hb hE hM hown w_1_162 dX0_below_16 ?_
  refine lv_bipush (v := 16) hx hb dX0_below_19 (by decide) ?_
  refine lv_ishr hx hb dX0_below_21 ?_
  refine lv_sipush (v := 32767) hx hb dX0_below_22 (by decide) ?_
  refine lv_iand hx hb dX0_below_25 ?_
  refine lv_istore_n (lv' := [(2, .int ((((1103515245 * (x 49 0)) + 12345) >>> ((16 : Int32) &&& 31)) &&& 32767)), (0, .ref (ga G 40)), (1, .int a1)]) hx hb dX0_below_26 rfl hl (by decide) rfl (fun ls hl => ?_)
  refine lv_iload_n hx hb dX0_below_27 rfl (lv_at hl 2 rfl) ?_
  refine lv_if_le (tgt := 37) hx hb dX0_below_28 (by decide) (fun hc_2 => ?_) (fun hc_2 => ?_)
  · replace hf := i_t hf hc_2
    refine lv_iconst (v := 0) hx hb dX0_below_37 (by decide) ?_
    exact rt_iX hx hb hr hf hM hS dX0_below_38 hlocks
  · replace hf := i_f hf hc_2
    refine lv_iload_n hx hb dX0_below_31 rfl (lv_at hl 0 rfl) ?_
    refine lv_iload_n hx hb dX0_below_32 rfl (lv_at hl 2 rfl) ?_
    obtain ⟨hn_1, hf⟩ := i_n hf
    refine lv_irem hx hb dX0_below_33 hn_1 ?_
    refine lv_goto (tgt := 38) hx hb dX0_below_34 (by decide) ?_
    exact rt_iX hx hb hr hf hM hS dX0_below_38 hlocks
theorem k_X0_below_40 {p : Program} {l : Launch} {e : Env} {R : Room} {s : State} {m : MethodId} {args : Array Value} {below : List Frame} {meth : Method} {c : Code} {H : Heap} {locs : List Loc} {cells slots : Nat} {Q : State → Prop} {cc : ByteArray} {pc nL : Nat} {ls : Array Slot} {rest : List Value} {G : GG} {fu nw : Nat} {x x' mo : Me} {own : String} {index : Nat} {a1 : Int32} {r : Int32} (hx : p.tables.exec = Jvm.exec) (hb : c.code = cc) (hml : c.maxLocals = nL) (hown : s.vm.findClass own = some m.cls) (hE : EnvP G s) (hM : MemP G nw x mo H) (hS : va_S (gA G) s.heap H locs) (hw : Cond.methodLink own index yX0_below ∈ lw_tbl) (hf : f_X0_below_40 fu nw x a1 = some (x', r)) (h1 : 0 + 1 ≤ R.frames) (h2 : 8 + (3 + 11) + 0 ≤ R.locals) (hsz : ls.size = nL) (hW : (rest.map fun v => v.category).sum ≤ 8) (hcs : cells ≤ R.cells ∧ slots ≤ R.slots) (hdg : decode cc pc = .ok (.invokevirtual index, 3)) (kk : ∀ (H1 : Heap) (locs1 : List Loc), MemP G nw x' mo H1 → va_S (gA G) s.heap H1 locs1 → W p l e R s m args below meth c H1 locs1 cells slots Q (F0 m (pc + 3) ls (.int r :: rest))) : W p l e R s m args below meth c H locs cells slots Q (F0 m pc ls (.int a1 :: .ref (ga G 40) :: rest)) := mm_ki hS (mm_runV (n := 1) (o := 40) (C := RX0) (T := TX0) (N := 1) (ci := 0) (As := [.int a1]) hx hb hml hown hE hM hS (c_X0_below_40 l fu nw G x x' mo a1 _ hf) (List.forall_mem_cons.mpr ⟨⟨hw, rfl⟩, List.forall_mem_cons.mpr ⟨⟨w_3_60, rfl⟩, List.forall_mem_cons.mpr ⟨⟨w_3_61, rfl⟩, List.forall_mem_cons.mpr ⟨⟨w_1_8, rfl⟩, List.forall_mem_cons.mpr ⟨⟨w_3_62, rfl⟩, fun _ h => absurd h List.not_mem_nil⟩⟩⟩⟩⟩) rfl rfl ⟨rfl, by decide, by decide, by decide +kernel⟩ ⟨h1, h2⟩ rfl rfl rfl hsz rfl hW hdg hcs) kk
def f_X0_begin_25 (fu nw : Nat) (x : Me) (a1 : Int32) : Option (Me × Unit) := some ((mu x 49 1 a1), ())
def rm_X0_begin_25 : Room := { frames := 0, cells := 0, slots := 0, locals := 0 }
set_option maxHeartbeats 4000000 in
set_option maxRecDepth 100000 in
theorem c_X0_begin_25 (l : Launch) (fu nw : Nat) (G : GG) (x x' mo : Me) (a1 : Int32) (r : Unit) (hf : f_X0_begin_25 fu nw x a1 = some (x', r)) : Met l yX0_begin [.code yX0_begin cX0_begin 2 none] rm_X0_begin_25 (va_Pc [.ref (ga G 25), .int a1] (Pre G nw x mo)) (PV G nw x' mo) 0 0 (gA G) := by
  refine mt_ofW (cc := cX0_begin) (maxL := 2) (ret := none) (by decide +kernel) rfl ?_
  intro p e s m args below meth c s₁ B hml hv
  obtain ⟨rfl, hE, hM⟩ := hv
  have hx := B.exec
  have hb := B.bytes
  have hr := B.returns
  have hown : s.vm.findClass RX0 = some m.cls := findClass_of_methodNamed B.named
  have hlocks := B.notSynchronized
  have hS : va_S (gA G) s.heap s.heap [] := va_S.rf
  have hl := lv_entry ([.ref (ga G 25), .int a1]) (n := 2) (Nat.le_of_ble_eq_true rfl)
  rw [lg_entry_eq]
  generalize (lg_sl ([.ref (ga G 25), .int a1]) ++ List.replicate (2 - (lg_sl ([.ref (ga G 25), .int a1])).length) Slot.unset).toArray = ls at hl ⊢
  have hl : lv_has ls 2 [(0, .ref (ga G 25)), (1, .int a1)] := hl
  generalize ([.ref (ga G 25), .int a1] : List Value).toArray = args
  unfold f_X0_begin_25 at hf
  refine lv_aload_n hx hb dX0_begin_0 rfl (lv_at hl 0 rfl) ?_
  refine lv_iload_n hx hb dX0_begin_1 rfl (lv_at hl 1 rfl) ?_
  refine pf_49_1 hx hb hE hM hS hown w_1_162 dX0_begin_2 (fun H locs hM hS => ?_)
  exact rt_vX hx hb hr hf hM hS dX0_begin_5 hlocks
theorem k_X0_begin_25 {p : Program} {l : Launch} {e : Env} {R : Room} {s : State} {m : MethodId} {args : Array Value} {below : List Frame} {meth : Method} {c : Code} {H : Heap} {locs : List Loc} {cells slots : Nat} {Q : State → Prop} {cc : ByteArray} {pc nL : Nat} {ls : Array Slot} {rest : List Value} {G : GG} {fu nw : Nat} {x x' mo : Me} {own : String} {index : Nat} {a1 : Int32} {r : Unit} (hx : p.tables.exec = Jvm.exec) (hb : c.code = cc) (hml : c.maxLocals = nL) (hown : s.vm.findClass own = some m.cls) (hE : EnvP G s) (hM : MemP G nw x mo H) (hS : va_S (gA G) s.heap H locs) (hw : Cond.methodLink own index yX0_begin ∈ lw_tbl) (hf : f_X0_begin_25 fu nw x a1 = some (x', r)) (h1 : 0 + 1 ≤ R.frames) (h2 : 8 + (2 + 11) + 0 ≤ R.locals) (hsz : ls.size = nL) (hW : (rest.map fun v => v.category).sum ≤ 8) (hcs : cells ≤ R.cells ∧ slots ≤ R.slots) (hdg : decode cc pc = .ok (.invokevirtual index, 3)) (kk : ∀ (H1 : Heap) (locs1 : List Loc), MemP G nw x' mo H1 → va_S (gA G) s.heap H1 locs1 → W p l e R s m args below meth c H1 locs1 cells slots Q (F0 m (pc + 3) ls rest)) : W p l e R s m args below meth c H locs cells slots Q (F0 m pc ls (.int a1 :: .ref (ga G 25) :: rest)) := mm_kv hS (mm_runV (n := 1) (o := 25) (C := RX0) (T := TX0) (N := 1) (ci := 0) (As := [.int a1]) hx hb hml hown hE hM hS (c_X0_begin_25 l fu nw G x x' mo a1 _ hf) (List.forall_mem_cons.mpr ⟨⟨hw, rfl⟩, List.forall_mem_cons.mpr ⟨⟨w_3_48, rfl⟩, List.forall_mem_cons.mpr ⟨⟨w_3_49, rfl⟩, List.forall_mem_cons.mpr ⟨⟨w_1_8, rfl⟩, List.forall_mem_cons.mpr ⟨⟨w_3_50, rfl⟩, fun _ h => absurd h List.not_mem_nil⟩⟩⟩⟩⟩) rfl rfl ⟨rfl, by decide, by decide, by decide +kernel⟩ ⟨h1, h2⟩ rfl rfl rfl hsz rfl hW hdg hcs) kk
def f_X0_below_25 (fu nw : Nat) (x : Me) (a1 : Int32) : Option (Me × Int32) := if a1 ≤ 0 then some ((mu x 49 1 ((1103515245 * (x 49 1)) + 12345)), 0) else if ¬ a1 = 0 then some ((mu x 49 1 ((1103515245 * (x 49 1)) + 12345)), ((((1103515245 * (x 49 1)) + 12345) >>> ((16 : Int32) &&& 31)) &&& 32767) - ((((1103515245 * (x 49 1)) + 12345) >>> ((16 : Int32) &&& 31)) &&& 32767) / a1 * a1) else none
def rm_X0_below_25 : Room := { frames := 0, cells := 0, slots := 0, locals := 0 }
set_option maxHeartbeats 4000000 in
set_option maxRecDepth 100000 in
theorem c_X0_below_25 (l : Launch) (fu nw : Nat) (G : GG) (x x' mo : Me) (a1 : Int32) (r : Int32) (hf : f_X0_below_25 fu nw x a1 = some (x', r)) : Met l yX0_below [.code yX0_below cX0_below 3 (some .int)] rm_X0_below_25 (va_Pc [.ref (ga G 25), .int a1] (Pre G nw x mo)) (PI G nw x' mo r) 0 0 (gA G) := by
  refine mt_ofW (cc := cX0_below) (maxL := 3) (ret := (some .int)) (by decide +kernel) rfl ?_
  intro p e s m args below meth c s₁ B hml hv
  obtain ⟨rfl, hE, hM⟩ := hv
  have hx := B.exec
  have hb := B.bytes
  have hr := B.returns
  have hown : s.vm.findClass RX0 = some m.cls := findClass_of_methodNamed B.named
  have hlocks := B.notSynchronized
  have hS : va_S (gA G) s.heap s.heap [] := va_S.rf
  have hl := lv_entry ([.ref (ga G 25), .int a1]) (n := 3) (Nat.le_of_ble_eq_true rfl)
  rw [lg_entry_eq]
  generalize (lg_sl ([.ref (ga G 25), .int a1]) ++ List.replicate (3 - (lg_sl ([.ref (ga G 25), .int a1])).length) Slot.unset).toArray = ls at hl ⊢
  have hl : lv_has ls 3 [(0, .ref (ga G 25)), (1, .int a1)] := hl
  generalize ([.ref (ga G 25), .int a1] : List Value).toArray = args
  unfold f_X0_below_25 at hf
  refine lv_aload_n hx hb dX0_below_0 rfl (lv_at hl 0 rfl) ?_
  refine lv_ldc (v := 1103515245) hx hb hown (ew hE w_3_63 rfl) dX0_below_1 ?_
  refine lv_aload_n hx hb dX0_below_3 rfl (lv_at hl 0 rfl) ?_
  refine gf_49_1 hx hb hE hM hown w_1_162 dX0_below_4 ?_
  refine lv_imul hx hb dX0_below_7 ?_
  refine lv_sipush (v := 12345) hx hb dX0_below_8 (by decide) ?_
  refine lv_iadd hx hb dX0_below_11 ?_
  refine pf_49_1 hx hb hE hM hS hown w_1_162 dX0_below_12 (fun H locs hM hS => ?_)
  refine lv_aload_n hx hb dX0_below_15 rfl (lv_at hl 0 rfl) ?_
  refine gf_49_1 hx hb hE hM hown w_1_162 dX0_below_16 ?_
  refine lv_bipush (v := 16) hx hb dX0_below_19 (by decide) ?_
  refine lv_ishr hx hb dX0_below_21 ?_
  refine lv_sipush (v := 32767) hx hb dX0_below_22 (by decide) ?_
  refine lv_iand hx hb dX0_below_25 ?_
  refine lv_istore_n (lv' := [(2, .int ((((1103515245 * (x 49 1)) + 12345) >>> ((16 : Int32) &&& 31)) &&& 32767)), (0, .ref (ga G 25)), (1, .int a1)]) hx hb dX0_below_26 rfl hl (by decide) rfl (fun ls hl => ?_)
  refine lv_iload_n hx hb dX0_below_27 rfl (lv_at hl 2 rfl) ?_
  refine lv_if_le (tgt := 37) hx hb dX0_below_28 (by decide) (fun hc_2 => ?_) (fun hc_2 => ?_)
  · replace hf := i_t hf hc_2
    refine lv_iconst (v := 0) hx hb dX0_below_37 (by decide) ?_
    exact rt_iX hx hb hr hf hM hS dX0_below_38 hlocks
  · replace hf := i_f hf hc_2
    refine lv_iload_n hx hb dX0_below_31 rfl (lv_at hl 0 rfl) ?_
    refine lv_iload_n hx hb dX0_below_32 rfl (lv_at hl 2 rfl) ?_
    obtain ⟨hn_1, hf⟩ := i_n hf
    refine lv_irem hx hb dX0_below_33 hn_1 ?_
    refine lv_goto (tgt := 38) hx hb dX0_below_34 (by decide) ?_
    exact rt_iX hx hb hr hf hM hS dX0_below_38 hlocks
theorem k_X0_below_25 {p : Program} {l : Launch} {e : Env} {R : Room} {s : State} {m : MethodId} {args : Array Value} {below : List Frame} {meth : Method} {c : Code} {H : Heap} {locs : List Loc} {cells slots : Nat} {Q : State → Prop} {cc : ByteArray} {pc nL : Nat} {ls : Array Slot} {rest : List Value} {G : GG} {fu nw : Nat} {x x' mo : Me} {own : String} {index : Nat} {a1 : Int32} {r : Int32} (hx : p.tables.exec = Jvm.exec) (hb : c.code = cc) (hml : c.maxLocals = nL) (hown : s.vm.findClass own = some m.cls) (hE : EnvP G s) (hM : MemP G nw x mo H) (hS : va_S (gA G) s.heap H locs) (hw : Cond.methodLink own index yX0_below ∈ lw_tbl) (hf : f_X0_below_25 fu nw x a1 = some (x', r)) (h1 : 0 + 1 ≤ R.frames) (h2 : 8 + (3 + 11) + 0 ≤ R.locals) (hsz : ls.size = nL) (hW : (rest.map fun v => v.category).sum ≤ 8) (hcs : cells ≤ R.cells ∧ slots ≤ R.slots) (hdg : decode cc pc = .ok (.invokevirtual index, 3)) (kk : ∀ (H1 : Heap) (locs1 : List Loc), MemP G nw x' mo H1 → va_S (gA G) s.heap H1 locs1 → W p l e R s m args below meth c H1 locs1 cells slots Q (F0 m (pc + 3) ls (.int r :: rest))) : W p l e R s m args below meth c H locs cells slots Q (F0 m pc ls (.int a1 :: .ref (ga G 25) :: rest)) := mm_ki hS (mm_runV (n := 1) (o := 25) (C := RX0) (T := TX0) (N := 1) (ci := 0) (As := [.int a1]) hx hb hml hown hE hM hS (c_X0_below_25 l fu nw G x x' mo a1 _ hf) (List.forall_mem_cons.mpr ⟨⟨hw, rfl⟩, List.forall_mem_cons.mpr ⟨⟨w_3_60, rfl⟩, List.forall_mem_cons.mpr ⟨⟨w_3_61, rfl⟩, List.forall_mem_cons.mpr ⟨⟨w_1_8, rfl⟩, List.forall_mem_cons.mpr ⟨⟨w_3_62, rfl⟩, fun _ h => absurd h List.not_mem_nil⟩⟩⟩⟩⟩) rfl rfl ⟨rfl, by decide, by decide, by decide +kernel⟩ ⟨h1, h2⟩ rfl rfl rfl hsz rfl hW hdg hcs) kk
def f_X5_addHorse (fu nw : Nat) (x : Me) (a1 : Int32) : Option (Me × Int32) := if (x 15 0) < 16 then if inb (x 15 0) 16 = true then some ((mu (mu (mu x 16 ((x 15 0).toNatClampNeg) a1) 17 ((x 15 0).toNatClampNeg) (vp_nar .boolean 1)) 15 0 ((x 15 0) + 1)), ((x 15 0) + 1) - 1) else none else some (x, (-1))
def rm_X5_addHorse : Room := { frames := 0, cells := 0, slots := 0, locals := 0 }
set_option maxHeartbeats 4000000 in
set_option maxRecDepth 100000 in
theorem c_X5_addHorse (l : Launch) (fu nw : Nat) (G : GG) (x x' mo : Me) (a1 : Int32) (r : Int32) (hf : f_X5_addHorse fu nw x a1 = some (x', r)) : Met l yX5_addHorse [.code yX5_addHorse cX5_addHorse 2 (some .int)] rm_X5_addHorse (va_Pc [.ref (ga G 9), .int a1] (Pre G nw x mo)) (PI G nw x' mo r) 0 0 (gA G) := by
  refine mt_ofW (cc := cX5_addHorse) (maxL := 2) (ret := (some .int)) (by decide +kernel) rfl ?_
  intro p e s m args below meth c s₁ B hml hv
  obtain ⟨rfl, hE, hM⟩ := hv
  have hx := B.exec
  have hb := B.bytes
  have hr := B.returns
  have hown : s.vm.findClass RX5 = some m.cls := findClass_of_methodNamed B.named
  have hlocks := B.notSynchronized
  have hS : va_S (gA G) s.heap s.heap [] := va_S.rf
  have hl := lv_entry ([.ref (ga G 9), .int a1]) (n := 2) (Nat.le_of_ble_eq_true rfl)
  rw [lg_entry_eq]
  generalize (lg_sl ([.ref (ga G 9), .int a1]) ++ List.replicate (2 - (lg_sl ([.ref (ga G 9), .int a1])).length) Slot.unset).toArray = ls at hl ⊢
  have hl : lv_has ls 2 [(0, .ref (ga G 9)), (1, .int a1)] := hl
  generalize ([.ref (ga G 9), .int a1] : List Value).toArray = args
  unfold f_X5_addHorse at hf
  refine lv_aload_n hx hb dX5_addHorse_0 rfl (lv_at hl 0 rfl) ?_
  refine gf_15 hx hb hE hM hown w_1_102 dX5_addHorse_1 ?_
  refine lv_bipush (v := 16) hx hb dX5_addHorse_4 (by decide) ?_
  refine lv_icmp_lt (tgt := 11) hx hb dX5_addHorse_6 (by decide) (fun hc_2 => ?_) (fun hc_2 => ?_)
  · replace hf := i_t hf hc_2
    refine lv_aload_n hx hb dX5_addHorse_11 rfl (lv_at hl 0 rfl) ?_
    refine gr_10 hx hb hE hM hown w_1_104 dX5_addHorse_12 ?_
    refine lv_aload_n hx hb dX5_addHorse_15 rfl (lv_at hl 0 rfl) ?_
    refine gf_15 hx hb hE hM hown w_1_102 dX5_addHorse_16 ?_
    refine lv_iload_n hx hb dX5_addHorse_19 rfl (lv_at hl 1 rfl) ?_
    obtain ⟨hi_1, hf⟩ := i_n hf
    refine sa_10 hx hb hE hM hS hi_1 dX5_addHorse_20 (fun H locs hM hS => ?_)
    refine lv_aload_n hx hb dX5_addHorse_21 rfl (lv_at hl 0 rfl) ?_
    refine gr_11 hx hb hE hM hown w_1_105 dX5_addHorse_22 ?_
    refine lv_aload_n hx hb dX5_addHorse_25 rfl (lv_at hl 0 rfl) ?_
    refine gf_15 hx hb hE hM hown w_1_102 dX5_addHorse_26 ?_
    refine lv_iconst (v := 1) hx hb dX5_addHorse_29 (by decide) ?_
    refine sa_11 hx hb hE hM hS hi_1 dX5_addHorse_30 (fun H locs hM hS => ?_)
    refine lv_aload_n hx hb dX5_addHorse_31 rfl (lv_at hl 0 rfl) ?_
    refine lv_dup hx hb dX5_addHorse_32 rfl ?_
    refine gf_15 hx hb hE hM hown w_1_102 dX5_addHorse_33 ?_
    refine lv_iconst (v := 1) hx hb dX5_addHorse_36 (by decide) ?_
    refine lv_iadd hx hb dX5_addHorse_37 ?_
    refine pf_15 hx hb hE hM hS hown w_1_102 dX5_addHorse_38 (fun H locs hM hS => ?_)
    refine lv_aload_n hx hb dX5_addHorse_41 rfl (lv_at hl 0 rfl) ?_
    refine gf_15 hx hb hE hM hown w_1_102 dX5_addHorse_42 ?_
    refine lv_iconst (v := 1) hx hb dX5_addHorse_45 (by decide) ?_
    refine lv_isub hx hb dX5_addHorse_46 ?_
    exact rt_iX hx hb hr hf hM hS dX5_addHorse_47 hlocks
  · replace hf := i_f hf hc_2
    refine lv_iconst (v := (-1)) hx hb dX5_addHorse_9 (by decide) ?_
    exact rt_iX hx hb hr hf hM hS dX5_addHorse_10 hlocks
theorem k_X5_addHorse {p : Program} {l : Launch} {e : Env} {R : Room} {s : State} {m : MethodId} {args : Array Value} {below : List Frame} {meth : Method} {c : Code} {H : Heap} {locs : List Loc} {cells slots : Nat} {Q : State → Prop} {cc : ByteArray} {pc nL : Nat} {ls : Array Slot} {rest : List Value} {G : GG} {fu nw : Nat} {x x' mo : Me} {own : String} {index : Nat} {a1 : Int32} {r : Int32} (hx : p.tables.exec = Jvm.exec) (hb : c.code = cc) (hml : c.maxLocals = nL) (hown : s.vm.findClass own = some m.cls) (hE : EnvP G s) (hM : MemP G nw x mo H) (hS : va_S (gA G) s.heap H locs) (hw : Cond.methodLink own index yX5_addHorse ∈ lw_tbl) (hf : f_X5_addHorse fu nw x a1 = some (x', r)) (h1 : 0 + 1 ≤ R.frames) (h2 : 8 + (2 + 11) + 0 ≤ R.locals) (hsz : ls.size = nL) (hW : (rest.map fun v => v.category).sum ≤ 8) (hcs : cells ≤ R.cells ∧ slots ≤ R.slots) (hdg : decode cc pc = .ok (.invokevirtual index, 3)) (kk : ∀ (H1 : Heap) (locs1 : List Loc), MemP G nw x' mo H1 → va_S (gA G) s.heap H1 locs1 → W p l e R s m args below meth c H1 locs1 cells slots Q (F0 m (pc + 3) ls (.int r :: rest))) : W p l e R s m args below meth c H locs cells slots Q (F0 m pc ls (.int a1 :: .ref (ga G 9) :: rest)) := mm_ki hS (mm_runV (n := 1) (o := 9) (C := RX5) (T := TX5) (N := 5) (ci := 5) (As := [.int a1]) hx hb hml hown hE hM hS (c_X5_addHorse l fu nw G x x' mo a1 _ hf) (List.forall_mem_cons.mpr ⟨⟨hw, rfl⟩, List.forall_mem_cons.mpr ⟨⟨w_3_23, rfl⟩, List.forall_mem_cons.mpr ⟨⟨w_3_24, rfl⟩, List.forall_mem_cons.mpr ⟨⟨w_1_5, rfl⟩, List.forall_mem_cons.mpr ⟨⟨w_3_25, rfl⟩, fun _ h => absurd h List.not_mem_nil⟩⟩⟩⟩⟩) rfl rfl ⟨rfl, by decide, by decide, by decide +kernel⟩ ⟨h1, h2⟩ rfl rfl rfl hsz rfl hW hdg hcs) kk
def f_X5_has (fu nw : Nat) (x : Me) (a1 : Int32) : Option (Me × Int32) := if a1 < 0 then some (x, 0) else if (x 15 0) ≤ a1 then some (x, 0) else some (x, 1)
def rm_X5_has : Room := { frames := 0, cells := 0, slots := 0, locals := 0 }
set_option maxHeartbeats 4000000 in
set_option maxRecDepth 100000 in
theorem c_X5_has (l : Launch) (fu nw : Nat) (G : GG) (x x' mo : Me) (a1 : Int32) (r : Int32) (hf : f_X5_has fu nw x a1 = some (x', r)) : Met l yX5_has [.code yX5_has cX5_has 2 (some .boolean)] rm_X5_has (va_Pc [.ref (ga G 9), .int a1] (Pre G nw x mo)) (PI G nw x' mo r) 0 0 (gA G) := by
  refine mt_ofW (cc := cX5_has) (maxL := 2) (ret := (some .boolean)) (by decide +kernel) rfl ?_
  intro p e s m args below meth c s₁ B hml hv
  obtain ⟨rfl, hE, hM⟩ := hv
  have hx := B.exec
  have hb := B.bytes
  have hr := B.returns
  have hown : s.vm.findClass RX5 = some m.cls := findClass_of_methodNamed B.named
  have hlocks := B.notSynchronized
  have hS : va_S (gA G) s.heap s.heap [] := va_S.rf
  have hl := lv_entry ([.ref (ga G 9), .int a1]) (n := 2) (Nat.le_of_ble_eq_true rfl)
  rw [lg_entry_eq]
  generalize (lg_sl ([.ref (ga G 9), .int a1]) ++ List.replicate (2 - (lg_sl ([.ref (ga G 9), .int a1])).length) Slot.unset).toArray = ls at hl ⊢
  have hl : lv_has ls 2 [(0, .ref (ga G 9)), (1, .int a1)] := hl
  generalize ([.ref (ga G 9), .int a1] : List Value).toArray = args
  unfold f_X5_has at hf
  refine lv_iload_n hx hb dX5_has_0 rfl (lv_at hl 1 rfl) ?_
  refine lv_if_lt (tgt := 16) hx hb dX5_has_1 (by decide) (fun hc_2 => ?_) (fun hc_2 => ?_)
  · replace hf := i_t hf hc_2
    refine lv_iconst (v := 0) hx hb dX5_has_16 (by decide) ?_
    exact rt_zX hx hb hr rfl hf hM hS dX5_has_17 hlocks
  · replace hf := i_f hf hc_2
    refine lv_iload_n hx hb dX5_has_4 rfl (lv_at hl 1 rfl) ?_
    refine lv_aload_n hx hb dX5_has_5 rfl (lv_at hl 0 rfl) ?_
    refine gf_15 hx hb hE hM hown w_1_102 dX5_has_6 ?_
    refine lv_icmp_ge (tgt := 16) hx hb dX5_has_9 (by decide) (fun hc_1 => ?_) (fun hc_1 => ?_)
    · replace hf := i_t hf hc_1
      refine lv_iconst (v := 0) hx hb dX5_has_16 (by decide) ?_
      exact rt_zX hx hb hr rfl hf hM hS dX5_has_17 hlocks
    · replace hf := i_f hf hc_1
      refine lv_iconst (v := 1) hx hb dX5_has_12 (by decide) ?_
      refine lv_goto (tgt := 17) hx hb dX5_has_13 (by decide) ?_
      exact rt_zX hx hb hr rfl hf hM hS dX5_has_17 hlocks
theorem k_X5_has {p : Program} {l : Launch} {e : Env} {R : Room} {s : State} {m : MethodId} {args : Array Value} {below : List Frame} {meth : Method} {c : Code} {H : Heap} {locs : List Loc} {cells slots : Nat} {Q : State → Prop} {cc : ByteArray} {pc nL : Nat} {ls : Array Slot} {rest : List Value} {G : GG} {fu nw : Nat} {x x' mo : Me} {own : String} {index : Nat} {a1 : Int32} {r : Int32} (hx : p.tables.exec = Jvm.exec) (hb : c.code = cc) (hml : c.maxLocals = nL) (hown : s.vm.findClass own = some m.cls) (hE : EnvP G s) (hM : MemP G nw x mo H) (hS : va_S (gA G) s.heap H locs) (hw : Cond.methodLink own index yX5_has ∈ lw_tbl) (hf : f_X5_has fu nw x a1 = some (x', r)) (h1 : 0 + 1 ≤ R.frames) (h2 : 8 + (2 + 11) + 0 ≤ R.locals) (hsz : ls.size = nL) (hW : (rest.map fun v => v.category).sum ≤ 8) (hcs : cells ≤ R.cells ∧ slots ≤ R.slots) (hdg : decode cc pc = .ok (.invokevirtual index, 3)) (kk : ∀ (H1 : Heap) (locs1 : List Loc), MemP G nw x' mo H1 → va_S (gA G) s.heap H1 locs1 → W p l e R s m args below meth c H1 locs1 cells slots Q (F0 m (pc + 3) ls (.int r :: rest))) : W p l e R s m args below meth c H locs cells slots Q (F0 m pc ls (.int a1 :: .ref (ga G 9) :: rest)) := mm_ki hS (mm_runV (n := 1) (o := 9) (C := RX5) (T := TX5) (N := 5) (ci := 5) (As := [.int a1]) hx hb hml hown hE hM hS (c_X5_has l fu nw G x x' mo a1 _ hf) (List.forall_mem_cons.mpr ⟨⟨hw, rfl⟩, List.forall_mem_cons.mpr ⟨⟨w_3_31, rfl⟩, List.forall_mem_cons.mpr ⟨⟨w_3_32, rfl⟩, List.forall_mem_cons.mpr ⟨⟨w_1_5, rfl⟩, List.forall_mem_cons.mpr ⟨⟨w_3_33, rfl⟩, fun _ h => absurd h List.not_mem_nil⟩⟩⟩⟩⟩) rfl rfl ⟨rfl, by decide, by decide, by decide +kernel⟩ ⟨h1, h2⟩ rfl rfl rfl hsz rfl hW hdg hcs) kk
def f_X5_markOf (fu nw : Nat) (x : Me) (a1 : Int32) : Option (Me × Int32) := ob (f_X5_has fu nw x a1) (fun x_1 r_1 => if r_1 = 0 then some (x_1, 0) else if inb a1 16 = true then some (x_1, x_1 16 a1.toNatClampNeg) else none)
def rm_X5_markOf : Room := { frames := 1, cells := 0, slots := 0, locals := 21 }
set_option maxHeartbeats 4000000 in
set_option maxRecDepth 100000 in
theorem c_X5_markOf (l : Launch) (fu nw : Nat) (G : GG) (x x' mo : Me) (a1 : Int32) (r : Int32) (hf : f_X5_markOf fu nw x a1 = some (x', r)) : Met l yX5_markOf [.code yX5_markOf cX5_markOf 2 (some .int)] rm_X5_markOf (va_Pc [.ref (ga G 9), .int a1] (Pre G nw x mo)) (PI G nw x' mo r) 0 0 (gA G) := by
  refine mt_ofW (cc := cX5_markOf) (maxL := 2) (ret := (some .int)) (by decide +kernel) rfl ?_
  intro p e s m args below meth c s₁ B hml hv
  obtain ⟨rfl, hE, hM⟩ := hv
  have hx := B.exec
  have hb := B.bytes
  have hr := B.returns
  have hown : s.vm.findClass RX5 = some m.cls := findClass_of_methodNamed B.named
  have hlocks := B.notSynchronized
  have hS : va_S (gA G) s.heap s.heap [] := va_S.rf
  have hl := lv_entry ([.ref (ga G 9), .int a1]) (n := 2) (Nat.le_of_ble_eq_true rfl)
  rw [lg_entry_eq]
  generalize (lg_sl ([.ref (ga G 9), .int a1]) ++ List.replicate (2 - (lg_sl ([.ref (ga G 9), .int a1])).length) Slot.unset).toArray = ls at hl ⊢
  have hl : lv_has ls 2 [(0, .ref (ga G 9)), (1, .int a1)] := hl
  generalize ([.ref (ga G 9), .int a1] : List Value).toArray = args
  unfold f_X5_markOf at hf
  refine lv_aload_n hx hb dX5_markOf_0 rfl (lv_at hl 0 rfl) ?_
  refine lv_iload_n hx hb dX5_markOf_1 rfl (lv_at hl 1 rfl) ?_
  obtain ⟨x_1, r_1, hq_1, hf⟩ := ob_some hf
  refine k_X5_has hx hb hml hown hE hM hS w_3_205 hq_1 (Nat.le_of_ble_eq_true rfl) (Nat.le_of_ble_eq_true rfl) hl.1 (Nat.le_of_ble_eq_true rfl) ⟨Nat.zero_le _, Nat.zero_le _⟩ dX5_markOf_2 (fun H locs hM hS => ?_)
  refine lv_if_eq (tgt := 17) hx hb dX5_markOf_5 (by decide) (fun hc_3 => ?_) (fun hc_3 => ?_)
  · replace hf := i_t hf hc_3
    refine lv_iconst (v := 0) hx hb dX5_markOf_17 (by decide) ?_
    exact rt_iX hx hb hr hf hM hS dX5_markOf_18 hlocks
  · replace hf := i_f hf hc_3
    refine lv_aload_n hx hb dX5_markOf_8 rfl (lv_at hl 0 rfl) ?_
    refine gr_10 hx hb hE hM hown w_1_104 dX5_markOf_9 ?_
    refine lv_iload_n hx hb dX5_markOf_12 rfl (lv_at hl 1 rfl) ?_
    obtain ⟨hi_2, hf⟩ := i_n hf
    refine la_10 hx hb hE hM hi_2 dX5_markOf_13 ?_
    refine lv_goto (tgt := 18) hx hb dX5_markOf_14 (by decide) ?_
    exact rt_iX hx hb hr hf hM hS dX5_markOf_18 hlocks
theorem k_X5_markOf {p : Program} {l : Launch} {e : Env} {R : Room} {s : State} {m : MethodId} {args : Array Value} {below : List Frame} {meth : Method} {c : Code} {H : Heap} {locs : List Loc} {cells slots : Nat} {Q : State → Prop} {cc : ByteArray} {pc nL : Nat} {ls : Array Slot} {rest : List Value} {G : GG} {fu nw : Nat} {x x' mo : Me} {own : String} {index : Nat} {a1 : Int32} {r : Int32} (hx : p.tables.exec = Jvm.exec) (hb : c.code = cc) (hml : c.maxLocals = nL) (hown : s.vm.findClass own = some m.cls) (hE : EnvP G s) (hM : MemP G nw x mo H) (hS : va_S (gA G) s.heap H locs) (hw : Cond.methodLink own index yX5_markOf ∈ lw_tbl) (hf : f_X5_markOf fu nw x a1 = some (x', r)) (h1 : 1 + 1 ≤ R.frames) (h2 : 8 + (2 + 11) + 21 ≤ R.locals) (hsz : ls.size = nL) (hW : (rest.map fun v => v.category).sum ≤ 8) (hcs : cells ≤ R.cells ∧ slots ≤ R.slots) (hdg : decode cc pc = .ok (.invokevirtual index, 3)) (kk : ∀ (H1 : Heap) (locs1 : List Loc), MemP G nw x' mo H1 → va_S (gA G) s.heap H1 locs1 → W p l e R s m args below meth c H1 locs1 cells slots Q (F0 m (pc + 3) ls (.int r :: rest))) : W p l e R s m args below meth c H locs cells slots Q (F0 m pc ls (.int a1 :: .ref (ga G 9) :: rest)) := mm_ki hS (mm_runV (n := 1) (o := 9) (C := RX5) (T := TX5) (N := 5) (ci := 5) (As := [.int a1]) hx hb hml hown hE hM hS (c_X5_markOf l fu nw G x x' mo a1 _ hf) (List.forall_mem_cons.mpr ⟨⟨hw, rfl⟩, List.forall_mem_cons.mpr ⟨⟨w_3_202, rfl⟩, List.forall_mem_cons.mpr ⟨⟨w_3_203, rfl⟩, List.forall_mem_cons.mpr ⟨⟨w_1_5, rfl⟩, List.forall_mem_cons.mpr ⟨⟨w_3_204, rfl⟩, fun _ h => absurd h List.not_mem_nil⟩⟩⟩⟩⟩) rfl rfl ⟨rfl, by decide, by decide, by decide +kernel⟩ ⟨h1, h2⟩ rfl rfl rfl hsz rfl hW hdg hcs) kk
def f_X5_fillTried_6 (fu nw : Nat) (b1 : Int32) (b2 : Int32) (b3 : Int32) (k : Me → Int32 → Option (Me × Int32)) : Nat → Me → Int32 → Int32 → Option (Me × Int32)
  | 0 => fun _ _ _ => none
  | n + 1 => fun x a4 a5 => if (x 15 0) ≤ a5 then k x a4 else if b1 ≤ a4 then k x a4 else if 10 ≤ a4 then k x a4 else if inb a5 16 = true then if (x 17 a5.toNatClampNeg) = 0 then f_X5_fillTried_6 fu nw b1 b2 b3 k n x a4 (a5 + 1) else if (x 16 a5.toNatClampNeg) < b2 then f_X5_fillTried_6 fu nw b1 b2 b3 k n x a4 (a5 + 1) else if b3 < (x 16 a5.toNatClampNeg) then f_X5_fillTried_6 fu nw b1 b2 b3 k n x a4 (a5 + 1) else if inb a4 10 = true then f_X5_fillTried_6 fu nw b1 b2 b3 k n (mu x 19 a4.toNatClampNeg a5) (a4 + 1) (a5 + 1) else none else none
def f_X5_fillTried (fu nw : Nat) (x : Me) (a1 : Int32) (a2 : Int32) (a3 : Int32) : Option (Me × Int32) := f_X5_fillTried_6 fu nw a1 a2 a3 (fun (x_9 : Me) (a4_9 : Int32) => if a4_9 = a1 then some (x_9, 1) else some (x_9, 0)) fu x 0 0
def rm_X5_fillTried : Room := { frames := 0, cells := 0, slots := 0, locals := 0 }
set_option maxHeartbeats 4000000 in
set_option maxRecDepth 100000 in
theorem wk_X5_fillTried_6 {p : Program} {l : Launch} {e : Env} {s : State} {m : MethodId} {args : Array Value} {below : List Frame} {meth : Method} {c : Code} {fu nw : Nat} {G : GG} {mo : Me} {b1 : Int32} {b2 : Int32} {b3 : Int32} (hx : p.tables.exec = Jvm.exec) (hb : c.code = cX5_fillTried) (hml : c.maxLocals = 6) (hown : s.vm.findClass RX5 = some m.cls) (hE : EnvP G s) (hr : meth.sig.returnType = (some .boolean)) (hlocks : meth.locks = false) {x' : Me} {r : Int32} {k : Me → Int32 → Option (Me × Int32)} (hk : ∀ (x : Me) (a4 : Int32) (H : Heap) (locs : List Loc) (ls : Array Slot), k x a4 = some (x', r) → MemP G nw x mo H → va_S (gA G) s.heap H locs → lv_has ls 6 [(1, .int b1), (4, .int a4)] → W p l e rm_X5_fillTried s m args below meth c H locs 0 0 (MQ below (PI G nw x' mo r) args s 0 0 (gA G)) (F0 m 78 ls [])) : ∀ (n : Nat) (x : Me) (a4 : Int32) (a5 : Int32) (H : Heap) (locs : List Loc) (ls : Array Slot), f_X5_fillTried_6 fu nw b1 b2 b3 k n x a4 a5 = some (x', r) → MemP G nw x mo H → va_S (gA G) s.heap H locs → lv_has ls 6 [(0, .ref (ga G 9)), (1, .int b1), (2, .int b2), (3, .int b3), (4, .int a4), (5, .int a5)] → W p l e rm_X5_fillTried s m args below meth c H locs 0 0 (MQ below (PI G nw x' mo r) args s 0 0 (gA G)) (F0 m 6 ls []) := by
  intro n
  induction n with
  | zero =>
    intro x a4 a5 H locs ls hf hM hS hl
    exact nn hf
  | succ n ih =>
    intro x a4 a5 H locs ls hf hM hS hl
    rw [f_X5_fillTried_6] at hf
    refine lv_iload hx hb dX5_fillTried_6 (lv_at hl 5 rfl) ?_
    refine lv_aload_n hx hb dX5_fillTried_8 rfl (lv_at hl 0 rfl) ?_
    refine gf_15 hx hb hE hM hown w_1_102 dX5_fillTried_9 ?_
    refine lv_icmp_ge (tgt := 78) hx hb dX5_fillTried_12 (by decide) (fun hc_8 => ?_) (fun hc_8 => ?_)
    · replace hf := i_t hf hc_8
      exact hk x a4 _ _ _ hf hM hS (lv_sub hl [1, 4] rfl)
    · replace hf := i_f hf hc_8
      refine lv_iload hx hb dX5_fillTried_15 (lv_at hl 4 rfl) ?_
      refine lv_iload_n hx hb dX5_fillTried_17 rfl (lv_at hl 1 rfl) ?_
      refine lv_icmp_ge (tgt := 78) hx hb dX5_fillTried_18 (by decide) (fun hc_7 => ?_) (fun hc_7 => ?_)
      · replace hf := i_t hf hc_7
        exact hk x a4 _ _ _ hf hM hS (lv_sub hl [1, 4] rfl)
      · replace hf := i_f hf hc_7
        refine lv_iload hx hb dX5_fillTried_21 (lv_at hl 4 rfl) ?_
        refine lv_bipush (v := 10) hx hb dX5_fillTried_23 (by decide) ?_
        refine lv_icmp_ge (tgt := 78) hx hb dX5_fillTried_25 (by decide) (fun hc_6 => ?_) (fun hc_6 => ?_)
        · replace hf := i_t hf hc_6
          exact hk x a4 _ _ _ hf hM hS (lv_sub hl [1, 4] rfl)
        · replace hf := i_f hf hc_6
          refine lv_aload_n hx hb dX5_fillTried_28 rfl (lv_at hl 0 rfl) ?_
          refine gr_11 hx hb hE hM hown w_1_105 dX5_fillTried_29 ?_
          refine lv_iload hx hb dX5_fillTried_32 (lv_at hl 5 rfl) ?_
          obtain ⟨hi_1, hf⟩ := i_n hf
          refine la_11 hx hb hE hM hi_1 dX5_fillTried_34 ?_
          refine lv_if_eq (tgt := 72) hx hb dX5_fillTried_35 (by decide) (fun hc_5 => ?_) (fun hc_5 => ?_)
          · replace hf := i_t hf hc_5
            refine lv_iinc (v := a5 + 1) (lv' := [(5, .int (a5 + 1)), (0, .ref (ga G 9)), (1, .int b1), (2, .int b2), (3, .int b3), (4, .int a4)]) hx hb dX5_fillTried_72 hl (k := 5) rfl rfl (by decide) rfl (fun ls hl => ?_)
            refine lv_goto (tgt := 6) hx hb dX5_fillTried_75 (by decide) ?_
            exact ih x a4 (a5 + 1) _ _ _ hf hM hS (lv_sub hl [1, 2, 3, 4, 5, 0] rfl)
          · replace hf := i_f hf hc_5
            refine lv_aload_n hx hb dX5_fillTried_38 rfl (lv_at hl 0 rfl) ?_
            refine gr_10 hx hb hE hM hown w_1_104 dX5_fillTried_39 ?_
            refine lv_iload hx hb dX5_fillTried_42 (lv_at hl 5 rfl) ?_
            refine la_10 hx hb hE hM hi_1 dX5_fillTried_44 ?_
            refine lv_iload_n hx hb dX5_fillTried_45 rfl (lv_at hl 2 rfl) ?_
            refine lv_icmp_lt (tgt := 72) hx hb dX5_fillTried_46 (by decide) (fun hc_4 => ?_) (fun hc_4 => ?_)
            · replace hf := i_t hf hc_4
              refine lv_iinc (v := a5 + 1) (lv' := [(5, .int (a5 + 1)), (0, .ref (ga G 9)), (1, .int b1), (2, .int b2), (3, .int b3), (4, .int a4)]) hx hb dX5_fillTried_72 hl (k := 5) rfl rfl (by decide) rfl (fun ls hl => ?_)
              refine lv_goto (tgt := 6) hx hb dX5_fillTried_75 (by decide) ?_
              exact ih x a4 (a5 + 1) _ _ _ hf hM hS (lv_sub hl [1, 2, 3, 4, 5, 0] rfl)
            · replace hf := i_f hf hc_4
              refine lv_aload_n hx hb dX5_fillTried_49 rfl (lv_at hl 0 rfl) ?_
              refine gr_10 hx hb hE hM hown w_1_104 dX5_fillTried_50 ?_
              refine lv_iload hx hb dX5_fillTried_53 (lv_at hl 5 rfl) ?_
              refine la_10 hx hb hE hM hi_1 dX5_fillTried_55 ?_
              refine lv_iload_n hx hb dX5_fillTried_56 rfl (lv_at hl 3 rfl) ?_
              refine lv_icmp_gt (tgt := 72) hx hb dX5_fillTried_57 (by decide) (fun hc_3 => ?_) (fun hc_3 => ?_)
              · replace hf := i_t hf hc_3
                refine lv_iinc (v := a5 + 1) (lv' := [(5, .int (a5 + 1)), (0, .ref (ga G 9)), (1, .int b1), (2, .int b2), (3, .int b3), (4, .int a4)]) hx hb dX5_fillTried_72 hl (k := 5) rfl rfl (by decide) rfl (fun ls hl => ?_)
                refine lv_goto (tgt := 6) hx hb dX5_fillTried_75 (by decide) ?_
                exact ih x a4 (a5 + 1) _ _ _ hf hM hS (lv_sub hl [1, 2, 3, 4, 5, 0] rfl)
              · replace hf := i_f hf hc_3
                refine lv_aload_n hx hb dX5_fillTried_60 rfl (lv_at hl 0 rfl) ?_
                refine gr_13 hx hb hE hM hown w_1_109 dX5_fillTried_61 ?_
                refine lv_iload hx hb dX5_fillTried_64 (lv_at hl 4 rfl) ?_
                refine lv_iload hx hb dX5_fillTried_66 (lv_at hl 5 rfl) ?_
                obtain ⟨hi_2, hf⟩ := i_n hf
                refine sa_13 hx hb hE hM hS hi_2 dX5_fillTried_68 (fun H locs hM hS => ?_)
                refine lv_iinc (v := a4 + 1) (lv' := [(4, .int (a4 + 1)), (0, .ref (ga G 9)), (1, .int b1), (2, .int b2), (3, .int b3), (5, .int a5)]) hx hb dX5_fillTried_69 hl (k := 4) rfl rfl (by decide) rfl (fun ls hl => ?_)
                refine lv_iinc (v := a5 + 1) (lv' := [(5, .int (a5 + 1)), (4, .int (a4 + 1)), (0, .ref (ga G 9)), (1, .int b1), (2, .int b2), (3, .int b3)]) hx hb dX5_fillTried_72 hl (k := 5) rfl rfl (by decide) rfl (fun ls hl => ?_)
                refine lv_goto (tgt := 6) hx hb dX5_fillTried_75 (by decide) ?_
                exact ih (mu x 19 a4.toNatClampNeg a5) (a4 + 1) (a5 + 1) _ _ _ hf hM hS (lv_sub hl [2, 3, 4, 5, 1, 0] rfl)
set_option maxHeartbeats 4000000 in
set_option maxRecDepth 100000 in
theorem c_X5_fillTried (l : Launch) (fu nw : Nat) (G : GG) (x x' mo : Me) (a1 : Int32) (a2 : Int32) (a3 : Int32) (r : Int32) (hf : f_X5_fillTried fu nw x a1 a2 a3 = some (x', r)) : Met l yX5_fillTried [.code yX5_fillTried cX5_fillTried 6 (some .boolean)] rm_X5_fillTried (va_Pc [.ref (ga G 9), .int a1, .int a2, .int a3] (Pre G nw x mo)) (PI G nw x' mo r) 0 0 (gA G) := by
  refine mt_ofW (cc := cX5_fillTried) (maxL := 6) (ret := (some .boolean)) (by decide +kernel) rfl ?_
  intro p e s m args below meth c s₁ B hml hv
  obtain ⟨rfl, hE, hM⟩ := hv
  have hx := B.exec
  have hb := B.bytes
  have hr := B.returns
  have hown : s.vm.findClass RX5 = some m.cls := findClass_of_methodNamed B.named
  have hlocks := B.notSynchronized
  have hS : va_S (gA G) s.heap s.heap [] := va_S.rf
  have hl := lv_entry ([.ref (ga G 9), .int a1, .int a2, .int a3]) (n := 6) (Nat.le_of_ble_eq_true rfl)
  rw [lg_entry_eq]
  generalize (lg_sl ([.ref (ga G 9), .int a1, .int a2, .int a3]) ++ List.replicate (6 - (lg_sl ([.ref (ga G 9), .int a1, .int a2, .int a3])).length) Slot.unset).toArray = ls at hl ⊢
  have hl : lv_has ls 6 [(0, .ref (ga G 9)), (1, .int a1), (2, .int a2), (3, .int a3)] := hl
  generalize ([.ref (ga G 9), .int a1, .int a2, .int a3] : List Value).toArray = args
  unfold f_X5_fillTried at hf
  refine lv_iconst (v := 0) hx hb dX5_fillTried_0 (by decide) ?_
  refine lv_istore (lv' := [(4, .int 0), (0, .ref (ga G 9)), (1, .int a1), (2, .int a2), (3, .int a3)]) hx hb dX5_fillTried_1 hl (by decide) rfl (fun ls hl => ?_)
  refine lv_iconst (v := 0) hx hb dX5_fillTried_3 (by decide) ?_
  refine lv_istore (lv' := [(5, .int 0), (4, .int 0), (0, .ref (ga G 9)), (1, .int a1), (2, .int a2), (3, .int a3)]) hx hb dX5_fillTried_4 hl (by decide) rfl (fun ls hl => ?_)
  refine wk_X5_fillTried_6 hx hb hml hown hE hr hlocks ?_ fu x 0 0 _ _ _ hf hM hS (lv_sub hl [2, 3, 4, 5, 1, 0] rfl)
  intro x_9 a4_9 H locs ls hf hM hS hl
  refine lv_iload hx hb dX5_fillTried_78 (lv_at hl 1 rfl) ?_
  refine lv_iload_n hx hb dX5_fillTried_80 rfl (lv_at hl 0 rfl) ?_
  refine lv_icmp_ne (tgt := 88) hx hb dX5_fillTried_81 (by decide) (fun hc_10 => ?_) (fun hc_10 => ?_)
  · replace hf := i_f hf hc_10
    refine lv_iconst (v := 0) hx hb dX5_fillTried_88 (by decide) ?_
    exact rt_zX hx hb hr rfl hf hM hS dX5_fillTried_89 hlocks
  · replace hf := i_t hf hc_10
    refine lv_iconst (v := 1) hx hb dX5_fillTried_84 (by decide) ?_
    refine lv_goto (tgt := 89) hx hb dX5_fillTried_85 (by decide) ?_
    exact rt_zX hx hb hr rfl hf hM hS dX5_fillTried_89 hlocks
theorem k_X5_fillTried {p : Program} {l : Launch} {e : Env} {R : Room} {s : State} {m : MethodId} {args : Array Value} {below : List Frame} {meth : Method} {c : Code} {H : Heap} {locs : List Loc} {cells slots : Nat} {Q : State → Prop} {cc : ByteArray} {pc nL : Nat} {ls : Array Slot} {rest : List Value} {G : GG} {fu nw : Nat} {x x' mo : Me} {own : String} {index : Nat} {a1 : Int32} {a2 : Int32} {a3 : Int32} {r : Int32} (hx : p.tables.exec = Jvm.exec) (hb : c.code = cc) (hml : c.maxLocals = nL) (hown : s.vm.findClass own = some m.cls) (hE : EnvP G s) (hM : MemP G nw x mo H) (hS : va_S (gA G) s.heap H locs) (hw : Cond.methodLink own index yX5_fillTried ∈ lw_tbl) (hf : f_X5_fillTried fu nw x a1 a2 a3 = some (x', r)) (h1 : 0 + 1 ≤ R.frames) (h2 : 8 + (6 + 11) + 0 ≤ R.locals) (hsz : ls.size = nL) (hW : (rest.map fun v => v.category).sum ≤ 8) (hcs : cells ≤ R.cells ∧ slots ≤ R.slots) (hdg : decode cc pc = .ok (.invokevirtual index, 3)) (kk : ∀ (H1 : Heap) (locs1 : List Loc), MemP G nw x' mo H1 → va_S (gA G) s.heap H1 locs1 → W p l e R s m args below meth c H1 locs1 cells slots Q (F0 m (pc + 3) ls (.int r :: rest))) : W p l e R s m args below meth c H locs cells slots Q (F0 m pc ls (.int a3 :: .int a2 :: .int a1 :: .ref (ga G 9) :: rest)) := mm_ki hS (mm_runV (n := 3) (o := 9) (C := RX5) (T := TX5) (N := 5) (ci := 5) (As := [.int a1, .int a2, .int a3]) hx hb hml hown hE hM hS (c_X5_fillTried l fu nw G x x' mo a1 a2 a3 _ hf) (List.forall_mem_cons.mpr ⟨⟨hw, rfl⟩, List.forall_mem_cons.mpr ⟨⟨w_3_94, rfl⟩, List.forall_mem_cons.mpr ⟨⟨w_0_10, rfl⟩, List.forall_mem_cons.mpr ⟨⟨w_1_5, rfl⟩, List.forall_mem_cons.mpr ⟨⟨w_3_95, rfl⟩, fun _ h => absurd h List.not_mem_nil⟩⟩⟩⟩⟩) rfl rfl ⟨rfl, by decide, by decide, by decide +kernel⟩ ⟨h1, h2⟩ rfl rfl rfl hsz rfl hW hdg hcs) kk
def f_X5_triedIsAhead_2 (fu nw : Nat) (b1 : Int32) (k : Me → Option (Me × Int32)) : Nat → Me → Int32 → Option (Me × Int32)
  | 0 => fun _ _ => none
  | n + 1 => fun x a2 => if b1 ≤ a2 then k x else if 10 ≤ a2 then k x else if inb a2 10 = true then if (x 19 a2.toNatClampNeg) = (x 18 a2.toNatClampNeg) then f_X5_triedIsAhead_2 fu nw b1 k n x (a2 + 1) else if (x 18 a2.toNatClampNeg) ≤ (x 19 a2.toNatClampNeg) then some (x, 0) else some (x, 1) else none
def f_X5_triedIsAhead (fu nw : Nat) (x : Me) (a1 : Int32) : Option (Me × Int32) := f_X5_triedIsAhead_2 fu nw a1 (fun (x_6 : Me) => some (x_6, 0)) fu x 0
def rm_X5_triedIsAhead : Room := { frames := 0, cells := 0, slots := 0, locals := 0 }
set_option maxHeartbeats 4000000 in
set_option maxRecDepth 100000 in
theorem wk_X5_triedIsAhead_2 {p : Program} {l : Launch} {e : Env} {s : State} {m : MethodId} {args : Array Value} {below : List Frame} {meth : Method} {c : Code} {fu nw : Nat} {G : GG} {mo : Me} {b1 : Int32} (hx : p.tables.exec = Jvm.exec) (hb : c.code = cX5_triedIsAhead) (hml : c.maxLocals = 3) (hown : s.vm.findClass RX5 = some m.cls) (hE : EnvP G s) (hr : meth.sig.returnType = (some .boolean)) (hlocks : meth.locks = false) {x' : Me} {r : Int32} {k : Me → Option (Me × Int32)} (hk : ∀ (x : Me) (H : Heap) (locs : List Loc) (ls : Array Slot), k x = some (x', r) → MemP G nw x mo H → va_S (gA G) s.heap H locs → lv_has ls 3 [] → W p l e rm_X5_triedIsAhead s m args below meth c H locs 0 0 (MQ below (PI G nw x' mo r) args s 0 0 (gA G)) (F0 m 55 ls [])) : ∀ (n : Nat) (x : Me) (a2 : Int32) (H : Heap) (locs : List Loc) (ls : Array Slot), f_X5_triedIsAhead_2 fu nw b1 k n x a2 = some (x', r) → MemP G nw x mo H → va_S (gA G) s.heap H locs → lv_has ls 3 [(0, .ref (ga G 9)), (1, .int b1), (2, .int a2)] → W p l e rm_X5_triedIsAhead s m args below meth c H locs 0 0 (MQ below (PI G nw x' mo r) args s 0 0 (gA G)) (F0 m 2 ls []) := by
  intro n
  induction n with
  | zero =>
    intro x a2 H locs ls hf hM hS hl
    exact nn hf
  | succ n ih =>
    intro x a2 H locs ls hf hM hS hl
    rw [f_X5_triedIsAhead_2] at hf
    refine lv_iload_n hx hb dX5_triedIsAhead_2 rfl (lv_at hl 2 rfl) ?_
    refine lv_iload_n hx hb dX5_triedIsAhead_3 rfl (lv_at hl 1 rfl) ?_
    refine lv_icmp_ge (tgt := 55) hx hb dX5_triedIsAhead_4 (by decide) (fun hc_5 => ?_) (fun hc_5 => ?_)
    · replace hf := i_t hf hc_5
      exact hk x _ _ _ hf hM hS (lv_sub hl [] rfl)
    · replace hf := i_f hf hc_5
      refine lv_iload_n hx hb dX5_triedIsAhead_7 rfl (lv_at hl 2 rfl) ?_
      refine lv_bipush (v := 10) hx hb dX5_triedIsAhead_8 (by decide) ?_
      refine lv_icmp_ge (tgt := 55) hx hb dX5_triedIsAhead_10 (by decide) (fun hc_4 => ?_) (fun hc_4 => ?_)
      · replace hf := i_t hf hc_4
        exact hk x _ _ _ hf hM hS (lv_sub hl [] rfl)
      · replace hf := i_f hf hc_4
        refine lv_aload_n hx hb dX5_triedIsAhead_13 rfl (lv_at hl 0 rfl) ?_
        refine gr_13 hx hb hE hM hown w_1_109 dX5_triedIsAhead_14 ?_
        refine lv_iload_n hx hb dX5_triedIsAhead_17 rfl (lv_at hl 2 rfl) ?_
        obtain ⟨hi_1, hf⟩ := i_n hf
        refine la_13 hx hb hE hM hi_1 dX5_triedIsAhead_18 ?_
        refine lv_aload_n hx hb dX5_triedIsAhead_19 rfl (lv_at hl 0 rfl) ?_
        refine gr_12 hx hb hE hM hown w_1_107 dX5_triedIsAhead_20 ?_
        refine lv_iload_n hx hb dX5_triedIsAhead_23 rfl (lv_at hl 2 rfl) ?_
        refine la_12 hx hb hE hM hi_1 dX5_triedIsAhead_24 ?_
        refine lv_icmp_eq (tgt := 49) hx hb dX5_triedIsAhead_25 (by decide) (fun hc_3 => ?_) (fun hc_3 => ?_)
        · replace hf := i_t hf hc_3
          refine lv_iinc (v := a2 + 1) (lv' := [(2, .int (a2 + 1)), (0, .ref (ga G 9)), (1, .int b1)]) hx hb dX5_triedIsAhead_49 hl (k := 2) rfl rfl (by decide) rfl (fun ls hl => ?_)
          refine lv_goto (tgt := 2) hx hb dX5_triedIsAhead_52 (by decide) ?_
          exact ih x (a2 + 1) _ _ _ hf hM hS (lv_sub hl [1, 2, 0] rfl)
        · replace hf := i_f hf hc_3
          refine lv_aload_n hx hb dX5_triedIsAhead_28 rfl (lv_at hl 0 rfl) ?_
          refine gr_13 hx hb hE hM hown w_1_109 dX5_triedIsAhead_29 ?_
          refine lv_iload_n hx hb dX5_triedIsAhead_32 rfl (lv_at hl 2 rfl) ?_
          refine la_13 hx hb hE hM hi_1 dX5_triedIsAhead_33 ?_
          refine lv_aload_n hx hb dX5_triedIsAhead_34 rfl (lv_at hl 0 rfl) ?_
          refine gr_12 hx hb hE hM hown w_1_107 dX5_triedIsAhead_35 ?_
          refine lv_iload_n hx hb dX5_triedIsAhead_38 rfl (lv_at hl 2 rfl) ?_
          refine la_12 hx hb hE hM hi_1 dX5_triedIsAhead_39 ?_
          refine lv_icmp_ge (tgt := 47) hx hb dX5_triedIsAhead_40 (by decide) (fun hc_2 => ?_) (fun hc_2 => ?_)
          · replace hf := i_t hf hc_2
            refine lv_iconst (v := 0) hx hb dX5_triedIsAhead_47 (by decide) ?_
            exact rt_zX hx hb hr rfl hf hM hS dX5_triedIsAhead_48 hlocks
          · replace hf := i_f hf hc_2
            refine lv_iconst (v := 1) hx hb dX5_triedIsAhead_43 (by decide) ?_
            refine lv_goto (tgt := 48) hx hb dX5_triedIsAhead_44 (by decide) ?_
            exact rt_zX hx hb hr rfl hf hM hS dX5_triedIsAhead_48 hlocks
set_option maxHeartbeats 4000000 in
set_option maxRecDepth 100000 in
theorem c_X5_triedIsAhead (l : Launch) (fu nw : Nat) (G : GG) (x x' mo : Me) (a1 : Int32) (r : Int32) (hf : f_X5_triedIsAhead fu nw x a1 = some (x', r)) : Met l yX5_triedIsAhead [.code yX5_triedIsAhead cX5_triedIsAhead 3 (some .boolean)] rm_X5_triedIsAhead (va_Pc [.ref (ga G 9), .int a1] (Pre G nw x mo)) (PI G nw x' mo r) 0 0 (gA G) := by
  refine mt_ofW (cc := cX5_triedIsAhead) (maxL := 3) (ret := (some .boolean)) (by decide +kernel) rfl ?_
  intro p e s m args below meth c s₁ B hml hv
  obtain ⟨rfl, hE, hM⟩ := hv
  have hx := B.exec
  have hb := B.bytes
  have hr := B.returns
  have hown : s.vm.findClass RX5 = some m.cls := findClass_of_methodNamed B.named
  have hlocks := B.notSynchronized
  have hS : va_S (gA G) s.heap s.heap [] := va_S.rf
  have hl := lv_entry ([.ref (ga G 9), .int a1]) (n := 3) (Nat.le_of_ble_eq_true rfl)
  rw [lg_entry_eq]
  generalize (lg_sl ([.ref (ga G 9), .int a1]) ++ List.replicate (3 - (lg_sl ([.ref (ga G 9), .int a1])).length) Slot.unset).toArray = ls at hl ⊢
  have hl : lv_has ls 3 [(0, .ref (ga G 9)), (1, .int a1)] := hl
  generalize ([.ref (ga G 9), .int a1] : List Value).toArray = args
  unfold f_X5_triedIsAhead at hf
  refine lv_iconst (v := 0) hx hb dX5_triedIsAhead_0 (by decide) ?_
  refine lv_istore_n (lv' := [(2, .int 0), (0, .ref (ga G 9)), (1, .int a1)]) hx hb dX5_triedIsAhead_1 rfl hl (by decide) rfl (fun ls hl => ?_)
  refine wk_X5_triedIsAhead_2 hx hb hml hown hE hr hlocks ?_ fu x 0 _ _ _ hf hM hS (lv_sub hl [1, 2, 0] rfl)
  intro x_6 H locs ls hf hM hS hl
  refine lv_iconst (v := 0) hx hb dX5_triedIsAhead_55 (by decide) ?_
  exact rt_zX hx hb hr rfl hf hM hS dX5_triedIsAhead_56 hlocks
theorem k_X5_triedIsAhead {p : Program} {l : Launch} {e : Env} {R : Room} {s : State} {m : MethodId} {args : Array Value} {below : List Frame} {meth : Method} {c : Code} {H : Heap} {locs : List Loc} {cells slots : Nat} {Q : State → Prop} {cc : ByteArray} {pc nL : Nat} {ls : Array Slot} {rest : List Value} {G : GG} {fu nw : Nat} {x x' mo : Me} {own : String} {index : Nat} {a1 : Int32} {r : Int32} (hx : p.tables.exec = Jvm.exec) (hb : c.code = cc) (hml : c.maxLocals = nL) (hown : s.vm.findClass own = some m.cls) (hE : EnvP G s) (hM : MemP G nw x mo H) (hS : va_S (gA G) s.heap H locs) (hw : Cond.methodLink own index yX5_triedIsAhead ∈ lw_tbl) (hf : f_X5_triedIsAhead fu nw x a1 = some (x', r)) (h1 : 0 + 1 ≤ R.frames) (h2 : 8 + (3 + 11) + 0 ≤ R.locals) (hsz : ls.size = nL) (hW : (rest.map fun v => v.category).sum ≤ 8) (hcs : cells ≤ R.cells ∧ slots ≤ R.slots) (hdg : decode cc pc = .ok (.invokevirtual index, 3)) (kk : ∀ (H1 : Heap) (locs1 : List Loc), MemP G nw x' mo H1 → va_S (gA G) s.heap H1 locs1 → W p l e R s m args below meth c H1 locs1 cells slots Q (F0 m (pc + 3) ls (.int r :: rest))) : W p l e R s m args below meth c H locs cells slots Q (F0 m pc ls (.int a1 :: .ref (ga G 9) :: rest)) := mm_ki hS (mm_runV (n := 1) (o := 9) (C := RX5) (T := TX5) (N := 5) (ci := 5) (As := [.int a1]) hx hb hml hown hE hM hS (c_X5_triedIsAhead l fu nw G x x' mo a1 _ hf) (List.forall_mem_cons.mpr ⟨⟨hw, rfl⟩, List.forall_mem_cons.mpr ⟨⟨w_3_98, rfl⟩, List.forall_mem_cons.mpr ⟨⟨w_0_11, rfl⟩, List.forall_mem_cons.mpr ⟨⟨w_1_5, rfl⟩, List.forall_mem_cons.mpr ⟨⟨w_3_99, rfl⟩, fun _ h => absurd h List.not_mem_nil⟩⟩⟩⟩⟩) rfl rfl ⟨rfl, by decide, by decide, by decide +kernel⟩ ⟨h1, h2⟩ rfl rfl rfl hsz rfl hW hdg hcs) kk
def f_X5_pickEven_15 (fu nw : Nat) (b1 : Int32) (b3 : Int32) (k : Me → Int32 → Option (Me × Int32)) : Nat → Me → Int32 → Int32 → Option (Me × Int32)
  | 0 => fun _ _ _ => none
  | n + 1 => fun x a2 a4 => if (x 15 0) ≤ a4 then k x a2 else if inb a4 16 = true then if inb b3 16 = true then jn (fun (x_3 : Me) (s_3 : Int32) => if s_3 = 0 then f_X5_pickEven_15 fu nw b1 b3 k n x_3 a2 (a4 + 1) else if (x_3 17 b3.toNatClampNeg) = 0 then f_X5_pickEven_15 fu nw b1 b3 k n x_3 a2 (a4 + 1) else if (x_3 17 a4.toNatClampNeg) = 0 then f_X5_pickEven_15 fu nw b1 b3 k n x_3 a2 (a4 + 1) else ob (f_X5_fillTried fu nw x_3 b1 (x_3 16 b3.toNatClampNeg) (x_3 16 a4.toNatClampNeg)) (fun x_4 r_4 => if r_4 = 0 then f_X5_pickEven_15 fu nw b1 b3 k n x_4 a2 (a4 + 1) else jn (fun (x_5 : Me) => if acok 0 0 10 10 10 = true then f_X5_pickEven_15 fu nw b1 b3 k n (mcpy x_5 19 18 0 0 10) ((x 16 a4.toNatClampNeg) - (x 16 b3.toNatClampNeg)) (a4 + 1) else none) (fun j_5 => if ((x 16 a4.toNatClampNeg) - (x 16 b3.toNatClampNeg)) = a2 then ob (f_X5_triedIsAhead fu nw x_4 b1) (fun x_7 r_7 => if r_7 = 0 then f_X5_pickEven_15 fu nw b1 b3 k n x_7 a2 (a4 + 1) else j_5 x_7) else j_5 x_4))) (fun j_3 => jn (fun (x_14 : Me) => j_3 x_14 0) (fun j_14 => if ((x 16 a4.toNatClampNeg) - (x 16 b3.toNatClampNeg)) < 0 then j_14 x else jn (fun (x_15 : Me) => j_3 x_15 1) (fun j_15 => if a2 = (-1) then j_15 x else if a2 < ((x 16 a4.toNatClampNeg) - (x 16 b3.toNatClampNeg)) then j_14 x else j_15 x))) else none else none
def f_X5_pickEven_4 (fu nw : Nat) (b1 : Int32) (k : Me → Int32 → Option (Me × Int32)) : Nat → Me → Int32 → Int32 → Option (Me × Int32)
  | 0 => fun _ _ _ => none
  | n + 1 => fun x a2 a3 => if (x 15 0) ≤ a3 then k x a2 else f_X5_pickEven_15 fu nw b1 a3 (fun (x_20 : Me) (a2_20 : Int32) => f_X5_pickEven_4 fu nw b1 k n x_20 a2_20 (a3 + 1)) fu x a2 0
def f_X5_pickEven (fu nw : Nat) (x : Me) (a1 : Int32) : Option (Me × Int32) := f_X5_pickEven_4 fu nw a1 (fun (x_22 : Me) (a2_22 : Int32) => some (x_22, a2_22)) fu x (-1) 0
def rm_X5_pickEven : Room := { frames := 1, cells := 0, slots := 0, locals := 40 }
set_option maxHeartbeats 4000000 in
set_option maxRecDepth 100000 in
theorem wk_X5_pickEven_15 {p : Program} {l : Launch} {e : Env} {s : State} {m : MethodId} {args : Array Value} {below : List Frame} {meth : Method} {c : Code} {fu nw : Nat} {G : GG} {mo : Me} {b1 : Int32} {b3 : Int32} (hx : p.tables.exec = Jvm.exec) (hb : c.code = cX5_pickEven) (hml : c.maxLocals = 7) (hown : s.vm.findClass RX5 = some m.cls) (hE : EnvP G s) (hr : meth.sig.returnType = (some .int)) (hlocks : meth.locks = false) {x' : Me} {r : Int32} {k : Me → Int32 → Option (Me × Int32)} (hk : ∀ (x : Me) (a2 : Int32) (H : Heap) (locs : List Loc) (ls : Array Slot), k x a2 = some (x', r) → MemP G nw x mo H → va_S (gA G) s.heap H locs → lv_has ls 7 [(0, .ref (ga G 9)), (1, .int b1), (2, .int a2), (3, .int b3)] → W p l e rm_X5_pickEven s m args below meth c H locs 0 0 (MQ below (PI G nw x' mo r) args s 0 0 (gA G)) (F0 m 146 ls [])) : ∀ (n : Nat) (x : Me) (a2 : Int32) (a4 : Int32) (H : Heap) (locs : List Loc) (ls : Array Slot), f_X5_pickEven_15 fu nw b1 b3 k n x a2 a4 = some (x', r) → MemP G nw x mo H → va_S (gA G) s.heap H locs → lv_has ls 7 [(0, .ref (ga G 9)), (1, .int b1), (2, .int a2), (3, .int b3), (4, .int a4)] → W p l e rm_X5_pickEven s m args below meth c H locs 0 0 (MQ below (PI G nw x' mo r) args s 0 0 (gA G)) (F0 m 15 ls []) := by
  intro n
  induction n with
  | zero =>
    intro x a2 a4 H locs ls hf hM hS hl
    exact nn hf
  | succ n ih =>
    intro x a2 a4 H locs ls hf hM hS hl
    rw [f_X5_pickEven_15] at hf
    refine lv_iload hx hb dX5_pickEven_15 (lv_at hl 4 rfl) ?_
    refine lv_aload_n hx hb dX5_pickEven_17 rfl (lv_at hl 0 rfl) ?_
    refine gf_15 hx hb hE hM hown w_1_102 dX5_pickEven_18 ?_
    refine lv_icmp_ge (tgt := 146) hx hb dX5_pickEven_21 (by decide) (fun hc_19 => ?_) (fun hc_19 => ?_)
    · replace hf := i_t hf hc_19
      exact hk x a2 _ _ _ hf hM hS (lv_sub hl [0, 1, 2, 3] rfl)
    · replace hf := i_f hf hc_19
      refine lv_aload_n hx hb dX5_pickEven_24 rfl (lv_at hl 0 rfl) ?_
      refine gr_10 hx hb hE hM hown w_1_104 dX5_pickEven_25 ?_
      refine lv_iload hx hb dX5_pickEven_28 (lv_at hl 4 rfl) ?_
      obtain ⟨hi_1, hf⟩ := i_n hf
      refine la_10 hx hb hE hM hi_1 dX5_pickEven_30 ?_
      refine lv_aload_n hx hb dX5_pickEven_31 rfl (lv_at hl 0 rfl) ?_
      refine gr_10 hx hb hE hM hown w_1_104 dX5_pickEven_32 ?_
      refine lv_iload_n hx hb dX5_pickEven_35 rfl (lv_at hl 3 rfl) ?_
      obtain ⟨hi_2, hf⟩ := i_n hf
      refine la_10 hx hb hE hM hi_2 dX5_pickEven_36 ?_
      refine lv_isub hx hb dX5_pickEven_37 ?_
      refine lv_istore (lv' := [(5, .int ((x 16 a4.toNatClampNeg) - (x 16 b3.toNatClampNeg))), (0, .ref (ga G 9)), (1, .int b1), (2, .int a2), (3, .int b3), (4, .int a4)]) hx hb dX5_pickEven_38 hl (by decide) rfl (fun ls hl => ?_)
      refine lv_iload hx hb dX5_pickEven_40 (lv_at hl 0 rfl) ?_
      have hj_3 : ∀ (x_3 : Me) (s_3 : Int32) (H : Heap) (locs : List Loc) (ls : Array Slot), jnA hf x_3 s_3 = some (x', r) → MemP G nw x_3 mo H → va_S (gA G) s.heap H locs → lv_has ls 7 [(0, .ref (ga G 9)), (1, .int b1), (2, .int a2), (3, .int b3), (4, .int a4), (5, .int ((x 16 a4.toNatClampNeg) - (x 16 b3.toNatClampNeg)))] → W p l e rm_X5_pickEven s m args below meth c H locs 0 0 (MQ below (PI G nw x' mo r) args s 0 0 (gA G)) (F0 m 61 ls [.int s_3]) := by
        intro x_3 s_3 H locs ls hf hM hS hl
        refine lv_istore (lv' := [(6, .int s_3), (0, .ref (ga G 9)), (1, .int b1), (2, .int a2), (3, .int b3), (4, .int a4), (5, .int ((x 16 a4.toNatClampNeg) - (x 16 b3.toNatClampNeg)))]) hx hb dX5_pickEven_61 hl (by decide) rfl (fun ls hl => ?_)
        refine lv_iload hx hb dX5_pickEven_63 (lv_at hl 0 rfl) ?_
        refine lv_if_eq (tgt := 140) hx hb dX5_pickEven_65 (by decide) (fun hc_13 => ?_) (fun hc_13 => ?_)
        · replace hf := i_t hf hc_13
          refine lv_iinc (v := a4 + 1) (lv' := [(4, .int (a4 + 1)), (6, .int s_3), (0, .ref (ga G 9)), (1, .int b1), (2, .int a2), (3, .int b3), (5, .int ((x 16 a4.toNatClampNeg) - (x 16 b3.toNatClampNeg)))]) hx hb dX5_pickEven_140 hl (k := 5) rfl rfl (by decide) rfl (fun ls hl => ?_)
          refine lv_goto (tgt := 15) hx hb dX5_pickEven_143 (by decide) ?_
          exact ih x_3 a2 (a4 + 1) _ _ _ hf hM hS (lv_sub hl [2, 3, 4, 5, 0] rfl)
        · replace hf := i_f hf hc_13
          refine lv_aload_n hx hb dX5_pickEven_68 rfl (lv_at hl 1 rfl) ?_
          refine gr_11 hx hb hE hM hown w_1_105 dX5_pickEven_69 ?_
          refine lv_iload_n hx hb dX5_pickEven_72 rfl (lv_at hl 4 rfl) ?_
          refine la_11 hx hb hE hM hi_2 dX5_pickEven_73 ?_
          refine lv_if_eq (tgt := 140) hx hb dX5_pickEven_74 (by decide) (fun hc_12 => ?_) (fun hc_12 => ?_)
          · replace hf := i_t hf hc_12
            refine lv_iinc (v := a4 + 1) (lv' := [(4, .int (a4 + 1)), (6, .int s_3), (0, .ref (ga G 9)), (1, .int b1), (2, .int a2), (3, .int b3), (5, .int ((x 16 a4.toNatClampNeg) - (x 16 b3.toNatClampNeg)))]) hx hb dX5_pickEven_140 hl (k := 5) rfl rfl (by decide) rfl (fun ls hl => ?_)
            refine lv_goto (tgt := 15) hx hb dX5_pickEven_143 (by decide) ?_
            exact ih x_3 a2 (a4 + 1) _ _ _ hf hM hS (lv_sub hl [2, 3, 4, 5, 0] rfl)
          · replace hf := i_f hf hc_12
            refine lv_aload_n hx hb dX5_pickEven_77 rfl (lv_at hl 1 rfl) ?_
            refine gr_11 hx hb hE hM hown w_1_105 dX5_pickEven_78 ?_
            refine lv_iload hx hb dX5_pickEven_81 (lv_at hl 5 rfl) ?_
            refine la_11 hx hb hE hM hi_1 dX5_pickEven_83 ?_
            refine lv_if_eq (tgt := 140) hx hb dX5_pickEven_84 (by decide) (fun hc_11 => ?_) (fun hc_11 => ?_)
            · replace hf := i_t hf hc_11
              refine lv_iinc (v := a4 + 1) (lv' := [(4, .int (a4 + 1)), (6, .int s_3), (0, .ref (ga G 9)), (1, .int b1), (2, .int a2), (3, .int b3), (5, .int ((x 16 a4.toNatClampNeg) - (x 16 b3.toNatClampNeg)))]) hx hb dX5_pickEven_140 hl (k := 5) rfl rfl (by decide) rfl (fun ls hl => ?_)
              refine lv_goto (tgt := 15) hx hb dX5_pickEven_143 (by decide) ?_
              exact ih x_3 a2 (a4 + 1) _ _ _ hf hM hS (lv_sub hl [2, 3, 4, 5, 0] rfl)
            · replace hf := i_f hf hc_11
              refine lv_aload_n hx hb dX5_pickEven_87 rfl (lv_at hl 1 rfl) ?_
              refine lv_iload_n hx hb dX5_pickEven_88 rfl (lv_at hl 2 rfl) ?_
              refine lv_aload_n hx hb dX5_pickEven_89 rfl (lv_at hl 1 rfl) ?_
              refine gr_10 hx hb hE hM hown w_1_104 dX5_pickEven_90 ?_
              refine lv_iload_n hx hb dX5_pickEven_93 rfl (lv_at hl 4 rfl) ?_
              refine la_10 hx hb hE hM hi_2 dX5_pickEven_94 ?_
              refine lv_aload_n hx hb dX5_pickEven_95 rfl (lv_at hl 1 rfl) ?_
              refine gr_10 hx hb hE hM hown w_1_104 dX5_pickEven_96 ?_
              refine lv_iload hx hb dX5_pickEven_99 (lv_at hl 5 rfl) ?_
              refine la_10 hx hb hE hM hi_1 dX5_pickEven_101 ?_
              obtain ⟨x_4, r_4, hq_4, hf⟩ := ob_some hf
              refine k_X5_fillTried hx hb hml hown hE hM hS w_3_92 hq_4 (Nat.le_of_ble_eq_true rfl) (Nat.le_of_ble_eq_true rfl) hl.1 (Nat.le_of_ble_eq_true rfl) ⟨Nat.zero_le _, Nat.zero_le _⟩ dX5_pickEven_102 (fun H locs hM hS => ?_)
              refine lv_if_eq (tgt := 140) hx hb dX5_pickEven_105 (by decide) (fun hc_10 => ?_) (fun hc_10 => ?_)
              · replace hf := i_t hf hc_10
                refine lv_iinc (v := a4 + 1) (lv' := [(4, .int (a4 + 1)), (6, .int s_3), (0, .ref (ga G 9)), (1, .int b1), (2, .int a2), (3, .int b3), (5, .int ((x 16 a4.toNatClampNeg) - (x 16 b3.toNatClampNeg)))]) hx hb dX5_pickEven_140 hl (k := 5) rfl rfl (by decide) rfl (fun ls hl => ?_)
                refine lv_goto (tgt := 15) hx hb dX5_pickEven_143 (by decide) ?_
                exact ih x_4 a2 (a4 + 1) _ _ _ hf hM hS (lv_sub hl [2, 3, 4, 5, 0] rfl)
              · replace hf := i_f hf hc_10
                refine lv_iload hx hb dX5_pickEven_108 (lv_at hl 6 rfl) ?_
                refine lv_iload_n hx hb dX5_pickEven_110 rfl (lv_at hl 3 rfl) ?_
                have hj_5 : ∀ (x_5 : Me) (H : Heap) (locs : List Loc) (ls : Array Slot), jnA hf x_5 = some (x', r) → MemP G nw x_5 mo H → va_S (gA G) s.heap H locs → lv_has ls 7 [(0, .ref (ga G 9)), (1, .int b1), (3, .int b3), (4, .int a4), (5, .int ((x 16 a4.toNatClampNeg) - (x 16 b3.toNatClampNeg)))] → W p l e rm_X5_pickEven s m args below meth c H locs 0 0 (MQ below (PI G nw x' mo r) args s 0 0 (gA G)) (F0 m 122 ls []) := by
                  intro x_5 H locs ls hf hM hS hl
                  refine lv_iload hx hb dX5_pickEven_122 (lv_at hl 4 rfl) ?_
                  refine lv_istore_n (lv' := [(2, .int ((x 16 a4.toNatClampNeg) - (x 16 b3.toNatClampNeg))), (0, .ref (ga G 9)), (1, .int b1), (3, .int b3), (4, .int a4), (5, .int ((x 16 a4.toNatClampNeg) - (x 16 b3.toNatClampNeg)))]) hx hb dX5_pickEven_124 rfl hl (by decide) rfl (fun ls hl => ?_)
                  refine lv_aload_n hx hb dX5_pickEven_125 rfl (lv_at hl 1 rfl) ?_
                  refine gr_13 hx hb hE hM hown w_1_109 dX5_pickEven_126 ?_
                  refine lv_iconst (v := 0) hx hb dX5_pickEven_129 (by decide) ?_
                  refine lv_aload_n hx hb dX5_pickEven_130 rfl (lv_at hl 1 rfl) ?_
                  refine gr_12 hx hb hE hM hown w_1_107 dX5_pickEven_131 ?_
                  refine lv_iconst (v := 0) hx hb dX5_pickEven_134 (by decide) ?_
                  refine lv_bipush (v := 10) hx hb dX5_pickEven_135 (by decide) ?_
                  obtain ⟨hac_6, hf⟩ := i_n hf
                  refine mm_copy (x' := (mcpy x_5 19 18 0 0 10)) (mo' := mo) (o0 := 13) (o1 := 12) hx hb (by rw [hml]; exact hl.1.symm) hown (ew hE w_3_100 rfl) (ew hE w_2_200 rfl) (ew hE w_2_199 rfl) (ew hE w_1_18 rfl) hE hM hS rfl rfl rfl hac_6 (Nat.le_of_ble_eq_true rfl) (Nat.le_of_ble_eq_true rfl) dX5_pickEven_137 (fun H locs hM hS => ?_)
                  refine lv_iinc (v := a4 + 1) (lv' := [(4, .int (a4 + 1)), (2, .int ((x 16 a4.toNatClampNeg) - (x 16 b3.toNatClampNeg))), (0, .ref (ga G 9)), (1, .int b1), (3, .int b3), (5, .int ((x 16 a4.toNatClampNeg) - (x 16 b3.toNatClampNeg)))]) hx hb dX5_pickEven_140 hl (k := 4) rfl rfl (by decide) rfl (fun ls hl => ?_)
                  refine lv_goto (tgt := 15) hx hb dX5_pickEven_143 (by decide) ?_
                  exact ih (mcpy x_5 19 18 0 0 10) ((x 16 a4.toNatClampNeg) - (x 16 b3.toNatClampNeg)) (a4 + 1) _ _ _ hf hM hS (lv_sub hl [2, 3, 1, 4, 0] rfl)
                replace hf := jn_use hf
                refine lv_icmp_ne (tgt := 122) hx hb dX5_pickEven_111 (by decide) (fun hc_9 => ?_) (fun hc_9 => ?_)
                · replace hf := i_f hf hc_9
                  exact hj_5 x_4 _ _ _ hf hM hS (lv_sub hl [1, 2, 4, 5, 6] rfl)
                · replace hf := i_t hf hc_9
                  refine lv_aload_n hx hb dX5_pickEven_114 rfl (lv_at hl 1 rfl) ?_
                  refine lv_iload_n hx hb dX5_pickEven_115 rfl (lv_at hl 2 rfl) ?_
                  obtain ⟨x_7, r_7, hq_7, hf⟩ := ob_some hf
                  refine k_X5_triedIsAhead hx hb hml hown hE hM hS w_3_96 hq_7 (Nat.le_of_ble_eq_true rfl) (Nat.le_of_ble_eq_true rfl) hl.1 (Nat.le_of_ble_eq_true rfl) ⟨Nat.zero_le _, Nat.zero_le _⟩ dX5_pickEven_116 (fun H locs hM hS => ?_)
                  refine lv_if_eq (tgt := 140) hx hb dX5_pickEven_119 (by decide) (fun hc_8 => ?_) (fun hc_8 => ?_)
                  · replace hf := i_t hf hc_8
                    refine lv_iinc (v := a4 + 1) (lv' := [(4, .int (a4 + 1)), (6, .int s_3), (0, .ref (ga G 9)), (1, .int b1), (2, .int a2), (3, .int b3), (5, .int ((x 16 a4.toNatClampNeg) - (x 16 b3.toNatClampNeg)))]) hx hb dX5_pickEven_140 hl (k := 5) rfl rfl (by decide) rfl (fun ls hl => ?_)
                    refine lv_goto (tgt := 15) hx hb dX5_pickEven_143 (by decide) ?_
                    exact ih x_7 a2 (a4 + 1) _ _ _ hf hM hS (lv_sub hl [2, 3, 4, 5, 0] rfl)
                  · replace hf := i_f hf hc_8
                    exact hj_5 x_7 _ _ _ hf hM hS (lv_sub hl [1, 2, 4, 5, 6] rfl)
      replace hf := jn_use hf
      have hj_14 : ∀ (x_14 : Me) (H : Heap) (locs : List Loc) (ls : Array Slot), jnA hf x_14 = some (x', r) → MemP G nw x_14 mo H → va_S (gA G) s.heap H locs → lv_has ls 7 [(0, .ref (ga G 9)), (1, .int b1), (2, .int a2), (3, .int b3), (4, .int a4), (5, .int ((x 16 a4.toNatClampNeg) - (x 16 b3.toNatClampNeg)))] → W p l e rm_X5_pickEven s m args below meth c H locs 0 0 (MQ below (PI G nw x' mo r) args s 0 0 (gA G)) (F0 m 60 ls []) := by
        intro x_14 H locs ls hf hM hS hl
        refine lv_iconst (v := 0) hx hb dX5_pickEven_60 (by decide) ?_
        exact hj_3 x_14 0 _ _ _ hf hM hS (lv_sub hl [0, 1, 2, 3, 4, 5] rfl)
      replace hf := jn_use hf
      refine lv_if_lt (tgt := 60) hx hb dX5_pickEven_42 (by decide) (fun hc_18 => ?_) (fun hc_18 => ?_)
      · replace hf := i_t hf hc_18
        exact hj_14 x _ _ _ hf hM hS (lv_sub hl [1, 2, 3, 4, 5, 0] rfl)
      · replace hf := i_f hf hc_18
        refine lv_iload_n hx hb dX5_pickEven_45 rfl (lv_at hl 3 rfl) ?_
        refine lv_iconst (v := (-1)) hx hb dX5_pickEven_46 (by decide) ?_
        have hj_15 : ∀ (x_15 : Me) (H : Heap) (locs : List Loc) (ls : Array Slot), jnA hf x_15 = some (x', r) → MemP G nw x_15 mo H → va_S (gA G) s.heap H locs → lv_has ls 7 [(0, .ref (ga G 9)), (1, .int b1), (2, .int a2), (3, .int b3), (4, .int a4), (5, .int ((x 16 a4.toNatClampNeg) - (x 16 b3.toNatClampNeg)))] → W p l e rm_X5_pickEven s m args below meth c H locs 0 0 (MQ below (PI G nw x' mo r) args s 0 0 (gA G)) (F0 m 56 ls []) := by
          intro x_15 H locs ls hf hM hS hl
          refine lv_iconst (v := 1) hx hb dX5_pickEven_56 (by decide) ?_
          refine lv_goto (tgt := 61) hx hb dX5_pickEven_57 (by decide) ?_
          exact hj_3 x_15 1 _ _ _ hf hM hS (lv_sub hl [0, 1, 2, 3, 4, 5] rfl)
        replace hf := jn_use hf
        refine lv_icmp_eq (tgt := 56) hx hb dX5_pickEven_47 (by decide) (fun hc_17 => ?_) (fun hc_17 => ?_)
        · replace hf := i_t hf hc_17
          exact hj_15 x _ _ _ hf hM hS (lv_sub hl [1, 2, 3, 4, 5, 0] rfl)
        · replace hf := i_f hf hc_17
          refine lv_iload hx hb dX5_pickEven_50 (lv_at hl 0 rfl) ?_
          refine lv_iload_n hx hb dX5_pickEven_52 rfl (lv_at hl 3 rfl) ?_
          refine lv_icmp_gt (tgt := 60) hx hb dX5_pickEven_53 (by decide) (fun hc_16 => ?_) (fun hc_16 => ?_)
          · replace hf := i_t hf hc_16
            exact hj_14 x _ _ _ hf hM hS (lv_sub hl [1, 2, 3, 4, 5, 0] rfl)
          · replace hf := i_f hf hc_16
            exact hj_15 x _ _ _ hf hM hS (lv_sub hl [1, 2, 3, 4, 5, 0] rfl)
set_option maxHeartbeats 4000000 in
set_option maxRecDepth 100000 in
theorem wk_X5_pickEven_4 {p : Program} {l : Launch} {e : Env} {s : State} {m : MethodId} {args : Array Value} {below : List Frame} {meth : Method} {c : Code} {fu nw : Nat} {G : GG} {mo : Me} {b1 : Int32} (hx : p.tables.exec = Jvm.exec) (hb : c.code = cX5_pickEven) (hml : c.maxLocals = 7) (hown : s.vm.findClass RX5 = some m.cls) (hE : EnvP G s) (hr : meth.sig.returnType = (some .int)) (hlocks : meth.locks = false) {x' : Me} {r : Int32} {k : Me → Int32 → Option (Me × Int32)} (hk : ∀ (x : Me) (a2 : Int32) (H : Heap) (locs : List Loc) (ls : Array Slot), k x a2 = some (x', r) → MemP G nw x mo H → va_S (gA G) s.heap H locs → lv_has ls 7 [(2, .int a2)] → W p l e rm_X5_pickEven s m args below meth c H locs 0 0 (MQ below (PI G nw x' mo r) args s 0 0 (gA G)) (F0 m 152 ls [])) : ∀ (n : Nat) (x : Me) (a2 : Int32) (a3 : Int32) (H : Heap) (locs : List Loc) (ls : Array Slot), f_X5_pickEven_4 fu nw b1 k n x a2 a3 = some (x', r) → MemP G nw x mo H → va_S (gA G) s.heap H locs → lv_has ls 7 [(0, .ref (ga G 9)), (1, .int b1), (2, .int a2), (3, .int a3)] → W p l e rm_X5_pickEven s m args below meth c H locs 0 0 (MQ below (PI G nw x' mo r) args s 0 0 (gA G)) (F0 m 4 ls []) := by
  intro n
  induction n with
  | zero =>
    intro x a2 a3 H locs ls hf hM hS hl
    exact nn hf
  | succ n ih =>
    intro x a2 a3 H locs ls hf hM hS hl
    rw [f_X5_pickEven_4] at hf
    refine lv_iload_n hx hb dX5_pickEven_4 rfl (lv_at hl 3 rfl) ?_
    refine lv_aload_n hx hb dX5_pickEven_5 rfl (lv_at hl 0 rfl) ?_
    refine gf_15 hx hb hE hM hown w_1_102 dX5_pickEven_6 ?_
    refine lv_icmp_ge (tgt := 152) hx hb dX5_pickEven_9 (by decide) (fun hc_21 => ?_) (fun hc_21 => ?_)
    · replace hf := i_t hf hc_21
      exact hk x a2 _ _ _ hf hM hS (lv_sub hl [2] rfl)
    · replace hf := i_f hf hc_21
      refine lv_iconst (v := 0) hx hb dX5_pickEven_12 (by decide) ?_
      refine lv_istore (lv' := [(4, .int 0), (0, .ref (ga G 9)), (1, .int b1), (2, .int a2), (3, .int a3)]) hx hb dX5_pickEven_13 hl (by decide) rfl (fun ls hl => ?_)
      refine wk_X5_pickEven_15 hx hb hml hown hE hr hlocks ?_ fu x a2 0 _ _ _ hf hM hS (lv_sub hl [1, 2, 3, 4, 0] rfl)
      intro x_20 a2_20 H locs ls hf hM hS hl
      refine lv_iinc (v := a3 + 1) (lv' := [(3, .int (a3 + 1)), (0, .ref (ga G 9)), (1, .int b1), (2, .int a2_20)]) hx hb dX5_pickEven_146 hl (k := 3) rfl rfl (by decide) rfl (fun ls hl => ?_)
      refine lv_goto (tgt := 4) hx hb dX5_pickEven_149 (by decide) ?_
      exact ih x_20 a2_20 (a3 + 1) _ _ _ hf hM hS (lv_sub hl [1, 2, 3, 0] rfl)
set_option maxHeartbeats 4000000 in
set_option maxRecDepth 100000 in
theorem c_X5_pickEven (l : Launch) (fu nw : Nat) (G : GG) (x x' mo : Me) (a1 : Int32) (r : Int32) (hf : f_X5_pickEven fu nw x a1 = some (x', r)) : Met l yX5_pickEven [.code yX5_pickEven cX5_pickEven 7 (some .int)] rm_X5_pickEven (va_Pc [.ref (ga G 9), .int a1] (Pre G nw x mo)) (PI G nw x' mo r) 0 0 (gA G) := by
  refine mt_ofW (cc := cX5_pickEven) (maxL := 7) (ret := (some .int)) (by decide +kernel) rfl ?_
  intro p e s m args below meth c s₁ B hml hv
  obtain ⟨rfl, hE, hM⟩ := hv
  have hx := B.exec
  have hb := B.bytes
  have hr := B.returns
  have hown : s.vm.findClass RX5 = some m.cls := findClass_of_methodNamed B.named
  have hlocks := B.notSynchronized
  have hS : va_S (gA G) s.heap s.heap [] := va_S.rf
  have hl := lv_entry ([.ref (ga G 9), .int a1]) (n := 7) (Nat.le_of_ble_eq_true rfl)
  rw [lg_entry_eq]
  generalize (lg_sl ([.ref (ga G 9), .int a1]) ++ List.replicate (7 - (lg_sl ([.ref (ga G 9), .int a1])).length) Slot.unset).toArray = ls at hl ⊢
  have hl : lv_has ls 7 [(0, .ref (ga G 9)), (1, .int a1)] := hl
  generalize ([.ref (ga G 9), .int a1] : List Value).toArray = args
  unfold f_X5_pickEven at hf
  refine lv_iconst (v := (-1)) hx hb dX5_pickEven_0 (by decide) ?_
  refine lv_istore_n (lv' := [(2, .int (-1)), (0, .ref (ga G 9)), (1, .int a1)]) hx hb dX5_pickEven_1 rfl hl (by decide) rfl (fun ls hl => ?_)
  refine lv_iconst (v := 0) hx hb dX5_pickEven_2 (by decide) ?_
  refine lv_istore_n (lv' := [(3, .int 0), (2, .int (-1)), (0, .ref (ga G 9)), (1, .int a1)]) hx hb dX5_pickEven_3 rfl hl (by decide) rfl (fun ls hl => ?_)
  refine wk_X5_pickEven_4 hx hb hml hown hE hr hlocks ?_ fu x (-1) 0 _ _ _ hf hM hS (lv_sub hl [2, 3, 1, 0] rfl)
  intro x_22 a2_22 H locs ls hf hM hS hl
  refine lv_iload_n hx hb dX5_pickEven_152 rfl (lv_at hl 0 rfl) ?_
  exact rt_iX hx hb hr hf hM hS dX5_pickEven_153 hlocks
theorem k_X5_pickEven {p : Program} {l : Launch} {e : Env} {R : Room} {s : State} {m : MethodId} {args : Array Value} {below : List Frame} {meth : Method} {c : Code} {H : Heap} {locs : List Loc} {cells slots : Nat} {Q : State → Prop} {cc : ByteArray} {pc nL : Nat} {ls : Array Slot} {rest : List Value} {G : GG} {fu nw : Nat} {x x' mo : Me} {own : String} {index : Nat} {a1 : Int32} {r : Int32} (hx : p.tables.exec = Jvm.exec) (hb : c.code = cc) (hml : c.maxLocals = nL) (hown : s.vm.findClass own = some m.cls) (hE : EnvP G s) (hM : MemP G nw x mo H) (hS : va_S (gA G) s.heap H locs) (hw : Cond.methodLink own index yX5_pickEven ∈ lw_tbl) (hf : f_X5_pickEven fu nw x a1 = some (x', r)) (h1 : 1 + 1 ≤ R.frames) (h2 : 8 + (7 + 11) + 40 ≤ R.locals) (hsz : ls.size = nL) (hW : (rest.map fun v => v.category).sum ≤ 8) (hcs : cells ≤ R.cells ∧ slots ≤ R.slots) (hdg : decode cc pc = .ok (.invokevirtual index, 3)) (kk : ∀ (H1 : Heap) (locs1 : List Loc), MemP G nw x' mo H1 → va_S (gA G) s.heap H1 locs1 → W p l e R s m args below meth c H1 locs1 cells slots Q (F0 m (pc + 3) ls (.int r :: rest))) : W p l e R s m args below meth c H locs cells slots Q (F0 m pc ls (.int a1 :: .ref (ga G 9) :: rest)) := mm_ki hS (mm_runV (n := 1) (o := 9) (C := RX5) (T := TX5) (N := 5) (ci := 5) (As := [.int a1]) hx hb hml hown hE hM hS (c_X5_pickEven l fu nw G x x' mo a1 _ hf) (List.forall_mem_cons.mpr ⟨⟨hw, rfl⟩, List.forall_mem_cons.mpr ⟨⟨w_3_89, rfl⟩, List.forall_mem_cons.mpr ⟨⟨w_3_90, rfl⟩, List.forall_mem_cons.mpr ⟨⟨w_1_5, rfl⟩, List.forall_mem_cons.mpr ⟨⟨w_3_91, rfl⟩, fun _ h => absurd h List.not_mem_nil⟩⟩⟩⟩⟩) rfl rfl ⟨rfl, by decide, by decide, by decide +kernel⟩ ⟨h1, h2⟩ rfl rfl rfl hsz rfl hW hdg hcs) kk
