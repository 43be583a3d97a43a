def f_X0_begin_40 (fu nw : Nat) (x : Me) (a1 : Int32) : Option (Me × Unit) := some ((mu x 49 0 a1), ())
def rm_X0_begin_40 : Room := { frames := 0, cells := 0, slots := 0, locals := 0 }
set_option maxHeartbeats 4000000 in
set_option maxRecDepth 100000 in
theorem c_X0_begin_40 (l : Launch) (fu nw : Nat) (G : GG) (x x' mo : Me) (a1 : Int32) (r : Unit) (hf : f_X0_begin_40 fu nw x a1 = some (x', r)) : Met l yX0_begin [.code yX0_begin cX0_begin 2 none] rm_X0_begin_40 (va_Pc [.ref (ga G 40), .int a1] (Pre G nw x mo)) (PV G nw x' mo) 0 0 (gA G) := by
  refine Met.ofW (cc := cX0_begin) (maxL := 2) (ret := none) (by decide) rfl ?_
  intro p e s m args below meth c s₁ B hml hv
  obtain ⟨rfl, hE, hM⟩ := hv
  have hx := B.exec
  have hb := B.bytes
  have hr := B.returns
  have hown : s.vm.findClass RX0 = some m.cls := findClass_of_methodNamed B.named
  have hlocks := B.notSynchronized
  have hS : va_S (gA G) s.heap s.heap [] := va_S.rf
  have hl := lv_entry ([.ref (ga G 40), .int a1]) (n := 2) (Nat.le_of_ble_eq_true rfl)
  rw [lg_entry_eq]
  generalize (lg_sl ([.ref (ga G 40), .int a1]) ++ List.replicate (2 - (lg_sl ([.ref (ga G 40), .int a1])).length) Slot.unset).toArray = ls at hl ⊢
  have hl : lv_has ls 2 [(0, .ref (ga G 40)), (1, .int a1)] := hl
  unfold f_X0_begin_40 at hf
  refine lv_aload_n hx hb dX0_begin_0 rfl (lv_at hl 0 rfl) ?_
  refine lv_iload_n hx hb dX0_begin_1 rfl (lv_at hl 1 rfl) ?_
  refine pf_49_0 hx hb hE hM hS hown w_1_162 dX0_begin_2 (fun H locs hM hS => ?_)
  exact rt_vX hx hb hr hf hM hS dX0_begin_5 hlocks
theorem k_X0_begin_40 {p : Program} {l : Launch} {e : Env} {R : Room} {s : State} {m : MethodId} {args : Array Value} {below : List Frame} {meth : Method} {c : Code} {H : Heap} {locs : List Loc} {cells slots : Nat} {Q : State → Prop} {cc : ByteArray} {pc nL : Nat} {ls : Array Slot} {rest : List Value} {G : GG} {fu nw : Nat} {x x' mo : Me} {own : String} {index : Nat} {a1 : Int32} {r : Unit} (hx : p.tables.exec = Jvm.exec) (hb : c.code = cc) (hml : c.maxLocals = nL) (hown : s.vm.findClass own = some m.cls) (hE : EnvP G s) (hM : MemP G nw x mo H) (hS : va_S (gA G) s.heap H locs) (hw : Cond.methodLink own index yX0_begin ∈ lw_tbl) (hf : f_X0_begin_40 fu nw x a1 = some (x', r)) (h1 : 0 + 1 ≤ R.frames) (h2 : 8 + (2 + 11) + 0 ≤ R.locals) (hsz : ls.size = nL) (hW : (rest.map fun v => v.category).sum ≤ 8) (hcs : cells ≤ R.cells ∧ slots ≤ R.slots) (hdg : decode cc pc = .ok (.invokevirtual index, 3)) (kk : ∀ (H1 : Heap) (locs1 : List Loc), MemP G nw x' mo H1 → va_S (gA G) s.heap H1 locs1 → W p l e R s m args below meth c H1 locs1 cells slots Q (F0 m (pc + 3) ls rest)) : W p l e R s m args below meth c H locs cells slots Q (F0 m pc ls (.int a1 :: .ref (ga G 40) :: rest)) := mm_kv hS (mm_runV (n := 1) (o := 40) (C := RX0) (T := TX0) (N := 1) (ci := 0) (As := [.int a1]) hx hb hml hown hE hM hS (c_X0_begin_40 l fu nw G x x' mo a1 r hf) (List.forall_mem_cons.mpr ⟨⟨hw, rfl⟩, List.forall_mem_cons.mpr ⟨⟨w_3_48, rfl⟩, List.forall_mem_cons.mpr ⟨⟨w_3_49, rfl⟩, List.forall_mem_cons.mpr ⟨⟨w_1_8, rfl⟩, List.forall_mem_cons.mpr ⟨⟨w_3_50, rfl⟩, fun _ h => absurd h List.not_mem_nil⟩⟩⟩⟩⟩) rfl rfl ⟨rfl, by decide, by decide, by decide +kernel⟩ ⟨h1, h2⟩ rfl rfl rfl hsz rfl hW hdg hcs) kk
def f_X0_below_40 (fu nw : Nat) (x : Me) (a1 : Int32) : Option (Me × Int32) := if a1 ≤ 0 then some ((mu x 49 0 ((1103515245 * (x 49 0)) + 12345)), 0) else if ¬ a1 = 0 then some ((mu x 49 0 ((1103515245 * (x 49 0)) + 12345)), ((((1103515245 * (x 49 0)) + 12345) >>> ((16 : Int32) &&& 31)) &&& 32767) - ((((1103515245 * (x 49 0)) + 12345) >>> ((16 : Int32) &&& 31)) &&& 32767) / a1 * a1) else none
def rm_X0_below_40 : Room := { frames := 0, cells := 0, slots := 0, locals := 0 }
set_option maxHeartbeats 4000000 in
set_option maxRecDepth 100000 in
theorem c_X0_below_40 (l : Launch) (fu nw : Nat) (G : GG) (x x' mo : Me) (a1 : Int32) (r : Int32) (hf : f_X0_below_40 fu nw x a1 = some (x', r)) : Met l yX0_below [.code yX0_below cX0_below 3 (some .int)] rm_X0_below_40 (va_Pc [.ref (ga G 40), .int a1] (Pre G nw x mo)) (PI G nw x' mo r) 0 0 (gA G) := by
  refine Met.ofW (cc := cX0_below) (maxL := 3) (ret := (some .int)) (by decide) rfl ?_
  intro p e s m args below meth c s₁ B hml hv
  obtain ⟨rfl, hE, hM⟩ := hv
  have hx := B.exec
  have hb := B.bytes
  have hr := B.returns
  have hown : s.vm.findClass RX0 = some m.cls := findClass_of_methodNamed B.named
  have hlocks := B.notSynchronized
  have hS : va_S (gA G) s.heap s.heap [] := va_S.rf
  have hl := lv_entry ([.ref (ga G 40), .int a1]) (n := 3) (Nat.le_of_ble_eq_true rfl)
  rw [lg_entry_eq]
  generalize (lg_sl ([.ref (ga G 40), .int a1]) ++ List.replicate (3 - (lg_sl ([.ref (ga G 40), .int a1])).length) Slot.unset).toArray = ls at hl ⊢
  have hl : lv_has ls 3 [(0, .ref (ga G 40)), (1, .int a1)] := hl
  unfold f_X0_below_40 at hf
  refine lv_aload_n hx hb dX0_below_0 rfl (lv_at hl 0 rfl) ?_
  refine lv_ldc (v := 1103515245) hx hb hown (ew hE w_3_63 rfl) dX0_below_1 ?_
  refine lv_aload_n hx hb dX0_below_3 rfl (lv_at hl 0 rfl) ?_
  refine gf_49_0 hx hb hE hM hown w_1_162 dX0_below_4 ?_
  refine lv_imul hx hb dX0_below_7 ?_
  refine lv_sipush (v := 12345) hx hb dX0_below_8 (by decide) ?_
  refine lv_iadd hx hb dX0_below_11 ?_
  refine pf_49_0 hx hb hE hM hS hown w_1_162 dX0_below_12 (fun H locs hM hS => ?_)
  refine lv_aload_n hx hb dX0_below_15 rfl (lv_at hl 0 rfl) ?_
  refine gf_49_0 hx hb hE hM hown w_1_162 dX0_below_16 ?_
  refine lv_bipush (v := 16) hx hb dX0_below_19 (by decide) ?_
  refine lv_ishr hx hb dX0_below_21 ?_
  refine lv_sipush (v := 32767) hx hb dX0_below_22 (by decide) ?_
  refine lv_iand hx hb dX0_below_25 ?_
  refine lv_istore_n (lv' := [(2, .int ((((1103515245 * (x 49 0)) + 12345) >>> ((16 : Int32) &&& 31)) &&& 32767)), (0, .ref (ga G 40)), (1, .int a1)]) hx hb dX0_below_26 rfl hl (by decide) rfl (fun ls hl => ?_)
  refine lv_iload_n hx hb dX0_below_27 rfl (lv_at hl 2 rfl) ?_
  refine lv_if_le (tgt := 37) hx hb dX0_below_28 (by decide) (fun hc_2 => ?_) (fun hc_2 => ?_)
  · replace hf := i_t hf hc_2
    refine lv_iconst (v := 0) hx hb dX0_below_37 (by decide) ?_
    exact rt_iX hx hb hr hf hM hS dX0_below_38 hlocks
  · replace hf := i_f hf hc_2
    refine lv_iload_n hx hb dX0_below_31 rfl (lv_at hl 0 rfl) ?_
    refine lv_iload_n hx hb dX0_below_32 rfl (lv_at hl 2 rfl) ?_
    obtain ⟨hn_1, hf⟩ := i_n hf
    refine lv_irem hx hb dX0_below_33 hn_1 ?_
    refine lv_goto (tgt := 38) hx hb dX0_below_34 (by decide) ?_
    exact rt_iX hx hb hr hf hM hS dX0_below_38 hlocks
theorem k_X0_below_40 {p : Program} {l : Launch} {e : Env} {R : Room} {s : State} {m : MethodId} {args : Array Value} {below : List Frame} {meth : Method} {c : Code} {H : Heap} {locs : List Loc} {cells slots : Nat} {Q : State → Prop} {cc : ByteArray} {pc nL : Nat} {ls : Array Slot} {rest : List Value} {G : GG} {fu nw : Nat} {x x' mo : Me} {own : String} {index : Nat} {a1 : Int32} {r : Int32} (hx : p.tables.exec = Jvm.exec) (hb : c.code = cc) (hml : c.maxLocals = nL) (hown : s.vm.findClass own = some m.cls) (hE : EnvP G s) (hM : MemP G nw x mo H) (hS : va_S (gA G) s.heap H locs) (hw : Cond.methodLink own index yX0_below ∈ lw_tbl) (hf : f_X0_below_40 fu nw x a1 = some (x', r)) (h1 : 0 + 1 ≤ R.frames) (h2 : 8 + (3 + 11) + 0 ≤ R.locals) (hsz : ls.size = nL) (hW : (rest.map fun v => v.category).sum ≤ 8) (hcs : cells ≤ R.cells ∧ slots ≤ R.slots) (hdg : decode cc pc = .ok (.invokevirtual index, 3)) (kk : ∀ (H1 : Heap) (locs1 : List Loc), MemP G nw x' mo H1 → va_S (gA G) s.heap H1 locs1 → W p l e R s m args below meth c H1 locs1 cells slots Q (F0 m (pc + 3) ls (.int r :: rest))) : W p l e R s m args below meth c H locs cells slots Q (F0 m pc ls (.int a1 :: .ref (ga G 40) :: rest)) := mm_ki hS (mm_runV (n := 1) (o := 40) (C := RX0) (T := TX0) (N := 1) (ci := 0) (As := [.int a1]) hx hb hml hown hE hM hS (c_X0_below_40 l fu nw G x x' mo a1 r hf) (List.forall_mem_cons.mpr ⟨⟨hw, rfl⟩, List.forall_mem_cons.mpr ⟨⟨w_3_60, rfl⟩, List.forall_mem_cons.mpr ⟨⟨w_3_61, rfl⟩, List.forall_mem_cons.mpr ⟨⟨w_1_8, rfl⟩, List.forall_mem_cons.mpr ⟨⟨w_3_62, rfl⟩, fun _ h => absurd h List.not_mem_nil⟩⟩⟩⟩⟩) rfl rfl ⟨rfl, by decide, by decide, by decide +kernel⟩ ⟨h1, h2⟩ rfl rfl rfl hsz rfl hW hdg hcs) kk
def f_X0_begin_25 (fu nw : Nat) (x : Me) (a1 : Int32) : Option (Me × Unit) := some ((mu x 49 1 a1), ())
def rm_X0_begin_25 : Room := { frames := 0, cells := 0, slots := 0, locals := 0 }
set_option maxHeartbeats 4000000 in
set_option maxRecDepth 100000 in
theorem c_X0_begin_25 (l : Launch) (fu nw : Nat) (G : GG) (x x' mo : Me) (a1 : Int32) (r : Unit) (hf : f_X0_begin_25 fu nw x a1 = some (x', r)) : Met l yX0_begin [.code yX0_begin cX0_begin 2 none] rm_X0_begin_25 (va_Pc [.ref (ga G 25), .int a1] (Pre G nw x mo)) (PV G nw x' mo) 0 0 (gA G) := by
  refine Met.ofW (cc := cX0_begin) (maxL := 2) (ret := none) (by decide) rfl ?_
  intro p e s m args below meth c s₁ B hml hv
  obtain ⟨rfl, hE, hM⟩ := hv
  have hx := B.exec
  have hb := B.bytes
  have hr := B.returns
  have hown : s.vm.findClass RX0 = some m.cls := findClass_of_methodNamed B.named
  have hlocks := B.notSynchronized
  have hS : va_S (gA G) s.heap s.heap [] := va_S.rf
  have hl := lv_entry ([.ref (ga G 25), .int a1]) (n := 2) (Nat.le_of_ble_eq_true rfl)
  rw [lg_entry_eq]
  generalize (lg_sl ([.ref (ga G 25), .int a1]) ++ List.replicate (2 - (lg_sl ([.ref (ga G 25), .int a1])).length) Slot.unset).toArray = ls at hl ⊢
  have hl : lv_has ls 2 [(0, .ref (ga G 25)), (1, .int a1)] := hl
  unfold f_X0_begin_25 at hf
  refine lv_aload_n hx hb dX0_begin_0 rfl (lv_at hl 0 rfl) ?_
  refine lv_iload_n hx hb dX0_begin_1 rfl (lv_at hl 1 rfl) ?_
  refine pf_49_1 hx hb hE hM hS hown w_1_162 dX0_begin_2 (fun H locs hM hS => ?_)
  exact rt_vX hx hb hr hf hM hS dX0_begin_5 hlocks
theorem k_X0_begin_25 {p : Program} {l : Launch} {e : Env} {R : Room} {s : State} {m : MethodId} {args : Array Value} {below : List Frame} {meth : Method} {c : Code} {H : Heap} {locs : List Loc} {cells slots : Nat} {Q : State → Prop} {cc : ByteArray} {pc nL : Nat} {ls : Array Slot} {rest : List Value} {G : GG} {fu nw : Nat} {x x' mo : Me} {own : String} {index : Nat} {a1 : Int32} {r : Unit} (hx : p.tables.exec = Jvm.exec) (hb : c.code = cc) (hml : c.maxLocals = nL) (hown : s.vm.findClass own = some m.cls) (hE : EnvP G s) (hM : MemP G nw x mo H) (hS : va_S (gA G) s.heap H locs) (hw : Cond.methodLink own index yX0_begin ∈ lw_tbl) (hf : f_X0_begin_25 fu nw x a1 = some (x', r)) (h1 : 0 + 1 ≤ R.frames) (h2 : 8 + (2 + 11) + 0 ≤ R.locals) (hsz : ls.size = nL) (hW : (rest.map fun v => v.category).sum ≤ 8) (hcs : cells ≤ R.cells ∧ slots ≤ R.slots) (hdg : decode cc pc = .ok (.invokevirtual index, 3)) (kk : ∀ (H1 : Heap) (locs1 : List Loc), MemP G nw x' mo H1 → va_S (gA G) s.heap H1 locs1 → W p l e R s m args below meth c H1 locs1 cells slots Q (F0 m (pc + 3) ls rest)) : W p l e R s m args below meth c H locs cells slots Q (F0 m pc ls (.int a1 :: .ref (ga G 25) :: rest)) := mm_kv hS (mm_runV (n := 1) (o := 25) (C := RX0) (T := TX0) (N := 1) (ci := 0) (As := [.int a1]) hx hb hml hown hE hM hS (c_X0_begin_25 l fu nw G x x' mo a1 r hf) (List.forall_mem_cons.mpr ⟨⟨hw, rfl⟩, List.forall_mem_cons.mpr ⟨⟨w_3_48, rfl⟩, List.forall_mem_cons.mpr ⟨⟨w_3_49, rfl⟩, List.forall_mem_cons.mpr ⟨⟨w_1_8, rfl⟩, List.forall_mem_cons.mpr ⟨⟨w_3_50, rfl⟩, fun _ h => absurd h List.not_mem_nil⟩⟩⟩⟩⟩) rfl rfl ⟨rfl, by decide, by decide, by decide +kernel⟩ ⟨h1, h2⟩ rfl rfl rfl hsz rfl hW hdg hcs) kk
def f_X0_below_25 (fu nw : Nat) (x : Me) (a1 : Int32) : Option (Me × Int32) := if a1 ≤ 0 then some ((mu x 49 1 ((1103515245 * (x 49 1)) + 12345)), 0) else if ¬ a1 = 0 then some ((mu x 49 1 ((1103515245 * (x 49 1)) + 12345)), ((((1103515245 * (x 49 1)) + 12345) >>> ((16 : Int32) &&& 31)) &&& 32767) - ((((1103515245 * (x 49 1)) + 12345) >>> ((16 : Int32) &&& 31)) &&& 32767) / a1 * a1) else none
def rm_X0_below_25 : Room := { frames := 0, cells := 0, slots := 0, locals := 0 }
set_option maxHeartbeats 4000000 in
set_option maxRecDepth 100000 in
theorem c_X0_below_25 (l : Launch) (fu nw : Nat) (G : GG) (x x' mo : Me) (a1 : Int32) (r : Int32) (hf : f_X0_below_25 fu nw x a1 = some (x', r)) : Met l yX0_below [.code yX0_below cX0_below 3 (some .int)] rm_X0_below_25 (va_Pc [.ref (ga G 25), .int a1] (Pre G nw x mo)) (PI G nw x' mo r) 0 0 (gA G) := by
  refine Met.ofW (cc := cX0_below) (maxL := 3) (ret := (some .int)) (by decide) rfl ?_
  intro p e s m args below meth c s₁ B hml hv
  obtain ⟨rfl, hE, hM⟩ := hv
  have hx := B.exec
  have hb := B.bytes
  have hr := B.returns
  have hown : s.vm.findClass RX0 = some m.cls := findClass_of_methodNamed B.named
  have hlocks := B.notSynchronized
  have hS : va_S (gA G) s.heap s.heap [] := va_S.rf
  have hl := lv_entry ([.ref (ga G 25), .int a1]) (n := 3) (Nat.le_of_ble_eq_true rfl)
  rw [lg_entry_eq]
  generalize (lg_sl ([.ref (ga G 25), .int a1]) ++ List.replicate (3 - (lg_sl ([.ref (ga G 25), .int a1])).length) Slot.unset).toArray = ls at hl ⊢
  have hl : lv_has ls 3 [(0, .ref (ga G 25)), (1, .int a1)] := hl
  unfold f_X0_below_25 at hf
  refine lv_aload_n hx hb dX0_below_0 rfl (lv_at hl 0 rfl) ?_
  refine lv_ldc (v := 1103515245) hx hb hown (ew hE w_3_63 rfl) dX0_below_1 ?_
  refine lv_aload_n hx hb dX0_below_3 rfl (lv_at hl 0 rfl) ?_
  refine gf_49_1 hx hb hE hM hown w_1_162 dX0_below_4 ?_
  refine lv_imul hx hb dX0_below_7 ?_
  refine lv_sipush (v := 12345) hx hb dX0_below_8 (by decide) ?_
  refine lv_iadd hx hb dX0_below_11 ?_
  refine pf_49_1 hx hb hE hM hS hown w_1_162 dX0_below_12 (fun H locs hM hS => ?_)
  refine lv_aload_n hx hb dX0_below_15 rfl (lv_at hl 0 rfl) ?_
  refine gf_49_1 hx hb hE hM hown w_1_162 dX0_below_16 ?_
  refine lv_bipush (v := 16) hx hb dX0_below_19 (by decide) ?_
  refine lv_ishr hx hb dX0_below_21 ?_
  refine lv_sipush (v := 32767) hx hb dX0_below_22 (by decide) ?_
  refine lv_iand hx hb dX0_below_25 ?_
  refine lv_istore_n (lv' := [(2, .int ((((1103515245 * (x 49 1)) + 12345) >>> ((16 : Int32) &&& 31)) &&& 32767)), (0, .ref (ga G 25)), (1, .int a1)]) hx hb dX0_below_26 rfl hl (by decide) rfl (fun ls hl => ?_)
  refine lv_iload_n hx hb dX0_below_27 rfl (lv_at hl 2 rfl) ?_
  refine lv_if_le (tgt := 37) hx hb dX0_below_28 (by decide) (fun hc_2 => ?_) (fun hc_2 => ?_)
  · replace hf := i_t hf hc_2
    refine lv_iconst (v := 0) hx hb dX0_below_37 (by decide) ?_
    exact rt_iX hx hb hr hf hM hS dX0_below_38 hlocks
  · replace hf := i_f hf hc_2
    refine lv_iload_n hx hb dX0_below_31 rfl (lv_at hl 0 rfl) ?_
    refine lv_iload_n hx hb dX0_below_32 rfl (lv_at hl 2 rfl) ?_
    obtain ⟨hn_1, hf⟩ := i_n hf
    refine lv_irem hx hb dX0_below_33 hn_1 ?_
    refine lv_goto (tgt := 38) hx hb dX0_below_34 (by decide) ?_
    exact rt_iX hx hb hr hf hM hS dX0_below_38 hlocks
theorem k_X0_below_25 {p : Program} {l : Launch} {e : Env} {R : Room} {s : State} {m : MethodId} {args : Array Value} {below : List Frame} {meth : Method} {c : Code} {H : Heap} {locs : List Loc} {cells slots : Nat} {Q : State → Prop} {cc : ByteArray} {pc nL : Nat} {ls : Array Slot} {rest : List Value} {G : GG} {fu nw : Nat} {x x' mo : Me} {own : String} {index : Nat} {a1 : Int32} {r : Int32} (hx : p.tables.exec = Jvm.exec) (hb : c.code = cc) (hml : c.maxLocals = nL) (hown : s.vm.findClass own = some m.cls) (hE : EnvP G s) (hM : MemP G nw x mo H) (hS : va_S (gA G) s.heap H locs) (hw : Cond.methodLink own index yX0_below ∈ lw_tbl) (hf : f_X0_below_25 fu nw x a1 = some (x', r)) (h1 : 0 + 1 ≤ R.frames) (h2 : 8 + (3 + 11) + 0 ≤ R.locals) (hsz : ls.size = nL) (hW : (rest.map fun v => v.category).sum ≤ 8) (hcs : cells ≤ R.cells ∧ slots ≤ R.slots) (hdg : decode cc pc = .ok (.invokevirtual index, 3)) (kk : ∀ (H1 : Heap) (locs1 : List Loc), MemP G nw x' mo H1 → va_S (gA G) s.heap H1 locs1 → W p l e R s m args below meth c H1 locs1 cells slots Q (F0 m (pc + 3) ls (.int r :: rest))) : W p l e R s m args below meth c H locs cells slots Q (F0 m pc ls (.int a1 :: .ref (ga G 25) :: rest)) := mm_ki hS (mm_runV (n := 1) (o := 25) (C := RX0) (T := TX0) (N := 1) (ci := 0) (As := [.int a1]) hx hb hml hown hE hM hS (c_X0_below_25 l fu nw G x x' mo a1 r hf) (List.forall_mem_cons.mpr ⟨⟨hw, rfl⟩, List.forall_mem_cons.mpr ⟨⟨w_3_60, rfl⟩, List.forall_mem_cons.mpr ⟨⟨w_3_61, rfl⟩, List.forall_mem_cons.mpr ⟨⟨w_1_8, rfl⟩, List.forall_mem_cons.mpr ⟨⟨w_3_62, rfl⟩, fun _ h => absurd h List.not_mem_nil⟩⟩⟩⟩⟩) rfl rfl ⟨rfl, by decide, by decide, by decide +kernel⟩ ⟨h1, h2⟩ rfl rfl rfl hsz rfl hW hdg hcs) kk
def f_X5_has (fu nw : Nat) (x : Me) (a1 : Int32) : Option (Me × Int32) := if a1 < 0 then some (x, 0) else if (x 15 0) ≤ a1 then some (x, 0) else some (x, 1)
def rm_X5_has : Room := { frames := 0, cells := 0, slots := 0, locals := 0 }
set_option maxHeartbeats 4000000 in
set_option maxRecDepth 100000 in
theorem c_X5_has (l : Launch) (fu nw : Nat) (G : GG) (x x' mo : Me) (a1 : Int32) (r : Int32) (hf : f_X5_has fu nw x a1 = some (x', r)) : Met l yX5_has [.code yX5_has cX5_has 2 (some .boolean)] rm_X5_has (va_Pc [.ref (ga G 9), .int a1] (Pre G nw x mo)) (PI G nw x' mo r) 0 0 (gA G) := by
  refine Met.ofW (cc := cX5_has) (maxL := 2) (ret := (some .boolean)) (by decide) rfl ?_
  intro p e s m args below meth c s₁ B hml hv
  obtain ⟨rfl, hE, hM⟩ := hv
  have hx := B.exec
  have hb := B.bytes
  have hr := B.returns
  have hown : s.vm.findClass RX5 = some m.cls := findClass_of_methodNamed B.named
  have hlocks := B.notSynchronized
  have hS : va_S (gA G) s.heap s.heap [] := va_S.rf
  have hl := lv_entry ([.ref (ga G 9), .int a1]) (n := 2) (Nat.le_of_ble_eq_true rfl)
  rw [lg_entry_eq]
  generalize (lg_sl ([.ref (ga G 9), .int a1]) ++ List.replicate (2 - (lg_sl ([.ref (ga G 9), .int a1])).length) Slot.unset).toArray = ls at hl ⊢
  have hl : lv_has ls 2 [(0, .ref (ga G 9)), (1, .int a1)] := hl
  unfold f_X5_has at hf
  refine lv_iload_n hx hb dX5_has_0 rfl (lv_at hl 1 rfl) ?_
  refine lv_if_lt (tgt := 16) hx hb dX5_has_1 (by decide) (fun hc_2 => ?_) (fun hc_2 => ?_)
  · replace hf := i_t hf hc_2
    refine lv_iconst (v := 0) hx hb dX5_has_16 (by decide) ?_
    exact rt_zX hx hb hr rfl hf hM hS dX5_has_17 hlocks
  · replace hf := i_f hf hc_2
    refine lv_iload_n hx hb dX5_has_4 rfl (lv_at hl 1 rfl) ?_
    refine lv_aload_n hx hb dX5_has_5 rfl (lv_at hl 0 rfl) ?_
    refine gf_15 hx hb hE hM hown w_1_102 dX5_has_6 ?_
    refine lv_icmp_ge (tgt := 16) hx hb dX5_has_9 (by decide) (fun hc_1 => ?_) (fun hc_1 => ?_)
    · replace hf := i_t hf hc_1
      refine lv_iconst (v := 0) hx hb dX5_has_16 (by decide) ?_
      exact rt_zX hx hb hr rfl hf hM hS dX5_has_17 hlocks
    · replace hf := i_f hf hc_1
      refine lv_iconst (v := 1) hx hb dX5_has_12 (by decide) ?_
      refine lv_goto (tgt := 17) hx hb dX5_has_13 (by decide) ?_
      exact rt_zX hx hb hr rfl hf hM hS dX5_has_17 hlocks
theorem k_X5_has {p : Program} {l : Launch} {e : Env} {R : Room} {s : State} {m : MethodId} {args : Array Value} {below : List Frame} {meth : Method} {c : Code} {H : Heap} {locs : List Loc} {cells slots : Nat} {Q : State → Prop} {cc : ByteArray} {pc nL : Nat} {ls : Array Slot} {rest : List Value} {G : GG} {fu nw : Nat} {x x' mo : Me} {own : String} {index : Nat} {a1 : Int32} {r : Int32} (hx : p.tables.exec = Jvm.exec) (hb : c.code = cc) (hml : c.maxLocals = nL) (hown : s.vm.findClass own = some m.cls) (hE : EnvP G s) (hM : MemP G nw x mo H) (hS : va_S (gA G) s.heap H locs) (hw : Cond.methodLink own index yX5_has ∈ lw_tbl) (hf : f_X5_has fu nw x a1 = some (x', r)) (h1 : 0 + 1 ≤ R.frames) (h2 : 8 + (2 + 11) + 0 ≤ R.locals) (hsz : ls.size = nL) (hW : (rest.map fun v => v.category).sum ≤ 8) (hcs : cells ≤ R.cells ∧ slots ≤ R.slots) (hdg : decode cc pc = .ok (.invokevirtual index, 3)) (kk : ∀ (H1 : Heap) (locs1 : List Loc), MemP G nw x' mo H1 → va_S (gA G) s.heap H1 locs1 → W p l e R s m args below meth c H1 locs1 cells slots Q (F0 m (pc + 3) ls (.int r :: rest))) : W p l e R s m args below meth c H locs cells slots Q (F0 m pc ls (.int a1 :: .ref (ga G 9) :: rest)) := mm_ki hS (mm_runV (n := 1) (o := 9) (C := RX5) (T := TX5) (N := 5) (ci := 5) (As := [.int a1]) hx hb hml hown hE hM hS (c_X5_has l fu nw G x x' mo a1 r hf) (List.forall_mem_cons.mpr ⟨⟨hw, rfl⟩, List.forall_mem_cons.mpr ⟨⟨w_3_31, rfl⟩, List.forall_mem_cons.mpr ⟨⟨w_3_32, rfl⟩, List.forall_mem_cons.mpr ⟨⟨w_1_5, rfl⟩, List.forall_mem_cons.mpr ⟨⟨w_3_33, rfl⟩, fun _ h => absurd h List.not_mem_nil⟩⟩⟩⟩⟩) rfl rfl ⟨rfl, by decide, by decide, by decide +kernel⟩ ⟨h1, h2⟩ rfl rfl rfl hsz rfl hW hdg hcs) kk
def f_X5_addHorse (fu nw : Nat) (x : Me) (a1 : Int32) : Option (Me × Int32) := if (x 15 0) < 16 then if inb (x 15 0) 16 = true then some ((mu (mu (mu x 16 ((x 15 0).toNatClampNeg) a1) 17 ((x 15 0).toNatClampNeg) (vp_nar .boolean 1)) 15 0 ((x 15 0) + 1)), ((x 15 0) + 1) - 1) else none else some (x, (-1))
def rm_X5_addHorse : Room := { frames := 0, cells := 0, slots := 0, locals := 0 }
set_option maxHeartbeats 4000000 in
set_option maxRecDepth 100000 in
theorem c_X5_addHorse (l : Launch) (fu nw : Nat) (G : GG) (x x' mo : Me) (a1 : Int32) (r : Int32) (hf : f_X5_addHorse fu nw x a1 = some (x', r)) : Met l yX5_addHorse [.code yX5_addHorse cX5_addHorse 2 (some .int)] rm_X5_addHorse (va_Pc [.ref (ga G 9), .int a1] (Pre G nw x mo)) (PI G nw x' mo r) 0 0 (gA G) := by
  refine Met.ofW (cc := cX5_addHorse) (maxL := 2) (ret := (some .int)) (by decide) rfl ?_
  intro p e s m args below meth c s₁ B hml hv
  obtain ⟨rfl, hE, hM⟩ := hv
  have hx := B.exec
  have hb := B.bytes
  have hr := B.returns
  have hown : s.vm.findClass RX5 = some m.cls := findClass_of_methodNamed B.named
  have hlocks := B.notSynchronized
  have hS : va_S (gA G) s.heap s.heap [] := va_S.rf
  have hl := lv_entry ([.ref (ga G 9), .int a1]) (n := 2) (Nat.le_of_ble_eq_true rfl)
  rw [lg_entry_eq]
  generalize (lg_sl ([.ref (ga G 9), .int a1]) ++ List.replicate (2 - (lg_sl ([.ref (ga G 9), .int a1])).length) Slot.unset).toArray = ls at hl ⊢
  have hl : lv_has ls 2 [(0, .ref (ga G 9)), (1, .int a1)] := hl
  unfold f_X5_addHorse at hf
  refine lv_aload_n hx hb dX5_addHorse_0 rfl (lv_at hl 0 rfl) ?_
  refine gf_15 hx hb hE hM hown w_1_102 dX5_addHorse_1 ?_
  refine lv_bipush (v := 16) hx hb dX5_addHorse_4 (by decide) ?_
  refine lv_icmp_lt (tgt := 11) hx hb dX5_addHorse_6 (by decide) (fun hc_2 => ?_) (fun hc_2 => ?_)
  · replace hf := i_t hf hc_2
    refine lv_aload_n hx hb dX5_addHorse_11 rfl (lv_at hl 0 rfl) ?_
    refine gr_10 hx hb hE hM hown w_1_104 dX5_addHorse_12 ?_
    refine lv_aload_n hx hb dX5_addHorse_15 rfl (lv_at hl 0 rfl) ?_
    refine gf_15 hx hb hE hM hown w_1_102 dX5_addHorse_16 ?_
    refine lv_iload_n hx hb dX5_addHorse_19 rfl (lv_at hl 1 rfl) ?_
    obtain ⟨hi_1, hf⟩ := i_n hf
    refine sa_10 hx hb hE hM hS hi_1 dX5_addHorse_20 (fun H locs hM hS => ?_)
    refine lv_aload_n hx hb dX5_addHorse_21 rfl (lv_at hl 0 rfl) ?_
    refine gr_11 hx hb hE hM hown w_1_105 dX5_addHorse_22 ?_
    refine lv_aload_n hx hb dX5_addHorse_25 rfl (lv_at hl 0 rfl) ?_
    refine gf_15 hx hb hE hM hown w_1_102 dX5_addHorse_26 ?_
    refine lv_iconst (v := 1) hx hb dX5_addHorse_29 (by decide) ?_
    refine sa_11 hx hb hE hM hS hi_1 dX5_addHorse_30 (fun H locs hM hS => ?_)
    refine lv_aload_n hx hb dX5_addHorse_31 rfl (lv_at hl 0 rfl) ?_
    refine lv_dup hx hb dX5_addHorse_32 rfl ?_
    refine gf_15 hx hb hE hM hown w_1_102 dX5_addHorse_33 ?_
    refine lv_iconst (v := 1) hx hb dX5_addHorse_36 (by decide) ?_
    refine lv_iadd hx hb dX5_addHorse_37 ?_
    refine pf_15 hx hb hE hM hS hown w_1_102 dX5_addHorse_38 (fun H locs hM hS => ?_)
    refine lv_aload_n hx hb dX5_addHorse_41 rfl (lv_at hl 0 rfl) ?_
    refine gf_15 hx hb hE hM hown w_1_102 dX5_addHorse_42 ?_
    refine lv_iconst (v := 1) hx hb dX5_addHorse_45 (by decide) ?_
    refine lv_isub hx hb dX5_addHorse_46 ?_
    exact rt_iX hx hb hr hf hM hS dX5_addHorse_47 hlocks
  · replace hf := i_f hf hc_2
    refine lv_iconst (v := (-1)) hx hb dX5_addHorse_9 (by decide) ?_
    exact rt_iX hx hb hr hf hM hS dX5_addHorse_10 hlocks
theorem k_X5_addHorse {p : Program} {l : Launch} {e : Env} {R : Room} {s : State} {m : MethodId} {args : Array Value} {below : List Frame} {meth : Method} {c : Code} {H : Heap} {locs : List Loc} {cells slots : Nat} {Q : State → Prop} {cc : ByteArray} {pc nL : Nat} {ls : Array Slot} {rest : List Value} {G : GG} {fu nw : Nat} {x x' mo : Me} {own : String} {index : Nat} {a1 : Int32} {r : Int32} (hx : p.tables.exec = Jvm.exec) (hb : c.code = cc) (hml : c.maxLocals = nL) (hown : s.vm.findClass own = some m.cls) (hE : EnvP G s) (hM : MemP G nw x mo H) (hS : va_S (gA G) s.heap H locs) (hw : Cond.methodLink own index yX5_addHorse ∈ lw_tbl) (hf : f_X5_addHorse fu nw x a1 = some (x', r)) (h1 : 0 + 1 ≤ R.frames) (h2 : 8 + (2 + 11) + 0 ≤ R.locals) (hsz : ls.size = nL) (hW : (rest.map fun v => v.category).sum ≤ 8) (hcs : cells ≤ R.cells ∧ slots ≤ R.slots) (hdg : decode cc pc = .ok (.invokevirtual index, 3)) (kk : ∀ (H1 : Heap) (locs1 : List Loc), MemP G nw x' mo H1 → va_S (gA G) s.heap H1 locs1 → W p l e R s m args below meth c H1 locs1 cells slots Q (F0 m (pc + 3) ls (.int r :: rest))) : W p l e R s m args below meth c H locs cells slots Q (F0 m pc ls (.int a1 :: .ref (ga G 9) :: rest)) := mm_ki hS (mm_runV (n := 1) (o := 9) (C := RX5) (T := TX5) (N := 5) (ci := 5) (As := [.int a1]) hx hb hml hown hE hM hS (c_X5_addHorse l fu nw G x x' mo a1 r hf) (List.forall_mem_cons.mpr ⟨⟨hw, rfl⟩, List.forall_mem_cons.mpr ⟨⟨w_3_23, rfl⟩, List.forall_mem_cons.mpr ⟨⟨w_3_24, rfl⟩, List.forall_mem_cons.mpr ⟨⟨w_1_5, rfl⟩, List.forall_mem_cons.mpr ⟨⟨w_3_25, rfl⟩, fun _ h => absurd h List.not_mem_nil⟩⟩⟩⟩⟩) rfl rfl ⟨rfl, by decide, by decide, by decide +kernel⟩ ⟨h1, h2⟩ rfl rfl rfl hsz rfl hW hdg hcs) kk
def f_X5_markOf (fu nw : Nat) (x : Me) (a1 : Int32) : Option (Me × Int32) := ob (f_X5_has fu nw x a1) (fun x_1 r_1 => if r_1 = 0 then some (x_1, 0) else if inb a1 16 = true then some (x_1, x_1 16 a1.toNatClampNeg) else none)
def rm_X5_markOf : Room := { frames := 1, cells := 0, slots := 0, locals := 21 }
set_option maxHeartbeats 4000000 in
set_option maxRecDepth 100000 in
theorem c_X5_markOf (l : Launch) (fu nw : Nat) (G : GG) (x x' mo : Me) (a1 : Int32) (r : Int32) (hf : f_X5_markOf fu nw x a1 = some (x', r)) : Met l yX5_markOf [.code yX5_markOf cX5_markOf 2 (some .int)] rm_X5_markOf (va_Pc [.ref (ga G 9), .int a1] (Pre G nw x mo)) (PI G nw x' mo r) 0 0 (gA G) := by
  refine Met.ofW (cc := cX5_markOf) (maxL := 2) (ret := (some .int)) (by decide) rfl ?_
  intro p e s m args below meth c s₁ B hml hv
  obtain ⟨rfl, hE, hM⟩ := hv
  have hx := B.exec
  have hb := B.bytes
  have hr := B.returns
  have hown : s.vm.findClass RX5 = some m.cls := findClass_of_methodNamed B.named
  have hlocks := B.notSynchronized
  have hS : va_S (gA G) s.heap s.heap [] := va_S.rf
  have hl := lv_entry ([.ref (ga G 9), .int a1]) (n := 2) (Nat.le_of_ble_eq_true rfl)
  rw [lg_entry_eq]
  generalize (lg_sl ([.ref (ga G 9), .int a1]) ++ List.replicate (2 - (lg_sl ([.ref (ga G 9), .int a1])).length) Slot.unset).toArray = ls at hl ⊢
  have hl : lv_has ls 2 [(0, .ref (ga G 9)), (1, .int a1)] := hl
  unfold f_X5_markOf at hf
  refine lv_aload_n hx hb dX5_markOf_0 rfl (lv_at hl 0 rfl) ?_
  refine lv_iload_n hx hb dX5_markOf_1 rfl (lv_at hl 1 rfl) ?_
  obtain ⟨x_1, r_1, hq_1, hf⟩ := ob_some hf
  refine k_X5_has hx hb hml hown hE hM hS w_3_205 hq_1 (Nat.le_of_ble_eq_true rfl) (Nat.le_of_ble_eq_true rfl) hl.1 (Nat.le_of_ble_eq_true rfl) ⟨Nat.zero_le _, Nat.zero_le _⟩ dX5_markOf_2 (fun H locs hM hS => ?_)
  refine lv_if_eq (tgt := 17) hx hb dX5_markOf_5 (by decide) (fun hc_3 => ?_) (fun hc_3 => ?_)
  · replace hf := i_t hf hc_3
    refine lv_iconst (v := 0) hx hb dX5_markOf_17 (by decide) ?_
    exact rt_iX hx hb hr hf hM hS dX5_markOf_18 hlocks
  · replace hf := i_f hf hc_3
    refine lv_aload_n hx hb dX5_markOf_8 rfl (lv_at hl 0 rfl) ?_
    refine gr_10 hx hb hE hM hown w_1_104 dX5_markOf_9 ?_
    refine lv_iload_n hx hb dX5_markOf_12 rfl (lv_at hl 1 rfl) ?_
    obtain ⟨hi_2, hf⟩ := i_n hf
    refine la_10 hx hb hE hM hi_2 dX5_markOf_13 ?_
    refine lv_goto (tgt := 18) hx hb dX5_markOf_14 (by decide) ?_
    exact rt_iX hx hb hr hf hM hS dX5_markOf_18 hlocks
theorem k_X5_markOf {p : Program} {l : Launch} {e : Env} {R : Room} {s : State} {m : MethodId} {args : Array Value} {below : List Frame} {meth : Method} {c : Code} {H : Heap} {locs : List Loc} {cells slots : Nat} {Q : State → Prop} {cc : ByteArray} {pc nL : Nat} {ls : Array Slot} {rest : List Value} {G : GG} {fu nw : Nat} {x x' mo : Me} {own : String} {index : Nat} {a1 : Int32} {r : Int32} (hx : p.tables.exec = Jvm.exec) (hb : c.code = cc) (hml : c.maxLocals = nL) (hown : s.vm.findClass own = some m.cls) (hE : EnvP G s) (hM : MemP G nw x mo H) (hS : va_S (gA G) s.heap H locs) (hw : Cond.methodLink own index yX5_markOf ∈ lw_tbl) (hf : f_X5_markOf fu nw x a1 = some (x', r)) (h1 : 1 + 1 ≤ R.frames) (h2 : 8 + (2 + 11) + 21 ≤ R.locals) (hsz : ls.size = nL) (hW : (rest.map fun v => v.category).sum ≤ 8) (hcs : cells ≤ R.cells ∧ slots ≤ R.slots) (hdg : decode cc pc = .ok (.invokevirtual index, 3)) (kk : ∀ (H1 : Heap) (locs1 : List Loc), MemP G nw x' mo H1 → va_S (gA G) s.heap H1 locs1 → W p l e R s m args below meth c H1 locs1 cells slots Q (F0 m (pc + 3) ls (.int r :: rest))) : W p l e R s m args below meth c H locs cells slots Q (F0 m pc ls (.int a1 :: .ref (ga G 9) :: rest)) := mm_ki hS (mm_runV (n := 1) (o := 9) (C := RX5) (T := TX5) (N := 5) (ci := 5) (As := [.int a1]) hx hb hml hown hE hM hS (c_X5_markOf l fu nw G x x' mo a1 r hf) (List.forall_mem_cons.mpr ⟨⟨hw, rfl⟩, List.forall_mem_cons.mpr ⟨⟨w_3_202, rfl⟩, List.forall_mem_cons.mpr ⟨⟨w_3_203, rfl⟩, List.forall_mem_cons.mpr ⟨⟨w_1_5, rfl⟩, List.forall_mem_cons.mpr ⟨⟨w_3_204, rfl⟩, fun _ h => absurd h List.not_mem_nil⟩⟩⟩⟩⟩) rfl rfl ⟨rfl, by decide, by decide, by decide +kernel⟩ ⟨h1, h2⟩ rfl rfl rfl hsz rfl hW hdg hcs) kk
