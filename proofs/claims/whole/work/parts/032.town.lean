def f_X9_mayBeChosen (fu nw : Nat) (x : Me) (rt : Nat) (a1 : Int32) : Option (Me × Int32) := if rt < nw then if a1 ≤ (x 53 rt) then some (x, 0) else if (x 50 rt) = 0 then some (x, 1) else some (x, 0) else none
def rm_X9_mayBeChosen : Room := { frames := 0, cells := 0, slots := 0, locals := 0 }
set_option maxHeartbeats 4000000 in
set_option maxRecDepth 100000 in
theorem c_X9_mayBeChosen (l : Launch) (fu nw : Nat) (G : GG) (x x' mo : Me) (rt : Nat) (a1 : Int32) (r : Int32) (hf : f_X9_mayBeChosen fu nw x rt a1 = some (x', r)) : Met l yX9_mayBeChosen [.code yX9_mayBeChosen cX9_mayBeChosen 2 (some .boolean)] rm_X9_mayBeChosen (va_Pc [.ref (ga G (69 + rt)), .int a1] (Pre G nw x mo)) (PI G nw x' mo r) 0 0 (gA G) := by
  refine mt_ofW (cc := cX9_mayBeChosen) (maxL := 2) (ret := (some .boolean)) (by decide +kernel) rfl ?_
  intro p e s m args below meth c s₁ B hml hv
  obtain ⟨rfl, hE, hM⟩ := hv
  have hx := B.exec
  have hb := B.bytes
  have hr := B.returns
  have hown : s.vm.findClass RX9 = some m.cls := findClass_of_methodNamed B.named
  have hlocks := B.notSynchronized
  have hS : va_S (gA G) s.heap s.heap [] := va_S.rf
  have hl := lv_entry ([.ref (ga G (69 + rt)), .int a1]) (n := 2) (Nat.le_of_ble_eq_true rfl)
  rw [lg_entry_eq]
  generalize (lg_sl ([.ref (ga G (69 + rt)), .int a1]) ++ List.replicate (2 - (lg_sl ([.ref (ga G (69 + rt)), .int a1])).length) Slot.unset).toArray = ls at hl ⊢
  have hl : lv_has ls 2 [(0, .ref (ga G (69 + rt))), (1, .int a1)] := hl
  generalize ([.ref (ga G (69 + rt)), .int a1] : List Value).toArray = args
  unfold f_X9_mayBeChosen at hf
  obtain ⟨hm_1, hf⟩ := i_n hf
  refine lv_aload_n hx hb dX9_mayBeChosen_0 rfl (lv_at hl 0 rfl) ?_
  refine gf_53 hm_1 hx hb hE hM hown w_2_238 dX9_mayBeChosen_1 ?_
  refine lv_iload_n hx hb dX9_mayBeChosen_4 rfl (lv_at hl 1 rfl) ?_
  refine lv_icmp_ge (tgt := 19) hx hb dX9_mayBeChosen_5 (by decide) (fun hc_3 => ?_) (fun hc_3 => ?_)
  · replace hf := i_t hf hc_3
    refine lv_iconst (v := 0) hx hb dX9_mayBeChosen_19 (by decide) ?_
    exact rt_zX hx hb hr rfl hf hM hS dX9_mayBeChosen_20 hlocks
  · replace hf := i_f hf hc_3
    refine lv_aload_n hx hb dX9_mayBeChosen_8 rfl (lv_at hl 0 rfl) ?_
    refine gf_50 hm_1 hx hb hE hM hown w_2_228 dX9_mayBeChosen_9 ?_
    refine lv_if_ne (tgt := 19) hx hb dX9_mayBeChosen_12 (by decide) (fun hc_2 => ?_) (fun hc_2 => ?_)
    · replace hf := i_f hf hc_2
      refine lv_iconst (v := 0) hx hb dX9_mayBeChosen_19 (by decide) ?_
      exact rt_zX hx hb hr rfl hf hM hS dX9_mayBeChosen_20 hlocks
    · replace hf := i_t hf hc_2
      refine lv_iconst (v := 1) hx hb dX9_mayBeChosen_15 (by decide) ?_
      refine lv_goto (tgt := 20) hx hb dX9_mayBeChosen_16 (by decide) ?_
      exact rt_zX hx hb hr rfl hf hM hS dX9_mayBeChosen_20 hlocks
theorem k_X9_mayBeChosen {p : Program} {l : Launch} {e : Env} {R : Room} {s : State} {m : MethodId} {args : Array Value} {below : List Frame} {meth : Method} {c : Code} {H : Heap} {locs : List Loc} {cells slots : Nat} {Q : State → Prop} {cc : ByteArray} {pc nL : Nat} {ls : Array Slot} {rest : List Value} {G : GG} {fu nw : Nat} {x x' mo : Me} {own : String} {index : Nat} {rt : Nat} {a1 : Int32} {r : Int32} (hi : rt < nw) (hx : p.tables.exec = Jvm.exec) (hb : c.code = cc) (hml : c.maxLocals = nL) (hown : s.vm.findClass own = some m.cls) (hE : EnvP G s) (hM : MemP G nw x mo H) (hS : va_S (gA G) s.heap H locs) (hw : Cond.methodLink own index yX9_mayBeChosen ∈ lw_tbl) (hf : f_X9_mayBeChosen fu nw x rt a1 = some (x', r)) (h1 : 0 + 1 ≤ R.frames) (h2 : 8 + (2 + 11) + 0 ≤ R.locals) (hsz : ls.size = nL) (hW : (rest.map fun v => v.category).sum ≤ 8) (hcs : cells ≤ R.cells ∧ slots ≤ R.slots) (hdg : decode cc pc = .ok (.invokevirtual index, 3)) (kk : ∀ (H1 : Heap) (locs1 : List Loc), MemP G nw x' mo H1 → va_S (gA G) s.heap H1 locs1 → W p l e R s m args below meth c H1 locs1 cells slots Q (F0 m (pc + 3) ls (.int r :: rest))) : W p l e R s m args below meth c H locs cells slots Q (F0 m pc ls (.int a1 :: .ref (ga G (69 + rt)) :: rest)) := mm_ki hS (mm_runV (n := 1) (o := 69 + rt) (C := RX9) (T := TX9) (N := 6) (ci := 9) (As := [.int a1]) hx hb hml hown hE hM hS (c_X9_mayBeChosen l fu nw G x x' mo rt a1 _ hf) (List.forall_mem_cons.mpr ⟨⟨hw, rfl⟩, List.forall_mem_cons.mpr ⟨⟨w_3_43, rfl⟩, List.forall_mem_cons.mpr ⟨⟨w_3_44, rfl⟩, List.forall_mem_cons.mpr ⟨⟨w_1_19, rfl⟩, List.forall_mem_cons.mpr ⟨⟨w_3_45, rfl⟩, fun _ h => absurd h List.not_mem_nil⟩⟩⟩⟩⟩) rfl rfl ⟨rfl, by decide, by decide, by decide +kernel⟩ ⟨h1, h2⟩ (e_wd hi) rfl rfl hsz rfl hW hdg hcs) kk
def f_X8_has (fu nw : Nat) (x : Me) (a1 : Int32) : Option (Me × Int32) := if a1 < 0 then some (x, 0) else if (x 13 0) ≤ a1 then some (x, 0) else some (x, 1)
def rm_X8_has : Room := { frames := 0, cells := 0, slots := 0, locals := 0 }
set_option maxHeartbeats 4000000 in
set_option maxRecDepth 100000 in
theorem c_X8_has (l : Launch) (fu nw : Nat) (G : GG) (x x' mo : Me) (a1 : Int32) (r : Int32) (hf : f_X8_has fu nw x a1 = some (x', r)) : Met l yX8_has [.code yX8_has cX8_has 2 (some .boolean)] rm_X8_has (va_Pc [.ref (ga G 7), .int a1] (Pre G nw x mo)) (PI G nw x' mo r) 0 0 (gA G) := by
  refine mt_ofW (cc := cX8_has) (maxL := 2) (ret := (some .boolean)) (by decide +kernel) rfl ?_
  intro p e s m args below meth c s₁ B hml hv
  obtain ⟨rfl, hE, hM⟩ := hv
  have hx := B.exec
  have hb := B.bytes
  have hr := B.returns
  have hown : s.vm.findClass RX8 = some m.cls := findClass_of_methodNamed B.named
  have hlocks := B.notSynchronized
  have hS : va_S (gA G) s.heap s.heap [] := va_S.rf
  have hl := lv_entry ([.ref (ga G 7), .int a1]) (n := 2) (Nat.le_of_ble_eq_true rfl)
  rw [lg_entry_eq]
  generalize (lg_sl ([.ref (ga G 7), .int a1]) ++ List.replicate (2 - (lg_sl ([.ref (ga G 7), .int a1])).length) Slot.unset).toArray = ls at hl ⊢
  have hl : lv_has ls 2 [(0, .ref (ga G 7)), (1, .int a1)] := hl
  generalize ([.ref (ga G 7), .int a1] : List Value).toArray = args
  unfold f_X8_has at hf
  refine lv_iload_n hx hb dX8_has_0 rfl (lv_at hl 1 rfl) ?_
  refine lv_if_lt (tgt := 16) hx hb dX8_has_1 (by decide) (fun hc_2 => ?_) (fun hc_2 => ?_)
  · replace hf := i_t hf hc_2
    refine lv_iconst (v := 0) hx hb dX8_has_16 (by decide) ?_
    exact rt_zX hx hb hr rfl hf hM hS dX8_has_17 hlocks
  · replace hf := i_f hf hc_2
    refine lv_iload_n hx hb dX8_has_4 rfl (lv_at hl 1 rfl) ?_
    refine lv_aload_n hx hb dX8_has_5 rfl (lv_at hl 0 rfl) ?_
    refine gf_13 hx hb hE hM hown w_1_87 dX8_has_6 ?_
    refine lv_icmp_ge (tgt := 16) hx hb dX8_has_9 (by decide) (fun hc_1 => ?_) (fun hc_1 => ?_)
    · replace hf := i_t hf hc_1
      refine lv_iconst (v := 0) hx hb dX8_has_16 (by decide) ?_
      exact rt_zX hx hb hr rfl hf hM hS dX8_has_17 hlocks
    · replace hf := i_f hf hc_1
      refine lv_iconst (v := 1) hx hb dX8_has_12 (by decide) ?_
      refine lv_goto (tgt := 17) hx hb dX8_has_13 (by decide) ?_
      exact rt_zX hx hb hr rfl hf hM hS dX8_has_17 hlocks
theorem k_X8_has {p : Program} {l : Launch} {e : Env} {R : Room} {s : State} {m : MethodId} {args : Array Value} {below : List Frame} {meth : Method} {c : Code} {H : Heap} {locs : List Loc} {cells slots : Nat} {Q : State → Prop} {cc : ByteArray} {pc nL : Nat} {ls : Array Slot} {rest : List Value} {G : GG} {fu nw : Nat} {x x' mo : Me} {own : String} {index : Nat} {a1 : Int32} {r : Int32} (hx : p.tables.exec = Jvm.exec) (hb : c.code = cc) (hml : c.maxLocals = nL) (hown : s.vm.findClass own = some m.cls) (hE : EnvP G s) (hM : MemP G nw x mo H) (hS : va_S (gA G) s.heap H locs) (hw : Cond.methodLink own index yX8_has ∈ lw_tbl) (hf : f_X8_has fu nw x a1 = some (x', r)) (h1 : 0 + 1 ≤ R.frames) (h2 : 8 + (2 + 11) + 0 ≤ R.locals) (hsz : ls.size = nL) (hW : (rest.map fun v => v.category).sum ≤ 8) (hcs : cells ≤ R.cells ∧ slots ≤ R.slots) (hdg : decode cc pc = .ok (.invokevirtual index, 3)) (kk : ∀ (H1 : Heap) (locs1 : List Loc), MemP G nw x' mo H1 → va_S (gA G) s.heap H1 locs1 → W p l e R s m args below meth c H1 locs1 cells slots Q (F0 m (pc + 3) ls (.int r :: rest))) : W p l e R s m args below meth c H locs cells slots Q (F0 m pc ls (.int a1 :: .ref (ga G 7) :: rest)) := mm_ki hS (mm_runV (n := 1) (o := 7) (C := RX8) (T := TX8) (N := 2) (ci := 8) (As := [.int a1]) hx hb hml hown hE hM hS (c_X8_has l fu nw G x x' mo a1 _ hf) (List.forall_mem_cons.mpr ⟨⟨hw, rfl⟩, List.forall_mem_cons.mpr ⟨⟨w_3_73, rfl⟩, List.forall_mem_cons.mpr ⟨⟨w_3_74, rfl⟩, List.forall_mem_cons.mpr ⟨⟨w_1_4, rfl⟩, List.forall_mem_cons.mpr ⟨⟨w_3_75, rfl⟩, fun _ h => absurd h List.not_mem_nil⟩⟩⟩⟩⟩) rfl rfl ⟨rfl, by decide, by decide, by decide +kernel⟩ ⟨h1, h2⟩ rfl rfl rfl hsz rfl hW hdg hcs) kk
def f_X8_find (fu nw : Nat) (x : Me) (a1 : Int32) : Option (Me × Option Nat) := ob (f_X8_has fu nw x a1) (fun x_1 r_1 => if r_1 = 0 then some (x_1, none) else if inb a1 17 = true then if a1.toNatClampNeg < nw then some (x_1, some a1.toNatClampNeg) else some (x_1, none) else none)
def rm_X8_find : Room := { frames := 1, cells := 0, slots := 0, locals := 21 }
set_option maxHeartbeats 4000000 in
set_option maxRecDepth 100000 in
theorem c_X8_find (l : Launch) (fu nw : Nat) (G : GG) (x x' mo : Me) (a1 : Int32) (r : Option Nat) (hf : f_X8_find fu nw x a1 = some (x', r)) : Met l yX8_find [.code yX8_find cX8_find 2 (some (.object "RopeRace$Ward"))] rm_X8_find (va_Pc [.ref (ga G 7), .int a1] (Pre G nw x mo)) (PQ G nw x' mo (r.map (fun j => ga G (69 + j)))) 0 0 (gA G) := by
  refine mt_ofW (cc := cX8_find) (maxL := 2) (ret := (some (.object "RopeRace$Ward"))) (by decide +kernel) rfl ?_
  intro p e s m args below meth c s₁ B hml hv
  obtain ⟨rfl, hE, hM⟩ := hv
  have hx := B.exec
  have hb := B.bytes
  have hr := B.returns
  have hown : s.vm.findClass RX8 = some m.cls := findClass_of_methodNamed B.named
  have hlocks := B.notSynchronized
  have hS : va_S (gA G) s.heap s.heap [] := va_S.rf
  have hl := lv_entry ([.ref (ga G 7), .int a1]) (n := 2) (Nat.le_of_ble_eq_true rfl)
  rw [lg_entry_eq]
  generalize (lg_sl ([.ref (ga G 7), .int a1]) ++ List.replicate (2 - (lg_sl ([.ref (ga G 7), .int a1])).length) Slot.unset).toArray = ls at hl ⊢
  have hl : lv_has ls 2 [(0, .ref (ga G 7)), (1, .int a1)] := hl
  generalize ([.ref (ga G 7), .int a1] : List Value).toArray = args
  unfold f_X8_find at hf
  refine lv_aload_n hx hb dX8_find_0 rfl (lv_at hl 0 rfl) ?_
  refine lv_iload_n hx hb dX8_find_1 rfl (lv_at hl 1 rfl) ?_
  obtain ⟨x_1, r_1, hq_1, hf⟩ := ob_some hf
  refine k_X8_has hx hb hml hown hE hM hS w_3_72 hq_1 (Nat.le_of_ble_eq_true rfl) (Nat.le_of_ble_eq_true rfl) hl.1 (Nat.le_of_ble_eq_true rfl) ⟨Nat.zero_le _, Nat.zero_le _⟩ dX8_find_2 (fun H locs hM hS => ?_)
  refine lv_if_eq (tgt := 17) hx hb dX8_find_5 (by decide) (fun hc_4 => ?_) (fun hc_4 => ?_)
  · replace hf := i_t hf hc_4
    refine lv_null hx hb dX8_find_17 ?_
    exact rt_q (o := none) (g := fun j => ga G (69 + j)) hx hb hr hf hM hS dX8_find_18 hlocks
  · replace hf := i_f hf hc_4
    refine lv_aload_n hx hb dX8_find_8 rfl (lv_at hl 0 rfl) ?_
    refine gr_8 hx hb hE hM hown w_1_90 dX8_find_9 ?_
    refine lv_iload_n hx hb dX8_find_12 rfl (lv_at hl 1 rfl) ?_
    obtain ⟨hi_2, hf⟩ := i_n hf
    refine mm_wald hx hb hE hM hi_2 dX8_find_13 (fun hc_3 => ?_) (fun hc_3 => ?_)
    · replace hf := i_t hf hc_3
      refine lv_goto (tgt := 18) hx hb dX8_find_14 (by decide) ?_
      exact rt_q (o := some a1.toNatClampNeg) (g := fun j => ga G (69 + j)) hx hb hr hf hM hS dX8_find_18 hlocks
    · replace hf := i_f hf hc_3
      refine lv_goto (tgt := 18) hx hb dX8_find_14 (by decide) ?_
      exact rt_q (o := none) (g := fun j => ga G (69 + j)) hx hb hr hf hM hS dX8_find_18 hlocks
theorem k_X8_find {p : Program} {l : Launch} {e : Env} {R : Room} {s : State} {m : MethodId} {args : Array Value} {below : List Frame} {meth : Method} {c : Code} {H : Heap} {locs : List Loc} {cells slots : Nat} {Q : State → Prop} {cc : ByteArray} {pc nL : Nat} {ls : Array Slot} {rest : List Value} {G : GG} {fu nw : Nat} {x x' mo : Me} {own : String} {index : Nat} {a1 : Int32} {r : Option Nat} (hx : p.tables.exec = Jvm.exec) (hb : c.code = cc) (hml : c.maxLocals = nL) (hown : s.vm.findClass own = some m.cls) (hE : EnvP G s) (hM : MemP G nw x mo H) (hS : va_S (gA G) s.heap H locs) (hw : Cond.methodLink own index yX8_find ∈ lw_tbl) (hf : f_X8_find fu nw x a1 = some (x', r)) (h1 : 1 + 1 ≤ R.frames) (h2 : 8 + (2 + 11) + 21 ≤ R.locals) (hsz : ls.size = nL) (hW : (rest.map fun v => v.category).sum ≤ 8) (hcs : cells ≤ R.cells ∧ slots ≤ R.slots) (hdg : decode cc pc = .ok (.invokevirtual index, 3)) (k1 : r = none → ∀ (H1 : Heap) (locs1 : List Loc), MemP G nw x' mo H1 → va_S (gA G) s.heap H1 locs1 → W p l e R s m args below meth c H1 locs1 cells slots Q (F0 m (pc + 3) ls (.null :: rest))) (k2 : ∀ j : Nat, r = some j → ∀ (H1 : Heap) (locs1 : List Loc), MemP G nw x' mo H1 → va_S (gA G) s.heap H1 locs1 → W p l e R s m args below meth c H1 locs1 cells slots Q (F0 m (pc + 3) ls (.ref (ga G (69 + j)) :: rest))) : W p l e R s m args below meth c H locs cells slots Q (F0 m pc ls (.int a1 :: .ref (ga G 7) :: rest)) := by
  cases r with
  | none => exact mm_kq hS (mm_runV (n := 1) (o := 7) (C := RX8) (T := TX8) (N := 2) (ci := 8) (As := [.int a1]) hx hb hml hown hE hM hS (c_X8_find l fu nw G x x' mo a1 _ hf) (List.forall_mem_cons.mpr ⟨⟨hw, rfl⟩, List.forall_mem_cons.mpr ⟨⟨w_3_69, rfl⟩, List.forall_mem_cons.mpr ⟨⟨w_3_70, rfl⟩, List.forall_mem_cons.mpr ⟨⟨w_1_4, rfl⟩, List.forall_mem_cons.mpr ⟨⟨w_3_71, rfl⟩, fun _ h => absurd h List.not_mem_nil⟩⟩⟩⟩⟩) rfl rfl ⟨rfl, by decide, by decide, by decide +kernel⟩ ⟨h1, h2⟩ rfl rfl rfl hsz rfl hW hdg hcs) (k1 rfl)
  | some j => exact mm_kq hS (mm_runV (n := 1) (o := 7) (C := RX8) (T := TX8) (N := 2) (ci := 8) (As := [.int a1]) hx hb hml hown hE hM hS (c_X8_find l fu nw G x x' mo a1 _ hf) (List.forall_mem_cons.mpr ⟨⟨hw, rfl⟩, List.forall_mem_cons.mpr ⟨⟨w_3_69, rfl⟩, List.forall_mem_cons.mpr ⟨⟨w_3_70, rfl⟩, List.forall_mem_cons.mpr ⟨⟨w_1_4, rfl⟩, List.forall_mem_cons.mpr ⟨⟨w_3_71, rfl⟩, fun _ h => absurd h List.not_mem_nil⟩⟩⟩⟩⟩) rfl rfl ⟨rfl, by decide, by decide, by decide +kernel⟩ ⟨h1, h2⟩ rfl rfl rfl hsz rfl hW hdg hcs) (k2 j rfl)
def f_X8_runs (fu nw : Nat) (x : Me) (a1 : Int32) : Option (Me × Int32) := ob (f_X8_find fu nw x a1) (fun x_1 r_1 => om r_1 (some (x_1, 0)) (fun m_1 => if m_1 < nw then if (x_1 50 m_1) = 0 then some (x_1, 0) else some (x_1, 1) else none))
def rm_X8_runs : Room := { frames := 2, cells := 0, slots := 0, locals := 42 }
set_option maxHeartbeats 4000000 in
set_option maxRecDepth 100000 in
theorem c_X8_runs (l : Launch) (fu nw : Nat) (G : GG) (x x' mo : Me) (a1 : Int32) (r : Int32) (hf : f_X8_runs fu nw x a1 = some (x', r)) : Met l yX8_runs [.code yX8_runs cX8_runs 3 (some .boolean)] rm_X8_runs (va_Pc [.ref (ga G 7), .int a1] (Pre G nw x mo)) (PI G nw x' mo r) 0 0 (gA G) := by
  refine mt_ofW (cc := cX8_runs) (maxL := 3) (ret := (some .boolean)) (by decide +kernel) rfl ?_
  intro p e s m args below meth c s₁ B hml hv
  obtain ⟨rfl, hE, hM⟩ := hv
  have hx := B.exec
  have hb := B.bytes
  have hr := B.returns
  have hown : s.vm.findClass RX8 = some m.cls := findClass_of_methodNamed B.named
  have hlocks := B.notSynchronized
  have hS : va_S (gA G) s.heap s.heap [] := va_S.rf
  have hl := lv_entry ([.ref (ga G 7), .int a1]) (n := 3) (Nat.le_of_ble_eq_true rfl)
  rw [lg_entry_eq]
  generalize (lg_sl ([.ref (ga G 7), .int a1]) ++ List.replicate (3 - (lg_sl ([.ref (ga G 7), .int a1])).length) Slot.unset).toArray = ls at hl ⊢
  have hl : lv_has ls 3 [(0, .ref (ga G 7)), (1, .int a1)] := hl
  generalize ([.ref (ga G 7), .int a1] : List Value).toArray = args
  unfold f_X8_runs at hf
  refine lv_aload_n hx hb dX8_runs_0 rfl (lv_at hl 0 rfl) ?_
  refine lv_iload_n hx hb dX8_runs_1 rfl (lv_at hl 1 rfl) ?_
  obtain ⟨x_1, r_1, hq_1, hf⟩ := ob_some hf
  refine k_X8_find hx hb hml hown hE hM hS w_3_68 hq_1 (Nat.le_of_ble_eq_true rfl) (Nat.le_of_ble_eq_true rfl) hl.1 (Nat.le_of_ble_eq_true rfl) ⟨Nat.zero_le _, Nat.zero_le _⟩ dX8_runs_2 (fun h_1 H locs hM hS => ?_) (fun m_1 h_1 H locs hM hS => ?_)
  · subst h_1
    replace hf := om_n hf
    refine lv_astore_nN (lv' := [(2, .null), (0, .ref (ga G 7)), (1, .int a1)]) hx hb dX8_runs_5 rfl hl (by decide) rfl (fun ls hl => ?_)
    refine lv_aload_nN hx hb dX8_runs_6 rfl (lv_at hl 0 rfl) ?_
    refine lv_ifnullN (tgt := 21) hx hb dX8_runs_7 (by decide) ?_
    refine lv_iconst (v := 0) hx hb dX8_runs_21 (by decide) ?_
    exact rt_zX hx hb hr rfl hf hM hS dX8_runs_22 hlocks
  · subst h_1
    replace hf := om_s hf
    obtain ⟨hm_1, hf⟩ := i_n hf
    refine lv_astore_n (lv' := [(2, .ref (ga G (69 + m_1))), (0, .ref (ga G 7)), (1, .int a1)]) hx hb dX8_runs_5 rfl hl (by decide) rfl (fun ls hl => ?_)
    refine lv_aload_n hx hb dX8_runs_6 rfl (lv_at hl 0 rfl) ?_
    refine lv_ifnull hx hb dX8_runs_7 ?_
    refine lv_aload_n hx hb dX8_runs_10 rfl (lv_at hl 0 rfl) ?_
    refine gf_50N hm_1 hx hb hE hM hown w_2_229 dX8_runs_11 ?_
    refine lv_if_eq (tgt := 21) hx hb dX8_runs_14 (by decide) (fun hc_2 => ?_) (fun hc_2 => ?_)
    · replace hf := i_t hf hc_2
      refine lv_iconst (v := 0) hx hb dX8_runs_21 (by decide) ?_
      exact rt_zX hx hb hr rfl hf hM hS dX8_runs_22 hlocks
    · replace hf := i_f hf hc_2
      refine lv_iconst (v := 1) hx hb dX8_runs_17 (by decide) ?_
      refine lv_goto (tgt := 22) hx hb dX8_runs_18 (by decide) ?_
      exact rt_zX hx hb hr rfl hf hM hS dX8_runs_22 hlocks
theorem k_X8_runs {p : Program} {l : Launch} {e : Env} {R : Room} {s : State} {m : MethodId} {args : Array Value} {below : List Frame} {meth : Method} {c : Code} {H : Heap} {locs : List Loc} {cells slots : Nat} {Q : State → Prop} {cc : ByteArray} {pc nL : Nat} {ls : Array Slot} {rest : List Value} {G : GG} {fu nw : Nat} {x x' mo : Me} {own : String} {index : Nat} {a1 : Int32} {r : Int32} (hx : p.tables.exec = Jvm.exec) (hb : c.code = cc) (hml : c.maxLocals = nL) (hown : s.vm.findClass own = some m.cls) (hE : EnvP G s) (hM : MemP G nw x mo H) (hS : va_S (gA G) s.heap H locs) (hw : Cond.methodLink own index yX8_runs ∈ lw_tbl) (hf : f_X8_runs fu nw x a1 = some (x', r)) (h1 : 2 + 1 ≤ R.frames) (h2 : 8 + (3 + 11) + 42 ≤ R.locals) (hsz : ls.size = nL) (hW : (rest.map fun v => v.category).sum ≤ 8) (hcs : cells ≤ R.cells ∧ slots ≤ R.slots) (hdg : decode cc pc = .ok (.invokevirtual index, 3)) (kk : ∀ (H1 : Heap) (locs1 : List Loc), MemP G nw x' mo H1 → va_S (gA G) s.heap H1 locs1 → W p l e R s m args below meth c H1 locs1 cells slots Q (F0 m (pc + 3) ls (.int r :: rest))) : W p l e R s m args below meth c H locs cells slots Q (F0 m pc ls (.int a1 :: .ref (ga G 7) :: rest)) := mm_ki hS (mm_runV (n := 1) (o := 7) (C := RX8) (T := TX8) (N := 2) (ci := 8) (As := [.int a1]) hx hb hml hown hE hM hS (c_X8_runs l fu nw G x x' mo a1 _ hf) (List.forall_mem_cons.mpr ⟨⟨hw, rfl⟩, List.forall_mem_cons.mpr ⟨⟨w_3_81, rfl⟩, List.forall_mem_cons.mpr ⟨⟨w_3_82, rfl⟩, List.forall_mem_cons.mpr ⟨⟨w_1_4, rfl⟩, List.forall_mem_cons.mpr ⟨⟨w_3_83, rfl⟩, fun _ h => absurd h List.not_mem_nil⟩⟩⟩⟩⟩) rfl rfl ⟨rfl, by decide, by decide, by decide +kernel⟩ ⟨h1, h2⟩ rfl rfl rfl hsz rfl hW hdg hcs) kk
def f_X8_countFree_4 (fu nw : Nat) (b1 : Int32) (k : Me → Int32 → Option (Me × Int32)) : Nat → Me → Int32 → Int32 → Option (Me × Int32)
  | 0 => fun _ _ _ => none
  | n + 1 => fun x a2 a3 => if (x 13 0) ≤ a3 then k x a2 else if inb a3 17 = true then if a3.toNatClampNeg < nw then ob (f_X9_mayBeChosen fu nw x a3.toNatClampNeg b1) (fun x_3 r_3 => if r_3 = 0 then f_X8_countFree_4 fu nw b1 k n x_3 a2 (a3 + 1) else f_X8_countFree_4 fu nw b1 k n x_3 (a2 + 1) (a3 + 1)) else none else none
def f_X8_countFree (fu nw : Nat) (x : Me) (a1 : Int32) : Option (Me × Int32) := f_X8_countFree_4 fu nw a1 (fun (x_6 : Me) (a2_6 : Int32) => some (x_6, a2_6)) fu x 0 0
def rm_X8_countFree : Room := { frames := 1, cells := 0, slots := 0, locals := 21 }
set_option maxHeartbeats 4000000 in
set_option maxRecDepth 100000 in
theorem wk_X8_countFree_4 {p : Program} {l : Launch} {e : Env} {s : State} {m : MethodId} {args : Array Value} {below : List Frame} {meth : Method} {c : Code} {fu nw : Nat} {G : GG} {mo : Me} {b1 : Int32} (hx : p.tables.exec = Jvm.exec) (hb : c.code = cX8_countFree) (hml : c.maxLocals = 4) (hown : s.vm.findClass RX8 = some m.cls) (hE : EnvP G s) (hr : meth.sig.returnType = (some .int)) (hlocks : meth.locks = false) {x' : Me} {r : Int32} {k : Me → Int32 → Option (Me × Int32)} (hk : ∀ (x : Me) (a2 : Int32) (H : Heap) (locs : List Loc) (ls : Array Slot), k x a2 = some (x', r) → MemP G nw x mo H → va_S (gA G) s.heap H locs → lv_has ls 4 [(2, .int a2)] → W p l e rm_X8_countFree s m args below meth c H locs 0 0 (MQ below (PI G nw x' mo r) args s 0 0 (gA G)) (F0 m 34 ls [])) : ∀ (n : Nat) (x : Me) (a2 : Int32) (a3 : Int32) (H : Heap) (locs : List Loc) (ls : Array Slot), f_X8_countFree_4 fu nw b1 k n x a2 a3 = some (x', r) → MemP G nw x mo H → va_S (gA G) s.heap H locs → lv_has ls 4 [(0, .ref (ga G 7)), (1, .int b1), (2, .int a2), (3, .int a3)] → W p l e rm_X8_countFree s m args below meth c H locs 0 0 (MQ below (PI G nw x' mo r) args s 0 0 (gA G)) (F0 m 4 ls []) := by
  intro n
  induction n with
  | zero =>
    intro x a2 a3 H locs ls hf hM hS hl
    exact nn hf
  | succ n ih =>
    intro x a2 a3 H locs ls hf hM hS hl
    rw [f_X8_countFree_4] at hf
    refine lv_iload_n hx hb dX8_countFree_4 rfl (lv_at hl 3 rfl) ?_
    refine lv_aload_n hx hb dX8_countFree_5 rfl (lv_at hl 0 rfl) ?_
    refine gf_13 hx hb hE hM hown w_1_87 dX8_countFree_6 ?_
    refine lv_icmp_ge (tgt := 34) hx hb dX8_countFree_9 (by decide) (fun hc_5 => ?_) (fun hc_5 => ?_)
    · replace hf := i_t hf hc_5
      exact hk x a2 _ _ _ hf hM hS (lv_sub hl [2] rfl)
    · replace hf := i_f hf hc_5
      refine lv_aload_n hx hb dX8_countFree_12 rfl (lv_at hl 0 rfl) ?_
      refine gr_8 hx hb hE hM hown w_1_90 dX8_countFree_13 ?_
      refine lv_iload_n hx hb dX8_countFree_16 rfl (lv_at hl 3 rfl) ?_
      obtain ⟨hi_1, hf⟩ := i_n hf
      refine mm_wald hx hb hE hM hi_1 dX8_countFree_17 (fun hc_2 => ?_) (fun hc_2 => ?_)
      · replace hf := i_t hf hc_2
        refine lv_iload_n hx hb dX8_countFree_18 rfl (lv_at hl 1 rfl) ?_
        obtain ⟨x_3, r_3, hq_3, hf⟩ := ob_some hf
        refine k_X9_mayBeChosen hc_2 hx hb hml hown hE hM hS w_3_42 hq_3 (Nat.le_of_ble_eq_true rfl) (Nat.le_of_ble_eq_true rfl) hl.1 (Nat.le_of_ble_eq_true rfl) ⟨Nat.zero_le _, Nat.zero_le _⟩ dX8_countFree_19 (fun H locs hM hS => ?_)
        refine lv_if_eq (tgt := 28) hx hb dX8_countFree_22 (by decide) (fun hc_4 => ?_) (fun hc_4 => ?_)
        · replace hf := i_t hf hc_4
          refine lv_iinc (v := a3 + 1) (lv' := [(3, .int (a3 + 1)), (0, .ref (ga G 7)), (1, .int b1), (2, .int a2)]) hx hb dX8_countFree_28 hl (k := 3) rfl rfl (by decide) rfl (fun ls hl => ?_)
          refine lv_goto (tgt := 4) hx hb dX8_countFree_31 (by decide) ?_
          exact ih x_3 a2 (a3 + 1) _ _ _ hf hM hS (lv_sub hl [1, 2, 3, 0] rfl)
        · replace hf := i_f hf hc_4
          refine lv_iinc (v := a2 + 1) (lv' := [(2, .int (a2 + 1)), (0, .ref (ga G 7)), (1, .int b1), (3, .int a3)]) hx hb dX8_countFree_25 hl (k := 2) rfl rfl (by decide) rfl (fun ls hl => ?_)
          refine lv_iinc (v := a3 + 1) (lv' := [(3, .int (a3 + 1)), (2, .int (a2 + 1)), (0, .ref (ga G 7)), (1, .int b1)]) hx hb dX8_countFree_28 hl (k := 3) rfl rfl (by decide) rfl (fun ls hl => ?_)
          refine lv_goto (tgt := 4) hx hb dX8_countFree_31 (by decide) ?_
          exact ih x_3 (a2 + 1) (a3 + 1) _ _ _ hf hM hS (lv_sub hl [2, 3, 1, 0] rfl)
      · replace hf := i_f hf hc_2
        refine lv_iload_n hx hb dX8_countFree_18 rfl (lv_at hl 1 rfl) ?_
        exact nn hf
set_option maxHeartbeats 4000000 in
set_option maxRecDepth 100000 in
theorem c_X8_countFree (l : Launch) (fu nw : Nat) (G : GG) (x x' mo : Me) (a1 : Int32) (r : Int32) (hf : f_X8_countFree fu nw x a1 = some (x', r)) : Met l yX8_countFree [.code yX8_countFree cX8_countFree 4 (some .int)] rm_X8_countFree (va_Pc [.ref (ga G 7), .int a1] (Pre G nw x mo)) (PI G nw x' mo r) 0 0 (gA G) := by
  refine mt_ofW (cc := cX8_countFree) (maxL := 4) (ret := (some .int)) (by decide +kernel) rfl ?_
  intro p e s m args below meth c s₁ B hml hv
  obtain ⟨rfl, hE, hM⟩ := hv
  have hx := B.exec
  have hb := B.bytes
  have hr := B.returns
  have hown : s.vm.findClass RX8 = some m.cls := findClass_of_methodNamed B.named
  have hlocks := B.notSynchronized
  have hS : va_S (gA G) s.heap s.heap [] := va_S.rf
  have hl := lv_entry ([.ref (ga G 7), .int a1]) (n := 4) (Nat.le_of_ble_eq_true rfl)
  rw [lg_entry_eq]
  generalize (lg_sl ([.ref (ga G 7), .int a1]) ++ List.replicate (4 - (lg_sl ([.ref (ga G 7), .int a1])).length) Slot.unset).toArray = ls at hl ⊢
  have hl : lv_has ls 4 [(0, .ref (ga G 7)), (1, .int a1)] := hl
  generalize ([.ref (ga G 7), .int a1] : List Value).toArray = args
  unfold f_X8_countFree at hf
  refine lv_iconst (v := 0) hx hb dX8_countFree_0 (by decide) ?_
  refine lv_istore_n (lv' := [(2, .int 0), (0, .ref (ga G 7)), (1, .int a1)]) hx hb dX8_countFree_1 rfl hl (by decide) rfl (fun ls hl => ?_)
  refine lv_iconst (v := 0) hx hb dX8_countFree_2 (by decide) ?_
  refine lv_istore_n (lv' := [(3, .int 0), (2, .int 0), (0, .ref (ga G 7)), (1, .int a1)]) hx hb dX8_countFree_3 rfl hl (by decide) rfl (fun ls hl => ?_)
  refine wk_X8_countFree_4 hx hb hml hown hE hr hlocks ?_ fu x 0 0 _ _ _ hf hM hS (lv_sub hl [2, 3, 1, 0] rfl)
  intro x_6 a2_6 H locs ls hf hM hS hl
  refine lv_iload_n hx hb dX8_countFree_34 rfl (lv_at hl 0 rfl) ?_
  exact rt_iX hx hb hr hf hM hS dX8_countFree_35 hlocks
theorem k_X8_countFree {p : Program} {l : Launch} {e : Env} {R : Room} {s : State} {m : MethodId} {args : Array Value} {below : List Frame} {meth : Method} {c : Code} {H : Heap} {locs : List Loc} {cells slots : Nat} {Q : State → Prop} {cc : ByteArray} {pc nL : Nat} {ls : Array Slot} {rest : List Value} {G : GG} {fu nw : Nat} {x x' mo : Me} {own : String} {index : Nat} {a1 : Int32} {r : Int32} (hx : p.tables.exec = Jvm.exec) (hb : c.code = cc) (hml : c.maxLocals = nL) (hown : s.vm.findClass own = some m.cls) (hE : EnvP G s) (hM : MemP G nw x mo H) (hS : va_S (gA G) s.heap H locs) (hw : Cond.methodLink own index yX8_countFree ∈ lw_tbl) (hf : f_X8_countFree fu nw x a1 = some (x', r)) (h1 : 1 + 1 ≤ R.frames) (h2 : 8 + (4 + 11) + 21 ≤ R.locals) (hsz : ls.size = nL) (hW : (rest.map fun v => v.category).sum ≤ 8) (hcs : cells ≤ R.cells ∧ slots ≤ R.slots) (hdg : decode cc pc = .ok (.invokevirtual index, 3)) (kk : ∀ (H1 : Heap) (locs1 : List Loc), MemP G nw x' mo H1 → va_S (gA G) s.heap H1 locs1 → W p l e R s m args below meth c H1 locs1 cells slots Q (F0 m (pc + 3) ls (.int r :: rest))) : W p l e R s m args below meth c H locs cells slots Q (F0 m pc ls (.int a1 :: .ref (ga G 7) :: rest)) := mm_ki hS (mm_runV (n := 1) (o := 7) (C := RX8) (T := TX8) (N := 2) (ci := 8) (As := [.int a1]) hx hb hml hown hE hM hS (c_X8_countFree l fu nw G x x' mo a1 _ hf) (List.forall_mem_cons.mpr ⟨⟨hw, rfl⟩, List.forall_mem_cons.mpr ⟨⟨w_3_39, rfl⟩, List.forall_mem_cons.mpr ⟨⟨w_3_40, rfl⟩, List.forall_mem_cons.mpr ⟨⟨w_1_4, rfl⟩, List.forall_mem_cons.mpr ⟨⟨w_3_41, rfl⟩, fun _ h => absurd h List.not_mem_nil⟩⟩⟩⟩⟩) rfl rfl ⟨rfl, by decide, by decide, by decide +kernel⟩ ⟨h1, h2⟩ rfl rfl rfl hsz rfl hW hdg hcs) kk
def f_X8_freeAt_5 (fu nw : Nat) (b1 : Int32) (b2 : Int32) (k : Me → Option (Me × Int32)) : Nat → Me → Int32 → Int32 → Option (Me × Int32)
  | 0 => fun _ _ _ => none
  | n + 1 => fun x a3 a4 => if (x 13 0) ≤ a4 then k x else if inb a4 17 = true then if a4.toNatClampNeg < nw then ob (f_X9_mayBeChosen fu nw x a4.toNatClampNeg b2) (fun x_3 r_3 => if r_3 = 0 then f_X8_freeAt_5 fu nw b1 b2 k n x_3 a3 (a4 + 1) else if a3 = b1 then some (x_3, a4) else f_X8_freeAt_5 fu nw b1 b2 k n x_3 (a3 + 1) (a4 + 1)) else none else none
def f_X8_freeAt (fu nw : Nat) (x : Me) (a1 : Int32) (a2 : Int32) : Option (Me × Int32) := f_X8_freeAt_5 fu nw a1 a2 (fun (x_7 : Me) => some (x_7, (-1))) fu x 0 0
def rm_X8_freeAt : Room := { frames := 1, cells := 0, slots := 0, locals := 21 }
set_option maxHeartbeats 4000000 in
set_option maxRecDepth 100000 in
theorem wk_X8_freeAt_5 {p : Program} {l : Launch} {e : Env} {s : State} {m : MethodId} {args : Array Value} {below : List Frame} {meth : Method} {c : Code} {fu nw : Nat} {G : GG} {mo : Me} {b1 : Int32} {b2 : Int32} (hx : p.tables.exec = Jvm.exec) (hb : c.code = cX8_freeAt) (hml : c.maxLocals = 5) (hown : s.vm.findClass RX8 = some m.cls) (hE : EnvP G s) (hr : meth.sig.returnType = (some .int)) (hlocks : meth.locks = false) {x' : Me} {r : Int32} {k : Me → Option (Me × Int32)} (hk : ∀ (x : Me) (H : Heap) (locs : List Loc) (ls : Array Slot), k x = some (x', r) → MemP G nw x mo H → va_S (gA G) s.heap H locs → lv_has ls 5 [] → W p l e rm_X8_freeAt s m args below meth c H locs 0 0 (MQ below (PI G nw x' mo r) args s 0 0 (gA G)) (F0 m 45 ls [])) : ∀ (n : Nat) (x : Me) (a3 : Int32) (a4 : Int32) (H : Heap) (locs : List Loc) (ls : Array Slot), f_X8_freeAt_5 fu nw b1 b2 k n x a3 a4 = some (x', r) → MemP G nw x mo H → va_S (gA G) s.heap H locs → lv_has ls 5 [(0, .ref (ga G 7)), (1, .int b1), (2, .int b2), (3, .int a3), (4, .int a4)] → W p l e rm_X8_freeAt s m args below meth c H locs 0 0 (MQ below (PI G nw x' mo r) args s 0 0 (gA G)) (F0 m 5 ls []) := by
  intro n
  induction n with
  | zero =>
    intro x a3 a4 H locs ls hf hM hS hl
    exact nn hf
  | succ n ih =>
    intro x a3 a4 H locs ls hf hM hS hl
    rw [f_X8_freeAt_5] at hf
    refine lv_iload hx hb dX8_freeAt_5 (lv_at hl 4 rfl) ?_
    refine lv_aload_n hx hb dX8_freeAt_7 rfl (lv_at hl 0 rfl) ?_
    refine gf_13 hx hb hE hM hown w_1_87 dX8_freeAt_8 ?_
    refine lv_icmp_ge (tgt := 45) hx hb dX8_freeAt_11 (by decide) (fun hc_6 => ?_) (fun hc_6 => ?_)
    · replace hf := i_t hf hc_6
      exact hk x _ _ _ hf hM hS (lv_sub hl [] rfl)
    · replace hf := i_f hf hc_6
      refine lv_aload_n hx hb dX8_freeAt_14 rfl (lv_at hl 0 rfl) ?_
      refine gr_8 hx hb hE hM hown w_1_90 dX8_freeAt_15 ?_
      refine lv_iload hx hb dX8_freeAt_18 (lv_at hl 4 rfl) ?_
      obtain ⟨hi_1, hf⟩ := i_n hf
      refine mm_wald hx hb hE hM hi_1 dX8_freeAt_20 (fun hc_2 => ?_) (fun hc_2 => ?_)
      · replace hf := i_t hf hc_2
        refine lv_iload_n hx hb dX8_freeAt_21 rfl (lv_at hl 2 rfl) ?_
        obtain ⟨x_3, r_3, hq_3, hf⟩ := ob_some hf
        refine k_X9_mayBeChosen hc_2 hx hb hml hown hE hM hS w_3_42 hq_3 (Nat.le_of_ble_eq_true rfl) (Nat.le_of_ble_eq_true rfl) hl.1 (Nat.le_of_ble_eq_true rfl) ⟨Nat.zero_le _, Nat.zero_le _⟩ dX8_freeAt_22 (fun H locs hM hS => ?_)
        refine lv_if_eq (tgt := 39) hx hb dX8_freeAt_25 (by decide) (fun hc_5 => ?_) (fun hc_5 => ?_)
        · replace hf := i_t hf hc_5
          refine lv_iinc (v := a4 + 1) (lv' := [(4, .int (a4 + 1)), (0, .ref (ga G 7)), (1, .int b1), (2, .int b2), (3, .int a3)]) hx hb dX8_freeAt_39 hl (k := 4) rfl rfl (by decide) rfl (fun ls hl => ?_)
          refine lv_goto (tgt := 5) hx hb dX8_freeAt_42 (by decide) ?_
          exact ih x_3 a3 (a4 + 1) _ _ _ hf hM hS (lv_sub hl [1, 2, 3, 4, 0] rfl)
        · replace hf := i_f hf hc_5
          refine lv_iload_n hx hb dX8_freeAt_28 rfl (lv_at hl 3 rfl) ?_
          refine lv_iload_n hx hb dX8_freeAt_29 rfl (lv_at hl 1 rfl) ?_
          refine lv_icmp_ne (tgt := 36) hx hb dX8_freeAt_30 (by decide) (fun hc_4 => ?_) (fun hc_4 => ?_)
          · replace hf := i_f hf hc_4
            refine lv_iinc (v := a3 + 1) (lv' := [(3, .int (a3 + 1)), (0, .ref (ga G 7)), (1, .int b1), (2, .int b2), (4, .int a4)]) hx hb dX8_freeAt_36 hl (k := 3) rfl rfl (by decide) rfl (fun ls hl => ?_)
            refine lv_iinc (v := a4 + 1) (lv' := [(4, .int (a4 + 1)), (3, .int (a3 + 1)), (0, .ref (ga G 7)), (1, .int b1), (2, .int b2)]) hx hb dX8_freeAt_39 hl (k := 4) rfl rfl (by decide) rfl (fun ls hl => ?_)
            refine lv_goto (tgt := 5) hx hb dX8_freeAt_42 (by decide) ?_
            exact ih x_3 (a3 + 1) (a4 + 1) _ _ _ hf hM hS (lv_sub hl [2, 3, 4, 1, 0] rfl)
          · replace hf := i_t hf hc_4
            refine lv_iload hx hb dX8_freeAt_33 (lv_at hl 4 rfl) ?_
            exact rt_iX hx hb hr hf hM hS dX8_freeAt_35 hlocks
      · replace hf := i_f hf hc_2
        refine lv_iload_n hx hb dX8_freeAt_21 rfl (lv_at hl 2 rfl) ?_
        exact nn hf
set_option maxHeartbeats 4000000 in
set_option maxRecDepth 100000 in
theorem c_X8_freeAt (l : Launch) (fu nw : Nat) (G : GG) (x x' mo : Me) (a1 : Int32) (a2 : Int32) (r : Int32) (hf : f_X8_freeAt fu nw x a1 a2 = some (x', r)) : Met l yX8_freeAt [.code yX8_freeAt cX8_freeAt 5 (some .int)] rm_X8_freeAt (va_Pc [.ref (ga G 7), .int a1, .int a2] (Pre G nw x mo)) (PI G nw x' mo r) 0 0 (gA G) := by
  refine mt_ofW (cc := cX8_freeAt) (maxL := 5) (ret := (some .int)) (by decide +kernel) rfl ?_
  intro p e s m args below meth c s₁ B hml hv
  obtain ⟨rfl, hE, hM⟩ := hv
  have hx := B.exec
  have hb := B.bytes
  have hr := B.returns
  have hown : s.vm.findClass RX8 = some m.cls := findClass_of_methodNamed B.named
  have hlocks := B.notSynchronized
  have hS : va_S (gA G) s.heap s.heap [] := va_S.rf
  have hl := lv_entry ([.ref (ga G 7), .int a1, .int a2]) (n := 5) (Nat.le_of_ble_eq_true rfl)
  rw [lg_entry_eq]
  generalize (lg_sl ([.ref (ga G 7), .int a1, .int a2]) ++ List.replicate (5 - (lg_sl ([.ref (ga G 7), .int a1, .int a2])).length) Slot.unset).toArray = ls at hl ⊢
  have hl : lv_has ls 5 [(0, .ref (ga G 7)), (1, .int a1), (2, .int a2)] := hl
  generalize ([.ref (ga G 7), .int a1, .int a2] : List Value).toArray = args
  unfold f_X8_freeAt at hf
  refine lv_iconst (v := 0) hx hb dX8_freeAt_0 (by decide) ?_
  refine lv_istore_n (lv' := [(3, .int 0), (0, .ref (ga G 7)), (1, .int a1), (2, .int a2)]) hx hb dX8_freeAt_1 rfl hl (by decide) rfl (fun ls hl => ?_)
  refine lv_iconst (v := 0) hx hb dX8_freeAt_2 (by decide) ?_
  refine lv_istore (lv' := [(4, .int 0), (3, .int 0), (0, .ref (ga G 7)), (1, .int a1), (2, .int a2)]) hx hb dX8_freeAt_3 hl (by decide) rfl (fun ls hl => ?_)
  refine wk_X8_freeAt_5 hx hb hml hown hE hr hlocks ?_ fu x 0 0 _ _ _ hf hM hS (lv_sub hl [2, 3, 4, 1, 0] rfl)
  intro x_7 H locs ls hf hM hS hl
  refine lv_iconst (v := (-1)) hx hb dX8_freeAt_45 (by decide) ?_
  exact rt_iX hx hb hr hf hM hS dX8_freeAt_46 hlocks
theorem k_X8_freeAt {p : Program} {l : Launch} {e : Env} {R : Room} {s : State} {m : MethodId} {args : Array Value} {below : List Frame} {meth : Method} {c : Code} {H : Heap} {locs : List Loc} {cells slots : Nat} {Q : State → Prop} {cc : ByteArray} {pc nL : Nat} {ls : Array Slot} {rest : List Value} {G : GG} {fu nw : Nat} {x x' mo : Me} {own : String} {index : Nat} {a1 : Int32} {a2 : Int32} {r : Int32} (hx : p.tables.exec = Jvm.exec) (hb : c.code = cc) (hml : c.maxLocals = nL) (hown : s.vm.findClass own = some m.cls) (hE : EnvP G s) (hM : MemP G nw x mo H) (hS : va_S (gA G) s.heap H locs) (hw : Cond.methodLink own index yX8_freeAt ∈ lw_tbl) (hf : f_X8_freeAt fu nw x a1 a2 = some (x', r)) (h1 : 1 + 1 ≤ R.frames) (h2 : 8 + (5 + 11) + 21 ≤ R.locals) (hsz : ls.size = nL) (hW : (rest.map fun v => v.category).sum ≤ 8) (hcs : cells ≤ R.cells ∧ slots ≤ R.slots) (hdg : decode cc pc = .ok (.invokevirtual index, 3)) (kk : ∀ (H1 : Heap) (locs1 : List Loc), MemP G nw x' mo H1 → va_S (gA G) s.heap H1 locs1 → W p l e R s m args below meth c H1 locs1 cells slots Q (F0 m (pc + 3) ls (.int r :: rest))) : W p l e R s m args below meth c H locs cells slots Q (F0 m pc ls (.int a2 :: .int a1 :: .ref (ga G 7) :: rest)) := mm_ki hS (mm_runV (n := 2) (o := 7) (C := RX8) (T := TX8) (N := 2) (ci := 8) (As := [.int a1, .int a2]) hx hb hml hown hE hM hS (c_X8_freeAt l fu nw G x x' mo a1 a2 _ hf) (List.forall_mem_cons.mpr ⟨⟨hw, rfl⟩, List.forall_mem_cons.mpr ⟨⟨w_3_66, rfl⟩, List.forall_mem_cons.mpr ⟨⟨w_0_9, rfl⟩, List.forall_mem_cons.mpr ⟨⟨w_1_4, rfl⟩, List.forall_mem_cons.mpr ⟨⟨w_3_67, rfl⟩, fun _ h => absurd h List.not_mem_nil⟩⟩⟩⟩⟩) rfl rfl ⟨rfl, by decide, by decide, by decide +kernel⟩ ⟨h1, h2⟩ rfl rfl rfl hsz rfl hW hdg hcs) kk
def f_X8_longestAgo_4 (fu nw : Nat) (b1 : Int32) (k : Me → Int32 → Option (Me × Int32)) : Nat → Me → Int32 → Int32 → Option (Me × Int32)
  | 0 => fun _ _ _ => none
  | n + 1 => fun x a2 a3 => if (x 13 0) ≤ a3 then k x a2 else if inb a3 17 = true then if a3.toNatClampNeg < nw then ob (f_X9_mayBeChosen fu nw x a3.toNatClampNeg b1) (fun x_3 r_3 => if r_3 = 0 then f_X8_longestAgo_4 fu nw b1 k n x_3 a2 (a3 + 1) else if a2 = (-1) then f_X8_longestAgo_4 fu nw b1 k n x_3 a3 (a3 + 1) else if a3.toNatClampNeg < nw then if inb a2 17 = true then if a2.toNatClampNeg < nw then if (x_3 52 a2.toNatClampNeg) ≤ (x_3 52 a3.toNatClampNeg) then f_X8_longestAgo_4 fu nw b1 k n x_3 a2 (a3 + 1) else f_X8_longestAgo_4 fu nw b1 k n x_3 a3 (a3 + 1) else none else none else none) else none else none
def f_X8_longestAgo (fu nw : Nat) (x : Me) (a1 : Int32) : Option (Me × Int32) := f_X8_longestAgo_4 fu nw a1 (fun (x_11 : Me) (a2_11 : Int32) => some (x_11, a2_11)) fu x (-1) 0
def rm_X8_longestAgo : Room := { frames := 1, cells := 0, slots := 0, locals := 21 }
set_option maxHeartbeats 4000000 in
set_option maxRecDepth 100000 in
theorem wk_X8_longestAgo_4 {p : Program} {l : Launch} {e : Env} {s : State} {m : MethodId} {args : Array Value} {below : List Frame} {meth : Method} {c : Code} {fu nw : Nat} {G : GG} {mo : Me} {b1 : Int32} (hx : p.tables.exec = Jvm.exec) (hb : c.code = cX8_longestAgo) (hml : c.maxLocals = 4) (hown : s.vm.findClass RX8 = some m.cls) (hE : EnvP G s) (hr : meth.sig.returnType = (some .int)) (hlocks : meth.locks = false) {x' : Me} {r : Int32} {k : Me → Int32 → Option (Me × Int32)} (hk : ∀ (x : Me) (a2 : Int32) (H : Heap) (locs : List Loc) (ls : Array Slot), k x a2 = some (x', r) → MemP G nw x mo H → va_S (gA G) s.heap H locs → lv_has ls 4 [(2, .int a2)] → W p l e rm_X8_longestAgo s m args below meth c H locs 0 0 (MQ below (PI G nw x' mo r) args s 0 0 (gA G)) (F0 m 59 ls [])) : ∀ (n : Nat) (x : Me) (a2 : Int32) (a3 : Int32) (H : Heap) (locs : List Loc) (ls : Array Slot), f_X8_longestAgo_4 fu nw b1 k n x a2 a3 = some (x', r) → MemP G nw x mo H → va_S (gA G) s.heap H locs → lv_has ls 4 [(0, .ref (ga G 7)), (1, .int b1), (2, .int a2), (3, .int a3)] → W p l e rm_X8_longestAgo s m args below meth c H locs 0 0 (MQ below (PI G nw x' mo r) args s 0 0 (gA G)) (F0 m 4 ls []) := by
  intro n
  induction n with
  | zero =>
    intro x a2 a3 H locs ls hf hM hS hl
    exact nn hf
  | succ n ih =>
    intro x a2 a3 H locs ls hf hM hS hl
    rw [f_X8_longestAgo_4] at hf
    refine lv_iload_n hx hb dX8_longestAgo_4 rfl (lv_at hl 3 rfl) ?_
    refine lv_aload_n hx hb dX8_longestAgo_5 rfl (lv_at hl 0 rfl) ?_
    refine gf_13 hx hb hE hM hown w_1_87 dX8_longestAgo_6 ?_
    refine lv_icmp_ge (tgt := 59) hx hb dX8_longestAgo_9 (by decide) (fun hc_10 => ?_) (fun hc_10 => ?_)
    · replace hf := i_t hf hc_10
      exact hk x a2 _ _ _ hf hM hS (lv_sub hl [2] rfl)
    · replace hf := i_f hf hc_10
      refine lv_aload_n hx hb dX8_longestAgo_12 rfl (lv_at hl 0 rfl) ?_
      refine gr_8 hx hb hE hM hown w_1_90 dX8_longestAgo_13 ?_
      refine lv_iload_n hx hb dX8_longestAgo_16 rfl (lv_at hl 3 rfl) ?_
      obtain ⟨hi_1, hf⟩ := i_n hf
      refine mm_wald hx hb hE hM hi_1 dX8_longestAgo_17 (fun hc_2 => ?_) (fun hc_2 => ?_)
      · replace hf := i_t hf hc_2
        refine lv_iload_n hx hb dX8_longestAgo_18 rfl (lv_at hl 1 rfl) ?_
        obtain ⟨x_3, r_3, hq_3, hf⟩ := ob_some hf
        refine k_X9_mayBeChosen hc_2 hx hb hml hown hE hM hS w_3_42 hq_3 (Nat.le_of_ble_eq_true rfl) (Nat.le_of_ble_eq_true rfl) hl.1 (Nat.le_of_ble_eq_true rfl) ⟨Nat.zero_le _, Nat.zero_le _⟩ dX8_longestAgo_19 (fun H locs hM hS => ?_)
        refine lv_if_eq (tgt := 53) hx hb dX8_longestAgo_22 (by decide) (fun hc_9 => ?_) (fun hc_9 => ?_)
        · replace hf := i_t hf hc_9
          refine lv_iinc (v := a3 + 1) (lv' := [(3, .int (a3 + 1)), (0, .ref (ga G 7)), (1, .int b1), (2, .int a2)]) hx hb dX8_longestAgo_53 hl (k := 3) rfl rfl (by decide) rfl (fun ls hl => ?_)
          refine lv_goto (tgt := 4) hx hb dX8_longestAgo_56 (by decide) ?_
          exact ih x_3 a2 (a3 + 1) _ _ _ hf hM hS (lv_sub hl [1, 2, 3, 0] rfl)
        · replace hf := i_f hf hc_9
          refine lv_iload_n hx hb dX8_longestAgo_25 rfl (lv_at hl 2 rfl) ?_
          refine lv_iconst (v := (-1)) hx hb dX8_longestAgo_26 (by decide) ?_
          refine lv_icmp_eq (tgt := 51) hx hb dX8_longestAgo_27 (by decide) (fun hc_8 => ?_) (fun hc_8 => ?_)
          · replace hf := i_t hf hc_8
            refine lv_iload_n hx hb dX8_longestAgo_51 rfl (lv_at hl 3 rfl) ?_
            refine lv_istore_n (lv' := [(2, .int a3), (0, .ref (ga G 7)), (1, .int b1), (3, .int a3)]) hx hb dX8_longestAgo_52 rfl hl (by decide) rfl (fun ls hl => ?_)
            refine lv_iinc (v := a3 + 1) (lv' := [(3, .int (a3 + 1)), (2, .int a3), (0, .ref (ga G 7)), (1, .int b1)]) hx hb dX8_longestAgo_53 hl (k := 3) rfl rfl (by decide) rfl (fun ls hl => ?_)
            refine lv_goto (tgt := 4) hx hb dX8_longestAgo_56 (by decide) ?_
            exact ih x_3 a3 (a3 + 1) _ _ _ hf hM hS (lv_sub hl [2, 3, 1, 0] rfl)
          · replace hf := i_f hf hc_8
            refine lv_aload_n hx hb dX8_longestAgo_30 rfl (lv_at hl 0 rfl) ?_
            refine gr_8 hx hb hE hM hown w_1_90 dX8_longestAgo_31 ?_
            refine lv_iload_n hx hb dX8_longestAgo_34 rfl (lv_at hl 3 rfl) ?_
            refine mm_wald hx hb hE hM hi_1 dX8_longestAgo_35 (fun hc_4 => ?_) (fun hc_4 => ?_)
            · replace hf := i_t hf hc_4
              refine gf_52N hc_4 hx hb hE hM hown w_2_236 dX8_longestAgo_36 ?_
              refine lv_aload_n hx hb dX8_longestAgo_39 rfl (lv_at hl 0 rfl) ?_
              refine gr_8 hx hb hE hM hown w_1_90 dX8_longestAgo_40 ?_
              refine lv_iload_n hx hb dX8_longestAgo_43 rfl (lv_at hl 2 rfl) ?_
              obtain ⟨hi_5, hf⟩ := i_n hf
              refine mm_wald hx hb hE hM hi_5 dX8_longestAgo_44 (fun hc_6 => ?_) (fun hc_6 => ?_)
              · replace hf := i_t hf hc_6
                refine gf_52N hc_6 hx hb hE hM hown w_2_236 dX8_longestAgo_45 ?_
                refine lv_icmp_ge (tgt := 53) hx hb dX8_longestAgo_48 (by decide) (fun hc_7 => ?_) (fun hc_7 => ?_)
                · replace hf := i_t hf hc_7
                  refine lv_iinc (v := a3 + 1) (lv' := [(3, .int (a3 + 1)), (0, .ref (ga G 7)), (1, .int b1), (2, .int a2)]) hx hb dX8_longestAgo_53 hl (k := 3) rfl rfl (by decide) rfl (fun ls hl => ?_)
                  refine lv_goto (tgt := 4) hx hb dX8_longestAgo_56 (by decide) ?_
                  exact ih x_3 a2 (a3 + 1) _ _ _ hf hM hS (lv_sub hl [1, 2, 3, 0] rfl)
                · replace hf := i_f hf hc_7
                  refine lv_iload_n hx hb dX8_longestAgo_51 rfl (lv_at hl 3 rfl) ?_
                  refine lv_istore_n (lv' := [(2, .int a3), (0, .ref (ga G 7)), (1, .int b1), (3, .int a3)]) hx hb dX8_longestAgo_52 rfl hl (by decide) rfl (fun ls hl => ?_)
                  refine lv_iinc (v := a3 + 1) (lv' := [(3, .int (a3 + 1)), (2, .int a3), (0, .ref (ga G 7)), (1, .int b1)]) hx hb dX8_longestAgo_53 hl (k := 3) rfl rfl (by decide) rfl (fun ls hl => ?_)
                  refine lv_goto (tgt := 4) hx hb dX8_longestAgo_56 (by decide) ?_
                  exact ih x_3 a3 (a3 + 1) _ _ _ hf hM hS (lv_sub hl [2, 3, 1, 0] rfl)
              · replace hf := i_f hf hc_6
                exact nn hf
            · replace hf := i_f hf hc_4
              exact nn hf
      · replace hf := i_f hf hc_2
        refine lv_iload_n hx hb dX8_longestAgo_18 rfl (lv_at hl 1 rfl) ?_
        exact nn hf
set_option maxHeartbeats 4000000 in
set_option maxRecDepth 100000 in
theorem c_X8_longestAgo (l : Launch) (fu nw : Nat) (G : GG) (x x' mo : Me) (a1 : Int32) (r : Int32) (hf : f_X8_longestAgo fu nw x a1 = some (x', r)) : Met l yX8_longestAgo [.code yX8_longestAgo cX8_longestAgo 4 (some .int)] rm_X8_longestAgo (va_Pc [.ref (ga G 7), .int a1] (Pre G nw x mo)) (PI G nw x' mo r) 0 0 (gA G) := by
  refine mt_ofW (cc := cX8_longestAgo) (maxL := 4) (ret := (some .int)) (by decide +kernel) rfl ?_
  intro p e s m args below meth c s₁ B hml hv
  obtain ⟨rfl, hE, hM⟩ := hv
  have hx := B.exec
  have hb := B.bytes
  have hr := B.returns
  have hown : s.vm.findClass RX8 = some m.cls := findClass_of_methodNamed B.named
  have hlocks := B.notSynchronized
  have hS : va_S (gA G) s.heap s.heap [] := va_S.rf
  have hl := lv_entry ([.ref (ga G 7), .int a1]) (n := 4) (Nat.le_of_ble_eq_true rfl)
  rw [lg_entry_eq]
  generalize (lg_sl ([.ref (ga G 7), .int a1]) ++ List.replicate (4 - (lg_sl ([.ref (ga G 7), .int a1])).length) Slot.unset).toArray = ls at hl ⊢
  have hl : lv_has ls 4 [(0, .ref (ga G 7)), (1, .int a1)] := hl
  generalize ([.ref (ga G 7), .int a1] : List Value).toArray = args
  unfold f_X8_longestAgo at hf
  refine lv_iconst (v := (-1)) hx hb dX8_longestAgo_0 (by decide) ?_
  refine lv_istore_n (lv' := [(2, .int (-1)), (0, .ref (ga G 7)), (1, .int a1)]) hx hb dX8_longestAgo_1 rfl hl (by decide) rfl (fun ls hl => ?_)
  refine lv_iconst (v := 0) hx hb dX8_longestAgo_2 (by decide) ?_
  refine lv_istore_n (lv' := [(3, .int 0), (2, .int (-1)), (0, .ref (ga G 7)), (1, .int a1)]) hx hb dX8_longestAgo_3 rfl hl (by decide) rfl (fun ls hl => ?_)
  refine wk_X8_longestAgo_4 hx hb hml hown hE hr hlocks ?_ fu x (-1) 0 _ _ _ hf hM hS (lv_sub hl [2, 3, 1, 0] rfl)
  intro x_11 a2_11 H locs ls hf hM hS hl
  refine lv_iload_n hx hb dX8_longestAgo_59 rfl (lv_at hl 0 rfl) ?_
  exact rt_iX hx hb hr hf hM hS dX8_longestAgo_60 hlocks
theorem k_X8_longestAgo {p : Program} {l : Launch} {e : Env} {R : Room} {s : State} {m : MethodId} {args : Array Value} {below : List Frame} {meth : Method} {c : Code} {H : Heap} {locs : List Loc} {cells slots : Nat} {Q : State → Prop} {cc : ByteArray} {pc nL : Nat} {ls : Array Slot} {rest : List Value} {G : GG} {fu nw : Nat} {x x' mo : Me} {own : String} {index : Nat} {a1 : Int32} {r : Int32} (hx : p.tables.exec = Jvm.exec) (hb : c.code = cc) (hml : c.maxLocals = nL) (hown : s.vm.findClass own = some m.cls) (hE : EnvP G s) (hM : MemP G nw x mo H) (hS : va_S (gA G) s.heap H locs) (hw : Cond.methodLink own index yX8_longestAgo ∈ lw_tbl) (hf : f_X8_longestAgo fu nw x a1 = some (x', r)) (h1 : 1 + 1 ≤ R.frames) (h2 : 8 + (4 + 11) + 21 ≤ R.locals) (hsz : ls.size = nL) (hW : (rest.map fun v => v.category).sum ≤ 8) (hcs : cells ≤ R.cells ∧ slots ≤ R.slots) (hdg : decode cc pc = .ok (.invokevirtual index, 3)) (kk : ∀ (H1 : Heap) (locs1 : List Loc), MemP G nw x' mo H1 → va_S (gA G) s.heap H1 locs1 → W p l e R s m args below meth c H1 locs1 cells slots Q (F0 m (pc + 3) ls (.int r :: rest))) : W p l e R s m args below meth c H locs cells slots Q (F0 m pc ls (.int a1 :: .ref (ga G 7) :: rest)) := mm_ki hS (mm_runV (n := 1) (o := 7) (C := RX8) (T := TX8) (N := 2) (ci := 8) (As := [.int a1]) hx hb hml hown hE hM hS (c_X8_longestAgo l fu nw G x x' mo a1 _ hf) (List.forall_mem_cons.mpr ⟨⟨hw, rfl⟩, List.forall_mem_cons.mpr ⟨⟨w_3_57, rfl⟩, List.forall_mem_cons.mpr ⟨⟨w_0_8, rfl⟩, List.forall_mem_cons.mpr ⟨⟨w_1_4, rfl⟩, List.forall_mem_cons.mpr ⟨⟨w_3_58, rfl⟩, fun _ h => absurd h List.not_mem_nil⟩⟩⟩⟩⟩) rfl rfl ⟨rfl, by decide, by decide, by decide +kernel⟩ ⟨h1, h2⟩ rfl rfl rfl hsz rfl hW hdg hcs) kk
def f_X8_chooseRunners_10 (fu nw : Nat) (b1 : Int32) (b2 : Int32) (b3 : Int32) (b5 : Int32) (k : Me → Option (Me × Unit)) : Nat → Me → Int32 → Option (Me × Unit)
  | 0 => fun _ _ => none
  | n + 1 => fun x a6 => if b1 ≤ a6 then k x else jn (fun (x_1 : Me) (s_1 : Int32) => ob (f_X8_find fu nw x_1 s_1) (fun x_2 r_2 => om r_2 (f_X8_chooseRunners_10 fu nw b1 b2 b3 b5 k n x_2 (a6 + 1)) (fun m_2 => if m_2 < nw then f_X8_chooseRunners_10 fu nw b1 b2 b3 b5 k n (mu x_2 50 m_2 1) (a6 + 1) else none))) (fun j_1 => if b5 ≤ a6 then ob (f_X0_below_40 fu nw x (b2 - a6)) (fun x_3 r_3 => ob (f_X8_freeAt fu nw x_3 r_3 b3) (fun x_4 r_4 => j_1 x_4 r_4)) else ob (f_X8_longestAgo fu nw x b3) (fun x_5 r_5 => j_1 x_5 r_5))
def f_X8_chooseRunners (fu nw : Nat) (x : Me) (a1 : Int32) (a2 : Int32) (a3 : Int32) : Option (Me × Unit) := f_X8_chooseRunners_10 fu nw a1 a2 a3 (a1 - (a1 / 3)) (fun (x_8 : Me) => some (x_8, ())) fu x 0
def rm_X8_chooseRunners : Room := { frames := 2, cells := 0, slots := 0, locals := 45 }
set_option maxHeartbeats 4000000 in
set_option maxRecDepth 100000 in
theorem wk_X8_chooseRunners_10 {p : Program} {l : Launch} {e : Env} {s : State} {m : MethodId} {args : Array Value} {below : List Frame} {meth : Method} {c : Code} {fu nw : Nat} {G : GG} {mo : Me} {b1 : Int32} {b2 : Int32} {b3 : Int32} {b5 : Int32} (hx : p.tables.exec = Jvm.exec) (hb : c.code = cX8_chooseRunners) (hml : c.maxLocals = 9) (hown : s.vm.findClass RX8 = some m.cls) (hE : EnvP G s) (hr : meth.sig.returnType = none) (hlocks : meth.locks = false) {x' : Me} {r : Unit} {k : Me → Option (Me × Unit)} (hk : ∀ (x : Me) (H : Heap) (locs : List Loc) (ls : Array Slot), k x = some (x', r) → MemP G nw x mo H → va_S (gA G) s.heap H locs → lv_has ls 9 [] → W p l e rm_X8_chooseRunners s m args below meth c H locs 0 0 (MQ below (PV G nw x' mo) args s 0 0 (gA G)) (F0 m 72 ls [])) : ∀ (n : Nat) (x : Me) (a6 : Int32) (H : Heap) (locs : List Loc) (ls : Array Slot), f_X8_chooseRunners_10 fu nw b1 b2 b3 b5 k n x a6 = some (x', r) → MemP G nw x mo H → va_S (gA G) s.heap H locs → lv_has ls 9 [(0, .ref (ga G 7)), (1, .int b1), (2, .int b2), (3, .int b3), (4, .ref (ga G 40)), (5, .int b5), (6, .int a6)] → W p l e rm_X8_chooseRunners s m args below meth c H locs 0 0 (MQ below (PV G nw x' mo) args s 0 0 (gA G)) (F0 m 10 ls []) := by
  intro n
  induction n with
  | zero =>
    intro x a6 H locs ls hf hM hS hl
    exact nn hf
  | succ n ih =>
    intro x a6 H locs ls hf hM hS hl
    rw [f_X8_chooseRunners_10] at hf
    refine lv_iload hx hb dX8_chooseRunners_10 (lv_at hl 6 rfl) ?_
    refine lv_iload_n hx hb dX8_chooseRunners_12 rfl (lv_at hl 1 rfl) ?_
    refine lv_icmp_ge (tgt := 72) hx hb dX8_chooseRunners_13 (by decide) (fun hc_7 => ?_) (fun hc_7 => ?_)
    · replace hf := i_t hf hc_7
      exact hk x _ _ _ hf hM hS (lv_sub hl [] rfl)
    · replace hf := i_f hf hc_7
      refine lv_iload hx hb dX8_chooseRunners_16 (lv_at hl 6 rfl) ?_
      refine lv_iload hx hb dX8_chooseRunners_18 (lv_at hl 5 rfl) ?_
      have hj_1 : ∀ (x_1 : Me) (s_1 : Int32) (H : Heap) (locs : List Loc) (ls : Array Slot), jnA hf x_1 s_1 = some (x', r) → MemP G nw x_1 mo H → va_S (gA G) s.heap H locs → lv_has ls 9 [(0, .ref (ga G 7)), (1, .int b1), (2, .int b2), (3, .int b3), (4, .ref (ga G 40)), (5, .int b5), (6, .int a6)] → W p l e rm_X8_chooseRunners s m args below meth c H locs 0 0 (MQ below (PV G nw x' mo) args s 0 0 (gA G)) (F0 m 45 ls [.int s_1]) := by
        intro x_1 s_1 H locs ls hf hM hS hl
        refine lv_istore (lv' := [(7, .int s_1), (0, .ref (ga G 7)), (1, .int b1), (2, .int b2), (3, .int b3), (4, .ref (ga G 40)), (5, .int b5), (6, .int a6)]) hx hb dX8_chooseRunners_45 hl (by decide) rfl (fun ls hl => ?_)
        refine lv_aload_n hx hb dX8_chooseRunners_47 rfl (lv_at hl 1 rfl) ?_
        refine lv_iload hx hb dX8_chooseRunners_48 (lv_at hl 0 rfl) ?_
        obtain ⟨x_2, r_2, hq_2, hf⟩ := ob_some hf
        refine k_X8_find hx hb hml hown hE hM hS w_3_68 hq_2 (Nat.le_of_ble_eq_true rfl) (Nat.le_of_ble_eq_true rfl) hl.1 (Nat.le_of_ble_eq_true rfl) ⟨Nat.zero_le _, Nat.zero_le _⟩ dX8_chooseRunners_50 (fun h_2 H locs hM hS => ?_) (fun m_2 h_2 H locs hM hS => ?_)
        · subst h_2
          replace hf := om_n hf
          refine lv_astoreN (lv' := [(8, .null), (7, .int s_1), (0, .ref (ga G 7)), (1, .int b1), (2, .int b2), (3, .int b3), (4, .ref (ga G 40)), (5, .int b5), (6, .int a6)]) hx hb dX8_chooseRunners_53 hl (by decide) rfl (fun ls hl => ?_)
          refine lv_aloadN hx hb dX8_chooseRunners_55 (lv_at hl 0 rfl) ?_
          refine lv_ifnullN (tgt := 66) hx hb dX8_chooseRunners_57 (by decide) ?_
          refine lv_iinc (v := a6 + 1) (lv' := [(6, .int (a6 + 1)), (8, .null), (7, .int s_1), (0, .ref (ga G 7)), (1, .int b1), (2, .int b2), (3, .int b3), (4, .ref (ga G 40)), (5, .int b5)]) hx hb dX8_chooseRunners_66 hl (k := 8) rfl rfl (by decide) rfl (fun ls hl => ?_)
          refine lv_goto (tgt := 10) hx hb dX8_chooseRunners_69 (by decide) ?_
          exact ih x_2 (a6 + 1) _ _ _ hf hM hS (lv_sub hl [3, 4, 5, 6, 7, 8, 0] rfl)
        · subst h_2
          replace hf := om_s hf
          obtain ⟨hm_2, hf⟩ := i_n hf
          refine lv_astore (lv' := [(8, .ref (ga G (69 + m_2))), (7, .int s_1), (0, .ref (ga G 7)), (1, .int b1), (2, .int b2), (3, .int b3), (4, .ref (ga G 40)), (5, .int b5), (6, .int a6)]) hx hb dX8_chooseRunners_53 hl (by decide) rfl (fun ls hl => ?_)
          refine lv_aload hx hb dX8_chooseRunners_55 (lv_at hl 0 rfl) ?_
          refine lv_ifnull hx hb dX8_chooseRunners_57 ?_
          refine lv_aload hx hb dX8_chooseRunners_60 (lv_at hl 0 rfl) ?_
          refine lv_iconst (v := 1) hx hb dX8_chooseRunners_62 (by decide) ?_
          refine pf_50N hm_2 hx hb hE hM hS hown rfl rfl w_2_229 dX8_chooseRunners_63 (fun H locs hM hS => ?_)
          refine lv_iinc (v := a6 + 1) (lv' := [(6, .int (a6 + 1)), (8, .ref (ga G (69 + m_2))), (7, .int s_1), (0, .ref (ga G 7)), (1, .int b1), (2, .int b2), (3, .int b3), (4, .ref (ga G 40)), (5, .int b5)]) hx hb dX8_chooseRunners_66 hl (k := 8) rfl rfl (by decide) rfl (fun ls hl => ?_)
          refine lv_goto (tgt := 10) hx hb dX8_chooseRunners_69 (by decide) ?_
          exact ih (mu x_2 50 m_2 1) (a6 + 1) _ _ _ hf hM hS (lv_sub hl [3, 4, 5, 6, 7, 8, 0] rfl)
      replace hf := jn_use hf
      refine lv_icmp_ge (tgt := 31) hx hb dX8_chooseRunners_20 (by decide) (fun hc_6 => ?_) (fun hc_6 => ?_)
      · replace hf := i_t hf hc_6
        refine lv_aload_n hx hb dX8_chooseRunners_31 rfl (lv_at hl 0 rfl) ?_
        refine lv_aload hx hb dX8_chooseRunners_32 (lv_at hl 4 rfl) ?_
        refine lv_iload_n hx hb dX8_chooseRunners_34 rfl (lv_at hl 2 rfl) ?_
        refine lv_iload hx hb dX8_chooseRunners_35 (lv_at hl 6 rfl) ?_
        refine lv_isub hx hb dX8_chooseRunners_37 ?_
        obtain ⟨x_3, r_3, hq_3, hf⟩ := ob_some hf
        refine k_X0_below_40 hx hb hml hown hE hM hS w_3_59 hq_3 (Nat.le_of_ble_eq_true rfl) (Nat.le_of_ble_eq_true rfl) hl.1 (Nat.le_of_ble_eq_true rfl) ⟨Nat.zero_le _, Nat.zero_le _⟩ dX8_chooseRunners_38 (fun H locs hM hS => ?_)
        refine lv_iload_n hx hb dX8_chooseRunners_41 rfl (lv_at hl 3 rfl) ?_
        obtain ⟨x_4, r_4, hq_4, hf⟩ := ob_some hf
        refine k_X8_freeAt hx hb hml hown hE hM hS w_3_64 hq_4 (Nat.le_of_ble_eq_true rfl) (Nat.le_of_ble_eq_true rfl) hl.1 (Nat.le_of_ble_eq_true rfl) ⟨Nat.zero_le _, Nat.zero_le _⟩ dX8_chooseRunners_42 (fun H locs hM hS => ?_)
        exact hj_1 x_4 r_4 _ _ _ hf hM hS (lv_sub hl [0, 1, 2, 3, 4, 5, 6] rfl)
      · replace hf := i_f hf hc_6
        refine lv_aload_n hx hb dX8_chooseRunners_23 rfl (lv_at hl 0 rfl) ?_
        refine lv_iload_n hx hb dX8_chooseRunners_24 rfl (lv_at hl 3 rfl) ?_
        obtain ⟨x_5, r_5, hq_5, hf⟩ := ob_some hf
        refine k_X8_longestAgo hx hb hml hown hE hM hS w_3_55 hq_5 (Nat.le_of_ble_eq_true rfl) (Nat.le_of_ble_eq_true rfl) hl.1 (Nat.le_of_ble_eq_true rfl) ⟨Nat.zero_le _, Nat.zero_le _⟩ dX8_chooseRunners_25 (fun H locs hM hS => ?_)
        refine lv_goto (tgt := 45) hx hb dX8_chooseRunners_28 (by decide) ?_
        exact hj_1 x_5 r_5 _ _ _ hf hM hS (lv_sub hl [0, 1, 2, 3, 4, 5, 6] rfl)
set_option maxHeartbeats 4000000 in
set_option maxRecDepth 100000 in
theorem c_X8_chooseRunners (l : Launch) (fu nw : Nat) (G : GG) (x x' mo : Me) (a1 : Int32) (a2 : Int32) (a3 : Int32) (r : Unit) (hf : f_X8_chooseRunners fu nw x a1 a2 a3 = some (x', r)) : Met l yX8_chooseRunners [.code yX8_chooseRunners cX8_chooseRunners 9 none] rm_X8_chooseRunners (va_Pc [.ref (ga G 7), .int a1, .int a2, .int a3, .ref (ga G 40)] (Pre G nw x mo)) (PV G nw x' mo) 0 0 (gA G) := by
  refine mt_ofW (cc := cX8_chooseRunners) (maxL := 9) (ret := none) (by decide +kernel) rfl ?_
  intro p e s m args below meth c s₁ B hml hv
  obtain ⟨rfl, hE, hM⟩ := hv
  have hx := B.exec
  have hb := B.bytes
  have hr := B.returns
  have hown : s.vm.findClass RX8 = some m.cls := findClass_of_methodNamed B.named
  have hlocks := B.notSynchronized
  have hS : va_S (gA G) s.heap s.heap [] := va_S.rf
  have hl := lv_entry ([.ref (ga G 7), .int a1, .int a2, .int a3, .ref (ga G 40)]) (n := 9) (Nat.le_of_ble_eq_true rfl)
  rw [lg_entry_eq]
  generalize (lg_sl ([.ref (ga G 7), .int a1, .int a2, .int a3, .ref (ga G 40)]) ++ List.replicate (9 - (lg_sl ([.ref (ga G 7), .int a1, .int a2, .int a3, .ref (ga G 40)])).length) Slot.unset).toArray = ls at hl ⊢
  have hl : lv_has ls 9 [(0, .ref (ga G 7)), (1, .int a1), (2, .int a2), (3, .int a3), (4, .ref (ga G 40))] := hl
  generalize ([.ref (ga G 7), .int a1, .int a2, .int a3, .ref (ga G 40)] : List Value).toArray = args
  unfold f_X8_chooseRunners at hf
  refine lv_iload_n hx hb dX8_chooseRunners_0 rfl (lv_at hl 1 rfl) ?_
  refine lv_iload_n hx hb dX8_chooseRunners_1 rfl (lv_at hl 1 rfl) ?_
  refine lv_iconst (v := 3) hx hb dX8_chooseRunners_2 (by decide) ?_
  refine lv_idiv hx hb dX8_chooseRunners_3 (by decide) ?_
  refine lv_isub hx hb dX8_chooseRunners_4 ?_
  refine lv_istore (lv' := [(5, .int (a1 - (a1 / 3))), (0, .ref (ga G 7)), (1, .int a1), (2, .int a2), (3, .int a3), (4, .ref (ga G 40))]) hx hb dX8_chooseRunners_5 hl (by decide) rfl (fun ls hl => ?_)
  refine lv_iconst (v := 0) hx hb dX8_chooseRunners_7 (by decide) ?_
  refine lv_istore (lv' := [(6, .int 0), (5, .int (a1 - (a1 / 3))), (0, .ref (ga G 7)), (1, .int a1), (2, .int a2), (3, .int a3), (4, .ref (ga G 40))]) hx hb dX8_chooseRunners_8 hl (by decide) rfl (fun ls hl => ?_)
  refine wk_X8_chooseRunners_10 hx hb hml hown hE hr hlocks ?_ fu x 0 _ _ _ hf hM hS (lv_sub hl [2, 3, 4, 5, 6, 1, 0] rfl)
  intro x_8 H locs ls hf hM hS hl
  exact rt_vX hx hb hr hf hM hS dX8_chooseRunners_72 hlocks
theorem k_X8_chooseRunners {p : Program} {l : Launch} {e : Env} {R : Room} {s : State} {m : MethodId} {args : Array Value} {below : List Frame} {meth : Method} {c : Code} {H : Heap} {locs : List Loc} {cells slots : Nat} {Q : State → Prop} {cc : ByteArray} {pc nL : Nat} {ls : Array Slot} {rest : List Value} {G : GG} {fu nw : Nat} {x x' mo : Me} {own : String} {index : Nat} {a1 : Int32} {a2 : Int32} {a3 : Int32} {r : Unit} (hx : p.tables.exec = Jvm.exec) (hb : c.code = cc) (hml : c.maxLocals = nL) (hown : s.vm.findClass own = some m.cls) (hE : EnvP G s) (hM : MemP G nw x mo H) (hS : va_S (gA G) s.heap H locs) (hw : Cond.methodLink own index yX8_chooseRunners ∈ lw_tbl) (hf : f_X8_chooseRunners fu nw x a1 a2 a3 = some (x', r)) (h1 : 2 + 1 ≤ R.frames) (h2 : 8 + (9 + 11) + 45 ≤ R.locals) (hsz : ls.size = nL) (hW : (rest.map fun v => v.category).sum ≤ 8) (hcs : cells ≤ R.cells ∧ slots ≤ R.slots) (hdg : decode cc pc = .ok (.invokevirtual index, 3)) (kk : ∀ (H1 : Heap) (locs1 : List Loc), MemP G nw x' mo H1 → va_S (gA G) s.heap H1 locs1 → W p l e R s m args below meth c H1 locs1 cells slots Q (F0 m (pc + 3) ls rest)) : W p l e R s m args below meth c H locs cells slots Q (F0 m pc ls (.ref (ga G 40) :: .int a3 :: .int a2 :: .int a1 :: .ref (ga G 7) :: rest)) := mm_kv hS (mm_runV (n := 4) (o := 7) (C := RX8) (T := TX8) (N := 2) (ci := 8) (As := [.int a1, .int a2, .int a3, .ref (ga G 40)]) hx hb hml hown hE hM hS (c_X8_chooseRunners l fu nw G x x' mo a1 a2 a3 _ hf) (List.forall_mem_cons.mpr ⟨⟨hw, rfl⟩, List.forall_mem_cons.mpr ⟨⟨w_3_52, rfl⟩, List.forall_mem_cons.mpr ⟨⟨w_3_53, rfl⟩, List.forall_mem_cons.mpr ⟨⟨w_1_4, rfl⟩, List.forall_mem_cons.mpr ⟨⟨w_3_54, rfl⟩, fun _ h => absurd h List.not_mem_nil⟩⟩⟩⟩⟩) rfl rfl ⟨rfl, by decide, by decide, by decide +kernel⟩ ⟨h1, h2⟩ rfl rfl rfl hsz rfl hW hdg hcs) kk
def f_X8_forgetYear_2 (fu nw : Nat) (k : Me → Option (Me × Unit)) : Nat → Me → Int32 → Option (Me × Unit)
  | 0 => fun _ _ => none
  | n + 1 => fun x a1 => if (x 13 0) ≤ a1 then k x else if inb a1 17 = true then if a1.toNatClampNeg < nw then if a1.toNatClampNeg < nw then if a1.toNatClampNeg < nw then f_X8_forgetYear_2 fu nw k n (mu (mu (mu x 50 a1.toNatClampNeg 0) 51 a1.toNatClampNeg (-1)) 54 a1.toNatClampNeg 0) (a1 + 1) else none else none else none else none
def f_X8_forgetYear (fu nw : Nat) (x : Me) : Option (Me × Unit) := f_X8_forgetYear_2 fu nw (fun (x_6 : Me) => some (x_6, ())) fu x 0
def rm_X8_forgetYear : Room := { frames := 0, cells := 0, slots := 0, locals := 0 }
set_option maxHeartbeats 4000000 in
set_option maxRecDepth 100000 in
theorem wk_X8_forgetYear_2 {p : Program} {l : Launch} {e : Env} {s : State} {m : MethodId} {args : Array Value} {below : List Frame} {meth : Method} {c : Code} {fu nw : Nat} {G : GG} {mo : Me} (hx : p.tables.exec = Jvm.exec) (hb : c.code = cX8_forgetYear) (hml : c.maxLocals = 2) (hown : s.vm.findClass RX8 = some m.cls) (hE : EnvP G s) (hr : meth.sig.returnType = none) (hlocks : meth.locks = false) {x' : Me} {r : Unit} {k : Me → Option (Me × Unit)} (hk : ∀ (x : Me) (H : Heap) (locs : List Loc) (ls : Array Slot), k x = some (x', r) → MemP G nw x mo H → va_S (gA G) s.heap H locs → lv_has ls 2 [] → W p l e rm_X8_forgetYear s m args below meth c H locs 0 0 (MQ below (PV G nw x' mo) args s 0 0 (gA G)) (F0 m 46 ls [])) : ∀ (n : Nat) (x : Me) (a1 : Int32) (H : Heap) (locs : List Loc) (ls : Array Slot), f_X8_forgetYear_2 fu nw k n x a1 = some (x', r) → MemP G nw x mo H → va_S (gA G) s.heap H locs → lv_has ls 2 [(0, .ref (ga G 7)), (1, .int a1)] → W p l e rm_X8_forgetYear s m args below meth c H locs 0 0 (MQ below (PV G nw x' mo) args s 0 0 (gA G)) (F0 m 2 ls []) := by
  intro n
  induction n with
  | zero =>
    intro x a1 H locs ls hf hM hS hl
    exact nn hf
  | succ n ih =>
    intro x a1 H locs ls hf hM hS hl
    rw [f_X8_forgetYear_2] at hf
    refine lv_iload_n hx hb dX8_forgetYear_2 rfl (lv_at hl 1 rfl) ?_
    refine lv_aload_n hx hb dX8_forgetYear_3 rfl (lv_at hl 0 rfl) ?_
    refine gf_13 hx hb hE hM hown w_1_87 dX8_forgetYear_4 ?_
    refine lv_icmp_ge (tgt := 46) hx hb dX8_forgetYear_7 (by decide) (fun hc_5 => ?_) (fun hc_5 => ?_)
    · replace hf := i_t hf hc_5
      exact hk x _ _ _ hf hM hS (lv_sub hl [] rfl)
    · replace hf := i_f hf hc_5
      refine lv_aload_n hx hb dX8_forgetYear_10 rfl (lv_at hl 0 rfl) ?_
      refine gr_8 hx hb hE hM hown w_1_90 dX8_forgetYear_11 ?_
      refine lv_iload_n hx hb dX8_forgetYear_14 rfl (lv_at hl 1 rfl) ?_
      obtain ⟨hi_1, hf⟩ := i_n hf
      refine mm_wald hx hb hE hM hi_1 dX8_forgetYear_15 (fun hc_2 => ?_) (fun hc_2 => ?_)
      · replace hf := i_t hf hc_2
        refine lv_iconst (v := 0) hx hb dX8_forgetYear_16 (by decide) ?_
        refine pf_50N hc_2 hx hb hE hM hS hown rfl rfl w_2_229 dX8_forgetYear_17 (fun H locs hM hS => ?_)
        refine lv_aload_n hx hb dX8_forgetYear_20 rfl (lv_at hl 0 rfl) ?_
        refine gr_8 hx hb hE hM hown w_1_90 dX8_forgetYear_21 ?_
        refine lv_iload_n hx hb dX8_forgetYear_24 rfl (lv_at hl 1 rfl) ?_
        refine mm_wald hx hb hE hM hi_1 dX8_forgetYear_25 (fun hc_3 => ?_) (fun hc_3 => ?_)
        · replace hf := i_t hf hc_3
          refine lv_iconst (v := (-1)) hx hb dX8_forgetYear_26 (by decide) ?_
          refine pf_51N hc_3 hx hb hE hM hS hown w_2_233 dX8_forgetYear_27 (fun H locs hM hS => ?_)
          refine lv_aload_n hx hb dX8_forgetYear_30 rfl (lv_at hl 0 rfl) ?_
          refine gr_8 hx hb hE hM hown w_1_90 dX8_forgetYear_31 ?_
          refine lv_iload_n hx hb dX8_forgetYear_34 rfl (lv_at hl 1 rfl) ?_
          refine mm_wald hx hb hE hM hi_1 dX8_forgetYear_35 (fun hc_4 => ?_) (fun hc_4 => ?_)
          · replace hf := i_t hf hc_4
            refine lv_iconst (v := 0) hx hb dX8_forgetYear_36 (by decide) ?_
            refine pf_54N hc_4 hx hb hE hM hS hown w_3_0 dX8_forgetYear_37 (fun H locs hM hS => ?_)
            refine lv_iinc (v := a1 + 1) (lv' := [(1, .int (a1 + 1)), (0, .ref (ga G 7))]) hx hb dX8_forgetYear_40 hl (k := 1) rfl rfl (by decide) rfl (fun ls hl => ?_)
            refine lv_goto (tgt := 2) hx hb dX8_forgetYear_43 (by decide) ?_
            exact ih (mu (mu (mu x 50 a1.toNatClampNeg 0) 51 a1.toNatClampNeg (-1)) 54 a1.toNatClampNeg 0) (a1 + 1) _ _ _ hf hM hS (lv_sub hl [1, 0] rfl)
          · replace hf := i_f hf hc_4
            refine lv_iconst (v := 0) hx hb dX8_forgetYear_36 (by decide) ?_
            exact nn hf
        · replace hf := i_f hf hc_3
          refine lv_iconst (v := (-1)) hx hb dX8_forgetYear_26 (by decide) ?_
          exact nn hf
      · replace hf := i_f hf hc_2
        refine lv_iconst (v := 0) hx hb dX8_forgetYear_16 (by decide) ?_
        exact nn hf
set_option maxHeartbeats 4000000 in
set_option maxRecDepth 100000 in
theorem c_X8_forgetYear (l : Launch) (fu nw : Nat) (G : GG) (x x' mo : Me) (r : Unit) (hf : f_X8_forgetYear fu nw x = some (x', r)) : Met l yX8_forgetYear [.code yX8_forgetYear cX8_forgetYear 2 none] rm_X8_forgetYear (va_Pc [.ref (ga G 7)] (Pre G nw x mo)) (PV G nw x' mo) 0 0 (gA G) := by
  refine mt_ofW (cc := cX8_forgetYear) (maxL := 2) (ret := none) (by decide +kernel) rfl ?_
  intro p e s m args below meth c s₁ B hml hv
  obtain ⟨rfl, hE, hM⟩ := hv
  have hx := B.exec
  have hb := B.bytes
  have hr := B.returns
  have hown : s.vm.findClass RX8 = some m.cls := findClass_of_methodNamed B.named
  have hlocks := B.notSynchronized
  have hS : va_S (gA G) s.heap s.heap [] := va_S.rf
  have hl := lv_entry ([.ref (ga G 7)]) (n := 2) (Nat.le_of_ble_eq_true rfl)
  rw [lg_entry_eq]
  generalize (lg_sl ([.ref (ga G 7)]) ++ List.replicate (2 - (lg_sl ([.ref (ga G 7)])).length) Slot.unset).toArray = ls at hl ⊢
  have hl : lv_has ls 2 [(0, .ref (ga G 7))] := hl
  generalize ([.ref (ga G 7)] : List Value).toArray = args
  unfold f_X8_forgetYear at hf
  refine lv_iconst (v := 0) hx hb dX8_forgetYear_0 (by decide) ?_
  refine lv_istore_n (lv' := [(1, .int 0), (0, .ref (ga G 7))]) hx hb dX8_forgetYear_1 rfl hl (by decide) rfl (fun ls hl => ?_)
  refine wk_X8_forgetYear_2 hx hb hml hown hE hr hlocks ?_ fu x 0 _ _ _ hf hM hS (lv_sub hl [1, 0] rfl)
  intro x_6 H locs ls hf hM hS hl
  exact rt_vX hx hb hr hf hM hS dX8_forgetYear_46 hlocks
theorem k_X8_forgetYear {p : Program} {l : Launch} {e : Env} {R : Room} {s : State} {m : MethodId} {args : Array Value} {below : List Frame} {meth : Method} {c : Code} {H : Heap} {locs : List Loc} {cells slots : Nat} {Q : State → Prop} {cc : ByteArray} {pc nL : Nat} {ls : Array Slot} {rest : List Value} {G : GG} {fu nw : Nat} {x x' mo : Me} {own : String} {index : Nat} {r : Unit} (hx : p.tables.exec = Jvm.exec) (hb : c.code = cc) (hml : c.maxLocals = nL) (hown : s.vm.findClass own = some m.cls) (hE : EnvP G s) (hM : MemP G nw x mo H) (hS : va_S (gA G) s.heap H locs) (hw : Cond.methodLink own index yX8_forgetYear ∈ lw_tbl) (hf : f_X8_forgetYear fu nw x = some (x', r)) (h1 : 0 + 1 ≤ R.frames) (h2 : 8 + (2 + 11) + 0 ≤ R.locals) (hsz : ls.size = nL) (hW : (rest.map fun v => v.category).sum ≤ 8) (hcs : cells ≤ R.cells ∧ slots ≤ R.slots) (hdg : decode cc pc = .ok (.invokevirtual index, 3)) (kk : ∀ (H1 : Heap) (locs1 : List Loc), MemP G nw x' mo H1 → va_S (gA G) s.heap H1 locs1 → W p l e R s m args below meth c H1 locs1 cells slots Q (F0 m (pc + 3) ls rest)) : W p l e R s m args below meth c H locs cells slots Q (F0 m pc ls (.ref (ga G 7) :: rest)) := mm_kv hS (mm_runV (n := 0) (o := 7) (C := RX8) (T := TX8) (N := 2) (ci := 8) (As := []) hx hb hml hown hE hM hS (c_X8_forgetYear l fu nw G x x' mo _ hf) (List.forall_mem_cons.mpr ⟨⟨hw, rfl⟩, List.forall_mem_cons.mpr ⟨⟨w_4_87, rfl⟩, List.forall_mem_cons.mpr ⟨⟨w_4_88, rfl⟩, List.forall_mem_cons.mpr ⟨⟨w_1_4, rfl⟩, List.forall_mem_cons.mpr ⟨⟨w_4_89, rfl⟩, fun _ h => absurd h List.not_mem_nil⟩⟩⟩⟩⟩) rfl rfl ⟨rfl, by decide, by decide, by decide +kernel⟩ ⟨h1, h2⟩ rfl rfl rfl hsz rfl hW hdg hcs) kk
