def f_X4_begin (fu nw : Nat) (x : Me) (rt : Nat) (a1 : Int32) (a2 : Int32) (a3 : Int32) : Option (Me × Unit) := if rt < 10 then some ((mu (mu (mu (mu (mu (mu (mu (mu x 37 rt a1) 38 rt (3 + (a2 / 250))) 39 rt (-(a3 / 4))) 40 rt (a3 - a3 / 4 * 4)) 41 rt 0) 42 rt 0) 43 rt (-1)) 44 rt 0), ()) else none
def rm_X4_begin : Room := { frames := 0, cells := 0, slots := 0, locals := 0 }
set_option maxHeartbeats 4000000 in
set_option maxRecDepth 100000 in
theorem c_X4_begin (l : Launch) (fu nw : Nat) (G : GG) (x x' mo : Me) (rt : Nat) (a1 : Int32) (a2 : Int32) (a3 : Int32) (r : Unit) (hf : f_X4_begin fu nw x rt a1 a2 a3 = some (x', r)) : Met l yX4_begin [.code yX4_begin cX4_begin 4 none] rm_X4_begin (va_Pc [.ref (ga G (26 + rt)), .int a1, .int a2, .int a3] (Pre G nw x mo)) (PV G nw x' mo) 0 0 (gA G) := by
  refine mt_ofW (cc := cX4_begin) (maxL := 4) (ret := none) (by decide +kernel) rfl ?_
  intro p e s m args below meth c s₁ B hml hv
  obtain ⟨rfl, hE, hM⟩ := hv
  have hx := B.exec
  have hb := B.bytes
  have hr := B.returns
  have hown : s.vm.findClass RX4 = some m.cls := findClass_of_methodNamed B.named
  have hlocks := B.notSynchronized
  have hS : va_S (gA G) s.heap s.heap [] := va_S.rf
  have hl := lv_entry ([.ref (ga G (26 + rt)), .int a1, .int a2, .int a3]) (n := 4) (Nat.le_of_ble_eq_true rfl)
  rw [lg_entry_eq]
  generalize (lg_sl ([.ref (ga G (26 + rt)), .int a1, .int a2, .int a3]) ++ List.replicate (4 - (lg_sl ([.ref (ga G (26 + rt)), .int a1, .int a2, .int a3])).length) Slot.unset).toArray = ls at hl ⊢
  have hl : lv_has ls 4 [(0, .ref (ga G (26 + rt))), (1, .int a1), (2, .int a2), (3, .int a3)] := hl
  generalize ([.ref (ga G (26 + rt)), .int a1, .int a2, .int a3] : List Value).toArray = args
  unfold f_X4_begin at hf
  obtain ⟨hm_1, hf⟩ := i_n hf
  refine lv_aload_n hx hb dX4_begin_0 rfl (lv_at hl 0 rfl) ?_
  refine lv_iload_n hx hb dX4_begin_1 rfl (lv_at hl 1 rfl) ?_
  refine pf_37 hm_1 hx hb hE hM hS hown w_1_171 dX4_begin_2 (fun H locs hM hS => ?_)
  refine lv_aload_n hx hb dX4_begin_5 rfl (lv_at hl 0 rfl) ?_
  refine lv_iconst (v := 3) hx hb dX4_begin_6 (by decide) ?_
  refine lv_iload_n hx hb dX4_begin_7 rfl (lv_at hl 2 rfl) ?_
  refine lv_sipush (v := 250) hx hb dX4_begin_8 (by decide) ?_
  refine lv_idiv hx hb dX4_begin_11 (by decide) ?_
  refine lv_iadd hx hb dX4_begin_12 ?_
  refine pf_38 hm_1 hx hb hE hM hS hown w_1_173 dX4_begin_13 (fun H locs hM hS => ?_)
  refine lv_aload_n hx hb dX4_begin_16 rfl (lv_at hl 0 rfl) ?_
  refine lv_iload_n hx hb dX4_begin_17 rfl (lv_at hl 3 rfl) ?_
  refine lv_iconst (v := 4) hx hb dX4_begin_18 (by decide) ?_
  refine lv_idiv hx hb dX4_begin_19 (by decide) ?_
  refine lv_ineg hx hb dX4_begin_20 ?_
  refine pf_39 hm_1 hx hb hE hM hS hown w_1_175 dX4_begin_21 (fun H locs hM hS => ?_)
  refine lv_aload_n hx hb dX4_begin_24 rfl (lv_at hl 0 rfl) ?_
  refine lv_iload_n hx hb dX4_begin_25 rfl (lv_at hl 3 rfl) ?_
  refine lv_iconst (v := 4) hx hb dX4_begin_26 (by decide) ?_
  refine lv_irem hx hb dX4_begin_27 (by decide) ?_
  refine pf_40 hm_1 hx hb hE hM hS hown w_1_178 dX4_begin_28 (fun H locs hM hS => ?_)
  refine lv_aload_n hx hb dX4_begin_31 rfl (lv_at hl 0 rfl) ?_
  refine lv_iconst (v := 0) hx hb dX4_begin_32 (by decide) ?_
  refine pf_41 hm_1 hx hb hE hM hS hown w_1_181 dX4_begin_33 (fun H locs hM hS => ?_)
  refine lv_aload_n hx hb dX4_begin_36 rfl (lv_at hl 0 rfl) ?_
  refine lv_iconst (v := 0) hx hb dX4_begin_37 (by decide) ?_
  refine pf_42 hm_1 hx hb hE hM hS hown rfl rfl w_1_184 dX4_begin_38 (fun H locs hM hS => ?_)
  refine lv_aload_n hx hb dX4_begin_41 rfl (lv_at hl 0 rfl) ?_
  refine lv_iconst (v := (-1)) hx hb dX4_begin_42 (by decide) ?_
  refine pf_43 hm_1 hx hb hE hM hS hown w_1_187 dX4_begin_43 (fun H locs hM hS => ?_)
  refine lv_aload_n hx hb dX4_begin_46 rfl (lv_at hl 0 rfl) ?_
  refine lv_iconst (v := 0) hx hb dX4_begin_47 (by decide) ?_
  refine pf_44 hm_1 hx hb hE hM hS hown w_1_190 dX4_begin_48 (fun H locs hM hS => ?_)
  exact rt_vX hx hb hr hf hM hS dX4_begin_51 hlocks
theorem k_X4_begin {p : Program} {l : Launch} {e : Env} {R : Room} {s : State} {m : MethodId} {args : Array Value} {below : List Frame} {meth : Method} {c : Code} {H : Heap} {locs : List Loc} {cells slots : Nat} {Q : State → Prop} {cc : ByteArray} {pc nL : Nat} {ls : Array Slot} {rest : List Value} {G : GG} {fu nw : Nat} {x x' mo : Me} {own : String} {index : Nat} {rt : Nat} {a1 : Int32} {a2 : Int32} {a3 : Int32} {r : Unit} (hi : rt < 10) (hx : p.tables.exec = Jvm.exec) (hb : c.code = cc) (hml : c.maxLocals = nL) (hown : s.vm.findClass own = some m.cls) (hE : EnvP G s) (hM : MemP G nw x mo H) (hS : va_S (gA G) s.heap H locs) (hw : Cond.methodLink own index yX4_begin ∈ lw_tbl) (hf : f_X4_begin fu nw x rt a1 a2 a3 = some (x', r)) (h1 : 0 + 1 ≤ R.frames) (h2 : 8 + (4 + 11) + 0 ≤ R.locals) (hsz : ls.size = nL) (hW : (rest.map fun v => v.category).sum ≤ 8) (hcs : cells ≤ R.cells ∧ slots ≤ R.slots) (hdg : decode cc pc = .ok (.invokevirtual index, 3)) (kk : ∀ (H1 : Heap) (locs1 : List Loc), MemP G nw x' mo H1 → va_S (gA G) s.heap H1 locs1 → W p l e R s m args below meth c H1 locs1 cells slots Q (F0 m (pc + 3) ls rest)) : W p l e R s m args below meth c H locs cells slots Q (F0 m pc ls (.int a3 :: .int a2 :: .int a1 :: .ref (ga G (26 + rt)) :: rest)) := mm_kv hS (mm_runV (n := 3) (o := 26 + rt) (C := RX4) (T := TX4) (N := 8) (ci := 4) (As := [.int a1, .int a2, .int a3]) hx hb hml hown hE hM hS (c_X4_begin l fu nw G x x' mo rt a1 a2 a3 _ hf) (List.forall_mem_cons.mpr ⟨⟨hw, rfl⟩, List.forall_mem_cons.mpr ⟨⟨w_3_211, rfl⟩, List.forall_mem_cons.mpr ⟨⟨w_3_212, rfl⟩, List.forall_mem_cons.mpr ⟨⟨w_1_9, rfl⟩, List.forall_mem_cons.mpr ⟨⟨w_3_213, rfl⟩, fun _ h => absurd h List.not_mem_nil⟩⟩⟩⟩⟩) rfl rfl ⟨rfl, by decide, by decide, by decide +kernel⟩ ⟨h1, h2⟩ (e_rn hi) rfl rfl hsz rfl hW hdg hcs) kk
def f_X4_onRing (fu nw : Nat) (x : Me) (rt : Nat) : Option (Me × Int32) := if rt < 10 then if (x 43 rt) = (-1) then some (x, 1) else some (x, 0) else none
def rm_X4_onRing : Room := { frames := 0, cells := 0, slots := 0, locals := 0 }
set_option maxHeartbeats 4000000 in
set_option maxRecDepth 100000 in
theorem c_X4_onRing (l : Launch) (fu nw : Nat) (G : GG) (x x' mo : Me) (rt : Nat) (r : Int32) (hf : f_X4_onRing fu nw x rt = some (x', r)) : Met l yX4_onRing [.code yX4_onRing cX4_onRing 1 (some .boolean)] rm_X4_onRing (va_Pc [.ref (ga G (26 + rt))] (Pre G nw x mo)) (PI G nw x' mo r) 0 0 (gA G) := by
  refine mt_ofW (cc := cX4_onRing) (maxL := 1) (ret := (some .boolean)) (by decide +kernel) rfl ?_
  intro p e s m args below meth c s₁ B hml hv
  obtain ⟨rfl, hE, hM⟩ := hv
  have hx := B.exec
  have hb := B.bytes
  have hr := B.returns
  have hown : s.vm.findClass RX4 = some m.cls := findClass_of_methodNamed B.named
  have hlocks := B.notSynchronized
  have hS : va_S (gA G) s.heap s.heap [] := va_S.rf
  have hl := lv_entry ([.ref (ga G (26 + rt))]) (n := 1) (Nat.le_of_ble_eq_true rfl)
  rw [lg_entry_eq]
  generalize (lg_sl ([.ref (ga G (26 + rt))]) ++ List.replicate (1 - (lg_sl ([.ref (ga G (26 + rt))])).length) Slot.unset).toArray = ls at hl ⊢
  have hl : lv_has ls 1 [(0, .ref (ga G (26 + rt)))] := hl
  generalize ([.ref (ga G (26 + rt))] : List Value).toArray = args
  unfold f_X4_onRing at hf
  obtain ⟨hm_1, hf⟩ := i_n hf
  refine lv_aload_n hx hb dX4_onRing_0 rfl (lv_at hl 0 rfl) ?_
  refine gf_43 hm_1 hx hb hE hM hown w_1_187 dX4_onRing_1 ?_
  refine lv_iconst (v := (-1)) hx hb dX4_onRing_4 (by decide) ?_
  refine lv_icmp_ne (tgt := 12) hx hb dX4_onRing_5 (by decide) (fun hc_2 => ?_) (fun hc_2 => ?_)
  · replace hf := i_f hf hc_2
    refine lv_iconst (v := 0) hx hb dX4_onRing_12 (by decide) ?_
    exact rt_zX hx hb hr rfl hf hM hS dX4_onRing_13 hlocks
  · replace hf := i_t hf hc_2
    refine lv_iconst (v := 1) hx hb dX4_onRing_8 (by decide) ?_
    refine lv_goto (tgt := 13) hx hb dX4_onRing_9 (by decide) ?_
    exact rt_zX hx hb hr rfl hf hM hS dX4_onRing_13 hlocks
theorem k_X4_onRing {p : Program} {l : Launch} {e : Env} {R : Room} {s : State} {m : MethodId} {args : Array Value} {below : List Frame} {meth : Method} {c : Code} {H : Heap} {locs : List Loc} {cells slots : Nat} {Q : State → Prop} {cc : ByteArray} {pc nL : Nat} {ls : Array Slot} {rest : List Value} {G : GG} {fu nw : Nat} {x x' mo : Me} {own : String} {index : Nat} {rt : Nat} {r : Int32} (hi : rt < 10) (hx : p.tables.exec = Jvm.exec) (hb : c.code = cc) (hml : c.maxLocals = nL) (hown : s.vm.findClass own = some m.cls) (hE : EnvP G s) (hM : MemP G nw x mo H) (hS : va_S (gA G) s.heap H locs) (hw : Cond.methodLink own index yX4_onRing ∈ lw_tbl) (hf : f_X4_onRing fu nw x rt = some (x', r)) (h1 : 0 + 1 ≤ R.frames) (h2 : 8 + (1 + 11) + 0 ≤ R.locals) (hsz : ls.size = nL) (hW : (rest.map fun v => v.category).sum ≤ 8) (hcs : cells ≤ R.cells ∧ slots ≤ R.slots) (hdg : decode cc pc = .ok (.invokevirtual index, 3)) (kk : ∀ (H1 : Heap) (locs1 : List Loc), MemP G nw x' mo H1 → va_S (gA G) s.heap H1 locs1 → W p l e R s m args below meth c H1 locs1 cells slots Q (F0 m (pc + 3) ls (.int r :: rest))) : W p l e R s m args below meth c H locs cells slots Q (F0 m pc ls (.ref (ga G (26 + rt)) :: rest)) := mm_ki hS (mm_runV (n := 0) (o := 26 + rt) (C := RX4) (T := TX4) (N := 8) (ci := 4) (As := []) hx hb hml hown hE hM hS (c_X4_onRing l fu nw G x x' mo rt _ hf) (List.forall_mem_cons.mpr ⟨⟨hw, rfl⟩, List.forall_mem_cons.mpr ⟨⟨w_3_231, rfl⟩, List.forall_mem_cons.mpr ⟨⟨w_3_232, rfl⟩, List.forall_mem_cons.mpr ⟨⟨w_1_9, rfl⟩, List.forall_mem_cons.mpr ⟨⟨w_3_233, rfl⟩, fun _ h => absurd h List.not_mem_nil⟩⟩⟩⟩⟩) rfl rfl ⟨rfl, by decide, by decide, by decide +kernel⟩ ⟨h1, h2⟩ (e_rn hi) rfl rfl hsz rfl hW hdg hcs) kk
def f_X4_isCloseAheadOf (fu nw : Nat) (x : Me) (rt : Nat) (r1 : Nat) : Option (Me × Int32) := if rt < 10 then if r1 < 10 then if (x 39 rt) = ((x 39 r1) + 1) then some (x, 1) else if (x 39 rt) = ((x 39 r1) + 2) then some (x, 1) else some (x, 0) else none else none
def rm_X4_isCloseAheadOf : Room := { frames := 0, cells := 0, slots := 0, locals := 0 }
set_option maxHeartbeats 4000000 in
set_option maxRecDepth 100000 in
theorem c_X4_isCloseAheadOf (l : Launch) (fu nw : Nat) (G : GG) (x x' mo : Me) (rt : Nat) (r1 : Nat) (r : Int32) (hf : f_X4_isCloseAheadOf fu nw x rt r1 = some (x', r)) : Met l yX4_isCloseAheadOf [.code yX4_isCloseAheadOf cX4_isCloseAheadOf 2 (some .boolean)] rm_X4_isCloseAheadOf (va_Pc [.ref (ga G (26 + rt)), .ref (ga G (26 + r1))] (Pre G nw x mo)) (PI G nw x' mo r) 0 0 (gA G) := by
  refine mt_ofW (cc := cX4_isCloseAheadOf) (maxL := 2) (ret := (some .boolean)) (by decide +kernel) rfl ?_
  intro p e s m args below meth c s₁ B hml hv
  obtain ⟨rfl, hE, hM⟩ := hv
  have hx := B.exec
  have hb := B.bytes
  have hr := B.returns
  have hown : s.vm.findClass RX4 = some m.cls := findClass_of_methodNamed B.named
  have hlocks := B.notSynchronized
  have hS : va_S (gA G) s.heap s.heap [] := va_S.rf
  have hl := lv_entry ([.ref (ga G (26 + rt)), .ref (ga G (26 + r1))]) (n := 2) (Nat.le_of_ble_eq_true rfl)
  rw [lg_entry_eq]
  generalize (lg_sl ([.ref (ga G (26 + rt)), .ref (ga G (26 + r1))]) ++ List.replicate (2 - (lg_sl ([.ref (ga G (26 + rt)), .ref (ga G (26 + r1))])).length) Slot.unset).toArray = ls at hl ⊢
  have hl : lv_has ls 2 [(0, .ref (ga G (26 + rt))), (1, .ref (ga G (26 + r1)))] := hl
  generalize ([.ref (ga G (26 + rt)), .ref (ga G (26 + r1))] : List Value).toArray = args
  unfold f_X4_isCloseAheadOf at hf
  obtain ⟨hm_1, hf⟩ := i_n hf
  obtain ⟨hm_2, hf⟩ := i_n hf
  refine lv_aload_n hx hb dX4_isCloseAheadOf_0 rfl (lv_at hl 0 rfl) ?_
  refine gf_39 hm_1 hx hb hE hM hown w_1_175 dX4_isCloseAheadOf_1 ?_
  refine lv_aload_n hx hb dX4_isCloseAheadOf_4 rfl (lv_at hl 1 rfl) ?_
  refine gf_39 hm_2 hx hb hE hM hown w_1_175 dX4_isCloseAheadOf_5 ?_
  refine lv_iconst (v := 1) hx hb dX4_isCloseAheadOf_8 (by decide) ?_
  refine lv_iadd hx hb dX4_isCloseAheadOf_9 ?_
  refine lv_icmp_eq (tgt := 26) hx hb dX4_isCloseAheadOf_10 (by decide) (fun hc_4 => ?_) (fun hc_4 => ?_)
  · replace hf := i_t hf hc_4
    refine lv_iconst (v := 1) hx hb dX4_isCloseAheadOf_26 (by decide) ?_
    refine lv_goto (tgt := 31) hx hb dX4_isCloseAheadOf_27 (by decide) ?_
    exact rt_zX hx hb hr rfl hf hM hS dX4_isCloseAheadOf_31 hlocks
  · replace hf := i_f hf hc_4
    refine lv_aload_n hx hb dX4_isCloseAheadOf_13 rfl (lv_at hl 0 rfl) ?_
    refine gf_39 hm_1 hx hb hE hM hown w_1_175 dX4_isCloseAheadOf_14 ?_
    refine lv_aload_n hx hb dX4_isCloseAheadOf_17 rfl (lv_at hl 1 rfl) ?_
    refine gf_39 hm_2 hx hb hE hM hown w_1_175 dX4_isCloseAheadOf_18 ?_
    refine lv_iconst (v := 2) hx hb dX4_isCloseAheadOf_21 (by decide) ?_
    refine lv_iadd hx hb dX4_isCloseAheadOf_22 ?_
    refine lv_icmp_ne (tgt := 30) hx hb dX4_isCloseAheadOf_23 (by decide) (fun hc_3 => ?_) (fun hc_3 => ?_)
    · replace hf := i_f hf hc_3
      refine lv_iconst (v := 0) hx hb dX4_isCloseAheadOf_30 (by decide) ?_
      exact rt_zX hx hb hr rfl hf hM hS dX4_isCloseAheadOf_31 hlocks
    · replace hf := i_t hf hc_3
      refine lv_iconst (v := 1) hx hb dX4_isCloseAheadOf_26 (by decide) ?_
      refine lv_goto (tgt := 31) hx hb dX4_isCloseAheadOf_27 (by decide) ?_
      exact rt_zX hx hb hr rfl hf hM hS dX4_isCloseAheadOf_31 hlocks
theorem k_X4_isCloseAheadOf {p : Program} {l : Launch} {e : Env} {R : Room} {s : State} {m : MethodId} {args : Array Value} {below : List Frame} {meth : Method} {c : Code} {H : Heap} {locs : List Loc} {cells slots : Nat} {Q : State → Prop} {cc : ByteArray} {pc nL : Nat} {ls : Array Slot} {rest : List Value} {G : GG} {fu nw : Nat} {x x' mo : Me} {own : String} {index : Nat} {rt : Nat} {r1 : Nat} {r : Int32} (hi : rt < 10) (hx : p.tables.exec = Jvm.exec) (hb : c.code = cc) (hml : c.maxLocals = nL) (hown : s.vm.findClass own = some m.cls) (hE : EnvP G s) (hM : MemP G nw x mo H) (hS : va_S (gA G) s.heap H locs) (hw : Cond.methodLink own index yX4_isCloseAheadOf ∈ lw_tbl) (hf : f_X4_isCloseAheadOf fu nw x rt r1 = some (x', r)) (h1 : 0 + 1 ≤ R.frames) (h2 : 8 + (2 + 11) + 0 ≤ R.locals) (hsz : ls.size = nL) (hW : (rest.map fun v => v.category).sum ≤ 8) (hcs : cells ≤ R.cells ∧ slots ≤ R.slots) (hdg : decode cc pc = .ok (.invokevirtual index, 3)) (kk : ∀ (H1 : Heap) (locs1 : List Loc), MemP G nw x' mo H1 → va_S (gA G) s.heap H1 locs1 → W p l e R s m args below meth c H1 locs1 cells slots Q (F0 m (pc + 3) ls (.int r :: rest))) : W p l e R s m args below meth c H locs cells slots Q (F0 m pc ls (.ref (ga G (26 + r1)) :: .ref (ga G (26 + rt)) :: rest)) := mm_ki hS (mm_runV (n := 1) (o := 26 + rt) (C := RX4) (T := TX4) (N := 8) (ci := 4) (As := [.ref (ga G (26 + r1))]) hx hb hml hown hE hM hS (c_X4_isCloseAheadOf l fu nw G x x' mo rt r1 _ hf) (List.forall_mem_cons.mpr ⟨⟨hw, rfl⟩, List.forall_mem_cons.mpr ⟨⟨w_4_15, rfl⟩, List.forall_mem_cons.mpr ⟨⟨w_4_16, rfl⟩, List.forall_mem_cons.mpr ⟨⟨w_1_9, rfl⟩, List.forall_mem_cons.mpr ⟨⟨w_4_17, rfl⟩, fun _ h => absurd h List.not_mem_nil⟩⟩⟩⟩⟩) rfl rfl ⟨rfl, by decide, by decide, by decide +kernel⟩ ⟨h1, h2⟩ (e_rn hi) rfl rfl hsz rfl hW hdg hcs) kk
def f_X4_goesAheadOf (fu nw : Nat) (x : Me) (rt : Nat) (r1 : Nat) : Option (Me × Int32) := if rt < 10 then if r1 < 10 then if (x 39 r1) < (x 39 rt) then some (x, 1) else if (x 39 rt) = (x 39 r1) then if (x 40 r1) ≤ (x 40 rt) then some (x, 0) else some (x, 1) else some (x, 0) else none else none
def rm_X4_goesAheadOf : Room := { frames := 0, cells := 0, slots := 0, locals := 0 }
set_option maxHeartbeats 4000000 in
set_option maxRecDepth 100000 in
theorem c_X4_goesAheadOf (l : Launch) (fu nw : Nat) (G : GG) (x x' mo : Me) (rt : Nat) (r1 : Nat) (r : Int32) (hf : f_X4_goesAheadOf fu nw x rt r1 = some (x', r)) : Met l yX4_goesAheadOf [.code yX4_goesAheadOf cX4_goesAheadOf 2 (some .boolean)] rm_X4_goesAheadOf (va_Pc [.ref (ga G (26 + rt)), .ref (ga G (26 + r1))] (Pre G nw x mo)) (PI G nw x' mo r) 0 0 (gA G) := by
  refine mt_ofW (cc := cX4_goesAheadOf) (maxL := 2) (ret := (some .boolean)) (by decide +kernel) rfl ?_
  intro p e s m args below meth c s₁ B hml hv
  obtain ⟨rfl, hE, hM⟩ := hv
  have hx := B.exec
  have hb := B.bytes
  have hr := B.returns
  have hown : s.vm.findClass RX4 = some m.cls := findClass_of_methodNamed B.named
  have hlocks := B.notSynchronized
  have hS : va_S (gA G) s.heap s.heap [] := va_S.rf
  have hl := lv_entry ([.ref (ga G (26 + rt)), .ref (ga G (26 + r1))]) (n := 2) (Nat.le_of_ble_eq_true rfl)
  rw [lg_entry_eq]
  generalize (lg_sl ([.ref (ga G (26 + rt)), .ref (ga G (26 + r1))]) ++ List.replicate (2 - (lg_sl ([.ref (ga G (26 + rt)), .ref (ga G (26 + r1))])).length) Slot.unset).toArray = ls at hl ⊢
  have hl : lv_has ls 2 [(0, .ref (ga G (26 + rt))), (1, .ref (ga G (26 + r1)))] := hl
  generalize ([.ref (ga G (26 + rt)), .ref (ga G (26 + r1))] : List Value).toArray = args
  unfold f_X4_goesAheadOf at hf
  obtain ⟨hm_1, hf⟩ := i_n hf
  obtain ⟨hm_2, hf⟩ := i_n hf
  refine lv_aload_n hx hb dX4_goesAheadOf_0 rfl (lv_at hl 0 rfl) ?_
  refine gf_39 hm_1 hx hb hE hM hown w_1_175 dX4_goesAheadOf_1 ?_
  refine lv_aload_n hx hb dX4_goesAheadOf_4 rfl (lv_at hl 1 rfl) ?_
  refine gf_39 hm_2 hx hb hE hM hown w_1_175 dX4_goesAheadOf_5 ?_
  refine lv_icmp_gt (tgt := 33) hx hb dX4_goesAheadOf_8 (by decide) (fun hc_5 => ?_) (fun hc_5 => ?_)
  · replace hf := i_t hf hc_5
    refine lv_iconst (v := 1) hx hb dX4_goesAheadOf_33 (by decide) ?_
    refine lv_goto (tgt := 38) hx hb dX4_goesAheadOf_34 (by decide) ?_
    exact rt_zX hx hb hr rfl hf hM hS dX4_goesAheadOf_38 hlocks
  · replace hf := i_f hf hc_5
    refine lv_aload_n hx hb dX4_goesAheadOf_11 rfl (lv_at hl 0 rfl) ?_
    refine gf_39 hm_1 hx hb hE hM hown w_1_175 dX4_goesAheadOf_12 ?_
    refine lv_aload_n hx hb dX4_goesAheadOf_15 rfl (lv_at hl 1 rfl) ?_
    refine gf_39 hm_2 hx hb hE hM hown w_1_175 dX4_goesAheadOf_16 ?_
    refine lv_icmp_ne (tgt := 37) hx hb dX4_goesAheadOf_19 (by decide) (fun hc_4 => ?_) (fun hc_4 => ?_)
    · replace hf := i_f hf hc_4
      refine lv_iconst (v := 0) hx hb dX4_goesAheadOf_37 (by decide) ?_
      exact rt_zX hx hb hr rfl hf hM hS dX4_goesAheadOf_38 hlocks
    · replace hf := i_t hf hc_4
      refine lv_aload_n hx hb dX4_goesAheadOf_22 rfl (lv_at hl 0 rfl) ?_
      refine gf_40 hm_1 hx hb hE hM hown w_1_178 dX4_goesAheadOf_23 ?_
      refine lv_aload_n hx hb dX4_goesAheadOf_26 rfl (lv_at hl 1 rfl) ?_
      refine gf_40 hm_2 hx hb hE hM hown w_1_178 dX4_goesAheadOf_27 ?_
      refine lv_icmp_ge (tgt := 37) hx hb dX4_goesAheadOf_30 (by decide) (fun hc_3 => ?_) (fun hc_3 => ?_)
      · replace hf := i_t hf hc_3
        refine lv_iconst (v := 0) hx hb dX4_goesAheadOf_37 (by decide) ?_
        exact rt_zX hx hb hr rfl hf hM hS dX4_goesAheadOf_38 hlocks
      · replace hf := i_f hf hc_3
        refine lv_iconst (v := 1) hx hb dX4_goesAheadOf_33 (by decide) ?_
        refine lv_goto (tgt := 38) hx hb dX4_goesAheadOf_34 (by decide) ?_
        exact rt_zX hx hb hr rfl hf hM hS dX4_goesAheadOf_38 hlocks
theorem k_X4_goesAheadOf {p : Program} {l : Launch} {e : Env} {R : Room} {s : State} {m : MethodId} {args : Array Value} {below : List Frame} {meth : Method} {c : Code} {H : Heap} {locs : List Loc} {cells slots : Nat} {Q : State → Prop} {cc : ByteArray} {pc nL : Nat} {ls : Array Slot} {rest : List Value} {G : GG} {fu nw : Nat} {x x' mo : Me} {own : String} {index : Nat} {rt : Nat} {r1 : Nat} {r : Int32} (hi : rt < 10) (hx : p.tables.exec = Jvm.exec) (hb : c.code = cc) (hml : c.maxLocals = nL) (hown : s.vm.findClass own = some m.cls) (hE : EnvP G s) (hM : MemP G nw x mo H) (hS : va_S (gA G) s.heap H locs) (hw : Cond.methodLink own index yX4_goesAheadOf ∈ lw_tbl) (hf : f_X4_goesAheadOf fu nw x rt r1 = some (x', r)) (h1 : 0 + 1 ≤ R.frames) (h2 : 8 + (2 + 11) + 0 ≤ R.locals) (hsz : ls.size = nL) (hW : (rest.map fun v => v.category).sum ≤ 8) (hcs : cells ≤ R.cells ∧ slots ≤ R.slots) (hdg : decode cc pc = .ok (.invokevirtual index, 3)) (kk : ∀ (H1 : Heap) (locs1 : List Loc), MemP G nw x' mo H1 → va_S (gA G) s.heap H1 locs1 → W p l e R s m args below meth c H1 locs1 cells slots Q (F0 m (pc + 3) ls (.int r :: rest))) : W p l e R s m args below meth c H locs cells slots Q (F0 m pc ls (.ref (ga G (26 + r1)) :: .ref (ga G (26 + rt)) :: rest)) := mm_ki hS (mm_runV (n := 1) (o := 26 + rt) (C := RX4) (T := TX4) (N := 8) (ci := 4) (As := [.ref (ga G (26 + r1))]) hx hb hml hown hE hM hS (c_X4_goesAheadOf l fu nw G x x' mo rt r1 _ hf) (List.forall_mem_cons.mpr ⟨⟨hw, rfl⟩, List.forall_mem_cons.mpr ⟨⟨w_3_239, rfl⟩, List.forall_mem_cons.mpr ⟨⟨w_4_0, rfl⟩, List.forall_mem_cons.mpr ⟨⟨w_1_9, rfl⟩, List.forall_mem_cons.mpr ⟨⟨w_4_1, rfl⟩, fun _ h => absurd h List.not_mem_nil⟩⟩⟩⟩⟩) rfl rfl ⟨rfl, by decide, by decide, by decide +kernel⟩ ⟨h1, h2⟩ (e_rn hi) rfl rfl hsz rfl hW hdg hcs) kk
def f_X2_layRing_7 (fu nw : Nat) (k : Me → Option (Me × Unit)) : Nat → Me → Int32 → Option (Me × Unit)
  | 0 => fun _ _ => none
  | n + 1 => fun x a2 => if 60 ≤ a2 then k x else if inb a2 60 = true then f_X2_layRing_7 fu nw k n (mu x 26 a2.toNatClampNeg (vp_nar .boolean 0)) (a2 + 1) else none
def f_X2_layRing (fu nw : Nat) (x : Me) (a1 : Int32) : Option (Me × Unit) := f_X2_layRing_7 fu nw (fun (x_3 : Me) => some (x_3, ())) fu (mu x 25 0 a1) 0
def rm_X2_layRing : Room := { frames := 0, cells := 0, slots := 0, locals := 0 }
set_option maxHeartbeats 4000000 in
set_option maxRecDepth 100000 in
theorem wk_X2_layRing_7 {p : Program} {l : Launch} {e : Env} {s : State} {m : MethodId} {args : Array Value} {below : List Frame} {meth : Method} {c : Code} {fu nw : Nat} {G : GG} {mo : Me} (hx : p.tables.exec = Jvm.exec) (hb : c.code = cX2_layRing) (hml : c.maxLocals = 3) (hown : s.vm.findClass RX2 = some m.cls) (hE : EnvP G s) (hr : meth.sig.returnType = none) (hlocks : meth.locks = false) {x' : Me} {r : Unit} {k : Me → Option (Me × Unit)} (hk : ∀ (x : Me) (H : Heap) (locs : List Loc) (ls : Array Slot), k x = some (x', r) → MemP G nw x mo H → va_S (gA G) s.heap H locs → lv_has ls 3 [] → W p l e rm_X2_layRing s m args below meth c H locs 0 0 (MQ below (PV G nw x' mo) args s 0 0 (gA G)) (F0 m 26 ls [])) : ∀ (n : Nat) (x : Me) (a2 : Int32) (H : Heap) (locs : List Loc) (ls : Array Slot), f_X2_layRing_7 fu nw k n x a2 = some (x', r) → MemP G nw x mo H → va_S (gA G) s.heap H locs → lv_has ls 3 [(0, .ref (ga G 19)), (2, .int a2)] → W p l e rm_X2_layRing s m args below meth c H locs 0 0 (MQ below (PV G nw x' mo) args s 0 0 (gA G)) (F0 m 7 ls []) := by
  intro n
  induction n with
  | zero =>
    intro x a2 H locs ls hf hM hS hl
    exact nn hf
  | succ n ih =>
    intro x a2 H locs ls hf hM hS hl
    rw [f_X2_layRing_7] at hf
    refine lv_iload_n hx hb dX2_layRing_7 rfl (lv_at hl 1 rfl) ?_
    refine lv_bipush (v := 60) hx hb dX2_layRing_8 (by decide) ?_
    refine lv_icmp_ge (tgt := 26) hx hb dX2_layRing_10 (by decide) (fun hc_2 => ?_) (fun hc_2 => ?_)
    · replace hf := i_t hf hc_2
      exact hk x _ _ _ hf hM hS (lv_sub hl [] rfl)
    · replace hf := i_f hf hc_2
      refine lv_aload_n hx hb dX2_layRing_13 rfl (lv_at hl 0 rfl) ?_
      refine gr_20 hx hb hE hM hown w_1_212 dX2_layRing_14 ?_
      refine lv_iload_n hx hb dX2_layRing_17 rfl (lv_at hl 1 rfl) ?_
      refine lv_iconst (v := 0) hx hb dX2_layRing_18 (by decide) ?_
      obtain ⟨hi_1, hf⟩ := i_n hf
      refine sa_20 hx hb hE hM hS hi_1 dX2_layRing_19 (fun H locs hM hS => ?_)
      refine lv_iinc (v := a2 + 1) (lv' := [(2, .int (a2 + 1)), (0, .ref (ga G 19))]) hx hb dX2_layRing_20 hl (k := 1) rfl rfl (by decide) rfl (fun ls hl => ?_)
      refine lv_goto (tgt := 7) hx hb dX2_layRing_23 (by decide) ?_
      exact ih (mu x 26 a2.toNatClampNeg (vp_nar .boolean 0)) (a2 + 1) _ _ _ hf hM hS (lv_sub hl [1, 0] rfl)
set_option maxHeartbeats 4000000 in
set_option maxRecDepth 100000 in
theorem c_X2_layRing (l : Launch) (fu nw : Nat) (G : GG) (x x' mo : Me) (a1 : Int32) (r : Unit) (hf : f_X2_layRing fu nw x a1 = some (x', r)) : Met l yX2_layRing [.code yX2_layRing cX2_layRing 3 none] rm_X2_layRing (va_Pc [.ref (ga G 19), .int a1] (Pre G nw x mo)) (PV G nw x' mo) 0 0 (gA G) := by
  refine mt_ofW (cc := cX2_layRing) (maxL := 3) (ret := none) (by decide +kernel) rfl ?_
  intro p e s m args below meth c s₁ B hml hv
  obtain ⟨rfl, hE, hM⟩ := hv
  have hx := B.exec
  have hb := B.bytes
  have hr := B.returns
  have hown : s.vm.findClass RX2 = some m.cls := findClass_of_methodNamed B.named
  have hlocks := B.notSynchronized
  have hS : va_S (gA G) s.heap s.heap [] := va_S.rf
  have hl := lv_entry ([.ref (ga G 19), .int a1]) (n := 3) (Nat.le_of_ble_eq_true rfl)
  rw [lg_entry_eq]
  generalize (lg_sl ([.ref (ga G 19), .int a1]) ++ List.replicate (3 - (lg_sl ([.ref (ga G 19), .int a1])).length) Slot.unset).toArray = ls at hl ⊢
  have hl : lv_has ls 3 [(0, .ref (ga G 19)), (1, .int a1)] := hl
  generalize ([.ref (ga G 19), .int a1] : List Value).toArray = args
  unfold f_X2_layRing at hf
  refine lv_aload_n hx hb dX2_layRing_0 rfl (lv_at hl 0 rfl) ?_
  refine lv_iload_n hx hb dX2_layRing_1 rfl (lv_at hl 1 rfl) ?_
  refine pf_25 hx hb hE hM hS hown w_1_210 dX2_layRing_2 (fun H locs hM hS => ?_)
  refine lv_iconst (v := 0) hx hb dX2_layRing_5 (by decide) ?_
  refine lv_istore_n (lv' := [(2, .int 0), (0, .ref (ga G 19)), (1, .int a1)]) hx hb dX2_layRing_6 rfl hl (by decide) rfl (fun ls hl => ?_)
  refine wk_X2_layRing_7 hx hb hml hown hE hr hlocks ?_ fu (mu x 25 0 a1) 0 _ _ _ hf hM hS (lv_sub hl [1, 0] rfl)
  intro x_3 H locs ls hf hM hS hl
  exact rt_vX hx hb hr hf hM hS dX2_layRing_26 hlocks
theorem k_X2_layRing {p : Program} {l : Launch} {e : Env} {R : Room} {s : State} {m : MethodId} {args : Array Value} {below : List Frame} {meth : Method} {c : Code} {H : Heap} {locs : List Loc} {cells slots : Nat} {Q : State → Prop} {cc : ByteArray} {pc nL : Nat} {ls : Array Slot} {rest : List Value} {G : GG} {fu nw : Nat} {x x' mo : Me} {own : String} {index : Nat} {a1 : Int32} {r : Unit} (hx : p.tables.exec = Jvm.exec) (hb : c.code = cc) (hml : c.maxLocals = nL) (hown : s.vm.findClass own = some m.cls) (hE : EnvP G s) (hM : MemP G nw x mo H) (hS : va_S (gA G) s.heap H locs) (hw : Cond.methodLink own index yX2_layRing ∈ lw_tbl) (hf : f_X2_layRing fu nw x a1 = some (x', r)) (h1 : 0 + 1 ≤ R.frames) (h2 : 8 + (3 + 11) + 0 ≤ R.locals) (hsz : ls.size = nL) (hW : (rest.map fun v => v.category).sum ≤ 8) (hcs : cells ≤ R.cells ∧ slots ≤ R.slots) (hdg : decode cc pc = .ok (.invokevirtual index, 3)) (kk : ∀ (H1 : Heap) (locs1 : List Loc), MemP G nw x' mo H1 → va_S (gA G) s.heap H1 locs1 → W p l e R s m args below meth c H1 locs1 cells slots Q (F0 m (pc + 3) ls rest)) : W p l e R s m args below meth c H locs cells slots Q (F0 m pc ls (.int a1 :: .ref (ga G 19) :: rest)) := mm_kv hS (mm_runV (n := 1) (o := 19) (C := RX2) (T := TX2) (N := 14) (ci := 2) (As := [.int a1]) hx hb hml hown hE hM hS (c_X2_layRing l fu nw G x x' mo a1 _ hf) (List.forall_mem_cons.mpr ⟨⟨hw, rfl⟩, List.forall_mem_cons.mpr ⟨⟨w_3_146, rfl⟩, List.forall_mem_cons.mpr ⟨⟨w_3_147, rfl⟩, List.forall_mem_cons.mpr ⟨⟨w_1_7, rfl⟩, List.forall_mem_cons.mpr ⟨⟨w_3_148, rfl⟩, fun _ h => absurd h List.not_mem_nil⟩⟩⟩⟩⟩) rfl rfl ⟨rfl, by decide, by decide, by decide +kernel⟩ ⟨h1, h2⟩ rfl rfl rfl hsz rfl hW hdg hcs) kk
def f_X2_begin (fu nw : Nat) (x : Me) (a1 : Int32) : Option (Me × Unit) := ob (f_X0_begin_25 fu nw x a1) (fun x_1 _ => some ((mu (mu (mu (mu x_1 29 0 0) 34 0 0) 35 0 0) 36 0 (-1)), ()))
def rm_X2_begin : Room := { frames := 1, cells := 0, slots := 0, locals := 21 }
set_option maxHeartbeats 4000000 in
set_option maxRecDepth 100000 in
theorem c_X2_begin (l : Launch) (fu nw : Nat) (G : GG) (x x' mo : Me) (a1 : Int32) (r : Unit) (hf : f_X2_begin fu nw x a1 = some (x', r)) : Met l yX2_begin [.code yX2_begin cX2_begin 2 none] rm_X2_begin (va_Pc [.ref (ga G 19), .int a1] (Pre G nw x mo)) (PV G nw x' mo) 0 0 (gA G) := by
  refine mt_ofW (cc := cX2_begin) (maxL := 2) (ret := none) (by decide +kernel) rfl ?_
  intro p e s m args below meth c s₁ B hml hv
  obtain ⟨rfl, hE, hM⟩ := hv
  have hx := B.exec
  have hb := B.bytes
  have hr := B.returns
  have hown : s.vm.findClass RX2 = some m.cls := findClass_of_methodNamed B.named
  have hlocks := B.notSynchronized
  have hS : va_S (gA G) s.heap s.heap [] := va_S.rf
  have hl := lv_entry ([.ref (ga G 19), .int a1]) (n := 2) (Nat.le_of_ble_eq_true rfl)
  rw [lg_entry_eq]
  generalize (lg_sl ([.ref (ga G 19), .int a1]) ++ List.replicate (2 - (lg_sl ([.ref (ga G 19), .int a1])).length) Slot.unset).toArray = ls at hl ⊢
  have hl : lv_has ls 2 [(0, .ref (ga G 19)), (1, .int a1)] := hl
  generalize ([.ref (ga G 19), .int a1] : List Value).toArray = args
  unfold f_X2_begin at hf
  refine lv_aload_n hx hb dX2_begin_0 rfl (lv_at hl 0 rfl) ?_
  refine gr_25 hx hb hE hM hown w_1_221 dX2_begin_1 ?_
  refine lv_iload_n hx hb dX2_begin_4 rfl (lv_at hl 1 rfl) ?_
  obtain ⟨x_1, r_1, hq_1, hf⟩ := ob_some hf
  refine k_X0_begin_25 hx hb hml hown hE hM hS w_3_196 hq_1 (Nat.le_of_ble_eq_true rfl) (Nat.le_of_ble_eq_true rfl) hl.1 (Nat.le_of_ble_eq_true rfl) ⟨Nat.zero_le _, Nat.zero_le _⟩ dX2_begin_5 (fun H locs hM hS => ?_)
  refine lv_aload_n hx hb dX2_begin_8 rfl (lv_at hl 0 rfl) ?_
  refine lv_iconst (v := 0) hx hb dX2_begin_9 (by decide) ?_
  refine pf_29 hx hb hE hM hS hown w_1_218 dX2_begin_10 (fun H locs hM hS => ?_)
  refine lv_aload_n hx hb dX2_begin_13 rfl (lv_at hl 0 rfl) ?_
  refine lv_iconst (v := 0) hx hb dX2_begin_14 (by decide) ?_
  refine pf_34 hx hb hE hM hS hown w_1_225 dX2_begin_15 (fun H locs hM hS => ?_)
  refine lv_aload_n hx hb dX2_begin_18 rfl (lv_at hl 0 rfl) ?_
  refine lv_iconst (v := 0) hx hb dX2_begin_19 (by decide) ?_
  refine pf_35 hx hb hE hM hS hown w_1_227 dX2_begin_20 (fun H locs hM hS => ?_)
  refine lv_aload_n hx hb dX2_begin_23 rfl (lv_at hl 0 rfl) ?_
  refine lv_iconst (v := (-1)) hx hb dX2_begin_24 (by decide) ?_
  refine pf_36 hx hb hE hM hS hown w_1_228 dX2_begin_25 (fun H locs hM hS => ?_)
  exact rt_vX hx hb hr hf hM hS dX2_begin_28 hlocks
theorem k_X2_begin {p : Program} {l : Launch} {e : Env} {R : Room} {s : State} {m : MethodId} {args : Array Value} {below : List Frame} {meth : Method} {c : Code} {H : Heap} {locs : List Loc} {cells slots : Nat} {Q : State → Prop} {cc : ByteArray} {pc nL : Nat} {ls : Array Slot} {rest : List Value} {G : GG} {fu nw : Nat} {x x' mo : Me} {own : String} {index : Nat} {a1 : Int32} {r : Unit} (hx : p.tables.exec = Jvm.exec) (hb : c.code = cc) (hml : c.maxLocals = nL) (hown : s.vm.findClass own = some m.cls) (hE : EnvP G s) (hM : MemP G nw x mo H) (hS : va_S (gA G) s.heap H locs) (hw : Cond.methodLink own index yX2_begin ∈ lw_tbl) (hf : f_X2_begin fu nw x a1 = some (x', r)) (h1 : 1 + 1 ≤ R.frames) (h2 : 8 + (2 + 11) + 21 ≤ R.locals) (hsz : ls.size = nL) (hW : (rest.map fun v => v.category).sum ≤ 8) (hcs : cells ≤ R.cells ∧ slots ≤ R.slots) (hdg : decode cc pc = .ok (.invokevirtual index, 3)) (kk : ∀ (H1 : Heap) (locs1 : List Loc), MemP G nw x' mo H1 → va_S (gA G) s.heap H1 locs1 → W p l e R s m args below meth c H1 locs1 cells slots Q (F0 m (pc + 3) ls rest)) : W p l e R s m args below meth c H locs cells slots Q (F0 m pc ls (.int a1 :: .ref (ga G 19) :: rest)) := mm_kv hS (mm_runV (n := 1) (o := 19) (C := RX2) (T := TX2) (N := 14) (ci := 2) (As := [.int a1]) hx hb hml hown hE hM hS (c_X2_begin l fu nw G x x' mo a1 _ hf) (List.forall_mem_cons.mpr ⟨⟨hw, rfl⟩, List.forall_mem_cons.mpr ⟨⟨w_3_193, rfl⟩, List.forall_mem_cons.mpr ⟨⟨w_3_194, rfl⟩, List.forall_mem_cons.mpr ⟨⟨w_1_7, rfl⟩, List.forall_mem_cons.mpr ⟨⟨w_3_195, rfl⟩, fun _ h => absurd h List.not_mem_nil⟩⟩⟩⟩⟩) rfl rfl ⟨rfl, by decide, by decide, by decide +kernel⟩ ⟨h1, h2⟩ rfl rfl rfl hsz rfl hW hdg hcs) kk
def f_X2_setLaws (fu nw : Nat) (x : Me) (a1 : Int32) (a2 : Int32) (a3 : Int32) : Option (Me × Unit) := if a3 = 1 then some ((mu (mu (mu x 31 0 a1) 32 0 a2) 33 0 1), ()) else some ((mu (mu (mu x 31 0 a1) 32 0 a2) 33 0 0), ())
def rm_X2_setLaws : Room := { frames := 0, cells := 0, slots := 0, locals := 0 }
set_option maxHeartbeats 4000000 in
set_option maxRecDepth 100000 in
theorem c_X2_setLaws (l : Launch) (fu nw : Nat) (G : GG) (x x' mo : Me) (a1 : Int32) (a2 : Int32) (a3 : Int32) (r : Unit) (hf : f_X2_setLaws fu nw x a1 a2 a3 = some (x', r)) : Met l yX2_setLaws [.code yX2_setLaws cX2_setLaws 4 none] rm_X2_setLaws (va_Pc [.ref (ga G 19), .int a1, .int a2, .int a3] (Pre G nw x mo)) (PV G nw x' mo) 0 0 (gA G) := by
  refine mt_ofW (cc := cX2_setLaws) (maxL := 4) (ret := none) (by decide +kernel) rfl ?_
  intro p e s m args below meth c s₁ B hml hv
  obtain ⟨rfl, hE, hM⟩ := hv
  have hx := B.exec
  have hb := B.bytes
  have hr := B.returns
  have hown : s.vm.findClass RX2 = some m.cls := findClass_of_methodNamed B.named
  have hlocks := B.notSynchronized
  have hS : va_S (gA G) s.heap s.heap [] := va_S.rf
  have hl := lv_entry ([.ref (ga G 19), .int a1, .int a2, .int a3]) (n := 4) (Nat.le_of_ble_eq_true rfl)
  rw [lg_entry_eq]
  generalize (lg_sl ([.ref (ga G 19), .int a1, .int a2, .int a3]) ++ List.replicate (4 - (lg_sl ([.ref (ga G 19), .int a1, .int a2, .int a3])).length) Slot.unset).toArray = ls at hl ⊢
  have hl : lv_has ls 4 [(0, .ref (ga G 19)), (1, .int a1), (2, .int a2), (3, .int a3)] := hl
  generalize ([.ref (ga G 19), .int a1, .int a2, .int a3] : List Value).toArray = args
  unfold f_X2_setLaws at hf
  refine lv_aload_n hx hb dX2_setLaws_0 rfl (lv_at hl 0 rfl) ?_
  refine lv_iload_n hx hb dX2_setLaws_1 rfl (lv_at hl 1 rfl) ?_
  refine pf_31 hx hb hE hM hS hown w_1_222 dX2_setLaws_2 (fun H locs hM hS => ?_)
  refine lv_aload_n hx hb dX2_setLaws_5 rfl (lv_at hl 0 rfl) ?_
  refine lv_iload_n hx hb dX2_setLaws_6 rfl (lv_at hl 2 rfl) ?_
  refine pf_32 hx hb hE hM hS hown w_1_223 dX2_setLaws_7 (fun H locs hM hS => ?_)
  refine lv_aload_n hx hb dX2_setLaws_10 rfl (lv_at hl 0 rfl) ?_
  refine lv_iload_n hx hb dX2_setLaws_11 rfl (lv_at hl 3 rfl) ?_
  refine lv_iconst (v := 1) hx hb dX2_setLaws_12 (by decide) ?_
  refine lv_icmp_ne (tgt := 20) hx hb dX2_setLaws_13 (by decide) (fun hc_1 => ?_) (fun hc_1 => ?_)
  · replace hf := i_f hf hc_1
    refine lv_iconst (v := 0) hx hb dX2_setLaws_20 (by decide) ?_
    refine pf_33 hx hb hE hM hS hown rfl rfl w_1_224 dX2_setLaws_21 (fun H locs hM hS => ?_)
    exact rt_vX hx hb hr hf hM hS dX2_setLaws_24 hlocks
  · replace hf := i_t hf hc_1
    refine lv_iconst (v := 1) hx hb dX2_setLaws_16 (by decide) ?_
    refine lv_goto (tgt := 21) hx hb dX2_setLaws_17 (by decide) ?_
    refine pf_33 hx hb hE hM hS hown rfl rfl w_1_224 dX2_setLaws_21 (fun H locs hM hS => ?_)
    exact rt_vX hx hb hr hf hM hS dX2_setLaws_24 hlocks
theorem k_X2_setLaws {p : Program} {l : Launch} {e : Env} {R : Room} {s : State} {m : MethodId} {args : Array Value} {below : List Frame} {meth : Method} {c : Code} {H : Heap} {locs : List Loc} {cells slots : Nat} {Q : State → Prop} {cc : ByteArray} {pc nL : Nat} {ls : Array Slot} {rest : List Value} {G : GG} {fu nw : Nat} {x x' mo : Me} {own : String} {index : Nat} {a1 : Int32} {a2 : Int32} {a3 : Int32} {r : Unit} (hx : p.tables.exec = Jvm.exec) (hb : c.code = cc) (hml : c.maxLocals = nL) (hown : s.vm.findClass own = some m.cls) (hE : EnvP G s) (hM : MemP G nw x mo H) (hS : va_S (gA G) s.heap H locs) (hw : Cond.methodLink own index yX2_setLaws ∈ lw_tbl) (hf : f_X2_setLaws fu nw x a1 a2 a3 = some (x', r)) (h1 : 0 + 1 ≤ R.frames) (h2 : 8 + (4 + 11) + 0 ≤ R.locals) (hsz : ls.size = nL) (hW : (rest.map fun v => v.category).sum ≤ 8) (hcs : cells ≤ R.cells ∧ slots ≤ R.slots) (hdg : decode cc pc = .ok (.invokevirtual index, 3)) (kk : ∀ (H1 : Heap) (locs1 : List Loc), MemP G nw x' mo H1 → va_S (gA G) s.heap H1 locs1 → W p l e R s m args below meth c H1 locs1 cells slots Q (F0 m (pc + 3) ls rest)) : W p l e R s m args below meth c H locs cells slots Q (F0 m pc ls (.int a3 :: .int a2 :: .int a1 :: .ref (ga G 19) :: rest)) := mm_kv hS (mm_runV (n := 3) (o := 19) (C := RX2) (T := TX2) (N := 14) (ci := 2) (As := [.int a1, .int a2, .int a3]) hx hb hml hown hE hM hS (c_X2_setLaws l fu nw G x x' mo a1 a2 a3 _ hf) (List.forall_mem_cons.mpr ⟨⟨hw, rfl⟩, List.forall_mem_cons.mpr ⟨⟨w_3_198, rfl⟩, List.forall_mem_cons.mpr ⟨⟨w_3_199, rfl⟩, List.forall_mem_cons.mpr ⟨⟨w_1_7, rfl⟩, List.forall_mem_cons.mpr ⟨⟨w_3_200, rfl⟩, fun _ h => absurd h List.not_mem_nil⟩⟩⟩⟩⟩) rfl rfl ⟨rfl, by decide, by decide, by decide +kernel⟩ ⟨h1, h2⟩ rfl rfl rfl hsz rfl hW hdg hcs) kk
def f_X2_enter (fu nw : Nat) (x : Me) (a1 : Int32) (a2 : Int32) : Option (Me × Unit) := if 10 ≤ (x 29 0) then some (x, ()) else if inb (x 29 0) 10 = true then ob (f_X4_begin fu nw x ((x 29 0).toNatClampNeg) a1 a2 (x 29 0)) (fun x_2 _ => some ((mu x_2 29 0 ((x_2 29 0) + 1)), ())) else none
def rm_X2_enter : Room := { frames := 1, cells := 0, slots := 0, locals := 23 }
set_option maxHeartbeats 4000000 in
set_option maxRecDepth 100000 in
theorem c_X2_enter (l : Launch) (fu nw : Nat) (G : GG) (x x' mo : Me) (a1 : Int32) (a2 : Int32) (r : Unit) (hf : f_X2_enter fu nw x a1 a2 = some (x', r)) : Met l yX2_enter [.code yX2_enter cX2_enter 3 none] rm_X2_enter (va_Pc [.ref (ga G 19), .int a1, .int a2] (Pre G nw x mo)) (PV G nw x' mo) 0 0 (gA G) := by
  refine mt_ofW (cc := cX2_enter) (maxL := 3) (ret := none) (by decide +kernel) rfl ?_
  intro p e s m args below meth c s₁ B hml hv
  obtain ⟨rfl, hE, hM⟩ := hv
  have hx := B.exec
  have hb := B.bytes
  have hr := B.returns
  have hown : s.vm.findClass RX2 = some m.cls := findClass_of_methodNamed B.named
  have hlocks := B.notSynchronized
  have hS : va_S (gA G) s.heap s.heap [] := va_S.rf
  have hl := lv_entry ([.ref (ga G 19), .int a1, .int a2]) (n := 3) (Nat.le_of_ble_eq_true rfl)
  rw [lg_entry_eq]
  generalize (lg_sl ([.ref (ga G 19), .int a1, .int a2]) ++ List.replicate (3 - (lg_sl ([.ref (ga G 19), .int a1, .int a2])).length) Slot.unset).toArray = ls at hl ⊢
  have hl : lv_has ls 3 [(0, .ref (ga G 19)), (1, .int a1), (2, .int a2)] := hl
  generalize ([.ref (ga G 19), .int a1, .int a2] : List Value).toArray = args
  unfold f_X2_enter at hf
  refine lv_aload_n hx hb dX2_enter_0 rfl (lv_at hl 0 rfl) ?_
  refine gf_29 hx hb hE hM hown w_1_218 dX2_enter_1 ?_
  refine lv_bipush (v := 10) hx hb dX2_enter_4 (by decide) ?_
  refine lv_icmp_ge (tgt := 37) hx hb dX2_enter_6 (by decide) (fun hc_3 => ?_) (fun hc_3 => ?_)
  · replace hf := i_t hf hc_3
    exact rt_vX hx hb hr hf hM hS dX2_enter_37 hlocks
  · replace hf := i_f hf hc_3
    refine lv_aload_n hx hb dX2_enter_9 rfl (lv_at hl 0 rfl) ?_
    refine gr_23 hx hb hE hM hown w_1_219 dX2_enter_10 ?_
    refine lv_aload_n hx hb dX2_enter_13 rfl (lv_at hl 0 rfl) ?_
    refine gf_29 hx hb hE hM hown w_1_218 dX2_enter_14 ?_
    obtain ⟨hi_1, hf⟩ := i_n hf
    refine mm_rald hx hb hE hM hi_1 dX2_enter_17 ?_
    refine lv_iload_n hx hb dX2_enter_18 rfl (lv_at hl 1 rfl) ?_
    refine lv_iload_n hx hb dX2_enter_19 rfl (lv_at hl 2 rfl) ?_
    refine lv_aload_n hx hb dX2_enter_20 rfl (lv_at hl 0 rfl) ?_
    refine gf_29 hx hb hE hM hown w_1_218 dX2_enter_21 ?_
    obtain ⟨x_2, r_2, hq_2, hf⟩ := ob_some hf
    refine k_X4_begin (inb_lt hi_1) hx hb hml hown hE hM hS w_3_210 hq_2 (Nat.le_of_ble_eq_true rfl) (Nat.le_of_ble_eq_true rfl) hl.1 (Nat.le_of_ble_eq_true rfl) ⟨Nat.zero_le _, Nat.zero_le _⟩ dX2_enter_24 (fun H locs hM hS => ?_)
    refine lv_aload_n hx hb dX2_enter_27 rfl (lv_at hl 0 rfl) ?_
    refine lv_dup hx hb dX2_enter_28 rfl ?_
    refine gf_29 hx hb hE hM hown w_1_218 dX2_enter_29 ?_
    refine lv_iconst (v := 1) hx hb dX2_enter_32 (by decide) ?_
    refine lv_iadd hx hb dX2_enter_33 ?_
    refine pf_29 hx hb hE hM hS hown w_1_218 dX2_enter_34 (fun H locs hM hS => ?_)
    exact rt_vX hx hb hr hf hM hS dX2_enter_37 hlocks
theorem k_X2_enter {p : Program} {l : Launch} {e : Env} {R : Room} {s : State} {m : MethodId} {args : Array Value} {below : List Frame} {meth : Method} {c : Code} {H : Heap} {locs : List Loc} {cells slots : Nat} {Q : State → Prop} {cc : ByteArray} {pc nL : Nat} {ls : Array Slot} {rest : List Value} {G : GG} {fu nw : Nat} {x x' mo : Me} {own : String} {index : Nat} {a1 : Int32} {a2 : Int32} {r : Unit} (hx : p.tables.exec = Jvm.exec) (hb : c.code = cc) (hml : c.maxLocals = nL) (hown : s.vm.findClass own = some m.cls) (hE : EnvP G s) (hM : MemP G nw x mo H) (hS : va_S (gA G) s.heap H locs) (hw : Cond.methodLink own index yX2_enter ∈ lw_tbl) (hf : f_X2_enter fu nw x a1 a2 = some (x', r)) (h1 : 1 + 1 ≤ R.frames) (h2 : 8 + (3 + 11) + 23 ≤ R.locals) (hsz : ls.size = nL) (hW : (rest.map fun v => v.category).sum ≤ 8) (hcs : cells ≤ R.cells ∧ slots ≤ R.slots) (hdg : decode cc pc = .ok (.invokevirtual index, 3)) (kk : ∀ (H1 : Heap) (locs1 : List Loc), MemP G nw x' mo H1 → va_S (gA G) s.heap H1 locs1 → W p l e R s m args below meth c H1 locs1 cells slots Q (F0 m (pc + 3) ls rest)) : W p l e R s m args below meth c H locs cells slots Q (F0 m pc ls (.int a2 :: .int a1 :: .ref (ga G 19) :: rest)) := mm_kv hS (mm_runV (n := 2) (o := 19) (C := RX2) (T := TX2) (N := 14) (ci := 2) (As := [.int a1, .int a2]) hx hb hml hown hE hM hS (c_X2_enter l fu nw G x x' mo a1 a2 _ hf) (List.forall_mem_cons.mpr ⟨⟨hw, rfl⟩, List.forall_mem_cons.mpr ⟨⟨w_3_207, rfl⟩, List.forall_mem_cons.mpr ⟨⟨w_3_208, rfl⟩, List.forall_mem_cons.mpr ⟨⟨w_1_7, rfl⟩, List.forall_mem_cons.mpr ⟨⟨w_3_209, rfl⟩, fun _ h => absurd h List.not_mem_nil⟩⟩⟩⟩⟩) rfl rfl ⟨rfl, by decide, by decide, by decide +kernel⟩ ⟨h1, h2⟩ rfl rfl rfl hsz rfl hW hdg hcs) kk
def f_X2_find_2 (fu nw : Nat) (b1 : Int32) (k : Me → Option (Me × Option Nat)) : Nat → Me → Int32 → Option (Me × Option Nat)
  | 0 => fun _ _ => none
  | n + 1 => fun x a2 => if (x 29 0) ≤ a2 then k x else if inb a2 10 = true then if (x 37 a2.toNatClampNeg) = b1 then some (x, some a2.toNatClampNeg) else f_X2_find_2 fu nw b1 k n x (a2 + 1) else none
def f_X2_find (fu nw : Nat) (x : Me) (a1 : Int32) : Option (Me × Option Nat) := f_X2_find_2 fu nw a1 (fun (x_4 : Me) => some (x_4, none)) fu x 0
def rm_X2_find : Room := { frames := 0, cells := 0, slots := 0, locals := 0 }
set_option maxHeartbeats 4000000 in
set_option maxRecDepth 100000 in
theorem wk_X2_find_2 {p : Program} {l : Launch} {e : Env} {s : State} {m : MethodId} {args : Array Value} {below : List Frame} {meth : Method} {c : Code} {fu nw : Nat} {G : GG} {mo : Me} {b1 : Int32} (hx : p.tables.exec = Jvm.exec) (hb : c.code = cX2_find) (hml : c.maxLocals = 3) (hown : s.vm.findClass RX2 = some m.cls) (hE : EnvP G s) (hr : meth.sig.returnType = (some (.object "RopeRace$Runner"))) (hlocks : meth.locks = false) {x' : Me} {r : Option Nat} {k : Me → Option (Me × Option Nat)} (hk : ∀ (x : Me) (H : Heap) (locs : List Loc) (ls : Array Slot), k x = some (x', r) → MemP G nw x mo H → va_S (gA G) s.heap H locs → lv_has ls 3 [] → W p l e rm_X2_find s m args below meth c H locs 0 0 (MQ below (PQ G nw x' mo (r.map (fun j => ga G (26 + j)))) args s 0 0 (gA G)) (F0 m 36 ls [])) : ∀ (n : Nat) (x : Me) (a2 : Int32) (H : Heap) (locs : List Loc) (ls : Array Slot), f_X2_find_2 fu nw b1 k n x a2 = some (x', r) → MemP G nw x mo H → va_S (gA G) s.heap H locs → lv_has ls 3 [(0, .ref (ga G 19)), (1, .int b1), (2, .int a2)] → W p l e rm_X2_find s m args below meth c H locs 0 0 (MQ below (PQ G nw x' mo (r.map (fun j => ga G (26 + j)))) args s 0 0 (gA G)) (F0 m 2 ls []) := by
  intro n
  induction n with
  | zero =>
    intro x a2 H locs ls hf hM hS hl
    exact nn hf
  | succ n ih =>
    intro x a2 H locs ls hf hM hS hl
    rw [f_X2_find_2] at hf
    refine lv_iload_n hx hb dX2_find_2 rfl (lv_at hl 2 rfl) ?_
    refine lv_aload_n hx hb dX2_find_3 rfl (lv_at hl 0 rfl) ?_
    refine gf_29 hx hb hE hM hown w_1_218 dX2_find_4 ?_
    refine lv_icmp_ge (tgt := 36) hx hb dX2_find_7 (by decide) (fun hc_3 => ?_) (fun hc_3 => ?_)
    · replace hf := i_t hf hc_3
      exact hk x _ _ _ hf hM hS (lv_sub hl [] rfl)
    · replace hf := i_f hf hc_3
      refine lv_aload_n hx hb dX2_find_10 rfl (lv_at hl 0 rfl) ?_
      refine gr_23 hx hb hE hM hown w_1_219 dX2_find_11 ?_
      refine lv_iload_n hx hb dX2_find_14 rfl (lv_at hl 2 rfl) ?_
      obtain ⟨hi_1, hf⟩ := i_n hf
      refine mm_rald hx hb hE hM hi_1 dX2_find_15 ?_
      refine gf_37N (inb_lt hi_1) hx hb hE hM hown w_1_172 dX2_find_16 ?_
      refine lv_iload_n hx hb dX2_find_19 rfl (lv_at hl 1 rfl) ?_
      refine lv_icmp_ne (tgt := 30) hx hb dX2_find_20 (by decide) (fun hc_2 => ?_) (fun hc_2 => ?_)
      · replace hf := i_f hf hc_2
        refine lv_iinc (v := a2 + 1) (lv' := [(2, .int (a2 + 1)), (0, .ref (ga G 19)), (1, .int b1)]) hx hb dX2_find_30 hl (k := 2) rfl rfl (by decide) rfl (fun ls hl => ?_)
        refine lv_goto (tgt := 2) hx hb dX2_find_33 (by decide) ?_
        exact ih x (a2 + 1) _ _ _ hf hM hS (lv_sub hl [1, 2, 0] rfl)
      · replace hf := i_t hf hc_2
        refine lv_aload_n hx hb dX2_find_23 rfl (lv_at hl 0 rfl) ?_
        refine gr_23 hx hb hE hM hown w_1_219 dX2_find_24 ?_
        refine lv_iload_n hx hb dX2_find_27 rfl (lv_at hl 2 rfl) ?_
        refine mm_rald hx hb hE hM hi_1 dX2_find_28 ?_
        exact rt_q (o := some a2.toNatClampNeg) (g := fun j => ga G (26 + j)) hx hb hr hf hM hS dX2_find_29 hlocks
set_option maxHeartbeats 4000000 in
set_option maxRecDepth 100000 in
theorem c_X2_find (l : Launch) (fu nw : Nat) (G : GG) (x x' mo : Me) (a1 : Int32) (r : Option Nat) (hf : f_X2_find fu nw x a1 = some (x', r)) : Met l yX2_find [.code yX2_find cX2_find 3 (some (.object "RopeRace$Runner"))] rm_X2_find (va_Pc [.ref (ga G 19), .int a1] (Pre G nw x mo)) (PQ G nw x' mo (r.map (fun j => ga G (26 + j)))) 0 0 (gA G) := by
  refine mt_ofW (cc := cX2_find) (maxL := 3) (ret := (some (.object "RopeRace$Runner"))) (by decide +kernel) rfl ?_
  intro p e s m args below meth c s₁ B hml hv
  obtain ⟨rfl, hE, hM⟩ := hv
  have hx := B.exec
  have hb := B.bytes
  have hr := B.returns
  have hown : s.vm.findClass RX2 = some m.cls := findClass_of_methodNamed B.named
  have hlocks := B.notSynchronized
  have hS : va_S (gA G) s.heap s.heap [] := va_S.rf
  have hl := lv_entry ([.ref (ga G 19), .int a1]) (n := 3) (Nat.le_of_ble_eq_true rfl)
  rw [lg_entry_eq]
  generalize (lg_sl ([.ref (ga G 19), .int a1]) ++ List.replicate (3 - (lg_sl ([.ref (ga G 19), .int a1])).length) Slot.unset).toArray = ls at hl ⊢
  have hl : lv_has ls 3 [(0, .ref (ga G 19)), (1, .int a1)] := hl
  generalize ([.ref (ga G 19), .int a1] : List Value).toArray = args
  unfold f_X2_find at hf
  refine lv_iconst (v := 0) hx hb dX2_find_0 (by decide) ?_
  refine lv_istore_n (lv' := [(2, .int 0), (0, .ref (ga G 19)), (1, .int a1)]) hx hb dX2_find_1 rfl hl (by decide) rfl (fun ls hl => ?_)
  refine wk_X2_find_2 hx hb hml hown hE hr hlocks ?_ fu x 0 _ _ _ hf hM hS (lv_sub hl [1, 2, 0] rfl)
  intro x_4 H locs ls hf hM hS hl
  refine lv_null hx hb dX2_find_36 ?_
  exact rt_q (o := none) (g := fun j => ga G (26 + j)) hx hb hr hf hM hS dX2_find_37 hlocks
theorem k_X2_find {p : Program} {l : Launch} {e : Env} {R : Room} {s : State} {m : MethodId} {args : Array Value} {below : List Frame} {meth : Method} {c : Code} {H : Heap} {locs : List Loc} {cells slots : Nat} {Q : State → Prop} {cc : ByteArray} {pc nL : Nat} {ls : Array Slot} {rest : List Value} {G : GG} {fu nw : Nat} {x x' mo : Me} {own : String} {index : Nat} {a1 : Int32} {r : Option Nat} (hx : p.tables.exec = Jvm.exec) (hb : c.code = cc) (hml : c.maxLocals = nL) (hown : s.vm.findClass own = some m.cls) (hE : EnvP G s) (hM : MemP G nw x mo H) (hS : va_S (gA G) s.heap H locs) (hw : Cond.methodLink own index yX2_find ∈ lw_tbl) (hf : f_X2_find fu nw x a1 = some (x', r)) (h1 : 0 + 1 ≤ R.frames) (h2 : 8 + (3 + 11) + 0 ≤ R.locals) (hsz : ls.size = nL) (hW : (rest.map fun v => v.category).sum ≤ 8) (hcs : cells ≤ R.cells ∧ slots ≤ R.slots) (hdg : decode cc pc = .ok (.invokevirtual index, 3)) (k1 : r = none → ∀ (H1 : Heap) (locs1 : List Loc), MemP G nw x' mo H1 → va_S (gA G) s.heap H1 locs1 → W p l e R s m args below meth c H1 locs1 cells slots Q (F0 m (pc + 3) ls (.null :: rest))) (k2 : ∀ j : Nat, r = some j → ∀ (H1 : Heap) (locs1 : List Loc), MemP G nw x' mo H1 → va_S (gA G) s.heap H1 locs1 → W p l e R s m args below meth c H1 locs1 cells slots Q (F0 m (pc + 3) ls (.ref (ga G (26 + j)) :: rest))) : W p l e R s m args below meth c H locs cells slots Q (F0 m pc ls (.int a1 :: .ref (ga G 19) :: rest)) := by
  cases r with
  | none => exact mm_kq hS (mm_runV (n := 1) (o := 19) (C := RX2) (T := TX2) (N := 14) (ci := 2) (As := [.int a1]) hx hb hml hown hE hM hS (c_X2_find l fu nw G x x' mo a1 _ hf) (List.forall_mem_cons.mpr ⟨⟨hw, rfl⟩, List.forall_mem_cons.mpr ⟨⟨w_4_11, rfl⟩, List.forall_mem_cons.mpr ⟨⟨w_4_12, rfl⟩, List.forall_mem_cons.mpr ⟨⟨w_1_7, rfl⟩, List.forall_mem_cons.mpr ⟨⟨w_4_13, rfl⟩, fun _ h => absurd h List.not_mem_nil⟩⟩⟩⟩⟩) rfl rfl ⟨rfl, by decide, by decide, by decide +kernel⟩ ⟨h1, h2⟩ rfl rfl rfl hsz rfl hW hdg hcs) (k1 rfl)
  | some j => exact mm_kq hS (mm_runV (n := 1) (o := 19) (C := RX2) (T := TX2) (N := 14) (ci := 2) (As := [.int a1]) hx hb hml hown hE hM hS (c_X2_find l fu nw G x x' mo a1 _ hf) (List.forall_mem_cons.mpr ⟨⟨hw, rfl⟩, List.forall_mem_cons.mpr ⟨⟨w_4_11, rfl⟩, List.forall_mem_cons.mpr ⟨⟨w_4_12, rfl⟩, List.forall_mem_cons.mpr ⟨⟨w_1_7, rfl⟩, List.forall_mem_cons.mpr ⟨⟨w_4_13, rfl⟩, fun _ h => absurd h List.not_mem_nil⟩⟩⟩⟩⟩) rfl rfl ⟨rfl, by decide, by decide, by decide +kernel⟩ ⟨h1, h2⟩ rfl rfl rfl hsz rfl hW hdg hcs) (k2 j rfl)
def f_X2_isOver (fu nw : Nat) (x : Me) : Option (Me × Int32) := if (x 29 0) ≤ (x 35 0) then some (x, 1) else if (x 34 0) < 400 then some (x, 0) else some (x, 1)
def rm_X2_isOver : Room := { frames := 0, cells := 0, slots := 0, locals := 0 }
set_option maxHeartbeats 4000000 in
set_option maxRecDepth 100000 in
theorem c_X2_isOver (l : Launch) (fu nw : Nat) (G : GG) (x x' mo : Me) (r : Int32) (hf : f_X2_isOver fu nw x = some (x', r)) : Met l yX2_isOver [.code yX2_isOver cX2_isOver 1 (some .boolean)] rm_X2_isOver (va_Pc [.ref (ga G 19)] (Pre G nw x mo)) (PI G nw x' mo r) 0 0 (gA G) := by
  refine mt_ofW (cc := cX2_isOver) (maxL := 1) (ret := (some .boolean)) (by decide +kernel) rfl ?_
  intro p e s m args below meth c s₁ B hml hv
  obtain ⟨rfl, hE, hM⟩ := hv
  have hx := B.exec
  have hb := B.bytes
  have hr := B.returns
  have hown : s.vm.findClass RX2 = some m.cls := findClass_of_methodNamed B.named
  have hlocks := B.notSynchronized
  have hS : va_S (gA G) s.heap s.heap [] := va_S.rf
  have hl := lv_entry ([.ref (ga G 19)]) (n := 1) (Nat.le_of_ble_eq_true rfl)
  rw [lg_entry_eq]
  generalize (lg_sl ([.ref (ga G 19)]) ++ List.replicate (1 - (lg_sl ([.ref (ga G 19)])).length) Slot.unset).toArray = ls at hl ⊢
  have hl : lv_has ls 1 [(0, .ref (ga G 19))] := hl
  generalize ([.ref (ga G 19)] : List Value).toArray = args
  unfold f_X2_isOver at hf
  refine lv_aload_n hx hb dX2_isOver_0 rfl (lv_at hl 0 rfl) ?_
  refine gf_35 hx hb hE hM hown w_1_227 dX2_isOver_1 ?_
  refine lv_aload_n hx hb dX2_isOver_4 rfl (lv_at hl 0 rfl) ?_
  refine gf_29 hx hb hE hM hown w_1_218 dX2_isOver_5 ?_
  refine lv_icmp_ge (tgt := 21) hx hb dX2_isOver_8 (by decide) (fun hc_2 => ?_) (fun hc_2 => ?_)
  · replace hf := i_t hf hc_2
    refine lv_iconst (v := 1) hx hb dX2_isOver_21 (by decide) ?_
    refine lv_goto (tgt := 26) hx hb dX2_isOver_22 (by decide) ?_
    exact rt_zX hx hb hr rfl hf hM hS dX2_isOver_26 hlocks
  · replace hf := i_f hf hc_2
    refine lv_aload_n hx hb dX2_isOver_11 rfl (lv_at hl 0 rfl) ?_
    refine gf_34 hx hb hE hM hown w_1_225 dX2_isOver_12 ?_
    refine lv_sipush (v := 400) hx hb dX2_isOver_15 (by decide) ?_
    refine lv_icmp_lt (tgt := 25) hx hb dX2_isOver_18 (by decide) (fun hc_1 => ?_) (fun hc_1 => ?_)
    · replace hf := i_t hf hc_1
      refine lv_iconst (v := 0) hx hb dX2_isOver_25 (by decide) ?_
      exact rt_zX hx hb hr rfl hf hM hS dX2_isOver_26 hlocks
    · replace hf := i_f hf hc_1
      refine lv_iconst (v := 1) hx hb dX2_isOver_21 (by decide) ?_
      refine lv_goto (tgt := 26) hx hb dX2_isOver_22 (by decide) ?_
      exact rt_zX hx hb hr rfl hf hM hS dX2_isOver_26 hlocks
theorem k_X2_isOver {p : Program} {l : Launch} {e : Env} {R : Room} {s : State} {m : MethodId} {args : Array Value} {below : List Frame} {meth : Method} {c : Code} {H : Heap} {locs : List Loc} {cells slots : Nat} {Q : State → Prop} {cc : ByteArray} {pc nL : Nat} {ls : Array Slot} {rest : List Value} {G : GG} {fu nw : Nat} {x x' mo : Me} {own : String} {index : Nat} {r : Int32} (hx : p.tables.exec = Jvm.exec) (hb : c.code = cc) (hml : c.maxLocals = nL) (hown : s.vm.findClass own = some m.cls) (hE : EnvP G s) (hM : MemP G nw x mo H) (hS : va_S (gA G) s.heap H locs) (hw : Cond.methodLink own index yX2_isOver ∈ lw_tbl) (hf : f_X2_isOver fu nw x = some (x', r)) (h1 : 0 + 1 ≤ R.frames) (h2 : 8 + (1 + 11) + 0 ≤ R.locals) (hsz : ls.size = nL) (hW : (rest.map fun v => v.category).sum ≤ 8) (hcs : cells ≤ R.cells ∧ slots ≤ R.slots) (hdg : decode cc pc = .ok (.invokevirtual index, 3)) (kk : ∀ (H1 : Heap) (locs1 : List Loc), MemP G nw x' mo H1 → va_S (gA G) s.heap H1 locs1 → W p l e R s m args below meth c H1 locs1 cells slots Q (F0 m (pc + 3) ls (.int r :: rest))) : W p l e R s m args below meth c H locs cells slots Q (F0 m pc ls (.ref (ga G 19) :: rest)) := mm_ki hS (mm_runV (n := 0) (o := 19) (C := RX2) (T := TX2) (N := 14) (ci := 2) (As := []) hx hb hml hown hE hM hS (c_X2_isOver l fu nw G x x' mo _ hf) (List.forall_mem_cons.mpr ⟨⟨hw, rfl⟩, List.forall_mem_cons.mpr ⟨⟨w_3_219, rfl⟩, List.forall_mem_cons.mpr ⟨⟨w_3_220, rfl⟩, List.forall_mem_cons.mpr ⟨⟨w_1_7, rfl⟩, List.forall_mem_cons.mpr ⟨⟨w_3_221, rfl⟩, fun _ h => absurd h List.not_mem_nil⟩⟩⟩⟩⟩) rfl rfl ⟨rfl, by decide, by decide, by decide +kernel⟩ ⟨h1, h2⟩ rfl rfl rfl hsz rfl hW hdg hcs) kk
def f_X2_insertTurn_2 (fu nw : Nat) (b1 : Int32) (k : Me → Int32 → Option (Me × Unit)) : Nat → Me → Int32 → Option (Me × Unit)
  | 0 => fun _ _ => none
  | n + 1 => fun x a3 => if a3 ≤ 0 then k x a3 else if inb b1 10 = true then if inb (a3 - 1) 10 = true then if inb (x 30 ((a3 - 1).toNatClampNeg)) 10 = true then ob (f_X4_goesAheadOf fu nw x b1.toNatClampNeg ((x 30 ((a3 - 1).toNatClampNeg)).toNatClampNeg)) (fun x_4 r_4 => if r_4 = 0 then k x_4 a3 else if inb a3 10 = true then f_X2_insertTurn_2 fu nw b1 k n (mu x_4 30 a3.toNatClampNeg (x_4 30 ((a3 - 1).toNatClampNeg))) (a3 + (-1)) else none) else none else none else none
def f_X2_insertTurn (fu nw : Nat) (x : Me) (a1 : Int32) (a2 : Int32) : Option (Me × Unit) := f_X2_insertTurn_2 fu nw a1 (fun (x_8 : Me) (a3_8 : Int32) => if inb a3_8 10 = true then some ((mu x_8 30 a3_8.toNatClampNeg a1), ()) else none) fu x a2
def rm_X2_insertTurn : Room := { frames := 1, cells := 0, slots := 0, locals := 21 }
set_option maxHeartbeats 4000000 in
set_option maxRecDepth 100000 in
theorem wk_X2_insertTurn_2 {p : Program} {l : Launch} {e : Env} {s : State} {m : MethodId} {args : Array Value} {below : List Frame} {meth : Method} {c : Code} {fu nw : Nat} {G : GG} {mo : Me} {b1 : Int32} (hx : p.tables.exec = Jvm.exec) (hb : c.code = cX2_insertTurn) (hml : c.maxLocals = 4) (hown : s.vm.findClass RX2 = some m.cls) (hE : EnvP G s) (hr : meth.sig.returnType = none) (hlocks : meth.locks = false) {x' : Me} {r : Unit} {k : Me → Int32 → Option (Me × Unit)} (hk : ∀ (x : Me) (a3 : Int32) (H : Heap) (locs : List Loc) (ls : Array Slot), k x a3 = some (x', r) → MemP G nw x mo H → va_S (gA G) s.heap H locs → lv_has ls 4 [(0, .ref (ga G 19)), (1, .int b1), (3, .int a3)] → W p l e rm_X2_insertTurn s m args below meth c H locs 0 0 (MQ below (PV G nw x' mo) args s 0 0 (gA G)) (F0 m 51 ls [])) : ∀ (n : Nat) (x : Me) (a3 : Int32) (H : Heap) (locs : List Loc) (ls : Array Slot), f_X2_insertTurn_2 fu nw b1 k n x a3 = some (x', r) → MemP G nw x mo H → va_S (gA G) s.heap H locs → lv_has ls 4 [(0, .ref (ga G 19)), (1, .int b1), (3, .int a3)] → W p l e rm_X2_insertTurn s m args below meth c H locs 0 0 (MQ below (PV G nw x' mo) args s 0 0 (gA G)) (F0 m 2 ls []) := by
  intro n
  induction n with
  | zero =>
    intro x a3 H locs ls hf hM hS hl
    exact nn hf
  | succ n ih =>
    intro x a3 H locs ls hf hM hS hl
    rw [f_X2_insertTurn_2] at hf
    refine lv_iload_n hx hb dX2_insertTurn_2 rfl (lv_at hl 2 rfl) ?_
    refine lv_if_le (tgt := 51) hx hb dX2_insertTurn_3 (by decide) (fun hc_7 => ?_) (fun hc_7 => ?_)
    · replace hf := i_t hf hc_7
      exact hk x a3 _ _ _ hf hM hS (lv_sub hl [0, 1, 2] rfl)
    · replace hf := i_f hf hc_7
      refine lv_aload_n hx hb dX2_insertTurn_6 rfl (lv_at hl 0 rfl) ?_
      refine gr_23 hx hb hE hM hown w_1_219 dX2_insertTurn_7 ?_
      refine lv_iload_n hx hb dX2_insertTurn_10 rfl (lv_at hl 1 rfl) ?_
      obtain ⟨hi_1, hf⟩ := i_n hf
      refine mm_rald hx hb hE hM hi_1 dX2_insertTurn_11 ?_
      refine lv_aload_n hx hb dX2_insertTurn_12 rfl (lv_at hl 0 rfl) ?_
      refine gr_23 hx hb hE hM hown w_1_219 dX2_insertTurn_13 ?_
      refine lv_aload_n hx hb dX2_insertTurn_16 rfl (lv_at hl 0 rfl) ?_
      refine gr_24 hx hb hE hM hown w_1_220 dX2_insertTurn_17 ?_
      refine lv_iload_n hx hb dX2_insertTurn_20 rfl (lv_at hl 2 rfl) ?_
      refine lv_iconst (v := 1) hx hb dX2_insertTurn_21 (by decide) ?_
      refine lv_isub hx hb dX2_insertTurn_22 ?_
      obtain ⟨hi_2, hf⟩ := i_n hf
      refine la_24 hx hb hE hM hi_2 dX2_insertTurn_23 ?_
      obtain ⟨hi_3, hf⟩ := i_n hf
      refine mm_rald hx hb hE hM hi_3 dX2_insertTurn_24 ?_
      obtain ⟨x_4, r_4, hq_4, hf⟩ := ob_some hf
      refine k_X4_goesAheadOf (inb_lt hi_1) hx hb hml hown hE hM hS w_3_238 hq_4 (Nat.le_of_ble_eq_true rfl) (Nat.le_of_ble_eq_true rfl) hl.1 (Nat.le_of_ble_eq_true rfl) ⟨Nat.zero_le _, Nat.zero_le _⟩ dX2_insertTurn_25 (fun H locs hM hS => ?_)
      refine lv_if_eq (tgt := 51) hx hb dX2_insertTurn_28 (by decide) (fun hc_6 => ?_) (fun hc_6 => ?_)
      · replace hf := i_t hf hc_6
        exact hk x_4 a3 _ _ _ hf hM hS (lv_sub hl [0, 1, 2] rfl)
      · replace hf := i_f hf hc_6
        refine lv_aload_n hx hb dX2_insertTurn_31 rfl (lv_at hl 0 rfl) ?_
        refine gr_24 hx hb hE hM hown w_1_220 dX2_insertTurn_32 ?_
        refine lv_iload_n hx hb dX2_insertTurn_35 rfl (lv_at hl 2 rfl) ?_
        refine lv_aload_n hx hb dX2_insertTurn_36 rfl (lv_at hl 0 rfl) ?_
        refine gr_24 hx hb hE hM hown w_1_220 dX2_insertTurn_37 ?_
        refine lv_iload_n hx hb dX2_insertTurn_40 rfl (lv_at hl 2 rfl) ?_
        refine lv_iconst (v := 1) hx hb dX2_insertTurn_41 (by decide) ?_
        refine lv_isub hx hb dX2_insertTurn_42 ?_
        refine la_24 hx hb hE hM hi_2 dX2_insertTurn_43 ?_
        obtain ⟨hi_5, hf⟩ := i_n hf
        refine sa_24 hx hb hE hM hS hi_5 dX2_insertTurn_44 (fun H locs hM hS => ?_)
        refine lv_iinc (v := a3 + (-1)) (lv' := [(3, .int (a3 + (-1))), (0, .ref (ga G 19)), (1, .int b1)]) hx hb dX2_insertTurn_45 hl (k := 2) rfl rfl (by decide) rfl (fun ls hl => ?_)
        refine lv_goto (tgt := 2) hx hb dX2_insertTurn_48 (by decide) ?_
        exact ih (mu x_4 30 a3.toNatClampNeg (x_4 30 ((a3 - 1).toNatClampNeg))) (a3 + (-1)) _ _ _ hf hM hS (lv_sub hl [1, 2, 0] rfl)
set_option maxHeartbeats 4000000 in
set_option maxRecDepth 100000 in
theorem c_X2_insertTurn (l : Launch) (fu nw : Nat) (G : GG) (x x' mo : Me) (a1 : Int32) (a2 : Int32) (r : Unit) (hf : f_X2_insertTurn fu nw x a1 a2 = some (x', r)) : Met l yX2_insertTurn [.code yX2_insertTurn cX2_insertTurn 4 none] rm_X2_insertTurn (va_Pc [.ref (ga G 19), .int a1, .int a2] (Pre G nw x mo)) (PV G nw x' mo) 0 0 (gA G) := by
  refine mt_ofW (cc := cX2_insertTurn) (maxL := 4) (ret := none) (by decide +kernel) rfl ?_
  intro p e s m args below meth c s₁ B hml hv
  obtain ⟨rfl, hE, hM⟩ := hv
  have hx := B.exec
  have hb := B.bytes
  have hr := B.returns
  have hown : s.vm.findClass RX2 = some m.cls := findClass_of_methodNamed B.named
  have hlocks := B.notSynchronized
  have hS : va_S (gA G) s.heap s.heap [] := va_S.rf
  have hl := lv_entry ([.ref (ga G 19), .int a1, .int a2]) (n := 4) (Nat.le_of_ble_eq_true rfl)
  rw [lg_entry_eq]
  generalize (lg_sl ([.ref (ga G 19), .int a1, .int a2]) ++ List.replicate (4 - (lg_sl ([.ref (ga G 19), .int a1, .int a2])).length) Slot.unset).toArray = ls at hl ⊢
  have hl : lv_has ls 4 [(0, .ref (ga G 19)), (1, .int a1), (2, .int a2)] := hl
  generalize ([.ref (ga G 19), .int a1, .int a2] : List Value).toArray = args
  unfold f_X2_insertTurn at hf
  refine lv_iload_n hx hb dX2_insertTurn_0 rfl (lv_at hl 2 rfl) ?_
  refine lv_istore_n (lv' := [(3, .int a2), (0, .ref (ga G 19)), (1, .int a1), (2, .int a2)]) hx hb dX2_insertTurn_1 rfl hl (by decide) rfl (fun ls hl => ?_)
  refine wk_X2_insertTurn_2 hx hb hml hown hE hr hlocks ?_ fu x a2 _ _ _ hf hM hS (lv_sub hl [1, 2, 0] rfl)
  intro x_8 a3_8 H locs ls hf hM hS hl
  refine lv_aload_n hx hb dX2_insertTurn_51 rfl (lv_at hl 0 rfl) ?_
  refine gr_24 hx hb hE hM hown w_1_220 dX2_insertTurn_52 ?_
  refine lv_iload_n hx hb dX2_insertTurn_55 rfl (lv_at hl 2 rfl) ?_
  refine lv_iload_n hx hb dX2_insertTurn_56 rfl (lv_at hl 1 rfl) ?_
  obtain ⟨hi_9, hf⟩ := i_n hf
  refine sa_24 hx hb hE hM hS hi_9 dX2_insertTurn_57 (fun H locs hM hS => ?_)
  exact rt_vX hx hb hr hf hM hS dX2_insertTurn_58 hlocks
theorem k_X2_insertTurn {p : Program} {l : Launch} {e : Env} {R : Room} {s : State} {m : MethodId} {args : Array Value} {below : List Frame} {meth : Method} {c : Code} {H : Heap} {locs : List Loc} {cells slots : Nat} {Q : State → Prop} {cc : ByteArray} {pc nL : Nat} {ls : Array Slot} {rest : List Value} {G : GG} {fu nw : Nat} {x x' mo : Me} {own : String} {index : Nat} {a1 : Int32} {a2 : Int32} {r : Unit} (hx : p.tables.exec = Jvm.exec) (hb : c.code = cc) (hml : c.maxLocals = nL) (hown : s.vm.findClass own = some m.cls) (hE : EnvP G s) (hM : MemP G nw x mo H) (hS : va_S (gA G) s.heap H locs) (hw : Cond.methodLink own index yX2_insertTurn ∈ lw_tbl) (hf : f_X2_insertTurn fu nw x a1 a2 = some (x', r)) (h1 : 1 + 1 ≤ R.frames) (h2 : 8 + (4 + 11) + 21 ≤ R.locals) (hsz : ls.size = nL) (hW : (rest.map fun v => v.category).sum ≤ 8) (hcs : cells ≤ R.cells ∧ slots ≤ R.slots) (hdg : decode cc pc = .ok (.invokevirtual index, 3)) (kk : ∀ (H1 : Heap) (locs1 : List Loc), MemP G nw x' mo H1 → va_S (gA G) s.heap H1 locs1 → W p l e R s m args below meth c H1 locs1 cells slots Q (F0 m (pc + 3) ls rest)) : W p l e R s m args below meth c H locs cells slots Q (F0 m pc ls (.int a2 :: .int a1 :: .ref (ga G 19) :: rest)) := mm_kv hS (mm_runV (n := 2) (o := 19) (C := RX2) (T := TX2) (N := 14) (ci := 2) (As := [.int a1, .int a2]) hx hb hml hown hE hM hS (c_X2_insertTurn l fu nw G x x' mo a1 a2 _ hf) (List.forall_mem_cons.mpr ⟨⟨hw, rfl⟩, List.forall_mem_cons.mpr ⟨⟨w_3_236, rfl⟩, List.forall_mem_cons.mpr ⟨⟨w_0_19, rfl⟩, List.forall_mem_cons.mpr ⟨⟨w_1_7, rfl⟩, List.forall_mem_cons.mpr ⟨⟨w_3_237, rfl⟩, fun _ h => absurd h List.not_mem_nil⟩⟩⟩⟩⟩) rfl rfl ⟨rfl, by decide, by decide, by decide +kernel⟩ ⟨h1, h2⟩ rfl rfl rfl hsz rfl hW hdg hcs) kk
def f_X2_lineUp_4 (fu nw : Nat) (k : Me → Int32 → Option (Me × Int32)) : Nat → Me → Int32 → Int32 → Option (Me × Int32)
  | 0 => fun _ _ _ => none
  | n + 1 => fun x a1 a2 => if (x 29 0) ≤ a2 then k x a1 else if inb a2 10 = true then ob (f_X4_onRing fu nw x a2.toNatClampNeg) (fun x_2 r_2 => if r_2 = 0 then f_X2_lineUp_4 fu nw k n x_2 a1 (a2 + 1) else ob (f_X2_insertTurn fu nw x_2 a2 a1) (fun x_3 _ => f_X2_lineUp_4 fu nw k n x_3 (a1 + 1) (a2 + 1))) else none
def f_X2_lineUp (fu nw : Nat) (x : Me) : Option (Me × Int32) := f_X2_lineUp_4 fu nw (fun (x_6 : Me) (a1_6 : Int32) => some (x_6, a1_6)) fu x 0 0
def rm_X2_lineUp : Room := { frames := 2, cells := 0, slots := 0, locals := 44 }
set_option maxHeartbeats 4000000 in
set_option maxRecDepth 100000 in
theorem wk_X2_lineUp_4 {p : Program} {l : Launch} {e : Env} {s : State} {m : MethodId} {args : Array Value} {below : List Frame} {meth : Method} {c : Code} {fu nw : Nat} {G : GG} {mo : Me} (hx : p.tables.exec = Jvm.exec) (hb : c.code = cX2_lineUp) (hml : c.maxLocals = 3) (hown : s.vm.findClass RX2 = some m.cls) (hE : EnvP G s) (hr : meth.sig.returnType = (some .int)) (hlocks : meth.locks = false) {x' : Me} {r : Int32} {k : Me → Int32 → Option (Me × Int32)} (hk : ∀ (x : Me) (a1 : Int32) (H : Heap) (locs : List Loc) (ls : Array Slot), k x a1 = some (x', r) → MemP G nw x mo H → va_S (gA G) s.heap H locs → lv_has ls 3 [(1, .int a1)] → W p l e rm_X2_lineUp s m args below meth c H locs 0 0 (MQ below (PI G nw x' mo r) args s 0 0 (gA G)) (F0 m 39 ls [])) : ∀ (n : Nat) (x : Me) (a1 : Int32) (a2 : Int32) (H : Heap) (locs : List Loc) (ls : Array Slot), f_X2_lineUp_4 fu nw k n x a1 a2 = some (x', r) → MemP G nw x mo H → va_S (gA G) s.heap H locs → lv_has ls 3 [(0, .ref (ga G 19)), (1, .int a1), (2, .int a2)] → W p l e rm_X2_lineUp s m args below meth c H locs 0 0 (MQ below (PI G nw x' mo r) args s 0 0 (gA G)) (F0 m 4 ls []) := by
  intro n
  induction n with
  | zero =>
    intro x a1 a2 H locs ls hf hM hS hl
    exact nn hf
  | succ n ih =>
    intro x a1 a2 H locs ls hf hM hS hl
    rw [f_X2_lineUp_4] at hf
    refine lv_iload_n hx hb dX2_lineUp_4 rfl (lv_at hl 2 rfl) ?_
    refine lv_aload_n hx hb dX2_lineUp_5 rfl (lv_at hl 0 rfl) ?_
    refine gf_29 hx hb hE hM hown w_1_218 dX2_lineUp_6 ?_
    refine lv_icmp_ge (tgt := 39) hx hb dX2_lineUp_9 (by decide) (fun hc_5 => ?_) (fun hc_5 => ?_)
    · replace hf := i_t hf hc_5
      exact hk x a1 _ _ _ hf hM hS (lv_sub hl [1] rfl)
    · replace hf := i_f hf hc_5
      refine lv_aload_n hx hb dX2_lineUp_12 rfl (lv_at hl 0 rfl) ?_
      refine gr_23 hx hb hE hM hown w_1_219 dX2_lineUp_13 ?_
      refine lv_iload_n hx hb dX2_lineUp_16 rfl (lv_at hl 2 rfl) ?_
      obtain ⟨hi_1, hf⟩ := i_n hf
      refine mm_rald hx hb hE hM hi_1 dX2_lineUp_17 ?_
      obtain ⟨x_2, r_2, hq_2, hf⟩ := ob_some hf
      refine k_X4_onRing (inb_lt hi_1) hx hb hml hown hE hM hS w_3_230 hq_2 (Nat.le_of_ble_eq_true rfl) (Nat.le_of_ble_eq_true rfl) hl.1 (Nat.le_of_ble_eq_true rfl) ⟨Nat.zero_le _, Nat.zero_le _⟩ dX2_lineUp_18 (fun H locs hM hS => ?_)
      refine lv_if_eq (tgt := 33) hx hb dX2_lineUp_21 (by decide) (fun hc_4 => ?_) (fun hc_4 => ?_)
      · replace hf := i_t hf hc_4
        refine lv_iinc (v := a2 + 1) (lv' := [(2, .int (a2 + 1)), (0, .ref (ga G 19)), (1, .int a1)]) hx hb dX2_lineUp_33 hl (k := 2) rfl rfl (by decide) rfl (fun ls hl => ?_)
        refine lv_goto (tgt := 4) hx hb dX2_lineUp_36 (by decide) ?_
        exact ih x_2 a1 (a2 + 1) _ _ _ hf hM hS (lv_sub hl [1, 2, 0] rfl)
      · replace hf := i_f hf hc_4
        refine lv_aload_n hx hb dX2_lineUp_24 rfl (lv_at hl 0 rfl) ?_
        refine lv_iload_n hx hb dX2_lineUp_25 rfl (lv_at hl 2 rfl) ?_
        refine lv_iload_n hx hb dX2_lineUp_26 rfl (lv_at hl 1 rfl) ?_
        obtain ⟨x_3, r_3, hq_3, hf⟩ := ob_some hf
        refine k_X2_insertTurn hx hb hml hown hE hM hS w_3_234 hq_3 (Nat.le_of_ble_eq_true rfl) (Nat.le_of_ble_eq_true rfl) hl.1 (Nat.le_of_ble_eq_true rfl) ⟨Nat.zero_le _, Nat.zero_le _⟩ dX2_lineUp_27 (fun H locs hM hS => ?_)
        refine lv_iinc (v := a1 + 1) (lv' := [(1, .int (a1 + 1)), (0, .ref (ga G 19)), (2, .int a2)]) hx hb dX2_lineUp_30 hl (k := 1) rfl rfl (by decide) rfl (fun ls hl => ?_)
        refine lv_iinc (v := a2 + 1) (lv' := [(2, .int (a2 + 1)), (1, .int (a1 + 1)), (0, .ref (ga G 19))]) hx hb dX2_lineUp_33 hl (k := 2) rfl rfl (by decide) rfl (fun ls hl => ?_)
        refine lv_goto (tgt := 4) hx hb dX2_lineUp_36 (by decide) ?_
        exact ih x_3 (a1 + 1) (a2 + 1) _ _ _ hf hM hS (lv_sub hl [2, 1, 0] rfl)
set_option maxHeartbeats 4000000 in
set_option maxRecDepth 100000 in
theorem c_X2_lineUp (l : Launch) (fu nw : Nat) (G : GG) (x x' mo : Me) (r : Int32) (hf : f_X2_lineUp fu nw x = some (x', r)) : Met l yX2_lineUp [.code yX2_lineUp cX2_lineUp 3 (some .int)] rm_X2_lineUp (va_Pc [.ref (ga G 19)] (Pre G nw x mo)) (PI G nw x' mo r) 0 0 (gA G) := by
  refine mt_ofW (cc := cX2_lineUp) (maxL := 3) (ret := (some .int)) (by decide +kernel) rfl ?_
  intro p e s m args below meth c s₁ B hml hv
  obtain ⟨rfl, hE, hM⟩ := hv
  have hx := B.exec
  have hb := B.bytes
  have hr := B.returns
  have hown : s.vm.findClass RX2 = some m.cls := findClass_of_methodNamed B.named
  have hlocks := B.notSynchronized
  have hS : va_S (gA G) s.heap s.heap [] := va_S.rf
  have hl := lv_entry ([.ref (ga G 19)]) (n := 3) (Nat.le_of_ble_eq_true rfl)
  rw [lg_entry_eq]
  generalize (lg_sl ([.ref (ga G 19)]) ++ List.replicate (3 - (lg_sl ([.ref (ga G 19)])).length) Slot.unset).toArray = ls at hl ⊢
  have hl : lv_has ls 3 [(0, .ref (ga G 19))] := hl
  generalize ([.ref (ga G 19)] : List Value).toArray = args
  unfold f_X2_lineUp at hf
  refine lv_iconst (v := 0) hx hb dX2_lineUp_0 (by decide) ?_
  refine lv_istore_n (lv' := [(1, .int 0), (0, .ref (ga G 19))]) hx hb dX2_lineUp_1 rfl hl (by decide) rfl (fun ls hl => ?_)
  refine lv_iconst (v := 0) hx hb dX2_lineUp_2 (by decide) ?_
  refine lv_istore_n (lv' := [(2, .int 0), (1, .int 0), (0, .ref (ga G 19))]) hx hb dX2_lineUp_3 rfl hl (by decide) rfl (fun ls hl => ?_)
  refine wk_X2_lineUp_4 hx hb hml hown hE hr hlocks ?_ fu x 0 0 _ _ _ hf hM hS (lv_sub hl [2, 1, 0] rfl)
  intro x_6 a1_6 H locs ls hf hM hS hl
  refine lv_iload_n hx hb dX2_lineUp_39 rfl (lv_at hl 0 rfl) ?_
  exact rt_iX hx hb hr hf hM hS dX2_lineUp_40 hlocks
theorem k_X2_lineUp {p : Program} {l : Launch} {e : Env} {R : Room} {s : State} {m : MethodId} {args : Array Value} {below : List Frame} {meth : Method} {c : Code} {H : Heap} {locs : List Loc} {cells slots : Nat} {Q : State → Prop} {cc : ByteArray} {pc nL : Nat} {ls : Array Slot} {rest : List Value} {G : GG} {fu nw : Nat} {x x' mo : Me} {own : String} {index : Nat} {r : Int32} (hx : p.tables.exec = Jvm.exec) (hb : c.code = cc) (hml : c.maxLocals = nL) (hown : s.vm.findClass own = some m.cls) (hE : EnvP G s) (hM : MemP G nw x mo H) (hS : va_S (gA G) s.heap H locs) (hw : Cond.methodLink own index yX2_lineUp ∈ lw_tbl) (hf : f_X2_lineUp fu nw x = some (x', r)) (h1 : 2 + 1 ≤ R.frames) (h2 : 8 + (3 + 11) + 44 ≤ R.locals) (hsz : ls.size = nL) (hW : (rest.map fun v => v.category).sum ≤ 8) (hcs : cells ≤ R.cells ∧ slots ≤ R.slots) (hdg : decode cc pc = .ok (.invokevirtual index, 3)) (kk : ∀ (H1 : Heap) (locs1 : List Loc), MemP G nw x' mo H1 → va_S (gA G) s.heap H1 locs1 → W p l e R s m args below meth c H1 locs1 cells slots Q (F0 m (pc + 3) ls (.int r :: rest))) : W p l e R s m args below meth c H locs cells slots Q (F0 m pc ls (.ref (ga G 19) :: rest)) := mm_ki hS (mm_runV (n := 0) (o := 19) (C := RX2) (T := TX2) (N := 14) (ci := 2) (As := []) hx hb hml hown hE hM hS (c_X2_lineUp l fu nw G x x' mo _ hf) (List.forall_mem_cons.mpr ⟨⟨hw, rfl⟩, List.forall_mem_cons.mpr ⟨⟨w_3_228, rfl⟩, List.forall_mem_cons.mpr ⟨⟨w_0_18, rfl⟩, List.forall_mem_cons.mpr ⟨⟨w_1_7, rfl⟩, List.forall_mem_cons.mpr ⟨⟨w_3_229, rfl⟩, fun _ h => absurd h List.not_mem_nil⟩⟩⟩⟩⟩) rfl rfl ⟨rfl, by decide, by decide, by decide +kernel⟩ ⟨h1, h2⟩ rfl rfl rfl hsz rfl hW hdg hcs) kk
def f_X2_setPace (fu nw : Nat) (x : Me) (r1 : Nat) : Option (Me × Unit) := if r1 < 10 then ob (f_X0_below_25 fu nw x 8) (fun x_2 r_2 => if r_2 = 0 then some ((mu x_2 41 r1 (if ((if (x 38 r1) < ((x 41 r1) + 1) then (x 38 r1) else ((x 41 r1) + 1)) + (-1)) < 1 then 1 else ((if (x 38 r1) < ((x 41 r1) + 1) then (x 38 r1) else ((x 41 r1) + 1)) + (-1)))), ()) else some ((mu x_2 41 r1 (if (if (x 38 r1) < ((x 41 r1) + 1) then (x 38 r1) else ((x 41 r1) + 1)) < 1 then 1 else (if (x 38 r1) < ((x 41 r1) + 1) then (x 38 r1) else ((x 41 r1) + 1)))), ())) else none
def rm_X2_setPace : Room := { frames := 1, cells := 0, slots := 0, locals := 22 }
set_option maxHeartbeats 4000000 in
set_option maxRecDepth 100000 in
theorem c_X2_setPace (l : Launch) (fu nw : Nat) (G : GG) (x x' mo : Me) (r1 : Nat) (r : Unit) (hf : f_X2_setPace fu nw x r1 = some (x', r)) : Met l yX2_setPace [.code yX2_setPace cX2_setPace 3 none] rm_X2_setPace (va_Pc [.ref (ga G 19), .ref (ga G (26 + r1))] (Pre G nw x mo)) (PV G nw x' mo) 0 0 (gA G) := by
  refine mt_ofW (cc := cX2_setPace) (maxL := 3) (ret := none) (by decide +kernel) rfl ?_
  intro p e s m args below meth c s₁ B hml hv
  obtain ⟨rfl, hE, hM⟩ := hv
  have hx := B.exec
  have hb := B.bytes
  have hr := B.returns
  have hown : s.vm.findClass RX2 = some m.cls := findClass_of_methodNamed B.named
  have hlocks := B.notSynchronized
  have hS : va_S (gA G) s.heap s.heap [] := va_S.rf
  have hl := lv_entry ([.ref (ga G 19), .ref (ga G (26 + r1))]) (n := 3) (Nat.le_of_ble_eq_true rfl)
  rw [lg_entry_eq]
  generalize (lg_sl ([.ref (ga G 19), .ref (ga G (26 + r1))]) ++ List.replicate (3 - (lg_sl ([.ref (ga G 19), .ref (ga G (26 + r1))])).length) Slot.unset).toArray = ls at hl ⊢
  have hl : lv_has ls 3 [(0, .ref (ga G 19)), (1, .ref (ga G (26 + r1)))] := hl
  generalize ([.ref (ga G 19), .ref (ga G (26 + r1))] : List Value).toArray = args
  unfold f_X2_setPace at hf
  obtain ⟨hm_1, hf⟩ := i_n hf
  refine lv_aload_n hx hb dX2_setPace_0 rfl (lv_at hl 1 rfl) ?_
  refine gf_41N hm_1 hx hb hE hM hown w_1_182 dX2_setPace_1 ?_
  refine lv_iconst (v := 1) hx hb dX2_setPace_4 (by decide) ?_
  refine lv_iadd hx hb dX2_setPace_5 ?_
  refine lv_aload_n hx hb dX2_setPace_6 rfl (lv_at hl 1 rfl) ?_
  refine gf_38N hm_1 hx hb hE hM hown w_1_174 dX2_setPace_7 ?_
  refine va_mmin hx hb (by rw [hml]; exact hl.1.symm) hown (ew hE w_4_33 rfl) (ew hE w_2_92 rfl) (ew hE w_1_12 rfl) (ew hE w_2_93 rfl) (Nat.le_of_ble_eq_true rfl) (Nat.le_of_ble_eq_true rfl) (Nat.zero_le _) (Nat.zero_le _) dX2_setPace_10 ?_
  refine lv_istore_n (lv' := [(2, .int (if (x 38 r1) < ((x 41 r1) + 1) then (x 38 r1) else ((x 41 r1) + 1))), (0, .ref (ga G 19)), (1, .ref (ga G (26 + r1)))]) hx hb dX2_setPace_13 rfl hl (by decide) rfl (fun ls hl => ?_)
  refine lv_aload_n hx hb dX2_setPace_14 rfl (lv_at hl 1 rfl) ?_
  refine gr_25 hx hb hE hM hown w_1_221 dX2_setPace_15 ?_
  refine lv_bipush (v := 8) hx hb dX2_setPace_18 (by decide) ?_
  obtain ⟨x_2, r_2, hq_2, hf⟩ := ob_some hf
  refine k_X0_below_25 hx hb hml hown hE hM hS w_4_34 hq_2 (Nat.le_of_ble_eq_true rfl) (Nat.le_of_ble_eq_true rfl) hl.1 (Nat.le_of_ble_eq_true rfl) ⟨Nat.zero_le _, Nat.zero_le _⟩ dX2_setPace_20 (fun H locs hM hS => ?_)
  refine lv_if_ne (tgt := 29) hx hb dX2_setPace_23 (by decide) (fun hc_3 => ?_) (fun hc_3 => ?_)
  · replace hf := i_f hf hc_3
    refine lv_aload_n hx hb dX2_setPace_29 rfl (lv_at hl 2 rfl) ?_
    refine lv_iload_n hx hb dX2_setPace_30 rfl (lv_at hl 0 rfl) ?_
    refine lv_iconst (v := 1) hx hb dX2_setPace_31 (by decide) ?_
    refine va_mmax hx hb (by rw [hml]; exact hl.1.symm) hown (ew hE w_4_35 rfl) (ew hE w_2_184 rfl) (ew hE w_1_12 rfl) (ew hE w_2_185 rfl) (Nat.le_of_ble_eq_true rfl) (Nat.le_of_ble_eq_true rfl) (Nat.zero_le _) (Nat.zero_le _) dX2_setPace_32 ?_
    refine pf_41N hm_1 hx hb hE hM hS hown w_1_182 dX2_setPace_35 (fun H locs hM hS => ?_)
    exact rt_vX hx hb hr hf hM hS dX2_setPace_38 hlocks
  · replace hf := i_t hf hc_3
    refine lv_iinc (v := (if (x 38 r1) < ((x 41 r1) + 1) then (x 38 r1) else ((x 41 r1) + 1)) + (-1)) (lv' := [(2, .int ((if (x 38 r1) < ((x 41 r1) + 1) then (x 38 r1) else ((x 41 r1) + 1)) + (-1))), (0, .ref (ga G 19)), (1, .ref (ga G (26 + r1)))]) hx hb dX2_setPace_26 hl (k := 0) rfl rfl (by decide) rfl (fun ls hl => ?_)
    refine lv_aload_n hx hb dX2_setPace_29 rfl (lv_at hl 2 rfl) ?_
    refine lv_iload_n hx hb dX2_setPace_30 rfl (lv_at hl 0 rfl) ?_
    refine lv_iconst (v := 1) hx hb dX2_setPace_31 (by decide) ?_
    refine va_mmax hx hb (by rw [hml]; exact hl.1.symm) hown (ew hE w_4_35 rfl) (ew hE w_2_184 rfl) (ew hE w_1_12 rfl) (ew hE w_2_185 rfl) (Nat.le_of_ble_eq_true rfl) (Nat.le_of_ble_eq_true rfl) (Nat.zero_le _) (Nat.zero_le _) dX2_setPace_32 ?_
    refine pf_41N hm_1 hx hb hE hM hS hown w_1_182 dX2_setPace_35 (fun H locs hM hS => ?_)
    exact rt_vX hx hb hr hf hM hS dX2_setPace_38 hlocks
theorem k_X2_setPace {p : Program} {l : Launch} {e : Env} {R : Room} {s : State} {m : MethodId} {args : Array Value} {below : List Frame} {meth : Method} {c : Code} {H : Heap} {locs : List Loc} {cells slots : Nat} {Q : State → Prop} {cc : ByteArray} {pc nL : Nat} {ls : Array Slot} {rest : List Value} {G : GG} {fu nw : Nat} {x x' mo : Me} {own : String} {index : Nat} {r1 : Nat} {r : Unit} (hx : p.tables.exec = Jvm.exec) (hb : c.code = cc) (hml : c.maxLocals = nL) (hown : s.vm.findClass own = some m.cls) (hE : EnvP G s) (hM : MemP G nw x mo H) (hS : va_S (gA G) s.heap H locs) (hw : Cond.methodLink own index yX2_setPace ∈ lw_tbl) (hf : f_X2_setPace fu nw x r1 = some (x', r)) (h1 : 1 + 1 ≤ R.frames) (h2 : 8 + (3 + 11) + 22 ≤ R.locals) (hsz : ls.size = nL) (hW : (rest.map fun v => v.category).sum ≤ 8) (hcs : cells ≤ R.cells ∧ slots ≤ R.slots) (hdg : decode cc pc = .ok (.invokevirtual index, 3)) (kk : ∀ (H1 : Heap) (locs1 : List Loc), MemP G nw x' mo H1 → va_S (gA G) s.heap H1 locs1 → W p l e R s m args below meth c H1 locs1 cells slots Q (F0 m (pc + 3) ls rest)) : W p l e R s m args below meth c H locs cells slots Q (F0 m pc ls (.ref (ga G (26 + r1)) :: .ref (ga G 19) :: rest)) := mm_kv hS (mm_runV (n := 1) (o := 19) (C := RX2) (T := TX2) (N := 14) (ci := 2) (As := [.ref (ga G (26 + r1))]) hx hb hml hown hE hM hS (c_X2_setPace l fu nw G x x' mo r1 _ hf) (List.forall_mem_cons.mpr ⟨⟨hw, rfl⟩, List.forall_mem_cons.mpr ⟨⟨w_4_31, rfl⟩, List.forall_mem_cons.mpr ⟨⟨w_0_24, rfl⟩, List.forall_mem_cons.mpr ⟨⟨w_1_7, rfl⟩, List.forall_mem_cons.mpr ⟨⟨w_4_32, rfl⟩, fun _ h => absurd h List.not_mem_nil⟩⟩⟩⟩⟩) rfl rfl ⟨rfl, by decide, by decide, by decide +kernel⟩ ⟨h1, h2⟩ rfl rfl rfl hsz rfl hW hdg hcs) kk
def f_X2_isFree_2 (fu nw : Nat) (b1 : Int32) (b2 : Int32) (k : Me → Option (Me × Int32)) : Nat → Me → Int32 → Option (Me × Int32)
  | 0 => fun _ _ => none
  | n + 1 => fun x a3 => if (x 29 0) ≤ a3 then k x else if (x 25 0) ≤ 0 then k x else if inb a3 10 = true then ob (f_X4_onRing fu nw x a3.toNatClampNeg) (fun x_2 r_2 => if r_2 = 0 then f_X2_isFree_2 fu nw b1 b2 k n x_2 (a3 + 1) else if (x_2 40 a3.toNatClampNeg) = b2 then if ¬ (x_2 25 0) = 0 then if (((x_2 39 a3.toNatClampNeg) - b1) - ((x_2 39 a3.toNatClampNeg) - b1) / (x_2 25 0) * (x_2 25 0)) = 0 then some (x_2, 0) else f_X2_isFree_2 fu nw b1 b2 k n x_2 (a3 + 1) else none else f_X2_isFree_2 fu nw b1 b2 k n x_2 (a3 + 1)) else none
def f_X2_isFree (fu nw : Nat) (x : Me) (a1 : Int32) (a2 : Int32) : Option (Me × Int32) := f_X2_isFree_2 fu nw a1 a2 (fun (x_9 : Me) => some (x_9, 1)) fu x 0
def rm_X2_isFree : Room := { frames := 1, cells := 0, slots := 0, locals := 20 }
set_option maxHeartbeats 4000000 in
set_option maxRecDepth 100000 in
theorem wk_X2_isFree_2 {p : Program} {l : Launch} {e : Env} {s : State} {m : MethodId} {args : Array Value} {below : List Frame} {meth : Method} {c : Code} {fu nw : Nat} {G : GG} {mo : Me} {b1 : Int32} {b2 : Int32} (hx : p.tables.exec = Jvm.exec) (hb : c.code = cX2_isFree) (hml : c.maxLocals = 5) (hown : s.vm.findClass RX2 = some m.cls) (hE : EnvP G s) (hr : meth.sig.returnType = (some .boolean)) (hlocks : meth.locks = false) {x' : Me} {r : Int32} {k : Me → Option (Me × Int32)} (hk : ∀ (x : Me) (H : Heap) (locs : List Loc) (ls : Array Slot), k x = some (x', r) → MemP G nw x mo H → va_S (gA G) s.heap H locs → lv_has ls 5 [] → W p l e rm_X2_isFree s m args below meth c H locs 0 0 (MQ below (PI G nw x' mo r) args s 0 0 (gA G)) (F0 m 65 ls [])) : ∀ (n : Nat) (x : Me) (a3 : Int32) (H : Heap) (locs : List Loc) (ls : Array Slot), f_X2_isFree_2 fu nw b1 b2 k n x a3 = some (x', r) → MemP G nw x mo H → va_S (gA G) s.heap H locs → lv_has ls 5 [(0, .ref (ga G 19)), (1, .int b1), (2, .int b2), (3, .int a3)] → W p l e rm_X2_isFree s m args below meth c H locs 0 0 (MQ below (PI G nw x' mo r) args s 0 0 (gA G)) (F0 m 2 ls []) := by
  intro n
  induction n with
  | zero =>
    intro x a3 H locs ls hf hM hS hl
    exact nn hf
  | succ n ih =>
    intro x a3 H locs ls hf hM hS hl
    rw [f_X2_isFree_2] at hf
    refine lv_iload_n hx hb dX2_isFree_2 rfl (lv_at hl 3 rfl) ?_
    refine lv_aload_n hx hb dX2_isFree_3 rfl (lv_at hl 0 rfl) ?_
    refine gf_29 hx hb hE hM hown w_1_218 dX2_isFree_4 ?_
    refine lv_icmp_ge (tgt := 65) hx hb dX2_isFree_7 (by decide) (fun hc_8 => ?_) (fun hc_8 => ?_)
    · replace hf := i_t hf hc_8
      exact hk x _ _ _ hf hM hS (lv_sub hl [] rfl)
    · replace hf := i_f hf hc_8
      refine lv_aload_n hx hb dX2_isFree_10 rfl (lv_at hl 0 rfl) ?_
      refine gf_25 hx hb hE hM hown w_1_210 dX2_isFree_11 ?_
      refine lv_if_le (tgt := 65) hx hb dX2_isFree_14 (by decide) (fun hc_7 => ?_) (fun hc_7 => ?_)
      · replace hf := i_t hf hc_7
        exact hk x _ _ _ hf hM hS (lv_sub hl [] rfl)
      · replace hf := i_f hf hc_7
        refine lv_aload_n hx hb dX2_isFree_17 rfl (lv_at hl 0 rfl) ?_
        refine gr_23 hx hb hE hM hown w_1_219 dX2_isFree_18 ?_
        refine lv_iload_n hx hb dX2_isFree_21 rfl (lv_at hl 3 rfl) ?_
        obtain ⟨hi_1, hf⟩ := i_n hf
        refine mm_rald hx hb hE hM hi_1 dX2_isFree_22 ?_
        refine lv_astore (lv' := [(4, .ref (ga G (26 + a3.toNatClampNeg))), (0, .ref (ga G 19)), (1, .int b1), (2, .int b2), (3, .int a3)]) hx hb dX2_isFree_23 hl (by decide) rfl (fun ls hl => ?_)
        refine lv_aload hx hb dX2_isFree_25 (lv_at hl 0 rfl) ?_
        obtain ⟨x_2, r_2, hq_2, hf⟩ := ob_some hf
        refine k_X4_onRing (inb_lt hi_1) hx hb hml hown hE hM hS w_3_230 hq_2 (Nat.le_of_ble_eq_true rfl) (Nat.le_of_ble_eq_true rfl) hl.1 (Nat.le_of_ble_eq_true rfl) ⟨Nat.zero_le _, Nat.zero_le _⟩ dX2_isFree_27 (fun H locs hM hS => ?_)
        refine lv_if_eq (tgt := 59) hx hb dX2_isFree_30 (by decide) (fun hc_6 => ?_) (fun hc_6 => ?_)
        · replace hf := i_t hf hc_6
          refine lv_iinc (v := a3 + 1) (lv' := [(3, .int (a3 + 1)), (4, .ref (ga G (26 + a3.toNatClampNeg))), (0, .ref (ga G 19)), (1, .int b1), (2, .int b2)]) hx hb dX2_isFree_59 hl (k := 4) rfl rfl (by decide) rfl (fun ls hl => ?_)
          refine lv_goto (tgt := 2) hx hb dX2_isFree_62 (by decide) ?_
          exact ih x_2 (a3 + 1) _ _ _ hf hM hS (lv_sub hl [2, 3, 4, 0] rfl)
        · replace hf := i_f hf hc_6
          refine lv_aload hx hb dX2_isFree_33 (lv_at hl 0 rfl) ?_
          refine gf_40N (inb_lt hi_1) hx hb hE hM hown w_1_179 dX2_isFree_35 ?_
          refine lv_iload_n hx hb dX2_isFree_38 rfl (lv_at hl 3 rfl) ?_
          refine lv_icmp_ne (tgt := 59) hx hb dX2_isFree_39 (by decide) (fun hc_5 => ?_) (fun hc_5 => ?_)
          · replace hf := i_f hf hc_5
            refine lv_iinc (v := a3 + 1) (lv' := [(3, .int (a3 + 1)), (4, .ref (ga G (26 + a3.toNatClampNeg))), (0, .ref (ga G 19)), (1, .int b1), (2, .int b2)]) hx hb dX2_isFree_59 hl (k := 4) rfl rfl (by decide) rfl (fun ls hl => ?_)
            refine lv_goto (tgt := 2) hx hb dX2_isFree_62 (by decide) ?_
            exact ih x_2 (a3 + 1) _ _ _ hf hM hS (lv_sub hl [2, 3, 4, 0] rfl)
          · replace hf := i_t hf hc_5
            refine lv_aload hx hb dX2_isFree_42 (lv_at hl 0 rfl) ?_
            refine gf_39N (inb_lt hi_1) hx hb hE hM hown w_1_176 dX2_isFree_44 ?_
            refine lv_iload_n hx hb dX2_isFree_47 rfl (lv_at hl 2 rfl) ?_
            refine lv_isub hx hb dX2_isFree_48 ?_
            refine lv_aload_n hx hb dX2_isFree_49 rfl (lv_at hl 1 rfl) ?_
            refine gf_25 hx hb hE hM hown w_1_210 dX2_isFree_50 ?_
            obtain ⟨hn_3, hf⟩ := i_n hf
            refine lv_irem hx hb dX2_isFree_53 hn_3 ?_
            refine lv_if_ne (tgt := 59) hx hb dX2_isFree_54 (by decide) (fun hc_4 => ?_) (fun hc_4 => ?_)
            · replace hf := i_f hf hc_4
              refine lv_iinc (v := a3 + 1) (lv' := [(3, .int (a3 + 1)), (4, .ref (ga G (26 + a3.toNatClampNeg))), (0, .ref (ga G 19)), (1, .int b1), (2, .int b2)]) hx hb dX2_isFree_59 hl (k := 4) rfl rfl (by decide) rfl (fun ls hl => ?_)
              refine lv_goto (tgt := 2) hx hb dX2_isFree_62 (by decide) ?_
              exact ih x_2 (a3 + 1) _ _ _ hf hM hS (lv_sub hl [2, 3, 4, 0] rfl)
            · replace hf := i_t hf hc_4
              refine lv_iconst (v := 0) hx hb dX2_isFree_57 (by decide) ?_
              exact rt_zX hx hb hr rfl hf hM hS dX2_isFree_58 hlocks
set_option maxHeartbeats 4000000 in
set_option maxRecDepth 100000 in
theorem c_X2_isFree (l : Launch) (fu nw : Nat) (G : GG) (x x' mo : Me) (a1 : Int32) (a2 : Int32) (r : Int32) (hf : f_X2_isFree fu nw x a1 a2 = some (x', r)) : Met l yX2_isFree [.code yX2_isFree cX2_isFree 5 (some .boolean)] rm_X2_isFree (va_Pc [.ref (ga G 19), .int a1, .int a2] (Pre G nw x mo)) (PI G nw x' mo r) 0 0 (gA G) := by
  refine mt_ofW (cc := cX2_isFree) (maxL := 5) (ret := (some .boolean)) (by decide +kernel) rfl ?_
  intro p e s m args below meth c s₁ B hml hv
  obtain ⟨rfl, hE, hM⟩ := hv
  have hx := B.exec
  have hb := B.bytes
  have hr := B.returns
  have hown : s.vm.findClass RX2 = some m.cls := findClass_of_methodNamed B.named
  have hlocks := B.notSynchronized
  have hS : va_S (gA G) s.heap s.heap [] := va_S.rf
  have hl := lv_entry ([.ref (ga G 19), .int a1, .int a2]) (n := 5) (Nat.le_of_ble_eq_true rfl)
  rw [lg_entry_eq]
  generalize (lg_sl ([.ref (ga G 19), .int a1, .int a2]) ++ List.replicate (5 - (lg_sl ([.ref (ga G 19), .int a1, .int a2])).length) Slot.unset).toArray = ls at hl ⊢
  have hl : lv_has ls 5 [(0, .ref (ga G 19)), (1, .int a1), (2, .int a2)] := hl
  generalize ([.ref (ga G 19), .int a1, .int a2] : List Value).toArray = args
  unfold f_X2_isFree at hf
  refine lv_iconst (v := 0) hx hb dX2_isFree_0 (by decide) ?_
  refine lv_istore_n (lv' := [(3, .int 0), (0, .ref (ga G 19)), (1, .int a1), (2, .int a2)]) hx hb dX2_isFree_1 rfl hl (by decide) rfl (fun ls hl => ?_)
  refine wk_X2_isFree_2 hx hb hml hown hE hr hlocks ?_ fu x 0 _ _ _ hf hM hS (lv_sub hl [1, 2, 3, 0] rfl)
  intro x_9 H locs ls hf hM hS hl
  refine lv_iconst (v := 1) hx hb dX2_isFree_65 (by decide) ?_
  exact rt_zX hx hb hr rfl hf hM hS dX2_isFree_66 hlocks
theorem k_X2_isFree {p : Program} {l : Launch} {e : Env} {R : Room} {s : State} {m : MethodId} {args : Array Value} {below : List Frame} {meth : Method} {c : Code} {H : Heap} {locs : List Loc} {cells slots : Nat} {Q : State → Prop} {cc : ByteArray} {pc nL : Nat} {ls : Array Slot} {rest : List Value} {G : GG} {fu nw : Nat} {x x' mo : Me} {own : String} {index : Nat} {a1 : Int32} {a2 : Int32} {r : Int32} (hx : p.tables.exec = Jvm.exec) (hb : c.code = cc) (hml : c.maxLocals = nL) (hown : s.vm.findClass own = some m.cls) (hE : EnvP G s) (hM : MemP G nw x mo H) (hS : va_S (gA G) s.heap H locs) (hw : Cond.methodLink own index yX2_isFree ∈ lw_tbl) (hf : f_X2_isFree fu nw x a1 a2 = some (x', r)) (h1 : 1 + 1 ≤ R.frames) (h2 : 8 + (5 + 11) + 20 ≤ R.locals) (hsz : ls.size = nL) (hW : (rest.map fun v => v.category).sum ≤ 8) (hcs : cells ≤ R.cells ∧ slots ≤ R.slots) (hdg : decode cc pc = .ok (.invokevirtual index, 3)) (kk : ∀ (H1 : Heap) (locs1 : List Loc), MemP G nw x' mo H1 → va_S (gA G) s.heap H1 locs1 → W p l e R s m args below meth c H1 locs1 cells slots Q (F0 m (pc + 3) ls (.int r :: rest))) : W p l e R s m args below meth c H locs cells slots Q (F0 m pc ls (.int a2 :: .int a1 :: .ref (ga G 19) :: rest)) := mm_ki hS (mm_runV (n := 2) (o := 19) (C := RX2) (T := TX2) (N := 14) (ci := 2) (As := [.int a1, .int a2]) hx hb hml hown hE hM hS (c_X2_isFree l fu nw G x x' mo a1 a2 _ hf) (List.forall_mem_cons.mpr ⟨⟨hw, rfl⟩, List.forall_mem_cons.mpr ⟨⟨w_4_23, rfl⟩, List.forall_mem_cons.mpr ⟨⟨w_0_22, rfl⟩, List.forall_mem_cons.mpr ⟨⟨w_1_7, rfl⟩, List.forall_mem_cons.mpr ⟨⟨w_4_24, rfl⟩, fun _ h => absurd h List.not_mem_nil⟩⟩⟩⟩⟩) rfl rfl ⟨rfl, by decide, by decide, by decide +kernel⟩ ⟨h1, h2⟩ rfl rfl rfl hsz rfl hW hdg hcs) kk
def f_J9_floorMod_7cf53 (fu nw : Nat) (x : Me) (a0 : Int32) (a1 : Int32) : Option (Me × Int32) := if ¬ a1 = 0 then if 0 ≤ (a0 ^^^ a1) then some (x, a0 - a0 / a1 * a1) else if (a0 - a0 / a1 * a1) = 0 then some (x, a0 - a0 / a1 * a1) else some (x, (a0 - a0 / a1 * a1) + a1) else none
def rm_J9_floorMod_7cf53 : Room := { frames := 0, cells := 0, slots := 0, locals := 0 }
set_option maxHeartbeats 4000000 in
set_option maxRecDepth 100000 in
theorem c_J9_floorMod_7cf53 (l : Launch) (fu nw : Nat) (G : GG) (x x' mo : Me) (a0 : Int32) (a1 : Int32) (r : Int32) (hf : f_J9_floorMod_7cf53 fu nw x a0 a1 = some (x', r)) : Met l yJ9_floorMod_7cf53 [.code yJ9_floorMod_7cf53 cJ9_floorMod_7cf53 3 (some .int)] rm_J9_floorMod_7cf53 (va_Pc [.int a0, .int a1] (Pre G nw x mo)) (PI G nw x' mo r) 0 0 (gA G) := by
  refine mt_ofW (cc := cJ9_floorMod_7cf53) (maxL := 3) (ret := (some .int)) (by decide +kernel) rfl ?_
  intro p e s m args below meth c s₁ B hml hv
  obtain ⟨rfl, hE, hM⟩ := hv
  have hx := B.exec
  have hb := B.bytes
  have hr := B.returns
  have hown : s.vm.findClass RJ9 = some m.cls := findClass_of_methodNamed B.named
  have hlocks := B.notSynchronized
  have hS : va_S (gA G) s.heap s.heap [] := va_S.rf
  have hl := lv_entry ([.int a0, .int a1]) (n := 3) (Nat.le_of_ble_eq_true rfl)
  rw [lg_entry_eq]
  generalize (lg_sl ([.int a0, .int a1]) ++ List.replicate (3 - (lg_sl ([.int a0, .int a1])).length) Slot.unset).toArray = ls at hl ⊢
  have hl : lv_has ls 3 [(0, .int a0), (1, .int a1)] := hl
  generalize ([.int a0, .int a1] : List Value).toArray = args
  unfold f_J9_floorMod_7cf53 at hf
  refine lv_iload_n hx hb dJ9_floorMod_7cf53_0 rfl (lv_at hl 0 rfl) ?_
  refine lv_iload_n hx hb dJ9_floorMod_7cf53_1 rfl (lv_at hl 1 rfl) ?_
  obtain ⟨hn_1, hf⟩ := i_n hf
  refine lv_irem hx hb dJ9_floorMod_7cf53_2 hn_1 ?_
  refine lv_istore_n (lv' := [(2, .int (a0 - a0 / a1 * a1)), (0, .int a0), (1, .int a1)]) hx hb dJ9_floorMod_7cf53_3 rfl hl (by decide) rfl (fun ls hl => ?_)
  refine lv_iload_n hx hb dJ9_floorMod_7cf53_4 rfl (lv_at hl 1 rfl) ?_
  refine lv_iload_n hx hb dJ9_floorMod_7cf53_5 rfl (lv_at hl 2 rfl) ?_
  refine lv_ixor hx hb dJ9_floorMod_7cf53_6 ?_
  refine lv_if_ge (tgt := 18) hx hb dJ9_floorMod_7cf53_7 (by decide) (fun hc_3 => ?_) (fun hc_3 => ?_)
  · replace hf := i_t hf hc_3
    refine lv_iload_n hx hb dJ9_floorMod_7cf53_18 rfl (lv_at hl 0 rfl) ?_
    exact rt_iX hx hb hr hf hM hS dJ9_floorMod_7cf53_19 hlocks
  · replace hf := i_f hf hc_3
    refine lv_iload_n hx hb dJ9_floorMod_7cf53_10 rfl (lv_at hl 0 rfl) ?_
    refine lv_if_eq (tgt := 18) hx hb dJ9_floorMod_7cf53_11 (by decide) (fun hc_2 => ?_) (fun hc_2 => ?_)
    · replace hf := i_t hf hc_2
      refine lv_iload_n hx hb dJ9_floorMod_7cf53_18 rfl (lv_at hl 0 rfl) ?_
      exact rt_iX hx hb hr hf hM hS dJ9_floorMod_7cf53_19 hlocks
    · replace hf := i_f hf hc_2
      refine lv_iload_n hx hb dJ9_floorMod_7cf53_14 rfl (lv_at hl 0 rfl) ?_
      refine lv_iload_n hx hb dJ9_floorMod_7cf53_15 rfl (lv_at hl 2 rfl) ?_
      refine lv_iadd hx hb dJ9_floorMod_7cf53_16 ?_
      exact rt_iX hx hb hr hf hM hS dJ9_floorMod_7cf53_17 hlocks
theorem k_J9_floorMod_7cf53 {p : Program} {l : Launch} {e : Env} {R : Room} {s : State} {m : MethodId} {args : Array Value} {below : List Frame} {meth : Method} {c : Code} {H : Heap} {locs : List Loc} {cells slots : Nat} {Q : State → Prop} {cc : ByteArray} {pc nL : Nat} {ls : Array Slot} {rest : List Value} {G : GG} {fu nw : Nat} {x x' mo : Me} {own : String} {index : Nat} {a0 : Int32} {a1 : Int32} {r : Int32} (hx : p.tables.exec = Jvm.exec) (hb : c.code = cc) (hml : c.maxLocals = nL) (hown : s.vm.findClass own = some m.cls) (hE : EnvP G s) (hM : MemP G nw x mo H) (hS : va_S (gA G) s.heap H locs) (hw : Cond.methodLink own index yJ9_floorMod_7cf53 ∈ lw_tbl) (hf : f_J9_floorMod_7cf53 fu nw x a0 a1 = some (x', r)) (h1 : 0 + 1 ≤ R.frames) (h2 : 8 + (3 + 11) + 0 ≤ R.locals) (hsz : ls.size = nL) (hW : (rest.map fun v => v.category).sum ≤ 8) (hcs : cells ≤ R.cells ∧ slots ≤ R.slots) (hdg : decode cc pc = .ok (.invokestatic index, 3)) (kk : ∀ (H1 : Heap) (locs1 : List Loc), MemP G nw x' mo H1 → va_S (gA G) s.heap H1 locs1 → W p l e R s m args below meth c H1 locs1 cells slots Q (F0 m (pc + 3) ls (.int r :: rest))) : W p l e R s m args below meth c H locs cells slots Q (F0 m pc ls (.int a1 :: .int a0 :: rest)) := mm_ki hS (mm_runS (n := 2) (As := [.int a0, .int a1]) hx hb hml hown hE hM hS (c_J9_floorMod_7cf53 l fu nw G x x' mo a0 a1 _ hf) (List.forall_mem_cons.mpr ⟨⟨hw, rfl⟩, List.forall_mem_cons.mpr ⟨⟨w_4_49, rfl⟩, List.forall_mem_cons.mpr ⟨⟨w_1_12, rfl⟩, List.forall_mem_cons.mpr ⟨⟨w_4_50, rfl⟩, fun _ h => absurd h List.not_mem_nil⟩⟩⟩⟩) rfl rfl ⟨by decide, by decide, by decide +kernel⟩ ⟨h1, h2⟩ rfl hsz rfl hW hdg hcs) kk
def f_X2_isBend (fu nw : Nat) (x : Me) (a1 : Int32) : Option (Me × Int32) := jn (fun (x_1 : Me) (s_1 : Int32) => if s_1 < 0 then some (x_1, 0) else if 60 ≤ s_1 then some (x_1, 0) else if inb s_1 60 = true then if (x_1 26 s_1.toNatClampNeg) = 0 then some (x_1, 0) else some (x_1, 1) else none) (fun j_1 => if (x 25 0) ≤ 0 then j_1 x (-1) else ob (f_J9_floorMod_7cf53 fu nw x a1 (x 25 0)) (fun x_6 r_6 => j_1 x_6 r_6))
def rm_X2_isBend : Room := { frames := 1, cells := 0, slots := 0, locals := 22 }
set_option maxHeartbeats 4000000 in
set_option maxRecDepth 100000 in
theorem c_X2_isBend (l : Launch) (fu nw : Nat) (G : GG) (x x' mo : Me) (a1 : Int32) (r : Int32) (hf : f_X2_isBend fu nw x a1 = some (x', r)) : Met l yX2_isBend [.code yX2_isBend cX2_isBend 3 (some .boolean)] rm_X2_isBend (va_Pc [.ref (ga G 19), .int a1] (Pre G nw x mo)) (PI G nw x' mo r) 0 0 (gA G) := by
  refine mt_ofW (cc := cX2_isBend) (maxL := 3) (ret := (some .boolean)) (by decide +kernel) rfl ?_
  intro p e s m args below meth c s₁ B hml hv
  obtain ⟨rfl, hE, hM⟩ := hv
  have hx := B.exec
  have hb := B.bytes
  have hr := B.returns
  have hown : s.vm.findClass RX2 = some m.cls := findClass_of_methodNamed B.named
  have hlocks := B.notSynchronized
  have hS : va_S (gA G) s.heap s.heap [] := va_S.rf
  have hl := lv_entry ([.ref (ga G 19), .int a1]) (n := 3) (Nat.le_of_ble_eq_true rfl)
  rw [lg_entry_eq]
  generalize (lg_sl ([.ref (ga G 19), .int a1]) ++ List.replicate (3 - (lg_sl ([.ref (ga G 19), .int a1])).length) Slot.unset).toArray = ls at hl ⊢
  have hl : lv_has ls 3 [(0, .ref (ga G 19)), (1, .int a1)] := hl
  generalize ([.ref (ga G 19), .int a1] : List Value).toArray = args
  unfold f_X2_isBend at hf
  refine lv_aload_n hx hb dX2_isBend_0 rfl (lv_at hl 0 rfl) ?_
  refine gf_25 hx hb hE hM hown w_1_210 dX2_isBend_1 ?_
  have hj_1 : ∀ (x_1 : Me) (s_1 : Int32) (H : Heap) (locs : List Loc) (ls : Array Slot), jnA hf x_1 s_1 = some (x', r) → MemP G nw x_1 mo H → va_S (gA G) s.heap H locs → lv_has ls 3 [(0, .ref (ga G 19))] → W p l e rm_X2_isBend s m args below meth c H locs 0 0 (MQ below (PI G nw x' mo r) args s 0 0 (gA G)) (F0 m 19 ls [.int s_1]) := by
    intro x_1 s_1 H locs ls hf hM hS hl
    refine lv_istore_n (lv' := [(2, .int s_1), (0, .ref (ga G 19))]) hx hb dX2_isBend_19 rfl hl (by decide) rfl (fun ls hl => ?_)
    refine lv_iload_n hx hb dX2_isBend_20 rfl (lv_at hl 0 rfl) ?_
    refine lv_if_lt (tgt := 43) hx hb dX2_isBend_21 (by decide) (fun hc_5 => ?_) (fun hc_5 => ?_)
    · replace hf := i_t hf hc_5
      refine lv_iconst (v := 0) hx hb dX2_isBend_43 (by decide) ?_
      exact rt_zX hx hb hr rfl hf hM hS dX2_isBend_44 hlocks
    · replace hf := i_f hf hc_5
      refine lv_iload_n hx hb dX2_isBend_24 rfl (lv_at hl 0 rfl) ?_
      refine lv_bipush (v := 60) hx hb dX2_isBend_25 (by decide) ?_
      refine lv_icmp_ge (tgt := 43) hx hb dX2_isBend_27 (by decide) (fun hc_4 => ?_) (fun hc_4 => ?_)
      · replace hf := i_t hf hc_4
        refine lv_iconst (v := 0) hx hb dX2_isBend_43 (by decide) ?_
        exact rt_zX hx hb hr rfl hf hM hS dX2_isBend_44 hlocks
      · replace hf := i_f hf hc_4
        refine lv_aload_n hx hb dX2_isBend_30 rfl (lv_at hl 1 rfl) ?_
        refine gr_20 hx hb hE hM hown w_1_212 dX2_isBend_31 ?_
        refine lv_iload_n hx hb dX2_isBend_34 rfl (lv_at hl 0 rfl) ?_
        obtain ⟨hi_2, hf⟩ := i_n hf
        refine la_20 hx hb hE hM hi_2 dX2_isBend_35 ?_
        refine lv_if_eq (tgt := 43) hx hb dX2_isBend_36 (by decide) (fun hc_3 => ?_) (fun hc_3 => ?_)
        · replace hf := i_t hf hc_3
          refine lv_iconst (v := 0) hx hb dX2_isBend_43 (by decide) ?_
          exact rt_zX hx hb hr rfl hf hM hS dX2_isBend_44 hlocks
        · replace hf := i_f hf hc_3
          refine lv_iconst (v := 1) hx hb dX2_isBend_39 (by decide) ?_
          refine lv_goto (tgt := 44) hx hb dX2_isBend_40 (by decide) ?_
          exact rt_zX hx hb hr rfl hf hM hS dX2_isBend_44 hlocks
  replace hf := jn_use hf
  refine lv_if_le (tgt := 18) hx hb dX2_isBend_4 (by decide) (fun hc_7 => ?_) (fun hc_7 => ?_)
  · replace hf := i_t hf hc_7
    refine lv_iconst (v := (-1)) hx hb dX2_isBend_18 (by decide) ?_
    exact hj_1 x (-1) _ _ _ hf hM hS (lv_sub hl [0] rfl)
  · replace hf := i_f hf hc_7
    refine lv_iload_n hx hb dX2_isBend_7 rfl (lv_at hl 1 rfl) ?_
    refine lv_aload_n hx hb dX2_isBend_8 rfl (lv_at hl 0 rfl) ?_
    refine gf_25 hx hb hE hM hown w_1_210 dX2_isBend_9 ?_
    obtain ⟨x_6, r_6, hq_6, hf⟩ := ob_some hf
    refine k_J9_floorMod_7cf53 hx hb hml hown hE hM hS w_4_48 hq_6 (Nat.le_of_ble_eq_true rfl) (Nat.le_of_ble_eq_true rfl) hl.1 (Nat.le_of_ble_eq_true rfl) ⟨Nat.zero_le _, Nat.zero_le _⟩ dX2_isBend_12 (fun H locs hM hS => ?_)
    refine lv_goto (tgt := 19) hx hb dX2_isBend_15 (by decide) ?_
    exact hj_1 x_6 r_6 _ _ _ hf hM hS (lv_sub hl [0] rfl)
theorem k_X2_isBend {p : Program} {l : Launch} {e : Env} {R : Room} {s : State} {m : MethodId} {args : Array Value} {below : List Frame} {meth : Method} {c : Code} {H : Heap} {locs : List Loc} {cells slots : Nat} {Q : State → Prop} {cc : ByteArray} {pc nL : Nat} {ls : Array Slot} {rest : List Value} {G : GG} {fu nw : Nat} {x x' mo : Me} {own : String} {index : Nat} {a1 : Int32} {r : Int32} (hx : p.tables.exec = Jvm.exec) (hb : c.code = cc) (hml : c.maxLocals = nL) (hown : s.vm.findClass own = some m.cls) (hE : EnvP G s) (hM : MemP G nw x mo H) (hS : va_S (gA G) s.heap H locs) (hw : Cond.methodLink own index yX2_isBend ∈ lw_tbl) (hf : f_X2_isBend fu nw x a1 = some (x', r)) (h1 : 1 + 1 ≤ R.frames) (h2 : 8 + (3 + 11) + 22 ≤ R.locals) (hsz : ls.size = nL) (hW : (rest.map fun v => v.category).sum ≤ 8) (hcs : cells ≤ R.cells ∧ slots ≤ R.slots) (hdg : decode cc pc = .ok (.invokevirtual index, 3)) (kk : ∀ (H1 : Heap) (locs1 : List Loc), MemP G nw x' mo H1 → va_S (gA G) s.heap H1 locs1 → W p l e R s m args below meth c H1 locs1 cells slots Q (F0 m (pc + 3) ls (.int r :: rest))) : W p l e R s m args below meth c H locs cells slots Q (F0 m pc ls (.int a1 :: .ref (ga G 19) :: rest)) := mm_ki hS (mm_runV (n := 1) (o := 19) (C := RX2) (T := TX2) (N := 14) (ci := 2) (As := [.int a1]) hx hb hml hown hE hM hS (c_X2_isBend l fu nw G x x' mo a1 _ hf) (List.forall_mem_cons.mpr ⟨⟨hw, rfl⟩, List.forall_mem_cons.mpr ⟨⟨w_4_46, rfl⟩, List.forall_mem_cons.mpr ⟨⟨w_0_27, rfl⟩, List.forall_mem_cons.mpr ⟨⟨w_1_7, rfl⟩, List.forall_mem_cons.mpr ⟨⟨w_4_47, rfl⟩, fun _ h => absurd h List.not_mem_nil⟩⟩⟩⟩⟩) rfl rfl ⟨rfl, by decide, by decide, by decide +kernel⟩ ⟨h1, h2⟩ rfl rfl rfl hsz rfl hW hdg hcs) kk
def f_X2_fallsHere (fu nw : Nat) (x : Me) (r1 : Nat) : Option (Me × Int32) := if r1 < 10 then ob (f_X2_isBend fu nw x (x 39 r1)) (fun x_2 r_2 => if r_2 = 0 then some (x_2, 0) else if (x_2 42 r1) = 0 then if (x_2 41 r1) ≤ (x_2 32 0) then some (x_2, 0) else ob (f_X0_below_25 fu nw x_2 4) (fun x_3 r_3 => if r_3 = 0 then some (x_3, 1) else some (x_3, 0)) else some (x_2, 0)) else none
def rm_X2_fallsHere : Room := { frames := 2, cells := 0, slots := 0, locals := 44 }
set_option maxHeartbeats 4000000 in
set_option maxRecDepth 100000 in
theorem c_X2_fallsHere (l : Launch) (fu nw : Nat) (G : GG) (x x' mo : Me) (r1 : Nat) (r : Int32) (hf : f_X2_fallsHere fu nw x r1 = some (x', r)) : Met l yX2_fallsHere [.code yX2_fallsHere cX2_fallsHere 2 (some .boolean)] rm_X2_fallsHere (va_Pc [.ref (ga G 19), .ref (ga G (26 + r1))] (Pre G nw x mo)) (PI G nw x' mo r) 0 0 (gA G) := by
  refine mt_ofW (cc := cX2_fallsHere) (maxL := 2) (ret := (some .boolean)) (by decide +kernel) rfl ?_
  intro p e s m args below meth c s₁ B hml hv
  obtain ⟨rfl, hE, hM⟩ := hv
  have hx := B.exec
  have hb := B.bytes
  have hr := B.returns
  have hown : s.vm.findClass RX2 = some m.cls := findClass_of_methodNamed B.named
  have hlocks := B.notSynchronized
  have hS : va_S (gA G) s.heap s.heap [] := va_S.rf
  have hl := lv_entry ([.ref (ga G 19), .ref (ga G (26 + r1))]) (n := 2) (Nat.le_of_ble_eq_true rfl)
  rw [lg_entry_eq]
  generalize (lg_sl ([.ref (ga G 19), .ref (ga G (26 + r1))]) ++ List.replicate (2 - (lg_sl ([.ref (ga G 19), .ref (ga G (26 + r1))])).length) Slot.unset).toArray = ls at hl ⊢
  have hl : lv_has ls 2 [(0, .ref (ga G 19)), (1, .ref (ga G (26 + r1)))] := hl
  generalize ([.ref (ga G 19), .ref (ga G (26 + r1))] : List Value).toArray = args
  unfold f_X2_fallsHere at hf
  obtain ⟨hm_1, hf⟩ := i_n hf
  refine lv_aload_n hx hb dX2_fallsHere_0 rfl (lv_at hl 0 rfl) ?_
  refine lv_aload_n hx hb dX2_fallsHere_1 rfl (lv_at hl 1 rfl) ?_
  refine gf_39N hm_1 hx hb hE hM hown w_1_176 dX2_fallsHere_2 ?_
  obtain ⟨x_2, r_2, hq_2, hf⟩ := ob_some hf
  refine k_X2_isBend hx hb hml hown hE hM hS w_4_44 hq_2 (Nat.le_of_ble_eq_true rfl) (Nat.le_of_ble_eq_true rfl) hl.1 (Nat.le_of_ble_eq_true rfl) ⟨Nat.zero_le _, Nat.zero_le _⟩ dX2_fallsHere_5 (fun H locs hM hS => ?_)
  refine lv_if_eq (tgt := 44) hx hb dX2_fallsHere_8 (by decide) (fun hc_7 => ?_) (fun hc_7 => ?_)
  · replace hf := i_t hf hc_7
    refine lv_iconst (v := 0) hx hb dX2_fallsHere_44 (by decide) ?_
    exact rt_zX hx hb hr rfl hf hM hS dX2_fallsHere_45 hlocks
  · replace hf := i_f hf hc_7
    refine lv_aload_n hx hb dX2_fallsHere_11 rfl (lv_at hl 1 rfl) ?_
    refine gf_42N hm_1 hx hb hE hM hown w_1_185 dX2_fallsHere_12 ?_
    refine lv_if_ne (tgt := 44) hx hb dX2_fallsHere_15 (by decide) (fun hc_6 => ?_) (fun hc_6 => ?_)
    · replace hf := i_f hf hc_6
      refine lv_iconst (v := 0) hx hb dX2_fallsHere_44 (by decide) ?_
      exact rt_zX hx hb hr rfl hf hM hS dX2_fallsHere_45 hlocks
    · replace hf := i_t hf hc_6
      refine lv_aload_n hx hb dX2_fallsHere_18 rfl (lv_at hl 1 rfl) ?_
      refine gf_41N hm_1 hx hb hE hM hown w_1_182 dX2_fallsHere_19 ?_
      refine lv_aload_n hx hb dX2_fallsHere_22 rfl (lv_at hl 0 rfl) ?_
      refine gf_32 hx hb hE hM hown w_1_223 dX2_fallsHere_23 ?_
      refine lv_icmp_le (tgt := 44) hx hb dX2_fallsHere_26 (by decide) (fun hc_5 => ?_) (fun hc_5 => ?_)
      · replace hf := i_t hf hc_5
        refine lv_iconst (v := 0) hx hb dX2_fallsHere_44 (by decide) ?_
        exact rt_zX hx hb hr rfl hf hM hS dX2_fallsHere_45 hlocks
      · replace hf := i_f hf hc_5
        refine lv_aload_n hx hb dX2_fallsHere_29 rfl (lv_at hl 0 rfl) ?_
        refine gr_25 hx hb hE hM hown w_1_221 dX2_fallsHere_30 ?_
        refine lv_iconst (v := 4) hx hb dX2_fallsHere_33 (by decide) ?_
        obtain ⟨x_3, r_3, hq_3, hf⟩ := ob_some hf
        refine k_X0_below_25 hx hb hml hown hE hM hS w_4_34 hq_3 (Nat.le_of_ble_eq_true rfl) (Nat.le_of_ble_eq_true rfl) hl.1 (Nat.le_of_ble_eq_true rfl) ⟨Nat.zero_le _, Nat.zero_le _⟩ dX2_fallsHere_34 (fun H locs hM hS => ?_)
        refine lv_if_ne (tgt := 44) hx hb dX2_fallsHere_37 (by decide) (fun hc_4 => ?_) (fun hc_4 => ?_)
        · replace hf := i_f hf hc_4
          refine lv_iconst (v := 0) hx hb dX2_fallsHere_44 (by decide) ?_
          exact rt_zX hx hb hr rfl hf hM hS dX2_fallsHere_45 hlocks
        · replace hf := i_t hf hc_4
          refine lv_iconst (v := 1) hx hb dX2_fallsHere_40 (by decide) ?_
          refine lv_goto (tgt := 45) hx hb dX2_fallsHere_41 (by decide) ?_
          exact rt_zX hx hb hr rfl hf hM hS dX2_fallsHere_45 hlocks
theorem k_X2_fallsHere {p : Program} {l : Launch} {e : Env} {R : Room} {s : State} {m : MethodId} {args : Array Value} {below : List Frame} {meth : Method} {c : Code} {H : Heap} {locs : List Loc} {cells slots : Nat} {Q : State → Prop} {cc : ByteArray} {pc nL : Nat} {ls : Array Slot} {rest : List Value} {G : GG} {fu nw : Nat} {x x' mo : Me} {own : String} {index : Nat} {r1 : Nat} {r : Int32} (hx : p.tables.exec = Jvm.exec) (hb : c.code = cc) (hml : c.maxLocals = nL) (hown : s.vm.findClass own = some m.cls) (hE : EnvP G s) (hM : MemP G nw x mo H) (hS : va_S (gA G) s.heap H locs) (hw : Cond.methodLink own index yX2_fallsHere ∈ lw_tbl) (hf : f_X2_fallsHere fu nw x r1 = some (x', r)) (h1 : 2 + 1 ≤ R.frames) (h2 : 8 + (2 + 11) + 44 ≤ R.locals) (hsz : ls.size = nL) (hW : (rest.map fun v => v.category).sum ≤ 8) (hcs : cells ≤ R.cells ∧ slots ≤ R.slots) (hdg : decode cc pc = .ok (.invokevirtual index, 3)) (kk : ∀ (H1 : Heap) (locs1 : List Loc), MemP G nw x' mo H1 → va_S (gA G) s.heap H1 locs1 → W p l e R s m args below meth c H1 locs1 cells slots Q (F0 m (pc + 3) ls (.int r :: rest))) : W p l e R s m args below meth c H locs cells slots Q (F0 m pc ls (.ref (ga G (26 + r1)) :: .ref (ga G 19) :: rest)) := mm_ki hS (mm_runV (n := 1) (o := 19) (C := RX2) (T := TX2) (N := 14) (ci := 2) (As := [.ref (ga G (26 + r1))]) hx hb hml hown hE hM hS (c_X2_fallsHere l fu nw G x x' mo r1 _ hf) (List.forall_mem_cons.mpr ⟨⟨hw, rfl⟩, List.forall_mem_cons.mpr ⟨⟨w_4_42, rfl⟩, List.forall_mem_cons.mpr ⟨⟨w_0_26, rfl⟩, List.forall_mem_cons.mpr ⟨⟨w_1_7, rfl⟩, List.forall_mem_cons.mpr ⟨⟨w_4_43, rfl⟩, fun _ h => absurd h List.not_mem_nil⟩⟩⟩⟩⟩) rfl rfl ⟨rfl, by decide, by decide, by decide +kernel⟩ ⟨h1, h2⟩ rfl rfl rfl hsz rfl hW hdg hcs) kk
def f_X2_arrive (fu nw : Nat) (x : Me) (r1 : Nat) : Option (Me × Unit) := if r1 < 10 then if (x 36 0) = (-1) then if (x 33 0) = 0 then if (x 42 r1) = 0 then some ((mu (mu (mu x 43 r1 (x 35 0)) 35 0 ((x 35 0) + 1)) 36 0 (x 37 r1)), ()) else some ((mu (mu x 43 r1 (x 35 0)) 35 0 ((x 35 0) + 1)), ()) else some ((mu (mu (mu x 43 r1 (x 35 0)) 35 0 ((x 35 0) + 1)) 36 0 (x 37 r1)), ()) else some ((mu (mu x 43 r1 (x 35 0)) 35 0 ((x 35 0) + 1)), ()) else none
def rm_X2_arrive : Room := { frames := 0, cells := 0, slots := 0, locals := 0 }
set_option maxHeartbeats 4000000 in
set_option maxRecDepth 100000 in
theorem c_X2_arrive (l : Launch) (fu nw : Nat) (G : GG) (x x' mo : Me) (r1 : Nat) (r : Unit) (hf : f_X2_arrive fu nw x r1 = some (x', r)) : Met l yX2_arrive [.code yX2_arrive cX2_arrive 2 none] rm_X2_arrive (va_Pc [.ref (ga G 19), .ref (ga G (26 + r1))] (Pre G nw x mo)) (PV G nw x' mo) 0 0 (gA G) := by
  refine mt_ofW (cc := cX2_arrive) (maxL := 2) (ret := none) (by decide +kernel) rfl ?_
  intro p e s m args below meth c s₁ B hml hv
  obtain ⟨rfl, hE, hM⟩ := hv
  have hx := B.exec
  have hb := B.bytes
  have hr := B.returns
  have hown : s.vm.findClass RX2 = some m.cls := findClass_of_methodNamed B.named
  have hlocks := B.notSynchronized
  have hS : va_S (gA G) s.heap s.heap [] := va_S.rf
  have hl := lv_entry ([.ref (ga G 19), .ref (ga G (26 + r1))]) (n := 2) (Nat.le_of_ble_eq_true rfl)
  rw [lg_entry_eq]
  generalize (lg_sl ([.ref (ga G 19), .ref (ga G (26 + r1))]) ++ List.replicate (2 - (lg_sl ([.ref (ga G 19), .ref (ga G (26 + r1))])).length) Slot.unset).toArray = ls at hl ⊢
  have hl : lv_has ls 2 [(0, .ref (ga G 19)), (1, .ref (ga G (26 + r1)))] := hl
  generalize ([.ref (ga G 19), .ref (ga G (26 + r1))] : List Value).toArray = args
  unfold f_X2_arrive at hf
  obtain ⟨hm_1, hf⟩ := i_n hf
  refine lv_aload_n hx hb dX2_arrive_0 rfl (lv_at hl 1 rfl) ?_
  refine lv_aload_n hx hb dX2_arrive_1 rfl (lv_at hl 0 rfl) ?_
  refine gf_35 hx hb hE hM hown w_1_227 dX2_arrive_2 ?_
  refine pf_43N hm_1 hx hb hE hM hS hown w_1_188 dX2_arrive_5 (fun H locs hM hS => ?_)
  refine lv_aload_n hx hb dX2_arrive_8 rfl (lv_at hl 0 rfl) ?_
  refine lv_dup hx hb dX2_arrive_9 rfl ?_
  refine gf_35 hx hb hE hM hown w_1_227 dX2_arrive_10 ?_
  refine lv_iconst (v := 1) hx hb dX2_arrive_13 (by decide) ?_
  refine lv_iadd hx hb dX2_arrive_14 ?_
  refine pf_35 hx hb hE hM hS hown w_1_227 dX2_arrive_15 (fun H locs hM hS => ?_)
  refine lv_aload_n hx hb dX2_arrive_18 rfl (lv_at hl 0 rfl) ?_
  refine gf_36 hx hb hE hM hown w_1_228 dX2_arrive_19 ?_
  refine lv_iconst (v := (-1)) hx hb dX2_arrive_22 (by decide) ?_
  refine lv_icmp_ne (tgt := 48) hx hb dX2_arrive_23 (by decide) (fun hc_4 => ?_) (fun hc_4 => ?_)
  · replace hf := i_f hf hc_4
    exact rt_vX hx hb hr hf hM hS dX2_arrive_48 hlocks
  · replace hf := i_t hf hc_4
    refine lv_aload_n hx hb dX2_arrive_26 rfl (lv_at hl 0 rfl) ?_
    refine gf_33 hx hb hE hM hown w_1_224 dX2_arrive_27 ?_
    refine lv_if_ne (tgt := 40) hx hb dX2_arrive_30 (by decide) (fun hc_3 => ?_) (fun hc_3 => ?_)
    · replace hf := i_f hf hc_3
      refine lv_aload_n hx hb dX2_arrive_40 rfl (lv_at hl 0 rfl) ?_
      refine lv_aload_n hx hb dX2_arrive_41 rfl (lv_at hl 1 rfl) ?_
      refine gf_37N hm_1 hx hb hE hM hown w_1_172 dX2_arrive_42 ?_
      refine pf_36 hx hb hE hM hS hown w_1_228 dX2_arrive_45 (fun H locs hM hS => ?_)
      exact rt_vX hx hb hr hf hM hS dX2_arrive_48 hlocks
    · replace hf := i_t hf hc_3
      refine lv_aload_n hx hb dX2_arrive_33 rfl (lv_at hl 1 rfl) ?_
      refine gf_42N hm_1 hx hb hE hM hown w_1_185 dX2_arrive_34 ?_
      refine lv_if_ne (tgt := 48) hx hb dX2_arrive_37 (by decide) (fun hc_2 => ?_) (fun hc_2 => ?_)
      · replace hf := i_f hf hc_2
        exact rt_vX hx hb hr hf hM hS dX2_arrive_48 hlocks
      · replace hf := i_t hf hc_2
        refine lv_aload_n hx hb dX2_arrive_40 rfl (lv_at hl 0 rfl) ?_
        refine lv_aload_n hx hb dX2_arrive_41 rfl (lv_at hl 1 rfl) ?_
        refine gf_37N hm_1 hx hb hE hM hown w_1_172 dX2_arrive_42 ?_
        refine pf_36 hx hb hE hM hS hown w_1_228 dX2_arrive_45 (fun H locs hM hS => ?_)
        exact rt_vX hx hb hr hf hM hS dX2_arrive_48 hlocks
theorem k_X2_arrive {p : Program} {l : Launch} {e : Env} {R : Room} {s : State} {m : MethodId} {args : Array Value} {below : List Frame} {meth : Method} {c : Code} {H : Heap} {locs : List Loc} {cells slots : Nat} {Q : State → Prop} {cc : ByteArray} {pc nL : Nat} {ls : Array Slot} {rest : List Value} {G : GG} {fu nw : Nat} {x x' mo : Me} {own : String} {index : Nat} {r1 : Nat} {r : Unit} (hx : p.tables.exec = Jvm.exec) (hb : c.code = cc) (hml : c.maxLocals = nL) (hown : s.vm.findClass own = some m.cls) (hE : EnvP G s) (hM : MemP G nw x mo H) (hS : va_S (gA G) s.heap H locs) (hw : Cond.methodLink own index yX2_arrive ∈ lw_tbl) (hf : f_X2_arrive fu nw x r1 = some (x', r)) (h1 : 0 + 1 ≤ R.frames) (h2 : 8 + (2 + 11) + 0 ≤ R.locals) (hsz : ls.size = nL) (hW : (rest.map fun v => v.category).sum ≤ 8) (hcs : cells ≤ R.cells ∧ slots ≤ R.slots) (hdg : decode cc pc = .ok (.invokevirtual index, 3)) (kk : ∀ (H1 : Heap) (locs1 : List Loc), MemP G nw x' mo H1 → va_S (gA G) s.heap H1 locs1 → W p l e R s m args below meth c H1 locs1 cells slots Q (F0 m (pc + 3) ls rest)) : W p l e R s m args below meth c H locs cells slots Q (F0 m pc ls (.ref (ga G (26 + r1)) :: .ref (ga G 19) :: rest)) := mm_kv hS (mm_runV (n := 1) (o := 19) (C := RX2) (T := TX2) (N := 14) (ci := 2) (As := [.ref (ga G (26 + r1))]) hx hb hml hown hE hM hS (c_X2_arrive l fu nw G x x' mo r1 _ hf) (List.forall_mem_cons.mpr ⟨⟨hw, rfl⟩, List.forall_mem_cons.mpr ⟨⟨w_4_53, rfl⟩, List.forall_mem_cons.mpr ⟨⟨w_0_28, rfl⟩, List.forall_mem_cons.mpr ⟨⟨w_1_7, rfl⟩, List.forall_mem_cons.mpr ⟨⟨w_4_54, rfl⟩, fun _ h => absurd h List.not_mem_nil⟩⟩⟩⟩⟩) rfl rfl ⟨rfl, by decide, by decide, by decide +kernel⟩ ⟨h1, h2⟩ rfl rfl rfl hsz rfl hW hdg hcs) kk
def f_X2_laneBeside (fu nw : Nat) (x : Me) (a1 : Int32) (a2 : Int32) : Option (Me × Int32) := jn (fun (x_1 : Me) => if 3 ≤ a2 then some (x_1, (-1)) else ob (f_X2_isFree fu nw x_1 a1 (a2 + 1)) (fun x_2 r_2 => if r_2 = 0 then some (x_2, (-1)) else some (x_2, a2 + 1))) (fun j_1 => if a2 ≤ 0 then j_1 x else ob (f_X2_isFree fu nw x a1 (a2 - 1)) (fun x_5 r_5 => if r_5 = 0 then j_1 x_5 else some (x_5, a2 - 1)))
def rm_X2_laneBeside : Room := { frames := 2, cells := 0, slots := 0, locals := 44 }
set_option maxHeartbeats 4000000 in
set_option maxRecDepth 100000 in
theorem c_X2_laneBeside (l : Launch) (fu nw : Nat) (G : GG) (x x' mo : Me) (a1 : Int32) (a2 : Int32) (r : Int32) (hf : f_X2_laneBeside fu nw x a1 a2 = some (x', r)) : Met l yX2_laneBeside [.code yX2_laneBeside cX2_laneBeside 3 (some .int)] rm_X2_laneBeside (va_Pc [.ref (ga G 19), .int a1, .int a2] (Pre G nw x mo)) (PI G nw x' mo r) 0 0 (gA G) := by
  refine mt_ofW (cc := cX2_laneBeside) (maxL := 3) (ret := (some .int)) (by decide +kernel) rfl ?_
  intro p e s m args below meth c s₁ B hml hv
  obtain ⟨rfl, hE, hM⟩ := hv
  have hx := B.exec
  have hb := B.bytes
  have hr := B.returns
  have hown : s.vm.findClass RX2 = some m.cls := findClass_of_methodNamed B.named
  have hlocks := B.notSynchronized
  have hS : va_S (gA G) s.heap s.heap [] := va_S.rf
  have hl := lv_entry ([.ref (ga G 19), .int a1, .int a2]) (n := 3) (Nat.le_of_ble_eq_true rfl)
  rw [lg_entry_eq]
  generalize (lg_sl ([.ref (ga G 19), .int a1, .int a2]) ++ List.replicate (3 - (lg_sl ([.ref (ga G 19), .int a1, .int a2])).length) Slot.unset).toArray = ls at hl ⊢
  have hl : lv_has ls 3 [(0, .ref (ga G 19)), (1, .int a1), (2, .int a2)] := hl
  generalize ([.ref (ga G 19), .int a1, .int a2] : List Value).toArray = args
  unfold f_X2_laneBeside at hf
  refine lv_iload_n hx hb dX2_laneBeside_0 rfl (lv_at hl 2 rfl) ?_
  have hj_1 : ∀ (x_1 : Me) (H : Heap) (locs : List Loc) (ls : Array Slot), jnA hf x_1 = some (x', r) → MemP G nw x_1 mo H → va_S (gA G) s.heap H locs → lv_has ls 3 [(0, .ref (ga G 19)), (1, .int a1), (2, .int a2)] → W p l e rm_X2_laneBeside s m args below meth c H locs 0 0 (MQ below (PI G nw x' mo r) args s 0 0 (gA G)) (F0 m 19 ls []) := by
    intro x_1 H locs ls hf hM hS hl
    refine lv_iload_n hx hb dX2_laneBeside_19 rfl (lv_at hl 2 rfl) ?_
    refine lv_iconst (v := 3) hx hb dX2_laneBeside_20 (by decide) ?_
    refine lv_icmp_ge (tgt := 41) hx hb dX2_laneBeside_21 (by decide) (fun hc_4 => ?_) (fun hc_4 => ?_)
    · replace hf := i_t hf hc_4
      refine lv_iconst (v := (-1)) hx hb dX2_laneBeside_41 (by decide) ?_
      exact rt_iX hx hb hr hf hM hS dX2_laneBeside_42 hlocks
    · replace hf := i_f hf hc_4
      refine lv_aload_n hx hb dX2_laneBeside_24 rfl (lv_at hl 0 rfl) ?_
      refine lv_iload_n hx hb dX2_laneBeside_25 rfl (lv_at hl 1 rfl) ?_
      refine lv_iload_n hx hb dX2_laneBeside_26 rfl (lv_at hl 2 rfl) ?_
      refine lv_iconst (v := 1) hx hb dX2_laneBeside_27 (by decide) ?_
      refine lv_iadd hx hb dX2_laneBeside_28 ?_
      obtain ⟨x_2, r_2, hq_2, hf⟩ := ob_some hf
      refine k_X2_isFree hx hb hml hown hE hM hS w_4_21 hq_2 (Nat.le_of_ble_eq_true rfl) (Nat.le_of_ble_eq_true rfl) hl.1 (Nat.le_of_ble_eq_true rfl) ⟨Nat.zero_le _, Nat.zero_le _⟩ dX2_laneBeside_29 (fun H locs hM hS => ?_)
      refine lv_if_eq (tgt := 41) hx hb dX2_laneBeside_32 (by decide) (fun hc_3 => ?_) (fun hc_3 => ?_)
      · replace hf := i_t hf hc_3
        refine lv_iconst (v := (-1)) hx hb dX2_laneBeside_41 (by decide) ?_
        exact rt_iX hx hb hr hf hM hS dX2_laneBeside_42 hlocks
      · replace hf := i_f hf hc_3
        refine lv_iload_n hx hb dX2_laneBeside_35 rfl (lv_at hl 2 rfl) ?_
        refine lv_iconst (v := 1) hx hb dX2_laneBeside_36 (by decide) ?_
        refine lv_iadd hx hb dX2_laneBeside_37 ?_
        refine lv_goto (tgt := 42) hx hb dX2_laneBeside_38 (by decide) ?_
        exact rt_iX hx hb hr hf hM hS dX2_laneBeside_42 hlocks
  replace hf := jn_use hf
  refine lv_if_le (tgt := 19) hx hb dX2_laneBeside_1 (by decide) (fun hc_7 => ?_) (fun hc_7 => ?_)
  · replace hf := i_t hf hc_7
    exact hj_1 x _ _ _ hf hM hS (lv_sub hl [0, 1, 2] rfl)
  · replace hf := i_f hf hc_7
    refine lv_aload_n hx hb dX2_laneBeside_4 rfl (lv_at hl 0 rfl) ?_
    refine lv_iload_n hx hb dX2_laneBeside_5 rfl (lv_at hl 1 rfl) ?_
    refine lv_iload_n hx hb dX2_laneBeside_6 rfl (lv_at hl 2 rfl) ?_
    refine lv_iconst (v := 1) hx hb dX2_laneBeside_7 (by decide) ?_
    refine lv_isub hx hb dX2_laneBeside_8 ?_
    obtain ⟨x_5, r_5, hq_5, hf⟩ := ob_some hf
    refine k_X2_isFree hx hb hml hown hE hM hS w_4_21 hq_5 (Nat.le_of_ble_eq_true rfl) (Nat.le_of_ble_eq_true rfl) hl.1 (Nat.le_of_ble_eq_true rfl) ⟨Nat.zero_le _, Nat.zero_le _⟩ dX2_laneBeside_9 (fun H locs hM hS => ?_)
    refine lv_if_eq (tgt := 19) hx hb dX2_laneBeside_12 (by decide) (fun hc_6 => ?_) (fun hc_6 => ?_)
    · replace hf := i_t hf hc_6
      exact hj_1 x_5 _ _ _ hf hM hS (lv_sub hl [0, 1, 2] rfl)
    · replace hf := i_f hf hc_6
      refine lv_iload_n hx hb dX2_laneBeside_15 rfl (lv_at hl 2 rfl) ?_
      refine lv_iconst (v := 1) hx hb dX2_laneBeside_16 (by decide) ?_
      refine lv_isub hx hb dX2_laneBeside_17 ?_
      exact rt_iX hx hb hr hf hM hS dX2_laneBeside_18 hlocks
theorem k_X2_laneBeside {p : Program} {l : Launch} {e : Env} {R : Room} {s : State} {m : MethodId} {args : Array Value} {below : List Frame} {meth : Method} {c : Code} {H : Heap} {locs : List Loc} {cells slots : Nat} {Q : State → Prop} {cc : ByteArray} {pc nL : Nat} {ls : Array Slot} {rest : List Value} {G : GG} {fu nw : Nat} {x x' mo : Me} {own : String} {index : Nat} {a1 : Int32} {a2 : Int32} {r : Int32} (hx : p.tables.exec = Jvm.exec) (hb : c.code = cc) (hml : c.maxLocals = nL) (hown : s.vm.findClass own = some m.cls) (hE : EnvP G s) (hM : MemP G nw x mo H) (hS : va_S (gA G) s.heap H locs) (hw : Cond.methodLink own index yX2_laneBeside ∈ lw_tbl) (hf : f_X2_laneBeside fu nw x a1 a2 = some (x', r)) (h1 : 2 + 1 ≤ R.frames) (h2 : 8 + (3 + 11) + 44 ≤ R.locals) (hsz : ls.size = nL) (hW : (rest.map fun v => v.category).sum ≤ 8) (hcs : cells ≤ R.cells ∧ slots ≤ R.slots) (hdg : decode cc pc = .ok (.invokevirtual index, 3)) (kk : ∀ (H1 : Heap) (locs1 : List Loc), MemP G nw x' mo H1 → va_S (gA G) s.heap H1 locs1 → W p l e R s m args below meth c H1 locs1 cells slots Q (F0 m (pc + 3) ls (.int r :: rest))) : W p l e R s m args below meth c H locs cells slots Q (F0 m pc ls (.int a2 :: .int a1 :: .ref (ga G 19) :: rest)) := mm_ki hS (mm_runV (n := 2) (o := 19) (C := RX2) (T := TX2) (N := 14) (ci := 2) (As := [.int a1, .int a2]) hx hb hml hown hE hM hS (c_X2_laneBeside l fu nw G x x' mo a1 a2 _ hf) (List.forall_mem_cons.mpr ⟨⟨hw, rfl⟩, List.forall_mem_cons.mpr ⟨⟨w_4_27, rfl⟩, List.forall_mem_cons.mpr ⟨⟨w_0_23, rfl⟩, List.forall_mem_cons.mpr ⟨⟨w_1_7, rfl⟩, List.forall_mem_cons.mpr ⟨⟨w_4_28, rfl⟩, fun _ h => absurd h List.not_mem_nil⟩⟩⟩⟩⟩) rfl rfl ⟨rfl, by decide, by decide, by decide +kernel⟩ ⟨h1, h2⟩ rfl rfl rfl hsz rfl hW hdg hcs) kk
def f_X2_stepOn (fu nw : Nat) (x : Me) (r1 : Nat) : Option (Me × Int32) := if r1 < 10 then ob (f_X2_isFree fu nw x ((x 39 r1) + 1) (x 40 r1)) (fun x_2 r_2 => jn (fun (x_3 : Me) (s_3 : Int32) => if s_3 = (-1) then some ((mu (mu x_3 41 r1 0) 44 r1 ((x_3 44 r1) + 1)), 0) else ob (f_X2_fallsHere fu nw (mu (mu x_3 39 r1 ((x 39 r1) + 1)) 40 r1 s_3) r1) (fun x_4 r_4 => jn (fun (x_5 : Me) => if ((x 39 r1) + 1) = ((x_5 31 0) * (x_5 25 0)) then ob (f_X2_arrive fu nw x_5 r1) (fun x_7 _ => some (x_7, 0)) else if r_4 = 0 then some (x_5, 1) else some (x_5, 0)) (fun j_5 => if r_4 = 0 then j_5 x_4 else j_5 (mu (mu x_4 42 r1 1) 41 r1 1)))) (fun j_3 => if r_2 = 0 then ob (f_X2_laneBeside fu nw x_2 ((x 39 r1) + 1) (x_2 40 r1)) (fun x_11 r_11 => j_3 x_11 r_11) else j_3 x_2 (x_2 40 r1))) else none
def rm_X2_stepOn : Room := { frames := 3, cells := 0, slots := 0, locals := 66 }
set_option maxHeartbeats 4000000 in
set_option maxRecDepth 100000 in
theorem c_X2_stepOn (l : Launch) (fu nw : Nat) (G : GG) (x x' mo : Me) (r1 : Nat) (r : Int32) (hf : f_X2_stepOn fu nw x r1 = some (x', r)) : Met l yX2_stepOn [.code yX2_stepOn cX2_stepOn 5 (some .boolean)] rm_X2_stepOn (va_Pc [.ref (ga G 19), .ref (ga G (26 + r1))] (Pre G nw x mo)) (PI G nw x' mo r) 0 0 (gA G) := by
  refine mt_ofW (cc := cX2_stepOn) (maxL := 5) (ret := (some .boolean)) (by decide +kernel) rfl ?_
  intro p e s m args below meth c s₁ B hml hv
  obtain ⟨rfl, hE, hM⟩ := hv
  have hx := B.exec
  have hb := B.bytes
  have hr := B.returns
  have hown : s.vm.findClass RX2 = some m.cls := findClass_of_methodNamed B.named
  have hlocks := B.notSynchronized
  have hS : va_S (gA G) s.heap s.heap [] := va_S.rf
  have hl := lv_entry ([.ref (ga G 19), .ref (ga G (26 + r1))]) (n := 5) (Nat.le_of_ble_eq_true rfl)
  rw [lg_entry_eq]
  generalize (lg_sl ([.ref (ga G 19), .ref (ga G (26 + r1))]) ++ List.replicate (5 - (lg_sl ([.ref (ga G 19), .ref (ga G (26 + r1))])).length) Slot.unset).toArray = ls at hl ⊢
  have hl : lv_has ls 5 [(0, .ref (ga G 19)), (1, .ref (ga G (26 + r1)))] := hl
  generalize ([.ref (ga G 19), .ref (ga G (26 + r1))] : List Value).toArray = args
  unfold f_X2_stepOn at hf
  obtain ⟨hm_1, hf⟩ := i_n hf
  refine lv_aload_n hx hb dX2_stepOn_0 rfl (lv_at hl 1 rfl) ?_
  refine gf_39N hm_1 hx hb hE hM hown w_1_176 dX2_stepOn_1 ?_
  refine lv_iconst (v := 1) hx hb dX2_stepOn_4 (by decide) ?_
  refine lv_iadd hx hb dX2_stepOn_5 ?_
  refine lv_istore_n (lv' := [(2, .int ((x 39 r1) + 1)), (0, .ref (ga G 19)), (1, .ref (ga G (26 + r1)))]) hx hb dX2_stepOn_6 rfl hl (by decide) rfl (fun ls hl => ?_)
  refine lv_aload_n hx hb dX2_stepOn_7 rfl (lv_at hl 1 rfl) ?_
  refine lv_iload_n hx hb dX2_stepOn_8 rfl (lv_at hl 0 rfl) ?_
  refine lv_aload_n hx hb dX2_stepOn_9 rfl (lv_at hl 2 rfl) ?_
  refine gf_40N hm_1 hx hb hE hM hown w_1_179 dX2_stepOn_10 ?_
  obtain ⟨x_2, r_2, hq_2, hf⟩ := ob_some hf
  refine k_X2_isFree hx hb hml hown hE hM hS w_4_21 hq_2 (Nat.le_of_ble_eq_true rfl) (Nat.le_of_ble_eq_true rfl) hl.1 (Nat.le_of_ble_eq_true rfl) ⟨Nat.zero_le _, Nat.zero_le _⟩ dX2_stepOn_13 (fun H locs hM hS => ?_)
  have hj_3 : ∀ (x_3 : Me) (s_3 : Int32) (H : Heap) (locs : List Loc) (ls : Array Slot), jnA hf x_3 s_3 = some (x', r) → MemP G nw x_3 mo H → va_S (gA G) s.heap H locs → lv_has ls 5 [(0, .ref (ga G 19)), (1, .ref (ga G (26 + r1))), (2, .int ((x 39 r1) + 1))] → W p l e rm_X2_stepOn s m args below meth c H locs 0 0 (MQ below (PI G nw x' mo r) args s 0 0 (gA G)) (F0 m 35 ls [.int s_3]) := by
    intro x_3 s_3 H locs ls hf hM hS hl
    refine lv_istore_n (lv' := [(3, .int s_3), (0, .ref (ga G 19)), (1, .ref (ga G (26 + r1))), (2, .int ((x 39 r1) + 1))]) hx hb dX2_stepOn_35 rfl hl (by decide) rfl (fun ls hl => ?_)
    refine lv_iload_n hx hb dX2_stepOn_36 rfl (lv_at hl 0 rfl) ?_
    refine lv_iconst (v := (-1)) hx hb dX2_stepOn_37 (by decide) ?_
    refine lv_icmp_ne (tgt := 58) hx hb dX2_stepOn_38 (by decide) (fun hc_10 => ?_) (fun hc_10 => ?_)
    · replace hf := i_f hf hc_10
      refine lv_aload_n hx hb dX2_stepOn_58 rfl (lv_at hl 2 rfl) ?_
      refine lv_iload_n hx hb dX2_stepOn_59 rfl (lv_at hl 3 rfl) ?_
      refine pf_39N hm_1 hx hb hE hM hS hown w_1_176 dX2_stepOn_60 (fun H locs hM hS => ?_)
      refine lv_aload_n hx hb dX2_stepOn_63 rfl (lv_at hl 2 rfl) ?_
      refine lv_iload_n hx hb dX2_stepOn_64 rfl (lv_at hl 0 rfl) ?_
      refine pf_40N hm_1 hx hb hE hM hS hown w_1_179 dX2_stepOn_65 (fun H locs hM hS => ?_)
      refine lv_aload_n hx hb dX2_stepOn_68 rfl (lv_at hl 1 rfl) ?_
      refine lv_aload_n hx hb dX2_stepOn_69 rfl (lv_at hl 2 rfl) ?_
      obtain ⟨x_4, r_4, hq_4, hf⟩ := ob_some hf
      refine k_X2_fallsHere hx hb hml hown hE hM hS w_4_40 hq_4 (Nat.le_of_ble_eq_true rfl) (Nat.le_of_ble_eq_true rfl) hl.1 (Nat.le_of_ble_eq_true rfl) ⟨Nat.zero_le _, Nat.zero_le _⟩ dX2_stepOn_70 (fun H locs hM hS => ?_)
      refine lv_istore (lv' := [(4, .int r_4), (3, .int s_3), (0, .ref (ga G 19)), (1, .ref (ga G (26 + r1))), (2, .int ((x 39 r1) + 1))]) hx hb dX2_stepOn_73 hl (by decide) rfl (fun ls hl => ?_)
      refine lv_iload hx hb dX2_stepOn_75 (lv_at hl 0 rfl) ?_
      have hj_5 : ∀ (x_5 : Me) (H : Heap) (locs : List Loc) (ls : Array Slot), jnA hf x_5 = some (x', r) → MemP G nw x_5 mo H → va_S (gA G) s.heap H locs → lv_has ls 5 [(0, .ref (ga G 19)), (1, .ref (ga G (26 + r1))), (2, .int ((x 39 r1) + 1)), (4, .int r_4)] → W p l e rm_X2_stepOn s m args below meth c H locs 0 0 (MQ below (PI G nw x' mo r) args s 0 0 (gA G)) (F0 m 90 ls []) := by
        intro x_5 H locs ls hf hM hS hl
        refine lv_iload_n hx hb dX2_stepOn_90 rfl (lv_at hl 2 rfl) ?_
        refine lv_aload_n hx hb dX2_stepOn_91 rfl (lv_at hl 0 rfl) ?_
        refine gf_31 hx hb hE hM hown w_1_222 dX2_stepOn_92 ?_
        refine lv_aload_n hx hb dX2_stepOn_95 rfl (lv_at hl 0 rfl) ?_
        refine gf_25 hx hb hE hM hown w_1_210 dX2_stepOn_96 ?_
        refine lv_imul hx hb dX2_stepOn_99 ?_
        refine lv_icmp_ne (tgt := 110) hx hb dX2_stepOn_100 (by decide) (fun hc_8 => ?_) (fun hc_8 => ?_)
        · replace hf := i_f hf hc_8
          refine lv_iload hx hb dX2_stepOn_110 (lv_at hl 3 rfl) ?_
          refine lv_if_ne (tgt := 119) hx hb dX2_stepOn_112 (by decide) (fun hc_6 => ?_) (fun hc_6 => ?_)
          · replace hf := i_f hf hc_6
            refine lv_iconst (v := 0) hx hb dX2_stepOn_119 (by decide) ?_
            exact rt_zX hx hb hr rfl hf hM hS dX2_stepOn_120 hlocks
          · replace hf := i_t hf hc_6
            refine lv_iconst (v := 1) hx hb dX2_stepOn_115 (by decide) ?_
            refine lv_goto (tgt := 120) hx hb dX2_stepOn_116 (by decide) ?_
            exact rt_zX hx hb hr rfl hf hM hS dX2_stepOn_120 hlocks
        · replace hf := i_t hf hc_8
          refine lv_aload_n hx hb dX2_stepOn_103 rfl (lv_at hl 0 rfl) ?_
          refine lv_aload_n hx hb dX2_stepOn_104 rfl (lv_at hl 1 rfl) ?_
          obtain ⟨x_7, r_7, hq_7, hf⟩ := ob_some hf
          refine k_X2_arrive hx hb hml hown hE hM hS w_4_51 hq_7 (Nat.le_of_ble_eq_true rfl) (Nat.le_of_ble_eq_true rfl) hl.1 (Nat.le_of_ble_eq_true rfl) ⟨Nat.zero_le _, Nat.zero_le _⟩ dX2_stepOn_105 (fun H locs hM hS => ?_)
          refine lv_iconst (v := 0) hx hb dX2_stepOn_108 (by decide) ?_
          exact rt_zX hx hb hr rfl hf hM hS dX2_stepOn_109 hlocks
      replace hf := jn_use hf
      refine lv_if_eq (tgt := 90) hx hb dX2_stepOn_77 (by decide) (fun hc_9 => ?_) (fun hc_9 => ?_)
      · replace hf := i_t hf hc_9
        exact hj_5 x_4 _ _ _ hf hM hS (lv_sub hl [2, 3, 4, 0] rfl)
      · replace hf := i_f hf hc_9
        refine lv_aload_n hx hb dX2_stepOn_80 rfl (lv_at hl 3 rfl) ?_
        refine lv_iconst (v := 1) hx hb dX2_stepOn_81 (by decide) ?_
        refine pf_42N hm_1 hx hb hE hM hS hown rfl rfl w_1_185 dX2_stepOn_82 (fun H locs hM hS => ?_)
        refine lv_aload_n hx hb dX2_stepOn_85 rfl (lv_at hl 3 rfl) ?_
        refine lv_iconst (v := 1) hx hb dX2_stepOn_86 (by decide) ?_
        refine pf_41N hm_1 hx hb hE hM hS hown w_1_182 dX2_stepOn_87 (fun H locs hM hS => ?_)
        exact hj_5 (mu (mu x_4 42 r1 1) 41 r1 1) _ _ _ hf hM hS (lv_sub hl [2, 3, 4, 0] rfl)
    · replace hf := i_t hf hc_10
      refine lv_aload_n hx hb dX2_stepOn_41 rfl (lv_at hl 2 rfl) ?_
      refine lv_iconst (v := 0) hx hb dX2_stepOn_42 (by decide) ?_
      refine pf_41N hm_1 hx hb hE hM hS hown w_1_182 dX2_stepOn_43 (fun H locs hM hS => ?_)
      refine lv_aload_n hx hb dX2_stepOn_46 rfl (lv_at hl 2 rfl) ?_
      refine lv_dup hx hb dX2_stepOn_47 rfl ?_
      refine gf_44N hm_1 hx hb hE hM hown w_1_191 dX2_stepOn_48 ?_
      refine lv_iconst (v := 1) hx hb dX2_stepOn_51 (by decide) ?_
      refine lv_iadd hx hb dX2_stepOn_52 ?_
      refine pf_44N hm_1 hx hb hE hM hS hown w_1_191 dX2_stepOn_53 (fun H locs hM hS => ?_)
      refine lv_iconst (v := 0) hx hb dX2_stepOn_56 (by decide) ?_
      exact rt_zX hx hb hr rfl hf hM hS dX2_stepOn_57 hlocks
  replace hf := jn_use hf
  refine lv_if_eq (tgt := 26) hx hb dX2_stepOn_16 (by decide) (fun hc_12 => ?_) (fun hc_12 => ?_)
  · replace hf := i_t hf hc_12
    refine lv_aload_n hx hb dX2_stepOn_26 rfl (lv_at hl 1 rfl) ?_
    refine lv_iload_n hx hb dX2_stepOn_27 rfl (lv_at hl 0 rfl) ?_
    refine lv_aload_n hx hb dX2_stepOn_28 rfl (lv_at hl 2 rfl) ?_
    refine gf_40N hm_1 hx hb hE hM hown w_1_179 dX2_stepOn_29 ?_
    obtain ⟨x_11, r_11, hq_11, hf⟩ := ob_some hf
    refine k_X2_laneBeside hx hb hml hown hE hM hS w_4_25 hq_11 (Nat.le_of_ble_eq_true rfl) (Nat.le_of_ble_eq_true rfl) hl.1 (Nat.le_of_ble_eq_true rfl) ⟨Nat.zero_le _, Nat.zero_le _⟩ dX2_stepOn_32 (fun H locs hM hS => ?_)
    exact hj_3 x_11 r_11 _ _ _ hf hM hS (lv_sub hl [1, 2, 0] rfl)
  · replace hf := i_f hf hc_12
    refine lv_aload_n hx hb dX2_stepOn_19 rfl (lv_at hl 2 rfl) ?_
    refine gf_40N hm_1 hx hb hE hM hown w_1_179 dX2_stepOn_20 ?_
    refine lv_goto (tgt := 35) hx hb dX2_stepOn_23 (by decide) ?_
    exact hj_3 x_2 (x_2 40 r1) _ _ _ hf hM hS (lv_sub hl [1, 2, 0] rfl)
theorem k_X2_stepOn {p : Program} {l : Launch} {e : Env} {R : Room} {s : State} {m : MethodId} {args : Array Value} {below : List Frame} {meth : Method} {c : Code} {H : Heap} {locs : List Loc} {cells slots : Nat} {Q : State → Prop} {cc : ByteArray} {pc nL : Nat} {ls : Array Slot} {rest : List Value} {G : GG} {fu nw : Nat} {x x' mo : Me} {own : String} {index : Nat} {r1 : Nat} {r : Int32} (hx : p.tables.exec = Jvm.exec) (hb : c.code = cc) (hml : c.maxLocals = nL) (hown : s.vm.findClass own = some m.cls) (hE : EnvP G s) (hM : MemP G nw x mo H) (hS : va_S (gA G) s.heap H locs) (hw : Cond.methodLink own index yX2_stepOn ∈ lw_tbl) (hf : f_X2_stepOn fu nw x r1 = some (x', r)) (h1 : 3 + 1 ≤ R.frames) (h2 : 8 + (5 + 11) + 66 ≤ R.locals) (hsz : ls.size = nL) (hW : (rest.map fun v => v.category).sum ≤ 8) (hcs : cells ≤ R.cells ∧ slots ≤ R.slots) (hdg : decode cc pc = .ok (.invokevirtual index, 3)) (kk : ∀ (H1 : Heap) (locs1 : List Loc), MemP G nw x' mo H1 → va_S (gA G) s.heap H1 locs1 → W p l e R s m args below meth c H1 locs1 cells slots Q (F0 m (pc + 3) ls (.int r :: rest))) : W p l e R s m args below meth c H locs cells slots Q (F0 m pc ls (.ref (ga G (26 + r1)) :: .ref (ga G 19) :: rest)) := mm_ki hS (mm_runV (n := 1) (o := 19) (C := RX2) (T := TX2) (N := 14) (ci := 2) (As := [.ref (ga G (26 + r1))]) hx hb hml hown hE hM hS (c_X2_stepOn l fu nw G x x' mo r1 _ hf) (List.forall_mem_cons.mpr ⟨⟨hw, rfl⟩, List.forall_mem_cons.mpr ⟨⟨w_4_38, rfl⟩, List.forall_mem_cons.mpr ⟨⟨w_0_25, rfl⟩, List.forall_mem_cons.mpr ⟨⟨w_1_7, rfl⟩, List.forall_mem_cons.mpr ⟨⟨w_4_39, rfl⟩, fun _ h => absurd h List.not_mem_nil⟩⟩⟩⟩⟩) rfl rfl ⟨rfl, by decide, by decide, by decide +kernel⟩ ⟨h1, h2⟩ rfl rfl rfl hsz rfl hW hdg hcs) kk
def f_X2_followOrders (fu nw : Nat) (x : Me) (r1 : Nat) : Option (Me × Unit) := if r1 < 10 then jn (fun (x_2 : Me) (s_2 : Int32) => if s_2 = 0 then some (x_2, ()) else if inb (x_2 37 r1) 17 = true then ob (f_X2_find fu nw x_2 (x_2 28 ((x_2 37 r1).toNatClampNeg))) (fun x_4 r_4 => om r_4 (some (x_4, ())) (fun m_4 => if m_4 < 10 then ob (f_X4_onRing fu nw x_4 m_4) (fun x_5 r_5 => if r_5 = 0 then some (x_5, ()) else ob (f_X4_isCloseAheadOf fu nw x_5 r1 m_4) (fun x_6 r_6 => if r_6 = 0 then some (x_6, ()) else jn (fun (x_7 : Me) (a4_7 : Int32) => if a4_7 = (-1) then some (x_7, ()) else some ((mu x_7 40 r1 a4_7), ())) (fun j_7 => jn (fun (x_9 : Me) (a4_9 : Int32) => if s_2 = 2 then if a4_9 = (x_9 40 m_4) then ob (f_X2_laneBeside fu nw x_9 (x_9 39 r1) a4_9) (fun x_10 r_10 => j_7 x_10 r_10) else j_7 x_9 a4_9 else j_7 x_9 a4_9) (fun j_9 => if s_2 = 1 then if (if 0 ≤ ((x_6 40 r1) - (x_6 40 m_4)) then ((x_6 40 r1) - (x_6 40 m_4)) else 0 - ((x_6 40 r1) - (x_6 40 m_4))) = 1 then ob (f_X2_isFree fu nw x_6 (x_6 39 r1) (x_6 40 m_4)) (fun x_13 r_13 => if r_13 = 0 then j_9 x_13 (x_6 40 r1) else j_7 x_13 (x_13 40 m_4)) else j_9 x_6 (x_6 40 r1) else j_9 x_6 (x_6 40 r1))))) else none)) else none) (fun j_2 => jn (fun (x_20 : Me) => j_2 x_20 0) (fun j_20 => if (x 37 r1) < 0 then j_20 x else if 17 ≤ (x 37 r1) then j_20 x else if inb (x 37 r1) 17 = true then j_2 x (x 27 ((x 37 r1).toNatClampNeg)) else none)) else none
def rm_X2_followOrders : Room := { frames := 3, cells := 0, slots := 0, locals := 66 }
set_option maxHeartbeats 4000000 in
set_option maxRecDepth 100000 in
theorem c_X2_followOrders (l : Launch) (fu nw : Nat) (G : GG) (x x' mo : Me) (r1 : Nat) (r : Unit) (hf : f_X2_followOrders fu nw x r1 = some (x', r)) : Met l yX2_followOrders [.code yX2_followOrders cX2_followOrders 5 none] rm_X2_followOrders (va_Pc [.ref (ga G 19), .ref (ga G (26 + r1))] (Pre G nw x mo)) (PV G nw x' mo) 0 0 (gA G) := by
  refine mt_ofW (cc := cX2_followOrders) (maxL := 5) (ret := none) (by decide +kernel) rfl ?_
  intro p e s m args below meth c s₁ B hml hv
  obtain ⟨rfl, hE, hM⟩ := hv
  have hx := B.exec
  have hb := B.bytes
  have hr := B.returns
  have hown : s.vm.findClass RX2 = some m.cls := findClass_of_methodNamed B.named
  have hlocks := B.notSynchronized
  have hS : va_S (gA G) s.heap s.heap [] := va_S.rf
  have hl := lv_entry ([.ref (ga G 19), .ref (ga G (26 + r1))]) (n := 5) (Nat.le_of_ble_eq_true rfl)
  rw [lg_entry_eq]
  generalize (lg_sl ([.ref (ga G 19), .ref (ga G (26 + r1))]) ++ List.replicate (5 - (lg_sl ([.ref (ga G 19), .ref (ga G (26 + r1))])).length) Slot.unset).toArray = ls at hl ⊢
  have hl : lv_has ls 5 [(0, .ref (ga G 19)), (1, .ref (ga G (26 + r1)))] := hl
  generalize ([.ref (ga G 19), .ref (ga G (26 + r1))] : List Value).toArray = args
  unfold f_X2_followOrders at hf
  obtain ⟨hm_1, hf⟩ := i_n hf
  refine lv_aload_n hx hb dX2_followOrders_0 rfl (lv_at hl 1 rfl) ?_
  refine gf_37N hm_1 hx hb hE hM hown w_1_172 dX2_followOrders_1 ?_
  have hj_2 : ∀ (x_2 : Me) (s_2 : Int32) (H : Heap) (locs : List Loc) (ls : Array Slot), jnA hf x_2 s_2 = some (x', r) → MemP G nw x_2 mo H → va_S (gA G) s.heap H locs → lv_has ls 5 [(0, .ref (ga G 19)), (1, .ref (ga G (26 + r1)))] → W p l e rm_X2_followOrders s m args below meth c H locs 0 0 (MQ below (PV G nw x' mo) args s 0 0 (gA G)) (F0 m 29 ls [.int s_2]) := by
    intro x_2 s_2 H locs ls hf hM hS hl
    refine lv_istore_n (lv' := [(2, .int s_2), (0, .ref (ga G 19)), (1, .ref (ga G (26 + r1)))]) hx hb dX2_followOrders_29 rfl hl (by decide) rfl (fun ls hl => ?_)
    refine lv_iload_n hx hb dX2_followOrders_30 rfl (lv_at hl 0 rfl) ?_
    refine lv_if_ne (tgt := 38) hx hb dX2_followOrders_31 (by decide) (fun hc_19 => ?_) (fun hc_19 => ?_)
    · replace hf := i_f hf hc_19
      refine lv_aload_n hx hb dX2_followOrders_38 rfl (lv_at hl 1 rfl) ?_
      refine lv_aload_n hx hb dX2_followOrders_39 rfl (lv_at hl 1 rfl) ?_
      refine gr_22 hx hb hE hM hown w_1_216 dX2_followOrders_40 ?_
      refine lv_aload_n hx hb dX2_followOrders_43 rfl (lv_at hl 2 rfl) ?_
      refine gf_37N hm_1 hx hb hE hM hown w_1_172 dX2_followOrders_44 ?_
      obtain ⟨hi_3, hf⟩ := i_n hf
      refine la_22 hx hb hE hM hi_3 dX2_followOrders_47 ?_
      obtain ⟨x_4, r_4, hq_4, hf⟩ := ob_some hf
      refine k_X2_find hx hb hml hown hE hM hS w_4_10 hq_4 (Nat.le_of_ble_eq_true rfl) (Nat.le_of_ble_eq_true rfl) hl.1 (Nat.le_of_ble_eq_true rfl) ⟨Nat.zero_le _, Nat.zero_le _⟩ dX2_followOrders_48 (fun h_4 H locs hM hS => ?_) (fun m_4 h_4 H locs hM hS => ?_)
      · subst h_4
        replace hf := om_n hf
        refine lv_astore_nN (lv' := [(3, .null), (2, .int s_2), (0, .ref (ga G 19)), (1, .ref (ga G (26 + r1)))]) hx hb dX2_followOrders_51 rfl hl (by decide) rfl (fun ls hl => ?_)
        refine lv_aload_nN hx hb dX2_followOrders_52 rfl (lv_at hl 0 rfl) ?_
        refine lv_ifnullN (tgt := 71) hx hb dX2_followOrders_53 (by decide) ?_
        exact rt_vX hx hb hr hf hM hS dX2_followOrders_71 hlocks
      · subst h_4
        replace hf := om_s hf
        obtain ⟨hm_4, hf⟩ := i_n hf
        refine lv_astore_n (lv' := [(3, .ref (ga G (26 + m_4))), (2, .int s_2), (0, .ref (ga G 19)), (1, .ref (ga G (26 + r1)))]) hx hb dX2_followOrders_51 rfl hl (by decide) rfl (fun ls hl => ?_)
        refine lv_aload_n hx hb dX2_followOrders_52 rfl (lv_at hl 0 rfl) ?_
        refine lv_ifnull hx hb dX2_followOrders_53 ?_
        refine lv_aload_n hx hb dX2_followOrders_56 rfl (lv_at hl 0 rfl) ?_
        obtain ⟨x_5, r_5, hq_5, hf⟩ := ob_some hf
        refine k_X4_onRing hm_4 hx hb hml hown hE hM hS w_3_230 hq_5 (Nat.le_of_ble_eq_true rfl) (Nat.le_of_ble_eq_true rfl) hl.1 (Nat.le_of_ble_eq_true rfl) ⟨Nat.zero_le _, Nat.zero_le _⟩ dX2_followOrders_57 (fun H locs hM hS => ?_)
        refine lv_if_eq (tgt := 71) hx hb dX2_followOrders_60 (by decide) (fun hc_18 => ?_) (fun hc_18 => ?_)
        · replace hf := i_t hf hc_18
          exact rt_vX hx hb hr hf hM hS dX2_followOrders_71 hlocks
        · replace hf := i_f hf hc_18
          refine lv_aload_n hx hb dX2_followOrders_63 rfl (lv_at hl 3 rfl) ?_
          refine lv_aload_n hx hb dX2_followOrders_64 rfl (lv_at hl 0 rfl) ?_
          obtain ⟨x_6, r_6, hq_6, hf⟩ := ob_some hf
          refine k_X4_isCloseAheadOf hm_1 hx hb hml hown hE hM hS w_4_14 hq_6 (Nat.le_of_ble_eq_true rfl) (Nat.le_of_ble_eq_true rfl) hl.1 (Nat.le_of_ble_eq_true rfl) ⟨Nat.zero_le _, Nat.zero_le _⟩ dX2_followOrders_65 (fun H locs hM hS => ?_)
          refine lv_if_ne (tgt := 72) hx hb dX2_followOrders_68 (by decide) (fun hc_17 => ?_) (fun hc_17 => ?_)
          · replace hf := i_f hf hc_17
            refine lv_aload_n hx hb dX2_followOrders_72 rfl (lv_at hl 3 rfl) ?_
            refine gf_40N hm_1 hx hb hE hM hown w_1_179 dX2_followOrders_73 ?_
            refine lv_istore (lv' := [(4, .int (x_6 40 r1)), (3, .ref (ga G (26 + m_4))), (2, .int s_2), (0, .ref (ga G 19)), (1, .ref (ga G (26 + r1)))]) hx hb dX2_followOrders_76 hl (by decide) rfl (fun ls hl => ?_)
            refine lv_iload_n hx hb dX2_followOrders_78 rfl (lv_at hl 2 rfl) ?_
            refine lv_iconst (v := 1) hx hb dX2_followOrders_79 (by decide) ?_
            have hj_7 : ∀ (x_7 : Me) (a4_7 : Int32) (H : Heap) (locs : List Loc) (ls : Array Slot), jnA hf x_7 a4_7 = some (x', r) → MemP G nw x_7 mo H → va_S (gA G) s.heap H locs → lv_has ls 5 [(1, .ref (ga G (26 + r1))), (4, .int a4_7)] → W p l e rm_X2_followOrders s m args below meth c H locs 0 0 (MQ below (PV G nw x' mo) args s 0 0 (gA G)) (F0 m 147 ls []) := by
              intro x_7 a4_7 H locs ls hf hM hS hl
              refine lv_iload hx hb dX2_followOrders_147 (lv_at hl 1 rfl) ?_
              refine lv_iconst (v := (-1)) hx hb dX2_followOrders_149 (by decide) ?_
              refine lv_icmp_eq (tgt := 159) hx hb dX2_followOrders_150 (by decide) (fun hc_8 => ?_) (fun hc_8 => ?_)
              · replace hf := i_t hf hc_8
                exact rt_vX hx hb hr hf hM hS dX2_followOrders_159 hlocks
              · replace hf := i_f hf hc_8
                refine lv_aload_n hx hb dX2_followOrders_153 rfl (lv_at hl 0 rfl) ?_
                refine lv_iload hx hb dX2_followOrders_154 (lv_at hl 1 rfl) ?_
                refine pf_40N hm_1 hx hb hE hM hS hown w_1_179 dX2_followOrders_156 (fun H locs hM hS => ?_)
                exact rt_vX hx hb hr hf hM hS dX2_followOrders_159 hlocks
            replace hf := jn_use hf
            have hj_9 : ∀ (x_9 : Me) (a4_9 : Int32) (H : Heap) (locs : List Loc) (ls : Array Slot), jnA hf x_9 a4_9 = some (x', r) → MemP G nw x_9 mo H → va_S (gA G) s.heap H locs → lv_has ls 5 [(0, .ref (ga G 19)), (1, .ref (ga G (26 + r1))), (2, .int s_2), (3, .ref (ga G (26 + m_4))), (4, .int a4_9)] → W p l e rm_X2_followOrders s m args below meth c H locs 0 0 (MQ below (PV G nw x' mo) args s 0 0 (gA G)) (F0 m 121 ls []) := by
              intro x_9 a4_9 H locs ls hf hM hS hl
              refine lv_iload_n hx hb dX2_followOrders_121 rfl (lv_at hl 2 rfl) ?_
              refine lv_iconst (v := 2) hx hb dX2_followOrders_122 (by decide) ?_
              refine lv_icmp_ne (tgt := 147) hx hb dX2_followOrders_123 (by decide) (fun hc_12 => ?_) (fun hc_12 => ?_)
              · replace hf := i_f hf hc_12
                exact hj_7 x_9 a4_9 _ _ _ hf hM hS (lv_sub hl [1, 4] rfl)
              · replace hf := i_t hf hc_12
                refine lv_iload hx hb dX2_followOrders_126 (lv_at hl 4 rfl) ?_
                refine lv_aload_n hx hb dX2_followOrders_128 rfl (lv_at hl 3 rfl) ?_
                refine gf_40N hm_4 hx hb hE hM hown w_1_179 dX2_followOrders_129 ?_
                refine lv_icmp_ne (tgt := 147) hx hb dX2_followOrders_132 (by decide) (fun hc_11 => ?_) (fun hc_11 => ?_)
                · replace hf := i_f hf hc_11
                  exact hj_7 x_9 a4_9 _ _ _ hf hM hS (lv_sub hl [1, 4] rfl)
                · replace hf := i_t hf hc_11
                  refine lv_aload_n hx hb dX2_followOrders_135 rfl (lv_at hl 0 rfl) ?_
                  refine lv_aload_n hx hb dX2_followOrders_136 rfl (lv_at hl 1 rfl) ?_
                  refine gf_39N hm_1 hx hb hE hM hown w_1_176 dX2_followOrders_137 ?_
                  refine lv_iload hx hb dX2_followOrders_140 (lv_at hl 4 rfl) ?_
                  obtain ⟨x_10, r_10, hq_10, hf⟩ := ob_some hf
                  refine k_X2_laneBeside hx hb hml hown hE hM hS w_4_25 hq_10 (Nat.le_of_ble_eq_true rfl) (Nat.le_of_ble_eq_true rfl) hl.1 (Nat.le_of_ble_eq_true rfl) ⟨Nat.zero_le _, Nat.zero_le _⟩ dX2_followOrders_142 (fun H locs hM hS => ?_)
                  refine lv_istore (lv' := [(4, .int r_10), (0, .ref (ga G 19)), (1, .ref (ga G (26 + r1))), (2, .int s_2), (3, .ref (ga G (26 + m_4)))]) hx hb dX2_followOrders_145 hl (by decide) rfl (fun ls hl => ?_)
                  exact hj_7 x_10 r_10 _ _ _ hf hM hS (lv_sub hl [2, 0] rfl)
            replace hf := jn_use hf
            refine lv_icmp_ne (tgt := 121) hx hb dX2_followOrders_80 (by decide) (fun hc_16 => ?_) (fun hc_16 => ?_)
            · replace hf := i_f hf hc_16
              exact hj_9 x_6 (x_6 40 r1) _ _ _ hf hM hS (lv_sub hl [3, 4, 2, 1, 0] rfl)
            · replace hf := i_t hf hc_16
              refine lv_iload hx hb dX2_followOrders_83 (lv_at hl 0 rfl) ?_
              refine lv_aload_n hx hb dX2_followOrders_85 rfl (lv_at hl 1 rfl) ?_
              refine gf_40N hm_4 hx hb hE hM hown w_1_179 dX2_followOrders_86 ?_
              refine lv_isub hx hb dX2_followOrders_89 ?_
              refine va_mabs hx hb (by rw [hml]; exact hl.1.symm) hown (ew hE w_4_18 rfl) (ew hE w_4_19 rfl) (ew hE w_1_12 rfl) (ew hE w_4_20 rfl) (Nat.le_of_ble_eq_true rfl) (Nat.le_of_ble_eq_true rfl) (Nat.zero_le _) (Nat.zero_le _) dX2_followOrders_90 ?_
              refine lv_iconst (v := 1) hx hb dX2_followOrders_93 (by decide) ?_
              refine lv_icmp_ne (tgt := 121) hx hb dX2_followOrders_94 (by decide) (fun hc_15 => ?_) (fun hc_15 => ?_)
              · replace hf := i_f hf hc_15
                exact hj_9 x_6 (x_6 40 r1) _ _ _ hf hM hS (lv_sub hl [3, 4, 2, 1, 0] rfl)
              · replace hf := i_t hf hc_15
                refine lv_aload_n hx hb dX2_followOrders_97 rfl (lv_at hl 3 rfl) ?_
                refine lv_aload_n hx hb dX2_followOrders_98 rfl (lv_at hl 4 rfl) ?_
                refine gf_39N hm_1 hx hb hE hM hown w_1_176 dX2_followOrders_99 ?_
                refine lv_aload_n hx hb dX2_followOrders_102 rfl (lv_at hl 1 rfl) ?_
                refine gf_40N hm_4 hx hb hE hM hown w_1_179 dX2_followOrders_103 ?_
                obtain ⟨x_13, r_13, hq_13, hf⟩ := ob_some hf
                refine k_X2_isFree hx hb hml hown hE hM hS w_4_21 hq_13 (Nat.le_of_ble_eq_true rfl) (Nat.le_of_ble_eq_true rfl) hl.1 (Nat.le_of_ble_eq_true rfl) ⟨Nat.zero_le _, Nat.zero_le _⟩ dX2_followOrders_106 (fun H locs hM hS => ?_)
                refine lv_if_eq (tgt := 121) hx hb dX2_followOrders_109 (by decide) (fun hc_14 => ?_) (fun hc_14 => ?_)
                · replace hf := i_t hf hc_14
                  exact hj_9 x_13 (x_6 40 r1) _ _ _ hf hM hS (lv_sub hl [3, 4, 2, 1, 0] rfl)
                · replace hf := i_f hf hc_14
                  refine lv_aload_n hx hb dX2_followOrders_112 rfl (lv_at hl 1 rfl) ?_
                  refine gf_40N hm_4 hx hb hE hM hown w_1_179 dX2_followOrders_113 ?_
                  refine lv_istore (lv' := [(4, .int (x_13 40 m_4)), (3, .ref (ga G (26 + m_4))), (2, .int s_2), (0, .ref (ga G 19)), (1, .ref (ga G (26 + r1)))]) hx hb dX2_followOrders_116 hl (by decide) rfl (fun ls hl => ?_)
                  refine lv_goto (tgt := 147) hx hb dX2_followOrders_118 (by decide) ?_
                  exact hj_7 x_13 (x_13 40 m_4) _ _ _ hf hM hS (lv_sub hl [4, 0] rfl)
          · replace hf := i_t hf hc_17
            exact rt_vX hx hb hr hf hM hS dX2_followOrders_71 hlocks
    · replace hf := i_t hf hc_19
      refine lv_null hx hb dX2_followOrders_34 ?_
      refine lv_goto (tgt := 51) hx hb dX2_followOrders_35 (by decide) ?_
      refine lv_astore_nN (lv' := [(3, .null), (2, .int s_2), (0, .ref (ga G 19)), (1, .ref (ga G (26 + r1)))]) hx hb dX2_followOrders_51 rfl hl (by decide) rfl (fun ls hl => ?_)
      refine lv_aload_nN hx hb dX2_followOrders_52 rfl (lv_at hl 0 rfl) ?_
      refine lv_ifnullN (tgt := 71) hx hb dX2_followOrders_53 (by decide) ?_
      exact rt_vX hx hb hr hf hM hS dX2_followOrders_71 hlocks
  replace hf := jn_use hf
  have hj_20 : ∀ (x_20 : Me) (H : Heap) (locs : List Loc) (ls : Array Slot), jnA hf x_20 = some (x', r) → MemP G nw x_20 mo H → va_S (gA G) s.heap H locs → lv_has ls 5 [(0, .ref (ga G 19)), (1, .ref (ga G (26 + r1)))] → W p l e rm_X2_followOrders s m args below meth c H locs 0 0 (MQ below (PV G nw x' mo) args s 0 0 (gA G)) (F0 m 28 ls []) := by
    intro x_20 H locs ls hf hM hS hl
    refine lv_iconst (v := 0) hx hb dX2_followOrders_28 (by decide) ?_
    exact hj_2 x_20 0 _ _ _ hf hM hS (lv_sub hl [0, 1] rfl)
  replace hf := jn_use hf
  refine lv_if_lt (tgt := 28) hx hb dX2_followOrders_4 (by decide) (fun hc_23 => ?_) (fun hc_23 => ?_)
  · replace hf := i_t hf hc_23
    exact hj_20 x _ _ _ hf hM hS (lv_sub hl [0, 1] rfl)
  · replace hf := i_f hf hc_23
    refine lv_aload_n hx hb dX2_followOrders_7 rfl (lv_at hl 1 rfl) ?_
    refine gf_37N hm_1 hx hb hE hM hown w_1_172 dX2_followOrders_8 ?_
    refine lv_bipush (v := 17) hx hb dX2_followOrders_11 (by decide) ?_
    refine lv_icmp_ge (tgt := 28) hx hb dX2_followOrders_13 (by decide) (fun hc_22 => ?_) (fun hc_22 => ?_)
    · replace hf := i_t hf hc_22
      exact hj_20 x _ _ _ hf hM hS (lv_sub hl [0, 1] rfl)
    · replace hf := i_f hf hc_22
      refine lv_aload_n hx hb dX2_followOrders_16 rfl (lv_at hl 0 rfl) ?_
      refine gr_21 hx hb hE hM hown w_1_214 dX2_followOrders_17 ?_
      refine lv_aload_n hx hb dX2_followOrders_20 rfl (lv_at hl 1 rfl) ?_
      refine gf_37N hm_1 hx hb hE hM hown w_1_172 dX2_followOrders_21 ?_
      obtain ⟨hi_21, hf⟩ := i_n hf
      refine la_21 hx hb hE hM hi_21 dX2_followOrders_24 ?_
      refine lv_goto (tgt := 29) hx hb dX2_followOrders_25 (by decide) ?_
      exact hj_2 x (x 27 ((x 37 r1).toNatClampNeg)) _ _ _ hf hM hS (lv_sub hl [0, 1] rfl)
theorem k_X2_followOrders {p : Program} {l : Launch} {e : Env} {R : Room} {s : State} {m : MethodId} {args : Array Value} {below : List Frame} {meth : Method} {c : Code} {H : Heap} {locs : List Loc} {cells slots : Nat} {Q : State → Prop} {cc : ByteArray} {pc nL : Nat} {ls : Array Slot} {rest : List Value} {G : GG} {fu nw : Nat} {x x' mo : Me} {own : String} {index : Nat} {r1 : Nat} {r : Unit} (hx : p.tables.exec = Jvm.exec) (hb : c.code = cc) (hml : c.maxLocals = nL) (hown : s.vm.findClass own = some m.cls) (hE : EnvP G s) (hM : MemP G nw x mo H) (hS : va_S (gA G) s.heap H locs) (hw : Cond.methodLink own index yX2_followOrders ∈ lw_tbl) (hf : f_X2_followOrders fu nw x r1 = some (x', r)) (h1 : 3 + 1 ≤ R.frames) (h2 : 8 + (5 + 11) + 66 ≤ R.locals) (hsz : ls.size = nL) (hW : (rest.map fun v => v.category).sum ≤ 8) (hcs : cells ≤ R.cells ∧ slots ≤ R.slots) (hdg : decode cc pc = .ok (.invokevirtual index, 3)) (kk : ∀ (H1 : Heap) (locs1 : List Loc), MemP G nw x' mo H1 → va_S (gA G) s.heap H1 locs1 → W p l e R s m args below meth c H1 locs1 cells slots Q (F0 m (pc + 3) ls rest)) : W p l e R s m args below meth c H locs cells slots Q (F0 m pc ls (.ref (ga G (26 + r1)) :: .ref (ga G 19) :: rest)) := mm_kv hS (mm_runV (n := 1) (o := 19) (C := RX2) (T := TX2) (N := 14) (ci := 2) (As := [.ref (ga G (26 + r1))]) hx hb hml hown hE hM hS (c_X2_followOrders l fu nw G x x' mo r1 _ hf) (List.forall_mem_cons.mpr ⟨⟨hw, rfl⟩, List.forall_mem_cons.mpr ⟨⟨w_4_8, rfl⟩, List.forall_mem_cons.mpr ⟨⟨w_0_21, rfl⟩, List.forall_mem_cons.mpr ⟨⟨w_1_7, rfl⟩, List.forall_mem_cons.mpr ⟨⟨w_4_9, rfl⟩, fun _ h => absurd h List.not_mem_nil⟩⟩⟩⟩⟩) rfl rfl ⟨rfl, by decide, by decide, by decide +kernel⟩ ⟨h1, h2⟩ rfl rfl rfl hsz rfl hW hdg hcs) kk
def f_X2_takeTurn_24 (fu nw : Nat) (r1 : Nat) (b2 : Int32) (k : Me → Option (Me × Unit)) : Nat → Me → Int32 → Option (Me × Unit)
  | 0 => fun _ _ => none
  | n + 1 => fun x a3 => if b2 ≤ a3 then k x else ob (f_X2_stepOn fu nw x r1) (fun x_4 r_4 => if r_4 = 0 then some (x_4, ()) else f_X2_takeTurn_24 fu nw r1 b2 k n x_4 (a3 + 1))
def f_X2_takeTurn (fu nw : Nat) (x : Me) (r1 : Nat) : Option (Me × Unit) := if r1 < 10 then jn (fun (x_2 : Me) => ob (f_X2_setPace fu nw x_2 r1) (fun x_3 _ => f_X2_takeTurn_24 fu nw r1 (x_3 41 r1) (fun (x_7 : Me) => some (x_7, ())) fu x_3 0)) (fun j_2 => if (x 42 r1) = 0 then ob (f_X2_followOrders fu nw x r1) (fun x_8 _ => j_2 x_8) else j_2 x) else none
def rm_X2_takeTurn : Room := { frames := 4, cells := 0, slots := 0, locals := 90 }
set_option maxHeartbeats 4000000 in
set_option maxRecDepth 100000 in
theorem wk_X2_takeTurn_24 {p : Program} {l : Launch} {e : Env} {s : State} {m : MethodId} {args : Array Value} {below : List Frame} {meth : Method} {c : Code} {fu nw : Nat} {G : GG} {mo : Me} {r1 : Nat} {b2 : Int32} (hx : p.tables.exec = Jvm.exec) (hb : c.code = cX2_takeTurn) (hml : c.maxLocals = 4) (hown : s.vm.findClass RX2 = some m.cls) (hE : EnvP G s) (hr : meth.sig.returnType = none) (hlocks : meth.locks = false) {x' : Me} {r : Unit} {k : Me → Option (Me × Unit)} (hk : ∀ (x : Me) (H : Heap) (locs : List Loc) (ls : Array Slot), k x = some (x', r) → MemP G nw x mo H → va_S (gA G) s.heap H locs → lv_has ls 4 [] → W p l e rm_X2_takeTurn s m args below meth c H locs 0 0 (MQ below (PV G nw x' mo) args s 0 0 (gA G)) (F0 m 44 ls [])) : ∀ (n : Nat) (x : Me) (a3 : Int32) (H : Heap) (locs : List Loc) (ls : Array Slot), f_X2_takeTurn_24 fu nw r1 b2 k n x a3 = some (x', r) → MemP G nw x mo H → va_S (gA G) s.heap H locs → lv_has ls 4 [(0, .ref (ga G 19)), (1, .ref (ga G (26 + r1))), (2, .int b2), (3, .int a3)] → W p l e rm_X2_takeTurn s m args below meth c H locs 0 0 (MQ below (PV G nw x' mo) args s 0 0 (gA G)) (F0 m 24 ls []) := by
  intro n
  induction n with
  | zero =>
    intro x a3 H locs ls hf hM hS hl
    exact nn hf
  | succ n ih =>
    intro x a3 H locs ls hf hM hS hl
    rw [f_X2_takeTurn_24] at hf
    refine lv_iload_n hx hb dX2_takeTurn_24 rfl (lv_at hl 3 rfl) ?_
    refine lv_iload_n hx hb dX2_takeTurn_25 rfl (lv_at hl 2 rfl) ?_
    refine lv_icmp_ge (tgt := 44) hx hb dX2_takeTurn_26 (by decide) (fun hc_6 => ?_) (fun hc_6 => ?_)
    · replace hf := i_t hf hc_6
      exact hk x _ _ _ hf hM hS (lv_sub hl [] rfl)
    · replace hf := i_f hf hc_6
      refine lv_aload_n hx hb dX2_takeTurn_29 rfl (lv_at hl 0 rfl) ?_
      refine lv_aload_n hx hb dX2_takeTurn_30 rfl (lv_at hl 1 rfl) ?_
      obtain ⟨x_4, r_4, hq_4, hf⟩ := ob_some hf
      refine k_X2_stepOn hx hb hml hown hE hM hS w_4_36 hq_4 (Nat.le_of_ble_eq_true rfl) (Nat.le_of_ble_eq_true rfl) hl.1 (Nat.le_of_ble_eq_true rfl) ⟨Nat.zero_le _, Nat.zero_le _⟩ dX2_takeTurn_31 (fun H locs hM hS => ?_)
      refine lv_if_ne (tgt := 38) hx hb dX2_takeTurn_34 (by decide) (fun hc_5 => ?_) (fun hc_5 => ?_)
      · replace hf := i_f hf hc_5
        refine lv_iinc (v := a3 + 1) (lv' := [(3, .int (a3 + 1)), (0, .ref (ga G 19)), (1, .ref (ga G (26 + r1))), (2, .int b2)]) hx hb dX2_takeTurn_38 hl (k := 3) rfl rfl (by decide) rfl (fun ls hl => ?_)
        refine lv_goto (tgt := 24) hx hb dX2_takeTurn_41 (by decide) ?_
        exact ih x_4 (a3 + 1) _ _ _ hf hM hS (lv_sub hl [1, 2, 3, 0] rfl)
      · replace hf := i_t hf hc_5
        exact rt_vX hx hb hr hf hM hS dX2_takeTurn_37 hlocks
set_option maxHeartbeats 4000000 in
set_option maxRecDepth 100000 in
theorem c_X2_takeTurn (l : Launch) (fu nw : Nat) (G : GG) (x x' mo : Me) (r1 : Nat) (r : Unit) (hf : f_X2_takeTurn fu nw x r1 = some (x', r)) : Met l yX2_takeTurn [.code yX2_takeTurn cX2_takeTurn 4 none] rm_X2_takeTurn (va_Pc [.ref (ga G 19), .ref (ga G (26 + r1))] (Pre G nw x mo)) (PV G nw x' mo) 0 0 (gA G) := by
  refine mt_ofW (cc := cX2_takeTurn) (maxL := 4) (ret := none) (by decide +kernel) rfl ?_
  intro p e s m args below meth c s₁ B hml hv
  obtain ⟨rfl, hE, hM⟩ := hv
  have hx := B.exec
  have hb := B.bytes
  have hr := B.returns
  have hown : s.vm.findClass RX2 = some m.cls := findClass_of_methodNamed B.named
  have hlocks := B.notSynchronized
  have hS : va_S (gA G) s.heap s.heap [] := va_S.rf
  have hl := lv_entry ([.ref (ga G 19), .ref (ga G (26 + r1))]) (n := 4) (Nat.le_of_ble_eq_true rfl)
  rw [lg_entry_eq]
  generalize (lg_sl ([.ref (ga G 19), .ref (ga G (26 + r1))]) ++ List.replicate (4 - (lg_sl ([.ref (ga G 19), .ref (ga G (26 + r1))])).length) Slot.unset).toArray = ls at hl ⊢
  have hl : lv_has ls 4 [(0, .ref (ga G 19)), (1, .ref (ga G (26 + r1)))] := hl
  generalize ([.ref (ga G 19), .ref (ga G (26 + r1))] : List Value).toArray = args
  unfold f_X2_takeTurn at hf
  obtain ⟨hm_1, hf⟩ := i_n hf
  refine lv_aload_n hx hb dX2_takeTurn_0 rfl (lv_at hl 1 rfl) ?_
  refine gf_42N hm_1 hx hb hE hM hown w_1_185 dX2_takeTurn_1 ?_
  have hj_2 : ∀ (x_2 : Me) (H : Heap) (locs : List Loc) (ls : Array Slot), jnA hf x_2 = some (x', r) → MemP G nw x_2 mo H → va_S (gA G) s.heap H locs → lv_has ls 4 [(0, .ref (ga G 19)), (1, .ref (ga G (26 + r1)))] → W p l e rm_X2_takeTurn s m args below meth c H locs 0 0 (MQ below (PV G nw x' mo) args s 0 0 (gA G)) (F0 m 12 ls []) := by
    intro x_2 H locs ls hf hM hS hl
    refine lv_aload_n hx hb dX2_takeTurn_12 rfl (lv_at hl 0 rfl) ?_
    refine lv_aload_n hx hb dX2_takeTurn_13 rfl (lv_at hl 1 rfl) ?_
    obtain ⟨x_3, r_3, hq_3, hf⟩ := ob_some hf
    refine k_X2_setPace hx hb hml hown hE hM hS w_4_29 hq_3 (Nat.le_of_ble_eq_true rfl) (Nat.le_of_ble_eq_true rfl) hl.1 (Nat.le_of_ble_eq_true rfl) ⟨Nat.zero_le _, Nat.zero_le _⟩ dX2_takeTurn_14 (fun H locs hM hS => ?_)
    refine lv_aload_n hx hb dX2_takeTurn_17 rfl (lv_at hl 1 rfl) ?_
    refine gf_41N hm_1 hx hb hE hM hown w_1_182 dX2_takeTurn_18 ?_
    refine lv_istore_n (lv' := [(2, .int (x_3 41 r1)), (0, .ref (ga G 19)), (1, .ref (ga G (26 + r1)))]) hx hb dX2_takeTurn_21 rfl hl (by decide) rfl (fun ls hl => ?_)
    refine lv_iconst (v := 0) hx hb dX2_takeTurn_22 (by decide) ?_
    refine lv_istore_n (lv' := [(3, .int 0), (2, .int (x_3 41 r1)), (0, .ref (ga G 19)), (1, .ref (ga G (26 + r1)))]) hx hb dX2_takeTurn_23 rfl hl (by decide) rfl (fun ls hl => ?_)
    refine wk_X2_takeTurn_24 hx hb hml hown hE hr hlocks ?_ fu x_3 0 _ _ _ hf hM hS (lv_sub hl [2, 3, 1, 0] rfl)
    intro x_7 H locs ls hf hM hS hl
    exact rt_vX hx hb hr hf hM hS dX2_takeTurn_44 hlocks
  replace hf := jn_use hf
  refine lv_if_ne (tgt := 12) hx hb dX2_takeTurn_4 (by decide) (fun hc_9 => ?_) (fun hc_9 => ?_)
  · replace hf := i_f hf hc_9
    exact hj_2 x _ _ _ hf hM hS (lv_sub hl [0, 1] rfl)
  · replace hf := i_t hf hc_9
    refine lv_aload_n hx hb dX2_takeTurn_7 rfl (lv_at hl 0 rfl) ?_
    refine lv_aload_n hx hb dX2_takeTurn_8 rfl (lv_at hl 1 rfl) ?_
    obtain ⟨x_8, r_8, hq_8, hf⟩ := ob_some hf
    refine k_X2_followOrders hx hb hml hown hE hM hS w_4_6 hq_8 (Nat.le_of_ble_eq_true rfl) (Nat.le_of_ble_eq_true rfl) hl.1 (Nat.le_of_ble_eq_true rfl) ⟨Nat.zero_le _, Nat.zero_le _⟩ dX2_takeTurn_9 (fun H locs hM hS => ?_)
    exact hj_2 x_8 _ _ _ hf hM hS (lv_sub hl [0, 1] rfl)
theorem k_X2_takeTurn {p : Program} {l : Launch} {e : Env} {R : Room} {s : State} {m : MethodId} {args : Array Value} {below : List Frame} {meth : Method} {c : Code} {H : Heap} {locs : List Loc} {cells slots : Nat} {Q : State → Prop} {cc : ByteArray} {pc nL : Nat} {ls : Array Slot} {rest : List Value} {G : GG} {fu nw : Nat} {x x' mo : Me} {own : String} {index : Nat} {r1 : Nat} {r : Unit} (hx : p.tables.exec = Jvm.exec) (hb : c.code = cc) (hml : c.maxLocals = nL) (hown : s.vm.findClass own = some m.cls) (hE : EnvP G s) (hM : MemP G nw x mo H) (hS : va_S (gA G) s.heap H locs) (hw : Cond.methodLink own index yX2_takeTurn ∈ lw_tbl) (hf : f_X2_takeTurn fu nw x r1 = some (x', r)) (h1 : 4 + 1 ≤ R.frames) (h2 : 8 + (4 + 11) + 90 ≤ R.locals) (hsz : ls.size = nL) (hW : (rest.map fun v => v.category).sum ≤ 8) (hcs : cells ≤ R.cells ∧ slots ≤ R.slots) (hdg : decode cc pc = .ok (.invokevirtual index, 3)) (kk : ∀ (H1 : Heap) (locs1 : List Loc), MemP G nw x' mo H1 → va_S (gA G) s.heap H1 locs1 → W p l e R s m args below meth c H1 locs1 cells slots Q (F0 m (pc + 3) ls rest)) : W p l e R s m args below meth c H locs cells slots Q (F0 m pc ls (.ref (ga G (26 + r1)) :: .ref (ga G 19) :: rest)) := mm_kv hS (mm_runV (n := 1) (o := 19) (C := RX2) (T := TX2) (N := 14) (ci := 2) (As := [.ref (ga G (26 + r1))]) hx hb hml hown hE hM hS (c_X2_takeTurn l fu nw G x x' mo r1 _ hf) (List.forall_mem_cons.mpr ⟨⟨hw, rfl⟩, List.forall_mem_cons.mpr ⟨⟨w_4_4, rfl⟩, List.forall_mem_cons.mpr ⟨⟨w_0_20, rfl⟩, List.forall_mem_cons.mpr ⟨⟨w_1_7, rfl⟩, List.forall_mem_cons.mpr ⟨⟨w_4_5, rfl⟩, fun _ h => absurd h List.not_mem_nil⟩⟩⟩⟩⟩) rfl rfl ⟨rfl, by decide, by decide, by decide +kernel⟩ ⟨h1, h2⟩ rfl rfl rfl hsz rfl hW hdg hcs) kk
def f_X2_tick_7 (fu nw : Nat) (b1 : Int32) (k : Me → Option (Me × Unit)) : Nat → Me → Int32 → Option (Me × Unit)
  | 0 => fun _ _ => none
  | n + 1 => fun x a2 => if b1 ≤ a2 then k x else if inb a2 10 = true then if inb (x 30 a2.toNatClampNeg) 10 = true then ob (f_X2_takeTurn fu nw x ((x 30 a2.toNatClampNeg).toNatClampNeg)) (fun x_4 _ => f_X2_tick_7 fu nw b1 k n x_4 (a2 + 1)) else none else none
def f_X2_tick (fu nw : Nat) (x : Me) : Option (Me × Unit) := ob (f_X2_lineUp fu nw x) (fun x_1 r_1 => f_X2_tick_7 fu nw r_1 (fun (x_6 : Me) => some ((mu x_6 34 0 ((x_6 34 0) + 1)), ())) fu x_1 0)
def rm_X2_tick : Room := { frames := 5, cells := 0, slots := 0, locals := 113 }
set_option maxHeartbeats 4000000 in
set_option maxRecDepth 100000 in
theorem wk_X2_tick_7 {p : Program} {l : Launch} {e : Env} {s : State} {m : MethodId} {args : Array Value} {below : List Frame} {meth : Method} {c : Code} {fu nw : Nat} {G : GG} {mo : Me} {b1 : Int32} (hx : p.tables.exec = Jvm.exec) (hb : c.code = cX2_tick) (hml : c.maxLocals = 3) (hown : s.vm.findClass RX2 = some m.cls) (hE : EnvP G s) (hr : meth.sig.returnType = none) (hlocks : meth.locks = false) {x' : Me} {r : Unit} {k : Me → Option (Me × Unit)} (hk : ∀ (x : Me) (H : Heap) (locs : List Loc) (ls : Array Slot), k x = some (x', r) → MemP G nw x mo H → va_S (gA G) s.heap H locs → lv_has ls 3 [(0, .ref (ga G 19))] → W p l e rm_X2_tick s m args below meth c H locs 0 0 (MQ below (PV G nw x' mo) args s 0 0 (gA G)) (F0 m 33 ls [])) : ∀ (n : Nat) (x : Me) (a2 : Int32) (H : Heap) (locs : List Loc) (ls : Array Slot), f_X2_tick_7 fu nw b1 k n x a2 = some (x', r) → MemP G nw x mo H → va_S (gA G) s.heap H locs → lv_has ls 3 [(0, .ref (ga G 19)), (1, .int b1), (2, .int a2)] → W p l e rm_X2_tick s m args below meth c H locs 0 0 (MQ below (PV G nw x' mo) args s 0 0 (gA G)) (F0 m 7 ls []) := by
  intro n
  induction n with
  | zero =>
    intro x a2 H locs ls hf hM hS hl
    exact nn hf
  | succ n ih =>
    intro x a2 H locs ls hf hM hS hl
    rw [f_X2_tick_7] at hf
    refine lv_iload_n hx hb dX2_tick_7 rfl (lv_at hl 2 rfl) ?_
    refine lv_iload_n hx hb dX2_tick_8 rfl (lv_at hl 1 rfl) ?_
    refine lv_icmp_ge (tgt := 33) hx hb dX2_tick_9 (by decide) (fun hc_5 => ?_) (fun hc_5 => ?_)
    · replace hf := i_t hf hc_5
      exact hk x _ _ _ hf hM hS (lv_sub hl [0] rfl)
    · replace hf := i_f hf hc_5
      refine lv_aload_n hx hb dX2_tick_12 rfl (lv_at hl 0 rfl) ?_
      refine lv_aload_n hx hb dX2_tick_13 rfl (lv_at hl 0 rfl) ?_
      refine gr_23 hx hb hE hM hown w_1_219 dX2_tick_14 ?_
      refine lv_aload_n hx hb dX2_tick_17 rfl (lv_at hl 0 rfl) ?_
      refine gr_24 hx hb hE hM hown w_1_220 dX2_tick_18 ?_
      refine lv_iload_n hx hb dX2_tick_21 rfl (lv_at hl 2 rfl) ?_
      obtain ⟨hi_2, hf⟩ := i_n hf
      refine la_24 hx hb hE hM hi_2 dX2_tick_22 ?_
      obtain ⟨hi_3, hf⟩ := i_n hf
      refine mm_rald hx hb hE hM hi_3 dX2_tick_23 ?_
      obtain ⟨x_4, r_4, hq_4, hf⟩ := ob_some hf
      refine k_X2_takeTurn hx hb hml hown hE hM hS w_4_2 hq_4 (Nat.le_of_ble_eq_true rfl) (Nat.le_of_ble_eq_true rfl) hl.1 (Nat.le_of_ble_eq_true rfl) ⟨Nat.zero_le _, Nat.zero_le _⟩ dX2_tick_24 (fun H locs hM hS => ?_)
      refine lv_iinc (v := a2 + 1) (lv' := [(2, .int (a2 + 1)), (0, .ref (ga G 19)), (1, .int b1)]) hx hb dX2_tick_27 hl (k := 2) rfl rfl (by decide) rfl (fun ls hl => ?_)
      refine lv_goto (tgt := 7) hx hb dX2_tick_30 (by decide) ?_
      exact ih x_4 (a2 + 1) _ _ _ hf hM hS (lv_sub hl [1, 2, 0] rfl)
set_option maxHeartbeats 4000000 in
set_option maxRecDepth 100000 in
theorem c_X2_tick (l : Launch) (fu nw : Nat) (G : GG) (x x' mo : Me) (r : Unit) (hf : f_X2_tick fu nw x = some (x', r)) : Met l yX2_tick [.code yX2_tick cX2_tick 3 none] rm_X2_tick (va_Pc [.ref (ga G 19)] (Pre G nw x mo)) (PV G nw x' mo) 0 0 (gA G) := by
  refine mt_ofW (cc := cX2_tick) (maxL := 3) (ret := none) (by decide +kernel) rfl ?_
  intro p e s m args below meth c s₁ B hml hv
  obtain ⟨rfl, hE, hM⟩ := hv
  have hx := B.exec
  have hb := B.bytes
  have hr := B.returns
  have hown : s.vm.findClass RX2 = some m.cls := findClass_of_methodNamed B.named
  have hlocks := B.notSynchronized
  have hS : va_S (gA G) s.heap s.heap [] := va_S.rf
  have hl := lv_entry ([.ref (ga G 19)]) (n := 3) (Nat.le_of_ble_eq_true rfl)
  rw [lg_entry_eq]
  generalize (lg_sl ([.ref (ga G 19)]) ++ List.replicate (3 - (lg_sl ([.ref (ga G 19)])).length) Slot.unset).toArray = ls at hl ⊢
  have hl : lv_has ls 3 [(0, .ref (ga G 19))] := hl
  generalize ([.ref (ga G 19)] : List Value).toArray = args
  unfold f_X2_tick at hf
  refine lv_aload_n hx hb dX2_tick_0 rfl (lv_at hl 0 rfl) ?_
  obtain ⟨x_1, r_1, hq_1, hf⟩ := ob_some hf
  refine k_X2_lineUp hx hb hml hown hE hM hS w_3_226 hq_1 (Nat.le_of_ble_eq_true rfl) (Nat.le_of_ble_eq_true rfl) hl.1 (Nat.le_of_ble_eq_true rfl) ⟨Nat.zero_le _, Nat.zero_le _⟩ dX2_tick_1 (fun H locs hM hS => ?_)
  refine lv_istore_n (lv' := [(1, .int r_1), (0, .ref (ga G 19))]) hx hb dX2_tick_4 rfl hl (by decide) rfl (fun ls hl => ?_)
  refine lv_iconst (v := 0) hx hb dX2_tick_5 (by decide) ?_
  refine lv_istore_n (lv' := [(2, .int 0), (1, .int r_1), (0, .ref (ga G 19))]) hx hb dX2_tick_6 rfl hl (by decide) rfl (fun ls hl => ?_)
  refine wk_X2_tick_7 hx hb hml hown hE hr hlocks ?_ fu x_1 0 _ _ _ hf hM hS (lv_sub hl [2, 1, 0] rfl)
  intro x_6 H locs ls hf hM hS hl
  refine lv_aload_n hx hb dX2_tick_33 rfl (lv_at hl 0 rfl) ?_
  refine lv_dup hx hb dX2_tick_34 rfl ?_
  refine gf_34 hx hb hE hM hown w_1_225 dX2_tick_35 ?_
  refine lv_iconst (v := 1) hx hb dX2_tick_38 (by decide) ?_
  refine lv_iadd hx hb dX2_tick_39 ?_
  refine pf_34 hx hb hE hM hS hown w_1_225 dX2_tick_40 (fun H locs hM hS => ?_)
  exact rt_vX hx hb hr hf hM hS dX2_tick_43 hlocks
theorem k_X2_tick {p : Program} {l : Launch} {e : Env} {R : Room} {s : State} {m : MethodId} {args : Array Value} {below : List Frame} {meth : Method} {c : Code} {H : Heap} {locs : List Loc} {cells slots : Nat} {Q : State → Prop} {cc : ByteArray} {pc nL : Nat} {ls : Array Slot} {rest : List Value} {G : GG} {fu nw : Nat} {x x' mo : Me} {own : String} {index : Nat} {r : Unit} (hx : p.tables.exec = Jvm.exec) (hb : c.code = cc) (hml : c.maxLocals = nL) (hown : s.vm.findClass own = some m.cls) (hE : EnvP G s) (hM : MemP G nw x mo H) (hS : va_S (gA G) s.heap H locs) (hw : Cond.methodLink own index yX2_tick ∈ lw_tbl) (hf : f_X2_tick fu nw x = some (x', r)) (h1 : 5 + 1 ≤ R.frames) (h2 : 8 + (3 + 11) + 113 ≤ R.locals) (hsz : ls.size = nL) (hW : (rest.map fun v => v.category).sum ≤ 8) (hcs : cells ≤ R.cells ∧ slots ≤ R.slots) (hdg : decode cc pc = .ok (.invokevirtual index, 3)) (kk : ∀ (H1 : Heap) (locs1 : List Loc), MemP G nw x' mo H1 → va_S (gA G) s.heap H1 locs1 → W p l e R s m args below meth c H1 locs1 cells slots Q (F0 m (pc + 3) ls rest)) : W p l e R s m args below meth c H locs cells slots Q (F0 m pc ls (.ref (ga G 19) :: rest)) := mm_kv hS (mm_runV (n := 0) (o := 19) (C := RX2) (T := TX2) (N := 14) (ci := 2) (As := []) hx hb hml hown hE hM hS (c_X2_tick l fu nw G x x' mo _ hf) (List.forall_mem_cons.mpr ⟨⟨hw, rfl⟩, List.forall_mem_cons.mpr ⟨⟨w_3_223, rfl⟩, List.forall_mem_cons.mpr ⟨⟨w_3_224, rfl⟩, List.forall_mem_cons.mpr ⟨⟨w_1_7, rfl⟩, List.forall_mem_cons.mpr ⟨⟨w_3_225, rfl⟩, fun _ h => absurd h List.not_mem_nil⟩⟩⟩⟩⟩) rfl rfl ⟨rfl, by decide, by decide, by decide +kernel⟩ ⟨h1, h2⟩ rfl rfl rfl hsz rfl hW hdg hcs) kk
