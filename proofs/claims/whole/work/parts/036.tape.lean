def f_X7_append_3 (fu nw : Nat) (b1 : Int32) (k : Me → Option (Me × Unit)) : Nat → Me → Int32 → Option (Me × Unit)
  | 0 => fun _ _ => none
  | n + 1 => fun x a2 => if a2 < 0 then k x else if 600 ≤ (x 4 0) then k x else if inb (x 4 0) 600 = true then f_X7_append_3 fu nw b1 k n (mu (mu x 3 ((x 4 0).toNatClampNeg) (vp_nar .byte ((b1 >>> (a2 &&& 31)).toInt8.toInt32))) 4 0 ((x 4 0) + 1)) (a2 + (-8)) else none
def f_X7_append (fu nw : Nat) (x : Me) (a1 : Int32) : Option (Me × Unit) := f_X7_append_3 fu nw a1 (fun (x_4 : Me) => some (x_4, ())) fu x 24
def rm_X7_append : Room := { frames := 0, cells := 0, slots := 0, locals := 0 }
set_option maxHeartbeats 4000000 in
set_option maxRecDepth 100000 in
theorem wk_X7_append_3 {p : Program} {l : Launch} {e : Env} {s : State} {m : MethodId} {args : Array Value} {below : List Frame} {meth : Method} {c : Code} {fu nw : Nat} {G : GG} {mo : Me} {b1 : Int32} (hx : p.tables.exec = Jvm.exec) (hb : c.code = cX7_append) (hml : c.maxLocals = 3) (hown : s.vm.findClass RX7 = some m.cls) (hE : EnvP G s) (hr : meth.sig.returnType = none) (hlocks : meth.locks = false) {x' : Me} {r : Unit} {k : Me → Option (Me × Unit)} (hk : ∀ (x : Me) (H : Heap) (locs : List Loc) (ls : Array Slot), k x = some (x', r) → MemP G nw x mo H → va_S (gA G) s.heap H locs → lv_has ls 3 [] → W p l e rm_X7_append s m args below meth c H locs 0 0 (MQ below (PV G nw x' mo) args s 0 0 (gA G)) (F0 m 46 ls [])) : ∀ (n : Nat) (x : Me) (a2 : Int32) (H : Heap) (locs : List Loc) (ls : Array Slot), f_X7_append_3 fu nw b1 k n x a2 = some (x', r) → MemP G nw x mo H → va_S (gA G) s.heap H locs → lv_has ls 3 [(0, .ref (ga G 1)), (1, .int b1), (2, .int a2)] → W p l e rm_X7_append s m args below meth c H locs 0 0 (MQ below (PV G nw x' mo) args s 0 0 (gA G)) (F0 m 3 ls []) := by
  intro n
  induction n with
  | zero =>
    intro x a2 H locs ls hf hM hS hl
    exact nn hf
  | succ n ih =>
    intro x a2 H locs ls hf hM hS hl
    rw [f_X7_append_3] at hf
    refine lv_iload_n hx hb dX7_append_3 rfl (lv_at hl 2 rfl) ?_
    refine lv_if_lt (tgt := 46) hx hb dX7_append_4 (by decide) (fun hc_3 => ?_) (fun hc_3 => ?_)
    · replace hf := i_t hf hc_3
      exact hk x _ _ _ hf hM hS (lv_sub hl [] rfl)
    · replace hf := i_f hf hc_3
      refine lv_aload_n hx hb dX7_append_7 rfl (lv_at hl 0 rfl) ?_
      refine gf_4 hx hb hE hM hown w_1_36 dX7_append_8 ?_
      refine lv_sipush (v := 600) hx hb dX7_append_11 (by decide) ?_
      refine lv_icmp_ge (tgt := 46) hx hb dX7_append_14 (by decide) (fun hc_2 => ?_) (fun hc_2 => ?_)
      · replace hf := i_t hf hc_2
        exact hk x _ _ _ hf hM hS (lv_sub hl [] rfl)
      · replace hf := i_f hf hc_2
        refine lv_aload_n hx hb dX7_append_17 rfl (lv_at hl 0 rfl) ?_
        refine gr_2 hx hb hE hM hown w_1_34 dX7_append_18 ?_
        refine lv_aload_n hx hb dX7_append_21 rfl (lv_at hl 0 rfl) ?_
        refine gf_4 hx hb hE hM hown w_1_36 dX7_append_22 ?_
        refine lv_iload_n hx hb dX7_append_25 rfl (lv_at hl 1 rfl) ?_
        refine lv_iload_n hx hb dX7_append_26 rfl (lv_at hl 2 rfl) ?_
        refine lv_ishr hx hb dX7_append_27 ?_
        refine lv_i2b (v := (b1 >>> (a2 &&& 31)).toInt8.toInt32) hx hb dX7_append_28 rfl ?_
        obtain ⟨hi_1, hf⟩ := i_n hf
        refine sa_2 hx hb hE hM hS hi_1 dX7_append_29 (fun H locs hM hS => ?_)
        refine lv_aload_n hx hb dX7_append_30 rfl (lv_at hl 0 rfl) ?_
        refine lv_dup hx hb dX7_append_31 rfl ?_
        refine gf_4 hx hb hE hM hown w_1_36 dX7_append_32 ?_
        refine lv_iconst (v := 1) hx hb dX7_append_35 (by decide) ?_
        refine lv_iadd hx hb dX7_append_36 ?_
        refine pf_4 hx hb hE hM hS hown w_1_36 dX7_append_37 (fun H locs hM hS => ?_)
        refine lv_iinc (v := a2 + (-8)) (lv' := [(2, .int (a2 + (-8))), (0, .ref (ga G 1)), (1, .int b1)]) hx hb dX7_append_40 hl (k := 2) rfl rfl (by decide) rfl (fun ls hl => ?_)
        refine lv_goto (tgt := 3) hx hb dX7_append_43 (by decide) ?_
        exact ih (mu (mu x 3 ((x 4 0).toNatClampNeg) (vp_nar .byte ((b1 >>> (a2 &&& 31)).toInt8.toInt32))) 4 0 ((x 4 0) + 1)) (a2 + (-8)) _ _ _ hf hM hS (lv_sub hl [1, 2, 0] rfl)
set_option maxHeartbeats 4000000 in
set_option maxRecDepth 100000 in
theorem c_X7_append (l : Launch) (fu nw : Nat) (G : GG) (x x' mo : Me) (a1 : Int32) (r : Unit) (hf : f_X7_append fu nw x a1 = some (x', r)) : Met l yX7_append [.code yX7_append cX7_append 3 none] rm_X7_append (va_Pc [.ref (ga G 1), .int a1] (Pre G nw x mo)) (PV G nw x' mo) 0 0 (gA G) := by
  refine mt_ofW (cc := cX7_append) (maxL := 3) (ret := none) (by decide +kernel) rfl ?_
  intro p e s m args below meth c s₁ B hml hv
  obtain ⟨rfl, hE, hM⟩ := hv
  have hx := B.exec
  have hb := B.bytes
  have hr := B.returns
  have hown : s.vm.findClass RX7 = some m.cls := findClass_of_methodNamed B.named
  have hlocks := B.notSynchronized
  have hS : va_S (gA G) s.heap s.heap [] := va_S.rf
  have hl := lv_entry ([.ref (ga G 1), .int a1]) (n := 3) (Nat.le_of_ble_eq_true rfl)
  rw [lg_entry_eq]
  generalize (lg_sl ([.ref (ga G 1), .int a1]) ++ List.replicate (3 - (lg_sl ([.ref (ga G 1), .int a1])).length) Slot.unset).toArray = ls at hl ⊢
  have hl : lv_has ls 3 [(0, .ref (ga G 1)), (1, .int a1)] := hl
  generalize ([.ref (ga G 1), .int a1] : List Value).toArray = args
  unfold f_X7_append at hf
  refine lv_bipush (v := 24) hx hb dX7_append_0 (by decide) ?_
  refine lv_istore_n (lv' := [(2, .int 24), (0, .ref (ga G 1)), (1, .int a1)]) hx hb dX7_append_2 rfl hl (by decide) rfl (fun ls hl => ?_)
  refine wk_X7_append_3 hx hb hml hown hE hr hlocks ?_ fu x 24 _ _ _ hf hM hS (lv_sub hl [1, 2, 0] rfl)
  intro x_4 H locs ls hf hM hS hl
  exact rt_vX hx hb hr hf hM hS dX7_append_46 hlocks
theorem k_X7_append {p : Program} {l : Launch} {e : Env} {R : Room} {s : State} {m : MethodId} {args : Array Value} {below : List Frame} {meth : Method} {c : Code} {H : Heap} {locs : List Loc} {cells slots : Nat} {Q : State → Prop} {cc : ByteArray} {pc nL : Nat} {ls : Array Slot} {rest : List Value} {G : GG} {fu nw : Nat} {x x' mo : Me} {own : String} {index : Nat} {a1 : Int32} {r : Unit} (hx : p.tables.exec = Jvm.exec) (hb : c.code = cc) (hml : c.maxLocals = nL) (hown : s.vm.findClass own = some m.cls) (hE : EnvP G s) (hM : MemP G nw x mo H) (hS : va_S (gA G) s.heap H locs) (hw : Cond.methodLink own index yX7_append ∈ lw_tbl) (hf : f_X7_append fu nw x a1 = some (x', r)) (h1 : 0 + 1 ≤ R.frames) (h2 : 8 + (3 + 11) + 0 ≤ R.locals) (hsz : ls.size = nL) (hW : (rest.map fun v => v.category).sum ≤ 8) (hcs : cells ≤ R.cells ∧ slots ≤ R.slots) (hdg : decode cc pc = .ok (.invokevirtual index, 3)) (kk : ∀ (H1 : Heap) (locs1 : List Loc), MemP G nw x' mo H1 → va_S (gA G) s.heap H1 locs1 → W p l e R s m args below meth c H1 locs1 cells slots Q (F0 m (pc + 3) ls rest)) : W p l e R s m args below meth c H locs cells slots Q (F0 m pc ls (.int a1 :: .ref (ga G 1) :: rest)) := mm_kv hS (mm_runV (n := 1) (o := 1) (C := RX7) (T := TX7) (N := 7) (ci := 7) (As := [.int a1]) hx hb hml hown hE hM hS (c_X7_append l fu nw G x x' mo a1 _ hf) (List.forall_mem_cons.mpr ⟨⟨hw, rfl⟩, List.forall_mem_cons.mpr ⟨⟨w_2_77, rfl⟩, List.forall_mem_cons.mpr ⟨⟨w_2_78, rfl⟩, List.forall_mem_cons.mpr ⟨⟨w_1_2, rfl⟩, List.forall_mem_cons.mpr ⟨⟨w_2_79, rfl⟩, fun _ h => absurd h List.not_mem_nil⟩⟩⟩⟩⟩) rfl rfl ⟨rfl, by decide, by decide, by decide +kernel⟩ ⟨h1, h2⟩ rfl rfl rfl hsz rfl hW hdg hcs) kk
def f_J7_fill_53178_3_5 (fu nw : Nat) (b1 : Int32) (b3 : Int32) (k : Me → Option (Me × Unit)) : Nat → Me → Int32 → Option (Me × Unit)
  | 0 => fun _ _ => none
  | n + 1 => fun x a2 => if b3 ≤ a2 then k x else if inb a2 7 = true then f_J7_fill_53178_3_5 fu nw b1 b3 k n (mu x 7 a2.toNatClampNeg b1) (a2 + 1) else none
def f_J7_fill_53178_3 (fu nw : Nat) (x : Me) (a1 : Int32) : Option (Me × Unit) := f_J7_fill_53178_3_5 fu nw a1 7 (fun (x_3 : Me) => some (x_3, ())) fu x 0
def rm_J7_fill_53178_3 : Room := { frames := 0, cells := 0, slots := 0, locals := 0 }
set_option maxHeartbeats 4000000 in
set_option maxRecDepth 100000 in
theorem wk_J7_fill_53178_3_5 {p : Program} {l : Launch} {e : Env} {s : State} {m : MethodId} {args : Array Value} {below : List Frame} {meth : Method} {c : Code} {fu nw : Nat} {G : GG} {mo : Me} {b1 : Int32} {b3 : Int32} (hx : p.tables.exec = Jvm.exec) (hb : c.code = cJ7_fill_53178) (hml : c.maxLocals = 4) (hown : s.vm.findClass RJ7 = some m.cls) (hE : EnvP G s) (hr : meth.sig.returnType = none) (hlocks : meth.locks = false) {x' : Me} {r : Unit} {k : Me → Option (Me × Unit)} (hk : ∀ (x : Me) (H : Heap) (locs : List Loc) (ls : Array Slot), k x = some (x', r) → MemP G nw x mo H → va_S (gA G) s.heap H locs → lv_has ls 4 [] → W p l e rm_J7_fill_53178_3 s m args below meth c H locs 0 0 (MQ below (PV G nw x' mo) args s 0 0 (gA G)) (F0 m 20 ls [])) : ∀ (n : Nat) (x : Me) (a2 : Int32) (H : Heap) (locs : List Loc) (ls : Array Slot), f_J7_fill_53178_3_5 fu nw b1 b3 k n x a2 = some (x', r) → MemP G nw x mo H → va_S (gA G) s.heap H locs → lv_has ls 4 [(0, .ref (ga G 3)), (1, .int b1), (2, .int a2), (3, .int b3)] → W p l e rm_J7_fill_53178_3 s m args below meth c H locs 0 0 (MQ below (PV G nw x' mo) args s 0 0 (gA G)) (F0 m 5 ls []) := by
  intro n
  induction n with
  | zero =>
    intro x a2 H locs ls hf hM hS hl
    exact nn hf
  | succ n ih =>
    intro x a2 H locs ls hf hM hS hl
    rw [f_J7_fill_53178_3_5] at hf
    refine lv_iload_n hx hb dJ7_fill_53178_5 rfl (lv_at hl 2 rfl) ?_
    refine lv_iload_n hx hb dJ7_fill_53178_6 rfl (lv_at hl 3 rfl) ?_
    refine lv_icmp_ge (tgt := 20) hx hb dJ7_fill_53178_7 (by decide) (fun hc_2 => ?_) (fun hc_2 => ?_)
    · replace hf := i_t hf hc_2
      exact hk x _ _ _ hf hM hS (lv_sub hl [] rfl)
    · replace hf := i_f hf hc_2
      refine lv_aload_n hx hb dJ7_fill_53178_10 rfl (lv_at hl 0 rfl) ?_
      refine lv_iload_n hx hb dJ7_fill_53178_11 rfl (lv_at hl 2 rfl) ?_
      refine lv_iload_n hx hb dJ7_fill_53178_12 rfl (lv_at hl 1 rfl) ?_
      obtain ⟨hi_1, hf⟩ := i_n hf
      refine sa_3 hx hb hE hM hS hi_1 dJ7_fill_53178_13 (fun H locs hM hS => ?_)
      refine lv_iinc (v := a2 + 1) (lv' := [(2, .int (a2 + 1)), (0, .ref (ga G 3)), (1, .int b1), (3, .int b3)]) hx hb dJ7_fill_53178_14 hl (k := 2) rfl rfl (by decide) rfl (fun ls hl => ?_)
      refine lv_goto (tgt := 5) hx hb dJ7_fill_53178_17 (by decide) ?_
      exact ih (mu x 7 a2.toNatClampNeg b1) (a2 + 1) _ _ _ hf hM hS (lv_sub hl [1, 2, 0, 3] rfl)
set_option maxHeartbeats 4000000 in
set_option maxRecDepth 100000 in
theorem c_J7_fill_53178_3 (l : Launch) (fu nw : Nat) (G : GG) (x x' mo : Me) (a1 : Int32) (r : Unit) (hf : f_J7_fill_53178_3 fu nw x a1 = some (x', r)) : Met l yJ7_fill_53178 [.code yJ7_fill_53178 cJ7_fill_53178 4 none] rm_J7_fill_53178_3 (va_Pc [.ref (ga G 3), .int a1] (Pre G nw x mo)) (PV G nw x' mo) 0 0 (gA G) := by
  refine mt_ofW (cc := cJ7_fill_53178) (maxL := 4) (ret := none) (by decide +kernel) rfl ?_
  intro p e s m args below meth c s₁ B hml hv
  obtain ⟨rfl, hE, hM⟩ := hv
  have hx := B.exec
  have hb := B.bytes
  have hr := B.returns
  have hown : s.vm.findClass RJ7 = some m.cls := findClass_of_methodNamed B.named
  have hlocks := B.notSynchronized
  have hS : va_S (gA G) s.heap s.heap [] := va_S.rf
  have hl := lv_entry ([.ref (ga G 3), .int a1]) (n := 4) (Nat.le_of_ble_eq_true rfl)
  rw [lg_entry_eq]
  generalize (lg_sl ([.ref (ga G 3), .int a1]) ++ List.replicate (4 - (lg_sl ([.ref (ga G 3), .int a1])).length) Slot.unset).toArray = ls at hl ⊢
  have hl : lv_has ls 4 [(0, .ref (ga G 3)), (1, .int a1)] := hl
  generalize ([.ref (ga G 3), .int a1] : List Value).toArray = args
  unfold f_J7_fill_53178_3 at hf
  refine lv_iconst (v := 0) hx hb dJ7_fill_53178_0 (by decide) ?_
  refine lv_istore_n (lv' := [(2, .int 0), (0, .ref (ga G 3)), (1, .int a1)]) hx hb dJ7_fill_53178_1 rfl hl (by decide) rfl (fun ls hl => ?_)
  refine lv_aload_n hx hb dJ7_fill_53178_2 rfl (lv_at hl 1 rfl) ?_
  refine ln_3 hx hb hE hM dJ7_fill_53178_3 ?_
  refine lv_istore_n (lv' := [(3, .int 7), (2, .int 0), (0, .ref (ga G 3)), (1, .int a1)]) hx hb dJ7_fill_53178_4 rfl hl (by decide) rfl (fun ls hl => ?_)
  refine wk_J7_fill_53178_3_5 hx hb hml hown hE hr hlocks ?_ fu x 0 _ _ _ hf hM hS (lv_sub hl [2, 3, 1, 0] rfl)
  intro x_3 H locs ls hf hM hS hl
  exact rt_vX hx hb hr hf hM hS dJ7_fill_53178_20 hlocks
theorem k_J7_fill_53178_3 {p : Program} {l : Launch} {e : Env} {R : Room} {s : State} {m : MethodId} {args : Array Value} {below : List Frame} {meth : Method} {c : Code} {H : Heap} {locs : List Loc} {cells slots : Nat} {Q : State → Prop} {cc : ByteArray} {pc nL : Nat} {ls : Array Slot} {rest : List Value} {G : GG} {fu nw : Nat} {x x' mo : Me} {own : String} {index : Nat} {a1 : Int32} {r : Unit} (hx : p.tables.exec = Jvm.exec) (hb : c.code = cc) (hml : c.maxLocals = nL) (hown : s.vm.findClass own = some m.cls) (hE : EnvP G s) (hM : MemP G nw x mo H) (hS : va_S (gA G) s.heap H locs) (hw : Cond.methodLink own index yJ7_fill_53178 ∈ lw_tbl) (hf : f_J7_fill_53178_3 fu nw x a1 = some (x', r)) (h1 : 0 + 1 ≤ R.frames) (h2 : 8 + (4 + 11) + 0 ≤ R.locals) (hsz : ls.size = nL) (hW : (rest.map fun v => v.category).sum ≤ 8) (hcs : cells ≤ R.cells ∧ slots ≤ R.slots) (hdg : decode cc pc = .ok (.invokestatic index, 3)) (kk : ∀ (H1 : Heap) (locs1 : List Loc), MemP G nw x' mo H1 → va_S (gA G) s.heap H1 locs1 → W p l e R s m args below meth c H1 locs1 cells slots Q (F0 m (pc + 3) ls rest)) : W p l e R s m args below meth c H locs cells slots Q (F0 m pc ls (.int a1 :: .ref (ga G 3) :: rest)) := mm_kv hS (mm_runS (n := 2) (As := [.ref (ga G 3), .int a1]) hx hb hml hown hE hM hS (c_J7_fill_53178_3 l fu nw G x x' mo a1 _ hf) (List.forall_mem_cons.mpr ⟨⟨hw, rfl⟩, List.forall_mem_cons.mpr ⟨⟨w_2_95, rfl⟩, List.forall_mem_cons.mpr ⟨⟨w_1_13, rfl⟩, List.forall_mem_cons.mpr ⟨⟨w_2_96, rfl⟩, fun _ h => absurd h List.not_mem_nil⟩⟩⟩⟩) rfl rfl ⟨by decide, by decide, by decide +kernel⟩ ⟨h1, h2⟩ rfl hsz rfl hW hdg hcs) kk
def f_X7_byteHere (fu nw : Nat) (x : Me) : Option (Me × Int32) := if (x 5 0) < 0 then some (x, (-1)) else if (x 6 0) ≤ (x 5 0) then some (x, (-1)) else if 600 ≤ (x 5 0) then some (x, (-1)) else if inb (x 5 0) 600 = true then some (x, (x 3 ((x 5 0).toNatClampNeg)) &&& 255) else none
def rm_X7_byteHere : Room := { frames := 0, cells := 0, slots := 0, locals := 0 }
set_option maxHeartbeats 4000000 in
set_option maxRecDepth 100000 in
theorem c_X7_byteHere (l : Launch) (fu nw : Nat) (G : GG) (x x' mo : Me) (r : Int32) (hf : f_X7_byteHere fu nw x = some (x', r)) : Met l yX7_byteHere [.code yX7_byteHere cX7_byteHere 1 (some .int)] rm_X7_byteHere (va_Pc [.ref (ga G 1)] (Pre G nw x mo)) (PI G nw x' mo r) 0 0 (gA G) := by
  refine mt_ofW (cc := cX7_byteHere) (maxL := 1) (ret := (some .int)) (by decide +kernel) rfl ?_
  intro p e s m args below meth c s₁ B hml hv
  obtain ⟨rfl, hE, hM⟩ := hv
  have hx := B.exec
  have hb := B.bytes
  have hr := B.returns
  have hown : s.vm.findClass RX7 = some m.cls := findClass_of_methodNamed B.named
  have hlocks := B.notSynchronized
  have hS : va_S (gA G) s.heap s.heap [] := va_S.rf
  have hl := lv_entry ([.ref (ga G 1)]) (n := 1) (Nat.le_of_ble_eq_true rfl)
  rw [lg_entry_eq]
  generalize (lg_sl ([.ref (ga G 1)]) ++ List.replicate (1 - (lg_sl ([.ref (ga G 1)])).length) Slot.unset).toArray = ls at hl ⊢
  have hl : lv_has ls 1 [(0, .ref (ga G 1))] := hl
  generalize ([.ref (ga G 1)] : List Value).toArray = args
  unfold f_X7_byteHere at hf
  refine lv_aload_n hx hb dX7_byteHere_0 rfl (lv_at hl 0 rfl) ?_
  refine gf_5 hx hb hE hM hown w_1_37 dX7_byteHere_1 ?_
  refine lv_if_lt (tgt := 44) hx hb dX7_byteHere_4 (by decide) (fun hc_4 => ?_) (fun hc_4 => ?_)
  · replace hf := i_t hf hc_4
    refine lv_iconst (v := (-1)) hx hb dX7_byteHere_44 (by decide) ?_
    exact rt_iX hx hb hr hf hM hS dX7_byteHere_45 hlocks
  · replace hf := i_f hf hc_4
    refine lv_aload_n hx hb dX7_byteHere_7 rfl (lv_at hl 0 rfl) ?_
    refine gf_5 hx hb hE hM hown w_1_37 dX7_byteHere_8 ?_
    refine lv_aload_n hx hb dX7_byteHere_11 rfl (lv_at hl 0 rfl) ?_
    refine gf_6 hx hb hE hM hown w_1_38 dX7_byteHere_12 ?_
    refine lv_icmp_ge (tgt := 44) hx hb dX7_byteHere_15 (by decide) (fun hc_3 => ?_) (fun hc_3 => ?_)
    · replace hf := i_t hf hc_3
      refine lv_iconst (v := (-1)) hx hb dX7_byteHere_44 (by decide) ?_
      exact rt_iX hx hb hr hf hM hS dX7_byteHere_45 hlocks
    · replace hf := i_f hf hc_3
      refine lv_aload_n hx hb dX7_byteHere_18 rfl (lv_at hl 0 rfl) ?_
      refine gf_5 hx hb hE hM hown w_1_37 dX7_byteHere_19 ?_
      refine lv_sipush (v := 600) hx hb dX7_byteHere_22 (by decide) ?_
      refine lv_icmp_ge (tgt := 44) hx hb dX7_byteHere_25 (by decide) (fun hc_2 => ?_) (fun hc_2 => ?_)
      · replace hf := i_t hf hc_2
        refine lv_iconst (v := (-1)) hx hb dX7_byteHere_44 (by decide) ?_
        exact rt_iX hx hb hr hf hM hS dX7_byteHere_45 hlocks
      · replace hf := i_f hf hc_2
        refine lv_aload_n hx hb dX7_byteHere_28 rfl (lv_at hl 0 rfl) ?_
        refine gr_2 hx hb hE hM hown w_1_34 dX7_byteHere_29 ?_
        refine lv_aload_n hx hb dX7_byteHere_32 rfl (lv_at hl 0 rfl) ?_
        refine gf_5 hx hb hE hM hown w_1_37 dX7_byteHere_33 ?_
        obtain ⟨hi_1, hf⟩ := i_n hf
        refine la_2 hx hb hE hM hi_1 dX7_byteHere_36 ?_
        refine lv_sipush (v := 255) hx hb dX7_byteHere_37 (by decide) ?_
        refine lv_iand hx hb dX7_byteHere_40 ?_
        refine lv_goto (tgt := 45) hx hb dX7_byteHere_41 (by decide) ?_
        exact rt_iX hx hb hr hf hM hS dX7_byteHere_45 hlocks
theorem k_X7_byteHere {p : Program} {l : Launch} {e : Env} {R : Room} {s : State} {m : MethodId} {args : Array Value} {below : List Frame} {meth : Method} {c : Code} {H : Heap} {locs : List Loc} {cells slots : Nat} {Q : State → Prop} {cc : ByteArray} {pc nL : Nat} {ls : Array Slot} {rest : List Value} {G : GG} {fu nw : Nat} {x x' mo : Me} {own : String} {index : Nat} {r : Int32} (hx : p.tables.exec = Jvm.exec) (hb : c.code = cc) (hml : c.maxLocals = nL) (hown : s.vm.findClass own = some m.cls) (hE : EnvP G s) (hM : MemP G nw x mo H) (hS : va_S (gA G) s.heap H locs) (hw : Cond.methodLink own index yX7_byteHere ∈ lw_tbl) (hf : f_X7_byteHere fu nw x = some (x', r)) (h1 : 0 + 1 ≤ R.frames) (h2 : 8 + (1 + 11) + 0 ≤ R.locals) (hsz : ls.size = nL) (hW : (rest.map fun v => v.category).sum ≤ 8) (hcs : cells ≤ R.cells ∧ slots ≤ R.slots) (hdg : decode cc pc = .ok (.invokevirtual index, 3)) (kk : ∀ (H1 : Heap) (locs1 : List Loc), MemP G nw x' mo H1 → va_S (gA G) s.heap H1 locs1 → W p l e R s m args below meth c H1 locs1 cells slots Q (F0 m (pc + 3) ls (.int r :: rest))) : W p l e R s m args below meth c H locs cells slots Q (F0 m pc ls (.ref (ga G 1) :: rest)) := mm_ki hS (mm_runV (n := 0) (o := 1) (C := RX7) (T := TX7) (N := 7) (ci := 7) (As := []) hx hb hml hown hE hM hS (c_X7_byteHere l fu nw G x x' mo _ hf) (List.forall_mem_cons.mpr ⟨⟨hw, rfl⟩, List.forall_mem_cons.mpr ⟨⟨w_2_103, rfl⟩, List.forall_mem_cons.mpr ⟨⟨w_0_1, rfl⟩, List.forall_mem_cons.mpr ⟨⟨w_1_2, rfl⟩, List.forall_mem_cons.mpr ⟨⟨w_2_104, rfl⟩, fun _ h => absurd h List.not_mem_nil⟩⟩⟩⟩⟩) rfl rfl ⟨rfl, by decide, by decide, by decide +kernel⟩ ⟨h1, h2⟩ rfl rfl rfl hsz rfl hW hdg hcs) kk
def f_X7_skipBlanks_0 (fu nw : Nat) (k : Me → Option (Me × Unit)) : Nat → Me → Option (Me × Unit)
  | 0 => fun _ => none
  | n + 1 => fun x => if (x 6 0) ≤ (x 5 0) then k x else ob (f_X7_byteHere fu nw x) (fun x_3 r_3 => if r_3 = 10 then f_X7_skipBlanks_0 fu nw k n (mu x_3 5 0 ((x_3 5 0) + 1)) else ob (f_X7_byteHere fu nw x_3) (fun x_4 r_4 => if r_4 = 32 then f_X7_skipBlanks_0 fu nw k n (mu x_4 5 0 ((x_4 5 0) + 1)) else k x_4))
def f_X7_skipBlanks (fu nw : Nat) (x : Me) : Option (Me × Unit) := if (x 6 0) ≤ (x 5 0) then some (x, ()) else ob (f_X7_byteHere fu nw x) (fun x_1 r_1 => jn (fun (x_2 : Me) => f_X7_skipBlanks_0 fu nw (fun (x_8 : Me) => some (x_8, ())) fu (mu x_2 5 0 ((x_2 5 0) + 1))) (fun j_2 => if r_1 = 10 then j_2 x_1 else ob (f_X7_byteHere fu nw x_1) (fun x_9 r_9 => if r_9 = 32 then j_2 x_9 else some (x_9, ()))))
def rm_X7_skipBlanks : Room := { frames := 1, cells := 0, slots := 0, locals := 20 }
set_option maxHeartbeats 4000000 in
set_option maxRecDepth 100000 in
theorem wk_X7_skipBlanks_0 {p : Program} {l : Launch} {e : Env} {s : State} {m : MethodId} {args : Array Value} {below : List Frame} {meth : Method} {c : Code} {fu nw : Nat} {G : GG} {mo : Me} (hx : p.tables.exec = Jvm.exec) (hb : c.code = cX7_skipBlanks) (hml : c.maxLocals = 1) (hown : s.vm.findClass RX7 = some m.cls) (hE : EnvP G s) (hr : meth.sig.returnType = none) (hlocks : meth.locks = false) {x' : Me} {r : Unit} {k : Me → Option (Me × Unit)} (hk : ∀ (x : Me) (H : Heap) (locs : List Loc) (ls : Array Slot), k x = some (x', r) → MemP G nw x mo H → va_S (gA G) s.heap H locs → lv_has ls 1 [] → W p l e rm_X7_skipBlanks s m args below meth c H locs 0 0 (MQ below (PV G nw x' mo) args s 0 0 (gA G)) (F0 m 42 ls [])) : ∀ (n : Nat) (x : Me) (H : Heap) (locs : List Loc) (ls : Array Slot), f_X7_skipBlanks_0 fu nw k n x = some (x', r) → MemP G nw x mo H → va_S (gA G) s.heap H locs → lv_has ls 1 [(0, .ref (ga G 1))] → W p l e rm_X7_skipBlanks s m args below meth c H locs 0 0 (MQ below (PV G nw x' mo) args s 0 0 (gA G)) (F0 m 0 ls []) := by
  intro n
  induction n with
  | zero =>
    intro x H locs ls hf hM hS hl
    exact nn hf
  | succ n ih =>
    intro x H locs ls hf hM hS hl
    rw [f_X7_skipBlanks_0] at hf
    refine lv_aload_n hx hb dX7_skipBlanks_0 rfl (lv_at hl 0 rfl) ?_
    refine gf_5 hx hb hE hM hown w_1_37 dX7_skipBlanks_1 ?_
    refine lv_aload_n hx hb dX7_skipBlanks_4 rfl (lv_at hl 0 rfl) ?_
    refine gf_6 hx hb hE hM hown w_1_38 dX7_skipBlanks_5 ?_
    refine lv_icmp_ge (tgt := 42) hx hb dX7_skipBlanks_8 (by decide) (fun hc_7 => ?_) (fun hc_7 => ?_)
    · replace hf := i_t hf hc_7
      exact hk x _ _ _ hf hM hS (lv_sub hl [] rfl)
    · replace hf := i_f hf hc_7
      refine lv_aload_n hx hb dX7_skipBlanks_11 rfl (lv_at hl 0 rfl) ?_
      obtain ⟨x_3, r_3, hq_3, hf⟩ := ob_some hf
      refine k_X7_byteHere hx hb hml hown hE hM hS w_2_101 hq_3 (Nat.le_of_ble_eq_true rfl) (Nat.le_of_ble_eq_true rfl) hl.1 (Nat.le_of_ble_eq_true rfl) ⟨Nat.zero_le _, Nat.zero_le _⟩ dX7_skipBlanks_12 (fun H locs hM hS => ?_)
      refine lv_bipush (v := 10) hx hb dX7_skipBlanks_15 (by decide) ?_
      refine lv_icmp_eq (tgt := 29) hx hb dX7_skipBlanks_17 (by decide) (fun hc_6 => ?_) (fun hc_6 => ?_)
      · replace hf := i_t hf hc_6
        refine lv_aload_n hx hb dX7_skipBlanks_29 rfl (lv_at hl 0 rfl) ?_
        refine lv_dup hx hb dX7_skipBlanks_30 rfl ?_
        refine gf_5 hx hb hE hM hown w_1_37 dX7_skipBlanks_31 ?_
        refine lv_iconst (v := 1) hx hb dX7_skipBlanks_34 (by decide) ?_
        refine lv_iadd hx hb dX7_skipBlanks_35 ?_
        refine pf_5 hx hb hE hM hS hown w_1_37 dX7_skipBlanks_36 (fun H locs hM hS => ?_)
        refine lv_goto (tgt := 0) hx hb dX7_skipBlanks_39 (by decide) ?_
        exact ih (mu x_3 5 0 ((x_3 5 0) + 1)) _ _ _ hf hM hS (lv_sub hl [0] rfl)
      · replace hf := i_f hf hc_6
        refine lv_aload_n hx hb dX7_skipBlanks_20 rfl (lv_at hl 0 rfl) ?_
        obtain ⟨x_4, r_4, hq_4, hf⟩ := ob_some hf
        refine k_X7_byteHere hx hb hml hown hE hM hS w_2_101 hq_4 (Nat.le_of_ble_eq_true rfl) (Nat.le_of_ble_eq_true rfl) hl.1 (Nat.le_of_ble_eq_true rfl) ⟨Nat.zero_le _, Nat.zero_le _⟩ dX7_skipBlanks_21 (fun H locs hM hS => ?_)
        refine lv_bipush (v := 32) hx hb dX7_skipBlanks_24 (by decide) ?_
        refine lv_icmp_ne (tgt := 42) hx hb dX7_skipBlanks_26 (by decide) (fun hc_5 => ?_) (fun hc_5 => ?_)
        · replace hf := i_f hf hc_5
          exact hk x_4 _ _ _ hf hM hS (lv_sub hl [] rfl)
        · replace hf := i_t hf hc_5
          refine lv_aload_n hx hb dX7_skipBlanks_29 rfl (lv_at hl 0 rfl) ?_
          refine lv_dup hx hb dX7_skipBlanks_30 rfl ?_
          refine gf_5 hx hb hE hM hown w_1_37 dX7_skipBlanks_31 ?_
          refine lv_iconst (v := 1) hx hb dX7_skipBlanks_34 (by decide) ?_
          refine lv_iadd hx hb dX7_skipBlanks_35 ?_
          refine pf_5 hx hb hE hM hS hown w_1_37 dX7_skipBlanks_36 (fun H locs hM hS => ?_)
          refine lv_goto (tgt := 0) hx hb dX7_skipBlanks_39 (by decide) ?_
          exact ih (mu x_4 5 0 ((x_4 5 0) + 1)) _ _ _ hf hM hS (lv_sub hl [0] rfl)
set_option maxHeartbeats 4000000 in
set_option maxRecDepth 100000 in
theorem c_X7_skipBlanks (l : Launch) (fu nw : Nat) (G : GG) (x x' mo : Me) (r : Unit) (hf : f_X7_skipBlanks fu nw x = some (x', r)) : Met l yX7_skipBlanks [.code yX7_skipBlanks cX7_skipBlanks 1 none] rm_X7_skipBlanks (va_Pc [.ref (ga G 1)] (Pre G nw x mo)) (PV G nw x' mo) 0 0 (gA G) := by
  refine mt_ofW (cc := cX7_skipBlanks) (maxL := 1) (ret := none) (by decide +kernel) rfl ?_
  intro p e s m args below meth c s₁ B hml hv
  obtain ⟨rfl, hE, hM⟩ := hv
  have hx := B.exec
  have hb := B.bytes
  have hr := B.returns
  have hown : s.vm.findClass RX7 = some m.cls := findClass_of_methodNamed B.named
  have hlocks := B.notSynchronized
  have hS : va_S (gA G) s.heap s.heap [] := va_S.rf
  have hl := lv_entry ([.ref (ga G 1)]) (n := 1) (Nat.le_of_ble_eq_true rfl)
  rw [lg_entry_eq]
  generalize (lg_sl ([.ref (ga G 1)]) ++ List.replicate (1 - (lg_sl ([.ref (ga G 1)])).length) Slot.unset).toArray = ls at hl ⊢
  have hl : lv_has ls 1 [(0, .ref (ga G 1))] := hl
  generalize ([.ref (ga G 1)] : List Value).toArray = args
  unfold f_X7_skipBlanks at hf
  refine lv_aload_n hx hb dX7_skipBlanks_0 rfl (lv_at hl 0 rfl) ?_
  refine gf_5 hx hb hE hM hown w_1_37 dX7_skipBlanks_1 ?_
  refine lv_aload_n hx hb dX7_skipBlanks_4 rfl (lv_at hl 0 rfl) ?_
  refine gf_6 hx hb hE hM hown w_1_38 dX7_skipBlanks_5 ?_
  refine lv_icmp_ge (tgt := 42) hx hb dX7_skipBlanks_8 (by decide) (fun hc_12 => ?_) (fun hc_12 => ?_)
  · replace hf := i_t hf hc_12
    exact rt_vX hx hb hr hf hM hS dX7_skipBlanks_42 hlocks
  · replace hf := i_f hf hc_12
    refine lv_aload_n hx hb dX7_skipBlanks_11 rfl (lv_at hl 0 rfl) ?_
    obtain ⟨x_1, r_1, hq_1, hf⟩ := ob_some hf
    refine k_X7_byteHere hx hb hml hown hE hM hS w_2_101 hq_1 (Nat.le_of_ble_eq_true rfl) (Nat.le_of_ble_eq_true rfl) hl.1 (Nat.le_of_ble_eq_true rfl) ⟨Nat.zero_le _, Nat.zero_le _⟩ dX7_skipBlanks_12 (fun H locs hM hS => ?_)
    refine lv_bipush (v := 10) hx hb dX7_skipBlanks_15 (by decide) ?_
    have hj_2 : ∀ (x_2 : Me) (H : Heap) (locs : List Loc) (ls : Array Slot), jnA hf x_2 = some (x', r) → MemP G nw x_2 mo H → va_S (gA G) s.heap H locs → lv_has ls 1 [(0, .ref (ga G 1))] → W p l e rm_X7_skipBlanks s m args below meth c H locs 0 0 (MQ below (PV G nw x' mo) args s 0 0 (gA G)) (F0 m 29 ls []) := by
      intro x_2 H locs ls hf hM hS hl
      refine lv_aload_n hx hb dX7_skipBlanks_29 rfl (lv_at hl 0 rfl) ?_
      refine lv_dup hx hb dX7_skipBlanks_30 rfl ?_
      refine gf_5 hx hb hE hM hown w_1_37 dX7_skipBlanks_31 ?_
      refine lv_iconst (v := 1) hx hb dX7_skipBlanks_34 (by decide) ?_
      refine lv_iadd hx hb dX7_skipBlanks_35 ?_
      refine pf_5 hx hb hE hM hS hown w_1_37 dX7_skipBlanks_36 (fun H locs hM hS => ?_)
      refine lv_goto (tgt := 0) hx hb dX7_skipBlanks_39 (by decide) ?_
      refine wk_X7_skipBlanks_0 hx hb hml hown hE hr hlocks ?_ fu (mu x_2 5 0 ((x_2 5 0) + 1)) _ _ _ hf hM hS (lv_sub hl [0] rfl)
      intro x_8 H locs ls hf hM hS hl
      exact rt_vX hx hb hr hf hM hS dX7_skipBlanks_42 hlocks
    replace hf := jn_use hf
    refine lv_icmp_eq (tgt := 29) hx hb dX7_skipBlanks_17 (by decide) (fun hc_11 => ?_) (fun hc_11 => ?_)
    · replace hf := i_t hf hc_11
      exact hj_2 x_1 _ _ _ hf hM hS (lv_sub hl [0] rfl)
    · replace hf := i_f hf hc_11
      refine lv_aload_n hx hb dX7_skipBlanks_20 rfl (lv_at hl 0 rfl) ?_
      obtain ⟨x_9, r_9, hq_9, hf⟩ := ob_some hf
      refine k_X7_byteHere hx hb hml hown hE hM hS w_2_101 hq_9 (Nat.le_of_ble_eq_true rfl) (Nat.le_of_ble_eq_true rfl) hl.1 (Nat.le_of_ble_eq_true rfl) ⟨Nat.zero_le _, Nat.zero_le _⟩ dX7_skipBlanks_21 (fun H locs hM hS => ?_)
      refine lv_bipush (v := 32) hx hb dX7_skipBlanks_24 (by decide) ?_
      refine lv_icmp_ne (tgt := 42) hx hb dX7_skipBlanks_26 (by decide) (fun hc_10 => ?_) (fun hc_10 => ?_)
      · replace hf := i_f hf hc_10
        exact rt_vX hx hb hr hf hM hS dX7_skipBlanks_42 hlocks
      · replace hf := i_t hf hc_10
        exact hj_2 x_9 _ _ _ hf hM hS (lv_sub hl [0] rfl)
theorem k_X7_skipBlanks {p : Program} {l : Launch} {e : Env} {R : Room} {s : State} {m : MethodId} {args : Array Value} {below : List Frame} {meth : Method} {c : Code} {H : Heap} {locs : List Loc} {cells slots : Nat} {Q : State → Prop} {cc : ByteArray} {pc nL : Nat} {ls : Array Slot} {rest : List Value} {G : GG} {fu nw : Nat} {x x' mo : Me} {own : String} {index : Nat} {r : Unit} (hx : p.tables.exec = Jvm.exec) (hb : c.code = cc) (hml : c.maxLocals = nL) (hown : s.vm.findClass own = some m.cls) (hE : EnvP G s) (hM : MemP G nw x mo H) (hS : va_S (gA G) s.heap H locs) (hw : Cond.methodLink own index yX7_skipBlanks ∈ lw_tbl) (hf : f_X7_skipBlanks fu nw x = some (x', r)) (h1 : 1 + 1 ≤ R.frames) (h2 : 8 + (1 + 11) + 20 ≤ R.locals) (hsz : ls.size = nL) (hW : (rest.map fun v => v.category).sum ≤ 8) (hcs : cells ≤ R.cells ∧ slots ≤ R.slots) (hdg : decode cc pc = .ok (.invokevirtual index, 3)) (kk : ∀ (H1 : Heap) (locs1 : List Loc), MemP G nw x' mo H1 → va_S (gA G) s.heap H1 locs1 → W p l e R s m args below meth c H1 locs1 cells slots Q (F0 m (pc + 3) ls rest)) : W p l e R s m args below meth c H locs cells slots Q (F0 m pc ls (.ref (ga G 1) :: rest)) := mm_kv hS (mm_runV (n := 0) (o := 1) (C := RX7) (T := TX7) (N := 7) (ci := 7) (As := []) hx hb hml hown hE hM hS (c_X7_skipBlanks l fu nw G x x' mo _ hf) (List.forall_mem_cons.mpr ⟨⟨hw, rfl⟩, List.forall_mem_cons.mpr ⟨⟨w_2_99, rfl⟩, List.forall_mem_cons.mpr ⟨⟨w_0_0, rfl⟩, List.forall_mem_cons.mpr ⟨⟨w_1_2, rfl⟩, List.forall_mem_cons.mpr ⟨⟨w_2_100, rfl⟩, fun _ h => absurd h List.not_mem_nil⟩⟩⟩⟩⟩) rfl rfl ⟨rfl, by decide, by decide, by decide +kernel⟩ ⟨h1, h2⟩ rfl rfl rfl hsz rfl hW hdg hcs) kk
def f_X7_spelling (fu nw : Nat) (x : Me) (a0 : Int32) : Option (Me × Nat) := if a0 = 0 then some (x, 0) else if a0 = 1 then some (x, 1) else if a0 = 2 then some (x, 2) else if a0 = 3 then some (x, 3) else if a0 = 4 then some (x, 4) else if a0 = 5 then some (x, 5) else some (x, 6)
def rm_X7_spelling : Room := { frames := 0, cells := 0, slots := 0, locals := 0 }
set_option maxHeartbeats 4000000 in
set_option maxRecDepth 100000 in
theorem c_X7_spelling (l : Launch) (fu nw : Nat) (G : GG) (x x' mo : Me) (a0 : Int32) (r : Nat) (hf : f_X7_spelling fu nw x a0 = some (x', r)) : Met l yX7_spelling [.code yX7_spelling cX7_spelling 1 (some (.object "java/lang/String"))] rm_X7_spelling (va_Pc [.int a0] (Pre G nw x mo)) (PQ G nw x' mo (some (gk G r))) 0 0 (gA G) := by
  refine mt_ofW (cc := cX7_spelling) (maxL := 1) (ret := (some (.object "java/lang/String"))) (by decide +kernel) rfl ?_
  intro p e s m args below meth c s₁ B hml hv
  obtain ⟨rfl, hE, hM⟩ := hv
  have hx := B.exec
  have hb := B.bytes
  have hr := B.returns
  have hown : s.vm.findClass RX7 = some m.cls := findClass_of_methodNamed B.named
  have hlocks := B.notSynchronized
  have hS : va_S (gA G) s.heap s.heap [] := va_S.rf
  have hl := lv_entry ([.int a0]) (n := 1) (Nat.le_of_ble_eq_true rfl)
  rw [lg_entry_eq]
  generalize (lg_sl ([.int a0]) ++ List.replicate (1 - (lg_sl ([.int a0])).length) Slot.unset).toArray = ls at hl ⊢
  have hl : lv_has ls 1 [(0, .int a0)] := hl
  generalize ([.int a0] : List Value).toArray = args
  unfold f_X7_spelling at hf
  refine lv_iload_n hx hb dX7_spelling_0 rfl (lv_at hl 0 rfl) ?_
  by_cases hc_1 : a0 = 0
  · replace hf := i_t hf hc_1
    refine lv_tabK (k := 0) (tgt := 40) hx hb dX7_spelling_1 hc_1 (by decide) (by decide) rfl (by decide) ?_
    refine va_ldcS hx hb hown (hE.2.2.2.2.2.2.2.1 0 (by decide)) dX7_spelling_40 ?_
    exact rt_s hx hb hr hf hM hS dX7_spelling_42 hlocks
  replace hf := i_f hf hc_1
  by_cases hc_2 : a0 = 1
  · replace hf := i_t hf hc_2
    refine lv_tabK (k := 1) (tgt := 43) hx hb dX7_spelling_1 hc_2 (by decide) (by decide) rfl (by decide) ?_
    refine va_ldcS hx hb hown (hE.2.2.2.2.2.2.2.1 1 (by decide)) dX7_spelling_43 ?_
    exact rt_s hx hb hr hf hM hS dX7_spelling_45 hlocks
  replace hf := i_f hf hc_2
  by_cases hc_3 : a0 = 2
  · replace hf := i_t hf hc_3
    refine lv_tabK (k := 2) (tgt := 46) hx hb dX7_spelling_1 hc_3 (by decide) (by decide) rfl (by decide) ?_
    refine va_ldcS hx hb hown (hE.2.2.2.2.2.2.2.1 2 (by decide)) dX7_spelling_46 ?_
    exact rt_s hx hb hr hf hM hS dX7_spelling_48 hlocks
  replace hf := i_f hf hc_3
  by_cases hc_4 : a0 = 3
  · replace hf := i_t hf hc_4
    refine lv_tabK (k := 3) (tgt := 49) hx hb dX7_spelling_1 hc_4 (by decide) (by decide) rfl (by decide) ?_
    refine va_ldcS hx hb hown (hE.2.2.2.2.2.2.2.1 3 (by decide)) dX7_spelling_49 ?_
    exact rt_s hx hb hr hf hM hS dX7_spelling_51 hlocks
  replace hf := i_f hf hc_4
  by_cases hc_5 : a0 = 4
  · replace hf := i_t hf hc_5
    refine lv_tabK (k := 4) (tgt := 52) hx hb dX7_spelling_1 hc_5 (by decide) (by decide) rfl (by decide) ?_
    refine va_ldcS hx hb hown (hE.2.2.2.2.2.2.2.1 4 (by decide)) dX7_spelling_52 ?_
    exact rt_s hx hb hr hf hM hS dX7_spelling_54 hlocks
  replace hf := i_f hf hc_5
  by_cases hc_6 : a0 = 5
  · replace hf := i_t hf hc_6
    refine lv_tabK (k := 5) (tgt := 55) hx hb dX7_spelling_1 hc_6 (by decide) (by decide) rfl (by decide) ?_
    refine va_ldcS hx hb hown (hE.2.2.2.2.2.2.2.1 5 (by decide)) dX7_spelling_55 ?_
    exact rt_s hx hb hr hf hM hS dX7_spelling_57 hlocks
  replace hf := i_f hf hc_6
  refine lv_tableOut (tgt := 58) hx hb dX7_spelling_1 (by have q0 := lv_neT (a := 0) hc_1 rfl; have q1 := lv_neT (a := 1) hc_2 rfl; have q2 := lv_neT (a := 2) hc_3 rfl; have q3 := lv_neT (a := 3) hc_4 rfl; have q4 := lv_neT (a := 4) hc_5 rfl; have q5 := lv_neT (a := 5) hc_6 rfl; omega) (by decide) ?_
  refine va_ldcS hx hb hown (hE.2.2.2.2.2.2.2.1 6 (by decide)) dX7_spelling_58 ?_
  exact rt_s hx hb hr hf hM hS dX7_spelling_60 hlocks
theorem k_X7_spelling {p : Program} {l : Launch} {e : Env} {R : Room} {s : State} {m : MethodId} {args : Array Value} {below : List Frame} {meth : Method} {c : Code} {H : Heap} {locs : List Loc} {cells slots : Nat} {Q : State → Prop} {cc : ByteArray} {pc nL : Nat} {ls : Array Slot} {rest : List Value} {G : GG} {fu nw : Nat} {x x' mo : Me} {own : String} {index : Nat} {a0 : Int32} {r : Nat} (hx : p.tables.exec = Jvm.exec) (hb : c.code = cc) (hml : c.maxLocals = nL) (hown : s.vm.findClass own = some m.cls) (hE : EnvP G s) (hM : MemP G nw x mo H) (hS : va_S (gA G) s.heap H locs) (hw : Cond.methodLink own index yX7_spelling ∈ lw_tbl) (hf : f_X7_spelling fu nw x a0 = some (x', r)) (h1 : 0 + 1 ≤ R.frames) (h2 : 8 + (1 + 11) + 0 ≤ R.locals) (hsz : ls.size = nL) (hW : (rest.map fun v => v.category).sum ≤ 8) (hcs : cells ≤ R.cells ∧ slots ≤ R.slots) (hdg : decode cc pc = .ok (.invokestatic index, 3)) (kk : ∀ (H1 : Heap) (locs1 : List Loc), MemP G nw x' mo H1 → va_S (gA G) s.heap H1 locs1 → W p l e R s m args below meth c H1 locs1 cells slots Q (F0 m (pc + 3) ls (.ref (gk G r) :: rest))) : W p l e R s m args below meth c H locs cells slots Q (F0 m pc ls (.int a0 :: rest)) := mm_kq hS (mm_runS (n := 1) (As := [.int a0]) hx hb hml hown hE hM hS (c_X7_spelling l fu nw G x x' mo a0 _ hf) (List.forall_mem_cons.mpr ⟨⟨hw, rfl⟩, List.forall_mem_cons.mpr ⟨⟨w_2_114, rfl⟩, List.forall_mem_cons.mpr ⟨⟨w_1_2, rfl⟩, List.forall_mem_cons.mpr ⟨⟨w_2_115, rfl⟩, fun _ h => absurd h List.not_mem_nil⟩⟩⟩⟩) rfl rfl ⟨by decide, by decide, by decide +kernel⟩ ⟨h1, h2⟩ rfl hsz rfl hW hdg hcs) kk
def f_X7_spells_26 (fu nw : Nat) (r1 : Nat) (b2 : Int32) (b3 : Int32) (k : Me → Option (Me × Int32)) : Nat → Me → Int32 → Option (Me × Int32)
  | 0 => fun _ _ => none
  | n + 1 => fun x a4 => if b3 ≤ a4 then k x else if inb (b2 + a4) 600 = true then if r1 < 8 then if inb a4 (lenS.getD r1 0) = true then if (x 3 ((b2 + a4).toNatClampNeg)) = (sCh r1 a4) then f_X7_spells_26 fu nw r1 b2 b3 k n x (a4 + 1) else some (x, 0) else none else none else none
def f_X7_spells (fu nw : Nat) (x : Me) (r1 : Nat) (a2 : Int32) (a3 : Int32) : Option (Me × Int32) := if r1 < 8 then if a2 < 0 then some (x, 0) else if a3 = (sLen r1) then if (a2 + a3) ≤ 600 then f_X7_spells_26 fu nw r1 a2 a3 (fun (x_7 : Me) => some (x_7, 1)) fu x 0 else some (x, 0) else some (x, 0) else none
def rm_X7_spells : Room := { frames := 4, cells := 0, slots := 0, locals := 85 }
set_option maxHeartbeats 4000000 in
set_option maxRecDepth 100000 in
theorem wk_X7_spells_26 {p : Program} {l : Launch} {e : Env} {s : State} {m : MethodId} {args : Array Value} {below : List Frame} {meth : Method} {c : Code} {fu nw : Nat} {G : GG} {mo : Me} {r1 : Nat} {b2 : Int32} {b3 : Int32} (hx : p.tables.exec = Jvm.exec) (hb : c.code = cX7_spells) (hml : c.maxLocals = 5) (hown : s.vm.findClass RX7 = some m.cls) (hE : EnvP G s) (hr : meth.sig.returnType = (some .boolean)) (hlocks : meth.locks = false) {x' : Me} {r : Int32} {k : Me → Option (Me × Int32)} (hk : ∀ (x : Me) (H : Heap) (locs : List Loc) (ls : Array Slot), k x = some (x', r) → MemP G nw x mo H → va_S (gA G) s.heap H locs → lv_has ls 5 [] → W p l e rm_X7_spells s m args below meth c H locs 0 0 (MQ below (PI G nw x' mo r) args s 0 0 (gA G)) (F0 m 58 ls [])) : ∀ (n : Nat) (x : Me) (a4 : Int32) (H : Heap) (locs : List Loc) (ls : Array Slot), f_X7_spells_26 fu nw r1 b2 b3 k n x a4 = some (x', r) → MemP G nw x mo H → va_S (gA G) s.heap H locs → lv_has ls 5 [(0, .ref (ga G 1)), (1, .ref (gk G r1)), (2, .int b2), (3, .int b3), (4, .int a4)] → W p l e rm_X7_spells s m args below meth c H locs 0 0 (MQ below (PI G nw x' mo r) args s 0 0 (gA G)) (F0 m 26 ls []) := by
  intro n
  induction n with
  | zero =>
    intro x a4 H locs ls hf hM hS hl
    exact nn hf
  | succ n ih =>
    intro x a4 H locs ls hf hM hS hl
    rw [f_X7_spells_26] at hf
    refine lv_iload hx hb dX7_spells_26 (lv_at hl 4 rfl) ?_
    refine lv_iload_n hx hb dX7_spells_28 rfl (lv_at hl 3 rfl) ?_
    refine lv_icmp_ge (tgt := 58) hx hb dX7_spells_29 (by decide) (fun hc_6 => ?_) (fun hc_6 => ?_)
    · replace hf := i_t hf hc_6
      exact hk x _ _ _ hf hM hS (lv_sub hl [] rfl)
    · replace hf := i_f hf hc_6
      refine lv_aload_n hx hb dX7_spells_32 rfl (lv_at hl 0 rfl) ?_
      refine gr_2 hx hb hE hM hown w_1_34 dX7_spells_33 ?_
      refine lv_iload_n hx hb dX7_spells_36 rfl (lv_at hl 2 rfl) ?_
      refine lv_iload hx hb dX7_spells_37 (lv_at hl 4 rfl) ?_
      refine lv_iadd hx hb dX7_spells_39 ?_
      obtain ⟨hi_2, hf⟩ := i_n hf
      refine la_2 hx hb hE hM hi_2 dX7_spells_40 ?_
      refine lv_aload_n hx hb dX7_spells_41 rfl (lv_at hl 1 rfl) ?_
      refine lv_iload hx hb dX7_spells_42 (lv_at hl 4 rfl) ?_
      obtain ⟨hm_3, hf⟩ := i_n hf
      obtain ⟨hi_4, hf⟩ := i_n hf
      refine k_chr hx hb hml hown hE hM hS w_2_137 hm_3 hi_4 (Nat.le_of_ble_eq_true rfl) (Nat.le_of_ble_eq_true rfl) hl.1 (Nat.le_of_ble_eq_true rfl) ⟨Nat.zero_le _, Nat.zero_le _⟩ dX7_spells_44 (fun H locs hM hS => ?_)
      refine lv_icmp_eq (tgt := 52) hx hb dX7_spells_47 (by decide) (fun hc_5 => ?_) (fun hc_5 => ?_)
      · replace hf := i_t hf hc_5
        refine lv_iinc (v := a4 + 1) (lv' := [(4, .int (a4 + 1)), (0, .ref (ga G 1)), (1, .ref (gk G r1)), (2, .int b2), (3, .int b3)]) hx hb dX7_spells_52 hl (k := 4) rfl rfl (by decide) rfl (fun ls hl => ?_)
        refine lv_goto (tgt := 26) hx hb dX7_spells_55 (by decide) ?_
        exact ih x (a4 + 1) _ _ _ hf hM hS (lv_sub hl [1, 2, 3, 4, 0] rfl)
      · replace hf := i_f hf hc_5
        refine lv_iconst (v := 0) hx hb dX7_spells_50 (by decide) ?_
        exact rt_zX hx hb hr rfl hf hM hS dX7_spells_51 hlocks
set_option maxHeartbeats 4000000 in
set_option maxRecDepth 100000 in
theorem c_X7_spells (l : Launch) (fu nw : Nat) (G : GG) (x x' mo : Me) (r1 : Nat) (a2 : Int32) (a3 : Int32) (r : Int32) (hf : f_X7_spells fu nw x r1 a2 a3 = some (x', r)) : Met l yX7_spells [.code yX7_spells cX7_spells 5 (some .boolean)] rm_X7_spells (va_Pc [.ref (ga G 1), .ref (gk G r1), .int a2, .int a3] (Pre G nw x mo)) (PI G nw x' mo r) 0 0 (gA G) := by
  refine mt_ofW (cc := cX7_spells) (maxL := 5) (ret := (some .boolean)) (by decide +kernel) rfl ?_
  intro p e s m args below meth c s₁ B hml hv
  obtain ⟨rfl, hE, hM⟩ := hv
  have hx := B.exec
  have hb := B.bytes
  have hr := B.returns
  have hown : s.vm.findClass RX7 = some m.cls := findClass_of_methodNamed B.named
  have hlocks := B.notSynchronized
  have hS : va_S (gA G) s.heap s.heap [] := va_S.rf
  have hl := lv_entry ([.ref (ga G 1), .ref (gk G r1), .int a2, .int a3]) (n := 5) (Nat.le_of_ble_eq_true rfl)
  rw [lg_entry_eq]
  generalize (lg_sl ([.ref (ga G 1), .ref (gk G r1), .int a2, .int a3]) ++ List.replicate (5 - (lg_sl ([.ref (ga G 1), .ref (gk G r1), .int a2, .int a3])).length) Slot.unset).toArray = ls at hl ⊢
  have hl : lv_has ls 5 [(0, .ref (ga G 1)), (1, .ref (gk G r1)), (2, .int a2), (3, .int a3)] := hl
  generalize ([.ref (ga G 1), .ref (gk G r1), .int a2, .int a3] : List Value).toArray = args
  unfold f_X7_spells at hf
  obtain ⟨hm_1, hf⟩ := i_n hf
  refine lv_iload_n hx hb dX7_spells_0 rfl (lv_at hl 2 rfl) ?_
  refine lv_if_lt (tgt := 21) hx hb dX7_spells_1 (by decide) (fun hc_10 => ?_) (fun hc_10 => ?_)
  · replace hf := i_t hf hc_10
    refine lv_iconst (v := 0) hx hb dX7_spells_21 (by decide) ?_
    exact rt_zX hx hb hr rfl hf hM hS dX7_spells_22 hlocks
  · replace hf := i_f hf hc_10
    refine lv_iload_n hx hb dX7_spells_4 rfl (lv_at hl 3 rfl) ?_
    refine lv_aload_n hx hb dX7_spells_5 rfl (lv_at hl 1 rfl) ?_
    refine k_len hx hb hml hown hE hM hS w_2_127 hm_1 (Nat.le_of_ble_eq_true rfl) (Nat.le_of_ble_eq_true rfl) hl.1 (Nat.le_of_ble_eq_true rfl) ⟨Nat.zero_le _, Nat.zero_le _⟩ dX7_spells_6 (fun H locs hM hS => ?_)
    refine lv_icmp_ne (tgt := 21) hx hb dX7_spells_9 (by decide) (fun hc_9 => ?_) (fun hc_9 => ?_)
    · replace hf := i_f hf hc_9
      refine lv_iconst (v := 0) hx hb dX7_spells_21 (by decide) ?_
      exact rt_zX hx hb hr rfl hf hM hS dX7_spells_22 hlocks
    · replace hf := i_t hf hc_9
      refine lv_iload_n hx hb dX7_spells_12 rfl (lv_at hl 2 rfl) ?_
      refine lv_iload_n hx hb dX7_spells_13 rfl (lv_at hl 3 rfl) ?_
      refine lv_iadd hx hb dX7_spells_14 ?_
      refine lv_sipush (v := 600) hx hb dX7_spells_15 (by decide) ?_
      refine lv_icmp_le (tgt := 23) hx hb dX7_spells_18 (by decide) (fun hc_8 => ?_) (fun hc_8 => ?_)
      · replace hf := i_t hf hc_8
        refine lv_iconst (v := 0) hx hb dX7_spells_23 (by decide) ?_
        refine lv_istore (lv' := [(4, .int 0), (0, .ref (ga G 1)), (1, .ref (gk G r1)), (2, .int a2), (3, .int a3)]) hx hb dX7_spells_24 hl (by decide) rfl (fun ls hl => ?_)
        refine wk_X7_spells_26 hx hb hml hown hE hr hlocks ?_ fu x 0 _ _ _ hf hM hS (lv_sub hl [1, 2, 3, 4, 0] rfl)
        intro x_7 H locs ls hf hM hS hl
        refine lv_iconst (v := 1) hx hb dX7_spells_58 (by decide) ?_
        exact rt_zX hx hb hr rfl hf hM hS dX7_spells_59 hlocks
      · replace hf := i_f hf hc_8
        refine lv_iconst (v := 0) hx hb dX7_spells_21 (by decide) ?_
        exact rt_zX hx hb hr rfl hf hM hS dX7_spells_22 hlocks
theorem k_X7_spells {p : Program} {l : Launch} {e : Env} {R : Room} {s : State} {m : MethodId} {args : Array Value} {below : List Frame} {meth : Method} {c : Code} {H : Heap} {locs : List Loc} {cells slots : Nat} {Q : State → Prop} {cc : ByteArray} {pc nL : Nat} {ls : Array Slot} {rest : List Value} {G : GG} {fu nw : Nat} {x x' mo : Me} {own : String} {index : Nat} {r1 : Nat} {a2 : Int32} {a3 : Int32} {r : Int32} (hx : p.tables.exec = Jvm.exec) (hb : c.code = cc) (hml : c.maxLocals = nL) (hown : s.vm.findClass own = some m.cls) (hE : EnvP G s) (hM : MemP G nw x mo H) (hS : va_S (gA G) s.heap H locs) (hw : Cond.methodLink own index yX7_spells ∈ lw_tbl) (hf : f_X7_spells fu nw x r1 a2 a3 = some (x', r)) (h1 : 4 + 1 ≤ R.frames) (h2 : 8 + (5 + 11) + 85 ≤ R.locals) (hsz : ls.size = nL) (hW : (rest.map fun v => v.category).sum ≤ 8) (hcs : cells ≤ R.cells ∧ slots ≤ R.slots) (hdg : decode cc pc = .ok (.invokevirtual index, 3)) (kk : ∀ (H1 : Heap) (locs1 : List Loc), MemP G nw x' mo H1 → va_S (gA G) s.heap H1 locs1 → W p l e R s m args below meth c H1 locs1 cells slots Q (F0 m (pc + 3) ls (.int r :: rest))) : W p l e R s m args below meth c H locs cells slots Q (F0 m pc ls (.int a3 :: .int a2 :: .ref (gk G r1) :: .ref (ga G 1) :: rest)) := mm_ki hS (mm_runV (n := 3) (o := 1) (C := RX7) (T := TX7) (N := 7) (ci := 7) (As := [.ref (gk G r1), .int a2, .int a3]) hx hb hml hown hE hM hS (c_X7_spells l fu nw G x x' mo r1 a2 a3 _ hf) (List.forall_mem_cons.mpr ⟨⟨hw, rfl⟩, List.forall_mem_cons.mpr ⟨⟨w_2_125, rfl⟩, List.forall_mem_cons.mpr ⟨⟨w_0_4, rfl⟩, List.forall_mem_cons.mpr ⟨⟨w_1_2, rfl⟩, List.forall_mem_cons.mpr ⟨⟨w_2_126, rfl⟩, fun _ h => absurd h List.not_mem_nil⟩⟩⟩⟩⟩) rfl rfl ⟨rfl, by decide, by decide, by decide +kernel⟩ ⟨h1, h2⟩ rfl rfl rfl hsz rfl hW hdg hcs) kk
def f_X7_takeWord_5 (fu nw : Nat) (b1 : Int32) (k : Me → Option (Me × Int32)) : Nat → Me → Option (Me × Int32)
  | 0 => fun _ => none
  | n + 1 => fun x => if (x 6 0) ≤ (x 5 0) then k x else ob (f_X7_byteHere fu nw x) (fun x_1 r_1 => if r_1 < 97 then k x_1 else ob (f_X7_byteHere fu nw x_1) (fun x_2 r_2 => if 122 < r_2 then k x_2 else f_X7_takeWord_5 fu nw b1 k n (mu x_2 5 0 ((x_2 5 0) + 1))))
def f_X7_takeWord_49 (fu nw : Nat) (b1 : Int32) (k : Me → Option (Me × Int32)) : Nat → Me → Int32 → Option (Me × Int32)
  | 0 => fun _ _ => none
  | n + 1 => fun x a2 => if 7 ≤ a2 then k x else ob (f_X7_spelling fu nw x a2) (fun x_7 r_7 => ob (f_X7_spells fu nw x_7 r_7 b1 ((x_7 5 0) - b1)) (fun x_8 r_8 => if r_8 = 0 then f_X7_takeWord_49 fu nw b1 k n x_8 (a2 + 1) else some (x_8, a2)))
def f_X7_takeWord (fu nw : Nat) (x : Me) : Option (Me × Int32) := f_X7_takeWord_5 fu nw (x 5 0) (fun (x_6 : Me) => f_X7_takeWord_49 fu nw (x 5 0) (fun (x_11 : Me) => some (x_11, (-1))) fu x_6 0) fu x
def rm_X7_takeWord : Room := { frames := 5, cells := 0, slots := 0, locals := 109 }
set_option maxHeartbeats 4000000 in
set_option maxRecDepth 100000 in
theorem wk_X7_takeWord_5 {p : Program} {l : Launch} {e : Env} {s : State} {m : MethodId} {args : Array Value} {below : List Frame} {meth : Method} {c : Code} {fu nw : Nat} {G : GG} {mo : Me} {b1 : Int32} (hx : p.tables.exec = Jvm.exec) (hb : c.code = cX7_takeWord) (hml : c.maxLocals = 3) (hown : s.vm.findClass RX7 = some m.cls) (hE : EnvP G s) (hr : meth.sig.returnType = (some .int)) (hlocks : meth.locks = false) {x' : Me} {r : Int32} {k : Me → Option (Me × Int32)} (hk : ∀ (x : Me) (H : Heap) (locs : List Loc) (ls : Array Slot), k x = some (x', r) → MemP G nw x mo H → va_S (gA G) s.heap H locs → lv_has ls 3 [(0, .ref (ga G 1)), (1, .int b1)] → W p l e rm_X7_takeWord s m args below meth c H locs 0 0 (MQ below (PI G nw x' mo r) args s 0 0 (gA G)) (F0 m 47 ls [])) : ∀ (n : Nat) (x : Me) (H : Heap) (locs : List Loc) (ls : Array Slot), f_X7_takeWord_5 fu nw b1 k n x = some (x', r) → MemP G nw x mo H → va_S (gA G) s.heap H locs → lv_has ls 3 [(0, .ref (ga G 1)), (1, .int b1)] → W p l e rm_X7_takeWord s m args below meth c H locs 0 0 (MQ below (PI G nw x' mo r) args s 0 0 (gA G)) (F0 m 5 ls []) := by
  intro n
  induction n with
  | zero =>
    intro x H locs ls hf hM hS hl
    exact nn hf
  | succ n ih =>
    intro x H locs ls hf hM hS hl
    rw [f_X7_takeWord_5] at hf
    refine lv_aload_n hx hb dX7_takeWord_5 rfl (lv_at hl 0 rfl) ?_
    refine gf_5 hx hb hE hM hown w_1_37 dX7_takeWord_6 ?_
    refine lv_aload_n hx hb dX7_takeWord_9 rfl (lv_at hl 0 rfl) ?_
    refine gf_6 hx hb hE hM hown w_1_38 dX7_takeWord_10 ?_
    refine lv_icmp_ge (tgt := 47) hx hb dX7_takeWord_13 (by decide) (fun hc_5 => ?_) (fun hc_5 => ?_)
    · replace hf := i_t hf hc_5
      exact hk x _ _ _ hf hM hS (lv_sub hl [0, 1] rfl)
    · replace hf := i_f hf hc_5
      refine lv_aload_n hx hb dX7_takeWord_16 rfl (lv_at hl 0 rfl) ?_
      obtain ⟨x_1, r_1, hq_1, hf⟩ := ob_some hf
      refine k_X7_byteHere hx hb hml hown hE hM hS w_2_101 hq_1 (Nat.le_of_ble_eq_true rfl) (Nat.le_of_ble_eq_true rfl) hl.1 (Nat.le_of_ble_eq_true rfl) ⟨Nat.zero_le _, Nat.zero_le _⟩ dX7_takeWord_17 (fun H locs hM hS => ?_)
      refine lv_bipush (v := 97) hx hb dX7_takeWord_20 (by decide) ?_
      refine lv_icmp_lt (tgt := 47) hx hb dX7_takeWord_22 (by decide) (fun hc_4 => ?_) (fun hc_4 => ?_)
      · replace hf := i_t hf hc_4
        exact hk x_1 _ _ _ hf hM hS (lv_sub hl [0, 1] rfl)
      · replace hf := i_f hf hc_4
        refine lv_aload_n hx hb dX7_takeWord_25 rfl (lv_at hl 0 rfl) ?_
        obtain ⟨x_2, r_2, hq_2, hf⟩ := ob_some hf
        refine k_X7_byteHere hx hb hml hown hE hM hS w_2_101 hq_2 (Nat.le_of_ble_eq_true rfl) (Nat.le_of_ble_eq_true rfl) hl.1 (Nat.le_of_ble_eq_true rfl) ⟨Nat.zero_le _, Nat.zero_le _⟩ dX7_takeWord_26 (fun H locs hM hS => ?_)
        refine lv_bipush (v := 122) hx hb dX7_takeWord_29 (by decide) ?_
        refine lv_icmp_gt (tgt := 47) hx hb dX7_takeWord_31 (by decide) (fun hc_3 => ?_) (fun hc_3 => ?_)
        · replace hf := i_t hf hc_3
          exact hk x_2 _ _ _ hf hM hS (lv_sub hl [0, 1] rfl)
        · replace hf := i_f hf hc_3
          refine lv_aload_n hx hb dX7_takeWord_34 rfl (lv_at hl 0 rfl) ?_
          refine lv_dup hx hb dX7_takeWord_35 rfl ?_
          refine gf_5 hx hb hE hM hown w_1_37 dX7_takeWord_36 ?_
          refine lv_iconst (v := 1) hx hb dX7_takeWord_39 (by decide) ?_
          refine lv_iadd hx hb dX7_takeWord_40 ?_
          refine pf_5 hx hb hE hM hS hown w_1_37 dX7_takeWord_41 (fun H locs hM hS => ?_)
          refine lv_goto (tgt := 5) hx hb dX7_takeWord_44 (by decide) ?_
          exact ih (mu x_2 5 0 ((x_2 5 0) + 1)) _ _ _ hf hM hS (lv_sub hl [0, 1] rfl)
set_option maxHeartbeats 4000000 in
set_option maxRecDepth 100000 in
theorem wk_X7_takeWord_49 {p : Program} {l : Launch} {e : Env} {s : State} {m : MethodId} {args : Array Value} {below : List Frame} {meth : Method} {c : Code} {fu nw : Nat} {G : GG} {mo : Me} {b1 : Int32} (hx : p.tables.exec = Jvm.exec) (hb : c.code = cX7_takeWord) (hml : c.maxLocals = 3) (hown : s.vm.findClass RX7 = some m.cls) (hE : EnvP G s) (hr : meth.sig.returnType = (some .int)) (hlocks : meth.locks = false) {x' : Me} {r : Int32} {k : Me → Option (Me × Int32)} (hk : ∀ (x : Me) (H : Heap) (locs : List Loc) (ls : Array Slot), k x = some (x', r) → MemP G nw x mo H → va_S (gA G) s.heap H locs → lv_has ls 3 [] → W p l e rm_X7_takeWord s m args below meth c H locs 0 0 (MQ below (PI G nw x' mo r) args s 0 0 (gA G)) (F0 m 81 ls [])) : ∀ (n : Nat) (x : Me) (a2 : Int32) (H : Heap) (locs : List Loc) (ls : Array Slot), f_X7_takeWord_49 fu nw b1 k n x a2 = some (x', r) → MemP G nw x mo H → va_S (gA G) s.heap H locs → lv_has ls 3 [(0, .ref (ga G 1)), (1, .int b1), (2, .int a2)] → W p l e rm_X7_takeWord s m args below meth c H locs 0 0 (MQ below (PI G nw x' mo r) args s 0 0 (gA G)) (F0 m 49 ls []) := by
  intro n
  induction n with
  | zero =>
    intro x a2 H locs ls hf hM hS hl
    exact nn hf
  | succ n ih =>
    intro x a2 H locs ls hf hM hS hl
    rw [f_X7_takeWord_49] at hf
    refine lv_iload_n hx hb dX7_takeWord_49 rfl (lv_at hl 2 rfl) ?_
    refine lv_bipush (v := 7) hx hb dX7_takeWord_50 (by decide) ?_
    refine lv_icmp_ge (tgt := 81) hx hb dX7_takeWord_52 (by decide) (fun hc_10 => ?_) (fun hc_10 => ?_)
    · replace hf := i_t hf hc_10
      exact hk x _ _ _ hf hM hS (lv_sub hl [] rfl)
    · replace hf := i_f hf hc_10
      refine lv_aload_n hx hb dX7_takeWord_55 rfl (lv_at hl 0 rfl) ?_
      refine lv_iload_n hx hb dX7_takeWord_56 rfl (lv_at hl 2 rfl) ?_
      obtain ⟨x_7, r_7, hq_7, hf⟩ := ob_some hf
      refine k_X7_spelling hx hb hml hown hE hM hS w_2_113 hq_7 (Nat.le_of_ble_eq_true rfl) (Nat.le_of_ble_eq_true rfl) hl.1 (Nat.le_of_ble_eq_true rfl) ⟨Nat.zero_le _, Nat.zero_le _⟩ dX7_takeWord_57 (fun H locs hM hS => ?_)
      refine lv_iload_n hx hb dX7_takeWord_60 rfl (lv_at hl 1 rfl) ?_
      refine lv_aload_n hx hb dX7_takeWord_61 rfl (lv_at hl 0 rfl) ?_
      refine gf_5 hx hb hE hM hown w_1_37 dX7_takeWord_62 ?_
      refine lv_iload_n hx hb dX7_takeWord_65 rfl (lv_at hl 1 rfl) ?_
      refine lv_isub hx hb dX7_takeWord_66 ?_
      obtain ⟨x_8, r_8, hq_8, hf⟩ := ob_some hf
      refine k_X7_spells hx hb hml hown hE hM hS w_2_123 hq_8 (Nat.le_of_ble_eq_true rfl) (Nat.le_of_ble_eq_true rfl) hl.1 (Nat.le_of_ble_eq_true rfl) ⟨Nat.zero_le _, Nat.zero_le _⟩ dX7_takeWord_67 (fun H locs hM hS => ?_)
      refine lv_if_eq (tgt := 75) hx hb dX7_takeWord_70 (by decide) (fun hc_9 => ?_) (fun hc_9 => ?_)
      · replace hf := i_t hf hc_9
        refine lv_iinc (v := a2 + 1) (lv' := [(2, .int (a2 + 1)), (0, .ref (ga G 1)), (1, .int b1)]) hx hb dX7_takeWord_75 hl (k := 2) rfl rfl (by decide) rfl (fun ls hl => ?_)
        refine lv_goto (tgt := 49) hx hb dX7_takeWord_78 (by decide) ?_
        exact ih x_8 (a2 + 1) _ _ _ hf hM hS (lv_sub hl [1, 2, 0] rfl)
      · replace hf := i_f hf hc_9
        refine lv_iload_n hx hb dX7_takeWord_73 rfl (lv_at hl 2 rfl) ?_
        exact rt_iX hx hb hr hf hM hS dX7_takeWord_74 hlocks
set_option maxHeartbeats 4000000 in
set_option maxRecDepth 100000 in
theorem c_X7_takeWord (l : Launch) (fu nw : Nat) (G : GG) (x x' mo : Me) (r : Int32) (hf : f_X7_takeWord fu nw x = some (x', r)) : Met l yX7_takeWord [.code yX7_takeWord cX7_takeWord 3 (some .int)] rm_X7_takeWord (va_Pc [.ref (ga G 1)] (Pre G nw x mo)) (PI G nw x' mo r) 0 0 (gA G) := by
  refine mt_ofW (cc := cX7_takeWord) (maxL := 3) (ret := (some .int)) (by decide +kernel) rfl ?_
  intro p e s m args below meth c s₁ B hml hv
  obtain ⟨rfl, hE, hM⟩ := hv
  have hx := B.exec
  have hb := B.bytes
  have hr := B.returns
  have hown : s.vm.findClass RX7 = some m.cls := findClass_of_methodNamed B.named
  have hlocks := B.notSynchronized
  have hS : va_S (gA G) s.heap s.heap [] := va_S.rf
  have hl := lv_entry ([.ref (ga G 1)]) (n := 3) (Nat.le_of_ble_eq_true rfl)
  rw [lg_entry_eq]
  generalize (lg_sl ([.ref (ga G 1)]) ++ List.replicate (3 - (lg_sl ([.ref (ga G 1)])).length) Slot.unset).toArray = ls at hl ⊢
  have hl : lv_has ls 3 [(0, .ref (ga G 1))] := hl
  generalize ([.ref (ga G 1)] : List Value).toArray = args
  unfold f_X7_takeWord at hf
  refine lv_aload_n hx hb dX7_takeWord_0 rfl (lv_at hl 0 rfl) ?_
  refine gf_5 hx hb hE hM hown w_1_37 dX7_takeWord_1 ?_
  refine lv_istore_n (lv' := [(1, .int (x 5 0)), (0, .ref (ga G 1))]) hx hb dX7_takeWord_4 rfl hl (by decide) rfl (fun ls hl => ?_)
  refine wk_X7_takeWord_5 hx hb hml hown hE hr hlocks ?_ fu x _ _ _ hf hM hS (lv_sub hl [1, 0] rfl)
  intro x_6 H locs ls hf hM hS hl
  refine lv_iconst (v := 0) hx hb dX7_takeWord_47 (by decide) ?_
  refine lv_istore_n (lv' := [(2, .int 0), (0, .ref (ga G 1)), (1, .int (x 5 0))]) hx hb dX7_takeWord_48 rfl hl (by decide) rfl (fun ls hl => ?_)
  refine wk_X7_takeWord_49 hx hb hml hown hE hr hlocks ?_ fu x_6 0 _ _ _ hf hM hS (lv_sub hl [1, 2, 0] rfl)
  intro x_11 H locs ls hf hM hS hl
  refine lv_iconst (v := (-1)) hx hb dX7_takeWord_81 (by decide) ?_
  exact rt_iX hx hb hr hf hM hS dX7_takeWord_82 hlocks
theorem k_X7_takeWord {p : Program} {l : Launch} {e : Env} {R : Room} {s : State} {m : MethodId} {args : Array Value} {below : List Frame} {meth : Method} {c : Code} {H : Heap} {locs : List Loc} {cells slots : Nat} {Q : State → Prop} {cc : ByteArray} {pc nL : Nat} {ls : Array Slot} {rest : List Value} {G : GG} {fu nw : Nat} {x x' mo : Me} {own : String} {index : Nat} {r : Int32} (hx : p.tables.exec = Jvm.exec) (hb : c.code = cc) (hml : c.maxLocals = nL) (hown : s.vm.findClass own = some m.cls) (hE : EnvP G s) (hM : MemP G nw x mo H) (hS : va_S (gA G) s.heap H locs) (hw : Cond.methodLink own index yX7_takeWord ∈ lw_tbl) (hf : f_X7_takeWord fu nw x = some (x', r)) (h1 : 5 + 1 ≤ R.frames) (h2 : 8 + (3 + 11) + 109 ≤ R.locals) (hsz : ls.size = nL) (hW : (rest.map fun v => v.category).sum ≤ 8) (hcs : cells ≤ R.cells ∧ slots ≤ R.slots) (hdg : decode cc pc = .ok (.invokevirtual index, 3)) (kk : ∀ (H1 : Heap) (locs1 : List Loc), MemP G nw x' mo H1 → va_S (gA G) s.heap H1 locs1 → W p l e R s m args below meth c H1 locs1 cells slots Q (F0 m (pc + 3) ls (.int r :: rest))) : W p l e R s m args below meth c H locs cells slots Q (F0 m pc ls (.ref (ga G 1) :: rest)) := mm_ki hS (mm_runV (n := 0) (o := 1) (C := RX7) (T := TX7) (N := 7) (ci := 7) (As := []) hx hb hml hown hE hM hS (c_X7_takeWord l fu nw G x x' mo _ hf) (List.forall_mem_cons.mpr ⟨⟨hw, rfl⟩, List.forall_mem_cons.mpr ⟨⟨w_2_111, rfl⟩, List.forall_mem_cons.mpr ⟨⟨w_0_3, rfl⟩, List.forall_mem_cons.mpr ⟨⟨w_1_2, rfl⟩, List.forall_mem_cons.mpr ⟨⟨w_2_112, rfl⟩, fun _ h => absurd h List.not_mem_nil⟩⟩⟩⟩⟩) rfl rfl ⟨rfl, by decide, by decide, by decide +kernel⟩ ⟨h1, h2⟩ rfl rfl rfl hsz rfl hW hdg hcs) kk
def f_X7_takeNumber_2 (fu nw : Nat) (k : Me → Int32 → Option (Me × Int32)) : Nat → Me → Int32 → Option (Me × Int32)
  | 0 => fun _ _ => none
  | n + 1 => fun x a1 => if (x 6 0) ≤ (x 5 0) then k x a1 else ob (f_X7_byteHere fu nw x) (fun x_1 r_1 => if r_1 < 48 then k x_1 a1 else ob (f_X7_byteHere fu nw x_1) (fun x_2 r_2 => if 57 < r_2 then k x_2 a1 else ob (f_X7_byteHere fu nw x_2) (fun x_3 r_3 => f_X7_takeNumber_2 fu nw k n (mu x_3 5 0 ((x_3 5 0) + 1)) (if ((((if a1 < 0 then 0 else a1) * 10) + r_3) - 48) < 1000 then ((((if a1 < 0 then 0 else a1) * 10) + r_3) - 48) else 1000))))
def f_X7_takeNumber (fu nw : Nat) (x : Me) : Option (Me × Int32) := f_X7_takeNumber_2 fu nw (fun (x_7 : Me) (a1_7 : Int32) => some (x_7, a1_7)) fu x (-1)
def rm_X7_takeNumber : Room := { frames := 1, cells := 0, slots := 0, locals := 21 }
set_option maxHeartbeats 4000000 in
set_option maxRecDepth 100000 in
theorem wk_X7_takeNumber_2 {p : Program} {l : Launch} {e : Env} {s : State} {m : MethodId} {args : Array Value} {below : List Frame} {meth : Method} {c : Code} {fu nw : Nat} {G : GG} {mo : Me} (hx : p.tables.exec = Jvm.exec) (hb : c.code = cX7_takeNumber) (hml : c.maxLocals = 2) (hown : s.vm.findClass RX7 = some m.cls) (hE : EnvP G s) (hr : meth.sig.returnType = (some .int)) (hlocks : meth.locks = false) {x' : Me} {r : Int32} {k : Me → Int32 → Option (Me × Int32)} (hk : ∀ (x : Me) (a1 : Int32) (H : Heap) (locs : List Loc) (ls : Array Slot), k x a1 = some (x', r) → MemP G nw x mo H → va_S (gA G) s.heap H locs → lv_has ls 2 [(1, .int a1)] → W p l e rm_X7_takeNumber s m args below meth c H locs 0 0 (MQ below (PI G nw x' mo r) args s 0 0 (gA G)) (F0 m 67 ls [])) : ∀ (n : Nat) (x : Me) (a1 : Int32) (H : Heap) (locs : List Loc) (ls : Array Slot), f_X7_takeNumber_2 fu nw k n x a1 = some (x', r) → MemP G nw x mo H → va_S (gA G) s.heap H locs → lv_has ls 2 [(0, .ref (ga G 1)), (1, .int a1)] → W p l e rm_X7_takeNumber s m args below meth c H locs 0 0 (MQ below (PI G nw x' mo r) args s 0 0 (gA G)) (F0 m 2 ls []) := by
  intro n
  induction n with
  | zero =>
    intro x a1 H locs ls hf hM hS hl
    exact nn hf
  | succ n ih =>
    intro x a1 H locs ls hf hM hS hl
    rw [f_X7_takeNumber_2] at hf
    refine lv_aload_n hx hb dX7_takeNumber_2 rfl (lv_at hl 0 rfl) ?_
    refine gf_5 hx hb hE hM hown w_1_37 dX7_takeNumber_3 ?_
    refine lv_aload_n hx hb dX7_takeNumber_6 rfl (lv_at hl 0 rfl) ?_
    refine gf_6 hx hb hE hM hown w_1_38 dX7_takeNumber_7 ?_
    refine lv_icmp_ge (tgt := 67) hx hb dX7_takeNumber_10 (by decide) (fun hc_6 => ?_) (fun hc_6 => ?_)
    · replace hf := i_t hf hc_6
      exact hk x a1 _ _ _ hf hM hS (lv_sub hl [1] rfl)
    · replace hf := i_f hf hc_6
      refine lv_aload_n hx hb dX7_takeNumber_13 rfl (lv_at hl 0 rfl) ?_
      obtain ⟨x_1, r_1, hq_1, hf⟩ := ob_some hf
      refine k_X7_byteHere hx hb hml hown hE hM hS w_2_101 hq_1 (Nat.le_of_ble_eq_true rfl) (Nat.le_of_ble_eq_true rfl) hl.1 (Nat.le_of_ble_eq_true rfl) ⟨Nat.zero_le _, Nat.zero_le _⟩ dX7_takeNumber_14 (fun H locs hM hS => ?_)
      refine lv_bipush (v := 48) hx hb dX7_takeNumber_17 (by decide) ?_
      refine lv_icmp_lt (tgt := 67) hx hb dX7_takeNumber_19 (by decide) (fun hc_5 => ?_) (fun hc_5 => ?_)
      · replace hf := i_t hf hc_5
        exact hk x_1 a1 _ _ _ hf hM hS (lv_sub hl [1] rfl)
      · replace hf := i_f hf hc_5
        refine lv_aload_n hx hb dX7_takeNumber_22 rfl (lv_at hl 0 rfl) ?_
        obtain ⟨x_2, r_2, hq_2, hf⟩ := ob_some hf
        refine k_X7_byteHere hx hb hml hown hE hM hS w_2_101 hq_2 (Nat.le_of_ble_eq_true rfl) (Nat.le_of_ble_eq_true rfl) hl.1 (Nat.le_of_ble_eq_true rfl) ⟨Nat.zero_le _, Nat.zero_le _⟩ dX7_takeNumber_23 (fun H locs hM hS => ?_)
        refine lv_bipush (v := 57) hx hb dX7_takeNumber_26 (by decide) ?_
        refine lv_icmp_gt (tgt := 67) hx hb dX7_takeNumber_28 (by decide) (fun hc_4 => ?_) (fun hc_4 => ?_)
        · replace hf := i_t hf hc_4
          exact hk x_2 a1 _ _ _ hf hM hS (lv_sub hl [1] rfl)
        · replace hf := i_f hf hc_4
          refine lv_sipush (v := 1000) hx hb dX7_takeNumber_31 (by decide) ?_
          refine lv_iload_n hx hb dX7_takeNumber_34 rfl (lv_at hl 1 rfl) ?_
          refine lv_iconst (v := 0) hx hb dX7_takeNumber_35 (by decide) ?_
          refine va_mmax hx hb (by rw [hml]; exact hl.1.symm) hown (ew hE w_2_183 rfl) (ew hE w_2_184 rfl) (ew hE w_1_12 rfl) (ew hE w_2_185 rfl) (Nat.le_of_ble_eq_true rfl) (Nat.le_of_ble_eq_true rfl) (Nat.zero_le _) (Nat.zero_le _) dX7_takeNumber_36 ?_
          refine lv_bipush (v := 10) hx hb dX7_takeNumber_39 (by decide) ?_
          refine lv_imul hx hb dX7_takeNumber_41 ?_
          refine lv_aload_n hx hb dX7_takeNumber_42 rfl (lv_at hl 0 rfl) ?_
          obtain ⟨x_3, r_3, hq_3, hf⟩ := ob_some hf
          refine k_X7_byteHere hx hb hml hown hE hM hS w_2_101 hq_3 (Nat.le_of_ble_eq_true rfl) (Nat.le_of_ble_eq_true rfl) hl.1 (Nat.le_of_ble_eq_true rfl) ⟨Nat.zero_le _, Nat.zero_le _⟩ dX7_takeNumber_43 (fun H locs hM hS => ?_)
          refine lv_iadd hx hb dX7_takeNumber_46 ?_
          refine lv_bipush (v := 48) hx hb dX7_takeNumber_47 (by decide) ?_
          refine lv_isub hx hb dX7_takeNumber_49 ?_
          refine va_mmin hx hb (by rw [hml]; exact hl.1.symm) hown (ew hE w_2_91 rfl) (ew hE w_2_92 rfl) (ew hE w_1_12 rfl) (ew hE w_2_93 rfl) (Nat.le_of_ble_eq_true rfl) (Nat.le_of_ble_eq_true rfl) (Nat.zero_le _) (Nat.zero_le _) dX7_takeNumber_50 ?_
          refine lv_istore_n (lv' := [(1, .int (if ((((if a1 < 0 then 0 else a1) * 10) + r_3) - 48) < 1000 then ((((if a1 < 0 then 0 else a1) * 10) + r_3) - 48) else 1000)), (0, .ref (ga G 1))]) hx hb dX7_takeNumber_53 rfl hl (by decide) rfl (fun ls hl => ?_)
          refine lv_aload_n hx hb dX7_takeNumber_54 rfl (lv_at hl 1 rfl) ?_
          refine lv_dup hx hb dX7_takeNumber_55 rfl ?_
          refine gf_5 hx hb hE hM hown w_1_37 dX7_takeNumber_56 ?_
          refine lv_iconst (v := 1) hx hb dX7_takeNumber_59 (by decide) ?_
          refine lv_iadd hx hb dX7_takeNumber_60 ?_
          refine pf_5 hx hb hE hM hS hown w_1_37 dX7_takeNumber_61 (fun H locs hM hS => ?_)
          refine lv_goto (tgt := 2) hx hb dX7_takeNumber_64 (by decide) ?_
          exact ih (mu x_3 5 0 ((x_3 5 0) + 1)) (if ((((if a1 < 0 then 0 else a1) * 10) + r_3) - 48) < 1000 then ((((if a1 < 0 then 0 else a1) * 10) + r_3) - 48) else 1000) _ _ _ hf hM hS (lv_sub hl [1, 0] rfl)
set_option maxHeartbeats 4000000 in
set_option maxRecDepth 100000 in
theorem c_X7_takeNumber (l : Launch) (fu nw : Nat) (G : GG) (x x' mo : Me) (r : Int32) (hf : f_X7_takeNumber fu nw x = some (x', r)) : Met l yX7_takeNumber [.code yX7_takeNumber cX7_takeNumber 2 (some .int)] rm_X7_takeNumber (va_Pc [.ref (ga G 1)] (Pre G nw x mo)) (PI G nw x' mo r) 0 0 (gA G) := by
  refine mt_ofW (cc := cX7_takeNumber) (maxL := 2) (ret := (some .int)) (by decide +kernel) rfl ?_
  intro p e s m args below meth c s₁ B hml hv
  obtain ⟨rfl, hE, hM⟩ := hv
  have hx := B.exec
  have hb := B.bytes
  have hr := B.returns
  have hown : s.vm.findClass RX7 = some m.cls := findClass_of_methodNamed B.named
  have hlocks := B.notSynchronized
  have hS : va_S (gA G) s.heap s.heap [] := va_S.rf
  have hl := lv_entry ([.ref (ga G 1)]) (n := 2) (Nat.le_of_ble_eq_true rfl)
  rw [lg_entry_eq]
  generalize (lg_sl ([.ref (ga G 1)]) ++ List.replicate (2 - (lg_sl ([.ref (ga G 1)])).length) Slot.unset).toArray = ls at hl ⊢
  have hl : lv_has ls 2 [(0, .ref (ga G 1))] := hl
  generalize ([.ref (ga G 1)] : List Value).toArray = args
  unfold f_X7_takeNumber at hf
  refine lv_iconst (v := (-1)) hx hb dX7_takeNumber_0 (by decide) ?_
  refine lv_istore_n (lv' := [(1, .int (-1)), (0, .ref (ga G 1))]) hx hb dX7_takeNumber_1 rfl hl (by decide) rfl (fun ls hl => ?_)
  refine wk_X7_takeNumber_2 hx hb hml hown hE hr hlocks ?_ fu x (-1) _ _ _ hf hM hS (lv_sub hl [1, 0] rfl)
  intro x_7 a1_7 H locs ls hf hM hS hl
  refine lv_iload_n hx hb dX7_takeNumber_67 rfl (lv_at hl 0 rfl) ?_
  exact rt_iX hx hb hr hf hM hS dX7_takeNumber_68 hlocks
theorem k_X7_takeNumber {p : Program} {l : Launch} {e : Env} {R : Room} {s : State} {m : MethodId} {args : Array Value} {below : List Frame} {meth : Method} {c : Code} {H : Heap} {locs : List Loc} {cells slots : Nat} {Q : State → Prop} {cc : ByteArray} {pc nL : Nat} {ls : Array Slot} {rest : List Value} {G : GG} {fu nw : Nat} {x x' mo : Me} {own : String} {index : Nat} {r : Int32} (hx : p.tables.exec = Jvm.exec) (hb : c.code = cc) (hml : c.maxLocals = nL) (hown : s.vm.findClass own = some m.cls) (hE : EnvP G s) (hM : MemP G nw x mo H) (hS : va_S (gA G) s.heap H locs) (hw : Cond.methodLink own index yX7_takeNumber ∈ lw_tbl) (hf : f_X7_takeNumber fu nw x = some (x', r)) (h1 : 1 + 1 ≤ R.frames) (h2 : 8 + (2 + 11) + 21 ≤ R.locals) (hsz : ls.size = nL) (hW : (rest.map fun v => v.category).sum ≤ 8) (hcs : cells ≤ R.cells ∧ slots ≤ R.slots) (hdg : decode cc pc = .ok (.invokevirtual index, 3)) (kk : ∀ (H1 : Heap) (locs1 : List Loc), MemP G nw x' mo H1 → va_S (gA G) s.heap H1 locs1 → W p l e R s m args below meth c H1 locs1 cells slots Q (F0 m (pc + 3) ls (.int r :: rest))) : W p l e R s m args below meth c H locs cells slots Q (F0 m pc ls (.ref (ga G 1) :: rest)) := mm_ki hS (mm_runV (n := 0) (o := 1) (C := RX7) (T := TX7) (N := 7) (ci := 7) (As := []) hx hb hml hown hE hM hS (c_X7_takeNumber l fu nw G x x' mo _ hf) (List.forall_mem_cons.mpr ⟨⟨hw, rfl⟩, List.forall_mem_cons.mpr ⟨⟨w_2_181, rfl⟩, List.forall_mem_cons.mpr ⟨⟨w_0_6, rfl⟩, List.forall_mem_cons.mpr ⟨⟨w_1_2, rfl⟩, List.forall_mem_cons.mpr ⟨⟨w_2_182, rfl⟩, fun _ h => absurd h List.not_mem_nil⟩⟩⟩⟩⟩) rfl rfl ⟨rfl, by decide, by decide, by decide +kernel⟩ ⟨h1, h2⟩ rfl rfl rfl hsz rfl hW hdg hcs) kk
def f_X7_blame (fu nw : Nat) (x : Me) (a1 : Int32) (a2 : Int32) : Option (Me × Unit) := some ((mu (mu x 8 0 a1) 9 0 a2), ())
def rm_X7_blame : Room := { frames := 0, cells := 0, slots := 0, locals := 0 }
set_option maxHeartbeats 4000000 in
set_option maxRecDepth 100000 in
theorem c_X7_blame (l : Launch) (fu nw : Nat) (G : GG) (x x' mo : Me) (a1 : Int32) (a2 : Int32) (r : Unit) (hf : f_X7_blame fu nw x a1 a2 = some (x', r)) : Met l yX7_blame [.code yX7_blame cX7_blame 3 none] rm_X7_blame (va_Pc [.ref (ga G 1), .int a1, .int a2] (Pre G nw x mo)) (PV G nw x' mo) 0 0 (gA G) := by
  refine mt_ofW (cc := cX7_blame) (maxL := 3) (ret := none) (by decide +kernel) rfl ?_
  intro p e s m args below meth c s₁ B hml hv
  obtain ⟨rfl, hE, hM⟩ := hv
  have hx := B.exec
  have hb := B.bytes
  have hr := B.returns
  have hown : s.vm.findClass RX7 = some m.cls := findClass_of_methodNamed B.named
  have hlocks := B.notSynchronized
  have hS : va_S (gA G) s.heap s.heap [] := va_S.rf
  have hl := lv_entry ([.ref (ga G 1), .int a1, .int a2]) (n := 3) (Nat.le_of_ble_eq_true rfl)
  rw [lg_entry_eq]
  generalize (lg_sl ([.ref (ga G 1), .int a1, .int a2]) ++ List.replicate (3 - (lg_sl ([.ref (ga G 1), .int a1, .int a2])).length) Slot.unset).toArray = ls at hl ⊢
  have hl : lv_has ls 3 [(0, .ref (ga G 1)), (1, .int a1), (2, .int a2)] := hl
  generalize ([.ref (ga G 1), .int a1, .int a2] : List Value).toArray = args
  unfold f_X7_blame at hf
  refine lv_aload_n hx hb dX7_blame_0 rfl (lv_at hl 0 rfl) ?_
  refine lv_iload_n hx hb dX7_blame_1 rfl (lv_at hl 1 rfl) ?_
  refine pf_8 hx hb hE hM hS hown w_1_41 dX7_blame_2 (fun H locs hM hS => ?_)
  refine lv_aload_n hx hb dX7_blame_5 rfl (lv_at hl 0 rfl) ?_
  refine lv_iload_n hx hb dX7_blame_6 rfl (lv_at hl 2 rfl) ?_
  refine pf_9 hx hb hE hM hS hown w_1_43 dX7_blame_7 (fun H locs hM hS => ?_)
  exact rt_vX hx hb hr hf hM hS dX7_blame_10 hlocks
theorem k_X7_blame {p : Program} {l : Launch} {e : Env} {R : Room} {s : State} {m : MethodId} {args : Array Value} {below : List Frame} {meth : Method} {c : Code} {H : Heap} {locs : List Loc} {cells slots : Nat} {Q : State → Prop} {cc : ByteArray} {pc nL : Nat} {ls : Array Slot} {rest : List Value} {G : GG} {fu nw : Nat} {x x' mo : Me} {own : String} {index : Nat} {a1 : Int32} {a2 : Int32} {r : Unit} (hx : p.tables.exec = Jvm.exec) (hb : c.code = cc) (hml : c.maxLocals = nL) (hown : s.vm.findClass own = some m.cls) (hE : EnvP G s) (hM : MemP G nw x mo H) (hS : va_S (gA G) s.heap H locs) (hw : Cond.methodLink own index yX7_blame ∈ lw_tbl) (hf : f_X7_blame fu nw x a1 a2 = some (x', r)) (h1 : 0 + 1 ≤ R.frames) (h2 : 8 + (3 + 11) + 0 ≤ R.locals) (hsz : ls.size = nL) (hW : (rest.map fun v => v.category).sum ≤ 8) (hcs : cells ≤ R.cells ∧ slots ≤ R.slots) (hdg : decode cc pc = .ok (.invokevirtual index, 3)) (kk : ∀ (H1 : Heap) (locs1 : List Loc), MemP G nw x' mo H1 → va_S (gA G) s.heap H1 locs1 → W p l e R s m args below meth c H1 locs1 cells slots Q (F0 m (pc + 3) ls rest)) : W p l e R s m args below meth c H locs cells slots Q (F0 m pc ls (.int a2 :: .int a1 :: .ref (ga G 1) :: rest)) := mm_kv hS (mm_runV (n := 2) (o := 1) (C := RX7) (T := TX7) (N := 7) (ci := 7) (As := [.int a1, .int a2]) hx hb hml hown hE hM hS (c_X7_blame l fu nw G x x' mo a1 a2 _ hf) (List.forall_mem_cons.mpr ⟨⟨hw, rfl⟩, List.forall_mem_cons.mpr ⟨⟨w_2_177, rfl⟩, List.forall_mem_cons.mpr ⟨⟨w_0_5, rfl⟩, List.forall_mem_cons.mpr ⟨⟨w_1_2, rfl⟩, List.forall_mem_cons.mpr ⟨⟨w_2_178, rfl⟩, fun _ h => absurd h List.not_mem_nil⟩⟩⟩⟩⟩) rfl rfl ⟨rfl, by decide, by decide, by decide +kernel⟩ ⟨h1, h2⟩ rfl rfl rfl hsz rfl hW hdg hcs) kk
def f_X7_takeLineEnd (fu nw : Nat) (x : Me) : Option (Me × Unit) := ob (f_X7_skipBlanks fu nw x) (fun x_1 _ => ob (f_X7_byteHere fu nw x_1) (fun x_2 r_2 => if r_2 = 59 then some ((mu x_2 5 0 ((x_2 5 0) + 1)), ()) else ob (f_X7_blame fu nw x_2 1 (x_2 5 0)) (fun x_3 _ => some (x_3, ()))))
def rm_X7_takeLineEnd : Room := { frames := 2, cells := 0, slots := 0, locals := 40 }
set_option maxHeartbeats 4000000 in
set_option maxRecDepth 100000 in
theorem c_X7_takeLineEnd (l : Launch) (fu nw : Nat) (G : GG) (x x' mo : Me) (r : Unit) (hf : f_X7_takeLineEnd fu nw x = some (x', r)) : Met l yX7_takeLineEnd [.code yX7_takeLineEnd cX7_takeLineEnd 1 none] rm_X7_takeLineEnd (va_Pc [.ref (ga G 1)] (Pre G nw x mo)) (PV G nw x' mo) 0 0 (gA G) := by
  refine mt_ofW (cc := cX7_takeLineEnd) (maxL := 1) (ret := none) (by decide +kernel) rfl ?_
  intro p e s m args below meth c s₁ B hml hv
  obtain ⟨rfl, hE, hM⟩ := hv
  have hx := B.exec
  have hb := B.bytes
  have hr := B.returns
  have hown : s.vm.findClass RX7 = some m.cls := findClass_of_methodNamed B.named
  have hlocks := B.notSynchronized
  have hS : va_S (gA G) s.heap s.heap [] := va_S.rf
  have hl := lv_entry ([.ref (ga G 1)]) (n := 1) (Nat.le_of_ble_eq_true rfl)
  rw [lg_entry_eq]
  generalize (lg_sl ([.ref (ga G 1)]) ++ List.replicate (1 - (lg_sl ([.ref (ga G 1)])).length) Slot.unset).toArray = ls at hl ⊢
  have hl : lv_has ls 1 [(0, .ref (ga G 1))] := hl
  generalize ([.ref (ga G 1)] : List Value).toArray = args
  unfold f_X7_takeLineEnd at hf
  refine lv_aload_n hx hb dX7_takeLineEnd_0 rfl (lv_at hl 0 rfl) ?_
  obtain ⟨x_1, r_1, hq_1, hf⟩ := ob_some hf
  refine k_X7_skipBlanks hx hb hml hown hE hM hS w_2_97 hq_1 (Nat.le_of_ble_eq_true rfl) (Nat.le_of_ble_eq_true rfl) hl.1 (Nat.le_of_ble_eq_true rfl) ⟨Nat.zero_le _, Nat.zero_le _⟩ dX7_takeLineEnd_1 (fun H locs hM hS => ?_)
  refine lv_aload_n hx hb dX7_takeLineEnd_4 rfl (lv_at hl 0 rfl) ?_
  obtain ⟨x_2, r_2, hq_2, hf⟩ := ob_some hf
  refine k_X7_byteHere hx hb hml hown hE hM hS w_2_101 hq_2 (Nat.le_of_ble_eq_true rfl) (Nat.le_of_ble_eq_true rfl) hl.1 (Nat.le_of_ble_eq_true rfl) ⟨Nat.zero_le _, Nat.zero_le _⟩ dX7_takeLineEnd_5 (fun H locs hM hS => ?_)
  refine lv_bipush (v := 59) hx hb dX7_takeLineEnd_8 (by decide) ?_
  refine lv_icmp_ne (tgt := 26) hx hb dX7_takeLineEnd_10 (by decide) (fun hc_4 => ?_) (fun hc_4 => ?_)
  · replace hf := i_f hf hc_4
    refine lv_aload_n hx hb dX7_takeLineEnd_26 rfl (lv_at hl 0 rfl) ?_
    refine lv_iconst (v := 1) hx hb dX7_takeLineEnd_27 (by decide) ?_
    refine lv_aload_n hx hb dX7_takeLineEnd_28 rfl (lv_at hl 0 rfl) ?_
    refine gf_5 hx hb hE hM hown w_1_37 dX7_takeLineEnd_29 ?_
    obtain ⟨x_3, r_3, hq_3, hf⟩ := ob_some hf
    refine k_X7_blame hx hb hml hown hE hM hS w_2_175 hq_3 (Nat.le_of_ble_eq_true rfl) (Nat.le_of_ble_eq_true rfl) hl.1 (Nat.le_of_ble_eq_true rfl) ⟨Nat.zero_le _, Nat.zero_le _⟩ dX7_takeLineEnd_32 (fun H locs hM hS => ?_)
    exact rt_vX hx hb hr hf hM hS dX7_takeLineEnd_35 hlocks
  · replace hf := i_t hf hc_4
    refine lv_aload_n hx hb dX7_takeLineEnd_13 rfl (lv_at hl 0 rfl) ?_
    refine lv_dup hx hb dX7_takeLineEnd_14 rfl ?_
    refine gf_5 hx hb hE hM hown w_1_37 dX7_takeLineEnd_15 ?_
    refine lv_iconst (v := 1) hx hb dX7_takeLineEnd_18 (by decide) ?_
    refine lv_iadd hx hb dX7_takeLineEnd_19 ?_
    refine pf_5 hx hb hE hM hS hown w_1_37 dX7_takeLineEnd_20 (fun H locs hM hS => ?_)
    refine lv_goto (tgt := 35) hx hb dX7_takeLineEnd_23 (by decide) ?_
    exact rt_vX hx hb hr hf hM hS dX7_takeLineEnd_35 hlocks
theorem k_X7_takeLineEnd {p : Program} {l : Launch} {e : Env} {R : Room} {s : State} {m : MethodId} {args : Array Value} {below : List Frame} {meth : Method} {c : Code} {H : Heap} {locs : List Loc} {cells slots : Nat} {Q : State → Prop} {cc : ByteArray} {pc nL : Nat} {ls : Array Slot} {rest : List Value} {G : GG} {fu nw : Nat} {x x' mo : Me} {own : String} {index : Nat} {r : Unit} (hx : p.tables.exec = Jvm.exec) (hb : c.code = cc) (hml : c.maxLocals = nL) (hown : s.vm.findClass own = some m.cls) (hE : EnvP G s) (hM : MemP G nw x mo H) (hS : va_S (gA G) s.heap H locs) (hw : Cond.methodLink own index yX7_takeLineEnd ∈ lw_tbl) (hf : f_X7_takeLineEnd fu nw x = some (x', r)) (h1 : 2 + 1 ≤ R.frames) (h2 : 8 + (1 + 11) + 40 ≤ R.locals) (hsz : ls.size = nL) (hW : (rest.map fun v => v.category).sum ≤ 8) (hcs : cells ≤ R.cells ∧ slots ≤ R.slots) (hdg : decode cc pc = .ok (.invokevirtual index, 3)) (kk : ∀ (H1 : Heap) (locs1 : List Loc), MemP G nw x' mo H1 → va_S (gA G) s.heap H1 locs1 → W p l e R s m args below meth c H1 locs1 cells slots Q (F0 m (pc + 3) ls rest)) : W p l e R s m args below meth c H locs cells slots Q (F0 m pc ls (.ref (ga G 1) :: rest)) := mm_kv hS (mm_runV (n := 0) (o := 1) (C := RX7) (T := TX7) (N := 7) (ci := 7) (As := []) hx hb hml hown hE hM hS (c_X7_takeLineEnd l fu nw G x x' mo _ hf) (List.forall_mem_cons.mpr ⟨⟨hw, rfl⟩, List.forall_mem_cons.mpr ⟨⟨w_2_192, rfl⟩, List.forall_mem_cons.mpr ⟨⟨w_0_7, rfl⟩, List.forall_mem_cons.mpr ⟨⟨w_1_2, rfl⟩, List.forall_mem_cons.mpr ⟨⟨w_2_193, rfl⟩, fun _ h => absurd h List.not_mem_nil⟩⟩⟩⟩⟩) rfl rfl ⟨rfl, by decide, by decide, by decide +kernel⟩ ⟨h1, h2⟩ rfl rfl rfl hsz rfl hW hdg hcs) kk
def f_X7_readLine (fu nw : Nat) (x : Me) : Option (Me × Unit) := ob (f_X7_takeWord fu nw x) (fun x_1 r_1 => if r_1 = (-1) then ob (f_X7_blame fu nw x_1 1 (x 5 0)) (fun x_14 _ => some (x_14, ())) else ob (f_X7_skipBlanks fu nw x_1) (fun x_2 _ => ob (f_X7_takeNumber fu nw x_2) (fun x_3 r_3 => if r_3 = (-1) then ob (f_X7_blame fu nw x_3 1 (x_2 5 0)) (fun x_12 _ => some (x_12, ())) else if inb r_1 7 = true then if r_3 < ((tS 0).getD r_1.toNatClampNeg 0) then ob (f_X7_blame fu nw x_3 2 (x_2 5 0)) (fun x_5 _ => some (x_5, ())) else if r_3 ≤ ((tS 1).getD r_1.toNatClampNeg 0) then if (x_3 7 r_1.toNatClampNeg) = (-1) then ob (f_X7_takeLineEnd fu nw (mu x_3 7 r_1.toNatClampNeg r_3)) (fun x_6 _ => some (x_6, ())) else ob (f_X7_blame fu nw x_3 3 (x 5 0)) (fun x_7 _ => some (x_7, ())) else ob (f_X7_blame fu nw x_3 2 (x_2 5 0)) (fun x_9 _ => some (x_9, ())) else none)))
def rm_X7_readLine : Room := { frames := 6, cells := 0, slots := 0, locals := 131 }
set_option maxHeartbeats 4000000 in
set_option maxRecDepth 100000 in
theorem c_X7_readLine (l : Launch) (fu nw : Nat) (G : GG) (x x' mo : Me) (r : Unit) (hf : f_X7_readLine fu nw x = some (x', r)) : Met l yX7_readLine [.code yX7_readLine cX7_readLine 5 none] rm_X7_readLine (va_Pc [.ref (ga G 1)] (Pre G nw x mo)) (PV G nw x' mo) 0 0 (gA G) := by
  refine mt_ofW (cc := cX7_readLine) (maxL := 5) (ret := none) (by decide +kernel) rfl ?_
  intro p e s m args below meth c s₁ B hml hv
  obtain ⟨rfl, hE, hM⟩ := hv
  have hx := B.exec
  have hb := B.bytes
  have hr := B.returns
  have hown : s.vm.findClass RX7 = some m.cls := findClass_of_methodNamed B.named
  have hlocks := B.notSynchronized
  have hS : va_S (gA G) s.heap s.heap [] := va_S.rf
  have hl := lv_entry ([.ref (ga G 1)]) (n := 5) (Nat.le_of_ble_eq_true rfl)
  rw [lg_entry_eq]
  generalize (lg_sl ([.ref (ga G 1)]) ++ List.replicate (5 - (lg_sl ([.ref (ga G 1)])).length) Slot.unset).toArray = ls at hl ⊢
  have hl : lv_has ls 5 [(0, .ref (ga G 1))] := hl
  generalize ([.ref (ga G 1)] : List Value).toArray = args
  unfold f_X7_readLine at hf
  refine lv_aload_n hx hb dX7_readLine_0 rfl (lv_at hl 0 rfl) ?_
  refine gf_5 hx hb hE hM hown w_1_37 dX7_readLine_1 ?_
  refine lv_istore_n (lv' := [(1, .int (x 5 0)), (0, .ref (ga G 1))]) hx hb dX7_readLine_4 rfl hl (by decide) rfl (fun ls hl => ?_)
  refine lv_aload_n hx hb dX7_readLine_5 rfl (lv_at hl 1 rfl) ?_
  obtain ⟨x_1, r_1, hq_1, hf⟩ := ob_some hf
  refine k_X7_takeWord hx hb hml hown hE hM hS w_2_109 hq_1 (Nat.le_of_ble_eq_true rfl) (Nat.le_of_ble_eq_true rfl) hl.1 (Nat.le_of_ble_eq_true rfl) ⟨Nat.zero_le _, Nat.zero_le _⟩ dX7_readLine_6 (fun H locs hM hS => ?_)
  refine lv_istore_n (lv' := [(2, .int r_1), (1, .int (x 5 0)), (0, .ref (ga G 1))]) hx hb dX7_readLine_9 rfl hl (by decide) rfl (fun ls hl => ?_)
  refine lv_iload_n hx hb dX7_readLine_10 rfl (lv_at hl 0 rfl) ?_
  refine lv_iconst (v := (-1)) hx hb dX7_readLine_11 (by decide) ?_
  refine lv_icmp_ne (tgt := 22) hx hb dX7_readLine_12 (by decide) (fun hc_15 => ?_) (fun hc_15 => ?_)
  · replace hf := i_f hf hc_15
    refine lv_aload_n hx hb dX7_readLine_22 rfl (lv_at hl 2 rfl) ?_
    obtain ⟨x_2, r_2, hq_2, hf⟩ := ob_some hf
    refine k_X7_skipBlanks hx hb hml hown hE hM hS w_2_97 hq_2 (Nat.le_of_ble_eq_true rfl) (Nat.le_of_ble_eq_true rfl) hl.1 (Nat.le_of_ble_eq_true rfl) ⟨Nat.zero_le _, Nat.zero_le _⟩ dX7_readLine_23 (fun H locs hM hS => ?_)
    refine lv_aload_n hx hb dX7_readLine_26 rfl (lv_at hl 2 rfl) ?_
    refine gf_5 hx hb hE hM hown w_1_37 dX7_readLine_27 ?_
    refine lv_istore_n (lv' := [(3, .int (x_2 5 0)), (2, .int r_1), (1, .int (x 5 0)), (0, .ref (ga G 1))]) hx hb dX7_readLine_30 rfl hl (by decide) rfl (fun ls hl => ?_)
    refine lv_aload_n hx hb dX7_readLine_31 rfl (lv_at hl 3 rfl) ?_
    obtain ⟨x_3, r_3, hq_3, hf⟩ := ob_some hf
    refine k_X7_takeNumber hx hb hml hown hE hM hS w_2_179 hq_3 (Nat.le_of_ble_eq_true rfl) (Nat.le_of_ble_eq_true rfl) hl.1 (Nat.le_of_ble_eq_true rfl) ⟨Nat.zero_le _, Nat.zero_le _⟩ dX7_readLine_32 (fun H locs hM hS => ?_)
    refine lv_istore (lv' := [(4, .int r_3), (3, .int (x_2 5 0)), (2, .int r_1), (1, .int (x 5 0)), (0, .ref (ga G 1))]) hx hb dX7_readLine_35 hl (by decide) rfl (fun ls hl => ?_)
    refine lv_iload hx hb dX7_readLine_37 (lv_at hl 0 rfl) ?_
    refine lv_iconst (v := (-1)) hx hb dX7_readLine_39 (by decide) ?_
    refine lv_icmp_ne (tgt := 52) hx hb dX7_readLine_40 (by decide) (fun hc_13 => ?_) (fun hc_13 => ?_)
    · replace hf := i_f hf hc_13
      refine lv_iload hx hb dX7_readLine_52 (lv_at hl 0 rfl) ?_
      refine mm_gets 0 (by decide) hx hb hE hS hown rfl w_2_186 dX7_readLine_54 ?_
      refine lv_iload_n hx hb dX7_readLine_57 rfl (lv_at hl 2 rfl) ?_
      obtain ⟨hi_4, hf⟩ := i_n hf
      refine mm_sald 0 (by decide) hx hb hE hS hi_4 dX7_readLine_58 ?_
      refine lv_icmp_lt (tgt := 72) hx hb dX7_readLine_59 (by decide) (fun hc_11 => ?_) (fun hc_11 => ?_)
      · replace hf := i_t hf hc_11
        refine lv_aload_n hx hb dX7_readLine_72 rfl (lv_at hl 4 rfl) ?_
        refine lv_iconst (v := 2) hx hb dX7_readLine_73 (by decide) ?_
        refine lv_iload_n hx hb dX7_readLine_74 rfl (lv_at hl 1 rfl) ?_
        obtain ⟨x_5, r_5, hq_5, hf⟩ := ob_some hf
        refine k_X7_blame hx hb hml hown hE hM hS w_2_175 hq_5 (Nat.le_of_ble_eq_true rfl) (Nat.le_of_ble_eq_true rfl) hl.1 (Nat.le_of_ble_eq_true rfl) ⟨Nat.zero_le _, Nat.zero_le _⟩ dX7_readLine_75 (fun H locs hM hS => ?_)
        refine lv_goto (tgt := 112) hx hb dX7_readLine_78 (by decide) ?_
        exact rt_vX hx hb hr hf hM hS dX7_readLine_112 hlocks
      · replace hf := i_f hf hc_11
        refine lv_iload hx hb dX7_readLine_62 (lv_at hl 0 rfl) ?_
        refine mm_gets 1 (by decide) hx hb hE hS hown rfl w_2_188 dX7_readLine_64 ?_
        refine lv_iload_n hx hb dX7_readLine_67 rfl (lv_at hl 2 rfl) ?_
        refine mm_sald 1 (by decide) hx hb hE hS hi_4 dX7_readLine_68 ?_
        refine lv_icmp_le (tgt := 81) hx hb dX7_readLine_69 (by decide) (fun hc_10 => ?_) (fun hc_10 => ?_)
        · replace hf := i_t hf hc_10
          refine lv_aload_n hx hb dX7_readLine_81 rfl (lv_at hl 4 rfl) ?_
          refine gr_3 hx hb hE hM hown w_1_39 dX7_readLine_82 ?_
          refine lv_iload_n hx hb dX7_readLine_85 rfl (lv_at hl 2 rfl) ?_
          refine la_3 hx hb hE hM hi_4 dX7_readLine_86 ?_
          refine lv_iconst (v := (-1)) hx hb dX7_readLine_87 (by decide) ?_
          refine lv_icmp_eq (tgt := 100) hx hb dX7_readLine_88 (by decide) (fun hc_8 => ?_) (fun hc_8 => ?_)
          · replace hf := i_t hf hc_8
            refine lv_aload_n hx hb dX7_readLine_100 rfl (lv_at hl 4 rfl) ?_
            refine gr_3 hx hb hE hM hown w_1_39 dX7_readLine_101 ?_
            refine lv_iload_n hx hb dX7_readLine_104 rfl (lv_at hl 2 rfl) ?_
            refine lv_iload hx hb dX7_readLine_105 (lv_at hl 0 rfl) ?_
            refine sa_3 hx hb hE hM hS hi_4 dX7_readLine_107 (fun H locs hM hS => ?_)
            refine lv_aload_n hx hb dX7_readLine_108 rfl (lv_at hl 4 rfl) ?_
            obtain ⟨x_6, r_6, hq_6, hf⟩ := ob_some hf
            refine k_X7_takeLineEnd hx hb hml hown hE hM hS w_2_190 hq_6 (Nat.le_of_ble_eq_true rfl) (Nat.le_of_ble_eq_true rfl) hl.1 (Nat.le_of_ble_eq_true rfl) ⟨Nat.zero_le _, Nat.zero_le _⟩ dX7_readLine_109 (fun H locs hM hS => ?_)
            exact rt_vX hx hb hr hf hM hS dX7_readLine_112 hlocks
          · replace hf := i_f hf hc_8
            refine lv_aload_n hx hb dX7_readLine_91 rfl (lv_at hl 4 rfl) ?_
            refine lv_iconst (v := 3) hx hb dX7_readLine_92 (by decide) ?_
            refine lv_iload_n hx hb dX7_readLine_93 rfl (lv_at hl 3 rfl) ?_
            obtain ⟨x_7, r_7, hq_7, hf⟩ := ob_some hf
            refine k_X7_blame hx hb hml hown hE hM hS w_2_175 hq_7 (Nat.le_of_ble_eq_true rfl) (Nat.le_of_ble_eq_true rfl) hl.1 (Nat.le_of_ble_eq_true rfl) ⟨Nat.zero_le _, Nat.zero_le _⟩ dX7_readLine_94 (fun H locs hM hS => ?_)
            refine lv_goto (tgt := 112) hx hb dX7_readLine_97 (by decide) ?_
            exact rt_vX hx hb hr hf hM hS dX7_readLine_112 hlocks
        · replace hf := i_f hf hc_10
          refine lv_aload_n hx hb dX7_readLine_72 rfl (lv_at hl 4 rfl) ?_
          refine lv_iconst (v := 2) hx hb dX7_readLine_73 (by decide) ?_
          refine lv_iload_n hx hb dX7_readLine_74 rfl (lv_at hl 1 rfl) ?_
          obtain ⟨x_9, r_9, hq_9, hf⟩ := ob_some hf
          refine k_X7_blame hx hb hml hown hE hM hS w_2_175 hq_9 (Nat.le_of_ble_eq_true rfl) (Nat.le_of_ble_eq_true rfl) hl.1 (Nat.le_of_ble_eq_true rfl) ⟨Nat.zero_le _, Nat.zero_le _⟩ dX7_readLine_75 (fun H locs hM hS => ?_)
          refine lv_goto (tgt := 112) hx hb dX7_readLine_78 (by decide) ?_
          exact rt_vX hx hb hr hf hM hS dX7_readLine_112 hlocks
    · replace hf := i_t hf hc_13
      refine lv_aload_n hx hb dX7_readLine_43 rfl (lv_at hl 4 rfl) ?_
      refine lv_iconst (v := 1) hx hb dX7_readLine_44 (by decide) ?_
      refine lv_iload_n hx hb dX7_readLine_45 rfl (lv_at hl 1 rfl) ?_
      obtain ⟨x_12, r_12, hq_12, hf⟩ := ob_some hf
      refine k_X7_blame hx hb hml hown hE hM hS w_2_175 hq_12 (Nat.le_of_ble_eq_true rfl) (Nat.le_of_ble_eq_true rfl) hl.1 (Nat.le_of_ble_eq_true rfl) ⟨Nat.zero_le _, Nat.zero_le _⟩ dX7_readLine_46 (fun H locs hM hS => ?_)
      refine lv_goto (tgt := 112) hx hb dX7_readLine_49 (by decide) ?_
      exact rt_vX hx hb hr hf hM hS dX7_readLine_112 hlocks
  · replace hf := i_t hf hc_15
    refine lv_aload_n hx hb dX7_readLine_15 rfl (lv_at hl 2 rfl) ?_
    refine lv_iconst (v := 1) hx hb dX7_readLine_16 (by decide) ?_
    refine lv_iload_n hx hb dX7_readLine_17 rfl (lv_at hl 1 rfl) ?_
    obtain ⟨x_14, r_14, hq_14, hf⟩ := ob_some hf
    refine k_X7_blame hx hb hml hown hE hM hS w_2_175 hq_14 (Nat.le_of_ble_eq_true rfl) (Nat.le_of_ble_eq_true rfl) hl.1 (Nat.le_of_ble_eq_true rfl) ⟨Nat.zero_le _, Nat.zero_le _⟩ dX7_readLine_18 (fun H locs hM hS => ?_)
    exact rt_vX hx hb hr hf hM hS dX7_readLine_21 hlocks
theorem k_X7_readLine {p : Program} {l : Launch} {e : Env} {R : Room} {s : State} {m : MethodId} {args : Array Value} {below : List Frame} {meth : Method} {c : Code} {H : Heap} {locs : List Loc} {cells slots : Nat} {Q : State → Prop} {cc : ByteArray} {pc nL : Nat} {ls : Array Slot} {rest : List Value} {G : GG} {fu nw : Nat} {x x' mo : Me} {own : String} {index : Nat} {r : Unit} (hx : p.tables.exec = Jvm.exec) (hb : c.code = cc) (hml : c.maxLocals = nL) (hown : s.vm.findClass own = some m.cls) (hE : EnvP G s) (hM : MemP G nw x mo H) (hS : va_S (gA G) s.heap H locs) (hw : Cond.methodLink own index yX7_readLine ∈ lw_tbl) (hf : f_X7_readLine fu nw x = some (x', r)) (h1 : 6 + 1 ≤ R.frames) (h2 : 8 + (5 + 11) + 131 ≤ R.locals) (hsz : ls.size = nL) (hW : (rest.map fun v => v.category).sum ≤ 8) (hcs : cells ≤ R.cells ∧ slots ≤ R.slots) (hdg : decode cc pc = .ok (.invokevirtual index, 3)) (kk : ∀ (H1 : Heap) (locs1 : List Loc), MemP G nw x' mo H1 → va_S (gA G) s.heap H1 locs1 → W p l e R s m args below meth c H1 locs1 cells slots Q (F0 m (pc + 3) ls rest)) : W p l e R s m args below meth c H locs cells slots Q (F0 m pc ls (.ref (ga G 1) :: rest)) := mm_kv hS (mm_runV (n := 0) (o := 1) (C := RX7) (T := TX7) (N := 7) (ci := 7) (As := []) hx hb hml hown hE hM hS (c_X7_readLine l fu nw G x x' mo _ hf) (List.forall_mem_cons.mpr ⟨⟨hw, rfl⟩, List.forall_mem_cons.mpr ⟨⟨w_2_107, rfl⟩, List.forall_mem_cons.mpr ⟨⟨w_0_2, rfl⟩, List.forall_mem_cons.mpr ⟨⟨w_1_2, rfl⟩, List.forall_mem_cons.mpr ⟨⟨w_2_108, rfl⟩, fun _ h => absurd h List.not_mem_nil⟩⟩⟩⟩⟩) rfl rfl ⟨rfl, by decide, by decide, by decide +kernel⟩ ⟨h1, h2⟩ rfl rfl rfl hsz rfl hW hdg hcs) kk
def f_X7_readText_41 (fu nw : Nat) (b1 : Int32) (k : Me → Option (Me × Unit)) : Nat → Me → Int32 → Option (Me × Unit)
  | 0 => fun _ _ => none
  | n + 1 => fun x a2 => if b1 ≤ a2 then k x else if (x 6 0) ≤ (x 5 0) then k x else if (x 8 0) = 0 then ob (f_X7_readLine fu nw x) (fun x_3 _ => ob (f_X7_skipBlanks fu nw x_3) (fun x_4 _ => f_X7_readText_41 fu nw b1 k n x_4 (a2 + 1))) else k x
def f_X7_readText (fu nw : Nat) (x : Me) (a1 : Int32) : Option (Me × Unit) := ob (f_J7_fill_53178_3 fu nw (mu (mu (mu (mu x 5 0 0) 6 0 (if (x 4 0) < a1 then (x 4 0) else a1)) 8 0 0) 9 0 (-1)) (-1)) (fun x_1 _ => ob (f_X7_skipBlanks fu nw x_1) (fun x_2 _ => f_X7_readText_41 fu nw a1 (fun (x_8 : Me) => some ((mu x_8 4 0 0), ())) fu x_2 0))
def rm_X7_readText : Room := { frames := 7, cells := 0, slots := 0, locals := 155 }
set_option maxHeartbeats 4000000 in
set_option maxRecDepth 100000 in
theorem wk_X7_readText_41 {p : Program} {l : Launch} {e : Env} {s : State} {m : MethodId} {args : Array Value} {below : List Frame} {meth : Method} {c : Code} {fu nw : Nat} {G : GG} {mo : Me} {b1 : Int32} (hx : p.tables.exec = Jvm.exec) (hb : c.code = cX7_readText) (hml : c.maxLocals = 3) (hown : s.vm.findClass RX7 = some m.cls) (hE : EnvP G s) (hr : meth.sig.returnType = none) (hlocks : meth.locks = false) {x' : Me} {r : Unit} {k : Me → Option (Me × Unit)} (hk : ∀ (x : Me) (H : Heap) (locs : List Loc) (ls : Array Slot), k x = some (x', r) → MemP G nw x mo H → va_S (gA G) s.heap H locs → lv_has ls 3 [(0, .ref (ga G 1))] → W p l e rm_X7_readText s m args below meth c H locs 0 0 (MQ below (PV G nw x' mo) args s 0 0 (gA G)) (F0 m 78 ls [])) : ∀ (n : Nat) (x : Me) (a2 : Int32) (H : Heap) (locs : List Loc) (ls : Array Slot), f_X7_readText_41 fu nw b1 k n x a2 = some (x', r) → MemP G nw x mo H → va_S (gA G) s.heap H locs → lv_has ls 3 [(0, .ref (ga G 1)), (1, .int b1), (2, .int a2)] → W p l e rm_X7_readText s m args below meth c H locs 0 0 (MQ below (PV G nw x' mo) args s 0 0 (gA G)) (F0 m 41 ls []) := by
  intro n
  induction n with
  | zero =>
    intro x a2 H locs ls hf hM hS hl
    exact nn hf
  | succ n ih =>
    intro x a2 H locs ls hf hM hS hl
    rw [f_X7_readText_41] at hf
    refine lv_iload_n hx hb dX7_readText_41 rfl (lv_at hl 2 rfl) ?_
    refine lv_iload_n hx hb dX7_readText_42 rfl (lv_at hl 1 rfl) ?_
    refine lv_icmp_ge (tgt := 78) hx hb dX7_readText_43 (by decide) (fun hc_7 => ?_) (fun hc_7 => ?_)
    · replace hf := i_t hf hc_7
      exact hk x _ _ _ hf hM hS (lv_sub hl [0] rfl)
    · replace hf := i_f hf hc_7
      refine lv_aload_n hx hb dX7_readText_46 rfl (lv_at hl 0 rfl) ?_
      refine gf_5 hx hb hE hM hown w_1_37 dX7_readText_47 ?_
      refine lv_aload_n hx hb dX7_readText_50 rfl (lv_at hl 0 rfl) ?_
      refine gf_6 hx hb hE hM hown w_1_38 dX7_readText_51 ?_
      refine lv_icmp_ge (tgt := 78) hx hb dX7_readText_54 (by decide) (fun hc_6 => ?_) (fun hc_6 => ?_)
      · replace hf := i_t hf hc_6
        exact hk x _ _ _ hf hM hS (lv_sub hl [0] rfl)
      · replace hf := i_f hf hc_6
        refine lv_aload_n hx hb dX7_readText_57 rfl (lv_at hl 0 rfl) ?_
        refine gf_8 hx hb hE hM hown w_1_41 dX7_readText_58 ?_
        refine lv_if_ne (tgt := 78) hx hb dX7_readText_61 (by decide) (fun hc_5 => ?_) (fun hc_5 => ?_)
        · replace hf := i_f hf hc_5
          exact hk x _ _ _ hf hM hS (lv_sub hl [0] rfl)
        · replace hf := i_t hf hc_5
          refine lv_aload_n hx hb dX7_readText_64 rfl (lv_at hl 0 rfl) ?_
          obtain ⟨x_3, r_3, hq_3, hf⟩ := ob_some hf
          refine k_X7_readLine hx hb hml hown hE hM hS w_2_105 hq_3 (Nat.le_of_ble_eq_true rfl) (Nat.le_of_ble_eq_true rfl) hl.1 (Nat.le_of_ble_eq_true rfl) ⟨Nat.zero_le _, Nat.zero_le _⟩ dX7_readText_65 (fun H locs hM hS => ?_)
          refine lv_aload_n hx hb dX7_readText_68 rfl (lv_at hl 0 rfl) ?_
          obtain ⟨x_4, r_4, hq_4, hf⟩ := ob_some hf
          refine k_X7_skipBlanks hx hb hml hown hE hM hS w_2_97 hq_4 (Nat.le_of_ble_eq_true rfl) (Nat.le_of_ble_eq_true rfl) hl.1 (Nat.le_of_ble_eq_true rfl) ⟨Nat.zero_le _, Nat.zero_le _⟩ dX7_readText_69 (fun H locs hM hS => ?_)
          refine lv_iinc (v := a2 + 1) (lv' := [(2, .int (a2 + 1)), (0, .ref (ga G 1)), (1, .int b1)]) hx hb dX7_readText_72 hl (k := 2) rfl rfl (by decide) rfl (fun ls hl => ?_)
          refine lv_goto (tgt := 41) hx hb dX7_readText_75 (by decide) ?_
          exact ih x_4 (a2 + 1) _ _ _ hf hM hS (lv_sub hl [1, 2, 0] rfl)
set_option maxHeartbeats 4000000 in
set_option maxRecDepth 100000 in
theorem c_X7_readText (l : Launch) (fu nw : Nat) (G : GG) (x x' mo : Me) (a1 : Int32) (r : Unit) (hf : f_X7_readText fu nw x a1 = some (x', r)) : Met l yX7_readText [.code yX7_readText cX7_readText 3 none] rm_X7_readText (va_Pc [.ref (ga G 1), .int a1] (Pre G nw x mo)) (PV G nw x' mo) 0 0 (gA G) := by
  refine mt_ofW (cc := cX7_readText) (maxL := 3) (ret := none) (by decide +kernel) rfl ?_
  intro p e s m args below meth c s₁ B hml hv
  obtain ⟨rfl, hE, hM⟩ := hv
  have hx := B.exec
  have hb := B.bytes
  have hr := B.returns
  have hown : s.vm.findClass RX7 = some m.cls := findClass_of_methodNamed B.named
  have hlocks := B.notSynchronized
  have hS : va_S (gA G) s.heap s.heap [] := va_S.rf
  have hl := lv_entry ([.ref (ga G 1), .int a1]) (n := 3) (Nat.le_of_ble_eq_true rfl)
  rw [lg_entry_eq]
  generalize (lg_sl ([.ref (ga G 1), .int a1]) ++ List.replicate (3 - (lg_sl ([.ref (ga G 1), .int a1])).length) Slot.unset).toArray = ls at hl ⊢
  have hl : lv_has ls 3 [(0, .ref (ga G 1)), (1, .int a1)] := hl
  generalize ([.ref (ga G 1), .int a1] : List Value).toArray = args
  unfold f_X7_readText at hf
  refine lv_aload_n hx hb dX7_readText_0 rfl (lv_at hl 0 rfl) ?_
  refine lv_iconst (v := 0) hx hb dX7_readText_1 (by decide) ?_
  refine pf_5 hx hb hE hM hS hown w_1_37 dX7_readText_2 (fun H locs hM hS => ?_)
  refine lv_aload_n hx hb dX7_readText_5 rfl (lv_at hl 0 rfl) ?_
  refine lv_iload_n hx hb dX7_readText_6 rfl (lv_at hl 1 rfl) ?_
  refine lv_aload_n hx hb dX7_readText_7 rfl (lv_at hl 0 rfl) ?_
  refine gf_4 hx hb hE hM hown w_1_36 dX7_readText_8 ?_
  refine va_mmin hx hb (by rw [hml]; exact hl.1.symm) hown (ew hE w_2_91 rfl) (ew hE w_2_92 rfl) (ew hE w_1_12 rfl) (ew hE w_2_93 rfl) (Nat.le_of_ble_eq_true rfl) (Nat.le_of_ble_eq_true rfl) (Nat.zero_le _) (Nat.zero_le _) dX7_readText_11 ?_
  refine pf_6 hx hb hE hM hS hown w_1_38 dX7_readText_14 (fun H locs hM hS => ?_)
  refine lv_aload_n hx hb dX7_readText_17 rfl (lv_at hl 0 rfl) ?_
  refine lv_iconst (v := 0) hx hb dX7_readText_18 (by decide) ?_
  refine pf_8 hx hb hE hM hS hown w_1_41 dX7_readText_19 (fun H locs hM hS => ?_)
  refine lv_aload_n hx hb dX7_readText_22 rfl (lv_at hl 0 rfl) ?_
  refine lv_iconst (v := (-1)) hx hb dX7_readText_23 (by decide) ?_
  refine pf_9 hx hb hE hM hS hown w_1_43 dX7_readText_24 (fun H locs hM hS => ?_)
  refine lv_aload_n hx hb dX7_readText_27 rfl (lv_at hl 0 rfl) ?_
  refine gr_3 hx hb hE hM hown w_1_39 dX7_readText_28 ?_
  refine lv_iconst (v := (-1)) hx hb dX7_readText_31 (by decide) ?_
  obtain ⟨x_1, r_1, hq_1, hf⟩ := ob_some hf
  refine k_J7_fill_53178_3 hx hb hml hown hE hM hS w_2_94 hq_1 (Nat.le_of_ble_eq_true rfl) (Nat.le_of_ble_eq_true rfl) hl.1 (Nat.le_of_ble_eq_true rfl) ⟨Nat.zero_le _, Nat.zero_le _⟩ dX7_readText_32 (fun H locs hM hS => ?_)
  refine lv_aload_n hx hb dX7_readText_35 rfl (lv_at hl 0 rfl) ?_
  obtain ⟨x_2, r_2, hq_2, hf⟩ := ob_some hf
  refine k_X7_skipBlanks hx hb hml hown hE hM hS w_2_97 hq_2 (Nat.le_of_ble_eq_true rfl) (Nat.le_of_ble_eq_true rfl) hl.1 (Nat.le_of_ble_eq_true rfl) ⟨Nat.zero_le _, Nat.zero_le _⟩ dX7_readText_36 (fun H locs hM hS => ?_)
  refine lv_iconst (v := 0) hx hb dX7_readText_39 (by decide) ?_
  refine lv_istore_n (lv' := [(2, .int 0), (0, .ref (ga G 1)), (1, .int a1)]) hx hb dX7_readText_40 rfl hl (by decide) rfl (fun ls hl => ?_)
  refine wk_X7_readText_41 hx hb hml hown hE hr hlocks ?_ fu x_2 0 _ _ _ hf hM hS (lv_sub hl [1, 2, 0] rfl)
  intro x_8 H locs ls hf hM hS hl
  refine lv_aload_n hx hb dX7_readText_78 rfl (lv_at hl 0 rfl) ?_
  refine lv_iconst (v := 0) hx hb dX7_readText_79 (by decide) ?_
  refine pf_4 hx hb hE hM hS hown w_1_36 dX7_readText_80 (fun H locs hM hS => ?_)
  exact rt_vX hx hb hr hf hM hS dX7_readText_83 hlocks
theorem k_X7_readText {p : Program} {l : Launch} {e : Env} {R : Room} {s : State} {m : MethodId} {args : Array Value} {below : List Frame} {meth : Method} {c : Code} {H : Heap} {locs : List Loc} {cells slots : Nat} {Q : State → Prop} {cc : ByteArray} {pc nL : Nat} {ls : Array Slot} {rest : List Value} {G : GG} {fu nw : Nat} {x x' mo : Me} {own : String} {index : Nat} {a1 : Int32} {r : Unit} (hx : p.tables.exec = Jvm.exec) (hb : c.code = cc) (hml : c.maxLocals = nL) (hown : s.vm.findClass own = some m.cls) (hE : EnvP G s) (hM : MemP G nw x mo H) (hS : va_S (gA G) s.heap H locs) (hw : Cond.methodLink own index yX7_readText ∈ lw_tbl) (hf : f_X7_readText fu nw x a1 = some (x', r)) (h1 : 7 + 1 ≤ R.frames) (h2 : 8 + (3 + 11) + 155 ≤ R.locals) (hsz : ls.size = nL) (hW : (rest.map fun v => v.category).sum ≤ 8) (hcs : cells ≤ R.cells ∧ slots ≤ R.slots) (hdg : decode cc pc = .ok (.invokevirtual index, 3)) (kk : ∀ (H1 : Heap) (locs1 : List Loc), MemP G nw x' mo H1 → va_S (gA G) s.heap H1 locs1 → W p l e R s m args below meth c H1 locs1 cells slots Q (F0 m (pc + 3) ls rest)) : W p l e R s m args below meth c H locs cells slots Q (F0 m pc ls (.int a1 :: .ref (ga G 1) :: rest)) := mm_kv hS (mm_runV (n := 1) (o := 1) (C := RX7) (T := TX7) (N := 7) (ci := 7) (As := [.int a1]) hx hb hml hown hE hM hS (c_X7_readText l fu nw G x x' mo a1 _ hf) (List.forall_mem_cons.mpr ⟨⟨hw, rfl⟩, List.forall_mem_cons.mpr ⟨⟨w_2_88, rfl⟩, List.forall_mem_cons.mpr ⟨⟨w_2_89, rfl⟩, List.forall_mem_cons.mpr ⟨⟨w_1_2, rfl⟩, List.forall_mem_cons.mpr ⟨⟨w_2_90, rfl⟩, fun _ h => absurd h List.not_mem_nil⟩⟩⟩⟩⟩) rfl rfl ⟨rfl, by decide, by decide, by decide +kernel⟩ ⟨h1, h2⟩ rfl rfl rfl hsz rfl hW hdg hcs) kk
