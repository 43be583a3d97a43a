def f_X5_fillTried_6 (fu nw : Nat) (b1 : Int32) (b2 : Int32) (b3 : Int32) (k : Me → Int32 → Option (Me × Int32)) : Nat → Me → Int32 → Int32 → Option (Me × Int32)
  | 0 => fun _ _ _ => none
  | n + 1 => fun x a4 a5 => if (x 15 0) ≤ a5 then k x a4 else if b1 ≤ a4 then k x a4 else if 10 ≤ a4 then k x a4 else if inb a5 16 = true then if (x 17 a5.toNatClampNeg) = 0 then f_X5_fillTried_6 fu nw b1 b2 b3 k n x a4 (a5 + 1) else if (x 16 a5.toNatClampNeg) < b2 then f_X5_fillTried_6 fu nw b1 b2 b3 k n x a4 (a5 + 1) else if b3 < (x 16 a5.toNatClampNeg) then f_X5_fillTried_6 fu nw b1 b2 b3 k n x a4 (a5 + 1) else if inb a4 10 = true then f_X5_fillTried_6 fu nw b1 b2 b3 k n (mu x 19 a4.toNatClampNeg a5) (a4 + 1) (a5 + 1) else none else none
def f_X5_fillTried (fu nw : Nat) (x : Me) (a1 : Int32) (a2 : Int32) (a3 : Int32) : Option (Me × Int32) := f_X5_fillTried_6 fu nw a1 a2 a3 (fun (x_9 : Me) (a4_9 : Int32) => if a4_9 = a1 then some (x_9, 1) else some (x_9, 0)) fu x 0 0
def rm_X5_fillTried : Room := { frames := 0, cells := 0, slots := 0, locals := 0 }
set_option maxHeartbeats 4000000 in
set_option maxRecDepth 100000 in
theorem wk_X5_fillTried_6 {p : Program} {l : Launch} {e : Env} {s : State} {m : MethodId} {args : Array Value} {below : List Frame} {meth : Method} {c : Code} {fu nw : Nat} {G : GG} {mo : Me} {b1 : Int32} {b2 : Int32} {b3 : Int32} (hx : p.tables.exec = Jvm.exec) (hb : c.code = cX5_fillTried) (hml : c.maxLocals = 6) (hown : s.vm.findClass RX5 = some m.cls) (hE : EnvP G s) (hr : meth.sig.returnType = (some .boolean)) (hlocks : meth.locks = false) {x' : Me} {r : Int32} {k : Me → Int32 → Option (Me × Int32)} (hk : ∀ (x : Me) (a4 : Int32) (H : Heap) (locs : List Loc) (ls : Array Slot), k x a4 = some (x', r) → MemP G nw x mo H → va_S (gA G) s.heap H locs → lv_has ls 6 [(1, .int b1), (4, .int a4)] → W p l e rm_X5_fillTried s m args below meth c H locs 0 0 (MQ below (PI G nw x' mo r) args s 0 0 (gA G)) (F0 m 78 ls [])) : ∀ (n : Nat) (x : Me) (a4 : Int32) (a5 : Int32) (H : Heap) (locs : List Loc) (ls : Array Slot), f_X5_fillTried_6 fu nw b1 b2 b3 k n x a4 a5 = some (x', r) → MemP G nw x mo H → va_S (gA G) s.heap H locs → lv_has ls 6 [(0, .ref (ga G 9)), (1, .int b1), (2, .int b2), (3, .int b3), (4, .int a4), (5, .int a5)] → W p l e rm_X5_fillTried s m args below meth c H locs 0 0 (MQ below (PI G nw x' mo r) args s 0 0 (gA G)) (F0 m 6 ls []) := by
  intro n
  induction n with
  | zero =>
    intro x a4 a5 H locs ls hf hM hS hl
    exact nn hf
  | succ n ih =>
    intro x a4 a5 H locs ls hf hM hS hl
    refine lv_iload hx hb dX5_fillTried_6 (lv_at hl 5 rfl) ?_
    refine lv_aload_n hx hb dX5_fillTried_8 rfl (lv_at hl 0 rfl) ?_
    refine gf_15 hx hb hE hM hown w_1_102 dX5_fillTried_9 ?_
    refine lv_icmp_ge (tgt := 78) hx hb dX5_fillTried_12 (by decide) (fun hc_8 => ?_) (fun hc_8 => ?_)
    · replace hf := i_t hf hc_8
      exact hk x a4 _ _ _ hf hM hS (lv_sub hl [1, 4] rfl)
    · replace hf := i_f hf hc_8
      refine lv_iload hx hb dX5_fillTried_15 (lv_at hl 4 rfl) ?_
      refine lv_iload_n hx hb dX5_fillTried_17 rfl (lv_at hl 1 rfl) ?_
      refine lv_icmp_ge (tgt := 78) hx hb dX5_fillTried_18 (by decide) (fun hc_7 => ?_) (fun hc_7 => ?_)
      · replace hf := i_t hf hc_7
        exact hk x a4 _ _ _ hf hM hS (lv_sub hl [1, 4] rfl)
      · replace hf := i_f hf hc_7
        refine lv_iload hx hb dX5_fillTried_21 (lv_at hl 4 rfl) ?_
        refine lv_bipush (v := 10) hx hb dX5_fillTried_23 (by decide) ?_
        refine lv_icmp_ge (tgt := 78) hx hb dX5_fillTried_25 (by decide) (fun hc_6 => ?_) (fun hc_6 => ?_)
        · replace hf := i_t hf hc_6
          exact hk x a4 _ _ _ hf hM hS (lv_sub hl [1, 4] rfl)
        · replace hf := i_f hf hc_6
          refine lv_aload_n hx hb dX5_fillTried_28 rfl (lv_at hl 0 rfl) ?_
          refine gr_11 hx hb hE hM hown w_1_105 dX5_fillTried_29 ?_
          refine lv_iload hx hb dX5_fillTried_32 (lv_at hl 5 rfl) ?_
          obtain ⟨hi_1, hf⟩ := i_n hf
          refine la_11 hx hb hE hM hi_1 dX5_fillTried_34 ?_
          refine lv_if_eq (tgt := 72) hx hb dX5_fillTried_35 (by decide) (fun hc_5 => ?_) (fun hc_5 => ?_)
          · replace hf := i_t hf hc_5
            refine lv_iinc (v := a5 + 1) (lv' := [(5, .int (a5 + 1)), (0, .ref (ga G 9)), (1, .int b1), (2, .int b2), (3, .int b3), (4, .int a4)]) hx hb dX5_fillTried_72 hl (k := 5) rfl rfl (by decide) rfl (fun ls hl => ?_)
            refine lv_goto (tgt := 6) hx hb dX5_fillTried_75 (by decide) ?_
            exact ih x a4 (a5 + 1) _ _ _ hf hM hS (lv_sub hl [1, 2, 3, 4, 5, 0] rfl)
          · replace hf := i_f hf hc_5
            refine lv_aload_n hx hb dX5_fillTried_38 rfl (lv_at hl 0 rfl) ?_
            refine gr_10 hx hb hE hM hown w_1_104 dX5_fillTried_39 ?_
            refine lv_iload hx hb dX5_fillTried_42 (lv_at hl 5 rfl) ?_
            refine la_10 hx hb hE hM hi_1 dX5_fillTried_44 ?_
            refine lv_iload_n hx hb dX5_fillTried_45 rfl (lv_at hl 2 rfl) ?_
            refine lv_icmp_lt (tgt := 72) hx hb dX5_fillTried_46 (by decide) (fun hc_4 => ?_) (fun hc_4 => ?_)
            · replace hf := i_t hf hc_4
              refine lv_iinc (v := a5 + 1) (lv' := [(5, .int (a5 + 1)), (0, .ref (ga G 9)), (1, .int b1), (2, .int b2), (3, .int b3), (4, .int a4)]) hx hb dX5_fillTried_72 hl (k := 5) rfl rfl (by decide) rfl (fun ls hl => ?_)
              refine lv_goto (tgt := 6) hx hb dX5_fillTried_75 (by decide) ?_
              exact ih x a4 (a5 + 1) _ _ _ hf hM hS (lv_sub hl [1, 2, 3, 4, 5, 0] rfl)
            · replace hf := i_f hf hc_4
              refine lv_aload_n hx hb dX5_fillTried_49 rfl (lv_at hl 0 rfl) ?_
              refine gr_10 hx hb hE hM hown w_1_104 dX5_fillTried_50 ?_
              refine lv_iload hx hb dX5_fillTried_53 (lv_at hl 5 rfl) ?_
              refine la_10 hx hb hE hM hi_1 dX5_fillTried_55 ?_
              refine lv_iload_n hx hb dX5_fillTried_56 rfl (lv_at hl 3 rfl) ?_
              refine lv_icmp_gt (tgt := 72) hx hb dX5_fillTried_57 (by decide) (fun hc_3 => ?_) (fun hc_3 => ?_)
              · replace hf := i_t hf hc_3
                refine lv_iinc (v := a5 + 1) (lv' := [(5, .int (a5 + 1)), (0, .ref (ga G 9)), (1, .int b1), (2, .int b2), (3, .int b3), (4, .int a4)]) hx hb dX5_fillTried_72 hl (k := 5) rfl rfl (by decide) rfl (fun ls hl => ?_)
                refine lv_goto (tgt := 6) hx hb dX5_fillTried_75 (by decide) ?_
                exact ih x a4 (a5 + 1) _ _ _ hf hM hS (lv_sub hl [1, 2, 3, 4, 5, 0] rfl)
              · replace hf := i_f hf hc_3
                refine lv_aload_n hx hb dX5_fillTried_60 rfl (lv_at hl 0 rfl) ?_
                refine gr_13 hx hb hE hM hown w_1_109 dX5_fillTried_61 ?_
                refine lv_iload hx hb dX5_fillTried_64 (lv_at hl 4 rfl) ?_
                refine lv_iload hx hb dX5_fillTried_66 (lv_at hl 5 rfl) ?_
                obtain ⟨hi_2, hf⟩ := i_n hf
                refine sa_13 hx hb hE hM hS hi_2 dX5_fillTried_68 (fun H locs hM hS => ?_)
                refine lv_iinc (v := a4 + 1) (lv' := [(4, .int (a4 + 1)), (0, .ref (ga G 9)), (1, .int b1), (2, .int b2), (3, .int b3), (5, .int a5)]) hx hb dX5_fillTried_69 hl (k := 4) rfl rfl (by decide) rfl (fun ls hl => ?_)
                refine lv_iinc (v := a5 + 1) (lv' := [(5, .int (a5 + 1)), (4, .int (a4 + 1)), (0, .ref (ga G 9)), (1, .int b1), (2, .int b2), (3, .int b3)]) hx hb dX5_fillTried_72 hl (k := 5) rfl rfl (by decide) rfl (fun ls hl => ?_)
                refine lv_goto (tgt := 6) hx hb dX5_fillTried_75 (by decide) ?_
                exact ih (mu x 19 a4.toNatClampNeg a5) (a4 + 1) (a5 + 1) _ _ _ hf hM hS (lv_sub hl [2, 3, 4, 5, 1, 0] rfl)
set_option maxHeartbeats 4000000 in
set_option maxRecDepth 100000 in
theorem c_X5_fillTried (l : Launch) (fu nw : Nat) (G : GG) (x x' mo : Me) (a1 : Int32) (a2 : Int32) (a3 : Int32) (r : Int32) (hf : f_X5_fillTried fu nw x a1 a2 a3 = some (x', r)) : Met l yX5_fillTried [.code yX5_fillTried cX5_fillTried 6 (some .boolean)] rm_X5_fillTried (va_Pc [.ref (ga G 9), .int a1, .int a2, .int a3] (Pre G nw x mo)) (PI G nw x' mo r) 0 0 (gA G) := by
  refine Met.ofW (cc := cX5_fillTried) (maxL := 6) (ret := (some .boolean)) (by decide) rfl ?_
  intro p e s m args below meth c s₁ B hml hv
  obtain ⟨rfl, hE, hM⟩ := hv
  have hx := B.exec
  have hb := B.bytes
  have hr := B.returns
  have hown : s.vm.findClass RX5 = some m.cls := findClass_of_methodNamed B.named
  have hlocks := B.notSynchronized
  have hS : va_S (gA G) s.heap s.heap [] := va_S.rf
  have hl := lv_entry ([.ref (ga G 9), .int a1, .int a2, .int a3]) (n := 6) (Nat.le_of_ble_eq_true rfl)
  rw [lg_entry_eq]
  generalize (lg_sl ([.ref (ga G 9), .int a1, .int a2, .int a3]) ++ List.replicate (6 - (lg_sl ([.ref (ga G 9), .int a1, .int a2, .int a3])).length) Slot.unset).toArray = ls at hl ⊢
  have hl : lv_has ls 6 [(0, .ref (ga G 9)), (1, .int a1), (2, .int a2), (3, .int a3)] := hl
  unfold f_X5_fillTried at hf
  refine lv_iconst (v := 0) hx hb dX5_fillTried_0 (by decide) ?_
  refine lv_istore (lv' := [(4, .int 0), (0, .ref (ga G 9)), (1, .int a1), (2, .int a2), (3, .int a3)]) hx hb dX5_fillTried_1 hl (by decide) rfl (fun ls hl => ?_)
  refine lv_iconst (v := 0) hx hb dX5_fillTried_3 (by decide) ?_
  refine lv_istore (lv' := [(5, .int 0), (4, .int 0), (0, .ref (ga G 9)), (1, .int a1), (2, .int a2), (3, .int a3)]) hx hb dX5_fillTried_4 hl (by decide) rfl (fun ls hl => ?_)
  refine wk_X5_fillTried_6 hx hb hml hown hE hr hlocks ?_ fu x 0 0 _ _ _ hf hM hS (lv_sub hl [2, 3, 4, 5, 1, 0] rfl)
  intro x_9 a4_9 H locs ls hf hM hS hl
  refine lv_iload hx hb dX5_fillTried_78 (lv_at hl 1 rfl) ?_
  refine lv_iload_n hx hb dX5_fillTried_80 rfl (lv_at hl 0 rfl) ?_
  refine lv_icmp_ne (tgt := 88) hx hb dX5_fillTried_81 (by decide) (fun hc_10 => ?_) (fun hc_10 => ?_)
  · replace hf := i_f hf hc_10
    refine lv_iconst (v := 0) hx hb dX5_fillTried_88 (by decide) ?_
    exact rt_zX hx hb hr rfl hf hM hS dX5_fillTried_89 hlocks
  · replace hf := i_t hf hc_10
    refine lv_iconst (v := 1) hx hb dX5_fillTried_84 (by decide) ?_
    refine lv_goto (tgt := 89) hx hb dX5_fillTried_85 (by decide) ?_
    exact rt_zX hx hb hr rfl hf hM hS dX5_fillTried_89 hlocks
theorem k_X5_fillTried {p : Program} {l : Launch} {e : Env} {R : Room} {s : State} {m : MethodId} {args : Array Value} {below : List Frame} {meth : Method} {c : Code} {H : Heap} {locs : List Loc} {cells slots : Nat} {Q : State → Prop} {cc : ByteArray} {pc nL : Nat} {ls : Array Slot} {rest : List Value} {G : GG} {fu nw : Nat} {x x' mo : Me} {own : String} {index : Nat} {a1 : Int32} {a2 : Int32} {a3 : Int32} {r : Int32} (hx : p.tables.exec = Jvm.exec) (hb : c.code = cc) (hml : c.maxLocals = nL) (hown : s.vm.findClass own = some m.cls) (hE : EnvP G s) (hM : MemP G nw x mo H) (hS : va_S (gA G) s.heap H locs) (hw : Cond.methodLink own index yX5_fillTried ∈ lw_tbl) (hf : f_X5_fillTried fu nw x a1 a2 a3 = some (x', r)) (h1 : 0 + 1 ≤ R.frames) (h2 : 8 + (6 + 11) + 0 ≤ R.locals) (hsz : ls.size = nL) (hW : (rest.map fun v => v.category).sum ≤ 8) (hcs : cells ≤ R.cells ∧ slots ≤ R.slots) (hdg : decode cc pc = .ok (.invokevirtual index, 3)) (kk : ∀ (H1 : Heap) (locs1 : List Loc), MemP G nw x' mo H1 → va_S (gA G) s.heap H1 locs1 → W p l e R s m args below meth c H1 locs1 cells slots Q (F0 m (pc + 3) ls (.int r :: rest))) : W p l e R s m args below meth c H locs cells slots Q (F0 m pc ls (.int a3 :: .int a2 :: .int a1 :: .ref (ga G 9) :: rest)) := mm_ki hS (mm_runV (n := 3) (o := 9) (C := RX5) (T := TX5) (N := 5) (ci := 5) (As := [.int a1, .int a2, .int a3]) hx hb hml hown hE hM hS (c_X5_fillTried l fu nw G x x' mo a1 a2 a3 r hf) (List.forall_mem_cons.mpr ⟨⟨hw, rfl⟩, List.forall_mem_cons.mpr ⟨⟨w_3_94, rfl⟩, List.forall_mem_cons.mpr ⟨⟨w_0_10, rfl⟩, List.forall_mem_cons.mpr ⟨⟨w_1_5, rfl⟩, List.forall_mem_cons.mpr ⟨⟨w_3_95, rfl⟩, fun _ h => absurd h List.not_mem_nil⟩⟩⟩⟩⟩) rfl rfl ⟨rfl, by decide, by decide, by decide +kernel⟩ ⟨h1, h2⟩ rfl rfl rfl hsz rfl hW hdg hcs) kk
def f_X5_triedIsAhead_2 (fu nw : Nat) (b1 : Int32) (k : Me → Option (Me × Int32)) : Nat → Me → Int32 → Option (Me × Int32)
  | 0 => fun _ _ => none
  | n + 1 => fun x a2 => if b1 ≤ a2 then k x else if 10 ≤ a2 then k x else if inb a2 10 = true then if (x 19 a2.toNatClampNeg) = (x 18 a2.toNatClampNeg) then f_X5_triedIsAhead_2 fu nw b1 k n x (a2 + 1) else if (x 18 a2.toNatClampNeg) ≤ (x 19 a2.toNatClampNeg) then some (x, 0) else some (x, 1) else none
def f_X5_triedIsAhead (fu nw : Nat) (x : Me) (a1 : Int32) : Option (Me × Int32) := f_X5_triedIsAhead_2 fu nw a1 (fun (x_6 : Me) => some (x_6, 0)) fu x 0
def rm_X5_triedIsAhead : Room := { frames := 0, cells := 0, slots := 0, locals := 0 }
set_option maxHeartbeats 4000000 in
set_option maxRecDepth 100000 in
theorem wk_X5_triedIsAhead_2 {p : Program} {l : Launch} {e : Env} {s : State} {m : MethodId} {args : Array Value} {below : List Frame} {meth : Method} {c : Code} {fu nw : Nat} {G : GG} {mo : Me} {b1 : Int32} (hx : p.tables.exec = Jvm.exec) (hb : c.code = cX5_triedIsAhead) (hml : c.maxLocals = 3) (hown : s.vm.findClass RX5 = some m.cls) (hE : EnvP G s) (hr : meth.sig.returnType = (some .boolean)) (hlocks : meth.locks = false) {x' : Me} {r : Int32} {k : Me → Option (Me × Int32)} (hk : ∀ (x : Me) (H : Heap) (locs : List Loc) (ls : Array Slot), k x = some (x', r) → MemP G nw x mo H → va_S (gA G) s.heap H locs → lv_has ls 3 [] → W p l e rm_X5_triedIsAhead s m args below meth c H locs 0 0 (MQ below (PI G nw x' mo r) args s 0 0 (gA G)) (F0 m 55 ls [])) : ∀ (n : Nat) (x : Me) (a2 : Int32) (H : Heap) (locs : List Loc) (ls : Array Slot), f_X5_triedIsAhead_2 fu nw b1 k n x a2 = some (x', r) → MemP G nw x mo H → va_S (gA G) s.heap H locs → lv_has ls 3 [(0, .ref (ga G 9)), (1, .int b1), (2, .int a2)] → W p l e rm_X5_triedIsAhead s m args below meth c H locs 0 0 (MQ below (PI G nw x' mo r) args s 0 0 (gA G)) (F0 m 2 ls []) := by
  intro n
  induction n with
  | zero =>
    intro x a2 H locs ls hf hM hS hl
    exact nn hf
  | succ n ih =>
    intro x a2 H locs ls hf hM hS hl
    refine lv_iload_n hx hb dX5_triedIsAhead_2 rfl (lv_at hl 2 rfl) ?_
    refine lv_iload_n hx hb dX5_triedIsAhead_3 rfl (lv_at hl 1 rfl) ?_
    refine lv_icmp_ge (tgt := 55) hx hb dX5_triedIsAhead_4 (by decide) (fun hc_5 => ?_) (fun hc_5 => ?_)
    · replace hf := i_t hf hc_5
      exact hk x _ _ _ hf hM hS (lv_sub hl [] rfl)
    · replace hf := i_f hf hc_5
      refine lv_iload_n hx hb dX5_triedIsAhead_7 rfl (lv_at hl 2 rfl) ?_
      refine lv_bipush (v := 10) hx hb dX5_triedIsAhead_8 (by decide) ?_
      refine lv_icmp_ge (tgt := 55) hx hb dX5_triedIsAhead_10 (by decide) (fun hc_4 => ?_) (fun hc_4 => ?_)
      · replace hf := i_t hf hc_4
        exact hk x _ _ _ hf hM hS (lv_sub hl [] rfl)
      · replace hf := i_f hf hc_4
        refine lv_aload_n hx hb dX5_triedIsAhead_13 rfl (lv_at hl 0 rfl) ?_
        refine gr_13 hx hb hE hM hown w_1_109 dX5_triedIsAhead_14 ?_
        refine lv_iload_n hx hb dX5_triedIsAhead_17 rfl (lv_at hl 2 rfl) ?_
        obtain ⟨hi_1, hf⟩ := i_n hf
        refine la_13 hx hb hE hM hi_1 dX5_triedIsAhead_18 ?_
        refine lv_aload_n hx hb dX5_triedIsAhead_19 rfl (lv_at hl 0 rfl) ?_
        refine gr_12 hx hb hE hM hown w_1_107 dX5_triedIsAhead_20 ?_
        refine lv_iload_n hx hb dX5_triedIsAhead_23 rfl (lv_at hl 2 rfl) ?_
        refine la_12 hx hb hE hM hi_1 dX5_triedIsAhead_24 ?_
        refine lv_icmp_eq (tgt := 49) hx hb dX5_triedIsAhead_25 (by decide) (fun hc_3 => ?_) (fun hc_3 => ?_)
        · replace hf := i_t hf hc_3
          refine lv_iinc (v := a2 + 1) (lv' := [(2, .int (a2 + 1)), (0, .ref (ga G 9)), (1, .int b1)]) hx hb dX5_triedIsAhead_49 hl (k := 2) rfl rfl (by decide) rfl (fun ls hl => ?_)
          refine lv_goto (tgt := 2) hx hb dX5_triedIsAhead_52 (by decide) ?_
          exact ih x (a2 + 1) _ _ _ hf hM hS (lv_sub hl [1, 2, 0] rfl)
        · replace hf := i_f hf hc_3
          refine lv_aload_n hx hb dX5_triedIsAhead_28 rfl (lv_at hl 0 rfl) ?_
          refine gr_13 hx hb hE hM hown w_1_109 dX5_triedIsAhead_29 ?_
          refine lv_iload_n hx hb dX5_triedIsAhead_32 rfl (lv_at hl 2 rfl) ?_
          refine la_13 hx hb hE hM hi_1 dX5_triedIsAhead_33 ?_
          refine lv_aload_n hx hb dX5_triedIsAhead_34 rfl (lv_at hl 0 rfl) ?_
          refine gr_12 hx hb hE hM hown w_1_107 dX5_triedIsAhead_35 ?_
          refine lv_iload_n hx hb dX5_triedIsAhead_38 rfl (lv_at hl 2 rfl) ?_
          refine la_12 hx hb hE hM hi_1 dX5_triedIsAhead_39 ?_
          refine lv_icmp_ge (tgt := 47) hx hb dX5_triedIsAhead_40 (by decide) (fun hc_2 => ?_) (fun hc_2 => ?_)
          · replace hf := i_t hf hc_2
            refine lv_iconst (v := 0) hx hb dX5_triedIsAhead_47 (by decide) ?_
            exact rt_zX hx hb hr rfl hf hM hS dX5_triedIsAhead_48 hlocks
          · replace hf := i_f hf hc_2
            refine lv_iconst (v := 1) hx hb dX5_triedIsAhead_43 (by decide) ?_
            refine lv_goto (tgt := 48) hx hb dX5_triedIsAhead_44 (by decide) ?_
            exact rt_zX hx hb hr rfl hf hM hS dX5_triedIsAhead_48 hlocks
set_option maxHeartbeats 4000000 in
set_option maxRecDepth 100000 in
theorem c_X5_triedIsAhead (l : Launch) (fu nw : Nat) (G : GG) (x x' mo : Me) (a1 : Int32) (r : Int32) (hf : f_X5_triedIsAhead fu nw x a1 = some (x', r)) : Met l yX5_triedIsAhead [.code yX5_triedIsAhead cX5_triedIsAhead 3 (some .boolean)] rm_X5_triedIsAhead (va_Pc [.ref (ga G 9), .int a1] (Pre G nw x mo)) (PI G nw x' mo r) 0 0 (gA G) := by
  refine Met.ofW (cc := cX5_triedIsAhead) (maxL := 3) (ret := (some .boolean)) (by decide) rfl ?_
  intro p e s m args below meth c s₁ B hml hv
  obtain ⟨rfl, hE, hM⟩ := hv
  have hx := B.exec
  have hb := B.bytes
  have hr := B.returns
  have hown : s.vm.findClass RX5 = some m.cls := findClass_of_methodNamed B.named
  have hlocks := B.notSynchronized
  have hS : va_S (gA G) s.heap s.heap [] := va_S.rf
  have hl := lv_entry ([.ref (ga G 9), .int a1]) (n := 3) (Nat.le_of_ble_eq_true rfl)
  rw [lg_entry_eq]
  generalize (lg_sl ([.ref (ga G 9), .int a1]) ++ List.replicate (3 - (lg_sl ([.ref (ga G 9), .int a1])).length) Slot.unset).toArray = ls at hl ⊢
  have hl : lv_has ls 3 [(0, .ref (ga G 9)), (1, .int a1)] := hl
  unfold f_X5_triedIsAhead at hf
  refine lv_iconst (v := 0) hx hb dX5_triedIsAhead_0 (by decide) ?_
  refine lv_istore_n (lv' := [(2, .int 0), (0, .ref (ga G 9)), (1, .int a1)]) hx hb dX5_triedIsAhead_1 rfl hl (by decide) rfl (fun ls hl => ?_)
  refine wk_X5_triedIsAhead_2 hx hb hml hown hE hr hlocks ?_ fu x 0 _ _ _ hf hM hS (lv_sub hl [1, 2, 0] rfl)
  intro x_6 H locs ls hf hM hS hl
  refine lv_iconst (v := 0) hx hb dX5_triedIsAhead_55 (by decide) ?_
  exact rt_zX hx hb hr rfl hf hM hS dX5_triedIsAhead_56 hlocks
theorem k_X5_triedIsAhead {p : Program} {l : Launch} {e : Env} {R : Room} {s : State} {m : MethodId} {args : Array Value} {below : List Frame} {meth : Method} {c : Code} {H : Heap} {locs : List Loc} {cells slots : Nat} {Q : State → Prop} {cc : ByteArray} {pc nL : Nat} {ls : Array Slot} {rest : List Value} {G : GG} {fu nw : Nat} {x x' mo : Me} {own : String} {index : Nat} {a1 : Int32} {r : Int32} (hx : p.tables.exec = Jvm.exec) (hb : c.code = cc) (hml : c.maxLocals = nL) (hown : s.vm.findClass own = some m.cls) (hE : EnvP G s) (hM : MemP G nw x mo H) (hS : va_S (gA G) s.heap H locs) (hw : Cond.methodLink own index yX5_triedIsAhead ∈ lw_tbl) (hf : f_X5_triedIsAhead fu nw x a1 = some (x', r)) (h1 : 0 + 1 ≤ R.frames) (h2 : 8 + (3 + 11) + 0 ≤ R.locals) (hsz : ls.size = nL) (hW : (rest.map fun v => v.category).sum ≤ 8) (hcs : cells ≤ R.cells ∧ slots ≤ R.slots) (hdg : decode cc pc = .ok (.invokevirtual index, 3)) (kk : ∀ (H1 : Heap) (locs1 : List Loc), MemP G nw x' mo H1 → va_S (gA G) s.heap H1 locs1 → W p l e R s m args below meth c H1 locs1 cells slots Q (F0 m (pc + 3) ls (.int r :: rest))) : W p l e R s m args below meth c H locs cells slots Q (F0 m pc ls (.int a1 :: .ref (ga G 9) :: rest)) := mm_ki hS (mm_runV (n := 1) (o := 9) (C := RX5) (T := TX5) (N := 5) (ci := 5) (As := [.int a1]) hx hb hml hown hE hM hS (c_X5_triedIsAhead l fu nw G x x' mo a1 r hf) (List.forall_mem_cons.mpr ⟨⟨hw, rfl⟩, List.forall_mem_cons.mpr ⟨⟨w_3_98, rfl⟩, List.forall_mem_cons.mpr ⟨⟨w_0_11, rfl⟩, List.forall_mem_cons.mpr ⟨⟨w_1_5, rfl⟩, List.forall_mem_cons.mpr ⟨⟨w_3_99, rfl⟩, fun _ h => absurd h List.not_mem_nil⟩⟩⟩⟩⟩) rfl rfl ⟨rfl, by decide, by decide, by decide +kernel⟩ ⟨h1, h2⟩ rfl rfl rfl hsz rfl hW hdg hcs) kk
