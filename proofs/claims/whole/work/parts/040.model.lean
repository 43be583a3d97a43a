def f_X11_feed_20 (fu : Nat) (b1 : Int32) (b2 : Int32) (b3 : Int32) (b4 : Int32) (b5 : Int32) (k : Me → Option (Me × Int32)) : Nat → Me → Int32 → Option (Me × Int32)
  | 0 => fun _ _ => none
  | n + 1 => fun x a6 => if 20 ≤ a6 then k x else jn (fun (x_1 : Me) (s_1 : Int32) => if inb ((x_1 2 0) + a6) 600 = true then f_X11_feed_20 fu b1 b2 b3 b4 b5 k n (mu x_1 1 (((x_1 2 0) + a6).toNatClampNeg) ((s_1 >>> ((24 - (8 * (a6 - a6 / 4 * 4))) &&& 31)) &&& 255)) (a6 + 1) else none) (fun j_1 => if 4 ≤ a6 then if 8 ≤ a6 then if 12 ≤ a6 then if 16 ≤ a6 then j_1 x b5 else j_1 x b4 else j_1 x b3 else j_1 x b2 else j_1 x b1)
def f_X11_feed (fu : Nat) (x : Me) (a1 : Int32) (a2 : Int32) (a3 : Int32) (a4 : Int32) (a5 : Int32) : Option (Me × Int32) := if (x 2 0) ≤ 580 then f_X11_feed_20 fu a1 a2 a3 a4 a5 (fun (x_8 : Me) => some ((mu x_8 2 0 ((x_8 2 0) + 20)), (x_8 2 0) + 20)) fu (mu x 0 0 0) 0 else some ((mu x 0 0 0), (-1))
def rm_X11_feed : Room := { frames := 0, cells := 0, slots := 0, locals := 0 }
set_option maxHeartbeats 4000000 in
set_option maxRecDepth 100000 in
theorem wk_X11_feed_20 {p : Program} {l : Launch} {e : Env} {s : State} {m : MethodId} {args : Array Value} {below : List Frame} {meth : Method} {c : Code} {fu nw : Nat} {G : GG} {mo : Me} {b1 : Int32} {b2 : Int32} {b3 : Int32} {b4 : Int32} {b5 : Int32} (hx : p.tables.exec = Jvm.exec) (hb : c.code = cX11_feed) (hml : c.maxLocals = 8) (hown : s.vm.findClass RX11 = some m.cls) (hE : EnvP G s) (hr : meth.sig.returnType = (some .int)) (hlocks : meth.locks = false) {x' : Me} {r : Int32} {k : Me → Option (Me × Int32)} (hk : ∀ (x : Me) (H : Heap) (locs : List Loc) (ls : Array Slot), k x = some (x', r) → MemP G nw mo x H → va_S (gA G) s.heap H locs → lv_has ls 8 [(0, .ref (ga G 41))] → W p l e rm_X11_feed s m args below meth c H locs 0 0 (MQ below (PI G nw mo x' r) args s 0 0 (gA G)) (F0 m 110 ls [])) : ∀ (n : Nat) (x : Me) (a6 : Int32) (H : Heap) (locs : List Loc) (ls : Array Slot), f_X11_feed_20 fu b1 b2 b3 b4 b5 k n x a6 = some (x', r) → MemP G nw mo x H → va_S (gA G) s.heap H locs → lv_has ls 8 [(0, .ref (ga G 41)), (1, .int b1), (2, .int b2), (3, .int b3), (4, .int b4), (5, .int b5), (6, .int a6)] → W p l e rm_X11_feed s m args below meth c H locs 0 0 (MQ below (PI G nw mo x' r) args s 0 0 (gA G)) (F0 m 20 ls []) := by
  intro n
  induction n with
  | zero =>
    intro x a6 H locs ls hf hM hS hl
    exact nn hf
  | succ n ih =>
    intro x a6 H locs ls hf hM hS hl
    rw [f_X11_feed_20] at hf
    refine lv_iload hx hb dX11_feed_20 (lv_at hl 6 rfl) ?_
    refine lv_bipush (v := 20) hx hb dX11_feed_22 (by decide) ?_
    refine lv_icmp_ge (tgt := 110) hx hb dX11_feed_24 (by decide) (fun hc_7 => ?_) (fun hc_7 => ?_)
    · replace hf := i_t hf hc_7
      exact hk x _ _ _ hf hM hS (lv_sub hl [0] rfl)
    · replace hf := i_f hf hc_7
      refine lv_iload hx hb dX11_feed_27 (lv_at hl 6 rfl) ?_
      refine lv_iconst (v := 4) hx hb dX11_feed_29 (by decide) ?_
      have hj_1 : ∀ (x_1 : Me) (s_1 : Int32) (H : Heap) (locs : List Loc) (ls : Array Slot), jnA hf x_1 s_1 = some (x', r) → MemP G nw mo x_1 H → va_S (gA G) s.heap H locs → lv_has ls 8 [(0, .ref (ga G 41)), (1, .int b1), (2, .int b2), (3, .int b3), (4, .int b4), (5, .int b5), (6, .int a6)] → W p l e rm_X11_feed s m args below meth c H locs 0 0 (MQ below (PI G nw mo x' r) args s 0 0 (gA G)) (F0 m 73 ls [.int s_1]) := by
        intro x_1 s_1 H locs ls hf hM hS hl
        refine lv_istore (lv' := [(7, .int s_1), (0, .ref (ga G 41)), (1, .int b1), (2, .int b2), (3, .int b3), (4, .int b4), (5, .int b5), (6, .int a6)]) hx hb dX11_feed_73 hl (by decide) rfl (fun ls hl => ?_)
        refine lv_aload_n hx hb dX11_feed_75 rfl (lv_at hl 1 rfl) ?_
        refine gr_42 hx hb hE hM hown w_4_101 dX11_feed_76 ?_
        refine lv_aload_n hx hb dX11_feed_79 rfl (lv_at hl 1 rfl) ?_
        refine gm_2 hx hb hE hM hown w_4_102 dX11_feed_80 ?_
        refine lv_iload hx hb dX11_feed_83 (lv_at hl 7 rfl) ?_
        refine lv_iadd hx hb dX11_feed_85 ?_
        refine lv_iload hx hb dX11_feed_86 (lv_at hl 0 rfl) ?_
        refine lv_bipush (v := 24) hx hb dX11_feed_88 (by decide) ?_
        refine lv_bipush (v := 8) hx hb dX11_feed_90 (by decide) ?_
        refine lv_iload hx hb dX11_feed_92 (lv_at hl 7 rfl) ?_
        refine lv_iconst (v := 4) hx hb dX11_feed_94 (by decide) ?_
        refine lv_irem hx hb dX11_feed_95 (by decide) ?_
        refine lv_imul hx hb dX11_feed_96 ?_
        refine lv_isub hx hb dX11_feed_97 ?_
        refine lv_ishr hx hb dX11_feed_98 ?_
        refine lv_sipush (v := 255) hx hb dX11_feed_99 (by decide) ?_
        refine lv_iand hx hb dX11_feed_102 ?_
        obtain ⟨hi_2, hf⟩ := i_n hf
        refine sa_42 hx hb hE hM hS hi_2 dX11_feed_103 (fun H locs hM hS => ?_)
        refine lv_iinc (v := a6 + 1) (lv' := [(6, .int (a6 + 1)), (7, .int s_1), (0, .ref (ga G 41)), (1, .int b1), (2, .int b2), (3, .int b3), (4, .int b4), (5, .int b5)]) hx hb dX11_feed_104 hl (k := 7) rfl rfl (by decide) rfl (fun ls hl => ?_)
        refine lv_goto (tgt := 20) hx hb dX11_feed_107 (by decide) ?_
        exact ih (mu x_1 1 (((x_1 2 0) + a6).toNatClampNeg) ((s_1 >>> ((24 - (8 * (a6 - a6 / 4 * 4))) &&& 31)) &&& 255)) (a6 + 1) _ _ _ hf hM hS (lv_sub hl [2, 3, 4, 5, 6, 7, 0] rfl)
      replace hf := jn_use hf
      refine lv_icmp_ge (tgt := 37) hx hb dX11_feed_30 (by decide) (fun hc_6 => ?_) (fun hc_6 => ?_)
      · replace hf := i_t hf hc_6
        refine lv_iload hx hb dX11_feed_37 (lv_at hl 6 rfl) ?_
        refine lv_bipush (v := 8) hx hb dX11_feed_39 (by decide) ?_
        refine lv_icmp_ge (tgt := 48) hx hb dX11_feed_41 (by decide) (fun hc_5 => ?_) (fun hc_5 => ?_)
        · replace hf := i_t hf hc_5
          refine lv_iload hx hb dX11_feed_48 (lv_at hl 6 rfl) ?_
          refine lv_bipush (v := 12) hx hb dX11_feed_50 (by decide) ?_
          refine lv_icmp_ge (tgt := 59) hx hb dX11_feed_52 (by decide) (fun hc_4 => ?_) (fun hc_4 => ?_)
          · replace hf := i_t hf hc_4
            refine lv_iload hx hb dX11_feed_59 (lv_at hl 6 rfl) ?_
            refine lv_bipush (v := 16) hx hb dX11_feed_61 (by decide) ?_
            refine lv_icmp_ge (tgt := 71) hx hb dX11_feed_63 (by decide) (fun hc_3 => ?_) (fun hc_3 => ?_)
            · replace hf := i_t hf hc_3
              refine lv_iload hx hb dX11_feed_71 (lv_at hl 5 rfl) ?_
              exact hj_1 x b5 _ _ _ hf hM hS (lv_sub hl [0, 1, 2, 3, 4, 5, 6] rfl)
            · replace hf := i_f hf hc_3
              refine lv_iload hx hb dX11_feed_66 (lv_at hl 4 rfl) ?_
              refine lv_goto (tgt := 73) hx hb dX11_feed_68 (by decide) ?_
              exact hj_1 x b4 _ _ _ hf hM hS (lv_sub hl [0, 1, 2, 3, 4, 5, 6] rfl)
          · replace hf := i_f hf hc_4
            refine lv_iload_n hx hb dX11_feed_55 rfl (lv_at hl 3 rfl) ?_
            refine lv_goto (tgt := 73) hx hb dX11_feed_56 (by decide) ?_
            exact hj_1 x b3 _ _ _ hf hM hS (lv_sub hl [0, 1, 2, 3, 4, 5, 6] rfl)
        · replace hf := i_f hf hc_5
          refine lv_iload_n hx hb dX11_feed_44 rfl (lv_at hl 2 rfl) ?_
          refine lv_goto (tgt := 73) hx hb dX11_feed_45 (by decide) ?_
          exact hj_1 x b2 _ _ _ hf hM hS (lv_sub hl [0, 1, 2, 3, 4, 5, 6] rfl)
      · replace hf := i_f hf hc_6
        refine lv_iload_n hx hb dX11_feed_33 rfl (lv_at hl 1 rfl) ?_
        refine lv_goto (tgt := 73) hx hb dX11_feed_34 (by decide) ?_
        exact hj_1 x b1 _ _ _ hf hM hS (lv_sub hl [0, 1, 2, 3, 4, 5, 6] rfl)
set_option maxHeartbeats 4000000 in
set_option maxRecDepth 100000 in
theorem c_X11_feed (l : Launch) (fu nw : Nat) (G : GG) (x x' mo : Me) (a1 : Int32) (a2 : Int32) (a3 : Int32) (a4 : Int32) (a5 : Int32) (r : Int32) (hf : f_X11_feed fu x a1 a2 a3 a4 a5 = some (x', r)) : Met l yX11_feed [.code yX11_feed cX11_feed 8 (some .int)] rm_X11_feed (va_Pc [.ref (ga G 41), .int a1, .int a2, .int a3, .int a4, .int a5] (Pre G nw mo x)) (PI G nw mo x' r) 0 0 (gA G) := by
  refine mt_ofW (cc := cX11_feed) (maxL := 8) (ret := (some .int)) (by decide +kernel) rfl ?_
  intro p e s m args below meth c s₁ B hml hv
  obtain ⟨rfl, hE, hM⟩ := hv
  have hx := B.exec
  have hb := B.bytes
  have hr := B.returns
  have hown : s.vm.findClass RX11 = some m.cls := findClass_of_methodNamed B.named
  have hlocks := B.notSynchronized
  have hS : va_S (gA G) s.heap s.heap [] := va_S.rf
  have hl := lv_entry ([.ref (ga G 41), .int a1, .int a2, .int a3, .int a4, .int a5]) (n := 8) (Nat.le_of_ble_eq_true rfl)
  rw [lg_entry_eq]
  generalize (lg_sl ([.ref (ga G 41), .int a1, .int a2, .int a3, .int a4, .int a5]) ++ List.replicate (8 - (lg_sl ([.ref (ga G 41), .int a1, .int a2, .int a3, .int a4, .int a5])).length) Slot.unset).toArray = ls at hl ⊢
  have hl : lv_has ls 8 [(0, .ref (ga G 41)), (1, .int a1), (2, .int a2), (3, .int a3), (4, .int a4), (5, .int a5)] := hl
  generalize ([.ref (ga G 41), .int a1, .int a2, .int a3, .int a4, .int a5] : List Value).toArray = args
  unfold f_X11_feed at hf
  refine lv_aload_n hx hb dX11_feed_0 rfl (lv_at hl 0 rfl) ?_
  refine lv_iconst (v := 0) hx hb dX11_feed_1 (by decide) ?_
  refine pm_0 hx hb hE hM hS hown w_4_100 dX11_feed_2 (fun H locs hM hS => ?_)
  refine lv_aload_n hx hb dX11_feed_5 rfl (lv_at hl 0 rfl) ?_
  refine gm_2 hx hb hE hM hown w_4_102 dX11_feed_6 ?_
  refine lv_sipush (v := 580) hx hb dX11_feed_9 (by decide) ?_
  refine lv_icmp_le (tgt := 17) hx hb dX11_feed_12 (by decide) (fun hc_9 => ?_) (fun hc_9 => ?_)
  · replace hf := i_t hf hc_9
    refine lv_iconst (v := 0) hx hb dX11_feed_17 (by decide) ?_
    refine lv_istore (lv' := [(6, .int 0), (0, .ref (ga G 41)), (1, .int a1), (2, .int a2), (3, .int a3), (4, .int a4), (5, .int a5)]) hx hb dX11_feed_18 hl (by decide) rfl (fun ls hl => ?_)
    refine wk_X11_feed_20 hx hb hml hown hE hr hlocks ?_ fu (mu x 0 0 0) 0 _ _ _ hf hM hS (lv_sub hl [1, 2, 3, 4, 5, 6, 0] rfl)
    intro x_8 H locs ls hf hM hS hl
    refine lv_aload_n hx hb dX11_feed_110 rfl (lv_at hl 0 rfl) ?_
    refine lv_dup hx hb dX11_feed_111 rfl ?_
    refine gm_2 hx hb hE hM hown w_4_102 dX11_feed_112 ?_
    refine lv_bipush (v := 20) hx hb dX11_feed_115 (by decide) ?_
    refine lv_iadd hx hb dX11_feed_117 ?_
    refine pm_2 hx hb hE hM hS hown w_4_102 dX11_feed_118 (fun H locs hM hS => ?_)
    refine lv_aload_n hx hb dX11_feed_121 rfl (lv_at hl 0 rfl) ?_
    refine gm_2 hx hb hE hM hown w_4_102 dX11_feed_122 ?_
    exact rt_iM hx hb hr hf hM hS dX11_feed_125 hlocks
  · replace hf := i_f hf hc_9
    refine lv_iconst (v := (-1)) hx hb dX11_feed_15 (by decide) ?_
    exact rt_iM hx hb hr hf hM hS dX11_feed_16 hlocks
theorem k_X11_feed {p : Program} {l : Launch} {e : Env} {R : Room} {s : State} {m : MethodId} {args : Array Value} {below : List Frame} {meth : Method} {c : Code} {H : Heap} {locs : List Loc} {cells slots : Nat} {Q : State → Prop} {cc : ByteArray} {pc nL : Nat} {ls : Array Slot} {rest : List Value} {G : GG} {fu nw : Nat} {x x' mo : Me} {own : String} {index : Nat} {a1 : Int32} {a2 : Int32} {a3 : Int32} {a4 : Int32} {a5 : Int32} {r : Int32} (hx : p.tables.exec = Jvm.exec) (hb : c.code = cc) (hml : c.maxLocals = nL) (hown : s.vm.findClass own = some m.cls) (hE : EnvP G s) (hM : MemP G nw mo x H) (hS : va_S (gA G) s.heap H locs) (hw : Cond.methodLink own index yX11_feed ∈ lw_tbl) (hf : f_X11_feed fu x a1 a2 a3 a4 a5 = some (x', r)) (h1 : 0 + 1 ≤ R.frames) (h2 : 8 + (8 + 11) + 0 ≤ R.locals) (hsz : ls.size = nL) (hW : (rest.map fun v => v.category).sum ≤ 8) (hcs : cells ≤ R.cells ∧ slots ≤ R.slots) (hdg : decode cc pc = .ok (.invokevirtual index, 3)) (kk : ∀ (H1 : Heap) (locs1 : List Loc), MemP G nw mo x' H1 → va_S (gA G) s.heap H1 locs1 → W p l e R s m args below meth c H1 locs1 cells slots Q (F0 m (pc + 3) ls (.int r :: rest))) : W p l e R s m args below meth c H locs cells slots Q (F0 m pc ls (.int a5 :: .int a4 :: .int a3 :: .int a2 :: .int a1 :: .ref (ga G 41) :: rest)) := mm_ki hS (mm_runV (n := 5) (o := 41) (C := RX11) (T := TX11) (N := 54) (ci := 11) (As := [.int a1, .int a2, .int a3, .int a4, .int a5]) hx hb hml hown hE hM hS (c_X11_feed l fu nw G x x' mo a1 a2 a3 a4 a5 _ hf) (List.forall_mem_cons.mpr ⟨⟨hw, rfl⟩, List.forall_mem_cons.mpr ⟨⟨w_5_24, rfl⟩, List.forall_mem_cons.mpr ⟨⟨w_5_25, rfl⟩, List.forall_mem_cons.mpr ⟨⟨w_1_11, rfl⟩, List.forall_mem_cons.mpr ⟨⟨w_5_26, rfl⟩, fun _ h => absurd h List.not_mem_nil⟩⟩⟩⟩⟩) rfl rfl ⟨rfl, by decide, by decide, by decide +kernel⟩ ⟨h1, h2⟩ rfl rfl rfl hsz rfl hW hdg hcs) kk
def f_X11_here (fu : Nat) (x : Me) : Option (Me × Int32) := if (x 8 0) ≤ (x 9 0) then some (x, (-1)) else if inb (x 9 0) 600 = true then some (x, x 1 ((x 9 0).toNatClampNeg)) else none
def rm_X11_here : Room := { frames := 0, cells := 0, slots := 0, locals := 0 }
set_option maxHeartbeats 4000000 in
set_option maxRecDepth 100000 in
theorem c_X11_here (l : Launch) (fu nw : Nat) (G : GG) (x x' mo : Me) (r : Int32) (hf : f_X11_here fu x = some (x', r)) : Met l yX11_here [.code yX11_here cX11_here 1 (some .int)] rm_X11_here (va_Pc [.ref (ga G 41)] (Pre G nw mo x)) (PI G nw mo x' r) 0 0 (gA G) := by
  refine mt_ofW (cc := cX11_here) (maxL := 1) (ret := (some .int)) (by decide +kernel) rfl ?_
  intro p e s m args below meth c s₁ B hml hv
  obtain ⟨rfl, hE, hM⟩ := hv
  have hx := B.exec
  have hb := B.bytes
  have hr := B.returns
  have hown : s.vm.findClass RX11 = some m.cls := findClass_of_methodNamed B.named
  have hlocks := B.notSynchronized
  have hS : va_S (gA G) s.heap s.heap [] := va_S.rf
  have hl := lv_entry ([.ref (ga G 41)]) (n := 1) (Nat.le_of_ble_eq_true rfl)
  rw [lg_entry_eq]
  generalize (lg_sl ([.ref (ga G 41)]) ++ List.replicate (1 - (lg_sl ([.ref (ga G 41)])).length) Slot.unset).toArray = ls at hl ⊢
  have hl : lv_has ls 1 [(0, .ref (ga G 41))] := hl
  generalize ([.ref (ga G 41)] : List Value).toArray = args
  unfold f_X11_here at hf
  refine lv_aload_n hx hb dX11_here_0 rfl (lv_at hl 0 rfl) ?_
  refine gm_9 hx hb hE hM hown w_4_109 dX11_here_1 ?_
  refine lv_aload_n hx hb dX11_here_4 rfl (lv_at hl 0 rfl) ?_
  refine gm_8 hx hb hE hM hown w_4_108 dX11_here_5 ?_
  refine lv_icmp_ge (tgt := 23) hx hb dX11_here_8 (by decide) (fun hc_2 => ?_) (fun hc_2 => ?_)
  · replace hf := i_t hf hc_2
    refine lv_iconst (v := (-1)) hx hb dX11_here_23 (by decide) ?_
    exact rt_iM hx hb hr hf hM hS dX11_here_24 hlocks
  · replace hf := i_f hf hc_2
    refine lv_aload_n hx hb dX11_here_11 rfl (lv_at hl 0 rfl) ?_
    refine gr_42 hx hb hE hM hown w_4_101 dX11_here_12 ?_
    refine lv_aload_n hx hb dX11_here_15 rfl (lv_at hl 0 rfl) ?_
    refine gm_9 hx hb hE hM hown w_4_109 dX11_here_16 ?_
    obtain ⟨hi_1, hf⟩ := i_n hf
    refine la_42 hx hb hE hM hi_1 dX11_here_19 ?_
    refine lv_goto (tgt := 24) hx hb dX11_here_20 (by decide) ?_
    exact rt_iM hx hb hr hf hM hS dX11_here_24 hlocks
theorem k_X11_here {p : Program} {l : Launch} {e : Env} {R : Room} {s : State} {m : MethodId} {args : Array Value} {below : List Frame} {meth : Method} {c : Code} {H : Heap} {locs : List Loc} {cells slots : Nat} {Q : State → Prop} {cc : ByteArray} {pc nL : Nat} {ls : Array Slot} {rest : List Value} {G : GG} {fu nw : Nat} {x x' mo : Me} {own : String} {index : Nat} {r : Int32} (hx : p.tables.exec = Jvm.exec) (hb : c.code = cc) (hml : c.maxLocals = nL) (hown : s.vm.findClass own = some m.cls) (hE : EnvP G s) (hM : MemP G nw mo x H) (hS : va_S (gA G) s.heap H locs) (hw : Cond.methodLink own index yX11_here ∈ lw_tbl) (hf : f_X11_here fu x = some (x', r)) (h1 : 0 + 1 ≤ R.frames) (h2 : 8 + (1 + 11) + 0 ≤ R.locals) (hsz : ls.size = nL) (hW : (rest.map fun v => v.category).sum ≤ 8) (hcs : cells ≤ R.cells ∧ slots ≤ R.slots) (hdg : decode cc pc = .ok (.invokevirtual index, 3)) (kk : ∀ (H1 : Heap) (locs1 : List Loc), MemP G nw mo x' H1 → va_S (gA G) s.heap H1 locs1 → W p l e R s m args below meth c H1 locs1 cells slots Q (F0 m (pc + 3) ls (.int r :: rest))) : W p l e R s m args below meth c H locs cells slots Q (F0 m pc ls (.ref (ga G 41) :: rest)) := mm_ki hS (mm_runV (n := 0) (o := 41) (C := RX11) (T := TX11) (N := 54) (ci := 11) (As := []) hx hb hml hown hE hM hS (c_X11_here l fu nw G x x' mo _ hf) (List.forall_mem_cons.mpr ⟨⟨hw, rfl⟩, List.forall_mem_cons.mpr ⟨⟨w_5_37, rfl⟩, List.forall_mem_cons.mpr ⟨⟨w_0_30, rfl⟩, List.forall_mem_cons.mpr ⟨⟨w_1_11, rfl⟩, List.forall_mem_cons.mpr ⟨⟨w_5_38, rfl⟩, fun _ h => absurd h List.not_mem_nil⟩⟩⟩⟩⟩) rfl rfl ⟨rfl, by decide, by decide, by decide +kernel⟩ ⟨h1, h2⟩ rfl rfl rfl hsz rfl hW hdg hcs) kk
def f_X11_isSmall (fu : Nat) (x : Me) (a0 : Int32) : Option (Me × Int32) := if a0 < 97 then some (x, 0) else if 122 < a0 then some (x, 0) else some (x, 1)
def rm_X11_isSmall : Room := { frames := 0, cells := 0, slots := 0, locals := 0 }
set_option maxHeartbeats 4000000 in
set_option maxRecDepth 100000 in
theorem c_X11_isSmall (l : Launch) (fu nw : Nat) (G : GG) (x x' mo : Me) (a0 : Int32) (r : Int32) (hf : f_X11_isSmall fu x a0 = some (x', r)) : Met l yX11_isSmall [.code yX11_isSmall cX11_isSmall 1 (some .boolean)] rm_X11_isSmall (va_Pc [.int a0] (Pre G nw mo x)) (PI G nw mo x' r) 0 0 (gA G) := by
  refine mt_ofW (cc := cX11_isSmall) (maxL := 1) (ret := (some .boolean)) (by decide +kernel) rfl ?_
  intro p e s m args below meth c s₁ B hml hv
  obtain ⟨rfl, hE, hM⟩ := hv
  have hx := B.exec
  have hb := B.bytes
  have hr := B.returns
  have hown : s.vm.findClass RX11 = some m.cls := findClass_of_methodNamed B.named
  have hlocks := B.notSynchronized
  have hS : va_S (gA G) s.heap s.heap [] := va_S.rf
  have hl := lv_entry ([.int a0]) (n := 1) (Nat.le_of_ble_eq_true rfl)
  rw [lg_entry_eq]
  generalize (lg_sl ([.int a0]) ++ List.replicate (1 - (lg_sl ([.int a0])).length) Slot.unset).toArray = ls at hl ⊢
  have hl : lv_has ls 1 [(0, .int a0)] := hl
  generalize ([.int a0] : List Value).toArray = args
  unfold f_X11_isSmall at hf
  refine lv_iload_n hx hb dX11_isSmall_0 rfl (lv_at hl 0 rfl) ?_
  refine lv_bipush (v := 97) hx hb dX11_isSmall_1 (by decide) ?_
  refine lv_icmp_lt (tgt := 16) hx hb dX11_isSmall_3 (by decide) (fun hc_2 => ?_) (fun hc_2 => ?_)
  · replace hf := i_t hf hc_2
    refine lv_iconst (v := 0) hx hb dX11_isSmall_16 (by decide) ?_
    exact rt_zM hx hb hr rfl hf hM hS dX11_isSmall_17 hlocks
  · replace hf := i_f hf hc_2
    refine lv_iload_n hx hb dX11_isSmall_6 rfl (lv_at hl 0 rfl) ?_
    refine lv_bipush (v := 122) hx hb dX11_isSmall_7 (by decide) ?_
    refine lv_icmp_gt (tgt := 16) hx hb dX11_isSmall_9 (by decide) (fun hc_1 => ?_) (fun hc_1 => ?_)
    · replace hf := i_t hf hc_1
      refine lv_iconst (v := 0) hx hb dX11_isSmall_16 (by decide) ?_
      exact rt_zM hx hb hr rfl hf hM hS dX11_isSmall_17 hlocks
    · replace hf := i_f hf hc_1
      refine lv_iconst (v := 1) hx hb dX11_isSmall_12 (by decide) ?_
      refine lv_goto (tgt := 17) hx hb dX11_isSmall_13 (by decide) ?_
      exact rt_zM hx hb hr rfl hf hM hS dX11_isSmall_17 hlocks
theorem k_X11_isSmall {p : Program} {l : Launch} {e : Env} {R : Room} {s : State} {m : MethodId} {args : Array Value} {below : List Frame} {meth : Method} {c : Code} {H : Heap} {locs : List Loc} {cells slots : Nat} {Q : State → Prop} {cc : ByteArray} {pc nL : Nat} {ls : Array Slot} {rest : List Value} {G : GG} {fu nw : Nat} {x x' mo : Me} {own : String} {index : Nat} {a0 : Int32} {r : Int32} (hx : p.tables.exec = Jvm.exec) (hb : c.code = cc) (hml : c.maxLocals = nL) (hown : s.vm.findClass own = some m.cls) (hE : EnvP G s) (hM : MemP G nw mo x H) (hS : va_S (gA G) s.heap H locs) (hw : Cond.methodLink own index yX11_isSmall ∈ lw_tbl) (hf : f_X11_isSmall fu x a0 = some (x', r)) (h1 : 0 + 1 ≤ R.frames) (h2 : 8 + (1 + 11) + 0 ≤ R.locals) (hsz : ls.size = nL) (hW : (rest.map fun v => v.category).sum ≤ 8) (hcs : cells ≤ R.cells ∧ slots ≤ R.slots) (hdg : decode cc pc = .ok (.invokestatic index, 3)) (kk : ∀ (H1 : Heap) (locs1 : List Loc), MemP G nw mo x' H1 → va_S (gA G) s.heap H1 locs1 → W p l e R s m args below meth c H1 locs1 cells slots Q (F0 m (pc + 3) ls (.int r :: rest))) : W p l e R s m args below meth c H locs cells slots Q (F0 m pc ls (.int a0 :: rest)) := mm_ki hS (mm_runS (n := 1) (As := [.int a0]) hx hb hml hown hE hM hS (c_X11_isSmall l fu nw G x x' mo a0 _ hf) (List.forall_mem_cons.mpr ⟨⟨hw, rfl⟩, List.forall_mem_cons.mpr ⟨⟨w_5_40, rfl⟩, List.forall_mem_cons.mpr ⟨⟨w_1_11, rfl⟩, List.forall_mem_cons.mpr ⟨⟨w_5_41, rfl⟩, fun _ h => absurd h List.not_mem_nil⟩⟩⟩⟩) rfl rfl ⟨by decide, by decide, by decide +kernel⟩ ⟨h1, h2⟩ rfl hsz rfl hW hdg hcs) kk
def f_X11_isDigit (fu : Nat) (x : Me) (a0 : Int32) : Option (Me × Int32) := if a0 < 48 then some (x, 0) else if 57 < a0 then some (x, 0) else some (x, 1)
def rm_X11_isDigit : Room := { frames := 0, cells := 0, slots := 0, locals := 0 }
set_option maxHeartbeats 4000000 in
set_option maxRecDepth 100000 in
theorem c_X11_isDigit (l : Launch) (fu nw : Nat) (G : GG) (x x' mo : Me) (a0 : Int32) (r : Int32) (hf : f_X11_isDigit fu x a0 = some (x', r)) : Met l yX11_isDigit [.code yX11_isDigit cX11_isDigit 1 (some .boolean)] rm_X11_isDigit (va_Pc [.int a0] (Pre G nw mo x)) (PI G nw mo x' r) 0 0 (gA G) := by
  refine mt_ofW (cc := cX11_isDigit) (maxL := 1) (ret := (some .boolean)) (by decide +kernel) rfl ?_
  intro p e s m args below meth c s₁ B hml hv
  obtain ⟨rfl, hE, hM⟩ := hv
  have hx := B.exec
  have hb := B.bytes
  have hr := B.returns
  have hown : s.vm.findClass RX11 = some m.cls := findClass_of_methodNamed B.named
  have hlocks := B.notSynchronized
  have hS : va_S (gA G) s.heap s.heap [] := va_S.rf
  have hl := lv_entry ([.int a0]) (n := 1) (Nat.le_of_ble_eq_true rfl)
  rw [lg_entry_eq]
  generalize (lg_sl ([.int a0]) ++ List.replicate (1 - (lg_sl ([.int a0])).length) Slot.unset).toArray = ls at hl ⊢
  have hl : lv_has ls 1 [(0, .int a0)] := hl
  generalize ([.int a0] : List Value).toArray = args
  unfold f_X11_isDigit at hf
  refine lv_iload_n hx hb dX11_isDigit_0 rfl (lv_at hl 0 rfl) ?_
  refine lv_bipush (v := 48) hx hb dX11_isDigit_1 (by decide) ?_
  refine lv_icmp_lt (tgt := 16) hx hb dX11_isDigit_3 (by decide) (fun hc_2 => ?_) (fun hc_2 => ?_)
  · replace hf := i_t hf hc_2
    refine lv_iconst (v := 0) hx hb dX11_isDigit_16 (by decide) ?_
    exact rt_zM hx hb hr rfl hf hM hS dX11_isDigit_17 hlocks
  · replace hf := i_f hf hc_2
    refine lv_iload_n hx hb dX11_isDigit_6 rfl (lv_at hl 0 rfl) ?_
    refine lv_bipush (v := 57) hx hb dX11_isDigit_7 (by decide) ?_
    refine lv_icmp_gt (tgt := 16) hx hb dX11_isDigit_9 (by decide) (fun hc_1 => ?_) (fun hc_1 => ?_)
    · replace hf := i_t hf hc_1
      refine lv_iconst (v := 0) hx hb dX11_isDigit_16 (by decide) ?_
      exact rt_zM hx hb hr rfl hf hM hS dX11_isDigit_17 hlocks
    · replace hf := i_f hf hc_1
      refine lv_iconst (v := 1) hx hb dX11_isDigit_12 (by decide) ?_
      refine lv_goto (tgt := 17) hx hb dX11_isDigit_13 (by decide) ?_
      exact rt_zM hx hb hr rfl hf hM hS dX11_isDigit_17 hlocks
theorem k_X11_isDigit {p : Program} {l : Launch} {e : Env} {R : Room} {s : State} {m : MethodId} {args : Array Value} {below : List Frame} {meth : Method} {c : Code} {H : Heap} {locs : List Loc} {cells slots : Nat} {Q : State → Prop} {cc : ByteArray} {pc nL : Nat} {ls : Array Slot} {rest : List Value} {G : GG} {fu nw : Nat} {x x' mo : Me} {own : String} {index : Nat} {a0 : Int32} {r : Int32} (hx : p.tables.exec = Jvm.exec) (hb : c.code = cc) (hml : c.maxLocals = nL) (hown : s.vm.findClass own = some m.cls) (hE : EnvP G s) (hM : MemP G nw mo x H) (hS : va_S (gA G) s.heap H locs) (hw : Cond.methodLink own index yX11_isDigit ∈ lw_tbl) (hf : f_X11_isDigit fu x a0 = some (x', r)) (h1 : 0 + 1 ≤ R.frames) (h2 : 8 + (1 + 11) + 0 ≤ R.locals) (hsz : ls.size = nL) (hW : (rest.map fun v => v.category).sum ≤ 8) (hcs : cells ≤ R.cells ∧ slots ≤ R.slots) (hdg : decode cc pc = .ok (.invokestatic index, 3)) (kk : ∀ (H1 : Heap) (locs1 : List Loc), MemP G nw mo x' H1 → va_S (gA G) s.heap H1 locs1 → W p l e R s m args below meth c H1 locs1 cells slots Q (F0 m (pc + 3) ls (.int r :: rest))) : W p l e R s m args below meth c H locs cells slots Q (F0 m pc ls (.int a0 :: rest)) := mm_ki hS (mm_runS (n := 1) (As := [.int a0]) hx hb hml hown hE hM hS (c_X11_isDigit l fu nw G x x' mo a0 _ hf) (List.forall_mem_cons.mpr ⟨⟨hw, rfl⟩, List.forall_mem_cons.mpr ⟨⟨w_5_50, rfl⟩, List.forall_mem_cons.mpr ⟨⟨w_1_11, rfl⟩, List.forall_mem_cons.mpr ⟨⟨w_5_51, rfl⟩, fun _ h => absurd h List.not_mem_nil⟩⟩⟩⟩) rfl rfl ⟨by decide, by decide, by decide +kernel⟩ ⟨h1, h2⟩ rfl hsz rfl hW hdg hcs) kk
def f_X11_wordOf_15 (fu : Nat) (b1 : Int32) (b2 : Int32) (k : Me → Int32 → Option (Me × Int32)) : Nat → Me → Int32 → Option (Me × Int32)
  | 0 => fun _ _ => none
  | n + 1 => fun x a3 => if inb (b2 + a3) (lenS.getD 7 0) = true then if (sCh 7 (b2 + a3)) = 32 then k x a3 else if (x 9 0) ≤ ((x 10 0) + a3) then k x a3 else if inb ((x 10 0) + a3) 600 = true then if inb (b2 + a3) (lenS.getD 7 0) = true then if (x 1 (((x 10 0) + a3).toNatClampNeg)) = (sCh 7 (b2 + a3)) then f_X11_wordOf_15 fu b1 b2 k n x (a3 + 1) else k x a3 else none else none else none
def f_X11_wordOf_97 (fu : Nat) (b1 : Int32) (k : Me → Int32 → Option (Me × Int32)) : Nat → Me → Int32 → Option (Me × Int32)
  | 0 => fun _ _ => none
  | n + 1 => fun x a2 => if inb a2 (lenS.getD 7 0) = true then if (sCh 7 a2) = 32 then k x a2 else f_X11_wordOf_97 fu b1 k n x (a2 + 1) else none
def f_X11_wordOf_4 (fu : Nat) (k : Me → Option (Me × Int32)) : Nat → Me → Int32 → Int32 → Option (Me × Int32)
  | 0 => fun _ _ _ => none
  | n + 1 => fun x a1 a2 => if (sLen 7) ≤ a2 then k x else f_X11_wordOf_15 fu a1 a2 (fun (x_7 : Me) (a3_7 : Int32) => if inb (a2 + a3_7) (lenS.getD 7 0) = true then jn (fun (x_9 : Me) => if inb a2 (lenS.getD 7 0) = true then if (sCh 7 a2) = 32 then f_X11_wordOf_4 fu k n x_9 (a1 + 1) (a2 + 1) else f_X11_wordOf_97 fu a1 (fun (x_13 : Me) (a2_13 : Int32) => f_X11_wordOf_4 fu k n x_13 (a1 + 1) (a2_13 + 1)) fu x_9 (a2 + 1) else none) (fun j_9 => if (sCh 7 (a2 + a3_7)) = 32 then if ((x_7 10 0) + a3_7) = (x_7 9 0) then some (x_7, a1) else j_9 x_7 else j_9 x_7) else none) fu x 0
def f_X11_wordOf (fu : Nat) (x : Me) : Option (Me × Int32) := f_X11_wordOf_4 fu (fun (x_18 : Me) => some (x_18, (-1))) fu x 0 0
def rm_X11_wordOf : Room := { frames := 4, cells := 0, slots := 0, locals := 85 }
set_option maxHeartbeats 4000000 in
set_option maxRecDepth 100000 in
theorem wk_X11_wordOf_15 {p : Program} {l : Launch} {e : Env} {s : State} {m : MethodId} {args : Array Value} {below : List Frame} {meth : Method} {c : Code} {fu nw : Nat} {G : GG} {mo : Me} {b1 : Int32} {b2 : Int32} (hx : p.tables.exec = Jvm.exec) (hb : c.code = cX11_wordOf) (hml : c.maxLocals = 4) (hown : s.vm.findClass RX11 = some m.cls) (hE : EnvP G s) (hr : meth.sig.returnType = (some .int)) (hlocks : meth.locks = false) {x' : Me} {r : Int32} {k : Me → Int32 → Option (Me × Int32)} (hk : ∀ (x : Me) (a3 : Int32) (H : Heap) (locs : List Loc) (ls : Array Slot), k x a3 = some (x', r) → MemP G nw mo x H → va_S (gA G) s.heap H locs → lv_has ls 4 [(0, .ref (ga G 41)), (1, .int b1), (2, .int b2), (3, .int a3)] → W p l e rm_X11_wordOf s m args below meth c H locs 0 0 (MQ below (PI G nw mo x' r) args s 0 0 (gA G)) (F0 m 69 ls [])) : ∀ (n : Nat) (x : Me) (a3 : Int32) (H : Heap) (locs : List Loc) (ls : Array Slot), f_X11_wordOf_15 fu b1 b2 k n x a3 = some (x', r) → MemP G nw mo x H → va_S (gA G) s.heap H locs → lv_has ls 4 [(0, .ref (ga G 41)), (1, .int b1), (2, .int b2), (3, .int a3)] → W p l e rm_X11_wordOf s m args below meth c H locs 0 0 (MQ below (PI G nw mo x' r) args s 0 0 (gA G)) (F0 m 15 ls []) := by
  intro n
  induction n with
  | zero =>
    intro x a3 H locs ls hf hM hS hl
    exact nn hf
  | succ n ih =>
    intro x a3 H locs ls hf hM hS hl
    rw [f_X11_wordOf_15] at hf
    refine va_ldcS hx hb hown hE.2.2.2.2.2.2.2.2 dX11_wordOf_15 ?_
    refine lv_iload_n hx hb dX11_wordOf_17 rfl (lv_at hl 2 rfl) ?_
    refine lv_iload_n hx hb dX11_wordOf_18 rfl (lv_at hl 3 rfl) ?_
    refine lv_iadd hx hb dX11_wordOf_19 ?_
    obtain ⟨hi_1, hf⟩ := i_n hf
    refine k_chr hx hb hml hown hE hM hS w_5_48 (by decide) hi_1 (Nat.le_of_ble_eq_true rfl) (Nat.le_of_ble_eq_true rfl) hl.1 (Nat.le_of_ble_eq_true rfl) ⟨Nat.zero_le _, Nat.zero_le _⟩ dX11_wordOf_20 (fun H locs hM hS => ?_)
    refine lv_bipush (v := 32) hx hb dX11_wordOf_23 (by decide) ?_
    refine lv_icmp_eq (tgt := 69) hx hb dX11_wordOf_25 (by decide) (fun hc_6 => ?_) (fun hc_6 => ?_)
    · replace hf := i_t hf hc_6
      exact hk x a3 _ _ _ hf hM hS (lv_sub hl [0, 1, 2, 3] rfl)
    · replace hf := i_f hf hc_6
      refine lv_aload_n hx hb dX11_wordOf_28 rfl (lv_at hl 0 rfl) ?_
      refine gm_10 hx hb hE hM hown w_4_110 dX11_wordOf_29 ?_
      refine lv_iload_n hx hb dX11_wordOf_32 rfl (lv_at hl 3 rfl) ?_
      refine lv_iadd hx hb dX11_wordOf_33 ?_
      refine lv_aload_n hx hb dX11_wordOf_34 rfl (lv_at hl 0 rfl) ?_
      refine gm_9 hx hb hE hM hown w_4_109 dX11_wordOf_35 ?_
      refine lv_icmp_ge (tgt := 69) hx hb dX11_wordOf_38 (by decide) (fun hc_5 => ?_) (fun hc_5 => ?_)
      · replace hf := i_t hf hc_5
        exact hk x a3 _ _ _ hf hM hS (lv_sub hl [0, 1, 2, 3] rfl)
      · replace hf := i_f hf hc_5
        refine lv_aload_n hx hb dX11_wordOf_41 rfl (lv_at hl 0 rfl) ?_
        refine gr_42 hx hb hE hM hown w_4_101 dX11_wordOf_42 ?_
        refine lv_aload_n hx hb dX11_wordOf_45 rfl (lv_at hl 0 rfl) ?_
        refine gm_10 hx hb hE hM hown w_4_110 dX11_wordOf_46 ?_
        refine lv_iload_n hx hb dX11_wordOf_49 rfl (lv_at hl 3 rfl) ?_
        refine lv_iadd hx hb dX11_wordOf_50 ?_
        obtain ⟨hi_2, hf⟩ := i_n hf
        refine la_42 hx hb hE hM hi_2 dX11_wordOf_51 ?_
        refine va_ldcS hx hb hown hE.2.2.2.2.2.2.2.2 dX11_wordOf_52 ?_
        refine lv_iload_n hx hb dX11_wordOf_54 rfl (lv_at hl 2 rfl) ?_
        refine lv_iload_n hx hb dX11_wordOf_55 rfl (lv_at hl 3 rfl) ?_
        refine lv_iadd hx hb dX11_wordOf_56 ?_
        obtain ⟨hi_3, hf⟩ := i_n hf
        refine k_chr hx hb hml hown hE hM hS w_5_48 (by decide) hi_3 (Nat.le_of_ble_eq_true rfl) (Nat.le_of_ble_eq_true rfl) hl.1 (Nat.le_of_ble_eq_true rfl) ⟨Nat.zero_le _, Nat.zero_le _⟩ dX11_wordOf_57 (fun H locs hM hS => ?_)
        refine lv_icmp_ne (tgt := 69) hx hb dX11_wordOf_60 (by decide) (fun hc_4 => ?_) (fun hc_4 => ?_)
        · replace hf := i_f hf hc_4
          exact hk x a3 _ _ _ hf hM hS (lv_sub hl [0, 1, 2, 3] rfl)
        · replace hf := i_t hf hc_4
          refine lv_iinc (v := a3 + 1) (lv' := [(3, .int (a3 + 1)), (0, .ref (ga G 41)), (1, .int b1), (2, .int b2)]) hx hb dX11_wordOf_63 hl (k := 3) rfl rfl (by decide) rfl (fun ls hl => ?_)
          refine lv_goto (tgt := 15) hx hb dX11_wordOf_66 (by decide) ?_
          exact ih x (a3 + 1) _ _ _ hf hM hS (lv_sub hl [1, 2, 3, 0] rfl)
set_option maxHeartbeats 4000000 in
set_option maxRecDepth 100000 in
theorem wk_X11_wordOf_97 {p : Program} {l : Launch} {e : Env} {s : State} {m : MethodId} {args : Array Value} {below : List Frame} {meth : Method} {c : Code} {fu nw : Nat} {G : GG} {mo : Me} {b1 : Int32} (hx : p.tables.exec = Jvm.exec) (hb : c.code = cX11_wordOf) (hml : c.maxLocals = 4) (hown : s.vm.findClass RX11 = some m.cls) (hE : EnvP G s) (hr : meth.sig.returnType = (some .int)) (hlocks : meth.locks = false) {x' : Me} {r : Int32} {k : Me → Int32 → Option (Me × Int32)} (hk : ∀ (x : Me) (a2 : Int32) (H : Heap) (locs : List Loc) (ls : Array Slot), k x a2 = some (x', r) → MemP G nw mo x H → va_S (gA G) s.heap H locs → lv_has ls 4 [(0, .ref (ga G 41)), (1, .int b1), (2, .int a2)] → W p l e rm_X11_wordOf s m args below meth c H locs 0 0 (MQ below (PI G nw mo x' r) args s 0 0 (gA G)) (F0 m 114 ls [])) : ∀ (n : Nat) (x : Me) (a2 : Int32) (H : Heap) (locs : List Loc) (ls : Array Slot), f_X11_wordOf_97 fu b1 k n x a2 = some (x', r) → MemP G nw mo x H → va_S (gA G) s.heap H locs → lv_has ls 4 [(0, .ref (ga G 41)), (1, .int b1), (2, .int a2)] → W p l e rm_X11_wordOf s m args below meth c H locs 0 0 (MQ below (PI G nw mo x' r) args s 0 0 (gA G)) (F0 m 97 ls []) := by
  intro n
  induction n with
  | zero =>
    intro x a2 H locs ls hf hM hS hl
    exact nn hf
  | succ n ih =>
    intro x a2 H locs ls hf hM hS hl
    rw [f_X11_wordOf_97] at hf
    refine va_ldcS hx hb hown hE.2.2.2.2.2.2.2.2 dX11_wordOf_97 ?_
    refine lv_iload_n hx hb dX11_wordOf_99 rfl (lv_at hl 2 rfl) ?_
    obtain ⟨hi_11, hf⟩ := i_n hf
    refine k_chr hx hb hml hown hE hM hS w_5_48 (by decide) hi_11 (Nat.le_of_ble_eq_true rfl) (Nat.le_of_ble_eq_true rfl) hl.1 (Nat.le_of_ble_eq_true rfl) ⟨Nat.zero_le _, Nat.zero_le _⟩ dX11_wordOf_100 (fun H locs hM hS => ?_)
    refine lv_bipush (v := 32) hx hb dX11_wordOf_103 (by decide) ?_
    refine lv_icmp_eq (tgt := 114) hx hb dX11_wordOf_105 (by decide) (fun hc_12 => ?_) (fun hc_12 => ?_)
    · replace hf := i_t hf hc_12
      exact hk x a2 _ _ _ hf hM hS (lv_sub hl [0, 1, 2] rfl)
    · replace hf := i_f hf hc_12
      refine lv_iinc (v := a2 + 1) (lv' := [(2, .int (a2 + 1)), (0, .ref (ga G 41)), (1, .int b1)]) hx hb dX11_wordOf_108 hl (k := 2) rfl rfl (by decide) rfl (fun ls hl => ?_)
      refine lv_goto (tgt := 97) hx hb dX11_wordOf_111 (by decide) ?_
      exact ih x (a2 + 1) _ _ _ hf hM hS (lv_sub hl [1, 2, 0] rfl)
set_option maxHeartbeats 4000000 in
set_option maxRecDepth 100000 in
theorem wk_X11_wordOf_4 {p : Program} {l : Launch} {e : Env} {s : State} {m : MethodId} {args : Array Value} {below : List Frame} {meth : Method} {c : Code} {fu nw : Nat} {G : GG} {mo : Me} (hx : p.tables.exec = Jvm.exec) (hb : c.code = cX11_wordOf) (hml : c.maxLocals = 4) (hown : s.vm.findClass RX11 = some m.cls) (hE : EnvP G s) (hr : meth.sig.returnType = (some .int)) (hlocks : meth.locks = false) {x' : Me} {r : Int32} {k : Me → Option (Me × Int32)} (hk : ∀ (x : Me) (H : Heap) (locs : List Loc) (ls : Array Slot), k x = some (x', r) → MemP G nw mo x H → va_S (gA G) s.heap H locs → lv_has ls 4 [] → W p l e rm_X11_wordOf s m args below meth c H locs 0 0 (MQ below (PI G nw mo x' r) args s 0 0 (gA G)) (F0 m 123 ls [])) : ∀ (n : Nat) (x : Me) (a1 : Int32) (a2 : Int32) (H : Heap) (locs : List Loc) (ls : Array Slot), f_X11_wordOf_4 fu k n x a1 a2 = some (x', r) → MemP G nw mo x H → va_S (gA G) s.heap H locs → lv_has ls 4 [(0, .ref (ga G 41)), (1, .int a1), (2, .int a2)] → W p l e rm_X11_wordOf s m args below meth c H locs 0 0 (MQ below (PI G nw mo x' r) args s 0 0 (gA G)) (F0 m 4 ls []) := by
  intro n
  induction n with
  | zero =>
    intro x a1 a2 H locs ls hf hM hS hl
    exact nn hf
  | succ n ih =>
    intro x a1 a2 H locs ls hf hM hS hl
    rw [f_X11_wordOf_4] at hf
    refine lv_iload_n hx hb dX11_wordOf_4 rfl (lv_at hl 2 rfl) ?_
    refine va_ldcS hx hb hown hE.2.2.2.2.2.2.2.2 dX11_wordOf_5 ?_
    refine k_len hx hb hml hown hE hM hS w_5_47 (by decide) (Nat.le_of_ble_eq_true rfl) (Nat.le_of_ble_eq_true rfl) hl.1 (Nat.le_of_ble_eq_true rfl) ⟨Nat.zero_le _, Nat.zero_le _⟩ dX11_wordOf_7 (fun H locs hM hS => ?_)
    refine lv_icmp_ge (tgt := 123) hx hb dX11_wordOf_10 (by decide) (fun hc_17 => ?_) (fun hc_17 => ?_)
    · replace hf := i_t hf hc_17
      exact hk x _ _ _ hf hM hS (lv_sub hl [] rfl)
    · replace hf := i_f hf hc_17
      refine lv_iconst (v := 0) hx hb dX11_wordOf_13 (by decide) ?_
      refine lv_istore_n (lv' := [(3, .int 0), (0, .ref (ga G 41)), (1, .int a1), (2, .int a2)]) hx hb dX11_wordOf_14 rfl hl (by decide) rfl (fun ls hl => ?_)
      refine wk_X11_wordOf_15 hx hb hml hown hE hr hlocks ?_ fu x 0 _ _ _ hf hM hS (lv_sub hl [1, 2, 3, 0] rfl)
      intro x_7 a3_7 H locs ls hf hM hS hl
      refine va_ldcS hx hb hown hE.2.2.2.2.2.2.2.2 dX11_wordOf_69 ?_
      refine lv_iload_n hx hb dX11_wordOf_71 rfl (lv_at hl 2 rfl) ?_
      refine lv_iload_n hx hb dX11_wordOf_72 rfl (lv_at hl 3 rfl) ?_
      refine lv_iadd hx hb dX11_wordOf_73 ?_
      obtain ⟨hi_8, hf⟩ := i_n hf
      refine k_chr hx hb hml hown hE hM hS w_5_48 (by decide) hi_8 (Nat.le_of_ble_eq_true rfl) (Nat.le_of_ble_eq_true rfl) hl.1 (Nat.le_of_ble_eq_true rfl) ⟨Nat.zero_le _, Nat.zero_le _⟩ dX11_wordOf_74 (fun H locs hM hS => ?_)
      refine lv_bipush (v := 32) hx hb dX11_wordOf_77 (by decide) ?_
      have hj_9 : ∀ (x_9 : Me) (H : Heap) (locs : List Loc) (ls : Array Slot), jnA hf x_9 = some (x', r) → MemP G nw mo x_9 H → va_S (gA G) s.heap H locs → lv_has ls 4 [(0, .ref (ga G 41)), (1, .int a1), (2, .int a2)] → W p l e rm_X11_wordOf s m args below meth c H locs 0 0 (MQ below (PI G nw mo x' r) args s 0 0 (gA G)) (F0 m 97 ls []) := by
        intro x_9 H locs ls hf hM hS hl
        refine va_ldcS hx hb hown hE.2.2.2.2.2.2.2.2 dX11_wordOf_97 ?_
        refine lv_iload_n hx hb dX11_wordOf_99 rfl (lv_at hl 2 rfl) ?_
        obtain ⟨hi_10, hf⟩ := i_n hf
        refine k_chr hx hb hml hown hE hM hS w_5_48 (by decide) hi_10 (Nat.le_of_ble_eq_true rfl) (Nat.le_of_ble_eq_true rfl) hl.1 (Nat.le_of_ble_eq_true rfl) ⟨Nat.zero_le _, Nat.zero_le _⟩ dX11_wordOf_100 (fun H locs hM hS => ?_)
        refine lv_bipush (v := 32) hx hb dX11_wordOf_103 (by decide) ?_
        refine lv_icmp_eq (tgt := 114) hx hb dX11_wordOf_105 (by decide) (fun hc_14 => ?_) (fun hc_14 => ?_)
        · replace hf := i_t hf hc_14
          refine lv_iinc (v := a2 + 1) (lv' := [(2, .int (a2 + 1)), (0, .ref (ga G 41)), (1, .int a1)]) hx hb dX11_wordOf_114 hl (k := 2) rfl rfl (by decide) rfl (fun ls hl => ?_)
          refine lv_iinc (v := a1 + 1) (lv' := [(1, .int (a1 + 1)), (2, .int (a2 + 1)), (0, .ref (ga G 41))]) hx hb dX11_wordOf_117 hl (k := 2) rfl rfl (by decide) rfl (fun ls hl => ?_)
          refine lv_goto (tgt := 4) hx hb dX11_wordOf_120 (by decide) ?_
          exact ih x_9 (a1 + 1) (a2 + 1) _ _ _ hf hM hS (lv_sub hl [2, 0, 1] rfl)
        · replace hf := i_f hf hc_14
          refine lv_iinc (v := a2 + 1) (lv' := [(2, .int (a2 + 1)), (0, .ref (ga G 41)), (1, .int a1)]) hx hb dX11_wordOf_108 hl (k := 2) rfl rfl (by decide) rfl (fun ls hl => ?_)
          refine lv_goto (tgt := 97) hx hb dX11_wordOf_111 (by decide) ?_
          refine wk_X11_wordOf_97 hx hb hml hown hE hr hlocks ?_ fu x_9 (a2 + 1) _ _ _ hf hM hS (lv_sub hl [1, 2, 0] rfl)
          intro x_13 a2_13 H locs ls hf hM hS hl
          refine lv_iinc (v := a2_13 + 1) (lv' := [(2, .int (a2_13 + 1)), (0, .ref (ga G 41)), (1, .int a1)]) hx hb dX11_wordOf_114 hl (k := 2) rfl rfl (by decide) rfl (fun ls hl => ?_)
          refine lv_iinc (v := a1 + 1) (lv' := [(1, .int (a1 + 1)), (2, .int (a2_13 + 1)), (0, .ref (ga G 41))]) hx hb dX11_wordOf_117 hl (k := 2) rfl rfl (by decide) rfl (fun ls hl => ?_)
          refine lv_goto (tgt := 4) hx hb dX11_wordOf_120 (by decide) ?_
          exact ih x_13 (a1 + 1) (a2_13 + 1) _ _ _ hf hM hS (lv_sub hl [2, 0, 1] rfl)
      replace hf := jn_use hf
      refine lv_icmp_ne (tgt := 97) hx hb dX11_wordOf_79 (by decide) (fun hc_16 => ?_) (fun hc_16 => ?_)
      · replace hf := i_f hf hc_16
        exact hj_9 x_7 _ _ _ hf hM hS (lv_sub hl [0, 1, 2] rfl)
      · replace hf := i_t hf hc_16
        refine lv_aload_n hx hb dX11_wordOf_82 rfl (lv_at hl 0 rfl) ?_
        refine gm_10 hx hb hE hM hown w_4_110 dX11_wordOf_83 ?_
        refine lv_iload_n hx hb dX11_wordOf_86 rfl (lv_at hl 3 rfl) ?_
        refine lv_iadd hx hb dX11_wordOf_87 ?_
        refine lv_aload_n hx hb dX11_wordOf_88 rfl (lv_at hl 0 rfl) ?_
        refine gm_9 hx hb hE hM hown w_4_109 dX11_wordOf_89 ?_
        refine lv_icmp_ne (tgt := 97) hx hb dX11_wordOf_92 (by decide) (fun hc_15 => ?_) (fun hc_15 => ?_)
        · replace hf := i_f hf hc_15
          exact hj_9 x_7 _ _ _ hf hM hS (lv_sub hl [0, 1, 2] rfl)
        · replace hf := i_t hf hc_15
          refine lv_iload_n hx hb dX11_wordOf_95 rfl (lv_at hl 1 rfl) ?_
          exact rt_iM hx hb hr hf hM hS dX11_wordOf_96 hlocks
set_option maxHeartbeats 4000000 in
set_option maxRecDepth 100000 in
theorem c_X11_wordOf (l : Launch) (fu nw : Nat) (G : GG) (x x' mo : Me) (r : Int32) (hf : f_X11_wordOf fu x = some (x', r)) : Met l yX11_wordOf [.code yX11_wordOf cX11_wordOf 4 (some .int)] rm_X11_wordOf (va_Pc [.ref (ga G 41)] (Pre G nw mo x)) (PI G nw mo x' r) 0 0 (gA G) := by
  refine mt_ofW (cc := cX11_wordOf) (maxL := 4) (ret := (some .int)) (by decide +kernel) rfl ?_
  intro p e s m args below meth c s₁ B hml hv
  obtain ⟨rfl, hE, hM⟩ := hv
  have hx := B.exec
  have hb := B.bytes
  have hr := B.returns
  have hown : s.vm.findClass RX11 = some m.cls := findClass_of_methodNamed B.named
  have hlocks := B.notSynchronized
  have hS : va_S (gA G) s.heap s.heap [] := va_S.rf
  have hl := lv_entry ([.ref (ga G 41)]) (n := 4) (Nat.le_of_ble_eq_true rfl)
  rw [lg_entry_eq]
  generalize (lg_sl ([.ref (ga G 41)]) ++ List.replicate (4 - (lg_sl ([.ref (ga G 41)])).length) Slot.unset).toArray = ls at hl ⊢
  have hl : lv_has ls 4 [(0, .ref (ga G 41))] := hl
  generalize ([.ref (ga G 41)] : List Value).toArray = args
  unfold f_X11_wordOf at hf
  refine lv_iconst (v := 0) hx hb dX11_wordOf_0 (by decide) ?_
  refine lv_istore_n (lv' := [(1, .int 0), (0, .ref (ga G 41))]) hx hb dX11_wordOf_1 rfl hl (by decide) rfl (fun ls hl => ?_)
  refine lv_iconst (v := 0) hx hb dX11_wordOf_2 (by decide) ?_
  refine lv_istore_n (lv' := [(2, .int 0), (1, .int 0), (0, .ref (ga G 41))]) hx hb dX11_wordOf_3 rfl hl (by decide) rfl (fun ls hl => ?_)
  refine wk_X11_wordOf_4 hx hb hml hown hE hr hlocks ?_ fu x 0 0 _ _ _ hf hM hS (lv_sub hl [2, 1, 0] rfl)
  intro x_18 H locs ls hf hM hS hl
  refine lv_iconst (v := (-1)) hx hb dX11_wordOf_123 (by decide) ?_
  exact rt_iM hx hb hr hf hM hS dX11_wordOf_124 hlocks
theorem k_X11_wordOf {p : Program} {l : Launch} {e : Env} {R : Room} {s : State} {m : MethodId} {args : Array Value} {below : List Frame} {meth : Method} {c : Code} {H : Heap} {locs : List Loc} {cells slots : Nat} {Q : State → Prop} {cc : ByteArray} {pc nL : Nat} {ls : Array Slot} {rest : List Value} {G : GG} {fu nw : Nat} {x x' mo : Me} {own : String} {index : Nat} {r : Int32} (hx : p.tables.exec = Jvm.exec) (hb : c.code = cc) (hml : c.maxLocals = nL) (hown : s.vm.findClass own = some m.cls) (hE : EnvP G s) (hM : MemP G nw mo x H) (hS : va_S (gA G) s.heap H locs) (hw : Cond.methodLink own index yX11_wordOf ∈ lw_tbl) (hf : f_X11_wordOf fu x = some (x', r)) (h1 : 4 + 1 ≤ R.frames) (h2 : 8 + (4 + 11) + 85 ≤ R.locals) (hsz : ls.size = nL) (hW : (rest.map fun v => v.category).sum ≤ 8) (hcs : cells ≤ R.cells ∧ slots ≤ R.slots) (hdg : decode cc pc = .ok (.invokevirtual index, 3)) (kk : ∀ (H1 : Heap) (locs1 : List Loc), MemP G nw mo x' H1 → va_S (gA G) s.heap H1 locs1 → W p l e R s m args below meth c H1 locs1 cells slots Q (F0 m (pc + 3) ls (.int r :: rest))) : W p l e R s m args below meth c H locs cells slots Q (F0 m pc ls (.ref (ga G 41) :: rest)) := mm_ki hS (mm_runV (n := 0) (o := 41) (C := RX11) (T := TX11) (N := 54) (ci := 11) (As := []) hx hb hml hown hE hM hS (c_X11_wordOf l fu nw G x x' mo _ hf) (List.forall_mem_cons.mpr ⟨⟨hw, rfl⟩, List.forall_mem_cons.mpr ⟨⟨w_5_44, rfl⟩, List.forall_mem_cons.mpr ⟨⟨w_0_31, rfl⟩, List.forall_mem_cons.mpr ⟨⟨w_1_11, rfl⟩, List.forall_mem_cons.mpr ⟨⟨w_5_45, rfl⟩, fun _ h => absurd h List.not_mem_nil⟩⟩⟩⟩⟩) rfl rfl ⟨rfl, by decide, by decide, by decide +kernel⟩ ⟨h1, h2⟩ rfl rfl rfl hsz rfl hW hdg hcs) kk
def f_X11_step_0 (fu : Nat) (k : Me → Option (Me × Unit)) : Nat → Me → Option (Me × Unit)
  | 0 => fun _ => none
  | n + 1 => fun x => ob (f_X11_here fu x) (fun x_3 r_3 => if r_3 = 10 then f_X11_step_0 fu k n (mu x_3 9 0 ((x_3 9 0) + 1)) else ob (f_X11_here fu x_3) (fun x_4 r_4 => if r_4 = 32 then f_X11_step_0 fu k n (mu x_4 9 0 ((x_4 9 0) + 1)) else k x_4))
def f_X11_step_132 (fu : Nat) (b1 : Int32) (k : Me → Option (Me × Unit)) : Nat → Me → Option (Me × Unit)
  | 0 => fun _ => none
  | n + 1 => fun x => ob (f_X11_here fu x) (fun x_12 r_12 => ob (f_X11_isDigit fu x_12 r_12) (fun x_13 r_13 => if r_13 = 0 then some (x_13, ()) else if (x_13 12 0) ≤ 1000 then ob (f_X11_here fu x_13) (fun x_14 r_14 => f_X11_step_132 fu b1 k n (mu (mu x_14 12 0 (((10 * (x_13 12 0)) + r_14) - 48)) 9 0 ((x_14 9 0) + 1))) else f_X11_step_132 fu b1 k n (mu (mu x_13 12 0 (x_13 12 0)) 9 0 ((x_13 9 0) + 1))))
def f_X11_step_64 (fu : Nat) (k : Me → Option (Me × Unit)) : Nat → Me → Option (Me × Unit)
  | 0 => fun _ => none
  | n + 1 => fun x => ob (f_X11_here fu x) (fun x_20 r_20 => ob (f_X11_isSmall fu x_20 r_20) (fun x_21 r_21 => if r_21 = 0 then k x_21 else f_X11_step_64 fu k n (mu x_21 9 0 ((x_21 9 0) + 1))))
def f_X11_step (fu : Nat) (x : Me) : Option (Me × Unit) := ob (f_X11_here fu x) (fun x_1 r_1 => jn (fun (x_2 : Me) => f_X11_step_0 fu (fun (x_7 : Me) => ob (f_X11_here fu (mu x_7 10 0 (x_7 9 0))) (fun x_8 r_8 => if r_8 = (-1) then some ((mu x_8 11 0 3), ()) else ob (f_X11_isSmall fu x_8 r_8) (fun x_9 r_9 => if r_9 = 0 then ob (f_X11_isDigit fu x_9 r_8) (fun x_10 r_10 => if r_10 = 0 then if r_8 = 59 then some ((mu (mu x_10 9 0 ((x_10 9 0) + 1)) 11 0 2), ()) else some ((mu (mu x_10 9 0 ((x_10 9 0) + 1)) 11 0 4), ()) else f_X11_step_132 fu r_8 (fun (x_17 : Me) => if r_8 = 59 then some ((mu (mu x_17 9 0 ((x_17 9 0) + 1)) 11 0 2), ()) else some ((mu (mu x_17 9 0 ((x_17 9 0) + 1)) 11 0 4), ())) fu (mu (mu x_10 11 0 1) 12 0 0)) else f_X11_step_64 fu (fun (x_23 : Me) => ob (f_X11_wordOf fu x_23) (fun x_24 r_24 => if r_24 = (-1) then some ((mu (mu x_24 12 0 r_24) 11 0 4), ()) else some ((mu (mu x_24 12 0 r_24) 11 0 0), ()))) fu x_9))) fu (mu x_2 9 0 ((x_2 9 0) + 1))) (fun j_2 => if r_1 = 10 then j_2 x_1 else ob (f_X11_here fu x_1) (fun x_28 r_28 => if r_28 = 32 then j_2 x_28 else ob (f_X11_here fu (mu x_28 10 0 (x_28 9 0))) (fun x_29 r_29 => if r_29 = (-1) then some ((mu x_29 11 0 3), ()) else ob (f_X11_isSmall fu x_29 r_29) (fun x_30 r_30 => if r_30 = 0 then ob (f_X11_isDigit fu x_30 r_29) (fun x_31 r_31 => if r_31 = 0 then if r_29 = 59 then some ((mu (mu x_31 9 0 ((x_31 9 0) + 1)) 11 0 2), ()) else some ((mu (mu x_31 9 0 ((x_31 9 0) + 1)) 11 0 4), ()) else f_X11_step_132 fu r_29 (fun (x_33 : Me) => if r_29 = 59 then some ((mu (mu x_33 9 0 ((x_33 9 0) + 1)) 11 0 2), ()) else some ((mu (mu x_33 9 0 ((x_33 9 0) + 1)) 11 0 4), ())) fu (mu (mu x_31 11 0 1) 12 0 0)) else f_X11_step_64 fu (fun (x_36 : Me) => ob (f_X11_wordOf fu x_36) (fun x_37 r_37 => if r_37 = (-1) then some ((mu (mu x_37 12 0 r_37) 11 0 4), ()) else some ((mu (mu x_37 12 0 r_37) 11 0 0), ()))) fu x_30)))))
def rm_X11_step : Room := { frames := 5, cells := 0, slots := 0, locals := 108 }
set_option maxHeartbeats 4000000 in
set_option maxRecDepth 100000 in
theorem wk_X11_step_0 {p : Program} {l : Launch} {e : Env} {s : State} {m : MethodId} {args : Array Value} {below : List Frame} {meth : Method} {c : Code} {fu nw : Nat} {G : GG} {mo : Me} (hx : p.tables.exec = Jvm.exec) (hb : c.code = cX11_step) (hml : c.maxLocals = 2) (hown : s.vm.findClass RX11 = some m.cls) (hE : EnvP G s) (hr : meth.sig.returnType = none) (hlocks : meth.locks = false) {x' : Me} {r : Unit} {k : Me → Option (Me × Unit)} (hk : ∀ (x : Me) (H : Heap) (locs : List Loc) (ls : Array Slot), k x = some (x', r) → MemP G nw mo x H → va_S (gA G) s.heap H locs → lv_has ls 2 [(0, .ref (ga G 41))] → W p l e rm_X11_step s m args below meth c H locs 0 0 (MQ below (PV G nw mo x') args s 0 0 (gA G)) (F0 m 31 ls [])) : ∀ (n : Nat) (x : Me) (H : Heap) (locs : List Loc) (ls : Array Slot), f_X11_step_0 fu k n x = some (x', r) → MemP G nw mo x H → va_S (gA G) s.heap H locs → lv_has ls 2 [(0, .ref (ga G 41))] → W p l e rm_X11_step s m args below meth c H locs 0 0 (MQ below (PV G nw mo x') args s 0 0 (gA G)) (F0 m 0 ls []) := by
  intro n
  induction n with
  | zero =>
    intro x H locs ls hf hM hS hl
    exact nn hf
  | succ n ih =>
    intro x H locs ls hf hM hS hl
    rw [f_X11_step_0] at hf
    refine lv_aload_n hx hb dX11_step_0 rfl (lv_at hl 0 rfl) ?_
    obtain ⟨x_3, r_3, hq_3, hf⟩ := ob_some hf
    refine k_X11_here hx hb hml hown hE hM hS w_5_35 hq_3 (Nat.le_of_ble_eq_true rfl) (Nat.le_of_ble_eq_true rfl) hl.1 (Nat.le_of_ble_eq_true rfl) ⟨Nat.zero_le _, Nat.zero_le _⟩ dX11_step_1 (fun H locs hM hS => ?_)
    refine lv_bipush (v := 10) hx hb dX11_step_4 (by decide) ?_
    refine lv_icmp_eq (tgt := 18) hx hb dX11_step_6 (by decide) (fun hc_6 => ?_) (fun hc_6 => ?_)
    · replace hf := i_t hf hc_6
      refine lv_aload_n hx hb dX11_step_18 rfl (lv_at hl 0 rfl) ?_
      refine lv_dup hx hb dX11_step_19 rfl ?_
      refine gm_9 hx hb hE hM hown w_4_109 dX11_step_20 ?_
      refine lv_iconst (v := 1) hx hb dX11_step_23 (by decide) ?_
      refine lv_iadd hx hb dX11_step_24 ?_
      refine pm_9 hx hb hE hM hS hown w_4_109 dX11_step_25 (fun H locs hM hS => ?_)
      refine lv_goto (tgt := 0) hx hb dX11_step_28 (by decide) ?_
      exact ih (mu x_3 9 0 ((x_3 9 0) + 1)) _ _ _ hf hM hS (lv_sub hl [0] rfl)
    · replace hf := i_f hf hc_6
      refine lv_aload_n hx hb dX11_step_9 rfl (lv_at hl 0 rfl) ?_
      obtain ⟨x_4, r_4, hq_4, hf⟩ := ob_some hf
      refine k_X11_here hx hb hml hown hE hM hS w_5_35 hq_4 (Nat.le_of_ble_eq_true rfl) (Nat.le_of_ble_eq_true rfl) hl.1 (Nat.le_of_ble_eq_true rfl) ⟨Nat.zero_le _, Nat.zero_le _⟩ dX11_step_10 (fun H locs hM hS => ?_)
      refine lv_bipush (v := 32) hx hb dX11_step_13 (by decide) ?_
      refine lv_icmp_ne (tgt := 31) hx hb dX11_step_15 (by decide) (fun hc_5 => ?_) (fun hc_5 => ?_)
      · replace hf := i_f hf hc_5
        exact hk x_4 _ _ _ hf hM hS (lv_sub hl [0] rfl)
      · replace hf := i_t hf hc_5
        refine lv_aload_n hx hb dX11_step_18 rfl (lv_at hl 0 rfl) ?_
        refine lv_dup hx hb dX11_step_19 rfl ?_
        refine gm_9 hx hb hE hM hown w_4_109 dX11_step_20 ?_
        refine lv_iconst (v := 1) hx hb dX11_step_23 (by decide) ?_
        refine lv_iadd hx hb dX11_step_24 ?_
        refine pm_9 hx hb hE hM hS hown w_4_109 dX11_step_25 (fun H locs hM hS => ?_)
        refine lv_goto (tgt := 0) hx hb dX11_step_28 (by decide) ?_
        exact ih (mu x_4 9 0 ((x_4 9 0) + 1)) _ _ _ hf hM hS (lv_sub hl [0] rfl)
set_option maxHeartbeats 4000000 in
set_option maxRecDepth 100000 in
theorem wk_X11_step_132 {p : Program} {l : Launch} {e : Env} {s : State} {m : MethodId} {args : Array Value} {below : List Frame} {meth : Method} {c : Code} {fu nw : Nat} {G : GG} {mo : Me} {b1 : Int32} (hx : p.tables.exec = Jvm.exec) (hb : c.code = cX11_step) (hml : c.maxLocals = 2) (hown : s.vm.findClass RX11 = some m.cls) (hE : EnvP G s) (hr : meth.sig.returnType = none) (hlocks : meth.locks = false) {x' : Me} {r : Unit} {k : Me → Option (Me × Unit)} (hk : ∀ (x : Me) (H : Heap) (locs : List Loc) (ls : Array Slot), k x = some (x', r) → MemP G nw mo x H → va_S (gA G) s.heap H locs → lv_has ls 2 [(0, .ref (ga G 41)), (1, .int b1)] → W p l e rm_X11_step s m args below meth c H locs 0 0 (MQ below (PV G nw mo x') args s 0 0 (gA G)) (F0 m 191 ls [])) : ∀ (n : Nat) (x : Me) (H : Heap) (locs : List Loc) (ls : Array Slot), f_X11_step_132 fu b1 k n x = some (x', r) → MemP G nw mo x H → va_S (gA G) s.heap H locs → lv_has ls 2 [(0, .ref (ga G 41)), (1, .int b1)] → W p l e rm_X11_step s m args below meth c H locs 0 0 (MQ below (PV G nw mo x') args s 0 0 (gA G)) (F0 m 132 ls []) := by
  intro n
  induction n with
  | zero =>
    intro x H locs ls hf hM hS hl
    exact nn hf
  | succ n ih =>
    intro x H locs ls hf hM hS hl
    rw [f_X11_step_132] at hf
    refine lv_aload_n hx hb dX11_step_132 rfl (lv_at hl 0 rfl) ?_
    obtain ⟨x_12, r_12, hq_12, hf⟩ := ob_some hf
    refine k_X11_here hx hb hml hown hE hM hS w_5_35 hq_12 (Nat.le_of_ble_eq_true rfl) (Nat.le_of_ble_eq_true rfl) hl.1 (Nat.le_of_ble_eq_true rfl) ⟨Nat.zero_le _, Nat.zero_le _⟩ dX11_step_133 (fun H locs hM hS => ?_)
    obtain ⟨x_13, r_13, hq_13, hf⟩ := ob_some hf
    refine k_X11_isDigit hx hb hml hown hE hM hS w_5_49 hq_13 (Nat.le_of_ble_eq_true rfl) (Nat.le_of_ble_eq_true rfl) hl.1 (Nat.le_of_ble_eq_true rfl) ⟨Nat.zero_le _, Nat.zero_le _⟩ dX11_step_136 (fun H locs hM hS => ?_)
    refine lv_if_eq (tgt := 216) hx hb dX11_step_139 (by decide) (fun hc_16 => ?_) (fun hc_16 => ?_)
    · replace hf := i_t hf hc_16
      exact rt_vM hx hb hr hf hM hS dX11_step_216 hlocks
    · replace hf := i_f hf hc_16
      refine lv_aload_n hx hb dX11_step_142 rfl (lv_at hl 0 rfl) ?_
      refine lv_aload_n hx hb dX11_step_143 rfl (lv_at hl 0 rfl) ?_
      refine gm_12 hx hb hE hM hown w_4_112 dX11_step_144 ?_
      refine lv_sipush (v := 1000) hx hb dX11_step_147 (by decide) ?_
      refine lv_icmp_le (tgt := 160) hx hb dX11_step_150 (by decide) (fun hc_15 => ?_) (fun hc_15 => ?_)
      · replace hf := i_t hf hc_15
        refine lv_bipush (v := 10) hx hb dX11_step_160 (by decide) ?_
        refine lv_aload_n hx hb dX11_step_162 rfl (lv_at hl 0 rfl) ?_
        refine gm_12 hx hb hE hM hown w_4_112 dX11_step_163 ?_
        refine lv_imul hx hb dX11_step_166 ?_
        refine lv_aload_n hx hb dX11_step_167 rfl (lv_at hl 0 rfl) ?_
        obtain ⟨x_14, r_14, hq_14, hf⟩ := ob_some hf
        refine k_X11_here hx hb hml hown hE hM hS w_5_35 hq_14 (Nat.le_of_ble_eq_true rfl) (Nat.le_of_ble_eq_true rfl) hl.1 (Nat.le_of_ble_eq_true rfl) ⟨Nat.zero_le _, Nat.zero_le _⟩ dX11_step_168 (fun H locs hM hS => ?_)
        refine lv_iadd hx hb dX11_step_171 ?_
        refine lv_bipush (v := 48) hx hb dX11_step_172 (by decide) ?_
        refine lv_isub hx hb dX11_step_174 ?_
        refine pm_12 hx hb hE hM hS hown w_4_112 dX11_step_175 (fun H locs hM hS => ?_)
        refine lv_aload_n hx hb dX11_step_178 rfl (lv_at hl 0 rfl) ?_
        refine lv_dup hx hb dX11_step_179 rfl ?_
        refine gm_9 hx hb hE hM hown w_4_109 dX11_step_180 ?_
        refine lv_iconst (v := 1) hx hb dX11_step_183 (by decide) ?_
        refine lv_iadd hx hb dX11_step_184 ?_
        refine pm_9 hx hb hE hM hS hown w_4_109 dX11_step_185 (fun H locs hM hS => ?_)
        refine lv_goto (tgt := 132) hx hb dX11_step_188 (by decide) ?_
        exact ih (mu (mu x_14 12 0 (((10 * (x_13 12 0)) + r_14) - 48)) 9 0 ((x_14 9 0) + 1)) _ _ _ hf hM hS (lv_sub hl [0, 1] rfl)
      · replace hf := i_f hf hc_15
        refine lv_aload_n hx hb dX11_step_153 rfl (lv_at hl 0 rfl) ?_
        refine gm_12 hx hb hE hM hown w_4_112 dX11_step_154 ?_
        refine lv_goto (tgt := 175) hx hb dX11_step_157 (by decide) ?_
        refine pm_12 hx hb hE hM hS hown w_4_112 dX11_step_175 (fun H locs hM hS => ?_)
        refine lv_aload_n hx hb dX11_step_178 rfl (lv_at hl 0 rfl) ?_
        refine lv_dup hx hb dX11_step_179 rfl ?_
        refine gm_9 hx hb hE hM hown w_4_109 dX11_step_180 ?_
        refine lv_iconst (v := 1) hx hb dX11_step_183 (by decide) ?_
        refine lv_iadd hx hb dX11_step_184 ?_
        refine pm_9 hx hb hE hM hS hown w_4_109 dX11_step_185 (fun H locs hM hS => ?_)
        refine lv_goto (tgt := 132) hx hb dX11_step_188 (by decide) ?_
        exact ih (mu (mu x_13 12 0 (x_13 12 0)) 9 0 ((x_13 9 0) + 1)) _ _ _ hf hM hS (lv_sub hl [0, 1] rfl)
set_option maxHeartbeats 4000000 in
set_option maxRecDepth 100000 in
theorem wk_X11_step_64 {p : Program} {l : Launch} {e : Env} {s : State} {m : MethodId} {args : Array Value} {below : List Frame} {meth : Method} {c : Code} {fu nw : Nat} {G : GG} {mo : Me} (hx : p.tables.exec = Jvm.exec) (hb : c.code = cX11_step) (hml : c.maxLocals = 2) (hown : s.vm.findClass RX11 = some m.cls) (hE : EnvP G s) (hr : meth.sig.returnType = none) (hlocks : meth.locks = false) {x' : Me} {r : Unit} {k : Me → Option (Me × Unit)} (hk : ∀ (x : Me) (H : Heap) (locs : List Loc) (ls : Array Slot), k x = some (x', r) → MemP G nw mo x H → va_S (gA G) s.heap H locs → lv_has ls 2 [(0, .ref (ga G 41))] → W p l e rm_X11_step s m args below meth c H locs 0 0 (MQ below (PV G nw mo x') args s 0 0 (gA G)) (F0 m 87 ls [])) : ∀ (n : Nat) (x : Me) (H : Heap) (locs : List Loc) (ls : Array Slot), f_X11_step_64 fu k n x = some (x', r) → MemP G nw mo x H → va_S (gA G) s.heap H locs → lv_has ls 2 [(0, .ref (ga G 41))] → W p l e rm_X11_step s m args below meth c H locs 0 0 (MQ below (PV G nw mo x') args s 0 0 (gA G)) (F0 m 64 ls []) := by
  intro n
  induction n with
  | zero =>
    intro x H locs ls hf hM hS hl
    exact nn hf
  | succ n ih =>
    intro x H locs ls hf hM hS hl
    rw [f_X11_step_64] at hf
    refine lv_aload_n hx hb dX11_step_64 rfl (lv_at hl 0 rfl) ?_
    obtain ⟨x_20, r_20, hq_20, hf⟩ := ob_some hf
    refine k_X11_here hx hb hml hown hE hM hS w_5_35 hq_20 (Nat.le_of_ble_eq_true rfl) (Nat.le_of_ble_eq_true rfl) hl.1 (Nat.le_of_ble_eq_true rfl) ⟨Nat.zero_le _, Nat.zero_le _⟩ dX11_step_65 (fun H locs hM hS => ?_)
    obtain ⟨x_21, r_21, hq_21, hf⟩ := ob_some hf
    refine k_X11_isSmall hx hb hml hown hE hM hS w_5_39 hq_21 (Nat.le_of_ble_eq_true rfl) (Nat.le_of_ble_eq_true rfl) hl.1 (Nat.le_of_ble_eq_true rfl) ⟨Nat.zero_le _, Nat.zero_le _⟩ dX11_step_68 (fun H locs hM hS => ?_)
    refine lv_if_eq (tgt := 87) hx hb dX11_step_71 (by decide) (fun hc_22 => ?_) (fun hc_22 => ?_)
    · replace hf := i_t hf hc_22
      exact hk x_21 _ _ _ hf hM hS (lv_sub hl [0] rfl)
    · replace hf := i_f hf hc_22
      refine lv_aload_n hx hb dX11_step_74 rfl (lv_at hl 0 rfl) ?_
      refine lv_dup hx hb dX11_step_75 rfl ?_
      refine gm_9 hx hb hE hM hown w_4_109 dX11_step_76 ?_
      refine lv_iconst (v := 1) hx hb dX11_step_79 (by decide) ?_
      refine lv_iadd hx hb dX11_step_80 ?_
      refine pm_9 hx hb hE hM hS hown w_4_109 dX11_step_81 (fun H locs hM hS => ?_)
      refine lv_goto (tgt := 64) hx hb dX11_step_84 (by decide) ?_
      exact ih (mu x_21 9 0 ((x_21 9 0) + 1)) _ _ _ hf hM hS (lv_sub hl [0] rfl)
set_option maxHeartbeats 4000000 in
set_option maxRecDepth 100000 in
theorem c_X11_step (l : Launch) (fu nw : Nat) (G : GG) (x x' mo : Me) (r : Unit) (hf : f_X11_step fu x = some (x', r)) : Met l yX11_step [.code yX11_step cX11_step 2 none] rm_X11_step (va_Pc [.ref (ga G 41)] (Pre G nw mo x)) (PV G nw mo x') 0 0 (gA G) := by
  refine mt_ofW (cc := cX11_step) (maxL := 2) (ret := none) (by decide +kernel) rfl ?_
  intro p e s m args below meth c s₁ B hml hv
  obtain ⟨rfl, hE, hM⟩ := hv
  have hx := B.exec
  have hb := B.bytes
  have hr := B.returns
  have hown : s.vm.findClass RX11 = some m.cls := findClass_of_methodNamed B.named
  have hlocks := B.notSynchronized
  have hS : va_S (gA G) s.heap s.heap [] := va_S.rf
  have hl := lv_entry ([.ref (ga G 41)]) (n := 2) (Nat.le_of_ble_eq_true rfl)
  rw [lg_entry_eq]
  generalize (lg_sl ([.ref (ga G 41)]) ++ List.replicate (2 - (lg_sl ([.ref (ga G 41)])).length) Slot.unset).toArray = ls at hl ⊢
  have hl : lv_has ls 2 [(0, .ref (ga G 41))] := hl
  generalize ([.ref (ga G 41)] : List Value).toArray = args
  unfold f_X11_step at hf
  refine lv_aload_n hx hb dX11_step_0 rfl (lv_at hl 0 rfl) ?_
  obtain ⟨x_1, r_1, hq_1, hf⟩ := ob_some hf
  refine k_X11_here hx hb hml hown hE hM hS w_5_35 hq_1 (Nat.le_of_ble_eq_true rfl) (Nat.le_of_ble_eq_true rfl) hl.1 (Nat.le_of_ble_eq_true rfl) ⟨Nat.zero_le _, Nat.zero_le _⟩ dX11_step_1 (fun H locs hM hS => ?_)
  refine lv_bipush (v := 10) hx hb dX11_step_4 (by decide) ?_
  have hj_2 : ∀ (x_2 : Me) (H : Heap) (locs : List Loc) (ls : Array Slot), jnA hf x_2 = some (x', r) → MemP G nw mo x_2 H → va_S (gA G) s.heap H locs → lv_has ls 2 [(0, .ref (ga G 41))] → W p l e rm_X11_step s m args below meth c H locs 0 0 (MQ below (PV G nw mo x') args s 0 0 (gA G)) (F0 m 18 ls []) := by
    intro x_2 H locs ls hf hM hS hl
    refine lv_aload_n hx hb dX11_step_18 rfl (lv_at hl 0 rfl) ?_
    refine lv_dup hx hb dX11_step_19 rfl ?_
    refine gm_9 hx hb hE hM hown w_4_109 dX11_step_20 ?_
    refine lv_iconst (v := 1) hx hb dX11_step_23 (by decide) ?_
    refine lv_iadd hx hb dX11_step_24 ?_
    refine pm_9 hx hb hE hM hS hown w_4_109 dX11_step_25 (fun H locs hM hS => ?_)
    refine lv_goto (tgt := 0) hx hb dX11_step_28 (by decide) ?_
    refine wk_X11_step_0 hx hb hml hown hE hr hlocks ?_ fu (mu x_2 9 0 ((x_2 9 0) + 1)) _ _ _ hf hM hS (lv_sub hl [0] rfl)
    intro x_7 H locs ls hf hM hS hl
    refine lv_aload_n hx hb dX11_step_31 rfl (lv_at hl 0 rfl) ?_
    refine lv_aload_n hx hb dX11_step_32 rfl (lv_at hl 0 rfl) ?_
    refine gm_9 hx hb hE hM hown w_4_109 dX11_step_33 ?_
    refine pm_10 hx hb hE hM hS hown w_4_110 dX11_step_36 (fun H locs hM hS => ?_)
    refine lv_aload_n hx hb dX11_step_39 rfl (lv_at hl 0 rfl) ?_
    obtain ⟨x_8, r_8, hq_8, hf⟩ := ob_some hf
    refine k_X11_here hx hb hml hown hE hM hS w_5_35 hq_8 (Nat.le_of_ble_eq_true rfl) (Nat.le_of_ble_eq_true rfl) hl.1 (Nat.le_of_ble_eq_true rfl) ⟨Nat.zero_le _, Nat.zero_le _⟩ dX11_step_40 (fun H locs hM hS => ?_)
    refine lv_istore_n (lv' := [(1, .int r_8), (0, .ref (ga G 41))]) hx hb dX11_step_43 rfl hl (by decide) rfl (fun ls hl => ?_)
    refine lv_iload_n hx hb dX11_step_44 rfl (lv_at hl 0 rfl) ?_
    refine lv_iconst (v := (-1)) hx hb dX11_step_45 (by decide) ?_
    refine lv_icmp_ne (tgt := 57) hx hb dX11_step_46 (by decide) (fun hc_27 => ?_) (fun hc_27 => ?_)
    · replace hf := i_f hf hc_27
      refine lv_iload_n hx hb dX11_step_57 rfl (lv_at hl 0 rfl) ?_
      obtain ⟨x_9, r_9, hq_9, hf⟩ := ob_some hf
      refine k_X11_isSmall hx hb hml hown hE hM hS w_5_39 hq_9 (Nat.le_of_ble_eq_true rfl) (Nat.le_of_ble_eq_true rfl) hl.1 (Nat.le_of_ble_eq_true rfl) ⟨Nat.zero_le _, Nat.zero_le _⟩ dX11_step_58 (fun H locs hM hS => ?_)
      refine lv_if_eq (tgt := 115) hx hb dX11_step_61 (by decide) (fun hc_26 => ?_) (fun hc_26 => ?_)
      · replace hf := i_t hf hc_26
        refine lv_iload_n hx hb dX11_step_115 rfl (lv_at hl 0 rfl) ?_
        obtain ⟨x_10, r_10, hq_10, hf⟩ := ob_some hf
        refine k_X11_isDigit hx hb hml hown hE hM hS w_5_49 hq_10 (Nat.le_of_ble_eq_true rfl) (Nat.le_of_ble_eq_true rfl) hl.1 (Nat.le_of_ble_eq_true rfl) ⟨Nat.zero_le _, Nat.zero_le _⟩ dX11_step_116 (fun H locs hM hS => ?_)
        refine lv_if_eq (tgt := 191) hx hb dX11_step_119 (by decide) (fun hc_19 => ?_) (fun hc_19 => ?_)
        · replace hf := i_t hf hc_19
          refine lv_aload_n hx hb dX11_step_191 rfl (lv_at hl 1 rfl) ?_
          refine lv_dup hx hb dX11_step_192 rfl ?_
          refine gm_9 hx hb hE hM hown w_4_109 dX11_step_193 ?_
          refine lv_iconst (v := 1) hx hb dX11_step_196 (by decide) ?_
          refine lv_iadd hx hb dX11_step_197 ?_
          refine pm_9 hx hb hE hM hS hown w_4_109 dX11_step_198 (fun H locs hM hS => ?_)
          refine lv_aload_n hx hb dX11_step_201 rfl (lv_at hl 1 rfl) ?_
          refine lv_iload_n hx hb dX11_step_202 rfl (lv_at hl 0 rfl) ?_
          refine lv_bipush (v := 59) hx hb dX11_step_203 (by decide) ?_
          refine lv_icmp_ne (tgt := 212) hx hb dX11_step_205 (by decide) (fun hc_11 => ?_) (fun hc_11 => ?_)
          · replace hf := i_f hf hc_11
            refine lv_iconst (v := 4) hx hb dX11_step_212 (by decide) ?_
            refine pm_11 hx hb hE hM hS hown w_4_111 dX11_step_213 (fun H locs hM hS => ?_)
            exact rt_vM hx hb hr hf hM hS dX11_step_216 hlocks
          · replace hf := i_t hf hc_11
            refine lv_iconst (v := 2) hx hb dX11_step_208 (by decide) ?_
            refine lv_goto (tgt := 213) hx hb dX11_step_209 (by decide) ?_
            refine pm_11 hx hb hE hM hS hown w_4_111 dX11_step_213 (fun H locs hM hS => ?_)
            exact rt_vM hx hb hr hf hM hS dX11_step_216 hlocks
        · replace hf := i_f hf hc_19
          refine lv_aload_n hx hb dX11_step_122 rfl (lv_at hl 1 rfl) ?_
          refine lv_iconst (v := 1) hx hb dX11_step_123 (by decide) ?_
          refine pm_11 hx hb hE hM hS hown w_4_111 dX11_step_124 (fun H locs hM hS => ?_)
          refine lv_aload_n hx hb dX11_step_127 rfl (lv_at hl 1 rfl) ?_
          refine lv_iconst (v := 0) hx hb dX11_step_128 (by decide) ?_
          refine pm_12 hx hb hE hM hS hown w_4_112 dX11_step_129 (fun H locs hM hS => ?_)
          refine wk_X11_step_132 hx hb hml hown hE hr hlocks ?_ fu (mu (mu x_10 11 0 1) 12 0 0) _ _ _ hf hM hS (lv_sub hl [1, 0] rfl)
          intro x_17 H locs ls hf hM hS hl
          refine lv_aload_n hx hb dX11_step_191 rfl (lv_at hl 0 rfl) ?_
          refine lv_dup hx hb dX11_step_192 rfl ?_
          refine gm_9 hx hb hE hM hown w_4_109 dX11_step_193 ?_
          refine lv_iconst (v := 1) hx hb dX11_step_196 (by decide) ?_
          refine lv_iadd hx hb dX11_step_197 ?_
          refine pm_9 hx hb hE hM hS hown w_4_109 dX11_step_198 (fun H locs hM hS => ?_)
          refine lv_aload_n hx hb dX11_step_201 rfl (lv_at hl 0 rfl) ?_
          refine lv_iload_n hx hb dX11_step_202 rfl (lv_at hl 1 rfl) ?_
          refine lv_bipush (v := 59) hx hb dX11_step_203 (by decide) ?_
          refine lv_icmp_ne (tgt := 212) hx hb dX11_step_205 (by decide) (fun hc_18 => ?_) (fun hc_18 => ?_)
          · replace hf := i_f hf hc_18
            refine lv_iconst (v := 4) hx hb dX11_step_212 (by decide) ?_
            refine pm_11 hx hb hE hM hS hown w_4_111 dX11_step_213 (fun H locs hM hS => ?_)
            exact rt_vM hx hb hr hf hM hS dX11_step_216 hlocks
          · replace hf := i_t hf hc_18
            refine lv_iconst (v := 2) hx hb dX11_step_208 (by decide) ?_
            refine lv_goto (tgt := 213) hx hb dX11_step_209 (by decide) ?_
            refine pm_11 hx hb hE hM hS hown w_4_111 dX11_step_213 (fun H locs hM hS => ?_)
            exact rt_vM hx hb hr hf hM hS dX11_step_216 hlocks
      · replace hf := i_f hf hc_26
        refine wk_X11_step_64 hx hb hml hown hE hr hlocks ?_ fu x_9 _ _ _ hf hM hS (lv_sub hl [1] rfl)
        intro x_23 H locs ls hf hM hS hl
        refine lv_aload_n hx hb dX11_step_87 rfl (lv_at hl 0 rfl) ?_
        refine lv_aload_n hx hb dX11_step_88 rfl (lv_at hl 0 rfl) ?_
        obtain ⟨x_24, r_24, hq_24, hf⟩ := ob_some hf
        refine k_X11_wordOf hx hb hml hown hE hM hS w_5_42 hq_24 (Nat.le_of_ble_eq_true rfl) (Nat.le_of_ble_eq_true rfl) hl.1 (Nat.le_of_ble_eq_true rfl) ⟨Nat.zero_le _, Nat.zero_le _⟩ dX11_step_89 (fun H locs hM hS => ?_)
        refine pm_12 hx hb hE hM hS hown w_4_112 dX11_step_92 (fun H locs hM hS => ?_)
        refine lv_aload_n hx hb dX11_step_95 rfl (lv_at hl 0 rfl) ?_
        refine lv_aload_n hx hb dX11_step_96 rfl (lv_at hl 0 rfl) ?_
        refine gm_12 hx hb hE hM hown w_4_112 dX11_step_97 ?_
        refine lv_iconst (v := (-1)) hx hb dX11_step_100 (by decide) ?_
        refine lv_icmp_ne (tgt := 108) hx hb dX11_step_101 (by decide) (fun hc_25 => ?_) (fun hc_25 => ?_)
        · replace hf := i_f hf hc_25
          refine lv_iconst (v := 0) hx hb dX11_step_108 (by decide) ?_
          refine pm_11 hx hb hE hM hS hown w_4_111 dX11_step_109 (fun H locs hM hS => ?_)
          refine lv_goto (tgt := 216) hx hb dX11_step_112 (by decide) ?_
          exact rt_vM hx hb hr hf hM hS dX11_step_216 hlocks
        · replace hf := i_t hf hc_25
          refine lv_iconst (v := 4) hx hb dX11_step_104 (by decide) ?_
          refine lv_goto (tgt := 109) hx hb dX11_step_105 (by decide) ?_
          refine pm_11 hx hb hE hM hS hown w_4_111 dX11_step_109 (fun H locs hM hS => ?_)
          refine lv_goto (tgt := 216) hx hb dX11_step_112 (by decide) ?_
          exact rt_vM hx hb hr hf hM hS dX11_step_216 hlocks
    · replace hf := i_t hf hc_27
      refine lv_aload_n hx hb dX11_step_49 rfl (lv_at hl 1 rfl) ?_
      refine lv_iconst (v := 3) hx hb dX11_step_50 (by decide) ?_
      refine pm_11 hx hb hE hM hS hown w_4_111 dX11_step_51 (fun H locs hM hS => ?_)
      refine lv_goto (tgt := 216) hx hb dX11_step_54 (by decide) ?_
      exact rt_vM hx hb hr hf hM hS dX11_step_216 hlocks
  replace hf := jn_use hf
  refine lv_icmp_eq (tgt := 18) hx hb dX11_step_6 (by decide) (fun hc_42 => ?_) (fun hc_42 => ?_)
  · replace hf := i_t hf hc_42
    exact hj_2 x_1 _ _ _ hf hM hS (lv_sub hl [0] rfl)
  · replace hf := i_f hf hc_42
    refine lv_aload_n hx hb dX11_step_9 rfl (lv_at hl 0 rfl) ?_
    obtain ⟨x_28, r_28, hq_28, hf⟩ := ob_some hf
    refine k_X11_here hx hb hml hown hE hM hS w_5_35 hq_28 (Nat.le_of_ble_eq_true rfl) (Nat.le_of_ble_eq_true rfl) hl.1 (Nat.le_of_ble_eq_true rfl) ⟨Nat.zero_le _, Nat.zero_le _⟩ dX11_step_10 (fun H locs hM hS => ?_)
    refine lv_bipush (v := 32) hx hb dX11_step_13 (by decide) ?_
    refine lv_icmp_ne (tgt := 31) hx hb dX11_step_15 (by decide) (fun hc_41 => ?_) (fun hc_41 => ?_)
    · replace hf := i_f hf hc_41
      refine lv_aload_n hx hb dX11_step_31 rfl (lv_at hl 0 rfl) ?_
      refine lv_aload_n hx hb dX11_step_32 rfl (lv_at hl 0 rfl) ?_
      refine gm_9 hx hb hE hM hown w_4_109 dX11_step_33 ?_
      refine pm_10 hx hb hE hM hS hown w_4_110 dX11_step_36 (fun H locs hM hS => ?_)
      refine lv_aload_n hx hb dX11_step_39 rfl (lv_at hl 0 rfl) ?_
      obtain ⟨x_29, r_29, hq_29, hf⟩ := ob_some hf
      refine k_X11_here hx hb hml hown hE hM hS w_5_35 hq_29 (Nat.le_of_ble_eq_true rfl) (Nat.le_of_ble_eq_true rfl) hl.1 (Nat.le_of_ble_eq_true rfl) ⟨Nat.zero_le _, Nat.zero_le _⟩ dX11_step_40 (fun H locs hM hS => ?_)
      refine lv_istore_n (lv' := [(1, .int r_29), (0, .ref (ga G 41))]) hx hb dX11_step_43 rfl hl (by decide) rfl (fun ls hl => ?_)
      refine lv_iload_n hx hb dX11_step_44 rfl (lv_at hl 0 rfl) ?_
      refine lv_iconst (v := (-1)) hx hb dX11_step_45 (by decide) ?_
      refine lv_icmp_ne (tgt := 57) hx hb dX11_step_46 (by decide) (fun hc_40 => ?_) (fun hc_40 => ?_)
      · replace hf := i_f hf hc_40
        refine lv_iload_n hx hb dX11_step_57 rfl (lv_at hl 0 rfl) ?_
        obtain ⟨x_30, r_30, hq_30, hf⟩ := ob_some hf
        refine k_X11_isSmall hx hb hml hown hE hM hS w_5_39 hq_30 (Nat.le_of_ble_eq_true rfl) (Nat.le_of_ble_eq_true rfl) hl.1 (Nat.le_of_ble_eq_true rfl) ⟨Nat.zero_le _, Nat.zero_le _⟩ dX11_step_58 (fun H locs hM hS => ?_)
        refine lv_if_eq (tgt := 115) hx hb dX11_step_61 (by decide) (fun hc_39 => ?_) (fun hc_39 => ?_)
        · replace hf := i_t hf hc_39
          refine lv_iload_n hx hb dX11_step_115 rfl (lv_at hl 0 rfl) ?_
          obtain ⟨x_31, r_31, hq_31, hf⟩ := ob_some hf
          refine k_X11_isDigit hx hb hml hown hE hM hS w_5_49 hq_31 (Nat.le_of_ble_eq_true rfl) (Nat.le_of_ble_eq_true rfl) hl.1 (Nat.le_of_ble_eq_true rfl) ⟨Nat.zero_le _, Nat.zero_le _⟩ dX11_step_116 (fun H locs hM hS => ?_)
          refine lv_if_eq (tgt := 191) hx hb dX11_step_119 (by decide) (fun hc_35 => ?_) (fun hc_35 => ?_)
          · replace hf := i_t hf hc_35
            refine lv_aload_n hx hb dX11_step_191 rfl (lv_at hl 1 rfl) ?_
            refine lv_dup hx hb dX11_step_192 rfl ?_
            refine gm_9 hx hb hE hM hown w_4_109 dX11_step_193 ?_
            refine lv_iconst (v := 1) hx hb dX11_step_196 (by decide) ?_
            refine lv_iadd hx hb dX11_step_197 ?_
            refine pm_9 hx hb hE hM hS hown w_4_109 dX11_step_198 (fun H locs hM hS => ?_)
            refine lv_aload_n hx hb dX11_step_201 rfl (lv_at hl 1 rfl) ?_
            refine lv_iload_n hx hb dX11_step_202 rfl (lv_at hl 0 rfl) ?_
            refine lv_bipush (v := 59) hx hb dX11_step_203 (by decide) ?_
            refine lv_icmp_ne (tgt := 212) hx hb dX11_step_205 (by decide) (fun hc_32 => ?_) (fun hc_32 => ?_)
            · replace hf := i_f hf hc_32
              refine lv_iconst (v := 4) hx hb dX11_step_212 (by decide) ?_
              refine pm_11 hx hb hE hM hS hown w_4_111 dX11_step_213 (fun H locs hM hS => ?_)
              exact rt_vM hx hb hr hf hM hS dX11_step_216 hlocks
            · replace hf := i_t hf hc_32
              refine lv_iconst (v := 2) hx hb dX11_step_208 (by decide) ?_
              refine lv_goto (tgt := 213) hx hb dX11_step_209 (by decide) ?_
              refine pm_11 hx hb hE hM hS hown w_4_111 dX11_step_213 (fun H locs hM hS => ?_)
              exact rt_vM hx hb hr hf hM hS dX11_step_216 hlocks
          · replace hf := i_f hf hc_35
            refine lv_aload_n hx hb dX11_step_122 rfl (lv_at hl 1 rfl) ?_
            refine lv_iconst (v := 1) hx hb dX11_step_123 (by decide) ?_
            refine pm_11 hx hb hE hM hS hown w_4_111 dX11_step_124 (fun H locs hM hS => ?_)
            refine lv_aload_n hx hb dX11_step_127 rfl (lv_at hl 1 rfl) ?_
            refine lv_iconst (v := 0) hx hb dX11_step_128 (by decide) ?_
            refine pm_12 hx hb hE hM hS hown w_4_112 dX11_step_129 (fun H locs hM hS => ?_)
            refine wk_X11_step_132 hx hb hml hown hE hr hlocks ?_ fu (mu (mu x_31 11 0 1) 12 0 0) _ _ _ hf hM hS (lv_sub hl [1, 0] rfl)
            intro x_33 H locs ls hf hM hS hl
            refine lv_aload_n hx hb dX11_step_191 rfl (lv_at hl 0 rfl) ?_
            refine lv_dup hx hb dX11_step_192 rfl ?_
            refine gm_9 hx hb hE hM hown w_4_109 dX11_step_193 ?_
            refine lv_iconst (v := 1) hx hb dX11_step_196 (by decide) ?_
            refine lv_iadd hx hb dX11_step_197 ?_
            refine pm_9 hx hb hE hM hS hown w_4_109 dX11_step_198 (fun H locs hM hS => ?_)
            refine lv_aload_n hx hb dX11_step_201 rfl (lv_at hl 0 rfl) ?_
            refine lv_iload_n hx hb dX11_step_202 rfl (lv_at hl 1 rfl) ?_
            refine lv_bipush (v := 59) hx hb dX11_step_203 (by decide) ?_
            refine lv_icmp_ne (tgt := 212) hx hb dX11_step_205 (by decide) (fun hc_34 => ?_) (fun hc_34 => ?_)
            · replace hf := i_f hf hc_34
              refine lv_iconst (v := 4) hx hb dX11_step_212 (by decide) ?_
              refine pm_11 hx hb hE hM hS hown w_4_111 dX11_step_213 (fun H locs hM hS => ?_)
              exact rt_vM hx hb hr hf hM hS dX11_step_216 hlocks
            · replace hf := i_t hf hc_34
              refine lv_iconst (v := 2) hx hb dX11_step_208 (by decide) ?_
              refine lv_goto (tgt := 213) hx hb dX11_step_209 (by decide) ?_
              refine pm_11 hx hb hE hM hS hown w_4_111 dX11_step_213 (fun H locs hM hS => ?_)
              exact rt_vM hx hb hr hf hM hS dX11_step_216 hlocks
        · replace hf := i_f hf hc_39
          refine wk_X11_step_64 hx hb hml hown hE hr hlocks ?_ fu x_30 _ _ _ hf hM hS (lv_sub hl [1] rfl)
          intro x_36 H locs ls hf hM hS hl
          refine lv_aload_n hx hb dX11_step_87 rfl (lv_at hl 0 rfl) ?_
          refine lv_aload_n hx hb dX11_step_88 rfl (lv_at hl 0 rfl) ?_
          obtain ⟨x_37, r_37, hq_37, hf⟩ := ob_some hf
          refine k_X11_wordOf hx hb hml hown hE hM hS w_5_42 hq_37 (Nat.le_of_ble_eq_true rfl) (Nat.le_of_ble_eq_true rfl) hl.1 (Nat.le_of_ble_eq_true rfl) ⟨Nat.zero_le _, Nat.zero_le _⟩ dX11_step_89 (fun H locs hM hS => ?_)
          refine pm_12 hx hb hE hM hS hown w_4_112 dX11_step_92 (fun H locs hM hS => ?_)
          refine lv_aload_n hx hb dX11_step_95 rfl (lv_at hl 0 rfl) ?_
          refine lv_aload_n hx hb dX11_step_96 rfl (lv_at hl 0 rfl) ?_
          refine gm_12 hx hb hE hM hown w_4_112 dX11_step_97 ?_
          refine lv_iconst (v := (-1)) hx hb dX11_step_100 (by decide) ?_
          refine lv_icmp_ne (tgt := 108) hx hb dX11_step_101 (by decide) (fun hc_38 => ?_) (fun hc_38 => ?_)
          · replace hf := i_f hf hc_38
            refine lv_iconst (v := 0) hx hb dX11_step_108 (by decide) ?_
            refine pm_11 hx hb hE hM hS hown w_4_111 dX11_step_109 (fun H locs hM hS => ?_)
            refine lv_goto (tgt := 216) hx hb dX11_step_112 (by decide) ?_
            exact rt_vM hx hb hr hf hM hS dX11_step_216 hlocks
          · replace hf := i_t hf hc_38
            refine lv_iconst (v := 4) hx hb dX11_step_104 (by decide) ?_
            refine lv_goto (tgt := 109) hx hb dX11_step_105 (by decide) ?_
            refine pm_11 hx hb hE hM hS hown w_4_111 dX11_step_109 (fun H locs hM hS => ?_)
            refine lv_goto (tgt := 216) hx hb dX11_step_112 (by decide) ?_
            exact rt_vM hx hb hr hf hM hS dX11_step_216 hlocks
      · replace hf := i_t hf hc_40
        refine lv_aload_n hx hb dX11_step_49 rfl (lv_at hl 1 rfl) ?_
        refine lv_iconst (v := 3) hx hb dX11_step_50 (by decide) ?_
        refine pm_11 hx hb hE hM hS hown w_4_111 dX11_step_51 (fun H locs hM hS => ?_)
        refine lv_goto (tgt := 216) hx hb dX11_step_54 (by decide) ?_
        exact rt_vM hx hb hr hf hM hS dX11_step_216 hlocks
    · replace hf := i_t hf hc_41
      exact hj_2 x_28 _ _ _ hf hM hS (lv_sub hl [0] rfl)
theorem k_X11_step {p : Program} {l : Launch} {e : Env} {R : Room} {s : State} {m : MethodId} {args : Array Value} {below : List Frame} {meth : Method} {c : Code} {H : Heap} {locs : List Loc} {cells slots : Nat} {Q : State → Prop} {cc : ByteArray} {pc nL : Nat} {ls : Array Slot} {rest : List Value} {G : GG} {fu nw : Nat} {x x' mo : Me} {own : String} {index : Nat} {r : Unit} (hx : p.tables.exec = Jvm.exec) (hb : c.code = cc) (hml : c.maxLocals = nL) (hown : s.vm.findClass own = some m.cls) (hE : EnvP G s) (hM : MemP G nw mo x H) (hS : va_S (gA G) s.heap H locs) (hw : Cond.methodLink own index yX11_step ∈ lw_tbl) (hf : f_X11_step fu x = some (x', r)) (h1 : 5 + 1 ≤ R.frames) (h2 : 8 + (2 + 11) + 108 ≤ R.locals) (hsz : ls.size = nL) (hW : (rest.map fun v => v.category).sum ≤ 8) (hcs : cells ≤ R.cells ∧ slots ≤ R.slots) (hdg : decode cc pc = .ok (.invokevirtual index, 3)) (kk : ∀ (H1 : Heap) (locs1 : List Loc), MemP G nw mo x' H1 → va_S (gA G) s.heap H1 locs1 → W p l e R s m args below meth c H1 locs1 cells slots Q (F0 m (pc + 3) ls rest)) : W p l e R s m args below meth c H locs cells slots Q (F0 m pc ls (.ref (ga G 41) :: rest)) := mm_kv hS (mm_runV (n := 0) (o := 41) (C := RX11) (T := TX11) (N := 54) (ci := 11) (As := []) hx hb hml hown hE hM hS (c_X11_step l fu nw G x x' mo _ hf) (List.forall_mem_cons.mpr ⟨⟨hw, rfl⟩, List.forall_mem_cons.mpr ⟨⟨w_5_33, rfl⟩, List.forall_mem_cons.mpr ⟨⟨w_0_29, rfl⟩, List.forall_mem_cons.mpr ⟨⟨w_1_11, rfl⟩, List.forall_mem_cons.mpr ⟨⟨w_5_34, rfl⟩, fun _ h => absurd h List.not_mem_nil⟩⟩⟩⟩⟩) rfl rfl ⟨rfl, by decide, by decide, by decide +kernel⟩ ⟨h1, h2⟩ rfl rfl rfl hsz rfl hW hdg hcs) kk
def f_X11_wrong (fu : Nat) (x : Me) (a1 : Int32) (a2 : Int32) : Option (Me × Unit) := if (x 13 0) = 0 then some ((mu (mu x 13 0 a1) 14 0 a2), ()) else some (x, ())
def rm_X11_wrong : Room := { frames := 0, cells := 0, slots := 0, locals := 0 }
set_option maxHeartbeats 4000000 in
set_option maxRecDepth 100000 in
theorem c_X11_wrong (l : Launch) (fu nw : Nat) (G : GG) (x x' mo : Me) (a1 : Int32) (a2 : Int32) (r : Unit) (hf : f_X11_wrong fu x a1 a2 = some (x', r)) : Met l yX11_wrong [.code yX11_wrong cX11_wrong 3 none] rm_X11_wrong (va_Pc [.ref (ga G 41), .int a1, .int a2] (Pre G nw mo x)) (PV G nw mo x') 0 0 (gA G) := by
  refine mt_ofW (cc := cX11_wrong) (maxL := 3) (ret := none) (by decide +kernel) rfl ?_
  intro p e s m args below meth c s₁ B hml hv
  obtain ⟨rfl, hE, hM⟩ := hv
  have hx := B.exec
  have hb := B.bytes
  have hr := B.returns
  have hown : s.vm.findClass RX11 = some m.cls := findClass_of_methodNamed B.named
  have hlocks := B.notSynchronized
  have hS : va_S (gA G) s.heap s.heap [] := va_S.rf
  have hl := lv_entry ([.ref (ga G 41), .int a1, .int a2]) (n := 3) (Nat.le_of_ble_eq_true rfl)
  rw [lg_entry_eq]
  generalize (lg_sl ([.ref (ga G 41), .int a1, .int a2]) ++ List.replicate (3 - (lg_sl ([.ref (ga G 41), .int a1, .int a2])).length) Slot.unset).toArray = ls at hl ⊢
  have hl : lv_has ls 3 [(0, .ref (ga G 41)), (1, .int a1), (2, .int a2)] := hl
  generalize ([.ref (ga G 41), .int a1, .int a2] : List Value).toArray = args
  unfold f_X11_wrong at hf
  refine lv_aload_n hx hb dX11_wrong_0 rfl (lv_at hl 0 rfl) ?_
  refine gm_13 hx hb hE hM hown w_4_113 dX11_wrong_1 ?_
  refine lv_if_eq (tgt := 8) hx hb dX11_wrong_4 (by decide) (fun hc_1 => ?_) (fun hc_1 => ?_)
  · replace hf := i_t hf hc_1
    refine lv_aload_n hx hb dX11_wrong_8 rfl (lv_at hl 0 rfl) ?_
    refine lv_iload_n hx hb dX11_wrong_9 rfl (lv_at hl 1 rfl) ?_
    refine pm_13 hx hb hE hM hS hown w_4_113 dX11_wrong_10 (fun H locs hM hS => ?_)
    refine lv_aload_n hx hb dX11_wrong_13 rfl (lv_at hl 0 rfl) ?_
    refine lv_iload_n hx hb dX11_wrong_14 rfl (lv_at hl 2 rfl) ?_
    refine pm_14 hx hb hE hM hS hown w_4_114 dX11_wrong_15 (fun H locs hM hS => ?_)
    exact rt_vM hx hb hr hf hM hS dX11_wrong_18 hlocks
  · replace hf := i_f hf hc_1
    exact rt_vM hx hb hr hf hM hS dX11_wrong_7 hlocks
theorem k_X11_wrong {p : Program} {l : Launch} {e : Env} {R : Room} {s : State} {m : MethodId} {args : Array Value} {below : List Frame} {meth : Method} {c : Code} {H : Heap} {locs : List Loc} {cells slots : Nat} {Q : State → Prop} {cc : ByteArray} {pc nL : Nat} {ls : Array Slot} {rest : List Value} {G : GG} {fu nw : Nat} {x x' mo : Me} {own : String} {index : Nat} {a1 : Int32} {a2 : Int32} {r : Unit} (hx : p.tables.exec = Jvm.exec) (hb : c.code = cc) (hml : c.maxLocals = nL) (hown : s.vm.findClass own = some m.cls) (hE : EnvP G s) (hM : MemP G nw mo x H) (hS : va_S (gA G) s.heap H locs) (hw : Cond.methodLink own index yX11_wrong ∈ lw_tbl) (hf : f_X11_wrong fu x a1 a2 = some (x', r)) (h1 : 0 + 1 ≤ R.frames) (h2 : 8 + (3 + 11) + 0 ≤ R.locals) (hsz : ls.size = nL) (hW : (rest.map fun v => v.category).sum ≤ 8) (hcs : cells ≤ R.cells ∧ slots ≤ R.slots) (hdg : decode cc pc = .ok (.invokevirtual index, 3)) (kk : ∀ (H1 : Heap) (locs1 : List Loc), MemP G nw mo x' H1 → va_S (gA G) s.heap H1 locs1 → W p l e R s m args below meth c H1 locs1 cells slots Q (F0 m (pc + 3) ls rest)) : W p l e R s m args below meth c H locs cells slots Q (F0 m pc ls (.int a2 :: .int a1 :: .ref (ga G 41) :: rest)) := mm_kv hS (mm_runV (n := 2) (o := 41) (C := RX11) (T := TX11) (N := 54) (ci := 11) (As := [.int a1, .int a2]) hx hb hml hown hE hM hS (c_X11_wrong l fu nw G x x' mo a1 a2 _ hf) (List.forall_mem_cons.mpr ⟨⟨hw, rfl⟩, List.forall_mem_cons.mpr ⟨⟨w_5_58, rfl⟩, List.forall_mem_cons.mpr ⟨⟨w_0_33, rfl⟩, List.forall_mem_cons.mpr ⟨⟨w_1_11, rfl⟩, List.forall_mem_cons.mpr ⟨⟨w_5_59, rfl⟩, fun _ h => absurd h List.not_mem_nil⟩⟩⟩⟩⟩) rfl rfl ⟨rfl, by decide, by decide, by decide +kernel⟩ ⟨h1, h2⟩ rfl rfl rfl hsz rfl hW hdg hcs) kk
def f_X11_isWithin (fu : Nat) (x : Me) (a0 : Int32) (a1 : Int32) : Option (Me × Int32) := if a0 = 0 then if a1 < 2 then some (x, 0) else if 10 < a1 then some (x, 0) else some (x, 1) else if a0 = 1 then if a1 < 1 then some (x, 0) else if 5 < a1 then some (x, 0) else some (x, 1) else if a0 = 2 then if a1 < 1 then some (x, 0) else if 9 < a1 then some (x, 0) else some (x, 1) else if a0 = 3 then if 1 < a1 then some (x, 0) else some (x, 1) else if 9 < a1 then some (x, 0) else some (x, 1)
def rm_X11_isWithin : Room := { frames := 0, cells := 0, slots := 0, locals := 0 }
set_option maxHeartbeats 4000000 in
set_option maxRecDepth 100000 in
theorem c_X11_isWithin (l : Launch) (fu nw : Nat) (G : GG) (x x' mo : Me) (a0 : Int32) (a1 : Int32) (r : Int32) (hf : f_X11_isWithin fu x a0 a1 = some (x', r)) : Met l yX11_isWithin [.code yX11_isWithin cX11_isWithin 2 (some .boolean)] rm_X11_isWithin (va_Pc [.int a0, .int a1] (Pre G nw mo x)) (PI G nw mo x' r) 0 0 (gA G) := by
  refine mt_ofW (cc := cX11_isWithin) (maxL := 2) (ret := (some .boolean)) (by decide +kernel) rfl ?_
  intro p e s m args below meth c s₁ B hml hv
  obtain ⟨rfl, hE, hM⟩ := hv
  have hx := B.exec
  have hb := B.bytes
  have hr := B.returns
  have hown : s.vm.findClass RX11 = some m.cls := findClass_of_methodNamed B.named
  have hlocks := B.notSynchronized
  have hS : va_S (gA G) s.heap s.heap [] := va_S.rf
  have hl := lv_entry ([.int a0, .int a1]) (n := 2) (Nat.le_of_ble_eq_true rfl)
  rw [lg_entry_eq]
  generalize (lg_sl ([.int a0, .int a1]) ++ List.replicate (2 - (lg_sl ([.int a0, .int a1])).length) Slot.unset).toArray = ls at hl ⊢
  have hl : lv_has ls 2 [(0, .int a0), (1, .int a1)] := hl
  generalize ([.int a0, .int a1] : List Value).toArray = args
  unfold f_X11_isWithin at hf
  refine lv_iload_n hx hb dX11_isWithin_0 rfl (lv_at hl 0 rfl) ?_
  by_cases hc_1 : a0 = 0
  · replace hf := i_t hf hc_1
    refine lv_tabK (k := 0) (tgt := 32) hx hb dX11_isWithin_1 hc_1 (by decide) (by decide) rfl (by decide) ?_
    refine lv_iload_n hx hb dX11_isWithin_32 rfl (lv_at hl 1 rfl) ?_
    refine lv_iconst (v := 2) hx hb dX11_isWithin_33 (by decide) ?_
    refine lv_icmp_lt (tgt := 47) hx hb dX11_isWithin_34 (by decide) (fun hc_3 => ?_) (fun hc_3 => ?_)
    · replace hf := i_t hf hc_3
      refine lv_iconst (v := 0) hx hb dX11_isWithin_47 (by decide) ?_
      exact rt_zM hx hb hr rfl hf hM hS dX11_isWithin_48 hlocks
    · replace hf := i_f hf hc_3
      refine lv_iload_n hx hb dX11_isWithin_37 rfl (lv_at hl 1 rfl) ?_
      refine lv_bipush (v := 10) hx hb dX11_isWithin_38 (by decide) ?_
      refine lv_icmp_gt (tgt := 47) hx hb dX11_isWithin_40 (by decide) (fun hc_2 => ?_) (fun hc_2 => ?_)
      · replace hf := i_t hf hc_2
        refine lv_iconst (v := 0) hx hb dX11_isWithin_47 (by decide) ?_
        exact rt_zM hx hb hr rfl hf hM hS dX11_isWithin_48 hlocks
      · replace hf := i_f hf hc_2
        refine lv_iconst (v := 1) hx hb dX11_isWithin_43 (by decide) ?_
        refine lv_goto (tgt := 48) hx hb dX11_isWithin_44 (by decide) ?_
        exact rt_zM hx hb hr rfl hf hM hS dX11_isWithin_48 hlocks
  replace hf := i_f hf hc_1
  by_cases hc_4 : a0 = 1
  · replace hf := i_t hf hc_4
    refine lv_tabK (k := 1) (tgt := 49) hx hb dX11_isWithin_1 hc_4 (by decide) (by decide) rfl (by decide) ?_
    refine lv_iload_n hx hb dX11_isWithin_49 rfl (lv_at hl 1 rfl) ?_
    refine lv_iconst (v := 1) hx hb dX11_isWithin_50 (by decide) ?_
    refine lv_icmp_lt (tgt := 63) hx hb dX11_isWithin_51 (by decide) (fun hc_6 => ?_) (fun hc_6 => ?_)
    · replace hf := i_t hf hc_6
      refine lv_iconst (v := 0) hx hb dX11_isWithin_63 (by decide) ?_
      exact rt_zM hx hb hr rfl hf hM hS dX11_isWithin_64 hlocks
    · replace hf := i_f hf hc_6
      refine lv_iload_n hx hb dX11_isWithin_54 rfl (lv_at hl 1 rfl) ?_
      refine lv_iconst (v := 5) hx hb dX11_isWithin_55 (by decide) ?_
      refine lv_icmp_gt (tgt := 63) hx hb dX11_isWithin_56 (by decide) (fun hc_5 => ?_) (fun hc_5 => ?_)
      · replace hf := i_t hf hc_5
        refine lv_iconst (v := 0) hx hb dX11_isWithin_63 (by decide) ?_
        exact rt_zM hx hb hr rfl hf hM hS dX11_isWithin_64 hlocks
      · replace hf := i_f hf hc_5
        refine lv_iconst (v := 1) hx hb dX11_isWithin_59 (by decide) ?_
        refine lv_goto (tgt := 64) hx hb dX11_isWithin_60 (by decide) ?_
        exact rt_zM hx hb hr rfl hf hM hS dX11_isWithin_64 hlocks
  replace hf := i_f hf hc_4
  by_cases hc_7 : a0 = 2
  · replace hf := i_t hf hc_7
    refine lv_tabK (k := 2) (tgt := 65) hx hb dX11_isWithin_1 hc_7 (by decide) (by decide) rfl (by decide) ?_
    refine lv_iload_n hx hb dX11_isWithin_65 rfl (lv_at hl 1 rfl) ?_
    refine lv_iconst (v := 1) hx hb dX11_isWithin_66 (by decide) ?_
    refine lv_icmp_lt (tgt := 80) hx hb dX11_isWithin_67 (by decide) (fun hc_9 => ?_) (fun hc_9 => ?_)
    · replace hf := i_t hf hc_9
      refine lv_iconst (v := 0) hx hb dX11_isWithin_80 (by decide) ?_
      exact rt_zM hx hb hr rfl hf hM hS dX11_isWithin_81 hlocks
    · replace hf := i_f hf hc_9
      refine lv_iload_n hx hb dX11_isWithin_70 rfl (lv_at hl 1 rfl) ?_
      refine lv_bipush (v := 9) hx hb dX11_isWithin_71 (by decide) ?_
      refine lv_icmp_gt (tgt := 80) hx hb dX11_isWithin_73 (by decide) (fun hc_8 => ?_) (fun hc_8 => ?_)
      · replace hf := i_t hf hc_8
        refine lv_iconst (v := 0) hx hb dX11_isWithin_80 (by decide) ?_
        exact rt_zM hx hb hr rfl hf hM hS dX11_isWithin_81 hlocks
      · replace hf := i_f hf hc_8
        refine lv_iconst (v := 1) hx hb dX11_isWithin_76 (by decide) ?_
        refine lv_goto (tgt := 81) hx hb dX11_isWithin_77 (by decide) ?_
        exact rt_zM hx hb hr rfl hf hM hS dX11_isWithin_81 hlocks
  replace hf := i_f hf hc_7
  by_cases hc_10 : a0 = 3
  · replace hf := i_t hf hc_10
    refine lv_tabK (k := 3) (tgt := 82) hx hb dX11_isWithin_1 hc_10 (by decide) (by decide) rfl (by decide) ?_
    refine lv_iload_n hx hb dX11_isWithin_82 rfl (lv_at hl 1 rfl) ?_
    refine lv_iconst (v := 1) hx hb dX11_isWithin_83 (by decide) ?_
    refine lv_icmp_gt (tgt := 91) hx hb dX11_isWithin_84 (by decide) (fun hc_11 => ?_) (fun hc_11 => ?_)
    · replace hf := i_t hf hc_11
      refine lv_iconst (v := 0) hx hb dX11_isWithin_91 (by decide) ?_
      exact rt_zM hx hb hr rfl hf hM hS dX11_isWithin_92 hlocks
    · replace hf := i_f hf hc_11
      refine lv_iconst (v := 1) hx hb dX11_isWithin_87 (by decide) ?_
      refine lv_goto (tgt := 92) hx hb dX11_isWithin_88 (by decide) ?_
      exact rt_zM hx hb hr rfl hf hM hS dX11_isWithin_92 hlocks
  replace hf := i_f hf hc_10
  refine lv_tableOut (tgt := 93) hx hb dX11_isWithin_1 (by have q0 := lv_neT (a := 0) hc_1 rfl; have q1 := lv_neT (a := 1) hc_4 rfl; have q2 := lv_neT (a := 2) hc_7 rfl; have q3 := lv_neT (a := 3) hc_10 rfl; omega) (by decide) ?_
  refine lv_iload_n hx hb dX11_isWithin_93 rfl (lv_at hl 1 rfl) ?_
  refine lv_bipush (v := 9) hx hb dX11_isWithin_94 (by decide) ?_
  refine lv_icmp_gt (tgt := 103) hx hb dX11_isWithin_96 (by decide) (fun hc_12 => ?_) (fun hc_12 => ?_)
  · replace hf := i_t hf hc_12
    refine lv_iconst (v := 0) hx hb dX11_isWithin_103 (by decide) ?_
    exact rt_zM hx hb hr rfl hf hM hS dX11_isWithin_104 hlocks
  · replace hf := i_f hf hc_12
    refine lv_iconst (v := 1) hx hb dX11_isWithin_99 (by decide) ?_
    refine lv_goto (tgt := 104) hx hb dX11_isWithin_100 (by decide) ?_
    exact rt_zM hx hb hr rfl hf hM hS dX11_isWithin_104 hlocks
theorem k_X11_isWithin {p : Program} {l : Launch} {e : Env} {R : Room} {s : State} {m : MethodId} {args : Array Value} {below : List Frame} {meth : Method} {c : Code} {H : Heap} {locs : List Loc} {cells slots : Nat} {Q : State → Prop} {cc : ByteArray} {pc nL : Nat} {ls : Array Slot} {rest : List Value} {G : GG} {fu nw : Nat} {x x' mo : Me} {own : String} {index : Nat} {a0 : Int32} {a1 : Int32} {r : Int32} (hx : p.tables.exec = Jvm.exec) (hb : c.code = cc) (hml : c.maxLocals = nL) (hown : s.vm.findClass own = some m.cls) (hE : EnvP G s) (hM : MemP G nw mo x H) (hS : va_S (gA G) s.heap H locs) (hw : Cond.methodLink own index yX11_isWithin ∈ lw_tbl) (hf : f_X11_isWithin fu x a0 a1 = some (x', r)) (h1 : 0 + 1 ≤ R.frames) (h2 : 8 + (2 + 11) + 0 ≤ R.locals) (hsz : ls.size = nL) (hW : (rest.map fun v => v.category).sum ≤ 8) (hcs : cells ≤ R.cells ∧ slots ≤ R.slots) (hdg : decode cc pc = .ok (.invokestatic index, 3)) (kk : ∀ (H1 : Heap) (locs1 : List Loc), MemP G nw mo x' H1 → va_S (gA G) s.heap H1 locs1 → W p l e R s m args below meth c H1 locs1 cells slots Q (F0 m (pc + 3) ls (.int r :: rest))) : W p l e R s m args below meth c H locs cells slots Q (F0 m pc ls (.int a1 :: .int a0 :: rest)) := mm_ki hS (mm_runS (n := 2) (As := [.int a0, .int a1]) hx hb hml hown hE hM hS (c_X11_isWithin l fu nw G x x' mo a0 a1 _ hf) (List.forall_mem_cons.mpr ⟨⟨hw, rfl⟩, List.forall_mem_cons.mpr ⟨⟨w_5_61, rfl⟩, List.forall_mem_cons.mpr ⟨⟨w_1_11, rfl⟩, List.forall_mem_cons.mpr ⟨⟨w_5_62, rfl⟩, fun _ h => absurd h List.not_mem_nil⟩⟩⟩⟩) rfl rfl ⟨by decide, by decide, by decide +kernel⟩ ⟨h1, h2⟩ rfl hsz rfl hW hdg hcs) kk
def f_X11_line (fu : Nat) (x : Me) : Option (Me × Unit) := if (x 11 0) = 0 then ob (f_X11_step fu x) (fun x_1 _ => jn (fun (x_2 : Me) => if (x_2 13 0) = 0 then ob (f_X11_step fu x_2) (fun x_3 _ => if inb (70 + (x 12 0)) 77 = true then jn (fun (x_5 : Me) => jn (fun (x_6 : Me) => if (x_6 13 0) = 0 then ob (f_X11_step fu (mu x_6 6 ((70 + (x 12 0)).toNatClampNeg) (x_2 12 0))) (fun x_7 _ => some (x_7, ())) else some (x_6, ())) (fun j_6 => if (x_5 11 0) = 2 then j_6 x_5 else ob (f_X11_wrong fu x_5 1 (x_5 10 0)) (fun x_9 _ => j_6 x_9))) (fun j_5 => if (x_3 6 ((70 + (x 12 0)).toNatClampNeg)) = (-1) then j_5 x_3 else ob (f_X11_wrong fu x_3 3 (x 10 0)) (fun x_11 _ => j_5 x_11)) else none) else some (x_2, ())) (fun j_2 => if (x_1 11 0) = 1 then ob (f_X11_isWithin fu x_1 (x 12 0) (x_1 12 0)) (fun x_14 r_14 => if r_14 = 0 then ob (f_X11_wrong fu x_14 2 (x_14 10 0)) (fun x_15 _ => j_2 x_15) else j_2 x_14) else ob (f_X11_wrong fu x_1 1 (x_1 10 0)) (fun x_17 _ => j_2 x_17))) else ob (f_X11_wrong fu x 1 (x 10 0)) (fun x_19 _ => some (x_19, ()))
def rm_X11_line : Room := { frames := 6, cells := 0, slots := 0, locals := 129 }
set_option maxHeartbeats 4000000 in
set_option maxRecDepth 100000 in
theorem c_X11_line (l : Launch) (fu nw : Nat) (G : GG) (x x' mo : Me) (r : Unit) (hf : f_X11_line fu x = some (x', r)) : Met l yX11_line [.code yX11_line cX11_line 4 none] rm_X11_line (va_Pc [.ref (ga G 41)] (Pre G nw mo x)) (PV G nw mo x') 0 0 (gA G) := by
  refine mt_ofW (cc := cX11_line) (maxL := 4) (ret := none) (by decide +kernel) rfl ?_
  intro p e s m args below meth c s₁ B hml hv
  obtain ⟨rfl, hE, hM⟩ := hv
  have hx := B.exec
  have hb := B.bytes
  have hr := B.returns
  have hown : s.vm.findClass RX11 = some m.cls := findClass_of_methodNamed B.named
  have hlocks := B.notSynchronized
  have hS : va_S (gA G) s.heap s.heap [] := va_S.rf
  have hl := lv_entry ([.ref (ga G 41)]) (n := 4) (Nat.le_of_ble_eq_true rfl)
  rw [lg_entry_eq]
  generalize (lg_sl ([.ref (ga G 41)]) ++ List.replicate (4 - (lg_sl ([.ref (ga G 41)])).length) Slot.unset).toArray = ls at hl ⊢
  have hl : lv_has ls 4 [(0, .ref (ga G 41))] := hl
  generalize ([.ref (ga G 41)] : List Value).toArray = args
  unfold f_X11_line at hf
  refine lv_aload_n hx hb dX11_line_0 rfl (lv_at hl 0 rfl) ?_
  refine gm_10 hx hb hE hM hown w_4_110 dX11_line_1 ?_
  refine lv_istore_n (lv' := [(1, .int (x 10 0)), (0, .ref (ga G 41))]) hx hb dX11_line_4 rfl hl (by decide) rfl (fun ls hl => ?_)
  refine lv_aload_n hx hb dX11_line_5 rfl (lv_at hl 1 rfl) ?_
  refine gm_11 hx hb hE hM hown w_4_111 dX11_line_6 ?_
  refine lv_if_eq (tgt := 19) hx hb dX11_line_9 (by decide) (fun hc_20 => ?_) (fun hc_20 => ?_)
  · replace hf := i_t hf hc_20
    refine lv_aload_n hx hb dX11_line_19 rfl (lv_at hl 1 rfl) ?_
    refine gm_12 hx hb hE hM hown w_4_112 dX11_line_20 ?_
    refine lv_istore_n (lv' := [(2, .int (x 12 0)), (1, .int (x 10 0)), (0, .ref (ga G 41))]) hx hb dX11_line_23 rfl hl (by decide) rfl (fun ls hl => ?_)
    refine lv_aload_n hx hb dX11_line_24 rfl (lv_at hl 2 rfl) ?_
    obtain ⟨x_1, r_1, hq_1, hf⟩ := ob_some hf
    refine k_X11_step hx hb hml hown hE hM hS w_5_31 hq_1 (Nat.le_of_ble_eq_true rfl) (Nat.le_of_ble_eq_true rfl) hl.1 (Nat.le_of_ble_eq_true rfl) ⟨Nat.zero_le _, Nat.zero_le _⟩ dX11_line_25 (fun H locs hM hS => ?_)
    refine lv_aload_n hx hb dX11_line_28 rfl (lv_at hl 2 rfl) ?_
    refine gm_11 hx hb hE hM hown w_4_111 dX11_line_29 ?_
    refine lv_iconst (v := 1) hx hb dX11_line_32 (by decide) ?_
    have hj_2 : ∀ (x_2 : Me) (H : Heap) (locs : List Loc) (ls : Array Slot), jnA hf x_2 = some (x', r) → MemP G nw mo x_2 H → va_S (gA G) s.heap H locs → lv_has ls 4 [(0, .ref (ga G 41)), (1, .int (x 10 0)), (2, .int (x 12 0))] → W p l e rm_X11_line s m args below meth c H locs 0 0 (MQ below (PV G nw mo x') args s 0 0 (gA G)) (F0 m 68 ls []) := by
      intro x_2 H locs ls hf hM hS hl
      refine lv_aload_n hx hb dX11_line_68 rfl (lv_at hl 0 rfl) ?_
      refine gm_13 hx hb hE hM hown w_4_113 dX11_line_69 ?_
      refine lv_if_eq (tgt := 76) hx hb dX11_line_72 (by decide) (fun hc_13 => ?_) (fun hc_13 => ?_)
      · replace hf := i_t hf hc_13
        refine lv_aload_n hx hb dX11_line_76 rfl (lv_at hl 0 rfl) ?_
        refine gm_12 hx hb hE hM hown w_4_112 dX11_line_77 ?_
        refine lv_istore_n (lv' := [(3, .int (x_2 12 0)), (0, .ref (ga G 41)), (1, .int (x 10 0)), (2, .int (x 12 0))]) hx hb dX11_line_80 rfl hl (by decide) rfl (fun ls hl => ?_)
        refine lv_aload_n hx hb dX11_line_81 rfl (lv_at hl 1 rfl) ?_
        obtain ⟨x_3, r_3, hq_3, hf⟩ := ob_some hf
        refine k_X11_step hx hb hml hown hE hM hS w_5_31 hq_3 (Nat.le_of_ble_eq_true rfl) (Nat.le_of_ble_eq_true rfl) hl.1 (Nat.le_of_ble_eq_true rfl) ⟨Nat.zero_le _, Nat.zero_le _⟩ dX11_line_82 (fun H locs hM hS => ?_)
        refine lv_aload_n hx hb dX11_line_85 rfl (lv_at hl 1 rfl) ?_
        refine gr_44 hx hb hE hM hown w_4_106 dX11_line_86 ?_
        refine lv_bipush (v := 70) hx hb dX11_line_89 (by decide) ?_
        refine lv_iload_n hx hb dX11_line_91 rfl (lv_at hl 3 rfl) ?_
        refine lv_iadd hx hb dX11_line_92 ?_
        obtain ⟨hi_4, hf⟩ := i_n hf
        refine la_44 hx hb hE hM hi_4 dX11_line_93 ?_
        refine lv_iconst (v := (-1)) hx hb dX11_line_94 (by decide) ?_
        have hj_5 : ∀ (x_5 : Me) (H : Heap) (locs : List Loc) (ls : Array Slot), jnA hf x_5 = some (x', r) → MemP G nw mo x_5 H → va_S (gA G) s.heap H locs → lv_has ls 4 [(0, .ref (ga G 41)), (2, .int (x 12 0)), (3, .int (x_2 12 0))] → W p l e rm_X11_line s m args below meth c H locs 0 0 (MQ below (PV G nw mo x') args s 0 0 (gA G)) (F0 m 104 ls []) := by
          intro x_5 H locs ls hf hM hS hl
          refine lv_aload_n hx hb dX11_line_104 rfl (lv_at hl 0 rfl) ?_
          refine gm_11 hx hb hE hM hown w_4_111 dX11_line_105 ?_
          refine lv_iconst (v := 2) hx hb dX11_line_108 (by decide) ?_
          have hj_6 : ∀ (x_6 : Me) (H : Heap) (locs : List Loc) (ls : Array Slot), jnA hf x_6 = some (x', r) → MemP G nw mo x_6 H → va_S (gA G) s.heap H locs → lv_has ls 4 [(0, .ref (ga G 41)), (2, .int (x 12 0)), (3, .int (x_2 12 0))] → W p l e rm_X11_line s m args below meth c H locs 0 0 (MQ below (PV G nw mo x') args s 0 0 (gA G)) (F0 m 121 ls []) := by
            intro x_6 H locs ls hf hM hS hl
            refine lv_aload_n hx hb dX11_line_121 rfl (lv_at hl 0 rfl) ?_
            refine gm_13 hx hb hE hM hown w_4_113 dX11_line_122 ?_
            refine lv_if_eq (tgt := 129) hx hb dX11_line_125 (by decide) (fun hc_8 => ?_) (fun hc_8 => ?_)
            · replace hf := i_t hf hc_8
              refine lv_aload_n hx hb dX11_line_129 rfl (lv_at hl 0 rfl) ?_
              refine gr_44 hx hb hE hM hown w_4_106 dX11_line_130 ?_
              refine lv_bipush (v := 70) hx hb dX11_line_133 (by decide) ?_
              refine lv_iload_n hx hb dX11_line_135 rfl (lv_at hl 1 rfl) ?_
              refine lv_iadd hx hb dX11_line_136 ?_
              refine lv_iload_n hx hb dX11_line_137 rfl (lv_at hl 2 rfl) ?_
              refine sa_44 hx hb hE hM hS hi_4 dX11_line_138 (fun H locs hM hS => ?_)
              refine lv_aload_n hx hb dX11_line_139 rfl (lv_at hl 0 rfl) ?_
              obtain ⟨x_7, r_7, hq_7, hf⟩ := ob_some hf
              refine k_X11_step hx hb hml hown hE hM hS w_5_31 hq_7 (Nat.le_of_ble_eq_true rfl) (Nat.le_of_ble_eq_true rfl) hl.1 (Nat.le_of_ble_eq_true rfl) ⟨Nat.zero_le _, Nat.zero_le _⟩ dX11_line_140 (fun H locs hM hS => ?_)
              exact rt_vM hx hb hr hf hM hS dX11_line_143 hlocks
            · replace hf := i_f hf hc_8
              exact rt_vM hx hb hr hf hM hS dX11_line_128 hlocks
          replace hf := jn_use hf
          refine lv_icmp_eq (tgt := 121) hx hb dX11_line_109 (by decide) (fun hc_10 => ?_) (fun hc_10 => ?_)
          · replace hf := i_t hf hc_10
            exact hj_6 x_5 _ _ _ hf hM hS (lv_sub hl [0, 1, 2] rfl)
          · replace hf := i_f hf hc_10
            refine lv_aload_n hx hb dX11_line_112 rfl (lv_at hl 0 rfl) ?_
            refine lv_iconst (v := 1) hx hb dX11_line_113 (by decide) ?_
            refine lv_aload_n hx hb dX11_line_114 rfl (lv_at hl 0 rfl) ?_
            refine gm_10 hx hb hE hM hown w_4_110 dX11_line_115 ?_
            obtain ⟨x_9, r_9, hq_9, hf⟩ := ob_some hf
            refine k_X11_wrong hx hb hml hown hE hM hS w_5_56 hq_9 (Nat.le_of_ble_eq_true rfl) (Nat.le_of_ble_eq_true rfl) hl.1 (Nat.le_of_ble_eq_true rfl) ⟨Nat.zero_le _, Nat.zero_le _⟩ dX11_line_118 (fun H locs hM hS => ?_)
            exact hj_6 x_9 _ _ _ hf hM hS (lv_sub hl [0, 1, 2] rfl)
        replace hf := jn_use hf
        refine lv_icmp_eq (tgt := 104) hx hb dX11_line_95 (by decide) (fun hc_12 => ?_) (fun hc_12 => ?_)
        · replace hf := i_t hf hc_12
          exact hj_5 x_3 _ _ _ hf hM hS (lv_sub hl [1, 3, 0] rfl)
        · replace hf := i_f hf hc_12
          refine lv_aload_n hx hb dX11_line_98 rfl (lv_at hl 1 rfl) ?_
          refine lv_iconst (v := 3) hx hb dX11_line_99 (by decide) ?_
          refine lv_iload_n hx hb dX11_line_100 rfl (lv_at hl 2 rfl) ?_
          obtain ⟨x_11, r_11, hq_11, hf⟩ := ob_some hf
          refine k_X11_wrong hx hb hml hown hE hM hS w_5_56 hq_11 (Nat.le_of_ble_eq_true rfl) (Nat.le_of_ble_eq_true rfl) hl.1 (Nat.le_of_ble_eq_true rfl) ⟨Nat.zero_le _, Nat.zero_le _⟩ dX11_line_101 (fun H locs hM hS => ?_)
          exact hj_5 x_11 _ _ _ hf hM hS (lv_sub hl [1, 3, 0] rfl)
      · replace hf := i_f hf hc_13
        exact rt_vM hx hb hr hf hM hS dX11_line_75 hlocks
    replace hf := jn_use hf
    refine lv_icmp_eq (tgt := 48) hx hb dX11_line_33 (by decide) (fun hc_18 => ?_) (fun hc_18 => ?_)
    · replace hf := i_t hf hc_18
      refine lv_iload_n hx hb dX11_line_48 rfl (lv_at hl 0 rfl) ?_
      refine lv_aload_n hx hb dX11_line_49 rfl (lv_at hl 2 rfl) ?_
      refine gm_12 hx hb hE hM hown w_4_112 dX11_line_50 ?_
      obtain ⟨x_14, r_14, hq_14, hf⟩ := ob_some hf
      refine k_X11_isWithin hx hb hml hown hE hM hS w_5_60 hq_14 (Nat.le_of_ble_eq_true rfl) (Nat.le_of_ble_eq_true rfl) hl.1 (Nat.le_of_ble_eq_true rfl) ⟨Nat.zero_le _, Nat.zero_le _⟩ dX11_line_53 (fun H locs hM hS => ?_)
      refine lv_if_ne (tgt := 68) hx hb dX11_line_56 (by decide) (fun hc_16 => ?_) (fun hc_16 => ?_)
      · replace hf := i_f hf hc_16
        exact hj_2 x_14 _ _ _ hf hM hS (lv_sub hl [2, 1, 0] rfl)
      · replace hf := i_t hf hc_16
        refine lv_aload_n hx hb dX11_line_59 rfl (lv_at hl 2 rfl) ?_
        refine lv_iconst (v := 2) hx hb dX11_line_60 (by decide) ?_
        refine lv_aload_n hx hb dX11_line_61 rfl (lv_at hl 2 rfl) ?_
        refine gm_10 hx hb hE hM hown w_4_110 dX11_line_62 ?_
        obtain ⟨x_15, r_15, hq_15, hf⟩ := ob_some hf
        refine k_X11_wrong hx hb hml hown hE hM hS w_5_56 hq_15 (Nat.le_of_ble_eq_true rfl) (Nat.le_of_ble_eq_true rfl) hl.1 (Nat.le_of_ble_eq_true rfl) ⟨Nat.zero_le _, Nat.zero_le _⟩ dX11_line_65 (fun H locs hM hS => ?_)
        exact hj_2 x_15 _ _ _ hf hM hS (lv_sub hl [2, 1, 0] rfl)
    · replace hf := i_f hf hc_18
      refine lv_aload_n hx hb dX11_line_36 rfl (lv_at hl 2 rfl) ?_
      refine lv_iconst (v := 1) hx hb dX11_line_37 (by decide) ?_
      refine lv_aload_n hx hb dX11_line_38 rfl (lv_at hl 2 rfl) ?_
      refine gm_10 hx hb hE hM hown w_4_110 dX11_line_39 ?_
      obtain ⟨x_17, r_17, hq_17, hf⟩ := ob_some hf
      refine k_X11_wrong hx hb hml hown hE hM hS w_5_56 hq_17 (Nat.le_of_ble_eq_true rfl) (Nat.le_of_ble_eq_true rfl) hl.1 (Nat.le_of_ble_eq_true rfl) ⟨Nat.zero_le _, Nat.zero_le _⟩ dX11_line_42 (fun H locs hM hS => ?_)
      refine lv_goto (tgt := 68) hx hb dX11_line_45 (by decide) ?_
      exact hj_2 x_17 _ _ _ hf hM hS (lv_sub hl [2, 1, 0] rfl)
  · replace hf := i_f hf hc_20
    refine lv_aload_n hx hb dX11_line_12 rfl (lv_at hl 1 rfl) ?_
    refine lv_iconst (v := 1) hx hb dX11_line_13 (by decide) ?_
    refine lv_iload_n hx hb dX11_line_14 rfl (lv_at hl 0 rfl) ?_
    obtain ⟨x_19, r_19, hq_19, hf⟩ := ob_some hf
    refine k_X11_wrong hx hb hml hown hE hM hS w_5_56 hq_19 (Nat.le_of_ble_eq_true rfl) (Nat.le_of_ble_eq_true rfl) hl.1 (Nat.le_of_ble_eq_true rfl) ⟨Nat.zero_le _, Nat.zero_le _⟩ dX11_line_15 (fun H locs hM hS => ?_)
    exact rt_vM hx hb hr hf hM hS dX11_line_18 hlocks
theorem k_X11_line {p : Program} {l : Launch} {e : Env} {R : Room} {s : State} {m : MethodId} {args : Array Value} {below : List Frame} {meth : Method} {c : Code} {H : Heap} {locs : List Loc} {cells slots : Nat} {Q : State → Prop} {cc : ByteArray} {pc nL : Nat} {ls : Array Slot} {rest : List Value} {G : GG} {fu nw : Nat} {x x' mo : Me} {own : String} {index : Nat} {r : Unit} (hx : p.tables.exec = Jvm.exec) (hb : c.code = cc) (hml : c.maxLocals = nL) (hown : s.vm.findClass own = some m.cls) (hE : EnvP G s) (hM : MemP G nw mo x H) (hS : va_S (gA G) s.heap H locs) (hw : Cond.methodLink own index yX11_line ∈ lw_tbl) (hf : f_X11_line fu x = some (x', r)) (h1 : 6 + 1 ≤ R.frames) (h2 : 8 + (4 + 11) + 129 ≤ R.locals) (hsz : ls.size = nL) (hW : (rest.map fun v => v.category).sum ≤ 8) (hcs : cells ≤ R.cells ∧ slots ≤ R.slots) (hdg : decode cc pc = .ok (.invokevirtual index, 3)) (kk : ∀ (H1 : Heap) (locs1 : List Loc), MemP G nw mo x' H1 → va_S (gA G) s.heap H1 locs1 → W p l e R s m args below meth c H1 locs1 cells slots Q (F0 m (pc + 3) ls rest)) : W p l e R s m args below meth c H locs cells slots Q (F0 m pc ls (.ref (ga G 41) :: rest)) := mm_kv hS (mm_runV (n := 0) (o := 41) (C := RX11) (T := TX11) (N := 54) (ci := 11) (As := []) hx hb hml hown hE hM hS (c_X11_line l fu nw G x x' mo _ hf) (List.forall_mem_cons.mpr ⟨⟨hw, rfl⟩, List.forall_mem_cons.mpr ⟨⟨w_5_54, rfl⟩, List.forall_mem_cons.mpr ⟨⟨w_0_32, rfl⟩, List.forall_mem_cons.mpr ⟨⟨w_1_11, rfl⟩, List.forall_mem_cons.mpr ⟨⟨w_5_55, rfl⟩, fun _ h => absurd h List.not_mem_nil⟩⟩⟩⟩⟩) rfl rfl ⟨rfl, by decide, by decide, by decide +kernel⟩ ⟨h1, h2⟩ rfl rfl rfl hsz rfl hW hdg hcs) kk
def f_X11_statute_67 (fu : Nat) (b2 : Int32) (k : Me → Option (Me × Int32)) : Nat → Me → Int32 → Option (Me × Int32)
  | 0 => fun _ _ => none
  | n + 1 => fun x a3 => if 77 ≤ a3 then k x else if inb a3 77 = true then f_X11_statute_67 fu b2 k n (mu x 6 a3.toNatClampNeg (-1)) (a3 + 1) else none
def f_X11_statute_90 (fu : Nat) (b2 : Int32) (k : Me → Option (Me × Int32)) : Nat → Me → Option (Me × Int32)
  | 0 => fun _ => none
  | n + 1 => fun x => if (x 13 0) = 0 then if (x 11 0) = 3 then k x else ob (f_X11_line fu x) (fun x_5 _ => f_X11_statute_90 fu b2 k n x_5) else k x
def f_X11_statute_149 (fu : Nat) (k : Me → Option (Me × Int32)) : Nat → Me → Int32 → Option (Me × Int32)
  | 0 => fun _ _ => none
  | n + 1 => fun x a3 => if 7 ≤ a3 then k x else if inb (70 + a3) 77 = true then if inb ((7 * (x 7 0)) + a3) 77 = true then f_X11_statute_149 fu k n (mu x 6 (((7 * (x 7 0)) + a3).toNatClampNeg) (x 6 ((70 + a3).toNatClampNeg))) (a3 + 1) else none else none
def f_X11_statute (fu : Nat) (x : Me) (a1 : Int32) (a2 : Int32) : Option (Me × Int32) := if a1 < 0 then some ((mu x 0 0 0), (-2)) else if (x 2 0) < a1 then some ((mu x 0 0 0), (-2)) else if a2 < 0 then some ((mu x 0 0 0), (-2)) else if 99 < a2 then some ((mu x 0 0 0), (-2)) else if (x 7 0) = 10 then some ((mu x 0 0 0), (-2)) else f_X11_statute_67 fu a2 (fun (x_3 : Me) => ob (f_X11_step fu x_3) (fun x_4 _ => f_X11_statute_90 fu a2 (fun (x_8 : Me) => if (x_8 13 0) = 0 then if inb (x_8 7 0) 10 = true then f_X11_statute_149 fu (fun (x_13 : Me) => some ((mu x_13 7 0 ((x_13 7 0) + 1)), ((x_13 7 0) + 1) - 1)) fu (mu (mu (mu x_8 15 0 (x_8 13 0)) 16 0 (x_8 14 0)) 5 ((x_8 7 0).toNatClampNeg) a2) 0 else none else some ((mu (mu x_8 15 0 (x_8 13 0)) 16 0 (x_8 14 0)), (-1))) fu x_4)) fu (mu (mu (mu (mu (mu (mu x 0 0 0) 8 0 a1) 2 0 0) 9 0 0) 13 0 0) 14 0 (-1)) 70
def rm_X11_statute : Room := { frames := 7, cells := 0, slots := 0, locals := 152 }
set_option maxHeartbeats 4000000 in
set_option maxRecDepth 100000 in
theorem wk_X11_statute_67 {p : Program} {l : Launch} {e : Env} {s : State} {m : MethodId} {args : Array Value} {below : List Frame} {meth : Method} {c : Code} {fu nw : Nat} {G : GG} {mo : Me} {b2 : Int32} (hx : p.tables.exec = Jvm.exec) (hb : c.code = cX11_statute) (hml : c.maxLocals = 4) (hown : s.vm.findClass RX11 = some m.cls) (hE : EnvP G s) (hr : meth.sig.returnType = (some .int)) (hlocks : meth.locks = false) {x' : Me} {r : Int32} {k : Me → Option (Me × Int32)} (hk : ∀ (x : Me) (H : Heap) (locs : List Loc) (ls : Array Slot), k x = some (x', r) → MemP G nw mo x H → va_S (gA G) s.heap H locs → lv_has ls 4 [(0, .ref (ga G 41)), (2, .int b2)] → W p l e rm_X11_statute s m args below meth c H locs 0 0 (MQ below (PI G nw mo x' r) args s 0 0 (gA G)) (F0 m 86 ls [])) : ∀ (n : Nat) (x : Me) (a3 : Int32) (H : Heap) (locs : List Loc) (ls : Array Slot), f_X11_statute_67 fu b2 k n x a3 = some (x', r) → MemP G nw mo x H → va_S (gA G) s.heap H locs → lv_has ls 4 [(0, .ref (ga G 41)), (2, .int b2), (3, .int a3)] → W p l e rm_X11_statute s m args below meth c H locs 0 0 (MQ below (PI G nw mo x' r) args s 0 0 (gA G)) (F0 m 67 ls []) := by
  intro n
  induction n with
  | zero =>
    intro x a3 H locs ls hf hM hS hl
    exact nn hf
  | succ n ih =>
    intro x a3 H locs ls hf hM hS hl
    rw [f_X11_statute_67] at hf
    refine lv_iload_n hx hb dX11_statute_67 rfl (lv_at hl 2 rfl) ?_
    refine lv_bipush (v := 77) hx hb dX11_statute_68 (by decide) ?_
    refine lv_icmp_ge (tgt := 86) hx hb dX11_statute_70 (by decide) (fun hc_2 => ?_) (fun hc_2 => ?_)
    · replace hf := i_t hf hc_2
      exact hk x _ _ _ hf hM hS (lv_sub hl [0, 1] rfl)
    · replace hf := i_f hf hc_2
      refine lv_aload_n hx hb dX11_statute_73 rfl (lv_at hl 0 rfl) ?_
      refine gr_44 hx hb hE hM hown w_4_106 dX11_statute_74 ?_
      refine lv_iload_n hx hb dX11_statute_77 rfl (lv_at hl 2 rfl) ?_
      refine lv_iconst (v := (-1)) hx hb dX11_statute_78 (by decide) ?_
      obtain ⟨hi_1, hf⟩ := i_n hf
      refine sa_44 hx hb hE hM hS hi_1 dX11_statute_79 (fun H locs hM hS => ?_)
      refine lv_iinc (v := a3 + 1) (lv' := [(3, .int (a3 + 1)), (0, .ref (ga G 41)), (2, .int b2)]) hx hb dX11_statute_80 hl (k := 2) rfl rfl (by decide) rfl (fun ls hl => ?_)
      refine lv_goto (tgt := 67) hx hb dX11_statute_83 (by decide) ?_
      exact ih (mu x 6 a3.toNatClampNeg (-1)) (a3 + 1) _ _ _ hf hM hS (lv_sub hl [1, 2, 0] rfl)
set_option maxHeartbeats 4000000 in
set_option maxRecDepth 100000 in
theorem wk_X11_statute_90 {p : Program} {l : Launch} {e : Env} {s : State} {m : MethodId} {args : Array Value} {below : List Frame} {meth : Method} {c : Code} {fu nw : Nat} {G : GG} {mo : Me} {b2 : Int32} (hx : p.tables.exec = Jvm.exec) (hb : c.code = cX11_statute) (hml : c.maxLocals = 4) (hown : s.vm.findClass RX11 = some m.cls) (hE : EnvP G s) (hr : meth.sig.returnType = (some .int)) (hlocks : meth.locks = false) {x' : Me} {r : Int32} {k : Me → Option (Me × Int32)} (hk : ∀ (x : Me) (H : Heap) (locs : List Loc) (ls : Array Slot), k x = some (x', r) → MemP G nw mo x H → va_S (gA G) s.heap H locs → lv_has ls 4 [(0, .ref (ga G 41)), (2, .int b2)] → W p l e rm_X11_statute s m args below meth c H locs 0 0 (MQ below (PI G nw mo x' r) args s 0 0 (gA G)) (F0 m 112 ls [])) : ∀ (n : Nat) (x : Me) (H : Heap) (locs : List Loc) (ls : Array Slot), f_X11_statute_90 fu b2 k n x = some (x', r) → MemP G nw mo x H → va_S (gA G) s.heap H locs → lv_has ls 4 [(0, .ref (ga G 41)), (2, .int b2)] → W p l e rm_X11_statute s m args below meth c H locs 0 0 (MQ below (PI G nw mo x' r) args s 0 0 (gA G)) (F0 m 90 ls []) := by
  intro n
  induction n with
  | zero =>
    intro x H locs ls hf hM hS hl
    exact nn hf
  | succ n ih =>
    intro x H locs ls hf hM hS hl
    rw [f_X11_statute_90] at hf
    refine lv_aload_n hx hb dX11_statute_90 rfl (lv_at hl 0 rfl) ?_
    refine gm_13 hx hb hE hM hown w_4_113 dX11_statute_91 ?_
    refine lv_if_ne (tgt := 112) hx hb dX11_statute_94 (by decide) (fun hc_7 => ?_) (fun hc_7 => ?_)
    · replace hf := i_f hf hc_7
      exact hk x _ _ _ hf hM hS (lv_sub hl [0, 1] rfl)
    · replace hf := i_t hf hc_7
      refine lv_aload_n hx hb dX11_statute_97 rfl (lv_at hl 0 rfl) ?_
      refine gm_11 hx hb hE hM hown w_4_111 dX11_statute_98 ?_
      refine lv_iconst (v := 3) hx hb dX11_statute_101 (by decide) ?_
      refine lv_icmp_eq (tgt := 112) hx hb dX11_statute_102 (by decide) (fun hc_6 => ?_) (fun hc_6 => ?_)
      · replace hf := i_t hf hc_6
        exact hk x _ _ _ hf hM hS (lv_sub hl [0, 1] rfl)
      · replace hf := i_f hf hc_6
        refine lv_aload_n hx hb dX11_statute_105 rfl (lv_at hl 0 rfl) ?_
        obtain ⟨x_5, r_5, hq_5, hf⟩ := ob_some hf
        refine k_X11_line hx hb hml hown hE hM hS w_5_52 hq_5 (Nat.le_of_ble_eq_true rfl) (Nat.le_of_ble_eq_true rfl) hl.1 (Nat.le_of_ble_eq_true rfl) ⟨Nat.zero_le _, Nat.zero_le _⟩ dX11_statute_106 (fun H locs hM hS => ?_)
        refine lv_goto (tgt := 90) hx hb dX11_statute_109 (by decide) ?_
        exact ih x_5 _ _ _ hf hM hS (lv_sub hl [0, 1] rfl)
set_option maxHeartbeats 4000000 in
set_option maxRecDepth 100000 in
theorem wk_X11_statute_149 {p : Program} {l : Launch} {e : Env} {s : State} {m : MethodId} {args : Array Value} {below : List Frame} {meth : Method} {c : Code} {fu nw : Nat} {G : GG} {mo : Me} (hx : p.tables.exec = Jvm.exec) (hb : c.code = cX11_statute) (hml : c.maxLocals = 4) (hown : s.vm.findClass RX11 = some m.cls) (hE : EnvP G s) (hr : meth.sig.returnType = (some .int)) (hlocks : meth.locks = false) {x' : Me} {r : Int32} {k : Me → Option (Me × Int32)} (hk : ∀ (x : Me) (H : Heap) (locs : List Loc) (ls : Array Slot), k x = some (x', r) → MemP G nw mo x H → va_S (gA G) s.heap H locs → lv_has ls 4 [(0, .ref (ga G 41))] → W p l e rm_X11_statute s m args below meth c H locs 0 0 (MQ below (PI G nw mo x' r) args s 0 0 (gA G)) (F0 m 184 ls [])) : ∀ (n : Nat) (x : Me) (a3 : Int32) (H : Heap) (locs : List Loc) (ls : Array Slot), f_X11_statute_149 fu k n x a3 = some (x', r) → MemP G nw mo x H → va_S (gA G) s.heap H locs → lv_has ls 4 [(0, .ref (ga G 41)), (3, .int a3)] → W p l e rm_X11_statute s m args below meth c H locs 0 0 (MQ below (PI G nw mo x' r) args s 0 0 (gA G)) (F0 m 149 ls []) := by
  intro n
  induction n with
  | zero =>
    intro x a3 H locs ls hf hM hS hl
    exact nn hf
  | succ n ih =>
    intro x a3 H locs ls hf hM hS hl
    rw [f_X11_statute_149] at hf
    refine lv_iload_n hx hb dX11_statute_149 rfl (lv_at hl 1 rfl) ?_
    refine lv_bipush (v := 7) hx hb dX11_statute_150 (by decide) ?_
    refine lv_icmp_ge (tgt := 184) hx hb dX11_statute_152 (by decide) (fun hc_12 => ?_) (fun hc_12 => ?_)
    · replace hf := i_t hf hc_12
      exact hk x _ _ _ hf hM hS (lv_sub hl [0] rfl)
    · replace hf := i_f hf hc_12
      refine lv_aload_n hx hb dX11_statute_155 rfl (lv_at hl 0 rfl) ?_
      refine gr_44 hx hb hE hM hown w_4_106 dX11_statute_156 ?_
      refine lv_bipush (v := 7) hx hb dX11_statute_159 (by decide) ?_
      refine lv_aload_n hx hb dX11_statute_161 rfl (lv_at hl 0 rfl) ?_
      refine gm_7 hx hb hE hM hown w_4_107 dX11_statute_162 ?_
      refine lv_imul hx hb dX11_statute_165 ?_
      refine lv_iload_n hx hb dX11_statute_166 rfl (lv_at hl 1 rfl) ?_
      refine lv_iadd hx hb dX11_statute_167 ?_
      refine lv_aload_n hx hb dX11_statute_168 rfl (lv_at hl 0 rfl) ?_
      refine gr_44 hx hb hE hM hown w_4_106 dX11_statute_169 ?_
      refine lv_bipush (v := 70) hx hb dX11_statute_172 (by decide) ?_
      refine lv_iload_n hx hb dX11_statute_174 rfl (lv_at hl 1 rfl) ?_
      refine lv_iadd hx hb dX11_statute_175 ?_
      obtain ⟨hi_10, hf⟩ := i_n hf
      refine la_44 hx hb hE hM hi_10 dX11_statute_176 ?_
      obtain ⟨hi_11, hf⟩ := i_n hf
      refine sa_44 hx hb hE hM hS hi_11 dX11_statute_177 (fun H locs hM hS => ?_)
      refine lv_iinc (v := a3 + 1) (lv' := [(3, .int (a3 + 1)), (0, .ref (ga G 41))]) hx hb dX11_statute_178 hl (k := 1) rfl rfl (by decide) rfl (fun ls hl => ?_)
      refine lv_goto (tgt := 149) hx hb dX11_statute_181 (by decide) ?_
      exact ih (mu x 6 (((7 * (x 7 0)) + a3).toNatClampNeg) (x 6 ((70 + a3).toNatClampNeg))) (a3 + 1) _ _ _ hf hM hS (lv_sub hl [1, 0] rfl)
set_option maxHeartbeats 4000000 in
set_option maxRecDepth 100000 in
theorem c_X11_statute (l : Launch) (fu nw : Nat) (G : GG) (x x' mo : Me) (a1 : Int32) (a2 : Int32) (r : Int32) (hf : f_X11_statute fu x a1 a2 = some (x', r)) : Met l yX11_statute [.code yX11_statute cX11_statute 4 (some .int)] rm_X11_statute (va_Pc [.ref (ga G 41), .int a1, .int a2] (Pre G nw mo x)) (PI G nw mo x' r) 0 0 (gA G) := by
  refine mt_ofW (cc := cX11_statute) (maxL := 4) (ret := (some .int)) (by decide +kernel) rfl ?_
  intro p e s m args below meth c s₁ B hml hv
  obtain ⟨rfl, hE, hM⟩ := hv
  have hx := B.exec
  have hb := B.bytes
  have hr := B.returns
  have hown : s.vm.findClass RX11 = some m.cls := findClass_of_methodNamed B.named
  have hlocks := B.notSynchronized
  have hS : va_S (gA G) s.heap s.heap [] := va_S.rf
  have hl := lv_entry ([.ref (ga G 41), .int a1, .int a2]) (n := 4) (Nat.le_of_ble_eq_true rfl)
  rw [lg_entry_eq]
  generalize (lg_sl ([.ref (ga G 41), .int a1, .int a2]) ++ List.replicate (4 - (lg_sl ([.ref (ga G 41), .int a1, .int a2])).length) Slot.unset).toArray = ls at hl ⊢
  have hl : lv_has ls 4 [(0, .ref (ga G 41)), (1, .int a1), (2, .int a2)] := hl
  generalize ([.ref (ga G 41), .int a1, .int a2] : List Value).toArray = args
  unfold f_X11_statute at hf
  refine lv_aload_n hx hb dX11_statute_0 rfl (lv_at hl 0 rfl) ?_
  refine lv_iconst (v := 0) hx hb dX11_statute_1 (by decide) ?_
  refine pm_0 hx hb hE hM hS hown w_4_100 dX11_statute_2 (fun H locs hM hS => ?_)
  refine lv_iload_n hx hb dX11_statute_5 rfl (lv_at hl 1 rfl) ?_
  refine lv_if_lt (tgt := 36) hx hb dX11_statute_6 (by decide) (fun hc_19 => ?_) (fun hc_19 => ?_)
  · replace hf := i_t hf hc_19
    refine lv_bipush (v := (-2)) hx hb dX11_statute_36 (by decide) ?_
    exact rt_iM hx hb hr hf hM hS dX11_statute_38 hlocks
  · replace hf := i_f hf hc_19
    refine lv_iload_n hx hb dX11_statute_9 rfl (lv_at hl 1 rfl) ?_
    refine lv_aload_n hx hb dX11_statute_10 rfl (lv_at hl 0 rfl) ?_
    refine gm_2 hx hb hE hM hown w_4_102 dX11_statute_11 ?_
    refine lv_icmp_gt (tgt := 36) hx hb dX11_statute_14 (by decide) (fun hc_18 => ?_) (fun hc_18 => ?_)
    · replace hf := i_t hf hc_18
      refine lv_bipush (v := (-2)) hx hb dX11_statute_36 (by decide) ?_
      exact rt_iM hx hb hr hf hM hS dX11_statute_38 hlocks
    · replace hf := i_f hf hc_18
      refine lv_iload_n hx hb dX11_statute_17 rfl (lv_at hl 2 rfl) ?_
      refine lv_if_lt (tgt := 36) hx hb dX11_statute_18 (by decide) (fun hc_17 => ?_) (fun hc_17 => ?_)
      · replace hf := i_t hf hc_17
        refine lv_bipush (v := (-2)) hx hb dX11_statute_36 (by decide) ?_
        exact rt_iM hx hb hr hf hM hS dX11_statute_38 hlocks
      · replace hf := i_f hf hc_17
        refine lv_iload_n hx hb dX11_statute_21 rfl (lv_at hl 2 rfl) ?_
        refine lv_bipush (v := 99) hx hb dX11_statute_22 (by decide) ?_
        refine lv_icmp_gt (tgt := 36) hx hb dX11_statute_24 (by decide) (fun hc_16 => ?_) (fun hc_16 => ?_)
        · replace hf := i_t hf hc_16
          refine lv_bipush (v := (-2)) hx hb dX11_statute_36 (by decide) ?_
          exact rt_iM hx hb hr hf hM hS dX11_statute_38 hlocks
        · replace hf := i_f hf hc_16
          refine lv_aload_n hx hb dX11_statute_27 rfl (lv_at hl 0 rfl) ?_
          refine gm_7 hx hb hE hM hown w_4_107 dX11_statute_28 ?_
          refine lv_bipush (v := 10) hx hb dX11_statute_31 (by decide) ?_
          refine lv_icmp_ne (tgt := 39) hx hb dX11_statute_33 (by decide) (fun hc_15 => ?_) (fun hc_15 => ?_)
          · replace hf := i_f hf hc_15
            refine lv_aload_n hx hb dX11_statute_39 rfl (lv_at hl 0 rfl) ?_
            refine lv_iload_n hx hb dX11_statute_40 rfl (lv_at hl 1 rfl) ?_
            refine pm_8 hx hb hE hM hS hown w_4_108 dX11_statute_41 (fun H locs hM hS => ?_)
            refine lv_aload_n hx hb dX11_statute_44 rfl (lv_at hl 0 rfl) ?_
            refine lv_iconst (v := 0) hx hb dX11_statute_45 (by decide) ?_
            refine pm_2 hx hb hE hM hS hown w_4_102 dX11_statute_46 (fun H locs hM hS => ?_)
            refine lv_aload_n hx hb dX11_statute_49 rfl (lv_at hl 0 rfl) ?_
            refine lv_iconst (v := 0) hx hb dX11_statute_50 (by decide) ?_
            refine pm_9 hx hb hE hM hS hown w_4_109 dX11_statute_51 (fun H locs hM hS => ?_)
            refine lv_aload_n hx hb dX11_statute_54 rfl (lv_at hl 0 rfl) ?_
            refine lv_iconst (v := 0) hx hb dX11_statute_55 (by decide) ?_
            refine pm_13 hx hb hE hM hS hown w_4_113 dX11_statute_56 (fun H locs hM hS => ?_)
            refine lv_aload_n hx hb dX11_statute_59 rfl (lv_at hl 0 rfl) ?_
            refine lv_iconst (v := (-1)) hx hb dX11_statute_60 (by decide) ?_
            refine pm_14 hx hb hE hM hS hown w_4_114 dX11_statute_61 (fun H locs hM hS => ?_)
            refine lv_bipush (v := 70) hx hb dX11_statute_64 (by decide) ?_
            refine lv_istore_n (lv' := [(3, .int 70), (0, .ref (ga G 41)), (1, .int a1), (2, .int a2)]) hx hb dX11_statute_66 rfl hl (by decide) rfl (fun ls hl => ?_)
            refine wk_X11_statute_67 hx hb hml hown hE hr hlocks ?_ fu (mu (mu (mu (mu (mu (mu x 0 0 0) 8 0 a1) 2 0 0) 9 0 0) 13 0 0) 14 0 (-1)) 70 _ _ _ hf hM hS (lv_sub hl [1, 3, 0] rfl)
            intro x_3 H locs ls hf hM hS hl
            refine lv_aload_n hx hb dX11_statute_86 rfl (lv_at hl 0 rfl) ?_
            obtain ⟨x_4, r_4, hq_4, hf⟩ := ob_some hf
            refine k_X11_step hx hb hml hown hE hM hS w_5_31 hq_4 (Nat.le_of_ble_eq_true rfl) (Nat.le_of_ble_eq_true rfl) hl.1 (Nat.le_of_ble_eq_true rfl) ⟨Nat.zero_le _, Nat.zero_le _⟩ dX11_statute_87 (fun H locs hM hS => ?_)
            refine wk_X11_statute_90 hx hb hml hown hE hr hlocks ?_ fu x_4 _ _ _ hf hM hS (lv_sub hl [0, 1] rfl)
            intro x_8 H locs ls hf hM hS hl
            refine lv_aload_n hx hb dX11_statute_112 rfl (lv_at hl 0 rfl) ?_
            refine lv_aload_n hx hb dX11_statute_113 rfl (lv_at hl 0 rfl) ?_
            refine gm_13 hx hb hE hM hown w_4_113 dX11_statute_114 ?_
            refine pm_15 hx hb hE hM hS hown w_4_115 dX11_statute_117 (fun H locs hM hS => ?_)
            refine lv_aload_n hx hb dX11_statute_120 rfl (lv_at hl 0 rfl) ?_
            refine lv_aload_n hx hb dX11_statute_121 rfl (lv_at hl 0 rfl) ?_
            refine gm_14 hx hb hE hM hown w_4_114 dX11_statute_122 ?_
            refine pm_16 hx hb hE hM hS hown w_4_116 dX11_statute_125 (fun H locs hM hS => ?_)
            refine lv_aload_n hx hb dX11_statute_128 rfl (lv_at hl 0 rfl) ?_
            refine gm_13 hx hb hE hM hown w_4_113 dX11_statute_129 ?_
            refine lv_if_eq (tgt := 137) hx hb dX11_statute_132 (by decide) (fun hc_14 => ?_) (fun hc_14 => ?_)
            · replace hf := i_t hf hc_14
              refine lv_aload_n hx hb dX11_statute_137 rfl (lv_at hl 0 rfl) ?_
              refine gr_43 hx hb hE hM hown w_4_105 dX11_statute_138 ?_
              refine lv_aload_n hx hb dX11_statute_141 rfl (lv_at hl 0 rfl) ?_
              refine gm_7 hx hb hE hM hown w_4_107 dX11_statute_142 ?_
              refine lv_iload_n hx hb dX11_statute_145 rfl (lv_at hl 1 rfl) ?_
              obtain ⟨hi_9, hf⟩ := i_n hf
              refine sa_43 hx hb hE hM hS hi_9 dX11_statute_146 (fun H locs hM hS => ?_)
              refine lv_iconst (v := 0) hx hb dX11_statute_147 (by decide) ?_
              refine lv_istore_n (lv' := [(3, .int 0), (0, .ref (ga G 41)), (2, .int a2)]) hx hb dX11_statute_148 rfl hl (by decide) rfl (fun ls hl => ?_)
              refine wk_X11_statute_149 hx hb hml hown hE hr hlocks ?_ fu (mu (mu (mu x_8 15 0 (x_8 13 0)) 16 0 (x_8 14 0)) 5 ((x_8 7 0).toNatClampNeg) a2) 0 _ _ _ hf hM hS (lv_sub hl [1, 0] rfl)
              intro x_13 H locs ls hf hM hS hl
              refine lv_aload_n hx hb dX11_statute_184 rfl (lv_at hl 0 rfl) ?_
              refine lv_dup hx hb dX11_statute_185 rfl ?_
              refine gm_7 hx hb hE hM hown w_4_107 dX11_statute_186 ?_
              refine lv_iconst (v := 1) hx hb dX11_statute_189 (by decide) ?_
              refine lv_iadd hx hb dX11_statute_190 ?_
              refine pm_7 hx hb hE hM hS hown w_4_107 dX11_statute_191 (fun H locs hM hS => ?_)
              refine lv_aload_n hx hb dX11_statute_194 rfl (lv_at hl 0 rfl) ?_
              refine gm_7 hx hb hE hM hown w_4_107 dX11_statute_195 ?_
              refine lv_iconst (v := 1) hx hb dX11_statute_198 (by decide) ?_
              refine lv_isub hx hb dX11_statute_199 ?_
              exact rt_iM hx hb hr hf hM hS dX11_statute_200 hlocks
            · replace hf := i_f hf hc_14
              refine lv_iconst (v := (-1)) hx hb dX11_statute_135 (by decide) ?_
              exact rt_iM hx hb hr hf hM hS dX11_statute_136 hlocks
          · replace hf := i_t hf hc_15
            refine lv_bipush (v := (-2)) hx hb dX11_statute_36 (by decide) ?_
            exact rt_iM hx hb hr hf hM hS dX11_statute_38 hlocks
theorem k_X11_statute {p : Program} {l : Launch} {e : Env} {R : Room} {s : State} {m : MethodId} {args : Array Value} {below : List Frame} {meth : Method} {c : Code} {H : Heap} {locs : List Loc} {cells slots : Nat} {Q : State → Prop} {cc : ByteArray} {pc nL : Nat} {ls : Array Slot} {rest : List Value} {G : GG} {fu nw : Nat} {x x' mo : Me} {own : String} {index : Nat} {a1 : Int32} {a2 : Int32} {r : Int32} (hx : p.tables.exec = Jvm.exec) (hb : c.code = cc) (hml : c.maxLocals = nL) (hown : s.vm.findClass own = some m.cls) (hE : EnvP G s) (hM : MemP G nw mo x H) (hS : va_S (gA G) s.heap H locs) (hw : Cond.methodLink own index yX11_statute ∈ lw_tbl) (hf : f_X11_statute fu x a1 a2 = some (x', r)) (h1 : 7 + 1 ≤ R.frames) (h2 : 8 + (4 + 11) + 152 ≤ R.locals) (hsz : ls.size = nL) (hW : (rest.map fun v => v.category).sum ≤ 8) (hcs : cells ≤ R.cells ∧ slots ≤ R.slots) (hdg : decode cc pc = .ok (.invokevirtual index, 3)) (kk : ∀ (H1 : Heap) (locs1 : List Loc), MemP G nw mo x' H1 → va_S (gA G) s.heap H1 locs1 → W p l e R s m args below meth c H1 locs1 cells slots Q (F0 m (pc + 3) ls (.int r :: rest))) : W p l e R s m args below meth c H locs cells slots Q (F0 m pc ls (.int a2 :: .int a1 :: .ref (ga G 41) :: rest)) := mm_ki hS (mm_runV (n := 2) (o := 41) (C := RX11) (T := TX11) (N := 54) (ci := 11) (As := [.int a1, .int a2]) hx hb hml hown hE hM hS (c_X11_statute l fu nw G x x' mo a1 a2 _ hf) (List.forall_mem_cons.mpr ⟨⟨hw, rfl⟩, List.forall_mem_cons.mpr ⟨⟨w_5_28, rfl⟩, List.forall_mem_cons.mpr ⟨⟨w_5_29, rfl⟩, List.forall_mem_cons.mpr ⟨⟨w_1_11, rfl⟩, List.forall_mem_cons.mpr ⟨⟨w_5_30, rfl⟩, fun _ h => absurd h List.not_mem_nil⟩⟩⟩⟩⟩) rfl rfl ⟨rfl, by decide, by decide, by decide +kernel⟩ ⟨h1, h2⟩ rfl rfl rfl hsz rfl hW hdg hcs) kk
def f_X11_fault (fu : Nat) (x : Me) (a1 : Int32) : Option (Me × Int32) := if a1 = 0 then some ((mu x 0 0 0), x 15 0) else if a1 = 1 then some ((mu x 0 0 0), x 16 0) else some ((mu x 0 0 0), (-1))
def rm_X11_fault : Room := { frames := 0, cells := 0, slots := 0, locals := 0 }
set_option maxHeartbeats 4000000 in
set_option maxRecDepth 100000 in
theorem c_X11_fault (l : Launch) (fu nw : Nat) (G : GG) (x x' mo : Me) (a1 : Int32) (r : Int32) (hf : f_X11_fault fu x a1 = some (x', r)) : Met l yX11_fault [.code yX11_fault cX11_fault 2 (some .int)] rm_X11_fault (va_Pc [.ref (ga G 41), .int a1] (Pre G nw mo x)) (PI G nw mo x' r) 0 0 (gA G) := by
  refine mt_ofW (cc := cX11_fault) (maxL := 2) (ret := (some .int)) (by decide +kernel) rfl ?_
  intro p e s m args below meth c s₁ B hml hv
  obtain ⟨rfl, hE, hM⟩ := hv
  have hx := B.exec
  have hb := B.bytes
  have hr := B.returns
  have hown : s.vm.findClass RX11 = some m.cls := findClass_of_methodNamed B.named
  have hlocks := B.notSynchronized
  have hS : va_S (gA G) s.heap s.heap [] := va_S.rf
  have hl := lv_entry ([.ref (ga G 41), .int a1]) (n := 2) (Nat.le_of_ble_eq_true rfl)
  rw [lg_entry_eq]
  generalize (lg_sl ([.ref (ga G 41), .int a1]) ++ List.replicate (2 - (lg_sl ([.ref (ga G 41), .int a1])).length) Slot.unset).toArray = ls at hl ⊢
  have hl : lv_has ls 2 [(0, .ref (ga G 41)), (1, .int a1)] := hl
  generalize ([.ref (ga G 41), .int a1] : List Value).toArray = args
  unfold f_X11_fault at hf
  refine lv_aload_n hx hb dX11_fault_0 rfl (lv_at hl 0 rfl) ?_
  refine lv_iconst (v := 0) hx hb dX11_fault_1 (by decide) ?_
  refine pm_0 hx hb hE hM hS hown w_4_100 dX11_fault_2 (fun H locs hM hS => ?_)
  refine lv_iload_n hx hb dX11_fault_5 rfl (lv_at hl 1 rfl) ?_
  refine lv_if_ne (tgt := 16) hx hb dX11_fault_6 (by decide) (fun hc_2 => ?_) (fun hc_2 => ?_)
  · replace hf := i_f hf hc_2
    refine lv_iload_n hx hb dX11_fault_16 rfl (lv_at hl 1 rfl) ?_
    refine lv_iconst (v := 1) hx hb dX11_fault_17 (by decide) ?_
    refine lv_icmp_ne (tgt := 28) hx hb dX11_fault_18 (by decide) (fun hc_1 => ?_) (fun hc_1 => ?_)
    · replace hf := i_f hf hc_1
      refine lv_iconst (v := (-1)) hx hb dX11_fault_28 (by decide) ?_
      exact rt_iM hx hb hr hf hM hS dX11_fault_29 hlocks
    · replace hf := i_t hf hc_1
      refine lv_aload_n hx hb dX11_fault_21 rfl (lv_at hl 0 rfl) ?_
      refine gm_16 hx hb hE hM hown w_4_116 dX11_fault_22 ?_
      refine lv_goto (tgt := 29) hx hb dX11_fault_25 (by decide) ?_
      exact rt_iM hx hb hr hf hM hS dX11_fault_29 hlocks
  · replace hf := i_t hf hc_2
    refine lv_aload_n hx hb dX11_fault_9 rfl (lv_at hl 0 rfl) ?_
    refine gm_15 hx hb hE hM hown w_4_115 dX11_fault_10 ?_
    refine lv_goto (tgt := 29) hx hb dX11_fault_13 (by decide) ?_
    exact rt_iM hx hb hr hf hM hS dX11_fault_29 hlocks
theorem k_X11_fault {p : Program} {l : Launch} {e : Env} {R : Room} {s : State} {m : MethodId} {args : Array Value} {below : List Frame} {meth : Method} {c : Code} {H : Heap} {locs : List Loc} {cells slots : Nat} {Q : State → Prop} {cc : ByteArray} {pc nL : Nat} {ls : Array Slot} {rest : List Value} {G : GG} {fu nw : Nat} {x x' mo : Me} {own : String} {index : Nat} {a1 : Int32} {r : Int32} (hx : p.tables.exec = Jvm.exec) (hb : c.code = cc) (hml : c.maxLocals = nL) (hown : s.vm.findClass own = some m.cls) (hE : EnvP G s) (hM : MemP G nw mo x H) (hS : va_S (gA G) s.heap H locs) (hw : Cond.methodLink own index yX11_fault ∈ lw_tbl) (hf : f_X11_fault fu x a1 = some (x', r)) (h1 : 0 + 1 ≤ R.frames) (h2 : 8 + (2 + 11) + 0 ≤ R.locals) (hsz : ls.size = nL) (hW : (rest.map fun v => v.category).sum ≤ 8) (hcs : cells ≤ R.cells ∧ slots ≤ R.slots) (hdg : decode cc pc = .ok (.invokevirtual index, 3)) (kk : ∀ (H1 : Heap) (locs1 : List Loc), MemP G nw mo x' H1 → va_S (gA G) s.heap H1 locs1 → W p l e R s m args below meth c H1 locs1 cells slots Q (F0 m (pc + 3) ls (.int r :: rest))) : W p l e R s m args below meth c H locs cells slots Q (F0 m pc ls (.int a1 :: .ref (ga G 41) :: rest)) := mm_ki hS (mm_runV (n := 1) (o := 41) (C := RX11) (T := TX11) (N := 54) (ci := 11) (As := [.int a1]) hx hb hml hown hE hM hS (c_X11_fault l fu nw G x x' mo a1 _ hf) (List.forall_mem_cons.mpr ⟨⟨hw, rfl⟩, List.forall_mem_cons.mpr ⟨⟨w_5_64, rfl⟩, List.forall_mem_cons.mpr ⟨⟨w_5_65, rfl⟩, List.forall_mem_cons.mpr ⟨⟨w_1_11, rfl⟩, List.forall_mem_cons.mpr ⟨⟨w_5_66, rfl⟩, fun _ h => absurd h List.not_mem_nil⟩⟩⟩⟩⟩) rfl rfl ⟨rfl, by decide, by decide, by decide +kernel⟩ ⟨h1, h2⟩ rfl rfl rfl hsz rfl hW hdg hcs) kk
def f_X11_lawOf_35 (fu : Nat) (b1 : Int32) (b2 : Int32) (k : Me → Int32 → Option (Me × Int32)) : Nat → Me → Int32 → Int32 → Int32 → Option (Me × Int32)
  | 0 => fun _ _ _ _ => none
  | n + 1 => fun x a3 a4 a5 => if (x 7 0) ≤ a5 then k x a3 else if inb a5 10 = true then if b2 < (x 5 a5.toNatClampNeg) then f_X11_lawOf_35 fu b1 b2 k n x a3 a4 (a5 + 1) else if (x 5 a5.toNatClampNeg) < a4 then f_X11_lawOf_35 fu b1 b2 k n x a3 a4 (a5 + 1) else if inb ((7 * a5) + b1) 77 = true then if (x 6 (((7 * a5) + b1).toNatClampNeg)) = (-1) then f_X11_lawOf_35 fu b1 b2 k n x a3 a4 (a5 + 1) else f_X11_lawOf_35 fu b1 b2 k n x (x 6 (((7 * a5) + b1).toNatClampNeg)) (x 5 a5.toNatClampNeg) (a5 + 1) else none else none
def f_X11_lawOf (fu : Nat) (x : Me) (a1 : Int32) (a2 : Int32) : Option (Me × Int32) := jn (fun (x_1 : Me) (s_1 : Int32) => f_X11_lawOf_35 fu a1 a2 (fun (x_8 : Me) (a3_8 : Int32) => some (x_8, a3_8)) fu x_1 s_1 (-1) 0) (fun j_1 => if a1 = 0 then j_1 x 3 else if a1 = 1 then j_1 x 1 else if a1 = 2 then j_1 x 9 else j_1 x 0)
def rm_X11_lawOf : Room := { frames := 0, cells := 0, slots := 0, locals := 0 }
set_option maxHeartbeats 4000000 in
set_option maxRecDepth 100000 in
theorem wk_X11_lawOf_35 {p : Program} {l : Launch} {e : Env} {s : State} {m : MethodId} {args : Array Value} {below : List Frame} {meth : Method} {c : Code} {fu nw : Nat} {G : GG} {mo : Me} {b1 : Int32} {b2 : Int32} (hx : p.tables.exec = Jvm.exec) (hb : c.code = cX11_lawOf) (hml : c.maxLocals = 6) (hown : s.vm.findClass RX11 = some m.cls) (hE : EnvP G s) (hr : meth.sig.returnType = (some .int)) (hlocks : meth.locks = false) {x' : Me} {r : Int32} {k : Me → Int32 → Option (Me × Int32)} (hk : ∀ (x : Me) (a3 : Int32) (H : Heap) (locs : List Loc) (ls : Array Slot), k x a3 = some (x', r) → MemP G nw mo x H → va_S (gA G) s.heap H locs → lv_has ls 6 [(3, .int a3)] → W p l e rm_X11_lawOf s m args below meth c H locs 0 0 (MQ below (PI G nw mo x' r) args s 0 0 (gA G)) (F0 m 114 ls [])) : ∀ (n : Nat) (x : Me) (a3 : Int32) (a4 : Int32) (a5 : Int32) (H : Heap) (locs : List Loc) (ls : Array Slot), f_X11_lawOf_35 fu b1 b2 k n x a3 a4 a5 = some (x', r) → MemP G nw mo x H → va_S (gA G) s.heap H locs → lv_has ls 6 [(0, .ref (ga G 41)), (1, .int b1), (2, .int b2), (3, .int a3), (4, .int a4), (5, .int a5)] → W p l e rm_X11_lawOf s m args below meth c H locs 0 0 (MQ below (PI G nw mo x' r) args s 0 0 (gA G)) (F0 m 35 ls []) := by
  intro n
  induction n with
  | zero =>
    intro x a3 a4 a5 H locs ls hf hM hS hl
    exact nn hf
  | succ n ih =>
    intro x a3 a4 a5 H locs ls hf hM hS hl
    rw [f_X11_lawOf_35] at hf
    refine lv_iload hx hb dX11_lawOf_35 (lv_at hl 5 rfl) ?_
    refine lv_aload_n hx hb dX11_lawOf_37 rfl (lv_at hl 0 rfl) ?_
    refine gm_7 hx hb hE hM hown w_4_107 dX11_lawOf_38 ?_
    refine lv_icmp_ge (tgt := 114) hx hb dX11_lawOf_41 (by decide) (fun hc_7 => ?_) (fun hc_7 => ?_)
    · replace hf := i_t hf hc_7
      exact hk x a3 _ _ _ hf hM hS (lv_sub hl [3] rfl)
    · replace hf := i_f hf hc_7
      refine lv_aload_n hx hb dX11_lawOf_44 rfl (lv_at hl 0 rfl) ?_
      refine gr_43 hx hb hE hM hown w_4_105 dX11_lawOf_45 ?_
      refine lv_iload hx hb dX11_lawOf_48 (lv_at hl 5 rfl) ?_
      obtain ⟨hi_2, hf⟩ := i_n hf
      refine la_43 hx hb hE hM hi_2 dX11_lawOf_50 ?_
      refine lv_iload_n hx hb dX11_lawOf_51 rfl (lv_at hl 2 rfl) ?_
      refine lv_icmp_gt (tgt := 108) hx hb dX11_lawOf_52 (by decide) (fun hc_6 => ?_) (fun hc_6 => ?_)
      · replace hf := i_t hf hc_6
        refine lv_iinc (v := a5 + 1) (lv' := [(5, .int (a5 + 1)), (0, .ref (ga G 41)), (1, .int b1), (2, .int b2), (3, .int a3), (4, .int a4)]) hx hb dX11_lawOf_108 hl (k := 5) rfl rfl (by decide) rfl (fun ls hl => ?_)
        refine lv_goto (tgt := 35) hx hb dX11_lawOf_111 (by decide) ?_
        exact ih x a3 a4 (a5 + 1) _ _ _ hf hM hS (lv_sub hl [1, 2, 3, 4, 5, 0] rfl)
      · replace hf := i_f hf hc_6
        refine lv_aload_n hx hb dX11_lawOf_55 rfl (lv_at hl 0 rfl) ?_
        refine gr_43 hx hb hE hM hown w_4_105 dX11_lawOf_56 ?_
        refine lv_iload hx hb dX11_lawOf_59 (lv_at hl 5 rfl) ?_
        refine la_43 hx hb hE hM hi_2 dX11_lawOf_61 ?_
        refine lv_iload hx hb dX11_lawOf_62 (lv_at hl 4 rfl) ?_
        refine lv_icmp_lt (tgt := 108) hx hb dX11_lawOf_64 (by decide) (fun hc_5 => ?_) (fun hc_5 => ?_)
        · replace hf := i_t hf hc_5
          refine lv_iinc (v := a5 + 1) (lv' := [(5, .int (a5 + 1)), (0, .ref (ga G 41)), (1, .int b1), (2, .int b2), (3, .int a3), (4, .int a4)]) hx hb dX11_lawOf_108 hl (k := 5) rfl rfl (by decide) rfl (fun ls hl => ?_)
          refine lv_goto (tgt := 35) hx hb dX11_lawOf_111 (by decide) ?_
          exact ih x a3 a4 (a5 + 1) _ _ _ hf hM hS (lv_sub hl [1, 2, 3, 4, 5, 0] rfl)
        · replace hf := i_f hf hc_5
          refine lv_aload_n hx hb dX11_lawOf_67 rfl (lv_at hl 0 rfl) ?_
          refine gr_44 hx hb hE hM hown w_4_106 dX11_lawOf_68 ?_
          refine lv_bipush (v := 7) hx hb dX11_lawOf_71 (by decide) ?_
          refine lv_iload hx hb dX11_lawOf_73 (lv_at hl 5 rfl) ?_
          refine lv_imul hx hb dX11_lawOf_75 ?_
          refine lv_iload_n hx hb dX11_lawOf_76 rfl (lv_at hl 1 rfl) ?_
          refine lv_iadd hx hb dX11_lawOf_77 ?_
          obtain ⟨hi_3, hf⟩ := i_n hf
          refine la_44 hx hb hE hM hi_3 dX11_lawOf_78 ?_
          refine lv_iconst (v := (-1)) hx hb dX11_lawOf_79 (by decide) ?_
          refine lv_icmp_ne (tgt := 86) hx hb dX11_lawOf_80 (by decide) (fun hc_4 => ?_) (fun hc_4 => ?_)
          · replace hf := i_f hf hc_4
            refine lv_aload_n hx hb dX11_lawOf_86 rfl (lv_at hl 0 rfl) ?_
            refine gr_43 hx hb hE hM hown w_4_105 dX11_lawOf_87 ?_
            refine lv_iload hx hb dX11_lawOf_90 (lv_at hl 5 rfl) ?_
            refine la_43 hx hb hE hM hi_2 dX11_lawOf_92 ?_
            refine lv_istore (lv' := [(4, .int (x 5 a5.toNatClampNeg)), (0, .ref (ga G 41)), (1, .int b1), (2, .int b2), (3, .int a3), (5, .int a5)]) hx hb dX11_lawOf_93 hl (by decide) rfl (fun ls hl => ?_)
            refine lv_aload_n hx hb dX11_lawOf_95 rfl (lv_at hl 1 rfl) ?_
            refine gr_44 hx hb hE hM hown w_4_106 dX11_lawOf_96 ?_
            refine lv_bipush (v := 7) hx hb dX11_lawOf_99 (by decide) ?_
            refine lv_iload hx hb dX11_lawOf_101 (lv_at hl 5 rfl) ?_
            refine lv_imul hx hb dX11_lawOf_103 ?_
            refine lv_iload_n hx hb dX11_lawOf_104 rfl (lv_at hl 2 rfl) ?_
            refine lv_iadd hx hb dX11_lawOf_105 ?_
            refine la_44 hx hb hE hM hi_3 dX11_lawOf_106 ?_
            refine lv_istore_n (lv' := [(3, .int (x 6 (((7 * a5) + b1).toNatClampNeg))), (4, .int (x 5 a5.toNatClampNeg)), (0, .ref (ga G 41)), (1, .int b1), (2, .int b2), (5, .int a5)]) hx hb dX11_lawOf_107 rfl hl (by decide) rfl (fun ls hl => ?_)
            refine lv_iinc (v := a5 + 1) (lv' := [(5, .int (a5 + 1)), (3, .int (x 6 (((7 * a5) + b1).toNatClampNeg))), (4, .int (x 5 a5.toNatClampNeg)), (0, .ref (ga G 41)), (1, .int b1), (2, .int b2)]) hx hb dX11_lawOf_108 hl (k := 5) rfl rfl (by decide) rfl (fun ls hl => ?_)
            refine lv_goto (tgt := 35) hx hb dX11_lawOf_111 (by decide) ?_
            exact ih x (x 6 (((7 * a5) + b1).toNatClampNeg)) (x 5 a5.toNatClampNeg) (a5 + 1) _ _ _ hf hM hS (lv_sub hl [3, 4, 5, 1, 2, 0] rfl)
          · replace hf := i_t hf hc_4
            refine lv_goto (tgt := 108) hx hb dX11_lawOf_83 (by decide) ?_
            refine lv_iinc (v := a5 + 1) (lv' := [(5, .int (a5 + 1)), (0, .ref (ga G 41)), (1, .int b1), (2, .int b2), (3, .int a3), (4, .int a4)]) hx hb dX11_lawOf_108 hl (k := 5) rfl rfl (by decide) rfl (fun ls hl => ?_)
            refine lv_goto (tgt := 35) hx hb dX11_lawOf_111 (by decide) ?_
            exact ih x a3 a4 (a5 + 1) _ _ _ hf hM hS (lv_sub hl [1, 2, 3, 4, 5, 0] rfl)
set_option maxHeartbeats 4000000 in
set_option maxRecDepth 100000 in
theorem c_X11_lawOf (l : Launch) (fu nw : Nat) (G : GG) (x x' mo : Me) (a1 : Int32) (a2 : Int32) (r : Int32) (hf : f_X11_lawOf fu x a1 a2 = some (x', r)) : Met l yX11_lawOf [.code yX11_lawOf cX11_lawOf 6 (some .int)] rm_X11_lawOf (va_Pc [.ref (ga G 41), .int a1, .int a2] (Pre G nw mo x)) (PI G nw mo x' r) 0 0 (gA G) := by
  refine mt_ofW (cc := cX11_lawOf) (maxL := 6) (ret := (some .int)) (by decide +kernel) rfl ?_
  intro p e s m args below meth c s₁ B hml hv
  obtain ⟨rfl, hE, hM⟩ := hv
  have hx := B.exec
  have hb := B.bytes
  have hr := B.returns
  have hown : s.vm.findClass RX11 = some m.cls := findClass_of_methodNamed B.named
  have hlocks := B.notSynchronized
  have hS : va_S (gA G) s.heap s.heap [] := va_S.rf
  have hl := lv_entry ([.ref (ga G 41), .int a1, .int a2]) (n := 6) (Nat.le_of_ble_eq_true rfl)
  rw [lg_entry_eq]
  generalize (lg_sl ([.ref (ga G 41), .int a1, .int a2]) ++ List.replicate (6 - (lg_sl ([.ref (ga G 41), .int a1, .int a2])).length) Slot.unset).toArray = ls at hl ⊢
  have hl : lv_has ls 6 [(0, .ref (ga G 41)), (1, .int a1), (2, .int a2)] := hl
  generalize ([.ref (ga G 41), .int a1, .int a2] : List Value).toArray = args
  unfold f_X11_lawOf at hf
  refine lv_iload_n hx hb dX11_lawOf_0 rfl (lv_at hl 1 rfl) ?_
  have hj_1 : ∀ (x_1 : Me) (s_1 : Int32) (H : Heap) (locs : List Loc) (ls : Array Slot), jnA hf x_1 s_1 = some (x', r) → MemP G nw mo x_1 H → va_S (gA G) s.heap H locs → lv_has ls 6 [(0, .ref (ga G 41)), (1, .int a1), (2, .int a2)] → W p l e rm_X11_lawOf s m args below meth c H locs 0 0 (MQ below (PI G nw mo x' r) args s 0 0 (gA G)) (F0 m 28 ls [.int s_1]) := by
    intro x_1 s_1 H locs ls hf hM hS hl
    refine lv_istore_n (lv' := [(3, .int s_1), (0, .ref (ga G 41)), (1, .int a1), (2, .int a2)]) hx hb dX11_lawOf_28 rfl hl (by decide) rfl (fun ls hl => ?_)
    refine lv_iconst (v := (-1)) hx hb dX11_lawOf_29 (by decide) ?_
    refine lv_istore (lv' := [(4, .int (-1)), (3, .int s_1), (0, .ref (ga G 41)), (1, .int a1), (2, .int a2)]) hx hb dX11_lawOf_30 hl (by decide) rfl (fun ls hl => ?_)
    refine lv_iconst (v := 0) hx hb dX11_lawOf_32 (by decide) ?_
    refine lv_istore (lv' := [(5, .int 0), (4, .int (-1)), (3, .int s_1), (0, .ref (ga G 41)), (1, .int a1), (2, .int a2)]) hx hb dX11_lawOf_33 hl (by decide) rfl (fun ls hl => ?_)
    refine wk_X11_lawOf_35 hx hb hml hown hE hr hlocks ?_ fu x_1 s_1 (-1) 0 _ _ _ hf hM hS (lv_sub hl [3, 4, 5, 2, 1, 0] rfl)
    intro x_8 a3_8 H locs ls hf hM hS hl
    refine lv_iload_n hx hb dX11_lawOf_114 rfl (lv_at hl 0 rfl) ?_
    exact rt_iM hx hb hr hf hM hS dX11_lawOf_115 hlocks
  replace hf := jn_use hf
  refine lv_if_ne (tgt := 8) hx hb dX11_lawOf_1 (by decide) (fun hc_11 => ?_) (fun hc_11 => ?_)
  · replace hf := i_f hf hc_11
    refine lv_iload_n hx hb dX11_lawOf_8 rfl (lv_at hl 1 rfl) ?_
    refine lv_iconst (v := 1) hx hb dX11_lawOf_9 (by decide) ?_
    refine lv_icmp_ne (tgt := 17) hx hb dX11_lawOf_10 (by decide) (fun hc_10 => ?_) (fun hc_10 => ?_)
    · replace hf := i_f hf hc_10
      refine lv_iload_n hx hb dX11_lawOf_17 rfl (lv_at hl 1 rfl) ?_
      refine lv_iconst (v := 2) hx hb dX11_lawOf_18 (by decide) ?_
      refine lv_icmp_ne (tgt := 27) hx hb dX11_lawOf_19 (by decide) (fun hc_9 => ?_) (fun hc_9 => ?_)
      · replace hf := i_f hf hc_9
        refine lv_iconst (v := 0) hx hb dX11_lawOf_27 (by decide) ?_
        exact hj_1 x 0 _ _ _ hf hM hS (lv_sub hl [0, 1, 2] rfl)
      · replace hf := i_t hf hc_9
        refine lv_bipush (v := 9) hx hb dX11_lawOf_22 (by decide) ?_
        refine lv_goto (tgt := 28) hx hb dX11_lawOf_24 (by decide) ?_
        exact hj_1 x 9 _ _ _ hf hM hS (lv_sub hl [0, 1, 2] rfl)
    · replace hf := i_t hf hc_10
      refine lv_iconst (v := 1) hx hb dX11_lawOf_13 (by decide) ?_
      refine lv_goto (tgt := 28) hx hb dX11_lawOf_14 (by decide) ?_
      exact hj_1 x 1 _ _ _ hf hM hS (lv_sub hl [0, 1, 2] rfl)
  · replace hf := i_t hf hc_11
    refine lv_iconst (v := 3) hx hb dX11_lawOf_4 (by decide) ?_
    refine lv_goto (tgt := 28) hx hb dX11_lawOf_5 (by decide) ?_
    exact hj_1 x 3 _ _ _ hf hM hS (lv_sub hl [0, 1, 2] rfl)
theorem k_X11_lawOf {p : Program} {l : Launch} {e : Env} {R : Room} {s : State} {m : MethodId} {args : Array Value} {below : List Frame} {meth : Method} {c : Code} {H : Heap} {locs : List Loc} {cells slots : Nat} {Q : State → Prop} {cc : ByteArray} {pc nL : Nat} {ls : Array Slot} {rest : List Value} {G : GG} {fu nw : Nat} {x x' mo : Me} {own : String} {index : Nat} {a1 : Int32} {a2 : Int32} {r : Int32} (hx : p.tables.exec = Jvm.exec) (hb : c.code = cc) (hml : c.maxLocals = nL) (hown : s.vm.findClass own = some m.cls) (hE : EnvP G s) (hM : MemP G nw mo x H) (hS : va_S (gA G) s.heap H locs) (hw : Cond.methodLink own index yX11_lawOf ∈ lw_tbl) (hf : f_X11_lawOf fu x a1 a2 = some (x', r)) (h1 : 0 + 1 ≤ R.frames) (h2 : 8 + (6 + 11) + 0 ≤ R.locals) (hsz : ls.size = nL) (hW : (rest.map fun v => v.category).sum ≤ 8) (hcs : cells ≤ R.cells ∧ slots ≤ R.slots) (hdg : decode cc pc = .ok (.invokevirtual index, 3)) (kk : ∀ (H1 : Heap) (locs1 : List Loc), MemP G nw mo x' H1 → va_S (gA G) s.heap H1 locs1 → W p l e R s m args below meth c H1 locs1 cells slots Q (F0 m (pc + 3) ls (.int r :: rest))) : W p l e R s m args below meth c H locs cells slots Q (F0 m pc ls (.int a2 :: .int a1 :: .ref (ga G 41) :: rest)) := mm_ki hS (mm_runV (n := 2) (o := 41) (C := RX11) (T := TX11) (N := 54) (ci := 11) (As := [.int a1, .int a2]) hx hb hml hown hE hM hS (c_X11_lawOf l fu nw G x x' mo a1 a2 _ hf) (List.forall_mem_cons.mpr ⟨⟨hw, rfl⟩, List.forall_mem_cons.mpr ⟨⟨w_5_73, rfl⟩, List.forall_mem_cons.mpr ⟨⟨w_0_34, rfl⟩, List.forall_mem_cons.mpr ⟨⟨w_1_11, rfl⟩, List.forall_mem_cons.mpr ⟨⟨w_5_74, rfl⟩, fun _ h => absurd h List.not_mem_nil⟩⟩⟩⟩⟩) rfl rfl ⟨rfl, by decide, by decide, by decide +kernel⟩ ⟨h1, h2⟩ rfl rfl rfl hsz rfl hW hdg hcs) kk
def f_X11_law (fu : Nat) (x : Me) (a1 : Int32) (a2 : Int32) : Option (Me × Int32) := if a1 < 0 then some ((mu x 0 0 0), (-1)) else if 6 < a1 then some ((mu x 0 0 0), (-1)) else if a2 < 0 then some ((mu x 0 0 0), (-1)) else if a2 ≤ 99 then ob (f_X11_lawOf fu (mu x 0 0 0) a1 a2) (fun x_1 r_1 => some (x_1, r_1)) else some ((mu x 0 0 0), (-1))
def rm_X11_law : Room := { frames := 1, cells := 0, slots := 0, locals := 25 }
set_option maxHeartbeats 4000000 in
set_option maxRecDepth 100000 in
theorem c_X11_law (l : Launch) (fu nw : Nat) (G : GG) (x x' mo : Me) (a1 : Int32) (a2 : Int32) (r : Int32) (hf : f_X11_law fu x a1 a2 = some (x', r)) : Met l yX11_law [.code yX11_law cX11_law 3 (some .int)] rm_X11_law (va_Pc [.ref (ga G 41), .int a1, .int a2] (Pre G nw mo x)) (PI G nw mo x' r) 0 0 (gA G) := by
  refine mt_ofW (cc := cX11_law) (maxL := 3) (ret := (some .int)) (by decide +kernel) rfl ?_
  intro p e s m args below meth c s₁ B hml hv
  obtain ⟨rfl, hE, hM⟩ := hv
  have hx := B.exec
  have hb := B.bytes
  have hr := B.returns
  have hown : s.vm.findClass RX11 = some m.cls := findClass_of_methodNamed B.named
  have hlocks := B.notSynchronized
  have hS : va_S (gA G) s.heap s.heap [] := va_S.rf
  have hl := lv_entry ([.ref (ga G 41), .int a1, .int a2]) (n := 3) (Nat.le_of_ble_eq_true rfl)
  rw [lg_entry_eq]
  generalize (lg_sl ([.ref (ga G 41), .int a1, .int a2]) ++ List.replicate (3 - (lg_sl ([.ref (ga G 41), .int a1, .int a2])).length) Slot.unset).toArray = ls at hl ⊢
  have hl : lv_has ls 3 [(0, .ref (ga G 41)), (1, .int a1), (2, .int a2)] := hl
  generalize ([.ref (ga G 41), .int a1, .int a2] : List Value).toArray = args
  unfold f_X11_law at hf
  refine lv_aload_n hx hb dX11_law_0 rfl (lv_at hl 0 rfl) ?_
  refine lv_iconst (v := 0) hx hb dX11_law_1 (by decide) ?_
  refine pm_0 hx hb hE hM hS hown w_4_100 dX11_law_2 (fun H locs hM hS => ?_)
  refine lv_iload_n hx hb dX11_law_5 rfl (lv_at hl 1 rfl) ?_
  refine lv_if_lt (tgt := 25) hx hb dX11_law_6 (by decide) (fun hc_5 => ?_) (fun hc_5 => ?_)
  · replace hf := i_t hf hc_5
    refine lv_iconst (v := (-1)) hx hb dX11_law_25 (by decide) ?_
    refine lv_goto (tgt := 35) hx hb dX11_law_26 (by decide) ?_
    exact rt_iM hx hb hr hf hM hS dX11_law_35 hlocks
  · replace hf := i_f hf hc_5
    refine lv_iload_n hx hb dX11_law_9 rfl (lv_at hl 1 rfl) ?_
    refine lv_bipush (v := 6) hx hb dX11_law_10 (by decide) ?_
    refine lv_icmp_gt (tgt := 25) hx hb dX11_law_12 (by decide) (fun hc_4 => ?_) (fun hc_4 => ?_)
    · replace hf := i_t hf hc_4
      refine lv_iconst (v := (-1)) hx hb dX11_law_25 (by decide) ?_
      refine lv_goto (tgt := 35) hx hb dX11_law_26 (by decide) ?_
      exact rt_iM hx hb hr hf hM hS dX11_law_35 hlocks
    · replace hf := i_f hf hc_4
      refine lv_iload_n hx hb dX11_law_15 rfl (lv_at hl 2 rfl) ?_
      refine lv_if_lt (tgt := 25) hx hb dX11_law_16 (by decide) (fun hc_3 => ?_) (fun hc_3 => ?_)
      · replace hf := i_t hf hc_3
        refine lv_iconst (v := (-1)) hx hb dX11_law_25 (by decide) ?_
        refine lv_goto (tgt := 35) hx hb dX11_law_26 (by decide) ?_
        exact rt_iM hx hb hr hf hM hS dX11_law_35 hlocks
      · replace hf := i_f hf hc_3
        refine lv_iload_n hx hb dX11_law_19 rfl (lv_at hl 2 rfl) ?_
        refine lv_bipush (v := 99) hx hb dX11_law_20 (by decide) ?_
        refine lv_icmp_le (tgt := 29) hx hb dX11_law_22 (by decide) (fun hc_2 => ?_) (fun hc_2 => ?_)
        · replace hf := i_t hf hc_2
          refine lv_aload_n hx hb dX11_law_29 rfl (lv_at hl 0 rfl) ?_
          refine lv_iload_n hx hb dX11_law_30 rfl (lv_at hl 1 rfl) ?_
          refine lv_iload_n hx hb dX11_law_31 rfl (lv_at hl 2 rfl) ?_
          obtain ⟨x_1, r_1, hq_1, hf⟩ := ob_some hf
          refine k_X11_lawOf hx hb hml hown hE hM hS w_5_71 hq_1 (Nat.le_of_ble_eq_true rfl) (Nat.le_of_ble_eq_true rfl) hl.1 (Nat.le_of_ble_eq_true rfl) ⟨Nat.zero_le _, Nat.zero_le _⟩ dX11_law_32 (fun H locs hM hS => ?_)
          exact rt_iM hx hb hr hf hM hS dX11_law_35 hlocks
        · replace hf := i_f hf hc_2
          refine lv_iconst (v := (-1)) hx hb dX11_law_25 (by decide) ?_
          refine lv_goto (tgt := 35) hx hb dX11_law_26 (by decide) ?_
          exact rt_iM hx hb hr hf hM hS dX11_law_35 hlocks
theorem k_X11_law {p : Program} {l : Launch} {e : Env} {R : Room} {s : State} {m : MethodId} {args : Array Value} {below : List Frame} {meth : Method} {c : Code} {H : Heap} {locs : List Loc} {cells slots : Nat} {Q : State → Prop} {cc : ByteArray} {pc nL : Nat} {ls : Array Slot} {rest : List Value} {G : GG} {fu nw : Nat} {x x' mo : Me} {own : String} {index : Nat} {a1 : Int32} {a2 : Int32} {r : Int32} (hx : p.tables.exec = Jvm.exec) (hb : c.code = cc) (hml : c.maxLocals = nL) (hown : s.vm.findClass own = some m.cls) (hE : EnvP G s) (hM : MemP G nw mo x H) (hS : va_S (gA G) s.heap H locs) (hw : Cond.methodLink own index yX11_law ∈ lw_tbl) (hf : f_X11_law fu x a1 a2 = some (x', r)) (h1 : 1 + 1 ≤ R.frames) (h2 : 8 + (3 + 11) + 25 ≤ R.locals) (hsz : ls.size = nL) (hW : (rest.map fun v => v.category).sum ≤ 8) (hcs : cells ≤ R.cells ∧ slots ≤ R.slots) (hdg : decode cc pc = .ok (.invokevirtual index, 3)) (kk : ∀ (H1 : Heap) (locs1 : List Loc), MemP G nw mo x' H1 → va_S (gA G) s.heap H1 locs1 → W p l e R s m args below meth c H1 locs1 cells slots Q (F0 m (pc + 3) ls (.int r :: rest))) : W p l e R s m args below meth c H locs cells slots Q (F0 m pc ls (.int a2 :: .int a1 :: .ref (ga G 41) :: rest)) := mm_ki hS (mm_runV (n := 2) (o := 41) (C := RX11) (T := TX11) (N := 54) (ci := 11) (As := [.int a1, .int a2]) hx hb hml hown hE hM hS (c_X11_law l fu nw G x x' mo a1 a2 _ hf) (List.forall_mem_cons.mpr ⟨⟨hw, rfl⟩, List.forall_mem_cons.mpr ⟨⟨w_5_68, rfl⟩, List.forall_mem_cons.mpr ⟨⟨w_5_69, rfl⟩, List.forall_mem_cons.mpr ⟨⟨w_1_11, rfl⟩, List.forall_mem_cons.mpr ⟨⟨w_5_70, rfl⟩, fun _ h => absurd h List.not_mem_nil⟩⟩⟩⟩⟩) rfl rfl ⟨rfl, by decide, by decide, by decide +kernel⟩ ⟨h1, h2⟩ rfl rfl rfl hsz rfl hW hdg hcs) kk
def f_X11_isWard (fu : Nat) (x : Me) (a1 : Int32) : Option (Me × Int32) := if a1 < 0 then some (x, 0) else if (x 17 0) ≤ a1 then some (x, 0) else some (x, 1)
def rm_X11_isWard : Room := { frames := 0, cells := 0, slots := 0, locals := 0 }
set_option maxHeartbeats 4000000 in
set_option maxRecDepth 100000 in
theorem c_X11_isWard (l : Launch) (fu nw : Nat) (G : GG) (x x' mo : Me) (a1 : Int32) (r : Int32) (hf : f_X11_isWard fu x a1 = some (x', r)) : Met l yX11_isWard [.code yX11_isWard cX11_isWard 2 (some .boolean)] rm_X11_isWard (va_Pc [.ref (ga G 41), .int a1] (Pre G nw mo x)) (PI G nw mo x' r) 0 0 (gA G) := by
  refine mt_ofW (cc := cX11_isWard) (maxL := 2) (ret := (some .boolean)) (by decide +kernel) rfl ?_
  intro p e s m args below meth c s₁ B hml hv
  obtain ⟨rfl, hE, hM⟩ := hv
  have hx := B.exec
  have hb := B.bytes
  have hr := B.returns
  have hown : s.vm.findClass RX11 = some m.cls := findClass_of_methodNamed B.named
  have hlocks := B.notSynchronized
  have hS : va_S (gA G) s.heap s.heap [] := va_S.rf
  have hl := lv_entry ([.ref (ga G 41), .int a1]) (n := 2) (Nat.le_of_ble_eq_true rfl)
  rw [lg_entry_eq]
  generalize (lg_sl ([.ref (ga G 41), .int a1]) ++ List.replicate (2 - (lg_sl ([.ref (ga G 41), .int a1])).length) Slot.unset).toArray = ls at hl ⊢
  have hl : lv_has ls 2 [(0, .ref (ga G 41)), (1, .int a1)] := hl
  generalize ([.ref (ga G 41), .int a1] : List Value).toArray = args
  unfold f_X11_isWard at hf
  refine lv_iload_n hx hb dX11_isWard_0 rfl (lv_at hl 1 rfl) ?_
  refine lv_if_lt (tgt := 16) hx hb dX11_isWard_1 (by decide) (fun hc_2 => ?_) (fun hc_2 => ?_)
  · replace hf := i_t hf hc_2
    refine lv_iconst (v := 0) hx hb dX11_isWard_16 (by decide) ?_
    exact rt_zM hx hb hr rfl hf hM hS dX11_isWard_17 hlocks
  · replace hf := i_f hf hc_2
    refine lv_iload_n hx hb dX11_isWard_4 rfl (lv_at hl 1 rfl) ?_
    refine lv_aload_n hx hb dX11_isWard_5 rfl (lv_at hl 0 rfl) ?_
    refine gm_17 hx hb hE hM hown w_4_117 dX11_isWard_6 ?_
    refine lv_icmp_ge (tgt := 16) hx hb dX11_isWard_9 (by decide) (fun hc_1 => ?_) (fun hc_1 => ?_)
    · replace hf := i_t hf hc_1
      refine lv_iconst (v := 0) hx hb dX11_isWard_16 (by decide) ?_
      exact rt_zM hx hb hr rfl hf hM hS dX11_isWard_17 hlocks
    · replace hf := i_f hf hc_1
      refine lv_iconst (v := 1) hx hb dX11_isWard_12 (by decide) ?_
      refine lv_goto (tgt := 17) hx hb dX11_isWard_13 (by decide) ?_
      exact rt_zM hx hb hr rfl hf hM hS dX11_isWard_17 hlocks
theorem k_X11_isWard {p : Program} {l : Launch} {e : Env} {R : Room} {s : State} {m : MethodId} {args : Array Value} {below : List Frame} {meth : Method} {c : Code} {H : Heap} {locs : List Loc} {cells slots : Nat} {Q : State → Prop} {cc : ByteArray} {pc nL : Nat} {ls : Array Slot} {rest : List Value} {G : GG} {fu nw : Nat} {x x' mo : Me} {own : String} {index : Nat} {a1 : Int32} {r : Int32} (hx : p.tables.exec = Jvm.exec) (hb : c.code = cc) (hml : c.maxLocals = nL) (hown : s.vm.findClass own = some m.cls) (hE : EnvP G s) (hM : MemP G nw mo x H) (hS : va_S (gA G) s.heap H locs) (hw : Cond.methodLink own index yX11_isWard ∈ lw_tbl) (hf : f_X11_isWard fu x a1 = some (x', r)) (h1 : 0 + 1 ≤ R.frames) (h2 : 8 + (2 + 11) + 0 ≤ R.locals) (hsz : ls.size = nL) (hW : (rest.map fun v => v.category).sum ≤ 8) (hcs : cells ≤ R.cells ∧ slots ≤ R.slots) (hdg : decode cc pc = .ok (.invokevirtual index, 3)) (kk : ∀ (H1 : Heap) (locs1 : List Loc), MemP G nw mo x' H1 → va_S (gA G) s.heap H1 locs1 → W p l e R s m args below meth c H1 locs1 cells slots Q (F0 m (pc + 3) ls (.int r :: rest))) : W p l e R s m args below meth c H locs cells slots Q (F0 m pc ls (.int a1 :: .ref (ga G 41) :: rest)) := mm_ki hS (mm_runV (n := 1) (o := 41) (C := RX11) (T := TX11) (N := 54) (ci := 11) (As := [.int a1]) hx hb hml hown hE hM hS (c_X11_isWard l fu nw G x x' mo a1 _ hf) (List.forall_mem_cons.mpr ⟨⟨hw, rfl⟩, List.forall_mem_cons.mpr ⟨⟨w_5_136, rfl⟩, List.forall_mem_cons.mpr ⟨⟨w_0_41, rfl⟩, List.forall_mem_cons.mpr ⟨⟨w_1_11, rfl⟩, List.forall_mem_cons.mpr ⟨⟨w_5_137, rfl⟩, fun _ h => absurd h List.not_mem_nil⟩⟩⟩⟩⟩) rfl rfl ⟨rfl, by decide, by decide, by decide +kernel⟩ ⟨h1, h2⟩ rfl rfl rfl hsz rfl hW hdg hcs) kk
def f_X11_ward (fu : Nat) (x : Me) : Option (Me × Int32) := if (x 17 0) = 17 then some ((mu x 0 0 0), (-1)) else some ((mu (mu x 0 0 0) 17 0 ((x 17 0) + 1)), ((x 17 0) + 1) - 1)
def rm_X11_ward : Room := { frames := 0, cells := 0, slots := 0, locals := 0 }
set_option maxHeartbeats 4000000 in
set_option maxRecDepth 100000 in
theorem c_X11_ward (l : Launch) (fu nw : Nat) (G : GG) (x x' mo : Me) (r : Int32) (hf : f_X11_ward fu x = some (x', r)) : Met l yX11_ward [.code yX11_ward cX11_ward 1 (some .int)] rm_X11_ward (va_Pc [.ref (ga G 41)] (Pre G nw mo x)) (PI G nw mo x' r) 0 0 (gA G) := by
  refine mt_ofW (cc := cX11_ward) (maxL := 1) (ret := (some .int)) (by decide +kernel) rfl ?_
  intro p e s m args below meth c s₁ B hml hv
  obtain ⟨rfl, hE, hM⟩ := hv
  have hx := B.exec
  have hb := B.bytes
  have hr := B.returns
  have hown : s.vm.findClass RX11 = some m.cls := findClass_of_methodNamed B.named
  have hlocks := B.notSynchronized
  have hS : va_S (gA G) s.heap s.heap [] := va_S.rf
  have hl := lv_entry ([.ref (ga G 41)]) (n := 1) (Nat.le_of_ble_eq_true rfl)
  rw [lg_entry_eq]
  generalize (lg_sl ([.ref (ga G 41)]) ++ List.replicate (1 - (lg_sl ([.ref (ga G 41)])).length) Slot.unset).toArray = ls at hl ⊢
  have hl : lv_has ls 1 [(0, .ref (ga G 41))] := hl
  generalize ([.ref (ga G 41)] : List Value).toArray = args
  unfold f_X11_ward at hf
  refine lv_aload_n hx hb dX11_ward_0 rfl (lv_at hl 0 rfl) ?_
  refine lv_iconst (v := 0) hx hb dX11_ward_1 (by decide) ?_
  refine pm_0 hx hb hE hM hS hown w_4_100 dX11_ward_2 (fun H locs hM hS => ?_)
  refine lv_aload_n hx hb dX11_ward_5 rfl (lv_at hl 0 rfl) ?_
  refine gm_17 hx hb hE hM hown w_4_117 dX11_ward_6 ?_
  refine lv_bipush (v := 17) hx hb dX11_ward_9 (by decide) ?_
  refine lv_icmp_ne (tgt := 16) hx hb dX11_ward_11 (by decide) (fun hc_1 => ?_) (fun hc_1 => ?_)
  · replace hf := i_f hf hc_1
    refine lv_aload_n hx hb dX11_ward_16 rfl (lv_at hl 0 rfl) ?_
    refine lv_dup hx hb dX11_ward_17 rfl ?_
    refine gm_17 hx hb hE hM hown w_4_117 dX11_ward_18 ?_
    refine lv_iconst (v := 1) hx hb dX11_ward_21 (by decide) ?_
    refine lv_iadd hx hb dX11_ward_22 ?_
    refine pm_17 hx hb hE hM hS hown w_4_117 dX11_ward_23 (fun H locs hM hS => ?_)
    refine lv_aload_n hx hb dX11_ward_26 rfl (lv_at hl 0 rfl) ?_
    refine gm_17 hx hb hE hM hown w_4_117 dX11_ward_27 ?_
    refine lv_iconst (v := 1) hx hb dX11_ward_30 (by decide) ?_
    refine lv_isub hx hb dX11_ward_31 ?_
    exact rt_iM hx hb hr hf hM hS dX11_ward_32 hlocks
  · replace hf := i_t hf hc_1
    refine lv_iconst (v := (-1)) hx hb dX11_ward_14 (by decide) ?_
    exact rt_iM hx hb hr hf hM hS dX11_ward_15 hlocks
theorem k_X11_ward {p : Program} {l : Launch} {e : Env} {R : Room} {s : State} {m : MethodId} {args : Array Value} {below : List Frame} {meth : Method} {c : Code} {H : Heap} {locs : List Loc} {cells slots : Nat} {Q : State → Prop} {cc : ByteArray} {pc nL : Nat} {ls : Array Slot} {rest : List Value} {G : GG} {fu nw : Nat} {x x' mo : Me} {own : String} {index : Nat} {r : Int32} (hx : p.tables.exec = Jvm.exec) (hb : c.code = cc) (hml : c.maxLocals = nL) (hown : s.vm.findClass own = some m.cls) (hE : EnvP G s) (hM : MemP G nw mo x H) (hS : va_S (gA G) s.heap H locs) (hw : Cond.methodLink own index yX11_ward ∈ lw_tbl) (hf : f_X11_ward fu x = some (x', r)) (h1 : 0 + 1 ≤ R.frames) (h2 : 8 + (1 + 11) + 0 ≤ R.locals) (hsz : ls.size = nL) (hW : (rest.map fun v => v.category).sum ≤ 8) (hcs : cells ≤ R.cells ∧ slots ≤ R.slots) (hdg : decode cc pc = .ok (.invokevirtual index, 3)) (kk : ∀ (H1 : Heap) (locs1 : List Loc), MemP G nw mo x' H1 → va_S (gA G) s.heap H1 locs1 → W p l e R s m args below meth c H1 locs1 cells slots Q (F0 m (pc + 3) ls (.int r :: rest))) : W p l e R s m args below meth c H locs cells slots Q (F0 m pc ls (.ref (ga G 41) :: rest)) := mm_ki hS (mm_runV (n := 0) (o := 41) (C := RX11) (T := TX11) (N := 54) (ci := 11) (As := []) hx hb hml hown hE hM hS (c_X11_ward l fu nw G x x' mo _ hf) (List.forall_mem_cons.mpr ⟨⟨hw, rfl⟩, List.forall_mem_cons.mpr ⟨⟨w_5_76, rfl⟩, List.forall_mem_cons.mpr ⟨⟨w_5_77, rfl⟩, List.forall_mem_cons.mpr ⟨⟨w_1_11, rfl⟩, List.forall_mem_cons.mpr ⟨⟨w_5_78, rfl⟩, fun _ h => absurd h List.not_mem_nil⟩⟩⟩⟩⟩) rfl rfl ⟨rfl, by decide, by decide, by decide +kernel⟩ ⟨h1, h2⟩ rfl rfl rfl hsz rfl hW hdg hcs) kk
def f_X11_horse (fu : Nat) (x : Me) (a1 : Int32) : Option (Me × Int32) := if a1 < 0 then some ((mu x 0 0 0), (-1)) else if 999 < a1 then some ((mu x 0 0 0), (-1)) else if (x 26 0) = 16 then some ((mu x 0 0 0), (-1)) else if inb (x 26 0) 16 = true then some ((mu (mu (mu (mu x 0 0 0) 27 ((x 26 0).toNatClampNeg) a1) 28 ((x 26 0).toNatClampNeg) (vp_nar .boolean 1)) 26 0 ((x 26 0) + 1)), ((x 26 0) + 1) - 1) else none
def rm_X11_horse : Room := { frames := 0, cells := 0, slots := 0, locals := 0 }
set_option maxHeartbeats 4000000 in
set_option maxRecDepth 100000 in
theorem c_X11_horse (l : Launch) (fu nw : Nat) (G : GG) (x x' mo : Me) (a1 : Int32) (r : Int32) (hf : f_X11_horse fu x a1 = some (x', r)) : Met l yX11_horse [.code yX11_horse cX11_horse 2 (some .int)] rm_X11_horse (va_Pc [.ref (ga G 41), .int a1] (Pre G nw mo x)) (PI G nw mo x' r) 0 0 (gA G) := by
  refine mt_ofW (cc := cX11_horse) (maxL := 2) (ret := (some .int)) (by decide +kernel) rfl ?_
  intro p e s m args below meth c s₁ B hml hv
  obtain ⟨rfl, hE, hM⟩ := hv
  have hx := B.exec
  have hb := B.bytes
  have hr := B.returns
  have hown : s.vm.findClass RX11 = some m.cls := findClass_of_methodNamed B.named
  have hlocks := B.notSynchronized
  have hS : va_S (gA G) s.heap s.heap [] := va_S.rf
  have hl := lv_entry ([.ref (ga G 41), .int a1]) (n := 2) (Nat.le_of_ble_eq_true rfl)
  rw [lg_entry_eq]
  generalize (lg_sl ([.ref (ga G 41), .int a1]) ++ List.replicate (2 - (lg_sl ([.ref (ga G 41), .int a1])).length) Slot.unset).toArray = ls at hl ⊢
  have hl : lv_has ls 2 [(0, .ref (ga G 41)), (1, .int a1)] := hl
  generalize ([.ref (ga G 41), .int a1] : List Value).toArray = args
  unfold f_X11_horse at hf
  refine lv_aload_n hx hb dX11_horse_0 rfl (lv_at hl 0 rfl) ?_
  refine lv_iconst (v := 0) hx hb dX11_horse_1 (by decide) ?_
  refine pm_0 hx hb hE hM hS hown w_4_100 dX11_horse_2 (fun H locs hM hS => ?_)
  refine lv_iload_n hx hb dX11_horse_5 rfl (lv_at hl 1 rfl) ?_
  refine lv_if_lt (tgt := 25) hx hb dX11_horse_6 (by decide) (fun hc_4 => ?_) (fun hc_4 => ?_)
  · replace hf := i_t hf hc_4
    refine lv_iconst (v := (-1)) hx hb dX11_horse_25 (by decide) ?_
    exact rt_iM hx hb hr hf hM hS dX11_horse_26 hlocks
  · replace hf := i_f hf hc_4
    refine lv_iload_n hx hb dX11_horse_9 rfl (lv_at hl 1 rfl) ?_
    refine lv_sipush (v := 999) hx hb dX11_horse_10 (by decide) ?_
    refine lv_icmp_gt (tgt := 25) hx hb dX11_horse_13 (by decide) (fun hc_3 => ?_) (fun hc_3 => ?_)
    · replace hf := i_t hf hc_3
      refine lv_iconst (v := (-1)) hx hb dX11_horse_25 (by decide) ?_
      exact rt_iM hx hb hr hf hM hS dX11_horse_26 hlocks
    · replace hf := i_f hf hc_3
      refine lv_aload_n hx hb dX11_horse_16 rfl (lv_at hl 0 rfl) ?_
      refine gm_26 hx hb hE hM hown w_4_126 dX11_horse_17 ?_
      refine lv_bipush (v := 16) hx hb dX11_horse_20 (by decide) ?_
      refine lv_icmp_ne (tgt := 27) hx hb dX11_horse_22 (by decide) (fun hc_2 => ?_) (fun hc_2 => ?_)
      · replace hf := i_f hf hc_2
        refine lv_aload_n hx hb dX11_horse_27 rfl (lv_at hl 0 rfl) ?_
        refine gr_53 hx hb hE hM hown w_4_127 dX11_horse_28 ?_
        refine lv_aload_n hx hb dX11_horse_31 rfl (lv_at hl 0 rfl) ?_
        refine gm_26 hx hb hE hM hown w_4_126 dX11_horse_32 ?_
        refine lv_iload_n hx hb dX11_horse_35 rfl (lv_at hl 1 rfl) ?_
        obtain ⟨hi_1, hf⟩ := i_n hf
        refine sa_53 hx hb hE hM hS hi_1 dX11_horse_36 (fun H locs hM hS => ?_)
        refine lv_aload_n hx hb dX11_horse_37 rfl (lv_at hl 0 rfl) ?_
        refine gr_54 hx hb hE hM hown w_4_128 dX11_horse_38 ?_
        refine lv_aload_n hx hb dX11_horse_41 rfl (lv_at hl 0 rfl) ?_
        refine gm_26 hx hb hE hM hown w_4_126 dX11_horse_42 ?_
        refine lv_iconst (v := 1) hx hb dX11_horse_45 (by decide) ?_
        refine sa_54 hx hb hE hM hS hi_1 dX11_horse_46 (fun H locs hM hS => ?_)
        refine lv_aload_n hx hb dX11_horse_47 rfl (lv_at hl 0 rfl) ?_
        refine lv_dup hx hb dX11_horse_48 rfl ?_
        refine gm_26 hx hb hE hM hown w_4_126 dX11_horse_49 ?_
        refine lv_iconst (v := 1) hx hb dX11_horse_52 (by decide) ?_
        refine lv_iadd hx hb dX11_horse_53 ?_
        refine pm_26 hx hb hE hM hS hown w_4_126 dX11_horse_54 (fun H locs hM hS => ?_)
        refine lv_aload_n hx hb dX11_horse_57 rfl (lv_at hl 0 rfl) ?_
        refine gm_26 hx hb hE hM hown w_4_126 dX11_horse_58 ?_
        refine lv_iconst (v := 1) hx hb dX11_horse_61 (by decide) ?_
        refine lv_isub hx hb dX11_horse_62 ?_
        exact rt_iM hx hb hr hf hM hS dX11_horse_63 hlocks
      · replace hf := i_t hf hc_2
        refine lv_iconst (v := (-1)) hx hb dX11_horse_25 (by decide) ?_
        exact rt_iM hx hb hr hf hM hS dX11_horse_26 hlocks
theorem k_X11_horse {p : Program} {l : Launch} {e : Env} {R : Room} {s : State} {m : MethodId} {args : Array Value} {below : List Frame} {meth : Method} {c : Code} {H : Heap} {locs : List Loc} {cells slots : Nat} {Q : State → Prop} {cc : ByteArray} {pc nL : Nat} {ls : Array Slot} {rest : List Value} {G : GG} {fu nw : Nat} {x x' mo : Me} {own : String} {index : Nat} {a1 : Int32} {r : Int32} (hx : p.tables.exec = Jvm.exec) (hb : c.code = cc) (hml : c.maxLocals = nL) (hown : s.vm.findClass own = some m.cls) (hE : EnvP G s) (hM : MemP G nw mo x H) (hS : va_S (gA G) s.heap H locs) (hw : Cond.methodLink own index yX11_horse ∈ lw_tbl) (hf : f_X11_horse fu x a1 = some (x', r)) (h1 : 0 + 1 ≤ R.frames) (h2 : 8 + (2 + 11) + 0 ≤ R.locals) (hsz : ls.size = nL) (hW : (rest.map fun v => v.category).sum ≤ 8) (hcs : cells ≤ R.cells ∧ slots ≤ R.slots) (hdg : decode cc pc = .ok (.invokevirtual index, 3)) (kk : ∀ (H1 : Heap) (locs1 : List Loc), MemP G nw mo x' H1 → va_S (gA G) s.heap H1 locs1 → W p l e R s m args below meth c H1 locs1 cells slots Q (F0 m (pc + 3) ls (.int r :: rest))) : W p l e R s m args below meth c H locs cells slots Q (F0 m pc ls (.int a1 :: .ref (ga G 41) :: rest)) := mm_ki hS (mm_runV (n := 1) (o := 41) (C := RX11) (T := TX11) (N := 54) (ci := 11) (As := [.int a1]) hx hb hml hown hE hM hS (c_X11_horse l fu nw G x x' mo a1 _ hf) (List.forall_mem_cons.mpr ⟨⟨hw, rfl⟩, List.forall_mem_cons.mpr ⟨⟨w_5_80, rfl⟩, List.forall_mem_cons.mpr ⟨⟨w_5_81, rfl⟩, List.forall_mem_cons.mpr ⟨⟨w_1_11, rfl⟩, List.forall_mem_cons.mpr ⟨⟨w_5_82, rfl⟩, fun _ h => absurd h List.not_mem_nil⟩⟩⟩⟩⟩) rfl rfl ⟨rfl, by decide, by decide, by decide +kernel⟩ ⟨h1, h2⟩ rfl rfl rfl hsz rfl hW hdg hcs) kk
def f_X11_sound (fu : Nat) (x : Me) (a1 : Int32) (a2 : Int32) : Option (Me × Int32) := if a1 < 0 then some ((mu x 0 0 0), 0) else if a1 < (x 26 0) then if inb a1 16 = true then some ((mu (mu x 0 0 0) 28 a1.toNatClampNeg (vp_nar .boolean a2)), 1) else none else some ((mu x 0 0 0), 0)
def rm_X11_sound : Room := { frames := 0, cells := 0, slots := 0, locals := 0 }
set_option maxHeartbeats 4000000 in
set_option maxRecDepth 100000 in
theorem c_X11_sound (l : Launch) (fu nw : Nat) (G : GG) (x x' mo : Me) (a1 : Int32) (a2 : Int32) (r : Int32) (hf : f_X11_sound fu x a1 a2 = some (x', r)) : Met l yX11_sound [.code yX11_sound cX11_sound 3 (some .boolean)] rm_X11_sound (va_Pc [.ref (ga G 41), .int a1, .int a2] (Pre G nw mo x)) (PI G nw mo x' r) 0 0 (gA G) := by
  refine mt_ofW (cc := cX11_sound) (maxL := 3) (ret := (some .boolean)) (by decide +kernel) rfl ?_
  intro p e s m args below meth c s₁ B hml hv
  obtain ⟨rfl, hE, hM⟩ := hv
  have hx := B.exec
  have hb := B.bytes
  have hr := B.returns
  have hown : s.vm.findClass RX11 = some m.cls := findClass_of_methodNamed B.named
  have hlocks := B.notSynchronized
  have hS : va_S (gA G) s.heap s.heap [] := va_S.rf
  have hl := lv_entry ([.ref (ga G 41), .int a1, .int a2]) (n := 3) (Nat.le_of_ble_eq_true rfl)
  rw [lg_entry_eq]
  generalize (lg_sl ([.ref (ga G 41), .int a1, .int a2]) ++ List.replicate (3 - (lg_sl ([.ref (ga G 41), .int a1, .int a2])).length) Slot.unset).toArray = ls at hl ⊢
  have hl : lv_has ls 3 [(0, .ref (ga G 41)), (1, .int a1), (2, .int a2)] := hl
  generalize ([.ref (ga G 41), .int a1, .int a2] : List Value).toArray = args
  unfold f_X11_sound at hf
  refine lv_aload_n hx hb dX11_sound_0 rfl (lv_at hl 0 rfl) ?_
  refine lv_iconst (v := 0) hx hb dX11_sound_1 (by decide) ?_
  refine pm_0 hx hb hE hM hS hown w_4_100 dX11_sound_2 (fun H locs hM hS => ?_)
  refine lv_iload_n hx hb dX11_sound_5 rfl (lv_at hl 1 rfl) ?_
  refine lv_if_lt (tgt := 17) hx hb dX11_sound_6 (by decide) (fun hc_3 => ?_) (fun hc_3 => ?_)
  · replace hf := i_t hf hc_3
    refine lv_iconst (v := 0) hx hb dX11_sound_17 (by decide) ?_
    exact rt_zM hx hb hr rfl hf hM hS dX11_sound_18 hlocks
  · replace hf := i_f hf hc_3
    refine lv_iload_n hx hb dX11_sound_9 rfl (lv_at hl 1 rfl) ?_
    refine lv_aload_n hx hb dX11_sound_10 rfl (lv_at hl 0 rfl) ?_
    refine gm_26 hx hb hE hM hown w_4_126 dX11_sound_11 ?_
    refine lv_icmp_lt (tgt := 19) hx hb dX11_sound_14 (by decide) (fun hc_2 => ?_) (fun hc_2 => ?_)
    · replace hf := i_t hf hc_2
      refine lv_aload_n hx hb dX11_sound_19 rfl (lv_at hl 0 rfl) ?_
      refine gr_54 hx hb hE hM hown w_4_128 dX11_sound_20 ?_
      refine lv_iload_n hx hb dX11_sound_23 rfl (lv_at hl 1 rfl) ?_
      refine lv_iload_n hx hb dX11_sound_24 rfl (lv_at hl 2 rfl) ?_
      obtain ⟨hi_1, hf⟩ := i_n hf
      refine sa_54 hx hb hE hM hS hi_1 dX11_sound_25 (fun H locs hM hS => ?_)
      refine lv_iconst (v := 1) hx hb dX11_sound_26 (by decide) ?_
      exact rt_zM hx hb hr rfl hf hM hS dX11_sound_27 hlocks
    · replace hf := i_f hf hc_2
      refine lv_iconst (v := 0) hx hb dX11_sound_17 (by decide) ?_
      exact rt_zM hx hb hr rfl hf hM hS dX11_sound_18 hlocks
theorem k_X11_sound {p : Program} {l : Launch} {e : Env} {R : Room} {s : State} {m : MethodId} {args : Array Value} {below : List Frame} {meth : Method} {c : Code} {H : Heap} {locs : List Loc} {cells slots : Nat} {Q : State → Prop} {cc : ByteArray} {pc nL : Nat} {ls : Array Slot} {rest : List Value} {G : GG} {fu nw : Nat} {x x' mo : Me} {own : String} {index : Nat} {a1 : Int32} {a2 : Int32} {r : Int32} (hx : p.tables.exec = Jvm.exec) (hb : c.code = cc) (hml : c.maxLocals = nL) (hown : s.vm.findClass own = some m.cls) (hE : EnvP G s) (hM : MemP G nw mo x H) (hS : va_S (gA G) s.heap H locs) (hw : Cond.methodLink own index yX11_sound ∈ lw_tbl) (hf : f_X11_sound fu x a1 a2 = some (x', r)) (h1 : 0 + 1 ≤ R.frames) (h2 : 8 + (3 + 11) + 0 ≤ R.locals) (hsz : ls.size = nL) (hW : (rest.map fun v => v.category).sum ≤ 8) (hcs : cells ≤ R.cells ∧ slots ≤ R.slots) (hdg : decode cc pc = .ok (.invokevirtual index, 3)) (kk : ∀ (H1 : Heap) (locs1 : List Loc), MemP G nw mo x' H1 → va_S (gA G) s.heap H1 locs1 → W p l e R s m args below meth c H1 locs1 cells slots Q (F0 m (pc + 3) ls (.int r :: rest))) : W p l e R s m args below meth c H locs cells slots Q (F0 m pc ls (.int a2 :: .int a1 :: .ref (ga G 41) :: rest)) := mm_ki hS (mm_runV (n := 2) (o := 41) (C := RX11) (T := TX11) (N := 54) (ci := 11) (As := [.int a1, .int a2]) hx hb hml hown hE hM hS (c_X11_sound l fu nw G x x' mo a1 a2 _ hf) (List.forall_mem_cons.mpr ⟨⟨hw, rfl⟩, List.forall_mem_cons.mpr ⟨⟨w_5_84, rfl⟩, List.forall_mem_cons.mpr ⟨⟨w_5_85, rfl⟩, List.forall_mem_cons.mpr ⟨⟨w_1_11, rfl⟩, List.forall_mem_cons.mpr ⟨⟨w_5_86, rfl⟩, fun _ h => absurd h List.not_mem_nil⟩⟩⟩⟩⟩) rfl rfl ⟨rfl, by decide, by decide, by decide +kernel⟩ ⟨h1, h2⟩ rfl rfl rfl hsz rfl hW hdg hcs) kk
def f_X11_draws (fu : Nat) (x : Me) (a1 : Int32) : Option (Me × Int32) := if ¬ a1 = 0 then some ((mu x 29 0 ((1103515245 * (x 29 0)) + 12345)), ((((1103515245 * (x 29 0)) + 12345) >>> ((16 : Int32) &&& 31)) &&& 32767) - ((((1103515245 * (x 29 0)) + 12345) >>> ((16 : Int32) &&& 31)) &&& 32767) / a1 * a1) else none
def rm_X11_draws : Room := { frames := 0, cells := 0, slots := 0, locals := 0 }
set_option maxHeartbeats 4000000 in
set_option maxRecDepth 100000 in
theorem c_X11_draws (l : Launch) (fu nw : Nat) (G : GG) (x x' mo : Me) (a1 : Int32) (r : Int32) (hf : f_X11_draws fu x a1 = some (x', r)) : Met l yX11_draws [.code yX11_draws cX11_draws 2 (some .int)] rm_X11_draws (va_Pc [.ref (ga G 41), .int a1] (Pre G nw mo x)) (PI G nw mo x' r) 0 0 (gA G) := by
  refine mt_ofW (cc := cX11_draws) (maxL := 2) (ret := (some .int)) (by decide +kernel) rfl ?_
  intro p e s m args below meth c s₁ B hml hv
  obtain ⟨rfl, hE, hM⟩ := hv
  have hx := B.exec
  have hb := B.bytes
  have hr := B.returns
  have hown : s.vm.findClass RX11 = some m.cls := findClass_of_methodNamed B.named
  have hlocks := B.notSynchronized
  have hS : va_S (gA G) s.heap s.heap [] := va_S.rf
  have hl := lv_entry ([.ref (ga G 41), .int a1]) (n := 2) (Nat.le_of_ble_eq_true rfl)
  rw [lg_entry_eq]
  generalize (lg_sl ([.ref (ga G 41), .int a1]) ++ List.replicate (2 - (lg_sl ([.ref (ga G 41), .int a1])).length) Slot.unset).toArray = ls at hl ⊢
  have hl : lv_has ls 2 [(0, .ref (ga G 41)), (1, .int a1)] := hl
  generalize ([.ref (ga G 41), .int a1] : List Value).toArray = args
  unfold f_X11_draws at hf
  refine lv_aload_n hx hb dX11_draws_0 rfl (lv_at hl 0 rfl) ?_
  refine lv_ldc (v := 1103515245) hx hb hown (ew hE w_5_108 rfl) dX11_draws_1 ?_
  refine lv_aload_n hx hb dX11_draws_3 rfl (lv_at hl 0 rfl) ?_
  refine gm_29 hx hb hE hM hown w_4_129 dX11_draws_4 ?_
  refine lv_imul hx hb dX11_draws_7 ?_
  refine lv_sipush (v := 12345) hx hb dX11_draws_8 (by decide) ?_
  refine lv_iadd hx hb dX11_draws_11 ?_
  refine pm_29 hx hb hE hM hS hown w_4_129 dX11_draws_12 (fun H locs hM hS => ?_)
  refine lv_aload_n hx hb dX11_draws_15 rfl (lv_at hl 0 rfl) ?_
  refine gm_29 hx hb hE hM hown w_4_129 dX11_draws_16 ?_
  refine lv_bipush (v := 16) hx hb dX11_draws_19 (by decide) ?_
  refine lv_ishr hx hb dX11_draws_21 ?_
  refine lv_sipush (v := 32767) hx hb dX11_draws_22 (by decide) ?_
  refine lv_iand hx hb dX11_draws_25 ?_
  refine lv_iload_n hx hb dX11_draws_26 rfl (lv_at hl 1 rfl) ?_
  obtain ⟨hn_1, hf⟩ := i_n hf
  refine lv_irem hx hb dX11_draws_27 hn_1 ?_
  exact rt_iM hx hb hr hf hM hS dX11_draws_28 hlocks
theorem k_X11_draws {p : Program} {l : Launch} {e : Env} {R : Room} {s : State} {m : MethodId} {args : Array Value} {below : List Frame} {meth : Method} {c : Code} {H : Heap} {locs : List Loc} {cells slots : Nat} {Q : State → Prop} {cc : ByteArray} {pc nL : Nat} {ls : Array Slot} {rest : List Value} {G : GG} {fu nw : Nat} {x x' mo : Me} {own : String} {index : Nat} {a1 : Int32} {r : Int32} (hx : p.tables.exec = Jvm.exec) (hb : c.code = cc) (hml : c.maxLocals = nL) (hown : s.vm.findClass own = some m.cls) (hE : EnvP G s) (hM : MemP G nw mo x H) (hS : va_S (gA G) s.heap H locs) (hw : Cond.methodLink own index yX11_draws ∈ lw_tbl) (hf : f_X11_draws fu x a1 = some (x', r)) (h1 : 0 + 1 ≤ R.frames) (h2 : 8 + (2 + 11) + 0 ≤ R.locals) (hsz : ls.size = nL) (hW : (rest.map fun v => v.category).sum ≤ 8) (hcs : cells ≤ R.cells ∧ slots ≤ R.slots) (hdg : decode cc pc = .ok (.invokevirtual index, 3)) (kk : ∀ (H1 : Heap) (locs1 : List Loc), MemP G nw mo x' H1 → va_S (gA G) s.heap H1 locs1 → W p l e R s m args below meth c H1 locs1 cells slots Q (F0 m (pc + 3) ls (.int r :: rest))) : W p l e R s m args below meth c H locs cells slots Q (F0 m pc ls (.int a1 :: .ref (ga G 41) :: rest)) := mm_ki hS (mm_runV (n := 1) (o := 41) (C := RX11) (T := TX11) (N := 54) (ci := 11) (As := [.int a1]) hx hb hml hown hE hM hS (c_X11_draws l fu nw G x x' mo a1 _ hf) (List.forall_mem_cons.mpr ⟨⟨hw, rfl⟩, List.forall_mem_cons.mpr ⟨⟨w_5_106, rfl⟩, List.forall_mem_cons.mpr ⟨⟨w_0_38, rfl⟩, List.forall_mem_cons.mpr ⟨⟨w_1_11, rfl⟩, List.forall_mem_cons.mpr ⟨⟨w_5_107, rfl⟩, fun _ h => absurd h List.not_mem_nil⟩⟩⟩⟩⟩) rfl rfl ⟨rfl, by decide, by decide, by decide +kernel⟩ ⟨h1, h2⟩ rfl rfl rfl hsz rfl hW hdg hcs) kk
def f_X11_isBarred (fu : Nat) (x : Me) (a1 : Int32) : Option (Me × Int32) := if inb a1 17 = true then if (x 19 a1.toNatClampNeg) < (x 3 0) then some (x, 0) else some (x, 1) else none
def rm_X11_isBarred : Room := { frames := 0, cells := 0, slots := 0, locals := 0 }
set_option maxHeartbeats 4000000 in
set_option maxRecDepth 100000 in
theorem c_X11_isBarred (l : Launch) (fu nw : Nat) (G : GG) (x x' mo : Me) (a1 : Int32) (r : Int32) (hf : f_X11_isBarred fu x a1 = some (x', r)) : Met l yX11_isBarred [.code yX11_isBarred cX11_isBarred 2 (some .boolean)] rm_X11_isBarred (va_Pc [.ref (ga G 41), .int a1] (Pre G nw mo x)) (PI G nw mo x' r) 0 0 (gA G) := by
  refine mt_ofW (cc := cX11_isBarred) (maxL := 2) (ret := (some .boolean)) (by decide +kernel) rfl ?_
  intro p e s m args below meth c s₁ B hml hv
  obtain ⟨rfl, hE, hM⟩ := hv
  have hx := B.exec
  have hb := B.bytes
  have hr := B.returns
  have hown : s.vm.findClass RX11 = some m.cls := findClass_of_methodNamed B.named
  have hlocks := B.notSynchronized
  have hS : va_S (gA G) s.heap s.heap [] := va_S.rf
  have hl := lv_entry ([.ref (ga G 41), .int a1]) (n := 2) (Nat.le_of_ble_eq_true rfl)
  rw [lg_entry_eq]
  generalize (lg_sl ([.ref (ga G 41), .int a1]) ++ List.replicate (2 - (lg_sl ([.ref (ga G 41), .int a1])).length) Slot.unset).toArray = ls at hl ⊢
  have hl : lv_has ls 2 [(0, .ref (ga G 41)), (1, .int a1)] := hl
  generalize ([.ref (ga G 41), .int a1] : List Value).toArray = args
  unfold f_X11_isBarred at hf
  refine lv_aload_n hx hb dX11_isBarred_0 rfl (lv_at hl 0 rfl) ?_
  refine gr_46 hx hb hE hM hown w_4_119 dX11_isBarred_1 ?_
  refine lv_iload_n hx hb dX11_isBarred_4 rfl (lv_at hl 1 rfl) ?_
  obtain ⟨hi_1, hf⟩ := i_n hf
  refine la_46 hx hb hE hM hi_1 dX11_isBarred_5 ?_
  refine lv_aload_n hx hb dX11_isBarred_6 rfl (lv_at hl 0 rfl) ?_
  refine gm_3 hx hb hE hM hown w_4_103 dX11_isBarred_7 ?_
  refine lv_icmp_lt (tgt := 17) hx hb dX11_isBarred_10 (by decide) (fun hc_2 => ?_) (fun hc_2 => ?_)
  · replace hf := i_t hf hc_2
    refine lv_iconst (v := 0) hx hb dX11_isBarred_17 (by decide) ?_
    exact rt_zM hx hb hr rfl hf hM hS dX11_isBarred_18 hlocks
  · replace hf := i_f hf hc_2
    refine lv_iconst (v := 1) hx hb dX11_isBarred_13 (by decide) ?_
    refine lv_goto (tgt := 18) hx hb dX11_isBarred_14 (by decide) ?_
    exact rt_zM hx hb hr rfl hf hM hS dX11_isBarred_18 hlocks
theorem k_X11_isBarred {p : Program} {l : Launch} {e : Env} {R : Room} {s : State} {m : MethodId} {args : Array Value} {below : List Frame} {meth : Method} {c : Code} {H : Heap} {locs : List Loc} {cells slots : Nat} {Q : State → Prop} {cc : ByteArray} {pc nL : Nat} {ls : Array Slot} {rest : List Value} {G : GG} {fu nw : Nat} {x x' mo : Me} {own : String} {index : Nat} {a1 : Int32} {r : Int32} (hx : p.tables.exec = Jvm.exec) (hb : c.code = cc) (hml : c.maxLocals = nL) (hown : s.vm.findClass own = some m.cls) (hE : EnvP G s) (hM : MemP G nw mo x H) (hS : va_S (gA G) s.heap H locs) (hw : Cond.methodLink own index yX11_isBarred ∈ lw_tbl) (hf : f_X11_isBarred fu x a1 = some (x', r)) (h1 : 0 + 1 ≤ R.frames) (h2 : 8 + (2 + 11) + 0 ≤ R.locals) (hsz : ls.size = nL) (hW : (rest.map fun v => v.category).sum ≤ 8) (hcs : cells ≤ R.cells ∧ slots ≤ R.slots) (hdg : decode cc pc = .ok (.invokevirtual index, 3)) (kk : ∀ (H1 : Heap) (locs1 : List Loc), MemP G nw mo x' H1 → va_S (gA G) s.heap H1 locs1 → W p l e R s m args below meth c H1 locs1 cells slots Q (F0 m (pc + 3) ls (.int r :: rest))) : W p l e R s m args below meth c H locs cells slots Q (F0 m pc ls (.int a1 :: .ref (ga G 41) :: rest)) := mm_ki hS (mm_runV (n := 1) (o := 41) (C := RX11) (T := TX11) (N := 54) (ci := 11) (As := [.int a1]) hx hb hml hown hE hM hS (c_X11_isBarred l fu nw G x x' mo a1 _ hf) (List.forall_mem_cons.mpr ⟨⟨hw, rfl⟩, List.forall_mem_cons.mpr ⟨⟨w_5_93, rfl⟩, List.forall_mem_cons.mpr ⟨⟨w_0_35, rfl⟩, List.forall_mem_cons.mpr ⟨⟨w_1_11, rfl⟩, List.forall_mem_cons.mpr ⟨⟨w_5_94, rfl⟩, fun _ h => absurd h List.not_mem_nil⟩⟩⟩⟩⟩) rfl rfl ⟨rfl, by decide, by decide, by decide +kernel⟩ ⟨h1, h2⟩ rfl rfl rfl hsz rfl hW hdg hcs) kk
def f_X11_drawnWard_8 (fu : Nat) (k : Me → Int32 → Option (Me × Int32)) : Nat → Me → Int32 → Int32 → Option (Me × Int32)
  | 0 => fun _ _ _ => none
  | n + 1 => fun x a2 a3 => ob (f_X11_isBarred fu x a3) (fun x_2 r_2 => jn (fun (x_3 : Me) => ob (f_X11_isBarred fu x_3 a3) (fun x_4 r_4 => if r_4 = 0 then if inb a3 17 = true then if (x_4 23 a3.toNatClampNeg) = 0 then f_X11_drawnWard_8 fu k n x_4 (a2 - 1) (a3 + 1) else f_X11_drawnWard_8 fu k n x_4 (a2 - 0) (a3 + 1) else none else f_X11_drawnWard_8 fu k n x_4 (a2 - 0) (a3 + 1))) (fun j_3 => if r_2 = 0 then if inb a3 17 = true then if (x_2 23 a3.toNatClampNeg) = 0 then if a2 ≤ 0 then k x_2 a3 else j_3 x_2 else j_3 x_2 else none else j_3 x_2))
def f_X11_drawnWard (fu : Nat) (x : Me) (a1 : Int32) : Option (Me × Int32) := ob (f_X11_draws fu x a1) (fun x_1 r_1 => f_X11_drawnWard_8 fu (fun (x_12 : Me) (a3_12 : Int32) => some (x_12, a3_12)) fu x_1 r_1 0)
def rm_X11_drawnWard : Room := { frames := 1, cells := 0, slots := 0, locals := 21 }
set_option maxHeartbeats 4000000 in
set_option maxRecDepth 100000 in
theorem wk_X11_drawnWard_8 {p : Program} {l : Launch} {e : Env} {s : State} {m : MethodId} {args : Array Value} {below : List Frame} {meth : Method} {c : Code} {fu nw : Nat} {G : GG} {mo : Me} (hx : p.tables.exec = Jvm.exec) (hb : c.code = cX11_drawnWard) (hml : c.maxLocals = 4) (hown : s.vm.findClass RX11 = some m.cls) (hE : EnvP G s) (hr : meth.sig.returnType = (some .int)) (hlocks : meth.locks = false) {x' : Me} {r : Int32} {k : Me → Int32 → Option (Me × Int32)} (hk : ∀ (x : Me) (a3 : Int32) (H : Heap) (locs : List Loc) (ls : Array Slot), k x a3 = some (x', r) → MemP G nw mo x H → va_S (gA G) s.heap H locs → lv_has ls 4 [(3, .int a3)] → W p l e rm_X11_drawnWard s m args below meth c H locs 0 0 (MQ below (PI G nw mo x' r) args s 0 0 (gA G)) (F0 m 60 ls [])) : ∀ (n : Nat) (x : Me) (a2 : Int32) (a3 : Int32) (H : Heap) (locs : List Loc) (ls : Array Slot), f_X11_drawnWard_8 fu k n x a2 a3 = some (x', r) → MemP G nw mo x H → va_S (gA G) s.heap H locs → lv_has ls 4 [(0, .ref (ga G 41)), (2, .int a2), (3, .int a3)] → W p l e rm_X11_drawnWard s m args below meth c H locs 0 0 (MQ below (PI G nw mo x' r) args s 0 0 (gA G)) (F0 m 8 ls []) := by
  intro n
  induction n with
  | zero =>
    intro x a2 a3 H locs ls hf hM hS hl
    exact nn hf
  | succ n ih =>
    intro x a2 a3 H locs ls hf hM hS hl
    rw [f_X11_drawnWard_8] at hf
    refine lv_aload_n hx hb dX11_drawnWard_8 rfl (lv_at hl 0 rfl) ?_
    refine lv_iload_n hx hb dX11_drawnWard_9 rfl (lv_at hl 2 rfl) ?_
    obtain ⟨x_2, r_2, hq_2, hf⟩ := ob_some hf
    refine k_X11_isBarred hx hb hml hown hE hM hS w_5_91 hq_2 (Nat.le_of_ble_eq_true rfl) (Nat.le_of_ble_eq_true rfl) hl.1 (Nat.le_of_ble_eq_true rfl) ⟨Nat.zero_le _, Nat.zero_le _⟩ dX11_drawnWard_10 (fun H locs hM hS => ?_)
    have hj_3 : ∀ (x_3 : Me) (H : Heap) (locs : List Loc) (ls : Array Slot), jnA hf x_3 = some (x', r) → MemP G nw mo x_3 H → va_S (gA G) s.heap H locs → lv_has ls 4 [(0, .ref (ga G 41)), (2, .int a2), (3, .int a3)] → W p l e rm_X11_drawnWard s m args below meth c H locs 0 0 (MQ below (PI G nw mo x' r) args s 0 0 (gA G)) (F0 m 29 ls []) := by
      intro x_3 H locs ls hf hM hS hl
      refine lv_iload_n hx hb dX11_drawnWard_29 rfl (lv_at hl 1 rfl) ?_
      refine lv_aload_n hx hb dX11_drawnWard_30 rfl (lv_at hl 0 rfl) ?_
      refine lv_iload_n hx hb dX11_drawnWard_31 rfl (lv_at hl 2 rfl) ?_
      obtain ⟨x_4, r_4, hq_4, hf⟩ := ob_some hf
      refine k_X11_isBarred hx hb hml hown hE hM hS w_5_91 hq_4 (Nat.le_of_ble_eq_true rfl) (Nat.le_of_ble_eq_true rfl) hl.1 (Nat.le_of_ble_eq_true rfl) ⟨Nat.zero_le _, Nat.zero_le _⟩ dX11_drawnWard_32 (fun H locs hM hS => ?_)
      refine lv_if_ne (tgt := 47) hx hb dX11_drawnWard_35 (by decide) (fun hc_7 => ?_) (fun hc_7 => ?_)
      · replace hf := i_f hf hc_7
        refine lv_iconst (v := 0) hx hb dX11_drawnWard_47 (by decide) ?_
        refine lv_goto (tgt := 52) hx hb dX11_drawnWard_48 (by decide) ?_
        refine lv_isub hx hb dX11_drawnWard_52 ?_
        refine lv_istore_n (lv' := [(2, .int (a2 - 0)), (0, .ref (ga G 41)), (3, .int a3)]) hx hb dX11_drawnWard_53 rfl hl (by decide) rfl (fun ls hl => ?_)
        refine lv_iinc (v := a3 + 1) (lv' := [(3, .int (a3 + 1)), (2, .int (a2 - 0)), (0, .ref (ga G 41))]) hx hb dX11_drawnWard_54 hl (k := 2) rfl rfl (by decide) rfl (fun ls hl => ?_)
        refine lv_goto (tgt := 8) hx hb dX11_drawnWard_57 (by decide) ?_
        exact ih x_4 (a2 - 0) (a3 + 1) _ _ _ hf hM hS (lv_sub hl [2, 1, 0] rfl)
      · replace hf := i_t hf hc_7
        refine lv_aload_n hx hb dX11_drawnWard_38 rfl (lv_at hl 0 rfl) ?_
        refine gr_50 hx hb hE hM hown w_4_123 dX11_drawnWard_39 ?_
        refine lv_iload_n hx hb dX11_drawnWard_42 rfl (lv_at hl 2 rfl) ?_
        obtain ⟨hi_5, hf⟩ := i_n hf
        refine la_50 hx hb hE hM hi_5 dX11_drawnWard_43 ?_
        refine lv_if_eq (tgt := 51) hx hb dX11_drawnWard_44 (by decide) (fun hc_6 => ?_) (fun hc_6 => ?_)
        · replace hf := i_t hf hc_6
          refine lv_iconst (v := 1) hx hb dX11_drawnWard_51 (by decide) ?_
          refine lv_isub hx hb dX11_drawnWard_52 ?_
          refine lv_istore_n (lv' := [(2, .int (a2 - 1)), (0, .ref (ga G 41)), (3, .int a3)]) hx hb dX11_drawnWard_53 rfl hl (by decide) rfl (fun ls hl => ?_)
          refine lv_iinc (v := a3 + 1) (lv' := [(3, .int (a3 + 1)), (2, .int (a2 - 1)), (0, .ref (ga G 41))]) hx hb dX11_drawnWard_54 hl (k := 2) rfl rfl (by decide) rfl (fun ls hl => ?_)
          refine lv_goto (tgt := 8) hx hb dX11_drawnWard_57 (by decide) ?_
          exact ih x_4 (a2 - 1) (a3 + 1) _ _ _ hf hM hS (lv_sub hl [2, 1, 0] rfl)
        · replace hf := i_f hf hc_6
          refine lv_iconst (v := 0) hx hb dX11_drawnWard_47 (by decide) ?_
          refine lv_goto (tgt := 52) hx hb dX11_drawnWard_48 (by decide) ?_
          refine lv_isub hx hb dX11_drawnWard_52 ?_
          refine lv_istore_n (lv' := [(2, .int (a2 - 0)), (0, .ref (ga G 41)), (3, .int a3)]) hx hb dX11_drawnWard_53 rfl hl (by decide) rfl (fun ls hl => ?_)
          refine lv_iinc (v := a3 + 1) (lv' := [(3, .int (a3 + 1)), (2, .int (a2 - 0)), (0, .ref (ga G 41))]) hx hb dX11_drawnWard_54 hl (k := 2) rfl rfl (by decide) rfl (fun ls hl => ?_)
          refine lv_goto (tgt := 8) hx hb dX11_drawnWard_57 (by decide) ?_
          exact ih x_4 (a2 - 0) (a3 + 1) _ _ _ hf hM hS (lv_sub hl [2, 1, 0] rfl)
    replace hf := jn_use hf
    refine lv_if_ne (tgt := 29) hx hb dX11_drawnWard_13 (by decide) (fun hc_11 => ?_) (fun hc_11 => ?_)
    · replace hf := i_f hf hc_11
      exact hj_3 x_2 _ _ _ hf hM hS (lv_sub hl [0, 1, 2] rfl)
    · replace hf := i_t hf hc_11
      refine lv_aload_n hx hb dX11_drawnWard_16 rfl (lv_at hl 0 rfl) ?_
      refine gr_50 hx hb hE hM hown w_4_123 dX11_drawnWard_17 ?_
      refine lv_iload_n hx hb dX11_drawnWard_20 rfl (lv_at hl 2 rfl) ?_
      obtain ⟨hi_8, hf⟩ := i_n hf
      refine la_50 hx hb hE hM hi_8 dX11_drawnWard_21 ?_
      refine lv_if_ne (tgt := 29) hx hb dX11_drawnWard_22 (by decide) (fun hc_10 => ?_) (fun hc_10 => ?_)
      · replace hf := i_f hf hc_10
        exact hj_3 x_2 _ _ _ hf hM hS (lv_sub hl [0, 1, 2] rfl)
      · replace hf := i_t hf hc_10
        refine lv_iload_n hx hb dX11_drawnWard_25 rfl (lv_at hl 1 rfl) ?_
        refine lv_if_le (tgt := 60) hx hb dX11_drawnWard_26 (by decide) (fun hc_9 => ?_) (fun hc_9 => ?_)
        · replace hf := i_t hf hc_9
          exact hk x_2 a3 _ _ _ hf hM hS (lv_sub hl [2] rfl)
        · replace hf := i_f hf hc_9
          exact hj_3 x_2 _ _ _ hf hM hS (lv_sub hl [0, 1, 2] rfl)
set_option maxHeartbeats 4000000 in
set_option maxRecDepth 100000 in
theorem c_X11_drawnWard (l : Launch) (fu nw : Nat) (G : GG) (x x' mo : Me) (a1 : Int32) (r : Int32) (hf : f_X11_drawnWard fu x a1 = some (x', r)) : Met l yX11_drawnWard [.code yX11_drawnWard cX11_drawnWard 4 (some .int)] rm_X11_drawnWard (va_Pc [.ref (ga G 41), .int a1] (Pre G nw mo x)) (PI G nw mo x' r) 0 0 (gA G) := by
  refine mt_ofW (cc := cX11_drawnWard) (maxL := 4) (ret := (some .int)) (by decide +kernel) rfl ?_
  intro p e s m args below meth c s₁ B hml hv
  obtain ⟨rfl, hE, hM⟩ := hv
  have hx := B.exec
  have hb := B.bytes
  have hr := B.returns
  have hown : s.vm.findClass RX11 = some m.cls := findClass_of_methodNamed B.named
  have hlocks := B.notSynchronized
  have hS : va_S (gA G) s.heap s.heap [] := va_S.rf
  have hl := lv_entry ([.ref (ga G 41), .int a1]) (n := 4) (Nat.le_of_ble_eq_true rfl)
  rw [lg_entry_eq]
  generalize (lg_sl ([.ref (ga G 41), .int a1]) ++ List.replicate (4 - (lg_sl ([.ref (ga G 41), .int a1])).length) Slot.unset).toArray = ls at hl ⊢
  have hl : lv_has ls 4 [(0, .ref (ga G 41)), (1, .int a1)] := hl
  generalize ([.ref (ga G 41), .int a1] : List Value).toArray = args
  unfold f_X11_drawnWard at hf
  refine lv_aload_n hx hb dX11_drawnWard_0 rfl (lv_at hl 0 rfl) ?_
  refine lv_iload_n hx hb dX11_drawnWard_1 rfl (lv_at hl 1 rfl) ?_
  obtain ⟨x_1, r_1, hq_1, hf⟩ := ob_some hf
  refine k_X11_draws hx hb hml hown hE hM hS w_5_104 hq_1 (Nat.le_of_ble_eq_true rfl) (Nat.le_of_ble_eq_true rfl) hl.1 (Nat.le_of_ble_eq_true rfl) ⟨Nat.zero_le _, Nat.zero_le _⟩ dX11_drawnWard_2 (fun H locs hM hS => ?_)
  refine lv_istore_n (lv' := [(2, .int r_1), (0, .ref (ga G 41)), (1, .int a1)]) hx hb dX11_drawnWard_5 rfl hl (by decide) rfl (fun ls hl => ?_)
  refine lv_iconst (v := 0) hx hb dX11_drawnWard_6 (by decide) ?_
  refine lv_istore_n (lv' := [(3, .int 0), (2, .int r_1), (0, .ref (ga G 41)), (1, .int a1)]) hx hb dX11_drawnWard_7 rfl hl (by decide) rfl (fun ls hl => ?_)
  refine wk_X11_drawnWard_8 hx hb hml hown hE hr hlocks ?_ fu x_1 r_1 0 _ _ _ hf hM hS (lv_sub hl [2, 1, 0] rfl)
  intro x_12 a3_12 H locs ls hf hM hS hl
  refine lv_iload_n hx hb dX11_drawnWard_60 rfl (lv_at hl 0 rfl) ?_
  exact rt_iM hx hb hr hf hM hS dX11_drawnWard_61 hlocks
theorem k_X11_drawnWard {p : Program} {l : Launch} {e : Env} {R : Room} {s : State} {m : MethodId} {args : Array Value} {below : List Frame} {meth : Method} {c : Code} {H : Heap} {locs : List Loc} {cells slots : Nat} {Q : State → Prop} {cc : ByteArray} {pc nL : Nat} {ls : Array Slot} {rest : List Value} {G : GG} {fu nw : Nat} {x x' mo : Me} {own : String} {index : Nat} {a1 : Int32} {r : Int32} (hx : p.tables.exec = Jvm.exec) (hb : c.code = cc) (hml : c.maxLocals = nL) (hown : s.vm.findClass own = some m.cls) (hE : EnvP G s) (hM : MemP G nw mo x H) (hS : va_S (gA G) s.heap H locs) (hw : Cond.methodLink own index yX11_drawnWard ∈ lw_tbl) (hf : f_X11_drawnWard fu x a1 = some (x', r)) (h1 : 1 + 1 ≤ R.frames) (h2 : 8 + (4 + 11) + 21 ≤ R.locals) (hsz : ls.size = nL) (hW : (rest.map fun v => v.category).sum ≤ 8) (hcs : cells ≤ R.cells ∧ slots ≤ R.slots) (hdg : decode cc pc = .ok (.invokevirtual index, 3)) (kk : ∀ (H1 : Heap) (locs1 : List Loc), MemP G nw mo x' H1 → va_S (gA G) s.heap H1 locs1 → W p l e R s m args below meth c H1 locs1 cells slots Q (F0 m (pc + 3) ls (.int r :: rest))) : W p l e R s m args below meth c H locs cells slots Q (F0 m pc ls (.int a1 :: .ref (ga G 41) :: rest)) := mm_ki hS (mm_runV (n := 1) (o := 41) (C := RX11) (T := TX11) (N := 54) (ci := 11) (As := [.int a1]) hx hb hml hown hE hM hS (c_X11_drawnWard l fu nw G x x' mo a1 _ hf) (List.forall_mem_cons.mpr ⟨⟨hw, rfl⟩, List.forall_mem_cons.mpr ⟨⟨w_5_102, rfl⟩, List.forall_mem_cons.mpr ⟨⟨w_0_37, rfl⟩, List.forall_mem_cons.mpr ⟨⟨w_1_11, rfl⟩, List.forall_mem_cons.mpr ⟨⟨w_5_103, rfl⟩, fun _ h => absurd h List.not_mem_nil⟩⟩⟩⟩⟩) rfl rfl ⟨rfl, by decide, by decide, by decide +kernel⟩ ⟨h1, h2⟩ rfl rfl rfl hsz rfl hW hdg hcs) kk
def f_X11_longest_4 (fu : Nat) (k : Me → Int32 → Option (Me × Int32)) : Nat → Me → Int32 → Int32 → Option (Me × Int32)
  | 0 => fun _ _ _ => none
  | n + 1 => fun x a1 a2 => if (x 17 0) ≤ a2 then k x a1 else ob (f_X11_isBarred fu x a2) (fun x_1 r_1 => if r_1 = 0 then if inb a2 17 = true then if (x_1 23 a2.toNatClampNeg) = 0 then if a1 = (-1) then f_X11_longest_4 fu k n x_1 a2 (a2 + 1) else if inb a1 17 = true then if (x_1 18 a1.toNatClampNeg) ≤ (x_1 18 a2.toNatClampNeg) then f_X11_longest_4 fu k n x_1 a1 (a2 + 1) else f_X11_longest_4 fu k n x_1 a2 (a2 + 1) else none else f_X11_longest_4 fu k n x_1 a1 (a2 + 1) else none else f_X11_longest_4 fu k n x_1 a1 (a2 + 1))
def f_X11_longest (fu : Nat) (x : Me) : Option (Me × Int32) := f_X11_longest_4 fu (fun (x_9 : Me) (a1_9 : Int32) => some (x_9, a1_9)) fu x (-1) 0
def rm_X11_longest : Room := { frames := 1, cells := 0, slots := 0, locals := 21 }
set_option maxHeartbeats 4000000 in
set_option maxRecDepth 100000 in
theorem wk_X11_longest_4 {p : Program} {l : Launch} {e : Env} {s : State} {m : MethodId} {args : Array Value} {below : List Frame} {meth : Method} {c : Code} {fu nw : Nat} {G : GG} {mo : Me} (hx : p.tables.exec = Jvm.exec) (hb : c.code = cX11_longest) (hml : c.maxLocals = 3) (hown : s.vm.findClass RX11 = some m.cls) (hE : EnvP G s) (hr : meth.sig.returnType = (some .int)) (hlocks : meth.locks = false) {x' : Me} {r : Int32} {k : Me → Int32 → Option (Me × Int32)} (hk : ∀ (x : Me) (a1 : Int32) (H : Heap) (locs : List Loc) (ls : Array Slot), k x a1 = some (x', r) → MemP G nw mo x H → va_S (gA G) s.heap H locs → lv_has ls 3 [(1, .int a1)] → W p l e rm_X11_longest s m args below meth c H locs 0 0 (MQ below (PI G nw mo x' r) args s 0 0 (gA G)) (F0 m 57 ls [])) : ∀ (n : Nat) (x : Me) (a1 : Int32) (a2 : Int32) (H : Heap) (locs : List Loc) (ls : Array Slot), f_X11_longest_4 fu k n x a1 a2 = some (x', r) → MemP G nw mo x H → va_S (gA G) s.heap H locs → lv_has ls 3 [(0, .ref (ga G 41)), (1, .int a1), (2, .int a2)] → W p l e rm_X11_longest s m args below meth c H locs 0 0 (MQ below (PI G nw mo x' r) args s 0 0 (gA G)) (F0 m 4 ls []) := by
  intro n
  induction n with
  | zero =>
    intro x a1 a2 H locs ls hf hM hS hl
    exact nn hf
  | succ n ih =>
    intro x a1 a2 H locs ls hf hM hS hl
    rw [f_X11_longest_4] at hf
    refine lv_iload_n hx hb dX11_longest_4 rfl (lv_at hl 2 rfl) ?_
    refine lv_aload_n hx hb dX11_longest_5 rfl (lv_at hl 0 rfl) ?_
    refine gm_17 hx hb hE hM hown w_4_117 dX11_longest_6 ?_
    refine lv_icmp_ge (tgt := 57) hx hb dX11_longest_9 (by decide) (fun hc_8 => ?_) (fun hc_8 => ?_)
    · replace hf := i_t hf hc_8
      exact hk x a1 _ _ _ hf hM hS (lv_sub hl [1] rfl)
    · replace hf := i_f hf hc_8
      refine lv_aload_n hx hb dX11_longest_12 rfl (lv_at hl 0 rfl) ?_
      refine lv_iload_n hx hb dX11_longest_13 rfl (lv_at hl 2 rfl) ?_
      obtain ⟨x_1, r_1, hq_1, hf⟩ := ob_some hf
      refine k_X11_isBarred hx hb hml hown hE hM hS w_5_91 hq_1 (Nat.le_of_ble_eq_true rfl) (Nat.le_of_ble_eq_true rfl) hl.1 (Nat.le_of_ble_eq_true rfl) ⟨Nat.zero_le _, Nat.zero_le _⟩ dX11_longest_14 (fun H locs hM hS => ?_)
      refine lv_if_ne (tgt := 51) hx hb dX11_longest_17 (by decide) (fun hc_7 => ?_) (fun hc_7 => ?_)
      · replace hf := i_f hf hc_7
        refine lv_iinc (v := a2 + 1) (lv' := [(2, .int (a2 + 1)), (0, .ref (ga G 41)), (1, .int a1)]) hx hb dX11_longest_51 hl (k := 2) rfl rfl (by decide) rfl (fun ls hl => ?_)
        refine lv_goto (tgt := 4) hx hb dX11_longest_54 (by decide) ?_
        exact ih x_1 a1 (a2 + 1) _ _ _ hf hM hS (lv_sub hl [1, 2, 0] rfl)
      · replace hf := i_t hf hc_7
        refine lv_aload_n hx hb dX11_longest_20 rfl (lv_at hl 0 rfl) ?_
        refine gr_50 hx hb hE hM hown w_4_123 dX11_longest_21 ?_
        refine lv_iload_n hx hb dX11_longest_24 rfl (lv_at hl 2 rfl) ?_
        obtain ⟨hi_2, hf⟩ := i_n hf
        refine la_50 hx hb hE hM hi_2 dX11_longest_25 ?_
        refine lv_if_ne (tgt := 51) hx hb dX11_longest_26 (by decide) (fun hc_6 => ?_) (fun hc_6 => ?_)
        · replace hf := i_f hf hc_6
          refine lv_iinc (v := a2 + 1) (lv' := [(2, .int (a2 + 1)), (0, .ref (ga G 41)), (1, .int a1)]) hx hb dX11_longest_51 hl (k := 2) rfl rfl (by decide) rfl (fun ls hl => ?_)
          refine lv_goto (tgt := 4) hx hb dX11_longest_54 (by decide) ?_
          exact ih x_1 a1 (a2 + 1) _ _ _ hf hM hS (lv_sub hl [1, 2, 0] rfl)
        · replace hf := i_t hf hc_6
          refine lv_iload_n hx hb dX11_longest_29 rfl (lv_at hl 1 rfl) ?_
          refine lv_iconst (v := (-1)) hx hb dX11_longest_30 (by decide) ?_
          refine lv_icmp_eq (tgt := 49) hx hb dX11_longest_31 (by decide) (fun hc_5 => ?_) (fun hc_5 => ?_)
          · replace hf := i_t hf hc_5
            refine lv_iload_n hx hb dX11_longest_49 rfl (lv_at hl 2 rfl) ?_
            refine lv_istore_n (lv' := [(1, .int a2), (0, .ref (ga G 41)), (2, .int a2)]) hx hb dX11_longest_50 rfl hl (by decide) rfl (fun ls hl => ?_)
            refine lv_iinc (v := a2 + 1) (lv' := [(2, .int (a2 + 1)), (1, .int a2), (0, .ref (ga G 41))]) hx hb dX11_longest_51 hl (k := 2) rfl rfl (by decide) rfl (fun ls hl => ?_)
            refine lv_goto (tgt := 4) hx hb dX11_longest_54 (by decide) ?_
            exact ih x_1 a2 (a2 + 1) _ _ _ hf hM hS (lv_sub hl [2, 1, 0] rfl)
          · replace hf := i_f hf hc_5
            refine lv_aload_n hx hb dX11_longest_34 rfl (lv_at hl 0 rfl) ?_
            refine gr_45 hx hb hE hM hown w_4_118 dX11_longest_35 ?_
            refine lv_iload_n hx hb dX11_longest_38 rfl (lv_at hl 2 rfl) ?_
            refine la_45 hx hb hE hM hi_2 dX11_longest_39 ?_
            refine lv_aload_n hx hb dX11_longest_40 rfl (lv_at hl 0 rfl) ?_
            refine gr_45 hx hb hE hM hown w_4_118 dX11_longest_41 ?_
            refine lv_iload_n hx hb dX11_longest_44 rfl (lv_at hl 1 rfl) ?_
            obtain ⟨hi_3, hf⟩ := i_n hf
            refine la_45 hx hb hE hM hi_3 dX11_longest_45 ?_
            refine lv_icmp_ge (tgt := 51) hx hb dX11_longest_46 (by decide) (fun hc_4 => ?_) (fun hc_4 => ?_)
            · replace hf := i_t hf hc_4
              refine lv_iinc (v := a2 + 1) (lv' := [(2, .int (a2 + 1)), (0, .ref (ga G 41)), (1, .int a1)]) hx hb dX11_longest_51 hl (k := 2) rfl rfl (by decide) rfl (fun ls hl => ?_)
              refine lv_goto (tgt := 4) hx hb dX11_longest_54 (by decide) ?_
              exact ih x_1 a1 (a2 + 1) _ _ _ hf hM hS (lv_sub hl [1, 2, 0] rfl)
            · replace hf := i_f hf hc_4
              refine lv_iload_n hx hb dX11_longest_49 rfl (lv_at hl 2 rfl) ?_
              refine lv_istore_n (lv' := [(1, .int a2), (0, .ref (ga G 41)), (2, .int a2)]) hx hb dX11_longest_50 rfl hl (by decide) rfl (fun ls hl => ?_)
              refine lv_iinc (v := a2 + 1) (lv' := [(2, .int (a2 + 1)), (1, .int a2), (0, .ref (ga G 41))]) hx hb dX11_longest_51 hl (k := 2) rfl rfl (by decide) rfl (fun ls hl => ?_)
              refine lv_goto (tgt := 4) hx hb dX11_longest_54 (by decide) ?_
              exact ih x_1 a2 (a2 + 1) _ _ _ hf hM hS (lv_sub hl [2, 1, 0] rfl)
set_option maxHeartbeats 4000000 in
set_option maxRecDepth 100000 in
theorem c_X11_longest (l : Launch) (fu nw : Nat) (G : GG) (x x' mo : Me) (r : Int32) (hf : f_X11_longest fu x = some (x', r)) : Met l yX11_longest [.code yX11_longest cX11_longest 3 (some .int)] rm_X11_longest (va_Pc [.ref (ga G 41)] (Pre G nw mo x)) (PI G nw mo x' r) 0 0 (gA G) := by
  refine mt_ofW (cc := cX11_longest) (maxL := 3) (ret := (some .int)) (by decide +kernel) rfl ?_
  intro p e s m args below meth c s₁ B hml hv
  obtain ⟨rfl, hE, hM⟩ := hv
  have hx := B.exec
  have hb := B.bytes
  have hr := B.returns
  have hown : s.vm.findClass RX11 = some m.cls := findClass_of_methodNamed B.named
  have hlocks := B.notSynchronized
  have hS : va_S (gA G) s.heap s.heap [] := va_S.rf
  have hl := lv_entry ([.ref (ga G 41)]) (n := 3) (Nat.le_of_ble_eq_true rfl)
  rw [lg_entry_eq]
  generalize (lg_sl ([.ref (ga G 41)]) ++ List.replicate (3 - (lg_sl ([.ref (ga G 41)])).length) Slot.unset).toArray = ls at hl ⊢
  have hl : lv_has ls 3 [(0, .ref (ga G 41))] := hl
  generalize ([.ref (ga G 41)] : List Value).toArray = args
  unfold f_X11_longest at hf
  refine lv_iconst (v := (-1)) hx hb dX11_longest_0 (by decide) ?_
  refine lv_istore_n (lv' := [(1, .int (-1)), (0, .ref (ga G 41))]) hx hb dX11_longest_1 rfl hl (by decide) rfl (fun ls hl => ?_)
  refine lv_iconst (v := 0) hx hb dX11_longest_2 (by decide) ?_
  refine lv_istore_n (lv' := [(2, .int 0), (1, .int (-1)), (0, .ref (ga G 41))]) hx hb dX11_longest_3 rfl hl (by decide) rfl (fun ls hl => ?_)
  refine wk_X11_longest_4 hx hb hml hown hE hr hlocks ?_ fu x (-1) 0 _ _ _ hf hM hS (lv_sub hl [2, 1, 0] rfl)
  intro x_9 a1_9 H locs ls hf hM hS hl
  refine lv_iload_n hx hb dX11_longest_57 rfl (lv_at hl 0 rfl) ?_
  exact rt_iM hx hb hr hf hM hS dX11_longest_58 hlocks
theorem k_X11_longest {p : Program} {l : Launch} {e : Env} {R : Room} {s : State} {m : MethodId} {args : Array Value} {below : List Frame} {meth : Method} {c : Code} {H : Heap} {locs : List Loc} {cells slots : Nat} {Q : State → Prop} {cc : ByteArray} {pc nL : Nat} {ls : Array Slot} {rest : List Value} {G : GG} {fu nw : Nat} {x x' mo : Me} {own : String} {index : Nat} {r : Int32} (hx : p.tables.exec = Jvm.exec) (hb : c.code = cc) (hml : c.maxLocals = nL) (hown : s.vm.findClass own = some m.cls) (hE : EnvP G s) (hM : MemP G nw mo x H) (hS : va_S (gA G) s.heap H locs) (hw : Cond.methodLink own index yX11_longest ∈ lw_tbl) (hf : f_X11_longest fu x = some (x', r)) (h1 : 1 + 1 ≤ R.frames) (h2 : 8 + (3 + 11) + 21 ≤ R.locals) (hsz : ls.size = nL) (hW : (rest.map fun v => v.category).sum ≤ 8) (hcs : cells ≤ R.cells ∧ slots ≤ R.slots) (hdg : decode cc pc = .ok (.invokevirtual index, 3)) (kk : ∀ (H1 : Heap) (locs1 : List Loc), MemP G nw mo x' H1 → va_S (gA G) s.heap H1 locs1 → W p l e R s m args below meth c H1 locs1 cells slots Q (F0 m (pc + 3) ls (.int r :: rest))) : W p l e R s m args below meth c H locs cells slots Q (F0 m pc ls (.ref (ga G 41) :: rest)) := mm_ki hS (mm_runV (n := 0) (o := 41) (C := RX11) (T := TX11) (N := 54) (ci := 11) (As := []) hx hb hml hown hE hM hS (c_X11_longest l fu nw G x x' mo _ hf) (List.forall_mem_cons.mpr ⟨⟨hw, rfl⟩, List.forall_mem_cons.mpr ⟨⟨w_5_98, rfl⟩, List.forall_mem_cons.mpr ⟨⟨w_0_36, rfl⟩, List.forall_mem_cons.mpr ⟨⟨w_1_11, rfl⟩, List.forall_mem_cons.mpr ⟨⟨w_5_99, rfl⟩, fun _ h => absurd h List.not_mem_nil⟩⟩⟩⟩⟩) rfl rfl ⟨rfl, by decide, by decide, by decide +kernel⟩ ⟨h1, h2⟩ rfl rfl rfl hsz rfl hW hdg hcs) kk
def f_X11_choose_18 (fu : Nat) (b1 : Int32) (k : Me → Int32 → Option (Me × Int32)) : Nat → Me → Int32 → Int32 → Option (Me × Int32)
  | 0 => fun _ _ _ => none
  | n + 1 => fun x a2 a3 => if (x 17 0) ≤ a3 then k x a2 else ob (f_X11_isBarred fu x a3) (fun x_1 r_1 => jn (fun (x_2 : Me) (s_2 : Int32) => if inb a3 17 = true then f_X11_choose_18 fu b1 k n (mu x_2 23 a3.toNatClampNeg (vp_nar .boolean 0)) (a2 + s_2) (a3 + 1) else none) (fun j_2 => if r_1 = 0 then j_2 x_1 1 else j_2 x_1 0))
def f_X11_choose_89 (fu : Nat) (b2 : Int32) (k : Me → Option (Me × Int32)) : Nat → Me → Int32 → Option (Me × Int32)
  | 0 => fun _ _ => none
  | n + 1 => fun x a3 => if (x 30 0) ≤ a3 then k x else if ((x 30 0) - ((x 30 0) / 3)) ≤ a3 then ob (f_X11_drawnWard fu x (b2 - a3)) (fun x_8 r_8 => if inb r_8 17 = true then f_X11_choose_89 fu b2 k n (mu x_8 23 r_8.toNatClampNeg (vp_nar .boolean 1)) (a3 + 1) else none) else ob (f_X11_longest fu x) (fun x_10 r_10 => if inb r_10 17 = true then f_X11_choose_89 fu b2 k n (mu x_10 23 r_10.toNatClampNeg (vp_nar .boolean 1)) (a3 + 1) else none)
def f_X11_choose (fu : Nat) (x : Me) (a1 : Int32) : Option (Me × Int32) := if (x 4 0) = 0 then f_X11_choose_18 fu a1 (fun (x_6 : Me) (a2_6 : Int32) => ob (f_X11_lawOf fu x_6 0 (x_6 3 0)) (fun x_7 r_7 => if 2 ≤ (if r_7 < a2_6 then r_7 else a2_6) then f_X11_choose_89 fu a2_6 (fun (x_14 : Me) => some ((mu x_14 4 0 1), x_14 30 0)) fu (mu (mu x_7 30 0 (if r_7 < a2_6 then r_7 else a2_6)) 29 0 a1) 0 else some ((mu x_7 30 0 (if r_7 < a2_6 then r_7 else a2_6)), (-1)))) fu (mu x 0 0 0) 0 0 else some ((mu x 0 0 0), (-1))
def rm_X11_choose : Room := { frames := 2, cells := 0, slots := 0, locals := 44 }
set_option maxHeartbeats 4000000 in
set_option maxRecDepth 100000 in
theorem wk_X11_choose_18 {p : Program} {l : Launch} {e : Env} {s : State} {m : MethodId} {args : Array Value} {below : List Frame} {meth : Method} {c : Code} {fu nw : Nat} {G : GG} {mo : Me} {b1 : Int32} (hx : p.tables.exec = Jvm.exec) (hb : c.code = cX11_choose) (hml : c.maxLocals = 5) (hown : s.vm.findClass RX11 = some m.cls) (hE : EnvP G s) (hr : meth.sig.returnType = (some .int)) (hlocks : meth.locks = false) {x' : Me} {r : Int32} {k : Me → Int32 → Option (Me × Int32)} (hk : ∀ (x : Me) (a2 : Int32) (H : Heap) (locs : List Loc) (ls : Array Slot), k x a2 = some (x', r) → MemP G nw mo x H → va_S (gA G) s.heap H locs → lv_has ls 5 [(0, .ref (ga G 41)), (1, .int b1), (2, .int a2)] → W p l e rm_X11_choose s m args below meth c H locs 0 0 (MQ below (PI G nw mo x' r) args s 0 0 (gA G)) (F0 m 55 ls [])) : ∀ (n : Nat) (x : Me) (a2 : Int32) (a3 : Int32) (H : Heap) (locs : List Loc) (ls : Array Slot), f_X11_choose_18 fu b1 k n x a2 a3 = some (x', r) → MemP G nw mo x H → va_S (gA G) s.heap H locs → lv_has ls 5 [(0, .ref (ga G 41)), (1, .int b1), (2, .int a2), (3, .int a3)] → W p l e rm_X11_choose s m args below meth c H locs 0 0 (MQ below (PI G nw mo x' r) args s 0 0 (gA G)) (F0 m 18 ls []) := by
  intro n
  induction n with
  | zero =>
    intro x a2 a3 H locs ls hf hM hS hl
    exact nn hf
  | succ n ih =>
    intro x a2 a3 H locs ls hf hM hS hl
    rw [f_X11_choose_18] at hf
    refine lv_iload_n hx hb dX11_choose_18 rfl (lv_at hl 3 rfl) ?_
    refine lv_aload_n hx hb dX11_choose_19 rfl (lv_at hl 0 rfl) ?_
    refine gm_17 hx hb hE hM hown w_4_117 dX11_choose_20 ?_
    refine lv_icmp_ge (tgt := 55) hx hb dX11_choose_23 (by decide) (fun hc_5 => ?_) (fun hc_5 => ?_)
    · replace hf := i_t hf hc_5
      exact hk x a2 _ _ _ hf hM hS (lv_sub hl [0, 1, 2] rfl)
    · replace hf := i_f hf hc_5
      refine lv_iload_n hx hb dX11_choose_26 rfl (lv_at hl 2 rfl) ?_
      refine lv_aload_n hx hb dX11_choose_27 rfl (lv_at hl 0 rfl) ?_
      refine lv_iload_n hx hb dX11_choose_28 rfl (lv_at hl 3 rfl) ?_
      obtain ⟨x_1, r_1, hq_1, hf⟩ := ob_some hf
      refine k_X11_isBarred hx hb hml hown hE hM hS w_5_91 hq_1 (Nat.le_of_ble_eq_true rfl) (Nat.le_of_ble_eq_true rfl) hl.1 (Nat.le_of_ble_eq_true rfl) ⟨Nat.zero_le _, Nat.zero_le _⟩ dX11_choose_29 (fun H locs hM hS => ?_)
      have hj_2 : ∀ (x_2 : Me) (s_2 : Int32) (H : Heap) (locs : List Loc) (ls : Array Slot), jnA hf x_2 s_2 = some (x', r) → MemP G nw mo x_2 H → va_S (gA G) s.heap H locs → lv_has ls 5 [(0, .ref (ga G 41)), (1, .int b1), (3, .int a3)] → W p l e rm_X11_choose s m args below meth c H locs 0 0 (MQ below (PI G nw mo x' r) args s 0 0 (gA G)) (F0 m 40 ls [.int s_2, .int a2]) := by
        intro x_2 s_2 H locs ls hf hM hS hl
        refine lv_iadd hx hb dX11_choose_40 ?_
        refine lv_istore_n (lv' := [(2, .int (a2 + s_2)), (0, .ref (ga G 41)), (1, .int b1), (3, .int a3)]) hx hb dX11_choose_41 rfl hl (by decide) rfl (fun ls hl => ?_)
        refine lv_aload_n hx hb dX11_choose_42 rfl (lv_at hl 1 rfl) ?_
        refine gr_50 hx hb hE hM hown w_4_123 dX11_choose_43 ?_
        refine lv_iload_n hx hb dX11_choose_46 rfl (lv_at hl 3 rfl) ?_
        refine lv_iconst (v := 0) hx hb dX11_choose_47 (by decide) ?_
        obtain ⟨hi_3, hf⟩ := i_n hf
        refine sa_50 hx hb hE hM hS hi_3 dX11_choose_48 (fun H locs hM hS => ?_)
        refine lv_iinc (v := a3 + 1) (lv' := [(3, .int (a3 + 1)), (2, .int (a2 + s_2)), (0, .ref (ga G 41)), (1, .int b1)]) hx hb dX11_choose_49 hl (k := 3) rfl rfl (by decide) rfl (fun ls hl => ?_)
        refine lv_goto (tgt := 18) hx hb dX11_choose_52 (by decide) ?_
        exact ih (mu x_2 23 a3.toNatClampNeg (vp_nar .boolean 0)) (a2 + s_2) (a3 + 1) _ _ _ hf hM hS (lv_sub hl [2, 3, 1, 0] rfl)
      replace hf := jn_use hf
      refine lv_if_eq (tgt := 39) hx hb dX11_choose_32 (by decide) (fun hc_4 => ?_) (fun hc_4 => ?_)
      · replace hf := i_t hf hc_4
        refine lv_iconst (v := 1) hx hb dX11_choose_39 (by decide) ?_
        exact hj_2 x_1 1 _ _ _ hf hM hS (lv_sub hl [0, 1, 3] rfl)
      · replace hf := i_f hf hc_4
        refine lv_iconst (v := 0) hx hb dX11_choose_35 (by decide) ?_
        refine lv_goto (tgt := 40) hx hb dX11_choose_36 (by decide) ?_
        exact hj_2 x_1 0 _ _ _ hf hM hS (lv_sub hl [0, 1, 3] rfl)
set_option maxHeartbeats 4000000 in
set_option maxRecDepth 100000 in
theorem wk_X11_choose_89 {p : Program} {l : Launch} {e : Env} {s : State} {m : MethodId} {args : Array Value} {below : List Frame} {meth : Method} {c : Code} {fu nw : Nat} {G : GG} {mo : Me} {b2 : Int32} (hx : p.tables.exec = Jvm.exec) (hb : c.code = cX11_choose) (hml : c.maxLocals = 5) (hown : s.vm.findClass RX11 = some m.cls) (hE : EnvP G s) (hr : meth.sig.returnType = (some .int)) (hlocks : meth.locks = false) {x' : Me} {r : Int32} {k : Me → Option (Me × Int32)} (hk : ∀ (x : Me) (H : Heap) (locs : List Loc) (ls : Array Slot), k x = some (x', r) → MemP G nw mo x H → va_S (gA G) s.heap H locs → lv_has ls 5 [(0, .ref (ga G 41))] → W p l e rm_X11_choose s m args below meth c H locs 0 0 (MQ below (PI G nw mo x' r) args s 0 0 (gA G)) (F0 m 142 ls [])) : ∀ (n : Nat) (x : Me) (a3 : Int32) (H : Heap) (locs : List Loc) (ls : Array Slot), f_X11_choose_89 fu b2 k n x a3 = some (x', r) → MemP G nw mo x H → va_S (gA G) s.heap H locs → lv_has ls 5 [(0, .ref (ga G 41)), (2, .int b2), (3, .int a3)] → W p l e rm_X11_choose s m args below meth c H locs 0 0 (MQ below (PI G nw mo x' r) args s 0 0 (gA G)) (F0 m 89 ls []) := by
  intro n
  induction n with
  | zero =>
    intro x a3 H locs ls hf hM hS hl
    exact nn hf
  | succ n ih =>
    intro x a3 H locs ls hf hM hS hl
    rw [f_X11_choose_89] at hf
    refine lv_iload_n hx hb dX11_choose_89 rfl (lv_at hl 2 rfl) ?_
    refine lv_aload_n hx hb dX11_choose_90 rfl (lv_at hl 0 rfl) ?_
    refine gm_30 hx hb hE hM hown w_4_130 dX11_choose_91 ?_
    refine lv_icmp_ge (tgt := 142) hx hb dX11_choose_94 (by decide) (fun hc_13 => ?_) (fun hc_13 => ?_)
    · replace hf := i_t hf hc_13
      exact hk x _ _ _ hf hM hS (lv_sub hl [0] rfl)
    · replace hf := i_f hf hc_13
      refine lv_iload_n hx hb dX11_choose_97 rfl (lv_at hl 2 rfl) ?_
      refine lv_aload_n hx hb dX11_choose_98 rfl (lv_at hl 0 rfl) ?_
      refine gm_30 hx hb hE hM hown w_4_130 dX11_choose_99 ?_
      refine lv_aload_n hx hb dX11_choose_102 rfl (lv_at hl 0 rfl) ?_
      refine gm_30 hx hb hE hM hown w_4_130 dX11_choose_103 ?_
      refine lv_iconst (v := 3) hx hb dX11_choose_106 (by decide) ?_
      refine lv_idiv hx hb dX11_choose_107 (by decide) ?_
      refine lv_isub hx hb dX11_choose_108 ?_
      refine lv_icmp_ge (tgt := 119) hx hb dX11_choose_109 (by decide) (fun hc_12 => ?_) (fun hc_12 => ?_)
      · replace hf := i_t hf hc_12
        refine lv_aload_n hx hb dX11_choose_119 rfl (lv_at hl 0 rfl) ?_
        refine lv_iload_n hx hb dX11_choose_120 rfl (lv_at hl 1 rfl) ?_
        refine lv_iload_n hx hb dX11_choose_121 rfl (lv_at hl 2 rfl) ?_
        refine lv_isub hx hb dX11_choose_122 ?_
        obtain ⟨x_8, r_8, hq_8, hf⟩ := ob_some hf
        refine k_X11_drawnWard hx hb hml hown hE hM hS w_5_100 hq_8 (Nat.le_of_ble_eq_true rfl) (Nat.le_of_ble_eq_true rfl) hl.1 (Nat.le_of_ble_eq_true rfl) ⟨Nat.zero_le _, Nat.zero_le _⟩ dX11_choose_123 (fun H locs hM hS => ?_)
        refine lv_istore (lv' := [(4, .int r_8), (0, .ref (ga G 41)), (2, .int b2), (3, .int a3)]) hx hb dX11_choose_126 hl (by decide) rfl (fun ls hl => ?_)
        refine lv_aload_n hx hb dX11_choose_128 rfl (lv_at hl 1 rfl) ?_
        refine gr_50 hx hb hE hM hown w_4_123 dX11_choose_129 ?_
        refine lv_iload hx hb dX11_choose_132 (lv_at hl 0 rfl) ?_
        refine lv_iconst (v := 1) hx hb dX11_choose_134 (by decide) ?_
        obtain ⟨hi_9, hf⟩ := i_n hf
        refine sa_50 hx hb hE hM hS hi_9 dX11_choose_135 (fun H locs hM hS => ?_)
        refine lv_iinc (v := a3 + 1) (lv' := [(3, .int (a3 + 1)), (4, .int r_8), (0, .ref (ga G 41)), (2, .int b2)]) hx hb dX11_choose_136 hl (k := 3) rfl rfl (by decide) rfl (fun ls hl => ?_)
        refine lv_goto (tgt := 89) hx hb dX11_choose_139 (by decide) ?_
        exact ih (mu x_8 23 r_8.toNatClampNeg (vp_nar .boolean 1)) (a3 + 1) _ _ _ hf hM hS (lv_sub hl [2, 3, 0] rfl)
      · replace hf := i_f hf hc_12
        refine lv_aload_n hx hb dX11_choose_112 rfl (lv_at hl 0 rfl) ?_
        obtain ⟨x_10, r_10, hq_10, hf⟩ := ob_some hf
        refine k_X11_longest hx hb hml hown hE hM hS w_5_96 hq_10 (Nat.le_of_ble_eq_true rfl) (Nat.le_of_ble_eq_true rfl) hl.1 (Nat.le_of_ble_eq_true rfl) ⟨Nat.zero_le _, Nat.zero_le _⟩ dX11_choose_113 (fun H locs hM hS => ?_)
        refine lv_goto (tgt := 126) hx hb dX11_choose_116 (by decide) ?_
        refine lv_istore (lv' := [(4, .int r_10), (0, .ref (ga G 41)), (2, .int b2), (3, .int a3)]) hx hb dX11_choose_126 hl (by decide) rfl (fun ls hl => ?_)
        refine lv_aload_n hx hb dX11_choose_128 rfl (lv_at hl 1 rfl) ?_
        refine gr_50 hx hb hE hM hown w_4_123 dX11_choose_129 ?_
        refine lv_iload hx hb dX11_choose_132 (lv_at hl 0 rfl) ?_
        refine lv_iconst (v := 1) hx hb dX11_choose_134 (by decide) ?_
        obtain ⟨hi_11, hf⟩ := i_n hf
        refine sa_50 hx hb hE hM hS hi_11 dX11_choose_135 (fun H locs hM hS => ?_)
        refine lv_iinc (v := a3 + 1) (lv' := [(3, .int (a3 + 1)), (4, .int r_10), (0, .ref (ga G 41)), (2, .int b2)]) hx hb dX11_choose_136 hl (k := 3) rfl rfl (by decide) rfl (fun ls hl => ?_)
        refine lv_goto (tgt := 89) hx hb dX11_choose_139 (by decide) ?_
        exact ih (mu x_10 23 r_10.toNatClampNeg (vp_nar .boolean 1)) (a3 + 1) _ _ _ hf hM hS (lv_sub hl [2, 3, 0] rfl)
set_option maxHeartbeats 4000000 in
set_option maxRecDepth 100000 in
theorem c_X11_choose (l : Launch) (fu nw : Nat) (G : GG) (x x' mo : Me) (a1 : Int32) (r : Int32) (hf : f_X11_choose fu x a1 = some (x', r)) : Met l yX11_choose [.code yX11_choose cX11_choose 5 (some .int)] rm_X11_choose (va_Pc [.ref (ga G 41), .int a1] (Pre G nw mo x)) (PI G nw mo x' r) 0 0 (gA G) := by
  refine mt_ofW (cc := cX11_choose) (maxL := 5) (ret := (some .int)) (by decide +kernel) rfl ?_
  intro p e s m args below meth c s₁ B hml hv
  obtain ⟨rfl, hE, hM⟩ := hv
  have hx := B.exec
  have hb := B.bytes
  have hr := B.returns
  have hown : s.vm.findClass RX11 = some m.cls := findClass_of_methodNamed B.named
  have hlocks := B.notSynchronized
  have hS : va_S (gA G) s.heap s.heap [] := va_S.rf
  have hl := lv_entry ([.ref (ga G 41), .int a1]) (n := 5) (Nat.le_of_ble_eq_true rfl)
  rw [lg_entry_eq]
  generalize (lg_sl ([.ref (ga G 41), .int a1]) ++ List.replicate (5 - (lg_sl ([.ref (ga G 41), .int a1])).length) Slot.unset).toArray = ls at hl ⊢
  have hl : lv_has ls 5 [(0, .ref (ga G 41)), (1, .int a1)] := hl
  generalize ([.ref (ga G 41), .int a1] : List Value).toArray = args
  unfold f_X11_choose at hf
  refine lv_aload_n hx hb dX11_choose_0 rfl (lv_at hl 0 rfl) ?_
  refine lv_iconst (v := 0) hx hb dX11_choose_1 (by decide) ?_
  refine pm_0 hx hb hE hM hS hown w_4_100 dX11_choose_2 (fun H locs hM hS => ?_)
  refine lv_aload_n hx hb dX11_choose_5 rfl (lv_at hl 0 rfl) ?_
  refine gm_4 hx hb hE hM hown w_4_104 dX11_choose_6 ?_
  refine lv_if_eq (tgt := 14) hx hb dX11_choose_9 (by decide) (fun hc_16 => ?_) (fun hc_16 => ?_)
  · replace hf := i_t hf hc_16
    refine lv_iconst (v := 0) hx hb dX11_choose_14 (by decide) ?_
    refine lv_istore_n (lv' := [(2, .int 0), (0, .ref (ga G 41)), (1, .int a1)]) hx hb dX11_choose_15 rfl hl (by decide) rfl (fun ls hl => ?_)
    refine lv_iconst (v := 0) hx hb dX11_choose_16 (by decide) ?_
    refine lv_istore_n (lv' := [(3, .int 0), (2, .int 0), (0, .ref (ga G 41)), (1, .int a1)]) hx hb dX11_choose_17 rfl hl (by decide) rfl (fun ls hl => ?_)
    refine wk_X11_choose_18 hx hb hml hown hE hr hlocks ?_ fu (mu x 0 0 0) 0 0 _ _ _ hf hM hS (lv_sub hl [2, 3, 1, 0] rfl)
    intro x_6 a2_6 H locs ls hf hM hS hl
    refine lv_aload_n hx hb dX11_choose_55 rfl (lv_at hl 0 rfl) ?_
    refine lv_iload_n hx hb dX11_choose_56 rfl (lv_at hl 2 rfl) ?_
    refine lv_aload_n hx hb dX11_choose_57 rfl (lv_at hl 0 rfl) ?_
    refine lv_iconst (v := 0) hx hb dX11_choose_58 (by decide) ?_
    refine lv_aload_n hx hb dX11_choose_59 rfl (lv_at hl 0 rfl) ?_
    refine gm_3 hx hb hE hM hown w_4_103 dX11_choose_60 ?_
    obtain ⟨x_7, r_7, hq_7, hf⟩ := ob_some hf
    refine k_X11_lawOf hx hb hml hown hE hM hS w_5_71 hq_7 (Nat.le_of_ble_eq_true rfl) (Nat.le_of_ble_eq_true rfl) hl.1 (Nat.le_of_ble_eq_true rfl) ⟨Nat.zero_le _, Nat.zero_le _⟩ dX11_choose_63 (fun H locs hM hS => ?_)
    refine va_mmin hx hb (by rw [hml]; exact hl.1.symm) hown (ew hE w_5_95 rfl) (ew hE w_2_92 rfl) (ew hE w_1_12 rfl) (ew hE w_2_93 rfl) (Nat.le_of_ble_eq_true rfl) (Nat.le_of_ble_eq_true rfl) (Nat.zero_le _) (Nat.zero_le _) dX11_choose_66 ?_
    refine pm_30 hx hb hE hM hS hown w_4_130 dX11_choose_69 (fun H locs hM hS => ?_)
    refine lv_aload_n hx hb dX11_choose_72 rfl (lv_at hl 0 rfl) ?_
    refine gm_30 hx hb hE hM hown w_4_130 dX11_choose_73 ?_
    refine lv_iconst (v := 2) hx hb dX11_choose_76 (by decide) ?_
    refine lv_icmp_ge (tgt := 82) hx hb dX11_choose_77 (by decide) (fun hc_15 => ?_) (fun hc_15 => ?_)
    · replace hf := i_t hf hc_15
      refine lv_aload_n hx hb dX11_choose_82 rfl (lv_at hl 0 rfl) ?_
      refine lv_iload_n hx hb dX11_choose_83 rfl (lv_at hl 1 rfl) ?_
      refine pm_29 hx hb hE hM hS hown w_4_129 dX11_choose_84 (fun H locs hM hS => ?_)
      refine lv_iconst (v := 0) hx hb dX11_choose_87 (by decide) ?_
      refine lv_istore_n (lv' := [(3, .int 0), (0, .ref (ga G 41)), (1, .int a1), (2, .int a2_6)]) hx hb dX11_choose_88 rfl hl (by decide) rfl (fun ls hl => ?_)
      refine wk_X11_choose_89 hx hb hml hown hE hr hlocks ?_ fu (mu (mu x_7 30 0 (if r_7 < a2_6 then r_7 else a2_6)) 29 0 a1) 0 _ _ _ hf hM hS (lv_sub hl [1, 3, 0] rfl)
      intro x_14 H locs ls hf hM hS hl
      refine lv_aload_n hx hb dX11_choose_142 rfl (lv_at hl 0 rfl) ?_
      refine lv_iconst (v := 1) hx hb dX11_choose_143 (by decide) ?_
      refine pm_4 hx hb hE hM hS hown w_4_104 dX11_choose_144 (fun H locs hM hS => ?_)
      refine lv_aload_n hx hb dX11_choose_147 rfl (lv_at hl 0 rfl) ?_
      refine gm_30 hx hb hE hM hown w_4_130 dX11_choose_148 ?_
      exact rt_iM hx hb hr hf hM hS dX11_choose_151 hlocks
    · replace hf := i_f hf hc_15
      refine lv_iconst (v := (-1)) hx hb dX11_choose_80 (by decide) ?_
      exact rt_iM hx hb hr hf hM hS dX11_choose_81 hlocks
  · replace hf := i_f hf hc_16
    refine lv_iconst (v := (-1)) hx hb dX11_choose_12 (by decide) ?_
    exact rt_iM hx hb hr hf hM hS dX11_choose_13 hlocks
theorem k_X11_choose {p : Program} {l : Launch} {e : Env} {R : Room} {s : State} {m : MethodId} {args : Array Value} {below : List Frame} {meth : Method} {c : Code} {H : Heap} {locs : List Loc} {cells slots : Nat} {Q : State → Prop} {cc : ByteArray} {pc nL : Nat} {ls : Array Slot} {rest : List Value} {G : GG} {fu nw : Nat} {x x' mo : Me} {own : String} {index : Nat} {a1 : Int32} {r : Int32} (hx : p.tables.exec = Jvm.exec) (hb : c.code = cc) (hml : c.maxLocals = nL) (hown : s.vm.findClass own = some m.cls) (hE : EnvP G s) (hM : MemP G nw mo x H) (hS : va_S (gA G) s.heap H locs) (hw : Cond.methodLink own index yX11_choose ∈ lw_tbl) (hf : f_X11_choose fu x a1 = some (x', r)) (h1 : 2 + 1 ≤ R.frames) (h2 : 8 + (5 + 11) + 44 ≤ R.locals) (hsz : ls.size = nL) (hW : (rest.map fun v => v.category).sum ≤ 8) (hcs : cells ≤ R.cells ∧ slots ≤ R.slots) (hdg : decode cc pc = .ok (.invokevirtual index, 3)) (kk : ∀ (H1 : Heap) (locs1 : List Loc), MemP G nw mo x' H1 → va_S (gA G) s.heap H1 locs1 → W p l e R s m args below meth c H1 locs1 cells slots Q (F0 m (pc + 3) ls (.int r :: rest))) : W p l e R s m args below meth c H locs cells slots Q (F0 m pc ls (.int a1 :: .ref (ga G 41) :: rest)) := mm_ki hS (mm_runV (n := 1) (o := 41) (C := RX11) (T := TX11) (N := 54) (ci := 11) (As := [.int a1]) hx hb hml hown hE hM hS (c_X11_choose l fu nw G x x' mo a1 _ hf) (List.forall_mem_cons.mpr ⟨⟨hw, rfl⟩, List.forall_mem_cons.mpr ⟨⟨w_5_88, rfl⟩, List.forall_mem_cons.mpr ⟨⟨w_5_89, rfl⟩, List.forall_mem_cons.mpr ⟨⟨w_1_11, rfl⟩, List.forall_mem_cons.mpr ⟨⟨w_5_90, rfl⟩, fun _ h => absurd h List.not_mem_nil⟩⟩⟩⟩⟩) rfl rfl ⟨rfl, by decide, by decide, by decide +kernel⟩ ⟨h1, h2⟩ rfl rfl rfl hsz rfl hW hdg hcs) kk
def f_X11_isAhead_4 (fu : Nat) (b1 : Int32) (k : Me → Option (Me × Int32)) : Nat → Me → Int32 → Int32 → Option (Me × Int32)
  | 0 => fun _ _ _ => none
  | n + 1 => fun x a2 a3 => if (x 26 0) ≤ a3 then k x else if ((b1 >>> (a3 &&& 31)) &&& 1) = 0 then f_X11_isAhead_4 fu b1 k n x a2 (a3 + 1) else if inb a2 10 = true then if (x 31 a2.toNatClampNeg) = a3 then f_X11_isAhead_4 fu b1 k n x (a2 + 1) (a3 + 1) else if (x 31 a2.toNatClampNeg) ≤ a3 then some (x, 0) else some (x, 1) else none
def f_X11_isAhead (fu : Nat) (x : Me) (a1 : Int32) : Option (Me × Int32) := f_X11_isAhead_4 fu a1 (fun (x_6 : Me) => some (x_6, 0)) fu x 0 0
def rm_X11_isAhead : Room := { frames := 0, cells := 0, slots := 0, locals := 0 }
set_option maxHeartbeats 4000000 in
set_option maxRecDepth 100000 in
theorem wk_X11_isAhead_4 {p : Program} {l : Launch} {e : Env} {s : State} {m : MethodId} {args : Array Value} {below : List Frame} {meth : Method} {c : Code} {fu nw : Nat} {G : GG} {mo : Me} {b1 : Int32} (hx : p.tables.exec = Jvm.exec) (hb : c.code = cX11_isAhead) (hml : c.maxLocals = 4) (hown : s.vm.findClass RX11 = some m.cls) (hE : EnvP G s) (hr : meth.sig.returnType = (some .boolean)) (hlocks : meth.locks = false) {x' : Me} {r : Int32} {k : Me → Option (Me × Int32)} (hk : ∀ (x : Me) (H : Heap) (locs : List Loc) (ls : Array Slot), k x = some (x', r) → MemP G nw mo x H → va_S (gA G) s.heap H locs → lv_has ls 4 [] → W p l e rm_X11_isAhead s m args below meth c H locs 0 0 (MQ below (PI G nw mo x' r) args s 0 0 (gA G)) (F0 m 58 ls [])) : ∀ (n : Nat) (x : Me) (a2 : Int32) (a3 : Int32) (H : Heap) (locs : List Loc) (ls : Array Slot), f_X11_isAhead_4 fu b1 k n x a2 a3 = some (x', r) → MemP G nw mo x H → va_S (gA G) s.heap H locs → lv_has ls 4 [(0, .ref (ga G 41)), (1, .int b1), (2, .int a2), (3, .int a3)] → W p l e rm_X11_isAhead s m args below meth c H locs 0 0 (MQ below (PI G nw mo x' r) args s 0 0 (gA G)) (F0 m 4 ls []) := by
  intro n
  induction n with
  | zero =>
    intro x a2 a3 H locs ls hf hM hS hl
    exact nn hf
  | succ n ih =>
    intro x a2 a3 H locs ls hf hM hS hl
    rw [f_X11_isAhead_4] at hf
    refine lv_iload_n hx hb dX11_isAhead_4 rfl (lv_at hl 3 rfl) ?_
    refine lv_aload_n hx hb dX11_isAhead_5 rfl (lv_at hl 0 rfl) ?_
    refine gm_26 hx hb hE hM hown w_4_126 dX11_isAhead_6 ?_
    refine lv_icmp_ge (tgt := 58) hx hb dX11_isAhead_9 (by decide) (fun hc_5 => ?_) (fun hc_5 => ?_)
    · replace hf := i_t hf hc_5
      exact hk x _ _ _ hf hM hS (lv_sub hl [] rfl)
    · replace hf := i_f hf hc_5
      refine lv_iload_n hx hb dX11_isAhead_12 rfl (lv_at hl 1 rfl) ?_
      refine lv_iload_n hx hb dX11_isAhead_13 rfl (lv_at hl 3 rfl) ?_
      refine lv_ishr hx hb dX11_isAhead_14 ?_
      refine lv_iconst (v := 1) hx hb dX11_isAhead_15 (by decide) ?_
      refine lv_iand hx hb dX11_isAhead_16 ?_
      refine lv_if_ne (tgt := 23) hx hb dX11_isAhead_17 (by decide) (fun hc_4 => ?_) (fun hc_4 => ?_)
      · replace hf := i_f hf hc_4
        refine lv_aload_n hx hb dX11_isAhead_23 rfl (lv_at hl 0 rfl) ?_
        refine gr_55 hx hb hE hM hown w_4_131 dX11_isAhead_24 ?_
        refine lv_iload_n hx hb dX11_isAhead_27 rfl (lv_at hl 2 rfl) ?_
        obtain ⟨hi_1, hf⟩ := i_n hf
        refine la_55 hx hb hE hM hi_1 dX11_isAhead_28 ?_
        refine lv_iload_n hx hb dX11_isAhead_29 rfl (lv_at hl 3 rfl) ?_
        refine lv_icmp_eq (tgt := 49) hx hb dX11_isAhead_30 (by decide) (fun hc_3 => ?_) (fun hc_3 => ?_)
        · replace hf := i_t hf hc_3
          refine lv_iinc (v := a2 + 1) (lv' := [(2, .int (a2 + 1)), (0, .ref (ga G 41)), (1, .int b1), (3, .int a3)]) hx hb dX11_isAhead_49 hl (k := 2) rfl rfl (by decide) rfl (fun ls hl => ?_)
          refine lv_iinc (v := a3 + 1) (lv' := [(3, .int (a3 + 1)), (2, .int (a2 + 1)), (0, .ref (ga G 41)), (1, .int b1)]) hx hb dX11_isAhead_52 hl (k := 3) rfl rfl (by decide) rfl (fun ls hl => ?_)
          refine lv_goto (tgt := 4) hx hb dX11_isAhead_55 (by decide) ?_
          exact ih x (a2 + 1) (a3 + 1) _ _ _ hf hM hS (lv_sub hl [2, 3, 1, 0] rfl)
        · replace hf := i_f hf hc_3
          refine lv_iload_n hx hb dX11_isAhead_33 rfl (lv_at hl 3 rfl) ?_
          refine lv_aload_n hx hb dX11_isAhead_34 rfl (lv_at hl 0 rfl) ?_
          refine gr_55 hx hb hE hM hown w_4_131 dX11_isAhead_35 ?_
          refine lv_iload_n hx hb dX11_isAhead_38 rfl (lv_at hl 2 rfl) ?_
          refine la_55 hx hb hE hM hi_1 dX11_isAhead_39 ?_
          refine lv_icmp_ge (tgt := 47) hx hb dX11_isAhead_40 (by decide) (fun hc_2 => ?_) (fun hc_2 => ?_)
          · replace hf := i_t hf hc_2
            refine lv_iconst (v := 0) hx hb dX11_isAhead_47 (by decide) ?_
            exact rt_zM hx hb hr rfl hf hM hS dX11_isAhead_48 hlocks
          · replace hf := i_f hf hc_2
            refine lv_iconst (v := 1) hx hb dX11_isAhead_43 (by decide) ?_
            refine lv_goto (tgt := 48) hx hb dX11_isAhead_44 (by decide) ?_
            exact rt_zM hx hb hr rfl hf hM hS dX11_isAhead_48 hlocks
      · replace hf := i_t hf hc_4
        refine lv_goto (tgt := 52) hx hb dX11_isAhead_20 (by decide) ?_
        refine lv_iinc (v := a3 + 1) (lv' := [(3, .int (a3 + 1)), (0, .ref (ga G 41)), (1, .int b1), (2, .int a2)]) hx hb dX11_isAhead_52 hl (k := 3) rfl rfl (by decide) rfl (fun ls hl => ?_)
        refine lv_goto (tgt := 4) hx hb dX11_isAhead_55 (by decide) ?_
        exact ih x a2 (a3 + 1) _ _ _ hf hM hS (lv_sub hl [1, 2, 3, 0] rfl)
set_option maxHeartbeats 4000000 in
set_option maxRecDepth 100000 in
theorem c_X11_isAhead (l : Launch) (fu nw : Nat) (G : GG) (x x' mo : Me) (a1 : Int32) (r : Int32) (hf : f_X11_isAhead fu x a1 = some (x', r)) : Met l yX11_isAhead [.code yX11_isAhead cX11_isAhead 4 (some .boolean)] rm_X11_isAhead (va_Pc [.ref (ga G 41), .int a1] (Pre G nw mo x)) (PI G nw mo x' r) 0 0 (gA G) := by
  refine mt_ofW (cc := cX11_isAhead) (maxL := 4) (ret := (some .boolean)) (by decide +kernel) rfl ?_
  intro p e s m args below meth c s₁ B hml hv
  obtain ⟨rfl, hE, hM⟩ := hv
  have hx := B.exec
  have hb := B.bytes
  have hr := B.returns
  have hown : s.vm.findClass RX11 = some m.cls := findClass_of_methodNamed B.named
  have hlocks := B.notSynchronized
  have hS : va_S (gA G) s.heap s.heap [] := va_S.rf
  have hl := lv_entry ([.ref (ga G 41), .int a1]) (n := 4) (Nat.le_of_ble_eq_true rfl)
  rw [lg_entry_eq]
  generalize (lg_sl ([.ref (ga G 41), .int a1]) ++ List.replicate (4 - (lg_sl ([.ref (ga G 41), .int a1])).length) Slot.unset).toArray = ls at hl ⊢
  have hl : lv_has ls 4 [(0, .ref (ga G 41)), (1, .int a1)] := hl
  generalize ([.ref (ga G 41), .int a1] : List Value).toArray = args
  unfold f_X11_isAhead at hf
  refine lv_iconst (v := 0) hx hb dX11_isAhead_0 (by decide) ?_
  refine lv_istore_n (lv' := [(2, .int 0), (0, .ref (ga G 41)), (1, .int a1)]) hx hb dX11_isAhead_1 rfl hl (by decide) rfl (fun ls hl => ?_)
  refine lv_iconst (v := 0) hx hb dX11_isAhead_2 (by decide) ?_
  refine lv_istore_n (lv' := [(3, .int 0), (2, .int 0), (0, .ref (ga G 41)), (1, .int a1)]) hx hb dX11_isAhead_3 rfl hl (by decide) rfl (fun ls hl => ?_)
  refine wk_X11_isAhead_4 hx hb hml hown hE hr hlocks ?_ fu x 0 0 _ _ _ hf hM hS (lv_sub hl [2, 3, 1, 0] rfl)
  intro x_6 H locs ls hf hM hS hl
  refine lv_iconst (v := 0) hx hb dX11_isAhead_58 (by decide) ?_
  exact rt_zM hx hb hr rfl hf hM hS dX11_isAhead_59 hlocks
theorem k_X11_isAhead {p : Program} {l : Launch} {e : Env} {R : Room} {s : State} {m : MethodId} {args : Array Value} {below : List Frame} {meth : Method} {c : Code} {H : Heap} {locs : List Loc} {cells slots : Nat} {Q : State → Prop} {cc : ByteArray} {pc nL : Nat} {ls : Array Slot} {rest : List Value} {G : GG} {fu nw : Nat} {x x' mo : Me} {own : String} {index : Nat} {a1 : Int32} {r : Int32} (hx : p.tables.exec = Jvm.exec) (hb : c.code = cc) (hml : c.maxLocals = nL) (hown : s.vm.findClass own = some m.cls) (hE : EnvP G s) (hM : MemP G nw mo x H) (hS : va_S (gA G) s.heap H locs) (hw : Cond.methodLink own index yX11_isAhead ∈ lw_tbl) (hf : f_X11_isAhead fu x a1 = some (x', r)) (h1 : 0 + 1 ≤ R.frames) (h2 : 8 + (4 + 11) + 0 ≤ R.locals) (hsz : ls.size = nL) (hW : (rest.map fun v => v.category).sum ≤ 8) (hcs : cells ≤ R.cells ∧ slots ≤ R.slots) (hdg : decode cc pc = .ok (.invokevirtual index, 3)) (kk : ∀ (H1 : Heap) (locs1 : List Loc), MemP G nw mo x' H1 → va_S (gA G) s.heap H1 locs1 → W p l e R s m args below meth c H1 locs1 cells slots Q (F0 m (pc + 3) ls (.int r :: rest))) : W p l e R s m args below meth c H locs cells slots Q (F0 m pc ls (.int a1 :: .ref (ga G 41) :: rest)) := mm_ki hS (mm_runV (n := 1) (o := 41) (C := RX11) (T := TX11) (N := 54) (ci := 11) (As := [.int a1]) hx hb hml hown hE hM hS (c_X11_isAhead l fu nw G x x' mo a1 _ hf) (List.forall_mem_cons.mpr ⟨⟨hw, rfl⟩, List.forall_mem_cons.mpr ⟨⟨w_5_120, rfl⟩, List.forall_mem_cons.mpr ⟨⟨w_0_40, rfl⟩, List.forall_mem_cons.mpr ⟨⟨w_1_11, rfl⟩, List.forall_mem_cons.mpr ⟨⟨w_5_121, rfl⟩, fun _ h => absurd h List.not_mem_nil⟩⟩⟩⟩⟩) rfl rfl ⟨rfl, by decide, by decide, by decide +kernel⟩ ⟨h1, h2⟩ rfl rfl rfl hsz rfl hW hdg hcs) kk
def f_X11_tries_12 (fu : Nat) (b1 : Int32) (k : Me → Int32 → Int32 → Int32 → Option (Me × Unit)) : Nat → Me → Int32 → Int32 → Int32 → Int32 → Option (Me × Unit)
  | 0 => fun _ _ _ _ _ => none
  | n + 1 => fun x a2 a3 a4 a5 => if (x 26 0) ≤ a5 then k x a2 a3 a4 else if ((b1 >>> (a5 &&& 31)) &&& 1) = 0 then f_X11_tries_12 fu b1 k n x a2 a3 a4 (a5 + 1) else if inb a5 16 = true then if (x 28 a5.toNatClampNeg) = 0 then some (x, ()) else f_X11_tries_12 fu b1 k n x (a2 + 1) (if (x 27 a5.toNatClampNeg) < a3 then (x 27 a5.toNatClampNeg) else a3) (if a4 < (x 27 a5.toNatClampNeg) then (x 27 a5.toNatClampNeg) else a4) (a5 + 1) else none
def f_X11_tries_140 (fu : Nat) (b1 : Int32) (k : Me → Option (Me × Unit)) : Nat → Me → Int32 → Int32 → Option (Me × Unit)
  | 0 => fun _ _ _ => none
  | n + 1 => fun x a5 a6 => if (x 26 0) ≤ a6 then k x else if ((b1 >>> (a6 &&& 31)) &&& 1) = 0 then f_X11_tries_140 fu b1 k n x a5 (a6 + 1) else if inb a5 10 = true then f_X11_tries_140 fu b1 k n (mu x 31 a5.toNatClampNeg a6) (a5 + 1) (a6 + 1) else none
def f_X11_tries (fu : Nat) (x : Me) (a1 : Int32) : Option (Me × Unit) := f_X11_tries_12 fu a1 (fun (x_5 : Me) (a2_5 : Int32) (a3_5 : Int32) (a4_5 : Int32) => if a2_5 = (x_5 30 0) then jn (fun (x_6 : Me) => f_X11_tries_140 fu a1 (fun (x_10 : Me) => some (x_10, ())) fu (mu x_6 34 0 (a4_5 - a3_5)) 0 0) (fun j_6 => if (x_5 34 0) = (-1) then j_6 x_5 else if (x_5 34 0) < (a4_5 - a3_5) then some (x_5, ()) else if (a4_5 - a3_5) = (x_5 34 0) then ob (f_X11_isAhead fu x_5 a1) (fun x_11 r_11 => if r_11 = 0 then some (x_11, ()) else j_6 x_11) else j_6 x_5) else some (x_5, ())) fu x 0 1000 (-1) 0
def rm_X11_tries : Room := { frames := 1, cells := 0, slots := 0, locals := 23 }
set_option maxHeartbeats 4000000 in
set_option maxRecDepth 100000 in
theorem wk_X11_tries_12 {p : Program} {l : Launch} {e : Env} {s : State} {m : MethodId} {args : Array Value} {below : List Frame} {meth : Method} {c : Code} {fu nw : Nat} {G : GG} {mo : Me} {b1 : Int32} (hx : p.tables.exec = Jvm.exec) (hb : c.code = cX11_tries) (hml : c.maxLocals = 7) (hown : s.vm.findClass RX11 = some m.cls) (hE : EnvP G s) (hr : meth.sig.returnType = none) (hlocks : meth.locks = false) {x' : Me} {r : Unit} {k : Me → Int32 → Int32 → Int32 → Option (Me × Unit)} (hk : ∀ (x : Me) (a2 : Int32) (a3 : Int32) (a4 : Int32) (H : Heap) (locs : List Loc) (ls : Array Slot), k x a2 a3 a4 = some (x', r) → MemP G nw mo x H → va_S (gA G) s.heap H locs → lv_has ls 7 [(0, .ref (ga G 41)), (1, .int b1), (2, .int a2), (3, .int a3), (4, .int a4)] → W p l e rm_X11_tries s m args below meth c H locs 0 0 (MQ below (PV G nw mo x') args s 0 0 (gA G)) (F0 m 79 ls [])) : ∀ (n : Nat) (x : Me) (a2 : Int32) (a3 : Int32) (a4 : Int32) (a5 : Int32) (H : Heap) (locs : List Loc) (ls : Array Slot), f_X11_tries_12 fu b1 k n x a2 a3 a4 a5 = some (x', r) → MemP G nw mo x H → va_S (gA G) s.heap H locs → lv_has ls 7 [(0, .ref (ga G 41)), (1, .int b1), (2, .int a2), (3, .int a3), (4, .int a4), (5, .int a5)] → W p l e rm_X11_tries s m args below meth c H locs 0 0 (MQ below (PV G nw mo x') args s 0 0 (gA G)) (F0 m 12 ls []) := by
  intro n
  induction n with
  | zero =>
    intro x a2 a3 a4 a5 H locs ls hf hM hS hl
    exact nn hf
  | succ n ih =>
    intro x a2 a3 a4 a5 H locs ls hf hM hS hl
    rw [f_X11_tries_12] at hf
    refine lv_iload hx hb dX11_tries_12 (lv_at hl 5 rfl) ?_
    refine lv_aload_n hx hb dX11_tries_14 rfl (lv_at hl 0 rfl) ?_
    refine gm_26 hx hb hE hM hown w_4_126 dX11_tries_15 ?_
    refine lv_icmp_ge (tgt := 79) hx hb dX11_tries_18 (by decide) (fun hc_4 => ?_) (fun hc_4 => ?_)
    · replace hf := i_t hf hc_4
      exact hk x a2 a3 a4 _ _ _ hf hM hS (lv_sub hl [0, 1, 2, 3, 4] rfl)
    · replace hf := i_f hf hc_4
      refine lv_iload_n hx hb dX11_tries_21 rfl (lv_at hl 1 rfl) ?_
      refine lv_iload hx hb dX11_tries_22 (lv_at hl 5 rfl) ?_
      refine lv_ishr hx hb dX11_tries_24 ?_
      refine lv_iconst (v := 1) hx hb dX11_tries_25 (by decide) ?_
      refine lv_iand hx hb dX11_tries_26 ?_
      refine lv_if_ne (tgt := 33) hx hb dX11_tries_27 (by decide) (fun hc_3 => ?_) (fun hc_3 => ?_)
      · replace hf := i_f hf hc_3
        refine lv_aload_n hx hb dX11_tries_33 rfl (lv_at hl 0 rfl) ?_
        refine gr_54 hx hb hE hM hown w_4_128 dX11_tries_34 ?_
        refine lv_iload hx hb dX11_tries_37 (lv_at hl 5 rfl) ?_
        obtain ⟨hi_1, hf⟩ := i_n hf
        refine la_54 hx hb hE hM hi_1 dX11_tries_39 ?_
        refine lv_if_ne (tgt := 44) hx hb dX11_tries_40 (by decide) (fun hc_2 => ?_) (fun hc_2 => ?_)
        · replace hf := i_f hf hc_2
          refine lv_iinc (v := a2 + 1) (lv' := [(2, .int (a2 + 1)), (0, .ref (ga G 41)), (1, .int b1), (3, .int a3), (4, .int a4), (5, .int a5)]) hx hb dX11_tries_44 hl (k := 2) rfl rfl (by decide) rfl (fun ls hl => ?_)
          refine lv_iload_n hx hb dX11_tries_47 rfl (lv_at hl 3 rfl) ?_
          refine lv_aload_n hx hb dX11_tries_48 rfl (lv_at hl 1 rfl) ?_
          refine gr_53 hx hb hE hM hown w_4_127 dX11_tries_49 ?_
          refine lv_iload hx hb dX11_tries_52 (lv_at hl 5 rfl) ?_
          refine la_53 hx hb hE hM hi_1 dX11_tries_54 ?_
          refine va_mmin hx hb (by rw [hml]; exact hl.1.symm) hown (ew hE w_5_95 rfl) (ew hE w_2_92 rfl) (ew hE w_1_12 rfl) (ew hE w_2_93 rfl) (Nat.le_of_ble_eq_true rfl) (Nat.le_of_ble_eq_true rfl) (Nat.zero_le _) (Nat.zero_le _) dX11_tries_55 ?_
          refine lv_istore_n (lv' := [(3, .int (if (x 27 a5.toNatClampNeg) < a3 then (x 27 a5.toNatClampNeg) else a3)), (2, .int (a2 + 1)), (0, .ref (ga G 41)), (1, .int b1), (4, .int a4), (5, .int a5)]) hx hb dX11_tries_58 rfl hl (by decide) rfl (fun ls hl => ?_)
          refine lv_iload hx hb dX11_tries_59 (lv_at hl 4 rfl) ?_
          refine lv_aload_n hx hb dX11_tries_61 rfl (lv_at hl 2 rfl) ?_
          refine gr_53 hx hb hE hM hown w_4_127 dX11_tries_62 ?_
          refine lv_iload hx hb dX11_tries_65 (lv_at hl 5 rfl) ?_
          refine la_53 hx hb hE hM hi_1 dX11_tries_67 ?_
          refine va_mmax hx hb (by rw [hml]; exact hl.1.symm) hown (ew hE w_5_117 rfl) (ew hE w_2_184 rfl) (ew hE w_1_12 rfl) (ew hE w_2_185 rfl) (Nat.le_of_ble_eq_true rfl) (Nat.le_of_ble_eq_true rfl) (Nat.zero_le _) (Nat.zero_le _) dX11_tries_68 ?_
          refine lv_istore (lv' := [(4, .int (if a4 < (x 27 a5.toNatClampNeg) then (x 27 a5.toNatClampNeg) else a4)), (3, .int (if (x 27 a5.toNatClampNeg) < a3 then (x 27 a5.toNatClampNeg) else a3)), (2, .int (a2 + 1)), (0, .ref (ga G 41)), (1, .int b1), (5, .int a5)]) hx hb dX11_tries_71 hl (by decide) rfl (fun ls hl => ?_)
          refine lv_iinc (v := a5 + 1) (lv' := [(5, .int (a5 + 1)), (4, .int (if a4 < (x 27 a5.toNatClampNeg) then (x 27 a5.toNatClampNeg) else a4)), (3, .int (if (x 27 a5.toNatClampNeg) < a3 then (x 27 a5.toNatClampNeg) else a3)), (2, .int (a2 + 1)), (0, .ref (ga G 41)), (1, .int b1)]) hx hb dX11_tries_73 hl (k := 5) rfl rfl (by decide) rfl (fun ls hl => ?_)
          refine lv_goto (tgt := 12) hx hb dX11_tries_76 (by decide) ?_
          exact ih x (a2 + 1) (if (x 27 a5.toNatClampNeg) < a3 then (x 27 a5.toNatClampNeg) else a3) (if a4 < (x 27 a5.toNatClampNeg) then (x 27 a5.toNatClampNeg) else a4) (a5 + 1) _ _ _ hf hM hS (lv_sub hl [4, 5, 3, 2, 1, 0] rfl)
        · replace hf := i_t hf hc_2
          exact rt_vM hx hb hr hf hM hS dX11_tries_43 hlocks
      · replace hf := i_t hf hc_3
        refine lv_goto (tgt := 73) hx hb dX11_tries_30 (by decide) ?_
        refine lv_iinc (v := a5 + 1) (lv' := [(5, .int (a5 + 1)), (0, .ref (ga G 41)), (1, .int b1), (2, .int a2), (3, .int a3), (4, .int a4)]) hx hb dX11_tries_73 hl (k := 5) rfl rfl (by decide) rfl (fun ls hl => ?_)
        refine lv_goto (tgt := 12) hx hb dX11_tries_76 (by decide) ?_
        exact ih x a2 a3 a4 (a5 + 1) _ _ _ hf hM hS (lv_sub hl [1, 2, 3, 4, 5, 0] rfl)
set_option maxHeartbeats 4000000 in
set_option maxRecDepth 100000 in
theorem wk_X11_tries_140 {p : Program} {l : Launch} {e : Env} {s : State} {m : MethodId} {args : Array Value} {below : List Frame} {meth : Method} {c : Code} {fu nw : Nat} {G : GG} {mo : Me} {b1 : Int32} (hx : p.tables.exec = Jvm.exec) (hb : c.code = cX11_tries) (hml : c.maxLocals = 7) (hown : s.vm.findClass RX11 = some m.cls) (hE : EnvP G s) (hr : meth.sig.returnType = none) (hlocks : meth.locks = false) {x' : Me} {r : Unit} {k : Me → Option (Me × Unit)} (hk : ∀ (x : Me) (H : Heap) (locs : List Loc) (ls : Array Slot), k x = some (x', r) → MemP G nw mo x H → va_S (gA G) s.heap H locs → lv_has ls 7 [] → W p l e rm_X11_tries s m args below meth c H locs 0 0 (MQ below (PV G nw mo x') args s 0 0 (gA G)) (F0 m 179 ls [])) : ∀ (n : Nat) (x : Me) (a5 : Int32) (a6 : Int32) (H : Heap) (locs : List Loc) (ls : Array Slot), f_X11_tries_140 fu b1 k n x a5 a6 = some (x', r) → MemP G nw mo x H → va_S (gA G) s.heap H locs → lv_has ls 7 [(0, .ref (ga G 41)), (1, .int b1), (5, .int a5), (6, .int a6)] → W p l e rm_X11_tries s m args below meth c H locs 0 0 (MQ below (PV G nw mo x') args s 0 0 (gA G)) (F0 m 140 ls []) := by
  intro n
  induction n with
  | zero =>
    intro x a5 a6 H locs ls hf hM hS hl
    exact nn hf
  | succ n ih =>
    intro x a5 a6 H locs ls hf hM hS hl
    rw [f_X11_tries_140] at hf
    refine lv_iload hx hb dX11_tries_140 (lv_at hl 3 rfl) ?_
    refine lv_aload_n hx hb dX11_tries_142 rfl (lv_at hl 0 rfl) ?_
    refine gm_26 hx hb hE hM hown w_4_126 dX11_tries_143 ?_
    refine lv_icmp_ge (tgt := 179) hx hb dX11_tries_146 (by decide) (fun hc_9 => ?_) (fun hc_9 => ?_)
    · replace hf := i_t hf hc_9
      exact hk x _ _ _ hf hM hS (lv_sub hl [] rfl)
    · replace hf := i_f hf hc_9
      refine lv_iload_n hx hb dX11_tries_149 rfl (lv_at hl 1 rfl) ?_
      refine lv_iload hx hb dX11_tries_150 (lv_at hl 3 rfl) ?_
      refine lv_ishr hx hb dX11_tries_152 ?_
      refine lv_iconst (v := 1) hx hb dX11_tries_153 (by decide) ?_
      refine lv_iand hx hb dX11_tries_154 ?_
      refine lv_if_ne (tgt := 161) hx hb dX11_tries_155 (by decide) (fun hc_8 => ?_) (fun hc_8 => ?_)
      · replace hf := i_f hf hc_8
        refine lv_aload_n hx hb dX11_tries_161 rfl (lv_at hl 0 rfl) ?_
        refine gr_55 hx hb hE hM hown w_4_131 dX11_tries_162 ?_
        refine lv_iload hx hb dX11_tries_165 (lv_at hl 2 rfl) ?_
        refine lv_iload hx hb dX11_tries_167 (lv_at hl 3 rfl) ?_
        obtain ⟨hi_7, hf⟩ := i_n hf
        refine sa_55 hx hb hE hM hS hi_7 dX11_tries_169 (fun H locs hM hS => ?_)
        refine lv_iinc (v := a5 + 1) (lv' := [(5, .int (a5 + 1)), (0, .ref (ga G 41)), (1, .int b1), (6, .int a6)]) hx hb dX11_tries_170 hl (k := 2) rfl rfl (by decide) rfl (fun ls hl => ?_)
        refine lv_iinc (v := a6 + 1) (lv' := [(6, .int (a6 + 1)), (5, .int (a5 + 1)), (0, .ref (ga G 41)), (1, .int b1)]) hx hb dX11_tries_173 hl (k := 3) rfl rfl (by decide) rfl (fun ls hl => ?_)
        refine lv_goto (tgt := 140) hx hb dX11_tries_176 (by decide) ?_
        exact ih (mu x 31 a5.toNatClampNeg a6) (a5 + 1) (a6 + 1) _ _ _ hf hM hS (lv_sub hl [2, 3, 1, 0] rfl)
      · replace hf := i_t hf hc_8
        refine lv_goto (tgt := 173) hx hb dX11_tries_158 (by decide) ?_
        refine lv_iinc (v := a6 + 1) (lv' := [(6, .int (a6 + 1)), (0, .ref (ga G 41)), (1, .int b1), (5, .int a5)]) hx hb dX11_tries_173 hl (k := 3) rfl rfl (by decide) rfl (fun ls hl => ?_)
        refine lv_goto (tgt := 140) hx hb dX11_tries_176 (by decide) ?_
        exact ih x a5 (a6 + 1) _ _ _ hf hM hS (lv_sub hl [1, 2, 3, 0] rfl)
set_option maxHeartbeats 4000000 in
set_option maxRecDepth 100000 in
theorem c_X11_tries (l : Launch) (fu nw : Nat) (G : GG) (x x' mo : Me) (a1 : Int32) (r : Unit) (hf : f_X11_tries fu x a1 = some (x', r)) : Met l yX11_tries [.code yX11_tries cX11_tries 7 none] rm_X11_tries (va_Pc [.ref (ga G 41), .int a1] (Pre G nw mo x)) (PV G nw mo x') 0 0 (gA G) := by
  refine mt_ofW (cc := cX11_tries) (maxL := 7) (ret := none) (by decide +kernel) rfl ?_
  intro p e s m args below meth c s₁ B hml hv
  obtain ⟨rfl, hE, hM⟩ := hv
  have hx := B.exec
  have hb := B.bytes
  have hr := B.returns
  have hown : s.vm.findClass RX11 = some m.cls := findClass_of_methodNamed B.named
  have hlocks := B.notSynchronized
  have hS : va_S (gA G) s.heap s.heap [] := va_S.rf
  have hl := lv_entry ([.ref (ga G 41), .int a1]) (n := 7) (Nat.le_of_ble_eq_true rfl)
  rw [lg_entry_eq]
  generalize (lg_sl ([.ref (ga G 41), .int a1]) ++ List.replicate (7 - (lg_sl ([.ref (ga G 41), .int a1])).length) Slot.unset).toArray = ls at hl ⊢
  have hl : lv_has ls 7 [(0, .ref (ga G 41)), (1, .int a1)] := hl
  generalize ([.ref (ga G 41), .int a1] : List Value).toArray = args
  unfold f_X11_tries at hf
  refine lv_iconst (v := 0) hx hb dX11_tries_0 (by decide) ?_
  refine lv_istore_n (lv' := [(2, .int 0), (0, .ref (ga G 41)), (1, .int a1)]) hx hb dX11_tries_1 rfl hl (by decide) rfl (fun ls hl => ?_)
  refine lv_sipush (v := 1000) hx hb dX11_tries_2 (by decide) ?_
  refine lv_istore_n (lv' := [(3, .int 1000), (2, .int 0), (0, .ref (ga G 41)), (1, .int a1)]) hx hb dX11_tries_5 rfl hl (by decide) rfl (fun ls hl => ?_)
  refine lv_iconst (v := (-1)) hx hb dX11_tries_6 (by decide) ?_
  refine lv_istore (lv' := [(4, .int (-1)), (3, .int 1000), (2, .int 0), (0, .ref (ga G 41)), (1, .int a1)]) hx hb dX11_tries_7 hl (by decide) rfl (fun ls hl => ?_)
  refine lv_iconst (v := 0) hx hb dX11_tries_9 (by decide) ?_
  refine lv_istore (lv' := [(5, .int 0), (4, .int (-1)), (3, .int 1000), (2, .int 0), (0, .ref (ga G 41)), (1, .int a1)]) hx hb dX11_tries_10 hl (by decide) rfl (fun ls hl => ?_)
  refine wk_X11_tries_12 hx hb hml hown hE hr hlocks ?_ fu x 0 1000 (-1) 0 _ _ _ hf hM hS (lv_sub hl [4, 5, 3, 2, 1, 0] rfl)
  intro x_5 a2_5 a3_5 a4_5 H locs ls hf hM hS hl
  refine lv_iload_n hx hb dX11_tries_79 rfl (lv_at hl 2 rfl) ?_
  refine lv_aload_n hx hb dX11_tries_80 rfl (lv_at hl 0 rfl) ?_
  refine gm_30 hx hb hE hM hown w_4_130 dX11_tries_81 ?_
  refine lv_icmp_ne (tgt := 125) hx hb dX11_tries_84 (by decide) (fun hc_16 => ?_) (fun hc_16 => ?_)
  · replace hf := i_f hf hc_16
    exact rt_vM hx hb hr hf hM hS dX11_tries_125 hlocks
  · replace hf := i_t hf hc_16
    refine lv_aload_n hx hb dX11_tries_87 rfl (lv_at hl 0 rfl) ?_
    refine gm_34 hx hb hE hM hown w_4_134 dX11_tries_88 ?_
    refine lv_iconst (v := (-1)) hx hb dX11_tries_91 (by decide) ?_
    have hj_6 : ∀ (x_6 : Me) (H : Heap) (locs : List Loc) (ls : Array Slot), jnA hf x_6 = some (x', r) → MemP G nw mo x_6 H → va_S (gA G) s.heap H locs → lv_has ls 7 [(0, .ref (ga G 41)), (1, .int a1), (3, .int a3_5), (4, .int a4_5)] → W p l e rm_X11_tries s m args below meth c H locs 0 0 (MQ below (PV G nw mo x') args s 0 0 (gA G)) (F0 m 126 ls []) := by
      intro x_6 H locs ls hf hM hS hl
      refine lv_aload_n hx hb dX11_tries_126 rfl (lv_at hl 0 rfl) ?_
      refine lv_iload hx hb dX11_tries_127 (lv_at hl 3 rfl) ?_
      refine lv_iload_n hx hb dX11_tries_129 rfl (lv_at hl 2 rfl) ?_
      refine lv_isub hx hb dX11_tries_130 ?_
      refine pm_34 hx hb hE hM hS hown w_4_134 dX11_tries_131 (fun H locs hM hS => ?_)
      refine lv_iconst (v := 0) hx hb dX11_tries_134 (by decide) ?_
      refine lv_istore (lv' := [(5, .int 0), (0, .ref (ga G 41)), (1, .int a1), (3, .int a3_5), (4, .int a4_5)]) hx hb dX11_tries_135 hl (by decide) rfl (fun ls hl => ?_)
      refine lv_iconst (v := 0) hx hb dX11_tries_137 (by decide) ?_
      refine lv_istore (lv' := [(6, .int 0), (5, .int 0), (0, .ref (ga G 41)), (1, .int a1), (3, .int a3_5), (4, .int a4_5)]) hx hb dX11_tries_138 hl (by decide) rfl (fun ls hl => ?_)
      refine wk_X11_tries_140 hx hb hml hown hE hr hlocks ?_ fu (mu x_6 34 0 (a4_5 - a3_5)) 0 0 _ _ _ hf hM hS (lv_sub hl [2, 3, 1, 0] rfl)
      intro x_10 H locs ls hf hM hS hl
      exact rt_vM hx hb hr hf hM hS dX11_tries_179 hlocks
    replace hf := jn_use hf
    refine lv_icmp_eq (tgt := 126) hx hb dX11_tries_92 (by decide) (fun hc_15 => ?_) (fun hc_15 => ?_)
    · replace hf := i_t hf hc_15
      exact hj_6 x_5 _ _ _ hf hM hS (lv_sub hl [0, 1, 3, 4] rfl)
    · replace hf := i_f hf hc_15
      refine lv_iload hx hb dX11_tries_95 (lv_at hl 4 rfl) ?_
      refine lv_iload_n hx hb dX11_tries_97 rfl (lv_at hl 3 rfl) ?_
      refine lv_isub hx hb dX11_tries_98 ?_
      refine lv_aload_n hx hb dX11_tries_99 rfl (lv_at hl 0 rfl) ?_
      refine gm_34 hx hb hE hM hown w_4_134 dX11_tries_100 ?_
      refine lv_icmp_gt (tgt := 125) hx hb dX11_tries_103 (by decide) (fun hc_14 => ?_) (fun hc_14 => ?_)
      · replace hf := i_t hf hc_14
        exact rt_vM hx hb hr hf hM hS dX11_tries_125 hlocks
      · replace hf := i_f hf hc_14
        refine lv_iload hx hb dX11_tries_106 (lv_at hl 4 rfl) ?_
        refine lv_iload_n hx hb dX11_tries_108 rfl (lv_at hl 3 rfl) ?_
        refine lv_isub hx hb dX11_tries_109 ?_
        refine lv_aload_n hx hb dX11_tries_110 rfl (lv_at hl 0 rfl) ?_
        refine gm_34 hx hb hE hM hown w_4_134 dX11_tries_111 ?_
        refine lv_icmp_ne (tgt := 126) hx hb dX11_tries_114 (by decide) (fun hc_13 => ?_) (fun hc_13 => ?_)
        · replace hf := i_f hf hc_13
          exact hj_6 x_5 _ _ _ hf hM hS (lv_sub hl [0, 1, 3, 4] rfl)
        · replace hf := i_t hf hc_13
          refine lv_aload_n hx hb dX11_tries_117 rfl (lv_at hl 0 rfl) ?_
          refine lv_iload_n hx hb dX11_tries_118 rfl (lv_at hl 1 rfl) ?_
          obtain ⟨x_11, r_11, hq_11, hf⟩ := ob_some hf
          refine k_X11_isAhead hx hb hml hown hE hM hS w_5_118 hq_11 (Nat.le_of_ble_eq_true rfl) (Nat.le_of_ble_eq_true rfl) hl.1 (Nat.le_of_ble_eq_true rfl) ⟨Nat.zero_le _, Nat.zero_le _⟩ dX11_tries_119 (fun H locs hM hS => ?_)
          refine lv_if_ne (tgt := 126) hx hb dX11_tries_122 (by decide) (fun hc_12 => ?_) (fun hc_12 => ?_)
          · replace hf := i_f hf hc_12
            exact hj_6 x_11 _ _ _ hf hM hS (lv_sub hl [0, 1, 3, 4] rfl)
          · replace hf := i_t hf hc_12
            exact rt_vM hx hb hr hf hM hS dX11_tries_125 hlocks
theorem k_X11_tries {p : Program} {l : Launch} {e : Env} {R : Room} {s : State} {m : MethodId} {args : Array Value} {below : List Frame} {meth : Method} {c : Code} {H : Heap} {locs : List Loc} {cells slots : Nat} {Q : State → Prop} {cc : ByteArray} {pc nL : Nat} {ls : Array Slot} {rest : List Value} {G : GG} {fu nw : Nat} {x x' mo : Me} {own : String} {index : Nat} {a1 : Int32} {r : Unit} (hx : p.tables.exec = Jvm.exec) (hb : c.code = cc) (hml : c.maxLocals = nL) (hown : s.vm.findClass own = some m.cls) (hE : EnvP G s) (hM : MemP G nw mo x H) (hS : va_S (gA G) s.heap H locs) (hw : Cond.methodLink own index yX11_tries ∈ lw_tbl) (hf : f_X11_tries fu x a1 = some (x', r)) (h1 : 1 + 1 ≤ R.frames) (h2 : 8 + (7 + 11) + 23 ≤ R.locals) (hsz : ls.size = nL) (hW : (rest.map fun v => v.category).sum ≤ 8) (hcs : cells ≤ R.cells ∧ slots ≤ R.slots) (hdg : decode cc pc = .ok (.invokevirtual index, 3)) (kk : ∀ (H1 : Heap) (locs1 : List Loc), MemP G nw mo x' H1 → va_S (gA G) s.heap H1 locs1 → W p l e R s m args below meth c H1 locs1 cells slots Q (F0 m (pc + 3) ls rest)) : W p l e R s m args below meth c H locs cells slots Q (F0 m pc ls (.int a1 :: .ref (ga G 41) :: rest)) := mm_kv hS (mm_runV (n := 1) (o := 41) (C := RX11) (T := TX11) (N := 54) (ci := 11) (As := [.int a1]) hx hb hml hown hE hM hS (c_X11_tries l fu nw G x x' mo a1 _ hf) (List.forall_mem_cons.mpr ⟨⟨hw, rfl⟩, List.forall_mem_cons.mpr ⟨⟨w_5_115, rfl⟩, List.forall_mem_cons.mpr ⟨⟨w_0_39, rfl⟩, List.forall_mem_cons.mpr ⟨⟨w_1_11, rfl⟩, List.forall_mem_cons.mpr ⟨⟨w_5_116, rfl⟩, fun _ h => absurd h List.not_mem_nil⟩⟩⟩⟩⟩) rfl rfl ⟨rfl, by decide, by decide, by decide +kernel⟩ ⟨h1, h2⟩ rfl rfl rfl hsz rfl hW hdg hcs) kk
def f_X11_pick_22 (fu : Nat) (k : Me → Option (Me × Int32)) : Nat → Me → Int32 → Option (Me × Int32)
  | 0 => fun _ _ => none
  | n + 1 => fun x a1 => if ((1 : Int32) <<< ((x 26 0) &&& 31)) ≤ a1 then k x else ob (f_X11_tries fu x a1) (fun x_1 _ => f_X11_pick_22 fu k n x_1 (a1 + 1))
def f_X11_pick (fu : Nat) (x : Me) : Option (Me × Int32) := if (x 4 0) = 1 then f_X11_pick_22 fu (fun (x_3 : Me) => if (x_3 34 0) = (-1) then some (x_3, (-1)) else some ((mu x_3 4 0 2), x_3 34 0)) fu (mu (mu x 0 0 0) 34 0 (-1)) 0 else some ((mu x 0 0 0), (-1))
def rm_X11_pick : Room := { frames := 2, cells := 0, slots := 0, locals := 49 }
set_option maxHeartbeats 4000000 in
set_option maxRecDepth 100000 in
theorem wk_X11_pick_22 {p : Program} {l : Launch} {e : Env} {s : State} {m : MethodId} {args : Array Value} {below : List Frame} {meth : Method} {c : Code} {fu nw : Nat} {G : GG} {mo : Me} (hx : p.tables.exec = Jvm.exec) (hb : c.code = cX11_pick) (hml : c.maxLocals = 2) (hown : s.vm.findClass RX11 = some m.cls) (hE : EnvP G s) (hr : meth.sig.returnType = (some .int)) (hlocks : meth.locks = false) {x' : Me} {r : Int32} {k : Me → Option (Me × Int32)} (hk : ∀ (x : Me) (H : Heap) (locs : List Loc) (ls : Array Slot), k x = some (x', r) → MemP G nw mo x H → va_S (gA G) s.heap H locs → lv_has ls 2 [(0, .ref (ga G 41))] → W p l e rm_X11_pick s m args below meth c H locs 0 0 (MQ below (PI G nw mo x' r) args s 0 0 (gA G)) (F0 m 43 ls [])) : ∀ (n : Nat) (x : Me) (a1 : Int32) (H : Heap) (locs : List Loc) (ls : Array Slot), f_X11_pick_22 fu k n x a1 = some (x', r) → MemP G nw mo x H → va_S (gA G) s.heap H locs → lv_has ls 2 [(0, .ref (ga G 41)), (1, .int a1)] → W p l e rm_X11_pick s m args below meth c H locs 0 0 (MQ below (PI G nw mo x' r) args s 0 0 (gA G)) (F0 m 22 ls []) := by
  intro n
  induction n with
  | zero =>
    intro x a1 H locs ls hf hM hS hl
    exact nn hf
  | succ n ih =>
    intro x a1 H locs ls hf hM hS hl
    rw [f_X11_pick_22] at hf
    refine lv_iload_n hx hb dX11_pick_22 rfl (lv_at hl 1 rfl) ?_
    refine lv_iconst (v := 1) hx hb dX11_pick_23 (by decide) ?_
    refine lv_aload_n hx hb dX11_pick_24 rfl (lv_at hl 0 rfl) ?_
    refine gm_26 hx hb hE hM hown w_4_126 dX11_pick_25 ?_
    refine lv_ishl hx hb dX11_pick_28 ?_
    refine lv_icmp_ge (tgt := 43) hx hb dX11_pick_29 (by decide) (fun hc_2 => ?_) (fun hc_2 => ?_)
    · replace hf := i_t hf hc_2
      exact hk x _ _ _ hf hM hS (lv_sub hl [0] rfl)
    · replace hf := i_f hf hc_2
      refine lv_aload_n hx hb dX11_pick_32 rfl (lv_at hl 0 rfl) ?_
      refine lv_iload_n hx hb dX11_pick_33 rfl (lv_at hl 1 rfl) ?_
      obtain ⟨x_1, r_1, hq_1, hf⟩ := ob_some hf
      refine k_X11_tries hx hb hml hown hE hM hS w_5_113 hq_1 (Nat.le_of_ble_eq_true rfl) (Nat.le_of_ble_eq_true rfl) hl.1 (Nat.le_of_ble_eq_true rfl) ⟨Nat.zero_le _, Nat.zero_le _⟩ dX11_pick_34 (fun H locs hM hS => ?_)
      refine lv_iinc (v := a1 + 1) (lv' := [(1, .int (a1 + 1)), (0, .ref (ga G 41))]) hx hb dX11_pick_37 hl (k := 1) rfl rfl (by decide) rfl (fun ls hl => ?_)
      refine lv_goto (tgt := 22) hx hb dX11_pick_40 (by decide) ?_
      exact ih x_1 (a1 + 1) _ _ _ hf hM hS (lv_sub hl [1, 0] rfl)
set_option maxHeartbeats 4000000 in
set_option maxRecDepth 100000 in
theorem c_X11_pick (l : Launch) (fu nw : Nat) (G : GG) (x x' mo : Me) (r : Int32) (hf : f_X11_pick fu x = some (x', r)) : Met l yX11_pick [.code yX11_pick cX11_pick 2 (some .int)] rm_X11_pick (va_Pc [.ref (ga G 41)] (Pre G nw mo x)) (PI G nw mo x' r) 0 0 (gA G) := by
  refine mt_ofW (cc := cX11_pick) (maxL := 2) (ret := (some .int)) (by decide +kernel) rfl ?_
  intro p e s m args below meth c s₁ B hml hv
  obtain ⟨rfl, hE, hM⟩ := hv
  have hx := B.exec
  have hb := B.bytes
  have hr := B.returns
  have hown : s.vm.findClass RX11 = some m.cls := findClass_of_methodNamed B.named
  have hlocks := B.notSynchronized
  have hS : va_S (gA G) s.heap s.heap [] := va_S.rf
  have hl := lv_entry ([.ref (ga G 41)]) (n := 2) (Nat.le_of_ble_eq_true rfl)
  rw [lg_entry_eq]
  generalize (lg_sl ([.ref (ga G 41)]) ++ List.replicate (2 - (lg_sl ([.ref (ga G 41)])).length) Slot.unset).toArray = ls at hl ⊢
  have hl : lv_has ls 2 [(0, .ref (ga G 41))] := hl
  generalize ([.ref (ga G 41)] : List Value).toArray = args
  unfold f_X11_pick at hf
  refine lv_aload_n hx hb dX11_pick_0 rfl (lv_at hl 0 rfl) ?_
  refine lv_iconst (v := 0) hx hb dX11_pick_1 (by decide) ?_
  refine pm_0 hx hb hE hM hS hown w_4_100 dX11_pick_2 (fun H locs hM hS => ?_)
  refine lv_aload_n hx hb dX11_pick_5 rfl (lv_at hl 0 rfl) ?_
  refine gm_4 hx hb hE hM hown w_4_104 dX11_pick_6 ?_
  refine lv_iconst (v := 1) hx hb dX11_pick_9 (by decide) ?_
  refine lv_icmp_eq (tgt := 15) hx hb dX11_pick_10 (by decide) (fun hc_5 => ?_) (fun hc_5 => ?_)
  · replace hf := i_t hf hc_5
    refine lv_aload_n hx hb dX11_pick_15 rfl (lv_at hl 0 rfl) ?_
    refine lv_iconst (v := (-1)) hx hb dX11_pick_16 (by decide) ?_
    refine pm_34 hx hb hE hM hS hown w_4_134 dX11_pick_17 (fun H locs hM hS => ?_)
    refine lv_iconst (v := 0) hx hb dX11_pick_20 (by decide) ?_
    refine lv_istore_n (lv' := [(1, .int 0), (0, .ref (ga G 41))]) hx hb dX11_pick_21 rfl hl (by decide) rfl (fun ls hl => ?_)
    refine wk_X11_pick_22 hx hb hml hown hE hr hlocks ?_ fu (mu (mu x 0 0 0) 34 0 (-1)) 0 _ _ _ hf hM hS (lv_sub hl [1, 0] rfl)
    intro x_3 H locs ls hf hM hS hl
    refine lv_aload_n hx hb dX11_pick_43 rfl (lv_at hl 0 rfl) ?_
    refine gm_34 hx hb hE hM hown w_4_134 dX11_pick_44 ?_
    refine lv_iconst (v := (-1)) hx hb dX11_pick_47 (by decide) ?_
    refine lv_icmp_ne (tgt := 53) hx hb dX11_pick_48 (by decide) (fun hc_4 => ?_) (fun hc_4 => ?_)
    · replace hf := i_f hf hc_4
      refine lv_aload_n hx hb dX11_pick_53 rfl (lv_at hl 0 rfl) ?_
      refine lv_iconst (v := 2) hx hb dX11_pick_54 (by decide) ?_
      refine pm_4 hx hb hE hM hS hown w_4_104 dX11_pick_55 (fun H locs hM hS => ?_)
      refine lv_aload_n hx hb dX11_pick_58 rfl (lv_at hl 0 rfl) ?_
      refine gm_34 hx hb hE hM hown w_4_134 dX11_pick_59 ?_
      exact rt_iM hx hb hr hf hM hS dX11_pick_62 hlocks
    · replace hf := i_t hf hc_4
      refine lv_iconst (v := (-1)) hx hb dX11_pick_51 (by decide) ?_
      exact rt_iM hx hb hr hf hM hS dX11_pick_52 hlocks
  · replace hf := i_f hf hc_5
    refine lv_iconst (v := (-1)) hx hb dX11_pick_13 (by decide) ?_
    exact rt_iM hx hb hr hf hM hS dX11_pick_14 hlocks
theorem k_X11_pick {p : Program} {l : Launch} {e : Env} {R : Room} {s : State} {m : MethodId} {args : Array Value} {below : List Frame} {meth : Method} {c : Code} {H : Heap} {locs : List Loc} {cells slots : Nat} {Q : State → Prop} {cc : ByteArray} {pc nL : Nat} {ls : Array Slot} {rest : List Value} {G : GG} {fu nw : Nat} {x x' mo : Me} {own : String} {index : Nat} {r : Int32} (hx : p.tables.exec = Jvm.exec) (hb : c.code = cc) (hml : c.maxLocals = nL) (hown : s.vm.findClass own = some m.cls) (hE : EnvP G s) (hM : MemP G nw mo x H) (hS : va_S (gA G) s.heap H locs) (hw : Cond.methodLink own index yX11_pick ∈ lw_tbl) (hf : f_X11_pick fu x = some (x', r)) (h1 : 2 + 1 ≤ R.frames) (h2 : 8 + (2 + 11) + 49 ≤ R.locals) (hsz : ls.size = nL) (hW : (rest.map fun v => v.category).sum ≤ 8) (hcs : cells ≤ R.cells ∧ slots ≤ R.slots) (hdg : decode cc pc = .ok (.invokevirtual index, 3)) (kk : ∀ (H1 : Heap) (locs1 : List Loc), MemP G nw mo x' H1 → va_S (gA G) s.heap H1 locs1 → W p l e R s m args below meth c H1 locs1 cells slots Q (F0 m (pc + 3) ls (.int r :: rest))) : W p l e R s m args below meth c H locs cells slots Q (F0 m pc ls (.ref (ga G 41) :: rest)) := mm_ki hS (mm_runV (n := 0) (o := 41) (C := RX11) (T := TX11) (N := 54) (ci := 11) (As := []) hx hb hml hown hE hM hS (c_X11_pick l fu nw G x x' mo _ hf) (List.forall_mem_cons.mpr ⟨⟨hw, rfl⟩, List.forall_mem_cons.mpr ⟨⟨w_5_110, rfl⟩, List.forall_mem_cons.mpr ⟨⟨w_5_111, rfl⟩, List.forall_mem_cons.mpr ⟨⟨w_1_11, rfl⟩, List.forall_mem_cons.mpr ⟨⟨w_5_112, rfl⟩, fun _ h => absurd h List.not_mem_nil⟩⟩⟩⟩⟩) rfl rfl ⟨rfl, by decide, by decide, by decide +kernel⟩ ⟨h1, h2⟩ rfl rfl rfl hsz rfl hW hdg hcs) kk
def f_X11_lots_62 (fu : Nat) (b2 : Int32) (b3 : Int32) (b4 : Int32) (k : Me → Int32 → Option (Me × Int32)) : Nat → Me → Int32 → Int32 → Option (Me × Int32)
  | 0 => fun _ _ _ => none
  | n + 1 => fun x a5 a6 => jn (fun (x_3 : Me) => if ((b2 >>> (a6 &&& 31)) &&& 1) = 1 then f_X11_lots_62 fu b2 b3 b4 k n x_3 (a5 - 0) (a6 + 1) else f_X11_lots_62 fu b2 b3 b4 k n x_3 (a5 - 1) (a6 + 1)) (fun j_3 => if ((b2 >>> (a6 &&& 31)) &&& 1) = 1 then j_3 x else if a5 ≤ 0 then k x a6 else j_3 x)
def f_X11_lots_30 (fu : Nat) (k : Me → Option (Me × Int32)) : Nat → Me → Int32 → Int32 → Int32 → Option (Me × Int32)
  | 0 => fun _ _ _ _ => none
  | n + 1 => fun x a2 a3 a4 => if (x 17 0) ≤ a4 then k x else if inb a4 17 = true then if (x 23 a4.toNatClampNeg) = 0 then f_X11_lots_30 fu k n x a2 a3 (a4 + 1) else ob (f_X11_draws fu x a3) (fun x_2 r_2 => f_X11_lots_62 fu a2 a3 a4 (fun (x_7 : Me) (a6_7 : Int32) => if inb a6_7 10 = true then if inb a4 17 = true then f_X11_lots_30 fu k n (mu x_7 22 a4.toNatClampNeg (x_7 31 a6_7.toNatClampNeg)) (a2 ||| ((1 : Int32) <<< (a6_7 &&& 31))) (a3 + (-1)) (a4 + 1) else none else none) fu x_2 r_2 0) else none
def f_X11_lots_163 (fu : Nat) (b2 : Int32) (b4 : Int32) (k : Me → Int32 → Option (Me × Int32)) : Nat → Me → Int32 → Int32 → Option (Me × Int32)
  | 0 => fun _ _ _ => none
  | n + 1 => fun x a5 a6 => if inb a6 17 = true then jn (fun (x_15 : Me) => if (x_15 23 a6.toNatClampNeg) = 0 then f_X11_lots_163 fu b2 b4 k n x_15 (a5 - 0) (a6 + 1) else if ((b2 >>> (a6 &&& 31)) &&& 1) = 1 then f_X11_lots_163 fu b2 b4 k n x_15 (a5 - 0) (a6 + 1) else f_X11_lots_163 fu b2 b4 k n x_15 (a5 - 1) (a6 + 1)) (fun j_15 => if (x 23 a6.toNatClampNeg) = 0 then j_15 x else if ((b2 >>> (a6 &&& 31)) &&& 1) = 1 then j_15 x else if a5 ≤ 0 then k x a6 else j_15 x) else none
def f_X11_lots_138 (fu : Nat) (k : Me → Option (Me × Int32)) : Nat → Me → Int32 → Int32 → Option (Me × Int32)
  | 0 => fun _ _ _ => none
  | n + 1 => fun x a2 a4 => if (x 30 0) ≤ a4 then k x else ob (f_X11_draws fu x ((x 30 0) - a4)) (fun x_13 r_13 => f_X11_lots_163 fu a2 a4 (fun (x_21 : Me) (a6_21 : Int32) => if inb a4 10 = true then f_X11_lots_138 fu k n (mu (mu x_21 32 a4.toNatClampNeg a6_21) 33 a4.toNatClampNeg a6_21) (a2 ||| ((1 : Int32) <<< (a6_21 &&& 31))) (a4 + 1) else none) fu x_13 r_13 0)
def f_X11_lots (fu : Nat) (x : Me) (a1 : Int32) : Option (Me × Int32) := if (x 4 0) = 2 then f_X11_lots_30 fu (fun (x_12 : Me) => f_X11_lots_138 fu (fun (x_24 : Me) => some ((mu x_24 4 0 3), 1)) fu x_12 0 0) fu (mu (mu x 0 0 0) 29 0 a1) 0 (x 30 0) 0 else some ((mu x 0 0 0), 0)
def rm_X11_lots : Room := { frames := 1, cells := 0, slots := 0, locals := 21 }
set_option maxHeartbeats 4000000 in
set_option maxRecDepth 100000 in
theorem wk_X11_lots_62 {p : Program} {l : Launch} {e : Env} {s : State} {m : MethodId} {args : Array Value} {below : List Frame} {meth : Method} {c : Code} {fu nw : Nat} {G : GG} {mo : Me} {b2 : Int32} {b3 : Int32} {b4 : Int32} (hx : p.tables.exec = Jvm.exec) (hb : c.code = cX11_lots) (hml : c.maxLocals = 7) (hown : s.vm.findClass RX11 = some m.cls) (hE : EnvP G s) (hr : meth.sig.returnType = (some .boolean)) (hlocks : meth.locks = false) {x' : Me} {r : Int32} {k : Me → Int32 → Option (Me × Int32)} (hk : ∀ (x : Me) (a6 : Int32) (H : Heap) (locs : List Loc) (ls : Array Slot), k x a6 = some (x', r) → MemP G nw mo x H → va_S (gA G) s.heap H locs → lv_has ls 7 [(0, .ref (ga G 41)), (2, .int b2), (3, .int b3), (4, .int b4), (6, .int a6)] → W p l e rm_X11_lots s m args below meth c H locs 0 0 (MQ below (PI G nw mo x' r) args s 0 0 (gA G)) (F0 m 103 ls [])) : ∀ (n : Nat) (x : Me) (a5 : Int32) (a6 : Int32) (H : Heap) (locs : List Loc) (ls : Array Slot), f_X11_lots_62 fu b2 b3 b4 k n x a5 a6 = some (x', r) → MemP G nw mo x H → va_S (gA G) s.heap H locs → lv_has ls 7 [(0, .ref (ga G 41)), (2, .int b2), (3, .int b3), (4, .int b4), (5, .int a5), (6, .int a6)] → W p l e rm_X11_lots s m args below meth c H locs 0 0 (MQ below (PI G nw mo x' r) args s 0 0 (gA G)) (F0 m 62 ls []) := by
  intro n
  induction n with
  | zero =>
    intro x a5 a6 H locs ls hf hM hS hl
    exact nn hf
  | succ n ih =>
    intro x a5 a6 H locs ls hf hM hS hl
    rw [f_X11_lots_62] at hf
    refine lv_iload_n hx hb dX11_lots_62 rfl (lv_at hl 1 rfl) ?_
    refine lv_iload hx hb dX11_lots_63 (lv_at hl 5 rfl) ?_
    refine lv_ishr hx hb dX11_lots_65 ?_
    refine lv_iconst (v := 1) hx hb dX11_lots_66 (by decide) ?_
    refine lv_iand hx hb dX11_lots_67 ?_
    refine lv_iconst (v := 1) hx hb dX11_lots_68 (by decide) ?_
    have hj_3 : ∀ (x_3 : Me) (H : Heap) (locs : List Loc) (ls : Array Slot), jnA hf x_3 = some (x', r) → MemP G nw mo x_3 H → va_S (gA G) s.heap H locs → lv_has ls 7 [(0, .ref (ga G 41)), (2, .int b2), (3, .int b3), (4, .int b4), (5, .int a5), (6, .int a6)] → W p l e rm_X11_lots s m args below meth c H locs 0 0 (MQ below (PI G nw mo x' r) args s 0 0 (gA G)) (F0 m 77 ls []) := by
      intro x_3 H locs ls hf hM hS hl
      refine lv_iload hx hb dX11_lots_77 (lv_at hl 4 rfl) ?_
      refine lv_iload_n hx hb dX11_lots_79 rfl (lv_at hl 1 rfl) ?_
      refine lv_iload hx hb dX11_lots_80 (lv_at hl 5 rfl) ?_
      refine lv_ishr hx hb dX11_lots_82 ?_
      refine lv_iconst (v := 1) hx hb dX11_lots_83 (by decide) ?_
      refine lv_iand hx hb dX11_lots_84 ?_
      refine lv_iconst (v := 1) hx hb dX11_lots_85 (by decide) ?_
      refine lv_icmp_ne (tgt := 93) hx hb dX11_lots_86 (by decide) (fun hc_4 => ?_) (fun hc_4 => ?_)
      · replace hf := i_f hf hc_4
        refine lv_iconst (v := 1) hx hb dX11_lots_93 (by decide) ?_
        refine lv_isub hx hb dX11_lots_94 ?_
        refine lv_istore (lv' := [(5, .int (a5 - 1)), (0, .ref (ga G 41)), (2, .int b2), (3, .int b3), (4, .int b4), (6, .int a6)]) hx hb dX11_lots_95 hl (by decide) rfl (fun ls hl => ?_)
        refine lv_iinc (v := a6 + 1) (lv' := [(6, .int (a6 + 1)), (5, .int (a5 - 1)), (0, .ref (ga G 41)), (2, .int b2), (3, .int b3), (4, .int b4)]) hx hb dX11_lots_97 hl (k := 5) rfl rfl (by decide) rfl (fun ls hl => ?_)
        refine lv_goto (tgt := 62) hx hb dX11_lots_100 (by decide) ?_
        exact ih x_3 (a5 - 1) (a6 + 1) _ _ _ hf hM hS (lv_sub hl [2, 3, 4, 5, 1, 0] rfl)
      · replace hf := i_t hf hc_4
        refine lv_iconst (v := 0) hx hb dX11_lots_89 (by decide) ?_
        refine lv_goto (tgt := 94) hx hb dX11_lots_90 (by decide) ?_
        refine lv_isub hx hb dX11_lots_94 ?_
        refine lv_istore (lv' := [(5, .int (a5 - 0)), (0, .ref (ga G 41)), (2, .int b2), (3, .int b3), (4, .int b4), (6, .int a6)]) hx hb dX11_lots_95 hl (by decide) rfl (fun ls hl => ?_)
        refine lv_iinc (v := a6 + 1) (lv' := [(6, .int (a6 + 1)), (5, .int (a5 - 0)), (0, .ref (ga G 41)), (2, .int b2), (3, .int b3), (4, .int b4)]) hx hb dX11_lots_97 hl (k := 5) rfl rfl (by decide) rfl (fun ls hl => ?_)
        refine lv_goto (tgt := 62) hx hb dX11_lots_100 (by decide) ?_
        exact ih x_3 (a5 - 0) (a6 + 1) _ _ _ hf hM hS (lv_sub hl [2, 3, 4, 5, 1, 0] rfl)
    replace hf := jn_use hf
    refine lv_icmp_eq (tgt := 77) hx hb dX11_lots_69 (by decide) (fun hc_6 => ?_) (fun hc_6 => ?_)
    · replace hf := i_t hf hc_6
      exact hj_3 x _ _ _ hf hM hS (lv_sub hl [0, 1, 2, 3, 4, 5] rfl)
    · replace hf := i_f hf hc_6
      refine lv_iload hx hb dX11_lots_72 (lv_at hl 4 rfl) ?_
      refine lv_if_le (tgt := 103) hx hb dX11_lots_74 (by decide) (fun hc_5 => ?_) (fun hc_5 => ?_)
      · replace hf := i_t hf hc_5
        exact hk x a6 _ _ _ hf hM hS (lv_sub hl [0, 1, 2, 3, 5] rfl)
      · replace hf := i_f hf hc_5
        exact hj_3 x _ _ _ hf hM hS (lv_sub hl [0, 1, 2, 3, 4, 5] rfl)
set_option maxHeartbeats 4000000 in
set_option maxRecDepth 100000 in
theorem wk_X11_lots_30 {p : Program} {l : Launch} {e : Env} {s : State} {m : MethodId} {args : Array Value} {below : List Frame} {meth : Method} {c : Code} {fu nw : Nat} {G : GG} {mo : Me} (hx : p.tables.exec = Jvm.exec) (hb : c.code = cX11_lots) (hml : c.maxLocals = 7) (hown : s.vm.findClass RX11 = some m.cls) (hE : EnvP G s) (hr : meth.sig.returnType = (some .boolean)) (hlocks : meth.locks = false) {x' : Me} {r : Int32} {k : Me → Option (Me × Int32)} (hk : ∀ (x : Me) (H : Heap) (locs : List Loc) (ls : Array Slot), k x = some (x', r) → MemP G nw mo x H → va_S (gA G) s.heap H locs → lv_has ls 7 [(0, .ref (ga G 41))] → W p l e rm_X11_lots s m args below meth c H locs 0 0 (MQ below (PI G nw mo x' r) args s 0 0 (gA G)) (F0 m 133 ls [])) : ∀ (n : Nat) (x : Me) (a2 : Int32) (a3 : Int32) (a4 : Int32) (H : Heap) (locs : List Loc) (ls : Array Slot), f_X11_lots_30 fu k n x a2 a3 a4 = some (x', r) → MemP G nw mo x H → va_S (gA G) s.heap H locs → lv_has ls 7 [(0, .ref (ga G 41)), (2, .int a2), (3, .int a3), (4, .int a4)] → W p l e rm_X11_lots s m args below meth c H locs 0 0 (MQ below (PI G nw mo x' r) args s 0 0 (gA G)) (F0 m 30 ls []) := by
  intro n
  induction n with
  | zero =>
    intro x a2 a3 a4 H locs ls hf hM hS hl
    exact nn hf
  | succ n ih =>
    intro x a2 a3 a4 H locs ls hf hM hS hl
    rw [f_X11_lots_30] at hf
    refine lv_iload hx hb dX11_lots_30 (lv_at hl 3 rfl) ?_
    refine lv_aload_n hx hb dX11_lots_32 rfl (lv_at hl 0 rfl) ?_
    refine gm_17 hx hb hE hM hown w_4_117 dX11_lots_33 ?_
    refine lv_icmp_ge (tgt := 133) hx hb dX11_lots_36 (by decide) (fun hc_11 => ?_) (fun hc_11 => ?_)
    · replace hf := i_t hf hc_11
      exact hk x _ _ _ hf hM hS (lv_sub hl [0] rfl)
    · replace hf := i_f hf hc_11
      refine lv_aload_n hx hb dX11_lots_39 rfl (lv_at hl 0 rfl) ?_
      refine gr_50 hx hb hE hM hown w_4_123 dX11_lots_40 ?_
      refine lv_iload hx hb dX11_lots_43 (lv_at hl 3 rfl) ?_
      obtain ⟨hi_1, hf⟩ := i_n hf
      refine la_50 hx hb hE hM hi_1 dX11_lots_45 ?_
      refine lv_if_ne (tgt := 52) hx hb dX11_lots_46 (by decide) (fun hc_10 => ?_) (fun hc_10 => ?_)
      · replace hf := i_f hf hc_10
        refine lv_aload_n hx hb dX11_lots_52 rfl (lv_at hl 0 rfl) ?_
        refine lv_iload_n hx hb dX11_lots_53 rfl (lv_at hl 2 rfl) ?_
        obtain ⟨x_2, r_2, hq_2, hf⟩ := ob_some hf
        refine k_X11_draws hx hb hml hown hE hM hS w_5_104 hq_2 (Nat.le_of_ble_eq_true rfl) (Nat.le_of_ble_eq_true rfl) hl.1 (Nat.le_of_ble_eq_true rfl) ⟨Nat.zero_le _, Nat.zero_le _⟩ dX11_lots_54 (fun H locs hM hS => ?_)
        refine lv_istore (lv' := [(5, .int r_2), (0, .ref (ga G 41)), (2, .int a2), (3, .int a3), (4, .int a4)]) hx hb dX11_lots_57 hl (by decide) rfl (fun ls hl => ?_)
        refine lv_iconst (v := 0) hx hb dX11_lots_59 (by decide) ?_
        refine lv_istore (lv' := [(6, .int 0), (5, .int r_2), (0, .ref (ga G 41)), (2, .int a2), (3, .int a3), (4, .int a4)]) hx hb dX11_lots_60 hl (by decide) rfl (fun ls hl => ?_)
        refine wk_X11_lots_62 hx hb hml hown hE hr hlocks ?_ fu x_2 r_2 0 _ _ _ hf hM hS (lv_sub hl [2, 3, 4, 5, 1, 0] rfl)
        intro x_7 a6_7 H locs ls hf hM hS hl
        refine lv_iload_n hx hb dX11_lots_103 rfl (lv_at hl 1 rfl) ?_
        refine lv_iconst (v := 1) hx hb dX11_lots_104 (by decide) ?_
        refine lv_iload hx hb dX11_lots_105 (lv_at hl 4 rfl) ?_
        refine lv_ishl hx hb dX11_lots_107 ?_
        refine lv_ior hx hb dX11_lots_108 ?_
        refine lv_istore_n (lv' := [(2, .int (a2 ||| ((1 : Int32) <<< (a6_7 &&& 31)))), (0, .ref (ga G 41)), (3, .int a3), (4, .int a4), (6, .int a6_7)]) hx hb dX11_lots_109 rfl hl (by decide) rfl (fun ls hl => ?_)
        refine lv_aload_n hx hb dX11_lots_110 rfl (lv_at hl 1 rfl) ?_
        refine gr_49 hx hb hE hM hown w_4_122 dX11_lots_111 ?_
        refine lv_iload hx hb dX11_lots_114 (lv_at hl 3 rfl) ?_
        refine lv_aload_n hx hb dX11_lots_116 rfl (lv_at hl 1 rfl) ?_
        refine gr_55 hx hb hE hM hown w_4_131 dX11_lots_117 ?_
        refine lv_iload hx hb dX11_lots_120 (lv_at hl 4 rfl) ?_
        obtain ⟨hi_8, hf⟩ := i_n hf
        refine la_55 hx hb hE hM hi_8 dX11_lots_122 ?_
        obtain ⟨hi_9, hf⟩ := i_n hf
        refine sa_49 hx hb hE hM hS hi_9 dX11_lots_123 (fun H locs hM hS => ?_)
        refine lv_iinc (v := a3 + (-1)) (lv' := [(3, .int (a3 + (-1))), (2, .int (a2 ||| ((1 : Int32) <<< (a6_7 &&& 31)))), (0, .ref (ga G 41)), (4, .int a4), (6, .int a6_7)]) hx hb dX11_lots_124 hl (k := 2) rfl rfl (by decide) rfl (fun ls hl => ?_)
        refine lv_iinc (v := a4 + 1) (lv' := [(4, .int (a4 + 1)), (3, .int (a3 + (-1))), (2, .int (a2 ||| ((1 : Int32) <<< (a6_7 &&& 31)))), (0, .ref (ga G 41)), (6, .int a6_7)]) hx hb dX11_lots_127 hl (k := 3) rfl rfl (by decide) rfl (fun ls hl => ?_)
        refine lv_goto (tgt := 30) hx hb dX11_lots_130 (by decide) ?_
        exact ih (mu x_7 22 a4.toNatClampNeg (x_7 31 a6_7.toNatClampNeg)) (a2 ||| ((1 : Int32) <<< (a6_7 &&& 31))) (a3 + (-1)) (a4 + 1) _ _ _ hf hM hS (lv_sub hl [3, 2, 1, 0] rfl)
      · replace hf := i_t hf hc_10
        refine lv_goto (tgt := 127) hx hb dX11_lots_49 (by decide) ?_
        refine lv_iinc (v := a4 + 1) (lv' := [(4, .int (a4 + 1)), (0, .ref (ga G 41)), (2, .int a2), (3, .int a3)]) hx hb dX11_lots_127 hl (k := 3) rfl rfl (by decide) rfl (fun ls hl => ?_)
        refine lv_goto (tgt := 30) hx hb dX11_lots_130 (by decide) ?_
        exact ih x a2 a3 (a4 + 1) _ _ _ hf hM hS (lv_sub hl [1, 2, 3, 0] rfl)
set_option maxHeartbeats 4000000 in
set_option maxRecDepth 100000 in
theorem wk_X11_lots_163 {p : Program} {l : Launch} {e : Env} {s : State} {m : MethodId} {args : Array Value} {below : List Frame} {meth : Method} {c : Code} {fu nw : Nat} {G : GG} {mo : Me} {b2 : Int32} {b4 : Int32} (hx : p.tables.exec = Jvm.exec) (hb : c.code = cX11_lots) (hml : c.maxLocals = 7) (hown : s.vm.findClass RX11 = some m.cls) (hE : EnvP G s) (hr : meth.sig.returnType = (some .boolean)) (hlocks : meth.locks = false) {x' : Me} {r : Int32} {k : Me → Int32 → Option (Me × Int32)} (hk : ∀ (x : Me) (a6 : Int32) (H : Heap) (locs : List Loc) (ls : Array Slot), k x a6 = some (x', r) → MemP G nw mo x H → va_S (gA G) s.heap H locs → lv_has ls 7 [(0, .ref (ga G 41)), (2, .int b2), (4, .int b4), (6, .int a6)] → W p l e rm_X11_lots s m args below meth c H locs 0 0 (MQ below (PI G nw mo x' r) args s 0 0 (gA G)) (F0 m 224 ls [])) : ∀ (n : Nat) (x : Me) (a5 : Int32) (a6 : Int32) (H : Heap) (locs : List Loc) (ls : Array Slot), f_X11_lots_163 fu b2 b4 k n x a5 a6 = some (x', r) → MemP G nw mo x H → va_S (gA G) s.heap H locs → lv_has ls 7 [(0, .ref (ga G 41)), (2, .int b2), (4, .int b4), (5, .int a5), (6, .int a6)] → W p l e rm_X11_lots s m args below meth c H locs 0 0 (MQ below (PI G nw mo x' r) args s 0 0 (gA G)) (F0 m 163 ls []) := by
  intro n
  induction n with
  | zero =>
    intro x a5 a6 H locs ls hf hM hS hl
    exact nn hf
  | succ n ih =>
    intro x a5 a6 H locs ls hf hM hS hl
    rw [f_X11_lots_163] at hf
    refine lv_aload_n hx hb dX11_lots_163 rfl (lv_at hl 0 rfl) ?_
    refine gr_50 hx hb hE hM hown w_4_123 dX11_lots_164 ?_
    refine lv_iload hx hb dX11_lots_167 (lv_at hl 4 rfl) ?_
    obtain ⟨hi_14, hf⟩ := i_n hf
    refine la_50 hx hb hE hM hi_14 dX11_lots_169 ?_
    have hj_15 : ∀ (x_15 : Me) (H : Heap) (locs : List Loc) (ls : Array Slot), jnA hf x_15 = some (x', r) → MemP G nw mo x_15 H → va_S (gA G) s.heap H locs → lv_has ls 7 [(0, .ref (ga G 41)), (2, .int b2), (4, .int b4), (5, .int a5), (6, .int a6)] → W p l e rm_X11_lots s m args below meth c H locs 0 0 (MQ below (PI G nw mo x' r) args s 0 0 (gA G)) (F0 m 188 ls []) := by
      intro x_15 H locs ls hf hM hS hl
      refine lv_iload hx hb dX11_lots_188 (lv_at hl 3 rfl) ?_
      refine lv_aload_n hx hb dX11_lots_190 rfl (lv_at hl 0 rfl) ?_
      refine gr_50 hx hb hE hM hown w_4_123 dX11_lots_191 ?_
      refine lv_iload hx hb dX11_lots_194 (lv_at hl 4 rfl) ?_
      refine la_50 hx hb hE hM hi_14 dX11_lots_196 ?_
      refine lv_if_eq (tgt := 210) hx hb dX11_lots_197 (by decide) (fun hc_17 => ?_) (fun hc_17 => ?_)
      · replace hf := i_t hf hc_17
        refine lv_iconst (v := 0) hx hb dX11_lots_210 (by decide) ?_
        refine lv_goto (tgt := 215) hx hb dX11_lots_211 (by decide) ?_
        refine lv_isub hx hb dX11_lots_215 ?_
        refine lv_istore (lv' := [(5, .int (a5 - 0)), (0, .ref (ga G 41)), (2, .int b2), (4, .int b4), (6, .int a6)]) hx hb dX11_lots_216 hl (by decide) rfl (fun ls hl => ?_)
        refine lv_iinc (v := a6 + 1) (lv' := [(6, .int (a6 + 1)), (5, .int (a5 - 0)), (0, .ref (ga G 41)), (2, .int b2), (4, .int b4)]) hx hb dX11_lots_218 hl (k := 4) rfl rfl (by decide) rfl (fun ls hl => ?_)
        refine lv_goto (tgt := 163) hx hb dX11_lots_221 (by decide) ?_
        exact ih x_15 (a5 - 0) (a6 + 1) _ _ _ hf hM hS (lv_sub hl [2, 3, 4, 1, 0] rfl)
      · replace hf := i_f hf hc_17
        refine lv_iload_n hx hb dX11_lots_200 rfl (lv_at hl 1 rfl) ?_
        refine lv_iload hx hb dX11_lots_201 (lv_at hl 4 rfl) ?_
        refine lv_ishr hx hb dX11_lots_203 ?_
        refine lv_iconst (v := 1) hx hb dX11_lots_204 (by decide) ?_
        refine lv_iand hx hb dX11_lots_205 ?_
        refine lv_iconst (v := 1) hx hb dX11_lots_206 (by decide) ?_
        refine lv_icmp_ne (tgt := 214) hx hb dX11_lots_207 (by decide) (fun hc_16 => ?_) (fun hc_16 => ?_)
        · replace hf := i_f hf hc_16
          refine lv_iconst (v := 1) hx hb dX11_lots_214 (by decide) ?_
          refine lv_isub hx hb dX11_lots_215 ?_
          refine lv_istore (lv' := [(5, .int (a5 - 1)), (0, .ref (ga G 41)), (2, .int b2), (4, .int b4), (6, .int a6)]) hx hb dX11_lots_216 hl (by decide) rfl (fun ls hl => ?_)
          refine lv_iinc (v := a6 + 1) (lv' := [(6, .int (a6 + 1)), (5, .int (a5 - 1)), (0, .ref (ga G 41)), (2, .int b2), (4, .int b4)]) hx hb dX11_lots_218 hl (k := 4) rfl rfl (by decide) rfl (fun ls hl => ?_)
          refine lv_goto (tgt := 163) hx hb dX11_lots_221 (by decide) ?_
          exact ih x_15 (a5 - 1) (a6 + 1) _ _ _ hf hM hS (lv_sub hl [2, 3, 4, 1, 0] rfl)
        · replace hf := i_t hf hc_16
          refine lv_iconst (v := 0) hx hb dX11_lots_210 (by decide) ?_
          refine lv_goto (tgt := 215) hx hb dX11_lots_211 (by decide) ?_
          refine lv_isub hx hb dX11_lots_215 ?_
          refine lv_istore (lv' := [(5, .int (a5 - 0)), (0, .ref (ga G 41)), (2, .int b2), (4, .int b4), (6, .int a6)]) hx hb dX11_lots_216 hl (by decide) rfl (fun ls hl => ?_)
          refine lv_iinc (v := a6 + 1) (lv' := [(6, .int (a6 + 1)), (5, .int (a5 - 0)), (0, .ref (ga G 41)), (2, .int b2), (4, .int b4)]) hx hb dX11_lots_218 hl (k := 4) rfl rfl (by decide) rfl (fun ls hl => ?_)
          refine lv_goto (tgt := 163) hx hb dX11_lots_221 (by decide) ?_
          exact ih x_15 (a5 - 0) (a6 + 1) _ _ _ hf hM hS (lv_sub hl [2, 3, 4, 1, 0] rfl)
    replace hf := jn_use hf
    refine lv_if_eq (tgt := 188) hx hb dX11_lots_170 (by decide) (fun hc_20 => ?_) (fun hc_20 => ?_)
    · replace hf := i_t hf hc_20
      exact hj_15 x _ _ _ hf hM hS (lv_sub hl [0, 1, 2, 3, 4] rfl)
    · replace hf := i_f hf hc_20
      refine lv_iload_n hx hb dX11_lots_173 rfl (lv_at hl 1 rfl) ?_
      refine lv_iload hx hb dX11_lots_174 (lv_at hl 4 rfl) ?_
      refine lv_ishr hx hb dX11_lots_176 ?_
      refine lv_iconst (v := 1) hx hb dX11_lots_177 (by decide) ?_
      refine lv_iand hx hb dX11_lots_178 ?_
      refine lv_iconst (v := 1) hx hb dX11_lots_179 (by decide) ?_
      refine lv_icmp_eq (tgt := 188) hx hb dX11_lots_180 (by decide) (fun hc_19 => ?_) (fun hc_19 => ?_)
      · replace hf := i_t hf hc_19
        exact hj_15 x _ _ _ hf hM hS (lv_sub hl [0, 1, 2, 3, 4] rfl)
      · replace hf := i_f hf hc_19
        refine lv_iload hx hb dX11_lots_183 (lv_at hl 3 rfl) ?_
        refine lv_if_le (tgt := 224) hx hb dX11_lots_185 (by decide) (fun hc_18 => ?_) (fun hc_18 => ?_)
        · replace hf := i_t hf hc_18
          exact hk x a6 _ _ _ hf hM hS (lv_sub hl [0, 1, 2, 4] rfl)
        · replace hf := i_f hf hc_18
          exact hj_15 x _ _ _ hf hM hS (lv_sub hl [0, 1, 2, 3, 4] rfl)
set_option maxHeartbeats 4000000 in
set_option maxRecDepth 100000 in
theorem wk_X11_lots_138 {p : Program} {l : Launch} {e : Env} {s : State} {m : MethodId} {args : Array Value} {below : List Frame} {meth : Method} {c : Code} {fu nw : Nat} {G : GG} {mo : Me} (hx : p.tables.exec = Jvm.exec) (hb : c.code = cX11_lots) (hml : c.maxLocals = 7) (hown : s.vm.findClass RX11 = some m.cls) (hE : EnvP G s) (hr : meth.sig.returnType = (some .boolean)) (hlocks : meth.locks = false) {x' : Me} {r : Int32} {k : Me → Option (Me × Int32)} (hk : ∀ (x : Me) (H : Heap) (locs : List Loc) (ls : Array Slot), k x = some (x', r) → MemP G nw mo x H → va_S (gA G) s.heap H locs → lv_has ls 7 [(0, .ref (ga G 41))] → W p l e rm_X11_lots s m args below meth c H locs 0 0 (MQ below (PI G nw mo x' r) args s 0 0 (gA G)) (F0 m 255 ls [])) : ∀ (n : Nat) (x : Me) (a2 : Int32) (a4 : Int32) (H : Heap) (locs : List Loc) (ls : Array Slot), f_X11_lots_138 fu k n x a2 a4 = some (x', r) → MemP G nw mo x H → va_S (gA G) s.heap H locs → lv_has ls 7 [(0, .ref (ga G 41)), (2, .int a2), (4, .int a4)] → W p l e rm_X11_lots s m args below meth c H locs 0 0 (MQ below (PI G nw mo x' r) args s 0 0 (gA G)) (F0 m 138 ls []) := by
  intro n
  induction n with
  | zero =>
    intro x a2 a4 H locs ls hf hM hS hl
    exact nn hf
  | succ n ih =>
    intro x a2 a4 H locs ls hf hM hS hl
    rw [f_X11_lots_138] at hf
    refine lv_iload hx hb dX11_lots_138 (lv_at hl 2 rfl) ?_
    refine lv_aload_n hx hb dX11_lots_140 rfl (lv_at hl 0 rfl) ?_
    refine gm_30 hx hb hE hM hown w_4_130 dX11_lots_141 ?_
    refine lv_icmp_ge (tgt := 255) hx hb dX11_lots_144 (by decide) (fun hc_23 => ?_) (fun hc_23 => ?_)
    · replace hf := i_t hf hc_23
      exact hk x _ _ _ hf hM hS (lv_sub hl [0] rfl)
    · replace hf := i_f hf hc_23
      refine lv_aload_n hx hb dX11_lots_147 rfl (lv_at hl 0 rfl) ?_
      refine lv_aload_n hx hb dX11_lots_148 rfl (lv_at hl 0 rfl) ?_
      refine gm_30 hx hb hE hM hown w_4_130 dX11_lots_149 ?_
      refine lv_iload hx hb dX11_lots_152 (lv_at hl 2 rfl) ?_
      refine lv_isub hx hb dX11_lots_154 ?_
      obtain ⟨x_13, r_13, hq_13, hf⟩ := ob_some hf
      refine k_X11_draws hx hb hml hown hE hM hS w_5_104 hq_13 (Nat.le_of_ble_eq_true rfl) (Nat.le_of_ble_eq_true rfl) hl.1 (Nat.le_of_ble_eq_true rfl) ⟨Nat.zero_le _, Nat.zero_le _⟩ dX11_lots_155 (fun H locs hM hS => ?_)
      refine lv_istore (lv' := [(5, .int r_13), (0, .ref (ga G 41)), (2, .int a2), (4, .int a4)]) hx hb dX11_lots_158 hl (by decide) rfl (fun ls hl => ?_)
      refine lv_iconst (v := 0) hx hb dX11_lots_160 (by decide) ?_
      refine lv_istore (lv' := [(6, .int 0), (5, .int r_13), (0, .ref (ga G 41)), (2, .int a2), (4, .int a4)]) hx hb dX11_lots_161 hl (by decide) rfl (fun ls hl => ?_)
      refine wk_X11_lots_163 hx hb hml hown hE hr hlocks ?_ fu x_13 r_13 0 _ _ _ hf hM hS (lv_sub hl [2, 3, 4, 1, 0] rfl)
      intro x_21 a6_21 H locs ls hf hM hS hl
      refine lv_iload_n hx hb dX11_lots_224 rfl (lv_at hl 1 rfl) ?_
      refine lv_iconst (v := 1) hx hb dX11_lots_225 (by decide) ?_
      refine lv_iload hx hb dX11_lots_226 (lv_at hl 3 rfl) ?_
      refine lv_ishl hx hb dX11_lots_228 ?_
      refine lv_ior hx hb dX11_lots_229 ?_
      refine lv_istore_n (lv' := [(2, .int (a2 ||| ((1 : Int32) <<< (a6_21 &&& 31)))), (0, .ref (ga G 41)), (4, .int a4), (6, .int a6_21)]) hx hb dX11_lots_230 rfl hl (by decide) rfl (fun ls hl => ?_)
      refine lv_aload_n hx hb dX11_lots_231 rfl (lv_at hl 1 rfl) ?_
      refine gr_56 hx hb hE hM hown w_4_132 dX11_lots_232 ?_
      refine lv_iload hx hb dX11_lots_235 (lv_at hl 2 rfl) ?_
      refine lv_iload hx hb dX11_lots_237 (lv_at hl 3 rfl) ?_
      obtain ⟨hi_22, hf⟩ := i_n hf
      refine sa_56 hx hb hE hM hS hi_22 dX11_lots_239 (fun H locs hM hS => ?_)
      refine lv_aload_n hx hb dX11_lots_240 rfl (lv_at hl 1 rfl) ?_
      refine gr_57 hx hb hE hM hown w_4_133 dX11_lots_241 ?_
      refine lv_iload hx hb dX11_lots_244 (lv_at hl 2 rfl) ?_
      refine lv_iload hx hb dX11_lots_246 (lv_at hl 3 rfl) ?_
      refine sa_57 hx hb hE hM hS hi_22 dX11_lots_248 (fun H locs hM hS => ?_)
      refine lv_iinc (v := a4 + 1) (lv' := [(4, .int (a4 + 1)), (2, .int (a2 ||| ((1 : Int32) <<< (a6_21 &&& 31)))), (0, .ref (ga G 41)), (6, .int a6_21)]) hx hb dX11_lots_249 hl (k := 2) rfl rfl (by decide) rfl (fun ls hl => ?_)
      refine lv_goto (tgt := 138) hx hb dX11_lots_252 (by decide) ?_
      exact ih (mu (mu x_21 32 a4.toNatClampNeg a6_21) 33 a4.toNatClampNeg a6_21) (a2 ||| ((1 : Int32) <<< (a6_21 &&& 31))) (a4 + 1) _ _ _ hf hM hS (lv_sub hl [2, 1, 0] rfl)
set_option maxHeartbeats 4000000 in
set_option maxRecDepth 100000 in
theorem c_X11_lots (l : Launch) (fu nw : Nat) (G : GG) (x x' mo : Me) (a1 : Int32) (r : Int32) (hf : f_X11_lots fu x a1 = some (x', r)) : Met l yX11_lots [.code yX11_lots cX11_lots 7 (some .boolean)] rm_X11_lots (va_Pc [.ref (ga G 41), .int a1] (Pre G nw mo x)) (PI G nw mo x' r) 0 0 (gA G) := by
  refine mt_ofW (cc := cX11_lots) (maxL := 7) (ret := (some .boolean)) (by decide +kernel) rfl ?_
  intro p e s m args below meth c s₁ B hml hv
  obtain ⟨rfl, hE, hM⟩ := hv
  have hx := B.exec
  have hb := B.bytes
  have hr := B.returns
  have hown : s.vm.findClass RX11 = some m.cls := findClass_of_methodNamed B.named
  have hlocks := B.notSynchronized
  have hS : va_S (gA G) s.heap s.heap [] := va_S.rf
  have hl := lv_entry ([.ref (ga G 41), .int a1]) (n := 7) (Nat.le_of_ble_eq_true rfl)
  rw [lg_entry_eq]
  generalize (lg_sl ([.ref (ga G 41), .int a1]) ++ List.replicate (7 - (lg_sl ([.ref (ga G 41), .int a1])).length) Slot.unset).toArray = ls at hl ⊢
  have hl : lv_has ls 7 [(0, .ref (ga G 41)), (1, .int a1)] := hl
  generalize ([.ref (ga G 41), .int a1] : List Value).toArray = args
  unfold f_X11_lots at hf
  refine lv_aload_n hx hb dX11_lots_0 rfl (lv_at hl 0 rfl) ?_
  refine lv_iconst (v := 0) hx hb dX11_lots_1 (by decide) ?_
  refine pm_0 hx hb hE hM hS hown w_4_100 dX11_lots_2 (fun H locs hM hS => ?_)
  refine lv_aload_n hx hb dX11_lots_5 rfl (lv_at hl 0 rfl) ?_
  refine gm_4 hx hb hE hM hown w_4_104 dX11_lots_6 ?_
  refine lv_iconst (v := 2) hx hb dX11_lots_9 (by decide) ?_
  refine lv_icmp_eq (tgt := 15) hx hb dX11_lots_10 (by decide) (fun hc_25 => ?_) (fun hc_25 => ?_)
  · replace hf := i_t hf hc_25
    refine lv_aload_n hx hb dX11_lots_15 rfl (lv_at hl 0 rfl) ?_
    refine lv_iload_n hx hb dX11_lots_16 rfl (lv_at hl 1 rfl) ?_
    refine pm_29 hx hb hE hM hS hown w_4_129 dX11_lots_17 (fun H locs hM hS => ?_)
    refine lv_iconst (v := 0) hx hb dX11_lots_20 (by decide) ?_
    refine lv_istore_n (lv' := [(2, .int 0), (0, .ref (ga G 41)), (1, .int a1)]) hx hb dX11_lots_21 rfl hl (by decide) rfl (fun ls hl => ?_)
    refine lv_aload_n hx hb dX11_lots_22 rfl (lv_at hl 1 rfl) ?_
    refine gm_30 hx hb hE hM hown w_4_130 dX11_lots_23 ?_
    refine lv_istore_n (lv' := [(3, .int (x 30 0)), (2, .int 0), (0, .ref (ga G 41)), (1, .int a1)]) hx hb dX11_lots_26 rfl hl (by decide) rfl (fun ls hl => ?_)
    refine lv_iconst (v := 0) hx hb dX11_lots_27 (by decide) ?_
    refine lv_istore (lv' := [(4, .int 0), (3, .int (x 30 0)), (2, .int 0), (0, .ref (ga G 41)), (1, .int a1)]) hx hb dX11_lots_28 hl (by decide) rfl (fun ls hl => ?_)
    refine wk_X11_lots_30 hx hb hml hown hE hr hlocks ?_ fu (mu (mu x 0 0 0) 29 0 a1) 0 (x 30 0) 0 _ _ _ hf hM hS (lv_sub hl [3, 2, 1, 0] rfl)
    intro x_12 H locs ls hf hM hS hl
    refine lv_iconst (v := 0) hx hb dX11_lots_133 (by decide) ?_
    refine lv_istore_n (lv' := [(2, .int 0), (0, .ref (ga G 41))]) hx hb dX11_lots_134 rfl hl (by decide) rfl (fun ls hl => ?_)
    refine lv_iconst (v := 0) hx hb dX11_lots_135 (by decide) ?_
    refine lv_istore (lv' := [(4, .int 0), (2, .int 0), (0, .ref (ga G 41))]) hx hb dX11_lots_136 hl (by decide) rfl (fun ls hl => ?_)
    refine wk_X11_lots_138 hx hb hml hown hE hr hlocks ?_ fu x_12 0 0 _ _ _ hf hM hS (lv_sub hl [2, 1, 0] rfl)
    intro x_24 H locs ls hf hM hS hl
    refine lv_aload_n hx hb dX11_lots_255 rfl (lv_at hl 0 rfl) ?_
    refine lv_iconst (v := 3) hx hb dX11_lots_256 (by decide) ?_
    refine pm_4 hx hb hE hM hS hown w_4_104 dX11_lots_257 (fun H locs hM hS => ?_)
    refine lv_iconst (v := 1) hx hb dX11_lots_260 (by decide) ?_
    exact rt_zM hx hb hr rfl hf hM hS dX11_lots_261 hlocks
  · replace hf := i_f hf hc_25
    refine lv_iconst (v := 0) hx hb dX11_lots_13 (by decide) ?_
    exact rt_zM hx hb hr rfl hf hM hS dX11_lots_14 hlocks
theorem k_X11_lots {p : Program} {l : Launch} {e : Env} {R : Room} {s : State} {m : MethodId} {args : Array Value} {below : List Frame} {meth : Method} {c : Code} {H : Heap} {locs : List Loc} {cells slots : Nat} {Q : State → Prop} {cc : ByteArray} {pc nL : Nat} {ls : Array Slot} {rest : List Value} {G : GG} {fu nw : Nat} {x x' mo : Me} {own : String} {index : Nat} {a1 : Int32} {r : Int32} (hx : p.tables.exec = Jvm.exec) (hb : c.code = cc) (hml : c.maxLocals = nL) (hown : s.vm.findClass own = some m.cls) (hE : EnvP G s) (hM : MemP G nw mo x H) (hS : va_S (gA G) s.heap H locs) (hw : Cond.methodLink own index yX11_lots ∈ lw_tbl) (hf : f_X11_lots fu x a1 = some (x', r)) (h1 : 1 + 1 ≤ R.frames) (h2 : 8 + (7 + 11) + 21 ≤ R.locals) (hsz : ls.size = nL) (hW : (rest.map fun v => v.category).sum ≤ 8) (hcs : cells ≤ R.cells ∧ slots ≤ R.slots) (hdg : decode cc pc = .ok (.invokevirtual index, 3)) (kk : ∀ (H1 : Heap) (locs1 : List Loc), MemP G nw mo x' H1 → va_S (gA G) s.heap H1 locs1 → W p l e R s m args below meth c H1 locs1 cells slots Q (F0 m (pc + 3) ls (.int r :: rest))) : W p l e R s m args below meth c H locs cells slots Q (F0 m pc ls (.int a1 :: .ref (ga G 41) :: rest)) := mm_ki hS (mm_runV (n := 1) (o := 41) (C := RX11) (T := TX11) (N := 54) (ci := 11) (As := [.int a1]) hx hb hml hown hE hM hS (c_X11_lots l fu nw G x x' mo a1 _ hf) (List.forall_mem_cons.mpr ⟨⟨hw, rfl⟩, List.forall_mem_cons.mpr ⟨⟨w_5_123, rfl⟩, List.forall_mem_cons.mpr ⟨⟨w_5_124, rfl⟩, List.forall_mem_cons.mpr ⟨⟨w_1_11, rfl⟩, List.forall_mem_cons.mpr ⟨⟨w_5_125, rfl⟩, fun _ h => absurd h List.not_mem_nil⟩⟩⟩⟩⟩) rfl rfl ⟨rfl, by decide, by decide, by decide +kernel⟩ ⟨h1, h2⟩ rfl rfl rfl hsz rfl hW hdg hcs) kk
def f_X11_drawn_65 (fu : Nat) (k : Me → Int32 → Option (Me × Int32)) : Nat → Me → Int32 → Int32 → Option (Me × Int32)
  | 0 => fun _ _ _ => none
  | n + 1 => fun x a3 a4 => if inb a4 17 = true then jn (fun (x_2 : Me) => if (x_2 23 a4.toNatClampNeg) = 0 then f_X11_drawn_65 fu k n x_2 (a3 - 0) (a4 + 1) else f_X11_drawn_65 fu k n x_2 (a3 - 1) (a4 + 1)) (fun j_2 => if (x 23 a4.toNatClampNeg) = 0 then j_2 x else if a3 ≤ 0 then k x a4 else j_2 x) else none
def f_X11_drawn (fu : Nat) (x : Me) (a1 : Int32) (a2 : Int32) : Option (Me × Int32) := if a1 < 0 then some ((mu x 0 0 0), (-1)) else if 2 < a1 then some ((mu x 0 0 0), (-1)) else if (x 4 0) ≤ a1 then some ((mu x 0 0 0), (-1)) else if a2 < 0 then some ((mu x 0 0 0), (-1)) else if a2 < (x 30 0) then if a1 = 1 then if inb a2 10 = true then some ((mu x 0 0 0), x 31 a2.toNatClampNeg) else none else if a1 = 2 then if inb a2 10 = true then some ((mu x 0 0 0), x 32 a2.toNatClampNeg) else none else f_X11_drawn_65 fu (fun (x_6 : Me) (a4_6 : Int32) => some (x_6, a4_6)) fu (mu x 0 0 0) a2 0 else some ((mu x 0 0 0), (-1))
def rm_X11_drawn : Room := { frames := 0, cells := 0, slots := 0, locals := 0 }
set_option maxHeartbeats 4000000 in
set_option maxRecDepth 100000 in
theorem wk_X11_drawn_65 {p : Program} {l : Launch} {e : Env} {s : State} {m : MethodId} {args : Array Value} {below : List Frame} {meth : Method} {c : Code} {fu nw : Nat} {G : GG} {mo : Me} (hx : p.tables.exec = Jvm.exec) (hb : c.code = cX11_drawn) (hml : c.maxLocals = 5) (hown : s.vm.findClass RX11 = some m.cls) (hE : EnvP G s) (hr : meth.sig.returnType = (some .int)) (hlocks : meth.locks = false) {x' : Me} {r : Int32} {k : Me → Int32 → Option (Me × Int32)} (hk : ∀ (x : Me) (a4 : Int32) (H : Heap) (locs : List Loc) (ls : Array Slot), k x a4 = some (x', r) → MemP G nw mo x H → va_S (gA G) s.heap H locs → lv_has ls 5 [(4, .int a4)] → W p l e rm_X11_drawn s m args below meth c H locs 0 0 (MQ below (PI G nw mo x' r) args s 0 0 (gA G)) (F0 m 103 ls [])) : ∀ (n : Nat) (x : Me) (a3 : Int32) (a4 : Int32) (H : Heap) (locs : List Loc) (ls : Array Slot), f_X11_drawn_65 fu k n x a3 a4 = some (x', r) → MemP G nw mo x H → va_S (gA G) s.heap H locs → lv_has ls 5 [(0, .ref (ga G 41)), (3, .int a3), (4, .int a4)] → W p l e rm_X11_drawn s m args below meth c H locs 0 0 (MQ below (PI G nw mo x' r) args s 0 0 (gA G)) (F0 m 65 ls []) := by
  intro n
  induction n with
  | zero =>
    intro x a3 a4 H locs ls hf hM hS hl
    exact nn hf
  | succ n ih =>
    intro x a3 a4 H locs ls hf hM hS hl
    rw [f_X11_drawn_65] at hf
    refine lv_aload_n hx hb dX11_drawn_65 rfl (lv_at hl 0 rfl) ?_
    refine gr_50 hx hb hE hM hown w_4_123 dX11_drawn_66 ?_
    refine lv_iload hx hb dX11_drawn_69 (lv_at hl 2 rfl) ?_
    obtain ⟨hi_1, hf⟩ := i_n hf
    refine la_50 hx hb hE hM hi_1 dX11_drawn_71 ?_
    have hj_2 : ∀ (x_2 : Me) (H : Heap) (locs : List Loc) (ls : Array Slot), jnA hf x_2 = some (x', r) → MemP G nw mo x_2 H → va_S (gA G) s.heap H locs → lv_has ls 5 [(0, .ref (ga G 41)), (3, .int a3), (4, .int a4)] → W p l e rm_X11_drawn s m args below meth c H locs 0 0 (MQ below (PI G nw mo x' r) args s 0 0 (gA G)) (F0 m 79 ls []) := by
      intro x_2 H locs ls hf hM hS hl
      refine lv_iload_n hx hb dX11_drawn_79 rfl (lv_at hl 1 rfl) ?_
      refine lv_aload_n hx hb dX11_drawn_80 rfl (lv_at hl 0 rfl) ?_
      refine gr_50 hx hb hE hM hown w_4_123 dX11_drawn_81 ?_
      refine lv_iload hx hb dX11_drawn_84 (lv_at hl 2 rfl) ?_
      refine la_50 hx hb hE hM hi_1 dX11_drawn_86 ?_
      refine lv_if_eq (tgt := 94) hx hb dX11_drawn_87 (by decide) (fun hc_3 => ?_) (fun hc_3 => ?_)
      · replace hf := i_t hf hc_3
        refine lv_iconst (v := 0) hx hb dX11_drawn_94 (by decide) ?_
        refine lv_isub hx hb dX11_drawn_95 ?_
        refine lv_istore_n (lv' := [(3, .int (a3 - 0)), (0, .ref (ga G 41)), (4, .int a4)]) hx hb dX11_drawn_96 rfl hl (by decide) rfl (fun ls hl => ?_)
        refine lv_iinc (v := a4 + 1) (lv' := [(4, .int (a4 + 1)), (3, .int (a3 - 0)), (0, .ref (ga G 41))]) hx hb dX11_drawn_97 hl (k := 2) rfl rfl (by decide) rfl (fun ls hl => ?_)
        refine lv_goto (tgt := 65) hx hb dX11_drawn_100 (by decide) ?_
        exact ih x_2 (a3 - 0) (a4 + 1) _ _ _ hf hM hS (lv_sub hl [2, 1, 0] rfl)
      · replace hf := i_f hf hc_3
        refine lv_iconst (v := 1) hx hb dX11_drawn_90 (by decide) ?_
        refine lv_goto (tgt := 95) hx hb dX11_drawn_91 (by decide) ?_
        refine lv_isub hx hb dX11_drawn_95 ?_
        refine lv_istore_n (lv' := [(3, .int (a3 - 1)), (0, .ref (ga G 41)), (4, .int a4)]) hx hb dX11_drawn_96 rfl hl (by decide) rfl (fun ls hl => ?_)
        refine lv_iinc (v := a4 + 1) (lv' := [(4, .int (a4 + 1)), (3, .int (a3 - 1)), (0, .ref (ga G 41))]) hx hb dX11_drawn_97 hl (k := 2) rfl rfl (by decide) rfl (fun ls hl => ?_)
        refine lv_goto (tgt := 65) hx hb dX11_drawn_100 (by decide) ?_
        exact ih x_2 (a3 - 1) (a4 + 1) _ _ _ hf hM hS (lv_sub hl [2, 1, 0] rfl)
    replace hf := jn_use hf
    refine lv_if_eq (tgt := 79) hx hb dX11_drawn_72 (by decide) (fun hc_5 => ?_) (fun hc_5 => ?_)
    · replace hf := i_t hf hc_5
      exact hj_2 x _ _ _ hf hM hS (lv_sub hl [0, 1, 2] rfl)
    · replace hf := i_f hf hc_5
      refine lv_iload_n hx hb dX11_drawn_75 rfl (lv_at hl 1 rfl) ?_
      refine lv_if_le (tgt := 103) hx hb dX11_drawn_76 (by decide) (fun hc_4 => ?_) (fun hc_4 => ?_)
      · replace hf := i_t hf hc_4
        exact hk x a4 _ _ _ hf hM hS (lv_sub hl [2] rfl)
      · replace hf := i_f hf hc_4
        exact hj_2 x _ _ _ hf hM hS (lv_sub hl [0, 1, 2] rfl)
set_option maxHeartbeats 4000000 in
set_option maxRecDepth 100000 in
theorem c_X11_drawn (l : Launch) (fu nw : Nat) (G : GG) (x x' mo : Me) (a1 : Int32) (a2 : Int32) (r : Int32) (hf : f_X11_drawn fu x a1 a2 = some (x', r)) : Met l yX11_drawn [.code yX11_drawn cX11_drawn 5 (some .int)] rm_X11_drawn (va_Pc [.ref (ga G 41), .int a1, .int a2] (Pre G nw mo x)) (PI G nw mo x' r) 0 0 (gA G) := by
  refine mt_ofW (cc := cX11_drawn) (maxL := 5) (ret := (some .int)) (by decide +kernel) rfl ?_
  intro p e s m args below meth c s₁ B hml hv
  obtain ⟨rfl, hE, hM⟩ := hv
  have hx := B.exec
  have hb := B.bytes
  have hr := B.returns
  have hown : s.vm.findClass RX11 = some m.cls := findClass_of_methodNamed B.named
  have hlocks := B.notSynchronized
  have hS : va_S (gA G) s.heap s.heap [] := va_S.rf
  have hl := lv_entry ([.ref (ga G 41), .int a1, .int a2]) (n := 5) (Nat.le_of_ble_eq_true rfl)
  rw [lg_entry_eq]
  generalize (lg_sl ([.ref (ga G 41), .int a1, .int a2]) ++ List.replicate (5 - (lg_sl ([.ref (ga G 41), .int a1, .int a2])).length) Slot.unset).toArray = ls at hl ⊢
  have hl : lv_has ls 5 [(0, .ref (ga G 41)), (1, .int a1), (2, .int a2)] := hl
  generalize ([.ref (ga G 41), .int a1, .int a2] : List Value).toArray = args
  unfold f_X11_drawn at hf
  refine lv_aload_n hx hb dX11_drawn_0 rfl (lv_at hl 0 rfl) ?_
  refine lv_iconst (v := 0) hx hb dX11_drawn_1 (by decide) ?_
  refine pm_0 hx hb hE hM hS hown w_4_100 dX11_drawn_2 (fun H locs hM hS => ?_)
  refine lv_iload_n hx hb dX11_drawn_5 rfl (lv_at hl 1 rfl) ?_
  refine lv_if_lt (tgt := 34) hx hb dX11_drawn_6 (by decide) (fun hc_15 => ?_) (fun hc_15 => ?_)
  · replace hf := i_t hf hc_15
    refine lv_iconst (v := (-1)) hx hb dX11_drawn_34 (by decide) ?_
    exact rt_iM hx hb hr hf hM hS dX11_drawn_35 hlocks
  · replace hf := i_f hf hc_15
    refine lv_iload_n hx hb dX11_drawn_9 rfl (lv_at hl 1 rfl) ?_
    refine lv_iconst (v := 2) hx hb dX11_drawn_10 (by decide) ?_
    refine lv_icmp_gt (tgt := 34) hx hb dX11_drawn_11 (by decide) (fun hc_14 => ?_) (fun hc_14 => ?_)
    · replace hf := i_t hf hc_14
      refine lv_iconst (v := (-1)) hx hb dX11_drawn_34 (by decide) ?_
      exact rt_iM hx hb hr hf hM hS dX11_drawn_35 hlocks
    · replace hf := i_f hf hc_14
      refine lv_aload_n hx hb dX11_drawn_14 rfl (lv_at hl 0 rfl) ?_
      refine gm_4 hx hb hE hM hown w_4_104 dX11_drawn_15 ?_
      refine lv_iload_n hx hb dX11_drawn_18 rfl (lv_at hl 1 rfl) ?_
      refine lv_icmp_le (tgt := 34) hx hb dX11_drawn_19 (by decide) (fun hc_13 => ?_) (fun hc_13 => ?_)
      · replace hf := i_t hf hc_13
        refine lv_iconst (v := (-1)) hx hb dX11_drawn_34 (by decide) ?_
        exact rt_iM hx hb hr hf hM hS dX11_drawn_35 hlocks
      · replace hf := i_f hf hc_13
        refine lv_iload_n hx hb dX11_drawn_22 rfl (lv_at hl 2 rfl) ?_
        refine lv_if_lt (tgt := 34) hx hb dX11_drawn_23 (by decide) (fun hc_12 => ?_) (fun hc_12 => ?_)
        · replace hf := i_t hf hc_12
          refine lv_iconst (v := (-1)) hx hb dX11_drawn_34 (by decide) ?_
          exact rt_iM hx hb hr hf hM hS dX11_drawn_35 hlocks
        · replace hf := i_f hf hc_12
          refine lv_iload_n hx hb dX11_drawn_26 rfl (lv_at hl 2 rfl) ?_
          refine lv_aload_n hx hb dX11_drawn_27 rfl (lv_at hl 0 rfl) ?_
          refine gm_30 hx hb hE hM hown w_4_130 dX11_drawn_28 ?_
          refine lv_icmp_lt (tgt := 36) hx hb dX11_drawn_31 (by decide) (fun hc_11 => ?_) (fun hc_11 => ?_)
          · replace hf := i_t hf hc_11
            refine lv_iload_n hx hb dX11_drawn_36 rfl (lv_at hl 1 rfl) ?_
            refine lv_iconst (v := 1) hx hb dX11_drawn_37 (by decide) ?_
            refine lv_icmp_ne (tgt := 48) hx hb dX11_drawn_38 (by decide) (fun hc_10 => ?_) (fun hc_10 => ?_)
            · replace hf := i_f hf hc_10
              refine lv_iload_n hx hb dX11_drawn_48 rfl (lv_at hl 1 rfl) ?_
              refine lv_iconst (v := 2) hx hb dX11_drawn_49 (by decide) ?_
              refine lv_icmp_ne (tgt := 60) hx hb dX11_drawn_50 (by decide) (fun hc_8 => ?_) (fun hc_8 => ?_)
              · replace hf := i_f hf hc_8
                refine lv_iload_n hx hb dX11_drawn_60 rfl (lv_at hl 2 rfl) ?_
                refine lv_istore_n (lv' := [(3, .int a2), (0, .ref (ga G 41)), (1, .int a1), (2, .int a2)]) hx hb dX11_drawn_61 rfl hl (by decide) rfl (fun ls hl => ?_)
                refine lv_iconst (v := 0) hx hb dX11_drawn_62 (by decide) ?_
                refine lv_istore (lv' := [(4, .int 0), (3, .int a2), (0, .ref (ga G 41)), (1, .int a1), (2, .int a2)]) hx hb dX11_drawn_63 hl (by decide) rfl (fun ls hl => ?_)
                refine wk_X11_drawn_65 hx hb hml hown hE hr hlocks ?_ fu (mu x 0 0 0) a2 0 _ _ _ hf hM hS (lv_sub hl [2, 1, 0] rfl)
                intro x_6 a4_6 H locs ls hf hM hS hl
                refine lv_iload hx hb dX11_drawn_103 (lv_at hl 0 rfl) ?_
                exact rt_iM hx hb hr hf hM hS dX11_drawn_105 hlocks
              · replace hf := i_t hf hc_8
                refine lv_aload_n hx hb dX11_drawn_53 rfl (lv_at hl 0 rfl) ?_
                refine gr_56 hx hb hE hM hown w_4_132 dX11_drawn_54 ?_
                refine lv_iload_n hx hb dX11_drawn_57 rfl (lv_at hl 2 rfl) ?_
                obtain ⟨hi_7, hf⟩ := i_n hf
                refine la_56 hx hb hE hM hi_7 dX11_drawn_58 ?_
                exact rt_iM hx hb hr hf hM hS dX11_drawn_59 hlocks
            · replace hf := i_t hf hc_10
              refine lv_aload_n hx hb dX11_drawn_41 rfl (lv_at hl 0 rfl) ?_
              refine gr_55 hx hb hE hM hown w_4_131 dX11_drawn_42 ?_
              refine lv_iload_n hx hb dX11_drawn_45 rfl (lv_at hl 2 rfl) ?_
              obtain ⟨hi_9, hf⟩ := i_n hf
              refine la_55 hx hb hE hM hi_9 dX11_drawn_46 ?_
              exact rt_iM hx hb hr hf hM hS dX11_drawn_47 hlocks
          · replace hf := i_f hf hc_11
            refine lv_iconst (v := (-1)) hx hb dX11_drawn_34 (by decide) ?_
            exact rt_iM hx hb hr hf hM hS dX11_drawn_35 hlocks
theorem k_X11_drawn {p : Program} {l : Launch} {e : Env} {R : Room} {s : State} {m : MethodId} {args : Array Value} {below : List Frame} {meth : Method} {c : Code} {H : Heap} {locs : List Loc} {cells slots : Nat} {Q : State → Prop} {cc : ByteArray} {pc nL : Nat} {ls : Array Slot} {rest : List Value} {G : GG} {fu nw : Nat} {x x' mo : Me} {own : String} {index : Nat} {a1 : Int32} {a2 : Int32} {r : Int32} (hx : p.tables.exec = Jvm.exec) (hb : c.code = cc) (hml : c.maxLocals = nL) (hown : s.vm.findClass own = some m.cls) (hE : EnvP G s) (hM : MemP G nw mo x H) (hS : va_S (gA G) s.heap H locs) (hw : Cond.methodLink own index yX11_drawn ∈ lw_tbl) (hf : f_X11_drawn fu x a1 a2 = some (x', r)) (h1 : 0 + 1 ≤ R.frames) (h2 : 8 + (5 + 11) + 0 ≤ R.locals) (hsz : ls.size = nL) (hW : (rest.map fun v => v.category).sum ≤ 8) (hcs : cells ≤ R.cells ∧ slots ≤ R.slots) (hdg : decode cc pc = .ok (.invokevirtual index, 3)) (kk : ∀ (H1 : Heap) (locs1 : List Loc), MemP G nw mo x' H1 → va_S (gA G) s.heap H1 locs1 → W p l e R s m args below meth c H1 locs1 cells slots Q (F0 m (pc + 3) ls (.int r :: rest))) : W p l e R s m args below meth c H locs cells slots Q (F0 m pc ls (.int a2 :: .int a1 :: .ref (ga G 41) :: rest)) := mm_ki hS (mm_runV (n := 2) (o := 41) (C := RX11) (T := TX11) (N := 54) (ci := 11) (As := [.int a1, .int a2]) hx hb hml hown hE hM hS (c_X11_drawn l fu nw G x x' mo a1 a2 _ hf) (List.forall_mem_cons.mpr ⟨⟨hw, rfl⟩, List.forall_mem_cons.mpr ⟨⟨w_5_127, rfl⟩, List.forall_mem_cons.mpr ⟨⟨w_5_128, rfl⟩, List.forall_mem_cons.mpr ⟨⟨w_1_11, rfl⟩, List.forall_mem_cons.mpr ⟨⟨w_5_129, rfl⟩, fun _ h => absurd h List.not_mem_nil⟩⟩⟩⟩⟩) rfl rfl ⟨rfl, by decide, by decide, by decide +kernel⟩ ⟨h1, h2⟩ rfl rfl rfl hsz rfl hW hdg hcs) kk
def f_X11_runs (fu : Nat) (x : Me) (a1 : Int32) : Option (Me × Int32) := ob (f_X11_isWard fu x a1) (fun x_1 r_1 => if r_1 = 0 then some (x_1, 0) else if (x_1 4 0) ≤ 0 then some (x_1, 0) else if inb a1 17 = true then if (x_1 23 a1.toNatClampNeg) = 0 then some (x_1, 0) else some (x_1, 1) else none)
def rm_X11_runs : Room := { frames := 1, cells := 0, slots := 0, locals := 21 }
set_option maxHeartbeats 4000000 in
set_option maxRecDepth 100000 in
theorem c_X11_runs (l : Launch) (fu nw : Nat) (G : GG) (x x' mo : Me) (a1 : Int32) (r : Int32) (hf : f_X11_runs fu x a1 = some (x', r)) : Met l yX11_runs [.code yX11_runs cX11_runs 2 (some .boolean)] rm_X11_runs (va_Pc [.ref (ga G 41), .int a1] (Pre G nw mo x)) (PI G nw mo x' r) 0 0 (gA G) := by
  refine mt_ofW (cc := cX11_runs) (maxL := 2) (ret := (some .boolean)) (by decide +kernel) rfl ?_
  intro p e s m args below meth c s₁ B hml hv
  obtain ⟨rfl, hE, hM⟩ := hv
  have hx := B.exec
  have hb := B.bytes
  have hr := B.returns
  have hown : s.vm.findClass RX11 = some m.cls := findClass_of_methodNamed B.named
  have hlocks := B.notSynchronized
  have hS : va_S (gA G) s.heap s.heap [] := va_S.rf
  have hl := lv_entry ([.ref (ga G 41), .int a1]) (n := 2) (Nat.le_of_ble_eq_true rfl)
  rw [lg_entry_eq]
  generalize (lg_sl ([.ref (ga G 41), .int a1]) ++ List.replicate (2 - (lg_sl ([.ref (ga G 41), .int a1])).length) Slot.unset).toArray = ls at hl ⊢
  have hl : lv_has ls 2 [(0, .ref (ga G 41)), (1, .int a1)] := hl
  generalize ([.ref (ga G 41), .int a1] : List Value).toArray = args
  unfold f_X11_runs at hf
  refine lv_aload_n hx hb dX11_runs_0 rfl (lv_at hl 0 rfl) ?_
  refine lv_iload_n hx hb dX11_runs_1 rfl (lv_at hl 1 rfl) ?_
  obtain ⟨x_1, r_1, hq_1, hf⟩ := ob_some hf
  refine k_X11_isWard hx hb hml hown hE hM hS w_5_134 hq_1 (Nat.le_of_ble_eq_true rfl) (Nat.le_of_ble_eq_true rfl) hl.1 (Nat.le_of_ble_eq_true rfl) ⟨Nat.zero_le _, Nat.zero_le _⟩ dX11_runs_2 (fun H locs hM hS => ?_)
  refine lv_if_eq (tgt := 28) hx hb dX11_runs_5 (by decide) (fun hc_5 => ?_) (fun hc_5 => ?_)
  · replace hf := i_t hf hc_5
    refine lv_iconst (v := 0) hx hb dX11_runs_28 (by decide) ?_
    exact rt_zM hx hb hr rfl hf hM hS dX11_runs_29 hlocks
  · replace hf := i_f hf hc_5
    refine lv_aload_n hx hb dX11_runs_8 rfl (lv_at hl 0 rfl) ?_
    refine gm_4 hx hb hE hM hown w_4_104 dX11_runs_9 ?_
    refine lv_if_le (tgt := 28) hx hb dX11_runs_12 (by decide) (fun hc_4 => ?_) (fun hc_4 => ?_)
    · replace hf := i_t hf hc_4
      refine lv_iconst (v := 0) hx hb dX11_runs_28 (by decide) ?_
      exact rt_zM hx hb hr rfl hf hM hS dX11_runs_29 hlocks
    · replace hf := i_f hf hc_4
      refine lv_aload_n hx hb dX11_runs_15 rfl (lv_at hl 0 rfl) ?_
      refine gr_50 hx hb hE hM hown w_4_123 dX11_runs_16 ?_
      refine lv_iload_n hx hb dX11_runs_19 rfl (lv_at hl 1 rfl) ?_
      obtain ⟨hi_2, hf⟩ := i_n hf
      refine la_50 hx hb hE hM hi_2 dX11_runs_20 ?_
      refine lv_if_eq (tgt := 28) hx hb dX11_runs_21 (by decide) (fun hc_3 => ?_) (fun hc_3 => ?_)
      · replace hf := i_t hf hc_3
        refine lv_iconst (v := 0) hx hb dX11_runs_28 (by decide) ?_
        exact rt_zM hx hb hr rfl hf hM hS dX11_runs_29 hlocks
      · replace hf := i_f hf hc_3
        refine lv_iconst (v := 1) hx hb dX11_runs_24 (by decide) ?_
        refine lv_goto (tgt := 29) hx hb dX11_runs_25 (by decide) ?_
        exact rt_zM hx hb hr rfl hf hM hS dX11_runs_29 hlocks
theorem k_X11_runs {p : Program} {l : Launch} {e : Env} {R : Room} {s : State} {m : MethodId} {args : Array Value} {below : List Frame} {meth : Method} {c : Code} {H : Heap} {locs : List Loc} {cells slots : Nat} {Q : State → Prop} {cc : ByteArray} {pc nL : Nat} {ls : Array Slot} {rest : List Value} {G : GG} {fu nw : Nat} {x x' mo : Me} {own : String} {index : Nat} {a1 : Int32} {r : Int32} (hx : p.tables.exec = Jvm.exec) (hb : c.code = cc) (hml : c.maxLocals = nL) (hown : s.vm.findClass own = some m.cls) (hE : EnvP G s) (hM : MemP G nw mo x H) (hS : va_S (gA G) s.heap H locs) (hw : Cond.methodLink own index yX11_runs ∈ lw_tbl) (hf : f_X11_runs fu x a1 = some (x', r)) (h1 : 1 + 1 ≤ R.frames) (h2 : 8 + (2 + 11) + 21 ≤ R.locals) (hsz : ls.size = nL) (hW : (rest.map fun v => v.category).sum ≤ 8) (hcs : cells ≤ R.cells ∧ slots ≤ R.slots) (hdg : decode cc pc = .ok (.invokevirtual index, 3)) (kk : ∀ (H1 : Heap) (locs1 : List Loc), MemP G nw mo x' H1 → va_S (gA G) s.heap H1 locs1 → W p l e R s m args below meth c H1 locs1 cells slots Q (F0 m (pc + 3) ls (.int r :: rest))) : W p l e R s m args below meth c H locs cells slots Q (F0 m pc ls (.int a1 :: .ref (ga G 41) :: rest)) := mm_ki hS (mm_runV (n := 1) (o := 41) (C := RX11) (T := TX11) (N := 54) (ci := 11) (As := [.int a1]) hx hb hml hown hE hM hS (c_X11_runs l fu nw G x x' mo a1 _ hf) (List.forall_mem_cons.mpr ⟨⟨hw, rfl⟩, List.forall_mem_cons.mpr ⟨⟨w_5_156, rfl⟩, List.forall_mem_cons.mpr ⟨⟨w_0_42, rfl⟩, List.forall_mem_cons.mpr ⟨⟨w_1_11, rfl⟩, List.forall_mem_cons.mpr ⟨⟨w_5_157, rfl⟩, fun _ h => absurd h List.not_mem_nil⟩⟩⟩⟩⟩) rfl rfl ⟨rfl, by decide, by decide, by decide +kernel⟩ ⟨h1, h2⟩ rfl rfl rfl hsz rfl hW hdg hcs) kk
def f_X11_look (fu : Nat) (x : Me) (a1 : Int32) (a2 : Int32) : Option (Me × Int32) := ob (f_X11_isWard fu (mu x 0 0 0) a1) (fun x_1 r_1 => if r_1 = 0 then some (x_1, (-1)) else if a2 = 0 then if (x_1 4 0) < 3 then some (x_1, (-1)) else if inb a1 17 = true then if (x_1 23 a1.toNatClampNeg) = 0 then some (x_1, (-1)) else some (x_1, x_1 22 a1.toNatClampNeg) else none else if a2 = 1 then if inb a1 17 = true then some (x_1, x_1 18 a1.toNatClampNeg) else none else if a2 = 2 then if inb a1 17 = true then some (x_1, x_1 19 a1.toNatClampNeg) else none else if a2 = 3 then if inb a1 17 = true then some (x_1, x_1 20 a1.toNatClampNeg) else none else if a2 = 4 then if inb a1 17 = true then some (x_1, x_1 21 a1.toNatClampNeg) else none else some (x_1, (-1)))
def rm_X11_look : Room := { frames := 1, cells := 0, slots := 0, locals := 21 }
set_option maxHeartbeats 4000000 in
set_option maxRecDepth 100000 in
theorem c_X11_look (l : Launch) (fu nw : Nat) (G : GG) (x x' mo : Me) (a1 : Int32) (a2 : Int32) (r : Int32) (hf : f_X11_look fu x a1 a2 = some (x', r)) : Met l yX11_look [.code yX11_look cX11_look 3 (some .int)] rm_X11_look (va_Pc [.ref (ga G 41), .int a1, .int a2] (Pre G nw mo x)) (PI G nw mo x' r) 0 0 (gA G) := by
  refine mt_ofW (cc := cX11_look) (maxL := 3) (ret := (some .int)) (by decide +kernel) rfl ?_
  intro p e s m args below meth c s₁ B hml hv
  obtain ⟨rfl, hE, hM⟩ := hv
  have hx := B.exec
  have hb := B.bytes
  have hr := B.returns
  have hown : s.vm.findClass RX11 = some m.cls := findClass_of_methodNamed B.named
  have hlocks := B.notSynchronized
  have hS : va_S (gA G) s.heap s.heap [] := va_S.rf
  have hl := lv_entry ([.ref (ga G 41), .int a1, .int a2]) (n := 3) (Nat.le_of_ble_eq_true rfl)
  rw [lg_entry_eq]
  generalize (lg_sl ([.ref (ga G 41), .int a1, .int a2]) ++ List.replicate (3 - (lg_sl ([.ref (ga G 41), .int a1, .int a2])).length) Slot.unset).toArray = ls at hl ⊢
  have hl : lv_has ls 3 [(0, .ref (ga G 41)), (1, .int a1), (2, .int a2)] := hl
  generalize ([.ref (ga G 41), .int a1, .int a2] : List Value).toArray = args
  unfold f_X11_look at hf
  refine lv_aload_n hx hb dX11_look_0 rfl (lv_at hl 0 rfl) ?_
  refine lv_iconst (v := 0) hx hb dX11_look_1 (by decide) ?_
  refine pm_0 hx hb hE hM hS hown w_4_100 dX11_look_2 (fun H locs hM hS => ?_)
  refine lv_aload_n hx hb dX11_look_5 rfl (lv_at hl 0 rfl) ?_
  refine lv_iload_n hx hb dX11_look_6 rfl (lv_at hl 1 rfl) ?_
  obtain ⟨x_1, r_1, hq_1, hf⟩ := ob_some hf
  refine k_X11_isWard hx hb hml hown hE hM hS w_5_134 hq_1 (Nat.le_of_ble_eq_true rfl) (Nat.le_of_ble_eq_true rfl) hl.1 (Nat.le_of_ble_eq_true rfl) ⟨Nat.zero_le _, Nat.zero_le _⟩ dX11_look_7 (fun H locs hM hS => ?_)
  refine lv_if_ne (tgt := 15) hx hb dX11_look_10 (by decide) (fun hc_14 => ?_) (fun hc_14 => ?_)
  · replace hf := i_f hf hc_14
    refine lv_iload_n hx hb dX11_look_15 rfl (lv_at hl 2 rfl) ?_
    by_cases hc_2 : a2 = 0
    · replace hf := i_t hf hc_2
      refine lv_tabK (k := 0) (tgt := 52) hx hb dX11_look_16 hc_2 (by decide) (by decide) rfl (by decide) ?_
      refine lv_aload_n hx hb dX11_look_52 rfl (lv_at hl 0 rfl) ?_
      refine gm_4 hx hb hE hM hown w_4_104 dX11_look_53 ?_
      refine lv_iconst (v := 3) hx hb dX11_look_56 (by decide) ?_
      refine lv_icmp_lt (tgt := 78) hx hb dX11_look_57 (by decide) (fun hc_5 => ?_) (fun hc_5 => ?_)
      · replace hf := i_t hf hc_5
        refine lv_iconst (v := (-1)) hx hb dX11_look_78 (by decide) ?_
        exact rt_iM hx hb hr hf hM hS dX11_look_79 hlocks
      · replace hf := i_f hf hc_5
        refine lv_aload_n hx hb dX11_look_60 rfl (lv_at hl 0 rfl) ?_
        refine gr_50 hx hb hE hM hown w_4_123 dX11_look_61 ?_
        refine lv_iload_n hx hb dX11_look_64 rfl (lv_at hl 1 rfl) ?_
        obtain ⟨hi_3, hf⟩ := i_n hf
        refine la_50 hx hb hE hM hi_3 dX11_look_65 ?_
        refine lv_if_eq (tgt := 78) hx hb dX11_look_66 (by decide) (fun hc_4 => ?_) (fun hc_4 => ?_)
        · replace hf := i_t hf hc_4
          refine lv_iconst (v := (-1)) hx hb dX11_look_78 (by decide) ?_
          exact rt_iM hx hb hr hf hM hS dX11_look_79 hlocks
        · replace hf := i_f hf hc_4
          refine lv_aload_n hx hb dX11_look_69 rfl (lv_at hl 0 rfl) ?_
          refine gr_49 hx hb hE hM hown w_4_122 dX11_look_70 ?_
          refine lv_iload_n hx hb dX11_look_73 rfl (lv_at hl 1 rfl) ?_
          refine la_49 hx hb hE hM hi_3 dX11_look_74 ?_
          refine lv_goto (tgt := 79) hx hb dX11_look_75 (by decide) ?_
          exact rt_iM hx hb hr hf hM hS dX11_look_79 hlocks
    replace hf := i_f hf hc_2
    by_cases hc_6 : a2 = 1
    · replace hf := i_t hf hc_6
      refine lv_tabK (k := 1) (tgt := 80) hx hb dX11_look_16 hc_6 (by decide) (by decide) rfl (by decide) ?_
      refine lv_aload_n hx hb dX11_look_80 rfl (lv_at hl 0 rfl) ?_
      refine gr_45 hx hb hE hM hown w_4_118 dX11_look_81 ?_
      refine lv_iload_n hx hb dX11_look_84 rfl (lv_at hl 1 rfl) ?_
      obtain ⟨hi_7, hf⟩ := i_n hf
      refine la_45 hx hb hE hM hi_7 dX11_look_85 ?_
      exact rt_iM hx hb hr hf hM hS dX11_look_86 hlocks
    replace hf := i_f hf hc_6
    by_cases hc_8 : a2 = 2
    · replace hf := i_t hf hc_8
      refine lv_tabK (k := 2) (tgt := 87) hx hb dX11_look_16 hc_8 (by decide) (by decide) rfl (by decide) ?_
      refine lv_aload_n hx hb dX11_look_87 rfl (lv_at hl 0 rfl) ?_
      refine gr_46 hx hb hE hM hown w_4_119 dX11_look_88 ?_
      refine lv_iload_n hx hb dX11_look_91 rfl (lv_at hl 1 rfl) ?_
      obtain ⟨hi_9, hf⟩ := i_n hf
      refine la_46 hx hb hE hM hi_9 dX11_look_92 ?_
      exact rt_iM hx hb hr hf hM hS dX11_look_93 hlocks
    replace hf := i_f hf hc_8
    by_cases hc_10 : a2 = 3
    · replace hf := i_t hf hc_10
      refine lv_tabK (k := 3) (tgt := 94) hx hb dX11_look_16 hc_10 (by decide) (by decide) rfl (by decide) ?_
      refine lv_aload_n hx hb dX11_look_94 rfl (lv_at hl 0 rfl) ?_
      refine gr_47 hx hb hE hM hown w_4_120 dX11_look_95 ?_
      refine lv_iload_n hx hb dX11_look_98 rfl (lv_at hl 1 rfl) ?_
      obtain ⟨hi_11, hf⟩ := i_n hf
      refine la_47 hx hb hE hM hi_11 dX11_look_99 ?_
      exact rt_iM hx hb hr hf hM hS dX11_look_100 hlocks
    replace hf := i_f hf hc_10
    by_cases hc_12 : a2 = 4
    · replace hf := i_t hf hc_12
      refine lv_tabK (k := 4) (tgt := 101) hx hb dX11_look_16 hc_12 (by decide) (by decide) rfl (by decide) ?_
      refine lv_aload_n hx hb dX11_look_101 rfl (lv_at hl 0 rfl) ?_
      refine gr_48 hx hb hE hM hown w_4_121 dX11_look_102 ?_
      refine lv_iload_n hx hb dX11_look_105 rfl (lv_at hl 1 rfl) ?_
      obtain ⟨hi_13, hf⟩ := i_n hf
      refine la_48 hx hb hE hM hi_13 dX11_look_106 ?_
      exact rt_iM hx hb hr hf hM hS dX11_look_107 hlocks
    replace hf := i_f hf hc_12
    refine lv_tableOut (tgt := 108) hx hb dX11_look_16 (by have q0 := lv_neT (a := 0) hc_2 rfl; have q1 := lv_neT (a := 1) hc_6 rfl; have q2 := lv_neT (a := 2) hc_8 rfl; have q3 := lv_neT (a := 3) hc_10 rfl; have q4 := lv_neT (a := 4) hc_12 rfl; omega) (by decide) ?_
    refine lv_iconst (v := (-1)) hx hb dX11_look_108 (by decide) ?_
    exact rt_iM hx hb hr hf hM hS dX11_look_109 hlocks
  · replace hf := i_t hf hc_14
    refine lv_iconst (v := (-1)) hx hb dX11_look_13 (by decide) ?_
    exact rt_iM hx hb hr hf hM hS dX11_look_14 hlocks
theorem k_X11_look {p : Program} {l : Launch} {e : Env} {R : Room} {s : State} {m : MethodId} {args : Array Value} {below : List Frame} {meth : Method} {c : Code} {H : Heap} {locs : List Loc} {cells slots : Nat} {Q : State → Prop} {cc : ByteArray} {pc nL : Nat} {ls : Array Slot} {rest : List Value} {G : GG} {fu nw : Nat} {x x' mo : Me} {own : String} {index : Nat} {a1 : Int32} {a2 : Int32} {r : Int32} (hx : p.tables.exec = Jvm.exec) (hb : c.code = cc) (hml : c.maxLocals = nL) (hown : s.vm.findClass own = some m.cls) (hE : EnvP G s) (hM : MemP G nw mo x H) (hS : va_S (gA G) s.heap H locs) (hw : Cond.methodLink own index yX11_look ∈ lw_tbl) (hf : f_X11_look fu x a1 a2 = some (x', r)) (h1 : 1 + 1 ≤ R.frames) (h2 : 8 + (3 + 11) + 21 ≤ R.locals) (hsz : ls.size = nL) (hW : (rest.map fun v => v.category).sum ≤ 8) (hcs : cells ≤ R.cells ∧ slots ≤ R.slots) (hdg : decode cc pc = .ok (.invokevirtual index, 3)) (kk : ∀ (H1 : Heap) (locs1 : List Loc), MemP G nw mo x' H1 → va_S (gA G) s.heap H1 locs1 → W p l e R s m args below meth c H1 locs1 cells slots Q (F0 m (pc + 3) ls (.int r :: rest))) : W p l e R s m args below meth c H locs cells slots Q (F0 m pc ls (.int a2 :: .int a1 :: .ref (ga G 41) :: rest)) := mm_ki hS (mm_runV (n := 2) (o := 41) (C := RX11) (T := TX11) (N := 54) (ci := 11) (As := [.int a1, .int a2]) hx hb hml hown hE hM hS (c_X11_look l fu nw G x x' mo a1 a2 _ hf) (List.forall_mem_cons.mpr ⟨⟨hw, rfl⟩, List.forall_mem_cons.mpr ⟨⟨w_5_131, rfl⟩, List.forall_mem_cons.mpr ⟨⟨w_5_132, rfl⟩, List.forall_mem_cons.mpr ⟨⟨w_1_11, rfl⟩, List.forall_mem_cons.mpr ⟨⟨w_5_133, rfl⟩, fun _ h => absurd h List.not_mem_nil⟩⟩⟩⟩⟩) rfl rfl ⟨rfl, by decide, by decide, by decide +kernel⟩ ⟨h1, h2⟩ rfl rfl rfl hsz rfl hW hdg hcs) kk
def f_X11_ring_34 (fu : Nat) (k : Me → Option (Me × Int32)) : Nat → Me → Int32 → Option (Me × Int32)
  | 0 => fun _ _ => none
  | n + 1 => fun x a2 => if 60 ≤ a2 then k x else if inb a2 60 = true then f_X11_ring_34 fu k n (mu x 36 a2.toNatClampNeg (vp_nar .boolean 0)) (a2 + 1) else none
def f_X11_ring (fu : Nat) (x : Me) (a1 : Int32) : Option (Me × Int32) := if a1 < 12 then some ((mu x 0 0 0), 0) else if 60 < a1 then some ((mu x 0 0 0), 0) else if (x 4 0) = 4 then some ((mu x 0 0 0), 0) else f_X11_ring_34 fu (fun (x_3 : Me) => some (x_3, 1)) fu (mu (mu x 0 0 0) 35 0 a1) 0
def rm_X11_ring : Room := { frames := 0, cells := 0, slots := 0, locals := 0 }
set_option maxHeartbeats 4000000 in
set_option maxRecDepth 100000 in
theorem wk_X11_ring_34 {p : Program} {l : Launch} {e : Env} {s : State} {m : MethodId} {args : Array Value} {below : List Frame} {meth : Method} {c : Code} {fu nw : Nat} {G : GG} {mo : Me} (hx : p.tables.exec = Jvm.exec) (hb : c.code = cX11_ring) (hml : c.maxLocals = 3) (hown : s.vm.findClass RX11 = some m.cls) (hE : EnvP G s) (hr : meth.sig.returnType = (some .boolean)) (hlocks : meth.locks = false) {x' : Me} {r : Int32} {k : Me → Option (Me × Int32)} (hk : ∀ (x : Me) (H : Heap) (locs : List Loc) (ls : Array Slot), k x = some (x', r) → MemP G nw mo x H → va_S (gA G) s.heap H locs → lv_has ls 3 [] → W p l e rm_X11_ring s m args below meth c H locs 0 0 (MQ below (PI G nw mo x' r) args s 0 0 (gA G)) (F0 m 53 ls [])) : ∀ (n : Nat) (x : Me) (a2 : Int32) (H : Heap) (locs : List Loc) (ls : Array Slot), f_X11_ring_34 fu k n x a2 = some (x', r) → MemP G nw mo x H → va_S (gA G) s.heap H locs → lv_has ls 3 [(0, .ref (ga G 41)), (2, .int a2)] → W p l e rm_X11_ring s m args below meth c H locs 0 0 (MQ below (PI G nw mo x' r) args s 0 0 (gA G)) (F0 m 34 ls []) := by
  intro n
  induction n with
  | zero =>
    intro x a2 H locs ls hf hM hS hl
    exact nn hf
  | succ n ih =>
    intro x a2 H locs ls hf hM hS hl
    rw [f_X11_ring_34] at hf
    refine lv_iload_n hx hb dX11_ring_34 rfl (lv_at hl 1 rfl) ?_
    refine lv_bipush (v := 60) hx hb dX11_ring_35 (by decide) ?_
    refine lv_icmp_ge (tgt := 53) hx hb dX11_ring_37 (by decide) (fun hc_2 => ?_) (fun hc_2 => ?_)
    · replace hf := i_t hf hc_2
      exact hk x _ _ _ hf hM hS (lv_sub hl [] rfl)
    · replace hf := i_f hf hc_2
      refine lv_aload_n hx hb dX11_ring_40 rfl (lv_at hl 0 rfl) ?_
      refine gr_58 hx hb hE hM hown w_4_136 dX11_ring_41 ?_
      refine lv_iload_n hx hb dX11_ring_44 rfl (lv_at hl 1 rfl) ?_
      refine lv_iconst (v := 0) hx hb dX11_ring_45 (by decide) ?_
      obtain ⟨hi_1, hf⟩ := i_n hf
      refine sa_58 hx hb hE hM hS hi_1 dX11_ring_46 (fun H locs hM hS => ?_)
      refine lv_iinc (v := a2 + 1) (lv' := [(2, .int (a2 + 1)), (0, .ref (ga G 41))]) hx hb dX11_ring_47 hl (k := 1) rfl rfl (by decide) rfl (fun ls hl => ?_)
      refine lv_goto (tgt := 34) hx hb dX11_ring_50 (by decide) ?_
      exact ih (mu x 36 a2.toNatClampNeg (vp_nar .boolean 0)) (a2 + 1) _ _ _ hf hM hS (lv_sub hl [1, 0] rfl)
set_option maxHeartbeats 4000000 in
set_option maxRecDepth 100000 in
theorem c_X11_ring (l : Launch) (fu nw : Nat) (G : GG) (x x' mo : Me) (a1 : Int32) (r : Int32) (hf : f_X11_ring fu x a1 = some (x', r)) : Met l yX11_ring [.code yX11_ring cX11_ring 3 (some .boolean)] rm_X11_ring (va_Pc [.ref (ga G 41), .int a1] (Pre G nw mo x)) (PI G nw mo x' r) 0 0 (gA G) := by
  refine mt_ofW (cc := cX11_ring) (maxL := 3) (ret := (some .boolean)) (by decide +kernel) rfl ?_
  intro p e s m args below meth c s₁ B hml hv
  obtain ⟨rfl, hE, hM⟩ := hv
  have hx := B.exec
  have hb := B.bytes
  have hr := B.returns
  have hown : s.vm.findClass RX11 = some m.cls := findClass_of_methodNamed B.named
  have hlocks := B.notSynchronized
  have hS : va_S (gA G) s.heap s.heap [] := va_S.rf
  have hl := lv_entry ([.ref (ga G 41), .int a1]) (n := 3) (Nat.le_of_ble_eq_true rfl)
  rw [lg_entry_eq]
  generalize (lg_sl ([.ref (ga G 41), .int a1]) ++ List.replicate (3 - (lg_sl ([.ref (ga G 41), .int a1])).length) Slot.unset).toArray = ls at hl ⊢
  have hl : lv_has ls 3 [(0, .ref (ga G 41)), (1, .int a1)] := hl
  generalize ([.ref (ga G 41), .int a1] : List Value).toArray = args
  unfold f_X11_ring at hf
  refine lv_aload_n hx hb dX11_ring_0 rfl (lv_at hl 0 rfl) ?_
  refine lv_iconst (v := 0) hx hb dX11_ring_1 (by decide) ?_
  refine pm_0 hx hb hE hM hS hown w_4_100 dX11_ring_2 (fun H locs hM hS => ?_)
  refine lv_iload_n hx hb dX11_ring_5 rfl (lv_at hl 1 rfl) ?_
  refine lv_bipush (v := 12) hx hb dX11_ring_6 (by decide) ?_
  refine lv_icmp_lt (tgt := 25) hx hb dX11_ring_8 (by decide) (fun hc_6 => ?_) (fun hc_6 => ?_)
  · replace hf := i_t hf hc_6
    refine lv_iconst (v := 0) hx hb dX11_ring_25 (by decide) ?_
    exact rt_zM hx hb hr rfl hf hM hS dX11_ring_26 hlocks
  · replace hf := i_f hf hc_6
    refine lv_iload_n hx hb dX11_ring_11 rfl (lv_at hl 1 rfl) ?_
    refine lv_bipush (v := 60) hx hb dX11_ring_12 (by decide) ?_
    refine lv_icmp_gt (tgt := 25) hx hb dX11_ring_14 (by decide) (fun hc_5 => ?_) (fun hc_5 => ?_)
    · replace hf := i_t hf hc_5
      refine lv_iconst (v := 0) hx hb dX11_ring_25 (by decide) ?_
      exact rt_zM hx hb hr rfl hf hM hS dX11_ring_26 hlocks
    · replace hf := i_f hf hc_5
      refine lv_aload_n hx hb dX11_ring_17 rfl (lv_at hl 0 rfl) ?_
      refine gm_4 hx hb hE hM hown w_4_104 dX11_ring_18 ?_
      refine lv_iconst (v := 4) hx hb dX11_ring_21 (by decide) ?_
      refine lv_icmp_ne (tgt := 27) hx hb dX11_ring_22 (by decide) (fun hc_4 => ?_) (fun hc_4 => ?_)
      · replace hf := i_f hf hc_4
        refine lv_aload_n hx hb dX11_ring_27 rfl (lv_at hl 0 rfl) ?_
        refine lv_iload_n hx hb dX11_ring_28 rfl (lv_at hl 1 rfl) ?_
        refine pm_35 hx hb hE hM hS hown w_4_135 dX11_ring_29 (fun H locs hM hS => ?_)
        refine lv_iconst (v := 0) hx hb dX11_ring_32 (by decide) ?_
        refine lv_istore_n (lv' := [(2, .int 0), (0, .ref (ga G 41)), (1, .int a1)]) hx hb dX11_ring_33 rfl hl (by decide) rfl (fun ls hl => ?_)
        refine wk_X11_ring_34 hx hb hml hown hE hr hlocks ?_ fu (mu (mu x 0 0 0) 35 0 a1) 0 _ _ _ hf hM hS (lv_sub hl [1, 0] rfl)
        intro x_3 H locs ls hf hM hS hl
        refine lv_iconst (v := 1) hx hb dX11_ring_53 (by decide) ?_
        exact rt_zM hx hb hr rfl hf hM hS dX11_ring_54 hlocks
      · replace hf := i_t hf hc_4
        refine lv_iconst (v := 0) hx hb dX11_ring_25 (by decide) ?_
        exact rt_zM hx hb hr rfl hf hM hS dX11_ring_26 hlocks
theorem k_X11_ring {p : Program} {l : Launch} {e : Env} {R : Room} {s : State} {m : MethodId} {args : Array Value} {below : List Frame} {meth : Method} {c : Code} {H : Heap} {locs : List Loc} {cells slots : Nat} {Q : State → Prop} {cc : ByteArray} {pc nL : Nat} {ls : Array Slot} {rest : List Value} {G : GG} {fu nw : Nat} {x x' mo : Me} {own : String} {index : Nat} {a1 : Int32} {r : Int32} (hx : p.tables.exec = Jvm.exec) (hb : c.code = cc) (hml : c.maxLocals = nL) (hown : s.vm.findClass own = some m.cls) (hE : EnvP G s) (hM : MemP G nw mo x H) (hS : va_S (gA G) s.heap H locs) (hw : Cond.methodLink own index yX11_ring ∈ lw_tbl) (hf : f_X11_ring fu x a1 = some (x', r)) (h1 : 0 + 1 ≤ R.frames) (h2 : 8 + (3 + 11) + 0 ≤ R.locals) (hsz : ls.size = nL) (hW : (rest.map fun v => v.category).sum ≤ 8) (hcs : cells ≤ R.cells ∧ slots ≤ R.slots) (hdg : decode cc pc = .ok (.invokevirtual index, 3)) (kk : ∀ (H1 : Heap) (locs1 : List Loc), MemP G nw mo x' H1 → va_S (gA G) s.heap H1 locs1 → W p l e R s m args below meth c H1 locs1 cells slots Q (F0 m (pc + 3) ls (.int r :: rest))) : W p l e R s m args below meth c H locs cells slots Q (F0 m pc ls (.int a1 :: .ref (ga G 41) :: rest)) := mm_ki hS (mm_runV (n := 1) (o := 41) (C := RX11) (T := TX11) (N := 54) (ci := 11) (As := [.int a1]) hx hb hml hown hE hM hS (c_X11_ring l fu nw G x x' mo a1 _ hf) (List.forall_mem_cons.mpr ⟨⟨hw, rfl⟩, List.forall_mem_cons.mpr ⟨⟨w_5_139, rfl⟩, List.forall_mem_cons.mpr ⟨⟨w_5_140, rfl⟩, List.forall_mem_cons.mpr ⟨⟨w_1_11, rfl⟩, List.forall_mem_cons.mpr ⟨⟨w_5_141, rfl⟩, fun _ h => absurd h List.not_mem_nil⟩⟩⟩⟩⟩) rfl rfl ⟨rfl, by decide, by decide, by decide +kernel⟩ ⟨h1, h2⟩ rfl rfl rfl hsz rfl hW hdg hcs) kk
def f_X11_bend (fu : Nat) (x : Me) (a1 : Int32) (a2 : Int32) : Option (Me × Int32) := if a1 < 0 then some ((mu x 0 0 0), 0) else if (x 35 0) ≤ a1 then some ((mu x 0 0 0), 0) else if (x 4 0) = 4 then some ((mu x 0 0 0), 0) else if inb a1 60 = true then some ((mu (mu x 0 0 0) 36 a1.toNatClampNeg (vp_nar .boolean a2)), 1) else none
def rm_X11_bend : Room := { frames := 0, cells := 0, slots := 0, locals := 0 }
set_option maxHeartbeats 4000000 in
set_option maxRecDepth 100000 in
theorem c_X11_bend (l : Launch) (fu nw : Nat) (G : GG) (x x' mo : Me) (a1 : Int32) (a2 : Int32) (r : Int32) (hf : f_X11_bend fu x a1 a2 = some (x', r)) : Met l yX11_bend [.code yX11_bend cX11_bend 3 (some .boolean)] rm_X11_bend (va_Pc [.ref (ga G 41), .int a1, .int a2] (Pre G nw mo x)) (PI G nw mo x' r) 0 0 (gA G) := by
  refine mt_ofW (cc := cX11_bend) (maxL := 3) (ret := (some .boolean)) (by decide +kernel) rfl ?_
  intro p e s m args below meth c s₁ B hml hv
  obtain ⟨rfl, hE, hM⟩ := hv
  have hx := B.exec
  have hb := B.bytes
  have hr := B.returns
  have hown : s.vm.findClass RX11 = some m.cls := findClass_of_methodNamed B.named
  have hlocks := B.notSynchronized
  have hS : va_S (gA G) s.heap s.heap [] := va_S.rf
  have hl := lv_entry ([.ref (ga G 41), .int a1, .int a2]) (n := 3) (Nat.le_of_ble_eq_true rfl)
  rw [lg_entry_eq]
  generalize (lg_sl ([.ref (ga G 41), .int a1, .int a2]) ++ List.replicate (3 - (lg_sl ([.ref (ga G 41), .int a1, .int a2])).length) Slot.unset).toArray = ls at hl ⊢
  have hl : lv_has ls 3 [(0, .ref (ga G 41)), (1, .int a1), (2, .int a2)] := hl
  generalize ([.ref (ga G 41), .int a1, .int a2] : List Value).toArray = args
  unfold f_X11_bend at hf
  refine lv_aload_n hx hb dX11_bend_0 rfl (lv_at hl 0 rfl) ?_
  refine lv_iconst (v := 0) hx hb dX11_bend_1 (by decide) ?_
  refine pm_0 hx hb hE hM hS hown w_4_100 dX11_bend_2 (fun H locs hM hS => ?_)
  refine lv_iload_n hx hb dX11_bend_5 rfl (lv_at hl 1 rfl) ?_
  refine lv_if_lt (tgt := 25) hx hb dX11_bend_6 (by decide) (fun hc_4 => ?_) (fun hc_4 => ?_)
  · replace hf := i_t hf hc_4
    refine lv_iconst (v := 0) hx hb dX11_bend_25 (by decide) ?_
    exact rt_zM hx hb hr rfl hf hM hS dX11_bend_26 hlocks
  · replace hf := i_f hf hc_4
    refine lv_iload_n hx hb dX11_bend_9 rfl (lv_at hl 1 rfl) ?_
    refine lv_aload_n hx hb dX11_bend_10 rfl (lv_at hl 0 rfl) ?_
    refine gm_35 hx hb hE hM hown w_4_135 dX11_bend_11 ?_
    refine lv_icmp_ge (tgt := 25) hx hb dX11_bend_14 (by decide) (fun hc_3 => ?_) (fun hc_3 => ?_)
    · replace hf := i_t hf hc_3
      refine lv_iconst (v := 0) hx hb dX11_bend_25 (by decide) ?_
      exact rt_zM hx hb hr rfl hf hM hS dX11_bend_26 hlocks
    · replace hf := i_f hf hc_3
      refine lv_aload_n hx hb dX11_bend_17 rfl (lv_at hl 0 rfl) ?_
      refine gm_4 hx hb hE hM hown w_4_104 dX11_bend_18 ?_
      refine lv_iconst (v := 4) hx hb dX11_bend_21 (by decide) ?_
      refine lv_icmp_ne (tgt := 27) hx hb dX11_bend_22 (by decide) (fun hc_2 => ?_) (fun hc_2 => ?_)
      · replace hf := i_f hf hc_2
        refine lv_aload_n hx hb dX11_bend_27 rfl (lv_at hl 0 rfl) ?_
        refine gr_58 hx hb hE hM hown w_4_136 dX11_bend_28 ?_
        refine lv_iload_n hx hb dX11_bend_31 rfl (lv_at hl 1 rfl) ?_
        refine lv_iload_n hx hb dX11_bend_32 rfl (lv_at hl 2 rfl) ?_
        obtain ⟨hi_1, hf⟩ := i_n hf
        refine sa_58 hx hb hE hM hS hi_1 dX11_bend_33 (fun H locs hM hS => ?_)
        refine lv_iconst (v := 1) hx hb dX11_bend_34 (by decide) ?_
        exact rt_zM hx hb hr rfl hf hM hS dX11_bend_35 hlocks
      · replace hf := i_t hf hc_2
        refine lv_iconst (v := 0) hx hb dX11_bend_25 (by decide) ?_
        exact rt_zM hx hb hr rfl hf hM hS dX11_bend_26 hlocks
theorem k_X11_bend {p : Program} {l : Launch} {e : Env} {R : Room} {s : State} {m : MethodId} {args : Array Value} {below : List Frame} {meth : Method} {c : Code} {H : Heap} {locs : List Loc} {cells slots : Nat} {Q : State → Prop} {cc : ByteArray} {pc nL : Nat} {ls : Array Slot} {rest : List Value} {G : GG} {fu nw : Nat} {x x' mo : Me} {own : String} {index : Nat} {a1 : Int32} {a2 : Int32} {r : Int32} (hx : p.tables.exec = Jvm.exec) (hb : c.code = cc) (hml : c.maxLocals = nL) (hown : s.vm.findClass own = some m.cls) (hE : EnvP G s) (hM : MemP G nw mo x H) (hS : va_S (gA G) s.heap H locs) (hw : Cond.methodLink own index yX11_bend ∈ lw_tbl) (hf : f_X11_bend fu x a1 a2 = some (x', r)) (h1 : 0 + 1 ≤ R.frames) (h2 : 8 + (3 + 11) + 0 ≤ R.locals) (hsz : ls.size = nL) (hW : (rest.map fun v => v.category).sum ≤ 8) (hcs : cells ≤ R.cells ∧ slots ≤ R.slots) (hdg : decode cc pc = .ok (.invokevirtual index, 3)) (kk : ∀ (H1 : Heap) (locs1 : List Loc), MemP G nw mo x' H1 → va_S (gA G) s.heap H1 locs1 → W p l e R s m args below meth c H1 locs1 cells slots Q (F0 m (pc + 3) ls (.int r :: rest))) : W p l e R s m args below meth c H locs cells slots Q (F0 m pc ls (.int a2 :: .int a1 :: .ref (ga G 41) :: rest)) := mm_ki hS (mm_runV (n := 2) (o := 41) (C := RX11) (T := TX11) (N := 54) (ci := 11) (As := [.int a1, .int a2]) hx hb hml hown hE hM hS (c_X11_bend l fu nw G x x' mo a1 a2 _ hf) (List.forall_mem_cons.mpr ⟨⟨hw, rfl⟩, List.forall_mem_cons.mpr ⟨⟨w_5_143, rfl⟩, List.forall_mem_cons.mpr ⟨⟨w_5_144, rfl⟩, List.forall_mem_cons.mpr ⟨⟨w_1_11, rfl⟩, List.forall_mem_cons.mpr ⟨⟨w_5_145, rfl⟩, fun _ h => absurd h List.not_mem_nil⟩⟩⟩⟩⟩) rfl rfl ⟨rfl, by decide, by decide, by decide +kernel⟩ ⟨h1, h2⟩ rfl rfl rfl hsz rfl hW hdg hcs) kk
def f_X11_orders (fu : Nat) (x : Me) (a1 : Int32) (a2 : Int32) (a3 : Int32) : Option (Me × Int32) := ob (f_X11_isWard fu (mu x 0 0 0) a1) (fun x_1 r_1 => if r_1 = 0 then some (x_1, 0) else if a2 < 0 then some (x_1, 0) else if 2 < a2 then some (x_1, 0) else jn (fun (x_2 : Me) => if inb a1 17 = true then some ((mu (mu x_2 24 a1.toNatClampNeg a2) 25 a1.toNatClampNeg a3), 1) else none) (fun j_2 => if a2 ≤ 0 then j_2 x_1 else ob (f_X11_isWard fu x_1 a3) (fun x_4 r_4 => if r_4 = 0 then some (x_4, 0) else if a3 = a1 then some (x_4, 0) else j_2 x_4)))
def rm_X11_orders : Room := { frames := 1, cells := 0, slots := 0, locals := 21 }
set_option maxHeartbeats 4000000 in
set_option maxRecDepth 100000 in
theorem c_X11_orders (l : Launch) (fu nw : Nat) (G : GG) (x x' mo : Me) (a1 : Int32) (a2 : Int32) (a3 : Int32) (r : Int32) (hf : f_X11_orders fu x a1 a2 a3 = some (x', r)) : Met l yX11_orders [.code yX11_orders cX11_orders 4 (some .boolean)] rm_X11_orders (va_Pc [.ref (ga G 41), .int a1, .int a2, .int a3] (Pre G nw mo x)) (PI G nw mo x' r) 0 0 (gA G) := by
  refine mt_ofW (cc := cX11_orders) (maxL := 4) (ret := (some .boolean)) (by decide +kernel) rfl ?_
  intro p e s m args below meth c s₁ B hml hv
  obtain ⟨rfl, hE, hM⟩ := hv
  have hx := B.exec
  have hb := B.bytes
  have hr := B.returns
  have hown : s.vm.findClass RX11 = some m.cls := findClass_of_methodNamed B.named
  have hlocks := B.notSynchronized
  have hS : va_S (gA G) s.heap s.heap [] := va_S.rf
  have hl := lv_entry ([.ref (ga G 41), .int a1, .int a2, .int a3]) (n := 4) (Nat.le_of_ble_eq_true rfl)
  rw [lg_entry_eq]
  generalize (lg_sl ([.ref (ga G 41), .int a1, .int a2, .int a3]) ++ List.replicate (4 - (lg_sl ([.ref (ga G 41), .int a1, .int a2, .int a3])).length) Slot.unset).toArray = ls at hl ⊢
  have hl : lv_has ls 4 [(0, .ref (ga G 41)), (1, .int a1), (2, .int a2), (3, .int a3)] := hl
  generalize ([.ref (ga G 41), .int a1, .int a2, .int a3] : List Value).toArray = args
  unfold f_X11_orders at hf
  refine lv_aload_n hx hb dX11_orders_0 rfl (lv_at hl 0 rfl) ?_
  refine lv_iconst (v := 0) hx hb dX11_orders_1 (by decide) ?_
  refine pm_0 hx hb hE hM hS hown w_4_100 dX11_orders_2 (fun H locs hM hS => ?_)
  refine lv_aload_n hx hb dX11_orders_5 rfl (lv_at hl 0 rfl) ?_
  refine lv_iload_n hx hb dX11_orders_6 rfl (lv_at hl 1 rfl) ?_
  obtain ⟨x_1, r_1, hq_1, hf⟩ := ob_some hf
  refine k_X11_isWard hx hb hml hown hE hM hS w_5_134 hq_1 (Nat.le_of_ble_eq_true rfl) (Nat.le_of_ble_eq_true rfl) hl.1 (Nat.le_of_ble_eq_true rfl) ⟨Nat.zero_le _, Nat.zero_le _⟩ dX11_orders_7 (fun H locs hM hS => ?_)
  refine lv_if_eq (tgt := 39) hx hb dX11_orders_10 (by decide) (fun hc_10 => ?_) (fun hc_10 => ?_)
  · replace hf := i_t hf hc_10
    refine lv_iconst (v := 0) hx hb dX11_orders_39 (by decide) ?_
    exact rt_zM hx hb hr rfl hf hM hS dX11_orders_40 hlocks
  · replace hf := i_f hf hc_10
    refine lv_iload_n hx hb dX11_orders_13 rfl (lv_at hl 2 rfl) ?_
    refine lv_if_lt (tgt := 39) hx hb dX11_orders_14 (by decide) (fun hc_9 => ?_) (fun hc_9 => ?_)
    · replace hf := i_t hf hc_9
      refine lv_iconst (v := 0) hx hb dX11_orders_39 (by decide) ?_
      exact rt_zM hx hb hr rfl hf hM hS dX11_orders_40 hlocks
    · replace hf := i_f hf hc_9
      refine lv_iload_n hx hb dX11_orders_17 rfl (lv_at hl 2 rfl) ?_
      refine lv_iconst (v := 2) hx hb dX11_orders_18 (by decide) ?_
      refine lv_icmp_gt (tgt := 39) hx hb dX11_orders_19 (by decide) (fun hc_8 => ?_) (fun hc_8 => ?_)
      · replace hf := i_t hf hc_8
        refine lv_iconst (v := 0) hx hb dX11_orders_39 (by decide) ?_
        exact rt_zM hx hb hr rfl hf hM hS dX11_orders_40 hlocks
      · replace hf := i_f hf hc_8
        refine lv_iload_n hx hb dX11_orders_22 rfl (lv_at hl 2 rfl) ?_
        have hj_2 : ∀ (x_2 : Me) (H : Heap) (locs : List Loc) (ls : Array Slot), jnA hf x_2 = some (x', r) → MemP G nw mo x_2 H → va_S (gA G) s.heap H locs → lv_has ls 4 [(0, .ref (ga G 41)), (1, .int a1), (2, .int a2), (3, .int a3)] → W p l e rm_X11_orders s m args below meth c H locs 0 0 (MQ below (PI G nw mo x' r) args s 0 0 (gA G)) (F0 m 41 ls []) := by
          intro x_2 H locs ls hf hM hS hl
          refine lv_aload_n hx hb dX11_orders_41 rfl (lv_at hl 0 rfl) ?_
          refine gr_51 hx hb hE hM hown w_4_124 dX11_orders_42 ?_
          refine lv_iload_n hx hb dX11_orders_45 rfl (lv_at hl 1 rfl) ?_
          refine lv_iload_n hx hb dX11_orders_46 rfl (lv_at hl 2 rfl) ?_
          obtain ⟨hi_3, hf⟩ := i_n hf
          refine sa_51 hx hb hE hM hS hi_3 dX11_orders_47 (fun H locs hM hS => ?_)
          refine lv_aload_n hx hb dX11_orders_48 rfl (lv_at hl 0 rfl) ?_
          refine gr_52 hx hb hE hM hown w_4_125 dX11_orders_49 ?_
          refine lv_iload_n hx hb dX11_orders_52 rfl (lv_at hl 1 rfl) ?_
          refine lv_iload_n hx hb dX11_orders_53 rfl (lv_at hl 3 rfl) ?_
          refine sa_52 hx hb hE hM hS hi_3 dX11_orders_54 (fun H locs hM hS => ?_)
          refine lv_iconst (v := 1) hx hb dX11_orders_55 (by decide) ?_
          exact rt_zM hx hb hr rfl hf hM hS dX11_orders_56 hlocks
        replace hf := jn_use hf
        refine lv_if_le (tgt := 41) hx hb dX11_orders_23 (by decide) (fun hc_7 => ?_) (fun hc_7 => ?_)
        · replace hf := i_t hf hc_7
          exact hj_2 x_1 _ _ _ hf hM hS (lv_sub hl [0, 1, 2, 3] rfl)
        · replace hf := i_f hf hc_7
          refine lv_aload_n hx hb dX11_orders_26 rfl (lv_at hl 0 rfl) ?_
          refine lv_iload_n hx hb dX11_orders_27 rfl (lv_at hl 3 rfl) ?_
          obtain ⟨x_4, r_4, hq_4, hf⟩ := ob_some hf
          refine k_X11_isWard hx hb hml hown hE hM hS w_5_134 hq_4 (Nat.le_of_ble_eq_true rfl) (Nat.le_of_ble_eq_true rfl) hl.1 (Nat.le_of_ble_eq_true rfl) ⟨Nat.zero_le _, Nat.zero_le _⟩ dX11_orders_28 (fun H locs hM hS => ?_)
          refine lv_if_eq (tgt := 39) hx hb dX11_orders_31 (by decide) (fun hc_6 => ?_) (fun hc_6 => ?_)
          · replace hf := i_t hf hc_6
            refine lv_iconst (v := 0) hx hb dX11_orders_39 (by decide) ?_
            exact rt_zM hx hb hr rfl hf hM hS dX11_orders_40 hlocks
          · replace hf := i_f hf hc_6
            refine lv_iload_n hx hb dX11_orders_34 rfl (lv_at hl 3 rfl) ?_
            refine lv_iload_n hx hb dX11_orders_35 rfl (lv_at hl 1 rfl) ?_
            refine lv_icmp_ne (tgt := 41) hx hb dX11_orders_36 (by decide) (fun hc_5 => ?_) (fun hc_5 => ?_)
            · replace hf := i_f hf hc_5
              exact hj_2 x_4 _ _ _ hf hM hS (lv_sub hl [0, 1, 2, 3] rfl)
            · replace hf := i_t hf hc_5
              refine lv_iconst (v := 0) hx hb dX11_orders_39 (by decide) ?_
              exact rt_zM hx hb hr rfl hf hM hS dX11_orders_40 hlocks
theorem k_X11_orders {p : Program} {l : Launch} {e : Env} {R : Room} {s : State} {m : MethodId} {args : Array Value} {below : List Frame} {meth : Method} {c : Code} {H : Heap} {locs : List Loc} {cells slots : Nat} {Q : State → Prop} {cc : ByteArray} {pc nL : Nat} {ls : Array Slot} {rest : List Value} {G : GG} {fu nw : Nat} {x x' mo : Me} {own : String} {index : Nat} {a1 : Int32} {a2 : Int32} {a3 : Int32} {r : Int32} (hx : p.tables.exec = Jvm.exec) (hb : c.code = cc) (hml : c.maxLocals = nL) (hown : s.vm.findClass own = some m.cls) (hE : EnvP G s) (hM : MemP G nw mo x H) (hS : va_S (gA G) s.heap H locs) (hw : Cond.methodLink own index yX11_orders ∈ lw_tbl) (hf : f_X11_orders fu x a1 a2 a3 = some (x', r)) (h1 : 1 + 1 ≤ R.frames) (h2 : 8 + (4 + 11) + 21 ≤ R.locals) (hsz : ls.size = nL) (hW : (rest.map fun v => v.category).sum ≤ 8) (hcs : cells ≤ R.cells ∧ slots ≤ R.slots) (hdg : decode cc pc = .ok (.invokevirtual index, 3)) (kk : ∀ (H1 : Heap) (locs1 : List Loc), MemP G nw mo x' H1 → va_S (gA G) s.heap H1 locs1 → W p l e R s m args below meth c H1 locs1 cells slots Q (F0 m (pc + 3) ls (.int r :: rest))) : W p l e R s m args below meth c H locs cells slots Q (F0 m pc ls (.int a3 :: .int a2 :: .int a1 :: .ref (ga G 41) :: rest)) := mm_ki hS (mm_runV (n := 3) (o := 41) (C := RX11) (T := TX11) (N := 54) (ci := 11) (As := [.int a1, .int a2, .int a3]) hx hb hml hown hE hM hS (c_X11_orders l fu nw G x x' mo a1 a2 a3 _ hf) (List.forall_mem_cons.mpr ⟨⟨hw, rfl⟩, List.forall_mem_cons.mpr ⟨⟨w_5_147, rfl⟩, List.forall_mem_cons.mpr ⟨⟨w_5_148, rfl⟩, List.forall_mem_cons.mpr ⟨⟨w_1_11, rfl⟩, List.forall_mem_cons.mpr ⟨⟨w_5_149, rfl⟩, fun _ h => absurd h List.not_mem_nil⟩⟩⟩⟩⟩) rfl rfl ⟨rfl, by decide, by decide, by decide +kernel⟩ ⟨h1, h2⟩ rfl rfl rfl hsz rfl hW hdg hcs) kk
def f_X11_seen (fu : Nat) (x : Me) (a1 : Int32) (a2 : Int32) : Option (Me × Int32) := if (x 4 0) = 3 then if a1 < 0 then some ((mu x 0 0 0), 0) else if (x 30 0) ≤ a1 then some ((mu x 0 0 0), 0) else ob (f_X11_runs fu (mu x 0 0 0) a2) (fun x_1 r_1 => if r_1 = 0 then some (x_1, 0) else if inb a1 10 = true then some ((mu x_1 33 a1.toNatClampNeg a2), 1) else none) else some ((mu x 0 0 0), 0)
def rm_X11_seen : Room := { frames := 2, cells := 0, slots := 0, locals := 42 }
set_option maxHeartbeats 4000000 in
set_option maxRecDepth 100000 in
theorem c_X11_seen (l : Launch) (fu nw : Nat) (G : GG) (x x' mo : Me) (a1 : Int32) (a2 : Int32) (r : Int32) (hf : f_X11_seen fu x a1 a2 = some (x', r)) : Met l yX11_seen [.code yX11_seen cX11_seen 3 (some .boolean)] rm_X11_seen (va_Pc [.ref (ga G 41), .int a1, .int a2] (Pre G nw mo x)) (PI G nw mo x' r) 0 0 (gA G) := by
  refine mt_ofW (cc := cX11_seen) (maxL := 3) (ret := (some .boolean)) (by decide +kernel) rfl ?_
  intro p e s m args below meth c s₁ B hml hv
  obtain ⟨rfl, hE, hM⟩ := hv
  have hx := B.exec
  have hb := B.bytes
  have hr := B.returns
  have hown : s.vm.findClass RX11 = some m.cls := findClass_of_methodNamed B.named
  have hlocks := B.notSynchronized
  have hS : va_S (gA G) s.heap s.heap [] := va_S.rf
  have hl := lv_entry ([.ref (ga G 41), .int a1, .int a2]) (n := 3) (Nat.le_of_ble_eq_true rfl)
  rw [lg_entry_eq]
  generalize (lg_sl ([.ref (ga G 41), .int a1, .int a2]) ++ List.replicate (3 - (lg_sl ([.ref (ga G 41), .int a1, .int a2])).length) Slot.unset).toArray = ls at hl ⊢
  have hl : lv_has ls 3 [(0, .ref (ga G 41)), (1, .int a1), (2, .int a2)] := hl
  generalize ([.ref (ga G 41), .int a1, .int a2] : List Value).toArray = args
  unfold f_X11_seen at hf
  refine lv_aload_n hx hb dX11_seen_0 rfl (lv_at hl 0 rfl) ?_
  refine lv_iconst (v := 0) hx hb dX11_seen_1 (by decide) ?_
  refine pm_0 hx hb hE hM hS hown w_4_100 dX11_seen_2 (fun H locs hM hS => ?_)
  refine lv_aload_n hx hb dX11_seen_5 rfl (lv_at hl 0 rfl) ?_
  refine gm_4 hx hb hE hM hown w_4_104 dX11_seen_6 ?_
  refine lv_iconst (v := 3) hx hb dX11_seen_9 (by decide) ?_
  refine lv_icmp_ne (tgt := 33) hx hb dX11_seen_10 (by decide) (fun hc_6 => ?_) (fun hc_6 => ?_)
  · replace hf := i_f hf hc_6
    refine lv_iconst (v := 0) hx hb dX11_seen_33 (by decide) ?_
    exact rt_zM hx hb hr rfl hf hM hS dX11_seen_34 hlocks
  · replace hf := i_t hf hc_6
    refine lv_iload_n hx hb dX11_seen_13 rfl (lv_at hl 1 rfl) ?_
    refine lv_if_lt (tgt := 33) hx hb dX11_seen_14 (by decide) (fun hc_5 => ?_) (fun hc_5 => ?_)
    · replace hf := i_t hf hc_5
      refine lv_iconst (v := 0) hx hb dX11_seen_33 (by decide) ?_
      exact rt_zM hx hb hr rfl hf hM hS dX11_seen_34 hlocks
    · replace hf := i_f hf hc_5
      refine lv_iload_n hx hb dX11_seen_17 rfl (lv_at hl 1 rfl) ?_
      refine lv_aload_n hx hb dX11_seen_18 rfl (lv_at hl 0 rfl) ?_
      refine gm_30 hx hb hE hM hown w_4_130 dX11_seen_19 ?_
      refine lv_icmp_ge (tgt := 33) hx hb dX11_seen_22 (by decide) (fun hc_4 => ?_) (fun hc_4 => ?_)
      · replace hf := i_t hf hc_4
        refine lv_iconst (v := 0) hx hb dX11_seen_33 (by decide) ?_
        exact rt_zM hx hb hr rfl hf hM hS dX11_seen_34 hlocks
      · replace hf := i_f hf hc_4
        refine lv_aload_n hx hb dX11_seen_25 rfl (lv_at hl 0 rfl) ?_
        refine lv_iload_n hx hb dX11_seen_26 rfl (lv_at hl 2 rfl) ?_
        obtain ⟨x_1, r_1, hq_1, hf⟩ := ob_some hf
        refine k_X11_runs hx hb hml hown hE hM hS w_5_154 hq_1 (Nat.le_of_ble_eq_true rfl) (Nat.le_of_ble_eq_true rfl) hl.1 (Nat.le_of_ble_eq_true rfl) ⟨Nat.zero_le _, Nat.zero_le _⟩ dX11_seen_27 (fun H locs hM hS => ?_)
        refine lv_if_ne (tgt := 35) hx hb dX11_seen_30 (by decide) (fun hc_3 => ?_) (fun hc_3 => ?_)
        · replace hf := i_f hf hc_3
          refine lv_aload_n hx hb dX11_seen_35 rfl (lv_at hl 0 rfl) ?_
          refine gr_57 hx hb hE hM hown w_4_133 dX11_seen_36 ?_
          refine lv_iload_n hx hb dX11_seen_39 rfl (lv_at hl 1 rfl) ?_
          refine lv_iload_n hx hb dX11_seen_40 rfl (lv_at hl 2 rfl) ?_
          obtain ⟨hi_2, hf⟩ := i_n hf
          refine sa_57 hx hb hE hM hS hi_2 dX11_seen_41 (fun H locs hM hS => ?_)
          refine lv_iconst (v := 1) hx hb dX11_seen_42 (by decide) ?_
          exact rt_zM hx hb hr rfl hf hM hS dX11_seen_43 hlocks
        · replace hf := i_t hf hc_3
          refine lv_iconst (v := 0) hx hb dX11_seen_33 (by decide) ?_
          exact rt_zM hx hb hr rfl hf hM hS dX11_seen_34 hlocks
theorem k_X11_seen {p : Program} {l : Launch} {e : Env} {R : Room} {s : State} {m : MethodId} {args : Array Value} {below : List Frame} {meth : Method} {c : Code} {H : Heap} {locs : List Loc} {cells slots : Nat} {Q : State → Prop} {cc : ByteArray} {pc nL : Nat} {ls : Array Slot} {rest : List Value} {G : GG} {fu nw : Nat} {x x' mo : Me} {own : String} {index : Nat} {a1 : Int32} {a2 : Int32} {r : Int32} (hx : p.tables.exec = Jvm.exec) (hb : c.code = cc) (hml : c.maxLocals = nL) (hown : s.vm.findClass own = some m.cls) (hE : EnvP G s) (hM : MemP G nw mo x H) (hS : va_S (gA G) s.heap H locs) (hw : Cond.methodLink own index yX11_seen ∈ lw_tbl) (hf : f_X11_seen fu x a1 a2 = some (x', r)) (h1 : 2 + 1 ≤ R.frames) (h2 : 8 + (3 + 11) + 42 ≤ R.locals) (hsz : ls.size = nL) (hW : (rest.map fun v => v.category).sum ≤ 8) (hcs : cells ≤ R.cells ∧ slots ≤ R.slots) (hdg : decode cc pc = .ok (.invokevirtual index, 3)) (kk : ∀ (H1 : Heap) (locs1 : List Loc), MemP G nw mo x' H1 → va_S (gA G) s.heap H1 locs1 → W p l e R s m args below meth c H1 locs1 cells slots Q (F0 m (pc + 3) ls (.int r :: rest))) : W p l e R s m args below meth c H locs cells slots Q (F0 m pc ls (.int a2 :: .int a1 :: .ref (ga G 41) :: rest)) := mm_ki hS (mm_runV (n := 2) (o := 41) (C := RX11) (T := TX11) (N := 54) (ci := 11) (As := [.int a1, .int a2]) hx hb hml hown hE hM hS (c_X11_seen l fu nw G x x' mo a1 a2 _ hf) (List.forall_mem_cons.mpr ⟨⟨hw, rfl⟩, List.forall_mem_cons.mpr ⟨⟨w_5_151, rfl⟩, List.forall_mem_cons.mpr ⟨⟨w_5_152, rfl⟩, List.forall_mem_cons.mpr ⟨⟨w_1_11, rfl⟩, List.forall_mem_cons.mpr ⟨⟨w_5_153, rfl⟩, fun _ h => absurd h List.not_mem_nil⟩⟩⟩⟩⟩) rfl rfl ⟨rfl, by decide, by decide, by decide +kernel⟩ ⟨h1, h2⟩ rfl rfl rfl hsz rfl hW hdg hcs) kk
def f_X11_isFalse_13 (fu : Nat) (b1 : Int32) (k : Me → Option (Me × Unit)) : Nat → Me → Int32 → Option (Me × Unit)
  | 0 => fun _ _ => none
  | n + 1 => fun x a2 => if (x 30 0) ≤ a2 then k x else if inb a2 10 = true then if (x 33 a2.toNatClampNeg) = (x 32 a2.toNatClampNeg) then f_X11_isFalse_13 fu b1 k n x (a2 + 1) else if inb (x 32 a2.toNatClampNeg) 17 = true then f_X11_isFalse_13 fu b1 k n (mu x 20 ((x 32 a2.toNatClampNeg).toNatClampNeg) ((x 20 ((x 32 a2.toNatClampNeg).toNatClampNeg)) + 1)) (a2 + 1) else none else none
def f_X11_isFalse_105 (fu : Nat) (b1 : Int32) (b2 : Int32) (k : Me → Int32 → Option (Me × Unit)) : Nat → Me → Int32 → Int32 → Option (Me × Unit)
  | 0 => fun _ _ _ => none
  | n + 1 => fun x a3 a4 => if (x 30 0) ≤ a4 then k x a3 else if inb a4 10 = true then if (x 32 a4.toNatClampNeg) = b2 then f_X11_isFalse_105 fu b1 b2 k n x a3 (a4 + 1) else if inb a3 10 = true then f_X11_isFalse_105 fu b1 b2 k n (mu x 32 a3.toNatClampNeg (x 32 a4.toNatClampNeg)) (a3 + 1) (a4 + 1) else none else none
def f_X11_isFalse_59 (fu : Nat) (b1 : Int32) (k : Me → Option (Me × Unit)) : Nat → Me → Int32 → Option (Me × Unit)
  | 0 => fun _ _ => none
  | n + 1 => fun x a2 => if (x 17 0) ≤ a2 then k x else if b1 ≤ 0 then k x else if inb a2 17 = true then if (x 23 a2.toNatClampNeg) = 0 then f_X11_isFalse_59 fu b1 k n x (a2 + 1) else if b1 ≤ (x 20 a2.toNatClampNeg) then f_X11_isFalse_105 fu b1 a2 (fun (x_12 : Me) (a3_12 : Int32) => if inb a3_12 10 = true then f_X11_isFalse_59 fu b1 k n (mu x_12 32 a3_12.toNatClampNeg a2) (a2 + 1) else none) fu (mu x 20 a2.toNatClampNeg 0) 0 0 else f_X11_isFalse_59 fu b1 k n x (a2 + 1) else none
def f_X11_isFalse_165 (fu : Nat) (k : Me → Option (Me × Unit)) : Nat → Me → Int32 → Option (Me × Unit)
  | 0 => fun _ _ => none
  | n + 1 => fun x a2 => if (x 30 0) ≤ a2 then k x else if inb a2 10 = true then f_X11_isFalse_165 fu k n (mu x 33 a2.toNatClampNeg (x 32 a2.toNatClampNeg)) (a2 + 1) else none
def f_X11_isFalse (fu : Nat) (x : Me) : Option (Me × Unit) := ob (f_X11_lawOf fu x 6 (x 3 0)) (fun x_1 r_1 => f_X11_isFalse_13 fu r_1 (fun (x_6 : Me) => f_X11_isFalse_59 fu r_1 (fun (x_18 : Me) => f_X11_isFalse_165 fu (fun (x_21 : Me) => some (x_21, ())) fu x_18 0) fu x_6 0) fu x_1 0)
def rm_X11_isFalse : Room := { frames := 1, cells := 0, slots := 0, locals := 25 }
set_option maxHeartbeats 4000000 in
set_option maxRecDepth 100000 in
theorem wk_X11_isFalse_13 {p : Program} {l : Launch} {e : Env} {s : State} {m : MethodId} {args : Array Value} {below : List Frame} {meth : Method} {c : Code} {fu nw : Nat} {G : GG} {mo : Me} {b1 : Int32} (hx : p.tables.exec = Jvm.exec) (hb : c.code = cX11_isFalse) (hml : c.maxLocals = 5) (hown : s.vm.findClass RX11 = some m.cls) (hE : EnvP G s) (hr : meth.sig.returnType = none) (hlocks : meth.locks = false) {x' : Me} {r : Unit} {k : Me → Option (Me × Unit)} (hk : ∀ (x : Me) (H : Heap) (locs : List Loc) (ls : Array Slot), k x = some (x', r) → MemP G nw mo x H → va_S (gA G) s.heap H locs → lv_has ls 5 [(0, .ref (ga G 41)), (1, .int b1)] → W p l e rm_X11_isFalse s m args below meth c H locs 0 0 (MQ below (PV G nw mo x') args s 0 0 (gA G)) (F0 m 57 ls [])) : ∀ (n : Nat) (x : Me) (a2 : Int32) (H : Heap) (locs : List Loc) (ls : Array Slot), f_X11_isFalse_13 fu b1 k n x a2 = some (x', r) → MemP G nw mo x H → va_S (gA G) s.heap H locs → lv_has ls 5 [(0, .ref (ga G 41)), (1, .int b1), (2, .int a2)] → W p l e rm_X11_isFalse s m args below meth c H locs 0 0 (MQ below (PV G nw mo x') args s 0 0 (gA G)) (F0 m 13 ls []) := by
  intro n
  induction n with
  | zero =>
    intro x a2 H locs ls hf hM hS hl
    exact nn hf
  | succ n ih =>
    intro x a2 H locs ls hf hM hS hl
    rw [f_X11_isFalse_13] at hf
    refine lv_iload_n hx hb dX11_isFalse_13 rfl (lv_at hl 2 rfl) ?_
    refine lv_aload_n hx hb dX11_isFalse_14 rfl (lv_at hl 0 rfl) ?_
    refine gm_30 hx hb hE hM hown w_4_130 dX11_isFalse_15 ?_
    refine lv_icmp_ge (tgt := 57) hx hb dX11_isFalse_18 (by decide) (fun hc_5 => ?_) (fun hc_5 => ?_)
    · replace hf := i_t hf hc_5
      exact hk x _ _ _ hf hM hS (lv_sub hl [0, 1] rfl)
    · replace hf := i_f hf hc_5
      refine lv_aload_n hx hb dX11_isFalse_21 rfl (lv_at hl 0 rfl) ?_
      refine gr_57 hx hb hE hM hown w_4_133 dX11_isFalse_22 ?_
      refine lv_iload_n hx hb dX11_isFalse_25 rfl (lv_at hl 2 rfl) ?_
      obtain ⟨hi_2, hf⟩ := i_n hf
      refine la_57 hx hb hE hM hi_2 dX11_isFalse_26 ?_
      refine lv_aload_n hx hb dX11_isFalse_27 rfl (lv_at hl 0 rfl) ?_
      refine gr_56 hx hb hE hM hown w_4_132 dX11_isFalse_28 ?_
      refine lv_iload_n hx hb dX11_isFalse_31 rfl (lv_at hl 2 rfl) ?_
      refine la_56 hx hb hE hM hi_2 dX11_isFalse_32 ?_
      refine lv_icmp_eq (tgt := 51) hx hb dX11_isFalse_33 (by decide) (fun hc_4 => ?_) (fun hc_4 => ?_)
      · replace hf := i_t hf hc_4
        refine lv_iinc (v := a2 + 1) (lv' := [(2, .int (a2 + 1)), (0, .ref (ga G 41)), (1, .int b1)]) hx hb dX11_isFalse_51 hl (k := 2) rfl rfl (by decide) rfl (fun ls hl => ?_)
        refine lv_goto (tgt := 13) hx hb dX11_isFalse_54 (by decide) ?_
        exact ih x (a2 + 1) _ _ _ hf hM hS (lv_sub hl [1, 2, 0] rfl)
      · replace hf := i_f hf hc_4
        refine lv_aload_n hx hb dX11_isFalse_36 rfl (lv_at hl 0 rfl) ?_
        refine gr_47 hx hb hE hM hown w_4_120 dX11_isFalse_37 ?_
        refine lv_aload_n hx hb dX11_isFalse_40 rfl (lv_at hl 0 rfl) ?_
        refine gr_56 hx hb hE hM hown w_4_132 dX11_isFalse_41 ?_
        refine lv_iload_n hx hb dX11_isFalse_44 rfl (lv_at hl 2 rfl) ?_
        refine la_56 hx hb hE hM hi_2 dX11_isFalse_45 ?_
        refine lv_dup2_11 hx hb dX11_isFalse_46 rfl rfl ?_
        obtain ⟨hi_3, hf⟩ := i_n hf
        refine la_47 hx hb hE hM hi_3 dX11_isFalse_47 ?_
        refine lv_iconst (v := 1) hx hb dX11_isFalse_48 (by decide) ?_
        refine lv_iadd hx hb dX11_isFalse_49 ?_
        refine sa_47 hx hb hE hM hS hi_3 dX11_isFalse_50 (fun H locs hM hS => ?_)
        refine lv_iinc (v := a2 + 1) (lv' := [(2, .int (a2 + 1)), (0, .ref (ga G 41)), (1, .int b1)]) hx hb dX11_isFalse_51 hl (k := 2) rfl rfl (by decide) rfl (fun ls hl => ?_)
        refine lv_goto (tgt := 13) hx hb dX11_isFalse_54 (by decide) ?_
        exact ih (mu x 20 ((x 32 a2.toNatClampNeg).toNatClampNeg) ((x 20 ((x 32 a2.toNatClampNeg).toNatClampNeg)) + 1)) (a2 + 1) _ _ _ hf hM hS (lv_sub hl [1, 2, 0] rfl)
set_option maxHeartbeats 4000000 in
set_option maxRecDepth 100000 in
theorem wk_X11_isFalse_105 {p : Program} {l : Launch} {e : Env} {s : State} {m : MethodId} {args : Array Value} {below : List Frame} {meth : Method} {c : Code} {fu nw : Nat} {G : GG} {mo : Me} {b1 : Int32} {b2 : Int32} (hx : p.tables.exec = Jvm.exec) (hb : c.code = cX11_isFalse) (hml : c.maxLocals = 5) (hown : s.vm.findClass RX11 = some m.cls) (hE : EnvP G s) (hr : meth.sig.returnType = none) (hlocks : meth.locks = false) {x' : Me} {r : Unit} {k : Me → Int32 → Option (Me × Unit)} (hk : ∀ (x : Me) (a3 : Int32) (H : Heap) (locs : List Loc) (ls : Array Slot), k x a3 = some (x', r) → MemP G nw mo x H → va_S (gA G) s.heap H locs → lv_has ls 5 [(0, .ref (ga G 41)), (1, .int b1), (2, .int b2), (3, .int a3)] → W p l e rm_X11_isFalse s m args below meth c H locs 0 0 (MQ below (PV G nw mo x') args s 0 0 (gA G)) (F0 m 150 ls [])) : ∀ (n : Nat) (x : Me) (a3 : Int32) (a4 : Int32) (H : Heap) (locs : List Loc) (ls : Array Slot), f_X11_isFalse_105 fu b1 b2 k n x a3 a4 = some (x', r) → MemP G nw mo x H → va_S (gA G) s.heap H locs → lv_has ls 5 [(0, .ref (ga G 41)), (1, .int b1), (2, .int b2), (3, .int a3), (4, .int a4)] → W p l e rm_X11_isFalse s m args below meth c H locs 0 0 (MQ below (PV G nw mo x') args s 0 0 (gA G)) (F0 m 105 ls []) := by
  intro n
  induction n with
  | zero =>
    intro x a3 a4 H locs ls hf hM hS hl
    exact nn hf
  | succ n ih =>
    intro x a3 a4 H locs ls hf hM hS hl
    rw [f_X11_isFalse_105] at hf
    refine lv_iload hx hb dX11_isFalse_105 (lv_at hl 4 rfl) ?_
    refine lv_aload_n hx hb dX11_isFalse_107 rfl (lv_at hl 0 rfl) ?_
    refine gm_30 hx hb hE hM hown w_4_130 dX11_isFalse_108 ?_
    refine lv_icmp_ge (tgt := 150) hx hb dX11_isFalse_111 (by decide) (fun hc_11 => ?_) (fun hc_11 => ?_)
    · replace hf := i_t hf hc_11
      exact hk x a3 _ _ _ hf hM hS (lv_sub hl [0, 1, 2, 3] rfl)
    · replace hf := i_f hf hc_11
      refine lv_aload_n hx hb dX11_isFalse_114 rfl (lv_at hl 0 rfl) ?_
      refine gr_56 hx hb hE hM hown w_4_132 dX11_isFalse_115 ?_
      refine lv_iload hx hb dX11_isFalse_118 (lv_at hl 4 rfl) ?_
      obtain ⟨hi_8, hf⟩ := i_n hf
      refine la_56 hx hb hE hM hi_8 dX11_isFalse_120 ?_
      refine lv_iload_n hx hb dX11_isFalse_121 rfl (lv_at hl 2 rfl) ?_
      refine lv_icmp_ne (tgt := 128) hx hb dX11_isFalse_122 (by decide) (fun hc_10 => ?_) (fun hc_10 => ?_)
      · replace hf := i_f hf hc_10
        refine lv_aload_n hx hb dX11_isFalse_128 rfl (lv_at hl 0 rfl) ?_
        refine gr_56 hx hb hE hM hown w_4_132 dX11_isFalse_129 ?_
        refine lv_iload_n hx hb dX11_isFalse_132 rfl (lv_at hl 3 rfl) ?_
        refine lv_aload_n hx hb dX11_isFalse_133 rfl (lv_at hl 0 rfl) ?_
        refine gr_56 hx hb hE hM hown w_4_132 dX11_isFalse_134 ?_
        refine lv_iload hx hb dX11_isFalse_137 (lv_at hl 4 rfl) ?_
        refine la_56 hx hb hE hM hi_8 dX11_isFalse_139 ?_
        obtain ⟨hi_9, hf⟩ := i_n hf
        refine sa_56 hx hb hE hM hS hi_9 dX11_isFalse_140 (fun H locs hM hS => ?_)
        refine lv_iinc (v := a3 + 1) (lv' := [(3, .int (a3 + 1)), (0, .ref (ga G 41)), (1, .int b1), (2, .int b2), (4, .int a4)]) hx hb dX11_isFalse_141 hl (k := 3) rfl rfl (by decide) rfl (fun ls hl => ?_)
        refine lv_iinc (v := a4 + 1) (lv' := [(4, .int (a4 + 1)), (3, .int (a3 + 1)), (0, .ref (ga G 41)), (1, .int b1), (2, .int b2)]) hx hb dX11_isFalse_144 hl (k := 4) rfl rfl (by decide) rfl (fun ls hl => ?_)
        refine lv_goto (tgt := 105) hx hb dX11_isFalse_147 (by decide) ?_
        exact ih (mu x 32 a3.toNatClampNeg (x 32 a4.toNatClampNeg)) (a3 + 1) (a4 + 1) _ _ _ hf hM hS (lv_sub hl [2, 3, 4, 1, 0] rfl)
      · replace hf := i_t hf hc_10
        refine lv_goto (tgt := 144) hx hb dX11_isFalse_125 (by decide) ?_
        refine lv_iinc (v := a4 + 1) (lv' := [(4, .int (a4 + 1)), (0, .ref (ga G 41)), (1, .int b1), (2, .int b2), (3, .int a3)]) hx hb dX11_isFalse_144 hl (k := 4) rfl rfl (by decide) rfl (fun ls hl => ?_)
        refine lv_goto (tgt := 105) hx hb dX11_isFalse_147 (by decide) ?_
        exact ih x a3 (a4 + 1) _ _ _ hf hM hS (lv_sub hl [1, 2, 3, 4, 0] rfl)
set_option maxHeartbeats 4000000 in
set_option maxRecDepth 100000 in
theorem wk_X11_isFalse_59 {p : Program} {l : Launch} {e : Env} {s : State} {m : MethodId} {args : Array Value} {below : List Frame} {meth : Method} {c : Code} {fu nw : Nat} {G : GG} {mo : Me} {b1 : Int32} (hx : p.tables.exec = Jvm.exec) (hb : c.code = cX11_isFalse) (hml : c.maxLocals = 5) (hown : s.vm.findClass RX11 = some m.cls) (hE : EnvP G s) (hr : meth.sig.returnType = none) (hlocks : meth.locks = false) {x' : Me} {r : Unit} {k : Me → Option (Me × Unit)} (hk : ∀ (x : Me) (H : Heap) (locs : List Loc) (ls : Array Slot), k x = some (x', r) → MemP G nw mo x H → va_S (gA G) s.heap H locs → lv_has ls 5 [(0, .ref (ga G 41))] → W p l e rm_X11_isFalse s m args below meth c H locs 0 0 (MQ below (PV G nw mo x') args s 0 0 (gA G)) (F0 m 163 ls [])) : ∀ (n : Nat) (x : Me) (a2 : Int32) (H : Heap) (locs : List Loc) (ls : Array Slot), f_X11_isFalse_59 fu b1 k n x a2 = some (x', r) → MemP G nw mo x H → va_S (gA G) s.heap H locs → lv_has ls 5 [(0, .ref (ga G 41)), (1, .int b1), (2, .int a2)] → W p l e rm_X11_isFalse s m args below meth c H locs 0 0 (MQ below (PV G nw mo x') args s 0 0 (gA G)) (F0 m 59 ls []) := by
  intro n
  induction n with
  | zero =>
    intro x a2 H locs ls hf hM hS hl
    exact nn hf
  | succ n ih =>
    intro x a2 H locs ls hf hM hS hl
    rw [f_X11_isFalse_59] at hf
    refine lv_iload_n hx hb dX11_isFalse_59 rfl (lv_at hl 2 rfl) ?_
    refine lv_aload_n hx hb dX11_isFalse_60 rfl (lv_at hl 0 rfl) ?_
    refine gm_17 hx hb hE hM hown w_4_117 dX11_isFalse_61 ?_
    refine lv_icmp_ge (tgt := 163) hx hb dX11_isFalse_64 (by decide) (fun hc_17 => ?_) (fun hc_17 => ?_)
    · replace hf := i_t hf hc_17
      exact hk x _ _ _ hf hM hS (lv_sub hl [0] rfl)
    · replace hf := i_f hf hc_17
      refine lv_iload_n hx hb dX11_isFalse_67 rfl (lv_at hl 1 rfl) ?_
      refine lv_if_le (tgt := 163) hx hb dX11_isFalse_68 (by decide) (fun hc_16 => ?_) (fun hc_16 => ?_)
      · replace hf := i_t hf hc_16
        exact hk x _ _ _ hf hM hS (lv_sub hl [0] rfl)
      · replace hf := i_f hf hc_16
        refine lv_aload_n hx hb dX11_isFalse_71 rfl (lv_at hl 0 rfl) ?_
        refine gr_50 hx hb hE hM hown w_4_123 dX11_isFalse_72 ?_
        refine lv_iload_n hx hb dX11_isFalse_75 rfl (lv_at hl 2 rfl) ?_
        obtain ⟨hi_7, hf⟩ := i_n hf
        refine la_50 hx hb hE hM hi_7 dX11_isFalse_76 ?_
        refine lv_if_eq (tgt := 157) hx hb dX11_isFalse_77 (by decide) (fun hc_15 => ?_) (fun hc_15 => ?_)
        · replace hf := i_t hf hc_15
          refine lv_iinc (v := a2 + 1) (lv' := [(2, .int (a2 + 1)), (0, .ref (ga G 41)), (1, .int b1)]) hx hb dX11_isFalse_157 hl (k := 2) rfl rfl (by decide) rfl (fun ls hl => ?_)
          refine lv_goto (tgt := 59) hx hb dX11_isFalse_160 (by decide) ?_
          exact ih x (a2 + 1) _ _ _ hf hM hS (lv_sub hl [1, 2, 0] rfl)
        · replace hf := i_f hf hc_15
          refine lv_aload_n hx hb dX11_isFalse_80 rfl (lv_at hl 0 rfl) ?_
          refine gr_47 hx hb hE hM hown w_4_120 dX11_isFalse_81 ?_
          refine lv_iload_n hx hb dX11_isFalse_84 rfl (lv_at hl 2 rfl) ?_
          refine la_47 hx hb hE hM hi_7 dX11_isFalse_85 ?_
          refine lv_iload_n hx hb dX11_isFalse_86 rfl (lv_at hl 1 rfl) ?_
          refine lv_icmp_ge (tgt := 93) hx hb dX11_isFalse_87 (by decide) (fun hc_14 => ?_) (fun hc_14 => ?_)
          · replace hf := i_t hf hc_14
            refine lv_aload_n hx hb dX11_isFalse_93 rfl (lv_at hl 0 rfl) ?_
            refine gr_47 hx hb hE hM hown w_4_120 dX11_isFalse_94 ?_
            refine lv_iload_n hx hb dX11_isFalse_97 rfl (lv_at hl 2 rfl) ?_
            refine lv_iconst (v := 0) hx hb dX11_isFalse_98 (by decide) ?_
            refine sa_47 hx hb hE hM hS hi_7 dX11_isFalse_99 (fun H locs hM hS => ?_)
            refine lv_iconst (v := 0) hx hb dX11_isFalse_100 (by decide) ?_
            refine lv_istore_n (lv' := [(3, .int 0), (0, .ref (ga G 41)), (1, .int b1), (2, .int a2)]) hx hb dX11_isFalse_101 rfl hl (by decide) rfl (fun ls hl => ?_)
            refine lv_iconst (v := 0) hx hb dX11_isFalse_102 (by decide) ?_
            refine lv_istore (lv' := [(4, .int 0), (3, .int 0), (0, .ref (ga G 41)), (1, .int b1), (2, .int a2)]) hx hb dX11_isFalse_103 hl (by decide) rfl (fun ls hl => ?_)
            refine wk_X11_isFalse_105 hx hb hml hown hE hr hlocks ?_ fu (mu x 20 a2.toNatClampNeg 0) 0 0 _ _ _ hf hM hS (lv_sub hl [2, 3, 4, 1, 0] rfl)
            intro x_12 a3_12 H locs ls hf hM hS hl
            refine lv_aload_n hx hb dX11_isFalse_150 rfl (lv_at hl 0 rfl) ?_
            refine gr_56 hx hb hE hM hown w_4_132 dX11_isFalse_151 ?_
            refine lv_iload_n hx hb dX11_isFalse_154 rfl (lv_at hl 3 rfl) ?_
            refine lv_iload_n hx hb dX11_isFalse_155 rfl (lv_at hl 2 rfl) ?_
            obtain ⟨hi_13, hf⟩ := i_n hf
            refine sa_56 hx hb hE hM hS hi_13 dX11_isFalse_156 (fun H locs hM hS => ?_)
            refine lv_iinc (v := a2 + 1) (lv' := [(2, .int (a2 + 1)), (0, .ref (ga G 41)), (1, .int b1), (3, .int a3_12)]) hx hb dX11_isFalse_157 hl (k := 2) rfl rfl (by decide) rfl (fun ls hl => ?_)
            refine lv_goto (tgt := 59) hx hb dX11_isFalse_160 (by decide) ?_
            exact ih (mu x_12 32 a3_12.toNatClampNeg a2) (a2 + 1) _ _ _ hf hM hS (lv_sub hl [1, 2, 0] rfl)
          · replace hf := i_f hf hc_14
            refine lv_goto (tgt := 157) hx hb dX11_isFalse_90 (by decide) ?_
            refine lv_iinc (v := a2 + 1) (lv' := [(2, .int (a2 + 1)), (0, .ref (ga G 41)), (1, .int b1)]) hx hb dX11_isFalse_157 hl (k := 2) rfl rfl (by decide) rfl (fun ls hl => ?_)
            refine lv_goto (tgt := 59) hx hb dX11_isFalse_160 (by decide) ?_
            exact ih x (a2 + 1) _ _ _ hf hM hS (lv_sub hl [1, 2, 0] rfl)
set_option maxHeartbeats 4000000 in
set_option maxRecDepth 100000 in
theorem wk_X11_isFalse_165 {p : Program} {l : Launch} {e : Env} {s : State} {m : MethodId} {args : Array Value} {below : List Frame} {meth : Method} {c : Code} {fu nw : Nat} {G : GG} {mo : Me} (hx : p.tables.exec = Jvm.exec) (hb : c.code = cX11_isFalse) (hml : c.maxLocals = 5) (hown : s.vm.findClass RX11 = some m.cls) (hE : EnvP G s) (hr : meth.sig.returnType = none) (hlocks : meth.locks = false) {x' : Me} {r : Unit} {k : Me → Option (Me × Unit)} (hk : ∀ (x : Me) (H : Heap) (locs : List Loc) (ls : Array Slot), k x = some (x', r) → MemP G nw mo x H → va_S (gA G) s.heap H locs → lv_has ls 5 [] → W p l e rm_X11_isFalse s m args below meth c H locs 0 0 (MQ below (PV G nw mo x') args s 0 0 (gA G)) (F0 m 191 ls [])) : ∀ (n : Nat) (x : Me) (a2 : Int32) (H : Heap) (locs : List Loc) (ls : Array Slot), f_X11_isFalse_165 fu k n x a2 = some (x', r) → MemP G nw mo x H → va_S (gA G) s.heap H locs → lv_has ls 5 [(0, .ref (ga G 41)), (2, .int a2)] → W p l e rm_X11_isFalse s m args below meth c H locs 0 0 (MQ below (PV G nw mo x') args s 0 0 (gA G)) (F0 m 165 ls []) := by
  intro n
  induction n with
  | zero =>
    intro x a2 H locs ls hf hM hS hl
    exact nn hf
  | succ n ih =>
    intro x a2 H locs ls hf hM hS hl
    rw [f_X11_isFalse_165] at hf
    refine lv_iload_n hx hb dX11_isFalse_165 rfl (lv_at hl 1 rfl) ?_
    refine lv_aload_n hx hb dX11_isFalse_166 rfl (lv_at hl 0 rfl) ?_
    refine gm_30 hx hb hE hM hown w_4_130 dX11_isFalse_167 ?_
    refine lv_icmp_ge (tgt := 191) hx hb dX11_isFalse_170 (by decide) (fun hc_20 => ?_) (fun hc_20 => ?_)
    · replace hf := i_t hf hc_20
      exact hk x _ _ _ hf hM hS (lv_sub hl [] rfl)
    · replace hf := i_f hf hc_20
      refine lv_aload_n hx hb dX11_isFalse_173 rfl (lv_at hl 0 rfl) ?_
      refine gr_57 hx hb hE hM hown w_4_133 dX11_isFalse_174 ?_
      refine lv_iload_n hx hb dX11_isFalse_177 rfl (lv_at hl 1 rfl) ?_
      refine lv_aload_n hx hb dX11_isFalse_178 rfl (lv_at hl 0 rfl) ?_
      refine gr_56 hx hb hE hM hown w_4_132 dX11_isFalse_179 ?_
      refine lv_iload_n hx hb dX11_isFalse_182 rfl (lv_at hl 1 rfl) ?_
      obtain ⟨hi_19, hf⟩ := i_n hf
      refine la_56 hx hb hE hM hi_19 dX11_isFalse_183 ?_
      refine sa_57 hx hb hE hM hS hi_19 dX11_isFalse_184 (fun H locs hM hS => ?_)
      refine lv_iinc (v := a2 + 1) (lv' := [(2, .int (a2 + 1)), (0, .ref (ga G 41))]) hx hb dX11_isFalse_185 hl (k := 1) rfl rfl (by decide) rfl (fun ls hl => ?_)
      refine lv_goto (tgt := 165) hx hb dX11_isFalse_188 (by decide) ?_
      exact ih (mu x 33 a2.toNatClampNeg (x 32 a2.toNatClampNeg)) (a2 + 1) _ _ _ hf hM hS (lv_sub hl [1, 0] rfl)
set_option maxHeartbeats 4000000 in
set_option maxRecDepth 100000 in
theorem c_X11_isFalse (l : Launch) (fu nw : Nat) (G : GG) (x x' mo : Me) (r : Unit) (hf : f_X11_isFalse fu x = some (x', r)) : Met l yX11_isFalse [.code yX11_isFalse cX11_isFalse 5 none] rm_X11_isFalse (va_Pc [.ref (ga G 41)] (Pre G nw mo x)) (PV G nw mo x') 0 0 (gA G) := by
  refine mt_ofW (cc := cX11_isFalse) (maxL := 5) (ret := none) (by decide +kernel) rfl ?_
  intro p e s m args below meth c s₁ B hml hv
  obtain ⟨rfl, hE, hM⟩ := hv
  have hx := B.exec
  have hb := B.bytes
  have hr := B.returns
  have hown : s.vm.findClass RX11 = some m.cls := findClass_of_methodNamed B.named
  have hlocks := B.notSynchronized
  have hS : va_S (gA G) s.heap s.heap [] := va_S.rf
  have hl := lv_entry ([.ref (ga G 41)]) (n := 5) (Nat.le_of_ble_eq_true rfl)
  rw [lg_entry_eq]
  generalize (lg_sl ([.ref (ga G 41)]) ++ List.replicate (5 - (lg_sl ([.ref (ga G 41)])).length) Slot.unset).toArray = ls at hl ⊢
  have hl : lv_has ls 5 [(0, .ref (ga G 41))] := hl
  generalize ([.ref (ga G 41)] : List Value).toArray = args
  unfold f_X11_isFalse at hf
  refine lv_aload_n hx hb dX11_isFalse_0 rfl (lv_at hl 0 rfl) ?_
  refine lv_bipush (v := 6) hx hb dX11_isFalse_1 (by decide) ?_
  refine lv_aload_n hx hb dX11_isFalse_3 rfl (lv_at hl 0 rfl) ?_
  refine gm_3 hx hb hE hM hown w_4_103 dX11_isFalse_4 ?_
  obtain ⟨x_1, r_1, hq_1, hf⟩ := ob_some hf
  refine k_X11_lawOf hx hb hml hown hE hM hS w_5_71 hq_1 (Nat.le_of_ble_eq_true rfl) (Nat.le_of_ble_eq_true rfl) hl.1 (Nat.le_of_ble_eq_true rfl) ⟨Nat.zero_le _, Nat.zero_le _⟩ dX11_isFalse_7 (fun H locs hM hS => ?_)
  refine lv_istore_n (lv' := [(1, .int r_1), (0, .ref (ga G 41))]) hx hb dX11_isFalse_10 rfl hl (by decide) rfl (fun ls hl => ?_)
  refine lv_iconst (v := 0) hx hb dX11_isFalse_11 (by decide) ?_
  refine lv_istore_n (lv' := [(2, .int 0), (1, .int r_1), (0, .ref (ga G 41))]) hx hb dX11_isFalse_12 rfl hl (by decide) rfl (fun ls hl => ?_)
  refine wk_X11_isFalse_13 hx hb hml hown hE hr hlocks ?_ fu x_1 0 _ _ _ hf hM hS (lv_sub hl [2, 1, 0] rfl)
  intro x_6 H locs ls hf hM hS hl
  refine lv_iconst (v := 0) hx hb dX11_isFalse_57 (by decide) ?_
  refine lv_istore_n (lv' := [(2, .int 0), (0, .ref (ga G 41)), (1, .int r_1)]) hx hb dX11_isFalse_58 rfl hl (by decide) rfl (fun ls hl => ?_)
  refine wk_X11_isFalse_59 hx hb hml hown hE hr hlocks ?_ fu x_6 0 _ _ _ hf hM hS (lv_sub hl [1, 2, 0] rfl)
  intro x_18 H locs ls hf hM hS hl
  refine lv_iconst (v := 0) hx hb dX11_isFalse_163 (by decide) ?_
  refine lv_istore_n (lv' := [(2, .int 0), (0, .ref (ga G 41))]) hx hb dX11_isFalse_164 rfl hl (by decide) rfl (fun ls hl => ?_)
  refine wk_X11_isFalse_165 hx hb hml hown hE hr hlocks ?_ fu x_18 0 _ _ _ hf hM hS (lv_sub hl [1, 0] rfl)
  intro x_21 H locs ls hf hM hS hl
  exact rt_vM hx hb hr hf hM hS dX11_isFalse_191 hlocks
theorem k_X11_isFalse {p : Program} {l : Launch} {e : Env} {R : Room} {s : State} {m : MethodId} {args : Array Value} {below : List Frame} {meth : Method} {c : Code} {H : Heap} {locs : List Loc} {cells slots : Nat} {Q : State → Prop} {cc : ByteArray} {pc nL : Nat} {ls : Array Slot} {rest : List Value} {G : GG} {fu nw : Nat} {x x' mo : Me} {own : String} {index : Nat} {r : Unit} (hx : p.tables.exec = Jvm.exec) (hb : c.code = cc) (hml : c.maxLocals = nL) (hown : s.vm.findClass own = some m.cls) (hE : EnvP G s) (hM : MemP G nw mo x H) (hS : va_S (gA G) s.heap H locs) (hw : Cond.methodLink own index yX11_isFalse ∈ lw_tbl) (hf : f_X11_isFalse fu x = some (x', r)) (h1 : 1 + 1 ≤ R.frames) (h2 : 8 + (5 + 11) + 25 ≤ R.locals) (hsz : ls.size = nL) (hW : (rest.map fun v => v.category).sum ≤ 8) (hcs : cells ≤ R.cells ∧ slots ≤ R.slots) (hdg : decode cc pc = .ok (.invokevirtual index, 3)) (kk : ∀ (H1 : Heap) (locs1 : List Loc), MemP G nw mo x' H1 → va_S (gA G) s.heap H1 locs1 → W p l e R s m args below meth c H1 locs1 cells slots Q (F0 m (pc + 3) ls rest)) : W p l e R s m args below meth c H locs cells slots Q (F0 m pc ls (.ref (ga G 41) :: rest)) := mm_kv hS (mm_runV (n := 0) (o := 41) (C := RX11) (T := TX11) (N := 54) (ci := 11) (As := []) hx hb hml hown hE hM hS (c_X11_isFalse l fu nw G x x' mo _ hf) (List.forall_mem_cons.mpr ⟨⟨hw, rfl⟩, List.forall_mem_cons.mpr ⟨⟨w_5_164, rfl⟩, List.forall_mem_cons.mpr ⟨⟨w_0_43, rfl⟩, List.forall_mem_cons.mpr ⟨⟨w_1_11, rfl⟩, List.forall_mem_cons.mpr ⟨⟨w_5_165, rfl⟩, fun _ h => absurd h List.not_mem_nil⟩⟩⟩⟩⟩) rfl rfl ⟨rfl, by decide, by decide, by decide +kernel⟩ ⟨h1, h2⟩ rfl rfl rfl hsz rfl hW hdg hcs) kk
def f_X11_drop_20 (fu : Nat) (b1 : Int32) (k : Me → Int32 → Option (Me × Int32)) : Nat → Me → Int32 → Int32 → Option (Me × Int32)
  | 0 => fun _ _ _ => none
  | n + 1 => fun x a2 a3 => if (x 30 0) ≤ a3 then k x a2 else if inb a3 10 = true then if (x 33 a3.toNatClampNeg) = (x 32 a3.toNatClampNeg) then f_X11_drop_20 fu b1 k n x (a2 + 0) (a3 + 1) else f_X11_drop_20 fu b1 k n x (a2 + 1) (a3 + 1) else none
def f_X11_drop_148 (fu : Nat) (b2 : Int32) (k : Me → Option (Me × Int32)) : Nat → Me → Int32 → Option (Me × Int32)
  | 0 => fun _ _ => none
  | n + 1 => fun x a3 => if (x 30 0) ≤ a3 then k x else if inb a3 10 = true then if inb (x 32 a3.toNatClampNeg) 17 = true then f_X11_drop_148 fu b2 k n (mu (mu (mu (mu (mu (mu (mu x 37 ((x 32 a3.toNatClampNeg).toNatClampNeg) (-(a3 / 4))) 38 ((x 32 a3.toNatClampNeg).toNatClampNeg) (a3 - a3 / 4 * 4)) 39 ((x 32 a3.toNatClampNeg).toNatClampNeg) 0) 40 ((x 32 a3.toNatClampNeg).toNatClampNeg) (vp_nar .boolean 0)) 41 ((x 32 a3.toNatClampNeg).toNatClampNeg) (-1)) 42 ((x 32 a3.toNatClampNeg).toNatClampNeg) 0) 18 ((x 32 a3.toNatClampNeg).toNatClampNeg) (x 3 0)) (a3 + 1) else none else none
def f_X11_drop (fu : Nat) (x : Me) (a1 : Int32) : Option (Me × Int32) := if (x 4 0) = 3 then f_X11_drop_20 fu a1 (fun (x_4 : Me) (a2_4 : Int32) => ob (f_X11_lawOf fu x_4 5 (x_4 3 0)) (fun x_5 r_5 => if a2_4 ≤ r_5 then ob (f_X11_lawOf fu (mu x_5 29 0 a1) 1 (x_5 3 0)) (fun x_6 r_6 => ob (f_X11_lawOf fu (mu x_6 46 0 r_6) 2 (x_6 3 0)) (fun x_7 r_7 => ob (f_X11_lawOf fu (mu x_7 47 0 r_7) 3 (x_7 3 0)) (fun x_8 r_8 => jn (fun (x_9 : Me) (s_9 : Int32) => if z01 s_9 = true then f_X11_drop_148 fu a2_4 (fun (x_14 : Me) => some ((mu x_14 4 0 4), a2_4)) fu (mu (mu (mu (mu x_9 48 0 s_9) 43 0 0) 44 0 0) 45 0 (-1)) 0 else none) (fun j_9 => if r_8 = 1 then j_9 x_8 1 else j_9 x_8 0)))) else ob (f_X11_isFalse fu x_5) (fun x_16 _ => some (x_16, (-1) - a2_4)))) fu (mu x 0 0 0) 0 0 else some ((mu x 0 0 0), (-100))
def rm_X11_drop : Room := { frames := 2, cells := 0, slots := 0, locals := 49 }
set_option maxHeartbeats 4000000 in
set_option maxRecDepth 100000 in
theorem wk_X11_drop_20 {p : Program} {l : Launch} {e : Env} {s : State} {m : MethodId} {args : Array Value} {below : List Frame} {meth : Method} {c : Code} {fu nw : Nat} {G : GG} {mo : Me} {b1 : Int32} (hx : p.tables.exec = Jvm.exec) (hb : c.code = cX11_drop) (hml : c.maxLocals = 5) (hown : s.vm.findClass RX11 = some m.cls) (hE : EnvP G s) (hr : meth.sig.returnType = (some .int)) (hlocks : meth.locks = false) {x' : Me} {r : Int32} {k : Me → Int32 → Option (Me × Int32)} (hk : ∀ (x : Me) (a2 : Int32) (H : Heap) (locs : List Loc) (ls : Array Slot), k x a2 = some (x', r) → MemP G nw mo x H → va_S (gA G) s.heap H locs → lv_has ls 5 [(0, .ref (ga G 41)), (1, .int b1), (2, .int a2)] → W p l e rm_X11_drop s m args below meth c H locs 0 0 (MQ below (PI G nw mo x' r) args s 0 0 (gA G)) (F0 m 57 ls [])) : ∀ (n : Nat) (x : Me) (a2 : Int32) (a3 : Int32) (H : Heap) (locs : List Loc) (ls : Array Slot), f_X11_drop_20 fu b1 k n x a2 a3 = some (x', r) → MemP G nw mo x H → va_S (gA G) s.heap H locs → lv_has ls 5 [(0, .ref (ga G 41)), (1, .int b1), (2, .int a2), (3, .int a3)] → W p l e rm_X11_drop s m args below meth c H locs 0 0 (MQ below (PI G nw mo x' r) args s 0 0 (gA G)) (F0 m 20 ls []) := by
  intro n
  induction n with
  | zero =>
    intro x a2 a3 H locs ls hf hM hS hl
    exact nn hf
  | succ n ih =>
    intro x a2 a3 H locs ls hf hM hS hl
    rw [f_X11_drop_20] at hf
    refine lv_iload_n hx hb dX11_drop_20 rfl (lv_at hl 3 rfl) ?_
    refine lv_aload_n hx hb dX11_drop_21 rfl (lv_at hl 0 rfl) ?_
    refine gm_30 hx hb hE hM hown w_4_130 dX11_drop_22 ?_
    refine lv_icmp_ge (tgt := 57) hx hb dX11_drop_25 (by decide) (fun hc_3 => ?_) (fun hc_3 => ?_)
    · replace hf := i_t hf hc_3
      exact hk x a2 _ _ _ hf hM hS (lv_sub hl [0, 1, 2] rfl)
    · replace hf := i_f hf hc_3
      refine lv_iload_n hx hb dX11_drop_28 rfl (lv_at hl 2 rfl) ?_
      refine lv_aload_n hx hb dX11_drop_29 rfl (lv_at hl 0 rfl) ?_
      refine gr_57 hx hb hE hM hown w_4_133 dX11_drop_30 ?_
      refine lv_iload_n hx hb dX11_drop_33 rfl (lv_at hl 3 rfl) ?_
      obtain ⟨hi_1, hf⟩ := i_n hf
      refine la_57 hx hb hE hM hi_1 dX11_drop_34 ?_
      refine lv_aload_n hx hb dX11_drop_35 rfl (lv_at hl 0 rfl) ?_
      refine gr_56 hx hb hE hM hown w_4_132 dX11_drop_36 ?_
      refine lv_iload_n hx hb dX11_drop_39 rfl (lv_at hl 3 rfl) ?_
      refine la_56 hx hb hE hM hi_1 dX11_drop_40 ?_
      refine lv_icmp_ne (tgt := 48) hx hb dX11_drop_41 (by decide) (fun hc_2 => ?_) (fun hc_2 => ?_)
      · replace hf := i_f hf hc_2
        refine lv_iconst (v := 1) hx hb dX11_drop_48 (by decide) ?_
        refine lv_iadd hx hb dX11_drop_49 ?_
        refine lv_istore_n (lv' := [(2, .int (a2 + 1)), (0, .ref (ga G 41)), (1, .int b1), (3, .int a3)]) hx hb dX11_drop_50 rfl hl (by decide) rfl (fun ls hl => ?_)
        refine lv_iinc (v := a3 + 1) (lv' := [(3, .int (a3 + 1)), (2, .int (a2 + 1)), (0, .ref (ga G 41)), (1, .int b1)]) hx hb dX11_drop_51 hl (k := 3) rfl rfl (by decide) rfl (fun ls hl => ?_)
        refine lv_goto (tgt := 20) hx hb dX11_drop_54 (by decide) ?_
        exact ih x (a2 + 1) (a3 + 1) _ _ _ hf hM hS (lv_sub hl [2, 3, 1, 0] rfl)
      · replace hf := i_t hf hc_2
        refine lv_iconst (v := 0) hx hb dX11_drop_44 (by decide) ?_
        refine lv_goto (tgt := 49) hx hb dX11_drop_45 (by decide) ?_
        refine lv_iadd hx hb dX11_drop_49 ?_
        refine lv_istore_n (lv' := [(2, .int (a2 + 0)), (0, .ref (ga G 41)), (1, .int b1), (3, .int a3)]) hx hb dX11_drop_50 rfl hl (by decide) rfl (fun ls hl => ?_)
        refine lv_iinc (v := a3 + 1) (lv' := [(3, .int (a3 + 1)), (2, .int (a2 + 0)), (0, .ref (ga G 41)), (1, .int b1)]) hx hb dX11_drop_51 hl (k := 3) rfl rfl (by decide) rfl (fun ls hl => ?_)
        refine lv_goto (tgt := 20) hx hb dX11_drop_54 (by decide) ?_
        exact ih x (a2 + 0) (a3 + 1) _ _ _ hf hM hS (lv_sub hl [2, 3, 1, 0] rfl)
set_option maxHeartbeats 4000000 in
set_option maxRecDepth 100000 in
theorem wk_X11_drop_148 {p : Program} {l : Launch} {e : Env} {s : State} {m : MethodId} {args : Array Value} {below : List Frame} {meth : Method} {c : Code} {fu nw : Nat} {G : GG} {mo : Me} {b2 : Int32} (hx : p.tables.exec = Jvm.exec) (hb : c.code = cX11_drop) (hml : c.maxLocals = 5) (hown : s.vm.findClass RX11 = some m.cls) (hE : EnvP G s) (hr : meth.sig.returnType = (some .int)) (hlocks : meth.locks = false) {x' : Me} {r : Int32} {k : Me → Option (Me × Int32)} (hk : ∀ (x : Me) (H : Heap) (locs : List Loc) (ls : Array Slot), k x = some (x', r) → MemP G nw mo x H → va_S (gA G) s.heap H locs → lv_has ls 5 [(0, .ref (ga G 41)), (2, .int b2)] → W p l e rm_X11_drop s m args below meth c H locs 0 0 (MQ below (PI G nw mo x' r) args s 0 0 (gA G)) (F0 m 234 ls [])) : ∀ (n : Nat) (x : Me) (a3 : Int32) (H : Heap) (locs : List Loc) (ls : Array Slot), f_X11_drop_148 fu b2 k n x a3 = some (x', r) → MemP G nw mo x H → va_S (gA G) s.heap H locs → lv_has ls 5 [(0, .ref (ga G 41)), (2, .int b2), (3, .int a3)] → W p l e rm_X11_drop s m args below meth c H locs 0 0 (MQ below (PI G nw mo x' r) args s 0 0 (gA G)) (F0 m 148 ls []) := by
  intro n
  induction n with
  | zero =>
    intro x a3 H locs ls hf hM hS hl
    exact nn hf
  | succ n ih =>
    intro x a3 H locs ls hf hM hS hl
    rw [f_X11_drop_148] at hf
    refine lv_iload_n hx hb dX11_drop_148 rfl (lv_at hl 2 rfl) ?_
    refine lv_aload_n hx hb dX11_drop_149 rfl (lv_at hl 0 rfl) ?_
    refine gm_30 hx hb hE hM hown w_4_130 dX11_drop_150 ?_
    refine lv_icmp_ge (tgt := 234) hx hb dX11_drop_153 (by decide) (fun hc_13 => ?_) (fun hc_13 => ?_)
    · replace hf := i_t hf hc_13
      exact hk x _ _ _ hf hM hS (lv_sub hl [0, 1] rfl)
    · replace hf := i_f hf hc_13
      refine lv_aload_n hx hb dX11_drop_156 rfl (lv_at hl 0 rfl) ?_
      refine gr_56 hx hb hE hM hown w_4_132 dX11_drop_157 ?_
      refine lv_iload_n hx hb dX11_drop_160 rfl (lv_at hl 2 rfl) ?_
      obtain ⟨hi_11, hf⟩ := i_n hf
      refine la_56 hx hb hE hM hi_11 dX11_drop_161 ?_
      refine lv_istore (lv' := [(4, .int (x 32 a3.toNatClampNeg)), (0, .ref (ga G 41)), (2, .int b2), (3, .int a3)]) hx hb dX11_drop_162 hl (by decide) rfl (fun ls hl => ?_)
      refine lv_aload_n hx hb dX11_drop_164 rfl (lv_at hl 1 rfl) ?_
      refine gr_59 hx hb hE hM hown w_4_137 dX11_drop_165 ?_
      refine lv_iload hx hb dX11_drop_168 (lv_at hl 0 rfl) ?_
      refine lv_iload_n hx hb dX11_drop_170 rfl (lv_at hl 3 rfl) ?_
      refine lv_iconst (v := 4) hx hb dX11_drop_171 (by decide) ?_
      refine lv_idiv hx hb dX11_drop_172 (by decide) ?_
      refine lv_ineg hx hb dX11_drop_173 ?_
      obtain ⟨hi_12, hf⟩ := i_n hf
      refine sa_59 hx hb hE hM hS hi_12 dX11_drop_174 (fun H locs hM hS => ?_)
      refine lv_aload_n hx hb dX11_drop_175 rfl (lv_at hl 1 rfl) ?_
      refine gr_60 hx hb hE hM hown w_4_138 dX11_drop_176 ?_
      refine lv_iload hx hb dX11_drop_179 (lv_at hl 0 rfl) ?_
      refine lv_iload_n hx hb dX11_drop_181 rfl (lv_at hl 3 rfl) ?_
      refine lv_iconst (v := 4) hx hb dX11_drop_182 (by decide) ?_
      refine lv_irem hx hb dX11_drop_183 (by decide) ?_
      refine sa_60 hx hb hE hM hS hi_12 dX11_drop_184 (fun H locs hM hS => ?_)
      refine lv_aload_n hx hb dX11_drop_185 rfl (lv_at hl 1 rfl) ?_
      refine gr_61 hx hb hE hM hown w_4_139 dX11_drop_186 ?_
      refine lv_iload hx hb dX11_drop_189 (lv_at hl 0 rfl) ?_
      refine lv_iconst (v := 0) hx hb dX11_drop_191 (by decide) ?_
      refine sa_61 hx hb hE hM hS hi_12 dX11_drop_192 (fun H locs hM hS => ?_)
      refine lv_aload_n hx hb dX11_drop_193 rfl (lv_at hl 1 rfl) ?_
      refine gr_62 hx hb hE hM hown w_4_140 dX11_drop_194 ?_
      refine lv_iload hx hb dX11_drop_197 (lv_at hl 0 rfl) ?_
      refine lv_iconst (v := 0) hx hb dX11_drop_199 (by decide) ?_
      refine sa_62 hx hb hE hM hS hi_12 dX11_drop_200 (fun H locs hM hS => ?_)
      refine lv_aload_n hx hb dX11_drop_201 rfl (lv_at hl 1 rfl) ?_
      refine gr_63 hx hb hE hM hown w_4_141 dX11_drop_202 ?_
      refine lv_iload hx hb dX11_drop_205 (lv_at hl 0 rfl) ?_
      refine lv_iconst (v := (-1)) hx hb dX11_drop_207 (by decide) ?_
      refine sa_63 hx hb hE hM hS hi_12 dX11_drop_208 (fun H locs hM hS => ?_)
      refine lv_aload_n hx hb dX11_drop_209 rfl (lv_at hl 1 rfl) ?_
      refine gr_64 hx hb hE hM hown w_4_142 dX11_drop_210 ?_
      refine lv_iload hx hb dX11_drop_213 (lv_at hl 0 rfl) ?_
      refine lv_iconst (v := 0) hx hb dX11_drop_215 (by decide) ?_
      refine sa_64 hx hb hE hM hS hi_12 dX11_drop_216 (fun H locs hM hS => ?_)
      refine lv_aload_n hx hb dX11_drop_217 rfl (lv_at hl 1 rfl) ?_
      refine gr_45 hx hb hE hM hown w_4_118 dX11_drop_218 ?_
      refine lv_iload hx hb dX11_drop_221 (lv_at hl 0 rfl) ?_
      refine lv_aload_n hx hb dX11_drop_223 rfl (lv_at hl 1 rfl) ?_
      refine gm_3 hx hb hE hM hown w_4_103 dX11_drop_224 ?_
      refine sa_45 hx hb hE hM hS hi_12 dX11_drop_227 (fun H locs hM hS => ?_)
      refine lv_iinc (v := a3 + 1) (lv' := [(3, .int (a3 + 1)), (4, .int (x 32 a3.toNatClampNeg)), (0, .ref (ga G 41)), (2, .int b2)]) hx hb dX11_drop_228 hl (k := 3) rfl rfl (by decide) rfl (fun ls hl => ?_)
      refine lv_goto (tgt := 148) hx hb dX11_drop_231 (by decide) ?_
      exact ih (mu (mu (mu (mu (mu (mu (mu x 37 ((x 32 a3.toNatClampNeg).toNatClampNeg) (-(a3 / 4))) 38 ((x 32 a3.toNatClampNeg).toNatClampNeg) (a3 - a3 / 4 * 4)) 39 ((x 32 a3.toNatClampNeg).toNatClampNeg) 0) 40 ((x 32 a3.toNatClampNeg).toNatClampNeg) (vp_nar .boolean 0)) 41 ((x 32 a3.toNatClampNeg).toNatClampNeg) (-1)) 42 ((x 32 a3.toNatClampNeg).toNatClampNeg) 0) 18 ((x 32 a3.toNatClampNeg).toNatClampNeg) (x 3 0)) (a3 + 1) _ _ _ hf hM hS (lv_sub hl [2, 3, 0] rfl)
set_option maxHeartbeats 4000000 in
set_option maxRecDepth 100000 in
theorem c_X11_drop (l : Launch) (fu nw : Nat) (G : GG) (x x' mo : Me) (a1 : Int32) (r : Int32) (hf : f_X11_drop fu x a1 = some (x', r)) : Met l yX11_drop [.code yX11_drop cX11_drop 5 (some .int)] rm_X11_drop (va_Pc [.ref (ga G 41), .int a1] (Pre G nw mo x)) (PI G nw mo x' r) 0 0 (gA G) := by
  refine mt_ofW (cc := cX11_drop) (maxL := 5) (ret := (some .int)) (by decide +kernel) rfl ?_
  intro p e s m args below meth c s₁ B hml hv
  obtain ⟨rfl, hE, hM⟩ := hv
  have hx := B.exec
  have hb := B.bytes
  have hr := B.returns
  have hown : s.vm.findClass RX11 = some m.cls := findClass_of_methodNamed B.named
  have hlocks := B.notSynchronized
  have hS : va_S (gA G) s.heap s.heap [] := va_S.rf
  have hl := lv_entry ([.ref (ga G 41), .int a1]) (n := 5) (Nat.le_of_ble_eq_true rfl)
  rw [lg_entry_eq]
  generalize (lg_sl ([.ref (ga G 41), .int a1]) ++ List.replicate (5 - (lg_sl ([.ref (ga G 41), .int a1])).length) Slot.unset).toArray = ls at hl ⊢
  have hl : lv_has ls 5 [(0, .ref (ga G 41)), (1, .int a1)] := hl
  generalize ([.ref (ga G 41), .int a1] : List Value).toArray = args
  unfold f_X11_drop at hf
  refine lv_aload_n hx hb dX11_drop_0 rfl (lv_at hl 0 rfl) ?_
  refine lv_iconst (v := 0) hx hb dX11_drop_1 (by decide) ?_
  refine pm_0 hx hb hE hM hS hown w_4_100 dX11_drop_2 (fun H locs hM hS => ?_)
  refine lv_aload_n hx hb dX11_drop_5 rfl (lv_at hl 0 rfl) ?_
  refine gm_4 hx hb hE hM hown w_4_104 dX11_drop_6 ?_
  refine lv_iconst (v := 3) hx hb dX11_drop_9 (by decide) ?_
  refine lv_icmp_eq (tgt := 16) hx hb dX11_drop_10 (by decide) (fun hc_18 => ?_) (fun hc_18 => ?_)
  · replace hf := i_t hf hc_18
    refine lv_iconst (v := 0) hx hb dX11_drop_16 (by decide) ?_
    refine lv_istore_n (lv' := [(2, .int 0), (0, .ref (ga G 41)), (1, .int a1)]) hx hb dX11_drop_17 rfl hl (by decide) rfl (fun ls hl => ?_)
    refine lv_iconst (v := 0) hx hb dX11_drop_18 (by decide) ?_
    refine lv_istore_n (lv' := [(3, .int 0), (2, .int 0), (0, .ref (ga G 41)), (1, .int a1)]) hx hb dX11_drop_19 rfl hl (by decide) rfl (fun ls hl => ?_)
    refine wk_X11_drop_20 hx hb hml hown hE hr hlocks ?_ fu (mu x 0 0 0) 0 0 _ _ _ hf hM hS (lv_sub hl [2, 3, 1, 0] rfl)
    intro x_4 a2_4 H locs ls hf hM hS hl
    refine lv_iload_n hx hb dX11_drop_57 rfl (lv_at hl 2 rfl) ?_
    refine lv_aload_n hx hb dX11_drop_58 rfl (lv_at hl 0 rfl) ?_
    refine lv_iconst (v := 5) hx hb dX11_drop_59 (by decide) ?_
    refine lv_aload_n hx hb dX11_drop_60 rfl (lv_at hl 0 rfl) ?_
    refine gm_3 hx hb hE hM hown w_4_103 dX11_drop_61 ?_
    obtain ⟨x_5, r_5, hq_5, hf⟩ := ob_some hf
    refine k_X11_lawOf hx hb hml hown hE hM hS w_5_71 hq_5 (Nat.le_of_ble_eq_true rfl) (Nat.le_of_ble_eq_true rfl) hl.1 (Nat.le_of_ble_eq_true rfl) ⟨Nat.zero_le _, Nat.zero_le _⟩ dX11_drop_64 (fun H locs hM hS => ?_)
    refine lv_icmp_le (tgt := 78) hx hb dX11_drop_67 (by decide) (fun hc_17 => ?_) (fun hc_17 => ?_)
    · replace hf := i_t hf hc_17
      refine lv_aload_n hx hb dX11_drop_78 rfl (lv_at hl 0 rfl) ?_
      refine lv_iload_n hx hb dX11_drop_79 rfl (lv_at hl 1 rfl) ?_
      refine pm_29 hx hb hE hM hS hown w_4_129 dX11_drop_80 (fun H locs hM hS => ?_)
      refine lv_aload_n hx hb dX11_drop_83 rfl (lv_at hl 0 rfl) ?_
      refine lv_aload_n hx hb dX11_drop_84 rfl (lv_at hl 0 rfl) ?_
      refine lv_iconst (v := 1) hx hb dX11_drop_85 (by decide) ?_
      refine lv_aload_n hx hb dX11_drop_86 rfl (lv_at hl 0 rfl) ?_
      refine gm_3 hx hb hE hM hown w_4_103 dX11_drop_87 ?_
      obtain ⟨x_6, r_6, hq_6, hf⟩ := ob_some hf
      refine k_X11_lawOf hx hb hml hown hE hM hS w_5_71 hq_6 (Nat.le_of_ble_eq_true rfl) (Nat.le_of_ble_eq_true rfl) hl.1 (Nat.le_of_ble_eq_true rfl) ⟨Nat.zero_le _, Nat.zero_le _⟩ dX11_drop_90 (fun H locs hM hS => ?_)
      refine pm_46 hx hb hE hM hS hown w_4_146 dX11_drop_93 (fun H locs hM hS => ?_)
      refine lv_aload_n hx hb dX11_drop_96 rfl (lv_at hl 0 rfl) ?_
      refine lv_aload_n hx hb dX11_drop_97 rfl (lv_at hl 0 rfl) ?_
      refine lv_iconst (v := 2) hx hb dX11_drop_98 (by decide) ?_
      refine lv_aload_n hx hb dX11_drop_99 rfl (lv_at hl 0 rfl) ?_
      refine gm_3 hx hb hE hM hown w_4_103 dX11_drop_100 ?_
      obtain ⟨x_7, r_7, hq_7, hf⟩ := ob_some hf
      refine k_X11_lawOf hx hb hml hown hE hM hS w_5_71 hq_7 (Nat.le_of_ble_eq_true rfl) (Nat.le_of_ble_eq_true rfl) hl.1 (Nat.le_of_ble_eq_true rfl) ⟨Nat.zero_le _, Nat.zero_le _⟩ dX11_drop_103 (fun H locs hM hS => ?_)
      refine pm_47 hx hb hE hM hS hown w_4_147 dX11_drop_106 (fun H locs hM hS => ?_)
      refine lv_aload_n hx hb dX11_drop_109 rfl (lv_at hl 0 rfl) ?_
      refine lv_aload_n hx hb dX11_drop_110 rfl (lv_at hl 0 rfl) ?_
      refine lv_iconst (v := 3) hx hb dX11_drop_111 (by decide) ?_
      refine lv_aload_n hx hb dX11_drop_112 rfl (lv_at hl 0 rfl) ?_
      refine gm_3 hx hb hE hM hown w_4_103 dX11_drop_113 ?_
      obtain ⟨x_8, r_8, hq_8, hf⟩ := ob_some hf
      refine k_X11_lawOf hx hb hml hown hE hM hS w_5_71 hq_8 (Nat.le_of_ble_eq_true rfl) (Nat.le_of_ble_eq_true rfl) hl.1 (Nat.le_of_ble_eq_true rfl) ⟨Nat.zero_le _, Nat.zero_le _⟩ dX11_drop_116 (fun H locs hM hS => ?_)
      refine lv_iconst (v := 1) hx hb dX11_drop_119 (by decide) ?_
      have hj_9 : ∀ (x_9 : Me) (s_9 : Int32) (H : Heap) (locs : List Loc) (ls : Array Slot), jnA hf x_9 s_9 = some (x', r) → MemP G nw mo x_9 H → va_S (gA G) s.heap H locs → lv_has ls 5 [(0, .ref (ga G 41)), (2, .int a2_4)] → W p l e rm_X11_drop s m args below meth c H locs 0 0 (MQ below (PI G nw mo x' r) args s 0 0 (gA G)) (F0 m 128 ls [.int s_9, .ref (ga G 41)]) := by
        intro x_9 s_9 H locs ls hf hM hS hl
        obtain ⟨hz_10, hf⟩ := i_n hf
        refine pm_48 hx hb hE hM hS hown (z01_n hz_10) (z01_f hz_10) w_4_148 dX11_drop_128 (fun H locs hM hS => ?_)
        refine lv_aload_n hx hb dX11_drop_131 rfl (lv_at hl 0 rfl) ?_
        refine lv_iconst (v := 0) hx hb dX11_drop_132 (by decide) ?_
        refine pm_43 hx hb hE hM hS hown w_4_143 dX11_drop_133 (fun H locs hM hS => ?_)
        refine lv_aload_n hx hb dX11_drop_136 rfl (lv_at hl 0 rfl) ?_
        refine lv_iconst (v := 0) hx hb dX11_drop_137 (by decide) ?_
        refine pm_44 hx hb hE hM hS hown w_4_144 dX11_drop_138 (fun H locs hM hS => ?_)
        refine lv_aload_n hx hb dX11_drop_141 rfl (lv_at hl 0 rfl) ?_
        refine lv_iconst (v := (-1)) hx hb dX11_drop_142 (by decide) ?_
        refine pm_45 hx hb hE hM hS hown w_4_145 dX11_drop_143 (fun H locs hM hS => ?_)
        refine lv_iconst (v := 0) hx hb dX11_drop_146 (by decide) ?_
        refine lv_istore_n (lv' := [(3, .int 0), (0, .ref (ga G 41)), (2, .int a2_4)]) hx hb dX11_drop_147 rfl hl (by decide) rfl (fun ls hl => ?_)
        refine wk_X11_drop_148 hx hb hml hown hE hr hlocks ?_ fu (mu (mu (mu (mu x_9 48 0 s_9) 43 0 0) 44 0 0) 45 0 (-1)) 0 _ _ _ hf hM hS (lv_sub hl [1, 2, 0] rfl)
        intro x_14 H locs ls hf hM hS hl
        refine lv_aload_n hx hb dX11_drop_234 rfl (lv_at hl 0 rfl) ?_
        refine lv_iconst (v := 4) hx hb dX11_drop_235 (by decide) ?_
        refine pm_4 hx hb hE hM hS hown w_4_104 dX11_drop_236 (fun H locs hM hS => ?_)
        refine lv_iload_n hx hb dX11_drop_239 rfl (lv_at hl 1 rfl) ?_
        exact rt_iM hx hb hr hf hM hS dX11_drop_240 hlocks
      replace hf := jn_use hf
      refine lv_icmp_ne (tgt := 127) hx hb dX11_drop_120 (by decide) (fun hc_15 => ?_) (fun hc_15 => ?_)
      · replace hf := i_f hf hc_15
        refine lv_iconst (v := 0) hx hb dX11_drop_127 (by decide) ?_
        exact hj_9 x_8 0 _ _ _ hf hM hS (lv_sub hl [0, 2] rfl)
      · replace hf := i_t hf hc_15
        refine lv_iconst (v := 1) hx hb dX11_drop_123 (by decide) ?_
        refine lv_goto (tgt := 128) hx hb dX11_drop_124 (by decide) ?_
        exact hj_9 x_8 1 _ _ _ hf hM hS (lv_sub hl [0, 2] rfl)
    · replace hf := i_f hf hc_17
      refine lv_aload_n hx hb dX11_drop_70 rfl (lv_at hl 0 rfl) ?_
      obtain ⟨x_16, r_16, hq_16, hf⟩ := ob_some hf
      refine k_X11_isFalse hx hb hml hown hE hM hS w_5_162 hq_16 (Nat.le_of_ble_eq_true rfl) (Nat.le_of_ble_eq_true rfl) hl.1 (Nat.le_of_ble_eq_true rfl) ⟨Nat.zero_le _, Nat.zero_le _⟩ dX11_drop_71 (fun H locs hM hS => ?_)
      refine lv_iconst (v := (-1)) hx hb dX11_drop_74 (by decide) ?_
      refine lv_iload_n hx hb dX11_drop_75 rfl (lv_at hl 2 rfl) ?_
      refine lv_isub hx hb dX11_drop_76 ?_
      exact rt_iM hx hb hr hf hM hS dX11_drop_77 hlocks
  · replace hf := i_f hf hc_18
    refine lv_bipush (v := (-100)) hx hb dX11_drop_13 (by decide) ?_
    exact rt_iM hx hb hr hf hM hS dX11_drop_15 hlocks
theorem k_X11_drop {p : Program} {l : Launch} {e : Env} {R : Room} {s : State} {m : MethodId} {args : Array Value} {below : List Frame} {meth : Method} {c : Code} {H : Heap} {locs : List Loc} {cells slots : Nat} {Q : State → Prop} {cc : ByteArray} {pc nL : Nat} {ls : Array Slot} {rest : List Value} {G : GG} {fu nw : Nat} {x x' mo : Me} {own : String} {index : Nat} {a1 : Int32} {r : Int32} (hx : p.tables.exec = Jvm.exec) (hb : c.code = cc) (hml : c.maxLocals = nL) (hown : s.vm.findClass own = some m.cls) (hE : EnvP G s) (hM : MemP G nw mo x H) (hS : va_S (gA G) s.heap H locs) (hw : Cond.methodLink own index yX11_drop ∈ lw_tbl) (hf : f_X11_drop fu x a1 = some (x', r)) (h1 : 2 + 1 ≤ R.frames) (h2 : 8 + (5 + 11) + 49 ≤ R.locals) (hsz : ls.size = nL) (hW : (rest.map fun v => v.category).sum ≤ 8) (hcs : cells ≤ R.cells ∧ slots ≤ R.slots) (hdg : decode cc pc = .ok (.invokevirtual index, 3)) (kk : ∀ (H1 : Heap) (locs1 : List Loc), MemP G nw mo x' H1 → va_S (gA G) s.heap H1 locs1 → W p l e R s m args below meth c H1 locs1 cells slots Q (F0 m (pc + 3) ls (.int r :: rest))) : W p l e R s m args below meth c H locs cells slots Q (F0 m pc ls (.int a1 :: .ref (ga G 41) :: rest)) := mm_ki hS (mm_runV (n := 1) (o := 41) (C := RX11) (T := TX11) (N := 54) (ci := 11) (As := [.int a1]) hx hb hml hown hE hM hS (c_X11_drop l fu nw G x x' mo a1 _ hf) (List.forall_mem_cons.mpr ⟨⟨hw, rfl⟩, List.forall_mem_cons.mpr ⟨⟨w_5_159, rfl⟩, List.forall_mem_cons.mpr ⟨⟨w_5_160, rfl⟩, List.forall_mem_cons.mpr ⟨⟨w_1_11, rfl⟩, List.forall_mem_cons.mpr ⟨⟨w_5_161, rfl⟩, fun _ h => absurd h List.not_mem_nil⟩⟩⟩⟩⟩) rfl rfl ⟨rfl, by decide, by decide, by decide +kernel⟩ ⟨h1, h2⟩ rfl rfl rfl hsz rfl hW hdg hcs) kk
def f_X11_isOn (fu : Nat) (x : Me) (a1 : Int32) : Option (Me × Int32) := if inb a1 17 = true then if (x 23 a1.toNatClampNeg) = 0 then some (x, 0) else if (x 41 a1.toNatClampNeg) = (-1) then some (x, 1) else some (x, 0) else none
def rm_X11_isOn : Room := { frames := 0, cells := 0, slots := 0, locals := 0 }
set_option maxHeartbeats 4000000 in
set_option maxRecDepth 100000 in
theorem c_X11_isOn (l : Launch) (fu nw : Nat) (G : GG) (x x' mo : Me) (a1 : Int32) (r : Int32) (hf : f_X11_isOn fu x a1 = some (x', r)) : Met l yX11_isOn [.code yX11_isOn cX11_isOn 2 (some .boolean)] rm_X11_isOn (va_Pc [.ref (ga G 41), .int a1] (Pre G nw mo x)) (PI G nw mo x' r) 0 0 (gA G) := by
  refine mt_ofW (cc := cX11_isOn) (maxL := 2) (ret := (some .boolean)) (by decide +kernel) rfl ?_
  intro p e s m args below meth c s₁ B hml hv
  obtain ⟨rfl, hE, hM⟩ := hv
  have hx := B.exec
  have hb := B.bytes
  have hr := B.returns
  have hown : s.vm.findClass RX11 = some m.cls := findClass_of_methodNamed B.named
  have hlocks := B.notSynchronized
  have hS : va_S (gA G) s.heap s.heap [] := va_S.rf
  have hl := lv_entry ([.ref (ga G 41), .int a1]) (n := 2) (Nat.le_of_ble_eq_true rfl)
  rw [lg_entry_eq]
  generalize (lg_sl ([.ref (ga G 41), .int a1]) ++ List.replicate (2 - (lg_sl ([.ref (ga G 41), .int a1])).length) Slot.unset).toArray = ls at hl ⊢
  have hl : lv_has ls 2 [(0, .ref (ga G 41)), (1, .int a1)] := hl
  generalize ([.ref (ga G 41), .int a1] : List Value).toArray = args
  unfold f_X11_isOn at hf
  refine lv_aload_n hx hb dX11_isOn_0 rfl (lv_at hl 0 rfl) ?_
  refine gr_50 hx hb hE hM hown w_4_123 dX11_isOn_1 ?_
  refine lv_iload_n hx hb dX11_isOn_4 rfl (lv_at hl 1 rfl) ?_
  obtain ⟨hi_1, hf⟩ := i_n hf
  refine la_50 hx hb hE hM hi_1 dX11_isOn_5 ?_
  refine lv_if_eq (tgt := 23) hx hb dX11_isOn_6 (by decide) (fun hc_3 => ?_) (fun hc_3 => ?_)
  · replace hf := i_t hf hc_3
    refine lv_iconst (v := 0) hx hb dX11_isOn_23 (by decide) ?_
    exact rt_zM hx hb hr rfl hf hM hS dX11_isOn_24 hlocks
  · replace hf := i_f hf hc_3
    refine lv_aload_n hx hb dX11_isOn_9 rfl (lv_at hl 0 rfl) ?_
    refine gr_63 hx hb hE hM hown w_4_141 dX11_isOn_10 ?_
    refine lv_iload_n hx hb dX11_isOn_13 rfl (lv_at hl 1 rfl) ?_
    refine la_63 hx hb hE hM hi_1 dX11_isOn_14 ?_
    refine lv_iconst (v := (-1)) hx hb dX11_isOn_15 (by decide) ?_
    refine lv_icmp_ne (tgt := 23) hx hb dX11_isOn_16 (by decide) (fun hc_2 => ?_) (fun hc_2 => ?_)
    · replace hf := i_f hf hc_2
      refine lv_iconst (v := 0) hx hb dX11_isOn_23 (by decide) ?_
      exact rt_zM hx hb hr rfl hf hM hS dX11_isOn_24 hlocks
    · replace hf := i_t hf hc_2
      refine lv_iconst (v := 1) hx hb dX11_isOn_19 (by decide) ?_
      refine lv_goto (tgt := 24) hx hb dX11_isOn_20 (by decide) ?_
      exact rt_zM hx hb hr rfl hf hM hS dX11_isOn_24 hlocks
theorem k_X11_isOn {p : Program} {l : Launch} {e : Env} {R : Room} {s : State} {m : MethodId} {args : Array Value} {below : List Frame} {meth : Method} {c : Code} {H : Heap} {locs : List Loc} {cells slots : Nat} {Q : State → Prop} {cc : ByteArray} {pc nL : Nat} {ls : Array Slot} {rest : List Value} {G : GG} {fu nw : Nat} {x x' mo : Me} {own : String} {index : Nat} {a1 : Int32} {r : Int32} (hx : p.tables.exec = Jvm.exec) (hb : c.code = cc) (hml : c.maxLocals = nL) (hown : s.vm.findClass own = some m.cls) (hE : EnvP G s) (hM : MemP G nw mo x H) (hS : va_S (gA G) s.heap H locs) (hw : Cond.methodLink own index yX11_isOn ∈ lw_tbl) (hf : f_X11_isOn fu x a1 = some (x', r)) (h1 : 0 + 1 ≤ R.frames) (h2 : 8 + (2 + 11) + 0 ≤ R.locals) (hsz : ls.size = nL) (hW : (rest.map fun v => v.category).sum ≤ 8) (hcs : cells ≤ R.cells ∧ slots ≤ R.slots) (hdg : decode cc pc = .ok (.invokevirtual index, 3)) (kk : ∀ (H1 : Heap) (locs1 : List Loc), MemP G nw mo x' H1 → va_S (gA G) s.heap H1 locs1 → W p l e R s m args below meth c H1 locs1 cells slots Q (F0 m (pc + 3) ls (.int r :: rest))) : W p l e R s m args below meth c H locs cells slots Q (F0 m pc ls (.int a1 :: .ref (ga G 41) :: rest)) := mm_ki hS (mm_runV (n := 1) (o := 41) (C := RX11) (T := TX11) (N := 54) (ci := 11) (As := [.int a1]) hx hb hml hown hE hM hS (c_X11_isOn l fu nw G x x' mo a1 _ hf) (List.forall_mem_cons.mpr ⟨⟨hw, rfl⟩, List.forall_mem_cons.mpr ⟨⟨w_5_176, rfl⟩, List.forall_mem_cons.mpr ⟨⟨w_0_45, rfl⟩, List.forall_mem_cons.mpr ⟨⟨w_1_11, rfl⟩, List.forall_mem_cons.mpr ⟨⟨w_5_177, rfl⟩, fun _ h => absurd h List.not_mem_nil⟩⟩⟩⟩⟩) rfl rfl ⟨rfl, by decide, by decide, by decide +kernel⟩ ⟨h1, h2⟩ rfl rfl rfl hsz rfl hW hdg hcs) kk
def f_X11_cellOf (fu : Nat) (x : Me) (a1 : Int32) : Option (Me × Int32) := if ¬ (x 35 0) = 0 then some (x, (a1 + (x 35 0)) - (a1 + (x 35 0)) / (x 35 0) * (x 35 0)) else none
def rm_X11_cellOf : Room := { frames := 0, cells := 0, slots := 0, locals := 0 }
set_option maxHeartbeats 4000000 in
set_option maxRecDepth 100000 in
theorem c_X11_cellOf (l : Launch) (fu nw : Nat) (G : GG) (x x' mo : Me) (a1 : Int32) (r : Int32) (hf : f_X11_cellOf fu x a1 = some (x', r)) : Met l yX11_cellOf [.code yX11_cellOf cX11_cellOf 2 (some .int)] rm_X11_cellOf (va_Pc [.ref (ga G 41), .int a1] (Pre G nw mo x)) (PI G nw mo x' r) 0 0 (gA G) := by
  refine mt_ofW (cc := cX11_cellOf) (maxL := 2) (ret := (some .int)) (by decide +kernel) rfl ?_
  intro p e s m args below meth c s₁ B hml hv
  obtain ⟨rfl, hE, hM⟩ := hv
  have hx := B.exec
  have hb := B.bytes
  have hr := B.returns
  have hown : s.vm.findClass RX11 = some m.cls := findClass_of_methodNamed B.named
  have hlocks := B.notSynchronized
  have hS : va_S (gA G) s.heap s.heap [] := va_S.rf
  have hl := lv_entry ([.ref (ga G 41), .int a1]) (n := 2) (Nat.le_of_ble_eq_true rfl)
  rw [lg_entry_eq]
  generalize (lg_sl ([.ref (ga G 41), .int a1]) ++ List.replicate (2 - (lg_sl ([.ref (ga G 41), .int a1])).length) Slot.unset).toArray = ls at hl ⊢
  have hl : lv_has ls 2 [(0, .ref (ga G 41)), (1, .int a1)] := hl
  generalize ([.ref (ga G 41), .int a1] : List Value).toArray = args
  unfold f_X11_cellOf at hf
  refine lv_iload_n hx hb dX11_cellOf_0 rfl (lv_at hl 1 rfl) ?_
  refine lv_aload_n hx hb dX11_cellOf_1 rfl (lv_at hl 0 rfl) ?_
  refine gm_35 hx hb hE hM hown w_4_135 dX11_cellOf_2 ?_
  refine lv_iadd hx hb dX11_cellOf_5 ?_
  refine lv_aload_n hx hb dX11_cellOf_6 rfl (lv_at hl 0 rfl) ?_
  refine gm_35 hx hb hE hM hown w_4_135 dX11_cellOf_7 ?_
  obtain ⟨hn_1, hf⟩ := i_n hf
  refine lv_irem hx hb dX11_cellOf_10 hn_1 ?_
  exact rt_iM hx hb hr hf hM hS dX11_cellOf_11 hlocks
theorem k_X11_cellOf {p : Program} {l : Launch} {e : Env} {R : Room} {s : State} {m : MethodId} {args : Array Value} {below : List Frame} {meth : Method} {c : Code} {H : Heap} {locs : List Loc} {cells slots : Nat} {Q : State → Prop} {cc : ByteArray} {pc nL : Nat} {ls : Array Slot} {rest : List Value} {G : GG} {fu nw : Nat} {x x' mo : Me} {own : String} {index : Nat} {a1 : Int32} {r : Int32} (hx : p.tables.exec = Jvm.exec) (hb : c.code = cc) (hml : c.maxLocals = nL) (hown : s.vm.findClass own = some m.cls) (hE : EnvP G s) (hM : MemP G nw mo x H) (hS : va_S (gA G) s.heap H locs) (hw : Cond.methodLink own index yX11_cellOf ∈ lw_tbl) (hf : f_X11_cellOf fu x a1 = some (x', r)) (h1 : 0 + 1 ≤ R.frames) (h2 : 8 + (2 + 11) + 0 ≤ R.locals) (hsz : ls.size = nL) (hW : (rest.map fun v => v.category).sum ≤ 8) (hcs : cells ≤ R.cells ∧ slots ≤ R.slots) (hdg : decode cc pc = .ok (.invokevirtual index, 3)) (kk : ∀ (H1 : Heap) (locs1 : List Loc), MemP G nw mo x' H1 → va_S (gA G) s.heap H1 locs1 → W p l e R s m args below meth c H1 locs1 cells slots Q (F0 m (pc + 3) ls (.int r :: rest))) : W p l e R s m args below meth c H locs cells slots Q (F0 m pc ls (.int a1 :: .ref (ga G 41) :: rest)) := mm_ki hS (mm_runV (n := 1) (o := 41) (C := RX11) (T := TX11) (N := 54) (ci := 11) (As := [.int a1]) hx hb hml hown hE hM hS (c_X11_cellOf l fu nw G x x' mo a1 _ hf) (List.forall_mem_cons.mpr ⟨⟨hw, rfl⟩, List.forall_mem_cons.mpr ⟨⟨w_5_196, rfl⟩, List.forall_mem_cons.mpr ⟨⟨w_0_50, rfl⟩, List.forall_mem_cons.mpr ⟨⟨w_1_11, rfl⟩, List.forall_mem_cons.mpr ⟨⟨w_5_197, rfl⟩, fun _ h => absurd h List.not_mem_nil⟩⟩⟩⟩⟩) rfl rfl ⟨rfl, by decide, by decide, by decide +kernel⟩ ⟨h1, h2⟩ rfl rfl rfl hsz rfl hW hdg hcs) kk
def f_X11_isFree_2 (fu : Nat) (b1 : Int32) (b2 : Int32) (k : Me → Option (Me × Int32)) : Nat → Me → Int32 → Option (Me × Int32)
  | 0 => fun _ _ => none
  | n + 1 => fun x a3 => if (x 17 0) ≤ a3 then k x else ob (f_X11_isOn fu x a3) (fun x_1 r_1 => if r_1 = 0 then f_X11_isFree_2 fu b1 b2 k n x_1 (a3 + 1) else if inb a3 17 = true then if (x_1 38 a3.toNatClampNeg) = b2 then ob (f_X11_cellOf fu x_1 (x_1 37 a3.toNatClampNeg)) (fun x_3 r_3 => ob (f_X11_cellOf fu x_3 b1) (fun x_4 r_4 => if r_3 = r_4 then some (x_4, 0) else f_X11_isFree_2 fu b1 b2 k n x_4 (a3 + 1))) else f_X11_isFree_2 fu b1 b2 k n x_1 (a3 + 1) else none)
def f_X11_isFree (fu : Nat) (x : Me) (a1 : Int32) (a2 : Int32) : Option (Me × Int32) := f_X11_isFree_2 fu a1 a2 (fun (x_9 : Me) => some (x_9, 1)) fu x 0
def rm_X11_isFree : Room := { frames := 1, cells := 0, slots := 0, locals := 21 }
set_option maxHeartbeats 4000000 in
set_option maxRecDepth 100000 in
theorem wk_X11_isFree_2 {p : Program} {l : Launch} {e : Env} {s : State} {m : MethodId} {args : Array Value} {below : List Frame} {meth : Method} {c : Code} {fu nw : Nat} {G : GG} {mo : Me} {b1 : Int32} {b2 : Int32} (hx : p.tables.exec = Jvm.exec) (hb : c.code = cX11_isFree) (hml : c.maxLocals = 4) (hown : s.vm.findClass RX11 = some m.cls) (hE : EnvP G s) (hr : meth.sig.returnType = (some .boolean)) (hlocks : meth.locks = false) {x' : Me} {r : Int32} {k : Me → Option (Me × Int32)} (hk : ∀ (x : Me) (H : Heap) (locs : List Loc) (ls : Array Slot), k x = some (x', r) → MemP G nw mo x H → va_S (gA G) s.heap H locs → lv_has ls 4 [] → W p l e rm_X11_isFree s m args below meth c H locs 0 0 (MQ below (PI G nw mo x' r) args s 0 0 (gA G)) (F0 m 54 ls [])) : ∀ (n : Nat) (x : Me) (a3 : Int32) (H : Heap) (locs : List Loc) (ls : Array Slot), f_X11_isFree_2 fu b1 b2 k n x a3 = some (x', r) → MemP G nw mo x H → va_S (gA G) s.heap H locs → lv_has ls 4 [(0, .ref (ga G 41)), (1, .int b1), (2, .int b2), (3, .int a3)] → W p l e rm_X11_isFree s m args below meth c H locs 0 0 (MQ below (PI G nw mo x' r) args s 0 0 (gA G)) (F0 m 2 ls []) := by
  intro n
  induction n with
  | zero =>
    intro x a3 H locs ls hf hM hS hl
    exact nn hf
  | succ n ih =>
    intro x a3 H locs ls hf hM hS hl
    rw [f_X11_isFree_2] at hf
    refine lv_iload_n hx hb dX11_isFree_2 rfl (lv_at hl 3 rfl) ?_
    refine lv_aload_n hx hb dX11_isFree_3 rfl (lv_at hl 0 rfl) ?_
    refine gm_17 hx hb hE hM hown w_4_117 dX11_isFree_4 ?_
    refine lv_icmp_ge (tgt := 54) hx hb dX11_isFree_7 (by decide) (fun hc_8 => ?_) (fun hc_8 => ?_)
    · replace hf := i_t hf hc_8
      exact hk x _ _ _ hf hM hS (lv_sub hl [] rfl)
    · replace hf := i_f hf hc_8
      refine lv_aload_n hx hb dX11_isFree_10 rfl (lv_at hl 0 rfl) ?_
      refine lv_iload_n hx hb dX11_isFree_11 rfl (lv_at hl 3 rfl) ?_
      obtain ⟨x_1, r_1, hq_1, hf⟩ := ob_some hf
      refine k_X11_isOn hx hb hml hown hE hM hS w_5_174 hq_1 (Nat.le_of_ble_eq_true rfl) (Nat.le_of_ble_eq_true rfl) hl.1 (Nat.le_of_ble_eq_true rfl) ⟨Nat.zero_le _, Nat.zero_le _⟩ dX11_isFree_12 (fun H locs hM hS => ?_)
      refine lv_if_eq (tgt := 48) hx hb dX11_isFree_15 (by decide) (fun hc_7 => ?_) (fun hc_7 => ?_)
      · replace hf := i_t hf hc_7
        refine lv_iinc (v := a3 + 1) (lv' := [(3, .int (a3 + 1)), (0, .ref (ga G 41)), (1, .int b1), (2, .int b2)]) hx hb dX11_isFree_48 hl (k := 3) rfl rfl (by decide) rfl (fun ls hl => ?_)
        refine lv_goto (tgt := 2) hx hb dX11_isFree_51 (by decide) ?_
        exact ih x_1 (a3 + 1) _ _ _ hf hM hS (lv_sub hl [1, 2, 3, 0] rfl)
      · replace hf := i_f hf hc_7
        refine lv_aload_n hx hb dX11_isFree_18 rfl (lv_at hl 0 rfl) ?_
        refine gr_60 hx hb hE hM hown w_4_138 dX11_isFree_19 ?_
        refine lv_iload_n hx hb dX11_isFree_22 rfl (lv_at hl 3 rfl) ?_
        obtain ⟨hi_2, hf⟩ := i_n hf
        refine la_60 hx hb hE hM hi_2 dX11_isFree_23 ?_
        refine lv_iload_n hx hb dX11_isFree_24 rfl (lv_at hl 2 rfl) ?_
        refine lv_icmp_ne (tgt := 48) hx hb dX11_isFree_25 (by decide) (fun hc_6 => ?_) (fun hc_6 => ?_)
        · replace hf := i_f hf hc_6
          refine lv_iinc (v := a3 + 1) (lv' := [(3, .int (a3 + 1)), (0, .ref (ga G 41)), (1, .int b1), (2, .int b2)]) hx hb dX11_isFree_48 hl (k := 3) rfl rfl (by decide) rfl (fun ls hl => ?_)
          refine lv_goto (tgt := 2) hx hb dX11_isFree_51 (by decide) ?_
          exact ih x_1 (a3 + 1) _ _ _ hf hM hS (lv_sub hl [1, 2, 3, 0] rfl)
        · replace hf := i_t hf hc_6
          refine lv_aload_n hx hb dX11_isFree_28 rfl (lv_at hl 0 rfl) ?_
          refine lv_aload_n hx hb dX11_isFree_29 rfl (lv_at hl 0 rfl) ?_
          refine gr_59 hx hb hE hM hown w_4_137 dX11_isFree_30 ?_
          refine lv_iload_n hx hb dX11_isFree_33 rfl (lv_at hl 3 rfl) ?_
          refine la_59 hx hb hE hM hi_2 dX11_isFree_34 ?_
          obtain ⟨x_3, r_3, hq_3, hf⟩ := ob_some hf
          refine k_X11_cellOf hx hb hml hown hE hM hS w_5_194 hq_3 (Nat.le_of_ble_eq_true rfl) (Nat.le_of_ble_eq_true rfl) hl.1 (Nat.le_of_ble_eq_true rfl) ⟨Nat.zero_le _, Nat.zero_le _⟩ dX11_isFree_35 (fun H locs hM hS => ?_)
          refine lv_aload_n hx hb dX11_isFree_38 rfl (lv_at hl 0 rfl) ?_
          refine lv_iload_n hx hb dX11_isFree_39 rfl (lv_at hl 1 rfl) ?_
          obtain ⟨x_4, r_4, hq_4, hf⟩ := ob_some hf
          refine k_X11_cellOf hx hb hml hown hE hM hS w_5_194 hq_4 (Nat.le_of_ble_eq_true rfl) (Nat.le_of_ble_eq_true rfl) hl.1 (Nat.le_of_ble_eq_true rfl) ⟨Nat.zero_le _, Nat.zero_le _⟩ dX11_isFree_40 (fun H locs hM hS => ?_)
          refine lv_icmp_ne (tgt := 48) hx hb dX11_isFree_43 (by decide) (fun hc_5 => ?_) (fun hc_5 => ?_)
          · replace hf := i_f hf hc_5
            refine lv_iinc (v := a3 + 1) (lv' := [(3, .int (a3 + 1)), (0, .ref (ga G 41)), (1, .int b1), (2, .int b2)]) hx hb dX11_isFree_48 hl (k := 3) rfl rfl (by decide) rfl (fun ls hl => ?_)
            refine lv_goto (tgt := 2) hx hb dX11_isFree_51 (by decide) ?_
            exact ih x_4 (a3 + 1) _ _ _ hf hM hS (lv_sub hl [1, 2, 3, 0] rfl)
          · replace hf := i_t hf hc_5
            refine lv_iconst (v := 0) hx hb dX11_isFree_46 (by decide) ?_
            exact rt_zM hx hb hr rfl hf hM hS dX11_isFree_47 hlocks
set_option maxHeartbeats 4000000 in
set_option maxRecDepth 100000 in
theorem c_X11_isFree (l : Launch) (fu nw : Nat) (G : GG) (x x' mo : Me) (a1 : Int32) (a2 : Int32) (r : Int32) (hf : f_X11_isFree fu x a1 a2 = some (x', r)) : Met l yX11_isFree [.code yX11_isFree cX11_isFree 4 (some .boolean)] rm_X11_isFree (va_Pc [.ref (ga G 41), .int a1, .int a2] (Pre G nw mo x)) (PI G nw mo x' r) 0 0 (gA G) := by
  refine mt_ofW (cc := cX11_isFree) (maxL := 4) (ret := (some .boolean)) (by decide +kernel) rfl ?_
  intro p e s m args below meth c s₁ B hml hv
  obtain ⟨rfl, hE, hM⟩ := hv
  have hx := B.exec
  have hb := B.bytes
  have hr := B.returns
  have hown : s.vm.findClass RX11 = some m.cls := findClass_of_methodNamed B.named
  have hlocks := B.notSynchronized
  have hS : va_S (gA G) s.heap s.heap [] := va_S.rf
  have hl := lv_entry ([.ref (ga G 41), .int a1, .int a2]) (n := 4) (Nat.le_of_ble_eq_true rfl)
  rw [lg_entry_eq]
  generalize (lg_sl ([.ref (ga G 41), .int a1, .int a2]) ++ List.replicate (4 - (lg_sl ([.ref (ga G 41), .int a1, .int a2])).length) Slot.unset).toArray = ls at hl ⊢
  have hl : lv_has ls 4 [(0, .ref (ga G 41)), (1, .int a1), (2, .int a2)] := hl
  generalize ([.ref (ga G 41), .int a1, .int a2] : List Value).toArray = args
  unfold f_X11_isFree at hf
  refine lv_iconst (v := 0) hx hb dX11_isFree_0 (by decide) ?_
  refine lv_istore_n (lv' := [(3, .int 0), (0, .ref (ga G 41)), (1, .int a1), (2, .int a2)]) hx hb dX11_isFree_1 rfl hl (by decide) rfl (fun ls hl => ?_)
  refine wk_X11_isFree_2 hx hb hml hown hE hr hlocks ?_ fu x 0 _ _ _ hf hM hS (lv_sub hl [1, 2, 3, 0] rfl)
  intro x_9 H locs ls hf hM hS hl
  refine lv_iconst (v := 1) hx hb dX11_isFree_54 (by decide) ?_
  exact rt_zM hx hb hr rfl hf hM hS dX11_isFree_55 hlocks
theorem k_X11_isFree {p : Program} {l : Launch} {e : Env} {R : Room} {s : State} {m : MethodId} {args : Array Value} {below : List Frame} {meth : Method} {c : Code} {H : Heap} {locs : List Loc} {cells slots : Nat} {Q : State → Prop} {cc : ByteArray} {pc nL : Nat} {ls : Array Slot} {rest : List Value} {G : GG} {fu nw : Nat} {x x' mo : Me} {own : String} {index : Nat} {a1 : Int32} {a2 : Int32} {r : Int32} (hx : p.tables.exec = Jvm.exec) (hb : c.code = cc) (hml : c.maxLocals = nL) (hown : s.vm.findClass own = some m.cls) (hE : EnvP G s) (hM : MemP G nw mo x H) (hS : va_S (gA G) s.heap H locs) (hw : Cond.methodLink own index yX11_isFree ∈ lw_tbl) (hf : f_X11_isFree fu x a1 a2 = some (x', r)) (h1 : 1 + 1 ≤ R.frames) (h2 : 8 + (4 + 11) + 21 ≤ R.locals) (hsz : ls.size = nL) (hW : (rest.map fun v => v.category).sum ≤ 8) (hcs : cells ≤ R.cells ∧ slots ≤ R.slots) (hdg : decode cc pc = .ok (.invokevirtual index, 3)) (kk : ∀ (H1 : Heap) (locs1 : List Loc), MemP G nw mo x' H1 → va_S (gA G) s.heap H1 locs1 → W p l e R s m args below meth c H1 locs1 cells slots Q (F0 m (pc + 3) ls (.int r :: rest))) : W p l e R s m args below meth c H locs cells slots Q (F0 m pc ls (.int a2 :: .int a1 :: .ref (ga G 41) :: rest)) := mm_ki hS (mm_runV (n := 2) (o := 41) (C := RX11) (T := TX11) (N := 54) (ci := 11) (As := [.int a1, .int a2]) hx hb hml hown hE hM hS (c_X11_isFree l fu nw G x x' mo a1 a2 _ hf) (List.forall_mem_cons.mpr ⟨⟨hw, rfl⟩, List.forall_mem_cons.mpr ⟨⟨w_5_192, rfl⟩, List.forall_mem_cons.mpr ⟨⟨w_0_49, rfl⟩, List.forall_mem_cons.mpr ⟨⟨w_1_11, rfl⟩, List.forall_mem_cons.mpr ⟨⟨w_5_193, rfl⟩, fun _ h => absurd h List.not_mem_nil⟩⟩⟩⟩⟩) rfl rfl ⟨rfl, by decide, by decide, by decide +kernel⟩ ⟨h1, h2⟩ rfl rfl rfl hsz rfl hW hdg hcs) kk
def f_X11_isLane (fu : Nat) (x : Me) (a0 : Int32) : Option (Me × Int32) := if a0 < 0 then some (x, 0) else if 3 < a0 then some (x, 0) else some (x, 1)
def rm_X11_isLane : Room := { frames := 0, cells := 0, slots := 0, locals := 0 }
set_option maxHeartbeats 4000000 in
set_option maxRecDepth 100000 in
theorem c_X11_isLane (l : Launch) (fu nw : Nat) (G : GG) (x x' mo : Me) (a0 : Int32) (r : Int32) (hf : f_X11_isLane fu x a0 = some (x', r)) : Met l yX11_isLane [.code yX11_isLane cX11_isLane 1 (some .boolean)] rm_X11_isLane (va_Pc [.int a0] (Pre G nw mo x)) (PI G nw mo x' r) 0 0 (gA G) := by
  refine mt_ofW (cc := cX11_isLane) (maxL := 1) (ret := (some .boolean)) (by decide +kernel) rfl ?_
  intro p e s m args below meth c s₁ B hml hv
  obtain ⟨rfl, hE, hM⟩ := hv
  have hx := B.exec
  have hb := B.bytes
  have hr := B.returns
  have hown : s.vm.findClass RX11 = some m.cls := findClass_of_methodNamed B.named
  have hlocks := B.notSynchronized
  have hS : va_S (gA G) s.heap s.heap [] := va_S.rf
  have hl := lv_entry ([.int a0]) (n := 1) (Nat.le_of_ble_eq_true rfl)
  rw [lg_entry_eq]
  generalize (lg_sl ([.int a0]) ++ List.replicate (1 - (lg_sl ([.int a0])).length) Slot.unset).toArray = ls at hl ⊢
  have hl : lv_has ls 1 [(0, .int a0)] := hl
  generalize ([.int a0] : List Value).toArray = args
  unfold f_X11_isLane at hf
  refine lv_iload_n hx hb dX11_isLane_0 rfl (lv_at hl 0 rfl) ?_
  refine lv_if_lt (tgt := 13) hx hb dX11_isLane_1 (by decide) (fun hc_2 => ?_) (fun hc_2 => ?_)
  · replace hf := i_t hf hc_2
    refine lv_iconst (v := 0) hx hb dX11_isLane_13 (by decide) ?_
    exact rt_zM hx hb hr rfl hf hM hS dX11_isLane_14 hlocks
  · replace hf := i_f hf hc_2
    refine lv_iload_n hx hb dX11_isLane_4 rfl (lv_at hl 0 rfl) ?_
    refine lv_iconst (v := 3) hx hb dX11_isLane_5 (by decide) ?_
    refine lv_icmp_gt (tgt := 13) hx hb dX11_isLane_6 (by decide) (fun hc_1 => ?_) (fun hc_1 => ?_)
    · replace hf := i_t hf hc_1
      refine lv_iconst (v := 0) hx hb dX11_isLane_13 (by decide) ?_
      exact rt_zM hx hb hr rfl hf hM hS dX11_isLane_14 hlocks
    · replace hf := i_f hf hc_1
      refine lv_iconst (v := 1) hx hb dX11_isLane_9 (by decide) ?_
      refine lv_goto (tgt := 14) hx hb dX11_isLane_10 (by decide) ?_
      exact rt_zM hx hb hr rfl hf hM hS dX11_isLane_14 hlocks
theorem k_X11_isLane {p : Program} {l : Launch} {e : Env} {R : Room} {s : State} {m : MethodId} {args : Array Value} {below : List Frame} {meth : Method} {c : Code} {H : Heap} {locs : List Loc} {cells slots : Nat} {Q : State → Prop} {cc : ByteArray} {pc nL : Nat} {ls : Array Slot} {rest : List Value} {G : GG} {fu nw : Nat} {x x' mo : Me} {own : String} {index : Nat} {a0 : Int32} {r : Int32} (hx : p.tables.exec = Jvm.exec) (hb : c.code = cc) (hml : c.maxLocals = nL) (hown : s.vm.findClass own = some m.cls) (hE : EnvP G s) (hM : MemP G nw mo x H) (hS : va_S (gA G) s.heap H locs) (hw : Cond.methodLink own index yX11_isLane ∈ lw_tbl) (hf : f_X11_isLane fu x a0 = some (x', r)) (h1 : 0 + 1 ≤ R.frames) (h2 : 8 + (1 + 11) + 0 ≤ R.locals) (hsz : ls.size = nL) (hW : (rest.map fun v => v.category).sum ≤ 8) (hcs : cells ≤ R.cells ∧ slots ≤ R.slots) (hdg : decode cc pc = .ok (.invokestatic index, 3)) (kk : ∀ (H1 : Heap) (locs1 : List Loc), MemP G nw mo x' H1 → va_S (gA G) s.heap H1 locs1 → W p l e R s m args below meth c H1 locs1 cells slots Q (F0 m (pc + 3) ls (.int r :: rest))) : W p l e R s m args below meth c H locs cells slots Q (F0 m pc ls (.int a0 :: rest)) := mm_ki hS (mm_runS (n := 1) (As := [.int a0]) hx hb hml hown hE hM hS (c_X11_isLane l fu nw G x x' mo a0 _ hf) (List.forall_mem_cons.mpr ⟨⟨hw, rfl⟩, List.forall_mem_cons.mpr ⟨⟨w_5_199, rfl⟩, List.forall_mem_cons.mpr ⟨⟨w_1_11, rfl⟩, List.forall_mem_cons.mpr ⟨⟨w_5_200, rfl⟩, fun _ h => absurd h List.not_mem_nil⟩⟩⟩⟩) rfl rfl ⟨by decide, by decide, by decide +kernel⟩ ⟨h1, h2⟩ rfl hsz rfl hW hdg hcs) kk
def f_X11_isBehind (fu : Nat) (x : Me) (a1 : Int32) (a2 : Int32) : Option (Me × Int32) := if inb a1 17 = true then if inb a2 17 = true then if (x 37 a1.toNatClampNeg) < (x 37 a2.toNatClampNeg) then some (x, 1) else if (x 37 a1.toNatClampNeg) = (x 37 a2.toNatClampNeg) then if (x 38 a1.toNatClampNeg) ≤ (x 38 a2.toNatClampNeg) then some (x, 0) else some (x, 1) else some (x, 0) else none else none
def rm_X11_isBehind : Room := { frames := 0, cells := 0, slots := 0, locals := 0 }
set_option maxHeartbeats 4000000 in
set_option maxRecDepth 100000 in
theorem c_X11_isBehind (l : Launch) (fu nw : Nat) (G : GG) (x x' mo : Me) (a1 : Int32) (a2 : Int32) (r : Int32) (hf : f_X11_isBehind fu x a1 a2 = some (x', r)) : Met l yX11_isBehind [.code yX11_isBehind cX11_isBehind 3 (some .boolean)] rm_X11_isBehind (va_Pc [.ref (ga G 41), .int a1, .int a2] (Pre G nw mo x)) (PI G nw mo x' r) 0 0 (gA G) := by
  refine mt_ofW (cc := cX11_isBehind) (maxL := 3) (ret := (some .boolean)) (by decide +kernel) rfl ?_
  intro p e s m args below meth c s₁ B hml hv
  obtain ⟨rfl, hE, hM⟩ := hv
  have hx := B.exec
  have hb := B.bytes
  have hr := B.returns
  have hown : s.vm.findClass RX11 = some m.cls := findClass_of_methodNamed B.named
  have hlocks := B.notSynchronized
  have hS : va_S (gA G) s.heap s.heap [] := va_S.rf
  have hl := lv_entry ([.ref (ga G 41), .int a1, .int a2]) (n := 3) (Nat.le_of_ble_eq_true rfl)
  rw [lg_entry_eq]
  generalize (lg_sl ([.ref (ga G 41), .int a1, .int a2]) ++ List.replicate (3 - (lg_sl ([.ref (ga G 41), .int a1, .int a2])).length) Slot.unset).toArray = ls at hl ⊢
  have hl : lv_has ls 3 [(0, .ref (ga G 41)), (1, .int a1), (2, .int a2)] := hl
  generalize ([.ref (ga G 41), .int a1, .int a2] : List Value).toArray = args
  unfold f_X11_isBehind at hf
  refine lv_aload_n hx hb dX11_isBehind_0 rfl (lv_at hl 0 rfl) ?_
  refine gr_59 hx hb hE hM hown w_4_137 dX11_isBehind_1 ?_
  refine lv_iload_n hx hb dX11_isBehind_4 rfl (lv_at hl 1 rfl) ?_
  obtain ⟨hi_1, hf⟩ := i_n hf
  refine la_59 hx hb hE hM hi_1 dX11_isBehind_5 ?_
  refine lv_aload_n hx hb dX11_isBehind_6 rfl (lv_at hl 0 rfl) ?_
  refine gr_59 hx hb hE hM hown w_4_137 dX11_isBehind_7 ?_
  refine lv_iload_n hx hb dX11_isBehind_10 rfl (lv_at hl 2 rfl) ?_
  obtain ⟨hi_2, hf⟩ := i_n hf
  refine la_59 hx hb hE hM hi_2 dX11_isBehind_11 ?_
  refine lv_icmp_lt (tgt := 45) hx hb dX11_isBehind_12 (by decide) (fun hc_5 => ?_) (fun hc_5 => ?_)
  · replace hf := i_t hf hc_5
    refine lv_iconst (v := 1) hx hb dX11_isBehind_45 (by decide) ?_
    refine lv_goto (tgt := 50) hx hb dX11_isBehind_46 (by decide) ?_
    exact rt_zM hx hb hr rfl hf hM hS dX11_isBehind_50 hlocks
  · replace hf := i_f hf hc_5
    refine lv_aload_n hx hb dX11_isBehind_15 rfl (lv_at hl 0 rfl) ?_
    refine gr_59 hx hb hE hM hown w_4_137 dX11_isBehind_16 ?_
    refine lv_iload_n hx hb dX11_isBehind_19 rfl (lv_at hl 1 rfl) ?_
    refine la_59 hx hb hE hM hi_1 dX11_isBehind_20 ?_
    refine lv_aload_n hx hb dX11_isBehind_21 rfl (lv_at hl 0 rfl) ?_
    refine gr_59 hx hb hE hM hown w_4_137 dX11_isBehind_22 ?_
    refine lv_iload_n hx hb dX11_isBehind_25 rfl (lv_at hl 2 rfl) ?_
    refine la_59 hx hb hE hM hi_2 dX11_isBehind_26 ?_
    refine lv_icmp_ne (tgt := 49) hx hb dX11_isBehind_27 (by decide) (fun hc_4 => ?_) (fun hc_4 => ?_)
    · replace hf := i_f hf hc_4
      refine lv_iconst (v := 0) hx hb dX11_isBehind_49 (by decide) ?_
      exact rt_zM hx hb hr rfl hf hM hS dX11_isBehind_50 hlocks
    · replace hf := i_t hf hc_4
      refine lv_aload_n hx hb dX11_isBehind_30 rfl (lv_at hl 0 rfl) ?_
      refine gr_60 hx hb hE hM hown w_4_138 dX11_isBehind_31 ?_
      refine lv_iload_n hx hb dX11_isBehind_34 rfl (lv_at hl 1 rfl) ?_
      refine la_60 hx hb hE hM hi_1 dX11_isBehind_35 ?_
      refine lv_aload_n hx hb dX11_isBehind_36 rfl (lv_at hl 0 rfl) ?_
      refine gr_60 hx hb hE hM hown w_4_138 dX11_isBehind_37 ?_
      refine lv_iload_n hx hb dX11_isBehind_40 rfl (lv_at hl 2 rfl) ?_
      refine la_60 hx hb hE hM hi_2 dX11_isBehind_41 ?_
      refine lv_icmp_le (tgt := 49) hx hb dX11_isBehind_42 (by decide) (fun hc_3 => ?_) (fun hc_3 => ?_)
      · replace hf := i_t hf hc_3
        refine lv_iconst (v := 0) hx hb dX11_isBehind_49 (by decide) ?_
        exact rt_zM hx hb hr rfl hf hM hS dX11_isBehind_50 hlocks
      · replace hf := i_f hf hc_3
        refine lv_iconst (v := 1) hx hb dX11_isBehind_45 (by decide) ?_
        refine lv_goto (tgt := 50) hx hb dX11_isBehind_46 (by decide) ?_
        exact rt_zM hx hb hr rfl hf hM hS dX11_isBehind_50 hlocks
theorem k_X11_isBehind {p : Program} {l : Launch} {e : Env} {R : Room} {s : State} {m : MethodId} {args : Array Value} {below : List Frame} {meth : Method} {c : Code} {H : Heap} {locs : List Loc} {cells slots : Nat} {Q : State → Prop} {cc : ByteArray} {pc nL : Nat} {ls : Array Slot} {rest : List Value} {G : GG} {fu nw : Nat} {x x' mo : Me} {own : String} {index : Nat} {a1 : Int32} {a2 : Int32} {r : Int32} (hx : p.tables.exec = Jvm.exec) (hb : c.code = cc) (hml : c.maxLocals = nL) (hown : s.vm.findClass own = some m.cls) (hE : EnvP G s) (hM : MemP G nw mo x H) (hS : va_S (gA G) s.heap H locs) (hw : Cond.methodLink own index yX11_isBehind ∈ lw_tbl) (hf : f_X11_isBehind fu x a1 a2 = some (x', r)) (h1 : 0 + 1 ≤ R.frames) (h2 : 8 + (3 + 11) + 0 ≤ R.locals) (hsz : ls.size = nL) (hW : (rest.map fun v => v.category).sum ≤ 8) (hcs : cells ≤ R.cells ∧ slots ≤ R.slots) (hdg : decode cc pc = .ok (.invokevirtual index, 3)) (kk : ∀ (H1 : Heap) (locs1 : List Loc), MemP G nw mo x' H1 → va_S (gA G) s.heap H1 locs1 → W p l e R s m args below meth c H1 locs1 cells slots Q (F0 m (pc + 3) ls (.int r :: rest))) : W p l e R s m args below meth c H locs cells slots Q (F0 m pc ls (.int a2 :: .int a1 :: .ref (ga G 41) :: rest)) := mm_ki hS (mm_runV (n := 2) (o := 41) (C := RX11) (T := TX11) (N := 54) (ci := 11) (As := [.int a1, .int a2]) hx hb hml hown hE hM hS (c_X11_isBehind l fu nw G x x' mo a1 a2 _ hf) (List.forall_mem_cons.mpr ⟨⟨hw, rfl⟩, List.forall_mem_cons.mpr ⟨⟨w_5_180, rfl⟩, List.forall_mem_cons.mpr ⟨⟨w_0_46, rfl⟩, List.forall_mem_cons.mpr ⟨⟨w_1_11, rfl⟩, List.forall_mem_cons.mpr ⟨⟨w_5_181, rfl⟩, fun _ h => absurd h List.not_mem_nil⟩⟩⟩⟩⟩) rfl rfl ⟨rfl, by decide, by decide, by decide +kernel⟩ ⟨h1, h2⟩ rfl rfl rfl hsz rfl hW hdg hcs) kk
def f_X11_moves (fu : Nat) (x : Me) (a1 : Int32) : Option (Me × Int32) := if inb a1 17 = true then ob (f_X11_isFree fu x ((x 37 a1.toNatClampNeg) + 1) (x 38 a1.toNatClampNeg)) (fun x_2 r_2 => jn (fun (x_3 : Me) (a2_3 : Int32) => if a2_3 = (-1) then some ((mu (mu x_3 39 a1.toNatClampNeg 0) 42 a1.toNatClampNeg ((x_3 42 a1.toNatClampNeg) + 1)), 0) else ob (f_X11_cellOf fu (mu (mu x_3 38 a1.toNatClampNeg a2_3) 37 a1.toNatClampNeg ((x_3 37 a1.toNatClampNeg) + 1)) ((mu (mu x_3 38 a1.toNatClampNeg a2_3) 37 a1.toNatClampNeg ((x_3 37 a1.toNatClampNeg) + 1)) 37 a1.toNatClampNeg)) (fun x_4 r_4 => if inb r_4 60 = true then jn (fun (x_6 : Me) (a3_6 : Int32) => if ((x_6 46 0) * (x_6 35 0)) ≤ (x_6 37 a1.toNatClampNeg) then if (x_6 45 0) = (-1) then if (x_6 40 a1.toNatClampNeg) = 0 then some ((mu (mu (mu x_6 41 a1.toNatClampNeg (x_6 43 0)) 43 0 ((x_6 43 0) + 1)) 45 0 a1), 0) else if (x_6 48 0) = 0 then some ((mu (mu x_6 41 a1.toNatClampNeg (x_6 43 0)) 43 0 ((x_6 43 0) + 1)), 0) else some ((mu (mu (mu x_6 41 a1.toNatClampNeg (x_6 43 0)) 43 0 ((x_6 43 0) + 1)) 45 0 a1), 0) else some ((mu (mu x_6 41 a1.toNatClampNeg (x_6 43 0)) 43 0 ((x_6 43 0) + 1)), 0) else if z01 a3_6 = true then some (x_6, a3_6) else none) (fun j_6 => if (x_4 36 r_4.toNatClampNeg) = 0 then j_6 x_4 1 else if (x_4 40 a1.toNatClampNeg) = 0 then if (x_4 39 a1.toNatClampNeg) ≤ (x_4 47 0) then j_6 x_4 1 else ob (f_X11_draws fu x_4 4) (fun x_12 r_12 => if r_12 = 0 then j_6 (mu (mu x_12 40 a1.toNatClampNeg (vp_nar .boolean 1)) 39 a1.toNatClampNeg 1) 0 else j_6 x_12 1) else j_6 x_4 1) else none)) (fun j_3 => if r_2 = 0 then ob (f_X11_isLane fu x_2 ((x 38 a1.toNatClampNeg) - 1)) (fun x_18 r_18 => jn (fun (x_19 : Me) (a2_19 : Int32) => ob (f_X11_isLane fu x_19 (a2_19 + 1)) (fun x_20 r_20 => jn (fun (x_21 : Me) => j_3 x_21 (-1)) (fun j_21 => if r_20 = 0 then j_21 x_20 else ob (f_X11_isFree fu x_20 ((x_20 37 a1.toNatClampNeg) + 1) (a2_19 + 1)) (fun x_22 r_22 => if r_22 = 0 then j_21 x_22 else j_3 x_22 (a2_19 + 1))))) (fun j_19 => if r_18 = 0 then j_19 x_18 (x 38 a1.toNatClampNeg) else ob (f_X11_isFree fu x_18 ((x_18 37 a1.toNatClampNeg) + 1) ((x 38 a1.toNatClampNeg) - 1)) (fun x_25 r_25 => if r_25 = 0 then j_19 x_25 (x 38 a1.toNatClampNeg) else j_3 x_25 ((x 38 a1.toNatClampNeg) + (-1))))) else j_3 x_2 (x 38 a1.toNatClampNeg))) else none
def rm_X11_moves : Room := { frames := 2, cells := 0, slots := 0, locals := 44 }
set_option maxHeartbeats 4000000 in
set_option maxRecDepth 100000 in
theorem c_X11_moves (l : Launch) (fu nw : Nat) (G : GG) (x x' mo : Me) (a1 : Int32) (r : Int32) (hf : f_X11_moves fu x a1 = some (x', r)) : Met l yX11_moves [.code yX11_moves cX11_moves 4 (some .boolean)] rm_X11_moves (va_Pc [.ref (ga G 41), .int a1] (Pre G nw mo x)) (PI G nw mo x' r) 0 0 (gA G) := by
  refine mt_ofW (cc := cX11_moves) (maxL := 4) (ret := (some .boolean)) (by decide +kernel) rfl ?_
  intro p e s m args below meth c s₁ B hml hv
  obtain ⟨rfl, hE, hM⟩ := hv
  have hx := B.exec
  have hb := B.bytes
  have hr := B.returns
  have hown : s.vm.findClass RX11 = some m.cls := findClass_of_methodNamed B.named
  have hlocks := B.notSynchronized
  have hS : va_S (gA G) s.heap s.heap [] := va_S.rf
  have hl := lv_entry ([.ref (ga G 41), .int a1]) (n := 4) (Nat.le_of_ble_eq_true rfl)
  rw [lg_entry_eq]
  generalize (lg_sl ([.ref (ga G 41), .int a1]) ++ List.replicate (4 - (lg_sl ([.ref (ga G 41), .int a1])).length) Slot.unset).toArray = ls at hl ⊢
  have hl : lv_has ls 4 [(0, .ref (ga G 41)), (1, .int a1)] := hl
  generalize ([.ref (ga G 41), .int a1] : List Value).toArray = args
  unfold f_X11_moves at hf
  refine lv_aload_n hx hb dX11_moves_0 rfl (lv_at hl 0 rfl) ?_
  refine gr_60 hx hb hE hM hown w_4_138 dX11_moves_1 ?_
  refine lv_iload_n hx hb dX11_moves_4 rfl (lv_at hl 1 rfl) ?_
  obtain ⟨hi_1, hf⟩ := i_n hf
  refine la_60 hx hb hE hM hi_1 dX11_moves_5 ?_
  refine lv_istore_n (lv' := [(2, .int (x 38 a1.toNatClampNeg)), (0, .ref (ga G 41)), (1, .int a1)]) hx hb dX11_moves_6 rfl hl (by decide) rfl (fun ls hl => ?_)
  refine lv_aload_n hx hb dX11_moves_7 rfl (lv_at hl 1 rfl) ?_
  refine lv_aload_n hx hb dX11_moves_8 rfl (lv_at hl 1 rfl) ?_
  refine gr_59 hx hb hE hM hown w_4_137 dX11_moves_9 ?_
  refine lv_iload_n hx hb dX11_moves_12 rfl (lv_at hl 2 rfl) ?_
  refine la_59 hx hb hE hM hi_1 dX11_moves_13 ?_
  refine lv_iconst (v := 1) hx hb dX11_moves_14 (by decide) ?_
  refine lv_iadd hx hb dX11_moves_15 ?_
  refine lv_iload_n hx hb dX11_moves_16 rfl (lv_at hl 0 rfl) ?_
  obtain ⟨x_2, r_2, hq_2, hf⟩ := ob_some hf
  refine k_X11_isFree hx hb hml hown hE hM hS w_5_190 hq_2 (Nat.le_of_ble_eq_true rfl) (Nat.le_of_ble_eq_true rfl) hl.1 (Nat.le_of_ble_eq_true rfl) ⟨Nat.zero_le _, Nat.zero_le _⟩ dX11_moves_17 (fun H locs hM hS => ?_)
  have hj_3 : ∀ (x_3 : Me) (a2_3 : Int32) (H : Heap) (locs : List Loc) (ls : Array Slot), jnA hf x_3 a2_3 = some (x', r) → MemP G nw mo x_3 H → va_S (gA G) s.heap H locs → lv_has ls 4 [(0, .ref (ga G 41)), (1, .int a1), (2, .int a2_3)] → W p l e rm_X11_moves s m args below meth c H locs 0 0 (MQ below (PI G nw mo x' r) args s 0 0 (gA G)) (F0 m 91 ls []) := by
    intro x_3 a2_3 H locs ls hf hM hS hl
    refine lv_iload_n hx hb dX11_moves_91 rfl (lv_at hl 2 rfl) ?_
    refine lv_iconst (v := (-1)) hx hb dX11_moves_92 (by decide) ?_
    refine lv_icmp_ne (tgt := 115) hx hb dX11_moves_93 (by decide) (fun hc_17 => ?_) (fun hc_17 => ?_)
    · replace hf := i_f hf hc_17
      refine lv_aload_n hx hb dX11_moves_115 rfl (lv_at hl 0 rfl) ?_
      refine gr_60 hx hb hE hM hown w_4_138 dX11_moves_116 ?_
      refine lv_iload_n hx hb dX11_moves_119 rfl (lv_at hl 1 rfl) ?_
      refine lv_iload_n hx hb dX11_moves_120 rfl (lv_at hl 2 rfl) ?_
      refine sa_60 hx hb hE hM hS hi_1 dX11_moves_121 (fun H locs hM hS => ?_)
      refine lv_aload_n hx hb dX11_moves_122 rfl (lv_at hl 0 rfl) ?_
      refine gr_59 hx hb hE hM hown w_4_137 dX11_moves_123 ?_
      refine lv_iload_n hx hb dX11_moves_126 rfl (lv_at hl 1 rfl) ?_
      refine lv_dup2_11 hx hb dX11_moves_127 rfl rfl ?_
      refine la_59 hx hb hE hM hi_1 dX11_moves_128 ?_
      refine lv_iconst (v := 1) hx hb dX11_moves_129 (by decide) ?_
      refine lv_iadd hx hb dX11_moves_130 ?_
      refine sa_59 hx hb hE hM hS hi_1 dX11_moves_131 (fun H locs hM hS => ?_)
      refine lv_iconst (v := 1) hx hb dX11_moves_132 (by decide) ?_
      refine lv_istore_n (lv' := [(3, .int 1), (0, .ref (ga G 41)), (1, .int a1), (2, .int a2_3)]) hx hb dX11_moves_133 rfl hl (by decide) rfl (fun ls hl => ?_)
      refine lv_aload_n hx hb dX11_moves_134 rfl (lv_at hl 1 rfl) ?_
      refine gr_58 hx hb hE hM hown w_4_136 dX11_moves_135 ?_
      refine lv_aload_n hx hb dX11_moves_138 rfl (lv_at hl 1 rfl) ?_
      refine lv_aload_n hx hb dX11_moves_139 rfl (lv_at hl 1 rfl) ?_
      refine gr_59 hx hb hE hM hown w_4_137 dX11_moves_140 ?_
      refine lv_iload_n hx hb dX11_moves_143 rfl (lv_at hl 2 rfl) ?_
      refine la_59 hx hb hE hM hi_1 dX11_moves_144 ?_
      obtain ⟨x_4, r_4, hq_4, hf⟩ := ob_some hf
      refine k_X11_cellOf hx hb hml hown hE hM hS w_5_194 hq_4 (Nat.le_of_ble_eq_true rfl) (Nat.le_of_ble_eq_true rfl) hl.1 (Nat.le_of_ble_eq_true rfl) ⟨Nat.zero_le _, Nat.zero_le _⟩ dX11_moves_145 (fun H locs hM hS => ?_)
      obtain ⟨hi_5, hf⟩ := i_n hf
      refine la_58 hx hb hE hM hi_5 dX11_moves_148 ?_
      have hj_6 : ∀ (x_6 : Me) (a3_6 : Int32) (H : Heap) (locs : List Loc) (ls : Array Slot), jnA hf x_6 a3_6 = some (x', r) → MemP G nw mo x_6 H → va_S (gA G) s.heap H locs → lv_has ls 4 [(0, .ref (ga G 41)), (1, .int a1), (3, .int a3_6)] → W p l e rm_X11_moves s m args below meth c H locs 0 0 (MQ below (PI G nw mo x' r) args s 0 0 (gA G)) (F0 m 198 ls []) := by
        intro x_6 a3_6 H locs ls hf hM hS hl
        refine lv_aload_n hx hb dX11_moves_198 rfl (lv_at hl 0 rfl) ?_
        refine gr_59 hx hb hE hM hown w_4_137 dX11_moves_199 ?_
        refine lv_iload_n hx hb dX11_moves_202 rfl (lv_at hl 1 rfl) ?_
        refine la_59 hx hb hE hM hi_1 dX11_moves_203 ?_
        refine lv_aload_n hx hb dX11_moves_204 rfl (lv_at hl 0 rfl) ?_
        refine gm_46 hx hb hE hM hown w_4_146 dX11_moves_205 ?_
        refine lv_aload_n hx hb dX11_moves_208 rfl (lv_at hl 0 rfl) ?_
        refine gm_35 hx hb hE hM hown w_4_135 dX11_moves_209 ?_
        refine lv_imul hx hb dX11_moves_212 ?_
        refine lv_icmp_ge (tgt := 218) hx hb dX11_moves_213 (by decide) (fun hc_11 => ?_) (fun hc_11 => ?_)
        · replace hf := i_t hf hc_11
          refine lv_aload_n hx hb dX11_moves_218 rfl (lv_at hl 0 rfl) ?_
          refine gr_63 hx hb hE hM hown w_4_141 dX11_moves_219 ?_
          refine lv_iload_n hx hb dX11_moves_222 rfl (lv_at hl 1 rfl) ?_
          refine lv_aload_n hx hb dX11_moves_223 rfl (lv_at hl 0 rfl) ?_
          refine gm_43 hx hb hE hM hown w_4_143 dX11_moves_224 ?_
          refine sa_63 hx hb hE hM hS hi_1 dX11_moves_227 (fun H locs hM hS => ?_)
          refine lv_aload_n hx hb dX11_moves_228 rfl (lv_at hl 0 rfl) ?_
          refine lv_dup hx hb dX11_moves_229 rfl ?_
          refine gm_43 hx hb hE hM hown w_4_143 dX11_moves_230 ?_
          refine lv_iconst (v := 1) hx hb dX11_moves_233 (by decide) ?_
          refine lv_iadd hx hb dX11_moves_234 ?_
          refine pm_43 hx hb hE hM hS hown w_4_143 dX11_moves_235 (fun H locs hM hS => ?_)
          refine lv_aload_n hx hb dX11_moves_238 rfl (lv_at hl 0 rfl) ?_
          refine gm_45 hx hb hE hM hown w_4_145 dX11_moves_239 ?_
          refine lv_iconst (v := (-1)) hx hb dX11_moves_242 (by decide) ?_
          refine lv_icmp_ne (tgt := 267) hx hb dX11_moves_243 (by decide) (fun hc_9 => ?_) (fun hc_9 => ?_)
          · replace hf := i_f hf hc_9
            refine lv_iconst (v := 0) hx hb dX11_moves_267 (by decide) ?_
            exact rt_zM hx hb hr rfl hf hM hS dX11_moves_268 hlocks
          · replace hf := i_t hf hc_9
            refine lv_aload_n hx hb dX11_moves_246 rfl (lv_at hl 0 rfl) ?_
            refine gr_62 hx hb hE hM hown w_4_140 dX11_moves_247 ?_
            refine lv_iload_n hx hb dX11_moves_250 rfl (lv_at hl 1 rfl) ?_
            refine la_62 hx hb hE hM hi_1 dX11_moves_251 ?_
            refine lv_if_eq (tgt := 262) hx hb dX11_moves_252 (by decide) (fun hc_8 => ?_) (fun hc_8 => ?_)
            · replace hf := i_t hf hc_8
              refine lv_aload_n hx hb dX11_moves_262 rfl (lv_at hl 0 rfl) ?_
              refine lv_iload_n hx hb dX11_moves_263 rfl (lv_at hl 1 rfl) ?_
              refine pm_45 hx hb hE hM hS hown w_4_145 dX11_moves_264 (fun H locs hM hS => ?_)
              refine lv_iconst (v := 0) hx hb dX11_moves_267 (by decide) ?_
              exact rt_zM hx hb hr rfl hf hM hS dX11_moves_268 hlocks
            · replace hf := i_f hf hc_8
              refine lv_aload_n hx hb dX11_moves_255 rfl (lv_at hl 0 rfl) ?_
              refine gm_48 hx hb hE hM hown w_4_148 dX11_moves_256 ?_
              refine lv_if_eq (tgt := 267) hx hb dX11_moves_259 (by decide) (fun hc_7 => ?_) (fun hc_7 => ?_)
              · replace hf := i_t hf hc_7
                refine lv_iconst (v := 0) hx hb dX11_moves_267 (by decide) ?_
                exact rt_zM hx hb hr rfl hf hM hS dX11_moves_268 hlocks
              · replace hf := i_f hf hc_7
                refine lv_aload_n hx hb dX11_moves_262 rfl (lv_at hl 0 rfl) ?_
                refine lv_iload_n hx hb dX11_moves_263 rfl (lv_at hl 1 rfl) ?_
                refine pm_45 hx hb hE hM hS hown w_4_145 dX11_moves_264 (fun H locs hM hS => ?_)
                refine lv_iconst (v := 0) hx hb dX11_moves_267 (by decide) ?_
                exact rt_zM hx hb hr rfl hf hM hS dX11_moves_268 hlocks
        · replace hf := i_f hf hc_11
          refine lv_iload_n hx hb dX11_moves_216 rfl (lv_at hl 2 rfl) ?_
          obtain ⟨hz_10, hf⟩ := i_n hf
          exact rt_zM hx hb hr (z01_n hz_10) hf hM hS dX11_moves_217 hlocks
      replace hf := jn_use hf
      refine lv_if_eq (tgt := 198) hx hb dX11_moves_149 (by decide) (fun hc_16 => ?_) (fun hc_16 => ?_)
      · replace hf := i_t hf hc_16
        exact hj_6 x_4 1 _ _ _ hf hM hS (lv_sub hl [1, 2, 0] rfl)
      · replace hf := i_f hf hc_16
        refine lv_aload_n hx hb dX11_moves_152 rfl (lv_at hl 1 rfl) ?_
        refine gr_62 hx hb hE hM hown w_4_140 dX11_moves_153 ?_
        refine lv_iload_n hx hb dX11_moves_156 rfl (lv_at hl 2 rfl) ?_
        refine la_62 hx hb hE hM hi_1 dX11_moves_157 ?_
        refine lv_if_ne (tgt := 198) hx hb dX11_moves_158 (by decide) (fun hc_15 => ?_) (fun hc_15 => ?_)
        · replace hf := i_f hf hc_15
          exact hj_6 x_4 1 _ _ _ hf hM hS (lv_sub hl [1, 2, 0] rfl)
        · replace hf := i_t hf hc_15
          refine lv_aload_n hx hb dX11_moves_161 rfl (lv_at hl 1 rfl) ?_
          refine gr_61 hx hb hE hM hown w_4_139 dX11_moves_162 ?_
          refine lv_iload_n hx hb dX11_moves_165 rfl (lv_at hl 2 rfl) ?_
          refine la_61 hx hb hE hM hi_1 dX11_moves_166 ?_
          refine lv_aload_n hx hb dX11_moves_167 rfl (lv_at hl 1 rfl) ?_
          refine gm_47 hx hb hE hM hown w_4_147 dX11_moves_168 ?_
          refine lv_icmp_le (tgt := 198) hx hb dX11_moves_171 (by decide) (fun hc_14 => ?_) (fun hc_14 => ?_)
          · replace hf := i_t hf hc_14
            exact hj_6 x_4 1 _ _ _ hf hM hS (lv_sub hl [1, 2, 0] rfl)
          · replace hf := i_f hf hc_14
            refine lv_aload_n hx hb dX11_moves_174 rfl (lv_at hl 1 rfl) ?_
            refine lv_iconst (v := 4) hx hb dX11_moves_175 (by decide) ?_
            obtain ⟨x_12, r_12, hq_12, hf⟩ := ob_some hf
            refine k_X11_draws hx hb hml hown hE hM hS w_5_104 hq_12 (Nat.le_of_ble_eq_true rfl) (Nat.le_of_ble_eq_true rfl) hl.1 (Nat.le_of_ble_eq_true rfl) ⟨Nat.zero_le _, Nat.zero_le _⟩ dX11_moves_176 (fun H locs hM hS => ?_)
            refine lv_if_ne (tgt := 198) hx hb dX11_moves_179 (by decide) (fun hc_13 => ?_) (fun hc_13 => ?_)
            · replace hf := i_f hf hc_13
              exact hj_6 x_12 1 _ _ _ hf hM hS (lv_sub hl [1, 2, 0] rfl)
            · replace hf := i_t hf hc_13
              refine lv_aload_n hx hb dX11_moves_182 rfl (lv_at hl 1 rfl) ?_
              refine gr_62 hx hb hE hM hown w_4_140 dX11_moves_183 ?_
              refine lv_iload_n hx hb dX11_moves_186 rfl (lv_at hl 2 rfl) ?_
              refine lv_iconst (v := 1) hx hb dX11_moves_187 (by decide) ?_
              refine sa_62 hx hb hE hM hS hi_1 dX11_moves_188 (fun H locs hM hS => ?_)
              refine lv_aload_n hx hb dX11_moves_189 rfl (lv_at hl 1 rfl) ?_
              refine gr_61 hx hb hE hM hown w_4_139 dX11_moves_190 ?_
              refine lv_iload_n hx hb dX11_moves_193 rfl (lv_at hl 2 rfl) ?_
              refine lv_iconst (v := 1) hx hb dX11_moves_194 (by decide) ?_
              refine sa_61 hx hb hE hM hS hi_1 dX11_moves_195 (fun H locs hM hS => ?_)
              refine lv_iconst (v := 0) hx hb dX11_moves_196 (by decide) ?_
              refine lv_istore_n (lv' := [(3, .int 0), (0, .ref (ga G 41)), (1, .int a1), (2, .int a2_3)]) hx hb dX11_moves_197 rfl hl (by decide) rfl (fun ls hl => ?_)
              exact hj_6 (mu (mu x_12 40 a1.toNatClampNeg (vp_nar .boolean 1)) 39 a1.toNatClampNeg 1) 0 _ _ _ hf hM hS (lv_sub hl [1, 2, 0] rfl)
    · replace hf := i_t hf hc_17
      refine lv_aload_n hx hb dX11_moves_96 rfl (lv_at hl 0 rfl) ?_
      refine gr_61 hx hb hE hM hown w_4_139 dX11_moves_97 ?_
      refine lv_iload_n hx hb dX11_moves_100 rfl (lv_at hl 1 rfl) ?_
      refine lv_iconst (v := 0) hx hb dX11_moves_101 (by decide) ?_
      refine sa_61 hx hb hE hM hS hi_1 dX11_moves_102 (fun H locs hM hS => ?_)
      refine lv_aload_n hx hb dX11_moves_103 rfl (lv_at hl 0 rfl) ?_
      refine gr_64 hx hb hE hM hown w_4_142 dX11_moves_104 ?_
      refine lv_iload_n hx hb dX11_moves_107 rfl (lv_at hl 1 rfl) ?_
      refine lv_dup2_11 hx hb dX11_moves_108 rfl rfl ?_
      refine la_64 hx hb hE hM hi_1 dX11_moves_109 ?_
      refine lv_iconst (v := 1) hx hb dX11_moves_110 (by decide) ?_
      refine lv_iadd hx hb dX11_moves_111 ?_
      refine sa_64 hx hb hE hM hS hi_1 dX11_moves_112 (fun H locs hM hS => ?_)
      refine lv_iconst (v := 0) hx hb dX11_moves_113 (by decide) ?_
      exact rt_zM hx hb hr rfl hf hM hS dX11_moves_114 hlocks
  replace hf := jn_use hf
  refine lv_if_ne (tgt := 91) hx hb dX11_moves_20 (by decide) (fun hc_28 => ?_) (fun hc_28 => ?_)
  · replace hf := i_f hf hc_28
    exact hj_3 x_2 (x 38 a1.toNatClampNeg) _ _ _ hf hM hS (lv_sub hl [1, 2, 0] rfl)
  · replace hf := i_t hf hc_28
    refine lv_iload_n hx hb dX11_moves_23 rfl (lv_at hl 0 rfl) ?_
    refine lv_iconst (v := 1) hx hb dX11_moves_24 (by decide) ?_
    refine lv_isub hx hb dX11_moves_25 ?_
    obtain ⟨x_18, r_18, hq_18, hf⟩ := ob_some hf
    refine k_X11_isLane hx hb hml hown hE hM hS w_5_198 hq_18 (Nat.le_of_ble_eq_true rfl) (Nat.le_of_ble_eq_true rfl) hl.1 (Nat.le_of_ble_eq_true rfl) ⟨Nat.zero_le _, Nat.zero_le _⟩ dX11_moves_26 (fun H locs hM hS => ?_)
    have hj_19 : ∀ (x_19 : Me) (a2_19 : Int32) (H : Heap) (locs : List Loc) (ls : Array Slot), jnA hf x_19 a2_19 = some (x', r) → MemP G nw mo x_19 H → va_S (gA G) s.heap H locs → lv_has ls 4 [(0, .ref (ga G 41)), (1, .int a1), (2, .int a2_19)] → W p l e rm_X11_moves s m args below meth c H locs 0 0 (MQ below (PI G nw mo x' r) args s 0 0 (gA G)) (F0 m 56 ls []) := by
      intro x_19 a2_19 H locs ls hf hM hS hl
      refine lv_iload_n hx hb dX11_moves_56 rfl (lv_at hl 2 rfl) ?_
      refine lv_iconst (v := 1) hx hb dX11_moves_57 (by decide) ?_
      refine lv_iadd hx hb dX11_moves_58 ?_
      obtain ⟨x_20, r_20, hq_20, hf⟩ := ob_some hf
      refine k_X11_isLane hx hb hml hown hE hM hS w_5_198 hq_20 (Nat.le_of_ble_eq_true rfl) (Nat.le_of_ble_eq_true rfl) hl.1 (Nat.le_of_ble_eq_true rfl) ⟨Nat.zero_le _, Nat.zero_le _⟩ dX11_moves_59 (fun H locs hM hS => ?_)
      have hj_21 : ∀ (x_21 : Me) (H : Heap) (locs : List Loc) (ls : Array Slot), jnA hf x_21 = some (x', r) → MemP G nw mo x_21 H → va_S (gA G) s.heap H locs → lv_has ls 4 [(0, .ref (ga G 41)), (1, .int a1)] → W p l e rm_X11_moves s m args below meth c H locs 0 0 (MQ below (PI G nw mo x' r) args s 0 0 (gA G)) (F0 m 89 ls []) := by
        intro x_21 H locs ls hf hM hS hl
        refine lv_iconst (v := (-1)) hx hb dX11_moves_89 (by decide) ?_
        refine lv_istore_n (lv' := [(2, .int (-1)), (0, .ref (ga G 41)), (1, .int a1)]) hx hb dX11_moves_90 rfl hl (by decide) rfl (fun ls hl => ?_)
        exact hj_3 x_21 (-1) _ _ _ hf hM hS (lv_sub hl [1, 2, 0] rfl)
      replace hf := jn_use hf
      refine lv_if_eq (tgt := 89) hx hb dX11_moves_62 (by decide) (fun hc_24 => ?_) (fun hc_24 => ?_)
      · replace hf := i_t hf hc_24
        exact hj_21 x_20 _ _ _ hf hM hS (lv_sub hl [0, 1] rfl)
      · replace hf := i_f hf hc_24
        refine lv_aload_n hx hb dX11_moves_65 rfl (lv_at hl 0 rfl) ?_
        refine lv_aload_n hx hb dX11_moves_66 rfl (lv_at hl 0 rfl) ?_
        refine gr_59 hx hb hE hM hown w_4_137 dX11_moves_67 ?_
        refine lv_iload_n hx hb dX11_moves_70 rfl (lv_at hl 1 rfl) ?_
        refine la_59 hx hb hE hM hi_1 dX11_moves_71 ?_
        refine lv_iconst (v := 1) hx hb dX11_moves_72 (by decide) ?_
        refine lv_iadd hx hb dX11_moves_73 ?_
        refine lv_iload_n hx hb dX11_moves_74 rfl (lv_at hl 2 rfl) ?_
        refine lv_iconst (v := 1) hx hb dX11_moves_75 (by decide) ?_
        refine lv_iadd hx hb dX11_moves_76 ?_
        obtain ⟨x_22, r_22, hq_22, hf⟩ := ob_some hf
        refine k_X11_isFree hx hb hml hown hE hM hS w_5_190 hq_22 (Nat.le_of_ble_eq_true rfl) (Nat.le_of_ble_eq_true rfl) hl.1 (Nat.le_of_ble_eq_true rfl) ⟨Nat.zero_le _, Nat.zero_le _⟩ dX11_moves_77 (fun H locs hM hS => ?_)
        refine lv_if_eq (tgt := 89) hx hb dX11_moves_80 (by decide) (fun hc_23 => ?_) (fun hc_23 => ?_)
        · replace hf := i_t hf hc_23
          exact hj_21 x_22 _ _ _ hf hM hS (lv_sub hl [0, 1] rfl)
        · replace hf := i_f hf hc_23
          refine lv_iinc (v := a2_19 + 1) (lv' := [(2, .int (a2_19 + 1)), (0, .ref (ga G 41)), (1, .int a1)]) hx hb dX11_moves_83 hl (k := 2) rfl rfl (by decide) rfl (fun ls hl => ?_)
          refine lv_goto (tgt := 91) hx hb dX11_moves_86 (by decide) ?_
          exact hj_3 x_22 (a2_19 + 1) _ _ _ hf hM hS (lv_sub hl [1, 2, 0] rfl)
    replace hf := jn_use hf
    refine lv_if_eq (tgt := 56) hx hb dX11_moves_29 (by decide) (fun hc_27 => ?_) (fun hc_27 => ?_)
    · replace hf := i_t hf hc_27
      exact hj_19 x_18 (x 38 a1.toNatClampNeg) _ _ _ hf hM hS (lv_sub hl [1, 2, 0] rfl)
    · replace hf := i_f hf hc_27
      refine lv_aload_n hx hb dX11_moves_32 rfl (lv_at hl 1 rfl) ?_
      refine lv_aload_n hx hb dX11_moves_33 rfl (lv_at hl 1 rfl) ?_
      refine gr_59 hx hb hE hM hown w_4_137 dX11_moves_34 ?_
      refine lv_iload_n hx hb dX11_moves_37 rfl (lv_at hl 2 rfl) ?_
      refine la_59 hx hb hE hM hi_1 dX11_moves_38 ?_
      refine lv_iconst (v := 1) hx hb dX11_moves_39 (by decide) ?_
      refine lv_iadd hx hb dX11_moves_40 ?_
      refine lv_iload_n hx hb dX11_moves_41 rfl (lv_at hl 0 rfl) ?_
      refine lv_iconst (v := 1) hx hb dX11_moves_42 (by decide) ?_
      refine lv_isub hx hb dX11_moves_43 ?_
      obtain ⟨x_25, r_25, hq_25, hf⟩ := ob_some hf
      refine k_X11_isFree hx hb hml hown hE hM hS w_5_190 hq_25 (Nat.le_of_ble_eq_true rfl) (Nat.le_of_ble_eq_true rfl) hl.1 (Nat.le_of_ble_eq_true rfl) ⟨Nat.zero_le _, Nat.zero_le _⟩ dX11_moves_44 (fun H locs hM hS => ?_)
      refine lv_if_eq (tgt := 56) hx hb dX11_moves_47 (by decide) (fun hc_26 => ?_) (fun hc_26 => ?_)
      · replace hf := i_t hf hc_26
        exact hj_19 x_25 (x 38 a1.toNatClampNeg) _ _ _ hf hM hS (lv_sub hl [1, 2, 0] rfl)
      · replace hf := i_f hf hc_26
        refine lv_iinc (v := (x 38 a1.toNatClampNeg) + (-1)) (lv' := [(2, .int ((x 38 a1.toNatClampNeg) + (-1))), (0, .ref (ga G 41)), (1, .int a1)]) hx hb dX11_moves_50 hl (k := 0) rfl rfl (by decide) rfl (fun ls hl => ?_)
        refine lv_goto (tgt := 91) hx hb dX11_moves_53 (by decide) ?_
        exact hj_3 x_25 ((x 38 a1.toNatClampNeg) + (-1)) _ _ _ hf hM hS (lv_sub hl [1, 2, 0] rfl)
theorem k_X11_moves {p : Program} {l : Launch} {e : Env} {R : Room} {s : State} {m : MethodId} {args : Array Value} {below : List Frame} {meth : Method} {c : Code} {H : Heap} {locs : List Loc} {cells slots : Nat} {Q : State → Prop} {cc : ByteArray} {pc nL : Nat} {ls : Array Slot} {rest : List Value} {G : GG} {fu nw : Nat} {x x' mo : Me} {own : String} {index : Nat} {a1 : Int32} {r : Int32} (hx : p.tables.exec = Jvm.exec) (hb : c.code = cc) (hml : c.maxLocals = nL) (hown : s.vm.findClass own = some m.cls) (hE : EnvP G s) (hM : MemP G nw mo x H) (hS : va_S (gA G) s.heap H locs) (hw : Cond.methodLink own index yX11_moves ∈ lw_tbl) (hf : f_X11_moves fu x a1 = some (x', r)) (h1 : 2 + 1 ≤ R.frames) (h2 : 8 + (4 + 11) + 44 ≤ R.locals) (hsz : ls.size = nL) (hW : (rest.map fun v => v.category).sum ≤ 8) (hcs : cells ≤ R.cells ∧ slots ≤ R.slots) (hdg : decode cc pc = .ok (.invokevirtual index, 3)) (kk : ∀ (H1 : Heap) (locs1 : List Loc), MemP G nw mo x' H1 → va_S (gA G) s.heap H1 locs1 → W p l e R s m args below meth c H1 locs1 cells slots Q (F0 m (pc + 3) ls (.int r :: rest))) : W p l e R s m args below meth c H locs cells slots Q (F0 m pc ls (.int a1 :: .ref (ga G 41) :: rest)) := mm_ki hS (mm_runV (n := 1) (o := 41) (C := RX11) (T := TX11) (N := 54) (ci := 11) (As := [.int a1]) hx hb hml hown hE hM hS (c_X11_moves l fu nw G x x' mo a1 _ hf) (List.forall_mem_cons.mpr ⟨⟨hw, rfl⟩, List.forall_mem_cons.mpr ⟨⟨w_5_203, rfl⟩, List.forall_mem_cons.mpr ⟨⟨w_0_51, rfl⟩, List.forall_mem_cons.mpr ⟨⟨w_1_11, rfl⟩, List.forall_mem_cons.mpr ⟨⟨w_5_204, rfl⟩, fun _ h => absurd h List.not_mem_nil⟩⟩⟩⟩⟩) rfl rfl ⟨rfl, by decide, by decide, by decide +kernel⟩ ⟨h1, h2⟩ rfl rfl rfl hsz rfl hW hdg hcs) kk
def f_X11_obeys (fu : Nat) (x : Me) (a1 : Int32) : Option (Me × Unit) := if inb a1 17 = true then ob (f_X11_isOn fu x (x 25 a1.toNatClampNeg)) (fun x_2 r_2 => if r_2 = 0 then some (x_2, ()) else if inb (x 25 a1.toNatClampNeg) 17 = true then jn (fun (x_4 : Me) => if (x_4 24 a1.toNatClampNeg) = 1 then jn (fun (x_15 : Me) (s_15 : Int32) => if s_15 = 0 then some (x_15, ()) else ob (f_X11_isFree fu x_15 (x_15 37 a1.toNatClampNeg) (x_15 38 ((x 25 a1.toNatClampNeg).toNatClampNeg))) (fun x_16 r_16 => if r_16 = 0 then some (x_16, ()) else some ((mu x_16 38 a1.toNatClampNeg (x_16 38 ((x 25 a1.toNatClampNeg).toNatClampNeg))), ()))) (fun j_15 => jn (fun (x_19 : Me) => j_15 x_19 1) (fun j_19 => if (x_4 38 ((x 25 a1.toNatClampNeg).toNatClampNeg)) = ((x_4 38 a1.toNatClampNeg) + 1) then j_19 x_4 else if (x_4 38 ((x 25 a1.toNatClampNeg).toNatClampNeg)) = ((x_4 38 a1.toNatClampNeg) - 1) then j_19 x_4 else j_15 x_4 0)) else if (x_4 38 ((x 25 a1.toNatClampNeg).toNatClampNeg)) = (x_4 38 a1.toNatClampNeg) then ob (f_X11_isLane fu x_4 ((x_4 38 a1.toNatClampNeg) - 1)) (fun x_5 r_5 => jn (fun (x_6 : Me) => ob (f_X11_isLane fu x_6 ((x_6 38 a1.toNatClampNeg) + 1)) (fun x_7 r_7 => if r_7 = 0 then some (x_7, ()) else ob (f_X11_isFree fu x_7 (x_7 37 a1.toNatClampNeg) ((x_7 38 a1.toNatClampNeg) + 1)) (fun x_8 r_8 => if r_8 = 0 then some (x_8, ()) else some ((mu x_8 38 a1.toNatClampNeg ((x_8 38 a1.toNatClampNeg) + 1)), ())))) (fun j_6 => if r_5 = 0 then j_6 x_5 else ob (f_X11_isFree fu x_5 (x_5 37 a1.toNatClampNeg) ((x_5 38 a1.toNatClampNeg) - 1)) (fun x_11 r_11 => if r_11 = 0 then j_6 x_11 else some ((mu x_11 38 a1.toNatClampNeg ((x_11 38 a1.toNatClampNeg) - 1)), ())))) else some (x_4, ())) (fun j_4 => if (x_2 37 ((x 25 a1.toNatClampNeg).toNatClampNeg)) = ((x_2 37 a1.toNatClampNeg) - 1) then j_4 x_2 else if (x_2 37 ((x 25 a1.toNatClampNeg).toNatClampNeg)) = ((x_2 37 a1.toNatClampNeg) - 2) then j_4 x_2 else some (x_2, ())) else none) else none
def rm_X11_obeys : Room := { frames := 2, cells := 0, slots := 0, locals := 44 }
set_option maxHeartbeats 4000000 in
set_option maxRecDepth 100000 in
theorem c_X11_obeys (l : Launch) (fu nw : Nat) (G : GG) (x x' mo : Me) (a1 : Int32) (r : Unit) (hf : f_X11_obeys fu x a1 = some (x', r)) : Met l yX11_obeys [.code yX11_obeys cX11_obeys 4 none] rm_X11_obeys (va_Pc [.ref (ga G 41), .int a1] (Pre G nw mo x)) (PV G nw mo x') 0 0 (gA G) := by
  refine mt_ofW (cc := cX11_obeys) (maxL := 4) (ret := none) (by decide +kernel) rfl ?_
  intro p e s m args below meth c s₁ B hml hv
  obtain ⟨rfl, hE, hM⟩ := hv
  have hx := B.exec
  have hb := B.bytes
  have hr := B.returns
  have hown : s.vm.findClass RX11 = some m.cls := findClass_of_methodNamed B.named
  have hlocks := B.notSynchronized
  have hS : va_S (gA G) s.heap s.heap [] := va_S.rf
  have hl := lv_entry ([.ref (ga G 41), .int a1]) (n := 4) (Nat.le_of_ble_eq_true rfl)
  rw [lg_entry_eq]
  generalize (lg_sl ([.ref (ga G 41), .int a1]) ++ List.replicate (4 - (lg_sl ([.ref (ga G 41), .int a1])).length) Slot.unset).toArray = ls at hl ⊢
  have hl : lv_has ls 4 [(0, .ref (ga G 41)), (1, .int a1)] := hl
  generalize ([.ref (ga G 41), .int a1] : List Value).toArray = args
  unfold f_X11_obeys at hf
  refine lv_aload_n hx hb dX11_obeys_0 rfl (lv_at hl 0 rfl) ?_
  refine gr_52 hx hb hE hM hown w_4_125 dX11_obeys_1 ?_
  refine lv_iload_n hx hb dX11_obeys_4 rfl (lv_at hl 1 rfl) ?_
  obtain ⟨hi_1, hf⟩ := i_n hf
  refine la_52 hx hb hE hM hi_1 dX11_obeys_5 ?_
  refine lv_istore_n (lv' := [(2, .int (x 25 a1.toNatClampNeg)), (0, .ref (ga G 41)), (1, .int a1)]) hx hb dX11_obeys_6 rfl hl (by decide) rfl (fun ls hl => ?_)
  refine lv_aload_n hx hb dX11_obeys_7 rfl (lv_at hl 1 rfl) ?_
  refine lv_iload_n hx hb dX11_obeys_8 rfl (lv_at hl 0 rfl) ?_
  obtain ⟨x_2, r_2, hq_2, hf⟩ := ob_some hf
  refine k_X11_isOn hx hb hml hown hE hM hS w_5_174 hq_2 (Nat.le_of_ble_eq_true rfl) (Nat.le_of_ble_eq_true rfl) hl.1 (Nat.le_of_ble_eq_true rfl) ⟨Nat.zero_le _, Nat.zero_le _⟩ dX11_obeys_9 (fun H locs hM hS => ?_)
  refine lv_if_eq (tgt := 49) hx hb dX11_obeys_12 (by decide) (fun hc_25 => ?_) (fun hc_25 => ?_)
  · replace hf := i_t hf hc_25
    exact rt_vM hx hb hr hf hM hS dX11_obeys_49 hlocks
  · replace hf := i_f hf hc_25
    refine lv_aload_n hx hb dX11_obeys_15 rfl (lv_at hl 1 rfl) ?_
    refine gr_59 hx hb hE hM hown w_4_137 dX11_obeys_16 ?_
    refine lv_iload_n hx hb dX11_obeys_19 rfl (lv_at hl 0 rfl) ?_
    obtain ⟨hi_3, hf⟩ := i_n hf
    refine la_59 hx hb hE hM hi_3 dX11_obeys_20 ?_
    refine lv_aload_n hx hb dX11_obeys_21 rfl (lv_at hl 1 rfl) ?_
    refine gr_59 hx hb hE hM hown w_4_137 dX11_obeys_22 ?_
    refine lv_iload_n hx hb dX11_obeys_25 rfl (lv_at hl 2 rfl) ?_
    refine la_59 hx hb hE hM hi_1 dX11_obeys_26 ?_
    refine lv_iconst (v := 1) hx hb dX11_obeys_27 (by decide) ?_
    refine lv_isub hx hb dX11_obeys_28 ?_
    have hj_4 : ∀ (x_4 : Me) (H : Heap) (locs : List Loc) (ls : Array Slot), jnA hf x_4 = some (x', r) → MemP G nw mo x_4 H → va_S (gA G) s.heap H locs → lv_has ls 4 [(0, .ref (ga G 41)), (1, .int a1), (2, .int (x 25 a1.toNatClampNeg))] → W p l e rm_X11_obeys s m args below meth c H locs 0 0 (MQ below (PV G nw mo x') args s 0 0 (gA G)) (F0 m 50 ls []) := by
      intro x_4 H locs ls hf hM hS hl
      refine lv_aload_n hx hb dX11_obeys_50 rfl (lv_at hl 0 rfl) ?_
      refine gr_51 hx hb hE hM hown w_4_124 dX11_obeys_51 ?_
      refine lv_iload_n hx hb dX11_obeys_54 rfl (lv_at hl 1 rfl) ?_
      refine la_51 hx hb hE hM hi_1 dX11_obeys_55 ?_
      refine lv_iconst (v := 1) hx hb dX11_obeys_56 (by decide) ?_
      refine lv_icmp_ne (tgt := 136) hx hb dX11_obeys_57 (by decide) (fun hc_22 => ?_) (fun hc_22 => ?_)
      · replace hf := i_f hf hc_22
        refine lv_aload_n hx hb dX11_obeys_136 rfl (lv_at hl 0 rfl) ?_
        refine gr_60 hx hb hE hM hown w_4_138 dX11_obeys_137 ?_
        refine lv_iload_n hx hb dX11_obeys_140 rfl (lv_at hl 2 rfl) ?_
        refine la_60 hx hb hE hM hi_3 dX11_obeys_141 ?_
        refine lv_aload_n hx hb dX11_obeys_142 rfl (lv_at hl 0 rfl) ?_
        refine gr_60 hx hb hE hM hown w_4_138 dX11_obeys_143 ?_
        refine lv_iload_n hx hb dX11_obeys_146 rfl (lv_at hl 1 rfl) ?_
        refine la_60 hx hb hE hM hi_1 dX11_obeys_147 ?_
        refine lv_icmp_eq (tgt := 152) hx hb dX11_obeys_148 (by decide) (fun hc_14 => ?_) (fun hc_14 => ?_)
        · replace hf := i_t hf hc_14
          refine lv_aload_n hx hb dX11_obeys_152 rfl (lv_at hl 0 rfl) ?_
          refine gr_60 hx hb hE hM hown w_4_138 dX11_obeys_153 ?_
          refine lv_iload_n hx hb dX11_obeys_156 rfl (lv_at hl 1 rfl) ?_
          refine la_60 hx hb hE hM hi_1 dX11_obeys_157 ?_
          refine lv_iconst (v := 1) hx hb dX11_obeys_158 (by decide) ?_
          refine lv_isub hx hb dX11_obeys_159 ?_
          obtain ⟨x_5, r_5, hq_5, hf⟩ := ob_some hf
          refine k_X11_isLane hx hb hml hown hE hM hS w_5_198 hq_5 (Nat.le_of_ble_eq_true rfl) (Nat.le_of_ble_eq_true rfl) hl.1 (Nat.le_of_ble_eq_true rfl) ⟨Nat.zero_le _, Nat.zero_le _⟩ dX11_obeys_160 (fun H locs hM hS => ?_)
          have hj_6 : ∀ (x_6 : Me) (H : Heap) (locs : List Loc) (ls : Array Slot), jnA hf x_6 = some (x', r) → MemP G nw mo x_6 H → va_S (gA G) s.heap H locs → lv_has ls 4 [(0, .ref (ga G 41)), (1, .int a1)] → W p l e rm_X11_obeys s m args below meth c H locs 0 0 (MQ below (PV G nw mo x') args s 0 0 (gA G)) (F0 m 200 ls []) := by
            intro x_6 H locs ls hf hM hS hl
            refine lv_aload_n hx hb dX11_obeys_200 rfl (lv_at hl 0 rfl) ?_
            refine gr_60 hx hb hE hM hown w_4_138 dX11_obeys_201 ?_
            refine lv_iload_n hx hb dX11_obeys_204 rfl (lv_at hl 1 rfl) ?_
            refine la_60 hx hb hE hM hi_1 dX11_obeys_205 ?_
            refine lv_iconst (v := 1) hx hb dX11_obeys_206 (by decide) ?_
            refine lv_iadd hx hb dX11_obeys_207 ?_
            obtain ⟨x_7, r_7, hq_7, hf⟩ := ob_some hf
            refine k_X11_isLane hx hb hml hown hE hM hS w_5_198 hq_7 (Nat.le_of_ble_eq_true rfl) (Nat.le_of_ble_eq_true rfl) hl.1 (Nat.le_of_ble_eq_true rfl) ⟨Nat.zero_le _, Nat.zero_le _⟩ dX11_obeys_208 (fun H locs hM hS => ?_)
            refine lv_if_eq (tgt := 245) hx hb dX11_obeys_211 (by decide) (fun hc_10 => ?_) (fun hc_10 => ?_)
            · replace hf := i_t hf hc_10
              exact rt_vM hx hb hr hf hM hS dX11_obeys_245 hlocks
            · replace hf := i_f hf hc_10
              refine lv_aload_n hx hb dX11_obeys_214 rfl (lv_at hl 0 rfl) ?_
              refine lv_aload_n hx hb dX11_obeys_215 rfl (lv_at hl 0 rfl) ?_
              refine gr_59 hx hb hE hM hown w_4_137 dX11_obeys_216 ?_
              refine lv_iload_n hx hb dX11_obeys_219 rfl (lv_at hl 1 rfl) ?_
              refine la_59 hx hb hE hM hi_1 dX11_obeys_220 ?_
              refine lv_aload_n hx hb dX11_obeys_221 rfl (lv_at hl 0 rfl) ?_
              refine gr_60 hx hb hE hM hown w_4_138 dX11_obeys_222 ?_
              refine lv_iload_n hx hb dX11_obeys_225 rfl (lv_at hl 1 rfl) ?_
              refine la_60 hx hb hE hM hi_1 dX11_obeys_226 ?_
              refine lv_iconst (v := 1) hx hb dX11_obeys_227 (by decide) ?_
              refine lv_iadd hx hb dX11_obeys_228 ?_
              obtain ⟨x_8, r_8, hq_8, hf⟩ := ob_some hf
              refine k_X11_isFree hx hb hml hown hE hM hS w_5_190 hq_8 (Nat.le_of_ble_eq_true rfl) (Nat.le_of_ble_eq_true rfl) hl.1 (Nat.le_of_ble_eq_true rfl) ⟨Nat.zero_le _, Nat.zero_le _⟩ dX11_obeys_229 (fun H locs hM hS => ?_)
              refine lv_if_eq (tgt := 245) hx hb dX11_obeys_232 (by decide) (fun hc_9 => ?_) (fun hc_9 => ?_)
              · replace hf := i_t hf hc_9
                exact rt_vM hx hb hr hf hM hS dX11_obeys_245 hlocks
              · replace hf := i_f hf hc_9
                refine lv_aload_n hx hb dX11_obeys_235 rfl (lv_at hl 0 rfl) ?_
                refine gr_60 hx hb hE hM hown w_4_138 dX11_obeys_236 ?_
                refine lv_iload_n hx hb dX11_obeys_239 rfl (lv_at hl 1 rfl) ?_
                refine lv_dup2_11 hx hb dX11_obeys_240 rfl rfl ?_
                refine la_60 hx hb hE hM hi_1 dX11_obeys_241 ?_
                refine lv_iconst (v := 1) hx hb dX11_obeys_242 (by decide) ?_
                refine lv_iadd hx hb dX11_obeys_243 ?_
                refine sa_60 hx hb hE hM hS hi_1 dX11_obeys_244 (fun H locs hM hS => ?_)
                exact rt_vM hx hb hr hf hM hS dX11_obeys_245 hlocks
          replace hf := jn_use hf
          refine lv_if_eq (tgt := 200) hx hb dX11_obeys_163 (by decide) (fun hc_13 => ?_) (fun hc_13 => ?_)
          · replace hf := i_t hf hc_13
            exact hj_6 x_5 _ _ _ hf hM hS (lv_sub hl [0, 1] rfl)
          · replace hf := i_f hf hc_13
            refine lv_aload_n hx hb dX11_obeys_166 rfl (lv_at hl 0 rfl) ?_
            refine lv_aload_n hx hb dX11_obeys_167 rfl (lv_at hl 0 rfl) ?_
            refine gr_59 hx hb hE hM hown w_4_137 dX11_obeys_168 ?_
            refine lv_iload_n hx hb dX11_obeys_171 rfl (lv_at hl 1 rfl) ?_
            refine la_59 hx hb hE hM hi_1 dX11_obeys_172 ?_
            refine lv_aload_n hx hb dX11_obeys_173 rfl (lv_at hl 0 rfl) ?_
            refine gr_60 hx hb hE hM hown w_4_138 dX11_obeys_174 ?_
            refine lv_iload_n hx hb dX11_obeys_177 rfl (lv_at hl 1 rfl) ?_
            refine la_60 hx hb hE hM hi_1 dX11_obeys_178 ?_
            refine lv_iconst (v := 1) hx hb dX11_obeys_179 (by decide) ?_
            refine lv_isub hx hb dX11_obeys_180 ?_
            obtain ⟨x_11, r_11, hq_11, hf⟩ := ob_some hf
            refine k_X11_isFree hx hb hml hown hE hM hS w_5_190 hq_11 (Nat.le_of_ble_eq_true rfl) (Nat.le_of_ble_eq_true rfl) hl.1 (Nat.le_of_ble_eq_true rfl) ⟨Nat.zero_le _, Nat.zero_le _⟩ dX11_obeys_181 (fun H locs hM hS => ?_)
            refine lv_if_eq (tgt := 200) hx hb dX11_obeys_184 (by decide) (fun hc_12 => ?_) (fun hc_12 => ?_)
            · replace hf := i_t hf hc_12
              exact hj_6 x_11 _ _ _ hf hM hS (lv_sub hl [0, 1] rfl)
            · replace hf := i_f hf hc_12
              refine lv_aload_n hx hb dX11_obeys_187 rfl (lv_at hl 0 rfl) ?_
              refine gr_60 hx hb hE hM hown w_4_138 dX11_obeys_188 ?_
              refine lv_iload_n hx hb dX11_obeys_191 rfl (lv_at hl 1 rfl) ?_
              refine lv_dup2_11 hx hb dX11_obeys_192 rfl rfl ?_
              refine la_60 hx hb hE hM hi_1 dX11_obeys_193 ?_
              refine lv_iconst (v := 1) hx hb dX11_obeys_194 (by decide) ?_
              refine lv_isub hx hb dX11_obeys_195 ?_
              refine sa_60 hx hb hE hM hS hi_1 dX11_obeys_196 (fun H locs hM hS => ?_)
              refine lv_goto (tgt := 245) hx hb dX11_obeys_197 (by decide) ?_
              exact rt_vM hx hb hr hf hM hS dX11_obeys_245 hlocks
        · replace hf := i_f hf hc_14
          exact rt_vM hx hb hr hf hM hS dX11_obeys_151 hlocks
      · replace hf := i_t hf hc_22
        refine lv_aload_n hx hb dX11_obeys_60 rfl (lv_at hl 0 rfl) ?_
        refine gr_60 hx hb hE hM hown w_4_138 dX11_obeys_61 ?_
        refine lv_iload_n hx hb dX11_obeys_64 rfl (lv_at hl 2 rfl) ?_
        refine la_60 hx hb hE hM hi_3 dX11_obeys_65 ?_
        refine lv_aload_n hx hb dX11_obeys_66 rfl (lv_at hl 0 rfl) ?_
        refine gr_60 hx hb hE hM hown w_4_138 dX11_obeys_67 ?_
        refine lv_iload_n hx hb dX11_obeys_70 rfl (lv_at hl 1 rfl) ?_
        refine la_60 hx hb hE hM hi_1 dX11_obeys_71 ?_
        refine lv_iconst (v := 1) hx hb dX11_obeys_72 (by decide) ?_
        refine lv_iadd hx hb dX11_obeys_73 ?_
        have hj_15 : ∀ (x_15 : Me) (s_15 : Int32) (H : Heap) (locs : List Loc) (ls : Array Slot), jnA hf x_15 s_15 = some (x', r) → MemP G nw mo x_15 H → va_S (gA G) s.heap H locs → lv_has ls 4 [(0, .ref (ga G 41)), (1, .int a1), (2, .int (x 25 a1.toNatClampNeg))] → W p l e rm_X11_obeys s m args below meth c H locs 0 0 (MQ below (PV G nw mo x') args s 0 0 (gA G)) (F0 m 99 ls [.int s_15]) := by
          intro x_15 s_15 H locs ls hf hM hS hl
          refine lv_istore_n (lv' := [(3, .int s_15), (0, .ref (ga G 41)), (1, .int a1), (2, .int (x 25 a1.toNatClampNeg))]) hx hb dX11_obeys_99 rfl hl (by decide) rfl (fun ls hl => ?_)
          refine lv_iload_n hx hb dX11_obeys_100 rfl (lv_at hl 0 rfl) ?_
          refine lv_if_eq (tgt := 135) hx hb dX11_obeys_101 (by decide) (fun hc_18 => ?_) (fun hc_18 => ?_)
          · replace hf := i_t hf hc_18
            exact rt_vM hx hb hr hf hM hS dX11_obeys_135 hlocks
          · replace hf := i_f hf hc_18
            refine lv_aload_n hx hb dX11_obeys_104 rfl (lv_at hl 1 rfl) ?_
            refine lv_aload_n hx hb dX11_obeys_105 rfl (lv_at hl 1 rfl) ?_
            refine gr_59 hx hb hE hM hown w_4_137 dX11_obeys_106 ?_
            refine lv_iload_n hx hb dX11_obeys_109 rfl (lv_at hl 2 rfl) ?_
            refine la_59 hx hb hE hM hi_1 dX11_obeys_110 ?_
            refine lv_aload_n hx hb dX11_obeys_111 rfl (lv_at hl 1 rfl) ?_
            refine gr_60 hx hb hE hM hown w_4_138 dX11_obeys_112 ?_
            refine lv_iload_n hx hb dX11_obeys_115 rfl (lv_at hl 3 rfl) ?_
            refine la_60 hx hb hE hM hi_3 dX11_obeys_116 ?_
            obtain ⟨x_16, r_16, hq_16, hf⟩ := ob_some hf
            refine k_X11_isFree hx hb hml hown hE hM hS w_5_190 hq_16 (Nat.le_of_ble_eq_true rfl) (Nat.le_of_ble_eq_true rfl) hl.1 (Nat.le_of_ble_eq_true rfl) ⟨Nat.zero_le _, Nat.zero_le _⟩ dX11_obeys_117 (fun H locs hM hS => ?_)
            refine lv_if_eq (tgt := 135) hx hb dX11_obeys_120 (by decide) (fun hc_17 => ?_) (fun hc_17 => ?_)
            · replace hf := i_t hf hc_17
              exact rt_vM hx hb hr hf hM hS dX11_obeys_135 hlocks
            · replace hf := i_f hf hc_17
              refine lv_aload_n hx hb dX11_obeys_123 rfl (lv_at hl 1 rfl) ?_
              refine gr_60 hx hb hE hM hown w_4_138 dX11_obeys_124 ?_
              refine lv_iload_n hx hb dX11_obeys_127 rfl (lv_at hl 2 rfl) ?_
              refine lv_aload_n hx hb dX11_obeys_128 rfl (lv_at hl 1 rfl) ?_
              refine gr_60 hx hb hE hM hown w_4_138 dX11_obeys_129 ?_
              refine lv_iload_n hx hb dX11_obeys_132 rfl (lv_at hl 3 rfl) ?_
              refine la_60 hx hb hE hM hi_3 dX11_obeys_133 ?_
              refine sa_60 hx hb hE hM hS hi_1 dX11_obeys_134 (fun H locs hM hS => ?_)
              exact rt_vM hx hb hr hf hM hS dX11_obeys_135 hlocks
        replace hf := jn_use hf
        have hj_19 : ∀ (x_19 : Me) (H : Heap) (locs : List Loc) (ls : Array Slot), jnA hf x_19 = some (x', r) → MemP G nw mo x_19 H → va_S (gA G) s.heap H locs → lv_has ls 4 [(0, .ref (ga G 41)), (1, .int a1), (2, .int (x 25 a1.toNatClampNeg))] → W p l e rm_X11_obeys s m args below meth c H locs 0 0 (MQ below (PV G nw mo x') args s 0 0 (gA G)) (F0 m 94 ls []) := by
          intro x_19 H locs ls hf hM hS hl
          refine lv_iconst (v := 1) hx hb dX11_obeys_94 (by decide) ?_
          refine lv_goto (tgt := 99) hx hb dX11_obeys_95 (by decide) ?_
          exact hj_15 x_19 1 _ _ _ hf hM hS (lv_sub hl [0, 1, 2] rfl)
        replace hf := jn_use hf
        refine lv_icmp_eq (tgt := 94) hx hb dX11_obeys_74 (by decide) (fun hc_21 => ?_) (fun hc_21 => ?_)
        · replace hf := i_t hf hc_21
          exact hj_19 x_4 _ _ _ hf hM hS (lv_sub hl [0, 1, 2] rfl)
        · replace hf := i_f hf hc_21
          refine lv_aload_n hx hb dX11_obeys_77 rfl (lv_at hl 0 rfl) ?_
          refine gr_60 hx hb hE hM hown w_4_138 dX11_obeys_78 ?_
          refine lv_iload_n hx hb dX11_obeys_81 rfl (lv_at hl 2 rfl) ?_
          refine la_60 hx hb hE hM hi_3 dX11_obeys_82 ?_
          refine lv_aload_n hx hb dX11_obeys_83 rfl (lv_at hl 0 rfl) ?_
          refine gr_60 hx hb hE hM hown w_4_138 dX11_obeys_84 ?_
          refine lv_iload_n hx hb dX11_obeys_87 rfl (lv_at hl 1 rfl) ?_
          refine la_60 hx hb hE hM hi_1 dX11_obeys_88 ?_
          refine lv_iconst (v := 1) hx hb dX11_obeys_89 (by decide) ?_
          refine lv_isub hx hb dX11_obeys_90 ?_
          refine lv_icmp_ne (tgt := 98) hx hb dX11_obeys_91 (by decide) (fun hc_20 => ?_) (fun hc_20 => ?_)
          · replace hf := i_f hf hc_20
            refine lv_iconst (v := 0) hx hb dX11_obeys_98 (by decide) ?_
            exact hj_15 x_4 0 _ _ _ hf hM hS (lv_sub hl [0, 1, 2] rfl)
          · replace hf := i_t hf hc_20
            exact hj_19 x_4 _ _ _ hf hM hS (lv_sub hl [0, 1, 2] rfl)
    replace hf := jn_use hf
    refine lv_icmp_eq (tgt := 50) hx hb dX11_obeys_29 (by decide) (fun hc_24 => ?_) (fun hc_24 => ?_)
    · replace hf := i_t hf hc_24
      exact hj_4 x_2 _ _ _ hf hM hS (lv_sub hl [1, 2, 0] rfl)
    · replace hf := i_f hf hc_24
      refine lv_aload_n hx hb dX11_obeys_32 rfl (lv_at hl 1 rfl) ?_
      refine gr_59 hx hb hE hM hown w_4_137 dX11_obeys_33 ?_
      refine lv_iload_n hx hb dX11_obeys_36 rfl (lv_at hl 0 rfl) ?_
      refine la_59 hx hb hE hM hi_3 dX11_obeys_37 ?_
      refine lv_aload_n hx hb dX11_obeys_38 rfl (lv_at hl 1 rfl) ?_
      refine gr_59 hx hb hE hM hown w_4_137 dX11_obeys_39 ?_
      refine lv_iload_n hx hb dX11_obeys_42 rfl (lv_at hl 2 rfl) ?_
      refine la_59 hx hb hE hM hi_1 dX11_obeys_43 ?_
      refine lv_iconst (v := 2) hx hb dX11_obeys_44 (by decide) ?_
      refine lv_isub hx hb dX11_obeys_45 ?_
      refine lv_icmp_eq (tgt := 50) hx hb dX11_obeys_46 (by decide) (fun hc_23 => ?_) (fun hc_23 => ?_)
      · replace hf := i_t hf hc_23
        exact hj_4 x_2 _ _ _ hf hM hS (lv_sub hl [1, 2, 0] rfl)
      · replace hf := i_f hf hc_23
        exact rt_vM hx hb hr hf hM hS dX11_obeys_49 hlocks
theorem k_X11_obeys {p : Program} {l : Launch} {e : Env} {R : Room} {s : State} {m : MethodId} {args : Array Value} {below : List Frame} {meth : Method} {c : Code} {H : Heap} {locs : List Loc} {cells slots : Nat} {Q : State → Prop} {cc : ByteArray} {pc nL : Nat} {ls : Array Slot} {rest : List Value} {G : GG} {fu nw : Nat} {x x' mo : Me} {own : String} {index : Nat} {a1 : Int32} {r : Unit} (hx : p.tables.exec = Jvm.exec) (hb : c.code = cc) (hml : c.maxLocals = nL) (hown : s.vm.findClass own = some m.cls) (hE : EnvP G s) (hM : MemP G nw mo x H) (hS : va_S (gA G) s.heap H locs) (hw : Cond.methodLink own index yX11_obeys ∈ lw_tbl) (hf : f_X11_obeys fu x a1 = some (x', r)) (h1 : 2 + 1 ≤ R.frames) (h2 : 8 + (4 + 11) + 44 ≤ R.locals) (hsz : ls.size = nL) (hW : (rest.map fun v => v.category).sum ≤ 8) (hcs : cells ≤ R.cells ∧ slots ≤ R.slots) (hdg : decode cc pc = .ok (.invokevirtual index, 3)) (kk : ∀ (H1 : Heap) (locs1 : List Loc), MemP G nw mo x' H1 → va_S (gA G) s.heap H1 locs1 → W p l e R s m args below meth c H1 locs1 cells slots Q (F0 m (pc + 3) ls rest)) : W p l e R s m args below meth c H locs cells slots Q (F0 m pc ls (.int a1 :: .ref (ga G 41) :: rest)) := mm_kv hS (mm_runV (n := 1) (o := 41) (C := RX11) (T := TX11) (N := 54) (ci := 11) (As := [.int a1]) hx hb hml hown hE hM hS (c_X11_obeys l fu nw G x x' mo a1 _ hf) (List.forall_mem_cons.mpr ⟨⟨hw, rfl⟩, List.forall_mem_cons.mpr ⟨⟨w_5_188, rfl⟩, List.forall_mem_cons.mpr ⟨⟨w_0_48, rfl⟩, List.forall_mem_cons.mpr ⟨⟨w_1_11, rfl⟩, List.forall_mem_cons.mpr ⟨⟨w_5_189, rfl⟩, fun _ h => absurd h List.not_mem_nil⟩⟩⟩⟩⟩) rfl rfl ⟨rfl, by decide, by decide, by decide +kernel⟩ ⟨h1, h2⟩ rfl rfl rfl hsz rfl hW hdg hcs) kk
def f_X11_turns_104 (fu : Nat) (b1 : Int32) (b2 : Int32) (k : Me → Option (Me × Unit)) : Nat → Me → Int32 → Int32 → Option (Me × Unit)
  | 0 => fun _ _ _ => none
  | n + 1 => fun x a3 a4 => if b2 ≤ a4 then k x else if a3 = 0 then k x else ob (f_X11_moves fu x b1) (fun x_6 r_6 => f_X11_turns_104 fu b1 b2 k n x_6 r_6 (a4 + 1))
def f_X11_turns (fu : Nat) (x : Me) (a1 : Int32) : Option (Me × Unit) := if inb a1 17 = true then jn (fun (x_2 : Me) => if inb (x_2 22 a1.toNatClampNeg) 16 = true then ob (f_X11_draws fu (mu x_2 39 a1.toNatClampNeg (if (3 + ((x_2 27 ((x_2 22 a1.toNatClampNeg).toNatClampNeg)) / 250)) < ((x_2 39 a1.toNatClampNeg) + 1) then (3 + ((x_2 27 ((x_2 22 a1.toNatClampNeg).toNatClampNeg)) / 250)) else ((x_2 39 a1.toNatClampNeg) + 1))) 8) (fun x_4 r_4 => jn (fun (x_5 : Me) => f_X11_turns_104 fu a1 ((mu x_5 39 a1.toNatClampNeg (if 1 < (x_5 39 a1.toNatClampNeg) then (x_5 39 a1.toNatClampNeg) else 1)) 39 a1.toNatClampNeg) (fun (x_9 : Me) => some (x_9, ())) fu (mu x_5 39 a1.toNatClampNeg (if 1 < (x_5 39 a1.toNatClampNeg) then (x_5 39 a1.toNatClampNeg) else 1)) 1 0) (fun j_5 => if r_4 = 0 then j_5 (mu x_4 39 a1.toNatClampNeg ((x_4 39 a1.toNatClampNeg) - 1)) else j_5 x_4)) else none) (fun j_2 => if (x 40 a1.toNatClampNeg) = 0 then if (x 24 a1.toNatClampNeg) ≤ 0 then j_2 x else ob (f_X11_obeys fu x a1) (fun x_11 _ => j_2 x_11) else j_2 x) else none
def rm_X11_turns : Room := { frames := 3, cells := 0, slots := 0, locals := 67 }
set_option maxHeartbeats 4000000 in
set_option maxRecDepth 100000 in
theorem wk_X11_turns_104 {p : Program} {l : Launch} {e : Env} {s : State} {m : MethodId} {args : Array Value} {below : List Frame} {meth : Method} {c : Code} {fu nw : Nat} {G : GG} {mo : Me} {b1 : Int32} {b2 : Int32} (hx : p.tables.exec = Jvm.exec) (hb : c.code = cX11_turns) (hml : c.maxLocals = 5) (hown : s.vm.findClass RX11 = some m.cls) (hE : EnvP G s) (hr : meth.sig.returnType = none) (hlocks : meth.locks = false) {x' : Me} {r : Unit} {k : Me → Option (Me × Unit)} (hk : ∀ (x : Me) (H : Heap) (locs : List Loc) (ls : Array Slot), k x = some (x', r) → MemP G nw mo x H → va_S (gA G) s.heap H locs → lv_has ls 5 [] → W p l e rm_X11_turns s m args below meth c H locs 0 0 (MQ below (PV G nw mo x') args s 0 0 (gA G)) (F0 m 126 ls [])) : ∀ (n : Nat) (x : Me) (a3 : Int32) (a4 : Int32) (H : Heap) (locs : List Loc) (ls : Array Slot), f_X11_turns_104 fu b1 b2 k n x a3 a4 = some (x', r) → MemP G nw mo x H → va_S (gA G) s.heap H locs → lv_has ls 5 [(0, .ref (ga G 41)), (1, .int b1), (2, .int b2), (3, .int a3), (4, .int a4)] → W p l e rm_X11_turns s m args below meth c H locs 0 0 (MQ below (PV G nw mo x') args s 0 0 (gA G)) (F0 m 104 ls []) := by
  intro n
  induction n with
  | zero =>
    intro x a3 a4 H locs ls hf hM hS hl
    exact nn hf
  | succ n ih =>
    intro x a3 a4 H locs ls hf hM hS hl
    rw [f_X11_turns_104] at hf
    refine lv_iload hx hb dX11_turns_104 (lv_at hl 4 rfl) ?_
    refine lv_iload_n hx hb dX11_turns_106 rfl (lv_at hl 2 rfl) ?_
    refine lv_icmp_ge (tgt := 126) hx hb dX11_turns_107 (by decide) (fun hc_8 => ?_) (fun hc_8 => ?_)
    · replace hf := i_t hf hc_8
      exact hk x _ _ _ hf hM hS (lv_sub hl [] rfl)
    · replace hf := i_f hf hc_8
      refine lv_iload_n hx hb dX11_turns_110 rfl (lv_at hl 3 rfl) ?_
      refine lv_if_eq (tgt := 126) hx hb dX11_turns_111 (by decide) (fun hc_7 => ?_) (fun hc_7 => ?_)
      · replace hf := i_t hf hc_7
        exact hk x _ _ _ hf hM hS (lv_sub hl [] rfl)
      · replace hf := i_f hf hc_7
        refine lv_aload_n hx hb dX11_turns_114 rfl (lv_at hl 0 rfl) ?_
        refine lv_iload_n hx hb dX11_turns_115 rfl (lv_at hl 1 rfl) ?_
        obtain ⟨x_6, r_6, hq_6, hf⟩ := ob_some hf
        refine k_X11_moves hx hb hml hown hE hM hS w_5_201 hq_6 (Nat.le_of_ble_eq_true rfl) (Nat.le_of_ble_eq_true rfl) hl.1 (Nat.le_of_ble_eq_true rfl) ⟨Nat.zero_le _, Nat.zero_le _⟩ dX11_turns_116 (fun H locs hM hS => ?_)
        refine lv_istore_n (lv' := [(3, .int r_6), (0, .ref (ga G 41)), (1, .int b1), (2, .int b2), (4, .int a4)]) hx hb dX11_turns_119 rfl hl (by decide) rfl (fun ls hl => ?_)
        refine lv_iinc (v := a4 + 1) (lv' := [(4, .int (a4 + 1)), (3, .int r_6), (0, .ref (ga G 41)), (1, .int b1), (2, .int b2)]) hx hb dX11_turns_120 hl (k := 4) rfl rfl (by decide) rfl (fun ls hl => ?_)
        refine lv_goto (tgt := 104) hx hb dX11_turns_123 (by decide) ?_
        exact ih x_6 r_6 (a4 + 1) _ _ _ hf hM hS (lv_sub hl [2, 3, 4, 1, 0] rfl)
set_option maxHeartbeats 4000000 in
set_option maxRecDepth 100000 in
theorem c_X11_turns (l : Launch) (fu nw : Nat) (G : GG) (x x' mo : Me) (a1 : Int32) (r : Unit) (hf : f_X11_turns fu x a1 = some (x', r)) : Met l yX11_turns [.code yX11_turns cX11_turns 5 none] rm_X11_turns (va_Pc [.ref (ga G 41), .int a1] (Pre G nw mo x)) (PV G nw mo x') 0 0 (gA G) := by
  refine mt_ofW (cc := cX11_turns) (maxL := 5) (ret := none) (by decide +kernel) rfl ?_
  intro p e s m args below meth c s₁ B hml hv
  obtain ⟨rfl, hE, hM⟩ := hv
  have hx := B.exec
  have hb := B.bytes
  have hr := B.returns
  have hown : s.vm.findClass RX11 = some m.cls := findClass_of_methodNamed B.named
  have hlocks := B.notSynchronized
  have hS : va_S (gA G) s.heap s.heap [] := va_S.rf
  have hl := lv_entry ([.ref (ga G 41), .int a1]) (n := 5) (Nat.le_of_ble_eq_true rfl)
  rw [lg_entry_eq]
  generalize (lg_sl ([.ref (ga G 41), .int a1]) ++ List.replicate (5 - (lg_sl ([.ref (ga G 41), .int a1])).length) Slot.unset).toArray = ls at hl ⊢
  have hl : lv_has ls 5 [(0, .ref (ga G 41)), (1, .int a1)] := hl
  generalize ([.ref (ga G 41), .int a1] : List Value).toArray = args
  unfold f_X11_turns at hf
  refine lv_aload_n hx hb dX11_turns_0 rfl (lv_at hl 0 rfl) ?_
  refine gr_62 hx hb hE hM hown w_4_140 dX11_turns_1 ?_
  refine lv_iload_n hx hb dX11_turns_4 rfl (lv_at hl 1 rfl) ?_
  obtain ⟨hi_1, hf⟩ := i_n hf
  refine la_62 hx hb hE hM hi_1 dX11_turns_5 ?_
  have hj_2 : ∀ (x_2 : Me) (H : Heap) (locs : List Loc) (ls : Array Slot), jnA hf x_2 = some (x', r) → MemP G nw mo x_2 H → va_S (gA G) s.heap H locs → lv_has ls 5 [(0, .ref (ga G 41)), (1, .int a1)] → W p l e rm_X11_turns s m args below meth c H locs 0 0 (MQ below (PV G nw mo x') args s 0 0 (gA G)) (F0 m 23 ls []) := by
    intro x_2 H locs ls hf hM hS hl
    refine lv_aload_n hx hb dX11_turns_23 rfl (lv_at hl 0 rfl) ?_
    refine gr_61 hx hb hE hM hown w_4_139 dX11_turns_24 ?_
    refine lv_iload_n hx hb dX11_turns_27 rfl (lv_at hl 1 rfl) ?_
    refine lv_aload_n hx hb dX11_turns_28 rfl (lv_at hl 0 rfl) ?_
    refine gr_61 hx hb hE hM hown w_4_139 dX11_turns_29 ?_
    refine lv_iload_n hx hb dX11_turns_32 rfl (lv_at hl 1 rfl) ?_
    refine la_61 hx hb hE hM hi_1 dX11_turns_33 ?_
    refine lv_iconst (v := 1) hx hb dX11_turns_34 (by decide) ?_
    refine lv_iadd hx hb dX11_turns_35 ?_
    refine lv_iconst (v := 3) hx hb dX11_turns_36 (by decide) ?_
    refine lv_aload_n hx hb dX11_turns_37 rfl (lv_at hl 0 rfl) ?_
    refine gr_53 hx hb hE hM hown w_4_127 dX11_turns_38 ?_
    refine lv_aload_n hx hb dX11_turns_41 rfl (lv_at hl 0 rfl) ?_
    refine gr_49 hx hb hE hM hown w_4_122 dX11_turns_42 ?_
    refine lv_iload_n hx hb dX11_turns_45 rfl (lv_at hl 1 rfl) ?_
    refine la_49 hx hb hE hM hi_1 dX11_turns_46 ?_
    obtain ⟨hi_3, hf⟩ := i_n hf
    refine la_53 hx hb hE hM hi_3 dX11_turns_47 ?_
    refine lv_sipush (v := 250) hx hb dX11_turns_48 (by decide) ?_
    refine lv_idiv hx hb dX11_turns_51 (by decide) ?_
    refine lv_iadd hx hb dX11_turns_52 ?_
    refine va_mmin hx hb (by rw [hml]; exact hl.1.symm) hown (ew hE w_5_95 rfl) (ew hE w_2_92 rfl) (ew hE w_1_12 rfl) (ew hE w_2_93 rfl) (Nat.le_of_ble_eq_true rfl) (Nat.le_of_ble_eq_true rfl) (Nat.zero_le _) (Nat.zero_le _) dX11_turns_53 ?_
    refine sa_61 hx hb hE hM hS hi_1 dX11_turns_56 (fun H locs hM hS => ?_)
    refine lv_aload_n hx hb dX11_turns_57 rfl (lv_at hl 0 rfl) ?_
    refine lv_bipush (v := 8) hx hb dX11_turns_58 (by decide) ?_
    obtain ⟨x_4, r_4, hq_4, hf⟩ := ob_some hf
    refine k_X11_draws hx hb hml hown hE hM hS w_5_104 hq_4 (Nat.le_of_ble_eq_true rfl) (Nat.le_of_ble_eq_true rfl) hl.1 (Nat.le_of_ble_eq_true rfl) ⟨Nat.zero_le _, Nat.zero_le _⟩ dX11_turns_60 (fun H locs hM hS => ?_)
    have hj_5 : ∀ (x_5 : Me) (H : Heap) (locs : List Loc) (ls : Array Slot), jnA hf x_5 = some (x', r) → MemP G nw mo x_5 H → va_S (gA G) s.heap H locs → lv_has ls 5 [(0, .ref (ga G 41)), (1, .int a1)] → W p l e rm_X11_turns s m args below meth c H locs 0 0 (MQ below (PV G nw mo x') args s 0 0 (gA G)) (F0 m 76 ls []) := by
      intro x_5 H locs ls hf hM hS hl
      refine lv_aload_n hx hb dX11_turns_76 rfl (lv_at hl 0 rfl) ?_
      refine gr_61 hx hb hE hM hown w_4_139 dX11_turns_77 ?_
      refine lv_iload_n hx hb dX11_turns_80 rfl (lv_at hl 1 rfl) ?_
      refine lv_iconst (v := 1) hx hb dX11_turns_81 (by decide) ?_
      refine lv_aload_n hx hb dX11_turns_82 rfl (lv_at hl 0 rfl) ?_
      refine gr_61 hx hb hE hM hown w_4_139 dX11_turns_83 ?_
      refine lv_iload_n hx hb dX11_turns_86 rfl (lv_at hl 1 rfl) ?_
      refine la_61 hx hb hE hM hi_1 dX11_turns_87 ?_
      refine va_mmax hx hb (by rw [hml]; exact hl.1.symm) hown (ew hE w_5_117 rfl) (ew hE w_2_184 rfl) (ew hE w_1_12 rfl) (ew hE w_2_185 rfl) (Nat.le_of_ble_eq_true rfl) (Nat.le_of_ble_eq_true rfl) (Nat.zero_le _) (Nat.zero_le _) dX11_turns_88 ?_
      refine sa_61 hx hb hE hM hS hi_1 dX11_turns_91 (fun H locs hM hS => ?_)
      refine lv_aload_n hx hb dX11_turns_92 rfl (lv_at hl 0 rfl) ?_
      refine gr_61 hx hb hE hM hown w_4_139 dX11_turns_93 ?_
      refine lv_iload_n hx hb dX11_turns_96 rfl (lv_at hl 1 rfl) ?_
      refine la_61 hx hb hE hM hi_1 dX11_turns_97 ?_
      refine lv_istore_n (lv' := [(2, .int ((mu x_5 39 a1.toNatClampNeg (if 1 < (x_5 39 a1.toNatClampNeg) then (x_5 39 a1.toNatClampNeg) else 1)) 39 a1.toNatClampNeg)), (0, .ref (ga G 41)), (1, .int a1)]) hx hb dX11_turns_98 rfl hl (by decide) rfl (fun ls hl => ?_)
      refine lv_iconst (v := 1) hx hb dX11_turns_99 (by decide) ?_
      refine lv_istore_n (lv' := [(3, .int 1), (2, .int ((mu x_5 39 a1.toNatClampNeg (if 1 < (x_5 39 a1.toNatClampNeg) then (x_5 39 a1.toNatClampNeg) else 1)) 39 a1.toNatClampNeg)), (0, .ref (ga G 41)), (1, .int a1)]) hx hb dX11_turns_100 rfl hl (by decide) rfl (fun ls hl => ?_)
      refine lv_iconst (v := 0) hx hb dX11_turns_101 (by decide) ?_
      refine lv_istore (lv' := [(4, .int 0), (3, .int 1), (2, .int ((mu x_5 39 a1.toNatClampNeg (if 1 < (x_5 39 a1.toNatClampNeg) then (x_5 39 a1.toNatClampNeg) else 1)) 39 a1.toNatClampNeg)), (0, .ref (ga G 41)), (1, .int a1)]) hx hb dX11_turns_102 hl (by decide) rfl (fun ls hl => ?_)
      refine wk_X11_turns_104 hx hb hml hown hE hr hlocks ?_ fu (mu x_5 39 a1.toNatClampNeg (if 1 < (x_5 39 a1.toNatClampNeg) then (x_5 39 a1.toNatClampNeg) else 1)) 1 0 _ _ _ hf hM hS (lv_sub hl [3, 4, 2, 1, 0] rfl)
      intro x_9 H locs ls hf hM hS hl
      exact rt_vM hx hb hr hf hM hS dX11_turns_126 hlocks
    replace hf := jn_use hf
    refine lv_if_ne (tgt := 76) hx hb dX11_turns_63 (by decide) (fun hc_10 => ?_) (fun hc_10 => ?_)
    · replace hf := i_f hf hc_10
      exact hj_5 x_4 _ _ _ hf hM hS (lv_sub hl [0, 1] rfl)
    · replace hf := i_t hf hc_10
      refine lv_aload_n hx hb dX11_turns_66 rfl (lv_at hl 0 rfl) ?_
      refine gr_61 hx hb hE hM hown w_4_139 dX11_turns_67 ?_
      refine lv_iload_n hx hb dX11_turns_70 rfl (lv_at hl 1 rfl) ?_
      refine lv_dup2_11 hx hb dX11_turns_71 rfl rfl ?_
      refine la_61 hx hb hE hM hi_1 dX11_turns_72 ?_
      refine lv_iconst (v := 1) hx hb dX11_turns_73 (by decide) ?_
      refine lv_isub hx hb dX11_turns_74 ?_
      refine sa_61 hx hb hE hM hS hi_1 dX11_turns_75 (fun H locs hM hS => ?_)
      exact hj_5 (mu x_4 39 a1.toNatClampNeg ((x_4 39 a1.toNatClampNeg) - 1)) _ _ _ hf hM hS (lv_sub hl [0, 1] rfl)
  replace hf := jn_use hf
  refine lv_if_ne (tgt := 23) hx hb dX11_turns_6 (by decide) (fun hc_13 => ?_) (fun hc_13 => ?_)
  · replace hf := i_f hf hc_13
    exact hj_2 x _ _ _ hf hM hS (lv_sub hl [0, 1] rfl)
  · replace hf := i_t hf hc_13
    refine lv_aload_n hx hb dX11_turns_9 rfl (lv_at hl 0 rfl) ?_
    refine gr_51 hx hb hE hM hown w_4_124 dX11_turns_10 ?_
    refine lv_iload_n hx hb dX11_turns_13 rfl (lv_at hl 1 rfl) ?_
    refine la_51 hx hb hE hM hi_1 dX11_turns_14 ?_
    refine lv_if_le (tgt := 23) hx hb dX11_turns_15 (by decide) (fun hc_12 => ?_) (fun hc_12 => ?_)
    · replace hf := i_t hf hc_12
      exact hj_2 x _ _ _ hf hM hS (lv_sub hl [0, 1] rfl)
    · replace hf := i_f hf hc_12
      refine lv_aload_n hx hb dX11_turns_18 rfl (lv_at hl 0 rfl) ?_
      refine lv_iload_n hx hb dX11_turns_19 rfl (lv_at hl 1 rfl) ?_
      obtain ⟨x_11, r_11, hq_11, hf⟩ := ob_some hf
      refine k_X11_obeys hx hb hml hown hE hM hS w_5_186 hq_11 (Nat.le_of_ble_eq_true rfl) (Nat.le_of_ble_eq_true rfl) hl.1 (Nat.le_of_ble_eq_true rfl) ⟨Nat.zero_le _, Nat.zero_le _⟩ dX11_turns_20 (fun H locs hM hS => ?_)
      exact hj_2 x_11 _ _ _ hf hM hS (lv_sub hl [0, 1] rfl)
theorem k_X11_turns {p : Program} {l : Launch} {e : Env} {R : Room} {s : State} {m : MethodId} {args : Array Value} {below : List Frame} {meth : Method} {c : Code} {H : Heap} {locs : List Loc} {cells slots : Nat} {Q : State → Prop} {cc : ByteArray} {pc nL : Nat} {ls : Array Slot} {rest : List Value} {G : GG} {fu nw : Nat} {x x' mo : Me} {own : String} {index : Nat} {a1 : Int32} {r : Unit} (hx : p.tables.exec = Jvm.exec) (hb : c.code = cc) (hml : c.maxLocals = nL) (hown : s.vm.findClass own = some m.cls) (hE : EnvP G s) (hM : MemP G nw mo x H) (hS : va_S (gA G) s.heap H locs) (hw : Cond.methodLink own index yX11_turns ∈ lw_tbl) (hf : f_X11_turns fu x a1 = some (x', r)) (h1 : 3 + 1 ≤ R.frames) (h2 : 8 + (5 + 11) + 67 ≤ R.locals) (hsz : ls.size = nL) (hW : (rest.map fun v => v.category).sum ≤ 8) (hcs : cells ≤ R.cells ∧ slots ≤ R.slots) (hdg : decode cc pc = .ok (.invokevirtual index, 3)) (kk : ∀ (H1 : Heap) (locs1 : List Loc), MemP G nw mo x' H1 → va_S (gA G) s.heap H1 locs1 → W p l e R s m args below meth c H1 locs1 cells slots Q (F0 m (pc + 3) ls rest)) : W p l e R s m args below meth c H locs cells slots Q (F0 m pc ls (.int a1 :: .ref (ga G 41) :: rest)) := mm_kv hS (mm_runV (n := 1) (o := 41) (C := RX11) (T := TX11) (N := 54) (ci := 11) (As := [.int a1]) hx hb hml hown hE hM hS (c_X11_turns l fu nw G x x' mo a1 _ hf) (List.forall_mem_cons.mpr ⟨⟨hw, rfl⟩, List.forall_mem_cons.mpr ⟨⟨w_5_184, rfl⟩, List.forall_mem_cons.mpr ⟨⟨w_0_47, rfl⟩, List.forall_mem_cons.mpr ⟨⟨w_1_11, rfl⟩, List.forall_mem_cons.mpr ⟨⟨w_5_185, rfl⟩, fun _ h => absurd h List.not_mem_nil⟩⟩⟩⟩⟩) rfl rfl ⟨rfl, by decide, by decide, by decide +kernel⟩ ⟨h1, h2⟩ rfl rfl rfl hsz rfl hW hdg hcs) kk
def f_X11_ends_7 (fu : Nat) (k : Me → Option (Me × Unit)) : Nat → Me → Int32 → Option (Me × Unit)
  | 0 => fun _ _ => none
  | n + 1 => fun x a1 => if (x 53 0) ≤ a1 then k x else if inb a1 40 = true then if (x 50 a1.toNatClampNeg) = (x 45 0) then if inb (x 50 a1.toNatClampNeg) 17 = true then if inb (x 51 a1.toNatClampNeg) 17 = true then f_X11_ends_7 fu k n (mu (mu x 21 ((x 50 a1.toNatClampNeg).toNatClampNeg) ((x 21 ((x 50 a1.toNatClampNeg).toNatClampNeg)) - (x 52 a1.toNatClampNeg))) 21 ((x 51 a1.toNatClampNeg).toNatClampNeg) (((mu x 21 ((x 50 a1.toNatClampNeg).toNatClampNeg) ((x 21 ((x 50 a1.toNatClampNeg).toNatClampNeg)) - (x 52 a1.toNatClampNeg))) 21 ((x 51 a1.toNatClampNeg).toNatClampNeg)) + (x 52 a1.toNatClampNeg))) (a1 + 1) else none else none else f_X11_ends_7 fu k n x (a1 + 1) else none
def f_X11_ends (fu : Nat) (x : Me) : Option (Me × Unit) := f_X11_ends_7 fu (fun (x_6 : Me) => some ((mu x_6 53 0 0), ())) fu (mu x 4 0 5) 0
def rm_X11_ends : Room := { frames := 0, cells := 0, slots := 0, locals := 0 }
set_option maxHeartbeats 4000000 in
set_option maxRecDepth 100000 in
theorem wk_X11_ends_7 {p : Program} {l : Launch} {e : Env} {s : State} {m : MethodId} {args : Array Value} {below : List Frame} {meth : Method} {c : Code} {fu nw : Nat} {G : GG} {mo : Me} (hx : p.tables.exec = Jvm.exec) (hb : c.code = cX11_ends) (hml : c.maxLocals = 2) (hown : s.vm.findClass RX11 = some m.cls) (hE : EnvP G s) (hr : meth.sig.returnType = none) (hlocks : meth.locks = false) {x' : Me} {r : Unit} {k : Me → Option (Me × Unit)} (hk : ∀ (x : Me) (H : Heap) (locs : List Loc) (ls : Array Slot), k x = some (x', r) → MemP G nw mo x H → va_S (gA G) s.heap H locs → lv_has ls 2 [(0, .ref (ga G 41))] → W p l e rm_X11_ends s m args below meth c H locs 0 0 (MQ below (PV G nw mo x') args s 0 0 (gA G)) (F0 m 77 ls [])) : ∀ (n : Nat) (x : Me) (a1 : Int32) (H : Heap) (locs : List Loc) (ls : Array Slot), f_X11_ends_7 fu k n x a1 = some (x', r) → MemP G nw mo x H → va_S (gA G) s.heap H locs → lv_has ls 2 [(0, .ref (ga G 41)), (1, .int a1)] → W p l e rm_X11_ends s m args below meth c H locs 0 0 (MQ below (PV G nw mo x') args s 0 0 (gA G)) (F0 m 7 ls []) := by
  intro n
  induction n with
  | zero =>
    intro x a1 H locs ls hf hM hS hl
    exact nn hf
  | succ n ih =>
    intro x a1 H locs ls hf hM hS hl
    rw [f_X11_ends_7] at hf
    refine lv_iload_n hx hb dX11_ends_7 rfl (lv_at hl 1 rfl) ?_
    refine lv_aload_n hx hb dX11_ends_8 rfl (lv_at hl 0 rfl) ?_
    refine gm_53 hx hb hE hM hown w_4_153 dX11_ends_9 ?_
    refine lv_icmp_ge (tgt := 77) hx hb dX11_ends_12 (by decide) (fun hc_5 => ?_) (fun hc_5 => ?_)
    · replace hf := i_t hf hc_5
      exact hk x _ _ _ hf hM hS (lv_sub hl [0] rfl)
    · replace hf := i_f hf hc_5
      refine lv_aload_n hx hb dX11_ends_15 rfl (lv_at hl 0 rfl) ?_
      refine gr_66 hx hb hE hM hown w_4_150 dX11_ends_16 ?_
      refine lv_iload_n hx hb dX11_ends_19 rfl (lv_at hl 1 rfl) ?_
      obtain ⟨hi_1, hf⟩ := i_n hf
      refine la_66 hx hb hE hM hi_1 dX11_ends_20 ?_
      refine lv_aload_n hx hb dX11_ends_21 rfl (lv_at hl 0 rfl) ?_
      refine gm_45 hx hb hE hM hown w_4_145 dX11_ends_22 ?_
      refine lv_icmp_eq (tgt := 31) hx hb dX11_ends_25 (by decide) (fun hc_4 => ?_) (fun hc_4 => ?_)
      · replace hf := i_t hf hc_4
        refine lv_aload_n hx hb dX11_ends_31 rfl (lv_at hl 0 rfl) ?_
        refine gr_48 hx hb hE hM hown w_4_121 dX11_ends_32 ?_
        refine lv_aload_n hx hb dX11_ends_35 rfl (lv_at hl 0 rfl) ?_
        refine gr_66 hx hb hE hM hown w_4_150 dX11_ends_36 ?_
        refine lv_iload_n hx hb dX11_ends_39 rfl (lv_at hl 1 rfl) ?_
        refine la_66 hx hb hE hM hi_1 dX11_ends_40 ?_
        refine lv_dup2_11 hx hb dX11_ends_41 rfl rfl ?_
        obtain ⟨hi_2, hf⟩ := i_n hf
        refine la_48 hx hb hE hM hi_2 dX11_ends_42 ?_
        refine lv_aload_n hx hb dX11_ends_43 rfl (lv_at hl 0 rfl) ?_
        refine gr_68 hx hb hE hM hown w_4_152 dX11_ends_44 ?_
        refine lv_iload_n hx hb dX11_ends_47 rfl (lv_at hl 1 rfl) ?_
        refine la_68 hx hb hE hM hi_1 dX11_ends_48 ?_
        refine lv_isub hx hb dX11_ends_49 ?_
        refine sa_48 hx hb hE hM hS hi_2 dX11_ends_50 (fun H locs hM hS => ?_)
        refine lv_aload_n hx hb dX11_ends_51 rfl (lv_at hl 0 rfl) ?_
        refine gr_48 hx hb hE hM hown w_4_121 dX11_ends_52 ?_
        refine lv_aload_n hx hb dX11_ends_55 rfl (lv_at hl 0 rfl) ?_
        refine gr_67 hx hb hE hM hown w_4_151 dX11_ends_56 ?_
        refine lv_iload_n hx hb dX11_ends_59 rfl (lv_at hl 1 rfl) ?_
        refine la_67 hx hb hE hM hi_1 dX11_ends_60 ?_
        refine lv_dup2_11 hx hb dX11_ends_61 rfl rfl ?_
        obtain ⟨hi_3, hf⟩ := i_n hf
        refine la_48 hx hb hE hM hi_3 dX11_ends_62 ?_
        refine lv_aload_n hx hb dX11_ends_63 rfl (lv_at hl 0 rfl) ?_
        refine gr_68 hx hb hE hM hown w_4_152 dX11_ends_64 ?_
        refine lv_iload_n hx hb dX11_ends_67 rfl (lv_at hl 1 rfl) ?_
        refine la_68 hx hb hE hM hi_1 dX11_ends_68 ?_
        refine lv_iadd hx hb dX11_ends_69 ?_
        refine sa_48 hx hb hE hM hS hi_3 dX11_ends_70 (fun H locs hM hS => ?_)
        refine lv_iinc (v := a1 + 1) (lv' := [(1, .int (a1 + 1)), (0, .ref (ga G 41))]) hx hb dX11_ends_71 hl (k := 1) rfl rfl (by decide) rfl (fun ls hl => ?_)
        refine lv_goto (tgt := 7) hx hb dX11_ends_74 (by decide) ?_
        exact ih (mu (mu x 21 ((x 50 a1.toNatClampNeg).toNatClampNeg) ((x 21 ((x 50 a1.toNatClampNeg).toNatClampNeg)) - (x 52 a1.toNatClampNeg))) 21 ((x 51 a1.toNatClampNeg).toNatClampNeg) (((mu x 21 ((x 50 a1.toNatClampNeg).toNatClampNeg) ((x 21 ((x 50 a1.toNatClampNeg).toNatClampNeg)) - (x 52 a1.toNatClampNeg))) 21 ((x 51 a1.toNatClampNeg).toNatClampNeg)) + (x 52 a1.toNatClampNeg))) (a1 + 1) _ _ _ hf hM hS (lv_sub hl [1, 0] rfl)
      · replace hf := i_f hf hc_4
        refine lv_goto (tgt := 71) hx hb dX11_ends_28 (by decide) ?_
        refine lv_iinc (v := a1 + 1) (lv' := [(1, .int (a1 + 1)), (0, .ref (ga G 41))]) hx hb dX11_ends_71 hl (k := 1) rfl rfl (by decide) rfl (fun ls hl => ?_)
        refine lv_goto (tgt := 7) hx hb dX11_ends_74 (by decide) ?_
        exact ih x (a1 + 1) _ _ _ hf hM hS (lv_sub hl [1, 0] rfl)
set_option maxHeartbeats 4000000 in
set_option maxRecDepth 100000 in
theorem c_X11_ends (l : Launch) (fu nw : Nat) (G : GG) (x x' mo : Me) (r : Unit) (hf : f_X11_ends fu x = some (x', r)) : Met l yX11_ends [.code yX11_ends cX11_ends 2 none] rm_X11_ends (va_Pc [.ref (ga G 41)] (Pre G nw mo x)) (PV G nw mo x') 0 0 (gA G) := by
  refine mt_ofW (cc := cX11_ends) (maxL := 2) (ret := none) (by decide +kernel) rfl ?_
  intro p e s m args below meth c s₁ B hml hv
  obtain ⟨rfl, hE, hM⟩ := hv
  have hx := B.exec
  have hb := B.bytes
  have hr := B.returns
  have hown : s.vm.findClass RX11 = some m.cls := findClass_of_methodNamed B.named
  have hlocks := B.notSynchronized
  have hS : va_S (gA G) s.heap s.heap [] := va_S.rf
  have hl := lv_entry ([.ref (ga G 41)]) (n := 2) (Nat.le_of_ble_eq_true rfl)
  rw [lg_entry_eq]
  generalize (lg_sl ([.ref (ga G 41)]) ++ List.replicate (2 - (lg_sl ([.ref (ga G 41)])).length) Slot.unset).toArray = ls at hl ⊢
  have hl : lv_has ls 2 [(0, .ref (ga G 41))] := hl
  generalize ([.ref (ga G 41)] : List Value).toArray = args
  unfold f_X11_ends at hf
  refine lv_aload_n hx hb dX11_ends_0 rfl (lv_at hl 0 rfl) ?_
  refine lv_iconst (v := 5) hx hb dX11_ends_1 (by decide) ?_
  refine pm_4 hx hb hE hM hS hown w_4_104 dX11_ends_2 (fun H locs hM hS => ?_)
  refine lv_iconst (v := 0) hx hb dX11_ends_5 (by decide) ?_
  refine lv_istore_n (lv' := [(1, .int 0), (0, .ref (ga G 41))]) hx hb dX11_ends_6 rfl hl (by decide) rfl (fun ls hl => ?_)
  refine wk_X11_ends_7 hx hb hml hown hE hr hlocks ?_ fu (mu x 4 0 5) 0 _ _ _ hf hM hS (lv_sub hl [1, 0] rfl)
  intro x_6 H locs ls hf hM hS hl
  refine lv_aload_n hx hb dX11_ends_77 rfl (lv_at hl 0 rfl) ?_
  refine lv_iconst (v := 0) hx hb dX11_ends_78 (by decide) ?_
  refine pm_53 hx hb hE hM hS hown w_4_153 dX11_ends_79 (fun H locs hM hS => ?_)
  exact rt_vM hx hb hr hf hM hS dX11_ends_82 hlocks
theorem k_X11_ends {p : Program} {l : Launch} {e : Env} {R : Room} {s : State} {m : MethodId} {args : Array Value} {below : List Frame} {meth : Method} {c : Code} {H : Heap} {locs : List Loc} {cells slots : Nat} {Q : State → Prop} {cc : ByteArray} {pc nL : Nat} {ls : Array Slot} {rest : List Value} {G : GG} {fu nw : Nat} {x x' mo : Me} {own : String} {index : Nat} {r : Unit} (hx : p.tables.exec = Jvm.exec) (hb : c.code = cc) (hml : c.maxLocals = nL) (hown : s.vm.findClass own = some m.cls) (hE : EnvP G s) (hM : MemP G nw mo x H) (hS : va_S (gA G) s.heap H locs) (hw : Cond.methodLink own index yX11_ends ∈ lw_tbl) (hf : f_X11_ends fu x = some (x', r)) (h1 : 0 + 1 ≤ R.frames) (h2 : 8 + (2 + 11) + 0 ≤ R.locals) (hsz : ls.size = nL) (hW : (rest.map fun v => v.category).sum ≤ 8) (hcs : cells ≤ R.cells ∧ slots ≤ R.slots) (hdg : decode cc pc = .ok (.invokevirtual index, 3)) (kk : ∀ (H1 : Heap) (locs1 : List Loc), MemP G nw mo x' H1 → va_S (gA G) s.heap H1 locs1 → W p l e R s m args below meth c H1 locs1 cells slots Q (F0 m (pc + 3) ls rest)) : W p l e R s m args below meth c H locs cells slots Q (F0 m pc ls (.ref (ga G 41) :: rest)) := mm_kv hS (mm_runV (n := 0) (o := 41) (C := RX11) (T := TX11) (N := 54) (ci := 11) (As := []) hx hb hml hown hE hM hS (c_X11_ends l fu nw G x x' mo _ hf) (List.forall_mem_cons.mpr ⟨⟨hw, rfl⟩, List.forall_mem_cons.mpr ⟨⟨w_5_207, rfl⟩, List.forall_mem_cons.mpr ⟨⟨w_0_52, rfl⟩, List.forall_mem_cons.mpr ⟨⟨w_1_11, rfl⟩, List.forall_mem_cons.mpr ⟨⟨w_5_208, rfl⟩, fun _ h => absurd h List.not_mem_nil⟩⟩⟩⟩⟩) rfl rfl ⟨rfl, by decide, by decide, by decide +kernel⟩ ⟨h1, h2⟩ rfl rfl rfl hsz rfl hW hdg hcs) kk
def f_X11_tick_25 (fu : Nat) (b1 : Int32) (b2 : Int32) (k : Me → Int32 → Option (Me × Unit)) : Nat → Me → Int32 → Option (Me × Unit)
  | 0 => fun _ _ => none
  | n + 1 => fun x a3 => if a3 ≤ 0 then k x a3 else if inb (a3 - 1) 17 = true then ob (f_X11_isBehind fu x (x 49 ((a3 - 1).toNatClampNeg)) b2) (fun x_3 r_3 => if r_3 = 0 then k x_3 a3 else if inb a3 17 = true then f_X11_tick_25 fu b1 b2 k n (mu x_3 49 a3.toNatClampNeg (x_3 49 ((a3 - 1).toNatClampNeg))) (a3 + (-1)) else none) else none
def f_X11_tick_4 (fu : Nat) (k : Me → Int32 → Option (Me × Unit)) : Nat → Me → Int32 → Int32 → Option (Me × Unit)
  | 0 => fun _ _ _ => none
  | n + 1 => fun x a1 a2 => if (x 17 0) ≤ a2 then k x a1 else ob (f_X11_isOn fu x a2) (fun x_1 r_1 => if r_1 = 0 then f_X11_tick_4 fu k n x_1 a1 (a2 + 1) else f_X11_tick_25 fu a1 a2 (fun (x_7 : Me) (a3_7 : Int32) => if inb a3_7 17 = true then f_X11_tick_4 fu k n (mu x_7 49 a3_7.toNatClampNeg a2) (a1 + 1) (a2 + 1) else none) fu x_1 a1)
def f_X11_tick_83 (fu : Nat) (b1 : Int32) (k : Me → Option (Me × Unit)) : Nat → Me → Int32 → Option (Me × Unit)
  | 0 => fun _ _ => none
  | n + 1 => fun x a2 => if b1 ≤ a2 then k x else if inb a2 17 = true then ob (f_X11_turns fu x (x 49 a2.toNatClampNeg)) (fun x_13 _ => f_X11_tick_83 fu b1 k n x_13 (a2 + 1)) else none
def f_X11_tick (fu : Nat) (x : Me) : Option (Me × Unit) := f_X11_tick_4 fu (fun (x_11 : Me) (a1_11 : Int32) => f_X11_tick_83 fu a1_11 (fun (x_15 : Me) => if (x_15 43 0) = (x_15 30 0) then ob (f_X11_ends fu (mu x_15 44 0 ((x_15 44 0) + 1))) (fun x_16 _ => some (x_16, ())) else if ((x_15 44 0) + 1) = 400 then ob (f_X11_ends fu (mu x_15 44 0 ((x_15 44 0) + 1))) (fun x_17 _ => some (x_17, ())) else some ((mu x_15 44 0 ((x_15 44 0) + 1)), ())) fu x_11 0) fu x 0 0
def rm_X11_tick : Room := { frames := 4, cells := 0, slots := 0, locals := 91 }
set_option maxHeartbeats 4000000 in
set_option maxRecDepth 100000 in
theorem wk_X11_tick_25 {p : Program} {l : Launch} {e : Env} {s : State} {m : MethodId} {args : Array Value} {below : List Frame} {meth : Method} {c : Code} {fu nw : Nat} {G : GG} {mo : Me} {b1 : Int32} {b2 : Int32} (hx : p.tables.exec = Jvm.exec) (hb : c.code = cX11_tick) (hml : c.maxLocals = 4) (hown : s.vm.findClass RX11 = some m.cls) (hE : EnvP G s) (hr : meth.sig.returnType = none) (hlocks : meth.locks = false) {x' : Me} {r : Unit} {k : Me → Int32 → Option (Me × Unit)} (hk : ∀ (x : Me) (a3 : Int32) (H : Heap) (locs : List Loc) (ls : Array Slot), k x a3 = some (x', r) → MemP G nw mo x H → va_S (gA G) s.heap H locs → lv_has ls 4 [(0, .ref (ga G 41)), (1, .int b1), (2, .int b2), (3, .int a3)] → W p l e rm_X11_tick s m args below meth c H locs 0 0 (MQ below (PV G nw mo x') args s 0 0 (gA G)) (F0 m 65 ls [])) : ∀ (n : Nat) (x : Me) (a3 : Int32) (H : Heap) (locs : List Loc) (ls : Array Slot), f_X11_tick_25 fu b1 b2 k n x a3 = some (x', r) → MemP G nw mo x H → va_S (gA G) s.heap H locs → lv_has ls 4 [(0, .ref (ga G 41)), (1, .int b1), (2, .int b2), (3, .int a3)] → W p l e rm_X11_tick s m args below meth c H locs 0 0 (MQ below (PV G nw mo x') args s 0 0 (gA G)) (F0 m 25 ls []) := by
  intro n
  induction n with
  | zero =>
    intro x a3 H locs ls hf hM hS hl
    exact nn hf
  | succ n ih =>
    intro x a3 H locs ls hf hM hS hl
    rw [f_X11_tick_25] at hf
    refine lv_iload_n hx hb dX11_tick_25 rfl (lv_at hl 3 rfl) ?_
    refine lv_if_le (tgt := 65) hx hb dX11_tick_26 (by decide) (fun hc_6 => ?_) (fun hc_6 => ?_)
    · replace hf := i_t hf hc_6
      exact hk x a3 _ _ _ hf hM hS (lv_sub hl [0, 1, 2, 3] rfl)
    · replace hf := i_f hf hc_6
      refine lv_aload_n hx hb dX11_tick_29 rfl (lv_at hl 0 rfl) ?_
      refine lv_aload_n hx hb dX11_tick_30 rfl (lv_at hl 0 rfl) ?_
      refine gr_65 hx hb hE hM hown w_4_149 dX11_tick_31 ?_
      refine lv_iload_n hx hb dX11_tick_34 rfl (lv_at hl 3 rfl) ?_
      refine lv_iconst (v := 1) hx hb dX11_tick_35 (by decide) ?_
      refine lv_isub hx hb dX11_tick_36 ?_
      obtain ⟨hi_2, hf⟩ := i_n hf
      refine la_65 hx hb hE hM hi_2 dX11_tick_37 ?_
      refine lv_iload_n hx hb dX11_tick_38 rfl (lv_at hl 2 rfl) ?_
      obtain ⟨x_3, r_3, hq_3, hf⟩ := ob_some hf
      refine k_X11_isBehind hx hb hml hown hE hM hS w_5_178 hq_3 (Nat.le_of_ble_eq_true rfl) (Nat.le_of_ble_eq_true rfl) hl.1 (Nat.le_of_ble_eq_true rfl) ⟨Nat.zero_le _, Nat.zero_le _⟩ dX11_tick_39 (fun H locs hM hS => ?_)
      refine lv_if_eq (tgt := 65) hx hb dX11_tick_42 (by decide) (fun hc_5 => ?_) (fun hc_5 => ?_)
      · replace hf := i_t hf hc_5
        exact hk x_3 a3 _ _ _ hf hM hS (lv_sub hl [0, 1, 2, 3] rfl)
      · replace hf := i_f hf hc_5
        refine lv_aload_n hx hb dX11_tick_45 rfl (lv_at hl 0 rfl) ?_
        refine gr_65 hx hb hE hM hown w_4_149 dX11_tick_46 ?_
        refine lv_iload_n hx hb dX11_tick_49 rfl (lv_at hl 3 rfl) ?_
        refine lv_aload_n hx hb dX11_tick_50 rfl (lv_at hl 0 rfl) ?_
        refine gr_65 hx hb hE hM hown w_4_149 dX11_tick_51 ?_
        refine lv_iload_n hx hb dX11_tick_54 rfl (lv_at hl 3 rfl) ?_
        refine lv_iconst (v := 1) hx hb dX11_tick_55 (by decide) ?_
        refine lv_isub hx hb dX11_tick_56 ?_
        refine la_65 hx hb hE hM hi_2 dX11_tick_57 ?_
        obtain ⟨hi_4, hf⟩ := i_n hf
        refine sa_65 hx hb hE hM hS hi_4 dX11_tick_58 (fun H locs hM hS => ?_)
        refine lv_iinc (v := a3 + (-1)) (lv' := [(3, .int (a3 + (-1))), (0, .ref (ga G 41)), (1, .int b1), (2, .int b2)]) hx hb dX11_tick_59 hl (k := 3) rfl rfl (by decide) rfl (fun ls hl => ?_)
        refine lv_goto (tgt := 25) hx hb dX11_tick_62 (by decide) ?_
        exact ih (mu x_3 49 a3.toNatClampNeg (x_3 49 ((a3 - 1).toNatClampNeg))) (a3 + (-1)) _ _ _ hf hM hS (lv_sub hl [1, 2, 3, 0] rfl)
set_option maxHeartbeats 4000000 in
set_option maxRecDepth 100000 in
theorem wk_X11_tick_4 {p : Program} {l : Launch} {e : Env} {s : State} {m : MethodId} {args : Array Value} {below : List Frame} {meth : Method} {c : Code} {fu nw : Nat} {G : GG} {mo : Me} (hx : p.tables.exec = Jvm.exec) (hb : c.code = cX11_tick) (hml : c.maxLocals = 4) (hown : s.vm.findClass RX11 = some m.cls) (hE : EnvP G s) (hr : meth.sig.returnType = none) (hlocks : meth.locks = false) {x' : Me} {r : Unit} {k : Me → Int32 → Option (Me × Unit)} (hk : ∀ (x : Me) (a1 : Int32) (H : Heap) (locs : List Loc) (ls : Array Slot), k x a1 = some (x', r) → MemP G nw mo x H → va_S (gA G) s.heap H locs → lv_has ls 4 [(0, .ref (ga G 41)), (1, .int a1)] → W p l e rm_X11_tick s m args below meth c H locs 0 0 (MQ below (PV G nw mo x') args s 0 0 (gA G)) (F0 m 81 ls [])) : ∀ (n : Nat) (x : Me) (a1 : Int32) (a2 : Int32) (H : Heap) (locs : List Loc) (ls : Array Slot), f_X11_tick_4 fu k n x a1 a2 = some (x', r) → MemP G nw mo x H → va_S (gA G) s.heap H locs → lv_has ls 4 [(0, .ref (ga G 41)), (1, .int a1), (2, .int a2)] → W p l e rm_X11_tick s m args below meth c H locs 0 0 (MQ below (PV G nw mo x') args s 0 0 (gA G)) (F0 m 4 ls []) := by
  intro n
  induction n with
  | zero =>
    intro x a1 a2 H locs ls hf hM hS hl
    exact nn hf
  | succ n ih =>
    intro x a1 a2 H locs ls hf hM hS hl
    rw [f_X11_tick_4] at hf
    refine lv_iload_n hx hb dX11_tick_4 rfl (lv_at hl 2 rfl) ?_
    refine lv_aload_n hx hb dX11_tick_5 rfl (lv_at hl 0 rfl) ?_
    refine gm_17 hx hb hE hM hown w_4_117 dX11_tick_6 ?_
    refine lv_icmp_ge (tgt := 81) hx hb dX11_tick_9 (by decide) (fun hc_10 => ?_) (fun hc_10 => ?_)
    · replace hf := i_t hf hc_10
      exact hk x a1 _ _ _ hf hM hS (lv_sub hl [0, 1] rfl)
    · replace hf := i_f hf hc_10
      refine lv_aload_n hx hb dX11_tick_12 rfl (lv_at hl 0 rfl) ?_
      refine lv_iload_n hx hb dX11_tick_13 rfl (lv_at hl 2 rfl) ?_
      obtain ⟨x_1, r_1, hq_1, hf⟩ := ob_some hf
      refine k_X11_isOn hx hb hml hown hE hM hS w_5_174 hq_1 (Nat.le_of_ble_eq_true rfl) (Nat.le_of_ble_eq_true rfl) hl.1 (Nat.le_of_ble_eq_true rfl) ⟨Nat.zero_le _, Nat.zero_le _⟩ dX11_tick_14 (fun H locs hM hS => ?_)
      refine lv_if_ne (tgt := 23) hx hb dX11_tick_17 (by decide) (fun hc_9 => ?_) (fun hc_9 => ?_)
      · replace hf := i_f hf hc_9
        refine lv_iload_n hx hb dX11_tick_23 rfl (lv_at hl 1 rfl) ?_
        refine lv_istore_n (lv' := [(3, .int a1), (0, .ref (ga G 41)), (1, .int a1), (2, .int a2)]) hx hb dX11_tick_24 rfl hl (by decide) rfl (fun ls hl => ?_)
        refine wk_X11_tick_25 hx hb hml hown hE hr hlocks ?_ fu x_1 a1 _ _ _ hf hM hS (lv_sub hl [1, 2, 3, 0] rfl)
        intro x_7 a3_7 H locs ls hf hM hS hl
        refine lv_aload_n hx hb dX11_tick_65 rfl (lv_at hl 0 rfl) ?_
        refine gr_65 hx hb hE hM hown w_4_149 dX11_tick_66 ?_
        refine lv_iload_n hx hb dX11_tick_69 rfl (lv_at hl 3 rfl) ?_
        refine lv_iload_n hx hb dX11_tick_70 rfl (lv_at hl 2 rfl) ?_
        obtain ⟨hi_8, hf⟩ := i_n hf
        refine sa_65 hx hb hE hM hS hi_8 dX11_tick_71 (fun H locs hM hS => ?_)
        refine lv_iinc (v := a1 + 1) (lv' := [(1, .int (a1 + 1)), (0, .ref (ga G 41)), (2, .int a2), (3, .int a3_7)]) hx hb dX11_tick_72 hl (k := 1) rfl rfl (by decide) rfl (fun ls hl => ?_)
        refine lv_iinc (v := a2 + 1) (lv' := [(2, .int (a2 + 1)), (1, .int (a1 + 1)), (0, .ref (ga G 41)), (3, .int a3_7)]) hx hb dX11_tick_75 hl (k := 2) rfl rfl (by decide) rfl (fun ls hl => ?_)
        refine lv_goto (tgt := 4) hx hb dX11_tick_78 (by decide) ?_
        exact ih (mu x_7 49 a3_7.toNatClampNeg a2) (a1 + 1) (a2 + 1) _ _ _ hf hM hS (lv_sub hl [2, 1, 0] rfl)
      · replace hf := i_t hf hc_9
        refine lv_goto (tgt := 75) hx hb dX11_tick_20 (by decide) ?_
        refine lv_iinc (v := a2 + 1) (lv' := [(2, .int (a2 + 1)), (0, .ref (ga G 41)), (1, .int a1)]) hx hb dX11_tick_75 hl (k := 2) rfl rfl (by decide) rfl (fun ls hl => ?_)
        refine lv_goto (tgt := 4) hx hb dX11_tick_78 (by decide) ?_
        exact ih x_1 a1 (a2 + 1) _ _ _ hf hM hS (lv_sub hl [1, 2, 0] rfl)
set_option maxHeartbeats 4000000 in
set_option maxRecDepth 100000 in
theorem wk_X11_tick_83 {p : Program} {l : Launch} {e : Env} {s : State} {m : MethodId} {args : Array Value} {below : List Frame} {meth : Method} {c : Code} {fu nw : Nat} {G : GG} {mo : Me} {b1 : Int32} (hx : p.tables.exec = Jvm.exec) (hb : c.code = cX11_tick) (hml : c.maxLocals = 4) (hown : s.vm.findClass RX11 = some m.cls) (hE : EnvP G s) (hr : meth.sig.returnType = none) (hlocks : meth.locks = false) {x' : Me} {r : Unit} {k : Me → Option (Me × Unit)} (hk : ∀ (x : Me) (H : Heap) (locs : List Loc) (ls : Array Slot), k x = some (x', r) → MemP G nw mo x H → va_S (gA G) s.heap H locs → lv_has ls 4 [(0, .ref (ga G 41))] → W p l e rm_X11_tick s m args below meth c H locs 0 0 (MQ below (PV G nw mo x') args s 0 0 (gA G)) (F0 m 104 ls [])) : ∀ (n : Nat) (x : Me) (a2 : Int32) (H : Heap) (locs : List Loc) (ls : Array Slot), f_X11_tick_83 fu b1 k n x a2 = some (x', r) → MemP G nw mo x H → va_S (gA G) s.heap H locs → lv_has ls 4 [(0, .ref (ga G 41)), (1, .int b1), (2, .int a2)] → W p l e rm_X11_tick s m args below meth c H locs 0 0 (MQ below (PV G nw mo x') args s 0 0 (gA G)) (F0 m 83 ls []) := by
  intro n
  induction n with
  | zero =>
    intro x a2 H locs ls hf hM hS hl
    exact nn hf
  | succ n ih =>
    intro x a2 H locs ls hf hM hS hl
    rw [f_X11_tick_83] at hf
    refine lv_iload_n hx hb dX11_tick_83 rfl (lv_at hl 2 rfl) ?_
    refine lv_iload_n hx hb dX11_tick_84 rfl (lv_at hl 1 rfl) ?_
    refine lv_icmp_ge (tgt := 104) hx hb dX11_tick_85 (by decide) (fun hc_14 => ?_) (fun hc_14 => ?_)
    · replace hf := i_t hf hc_14
      exact hk x _ _ _ hf hM hS (lv_sub hl [0] rfl)
    · replace hf := i_f hf hc_14
      refine lv_aload_n hx hb dX11_tick_88 rfl (lv_at hl 0 rfl) ?_
      refine lv_aload_n hx hb dX11_tick_89 rfl (lv_at hl 0 rfl) ?_
      refine gr_65 hx hb hE hM hown w_4_149 dX11_tick_90 ?_
      refine lv_iload_n hx hb dX11_tick_93 rfl (lv_at hl 2 rfl) ?_
      obtain ⟨hi_12, hf⟩ := i_n hf
      refine la_65 hx hb hE hM hi_12 dX11_tick_94 ?_
      obtain ⟨x_13, r_13, hq_13, hf⟩ := ob_some hf
      refine k_X11_turns hx hb hml hown hE hM hS w_5_182 hq_13 (Nat.le_of_ble_eq_true rfl) (Nat.le_of_ble_eq_true rfl) hl.1 (Nat.le_of_ble_eq_true rfl) ⟨Nat.zero_le _, Nat.zero_le _⟩ dX11_tick_95 (fun H locs hM hS => ?_)
      refine lv_iinc (v := a2 + 1) (lv' := [(2, .int (a2 + 1)), (0, .ref (ga G 41)), (1, .int b1)]) hx hb dX11_tick_98 hl (k := 2) rfl rfl (by decide) rfl (fun ls hl => ?_)
      refine lv_goto (tgt := 83) hx hb dX11_tick_101 (by decide) ?_
      exact ih x_13 (a2 + 1) _ _ _ hf hM hS (lv_sub hl [1, 2, 0] rfl)
set_option maxHeartbeats 4000000 in
set_option maxRecDepth 100000 in
theorem c_X11_tick (l : Launch) (fu nw : Nat) (G : GG) (x x' mo : Me) (r : Unit) (hf : f_X11_tick fu x = some (x', r)) : Met l yX11_tick [.code yX11_tick cX11_tick 4 none] rm_X11_tick (va_Pc [.ref (ga G 41)] (Pre G nw mo x)) (PV G nw mo x') 0 0 (gA G) := by
  refine mt_ofW (cc := cX11_tick) (maxL := 4) (ret := none) (by decide +kernel) rfl ?_
  intro p e s m args below meth c s₁ B hml hv
  obtain ⟨rfl, hE, hM⟩ := hv
  have hx := B.exec
  have hb := B.bytes
  have hr := B.returns
  have hown : s.vm.findClass RX11 = some m.cls := findClass_of_methodNamed B.named
  have hlocks := B.notSynchronized
  have hS : va_S (gA G) s.heap s.heap [] := va_S.rf
  have hl := lv_entry ([.ref (ga G 41)]) (n := 4) (Nat.le_of_ble_eq_true rfl)
  rw [lg_entry_eq]
  generalize (lg_sl ([.ref (ga G 41)]) ++ List.replicate (4 - (lg_sl ([.ref (ga G 41)])).length) Slot.unset).toArray = ls at hl ⊢
  have hl : lv_has ls 4 [(0, .ref (ga G 41))] := hl
  generalize ([.ref (ga G 41)] : List Value).toArray = args
  unfold f_X11_tick at hf
  refine lv_iconst (v := 0) hx hb dX11_tick_0 (by decide) ?_
  refine lv_istore_n (lv' := [(1, .int 0), (0, .ref (ga G 41))]) hx hb dX11_tick_1 rfl hl (by decide) rfl (fun ls hl => ?_)
  refine lv_iconst (v := 0) hx hb dX11_tick_2 (by decide) ?_
  refine lv_istore_n (lv' := [(2, .int 0), (1, .int 0), (0, .ref (ga G 41))]) hx hb dX11_tick_3 rfl hl (by decide) rfl (fun ls hl => ?_)
  refine wk_X11_tick_4 hx hb hml hown hE hr hlocks ?_ fu x 0 0 _ _ _ hf hM hS (lv_sub hl [2, 1, 0] rfl)
  intro x_11 a1_11 H locs ls hf hM hS hl
  refine lv_iconst (v := 0) hx hb dX11_tick_81 (by decide) ?_
  refine lv_istore_n (lv' := [(2, .int 0), (0, .ref (ga G 41)), (1, .int a1_11)]) hx hb dX11_tick_82 rfl hl (by decide) rfl (fun ls hl => ?_)
  refine wk_X11_tick_83 hx hb hml hown hE hr hlocks ?_ fu x_11 0 _ _ _ hf hM hS (lv_sub hl [1, 2, 0] rfl)
  intro x_15 H locs ls hf hM hS hl
  refine lv_aload_n hx hb dX11_tick_104 rfl (lv_at hl 0 rfl) ?_
  refine lv_dup hx hb dX11_tick_105 rfl ?_
  refine gm_44 hx hb hE hM hown w_4_144 dX11_tick_106 ?_
  refine lv_iconst (v := 1) hx hb dX11_tick_109 (by decide) ?_
  refine lv_iadd hx hb dX11_tick_110 ?_
  refine pm_44 hx hb hE hM hS hown w_4_144 dX11_tick_111 (fun H locs hM hS => ?_)
  refine lv_aload_n hx hb dX11_tick_114 rfl (lv_at hl 0 rfl) ?_
  refine gm_43 hx hb hE hM hown w_4_143 dX11_tick_115 ?_
  refine lv_aload_n hx hb dX11_tick_118 rfl (lv_at hl 0 rfl) ?_
  refine gm_30 hx hb hE hM hown w_4_130 dX11_tick_119 ?_
  refine lv_icmp_eq (tgt := 135) hx hb dX11_tick_122 (by decide) (fun hc_19 => ?_) (fun hc_19 => ?_)
  · replace hf := i_t hf hc_19
    refine lv_aload_n hx hb dX11_tick_135 rfl (lv_at hl 0 rfl) ?_
    obtain ⟨x_16, r_16, hq_16, hf⟩ := ob_some hf
    refine k_X11_ends hx hb hml hown hE hM hS w_5_205 hq_16 (Nat.le_of_ble_eq_true rfl) (Nat.le_of_ble_eq_true rfl) hl.1 (Nat.le_of_ble_eq_true rfl) ⟨Nat.zero_le _, Nat.zero_le _⟩ dX11_tick_136 (fun H locs hM hS => ?_)
    exact rt_vM hx hb hr hf hM hS dX11_tick_139 hlocks
  · replace hf := i_f hf hc_19
    refine lv_aload_n hx hb dX11_tick_125 rfl (lv_at hl 0 rfl) ?_
    refine gm_44 hx hb hE hM hown w_4_144 dX11_tick_126 ?_
    refine lv_sipush (v := 400) hx hb dX11_tick_129 (by decide) ?_
    refine lv_icmp_ne (tgt := 139) hx hb dX11_tick_132 (by decide) (fun hc_18 => ?_) (fun hc_18 => ?_)
    · replace hf := i_f hf hc_18
      exact rt_vM hx hb hr hf hM hS dX11_tick_139 hlocks
    · replace hf := i_t hf hc_18
      refine lv_aload_n hx hb dX11_tick_135 rfl (lv_at hl 0 rfl) ?_
      obtain ⟨x_17, r_17, hq_17, hf⟩ := ob_some hf
      refine k_X11_ends hx hb hml hown hE hM hS w_5_205 hq_17 (Nat.le_of_ble_eq_true rfl) (Nat.le_of_ble_eq_true rfl) hl.1 (Nat.le_of_ble_eq_true rfl) ⟨Nat.zero_le _, Nat.zero_le _⟩ dX11_tick_136 (fun H locs hM hS => ?_)
      exact rt_vM hx hb hr hf hM hS dX11_tick_139 hlocks
theorem k_X11_tick {p : Program} {l : Launch} {e : Env} {R : Room} {s : State} {m : MethodId} {args : Array Value} {below : List Frame} {meth : Method} {c : Code} {H : Heap} {locs : List Loc} {cells slots : Nat} {Q : State → Prop} {cc : ByteArray} {pc nL : Nat} {ls : Array Slot} {rest : List Value} {G : GG} {fu nw : Nat} {x x' mo : Me} {own : String} {index : Nat} {r : Unit} (hx : p.tables.exec = Jvm.exec) (hb : c.code = cc) (hml : c.maxLocals = nL) (hown : s.vm.findClass own = some m.cls) (hE : EnvP G s) (hM : MemP G nw mo x H) (hS : va_S (gA G) s.heap H locs) (hw : Cond.methodLink own index yX11_tick ∈ lw_tbl) (hf : f_X11_tick fu x = some (x', r)) (h1 : 4 + 1 ≤ R.frames) (h2 : 8 + (4 + 11) + 91 ≤ R.locals) (hsz : ls.size = nL) (hW : (rest.map fun v => v.category).sum ≤ 8) (hcs : cells ≤ R.cells ∧ slots ≤ R.slots) (hdg : decode cc pc = .ok (.invokevirtual index, 3)) (kk : ∀ (H1 : Heap) (locs1 : List Loc), MemP G nw mo x' H1 → va_S (gA G) s.heap H1 locs1 → W p l e R s m args below meth c H1 locs1 cells slots Q (F0 m (pc + 3) ls rest)) : W p l e R s m args below meth c H locs cells slots Q (F0 m pc ls (.ref (ga G 41) :: rest)) := mm_kv hS (mm_runV (n := 0) (o := 41) (C := RX11) (T := TX11) (N := 54) (ci := 11) (As := []) hx hb hml hown hE hM hS (c_X11_tick l fu nw G x x' mo _ hf) (List.forall_mem_cons.mpr ⟨⟨hw, rfl⟩, List.forall_mem_cons.mpr ⟨⟨w_5_172, rfl⟩, List.forall_mem_cons.mpr ⟨⟨w_0_44, rfl⟩, List.forall_mem_cons.mpr ⟨⟨w_1_11, rfl⟩, List.forall_mem_cons.mpr ⟨⟨w_5_173, rfl⟩, fun _ h => absurd h List.not_mem_nil⟩⟩⟩⟩⟩) rfl rfl ⟨rfl, by decide, by decide, by decide +kernel⟩ ⟨h1, h2⟩ rfl rfl rfl hsz rfl hW hdg hcs) kk
def f_X11_go_29 (fu : Nat) (b1 : Int32) (k : Me → Int32 → Option (Me × Int32)) : Nat → Me → Int32 → Option (Me × Int32)
  | 0 => fun _ _ => none
  | n + 1 => fun x a2 => if b1 ≤ a2 then k x a2 else if (x 4 0) = 4 then ob (f_X11_tick fu x) (fun x_1 _ => f_X11_go_29 fu b1 k n x_1 (a2 + 1)) else k x a2
def f_X11_go (fu : Nat) (x : Me) (a1 : Int32) : Option (Me × Int32) := if a1 < 1 then some ((mu x 0 0 0), (-1)) else if 400 < a1 then some ((mu x 0 0 0), (-1)) else if (x 4 0) = 4 then f_X11_go_29 fu a1 (fun (x_4 : Me) (a2_4 : Int32) => some (x_4, a2_4)) fu (mu x 0 0 0) 0 else some ((mu x 0 0 0), (-1))
def rm_X11_go : Room := { frames := 5, cells := 0, slots := 0, locals := 114 }
set_option maxHeartbeats 4000000 in
set_option maxRecDepth 100000 in
theorem wk_X11_go_29 {p : Program} {l : Launch} {e : Env} {s : State} {m : MethodId} {args : Array Value} {below : List Frame} {meth : Method} {c : Code} {fu nw : Nat} {G : GG} {mo : Me} {b1 : Int32} (hx : p.tables.exec = Jvm.exec) (hb : c.code = cX11_go) (hml : c.maxLocals = 3) (hown : s.vm.findClass RX11 = some m.cls) (hE : EnvP G s) (hr : meth.sig.returnType = (some .int)) (hlocks : meth.locks = false) {x' : Me} {r : Int32} {k : Me → Int32 → Option (Me × Int32)} (hk : ∀ (x : Me) (a2 : Int32) (H : Heap) (locs : List Loc) (ls : Array Slot), k x a2 = some (x', r) → MemP G nw mo x H → va_S (gA G) s.heap H locs → lv_has ls 3 [(2, .int a2)] → W p l e rm_X11_go s m args below meth c H locs 0 0 (MQ below (PI G nw mo x' r) args s 0 0 (gA G)) (F0 m 52 ls [])) : ∀ (n : Nat) (x : Me) (a2 : Int32) (H : Heap) (locs : List Loc) (ls : Array Slot), f_X11_go_29 fu b1 k n x a2 = some (x', r) → MemP G nw mo x H → va_S (gA G) s.heap H locs → lv_has ls 3 [(0, .ref (ga G 41)), (1, .int b1), (2, .int a2)] → W p l e rm_X11_go s m args below meth c H locs 0 0 (MQ below (PI G nw mo x' r) args s 0 0 (gA G)) (F0 m 29 ls []) := by
  intro n
  induction n with
  | zero =>
    intro x a2 H locs ls hf hM hS hl
    exact nn hf
  | succ n ih =>
    intro x a2 H locs ls hf hM hS hl
    rw [f_X11_go_29] at hf
    refine lv_iload_n hx hb dX11_go_29 rfl (lv_at hl 2 rfl) ?_
    refine lv_iload_n hx hb dX11_go_30 rfl (lv_at hl 1 rfl) ?_
    refine lv_icmp_ge (tgt := 52) hx hb dX11_go_31 (by decide) (fun hc_3 => ?_) (fun hc_3 => ?_)
    · replace hf := i_t hf hc_3
      exact hk x a2 _ _ _ hf hM hS (lv_sub hl [2] rfl)
    · replace hf := i_f hf hc_3
      refine lv_aload_n hx hb dX11_go_34 rfl (lv_at hl 0 rfl) ?_
      refine gm_4 hx hb hE hM hown w_4_104 dX11_go_35 ?_
      refine lv_iconst (v := 4) hx hb dX11_go_38 (by decide) ?_
      refine lv_icmp_ne (tgt := 52) hx hb dX11_go_39 (by decide) (fun hc_2 => ?_) (fun hc_2 => ?_)
      · replace hf := i_f hf hc_2
        exact hk x a2 _ _ _ hf hM hS (lv_sub hl [2] rfl)
      · replace hf := i_t hf hc_2
        refine lv_aload_n hx hb dX11_go_42 rfl (lv_at hl 0 rfl) ?_
        obtain ⟨x_1, r_1, hq_1, hf⟩ := ob_some hf
        refine k_X11_tick hx hb hml hown hE hM hS w_5_170 hq_1 (Nat.le_of_ble_eq_true rfl) (Nat.le_of_ble_eq_true rfl) hl.1 (Nat.le_of_ble_eq_true rfl) ⟨Nat.zero_le _, Nat.zero_le _⟩ dX11_go_43 (fun H locs hM hS => ?_)
        refine lv_iinc (v := a2 + 1) (lv' := [(2, .int (a2 + 1)), (0, .ref (ga G 41)), (1, .int b1)]) hx hb dX11_go_46 hl (k := 2) rfl rfl (by decide) rfl (fun ls hl => ?_)
        refine lv_goto (tgt := 29) hx hb dX11_go_49 (by decide) ?_
        exact ih x_1 (a2 + 1) _ _ _ hf hM hS (lv_sub hl [1, 2, 0] rfl)
set_option maxHeartbeats 4000000 in
set_option maxRecDepth 100000 in
theorem c_X11_go (l : Launch) (fu nw : Nat) (G : GG) (x x' mo : Me) (a1 : Int32) (r : Int32) (hf : f_X11_go fu x a1 = some (x', r)) : Met l yX11_go [.code yX11_go cX11_go 3 (some .int)] rm_X11_go (va_Pc [.ref (ga G 41), .int a1] (Pre G nw mo x)) (PI G nw mo x' r) 0 0 (gA G) := by
  refine mt_ofW (cc := cX11_go) (maxL := 3) (ret := (some .int)) (by decide +kernel) rfl ?_
  intro p e s m args below meth c s₁ B hml hv
  obtain ⟨rfl, hE, hM⟩ := hv
  have hx := B.exec
  have hb := B.bytes
  have hr := B.returns
  have hown : s.vm.findClass RX11 = some m.cls := findClass_of_methodNamed B.named
  have hlocks := B.notSynchronized
  have hS : va_S (gA G) s.heap s.heap [] := va_S.rf
  have hl := lv_entry ([.ref (ga G 41), .int a1]) (n := 3) (Nat.le_of_ble_eq_true rfl)
  rw [lg_entry_eq]
  generalize (lg_sl ([.ref (ga G 41), .int a1]) ++ List.replicate (3 - (lg_sl ([.ref (ga G 41), .int a1])).length) Slot.unset).toArray = ls at hl ⊢
  have hl : lv_has ls 3 [(0, .ref (ga G 41)), (1, .int a1)] := hl
  generalize ([.ref (ga G 41), .int a1] : List Value).toArray = args
  unfold f_X11_go at hf
  refine lv_aload_n hx hb dX11_go_0 rfl (lv_at hl 0 rfl) ?_
  refine lv_iconst (v := 0) hx hb dX11_go_1 (by decide) ?_
  refine pm_0 hx hb hE hM hS hown w_4_100 dX11_go_2 (fun H locs hM hS => ?_)
  refine lv_iload_n hx hb dX11_go_5 rfl (lv_at hl 1 rfl) ?_
  refine lv_iconst (v := 1) hx hb dX11_go_6 (by decide) ?_
  refine lv_icmp_lt (tgt := 25) hx hb dX11_go_7 (by decide) (fun hc_7 => ?_) (fun hc_7 => ?_)
  · replace hf := i_t hf hc_7
    refine lv_iconst (v := (-1)) hx hb dX11_go_25 (by decide) ?_
    exact rt_iM hx hb hr hf hM hS dX11_go_26 hlocks
  · replace hf := i_f hf hc_7
    refine lv_iload_n hx hb dX11_go_10 rfl (lv_at hl 1 rfl) ?_
    refine lv_sipush (v := 400) hx hb dX11_go_11 (by decide) ?_
    refine lv_icmp_gt (tgt := 25) hx hb dX11_go_14 (by decide) (fun hc_6 => ?_) (fun hc_6 => ?_)
    · replace hf := i_t hf hc_6
      refine lv_iconst (v := (-1)) hx hb dX11_go_25 (by decide) ?_
      exact rt_iM hx hb hr hf hM hS dX11_go_26 hlocks
    · replace hf := i_f hf hc_6
      refine lv_aload_n hx hb dX11_go_17 rfl (lv_at hl 0 rfl) ?_
      refine gm_4 hx hb hE hM hown w_4_104 dX11_go_18 ?_
      refine lv_iconst (v := 4) hx hb dX11_go_21 (by decide) ?_
      refine lv_icmp_eq (tgt := 27) hx hb dX11_go_22 (by decide) (fun hc_5 => ?_) (fun hc_5 => ?_)
      · replace hf := i_t hf hc_5
        refine lv_iconst (v := 0) hx hb dX11_go_27 (by decide) ?_
        refine lv_istore_n (lv' := [(2, .int 0), (0, .ref (ga G 41)), (1, .int a1)]) hx hb dX11_go_28 rfl hl (by decide) rfl (fun ls hl => ?_)
        refine wk_X11_go_29 hx hb hml hown hE hr hlocks ?_ fu (mu x 0 0 0) 0 _ _ _ hf hM hS (lv_sub hl [1, 2, 0] rfl)
        intro x_4 a2_4 H locs ls hf hM hS hl
        refine lv_iload_n hx hb dX11_go_52 rfl (lv_at hl 0 rfl) ?_
        exact rt_iM hx hb hr hf hM hS dX11_go_53 hlocks
      · replace hf := i_f hf hc_5
        refine lv_iconst (v := (-1)) hx hb dX11_go_25 (by decide) ?_
        exact rt_iM hx hb hr hf hM hS dX11_go_26 hlocks
theorem k_X11_go {p : Program} {l : Launch} {e : Env} {R : Room} {s : State} {m : MethodId} {args : Array Value} {below : List Frame} {meth : Method} {c : Code} {H : Heap} {locs : List Loc} {cells slots : Nat} {Q : State → Prop} {cc : ByteArray} {pc nL : Nat} {ls : Array Slot} {rest : List Value} {G : GG} {fu nw : Nat} {x x' mo : Me} {own : String} {index : Nat} {a1 : Int32} {r : Int32} (hx : p.tables.exec = Jvm.exec) (hb : c.code = cc) (hml : c.maxLocals = nL) (hown : s.vm.findClass own = some m.cls) (hE : EnvP G s) (hM : MemP G nw mo x H) (hS : va_S (gA G) s.heap H locs) (hw : Cond.methodLink own index yX11_go ∈ lw_tbl) (hf : f_X11_go fu x a1 = some (x', r)) (h1 : 5 + 1 ≤ R.frames) (h2 : 8 + (3 + 11) + 114 ≤ R.locals) (hsz : ls.size = nL) (hW : (rest.map fun v => v.category).sum ≤ 8) (hcs : cells ≤ R.cells ∧ slots ≤ R.slots) (hdg : decode cc pc = .ok (.invokevirtual index, 3)) (kk : ∀ (H1 : Heap) (locs1 : List Loc), MemP G nw mo x' H1 → va_S (gA G) s.heap H1 locs1 → W p l e R s m args below meth c H1 locs1 cells slots Q (F0 m (pc + 3) ls (.int r :: rest))) : W p l e R s m args below meth c H locs cells slots Q (F0 m pc ls (.int a1 :: .ref (ga G 41) :: rest)) := mm_ki hS (mm_runV (n := 1) (o := 41) (C := RX11) (T := TX11) (N := 54) (ci := 11) (As := [.int a1]) hx hb hml hown hE hM hS (c_X11_go l fu nw G x x' mo a1 _ hf) (List.forall_mem_cons.mpr ⟨⟨hw, rfl⟩, List.forall_mem_cons.mpr ⟨⟨w_5_167, rfl⟩, List.forall_mem_cons.mpr ⟨⟨w_5_168, rfl⟩, List.forall_mem_cons.mpr ⟨⟨w_1_11, rfl⟩, List.forall_mem_cons.mpr ⟨⟨w_5_169, rfl⟩, fun _ h => absurd h List.not_mem_nil⟩⟩⟩⟩⟩) rfl rfl ⟨rfl, by decide, by decide, by decide +kernel⟩ ⟨h1, h2⟩ rfl rfl rfl hsz rfl hW hdg hcs) kk
def f_X11_race (fu : Nat) (x : Me) (a1 : Int32) (a2 : Int32) : Option (Me × Int32) := if (x 4 0) < 4 then some ((mu x 0 0 0), (-100)) else ob (f_X11_runs fu (mu x 0 0 0) a1) (fun x_1 r_1 => if r_1 = 0 then some (x_1, (-100)) else if a2 = 0 then if inb a1 17 = true then some (x_1, x_1 37 a1.toNatClampNeg) else none else if a2 = 1 then if inb a1 17 = true then some (x_1, x_1 38 a1.toNatClampNeg) else none else if a2 = 2 then if inb a1 17 = true then some (x_1, x_1 39 a1.toNatClampNeg) else none else if a2 = 3 then if inb a1 17 = true then if (x_1 40 a1.toNatClampNeg) = 0 then some (x_1, 0) else some (x_1, 1) else none else if a2 = 4 then if inb a1 17 = true then some (x_1, x_1 41 a1.toNatClampNeg) else none else if a2 = 5 then if inb a1 17 = true then some (x_1, x_1 42 a1.toNatClampNeg) else none else some (x_1, (-100)))
def rm_X11_race : Room := { frames := 2, cells := 0, slots := 0, locals := 42 }
set_option maxHeartbeats 4000000 in
set_option maxRecDepth 100000 in
theorem c_X11_race (l : Launch) (fu nw : Nat) (G : GG) (x x' mo : Me) (a1 : Int32) (a2 : Int32) (r : Int32) (hf : f_X11_race fu x a1 a2 = some (x', r)) : Met l yX11_race [.code yX11_race cX11_race 3 (some .int)] rm_X11_race (va_Pc [.ref (ga G 41), .int a1, .int a2] (Pre G nw mo x)) (PI G nw mo x' r) 0 0 (gA G) := by
  refine mt_ofW (cc := cX11_race) (maxL := 3) (ret := (some .int)) (by decide +kernel) rfl ?_
  intro p e s m args below meth c s₁ B hml hv
  obtain ⟨rfl, hE, hM⟩ := hv
  have hx := B.exec
  have hb := B.bytes
  have hr := B.returns
  have hown : s.vm.findClass RX11 = some m.cls := findClass_of_methodNamed B.named
  have hlocks := B.notSynchronized
  have hS : va_S (gA G) s.heap s.heap [] := va_S.rf
  have hl := lv_entry ([.ref (ga G 41), .int a1, .int a2]) (n := 3) (Nat.le_of_ble_eq_true rfl)
  rw [lg_entry_eq]
  generalize (lg_sl ([.ref (ga G 41), .int a1, .int a2]) ++ List.replicate (3 - (lg_sl ([.ref (ga G 41), .int a1, .int a2])).length) Slot.unset).toArray = ls at hl ⊢
  have hl : lv_has ls 3 [(0, .ref (ga G 41)), (1, .int a1), (2, .int a2)] := hl
  generalize ([.ref (ga G 41), .int a1, .int a2] : List Value).toArray = args
  unfold f_X11_race at hf
  refine lv_aload_n hx hb dX11_race_0 rfl (lv_at hl 0 rfl) ?_
  refine lv_iconst (v := 0) hx hb dX11_race_1 (by decide) ?_
  refine pm_0 hx hb hE hM hS hown w_4_100 dX11_race_2 (fun H locs hM hS => ?_)
  refine lv_aload_n hx hb dX11_race_5 rfl (lv_at hl 0 rfl) ?_
  refine gm_4 hx hb hE hM hown w_4_104 dX11_race_6 ?_
  refine lv_iconst (v := 4) hx hb dX11_race_9 (by decide) ?_
  refine lv_icmp_lt (tgt := 21) hx hb dX11_race_10 (by decide) (fun hc_16 => ?_) (fun hc_16 => ?_)
  · replace hf := i_t hf hc_16
    refine lv_bipush (v := (-100)) hx hb dX11_race_21 (by decide) ?_
    exact rt_iM hx hb hr hf hM hS dX11_race_23 hlocks
  · replace hf := i_f hf hc_16
    refine lv_aload_n hx hb dX11_race_13 rfl (lv_at hl 0 rfl) ?_
    refine lv_iload_n hx hb dX11_race_14 rfl (lv_at hl 1 rfl) ?_
    obtain ⟨x_1, r_1, hq_1, hf⟩ := ob_some hf
    refine k_X11_runs hx hb hml hown hE hM hS w_5_154 hq_1 (Nat.le_of_ble_eq_true rfl) (Nat.le_of_ble_eq_true rfl) hl.1 (Nat.le_of_ble_eq_true rfl) ⟨Nat.zero_le _, Nat.zero_le _⟩ dX11_race_15 (fun H locs hM hS => ?_)
    refine lv_if_ne (tgt := 24) hx hb dX11_race_18 (by decide) (fun hc_15 => ?_) (fun hc_15 => ?_)
    · replace hf := i_f hf hc_15
      refine lv_iload_n hx hb dX11_race_24 rfl (lv_at hl 2 rfl) ?_
      by_cases hc_2 : a2 = 0
      · replace hf := i_t hf hc_2
        refine lv_tabK (k := 0) (tgt := 64) hx hb dX11_race_25 hc_2 (by decide) (by decide) rfl (by decide) ?_
        refine lv_aload_n hx hb dX11_race_64 rfl (lv_at hl 0 rfl) ?_
        refine gr_59 hx hb hE hM hown w_4_137 dX11_race_65 ?_
        refine lv_iload_n hx hb dX11_race_68 rfl (lv_at hl 1 rfl) ?_
        obtain ⟨hi_3, hf⟩ := i_n hf
        refine la_59 hx hb hE hM hi_3 dX11_race_69 ?_
        exact rt_iM hx hb hr hf hM hS dX11_race_70 hlocks
      replace hf := i_f hf hc_2
      by_cases hc_4 : a2 = 1
      · replace hf := i_t hf hc_4
        refine lv_tabK (k := 1) (tgt := 71) hx hb dX11_race_25 hc_4 (by decide) (by decide) rfl (by decide) ?_
        refine lv_aload_n hx hb dX11_race_71 rfl (lv_at hl 0 rfl) ?_
        refine gr_60 hx hb hE hM hown w_4_138 dX11_race_72 ?_
        refine lv_iload_n hx hb dX11_race_75 rfl (lv_at hl 1 rfl) ?_
        obtain ⟨hi_5, hf⟩ := i_n hf
        refine la_60 hx hb hE hM hi_5 dX11_race_76 ?_
        exact rt_iM hx hb hr hf hM hS dX11_race_77 hlocks
      replace hf := i_f hf hc_4
      by_cases hc_6 : a2 = 2
      · replace hf := i_t hf hc_6
        refine lv_tabK (k := 2) (tgt := 78) hx hb dX11_race_25 hc_6 (by decide) (by decide) rfl (by decide) ?_
        refine lv_aload_n hx hb dX11_race_78 rfl (lv_at hl 0 rfl) ?_
        refine gr_61 hx hb hE hM hown w_4_139 dX11_race_79 ?_
        refine lv_iload_n hx hb dX11_race_82 rfl (lv_at hl 1 rfl) ?_
        obtain ⟨hi_7, hf⟩ := i_n hf
        refine la_61 hx hb hE hM hi_7 dX11_race_83 ?_
        exact rt_iM hx hb hr hf hM hS dX11_race_84 hlocks
      replace hf := i_f hf hc_6
      by_cases hc_8 : a2 = 3
      · replace hf := i_t hf hc_8
        refine lv_tabK (k := 3) (tgt := 85) hx hb dX11_race_25 hc_8 (by decide) (by decide) rfl (by decide) ?_
        refine lv_aload_n hx hb dX11_race_85 rfl (lv_at hl 0 rfl) ?_
        refine gr_62 hx hb hE hM hown w_4_140 dX11_race_86 ?_
        refine lv_iload_n hx hb dX11_race_89 rfl (lv_at hl 1 rfl) ?_
        obtain ⟨hi_9, hf⟩ := i_n hf
        refine la_62 hx hb hE hM hi_9 dX11_race_90 ?_
        refine lv_if_eq (tgt := 98) hx hb dX11_race_91 (by decide) (fun hc_10 => ?_) (fun hc_10 => ?_)
        · replace hf := i_t hf hc_10
          refine lv_iconst (v := 0) hx hb dX11_race_98 (by decide) ?_
          exact rt_iM hx hb hr hf hM hS dX11_race_99 hlocks
        · replace hf := i_f hf hc_10
          refine lv_iconst (v := 1) hx hb dX11_race_94 (by decide) ?_
          refine lv_goto (tgt := 99) hx hb dX11_race_95 (by decide) ?_
          exact rt_iM hx hb hr hf hM hS dX11_race_99 hlocks
      replace hf := i_f hf hc_8
      by_cases hc_11 : a2 = 4
      · replace hf := i_t hf hc_11
        refine lv_tabK (k := 4) (tgt := 100) hx hb dX11_race_25 hc_11 (by decide) (by decide) rfl (by decide) ?_
        refine lv_aload_n hx hb dX11_race_100 rfl (lv_at hl 0 rfl) ?_
        refine gr_63 hx hb hE hM hown w_4_141 dX11_race_101 ?_
        refine lv_iload_n hx hb dX11_race_104 rfl (lv_at hl 1 rfl) ?_
        obtain ⟨hi_12, hf⟩ := i_n hf
        refine la_63 hx hb hE hM hi_12 dX11_race_105 ?_
        exact rt_iM hx hb hr hf hM hS dX11_race_106 hlocks
      replace hf := i_f hf hc_11
      by_cases hc_13 : a2 = 5
      · replace hf := i_t hf hc_13
        refine lv_tabK (k := 5) (tgt := 107) hx hb dX11_race_25 hc_13 (by decide) (by decide) rfl (by decide) ?_
        refine lv_aload_n hx hb dX11_race_107 rfl (lv_at hl 0 rfl) ?_
        refine gr_64 hx hb hE hM hown w_4_142 dX11_race_108 ?_
        refine lv_iload_n hx hb dX11_race_111 rfl (lv_at hl 1 rfl) ?_
        obtain ⟨hi_14, hf⟩ := i_n hf
        refine la_64 hx hb hE hM hi_14 dX11_race_112 ?_
        exact rt_iM hx hb hr hf hM hS dX11_race_113 hlocks
      replace hf := i_f hf hc_13
      refine lv_tableOut (tgt := 114) hx hb dX11_race_25 (by have q0 := lv_neT (a := 0) hc_2 rfl; have q1 := lv_neT (a := 1) hc_4 rfl; have q2 := lv_neT (a := 2) hc_6 rfl; have q3 := lv_neT (a := 3) hc_8 rfl; have q4 := lv_neT (a := 4) hc_11 rfl; have q5 := lv_neT (a := 5) hc_13 rfl; omega) (by decide) ?_
      refine lv_bipush (v := (-100)) hx hb dX11_race_114 (by decide) ?_
      exact rt_iM hx hb hr hf hM hS dX11_race_116 hlocks
    · replace hf := i_t hf hc_15
      refine lv_bipush (v := (-100)) hx hb dX11_race_21 (by decide) ?_
      exact rt_iM hx hb hr hf hM hS dX11_race_23 hlocks
theorem k_X11_race {p : Program} {l : Launch} {e : Env} {R : Room} {s : State} {m : MethodId} {args : Array Value} {below : List Frame} {meth : Method} {c : Code} {H : Heap} {locs : List Loc} {cells slots : Nat} {Q : State → Prop} {cc : ByteArray} {pc nL : Nat} {ls : Array Slot} {rest : List Value} {G : GG} {fu nw : Nat} {x x' mo : Me} {own : String} {index : Nat} {a1 : Int32} {a2 : Int32} {r : Int32} (hx : p.tables.exec = Jvm.exec) (hb : c.code = cc) (hml : c.maxLocals = nL) (hown : s.vm.findClass own = some m.cls) (hE : EnvP G s) (hM : MemP G nw mo x H) (hS : va_S (gA G) s.heap H locs) (hw : Cond.methodLink own index yX11_race ∈ lw_tbl) (hf : f_X11_race fu x a1 a2 = some (x', r)) (h1 : 2 + 1 ≤ R.frames) (h2 : 8 + (3 + 11) + 42 ≤ R.locals) (hsz : ls.size = nL) (hW : (rest.map fun v => v.category).sum ≤ 8) (hcs : cells ≤ R.cells ∧ slots ≤ R.slots) (hdg : decode cc pc = .ok (.invokevirtual index, 3)) (kk : ∀ (H1 : Heap) (locs1 : List Loc), MemP G nw mo x' H1 → va_S (gA G) s.heap H1 locs1 → W p l e R s m args below meth c H1 locs1 cells slots Q (F0 m (pc + 3) ls (.int r :: rest))) : W p l e R s m args below meth c H locs cells slots Q (F0 m pc ls (.int a2 :: .int a1 :: .ref (ga G 41) :: rest)) := mm_ki hS (mm_runV (n := 2) (o := 41) (C := RX11) (T := TX11) (N := 54) (ci := 11) (As := [.int a1, .int a2]) hx hb hml hown hE hM hS (c_X11_race l fu nw G x x' mo a1 a2 _ hf) (List.forall_mem_cons.mpr ⟨⟨hw, rfl⟩, List.forall_mem_cons.mpr ⟨⟨w_5_210, rfl⟩, List.forall_mem_cons.mpr ⟨⟨w_5_211, rfl⟩, List.forall_mem_cons.mpr ⟨⟨w_1_11, rfl⟩, List.forall_mem_cons.mpr ⟨⟨w_5_212, rfl⟩, fun _ h => absurd h List.not_mem_nil⟩⟩⟩⟩⟩) rfl rfl ⟨rfl, by decide, by decide, by decide +kernel⟩ ⟨h1, h2⟩ rfl rfl rfl hsz rfl hW hdg hcs) kk
def f_X11_won (fu : Nat) (x : Me) : Option (Me × Int32) := if (x 4 0) < 4 then some ((mu x 0 0 0), (-1)) else some ((mu x 0 0 0), x 45 0)
def rm_X11_won : Room := { frames := 0, cells := 0, slots := 0, locals := 0 }
set_option maxHeartbeats 4000000 in
set_option maxRecDepth 100000 in
theorem c_X11_won (l : Launch) (fu nw : Nat) (G : GG) (x x' mo : Me) (r : Int32) (hf : f_X11_won fu x = some (x', r)) : Met l yX11_won [.code yX11_won cX11_won 1 (some .int)] rm_X11_won (va_Pc [.ref (ga G 41)] (Pre G nw mo x)) (PI G nw mo x' r) 0 0 (gA G) := by
  refine mt_ofW (cc := cX11_won) (maxL := 1) (ret := (some .int)) (by decide +kernel) rfl ?_
  intro p e s m args below meth c s₁ B hml hv
  obtain ⟨rfl, hE, hM⟩ := hv
  have hx := B.exec
  have hb := B.bytes
  have hr := B.returns
  have hown : s.vm.findClass RX11 = some m.cls := findClass_of_methodNamed B.named
  have hlocks := B.notSynchronized
  have hS : va_S (gA G) s.heap s.heap [] := va_S.rf
  have hl := lv_entry ([.ref (ga G 41)]) (n := 1) (Nat.le_of_ble_eq_true rfl)
  rw [lg_entry_eq]
  generalize (lg_sl ([.ref (ga G 41)]) ++ List.replicate (1 - (lg_sl ([.ref (ga G 41)])).length) Slot.unset).toArray = ls at hl ⊢
  have hl : lv_has ls 1 [(0, .ref (ga G 41))] := hl
  generalize ([.ref (ga G 41)] : List Value).toArray = args
  unfold f_X11_won at hf
  refine lv_aload_n hx hb dX11_won_0 rfl (lv_at hl 0 rfl) ?_
  refine lv_iconst (v := 0) hx hb dX11_won_1 (by decide) ?_
  refine pm_0 hx hb hE hM hS hown w_4_100 dX11_won_2 (fun H locs hM hS => ?_)
  refine lv_aload_n hx hb dX11_won_5 rfl (lv_at hl 0 rfl) ?_
  refine gm_4 hx hb hE hM hown w_4_104 dX11_won_6 ?_
  refine lv_iconst (v := 4) hx hb dX11_won_9 (by decide) ?_
  refine lv_icmp_lt (tgt := 20) hx hb dX11_won_10 (by decide) (fun hc_1 => ?_) (fun hc_1 => ?_)
  · replace hf := i_t hf hc_1
    refine lv_iconst (v := (-1)) hx hb dX11_won_20 (by decide) ?_
    exact rt_iM hx hb hr hf hM hS dX11_won_21 hlocks
  · replace hf := i_f hf hc_1
    refine lv_aload_n hx hb dX11_won_13 rfl (lv_at hl 0 rfl) ?_
    refine gm_45 hx hb hE hM hown w_4_145 dX11_won_14 ?_
    refine lv_goto (tgt := 21) hx hb dX11_won_17 (by decide) ?_
    exact rt_iM hx hb hr hf hM hS dX11_won_21 hlocks
theorem k_X11_won {p : Program} {l : Launch} {e : Env} {R : Room} {s : State} {m : MethodId} {args : Array Value} {below : List Frame} {meth : Method} {c : Code} {H : Heap} {locs : List Loc} {cells slots : Nat} {Q : State → Prop} {cc : ByteArray} {pc nL : Nat} {ls : Array Slot} {rest : List Value} {G : GG} {fu nw : Nat} {x x' mo : Me} {own : String} {index : Nat} {r : Int32} (hx : p.tables.exec = Jvm.exec) (hb : c.code = cc) (hml : c.maxLocals = nL) (hown : s.vm.findClass own = some m.cls) (hE : EnvP G s) (hM : MemP G nw mo x H) (hS : va_S (gA G) s.heap H locs) (hw : Cond.methodLink own index yX11_won ∈ lw_tbl) (hf : f_X11_won fu x = some (x', r)) (h1 : 0 + 1 ≤ R.frames) (h2 : 8 + (1 + 11) + 0 ≤ R.locals) (hsz : ls.size = nL) (hW : (rest.map fun v => v.category).sum ≤ 8) (hcs : cells ≤ R.cells ∧ slots ≤ R.slots) (hdg : decode cc pc = .ok (.invokevirtual index, 3)) (kk : ∀ (H1 : Heap) (locs1 : List Loc), MemP G nw mo x' H1 → va_S (gA G) s.heap H1 locs1 → W p l e R s m args below meth c H1 locs1 cells slots Q (F0 m (pc + 3) ls (.int r :: rest))) : W p l e R s m args below meth c H locs cells slots Q (F0 m pc ls (.ref (ga G 41) :: rest)) := mm_ki hS (mm_runV (n := 0) (o := 41) (C := RX11) (T := TX11) (N := 54) (ci := 11) (As := []) hx hb hml hown hE hM hS (c_X11_won l fu nw G x x' mo _ hf) (List.forall_mem_cons.mpr ⟨⟨hw, rfl⟩, List.forall_mem_cons.mpr ⟨⟨w_5_214, rfl⟩, List.forall_mem_cons.mpr ⟨⟨w_5_215, rfl⟩, List.forall_mem_cons.mpr ⟨⟨w_1_11, rfl⟩, List.forall_mem_cons.mpr ⟨⟨w_5_216, rfl⟩, fun _ h => absurd h List.not_mem_nil⟩⟩⟩⟩⟩) rfl rfl ⟨rfl, by decide, by decide, by decide +kernel⟩ ⟨h1, h2⟩ rfl rfl rfl hsz rfl hW hdg hcs) kk
def f_X11_pact (fu : Nat) (x : Me) (a1 : Int32) (a2 : Int32) (a3 : Int32) : Option (Me × Int32) := ob (f_X11_isWard fu (mu x 0 0 0) a1) (fun x_1 r_1 => if r_1 = 0 then some (x_1, (-1)) else ob (f_X11_isWard fu x_1 a2) (fun x_2 r_2 => if r_2 = 0 then some (x_2, (-1)) else if a1 = a2 then some (x_2, (-1)) else if a3 < 1 then some (x_2, (-1)) else if 9999 < a3 then some (x_2, (-1)) else if (x_2 53 0) = 40 then some (x_2, (-1)) else if inb (x_2 53 0) 40 = true then some ((mu (mu (mu (mu x_2 50 ((x_2 53 0).toNatClampNeg) a1) 51 ((x_2 53 0).toNatClampNeg) a2) 52 ((x_2 53 0).toNatClampNeg) a3) 53 0 ((x_2 53 0) + 1)), (x_2 53 0) + 1) else none))
def rm_X11_pact : Room := { frames := 1, cells := 0, slots := 0, locals := 21 }
set_option maxHeartbeats 4000000 in
set_option maxRecDepth 100000 in
theorem c_X11_pact (l : Launch) (fu nw : Nat) (G : GG) (x x' mo : Me) (a1 : Int32) (a2 : Int32) (a3 : Int32) (r : Int32) (hf : f_X11_pact fu x a1 a2 a3 = some (x', r)) : Met l yX11_pact [.code yX11_pact cX11_pact 4 (some .int)] rm_X11_pact (va_Pc [.ref (ga G 41), .int a1, .int a2, .int a3] (Pre G nw mo x)) (PI G nw mo x' r) 0 0 (gA G) := by
  refine mt_ofW (cc := cX11_pact) (maxL := 4) (ret := (some .int)) (by decide +kernel) rfl ?_
  intro p e s m args below meth c s₁ B hml hv
  obtain ⟨rfl, hE, hM⟩ := hv
  have hx := B.exec
  have hb := B.bytes
  have hr := B.returns
  have hown : s.vm.findClass RX11 = some m.cls := findClass_of_methodNamed B.named
  have hlocks := B.notSynchronized
  have hS : va_S (gA G) s.heap s.heap [] := va_S.rf
  have hl := lv_entry ([.ref (ga G 41), .int a1, .int a2, .int a3]) (n := 4) (Nat.le_of_ble_eq_true rfl)
  rw [lg_entry_eq]
  generalize (lg_sl ([.ref (ga G 41), .int a1, .int a2, .int a3]) ++ List.replicate (4 - (lg_sl ([.ref (ga G 41), .int a1, .int a2, .int a3])).length) Slot.unset).toArray = ls at hl ⊢
  have hl : lv_has ls 4 [(0, .ref (ga G 41)), (1, .int a1), (2, .int a2), (3, .int a3)] := hl
  generalize ([.ref (ga G 41), .int a1, .int a2, .int a3] : List Value).toArray = args
  unfold f_X11_pact at hf
  refine lv_aload_n hx hb dX11_pact_0 rfl (lv_at hl 0 rfl) ?_
  refine lv_iconst (v := 0) hx hb dX11_pact_1 (by decide) ?_
  refine pm_0 hx hb hE hM hS hown w_4_100 dX11_pact_2 (fun H locs hM hS => ?_)
  refine lv_aload_n hx hb dX11_pact_5 rfl (lv_at hl 0 rfl) ?_
  refine lv_iload_n hx hb dX11_pact_6 rfl (lv_at hl 1 rfl) ?_
  obtain ⟨x_1, r_1, hq_1, hf⟩ := ob_some hf
  refine k_X11_isWard hx hb hml hown hE hM hS w_5_134 hq_1 (Nat.le_of_ble_eq_true rfl) (Nat.le_of_ble_eq_true rfl) hl.1 (Nat.le_of_ble_eq_true rfl) ⟨Nat.zero_le _, Nat.zero_le _⟩ dX11_pact_7 (fun H locs hM hS => ?_)
  refine lv_if_eq (tgt := 47) hx hb dX11_pact_10 (by decide) (fun hc_9 => ?_) (fun hc_9 => ?_)
  · replace hf := i_t hf hc_9
    refine lv_iconst (v := (-1)) hx hb dX11_pact_47 (by decide) ?_
    exact rt_iM hx hb hr hf hM hS dX11_pact_48 hlocks
  · replace hf := i_f hf hc_9
    refine lv_aload_n hx hb dX11_pact_13 rfl (lv_at hl 0 rfl) ?_
    refine lv_iload_n hx hb dX11_pact_14 rfl (lv_at hl 2 rfl) ?_
    obtain ⟨x_2, r_2, hq_2, hf⟩ := ob_some hf
    refine k_X11_isWard hx hb hml hown hE hM hS w_5_134 hq_2 (Nat.le_of_ble_eq_true rfl) (Nat.le_of_ble_eq_true rfl) hl.1 (Nat.le_of_ble_eq_true rfl) ⟨Nat.zero_le _, Nat.zero_le _⟩ dX11_pact_15 (fun H locs hM hS => ?_)
    refine lv_if_eq (tgt := 47) hx hb dX11_pact_18 (by decide) (fun hc_8 => ?_) (fun hc_8 => ?_)
    · replace hf := i_t hf hc_8
      refine lv_iconst (v := (-1)) hx hb dX11_pact_47 (by decide) ?_
      exact rt_iM hx hb hr hf hM hS dX11_pact_48 hlocks
    · replace hf := i_f hf hc_8
      refine lv_iload_n hx hb dX11_pact_21 rfl (lv_at hl 1 rfl) ?_
      refine lv_iload_n hx hb dX11_pact_22 rfl (lv_at hl 2 rfl) ?_
      refine lv_icmp_eq (tgt := 47) hx hb dX11_pact_23 (by decide) (fun hc_7 => ?_) (fun hc_7 => ?_)
      · replace hf := i_t hf hc_7
        refine lv_iconst (v := (-1)) hx hb dX11_pact_47 (by decide) ?_
        exact rt_iM hx hb hr hf hM hS dX11_pact_48 hlocks
      · replace hf := i_f hf hc_7
        refine lv_iload_n hx hb dX11_pact_26 rfl (lv_at hl 3 rfl) ?_
        refine lv_iconst (v := 1) hx hb dX11_pact_27 (by decide) ?_
        refine lv_icmp_lt (tgt := 47) hx hb dX11_pact_28 (by decide) (fun hc_6 => ?_) (fun hc_6 => ?_)
        · replace hf := i_t hf hc_6
          refine lv_iconst (v := (-1)) hx hb dX11_pact_47 (by decide) ?_
          exact rt_iM hx hb hr hf hM hS dX11_pact_48 hlocks
        · replace hf := i_f hf hc_6
          refine lv_iload_n hx hb dX11_pact_31 rfl (lv_at hl 3 rfl) ?_
          refine lv_sipush (v := 9999) hx hb dX11_pact_32 (by decide) ?_
          refine lv_icmp_gt (tgt := 47) hx hb dX11_pact_35 (by decide) (fun hc_5 => ?_) (fun hc_5 => ?_)
          · replace hf := i_t hf hc_5
            refine lv_iconst (v := (-1)) hx hb dX11_pact_47 (by decide) ?_
            exact rt_iM hx hb hr hf hM hS dX11_pact_48 hlocks
          · replace hf := i_f hf hc_5
            refine lv_aload_n hx hb dX11_pact_38 rfl (lv_at hl 0 rfl) ?_
            refine gm_53 hx hb hE hM hown w_4_153 dX11_pact_39 ?_
            refine lv_bipush (v := 40) hx hb dX11_pact_42 (by decide) ?_
            refine lv_icmp_ne (tgt := 49) hx hb dX11_pact_44 (by decide) (fun hc_4 => ?_) (fun hc_4 => ?_)
            · replace hf := i_f hf hc_4
              refine lv_aload_n hx hb dX11_pact_49 rfl (lv_at hl 0 rfl) ?_
              refine gr_66 hx hb hE hM hown w_4_150 dX11_pact_50 ?_
              refine lv_aload_n hx hb dX11_pact_53 rfl (lv_at hl 0 rfl) ?_
              refine gm_53 hx hb hE hM hown w_4_153 dX11_pact_54 ?_
              refine lv_iload_n hx hb dX11_pact_57 rfl (lv_at hl 1 rfl) ?_
              obtain ⟨hi_3, hf⟩ := i_n hf
              refine sa_66 hx hb hE hM hS hi_3 dX11_pact_58 (fun H locs hM hS => ?_)
              refine lv_aload_n hx hb dX11_pact_59 rfl (lv_at hl 0 rfl) ?_
              refine gr_67 hx hb hE hM hown w_4_151 dX11_pact_60 ?_
              refine lv_aload_n hx hb dX11_pact_63 rfl (lv_at hl 0 rfl) ?_
              refine gm_53 hx hb hE hM hown w_4_153 dX11_pact_64 ?_
              refine lv_iload_n hx hb dX11_pact_67 rfl (lv_at hl 2 rfl) ?_
              refine sa_67 hx hb hE hM hS hi_3 dX11_pact_68 (fun H locs hM hS => ?_)
              refine lv_aload_n hx hb dX11_pact_69 rfl (lv_at hl 0 rfl) ?_
              refine gr_68 hx hb hE hM hown w_4_152 dX11_pact_70 ?_
              refine lv_aload_n hx hb dX11_pact_73 rfl (lv_at hl 0 rfl) ?_
              refine gm_53 hx hb hE hM hown w_4_153 dX11_pact_74 ?_
              refine lv_iload_n hx hb dX11_pact_77 rfl (lv_at hl 3 rfl) ?_
              refine sa_68 hx hb hE hM hS hi_3 dX11_pact_78 (fun H locs hM hS => ?_)
              refine lv_aload_n hx hb dX11_pact_79 rfl (lv_at hl 0 rfl) ?_
              refine lv_dup hx hb dX11_pact_80 rfl ?_
              refine gm_53 hx hb hE hM hown w_4_153 dX11_pact_81 ?_
              refine lv_iconst (v := 1) hx hb dX11_pact_84 (by decide) ?_
              refine lv_iadd hx hb dX11_pact_85 ?_
              refine pm_53 hx hb hE hM hS hown w_4_153 dX11_pact_86 (fun H locs hM hS => ?_)
              refine lv_aload_n hx hb dX11_pact_89 rfl (lv_at hl 0 rfl) ?_
              refine gm_53 hx hb hE hM hown w_4_153 dX11_pact_90 ?_
              exact rt_iM hx hb hr hf hM hS dX11_pact_93 hlocks
            · replace hf := i_t hf hc_4
              refine lv_iconst (v := (-1)) hx hb dX11_pact_47 (by decide) ?_
              exact rt_iM hx hb hr hf hM hS dX11_pact_48 hlocks
theorem k_X11_pact {p : Program} {l : Launch} {e : Env} {R : Room} {s : State} {m : MethodId} {args : Array Value} {below : List Frame} {meth : Method} {c : Code} {H : Heap} {locs : List Loc} {cells slots : Nat} {Q : State → Prop} {cc : ByteArray} {pc nL : Nat} {ls : Array Slot} {rest : List Value} {G : GG} {fu nw : Nat} {x x' mo : Me} {own : String} {index : Nat} {a1 : Int32} {a2 : Int32} {a3 : Int32} {r : Int32} (hx : p.tables.exec = Jvm.exec) (hb : c.code = cc) (hml : c.maxLocals = nL) (hown : s.vm.findClass own = some m.cls) (hE : EnvP G s) (hM : MemP G nw mo x H) (hS : va_S (gA G) s.heap H locs) (hw : Cond.methodLink own index yX11_pact ∈ lw_tbl) (hf : f_X11_pact fu x a1 a2 a3 = some (x', r)) (h1 : 1 + 1 ≤ R.frames) (h2 : 8 + (4 + 11) + 21 ≤ R.locals) (hsz : ls.size = nL) (hW : (rest.map fun v => v.category).sum ≤ 8) (hcs : cells ≤ R.cells ∧ slots ≤ R.slots) (hdg : decode cc pc = .ok (.invokevirtual index, 3)) (kk : ∀ (H1 : Heap) (locs1 : List Loc), MemP G nw mo x' H1 → va_S (gA G) s.heap H1 locs1 → W p l e R s m args below meth c H1 locs1 cells slots Q (F0 m (pc + 3) ls (.int r :: rest))) : W p l e R s m args below meth c H locs cells slots Q (F0 m pc ls (.int a3 :: .int a2 :: .int a1 :: .ref (ga G 41) :: rest)) := mm_ki hS (mm_runV (n := 3) (o := 41) (C := RX11) (T := TX11) (N := 54) (ci := 11) (As := [.int a1, .int a2, .int a3]) hx hb hml hown hE hM hS (c_X11_pact l fu nw G x x' mo a1 a2 a3 _ hf) (List.forall_mem_cons.mpr ⟨⟨hw, rfl⟩, List.forall_mem_cons.mpr ⟨⟨w_5_218, rfl⟩, List.forall_mem_cons.mpr ⟨⟨w_5_219, rfl⟩, List.forall_mem_cons.mpr ⟨⟨w_1_11, rfl⟩, List.forall_mem_cons.mpr ⟨⟨w_5_220, rfl⟩, fun _ h => absurd h List.not_mem_nil⟩⟩⟩⟩⟩) rfl rfl ⟨rfl, by decide, by decide, by decide +kernel⟩ ⟨h1, h2⟩ rfl rfl rfl hsz rfl hW hdg hcs) kk
def f_X11_punish (fu : Nat) (x : Me) (a1 : Int32) : Option (Me × Int32) := if (x 4 0) = 5 then ob (f_X11_runs fu (mu x 0 0 0) a1) (fun x_1 r_1 => if r_1 = 0 then some (x_1, (-2)) else ob (f_X11_lawOf fu x_1 4 (x_1 3 0)) (fun x_2 r_2 => if r_2 ≤ 0 then if inb a1 17 = true then some (x_2, x_2 19 a1.toNatClampNeg) else none else if inb a1 17 = true then some ((mu x_2 19 a1.toNatClampNeg (if (x_2 19 a1.toNatClampNeg) < ((x_2 3 0) + r_2) then ((x_2 3 0) + r_2) else (x_2 19 a1.toNatClampNeg))), (mu x_2 19 a1.toNatClampNeg (if (x_2 19 a1.toNatClampNeg) < ((x_2 3 0) + r_2) then ((x_2 3 0) + r_2) else (x_2 19 a1.toNatClampNeg))) 19 a1.toNatClampNeg) else none)) else some ((mu x 0 0 0), (-2))
def rm_X11_punish : Room := { frames := 2, cells := 0, slots := 0, locals := 42 }
set_option maxHeartbeats 4000000 in
set_option maxRecDepth 100000 in
theorem c_X11_punish (l : Launch) (fu nw : Nat) (G : GG) (x x' mo : Me) (a1 : Int32) (r : Int32) (hf : f_X11_punish fu x a1 = some (x', r)) : Met l yX11_punish [.code yX11_punish cX11_punish 3 (some .int)] rm_X11_punish (va_Pc [.ref (ga G 41), .int a1] (Pre G nw mo x)) (PI G nw mo x' r) 0 0 (gA G) := by
  refine mt_ofW (cc := cX11_punish) (maxL := 3) (ret := (some .int)) (by decide +kernel) rfl ?_
  intro p e s m args below meth c s₁ B hml hv
  obtain ⟨rfl, hE, hM⟩ := hv
  have hx := B.exec
  have hb := B.bytes
  have hr := B.returns
  have hown : s.vm.findClass RX11 = some m.cls := findClass_of_methodNamed B.named
  have hlocks := B.notSynchronized
  have hS : va_S (gA G) s.heap s.heap [] := va_S.rf
  have hl := lv_entry ([.ref (ga G 41), .int a1]) (n := 3) (Nat.le_of_ble_eq_true rfl)
  rw [lg_entry_eq]
  generalize (lg_sl ([.ref (ga G 41), .int a1]) ++ List.replicate (3 - (lg_sl ([.ref (ga G 41), .int a1])).length) Slot.unset).toArray = ls at hl ⊢
  have hl : lv_has ls 3 [(0, .ref (ga G 41)), (1, .int a1)] := hl
  generalize ([.ref (ga G 41), .int a1] : List Value).toArray = args
  unfold f_X11_punish at hf
  refine lv_aload_n hx hb dX11_punish_0 rfl (lv_at hl 0 rfl) ?_
  refine lv_iconst (v := 0) hx hb dX11_punish_1 (by decide) ?_
  refine pm_0 hx hb hE hM hS hown w_4_100 dX11_punish_2 (fun H locs hM hS => ?_)
  refine lv_aload_n hx hb dX11_punish_5 rfl (lv_at hl 0 rfl) ?_
  refine gm_4 hx hb hE hM hown w_4_104 dX11_punish_6 ?_
  refine lv_iconst (v := 5) hx hb dX11_punish_9 (by decide) ?_
  refine lv_icmp_ne (tgt := 21) hx hb dX11_punish_10 (by decide) (fun hc_7 => ?_) (fun hc_7 => ?_)
  · replace hf := i_f hf hc_7
    refine lv_bipush (v := (-2)) hx hb dX11_punish_21 (by decide) ?_
    exact rt_iM hx hb hr hf hM hS dX11_punish_23 hlocks
  · replace hf := i_t hf hc_7
    refine lv_aload_n hx hb dX11_punish_13 rfl (lv_at hl 0 rfl) ?_
    refine lv_iload_n hx hb dX11_punish_14 rfl (lv_at hl 1 rfl) ?_
    obtain ⟨x_1, r_1, hq_1, hf⟩ := ob_some hf
    refine k_X11_runs hx hb hml hown hE hM hS w_5_154 hq_1 (Nat.le_of_ble_eq_true rfl) (Nat.le_of_ble_eq_true rfl) hl.1 (Nat.le_of_ble_eq_true rfl) ⟨Nat.zero_le _, Nat.zero_le _⟩ dX11_punish_15 (fun H locs hM hS => ?_)
    refine lv_if_ne (tgt := 24) hx hb dX11_punish_18 (by decide) (fun hc_6 => ?_) (fun hc_6 => ?_)
    · replace hf := i_f hf hc_6
      refine lv_aload_n hx hb dX11_punish_24 rfl (lv_at hl 0 rfl) ?_
      refine lv_iconst (v := 4) hx hb dX11_punish_25 (by decide) ?_
      refine lv_aload_n hx hb dX11_punish_26 rfl (lv_at hl 0 rfl) ?_
      refine gm_3 hx hb hE hM hown w_4_103 dX11_punish_27 ?_
      obtain ⟨x_2, r_2, hq_2, hf⟩ := ob_some hf
      refine k_X11_lawOf hx hb hml hown hE hM hS w_5_71 hq_2 (Nat.le_of_ble_eq_true rfl) (Nat.le_of_ble_eq_true rfl) hl.1 (Nat.le_of_ble_eq_true rfl) ⟨Nat.zero_le _, Nat.zero_le _⟩ dX11_punish_30 (fun H locs hM hS => ?_)
      refine lv_istore_n (lv' := [(2, .int r_2), (0, .ref (ga G 41)), (1, .int a1)]) hx hb dX11_punish_33 rfl hl (by decide) rfl (fun ls hl => ?_)
      refine lv_iload_n hx hb dX11_punish_34 rfl (lv_at hl 0 rfl) ?_
      refine lv_if_le (tgt := 59) hx hb dX11_punish_35 (by decide) (fun hc_5 => ?_) (fun hc_5 => ?_)
      · replace hf := i_t hf hc_5
        refine lv_aload_n hx hb dX11_punish_59 rfl (lv_at hl 1 rfl) ?_
        refine gr_46 hx hb hE hM hown w_4_119 dX11_punish_60 ?_
        refine lv_iload_n hx hb dX11_punish_63 rfl (lv_at hl 2 rfl) ?_
        obtain ⟨hi_3, hf⟩ := i_n hf
        refine la_46 hx hb hE hM hi_3 dX11_punish_64 ?_
        exact rt_iM hx hb hr hf hM hS dX11_punish_65 hlocks
      · replace hf := i_f hf hc_5
        refine lv_aload_n hx hb dX11_punish_38 rfl (lv_at hl 1 rfl) ?_
        refine gr_46 hx hb hE hM hown w_4_119 dX11_punish_39 ?_
        refine lv_iload_n hx hb dX11_punish_42 rfl (lv_at hl 2 rfl) ?_
        refine lv_aload_n hx hb dX11_punish_43 rfl (lv_at hl 1 rfl) ?_
        refine gr_46 hx hb hE hM hown w_4_119 dX11_punish_44 ?_
        refine lv_iload_n hx hb dX11_punish_47 rfl (lv_at hl 2 rfl) ?_
        obtain ⟨hi_4, hf⟩ := i_n hf
        refine la_46 hx hb hE hM hi_4 dX11_punish_48 ?_
        refine lv_aload_n hx hb dX11_punish_49 rfl (lv_at hl 1 rfl) ?_
        refine gm_3 hx hb hE hM hown w_4_103 dX11_punish_50 ?_
        refine lv_iload_n hx hb dX11_punish_53 rfl (lv_at hl 0 rfl) ?_
        refine lv_iadd hx hb dX11_punish_54 ?_
        refine va_mmax hx hb (by rw [hml]; exact hl.1.symm) hown (ew hE w_5_117 rfl) (ew hE w_2_184 rfl) (ew hE w_1_12 rfl) (ew hE w_2_185 rfl) (Nat.le_of_ble_eq_true rfl) (Nat.le_of_ble_eq_true rfl) (Nat.zero_le _) (Nat.zero_le _) dX11_punish_55 ?_
        refine sa_46 hx hb hE hM hS hi_4 dX11_punish_58 (fun H locs hM hS => ?_)
        refine lv_aload_n hx hb dX11_punish_59 rfl (lv_at hl 1 rfl) ?_
        refine gr_46 hx hb hE hM hown w_4_119 dX11_punish_60 ?_
        refine lv_iload_n hx hb dX11_punish_63 rfl (lv_at hl 2 rfl) ?_
        refine la_46 hx hb hE hM hi_4 dX11_punish_64 ?_
        exact rt_iM hx hb hr hf hM hS dX11_punish_65 hlocks
    · replace hf := i_t hf hc_6
      refine lv_bipush (v := (-2)) hx hb dX11_punish_21 (by decide) ?_
      exact rt_iM hx hb hr hf hM hS dX11_punish_23 hlocks
theorem k_X11_punish {p : Program} {l : Launch} {e : Env} {R : Room} {s : State} {m : MethodId} {args : Array Value} {below : List Frame} {meth : Method} {c : Code} {H : Heap} {locs : List Loc} {cells slots : Nat} {Q : State → Prop} {cc : ByteArray} {pc nL : Nat} {ls : Array Slot} {rest : List Value} {G : GG} {fu nw : Nat} {x x' mo : Me} {own : String} {index : Nat} {a1 : Int32} {r : Int32} (hx : p.tables.exec = Jvm.exec) (hb : c.code = cc) (hml : c.maxLocals = nL) (hown : s.vm.findClass own = some m.cls) (hE : EnvP G s) (hM : MemP G nw mo x H) (hS : va_S (gA G) s.heap H locs) (hw : Cond.methodLink own index yX11_punish ∈ lw_tbl) (hf : f_X11_punish fu x a1 = some (x', r)) (h1 : 2 + 1 ≤ R.frames) (h2 : 8 + (3 + 11) + 42 ≤ R.locals) (hsz : ls.size = nL) (hW : (rest.map fun v => v.category).sum ≤ 8) (hcs : cells ≤ R.cells ∧ slots ≤ R.slots) (hdg : decode cc pc = .ok (.invokevirtual index, 3)) (kk : ∀ (H1 : Heap) (locs1 : List Loc), MemP G nw mo x' H1 → va_S (gA G) s.heap H1 locs1 → W p l e R s m args below meth c H1 locs1 cells slots Q (F0 m (pc + 3) ls (.int r :: rest))) : W p l e R s m args below meth c H locs cells slots Q (F0 m pc ls (.int a1 :: .ref (ga G 41) :: rest)) := mm_ki hS (mm_runV (n := 1) (o := 41) (C := RX11) (T := TX11) (N := 54) (ci := 11) (As := [.int a1]) hx hb hml hown hE hM hS (c_X11_punish l fu nw G x x' mo a1 _ hf) (List.forall_mem_cons.mpr ⟨⟨hw, rfl⟩, List.forall_mem_cons.mpr ⟨⟨w_5_222, rfl⟩, List.forall_mem_cons.mpr ⟨⟨w_5_223, rfl⟩, List.forall_mem_cons.mpr ⟨⟨w_1_11, rfl⟩, List.forall_mem_cons.mpr ⟨⟨w_5_224, rfl⟩, fun _ h => absurd h List.not_mem_nil⟩⟩⟩⟩⟩) rfl rfl ⟨rfl, by decide, by decide, by decide +kernel⟩ ⟨h1, h2⟩ rfl rfl rfl hsz rfl hW hdg hcs) kk
def f_X11_next_46 (fu : Nat) (k : Me → Option (Me × Int32)) : Nat → Me → Int32 → Option (Me × Int32)
  | 0 => fun _ _ => none
  | n + 1 => fun x a1 => if 17 ≤ a1 then k x else if inb a1 17 = true then f_X11_next_46 fu k n (mu (mu x 20 a1.toNatClampNeg 0) 23 a1.toNatClampNeg (vp_nar .boolean 0)) (a1 + 1) else none
def f_X11_next (fu : Nat) (x : Me) : Option (Me × Int32) := if (x 4 0) = 4 then some ((mu x 0 0 0), (-1)) else if (x 3 0) = 99 then some ((mu x 0 0 0), (-1)) else f_X11_next_46 fu (fun (x_3 : Me) => some (x_3, x_3 3 0)) fu (mu (mu (mu (mu x 0 0 0) 3 0 ((x 3 0) + 1)) 4 0 0) 44 0 0) 0
def rm_X11_next : Room := { frames := 0, cells := 0, slots := 0, locals := 0 }
set_option maxHeartbeats 4000000 in
set_option maxRecDepth 100000 in
theorem wk_X11_next_46 {p : Program} {l : Launch} {e : Env} {s : State} {m : MethodId} {args : Array Value} {below : List Frame} {meth : Method} {c : Code} {fu nw : Nat} {G : GG} {mo : Me} (hx : p.tables.exec = Jvm.exec) (hb : c.code = cX11_next) (hml : c.maxLocals = 2) (hown : s.vm.findClass RX11 = some m.cls) (hE : EnvP G s) (hr : meth.sig.returnType = (some .int)) (hlocks : meth.locks = false) {x' : Me} {r : Int32} {k : Me → Option (Me × Int32)} (hk : ∀ (x : Me) (H : Heap) (locs : List Loc) (ls : Array Slot), k x = some (x', r) → MemP G nw mo x H → va_S (gA G) s.heap H locs → lv_has ls 2 [(0, .ref (ga G 41))] → W p l e rm_X11_next s m args below meth c H locs 0 0 (MQ below (PI G nw mo x' r) args s 0 0 (gA G)) (F0 m 72 ls [])) : ∀ (n : Nat) (x : Me) (a1 : Int32) (H : Heap) (locs : List Loc) (ls : Array Slot), f_X11_next_46 fu k n x a1 = some (x', r) → MemP G nw mo x H → va_S (gA G) s.heap H locs → lv_has ls 2 [(0, .ref (ga G 41)), (1, .int a1)] → W p l e rm_X11_next s m args below meth c H locs 0 0 (MQ below (PI G nw mo x' r) args s 0 0 (gA G)) (F0 m 46 ls []) := by
  intro n
  induction n with
  | zero =>
    intro x a1 H locs ls hf hM hS hl
    exact nn hf
  | succ n ih =>
    intro x a1 H locs ls hf hM hS hl
    rw [f_X11_next_46] at hf
    refine lv_iload_n hx hb dX11_next_46 rfl (lv_at hl 1 rfl) ?_
    refine lv_bipush (v := 17) hx hb dX11_next_47 (by decide) ?_
    refine lv_icmp_ge (tgt := 72) hx hb dX11_next_49 (by decide) (fun hc_2 => ?_) (fun hc_2 => ?_)
    · replace hf := i_t hf hc_2
      exact hk x _ _ _ hf hM hS (lv_sub hl [0] rfl)
    · replace hf := i_f hf hc_2
      refine lv_aload_n hx hb dX11_next_52 rfl (lv_at hl 0 rfl) ?_
      refine gr_47 hx hb hE hM hown w_4_120 dX11_next_53 ?_
      refine lv_iload_n hx hb dX11_next_56 rfl (lv_at hl 1 rfl) ?_
      refine lv_iconst (v := 0) hx hb dX11_next_57 (by decide) ?_
      obtain ⟨hi_1, hf⟩ := i_n hf
      refine sa_47 hx hb hE hM hS hi_1 dX11_next_58 (fun H locs hM hS => ?_)
      refine lv_aload_n hx hb dX11_next_59 rfl (lv_at hl 0 rfl) ?_
      refine gr_50 hx hb hE hM hown w_4_123 dX11_next_60 ?_
      refine lv_iload_n hx hb dX11_next_63 rfl (lv_at hl 1 rfl) ?_
      refine lv_iconst (v := 0) hx hb dX11_next_64 (by decide) ?_
      refine sa_50 hx hb hE hM hS hi_1 dX11_next_65 (fun H locs hM hS => ?_)
      refine lv_iinc (v := a1 + 1) (lv' := [(1, .int (a1 + 1)), (0, .ref (ga G 41))]) hx hb dX11_next_66 hl (k := 1) rfl rfl (by decide) rfl (fun ls hl => ?_)
      refine lv_goto (tgt := 46) hx hb dX11_next_69 (by decide) ?_
      exact ih (mu (mu x 20 a1.toNatClampNeg 0) 23 a1.toNatClampNeg (vp_nar .boolean 0)) (a1 + 1) _ _ _ hf hM hS (lv_sub hl [1, 0] rfl)
set_option maxHeartbeats 4000000 in
set_option maxRecDepth 100000 in
theorem c_X11_next (l : Launch) (fu nw : Nat) (G : GG) (x x' mo : Me) (r : Int32) (hf : f_X11_next fu x = some (x', r)) : Met l yX11_next [.code yX11_next cX11_next 2 (some .int)] rm_X11_next (va_Pc [.ref (ga G 41)] (Pre G nw mo x)) (PI G nw mo x' r) 0 0 (gA G) := by
  refine mt_ofW (cc := cX11_next) (maxL := 2) (ret := (some .int)) (by decide +kernel) rfl ?_
  intro p e s m args below meth c s₁ B hml hv
  obtain ⟨rfl, hE, hM⟩ := hv
  have hx := B.exec
  have hb := B.bytes
  have hr := B.returns
  have hown : s.vm.findClass RX11 = some m.cls := findClass_of_methodNamed B.named
  have hlocks := B.notSynchronized
  have hS : va_S (gA G) s.heap s.heap [] := va_S.rf
  have hl := lv_entry ([.ref (ga G 41)]) (n := 2) (Nat.le_of_ble_eq_true rfl)
  rw [lg_entry_eq]
  generalize (lg_sl ([.ref (ga G 41)]) ++ List.replicate (2 - (lg_sl ([.ref (ga G 41)])).length) Slot.unset).toArray = ls at hl ⊢
  have hl : lv_has ls 2 [(0, .ref (ga G 41))] := hl
  generalize ([.ref (ga G 41)] : List Value).toArray = args
  unfold f_X11_next at hf
  refine lv_aload_n hx hb dX11_next_0 rfl (lv_at hl 0 rfl) ?_
  refine lv_iconst (v := 0) hx hb dX11_next_1 (by decide) ?_
  refine pm_0 hx hb hE hM hS hown w_4_100 dX11_next_2 (fun H locs hM hS => ?_)
  refine lv_aload_n hx hb dX11_next_5 rfl (lv_at hl 0 rfl) ?_
  refine gm_4 hx hb hE hM hown w_4_104 dX11_next_6 ?_
  refine lv_iconst (v := 4) hx hb dX11_next_9 (by decide) ?_
  refine lv_icmp_eq (tgt := 22) hx hb dX11_next_10 (by decide) (fun hc_5 => ?_) (fun hc_5 => ?_)
  · replace hf := i_t hf hc_5
    refine lv_iconst (v := (-1)) hx hb dX11_next_22 (by decide) ?_
    exact rt_iM hx hb hr hf hM hS dX11_next_23 hlocks
  · replace hf := i_f hf hc_5
    refine lv_aload_n hx hb dX11_next_13 rfl (lv_at hl 0 rfl) ?_
    refine gm_3 hx hb hE hM hown w_4_103 dX11_next_14 ?_
    refine lv_bipush (v := 99) hx hb dX11_next_17 (by decide) ?_
    refine lv_icmp_ne (tgt := 24) hx hb dX11_next_19 (by decide) (fun hc_4 => ?_) (fun hc_4 => ?_)
    · replace hf := i_f hf hc_4
      refine lv_aload_n hx hb dX11_next_24 rfl (lv_at hl 0 rfl) ?_
      refine lv_dup hx hb dX11_next_25 rfl ?_
      refine gm_3 hx hb hE hM hown w_4_103 dX11_next_26 ?_
      refine lv_iconst (v := 1) hx hb dX11_next_29 (by decide) ?_
      refine lv_iadd hx hb dX11_next_30 ?_
      refine pm_3 hx hb hE hM hS hown w_4_103 dX11_next_31 (fun H locs hM hS => ?_)
      refine lv_aload_n hx hb dX11_next_34 rfl (lv_at hl 0 rfl) ?_
      refine lv_iconst (v := 0) hx hb dX11_next_35 (by decide) ?_
      refine pm_4 hx hb hE hM hS hown w_4_104 dX11_next_36 (fun H locs hM hS => ?_)
      refine lv_aload_n hx hb dX11_next_39 rfl (lv_at hl 0 rfl) ?_
      refine lv_iconst (v := 0) hx hb dX11_next_40 (by decide) ?_
      refine pm_44 hx hb hE hM hS hown w_4_144 dX11_next_41 (fun H locs hM hS => ?_)
      refine lv_iconst (v := 0) hx hb dX11_next_44 (by decide) ?_
      refine lv_istore_n (lv' := [(1, .int 0), (0, .ref (ga G 41))]) hx hb dX11_next_45 rfl hl (by decide) rfl (fun ls hl => ?_)
      refine wk_X11_next_46 hx hb hml hown hE hr hlocks ?_ fu (mu (mu (mu (mu x 0 0 0) 3 0 ((x 3 0) + 1)) 4 0 0) 44 0 0) 0 _ _ _ hf hM hS (lv_sub hl [1, 0] rfl)
      intro x_3 H locs ls hf hM hS hl
      refine lv_aload_n hx hb dX11_next_72 rfl (lv_at hl 0 rfl) ?_
      refine gm_3 hx hb hE hM hown w_4_103 dX11_next_73 ?_
      exact rt_iM hx hb hr hf hM hS dX11_next_76 hlocks
    · replace hf := i_t hf hc_4
      refine lv_iconst (v := (-1)) hx hb dX11_next_22 (by decide) ?_
      exact rt_iM hx hb hr hf hM hS dX11_next_23 hlocks
theorem k_X11_next {p : Program} {l : Launch} {e : Env} {R : Room} {s : State} {m : MethodId} {args : Array Value} {below : List Frame} {meth : Method} {c : Code} {H : Heap} {locs : List Loc} {cells slots : Nat} {Q : State → Prop} {cc : ByteArray} {pc nL : Nat} {ls : Array Slot} {rest : List Value} {G : GG} {fu nw : Nat} {x x' mo : Me} {own : String} {index : Nat} {r : Int32} (hx : p.tables.exec = Jvm.exec) (hb : c.code = cc) (hml : c.maxLocals = nL) (hown : s.vm.findClass own = some m.cls) (hE : EnvP G s) (hM : MemP G nw mo x H) (hS : va_S (gA G) s.heap H locs) (hw : Cond.methodLink own index yX11_next ∈ lw_tbl) (hf : f_X11_next fu x = some (x', r)) (h1 : 0 + 1 ≤ R.frames) (h2 : 8 + (2 + 11) + 0 ≤ R.locals) (hsz : ls.size = nL) (hW : (rest.map fun v => v.category).sum ≤ 8) (hcs : cells ≤ R.cells ∧ slots ≤ R.slots) (hdg : decode cc pc = .ok (.invokevirtual index, 3)) (kk : ∀ (H1 : Heap) (locs1 : List Loc), MemP G nw mo x' H1 → va_S (gA G) s.heap H1 locs1 → W p l e R s m args below meth c H1 locs1 cells slots Q (F0 m (pc + 3) ls (.int r :: rest))) : W p l e R s m args below meth c H locs cells slots Q (F0 m pc ls (.ref (ga G 41) :: rest)) := mm_ki hS (mm_runV (n := 0) (o := 41) (C := RX11) (T := TX11) (N := 54) (ci := 11) (As := []) hx hb hml hown hE hM hS (c_X11_next l fu nw G x x' mo _ hf) (List.forall_mem_cons.mpr ⟨⟨hw, rfl⟩, List.forall_mem_cons.mpr ⟨⟨w_5_226, rfl⟩, List.forall_mem_cons.mpr ⟨⟨w_5_227, rfl⟩, List.forall_mem_cons.mpr ⟨⟨w_1_11, rfl⟩, List.forall_mem_cons.mpr ⟨⟨w_5_228, rfl⟩, fun _ h => absurd h List.not_mem_nil⟩⟩⟩⟩⟩) rfl rfl ⟨rfl, by decide, by decide, by decide +kernel⟩ ⟨h1, h2⟩ rfl rfl rfl hsz rfl hW hdg hcs) kk
def f_X11_count (fu : Nat) (x : Me) (a1 : Int32) : Option (Me × Int32) := if a1 = 0 then some ((mu x 0 0 0), x 3 0) else if a1 = 1 then some ((mu x 0 0 0), x 4 0) else if a1 = 2 then some ((mu x 0 0 0), x 44 0) else if a1 = 3 then some ((mu x 0 0 0), x 17 0) else if a1 = 4 then some ((mu x 0 0 0), x 26 0) else if a1 = 5 then some ((mu x 0 0 0), x 53 0) else if a1 = 6 then some ((mu x 0 0 0), x 7 0) else if a1 = 7 then some ((mu x 0 0 0), x 35 0) else some ((mu x 0 0 0), (-1))
def rm_X11_count : Room := { frames := 0, cells := 0, slots := 0, locals := 0 }
set_option maxHeartbeats 4000000 in
set_option maxRecDepth 100000 in
theorem c_X11_count (l : Launch) (fu nw : Nat) (G : GG) (x x' mo : Me) (a1 : Int32) (r : Int32) (hf : f_X11_count fu x a1 = some (x', r)) : Met l yX11_count [.code yX11_count cX11_count 2 (some .int)] rm_X11_count (va_Pc [.ref (ga G 41), .int a1] (Pre G nw mo x)) (PI G nw mo x' r) 0 0 (gA G) := by
  refine mt_ofW (cc := cX11_count) (maxL := 2) (ret := (some .int)) (by decide +kernel) rfl ?_
  intro p e s m args below meth c s₁ B hml hv
  obtain ⟨rfl, hE, hM⟩ := hv
  have hx := B.exec
  have hb := B.bytes
  have hr := B.returns
  have hown : s.vm.findClass RX11 = some m.cls := findClass_of_methodNamed B.named
  have hlocks := B.notSynchronized
  have hS : va_S (gA G) s.heap s.heap [] := va_S.rf
  have hl := lv_entry ([.ref (ga G 41), .int a1]) (n := 2) (Nat.le_of_ble_eq_true rfl)
  rw [lg_entry_eq]
  generalize (lg_sl ([.ref (ga G 41), .int a1]) ++ List.replicate (2 - (lg_sl ([.ref (ga G 41), .int a1])).length) Slot.unset).toArray = ls at hl ⊢
  have hl : lv_has ls 2 [(0, .ref (ga G 41)), (1, .int a1)] := hl
  generalize ([.ref (ga G 41), .int a1] : List Value).toArray = args
  unfold f_X11_count at hf
  refine lv_aload_n hx hb dX11_count_0 rfl (lv_at hl 0 rfl) ?_
  refine lv_iconst (v := 0) hx hb dX11_count_1 (by decide) ?_
  refine pm_0 hx hb hE hM hS hown w_4_100 dX11_count_2 (fun H locs hM hS => ?_)
  refine lv_iload_n hx hb dX11_count_5 rfl (lv_at hl 1 rfl) ?_
  by_cases hc_1 : a1 = 0
  · replace hf := i_t hf hc_1
    refine lv_tabK (k := 0) (tgt := 52) hx hb dX11_count_6 hc_1 (by decide) (by decide) rfl (by decide) ?_
    refine lv_aload_n hx hb dX11_count_52 rfl (lv_at hl 0 rfl) ?_
    refine gm_3 hx hb hE hM hown w_4_103 dX11_count_53 ?_
    exact rt_iM hx hb hr hf hM hS dX11_count_56 hlocks
  replace hf := i_f hf hc_1
  by_cases hc_2 : a1 = 1
  · replace hf := i_t hf hc_2
    refine lv_tabK (k := 1) (tgt := 57) hx hb dX11_count_6 hc_2 (by decide) (by decide) rfl (by decide) ?_
    refine lv_aload_n hx hb dX11_count_57 rfl (lv_at hl 0 rfl) ?_
    refine gm_4 hx hb hE hM hown w_4_104 dX11_count_58 ?_
    exact rt_iM hx hb hr hf hM hS dX11_count_61 hlocks
  replace hf := i_f hf hc_2
  by_cases hc_3 : a1 = 2
  · replace hf := i_t hf hc_3
    refine lv_tabK (k := 2) (tgt := 62) hx hb dX11_count_6 hc_3 (by decide) (by decide) rfl (by decide) ?_
    refine lv_aload_n hx hb dX11_count_62 rfl (lv_at hl 0 rfl) ?_
    refine gm_44 hx hb hE hM hown w_4_144 dX11_count_63 ?_
    exact rt_iM hx hb hr hf hM hS dX11_count_66 hlocks
  replace hf := i_f hf hc_3
  by_cases hc_4 : a1 = 3
  · replace hf := i_t hf hc_4
    refine lv_tabK (k := 3) (tgt := 67) hx hb dX11_count_6 hc_4 (by decide) (by decide) rfl (by decide) ?_
    refine lv_aload_n hx hb dX11_count_67 rfl (lv_at hl 0 rfl) ?_
    refine gm_17 hx hb hE hM hown w_4_117 dX11_count_68 ?_
    exact rt_iM hx hb hr hf hM hS dX11_count_71 hlocks
  replace hf := i_f hf hc_4
  by_cases hc_5 : a1 = 4
  · replace hf := i_t hf hc_5
    refine lv_tabK (k := 4) (tgt := 72) hx hb dX11_count_6 hc_5 (by decide) (by decide) rfl (by decide) ?_
    refine lv_aload_n hx hb dX11_count_72 rfl (lv_at hl 0 rfl) ?_
    refine gm_26 hx hb hE hM hown w_4_126 dX11_count_73 ?_
    exact rt_iM hx hb hr hf hM hS dX11_count_76 hlocks
  replace hf := i_f hf hc_5
  by_cases hc_6 : a1 = 5
  · replace hf := i_t hf hc_6
    refine lv_tabK (k := 5) (tgt := 77) hx hb dX11_count_6 hc_6 (by decide) (by decide) rfl (by decide) ?_
    refine lv_aload_n hx hb dX11_count_77 rfl (lv_at hl 0 rfl) ?_
    refine gm_53 hx hb hE hM hown w_4_153 dX11_count_78 ?_
    exact rt_iM hx hb hr hf hM hS dX11_count_81 hlocks
  replace hf := i_f hf hc_6
  by_cases hc_7 : a1 = 6
  · replace hf := i_t hf hc_7
    refine lv_tabK (k := 6) (tgt := 82) hx hb dX11_count_6 hc_7 (by decide) (by decide) rfl (by decide) ?_
    refine lv_aload_n hx hb dX11_count_82 rfl (lv_at hl 0 rfl) ?_
    refine gm_7 hx hb hE hM hown w_4_107 dX11_count_83 ?_
    exact rt_iM hx hb hr hf hM hS dX11_count_86 hlocks
  replace hf := i_f hf hc_7
  by_cases hc_8 : a1 = 7
  · replace hf := i_t hf hc_8
    refine lv_tabK (k := 7) (tgt := 87) hx hb dX11_count_6 hc_8 (by decide) (by decide) rfl (by decide) ?_
    refine lv_aload_n hx hb dX11_count_87 rfl (lv_at hl 0 rfl) ?_
    refine gm_35 hx hb hE hM hown w_4_135 dX11_count_88 ?_
    exact rt_iM hx hb hr hf hM hS dX11_count_91 hlocks
  replace hf := i_f hf hc_8
  refine lv_tableOut (tgt := 92) hx hb dX11_count_6 (by have q0 := lv_neT (a := 0) hc_1 rfl; have q1 := lv_neT (a := 1) hc_2 rfl; have q2 := lv_neT (a := 2) hc_3 rfl; have q3 := lv_neT (a := 3) hc_4 rfl; have q4 := lv_neT (a := 4) hc_5 rfl; have q5 := lv_neT (a := 5) hc_6 rfl; have q6 := lv_neT (a := 6) hc_7 rfl; have q7 := lv_neT (a := 7) hc_8 rfl; omega) (by decide) ?_
  refine lv_iconst (v := (-1)) hx hb dX11_count_92 (by decide) ?_
  exact rt_iM hx hb hr hf hM hS dX11_count_93 hlocks
theorem k_X11_count {p : Program} {l : Launch} {e : Env} {R : Room} {s : State} {m : MethodId} {args : Array Value} {below : List Frame} {meth : Method} {c : Code} {H : Heap} {locs : List Loc} {cells slots : Nat} {Q : State → Prop} {cc : ByteArray} {pc nL : Nat} {ls : Array Slot} {rest : List Value} {G : GG} {fu nw : Nat} {x x' mo : Me} {own : String} {index : Nat} {a1 : Int32} {r : Int32} (hx : p.tables.exec = Jvm.exec) (hb : c.code = cc) (hml : c.maxLocals = nL) (hown : s.vm.findClass own = some m.cls) (hE : EnvP G s) (hM : MemP G nw mo x H) (hS : va_S (gA G) s.heap H locs) (hw : Cond.methodLink own index yX11_count ∈ lw_tbl) (hf : f_X11_count fu x a1 = some (x', r)) (h1 : 0 + 1 ≤ R.frames) (h2 : 8 + (2 + 11) + 0 ≤ R.locals) (hsz : ls.size = nL) (hW : (rest.map fun v => v.category).sum ≤ 8) (hcs : cells ≤ R.cells ∧ slots ≤ R.slots) (hdg : decode cc pc = .ok (.invokevirtual index, 3)) (kk : ∀ (H1 : Heap) (locs1 : List Loc), MemP G nw mo x' H1 → va_S (gA G) s.heap H1 locs1 → W p l e R s m args below meth c H1 locs1 cells slots Q (F0 m (pc + 3) ls (.int r :: rest))) : W p l e R s m args below meth c H locs cells slots Q (F0 m pc ls (.int a1 :: .ref (ga G 41) :: rest)) := mm_ki hS (mm_runV (n := 1) (o := 41) (C := RX11) (T := TX11) (N := 54) (ci := 11) (As := [.int a1]) hx hb hml hown hE hM hS (c_X11_count l fu nw G x x' mo a1 _ hf) (List.forall_mem_cons.mpr ⟨⟨hw, rfl⟩, List.forall_mem_cons.mpr ⟨⟨w_5_230, rfl⟩, List.forall_mem_cons.mpr ⟨⟨w_5_231, rfl⟩, List.forall_mem_cons.mpr ⟨⟨w_1_11, rfl⟩, List.forall_mem_cons.mpr ⟨⟨w_5_232, rfl⟩, fun _ h => absurd h List.not_mem_nil⟩⟩⟩⟩⟩) rfl rfl ⟨rfl, by decide, by decide, by decide +kernel⟩ ⟨h1, h2⟩ rfl rfl rfl hsz rfl hW hdg hcs) kk
