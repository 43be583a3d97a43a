def f_X10_feed (fu nw : Nat) (x : Me) (a1 : Int32) (a2 : Int32) (a3 : Int32) (a4 : Int32) (a5 : Int32) : Option (Me × Int32) := if ((x 4 0) + 20) ≤ 600 then ob (f_X7_append fu nw x a1) (fun x_1 _ => ob (f_X7_append fu nw x_1 a2) (fun x_2 _ => ob (f_X7_append fu nw x_2 a3) (fun x_3 _ => ob (f_X7_append fu nw x_3 a4) (fun x_4 _ => ob (f_X7_append fu nw x_4 a5) (fun x_5 _ => some (x_5, x_5 4 0)))))) else some (x, (-1))
def rm_X10_feed : Room := { frames := 1, cells := 0, slots := 0, locals := 22 }
set_option maxHeartbeats 4000000 in
set_option maxRecDepth 100000 in
theorem c_X10_feed (l : Launch) (fu nw : Nat) (G : GG) (x x' mo : Me) (a1 : Int32) (a2 : Int32) (a3 : Int32) (a4 : Int32) (a5 : Int32) (r : Int32) (hf : f_X10_feed fu nw x a1 a2 a3 a4 a5 = some (x', r)) : Met l yX10_feed [.code yX10_feed cX10_feed 6 (some .int)] rm_X10_feed (va_Pc [.ref (ga G 0), .int a1, .int a2, .int a3, .int a4, .int a5] (Pre G nw x mo)) (PI G nw x' mo r) 0 0 (gA G) := by
  refine mt_ofW (cc := cX10_feed) (maxL := 6) (ret := (some .int)) (by decide +kernel) rfl ?_
  intro p e s m args below meth c s₁ B hml hv
  obtain ⟨rfl, hE, hM⟩ := hv
  have hx := B.exec
  have hb := B.bytes
  have hr := B.returns
  have hown : s.vm.findClass RX10 = some m.cls := findClass_of_methodNamed B.named
  have hlocks := B.notSynchronized
  have hS : va_S (gA G) s.heap s.heap [] := va_S.rf
  have hl := lv_entry ([.ref (ga G 0), .int a1, .int a2, .int a3, .int a4, .int a5]) (n := 6) (Nat.le_of_ble_eq_true rfl)
  rw [lg_entry_eq]
  generalize (lg_sl ([.ref (ga G 0), .int a1, .int a2, .int a3, .int a4, .int a5]) ++ List.replicate (6 - (lg_sl ([.ref (ga G 0), .int a1, .int a2, .int a3, .int a4, .int a5])).length) Slot.unset).toArray = ls at hl ⊢
  have hl : lv_has ls 6 [(0, .ref (ga G 0)), (1, .int a1), (2, .int a2), (3, .int a3), (4, .int a4), (5, .int a5)] := hl
  generalize ([.ref (ga G 0), .int a1, .int a2, .int a3, .int a4, .int a5] : List Value).toArray = args
  unfold f_X10_feed at hf
  refine lv_aload_n hx hb dX10_feed_0 rfl (lv_at hl 0 rfl) ?_
  refine gr_1 hx hb hE hM hown w_2_41 dX10_feed_1 ?_
  refine gf_4N hx hb hE hM hown w_1_35 dX10_feed_4 ?_
  refine lv_bipush (v := 20) hx hb dX10_feed_7 (by decide) ?_
  refine lv_iadd hx hb dX10_feed_9 ?_
  refine lv_sipush (v := 600) hx hb dX10_feed_10 (by decide) ?_
  refine lv_icmp_le (tgt := 18) hx hb dX10_feed_13 (by decide) (fun hc_6 => ?_) (fun hc_6 => ?_)
  · replace hf := i_t hf hc_6
    refine lv_aload_n hx hb dX10_feed_18 rfl (lv_at hl 0 rfl) ?_
    refine gr_1 hx hb hE hM hown w_2_41 dX10_feed_19 ?_
    refine lv_iload_n hx hb dX10_feed_22 rfl (lv_at hl 1 rfl) ?_
    obtain ⟨x_1, r_1, hq_1, hf⟩ := ob_some hf
    refine k_X7_append hx hb hml hown hE hM hS w_2_76 hq_1 (Nat.le_of_ble_eq_true rfl) (Nat.le_of_ble_eq_true rfl) hl.1 (Nat.le_of_ble_eq_true rfl) ⟨Nat.zero_le _, Nat.zero_le _⟩ dX10_feed_23 (fun H locs hM hS => ?_)
    refine lv_aload_n hx hb dX10_feed_26 rfl (lv_at hl 0 rfl) ?_
    refine gr_1 hx hb hE hM hown w_2_41 dX10_feed_27 ?_
    refine lv_iload_n hx hb dX10_feed_30 rfl (lv_at hl 2 rfl) ?_
    obtain ⟨x_2, r_2, hq_2, hf⟩ := ob_some hf
    refine k_X7_append hx hb hml hown hE hM hS w_2_76 hq_2 (Nat.le_of_ble_eq_true rfl) (Nat.le_of_ble_eq_true rfl) hl.1 (Nat.le_of_ble_eq_true rfl) ⟨Nat.zero_le _, Nat.zero_le _⟩ dX10_feed_31 (fun H locs hM hS => ?_)
    refine lv_aload_n hx hb dX10_feed_34 rfl (lv_at hl 0 rfl) ?_
    refine gr_1 hx hb hE hM hown w_2_41 dX10_feed_35 ?_
    refine lv_iload_n hx hb dX10_feed_38 rfl (lv_at hl 3 rfl) ?_
    obtain ⟨x_3, r_3, hq_3, hf⟩ := ob_some hf
    refine k_X7_append hx hb hml hown hE hM hS w_2_76 hq_3 (Nat.le_of_ble_eq_true rfl) (Nat.le_of_ble_eq_true rfl) hl.1 (Nat.le_of_ble_eq_true rfl) ⟨Nat.zero_le _, Nat.zero_le _⟩ dX10_feed_39 (fun H locs hM hS => ?_)
    refine lv_aload_n hx hb dX10_feed_42 rfl (lv_at hl 0 rfl) ?_
    refine gr_1 hx hb hE hM hown w_2_41 dX10_feed_43 ?_
    refine lv_iload hx hb dX10_feed_46 (lv_at hl 4 rfl) ?_
    obtain ⟨x_4, r_4, hq_4, hf⟩ := ob_some hf
    refine k_X7_append hx hb hml hown hE hM hS w_2_76 hq_4 (Nat.le_of_ble_eq_true rfl) (Nat.le_of_ble_eq_true rfl) hl.1 (Nat.le_of_ble_eq_true rfl) ⟨Nat.zero_le _, Nat.zero_le _⟩ dX10_feed_48 (fun H locs hM hS => ?_)
    refine lv_aload_n hx hb dX10_feed_51 rfl (lv_at hl 0 rfl) ?_
    refine gr_1 hx hb hE hM hown w_2_41 dX10_feed_52 ?_
    refine lv_iload hx hb dX10_feed_55 (lv_at hl 5 rfl) ?_
    obtain ⟨x_5, r_5, hq_5, hf⟩ := ob_some hf
    refine k_X7_append hx hb hml hown hE hM hS w_2_76 hq_5 (Nat.le_of_ble_eq_true rfl) (Nat.le_of_ble_eq_true rfl) hl.1 (Nat.le_of_ble_eq_true rfl) ⟨Nat.zero_le _, Nat.zero_le _⟩ dX10_feed_57 (fun H locs hM hS => ?_)
    refine lv_aload_n hx hb dX10_feed_60 rfl (lv_at hl 0 rfl) ?_
    refine gr_1 hx hb hE hM hown w_2_41 dX10_feed_61 ?_
    refine gf_4N hx hb hE hM hown w_1_35 dX10_feed_64 ?_
    exact rt_iX hx hb hr hf hM hS dX10_feed_67 hlocks
  · replace hf := i_f hf hc_6
    refine lv_iconst (v := (-1)) hx hb dX10_feed_16 (by decide) ?_
    exact rt_iX hx hb hr hf hM hS dX10_feed_17 hlocks
theorem k_X10_feed {p : Program} {l : Launch} {e : Env} {R : Room} {s : State} {m : MethodId} {args : Array Value} {below : List Frame} {meth : Method} {c : Code} {H : Heap} {locs : List Loc} {cells slots : Nat} {Q : State → Prop} {cc : ByteArray} {pc nL : Nat} {ls : Array Slot} {rest : List Value} {G : GG} {fu nw : Nat} {x x' mo : Me} {own : String} {index : Nat} {a1 : Int32} {a2 : Int32} {a3 : Int32} {a4 : Int32} {a5 : Int32} {r : Int32} (hx : p.tables.exec = Jvm.exec) (hb : c.code = cc) (hml : c.maxLocals = nL) (hown : s.vm.findClass own = some m.cls) (hE : EnvP G s) (hM : MemP G nw x mo H) (hS : va_S (gA G) s.heap H locs) (hw : Cond.methodLink own index yX10_feed ∈ lw_tbl) (hf : f_X10_feed fu nw x a1 a2 a3 a4 a5 = some (x', r)) (h1 : 1 + 1 ≤ R.frames) (h2 : 8 + (6 + 11) + 22 ≤ R.locals) (hsz : ls.size = nL) (hW : (rest.map fun v => v.category).sum ≤ 8) (hcs : cells ≤ R.cells ∧ slots ≤ R.slots) (hdg : decode cc pc = .ok (.invokevirtual index, 3)) (kk : ∀ (H1 : Heap) (locs1 : List Loc), MemP G nw x' mo H1 → va_S (gA G) s.heap H1 locs1 → W p l e R s m args below meth c H1 locs1 cells slots Q (F0 m (pc + 3) ls (.int r :: rest))) : W p l e R s m args below meth c H locs cells slots Q (F0 m pc ls (.int a5 :: .int a4 :: .int a3 :: .int a2 :: .int a1 :: .ref (ga G 0) :: rest)) := mm_ki hS (mm_runV (n := 5) (o := 0) (C := RX10) (T := TX10) (N := 10) (ci := 10) (As := [.int a1, .int a2, .int a3, .int a4, .int a5]) hx hb hml hown hE hM hS (c_X10_feed l fu nw G x x' mo a1 a2 a3 a4 a5 _ hf) (List.forall_mem_cons.mpr ⟨⟨hw, rfl⟩, List.forall_mem_cons.mpr ⟨⟨w_2_73, rfl⟩, List.forall_mem_cons.mpr ⟨⟨w_2_74, rfl⟩, List.forall_mem_cons.mpr ⟨⟨w_1_1, rfl⟩, List.forall_mem_cons.mpr ⟨⟨w_2_75, rfl⟩, fun _ h => absurd h List.not_mem_nil⟩⟩⟩⟩⟩) rfl rfl ⟨rfl, by decide, by decide, by decide +kernel⟩ ⟨h1, h2⟩ rfl rfl rfl hsz rfl hW hdg hcs) kk
def f_X10_isYear (fu nw : Nat) (x : Me) (a0 : Int32) : Option (Me × Int32) := if a0 < 0 then some (x, 0) else if 99 < a0 then some (x, 0) else some (x, 1)
def rm_X10_isYear : Room := { frames := 0, cells := 0, slots := 0, locals := 0 }
set_option maxHeartbeats 4000000 in
set_option maxRecDepth 100000 in
theorem c_X10_isYear (l : Launch) (fu nw : Nat) (G : GG) (x x' mo : Me) (a0 : Int32) (r : Int32) (hf : f_X10_isYear fu nw x a0 = some (x', r)) : Met l yX10_isYear [.code yX10_isYear cX10_isYear 1 (some .boolean)] rm_X10_isYear (va_Pc [.int a0] (Pre G nw x mo)) (PI G nw x' mo r) 0 0 (gA G) := by
  refine mt_ofW (cc := cX10_isYear) (maxL := 1) (ret := (some .boolean)) (by decide +kernel) rfl ?_
  intro p e s m args below meth c s₁ B hml hv
  obtain ⟨rfl, hE, hM⟩ := hv
  have hx := B.exec
  have hb := B.bytes
  have hr := B.returns
  have hown : s.vm.findClass RX10 = some m.cls := findClass_of_methodNamed B.named
  have hlocks := B.notSynchronized
  have hS : va_S (gA G) s.heap s.heap [] := va_S.rf
  have hl := lv_entry ([.int a0]) (n := 1) (Nat.le_of_ble_eq_true rfl)
  rw [lg_entry_eq]
  generalize (lg_sl ([.int a0]) ++ List.replicate (1 - (lg_sl ([.int a0])).length) Slot.unset).toArray = ls at hl ⊢
  have hl : lv_has ls 1 [(0, .int a0)] := hl
  generalize ([.int a0] : List Value).toArray = args
  unfold f_X10_isYear at hf
  refine lv_iload_n hx hb dX10_isYear_0 rfl (lv_at hl 0 rfl) ?_
  refine lv_if_lt (tgt := 14) hx hb dX10_isYear_1 (by decide) (fun hc_2 => ?_) (fun hc_2 => ?_)
  · replace hf := i_t hf hc_2
    refine lv_iconst (v := 0) hx hb dX10_isYear_14 (by decide) ?_
    exact rt_zX hx hb hr rfl hf hM hS dX10_isYear_15 hlocks
  · replace hf := i_f hf hc_2
    refine lv_iload_n hx hb dX10_isYear_4 rfl (lv_at hl 0 rfl) ?_
    refine lv_bipush (v := 99) hx hb dX10_isYear_5 (by decide) ?_
    refine lv_icmp_gt (tgt := 14) hx hb dX10_isYear_7 (by decide) (fun hc_1 => ?_) (fun hc_1 => ?_)
    · replace hf := i_t hf hc_1
      refine lv_iconst (v := 0) hx hb dX10_isYear_14 (by decide) ?_
      exact rt_zX hx hb hr rfl hf hM hS dX10_isYear_15 hlocks
    · replace hf := i_f hf hc_1
      refine lv_iconst (v := 1) hx hb dX10_isYear_10 (by decide) ?_
      refine lv_goto (tgt := 15) hx hb dX10_isYear_11 (by decide) ?_
      exact rt_zX hx hb hr rfl hf hM hS dX10_isYear_15 hlocks
theorem k_X10_isYear {p : Program} {l : Launch} {e : Env} {R : Room} {s : State} {m : MethodId} {args : Array Value} {below : List Frame} {meth : Method} {c : Code} {H : Heap} {locs : List Loc} {cells slots : Nat} {Q : State → Prop} {cc : ByteArray} {pc nL : Nat} {ls : Array Slot} {rest : List Value} {G : GG} {fu nw : Nat} {x x' mo : Me} {own : String} {index : Nat} {a0 : Int32} {r : Int32} (hx : p.tables.exec = Jvm.exec) (hb : c.code = cc) (hml : c.maxLocals = nL) (hown : s.vm.findClass own = some m.cls) (hE : EnvP G s) (hM : MemP G nw x mo H) (hS : va_S (gA G) s.heap H locs) (hw : Cond.methodLink own index yX10_isYear ∈ lw_tbl) (hf : f_X10_isYear fu nw x a0 = some (x', r)) (h1 : 0 + 1 ≤ R.frames) (h2 : 8 + (1 + 11) + 0 ≤ R.locals) (hsz : ls.size = nL) (hW : (rest.map fun v => v.category).sum ≤ 8) (hcs : cells ≤ R.cells ∧ slots ≤ R.slots) (hdg : decode cc pc = .ok (.invokestatic index, 3)) (kk : ∀ (H1 : Heap) (locs1 : List Loc), MemP G nw x' mo H1 → va_S (gA G) s.heap H1 locs1 → W p l e R s m args below meth c H1 locs1 cells slots Q (F0 m (pc + 3) ls (.int r :: rest))) : W p l e R s m args below meth c H locs cells slots Q (F0 m pc ls (.int a0 :: rest)) := mm_ki hS (mm_runS (n := 1) (As := [.int a0]) hx hb hml hown hE hM hS (c_X10_isYear l fu nw G x x' mo a0 _ hf) (List.forall_mem_cons.mpr ⟨⟨hw, rfl⟩, List.forall_mem_cons.mpr ⟨⟨w_2_85, rfl⟩, List.forall_mem_cons.mpr ⟨⟨w_1_1, rfl⟩, List.forall_mem_cons.mpr ⟨⟨w_2_86, rfl⟩, fun _ h => absurd h List.not_mem_nil⟩⟩⟩⟩) rfl rfl ⟨by decide, by decide, by decide +kernel⟩ ⟨h1, h2⟩ rfl hsz rfl hW hdg hcs) kk
def f_X10_statute (fu nw : Nat) (x : Me) (a1 : Int32) (a2 : Int32) : Option (Me × Int32) := if a1 < 0 then some (x, (-2)) else if (x 4 0) < a1 then some (x, (-2)) else ob (f_X10_isYear fu nw x a2) (fun x_1 r_1 => if r_1 = 0 then some (x_1, (-2)) else if (x_1 10 0) < 10 then ob (f_X7_readText fu nw x_1 a1) (fun x_2 _ => if (x_2 8 0) = 0 then ob (f_X6_keep_3 fu nw x_2 a2) (fun x_3 r_3 => some (x_3, r_3)) else some (x_2, (-1))) else some (x_1, (-2)))
def rm_X10_statute : Room := { frames := 8, cells := 0, slots := 0, locals := 177 }
set_option maxHeartbeats 4000000 in
set_option maxRecDepth 100000 in
theorem c_X10_statute (l : Launch) (fu nw : Nat) (G : GG) (x x' mo : Me) (a1 : Int32) (a2 : Int32) (r : Int32) (hf : f_X10_statute fu nw x a1 a2 = some (x', r)) : Met l yX10_statute [.code yX10_statute cX10_statute 3 (some .int)] rm_X10_statute (va_Pc [.ref (ga G 0), .int a1, .int a2] (Pre G nw x mo)) (PI G nw x' mo r) 0 0 (gA G) := by
  refine mt_ofW (cc := cX10_statute) (maxL := 3) (ret := (some .int)) (by decide +kernel) rfl ?_
  intro p e s m args below meth c s₁ B hml hv
  obtain ⟨rfl, hE, hM⟩ := hv
  have hx := B.exec
  have hb := B.bytes
  have hr := B.returns
  have hown : s.vm.findClass RX10 = some m.cls := findClass_of_methodNamed B.named
  have hlocks := B.notSynchronized
  have hS : va_S (gA G) s.heap s.heap [] := va_S.rf
  have hl := lv_entry ([.ref (ga G 0), .int a1, .int a2]) (n := 3) (Nat.le_of_ble_eq_true rfl)
  rw [lg_entry_eq]
  generalize (lg_sl ([.ref (ga G 0), .int a1, .int a2]) ++ List.replicate (3 - (lg_sl ([.ref (ga G 0), .int a1, .int a2])).length) Slot.unset).toArray = ls at hl ⊢
  have hl : lv_has ls 3 [(0, .ref (ga G 0)), (1, .int a1), (2, .int a2)] := hl
  generalize ([.ref (ga G 0), .int a1, .int a2] : List Value).toArray = args
  unfold f_X10_statute at hf
  refine lv_iload_n hx hb dX10_statute_0 rfl (lv_at hl 1 rfl) ?_
  refine lv_if_lt (tgt := 34) hx hb dX10_statute_1 (by decide) (fun hc_8 => ?_) (fun hc_8 => ?_)
  · replace hf := i_t hf hc_8
    refine lv_bipush (v := (-2)) hx hb dX10_statute_34 (by decide) ?_
    exact rt_iX hx hb hr hf hM hS dX10_statute_36 hlocks
  · replace hf := i_f hf hc_8
    refine lv_iload_n hx hb dX10_statute_4 rfl (lv_at hl 1 rfl) ?_
    refine lv_aload_n hx hb dX10_statute_5 rfl (lv_at hl 0 rfl) ?_
    refine gr_1 hx hb hE hM hown w_2_41 dX10_statute_6 ?_
    refine gf_4N hx hb hE hM hown w_1_35 dX10_statute_9 ?_
    refine lv_icmp_gt (tgt := 34) hx hb dX10_statute_12 (by decide) (fun hc_7 => ?_) (fun hc_7 => ?_)
    · replace hf := i_t hf hc_7
      refine lv_bipush (v := (-2)) hx hb dX10_statute_34 (by decide) ?_
      exact rt_iX hx hb hr hf hM hS dX10_statute_36 hlocks
    · replace hf := i_f hf hc_7
      refine lv_iload_n hx hb dX10_statute_15 rfl (lv_at hl 2 rfl) ?_
      obtain ⟨x_1, r_1, hq_1, hf⟩ := ob_some hf
      refine k_X10_isYear hx hb hml hown hE hM hS w_2_84 hq_1 (Nat.le_of_ble_eq_true rfl) (Nat.le_of_ble_eq_true rfl) hl.1 (Nat.le_of_ble_eq_true rfl) ⟨Nat.zero_le _, Nat.zero_le _⟩ dX10_statute_16 (fun H locs hM hS => ?_)
      refine lv_if_eq (tgt := 34) hx hb dX10_statute_19 (by decide) (fun hc_6 => ?_) (fun hc_6 => ?_)
      · replace hf := i_t hf hc_6
        refine lv_bipush (v := (-2)) hx hb dX10_statute_34 (by decide) ?_
        exact rt_iX hx hb hr hf hM hS dX10_statute_36 hlocks
      · replace hf := i_f hf hc_6
        refine lv_aload_n hx hb dX10_statute_22 rfl (lv_at hl 0 rfl) ?_
        refine gr_4 hx hb hE hM hown w_2_42 dX10_statute_23 ?_
        refine gf_10N hx hb hE hM hown w_1_69 dX10_statute_26 ?_
        refine lv_bipush (v := 10) hx hb dX10_statute_29 (by decide) ?_
        refine lv_icmp_lt (tgt := 37) hx hb dX10_statute_31 (by decide) (fun hc_5 => ?_) (fun hc_5 => ?_)
        · replace hf := i_t hf hc_5
          refine lv_aload_n hx hb dX10_statute_37 rfl (lv_at hl 0 rfl) ?_
          refine gr_1 hx hb hE hM hown w_2_41 dX10_statute_38 ?_
          refine lv_iload_n hx hb dX10_statute_41 rfl (lv_at hl 1 rfl) ?_
          obtain ⟨x_2, r_2, hq_2, hf⟩ := ob_some hf
          refine k_X7_readText hx hb hml hown hE hM hS w_2_87 hq_2 (Nat.le_of_ble_eq_true rfl) (Nat.le_of_ble_eq_true rfl) hl.1 (Nat.le_of_ble_eq_true rfl) ⟨Nat.zero_le _, Nat.zero_le _⟩ dX10_statute_42 (fun H locs hM hS => ?_)
          refine lv_aload_n hx hb dX10_statute_45 rfl (lv_at hl 0 rfl) ?_
          refine gr_1 hx hb hE hM hown w_2_41 dX10_statute_46 ?_
          refine gf_8N hx hb hE hM hown w_1_42 dX10_statute_49 ?_
          refine lv_if_ne (tgt := 73) hx hb dX10_statute_52 (by decide) (fun hc_4 => ?_) (fun hc_4 => ?_)
          · replace hf := i_f hf hc_4
            refine lv_iconst (v := (-1)) hx hb dX10_statute_73 (by decide) ?_
            exact rt_iX hx hb hr hf hM hS dX10_statute_74 hlocks
          · replace hf := i_t hf hc_4
            refine lv_aload_n hx hb dX10_statute_55 rfl (lv_at hl 0 rfl) ?_
            refine gr_4 hx hb hE hM hown w_2_42 dX10_statute_56 ?_
            refine lv_iload_n hx hb dX10_statute_59 rfl (lv_at hl 2 rfl) ?_
            refine lv_aload_n hx hb dX10_statute_60 rfl (lv_at hl 0 rfl) ?_
            refine gr_1 hx hb hE hM hown w_2_41 dX10_statute_61 ?_
            refine gr_3N hx hb hE hM hown w_1_40 dX10_statute_64 ?_
            obtain ⟨x_3, r_3, hq_3, hf⟩ := ob_some hf
            refine k_X6_keep_3 hx hb hml hown hE hM hS w_2_194 hq_3 (Nat.le_of_ble_eq_true rfl) (Nat.le_of_ble_eq_true rfl) hl.1 (Nat.le_of_ble_eq_true rfl) ⟨Nat.zero_le _, Nat.zero_le _⟩ dX10_statute_67 (fun H locs hM hS => ?_)
            refine lv_goto (tgt := 74) hx hb dX10_statute_70 (by decide) ?_
            exact rt_iX hx hb hr hf hM hS dX10_statute_74 hlocks
        · replace hf := i_f hf hc_5
          refine lv_bipush (v := (-2)) hx hb dX10_statute_34 (by decide) ?_
          exact rt_iX hx hb hr hf hM hS dX10_statute_36 hlocks
theorem k_X10_statute {p : Program} {l : Launch} {e : Env} {R : Room} {s : State} {m : MethodId} {args : Array Value} {below : List Frame} {meth : Method} {c : Code} {H : Heap} {locs : List Loc} {cells slots : Nat} {Q : State → Prop} {cc : ByteArray} {pc nL : Nat} {ls : Array Slot} {rest : List Value} {G : GG} {fu nw : Nat} {x x' mo : Me} {own : String} {index : Nat} {a1 : Int32} {a2 : Int32} {r : Int32} (hx : p.tables.exec = Jvm.exec) (hb : c.code = cc) (hml : c.maxLocals = nL) (hown : s.vm.findClass own = some m.cls) (hE : EnvP G s) (hM : MemP G nw x mo H) (hS : va_S (gA G) s.heap H locs) (hw : Cond.methodLink own index yX10_statute ∈ lw_tbl) (hf : f_X10_statute fu nw x a1 a2 = some (x', r)) (h1 : 8 + 1 ≤ R.frames) (h2 : 8 + (3 + 11) + 177 ≤ R.locals) (hsz : ls.size = nL) (hW : (rest.map fun v => v.category).sum ≤ 8) (hcs : cells ≤ R.cells ∧ slots ≤ R.slots) (hdg : decode cc pc = .ok (.invokevirtual index, 3)) (kk : ∀ (H1 : Heap) (locs1 : List Loc), MemP G nw x' mo H1 → va_S (gA G) s.heap H1 locs1 → W p l e R s m args below meth c H1 locs1 cells slots Q (F0 m (pc + 3) ls (.int r :: rest))) : W p l e R s m args below meth c H locs cells slots Q (F0 m pc ls (.int a2 :: .int a1 :: .ref (ga G 0) :: rest)) := mm_ki hS (mm_runV (n := 2) (o := 0) (C := RX10) (T := TX10) (N := 10) (ci := 10) (As := [.int a1, .int a2]) hx hb hml hown hE hM hS (c_X10_statute l fu nw G x x' mo a1 a2 _ hf) (List.forall_mem_cons.mpr ⟨⟨hw, rfl⟩, List.forall_mem_cons.mpr ⟨⟨w_2_81, rfl⟩, List.forall_mem_cons.mpr ⟨⟨w_2_82, rfl⟩, List.forall_mem_cons.mpr ⟨⟨w_1_1, rfl⟩, List.forall_mem_cons.mpr ⟨⟨w_2_83, rfl⟩, fun _ h => absurd h List.not_mem_nil⟩⟩⟩⟩⟩) rfl rfl ⟨rfl, by decide, by decide, by decide +kernel⟩ ⟨h1, h2⟩ rfl rfl rfl hsz rfl hW hdg hcs) kk
def f_X10_fault (fu nw : Nat) (x : Me) (a1 : Int32) : Option (Me × Int32) := if a1 = 0 then some (x, x 8 0) else if a1 = 1 then some (x, x 9 0) else some (x, (-1))
def rm_X10_fault : Room := { frames := 0, cells := 0, slots := 0, locals := 0 }
set_option maxHeartbeats 4000000 in
set_option maxRecDepth 100000 in
theorem c_X10_fault (l : Launch) (fu nw : Nat) (G : GG) (x x' mo : Me) (a1 : Int32) (r : Int32) (hf : f_X10_fault fu nw x a1 = some (x', r)) : Met l yX10_fault [.code yX10_fault cX10_fault 2 (some .int)] rm_X10_fault (va_Pc [.ref (ga G 0), .int a1] (Pre G nw x mo)) (PI G nw x' mo r) 0 0 (gA G) := by
  refine mt_ofW (cc := cX10_fault) (maxL := 2) (ret := (some .int)) (by decide +kernel) rfl ?_
  intro p e s m args below meth c s₁ B hml hv
  obtain ⟨rfl, hE, hM⟩ := hv
  have hx := B.exec
  have hb := B.bytes
  have hr := B.returns
  have hown : s.vm.findClass RX10 = some m.cls := findClass_of_methodNamed B.named
  have hlocks := B.notSynchronized
  have hS : va_S (gA G) s.heap s.heap [] := va_S.rf
  have hl := lv_entry ([.ref (ga G 0), .int a1]) (n := 2) (Nat.le_of_ble_eq_true rfl)
  rw [lg_entry_eq]
  generalize (lg_sl ([.ref (ga G 0), .int a1]) ++ List.replicate (2 - (lg_sl ([.ref (ga G 0), .int a1])).length) Slot.unset).toArray = ls at hl ⊢
  have hl : lv_has ls 2 [(0, .ref (ga G 0)), (1, .int a1)] := hl
  generalize ([.ref (ga G 0), .int a1] : List Value).toArray = args
  unfold f_X10_fault at hf
  refine lv_iload_n hx hb dX10_fault_0 rfl (lv_at hl 1 rfl) ?_
  by_cases hc_1 : a1 = 0
  · replace hf := i_t hf hc_1
    refine lv_lkK (k := 0) (tgt := 28) hx hb dX10_fault_1 hc_1 (by decide) rfl (by decide) ?_
    refine lv_aload_n hx hb dX10_fault_28 rfl (lv_at hl 0 rfl) ?_
    refine gr_1 hx hb hE hM hown w_2_41 dX10_fault_29 ?_
    refine gf_8N hx hb hE hM hown w_1_42 dX10_fault_32 ?_
    exact rt_iX hx hb hr hf hM hS dX10_fault_35 hlocks
  replace hf := i_f hf hc_1
  by_cases hc_2 : a1 = 1
  · replace hf := i_t hf hc_2
    refine lv_lkK (k := 1) (tgt := 36) hx hb dX10_fault_1 hc_2 (by decide) rfl (by decide) ?_
    refine lv_aload_n hx hb dX10_fault_36 rfl (lv_at hl 0 rfl) ?_
    refine gr_1 hx hb hE hM hown w_2_41 dX10_fault_37 ?_
    refine gf_9N hx hb hE hM hown w_1_44 dX10_fault_40 ?_
    exact rt_iX hx hb hr hf hM hS dX10_fault_43 hlocks
  replace hf := i_f hf hc_2
  refine lv_lookup (off := 43) (tgt := 44) hx hb dX10_fault_1 (by decide) ((lv_osw hc_1 rfl).trans ((lv_osw hc_2 rfl).trans rfl)) (by decide) ?_
  refine lv_iconst (v := (-1)) hx hb dX10_fault_44 (by decide) ?_
  exact rt_iX hx hb hr hf hM hS dX10_fault_45 hlocks
theorem k_X10_fault {p : Program} {l : Launch} {e : Env} {R : Room} {s : State} {m : MethodId} {args : Array Value} {below : List Frame} {meth : Method} {c : Code} {H : Heap} {locs : List Loc} {cells slots : Nat} {Q : State → Prop} {cc : ByteArray} {pc nL : Nat} {ls : Array Slot} {rest : List Value} {G : GG} {fu nw : Nat} {x x' mo : Me} {own : String} {index : Nat} {a1 : Int32} {r : Int32} (hx : p.tables.exec = Jvm.exec) (hb : c.code = cc) (hml : c.maxLocals = nL) (hown : s.vm.findClass own = some m.cls) (hE : EnvP G s) (hM : MemP G nw x mo H) (hS : va_S (gA G) s.heap H locs) (hw : Cond.methodLink own index yX10_fault ∈ lw_tbl) (hf : f_X10_fault fu nw x a1 = some (x', r)) (h1 : 0 + 1 ≤ R.frames) (h2 : 8 + (2 + 11) + 0 ≤ R.locals) (hsz : ls.size = nL) (hW : (rest.map fun v => v.category).sum ≤ 8) (hcs : cells ≤ R.cells ∧ slots ≤ R.slots) (hdg : decode cc pc = .ok (.invokevirtual index, 3)) (kk : ∀ (H1 : Heap) (locs1 : List Loc), MemP G nw x' mo H1 → va_S (gA G) s.heap H1 locs1 → W p l e R s m args below meth c H1 locs1 cells slots Q (F0 m (pc + 3) ls (.int r :: rest))) : W p l e R s m args below meth c H locs cells slots Q (F0 m pc ls (.int a1 :: .ref (ga G 0) :: rest)) := mm_ki hS (mm_runV (n := 1) (o := 0) (C := RX10) (T := TX10) (N := 10) (ci := 10) (As := [.int a1]) hx hb hml hown hE hM hS (c_X10_fault l fu nw G x x' mo a1 _ hf) (List.forall_mem_cons.mpr ⟨⟨hw, rfl⟩, List.forall_mem_cons.mpr ⟨⟨w_2_202, rfl⟩, List.forall_mem_cons.mpr ⟨⟨w_2_203, rfl⟩, List.forall_mem_cons.mpr ⟨⟨w_1_1, rfl⟩, List.forall_mem_cons.mpr ⟨⟨w_2_204, rfl⟩, fun _ h => absurd h List.not_mem_nil⟩⟩⟩⟩⟩) rfl rfl ⟨rfl, by decide, by decide, by decide +kernel⟩ ⟨h1, h2⟩ rfl rfl rfl hsz rfl hW hdg hcs) kk
def f_X10_law (fu nw : Nat) (x : Me) (a1 : Int32) (a2 : Int32) : Option (Me × Int32) := if a1 < 0 then some (x, (-1)) else if 7 ≤ a1 then some (x, (-1)) else ob (f_X10_isYear fu nw x a2) (fun x_1 r_1 => if r_1 = 0 then some (x_1, (-1)) else ob (f_X6_inForce fu nw x_1 a1 a2) (fun x_2 r_2 => some (x_2, r_2)))
def rm_X10_law : Room := { frames := 1, cells := 0, slots := 0, locals := 26 }
set_option maxHeartbeats 4000000 in
set_option maxRecDepth 100000 in
theorem c_X10_law (l : Launch) (fu nw : Nat) (G : GG) (x x' mo : Me) (a1 : Int32) (a2 : Int32) (r : Int32) (hf : f_X10_law fu nw x a1 a2 = some (x', r)) : Met l yX10_law [.code yX10_law cX10_law 3 (some .int)] rm_X10_law (va_Pc [.ref (ga G 0), .int a1, .int a2] (Pre G nw x mo)) (PI G nw x' mo r) 0 0 (gA G) := by
  refine mt_ofW (cc := cX10_law) (maxL := 3) (ret := (some .int)) (by decide +kernel) rfl ?_
  intro p e s m args below meth c s₁ B hml hv
  obtain ⟨rfl, hE, hM⟩ := hv
  have hx := B.exec
  have hb := B.bytes
  have hr := B.returns
  have hown : s.vm.findClass RX10 = some m.cls := findClass_of_methodNamed B.named
  have hlocks := B.notSynchronized
  have hS : va_S (gA G) s.heap s.heap [] := va_S.rf
  have hl := lv_entry ([.ref (ga G 0), .int a1, .int a2]) (n := 3) (Nat.le_of_ble_eq_true rfl)
  rw [lg_entry_eq]
  generalize (lg_sl ([.ref (ga G 0), .int a1, .int a2]) ++ List.replicate (3 - (lg_sl ([.ref (ga G 0), .int a1, .int a2])).length) Slot.unset).toArray = ls at hl ⊢
  have hl : lv_has ls 3 [(0, .ref (ga G 0)), (1, .int a1), (2, .int a2)] := hl
  generalize ([.ref (ga G 0), .int a1, .int a2] : List Value).toArray = args
  unfold f_X10_law at hf
  refine lv_iload_n hx hb dX10_law_0 rfl (lv_at hl 1 rfl) ?_
  refine lv_if_lt (tgt := 29) hx hb dX10_law_1 (by decide) (fun hc_5 => ?_) (fun hc_5 => ?_)
  · replace hf := i_t hf hc_5
    refine lv_iconst (v := (-1)) hx hb dX10_law_29 (by decide) ?_
    exact rt_iX hx hb hr hf hM hS dX10_law_30 hlocks
  · replace hf := i_f hf hc_5
    refine lv_iload_n hx hb dX10_law_4 rfl (lv_at hl 1 rfl) ?_
    refine lv_bipush (v := 7) hx hb dX10_law_5 (by decide) ?_
    refine lv_icmp_ge (tgt := 29) hx hb dX10_law_7 (by decide) (fun hc_4 => ?_) (fun hc_4 => ?_)
    · replace hf := i_t hf hc_4
      refine lv_iconst (v := (-1)) hx hb dX10_law_29 (by decide) ?_
      exact rt_iX hx hb hr hf hM hS dX10_law_30 hlocks
    · replace hf := i_f hf hc_4
      refine lv_iload_n hx hb dX10_law_10 rfl (lv_at hl 2 rfl) ?_
      obtain ⟨x_1, r_1, hq_1, hf⟩ := ob_some hf
      refine k_X10_isYear hx hb hml hown hE hM hS w_2_84 hq_1 (Nat.le_of_ble_eq_true rfl) (Nat.le_of_ble_eq_true rfl) hl.1 (Nat.le_of_ble_eq_true rfl) ⟨Nat.zero_le _, Nat.zero_le _⟩ dX10_law_11 (fun H locs hM hS => ?_)
      refine lv_if_eq (tgt := 29) hx hb dX10_law_14 (by decide) (fun hc_3 => ?_) (fun hc_3 => ?_)
      · replace hf := i_t hf hc_3
        refine lv_iconst (v := (-1)) hx hb dX10_law_29 (by decide) ?_
        exact rt_iX hx hb hr hf hM hS dX10_law_30 hlocks
      · replace hf := i_f hf hc_3
        refine lv_aload_n hx hb dX10_law_17 rfl (lv_at hl 0 rfl) ?_
        refine gr_4 hx hb hE hM hown w_2_42 dX10_law_18 ?_
        refine lv_iload_n hx hb dX10_law_21 rfl (lv_at hl 1 rfl) ?_
        refine lv_iload_n hx hb dX10_law_22 rfl (lv_at hl 2 rfl) ?_
        obtain ⟨x_2, r_2, hq_2, hf⟩ := ob_some hf
        refine k_X6_inForce hx hb hml hown hE hM hS w_2_209 hq_2 (Nat.le_of_ble_eq_true rfl) (Nat.le_of_ble_eq_true rfl) hl.1 (Nat.le_of_ble_eq_true rfl) ⟨Nat.zero_le _, Nat.zero_le _⟩ dX10_law_23 (fun H locs hM hS => ?_)
        refine lv_goto (tgt := 30) hx hb dX10_law_26 (by decide) ?_
        exact rt_iX hx hb hr hf hM hS dX10_law_30 hlocks
theorem k_X10_law {p : Program} {l : Launch} {e : Env} {R : Room} {s : State} {m : MethodId} {args : Array Value} {below : List Frame} {meth : Method} {c : Code} {H : Heap} {locs : List Loc} {cells slots : Nat} {Q : State → Prop} {cc : ByteArray} {pc nL : Nat} {ls : Array Slot} {rest : List Value} {G : GG} {fu nw : Nat} {x x' mo : Me} {own : String} {index : Nat} {a1 : Int32} {a2 : Int32} {r : Int32} (hx : p.tables.exec = Jvm.exec) (hb : c.code = cc) (hml : c.maxLocals = nL) (hown : s.vm.findClass own = some m.cls) (hE : EnvP G s) (hM : MemP G nw x mo H) (hS : va_S (gA G) s.heap H locs) (hw : Cond.methodLink own index yX10_law ∈ lw_tbl) (hf : f_X10_law fu nw x a1 a2 = some (x', r)) (h1 : 1 + 1 ≤ R.frames) (h2 : 8 + (3 + 11) + 26 ≤ R.locals) (hsz : ls.size = nL) (hW : (rest.map fun v => v.category).sum ≤ 8) (hcs : cells ≤ R.cells ∧ slots ≤ R.slots) (hdg : decode cc pc = .ok (.invokevirtual index, 3)) (kk : ∀ (H1 : Heap) (locs1 : List Loc), MemP G nw x' mo H1 → va_S (gA G) s.heap H1 locs1 → W p l e R s m args below meth c H1 locs1 cells slots Q (F0 m (pc + 3) ls (.int r :: rest))) : W p l e R s m args below meth c H locs cells slots Q (F0 m pc ls (.int a2 :: .int a1 :: .ref (ga G 0) :: rest)) := mm_ki hS (mm_runV (n := 2) (o := 0) (C := RX10) (T := TX10) (N := 10) (ci := 10) (As := [.int a1, .int a2]) hx hb hml hown hE hM hS (c_X10_law l fu nw G x x' mo a1 a2 _ hf) (List.forall_mem_cons.mpr ⟨⟨hw, rfl⟩, List.forall_mem_cons.mpr ⟨⟨w_2_206, rfl⟩, List.forall_mem_cons.mpr ⟨⟨w_2_207, rfl⟩, List.forall_mem_cons.mpr ⟨⟨w_1_1, rfl⟩, List.forall_mem_cons.mpr ⟨⟨w_2_208, rfl⟩, fun _ h => absurd h List.not_mem_nil⟩⟩⟩⟩⟩) rfl rfl ⟨rfl, by decide, by decide, by decide +kernel⟩ ⟨h1, h2⟩ rfl rfl rfl hsz rfl hW hdg hcs) kk
def f_X10_horse (fu nw : Nat) (x : Me) (a1 : Int32) : Option (Me × Int32) := if a1 < 0 then some (x, (-1)) else if 999 < a1 then some (x, (-1)) else ob (f_X5_addHorse fu nw x a1) (fun x_1 r_1 => some (x_1, r_1))
def rm_X10_horse : Room := { frames := 1, cells := 0, slots := 0, locals := 21 }
set_option maxHeartbeats 4000000 in
set_option maxRecDepth 100000 in
theorem c_X10_horse (l : Launch) (fu nw : Nat) (G : GG) (x x' mo : Me) (a1 : Int32) (r : Int32) (hf : f_X10_horse fu nw x a1 = some (x', r)) : Met l yX10_horse [.code yX10_horse cX10_horse 2 (some .int)] rm_X10_horse (va_Pc [.ref (ga G 0), .int a1] (Pre G nw x mo)) (PI G nw x' mo r) 0 0 (gA G) := by
  refine mt_ofW (cc := cX10_horse) (maxL := 2) (ret := (some .int)) (by decide +kernel) rfl ?_
  intro p e s m args below meth c s₁ B hml hv
  obtain ⟨rfl, hE, hM⟩ := hv
  have hx := B.exec
  have hb := B.bytes
  have hr := B.returns
  have hown : s.vm.findClass RX10 = some m.cls := findClass_of_methodNamed B.named
  have hlocks := B.notSynchronized
  have hS : va_S (gA G) s.heap s.heap [] := va_S.rf
  have hl := lv_entry ([.ref (ga G 0), .int a1]) (n := 2) (Nat.le_of_ble_eq_true rfl)
  rw [lg_entry_eq]
  generalize (lg_sl ([.ref (ga G 0), .int a1]) ++ List.replicate (2 - (lg_sl ([.ref (ga G 0), .int a1])).length) Slot.unset).toArray = ls at hl ⊢
  have hl : lv_has ls 2 [(0, .ref (ga G 0)), (1, .int a1)] := hl
  generalize ([.ref (ga G 0), .int a1] : List Value).toArray = args
  unfold f_X10_horse at hf
  refine lv_iload_n hx hb dX10_horse_0 rfl (lv_at hl 1 rfl) ?_
  refine lv_if_lt (tgt := 22) hx hb dX10_horse_1 (by decide) (fun hc_3 => ?_) (fun hc_3 => ?_)
  · replace hf := i_t hf hc_3
    refine lv_iconst (v := (-1)) hx hb dX10_horse_22 (by decide) ?_
    exact rt_iX hx hb hr hf hM hS dX10_horse_23 hlocks
  · replace hf := i_f hf hc_3
    refine lv_iload_n hx hb dX10_horse_4 rfl (lv_at hl 1 rfl) ?_
    refine lv_sipush (v := 999) hx hb dX10_horse_5 (by decide) ?_
    refine lv_icmp_gt (tgt := 22) hx hb dX10_horse_8 (by decide) (fun hc_2 => ?_) (fun hc_2 => ?_)
    · replace hf := i_t hf hc_2
      refine lv_iconst (v := (-1)) hx hb dX10_horse_22 (by decide) ?_
      exact rt_iX hx hb hr hf hM hS dX10_horse_23 hlocks
    · replace hf := i_f hf hc_2
      refine lv_aload_n hx hb dX10_horse_11 rfl (lv_at hl 0 rfl) ?_
      refine gr_9 hx hb hE hM hown w_2_44 dX10_horse_12 ?_
      refine lv_iload_n hx hb dX10_horse_15 rfl (lv_at hl 1 rfl) ?_
      obtain ⟨x_1, r_1, hq_1, hf⟩ := ob_some hf
      refine k_X5_addHorse hx hb hml hown hE hM hS w_3_22 hq_1 (Nat.le_of_ble_eq_true rfl) (Nat.le_of_ble_eq_true rfl) hl.1 (Nat.le_of_ble_eq_true rfl) ⟨Nat.zero_le _, Nat.zero_le _⟩ dX10_horse_16 (fun H locs hM hS => ?_)
      refine lv_goto (tgt := 23) hx hb dX10_horse_19 (by decide) ?_
      exact rt_iX hx hb hr hf hM hS dX10_horse_23 hlocks
theorem k_X10_horse {p : Program} {l : Launch} {e : Env} {R : Room} {s : State} {m : MethodId} {args : Array Value} {below : List Frame} {meth : Method} {c : Code} {H : Heap} {locs : List Loc} {cells slots : Nat} {Q : State → Prop} {cc : ByteArray} {pc nL : Nat} {ls : Array Slot} {rest : List Value} {G : GG} {fu nw : Nat} {x x' mo : Me} {own : String} {index : Nat} {a1 : Int32} {r : Int32} (hx : p.tables.exec = Jvm.exec) (hb : c.code = cc) (hml : c.maxLocals = nL) (hown : s.vm.findClass own = some m.cls) (hE : EnvP G s) (hM : MemP G nw x mo H) (hS : va_S (gA G) s.heap H locs) (hw : Cond.methodLink own index yX10_horse ∈ lw_tbl) (hf : f_X10_horse fu nw x a1 = some (x', r)) (h1 : 1 + 1 ≤ R.frames) (h2 : 8 + (2 + 11) + 21 ≤ R.locals) (hsz : ls.size = nL) (hW : (rest.map fun v => v.category).sum ≤ 8) (hcs : cells ≤ R.cells ∧ slots ≤ R.slots) (hdg : decode cc pc = .ok (.invokevirtual index, 3)) (kk : ∀ (H1 : Heap) (locs1 : List Loc), MemP G nw x' mo H1 → va_S (gA G) s.heap H1 locs1 → W p l e R s m args below meth c H1 locs1 cells slots Q (F0 m (pc + 3) ls (.int r :: rest))) : W p l e R s m args below meth c H locs cells slots Q (F0 m pc ls (.int a1 :: .ref (ga G 0) :: rest)) := mm_ki hS (mm_runV (n := 1) (o := 0) (C := RX10) (T := TX10) (N := 10) (ci := 10) (As := [.int a1]) hx hb hml hown hE hM hS (c_X10_horse l fu nw G x x' mo a1 _ hf) (List.forall_mem_cons.mpr ⟨⟨hw, rfl⟩, List.forall_mem_cons.mpr ⟨⟨w_3_19, rfl⟩, List.forall_mem_cons.mpr ⟨⟨w_3_20, rfl⟩, List.forall_mem_cons.mpr ⟨⟨w_1_1, rfl⟩, List.forall_mem_cons.mpr ⟨⟨w_3_21, rfl⟩, fun _ h => absurd h List.not_mem_nil⟩⟩⟩⟩⟩) rfl rfl ⟨rfl, by decide, by decide, by decide +kernel⟩ ⟨h1, h2⟩ rfl rfl rfl hsz rfl hW hdg hcs) kk
def f_X10_sound (fu nw : Nat) (x : Me) (a1 : Int32) (a2 : Int32) : Option (Me × Int32) := ob (f_X5_has fu nw x a1) (fun x_1 r_1 => if r_1 = 0 then some (x_1, 0) else if inb a1 16 = true then some ((mu x_1 17 a1.toNatClampNeg (vp_nar .boolean a2)), 1) else none)
def rm_X10_sound : Room := { frames := 1, cells := 0, slots := 0, locals := 21 }
set_option maxHeartbeats 4000000 in
set_option maxRecDepth 100000 in
theorem c_X10_sound (l : Launch) (fu nw : Nat) (G : GG) (x x' mo : Me) (a1 : Int32) (a2 : Int32) (r : Int32) (hf : f_X10_sound fu nw x a1 a2 = some (x', r)) : Met l yX10_sound [.code yX10_sound cX10_sound 3 (some .boolean)] rm_X10_sound (va_Pc [.ref (ga G 0), .int a1, .int a2] (Pre G nw x mo)) (PI G nw x' mo r) 0 0 (gA G) := by
  refine mt_ofW (cc := cX10_sound) (maxL := 3) (ret := (some .boolean)) (by decide +kernel) rfl ?_
  intro p e s m args below meth c s₁ B hml hv
  obtain ⟨rfl, hE, hM⟩ := hv
  have hx := B.exec
  have hb := B.bytes
  have hr := B.returns
  have hown : s.vm.findClass RX10 = some m.cls := findClass_of_methodNamed B.named
  have hlocks := B.notSynchronized
  have hS : va_S (gA G) s.heap s.heap [] := va_S.rf
  have hl := lv_entry ([.ref (ga G 0), .int a1, .int a2]) (n := 3) (Nat.le_of_ble_eq_true rfl)
  rw [lg_entry_eq]
  generalize (lg_sl ([.ref (ga G 0), .int a1, .int a2]) ++ List.replicate (3 - (lg_sl ([.ref (ga G 0), .int a1, .int a2])).length) Slot.unset).toArray = ls at hl ⊢
  have hl : lv_has ls 3 [(0, .ref (ga G 0)), (1, .int a1), (2, .int a2)] := hl
  generalize ([.ref (ga G 0), .int a1, .int a2] : List Value).toArray = args
  unfold f_X10_sound at hf
  refine lv_aload_n hx hb dX10_sound_0 rfl (lv_at hl 0 rfl) ?_
  refine gr_9 hx hb hE hM hown w_2_44 dX10_sound_1 ?_
  refine lv_iload_n hx hb dX10_sound_4 rfl (lv_at hl 1 rfl) ?_
  obtain ⟨x_1, r_1, hq_1, hf⟩ := ob_some hf
  refine k_X5_has hx hb hml hown hE hM hS w_3_30 hq_1 (Nat.le_of_ble_eq_true rfl) (Nat.le_of_ble_eq_true rfl) hl.1 (Nat.le_of_ble_eq_true rfl) ⟨Nat.zero_le _, Nat.zero_le _⟩ dX10_sound_5 (fun H locs hM hS => ?_)
  refine lv_if_ne (tgt := 13) hx hb dX10_sound_8 (by decide) (fun hc_3 => ?_) (fun hc_3 => ?_)
  · replace hf := i_f hf hc_3
    refine lv_aload_n hx hb dX10_sound_13 rfl (lv_at hl 0 rfl) ?_
    refine gr_9 hx hb hE hM hown w_2_44 dX10_sound_14 ?_
    refine gr_11N hx hb hE hM hown w_1_106 dX10_sound_17 ?_
    refine lv_iload_n hx hb dX10_sound_20 rfl (lv_at hl 1 rfl) ?_
    refine lv_iload_n hx hb dX10_sound_21 rfl (lv_at hl 2 rfl) ?_
    obtain ⟨hi_2, hf⟩ := i_n hf
    refine sa_11 hx hb hE hM hS hi_2 dX10_sound_22 (fun H locs hM hS => ?_)
    refine lv_iconst (v := 1) hx hb dX10_sound_23 (by decide) ?_
    exact rt_zX hx hb hr rfl hf hM hS dX10_sound_24 hlocks
  · replace hf := i_t hf hc_3
    refine lv_iconst (v := 0) hx hb dX10_sound_11 (by decide) ?_
    exact rt_zX hx hb hr rfl hf hM hS dX10_sound_12 hlocks
theorem k_X10_sound {p : Program} {l : Launch} {e : Env} {R : Room} {s : State} {m : MethodId} {args : Array Value} {below : List Frame} {meth : Method} {c : Code} {H : Heap} {locs : List Loc} {cells slots : Nat} {Q : State → Prop} {cc : ByteArray} {pc nL : Nat} {ls : Array Slot} {rest : List Value} {G : GG} {fu nw : Nat} {x x' mo : Me} {own : String} {index : Nat} {a1 : Int32} {a2 : Int32} {r : Int32} (hx : p.tables.exec = Jvm.exec) (hb : c.code = cc) (hml : c.maxLocals = nL) (hown : s.vm.findClass own = some m.cls) (hE : EnvP G s) (hM : MemP G nw x mo H) (hS : va_S (gA G) s.heap H locs) (hw : Cond.methodLink own index yX10_sound ∈ lw_tbl) (hf : f_X10_sound fu nw x a1 a2 = some (x', r)) (h1 : 1 + 1 ≤ R.frames) (h2 : 8 + (3 + 11) + 21 ≤ R.locals) (hsz : ls.size = nL) (hW : (rest.map fun v => v.category).sum ≤ 8) (hcs : cells ≤ R.cells ∧ slots ≤ R.slots) (hdg : decode cc pc = .ok (.invokevirtual index, 3)) (kk : ∀ (H1 : Heap) (locs1 : List Loc), MemP G nw x' mo H1 → va_S (gA G) s.heap H1 locs1 → W p l e R s m args below meth c H1 locs1 cells slots Q (F0 m (pc + 3) ls (.int r :: rest))) : W p l e R s m args below meth c H locs cells slots Q (F0 m pc ls (.int a2 :: .int a1 :: .ref (ga G 0) :: rest)) := mm_ki hS (mm_runV (n := 2) (o := 0) (C := RX10) (T := TX10) (N := 10) (ci := 10) (As := [.int a1, .int a2]) hx hb hml hown hE hM hS (c_X10_sound l fu nw G x x' mo a1 a2 _ hf) (List.forall_mem_cons.mpr ⟨⟨hw, rfl⟩, List.forall_mem_cons.mpr ⟨⟨w_3_27, rfl⟩, List.forall_mem_cons.mpr ⟨⟨w_3_28, rfl⟩, List.forall_mem_cons.mpr ⟨⟨w_1_1, rfl⟩, List.forall_mem_cons.mpr ⟨⟨w_3_29, rfl⟩, fun _ h => absurd h List.not_mem_nil⟩⟩⟩⟩⟩) rfl rfl ⟨rfl, by decide, by decide, by decide +kernel⟩ ⟨h1, h2⟩ rfl rfl rfl hsz rfl hW hdg hcs) kk
def f_X10_choose (fu nw : Nat) (x : Me) (a1 : Int32) : Option (Me × Int32) := if (x 2 0) = 0 then ob (f_X8_countFree fu nw x (x 1 0)) (fun x_1 r_1 => ob (f_X6_inForce fu nw x_1 0 (x_1 1 0)) (fun x_2 r_2 => if 2 ≤ (if r_1 < r_2 then r_1 else r_2) then ob (f_X0_begin_40 fu nw x_2 a1) (fun x_3 _ => ob (f_X8_chooseRunners fu nw x_3 (if r_1 < r_2 then r_1 else r_2) r_1 (x_3 1 0)) (fun x_4 _ => ob (f_X3_listRunners fu nw x_4) (fun x_5 _ => some ((mu x_5 2 0 1), (if r_1 < r_2 then r_1 else r_2))))) else some (x_2, (-1)))) else some (x, (-1))
def rm_X10_choose : Room := { frames := 4, cells := 0, slots := 0, locals := 86 }
set_option maxHeartbeats 4000000 in
set_option maxRecDepth 100000 in
theorem c_X10_choose (l : Launch) (fu nw : Nat) (G : GG) (x x' mo : Me) (a1 : Int32) (r : Int32) (hf : f_X10_choose fu nw x a1 = some (x', r)) : Met l yX10_choose [.code yX10_choose cX10_choose 4 (some .int)] rm_X10_choose (va_Pc [.ref (ga G 0), .int a1] (Pre G nw x mo)) (PI G nw x' mo r) 0 0 (gA G) := by
  refine mt_ofW (cc := cX10_choose) (maxL := 4) (ret := (some .int)) (by decide +kernel) rfl ?_
  intro p e s m args below meth c s₁ B hml hv
  obtain ⟨rfl, hE, hM⟩ := hv
  have hx := B.exec
  have hb := B.bytes
  have hr := B.returns
  have hown : s.vm.findClass RX10 = some m.cls := findClass_of_methodNamed B.named
  have hlocks := B.notSynchronized
  have hS : va_S (gA G) s.heap s.heap [] := va_S.rf
  have hl := lv_entry ([.ref (ga G 0), .int a1]) (n := 4) (Nat.le_of_ble_eq_true rfl)
  rw [lg_entry_eq]
  generalize (lg_sl ([.ref (ga G 0), .int a1]) ++ List.replicate (4 - (lg_sl ([.ref (ga G 0), .int a1])).length) Slot.unset).toArray = ls at hl ⊢
  have hl : lv_has ls 4 [(0, .ref (ga G 0)), (1, .int a1)] := hl
  generalize ([.ref (ga G 0), .int a1] : List Value).toArray = args
  unfold f_X10_choose at hf
  refine lv_aload_n hx hb dX10_choose_0 rfl (lv_at hl 0 rfl) ?_
  refine gf_2 hx hb hE hM hown w_2_50 dX10_choose_1 ?_
  refine lv_if_eq (tgt := 9) hx hb dX10_choose_4 (by decide) (fun hc_7 => ?_) (fun hc_7 => ?_)
  · replace hf := i_t hf hc_7
    refine lv_aload_n hx hb dX10_choose_9 rfl (lv_at hl 0 rfl) ?_
    refine gr_7 hx hb hE hM hown w_2_43 dX10_choose_10 ?_
    refine lv_aload_n hx hb dX10_choose_13 rfl (lv_at hl 0 rfl) ?_
    refine gf_1 hx hb hE hM hown w_2_49 dX10_choose_14 ?_
    obtain ⟨x_1, r_1, hq_1, hf⟩ := ob_some hf
    refine k_X8_countFree hx hb hml hown hE hM hS w_3_38 hq_1 (Nat.le_of_ble_eq_true rfl) (Nat.le_of_ble_eq_true rfl) hl.1 (Nat.le_of_ble_eq_true rfl) ⟨Nat.zero_le _, Nat.zero_le _⟩ dX10_choose_17 (fun H locs hM hS => ?_)
    refine lv_istore_n (lv' := [(2, .int r_1), (0, .ref (ga G 0)), (1, .int a1)]) hx hb dX10_choose_20 rfl hl (by decide) rfl (fun ls hl => ?_)
    refine lv_aload_n hx hb dX10_choose_21 rfl (lv_at hl 1 rfl) ?_
    refine gr_4 hx hb hE hM hown w_2_42 dX10_choose_22 ?_
    refine lv_iconst (v := 0) hx hb dX10_choose_25 (by decide) ?_
    refine lv_aload_n hx hb dX10_choose_26 rfl (lv_at hl 1 rfl) ?_
    refine gf_1 hx hb hE hM hown w_2_49 dX10_choose_27 ?_
    obtain ⟨x_2, r_2, hq_2, hf⟩ := ob_some hf
    refine k_X6_inForce hx hb hml hown hE hM hS w_2_209 hq_2 (Nat.le_of_ble_eq_true rfl) (Nat.le_of_ble_eq_true rfl) hl.1 (Nat.le_of_ble_eq_true rfl) ⟨Nat.zero_le _, Nat.zero_le _⟩ dX10_choose_30 (fun H locs hM hS => ?_)
    refine lv_iload_n hx hb dX10_choose_33 rfl (lv_at hl 0 rfl) ?_
    refine va_mmin hx hb (by rw [hml]; exact hl.1.symm) hown (ew hE w_3_46 rfl) (ew hE w_2_92 rfl) (ew hE w_1_12 rfl) (ew hE w_2_93 rfl) (Nat.le_of_ble_eq_true rfl) (Nat.le_of_ble_eq_true rfl) (Nat.zero_le _) (Nat.zero_le _) dX10_choose_34 ?_
    refine lv_istore_n (lv' := [(3, .int (if r_1 < r_2 then r_1 else r_2)), (2, .int r_1), (0, .ref (ga G 0)), (1, .int a1)]) hx hb dX10_choose_37 rfl hl (by decide) rfl (fun ls hl => ?_)
    refine lv_iload_n hx hb dX10_choose_38 rfl (lv_at hl 0 rfl) ?_
    refine lv_iconst (v := 2) hx hb dX10_choose_39 (by decide) ?_
    refine lv_icmp_ge (tgt := 45) hx hb dX10_choose_40 (by decide) (fun hc_6 => ?_) (fun hc_6 => ?_)
    · replace hf := i_t hf hc_6
      refine lv_aload_n hx hb dX10_choose_45 rfl (lv_at hl 2 rfl) ?_
      refine gr_40 hx hb hE hM hown w_2_48 dX10_choose_46 ?_
      refine lv_iload_n hx hb dX10_choose_49 rfl (lv_at hl 3 rfl) ?_
      obtain ⟨x_3, r_3, hq_3, hf⟩ := ob_some hf
      refine k_X0_begin_40 hx hb hml hown hE hM hS w_3_47 hq_3 (Nat.le_of_ble_eq_true rfl) (Nat.le_of_ble_eq_true rfl) hl.1 (Nat.le_of_ble_eq_true rfl) ⟨Nat.zero_le _, Nat.zero_le _⟩ dX10_choose_50 (fun H locs hM hS => ?_)
      refine lv_aload_n hx hb dX10_choose_53 rfl (lv_at hl 2 rfl) ?_
      refine gr_7 hx hb hE hM hown w_2_43 dX10_choose_54 ?_
      refine lv_iload_n hx hb dX10_choose_57 rfl (lv_at hl 0 rfl) ?_
      refine lv_iload_n hx hb dX10_choose_58 rfl (lv_at hl 1 rfl) ?_
      refine lv_aload_n hx hb dX10_choose_59 rfl (lv_at hl 2 rfl) ?_
      refine gf_1 hx hb hE hM hown w_2_49 dX10_choose_60 ?_
      refine lv_aload_n hx hb dX10_choose_63 rfl (lv_at hl 2 rfl) ?_
      refine gr_40 hx hb hE hM hown w_2_48 dX10_choose_64 ?_
      obtain ⟨x_4, r_4, hq_4, hf⟩ := ob_some hf
      refine k_X8_chooseRunners hx hb hml hown hE hM hS w_3_51 hq_4 (Nat.le_of_ble_eq_true rfl) (Nat.le_of_ble_eq_true rfl) hl.1 (Nat.le_of_ble_eq_true rfl) ⟨Nat.zero_le _, Nat.zero_le _⟩ dX10_choose_67 (fun H locs hM hS => ?_)
      refine lv_aload_n hx hb dX10_choose_70 rfl (lv_at hl 2 rfl) ?_
      refine gr_14 hx hb hE hM hown w_2_45 dX10_choose_71 ?_
      refine lv_aload_n hx hb dX10_choose_74 rfl (lv_at hl 2 rfl) ?_
      refine gr_7 hx hb hE hM hown w_2_43 dX10_choose_75 ?_
      obtain ⟨x_5, r_5, hq_5, hf⟩ := ob_some hf
      refine k_X3_listRunners hx hb hml hown hE hM hS w_3_76 hq_5 (Nat.le_of_ble_eq_true rfl) (Nat.le_of_ble_eq_true rfl) hl.1 (Nat.le_of_ble_eq_true rfl) ⟨Nat.zero_le _, Nat.zero_le _⟩ dX10_choose_78 (fun H locs hM hS => ?_)
      refine lv_aload_n hx hb dX10_choose_81 rfl (lv_at hl 2 rfl) ?_
      refine lv_iconst (v := 1) hx hb dX10_choose_82 (by decide) ?_
      refine pf_2 hx hb hE hM hS hown w_2_50 dX10_choose_83 (fun H locs hM hS => ?_)
      refine lv_iload_n hx hb dX10_choose_86 rfl (lv_at hl 0 rfl) ?_
      exact rt_iX hx hb hr hf hM hS dX10_choose_87 hlocks
    · replace hf := i_f hf hc_6
      refine lv_iconst (v := (-1)) hx hb dX10_choose_43 (by decide) ?_
      exact rt_iX hx hb hr hf hM hS dX10_choose_44 hlocks
  · replace hf := i_f hf hc_7
    refine lv_iconst (v := (-1)) hx hb dX10_choose_7 (by decide) ?_
    exact rt_iX hx hb hr hf hM hS dX10_choose_8 hlocks
theorem k_X10_choose {p : Program} {l : Launch} {e : Env} {R : Room} {s : State} {m : MethodId} {args : Array Value} {below : List Frame} {meth : Method} {c : Code} {H : Heap} {locs : List Loc} {cells slots : Nat} {Q : State → Prop} {cc : ByteArray} {pc nL : Nat} {ls : Array Slot} {rest : List Value} {G : GG} {fu nw : Nat} {x x' mo : Me} {own : String} {index : Nat} {a1 : Int32} {r : Int32} (hx : p.tables.exec = Jvm.exec) (hb : c.code = cc) (hml : c.maxLocals = nL) (hown : s.vm.findClass own = some m.cls) (hE : EnvP G s) (hM : MemP G nw x mo H) (hS : va_S (gA G) s.heap H locs) (hw : Cond.methodLink own index yX10_choose ∈ lw_tbl) (hf : f_X10_choose fu nw x a1 = some (x', r)) (h1 : 4 + 1 ≤ R.frames) (h2 : 8 + (4 + 11) + 86 ≤ R.locals) (hsz : ls.size = nL) (hW : (rest.map fun v => v.category).sum ≤ 8) (hcs : cells ≤ R.cells ∧ slots ≤ R.slots) (hdg : decode cc pc = .ok (.invokevirtual index, 3)) (kk : ∀ (H1 : Heap) (locs1 : List Loc), MemP G nw x' mo H1 → va_S (gA G) s.heap H1 locs1 → W p l e R s m args below meth c H1 locs1 cells slots Q (F0 m (pc + 3) ls (.int r :: rest))) : W p l e R s m args below meth c H locs cells slots Q (F0 m pc ls (.int a1 :: .ref (ga G 0) :: rest)) := mm_ki hS (mm_runV (n := 1) (o := 0) (C := RX10) (T := TX10) (N := 10) (ci := 10) (As := [.int a1]) hx hb hml hown hE hM hS (c_X10_choose l fu nw G x x' mo a1 _ hf) (List.forall_mem_cons.mpr ⟨⟨hw, rfl⟩, List.forall_mem_cons.mpr ⟨⟨w_3_35, rfl⟩, List.forall_mem_cons.mpr ⟨⟨w_3_36, rfl⟩, List.forall_mem_cons.mpr ⟨⟨w_1_1, rfl⟩, List.forall_mem_cons.mpr ⟨⟨w_3_37, rfl⟩, fun _ h => absurd h List.not_mem_nil⟩⟩⟩⟩⟩) rfl rfl ⟨rfl, by decide, by decide, by decide +kernel⟩ ⟨h1, h2⟩ rfl rfl rfl hsz rfl hW hdg hcs) kk
def f_X10_pick (fu nw : Nat) (x : Me) : Option (Me × Int32) := if (x 2 0) = 1 then ob (f_X5_pickEven fu nw x (x 20 0)) (fun x_1 r_1 => if r_1 = (-1) then some (x_1, r_1) else some ((mu x_1 2 0 2), r_1)) else some (x, (-1))
def rm_X10_pick : Room := { frames := 2, cells := 0, slots := 0, locals := 66 }
set_option maxHeartbeats 4000000 in
set_option maxRecDepth 100000 in
theorem c_X10_pick (l : Launch) (fu nw : Nat) (G : GG) (x x' mo : Me) (r : Int32) (hf : f_X10_pick fu nw x = some (x', r)) : Met l yX10_pick [.code yX10_pick cX10_pick 2 (some .int)] rm_X10_pick (va_Pc [.ref (ga G 0)] (Pre G nw x mo)) (PI G nw x' mo r) 0 0 (gA G) := by
  refine mt_ofW (cc := cX10_pick) (maxL := 2) (ret := (some .int)) (by decide +kernel) rfl ?_
  intro p e s m args below meth c s₁ B hml hv
  obtain ⟨rfl, hE, hM⟩ := hv
  have hx := B.exec
  have hb := B.bytes
  have hr := B.returns
  have hown : s.vm.findClass RX10 = some m.cls := findClass_of_methodNamed B.named
  have hlocks := B.notSynchronized
  have hS : va_S (gA G) s.heap s.heap [] := va_S.rf
  have hl := lv_entry ([.ref (ga G 0)]) (n := 2) (Nat.le_of_ble_eq_true rfl)
  rw [lg_entry_eq]
  generalize (lg_sl ([.ref (ga G 0)]) ++ List.replicate (2 - (lg_sl ([.ref (ga G 0)])).length) Slot.unset).toArray = ls at hl ⊢
  have hl : lv_has ls 2 [(0, .ref (ga G 0))] := hl
  generalize ([.ref (ga G 0)] : List Value).toArray = args
  unfold f_X10_pick at hf
  refine lv_aload_n hx hb dX10_pick_0 rfl (lv_at hl 0 rfl) ?_
  refine gf_2 hx hb hE hM hown w_2_50 dX10_pick_1 ?_
  refine lv_iconst (v := 1) hx hb dX10_pick_4 (by decide) ?_
  refine lv_icmp_eq (tgt := 10) hx hb dX10_pick_5 (by decide) (fun hc_3 => ?_) (fun hc_3 => ?_)
  · replace hf := i_t hf hc_3
    refine lv_aload_n hx hb dX10_pick_10 rfl (lv_at hl 0 rfl) ?_
    refine gr_9 hx hb hE hM hown w_2_44 dX10_pick_11 ?_
    refine lv_aload_n hx hb dX10_pick_14 rfl (lv_at hl 0 rfl) ?_
    refine gr_14 hx hb hE hM hown w_2_45 dX10_pick_15 ?_
    refine gf_20N hx hb hE hM hown w_1_129 dX10_pick_18 ?_
    obtain ⟨x_1, r_1, hq_1, hf⟩ := ob_some hf
    refine k_X5_pickEven hx hb hml hown hE hM hS w_3_88 hq_1 (Nat.le_of_ble_eq_true rfl) (Nat.le_of_ble_eq_true rfl) hl.1 (Nat.le_of_ble_eq_true rfl) ⟨Nat.zero_le _, Nat.zero_le _⟩ dX10_pick_21 (fun H locs hM hS => ?_)
    refine lv_istore_n (lv' := [(1, .int r_1), (0, .ref (ga G 0))]) hx hb dX10_pick_24 rfl hl (by decide) rfl (fun ls hl => ?_)
    refine lv_iload_n hx hb dX10_pick_25 rfl (lv_at hl 0 rfl) ?_
    refine lv_iconst (v := (-1)) hx hb dX10_pick_26 (by decide) ?_
    refine lv_icmp_eq (tgt := 35) hx hb dX10_pick_27 (by decide) (fun hc_2 => ?_) (fun hc_2 => ?_)
    · replace hf := i_t hf hc_2
      refine lv_iload_n hx hb dX10_pick_35 rfl (lv_at hl 0 rfl) ?_
      exact rt_iX hx hb hr hf hM hS dX10_pick_36 hlocks
    · replace hf := i_f hf hc_2
      refine lv_aload_n hx hb dX10_pick_30 rfl (lv_at hl 1 rfl) ?_
      refine lv_iconst (v := 2) hx hb dX10_pick_31 (by decide) ?_
      refine pf_2 hx hb hE hM hS hown w_2_50 dX10_pick_32 (fun H locs hM hS => ?_)
      refine lv_iload_n hx hb dX10_pick_35 rfl (lv_at hl 0 rfl) ?_
      exact rt_iX hx hb hr hf hM hS dX10_pick_36 hlocks
  · replace hf := i_f hf hc_3
    refine lv_iconst (v := (-1)) hx hb dX10_pick_8 (by decide) ?_
    exact rt_iX hx hb hr hf hM hS dX10_pick_9 hlocks
theorem k_X10_pick {p : Program} {l : Launch} {e : Env} {R : Room} {s : State} {m : MethodId} {args : Array Value} {below : List Frame} {meth : Method} {c : Code} {H : Heap} {locs : List Loc} {cells slots : Nat} {Q : State → Prop} {cc : ByteArray} {pc nL : Nat} {ls : Array Slot} {rest : List Value} {G : GG} {fu nw : Nat} {x x' mo : Me} {own : String} {index : Nat} {r : Int32} (hx : p.tables.exec = Jvm.exec) (hb : c.code = cc) (hml : c.maxLocals = nL) (hown : s.vm.findClass own = some m.cls) (hE : EnvP G s) (hM : MemP G nw x mo H) (hS : va_S (gA G) s.heap H locs) (hw : Cond.methodLink own index yX10_pick ∈ lw_tbl) (hf : f_X10_pick fu nw x = some (x', r)) (h1 : 2 + 1 ≤ R.frames) (h2 : 8 + (2 + 11) + 66 ≤ R.locals) (hsz : ls.size = nL) (hW : (rest.map fun v => v.category).sum ≤ 8) (hcs : cells ≤ R.cells ∧ slots ≤ R.slots) (hdg : decode cc pc = .ok (.invokevirtual index, 3)) (kk : ∀ (H1 : Heap) (locs1 : List Loc), MemP G nw x' mo H1 → va_S (gA G) s.heap H1 locs1 → W p l e R s m args below meth c H1 locs1 cells slots Q (F0 m (pc + 3) ls (.int r :: rest))) : W p l e R s m args below meth c H locs cells slots Q (F0 m pc ls (.ref (ga G 0) :: rest)) := mm_ki hS (mm_runV (n := 0) (o := 0) (C := RX10) (T := TX10) (N := 10) (ci := 10) (As := []) hx hb hml hown hE hM hS (c_X10_pick l fu nw G x x' mo _ hf) (List.forall_mem_cons.mpr ⟨⟨hw, rfl⟩, List.forall_mem_cons.mpr ⟨⟨w_3_85, rfl⟩, List.forall_mem_cons.mpr ⟨⟨w_3_86, rfl⟩, List.forall_mem_cons.mpr ⟨⟨w_1_1, rfl⟩, List.forall_mem_cons.mpr ⟨⟨w_3_87, rfl⟩, fun _ h => absurd h List.not_mem_nil⟩⟩⟩⟩⟩) rfl rfl ⟨rfl, by decide, by decide, by decide +kernel⟩ ⟨h1, h2⟩ rfl rfl rfl hsz rfl hW hdg hcs) kk
def f_X10_lots (fu nw : Nat) (x : Me) (a1 : Int32) : Option (Me × Int32) := if (x 2 0) = 2 then ob (f_X0_begin_40 fu nw x a1) (fun x_1 _ => ob (f_X3_drawHorses_12 fu nw x_1) (fun x_2 _ => ob (f_X3_drawPlaces fu nw x_2) (fun x_3 _ => some ((mu x_3 2 0 3), 1)))) else some (x, 0)
def rm_X10_lots : Room := { frames := 3, cells := 0, slots := 0, locals := 71 }
set_option maxHeartbeats 4000000 in
set_option maxRecDepth 100000 in
theorem c_X10_lots (l : Launch) (fu nw : Nat) (G : GG) (x x' mo : Me) (a1 : Int32) (r : Int32) (hf : f_X10_lots fu nw x a1 = some (x', r)) : Met l yX10_lots [.code yX10_lots cX10_lots 2 (some .boolean)] rm_X10_lots (va_Pc [.ref (ga G 0), .int a1] (Pre G nw x mo)) (PI G nw x' mo r) 0 0 (gA G) := by
  refine mt_ofW (cc := cX10_lots) (maxL := 2) (ret := (some .boolean)) (by decide +kernel) rfl ?_
  intro p e s m args below meth c s₁ B hml hv
  obtain ⟨rfl, hE, hM⟩ := hv
  have hx := B.exec
  have hb := B.bytes
  have hr := B.returns
  have hown : s.vm.findClass RX10 = some m.cls := findClass_of_methodNamed B.named
  have hlocks := B.notSynchronized
  have hS : va_S (gA G) s.heap s.heap [] := va_S.rf
  have hl := lv_entry ([.ref (ga G 0), .int a1]) (n := 2) (Nat.le_of_ble_eq_true rfl)
  rw [lg_entry_eq]
  generalize (lg_sl ([.ref (ga G 0), .int a1]) ++ List.replicate (2 - (lg_sl ([.ref (ga G 0), .int a1])).length) Slot.unset).toArray = ls at hl ⊢
  have hl : lv_has ls 2 [(0, .ref (ga G 0)), (1, .int a1)] := hl
  generalize ([.ref (ga G 0), .int a1] : List Value).toArray = args
  unfold f_X10_lots at hf
  refine lv_aload_n hx hb dX10_lots_0 rfl (lv_at hl 0 rfl) ?_
  refine gf_2 hx hb hE hM hown w_2_50 dX10_lots_1 ?_
  refine lv_iconst (v := 2) hx hb dX10_lots_4 (by decide) ?_
  refine lv_icmp_eq (tgt := 10) hx hb dX10_lots_5 (by decide) (fun hc_4 => ?_) (fun hc_4 => ?_)
  · replace hf := i_t hf hc_4
    refine lv_aload_n hx hb dX10_lots_10 rfl (lv_at hl 0 rfl) ?_
    refine gr_40 hx hb hE hM hown w_2_48 dX10_lots_11 ?_
    refine lv_iload_n hx hb dX10_lots_14 rfl (lv_at hl 1 rfl) ?_
    obtain ⟨x_1, r_1, hq_1, hf⟩ := ob_some hf
    refine k_X0_begin_40 hx hb hml hown hE hM hS w_3_47 hq_1 (Nat.le_of_ble_eq_true rfl) (Nat.le_of_ble_eq_true rfl) hl.1 (Nat.le_of_ble_eq_true rfl) ⟨Nat.zero_le _, Nat.zero_le _⟩ dX10_lots_15 (fun H locs hM hS => ?_)
    refine lv_aload_n hx hb dX10_lots_18 rfl (lv_at hl 0 rfl) ?_
    refine gr_14 hx hb hE hM hown w_2_45 dX10_lots_19 ?_
    refine lv_aload_n hx hb dX10_lots_22 rfl (lv_at hl 0 rfl) ?_
    refine gr_7 hx hb hE hM hown w_2_43 dX10_lots_23 ?_
    refine lv_aload_n hx hb dX10_lots_26 rfl (lv_at hl 0 rfl) ?_
    refine gr_9 hx hb hE hM hown w_2_44 dX10_lots_27 ?_
    refine gr_12N hx hb hE hM hown w_1_108 dX10_lots_30 ?_
    refine lv_aload_n hx hb dX10_lots_33 rfl (lv_at hl 0 rfl) ?_
    refine gr_40 hx hb hE hM hown w_2_48 dX10_lots_34 ?_
    obtain ⟨x_2, r_2, hq_2, hf⟩ := ob_some hf
    refine k_X3_drawHorses_12 hx hb hml hown hE hM hS w_3_105 hq_2 (Nat.le_of_ble_eq_true rfl) (Nat.le_of_ble_eq_true rfl) hl.1 (Nat.le_of_ble_eq_true rfl) ⟨Nat.zero_le _, Nat.zero_le _⟩ dX10_lots_37 (fun H locs hM hS => ?_)
    refine lv_aload_n hx hb dX10_lots_40 rfl (lv_at hl 0 rfl) ?_
    refine gr_14 hx hb hE hM hown w_2_45 dX10_lots_41 ?_
    refine lv_aload_n hx hb dX10_lots_44 rfl (lv_at hl 0 rfl) ?_
    refine gr_40 hx hb hE hM hown w_2_48 dX10_lots_45 ?_
    obtain ⟨x_3, r_3, hq_3, hf⟩ := ob_some hf
    refine k_X3_drawPlaces hx hb hml hown hE hM hS w_3_123 hq_3 (Nat.le_of_ble_eq_true rfl) (Nat.le_of_ble_eq_true rfl) hl.1 (Nat.le_of_ble_eq_true rfl) ⟨Nat.zero_le _, Nat.zero_le _⟩ dX10_lots_48 (fun H locs hM hS => ?_)
    refine lv_aload_n hx hb dX10_lots_51 rfl (lv_at hl 0 rfl) ?_
    refine lv_iconst (v := 3) hx hb dX10_lots_52 (by decide) ?_
    refine pf_2 hx hb hE hM hS hown w_2_50 dX10_lots_53 (fun H locs hM hS => ?_)
    refine lv_iconst (v := 1) hx hb dX10_lots_56 (by decide) ?_
    exact rt_zX hx hb hr rfl hf hM hS dX10_lots_57 hlocks
  · replace hf := i_f hf hc_4
    refine lv_iconst (v := 0) hx hb dX10_lots_8 (by decide) ?_
    exact rt_zX hx hb hr rfl hf hM hS dX10_lots_9 hlocks
theorem k_X10_lots {p : Program} {l : Launch} {e : Env} {R : Room} {s : State} {m : MethodId} {args : Array Value} {below : List Frame} {meth : Method} {c : Code} {H : Heap} {locs : List Loc} {cells slots : Nat} {Q : State → Prop} {cc : ByteArray} {pc nL : Nat} {ls : Array Slot} {rest : List Value} {G : GG} {fu nw : Nat} {x x' mo : Me} {own : String} {index : Nat} {a1 : Int32} {r : Int32} (hx : p.tables.exec = Jvm.exec) (hb : c.code = cc) (hml : c.maxLocals = nL) (hown : s.vm.findClass own = some m.cls) (hE : EnvP G s) (hM : MemP G nw x mo H) (hS : va_S (gA G) s.heap H locs) (hw : Cond.methodLink own index yX10_lots ∈ lw_tbl) (hf : f_X10_lots fu nw x a1 = some (x', r)) (h1 : 3 + 1 ≤ R.frames) (h2 : 8 + (2 + 11) + 71 ≤ R.locals) (hsz : ls.size = nL) (hW : (rest.map fun v => v.category).sum ≤ 8) (hcs : cells ≤ R.cells ∧ slots ≤ R.slots) (hdg : decode cc pc = .ok (.invokevirtual index, 3)) (kk : ∀ (H1 : Heap) (locs1 : List Loc), MemP G nw x' mo H1 → va_S (gA G) s.heap H1 locs1 → W p l e R s m args below meth c H1 locs1 cells slots Q (F0 m (pc + 3) ls (.int r :: rest))) : W p l e R s m args below meth c H locs cells slots Q (F0 m pc ls (.int a1 :: .ref (ga G 0) :: rest)) := mm_ki hS (mm_runV (n := 1) (o := 0) (C := RX10) (T := TX10) (N := 10) (ci := 10) (As := [.int a1]) hx hb hml hown hE hM hS (c_X10_lots l fu nw G x x' mo a1 _ hf) (List.forall_mem_cons.mpr ⟨⟨hw, rfl⟩, List.forall_mem_cons.mpr ⟨⟨w_3_102, rfl⟩, List.forall_mem_cons.mpr ⟨⟨w_3_103, rfl⟩, List.forall_mem_cons.mpr ⟨⟨w_1_1, rfl⟩, List.forall_mem_cons.mpr ⟨⟨w_3_104, rfl⟩, fun _ h => absurd h List.not_mem_nil⟩⟩⟩⟩⟩) rfl rfl ⟨rfl, by decide, by decide, by decide +kernel⟩ ⟨h1, h2⟩ rfl rfl rfl hsz rfl hW hdg hcs) kk
def f_X10_drawn (fu nw : Nat) (x : Me) (a1 : Int32) (a2 : Int32) : Option (Me × Int32) := if a2 < 0 then some (x, (-1)) else if a2 < (x 20 0) then if a1 = 0 then if (x 2 0) < 1 then some (x, (-1)) else if inb a2 10 = true then some (x, x 21 a2.toNatClampNeg) else none else if a1 = 1 then if (x 2 0) < 2 then some (x, (-1)) else if inb a2 10 = true then some (x, x 18 a2.toNatClampNeg) else none else if a1 = 2 then if (x 2 0) < 3 then some (x, (-1)) else if inb a2 10 = true then some (x, x 22 a2.toNatClampNeg) else none else some (x, (-1)) else some (x, (-1))
def rm_X10_drawn : Room := { frames := 0, cells := 0, slots := 0, locals := 0 }
set_option maxHeartbeats 4000000 in
set_option maxRecDepth 100000 in
theorem c_X10_drawn (l : Launch) (fu nw : Nat) (G : GG) (x x' mo : Me) (a1 : Int32) (a2 : Int32) (r : Int32) (hf : f_X10_drawn fu nw x a1 a2 = some (x', r)) : Met l yX10_drawn [.code yX10_drawn cX10_drawn 3 (some .int)] rm_X10_drawn (va_Pc [.ref (ga G 0), .int a1, .int a2] (Pre G nw x mo)) (PI G nw x' mo r) 0 0 (gA G) := by
  refine mt_ofW (cc := cX10_drawn) (maxL := 3) (ret := (some .int)) (by decide +kernel) rfl ?_
  intro p e s m args below meth c s₁ B hml hv
  obtain ⟨rfl, hE, hM⟩ := hv
  have hx := B.exec
  have hb := B.bytes
  have hr := B.returns
  have hown : s.vm.findClass RX10 = some m.cls := findClass_of_methodNamed B.named
  have hlocks := B.notSynchronized
  have hS : va_S (gA G) s.heap s.heap [] := va_S.rf
  have hl := lv_entry ([.ref (ga G 0), .int a1, .int a2]) (n := 3) (Nat.le_of_ble_eq_true rfl)
  rw [lg_entry_eq]
  generalize (lg_sl ([.ref (ga G 0), .int a1, .int a2]) ++ List.replicate (3 - (lg_sl ([.ref (ga G 0), .int a1, .int a2])).length) Slot.unset).toArray = ls at hl ⊢
  have hl : lv_has ls 3 [(0, .ref (ga G 0)), (1, .int a1), (2, .int a2)] := hl
  generalize ([.ref (ga G 0), .int a1, .int a2] : List Value).toArray = args
  unfold f_X10_drawn at hf
  refine lv_iload_n hx hb dX10_drawn_0 rfl (lv_at hl 2 rfl) ?_
  refine lv_if_lt (tgt := 15) hx hb dX10_drawn_1 (by decide) (fun hc_11 => ?_) (fun hc_11 => ?_)
  · replace hf := i_t hf hc_11
    refine lv_iconst (v := (-1)) hx hb dX10_drawn_15 (by decide) ?_
    exact rt_iX hx hb hr hf hM hS dX10_drawn_16 hlocks
  · replace hf := i_f hf hc_11
    refine lv_iload_n hx hb dX10_drawn_4 rfl (lv_at hl 2 rfl) ?_
    refine lv_aload_n hx hb dX10_drawn_5 rfl (lv_at hl 0 rfl) ?_
    refine gr_14 hx hb hE hM hown w_2_45 dX10_drawn_6 ?_
    refine gf_20N hx hb hE hM hown w_1_129 dX10_drawn_9 ?_
    refine lv_icmp_lt (tgt := 17) hx hb dX10_drawn_12 (by decide) (fun hc_10 => ?_) (fun hc_10 => ?_)
    · replace hf := i_t hf hc_10
      refine lv_iload_n hx hb dX10_drawn_17 rfl (lv_at hl 1 rfl) ?_
      by_cases hc_1 : a1 = 0
      · replace hf := i_t hf hc_1
        refine lv_tabK (k := 0) (tgt := 44) hx hb dX10_drawn_18 hc_1 (by decide) (by decide) rfl (by decide) ?_
        refine lv_aload_n hx hb dX10_drawn_44 rfl (lv_at hl 0 rfl) ?_
        refine gf_2 hx hb hE hM hown w_2_50 dX10_drawn_45 ?_
        refine lv_iconst (v := 1) hx hb dX10_drawn_48 (by decide) ?_
        refine lv_icmp_lt (tgt := 64) hx hb dX10_drawn_49 (by decide) (fun hc_3 => ?_) (fun hc_3 => ?_)
        · replace hf := i_t hf hc_3
          refine lv_iconst (v := (-1)) hx hb dX10_drawn_64 (by decide) ?_
          exact rt_iX hx hb hr hf hM hS dX10_drawn_65 hlocks
        · replace hf := i_f hf hc_3
          refine lv_aload_n hx hb dX10_drawn_52 rfl (lv_at hl 0 rfl) ?_
          refine gr_14 hx hb hE hM hown w_2_45 dX10_drawn_53 ?_
          refine gr_15N hx hb hE hM hown w_1_131 dX10_drawn_56 ?_
          refine lv_iload_n hx hb dX10_drawn_59 rfl (lv_at hl 2 rfl) ?_
          obtain ⟨hi_2, hf⟩ := i_n hf
          refine la_15 hx hb hE hM hi_2 dX10_drawn_60 ?_
          refine lv_goto (tgt := 65) hx hb dX10_drawn_61 (by decide) ?_
          exact rt_iX hx hb hr hf hM hS dX10_drawn_65 hlocks
      replace hf := i_f hf hc_1
      by_cases hc_4 : a1 = 1
      · replace hf := i_t hf hc_4
        refine lv_tabK (k := 1) (tgt := 66) hx hb dX10_drawn_18 hc_4 (by decide) (by decide) rfl (by decide) ?_
        refine lv_aload_n hx hb dX10_drawn_66 rfl (lv_at hl 0 rfl) ?_
        refine gf_2 hx hb hE hM hown w_2_50 dX10_drawn_67 ?_
        refine lv_iconst (v := 2) hx hb dX10_drawn_70 (by decide) ?_
        refine lv_icmp_lt (tgt := 86) hx hb dX10_drawn_71 (by decide) (fun hc_6 => ?_) (fun hc_6 => ?_)
        · replace hf := i_t hf hc_6
          refine lv_iconst (v := (-1)) hx hb dX10_drawn_86 (by decide) ?_
          exact rt_iX hx hb hr hf hM hS dX10_drawn_87 hlocks
        · replace hf := i_f hf hc_6
          refine lv_aload_n hx hb dX10_drawn_74 rfl (lv_at hl 0 rfl) ?_
          refine gr_9 hx hb hE hM hown w_2_44 dX10_drawn_75 ?_
          refine gr_12N hx hb hE hM hown w_1_108 dX10_drawn_78 ?_
          refine lv_iload_n hx hb dX10_drawn_81 rfl (lv_at hl 2 rfl) ?_
          obtain ⟨hi_5, hf⟩ := i_n hf
          refine la_12 hx hb hE hM hi_5 dX10_drawn_82 ?_
          refine lv_goto (tgt := 87) hx hb dX10_drawn_83 (by decide) ?_
          exact rt_iX hx hb hr hf hM hS dX10_drawn_87 hlocks
      replace hf := i_f hf hc_4
      by_cases hc_7 : a1 = 2
      · replace hf := i_t hf hc_7
        refine lv_tabK (k := 2) (tgt := 88) hx hb dX10_drawn_18 hc_7 (by decide) (by decide) rfl (by decide) ?_
        refine lv_aload_n hx hb dX10_drawn_88 rfl (lv_at hl 0 rfl) ?_
        refine gf_2 hx hb hE hM hown w_2_50 dX10_drawn_89 ?_
        refine lv_iconst (v := 3) hx hb dX10_drawn_92 (by decide) ?_
        refine lv_icmp_lt (tgt := 108) hx hb dX10_drawn_93 (by decide) (fun hc_9 => ?_) (fun hc_9 => ?_)
        · replace hf := i_t hf hc_9
          refine lv_iconst (v := (-1)) hx hb dX10_drawn_108 (by decide) ?_
          exact rt_iX hx hb hr hf hM hS dX10_drawn_109 hlocks
        · replace hf := i_f hf hc_9
          refine lv_aload_n hx hb dX10_drawn_96 rfl (lv_at hl 0 rfl) ?_
          refine gr_14 hx hb hE hM hown w_2_45 dX10_drawn_97 ?_
          refine gr_16N hx hb hE hM hown w_1_133 dX10_drawn_100 ?_
          refine lv_iload_n hx hb dX10_drawn_103 rfl (lv_at hl 2 rfl) ?_
          obtain ⟨hi_8, hf⟩ := i_n hf
          refine la_16 hx hb hE hM hi_8 dX10_drawn_104 ?_
          refine lv_goto (tgt := 109) hx hb dX10_drawn_105 (by decide) ?_
          exact rt_iX hx hb hr hf hM hS dX10_drawn_109 hlocks
      replace hf := i_f hf hc_7
      refine lv_tableOut (tgt := 110) hx hb dX10_drawn_18 (by have q0 := lv_neT (a := 0) hc_1 rfl; have q1 := lv_neT (a := 1) hc_4 rfl; have q2 := lv_neT (a := 2) hc_7 rfl; omega) (by decide) ?_
      refine lv_iconst (v := (-1)) hx hb dX10_drawn_110 (by decide) ?_
      exact rt_iX hx hb hr hf hM hS dX10_drawn_111 hlocks
    · replace hf := i_f hf hc_10
      refine lv_iconst (v := (-1)) hx hb dX10_drawn_15 (by decide) ?_
      exact rt_iX hx hb hr hf hM hS dX10_drawn_16 hlocks
theorem k_X10_drawn {p : Program} {l : Launch} {e : Env} {R : Room} {s : State} {m : MethodId} {args : Array Value} {below : List Frame} {meth : Method} {c : Code} {H : Heap} {locs : List Loc} {cells slots : Nat} {Q : State → Prop} {cc : ByteArray} {pc nL : Nat} {ls : Array Slot} {rest : List Value} {G : GG} {fu nw : Nat} {x x' mo : Me} {own : String} {index : Nat} {a1 : Int32} {a2 : Int32} {r : Int32} (hx : p.tables.exec = Jvm.exec) (hb : c.code = cc) (hml : c.maxLocals = nL) (hown : s.vm.findClass own = some m.cls) (hE : EnvP G s) (hM : MemP G nw x mo H) (hS : va_S (gA G) s.heap H locs) (hw : Cond.methodLink own index yX10_drawn ∈ lw_tbl) (hf : f_X10_drawn fu nw x a1 a2 = some (x', r)) (h1 : 0 + 1 ≤ R.frames) (h2 : 8 + (3 + 11) + 0 ≤ R.locals) (hsz : ls.size = nL) (hW : (rest.map fun v => v.category).sum ≤ 8) (hcs : cells ≤ R.cells ∧ slots ≤ R.slots) (hdg : decode cc pc = .ok (.invokevirtual index, 3)) (kk : ∀ (H1 : Heap) (locs1 : List Loc), MemP G nw x' mo H1 → va_S (gA G) s.heap H1 locs1 → W p l e R s m args below meth c H1 locs1 cells slots Q (F0 m (pc + 3) ls (.int r :: rest))) : W p l e R s m args below meth c H locs cells slots Q (F0 m pc ls (.int a2 :: .int a1 :: .ref (ga G 0) :: rest)) := mm_ki hS (mm_runV (n := 2) (o := 0) (C := RX10) (T := TX10) (N := 10) (ci := 10) (As := [.int a1, .int a2]) hx hb hml hown hE hM hS (c_X10_drawn l fu nw G x x' mo a1 a2 _ hf) (List.forall_mem_cons.mpr ⟨⟨hw, rfl⟩, List.forall_mem_cons.mpr ⟨⟨w_3_133, rfl⟩, List.forall_mem_cons.mpr ⟨⟨w_3_134, rfl⟩, List.forall_mem_cons.mpr ⟨⟨w_1_1, rfl⟩, List.forall_mem_cons.mpr ⟨⟨w_3_135, rfl⟩, fun _ h => absurd h List.not_mem_nil⟩⟩⟩⟩⟩) rfl rfl ⟨rfl, by decide, by decide, by decide +kernel⟩ ⟨h1, h2⟩ rfl rfl rfl hsz rfl hW hdg hcs) kk
def f_X10_look (fu nw : Nat) (x : Me) (a1 : Int32) (a2 : Int32) : Option (Me × Int32) := ob (f_X8_find fu nw x a1) (fun x_1 r_1 => om r_1 (some (x_1, (-1))) (fun m_1 => if m_1 < nw then if a2 = 0 then some (x_1, x_1 51 m_1) else if a2 = 1 then some (x_1, x_1 52 m_1) else if a2 = 2 then some (x_1, x_1 53 m_1) else if a2 = 3 then some (x_1, x_1 54 m_1) else if a2 = 4 then some (x_1, x_1 55 m_1) else some (x_1, (-1)) else none))
def rm_X10_look : Room := { frames := 2, cells := 0, slots := 0, locals := 42 }
set_option maxHeartbeats 4000000 in
set_option maxRecDepth 100000 in
theorem c_X10_look (l : Launch) (fu nw : Nat) (G : GG) (x x' mo : Me) (a1 : Int32) (a2 : Int32) (r : Int32) (hf : f_X10_look fu nw x a1 a2 = some (x', r)) : Met l yX10_look [.code yX10_look cX10_look 4 (some .int)] rm_X10_look (va_Pc [.ref (ga G 0), .int a1, .int a2] (Pre G nw x mo)) (PI G nw x' mo r) 0 0 (gA G) := by
  refine mt_ofW (cc := cX10_look) (maxL := 4) (ret := (some .int)) (by decide +kernel) rfl ?_
  intro p e s m args below meth c s₁ B hml hv
  obtain ⟨rfl, hE, hM⟩ := hv
  have hx := B.exec
  have hb := B.bytes
  have hr := B.returns
  have hown : s.vm.findClass RX10 = some m.cls := findClass_of_methodNamed B.named
  have hlocks := B.notSynchronized
  have hS : va_S (gA G) s.heap s.heap [] := va_S.rf
  have hl := lv_entry ([.ref (ga G 0), .int a1, .int a2]) (n := 4) (Nat.le_of_ble_eq_true rfl)
  rw [lg_entry_eq]
  generalize (lg_sl ([.ref (ga G 0), .int a1, .int a2]) ++ List.replicate (4 - (lg_sl ([.ref (ga G 0), .int a1, .int a2])).length) Slot.unset).toArray = ls at hl ⊢
  have hl : lv_has ls 4 [(0, .ref (ga G 0)), (1, .int a1), (2, .int a2)] := hl
  generalize ([.ref (ga G 0), .int a1, .int a2] : List Value).toArray = args
  unfold f_X10_look at hf
  refine lv_aload_n hx hb dX10_look_0 rfl (lv_at hl 0 rfl) ?_
  refine gr_7 hx hb hE hM hown w_2_43 dX10_look_1 ?_
  refine lv_iload_n hx hb dX10_look_4 rfl (lv_at hl 1 rfl) ?_
  obtain ⟨x_1, r_1, hq_1, hf⟩ := ob_some hf
  refine k_X8_find hx hb hml hown hE hM hS w_3_140 hq_1 (Nat.le_of_ble_eq_true rfl) (Nat.le_of_ble_eq_true rfl) hl.1 (Nat.le_of_ble_eq_true rfl) ⟨Nat.zero_le _, Nat.zero_le _⟩ dX10_look_5 (fun h_1 H locs hM hS => ?_) (fun m_1 h_1 H locs hM hS => ?_)
  · subst h_1
    replace hf := om_n hf
    refine lv_astore_nN (lv' := [(3, .null), (0, .ref (ga G 0)), (1, .int a1), (2, .int a2)]) hx hb dX10_look_8 rfl hl (by decide) rfl (fun ls hl => ?_)
    refine lv_aload_nN hx hb dX10_look_9 rfl (lv_at hl 0 rfl) ?_
    refine lv_ifnonnullN hx hb dX10_look_10 ?_
    refine lv_iconst (v := (-1)) hx hb dX10_look_13 (by decide) ?_
    exact rt_iX hx hb hr hf hM hS dX10_look_14 hlocks
  · subst h_1
    replace hf := om_s hf
    obtain ⟨hm_1, hf⟩ := i_n hf
    refine lv_astore_n (lv' := [(3, .ref (ga G (69 + m_1))), (0, .ref (ga G 0)), (1, .int a1), (2, .int a2)]) hx hb dX10_look_8 rfl hl (by decide) rfl (fun ls hl => ?_)
    refine lv_aload_n hx hb dX10_look_9 rfl (lv_at hl 0 rfl) ?_
    refine lv_ifnonnull (tgt := 15) hx hb dX10_look_10 (by decide) ?_
    refine lv_iload_n hx hb dX10_look_15 rfl (lv_at hl 3 rfl) ?_
    by_cases hc_2 : a2 = 0
    · replace hf := i_t hf hc_2
      refine lv_tabK (k := 0) (tgt := 52) hx hb dX10_look_16 hc_2 (by decide) (by decide) rfl (by decide) ?_
      refine lv_aload_n hx hb dX10_look_52 rfl (lv_at hl 0 rfl) ?_
      refine gf_51N hm_1 hx hb hE hM hown w_2_234 dX10_look_53 ?_
      exact rt_iX hx hb hr hf hM hS dX10_look_56 hlocks
    replace hf := i_f hf hc_2
    by_cases hc_3 : a2 = 1
    · replace hf := i_t hf hc_3
      refine lv_tabK (k := 1) (tgt := 57) hx hb dX10_look_16 hc_3 (by decide) (by decide) rfl (by decide) ?_
      refine lv_aload_n hx hb dX10_look_57 rfl (lv_at hl 0 rfl) ?_
      refine gf_52N hm_1 hx hb hE hM hown w_2_237 dX10_look_58 ?_
      exact rt_iX hx hb hr hf hM hS dX10_look_61 hlocks
    replace hf := i_f hf hc_3
    by_cases hc_4 : a2 = 2
    · replace hf := i_t hf hc_4
      refine lv_tabK (k := 2) (tgt := 62) hx hb dX10_look_16 hc_4 (by decide) (by decide) rfl (by decide) ?_
      refine lv_aload_n hx hb dX10_look_62 rfl (lv_at hl 0 rfl) ?_
      refine gf_53N hm_1 hx hb hE hM hown w_2_239 dX10_look_63 ?_
      exact rt_iX hx hb hr hf hM hS dX10_look_66 hlocks
    replace hf := i_f hf hc_4
    by_cases hc_5 : a2 = 3
    · replace hf := i_t hf hc_5
      refine lv_tabK (k := 3) (tgt := 67) hx hb dX10_look_16 hc_5 (by decide) (by decide) rfl (by decide) ?_
      refine lv_aload_n hx hb dX10_look_67 rfl (lv_at hl 0 rfl) ?_
      refine gf_54N hm_1 hx hb hE hM hown w_3_2 dX10_look_68 ?_
      exact rt_iX hx hb hr hf hM hS dX10_look_71 hlocks
    replace hf := i_f hf hc_5
    by_cases hc_6 : a2 = 4
    · replace hf := i_t hf hc_6
      refine lv_tabK (k := 4) (tgt := 72) hx hb dX10_look_16 hc_6 (by decide) (by decide) rfl (by decide) ?_
      refine lv_aload_n hx hb dX10_look_72 rfl (lv_at hl 0 rfl) ?_
      refine gf_55N hm_1 hx hb hE hM hown w_3_4 dX10_look_73 ?_
      exact rt_iX hx hb hr hf hM hS dX10_look_76 hlocks
    replace hf := i_f hf hc_6
    refine lv_tableOut (tgt := 77) hx hb dX10_look_16 (by have q0 := lv_neT (a := 0) hc_2 rfl; have q1 := lv_neT (a := 1) hc_3 rfl; have q2 := lv_neT (a := 2) hc_4 rfl; have q3 := lv_neT (a := 3) hc_5 rfl; have q4 := lv_neT (a := 4) hc_6 rfl; omega) (by decide) ?_
    refine lv_iconst (v := (-1)) hx hb dX10_look_77 (by decide) ?_
    exact rt_iX hx hb hr hf hM hS dX10_look_78 hlocks
theorem k_X10_look {p : Program} {l : Launch} {e : Env} {R : Room} {s : State} {m : MethodId} {args : Array Value} {below : List Frame} {meth : Method} {c : Code} {H : Heap} {locs : List Loc} {cells slots : Nat} {Q : State → Prop} {cc : ByteArray} {pc nL : Nat} {ls : Array Slot} {rest : List Value} {G : GG} {fu nw : Nat} {x x' mo : Me} {own : String} {index : Nat} {a1 : Int32} {a2 : Int32} {r : Int32} (hx : p.tables.exec = Jvm.exec) (hb : c.code = cc) (hml : c.maxLocals = nL) (hown : s.vm.findClass own = some m.cls) (hE : EnvP G s) (hM : MemP G nw x mo H) (hS : va_S (gA G) s.heap H locs) (hw : Cond.methodLink own index yX10_look ∈ lw_tbl) (hf : f_X10_look fu nw x a1 a2 = some (x', r)) (h1 : 2 + 1 ≤ R.frames) (h2 : 8 + (4 + 11) + 42 ≤ R.locals) (hsz : ls.size = nL) (hW : (rest.map fun v => v.category).sum ≤ 8) (hcs : cells ≤ R.cells ∧ slots ≤ R.slots) (hdg : decode cc pc = .ok (.invokevirtual index, 3)) (kk : ∀ (H1 : Heap) (locs1 : List Loc), MemP G nw x' mo H1 → va_S (gA G) s.heap H1 locs1 → W p l e R s m args below meth c H1 locs1 cells slots Q (F0 m (pc + 3) ls (.int r :: rest))) : W p l e R s m args below meth c H locs cells slots Q (F0 m pc ls (.int a2 :: .int a1 :: .ref (ga G 0) :: rest)) := mm_ki hS (mm_runV (n := 2) (o := 0) (C := RX10) (T := TX10) (N := 10) (ci := 10) (As := [.int a1, .int a2]) hx hb hml hown hE hM hS (c_X10_look l fu nw G x x' mo a1 a2 _ hf) (List.forall_mem_cons.mpr ⟨⟨hw, rfl⟩, List.forall_mem_cons.mpr ⟨⟨w_3_137, rfl⟩, List.forall_mem_cons.mpr ⟨⟨w_3_138, rfl⟩, List.forall_mem_cons.mpr ⟨⟨w_1_1, rfl⟩, List.forall_mem_cons.mpr ⟨⟨w_3_139, rfl⟩, fun _ h => absurd h List.not_mem_nil⟩⟩⟩⟩⟩) rfl rfl ⟨rfl, by decide, by decide, by decide +kernel⟩ ⟨h1, h2⟩ rfl rfl rfl hsz rfl hW hdg hcs) kk
def f_X10_ring (fu nw : Nat) (x : Me) (a1 : Int32) : Option (Me × Int32) := if a1 < 12 then some (x, 0) else if 60 < a1 then some (x, 0) else if (x 2 0) = 4 then some (x, 0) else ob (f_X2_layRing fu nw x a1) (fun x_1 _ => some (x_1, 1))
def rm_X10_ring : Room := { frames := 1, cells := 0, slots := 0, locals := 22 }
set_option maxHeartbeats 4000000 in
set_option maxRecDepth 100000 in
theorem c_X10_ring (l : Launch) (fu nw : Nat) (G : GG) (x x' mo : Me) (a1 : Int32) (r : Int32) (hf : f_X10_ring fu nw x a1 = some (x', r)) : Met l yX10_ring [.code yX10_ring cX10_ring 2 (some .boolean)] rm_X10_ring (va_Pc [.ref (ga G 0), .int a1] (Pre G nw x mo)) (PI G nw x' mo r) 0 0 (gA G) := by
  refine mt_ofW (cc := cX10_ring) (maxL := 2) (ret := (some .boolean)) (by decide +kernel) rfl ?_
  intro p e s m args below meth c s₁ B hml hv
  obtain ⟨rfl, hE, hM⟩ := hv
  have hx := B.exec
  have hb := B.bytes
  have hr := B.returns
  have hown : s.vm.findClass RX10 = some m.cls := findClass_of_methodNamed B.named
  have hlocks := B.notSynchronized
  have hS : va_S (gA G) s.heap s.heap [] := va_S.rf
  have hl := lv_entry ([.ref (ga G 0), .int a1]) (n := 2) (Nat.le_of_ble_eq_true rfl)
  rw [lg_entry_eq]
  generalize (lg_sl ([.ref (ga G 0), .int a1]) ++ List.replicate (2 - (lg_sl ([.ref (ga G 0), .int a1])).length) Slot.unset).toArray = ls at hl ⊢
  have hl : lv_has ls 2 [(0, .ref (ga G 0)), (1, .int a1)] := hl
  generalize ([.ref (ga G 0), .int a1] : List Value).toArray = args
  unfold f_X10_ring at hf
  refine lv_iload_n hx hb dX10_ring_0 rfl (lv_at hl 1 rfl) ?_
  refine lv_bipush (v := 12) hx hb dX10_ring_1 (by decide) ?_
  refine lv_icmp_lt (tgt := 20) hx hb dX10_ring_3 (by decide) (fun hc_4 => ?_) (fun hc_4 => ?_)
  · replace hf := i_t hf hc_4
    refine lv_iconst (v := 0) hx hb dX10_ring_20 (by decide) ?_
    exact rt_zX hx hb hr rfl hf hM hS dX10_ring_21 hlocks
  · replace hf := i_f hf hc_4
    refine lv_iload_n hx hb dX10_ring_6 rfl (lv_at hl 1 rfl) ?_
    refine lv_bipush (v := 60) hx hb dX10_ring_7 (by decide) ?_
    refine lv_icmp_gt (tgt := 20) hx hb dX10_ring_9 (by decide) (fun hc_3 => ?_) (fun hc_3 => ?_)
    · replace hf := i_t hf hc_3
      refine lv_iconst (v := 0) hx hb dX10_ring_20 (by decide) ?_
      exact rt_zX hx hb hr rfl hf hM hS dX10_ring_21 hlocks
    · replace hf := i_f hf hc_3
      refine lv_aload_n hx hb dX10_ring_12 rfl (lv_at hl 0 rfl) ?_
      refine gf_2 hx hb hE hM hown w_2_50 dX10_ring_13 ?_
      refine lv_iconst (v := 4) hx hb dX10_ring_16 (by decide) ?_
      refine lv_icmp_ne (tgt := 22) hx hb dX10_ring_17 (by decide) (fun hc_2 => ?_) (fun hc_2 => ?_)
      · replace hf := i_f hf hc_2
        refine lv_aload_n hx hb dX10_ring_22 rfl (lv_at hl 0 rfl) ?_
        refine gr_19 hx hb hE hM hown w_2_46 dX10_ring_23 ?_
        refine lv_iload_n hx hb dX10_ring_26 rfl (lv_at hl 1 rfl) ?_
        obtain ⟨x_1, r_1, hq_1, hf⟩ := ob_some hf
        refine k_X2_layRing hx hb hml hown hE hM hS w_3_145 hq_1 (Nat.le_of_ble_eq_true rfl) (Nat.le_of_ble_eq_true rfl) hl.1 (Nat.le_of_ble_eq_true rfl) ⟨Nat.zero_le _, Nat.zero_le _⟩ dX10_ring_27 (fun H locs hM hS => ?_)
        refine lv_iconst (v := 1) hx hb dX10_ring_30 (by decide) ?_
        exact rt_zX hx hb hr rfl hf hM hS dX10_ring_31 hlocks
      · replace hf := i_t hf hc_2
        refine lv_iconst (v := 0) hx hb dX10_ring_20 (by decide) ?_
        exact rt_zX hx hb hr rfl hf hM hS dX10_ring_21 hlocks
theorem k_X10_ring {p : Program} {l : Launch} {e : Env} {R : Room} {s : State} {m : MethodId} {args : Array Value} {below : List Frame} {meth : Method} {c : Code} {H : Heap} {locs : List Loc} {cells slots : Nat} {Q : State → Prop} {cc : ByteArray} {pc nL : Nat} {ls : Array Slot} {rest : List Value} {G : GG} {fu nw : Nat} {x x' mo : Me} {own : String} {index : Nat} {a1 : Int32} {r : Int32} (hx : p.tables.exec = Jvm.exec) (hb : c.code = cc) (hml : c.maxLocals = nL) (hown : s.vm.findClass own = some m.cls) (hE : EnvP G s) (hM : MemP G nw x mo H) (hS : va_S (gA G) s.heap H locs) (hw : Cond.methodLink own index yX10_ring ∈ lw_tbl) (hf : f_X10_ring fu nw x a1 = some (x', r)) (h1 : 1 + 1 ≤ R.frames) (h2 : 8 + (2 + 11) + 22 ≤ R.locals) (hsz : ls.size = nL) (hW : (rest.map fun v => v.category).sum ≤ 8) (hcs : cells ≤ R.cells ∧ slots ≤ R.slots) (hdg : decode cc pc = .ok (.invokevirtual index, 3)) (kk : ∀ (H1 : Heap) (locs1 : List Loc), MemP G nw x' mo H1 → va_S (gA G) s.heap H1 locs1 → W p l e R s m args below meth c H1 locs1 cells slots Q (F0 m (pc + 3) ls (.int r :: rest))) : W p l e R s m args below meth c H locs cells slots Q (F0 m pc ls (.int a1 :: .ref (ga G 0) :: rest)) := mm_ki hS (mm_runV (n := 1) (o := 0) (C := RX10) (T := TX10) (N := 10) (ci := 10) (As := [.int a1]) hx hb hml hown hE hM hS (c_X10_ring l fu nw G x x' mo a1 _ hf) (List.forall_mem_cons.mpr ⟨⟨hw, rfl⟩, List.forall_mem_cons.mpr ⟨⟨w_3_142, rfl⟩, List.forall_mem_cons.mpr ⟨⟨w_3_143, rfl⟩, List.forall_mem_cons.mpr ⟨⟨w_1_1, rfl⟩, List.forall_mem_cons.mpr ⟨⟨w_3_144, rfl⟩, fun _ h => absurd h List.not_mem_nil⟩⟩⟩⟩⟩) rfl rfl ⟨rfl, by decide, by decide, by decide +kernel⟩ ⟨h1, h2⟩ rfl rfl rfl hsz rfl hW hdg hcs) kk
def f_X10_bend (fu nw : Nat) (x : Me) (a1 : Int32) (a2 : Int32) : Option (Me × Int32) := if a1 < 0 then some (x, 0) else if (x 25 0) ≤ a1 then some (x, 0) else if (x 2 0) = 4 then some (x, 0) else if inb a1 60 = true then some ((mu x 26 a1.toNatClampNeg (vp_nar .boolean a2)), 1) else none
def rm_X10_bend : Room := { frames := 0, cells := 0, slots := 0, locals := 0 }
set_option maxHeartbeats 4000000 in
set_option maxRecDepth 100000 in
theorem c_X10_bend (l : Launch) (fu nw : Nat) (G : GG) (x x' mo : Me) (a1 : Int32) (a2 : Int32) (r : Int32) (hf : f_X10_bend fu nw x a1 a2 = some (x', r)) : Met l yX10_bend [.code yX10_bend cX10_bend 3 (some .boolean)] rm_X10_bend (va_Pc [.ref (ga G 0), .int a1, .int a2] (Pre G nw x mo)) (PI G nw x' mo r) 0 0 (gA G) := by
  refine mt_ofW (cc := cX10_bend) (maxL := 3) (ret := (some .boolean)) (by decide +kernel) rfl ?_
  intro p e s m args below meth c s₁ B hml hv
  obtain ⟨rfl, hE, hM⟩ := hv
  have hx := B.exec
  have hb := B.bytes
  have hr := B.returns
  have hown : s.vm.findClass RX10 = some m.cls := findClass_of_methodNamed B.named
  have hlocks := B.notSynchronized
  have hS : va_S (gA G) s.heap s.heap [] := va_S.rf
  have hl := lv_entry ([.ref (ga G 0), .int a1, .int a2]) (n := 3) (Nat.le_of_ble_eq_true rfl)
  rw [lg_entry_eq]
  generalize (lg_sl ([.ref (ga G 0), .int a1, .int a2]) ++ List.replicate (3 - (lg_sl ([.ref (ga G 0), .int a1, .int a2])).length) Slot.unset).toArray = ls at hl ⊢
  have hl : lv_has ls 3 [(0, .ref (ga G 0)), (1, .int a1), (2, .int a2)] := hl
  generalize ([.ref (ga G 0), .int a1, .int a2] : List Value).toArray = args
  unfold f_X10_bend at hf
  refine lv_iload_n hx hb dX10_bend_0 rfl (lv_at hl 1 rfl) ?_
  refine lv_if_lt (tgt := 23) hx hb dX10_bend_1 (by decide) (fun hc_4 => ?_) (fun hc_4 => ?_)
  · replace hf := i_t hf hc_4
    refine lv_iconst (v := 0) hx hb dX10_bend_23 (by decide) ?_
    exact rt_zX hx hb hr rfl hf hM hS dX10_bend_24 hlocks
  · replace hf := i_f hf hc_4
    refine lv_iload_n hx hb dX10_bend_4 rfl (lv_at hl 1 rfl) ?_
    refine lv_aload_n hx hb dX10_bend_5 rfl (lv_at hl 0 rfl) ?_
    refine gr_19 hx hb hE hM hown w_2_46 dX10_bend_6 ?_
    refine gf_25N hx hb hE hM hown w_1_211 dX10_bend_9 ?_
    refine lv_icmp_ge (tgt := 23) hx hb dX10_bend_12 (by decide) (fun hc_3 => ?_) (fun hc_3 => ?_)
    · replace hf := i_t hf hc_3
      refine lv_iconst (v := 0) hx hb dX10_bend_23 (by decide) ?_
      exact rt_zX hx hb hr rfl hf hM hS dX10_bend_24 hlocks
    · replace hf := i_f hf hc_3
      refine lv_aload_n hx hb dX10_bend_15 rfl (lv_at hl 0 rfl) ?_
      refine gf_2 hx hb hE hM hown w_2_50 dX10_bend_16 ?_
      refine lv_iconst (v := 4) hx hb dX10_bend_19 (by decide) ?_
      refine lv_icmp_ne (tgt := 25) hx hb dX10_bend_20 (by decide) (fun hc_2 => ?_) (fun hc_2 => ?_)
      · replace hf := i_f hf hc_2
        refine lv_aload_n hx hb dX10_bend_25 rfl (lv_at hl 0 rfl) ?_
        refine gr_19 hx hb hE hM hown w_2_46 dX10_bend_26 ?_
        refine gr_20N hx hb hE hM hown w_1_213 dX10_bend_29 ?_
        refine lv_iload_n hx hb dX10_bend_32 rfl (lv_at hl 1 rfl) ?_
        refine lv_iload_n hx hb dX10_bend_33 rfl (lv_at hl 2 rfl) ?_
        obtain ⟨hi_1, hf⟩ := i_n hf
        refine sa_20 hx hb hE hM hS hi_1 dX10_bend_34 (fun H locs hM hS => ?_)
        refine lv_iconst (v := 1) hx hb dX10_bend_35 (by decide) ?_
        exact rt_zX hx hb hr rfl hf hM hS dX10_bend_36 hlocks
      · replace hf := i_t hf hc_2
        refine lv_iconst (v := 0) hx hb dX10_bend_23 (by decide) ?_
        exact rt_zX hx hb hr rfl hf hM hS dX10_bend_24 hlocks
theorem k_X10_bend {p : Program} {l : Launch} {e : Env} {R : Room} {s : State} {m : MethodId} {args : Array Value} {below : List Frame} {meth : Method} {c : Code} {H : Heap} {locs : List Loc} {cells slots : Nat} {Q : State → Prop} {cc : ByteArray} {pc nL : Nat} {ls : Array Slot} {rest : List Value} {G : GG} {fu nw : Nat} {x x' mo : Me} {own : String} {index : Nat} {a1 : Int32} {a2 : Int32} {r : Int32} (hx : p.tables.exec = Jvm.exec) (hb : c.code = cc) (hml : c.maxLocals = nL) (hown : s.vm.findClass own = some m.cls) (hE : EnvP G s) (hM : MemP G nw x mo H) (hS : va_S (gA G) s.heap H locs) (hw : Cond.methodLink own index yX10_bend ∈ lw_tbl) (hf : f_X10_bend fu nw x a1 a2 = some (x', r)) (h1 : 0 + 1 ≤ R.frames) (h2 : 8 + (3 + 11) + 0 ≤ R.locals) (hsz : ls.size = nL) (hW : (rest.map fun v => v.category).sum ≤ 8) (hcs : cells ≤ R.cells ∧ slots ≤ R.slots) (hdg : decode cc pc = .ok (.invokevirtual index, 3)) (kk : ∀ (H1 : Heap) (locs1 : List Loc), MemP G nw x' mo H1 → va_S (gA G) s.heap H1 locs1 → W p l e R s m args below meth c H1 locs1 cells slots Q (F0 m (pc + 3) ls (.int r :: rest))) : W p l e R s m args below meth c H locs cells slots Q (F0 m pc ls (.int a2 :: .int a1 :: .ref (ga G 0) :: rest)) := mm_ki hS (mm_runV (n := 2) (o := 0) (C := RX10) (T := TX10) (N := 10) (ci := 10) (As := [.int a1, .int a2]) hx hb hml hown hE hM hS (c_X10_bend l fu nw G x x' mo a1 a2 _ hf) (List.forall_mem_cons.mpr ⟨⟨hw, rfl⟩, List.forall_mem_cons.mpr ⟨⟨w_3_150, rfl⟩, List.forall_mem_cons.mpr ⟨⟨w_3_151, rfl⟩, List.forall_mem_cons.mpr ⟨⟨w_1_1, rfl⟩, List.forall_mem_cons.mpr ⟨⟨w_3_152, rfl⟩, fun _ h => absurd h List.not_mem_nil⟩⟩⟩⟩⟩) rfl rfl ⟨rfl, by decide, by decide, by decide +kernel⟩ ⟨h1, h2⟩ rfl rfl rfl hsz rfl hW hdg hcs) kk
def f_X10_orders (fu nw : Nat) (x : Me) (a1 : Int32) (a2 : Int32) (a3 : Int32) : Option (Me × Int32) := ob (f_X8_has fu nw x a1) (fun x_1 r_1 => if r_1 = 0 then some (x_1, 0) else if a2 < 0 then some (x_1, 0) else if a2 ≤ 2 then jn (fun (x_2 : Me) => if inb a1 17 = true then some ((mu (mu x_2 27 a1.toNatClampNeg a2) 28 a1.toNatClampNeg a3), 1) else none) (fun j_2 => if a2 = 0 then j_2 x_1 else ob (f_X8_has fu nw x_1 a3) (fun x_4 r_4 => if r_4 = 0 then some (x_4, 0) else if a3 = a1 then some (x_4, 0) else j_2 x_4)) else some (x_1, 0))
def rm_X10_orders : Room := { frames := 1, cells := 0, slots := 0, locals := 21 }
set_option maxHeartbeats 4000000 in
set_option maxRecDepth 100000 in
theorem c_X10_orders (l : Launch) (fu nw : Nat) (G : GG) (x x' mo : Me) (a1 : Int32) (a2 : Int32) (a3 : Int32) (r : Int32) (hf : f_X10_orders fu nw x a1 a2 a3 = some (x', r)) : Met l yX10_orders [.code yX10_orders cX10_orders 4 (some .boolean)] rm_X10_orders (va_Pc [.ref (ga G 0), .int a1, .int a2, .int a3] (Pre G nw x mo)) (PI G nw x' mo r) 0 0 (gA G) := by
  refine mt_ofW (cc := cX10_orders) (maxL := 4) (ret := (some .boolean)) (by decide +kernel) rfl ?_
  intro p e s m args below meth c s₁ B hml hv
  obtain ⟨rfl, hE, hM⟩ := hv
  have hx := B.exec
  have hb := B.bytes
  have hr := B.returns
  have hown : s.vm.findClass RX10 = some m.cls := findClass_of_methodNamed B.named
  have hlocks := B.notSynchronized
  have hS : va_S (gA G) s.heap s.heap [] := va_S.rf
  have hl := lv_entry ([.ref (ga G 0), .int a1, .int a2, .int a3]) (n := 4) (Nat.le_of_ble_eq_true rfl)
  rw [lg_entry_eq]
  generalize (lg_sl ([.ref (ga G 0), .int a1, .int a2, .int a3]) ++ List.replicate (4 - (lg_sl ([.ref (ga G 0), .int a1, .int a2, .int a3])).length) Slot.unset).toArray = ls at hl ⊢
  have hl : lv_has ls 4 [(0, .ref (ga G 0)), (1, .int a1), (2, .int a2), (3, .int a3)] := hl
  generalize ([.ref (ga G 0), .int a1, .int a2, .int a3] : List Value).toArray = args
  unfold f_X10_orders at hf
  refine lv_aload_n hx hb dX10_orders_0 rfl (lv_at hl 0 rfl) ?_
  refine gr_7 hx hb hE hM hown w_2_43 dX10_orders_1 ?_
  refine lv_iload_n hx hb dX10_orders_4 rfl (lv_at hl 1 rfl) ?_
  obtain ⟨x_1, r_1, hq_1, hf⟩ := ob_some hf
  refine k_X8_has hx hb hml hown hE hM hS w_3_157 hq_1 (Nat.le_of_ble_eq_true rfl) (Nat.le_of_ble_eq_true rfl) hl.1 (Nat.le_of_ble_eq_true rfl) ⟨Nat.zero_le _, Nat.zero_le _⟩ dX10_orders_5 (fun H locs hM hS => ?_)
  refine lv_if_eq (tgt := 20) hx hb dX10_orders_8 (by decide) (fun hc_10 => ?_) (fun hc_10 => ?_)
  · replace hf := i_t hf hc_10
    refine lv_iconst (v := 0) hx hb dX10_orders_20 (by decide) ?_
    exact rt_zX hx hb hr rfl hf hM hS dX10_orders_21 hlocks
  · replace hf := i_f hf hc_10
    refine lv_iload_n hx hb dX10_orders_11 rfl (lv_at hl 2 rfl) ?_
    refine lv_if_lt (tgt := 20) hx hb dX10_orders_12 (by decide) (fun hc_9 => ?_) (fun hc_9 => ?_)
    · replace hf := i_t hf hc_9
      refine lv_iconst (v := 0) hx hb dX10_orders_20 (by decide) ?_
      exact rt_zX hx hb hr rfl hf hM hS dX10_orders_21 hlocks
    · replace hf := i_f hf hc_9
      refine lv_iload_n hx hb dX10_orders_15 rfl (lv_at hl 2 rfl) ?_
      refine lv_iconst (v := 2) hx hb dX10_orders_16 (by decide) ?_
      refine lv_icmp_le (tgt := 22) hx hb dX10_orders_17 (by decide) (fun hc_8 => ?_) (fun hc_8 => ?_)
      · replace hf := i_t hf hc_8
        refine lv_iload_n hx hb dX10_orders_22 rfl (lv_at hl 2 rfl) ?_
        have hj_2 : ∀ (x_2 : Me) (H : Heap) (locs : List Loc) (ls : Array Slot), jnA hf x_2 = some (x', r) → MemP G nw x_2 mo H → va_S (gA G) s.heap H locs → lv_has ls 4 [(0, .ref (ga G 0)), (1, .int a1), (2, .int a2), (3, .int a3)] → W p l e rm_X10_orders s m args below meth c H locs 0 0 (MQ below (PI G nw x' mo r) args s 0 0 (gA G)) (F0 m 44 ls []) := by
          intro x_2 H locs ls hf hM hS hl
          refine lv_aload_n hx hb dX10_orders_44 rfl (lv_at hl 0 rfl) ?_
          refine gr_19 hx hb hE hM hown w_2_46 dX10_orders_45 ?_
          refine gr_21N hx hb hE hM hown w_1_215 dX10_orders_48 ?_
          refine lv_iload_n hx hb dX10_orders_51 rfl (lv_at hl 1 rfl) ?_
          refine lv_iload_n hx hb dX10_orders_52 rfl (lv_at hl 2 rfl) ?_
          obtain ⟨hi_3, hf⟩ := i_n hf
          refine sa_21 hx hb hE hM hS hi_3 dX10_orders_53 (fun H locs hM hS => ?_)
          refine lv_aload_n hx hb dX10_orders_54 rfl (lv_at hl 0 rfl) ?_
          refine gr_19 hx hb hE hM hown w_2_46 dX10_orders_55 ?_
          refine gr_22N hx hb hE hM hown w_1_217 dX10_orders_58 ?_
          refine lv_iload_n hx hb dX10_orders_61 rfl (lv_at hl 1 rfl) ?_
          refine lv_iload_n hx hb dX10_orders_62 rfl (lv_at hl 3 rfl) ?_
          refine sa_22 hx hb hE hM hS hi_3 dX10_orders_63 (fun H locs hM hS => ?_)
          refine lv_iconst (v := 1) hx hb dX10_orders_64 (by decide) ?_
          exact rt_zX hx hb hr rfl hf hM hS dX10_orders_65 hlocks
        replace hf := jn_use hf
        refine lv_if_eq (tgt := 44) hx hb dX10_orders_23 (by decide) (fun hc_7 => ?_) (fun hc_7 => ?_)
        · replace hf := i_t hf hc_7
          exact hj_2 x_1 _ _ _ hf hM hS (lv_sub hl [0, 1, 2, 3] rfl)
        · replace hf := i_f hf hc_7
          refine lv_aload_n hx hb dX10_orders_26 rfl (lv_at hl 0 rfl) ?_
          refine gr_7 hx hb hE hM hown w_2_43 dX10_orders_27 ?_
          refine lv_iload_n hx hb dX10_orders_30 rfl (lv_at hl 3 rfl) ?_
          obtain ⟨x_4, r_4, hq_4, hf⟩ := ob_some hf
          refine k_X8_has hx hb hml hown hE hM hS w_3_157 hq_4 (Nat.le_of_ble_eq_true rfl) (Nat.le_of_ble_eq_true rfl) hl.1 (Nat.le_of_ble_eq_true rfl) ⟨Nat.zero_le _, Nat.zero_le _⟩ dX10_orders_31 (fun H locs hM hS => ?_)
          refine lv_if_eq (tgt := 42) hx hb dX10_orders_34 (by decide) (fun hc_6 => ?_) (fun hc_6 => ?_)
          · replace hf := i_t hf hc_6
            refine lv_iconst (v := 0) hx hb dX10_orders_42 (by decide) ?_
            exact rt_zX hx hb hr rfl hf hM hS dX10_orders_43 hlocks
          · replace hf := i_f hf hc_6
            refine lv_iload_n hx hb dX10_orders_37 rfl (lv_at hl 3 rfl) ?_
            refine lv_iload_n hx hb dX10_orders_38 rfl (lv_at hl 1 rfl) ?_
            refine lv_icmp_ne (tgt := 44) hx hb dX10_orders_39 (by decide) (fun hc_5 => ?_) (fun hc_5 => ?_)
            · replace hf := i_f hf hc_5
              exact hj_2 x_4 _ _ _ hf hM hS (lv_sub hl [0, 1, 2, 3] rfl)
            · replace hf := i_t hf hc_5
              refine lv_iconst (v := 0) hx hb dX10_orders_42 (by decide) ?_
              exact rt_zX hx hb hr rfl hf hM hS dX10_orders_43 hlocks
      · replace hf := i_f hf hc_8
        refine lv_iconst (v := 0) hx hb dX10_orders_20 (by decide) ?_
        exact rt_zX hx hb hr rfl hf hM hS dX10_orders_21 hlocks
theorem k_X10_orders {p : Program} {l : Launch} {e : Env} {R : Room} {s : State} {m : MethodId} {args : Array Value} {below : List Frame} {meth : Method} {c : Code} {H : Heap} {locs : List Loc} {cells slots : Nat} {Q : State → Prop} {cc : ByteArray} {pc nL : Nat} {ls : Array Slot} {rest : List Value} {G : GG} {fu nw : Nat} {x x' mo : Me} {own : String} {index : Nat} {a1 : Int32} {a2 : Int32} {a3 : Int32} {r : Int32} (hx : p.tables.exec = Jvm.exec) (hb : c.code = cc) (hml : c.maxLocals = nL) (hown : s.vm.findClass own = some m.cls) (hE : EnvP G s) (hM : MemP G nw x mo H) (hS : va_S (gA G) s.heap H locs) (hw : Cond.methodLink own index yX10_orders ∈ lw_tbl) (hf : f_X10_orders fu nw x a1 a2 a3 = some (x', r)) (h1 : 1 + 1 ≤ R.frames) (h2 : 8 + (4 + 11) + 21 ≤ R.locals) (hsz : ls.size = nL) (hW : (rest.map fun v => v.category).sum ≤ 8) (hcs : cells ≤ R.cells ∧ slots ≤ R.slots) (hdg : decode cc pc = .ok (.invokevirtual index, 3)) (kk : ∀ (H1 : Heap) (locs1 : List Loc), MemP G nw x' mo H1 → va_S (gA G) s.heap H1 locs1 → W p l e R s m args below meth c H1 locs1 cells slots Q (F0 m (pc + 3) ls (.int r :: rest))) : W p l e R s m args below meth c H locs cells slots Q (F0 m pc ls (.int a3 :: .int a2 :: .int a1 :: .ref (ga G 0) :: rest)) := mm_ki hS (mm_runV (n := 3) (o := 0) (C := RX10) (T := TX10) (N := 10) (ci := 10) (As := [.int a1, .int a2, .int a3]) hx hb hml hown hE hM hS (c_X10_orders l fu nw G x x' mo a1 a2 a3 _ hf) (List.forall_mem_cons.mpr ⟨⟨hw, rfl⟩, List.forall_mem_cons.mpr ⟨⟨w_3_154, rfl⟩, List.forall_mem_cons.mpr ⟨⟨w_3_155, rfl⟩, List.forall_mem_cons.mpr ⟨⟨w_1_1, rfl⟩, List.forall_mem_cons.mpr ⟨⟨w_3_156, rfl⟩, fun _ h => absurd h List.not_mem_nil⟩⟩⟩⟩⟩) rfl rfl ⟨rfl, by decide, by decide, by decide +kernel⟩ ⟨h1, h2⟩ rfl rfl rfl hsz rfl hW hdg hcs) kk
def f_X10_seen (fu nw : Nat) (x : Me) (a1 : Int32) (a2 : Int32) : Option (Me × Int32) := if (x 2 0) = 3 then if a1 < 0 then some (x, 0) else if (x 20 0) ≤ a1 then some (x, 0) else ob (f_X8_runs fu nw x a2) (fun x_1 r_1 => if r_1 = 0 then some (x_1, 0) else if inb a1 10 = true then some ((mu x_1 23 a1.toNatClampNeg a2), 1) else none) else some (x, 0)
def rm_X10_seen : Room := { frames := 3, cells := 0, slots := 0, locals := 64 }
set_option maxHeartbeats 4000000 in
set_option maxRecDepth 100000 in
theorem c_X10_seen (l : Launch) (fu nw : Nat) (G : GG) (x x' mo : Me) (a1 : Int32) (a2 : Int32) (r : Int32) (hf : f_X10_seen fu nw x a1 a2 = some (x', r)) : Met l yX10_seen [.code yX10_seen cX10_seen 3 (some .boolean)] rm_X10_seen (va_Pc [.ref (ga G 0), .int a1, .int a2] (Pre G nw x mo)) (PI G nw x' mo r) 0 0 (gA G) := by
  refine mt_ofW (cc := cX10_seen) (maxL := 3) (ret := (some .boolean)) (by decide +kernel) rfl ?_
  intro p e s m args below meth c s₁ B hml hv
  obtain ⟨rfl, hE, hM⟩ := hv
  have hx := B.exec
  have hb := B.bytes
  have hr := B.returns
  have hown : s.vm.findClass RX10 = some m.cls := findClass_of_methodNamed B.named
  have hlocks := B.notSynchronized
  have hS : va_S (gA G) s.heap s.heap [] := va_S.rf
  have hl := lv_entry ([.ref (ga G 0), .int a1, .int a2]) (n := 3) (Nat.le_of_ble_eq_true rfl)
  rw [lg_entry_eq]
  generalize (lg_sl ([.ref (ga G 0), .int a1, .int a2]) ++ List.replicate (3 - (lg_sl ([.ref (ga G 0), .int a1, .int a2])).length) Slot.unset).toArray = ls at hl ⊢
  have hl : lv_has ls 3 [(0, .ref (ga G 0)), (1, .int a1), (2, .int a2)] := hl
  generalize ([.ref (ga G 0), .int a1, .int a2] : List Value).toArray = args
  unfold f_X10_seen at hf
  refine lv_aload_n hx hb dX10_seen_0 rfl (lv_at hl 0 rfl) ?_
  refine gf_2 hx hb hE hM hown w_2_50 dX10_seen_1 ?_
  refine lv_iconst (v := 3) hx hb dX10_seen_4 (by decide) ?_
  refine lv_icmp_ne (tgt := 34) hx hb dX10_seen_5 (by decide) (fun hc_6 => ?_) (fun hc_6 => ?_)
  · replace hf := i_f hf hc_6
    refine lv_iconst (v := 0) hx hb dX10_seen_34 (by decide) ?_
    exact rt_zX hx hb hr rfl hf hM hS dX10_seen_35 hlocks
  · replace hf := i_t hf hc_6
    refine lv_iload_n hx hb dX10_seen_8 rfl (lv_at hl 1 rfl) ?_
    refine lv_if_lt (tgt := 34) hx hb dX10_seen_9 (by decide) (fun hc_5 => ?_) (fun hc_5 => ?_)
    · replace hf := i_t hf hc_5
      refine lv_iconst (v := 0) hx hb dX10_seen_34 (by decide) ?_
      exact rt_zX hx hb hr rfl hf hM hS dX10_seen_35 hlocks
    · replace hf := i_f hf hc_5
      refine lv_iload_n hx hb dX10_seen_12 rfl (lv_at hl 1 rfl) ?_
      refine lv_aload_n hx hb dX10_seen_13 rfl (lv_at hl 0 rfl) ?_
      refine gr_14 hx hb hE hM hown w_2_45 dX10_seen_14 ?_
      refine gf_20N hx hb hE hM hown w_1_129 dX10_seen_17 ?_
      refine lv_icmp_ge (tgt := 34) hx hb dX10_seen_20 (by decide) (fun hc_4 => ?_) (fun hc_4 => ?_)
      · replace hf := i_t hf hc_4
        refine lv_iconst (v := 0) hx hb dX10_seen_34 (by decide) ?_
        exact rt_zX hx hb hr rfl hf hM hS dX10_seen_35 hlocks
      · replace hf := i_f hf hc_4
        refine lv_aload_n hx hb dX10_seen_23 rfl (lv_at hl 0 rfl) ?_
        refine gr_7 hx hb hE hM hown w_2_43 dX10_seen_24 ?_
        refine lv_iload_n hx hb dX10_seen_27 rfl (lv_at hl 2 rfl) ?_
        obtain ⟨x_1, r_1, hq_1, hf⟩ := ob_some hf
        refine k_X8_runs hx hb hml hown hE hM hS w_3_162 hq_1 (Nat.le_of_ble_eq_true rfl) (Nat.le_of_ble_eq_true rfl) hl.1 (Nat.le_of_ble_eq_true rfl) ⟨Nat.zero_le _, Nat.zero_le _⟩ dX10_seen_28 (fun H locs hM hS => ?_)
        refine lv_if_ne (tgt := 36) hx hb dX10_seen_31 (by decide) (fun hc_3 => ?_) (fun hc_3 => ?_)
        · replace hf := i_f hf hc_3
          refine lv_aload_n hx hb dX10_seen_36 rfl (lv_at hl 0 rfl) ?_
          refine gr_14 hx hb hE hM hown w_2_45 dX10_seen_37 ?_
          refine gr_17N hx hb hE hM hown w_1_135 dX10_seen_40 ?_
          refine lv_iload_n hx hb dX10_seen_43 rfl (lv_at hl 1 rfl) ?_
          refine lv_iload_n hx hb dX10_seen_44 rfl (lv_at hl 2 rfl) ?_
          obtain ⟨hi_2, hf⟩ := i_n hf
          refine sa_17 hx hb hE hM hS hi_2 dX10_seen_45 (fun H locs hM hS => ?_)
          refine lv_iconst (v := 1) hx hb dX10_seen_46 (by decide) ?_
          exact rt_zX hx hb hr rfl hf hM hS dX10_seen_47 hlocks
        · replace hf := i_t hf hc_3
          refine lv_iconst (v := 0) hx hb dX10_seen_34 (by decide) ?_
          exact rt_zX hx hb hr rfl hf hM hS dX10_seen_35 hlocks
theorem k_X10_seen {p : Program} {l : Launch} {e : Env} {R : Room} {s : State} {m : MethodId} {args : Array Value} {below : List Frame} {meth : Method} {c : Code} {H : Heap} {locs : List Loc} {cells slots : Nat} {Q : State → Prop} {cc : ByteArray} {pc nL : Nat} {ls : Array Slot} {rest : List Value} {G : GG} {fu nw : Nat} {x x' mo : Me} {own : String} {index : Nat} {a1 : Int32} {a2 : Int32} {r : Int32} (hx : p.tables.exec = Jvm.exec) (hb : c.code = cc) (hml : c.maxLocals = nL) (hown : s.vm.findClass own = some m.cls) (hE : EnvP G s) (hM : MemP G nw x mo H) (hS : va_S (gA G) s.heap H locs) (hw : Cond.methodLink own index yX10_seen ∈ lw_tbl) (hf : f_X10_seen fu nw x a1 a2 = some (x', r)) (h1 : 3 + 1 ≤ R.frames) (h2 : 8 + (3 + 11) + 64 ≤ R.locals) (hsz : ls.size = nL) (hW : (rest.map fun v => v.category).sum ≤ 8) (hcs : cells ≤ R.cells ∧ slots ≤ R.slots) (hdg : decode cc pc = .ok (.invokevirtual index, 3)) (kk : ∀ (H1 : Heap) (locs1 : List Loc), MemP G nw x' mo H1 → va_S (gA G) s.heap H1 locs1 → W p l e R s m args below meth c H1 locs1 cells slots Q (F0 m (pc + 3) ls (.int r :: rest))) : W p l e R s m args below meth c H locs cells slots Q (F0 m pc ls (.int a2 :: .int a1 :: .ref (ga G 0) :: rest)) := mm_ki hS (mm_runV (n := 2) (o := 0) (C := RX10) (T := TX10) (N := 10) (ci := 10) (As := [.int a1, .int a2]) hx hb hml hown hE hM hS (c_X10_seen l fu nw G x x' mo a1 a2 _ hf) (List.forall_mem_cons.mpr ⟨⟨hw, rfl⟩, List.forall_mem_cons.mpr ⟨⟨w_3_159, rfl⟩, List.forall_mem_cons.mpr ⟨⟨w_3_160, rfl⟩, List.forall_mem_cons.mpr ⟨⟨w_1_1, rfl⟩, List.forall_mem_cons.mpr ⟨⟨w_3_161, rfl⟩, fun _ h => absurd h List.not_mem_nil⟩⟩⟩⟩⟩) rfl rfl ⟨rfl, by decide, by decide, by decide +kernel⟩ ⟨h1, h2⟩ rfl rfl rfl hsz rfl hW hdg hcs) kk
def f_X10_startRace_53 (fu nw : Nat) (k : Me → Option (Me × Unit)) : Nat → Me → Int32 → Option (Me × Unit)
  | 0 => fun _ _ => none
  | n + 1 => fun x a2 => if (x 20 0) ≤ a2 then k x else if inb a2 10 = true then ob (f_X8_find fu nw x (x 22 a2.toNatClampNeg)) (fun x_7 r_7 => om r_7 (f_X10_startRace_53 fu nw k n x_7 (a2 + 1)) (fun m_7 => if m_7 < nw then ob (f_X5_markOf fu nw x_7 (x_7 51 m_7)) (fun x_8 r_8 => ob (f_X2_enter fu nw x_8 (x_7 22 a2.toNatClampNeg) r_8) (fun x_9 _ => f_X10_startRace_53 fu nw k n (mu x_9 52 m_7 (x_9 1 0)) (a2 + 1))) else none)) else none
def f_X10_startRace (fu nw : Nat) (x : Me) (a1 : Int32) : Option (Me × Unit) := ob (f_X2_begin fu nw x a1) (fun x_1 _ => ob (f_X6_inForce fu nw x_1 1 (x_1 1 0)) (fun x_2 r_2 => ob (f_X6_inForce fu nw x_2 2 (x_2 1 0)) (fun x_3 r_3 => ob (f_X6_inForce fu nw x_3 3 (x_3 1 0)) (fun x_4 r_4 => ob (f_X2_setLaws fu nw x_4 r_2 r_3 r_4) (fun x_5 _ => f_X10_startRace_53 fu nw (fun (x_11 : Me) => some ((mu x_11 2 0 4), ())) fu x_5 0)))))
def rm_X10_startRace : Room := { frames := 2, cells := 0, slots := 0, locals := 45 }
set_option maxHeartbeats 4000000 in
set_option maxRecDepth 100000 in
theorem wk_X10_startRace_53 {p : Program} {l : Launch} {e : Env} {s : State} {m : MethodId} {args : Array Value} {below : List Frame} {meth : Method} {c : Code} {fu nw : Nat} {G : GG} {mo : Me} (hx : p.tables.exec = Jvm.exec) (hb : c.code = cX10_startRace) (hml : c.maxLocals = 4) (hown : s.vm.findClass RX10 = some m.cls) (hE : EnvP G s) (hr : meth.sig.returnType = none) (hlocks : meth.locks = false) {x' : Me} {r : Unit} {k : Me → Option (Me × Unit)} (hk : ∀ (x : Me) (H : Heap) (locs : List Loc) (ls : Array Slot), k x = some (x', r) → MemP G nw x mo H → va_S (gA G) s.heap H locs → lv_has ls 4 [(0, .ref (ga G 0))] → W p l e rm_X10_startRace s m args below meth c H locs 0 0 (MQ below (PV G nw x' mo) args s 0 0 (gA G)) (F0 m 126 ls [])) : ∀ (n : Nat) (x : Me) (a2 : Int32) (H : Heap) (locs : List Loc) (ls : Array Slot), f_X10_startRace_53 fu nw k n x a2 = some (x', r) → MemP G nw x mo H → va_S (gA G) s.heap H locs → lv_has ls 4 [(0, .ref (ga G 0)), (2, .int a2)] → W p l e rm_X10_startRace s m args below meth c H locs 0 0 (MQ below (PV G nw x' mo) args s 0 0 (gA G)) (F0 m 53 ls []) := by
  intro n
  induction n with
  | zero =>
    intro x a2 H locs ls hf hM hS hl
    exact nn hf
  | succ n ih =>
    intro x a2 H locs ls hf hM hS hl
    rw [f_X10_startRace_53] at hf
    refine lv_iload_n hx hb dX10_startRace_53 rfl (lv_at hl 1 rfl) ?_
    refine lv_aload_n hx hb dX10_startRace_54 rfl (lv_at hl 0 rfl) ?_
    refine gr_14 hx hb hE hM hown w_2_45 dX10_startRace_55 ?_
    refine gf_20N hx hb hE hM hown w_1_129 dX10_startRace_58 ?_
    refine lv_icmp_ge (tgt := 126) hx hb dX10_startRace_61 (by decide) (fun hc_10 => ?_) (fun hc_10 => ?_)
    · replace hf := i_t hf hc_10
      exact hk x _ _ _ hf hM hS (lv_sub hl [0] rfl)
    · replace hf := i_f hf hc_10
      refine lv_aload_n hx hb dX10_startRace_64 rfl (lv_at hl 0 rfl) ?_
      refine gr_7 hx hb hE hM hown w_2_43 dX10_startRace_65 ?_
      refine lv_aload_n hx hb dX10_startRace_68 rfl (lv_at hl 0 rfl) ?_
      refine gr_14 hx hb hE hM hown w_2_45 dX10_startRace_69 ?_
      refine gr_16N hx hb hE hM hown w_1_133 dX10_startRace_72 ?_
      refine lv_iload_n hx hb dX10_startRace_75 rfl (lv_at hl 1 rfl) ?_
      obtain ⟨hi_6, hf⟩ := i_n hf
      refine la_16 hx hb hE hM hi_6 dX10_startRace_76 ?_
      obtain ⟨x_7, r_7, hq_7, hf⟩ := ob_some hf
      refine k_X8_find hx hb hml hown hE hM hS w_3_140 hq_7 (Nat.le_of_ble_eq_true rfl) (Nat.le_of_ble_eq_true rfl) hl.1 (Nat.le_of_ble_eq_true rfl) ⟨Nat.zero_le _, Nat.zero_le _⟩ dX10_startRace_77 (fun h_7 H locs hM hS => ?_) (fun m_7 h_7 H locs hM hS => ?_)
      · subst h_7
        replace hf := om_n hf
        refine lv_astore_nN (lv' := [(3, .null), (0, .ref (ga G 0)), (2, .int a2)]) hx hb dX10_startRace_80 rfl hl (by decide) rfl (fun ls hl => ?_)
        refine lv_aload_nN hx hb dX10_startRace_81 rfl (lv_at hl 0 rfl) ?_
        refine lv_ifnullN (tgt := 120) hx hb dX10_startRace_82 (by decide) ?_
        refine lv_iinc (v := a2 + 1) (lv' := [(2, .int (a2 + 1)), (3, .null), (0, .ref (ga G 0))]) hx hb dX10_startRace_120 hl (k := 2) rfl rfl (by decide) rfl (fun ls hl => ?_)
        refine lv_goto (tgt := 53) hx hb dX10_startRace_123 (by decide) ?_
        exact ih x_7 (a2 + 1) _ _ _ hf hM hS (lv_sub hl [2, 0] rfl)
      · subst h_7
        replace hf := om_s hf
        obtain ⟨hm_7, hf⟩ := i_n hf
        refine lv_astore_n (lv' := [(3, .ref (ga G (69 + m_7))), (0, .ref (ga G 0)), (2, .int a2)]) hx hb dX10_startRace_80 rfl hl (by decide) rfl (fun ls hl => ?_)
        refine lv_aload_n hx hb dX10_startRace_81 rfl (lv_at hl 0 rfl) ?_
        refine lv_ifnull hx hb dX10_startRace_82 ?_
        refine lv_aload_n hx hb dX10_startRace_85 rfl (lv_at hl 1 rfl) ?_
        refine gr_19 hx hb hE hM hown w_2_46 dX10_startRace_86 ?_
        refine lv_aload_n hx hb dX10_startRace_89 rfl (lv_at hl 1 rfl) ?_
        refine gr_14 hx hb hE hM hown w_2_45 dX10_startRace_90 ?_
        refine gr_16N hx hb hE hM hown w_1_133 dX10_startRace_93 ?_
        refine lv_iload_n hx hb dX10_startRace_96 rfl (lv_at hl 2 rfl) ?_
        refine la_16 hx hb hE hM hi_6 dX10_startRace_97 ?_
        refine lv_aload_n hx hb dX10_startRace_98 rfl (lv_at hl 1 rfl) ?_
        refine gr_9 hx hb hE hM hown w_2_44 dX10_startRace_99 ?_
        refine lv_aload_n hx hb dX10_startRace_102 rfl (lv_at hl 0 rfl) ?_
        refine gf_51N hm_7 hx hb hE hM hown w_2_234 dX10_startRace_103 ?_
        obtain ⟨x_8, r_8, hq_8, hf⟩ := ob_some hf
        refine k_X5_markOf hx hb hml hown hE hM hS w_3_201 hq_8 (Nat.le_of_ble_eq_true rfl) (Nat.le_of_ble_eq_true rfl) hl.1 (Nat.le_of_ble_eq_true rfl) ⟨Nat.zero_le _, Nat.zero_le _⟩ dX10_startRace_106 (fun H locs hM hS => ?_)
        obtain ⟨x_9, r_9, hq_9, hf⟩ := ob_some hf
        refine k_X2_enter hx hb hml hown hE hM hS w_3_206 hq_9 (Nat.le_of_ble_eq_true rfl) (Nat.le_of_ble_eq_true rfl) hl.1 (Nat.le_of_ble_eq_true rfl) ⟨Nat.zero_le _, Nat.zero_le _⟩ dX10_startRace_109 (fun H locs hM hS => ?_)
        refine lv_aload_n hx hb dX10_startRace_112 rfl (lv_at hl 0 rfl) ?_
        refine lv_aload_n hx hb dX10_startRace_113 rfl (lv_at hl 1 rfl) ?_
        refine gf_1 hx hb hE hM hown w_2_49 dX10_startRace_114 ?_
        refine pf_52N hm_7 hx hb hE hM hS hown w_2_237 dX10_startRace_117 (fun H locs hM hS => ?_)
        refine lv_iinc (v := a2 + 1) (lv' := [(2, .int (a2 + 1)), (3, .ref (ga G (69 + m_7))), (0, .ref (ga G 0))]) hx hb dX10_startRace_120 hl (k := 2) rfl rfl (by decide) rfl (fun ls hl => ?_)
        refine lv_goto (tgt := 53) hx hb dX10_startRace_123 (by decide) ?_
        exact ih (mu x_9 52 m_7 (x_9 1 0)) (a2 + 1) _ _ _ hf hM hS (lv_sub hl [2, 0] rfl)
set_option maxHeartbeats 4000000 in
set_option maxRecDepth 100000 in
theorem c_X10_startRace (l : Launch) (fu nw : Nat) (G : GG) (x x' mo : Me) (a1 : Int32) (r : Unit) (hf : f_X10_startRace fu nw x a1 = some (x', r)) : Met l yX10_startRace [.code yX10_startRace cX10_startRace 4 none] rm_X10_startRace (va_Pc [.ref (ga G 0), .int a1] (Pre G nw x mo)) (PV G nw x' mo) 0 0 (gA G) := by
  refine mt_ofW (cc := cX10_startRace) (maxL := 4) (ret := none) (by decide +kernel) rfl ?_
  intro p e s m args below meth c s₁ B hml hv
  obtain ⟨rfl, hE, hM⟩ := hv
  have hx := B.exec
  have hb := B.bytes
  have hr := B.returns
  have hown : s.vm.findClass RX10 = some m.cls := findClass_of_methodNamed B.named
  have hlocks := B.notSynchronized
  have hS : va_S (gA G) s.heap s.heap [] := va_S.rf
  have hl := lv_entry ([.ref (ga G 0), .int a1]) (n := 4) (Nat.le_of_ble_eq_true rfl)
  rw [lg_entry_eq]
  generalize (lg_sl ([.ref (ga G 0), .int a1]) ++ List.replicate (4 - (lg_sl ([.ref (ga G 0), .int a1])).length) Slot.unset).toArray = ls at hl ⊢
  have hl : lv_has ls 4 [(0, .ref (ga G 0)), (1, .int a1)] := hl
  generalize ([.ref (ga G 0), .int a1] : List Value).toArray = args
  unfold f_X10_startRace at hf
  refine lv_aload_n hx hb dX10_startRace_0 rfl (lv_at hl 0 rfl) ?_
  refine gr_19 hx hb hE hM hown w_2_46 dX10_startRace_1 ?_
  refine lv_iload_n hx hb dX10_startRace_4 rfl (lv_at hl 1 rfl) ?_
  obtain ⟨x_1, r_1, hq_1, hf⟩ := ob_some hf
  refine k_X2_begin hx hb hml hown hE hM hS w_3_192 hq_1 (Nat.le_of_ble_eq_true rfl) (Nat.le_of_ble_eq_true rfl) hl.1 (Nat.le_of_ble_eq_true rfl) ⟨Nat.zero_le _, Nat.zero_le _⟩ dX10_startRace_5 (fun H locs hM hS => ?_)
  refine lv_aload_n hx hb dX10_startRace_8 rfl (lv_at hl 0 rfl) ?_
  refine gr_19 hx hb hE hM hown w_2_46 dX10_startRace_9 ?_
  refine lv_aload_n hx hb dX10_startRace_12 rfl (lv_at hl 0 rfl) ?_
  refine gr_4 hx hb hE hM hown w_2_42 dX10_startRace_13 ?_
  refine lv_iconst (v := 1) hx hb dX10_startRace_16 (by decide) ?_
  refine lv_aload_n hx hb dX10_startRace_17 rfl (lv_at hl 0 rfl) ?_
  refine gf_1 hx hb hE hM hown w_2_49 dX10_startRace_18 ?_
  obtain ⟨x_2, r_2, hq_2, hf⟩ := ob_some hf
  refine k_X6_inForce hx hb hml hown hE hM hS w_2_209 hq_2 (Nat.le_of_ble_eq_true rfl) (Nat.le_of_ble_eq_true rfl) hl.1 (Nat.le_of_ble_eq_true rfl) ⟨Nat.zero_le _, Nat.zero_le _⟩ dX10_startRace_21 (fun H locs hM hS => ?_)
  refine lv_aload_n hx hb dX10_startRace_24 rfl (lv_at hl 0 rfl) ?_
  refine gr_4 hx hb hE hM hown w_2_42 dX10_startRace_25 ?_
  refine lv_iconst (v := 2) hx hb dX10_startRace_28 (by decide) ?_
  refine lv_aload_n hx hb dX10_startRace_29 rfl (lv_at hl 0 rfl) ?_
  refine gf_1 hx hb hE hM hown w_2_49 dX10_startRace_30 ?_
  obtain ⟨x_3, r_3, hq_3, hf⟩ := ob_some hf
  refine k_X6_inForce hx hb hml hown hE hM hS w_2_209 hq_3 (Nat.le_of_ble_eq_true rfl) (Nat.le_of_ble_eq_true rfl) hl.1 (Nat.le_of_ble_eq_true rfl) ⟨Nat.zero_le _, Nat.zero_le _⟩ dX10_startRace_33 (fun H locs hM hS => ?_)
  refine lv_aload_n hx hb dX10_startRace_36 rfl (lv_at hl 0 rfl) ?_
  refine gr_4 hx hb hE hM hown w_2_42 dX10_startRace_37 ?_
  refine lv_iconst (v := 3) hx hb dX10_startRace_40 (by decide) ?_
  refine lv_aload_n hx hb dX10_startRace_41 rfl (lv_at hl 0 rfl) ?_
  refine gf_1 hx hb hE hM hown w_2_49 dX10_startRace_42 ?_
  obtain ⟨x_4, r_4, hq_4, hf⟩ := ob_some hf
  refine k_X6_inForce hx hb hml hown hE hM hS w_2_209 hq_4 (Nat.le_of_ble_eq_true rfl) (Nat.le_of_ble_eq_true rfl) hl.1 (Nat.le_of_ble_eq_true rfl) ⟨Nat.zero_le _, Nat.zero_le _⟩ dX10_startRace_45 (fun H locs hM hS => ?_)
  obtain ⟨x_5, r_5, hq_5, hf⟩ := ob_some hf
  refine k_X2_setLaws hx hb hml hown hE hM hS w_3_197 hq_5 (Nat.le_of_ble_eq_true rfl) (Nat.le_of_ble_eq_true rfl) hl.1 (Nat.le_of_ble_eq_true rfl) ⟨Nat.zero_le _, Nat.zero_le _⟩ dX10_startRace_48 (fun H locs hM hS => ?_)
  refine lv_iconst (v := 0) hx hb dX10_startRace_51 (by decide) ?_
  refine lv_istore_n (lv' := [(2, .int 0), (0, .ref (ga G 0)), (1, .int a1)]) hx hb dX10_startRace_52 rfl hl (by decide) rfl (fun ls hl => ?_)
  refine wk_X10_startRace_53 hx hb hml hown hE hr hlocks ?_ fu x_5 0 _ _ _ hf hM hS (lv_sub hl [1, 0] rfl)
  intro x_11 H locs ls hf hM hS hl
  refine lv_aload_n hx hb dX10_startRace_126 rfl (lv_at hl 0 rfl) ?_
  refine lv_iconst (v := 4) hx hb dX10_startRace_127 (by decide) ?_
  refine pf_2 hx hb hE hM hS hown w_2_50 dX10_startRace_128 (fun H locs hM hS => ?_)
  exact rt_vX hx hb hr hf hM hS dX10_startRace_131 hlocks
theorem k_X10_startRace {p : Program} {l : Launch} {e : Env} {R : Room} {s : State} {m : MethodId} {args : Array Value} {below : List Frame} {meth : Method} {c : Code} {H : Heap} {locs : List Loc} {cells slots : Nat} {Q : State → Prop} {cc : ByteArray} {pc nL : Nat} {ls : Array Slot} {rest : List Value} {G : GG} {fu nw : Nat} {x x' mo : Me} {own : String} {index : Nat} {a1 : Int32} {r : Unit} (hx : p.tables.exec = Jvm.exec) (hb : c.code = cc) (hml : c.maxLocals = nL) (hown : s.vm.findClass own = some m.cls) (hE : EnvP G s) (hM : MemP G nw x mo H) (hS : va_S (gA G) s.heap H locs) (hw : Cond.methodLink own index yX10_startRace ∈ lw_tbl) (hf : f_X10_startRace fu nw x a1 = some (x', r)) (h1 : 2 + 1 ≤ R.frames) (h2 : 8 + (4 + 11) + 45 ≤ R.locals) (hsz : ls.size = nL) (hW : (rest.map fun v => v.category).sum ≤ 8) (hcs : cells ≤ R.cells ∧ slots ≤ R.slots) (hdg : decode cc pc = .ok (.invokevirtual index, 3)) (kk : ∀ (H1 : Heap) (locs1 : List Loc), MemP G nw x' mo H1 → va_S (gA G) s.heap H1 locs1 → W p l e R s m args below meth c H1 locs1 cells slots Q (F0 m (pc + 3) ls rest)) : W p l e R s m args below meth c H locs cells slots Q (F0 m pc ls (.int a1 :: .ref (ga G 0) :: rest)) := mm_kv hS (mm_runV (n := 1) (o := 0) (C := RX10) (T := TX10) (N := 10) (ci := 10) (As := [.int a1]) hx hb hml hown hE hM hS (c_X10_startRace l fu nw G x x' mo a1 _ hf) (List.forall_mem_cons.mpr ⟨⟨hw, rfl⟩, List.forall_mem_cons.mpr ⟨⟨w_3_190, rfl⟩, List.forall_mem_cons.mpr ⟨⟨w_0_17, rfl⟩, List.forall_mem_cons.mpr ⟨⟨w_1_1, rfl⟩, List.forall_mem_cons.mpr ⟨⟨w_3_191, rfl⟩, fun _ h => absurd h List.not_mem_nil⟩⟩⟩⟩⟩) rfl rfl ⟨rfl, by decide, by decide, by decide +kernel⟩ ⟨h1, h2⟩ rfl rfl rfl hsz rfl hW hdg hcs) kk
def f_X10_drop (fu nw : Nat) (x : Me) (a1 : Int32) : Option (Me × Int32) := if (x 2 0) = 3 then ob (f_X3_countOthers fu nw x) (fun x_1 r_1 => ob (f_X6_inForce fu nw x_1 5 (x_1 1 0)) (fun x_2 r_2 => if r_1 ≤ r_2 then ob (f_X10_startRace fu nw x_2 a1) (fun x_3 _ => some (x_3, r_1)) else ob (f_X3_addFalseStarts fu nw x_2) (fun x_4 _ => ob (f_X3_forgetSeen fu nw x_4) (fun x_5 _ => ob (f_X6_inForce fu nw x_5 6 (x_5 1 0)) (fun x_6 r_6 => ob (f_X3_sendBack fu nw x_6 r_6) (fun x_7 _ => some (x_7, (-1) - r_1))))))) else some (x, (-100))
def rm_X10_drop : Room := { frames := 3, cells := 0, slots := 0, locals := 69 }
set_option maxHeartbeats 4000000 in
set_option maxRecDepth 100000 in
theorem c_X10_drop (l : Launch) (fu nw : Nat) (G : GG) (x x' mo : Me) (a1 : Int32) (r : Int32) (hf : f_X10_drop fu nw x a1 = some (x', r)) : Met l yX10_drop [.code yX10_drop cX10_drop 3 (some .int)] rm_X10_drop (va_Pc [.ref (ga G 0), .int a1] (Pre G nw x mo)) (PI G nw x' mo r) 0 0 (gA G) := by
  refine mt_ofW (cc := cX10_drop) (maxL := 3) (ret := (some .int)) (by decide +kernel) rfl ?_
  intro p e s m args below meth c s₁ B hml hv
  obtain ⟨rfl, hE, hM⟩ := hv
  have hx := B.exec
  have hb := B.bytes
  have hr := B.returns
  have hown : s.vm.findClass RX10 = some m.cls := findClass_of_methodNamed B.named
  have hlocks := B.notSynchronized
  have hS : va_S (gA G) s.heap s.heap [] := va_S.rf
  have hl := lv_entry ([.ref (ga G 0), .int a1]) (n := 3) (Nat.le_of_ble_eq_true rfl)
  rw [lg_entry_eq]
  generalize (lg_sl ([.ref (ga G 0), .int a1]) ++ List.replicate (3 - (lg_sl ([.ref (ga G 0), .int a1])).length) Slot.unset).toArray = ls at hl ⊢
  have hl : lv_has ls 3 [(0, .ref (ga G 0)), (1, .int a1)] := hl
  generalize ([.ref (ga G 0), .int a1] : List Value).toArray = args
  unfold f_X10_drop at hf
  refine lv_aload_n hx hb dX10_drop_0 rfl (lv_at hl 0 rfl) ?_
  refine gf_2 hx hb hE hM hown w_2_50 dX10_drop_1 ?_
  refine lv_iconst (v := 3) hx hb dX10_drop_4 (by decide) ?_
  refine lv_icmp_eq (tgt := 11) hx hb dX10_drop_5 (by decide) (fun hc_9 => ?_) (fun hc_9 => ?_)
  · replace hf := i_t hf hc_9
    refine lv_aload_n hx hb dX10_drop_11 rfl (lv_at hl 0 rfl) ?_
    refine gr_14 hx hb hE hM hown w_2_45 dX10_drop_12 ?_
    obtain ⟨x_1, r_1, hq_1, hf⟩ := ob_some hf
    refine k_X3_countOthers hx hb hml hown hE hM hS w_3_167 hq_1 (Nat.le_of_ble_eq_true rfl) (Nat.le_of_ble_eq_true rfl) hl.1 (Nat.le_of_ble_eq_true rfl) ⟨Nat.zero_le _, Nat.zero_le _⟩ dX10_drop_15 (fun H locs hM hS => ?_)
    refine lv_istore_n (lv' := [(2, .int r_1), (0, .ref (ga G 0)), (1, .int a1)]) hx hb dX10_drop_18 rfl hl (by decide) rfl (fun ls hl => ?_)
    refine lv_iload_n hx hb dX10_drop_19 rfl (lv_at hl 0 rfl) ?_
    refine lv_aload_n hx hb dX10_drop_20 rfl (lv_at hl 1 rfl) ?_
    refine gr_4 hx hb hE hM hown w_2_42 dX10_drop_21 ?_
    refine lv_iconst (v := 5) hx hb dX10_drop_24 (by decide) ?_
    refine lv_aload_n hx hb dX10_drop_25 rfl (lv_at hl 1 rfl) ?_
    refine gf_1 hx hb hE hM hown w_2_49 dX10_drop_26 ?_
    obtain ⟨x_2, r_2, hq_2, hf⟩ := ob_some hf
    refine k_X6_inForce hx hb hml hown hE hM hS w_2_209 hq_2 (Nat.le_of_ble_eq_true rfl) (Nat.le_of_ble_eq_true rfl) hl.1 (Nat.le_of_ble_eq_true rfl) ⟨Nat.zero_le _, Nat.zero_le _⟩ dX10_drop_29 (fun H locs hM hS => ?_)
    refine lv_icmp_le (tgt := 81) hx hb dX10_drop_32 (by decide) (fun hc_8 => ?_) (fun hc_8 => ?_)
    · replace hf := i_t hf hc_8
      refine lv_aload_n hx hb dX10_drop_81 rfl (lv_at hl 1 rfl) ?_
      refine lv_iload_n hx hb dX10_drop_82 rfl (lv_at hl 2 rfl) ?_
      obtain ⟨x_3, r_3, hq_3, hf⟩ := ob_some hf
      refine k_X10_startRace hx hb hml hown hE hM hS w_3_188 hq_3 (Nat.le_of_ble_eq_true rfl) (Nat.le_of_ble_eq_true rfl) hl.1 (Nat.le_of_ble_eq_true rfl) ⟨Nat.zero_le _, Nat.zero_le _⟩ dX10_drop_83 (fun H locs hM hS => ?_)
      refine lv_iload_n hx hb dX10_drop_86 rfl (lv_at hl 0 rfl) ?_
      exact rt_iX hx hb hr hf hM hS dX10_drop_87 hlocks
    · replace hf := i_f hf hc_8
      refine lv_aload_n hx hb dX10_drop_35 rfl (lv_at hl 1 rfl) ?_
      refine gr_14 hx hb hE hM hown w_2_45 dX10_drop_36 ?_
      refine lv_aload_n hx hb dX10_drop_39 rfl (lv_at hl 1 rfl) ?_
      refine gr_7 hx hb hE hM hown w_2_43 dX10_drop_40 ?_
      obtain ⟨x_4, r_4, hq_4, hf⟩ := ob_some hf
      refine k_X3_addFalseStarts hx hb hml hown hE hM hS w_3_175 hq_4 (Nat.le_of_ble_eq_true rfl) (Nat.le_of_ble_eq_true rfl) hl.1 (Nat.le_of_ble_eq_true rfl) ⟨Nat.zero_le _, Nat.zero_le _⟩ dX10_drop_43 (fun H locs hM hS => ?_)
      refine lv_aload_n hx hb dX10_drop_46 rfl (lv_at hl 1 rfl) ?_
      refine gr_14 hx hb hE hM hown w_2_45 dX10_drop_47 ?_
      obtain ⟨x_5, r_5, hq_5, hf⟩ := ob_some hf
      refine k_X3_forgetSeen hx hb hml hown hE hM hS w_3_179 hq_5 (Nat.le_of_ble_eq_true rfl) (Nat.le_of_ble_eq_true rfl) hl.1 (Nat.le_of_ble_eq_true rfl) ⟨Nat.zero_le _, Nat.zero_le _⟩ dX10_drop_50 (fun H locs hM hS => ?_)
      refine lv_aload_n hx hb dX10_drop_53 rfl (lv_at hl 1 rfl) ?_
      refine gr_14 hx hb hE hM hown w_2_45 dX10_drop_54 ?_
      refine lv_aload_n hx hb dX10_drop_57 rfl (lv_at hl 1 rfl) ?_
      refine gr_7 hx hb hE hM hown w_2_43 dX10_drop_58 ?_
      refine lv_aload_n hx hb dX10_drop_61 rfl (lv_at hl 1 rfl) ?_
      refine gr_4 hx hb hE hM hown w_2_42 dX10_drop_62 ?_
      refine lv_bipush (v := 6) hx hb dX10_drop_65 (by decide) ?_
      refine lv_aload_n hx hb dX10_drop_67 rfl (lv_at hl 1 rfl) ?_
      refine gf_1 hx hb hE hM hown w_2_49 dX10_drop_68 ?_
      obtain ⟨x_6, r_6, hq_6, hf⟩ := ob_some hf
      refine k_X6_inForce hx hb hml hown hE hM hS w_2_209 hq_6 (Nat.le_of_ble_eq_true rfl) (Nat.le_of_ble_eq_true rfl) hl.1 (Nat.le_of_ble_eq_true rfl) ⟨Nat.zero_le _, Nat.zero_le _⟩ dX10_drop_71 (fun H locs hM hS => ?_)
      obtain ⟨x_7, r_7, hq_7, hf⟩ := ob_some hf
      refine k_X3_sendBack hx hb hml hown hE hM hS w_3_180 hq_7 (Nat.le_of_ble_eq_true rfl) (Nat.le_of_ble_eq_true rfl) hl.1 (Nat.le_of_ble_eq_true rfl) ⟨Nat.zero_le _, Nat.zero_le _⟩ dX10_drop_74 (fun H locs hM hS => ?_)
      refine lv_iconst (v := (-1)) hx hb dX10_drop_77 (by decide) ?_
      refine lv_iload_n hx hb dX10_drop_78 rfl (lv_at hl 0 rfl) ?_
      refine lv_isub hx hb dX10_drop_79 ?_
      exact rt_iX hx hb hr hf hM hS dX10_drop_80 hlocks
  · replace hf := i_f hf hc_9
    refine lv_bipush (v := (-100)) hx hb dX10_drop_8 (by decide) ?_
    exact rt_iX hx hb hr hf hM hS dX10_drop_10 hlocks
theorem k_X10_drop {p : Program} {l : Launch} {e : Env} {R : Room} {s : State} {m : MethodId} {args : Array Value} {below : List Frame} {meth : Method} {c : Code} {H : Heap} {locs : List Loc} {cells slots : Nat} {Q : State → Prop} {cc : ByteArray} {pc nL : Nat} {ls : Array Slot} {rest : List Value} {G : GG} {fu nw : Nat} {x x' mo : Me} {own : String} {index : Nat} {a1 : Int32} {r : Int32} (hx : p.tables.exec = Jvm.exec) (hb : c.code = cc) (hml : c.maxLocals = nL) (hown : s.vm.findClass own = some m.cls) (hE : EnvP G s) (hM : MemP G nw x mo H) (hS : va_S (gA G) s.heap H locs) (hw : Cond.methodLink own index yX10_drop ∈ lw_tbl) (hf : f_X10_drop fu nw x a1 = some (x', r)) (h1 : 3 + 1 ≤ R.frames) (h2 : 8 + (3 + 11) + 69 ≤ R.locals) (hsz : ls.size = nL) (hW : (rest.map fun v => v.category).sum ≤ 8) (hcs : cells ≤ R.cells ∧ slots ≤ R.slots) (hdg : decode cc pc = .ok (.invokevirtual index, 3)) (kk : ∀ (H1 : Heap) (locs1 : List Loc), MemP G nw x' mo H1 → va_S (gA G) s.heap H1 locs1 → W p l e R s m args below meth c H1 locs1 cells slots Q (F0 m (pc + 3) ls (.int r :: rest))) : W p l e R s m args below meth c H locs cells slots Q (F0 m pc ls (.int a1 :: .ref (ga G 0) :: rest)) := mm_ki hS (mm_runV (n := 1) (o := 0) (C := RX10) (T := TX10) (N := 10) (ci := 10) (As := [.int a1]) hx hb hml hown hE hM hS (c_X10_drop l fu nw G x x' mo a1 _ hf) (List.forall_mem_cons.mpr ⟨⟨hw, rfl⟩, List.forall_mem_cons.mpr ⟨⟨w_3_164, rfl⟩, List.forall_mem_cons.mpr ⟨⟨w_3_165, rfl⟩, List.forall_mem_cons.mpr ⟨⟨w_1_1, rfl⟩, List.forall_mem_cons.mpr ⟨⟨w_3_166, rfl⟩, fun _ h => absurd h List.not_mem_nil⟩⟩⟩⟩⟩) rfl rfl ⟨rfl, by decide, by decide, by decide +kernel⟩ ⟨h1, h2⟩ rfl rfl rfl hsz rfl hW hdg hcs) kk
def f_X10_go_24 (fu nw : Nat) (b1 : Int32) (k : Me → Int32 → Option (Me × Int32)) : Nat → Me → Int32 → Option (Me × Int32)
  | 0 => fun _ _ => none
  | n + 1 => fun x a2 => if b1 ≤ a2 then k x a2 else ob (f_X2_isOver fu nw x) (fun x_1 r_1 => if r_1 = 0 then ob (f_X2_tick fu nw x_1) (fun x_2 _ => f_X10_go_24 fu nw b1 k n x_2 (a2 + 1)) else k x_1 a2)
def f_X10_go (fu nw : Nat) (x : Me) (a1 : Int32) : Option (Me × Int32) := if (x 2 0) = 4 then if a1 < 1 then some (x, (-1)) else if a1 ≤ 400 then f_X10_go_24 fu nw a1 (fun (x_5 : Me) (a2_5 : Int32) => ob (f_X2_isOver fu nw x_5) (fun x_6 r_6 => if r_6 = 0 then some (x_6, a2_5) else ob (f_X1_settle fu nw x_6 (x_6 36 0)) (fun x_7 _ => some ((mu x_7 2 0 5), a2_5)))) fu x 0 else some (x, (-1)) else some (x, (-1))
def rm_X10_go : Room := { frames := 6, cells := 0, slots := 0, locals := 135 }
set_option maxHeartbeats 4000000 in
set_option maxRecDepth 100000 in
theorem wk_X10_go_24 {p : Program} {l : Launch} {e : Env} {s : State} {m : MethodId} {args : Array Value} {below : List Frame} {meth : Method} {c : Code} {fu nw : Nat} {G : GG} {mo : Me} {b1 : Int32} (hx : p.tables.exec = Jvm.exec) (hb : c.code = cX10_go) (hml : c.maxLocals = 3) (hown : s.vm.findClass RX10 = some m.cls) (hE : EnvP G s) (hr : meth.sig.returnType = (some .int)) (hlocks : meth.locks = false) {x' : Me} {r : Int32} {k : Me → Int32 → Option (Me × Int32)} (hk : ∀ (x : Me) (a2 : Int32) (H : Heap) (locs : List Loc) (ls : Array Slot), k x a2 = some (x', r) → MemP G nw x mo H → va_S (gA G) s.heap H locs → lv_has ls 3 [(0, .ref (ga G 0)), (2, .int a2)] → W p l e rm_X10_go s m args below meth c H locs 0 0 (MQ below (PI G nw x' mo r) args s 0 0 (gA G)) (F0 m 52 ls [])) : ∀ (n : Nat) (x : Me) (a2 : Int32) (H : Heap) (locs : List Loc) (ls : Array Slot), f_X10_go_24 fu nw b1 k n x a2 = some (x', r) → MemP G nw x mo H → va_S (gA G) s.heap H locs → lv_has ls 3 [(0, .ref (ga G 0)), (1, .int b1), (2, .int a2)] → W p l e rm_X10_go s m args below meth c H locs 0 0 (MQ below (PI G nw x' mo r) args s 0 0 (gA G)) (F0 m 24 ls []) := by
  intro n
  induction n with
  | zero =>
    intro x a2 H locs ls hf hM hS hl
    exact nn hf
  | succ n ih =>
    intro x a2 H locs ls hf hM hS hl
    rw [f_X10_go_24] at hf
    refine lv_iload_n hx hb dX10_go_24 rfl (lv_at hl 2 rfl) ?_
    refine lv_iload_n hx hb dX10_go_25 rfl (lv_at hl 1 rfl) ?_
    refine lv_icmp_ge (tgt := 52) hx hb dX10_go_26 (by decide) (fun hc_4 => ?_) (fun hc_4 => ?_)
    · replace hf := i_t hf hc_4
      exact hk x a2 _ _ _ hf hM hS (lv_sub hl [0, 2] rfl)
    · replace hf := i_f hf hc_4
      refine lv_aload_n hx hb dX10_go_29 rfl (lv_at hl 0 rfl) ?_
      refine gr_19 hx hb hE hM hown w_2_46 dX10_go_30 ?_
      obtain ⟨x_1, r_1, hq_1, hf⟩ := ob_some hf
      refine k_X2_isOver hx hb hml hown hE hM hS w_3_218 hq_1 (Nat.le_of_ble_eq_true rfl) (Nat.le_of_ble_eq_true rfl) hl.1 (Nat.le_of_ble_eq_true rfl) ⟨Nat.zero_le _, Nat.zero_le _⟩ dX10_go_33 (fun H locs hM hS => ?_)
      refine lv_if_ne (tgt := 52) hx hb dX10_go_36 (by decide) (fun hc_3 => ?_) (fun hc_3 => ?_)
      · replace hf := i_f hf hc_3
        exact hk x_1 a2 _ _ _ hf hM hS (lv_sub hl [0, 2] rfl)
      · replace hf := i_t hf hc_3
        refine lv_aload_n hx hb dX10_go_39 rfl (lv_at hl 0 rfl) ?_
        refine gr_19 hx hb hE hM hown w_2_46 dX10_go_40 ?_
        obtain ⟨x_2, r_2, hq_2, hf⟩ := ob_some hf
        refine k_X2_tick hx hb hml hown hE hM hS w_3_222 hq_2 (Nat.le_of_ble_eq_true rfl) (Nat.le_of_ble_eq_true rfl) hl.1 (Nat.le_of_ble_eq_true rfl) ⟨Nat.zero_le _, Nat.zero_le _⟩ dX10_go_43 (fun H locs hM hS => ?_)
        refine lv_iinc (v := a2 + 1) (lv' := [(2, .int (a2 + 1)), (0, .ref (ga G 0)), (1, .int b1)]) hx hb dX10_go_46 hl (k := 2) rfl rfl (by decide) rfl (fun ls hl => ?_)
        refine lv_goto (tgt := 24) hx hb dX10_go_49 (by decide) ?_
        exact ih x_2 (a2 + 1) _ _ _ hf hM hS (lv_sub hl [1, 2, 0] rfl)
set_option maxHeartbeats 4000000 in
set_option maxRecDepth 100000 in
theorem c_X10_go (l : Launch) (fu nw : Nat) (G : GG) (x x' mo : Me) (a1 : Int32) (r : Int32) (hf : f_X10_go fu nw x a1 = some (x', r)) : Met l yX10_go [.code yX10_go cX10_go 3 (some .int)] rm_X10_go (va_Pc [.ref (ga G 0), .int a1] (Pre G nw x mo)) (PI G nw x' mo r) 0 0 (gA G) := by
  refine mt_ofW (cc := cX10_go) (maxL := 3) (ret := (some .int)) (by decide +kernel) rfl ?_
  intro p e s m args below meth c s₁ B hml hv
  obtain ⟨rfl, hE, hM⟩ := hv
  have hx := B.exec
  have hb := B.bytes
  have hr := B.returns
  have hown : s.vm.findClass RX10 = some m.cls := findClass_of_methodNamed B.named
  have hlocks := B.notSynchronized
  have hS : va_S (gA G) s.heap s.heap [] := va_S.rf
  have hl := lv_entry ([.ref (ga G 0), .int a1]) (n := 3) (Nat.le_of_ble_eq_true rfl)
  rw [lg_entry_eq]
  generalize (lg_sl ([.ref (ga G 0), .int a1]) ++ List.replicate (3 - (lg_sl ([.ref (ga G 0), .int a1])).length) Slot.unset).toArray = ls at hl ⊢
  have hl : lv_has ls 3 [(0, .ref (ga G 0)), (1, .int a1)] := hl
  generalize ([.ref (ga G 0), .int a1] : List Value).toArray = args
  unfold f_X10_go at hf
  refine lv_aload_n hx hb dX10_go_0 rfl (lv_at hl 0 rfl) ?_
  refine gf_2 hx hb hE hM hown w_2_50 dX10_go_1 ?_
  refine lv_iconst (v := 4) hx hb dX10_go_4 (by decide) ?_
  refine lv_icmp_ne (tgt := 20) hx hb dX10_go_5 (by decide) (fun hc_11 => ?_) (fun hc_11 => ?_)
  · replace hf := i_f hf hc_11
    refine lv_iconst (v := (-1)) hx hb dX10_go_20 (by decide) ?_
    exact rt_iX hx hb hr hf hM hS dX10_go_21 hlocks
  · replace hf := i_t hf hc_11
    refine lv_iload_n hx hb dX10_go_8 rfl (lv_at hl 1 rfl) ?_
    refine lv_iconst (v := 1) hx hb dX10_go_9 (by decide) ?_
    refine lv_icmp_lt (tgt := 20) hx hb dX10_go_10 (by decide) (fun hc_10 => ?_) (fun hc_10 => ?_)
    · replace hf := i_t hf hc_10
      refine lv_iconst (v := (-1)) hx hb dX10_go_20 (by decide) ?_
      exact rt_iX hx hb hr hf hM hS dX10_go_21 hlocks
    · replace hf := i_f hf hc_10
      refine lv_iload_n hx hb dX10_go_13 rfl (lv_at hl 1 rfl) ?_
      refine lv_sipush (v := 400) hx hb dX10_go_14 (by decide) ?_
      refine lv_icmp_le (tgt := 22) hx hb dX10_go_17 (by decide) (fun hc_9 => ?_) (fun hc_9 => ?_)
      · replace hf := i_t hf hc_9
        refine lv_iconst (v := 0) hx hb dX10_go_22 (by decide) ?_
        refine lv_istore_n (lv' := [(2, .int 0), (0, .ref (ga G 0)), (1, .int a1)]) hx hb dX10_go_23 rfl hl (by decide) rfl (fun ls hl => ?_)
        refine wk_X10_go_24 hx hb hml hown hE hr hlocks ?_ fu x 0 _ _ _ hf hM hS (lv_sub hl [1, 2, 0] rfl)
        intro x_5 a2_5 H locs ls hf hM hS hl
        refine lv_aload_n hx hb dX10_go_52 rfl (lv_at hl 0 rfl) ?_
        refine gr_19 hx hb hE hM hown w_2_46 dX10_go_53 ?_
        obtain ⟨x_6, r_6, hq_6, hf⟩ := ob_some hf
        refine k_X2_isOver hx hb hml hown hE hM hS w_3_218 hq_6 (Nat.le_of_ble_eq_true rfl) (Nat.le_of_ble_eq_true rfl) hl.1 (Nat.le_of_ble_eq_true rfl) ⟨Nat.zero_le _, Nat.zero_le _⟩ dX10_go_56 (fun H locs hM hS => ?_)
        refine lv_if_eq (tgt := 85) hx hb dX10_go_59 (by decide) (fun hc_8 => ?_) (fun hc_8 => ?_)
        · replace hf := i_t hf hc_8
          refine lv_iload_n hx hb dX10_go_85 rfl (lv_at hl 1 rfl) ?_
          exact rt_iX hx hb hr hf hM hS dX10_go_86 hlocks
        · replace hf := i_f hf hc_8
          refine lv_aload_n hx hb dX10_go_62 rfl (lv_at hl 0 rfl) ?_
          refine gr_36 hx hb hE hM hown w_2_47 dX10_go_63 ?_
          refine lv_aload_n hx hb dX10_go_66 rfl (lv_at hl 0 rfl) ?_
          refine gr_7 hx hb hE hM hown w_2_43 dX10_go_67 ?_
          refine lv_aload_n hx hb dX10_go_70 rfl (lv_at hl 0 rfl) ?_
          refine gr_19 hx hb hE hM hown w_2_46 dX10_go_71 ?_
          refine gf_36N hx hb hE hM hown w_1_229 dX10_go_74 ?_
          obtain ⟨x_7, r_7, hq_7, hf⟩ := ob_some hf
          refine k_X1_settle hx hb hml hown hE hM hS w_4_55 hq_7 (Nat.le_of_ble_eq_true rfl) (Nat.le_of_ble_eq_true rfl) hl.1 (Nat.le_of_ble_eq_true rfl) ⟨Nat.zero_le _, Nat.zero_le _⟩ dX10_go_77 (fun H locs hM hS => ?_)
          refine lv_aload_n hx hb dX10_go_80 rfl (lv_at hl 0 rfl) ?_
          refine lv_iconst (v := 5) hx hb dX10_go_81 (by decide) ?_
          refine pf_2 hx hb hE hM hS hown w_2_50 dX10_go_82 (fun H locs hM hS => ?_)
          refine lv_iload_n hx hb dX10_go_85 rfl (lv_at hl 1 rfl) ?_
          exact rt_iX hx hb hr hf hM hS dX10_go_86 hlocks
      · replace hf := i_f hf hc_9
        refine lv_iconst (v := (-1)) hx hb dX10_go_20 (by decide) ?_
        exact rt_iX hx hb hr hf hM hS dX10_go_21 hlocks
theorem k_X10_go {p : Program} {l : Launch} {e : Env} {R : Room} {s : State} {m : MethodId} {args : Array Value} {below : List Frame} {meth : Method} {c : Code} {H : Heap} {locs : List Loc} {cells slots : Nat} {Q : State → Prop} {cc : ByteArray} {pc nL : Nat} {ls : Array Slot} {rest : List Value} {G : GG} {fu nw : Nat} {x x' mo : Me} {own : String} {index : Nat} {a1 : Int32} {r : Int32} (hx : p.tables.exec = Jvm.exec) (hb : c.code = cc) (hml : c.maxLocals = nL) (hown : s.vm.findClass own = some m.cls) (hE : EnvP G s) (hM : MemP G nw x mo H) (hS : va_S (gA G) s.heap H locs) (hw : Cond.methodLink own index yX10_go ∈ lw_tbl) (hf : f_X10_go fu nw x a1 = some (x', r)) (h1 : 6 + 1 ≤ R.frames) (h2 : 8 + (3 + 11) + 135 ≤ R.locals) (hsz : ls.size = nL) (hW : (rest.map fun v => v.category).sum ≤ 8) (hcs : cells ≤ R.cells ∧ slots ≤ R.slots) (hdg : decode cc pc = .ok (.invokevirtual index, 3)) (kk : ∀ (H1 : Heap) (locs1 : List Loc), MemP G nw x' mo H1 → va_S (gA G) s.heap H1 locs1 → W p l e R s m args below meth c H1 locs1 cells slots Q (F0 m (pc + 3) ls (.int r :: rest))) : W p l e R s m args below meth c H locs cells slots Q (F0 m pc ls (.int a1 :: .ref (ga G 0) :: rest)) := mm_ki hS (mm_runV (n := 1) (o := 0) (C := RX10) (T := TX10) (N := 10) (ci := 10) (As := [.int a1]) hx hb hml hown hE hM hS (c_X10_go l fu nw G x x' mo a1 _ hf) (List.forall_mem_cons.mpr ⟨⟨hw, rfl⟩, List.forall_mem_cons.mpr ⟨⟨w_3_215, rfl⟩, List.forall_mem_cons.mpr ⟨⟨w_3_216, rfl⟩, List.forall_mem_cons.mpr ⟨⟨w_1_1, rfl⟩, List.forall_mem_cons.mpr ⟨⟨w_3_217, rfl⟩, fun _ h => absurd h List.not_mem_nil⟩⟩⟩⟩⟩) rfl rfl ⟨rfl, by decide, by decide, by decide +kernel⟩ ⟨h1, h2⟩ rfl rfl rfl hsz rfl hW hdg hcs) kk
def f_X10_race (fu nw : Nat) (x : Me) (a1 : Int32) (a2 : Int32) : Option (Me × Int32) := if (x 2 0) < 4 then some (x, (-100)) else ob (f_X2_find fu nw x a1) (fun x_1 r_1 => om r_1 (some (x_1, (-100))) (fun m_1 => if m_1 < 10 then if a2 = 0 then some (x_1, x_1 39 m_1) else if a2 = 1 then some (x_1, x_1 40 m_1) else if a2 = 2 then some (x_1, x_1 41 m_1) else if a2 = 3 then if (x_1 42 m_1) = 0 then some (x_1, 0) else some (x_1, 1) else if a2 = 4 then some (x_1, x_1 43 m_1) else if a2 = 5 then some (x_1, x_1 44 m_1) else some (x_1, (-100)) else none))
def rm_X10_race : Room := { frames := 1, cells := 0, slots := 0, locals := 22 }
set_option maxHeartbeats 4000000 in
set_option maxRecDepth 100000 in
theorem c_X10_race (l : Launch) (fu nw : Nat) (G : GG) (x x' mo : Me) (a1 : Int32) (a2 : Int32) (r : Int32) (hf : f_X10_race fu nw x a1 a2 = some (x', r)) : Met l yX10_race [.code yX10_race cX10_race 4 (some .int)] rm_X10_race (va_Pc [.ref (ga G 0), .int a1, .int a2] (Pre G nw x mo)) (PI G nw x' mo r) 0 0 (gA G) := by
  refine mt_ofW (cc := cX10_race) (maxL := 4) (ret := (some .int)) (by decide +kernel) rfl ?_
  intro p e s m args below meth c s₁ B hml hv
  obtain ⟨rfl, hE, hM⟩ := hv
  have hx := B.exec
  have hb := B.bytes
  have hr := B.returns
  have hown : s.vm.findClass RX10 = some m.cls := findClass_of_methodNamed B.named
  have hlocks := B.notSynchronized
  have hS : va_S (gA G) s.heap s.heap [] := va_S.rf
  have hl := lv_entry ([.ref (ga G 0), .int a1, .int a2]) (n := 4) (Nat.le_of_ble_eq_true rfl)
  rw [lg_entry_eq]
  generalize (lg_sl ([.ref (ga G 0), .int a1, .int a2]) ++ List.replicate (4 - (lg_sl ([.ref (ga G 0), .int a1, .int a2])).length) Slot.unset).toArray = ls at hl ⊢
  have hl : lv_has ls 4 [(0, .ref (ga G 0)), (1, .int a1), (2, .int a2)] := hl
  generalize ([.ref (ga G 0), .int a1, .int a2] : List Value).toArray = args
  unfold f_X10_race at hf
  refine lv_aload_n hx hb dX10_race_0 rfl (lv_at hl 0 rfl) ?_
  refine gf_2 hx hb hE hM hown w_2_50 dX10_race_1 ?_
  refine lv_iconst (v := 4) hx hb dX10_race_4 (by decide) ?_
  refine lv_icmp_lt (tgt := 19) hx hb dX10_race_5 (by decide) (fun hc_9 => ?_) (fun hc_9 => ?_)
  · replace hf := i_t hf hc_9
    refine lv_null hx hb dX10_race_19 ?_
    refine lv_astore_nN (lv' := [(3, .null), (0, .ref (ga G 0)), (1, .int a1), (2, .int a2)]) hx hb dX10_race_20 rfl hl (by decide) rfl (fun ls hl => ?_)
    refine lv_aload_nN hx hb dX10_race_21 rfl (lv_at hl 0 rfl) ?_
    refine lv_ifnonnullN hx hb dX10_race_22 ?_
    refine lv_bipush (v := (-100)) hx hb dX10_race_25 (by decide) ?_
    exact rt_iX hx hb hr hf hM hS dX10_race_27 hlocks
  · replace hf := i_f hf hc_9
    refine lv_aload_n hx hb dX10_race_8 rfl (lv_at hl 0 rfl) ?_
    refine gr_19 hx hb hE hM hown w_2_46 dX10_race_9 ?_
    refine lv_iload_n hx hb dX10_race_12 rfl (lv_at hl 1 rfl) ?_
    obtain ⟨x_1, r_1, hq_1, hf⟩ := ob_some hf
    refine k_X2_find hx hb hml hown hE hM hS w_4_64 hq_1 (Nat.le_of_ble_eq_true rfl) (Nat.le_of_ble_eq_true rfl) hl.1 (Nat.le_of_ble_eq_true rfl) ⟨Nat.zero_le _, Nat.zero_le _⟩ dX10_race_13 (fun h_1 H locs hM hS => ?_) (fun m_1 h_1 H locs hM hS => ?_)
    · subst h_1
      replace hf := om_n hf
      refine lv_goto (tgt := 20) hx hb dX10_race_16 (by decide) ?_
      refine lv_astore_nN (lv' := [(3, .null), (0, .ref (ga G 0)), (1, .int a1), (2, .int a2)]) hx hb dX10_race_20 rfl hl (by decide) rfl (fun ls hl => ?_)
      refine lv_aload_nN hx hb dX10_race_21 rfl (lv_at hl 0 rfl) ?_
      refine lv_ifnonnullN hx hb dX10_race_22 ?_
      refine lv_bipush (v := (-100)) hx hb dX10_race_25 (by decide) ?_
      exact rt_iX hx hb hr hf hM hS dX10_race_27 hlocks
    · subst h_1
      replace hf := om_s hf
      obtain ⟨hm_1, hf⟩ := i_n hf
      refine lv_goto (tgt := 20) hx hb dX10_race_16 (by decide) ?_
      refine lv_astore_n (lv' := [(3, .ref (ga G (26 + m_1))), (0, .ref (ga G 0)), (1, .int a1), (2, .int a2)]) hx hb dX10_race_20 rfl hl (by decide) rfl (fun ls hl => ?_)
      refine lv_aload_n hx hb dX10_race_21 rfl (lv_at hl 0 rfl) ?_
      refine lv_ifnonnull (tgt := 28) hx hb dX10_race_22 (by decide) ?_
      refine lv_iload_n hx hb dX10_race_28 rfl (lv_at hl 3 rfl) ?_
      by_cases hc_2 : a2 = 0
      · replace hf := i_t hf hc_2
        refine lv_tabK (k := 0) (tgt := 68) hx hb dX10_race_29 hc_2 (by decide) (by decide) rfl (by decide) ?_
        refine lv_aload_n hx hb dX10_race_68 rfl (lv_at hl 0 rfl) ?_
        refine gf_39N hm_1 hx hb hE hM hown w_1_177 dX10_race_69 ?_
        exact rt_iX hx hb hr hf hM hS dX10_race_72 hlocks
      replace hf := i_f hf hc_2
      by_cases hc_3 : a2 = 1
      · replace hf := i_t hf hc_3
        refine lv_tabK (k := 1) (tgt := 73) hx hb dX10_race_29 hc_3 (by decide) (by decide) rfl (by decide) ?_
        refine lv_aload_n hx hb dX10_race_73 rfl (lv_at hl 0 rfl) ?_
        refine gf_40N hm_1 hx hb hE hM hown w_1_180 dX10_race_74 ?_
        exact rt_iX hx hb hr hf hM hS dX10_race_77 hlocks
      replace hf := i_f hf hc_3
      by_cases hc_4 : a2 = 2
      · replace hf := i_t hf hc_4
        refine lv_tabK (k := 2) (tgt := 78) hx hb dX10_race_29 hc_4 (by decide) (by decide) rfl (by decide) ?_
        refine lv_aload_n hx hb dX10_race_78 rfl (lv_at hl 0 rfl) ?_
        refine gf_41N hm_1 hx hb hE hM hown w_1_183 dX10_race_79 ?_
        exact rt_iX hx hb hr hf hM hS dX10_race_82 hlocks
      replace hf := i_f hf hc_4
      by_cases hc_5 : a2 = 3
      · replace hf := i_t hf hc_5
        refine lv_tabK (k := 3) (tgt := 83) hx hb dX10_race_29 hc_5 (by decide) (by decide) rfl (by decide) ?_
        refine lv_aload_n hx hb dX10_race_83 rfl (lv_at hl 0 rfl) ?_
        refine gf_42N hm_1 hx hb hE hM hown w_1_186 dX10_race_84 ?_
        refine lv_if_eq (tgt := 94) hx hb dX10_race_87 (by decide) (fun hc_6 => ?_) (fun hc_6 => ?_)
        · replace hf := i_t hf hc_6
          refine lv_iconst (v := 0) hx hb dX10_race_94 (by decide) ?_
          exact rt_iX hx hb hr hf hM hS dX10_race_95 hlocks
        · replace hf := i_f hf hc_6
          refine lv_iconst (v := 1) hx hb dX10_race_90 (by decide) ?_
          refine lv_goto (tgt := 95) hx hb dX10_race_91 (by decide) ?_
          exact rt_iX hx hb hr hf hM hS dX10_race_95 hlocks
      replace hf := i_f hf hc_5
      by_cases hc_7 : a2 = 4
      · replace hf := i_t hf hc_7
        refine lv_tabK (k := 4) (tgt := 96) hx hb dX10_race_29 hc_7 (by decide) (by decide) rfl (by decide) ?_
        refine lv_aload_n hx hb dX10_race_96 rfl (lv_at hl 0 rfl) ?_
        refine gf_43N hm_1 hx hb hE hM hown w_1_189 dX10_race_97 ?_
        exact rt_iX hx hb hr hf hM hS dX10_race_100 hlocks
      replace hf := i_f hf hc_7
      by_cases hc_8 : a2 = 5
      · replace hf := i_t hf hc_8
        refine lv_tabK (k := 5) (tgt := 101) hx hb dX10_race_29 hc_8 (by decide) (by decide) rfl (by decide) ?_
        refine lv_aload_n hx hb dX10_race_101 rfl (lv_at hl 0 rfl) ?_
        refine gf_44N hm_1 hx hb hE hM hown w_1_192 dX10_race_102 ?_
        exact rt_iX hx hb hr hf hM hS dX10_race_105 hlocks
      replace hf := i_f hf hc_8
      refine lv_tableOut (tgt := 106) hx hb dX10_race_29 (by have q0 := lv_neT (a := 0) hc_2 rfl; have q1 := lv_neT (a := 1) hc_3 rfl; have q2 := lv_neT (a := 2) hc_4 rfl; have q3 := lv_neT (a := 3) hc_5 rfl; have q4 := lv_neT (a := 4) hc_7 rfl; have q5 := lv_neT (a := 5) hc_8 rfl; omega) (by decide) ?_
      refine lv_bipush (v := (-100)) hx hb dX10_race_106 (by decide) ?_
      exact rt_iX hx hb hr hf hM hS dX10_race_108 hlocks
theorem k_X10_race {p : Program} {l : Launch} {e : Env} {R : Room} {s : State} {m : MethodId} {args : Array Value} {below : List Frame} {meth : Method} {c : Code} {H : Heap} {locs : List Loc} {cells slots : Nat} {Q : State → Prop} {cc : ByteArray} {pc nL : Nat} {ls : Array Slot} {rest : List Value} {G : GG} {fu nw : Nat} {x x' mo : Me} {own : String} {index : Nat} {a1 : Int32} {a2 : Int32} {r : Int32} (hx : p.tables.exec = Jvm.exec) (hb : c.code = cc) (hml : c.maxLocals = nL) (hown : s.vm.findClass own = some m.cls) (hE : EnvP G s) (hM : MemP G nw x mo H) (hS : va_S (gA G) s.heap H locs) (hw : Cond.methodLink own index yX10_race ∈ lw_tbl) (hf : f_X10_race fu nw x a1 a2 = some (x', r)) (h1 : 1 + 1 ≤ R.frames) (h2 : 8 + (4 + 11) + 22 ≤ R.locals) (hsz : ls.size = nL) (hW : (rest.map fun v => v.category).sum ≤ 8) (hcs : cells ≤ R.cells ∧ slots ≤ R.slots) (hdg : decode cc pc = .ok (.invokevirtual index, 3)) (kk : ∀ (H1 : Heap) (locs1 : List Loc), MemP G nw x' mo H1 → va_S (gA G) s.heap H1 locs1 → W p l e R s m args below meth c H1 locs1 cells slots Q (F0 m (pc + 3) ls (.int r :: rest))) : W p l e R s m args below meth c H locs cells slots Q (F0 m pc ls (.int a2 :: .int a1 :: .ref (ga G 0) :: rest)) := mm_ki hS (mm_runV (n := 2) (o := 0) (C := RX10) (T := TX10) (N := 10) (ci := 10) (As := [.int a1, .int a2]) hx hb hml hown hE hM hS (c_X10_race l fu nw G x x' mo a1 a2 _ hf) (List.forall_mem_cons.mpr ⟨⟨hw, rfl⟩, List.forall_mem_cons.mpr ⟨⟨w_4_61, rfl⟩, List.forall_mem_cons.mpr ⟨⟨w_4_62, rfl⟩, List.forall_mem_cons.mpr ⟨⟨w_1_1, rfl⟩, List.forall_mem_cons.mpr ⟨⟨w_4_63, rfl⟩, fun _ h => absurd h List.not_mem_nil⟩⟩⟩⟩⟩) rfl rfl ⟨rfl, by decide, by decide, by decide +kernel⟩ ⟨h1, h2⟩ rfl rfl rfl hsz rfl hW hdg hcs) kk
def f_X10_won (fu nw : Nat) (x : Me) : Option (Me × Int32) := if (x 2 0) < 4 then some (x, (-1)) else some (x, x 36 0)
def rm_X10_won : Room := { frames := 0, cells := 0, slots := 0, locals := 0 }
set_option maxHeartbeats 4000000 in
set_option maxRecDepth 100000 in
theorem c_X10_won (l : Launch) (fu nw : Nat) (G : GG) (x x' mo : Me) (r : Int32) (hf : f_X10_won fu nw x = some (x', r)) : Met l yX10_won [.code yX10_won cX10_won 1 (some .int)] rm_X10_won (va_Pc [.ref (ga G 0)] (Pre G nw x mo)) (PI G nw x' mo r) 0 0 (gA G) := by
  refine mt_ofW (cc := cX10_won) (maxL := 1) (ret := (some .int)) (by decide +kernel) rfl ?_
  intro p e s m args below meth c s₁ B hml hv
  obtain ⟨rfl, hE, hM⟩ := hv
  have hx := B.exec
  have hb := B.bytes
  have hr := B.returns
  have hown : s.vm.findClass RX10 = some m.cls := findClass_of_methodNamed B.named
  have hlocks := B.notSynchronized
  have hS : va_S (gA G) s.heap s.heap [] := va_S.rf
  have hl := lv_entry ([.ref (ga G 0)]) (n := 1) (Nat.le_of_ble_eq_true rfl)
  rw [lg_entry_eq]
  generalize (lg_sl ([.ref (ga G 0)]) ++ List.replicate (1 - (lg_sl ([.ref (ga G 0)])).length) Slot.unset).toArray = ls at hl ⊢
  have hl : lv_has ls 1 [(0, .ref (ga G 0))] := hl
  generalize ([.ref (ga G 0)] : List Value).toArray = args
  unfold f_X10_won at hf
  refine lv_aload_n hx hb dX10_won_0 rfl (lv_at hl 0 rfl) ?_
  refine gf_2 hx hb hE hM hown w_2_50 dX10_won_1 ?_
  refine lv_iconst (v := 4) hx hb dX10_won_4 (by decide) ?_
  refine lv_icmp_lt (tgt := 18) hx hb dX10_won_5 (by decide) (fun hc_1 => ?_) (fun hc_1 => ?_)
  · replace hf := i_t hf hc_1
    refine lv_iconst (v := (-1)) hx hb dX10_won_18 (by decide) ?_
    exact rt_iX hx hb hr hf hM hS dX10_won_19 hlocks
  · replace hf := i_f hf hc_1
    refine lv_aload_n hx hb dX10_won_8 rfl (lv_at hl 0 rfl) ?_
    refine gr_19 hx hb hE hM hown w_2_46 dX10_won_9 ?_
    refine gf_36N hx hb hE hM hown w_1_229 dX10_won_12 ?_
    refine lv_goto (tgt := 19) hx hb dX10_won_15 (by decide) ?_
    exact rt_iX hx hb hr hf hM hS dX10_won_19 hlocks
theorem k_X10_won {p : Program} {l : Launch} {e : Env} {R : Room} {s : State} {m : MethodId} {args : Array Value} {below : List Frame} {meth : Method} {c : Code} {H : Heap} {locs : List Loc} {cells slots : Nat} {Q : State → Prop} {cc : ByteArray} {pc nL : Nat} {ls : Array Slot} {rest : List Value} {G : GG} {fu nw : Nat} {x x' mo : Me} {own : String} {index : Nat} {r : Int32} (hx : p.tables.exec = Jvm.exec) (hb : c.code = cc) (hml : c.maxLocals = nL) (hown : s.vm.findClass own = some m.cls) (hE : EnvP G s) (hM : MemP G nw x mo H) (hS : va_S (gA G) s.heap H locs) (hw : Cond.methodLink own index yX10_won ∈ lw_tbl) (hf : f_X10_won fu nw x = some (x', r)) (h1 : 0 + 1 ≤ R.frames) (h2 : 8 + (1 + 11) + 0 ≤ R.locals) (hsz : ls.size = nL) (hW : (rest.map fun v => v.category).sum ≤ 8) (hcs : cells ≤ R.cells ∧ slots ≤ R.slots) (hdg : decode cc pc = .ok (.invokevirtual index, 3)) (kk : ∀ (H1 : Heap) (locs1 : List Loc), MemP G nw x' mo H1 → va_S (gA G) s.heap H1 locs1 → W p l e R s m args below meth c H1 locs1 cells slots Q (F0 m (pc + 3) ls (.int r :: rest))) : W p l e R s m args below meth c H locs cells slots Q (F0 m pc ls (.ref (ga G 0) :: rest)) := mm_ki hS (mm_runV (n := 0) (o := 0) (C := RX10) (T := TX10) (N := 10) (ci := 10) (As := []) hx hb hml hown hE hM hS (c_X10_won l fu nw G x x' mo _ hf) (List.forall_mem_cons.mpr ⟨⟨hw, rfl⟩, List.forall_mem_cons.mpr ⟨⟨w_4_66, rfl⟩, List.forall_mem_cons.mpr ⟨⟨w_4_67, rfl⟩, List.forall_mem_cons.mpr ⟨⟨w_1_1, rfl⟩, List.forall_mem_cons.mpr ⟨⟨w_4_68, rfl⟩, fun _ h => absurd h List.not_mem_nil⟩⟩⟩⟩⟩) rfl rfl ⟨rfl, by decide, by decide, by decide +kernel⟩ ⟨h1, h2⟩ rfl rfl rfl hsz rfl hW hdg hcs) kk
def f_X10_pact (fu nw : Nat) (x : Me) (a1 : Int32) (a2 : Int32) (a3 : Int32) : Option (Me × Int32) := ob (f_X8_has fu nw x a1) (fun x_1 r_1 => if r_1 = 0 then some (x_1, (-1)) else ob (f_X8_has fu nw x_1 a2) (fun x_2 r_2 => if r_2 = 0 then some (x_2, (-1)) else if a1 = a2 then some (x_2, (-1)) else if a3 < 1 then some (x_2, (-1)) else if a3 ≤ 9999 then ob (f_X1_add fu nw x_2 a1 a2 a3) (fun x_3 r_3 => some (x_3, r_3)) else some (x_2, (-1))))
def rm_X10_pact : Room := { frames := 1, cells := 0, slots := 0, locals := 23 }
set_option maxHeartbeats 4000000 in
set_option maxRecDepth 100000 in
theorem c_X10_pact (l : Launch) (fu nw : Nat) (G : GG) (x x' mo : Me) (a1 : Int32) (a2 : Int32) (a3 : Int32) (r : Int32) (hf : f_X10_pact fu nw x a1 a2 a3 = some (x', r)) : Met l yX10_pact [.code yX10_pact cX10_pact 4 (some .int)] rm_X10_pact (va_Pc [.ref (ga G 0), .int a1, .int a2, .int a3] (Pre G nw x mo)) (PI G nw x' mo r) 0 0 (gA G) := by
  refine mt_ofW (cc := cX10_pact) (maxL := 4) (ret := (some .int)) (by decide +kernel) rfl ?_
  intro p e s m args below meth c s₁ B hml hv
  obtain ⟨rfl, hE, hM⟩ := hv
  have hx := B.exec
  have hb := B.bytes
  have hr := B.returns
  have hown : s.vm.findClass RX10 = some m.cls := findClass_of_methodNamed B.named
  have hlocks := B.notSynchronized
  have hS : va_S (gA G) s.heap s.heap [] := va_S.rf
  have hl := lv_entry ([.ref (ga G 0), .int a1, .int a2, .int a3]) (n := 4) (Nat.le_of_ble_eq_true rfl)
  rw [lg_entry_eq]
  generalize (lg_sl ([.ref (ga G 0), .int a1, .int a2, .int a3]) ++ List.replicate (4 - (lg_sl ([.ref (ga G 0), .int a1, .int a2, .int a3])).length) Slot.unset).toArray = ls at hl ⊢
  have hl : lv_has ls 4 [(0, .ref (ga G 0)), (1, .int a1), (2, .int a2), (3, .int a3)] := hl
  generalize ([.ref (ga G 0), .int a1, .int a2, .int a3] : List Value).toArray = args
  unfold f_X10_pact at hf
  refine lv_aload_n hx hb dX10_pact_0 rfl (lv_at hl 0 rfl) ?_
  refine gr_7 hx hb hE hM hown w_2_43 dX10_pact_1 ?_
  refine lv_iload_n hx hb dX10_pact_4 rfl (lv_at hl 1 rfl) ?_
  obtain ⟨x_1, r_1, hq_1, hf⟩ := ob_some hf
  refine k_X8_has hx hb hml hown hE hM hS w_3_157 hq_1 (Nat.le_of_ble_eq_true rfl) (Nat.le_of_ble_eq_true rfl) hl.1 (Nat.le_of_ble_eq_true rfl) ⟨Nat.zero_le _, Nat.zero_le _⟩ dX10_pact_5 (fun H locs hM hS => ?_)
  refine lv_if_eq (tgt := 39) hx hb dX10_pact_8 (by decide) (fun hc_8 => ?_) (fun hc_8 => ?_)
  · replace hf := i_t hf hc_8
    refine lv_iconst (v := (-1)) hx hb dX10_pact_39 (by decide) ?_
    exact rt_iX hx hb hr hf hM hS dX10_pact_40 hlocks
  · replace hf := i_f hf hc_8
    refine lv_aload_n hx hb dX10_pact_11 rfl (lv_at hl 0 rfl) ?_
    refine gr_7 hx hb hE hM hown w_2_43 dX10_pact_12 ?_
    refine lv_iload_n hx hb dX10_pact_15 rfl (lv_at hl 2 rfl) ?_
    obtain ⟨x_2, r_2, hq_2, hf⟩ := ob_some hf
    refine k_X8_has hx hb hml hown hE hM hS w_3_157 hq_2 (Nat.le_of_ble_eq_true rfl) (Nat.le_of_ble_eq_true rfl) hl.1 (Nat.le_of_ble_eq_true rfl) ⟨Nat.zero_le _, Nat.zero_le _⟩ dX10_pact_16 (fun H locs hM hS => ?_)
    refine lv_if_eq (tgt := 39) hx hb dX10_pact_19 (by decide) (fun hc_7 => ?_) (fun hc_7 => ?_)
    · replace hf := i_t hf hc_7
      refine lv_iconst (v := (-1)) hx hb dX10_pact_39 (by decide) ?_
      exact rt_iX hx hb hr hf hM hS dX10_pact_40 hlocks
    · replace hf := i_f hf hc_7
      refine lv_iload_n hx hb dX10_pact_22 rfl (lv_at hl 1 rfl) ?_
      refine lv_iload_n hx hb dX10_pact_23 rfl (lv_at hl 2 rfl) ?_
      refine lv_icmp_eq (tgt := 39) hx hb dX10_pact_24 (by decide) (fun hc_6 => ?_) (fun hc_6 => ?_)
      · replace hf := i_t hf hc_6
        refine lv_iconst (v := (-1)) hx hb dX10_pact_39 (by decide) ?_
        exact rt_iX hx hb hr hf hM hS dX10_pact_40 hlocks
      · replace hf := i_f hf hc_6
        refine lv_iload_n hx hb dX10_pact_27 rfl (lv_at hl 3 rfl) ?_
        refine lv_iconst (v := 1) hx hb dX10_pact_28 (by decide) ?_
        refine lv_icmp_lt (tgt := 39) hx hb dX10_pact_29 (by decide) (fun hc_5 => ?_) (fun hc_5 => ?_)
        · replace hf := i_t hf hc_5
          refine lv_iconst (v := (-1)) hx hb dX10_pact_39 (by decide) ?_
          exact rt_iX hx hb hr hf hM hS dX10_pact_40 hlocks
        · replace hf := i_f hf hc_5
          refine lv_iload_n hx hb dX10_pact_32 rfl (lv_at hl 3 rfl) ?_
          refine lv_sipush (v := 9999) hx hb dX10_pact_33 (by decide) ?_
          refine lv_icmp_le (tgt := 41) hx hb dX10_pact_36 (by decide) (fun hc_4 => ?_) (fun hc_4 => ?_)
          · replace hf := i_t hf hc_4
            refine lv_aload_n hx hb dX10_pact_41 rfl (lv_at hl 0 rfl) ?_
            refine gr_36 hx hb hE hM hown w_2_47 dX10_pact_42 ?_
            refine lv_iload_n hx hb dX10_pact_45 rfl (lv_at hl 1 rfl) ?_
            refine lv_iload_n hx hb dX10_pact_46 rfl (lv_at hl 2 rfl) ?_
            refine lv_iload_n hx hb dX10_pact_47 rfl (lv_at hl 3 rfl) ?_
            obtain ⟨x_3, r_3, hq_3, hf⟩ := ob_some hf
            refine k_X1_add hx hb hml hown hE hM hS w_4_73 hq_3 (Nat.le_of_ble_eq_true rfl) (Nat.le_of_ble_eq_true rfl) hl.1 (Nat.le_of_ble_eq_true rfl) ⟨Nat.zero_le _, Nat.zero_le _⟩ dX10_pact_48 (fun H locs hM hS => ?_)
            exact rt_iX hx hb hr hf hM hS dX10_pact_51 hlocks
          · replace hf := i_f hf hc_4
            refine lv_iconst (v := (-1)) hx hb dX10_pact_39 (by decide) ?_
            exact rt_iX hx hb hr hf hM hS dX10_pact_40 hlocks
theorem k_X10_pact {p : Program} {l : Launch} {e : Env} {R : Room} {s : State} {m : MethodId} {args : Array Value} {below : List Frame} {meth : Method} {c : Code} {H : Heap} {locs : List Loc} {cells slots : Nat} {Q : State → Prop} {cc : ByteArray} {pc nL : Nat} {ls : Array Slot} {rest : List Value} {G : GG} {fu nw : Nat} {x x' mo : Me} {own : String} {index : Nat} {a1 : Int32} {a2 : Int32} {a3 : Int32} {r : Int32} (hx : p.tables.exec = Jvm.exec) (hb : c.code = cc) (hml : c.maxLocals = nL) (hown : s.vm.findClass own = some m.cls) (hE : EnvP G s) (hM : MemP G nw x mo H) (hS : va_S (gA G) s.heap H locs) (hw : Cond.methodLink own index yX10_pact ∈ lw_tbl) (hf : f_X10_pact fu nw x a1 a2 a3 = some (x', r)) (h1 : 1 + 1 ≤ R.frames) (h2 : 8 + (4 + 11) + 23 ≤ R.locals) (hsz : ls.size = nL) (hW : (rest.map fun v => v.category).sum ≤ 8) (hcs : cells ≤ R.cells ∧ slots ≤ R.slots) (hdg : decode cc pc = .ok (.invokevirtual index, 3)) (kk : ∀ (H1 : Heap) (locs1 : List Loc), MemP G nw x' mo H1 → va_S (gA G) s.heap H1 locs1 → W p l e R s m args below meth c H1 locs1 cells slots Q (F0 m (pc + 3) ls (.int r :: rest))) : W p l e R s m args below meth c H locs cells slots Q (F0 m pc ls (.int a3 :: .int a2 :: .int a1 :: .ref (ga G 0) :: rest)) := mm_ki hS (mm_runV (n := 3) (o := 0) (C := RX10) (T := TX10) (N := 10) (ci := 10) (As := [.int a1, .int a2, .int a3]) hx hb hml hown hE hM hS (c_X10_pact l fu nw G x x' mo a1 a2 a3 _ hf) (List.forall_mem_cons.mpr ⟨⟨hw, rfl⟩, List.forall_mem_cons.mpr ⟨⟨w_4_70, rfl⟩, List.forall_mem_cons.mpr ⟨⟨w_4_71, rfl⟩, List.forall_mem_cons.mpr ⟨⟨w_1_1, rfl⟩, List.forall_mem_cons.mpr ⟨⟨w_4_72, rfl⟩, fun _ h => absurd h List.not_mem_nil⟩⟩⟩⟩⟩) rfl rfl ⟨rfl, by decide, by decide, by decide +kernel⟩ ⟨h1, h2⟩ rfl rfl rfl hsz rfl hW hdg hcs) kk
def f_X10_punish (fu nw : Nat) (x : Me) (a1 : Int32) : Option (Me × Int32) := ob (f_X8_find fu nw x a1) (fun x_1 r_1 => om r_1 (if (x_1 2 0) = 5 then some (x_1, (-2)) else some (x_1, (-2))) (fun m_1 => if m_1 < nw then if (x_1 2 0) = 5 then if (x_1 50 m_1) = 0 then some (x_1, (-2)) else ob (f_X6_inForce fu nw x_1 4 (x_1 1 0)) (fun x_3 r_3 => if r_3 ≤ 0 then some (x_3, x_3 53 m_1) else some ((mu x_3 53 m_1 (if (x_3 53 m_1) < ((x_3 1 0) + r_3) then ((x_3 1 0) + r_3) else (x_3 53 m_1))), (mu x_3 53 m_1 (if (x_3 53 m_1) < ((x_3 1 0) + r_3) then ((x_3 1 0) + r_3) else (x_3 53 m_1))) 53 m_1)) else some (x_1, (-2)) else none))
def rm_X10_punish : Room := { frames := 2, cells := 0, slots := 0, locals := 42 }
set_option maxHeartbeats 4000000 in
set_option maxRecDepth 100000 in
theorem c_X10_punish (l : Launch) (fu nw : Nat) (G : GG) (x x' mo : Me) (a1 : Int32) (r : Int32) (hf : f_X10_punish fu nw x a1 = some (x', r)) : Met l yX10_punish [.code yX10_punish cX10_punish 4 (some .int)] rm_X10_punish (va_Pc [.ref (ga G 0), .int a1] (Pre G nw x mo)) (PI G nw x' mo r) 0 0 (gA G) := by
  refine mt_ofW (cc := cX10_punish) (maxL := 4) (ret := (some .int)) (by decide +kernel) rfl ?_
  intro p e s m args below meth c s₁ B hml hv
  obtain ⟨rfl, hE, hM⟩ := hv
  have hx := B.exec
  have hb := B.bytes
  have hr := B.returns
  have hown : s.vm.findClass RX10 = some m.cls := findClass_of_methodNamed B.named
  have hlocks := B.notSynchronized
  have hS : va_S (gA G) s.heap s.heap [] := va_S.rf
  have hl := lv_entry ([.ref (ga G 0), .int a1]) (n := 4) (Nat.le_of_ble_eq_true rfl)
  rw [lg_entry_eq]
  generalize (lg_sl ([.ref (ga G 0), .int a1]) ++ List.replicate (4 - (lg_sl ([.ref (ga G 0), .int a1])).length) Slot.unset).toArray = ls at hl ⊢
  have hl : lv_has ls 4 [(0, .ref (ga G 0)), (1, .int a1)] := hl
  generalize ([.ref (ga G 0), .int a1] : List Value).toArray = args
  unfold f_X10_punish at hf
  refine lv_aload_n hx hb dX10_punish_0 rfl (lv_at hl 0 rfl) ?_
  refine gr_7 hx hb hE hM hown w_2_43 dX10_punish_1 ?_
  refine lv_iload_n hx hb dX10_punish_4 rfl (lv_at hl 1 rfl) ?_
  obtain ⟨x_1, r_1, hq_1, hf⟩ := ob_some hf
  refine k_X8_find hx hb hml hown hE hM hS w_3_140 hq_1 (Nat.le_of_ble_eq_true rfl) (Nat.le_of_ble_eq_true rfl) hl.1 (Nat.le_of_ble_eq_true rfl) ⟨Nat.zero_le _, Nat.zero_le _⟩ dX10_punish_5 (fun h_1 H locs hM hS => ?_) (fun m_1 h_1 H locs hM hS => ?_)
  · subst h_1
    replace hf := om_n hf
    refine lv_astore_nN (lv' := [(2, .null), (0, .ref (ga G 0)), (1, .int a1)]) hx hb dX10_punish_8 rfl hl (by decide) rfl (fun ls hl => ?_)
    refine lv_aload_n hx hb dX10_punish_9 rfl (lv_at hl 1 rfl) ?_
    refine gf_2 hx hb hE hM hown w_2_50 dX10_punish_10 ?_
    refine lv_iconst (v := 5) hx hb dX10_punish_13 (by decide) ?_
    refine lv_icmp_ne (tgt := 28) hx hb dX10_punish_14 (by decide) (fun hc_2 => ?_) (fun hc_2 => ?_)
    · replace hf := i_f hf hc_2
      refine lv_bipush (v := (-2)) hx hb dX10_punish_28 (by decide) ?_
      exact rt_iX hx hb hr hf hM hS dX10_punish_30 hlocks
    · replace hf := i_t hf hc_2
      refine lv_aload_nN hx hb dX10_punish_17 rfl (lv_at hl 0 rfl) ?_
      refine lv_ifnullN (tgt := 28) hx hb dX10_punish_18 (by decide) ?_
      refine lv_bipush (v := (-2)) hx hb dX10_punish_28 (by decide) ?_
      exact rt_iX hx hb hr hf hM hS dX10_punish_30 hlocks
  · subst h_1
    replace hf := om_s hf
    obtain ⟨hm_1, hf⟩ := i_n hf
    refine lv_astore_n (lv' := [(2, .ref (ga G (69 + m_1))), (0, .ref (ga G 0)), (1, .int a1)]) hx hb dX10_punish_8 rfl hl (by decide) rfl (fun ls hl => ?_)
    refine lv_aload_n hx hb dX10_punish_9 rfl (lv_at hl 1 rfl) ?_
    refine gf_2 hx hb hE hM hown w_2_50 dX10_punish_10 ?_
    refine lv_iconst (v := 5) hx hb dX10_punish_13 (by decide) ?_
    refine lv_icmp_ne (tgt := 28) hx hb dX10_punish_14 (by decide) (fun hc_6 => ?_) (fun hc_6 => ?_)
    · replace hf := i_f hf hc_6
      refine lv_bipush (v := (-2)) hx hb dX10_punish_28 (by decide) ?_
      exact rt_iX hx hb hr hf hM hS dX10_punish_30 hlocks
    · replace hf := i_t hf hc_6
      refine lv_aload_n hx hb dX10_punish_17 rfl (lv_at hl 0 rfl) ?_
      refine lv_ifnull hx hb dX10_punish_18 ?_
      refine lv_aload_n hx hb dX10_punish_21 rfl (lv_at hl 0 rfl) ?_
      refine gf_50N hm_1 hx hb hE hM hown w_2_230 dX10_punish_22 ?_
      refine lv_if_ne (tgt := 31) hx hb dX10_punish_25 (by decide) (fun hc_5 => ?_) (fun hc_5 => ?_)
      · replace hf := i_f hf hc_5
        refine lv_aload_n hx hb dX10_punish_31 rfl (lv_at hl 1 rfl) ?_
        refine gr_4 hx hb hE hM hown w_2_42 dX10_punish_32 ?_
        refine lv_iconst (v := 4) hx hb dX10_punish_35 (by decide) ?_
        refine lv_aload_n hx hb dX10_punish_36 rfl (lv_at hl 1 rfl) ?_
        refine gf_1 hx hb hE hM hown w_2_49 dX10_punish_37 ?_
        obtain ⟨x_3, r_3, hq_3, hf⟩ := ob_some hf
        refine k_X6_inForce hx hb hml hown hE hM hS w_2_209 hq_3 (Nat.le_of_ble_eq_true rfl) (Nat.le_of_ble_eq_true rfl) hl.1 (Nat.le_of_ble_eq_true rfl) ⟨Nat.zero_le _, Nat.zero_le _⟩ dX10_punish_40 (fun H locs hM hS => ?_)
        refine lv_istore_n (lv' := [(3, .int r_3), (2, .ref (ga G (69 + m_1))), (0, .ref (ga G 0)), (1, .int a1)]) hx hb dX10_punish_43 rfl hl (by decide) rfl (fun ls hl => ?_)
        refine lv_iload_n hx hb dX10_punish_44 rfl (lv_at hl 0 rfl) ?_
        refine lv_if_le (tgt := 65) hx hb dX10_punish_45 (by decide) (fun hc_4 => ?_) (fun hc_4 => ?_)
        · replace hf := i_t hf hc_4
          refine lv_aload_n hx hb dX10_punish_65 rfl (lv_at hl 1 rfl) ?_
          refine gf_53N hm_1 hx hb hE hM hown w_2_239 dX10_punish_66 ?_
          exact rt_iX hx hb hr hf hM hS dX10_punish_69 hlocks
        · replace hf := i_f hf hc_4
          refine lv_aload_n hx hb dX10_punish_48 rfl (lv_at hl 1 rfl) ?_
          refine lv_aload_n hx hb dX10_punish_49 rfl (lv_at hl 1 rfl) ?_
          refine gf_53N hm_1 hx hb hE hM hown w_2_239 dX10_punish_50 ?_
          refine lv_aload_n hx hb dX10_punish_53 rfl (lv_at hl 2 rfl) ?_
          refine gf_1 hx hb hE hM hown w_2_49 dX10_punish_54 ?_
          refine lv_iload_n hx hb dX10_punish_57 rfl (lv_at hl 0 rfl) ?_
          refine lv_iadd hx hb dX10_punish_58 ?_
          refine va_mmax hx hb (by rw [hml]; exact hl.1.symm) hown (ew hE w_4_81 rfl) (ew hE w_2_184 rfl) (ew hE w_1_12 rfl) (ew hE w_2_185 rfl) (Nat.le_of_ble_eq_true rfl) (Nat.le_of_ble_eq_true rfl) (Nat.zero_le _) (Nat.zero_le _) dX10_punish_59 ?_
          refine pf_53N hm_1 hx hb hE hM hS hown w_2_239 dX10_punish_62 (fun H locs hM hS => ?_)
          refine lv_aload_n hx hb dX10_punish_65 rfl (lv_at hl 1 rfl) ?_
          refine gf_53N hm_1 hx hb hE hM hown w_2_239 dX10_punish_66 ?_
          exact rt_iX hx hb hr hf hM hS dX10_punish_69 hlocks
      · replace hf := i_t hf hc_5
        refine lv_bipush (v := (-2)) hx hb dX10_punish_28 (by decide) ?_
        exact rt_iX hx hb hr hf hM hS dX10_punish_30 hlocks
theorem k_X10_punish {p : Program} {l : Launch} {e : Env} {R : Room} {s : State} {m : MethodId} {args : Array Value} {below : List Frame} {meth : Method} {c : Code} {H : Heap} {locs : List Loc} {cells slots : Nat} {Q : State → Prop} {cc : ByteArray} {pc nL : Nat} {ls : Array Slot} {rest : List Value} {G : GG} {fu nw : Nat} {x x' mo : Me} {own : String} {index : Nat} {a1 : Int32} {r : Int32} (hx : p.tables.exec = Jvm.exec) (hb : c.code = cc) (hml : c.maxLocals = nL) (hown : s.vm.findClass own = some m.cls) (hE : EnvP G s) (hM : MemP G nw x mo H) (hS : va_S (gA G) s.heap H locs) (hw : Cond.methodLink own index yX10_punish ∈ lw_tbl) (hf : f_X10_punish fu nw x a1 = some (x', r)) (h1 : 2 + 1 ≤ R.frames) (h2 : 8 + (4 + 11) + 42 ≤ R.locals) (hsz : ls.size = nL) (hW : (rest.map fun v => v.category).sum ≤ 8) (hcs : cells ≤ R.cells ∧ slots ≤ R.slots) (hdg : decode cc pc = .ok (.invokevirtual index, 3)) (kk : ∀ (H1 : Heap) (locs1 : List Loc), MemP G nw x' mo H1 → va_S (gA G) s.heap H1 locs1 → W p l e R s m args below meth c H1 locs1 cells slots Q (F0 m (pc + 3) ls (.int r :: rest))) : W p l e R s m args below meth c H locs cells slots Q (F0 m pc ls (.int a1 :: .ref (ga G 0) :: rest)) := mm_ki hS (mm_runV (n := 1) (o := 0) (C := RX10) (T := TX10) (N := 10) (ci := 10) (As := [.int a1]) hx hb hml hown hE hM hS (c_X10_punish l fu nw G x x' mo a1 _ hf) (List.forall_mem_cons.mpr ⟨⟨hw, rfl⟩, List.forall_mem_cons.mpr ⟨⟨w_4_78, rfl⟩, List.forall_mem_cons.mpr ⟨⟨w_4_79, rfl⟩, List.forall_mem_cons.mpr ⟨⟨w_1_1, rfl⟩, List.forall_mem_cons.mpr ⟨⟨w_4_80, rfl⟩, fun _ h => absurd h List.not_mem_nil⟩⟩⟩⟩⟩) rfl rfl ⟨rfl, by decide, by decide, by decide +kernel⟩ ⟨h1, h2⟩ rfl rfl rfl hsz rfl hW hdg hcs) kk
def f_X10_next (fu nw : Nat) (x : Me) : Option (Me × Int32) := if (x 2 0) = 4 then some (x, (-1)) else if (x 1 0) < 99 then ob (f_X8_forgetYear fu nw (mu (mu x 1 0 ((x 1 0) + 1)) 2 0 0)) (fun x_1 _ => some (x_1, x_1 1 0)) else some (x, (-1))
def rm_X10_next : Room := { frames := 1, cells := 0, slots := 0, locals := 21 }
set_option maxHeartbeats 4000000 in
set_option maxRecDepth 100000 in
theorem c_X10_next (l : Launch) (fu nw : Nat) (G : GG) (x x' mo : Me) (r : Int32) (hf : f_X10_next fu nw x = some (x', r)) : Met l yX10_next [.code yX10_next cX10_next 1 (some .int)] rm_X10_next (va_Pc [.ref (ga G 0)] (Pre G nw x mo)) (PI G nw x' mo r) 0 0 (gA G) := by
  refine mt_ofW (cc := cX10_next) (maxL := 1) (ret := (some .int)) (by decide +kernel) rfl ?_
  intro p e s m args below meth c s₁ B hml hv
  obtain ⟨rfl, hE, hM⟩ := hv
  have hx := B.exec
  have hb := B.bytes
  have hr := B.returns
  have hown : s.vm.findClass RX10 = some m.cls := findClass_of_methodNamed B.named
  have hlocks := B.notSynchronized
  have hS : va_S (gA G) s.heap s.heap [] := va_S.rf
  have hl := lv_entry ([.ref (ga G 0)]) (n := 1) (Nat.le_of_ble_eq_true rfl)
  rw [lg_entry_eq]
  generalize (lg_sl ([.ref (ga G 0)]) ++ List.replicate (1 - (lg_sl ([.ref (ga G 0)])).length) Slot.unset).toArray = ls at hl ⊢
  have hl : lv_has ls 1 [(0, .ref (ga G 0))] := hl
  generalize ([.ref (ga G 0)] : List Value).toArray = args
  unfold f_X10_next at hf
  refine lv_aload_n hx hb dX10_next_0 rfl (lv_at hl 0 rfl) ?_
  refine gf_2 hx hb hE hM hown w_2_50 dX10_next_1 ?_
  refine lv_iconst (v := 4) hx hb dX10_next_4 (by decide) ?_
  refine lv_icmp_eq (tgt := 17) hx hb dX10_next_5 (by decide) (fun hc_3 => ?_) (fun hc_3 => ?_)
  · replace hf := i_t hf hc_3
    refine lv_iconst (v := (-1)) hx hb dX10_next_17 (by decide) ?_
    exact rt_iX hx hb hr hf hM hS dX10_next_18 hlocks
  · replace hf := i_f hf hc_3
    refine lv_aload_n hx hb dX10_next_8 rfl (lv_at hl 0 rfl) ?_
    refine gf_1 hx hb hE hM hown w_2_49 dX10_next_9 ?_
    refine lv_bipush (v := 99) hx hb dX10_next_12 (by decide) ?_
    refine lv_icmp_lt (tgt := 19) hx hb dX10_next_14 (by decide) (fun hc_2 => ?_) (fun hc_2 => ?_)
    · replace hf := i_t hf hc_2
      refine lv_aload_n hx hb dX10_next_19 rfl (lv_at hl 0 rfl) ?_
      refine lv_dup hx hb dX10_next_20 rfl ?_
      refine gf_1 hx hb hE hM hown w_2_49 dX10_next_21 ?_
      refine lv_iconst (v := 1) hx hb dX10_next_24 (by decide) ?_
      refine lv_iadd hx hb dX10_next_25 ?_
      refine pf_1 hx hb hE hM hS hown w_2_49 dX10_next_26 (fun H locs hM hS => ?_)
      refine lv_aload_n hx hb dX10_next_29 rfl (lv_at hl 0 rfl) ?_
      refine lv_iconst (v := 0) hx hb dX10_next_30 (by decide) ?_
      refine pf_2 hx hb hE hM hS hown w_2_50 dX10_next_31 (fun H locs hM hS => ?_)
      refine lv_aload_n hx hb dX10_next_34 rfl (lv_at hl 0 rfl) ?_
      refine gr_7 hx hb hE hM hown w_2_43 dX10_next_35 ?_
      obtain ⟨x_1, r_1, hq_1, hf⟩ := ob_some hf
      refine k_X8_forgetYear hx hb hml hown hE hM hS w_4_86 hq_1 (Nat.le_of_ble_eq_true rfl) (Nat.le_of_ble_eq_true rfl) hl.1 (Nat.le_of_ble_eq_true rfl) ⟨Nat.zero_le _, Nat.zero_le _⟩ dX10_next_38 (fun H locs hM hS => ?_)
      refine lv_aload_n hx hb dX10_next_41 rfl (lv_at hl 0 rfl) ?_
      refine gf_1 hx hb hE hM hown w_2_49 dX10_next_42 ?_
      exact rt_iX hx hb hr hf hM hS dX10_next_45 hlocks
    · replace hf := i_f hf hc_2
      refine lv_iconst (v := (-1)) hx hb dX10_next_17 (by decide) ?_
      exact rt_iX hx hb hr hf hM hS dX10_next_18 hlocks
theorem k_X10_next {p : Program} {l : Launch} {e : Env} {R : Room} {s : State} {m : MethodId} {args : Array Value} {below : List Frame} {meth : Method} {c : Code} {H : Heap} {locs : List Loc} {cells slots : Nat} {Q : State → Prop} {cc : ByteArray} {pc nL : Nat} {ls : Array Slot} {rest : List Value} {G : GG} {fu nw : Nat} {x x' mo : Me} {own : String} {index : Nat} {r : Int32} (hx : p.tables.exec = Jvm.exec) (hb : c.code = cc) (hml : c.maxLocals = nL) (hown : s.vm.findClass own = some m.cls) (hE : EnvP G s) (hM : MemP G nw x mo H) (hS : va_S (gA G) s.heap H locs) (hw : Cond.methodLink own index yX10_next ∈ lw_tbl) (hf : f_X10_next fu nw x = some (x', r)) (h1 : 1 + 1 ≤ R.frames) (h2 : 8 + (1 + 11) + 21 ≤ R.locals) (hsz : ls.size = nL) (hW : (rest.map fun v => v.category).sum ≤ 8) (hcs : cells ≤ R.cells ∧ slots ≤ R.slots) (hdg : decode cc pc = .ok (.invokevirtual index, 3)) (kk : ∀ (H1 : Heap) (locs1 : List Loc), MemP G nw x' mo H1 → va_S (gA G) s.heap H1 locs1 → W p l e R s m args below meth c H1 locs1 cells slots Q (F0 m (pc + 3) ls (.int r :: rest))) : W p l e R s m args below meth c H locs cells slots Q (F0 m pc ls (.ref (ga G 0) :: rest)) := mm_ki hS (mm_runV (n := 0) (o := 0) (C := RX10) (T := TX10) (N := 10) (ci := 10) (As := []) hx hb hml hown hE hM hS (c_X10_next l fu nw G x x' mo _ hf) (List.forall_mem_cons.mpr ⟨⟨hw, rfl⟩, List.forall_mem_cons.mpr ⟨⟨w_4_83, rfl⟩, List.forall_mem_cons.mpr ⟨⟨w_4_84, rfl⟩, List.forall_mem_cons.mpr ⟨⟨w_1_1, rfl⟩, List.forall_mem_cons.mpr ⟨⟨w_4_85, rfl⟩, fun _ h => absurd h List.not_mem_nil⟩⟩⟩⟩⟩) rfl rfl ⟨rfl, by decide, by decide, by decide +kernel⟩ ⟨h1, h2⟩ rfl rfl rfl hsz rfl hW hdg hcs) kk
def f_X10_count (fu nw : Nat) (x : Me) (a1 : Int32) : Option (Me × Int32) := if a1 = 0 then some (x, x 1 0) else if a1 = 1 then some (x, x 2 0) else if a1 = 2 then if (x 2 0) < 4 then some (x, 0) else some (x, x 34 0) else if a1 = 3 then some (x, x 13 0) else if a1 = 4 then some (x, x 15 0) else if a1 = 5 then some (x, x 45 0) else if a1 = 6 then some (x, x 10 0) else if a1 = 7 then some (x, x 25 0) else some (x, (-1))
def rm_X10_count : Room := { frames := 0, cells := 0, slots := 0, locals := 0 }
set_option maxHeartbeats 4000000 in
set_option maxRecDepth 100000 in
theorem c_X10_count (l : Launch) (fu nw : Nat) (G : GG) (x x' mo : Me) (a1 : Int32) (r : Int32) (hf : f_X10_count fu nw x a1 = some (x', r)) : Met l yX10_count [.code yX10_count cX10_count 2 (some .int)] rm_X10_count (va_Pc [.ref (ga G 0), .int a1] (Pre G nw x mo)) (PI G nw x' mo r) 0 0 (gA G) := by
  refine mt_ofW (cc := cX10_count) (maxL := 2) (ret := (some .int)) (by decide +kernel) rfl ?_
  intro p e s m args below meth c s₁ B hml hv
  obtain ⟨rfl, hE, hM⟩ := hv
  have hx := B.exec
  have hb := B.bytes
  have hr := B.returns
  have hown : s.vm.findClass RX10 = some m.cls := findClass_of_methodNamed B.named
  have hlocks := B.notSynchronized
  have hS : va_S (gA G) s.heap s.heap [] := va_S.rf
  have hl := lv_entry ([.ref (ga G 0), .int a1]) (n := 2) (Nat.le_of_ble_eq_true rfl)
  rw [lg_entry_eq]
  generalize (lg_sl ([.ref (ga G 0), .int a1]) ++ List.replicate (2 - (lg_sl ([.ref (ga G 0), .int a1])).length) Slot.unset).toArray = ls at hl ⊢
  have hl : lv_has ls 2 [(0, .ref (ga G 0)), (1, .int a1)] := hl
  generalize ([.ref (ga G 0), .int a1] : List Value).toArray = args
  unfold f_X10_count at hf
  refine lv_iload_n hx hb dX10_count_0 rfl (lv_at hl 1 rfl) ?_
  by_cases hc_1 : a1 = 0
  · replace hf := i_t hf hc_1
    refine lv_tabK (k := 0) (tgt := 48) hx hb dX10_count_1 hc_1 (by decide) (by decide) rfl (by decide) ?_
    refine lv_aload_n hx hb dX10_count_48 rfl (lv_at hl 0 rfl) ?_
    refine gf_1 hx hb hE hM hown w_2_49 dX10_count_49 ?_
    exact rt_iX hx hb hr hf hM hS dX10_count_52 hlocks
  replace hf := i_f hf hc_1
  by_cases hc_2 : a1 = 1
  · replace hf := i_t hf hc_2
    refine lv_tabK (k := 1) (tgt := 53) hx hb dX10_count_1 hc_2 (by decide) (by decide) rfl (by decide) ?_
    refine lv_aload_n hx hb dX10_count_53 rfl (lv_at hl 0 rfl) ?_
    refine gf_2 hx hb hE hM hown w_2_50 dX10_count_54 ?_
    exact rt_iX hx hb hr hf hM hS dX10_count_57 hlocks
  replace hf := i_f hf hc_2
  by_cases hc_3 : a1 = 2
  · replace hf := i_t hf hc_3
    refine lv_tabK (k := 2) (tgt := 58) hx hb dX10_count_1 hc_3 (by decide) (by decide) rfl (by decide) ?_
    refine lv_aload_n hx hb dX10_count_58 rfl (lv_at hl 0 rfl) ?_
    refine gf_2 hx hb hE hM hown w_2_50 dX10_count_59 ?_
    refine lv_iconst (v := 4) hx hb dX10_count_62 (by decide) ?_
    refine lv_icmp_lt (tgt := 76) hx hb dX10_count_63 (by decide) (fun hc_4 => ?_) (fun hc_4 => ?_)
    · replace hf := i_t hf hc_4
      refine lv_iconst (v := 0) hx hb dX10_count_76 (by decide) ?_
      exact rt_iX hx hb hr hf hM hS dX10_count_77 hlocks
    · replace hf := i_f hf hc_4
      refine lv_aload_n hx hb dX10_count_66 rfl (lv_at hl 0 rfl) ?_
      refine gr_19 hx hb hE hM hown w_2_46 dX10_count_67 ?_
      refine gf_34N hx hb hE hM hown w_1_226 dX10_count_70 ?_
      refine lv_goto (tgt := 77) hx hb dX10_count_73 (by decide) ?_
      exact rt_iX hx hb hr hf hM hS dX10_count_77 hlocks
  replace hf := i_f hf hc_3
  by_cases hc_5 : a1 = 3
  · replace hf := i_t hf hc_5
    refine lv_tabK (k := 3) (tgt := 78) hx hb dX10_count_1 hc_5 (by decide) (by decide) rfl (by decide) ?_
    refine lv_aload_n hx hb dX10_count_78 rfl (lv_at hl 0 rfl) ?_
    refine gr_7 hx hb hE hM hown w_2_43 dX10_count_79 ?_
    refine gf_13N hx hb hE hM hown w_1_89 dX10_count_82 ?_
    exact rt_iX hx hb hr hf hM hS dX10_count_85 hlocks
  replace hf := i_f hf hc_5
  by_cases hc_6 : a1 = 4
  · replace hf := i_t hf hc_6
    refine lv_tabK (k := 4) (tgt := 86) hx hb dX10_count_1 hc_6 (by decide) (by decide) rfl (by decide) ?_
    refine lv_aload_n hx hb dX10_count_86 rfl (lv_at hl 0 rfl) ?_
    refine gr_9 hx hb hE hM hown w_2_44 dX10_count_87 ?_
    refine gf_15N hx hb hE hM hown w_1_103 dX10_count_90 ?_
    exact rt_iX hx hb hr hf hM hS dX10_count_93 hlocks
  replace hf := i_f hf hc_6
  by_cases hc_7 : a1 = 5
  · replace hf := i_t hf hc_7
    refine lv_tabK (k := 5) (tgt := 94) hx hb dX10_count_1 hc_7 (by decide) (by decide) rfl (by decide) ?_
    refine lv_aload_n hx hb dX10_count_94 rfl (lv_at hl 0 rfl) ?_
    refine gr_36 hx hb hE hM hown w_2_47 dX10_count_95 ?_
    refine gf_45N hx hb hE hM hown w_2_26 dX10_count_98 ?_
    exact rt_iX hx hb hr hf hM hS dX10_count_101 hlocks
  replace hf := i_f hf hc_7
  by_cases hc_8 : a1 = 6
  · replace hf := i_t hf hc_8
    refine lv_tabK (k := 6) (tgt := 102) hx hb dX10_count_1 hc_8 (by decide) (by decide) rfl (by decide) ?_
    refine lv_aload_n hx hb dX10_count_102 rfl (lv_at hl 0 rfl) ?_
    refine gr_4 hx hb hE hM hown w_2_42 dX10_count_103 ?_
    refine gf_10N hx hb hE hM hown w_1_69 dX10_count_106 ?_
    exact rt_iX hx hb hr hf hM hS dX10_count_109 hlocks
  replace hf := i_f hf hc_8
  by_cases hc_9 : a1 = 7
  · replace hf := i_t hf hc_9
    refine lv_tabK (k := 7) (tgt := 110) hx hb dX10_count_1 hc_9 (by decide) (by decide) rfl (by decide) ?_
    refine lv_aload_n hx hb dX10_count_110 rfl (lv_at hl 0 rfl) ?_
    refine gr_19 hx hb hE hM hown w_2_46 dX10_count_111 ?_
    refine gf_25N hx hb hE hM hown w_1_211 dX10_count_114 ?_
    exact rt_iX hx hb hr hf hM hS dX10_count_117 hlocks
  replace hf := i_f hf hc_9
  refine lv_tableOut (tgt := 118) hx hb dX10_count_1 (by have q0 := lv_neT (a := 0) hc_1 rfl; have q1 := lv_neT (a := 1) hc_2 rfl; have q2 := lv_neT (a := 2) hc_3 rfl; have q3 := lv_neT (a := 3) hc_5 rfl; have q4 := lv_neT (a := 4) hc_6 rfl; have q5 := lv_neT (a := 5) hc_7 rfl; have q6 := lv_neT (a := 6) hc_8 rfl; have q7 := lv_neT (a := 7) hc_9 rfl; omega) (by decide) ?_
  refine lv_iconst (v := (-1)) hx hb dX10_count_118 (by decide) ?_
  exact rt_iX hx hb hr hf hM hS dX10_count_119 hlocks
theorem k_X10_count {p : Program} {l : Launch} {e : Env} {R : Room} {s : State} {m : MethodId} {args : Array Value} {below : List Frame} {meth : Method} {c : Code} {H : Heap} {locs : List Loc} {cells slots : Nat} {Q : State → Prop} {cc : ByteArray} {pc nL : Nat} {ls : Array Slot} {rest : List Value} {G : GG} {fu nw : Nat} {x x' mo : Me} {own : String} {index : Nat} {a1 : Int32} {r : Int32} (hx : p.tables.exec = Jvm.exec) (hb : c.code = cc) (hml : c.maxLocals = nL) (hown : s.vm.findClass own = some m.cls) (hE : EnvP G s) (hM : MemP G nw x mo H) (hS : va_S (gA G) s.heap H locs) (hw : Cond.methodLink own index yX10_count ∈ lw_tbl) (hf : f_X10_count fu nw x a1 = some (x', r)) (h1 : 0 + 1 ≤ R.frames) (h2 : 8 + (2 + 11) + 0 ≤ R.locals) (hsz : ls.size = nL) (hW : (rest.map fun v => v.category).sum ≤ 8) (hcs : cells ≤ R.cells ∧ slots ≤ R.slots) (hdg : decode cc pc = .ok (.invokevirtual index, 3)) (kk : ∀ (H1 : Heap) (locs1 : List Loc), MemP G nw x' mo H1 → va_S (gA G) s.heap H1 locs1 → W p l e R s m args below meth c H1 locs1 cells slots Q (F0 m (pc + 3) ls (.int r :: rest))) : W p l e R s m args below meth c H locs cells slots Q (F0 m pc ls (.int a1 :: .ref (ga G 0) :: rest)) := mm_ki hS (mm_runV (n := 1) (o := 0) (C := RX10) (T := TX10) (N := 10) (ci := 10) (As := [.int a1]) hx hb hml hown hE hM hS (c_X10_count l fu nw G x x' mo a1 _ hf) (List.forall_mem_cons.mpr ⟨⟨hw, rfl⟩, List.forall_mem_cons.mpr ⟨⟨w_4_91, rfl⟩, List.forall_mem_cons.mpr ⟨⟨w_4_92, rfl⟩, List.forall_mem_cons.mpr ⟨⟨w_1_1, rfl⟩, List.forall_mem_cons.mpr ⟨⟨w_4_93, rfl⟩, fun _ h => absurd h List.not_mem_nil⟩⟩⟩⟩⟩) rfl rfl ⟨rfl, by decide, by decide, by decide +kernel⟩ ⟨h1, h2⟩ rfl rfl rfl hsz rfl hW hdg hcs) kk
