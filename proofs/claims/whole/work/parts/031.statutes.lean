def f_X6_inForce_12 (fu nw : Nat) (b1 : Int32) (b2 : Int32) (k : Me → Int32 → Option (Me × Int32)) : Nat → Me → Int32 → Int32 → Int32 → Option (Me × Int32)
  | 0 => fun _ _ _ _ => none
  | n + 1 => fun x a3 a4 a5 => if (x 10 0) ≤ a5 then k x a4 else if inb ((a5 * 7) + b1) 70 = true then if (x 12 (((a5 * 7) + b1).toNatClampNeg)) = (-1) then f_X6_inForce_12 fu nw b1 b2 k n x a3 a4 (a5 + 1) else if inb a5 10 = true then if b2 < (x 11 a5.toNatClampNeg) then f_X6_inForce_12 fu nw b1 b2 k n x a3 a4 (a5 + 1) else if (x 11 a5.toNatClampNeg) < a3 then f_X6_inForce_12 fu nw b1 b2 k n x a3 a4 (a5 + 1) else f_X6_inForce_12 fu nw b1 b2 k n x (x 11 a5.toNatClampNeg) (x 12 (((a5 * 7) + b1).toNatClampNeg)) (a5 + 1) else none else none
def f_X6_inForce (fu nw : Nat) (x : Me) (a1 : Int32) (a2 : Int32) : Option (Me × Int32) := if inb a1 7 = true then f_X6_inForce_12 fu nw a1 a2 (fun (x_8 : Me) (a4_8 : Int32) => some (x_8, a4_8)) fu x (-1) ((tS 2).getD a1.toNatClampNeg 0) 0 else none
def rm_X6_inForce : Room := { frames := 0, cells := 0, slots := 0, locals := 0 }
set_option maxHeartbeats 4000000 in
set_option maxRecDepth 100000 in
theorem wk_X6_inForce_12 {p : Program} {l : Launch} {e : Env} {s : State} {m : MethodId} {args : Array Value} {below : List Frame} {meth : Method} {c : Code} {fu nw : Nat} {G : GG} {mo : Me} {b1 : Int32} {b2 : Int32} (hx : p.tables.exec = Jvm.exec) (hb : c.code = cX6_inForce) (hml : c.maxLocals = 7) (hown : s.vm.findClass RX6 = some m.cls) (hE : EnvP G s) (hr : meth.sig.returnType = (some .int)) (hlocks : meth.locks = false) {x' : Me} {r : Int32} {k : Me → Int32 → Option (Me × Int32)} (hk : ∀ (x : Me) (a4 : Int32) (H : Heap) (locs : List Loc) (ls : Array Slot), k x a4 = some (x', r) → MemP G nw x mo H → va_S (gA G) s.heap H locs → lv_has ls 7 [(4, .int a4)] → W p l e rm_X6_inForce s m args below meth c H locs 0 0 (MQ below (PI G nw x' mo r) args s 0 0 (gA G)) (F0 m 81 ls [])) : ∀ (n : Nat) (x : Me) (a3 : Int32) (a4 : Int32) (a5 : Int32) (H : Heap) (locs : List Loc) (ls : Array Slot), f_X6_inForce_12 fu nw b1 b2 k n x a3 a4 a5 = some (x', r) → MemP G nw x mo H → va_S (gA G) s.heap H locs → lv_has ls 7 [(0, .ref (ga G 4)), (1, .int b1), (2, .int b2), (3, .int a3), (4, .int a4), (5, .int a5)] → W p l e rm_X6_inForce s m args below meth c H locs 0 0 (MQ below (PI G nw x' mo r) args s 0 0 (gA G)) (F0 m 12 ls []) := by
  intro n
  induction n with
  | zero =>
    intro x a3 a4 a5 H locs ls hf hM hS hl
    exact nn hf
  | succ n ih =>
    intro x a3 a4 a5 H locs ls hf hM hS hl
    rw [f_X6_inForce_12] at hf
    refine lv_iload hx hb dX6_inForce_12 (lv_at hl 5 rfl) ?_
    refine lv_aload_n hx hb dX6_inForce_14 rfl (lv_at hl 0 rfl) ?_
    refine gf_10 hx hb hE hM hown w_1_68 dX6_inForce_15 ?_
    refine lv_icmp_ge (tgt := 81) hx hb dX6_inForce_18 (by decide) (fun hc_7 => ?_) (fun hc_7 => ?_)
    · replace hf := i_t hf hc_7
      exact hk x a4 _ _ _ hf hM hS (lv_sub hl [4] rfl)
    · replace hf := i_f hf hc_7
      refine lv_aload_n hx hb dX6_inForce_21 rfl (lv_at hl 0 rfl) ?_
      refine gr_6 hx hb hE hM hown w_1_71 dX6_inForce_22 ?_
      refine lv_iload hx hb dX6_inForce_25 (lv_at hl 5 rfl) ?_
      refine lv_bipush (v := 7) hx hb dX6_inForce_27 (by decide) ?_
      refine lv_imul hx hb dX6_inForce_29 ?_
      refine lv_iload_n hx hb dX6_inForce_30 rfl (lv_at hl 1 rfl) ?_
      refine lv_iadd hx hb dX6_inForce_31 ?_
      obtain ⟨hi_2, hf⟩ := i_n hf
      refine la_6 hx hb hE hM hi_2 dX6_inForce_32 ?_
      refine lv_istore (lv' := [(6, .int (x 12 (((a5 * 7) + b1).toNatClampNeg))), (0, .ref (ga G 4)), (1, .int b1), (2, .int b2), (3, .int a3), (4, .int a4), (5, .int a5)]) hx hb dX6_inForce_33 hl (by decide) rfl (fun ls hl => ?_)
      refine lv_iload hx hb dX6_inForce_35 (lv_at hl 0 rfl) ?_
      refine lv_iconst (v := (-1)) hx hb dX6_inForce_37 (by decide) ?_
      refine lv_icmp_eq (tgt := 75) hx hb dX6_inForce_38 (by decide) (fun hc_6 => ?_) (fun hc_6 => ?_)
      · replace hf := i_t hf hc_6
        refine lv_iinc (v := a5 + 1) (lv' := [(5, .int (a5 + 1)), (6, .int (x 12 (((a5 * 7) + b1).toNatClampNeg))), (0, .ref (ga G 4)), (1, .int b1), (2, .int b2), (3, .int a3), (4, .int a4)]) hx hb dX6_inForce_75 hl (k := 6) rfl rfl (by decide) rfl (fun ls hl => ?_)
        refine lv_goto (tgt := 12) hx hb dX6_inForce_78 (by decide) ?_
        exact ih x a3 a4 (a5 + 1) _ _ _ hf hM hS (lv_sub hl [2, 3, 4, 5, 6, 0] rfl)
      · replace hf := i_f hf hc_6
        refine lv_aload_n hx hb dX6_inForce_41 rfl (lv_at hl 1 rfl) ?_
        refine gr_5 hx hb hE hM hown w_1_70 dX6_inForce_42 ?_
        refine lv_iload hx hb dX6_inForce_45 (lv_at hl 6 rfl) ?_
        obtain ⟨hi_3, hf⟩ := i_n hf
        refine la_5 hx hb hE hM hi_3 dX6_inForce_47 ?_
        refine lv_iload_n hx hb dX6_inForce_48 rfl (lv_at hl 3 rfl) ?_
        refine lv_icmp_gt (tgt := 75) hx hb dX6_inForce_49 (by decide) (fun hc_5 => ?_) (fun hc_5 => ?_)
        · replace hf := i_t hf hc_5
          refine lv_iinc (v := a5 + 1) (lv' := [(5, .int (a5 + 1)), (6, .int (x 12 (((a5 * 7) + b1).toNatClampNeg))), (0, .ref (ga G 4)), (1, .int b1), (2, .int b2), (3, .int a3), (4, .int a4)]) hx hb dX6_inForce_75 hl (k := 6) rfl rfl (by decide) rfl (fun ls hl => ?_)
          refine lv_goto (tgt := 12) hx hb dX6_inForce_78 (by decide) ?_
          exact ih x a3 a4 (a5 + 1) _ _ _ hf hM hS (lv_sub hl [2, 3, 4, 5, 6, 0] rfl)
        · replace hf := i_f hf hc_5
          refine lv_aload_n hx hb dX6_inForce_52 rfl (lv_at hl 1 rfl) ?_
          refine gr_5 hx hb hE hM hown w_1_70 dX6_inForce_53 ?_
          refine lv_iload hx hb dX6_inForce_56 (lv_at hl 6 rfl) ?_
          refine la_5 hx hb hE hM hi_3 dX6_inForce_58 ?_
          refine lv_iload_n hx hb dX6_inForce_59 rfl (lv_at hl 4 rfl) ?_
          refine lv_icmp_lt (tgt := 75) hx hb dX6_inForce_60 (by decide) (fun hc_4 => ?_) (fun hc_4 => ?_)
          · replace hf := i_t hf hc_4
            refine lv_iinc (v := a5 + 1) (lv' := [(5, .int (a5 + 1)), (6, .int (x 12 (((a5 * 7) + b1).toNatClampNeg))), (0, .ref (ga G 4)), (1, .int b1), (2, .int b2), (3, .int a3), (4, .int a4)]) hx hb dX6_inForce_75 hl (k := 6) rfl rfl (by decide) rfl (fun ls hl => ?_)
            refine lv_goto (tgt := 12) hx hb dX6_inForce_78 (by decide) ?_
            exact ih x a3 a4 (a5 + 1) _ _ _ hf hM hS (lv_sub hl [2, 3, 4, 5, 6, 0] rfl)
          · replace hf := i_f hf hc_4
            refine lv_aload_n hx hb dX6_inForce_63 rfl (lv_at hl 1 rfl) ?_
            refine gr_5 hx hb hE hM hown w_1_70 dX6_inForce_64 ?_
            refine lv_iload hx hb dX6_inForce_67 (lv_at hl 6 rfl) ?_
            refine la_5 hx hb hE hM hi_3 dX6_inForce_69 ?_
            refine lv_istore_n (lv' := [(3, .int (x 11 a5.toNatClampNeg)), (6, .int (x 12 (((a5 * 7) + b1).toNatClampNeg))), (0, .ref (ga G 4)), (1, .int b1), (2, .int b2), (4, .int a4), (5, .int a5)]) hx hb dX6_inForce_70 rfl hl (by decide) rfl (fun ls hl => ?_)
            refine lv_iload hx hb dX6_inForce_71 (lv_at hl 1 rfl) ?_
            refine lv_istore (lv' := [(4, .int (x 12 (((a5 * 7) + b1).toNatClampNeg))), (3, .int (x 11 a5.toNatClampNeg)), (6, .int (x 12 (((a5 * 7) + b1).toNatClampNeg))), (0, .ref (ga G 4)), (1, .int b1), (2, .int b2), (5, .int a5)]) hx hb dX6_inForce_73 hl (by decide) rfl (fun ls hl => ?_)
            refine lv_iinc (v := a5 + 1) (lv' := [(5, .int (a5 + 1)), (4, .int (x 12 (((a5 * 7) + b1).toNatClampNeg))), (3, .int (x 11 a5.toNatClampNeg)), (6, .int (x 12 (((a5 * 7) + b1).toNatClampNeg))), (0, .ref (ga G 4)), (1, .int b1), (2, .int b2)]) hx hb dX6_inForce_75 hl (k := 6) rfl rfl (by decide) rfl (fun ls hl => ?_)
            refine lv_goto (tgt := 12) hx hb dX6_inForce_78 (by decide) ?_
            exact ih x (x 11 a5.toNatClampNeg) (x 12 (((a5 * 7) + b1).toNatClampNeg)) (a5 + 1) _ _ _ hf hM hS (lv_sub hl [4, 5, 6, 2, 1, 0] rfl)
set_option maxHeartbeats 4000000 in
set_option maxRecDepth 100000 in
theorem c_X6_inForce (l : Launch) (fu nw : Nat) (G : GG) (x x' mo : Me) (a1 : Int32) (a2 : Int32) (r : Int32) (hf : f_X6_inForce fu nw x a1 a2 = some (x', r)) : Met l yX6_inForce [.code yX6_inForce cX6_inForce 7 (some .int)] rm_X6_inForce (va_Pc [.ref (ga G 4), .int a1, .int a2] (Pre G nw x mo)) (PI G nw x' mo r) 0 0 (gA G) := by
  refine mt_ofW (cc := cX6_inForce) (maxL := 7) (ret := (some .int)) (by decide +kernel) rfl ?_
  intro p e s m args below meth c s₁ B hml hv
  obtain ⟨rfl, hE, hM⟩ := hv
  have hx := B.exec
  have hb := B.bytes
  have hr := B.returns
  have hown : s.vm.findClass RX6 = some m.cls := findClass_of_methodNamed B.named
  have hlocks := B.notSynchronized
  have hS : va_S (gA G) s.heap s.heap [] := va_S.rf
  have hl := lv_entry ([.ref (ga G 4), .int a1, .int a2]) (n := 7) (Nat.le_of_ble_eq_true rfl)
  rw [lg_entry_eq]
  generalize (lg_sl ([.ref (ga G 4), .int a1, .int a2]) ++ List.replicate (7 - (lg_sl ([.ref (ga G 4), .int a1, .int a2])).length) Slot.unset).toArray = ls at hl ⊢
  have hl : lv_has ls 7 [(0, .ref (ga G 4)), (1, .int a1), (2, .int a2)] := hl
  generalize ([.ref (ga G 4), .int a1, .int a2] : List Value).toArray = args
  unfold f_X6_inForce at hf
  refine lv_iconst (v := (-1)) hx hb dX6_inForce_0 (by decide) ?_
  refine lv_istore_n (lv' := [(3, .int (-1)), (0, .ref (ga G 4)), (1, .int a1), (2, .int a2)]) hx hb dX6_inForce_1 rfl hl (by decide) rfl (fun ls hl => ?_)
  refine mm_gets 2 (by decide) hx hb hE hS hown rfl w_2_213 dX6_inForce_2 ?_
  refine lv_iload_n hx hb dX6_inForce_5 rfl (lv_at hl 2 rfl) ?_
  obtain ⟨hi_1, hf⟩ := i_n hf
  refine mm_sald 2 (by decide) hx hb hE hS hi_1 dX6_inForce_6 ?_
  refine lv_istore (lv' := [(4, .int ((tS 2).getD a1.toNatClampNeg 0)), (3, .int (-1)), (0, .ref (ga G 4)), (1, .int a1), (2, .int a2)]) hx hb dX6_inForce_7 hl (by decide) rfl (fun ls hl => ?_)
  refine lv_iconst (v := 0) hx hb dX6_inForce_9 (by decide) ?_
  refine lv_istore (lv' := [(5, .int 0), (4, .int ((tS 2).getD a1.toNatClampNeg 0)), (3, .int (-1)), (0, .ref (ga G 4)), (1, .int a1), (2, .int a2)]) hx hb dX6_inForce_10 hl (by decide) rfl (fun ls hl => ?_)
  refine wk_X6_inForce_12 hx hb hml hown hE hr hlocks ?_ fu x (-1) ((tS 2).getD a1.toNatClampNeg 0) 0 _ _ _ hf hM hS (lv_sub hl [3, 4, 5, 2, 1, 0] rfl)
  intro x_8 a4_8 H locs ls hf hM hS hl
  refine lv_iload hx hb dX6_inForce_81 (lv_at hl 0 rfl) ?_
  exact rt_iX hx hb hr hf hM hS dX6_inForce_83 hlocks
theorem k_X6_inForce {p : Program} {l : Launch} {e : Env} {R : Room} {s : State} {m : MethodId} {args : Array Value} {below : List Frame} {meth : Method} {c : Code} {H : Heap} {locs : List Loc} {cells slots : Nat} {Q : State → Prop} {cc : ByteArray} {pc nL : Nat} {ls : Array Slot} {rest : List Value} {G : GG} {fu nw : Nat} {x x' mo : Me} {own : String} {index : Nat} {a1 : Int32} {a2 : Int32} {r : Int32} (hx : p.tables.exec = Jvm.exec) (hb : c.code = cc) (hml : c.maxLocals = nL) (hown : s.vm.findClass own = some m.cls) (hE : EnvP G s) (hM : MemP G nw x mo H) (hS : va_S (gA G) s.heap H locs) (hw : Cond.methodLink own index yX6_inForce ∈ lw_tbl) (hf : f_X6_inForce fu nw x a1 a2 = some (x', r)) (h1 : 0 + 1 ≤ R.frames) (h2 : 8 + (7 + 11) + 0 ≤ R.locals) (hsz : ls.size = nL) (hW : (rest.map fun v => v.category).sum ≤ 8) (hcs : cells ≤ R.cells ∧ slots ≤ R.slots) (hdg : decode cc pc = .ok (.invokevirtual index, 3)) (kk : ∀ (H1 : Heap) (locs1 : List Loc), MemP G nw x' mo H1 → va_S (gA G) s.heap H1 locs1 → W p l e R s m args below meth c H1 locs1 cells slots Q (F0 m (pc + 3) ls (.int r :: rest))) : W p l e R s m args below meth c H locs cells slots Q (F0 m pc ls (.int a2 :: .int a1 :: .ref (ga G 4) :: rest)) := mm_ki hS (mm_runV (n := 2) (o := 4) (C := RX6) (T := TX6) (N := 3) (ci := 6) (As := [.int a1, .int a2]) hx hb hml hown hE hM hS (c_X6_inForce l fu nw G x x' mo a1 a2 _ hf) (List.forall_mem_cons.mpr ⟨⟨hw, rfl⟩, List.forall_mem_cons.mpr ⟨⟨w_2_210, rfl⟩, List.forall_mem_cons.mpr ⟨⟨w_2_211, rfl⟩, List.forall_mem_cons.mpr ⟨⟨w_1_3, rfl⟩, List.forall_mem_cons.mpr ⟨⟨w_2_212, rfl⟩, fun _ h => absurd h List.not_mem_nil⟩⟩⟩⟩⟩) rfl rfl ⟨rfl, by decide, by decide, by decide +kernel⟩ ⟨h1, h2⟩ rfl rfl rfl hsz rfl hW hdg hcs) kk
def f_X6_keep_3 (fu nw : Nat) (x : Me) (a1 : Int32) : Option (Me × Int32) := if 10 ≤ (x 10 0) then some (x, (-1)) else if (7 : Int32) = 7 then if inb (x 10 0) 10 = true then if acok 0 ((x 10 0) * 7) 7 7 70 = true then some ((mu (mcpy (mu x 11 ((x 10 0).toNatClampNeg) a1) 7 12 0 ((x 10 0) * 7) 7) 10 0 ((x 10 0) + 1)), ((x 10 0) + 1) - 1) else none else none else some (x, (-1))
def rm_X6_keep_3 : Room := { frames := 1, cells := 0, slots := 0, locals := 40 }
set_option maxHeartbeats 4000000 in
set_option maxRecDepth 100000 in
theorem c_X6_keep_3 (l : Launch) (fu nw : Nat) (G : GG) (x x' mo : Me) (a1 : Int32) (r : Int32) (hf : f_X6_keep_3 fu nw x a1 = some (x', r)) : Met l yX6_keep [.code yX6_keep cX6_keep 3 (some .int)] rm_X6_keep_3 (va_Pc [.ref (ga G 4), .int a1, .ref (ga G 3)] (Pre G nw x mo)) (PI G nw x' mo r) 0 0 (gA G) := by
  refine mt_ofW (cc := cX6_keep) (maxL := 3) (ret := (some .int)) (by decide +kernel) rfl ?_
  intro p e s m args below meth c s₁ B hml hv
  obtain ⟨rfl, hE, hM⟩ := hv
  have hx := B.exec
  have hb := B.bytes
  have hr := B.returns
  have hown : s.vm.findClass RX6 = some m.cls := findClass_of_methodNamed B.named
  have hlocks := B.notSynchronized
  have hS : va_S (gA G) s.heap s.heap [] := va_S.rf
  have hl := lv_entry ([.ref (ga G 4), .int a1, .ref (ga G 3)]) (n := 3) (Nat.le_of_ble_eq_true rfl)
  rw [lg_entry_eq]
  generalize (lg_sl ([.ref (ga G 4), .int a1, .ref (ga G 3)]) ++ List.replicate (3 - (lg_sl ([.ref (ga G 4), .int a1, .ref (ga G 3)])).length) Slot.unset).toArray = ls at hl ⊢
  have hl : lv_has ls 3 [(0, .ref (ga G 4)), (1, .int a1), (2, .ref (ga G 3))] := hl
  generalize ([.ref (ga G 4), .int a1, .ref (ga G 3)] : List Value).toArray = args
  unfold f_X6_keep_3 at hf
  refine lv_aload_n hx hb dX6_keep_0 rfl (lv_at hl 0 rfl) ?_
  refine gf_10 hx hb hE hM hown w_1_68 dX6_keep_1 ?_
  refine lv_bipush (v := 10) hx hb dX6_keep_4 (by decide) ?_
  refine lv_icmp_ge (tgt := 16) hx hb dX6_keep_6 (by decide) (fun hc_4 => ?_) (fun hc_4 => ?_)
  · replace hf := i_t hf hc_4
    refine lv_iconst (v := (-1)) hx hb dX6_keep_16 (by decide) ?_
    exact rt_iX hx hb hr hf hM hS dX6_keep_17 hlocks
  · replace hf := i_f hf hc_4
    refine lv_aload_n hx hb dX6_keep_9 rfl (lv_at hl 2 rfl) ?_
    refine ln_3 hx hb hE hM dX6_keep_10 ?_
    refine lv_bipush (v := 7) hx hb dX6_keep_11 (by decide) ?_
    refine lv_icmp_eq (tgt := 18) hx hb dX6_keep_13 (by decide) (fun hc_3 => ?_) (fun hc_3 => ?_)
    · replace hf := i_t hf hc_3
      refine lv_aload_n hx hb dX6_keep_18 rfl (lv_at hl 0 rfl) ?_
      refine gr_5 hx hb hE hM hown w_1_70 dX6_keep_19 ?_
      refine lv_aload_n hx hb dX6_keep_22 rfl (lv_at hl 0 rfl) ?_
      refine gf_10 hx hb hE hM hown w_1_68 dX6_keep_23 ?_
      refine lv_iload_n hx hb dX6_keep_26 rfl (lv_at hl 1 rfl) ?_
      obtain ⟨hi_1, hf⟩ := i_n hf
      refine sa_5 hx hb hE hM hS hi_1 dX6_keep_27 (fun H locs hM hS => ?_)
      refine lv_aload_n hx hb dX6_keep_28 rfl (lv_at hl 2 rfl) ?_
      refine lv_iconst (v := 0) hx hb dX6_keep_29 (by decide) ?_
      refine lv_aload_n hx hb dX6_keep_30 rfl (lv_at hl 0 rfl) ?_
      refine gr_6 hx hb hE hM hown w_1_71 dX6_keep_31 ?_
      refine lv_aload_n hx hb dX6_keep_34 rfl (lv_at hl 0 rfl) ?_
      refine gf_10 hx hb hE hM hown w_1_68 dX6_keep_35 ?_
      refine lv_bipush (v := 7) hx hb dX6_keep_38 (by decide) ?_
      refine lv_imul hx hb dX6_keep_40 ?_
      refine lv_bipush (v := 7) hx hb dX6_keep_41 (by decide) ?_
      obtain ⟨hac_2, hf⟩ := i_n hf
      refine mm_copy (x' := (mcpy (mu x 11 ((x 10 0).toNatClampNeg) a1) 7 12 0 ((x 10 0) * 7) 7)) (mo' := mo) (o0 := 3) (o1 := 6) hx hb (by rw [hml]; exact hl.1.symm) hown (ew hE w_2_198 rfl) (ew hE w_2_200 rfl) (ew hE w_2_199 rfl) (ew hE w_1_18 rfl) hE hM hS rfl rfl rfl hac_2 (Nat.le_of_ble_eq_true rfl) (Nat.le_of_ble_eq_true rfl) dX6_keep_43 (fun H locs hM hS => ?_)
      refine lv_aload_n hx hb dX6_keep_46 rfl (lv_at hl 0 rfl) ?_
      refine lv_dup hx hb dX6_keep_47 rfl ?_
      refine gf_10 hx hb hE hM hown w_1_68 dX6_keep_48 ?_
      refine lv_iconst (v := 1) hx hb dX6_keep_51 (by decide) ?_
      refine lv_iadd hx hb dX6_keep_52 ?_
      refine pf_10 hx hb hE hM hS hown w_1_68 dX6_keep_53 (fun H locs hM hS => ?_)
      refine lv_aload_n hx hb dX6_keep_56 rfl (lv_at hl 0 rfl) ?_
      refine gf_10 hx hb hE hM hown w_1_68 dX6_keep_57 ?_
      refine lv_iconst (v := 1) hx hb dX6_keep_60 (by decide) ?_
      refine lv_isub hx hb dX6_keep_61 ?_
      exact rt_iX hx hb hr hf hM hS dX6_keep_62 hlocks
    · replace hf := i_f hf hc_3
      refine lv_iconst (v := (-1)) hx hb dX6_keep_16 (by decide) ?_
      exact rt_iX hx hb hr hf hM hS dX6_keep_17 hlocks
theorem k_X6_keep_3 {p : Program} {l : Launch} {e : Env} {R : Room} {s : State} {m : MethodId} {args : Array Value} {below : List Frame} {meth : Method} {c : Code} {H : Heap} {locs : List Loc} {cells slots : Nat} {Q : State → Prop} {cc : ByteArray} {pc nL : Nat} {ls : Array Slot} {rest : List Value} {G : GG} {fu nw : Nat} {x x' mo : Me} {own : String} {index : Nat} {a1 : Int32} {r : Int32} (hx : p.tables.exec = Jvm.exec) (hb : c.code = cc) (hml : c.maxLocals = nL) (hown : s.vm.findClass own = some m.cls) (hE : EnvP G s) (hM : MemP G nw x mo H) (hS : va_S (gA G) s.heap H locs) (hw : Cond.methodLink own index yX6_keep ∈ lw_tbl) (hf : f_X6_keep_3 fu nw x a1 = some (x', r)) (h1 : 1 + 1 ≤ R.frames) (h2 : 8 + (3 + 11) + 40 ≤ R.locals) (hsz : ls.size = nL) (hW : (rest.map fun v => v.category).sum ≤ 8) (hcs : cells ≤ R.cells ∧ slots ≤ R.slots) (hdg : decode cc pc = .ok (.invokevirtual index, 3)) (kk : ∀ (H1 : Heap) (locs1 : List Loc), MemP G nw x' mo H1 → va_S (gA G) s.heap H1 locs1 → W p l e R s m args below meth c H1 locs1 cells slots Q (F0 m (pc + 3) ls (.int r :: rest))) : W p l e R s m args below meth c H locs cells slots Q (F0 m pc ls (.ref (ga G 3) :: .int a1 :: .ref (ga G 4) :: rest)) := mm_ki hS (mm_runV (n := 2) (o := 4) (C := RX6) (T := TX6) (N := 3) (ci := 6) (As := [.int a1, .ref (ga G 3)]) hx hb hml hown hE hM hS (c_X6_keep_3 l fu nw G x x' mo a1 _ hf) (List.forall_mem_cons.mpr ⟨⟨hw, rfl⟩, List.forall_mem_cons.mpr ⟨⟨w_2_195, rfl⟩, List.forall_mem_cons.mpr ⟨⟨w_2_196, rfl⟩, List.forall_mem_cons.mpr ⟨⟨w_1_3, rfl⟩, List.forall_mem_cons.mpr ⟨⟨w_2_197, rfl⟩, fun _ h => absurd h List.not_mem_nil⟩⟩⟩⟩⟩) rfl rfl ⟨rfl, by decide, by decide, by decide +kernel⟩ ⟨h1, h2⟩ rfl rfl rfl hsz rfl hW hdg hcs) kk
