def f_X1_add (fu nw : Nat) (x : Me) (a1 : Int32) (a2 : Int32) (a3 : Int32) : Option (Me × Int32) := if (x 45 0) < 40 then if inb (x 45 0) 40 = true then some ((mu (mu (mu (mu x 46 ((x 45 0).toNatClampNeg) a1) 47 ((x 45 0).toNatClampNeg) a2) 48 ((x 45 0).toNatClampNeg) a3) 45 0 ((x 45 0) + 1)), (x 45 0) + 1) else none else some (x, (-1))
def rm_X1_add : Room := { frames := 0, cells := 0, slots := 0, locals := 0 }
set_option maxHeartbeats 4000000 in
set_option maxRecDepth 100000 in
theorem c_X1_add (l : Launch) (fu nw : Nat) (G : GG) (x x' mo : Me) (a1 : Int32) (a2 : Int32) (a3 : Int32) (r : Int32) (hf : f_X1_add fu nw x a1 a2 a3 = some (x', r)) : Met l yX1_add [.code yX1_add cX1_add 4 (some .int)] rm_X1_add (va_Pc [.ref (ga G 36), .int a1, .int a2, .int a3] (Pre G nw x mo)) (PI G nw x' mo r) 0 0 (gA G) := by
  refine mt_ofW (cc := cX1_add) (maxL := 4) (ret := (some .int)) (by decide +kernel) rfl ?_
  intro p e s m args below meth c s₁ B hml hv
  obtain ⟨rfl, hE, hM⟩ := hv
  have hx := B.exec
  have hb := B.bytes
  have hr := B.returns
  have hown : s.vm.findClass RX1 = some m.cls := findClass_of_methodNamed B.named
  have hlocks := B.notSynchronized
  have hS : va_S (gA G) s.heap s.heap [] := va_S.rf
  have hl := lv_entry ([.ref (ga G 36), .int a1, .int a2, .int a3]) (n := 4) (Nat.le_of_ble_eq_true rfl)
  rw [lg_entry_eq]
  generalize (lg_sl ([.ref (ga G 36), .int a1, .int a2, .int a3]) ++ List.replicate (4 - (lg_sl ([.ref (ga G 36), .int a1, .int a2, .int a3])).length) Slot.unset).toArray = ls at hl ⊢
  have hl : lv_has ls 4 [(0, .ref (ga G 36)), (1, .int a1), (2, .int a2), (3, .int a3)] := hl
  generalize ([.ref (ga G 36), .int a1, .int a2, .int a3] : List Value).toArray = args
  unfold f_X1_add at hf
  refine lv_aload_n hx hb dX1_add_0 rfl (lv_at hl 0 rfl) ?_
  refine gf_45 hx hb hE hM hown w_2_25 dX1_add_1 ?_
  refine lv_bipush (v := 40) hx hb dX1_add_4 (by decide) ?_
  refine lv_icmp_lt (tgt := 11) hx hb dX1_add_6 (by decide) (fun hc_2 => ?_) (fun hc_2 => ?_)
  · replace hf := i_t hf hc_2
    refine lv_aload_n hx hb dX1_add_11 rfl (lv_at hl 0 rfl) ?_
    refine gr_37 hx hb hE hM hown w_2_27 dX1_add_12 ?_
    refine lv_aload_n hx hb dX1_add_15 rfl (lv_at hl 0 rfl) ?_
    refine gf_45 hx hb hE hM hown w_2_25 dX1_add_16 ?_
    refine lv_iload_n hx hb dX1_add_19 rfl (lv_at hl 1 rfl) ?_
    obtain ⟨hi_1, hf⟩ := i_n hf
    refine sa_37 hx hb hE hM hS hi_1 dX1_add_20 (fun H locs hM hS => ?_)
    refine lv_aload_n hx hb dX1_add_21 rfl (lv_at hl 0 rfl) ?_
    refine gr_38 hx hb hE hM hown w_2_28 dX1_add_22 ?_
    refine lv_aload_n hx hb dX1_add_25 rfl (lv_at hl 0 rfl) ?_
    refine gf_45 hx hb hE hM hown w_2_25 dX1_add_26 ?_
    refine lv_iload_n hx hb dX1_add_29 rfl (lv_at hl 2 rfl) ?_
    refine sa_38 hx hb hE hM hS hi_1 dX1_add_30 (fun H locs hM hS => ?_)
    refine lv_aload_n hx hb dX1_add_31 rfl (lv_at hl 0 rfl) ?_
    refine gr_39 hx hb hE hM hown w_2_29 dX1_add_32 ?_
    refine lv_aload_n hx hb dX1_add_35 rfl (lv_at hl 0 rfl) ?_
    refine gf_45 hx hb hE hM hown w_2_25 dX1_add_36 ?_
    refine lv_iload_n hx hb dX1_add_39 rfl (lv_at hl 3 rfl) ?_
    refine sa_39 hx hb hE hM hS hi_1 dX1_add_40 (fun H locs hM hS => ?_)
    refine lv_aload_n hx hb dX1_add_41 rfl (lv_at hl 0 rfl) ?_
    refine lv_dup hx hb dX1_add_42 rfl ?_
    refine gf_45 hx hb hE hM hown w_2_25 dX1_add_43 ?_
    refine lv_iconst (v := 1) hx hb dX1_add_46 (by decide) ?_
    refine lv_iadd hx hb dX1_add_47 ?_
    refine pf_45 hx hb hE hM hS hown w_2_25 dX1_add_48 (fun H locs hM hS => ?_)
    refine lv_aload_n hx hb dX1_add_51 rfl (lv_at hl 0 rfl) ?_
    refine gf_45 hx hb hE hM hown w_2_25 dX1_add_52 ?_
    exact rt_iX hx hb hr hf hM hS dX1_add_55 hlocks
  · replace hf := i_f hf hc_2
    refine lv_iconst (v := (-1)) hx hb dX1_add_9 (by decide) ?_
    exact rt_iX hx hb hr hf hM hS dX1_add_10 hlocks
theorem k_X1_add {p : Program} {l : Launch} {e : Env} {R : Room} {s : State} {m : MethodId} {args : Array Value} {below : List Frame} {meth : Method} {c : Code} {H : Heap} {locs : List Loc} {cells slots : Nat} {Q : State → Prop} {cc : ByteArray} {pc nL : Nat} {ls : Array Slot} {rest : List Value} {G : GG} {fu nw : Nat} {x x' mo : Me} {own : String} {index : Nat} {a1 : Int32} {a2 : Int32} {a3 : Int32} {r : Int32} (hx : p.tables.exec = Jvm.exec) (hb : c.code = cc) (hml : c.maxLocals = nL) (hown : s.vm.findClass own = some m.cls) (hE : EnvP G s) (hM : MemP G nw x mo H) (hS : va_S (gA G) s.heap H locs) (hw : Cond.methodLink own index yX1_add ∈ lw_tbl) (hf : f_X1_add fu nw x a1 a2 a3 = some (x', r)) (h1 : 0 + 1 ≤ R.frames) (h2 : 8 + (4 + 11) + 0 ≤ R.locals) (hsz : ls.size = nL) (hW : (rest.map fun v => v.category).sum ≤ 8) (hcs : cells ≤ R.cells ∧ slots ≤ R.slots) (hdg : decode cc pc = .ok (.invokevirtual index, 3)) (kk : ∀ (H1 : Heap) (locs1 : List Loc), MemP G nw x' mo H1 → va_S (gA G) s.heap H1 locs1 → W p l e R s m args below meth c H1 locs1 cells slots Q (F0 m (pc + 3) ls (.int r :: rest))) : W p l e R s m args below meth c H locs cells slots Q (F0 m pc ls (.int a3 :: .int a2 :: .int a1 :: .ref (ga G 36) :: rest)) := mm_ki hS (mm_runV (n := 3) (o := 36) (C := RX1) (T := TX1) (N := 4) (ci := 1) (As := [.int a1, .int a2, .int a3]) hx hb hml hown hE hM hS (c_X1_add l fu nw G x x' mo a1 a2 a3 _ hf) (List.forall_mem_cons.mpr ⟨⟨hw, rfl⟩, List.forall_mem_cons.mpr ⟨⟨w_4_74, rfl⟩, List.forall_mem_cons.mpr ⟨⟨w_4_75, rfl⟩, List.forall_mem_cons.mpr ⟨⟨w_1_10, rfl⟩, List.forall_mem_cons.mpr ⟨⟨w_4_76, rfl⟩, fun _ h => absurd h List.not_mem_nil⟩⟩⟩⟩⟩) rfl rfl ⟨rfl, by decide, by decide, by decide +kernel⟩ ⟨h1, h2⟩ rfl rfl rfl hsz rfl hW hdg hcs) kk
def f_X1_settle_2 (fu nw : Nat) (b2 : Int32) (k : Me → Option (Me × Unit)) : Nat → Me → Int32 → Option (Me × Unit)
  | 0 => fun _ _ => none
  | n + 1 => fun x a3 => if (x 45 0) ≤ a3 then k x else if inb a3 40 = true then ob (f_X8_find fu nw x (x 46 a3.toNatClampNeg)) (fun x_2 r_2 => om r_2 (ob (f_X8_find fu nw x_2 (x_2 47 a3.toNatClampNeg)) (fun x_3 r_3 => om r_3 (if (x_3 46 a3.toNatClampNeg) = b2 then f_X1_settle_2 fu nw b2 k n x_3 (a3 + 1) else f_X1_settle_2 fu nw b2 k n x_3 (a3 + 1)) (fun m_3 => if m_3 < nw then if (x_3 46 a3.toNatClampNeg) = b2 then f_X1_settle_2 fu nw b2 k n x_3 (a3 + 1) else f_X1_settle_2 fu nw b2 k n x_3 (a3 + 1) else none))) (fun m_2 => if m_2 < nw then ob (f_X8_find fu nw x_2 (x_2 47 a3.toNatClampNeg)) (fun x_6 r_6 => om r_6 (if (x_6 46 a3.toNatClampNeg) = b2 then f_X1_settle_2 fu nw b2 k n x_6 (a3 + 1) else f_X1_settle_2 fu nw b2 k n x_6 (a3 + 1)) (fun m_6 => if m_6 < nw then if (x_6 46 a3.toNatClampNeg) = b2 then f_X1_settle_2 fu nw b2 k n (mu (mu x_6 55 m_2 ((x_6 55 m_2) - (x_6 48 a3.toNatClampNeg))) 55 m_6 (((mu x_6 55 m_2 ((x_6 55 m_2) - (x_6 48 a3.toNatClampNeg))) 55 m_6) + (x_6 48 a3.toNatClampNeg))) (a3 + 1) else f_X1_settle_2 fu nw b2 k n x_6 (a3 + 1) else none)) else none)) else none
def f_X1_settle (fu nw : Nat) (x : Me) (a2 : Int32) : Option (Me × Unit) := f_X1_settle_2 fu nw a2 (fun (x_10 : Me) => some ((mu x_10 45 0 0), ())) fu x 0
def rm_X1_settle : Room := { frames := 2, cells := 0, slots := 0, locals := 42 }
set_option maxHeartbeats 4000000 in
set_option maxRecDepth 100000 in
theorem wk_X1_settle_2 {p : Program} {l : Launch} {e : Env} {s : State} {m : MethodId} {args : Array Value} {below : List Frame} {meth : Method} {c : Code} {fu nw : Nat} {G : GG} {mo : Me} {b2 : Int32} (hx : p.tables.exec = Jvm.exec) (hb : c.code = cX1_settle) (hml : c.maxLocals = 6) (hown : s.vm.findClass RX1 = some m.cls) (hE : EnvP G s) (hr : meth.sig.returnType = none) (hlocks : meth.locks = false) {x' : Me} {r : Unit} {k : Me → Option (Me × Unit)} (hk : ∀ (x : Me) (H : Heap) (locs : List Loc) (ls : Array Slot), k x = some (x', r) → MemP G nw x mo H → va_S (gA G) s.heap H locs → lv_has ls 6 [(0, .ref (ga G 36))] → W p l e rm_X1_settle s m args below meth c H locs 0 0 (MQ below (PV G nw x' mo) args s 0 0 (gA G)) (F0 m 92 ls [])) : ∀ (n : Nat) (x : Me) (a3 : Int32) (H : Heap) (locs : List Loc) (ls : Array Slot), f_X1_settle_2 fu nw b2 k n x a3 = some (x', r) → MemP G nw x mo H → va_S (gA G) s.heap H locs → lv_has ls 6 [(0, .ref (ga G 36)), (1, .ref (ga G 7)), (2, .int b2), (3, .int a3)] → W p l e rm_X1_settle s m args below meth c H locs 0 0 (MQ below (PV G nw x' mo) args s 0 0 (gA G)) (F0 m 2 ls []) := by
  intro n
  induction n with
  | zero =>
    intro x a3 H locs ls hf hM hS hl
    exact nn hf
  | succ n ih =>
    intro x a3 H locs ls hf hM hS hl
    rw [f_X1_settle_2] at hf
    refine lv_iload_n hx hb dX1_settle_2 rfl (lv_at hl 3 rfl) ?_
    refine lv_aload_n hx hb dX1_settle_3 rfl (lv_at hl 0 rfl) ?_
    refine gf_45 hx hb hE hM hown w_2_25 dX1_settle_4 ?_
    refine lv_icmp_ge (tgt := 92) hx hb dX1_settle_7 (by decide) (fun hc_9 => ?_) (fun hc_9 => ?_)
    · replace hf := i_t hf hc_9
      exact hk x _ _ _ hf hM hS (lv_sub hl [0] rfl)
    · replace hf := i_f hf hc_9
      refine lv_aload_n hx hb dX1_settle_10 rfl (lv_at hl 1 rfl) ?_
      refine lv_aload_n hx hb dX1_settle_11 rfl (lv_at hl 0 rfl) ?_
      refine gr_37 hx hb hE hM hown w_2_27 dX1_settle_12 ?_
      refine lv_iload_n hx hb dX1_settle_15 rfl (lv_at hl 3 rfl) ?_
      obtain ⟨hi_1, hf⟩ := i_n hf
      refine la_37 hx hb hE hM hi_1 dX1_settle_16 ?_
      obtain ⟨x_2, r_2, hq_2, hf⟩ := ob_some hf
      refine k_X8_find hx hb hml hown hE hM hS w_4_59 hq_2 (Nat.le_of_ble_eq_true rfl) (Nat.le_of_ble_eq_true rfl) hl.1 (Nat.le_of_ble_eq_true rfl) ⟨Nat.zero_le _, Nat.zero_le _⟩ dX1_settle_17 (fun h_2 H locs hM hS => ?_) (fun m_2 h_2 H locs hM hS => ?_)
      · subst h_2
        replace hf := om_n hf
        refine lv_astoreN (lv' := [(4, .null), (0, .ref (ga G 36)), (1, .ref (ga G 7)), (2, .int b2), (3, .int a3)]) hx hb dX1_settle_20 hl (by decide) rfl (fun ls hl => ?_)
        refine lv_aload_n hx hb dX1_settle_22 rfl (lv_at hl 2 rfl) ?_
        refine lv_aload_n hx hb dX1_settle_23 rfl (lv_at hl 1 rfl) ?_
        refine gr_38 hx hb hE hM hown w_2_28 dX1_settle_24 ?_
        refine lv_iload_n hx hb dX1_settle_27 rfl (lv_at hl 4 rfl) ?_
        refine la_38 hx hb hE hM hi_1 dX1_settle_28 ?_
        obtain ⟨x_3, r_3, hq_3, hf⟩ := ob_some hf
        refine k_X8_find hx hb hml hown hE hM hS w_4_59 hq_3 (Nat.le_of_ble_eq_true rfl) (Nat.le_of_ble_eq_true rfl) hl.1 (Nat.le_of_ble_eq_true rfl) ⟨Nat.zero_le _, Nat.zero_le _⟩ dX1_settle_29 (fun h_3 H locs hM hS => ?_) (fun m_3 h_3 H locs hM hS => ?_)
        · subst h_3
          replace hf := om_n hf
          refine lv_astoreN (lv' := [(5, .null), (4, .null), (0, .ref (ga G 36)), (1, .ref (ga G 7)), (2, .int b2), (3, .int a3)]) hx hb dX1_settle_32 hl (by decide) rfl (fun ls hl => ?_)
          refine lv_aload_n hx hb dX1_settle_34 rfl (lv_at hl 2 rfl) ?_
          refine gr_37 hx hb hE hM hown w_2_27 dX1_settle_35 ?_
          refine lv_iload_n hx hb dX1_settle_38 rfl (lv_at hl 5 rfl) ?_
          refine la_37 hx hb hE hM hi_1 dX1_settle_39 ?_
          refine lv_iload_n hx hb dX1_settle_40 rfl (lv_at hl 4 rfl) ?_
          refine lv_icmp_ne (tgt := 86) hx hb dX1_settle_41 (by decide) (fun hc_4 => ?_) (fun hc_4 => ?_)
          · replace hf := i_f hf hc_4
            refine lv_iinc (v := a3 + 1) (lv' := [(3, .int (a3 + 1)), (5, .null), (4, .null), (0, .ref (ga G 36)), (1, .ref (ga G 7)), (2, .int b2)]) hx hb dX1_settle_86 hl (k := 5) rfl rfl (by decide) rfl (fun ls hl => ?_)
            refine lv_goto (tgt := 2) hx hb dX1_settle_89 (by decide) ?_
            exact ih x_3 (a3 + 1) _ _ _ hf hM hS (lv_sub hl [3, 4, 5, 0] rfl)
          · replace hf := i_t hf hc_4
            refine lv_aloadN hx hb dX1_settle_44 (lv_at hl 1 rfl) ?_
            refine lv_ifnullN (tgt := 86) hx hb dX1_settle_46 (by decide) ?_
            refine lv_iinc (v := a3 + 1) (lv' := [(3, .int (a3 + 1)), (5, .null), (4, .null), (0, .ref (ga G 36)), (1, .ref (ga G 7)), (2, .int b2)]) hx hb dX1_settle_86 hl (k := 5) rfl rfl (by decide) rfl (fun ls hl => ?_)
            refine lv_goto (tgt := 2) hx hb dX1_settle_89 (by decide) ?_
            exact ih x_3 (a3 + 1) _ _ _ hf hM hS (lv_sub hl [3, 4, 5, 0] rfl)
        · subst h_3
          replace hf := om_s hf
          obtain ⟨hm_3, hf⟩ := i_n hf
          refine lv_astore (lv' := [(5, .ref (ga G (69 + m_3))), (4, .null), (0, .ref (ga G 36)), (1, .ref (ga G 7)), (2, .int b2), (3, .int a3)]) hx hb dX1_settle_32 hl (by decide) rfl (fun ls hl => ?_)
          refine lv_aload_n hx hb dX1_settle_34 rfl (lv_at hl 2 rfl) ?_
          refine gr_37 hx hb hE hM hown w_2_27 dX1_settle_35 ?_
          refine lv_iload_n hx hb dX1_settle_38 rfl (lv_at hl 5 rfl) ?_
          refine la_37 hx hb hE hM hi_1 dX1_settle_39 ?_
          refine lv_iload_n hx hb dX1_settle_40 rfl (lv_at hl 4 rfl) ?_
          refine lv_icmp_ne (tgt := 86) hx hb dX1_settle_41 (by decide) (fun hc_5 => ?_) (fun hc_5 => ?_)
          · replace hf := i_f hf hc_5
            refine lv_iinc (v := a3 + 1) (lv' := [(3, .int (a3 + 1)), (5, .ref (ga G (69 + m_3))), (4, .null), (0, .ref (ga G 36)), (1, .ref (ga G 7)), (2, .int b2)]) hx hb dX1_settle_86 hl (k := 5) rfl rfl (by decide) rfl (fun ls hl => ?_)
            refine lv_goto (tgt := 2) hx hb dX1_settle_89 (by decide) ?_
            exact ih x_3 (a3 + 1) _ _ _ hf hM hS (lv_sub hl [3, 4, 5, 0] rfl)
          · replace hf := i_t hf hc_5
            refine lv_aloadN hx hb dX1_settle_44 (lv_at hl 1 rfl) ?_
            refine lv_ifnullN (tgt := 86) hx hb dX1_settle_46 (by decide) ?_
            refine lv_iinc (v := a3 + 1) (lv' := [(3, .int (a3 + 1)), (5, .ref (ga G (69 + m_3))), (4, .null), (0, .ref (ga G 36)), (1, .ref (ga G 7)), (2, .int b2)]) hx hb dX1_settle_86 hl (k := 5) rfl rfl (by decide) rfl (fun ls hl => ?_)
            refine lv_goto (tgt := 2) hx hb dX1_settle_89 (by decide) ?_
            exact ih x_3 (a3 + 1) _ _ _ hf hM hS (lv_sub hl [3, 4, 5, 0] rfl)
      · subst h_2
        replace hf := om_s hf
        obtain ⟨hm_2, hf⟩ := i_n hf
        refine lv_astore (lv' := [(4, .ref (ga G (69 + m_2))), (0, .ref (ga G 36)), (1, .ref (ga G 7)), (2, .int b2), (3, .int a3)]) hx hb dX1_settle_20 hl (by decide) rfl (fun ls hl => ?_)
        refine lv_aload_n hx hb dX1_settle_22 rfl (lv_at hl 2 rfl) ?_
        refine lv_aload_n hx hb dX1_settle_23 rfl (lv_at hl 1 rfl) ?_
        refine gr_38 hx hb hE hM hown w_2_28 dX1_settle_24 ?_
        refine lv_iload_n hx hb dX1_settle_27 rfl (lv_at hl 4 rfl) ?_
        refine la_38 hx hb hE hM hi_1 dX1_settle_28 ?_
        obtain ⟨x_6, r_6, hq_6, hf⟩ := ob_some hf
        refine k_X8_find hx hb hml hown hE hM hS w_4_59 hq_6 (Nat.le_of_ble_eq_true rfl) (Nat.le_of_ble_eq_true rfl) hl.1 (Nat.le_of_ble_eq_true rfl) ⟨Nat.zero_le _, Nat.zero_le _⟩ dX1_settle_29 (fun h_6 H locs hM hS => ?_) (fun m_6 h_6 H locs hM hS => ?_)
        · subst h_6
          replace hf := om_n hf
          refine lv_astoreN (lv' := [(5, .null), (4, .ref (ga G (69 + m_2))), (0, .ref (ga G 36)), (1, .ref (ga G 7)), (2, .int b2), (3, .int a3)]) hx hb dX1_settle_32 hl (by decide) rfl (fun ls hl => ?_)
          refine lv_aload_n hx hb dX1_settle_34 rfl (lv_at hl 2 rfl) ?_
          refine gr_37 hx hb hE hM hown w_2_27 dX1_settle_35 ?_
          refine lv_iload_n hx hb dX1_settle_38 rfl (lv_at hl 5 rfl) ?_
          refine la_37 hx hb hE hM hi_1 dX1_settle_39 ?_
          refine lv_iload_n hx hb dX1_settle_40 rfl (lv_at hl 4 rfl) ?_
          refine lv_icmp_ne (tgt := 86) hx hb dX1_settle_41 (by decide) (fun hc_7 => ?_) (fun hc_7 => ?_)
          · replace hf := i_f hf hc_7
            refine lv_iinc (v := a3 + 1) (lv' := [(3, .int (a3 + 1)), (5, .null), (4, .ref (ga G (69 + m_2))), (0, .ref (ga G 36)), (1, .ref (ga G 7)), (2, .int b2)]) hx hb dX1_settle_86 hl (k := 5) rfl rfl (by decide) rfl (fun ls hl => ?_)
            refine lv_goto (tgt := 2) hx hb dX1_settle_89 (by decide) ?_
            exact ih x_6 (a3 + 1) _ _ _ hf hM hS (lv_sub hl [3, 4, 5, 0] rfl)
          · replace hf := i_t hf hc_7
            refine lv_aload hx hb dX1_settle_44 (lv_at hl 1 rfl) ?_
            refine lv_ifnull hx hb dX1_settle_46 ?_
            refine lv_aloadN hx hb dX1_settle_49 (lv_at hl 0 rfl) ?_
            refine lv_ifnullN (tgt := 86) hx hb dX1_settle_51 (by decide) ?_
            refine lv_iinc (v := a3 + 1) (lv' := [(3, .int (a3 + 1)), (5, .null), (4, .ref (ga G (69 + m_2))), (0, .ref (ga G 36)), (1, .ref (ga G 7)), (2, .int b2)]) hx hb dX1_settle_86 hl (k := 5) rfl rfl (by decide) rfl (fun ls hl => ?_)
            refine lv_goto (tgt := 2) hx hb dX1_settle_89 (by decide) ?_
            exact ih x_6 (a3 + 1) _ _ _ hf hM hS (lv_sub hl [3, 4, 5, 0] rfl)
        · subst h_6
          replace hf := om_s hf
          obtain ⟨hm_6, hf⟩ := i_n hf
          refine lv_astore (lv' := [(5, .ref (ga G (69 + m_6))), (4, .ref (ga G (69 + m_2))), (0, .ref (ga G 36)), (1, .ref (ga G 7)), (2, .int b2), (3, .int a3)]) hx hb dX1_settle_32 hl (by decide) rfl (fun ls hl => ?_)
          refine lv_aload_n hx hb dX1_settle_34 rfl (lv_at hl 2 rfl) ?_
          refine gr_37 hx hb hE hM hown w_2_27 dX1_settle_35 ?_
          refine lv_iload_n hx hb dX1_settle_38 rfl (lv_at hl 5 rfl) ?_
          refine la_37 hx hb hE hM hi_1 dX1_settle_39 ?_
          refine lv_iload_n hx hb dX1_settle_40 rfl (lv_at hl 4 rfl) ?_
          refine lv_icmp_ne (tgt := 86) hx hb dX1_settle_41 (by decide) (fun hc_8 => ?_) (fun hc_8 => ?_)
          · replace hf := i_f hf hc_8
            refine lv_iinc (v := a3 + 1) (lv' := [(3, .int (a3 + 1)), (5, .ref (ga G (69 + m_6))), (4, .ref (ga G (69 + m_2))), (0, .ref (ga G 36)), (1, .ref (ga G 7)), (2, .int b2)]) hx hb dX1_settle_86 hl (k := 5) rfl rfl (by decide) rfl (fun ls hl => ?_)
            refine lv_goto (tgt := 2) hx hb dX1_settle_89 (by decide) ?_
            exact ih x_6 (a3 + 1) _ _ _ hf hM hS (lv_sub hl [3, 4, 5, 0] rfl)
          · replace hf := i_t hf hc_8
            refine lv_aload hx hb dX1_settle_44 (lv_at hl 1 rfl) ?_
            refine lv_ifnull hx hb dX1_settle_46 ?_
            refine lv_aload hx hb dX1_settle_49 (lv_at hl 0 rfl) ?_
            refine lv_ifnull hx hb dX1_settle_51 ?_
            refine lv_aload hx hb dX1_settle_54 (lv_at hl 1 rfl) ?_
            refine lv_dup hx hb dX1_settle_56 rfl ?_
            refine gf_55N hm_2 hx hb hE hM hown w_3_3 dX1_settle_57 ?_
            refine lv_aload_n hx hb dX1_settle_60 rfl (lv_at hl 2 rfl) ?_
            refine gr_39 hx hb hE hM hown w_2_29 dX1_settle_61 ?_
            refine lv_iload_n hx hb dX1_settle_64 rfl (lv_at hl 5 rfl) ?_
            refine la_39 hx hb hE hM hi_1 dX1_settle_65 ?_
            refine lv_isub hx hb dX1_settle_66 ?_
            refine pf_55N hm_2 hx hb hE hM hS hown w_3_3 dX1_settle_67 (fun H locs hM hS => ?_)
            refine lv_aload hx hb dX1_settle_70 (lv_at hl 0 rfl) ?_
            refine lv_dup hx hb dX1_settle_72 rfl ?_
            refine gf_55N hm_6 hx hb hE hM hown w_3_3 dX1_settle_73 ?_
            refine lv_aload_n hx hb dX1_settle_76 rfl (lv_at hl 2 rfl) ?_
            refine gr_39 hx hb hE hM hown w_2_29 dX1_settle_77 ?_
            refine lv_iload_n hx hb dX1_settle_80 rfl (lv_at hl 5 rfl) ?_
            refine la_39 hx hb hE hM hi_1 dX1_settle_81 ?_
            refine lv_iadd hx hb dX1_settle_82 ?_
            refine pf_55N hm_6 hx hb hE hM hS hown w_3_3 dX1_settle_83 (fun H locs hM hS => ?_)
            refine lv_iinc (v := a3 + 1) (lv' := [(3, .int (a3 + 1)), (5, .ref (ga G (69 + m_6))), (4, .ref (ga G (69 + m_2))), (0, .ref (ga G 36)), (1, .ref (ga G 7)), (2, .int b2)]) hx hb dX1_settle_86 hl (k := 5) rfl rfl (by decide) rfl (fun ls hl => ?_)
            refine lv_goto (tgt := 2) hx hb dX1_settle_89 (by decide) ?_
            exact ih (mu (mu x_6 55 m_2 ((x_6 55 m_2) - (x_6 48 a3.toNatClampNeg))) 55 m_6 (((mu x_6 55 m_2 ((x_6 55 m_2) - (x_6 48 a3.toNatClampNeg))) 55 m_6) + (x_6 48 a3.toNatClampNeg))) (a3 + 1) _ _ _ hf hM hS (lv_sub hl [3, 4, 5, 0] rfl)
set_option maxHeartbeats 4000000 in
set_option maxRecDepth 100000 in
theorem c_X1_settle (l : Launch) (fu nw : Nat) (G : GG) (x x' mo : Me) (a2 : Int32) (r : Unit) (hf : f_X1_settle fu nw x a2 = some (x', r)) : Met l yX1_settle [.code yX1_settle cX1_settle 6 none] rm_X1_settle (va_Pc [.ref (ga G 36), .ref (ga G 7), .int a2] (Pre G nw x mo)) (PV G nw x' mo) 0 0 (gA G) := by
  refine mt_ofW (cc := cX1_settle) (maxL := 6) (ret := none) (by decide +kernel) rfl ?_
  intro p e s m args below meth c s₁ B hml hv
  obtain ⟨rfl, hE, hM⟩ := hv
  have hx := B.exec
  have hb := B.bytes
  have hr := B.returns
  have hown : s.vm.findClass RX1 = some m.cls := findClass_of_methodNamed B.named
  have hlocks := B.notSynchronized
  have hS : va_S (gA G) s.heap s.heap [] := va_S.rf
  have hl := lv_entry ([.ref (ga G 36), .ref (ga G 7), .int a2]) (n := 6) (Nat.le_of_ble_eq_true rfl)
  rw [lg_entry_eq]
  generalize (lg_sl ([.ref (ga G 36), .ref (ga G 7), .int a2]) ++ List.replicate (6 - (lg_sl ([.ref (ga G 36), .ref (ga G 7), .int a2])).length) Slot.unset).toArray = ls at hl ⊢
  have hl : lv_has ls 6 [(0, .ref (ga G 36)), (1, .ref (ga G 7)), (2, .int a2)] := hl
  generalize ([.ref (ga G 36), .ref (ga G 7), .int a2] : List Value).toArray = args
  unfold f_X1_settle at hf
  refine lv_iconst (v := 0) hx hb dX1_settle_0 (by decide) ?_
  refine lv_istore_n (lv' := [(3, .int 0), (0, .ref (ga G 36)), (1, .ref (ga G 7)), (2, .int a2)]) hx hb dX1_settle_1 rfl hl (by decide) rfl (fun ls hl => ?_)
  refine wk_X1_settle_2 hx hb hml hown hE hr hlocks ?_ fu x 0 _ _ _ hf hM hS (lv_sub hl [1, 2, 3, 0] rfl)
  intro x_10 H locs ls hf hM hS hl
  refine lv_aload_n hx hb dX1_settle_92 rfl (lv_at hl 0 rfl) ?_
  refine lv_iconst (v := 0) hx hb dX1_settle_93 (by decide) ?_
  refine pf_45 hx hb hE hM hS hown w_2_25 dX1_settle_94 (fun H locs hM hS => ?_)
  exact rt_vX hx hb hr hf hM hS dX1_settle_97 hlocks
theorem k_X1_settle {p : Program} {l : Launch} {e : Env} {R : Room} {s : State} {m : MethodId} {args : Array Value} {below : List Frame} {meth : Method} {c : Code} {H : Heap} {locs : List Loc} {cells slots : Nat} {Q : State → Prop} {cc : ByteArray} {pc nL : Nat} {ls : Array Slot} {rest : List Value} {G : GG} {fu nw : Nat} {x x' mo : Me} {own : String} {index : Nat} {a2 : Int32} {r : Unit} (hx : p.tables.exec = Jvm.exec) (hb : c.code = cc) (hml : c.maxLocals = nL) (hown : s.vm.findClass own = some m.cls) (hE : EnvP G s) (hM : MemP G nw x mo H) (hS : va_S (gA G) s.heap H locs) (hw : Cond.methodLink own index yX1_settle ∈ lw_tbl) (hf : f_X1_settle fu nw x a2 = some (x', r)) (h1 : 2 + 1 ≤ R.frames) (h2 : 8 + (6 + 11) + 42 ≤ R.locals) (hsz : ls.size = nL) (hW : (rest.map fun v => v.category).sum ≤ 8) (hcs : cells ≤ R.cells ∧ slots ≤ R.slots) (hdg : decode cc pc = .ok (.invokevirtual index, 3)) (kk : ∀ (H1 : Heap) (locs1 : List Loc), MemP G nw x' mo H1 → va_S (gA G) s.heap H1 locs1 → W p l e R s m args below meth c H1 locs1 cells slots Q (F0 m (pc + 3) ls rest)) : W p l e R s m args below meth c H locs cells slots Q (F0 m pc ls (.int a2 :: .ref (ga G 7) :: .ref (ga G 36) :: rest)) := mm_kv hS (mm_runV (n := 2) (o := 36) (C := RX1) (T := TX1) (N := 4) (ci := 1) (As := [.ref (ga G 7), .int a2]) hx hb hml hown hE hM hS (c_X1_settle l fu nw G x x' mo a2 _ hf) (List.forall_mem_cons.mpr ⟨⟨hw, rfl⟩, List.forall_mem_cons.mpr ⟨⟨w_4_56, rfl⟩, List.forall_mem_cons.mpr ⟨⟨w_4_57, rfl⟩, List.forall_mem_cons.mpr ⟨⟨w_1_10, rfl⟩, List.forall_mem_cons.mpr ⟨⟨w_4_58, rfl⟩, fun _ h => absurd h List.not_mem_nil⟩⟩⟩⟩⟩) rfl rfl ⟨rfl, by decide, by decide, by decide +kernel⟩ ⟨h1, h2⟩ rfl rfl rfl hsz rfl hW hdg hcs) kk
