theorem mt_ofW {l : Launch} {y : MethodName} {ws ws' : List Cond} {rm : Room} {Pc : Array Value → State → Prop} {Qc : Array Value → State → Outcome → State → Prop} {mc ms : Nat} {free : Addr → Prop} {cc : ByteArray} {maxL : Nat} {ret : Option FieldType}
    (hy : plainFor y = true) (hw : ws = Cond.code y cc maxL ret :: ws')
    (body : ∀ p e s m args below meth c s₁, BodyLoose p l y (headSpec ws rm) cc maxL ret e s m args below meth c s₁ → c.maxLocals = maxL → Pc args s →
      W p l e (headSpec ws rm).room s m args below meth c s.heap [] 0 0 (MQ below Qc args s mc ms free) (entryFrame m args maxL)) : Met l y ws rm Pc Qc mc ms free := by
  refine MetFree.of_bodySF (code := cc) (maxLocals := maxL) (ret := ret) hy ?_ ?_
  · intro args s m h hn
    obtain ⟨meth, c, h1, h2, h3, h4, h5, h6, -, -⟩ := Cond.code_spec hn (atoms_spec (ws := ws) h _ (by rw [hw]; exact List.mem_cons_self))
    exact ⟨meth, c, h1, h2, h3, h4, h5, h6⟩
  · intro p e s m args below meth c s₁ B hml hP _
    have hh0 : s₁.heap = s.heap := by rw [B.state]; rfl
    obtain ⟨t, a1, o, b1, b2, b3⟩ := body p e s m args below meth c s₁ B hml hP s₁ hh0 (Stand.of_body B)
    exact ⟨t, o, a1, b1, b2, ⟨b3.1, b3.2⟩⟩
def sLen (t : Nat) : Int32 := Int32.ofNat (lenS.getD t 0) >>> ((0 : Int32) &&& 31)
def sCh (t : Nat) (i : Int32) : Int32 := ((((bytS.getD t []).getD i.toNatClampNeg 0) &&& 255).toUInt32 % 65536).toInt32
section MVR
variable {p : Program} {l : Launch} {e : Env} {R : Room} {s : State} {m : MethodId} {args : Array Value} {below : List Frame} {meth : Method} {c : Code} {H : Heap} {locs : List Loc} {cells slots : Nat} {Q : State → Prop}
variable {cc : ByteArray} {pc : Nat} {ls : Array Slot} {rest : List Value} {G : GG} {nw : Nat} {x mo : Me} {a : Nat}
theorem mm_runVr {own : String} {index : Nat} {y : MethodName} {bytes : ByteArray} {maxL nL n : Nat} {ret : Option FieldType} {rm : Room} {As : List Value} {C : String} {Qc : Array Value → State → Outcome → State → Prop} (hx : p.tables.exec = Jvm.exec) (hb : c.code = cc) (hml : c.maxLocals = nL) (hown : s.vm.findClass own = some m.cls) (hE : EnvP G s) (hM : MemP G nw x mo H) (hS : va_S (gA G) s.heap H locs)
    (hMet : Met l y [.code y bytes maxL ret] rm (va_Pc (.ref a :: As) (Pre G nw x mo)) Qc 0 0 (gA G))
    (hw : ∀ w ∈ wsV own index C y [.code y bytes maxL ret], w ∈ lw_tbl ∧ goodWord w = true) (hrc : rm.cells = 0) (hrs : rm.slots = 0)
    (hd : y.cls = C ∧ y.cls ≠ "java/lang/invoke/MethodHandle" ∧ y.cls ≠ "java/lang/invoke/VarHandle" ∧ (parseMethodDescriptor y.desc).map (fun d => d.parameters.length) = some n) (hR : rm.frames + 1 ≤ R.frames ∧ 8 + (maxL + 11) + rm.locals ≤ R.locals)
    (hrecv : ∃ cell : Cell, H[a]? = some cell ∧ cell.vm.isStatics = false ∧ s.vm.findClass C = some cell.cls) (hn : As.length = n) (hsize : ls.size = nL) {st0 : List Value} (hst : st0 = As.reverse ++ .ref a :: rest) (hW : (rest.map fun v => v.category).sum ≤ 8) (hdg : decode cc pc = .ok (.invokevirtual index, 3)) (hf : cells ≤ R.cells ∧ slots ≤ R.slots) :
    va_Run p l e R s m args below meth c H locs cells slots 0 0 (F0 m pc ls st0) rest (Qc (Value.ref a :: As).toArray) (gA G) :=
  va_runV (Ts := lw_tbl.filter goodWord) (bytes := bytes) (maxL := maxL) (ret := ret) ⟨hx, hb, hml, hown, fun w h => ew hE (List.mem_filter.mp h).1 (List.mem_filter.mp h).2⟩ hMet
    (cwV n (fun w h => ew hE (List.mem_filter.mp h).1 (List.mem_filter.mp h).2) (fun w h => ⟨List.mem_filter.mpr (hw w h), good_of_word (hw w h).2⟩) rfl hrc hrs hd hR)
    ⟨fun a U g mk q => ⟨q.1, q.2.1.calling, q.2.2⟩, hrecv, fun U hU hW => ⟨rfl, hE.move hW hU hS, by rw [hU]; exact hM⟩⟩ rfl hn hsize hst (lv_room hW) hdg hf
theorem mm_gcs {own : String} {index : Nat} (hx : p.tables.exec = Jvm.exec) (hb : c.code = cc) (hE : EnvP G s) (hS : va_S (gA G) s.heap H locs) (hown : s.vm.findClass own = some m.cls) (hw : Cond.fieldLink own index "java/lang/String" "COMPACT_STRINGS" "Z" ∈ lw_tbl) (hdg : decode cc pc = .ok (.getstatic index, 3))
    (kk : W p l e R s m args below meth c H locs cells slots Q (F0 m (pc + 3) ls (.int 1 :: rest))) : W p l e R s m args below meth c H locs cells slots Q (F0 m pc ls rest) :=
  va_gets hx hb hE.2.2.2.2.1 hS hown (ew hE hw rfl) (fun _ h => h) hdg kk
theorem mm_gfmt {own : String} {index : Nat} (hx : p.tables.exec = Jvm.exec) (hb : c.code = cc) (hE : EnvP G s) (hS : va_S (gA G) s.heap H locs) (hown : s.vm.findClass own = some m.cls) (hw : Cond.fieldLink own index "jdk/internal/util/Preconditions" "SIOOBE_FORMATTER" "Ljava/util/function/BiFunction;" ∈ lw_tbl) (hdg : decode cc pc = .ok (.getstatic index, 3))
    (kk : ∀ o : Option Nat, W p l e R s m args below meth c H locs cells slots Q (F0 m (pc + 3) ls (va_rf o :: rest))) : W p l e R s m args below meth c H locs cells slots Q (F0 m pc ls rest) := by
  rcases hE.2.2.2.2.2.1 with h | ⟨t, h⟩
  · exact va_gets hx hb h hS hown (ew hE hw rfl) (fun _ h => h) hdg (kk none)
  · exact va_gets hx hb h hS hown (ew hE hw rfl) (fun _ h => h) hdg (kk (some t))
theorem mm_gcoder {own : String} {index t : Nat} (ht : t < 8) (hx : p.tables.exec = Jvm.exec) (hb : c.code = cc) (hE : EnvP G s) (hS : va_S (gA G) s.heap H locs) (hown : s.vm.findClass own = some m.cls) (hw : Cond.fieldLink own index "java/lang/String" "coder" "B" ∈ lw_tbl) (hdg : decode cc pc = .ok (.getfield index, 3))
    (kk : W p l e R s m args below meth c H locs cells slots Q (F0 m (pc + 3) ls (.int 0 :: rest))) : W p l e R s m args below meth c H locs cells slots Q (F0 m pc ls (.ref (gk G t) :: rest)) :=
  vk_getf hx hb (hE.2.2.2.2.2.2.1.1 t ht).2.1 hS hown (ew hE hw rfl) (fun _ h => h) hdg kk
theorem mm_gvalue {own : String} {index t : Nat} (ht : t < 8) (hx : p.tables.exec = Jvm.exec) (hb : c.code = cc) (hE : EnvP G s) (hS : va_S (gA G) s.heap H locs) (hown : s.vm.findClass own = some m.cls) (hw : Cond.fieldLink own index "java/lang/String" "value" "[B" ∈ lw_tbl) (hdg : decode cc pc = .ok (.getfield index, 3))
    (kk : W p l e R s m args below meth c H locs cells slots Q (F0 m (pc + 3) ls (.ref (gv G t) :: rest))) : W p l e R s m args below meth c H locs cells slots Q (F0 m pc ls (.ref (gk G t) :: rest)) :=
  vk_getf hx hb (hE.2.2.2.2.2.2.1.1 t ht).2.2.1 hS hown (ew hE hw rfl) (fun _ h => h) hdg kk
end MVR
def rm_J0_coder_7d493 : Room := { frames := 0, cells := 0, slots := 0, locals := 0 }
set_option maxHeartbeats 4000000 in
set_option maxRecDepth 100000 in
theorem c_J0_coder_7d493 (l : Launch) (nw : Nat) (G : GG) (x mo : Me) (t : Nat) (ht : t < 8) : Met l yJ0_coder_7d493 [.code yJ0_coder_7d493 cJ0_coder_7d493 1 (some .byte)] rm_J0_coder_7d493 (va_Pc [.ref (gk G t)] (Pre G nw x mo)) (PI G nw x mo 0) 0 0 (gA G) := by
  refine mt_ofW (cc := cJ0_coder_7d493) (maxL := 1) (ret := (some .byte)) (by decide) rfl ?_
  intro p e s m args below meth c s₁ B hml hv
  obtain ⟨rfl, hE, hM⟩ := hv
  have hx := B.exec
  have hb := B.bytes
  have hr := B.returns
  have hown : s.vm.findClass RJ0 = some m.cls := findClass_of_methodNamed B.named
  have hlocks := B.notSynchronized
  have hS : va_S (gA G) s.heap s.heap [] := va_S.rf
  have hl := lv_entry ([.ref (gk G t)]) (n := 1) (Nat.le_of_ble_eq_true rfl)
  rw [lg_entry_eq]
  generalize (lg_sl ([.ref (gk G t)]) ++ List.replicate (1 - (lg_sl ([.ref (gk G t)])).length) Slot.unset).toArray = ls at hl ⊢
  have hl : lv_has ls 1 [(0, .ref (gk G t))] := hl
  generalize ([.ref (gk G t)] : List Value).toArray = args
  refine mm_gcs hx hb hE hS hown w_2_135 dJ0_coder_7d493_0 ?_
  refine lv_if_eq (tgt := 13) hx hb dJ0_coder_7d493_3 (by decide) (fun hc => absurd hc (by decide)) (fun _ => ?_)
  refine lv_aload_n hx hb dJ0_coder_7d493_6 rfl (lv_at hl 0 rfl) ?_
  refine mm_gcoder ht hx hb hE hS hown w_5_234 dJ0_coder_7d493_7 ?_
  refine lv_goto (tgt := 14) hx hb dJ0_coder_7d493_10 (by decide) ?_
  exact rt_zX hx hb hr rfl rfl hM hS dJ0_coder_7d493_14 hlocks
def rm_J0_isLatin1_aae02 : Room := { frames := 0, cells := 0, slots := 0, locals := 0 }
set_option maxHeartbeats 4000000 in
set_option maxRecDepth 100000 in
theorem c_J0_isLatin1_aae02 (l : Launch) (nw : Nat) (G : GG) (x mo : Me) (t : Nat) (ht : t < 8) : Met l yJ0_isLatin1_aae02 [.code yJ0_isLatin1_aae02 cJ0_isLatin1_aae02 1 (some .boolean)] rm_J0_isLatin1_aae02 (va_Pc [.ref (gk G t)] (Pre G nw x mo)) (PI G nw x mo 1) 0 0 (gA G) := by
  refine mt_ofW (cc := cJ0_isLatin1_aae02) (maxL := 1) (ret := (some .boolean)) (by decide) rfl ?_
  intro p e s m args below meth c s₁ B hml hv
  obtain ⟨rfl, hE, hM⟩ := hv
  have hx := B.exec
  have hb := B.bytes
  have hr := B.returns
  have hown : s.vm.findClass RJ0 = some m.cls := findClass_of_methodNamed B.named
  have hlocks := B.notSynchronized
  have hS : va_S (gA G) s.heap s.heap [] := va_S.rf
  have hl := lv_entry ([.ref (gk G t)]) (n := 1) (Nat.le_of_ble_eq_true rfl)
  rw [lg_entry_eq]
  generalize (lg_sl ([.ref (gk G t)]) ++ List.replicate (1 - (lg_sl ([.ref (gk G t)])).length) Slot.unset).toArray = ls at hl ⊢
  have hl : lv_has ls 1 [(0, .ref (gk G t))] := hl
  generalize ([.ref (gk G t)] : List Value).toArray = args
  refine mm_gcs hx hb hE hS hown w_2_135 dJ0_isLatin1_aae02_0 ?_
  refine lv_if_eq (tgt := 17) hx hb dJ0_isLatin1_aae02_3 (by decide) (fun hc => absurd hc (by decide)) (fun _ => ?_)
  refine lv_aload_n hx hb dJ0_isLatin1_aae02_6 rfl (lv_at hl 0 rfl) ?_
  refine mm_gcoder ht hx hb hE hS hown w_5_234 dJ0_isLatin1_aae02_7 ?_
  refine lv_if_ne (tgt := 17) hx hb dJ0_isLatin1_aae02_10 (by decide) (fun hc => absurd rfl hc) (fun _ => ?_)
  refine lv_iconst (v := 1) hx hb dJ0_isLatin1_aae02_13 (by decide) ?_
  refine lv_goto (tgt := 18) hx hb dJ0_isLatin1_aae02_14 (by decide) ?_
  exact rt_zX hx hb hr rfl rfl hM hS dJ0_isLatin1_aae02_18 hlocks
def rm_J0_length_8abf5 : Room := { frames := 1, cells := 0, slots := 0, locals := 20 }
set_option maxHeartbeats 4000000 in
set_option maxRecDepth 100000 in
theorem c_J0_length_8abf5 (l : Launch) (nw : Nat) (G : GG) (x mo : Me) (t : Nat) (ht : t < 8) : Met l yJ0_length_8abf5 [.code yJ0_length_8abf5 cJ0_length_8abf5 1 (some .int)] rm_J0_length_8abf5 (va_Pc [.ref (gk G t)] (Pre G nw x mo)) (PI G nw x mo (sLen t)) 0 0 (gA G) := by
  refine mt_ofW (cc := cJ0_length_8abf5) (maxL := 1) (ret := (some .int)) (by decide) rfl ?_
  intro p e s m args below meth c s₁ B hml hv
  obtain ⟨rfl, hE, hM⟩ := hv
  have hx := B.exec
  have hb := B.bytes
  have hr := B.returns
  have hown : s.vm.findClass RJ0 = some m.cls := findClass_of_methodNamed B.named
  have hlocks := B.notSynchronized
  have hS : va_S (gA G) s.heap s.heap [] := va_S.rf
  have hl := lv_entry ([.ref (gk G t)]) (n := 1) (Nat.le_of_ble_eq_true rfl)
  rw [lg_entry_eq]
  generalize (lg_sl ([.ref (gk G t)]) ++ List.replicate (1 - (lg_sl ([.ref (gk G t)])).length) Slot.unset).toArray = ls at hl ⊢
  have hl : lv_has ls 1 [(0, .ref (gk G t))] := hl
  generalize ([.ref (gk G t)] : List Value).toArray = args
  refine lv_aload_n hx hb dJ0_length_8abf5_0 rfl (lv_at hl 0 rfl) ?_
  refine mm_gvalue ht hx hb hE hS hown w_5_233 dJ0_length_8abf5_1 ?_
  refine va_tlen hx hb (hE.2.2.2.2.2.2.1.1 t ht).2.2.2 hS rfl dJ0_length_8abf5_4 ?_
  refine lv_aload_n hx hb dJ0_length_8abf5_5 rfl (lv_at hl 0 rfl) ?_
  refine mm_ki hS (mm_runVr (n := 0) (C := RJ0) (As := []) hx hb hml hown hE hM hS (c_J0_coder_7d493 l nw G x mo t ht) (List.forall_mem_cons.mpr ⟨⟨w_2_131, rfl⟩, List.forall_mem_cons.mpr ⟨⟨w_2_132, rfl⟩, List.forall_mem_cons.mpr ⟨⟨w_2_133, rfl⟩, List.forall_mem_cons.mpr ⟨⟨w_1_14, rfl⟩, List.forall_mem_cons.mpr ⟨⟨w_2_134, rfl⟩, fun _ h => absurd h List.not_mem_nil⟩⟩⟩⟩⟩) rfl rfl ⟨rfl, by decide, by decide, by decide +kernel⟩ ⟨Nat.le_of_ble_eq_true rfl, Nat.le_of_ble_eq_true rfl⟩ (vk_recv hE.2.2.2.2.2.2.1 ht hS) rfl hl.1 rfl (Nat.le_of_ble_eq_true rfl) dJ0_length_8abf5_6 ⟨Nat.zero_le _, Nat.zero_le _⟩) (fun H locs hM hS => ?_)
  refine lv_ishr hx hb dJ0_length_8abf5_9 ?_
  exact rt_iX hx hb hr rfl hM hS dJ0_length_8abf5_10 hlocks
def rm_J3_checkIndex_8e157n : Room := { frames := 0, cells := 0, slots := 0, locals := 0 }
set_option maxHeartbeats 4000000 in
set_option maxRecDepth 100000 in
theorem c_J3_checkIndex_8e157n (l : Launch) (nw : Nat) (G : GG) (x mo : Me) (i n : Int32) (h0 : ¬ i < 0) (h1 : i < n) : Met l yJ3_checkIndex_8e157 [.code yJ3_checkIndex_8e157 cJ3_checkIndex_8e157 3 (some .int)] rm_J3_checkIndex_8e157n (va_Pc [.int i, .int n, .null] (Pre G nw x mo)) (PI G nw x mo i) 0 0 (gA G) := by
  refine mt_ofW (cc := cJ3_checkIndex_8e157) (maxL := 3) (ret := (some .int)) (by decide) rfl ?_
  intro p e s m args below meth c s₁ B hml hv
  obtain ⟨rfl, hE, hM⟩ := hv
  have hx := B.exec
  have hb := B.bytes
  have hr := B.returns
  have hown : s.vm.findClass RJ3 = some m.cls := findClass_of_methodNamed B.named
  have hlocks := B.notSynchronized
  have hS : va_S (gA G) s.heap s.heap [] := va_S.rf
  have hl := lv_entry ([.int i, .int n, .null]) (n := 3) (Nat.le_of_ble_eq_true rfl)
  rw [lg_entry_eq]
  generalize (lg_sl ([.int i, .int n, .null]) ++ List.replicate (3 - (lg_sl ([.int i, .int n, .null])).length) Slot.unset).toArray = ls at hl ⊢
  have hl : lv_has ls 3 [(0, .int i), (1, .int n), (2, .null)] := hl
  generalize ([.int i, .int n, .null] : List Value).toArray = args
  refine lv_iload_n hx hb dJ3_checkIndex_8e157_0 rfl (lv_at hl 0 rfl) ?_
  refine lv_if_lt (tgt := 9) hx hb dJ3_checkIndex_8e157_1 (by decide) (fun hc => absurd hc h0) (fun _ => ?_)
  refine lv_iload_n hx hb dJ3_checkIndex_8e157_4 rfl (lv_at hl 0 rfl) ?_
  refine lv_iload_n hx hb dJ3_checkIndex_8e157_5 rfl (lv_at hl 1 rfl) ?_
  refine lv_icmp_lt (tgt := 16) hx hb dJ3_checkIndex_8e157_6 (by decide) (fun _ => ?_) (fun hc => absurd h1 hc)
  refine lv_iload_n hx hb dJ3_checkIndex_8e157_16 rfl (lv_at hl 0 rfl) ?_
  exact rt_iX hx hb hr rfl hM hS dJ3_checkIndex_8e157_17 hlocks
def rm_J3_checkIndex_8e157s : Room := { frames := 0, cells := 0, slots := 0, locals := 0 }
set_option maxHeartbeats 4000000 in
set_option maxRecDepth 100000 in
theorem c_J3_checkIndex_8e157s (l : Launch) (nw : Nat) (G : GG) (x mo : Me) (i n : Int32) (q : Nat) (h0 : ¬ i < 0) (h1 : i < n) : Met l yJ3_checkIndex_8e157 [.code yJ3_checkIndex_8e157 cJ3_checkIndex_8e157 3 (some .int)] rm_J3_checkIndex_8e157s (va_Pc [.int i, .int n, .ref q] (Pre G nw x mo)) (PI G nw x mo i) 0 0 (gA G) := by
  refine mt_ofW (cc := cJ3_checkIndex_8e157) (maxL := 3) (ret := (some .int)) (by decide) rfl ?_
  intro p e s m args below meth c s₁ B hml hv
  obtain ⟨rfl, hE, hM⟩ := hv
  have hx := B.exec
  have hb := B.bytes
  have hr := B.returns
  have hown : s.vm.findClass RJ3 = some m.cls := findClass_of_methodNamed B.named
  have hlocks := B.notSynchronized
  have hS : va_S (gA G) s.heap s.heap [] := va_S.rf
  have hl := lv_entry ([.int i, .int n, .ref q]) (n := 3) (Nat.le_of_ble_eq_true rfl)
  rw [lg_entry_eq]
  generalize (lg_sl ([.int i, .int n, .ref q]) ++ List.replicate (3 - (lg_sl ([.int i, .int n, .ref q])).length) Slot.unset).toArray = ls at hl ⊢
  have hl : lv_has ls 3 [(0, .int i), (1, .int n), (2, .ref q)] := hl
  generalize ([.int i, .int n, .ref q] : List Value).toArray = args
  refine lv_iload_n hx hb dJ3_checkIndex_8e157_0 rfl (lv_at hl 0 rfl) ?_
  refine lv_if_lt (tgt := 9) hx hb dJ3_checkIndex_8e157_1 (by decide) (fun hc => absurd hc h0) (fun _ => ?_)
  refine lv_iload_n hx hb dJ3_checkIndex_8e157_4 rfl (lv_at hl 0 rfl) ?_
  refine lv_iload_n hx hb dJ3_checkIndex_8e157_5 rfl (lv_at hl 1 rfl) ?_
  refine lv_icmp_lt (tgt := 16) hx hb dJ3_checkIndex_8e157_6 (by decide) (fun _ => ?_) (fun hc => absurd h1 hc)
  refine lv_iload_n hx hb dJ3_checkIndex_8e157_16 rfl (lv_at hl 0 rfl) ?_
  exact rt_iX hx hb hr rfl hM hS dJ3_checkIndex_8e157_17 hlocks
def rm_J0_checkIndex_df160 : Room := { frames := 1, cells := 0, slots := 0, locals := 22 }
set_option maxHeartbeats 4000000 in
set_option maxRecDepth 100000 in
theorem c_J0_checkIndex_df160 (l : Launch) (nw : Nat) (G : GG) (x mo : Me) (i n : Int32) (h0 : ¬ i < 0) (h1 : i < n) : Met l yJ0_checkIndex_df160 [.code yJ0_checkIndex_df160 cJ0_checkIndex_df160 2 none] rm_J0_checkIndex_df160 (va_Pc [.int i, .int n] (Pre G nw x mo)) (PV G nw x mo) 0 0 (gA G) := by
  refine mt_ofW (cc := cJ0_checkIndex_df160) (maxL := 2) (ret := none) (by decide) rfl ?_
  intro p e s m args below meth c s₁ B hml hv
  obtain ⟨rfl, hE, hM⟩ := hv
  have hx := B.exec
  have hb := B.bytes
  have hr := B.returns
  have hown : s.vm.findClass RJ0 = some m.cls := findClass_of_methodNamed B.named
  have hlocks := B.notSynchronized
  have hS : va_S (gA G) s.heap s.heap [] := va_S.rf
  have hl := lv_entry ([.int i, .int n]) (n := 2) (Nat.le_of_ble_eq_true rfl)
  rw [lg_entry_eq]
  generalize (lg_sl ([.int i, .int n]) ++ List.replicate (2 - (lg_sl ([.int i, .int n])).length) Slot.unset).toArray = ls at hl ⊢
  have hl : lv_has ls 2 [(0, .int i), (1, .int n)] := hl
  generalize ([.int i, .int n] : List Value).toArray = args
  refine lv_iload_n hx hb dJ0_checkIndex_df160_0 rfl (lv_at hl 0 rfl) ?_
  refine lv_iload_n hx hb dJ0_checkIndex_df160_1 rfl (lv_at hl 1 rfl) ?_
  refine mm_gfmt hx hb hE hS hown w_2_151 dJ0_checkIndex_df160_2 (fun o => ?_)
  cases o with
  | none =>
    refine mm_ki hS (mm_runS (n := 3) (As := [.int i, .int n, .null]) hx hb hml hown hE hM hS (c_J3_checkIndex_8e157n l nw G x mo i n h0 h1) (List.forall_mem_cons.mpr ⟨⟨w_2_153, rfl⟩, List.forall_mem_cons.mpr ⟨⟨w_2_154, rfl⟩, List.forall_mem_cons.mpr ⟨⟨w_1_16, rfl⟩, List.forall_mem_cons.mpr ⟨⟨w_2_155, rfl⟩, fun _ h => absurd h List.not_mem_nil⟩⟩⟩⟩) rfl rfl ⟨by decide, by decide, by decide +kernel⟩ ⟨Nat.le_of_ble_eq_true rfl, Nat.le_of_ble_eq_true rfl⟩ rfl hl.1 rfl (Nat.le_of_ble_eq_true rfl) dJ0_checkIndex_df160_5 ⟨Nat.zero_le _, Nat.zero_le _⟩) (fun H locs hM hS => ?_)
    refine lv_pop hx hb dJ0_checkIndex_df160_8 rfl ?_
    exact rt_vX (u := ()) hx hb hr rfl hM hS dJ0_checkIndex_df160_9 hlocks
  | some q =>
    refine mm_ki hS (mm_runS (n := 3) (As := [.int i, .int n, .ref q]) hx hb hml hown hE hM hS (c_J3_checkIndex_8e157s l nw G x mo i n q h0 h1) (List.forall_mem_cons.mpr ⟨⟨w_2_153, rfl⟩, List.forall_mem_cons.mpr ⟨⟨w_2_154, rfl⟩, List.forall_mem_cons.mpr ⟨⟨w_1_16, rfl⟩, List.forall_mem_cons.mpr ⟨⟨w_2_155, rfl⟩, fun _ h => absurd h List.not_mem_nil⟩⟩⟩⟩) rfl rfl ⟨by decide, by decide, by decide +kernel⟩ ⟨Nat.le_of_ble_eq_true rfl, Nat.le_of_ble_eq_true rfl⟩ rfl hl.1 rfl (Nat.le_of_ble_eq_true rfl) dJ0_checkIndex_df160_5 ⟨Nat.zero_le _, Nat.zero_le _⟩) (fun H locs hM hS => ?_)
    refine lv_pop hx hb dJ0_checkIndex_df160_8 rfl ?_
    exact rt_vX (u := ()) hx hb hr rfl hM hS dJ0_checkIndex_df160_9 hlocks
def rm_J1_charAt_3b067 : Room := { frames := 2, cells := 0, slots := 0, locals := 43 }
set_option maxHeartbeats 4000000 in
set_option maxRecDepth 100000 in
theorem c_J1_charAt_3b067 (l : Launch) (nw : Nat) (G : GG) (x mo : Me) (t : Nat) (i : Int32) (ht : t < 8) (hi : inb i (lenS.getD t 0) = true) : Met l yJ1_charAt_3b067 [.code yJ1_charAt_3b067 cJ1_charAt_3b067 2 (some .char)] rm_J1_charAt_3b067 (va_Pc [.ref (gv G t), .int i] (Pre G nw x mo)) (PI G nw x mo (sCh t i)) 0 0 (gA G) := by
  refine mt_ofW (cc := cJ1_charAt_3b067) (maxL := 2) (ret := (some .char)) (by decide) rfl ?_
  intro p e s m args below meth c s₁ B hml hv
  obtain ⟨rfl, hE, hM⟩ := hv
  have hx := B.exec
  have hb := B.bytes
  have hr := B.returns
  have hown : s.vm.findClass RJ1 = some m.cls := findClass_of_methodNamed B.named
  have hlocks := B.notSynchronized
  have hS : va_S (gA G) s.heap s.heap [] := va_S.rf
  have hl := lv_entry ([.ref (gv G t), .int i]) (n := 2) (Nat.le_of_ble_eq_true rfl)
  rw [lg_entry_eq]
  generalize (lg_sl ([.ref (gv G t), .int i]) ++ List.replicate (2 - (lg_sl ([.ref (gv G t), .int i])).length) Slot.unset).toArray = ls at hl ⊢
  have hl : lv_has ls 2 [(0, .ref (gv G t)), (1, .int i)] := hl
  generalize ([.ref (gv G t), .int i] : List Value).toArray = args
  have hL : lenS.getD t 0 < 2 ^ 31 := by
    rcases (show t = 0 ∨ t = 1 ∨ t = 2 ∨ t = 3 ∨ t = 4 ∨ t = 5 ∨ t = 6 ∨ t = 7 by omega) with rfl | rfl | rfl | rfl | rfl | rfl | rfl | rfl <;> decide
  have h0 : ¬ i < 0 := fun q => inb_in hi (Or.inl q)
  have h1 : i < Int32.ofNat (lenS.getD t 0) := by
    obtain ⟨j, hj, e⟩ := vp_in_of (inb_in hi) hL
    rw [e]
    exact nI_lt hj hL
  refine lv_iload_n hx hb dJ1_charAt_3b067_0 rfl (lv_at hl 1 rfl) ?_
  refine lv_aload_n hx hb dJ1_charAt_3b067_1 rfl (lv_at hl 0 rfl) ?_
  refine va_tlen hx hb (hE.2.2.2.2.2.2.1.1 t ht).2.2.2 hS rfl dJ1_charAt_3b067_2 ?_
  refine mm_kv hS (mm_runS (n := 2) (As := [.int i, .int (Int32.ofNat (lenS.getD t 0))]) hx hb hml hown hE hM hS (c_J0_checkIndex_df160 l nw G x mo i _ h0 h1) (List.forall_mem_cons.mpr ⟨⟨w_2_148, rfl⟩, List.forall_mem_cons.mpr ⟨⟨w_2_149, rfl⟩, List.forall_mem_cons.mpr ⟨⟨w_1_14, rfl⟩, List.forall_mem_cons.mpr ⟨⟨w_2_150, rfl⟩, fun _ h => absurd h List.not_mem_nil⟩⟩⟩⟩) rfl rfl ⟨by decide, by decide, by decide +kernel⟩ ⟨Nat.le_of_ble_eq_true rfl, Nat.le_of_ble_eq_true rfl⟩ rfl hl.1 rfl (Nat.le_of_ble_eq_true rfl) dJ1_charAt_3b067_3 ⟨Nat.zero_le _, Nat.zero_le _⟩) (fun H locs hM hS => ?_)
  refine lv_aload_n hx hb dJ1_charAt_3b067_6 rfl (lv_at hl 0 rfl) ?_
  refine lv_iload_n hx hb dJ1_charAt_3b067_7 rfl (lv_at hl 1 rfl) ?_
  refine va_tb hx hb (hE.2.2.2.2.2.2.1.1 t ht).2.2.2 hS (inb_in hi) rfl dJ1_charAt_3b067_8 ?_
  refine lv_sipush (v := 255) hx hb dJ1_charAt_3b067_9 (by decide) ?_
  refine lv_iand hx hb dJ1_charAt_3b067_12 ?_
  refine lv_i2c (v := sCh t i) hx hb dJ1_charAt_3b067_13 rfl ?_
  exact rt_zX hx hb hr (pk_nc _) rfl hM hS dJ1_charAt_3b067_14 hlocks
def rm_J0_charAt_5068e : Room := { frames := 3, cells := 0, slots := 0, locals := 64 }
set_option maxHeartbeats 4000000 in
set_option maxRecDepth 100000 in
theorem c_J0_charAt_5068e (l : Launch) (nw : Nat) (G : GG) (x mo : Me) (t : Nat) (i : Int32) (ht : t < 8) (hi : inb i (lenS.getD t 0) = true) : Met l yJ0_charAt_5068e [.code yJ0_charAt_5068e cJ0_charAt_5068e 2 (some .char)] rm_J0_charAt_5068e (va_Pc [.ref (gk G t), .int i] (Pre G nw x mo)) (PI G nw x mo (sCh t i)) 0 0 (gA G) := by
  refine mt_ofW (cc := cJ0_charAt_5068e) (maxL := 2) (ret := (some .char)) (by decide) rfl ?_
  intro p e s m args below meth c s₁ B hml hv
  obtain ⟨rfl, hE, hM⟩ := hv
  have hx := B.exec
  have hb := B.bytes
  have hr := B.returns
  have hown : s.vm.findClass RJ0 = some m.cls := findClass_of_methodNamed B.named
  have hlocks := B.notSynchronized
  have hS : va_S (gA G) s.heap s.heap [] := va_S.rf
  have hl := lv_entry ([.ref (gk G t), .int i]) (n := 2) (Nat.le_of_ble_eq_true rfl)
  rw [lg_entry_eq]
  generalize (lg_sl ([.ref (gk G t), .int i]) ++ List.replicate (2 - (lg_sl ([.ref (gk G t), .int i])).length) Slot.unset).toArray = ls at hl ⊢
  have hl : lv_has ls 2 [(0, .ref (gk G t)), (1, .int i)] := hl
  generalize ([.ref (gk G t), .int i] : List Value).toArray = args
  refine lv_aload_n hx hb dJ0_charAt_5068e_0 rfl (lv_at hl 0 rfl) ?_
  refine mm_ki hS (mm_runVr (n := 0) (C := RJ0) (As := []) hx hb hml hown hE hM hS (c_J0_isLatin1_aae02 l nw G x mo t ht) (List.forall_mem_cons.mpr ⟨⟨w_2_141, rfl⟩, List.forall_mem_cons.mpr ⟨⟨w_2_142, rfl⟩, List.forall_mem_cons.mpr ⟨⟨w_2_143, rfl⟩, List.forall_mem_cons.mpr ⟨⟨w_1_14, rfl⟩, List.forall_mem_cons.mpr ⟨⟨w_2_144, rfl⟩, fun _ h => absurd h List.not_mem_nil⟩⟩⟩⟩⟩) rfl rfl ⟨rfl, by decide, by decide, by decide +kernel⟩ ⟨Nat.le_of_ble_eq_true rfl, Nat.le_of_ble_eq_true rfl⟩ (vk_recv hE.2.2.2.2.2.2.1 ht hS) rfl hl.1 rfl (Nat.le_of_ble_eq_true rfl) dJ0_charAt_5068e_1 ⟨Nat.zero_le _, Nat.zero_le _⟩) (fun H locs hM hS => ?_)
  refine lv_if_eq (tgt := 16) hx hb dJ0_charAt_5068e_4 (by decide) (fun hc => absurd hc (by decide)) (fun _ => ?_)
  refine lv_aload_n hx hb dJ0_charAt_5068e_7 rfl (lv_at hl 0 rfl) ?_
  refine mm_gvalue ht hx hb hE hS hown w_5_233 dJ0_charAt_5068e_8 ?_
  refine lv_iload_n hx hb dJ0_charAt_5068e_11 rfl (lv_at hl 1 rfl) ?_
  refine mm_ki hS (mm_runS (n := 2) (As := [.ref (gv G t), .int i]) hx hb hml hown hE hM hS (c_J1_charAt_3b067 l nw G x mo t i ht hi) (List.forall_mem_cons.mpr ⟨⟨w_2_145, rfl⟩, List.forall_mem_cons.mpr ⟨⟨w_2_146, rfl⟩, List.forall_mem_cons.mpr ⟨⟨w_1_15, rfl⟩, List.forall_mem_cons.mpr ⟨⟨w_2_147, rfl⟩, fun _ h => absurd h List.not_mem_nil⟩⟩⟩⟩) rfl rfl ⟨by decide, by decide, by decide +kernel⟩ ⟨Nat.le_of_ble_eq_true rfl, Nat.le_of_ble_eq_true rfl⟩ rfl hl.1 rfl (Nat.le_of_ble_eq_true rfl) dJ0_charAt_5068e_12 ⟨Nat.zero_le _, Nat.zero_le _⟩) (fun H locs hM hS => ?_)
  exact rt_zX hx hb hr (pk_nc _) rfl hM hS dJ0_charAt_5068e_15 hlocks
theorem k_len {p : Program} {l : Launch} {e : Env} {R : Room} {s : State} {m : MethodId} {args : Array Value} {below : List Frame} {meth : Method} {c : Code} {H : Heap} {locs : List Loc} {cells slots : Nat} {Q : State → Prop} {cc : ByteArray} {pc nL t : Nat} {ls : Array Slot} {rest : List Value} {G : GG} {nw : Nat} {x mo : Me} {own : String} {index : Nat} (hx : p.tables.exec = Jvm.exec) (hb : c.code = cc) (hml : c.maxLocals = nL) (hown : s.vm.findClass own = some m.cls) (hE : EnvP G s) (hM : MemP G nw x mo H) (hS : va_S (gA G) s.heap H locs) (hw : Cond.methodLink own index yJ0_length_8abf5 ∈ lw_tbl) (ht : t < 8) (h1 : 1 + 1 ≤ R.frames) (h2 : 8 + (1 + 11) + 20 ≤ R.locals) (hsz : ls.size = nL) (hW : (rest.map fun v => v.category).sum ≤ 8) (hcs : cells ≤ R.cells ∧ slots ≤ R.slots) (hdg : decode cc pc = .ok (.invokevirtual index, 3)) (kk : ∀ (H1 : Heap) (locs1 : List Loc), MemP G nw x mo H1 → va_S (gA G) s.heap H1 locs1 → W p l e R s m args below meth c H1 locs1 cells slots Q (F0 m (pc + 3) ls (.int (sLen t) :: rest))) : W p l e R s m args below meth c H locs cells slots Q (F0 m pc ls (.ref (gk G t) :: rest)) :=
  mm_ki hS (mm_runVr (n := 0) (C := RJ0) (As := []) hx hb hml hown hE hM hS (c_J0_length_8abf5 l nw G x mo t ht) (List.forall_mem_cons.mpr ⟨⟨hw, rfl⟩, List.forall_mem_cons.mpr ⟨⟨w_2_128, rfl⟩, List.forall_mem_cons.mpr ⟨⟨w_2_129, rfl⟩, List.forall_mem_cons.mpr ⟨⟨w_1_14, rfl⟩, List.forall_mem_cons.mpr ⟨⟨w_2_130, rfl⟩, fun _ h => absurd h List.not_mem_nil⟩⟩⟩⟩⟩) rfl rfl ⟨rfl, by decide, by decide, by decide +kernel⟩ ⟨h1, h2⟩ (vk_recv hE.2.2.2.2.2.2.1 ht hS) rfl hsz rfl hW hdg hcs) kk
theorem k_chr {p : Program} {l : Launch} {e : Env} {R : Room} {s : State} {m : MethodId} {args : Array Value} {below : List Frame} {meth : Method} {c : Code} {H : Heap} {locs : List Loc} {cells slots : Nat} {Q : State → Prop} {cc : ByteArray} {pc nL t : Nat} {ls : Array Slot} {rest : List Value} {G : GG} {nw : Nat} {x mo : Me} {own : String} {index : Nat} {i : Int32} (hx : p.tables.exec = Jvm.exec) (hb : c.code = cc) (hml : c.maxLocals = nL) (hown : s.vm.findClass own = some m.cls) (hE : EnvP G s) (hM : MemP G nw x mo H) (hS : va_S (gA G) s.heap H locs) (hw : Cond.methodLink own index yJ0_charAt_5068e ∈ lw_tbl) (ht : t < 8) (hi : inb i (lenS.getD t 0) = true) (h1 : 3 + 1 ≤ R.frames) (h2 : 8 + (2 + 11) + 64 ≤ R.locals) (hsz : ls.size = nL) (hW : (rest.map fun v => v.category).sum ≤ 8) (hcs : cells ≤ R.cells ∧ slots ≤ R.slots) (hdg : decode cc pc = .ok (.invokevirtual index, 3)) (kk : ∀ (H1 : Heap) (locs1 : List Loc), MemP G nw x mo H1 → va_S (gA G) s.heap H1 locs1 → W p l e R s m args below meth c H1 locs1 cells slots Q (F0 m (pc + 3) ls (.int (sCh t i) :: rest))) : W p l e R s m args below meth c H locs cells slots Q (F0 m pc ls (.int i :: .ref (gk G t) :: rest)) :=
  mm_ki hS (mm_runVr (n := 1) (C := RJ0) (As := [.int i]) hx hb hml hown hE hM hS (c_J0_charAt_5068e l nw G x mo t i ht hi) (List.forall_mem_cons.mpr ⟨⟨hw, rfl⟩, List.forall_mem_cons.mpr ⟨⟨w_2_138, rfl⟩, List.forall_mem_cons.mpr ⟨⟨w_2_139, rfl⟩, List.forall_mem_cons.mpr ⟨⟨w_1_14, rfl⟩, List.forall_mem_cons.mpr ⟨⟨w_2_140, rfl⟩, fun _ h => absurd h List.not_mem_nil⟩⟩⟩⟩⟩) rfl rfl ⟨rfl, by decide, by decide, by decide +kernel⟩ ⟨h1, h2⟩ (vk_recv hE.2.2.2.2.2.2.1 ht hS) rfl hsz rfl hW hdg hcs) kk
