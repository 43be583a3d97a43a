section MMR
variable {p : Program} {l : Launch} {e : Env} {R : Room} {s : State} {m : MethodId} {args : Array Value} {below : List Frame} {meth : Method} {c : Code} {H : Heap} {locs : List Loc} {cells slots : Nat} {Q : State → Prop}
variable {cc : ByteArray} {pc : Nat} {ls : Array Slot} {rest : List Value} {G : GG} {nw : Nat} {x mo x' mo' : Me} {a o : Nat}
theorem mm_get {own ref : String} {C : String} {T : u_T} {N ci index : Nat} {fs : List Value} {v : Value} (k : Nat) (hx : p.tables.exec = Jvm.exec) (hb : c.code = cc) (hE : EnvP G s) (hM : MemP G nw x mo H) (hown : s.vm.findClass own = some m.cls)
    (he : (mw G nw x mo)[o]? = some (a, .inr (ci, fs))) (hc : vwCl[ci]? = some (C, T, N)) (hk : k < N) (hL : ∀ w ∈ u_ws C T N, w ∈ lw_tbl ∧ goodWord w = true) (hr : (T k).1 = ref) (hv : fs[k]? = some v)
    (hlink : (Cond.fieldLink own index ref (T k).2.1 (T k).2.2.1).before args s = true) (hdg : decode cc pc = .ok (.getfield index, 3))
    (kk : W p l e R s m args below meth c H locs cells slots Q (F0 m (pc + 3) ls (v :: rest))) : W p l e R s m args below meth c H locs cells slots Q (F0 m pc ls (.ref a :: rest)) :=
  va_get (Ts := u_ws C T N) hx hb (fun w h => ew hE (hL w h).1 (hL w h).2) (fun _ h => h) hown hE.1 hM.1 o he hc k hk hlink (fun _ h => by rw [← hr]; exact h) hv hdg kk
theorem mm_getN {own ref host : String} {C : String} {T : u_T} {N ci index : Nat} {fs : List Value} {v : Value} (k : Nat) (hx : p.tables.exec = Jvm.exec) (hb : c.code = cc) (hE : EnvP G s) (hM : MemP G nw x mo H) (hown : s.vm.findClass own = some m.cls)
    (he : (mw G nw x mo)[o]? = some (a, .inr (ci, fs))) (hc : vwCl[ci]? = some (C, T, N)) (hk : k < N) (hL : ∀ w ∈ u_ws C T N, w ∈ lw_tbl ∧ goodWord w = true) (hr : (T k).1 = ref) (hv : fs[k]? = some v)
    (hlink : (Cond.fieldLinkNest own index ref (T k).2.1 (T k).2.2.1 host).before args s = true) (hdg : decode cc pc = .ok (.getfield index, 3))
    (kk : W p l e R s m args below meth c H locs cells slots Q (F0 m (pc + 3) ls (v :: rest))) : W p l e R s m args below meth c H locs cells slots Q (F0 m pc ls (.ref a :: rest)) :=
  va_getN (Ts := u_ws C T N) hx hb (fun w h => ew hE (hL w h).1 (hL w h).2) (fun _ h => h) hown hE.1 hM.1 o he hc k hk hlink (fun _ h => by rw [← hr]; exact h) hv hdg kk
theorem mm_put {own ref : String} {C : String} {T : u_T} {N ci index : Nat} {fs : List Value} {v : Value} {ty : FieldType} (k : Nat) (ty0 : Nat → FieldType) (hty : ∀ k, k < N → parseFieldDescriptor (T k).2.2.1 = some (ty0 k)) (hnm : ∀ a, a < N → ∀ b, b < N → a ≠ b → (T a).2.1 ≠ (T b).2.1) (hx : p.tables.exec = Jvm.exec) (hb : c.code = cc) (hE : EnvP G s) (hM : MemP G nw x mo H) (hS : va_S (gA G) s.heap H locs) (hown : s.vm.findClass own = some m.cls)
    (he : (mw G nw x mo)[o]? = some (a, .inr (ci, fs))) (hc : vwCl[ci]? = some (C, T, N)) (hk : k < N) (hL : ∀ w ∈ u_ws C T N, w ∈ lw_tbl ∧ goodWord w = true) (hr : (T k).1 = ref) (hfin : (T k).2.2.2 = false) (hd : parseFieldDescriptor (T k).2.2.1 = some ty) (hn : narrow ty v = v) (hfit : fits ty v = true) (hl : k < fs.length)
    (hset : (mw G nw x mo).set o (a, .inr (ci, fs.set k v)) = mw G nw x' mo')
    (hlink : (Cond.fieldLink own index ref (T k).2.1 (T k).2.2.1).before args s = true) (hdg : decode cc pc = .ok (.putfield index, 3))
    (kk : ∀ (H1 : Heap) (locs1 : List Loc), MemP G nw x' mo' H1 → va_S (gA G) s.heap H1 locs1 → W p l e R s m args below meth c H1 locs1 cells slots Q (F0 m (pc + 3) ls rest)) : W p l e R s m args below meth c H locs cells slots Q (F0 m pc ls (v :: .ref a :: rest)) :=
  va_put (Ts := u_ws C T N) hx hb (fun w h => ew hE (hL w h).1 (hL w h).2) (fun _ h => h) ty0 hty hnm hown hE.1 hM.1 hM.2 hS o he hc k hk hlink (fun _ h => by rw [← hr]; exact h) hfin hd hn hfit hl hdg (fun H1 l1 hP hD hS => kk H1 l1 ⟨hset ▸ hP, hset ▸ hD⟩ hS)
theorem mm_putN {own ref host : String} {C : String} {T : u_T} {N ci index : Nat} {fs : List Value} {v : Value} {ty : FieldType} (k : Nat) (ty0 : Nat → FieldType) (hty : ∀ k, k < N → parseFieldDescriptor (T k).2.2.1 = some (ty0 k)) (hnm : ∀ a, a < N → ∀ b, b < N → a ≠ b → (T a).2.1 ≠ (T b).2.1) (hx : p.tables.exec = Jvm.exec) (hb : c.code = cc) (hE : EnvP G s) (hM : MemP G nw x mo H) (hS : va_S (gA G) s.heap H locs) (hown : s.vm.findClass own = some m.cls)
    (he : (mw G nw x mo)[o]? = some (a, .inr (ci, fs))) (hc : vwCl[ci]? = some (C, T, N)) (hk : k < N) (hL : ∀ w ∈ u_ws C T N, w ∈ lw_tbl ∧ goodWord w = true) (hr : (T k).1 = ref) (hfin : (T k).2.2.2 = false) (hd : parseFieldDescriptor (T k).2.2.1 = some ty) (hn : narrow ty v = v) (hfit : fits ty v = true) (hl : k < fs.length)
    (hset : (mw G nw x mo).set o (a, .inr (ci, fs.set k v)) = mw G nw x' mo')
    (hlink : (Cond.fieldLinkNest own index ref (T k).2.1 (T k).2.2.1 host).before args s = true) (hdg : decode cc pc = .ok (.putfield index, 3))
    (kk : ∀ (H1 : Heap) (locs1 : List Loc), MemP G nw x' mo' H1 → va_S (gA G) s.heap H1 locs1 → W p l e R s m args below meth c H1 locs1 cells slots Q (F0 m (pc + 3) ls rest)) : W p l e R s m args below meth c H locs cells slots Q (F0 m pc ls (v :: .ref a :: rest)) :=
  va_putN (Ts := u_ws C T N) hx hb (fun w h => ew hE (hL w h).1 (hL w h).2) (fun _ h => h) ty0 hty hnm hown hE.1 hM.1 hM.2 hS o he hc k hk hlink (fun _ h => by rw [← hr]; exact h) hfin hd hn hfit hl hdg (fun H1 l1 hP hD hS => kk H1 l1 ⟨hset ▸ hP, hset ▸ hD⟩ hS)
section ARRS
variable {n : Nat} {f : Nat → Int32} {i v : Int32}
theorem mm_iald (hx : p.tables.exec = Jvm.exec) (hb : c.code = cc) (hE : EnvP G s) (hM : MemP G nw x mo H) (he : (mw G nw x mo)[o]? = some (a, .inl (gc G 1, n, .inl f))) (hin : inb i n = true) (hdg : decode cc pc = .ok (.iaload, 1))
    (kk : W p l e R s m args below meth c H locs cells slots Q (F0 m (pc + 1) ls (.int (f i.toNatClampNeg) :: rest))) : W p l e R s m args below meth c H locs cells slots Q (F0 m pc ls (.int i :: .ref a :: rest)) :=
  va_iald hx hb hE.1 hM.1 o 1 he rfl (inb_in hin) hdg kk
theorem mm_bald (hx : p.tables.exec = Jvm.exec) (hb : c.code = cc) (hE : EnvP G s) (hM : MemP G nw x mo H) (he : (mw G nw x mo)[o]? = some (a, .inl (gc G 0, n, .inl f))) (hin : inb i n = true) (hdg : decode cc pc = .ok (.baload, 1))
    (kk : W p l e R s m args below meth c H locs cells slots Q (F0 m (pc + 1) ls (.int (f i.toNatClampNeg) :: rest))) : W p l e R s m args below meth c H locs cells slots Q (F0 m pc ls (.int i :: .ref a :: rest)) :=
  va_bald hx hb hE.1 hM.1 o 0 he rfl (inb_in hin) hdg kk
theorem mm_zald (hx : p.tables.exec = Jvm.exec) (hb : c.code = cc) (hE : EnvP G s) (hM : MemP G nw x mo H) (he : (mw G nw x mo)[o]? = some (a, .inl (gc G 2, n, .inl f))) (hin : inb i n = true) (hdg : decode cc pc = .ok (.baload, 1))
    (kk : W p l e R s m args below meth c H locs cells slots Q (F0 m (pc + 1) ls (.int (f i.toNatClampNeg) :: rest))) : W p l e R s m args below meth c H locs cells slots Q (F0 m pc ls (.int i :: .ref a :: rest)) :=
  va_zald hx hb hE.1 hM.1 o 2 he rfl (inb_in hin) hdg kk
theorem mm_iast (hx : p.tables.exec = Jvm.exec) (hb : c.code = cc) (hE : EnvP G s) (hM : MemP G nw x mo H) (hS : va_S (gA G) s.heap H locs) (he : (mw G nw x mo)[o]? = some (a, .inl (gc G 1, n, .inl f))) (hset : (mw G nw x mo).set o (a, .inl (gc G 1, n, .inl (upd f i.toNatClampNeg v))) = mw G nw x' mo') (hin : inb i n = true) (hdg : decode cc pc = .ok (.iastore, 1))
    (kk : ∀ (H1 : Heap) (locs1 : List Loc), MemP G nw x' mo' H1 → va_S (gA G) s.heap H1 locs1 → W p l e R s m args below meth c H1 locs1 cells slots Q (F0 m (pc + 1) ls rest)) : W p l e R s m args below meth c H locs cells slots Q (F0 m pc ls (.int v :: .int i :: .ref a :: rest)) :=
  va_iast hx hb hE.1 hM.1 hM.2 hS o 1 he rfl (inb_in hin) hdg (fun H1 l1 hP hD hS => kk H1 l1 ⟨hset ▸ hP, hset ▸ hD⟩ hS)
theorem mm_bast (hx : p.tables.exec = Jvm.exec) (hb : c.code = cc) (hE : EnvP G s) (hM : MemP G nw x mo H) (hS : va_S (gA G) s.heap H locs) (he : (mw G nw x mo)[o]? = some (a, .inl (gc G 0, n, .inl f))) (hset : (mw G nw x mo).set o (a, .inl (gc G 0, n, .inl (upd f i.toNatClampNeg (vp_nar .byte v)))) = mw G nw x' mo') (hin : inb i n = true) (hdg : decode cc pc = .ok (.bastore, 1))
    (kk : ∀ (H1 : Heap) (locs1 : List Loc), MemP G nw x' mo' H1 → va_S (gA G) s.heap H1 locs1 → W p l e R s m args below meth c H1 locs1 cells slots Q (F0 m (pc + 1) ls rest)) : W p l e R s m args below meth c H locs cells slots Q (F0 m pc ls (.int v :: .int i :: .ref a :: rest)) :=
  va_bast hx hb hE.1 hM.1 hM.2 hS o 0 he rfl (inb_in hin) hdg (fun H1 l1 hP hD hS => kk H1 l1 ⟨hset ▸ hP, hset ▸ hD⟩ hS)
theorem mm_zast (hx : p.tables.exec = Jvm.exec) (hb : c.code = cc) (hE : EnvP G s) (hM : MemP G nw x mo H) (hS : va_S (gA G) s.heap H locs) (he : (mw G nw x mo)[o]? = some (a, .inl (gc G 2, n, .inl f))) (hset : (mw G nw x mo).set o (a, .inl (gc G 2, n, .inl (upd f i.toNatClampNeg (vp_nar .boolean v)))) = mw G nw x' mo') (hin : inb i n = true) (hdg : decode cc pc = .ok (.bastore, 1))
    (kk : ∀ (H1 : Heap) (locs1 : List Loc), MemP G nw x' mo' H1 → va_S (gA G) s.heap H1 locs1 → W p l e R s m args below meth c H1 locs1 cells slots Q (F0 m (pc + 1) ls rest)) : W p l e R s m args below meth c H locs cells slots Q (F0 m pc ls (.int v :: .int i :: .ref a :: rest)) :=
  va_zast hx hb hE.1 hM.1 hM.2 hS o 2 he rfl (inb_in hin) hdg (fun H1 l1 hP hD hS => kk H1 l1 ⟨hset ▸ hP, hset ▸ hD⟩ hS)
/-- a row's length -/
theorem mm_alen (t0 : Nat) {cA : ClassId} {ty : FieldType} (hx : p.tables.exec = Jvm.exec) (hb : c.code = cc) (hE : EnvP G s) (hM : MemP G nw x mo H) (he : (mw G nw x mo)[o]? = some (a, .inl (cA, n, .inl f))) (ht : (tyL G)[t0]? = some (cA, ty)) {v : Int32} (hv : Int32.ofNat n = v) (hdg : decode cc pc = .ok (.arraylength, 1))
    (kk : W p l e R s m args below meth c H locs cells slots Q (F0 m (pc + 1) ls (.int v :: rest))) : W p l e R s m args below meth c H locs cells slots Q (F0 m pc ls (.ref a :: rest)) :=
  va_alen hx hb hE.1 hM.1 o t0 he ht hv hdg kk
/-- the runners' row -/
theorem mm_rald (hx : p.tables.exec = Jvm.exec) (hb : c.code = cc) (hE : EnvP G s) (hM : MemP G nw x mo H) (hin : inb i 10 = true) (hdg : decode cc pc = .ok (.aaload, 1))
    (kk : W p l e R s m args below meth c H locs cells slots Q (F0 m (pc + 1) ls (.ref (ga G (26 + i.toNatClampNeg)) :: rest))) : W p l e R s m args below meth c H locs cells slots Q (F0 m pc ls (.int i :: .ref (ga G 23) :: rest)) :=
  va_aldq hx hb hE.1 hM.1 23 3 (rfl : (mw G nw x mo)[23]? = _) rfl (inb_in hin) hdg kk
/-- the wards' row -/
theorem mm_wald (hx : p.tables.exec = Jvm.exec) (hb : c.code = cc) (hE : EnvP G s) (hM : MemP G nw x mo H) (hin : inb i 17 = true) (hdg : decode cc pc = .ok (.aaload, 1))
    (k1 : i.toNatClampNeg < nw → W p l e R s m args below meth c H locs cells slots Q (F0 m (pc + 1) ls (.ref (ga G (69 + i.toNatClampNeg)) :: rest)))
    (k2 : ¬ i.toNatClampNeg < nw → W p l e R s m args below meth c H locs cells slots Q (F0 m (pc + 1) ls (.null :: rest))) : W p l e R s m args below meth c H locs cells slots Q (F0 m pc ls (.int i :: .ref (ga G 8) :: rest)) := by
  refine va_aldq hx hb hE.1 hM.1 8 4 (rfl : (mw G nw x mo)[8]? = _) rfl (inb_in hin) hdg ?_
  by_cases h : i.toNatClampNeg < nw
  · rw [if_pos h]; exact k1 h
  · rw [if_neg h]; exact k2 h
end ARRS
/-- the static rows -/
theorem mm_sald (k : Nat) (hk : k < 3) {i : Int32} (hx : p.tables.exec = Jvm.exec) (hb : c.code = cc) (hE : EnvP G s) (hS : va_S (gA G) s.heap H locs) (hin : inb i 7 = true) (hdg : decode cc pc = .ok (.iaload, 1))
    (kk : W p l e R s m args below meth c H locs cells slots Q (F0 m (pc + 1) ls (.int ((tS k).getD i.toNatClampNeg 0) :: rest))) : W p l e R s m args below meth c H locs cells slots Q (F0 m pc ls (.int i :: .ref (gs G k) :: rest)) :=
  va_ti hx hb (hE.2.2.2.1 k hk).2 hS (inb_in hin) rfl hdg kk
theorem mm_gets (k : Nat) (hk : k < 3) {own host nm : String} {index : Nat} (hx : p.tables.exec = Jvm.exec) (hb : c.code = cc) (hE : EnvP G s) (hS : va_S (gA G) s.heap H locs) (hown : s.vm.findClass own = some m.cls) (hnm : nS k = nm) (hw : Cond.fieldLinkNest own index "RopeRace" nm "[I" host ∈ lw_tbl) (hdg : decode cc pc = .ok (.getstatic index, 3))
    (kk : W p l e R s m args below meth c H locs cells slots Q (F0 m (pc + 3) ls (.ref (gs G k) :: rest))) : W p l e R s m args below meth c H locs cells slots Q (F0 m pc ls rest) := by
  subst hnm
  exact va_getsN hx hb (hE.2.2.2.1 k hk).1 hS hown (en_F hE hw) (fun _ h => h) hdg kk
section CALLS
variable {own : String} {index : Nat} {y : MethodName} {bytes : ByteArray} {maxL nL n : Nat} {ret : Option FieldType} {rm : Room} {As : List Value} {r : Int32} {rq : Option Nat}
theorem gin5 {ws : List Cond} (h : ∀ w ∈ ws, w ∈ lw_tbl ∧ goodWord w = true) : GoodIn lw_tbl ws := fun w hw => ⟨(h w hw).1, good_of_word (h w hw).2⟩
/-- a call of an instance's method -/
theorem mm_runV {C : String} {T : u_T} {N ci : Nat} {fs : List Value} {Qc : Array Value → State → Outcome → State → Prop} (hx : p.tables.exec = Jvm.exec) (hb : c.code = cc) (hml : c.maxLocals = nL) (hown : s.vm.findClass own = some m.cls) (hE : EnvP G s) (hM : MemP G nw x mo H) (hS : va_S (gA G) s.heap H locs)
    (hMet : Met l y [.code y bytes maxL ret] rm (va_Pc (.ref a :: As) (Pre G nw x mo)) Qc 0 0 (gA G))
    (hw : ∀ w ∈ wsV own index C y [.code y bytes maxL ret], w ∈ lw_tbl ∧ goodWord w = true) (hrc : rm.cells = 0) (hrs : rm.slots = 0)
    (hd : y.cls = C ∧ y.cls ≠ "java/lang/invoke/MethodHandle" ∧ y.cls ≠ "java/lang/invoke/VarHandle" ∧ (parseMethodDescriptor y.desc).map (fun d => d.parameters.length) = some n) (hR : rm.frames + 1 ≤ R.frames ∧ 8 + (maxL + 11) + rm.locals ≤ R.locals)
    (he : (mw G nw x mo)[o]? = some (a, .inr (ci, fs))) (hc : vwCl[ci]? = some (C, T, N)) (hn : As.length = n) (hsize : ls.size = nL) {st0 : List Value} (hst : st0 = As.reverse ++ .ref a :: rest) (hW : (rest.map fun v => v.category).sum ≤ 8) (hdg : decode cc pc = .ok (.invokevirtual index, 3)) (hf : cells ≤ R.cells ∧ slots ≤ R.slots) :
    va_Run p l e R s m args below meth c H locs cells slots 0 0 (F0 m pc ls st0) rest (Qc (Value.ref a :: As).toArray) (gA G) :=
  va_runV (Ts := lw_tbl.filter goodWord) (bytes := bytes) (maxL := maxL) (ret := ret) ⟨hx, hb, hml, hown, fun w h => ew hE (List.mem_filter.mp h).1 (List.mem_filter.mp h).2⟩ hMet
    (cwV n (fun w h => ew hE (List.mem_filter.mp h).1 (List.mem_filter.mp h).2) (fun w h => ⟨List.mem_filter.mpr (hw w h), good_of_word (hw w h).2⟩) rfl hrc hrs hd hR)
    ⟨fun a U g mk q => ⟨q.1, q.2.1.calling, q.2.2⟩, va_recv hE.1 hM.1 hc he, fun U hU hW => ⟨rfl, hE.move hW hU hS, by rw [hU]; exact hM⟩⟩ rfl hn hsize hst (lv_room hW) hdg hf
/-- a call of a static method -/
theorem mm_runS {Qc : Array Value → State → Outcome → State → Prop} (hx : p.tables.exec = Jvm.exec) (hb : c.code = cc) (hml : c.maxLocals = nL) (hown : s.vm.findClass own = some m.cls) (hE : EnvP G s) (hM : MemP G nw x mo H) (hS : va_S (gA G) s.heap H locs)
    (hMet : Met l y [.code y bytes maxL ret] rm (va_Pc As (Pre G nw x mo)) Qc 0 0 (gA G))
    (hw : ∀ w ∈ va_wsS own index y [.code y bytes maxL ret], w ∈ lw_tbl ∧ goodWord w = true) (hrc : rm.cells = 0) (hrs : rm.slots = 0)
    (hd : y.cls ≠ "java/lang/invoke/MethodHandle" ∧ y.cls ≠ "java/lang/invoke/VarHandle" ∧ (parseMethodDescriptor y.desc).map (fun d => d.parameters.length) = some n) (hR : rm.frames + 1 ≤ R.frames ∧ 8 + (maxL + 11) + rm.locals ≤ R.locals)
    (hn : As.length = n) (hsize : ls.size = nL) {st0 : List Value} (hst : st0 = As.reverse ++ rest) (hW : (rest.map fun v => v.category).sum ≤ 8) (hdg : decode cc pc = .ok (.invokestatic index, 3)) (hf : cells ≤ R.cells ∧ slots ≤ R.slots) :
    va_Run p l e R s m args below meth c H locs cells slots 0 0 (F0 m pc ls st0) rest (Qc As.toArray) (gA G) :=
  va_runS (Ts := lw_tbl.filter goodWord) (bytes := bytes) (maxL := maxL) (ret := ret) ⟨hx, hb, hml, hown, fun w h => ew hE (List.mem_filter.mp h).1 (List.mem_filter.mp h).2⟩ hMet
    (va_cwS n (fun w h => ew hE (List.mem_filter.mp h).1 (List.mem_filter.mp h).2) (fun w h => ⟨List.mem_filter.mpr (hw w h), good_of_word (hw w h).2⟩) rfl hrc hrs hd hR)
    ⟨fun a U g mk q => ⟨q.1, q.2.1.calling, q.2.2⟩, fun U hU hW => ⟨rfl, hE.move hW hU hS, by rw [hU]; exact hM⟩⟩ rfl hn hsize hst (lv_room hW) hdg hf
variable {st0 : List Value} {ar : Array Value}
theorem mm_ki (hS : va_S (gA G) s.heap H locs) (hr : va_Run p l e R s m args below meth c H locs cells slots 0 0 (F0 m pc ls st0) rest (PI G nw x' mo' r ar) (gA G))
    (kk : ∀ (H1 : Heap) (locs1 : List Loc), MemP G nw x' mo' H1 → va_S (gA G) s.heap H1 locs1 → W p l e R s m args below meth c H1 locs1 cells slots Q (F0 m (pc + 3) ls (.int r :: rest))) : W p l e R s m args below meth c H locs cells slots Q (F0 m pc ls st0) :=
  va_calli hr hS (fun _ _ h => h) (fun _ h => h) (fun r' u t H1 l1 ht _ hw hB _ _ hS => by subst hw; subst ht; exact kk _ l1 hB hS)
theorem mm_kv (hS : va_S (gA G) s.heap H locs) (hr : va_Run p l e R s m args below meth c H locs cells slots 0 0 (F0 m pc ls st0) rest (PV G nw x' mo' ar) (gA G))
    (kk : ∀ (H1 : Heap) (locs1 : List Loc), MemP G nw x' mo' H1 → va_S (gA G) s.heap H1 locs1 → W p l e R s m args below meth c H1 locs1 cells slots Q (F0 m (pc + 3) ls rest)) : W p l e R s m args below meth c H locs cells slots Q (F0 m pc ls st0) :=
  va_callv hr hS (fun _ _ h => h) (fun _ h => h) (fun u t H1 l1 ht _ _ hB _ _ hS => by subst ht; exact kk _ l1 hB hS)
theorem mm_kq (hS : va_S (gA G) s.heap H locs) (hr : va_Run p l e R s m args below meth c H locs cells slots 0 0 (F0 m pc ls st0) rest (PQ G nw x' mo' rq ar) (gA G))
    (kk : ∀ (H1 : Heap) (locs1 : List Loc), MemP G nw x' mo' H1 → va_S (gA G) s.heap H1 locs1 → W p l e R s m args below meth c H1 locs1 cells slots Q (F0 m (pc + 3) ls (va_rf rq :: rest))) : W p l e R s m args below meth c H locs cells slots Q (F0 m pc ls st0) :=
  va_callq hr hS (fun _ _ h => h) (fun _ h => h) (fun r' u t H1 l1 ht _ hw hB _ _ hS => by subst hw; subst ht; exact kk _ l1 hB hS)
end CALLS
end MMR
