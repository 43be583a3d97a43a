theorem w_oi : Cond.code objectInit ⟨#[0xb1]⟩ 1 none ∈ lw_tbl := tm1 (List.mem_of_getElem? (i := 27) rfl)
theorem w_ab : Cond.arrayClass .byte ∈ lw_tbl := tm1 (List.mem_of_getElem? (i := 60) rfl)
theorem w_ai : Cond.arrayClass .int ∈ lw_tbl := tm1 (List.mem_of_getElem? (i := 61) rfl)
theorem w_az : Cond.arrayClass .boolean ∈ lw_tbl := tm1 (List.mem_of_getElem? (i := 121) rfl)
section MKW
variable {w w' : va_W} {a b v : Nat × va_E} {k : Nat}
theorem at_last : (w ++ [a])[w.length]? = some a := by simp
theorem at_prev (h : w[k]? = some a) : (w ++ [b])[k]? = some a := by
  rw [List.getElem?_append_left (List.getElem?_eq_some_iff.mp h).1]; exact h
theorem st_last : (w ++ [a]).set w.length v = w ++ [v] := by
  rw [List.set_append_right _ _ (Nat.le_refl _)]; simp
theorem st_prev (h : w[k]? = some a) (hs : w.set k v = w') : (w ++ [b]).set k v = w' ++ [b] := by
  rw [List.set_append_left _ _ (List.getElem?_eq_some_iff.mp h).1, hs]
end MKW
def WoP (G : GG) (ws : va_W) (H : Heap) : Prop := va_P (gD G) vwCl ws H ∧ va_D (gA G) ws
def AOs (U : State) : Prop := va_AO "RopeRace$Runner" U ∧ va_AO "RopeRace$Ward" U
def PreC (G : GG) (ws : va_W) : State → Prop := fun U => EnvP G U ∧ AOs U ∧ WoP G ws U.heap
section MKR
variable {p : Program} {l : Launch} {e : Env} {R : Room} {s : State} {m : MethodId} {args : Array Value} {below : List Frame} {meth : Method} {c : Code} {H : Heap} {locs : List Loc} {cells slots : Nat} {Q : State → Prop}
variable {cc : ByteArray} {pc : Nat} {ls : Array Slot} {rest : List Value} {G : GG} {ws ws' : va_W} {a o : Nat}
theorem ct_get {own ref : String} {C : String} {T : u_T} {N ci index : Nat} {fs : List Value} {v : Value} (k : Nat) (hx : p.tables.exec = Jvm.exec) (hb : c.code = cc) (hE : EnvP G s) (hM : WoP G ws H) (hown : s.vm.findClass own = some m.cls)
    (he : ws[o]? = some (a, .inr (ci, fs))) (hc : vwCl[ci]? = some (C, T, N)) (hk : k < N) (hL : ∀ w ∈ u_ws C T N, w ∈ lw_tbl ∧ goodWord w = true) (hr : (T k).1 = ref) (hv : fs[k]? = some v)
    (hw : Cond.fieldLink own index ref (T k).2.1 (T k).2.2.1 ∈ lw_tbl) (hdg : decode cc pc = .ok (.getfield index, 3))
    (kk : W p l e R s m args below meth c H locs cells slots Q (F0 m (pc + 3) ls (v :: rest))) : W p l e R s m args below meth c H locs cells slots Q (F0 m pc ls (.ref a :: rest)) :=
  va_get (Ts := u_ws C T N) hx hb (fun w h => ew hE (hL w h).1 (hL w h).2) (fun _ h => h) hown hE.1 hM.1 o he hc k hk (ew hE hw rfl) (fun _ h => by rw [← hr]; exact h) hv hdg kk
theorem ct_put {own ref : String} {C : String} {T : u_T} {N ci index : Nat} {fs : List Value} {v : Value} {ty : FieldType} (k : Nat) (ty0 : Nat → FieldType) (hty : ∀ k, k < N → parseFieldDescriptor (T k).2.2.1 = some (ty0 k)) (hnm : ∀ a, a < N → ∀ b, b < N → a ≠ b → (T a).2.1 ≠ (T b).2.1) (hx : p.tables.exec = Jvm.exec) (hb : c.code = cc) (hE : EnvP G s) (hM : WoP G ws H) (hS : va_S (gA G) s.heap H locs) (hown : s.vm.findClass own = some m.cls)
    {fs' : List Value} (he : ws[o]? = some (a, .inr (ci, fs))) (hfs : fs.set k v = fs') (hset : ws.set o (a, .inr (ci, fs')) = ws') (hc : vwCl[ci]? = some (C, T, N)) (hk : k < N) (hL : ∀ w ∈ u_ws C T N, w ∈ lw_tbl ∧ goodWord w = true) (hr : (T k).1 = ref) (hfin : (T k).2.2.2 = false) (hd : parseFieldDescriptor (T k).2.2.1 = some ty) (hn : narrow ty v = v) (hfit : fits ty v = true) (hl : k < fs.length)
    (hw : Cond.fieldLink own index ref (T k).2.1 (T k).2.2.1 ∈ lw_tbl) (hdg : decode cc pc = .ok (.putfield index, 3))
    (kk : ∀ (H1 : Heap) (locs1 : List Loc), WoP G ws' H1 → va_S (gA G) s.heap H1 locs1 → W p l e R s m args below meth c H1 locs1 cells slots Q (F0 m (pc + 3) ls rest)) : W p l e R s m args below meth c H locs cells slots Q (F0 m pc ls (v :: .ref a :: rest)) :=
  va_put (Ts := u_ws C T N) hx hb (fun w h => ew hE (hL w h).1 (hL w h).2) (fun _ h => h) ty0 hty hnm hown hE.1 hM.1 hM.2 hS o he hc k hk (ew hE hw rfl) (fun _ h => by rw [← hr]; exact h) hfin hd hn hfit hl hdg (fun H1 l1 hP hD hS => kk H1 l1 ⟨by rw [hfs, hset] at hP; exact hP, by rw [hfs, hset] at hD; exact hD⟩ hS)
theorem ct_putF {own ref : String} {C : String} {T : u_T} {N ci index : Nat} {fs : List Value} {v : Value} {ty : FieldType} (k : Nat) (ty0 : Nat → FieldType) (hty : ∀ k, k < N → parseFieldDescriptor (T k).2.2.1 = some (ty0 k)) (hnm : ∀ a, a < N → ∀ b, b < N → a ≠ b → (T a).2.1 ≠ (T b).2.1) (hx : p.tables.exec = Jvm.exec) (hb : c.code = cc) (hE : EnvP G s) (hM : WoP G ws H) (hS : va_S (gA G) s.heap H locs) (hown : s.vm.findClass own = some m.cls) (hin : meth.name = "<init>")
    {fs' : List Value} (he : ws[o]? = some (a, .inr (ci, fs))) (hfs : fs.set k v = fs') (hset : ws.set o (a, .inr (ci, fs')) = ws') (hc : vwCl[ci]? = some (C, T, N)) (hk : k < N) (hL : ∀ w ∈ u_ws C T N, w ∈ lw_tbl ∧ goodWord w = true) (hr : (T k).1 = ref) (hdc : (T k).1 = own) (hfin : (T k).2.2.2 = true) (hd : parseFieldDescriptor (T k).2.2.1 = some ty) (hn : narrow ty v = v) (hfit : fits ty v = true) (hl : k < fs.length)
    (hw : Cond.fieldLink own index ref (T k).2.1 (T k).2.2.1 ∈ lw_tbl) (hdg : decode cc pc = .ok (.putfield index, 3))
    (kk : ∀ (H1 : Heap) (locs1 : List Loc), WoP G ws' H1 → va_S (gA G) s.heap H1 locs1 → W p l e R s m args below meth c H1 locs1 cells slots Q (F0 m (pc + 3) ls rest)) : W p l e R s m args below meth c H locs cells slots Q (F0 m pc ls (v :: .ref a :: rest)) :=
  va_putF (Ts := u_ws C T N) hx hb (fun w h => ew hE (hL w h).1 (hL w h).2) (fun _ h => h) ty0 hty hnm hown hE.1 hM.1 hM.2 hS o he hc k hk (ew hE hw rfl) (fun _ h => by rw [← hr]; exact h) hfin hin hdc hd hn hfit hl hdg (fun H1 l1 hP hD hS => kk H1 l1 ⟨by rw [hfs, hset] at hP; exact hP, by rw [hfs, hset] at hD; exact hD⟩ hS)
theorem ct_newi {n : Int32} {N' : Nat} (hx : p.tables.exec = Jvm.exec) (hb : c.code = cc) (hE : EnvP G s) (hM : WoP G ws H) (hS : va_S (gA G) s.heap H locs) (hn : ¬ n < 0) (hN : n.toNatClampNeg = N') (hbytes : N' * componentBytes .int ≤ 536870912) (hcells : cells + 1 ≤ R.cells) (hslots : slots + N' ≤ R.slots) (hdg : decode cc pc = .ok (.newarray .int, 2))
    (kk : ∀ (q : Nat) (H1 : Heap), WoP G (ws ++ [(q, .inl (gc G 1, N', .inl (fun _ => 0)))]) H1 → va_S (gA G) s.heap H1 locs → W p l e R s m args below meth c H1 locs (cells + 1) (slots + N') Q (F0 m (pc + 2) ls (.ref q :: rest))) : W p l e R s m args below meth c H locs cells slots Q (F0 m pc ls (.int n :: rest)) :=
  va_newa (atype := .int) (ty := .int) (a0 := (N', .inl (fun _ => 0))) hx hb (ew hE w_ai rfl) rfl hE.1 hM.1 hM.2 hS hE.2.2.1 (fun _ => rfl) hn hN hbytes hcells hslots hdg (fun q cA H1 hK hP hD hS => by
    have e1 : va_RA s cA .int := (hK.2 5 (cA, .int) rfl).2
    have e2 : va_RA s (gc G 1) .int := (hE.1.2 1 (gc G 1, .int) rfl).2
    have e3 : cA = gc G 1 := Option.some.inj (e1.symm.trans e2)
    subst e3
    exact kk q H1 ⟨hP, hD⟩ hS)
theorem ct_newb {n : Int32} {N' : Nat} (hx : p.tables.exec = Jvm.exec) (hb : c.code = cc) (hE : EnvP G s) (hM : WoP G ws H) (hS : va_S (gA G) s.heap H locs) (hn : ¬ n < 0) (hN : n.toNatClampNeg = N') (hbytes : N' * componentBytes .byte ≤ 536870912) (hcells : cells + 1 ≤ R.cells) (hslots : slots + N' ≤ R.slots) (hdg : decode cc pc = .ok (.newarray .byte, 2))
    (kk : ∀ (q : Nat) (H1 : Heap), WoP G (ws ++ [(q, .inl (gc G 0, N', .inl (fun _ => 0)))]) H1 → va_S (gA G) s.heap H1 locs → W p l e R s m args below meth c H1 locs (cells + 1) (slots + N') Q (F0 m (pc + 2) ls (.ref q :: rest))) : W p l e R s m args below meth c H locs cells slots Q (F0 m pc ls (.int n :: rest)) :=
  va_newa (atype := .byte) (ty := .byte) (a0 := (N', .inl (fun _ => 0))) hx hb (ew hE w_ab rfl) rfl hE.1 hM.1 hM.2 hS hE.2.2.1 (fun _ => rfl) hn hN hbytes hcells hslots hdg (fun q cA H1 hK hP hD hS => by
    have e1 : va_RA s cA .byte := (hK.2 5 (cA, .byte) rfl).2
    have e2 : va_RA s (gc G 0) .byte := (hE.1.2 0 (gc G 0, .byte) rfl).2
    have e3 : cA = gc G 0 := Option.some.inj (e1.symm.trans e2)
    subst e3
    exact kk q H1 ⟨hP, hD⟩ hS)
theorem ct_newz {n : Int32} {N' : Nat} (hx : p.tables.exec = Jvm.exec) (hb : c.code = cc) (hE : EnvP G s) (hM : WoP G ws H) (hS : va_S (gA G) s.heap H locs) (hn : ¬ n < 0) (hN : n.toNatClampNeg = N') (hbytes : N' * componentBytes .boolean ≤ 536870912) (hcells : cells + 1 ≤ R.cells) (hslots : slots + N' ≤ R.slots) (hdg : decode cc pc = .ok (.newarray .boolean, 2))
    (kk : ∀ (q : Nat) (H1 : Heap), WoP G (ws ++ [(q, .inl (gc G 2, N', .inl (fun _ => 0)))]) H1 → va_S (gA G) s.heap H1 locs → W p l e R s m args below meth c H1 locs (cells + 1) (slots + N') Q (F0 m (pc + 2) ls (.ref q :: rest))) : W p l e R s m args below meth c H locs cells slots Q (F0 m pc ls (.int n :: rest)) :=
  va_newa (atype := .boolean) (ty := .boolean) (a0 := (N', .inl (fun _ => 0))) hx hb (ew hE w_az rfl) rfl hE.1 hM.1 hM.2 hS hE.2.2.1 (fun _ => rfl) hn hN hbytes hcells hslots hdg (fun q cA H1 hK hP hD hS => by
    have e1 : va_RA s cA .boolean := (hK.2 5 (cA, .boolean) rfl).2
    have e2 : va_RA s (gc G 2) .boolean := (hE.1.2 2 (gc G 2, .boolean) rfl).2
    have e3 : cA = gc G 2 := Option.some.inj (e1.symm.trans e2)
    subst e3
    exact kk q H1 ⟨hP, hD⟩ hS)
theorem ct_newq (k : Nat) {own C : String} {index : Nat} (hC : (tyL G)[k]? = some (gc G k, .object C)) {n : Int32} {N' : Nat} (hx : p.tables.exec = Jvm.exec) (hb : c.code = cc) (hown : s.vm.findClass own = some m.cls) (hw : Cond.classLink own index C ∈ lw_tbl) (hO : va_AO C s) (hE : EnvP G s) (hM : WoP G ws H) (hS : va_S (gA G) s.heap H locs) (hn : ¬ n < 0) (hN : n.toNatClampNeg = N') (hbytes : N' * 4 ≤ 536870912) (hcells : cells + 1 ≤ R.cells) (hslots : slots + N' ≤ R.slots) (hdg : decode cc pc = .ok (.anewarray index, 3))
    (kk : ∀ (q : Nat) (H1 : Heap), WoP G (ws ++ [(q, .inl (gc G k, N', .inr (.inr (.inr (.inr (fun _ => none))))))]) H1 → va_S (gA G) s.heap H1 locs → W p l e R s m args below meth c H1 locs (cells + 1) (slots + N') Q (F0 m (pc + 3) ls (.ref q :: rest))) : W p l e R s m args below meth c H locs cells slots Q (F0 m pc ls (.int n :: rest)) :=
  va_newq hx hb hown (ew hE hw rfl) hO hE.1 hM.1 hM.2 hS hE.2.2.1 hn hN hbytes hcells hslots hdg (fun q cA H1 hK hP hD hS => by
    have e1 : va_RA s cA (.object C) := (hK.2 5 (cA, .object C) rfl).2
    have e2 : va_RA s (gc G k) (.object C) := (hE.1.2 k _ hC).2
    obtain ⟨_, _, -, -, -, f1⟩ := e1
    obtain ⟨_, _, -, -, -, f2⟩ := e2
    have e3 : cA = gc G k := Option.some.inj (f1.symm.trans f2)
    subst e3
    exact kk q H1 ⟨hP, hD⟩ hS)
theorem ct_new {own C : String} {T : u_T} {N ci index : Nat} (ty : Nat → FieldType) (hty : ∀ k, k < N → parseFieldDescriptor (T k).2.2.1 = some (ty k)) {fs : List Value} (hfs : ∀ j, j < N → defaultValue (ty j) = vp_V fs j) (hx : p.tables.exec = Jvm.exec) (hb : c.code = cc) (hown : s.vm.findClass own = some m.cls) (hL : ∀ w ∈ u_ws C T N, w ∈ lw_tbl ∧ goodWord w = true) (h1 : Cond.classLink own index C ∈ lw_tbl) (h2 : Cond.instantiable C N ∈ lw_tbl) (h3 : Cond.initialized C ∈ lw_tbl) (hE : EnvP G s) (hM : WoP G ws H) (hS : va_S (gA G) s.heap H locs) (hc : vwCl[ci]? = some (C, T, N)) (hcells : cells + 1 ≤ R.cells) (hslots : slots + N ≤ R.slots) (hdg : decode cc pc = .ok (.new index, 3))
    (kk : ∀ (q : Nat) (H1 : Heap), WoP G (ws ++ [(q, .inr (ci, fs))]) H1 → va_S (gA G) s.heap H1 locs → W p l e R s m args below meth c H1 locs (cells + 1) (slots + N) Q (F0 m (pc + 3) ls (.ref q :: rest))) : W p l e R s m args below meth c H locs cells slots Q (F0 m pc ls rest) :=
  va_new (Ts := u_ws C T N) hx hb (fun w h => ew hE (hL w h).1 (hL w h).2) (fun _ h => h) ty hty hown (ew hE h1 rfl) (ew hE h2 rfl) (ew hE h3 rfl) hE.1 hM.1 hM.2 hS hE.2.2.1 hc hfs hcells hslots hdg (fun q H1 hP hD hS => kk q H1 ⟨hP, hD⟩ hS)
theorem ct_ast {o1 ci v : Nat} {k : Nat} {r : vw_C} {n : Nat} {vs : List Value} {f : Nat → Option Nat} {i : Int32} (hx : p.tables.exec = Jvm.exec) (hb : c.code = cc) (hE : EnvP G s) (hM : WoP G ws H) (hS : va_S (gA G) s.heap H locs) (ht : (tyL G)[k]? = some (gc G k, .object r.1)) (ha : ws[o]? = some (a, .inl (gc G k, n, .inr (.inr (.inr (.inr f)))))) (hset : ws.set o (a, .inl (gc G k, n, .inr (.inr (.inr (.inr (va_up f i.toNatClampNeg (some v))))))) = ws') (hv : ws[o1]? = some (v, .inr (ci, vs))) (hc : vwCl[ci]? = some r) (hin : vp_in i n) (hdg : decode cc pc = .ok (.aastore, 1))
    (kk : ∀ (H1 : Heap) (locs1 : List Loc), WoP G ws' H1 → va_S (gA G) s.heap H1 locs1 → W p l e R s m args below meth c H1 locs1 cells slots Q (F0 m (pc + 1) ls rest)) : W p l e R s m args below meth c H locs cells slots Q (F0 m pc ls (.ref v :: .int i :: .ref a :: rest)) :=
  va_astq hx hb hE.1 hM.1 hM.2 hS o k o1 ci ha ht hv hc hin hdg (fun H1 l1 hP hD hS => kk H1 l1 ⟨hset ▸ hP, hset ▸ hD⟩ hS)
theorem ct_iast {n : Nat} {f : Nat → Int32} {i x : Int32} (hx : p.tables.exec = Jvm.exec) (hb : c.code = cc) (hE : EnvP G s) (hM : WoP G ws H) (hS : va_S (gA G) s.heap H locs) (ha : ws[o]? = some (a, .inl (gc G 1, n, .inl f))) (hset : ws.set o (a, .inl (gc G 1, n, .inl (upd f i.toNatClampNeg x))) = ws') (hin : vp_in i n) (hdg : decode cc pc = .ok (.iastore, 1))
    (kk : ∀ (H1 : Heap) (locs1 : List Loc), WoP G ws' H1 → va_S (gA G) s.heap H1 locs1 → W p l e R s m args below meth c H1 locs1 cells slots Q (F0 m (pc + 1) ls rest)) : W p l e R s m args below meth c H locs cells slots Q (F0 m pc ls (.int x :: .int i :: .ref a :: rest)) :=
  va_iast hx hb hE.1 hM.1 hM.2 hS o 1 ha rfl hin hdg (fun H1 l1 hP hD hS => kk H1 l1 ⟨hset ▸ hP, hset ▸ hD⟩ hS)
theorem ct_rec {own : String} {index : Nat} (hx : p.tables.exec = Jvm.exec) (hb : c.code = cc) (hml : c.maxLocals = ls.size) (hE : EnvP G s) (hown : s.vm.findClass own = some m.cls) (hw : Cond.methodLink own index objectInit ∈ lw_tbl) (hdg : decode cc pc = .ok (.invokespecial index, 3)) (h1 : 1 ≤ R.frames) (h2 : 2 * (F0 m pc ls (.ref a :: rest)).monitorRoom + (rest.map fun v => v.category).sum + 12 ≤ R.locals)
    (w1 : Cond.instanceMethod objectInit ∈ lw_tbl) (kk : W p l e R s m args below meth c H locs cells slots Q (F0 m (pc + 3) ls rest)) : W p l e R s m args below meth c H locs cells slots Q (F0 m pc ls (.ref a :: rest)) :=
  W.objInit hx hb hown (ew hE hw rfl) (ew hE w1 rfl) (ew hE w_oi rfl) rfl hml.symm rfl hdg h1 h2 kk
section CTC
variable {own : String} {index : Nat} {y : MethodName} {bytes : ByteArray} {maxL nL mc ms : Nat} {rm : Room} {S : Type} {B : S → Heap → Prop}
theorem ct_callI (hx : p.tables.exec = Jvm.exec) (hb : c.code = cc) (hml : c.maxLocals = nL) (hown : s.vm.findClass own = some m.cls) (hE : EnvP G s) (hO : AOs s) (hM : WoP G ws H) (hS : va_S (gA G) s.heap H locs)
    (hMet : Met l y [.code y bytes maxL none] rm (va_Pc [.ref a] (PreC G ws)) (va_Qv (fun _ : S => True) (fun u t => B u t.heap) (gA G)) mc ms (gA G))
    (w1 : Cond.methodLink own index y ∈ lw_tbl) (w2 : Cond.instanceMethod y ∈ lw_tbl) (w3 : Cond.initialized y.cls ∈ lw_tbl) (w4 : Cond.code y bytes maxL none ∈ lw_tbl) (hrc : rm.cells = mc) (hrs : rm.slots = ms) (hy : y.name = "<init>")
    (hd : y.cls ≠ "java/lang/invoke/MethodHandle" ∧ y.cls ≠ "java/lang/invoke/VarHandle" ∧ (parseMethodDescriptor y.desc).map (fun d => d.parameters.length) = some 0) (hR : rm.frames + 1 ≤ R.frames ∧ 8 + (maxL + 11) + rm.locals ≤ R.locals)
    (hsize : ls.size = nL) (hW : (rest.map fun v => v.category).sum ≤ 8) (hdg : decode cc pc = .ok (.invokespecial index, 3)) (hf : cells + mc ≤ R.cells ∧ slots + ms ≤ R.slots)
    (kk : ∀ (u : S) (H1 : Heap) (locs1 : List Loc), B u H1 → va_S (gA G) s.heap H1 locs1 → W p l e R s m args below meth c H1 locs1 (cells + mc) (slots + ms) Q (F0 m (pc + 3) ls rest)) : W p l e R s m args below meth c H locs cells slots Q (F0 m pc ls (.ref a :: rest)) :=
  va_callv (va_runI (Ts := lw_tbl.filter goodWord) (As := []) (bytes := bytes) (maxL := maxL) ⟨hx, hb, hml, hown, fun w h => ew hE (List.mem_filter.mp h).1 (List.mem_filter.mp h).2⟩ hMet
    (cwI 0 (fun w h => ew hE (List.mem_filter.mp h).1 (List.mem_filter.mp h).2) (fun w h => by cases List.mem_singleton.mp h; exact ⟨List.mem_filter.mpr ⟨w4, rfl⟩, good_of_word rfl⟩) rfl hrc hrs (ew hE w3 rfl) (ew hE w1 rfl) (ew hE w2 rfl) hy hd hR)
    ⟨fun a U g mk q => ⟨q.1, q.2.1.calling, ⟨va_AO.moved (U := U.calling g mk a) (Vm.Alike.refl U.vm) q.2.2.1.1, va_AO.moved (U := U.calling g mk a) (Vm.Alike.refl U.vm) q.2.2.1.2⟩, q.2.2.2⟩, fun U hU hW => ⟨rfl, hE.move hW hU hS, ⟨va_AO.moved hW.alike hO.1, va_AO.moved hW.alike hO.2⟩, by rw [hU]; exact hM⟩⟩ rfl rfl hsize rfl (lv_room hW) hdg hf)
    hS (fun _ _ h => h) (fun _ h => h) (fun u t H1 l1 ht _ _ hB _ _ hS => by subst ht; exact kk u _ l1 hB hS)
theorem ct_callN {host : String} (hx : p.tables.exec = Jvm.exec) (hb : c.code = cc) (hml : c.maxLocals = nL) (hown : s.vm.findClass own = some m.cls) (hE : EnvP G s) (hO : AOs s) (hM : WoP G ws H) (hS : va_S (gA G) s.heap H locs)
    (hMet : Met l y [.code y bytes maxL none] rm (va_Pc [.ref a] (PreC G ws)) (va_Qv (fun _ : S => True) (fun u t => B u t.heap) (gA G)) mc ms (gA G))
    (w1 : Cond.methodLinkNest own index y host ∈ lw_tbl) (w2 : Cond.instanceMethod y ∈ lw_tbl) (w3 : Cond.initialized y.cls ∈ lw_tbl) (w4 : Cond.code y bytes maxL none ∈ lw_tbl) (hrc : rm.cells = mc) (hrs : rm.slots = ms) (hy : y.name = "<init>")
    (hd : y.cls ≠ "java/lang/invoke/MethodHandle" ∧ y.cls ≠ "java/lang/invoke/VarHandle" ∧ (parseMethodDescriptor y.desc).map (fun d => d.parameters.length) = some 0) (hR : rm.frames + 1 ≤ R.frames ∧ 8 + (maxL + 11) + rm.locals ≤ R.locals)
    (hsize : ls.size = nL) (hW : (rest.map fun v => v.category).sum ≤ 8) (hdg : decode cc pc = .ok (.invokespecial index, 3)) (hf : cells + mc ≤ R.cells ∧ slots + ms ≤ R.slots)
    (kk : ∀ (u : S) (H1 : Heap) (locs1 : List Loc), B u H1 → va_S (gA G) s.heap H1 locs1 → W p l e R s m args below meth c H1 locs1 (cells + mc) (slots + ms) Q (F0 m (pc + 3) ls rest)) : W p l e R s m args below meth c H locs cells slots Q (F0 m pc ls (.ref a :: rest)) :=
  va_callv (va_runIN (Ts := lw_tbl.filter goodWord) (As := []) (bytes := bytes) (maxL := maxL) ⟨hx, hb, hml, hown, fun w h => ew hE (List.mem_filter.mp h).1 (List.mem_filter.mp h).2⟩ hMet
    ⟨va_cnB 0 (fun w h => ew hE (List.mem_filter.mp h).1 (List.mem_filter.mp h).2) (fun w h => by cases List.mem_singleton.mp h; exact ⟨List.mem_filter.mpr ⟨w4, rfl⟩, good_of_word rfl⟩) rfl hrc hrs (en_M hE w1) (ew hE w3 rfl) hd hR, hy, ew hE w2 rfl⟩
    ⟨fun a U g mk q => ⟨q.1, q.2.1.calling, ⟨va_AO.moved (U := U.calling g mk a) (Vm.Alike.refl U.vm) q.2.2.1.1, va_AO.moved (U := U.calling g mk a) (Vm.Alike.refl U.vm) q.2.2.1.2⟩, q.2.2.2⟩, fun U hU hW => ⟨rfl, hE.move hW hU hS, ⟨va_AO.moved hW.alike hO.1, va_AO.moved hW.alike hO.2⟩, by rw [hU]; exact hM⟩⟩ rfl rfl hsize rfl (lv_room hW) hdg hf)
    hS (fun _ _ h => h) (fun _ h => h) (fun u t H1 l1 ht _ _ hB _ _ hS => by subst ht; exact kk u _ l1 hB hS)
end CTC
end MKR
