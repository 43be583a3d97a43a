theorem nn {ρ : Type} {v : ρ} {P : Prop} (h : (none : Option ρ) = some v) : P := by cases h
def om {ρ : Type} (o : Option Nat) (a : Option ρ) (b : Nat → Option ρ) : Option ρ := match o with
  | none => a
  | some j => b j
theorem om_n {ρ : Type} {a : Option ρ} {b : Nat → Option ρ} {v : Option ρ} (h : om none a b = v) : a = v := h
theorem om_s {ρ : Type} {a : Option ρ} {b : Nat → Option ρ} {v : Option ρ} {j : Nat} (h : om (some j) a b = v) : b j = v := h
abbrev jnA {α ρ : Type} {v : ρ} {J : α} {K : α → Option ρ} (_ : jn J K = some v) : α := J
theorem jn_use {α ρ : Type} {v : ρ} {J : α} {K : α → Option ρ} (h : jn J K = some v) : K J = some v := h
def mcpy (x : Me) (fs fd : Nat) (sp dp n : Int32) : Me := fun f' => if f' = fd then va_cpy (x fs) (x fd) sp.toNatClampNeg dp.toNatClampNeg n.toNatClampNeg else x f'
def acok (sp dp n : Int32) (n0 n1 : Nat) : Bool := !(decide (sp < 0)) && !(decide (dp < 0)) && !(decide (n < 0)) && decide (sp.toNatClampNeg + n.toNatClampNeg ≤ n0) && decide (dp.toNatClampNeg + n.toNatClampNeg ≤ n1)
def z01 (v : Int32) : Bool := decide (v = 0) || decide (v = 1)
theorem z01_n {v : Int32} (h : z01 v = true) : narrow .boolean (.int v) = .int v := by
  simp only [z01, Bool.or_eq_true, decide_eq_true_eq] at h
  rcases h with rfl | rfl <;> rfl
theorem z01_f {v : Int32} (h : z01 v = true) : fits .boolean (.int v) = true := by
  simp only [z01, Bool.or_eq_true, decide_eq_true_eq] at h
  rcases h with rfl | rfl <;> rfl
section MMT
variable {p : Program} {l : Launch} {e : Env} {R : Room} {s : State} {m : MethodId} {args : Array Value} {below : List Frame} {meth : Method} {c : Code} {H : Heap} {locs : List Loc} {cells slots : Nat} {Q : State → Prop}
variable {cc : ByteArray} {pc : Nat} {ls : Array Slot} {rest : List Value} {G : GG} {nw : Nat} {x mo x' mo' : Me} {r v : Int32}
theorem lv_tabK (hx : p.tables.exec = Jvm.exec) (hb : c.code = cc) {dflt lo hi : Int} {offs : Array Int} {len : Nat} {x k : Int32} {off : Int} {tgt : Nat} (hdg : decode cc pc = .ok (.tableswitch dflt lo hi offs, len)) (hc : x = k) (h1 : ¬ k.toInt < lo) (h2 : ¬ hi < k.toInt) (ho : offs[(k.toInt - lo).toNat]? = some off) (ht : (pc : Int) + off = (tgt : Int))
    (kk : W p l e R s m args below meth c H locs cells slots Q (F0 m tgt ls rest)) : W p l e R s m args below meth c H locs cells slots Q (F0 m pc ls (.int x :: rest)) := by
  subst hc
  exact lv_tableIn hx hb hdg h1 h2 ho ht kk
theorem lv_lkK (hx : p.tables.exec = Jvm.exec) (hb : c.code = cc) {dflt : Int} {ps : Array (Int × Int)} {len : Nat} {x k : Int32} {off : Int} {tgt : Nat} (hdg : decode cc pc = .ok (.lookupswitch dflt ps, len)) (hc : x = k) (hp : (ps.toList.zip (ps.toList.drop 1)).all (fun (a, next) => a.1 < next.1) = true) (ho : Op.lookupswitch.offset ps.toList dflt k.toInt = off) (ht : (pc : Int) + off = (tgt : Int))
    (kk : W p l e R s m args below meth c H locs cells slots Q (F0 m tgt ls rest)) : W p l e R s m args below meth c H locs cells slots Q (F0 m pc ls (.int x :: rest)) := by
  subst hc
  exact lv_lookup hx hb hdg hp ho ht kk
theorem rt_iX (hx : p.tables.exec = Jvm.exec) (hb : c.code = cc) (hr : meth.sig.returnType = some .int) (hf : some (x, v) = some (x', r)) (hM : MemP G nw x mo H) (hS : va_S (gA G) s.heap H locs) (hdg : decode cc pc = .ok (.ireturn, 1)) (hlocks : meth.locks = false) :
    W p l e R s m args below meth c H locs cells slots (MQ below (PI G nw x' mo r) args s cells slots (gA G)) (F0 m pc ls [.int v]) := by
  cases hf
  exact W.iret hx hb hr (fun t ht hW => ⟨⟨_, (), rfl, rfl, by subst ht; exact hM⟩, hS.F ht⟩) hS.2.2 hdg hlocks
theorem rt_iM (hx : p.tables.exec = Jvm.exec) (hb : c.code = cc) (hr : meth.sig.returnType = some .int) (hf : some (x, v) = some (x', r)) (hM : MemP G nw mo x H) (hS : va_S (gA G) s.heap H locs) (hdg : decode cc pc = .ok (.ireturn, 1)) (hlocks : meth.locks = false) :
    W p l e R s m args below meth c H locs cells slots (MQ below (PI G nw mo x' r) args s cells slots (gA G)) (F0 m pc ls [.int v]) := by
  cases hf
  exact W.iret hx hb hr (fun t ht hW => ⟨⟨_, (), rfl, rfl, by subst ht; exact hM⟩, hS.F ht⟩) hS.2.2 hdg hlocks
theorem rt_zX {ty : FieldType} (hx : p.tables.exec = Jvm.exec) (hb : c.code = cc) (hr : meth.sig.returnType = some ty) (hn : narrow ty (.int v) = .int v) (hf : some (x, v) = some (x', r)) (hM : MemP G nw x mo H) (hS : va_S (gA G) s.heap H locs) (hdg : decode cc pc = .ok (.ireturn, 1)) (hlocks : meth.locks = false) :
    W p l e R s m args below meth c H locs cells slots (MQ below (PI G nw x' mo r) args s cells slots (gA G)) (F0 m pc ls [.int v]) := by
  cases hf
  exact W.zret hx hb hr hn (fun t ht hW => ⟨⟨_, (), rfl, rfl, by subst ht; exact hM⟩, hS.F ht⟩) hS.2.2 hdg hlocks
theorem rt_zM {ty : FieldType} (hx : p.tables.exec = Jvm.exec) (hb : c.code = cc) (hr : meth.sig.returnType = some ty) (hn : narrow ty (.int v) = .int v) (hf : some (x, v) = some (x', r)) (hM : MemP G nw mo x H) (hS : va_S (gA G) s.heap H locs) (hdg : decode cc pc = .ok (.ireturn, 1)) (hlocks : meth.locks = false) :
    W p l e R s m args below meth c H locs cells slots (MQ below (PI G nw mo x' r) args s cells slots (gA G)) (F0 m pc ls [.int v]) := by
  cases hf
  exact W.zret hx hb hr hn (fun t ht hW => ⟨⟨_, (), rfl, rfl, by subst ht; exact hM⟩, hS.F ht⟩) hS.2.2 hdg hlocks
theorem rt_vX {u : Unit} (hx : p.tables.exec = Jvm.exec) (hb : c.code = cc) (hr : meth.sig.returnType = none) (hf : some (x, ()) = some (x', u)) (hM : MemP G nw x mo H) (hS : va_S (gA G) s.heap H locs) (hdg : decode cc pc = .ok (.return_, 1)) (hlocks : meth.locks = false) :
    W p l e R s m args below meth c H locs cells slots (MQ below (PV G nw x' mo) args s cells slots (gA G)) (F0 m pc ls []) := by
  cases hf
  exact W.vret hx hb hr (fun t ht hW => ⟨⟨(), rfl, trivial, by subst ht; exact hM⟩, hS.F ht⟩) hS.2.2 hdg hlocks
theorem rt_vM {u : Unit} (hx : p.tables.exec = Jvm.exec) (hb : c.code = cc) (hr : meth.sig.returnType = none) (hf : some (x, ()) = some (x', u)) (hM : MemP G nw mo x H) (hS : va_S (gA G) s.heap H locs) (hdg : decode cc pc = .ok (.return_, 1)) (hlocks : meth.locks = false) :
    W p l e R s m args below meth c H locs cells slots (MQ below (PV G nw mo x') args s cells slots (gA G)) (F0 m pc ls []) := by
  cases hf
  exact W.vret hx hb hr (fun t ht hW => ⟨⟨(), rfl, trivial, by subst ht; exact hM⟩, hS.F ht⟩) hS.2.2 hdg hlocks
theorem rt_q {o ro : Option Nat} {g : Nat → Nat} {C : String} (hx : p.tables.exec = Jvm.exec) (hb : c.code = cc) (hr : meth.sig.returnType = some (.object C)) (hf : some (x, o) = some (x', ro)) (hM : MemP G nw x mo H) (hS : va_S (gA G) s.heap H locs) (hdg : decode cc pc = .ok (.areturn, 1)) (hlocks : meth.locks = false) :
    W p l e R s m args below meth c H locs cells slots (MQ below (PQ G nw x' mo (ro.map g)) args s cells slots (gA G)) (F0 m pc ls [va_rf (o.map g)]) := by
  cases hf
  exact W.aret hx hb hr (Or.inl ⟨_, rfl⟩) (by cases o with | none => exact Or.inl rfl | some j => exact Or.inr ⟨_, rfl⟩) (fun t ht hW => ⟨⟨_, (), rfl, rfl, by subst ht; exact hM⟩, hS.F ht⟩) hS.2.2 hdg hlocks
theorem rt_s {k rk : Nat} {C : String} (hx : p.tables.exec = Jvm.exec) (hb : c.code = cc) (hr : meth.sig.returnType = some (.object C)) (hf : some (x, k) = some (x', rk)) (hM : MemP G nw x mo H) (hS : va_S (gA G) s.heap H locs) (hdg : decode cc pc = .ok (.areturn, 1)) (hlocks : meth.locks = false) :
    W p l e R s m args below meth c H locs cells slots (MQ below (PQ G nw x' mo (some (gk G rk))) args s cells slots (gA G)) (F0 m pc ls [.ref (gk G k)]) := by
  cases hf
  exact W.aret hx hb hr (Or.inl ⟨_, rfl⟩) (Or.inr ⟨_, rfl⟩) (fun t ht hW => ⟨⟨_, (), rfl, rfl, by subst ht; exact hM⟩, hS.F ht⟩) hS.2.2 hdg hlocks
theorem mm_copy {own : String} {index o0 o1 a0 a n0 n1 : Nat} {f g : Nat → Int32} {sp dp n : Int32} (hx : p.tables.exec = Jvm.exec) (hb : c.code = cc) (hml : c.maxLocals = ls.size) (hown : s.vm.findClass own = some m.cls) (hlink : (Cond.methodLink own index arraycopyName).before args s = true) (hnat : (Cond.native arraycopyName).before args s = true) (hstat : (Cond.static arraycopyName).before args s = true) (hini : (Cond.initialized "java/lang/System").before args s = true)
    (hE : EnvP G s) (hM : MemP G nw x mo H) (hS : va_S (gA G) s.heap H locs) (he0 : (mw G nw x mo)[o0]? = some (a0, .inl (gc G 1, n0, .inl f))) (he1 : (mw G nw x mo)[o1]? = some (a, .inl (gc G 1, n1, .inl g)))
    (hset : (mw G nw x mo).set o1 (a, .inl (gc G 1, n1, .inl (va_cpy f g sp.toNatClampNeg dp.toNatClampNeg n.toNatClampNeg))) = mw G nw x' mo') (hok : acok sp dp n n0 n1 = true) (hframes : 1 ≤ R.frames) (hlocals : (rest.map fun v => v.category).sum + (nativeFrameWords "java/lang/System" "arraycopy" 5 + 11) ≤ R.locals) (hdg : decode cc pc = .ok (.invokestatic index, 3))
    (kk : ∀ (H1 : Heap) (locs1 : List Loc), MemP G nw x' mo' H1 → va_S (gA G) s.heap H1 locs1 → W p l e R s m args below meth c H1 locs1 cells slots Q (F0 m (pc + 3) ls rest)) : W p l e R s m args below meth c H locs cells slots Q (F0 m pc ls (.int n :: .int dp :: .ref a :: .int sp :: .ref a0 :: rest)) := by
  simp only [acok, Bool.and_eq_true, Bool.not_eq_true', decide_eq_false_iff_not, decide_eq_true_eq] at hok
  obtain ⟨⟨⟨⟨h1, h2⟩, h3⟩, h4⟩, h5⟩ := hok
  exact va_copyi hx hb hml hown hlink hnat hstat hini hE.1 hM.1 hM.2 hS o0 o1 1 1 he0 he1 rfl rfl rfl h1 h2 h3 h4 h5 (fun _ _ => rfl) hframes hlocals hdg (fun H1 l1 hP hD hS => kk H1 l1 ⟨hset ▸ hP, hset ▸ hD⟩ hS)
end MMT
