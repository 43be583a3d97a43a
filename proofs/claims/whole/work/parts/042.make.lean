theorem dfX0 : ∀ j, j < 1 → defaultValue (tyX0 j) = vp_V [.int 0] j
  | 0, _ => rfl
  | j + 1, h => absurd h (by omega)
theorem dfX1 : ∀ j, j < 4 → defaultValue (tyX1 j) = vp_V [.int 0, .null, .null, .null] j
  | 0, _ => rfl
  | 1, _ => rfl
  | 2, _ => rfl
  | 3, _ => rfl
  | j + 4, h => absurd h (by omega)
theorem dfX2 : ∀ j, j < 14 → defaultValue (tyX2 j) = vp_V [.int 0, .null, .null, .null, .int 0, .null, .null, .null, .int 0, .int 0, .int 0, .int 0, .int 0, .int 0] j
  | 0, _ => rfl
  | 1, _ => rfl
  | 2, _ => rfl
  | 3, _ => rfl
  | 4, _ => rfl
  | 5, _ => rfl
  | 6, _ => rfl
  | 7, _ => rfl
  | 8, _ => rfl
  | 9, _ => rfl
  | 10, _ => rfl
  | 11, _ => rfl
  | 12, _ => rfl
  | 13, _ => rfl
  | j + 14, h => absurd h (by omega)
theorem dfX3 : ∀ j, j < 5 → defaultValue (tyX3 j) = vp_V [.int 0, .null, .null, .null, .null] j
  | 0, _ => rfl
  | 1, _ => rfl
  | 2, _ => rfl
  | 3, _ => rfl
  | 4, _ => rfl
  | j + 5, h => absurd h (by omega)
theorem dfX4 : ∀ j, j < 8 → defaultValue (tyX4 j) = vp_V [.int 0, .int 0, .int 0, .int 0, .int 0, .int 0, .int 0, .int 0] j
  | 0, _ => rfl
  | 1, _ => rfl
  | 2, _ => rfl
  | 3, _ => rfl
  | 4, _ => rfl
  | 5, _ => rfl
  | 6, _ => rfl
  | 7, _ => rfl
  | j + 8, h => absurd h (by omega)
theorem dfX5 : ∀ j, j < 5 → defaultValue (tyX5 j) = vp_V [.int 0, .null, .null, .null, .null] j
  | 0, _ => rfl
  | 1, _ => rfl
  | 2, _ => rfl
  | 3, _ => rfl
  | 4, _ => rfl
  | j + 5, h => absurd h (by omega)
theorem dfX6 : ∀ j, j < 3 → defaultValue (tyX6 j) = vp_V [.int 0, .null, .null] j
  | 0, _ => rfl
  | 1, _ => rfl
  | 2, _ => rfl
  | j + 3, h => absurd h (by omega)
theorem dfX7 : ∀ j, j < 7 → defaultValue (tyX7 j) = vp_V [.null, .int 0, .int 0, .int 0, .null, .int 0, .int 0] j
  | 0, _ => rfl
  | 1, _ => rfl
  | 2, _ => rfl
  | 3, _ => rfl
  | 4, _ => rfl
  | 5, _ => rfl
  | 6, _ => rfl
  | j + 7, h => absurd h (by omega)
theorem dfX8 : ∀ j, j < 2 → defaultValue (tyX8 j) = vp_V [.int 0, .null] j
  | 0, _ => rfl
  | 1, _ => rfl
  | j + 2, h => absurd h (by omega)
theorem dfX9 : ∀ j, j < 6 → defaultValue (tyX9 j) = vp_V [.int 0, .int 0, .int 0, .int 0, .int 0, .int 0] j
  | 0, _ => rfl
  | 1, _ => rfl
  | 2, _ => rfl
  | 3, _ => rfl
  | 4, _ => rfl
  | 5, _ => rfl
  | j + 6, h => absurd h (by omega)
theorem dfX10 : ∀ j, j < 10 → defaultValue (tyX10 j) = vp_V [.null, .null, .null, .null, .null, .null, .null, .null, .int 0, .int 0] j
  | 0, _ => rfl
  | 1, _ => rfl
  | 2, _ => rfl
  | 3, _ => rfl
  | 4, _ => rfl
  | 5, _ => rfl
  | 6, _ => rfl
  | 7, _ => rfl
  | 8, _ => rfl
  | 9, _ => rfl
  | j + 10, h => absurd h (by omega)
theorem dfX11 : ∀ j, j < 54 → defaultValue (tyX11 j) = vp_V [.int 0, .null, .int 0, .int 0, .int 0, .null, .null, .int 0, .int 0, .int 0, .int 0, .int 0, .int 0, .int 0, .int 0, .int 0, .int 0, .int 0, .null, .null, .null, .null, .null, .null, .null, .null, .int 0, .null, .null, .int 0, .int 0, .null, .null, .null, .int 0, .int 0, .null, .null, .null, .null, .null, .null, .null, .int 0, .int 0, .int 0, .int 0, .int 0, .int 0, .null, .null, .null, .null, .int 0] j
  | 0, _ => rfl
  | 1, _ => rfl
  | 2, _ => rfl
  | 3, _ => rfl
  | 4, _ => rfl
  | 5, _ => rfl
  | 6, _ => rfl
  | 7, _ => rfl
  | 8, _ => rfl
  | 9, _ => rfl
  | 10, _ => rfl
  | 11, _ => rfl
  | 12, _ => rfl
  | 13, _ => rfl
  | 14, _ => rfl
  | 15, _ => rfl
  | 16, _ => rfl
  | 17, _ => rfl
  | 18, _ => rfl
  | 19, _ => rfl
  | 20, _ => rfl
  | 21, _ => rfl
  | 22, _ => rfl
  | 23, _ => rfl
  | 24, _ => rfl
  | 25, _ => rfl
  | 26, _ => rfl
  | 27, _ => rfl
  | 28, _ => rfl
  | 29, _ => rfl
  | 30, _ => rfl
  | 31, _ => rfl
  | 32, _ => rfl
  | 33, _ => rfl
  | 34, _ => rfl
  | 35, _ => rfl
  | 36, _ => rfl
  | 37, _ => rfl
  | 38, _ => rfl
  | 39, _ => rfl
  | 40, _ => rfl
  | 41, _ => rfl
  | 42, _ => rfl
  | 43, _ => rfl
  | 44, _ => rfl
  | 45, _ => rfl
  | 46, _ => rfl
  | 47, _ => rfl
  | 48, _ => rfl
  | 49, _ => rfl
  | 50, _ => rfl
  | 51, _ => rfl
  | 52, _ => rfl
  | 53, _ => rfl
  | j + 54, h => absurd h (by omega)
def rm_X0_init : Room := { frames := 1, cells := 0, slots := 0, locals := 20 }
def wo_X0_init (G : GG) (w0 : va_W) (h0 : Nat) (u : Nat → Nat) : va_W := w0 ++ [(h0, .inr (0, [.int 0]))]
set_option maxHeartbeats 4000000 in
set_option maxRecDepth 100000 in
theorem c_X0_init (l : Launch) (G : GG) (w0 : va_W) (h0 : Nat) : Met l yX0_init [.code yX0_init cX0_init 1 none] rm_X0_init (va_Pc [.ref h0] (PreC G (w0 ++ [(h0, .inr (0, [.int 0]))]))) (va_Qv (fun _ : Nat → Nat => True) (fun u t => WoP G (wo_X0_init G w0 h0 u) t.heap) (gA G)) 0 0 (gA G) := by
  refine mt_ofW (cc := cX0_init) (maxL := 1) (ret := none) (by decide +kernel) rfl ?_
  intro p e s m args below meth c s₁ B hml hv
  obtain ⟨rfl, hE, hO, hM⟩ := hv
  have hx := B.exec
  have hb := B.bytes
  have hr := B.returns
  have hown : s.vm.findClass RX0 = some m.cls := findClass_of_methodNamed B.named
  have hlocks := B.notSynchronized
  have hin : meth.name = "<init>" := (name_of_methodNamed B.named B.method).1
  have hS : va_S (gA G) s.heap s.heap [] := va_S.rf
  have hl := lv_entry ([.ref h0]) (n := 1) (Nat.le_of_ble_eq_true rfl)
  rw [lg_entry_eq]
  generalize (lg_sl ([.ref h0]) ++ List.replicate (1 - (lg_sl ([.ref h0])).length) Slot.unset).toArray = ls at hl ⊢
  have hl : lv_has ls 1 [(0, .ref h0)] := hl
  generalize ([.ref h0] : List Value).toArray = args
  refine lv_aload_n hx hb dX0_init_0 rfl (lv_at hl 0 rfl) ?_
  refine ct_rec hx hb (by rw [hml]; exact hl.1.symm) hE hown w_1_161 dX0_init_1 (Nat.le_of_ble_eq_true rfl) (Nat.le_of_ble_eq_true rfl) w_1_26 ?_
  exact W.vret hx hb hr (fun t ht hW => ⟨⟨(fun _ => 0), rfl, trivial, by show WoP G _ t.heap; rw [ht]; exact hM⟩, hS.F ht⟩) hS.2.2 dX0_init_4 hlocks
def rm_X4_init : Room := { frames := 1, cells := 0, slots := 0, locals := 20 }
def wo_X4_init (G : GG) (w0 : va_W) (h0 : Nat) (u : Nat → Nat) : va_W := w0 ++ [(h0, .inr (4, [.int 0, .int 0, .int 0, .int 0, .int 0, .int 0, .int 0, .int 0]))]
set_option maxHeartbeats 4000000 in
set_option maxRecDepth 100000 in
theorem c_X4_init (l : Launch) (G : GG) (w0 : va_W) (h0 : Nat) : Met l yX4_init [.code yX4_init cX4_init 1 none] rm_X4_init (va_Pc [.ref h0] (PreC G (w0 ++ [(h0, .inr (4, [.int 0, .int 0, .int 0, .int 0, .int 0, .int 0, .int 0, .int 0]))]))) (va_Qv (fun _ : Nat → Nat => True) (fun u t => WoP G (wo_X4_init G w0 h0 u) t.heap) (gA G)) 0 0 (gA G) := by
  refine mt_ofW (cc := cX4_init) (maxL := 1) (ret := none) (by decide +kernel) rfl ?_
  intro p e s m args below meth c s₁ B hml hv
  obtain ⟨rfl, hE, hO, hM⟩ := hv
  have hx := B.exec
  have hb := B.bytes
  have hr := B.returns
  have hown : s.vm.findClass RX4 = some m.cls := findClass_of_methodNamed B.named
  have hlocks := B.notSynchronized
  have hin : meth.name = "<init>" := (name_of_methodNamed B.named B.method).1
  have hS : va_S (gA G) s.heap s.heap [] := va_S.rf
  have hl := lv_entry ([.ref h0]) (n := 1) (Nat.le_of_ble_eq_true rfl)
  rw [lg_entry_eq]
  generalize (lg_sl ([.ref h0]) ++ List.replicate (1 - (lg_sl ([.ref h0])).length) Slot.unset).toArray = ls at hl ⊢
  have hl : lv_has ls 1 [(0, .ref h0)] := hl
  generalize ([.ref h0] : List Value).toArray = args
  refine lv_aload_n hx hb dX4_init_0 rfl (lv_at hl 0 rfl) ?_
  refine ct_rec hx hb (by rw [hml]; exact hl.1.symm) hE hown w_1_170 dX4_init_1 (Nat.le_of_ble_eq_true rfl) (Nat.le_of_ble_eq_true rfl) w_1_26 ?_
  exact W.vret hx hb hr (fun t ht hW => ⟨⟨(fun _ => 0), rfl, trivial, by show WoP G _ t.heap; rw [ht]; exact hM⟩, hS.F ht⟩) hS.2.2 dX4_init_4 hlocks
def rm_X9_init : Room := { frames := 1, cells := 0, slots := 0, locals := 20 }
def wo_X9_init (G : GG) (w0 : va_W) (h0 : Nat) (u : Nat → Nat) : va_W := w0 ++ [(h0, .inr (9, [.int 0, .int (-1), .int (-1), .int (-1), .int 0, .int 0]))]
set_option maxHeartbeats 4000000 in
set_option maxRecDepth 100000 in
theorem c_X9_init (l : Launch) (G : GG) (w0 : va_W) (h0 : Nat) : Met l yX9_init [.code yX9_init cX9_init 1 none] rm_X9_init (va_Pc [.ref h0] (PreC G (w0 ++ [(h0, .inr (9, [.int 0, .int 0, .int 0, .int 0, .int 0, .int 0]))]))) (va_Qv (fun _ : Nat → Nat => True) (fun u t => WoP G (wo_X9_init G w0 h0 u) t.heap) (gA G)) 0 0 (gA G) := by
  refine mt_ofW (cc := cX9_init) (maxL := 1) (ret := none) (by decide +kernel) rfl ?_
  intro p e s m args below meth c s₁ B hml hv
  obtain ⟨rfl, hE, hO, hM⟩ := hv
  have hx := B.exec
  have hb := B.bytes
  have hr := B.returns
  have hown : s.vm.findClass RX9 = some m.cls := findClass_of_methodNamed B.named
  have hlocks := B.notSynchronized
  have hin : meth.name = "<init>" := (name_of_methodNamed B.named B.method).1
  have hS : va_S (gA G) s.heap s.heap [] := va_S.rf
  have hl := lv_entry ([.ref h0]) (n := 1) (Nat.le_of_ble_eq_true rfl)
  rw [lg_entry_eq]
  generalize (lg_sl ([.ref h0]) ++ List.replicate (1 - (lg_sl ([.ref h0])).length) Slot.unset).toArray = ls at hl ⊢
  have hl : lv_has ls 1 [(0, .ref h0)] := hl
  generalize ([.ref h0] : List Value).toArray = args
  refine lv_aload_n hx hb dX9_init_0 rfl (lv_at hl 0 rfl) ?_
  refine ct_rec hx hb (by rw [hml]; exact hl.1.symm) hE hown w_2_227 dX9_init_1 (Nat.le_of_ble_eq_true rfl) (Nat.le_of_ble_eq_true rfl) w_1_26 ?_
  refine lv_aload_n hx hb dX9_init_4 rfl (lv_at hl 0 rfl) ?_
  refine lv_iconst (v := (-1)) hx hb dX9_init_5 (by decide) ?_
  refine ct_put (fs' := [.int 0, .int (-1), .int 0, .int 0, .int 0, .int 0]) (ci := 9) (C := RX9) (T := TX9) (N := 6) 1 tyX9 tyX9_ok nmX9 hx hb hE hM hS hown at_last rfl st_last rfl (by decide) laX9 rfl rfl (tyX9_ok 1 (by decide)) rfl rfl (Nat.le_of_ble_eq_true rfl) w_2_231 dX9_init_6 (fun H locs hM hS => ?_)
  refine lv_aload_n hx hb dX9_init_9 rfl (lv_at hl 0 rfl) ?_
  refine lv_iconst (v := (-1)) hx hb dX9_init_10 (by decide) ?_
  refine ct_put (fs' := [.int 0, .int (-1), .int (-1), .int 0, .int 0, .int 0]) (ci := 9) (C := RX9) (T := TX9) (N := 6) 2 tyX9 tyX9_ok nmX9 hx hb hE hM hS hown at_last rfl st_last rfl (by decide) laX9 rfl rfl (tyX9_ok 2 (by decide)) rfl rfl (Nat.le_of_ble_eq_true rfl) w_2_235 dX9_init_11 (fun H locs hM hS => ?_)
  refine lv_aload_n hx hb dX9_init_14 rfl (lv_at hl 0 rfl) ?_
  refine lv_iconst (v := (-1)) hx hb dX9_init_15 (by decide) ?_
  refine ct_put (fs' := [.int 0, .int (-1), .int (-1), .int (-1), .int 0, .int 0]) (ci := 9) (C := RX9) (T := TX9) (N := 6) 3 tyX9 tyX9_ok nmX9 hx hb hE hM hS hown at_last rfl st_last rfl (by decide) laX9 rfl rfl (tyX9_ok 3 (by decide)) rfl rfl (Nat.le_of_ble_eq_true rfl) w_2_238 dX9_init_16 (fun H locs hM hS => ?_)
  exact W.vret hx hb hr (fun t ht hW => ⟨⟨(fun _ => 0), rfl, trivial, by show WoP G _ t.heap; rw [ht]; exact hM⟩, hS.F ht⟩) hS.2.2 dX9_init_19 hlocks
def rm_X7_init : Room := { frames := 1, cells := 2, slots := 607, locals := 20 }
def wo_X7_init (G : GG) (w0 : va_W) (h0 : Nat) (u : Nat → Nat) : va_W := w0 ++ [(h0, .inr (7, [.ref (u 0), .int 0, .int 0, .int 0, .ref (u 1), .int 0, .int (-1)]))] ++ [((u 0), .inl (gc G 0, 600, .inl (fun _ => 0)))] ++ [((u 1), .inl (gc G 1, 7, .inl (fun _ => 0)))]
set_option maxHeartbeats 4000000 in
set_option maxRecDepth 100000 in
theorem c_X7_init (l : Launch) (G : GG) (w0 : va_W) (h0 : Nat) : Met l yX7_init [.code yX7_init cX7_init 1 none] rm_X7_init (va_Pc [.ref h0] (PreC G (w0 ++ [(h0, .inr (7, [.null, .int 0, .int 0, .int 0, .null, .int 0, .int 0]))]))) (va_Qv (fun _ : Nat → Nat => True) (fun u t => WoP G (wo_X7_init G w0 h0 u) t.heap) (gA G)) 2 607 (gA G) := by
  refine mt_ofW (cc := cX7_init) (maxL := 1) (ret := none) (by decide +kernel) rfl ?_
  intro p e s m args below meth c s₁ B hml hv
  obtain ⟨rfl, hE, hO, hM⟩ := hv
  have hx := B.exec
  have hb := B.bytes
  have hr := B.returns
  have hown : s.vm.findClass RX7 = some m.cls := findClass_of_methodNamed B.named
  have hlocks := B.notSynchronized
  have hin : meth.name = "<init>" := (name_of_methodNamed B.named B.method).1
  have hS : va_S (gA G) s.heap s.heap [] := va_S.rf
  have hl := lv_entry ([.ref h0]) (n := 1) (Nat.le_of_ble_eq_true rfl)
  rw [lg_entry_eq]
  generalize (lg_sl ([.ref h0]) ++ List.replicate (1 - (lg_sl ([.ref h0])).length) Slot.unset).toArray = ls at hl ⊢
  have hl : lv_has ls 1 [(0, .ref h0)] := hl
  generalize ([.ref h0] : List Value).toArray = args
  refine lv_aload_n hx hb dX7_init_0 rfl (lv_at hl 0 rfl) ?_
  refine ct_rec hx hb (by rw [hml]; exact hl.1.symm) hE hown w_1_33 dX7_init_1 (Nat.le_of_ble_eq_true rfl) (Nat.le_of_ble_eq_true rfl) w_1_26 ?_
  refine lv_aload_n hx hb dX7_init_4 rfl (lv_at hl 0 rfl) ?_
  refine lv_sipush (v := 600) hx hb dX7_init_5 (by decide) ?_
  refine ct_newb (N' := 600) hx hb hE hM hS (by decide) (by decide) (by decide) (Nat.le_of_ble_eq_true rfl) (Nat.le_of_ble_eq_true rfl) dX7_init_8 (fun q1 H hM hS => ?_)
  refine ct_putF (fs' := [.ref q1, .int 0, .int 0, .int 0, .null, .int 0, .int 0]) (ci := 7) (C := RX7) (T := TX7) (N := 7) 0 tyX7 tyX7_ok nmX7 hx hb hE hM hS hown hin (at_prev at_last) rfl (st_prev at_last st_last) rfl (by decide) laX7 rfl rfl rfl (tyX7_ok 0 (by decide)) rfl rfl (Nat.le_of_ble_eq_true rfl) w_1_34 dX7_init_10 (fun H locs hM hS => ?_)
  refine lv_aload_n hx hb dX7_init_13 rfl (lv_at hl 0 rfl) ?_
  refine lv_bipush (v := 7) hx hb dX7_init_14 (by decide) ?_
  refine ct_newi (N' := 7) hx hb hE hM hS (by decide) (by decide) (by decide) (Nat.le_of_ble_eq_true rfl) (Nat.le_of_ble_eq_true rfl) dX7_init_16 (fun q2 H hM hS => ?_)
  refine ct_putF (fs' := [.ref q1, .int 0, .int 0, .int 0, .ref q2, .int 0, .int 0]) (ci := 7) (C := RX7) (T := TX7) (N := 7) 4 tyX7 tyX7_ok nmX7 hx hb hE hM hS hown hin (at_prev (at_prev at_last)) rfl (st_prev (at_prev at_last) (st_prev at_last st_last)) rfl (by decide) laX7 rfl rfl rfl (tyX7_ok 4 (by decide)) rfl rfl (Nat.le_of_ble_eq_true rfl) w_1_39 dX7_init_18 (fun H locs hM hS => ?_)
  refine lv_aload_n hx hb dX7_init_21 rfl (lv_at hl 0 rfl) ?_
  refine lv_iconst (v := 0) hx hb dX7_init_22 (by decide) ?_
  refine ct_put (fs' := [.ref q1, .int 0, .int 0, .int 0, .ref q2, .int 0, .int 0]) (ci := 7) (C := RX7) (T := TX7) (N := 7) 5 tyX7 tyX7_ok nmX7 hx hb hE hM hS hown (at_prev (at_prev at_last)) rfl (st_prev (at_prev at_last) (st_prev at_last st_last)) rfl (by decide) laX7 rfl rfl (tyX7_ok 5 (by decide)) rfl rfl (Nat.le_of_ble_eq_true rfl) w_1_41 dX7_init_23 (fun H locs hM hS => ?_)
  refine lv_aload_n hx hb dX7_init_26 rfl (lv_at hl 0 rfl) ?_
  refine lv_iconst (v := (-1)) hx hb dX7_init_27 (by decide) ?_
  refine ct_put (fs' := [.ref q1, .int 0, .int 0, .int 0, .ref q2, .int 0, .int (-1)]) (ci := 7) (C := RX7) (T := TX7) (N := 7) 6 tyX7 tyX7_ok nmX7 hx hb hE hM hS hown (at_prev (at_prev at_last)) rfl (st_prev (at_prev at_last) (st_prev at_last st_last)) rfl (by decide) laX7 rfl rfl (tyX7_ok 6 (by decide)) rfl rfl (Nat.le_of_ble_eq_true rfl) w_1_43 dX7_init_28 (fun H locs hM hS => ?_)
  exact W.vret hx hb hr (fun t ht hW => ⟨⟨(fun i => ([q1, q2] : List Nat).getD i 0), rfl, trivial, by show WoP G _ t.heap; rw [ht]; exact hM⟩, hS.F ht⟩) hS.2.2 dX7_init_31 hlocks
def rm_X6_init : Room := { frames := 1, cells := 2, slots := 80, locals := 20 }
def wo_X6_init (G : GG) (w0 : va_W) (h0 : Nat) (u : Nat → Nat) : va_W := w0 ++ [(h0, .inr (6, [.int 0, .ref (u 0), .ref (u 1)]))] ++ [((u 0), .inl (gc G 1, 10, .inl (fun _ => 0)))] ++ [((u 1), .inl (gc G 1, 70, .inl (fun _ => 0)))]
set_option maxHeartbeats 4000000 in
set_option maxRecDepth 100000 in
theorem c_X6_init (l : Launch) (G : GG) (w0 : va_W) (h0 : Nat) : Met l yX6_init [.code yX6_init cX6_init 1 none] rm_X6_init (va_Pc [.ref h0] (PreC G (w0 ++ [(h0, .inr (6, [.int 0, .null, .null]))]))) (va_Qv (fun _ : Nat → Nat => True) (fun u t => WoP G (wo_X6_init G w0 h0 u) t.heap) (gA G)) 2 80 (gA G) := by
  refine mt_ofW (cc := cX6_init) (maxL := 1) (ret := none) (by decide +kernel) rfl ?_
  intro p e s m args below meth c s₁ B hml hv
  obtain ⟨rfl, hE, hO, hM⟩ := hv
  have hx := B.exec
  have hb := B.bytes
  have hr := B.returns
  have hown : s.vm.findClass RX6 = some m.cls := findClass_of_methodNamed B.named
  have hlocks := B.notSynchronized
  have hin : meth.name = "<init>" := (name_of_methodNamed B.named B.method).1
  have hS : va_S (gA G) s.heap s.heap [] := va_S.rf
  have hl := lv_entry ([.ref h0]) (n := 1) (Nat.le_of_ble_eq_true rfl)
  rw [lg_entry_eq]
  generalize (lg_sl ([.ref h0]) ++ List.replicate (1 - (lg_sl ([.ref h0])).length) Slot.unset).toArray = ls at hl ⊢
  have hl : lv_has ls 1 [(0, .ref h0)] := hl
  generalize ([.ref h0] : List Value).toArray = args
  refine lv_aload_n hx hb dX6_init_0 rfl (lv_at hl 0 rfl) ?_
  refine ct_rec hx hb (by rw [hml]; exact hl.1.symm) hE hown w_1_67 dX6_init_1 (Nat.le_of_ble_eq_true rfl) (Nat.le_of_ble_eq_true rfl) w_1_26 ?_
  refine lv_aload_n hx hb dX6_init_4 rfl (lv_at hl 0 rfl) ?_
  refine lv_bipush (v := 10) hx hb dX6_init_5 (by decide) ?_
  refine ct_newi (N' := 10) hx hb hE hM hS (by decide) (by decide) (by decide) (Nat.le_of_ble_eq_true rfl) (Nat.le_of_ble_eq_true rfl) dX6_init_7 (fun q1 H hM hS => ?_)
  refine ct_putF (fs' := [.int 0, .ref q1, .null]) (ci := 6) (C := RX6) (T := TX6) (N := 3) 1 tyX6 tyX6_ok nmX6 hx hb hE hM hS hown hin (at_prev at_last) rfl (st_prev at_last st_last) rfl (by decide) laX6 rfl rfl rfl (tyX6_ok 1 (by decide)) rfl rfl (Nat.le_of_ble_eq_true rfl) w_1_70 dX6_init_9 (fun H locs hM hS => ?_)
  refine lv_aload_n hx hb dX6_init_12 rfl (lv_at hl 0 rfl) ?_
  refine lv_bipush (v := 70) hx hb dX6_init_13 (by decide) ?_
  refine ct_newi (N' := 70) hx hb hE hM hS (by decide) (by decide) (by decide) (Nat.le_of_ble_eq_true rfl) (Nat.le_of_ble_eq_true rfl) dX6_init_15 (fun q2 H hM hS => ?_)
  refine ct_putF (fs' := [.int 0, .ref q1, .ref q2]) (ci := 6) (C := RX6) (T := TX6) (N := 3) 2 tyX6 tyX6_ok nmX6 hx hb hE hM hS hown hin (at_prev (at_prev at_last)) rfl (st_prev (at_prev at_last) (st_prev at_last st_last)) rfl (by decide) laX6 rfl rfl rfl (tyX6_ok 2 (by decide)) rfl rfl (Nat.le_of_ble_eq_true rfl) w_1_71 dX6_init_17 (fun H locs hM hS => ?_)
  exact W.vret hx hb hr (fun t ht hW => ⟨⟨(fun i => ([q1, q2] : List Nat).getD i 0), rfl, trivial, by show WoP G _ t.heap; rw [ht]; exact hM⟩, hS.F ht⟩) hS.2.2 dX6_init_20 hlocks
def rm_X8_init : Room := { frames := 1, cells := 1, slots := 17, locals := 20 }
def wo_X8_init (G : GG) (w0 : va_W) (h0 : Nat) (u : Nat → Nat) : va_W := w0 ++ [(h0, .inr (8, [.int 0, .ref (u 0)]))] ++ [((u 0), .inl (gc G 4, 17, .inr (.inr (.inr (.inr (fun _ => none))))))]
set_option maxHeartbeats 4000000 in
set_option maxRecDepth 100000 in
theorem c_X8_init (l : Launch) (G : GG) (w0 : va_W) (h0 : Nat) : Met l yX8_init [.code yX8_init cX8_init 1 none] rm_X8_init (va_Pc [.ref h0] (PreC G (w0 ++ [(h0, .inr (8, [.int 0, .null]))]))) (va_Qv (fun _ : Nat → Nat => True) (fun u t => WoP G (wo_X8_init G w0 h0 u) t.heap) (gA G)) 1 17 (gA G) := by
  refine mt_ofW (cc := cX8_init) (maxL := 1) (ret := none) (by decide +kernel) rfl ?_
  intro p e s m args below meth c s₁ B hml hv
  obtain ⟨rfl, hE, hO, hM⟩ := hv
  have hx := B.exec
  have hb := B.bytes
  have hr := B.returns
  have hown : s.vm.findClass RX8 = some m.cls := findClass_of_methodNamed B.named
  have hlocks := B.notSynchronized
  have hin : meth.name = "<init>" := (name_of_methodNamed B.named B.method).1
  have hS : va_S (gA G) s.heap s.heap [] := va_S.rf
  have hl := lv_entry ([.ref h0]) (n := 1) (Nat.le_of_ble_eq_true rfl)
  rw [lg_entry_eq]
  generalize (lg_sl ([.ref h0]) ++ List.replicate (1 - (lg_sl ([.ref h0])).length) Slot.unset).toArray = ls at hl ⊢
  have hl : lv_has ls 1 [(0, .ref h0)] := hl
  generalize ([.ref h0] : List Value).toArray = args
  refine lv_aload_n hx hb dX8_init_0 rfl (lv_at hl 0 rfl) ?_
  refine ct_rec hx hb (by rw [hml]; exact hl.1.symm) hE hown w_1_84 dX8_init_1 (Nat.le_of_ble_eq_true rfl) (Nat.le_of_ble_eq_true rfl) w_1_26 ?_
  refine lv_aload_n hx hb dX8_init_4 rfl (lv_at hl 0 rfl) ?_
  refine lv_bipush (v := 17) hx hb dX8_init_5 (by decide) ?_
  refine ct_newq (N' := 17) 4 rfl hx hb hown w_1_85 hO.2 hE hM hS (by decide) (by decide) (by decide) (Nat.le_of_ble_eq_true rfl) (Nat.le_of_ble_eq_true rfl) dX8_init_7 (fun q1 H hM hS => ?_)
  refine ct_putF (fs' := [.int 0, .ref q1]) (ci := 8) (C := RX8) (T := TX8) (N := 2) 1 tyX8 tyX8_ok nmX8 hx hb hE hM hS hown hin (at_prev at_last) rfl (st_prev at_last st_last) rfl (by decide) laX8 rfl rfl rfl (tyX8_ok 1 (by decide)) rfl rfl (Nat.le_of_ble_eq_true rfl) w_1_90 dX8_init_10 (fun H locs hM hS => ?_)
  exact W.vret hx hb hr (fun t ht hW => ⟨⟨(fun i => ([q1] : List Nat).getD i 0), rfl, trivial, by show WoP G _ t.heap; rw [ht]; exact hM⟩, hS.F ht⟩) hS.2.2 dX8_init_13 hlocks
def rm_X5_init : Room := { frames := 1, cells := 4, slots := 52, locals := 20 }
def wo_X5_init (G : GG) (w0 : va_W) (h0 : Nat) (u : Nat → Nat) : va_W := w0 ++ [(h0, .inr (5, [.int 0, .ref (u 0), .ref (u 1), .ref (u 2), .ref (u 3)]))] ++ [((u 0), .inl (gc G 1, 16, .inl (fun _ => 0)))] ++ [((u 1), .inl (gc G 2, 16, .inl (fun _ => 0)))] ++ [((u 2), .inl (gc G 1, 10, .inl (fun _ => 0)))] ++ [((u 3), .inl (gc G 1, 10, .inl (fun _ => 0)))]
set_option maxHeartbeats 4000000 in
set_option maxRecDepth 100000 in
theorem c_X5_init (l : Launch) (G : GG) (w0 : va_W) (h0 : Nat) : Met l yX5_init [.code yX5_init cX5_init 1 none] rm_X5_init (va_Pc [.ref h0] (PreC G (w0 ++ [(h0, .inr (5, [.int 0, .null, .null, .null, .null]))]))) (va_Qv (fun _ : Nat → Nat => True) (fun u t => WoP G (wo_X5_init G w0 h0 u) t.heap) (gA G)) 4 52 (gA G) := by
  refine mt_ofW (cc := cX5_init) (maxL := 1) (ret := none) (by decide +kernel) rfl ?_
  intro p e s m args below meth c s₁ B hml hv
  obtain ⟨rfl, hE, hO, hM⟩ := hv
  have hx := B.exec
  have hb := B.bytes
  have hr := B.returns
  have hown : s.vm.findClass RX5 = some m.cls := findClass_of_methodNamed B.named
  have hlocks := B.notSynchronized
  have hin : meth.name = "<init>" := (name_of_methodNamed B.named B.method).1
  have hS : va_S (gA G) s.heap s.heap [] := va_S.rf
  have hl := lv_entry ([.ref h0]) (n := 1) (Nat.le_of_ble_eq_true rfl)
  rw [lg_entry_eq]
  generalize (lg_sl ([.ref h0]) ++ List.replicate (1 - (lg_sl ([.ref h0])).length) Slot.unset).toArray = ls at hl ⊢
  have hl : lv_has ls 1 [(0, .ref h0)] := hl
  generalize ([.ref h0] : List Value).toArray = args
  refine lv_aload_n hx hb dX5_init_0 rfl (lv_at hl 0 rfl) ?_
  refine ct_rec hx hb (by rw [hml]; exact hl.1.symm) hE hown w_1_101 dX5_init_1 (Nat.le_of_ble_eq_true rfl) (Nat.le_of_ble_eq_true rfl) w_1_26 ?_
  refine lv_aload_n hx hb dX5_init_4 rfl (lv_at hl 0 rfl) ?_
  refine lv_bipush (v := 16) hx hb dX5_init_5 (by decide) ?_
  refine ct_newi (N' := 16) hx hb hE hM hS (by decide) (by decide) (by decide) (Nat.le_of_ble_eq_true rfl) (Nat.le_of_ble_eq_true rfl) dX5_init_7 (fun q1 H hM hS => ?_)
  refine ct_putF (fs' := [.int 0, .ref q1, .null, .null, .null]) (ci := 5) (C := RX5) (T := TX5) (N := 5) 1 tyX5 tyX5_ok nmX5 hx hb hE hM hS hown hin (at_prev at_last) rfl (st_prev at_last st_last) rfl (by decide) laX5 rfl rfl rfl (tyX5_ok 1 (by decide)) rfl rfl (Nat.le_of_ble_eq_true rfl) w_1_104 dX5_init_9 (fun H locs hM hS => ?_)
  refine lv_aload_n hx hb dX5_init_12 rfl (lv_at hl 0 rfl) ?_
  refine lv_bipush (v := 16) hx hb dX5_init_13 (by decide) ?_
  refine ct_newz (N' := 16) hx hb hE hM hS (by decide) (by decide) (by decide) (Nat.le_of_ble_eq_true rfl) (Nat.le_of_ble_eq_true rfl) dX5_init_15 (fun q2 H hM hS => ?_)
  refine ct_putF (fs' := [.int 0, .ref q1, .ref q2, .null, .null]) (ci := 5) (C := RX5) (T := TX5) (N := 5) 2 tyX5 tyX5_ok nmX5 hx hb hE hM hS hown hin (at_prev (at_prev at_last)) rfl (st_prev (at_prev at_last) (st_prev at_last st_last)) rfl (by decide) laX5 rfl rfl rfl (tyX5_ok 2 (by decide)) rfl rfl (Nat.le_of_ble_eq_true rfl) w_1_105 dX5_init_17 (fun H locs hM hS => ?_)
  refine lv_aload_n hx hb dX5_init_20 rfl (lv_at hl 0 rfl) ?_
  refine lv_bipush (v := 10) hx hb dX5_init_21 (by decide) ?_
  refine ct_newi (N' := 10) hx hb hE hM hS (by decide) (by decide) (by decide) (Nat.le_of_ble_eq_true rfl) (Nat.le_of_ble_eq_true rfl) dX5_init_23 (fun q3 H hM hS => ?_)
  refine ct_putF (fs' := [.int 0, .ref q1, .ref q2, .ref q3, .null]) (ci := 5) (C := RX5) (T := TX5) (N := 5) 3 tyX5 tyX5_ok nmX5 hx hb hE hM hS hown hin (at_prev (at_prev (at_prev at_last))) rfl (st_prev (at_prev (at_prev at_last)) (st_prev (at_prev at_last) (st_prev at_last st_last))) rfl (by decide) laX5 rfl rfl rfl (tyX5_ok 3 (by decide)) rfl rfl (Nat.le_of_ble_eq_true rfl) w_1_107 dX5_init_25 (fun H locs hM hS => ?_)
  refine lv_aload_n hx hb dX5_init_28 rfl (lv_at hl 0 rfl) ?_
  refine lv_bipush (v := 10) hx hb dX5_init_29 (by decide) ?_
  refine ct_newi (N' := 10) hx hb hE hM hS (by decide) (by decide) (by decide) (Nat.le_of_ble_eq_true rfl) (Nat.le_of_ble_eq_true rfl) dX5_init_31 (fun q4 H hM hS => ?_)
  refine ct_putF (fs' := [.int 0, .ref q1, .ref q2, .ref q3, .ref q4]) (ci := 5) (C := RX5) (T := TX5) (N := 5) 4 tyX5 tyX5_ok nmX5 hx hb hE hM hS hown hin (at_prev (at_prev (at_prev (at_prev at_last)))) rfl (st_prev (at_prev (at_prev (at_prev at_last))) (st_prev (at_prev (at_prev at_last)) (st_prev (at_prev at_last) (st_prev at_last st_last)))) rfl (by decide) laX5 rfl rfl rfl (tyX5_ok 4 (by decide)) rfl rfl (Nat.le_of_ble_eq_true rfl) w_1_109 dX5_init_33 (fun H locs hM hS => ?_)
  exact W.vret hx hb hr (fun t ht hW => ⟨⟨(fun i => ([q1, q2, q3, q4] : List Nat).getD i 0), rfl, trivial, by show WoP G _ t.heap; rw [ht]; exact hM⟩, hS.F ht⟩) hS.2.2 dX5_init_36 hlocks
def rm_X3_init : Room := { frames := 1, cells := 4, slots := 40, locals := 20 }
def wo_X3_init (G : GG) (w0 : va_W) (h0 : Nat) (u : Nat → Nat) : va_W := w0 ++ [(h0, .inr (3, [.int 0, .ref (u 0), .ref (u 1), .ref (u 2), .ref (u 3)]))] ++ [((u 0), .inl (gc G 1, 10, .inl (fun _ => 0)))] ++ [((u 1), .inl (gc G 1, 10, .inl (fun _ => 0)))] ++ [((u 2), .inl (gc G 1, 10, .inl (fun _ => 0)))] ++ [((u 3), .inl (gc G 1, 10, .inl (fun _ => 0)))]
set_option maxHeartbeats 4000000 in
set_option maxRecDepth 100000 in
theorem c_X3_init (l : Launch) (G : GG) (w0 : va_W) (h0 : Nat) : Met l yX3_init [.code yX3_init cX3_init 1 none] rm_X3_init (va_Pc [.ref h0] (PreC G (w0 ++ [(h0, .inr (3, [.int 0, .null, .null, .null, .null]))]))) (va_Qv (fun _ : Nat → Nat => True) (fun u t => WoP G (wo_X3_init G w0 h0 u) t.heap) (gA G)) 4 40 (gA G) := by
  refine mt_ofW (cc := cX3_init) (maxL := 1) (ret := none) (by decide +kernel) rfl ?_
  intro p e s m args below meth c s₁ B hml hv
  obtain ⟨rfl, hE, hO, hM⟩ := hv
  have hx := B.exec
  have hb := B.bytes
  have hr := B.returns
  have hown : s.vm.findClass RX3 = some m.cls := findClass_of_methodNamed B.named
  have hlocks := B.notSynchronized
  have hin : meth.name = "<init>" := (name_of_methodNamed B.named B.method).1
  have hS : va_S (gA G) s.heap s.heap [] := va_S.rf
  have hl := lv_entry ([.ref h0]) (n := 1) (Nat.le_of_ble_eq_true rfl)
  rw [lg_entry_eq]
  generalize (lg_sl ([.ref h0]) ++ List.replicate (1 - (lg_sl ([.ref h0])).length) Slot.unset).toArray = ls at hl ⊢
  have hl : lv_has ls 1 [(0, .ref h0)] := hl
  generalize ([.ref h0] : List Value).toArray = args
  refine lv_aload_n hx hb dX3_init_0 rfl (lv_at hl 0 rfl) ?_
  refine ct_rec hx hb (by rw [hml]; exact hl.1.symm) hE hown w_1_127 dX3_init_1 (Nat.le_of_ble_eq_true rfl) (Nat.le_of_ble_eq_true rfl) w_1_26 ?_
  refine lv_aload_n hx hb dX3_init_4 rfl (lv_at hl 0 rfl) ?_
  refine lv_bipush (v := 10) hx hb dX3_init_5 (by decide) ?_
  refine ct_newi (N' := 10) hx hb hE hM hS (by decide) (by decide) (by decide) (Nat.le_of_ble_eq_true rfl) (Nat.le_of_ble_eq_true rfl) dX3_init_7 (fun q1 H hM hS => ?_)
  refine ct_putF (fs' := [.int 0, .ref q1, .null, .null, .null]) (ci := 3) (C := RX3) (T := TX3) (N := 5) 1 tyX3 tyX3_ok nmX3 hx hb hE hM hS hown hin (at_prev at_last) rfl (st_prev at_last st_last) rfl (by decide) laX3 rfl rfl rfl (tyX3_ok 1 (by decide)) rfl rfl (Nat.le_of_ble_eq_true rfl) w_1_130 dX3_init_9 (fun H locs hM hS => ?_)
  refine lv_aload_n hx hb dX3_init_12 rfl (lv_at hl 0 rfl) ?_
  refine lv_bipush (v := 10) hx hb dX3_init_13 (by decide) ?_
  refine ct_newi (N' := 10) hx hb hE hM hS (by decide) (by decide) (by decide) (Nat.le_of_ble_eq_true rfl) (Nat.le_of_ble_eq_true rfl) dX3_init_15 (fun q2 H hM hS => ?_)
  refine ct_putF (fs' := [.int 0, .ref q1, .ref q2, .null, .null]) (ci := 3) (C := RX3) (T := TX3) (N := 5) 2 tyX3 tyX3_ok nmX3 hx hb hE hM hS hown hin (at_prev (at_prev at_last)) rfl (st_prev (at_prev at_last) (st_prev at_last st_last)) rfl (by decide) laX3 rfl rfl rfl (tyX3_ok 2 (by decide)) rfl rfl (Nat.le_of_ble_eq_true rfl) w_1_132 dX3_init_17 (fun H locs hM hS => ?_)
  refine lv_aload_n hx hb dX3_init_20 rfl (lv_at hl 0 rfl) ?_
  refine lv_bipush (v := 10) hx hb dX3_init_21 (by decide) ?_
  refine ct_newi (N' := 10) hx hb hE hM hS (by decide) (by decide) (by decide) (Nat.le_of_ble_eq_true rfl) (Nat.le_of_ble_eq_true rfl) dX3_init_23 (fun q3 H hM hS => ?_)
  refine ct_putF (fs' := [.int 0, .ref q1, .ref q2, .ref q3, .null]) (ci := 3) (C := RX3) (T := TX3) (N := 5) 3 tyX3 tyX3_ok nmX3 hx hb hE hM hS hown hin (at_prev (at_prev (at_prev at_last))) rfl (st_prev (at_prev (at_prev at_last)) (st_prev (at_prev at_last) (st_prev at_last st_last))) rfl (by decide) laX3 rfl rfl rfl (tyX3_ok 3 (by decide)) rfl rfl (Nat.le_of_ble_eq_true rfl) w_1_134 dX3_init_25 (fun H locs hM hS => ?_)
  refine lv_aload_n hx hb dX3_init_28 rfl (lv_at hl 0 rfl) ?_
  refine lv_bipush (v := 10) hx hb dX3_init_29 (by decide) ?_
  refine ct_newi (N' := 10) hx hb hE hM hS (by decide) (by decide) (by decide) (Nat.le_of_ble_eq_true rfl) (Nat.le_of_ble_eq_true rfl) dX3_init_31 (fun q4 H hM hS => ?_)
  refine ct_putF (fs' := [.int 0, .ref q1, .ref q2, .ref q3, .ref q4]) (ci := 3) (C := RX3) (T := TX3) (N := 5) 4 tyX3 tyX3_ok nmX3 hx hb hE hM hS hown hin (at_prev (at_prev (at_prev (at_prev at_last)))) rfl (st_prev (at_prev (at_prev (at_prev at_last))) (st_prev (at_prev (at_prev at_last)) (st_prev (at_prev at_last) (st_prev at_last st_last)))) rfl (by decide) laX3 rfl rfl rfl (tyX3_ok 4 (by decide)) rfl rfl (Nat.le_of_ble_eq_true rfl) w_1_136 dX3_init_33 (fun H locs hM hS => ?_)
  exact W.vret hx hb hr (fun t ht hW => ⟨⟨(fun i => ([q1, q2, q3, q4] : List Nat).getD i 0), rfl, trivial, by show WoP G _ t.heap; rw [ht]; exact hM⟩, hS.F ht⟩) hS.2.2 dX3_init_36 hlocks
def rm_X1_init : Room := { frames := 1, cells := 3, slots := 120, locals := 20 }
def wo_X1_init (G : GG) (w0 : va_W) (h0 : Nat) (u : Nat → Nat) : va_W := w0 ++ [(h0, .inr (1, [.int 0, .ref (u 0), .ref (u 1), .ref (u 2)]))] ++ [((u 0), .inl (gc G 1, 40, .inl (fun _ => 0)))] ++ [((u 1), .inl (gc G 1, 40, .inl (fun _ => 0)))] ++ [((u 2), .inl (gc G 1, 40, .inl (fun _ => 0)))]
set_option maxHeartbeats 4000000 in
set_option maxRecDepth 100000 in
theorem c_X1_init (l : Launch) (G : GG) (w0 : va_W) (h0 : Nat) : Met l yX1_init [.code yX1_init cX1_init 1 none] rm_X1_init (va_Pc [.ref h0] (PreC G (w0 ++ [(h0, .inr (1, [.int 0, .null, .null, .null]))]))) (va_Qv (fun _ : Nat → Nat => True) (fun u t => WoP G (wo_X1_init G w0 h0 u) t.heap) (gA G)) 3 120 (gA G) := by
  refine mt_ofW (cc := cX1_init) (maxL := 1) (ret := none) (by decide +kernel) rfl ?_
  intro p e s m args below meth c s₁ B hml hv
  obtain ⟨rfl, hE, hO, hM⟩ := hv
  have hx := B.exec
  have hb := B.bytes
  have hr := B.returns
  have hown : s.vm.findClass RX1 = some m.cls := findClass_of_methodNamed B.named
  have hlocks := B.notSynchronized
  have hin : meth.name = "<init>" := (name_of_methodNamed B.named B.method).1
  have hS : va_S (gA G) s.heap s.heap [] := va_S.rf
  have hl := lv_entry ([.ref h0]) (n := 1) (Nat.le_of_ble_eq_true rfl)
  rw [lg_entry_eq]
  generalize (lg_sl ([.ref h0]) ++ List.replicate (1 - (lg_sl ([.ref h0])).length) Slot.unset).toArray = ls at hl ⊢
  have hl : lv_has ls 1 [(0, .ref h0)] := hl
  generalize ([.ref h0] : List Value).toArray = args
  refine lv_aload_n hx hb dX1_init_0 rfl (lv_at hl 0 rfl) ?_
  refine ct_rec hx hb (by rw [hml]; exact hl.1.symm) hE hown w_2_24 dX1_init_1 (Nat.le_of_ble_eq_true rfl) (Nat.le_of_ble_eq_true rfl) w_1_26 ?_
  refine lv_aload_n hx hb dX1_init_4 rfl (lv_at hl 0 rfl) ?_
  refine lv_bipush (v := 40) hx hb dX1_init_5 (by decide) ?_
  refine ct_newi (N' := 40) hx hb hE hM hS (by decide) (by decide) (by decide) (Nat.le_of_ble_eq_true rfl) (Nat.le_of_ble_eq_true rfl) dX1_init_7 (fun q1 H hM hS => ?_)
  refine ct_putF (fs' := [.int 0, .ref q1, .null, .null]) (ci := 1) (C := RX1) (T := TX1) (N := 4) 1 tyX1 tyX1_ok nmX1 hx hb hE hM hS hown hin (at_prev at_last) rfl (st_prev at_last st_last) rfl (by decide) laX1 rfl rfl rfl (tyX1_ok 1 (by decide)) rfl rfl (Nat.le_of_ble_eq_true rfl) w_2_27 dX1_init_9 (fun H locs hM hS => ?_)
  refine lv_aload_n hx hb dX1_init_12 rfl (lv_at hl 0 rfl) ?_
  refine lv_bipush (v := 40) hx hb dX1_init_13 (by decide) ?_
  refine ct_newi (N' := 40) hx hb hE hM hS (by decide) (by decide) (by decide) (Nat.le_of_ble_eq_true rfl) (Nat.le_of_ble_eq_true rfl) dX1_init_15 (fun q2 H hM hS => ?_)
  refine ct_putF (fs' := [.int 0, .ref q1, .ref q2, .null]) (ci := 1) (C := RX1) (T := TX1) (N := 4) 2 tyX1 tyX1_ok nmX1 hx hb hE hM hS hown hin (at_prev (at_prev at_last)) rfl (st_prev (at_prev at_last) (st_prev at_last st_last)) rfl (by decide) laX1 rfl rfl rfl (tyX1_ok 2 (by decide)) rfl rfl (Nat.le_of_ble_eq_true rfl) w_2_28 dX1_init_17 (fun H locs hM hS => ?_)
  refine lv_aload_n hx hb dX1_init_20 rfl (lv_at hl 0 rfl) ?_
  refine lv_bipush (v := 40) hx hb dX1_init_21 (by decide) ?_
  refine ct_newi (N' := 40) hx hb hE hM hS (by decide) (by decide) (by decide) (Nat.le_of_ble_eq_true rfl) (Nat.le_of_ble_eq_true rfl) dX1_init_23 (fun q3 H hM hS => ?_)
  refine ct_putF (fs' := [.int 0, .ref q1, .ref q2, .ref q3]) (ci := 1) (C := RX1) (T := TX1) (N := 4) 3 tyX1 tyX1_ok nmX1 hx hb hE hM hS hown hin (at_prev (at_prev (at_prev at_last))) rfl (st_prev (at_prev (at_prev at_last)) (st_prev (at_prev at_last) (st_prev at_last st_last))) rfl (by decide) laX1 rfl rfl rfl (tyX1_ok 3 (by decide)) rfl rfl (Nat.le_of_ble_eq_true rfl) w_2_29 dX1_init_25 (fun H locs hM hS => ?_)
  exact W.vret hx hb hr (fun t ht hW => ⟨⟨(fun i => ([q1, q2, q3] : List Nat).getD i 0), rfl, trivial, by show WoP G _ t.heap; rw [ht]; exact hM⟩, hS.F ht⟩) hS.2.2 dX1_init_28 hlocks
def rm_X2_init : Room := { frames := 2, cells := 16, slots := 195, locals := 40 }
def wo_X2_init (G : GG) (w0 : va_W) (h0 : Nat) (u : Nat → Nat) : va_W := w0 ++ [(h0, .inr (2, [.int 20, .ref (u 0), .ref (u 1), .ref (u 2), .int 0, .ref (u 3), .ref (u 4), .ref (u 5), .int 0, .int 0, .int 0, .int 0, .int 0, .int (-1)]))] ++ [((u 0), .inl (gc G 2, 60, .inl (fun _ => 0)))] ++ [((u 1), .inl (gc G 1, 17, .inl (fun _ => 0)))] ++ [((u 2), .inl (gc G 1, 17, .inl (fun _ => 0)))] ++ [((u 3), .inl (gc G 3, 10, .inr (.inr (.inr (.inr (va_up (va_up (va_up (va_up (va_up (va_up (va_up (va_up (va_up (va_up (fun _ => none) 0 (some (u 6))) 1 (some (u 7))) 2 (some (u 8))) 3 (some (u 9))) 4 (some (u 10))) 5 (some (u 11))) 6 (some (u 12))) 7 (some (u 13))) 8 (some (u 14))) 9 (some (u 15))))))))] ++ [((u 4), .inl (gc G 1, 10, .inl (fun _ => 0)))] ++ [((u 5), .inr (0, [.int 0]))] ++ [((u 6), .inr (4, [.int 0, .int 0, .int 0, .int 0, .int 0, .int 0, .int 0, .int 0]))] ++ [((u 7), .inr (4, [.int 0, .int 0, .int 0, .int 0, .int 0, .int 0, .int 0, .int 0]))] ++ [((u 8), .inr (4, [.int 0, .int 0, .int 0, .int 0, .int 0, .int 0, .int 0, .int 0]))] ++ [((u 9), .inr (4, [.int 0, .int 0, .int 0, .int 0, .int 0, .int 0, .int 0, .int 0]))] ++ [((u 10), .inr (4, [.int 0, .int 0, .int 0, .int 0, .int 0, .int 0, .int 0, .int 0]))] ++ [((u 11), .inr (4, [.int 0, .int 0, .int 0, .int 0, .int 0, .int 0, .int 0, .int 0]))] ++ [((u 12), .inr (4, [.int 0, .int 0, .int 0, .int 0, .int 0, .int 0, .int 0, .int 0]))] ++ [((u 13), .inr (4, [.int 0, .int 0, .int 0, .int 0, .int 0, .int 0, .int 0, .int 0]))] ++ [((u 14), .inr (4, [.int 0, .int 0, .int 0, .int 0, .int 0, .int 0, .int 0, .int 0]))] ++ [((u 15), .inr (4, [.int 0, .int 0, .int 0, .int 0, .int 0, .int 0, .int 0, .int 0]))]
set_option maxHeartbeats 4000000 in
set_option maxRecDepth 100000 in
theorem c_X2_init (l : Launch) (G : GG) (w0 : va_W) (h0 : Nat) : Met l yX2_init [.code yX2_init cX2_init 2 none] rm_X2_init (va_Pc [.ref h0] (PreC G (w0 ++ [(h0, .inr (2, [.int 0, .null, .null, .null, .int 0, .null, .null, .null, .int 0, .int 0, .int 0, .int 0, .int 0, .int 0]))]))) (va_Qv (fun _ : Nat → Nat => True) (fun u t => WoP G (wo_X2_init G w0 h0 u) t.heap) (gA G)) 16 195 (gA G) := by
  refine mt_ofW (cc := cX2_init) (maxL := 2) (ret := none) (by decide +kernel) rfl ?_
  intro p e s m args below meth c s₁ B hml hv
  obtain ⟨rfl, hE, hO, hM⟩ := hv
  have hx := B.exec
  have hb := B.bytes
  have hr := B.returns
  have hown : s.vm.findClass RX2 = some m.cls := findClass_of_methodNamed B.named
  have hlocks := B.notSynchronized
  have hin : meth.name = "<init>" := (name_of_methodNamed B.named B.method).1
  have hS : va_S (gA G) s.heap s.heap [] := va_S.rf
  have hl := lv_entry ([.ref h0]) (n := 2) (Nat.le_of_ble_eq_true rfl)
  rw [lg_entry_eq]
  generalize (lg_sl ([.ref h0]) ++ List.replicate (2 - (lg_sl ([.ref h0])).length) Slot.unset).toArray = ls at hl ⊢
  have hl : lv_has ls 2 [(0, .ref h0)] := hl
  generalize ([.ref h0] : List Value).toArray = args
  refine lv_aload_n hx hb dX2_init_0 rfl (lv_at hl 0 rfl) ?_
  refine ct_rec hx hb (by rw [hml]; exact hl.1.symm) hE hown w_1_153 dX2_init_1 (Nat.le_of_ble_eq_true rfl) (Nat.le_of_ble_eq_true rfl) w_1_26 ?_
  refine lv_aload_n hx hb dX2_init_4 rfl (lv_at hl 0 rfl) ?_
  refine lv_bipush (v := 20) hx hb dX2_init_5 (by decide) ?_
  refine ct_put (fs' := [.int 20, .null, .null, .null, .int 0, .null, .null, .null, .int 0, .int 0, .int 0, .int 0, .int 0, .int 0]) (ci := 2) (C := RX2) (T := TX2) (N := 14) 0 tyX2 tyX2_ok nmX2 hx hb hE hM hS hown at_last rfl st_last rfl (by decide) laX2 rfl rfl (tyX2_ok 0 (by decide)) rfl rfl (Nat.le_of_ble_eq_true rfl) w_1_210 dX2_init_7 (fun H locs hM hS => ?_)
  refine lv_aload_n hx hb dX2_init_10 rfl (lv_at hl 0 rfl) ?_
  refine lv_bipush (v := 60) hx hb dX2_init_11 (by decide) ?_
  refine ct_newz (N' := 60) hx hb hE hM hS (by decide) (by decide) (by decide) (Nat.le_of_ble_eq_true rfl) (Nat.le_of_ble_eq_true rfl) dX2_init_13 (fun q1 H hM hS => ?_)
  refine ct_putF (fs' := [.int 20, .ref q1, .null, .null, .int 0, .null, .null, .null, .int 0, .int 0, .int 0, .int 0, .int 0, .int 0]) (ci := 2) (C := RX2) (T := TX2) (N := 14) 1 tyX2 tyX2_ok nmX2 hx hb hE hM hS hown hin (at_prev at_last) rfl (st_prev at_last st_last) rfl (by decide) laX2 rfl rfl rfl (tyX2_ok 1 (by decide)) rfl rfl (Nat.le_of_ble_eq_true rfl) w_1_212 dX2_init_15 (fun H locs hM hS => ?_)
  refine lv_aload_n hx hb dX2_init_18 rfl (lv_at hl 0 rfl) ?_
  refine lv_bipush (v := 17) hx hb dX2_init_19 (by decide) ?_
  refine ct_newi (N' := 17) hx hb hE hM hS (by decide) (by decide) (by decide) (Nat.le_of_ble_eq_true rfl) (Nat.le_of_ble_eq_true rfl) dX2_init_21 (fun q2 H hM hS => ?_)
  refine ct_putF (fs' := [.int 20, .ref q1, .ref q2, .null, .int 0, .null, .null, .null, .int 0, .int 0, .int 0, .int 0, .int 0, .int 0]) (ci := 2) (C := RX2) (T := TX2) (N := 14) 2 tyX2 tyX2_ok nmX2 hx hb hE hM hS hown hin (at_prev (at_prev at_last)) rfl (st_prev (at_prev at_last) (st_prev at_last st_last)) rfl (by decide) laX2 rfl rfl rfl (tyX2_ok 2 (by decide)) rfl rfl (Nat.le_of_ble_eq_true rfl) w_1_214 dX2_init_23 (fun H locs hM hS => ?_)
  refine lv_aload_n hx hb dX2_init_26 rfl (lv_at hl 0 rfl) ?_
  refine lv_bipush (v := 17) hx hb dX2_init_27 (by decide) ?_
  refine ct_newi (N' := 17) hx hb hE hM hS (by decide) (by decide) (by decide) (Nat.le_of_ble_eq_true rfl) (Nat.le_of_ble_eq_true rfl) dX2_init_29 (fun q3 H hM hS => ?_)
  refine ct_putF (fs' := [.int 20, .ref q1, .ref q2, .ref q3, .int 0, .null, .null, .null, .int 0, .int 0, .int 0, .int 0, .int 0, .int 0]) (ci := 2) (C := RX2) (T := TX2) (N := 14) 3 tyX2 tyX2_ok nmX2 hx hb hE hM hS hown hin (at_prev (at_prev (at_prev at_last))) rfl (st_prev (at_prev (at_prev at_last)) (st_prev (at_prev at_last) (st_prev at_last st_last))) rfl (by decide) laX2 rfl rfl rfl (tyX2_ok 3 (by decide)) rfl rfl (Nat.le_of_ble_eq_true rfl) w_1_216 dX2_init_31 (fun H locs hM hS => ?_)
  refine lv_aload_n hx hb dX2_init_34 rfl (lv_at hl 0 rfl) ?_
  refine lv_bipush (v := 10) hx hb dX2_init_35 (by decide) ?_
  refine ct_newq (N' := 10) 3 rfl hx hb hown w_1_154 hO.1 hE hM hS (by decide) (by decide) (by decide) (Nat.le_of_ble_eq_true rfl) (Nat.le_of_ble_eq_true rfl) dX2_init_37 (fun q4 H hM hS => ?_)
  refine ct_putF (fs' := [.int 20, .ref q1, .ref q2, .ref q3, .int 0, .ref q4, .null, .null, .int 0, .int 0, .int 0, .int 0, .int 0, .int 0]) (ci := 2) (C := RX2) (T := TX2) (N := 14) 5 tyX2 tyX2_ok nmX2 hx hb hE hM hS hown hin (at_prev (at_prev (at_prev (at_prev at_last)))) rfl (st_prev (at_prev (at_prev (at_prev at_last))) (st_prev (at_prev (at_prev at_last)) (st_prev (at_prev at_last) (st_prev at_last st_last)))) rfl (by decide) laX2 rfl rfl rfl (tyX2_ok 5 (by decide)) rfl rfl (Nat.le_of_ble_eq_true rfl) w_1_219 dX2_init_40 (fun H locs hM hS => ?_)
  refine lv_aload_n hx hb dX2_init_43 rfl (lv_at hl 0 rfl) ?_
  refine lv_bipush (v := 10) hx hb dX2_init_44 (by decide) ?_
  refine ct_newi (N' := 10) hx hb hE hM hS (by decide) (by decide) (by decide) (Nat.le_of_ble_eq_true rfl) (Nat.le_of_ble_eq_true rfl) dX2_init_46 (fun q5 H hM hS => ?_)
  refine ct_putF (fs' := [.int 20, .ref q1, .ref q2, .ref q3, .int 0, .ref q4, .ref q5, .null, .int 0, .int 0, .int 0, .int 0, .int 0, .int 0]) (ci := 2) (C := RX2) (T := TX2) (N := 14) 6 tyX2 tyX2_ok nmX2 hx hb hE hM hS hown hin (at_prev (at_prev (at_prev (at_prev (at_prev at_last))))) rfl (st_prev (at_prev (at_prev (at_prev (at_prev at_last)))) (st_prev (at_prev (at_prev (at_prev at_last))) (st_prev (at_prev (at_prev at_last)) (st_prev (at_prev at_last) (st_prev at_last st_last))))) rfl (by decide) laX2 rfl rfl rfl (tyX2_ok 6 (by decide)) rfl rfl (Nat.le_of_ble_eq_true rfl) w_1_220 dX2_init_48 (fun H locs hM hS => ?_)
  refine lv_aload_n hx hb dX2_init_51 rfl (lv_at hl 0 rfl) ?_
  refine ct_new (ci := 0) tyX0 tyX0_ok dfX0 hx hb hown laX0 w_1_156 w_1_157 w_1_8 hE hM hS rfl (Nat.le_of_ble_eq_true rfl) (Nat.le_of_ble_eq_true rfl) dX2_init_52 (fun q6 H hM hS => ?_)
  refine lv_dup hx hb dX2_init_55 rfl ?_
  refine ct_callN hx hb hml hown hE hO hM hS (c_X0_init l G _ q6) w_1_158 w_1_159 w_1_8 w_1_160 rfl rfl rfl ⟨by decide, by decide, by decide +kernel⟩ ⟨Nat.le_of_ble_eq_true rfl, Nat.le_of_ble_eq_true rfl⟩ hl.1 (Nat.le_of_ble_eq_true rfl) dX2_init_56 ⟨Nat.le_of_ble_eq_true rfl, Nat.le_of_ble_eq_true rfl⟩ (fun u7 H locs hM hS => ?_)
  unfold wo_X0_init at hM
  refine ct_putF (fs' := [.int 20, .ref q1, .ref q2, .ref q3, .int 0, .ref q4, .ref q5, .ref q6, .int 0, .int 0, .int 0, .int 0, .int 0, .int 0]) (ci := 2) (C := RX2) (T := TX2) (N := 14) 7 tyX2 tyX2_ok nmX2 hx hb hE hM hS hown hin (at_prev (at_prev (at_prev (at_prev (at_prev (at_prev at_last)))))) rfl (st_prev (at_prev (at_prev (at_prev (at_prev (at_prev at_last))))) (st_prev (at_prev (at_prev (at_prev (at_prev at_last)))) (st_prev (at_prev (at_prev (at_prev at_last))) (st_prev (at_prev (at_prev at_last)) (st_prev (at_prev at_last) (st_prev at_last st_last)))))) rfl (by decide) laX2 rfl rfl rfl (tyX2_ok 7 (by decide)) rfl rfl (Nat.le_of_ble_eq_true rfl) w_1_221 dX2_init_59 (fun H locs hM hS => ?_)
  refine lv_aload_n hx hb dX2_init_62 rfl (lv_at hl 0 rfl) ?_
  refine lv_iconst (v := (-1)) hx hb dX2_init_63 (by decide) ?_
  refine ct_put (fs' := [.int 20, .ref q1, .ref q2, .ref q3, .int 0, .ref q4, .ref q5, .ref q6, .int 0, .int 0, .int 0, .int 0, .int 0, .int (-1)]) (ci := 2) (C := RX2) (T := TX2) (N := 14) 13 tyX2 tyX2_ok nmX2 hx hb hE hM hS hown (at_prev (at_prev (at_prev (at_prev (at_prev (at_prev at_last)))))) rfl (st_prev (at_prev (at_prev (at_prev (at_prev (at_prev at_last))))) (st_prev (at_prev (at_prev (at_prev (at_prev at_last)))) (st_prev (at_prev (at_prev (at_prev at_last))) (st_prev (at_prev (at_prev at_last)) (st_prev (at_prev at_last) (st_prev at_last st_last)))))) rfl (by decide) laX2 rfl rfl (tyX2_ok 13 (by decide)) rfl rfl (Nat.le_of_ble_eq_true rfl) w_1_228 dX2_init_64 (fun H locs hM hS => ?_)
  refine lv_iconst (v := 0) hx hb dX2_init_67 (by decide) ?_
  refine lv_istore_n (lv' := [(1, .int 0), (0, .ref h0)]) hx hb dX2_init_68 rfl hl (by decide) rfl (fun ls hl => ?_)
  refine lv_iload_n hx hb dX2_init_69 rfl (lv_at hl 0 rfl) ?_
  refine lv_bipush (v := 10) hx hb dX2_init_70 (by decide) ?_
  refine lv_icmp_ge (tgt := 94) hx hb dX2_init_72 (by decide) (fun hc => absurd hc (by decide)) (fun _ => ?_)
  refine lv_aload_n hx hb dX2_init_75 rfl (lv_at hl 1 rfl) ?_
  refine ct_get (ci := 2) (C := RX2) (T := TX2) (N := 14) (v := .ref q4) 5 hx hb hE hM hown (at_prev (at_prev (at_prev (at_prev (at_prev (at_prev at_last)))))) rfl (by decide) laX2 rfl rfl w_1_219 dX2_init_76 ?_
  refine lv_iload_n hx hb dX2_init_79 rfl (lv_at hl 0 rfl) ?_
  refine ct_new (ci := 4) tyX4 tyX4_ok dfX4 hx hb hown laX4 w_1_154 w_1_166 w_1_9 hE hM hS rfl (Nat.le_of_ble_eq_true rfl) (Nat.le_of_ble_eq_true rfl) dX2_init_80 (fun q7 H hM hS => ?_)
  refine lv_dup hx hb dX2_init_83 rfl ?_
  refine ct_callN hx hb hml hown hE hO hM hS (c_X4_init l G _ q7) w_1_167 w_1_168 w_1_9 w_1_169 rfl rfl rfl ⟨by decide, by decide, by decide +kernel⟩ ⟨Nat.le_of_ble_eq_true rfl, Nat.le_of_ble_eq_true rfl⟩ hl.1 (Nat.le_of_ble_eq_true rfl) dX2_init_84 ⟨Nat.le_of_ble_eq_true rfl, Nat.le_of_ble_eq_true rfl⟩ (fun u8 H locs hM hS => ?_)
  unfold wo_X4_init at hM
  refine ct_ast (k := 3) (ci := 4) (r := (RX4, TX4, 8)) hx hb hE hM hS rfl (at_prev (at_prev (at_prev at_last))) (st_prev (at_prev (at_prev at_last)) (st_prev (at_prev at_last) (st_prev at_last st_last))) at_last rfl (inb_in (by decide)) dX2_init_87 (fun H locs hM hS => ?_)
  refine lv_iinc (v := 1) (lv' := [(1, .int 1), (0, .ref h0)]) hx hb dX2_init_88 hl (k := 0) rfl (by decide) (by decide) rfl (fun ls hl => ?_)
  refine lv_goto (tgt := 69) hx hb dX2_init_91 (by decide) ?_
  refine lv_iload_n hx hb dX2_init_69 rfl (lv_at hl 0 rfl) ?_
  refine lv_bipush (v := 10) hx hb dX2_init_70 (by decide) ?_
  refine lv_icmp_ge (tgt := 94) hx hb dX2_init_72 (by decide) (fun hc => absurd hc (by decide)) (fun _ => ?_)
  refine lv_aload_n hx hb dX2_init_75 rfl (lv_at hl 1 rfl) ?_
  refine ct_get (ci := 2) (C := RX2) (T := TX2) (N := 14) (v := .ref q4) 5 hx hb hE hM hown (at_prev (at_prev (at_prev (at_prev (at_prev (at_prev (at_prev at_last))))))) rfl (by decide) laX2 rfl rfl w_1_219 dX2_init_76 ?_
  refine lv_iload_n hx hb dX2_init_79 rfl (lv_at hl 0 rfl) ?_
  refine ct_new (ci := 4) tyX4 tyX4_ok dfX4 hx hb hown laX4 w_1_154 w_1_166 w_1_9 hE hM hS rfl (Nat.le_of_ble_eq_true rfl) (Nat.le_of_ble_eq_true rfl) dX2_init_80 (fun q8 H hM hS => ?_)
  refine lv_dup hx hb dX2_init_83 rfl ?_
  refine ct_callN hx hb hml hown hE hO hM hS (c_X4_init l G _ q8) w_1_167 w_1_168 w_1_9 w_1_169 rfl rfl rfl ⟨by decide, by decide, by decide +kernel⟩ ⟨Nat.le_of_ble_eq_true rfl, Nat.le_of_ble_eq_true rfl⟩ hl.1 (Nat.le_of_ble_eq_true rfl) dX2_init_84 ⟨Nat.le_of_ble_eq_true rfl, Nat.le_of_ble_eq_true rfl⟩ (fun u9 H locs hM hS => ?_)
  unfold wo_X4_init at hM
  refine ct_ast (k := 3) (ci := 4) (r := (RX4, TX4, 8)) hx hb hE hM hS rfl (at_prev (at_prev (at_prev (at_prev at_last)))) (st_prev (at_prev (at_prev (at_prev at_last))) (st_prev (at_prev (at_prev at_last)) (st_prev (at_prev at_last) (st_prev at_last st_last)))) at_last rfl (inb_in (by decide)) dX2_init_87 (fun H locs hM hS => ?_)
  refine lv_iinc (v := 2) (lv' := [(1, .int 2), (0, .ref h0)]) hx hb dX2_init_88 hl (k := 0) rfl (by decide) (by decide) rfl (fun ls hl => ?_)
  refine lv_goto (tgt := 69) hx hb dX2_init_91 (by decide) ?_
  refine lv_iload_n hx hb dX2_init_69 rfl (lv_at hl 0 rfl) ?_
  refine lv_bipush (v := 10) hx hb dX2_init_70 (by decide) ?_
  refine lv_icmp_ge (tgt := 94) hx hb dX2_init_72 (by decide) (fun hc => absurd hc (by decide)) (fun _ => ?_)
  refine lv_aload_n hx hb dX2_init_75 rfl (lv_at hl 1 rfl) ?_
  refine ct_get (ci := 2) (C := RX2) (T := TX2) (N := 14) (v := .ref q4) 5 hx hb hE hM hown (at_prev (at_prev (at_prev (at_prev (at_prev (at_prev (at_prev (at_prev at_last)))))))) rfl (by decide) laX2 rfl rfl w_1_219 dX2_init_76 ?_
  refine lv_iload_n hx hb dX2_init_79 rfl (lv_at hl 0 rfl) ?_
  refine ct_new (ci := 4) tyX4 tyX4_ok dfX4 hx hb hown laX4 w_1_154 w_1_166 w_1_9 hE hM hS rfl (Nat.le_of_ble_eq_true rfl) (Nat.le_of_ble_eq_true rfl) dX2_init_80 (fun q9 H hM hS => ?_)
  refine lv_dup hx hb dX2_init_83 rfl ?_
  refine ct_callN hx hb hml hown hE hO hM hS (c_X4_init l G _ q9) w_1_167 w_1_168 w_1_9 w_1_169 rfl rfl rfl ⟨by decide, by decide, by decide +kernel⟩ ⟨Nat.le_of_ble_eq_true rfl, Nat.le_of_ble_eq_true rfl⟩ hl.1 (Nat.le_of_ble_eq_true rfl) dX2_init_84 ⟨Nat.le_of_ble_eq_true rfl, Nat.le_of_ble_eq_true rfl⟩ (fun u10 H locs hM hS => ?_)
  unfold wo_X4_init at hM
  refine ct_ast (k := 3) (ci := 4) (r := (RX4, TX4, 8)) hx hb hE hM hS rfl (at_prev (at_prev (at_prev (at_prev (at_prev at_last))))) (st_prev (at_prev (at_prev (at_prev (at_prev at_last)))) (st_prev (at_prev (at_prev (at_prev at_last))) (st_prev (at_prev (at_prev at_last)) (st_prev (at_prev at_last) (st_prev at_last st_last))))) at_last rfl (inb_in (by decide)) dX2_init_87 (fun H locs hM hS => ?_)
  refine lv_iinc (v := 3) (lv' := [(1, .int 3), (0, .ref h0)]) hx hb dX2_init_88 hl (k := 0) rfl (by decide) (by decide) rfl (fun ls hl => ?_)
  refine lv_goto (tgt := 69) hx hb dX2_init_91 (by decide) ?_
  refine lv_iload_n hx hb dX2_init_69 rfl (lv_at hl 0 rfl) ?_
  refine lv_bipush (v := 10) hx hb dX2_init_70 (by decide) ?_
  refine lv_icmp_ge (tgt := 94) hx hb dX2_init_72 (by decide) (fun hc => absurd hc (by decide)) (fun _ => ?_)
  refine lv_aload_n hx hb dX2_init_75 rfl (lv_at hl 1 rfl) ?_
  refine ct_get (ci := 2) (C := RX2) (T := TX2) (N := 14) (v := .ref q4) 5 hx hb hE hM hown (at_prev (at_prev (at_prev (at_prev (at_prev (at_prev (at_prev (at_prev (at_prev at_last))))))))) rfl (by decide) laX2 rfl rfl w_1_219 dX2_init_76 ?_
  refine lv_iload_n hx hb dX2_init_79 rfl (lv_at hl 0 rfl) ?_
  refine ct_new (ci := 4) tyX4 tyX4_ok dfX4 hx hb hown laX4 w_1_154 w_1_166 w_1_9 hE hM hS rfl (Nat.le_of_ble_eq_true rfl) (Nat.le_of_ble_eq_true rfl) dX2_init_80 (fun q10 H hM hS => ?_)
  refine lv_dup hx hb dX2_init_83 rfl ?_
  refine ct_callN hx hb hml hown hE hO hM hS (c_X4_init l G _ q10) w_1_167 w_1_168 w_1_9 w_1_169 rfl rfl rfl ⟨by decide, by decide, by decide +kernel⟩ ⟨Nat.le_of_ble_eq_true rfl, Nat.le_of_ble_eq_true rfl⟩ hl.1 (Nat.le_of_ble_eq_true rfl) dX2_init_84 ⟨Nat.le_of_ble_eq_true rfl, Nat.le_of_ble_eq_true rfl⟩ (fun u11 H locs hM hS => ?_)
  unfold wo_X4_init at hM
  refine ct_ast (k := 3) (ci := 4) (r := (RX4, TX4, 8)) hx hb hE hM hS rfl (at_prev (at_prev (at_prev (at_prev (at_prev (at_prev at_last)))))) (st_prev (at_prev (at_prev (at_prev (at_prev (at_prev at_last))))) (st_prev (at_prev (at_prev (at_prev (at_prev at_last)))) (st_prev (at_prev (at_prev (at_prev at_last))) (st_prev (at_prev (at_prev at_last)) (st_prev (at_prev at_last) (st_prev at_last st_last)))))) at_last rfl (inb_in (by decide)) dX2_init_87 (fun H locs hM hS => ?_)
  refine lv_iinc (v := 4) (lv' := [(1, .int 4), (0, .ref h0)]) hx hb dX2_init_88 hl (k := 0) rfl (by decide) (by decide) rfl (fun ls hl => ?_)
  refine lv_goto (tgt := 69) hx hb dX2_init_91 (by decide) ?_
  refine lv_iload_n hx hb dX2_init_69 rfl (lv_at hl 0 rfl) ?_
  refine lv_bipush (v := 10) hx hb dX2_init_70 (by decide) ?_
  refine lv_icmp_ge (tgt := 94) hx hb dX2_init_72 (by decide) (fun hc => absurd hc (by decide)) (fun _ => ?_)
  refine lv_aload_n hx hb dX2_init_75 rfl (lv_at hl 1 rfl) ?_
  refine ct_get (ci := 2) (C := RX2) (T := TX2) (N := 14) (v := .ref q4) 5 hx hb hE hM hown (at_prev (at_prev (at_prev (at_prev (at_prev (at_prev (at_prev (at_prev (at_prev (at_prev at_last)))))))))) rfl (by decide) laX2 rfl rfl w_1_219 dX2_init_76 ?_
  refine lv_iload_n hx hb dX2_init_79 rfl (lv_at hl 0 rfl) ?_
  refine ct_new (ci := 4) tyX4 tyX4_ok dfX4 hx hb hown laX4 w_1_154 w_1_166 w_1_9 hE hM hS rfl (Nat.le_of_ble_eq_true rfl) (Nat.le_of_ble_eq_true rfl) dX2_init_80 (fun q11 H hM hS => ?_)
  refine lv_dup hx hb dX2_init_83 rfl ?_
  refine ct_callN hx hb hml hown hE hO hM hS (c_X4_init l G _ q11) w_1_167 w_1_168 w_1_9 w_1_169 rfl rfl rfl ⟨by decide, by decide, by decide +kernel⟩ ⟨Nat.le_of_ble_eq_true rfl, Nat.le_of_ble_eq_true rfl⟩ hl.1 (Nat.le_of_ble_eq_true rfl) dX2_init_84 ⟨Nat.le_of_ble_eq_true rfl, Nat.le_of_ble_eq_true rfl⟩ (fun u12 H locs hM hS => ?_)
  unfold wo_X4_init at hM
  refine ct_ast (k := 3) (ci := 4) (r := (RX4, TX4, 8)) hx hb hE hM hS rfl (at_prev (at_prev (at_prev (at_prev (at_prev (at_prev (at_prev at_last))))))) (st_prev (at_prev (at_prev (at_prev (at_prev (at_prev (at_prev at_last)))))) (st_prev (at_prev (at_prev (at_prev (at_prev (at_prev at_last))))) (st_prev (at_prev (at_prev (at_prev (at_prev at_last)))) (st_prev (at_prev (at_prev (at_prev at_last))) (st_prev (at_prev (at_prev at_last)) (st_prev (at_prev at_last) (st_prev at_last st_last))))))) at_last rfl (inb_in (by decide)) dX2_init_87 (fun H locs hM hS => ?_)
  refine lv_iinc (v := 5) (lv' := [(1, .int 5), (0, .ref h0)]) hx hb dX2_init_88 hl (k := 0) rfl (by decide) (by decide) rfl (fun ls hl => ?_)
  refine lv_goto (tgt := 69) hx hb dX2_init_91 (by decide) ?_
  refine lv_iload_n hx hb dX2_init_69 rfl (lv_at hl 0 rfl) ?_
  refine lv_bipush (v := 10) hx hb dX2_init_70 (by decide) ?_
  refine lv_icmp_ge (tgt := 94) hx hb dX2_init_72 (by decide) (fun hc => absurd hc (by decide)) (fun _ => ?_)
  refine lv_aload_n hx hb dX2_init_75 rfl (lv_at hl 1 rfl) ?_
  refine ct_get (ci := 2) (C := RX2) (T := TX2) (N := 14) (v := .ref q4) 5 hx hb hE hM hown (at_prev (at_prev (at_prev (at_prev (at_prev (at_prev (at_prev (at_prev (at_prev (at_prev (at_prev at_last))))))))))) rfl (by decide) laX2 rfl rfl w_1_219 dX2_init_76 ?_
  refine lv_iload_n hx hb dX2_init_79 rfl (lv_at hl 0 rfl) ?_
  refine ct_new (ci := 4) tyX4 tyX4_ok dfX4 hx hb hown laX4 w_1_154 w_1_166 w_1_9 hE hM hS rfl (Nat.le_of_ble_eq_true rfl) (Nat.le_of_ble_eq_true rfl) dX2_init_80 (fun q12 H hM hS => ?_)
  refine lv_dup hx hb dX2_init_83 rfl ?_
  refine ct_callN hx hb hml hown hE hO hM hS (c_X4_init l G _ q12) w_1_167 w_1_168 w_1_9 w_1_169 rfl rfl rfl ⟨by decide, by decide, by decide +kernel⟩ ⟨Nat.le_of_ble_eq_true rfl, Nat.le_of_ble_eq_true rfl⟩ hl.1 (Nat.le_of_ble_eq_true rfl) dX2_init_84 ⟨Nat.le_of_ble_eq_true rfl, Nat.le_of_ble_eq_true rfl⟩ (fun u13 H locs hM hS => ?_)
  unfold wo_X4_init at hM
  refine ct_ast (k := 3) (ci := 4) (r := (RX4, TX4, 8)) hx hb hE hM hS rfl (at_prev (at_prev (at_prev (at_prev (at_prev (at_prev (at_prev (at_prev at_last)))))))) (st_prev (at_prev (at_prev (at_prev (at_prev (at_prev (at_prev (at_prev at_last))))))) (st_prev (at_prev (at_prev (at_prev (at_prev (at_prev (at_prev at_last)))))) (st_prev (at_prev (at_prev (at_prev (at_prev (at_prev at_last))))) (st_prev (at_prev (at_prev (at_prev (at_prev at_last)))) (st_prev (at_prev (at_prev (at_prev at_last))) (st_prev (at_prev (at_prev at_last)) (st_prev (at_prev at_last) (st_prev at_last st_last)))))))) at_last rfl (inb_in (by decide)) dX2_init_87 (fun H locs hM hS => ?_)
  refine lv_iinc (v := 6) (lv' := [(1, .int 6), (0, .ref h0)]) hx hb dX2_init_88 hl (k := 0) rfl (by decide) (by decide) rfl (fun ls hl => ?_)
  refine lv_goto (tgt := 69) hx hb dX2_init_91 (by decide) ?_
  refine lv_iload_n hx hb dX2_init_69 rfl (lv_at hl 0 rfl) ?_
  refine lv_bipush (v := 10) hx hb dX2_init_70 (by decide) ?_
  refine lv_icmp_ge (tgt := 94) hx hb dX2_init_72 (by decide) (fun hc => absurd hc (by decide)) (fun _ => ?_)
  refine lv_aload_n hx hb dX2_init_75 rfl (lv_at hl 1 rfl) ?_
  refine ct_get (ci := 2) (C := RX2) (T := TX2) (N := 14) (v := .ref q4) 5 hx hb hE hM hown (at_prev (at_prev (at_prev (at_prev (at_prev (at_prev (at_prev (at_prev (at_prev (at_prev (at_prev (at_prev at_last)))))))))))) rfl (by decide) laX2 rfl rfl w_1_219 dX2_init_76 ?_
  refine lv_iload_n hx hb dX2_init_79 rfl (lv_at hl 0 rfl) ?_
  refine ct_new (ci := 4) tyX4 tyX4_ok dfX4 hx hb hown laX4 w_1_154 w_1_166 w_1_9 hE hM hS rfl (Nat.le_of_ble_eq_true rfl) (Nat.le_of_ble_eq_true rfl) dX2_init_80 (fun q13 H hM hS => ?_)
  refine lv_dup hx hb dX2_init_83 rfl ?_
  refine ct_callN hx hb hml hown hE hO hM hS (c_X4_init l G _ q13) w_1_167 w_1_168 w_1_9 w_1_169 rfl rfl rfl ⟨by decide, by decide, by decide +kernel⟩ ⟨Nat.le_of_ble_eq_true rfl, Nat.le_of_ble_eq_true rfl⟩ hl.1 (Nat.le_of_ble_eq_true rfl) dX2_init_84 ⟨Nat.le_of_ble_eq_true rfl, Nat.le_of_ble_eq_true rfl⟩ (fun u14 H locs hM hS => ?_)
  unfold wo_X4_init at hM
  refine ct_ast (k := 3) (ci := 4) (r := (RX4, TX4, 8)) hx hb hE hM hS rfl (at_prev (at_prev (at_prev (at_prev (at_prev (at_prev (at_prev (at_prev (at_prev at_last))))))))) (st_prev (at_prev (at_prev (at_prev (at_prev (at_prev (at_prev (at_prev (at_prev at_last)))))))) (st_prev (at_prev (at_prev (at_prev (at_prev (at_prev (at_prev (at_prev at_last))))))) (st_prev (at_prev (at_prev (at_prev (at_prev (at_prev (at_prev at_last)))))) (st_prev (at_prev (at_prev (at_prev (at_prev (at_prev at_last))))) (st_prev (at_prev (at_prev (at_prev (at_prev at_last)))) (st_prev (at_prev (at_prev (at_prev at_last))) (st_prev (at_prev (at_prev at_last)) (st_prev (at_prev at_last) (st_prev at_last st_last))))))))) at_last rfl (inb_in (by decide)) dX2_init_87 (fun H locs hM hS => ?_)
  refine lv_iinc (v := 7) (lv' := [(1, .int 7), (0, .ref h0)]) hx hb dX2_init_88 hl (k := 0) rfl (by decide) (by decide) rfl (fun ls hl => ?_)
  refine lv_goto (tgt := 69) hx hb dX2_init_91 (by decide) ?_
  refine lv_iload_n hx hb dX2_init_69 rfl (lv_at hl 0 rfl) ?_
  refine lv_bipush (v := 10) hx hb dX2_init_70 (by decide) ?_
  refine lv_icmp_ge (tgt := 94) hx hb dX2_init_72 (by decide) (fun hc => absurd hc (by decide)) (fun _ => ?_)
  refine lv_aload_n hx hb dX2_init_75 rfl (lv_at hl 1 rfl) ?_
  refine ct_get (ci := 2) (C := RX2) (T := TX2) (N := 14) (v := .ref q4) 5 hx hb hE hM hown (at_prev (at_prev (at_prev (at_prev (at_prev (at_prev (at_prev (at_prev (at_prev (at_prev (at_prev (at_prev (at_prev at_last))))))))))))) rfl (by decide) laX2 rfl rfl w_1_219 dX2_init_76 ?_
  refine lv_iload_n hx hb dX2_init_79 rfl (lv_at hl 0 rfl) ?_
  refine ct_new (ci := 4) tyX4 tyX4_ok dfX4 hx hb hown laX4 w_1_154 w_1_166 w_1_9 hE hM hS rfl (Nat.le_of_ble_eq_true rfl) (Nat.le_of_ble_eq_true rfl) dX2_init_80 (fun q14 H hM hS => ?_)
  refine lv_dup hx hb dX2_init_83 rfl ?_
  refine ct_callN hx hb hml hown hE hO hM hS (c_X4_init l G _ q14) w_1_167 w_1_168 w_1_9 w_1_169 rfl rfl rfl ⟨by decide, by decide, by decide +kernel⟩ ⟨Nat.le_of_ble_eq_true rfl, Nat.le_of_ble_eq_true rfl⟩ hl.1 (Nat.le_of_ble_eq_true rfl) dX2_init_84 ⟨Nat.le_of_ble_eq_true rfl, Nat.le_of_ble_eq_true rfl⟩ (fun u15 H locs hM hS => ?_)
  unfold wo_X4_init at hM
  refine ct_ast (k := 3) (ci := 4) (r := (RX4, TX4, 8)) hx hb hE hM hS rfl (at_prev (at_prev (at_prev (at_prev (at_prev (at_prev (at_prev (at_prev (at_prev (at_prev at_last)))))))))) (st_prev (at_prev (at_prev (at_prev (at_prev (at_prev (at_prev (at_prev (at_prev (at_prev at_last))))))))) (st_prev (at_prev (at_prev (at_prev (at_prev (at_prev (at_prev (at_prev (at_prev at_last)))))))) (st_prev (at_prev (at_prev (at_prev (at_prev (at_prev (at_prev (at_prev at_last))))))) (st_prev (at_prev (at_prev (at_prev (at_prev (at_prev (at_prev at_last)))))) (st_prev (at_prev (at_prev (at_prev (at_prev (at_prev at_last))))) (st_prev (at_prev (at_prev (at_prev (at_prev at_last)))) (st_prev (at_prev (at_prev (at_prev at_last))) (st_prev (at_prev (at_prev at_last)) (st_prev (at_prev at_last) (st_prev at_last st_last)))))))))) at_last rfl (inb_in (by decide)) dX2_init_87 (fun H locs hM hS => ?_)
  refine lv_iinc (v := 8) (lv' := [(1, .int 8), (0, .ref h0)]) hx hb dX2_init_88 hl (k := 0) rfl (by decide) (by decide) rfl (fun ls hl => ?_)
  refine lv_goto (tgt := 69) hx hb dX2_init_91 (by decide) ?_
  refine lv_iload_n hx hb dX2_init_69 rfl (lv_at hl 0 rfl) ?_
  refine lv_bipush (v := 10) hx hb dX2_init_70 (by decide) ?_
  refine lv_icmp_ge (tgt := 94) hx hb dX2_init_72 (by decide) (fun hc => absurd hc (by decide)) (fun _ => ?_)
  refine lv_aload_n hx hb dX2_init_75 rfl (lv_at hl 1 rfl) ?_
  refine ct_get (ci := 2) (C := RX2) (T := TX2) (N := 14) (v := .ref q4) 5 hx hb hE hM hown (at_prev (at_prev (at_prev (at_prev (at_prev (at_prev (at_prev (at_prev (at_prev (at_prev (at_prev (at_prev (at_prev (at_prev at_last)))))))))))))) rfl (by decide) laX2 rfl rfl w_1_219 dX2_init_76 ?_
  refine lv_iload_n hx hb dX2_init_79 rfl (lv_at hl 0 rfl) ?_
  refine ct_new (ci := 4) tyX4 tyX4_ok dfX4 hx hb hown laX4 w_1_154 w_1_166 w_1_9 hE hM hS rfl (Nat.le_of_ble_eq_true rfl) (Nat.le_of_ble_eq_true rfl) dX2_init_80 (fun q15 H hM hS => ?_)
  refine lv_dup hx hb dX2_init_83 rfl ?_
  refine ct_callN hx hb hml hown hE hO hM hS (c_X4_init l G _ q15) w_1_167 w_1_168 w_1_9 w_1_169 rfl rfl rfl ⟨by decide, by decide, by decide +kernel⟩ ⟨Nat.le_of_ble_eq_true rfl, Nat.le_of_ble_eq_true rfl⟩ hl.1 (Nat.le_of_ble_eq_true rfl) dX2_init_84 ⟨Nat.le_of_ble_eq_true rfl, Nat.le_of_ble_eq_true rfl⟩ (fun u16 H locs hM hS => ?_)
  unfold wo_X4_init at hM
  refine ct_ast (k := 3) (ci := 4) (r := (RX4, TX4, 8)) hx hb hE hM hS rfl (at_prev (at_prev (at_prev (at_prev (at_prev (at_prev (at_prev (at_prev (at_prev (at_prev (at_prev at_last))))))))))) (st_prev (at_prev (at_prev (at_prev (at_prev (at_prev (at_prev (at_prev (at_prev (at_prev (at_prev at_last)))))))))) (st_prev (at_prev (at_prev (at_prev (at_prev (at_prev (at_prev (at_prev (at_prev (at_prev at_last))))))))) (st_prev (at_prev (at_prev (at_prev (at_prev (at_prev (at_prev (at_prev (at_prev at_last)))))))) (st_prev (at_prev (at_prev (at_prev (at_prev (at_prev (at_prev (at_prev at_last))))))) (st_prev (at_prev (at_prev (at_prev (at_prev (at_prev (at_prev at_last)))))) (st_prev (at_prev (at_prev (at_prev (at_prev (at_prev at_last))))) (st_prev (at_prev (at_prev (at_prev (at_prev at_last)))) (st_prev (at_prev (at_prev (at_prev at_last))) (st_prev (at_prev (at_prev at_last)) (st_prev (at_prev at_last) (st_prev at_last st_last))))))))))) at_last rfl (inb_in (by decide)) dX2_init_87 (fun H locs hM hS => ?_)
  refine lv_iinc (v := 9) (lv' := [(1, .int 9), (0, .ref h0)]) hx hb dX2_init_88 hl (k := 0) rfl (by decide) (by decide) rfl (fun ls hl => ?_)
  refine lv_goto (tgt := 69) hx hb dX2_init_91 (by decide) ?_
  refine lv_iload_n hx hb dX2_init_69 rfl (lv_at hl 0 rfl) ?_
  refine lv_bipush (v := 10) hx hb dX2_init_70 (by decide) ?_
  refine lv_icmp_ge (tgt := 94) hx hb dX2_init_72 (by decide) (fun hc => absurd hc (by decide)) (fun _ => ?_)
  refine lv_aload_n hx hb dX2_init_75 rfl (lv_at hl 1 rfl) ?_
  refine ct_get (ci := 2) (C := RX2) (T := TX2) (N := 14) (v := .ref q4) 5 hx hb hE hM hown (at_prev (at_prev (at_prev (at_prev (at_prev (at_prev (at_prev (at_prev (at_prev (at_prev (at_prev (at_prev (at_prev (at_prev (at_prev at_last))))))))))))))) rfl (by decide) laX2 rfl rfl w_1_219 dX2_init_76 ?_
  refine lv_iload_n hx hb dX2_init_79 rfl (lv_at hl 0 rfl) ?_
  refine ct_new (ci := 4) tyX4 tyX4_ok dfX4 hx hb hown laX4 w_1_154 w_1_166 w_1_9 hE hM hS rfl (Nat.le_of_ble_eq_true rfl) (Nat.le_of_ble_eq_true rfl) dX2_init_80 (fun q16 H hM hS => ?_)
  refine lv_dup hx hb dX2_init_83 rfl ?_
  refine ct_callN hx hb hml hown hE hO hM hS (c_X4_init l G _ q16) w_1_167 w_1_168 w_1_9 w_1_169 rfl rfl rfl ⟨by decide, by decide, by decide +kernel⟩ ⟨Nat.le_of_ble_eq_true rfl, Nat.le_of_ble_eq_true rfl⟩ hl.1 (Nat.le_of_ble_eq_true rfl) dX2_init_84 ⟨Nat.le_of_ble_eq_true rfl, Nat.le_of_ble_eq_true rfl⟩ (fun u17 H locs hM hS => ?_)
  unfold wo_X4_init at hM
  refine ct_ast (k := 3) (ci := 4) (r := (RX4, TX4, 8)) hx hb hE hM hS rfl (at_prev (at_prev (at_prev (at_prev (at_prev (at_prev (at_prev (at_prev (at_prev (at_prev (at_prev (at_prev at_last)))))))))))) (st_prev (at_prev (at_prev (at_prev (at_prev (at_prev (at_prev (at_prev (at_prev (at_prev (at_prev (at_prev at_last))))))))))) (st_prev (at_prev (at_prev (at_prev (at_prev (at_prev (at_prev (at_prev (at_prev (at_prev (at_prev at_last)))))))))) (st_prev (at_prev (at_prev (at_prev (at_prev (at_prev (at_prev (at_prev (at_prev (at_prev at_last))))))))) (st_prev (at_prev (at_prev (at_prev (at_prev (at_prev (at_prev (at_prev (at_prev at_last)))))))) (st_prev (at_prev (at_prev (at_prev (at_prev (at_prev (at_prev (at_prev at_last))))))) (st_prev (at_prev (at_prev (at_prev (at_prev (at_prev (at_prev at_last)))))) (st_prev (at_prev (at_prev (at_prev (at_prev (at_prev at_last))))) (st_prev (at_prev (at_prev (at_prev (at_prev at_last)))) (st_prev (at_prev (at_prev (at_prev at_last))) (st_prev (at_prev (at_prev at_last)) (st_prev (at_prev at_last) (st_prev at_last st_last)))))))))))) at_last rfl (inb_in (by decide)) dX2_init_87 (fun H locs hM hS => ?_)
  refine lv_iinc (v := 10) (lv' := [(1, .int 10), (0, .ref h0)]) hx hb dX2_init_88 hl (k := 0) rfl (by decide) (by decide) rfl (fun ls hl => ?_)
  refine lv_goto (tgt := 69) hx hb dX2_init_91 (by decide) ?_
  refine lv_iload_n hx hb dX2_init_69 rfl (lv_at hl 0 rfl) ?_
  refine lv_bipush (v := 10) hx hb dX2_init_70 (by decide) ?_
  refine lv_icmp_ge (tgt := 94) hx hb dX2_init_72 (by decide) (fun _ => ?_) (fun hc => absurd (by decide) hc)
  exact W.vret hx hb hr (fun t ht hW => ⟨⟨(fun i => ([q1, q2, q3, q4, q5, q6, q7, q8, q9, q10, q11, q12, q13, q14, q15, q16] : List Nat).getD i 0), rfl, trivial, by show WoP G _ t.heap; rw [ht]; exact hM⟩, hS.F ht⟩) hS.2.2 dX2_init_94 hlocks
