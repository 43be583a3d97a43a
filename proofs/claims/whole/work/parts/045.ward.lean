/-- a ward more: its cell's address -/
def gw (G : GG) (nw q : Nat) : GG := (G.1, G.2.1, va_up (ga G) (69 + nw) q, G.2.2.2.1, G.2.2.2.2.1, G.2.2.2.2.2.1, G.2.2.2.2.2.2)
def wx0 (x : Me) (nw : Nat) : Me := mu (mu (mu (mu (mu (mu x 50 nw 0) 51 nw (-1)) 52 nw (-1)) 53 nw (-1)) 54 nw 0) 55 nw 0
def wx (x : Me) (nw : Nat) : Me := mu (wx0 x nw) 13 0 (x 13 0 + 1)
section GWS
variable {G : GG} {nw q : Nat} {x mo : Me}
theorem gw_lo {o : Nat} (h : o < 69) : ga (gw G nw q) o = ga G o := by
  show va_up (ga G) (69 + nw) q o = ga G o
  unfold va_up
  rw [if_neg (by omega)]
theorem gw_w {j : Nat} (h : j < nw) : ga (gw G nw q) (69 + j) = ga G (69 + j) := by
  show va_up (ga G) (69 + nw) q (69 + j) = _
  unfold va_up
  rw [if_neg (by omega)]
theorem gw_n : ga (gw G nw q) (69 + nw) = q := by
  show va_up (ga G) (69 + nw) q (69 + nw) = _
  unfold va_up
  rw [if_pos rfl]
theorem gw_c (k : Nat) : gc (gw G nw q) k = gc G k := rfl
theorem gw_E {s : State} (h : EnvP G s) : EnvP (gw G nw q) s := h
theorem gl_0 : ga (gw G nw q) 0 = ga G 0 := gw_lo (by decide)
theorem gl_1 : ga (gw G nw q) 1 = ga G 1 := gw_lo (by decide)
theorem gl_2 : ga (gw G nw q) 2 = ga G 2 := gw_lo (by decide)
theorem gl_3 : ga (gw G nw q) 3 = ga G 3 := gw_lo (by decide)
theorem gl_4 : ga (gw G nw q) 4 = ga G 4 := gw_lo (by decide)
theorem gl_5 : ga (gw G nw q) 5 = ga G 5 := gw_lo (by decide)
theorem gl_6 : ga (gw G nw q) 6 = ga G 6 := gw_lo (by decide)
theorem gl_7 : ga (gw G nw q) 7 = ga G 7 := gw_lo (by decide)
theorem gl_8 : ga (gw G nw q) 8 = ga G 8 := gw_lo (by decide)
theorem gl_9 : ga (gw G nw q) 9 = ga G 9 := gw_lo (by decide)
theorem gl_10 : ga (gw G nw q) 10 = ga G 10 := gw_lo (by decide)
theorem gl_11 : ga (gw G nw q) 11 = ga G 11 := gw_lo (by decide)
theorem gl_12 : ga (gw G nw q) 12 = ga G 12 := gw_lo (by decide)
theorem gl_13 : ga (gw G nw q) 13 = ga G 13 := gw_lo (by decide)
theorem gl_14 : ga (gw G nw q) 14 = ga G 14 := gw_lo (by decide)
theorem gl_15 : ga (gw G nw q) 15 = ga G 15 := gw_lo (by decide)
theorem gl_16 : ga (gw G nw q) 16 = ga G 16 := gw_lo (by decide)
theorem gl_17 : ga (gw G nw q) 17 = ga G 17 := gw_lo (by decide)
theorem gl_18 : ga (gw G nw q) 18 = ga G 18 := gw_lo (by decide)
theorem gl_19 : ga (gw G nw q) 19 = ga G 19 := gw_lo (by decide)
theorem gl_20 : ga (gw G nw q) 20 = ga G 20 := gw_lo (by decide)
theorem gl_21 : ga (gw G nw q) 21 = ga G 21 := gw_lo (by decide)
theorem gl_22 : ga (gw G nw q) 22 = ga G 22 := gw_lo (by decide)
theorem gl_23 : ga (gw G nw q) 23 = ga G 23 := gw_lo (by decide)
theorem gl_24 : ga (gw G nw q) 24 = ga G 24 := gw_lo (by decide)
theorem gl_25 : ga (gw G nw q) 25 = ga G 25 := gw_lo (by decide)
theorem gl_26 : ga (gw G nw q) 26 = ga G 26 := gw_lo (by decide)
theorem gl_27 : ga (gw G nw q) 27 = ga G 27 := gw_lo (by decide)
theorem gl_28 : ga (gw G nw q) 28 = ga G 28 := gw_lo (by decide)
theorem gl_29 : ga (gw G nw q) 29 = ga G 29 := gw_lo (by decide)
theorem gl_30 : ga (gw G nw q) 30 = ga G 30 := gw_lo (by decide)
theorem gl_31 : ga (gw G nw q) 31 = ga G 31 := gw_lo (by decide)
theorem gl_32 : ga (gw G nw q) 32 = ga G 32 := gw_lo (by decide)
theorem gl_33 : ga (gw G nw q) 33 = ga G 33 := gw_lo (by decide)
theorem gl_34 : ga (gw G nw q) 34 = ga G 34 := gw_lo (by decide)
theorem gl_35 : ga (gw G nw q) 35 = ga G 35 := gw_lo (by decide)
theorem gl_36 : ga (gw G nw q) 36 = ga G 36 := gw_lo (by decide)
theorem gl_37 : ga (gw G nw q) 37 = ga G 37 := gw_lo (by decide)
theorem gl_38 : ga (gw G nw q) 38 = ga G 38 := gw_lo (by decide)
theorem gl_39 : ga (gw G nw q) 39 = ga G 39 := gw_lo (by decide)
theorem gl_40 : ga (gw G nw q) 40 = ga G 40 := gw_lo (by decide)
theorem gl_41 : ga (gw G nw q) 41 = ga G 41 := gw_lo (by decide)
theorem gl_42 : ga (gw G nw q) 42 = ga G 42 := gw_lo (by decide)
theorem gl_43 : ga (gw G nw q) 43 = ga G 43 := gw_lo (by decide)
theorem gl_44 : ga (gw G nw q) 44 = ga G 44 := gw_lo (by decide)
theorem gl_45 : ga (gw G nw q) 45 = ga G 45 := gw_lo (by decide)
theorem gl_46 : ga (gw G nw q) 46 = ga G 46 := gw_lo (by decide)
theorem gl_47 : ga (gw G nw q) 47 = ga G 47 := gw_lo (by decide)
theorem gl_48 : ga (gw G nw q) 48 = ga G 48 := gw_lo (by decide)
theorem gl_49 : ga (gw G nw q) 49 = ga G 49 := gw_lo (by decide)
theorem gl_50 : ga (gw G nw q) 50 = ga G 50 := gw_lo (by decide)
theorem gl_51 : ga (gw G nw q) 51 = ga G 51 := gw_lo (by decide)
theorem gl_52 : ga (gw G nw q) 52 = ga G 52 := gw_lo (by decide)
theorem gl_53 : ga (gw G nw q) 53 = ga G 53 := gw_lo (by decide)
theorem gl_54 : ga (gw G nw q) 54 = ga G 54 := gw_lo (by decide)
theorem gl_55 : ga (gw G nw q) 55 = ga G 55 := gw_lo (by decide)
theorem gl_56 : ga (gw G nw q) 56 = ga G 56 := gw_lo (by decide)
theorem gl_57 : ga (gw G nw q) 57 = ga G 57 := gw_lo (by decide)
theorem gl_58 : ga (gw G nw q) 58 = ga G 58 := gw_lo (by decide)
theorem gl_59 : ga (gw G nw q) 59 = ga G 59 := gw_lo (by decide)
theorem gl_60 : ga (gw G nw q) 60 = ga G 60 := gw_lo (by decide)
theorem gl_61 : ga (gw G nw q) 61 = ga G 61 := gw_lo (by decide)
theorem gl_62 : ga (gw G nw q) 62 = ga G 62 := gw_lo (by decide)
theorem gl_63 : ga (gw G nw q) 63 = ga G 63 := gw_lo (by decide)
theorem gl_64 : ga (gw G nw q) 64 = ga G 64 := gw_lo (by decide)
theorem gl_65 : ga (gw G nw q) 65 = ga G 65 := gw_lo (by decide)
theorem gl_66 : ga (gw G nw q) 66 = ga G 66 := gw_lo (by decide)
theorem gl_67 : ga (gw G nw q) 67 = ga G 67 := gw_lo (by decide)
theorem gl_68 : ga (gw G nw q) 68 = ga G 68 := gw_lo (by decide)
theorem gw_M : mwM (gw G nw q) mo = mwM G mo := by
  simp only [mwM, oX11, gw_c, gl_41, gl_42, gl_43, gl_44, gl_45, gl_46, gl_47, gl_48, gl_49, gl_50, gl_51, gl_52, gl_53, gl_54, gl_55, gl_56, gl_57, gl_58, gl_59, gl_60, gl_61, gl_62, gl_63, gl_64, gl_65, gl_66, gl_67, gl_68]
theorem gw_X : ((mwX G nw x).set 8 (ga G 8, .inl (gc G 4, 17, .inr (.inr (.inr (.inr (va_up (fun j => if j < nw then some (ga G (69 + j)) else none) nw (some q)))))))).set 23 (ga G 23, .inl (gc G 3, 10, .inr (.inr (.inr (.inr (fun j => some (ga (gw G nw q) (26 + j)))))))) = mwX (gw G nw q) (nw + 1) (wx0 x nw) := by
  have e : va_up (fun j => if j < nw then some (ga G (69 + j)) else none) nw (some q) = (fun j => if j < nw + 1 then some (ga (gw G nw q) (69 + j)) else none) := by
    funext j
    unfold va_up
    by_cases h1 : j = nw
    · subst h1
      rw [if_pos rfl, if_pos (by omega), gw_n]
    · rw [if_neg h1]
      show (if j < nw then some (ga G (69 + j)) else none) = _
      by_cases h2 : j < nw
      · rw [if_pos h2, if_pos (by omega), gw_w h2]
      · rw [if_neg h2, if_neg (by omega)]
  rw [e]
  have e2 : mwX (gw G nw q) (nw + 1) (wx0 x nw) = mwX (gw G nw q) (nw + 1) x := rfl
  rw [e2]
  simp only [mwX, oX10, oX7, oX6, oX8, oX5, oX3, oX1, oX2, gw_c, gl_0, gl_1, gl_2, gl_3, gl_4, gl_5, gl_6, gl_7, gl_8, gl_9, gl_10, gl_11, gl_12, gl_13, gl_14, gl_15, gl_16, gl_17, gl_18, gl_19, gl_20, gl_21, gl_22, gl_23, gl_24, gl_25, gl_26, gl_27, gl_28, gl_29, gl_30, gl_31, gl_32, gl_33, gl_34, gl_35, gl_36, gl_37, gl_38, gl_39, gl_40, List.set]
theorem gw_Wd : mwW G nw x ++ [(q, .inr (9, [.int 0, .int (-1), .int (-1), .int (-1), .int 0, .int 0]))] = mwW (gw G nw q) (nw + 1) (wx0 x nw) := by
  unfold mwW
  rw [List.range_succ, List.map_append]
  congr 1
  · apply List.map_congr_left
    intro j hj
    have hj : j < nw := List.mem_range.mp hj
    have hne : j ≠ nw := by omega
    rw [gw_w hj]
    simp [oX9, wx0, mu, hne]
  · simp [oX9, wx0, mu, gw_n]
theorem gw_all : (((mw G nw x mo).set 8 (ga G 8, .inl (gc G 4, 17, .inr (.inr (.inr (.inr (va_up (fun j => if j < nw then some (ga G (69 + j)) else none) nw (some q)))))))).set 23 (ga G 23, .inl (gc G 3, 10, .inr (.inr (.inr (.inr (fun j => some (ga (gw G nw q) (26 + j))))))))) ++ [(q, .inr (9, [.int 0, .int (-1), .int (-1), .int (-1), .int 0, .int 0]))] = mw (gw G nw q) (nw + 1) (wx0 x nw) mo := by
  have l1 : (mwX G nw x).length = 41 := rfl
  show (((mwX G nw x ++ (mwM G mo ++ mwW G nw x)).set 8 _).set 23 _) ++ _ = mwX (gw G nw q) (nw + 1) (wx0 x nw) ++ (mwM (gw G nw q) mo ++ mwW (gw G nw q) (nw + 1) (wx0 x nw))
  rw [List.set_append_left _ _ (by omega), List.set_append_left _ _ (by rw [List.length_set]; omega), gw_X, gw_M, ← gw_Wd, List.append_assoc, List.append_assoc]
/-- the runners' row, as far as it goes -/
theorem gw_R {H : Heap} (h : va_at (gD G) vwCl (ga G 23, .inl (gc G 3, 10, .inr (.inr (.inr (.inr (fun j => some (ga G (26 + j)))))))) H) : va_at (gD G) vwCl (ga G 23, .inl (gc G 3, 10, .inr (.inr (.inr (.inr (fun j => some (ga (gw G nw q) (26 + j)))))))) H := by
  have e : vp_cell (gc G 3) (10, .inr (.inr (.inr (.inr (fun j => some (ga G (26 + j))))))) = vp_cell (gc G 3) (10, .inr (.inr (.inr (.inr (fun j => some (ga (gw G nw q) (26 + j))))))) := by
    rw [vp_cell_q, vp_cell_q]
    unfold arrV
    congr 1
    apply congrArg
    funext j
    show va_rf (some (ga G (26 + j.val))) = va_rf (some (ga (gw G nw q) (26 + j.val)))
    rw [gw_lo (show 26 + j.val < 69 by have := j.isLt; omega)]
  show H[ga G 23]? = some (vp_cell (gc G 3) _)
  rw [← e]
  exact h
theorem gw_Mem {H : Heap} (hM : WoP G (((mw G nw x mo).set 8 (ga G 8, .inl (gc G 4, 17, .inr (.inr (.inr (.inr (va_up (fun j => if j < nw then some (ga G (69 + j)) else none) nw (some q)))))))) ++ [(q, .inr (9, [.int 0, .int (-1), .int (-1), .int (-1), .int 0, .int 0]))]) H) : MemP (gw G nw q) (nw + 1) (wx0 x nw) mo H := by
  have e23 : (((mw G nw x mo).set 8 (ga G 8, .inl (gc G 4, 17, .inr (.inr (.inr (.inr (va_up (fun j => if j < nw then some (ga G (69 + j)) else none) nw (some q)))))))) ++ [(q, .inr (9, [.int 0, .int (-1), .int (-1), .int (-1), .int 0, .int 0]))])[23]? = some (ga G 23, .inl (gc G 3, 10, .inr (.inr (.inr (.inr (fun j => some (ga G (26 + j)))))))) := rfl
  have h0 := hM.1 23 _ e23
  have hP := hM.1.set (H1 := H) (e := .inl (gc G 3, 10, .inr (.inr (.inr (.inr (fun j => some (ga (gw G nw q) (26 + j)))))))) hM.2 e23 (gw_R h0) (fun _ _ => rfl)
  have hD := hM.2.set (e := .inl (gc G 3, 10, .inr (.inr (.inr (.inr (fun j => some (ga (gw G nw q) (26 + j)))))))) e23
  have l1 : 23 < ((mw G nw x mo).set 8 (ga G 8, .inl (gc G 4, 17, .inr (.inr (.inr (.inr (va_up (fun j => if j < nw then some (ga G (69 + j)) else none) nw (some q)))))))).length := by
    rw [List.length_set]
    show 23 < (mwX G nw x ++ (mwM G mo ++ mwW G nw x)).length
    rw [List.length_append]
    have : (mwX G nw x).length = 41 := rfl
    omega
  rw [List.set_append_left _ _ l1, gw_all] at hP hD
  exact ⟨hP, hD⟩
end GWS
def PreW (G : GG) (nw : Nat) (x m : Me) : State → Prop := fun U => EnvP G U ∧ AOs U ∧ MemP G nw x m U.heap
def rm_X8_addWard : Room := { frames := 2, cells := 1, slots := 6, locals := 40 }
set_option maxHeartbeats 4000000 in
set_option maxRecDepth 100000 in
theorem c_X8_addWard (l : Launch) (nw : Nat) (G : GG) (x mo : Me) (hs : x 13 0 = nI nw) (hn : nw < 17) : Met l yX8_addWard [.code yX8_addWard cX8_addWard 1 (some .int)] rm_X8_addWard (va_Pc [.ref (ga G 7)] (PreW G nw x mo)) (va_Qi (fun (r : Int32) (_ : Nat) => r = x 13 0 + 1 - 1) (fun q t => MemP (gw G nw q) (nw + 1) (wx x nw) mo t.heap) (gA G)) 1 6 (gA G) := by
  refine mt_ofW (cc := cX8_addWard) (maxL := 1) (ret := (some .int)) (by decide +kernel) rfl ?_
  intro p e s m args below meth c s₁ B hml hv
  obtain ⟨rfl, hE, hO, hM⟩ := hv
  have hx := B.exec
  have hb := B.bytes
  have hr := B.returns
  have hown : s.vm.findClass RX8 = some m.cls := findClass_of_methodNamed B.named
  have hlocks := B.notSynchronized
  have hS : va_S (gA G) s.heap s.heap [] := va_S.rf
  have hl := lv_entry ([.ref (ga G 7)]) (n := 1) (Nat.le_of_ble_eq_true rfl)
  rw [lg_entry_eq]
  generalize (lg_sl ([.ref (ga G 7)]) ++ List.replicate (1 - (lg_sl ([.ref (ga G 7)])).length) Slot.unset).toArray = ls at hl ⊢
  have hl : lv_has ls 1 [(0, .ref (ga G 7))] := hl
  generalize ([.ref (ga G 7)] : List Value).toArray = args

  have hlt : x 13 0 < 17 := by rw [hs]; exact nI_lt (b := 17) hn (by decide)
  have hin : vp_in (x 13 0) 17 := by rw [hs]; exact vp_in_nI hn (by decide)
  have hcl : (x 13 0).toNatClampNeg = nw := by rw [hs]; exact nI_clamp (by omega)
  refine lv_aload_n hx hb dX8_addWard_0 rfl (lv_at hl 0 rfl) ?_
  refine gf_13 hx hb hE hM hown w_1_87 dX8_addWard_1 ?_
  refine lv_bipush (v := 17) hx hb dX8_addWard_4 (by decide) ?_
  refine lv_icmp_lt (tgt := 11) hx hb dX8_addWard_6 (by decide) (fun _ => ?_) (fun hc => absurd hlt hc)
  refine lv_aload_n hx hb dX8_addWard_11 rfl (lv_at hl 0 rfl) ?_
  refine gr_8 hx hb hE hM hown w_1_90 dX8_addWard_12 ?_
  refine lv_aload_n hx hb dX8_addWard_15 rfl (lv_at hl 0 rfl) ?_
  refine gf_13 hx hb hE hM hown w_1_87 dX8_addWard_16 ?_
  have hM : WoP G (mw G nw x mo) s.heap := hM
  refine ct_new (ci := 9) tyX9 tyX9_ok dfX9 hx hb hown laX9 w_1_85 w_2_223 w_1_19 hE hM hS rfl (Nat.le_of_ble_eq_true rfl) (Nat.le_of_ble_eq_true rfl) dX8_addWard_19 (fun q H hM hS => ?_)
  refine lv_dup hx hb dX8_addWard_22 rfl ?_
  refine ct_callN hx hb hml hown hE hO hM hS (c_X9_init l G _ q) w_2_224 w_2_225 w_1_19 w_2_226 rfl rfl rfl ⟨by decide, by decide, by decide +kernel⟩ ⟨Nat.le_of_ble_eq_true rfl, Nat.le_of_ble_eq_true rfl⟩ hl.1 (Nat.le_of_ble_eq_true rfl) dX8_addWard_23 ⟨Nat.le_of_ble_eq_true rfl, Nat.le_of_ble_eq_true rfl⟩ (fun u H locs hM hS => ?_)
  unfold wo_X9_init at hM
  refine ct_ast (k := 4) (ci := 9) (r := (RX9, TX9, 6)) hx hb hE hM hS rfl (at_prev (rfl : (mw G nw x mo)[8]? = _)) (st_prev (rfl : (mw G nw x mo)[8]? = _) rfl) at_last rfl hin dX8_addWard_26 (fun H locs hM hS => ?_)
  rw [hcl] at hM
  have hM := gw_Mem hM
  have hE' : EnvP (gw G nw q) s := gw_E hE
  have hS' : va_S (gA (gw G nw q)) s.heap H locs := hS
  rw [← gl_7 (nw := nw) (q := q)] at hl
  refine lv_aload_n hx hb dX8_addWard_27 rfl (lv_at hl 0 rfl) ?_
  refine lv_dup hx hb dX8_addWard_28 rfl ?_
  refine gf_13 hx hb hE' hM hown w_1_87 dX8_addWard_29 ?_
  refine lv_iconst (v := 1) hx hb dX8_addWard_32 (by decide) ?_
  refine lv_iadd hx hb dX8_addWard_33 ?_
  refine pf_13 hx hb hE' hM hS' hown w_1_87 dX8_addWard_34 (fun H locs hM hS => ?_)
  refine lv_aload_n hx hb dX8_addWard_37 rfl (lv_at hl 0 rfl) ?_
  refine gf_13 hx hb hE' hM hown w_1_87 dX8_addWard_38 ?_
  refine lv_iconst (v := 1) hx hb dX8_addWard_41 (by decide) ?_
  refine lv_isub hx hb dX8_addWard_42 ?_
  exact W.iret hx hb hr (fun t ht hW => ⟨⟨_, q, rfl, rfl, by show MemP (gw G nw q) _ _ _ t.heap; rw [ht]; exact hM⟩, (show va_S (gA G) s.heap H locs from hS).F ht⟩) (show va_S (gA G) s.heap H locs from hS).2.2 dX8_addWard_43 hlocks
def rm_X8_addWardF : Room := { frames := 0, cells := 0, slots := 0, locals := 0 }
set_option maxHeartbeats 4000000 in
set_option maxRecDepth 100000 in
theorem c_X8_addWardF (l : Launch) (nw : Nat) (G : GG) (x mo : Me) (hs : ¬ x 13 0 < 17) : Met l yX8_addWard [.code yX8_addWard cX8_addWard 1 (some .int)] rm_X8_addWardF (va_Pc [.ref (ga G 7)] (PreW G nw x mo)) (PI G nw x mo (-1)) 0 0 (gA G) := by
  refine mt_ofW (cc := cX8_addWard) (maxL := 1) (ret := (some .int)) (by decide +kernel) rfl ?_
  intro p e s m args below meth c s₁ B hml hv
  obtain ⟨rfl, hE, hO, hM⟩ := hv
  have hx := B.exec
  have hb := B.bytes
  have hr := B.returns
  have hown : s.vm.findClass RX8 = some m.cls := findClass_of_methodNamed B.named
  have hlocks := B.notSynchronized
  have hS : va_S (gA G) s.heap s.heap [] := va_S.rf
  have hl := lv_entry ([.ref (ga G 7)]) (n := 1) (Nat.le_of_ble_eq_true rfl)
  rw [lg_entry_eq]
  generalize (lg_sl ([.ref (ga G 7)]) ++ List.replicate (1 - (lg_sl ([.ref (ga G 7)])).length) Slot.unset).toArray = ls at hl ⊢
  have hl : lv_has ls 1 [(0, .ref (ga G 7))] := hl
  generalize ([.ref (ga G 7)] : List Value).toArray = args

  refine lv_aload_n hx hb dX8_addWard_0 rfl (lv_at hl 0 rfl) ?_
  refine gf_13 hx hb hE hM hown w_1_87 dX8_addWard_1 ?_
  refine lv_bipush (v := 17) hx hb dX8_addWard_4 (by decide) ?_
  refine lv_icmp_lt (tgt := 11) hx hb dX8_addWard_6 (by decide) (fun hc => absurd hc hs) (fun _ => ?_)
  refine lv_iconst (v := -1) hx hb dX8_addWard_9 (by decide) ?_
  exact rt_iX hx hb hr rfl hM hS dX8_addWard_10 hlocks
def rm_X10_ward : Room := { frames := 3, cells := 1, slots := 6, locals := 70 }
set_option maxHeartbeats 4000000 in
set_option maxRecDepth 100000 in
theorem c_X10_ward (l : Launch) (nw : Nat) (G : GG) (x mo : Me) (hs : x 13 0 = nI nw) (hn : nw < 17) : Met l yX10_ward [.code yX10_ward cX10_ward 1 (some .int)] rm_X10_ward (va_Pc [.ref (ga G 0)] (PreW G nw x mo)) (va_Qi (fun (r : Int32) (_ : Nat) => r = x 13 0 + 1 - 1) (fun q t => MemP (gw G nw q) (nw + 1) (wx x nw) mo t.heap) (gA G)) 1 6 (gA G) := by
  refine mt_ofW (cc := cX10_ward) (maxL := 1) (ret := (some .int)) (by decide +kernel) rfl ?_
  intro p e s m args below meth c s₁ B hml hv
  obtain ⟨rfl, hE, hO, hM⟩ := hv
  have hx := B.exec
  have hb := B.bytes
  have hr := B.returns
  have hown : s.vm.findClass RX10 = some m.cls := findClass_of_methodNamed B.named
  have hlocks := B.notSynchronized
  have hS : va_S (gA G) s.heap s.heap [] := va_S.rf
  have hl := lv_entry ([.ref (ga G 0)]) (n := 1) (Nat.le_of_ble_eq_true rfl)
  rw [lg_entry_eq]
  generalize (lg_sl ([.ref (ga G 0)]) ++ List.replicate (1 - (lg_sl ([.ref (ga G 0)])).length) Slot.unset).toArray = ls at hl ⊢
  have hl : lv_has ls 1 [(0, .ref (ga G 0))] := hl
  generalize ([.ref (ga G 0)] : List Value).toArray = args

  refine lv_aload_n hx hb dX10_ward_0 rfl (lv_at hl 0 rfl) ?_
  refine gr_7 hx hb hE hM hown w_2_43 dX10_ward_1 ?_
  refine va_calli (va_runV (Ts := lw_tbl.filter goodWord) (C := RX8) (bytes := cX8_addWard) (maxL := 1) (ret := some .int) (As := []) ⟨hx, hb, hml, hown, fun w h => ew hE (List.mem_filter.mp h).1 (List.mem_filter.mp h).2⟩ (c_X8_addWard l nw G x mo hs hn)
    (cwV 0 (fun w h => ew hE (List.mem_filter.mp h).1 (List.mem_filter.mp h).2) (fun w h => ⟨List.mem_filter.mpr ((List.forall_mem_cons.mpr ⟨⟨w_2_219, rfl⟩, List.forall_mem_cons.mpr ⟨⟨w_2_220, rfl⟩, List.forall_mem_cons.mpr ⟨⟨w_2_221, rfl⟩, List.forall_mem_cons.mpr ⟨⟨w_1_4, rfl⟩, List.forall_mem_cons.mpr ⟨⟨w_2_222, rfl⟩, fun _ h => absurd h List.not_mem_nil⟩⟩⟩⟩⟩ : ∀ w ∈ wsV RX10 107 RX8 yX8_addWard [.code yX8_addWard cX8_addWard 1 (some .int)], w ∈ lw_tbl ∧ goodWord w = true) w h), good_of_word ((List.forall_mem_cons.mpr ⟨⟨w_2_219, rfl⟩, List.forall_mem_cons.mpr ⟨⟨w_2_220, rfl⟩, List.forall_mem_cons.mpr ⟨⟨w_2_221, rfl⟩, List.forall_mem_cons.mpr ⟨⟨w_1_4, rfl⟩, List.forall_mem_cons.mpr ⟨⟨w_2_222, rfl⟩, fun _ h => absurd h List.not_mem_nil⟩⟩⟩⟩⟩ : ∀ w ∈ wsV RX10 107 RX8 yX8_addWard [.code yX8_addWard cX8_addWard 1 (some .int)], w ∈ lw_tbl ∧ goodWord w = true) w h).2⟩) rfl rfl rfl ⟨rfl, by decide, by decide, by decide +kernel⟩ ⟨Nat.le_of_ble_eq_true rfl, Nat.le_of_ble_eq_true rfl⟩)
    ⟨fun a U g mk q => ⟨q.1, q.2.1.calling, ⟨va_AO.moved (U := U.calling g mk a) (Vm.Alike.refl U.vm) q.2.2.1.1, va_AO.moved (U := U.calling g mk a) (Vm.Alike.refl U.vm) q.2.2.1.2⟩, q.2.2.2⟩, va_recv (ci := 8) (q0 := 7) hE.1 hM.1 rfl rfl, fun U hU hW => ⟨rfl, hE.move hW hU hS, ⟨va_AO.moved hW.alike hO.1, va_AO.moved hW.alike hO.2⟩, by rw [hU]; exact hM⟩⟩ rfl rfl hl.1 rfl (lv_room (Nat.le_of_ble_eq_true rfl)) dX10_ward_4 ⟨Nat.le_of_ble_eq_true rfl, Nat.le_of_ble_eq_true rfl⟩) hS (fun _ _ h => h) (fun _ h => h) (fun r q t H locs ht _ hw hB _ _ hS => ?_)
  exact W.iret hx hb hr (fun t2 ht2 hW => ⟨⟨_, q, rfl, hw, by show MemP (gw G nw q) _ _ _ t2.heap; rw [ht2, ← ht]; exact hB⟩, hS.F ht2⟩) hS.2.2 dX10_ward_7 hlocks
def rm_X10_wardF : Room := { frames := 1, cells := 0, slots := 0, locals := 30 }
set_option maxHeartbeats 4000000 in
set_option maxRecDepth 100000 in
theorem c_X10_wardF (l : Launch) (nw : Nat) (G : GG) (x mo : Me) (hs : ¬ x 13 0 < 17) : Met l yX10_ward [.code yX10_ward cX10_ward 1 (some .int)] rm_X10_wardF (va_Pc [.ref (ga G 0)] (PreW G nw x mo)) (PI G nw x mo (-1)) 0 0 (gA G) := by
  refine mt_ofW (cc := cX10_ward) (maxL := 1) (ret := (some .int)) (by decide +kernel) rfl ?_
  intro p e s m args below meth c s₁ B hml hv
  obtain ⟨rfl, hE, hO, hM⟩ := hv
  have hx := B.exec
  have hb := B.bytes
  have hr := B.returns
  have hown : s.vm.findClass RX10 = some m.cls := findClass_of_methodNamed B.named
  have hlocks := B.notSynchronized
  have hS : va_S (gA G) s.heap s.heap [] := va_S.rf
  have hl := lv_entry ([.ref (ga G 0)]) (n := 1) (Nat.le_of_ble_eq_true rfl)
  rw [lg_entry_eq]
  generalize (lg_sl ([.ref (ga G 0)]) ++ List.replicate (1 - (lg_sl ([.ref (ga G 0)])).length) Slot.unset).toArray = ls at hl ⊢
  have hl : lv_has ls 1 [(0, .ref (ga G 0))] := hl
  generalize ([.ref (ga G 0)] : List Value).toArray = args

  refine lv_aload_n hx hb dX10_ward_0 rfl (lv_at hl 0 rfl) ?_
  refine gr_7 hx hb hE hM hown w_2_43 dX10_ward_1 ?_
  refine va_calli (va_runV (Ts := lw_tbl.filter goodWord) (C := RX8) (bytes := cX8_addWard) (maxL := 1) (ret := some .int) (As := []) ⟨hx, hb, hml, hown, fun w h => ew hE (List.mem_filter.mp h).1 (List.mem_filter.mp h).2⟩ (c_X8_addWardF l nw G x mo hs)
    (cwV 0 (fun w h => ew hE (List.mem_filter.mp h).1 (List.mem_filter.mp h).2) (fun w h => ⟨List.mem_filter.mpr ((List.forall_mem_cons.mpr ⟨⟨w_2_219, rfl⟩, List.forall_mem_cons.mpr ⟨⟨w_2_220, rfl⟩, List.forall_mem_cons.mpr ⟨⟨w_2_221, rfl⟩, List.forall_mem_cons.mpr ⟨⟨w_1_4, rfl⟩, List.forall_mem_cons.mpr ⟨⟨w_2_222, rfl⟩, fun _ h => absurd h List.not_mem_nil⟩⟩⟩⟩⟩ : ∀ w ∈ wsV RX10 107 RX8 yX8_addWard [.code yX8_addWard cX8_addWard 1 (some .int)], w ∈ lw_tbl ∧ goodWord w = true) w h), good_of_word ((List.forall_mem_cons.mpr ⟨⟨w_2_219, rfl⟩, List.forall_mem_cons.mpr ⟨⟨w_2_220, rfl⟩, List.forall_mem_cons.mpr ⟨⟨w_2_221, rfl⟩, List.forall_mem_cons.mpr ⟨⟨w_1_4, rfl⟩, List.forall_mem_cons.mpr ⟨⟨w_2_222, rfl⟩, fun _ h => absurd h List.not_mem_nil⟩⟩⟩⟩⟩ : ∀ w ∈ wsV RX10 107 RX8 yX8_addWard [.code yX8_addWard cX8_addWard 1 (some .int)], w ∈ lw_tbl ∧ goodWord w = true) w h).2⟩) rfl rfl rfl ⟨rfl, by decide, by decide, by decide +kernel⟩ ⟨Nat.le_of_ble_eq_true rfl, Nat.le_of_ble_eq_true rfl⟩)
    ⟨fun a U g mk q => ⟨q.1, q.2.1.calling, ⟨va_AO.moved (U := U.calling g mk a) (Vm.Alike.refl U.vm) q.2.2.1.1, va_AO.moved (U := U.calling g mk a) (Vm.Alike.refl U.vm) q.2.2.1.2⟩, q.2.2.2⟩, va_recv (ci := 8) (q0 := 7) hE.1 hM.1 rfl rfl, fun U hU hW => ⟨rfl, hE.move hW hU hS, ⟨va_AO.moved hW.alike hO.1, va_AO.moved hW.alike hO.2⟩, by rw [hU]; exact hM⟩⟩ rfl rfl hl.1 rfl (lv_room (Nat.le_of_ble_eq_true rfl)) dX10_ward_4 ⟨Nat.le_of_ble_eq_true rfl, Nat.le_of_ble_eq_true rfl⟩) hS (fun _ _ h => h) (fun _ h => h) (fun r u t H locs ht _ hw hB _ _ hS => ?_)
  subst hw
  exact W.iret hx hb hr (fun t2 ht2 hW => ⟨⟨_, (), rfl, rfl, by show MemP G _ _ _ t2.heap; rw [ht2, ← ht]; exact hB⟩, hS.F ht2⟩) hS.2.2 dX10_ward_7 hlocks
