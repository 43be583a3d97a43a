/-! places on the ring -/
theorem dT {a : Int32} {d : Nat} (h : a + 2 = nI d) (hd : d ≤ 500) : a.toInt = (d : Int) - 2 := by
  have e : a = nI d - nI 2 := by rw [← h, show nI 2 = 2 from rfl, Int32.add_sub_cancel]
  rw [e, pk_sub_toInt (by omega) (by decide)]
  rfl
theorem dE {a b : Int32} {d e : Nat} (h : a + 2 = nI d) (h' : b + 2 = nI e) (hd : d ≤ 500) (he : e ≤ 500) : a = b ↔ d = e := by
  constructor
  · intro q
    rw [q, h'] at h
    exact ((nI_eq (by omega) (by omega)).mp h).symm
  · intro q
    apply Int32.toInt_inj.mp
    rw [dT h hd, dT h' he, q]
theorem dL {a b : Int32} {d e : Nat} (h : a + 2 = nI d) (h' : b + 2 = nI e) (hd : d ≤ 500) (he : e ≤ 500) : a < b ↔ d < e := by
  rw [Int32.lt_iff_toInt_lt, dT h hd, dT h' he]; omega
theorem dS {a : Int32} {d : Nat} (h : a + 2 = nI d) : a + 1 + 2 = nI (d + 1) := by
  rw [Int32.add_assoc, show (1 : Int32) + 2 = 2 + 1 from rfl, ← Int32.add_assoc, h, nI_1]
theorem dS2 {a : Int32} {d : Nat} (h : a + 2 = nI d) : a + 2 + 2 = nI (d + 2) := by
  rw [h, show (2 : Int32) = nI 2 from rfl, nI_add]
theorem sub1 {a b : Int32} : b = a - 1 ↔ a = b + 1 := by
  constructor
  · intro q; rw [q, Int32.sub_add_cancel]
  · intro q; rw [q, Int32.add_sub_cancel]
theorem sub2 {a b : Int32} : b = a - 2 ↔ a = b + 2 := by
  constructor
  · intro q; rw [q, Int32.sub_add_cancel]
  · intro q; rw [q, Int32.add_sub_cancel]
theorem md_sub {D E l : Nat} (h : E ≤ D) : (D - E) % l = 0 ↔ D % l = E % l := by
  constructor
  · intro q
    have := Nat.div_add_mod (D - E) l
    rw [q, Nat.add_zero] at this
    have e : D = E + l * ((D - E) / l) := by omega
    rw [e, Nat.add_mul_mod_self_left]
  · exact Nat.sub_mod_eq_zero_of_mod_eq
theorem rem_sp {a b : Int32} {D E l : Nat} (h : a + 2 = nI D) (h' : b + 2 = nI E) (hD : D ≤ 500) (hE : E ≤ 500) (hl : 12 ≤ l) (hl2 : l ≤ 60) : ((a - b) - (a - b) / nI l * nI l = 0) ↔ D % l = E % l := by
  have hY : (a - b).toInt = (D : Int) - E := by
    rw [Int32.toInt_sub, dT h hD, dT h' hE, Int.bmod_eq_of_le (by omega) (by omega)]; omega
  rcases Nat.le_total E D with q | q
  · have e : a - b = nI (D - E) := Int32.toInt_inj.mp (by rw [hY, nI_toInt (by omega)]; omega)
    rw [e, pk_rem (by omega) (by omega) (by omega), ← md_sub q]
    exact nI_eq (b := 0) (by have := Nat.mod_lt (D - E) (show 0 < l by omega); omega) (by decide)
  · have e : a - b = -nI (E - D) := Int32.toInt_inj.mp (by rw [hY, sb_negT (by omega)]; omega)
    rw [e]
    have hn : E - D ≤ 500 := by omega
    generalize hnd : E - D = n at hn
    have hdm := Nat.div_add_mod' n l
    have hml := Nat.mod_lt n (show 0 < l by omega)
    have hq : -nI n / nI l = -nI (n / l) := by
      apply Int32.toInt_inj.mp
      rw [Int32.toInt_div, sb_negT (by omega), nI_toInt (by omega), sb_negT (by have := Nat.div_le_self n l; omega), Int.neg_tdiv, Int.tdiv_eq_ediv_of_nonneg (by omega), ← Int.natCast_ediv]
      have hdl := Nat.div_le_self n l
      generalize n / l = q at hdl
      exact Int.bmod_eq_of_le (by omega) (by omega)
    have hm : -nI (n / l) * nI l = -nI (n / l * l) := by
      apply Int32.toInt_inj.mp
      rw [Int32.toInt_mul, sb_negT (by have := Nat.div_le_self n l; omega), nI_toInt (by omega), sb_negT (by omega), Int.neg_mul, ← Int.natCast_mul, Int.bmod_eq_of_le (by omega) (by omega)]
    have hr : (-nI n - -nI (n / l * l)).toInt = -((n % l : Nat) : Int) := by
      rw [Int32.toInt_sub, sb_negT (by omega), sb_negT (by omega), Int.bmod_eq_of_le (by omega) (by omega)]; omega
    rw [hq, hm]
    constructor
    · intro z
      rw [z, show (0 : Int32).toInt = 0 from by decide] at hr
      have h0 : n % l = 0 := by omega
      rw [← hnd] at h0
      exact ((md_sub q).mp h0).symm
    · intro z
      have h0 : (E - D) % l = 0 := (md_sub q).mpr z.symm
      rw [hnd] at h0
      apply Int32.toInt_inj.mp
      rw [hr, h0]; rfl
/-- the cell of a place -/
def cel (l d : Nat) : Nat := (d + l - 2) % l
theorem cel_eq {l d e : Nat} (hl : 12 ≤ l) : cel l d = cel l e ↔ d % l = e % l := by
  have key : ∀ t, cel l t = (t % l + (l - 2)) % l := fun t => by
    unfold cel
    rw [show t + l - 2 = t + (l - 2) by omega, ← Nat.mod_add_mod]
  rw [key, key]
  have h1 := Nat.mod_lt d (show 0 < l by omega)
  have h2 := Nat.mod_lt e (show 0 < l by omega)
  generalize d % l = u at h1
  generalize e % l = v at h2
  constructor
  · intro h
    have hu : (u + (l - 2)) % l = if u + (l - 2) < l then u + (l - 2) else u - 2 := by
      split
      · exact Nat.mod_eq_of_lt ‹_›
      · rw [show u + (l - 2) = (u - 2) + l by omega, Nat.add_mod_right, Nat.mod_eq_of_lt (by omega)]
    have hv : (v + (l - 2)) % l = if v + (l - 2) < l then v + (l - 2) else v - 2 := by
      split
      · exact Nat.mod_eq_of_lt ‹_›
      · rw [show v + (l - 2) = (v - 2) + l by omega, Nat.add_mod_right, Nat.mod_eq_of_lt (by omega)]
    rw [hu, hv] at h
    split at h <;> split at h <;> omega
  · intro h; rw [h]
theorem xor_0 {a b : Nat} (ha : a < 2 ^ 30) (hb : b < 2 ^ 30) : 0 ≤ nI a ^^^ nI b := by
  have e : nI a ^^^ nI b = nI (a ^^^ b) := by
    apply Int32.toBitVec_inj.1
    rw [Int32.toBitVec_xor]
    exact BitVec.ofNat_xor.symm
  rw [e]
  have := Nat.xor_lt_two_pow ha hb
  exact nI_pos' (by omega)
theorem fm_1 : ∀ l : Fin 61, 12 ≤ l.val → ¬ (0 : Int32) ≤ (-1) ^^^ nI l.val ∧ (-1 : Int32) - (-1) / nI l.val * nI l.val = -1 ∧ (-1 : Int32) + nI l.val = nI (l.val - 1) := by decide +kernel
section PUR23
variable {fu nw : Nat} {x m : Me} {l : Nat}
theorem co_f {a : Int32} {d : Nat} (e : m 35 0 = nI l) (hl : 12 ≤ l) (hl2 : l ≤ 60) (h : a + 2 = nI d) (hd : d ≤ 500) : f_X11_cellOf fu m a = some (m, nI (cel l d)) := by
  unfold f_X11_cellOf cel
  have e1 : a + nI l = nI (d + l - 2) := Int32.toInt_inj.mp (by
    rw [Int32.toInt_add, dT h hd, nI_toInt (by omega), nI_toInt (by omega), Int.bmod_eq_of_le (by omega) (by omega)]; omega)
  rw [e, if_pos (nI_ne0 (by omega) (by omega)), e1, pk_rem (by omega) (by omega) (by omega)]
theorem fm_sp {a : Int32} {d : Nat} (hl : 12 ≤ l) (hl2 : l ≤ 60) (h : a + 2 = nI d) (hd0 : 1 ≤ d) (hd : d ≤ 500) : f_J9_floorMod_7cf53 fu nw x a (nI l) = some (x, nI (cel l d)) := by
  unfold f_J9_floorMod_7cf53 cel
  rw [if_pos (nI_ne0 (by omega) (by omega))]
  by_cases q : d = 1
  · have ea : a = -1 := Int32.toInt_inj.mp (by rw [dT h hd, q]; decide)
    obtain ⟨g1, g2, g3⟩ : ¬ (0 : Int32) ≤ (-1) ^^^ nI l ∧ (-1 : Int32) - (-1) / nI l * nI l = -1 ∧ (-1 : Int32) + nI l = nI (l - 1) := fm_1 ⟨l, by omega⟩ hl
    rw [ea, if_neg g1, g2, if_neg (by decide), g3, q, Nat.mod_eq_of_lt (by omega)]
    exact congrArg (fun z => some (x, nI z)) (by omega)
  · have ea : a = nI (d - 2) := Int32.toInt_inj.mp (by rw [dT h hd, nI_toInt (by omega)]; omega)
    rw [ea, if_pos (xor_0 (by omega) (by omega)), pk_rem (by omega) (by omega) (by omega), show d + l - 2 = d - 2 + l by omega, Nat.add_mod_right]
end PUR23
