/-! the law's script -/
section
variable {l : Launch} {own : String} {cc : ByteArray} {nL : Nat} {ret : Option FieldType} {bb : Bool} {w : xZ} {d mc ms : Nat} {Q : xP} {n cu su pc : Nat} {lv lv' : List (Nat × xV)} {st rest : List xV} {ρ : xMr} {σ : xMi} {idx : Nat}
/-- the script's j-th int -/
def x_ag (w : xZ) (j : Nat) : Int := (w.2.2.2.2 j).toInt
theorem x_agw (w : xZ) (j : Nat) : x_wr (x_ag w j) = x_ag w j := by
  unfold x_wr x_ag; rw [Int32.ofInt_toInt]
theorem g_slen (hd : decode cc pc = .ok (.arraylength, 1)) (kk : xGo l own cc nL ret (bb, some w) d mc ms Q n cu su (pc + 1) lv (xI (w.2.2.2.1 : Int) :: st) ρ σ) : xGo l own cc nL ret (bb, some w) d mc ms Q n cu su pc lv (xA w.2.2.1 :: st) ρ σ := by
  intro p e s m args below meth c B D cy zz H locs ls hC hR hS hl
  obtain ⟨hx, hbc, hml, hown, hts, hrt, hlk, hin, hK, hX1, hX2, hX3, hXR, hXS, hXZ, hXO⟩ := id hC
  have hz : zz = w := hin.2 w rfl
  exact va_tlen hx hbc (by rw [← hz]; exact hXZ.2.2) hS.1 (v := Int32.ofInt (w.2.2.2.1 : Int)) rfl hd (kk p e s m args below meth c B D cy zz H locs ls hC hR hS hl)
theorem g_sld {a : Int} {j : Nat} (hd : decode cc pc = .ok (.iaload, 1)) (ha : a = (j : Int)) (hj : j < w.2.2.2.1) (hL : w.2.2.2.1 < 2147483648) (kk : xGo l own cc nL ret (bb, some w) d mc ms Q n cu su (pc + 1) lv (xI (x_ag w j) :: st) ρ σ) : xGo l own cc nL ret (bb, some w) d mc ms Q n cu su pc lv (xI a :: xA w.2.2.1 :: st) ρ σ := by
  intro p e s m args below meth c B D cy zz H locs ls hC hR hS hl
  obtain ⟨hx, hbc, hml, hown, hts, hrt, hlk, hin, hK, hX1, hX2, hX3, hXR, hXS, hXZ, hXO⟩ := id hC
  have hz : zz = w := hin.2 w rfl
  subst ha
  refine va_ti hx hbc (N := w.2.2.2.1) (f := fun j => .int (w.2.2.2.2 j)) (by rw [← hz]; exact hXZ.2.2) hS.1 (i := Int32.ofInt (j : Int)) (x_vin hj hL) (v := .int (Int32.ofInt (x_ag w j))) ?_ hd (kk p e s m args below meth c B D cy zz H locs ls hC hR hS hl)
  rw [x_clamp (by omega)]
  unfold x_ag
  rw [Int32.ofInt_toInt]
end
abbrev x_QL : xP := fun r _ _ _ => r = some (xI 1)
abbrev xL (l : Launch) (w : xZ) (i pc : Nat) (st : List xV) (σ : xMi) : Prop := xGo l RL cL_law 4 (some .boolean) (false, some w) 100 154 2024 x_QL 154 154 2024 pc [(3, xI (i : Int)), (2, xR 24 0), (1, xR 23 0), (0, xA w.2.2.1)] st x_r0 σ
