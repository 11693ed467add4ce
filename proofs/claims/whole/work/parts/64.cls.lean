/-! bits of the class against rows of 0 and 1 -/
theorem bt_get : ∀ n : Nat, n < 64 → ∀ p : Nat, p < 6 → x_and (x_shr (n : Int) (p : Int)) 1 = if n.testBit p then 1 else 0 := by decide +kernel
theorem bt_or : ∀ n : Nat, n < 64 → ∀ p : Nat, p < 6 → x_or (n : Int) (x_shl 1 (p : Int)) = ((n ||| 2 ^ p : Nat) : Int) ∧ n ||| 2 ^ p < 64 := by decide +kernel
theorem bt_orb : ∀ n : Nat, n < 64 → ∀ p : Nat, p < 6 → ∀ q : Nat, q < 6 → (n ||| 2 ^ p).testBit q = (n.testBit q || decide (q = p)) := by decide +kernel
theorem bt_clr : ∀ n : Nat, n < 64 → ∀ p : Nat, p < 6 → x_and (n : Int) (x_xor (x_shl 1 (p : Int)) (-1)) = (((if n.testBit p then n - 2 ^ p else n) : Nat) : Int) ∧ (if n.testBit p then n - 2 ^ p else n) < 64 := by decide +kernel
theorem bt_clrb : ∀ n : Nat, n < 64 → ∀ p : Nat, p < 6 → ∀ q : Nat, q < 6 → (if n.testBit p then n - 2 ^ p else n).testBit q = (n.testBit q && decide (q ≠ p)) := by decide +kernel
theorem bt_one : ∀ n : Nat, n < 64 → ∀ p : Nat, p < 6 → x_and (n : Int) (x_shl 1 (p : Int)) = if n.testBit p then x_shl 1 (p : Int) else 0 := by decide +kernel
theorem bt_or0 : ∀ n : Nat, n < 64 → x_or (n : Int) 0 = n := by decide +kernel
theorem bt_eq {n m : Nat} (hn : n < 64) (hm : m < 64) (h : ∀ p, p < 6 → n.testBit p = m.testBit p) : n = m := by
  have k : ∀ n : Nat, n < 64 → n = (if n.testBit 0 then 1 else 0) + (if n.testBit 1 then 2 else 0) + (if n.testBit 2 then 4 else 0) + (if n.testBit 3 then 8 else 0) + (if n.testBit 4 then 16 else 0) + (if n.testBit 5 then 32 else 0) := by decide +kernel
  rw [k n hn, k m hm, h 0 (by omega), h 1 (by omega), h 2 (by omega), h 3 (by omega), h 4 (by omega), h 5 (by omega)]
def bB (h : Int) (K : Nat) (g : Nat → Int) : Prop := ∃ n : Nat, n < 64 ∧ h = (n : Int) ∧ ∀ p, p < 6 → (n.testBit p = true ↔ p < K ∧ g p = 1)
theorem bB.cong {h : Int} {K : Nat} {g g' : Nat → Int} (hb : bB h K g) (hg : ∀ p, p < K → (g' p = 1 ↔ g p = 1)) : bB h K g' := by
  obtain ⟨n, h1, h2, h3⟩ := hb
  refine ⟨n, h1, h2, fun p hp => (h3 p hp).trans ⟨fun z => ⟨z.1, (hg p z.1).mpr z.2⟩, fun z => ⟨z.1, (hg p z.1).mp z.2⟩⟩⟩
theorem bB.uniq {h h' : Int} {K : Nat} {g : Nat → Int} (hb : bB h K g) (hb' : bB h' K g) : h = h' := by
  obtain ⟨n, h1, h2, h3⟩ := hb
  obtain ⟨n', h1', h2', h3'⟩ := hb'
  rw [h2, h2', bt_eq h1 h1' (fun p hp => by rw [Bool.eq_iff_iff]; exact (h3 p hp).trans (h3' p hp).symm)]
theorem bB.zero (K : Nat) {g : Nat → Int} (hg : ∀ p, p < K → g p ≠ 1) : bB 0 K g := ⟨0, by omega, rfl, fun p hp => ⟨fun z => absurd z (by simp), fun z => absurd z.2 (hg p z.1)⟩⟩
theorem bB.get {h : Int} {K p : Nat} {g : Nat → Int} (hb : bB h K g) (hK : K ≤ 6) (hp : p < K) (hg : 0 ≤ g p ∧ g p ≤ 1) : x_and (x_shr h (p : Int)) 1 = g p := by
  obtain ⟨n, h1, rfl, h3⟩ := hb
  rw [bt_get n h1 p (by omega)]
  have h4 := h3 p (by omega)
  by_cases c : n.testBit p = true
  · rw [if_pos c]; exact (h4.mp c).2.symm
  · rw [if_neg c]
    have : g p ≠ 1 := fun z => c (h4.mpr ⟨hp, z⟩)
    omega
theorem bB.isIn {h : Int} {K p : Nat} {g : Nat → Int} (s : xMi) (hb : bB h K g) (hK : K ≤ 6) (hp : p < K) (hg : 0 ≤ g p ∧ g p ≤ 1) : V_X0_isIn s h (p : Int) = g p := by
  unfold V_X0_isIn
  rw [hb.get hK hp hg, xw1, x_wrs (a := g p) (by omega) (by omega)]
  split <;> omega
theorem bB.set {h : Int} {K p : Nat} {g g' : Nat → Int} (hb : bB h K g) (hK : K ≤ 6) (hp : p < K) (h1 : g' p = 1) (hg : ∀ q, q < K → q ≠ p → (g' q = 1 ↔ g q = 1)) : bB (x_or h (x_shl 1 (p : Int))) K g' := by
  obtain ⟨n, e1, rfl, e3⟩ := hb
  obtain ⟨k1, k2⟩ := bt_or n e1 p (by omega)
  refine ⟨n ||| 2 ^ p, k2, k1, fun q hq => ?_⟩
  rw [bt_orb n e1 p (by omega) q hq, Bool.or_eq_true, e3 q hq, decide_eq_true_iff]
  constructor
  · rintro (⟨z1, z2⟩ | rfl)
    · by_cases c : q = p
      · subst c; exact ⟨hp, h1⟩
      · exact ⟨z1, (hg q z1 c).mpr z2⟩
    · exact ⟨hp, h1⟩
  · rintro ⟨z1, z2⟩
    by_cases c : q = p
    · exact Or.inr c
    · exact Or.inl ⟨z1, (hg q z1 c).mp z2⟩
theorem bB.clr {h : Int} {K p : Nat} {g g' : Nat → Int} (hb : bB h K g) (hK : K ≤ 6) (hp : p < K) (h1 : g' p ≠ 1) (hg : ∀ q, q < K → q ≠ p → (g' q = 1 ↔ g q = 1)) : bB (x_and h (x_xor (x_shl 1 (p : Int)) (-1))) K g' := by
  obtain ⟨n, e1, rfl, e3⟩ := hb
  obtain ⟨k1, k2⟩ := bt_clr n e1 p (by omega)
  refine ⟨_, k2, k1, fun q hq => ?_⟩
  rw [bt_clrb n e1 p (by omega) q hq, Bool.and_eq_true, e3 q hq, decide_eq_true_iff]
  constructor
  · rintro ⟨⟨z1, z2⟩, c⟩
    exact ⟨z1, (hg q z1 c).mpr z2⟩
  · rintro ⟨z1, z2⟩
    have c : q ≠ p := fun c => by subst c; exact h1 z2
    exact ⟨⟨z1, (hg q z1 c).mp z2⟩, c⟩
/-- soft |= had & 1 << p -/
theorem bB.take {h s : Int} {K p : Nat} {g gh g' : Nat → Int} (hb : bB s K g) (hh : bB h K gh) (hK : K ≤ 6) (hp : p < K) (h0 : g p ≠ 1) (h1 : g' p = gh p) (hg : ∀ q, q < K → q ≠ p → (g' q = 1 ↔ g q = 1)) : bB (x_or s (x_and h (x_shl 1 (p : Int)))) K g' := by
  obtain ⟨n, e1, rfl, e3⟩ := hh
  rw [bt_one n e1 p (by omega)]
  by_cases c : n.testBit p = true
  · rw [if_pos c]
    exact hb.set hK hp (h1.trans ((e3 p (by omega)).mp c).2) hg
  · rw [if_neg c]
    have h2 : g' p ≠ 1 := fun z => c ((e3 p (by omega)).mpr ⟨hp, h1 ▸ z⟩)
    have hb2 := hb.cong (g' := g') (fun q hq => by
      by_cases d : q = p
      · subst d; exact ⟨fun z => absurd z h2, fun z => absurd z h0⟩
      · exact hg q hq d)
    obtain ⟨k, k1, rfl, k3⟩ := hb2
    exact ⟨k, k1, bt_or0 k k1, k3⟩
/-! a fund of the class and its picture -/
def cF (f : Nat) (s : xMi) (K : Nat) (a : aS) : Prop :=
  (s 0 f 10 = a 8 0 ∧ s 0 f 9 = a 8 1 ∧ x_bn (s 0 f 11) = a 8 2 ∧ s 0 f 8 = a 8 3) ∧ (∀ p, p < K → s 1 f p = a 0 p ∧ s 2 f p = a 1 p ∧ s 3 f p = a 2 p ∧ s 4 f p = a 3 p) ∧ bB (s 0 f 6) K (a 4) ∧ bB (s 0 f 5) K (a 5) ∧ bB (s 0 f 7) K (a 6)
def cR (r : Nat) (s : xMi) (K : Nat) (F : aS) : Prop := ∀ p, p < K → s 6 r p = F 0 p ∧ s 7 r p = F 1 p ∧ s 8 r p = F 2 p ∧ s 9 r p = F 3 p
theorem cF.same {f : Nat} {s s' : xMi} {K : Nat} {a : aS} (h : cF f s K a) (e : ∀ t, t ≤ 4 → ∀ k, s' t f k = s t f k) : cF f s' K a := by
  obtain ⟨⟨h1, h2, h3, h4⟩, h5, h6, h7, h8⟩ := h
  unfold cF
  simp only [e 0 (by omega), e 1 (by omega), e 2 (by omega), e 3 (by omega), e 4 (by omega)]
  exact ⟨⟨h1, h2, h3, h4⟩, h5, h6, h7, h8⟩
theorem cR.same {r : Nat} {s s' : xMi} {K : Nat} {F : aS} (h : cR r s K F) (e : ∀ t, 6 ≤ t → t ≤ 9 → ∀ k, s' t r k = s t r k) : cR r s' K F := by
  intro p hp
  rw [e 6 (by omega) (by omega), e 7 (by omega) (by omega), e 8 (by omega) (by omega), e 9 (by omega) (by omega)]
  exact h p hp
section
variable {f : Nat} {s : xMi} {K : Nat} {a F : aS} {D : Int} {p : Nat}
theorem c_isTold (hC : cF f s K a) (hR : aRg K a) (h3 : a 3 p = -4 ∨ 0 ≤ a 3 p) (hp : p < K) : V_X0_isTold s f p = if a 3 p = -4 then 0 else 1 := by
  have h1 := (hC.2.1 p hp).2.2.2
  have h2 := hR.2 p hp
  unfold V_X0_isTold
  rw [h1, x_wrs (a := a 3 p) (by omega) (by omega)]
  (repeat' split) <;> omega
theorem c_willRefuse (hK : K ≤ 6) (hC : cF f s K a) (hRl : cR (x_rof f) s K F) (hF : aF K F) (hW : aW K D a) (hp : p < K) : V_X0_willRefuse s f p = if F 0 p = 3 ∧ a 6 p = 0 then 1 else 0 := by
  have hr := hW.row hp
  have hf := hF p hp
  unfold V_X0_willRefuse
  rw [hC.2.2.2.2.isIn s hK hp (by omega), (hRl p hp).1, xw3, x_wrs (a := F 0 p) (by omega) (by omega), x_wrs (a := a 6 p) (by omega) (by omega)]
  (repeat' split) <;> first | rfl | omega
theorem c_eatingDays (k h : Int) (hk : 0 ≤ k ∧ k ≤ 3) : V_X0_eatingDays s k h = aEat k h := by
  unfold V_X0_eatingDays aEat
  rw [xw1, xw2, x_wrs (a := k) (by omega) (by omega)]
  (repeat' split) <;> omega
theorem c_wayDays (hRl : cR (x_rof f) s K F) (hF : aF K F) (hp : p < K) : V_X0_wayDays s f p = F 1 p / 10 + 1 := by
  have hf := hF p hp
  unfold V_X0_wayDays
  rw [(hRl p hp).2.1, x_div10' hf.2.1]
theorem c_canBeSentOne (hK : K ≤ 6) (hD : D ≤ 100000) (hC : cF f s K a) (hW : aW K D a) (hp : p < K) : V_X0_canBeSentOne s f p = if aOpen a p then 1 else 0 := by
  have hr := hW.row hp
  have ht := c_isTold hC (hW.rg hD) hr.2.2.2.2.2.2.2.2.2.2.1 hp
  unfold V_X0_canBeSentOne
  rw [ht, hC.2.2.2.1.isIn s hK hp (by omega), (hC.2.1 p hp).1, x_wrs (a := a 0 p) (by omega) (by omega), x_wrs (a := a 5 p) (by omega) (by omega)]
  by_cases c : a 3 p = -4
  · rw [if_pos c, xw0]
    (repeat' split) <;> first | rfl | omega
  · rw [if_neg c, xw1]
    (repeat' split) <;> first | rfl | omega
theorem c_canSendNow (hK : K ≤ 6) (hD : D ≤ 100000) (hC : cF f s K a) (hW : aW K D a) (hp : p < K) : V_X0_canSendNow s f p = if aMay a p then 1 else 0 := by
  have hr := c_canBeSentOne hK hD hC hW hp
  have h2 := hW.2.1
  have h3 := hW.2.2.1
  unfold V_X0_canSendNow
  rw [hr, hC.1.2.1, hC.1.2.2.1, x_wrs (a := a 8 1) (by omega) (by omega), x_wrs (a := a 8 2) (by omega) (by omega)]
  by_cases c : aOpen a p
  · rw [if_pos c, xw1]
    unfold aMay
    (repeat' split) <;> first | rfl | omega
  · rw [if_neg c, xw0]
    unfold aMay
    (repeat' split) <;> first | rfl | omega
theorem c_endsSoft (hK : K ≤ 6) (hD : D ≤ 100000) (hC : cF f s K a) (hRl : cR (x_rof f) s K F) (hF : aF K F) (hW : aW K D a) (hp : p < K) : V_X0_endsSoft s f p = 1 ∧ aES F a p ∨ V_X0_endsSoft s f p = 0 ∧ ¬ aES F a p := by
  have hr := hW.row hp
  have hf := hF p hp
  have hd := hW.1
  have ht := c_isTold hC (hW.rg hD) hr.2.2.2.2.2.2.2.2.2.2.1 hp
  have hw := c_willRefuse hK hC hRl hF hW hp
  have e1 : x_max (s 2 f p) (s 0 f 10) = if a 1 p < a 8 0 then a 8 0 else a 1 p := by
    unfold x_max
    rw [(hC.2.1 p hp).2.1, hC.1.1, x_wrs (a := a 1 p) (by omega) (by omega), x_wrs (a := a 8 0) (by omega) (by omega)]
  have b1 : -4 ≤ (if a 1 p < a 8 0 then a 8 0 else a 1 p) ∧ (if a 1 p < a 8 0 then a 8 0 else a 1 p) ≤ 100005 := by split <;> omega
  unfold V_X0_endsSoft
  rw [ht, hw, e1, hC.2.2.1.isIn s hK hp (by omega), hC.2.2.2.1.isIn s hK hp (by omega), (hC.2.1 p hp).1, (hRl p hp).2.2.1, x_wrs (a := a 0 p) (by omega) (by omega), x_wrs (a := a 5 p) (by omega) (by omega), x_wrs (a := F 2 p) (by omega) (by omega), x_wrs (a := (if a 1 p < a 8 0 then a 8 0 else a 1 p) + 0) (by omega) (by omega), x_wrs (a := (if a 1 p < a 8 0 then a 8 0 else a 1 p) + 1) (by omega) (by omega)]
  unfold aES rES rRf
  by_cases c : a 3 p = -4
  · rw [if_pos c, xw0, if_pos rfl]
    by_cases c5 : a 5 p = 0
    · rw [if_pos c5]
      by_cases c6 : F 0 p = 3 ∧ a 6 p = 0
      · simp only [if_pos c6]
        rw [xw1]
        (repeat' split) <;> first | omega | (simp; omega)
      · simp only [if_neg c6]
        rw [xw0]
        (repeat' split) <;> first | omega | (simp; omega)
    · rw [if_neg c5]
      exact Or.inl ⟨rfl, Or.inr ⟨c, Or.inl (by show a 5 p = 1; omega)⟩⟩
  · rw [if_neg c, xw1, if_neg (by omega)]
    by_cases c4 : a 4 p = 1
    · exact Or.inl ⟨c4, Or.inl ⟨c, c4⟩⟩
    · exact Or.inr ⟨by omega, fun z => by rcases z with z | z; exact c4 z.2; exact c z.1⟩
theorem c_spareDays (hK : K ≤ 6) (hC : cF f s K a) (hRl : cR (x_rof f) s K F) (hF : aF K F) (hW : aW K D a) (hp : p < K) : V_X0_spareDays s f p = F 2 p - a 8 0 - (F 1 p / 10 + 1) - (if F 0 p = 3 ∧ a 6 p = 0 then 1 else 0) := by
  unfold V_X0_spareDays
  rw [c_willRefuse hK hC hRl hF hW hp, c_wayDays hRl hF hp, (hRl p hp).2.2.1, hC.1.1]
  by_cases c : F 0 p = 3 ∧ a 6 p = 0
  · simp only [if_pos c]
    rw [xw1, if_neg (by omega)]
  · simp only [if_neg c]
    rw [xw0, if_pos rfl]
end
