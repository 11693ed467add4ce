/-! frost on the road -/
abbrev fb (q e : Nat) : Int := if x_wr (x_and (x_shr (q : Int) (e : Int)) 1) = x_wr 1 then 1 else 0
def aFr (F : aS) (K q : Nat) : Nat → Nat → aS → aS
  | 0, _, a => a
  | k + 1, e, a => aFr F K q k (e + 1) (aP F (fb q e) K a)
def wFr (q : Nat) (x : Int) : Nat → Nat → Int → Int
  | 0, _, w => w
  | k + 1, e, w => wFr q x k (e + 1) (w * (if fb q e = 1 then x else 10 - x))
theorem fb01 (q e : Nat) : fb q e = 0 ∨ fb q e = 1 := by unfold fb; split <;> simp
theorem fbw (q e : Nat) : x_wr (fb q e) = fb q e := by rcases fb01 q e with h | h <;> rw [h] <;> decide
theorem aFr_W {F : aS} {K q : Nat} : ∀ (k e : Nat) (D : Int) (a : aS), aW K D a → aN F K a → aW K (D + k) (aFr F K q k e a) ∧ aN F K (aFr F K q k e a) := by
  intro k
  induction k with
  | zero => intro e D a h hN; exact ⟨aW_mono h (by omega), hN⟩
  | succ k ih =>
    intro e D a h hN
    have := ih (e + 1) (D + 1) _ (aP_W (b := fb q e) (F := F) h) (aN_P h)
    exact ⟨aW_mono this.1 (by omega), this.2⟩
theorem cF_Fr {K p n q : Nat} {F : aS} (hK : K ≤ 6) (hF : aF K F) : ∀ (k e : Nat) (s : xMi) (a : aS) (D : Int), D + k ≤ 100000 → cF 1 s K a → cR 0 s K F → aW K D a → ∃ s', cF 1 s' K (aFr F K q k e a) ∧ cR 0 s' K F ∧ RV_X6_softWithFrosts_14 p n (q : Int) K k e s = V_X0_endsSoft s' 1 p := by
  intro k
  induction k with
  | zero => intro e s a D _ hC hR _; exact ⟨s, hC, hR, rfl⟩
  | succ k ih =>
    intro e s a D hD hC hR hW
    have h1 := cF_passDay (f := 1) (b := fb q e) hK (fbw q e) (by omega) hF hC hR hW
    obtain ⟨s', i1, i2, i3⟩ := ih (e + 1) (S_X0_passDay s 1 (fb q e) K) _ (D + 1) (by omega) h1 (hR.same (fun t h1 h2 j => fr_S_X0_passDay s 1 _ K (by omega))) (aP_W hW)
    refine ⟨s', i1, i2, ?_⟩
    have e1 : RV_X6_softWithFrosts_14 p n (q : Int) K (k + 1) e s = (if x_wr (x_and (x_shr (q : Int) (e : Int)) 1) = x_wr 1 then RV_X6_softWithFrosts_14 p n (q : Int) K k (e + 1) (S_X0_passDay s 1 1 K) else RV_X6_softWithFrosts_14 p n (q : Int) K k (e + 1) (S_X0_passDay s 1 0 K)) := rfl
    rw [← i3, e1]
    unfold fb
    by_cases c : x_wr (x_and (x_shr (q : Int) (e : Int)) 1) = x_wr 1
    · rw [if_pos c, if_pos c]
    · rw [if_neg c, if_neg c]
theorem rA_Fr {K q : Nat} {p1 n1 x1 t1 sm wh : Int} {F : aS} (hK : K ≤ 6) (hF : aF K F) (hx : 0 ≤ x1 ∧ x1 ≤ 10) : ∀ (k e : Nat) (m : xMi) (wt D : Int), D + k ≤ 100000 → rF m = F → aW K D (rA m) → rA (IS_X7_likely_90 p1 n1 x1 t1 K sm wh q k e m wt) = aFr F K q k e (rA m) ∧ sG m (IS_X7_likely_90 p1 n1 x1 t1 K sm wh q k e m wt) ∧ IA_X7_likely_90_wt p1 n1 x1 t1 K sm wh q k e m wt = wFr q x1 k e wt := by
  intro k
  induction k with
  | zero => intro e m wt D _ _ _; exact ⟨rfl, sG.rf m, rfl⟩
  | succ k ih =>
    intro e m wt D hD hFm hW
    have eh : V_X7_has m (q : Int) (e : Int) = fb q e := rfl
    have hP := rA_passes (m := m) (b := fb q e) (D := D) hK (fbw q e) (by omega) (by rw [hFm]; exact hF) hW
    rw [hFm] at hP
    have hFs : rF (S_X7_passes m (fb q e) K) = F := (sM_passes m _ K).F.trans hFm
    have e0 := x_wrs (a := x1) (by omega) (by omega)
    have e1 := x_wrs (a := 10 - x1) (by omega) (by omega)
    have ih' := ih (e + 1) (S_X7_passes m (fb q e) K) (wt * (if fb q e = 1 then x1 else 10 - x1)) (D + 1) (by omega) hFs (by rw [hP.1]; exact aP_W hW)
    rw [hP.1] at ih'
    unfold IS_X7_likely_90 IA_X7_likely_90_wt aFr wFr
    rw [eh, fbw, e0, e1]
    refine ⟨?_, (sG_passes m (fb q e) K).tr ?_, ?_⟩
    · rcases fb01 q e with y | y
      · rw [y] at ih' ⊢; rw [if_pos rfl]; exact ih'.1
      · rw [y] at ih' ⊢; rw [if_neg (by decide)]; exact ih'.1
    · rcases fb01 q e with y | y
      · rw [y] at ih' ⊢; rw [if_pos rfl]; exact ih'.2.1
      · rw [y] at ih' ⊢; rw [if_neg (by decide)]; exact ih'.2.1
    · rcases fb01 q e with y | y
      · rw [y] at ih' ⊢; rw [if_pos rfl]; exact ih'.2.2
      · rw [y] at ih' ⊢; rw [if_neg (by decide)]; exact ih'.2.2
theorem wFr_cls {q n : Nat} {x1 : Int} (s : xMi) : ∀ (k e : Nat) (w : Int), RV_X6_weightOfFrosts_5 n (q : Int) x1 k e s w = wFr q x1 k e w := by
  intro k
  induction k with
  | zero => intro e w; rfl
  | succ k ih =>
    intro e w
    unfold RV_X6_weightOfFrosts_5 wFr
    rw [ih, ih]
    unfold fb
    by_cases c : x_wr (x_and (x_shr (q : Int) (e : Int)) 1) = x_wr 1
    · rw [if_pos c, if_pos c, if_pos rfl]
    · rw [if_neg c, if_neg c, if_neg (by decide)]
theorem wFr_mul (q : Nat) (x : Int) : ∀ (k e : Nat) (w : Int), wFr q x k e w = w * wFr q x k e 1 := by
  intro k
  induction k with
  | zero => intro e w; unfold wFr; omega
  | succ k ih =>
    intro e w
    unfold wFr
    rw [ih (e + 1) (w * _), ih (e + 1) (1 * _), Int.one_mul, Int.mul_assoc]
theorem wFr_in {q : Nat} {x : Int} (hx : 0 ≤ x ∧ x ≤ 10) : ∀ (k e : Nat), 0 ≤ wFr q x k e 1 ∧ wFr q x k e 1 ≤ ((10 ^ k : Nat) : Int) := by
  intro k
  induction k with
  | zero => intro e; unfold wFr; simp
  | succ k ih =>
    intro e
    unfold wFr
    rw [wFr_mul, Int.one_mul]
    have h := ih (e + 1)
    have hy : ∀ y : Int, 0 ≤ y → y ≤ 10 → 0 ≤ y * wFr q x k (e + 1) 1 ∧ y * wFr q x k (e + 1) 1 ≤ ((10 ^ (k + 1) : Nat) : Int) := by
      intro y h0 h1
      refine ⟨Int.mul_nonneg h0 h.1, ?_⟩
      have := Int.mul_le_mul h1 h.2 h.1 (by omega : (0 : Int) ≤ 10)
      rw [Nat.pow_succ]
      omega
    split
    · exact hy _ (by omega) (by omega)
    · exact hy _ (by omega) (by omega)
/-! the greatest divisor, by few steps and by many -/
theorem gd_cls (σ : xMi) (a1 b1 : Int) : ∀ (j k e a b : Nat), b < 2 ^ j → 2 * j ≤ k → a < 2147483648 → b < 2147483648 → RV_X6_greatestDivisor_7 a1 b1 k e σ (a : Int) (b : Int) = ((Nat.gcd a b : Nat) : Int) := by
  intro j
  induction j with
  | zero =>
    intro k e a b hb hk ha hb2
    have : b = 0 := by simpa using hb
    subst this
    rw [Nat.gcd_zero_right]
    match k with
    | 0 => rfl
    | k + 1 => unfold RV_X6_greatestDivisor_7; rw [if_pos (by decide)]
  | succ j ih =>
    intro k e a b hb hk ha hb2
    match k, hk with
    | k + 2, hk =>
      have e1 : RV_X6_greatestDivisor_7 a1 b1 (k + 2) e σ (a : Int) (b : Int) = if x_wr (b : Int) = 0 then (a : Int) else RV_X6_greatestDivisor_7 a1 b1 (k + 1) (e + 1) σ (b : Int) (x_rem (a : Int) (b : Int)) := rfl
      rw [e1, x_nat hb2]
      by_cases c : b = 0
      · subst c
        rw [if_pos (by simp), Nat.gcd_zero_right]
      · rw [if_neg (by omega), x_remN ha (by omega) hb2]
        have hr : a % b < b := Nat.mod_lt _ (by omega)
        have e2 : RV_X6_greatestDivisor_7 a1 b1 (k + 1) (e + 1) σ (b : Int) ((a % b : Nat) : Int) = if x_wr ((a % b : Nat) : Int) = 0 then (b : Int) else RV_X6_greatestDivisor_7 a1 b1 k (e + 1 + 1) σ ((a % b : Nat) : Int) (x_rem (b : Int) ((a % b : Nat) : Int)) := rfl
        rw [e2, x_nat (by omega)]
        have hg : Nat.gcd a b = Nat.gcd b (a % b) := by rw [Nat.gcd_comm a b, Nat.gcd_rec b a, Nat.gcd_comm]
        by_cases c2 : a % b = 0
        · rw [if_pos (by omega), hg, c2, Nat.gcd_zero_right]
        · rw [if_neg (by omega), x_remN hb2 (by omega) (by omega)]
          have hr2 : b % (a % b) < a % b := Nat.mod_lt _ (by omega)
          have hsm : b % (a % b) < 2 ^ j := by
            have hp : 2 ^ (j + 1) = 2 * 2 ^ j := by rw [Nat.pow_succ]; omega
            by_cases d : 2 * (a % b) ≤ b
            · omega
            · have : b % (a % b) = b - a % b := by rw [Nat.mod_eq_sub_mod (by omega), Nat.mod_eq_of_lt (by omega)]
              omega
          rw [ih k (e + 1 + 1) (a % b) (b % (a % b)) hsm (by omega) (by omega) (by omega), hg]
          congr 1
          rw [Nat.gcd_comm b (a % b), Nat.gcd_rec (a % b) b, Nat.gcd_comm]
theorem gd_ref (σ : xMi) (a1 b1 : Int) : ∀ (k a b : Nat), b ≤ k → a < 2 ^ 40 → b < 2 ^ 40 → RV_X7_common_6 a1 b1 k σ (a : Int) (b : Int) = ((Nat.gcd a b : Nat) : Int) := by
  intro k
  induction k with
  | zero =>
    intro a b hb _ _
    have : b = 0 := by omega
    subst this
    rw [Nat.gcd_zero_right]; rfl
  | succ k ih =>
    intro a b hb ha hb2
    unfold RV_X7_common_6
    by_cases c : b = 0
    · rw [if_pos ((l_cmpJ0 (by omega)).mpr c), c, Nat.gcd_zero_right]
    · rw [if_neg (fun z => c ((l_cmpJ0 (by omega)).mp z)), x_remJN (by omega) (by omega) (by omega)]
      have hr : a % b < b := Nat.mod_lt _ (by omega)
      rw [ih b (a % b) (by omega) hb2 (by omega)]
      congr 1
      rw [Nat.gcd_comm a b, Nat.gcd_rec b a, Nat.gcd_comm]

theorem likely_loop {K : Nat} {p1 n1 x1 t1 : Int} {F : aS} {a : aS} {b2 : Nat} (ht : x_wr t1 = t1) (hK : K ≤ 6) (hF : aF K F) (hp : p1.toNat < K) (hn : 0 ≤ n1 ∧ n1 ≤ 7) (hx : 0 ≤ x1 ∧ x1 ≤ 10) (hW : aW K 999 a) (hN : aN F K a) (hb : b2 = 10 ^ n1.toNat) : ∀ (k q : Nat) (s m : xMi) (c : Nat), c ≤ q * 10000000 → q + k ≤ 128 → cF 0 s K a → cR 0 s K F → rA m = a → rF m = F →
    RV_X6_likely_72 p1 n1 x1 t1 K k q s (c : Int) (b2 : Int) = RV_X7_likely_72 p1 n1 x1 t1 K k q m (c : Int) (b2 : Int) ∧ bk m (RS_X7_likely_72 p1 n1 x1 t1 K k q m (c : Int) (b2 : Int)) := by
  have hb7 : b2 ≤ 10000000 ∧ 0 < b2 := by
    rw [hb]
    have : n1.toNat ≤ 7 := by omega
    rcases (by omega : n1.toNat = 0 ∨ n1.toNat = 1 ∨ n1.toNat = 2 ∨ n1.toNat = 3 ∨ n1.toNat = 4 ∨ n1.toNat = 5 ∨ n1.toNat = 6 ∨ n1.toNat = 7) with e | e | e | e | e | e | e | e <;> rw [e] <;> decide
  intro k
  induction k with
  | zero =>
    intro q s m c hc hq hC hR hA hFm
    have hc2 : c < 2147483648 := by omega
    have h24 : b2 < 2 ^ 24 := Nat.lt_of_le_of_lt hb7.1 (by decide)
    have e1 : V_X6_greatestDivisor s (c : Int) (b2 : Int) = ((Nat.gcd c b2 : Nat) : Int) := gd_cls s _ _ 24 64 0 c b2 h24 (by omega) hc2 (by omega)
    have e2 : V_X7_common m (c : Int) (b2 : Int) = ((Nat.gcd c b2 : Nat) : Int) := gd_ref m _ _ _ c b2 (by omega) (by omega) (by omega)
    have g0 : 0 < Nat.gcd c b2 := Nat.gcd_pos_of_pos_right _ hb7.2
    have g1 : Nat.gcd c b2 ≤ b2 := Nat.le_of_dvd hb7.2 (Nat.gcd_dvd_right c b2)
    have d1 : x_div (c : Int) ((Nat.gcd c b2 : Nat) : Int) = x_divJ (c : Int) ((Nat.gcd c b2 : Nat) : Int) := by
      rw [x_divJN (by omega) g0 (by omega)]
      unfold x_div
      rw [x_ofk, x_ofk, pk_div (by omega) g0 (by omega), nI_toInt (Nat.lt_of_le_of_lt (Nat.div_le_self _ _) hc2)]
    have d2 : x_div (b2 : Int) ((Nat.gcd c b2 : Nat) : Int) = x_divJ (b2 : Int) ((Nat.gcd c b2 : Nat) : Int) := by
      rw [x_divJN (by omega) g0 (by omega)]
      unfold x_div
      rw [x_ofk, x_ofk, pk_div (by omega) g0 (by omega), nI_toInt (Nat.lt_of_le_of_lt (Nat.div_le_self _ _) (by omega))]
    unfold RV_X6_likely_72 RV_X7_likely_72 RS_X7_likely_72
    rw [e1, e2, x_nat (by omega : Nat.gcd c b2 < 2147483648), if_pos (by omega), d1, d2]
    exact ⟨rfl, by split <;> exact bk.rf m⟩
  | succ k ih =>
    intro q s m c hc hq hC hR hA hFm
    have hCa : cF 1 (S_X0_copyFrom s 1 0) K a := cF_copyFrom hK (by omega) hC
    have hRa : cR 0 (S_X0_copyFrom s 1 0) K F := hR.same (fun t h1 h2 j => fr_S_X0_copyFrom s 1 0 (by omega))
    obtain ⟨s', c1, c2, c3⟩ := cF_Fr (p := p1.toNat) (n := n1.toNat) (q := q) hK hF n1.toNat 0 (S_X0_copyFrom s 1 0) a 999 (by omega) hCa hRa hW
    have hWN := aFr_W (F := F) (K := K) (q := q) n1.toNat 0 999 a hW hN
    have cE := c_endsSoft (F := F) (D := 999 + n1.toNat) hK (by omega) c1 c2 hF hWN.1 hp
    have hS := st_A m
    obtain ⟨r1, r2, r3⟩ := rA_Fr (p1 := p1) (n1 := n1) (t1 := t1) (sm := (c : Int)) (wh := (b2 : Int)) (q := q) hK hF hx n1.toNat 0 (S_X7_start m) 1 999 (by omega) (hS.2.trans hFm) (by rw [hS.1, hA]; exact hW)
    rw [hS.1, hA] at r1
    have hG := rA_goesOn (m := IS_X7_likely_90 p1 n1 x1 t1 K (c : Int) (b2 : Int) q n1.toNat 0 (S_X7_start m) 1) (n := 60 - n1.toNat) (D := 999 + n1.toNat) hK (by omega) (by rw [r2.M.F, hS.2, hFm]; exact hF) (by rw [r1]; exact hWN.1)
    rw [r2.M.F, hS.2, hFm, r1] at hG
    have sg := r2.tr (sG_goesOn (IS_X7_likely_90 p1 n1 x1 t1 K (c : Int) (b2 : Int) q n1.toNat 0 (S_X7_start m) 1) (60 - n1.toNat) K)
    have hSo := aSoft (n := 60 - n1.toNat) hF hWN.1 hWN.2 hp (by omega)
    have hWe := aPs_W (F := F) (K := K) (60 - n1.toNat) _ _ hWN.1
    have hre := hWe.row hp
    have i4 : S_X7_goesOn (IS_X7_likely_90 p1 n1 x1 t1 K (c : Int) (b2 : Int) q n1.toNat 0 (S_X7_start m) 1) (60 - n1.toNat) K 33 0 p1.toNat = aPs F K (60 - n1.toNat) (aFr F K q n1.toNat 0 a) 4 p1.toNat := by
      rw [← hG.1]; exact (rA_at _ (j := 4) (by omega) (by omega)).symm
    have hbk := bk.of sg
    have sw : V_X6_softWithFrosts s p1.toNat n1.toNat (q : Int) K = V_X0_endsSoft s' 1 p1.toNat := c3
    have fS : cF 0 (S_X6_softWithFrosts s p1.toNat n1.toNat (q : Int) K) K a := hC.same (fun t ht j => fr_S_X6_softWithFrosts _ _ _ _ _ (by omega))
    have fR : cR 0 (S_X6_softWithFrosts s p1.toNat n1.toNat (q : Int) K) K F := hR.same (fun t h1 h2 j => fr_S_X6_softWithFrosts _ _ _ _ _ (by omega))
    have hwt : V_X6_weightOfFrosts (S_X6_softWithFrosts s p1.toNat n1.toNat (q : Int) K) n1.toNat (q : Int) x1 = wFr q x1 n1.toNat 0 1 := wFr_cls _ _ _ _
    have hwi := wFr_in (q := q) hx n1.toNat 0
    rw [← hb] at hwi
    unfold RV_X6_likely_72 RV_X7_likely_72 RS_X7_likely_72
    rw [sw, hwt, r3, i4, x_wrs (a := aPs F K (60 - n1.toNat) (aFr F K q n1.toNat 0 a) 4 p1.toNat) (by omega) (by omega), xw1]
    have hmA := hbk.1.1.trans hA
    have hmF := hbk.1.2.1.trans hFm
    rcases cE with ⟨y1, y2⟩ | ⟨y1, y2⟩
    · rw [y1, xw1, if_neg (by decide), if_pos (hSo.mpr y2), if_pos (hSo.mpr y2)]
      obtain ⟨wn, hwn⟩ : ∃ wn : Nat, wFr q x1 n1.toNat 0 1 = (wn : Int) := ⟨(wFr q x1 n1.toNat 0 1).toNat, by omega⟩
      rw [hwn, (by omega : (c : Int) + (wn : Int) = ((c + wn : Nat) : Int))]
      have ih' := ih (q + 1) _ _ (c + wn) (by omega) (by omega) fS fR hmA hmF
      exact ⟨ih'.1, hbk.tr ih'.2⟩
    · rw [y1, xw0, if_pos rfl, if_neg (fun z => y2 (hSo.mp z)), if_neg (fun z => y2 (hSo.mp z)), Int.add_zero]
      have hc3 : c ≤ (q + 1) * 10000000 := Nat.le_trans hc (Nat.mul_le_mul_right _ (Nat.le_succ q))
      have ih' := ih (q + 1) _ _ c hc3 (by clear hS hG hWe hre i4 sw hwt hwi r1 r2 r3 hSo hWN y1 y2; omega) fS fR hmA hmF
      exact ⟨ih'.1, hbk.tr ih'.2⟩
theorem likely_s {K : Nat} {p1 n1 x1 t1 : Int} : ∀ (k q : Nat) (s : xMi) (c b2 : Int), sC s (RS_X6_likely_72 p1 n1 x1 t1 K k q s c b2) ∧ eM s (RS_X6_likely_72 p1 n1 x1 t1 K k q s c b2) := by
  intro k
  induction k with
  | zero =>
    intro q s c b2
    have e0 : RS_X6_likely_72 p1 n1 x1 t1 K 0 q s c b2 = s := by unfold RS_X6_likely_72; (repeat' split) <;> rfl
    rw [e0]; exact ⟨sC.rf s, fun _ _ _ _ => rfl⟩
  | succ k ih =>
    intro q s c b2
    have h1 : sC s (S_X6_softWithFrosts s (p1.toNat) (n1.toNat) (q : Int) K) := fun t i k a b c d e f g => fr_S_X6_softWithFrosts _ _ _ _ _ (by omega)
    have h2 : eM s (S_X6_softWithFrosts s (p1.toNat) (n1.toNat) (q : Int) K) := fun t i k ht => fr_S_X6_softWithFrosts _ _ _ _ _ (by omega)
    unfold RS_X6_likely_72
    split
    · have h := ih (q + 1) (S_X6_softWithFrosts s (p1.toNat) (n1.toNat) (q : Int) K) c b2
      exact ⟨h1.tr h.1, h2.tr h.2⟩
    · have h := ih (q + 1) (S_X6_softWithFrosts s (p1.toNat) (n1.toNat) (q : Int) K) (c + (V_X6_weightOfFrosts (S_X6_softWithFrosts s (p1.toNat) (n1.toNat) (q : Int) K) (n1.toNat) (q : Int) x1)) b2
      exact ⟨h1.tr h.1, h2.tr h.2⟩
theorem likely_50 {K : Nat} {p1 n1 x1 t1 : Int} : ∀ (k e : Nat) (s : xMi) (c : Int) (b2 : Nat), RV_X6_likely_50 p1 n1 x1 t1 K k e s c (b2 : Int) = RV_X6_likely_72 p1 n1 x1 t1 K (2 ^ n1.toNat) 0 s c ((b2 * 10 ^ k : Nat) : Int) ∧ RS_X6_likely_50 p1 n1 x1 t1 K k e s c (b2 : Int) = RS_X6_likely_72 p1 n1 x1 t1 K (2 ^ n1.toNat) 0 s c ((b2 * 10 ^ k : Nat) : Int) ∧ RV_X7_likely_49 p1 n1 x1 t1 K k e s c (b2 : Int) = RV_X7_likely_72 p1 n1 x1 t1 K (2 ^ n1.toNat) 0 s c ((b2 * 10 ^ k : Nat) : Int) ∧ RS_X7_likely_49 p1 n1 x1 t1 K k e s c (b2 : Int) = RS_X7_likely_72 p1 n1 x1 t1 K (2 ^ n1.toNat) 0 s c ((b2 * 10 ^ k : Nat) : Int) := by
  intro k
  induction k with
  | zero =>
    intro e s c b2
    rw [Nat.pow_zero, Nat.mul_one]
    exact ⟨rfl, rfl, rfl, rfl⟩
  | succ k ih =>
    intro e s c b2
    unfold RV_X6_likely_50 RS_X6_likely_50 RV_X7_likely_49 RS_X7_likely_49
    have e1 : (b2 : Int) * 10 = ((b2 * 10 : Nat) : Int) := by omega
    have e2 : b2 * 10 * 10 ^ k = b2 * 10 ^ (k + 1) := by rw [Nat.pow_succ, Nat.mul_assoc, Nat.mul_comm 10]
    rw [e1, ← e2]
    exact ih (e + 1) s c (b2 * 10)
theorem m_likely {K u τ v τ1 z w : Nat} {σ : xMi} (h : Rl K u τ v τ1 z w σ σ) {p1 n1 x1 t1 : Int} (hw : x_wr p1 = p1) (hwn : x_wr n1 = n1) (hwx : x_wr x1 = x1) (hwt : x_wr t1 = t1) : V_X6_likely σ p1 n1 x1 t1 K = V_X7_likely (S_X6_likely σ p1 n1 x1 t1 K) p1 n1 x1 t1 K ∧ RR (S_X7_likely (S_X6_likely σ p1 n1 x1 t1 K) p1 n1 x1 t1 K) := by
  obtain ⟨hk, hg0, hU, hV, hZ, hT, hO⟩ := id h
  have hK := hk.2.1
  have ep := v_isPerson (σ := σ) hw hK hk.2.2.1
  by_cases c : (0 ≤ p1 ∧ p1 < K) ∧ (0 ≤ n1 ∧ n1 ≤ 7) ∧ (0 ≤ x1 ∧ x1 ≤ 10) ∧ (0 ≤ t1 ∧ t1 ≤ 1)
  · obtain ⟨cp, ca, cb, cc⟩ := c
    have np : ¬ x_wr (V_X6_isPerson σ p1) = 0 := by rw [ep]; exact fun z => i01.mp z cp
    have a0 : ¬ n1 < 0 := by omega
    have a1 : ¬ 7 < n1 := by omega
    have a2 : ¬ x1 < 0 := by omega
    have a3 : ¬ 10 < x1 := by omega
    have a4 : ¬ t1 < 0 := by omega
    have l5 := likely_50 (K := K) (p1 := p1) (n1 := n1) (x1 := x1) (t1 := t1) n1.toNat 0 σ 0 1
    rw [Nat.one_mul] at l5
    have eS : S_X6_likely σ p1 n1 x1 t1 K = RS_X6_likely_72 p1 n1 x1 t1 K (2 ^ n1.toNat) 0 σ 0 ((10 ^ n1.toNat : Nat) : Int) := by
      unfold S_X6_likely
      rw [hwn, hwx, hwt, xw7, xw10, xw1, if_neg np, if_neg a0, if_neg a1, if_neg a2, if_neg a3, if_neg a4, if_pos cc.2]
      exact l5.2.1
    have eV : V_X6_likely σ p1 n1 x1 t1 K = RV_X6_likely_72 p1 n1 x1 t1 K (2 ^ n1.toNat) 0 σ 0 ((10 ^ n1.toNat : Nat) : Int) := by
      unfold V_X6_likely
      rw [hwn, hwx, hwt, xw7, xw10, xw1, if_neg np, if_neg a0, if_neg a1, if_neg a2, if_neg a3, if_neg a4, if_pos cc.2]
      exact l5.1
    rw [eS, eV]
    have hs := likely_s (K := K) (p1 := p1) (n1 := n1) (x1 := x1) (t1 := t1) (2 ^ n1.toNat) 0 σ 0 ((10 ^ n1.toNat : Nat) : Int)
    have hM := hs.2
    have hCC := hs.1
    generalize RS_X6_likely_72 p1 n1 x1 t1 K (2 ^ n1.toNat) 0 σ 0 ((10 ^ n1.toNat : Nat) : Int) = S at *
    have b0 : ¬ x_wr (V_X7_isOne S p1) = 0 := by rw [v_isOne hw hK (by rw [hM _ _ _ (by omega)]; exact hk.2.2.2.1)]; exact fun z => i01.mp z cp
    have b1 : ¬ x_wr (V_X7_in S n1 0 7) = 0 := by rw [v_in hwn (by omega) (by omega)]; exact fun z => i01.mp z ca
    have b2 : ¬ x_wr (V_X7_in S x1 0 10) = 0 := by rw [v_in hwx (by omega) (by omega)]; exact fun z => i01.mp z cb
    have b3 : ¬ x_wr (V_X7_in S t1 0 1) = 0 := by rw [v_in hwt (by omega) (by omega)]; exact fun z => i01.mp z cc
    have l7 := likely_50 (K := K) (p1 := p1) (n1 := n1) (x1 := x1) (t1 := t1) n1.toNat 0 S 0 1
    rw [Nat.one_mul] at l7
    have e7 : V_X7_likely S p1 n1 x1 t1 K = RV_X7_likely_72 p1 n1 x1 t1 K (2 ^ n1.toNat) 0 S 0 ((10 ^ n1.toNat : Nat) : Int) := by
      unfold V_X7_likely
      rw [if_neg b0, if_neg b1, if_neg b2, if_neg b3]
      exact l7.2.2.1
    have e8 : S_X7_likely S p1 n1 x1 t1 K = RS_X7_likely_72 p1 n1 x1 t1 K (2 ^ n1.toNat) 0 S 0 ((10 ^ n1.toNat : Nat) : Int) := by
      unfold S_X7_likely
      rw [if_neg b0, if_neg b1, if_neg b2, if_neg b3]
      exact l7.2.2.2
    rw [e7, e8]
    have h128 : 2 ^ n1.toNat ≤ 128 := by
      rcases (by omega : n1.toNat = 0 ∨ n1.toNat = 1 ∨ n1.toNat = 2 ∨ n1.toNat = 3 ∨ n1.toNat = 4 ∨ n1.toNat = 5 ∨ n1.toNat = 6 ∨ n1.toNat = 7) with e | e | e | e | e | e | e | e <;> rw [e] <;> decide
    have hl := likely_loop (p1 := p1) (n1 := n1) (x1 := x1) (F := rF σ) (a := rA σ) (b2 := 10 ^ n1.toNat) hwt hK hk.2.2.2.2.2 (by omega) ca cb hg0.2.1 hg0.2.2 rfl (2 ^ n1.toNat) 0 σ S 0 (by omega) (by omega) hg0.1 hk.2.2.2.2.1 hM.R.1 hM.R.2.1
    exact ⟨hl.1, h.bk hM hCC hl.2⟩
  · have e6 : V_X6_likely σ p1 n1 x1 t1 K = -1 ∧ S_X6_likely σ p1 n1 x1 t1 K = σ := by
      unfold V_X6_likely S_X6_likely
      rw [ep, hwn, hwx, hwt, xw7, xw10, xw1]
      by_cases cp : 0 ≤ p1 ∧ p1 < K
      · have np : ¬ x_wr (if 0 ≤ p1 ∧ p1 < (K : Int) then 1 else 0) = 0 := fun z => i01.mp z cp
        rw [if_neg np, if_neg np]
        by_cases c0 : n1 < 0
        · rw [if_pos c0, if_pos c0]; exact ⟨rfl, rfl⟩
        · by_cases c1 : 7 < n1
          · rw [if_neg c0, if_pos c1, if_neg c0, if_pos c1]; exact ⟨rfl, rfl⟩
          · by_cases c2 : x1 < 0
            · rw [if_neg c0, if_neg c1, if_pos c2, if_neg c0, if_neg c1, if_pos c2]; exact ⟨rfl, rfl⟩
            · by_cases c3 : 10 < x1
              · rw [if_neg c0, if_neg c1, if_neg c2, if_pos c3, if_neg c0, if_neg c1, if_neg c2, if_pos c3]; exact ⟨rfl, rfl⟩
              · by_cases c4 : t1 < 0
                · rw [if_neg c0, if_neg c1, if_neg c2, if_neg c3, if_pos c4, if_neg c0, if_neg c1, if_neg c2, if_neg c3, if_pos c4]; exact ⟨rfl, rfl⟩
                · have c5 : ¬ t1 ≤ 1 := fun z => c ⟨cp, by omega, by omega, by omega⟩
                  rw [if_neg c0, if_neg c1, if_neg c2, if_neg c3, if_neg c4, if_neg c5, if_neg c0, if_neg c1, if_neg c2, if_neg c3, if_neg c4, if_neg c5]; exact ⟨rfl, rfl⟩
      · have np : x_wr (if 0 ≤ p1 ∧ p1 < (K : Int) then 1 else 0) = 0 := i01.mpr cp
        rw [if_pos np, if_pos np]; exact ⟨rfl, rfl⟩
    have e7 : V_X7_likely σ p1 n1 x1 t1 K = -1 ∧ S_X7_likely σ p1 n1 x1 t1 K = σ := by
      unfold V_X7_likely S_X7_likely
      rw [v_isOne hw hK hk.2.2.2.1, v_in hwn (by omega) (by omega), v_in hwx (by omega) (by omega), v_in hwt (by omega) (by omega)]
      by_cases cp : 0 ≤ p1 ∧ p1 < K
      · have np : ¬ x_wr (if 0 ≤ p1 ∧ p1 < (K : Int) then 1 else 0) = 0 := fun z => i01.mp z cp
        rw [if_neg np, if_neg np]
        by_cases ca : 0 ≤ n1 ∧ n1 ≤ 7
        · have m1 : ¬ x_wr (if 0 ≤ n1 ∧ n1 ≤ 7 then 1 else 0) = 0 := fun z => i01.mp z ca
          rw [if_neg m1, if_neg m1]
          by_cases cb : 0 ≤ x1 ∧ x1 ≤ 10
          · have m2 : ¬ x_wr (if 0 ≤ x1 ∧ x1 ≤ 10 then 1 else 0) = 0 := fun z => i01.mp z cb
            have m3 : x_wr (if 0 ≤ t1 ∧ t1 ≤ 1 then 1 else 0) = 0 := i01.mpr (fun z => c ⟨cp, ca, cb, z⟩)
            rw [if_neg m2, if_neg m2, if_pos m3, if_pos m3]; exact ⟨rfl, rfl⟩
          · have m2 : x_wr (if 0 ≤ x1 ∧ x1 ≤ 10 then 1 else 0) = 0 := i01.mpr cb
            rw [if_pos m2, if_pos m2]; exact ⟨rfl, rfl⟩
        · have m1 : x_wr (if 0 ≤ n1 ∧ n1 ≤ 7 then 1 else 0) = 0 := i01.mpr ca
          rw [if_pos m1, if_pos m1]; exact ⟨rfl, rfl⟩
      · have np : x_wr (if 0 ≤ p1 ∧ p1 < (K : Int) then 1 else 0) = 0 := i01.mpr cp
        rw [if_pos np, if_pos np]; exact ⟨rfl, rfl⟩
    rw [e6.1, e6.2, e7.1, e7.2]
    exact ⟨rfl, _, _, _, _, _, _, _, h⟩
