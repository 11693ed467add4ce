theorem x_min_le {a b : Int} (h1 : -1000000 ≤ a ∧ a ≤ 1000000) (h2 : -1000000 ≤ b ∧ b ≤ 1000000) : x_min a b = if b < a then b else a := by
  unfold x_min
  rw [x_wrs h1.1 h1.2, x_wrs h2.1 h2.2]
theorem x_bn01 {v : Int} (h : v = 0 ∨ v = 1) : x_bn v = v := by
  rcases h with rfl | rfl <;> rfl
section
variable {f : Nat} {s : xMi} {K : Nat} {a F : aS} {D : Int} {p : Nat}
theorem cF_dispatch (hC : cF f s K a) (hRl : cR (x_rof f) s K F) (hF : aF K F) (hp : p < K) : cF f (S_X0_dispatch s f p) K (aSend F a p) := by
  obtain ⟨⟨g0, g1, g2, g3⟩, hr, hs, hh, hf⟩ := hC
  have hw : V_X0_wayDays (x_up (x_up (x_up s 0 f 9 ((s 0 f 9) - 1)) 0 f 11 1) 1 f p 1) f p = F 1 p / 10 + 1 := c_wayDays (hRl.same (fun t h1 h2 k => by simp (disch := omega) only [x_up_o])) hF hp
  have e : S_X0_dispatch s f p = x_up (x_up (x_up (x_up s 0 f 9 ((s 0 f 9) - 1)) 0 f 11 1) 1 f p 1) 2 f p (a 8 0 + (F 1 p / 10 + 1)) := by
    unfold S_X0_dispatch
    rw [hw]
    simp (disch := omega) only [x_up_o, x_up_k, g0]
  rw [e]
  refine ⟨⟨?_, ?_, ?_, ?_⟩, fun q hq => ?_, ?_, ?_, ?_⟩
  · simp [x_up, aSend, aOut, g0]
  · simp [x_up, aSend, g1]
  · simp [x_up, aSend, x_bn]
  · simp [x_up, aSend, aOut, g3]
  · obtain ⟨r0, r1, r2, r3⟩ := hr q hq
    by_cases c : q = p
    · subst c
      simp [x_up, aSend, aOut, rOut, r0, r1, r2, r3]
      omega
    · simp [x_up, aSend, aOut, rOut, r0, r1, r2, r3, c]
  · refine (show bB _ K (a 4) from by simpa [x_up] using hs).cong (fun q hq => ?_)
    by_cases c : q = p
    · subst c; simp [aSend, aOut, rOut]
    · simp [aSend, aOut, c]
  · refine (show bB _ K (a 5) from by simpa [x_up] using hh).cong (fun q hq => ?_)
    by_cases c : q = p
    · subst c; simp [aSend, aOut, rOut]
    · simp [aSend, aOut, c]
  · refine (show bB _ K (a 6) from by simpa [x_up] using hf).cong (fun q hq => ?_)
    by_cases c : q = p
    · subst c; simp [aSend, aOut, rOut]
    · simp [aSend, aOut, c]
theorem cF_recall (hK : K ≤ 6) (hC : cF f s K a) (hW : aW K D a) (hp : p < K) : cF f (S_X0_recall s f p) K (aCall a p) := by
  have hrow := hW.row hp
  have hst := hW.2.1
  obtain ⟨⟨g0, g1, g2, g3⟩, hr, hs, hh, hf⟩ := hC
  have e : S_X0_recall s f p = x_up (x_up (x_up (x_up s 0 f 9 (if a 8 1 + a 0 p < 20 then a 8 1 + a 0 p else 20)) 1 f p 0) 2 f p (-4)) 0 f 7 (x_and (s 0 f 7) (x_xor (x_shl 1 (p : Int)) (-1))) := by
    unfold S_X0_recall
    rw [g1, (hr p hp).1, x_min_le (by omega) (by omega)]
    simp (disch := omega) only [x_up_o, x_up_k]
  rw [e]
  refine ⟨⟨?_, ?_, ?_, ?_⟩, fun q hq => ?_, ?_, ?_, ?_⟩
  · simp [x_up, aCall, g0]
  · simp [x_up, aCall]
  · simp [x_up, aCall, g2]
  · simp [x_up, aCall, g3]
  · obtain ⟨r0, r1, r2, r3⟩ := hr q hq
    by_cases c : q = p
    · subst c
      simp [x_up, aCall, rCall, r0, r1, r2, r3]
    · simp [x_up, aCall, rCall, r0, r1, r2, r3, c]
  · refine (show bB _ K (a 4) from by simpa [x_up] using hs).cong (fun q hq => ?_)
    by_cases c : q = p
    · subst c; simp [aCall, rCall]
    · simp [aCall, c]
  · refine (show bB _ K (a 5) from by simpa [x_up] using hh).cong (fun q hq => ?_)
    by_cases c : q = p
    · subst c; simp [aCall, rCall]
    · simp [aCall, c]
  · have e2 : x_up (x_up (x_up (x_up s 0 f 9 (if a 8 1 + a 0 p < 20 then a 8 1 + a 0 p else 20)) 1 f p 0) 2 f p (-4)) 0 f 7 (x_and (s 0 f 7) (x_xor (x_shl 1 (p : Int)) (-1))) 0 f 7 = x_and (s 0 f 7) (x_xor (x_shl 1 (p : Int)) (-1)) := by simp [x_up]
    rw [e2]
    exact hf.clr hK hp (by simp [aCall, rCall]) (fun q hq c => by simp [aCall, c])
theorem cF_comeIn (hK : K ≤ 6) (hC : cF f s K a) (hRl : cR (x_rof f) s K F) (hF : aF K F) (hW : aW K D a) (hp : p < K) (hw : 0 < a 0 p) : cF f (S_X0_comeIn s f p) K (aCome F a p) := by
  have hrow := hW.row hp
  have hst := hW.2.1
  have hfp := hF p hp
  have hwr := c_willRefuse hK hC hRl hF hW hp
  have hed := c_eatingDays (s := s) (F 0 p) (a 0 p) hfp.1
  obtain ⟨⟨g0, g1, g2, g3⟩, hr, hs, hh, hf⟩ := hC
  by_cases c : F 0 p = 3 ∧ a 6 p = 0
  · rw [if_pos c] at hwr
    have eT : T_X0_comeIn_1 s f p = x_up (x_up (x_up s 0 f 7 (x_or (s 0 f 7) (x_shl 1 (p : Int)))) 0 f 8 (s 0 f 8 + 1)) 2 f p (a 8 0 + 1) := by
      unfold T_X0_comeIn_1
      simp (disch := omega) only [x_up_o, x_up_k, g0]
    have e9 : T_X0_comeIn_1 s f p 0 f 9 = a 8 1 := by rw [eT]; simp [x_up, g1]
    have b6 : bB (x_or (s 0 f 7) (x_shl 1 (p : Int))) K (aCome F a p 6) := hf.set hK hp (by simp [aCome, rCome, c]) (fun q hq d => by simp [aCome, d])
    have b4 : bB (s 0 f 6) K (aCome F a p 4) := hs.cong (fun q hq => by
      by_cases d : q = p
      · subst d; simp [aCome, rCome, c]
      · simp [aCome, d])
    have b5 : bB (s 0 f 5) K (aCome F a p 5) := hh.cong (fun q hq => by
      by_cases d : q = p
      · subst d; simp [aCome, rCome, c]
      · simp [aCome, d])
    by_cases d : a 8 1 ≤ 0
    · have d' : ¬ 0 < a 8 1 := by omega
      have e : S_X0_comeIn s f p = x_up (x_up (x_up s 0 f 7 (x_or (s 0 f 7) (x_shl 1 (p : Int)))) 0 f 8 (s 0 f 8 + 1)) 2 f p (a 8 0 + 1) := by
        unfold S_X0_comeIn
        rw [hwr, xw1, if_neg (by omega), e9, x_wrs (a := a 8 1) (by omega) (by omega), if_pos d, eT]
      rw [e]
      refine ⟨⟨?_, ?_, ?_, ?_⟩, fun q hq => ?_, ?_, ?_, ?_⟩
      · simp [x_up, aCome, g0]
      · simp [x_up, aCome, g1, c, d']
      · simp [x_up, aCome, g2]
      · simp [x_up, aCome, g3, c]
      · obtain ⟨r0, r1, r2, r3⟩ := hr q hq
        by_cases dq : q = p
        · subst dq
          simp [x_up, aCome, rCome, r0, r1, r2, r3, c, d']
          omega
        · simp [x_up, aCome, r0, r1, r2, r3, dq]
      · simpa [x_up] using b4
      · simpa [x_up] using b5
      · simpa [x_up] using b6
    · have d' : 0 < a 8 1 := by omega
      have e : S_X0_comeIn s f p = x_up (x_up (x_up (x_up (x_up s 0 f 7 (x_or (s 0 f 7) (x_shl 1 (p : Int)))) 0 f 8 (s 0 f 8 + 1)) 2 f p (a 8 0 + 1)) 0 f 9 (a 8 1 - 1)) 1 f p 2 := by
        unfold S_X0_comeIn
        rw [hwr, xw1, if_neg (by omega), e9, x_wrs (a := a 8 1) (by omega) (by omega), if_neg d, eT]
      rw [e]
      refine ⟨⟨?_, ?_, ?_, ?_⟩, fun q hq => ?_, ?_, ?_, ?_⟩
      · simp [x_up, aCome, g0]
      · simp [x_up, aCome, g1, c, d']
      · simp [x_up, aCome, g2]
      · simp [x_up, aCome, g3, c]
      · obtain ⟨r0, r1, r2, r3⟩ := hr q hq
        by_cases dq : q = p
        · subst dq
          simp [x_up, aCome, rCome, r0, r1, r2, r3, c, d']
        · simp [x_up, aCome, r0, r1, r2, r3, dq]
      · simpa [x_up] using b4
      · simpa [x_up] using b5
      · simpa [x_up] using b6
  · rw [if_neg c] at hwr
    have b6 : bB (s 0 f 7) K (aCome F a p 6) := hf.cong (fun q hq => by
      by_cases d : q = p
      · subst d; simp [aCome, rCome, c]
      · simp [aCome, d])
    have b4 : bB (s 0 f 6) K (aCome F a p 4) := hs.cong (fun q hq => by
      by_cases d : q = p
      · subst d; simp [aCome, rCome, c]
      · simp [aCome, d])
    have b5 : bB (x_or (s 0 f 5) (x_shl 1 (p : Int))) K (aCome F a p 5) := hh.set hK hp (by simp [aCome, rCome, c]) (fun q hq d => by simp [aCome, d])
    have e : S_X0_comeIn s f p = x_up (x_up (x_up (x_up s 3 f p (aEat (F 0 p) (a 0 p))) 0 f 5 (x_or (s 0 f 5) (x_shl 1 (p : Int)))) 1 f p 0) 2 f p (-4) := by
      unfold S_X0_comeIn
      rw [hwr, xw0, if_pos rfl, (hRl p hp).1, (hr p hp).1, hed]
      simp (disch := omega) only [x_up_o, x_up_k]
    rw [e]
    refine ⟨⟨?_, ?_, ?_, ?_⟩, fun q hq => ?_, ?_, ?_, ?_⟩
    · simp [x_up, aCome, g0]
    · simp [x_up, aCome, g1, c]
    · simp [x_up, aCome, g2]
    · simp [x_up, aCome, g3, c]
    · obtain ⟨r0, r1, r2, r3⟩ := hr q hq
      by_cases dq : q = p
      · subst dq
        simp [x_up, aCome, rCome, r0, r1, r2, r3, c]
      · simp [x_up, aCome, r0, r1, r2, r3, dq]
    · simpa [x_up] using b4
    · simpa [x_up] using b5
    · simpa [x_up] using b6
theorem aL1_frost {b : Int} (hb : b ≠ 0) : ∀ (k p : Nat) (a : aS), aL1 F b k p a = a := by
  intro k
  induction k with
  | zero => intro p a; rfl
  | succ k ih => intro p a; unfold aL1; rw [if_neg (fun z => hb z.1), ih]
theorem cF_L1 {b : Int} (hK : K ≤ 6) (hb : x_wr b = b) (hF : aF K F) (hD : D ≤ 100000) : ∀ (k p : Nat) (s : xMi) (a : aS), p + k ≤ K → cF f s K a → cR (x_rof f) s K F → aW K D a → ∃ s', RS_X0_passDay_2 f b K k p s = RS_X0_passDay_52 f b K K 0 s' ∧ cF f s' K (aL1 F b k p a) ∧ cR (x_rof f) s' K F := by
  intro k
  induction k with
  | zero => intro p s a _ hC hRl _; exact ⟨s, rfl, hC, hRl⟩
  | succ k ih =>
    intro p s a hp hC hRl hW
    by_cases hb0 : b = 0
    · have hrow := hW.row (q := p) (by omega)
      have hd := hW.1
      have r := hC.2.1 p (by omega)
      unfold RS_X0_passDay_2 aL1
      rw [hb, if_pos hb0, r.1, r.2.1, hC.1.1, x_wrs (a := a 0 p) (by omega) (by omega), x_wrs (a := a 1 p) (by omega) (by omega), x_wrs (a := a 8 0) (by omega) (by omega)]
      by_cases c : a 0 p ≤ 0
      · rw [if_pos c, if_neg (fun z => by omega)]
        exact ih (p + 1) s a (by omega) hC hRl hW
      · rw [if_neg c]
        by_cases c2 : a 8 0 < a 1 p
        · rw [if_pos c2, if_neg (fun z => by omega)]
          exact ih (p + 1) s a (by omega) hC hRl hW
        · rw [if_neg c2, if_pos ⟨hb0, by omega, by omega⟩]
          exact ih (p + 1) _ _ (by omega) (cF_comeIn hK hC hRl hF hW (by omega) (by omega)) (hRl.same (fun t h1 h2 k => fr_S_X0_comeIn s f p (by omega))) (aCome_W hW (by omega) (by omega))
    · refine ⟨s, ?_, by rw [aL1_frost hb0]; exact hC, hRl⟩
      unfold RS_X0_passDay_2
      rw [hb, if_neg hb0]
/-! who is told, then who eats on -/
def aTo (F : aS) (p k : Nat) (a : aS) : aS := fun j q => if p ≤ q ∧ q < p + k ∧ (F 2 q ≤ a 8 0 ∧ a 3 q = -4 ∧ a 2 q = 0) then (if j = 3 then a 8 0 else if j = 4 then a 5 q else a j q) else a j q
def aDc (p k : Nat) (a : aS) : aS := fun j q => if j = 2 ∧ p ≤ q ∧ q < p + k ∧ 0 < a 2 q then a 2 q - 1 else a j q
def aTt (K : Nat) (a : aS) : Prop := aRg K a ∧ ∀ q, q < K → (0 ≤ a 5 q ∧ a 5 q ≤ 1) ∧ (a 3 q = -4 → a 4 q ≠ 1) ∧ (a 3 q = -4 ∨ 0 ≤ a 3 q)
theorem aTo_succ (F : aS) (p k : Nat) (a : aS) : aTo F p (k + 1) a = aTo F (p + 1) k (aTo F p 1 a) := by
  funext j q
  have e0 : aTo F p 1 a 8 0 = a 8 0 := by unfold aTo; simp
  by_cases hq : q = p
  · subst hq
    have e : aTo F (q + 1) k (aTo F q 1 a) j q = aTo F q 1 a j q := by unfold aTo; rw [if_neg (by omega)]
    rw [e]
    unfold aTo
    by_cases c : F 2 q ≤ a 8 0 ∧ a 3 q = -4 ∧ a 2 q = 0
    · have d1 : q ≤ q ∧ q < q + (k + 1) ∧ (F 2 q ≤ a 8 0 ∧ a 3 q = -4 ∧ a 2 q = 0) := ⟨by omega, by omega, c⟩
      have d2 : q ≤ q ∧ q < q + 1 ∧ (F 2 q ≤ a 8 0 ∧ a 3 q = -4 ∧ a 2 q = 0) := ⟨by omega, by omega, c⟩
      simp only [if_pos d1, if_pos d2]
    · rw [if_neg (fun z => c z.2.2), if_neg (fun z => c z.2.2)]
  · have e1 : ∀ i, aTo F p 1 a i q = a i q := fun i => by unfold aTo; rw [if_neg (by omega)]
    show _ = (if p + 1 ≤ q ∧ q < p + 1 + k ∧ (F 2 q ≤ aTo F p 1 a 8 0 ∧ aTo F p 1 a 3 q = -4 ∧ aTo F p 1 a 2 q = 0) then (if j = 3 then aTo F p 1 a 8 0 else if j = 4 then aTo F p 1 a 5 q else aTo F p 1 a j q) else aTo F p 1 a j q)
    rw [e0, e1, e1, e1, e1]
    unfold aTo
    by_cases c : p ≤ q ∧ q < p + (k + 1) ∧ (F 2 q ≤ a 8 0 ∧ a 3 q = -4 ∧ a 2 q = 0)
    · have d1 : p + 1 ≤ q ∧ q < p + 1 + k ∧ (F 2 q ≤ a 8 0 ∧ a 3 q = -4 ∧ a 2 q = 0) := ⟨by omega, by omega, c.2.2⟩
      simp only [if_pos c, if_pos d1]
    · rw [if_neg c, if_neg (fun z => c ⟨by omega, by omega, z.2.2⟩)]
theorem aDc_succ (p k : Nat) (a : aS) : aDc p (k + 1) a = aDc (p + 1) k (aDc p 1 a) := by
  funext j q
  by_cases hj : j = 2
  · subst hj
    by_cases hq : q = p
    · subst hq
      have e : aDc (q + 1) k (aDc q 1 a) 2 q = aDc q 1 a 2 q := by unfold aDc; rw [if_neg (by omega)]
      rw [e]
      unfold aDc
      by_cases c : 0 < a 2 q
      · rw [if_pos ⟨rfl, by omega, by omega, c⟩, if_pos ⟨rfl, by omega, by omega, c⟩]
      · rw [if_neg (fun z => c z.2.2.2), if_neg (fun z => c z.2.2.2)]
    · have e1 : aDc p 1 a 2 q = a 2 q := by unfold aDc; rw [if_neg (by omega)]
      show _ = (if 2 = 2 ∧ p + 1 ≤ q ∧ q < p + 1 + k ∧ 0 < aDc p 1 a 2 q then aDc p 1 a 2 q - 1 else aDc p 1 a 2 q)
      rw [e1]
      unfold aDc
      by_cases c : p ≤ q ∧ q < p + (k + 1) ∧ 0 < a 2 q
      · rw [if_pos ⟨rfl, c⟩, if_pos ⟨rfl, by omega, by omega, c.2.2⟩]
      · rw [if_neg (fun z => c z.2), if_neg (fun z => c ⟨by omega, by omega, z.2.2.2⟩)]
  · have e : ∀ p k a, aDc p k a j q = a j q := fun p k a => by unfold aDc; rw [if_neg (fun z => hj z.1)]
    rw [e, e, e]
theorem aTl_two (F : aS) (K : Nat) (a : aS) : aEnd (aTl F 0 K a) = aEnd (aDc 0 K (aTo F 0 K a)) := by
  have key : aTl F 0 K a = aDc 0 K (aTo F 0 K a) := by
    funext j q
    have e2 : aTo F 0 K a 2 q = a 2 q := by unfold aTo; simp
    by_cases hq : q < K
    · by_cases hj : j < 8
      · unfold aTl
        rw [if_pos ⟨hj, by omega, by omega⟩]
        show _ = (if j = 2 ∧ 0 ≤ q ∧ q < 0 + K ∧ 0 < aTo F 0 K a 2 q then aTo F 0 K a 2 q - 1 else aTo F 0 K a j q)
        rw [e2]
        unfold rTell
        by_cases c2 : j = 2
        · subst c2
          rw [if_pos rfl, e2]
          by_cases c : 0 < a 2 q
          · rw [if_pos c, if_pos ⟨rfl, by omega, by omega, c⟩]
          · rw [if_neg c, if_neg (fun z => c z.2.2.2)]
        · have n2 : ¬ (j = 2 ∧ 0 ≤ q ∧ q < 0 + K ∧ 0 < a 2 q) := fun z => c2 z.1
          simp only [if_neg c2, if_neg n2]
          unfold aTo
          by_cases c : F 2 q ≤ a 8 0 ∧ a 3 q = -4 ∧ a 2 q = 0
          · have d1 : 0 ≤ q ∧ q < 0 + K ∧ (F 2 q ≤ a 8 0 ∧ a 3 q = -4 ∧ a 2 q = 0) := ⟨by omega, by omega, c⟩
            simp only [if_pos c, if_pos d1]
          · have d1 : ¬ (0 ≤ q ∧ q < 0 + K ∧ (F 2 q ≤ a 8 0 ∧ a 3 q = -4 ∧ a 2 q = 0)) := fun z => c z.2.2
            simp only [if_neg c, if_neg d1]
            by_cases c3 : j = 3
            · subst c3; simp
            · by_cases c4 : j = 4
              · subst c4; simp
              · rw [if_neg c3, if_neg c4]
      · unfold aTl
        rw [if_neg (fun z => hj z.1)]
        unfold aDc
        rw [if_neg (by omega)]
        unfold aTo
        split
        · rw [if_neg (by omega), if_neg (by omega)]
        · rfl
    · unfold aTl aDc aTo
      rw [if_neg (by omega), if_neg (by omega), if_neg (by omega)]
  rw [key]
theorem aTo_tt (h : aTt K a) : aTt K (aTo F p 1 a) := by
  have e0 : aTo F p 1 a 8 0 = a 8 0 := by unfold aTo; simp
  have e5 : ∀ q, aTo F p 1 a 5 q = a 5 q := fun q => by unfold aTo; simp
  have e2 : ∀ q, aTo F p 1 a 2 q = a 2 q := fun q => by unfold aTo; simp
  have e3 : ∀ q, aTo F p 1 a 3 q = a 3 q ∧ aTo F p 1 a 4 q = a 4 q ∨ aTo F p 1 a 3 q = a 8 0 := fun q => by
    unfold aTo
    by_cases c : p ≤ q ∧ q < p + 1 ∧ (F 2 q ≤ a 8 0 ∧ a 3 q = -4 ∧ a 2 q = 0)
    · right; rw [if_pos c]; simp
    · left; exact ⟨by rw [if_neg c], by rw [if_neg c]⟩
  have h1 := h.1.1
  refine ⟨⟨by rw [e0]; exact h1, fun q hq => ?_⟩, fun q hq => ?_⟩
  · have h2 := h.1.2 q hq
    rw [e2]
    rcases e3 q with z | z
    · rw [z.1]; exact h2
    · rw [z]; exact ⟨by omega, h2.2⟩
  · have h2 := h.2 q hq
    rw [e5]
    rcases e3 q with z | z
    · rw [z.1, z.2]; exact h2
    · rw [z]; exact ⟨h2.1, by omega, by omega⟩
theorem cF_L2 {b : Int} (hK : K ≤ 6) (hF : aF K F) : ∀ (k p : Nat) (s : xMi) (a : aS), p + k ≤ K → cF f s K a → cR (x_rof f) s K F → aTt K a → ∃ s', RS_X0_passDay_52 f b K k p s = RS_X0_passDay_131 f b K K 0 s' ∧ cF f s' K (aTo F p k a) ∧ cR (x_rof f) s' K F := by
  intro k
  induction k with
  | zero =>
    intro p s a _ hC hRl _
    have e : aTo F p 0 a = a := by funext j q; unfold aTo; rw [if_neg (by omega)]
    exact ⟨s, rfl, by rw [e]; exact hC, hRl⟩
  | succ k ih =>
    intro p s a hp hC hRl hT
    have r := hC.2.1 p (by omega)
    have rg := hT.1.2 p (by omega)
    have g8 := hT.1.1
    have hf := hF p (by omega)
    have ht := c_isTold hC hT.1 (hT.2 p (by omega)).2.2 (by omega)
    rw [aTo_succ]
    unfold RS_X0_passDay_52
    rw [ht, r.2.2.1, hC.1.1, (hRl p (by omega)).2.2.1, x_wrs (a := a 2 p) (by omega) (by omega), x_wrs (a := a 8 0) (by omega) (by omega), x_wrs (a := F 2 p) (by omega) (by omega)]
    by_cases c : F 2 p ≤ a 8 0 ∧ a 3 p = -4 ∧ a 2 p = 0
    · rw [if_neg (by omega), if_pos c.2.1, xw0, if_pos rfl, if_pos c.2.2]
      have eq : (x_up (x_up s 4 f p (a 8 0)) 0 f 6 (x_or ((x_up s 4 f p (a 8 0)) 0 f 6) (x_and ((x_up s 4 f p (a 8 0)) 0 f 5) (x_shl 1 (p : Int))))) = x_up (x_up s 4 f p (a 8 0)) 0 f 6 (x_or (s 0 f 6) (x_and (s 0 f 5) (x_shl 1 (p : Int)))) := by
        simp (disch := omega) only [x_up_o, x_up_k]
      rw [eq]
      refine ih (p + 1) _ _ (by omega) ?_ (hRl.same (fun t h1 h2 k => by simp (disch := omega) only [x_up_o])) (aTo_tt hT)
      obtain ⟨⟨g0, g1, g2, g3⟩, hr, hs, hh, hff⟩ := hC
      have cp : ∀ j, aTo F p 1 a j p = if j = 3 then a 8 0 else if j = 4 then a 5 p else a j p := fun j => by unfold aTo; rw [if_pos ⟨by omega, by omega, c⟩]
      have cq : ∀ j q, q ≠ p → aTo F p 1 a j q = a j q := fun j q d => by unfold aTo; rw [if_neg (by omega)]
      have cg : ∀ q, aTo F p 1 a 8 q = a 8 q := fun q => by unfold aTo; simp
      refine ⟨⟨?_, ?_, ?_, ?_⟩, fun q hq => ?_, ?_, ?_, ?_⟩
      · rw [cg]; simp [x_up, g0]
      · rw [cg]; simp [x_up, g1]
      · rw [cg]; simp [x_up, g2]
      · rw [cg]; simp [x_up, g3]
      · obtain ⟨r0, r1, r2, r3⟩ := hr q hq
        by_cases d : q = p
        · subst d
          rw [cp, cp, cp, cp]
          simp [x_up, r0, r1, r2]
        · rw [cq _ q d, cq _ q d, cq _ q d, cq _ q d]
          simp [x_up, r0, r1, r2, r3, d]
      · have e6 : x_up (x_up s 4 f p (a 8 0)) 0 f 6 (x_or (s 0 f 6) (x_and (s 0 f 5) (x_shl 1 (p : Int)))) 0 f 6 = x_or (s 0 f 6) (x_and (s 0 f 5) (x_shl 1 (p : Int))) := by simp [x_up]
        rw [e6]
        exact hs.take hh hK (by omega) ((hT.2 p (by omega)).2.1 c.2.1) (by rw [cp]; simp) (fun q hq d => by rw [cq _ q d])
      · refine (show bB _ K (a 5) from by simpa [x_up] using hh).cong (fun q hq => ?_)
        by_cases d : q = p
        · subst d; rw [cp]; simp
        · rw [cq _ q d]
      · refine (show bB _ K (a 6) from by simpa [x_up] using hff).cong (fun q hq => ?_)
        by_cases d : q = p
        · subst d; rw [cp]; simp
        · rw [cq _ q d]
    · have e : aTo F p 1 a = a := by
        funext j q
        unfold aTo
        rw [if_neg]
        intro z
        have : q = p := by omega
        subst this
        exact c z.2.2
      rw [e]
      have ih' := ih (p + 1) s a (by omega) hC hRl hT
      by_cases c1 : a 8 0 < F 2 p
      · rw [if_pos c1]; exact ih'
      · rw [if_neg c1]
        by_cases c2 : a 3 p = -4
        · rw [if_pos c2, xw0, if_pos rfl, if_neg (fun z => c ⟨by omega, c2, z⟩)]; exact ih'
        · rw [if_neg c2, xw1, if_neg (by omega)]; exact ih'
theorem aDc_rg (h : aRg K a) : aRg K (aDc p 1 a) := by
  refine ⟨by unfold aDc; simpa using h.1, fun q hq => ?_⟩
  have h2 := h.2 q hq
  unfold aDc
  simp
  split <;> omega
theorem cF_L3 {b : Int} : ∀ (k p : Nat) (s : xMi) (a : aS), p + k ≤ K → cF f s K a → aRg K a → cF f (RS_X0_passDay_131 f b K k p s) K (aEnd (aDc p k a)) := by
  intro k
  induction k with
  | zero =>
    intro p s a _ hC _
    have e : aDc p 0 a = a := by funext j q; unfold aDc; rw [if_neg (by omega)]
    rw [e]
    obtain ⟨⟨g0, g1, g2, g3⟩, hr, hs, hh, hf⟩ := hC
    have en : ∀ j q, j < 8 → aEnd a j q = a j q := fun j q hj => by unfold aEnd; rw [if_neg (by omega), if_neg (by omega)]
    unfold RS_X0_passDay_131
    refine ⟨⟨?_, ?_, ?_, ?_⟩, fun q hq => ?_, ?_, ?_, ?_⟩
    · simp [x_up, aEnd, g0]
    · simp [x_up, aEnd, g1]
    · simp [x_up, aEnd, x_bn]
    · simp [x_up, aEnd, g3]
    · rw [en 0 q (by omega), en 1 q (by omega), en 2 q (by omega), en 3 q (by omega)]
      simpa [x_up] using hr q hq
    · exact (show bB _ K (a 4) from by simpa [x_up] using hs).cong (fun q hq => by rw [en 4 q (by omega)])
    · exact (show bB _ K (a 5) from by simpa [x_up] using hh).cong (fun q hq => by rw [en 5 q (by omega)])
    · exact (show bB _ K (a 6) from by simpa [x_up] using hf).cong (fun q hq => by rw [en 6 q (by omega)])
  | succ k ih =>
    intro p s a hp hC hR
    have r := hC.2.1 p (by omega)
    have rg := hR.2 p (by omega)
    rw [aDc_succ]
    unfold RS_X0_passDay_131
    rw [r.2.2.1, x_wrs (a := a 2 p) (by omega) (by omega)]
    have en : ∀ j q, j ≠ 2 → aDc p 1 a j q = a j q := fun j q hj => by unfold aDc; rw [if_neg (fun z => hj z.1)]
    by_cases c : a 2 p ≤ 0
    · rw [if_pos c]
      have e : aDc p 1 a = a := by
        funext j q
        unfold aDc
        rw [if_neg]
        intro z
        have : q = p := by omega
        subst this
        omega
      rw [e]
      exact ih (p + 1) s a (by omega) hC hR
    · rw [if_neg c]
      refine ih (p + 1) _ _ (by omega) ?_ (aDc_rg hR)
      obtain ⟨⟨g0, g1, g2, g3⟩, hr, hs, hh, hf⟩ := hC
      refine ⟨⟨?_, ?_, ?_, ?_⟩, fun q hq => ?_, ?_, ?_, ?_⟩
      · rw [en 8 0 (by omega)]; simpa [x_up] using g0
      · rw [en 8 1 (by omega)]; simpa [x_up] using g1
      · rw [en 8 2 (by omega)]; simpa [x_up] using g2
      · rw [en 8 3 (by omega)]; simpa [x_up] using g3
      · obtain ⟨r0, r1, r2, r3⟩ := hr q hq
        rw [en 0 q (by omega), en 1 q (by omega), en 3 q (by omega)]
        by_cases d : q = p
        · subst d
          have e2 : aDc q 1 a 2 q = a 2 q - 1 := by unfold aDc; rw [if_pos ⟨rfl, by omega, by omega, by omega⟩]
          rw [e2]
          simp [x_up, r0, r1, r3]
        · have e2 : aDc p 1 a 2 q = a 2 q := by unfold aDc; rw [if_neg (by omega)]
          rw [e2]
          simp [x_up, r0, r1, r2, r3, d]
      · exact (show bB _ K (a 4) from by simpa [x_up] using hs).cong (fun q hq => by rw [en 4 q (by omega)])
      · exact (show bB _ K (a 5) from by simpa [x_up] using hh).cong (fun q hq => by rw [en 5 q (by omega)])
      · exact (show bB _ K (a 6) from by simpa [x_up] using hf).cong (fun q hq => by rw [en 6 q (by omega)])
theorem aW.tt (h : aW K D a) (hD : D ≤ 100000) : aTt K a := by
  refine ⟨h.rg hD, fun q hq => ?_⟩
  have hr := h.row hq
  omega
/-- a day goes by alike -/
theorem cF_passDay {b : Int} (hK : K ≤ 6) (hb : x_wr b = b) (hD : D ≤ 100000) (hF : aF K F) (hC : cF f s K a) (hRl : cR (x_rof f) s K F) (hW : aW K D a) : cF f (S_X0_passDay s f b K) K (aP F b K a) := by
  obtain ⟨s1, e1, c1, r1⟩ := cF_L1 (b := b) hK hb hF hD K 0 s a (by omega) hC hRl hW
  have hW1 : aW K D (aL1 F b K 0 a) := aL1_W _ _ _ (by omega) hW
  obtain ⟨s2, e2, c2, r2⟩ := cF_L2 (b := b) hK hF K 0 s1 _ (by omega) c1 r1 (hW1.tt hD)
  have hR2 : aRg K (aTo F 0 K (aL1 F b K 0 a)) := by
    have hT := hW1.tt hD
    refine ⟨by unfold aTo; simpa using hT.1.1, fun q hq => ?_⟩
    have h2 := hT.1.2 q hq
    have h1 := hT.1.1
    have h3 := (hT.2 q hq).2.2
    unfold aTo
    simp
    split <;> omega
  have c3 := cF_L3 (f := f) (b := b) K 0 s2 _ (by omega) c2 hR2
  unfold S_X0_passDay aP
  rw [e1, e2, aTl_two]
  exact c3
end
