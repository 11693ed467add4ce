theorem x_inW (wl : List Cond) (ps : List Nat) (hp : wl = ps.filterMap (fun i => lw_tbl[i]?)) (hg : wl.all goodWord = true) : ∀ w ∈ wl, w ∈ x_T := by
  intro w hw
  have h1 := List.all_eq_true.mp hg w hw
  rw [hp] at hw
  obtain ⟨i, -, hi⟩ := List.mem_filterMap.mp hw
  exact x_in hi h1
/-- a field's link: in class own, entry idx is field k of class ci -/
def x_fl (own : String) (idx ci k : Nat) : Prop := ∃ (C : String) (T : u_T) (N : Nat), x_cl[ci]? = some (C, T, N) ∧ k < N ∧ Cond.fieldLink own idx (T k).1 (T k).2.1 (T k).2.2.1 ∈ x_T
/-- what is so of each class -/
def x_co (ci : Nat) (C : String) (T : u_T) (N : Nat) (ty : Nat → FieldType) : Prop := (∀ w ∈ u_ws C T N, w ∈ x_T) ∧ (∀ k, k < N → parseFieldDescriptor (T k).2.2.1 = some (ty k)) ∧ (∀ a, a < N → ∀ b, b < N → a ≠ b → (T a).2.1 ≠ (T b).2.1) ∧ N = x_nf ci ∧
  ∀ k, k < N → (x_kd ci k = 0 → ty k = .int ∧ (T k).2.2.2 = false) ∧ (x_kd ci k = 2 → ty k = .boolean ∧ (T k).2.2.2 = false) ∧ (x_kd ci k = 1 → (T k).2.2.2 = true ∧ (T k).1 = C ∧ (ty k).isReference = true)
def x_cB (y : MethodName) (bytes : ByteArray) (maxL : Nat) (ret : Option FieldType) (na : Nat) : Prop := Cond.initialized y.cls ∈ x_T ∧ Cond.code y bytes maxL ret ∈ x_T ∧ (y.cls ≠ "java/lang/invoke/MethodHandle" ∧ y.cls ≠ "java/lang/invoke/VarHandle") ∧ (parseMethodDescriptor y.desc).map (fun d => d.parameters.length) = some na
def x_cV (own : String) (idx : Nat) (y : MethodName) : Prop := Cond.methodLink own idx y ∈ x_T ∧ Cond.instanceMethod y ∈ x_T ∧ Cond.selects y.cls y y ∈ x_T
def x_cS (own : String) (idx : Nat) (y : MethodName) : Prop := Cond.methodLink own idx y ∈ x_T ∧ Cond.static y ∈ x_T
def x_cI (own : String) (idx : Nat) (y : MethodName) : Prop := Cond.methodLink own idx y ∈ x_T ∧ Cond.instanceMethod y ∈ x_T ∧ y.name = "<init>"
def x_cN (own : String) (idx : Nat) (y : MethodName) (host : String) : Prop := (∀ (B : Nat) (z : xZ) (U : State), x_X B z U → va_Nw (.methodLinkNest own idx y host) U) ∧ Cond.instanceMethod y ∈ x_T ∧ y.name = "<init>"
theorem x_co0 : x_co 0 RX0 TX0 12 tyX0 := ⟨x_inW _ [150, 152, 154, 156, 158, 160, 162, 164, 166, 168, 170, 172] (by decide +kernel) (by decide +kernel), tyX0_ok, nmX0, rfl, by decide +kernel⟩
theorem x_co1 : x_co 1 RX1 TX1 5 tyX1 := ⟨x_inW _ [234, 236, 238, 240, 242] (by decide +kernel) (by decide +kernel), tyX1_ok, nmX1, rfl, by decide +kernel⟩
theorem x_co2 : x_co 2 RX2 TX2 3 tyX2 := ⟨x_inW _ [191, 193, 195] (by decide +kernel) (by decide +kernel), tyX2_ok, nmX2, rfl, by decide +kernel⟩
theorem x_co3 : x_co 3 RX3 TX3 6 tyX3 := ⟨x_inW _ [111, 113, 115, 117, 119, 121] (by decide +kernel) (by decide +kernel), tyX3_ok, nmX3, rfl, by decide +kernel⟩
theorem x_co4 : x_co 4 RX4 TX4 4 tyX4 := ⟨x_inW _ [209, 211, 213, 215] (by decide +kernel) (by decide +kernel), tyX4_ok, nmX4, rfl, by decide +kernel⟩
theorem x_co5 : x_co 5 RX5 TX5 3 tyX5 := ⟨x_inW _ [80, 82, 84] (by decide +kernel) (by decide +kernel), tyX5_ok, nmX5, rfl, by decide +kernel⟩
theorem x_co6 : x_co 6 RX6 TX6 11 tyX6 := ⟨x_inW _ [360, 362, 364, 366, 368, 370, 372, 374, 376, 378, 380] (by decide +kernel) (by decide +kernel), tyX6_ok, nmX6, rfl, by decide +kernel⟩
theorem x_co7 : x_co 7 RX7 TX7 36 tyX7 := ⟨x_inW _ [708, 710, 712, 714, 716, 718, 720, 722, 724, 726, 728, 730, 732, 734, 736, 738, 740, 742, 744, 746, 748, 750, 752, 754, 756, 758, 760, 762, 764, 766, 768, 770, 772, 774, 776, 778] (by decide +kernel) (by decide +kernel), tyX7_ok, nmX7, rfl, by decide +kernel⟩
theorem fl_X5_9 : x_fl RX5 9 5 0 := ⟨_, _, _, rfl, by decide, x_in (k := 76) (by decide +kernel) rfl⟩
theorem fl_X5_15 : x_fl RX5 15 5 1 := ⟨_, _, _, rfl, by decide, x_in (k := 77) (by decide +kernel) rfl⟩
theorem fl_X5_19 : x_fl RX5 19 5 2 := ⟨_, _, _, rfl, by decide, x_in (k := 78) (by decide +kernel) rfl⟩
theorem fl_X6_96 : x_fl RX6 96 5 2 := ⟨_, _, _, rfl, by decide, x_in (k := 79) (by decide +kernel) rfl⟩
theorem fl_X3_9 : x_fl RX3 9 3 0 := ⟨_, _, _, rfl, by decide, x_in (k := 95) (by decide +kernel) rfl⟩
theorem fl_X0_98 : x_fl RX0 98 3 0 := ⟨_, _, _, rfl, by decide, x_in (k := 96) (by decide +kernel) rfl⟩
theorem fl_X6_196 : x_fl RX6 196 3 0 := ⟨_, _, _, rfl, by decide, x_in (k := 97) (by decide +kernel) rfl⟩
theorem fl_X3_15 : x_fl RX3 15 3 1 := ⟨_, _, _, rfl, by decide, x_in (k := 98) (by decide +kernel) rfl⟩
theorem fl_X0_125 : x_fl RX0 125 3 1 := ⟨_, _, _, rfl, by decide, x_in (k := 99) (by decide +kernel) rfl⟩
theorem fl_X3_18 : x_fl RX3 18 3 2 := ⟨_, _, _, rfl, by decide, x_in (k := 100) (by decide +kernel) rfl⟩
theorem fl_X0_92 : x_fl RX0 92 3 2 := ⟨_, _, _, rfl, by decide, x_in (k := 101) (by decide +kernel) rfl⟩
theorem fl_X6_203 : x_fl RX6 203 3 2 := ⟨_, _, _, rfl, by decide, x_in (k := 102) (by decide +kernel) rfl⟩
theorem fl_X3_21 : x_fl RX3 21 3 3 := ⟨_, _, _, rfl, by decide, x_in (k := 103) (by decide +kernel) rfl⟩
theorem fl_X0_122 : x_fl RX0 122 3 3 := ⟨_, _, _, rfl, by decide, x_in (k := 104) (by decide +kernel) rfl⟩
theorem fl_X3_24 : x_fl RX3 24 3 4 := ⟨_, _, _, rfl, by decide, x_in (k := 105) (by decide +kernel) rfl⟩
theorem fl_X1_45 : x_fl RX1 45 3 4 := ⟨_, _, _, rfl, by decide, x_in (k := 106) (by decide +kernel) rfl⟩
theorem fl_X6_99 : x_fl RX6 99 3 4 := ⟨_, _, _, rfl, by decide, x_in (k := 107) (by decide +kernel) rfl⟩
theorem fl_X0_85 : x_fl RX0 85 3 4 := ⟨_, _, _, rfl, by decide, x_in (k := 108) (by decide +kernel) rfl⟩
theorem fl_X3_28 : x_fl RX3 28 3 5 := ⟨_, _, _, rfl, by decide, x_in (k := 109) (by decide +kernel) rfl⟩
theorem fl_X0_51 : x_fl RX0 51 3 5 := ⟨_, _, _, rfl, by decide, x_in (k := 110) (by decide +kernel) rfl⟩
theorem fl_X0_47 : x_fl RX0 47 0 0 := ⟨_, _, _, rfl, by decide, x_in (k := 130) (by decide +kernel) rfl⟩
theorem fl_X1_41 : x_fl RX1 41 0 0 := ⟨_, _, _, rfl, by decide, x_in (k := 131) (by decide +kernel) rfl⟩
theorem fl_X0_9 : x_fl RX0 9 0 1 := ⟨_, _, _, rfl, by decide, x_in (k := 132) (by decide +kernel) rfl⟩
theorem fl_X6_128 : x_fl RX6 128 0 1 := ⟨_, _, _, rfl, by decide, x_in (k := 133) (by decide +kernel) rfl⟩
theorem fl_X0_15 : x_fl RX0 15 0 2 := ⟨_, _, _, rfl, by decide, x_in (k := 134) (by decide +kernel) rfl⟩
theorem fl_X6_124 : x_fl RX6 124 0 2 := ⟨_, _, _, rfl, by decide, x_in (k := 135) (by decide +kernel) rfl⟩
theorem fl_X0_18 : x_fl RX0 18 0 3 := ⟨_, _, _, rfl, by decide, x_in (k := 136) (by decide +kernel) rfl⟩
theorem fl_X0_21 : x_fl RX0 21 0 4 := ⟨_, _, _, rfl, by decide, x_in (k := 137) (by decide +kernel) rfl⟩
theorem fl_X0_24 : x_fl RX0 24 0 5 := ⟨_, _, _, rfl, by decide, x_in (k := 138) (by decide +kernel) rfl⟩
theorem fl_X0_28 : x_fl RX0 28 0 6 := ⟨_, _, _, rfl, by decide, x_in (k := 139) (by decide +kernel) rfl⟩
theorem fl_X6_162 : x_fl RX6 162 0 6 := ⟨_, _, _, rfl, by decide, x_in (k := 140) (by decide +kernel) rfl⟩
theorem fl_X0_31 : x_fl RX0 31 0 7 := ⟨_, _, _, rfl, by decide, x_in (k := 141) (by decide +kernel) rfl⟩
theorem fl_X0_34 : x_fl RX0 34 0 8 := ⟨_, _, _, rfl, by decide, x_in (k := 142) (by decide +kernel) rfl⟩
theorem fl_X6_229 : x_fl RX6 229 0 8 := ⟨_, _, _, rfl, by decide, x_in (k := 143) (by decide +kernel) rfl⟩
theorem fl_X0_37 : x_fl RX0 37 0 9 := ⟨_, _, _, rfl, by decide, x_in (k := 144) (by decide +kernel) rfl⟩
theorem fl_X1_38 : x_fl RX1 38 0 9 := ⟨_, _, _, rfl, by decide, x_in (k := 145) (by decide +kernel) rfl⟩
theorem fl_X6_134 : x_fl RX6 134 0 9 := ⟨_, _, _, rfl, by decide, x_in (k := 146) (by decide +kernel) rfl⟩
theorem fl_X0_40 : x_fl RX0 40 0 10 := ⟨_, _, _, rfl, by decide, x_in (k := 147) (by decide +kernel) rfl⟩
theorem fl_X6_137 : x_fl RX6 137 0 10 := ⟨_, _, _, rfl, by decide, x_in (k := 148) (by decide +kernel) rfl⟩
theorem fl_X0_43 : x_fl RX0 43 0 11 := ⟨_, _, _, rfl, by decide, x_in (k := 149) (by decide +kernel) rfl⟩
theorem fl_X2_24 : x_fl RX2 24 2 0 := ⟨_, _, _, rfl, by decide, x_in (k := 187) (by decide +kernel) rfl⟩
theorem fl_X2_7 : x_fl RX2 7 2 1 := ⟨_, _, _, rfl, by decide, x_in (k := 188) (by decide +kernel) rfl⟩
theorem fl_X6_155 : x_fl RX6 155 2 1 := ⟨_, _, _, rfl, by decide, x_in (k := 189) (by decide +kernel) rfl⟩
theorem fl_X2_13 : x_fl RX2 13 2 2 := ⟨_, _, _, rfl, by decide, x_in (k := 190) (by decide +kernel) rfl⟩
theorem fl_X4_9 : x_fl RX4 9 4 0 := ⟨_, _, _, rfl, by decide, x_in (k := 204) (by decide +kernel) rfl⟩
theorem fl_X4_15 : x_fl RX4 15 4 1 := ⟨_, _, _, rfl, by decide, x_in (k := 205) (by decide +kernel) rfl⟩
theorem fl_X4_18 : x_fl RX4 18 4 2 := ⟨_, _, _, rfl, by decide, x_in (k := 206) (by decide +kernel) rfl⟩
theorem fl_X4_22 : x_fl RX4 22 4 3 := ⟨_, _, _, rfl, by decide, x_in (k := 207) (by decide +kernel) rfl⟩
theorem fl_X6_189 : x_fl RX6 189 4 3 := ⟨_, _, _, rfl, by decide, x_in (k := 208) (by decide +kernel) rfl⟩
theorem fl_X1_11 : x_fl RX1 11 1 0 := ⟨_, _, _, rfl, by decide, x_in (k := 227) (by decide +kernel) rfl⟩
theorem fl_X1_17 : x_fl RX1 17 1 1 := ⟨_, _, _, rfl, by decide, x_in (k := 228) (by decide +kernel) rfl⟩
theorem fl_X1_21 : x_fl RX1 21 1 2 := ⟨_, _, _, rfl, by decide, x_in (k := 229) (by decide +kernel) rfl⟩
theorem fl_X6_186 : x_fl RX6 186 1 2 := ⟨_, _, _, rfl, by decide, x_in (k := 230) (by decide +kernel) rfl⟩
theorem fl_X1_24 : x_fl RX1 24 1 3 := ⟨_, _, _, rfl, by decide, x_in (k := 231) (by decide +kernel) rfl⟩
theorem fl_X6_185 : x_fl RX6 185 1 3 := ⟨_, _, _, rfl, by decide, x_in (k := 232) (by decide +kernel) rfl⟩
theorem fl_X1_28 : x_fl RX1 28 1 4 := ⟨_, _, _, rfl, by decide, x_in (k := 233) (by decide +kernel) rfl⟩
theorem fl_X6_10 : x_fl RX6 10 6 0 := ⟨_, _, _, rfl, by decide, x_in (k := 349) (by decide +kernel) rfl⟩
theorem fl_X6_19 : x_fl RX6 19 6 1 := ⟨_, _, _, rfl, by decide, x_in (k := 350) (by decide +kernel) rfl⟩
theorem fl_X6_23 : x_fl RX6 23 6 2 := ⟨_, _, _, rfl, by decide, x_in (k := 351) (by decide +kernel) rfl⟩
theorem fl_X6_26 : x_fl RX6 26 6 3 := ⟨_, _, _, rfl, by decide, x_in (k := 352) (by decide +kernel) rfl⟩
theorem fl_X6_34 : x_fl RX6 34 6 4 := ⟨_, _, _, rfl, by decide, x_in (k := 353) (by decide +kernel) rfl⟩
theorem fl_X6_38 : x_fl RX6 38 6 5 := ⟨_, _, _, rfl, by decide, x_in (k := 354) (by decide +kernel) rfl⟩
theorem fl_X6_41 : x_fl RX6 41 6 6 := ⟨_, _, _, rfl, by decide, x_in (k := 355) (by decide +kernel) rfl⟩
theorem fl_X6_49 : x_fl RX6 49 6 7 := ⟨_, _, _, rfl, by decide, x_in (k := 356) (by decide +kernel) rfl⟩
theorem fl_X6_53 : x_fl RX6 53 6 8 := ⟨_, _, _, rfl, by decide, x_in (k := 357) (by decide +kernel) rfl⟩
theorem fl_X6_59 : x_fl RX6 59 6 9 := ⟨_, _, _, rfl, by decide, x_in (k := 358) (by decide +kernel) rfl⟩
theorem fl_X6_66 : x_fl RX6 66 6 10 := ⟨_, _, _, rfl, by decide, x_in (k := 359) (by decide +kernel) rfl⟩
theorem fl_X7_84 : x_fl RX7 84 7 0 := ⟨_, _, _, rfl, by decide, x_in (k := 672) (by decide +kernel) rfl⟩
theorem fl_X7_9 : x_fl RX7 9 7 1 := ⟨_, _, _, rfl, by decide, x_in (k := 673) (by decide +kernel) rfl⟩
theorem fl_X7_13 : x_fl RX7 13 7 2 := ⟨_, _, _, rfl, by decide, x_in (k := 674) (by decide +kernel) rfl⟩
theorem fl_X7_16 : x_fl RX7 16 7 3 := ⟨_, _, _, rfl, by decide, x_in (k := 675) (by decide +kernel) rfl⟩
theorem fl_X7_19 : x_fl RX7 19 7 4 := ⟨_, _, _, rfl, by decide, x_in (k := 676) (by decide +kernel) rfl⟩
theorem fl_X7_88 : x_fl RX7 88 7 5 := ⟨_, _, _, rfl, by decide, x_in (k := 677) (by decide +kernel) rfl⟩
theorem fl_X7_91 : x_fl RX7 91 7 6 := ⟨_, _, _, rfl, by decide, x_in (k := 678) (by decide +kernel) rfl⟩
theorem fl_X7_94 : x_fl RX7 94 7 7 := ⟨_, _, _, rfl, by decide, x_in (k := 679) (by decide +kernel) rfl⟩
theorem fl_X7_97 : x_fl RX7 97 7 8 := ⟨_, _, _, rfl, by decide, x_in (k := 680) (by decide +kernel) rfl⟩
theorem fl_X7_22 : x_fl RX7 22 7 9 := ⟨_, _, _, rfl, by decide, x_in (k := 681) (by decide +kernel) rfl⟩
theorem fl_X7_25 : x_fl RX7 25 7 10 := ⟨_, _, _, rfl, by decide, x_in (k := 682) (by decide +kernel) rfl⟩
theorem fl_X7_28 : x_fl RX7 28 7 11 := ⟨_, _, _, rfl, by decide, x_in (k := 683) (by decide +kernel) rfl⟩
theorem fl_X7_31 : x_fl RX7 31 7 12 := ⟨_, _, _, rfl, by decide, x_in (k := 684) (by decide +kernel) rfl⟩
theorem fl_X7_34 : x_fl RX7 34 7 13 := ⟨_, _, _, rfl, by decide, x_in (k := 685) (by decide +kernel) rfl⟩
theorem fl_X7_37 : x_fl RX7 37 7 14 := ⟨_, _, _, rfl, by decide, x_in (k := 686) (by decide +kernel) rfl⟩
theorem fl_X7_40 : x_fl RX7 40 7 15 := ⟨_, _, _, rfl, by decide, x_in (k := 687) (by decide +kernel) rfl⟩
theorem fl_X7_43 : x_fl RX7 43 7 16 := ⟨_, _, _, rfl, by decide, x_in (k := 688) (by decide +kernel) rfl⟩
theorem fl_X7_142 : x_fl RX7 142 7 17 := ⟨_, _, _, rfl, by decide, x_in (k := 689) (by decide +kernel) rfl⟩
theorem fl_X7_46 : x_fl RX7 46 7 18 := ⟨_, _, _, rfl, by decide, x_in (k := 690) (by decide +kernel) rfl⟩
theorem fl_X7_49 : x_fl RX7 49 7 19 := ⟨_, _, _, rfl, by decide, x_in (k := 691) (by decide +kernel) rfl⟩
theorem fl_X7_52 : x_fl RX7 52 7 20 := ⟨_, _, _, rfl, by decide, x_in (k := 692) (by decide +kernel) rfl⟩
theorem fl_X7_55 : x_fl RX7 55 7 21 := ⟨_, _, _, rfl, by decide, x_in (k := 693) (by decide +kernel) rfl⟩
theorem fl_X7_104 : x_fl RX7 104 7 22 := ⟨_, _, _, rfl, by decide, x_in (k := 694) (by decide +kernel) rfl⟩
theorem fl_X7_107 : x_fl RX7 107 7 23 := ⟨_, _, _, rfl, by decide, x_in (k := 695) (by decide +kernel) rfl⟩
theorem fl_X7_121 : x_fl RX7 121 7 24 := ⟨_, _, _, rfl, by decide, x_in (k := 696) (by decide +kernel) rfl⟩
theorem fl_X7_127 : x_fl RX7 127 7 25 := ⟨_, _, _, rfl, by decide, x_in (k := 697) (by decide +kernel) rfl⟩
theorem fl_X7_58 : x_fl RX7 58 7 26 := ⟨_, _, _, rfl, by decide, x_in (k := 698) (by decide +kernel) rfl⟩
theorem fl_X7_118 : x_fl RX7 118 7 27 := ⟨_, _, _, rfl, by decide, x_in (k := 699) (by decide +kernel) rfl⟩
theorem fl_X7_61 : x_fl RX7 61 7 28 := ⟨_, _, _, rfl, by decide, x_in (k := 700) (by decide +kernel) rfl⟩
theorem fl_X7_145 : x_fl RX7 145 7 29 := ⟨_, _, _, rfl, by decide, x_in (k := 701) (by decide +kernel) rfl⟩
theorem fl_X7_64 : x_fl RX7 64 7 30 := ⟨_, _, _, rfl, by decide, x_in (k := 702) (by decide +kernel) rfl⟩
theorem fl_X7_223 : x_fl RX7 223 7 31 := ⟨_, _, _, rfl, by decide, x_in (k := 703) (by decide +kernel) rfl⟩
theorem fl_X7_67 : x_fl RX7 67 7 32 := ⟨_, _, _, rfl, by decide, x_in (k := 704) (by decide +kernel) rfl⟩
theorem fl_X7_70 : x_fl RX7 70 7 33 := ⟨_, _, _, rfl, by decide, x_in (k := 705) (by decide +kernel) rfl⟩
theorem fl_X7_73 : x_fl RX7 73 7 34 := ⟨_, _, _, rfl, by decide, x_in (k := 706) (by decide +kernel) rfl⟩
theorem fl_X7_148 : x_fl RX7 148 7 35 := ⟨_, _, _, rfl, by decide, x_in (k := 707) (by decide +kernel) rfl⟩
theorem mb_X6_init : x_cB yX6_init cX6_init 2 none 0 := ⟨x_in (k := 47) (by decide +kernel) rfl, x_in (k := 66) (by decide +kernel) rfl, ⟨by decide +kernel, by decide +kernel⟩, by decide +kernel⟩
theorem mb_X5_init : x_cB yX5_init cX5_init 1 none 0 := ⟨x_in (k := 48) (by decide +kernel) rfl, x_in (k := 74) (by decide +kernel) rfl, ⟨by decide +kernel, by decide +kernel⟩, by decide +kernel⟩
theorem mb_X3_init : x_cB yX3_init cX3_init 1 none 0 := ⟨x_in (k := 49) (by decide +kernel) rfl, x_in (k := 93) (by decide +kernel) rfl, ⟨by decide +kernel, by decide +kernel⟩, by decide +kernel⟩
theorem mb_X0_init : x_cB yX0_init cX0_init 2 none 1 := ⟨x_in (k := 50) (by decide +kernel) rfl, x_in (k := 128) (by decide +kernel) rfl, ⟨by decide +kernel, by decide +kernel⟩, by decide +kernel⟩
theorem mb_X2_init : x_cB yX2_init cX2_init 4 none 2 := ⟨x_in (k := 51) (by decide +kernel) rfl, x_in (k := 179) (by decide +kernel) rfl, ⟨by decide +kernel, by decide +kernel⟩, by decide +kernel⟩
theorem mb_J9_max_7cf53 : x_cB yJ9_max_7cf53 cJ9_max_7cf53 2 (some .int) 2 := ⟨x_in (k := 52) (by decide +kernel) rfl, x_in (k := 183) (by decide +kernel) rfl, ⟨by decide +kernel, by decide +kernel⟩, by decide +kernel⟩
theorem mb_X4_init : x_cB yX4_init cX4_init 1 none 0 := ⟨x_in (k := 53) (by decide +kernel) rfl, x_in (k := 202) (by decide +kernel) rfl, ⟨by decide +kernel, by decide +kernel⟩, by decide +kernel⟩
theorem mb_X1_init : x_cB yX1_init cX1_init 3 none 1 := ⟨x_in (k := 54) (by decide +kernel) rfl, x_in (k := 223) (by decide +kernel) rfl, ⟨by decide +kernel, by decide +kernel⟩, by decide +kernel⟩
theorem mb_J0_length_8abf5 : x_cB yJ0_length_8abf5 cJ0_length_8abf5 1 (some .int) 0 := ⟨x_in (k := 55) (by decide +kernel) rfl, x_in (k := 249) (by decide +kernel) rfl, ⟨by decide +kernel, by decide +kernel⟩, by decide +kernel⟩
theorem mb_J0_coder_7d493 : x_cB yJ0_coder_7d493 cJ0_coder_7d493 1 (some .byte) 0 := ⟨x_in (k := 55) (by decide +kernel) rfl, x_in (k := 253) (by decide +kernel) rfl, ⟨by decide +kernel, by decide +kernel⟩, by decide +kernel⟩
theorem mb_J0_charAt_5068e : x_cB yJ0_charAt_5068e cJ0_charAt_5068e 2 (some .char) 1 := ⟨x_in (k := 55) (by decide +kernel) rfl, x_in (k := 259) (by decide +kernel) rfl, ⟨by decide +kernel, by decide +kernel⟩, by decide +kernel⟩
theorem mb_J0_isLatin1_aae02 : x_cB yJ0_isLatin1_aae02 cJ0_isLatin1_aae02 1 (some .boolean) 0 := ⟨x_in (k := 55) (by decide +kernel) rfl, x_in (k := 263) (by decide +kernel) rfl, ⟨by decide +kernel, by decide +kernel⟩, by decide +kernel⟩
theorem mb_J1_charAt_3b067 : x_cB yJ1_charAt_3b067 cJ1_charAt_3b067 2 (some .char) 2 := ⟨x_in (k := 56) (by decide +kernel) rfl, x_in (k := 266) (by decide +kernel) rfl, ⟨by decide +kernel, by decide +kernel⟩, by decide +kernel⟩
theorem mb_J0_checkIndex_df160 : x_cB yJ0_checkIndex_df160 cJ0_checkIndex_df160 2 none 2 := ⟨x_in (k := 55) (by decide +kernel) rfl, x_in (k := 269) (by decide +kernel) rfl, ⟨by decide +kernel, by decide +kernel⟩, by decide +kernel⟩
theorem mb_J3_checkIndex_8e157 : x_cB yJ3_checkIndex_8e157 cJ3_checkIndex_8e157 3 (some .int) 3 := ⟨x_in (k := 57) (by decide +kernel) rfl, x_in (k := 274) (by decide +kernel) rfl, ⟨by decide +kernel, by decide +kernel⟩, by decide +kernel⟩
theorem mb_J2_charAt_3b067 : x_cB yJ2_charAt_3b067 cJ2_charAt_3b067 2 (some .char) 2 := ⟨x_in (k := 58) (by decide +kernel) rfl, x_in (k := 277) (by decide +kernel) rfl, ⟨by decide +kernel, by decide +kernel⟩, by decide +kernel⟩
theorem mb_J2_checkIndex_2214a : x_cB yJ2_checkIndex_2214a cJ2_checkIndex_2214a 2 none 2 := ⟨x_in (k := 58) (by decide +kernel) rfl, x_in (k := 280) (by decide +kernel) rfl, ⟨by decide +kernel, by decide +kernel⟩, by decide +kernel⟩
theorem mb_J2_length_9d52b : x_cB yJ2_length_9d52b cJ2_length_9d52b 1 (some .int) 1 := ⟨x_in (k := 58) (by decide +kernel) rfl, x_in (k := 283) (by decide +kernel) rfl, ⟨by decide +kernel, by decide +kernel⟩, by decide +kernel⟩
theorem mb_J2_getChar_3b067 : x_cB yJ2_getChar_3b067 cJ2_getChar_3b067 2 (some .char) 2 := ⟨x_in (k := 58) (by decide +kernel) rfl, x_in (k := 287) (by decide +kernel) rfl, ⟨by decide +kernel, by decide +kernel⟩, by decide +kernel⟩
theorem mb_X5_append : x_cB yX5_append cX5_append 2 (some .int) 1 := ⟨x_in (k := 48) (by decide +kernel) rfl, x_in (k := 297) (by decide +kernel) rfl, ⟨by decide +kernel, by decide +kernel⟩, by decide +kernel⟩
theorem mb_X5_readInto : x_cB yX5_readInto cX5_readInto 5 (some .int) 1 := ⟨x_in (k := 48) (by decide +kernel) rfl, x_in (k := 301) (by decide +kernel) rfl, ⟨by decide +kernel, by decide +kernel⟩, by decide +kernel⟩
theorem mb_X3_clear : x_cB yX3_clear cX3_clear 1 none 0 := ⟨x_in (k := 49) (by decide +kernel) rfl, x_in (k := 305) (by decide +kernel) rfl, ⟨by decide +kernel, by decide +kernel⟩, by decide +kernel⟩
theorem mb_X5_readItem : x_cB yX5_readItem cX5_readItem 6 (some .int) 2 := ⟨x_in (k := 48) (by decide +kernel) rfl, x_in (k := 309) (by decide +kernel) rfl, ⟨by decide +kernel, by decide +kernel⟩, by decide +kernel⟩
theorem mb_X5_letterAt : x_cB yX5_letterAt cX5_letterAt 2 (some .char) 1 := ⟨x_in (k := 48) (by decide +kernel) rfl, x_in (k := 313) (by decide +kernel) rfl, ⟨by decide +kernel, by decide +kernel⟩, by decide +kernel⟩
theorem mb_X5_readNumbers : x_cB yX5_readNumbers cX5_readNumbers 6 (some .int) 2 := ⟨x_in (k := 48) (by decide +kernel) rfl, x_in (k := 317) (by decide +kernel) rfl, ⟨by decide +kernel, by decide +kernel⟩, by decide +kernel⟩
theorem mb_X5_isFigure : x_cB yX5_isFigure cX5_isFigure 3 (some .boolean) 1 := ⟨x_in (k := 48) (by decide +kernel) rfl, x_in (k := 321) (by decide +kernel) rfl, ⟨by decide +kernel, by decide +kernel⟩, by decide +kernel⟩
theorem mb_X3_addPerson : x_cB yX3_addPerson cX3_addPerson 5 (some .boolean) 4 := ⟨x_in (k := 49) (by decide +kernel) rfl, x_in (k := 325) (by decide +kernel) rfl, ⟨by decide +kernel, by decide +kernel⟩, by decide +kernel⟩
theorem mb_X3_setStock : x_cB yX3_setStock cX3_setStock 2 (some .boolean) 1 := ⟨x_in (k := 49) (by decide +kernel) rfl, x_in (k := 329) (by decide +kernel) rfl, ⟨by decide +kernel, by decide +kernel⟩, by decide +kernel⟩
theorem mb_X6_startFromDraft : x_cB yX6_startFromDraft cX6_startFromDraft 1 none 0 := ⟨x_in (k := 47) (by decide +kernel) rfl, x_in (k := 333) (by decide +kernel) rfl, ⟨by decide +kernel, by decide +kernel⟩, by decide +kernel⟩
theorem mb_X3_copyFrom : x_cB yX3_copyFrom cX3_copyFrom 2 none 1 := ⟨x_in (k := 49) (by decide +kernel) rfl, x_in (k := 337) (by decide +kernel) rfl, ⟨by decide +kernel, by decide +kernel⟩, by decide +kernel⟩
theorem mb_X0_start : x_cB yX0_start cX0_start 2 none 0 := ⟨x_in (k := 50) (by decide +kernel) rfl, x_in (k := 344) (by decide +kernel) rfl, ⟨by decide +kernel, by decide +kernel⟩, by decide +kernel⟩
theorem mb_X5_empty : x_cB yX5_empty cX5_empty 2 (some .int) 0 := ⟨x_in (k := 48) (by decide +kernel) rfl, x_in (k := 348) (by decide +kernel) rfl, ⟨by decide +kernel, by decide +kernel⟩, by decide +kernel⟩
theorem mb_X6_write : x_cB yX6_write cX6_write 2 (some .int) 1 := ⟨x_in (k := 47) (by decide +kernel) rfl, x_in (k := 387) (by decide +kernel) rfl, ⟨by decide +kernel, by decide +kernel⟩, by decide +kernel⟩
theorem mb_X6_wipe : x_cB yX6_wipe cX6_wipe 1 (some .int) 0 := ⟨x_in (k := 47) (by decide +kernel) rfl, x_in (k := 391) (by decide +kernel) rfl, ⟨by decide +kernel, by decide +kernel⟩, by decide +kernel⟩
theorem mb_X6_fault : x_cB yX6_fault cX6_fault 1 (some .int) 0 := ⟨x_in (k := 47) (by decide +kernel) rfl, x_in (k := 395) (by decide +kernel) rfl, ⟨by decide +kernel, by decide +kernel⟩, by decide +kernel⟩
theorem mb_X6_lay : x_cB yX6_lay cX6_lay 1 (some .int) 0 := ⟨x_in (k := 47) (by decide +kernel) rfl, x_in (k := 399) (by decide +kernel) rfl, ⟨by decide +kernel, by decide +kernel⟩, by decide +kernel⟩
theorem mb_X6_person : x_cB yX6_person cX6_person 3 (some .int) 2 := ⟨x_in (k := 47) (by decide +kernel) rfl, x_in (k := 403) (by decide +kernel) rfl, ⟨by decide +kernel, by decide +kernel⟩, by decide +kernel⟩
theorem mb_X6_isPerson : x_cB yX6_isPerson cX6_isPerson 2 (some .boolean) 1 := ⟨x_in (k := 47) (by decide +kernel) rfl, x_in (k := 407) (by decide +kernel) rfl, ⟨by decide +kernel, by decide +kernel⟩, by decide +kernel⟩
theorem mb_X3_fact : x_cB yX3_fact cX3_fact 3 (some .int) 2 := ⟨x_in (k := 49) (by decide +kernel) rfl, x_in (k := 411) (by decide +kernel) rfl, ⟨by decide +kernel, by decide +kernel⟩, by decide +kernel⟩
theorem mb_X0_standing : x_cB yX0_standing cX0_standing 3 (some .int) 2 := ⟨x_in (k := 50) (by decide +kernel) rfl, x_in (k := 415) (by decide +kernel) rfl, ⟨by decide +kernel, by decide +kernel⟩, by decide +kernel⟩
theorem mb_X6_send : x_cB yX6_send cX6_send 2 (some .int) 1 := ⟨x_in (k := 47) (by decide +kernel) rfl, x_in (k := 419) (by decide +kernel) rfl, ⟨by decide +kernel, by decide +kernel⟩, by decide +kernel⟩
theorem mb_X0_canSendNow : x_cB yX0_canSendNow cX0_canSendNow 2 (some .boolean) 1 := ⟨x_in (k := 50) (by decide +kernel) rfl, x_in (k := 423) (by decide +kernel) rfl, ⟨by decide +kernel, by decide +kernel⟩, by decide +kernel⟩
theorem mb_X0_canBeSentOne : x_cB yX0_canBeSentOne cX0_canBeSentOne 2 (some .boolean) 1 := ⟨x_in (k := 50) (by decide +kernel) rfl, x_in (k := 427) (by decide +kernel) rfl, ⟨by decide +kernel, by decide +kernel⟩, by decide +kernel⟩
theorem mb_X0_isIn : x_cB yX0_isIn cX0_isIn 2 (some .boolean) 2 := ⟨x_in (k := 50) (by decide +kernel) rfl, x_in (k := 430) (by decide +kernel) rfl, ⟨by decide +kernel, by decide +kernel⟩, by decide +kernel⟩
theorem mb_X0_isTold : x_cB yX0_isTold cX0_isTold 2 (some .boolean) 1 := ⟨x_in (k := 50) (by decide +kernel) rfl, x_in (k := 434) (by decide +kernel) rfl, ⟨by decide +kernel, by decide +kernel⟩, by decide +kernel⟩
theorem mb_X2_push : x_cB yX2_push cX2_push 2 none 1 := ⟨x_in (k := 51) (by decide +kernel) rfl, x_in (k := 438) (by decide +kernel) rfl, ⟨by decide +kernel, by decide +kernel⟩, by decide +kernel⟩
theorem mb_X0_copyFrom : x_cB yX0_copyFrom cX0_copyFrom 2 none 1 := ⟨x_in (k := 50) (by decide +kernel) rfl, x_in (k := 442) (by decide +kernel) rfl, ⟨by decide +kernel, by decide +kernel⟩, by decide +kernel⟩
theorem mb_J9_min_7cf53 : x_cB yJ9_min_7cf53 cJ9_min_7cf53 2 (some .int) 2 := ⟨x_in (k := 52) (by decide +kernel) rfl, x_in (k := 446) (by decide +kernel) rfl, ⟨by decide +kernel, by decide +kernel⟩, by decide +kernel⟩
theorem mb_X0_dispatch : x_cB yX0_dispatch cX0_dispatch 2 none 1 := ⟨x_in (k := 50) (by decide +kernel) rfl, x_in (k := 450) (by decide +kernel) rfl, ⟨by decide +kernel, by decide +kernel⟩, by decide +kernel⟩
theorem mb_X0_wayDays : x_cB yX0_wayDays cX0_wayDays 2 (some .int) 1 := ⟨x_in (k := 50) (by decide +kernel) rfl, x_in (k := 454) (by decide +kernel) rfl, ⟨by decide +kernel, by decide +kernel⟩, by decide +kernel⟩
theorem mb_X6_call : x_cB yX6_call cX6_call 2 (some .int) 1 := ⟨x_in (k := 47) (by decide +kernel) rfl, x_in (k := 458) (by decide +kernel) rfl, ⟨by decide +kernel, by decide +kernel⟩, by decide +kernel⟩
theorem mb_X0_recall : x_cB yX0_recall cX0_recall 2 none 1 := ⟨x_in (k := 50) (by decide +kernel) rfl, x_in (k := 462) (by decide +kernel) rfl, ⟨by decide +kernel, by decide +kernel⟩, by decide +kernel⟩
theorem mb_X6_buy : x_cB yX6_buy cX6_buy 1 (some .int) 0 := ⟨x_in (k := 47) (by decide +kernel) rfl, x_in (k := 467) (by decide +kernel) rfl, ⟨by decide +kernel, by decide +kernel⟩, by decide +kernel⟩
theorem mb_X6_pass : x_cB yX6_pass cX6_pass 3 (some .int) 1 := ⟨x_in (k := 47) (by decide +kernel) rfl, x_in (k := 471) (by decide +kernel) rfl, ⟨by decide +kernel, by decide +kernel⟩, by decide +kernel⟩
theorem mb_X0_toldBits : x_cB yX0_toldBits cX0_toldBits 3 (some .int) 0 := ⟨x_in (k := 50) (by decide +kernel) rfl, x_in (k := 475) (by decide +kernel) rfl, ⟨by decide +kernel, by decide +kernel⟩, by decide +kernel⟩
theorem mb_J6_bitCount_0f7a4 : x_cB yJ6_bitCount_0f7a4 cJ6_bitCount_0f7a4 1 (some .int) 1 := ⟨x_in (k := 61) (by decide +kernel) rfl, x_in (k := 478) (by decide +kernel) rfl, ⟨by decide +kernel, by decide +kernel⟩, by decide +kernel⟩
theorem mb_X0_passDays : x_cB yX0_passDays cX0_passDays 3 none 1 := ⟨x_in (k := 50) (by decide +kernel) rfl, x_in (k := 485) (by decide +kernel) rfl, ⟨by decide +kernel, by decide +kernel⟩, by decide +kernel⟩
theorem mb_X0_passDay : x_cB yX0_passDay cX0_passDay 3 none 1 := ⟨x_in (k := 50) (by decide +kernel) rfl, x_in (k := 489) (by decide +kernel) rfl, ⟨by decide +kernel, by decide +kernel⟩, by decide +kernel⟩
theorem mb_X0_comeIn : x_cB yX0_comeIn cX0_comeIn 2 none 1 := ⟨x_in (k := 50) (by decide +kernel) rfl, x_in (k := 493) (by decide +kernel) rfl, ⟨by decide +kernel, by decide +kernel⟩, by decide +kernel⟩
theorem mb_X0_willRefuse : x_cB yX0_willRefuse cX0_willRefuse 2 (some .boolean) 1 := ⟨x_in (k := 50) (by decide +kernel) rfl, x_in (k := 497) (by decide +kernel) rfl, ⟨by decide +kernel, by decide +kernel⟩, by decide +kernel⟩
theorem mb_X0_eatingDays : x_cB yX0_eatingDays cX0_eatingDays 2 (some .int) 2 := ⟨x_in (k := 50) (by decide +kernel) rfl, x_in (k := 500) (by decide +kernel) rfl, ⟨by decide +kernel, by decide +kernel⟩, by decide +kernel⟩
theorem mb_X6_undo : x_cB yX6_undo cX6_undo 1 (some .int) 0 := ⟨x_in (k := 47) (by decide +kernel) rfl, x_in (k := 504) (by decide +kernel) rfl, ⟨by decide +kernel, by decide +kernel⟩, by decide +kernel⟩
theorem mb_X2_popInto : x_cB yX2_popInto cX2_popInto 2 (some .boolean) 1 := ⟨x_in (k := 51) (by decide +kernel) rfl, x_in (k := 508) (by decide +kernel) rfl, ⟨by decide +kernel, by decide +kernel⟩, by decide +kernel⟩
theorem mb_X6_behind : x_cB yX6_behind cX6_behind 3 (some .int) 2 := ⟨x_in (k := 47) (by decide +kernel) rfl, x_in (k := 512) (by decide +kernel) rfl, ⟨by decide +kernel, by decide +kernel⟩, by decide +kernel⟩
theorem mb_X0_eatingBits : x_cB yX0_eatingBits cX0_eatingBits 3 (some .int) 0 := ⟨x_in (k := 50) (by decide +kernel) rfl, x_in (k := 517) (by decide +kernel) rfl, ⟨by decide +kernel, by decide +kernel⟩, by decide +kernel⟩
theorem mb_X6_when : x_cB yX6_when cX6_when 3 (some .int) 1 := ⟨x_in (k := 47) (by decide +kernel) rfl, x_in (k := 521) (by decide +kernel) rfl, ⟨by decide +kernel, by decide +kernel⟩, by decide +kernel⟩
theorem mb_X6_gentle : x_cB yX6_gentle cX6_gentle 1 (some .int) 0 := ⟨x_in (k := 47) (by decide +kernel) rfl, x_in (k := 527) (by decide +kernel) rfl, ⟨by decide +kernel, by decide +kernel⟩, by decide +kernel⟩
theorem mb_X0_finalWeight : x_cB yX0_finalWeight cX0_finalWeight 4 (some .int) 1 := ⟨x_in (k := 50) (by decide +kernel) rfl, x_in (k := 531) (by decide +kernel) rfl, ⟨by decide +kernel, by decide +kernel⟩, by decide +kernel⟩
theorem mb_X0_endsSoft : x_cB yX0_endsSoft cX0_endsSoft 3 (some .boolean) 1 := ⟨x_in (k := 50) (by decide +kernel) rfl, x_in (k := 535) (by decide +kernel) rfl, ⟨by decide +kernel, by decide +kernel⟩, by decide +kernel⟩
theorem mb_X0_spareDays : x_cB yX0_spareDays cX0_spareDays 2 (some .int) 1 := ⟨x_in (k := 50) (by decide +kernel) rfl, x_in (k := 540) (by decide +kernel) rfl, ⟨by decide +kernel, by decide +kernel⟩, by decide +kernel⟩
theorem mb_X6_latest : x_cB yX6_latest cX6_latest 3 (some .int) 1 := ⟨x_in (k := 47) (by decide +kernel) rfl, x_in (k := 544) (by decide +kernel) rfl, ⟨by decide +kernel, by decide +kernel⟩, by decide +kernel⟩
theorem mb_X6_order : x_cB yX6_order cX6_order 3 (some .int) 1 := ⟨x_in (k := 47) (by decide +kernel) rfl, x_in (k := 550) (by decide +kernel) rfl, ⟨by decide +kernel, by decide +kernel⟩, by decide +kernel⟩
theorem mb_X1_run : x_cB yX1_run cX1_run 6 (some .int) 2 := ⟨x_in (k := 54) (by decide +kernel) rfl, x_in (k := 554) (by decide +kernel) rfl, ⟨by decide +kernel, by decide +kernel⟩, by decide +kernel⟩
theorem mb_X1_extend : x_cB yX1_extend cX1_extend 6 none 3 := ⟨x_in (k := 54) (by decide +kernel) rfl, x_in (k := 560) (by decide +kernel) rfl, ⟨by decide +kernel, by decide +kernel⟩, by decide +kernel⟩
theorem mb_X6_need : x_cB yX6_need cX6_need 3 (some .int) 0 := ⟨x_in (k := 47) (by decide +kernel) rfl, x_in (k := 569) (by decide +kernel) rfl, ⟨by decide +kernel, by decide +kernel⟩, by decide +kernel⟩
theorem mb_X6_seen : x_cB yX6_seen cX6_seen 4 (some .int) 3 := ⟨x_in (k := 47) (by decide +kernel) rfl, x_in (k := 573) (by decide +kernel) rfl, ⟨by decide +kernel, by decide +kernel⟩, by decide +kernel⟩
theorem mb_X4_add : x_cB yX4_add cX4_add 4 none 3 := ⟨x_in (k := 53) (by decide +kernel) rfl, x_in (k := 577) (by decide +kernel) rfl, ⟨by decide +kernel, by decide +kernel⟩, by decide +kernel⟩
theorem mb_X6_forget : x_cB yX6_forget cX6_forget 2 (some .int) 0 := ⟨x_in (k := 47) (by decide +kernel) rfl, x_in (k := 581) (by decide +kernel) rfl, ⟨by decide +kernel, by decide +kernel⟩, by decide +kernel⟩
theorem mb_X6_kinds : x_cB yX6_kinds cX6_kinds 4 (some .int) 1 := ⟨x_in (k := 47) (by decide +kernel) rfl, x_in (k := 585) (by decide +kernel) rfl, ⟨by decide +kernel, by decide +kernel⟩, by decide +kernel⟩
theorem mb_X6_guessFits : x_cB yX6_guessFits cX6_guessFits 1 (some .boolean) 0 := ⟨x_in (k := 47) (by decide +kernel) rfl, x_in (k := 589) (by decide +kernel) rfl, ⟨by decide +kernel, by decide +kernel⟩, by decide +kernel⟩
theorem mb_X4_allHold : x_cB yX4_allHold cX4_allHold 4 (some .boolean) 1 := ⟨x_in (k := 53) (by decide +kernel) rfl, x_in (k := 593) (by decide +kernel) rfl, ⟨by decide +kernel, by decide +kernel⟩, by decide +kernel⟩
theorem mb_X4_holdAfter : x_cB yX4_holdAfter cX4_holdAfter 4 (some .boolean) 2 := ⟨x_in (k := 53) (by decide +kernel) rfl, x_in (k := 598) (by decide +kernel) rfl, ⟨by decide +kernel, by decide +kernel⟩, by decide +kernel⟩
theorem mb_X6_days : x_cB yX6_days cX6_days 6 (some .int) 2 := ⟨x_in (k := 47) (by decide +kernel) rfl, x_in (k := 604) (by decide +kernel) rfl, ⟨by decide +kernel, by decide +kernel⟩, by decide +kernel⟩
theorem mb_X6_likely : x_cB yX6_likely cX6_likely 8 (some .int) 4 := ⟨x_in (k := 47) (by decide +kernel) rfl, x_in (k := 608) (by decide +kernel) rfl, ⟨by decide +kernel, by decide +kernel⟩, by decide +kernel⟩
theorem mb_X6_softWithFrosts : x_cB yX6_softWithFrosts cX6_softWithFrosts 5 (some .boolean) 3 := ⟨x_in (k := 47) (by decide +kernel) rfl, x_in (k := 612) (by decide +kernel) rfl, ⟨by decide +kernel, by decide +kernel⟩, by decide +kernel⟩
theorem mb_X6_weightOfFrosts : x_cB yX6_weightOfFrosts cX6_weightOfFrosts 5 (some .int) 3 := ⟨x_in (k := 47) (by decide +kernel) rfl, x_in (k := 616) (by decide +kernel) rfl, ⟨by decide +kernel, by decide +kernel⟩, by decide +kernel⟩
theorem mb_X6_greatestDivisor : x_cB yX6_greatestDivisor cX6_greatestDivisor 6 (some .int) 2 := ⟨x_in (k := 47) (by decide +kernel) rfl, x_in (k := 619) (by decide +kernel) rfl, ⟨by decide +kernel, by decide +kernel⟩, by decide +kernel⟩
theorem mb_X6_year : x_cB yX6_year cX6_year 5 (some .int) 3 := ⟨x_in (k := 47) (by decide +kernel) rfl, x_in (k := 623) (by decide +kernel) rfl, ⟨by decide +kernel, by decide +kernel⟩, by decide +kernel⟩
theorem mb_X6_draw : x_cB yX6_draw cX6_draw 4 (some .int) 2 := ⟨x_in (k := 47) (by decide +kernel) rfl, x_in (k := 626) (by decide +kernel) rfl, ⟨by decide +kernel, by decide +kernel⟩, by decide +kernel⟩
theorem mb_X0_actByDraw : x_cB yX0_actByDraw cX0_actByDraw 4 none 1 := ⟨x_in (k := 50) (by decide +kernel) rfl, x_in (k := 634) (by decide +kernel) rfl, ⟨by decide +kernel, by decide +kernel⟩, by decide +kernel⟩
theorem mb_X0_softWeight : x_cB yX0_softWeight cX0_softWeight 3 (some .int) 0 := ⟨x_in (k := 50) (by decide +kernel) rfl, x_in (k := 641) (by decide +kernel) rfl, ⟨by decide +kernel, by decide +kernel⟩, by decide +kernel⟩
theorem mb_X6_keep : x_cB yX6_keep cX6_keep 1 (some .int) 0 := ⟨x_in (k := 47) (by decide +kernel) rfl, x_in (k := 645) (by decide +kernel) rfl, ⟨by decide +kernel, by decide +kernel⟩, by decide +kernel⟩
theorem mb_X6_back : x_cB yX6_back cX6_back 1 (some .int) 0 := ⟨x_in (k := 47) (by decide +kernel) rfl, x_in (k := 649) (by decide +kernel) rfl, ⟨by decide +kernel, by decide +kernel⟩, by decide +kernel⟩
theorem mb_X6_count : x_cB yX6_count cX6_count 2 (some .int) 1 := ⟨x_in (k := 47) (by decide +kernel) rfl, x_in (k := 653) (by decide +kernel) rfl, ⟨by decide +kernel, by decide +kernel⟩, by decide +kernel⟩
theorem mb_X0_allOnWay : x_cB yX0_allOnWay cX0_allOnWay 3 (some .int) 0 := ⟨x_in (k := 50) (by decide +kernel) rfl, x_in (k := 657) (by decide +kernel) rfl, ⟨by decide +kernel, by decide +kernel⟩, by decide +kernel⟩
theorem mb_X7_init : x_cB yX7_init cX7_init 1 none 0 := ⟨x_in (k := 60) (by decide +kernel) rfl, x_in (k := 662) (by decide +kernel) rfl, ⟨by decide +kernel, by decide +kernel⟩, by decide +kernel⟩
theorem mb_X7_firstOne : x_cB yX7_firstOne cX7_firstOne 5 none 4 := ⟨x_in (k := 60) (by decide +kernel) rfl, x_in (k := 667) (by decide +kernel) rfl, ⟨by decide +kernel, by decide +kernel⟩, by decide +kernel⟩
theorem mb_X7_begin : x_cB yX7_begin cX7_begin 3 none 1 := ⟨x_in (k := 60) (by decide +kernel) rfl, x_in (k := 671) (by decide +kernel) rfl, ⟨by decide +kernel, by decide +kernel⟩, by decide +kernel⟩
theorem mb_X7_write : x_cB yX7_write cX7_write 2 (some .int) 1 := ⟨x_in (k := 60) (by decide +kernel) rfl, x_in (k := 784) (by decide +kernel) rfl, ⟨by decide +kernel, by decide +kernel⟩, by decide +kernel⟩
theorem mb_X7_in : x_cB yX7_in cX7_in 3 (some .boolean) 3 := ⟨x_in (k := 60) (by decide +kernel) rfl, x_in (k := 787) (by decide +kernel) rfl, ⟨by decide +kernel, by decide +kernel⟩, by decide +kernel⟩
theorem mb_X7_wipe : x_cB yX7_wipe cX7_wipe 2 (some .int) 0 := ⟨x_in (k := 60) (by decide +kernel) rfl, x_in (k := 791) (by decide +kernel) rfl, ⟨by decide +kernel, by decide +kernel⟩, by decide +kernel⟩
theorem mb_X7_fault : x_cB yX7_fault cX7_fault 2 (some .int) 0 := ⟨x_in (k := 60) (by decide +kernel) rfl, x_in (k := 795) (by decide +kernel) rfl, ⟨by decide +kernel, by decide +kernel⟩, by decide +kernel⟩
theorem mb_X7_readsItem : x_cB yX7_readsItem cX7_readsItem 2 (some .boolean) 0 := ⟨x_in (k := 60) (by decide +kernel) rfl, x_in (k := 799) (by decide +kernel) rfl, ⟨by decide +kernel, by decide +kernel⟩, by decide +kernel⟩
theorem mb_X7_here : x_cB yX7_here cX7_here 1 (some .int) 0 := ⟨x_in (k := 60) (by decide +kernel) rfl, x_in (k := 803) (by decide +kernel) rfl, ⟨by decide +kernel, by decide +kernel⟩, by decide +kernel⟩
theorem mb_X7_readsOne : x_cB yX7_readsOne cX7_readsOne 2 (some .boolean) 0 := ⟨x_in (k := 60) (by decide +kernel) rfl, x_in (k := 807) (by decide +kernel) rfl, ⟨by decide +kernel, by decide +kernel⟩, by decide +kernel⟩
theorem mb_X7_number : x_cB yX7_number cX7_number 5 (some .boolean) 3 := ⟨x_in (k := 60) (by decide +kernel) rfl, x_in (k := 811) (by decide +kernel) rfl, ⟨by decide +kernel, by decide +kernel⟩, by decide +kernel⟩
theorem mb_X7_isFigure : x_cB yX7_isFigure cX7_isFigure 1 (some .boolean) 0 := ⟨x_in (k := 60) (by decide +kernel) rfl, x_in (k := 815) (by decide +kernel) rfl, ⟨by decide +kernel, by decide +kernel⟩, by decide +kernel⟩
theorem mb_X7_readsStock : x_cB yX7_readsStock cX7_readsStock 1 (some .boolean) 0 := ⟨x_in (k := 60) (by decide +kernel) rfl, x_in (k := 819) (by decide +kernel) rfl, ⟨by decide +kernel, by decide +kernel⟩, by decide +kernel⟩
theorem mb_X7_lay : x_cB yX7_lay cX7_lay 2 (some .int) 0 := ⟨x_in (k := 60) (by decide +kernel) rfl, x_in (k := 823) (by decide +kernel) rfl, ⟨by decide +kernel, by decide +kernel⟩, by decide +kernel⟩
theorem mb_X7_person : x_cB yX7_person cX7_person 3 (some .int) 2 := ⟨x_in (k := 60) (by decide +kernel) rfl, x_in (k := 828) (by decide +kernel) rfl, ⟨by decide +kernel, by decide +kernel⟩, by decide +kernel⟩
theorem mb_X7_isOne : x_cB yX7_isOne cX7_isOne 2 (some .boolean) 1 := ⟨x_in (k := 60) (by decide +kernel) rfl, x_in (k := 832) (by decide +kernel) rfl, ⟨by decide +kernel, by decide +kernel⟩, by decide +kernel⟩
theorem mb_X7_personTells : x_cB yX7_personTells cX7_personTells 3 (some .int) 2 := ⟨x_in (k := 60) (by decide +kernel) rfl, x_in (k := 836) (by decide +kernel) rfl, ⟨by decide +kernel, by decide +kernel⟩, by decide +kernel⟩
theorem mb_X7_send : x_cB yX7_send cX7_send 2 (some .int) 1 := ⟨x_in (k := 60) (by decide +kernel) rfl, x_in (k := 840) (by decide +kernel) rfl, ⟨by decide +kernel, by decide +kernel⟩, by decide +kernel⟩
theorem mb_X7_maySend : x_cB yX7_maySend cX7_maySend 2 (some .boolean) 1 := ⟨x_in (k := 60) (by decide +kernel) rfl, x_in (k := 844) (by decide +kernel) rfl, ⟨by decide +kernel, by decide +kernel⟩, by decide +kernel⟩
theorem mb_X7_isOpen : x_cB yX7_isOpen cX7_isOpen 2 (some .boolean) 1 := ⟨x_in (k := 60) (by decide +kernel) rfl, x_in (k := 848) (by decide +kernel) rfl, ⟨by decide +kernel, by decide +kernel⟩, by decide +kernel⟩
theorem mb_X7_notes : x_cB yX7_notes cX7_notes 2 none 0 := ⟨x_in (k := 60) (by decide +kernel) rfl, x_in (k := 852) (by decide +kernel) rfl, ⟨by decide +kernel, by decide +kernel⟩, by decide +kernel⟩
theorem mb_X7_lays : x_cB yX7_lays cX7_lays 4 none 2 := ⟨x_in (k := 60) (by decide +kernel) rfl, x_in (k := 856) (by decide +kernel) rfl, ⟨by decide +kernel, by decide +kernel⟩, by decide +kernel⟩
theorem mb_X7_sends : x_cB yX7_sends cX7_sends 2 none 1 := ⟨x_in (k := 60) (by decide +kernel) rfl, x_in (k := 860) (by decide +kernel) rfl, ⟨by decide +kernel, by decide +kernel⟩, by decide +kernel⟩
theorem mb_X7_goesOut : x_cB yX7_goesOut cX7_goesOut 2 none 1 := ⟨x_in (k := 60) (by decide +kernel) rfl, x_in (k := 864) (by decide +kernel) rfl, ⟨by decide +kernel, by decide +kernel⟩, by decide +kernel⟩
theorem mb_X7_call : x_cB yX7_call cX7_call 2 (some .int) 1 := ⟨x_in (k := 60) (by decide +kernel) rfl, x_in (k := 868) (by decide +kernel) rfl, ⟨by decide +kernel, by decide +kernel⟩, by decide +kernel⟩
theorem mb_X7_calls : x_cB yX7_calls cX7_calls 2 none 1 := ⟨x_in (k := 60) (by decide +kernel) rfl, x_in (k := 872) (by decide +kernel) rfl, ⟨by decide +kernel, by decide +kernel⟩, by decide +kernel⟩
theorem mb_X7_lesser : x_cB yX7_lesser cX7_lesser 2 (some .int) 2 := ⟨x_in (k := 60) (by decide +kernel) rfl, x_in (k := 875) (by decide +kernel) rfl, ⟨by decide +kernel, by decide +kernel⟩, by decide +kernel⟩
theorem mb_X7_buy : x_cB yX7_buy cX7_buy 1 (some .int) 0 := ⟨x_in (k := 60) (by decide +kernel) rfl, x_in (k := 879) (by decide +kernel) rfl, ⟨by decide +kernel, by decide +kernel⟩, by decide +kernel⟩
theorem mb_X7_pass : x_cB yX7_pass cX7_pass 2 (some .int) 1 := ⟨x_in (k := 60) (by decide +kernel) rfl, x_in (k := 883) (by decide +kernel) rfl, ⟨by decide +kernel, by decide +kernel⟩, by decide +kernel⟩
theorem mb_X7_goesOn : x_cB yX7_goesOn cX7_goesOn 4 (some .int) 1 := ⟨x_in (k := 60) (by decide +kernel) rfl, x_in (k := 887) (by decide +kernel) rfl, ⟨by decide +kernel, by decide +kernel⟩, by decide +kernel⟩
theorem mb_X7_passes : x_cB yX7_passes cX7_passes 4 (some .int) 1 := ⟨x_in (k := 60) (by decide +kernel) rfl, x_in (k := 891) (by decide +kernel) rfl, ⟨by decide +kernel, by decide +kernel⟩, by decide +kernel⟩
theorem mb_X7_comesIn : x_cB yX7_comesIn cX7_comesIn 2 none 1 := ⟨x_in (k := 60) (by decide +kernel) rfl, x_in (k := 895) (by decide +kernel) rfl, ⟨by decide +kernel, by decide +kernel⟩, by decide +kernel⟩
theorem mb_X7_eatsBy : x_cB yX7_eatsBy cX7_eatsBy 2 (some .int) 2 := ⟨x_in (k := 60) (by decide +kernel) rfl, x_in (k := 898) (by decide +kernel) rfl, ⟨by decide +kernel, by decide +kernel⟩, by decide +kernel⟩
theorem mb_X7_undo : x_cB yX7_undo cX7_undo 1 (some .int) 0 := ⟨x_in (k := 60) (by decide +kernel) rfl, x_in (k := 902) (by decide +kernel) rfl, ⟨by decide +kernel, by decide +kernel⟩, by decide +kernel⟩
theorem mb_X7_takes : x_cB yX7_takes cX7_takes 4 none 2 := ⟨x_in (k := 60) (by decide +kernel) rfl, x_in (k := 906) (by decide +kernel) rfl, ⟨by decide +kernel, by decide +kernel⟩, by decide +kernel⟩
theorem mb_X7_behind : x_cB yX7_behind cX7_behind 4 (some .int) 2 := ⟨x_in (k := 60) (by decide +kernel) rfl, x_in (k := 910) (by decide +kernel) rfl, ⟨by decide +kernel, by decide +kernel⟩, by decide +kernel⟩
theorem mb_X7_start : x_cB yX7_start cX7_start 1 none 0 := ⟨x_in (k := 60) (by decide +kernel) rfl, x_in (k := 914) (by decide +kernel) rfl, ⟨by decide +kernel, by decide +kernel⟩, by decide +kernel⟩
theorem mb_X7_eatSet : x_cB yX7_eatSet cX7_eatSet 3 (some .int) 0 := ⟨x_in (k := 60) (by decide +kernel) rfl, x_in (k := 918) (by decide +kernel) rfl, ⟨by decide +kernel, by decide +kernel⟩, by decide +kernel⟩
theorem mb_X7_toldSet : x_cB yX7_toldSet cX7_toldSet 3 (some .int) 0 := ⟨x_in (k := 60) (by decide +kernel) rfl, x_in (k := 922) (by decide +kernel) rfl, ⟨by decide +kernel, by decide +kernel⟩, by decide +kernel⟩
theorem mb_X7_softSet : x_cB yX7_softSet cX7_softSet 3 (some .int) 0 := ⟨x_in (k := 60) (by decide +kernel) rfl, x_in (k := 926) (by decide +kernel) rfl, ⟨by decide +kernel, by decide +kernel⟩, by decide +kernel⟩
theorem mb_X7_putBack : x_cB yX7_putBack cX7_putBack 1 none 0 := ⟨x_in (k := 60) (by decide +kernel) rfl, x_in (k := 930) (by decide +kernel) rfl, ⟨by decide +kernel, by decide +kernel⟩, by decide +kernel⟩
theorem mb_X7_when : x_cB yX7_when cX7_when 4 (some .int) 1 := ⟨x_in (k := 60) (by decide +kernel) rfl, x_in (k := 934) (by decide +kernel) rfl, ⟨by decide +kernel, by decide +kernel⟩, by decide +kernel⟩
theorem mb_X7_gentle : x_cB yX7_gentle cX7_gentle 2 (some .int) 0 := ⟨x_in (k := 60) (by decide +kernel) rfl, x_in (k := 938) (by decide +kernel) rfl, ⟨by decide +kernel, by decide +kernel⟩, by decide +kernel⟩
theorem mb_X7_softWeight : x_cB yX7_softWeight cX7_softWeight 3 (some .int) 0 := ⟨x_in (k := 60) (by decide +kernel) rfl, x_in (k := 942) (by decide +kernel) rfl, ⟨by decide +kernel, by decide +kernel⟩, by decide +kernel⟩
theorem mb_X7_latest : x_cB yX7_latest cX7_latest 3 (some .int) 1 := ⟨x_in (k := 60) (by decide +kernel) rfl, x_in (k := 946) (by decide +kernel) rfl, ⟨by decide +kernel, by decide +kernel⟩, by decide +kernel⟩
theorem mb_X7_isSoftBy : x_cB yX7_isSoftBy cX7_isSoftBy 4 (some .boolean) 2 := ⟨x_in (k := 60) (by decide +kernel) rfl, x_in (k := 950) (by decide +kernel) rfl, ⟨by decide +kernel, by decide +kernel⟩, by decide +kernel⟩
theorem mb_X7_order : x_cB yX7_order cX7_order 3 (some .int) 1 := ⟨x_in (k := 60) (by decide +kernel) rfl, x_in (k := 954) (by decide +kernel) rfl, ⟨by decide +kernel, by decide +kernel⟩, by decide +kernel⟩
theorem mb_X7_mostBy : x_cB yX7_mostBy cX7_mostBy 6 (some .int) 1 := ⟨x_in (k := 60) (by decide +kernel) rfl, x_in (k := 958) (by decide +kernel) rfl, ⟨by decide +kernel, by decide +kernel⟩, by decide +kernel⟩
theorem mb_X7_firstRow : x_cB yX7_firstRow cX7_firstRow 2 none 0 := ⟨x_in (k := 60) (by decide +kernel) rfl, x_in (k := 962) (by decide +kernel) rfl, ⟨by decide +kernel, by decide +kernel⟩, by decide +kernel⟩
theorem mb_X7_gentleBy : x_cB yX7_gentleBy cX7_gentleBy 3 (some .int) 1 := ⟨x_in (k := 60) (by decide +kernel) rfl, x_in (k := 966) (by decide +kernel) rfl, ⟨by decide +kernel, by decide +kernel⟩, by decide +kernel⟩
theorem mb_X7_nextRow : x_cB yX7_nextRow cX7_nextRow 7 (some .boolean) 0 := ⟨x_in (k := 60) (by decide +kernel) rfl, x_in (k := 970) (by decide +kernel) rfl, ⟨by decide +kernel, by decide +kernel⟩, by decide +kernel⟩
theorem mb_X7_need : x_cB yX7_need cX7_need 3 (some .int) 0 := ⟨x_in (k := 60) (by decide +kernel) rfl, x_in (k := 974) (by decide +kernel) rfl, ⟨by decide +kernel, by decide +kernel⟩, by decide +kernel⟩
theorem mb_X7_seen : x_cB yX7_seen cX7_seen 4 (some .int) 3 := ⟨x_in (k := 60) (by decide +kernel) rfl, x_in (k := 978) (by decide +kernel) rfl, ⟨by decide +kernel, by decide +kernel⟩, by decide +kernel⟩
theorem mb_X7_forget : x_cB yX7_forget cX7_forget 2 (some .int) 0 := ⟨x_in (k := 60) (by decide +kernel) rfl, x_in (k := 982) (by decide +kernel) rfl, ⟨by decide +kernel, by decide +kernel⟩, by decide +kernel⟩
theorem mb_X7_kinds : x_cB yX7_kinds cX7_kinds 5 (some .int) 1 := ⟨x_in (k := 60) (by decide +kernel) rfl, x_in (k := 986) (by decide +kernel) rfl, ⟨by decide +kernel, by decide +kernel⟩, by decide +kernel⟩
theorem mb_X7_isSo : x_cB yX7_isSo cX7_isSo 5 (some .boolean) 0 := ⟨x_in (k := 60) (by decide +kernel) rfl, x_in (k := 990) (by decide +kernel) rfl, ⟨by decide +kernel, by decide +kernel⟩, by decide +kernel⟩
theorem mb_X7_days : x_cB yX7_days cX7_days 8 (some .int) 2 := ⟨x_in (k := 60) (by decide +kernel) rfl, x_in (k := 994) (by decide +kernel) rfl, ⟨by decide +kernel, by decide +kernel⟩, by decide +kernel⟩
theorem mb_X7_likely : x_cB yX7_likely cX7_likely 13 (some .int) 4 := ⟨x_in (k := 60) (by decide +kernel) rfl, x_in (k := 998) (by decide +kernel) rfl, ⟨by decide +kernel, by decide +kernel⟩, by decide +kernel⟩
theorem mb_X7_has : x_cB yX7_has cX7_has 2 (some .boolean) 2 := ⟨x_in (k := 60) (by decide +kernel) rfl, x_in (k := 1002) (by decide +kernel) rfl, ⟨by decide +kernel, by decide +kernel⟩, by decide +kernel⟩
theorem mb_X7_common : x_cB yX7_common cX7_common 10 (some .long) 2 := ⟨x_in (k := 60) (by decide +kernel) rfl, x_in (k := 1005) (by decide +kernel) rfl, ⟨by decide +kernel, by decide +kernel⟩, by decide +kernel⟩
theorem mb_X7_year : x_cB yX7_year cX7_year 10 (some .int) 3 := ⟨x_in (k := 60) (by decide +kernel) rfl, x_in (k := 1009) (by decide +kernel) rfl, ⟨by decide +kernel, by decide +kernel⟩, by decide +kernel⟩
theorem mb_X7_bits : x_cB yX7_bits cX7_bits 3 (some .int) 1 := ⟨x_in (k := 60) (by decide +kernel) rfl, x_in (k := 1016) (by decide +kernel) rfl, ⟨by decide +kernel, by decide +kernel⟩, by decide +kernel⟩
theorem mb_X7_keep : x_cB yX7_keep cX7_keep 1 (some .int) 0 := ⟨x_in (k := 60) (by decide +kernel) rfl, x_in (k := 1020) (by decide +kernel) rfl, ⟨by decide +kernel, by decide +kernel⟩, by decide +kernel⟩
theorem mb_X7_back : x_cB yX7_back cX7_back 1 (some .int) 0 := ⟨x_in (k := 60) (by decide +kernel) rfl, x_in (k := 1024) (by decide +kernel) rfl, ⟨by decide +kernel, by decide +kernel⟩, by decide +kernel⟩
theorem mb_X7_count : x_cB yX7_count cX7_count 2 (some .int) 1 := ⟨x_in (k := 60) (by decide +kernel) rfl, x_in (k := 1028) (by decide +kernel) rfl, ⟨by decide +kernel, by decide +kernel⟩, by decide +kernel⟩
theorem mb_X7_sumOf : x_cB yX7_sumOf cX7_sumOf 4 (some .int) 1 := ⟨x_in (k := 60) (by decide +kernel) rfl, x_in (k := 1032) (by decide +kernel) rfl, ⟨by decide +kernel, by decide +kernel⟩, by decide +kernel⟩
theorem cs_L_9 : x_cI RL 9 yX6_init := ⟨x_in (k := 64) (by decide +kernel) rfl, x_in (k := 65) (by decide +kernel) rfl, rfl⟩
theorem cs_X6_9 : x_cN RX6 9 yX5_init "NewsHampers" := ⟨fun _ _ _ h => h.1, x_in (k := 73) (by decide +kernel) rfl, rfl⟩
theorem cs_X6_18 : x_cN RX6 18 yX3_init "NewsHampers" := ⟨fun _ _ _ h => h.2.1, x_in (k := 92) (by decide +kernel) rfl, rfl⟩
theorem cs_X6_31 : x_cI RX6 31 yX0_init := ⟨x_in (k := 126) (by decide +kernel) rfl, x_in (k := 127) (by decide +kernel) rfl, rfl⟩
theorem cs_X6_46 : x_cI RX6 46 yX2_init := ⟨x_in (k := 177) (by decide +kernel) rfl, x_in (k := 178) (by decide +kernel) rfl, rfl⟩
theorem cs_X2_16 : x_cS RX2 16 yJ9_max_7cf53 := ⟨x_in (k := 181) (by decide +kernel) rfl, x_in (k := 182) (by decide +kernel) rfl⟩
theorem cs_X2_28 : x_cI RX2 28 yX0_init := ⟨x_in (k := 186) (by decide +kernel) rfl, x_in (k := 127) (by decide +kernel) rfl, rfl⟩
theorem cs_X6_58 : x_cN RX6 58 yX4_init "NewsHampers" := ⟨fun _ _ _ h => h.2.2.1, x_in (k := 201) (by decide +kernel) rfl, rfl⟩
theorem cs_X6_65 : x_cI RX6 65 yX1_init := ⟨x_in (k := 221) (by decide +kernel) rfl, x_in (k := 222) (by decide +kernel) rfl, rfl⟩
theorem cs_X1_31 : x_cI RX1 31 yX0_init := ⟨x_in (k := 226) (by decide +kernel) rfl, x_in (k := 127) (by decide +kernel) rfl, rfl⟩
theorem cs_X6_72 : x_cV RX6 72 yJ0_length_8abf5 := ⟨x_in (k := 246) (by decide +kernel) rfl, x_in (k := 247) (by decide +kernel) rfl, x_in (k := 248) (by decide +kernel) rfl⟩
theorem cs_J0_335 : x_cV RJ0 335 yJ0_coder_7d493 := ⟨x_in (k := 250) (by decide +kernel) rfl, x_in (k := 251) (by decide +kernel) rfl, x_in (k := 252) (by decide +kernel) rfl⟩
theorem cs_X6_78 : x_cV RX6 78 yJ0_charAt_5068e := ⟨x_in (k := 256) (by decide +kernel) rfl, x_in (k := 257) (by decide +kernel) rfl, x_in (k := 258) (by decide +kernel) rfl⟩
theorem cs_J0_492 : x_cV RJ0 492 yJ0_isLatin1_aae02 := ⟨x_in (k := 260) (by decide +kernel) rfl, x_in (k := 261) (by decide +kernel) rfl, x_in (k := 262) (by decide +kernel) rfl⟩
theorem cs_J0_495 : x_cS RJ0 495 yJ1_charAt_3b067 := ⟨x_in (k := 264) (by decide +kernel) rfl, x_in (k := 265) (by decide +kernel) rfl⟩
theorem cs_J1_9 : x_cS RJ1 9 yJ0_checkIndex_df160 := ⟨x_in (k := 267) (by decide +kernel) rfl, x_in (k := 268) (by decide +kernel) rfl⟩
theorem cs_J0_1059 : x_cS RJ0 1059 yJ3_checkIndex_8e157 := ⟨x_in (k := 272) (by decide +kernel) rfl, x_in (k := 273) (by decide +kernel) rfl⟩
theorem cs_J0_498 : x_cS RJ0 498 yJ2_charAt_3b067 := ⟨x_in (k := 275) (by decide +kernel) rfl, x_in (k := 276) (by decide +kernel) rfl⟩
theorem cs_J2_67 : x_cS RJ2 67 yJ2_checkIndex_2214a := ⟨x_in (k := 278) (by decide +kernel) rfl, x_in (k := 279) (by decide +kernel) rfl⟩
theorem cs_J2_48 : x_cS RJ2 48 yJ2_length_9d52b := ⟨x_in (k := 281) (by decide +kernel) rfl, x_in (k := 282) (by decide +kernel) rfl⟩
theorem cs_J2_414 : x_cS RJ2 414 yJ0_checkIndex_df160 := ⟨x_in (k := 284) (by decide +kernel) rfl, x_in (k := 268) (by decide +kernel) rfl⟩
theorem cs_J2_71 : x_cS RJ2 71 yJ2_getChar_3b067 := ⟨x_in (k := 285) (by decide +kernel) rfl, x_in (k := 286) (by decide +kernel) rfl⟩
theorem cs_X6_82 : x_cV RX6 82 yX5_append := ⟨x_in (k := 294) (by decide +kernel) rfl, x_in (k := 295) (by decide +kernel) rfl, x_in (k := 296) (by decide +kernel) rfl⟩
theorem cs_X6_86 : x_cV RX6 86 yX5_readInto := ⟨x_in (k := 298) (by decide +kernel) rfl, x_in (k := 299) (by decide +kernel) rfl, x_in (k := 300) (by decide +kernel) rfl⟩
theorem cs_X5_23 : x_cV RX5 23 yX3_clear := ⟨x_in (k := 302) (by decide +kernel) rfl, x_in (k := 303) (by decide +kernel) rfl, x_in (k := 304) (by decide +kernel) rfl⟩
theorem cs_X5_28 : x_cV RX5 28 yX5_readItem := ⟨x_in (k := 306) (by decide +kernel) rfl, x_in (k := 308) (by decide +kernel) rfl, x_in (k := 0) (by decide +kernel) rfl⟩
theorem cs_X5_32 : x_cV RX5 32 yX5_letterAt := ⟨x_in (k := 310) (by decide +kernel) rfl, x_in (k := 312) (by decide +kernel) rfl, x_in (k := 1) (by decide +kernel) rfl⟩
theorem cs_X5_36 : x_cV RX5 36 yX5_readNumbers := ⟨x_in (k := 314) (by decide +kernel) rfl, x_in (k := 316) (by decide +kernel) rfl, x_in (k := 2) (by decide +kernel) rfl⟩
theorem cs_X5_48 : x_cV RX5 48 yX5_isFigure := ⟨x_in (k := 318) (by decide +kernel) rfl, x_in (k := 320) (by decide +kernel) rfl, x_in (k := 3) (by decide +kernel) rfl⟩
theorem cs_X5_40 : x_cV RX5 40 yX3_addPerson := ⟨x_in (k := 322) (by decide +kernel) rfl, x_in (k := 323) (by decide +kernel) rfl, x_in (k := 324) (by decide +kernel) rfl⟩
theorem cs_X5_44 : x_cV RX5 44 yX3_setStock := ⟨x_in (k := 326) (by decide +kernel) rfl, x_in (k := 327) (by decide +kernel) rfl, x_in (k := 328) (by decide +kernel) rfl⟩
theorem cs_X6_90 : x_cV RX6 90 yX6_startFromDraft := ⟨x_in (k := 330) (by decide +kernel) rfl, x_in (k := 332) (by decide +kernel) rfl, x_in (k := 4) (by decide +kernel) rfl⟩
theorem cs_X6_194 : x_cV RX6 194 yX3_copyFrom := ⟨x_in (k := 334) (by decide +kernel) rfl, x_in (k := 335) (by decide +kernel) rfl, x_in (k := 336) (by decide +kernel) rfl⟩
theorem cs_X6_232 : x_cV RX6 232 yX0_start := ⟨x_in (k := 341) (by decide +kernel) rfl, x_in (k := 342) (by decide +kernel) rfl, x_in (k := 343) (by decide +kernel) rfl⟩
theorem cs_X6_93 : x_cV RX6 93 yX5_empty := ⟨x_in (k := 345) (by decide +kernel) rfl, x_in (k := 346) (by decide +kernel) rfl, x_in (k := 347) (by decide +kernel) rfl⟩
theorem cs_L_13 : x_cV RL 13 yX6_write := ⟨x_in (k := 384) (by decide +kernel) rfl, x_in (k := 385) (by decide +kernel) rfl, x_in (k := 386) (by decide +kernel) rfl⟩
theorem cs_L_18 : x_cV RL 18 yX6_wipe := ⟨x_in (k := 388) (by decide +kernel) rfl, x_in (k := 389) (by decide +kernel) rfl, x_in (k := 390) (by decide +kernel) rfl⟩
theorem cs_L_23 : x_cV RL 23 yX6_fault := ⟨x_in (k := 392) (by decide +kernel) rfl, x_in (k := 393) (by decide +kernel) rfl, x_in (k := 394) (by decide +kernel) rfl⟩
theorem cs_L_27 : x_cV RL 27 yX6_lay := ⟨x_in (k := 396) (by decide +kernel) rfl, x_in (k := 397) (by decide +kernel) rfl, x_in (k := 398) (by decide +kernel) rfl⟩
theorem cs_L_31 : x_cV RL 31 yX6_person := ⟨x_in (k := 400) (by decide +kernel) rfl, x_in (k := 401) (by decide +kernel) rfl, x_in (k := 402) (by decide +kernel) rfl⟩
theorem cs_X6_102 : x_cV RX6 102 yX6_isPerson := ⟨x_in (k := 404) (by decide +kernel) rfl, x_in (k := 406) (by decide +kernel) rfl, x_in (k := 5) (by decide +kernel) rfl⟩
theorem cs_X6_106 : x_cV RX6 106 yX3_fact := ⟨x_in (k := 408) (by decide +kernel) rfl, x_in (k := 409) (by decide +kernel) rfl, x_in (k := 410) (by decide +kernel) rfl⟩
theorem cs_X6_110 : x_cV RX6 110 yX0_standing := ⟨x_in (k := 412) (by decide +kernel) rfl, x_in (k := 413) (by decide +kernel) rfl, x_in (k := 414) (by decide +kernel) rfl⟩
theorem cs_L_36 : x_cV RL 36 yX6_send := ⟨x_in (k := 416) (by decide +kernel) rfl, x_in (k := 417) (by decide +kernel) rfl, x_in (k := 418) (by decide +kernel) rfl⟩
theorem cs_X6_113 : x_cV RX6 113 yX0_canSendNow := ⟨x_in (k := 420) (by decide +kernel) rfl, x_in (k := 421) (by decide +kernel) rfl, x_in (k := 422) (by decide +kernel) rfl⟩
theorem cs_X0_68 : x_cV RX0 68 yX0_canBeSentOne := ⟨x_in (k := 424) (by decide +kernel) rfl, x_in (k := 425) (by decide +kernel) rfl, x_in (k := 426) (by decide +kernel) rfl⟩
theorem cs_X0_60 : x_cS RX0 60 yX0_isIn := ⟨x_in (k := 428) (by decide +kernel) rfl, x_in (k := 429) (by decide +kernel) rfl⟩
theorem cs_X0_64 : x_cV RX0 64 yX0_isTold := ⟨x_in (k := 431) (by decide +kernel) rfl, x_in (k := 432) (by decide +kernel) rfl, x_in (k := 433) (by decide +kernel) rfl⟩
theorem cs_X6_116 : x_cV RX6 116 yX2_push := ⟨x_in (k := 435) (by decide +kernel) rfl, x_in (k := 436) (by decide +kernel) rfl, x_in (k := 437) (by decide +kernel) rfl⟩
theorem cs_X2_31 : x_cV RX2 31 yX0_copyFrom := ⟨x_in (k := 439) (by decide +kernel) rfl, x_in (k := 440) (by decide +kernel) rfl, x_in (k := 441) (by decide +kernel) rfl⟩
theorem cs_X2_35 : x_cS RX2 35 yJ9_min_7cf53 := ⟨x_in (k := 444) (by decide +kernel) rfl, x_in (k := 445) (by decide +kernel) rfl⟩
theorem cs_X6_120 : x_cV RX6 120 yX0_dispatch := ⟨x_in (k := 447) (by decide +kernel) rfl, x_in (k := 448) (by decide +kernel) rfl, x_in (k := 449) (by decide +kernel) rfl⟩
theorem cs_X0_71 : x_cV RX0 71 yX0_wayDays := ⟨x_in (k := 451) (by decide +kernel) rfl, x_in (k := 453) (by decide +kernel) rfl, x_in (k := 6) (by decide +kernel) rfl⟩
theorem cs_L_40 : x_cV RL 40 yX6_call := ⟨x_in (k := 455) (by decide +kernel) rfl, x_in (k := 456) (by decide +kernel) rfl, x_in (k := 457) (by decide +kernel) rfl⟩
theorem cs_X6_131 : x_cV RX6 131 yX0_recall := ⟨x_in (k := 459) (by decide +kernel) rfl, x_in (k := 460) (by decide +kernel) rfl, x_in (k := 461) (by decide +kernel) rfl⟩
theorem cs_X0_75 : x_cS RX0 75 yJ9_min_7cf53 := ⟨x_in (k := 463) (by decide +kernel) rfl, x_in (k := 445) (by decide +kernel) rfl⟩
theorem cs_L_44 : x_cV RL 44 yX6_buy := ⟨x_in (k := 464) (by decide +kernel) rfl, x_in (k := 465) (by decide +kernel) rfl, x_in (k := 466) (by decide +kernel) rfl⟩
theorem cs_L_48 : x_cV RL 48 yX6_pass := ⟨x_in (k := 468) (by decide +kernel) rfl, x_in (k := 469) (by decide +kernel) rfl, x_in (k := 470) (by decide +kernel) rfl⟩
theorem cs_X6_140 : x_cV RX6 140 yX0_toldBits := ⟨x_in (k := 472) (by decide +kernel) rfl, x_in (k := 473) (by decide +kernel) rfl, x_in (k := 474) (by decide +kernel) rfl⟩
theorem cs_X6_143 : x_cS RX6 143 yJ6_bitCount_0f7a4 := ⟨x_in (k := 476) (by decide +kernel) rfl, x_in (k := 477) (by decide +kernel) rfl⟩
theorem cs_X6_148 : x_cV RX6 148 yX0_passDays := ⟨x_in (k := 482) (by decide +kernel) rfl, x_in (k := 483) (by decide +kernel) rfl, x_in (k := 484) (by decide +kernel) rfl⟩
theorem cs_X0_81 : x_cV RX0 81 yX0_passDay := ⟨x_in (k := 486) (by decide +kernel) rfl, x_in (k := 487) (by decide +kernel) rfl, x_in (k := 488) (by decide +kernel) rfl⟩
theorem cs_X0_88 : x_cV RX0 88 yX0_comeIn := ⟨x_in (k := 490) (by decide +kernel) rfl, x_in (k := 492) (by decide +kernel) rfl, x_in (k := 7) (by decide +kernel) rfl⟩
theorem cs_X0_95 : x_cV RX0 95 yX0_willRefuse := ⟨x_in (k := 494) (by decide +kernel) rfl, x_in (k := 496) (by decide +kernel) rfl, x_in (k := 8) (by decide +kernel) rfl⟩
theorem cs_X0_101 : x_cS RX0 101 yX0_eatingDays := ⟨x_in (k := 498) (by decide +kernel) rfl, x_in (k := 499) (by decide +kernel) rfl⟩
theorem cs_L_52 : x_cV RL 52 yX6_undo := ⟨x_in (k := 501) (by decide +kernel) rfl, x_in (k := 502) (by decide +kernel) rfl, x_in (k := 503) (by decide +kernel) rfl⟩
theorem cs_X6_151 : x_cV RX6 151 yX2_popInto := ⟨x_in (k := 505) (by decide +kernel) rfl, x_in (k := 506) (by decide +kernel) rfl, x_in (k := 507) (by decide +kernel) rfl⟩
theorem cs_L_56 : x_cV RL 56 yX6_behind := ⟨x_in (k := 509) (by decide +kernel) rfl, x_in (k := 510) (by decide +kernel) rfl, x_in (k := 511) (by decide +kernel) rfl⟩
theorem cs_X6_156 : x_cV RX6 156 yX0_copyFrom := ⟨x_in (k := 513) (by decide +kernel) rfl, x_in (k := 440) (by decide +kernel) rfl, x_in (k := 441) (by decide +kernel) rfl⟩
theorem cs_X6_159 : x_cV RX6 159 yX0_eatingBits := ⟨x_in (k := 514) (by decide +kernel) rfl, x_in (k := 515) (by decide +kernel) rfl, x_in (k := 516) (by decide +kernel) rfl⟩
theorem cs_L_60 : x_cV RL 60 yX6_when := ⟨x_in (k := 518) (by decide +kernel) rfl, x_in (k := 519) (by decide +kernel) rfl, x_in (k := 520) (by decide +kernel) rfl⟩
theorem cs_X6_165 : x_cV RX6 165 yX0_isTold := ⟨x_in (k := 522) (by decide +kernel) rfl, x_in (k := 432) (by decide +kernel) rfl, x_in (k := 433) (by decide +kernel) rfl⟩
theorem cs_X6_168 : x_cV RX6 168 yX0_passDay := ⟨x_in (k := 523) (by decide +kernel) rfl, x_in (k := 487) (by decide +kernel) rfl, x_in (k := 488) (by decide +kernel) rfl⟩
theorem cs_L_64 : x_cV RL 64 yX6_gentle := ⟨x_in (k := 524) (by decide +kernel) rfl, x_in (k := 525) (by decide +kernel) rfl, x_in (k := 526) (by decide +kernel) rfl⟩
theorem cs_X6_172 : x_cV RX6 172 yX0_finalWeight := ⟨x_in (k := 528) (by decide +kernel) rfl, x_in (k := 529) (by decide +kernel) rfl, x_in (k := 530) (by decide +kernel) rfl⟩
theorem cs_X0_116 : x_cV RX0 116 yX0_endsSoft := ⟨x_in (k := 532) (by decide +kernel) rfl, x_in (k := 533) (by decide +kernel) rfl, x_in (k := 534) (by decide +kernel) rfl⟩
theorem cs_X0_113 : x_cS RX0 113 yJ9_max_7cf53 := ⟨x_in (k := 536) (by decide +kernel) rfl, x_in (k := 182) (by decide +kernel) rfl⟩
theorem cs_X0_119 : x_cV RX0 119 yX0_spareDays := ⟨x_in (k := 537) (by decide +kernel) rfl, x_in (k := 538) (by decide +kernel) rfl, x_in (k := 539) (by decide +kernel) rfl⟩
theorem cs_L_68 : x_cV RL 68 yX6_latest := ⟨x_in (k := 541) (by decide +kernel) rfl, x_in (k := 542) (by decide +kernel) rfl, x_in (k := 543) (by decide +kernel) rfl⟩
theorem cs_X6_175 : x_cV RX6 175 yX0_canBeSentOne := ⟨x_in (k := 545) (by decide +kernel) rfl, x_in (k := 425) (by decide +kernel) rfl, x_in (k := 426) (by decide +kernel) rfl⟩
theorem cs_X6_178 : x_cV RX6 178 yX0_spareDays := ⟨x_in (k := 546) (by decide +kernel) rfl, x_in (k := 538) (by decide +kernel) rfl, x_in (k := 539) (by decide +kernel) rfl⟩
theorem cs_L_72 : x_cV RL 72 yX6_order := ⟨x_in (k := 547) (by decide +kernel) rfl, x_in (k := 548) (by decide +kernel) rfl, x_in (k := 549) (by decide +kernel) rfl⟩
theorem cs_X6_181 : x_cV RX6 181 yX1_run := ⟨x_in (k := 551) (by decide +kernel) rfl, x_in (k := 552) (by decide +kernel) rfl, x_in (k := 553) (by decide +kernel) rfl⟩
theorem cs_X1_34 : x_cV RX1 34 yX0_copyFrom := ⟨x_in (k := 555) (by decide +kernel) rfl, x_in (k := 440) (by decide +kernel) rfl, x_in (k := 441) (by decide +kernel) rfl⟩
theorem cs_X1_48 : x_cV RX1 48 yX0_canBeSentOne := ⟨x_in (k := 556) (by decide +kernel) rfl, x_in (k := 425) (by decide +kernel) rfl, x_in (k := 426) (by decide +kernel) rfl⟩
theorem cs_X1_52 : x_cS RX1 52 yJ6_bitCount_0f7a4 := ⟨x_in (k := 557) (by decide +kernel) rfl, x_in (k := 477) (by decide +kernel) rfl⟩
theorem cs_X1_58 : x_cS RX1 58 yX1_extend := ⟨x_in (k := 558) (by decide +kernel) rfl, x_in (k := 559) (by decide +kernel) rfl⟩
theorem cs_X1_62 : x_cV RX1 62 yX0_finalWeight := ⟨x_in (k := 561) (by decide +kernel) rfl, x_in (k := 529) (by decide +kernel) rfl, x_in (k := 530) (by decide +kernel) rfl⟩
theorem cs_X1_71 : x_cV RX1 71 yX0_canSendNow := ⟨x_in (k := 563) (by decide +kernel) rfl, x_in (k := 421) (by decide +kernel) rfl, x_in (k := 422) (by decide +kernel) rfl⟩
theorem cs_X1_74 : x_cV RX1 74 yX0_dispatch := ⟨x_in (k := 564) (by decide +kernel) rfl, x_in (k := 448) (by decide +kernel) rfl, x_in (k := 449) (by decide +kernel) rfl⟩
theorem cs_X1_78 : x_cV RX1 78 yX0_passDay := ⟨x_in (k := 565) (by decide +kernel) rfl, x_in (k := 487) (by decide +kernel) rfl, x_in (k := 488) (by decide +kernel) rfl⟩
theorem cs_L_76 : x_cV RL 76 yX6_need := ⟨x_in (k := 566) (by decide +kernel) rfl, x_in (k := 567) (by decide +kernel) rfl, x_in (k := 568) (by decide +kernel) rfl⟩
theorem cs_L_80 : x_cV RL 80 yX6_seen := ⟨x_in (k := 570) (by decide +kernel) rfl, x_in (k := 571) (by decide +kernel) rfl, x_in (k := 572) (by decide +kernel) rfl⟩
theorem cs_X6_190 : x_cV RX6 190 yX4_add := ⟨x_in (k := 574) (by decide +kernel) rfl, x_in (k := 575) (by decide +kernel) rfl, x_in (k := 576) (by decide +kernel) rfl⟩
theorem cs_L_85 : x_cV RL 85 yX6_forget := ⟨x_in (k := 578) (by decide +kernel) rfl, x_in (k := 579) (by decide +kernel) rfl, x_in (k := 580) (by decide +kernel) rfl⟩
theorem cs_L_89 : x_cV RL 89 yX6_kinds := ⟨x_in (k := 582) (by decide +kernel) rfl, x_in (k := 583) (by decide +kernel) rfl, x_in (k := 584) (by decide +kernel) rfl⟩
theorem cs_X6_199 : x_cV RX6 199 yX6_guessFits := ⟨x_in (k := 586) (by decide +kernel) rfl, x_in (k := 588) (by decide +kernel) rfl, x_in (k := 9) (by decide +kernel) rfl⟩
theorem cs_X6_235 : x_cV RX6 235 yX4_allHold := ⟨x_in (k := 590) (by decide +kernel) rfl, x_in (k := 591) (by decide +kernel) rfl, x_in (k := 592) (by decide +kernel) rfl⟩
theorem cs_X4_26 : x_cS RX4 26 yJ9_max_7cf53 := ⟨x_in (k := 594) (by decide +kernel) rfl, x_in (k := 182) (by decide +kernel) rfl⟩
theorem cs_X4_32 : x_cV RX4 32 yX4_holdAfter := ⟨x_in (k := 595) (by decide +kernel) rfl, x_in (k := 597) (by decide +kernel) rfl, x_in (k := 10) (by decide +kernel) rfl⟩
theorem cs_X4_42 : x_cV RX4 42 yX0_isTold := ⟨x_in (k := 599) (by decide +kernel) rfl, x_in (k := 432) (by decide +kernel) rfl, x_in (k := 433) (by decide +kernel) rfl⟩
theorem cs_X4_36 : x_cV RX4 36 yX0_passDay := ⟨x_in (k := 600) (by decide +kernel) rfl, x_in (k := 487) (by decide +kernel) rfl, x_in (k := 488) (by decide +kernel) rfl⟩
theorem cs_L_93 : x_cV RL 93 yX6_days := ⟨x_in (k := 601) (by decide +kernel) rfl, x_in (k := 602) (by decide +kernel) rfl, x_in (k := 603) (by decide +kernel) rfl⟩
theorem cs_L_97 : x_cV RL 97 yX6_likely := ⟨x_in (k := 605) (by decide +kernel) rfl, x_in (k := 606) (by decide +kernel) rfl, x_in (k := 607) (by decide +kernel) rfl⟩
theorem cs_X6_206 : x_cV RX6 206 yX6_softWithFrosts := ⟨x_in (k := 609) (by decide +kernel) rfl, x_in (k := 611) (by decide +kernel) rfl, x_in (k := 11) (by decide +kernel) rfl⟩
theorem cs_X6_238 : x_cV RX6 238 yX0_endsSoft := ⟨x_in (k := 613) (by decide +kernel) rfl, x_in (k := 533) (by decide +kernel) rfl, x_in (k := 534) (by decide +kernel) rfl⟩
theorem cs_X6_210 : x_cS RX6 210 yX6_weightOfFrosts := ⟨x_in (k := 614) (by decide +kernel) rfl, x_in (k := 615) (by decide +kernel) rfl⟩
theorem cs_X6_214 : x_cS RX6 214 yX6_greatestDivisor := ⟨x_in (k := 617) (by decide +kernel) rfl, x_in (k := 618) (by decide +kernel) rfl⟩
theorem cs_L_102 : x_cV RL 102 yX6_year := ⟨x_in (k := 620) (by decide +kernel) rfl, x_in (k := 621) (by decide +kernel) rfl, x_in (k := 622) (by decide +kernel) rfl⟩
theorem cs_X6_217 : x_cS RX6 217 yX6_draw := ⟨x_in (k := 624) (by decide +kernel) rfl, x_in (k := 625) (by decide +kernel) rfl⟩
theorem cs_X6_220 : x_cV RX6 220 yX0_actByDraw := ⟨x_in (k := 631) (by decide +kernel) rfl, x_in (k := 632) (by decide +kernel) rfl, x_in (k := 633) (by decide +kernel) rfl⟩
theorem cs_X0_104 : x_cV RX0 104 yX0_canSendNow := ⟨x_in (k := 635) (by decide +kernel) rfl, x_in (k := 421) (by decide +kernel) rfl, x_in (k := 422) (by decide +kernel) rfl⟩
theorem cs_X0_107 : x_cV RX0 107 yX0_dispatch := ⟨x_in (k := 636) (by decide +kernel) rfl, x_in (k := 448) (by decide +kernel) rfl, x_in (k := 449) (by decide +kernel) rfl⟩
theorem cs_X0_110 : x_cV RX0 110 yX0_recall := ⟨x_in (k := 637) (by decide +kernel) rfl, x_in (k := 460) (by decide +kernel) rfl, x_in (k := 461) (by decide +kernel) rfl⟩
theorem cs_X6_223 : x_cV RX6 223 yX0_softWeight := ⟨x_in (k := 638) (by decide +kernel) rfl, x_in (k := 639) (by decide +kernel) rfl, x_in (k := 640) (by decide +kernel) rfl⟩
theorem cs_L_106 : x_cV RL 106 yX6_keep := ⟨x_in (k := 642) (by decide +kernel) rfl, x_in (k := 643) (by decide +kernel) rfl, x_in (k := 644) (by decide +kernel) rfl⟩
theorem cs_L_110 : x_cV RL 110 yX6_back := ⟨x_in (k := 646) (by decide +kernel) rfl, x_in (k := 647) (by decide +kernel) rfl, x_in (k := 648) (by decide +kernel) rfl⟩
theorem cs_L_114 : x_cV RL 114 yX6_count := ⟨x_in (k := 650) (by decide +kernel) rfl, x_in (k := 651) (by decide +kernel) rfl, x_in (k := 652) (by decide +kernel) rfl⟩
theorem cs_X6_226 : x_cV RX6 226 yX0_allOnWay := ⟨x_in (k := 654) (by decide +kernel) rfl, x_in (k := 655) (by decide +kernel) rfl, x_in (k := 656) (by decide +kernel) rfl⟩
theorem cs_L_12 : x_cI RL 12 yX7_init := ⟨x_in (k := 660) (by decide +kernel) rfl, x_in (k := 661) (by decide +kernel) rfl, rfl⟩
theorem cs_X7_76 : x_cV RX7 76 yX7_firstOne := ⟨x_in (k := 664) (by decide +kernel) rfl, x_in (k := 666) (by decide +kernel) rfl, x_in (k := 12) (by decide +kernel) rfl⟩
theorem cs_X7_80 : x_cV RX7 80 yX7_begin := ⟨x_in (k := 668) (by decide +kernel) rfl, x_in (k := 670) (by decide +kernel) rfl, x_in (k := 13) (by decide +kernel) rfl⟩
theorem cs_L_17 : x_cV RL 17 yX7_write := ⟨x_in (k := 781) (by decide +kernel) rfl, x_in (k := 782) (by decide +kernel) rfl, x_in (k := 783) (by decide +kernel) rfl⟩
theorem cs_X7_100 : x_cS RX7 100 yX7_in := ⟨x_in (k := 785) (by decide +kernel) rfl, x_in (k := 786) (by decide +kernel) rfl⟩
theorem cs_L_22 : x_cV RL 22 yX7_wipe := ⟨x_in (k := 788) (by decide +kernel) rfl, x_in (k := 789) (by decide +kernel) rfl, x_in (k := 790) (by decide +kernel) rfl⟩
theorem cs_L_26 : x_cV RL 26 yX7_fault := ⟨x_in (k := 792) (by decide +kernel) rfl, x_in (k := 793) (by decide +kernel) rfl, x_in (k := 794) (by decide +kernel) rfl⟩
theorem cs_X7_136 : x_cV RX7 136 yX7_readsItem := ⟨x_in (k := 796) (by decide +kernel) rfl, x_in (k := 798) (by decide +kernel) rfl, x_in (k := 14) (by decide +kernel) rfl⟩
theorem cs_X7_110 : x_cV RX7 110 yX7_here := ⟨x_in (k := 800) (by decide +kernel) rfl, x_in (k := 802) (by decide +kernel) rfl, x_in (k := 15) (by decide +kernel) rfl⟩
theorem cs_X7_130 : x_cV RX7 130 yX7_readsOne := ⟨x_in (k := 804) (by decide +kernel) rfl, x_in (k := 806) (by decide +kernel) rfl, x_in (k := 16) (by decide +kernel) rfl⟩
theorem cs_X7_124 : x_cV RX7 124 yX7_number := ⟨x_in (k := 808) (by decide +kernel) rfl, x_in (k := 810) (by decide +kernel) rfl, x_in (k := 17) (by decide +kernel) rfl⟩
theorem cs_X7_114 : x_cV RX7 114 yX7_isFigure := ⟨x_in (k := 812) (by decide +kernel) rfl, x_in (k := 814) (by decide +kernel) rfl, x_in (k := 18) (by decide +kernel) rfl⟩
theorem cs_X7_133 : x_cV RX7 133 yX7_readsStock := ⟨x_in (k := 816) (by decide +kernel) rfl, x_in (k := 818) (by decide +kernel) rfl, x_in (k := 19) (by decide +kernel) rfl⟩
theorem cs_L_30 : x_cV RL 30 yX7_lay := ⟨x_in (k := 820) (by decide +kernel) rfl, x_in (k := 821) (by decide +kernel) rfl, x_in (k := 822) (by decide +kernel) rfl⟩
theorem cs_X7_139 : x_cV RX7 139 yX7_fault := ⟨x_in (k := 824) (by decide +kernel) rfl, x_in (k := 793) (by decide +kernel) rfl, x_in (k := 794) (by decide +kernel) rfl⟩
theorem cs_L_35 : x_cV RL 35 yX7_person := ⟨x_in (k := 825) (by decide +kernel) rfl, x_in (k := 826) (by decide +kernel) rfl, x_in (k := 827) (by decide +kernel) rfl⟩
theorem cs_X7_162 : x_cV RX7 162 yX7_isOne := ⟨x_in (k := 829) (by decide +kernel) rfl, x_in (k := 831) (by decide +kernel) rfl, x_in (k := 20) (by decide +kernel) rfl⟩
theorem cs_X7_166 : x_cV RX7 166 yX7_personTells := ⟨x_in (k := 833) (by decide +kernel) rfl, x_in (k := 835) (by decide +kernel) rfl, x_in (k := 21) (by decide +kernel) rfl⟩
theorem cs_L_39 : x_cV RL 39 yX7_send := ⟨x_in (k := 837) (by decide +kernel) rfl, x_in (k := 838) (by decide +kernel) rfl, x_in (k := 839) (by decide +kernel) rfl⟩
theorem cs_X7_182 : x_cV RX7 182 yX7_maySend := ⟨x_in (k := 841) (by decide +kernel) rfl, x_in (k := 843) (by decide +kernel) rfl, x_in (k := 22) (by decide +kernel) rfl⟩
theorem cs_X7_173 : x_cV RX7 173 yX7_isOpen := ⟨x_in (k := 845) (by decide +kernel) rfl, x_in (k := 847) (by decide +kernel) rfl, x_in (k := 23) (by decide +kernel) rfl⟩
theorem cs_X7_185 : x_cV RX7 185 yX7_notes := ⟨x_in (k := 849) (by decide +kernel) rfl, x_in (k := 851) (by decide +kernel) rfl, x_in (k := 24) (by decide +kernel) rfl⟩
theorem cs_X7_169 : x_cV RX7 169 yX7_lays := ⟨x_in (k := 853) (by decide +kernel) rfl, x_in (k := 855) (by decide +kernel) rfl, x_in (k := 25) (by decide +kernel) rfl⟩
theorem cs_X7_188 : x_cV RX7 188 yX7_sends := ⟨x_in (k := 857) (by decide +kernel) rfl, x_in (k := 859) (by decide +kernel) rfl, x_in (k := 26) (by decide +kernel) rfl⟩
theorem cs_X7_176 : x_cV RX7 176 yX7_goesOut := ⟨x_in (k := 861) (by decide +kernel) rfl, x_in (k := 863) (by decide +kernel) rfl, x_in (k := 27) (by decide +kernel) rfl⟩
theorem cs_L_43 : x_cV RL 43 yX7_call := ⟨x_in (k := 865) (by decide +kernel) rfl, x_in (k := 866) (by decide +kernel) rfl, x_in (k := 867) (by decide +kernel) rfl⟩
theorem cs_X7_191 : x_cV RX7 191 yX7_calls := ⟨x_in (k := 869) (by decide +kernel) rfl, x_in (k := 871) (by decide +kernel) rfl, x_in (k := 28) (by decide +kernel) rfl⟩
theorem cs_X7_179 : x_cS RX7 179 yX7_lesser := ⟨x_in (k := 873) (by decide +kernel) rfl, x_in (k := 874) (by decide +kernel) rfl⟩
theorem cs_L_47 : x_cV RL 47 yX7_buy := ⟨x_in (k := 876) (by decide +kernel) rfl, x_in (k := 877) (by decide +kernel) rfl, x_in (k := 878) (by decide +kernel) rfl⟩
theorem cs_L_51 : x_cV RL 51 yX7_pass := ⟨x_in (k := 880) (by decide +kernel) rfl, x_in (k := 881) (by decide +kernel) rfl, x_in (k := 882) (by decide +kernel) rfl⟩
theorem cs_X7_194 : x_cV RX7 194 yX7_goesOn := ⟨x_in (k := 884) (by decide +kernel) rfl, x_in (k := 886) (by decide +kernel) rfl, x_in (k := 29) (by decide +kernel) rfl⟩
theorem cs_X7_158 : x_cV RX7 158 yX7_passes := ⟨x_in (k := 888) (by decide +kernel) rfl, x_in (k := 890) (by decide +kernel) rfl, x_in (k := 30) (by decide +kernel) rfl⟩
theorem cs_X7_155 : x_cV RX7 155 yX7_comesIn := ⟨x_in (k := 892) (by decide +kernel) rfl, x_in (k := 894) (by decide +kernel) rfl, x_in (k := 31) (by decide +kernel) rfl⟩
theorem cs_X7_151 : x_cS RX7 151 yX7_eatsBy := ⟨x_in (k := 896) (by decide +kernel) rfl, x_in (k := 897) (by decide +kernel) rfl⟩
theorem cs_L_55 : x_cV RL 55 yX7_undo := ⟨x_in (k := 899) (by decide +kernel) rfl, x_in (k := 900) (by decide +kernel) rfl, x_in (k := 901) (by decide +kernel) rfl⟩
theorem cs_X7_198 : x_cV RX7 198 yX7_takes := ⟨x_in (k := 903) (by decide +kernel) rfl, x_in (k := 905) (by decide +kernel) rfl, x_in (k := 32) (by decide +kernel) rfl⟩
theorem cs_L_59 : x_cV RL 59 yX7_behind := ⟨x_in (k := 907) (by decide +kernel) rfl, x_in (k := 908) (by decide +kernel) rfl, x_in (k := 909) (by decide +kernel) rfl⟩
theorem cs_X7_201 : x_cV RX7 201 yX7_start := ⟨x_in (k := 911) (by decide +kernel) rfl, x_in (k := 913) (by decide +kernel) rfl, x_in (k := 33) (by decide +kernel) rfl⟩
theorem cs_X7_204 : x_cV RX7 204 yX7_eatSet := ⟨x_in (k := 915) (by decide +kernel) rfl, x_in (k := 917) (by decide +kernel) rfl, x_in (k := 34) (by decide +kernel) rfl⟩
theorem cs_X7_207 : x_cV RX7 207 yX7_toldSet := ⟨x_in (k := 919) (by decide +kernel) rfl, x_in (k := 921) (by decide +kernel) rfl, x_in (k := 35) (by decide +kernel) rfl⟩
theorem cs_X7_210 : x_cV RX7 210 yX7_softSet := ⟨x_in (k := 923) (by decide +kernel) rfl, x_in (k := 925) (by decide +kernel) rfl, x_in (k := 36) (by decide +kernel) rfl⟩
theorem cs_X7_213 : x_cV RX7 213 yX7_putBack := ⟨x_in (k := 927) (by decide +kernel) rfl, x_in (k := 929) (by decide +kernel) rfl, x_in (k := 37) (by decide +kernel) rfl⟩
theorem cs_L_63 : x_cV RL 63 yX7_when := ⟨x_in (k := 931) (by decide +kernel) rfl, x_in (k := 932) (by decide +kernel) rfl, x_in (k := 933) (by decide +kernel) rfl⟩
theorem cs_L_67 : x_cV RL 67 yX7_gentle := ⟨x_in (k := 935) (by decide +kernel) rfl, x_in (k := 936) (by decide +kernel) rfl, x_in (k := 937) (by decide +kernel) rfl⟩
theorem cs_X7_216 : x_cV RX7 216 yX7_softWeight := ⟨x_in (k := 939) (by decide +kernel) rfl, x_in (k := 941) (by decide +kernel) rfl, x_in (k := 38) (by decide +kernel) rfl⟩
theorem cs_L_71 : x_cV RL 71 yX7_latest := ⟨x_in (k := 943) (by decide +kernel) rfl, x_in (k := 944) (by decide +kernel) rfl, x_in (k := 945) (by decide +kernel) rfl⟩
theorem cs_X7_219 : x_cV RX7 219 yX7_isSoftBy := ⟨x_in (k := 947) (by decide +kernel) rfl, x_in (k := 949) (by decide +kernel) rfl, x_in (k := 39) (by decide +kernel) rfl⟩
theorem cs_L_75 : x_cV RL 75 yX7_order := ⟨x_in (k := 951) (by decide +kernel) rfl, x_in (k := 952) (by decide +kernel) rfl, x_in (k := 953) (by decide +kernel) rfl⟩
theorem cs_X7_235 : x_cV RX7 235 yX7_mostBy := ⟨x_in (k := 955) (by decide +kernel) rfl, x_in (k := 957) (by decide +kernel) rfl, x_in (k := 40) (by decide +kernel) rfl⟩
theorem cs_X7_226 : x_cV RX7 226 yX7_firstRow := ⟨x_in (k := 959) (by decide +kernel) rfl, x_in (k := 961) (by decide +kernel) rfl, x_in (k := 41) (by decide +kernel) rfl⟩
theorem cs_X7_229 : x_cV RX7 229 yX7_gentleBy := ⟨x_in (k := 963) (by decide +kernel) rfl, x_in (k := 965) (by decide +kernel) rfl, x_in (k := 42) (by decide +kernel) rfl⟩
theorem cs_X7_232 : x_cV RX7 232 yX7_nextRow := ⟨x_in (k := 967) (by decide +kernel) rfl, x_in (k := 969) (by decide +kernel) rfl, x_in (k := 43) (by decide +kernel) rfl⟩
theorem cs_L_79 : x_cV RL 79 yX7_need := ⟨x_in (k := 971) (by decide +kernel) rfl, x_in (k := 972) (by decide +kernel) rfl, x_in (k := 973) (by decide +kernel) rfl⟩
theorem cs_L_84 : x_cV RL 84 yX7_seen := ⟨x_in (k := 975) (by decide +kernel) rfl, x_in (k := 976) (by decide +kernel) rfl, x_in (k := 977) (by decide +kernel) rfl⟩
theorem cs_L_88 : x_cV RL 88 yX7_forget := ⟨x_in (k := 979) (by decide +kernel) rfl, x_in (k := 980) (by decide +kernel) rfl, x_in (k := 981) (by decide +kernel) rfl⟩
theorem cs_L_92 : x_cV RL 92 yX7_kinds := ⟨x_in (k := 983) (by decide +kernel) rfl, x_in (k := 984) (by decide +kernel) rfl, x_in (k := 985) (by decide +kernel) rfl⟩
theorem cs_X7_238 : x_cV RX7 238 yX7_isSo := ⟨x_in (k := 987) (by decide +kernel) rfl, x_in (k := 989) (by decide +kernel) rfl, x_in (k := 44) (by decide +kernel) rfl⟩
theorem cs_L_96 : x_cV RL 96 yX7_days := ⟨x_in (k := 991) (by decide +kernel) rfl, x_in (k := 992) (by decide +kernel) rfl, x_in (k := 993) (by decide +kernel) rfl⟩
theorem cs_L_101 : x_cV RL 101 yX7_likely := ⟨x_in (k := 995) (by decide +kernel) rfl, x_in (k := 996) (by decide +kernel) rfl, x_in (k := 997) (by decide +kernel) rfl⟩
theorem cs_X7_243 : x_cS RX7 243 yX7_has := ⟨x_in (k := 1000) (by decide +kernel) rfl, x_in (k := 1001) (by decide +kernel) rfl⟩
theorem cs_X7_246 : x_cS RX7 246 yX7_common := ⟨x_in (k := 1003) (by decide +kernel) rfl, x_in (k := 1004) (by decide +kernel) rfl⟩
theorem cs_L_105 : x_cV RL 105 yX7_year := ⟨x_in (k := 1006) (by decide +kernel) rfl, x_in (k := 1007) (by decide +kernel) rfl, x_in (k := 1008) (by decide +kernel) rfl⟩
theorem cs_X7_258 : x_cS RX7 258 yX7_bits := ⟨x_in (k := 1014) (by decide +kernel) rfl, x_in (k := 1015) (by decide +kernel) rfl⟩
theorem cs_L_109 : x_cV RL 109 yX7_keep := ⟨x_in (k := 1017) (by decide +kernel) rfl, x_in (k := 1018) (by decide +kernel) rfl, x_in (k := 1019) (by decide +kernel) rfl⟩
theorem cs_L_113 : x_cV RL 113 yX7_back := ⟨x_in (k := 1021) (by decide +kernel) rfl, x_in (k := 1022) (by decide +kernel) rfl, x_in (k := 1023) (by decide +kernel) rfl⟩
theorem cs_L_117 : x_cV RL 117 yX7_count := ⟨x_in (k := 1025) (by decide +kernel) rfl, x_in (k := 1026) (by decide +kernel) rfl, x_in (k := 1027) (by decide +kernel) rfl⟩
theorem cs_X7_261 : x_cV RX7 261 yX7_sumOf := ⟨x_in (k := 1029) (by decide +kernel) rfl, x_in (k := 1031) (by decide +kernel) rfl, x_in (k := 45) (by decide +kernel) rfl⟩
