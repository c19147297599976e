/-! the environment at the law's entry; printed by wip/whole/gen/gen_9e.py -/
def subC : Nat → Cond → Nat → Cond
  | 0, c, _ => c
  | f + 1, c, n => if n ≤ 1 then c else match c with
    | .and a b => if n % 2 = 0 then subC f a (n / 2) else subC f b (n / 2)
    | c => c
theorem subC_ok {A : Array Value} {s : State} : ∀ (f : Nat) (c : Cond) (n : Nat), c.before A s = true → (subC f c n).before A s = true := by
  intro f
  induction f with
  | zero => intro c n h; exact h
  | succ f ih =>
    intro c n h
    unfold subC
    split
    · exact h
    · split
      · next x y =>
        rw [Cond.before_and, Bool.and_eq_true] at h
        split
        · exact ih _ _ h.1
        · exact ih _ _ h.2
      · exact h
theorem nat_ {A : Array Value} {s : State} (hn : narrow_1.before A s = true) (n : Nat) {c : Cond} (e : subC 30 narrow_1 n = c) : c.before A s = true := by
  rw [← e]; exact subC_ok 30 narrow_1 n hn
theorem wat_ {A : Array Value} {s : State} (hts : ∀ w ∈ lw_tbl, w.before A s = true) (n : Nat) {c : Cond} (e : lw_tbl[n]? = some c) : c.before A s = true := hts c (List.mem_of_getElem? e)
def SOl : List String := ["FlyTreasury$Script", "FlyTreasury", "FlyTreasury", "FlyTreasury", "FlyTreasury", "FlyTreasury", "FlyTreasury", "FlyTreasury", "FlyTreasury", "FlyTreasury", "FlyTreasury", "FlyTreasury", "FlyTreasury", "FlyTreasury", "FlyTreasury", "FlyTreasury", "FlyTreasury", "FlyTreasury", "FlyTreasury", "FlyTreasury$Command", "FlyTreasury$Command", "FlyTreasury$Command", "FlyTreasury$Command", "FlyTreasury$Command", "FlyTreasury$Command", "FlyTreasury$Command", "FlyTreasury$Command", "FlyTreasury$Command", "FlyTreasury$Command", "FlyTreasury$Command", "FlyTreasury$Command", "FlyTreasury$Command", "FlyTreasury$Command", "FlyTreasury$Command", "FlyTreasury$Command", "FlyTreasury$Command", "FlyTreasury$Command"]
def SKl : List Nat := [115, 343, 364, 366, 370, 352, 168, 222, 255, 258, 288, 294, 301, 313, 321, 326, 328, 333, 338, 105, 107, 61, 63, 69, 71, 74, 77, 79, 82, 84, 87, 90, 92, 95, 97, 100, 102]
def tmS (i : Nat) : Term := .string (SOl.getD i "") (SKl.getD i 0)
def PXl : List Nat := [3981, 2870, 3854, 2718, 3713, 2513, 1033, 3625, 3609, 1081, 3577, 1445, 2741, 3789, 2909, 1027, 3859, 1419, 1259, 1499, 3899, 3003, 1531, 1287, 1095, 3015, 1447, 2791, 3863, 2903, 4055, 2999, 1527, 1295, 1615, 1487, 1455]
def PCl : List Nat := [1101, 3894, 1166, 3742, 1409, 3537, 2569, 1321, 1305, 2617, 3065, 2981, 3765, 2509, 3933, 1539, 1171, 2955, 2795, 3035, 1211, 4027, 3067, 2823, 1607, 4039, 2983, 3815, 1175, 3927, 1079, 4023, 3063, 2831, 1359, 3023, 2991]
def PAl : List Nat := [2637, 1206, 2702, 1438, 2945, 3025, 3593, 2857, 2841, 3641, 4089, 4005, 1461, 3533, 1245, 1283, 1683, 3979, 3819, 4059, 1723, 1147, 4091, 3847, 1351, 1063, 4007, 1511, 1687, 1239, 1591, 1143, 4087, 3855, 2895, 4047, 4015]
def PLl : List Nat := [3661, 2742, 3726, 2974, 3969, 4049, 1289, 3881, 3865, 1337, 1029, 1125, 2997, 3021, 2781, 2819, 1427, 1099, 1515, 1083, 1467, 1659, 1031, 1159, 2887, 1575, 1127, 3047, 1431, 2775, 1335, 1655, 1039, 1167, 3919, 1071, 1135]
def PEl : List (List Nat) := [[1357, 2893, 3917], [3766, 1462, 2998, 4022, 1142, 2678, 3702, 1398, 2934, 3958, 1270, 2806, 3830, 2550, 3574, 3062, 4086, 1038, 2574, 3598, 1294, 2830], [1422, 2958, 3982, 1102, 2638, 3662, 1358, 2894, 3918, 1230, 2766, 3790, 2510, 3534, 3022, 4046, 1070, 2606, 3630, 1326, 2862, 3886, 1198, 2734, 3758, 1454, 2990, 4014, 1134, 2670, 3694, 1390, 2926, 3950, 1262, 2798, 3822, 2542, 3566, 3054, 4078, 1054, 2590, 3614, 1310, 2846, 3870, 1182], [3998, 1118, 2654, 3678, 1374, 2910, 3934, 1246, 2782, 3806, 2526, 3550, 3038, 4062, 1086, 2622, 3646, 1342, 2878, 3902, 1214, 2750, 3774, 1470, 3006, 4030, 1150, 2686, 3710, 1406, 2942, 3966, 1278, 2814, 3838, 2558, 3582, 3070, 4094, 1025, 2561, 3585, 1281, 2817, 3841, 1153, 2689], [1089, 2625, 3649, 1345, 2881, 3905, 1217, 2753, 3777, 2497, 3521, 3009, 4033, 1057, 2593, 3617, 1313, 2849, 3873, 1185, 2721, 3745, 1441, 2977, 4001, 1121, 2657, 3681, 1377, 2913, 3937, 1249, 2785, 3809, 2529, 3553, 3041, 4065, 1041, 2577, 3601, 1297, 2833, 3857, 1169, 2705, 3729, 1425, 2961, 3985, 1105], [1073, 2609, 3633, 1329, 2865, 3889, 1201, 2737, 3761, 1457, 2993, 4017, 1137, 2673, 3697, 1393, 2929, 3953, 1265, 2801, 3825, 2545, 3569, 3057, 4081], [2825, 3849, 1161, 2697, 3721, 1417, 2953, 3977, 1097, 2633, 3657, 1353, 2889, 3913, 1225, 2761, 3785, 2505, 3529, 3017, 4041, 1065, 2601], [1193, 2729, 3753, 1449, 2985, 4009, 1129, 2665, 3689, 1385, 2921, 3945, 1257, 2793, 3817, 2537, 3561, 3049, 4073, 1049, 2585], [1177, 2713, 3737, 1433, 2969, 3993, 1113, 2649, 3673, 1369, 2905, 3929, 1241, 2777, 3801, 2521, 3545, 3033, 4057], [2873, 3897, 1209, 2745, 3769, 1465, 3001, 4025, 1145, 2681, 3705, 1401, 2937, 3961, 1273, 2809, 3833, 2553], [2565, 3589, 1285, 2821, 3845, 1157, 2693, 3717, 1413, 2949, 3973, 1093, 2629, 3653, 1349, 2885, 3909, 1221, 2757, 3781, 2501, 3525, 3013, 4037, 1061, 2597, 3621, 1317, 2853, 3877, 1189, 2725, 3749], [2661, 3685, 1381, 2917, 3941, 1253, 2789, 3813, 2533, 3557, 3045, 4069, 1045, 2581, 3605, 1301, 2837, 3861, 1173, 2709, 3733, 1429, 2965, 3989, 1109, 2645, 3669, 1365, 2901, 3925, 1237, 2773, 3797, 2517, 3541, 3029, 4053, 1077, 2613, 3637, 1333, 2869, 3893, 1205], [4021, 1141, 2677, 3701, 1397, 2933, 3957, 1269, 2805, 3829, 2549, 3573, 3061, 4085, 1037, 2573, 3597, 1293, 2829, 3853, 1165, 2701, 3725, 1421, 2957], [4045, 1069, 2605, 3629, 1325, 2861, 3885, 1197, 2733, 3757, 1453, 2989, 4013, 1133, 2669, 3693, 1389, 2925, 3949, 1261, 2797, 3821, 2541, 3565, 3053, 4077, 1053, 2589, 3613, 1309, 2845, 3869, 1181, 2717, 3741, 1437, 2973, 3997, 1117, 2653, 3677, 1373], [3805, 2525, 3549, 3037, 4061, 1085, 2621, 3645, 1341, 2877, 3901, 1213, 2749, 3773, 1469, 3005, 4029, 1149, 2685, 3709, 1405, 2941, 3965, 1277, 2813, 3837, 2557, 3581, 3069, 4093], [3843, 1155, 1667, 1411, 2947, 3971, 1091, 1603, 1347, 2883, 3907, 1219, 1731, 1475, 3011, 4035, 1059, 1571, 1315, 2851, 3875, 1187, 1699, 1443, 2979, 4003, 1123, 1635, 1379, 2915, 3939, 1251, 2787, 3811, 1507, 3043, 4067, 1043, 1555, 1299, 2835], [2963, 3987, 1107, 1619, 1363, 2899, 3923, 1235, 1747, 1491, 3027, 4051, 1075, 1587, 1331, 2867, 3891, 1203, 1715, 1459, 2995, 4019, 1139, 1651, 1395, 2931, 3955, 1267, 2803, 3827, 1523, 3059, 4083, 1035, 1547, 1291, 2827, 3851, 1163, 1675], [1611, 1355, 2891, 3915, 1227, 1739, 1483, 3019, 4043, 1067, 1579, 1323, 2859, 3883, 1195, 1707, 1451, 2987, 4011, 1131, 1643, 1387, 2923, 3947], [3051, 4075, 1051, 1563, 1307, 2843, 3867, 1179, 1691, 1435, 2971, 3995, 1115, 1627, 1371, 2907, 3931, 1243, 2779, 3803], [1595, 1339, 2875], [], [1403, 2939, 3963, 1275, 2811, 3835], [1543], [1671, 1415, 2951, 3975], [3911, 1223, 1735, 1479], [1319, 2855, 3879, 1191, 1703], [1639, 1383, 2919, 3943, 1255], [4071, 1047, 1559, 1303, 2839], [2967, 3991, 1111, 1623, 1367], [3799, 1495, 3031], [2871, 3895, 1207, 1719, 1463], [1399, 2935, 3959, 1271, 2807, 3831], [1551], [1679, 1423, 2959, 3983, 1103], [1231, 1743], [1583, 1327, 2863, 3887, 1199, 1711], [1647, 1391, 2927]]
def SQl : List Nat := [819, 893, 898, 909, 925, 962, 1189, 1243, 1359, 1397, 1406, 1421, 1439, 1440, 1502, 1504, 1523, 1531, 1539, 1547, 1559, 2107, 2108, 2118, 2119, 2120, 2121, 2122, 2123, 2124, 2125, 2126, 2127, 2128, 2129, 2130, 2131, 2132, 2133]
def NQl : List Nat := [2882, 1442, 1234, 4018, 2826, 3602, 2978, 2770, 1138, 3850, 1298, 3906, 3794, 2674, 1162, 2834, 1218, 4002, 3698, 2698, 3858, 3778, 2658, 3538, 1418, 1170, 2498, 3682, 3026, 2930]
theorem e_px : ∀ i, i < 37 → subC 30 narrow_1 (PXl.getD i 0) = Cond.exactly (tmS i) "java/lang/String" := by decide +kernel
theorem e_pc : ∀ i, i < 37 → subC 30 narrow_1 (PCl.getD i 0) = Cond.eq (.field (tmS i) "java/lang/String" "coder" "B") (.int 0) := by decide +kernel
theorem e_pa : ∀ i, i < 37 → subC 30 narrow_1 (PAl.getD i 0) = Cond.arrayOf (.field (tmS i) "java/lang/String" "value" "[B") .byte := by decide +kernel
theorem e_pl : ∀ i, i < 37 → subC 30 narrow_1 (PLl.getD i 0) = Cond.eq (.length (.field (tmS i) "java/lang/String" "value" "[B")) (.int (Int32.ofNat (LTl.getD i 0))) := by decide +kernel
theorem e_pe : ∀ i, i < 37 → ∀ j, j < LTl.getD i 0 → subC 30 narrow_1 ((PEl.getD i []).getD j 0) = Cond.eq (.elem (.field (tmS i) "java/lang/String" "value" "[B") (.int (Int32.ofNat j))) (.int ((LTb.getD i []).getD j 0)) := by decide +kernel
theorem e_dist : ∀ i, i < 37 → ∀ j, j < 37 → (i = j ∨ LTl.getD i 0 ≠ LTl.getD j 0) ∨ ¬ ∀ k, k < LTl.getD i 0 → (LTb.getD i []).getD k 0 = (LTb.getD j []).getD k 0 := by decide +kernel
theorem e_len : ∀ i, i < 37 → LTl.getD i 0 < 100 := by decide +kernel
theorem e_sr : ∀ n, n < 39 → lw_tbl[SQl.getD n 0]? = some (Cond.stringRef (SRl.getD n ("", 0, "", 0)).1 (SRl.getD n ("", 0, "", 0)).2.1 (SRl.getD n ("", 0, "", 0)).2.2.1) := by decide +kernel
theorem e_st : ∀ n, n < 39 → (n = 0 ∨ n = 5) ∨ (Term.string (SRl.getD n ("", 0, "", 0)).1 (SRl.getD n ("", 0, "", 0)).2.1 = tmS (SRl.getD n ("", 0, "", 0)).2.2.2 ∧ (SRl.getD n ("", 0, "", 0)).2.2.2 < 37) := by decide +kernel
theorem e_nc : ∀ n, n < 30 → subC 30 narrow_1 (NQl.getD n 0) = Cond.not (.castable (NCl.getD n ("", "")).1 (NCl.getD n ("", "")).2) := by decide +kernel
theorem of_one {o n d : String} {v w : Value} {t : Nat} {B : Nat → Prop} {U : State} {H : Heap} (h : va_OF o n d v t B U H) (g : va_OF o n d w t B U H) : v = w := by
  obtain ⟨cf, k, i, f, cell, a1, a2, a3, a4, a5, a6⟩ := h
  obtain ⟨cf', k', i', f', cell', b1, b2, b3, b4, b5, b6⟩ := g
  cases a1.symm.trans b1
  cases a3.symm.trans b3
  exact Option.some.inj (a5.symm.trans b5)
theorem t_one {ty : FieldType} {t N N' : Nat} {f f' : Nat → Value} {B : Nat → Prop} {U : State} {H : Heap} (hN : N < 2 ^ 31) (hN' : N' < 2 ^ 31) (h : va_T ty t N f B U H) (g : va_T ty t N' f' B U H) : N = N' ∧ ∀ j, j < N → f j = f' j := by
  obtain ⟨c, a1, a2, a3, a4, a5, a6, a7⟩ := h
  obtain ⟨c', b1, b2, b3, b4, b5, b6, b7⟩ := g
  cases a1.symm.trans b1
  have e : N = N' := (nI_eq hN hN').mp (a5.symm.trans b5)
  subst e
  exact ⟨rfl, fun j hj => Option.some.inj ((a6 j hj).symm.trans (b6 j hj))⟩
section ENV
variable {A : Array Value} {s : State} {B : Nat → Prop}
theorem ev_str (hn : narrow_1.before A s = true) (hA : ∀ a : Nat, a < s.heap.size → ¬ B a) : ∃ adK adV : Nat → Nat, vk_S 37 LTl LTb adK adV B s s.heap ∧ ∀ i : Nat, i < 37 → (tmS i).eval A s none [] s = some (.ref (adK i)) := by
  have h0 : ∀ i : Nat, ∃ q : Nat × Nat, i < 37 → (tmS i).eval A s none [] s = some (.ref q.1) ∧ va_O "java/lang/String" q.1 B s s.heap ∧ va_OF "java/lang/String" "coder" "B" (.int 0) q.1 B s s.heap ∧ va_OF "java/lang/String" "value" "[B" (.ref q.2) q.1 B s s.heap ∧ va_T .byte q.2 (LTl.getD i 0) (fun j => .int ((LTb.getD i []).getD j 0)) B s s.heap := by
    intro i
    by_cases hi : i < 37
    · obtain ⟨a, c, cA, kA, q1, q2, q3, q4, q5, q6, -⟩ := Cond.exactly_spec (args := A) (first := s) (o := none) (s := s) (idx := []) (t := tmS i) (cls := "java/lang/String") (nat_ hn _ (e_px i hi))
      obtain ⟨t, ht, hT⟩ := va_Tof (f := fun j => .int ((LTb.getD i []).getD j 0)) (A := B) (N := LTl.getD i 0) (by have := e_len i hi; omega) (nat_ hn _ (e_pa i hi)) (va_eqt (nat_ hn _ (e_pl i hi))) (fun j hj => va_eqt (nat_ hn _ (e_pe i hi j hj))) hA
      exact ⟨(a, t), fun _ => ⟨q1, ⟨cA, q3, q5, by rw [q6]; exact q2, hA a (Array.getElem?_eq_some_iff.mp q3).1⟩, vk_OFof q1 (va_eqt (nat_ hn _ (e_pc i hi))) hA, vk_OFof q1 ht hA, hT⟩⟩
    · exact ⟨(0, 0), fun h => absurd h hi⟩
  obtain ⟨ad, had⟩ := Classical.axiomOfChoice h0
  refine ⟨fun i => (ad i).1, fun i => (ad i).2, ⟨fun i hi => (had i hi).2, fun i j hi hj e => ?_⟩, fun i hi => (had i hi).1⟩
  obtain ⟨-, -, -, v1, t1⟩ := had i hi
  obtain ⟨-, -, -, v2, t2⟩ := had j hj
  have e : (ad i).1 = (ad j).1 := e
  rw [← e] at v2
  have ev := Value.ref.inj (of_one v1 v2)
  rw [← ev] at t2
  obtain ⟨n1, n2⟩ := t_one (by have := e_len i hi; omega) (by have := e_len j hj; omega) t1 t2
  rcases e_dist i hi j hj with (d | d) | d
  · exact d
  · exact absurd n1 d
  · exact absurd (fun k hk => Value.int.inj (n2 k hk)) d
theorem ev_refs (hn : narrow_1.before A s = true) (hts : ∀ w ∈ lw_tbl, w.before A s = true) {adK : Nat → Nat} (hk : ∀ i : Nat, i < 37 → (tmS i).eval A s none [] s = some (.ref (adK i))) : ∀ q ∈ SRl, vk_R q.1 q.2.1 q.2.2.1 (adK q.2.2.2) s := by
  intro q hq
  obtain ⟨n, e⟩ := List.getElem?_of_mem hq
  have hl : n < 39 := (List.getElem?_eq_some_iff.mp e).1
  have eq : SRl.getD n ("", 0, "", 0) = q := by rw [List.getD_eq_getElem?_getD, e]; rfl
  have w := wat_ hts _ (e_sr n hl)
  have tv : (Term.string (SRl.getD n ("", 0, "", 0)).1 (SRl.getD n ("", 0, "", 0)).2.1).eval A s none [] s = some (.ref (adK (SRl.getD n ("", 0, "", 0)).2.2.2)) := by
    rcases e_st n hl with (rfl | rfl) | ⟨d, d2⟩
    · exact va_eqv (nat_ hn 1229 (c := Cond.eq (.string "FlyTreasury" 227) (.string "FlyTreasury$Script" 115)) (by decide +kernel)) (hk 0 (by decide))
    · exact va_eqv (nat_ hn 2765 (c := Cond.eq (.string "FlyTreasury$Ledger" 86) (.string "FlyTreasury$Script" 115)) (by decide +kernel)) (hk 0 (by decide))
    · rw [d]; exact hk _ d2
  rw [eq] at w tv
  exact vk_R.of w tv
theorem ev_nc (hn : narrow_1.before A s = true) : ∀ q ∈ NCl, va_Nc q.1 q.2 s := by
  intro q hq
  obtain ⟨n, e⟩ := List.getElem?_of_mem hq
  have hl : n < 30 := (List.getElem?_eq_some_iff.mp e).1
  have eq : NCl.getD n ("", "") = q := by rw [List.getD_eq_getElem?_getD, e]; rfl
  have w := nat_ hn _ (e_nc n hl)
  rw [eq] at w
  exact va_Nc.of w
def enRL : List Nat := [872, 961, 868, 870, 1031]
def enRX : List Nat := [2596, 3684, 2756, 3524, 3812]
def enRO : List Nat := [3620, 1380, 3780, 3012, 2532]
def enRD : List (List Nat) := [[0, 2788, 2852, 3876, 1044], [2788, 0, 3940, 1252, 2580], [2852, 3940, 0, 1060, 3044], [3876, 1252, 1060, 0, 4068], [1044, 2580, 3044, 4068, 0]]
theorem enR_l : ∀ i, i < 5 → lw_tbl[enRL.getD i 0]? = some (Cond.laysStatic "FlyTreasury$Refusal" (RNl.getD i "") "LFlyTreasury$Refusal;") := by decide +kernel
theorem enR_x : ∀ i, i < 5 → subC 30 narrow_1 (enRX.getD i 0) = Cond.exactly (.static "FlyTreasury$Refusal" (RNl.getD i "") "LFlyTreasury$Refusal;") "FlyTreasury$Refusal" := by decide +kernel
theorem enR_o : ∀ i, i < 5 → subC 30 narrow_1 (enRO.getD i 0) = Cond.eq (.field (.static "FlyTreasury$Refusal" (RNl.getD i "") "LFlyTreasury$Refusal;") "java/lang/Enum" "ordinal" "I") (.int (([0, 1, 2, 3, 4] : List Int32).getD i 0)) := by decide +kernel
theorem enR_d : ∀ i, i < 5 → ∀ j, j < 5 → i = j ∨ subC 30 narrow_1 ((enRD.getD i []).getD j 0) = Cond.not (.eq (.static "FlyTreasury$Refusal" (RNl.getD i "") "LFlyTreasury$Refusal;") (.static "FlyTreasury$Refusal" (RNl.getD j "") "LFlyTreasury$Refusal;")) ∨ subC 30 narrow_1 ((enRD.getD i []).getD j 0) = Cond.not (.eq (.static "FlyTreasury$Refusal" (RNl.getD j "") "LFlyTreasury$Refusal;") (.static "FlyTreasury$Refusal" (RNl.getD i "") "LFlyTreasury$Refusal;")) := by decide +kernel
theorem ev_enR (hn : narrow_1.before A s = true) (hts : ∀ w ∈ lw_tbl, w.before A s = true) (hA : ∀ a : Nat, a < s.heap.size → ¬ B a) : ∃ ad : Nat → Nat, va_En "FlyTreasury$Refusal" "LFlyTreasury$Refusal;" RNl [("java/lang/Enum", "ordinal", "I", [0, 1, 2, 3, 4])] ad B s s.heap ∧ ∀ i, i < 5 → (Term.static "FlyTreasury$Refusal" (RNl.getD i "") "LFlyTreasury$Refusal;").eval A s none [] s = some (.ref (ad i)) := by
  refine va_Enof2 (nm := RNl) (F := [("java/lang/Enum", "ordinal", "I", [0, 1, 2, 3, 4])]) (args := A) (fun i hi => wat_ hts _ (enR_l i hi)) (wat_ hts 87 (by decide +kernel)) (fun i hi => nat_ hn _ (enR_x i hi)) (fun q hq i hi => ?_) (fun i j hi hj h => ?_) hA
  · cases List.mem_singleton.mp hq
    exact nat_ hn _ (enR_o i hi)
  · rcases enR_d i hi j hj with d | d | d
    · exact absurd d h
    · exact Or.inl (nat_ hn _ d)
    · exact Or.inr (nat_ hn _ d)
def enCL : List Nat := [2109, 2110, 2111, 2112, 2113, 2114, 2115, 2116, 2117, 237]
def enCX : List Nat := [3892, 1396, 2572, 2636, 2604, 1388, 3868, 2524, 2684, 3584]
def enCO : List Nat := [1204, 2932, 3596, 3660, 3628, 2924, 1180, 3548, 3708, 1280]
def enCD : List (List Nat) := [[0, 1036, 3980, 3020, 4012, 1052, 1372, 1212, 3068, 1460], [1036, 0, 1100, 4044, 1132, 2588, 2908, 2748, 4092, 2804], [3980, 1100, 0, 1068, 2668, 3612, 3932, 3772, 1026, 3852], [3020, 4044, 1068, 0, 3692, 1308, 1244, 1468, 2562, 3916], [4012, 1132, 2668, 3692, 0, 2844, 2780, 3004, 3586, 3884], [1052, 2588, 3612, 1308, 2844, 0, 3804, 4028, 1282, 2796], [1372, 2908, 3932, 1244, 2780, 3804, 0, 1148, 2818, 1436], [1212, 2748, 3772, 1468, 3004, 4028, 1148, 0, 3842, 1084], [3068, 4092, 1026, 2562, 3586, 1282, 2818, 3842, 0, 3964], [1460, 2804, 3852, 3916, 3884, 2796, 1436, 1084, 3964, 0]]
theorem enC_l : ∀ i, i < 10 → lw_tbl[enCL.getD i 0]? = some (Cond.laysStatic "FlyTreasury$Command" (CNl.getD i "") "LFlyTreasury$Command;") := by decide +kernel
theorem enC_x : ∀ i, i < 10 → subC 30 narrow_1 (enCX.getD i 0) = Cond.exactly (.static "FlyTreasury$Command" (CNl.getD i "") "LFlyTreasury$Command;") "FlyTreasury$Command" := by decide +kernel
theorem enC_o : ∀ i, i < 10 → subC 30 narrow_1 (enCO.getD i 0) = Cond.eq (.field (.static "FlyTreasury$Command" (CNl.getD i "") "LFlyTreasury$Command;") "java/lang/Enum" "ordinal" "I") (.int (([0, 1, 2, 3, 4, 5, 6, 7, 8, 9] : List Int32).getD i 0)) := by decide +kernel
theorem enC_d : ∀ i, i < 10 → ∀ j, j < 10 → i = j ∨ subC 30 narrow_1 ((enCD.getD i []).getD j 0) = Cond.not (.eq (.static "FlyTreasury$Command" (CNl.getD i "") "LFlyTreasury$Command;") (.static "FlyTreasury$Command" (CNl.getD j "") "LFlyTreasury$Command;")) ∨ subC 30 narrow_1 ((enCD.getD i []).getD j 0) = Cond.not (.eq (.static "FlyTreasury$Command" (CNl.getD j "") "LFlyTreasury$Command;") (.static "FlyTreasury$Command" (CNl.getD i "") "LFlyTreasury$Command;")) := by decide +kernel
theorem ev_enC (hn : narrow_1.before A s = true) (hts : ∀ w ∈ lw_tbl, w.before A s = true) (hA : ∀ a : Nat, a < s.heap.size → ¬ B a) : ∃ ad : Nat → Nat, va_En "FlyTreasury$Command" "LFlyTreasury$Command;" CNl [("java/lang/Enum", "ordinal", "I", [0, 1, 2, 3, 4, 5, 6, 7, 8, 9])] ad B s s.heap ∧ ∀ i, i < 10 → (Term.static "FlyTreasury$Command" (CNl.getD i "") "LFlyTreasury$Command;").eval A s none [] s = some (.ref (ad i)) := by
  refine va_Enof2 (nm := CNl) (F := [("java/lang/Enum", "ordinal", "I", [0, 1, 2, 3, 4, 5, 6, 7, 8, 9])]) (args := A) (fun i hi => wat_ hts _ (enC_l i hi)) (wat_ hts 81 (by decide +kernel)) (fun i hi => nat_ hn _ (enC_x i hi)) (fun q hq i hi => ?_) (fun i j hi hj h => ?_) hA
  · cases List.mem_singleton.mp hq
    exact nat_ hn _ (enC_o i hi)
  · rcases enC_d i hi j hj with d | d | d
    · exact absurd d h
    · exact Or.inl (nat_ hn _ d)
    · exact Or.inr (nat_ hn _ d)
def Pword : List Nat := [2740, 3956, 1292, 1356, 1324, 3948, 2716, 3036, 1404, 2816]
theorem e_word : ∀ i, i < 10 → subC 30 narrow_1 (Pword.getD i 0) = Cond.eq (.field (.static "FlyTreasury$Command" (CNl.getD i "") "LFlyTreasury$Command;") "FlyTreasury$Command" "word" "Ljava/lang/String;") (tmS (CWl.getD i 0)) := by decide +kernel
theorem e_wordN : ∀ i, i < 10 → CWl.getD i 0 < 37 := by decide +kernel
theorem ev_word (hn : narrow_1.before A s = true) (hA : ∀ a : Nat, a < s.heap.size → ¬ B a) {adK adC : Nat → Nat} (hk : ∀ i : Nat, i < 37 → (tmS i).eval A s none [] s = some (.ref (adK i))) (hc : ∀ i, i < 10 → (Term.static "FlyTreasury$Command" (CNl.getD i "") "LFlyTreasury$Command;").eval A s none [] s = some (.ref (adC i))) : va_Ef 10 "FlyTreasury$Command" "word" "Ljava/lang/String;" (fun i => .ref (adK (CWl.getD i 0))) adC B s s.heap :=
  va_Efof (E := "FlyTreasury$Command") (d0 := "LFlyTreasury$Command;") (nm := CNl) (tm := fun i => tmS (CWl.getD i 0)) (args := A) hc (fun i hi => nat_ hn _ (e_word i hi)) (fun i hi => hk _ (e_wordN i hi)) hA
def Pform : List Nat := [3764, 1268, 2828, 2892, 2860, 1260, 3740, 4060, 2940, 3840]
theorem e_form : ∀ i, i < 10 → subC 30 narrow_1 (Pform.getD i 0) = Cond.eq (.field (.static "FlyTreasury$Command" (CNl.getD i "") "LFlyTreasury$Command;") "FlyTreasury$Command" "form" "Ljava/lang/String;") (tmS (CFl.getD i 0)) := by decide +kernel
theorem e_formN : ∀ i, i < 10 → CFl.getD i 0 < 37 := by decide +kernel
theorem ev_form (hn : narrow_1.before A s = true) (hA : ∀ a : Nat, a < s.heap.size → ¬ B a) {adK adC : Nat → Nat} (hk : ∀ i : Nat, i < 37 → (tmS i).eval A s none [] s = some (.ref (adK i))) (hc : ∀ i, i < 10 → (Term.static "FlyTreasury$Command" (CNl.getD i "") "LFlyTreasury$Command;").eval A s none [] s = some (.ref (adC i))) : va_Ef 10 "FlyTreasury$Command" "form" "Ljava/lang/String;" (fun i => .ref (adK (CFl.getD i 0))) adC B s s.heap :=
  va_Efof (E := "FlyTreasury$Command") (d0 := "LFlyTreasury$Command;") (nm := CNl) (tm := fun i => tmS (CFl.getD i 0)) (args := A) hc (fun i hi => nat_ hn _ (e_form i hi)) (fun i hi => hk _ (e_formN i hi)) hA
def tb0l : List Nat := [1444, 2980, 4004, 1124, 2660]
theorem e_tb0 : ∀ j, j < 5 → subC 30 narrow_1 (tb0l.getD j 0) = Cond.eq (.elem (.static "FlyTreasury$1" "$SwitchMap$FlyTreasury$Refusal" "[I") (.int (Int32.ofNat j))) (.int (([0, 1, 2, 3, 4] : List Int32).getD j 0)) := by decide +kernel
theorem ev_tb0 (hn : narrow_1.before A s = true) (hts : ∀ w ∈ lw_tbl, w.before A s = true) (hA : ∀ a : Nat, a < s.heap.size → ¬ B a) : ∃ t : Nat, va_Z "FlyTreasury$1" "$SwitchMap$FlyTreasury$Refusal" "[I" (.ref t) B s s.heap ∧ va_T .int t 5 (fun i => .int (([0, 1, 2, 3, 4] : List Int32).getD i 0)) B s s.heap := by
  obtain ⟨t, ht, hT⟩ := va_Tof (args := A) (tm := .static "FlyTreasury$1" "$SwitchMap$FlyTreasury$Refusal" "[I") (ty := .int) (f := fun i => .int (([0, 1, 2, 3, 4] : List Int32).getD i 0)) (A := B) (N := 5) (by decide) (nat_ hn 2724 (by decide +kernel)) (va_eqt (nat_ hn 3748 (by decide +kernel))) (fun j hj => va_eqt (nat_ hn _ (e_tb0 j hj))) hA
  exact ⟨t, va_Zref (wat_ hts 877 (by decide +kernel)) (wat_ hts 88 (by decide +kernel)) ht hA, hT⟩
def tb1l : List Nat := [3796, 2516, 3540, 3028, 4052, 1076, 2612, 3636, 1332, 2868]
theorem e_tb1 : ∀ j, j < 10 → subC 30 narrow_1 (tb1l.getD j 0) = Cond.eq (.elem (.static "FlyTreasury$1" "$SwitchMap$FlyTreasury$Command" "[I") (.int (Int32.ofNat j))) (.int (([1, 2, 3, 4, 5, 6, 7, 8, 9, 0] : List Int32).getD j 0)) := by decide +kernel
theorem ev_tb1 (hn : narrow_1.before A s = true) (hts : ∀ w ∈ lw_tbl, w.before A s = true) (hA : ∀ a : Nat, a < s.heap.size → ¬ B a) : ∃ t : Nat, va_Z "FlyTreasury$1" "$SwitchMap$FlyTreasury$Command" "[I" (.ref t) B s s.heap ∧ va_T .int t 10 (fun i => .int (([1, 2, 3, 4, 5, 6, 7, 8, 9, 0] : List Int32).getD i 0)) B s s.heap := by
  obtain ⟨t, ht, hT⟩ := va_Tof (args := A) (tm := .static "FlyTreasury$1" "$SwitchMap$FlyTreasury$Command" "[I") (ty := .int) (f := fun i => .int (([1, 2, 3, 4, 5, 6, 7, 8, 9, 0] : List Int32).getD i 0)) (A := B) (N := 10) (by decide) (nat_ hn 1236 (by decide +kernel)) (va_eqt (nat_ hn 2772 (by decide +kernel))) (fun j hj => va_eqt (nat_ hn _ (e_tb1 j hj))) hA
  exact ⟨t, va_Zref (wat_ hts 1514 (by decide +kernel)) (wat_ hts 88 (by decide +kernel)) ht hA, hT⟩
def tb3l : List Nat := [3648, 1344, 2880, 3904, 1216, 2752, 3776, 2496, 3520, 3008, 4032, 1056, 2592, 3616, 1312, 2848, 3872, 1184, 2720, 3744, 1440, 2976, 4000, 1120, 2656, 3680, 1376, 2912, 3936, 1248, 2784, 3808, 2528, 3552, 3040, 4064, 1040, 2576, 3600, 1296, 2832, 3856, 1168, 2704, 3728, 1424, 2960, 3984, 1104, 2640, 3664, 1360, 2896, 3920, 1232, 2768, 3792, 2512, 3536, 3024, 4048, 1072, 2608, 3632, 1328, 2864, 3888, 1200, 2736, 3760, 1456, 2992, 4016, 1136, 2672, 3696, 1392, 2928, 3952, 1264, 2800, 3824, 2544, 3568, 3056, 4080, 1032, 2568, 3592, 1288, 2824, 3848, 1160, 2696, 3720, 1416, 2952, 3976, 1096, 2632]
theorem e_tb3 : ∀ j, j < 100 → subC 30 narrow_1 (tb3l.getD j 0) = Cond.eq (.elem (.static "java/lang/Integer" "DigitOnes" "[B") (.int (Int32.ofNat j))) (.int (DOl.getD j 0)) := by decide +kernel
theorem ev_tb3 (hn : narrow_1.before A s = true) (hts : ∀ w ∈ lw_tbl, w.before A s = true) (hA : ∀ a : Nat, a < s.heap.size → ¬ B a) : ∃ t : Nat, va_Z "java/lang/Integer" "DigitOnes" "[B" (.ref t) B s s.heap ∧ va_T .byte t 100 (fun i => .int (DOl.getD i 0)) B s s.heap := by
  obtain ⟨t, ht, hT⟩ := va_Tof (args := A) (tm := .static "java/lang/Integer" "DigitOnes" "[B") (ty := .byte) (f := fun i => .int (DOl.getD i 0)) (A := B) (N := 100) (by decide) (nat_ hn 1088 (by decide +kernel)) (va_eqt (nat_ hn 2624 (by decide +kernel))) (fun j hj => va_eqt (nat_ hn _ (e_tb3 j hj))) hA
  exact ⟨t, va_Zref (wat_ hts 599 (by decide +kernel)) (wat_ hts 108 (by decide +kernel)) ht hA, hT⟩
def tb4l : List Nat := [3912, 1224, 2760, 3784, 2504, 3528, 3016, 4040, 1064, 2600, 3624, 1320, 2856, 3880, 1192, 2728, 3752, 1448, 2984, 4008, 1128, 2664, 3688, 1384, 2920, 3944, 1256, 2792, 3816, 2536, 3560, 3048, 4072, 1048, 2584, 3608, 1304, 2840, 3864, 1176, 2712, 3736, 1432, 2968, 3992, 1112, 2648, 3672, 1368, 2904, 3928, 1240, 2776, 3800, 2520, 3544, 3032, 4056, 1080, 2616, 3640, 1336, 2872, 3896, 1208, 2744, 3768, 1464, 3000, 4024, 1144, 2680, 3704, 1400, 2936, 3960, 1272, 2808, 3832, 2552, 3576, 3064, 4088, 1028, 2564, 3588, 1284, 2820, 3844, 1156, 2692, 3716, 1412, 2948, 3972, 1092, 2628, 3652, 1348, 2884]
theorem e_tb4 : ∀ j, j < 100 → subC 30 narrow_1 (tb4l.getD j 0) = Cond.eq (.elem (.static "java/lang/Integer" "DigitTens" "[B") (.int (Int32.ofNat j))) (.int (DTl.getD j 0)) := by decide +kernel
theorem ev_tb4 (hn : narrow_1.before A s = true) (hts : ∀ w ∈ lw_tbl, w.before A s = true) (hA : ∀ a : Nat, a < s.heap.size → ¬ B a) : ∃ t : Nat, va_Z "java/lang/Integer" "DigitTens" "[B" (.ref t) B s s.heap ∧ va_T .byte t 100 (fun i => .int (DTl.getD i 0)) B s s.heap := by
  obtain ⟨t, ht, hT⟩ := va_Tof (args := A) (tm := .static "java/lang/Integer" "DigitTens" "[B") (ty := .byte) (f := fun i => .int (DTl.getD i 0)) (A := B) (N := 100) (by decide) (nat_ hn 1352 (by decide +kernel)) (va_eqt (nat_ hn 2888 (by decide +kernel))) (fun j hj => va_eqt (nat_ hn _ (e_tb4 j hj))) hA
  exact ⟨t, va_Zref (wat_ hts 601 (by decide +kernel)) (wat_ hts 108 (by decide +kernel)) ht hA, hT⟩
def tb2l : List Nat := [2708, 3732, 1428, 2964, 3988, 1108, 2644, 3668, 1364, 2900]
theorem e_tb2 : ∀ j, j < 10 → subC 30 narrow_1 (tb2l.getD j 0) = Cond.eq (.elem (.static "FlyTreasury" "COMMANDS" "[LFlyTreasury$Command;") (.int (Int32.ofNat j))) (.static "FlyTreasury$Command" (CNl.getD j "") "LFlyTreasury$Command;") := by decide +kernel
theorem ev_tb2 (hn : narrow_1.before A s = true) (hts : ∀ w ∈ lw_tbl, w.before A s = true) (hA : ∀ a : Nat, a < s.heap.size → ¬ B a) {adC : Nat → Nat} (hc : ∀ i, i < 10 → (Term.static "FlyTreasury$Command" (CNl.getD i "") "LFlyTreasury$Command;").eval A s none [] s = some (.ref (adC i))) : ∃ t : Nat, va_Z "FlyTreasury" "COMMANDS" "[LFlyTreasury$Command;" (.ref t) B s s.heap ∧ va_T (.object "FlyTreasury$Command") t 10 (fun i => .ref (adC i)) B s s.heap := by
  obtain ⟨t, ht, hT⟩ := va_Tof (args := A) (tm := .static "FlyTreasury" "COMMANDS" "[LFlyTreasury$Command;") (ty := .object "FlyTreasury$Command") (f := fun i => .ref (adC i)) (A := B) (N := 10) (by decide) (nat_ hn 2836 (by decide +kernel)) (va_eqt (nat_ hn 3860 (by decide +kernel))) (fun j hj => va_eqv (nat_ hn _ (e_tb2 j hj)) (hc j hj)) hA
  exact ⟨t, va_Zref (wat_ hts 1465 (by decide +kernel)) (wat_ hts 74 (by decide +kernel)) ht hA, hT⟩
def xkf (a0 a1 a2 a3 : Nat → Nat) (ts : List Nat) : Nat → Nat → Nat
  | 0 => a0
  | 1 => a1
  | 2 => a2
  | 3 => a3
  | _ => fun i => ts.getD i 0
theorem ev_es (D : va_G) (Cf : Nat → ClassId) (g : Nat → Nat) (hn : narrow_1.before A s = true) (hts : ∀ w ∈ lw_tbl, w.before A s = true) : ∃ kf : Nat → Nat → Nat, Es (D, Cf, kf, g, s.heap.size) s s.heap ∧ ∀ q ∈ SRl, vk_R q.1 q.2.1 q.2.2.1 (kf 2 q.2.2.2) s := by
  have hA : ∀ a : Nat, a < s.heap.size → ¬ (fun q : Nat => s.heap.size ≤ q) a := fun a h1 h2 => Nat.lt_irrefl _ (Nat.lt_of_lt_of_le h1 h2)
  obtain ⟨adK, adV, hS, hk⟩ := ev_str hn hA
  obtain ⟨adR, hR, -⟩ := ev_enR hn hts hA
  obtain ⟨adC, hC, hc⟩ := ev_enC hn hts hA
  obtain ⟨t0, z0, y0⟩ := ev_tb0 hn hts hA
  obtain ⟨t1, z1, y1⟩ := ev_tb1 hn hts hA
  obtain ⟨t2, z2, y2⟩ := ev_tb2 hn hts hA hc
  obtain ⟨t3, z3, y3⟩ := ev_tb3 hn hts hA
  obtain ⟨t4, z4, y4⟩ := ev_tb4 hn hts hA
  refine ⟨xkf adR adC adK adV [t0, t1, t2, t3, t4], ⟨hS, hR, hC, ev_word hn hA hk hc, ev_form hn hA hk hc, ⟨z0, y0⟩, ⟨z1, y1⟩, ⟨z2, y2⟩, ⟨z3, y3⟩, ⟨z4, y4⟩, ?_, ?_, ?_, ?_⟩, ev_refs hn hts hk⟩
  · exact va_Zof (wat_ hts 295 (by decide +kernel)) (wat_ hts 84 (by decide +kernel)) (va_eqi (nat_ hn 1152 (by decide +kernel))) hA
  · exact vx_Zqof (wat_ hts 673 (by decide +kernel)) (wat_ hts 89 (by decide +kernel)) (nat_ hn 3908 (by decide +kernel)) hA
  · exact vx_Zqof (wat_ hts 675 (by decide +kernel)) (wat_ hts 89 (by decide +kernel)) (nat_ hn 1220 (by decide +kernel)) hA
  · exact va_Zqof (wat_ hts 529 (by decide +kernel)) (wat_ hts 100 (by decide +kernel)) (nat_ hn 2688 (by decide +kernel)) hA
end ENV
