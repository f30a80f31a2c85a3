section KON
theorem tb_0 {w : Cond} (i : Nat) (h : (k2_sels lw_privs)[i]? = some w) : w ∈ lw_tbl := List.mem_append_left _ (List.mem_of_getElem? h)
theorem tb_1 {w : Cond} (i : Nat) (h : tables_1_1[i]? = some w) : w ∈ lw_tbl := List.mem_append_right _ (List.mem_append_left _ (List.mem_of_getElem? h))
theorem tb_2 {w : Cond} (i : Nat) (h : tables_1_2[i]? = some w) : w ∈ lw_tbl := List.mem_append_right _ (List.mem_append_right _ (List.mem_append_left _ (List.mem_of_getElem? h)))
theorem tb_3 {w : Cond} (i : Nat) (h : tables_1_3[i]? = some w) : w ∈ lw_tbl := List.mem_append_right _ (List.mem_append_right _ (List.mem_append_right _ (List.mem_append_left _ (List.mem_of_getElem? h))))
theorem tb_4 {w : Cond} (i : Nat) (h : tables_1_4[i]? = some w) : w ∈ lw_tbl := List.mem_append_right _ (List.mem_append_right _ (List.mem_append_right _ (List.mem_append_right _ (List.mem_append_left _ (List.mem_of_getElem? h)))))
theorem tb_5 {w : Cond} (i : Nat) (h : tables_1_5[i]? = some w) : w ∈ lw_tbl := List.mem_append_right _ (List.mem_append_right _ (List.mem_append_right _ (List.mem_append_right _ (List.mem_append_right _ (List.mem_append_left _ (List.mem_of_getElem? h))))))
theorem tb_6 {w : Cond} (i : Nat) (h : tables_1_6[i]? = some w) : w ∈ lw_tbl := List.mem_append_right _ (List.mem_append_right _ (List.mem_append_right _ (List.mem_append_right _ (List.mem_append_right _ (List.mem_append_right _ (List.mem_append_left _ (List.mem_of_getElem? h)))))))
theorem tb_7 {w : Cond} (i : Nat) (h : tables_1_7[i]? = some w) : w ∈ lw_tbl := List.mem_append_right _ (List.mem_append_right _ (List.mem_append_right _ (List.mem_append_right _ (List.mem_append_right _ (List.mem_append_right _ (List.mem_append_right _ (List.mem_append_left _ (List.mem_of_getElem? h))))))))
theorem tb_8 {w : Cond} (i : Nat) (h : tables_1_8[i]? = some w) : w ∈ lw_tbl := List.mem_append_right _ (List.mem_append_right _ (List.mem_append_right _ (List.mem_append_right _ (List.mem_append_right _ (List.mem_append_right _ (List.mem_append_right _ (List.mem_append_right _ (List.mem_append_left _ (List.mem_of_getElem? h)))))))))
theorem tb_9 {w : Cond} (i : Nat) (h : tables_1_9[i]? = some w) : w ∈ lw_tbl := List.mem_append_right _ (List.mem_append_right _ (List.mem_append_right _ (List.mem_append_right _ (List.mem_append_right _ (List.mem_append_right _ (List.mem_append_right _ (List.mem_append_right _ (List.mem_append_right _ (List.mem_append_left _ (List.mem_of_getElem? h))))))))))
theorem tb_10 {w : Cond} (i : Nat) (h : tables_1_10[i]? = some w) : w ∈ lw_tbl := List.mem_append_right _ (List.mem_append_right _ (List.mem_append_right _ (List.mem_append_right _ (List.mem_append_right _ (List.mem_append_right _ (List.mem_append_right _ (List.mem_append_right _ (List.mem_append_right _ (List.mem_append_right _ (List.mem_append_left _ (List.mem_of_getElem? h)))))))))))
theorem tb_11 {w : Cond} (i : Nat) (h : tables_1_11[i]? = some w) : w ∈ lw_tbl := List.mem_append_right _ (List.mem_append_right _ (List.mem_append_right _ (List.mem_append_right _ (List.mem_append_right _ (List.mem_append_right _ (List.mem_append_right _ (List.mem_append_right _ (List.mem_append_right _ (List.mem_append_right _ (List.mem_append_right _ (List.mem_of_getElem? h)))))))))))
/-- a part of a condition, by its way -/
def pkn : Nat → Cond → Nat → Cond
  | 0, c, _ => c
  | (f + 1), c, n => if n = 1 then c else match c with
    | .and x y => pkn f (if n % 2 = 1 then x else y) (n / 2)
    | c => c
theorem pkn_ok {args : Array Value} {s : State} : ∀ (f : Nat) (c : Cond) (n : Nat), c.before args s = true → (pkn f c n).before args s = true := by
  intro f
  induction f with
  | zero => intro c n h; exact h
  | succ f ih =>
    intro c n h
    unfold pkn
    by_cases q : n = 1
    · rw [if_pos q]; exact h
    · rw [if_neg q]
      cases c with
      | and x y =>
        rw [Cond.before_and, Bool.and_eq_true] at h
        show (pkn f (if n % 2 = 1 then x else y) (n / 2)).before args s = true
        by_cases q2 : n % 2 = 1
        · rw [if_pos q2]; exact ih _ _ h.1
        · rw [if_neg q2]; exact ih _ _ h.2
      | _ => exact h
/-- what the Statement gives of the start -/
def gvn : Cond := Jvm.Cond.and given_1 narrow_1
def tmS (i : Nat) : Term := .string (ldL.getD i ("", 0, "")).1 (ldL.getD i ("", 0, "")).2.1
def tmV (i : Nat) : Term := .field (tmS i) "java/lang/String" "value" "[B"
def tmW (i : Nat) : Term := .static "NibbleEngine$Word" (wNm.getD i "") "LNibbleEngine$Word;"
def tmA : Term := .static "NibbleEngine$Word" "ALL" "[LNibbleEngine$Word;"
def tmM : Term := .static "NibbleEngine$1" "$SwitchMap$NibbleEngine$Word" "[I"
def cdE : List Nat := [4876, 6284, 3828, 7180, 4468, 4212, 4788, 4660, 3796, 4436, 7060, 3220, 4372, 6628, 3940, 4708, 6564, 3364, 7108, 4292, 4676, 4484, 4868, 4100, 1464, 1752, 1688, 1512, 1704, 1480, 1672, 1520, 1712, 1488, 1168, 1504, 1952, 1472, 1088, 7052, 3362, 6178, 4802, 3650, 7042, 4738, 3330, 7164, 4860, 3452, 6268, 4796, 4412, 4060, 4828, 4444, 3996, 6812, 4892, 5148, 4588, 4972, 4716, 6572, 3884, 4652, 7116, 4300, 4684]
def cdC : List Nat := [3340, 4236, 6900, 5132, 3700, 4020, 3252, 7220, 6868, 3668, 5012, 6292, 3604, 4580, 7012, 7268, 4516, 6436, 5060, 3908, 7236, 3716, 3332, 2040, 1720, 1240, 1176, 1768, 1192, 1736, 1160, 1776, 1200, 1744, 1808, 1760, 1440, 1728, 1920, 5004, 6434, 4130, 3266, 6722, 4994, 3202, 6402, 5116, 3324, 6524, 4220, 3260, 3644, 7132, 3292, 3676, 7068, 4764, 3356, 6172, 3820, 3436, 7276, 4524, 6956, 7212, 5068, 3916, 7244]
def cdA : List Nat := [6412, 3852, 4852, 6156, 6772, 7092, 6324, 5172, 4820, 6740, 3476, 4244, 6676, 3812, 4964, 5220, 3748, 4388, 3524, 6980, 5188, 6788, 6404, 1528, 1208, 1880, 1816, 1256, 1832, 1224, 1800, 1264, 1840, 1232, 1296, 1248, 1696, 1216, 1408, 3468, 4386, 4034, 6338, 4674, 3458, 6274, 4354, 3580, 6396, 4476, 4028, 6332, 6716, 5084, 6364, 6748, 5020, 3228, 6428, 4124, 6892, 6508, 5228, 3756, 4908, 5164, 3532, 6988, 5196]
def cdL : List Nat := [4364, 6924, 3316, 4108, 4724, 5044, 4276, 6196, 3284, 4692, 6548, 3860, 4628, 6884, 3428, 6244, 6820, 3620, 6596, 4932, 6212, 4740, 4356, 1784, 1848, 1368, 1304, 1896, 1320, 1864, 1288, 1904, 1328, 1872, 1552, 1888, 1184, 1856, 1664, 6540, 3618, 7106, 4290, 7234, 6530, 4226, 3586, 6652, 4348, 3708, 7100, 4284, 4668, 3548, 4316, 4700, 3484, 6300, 4380, 4076, 4844, 4460, 6252, 6828, 3372, 6188, 6604, 4940, 6220]
def cdJ : List (List Nat) := [[3596, 6668], [], [6388, 4340, 3956, 7028, 4980, 3444], [4084, 7156, 5108, 3572, 6644], [7284, 5236], [3508, 6580, 4532, 3764], [3892, 6964, 4916, 3380, 6452, 4404, 3636, 6708], [4148, 4052, 7124, 5076, 3540, 6612], [6356, 4308, 3924, 6996, 4948, 3412], [7252, 5204, 6228, 4180], [4500, 3732, 6804], [6932, 4884, 3348], [7188, 5140, 6164, 4116, 4068, 7140, 5092], [4836, 3300, 6372], [6500, 4452, 3684], [4196, 4004, 7076, 5028], [4772, 3236, 6308, 4260, 3876, 6948, 4900], [6692, 4644, 7204, 5156, 6180, 4132], [4548, 3780, 6852, 4804, 3268], [3396, 6468, 4420, 3652], [4164, 3972, 7044, 4996, 3460, 6532], [3204, 6276, 4228, 3844], [3588, 6660, 4612, 7172, 5124], [1272, 1912, 1400, 1656, 1144, 1976], [1336, 1592, 1080, 2008], [1624, 1112, 1944, 1432], [1560, 3096, 2072], [1384, 1640, 1128, 1960, 1448], [1576, 3112, 2088], [1352, 1608, 1096, 1928], [1544, 3080, 2056, 2032], [1392, 1648, 1136, 1968], [1584, 1072, 2000], [1360, 1616, 1104, 1936, 1424], [3088, 2064, 2016], [1376, 1632], [1824, 1312, 1568, 3104, 2080], [1344, 1600], [1152, 1792, 1280, 1536], [4492, 3724, 6796, 4748], [6690, 4642, 7202, 5154], [5058, 3522, 6594, 4546, 3778, 6850], [3906, 6978, 4930, 3394, 6466, 4418], [5186, 6210, 4162, 3970], [4482, 3714, 6786], [3842, 6914, 4866], [6658, 4610, 7170, 5122, 6146, 4098, 4092], [4604, 3836, 6908], [3964, 7036, 4988], [6780, 4732, 7292, 5244], [5052, 3516, 6588, 4540, 3772, 6844], [3900, 6972, 4924, 3388, 6460], [7228, 5180, 6204, 4156], [6620, 4572, 3804, 6876], [3932, 7004, 4956, 3420, 6492], [7260, 5212, 6236, 4188], [6556, 4508, 3740], [4252, 3868, 6940], [3612, 6684, 4636, 7196], [7148, 5100, 3564, 6636], [3308, 6380, 4332, 3948, 7020], [3692, 6764], [4204, 4012, 7084, 5036, 3500], [4780, 3244, 6316, 4268], [6444, 4396, 3628, 6700], [4140, 4044], [4556, 3788, 6860, 4812, 3276, 6348], [3404, 6476, 4428, 3660, 6732], [4172, 3980]]
def zwE : List Nat := [3742, 3614, 3870, 4126, 4590, 4334, 4462, 6254, 6574, 6318, 6446, 5166, 3534, 3278, 3406, 7246, 5006, 4750, 4878, 4622, 7158, 6902, 7030, 6774, 4022, 3766, 3894, 3638, 5118]
def zwO : List Nat := [6814, 6686, 6942, 4078, 3822, 3950, 3694, 4206, 4526, 4270, 4398, 6190, 6606, 6350, 6478, 5198, 3470, 3214, 3342, 7182, 5110, 4854, 4982, 4726, 7094, 6838, 6966, 6710, 3582]
def zwP : List Nat := [4254, 6174, 4382, 6638, 6382, 6510, 5230, 3502, 3246, 3374, 7214, 5070, 4814, 4942, 4686, 7054, 6798, 6926, 6670, 4086, 3830, 3958, 3702, 4214, 4534, 4278, 4406, 6198, 6910]
def zwS : List Nat := [3230, 7198, 3358, 5102, 4846, 4974, 4718, 7086, 6830, 6958, 6702, 4046, 3790, 3918, 3662, 4174, 4494, 4238, 4366, 6158, 6646, 6390, 6518, 5238, 3510, 3254, 3382, 7222, 4606]
def zwT : List Nat := [4766, 4638, 4894, 7150, 6894, 7022, 6766, 4014, 3758, 3886, 3630, 4142, 4558, 4302, 4430, 6222, 6542, 6286, 6414, 5134, 3574, 3318, 3446, 7286, 5046, 4790, 4918, 4662, 6654]
def zwF : List Nat := [6302, 5150, 6430, 3566, 3310, 3438, 7278, 5038, 4782, 4910, 4654, 7118, 6862, 6990, 6734, 3982, 3726, 3854, 3598, 4110, 4598, 4342, 4470, 6262, 6582, 6326, 6454, 5174, 3838]
def caE : List Nat := [5182, 6206, 4158, 4062, 7134, 5086, 3550, 6622, 4574, 3806, 6878, 4830, 3294, 6366, 4318, 3934, 7006, 4958, 3422, 6494, 4446, 3678, 6750, 4702, 7262, 5214, 6238, 4190, 3998]
def cmE : List Nat := [4350, 3966, 7038, 4990, 3454, 6526, 4478, 3710, 6782, 4734, 7294, 5246, 6270, 4222, 4030, 7102, 5054, 3518, 6590, 4542, 3774, 6846, 4798, 3262, 6334, 4286, 3902, 6974, 4926]
def ceE : List Nat := [6246, 6854, 4166, 6406, 4346, 5050, 4058, 3866, 6634, 7274, 3882, 6346, 4746, 6642, 6770, 5074, 4178, 6162, 6754]
def clW : List Nat := [1161, 1193, 1191, 1203, 2511, 2512, 2513, 2514, 2515, 2516, 2517, 2518, 2519, 2520, 2521, 2522, 2523, 2524, 2525, 2526, 2527, 2528, 2529, 2530, 2531, 2532, 2533, 2534, 375]
def clS : List Nat := [1648, 1649, 1650, 1651, 1652, 1653, 1654, 1655, 1656, 1657, 1658, 1659, 1660, 1661, 1662, 1663, 1664, 1665, 1666, 1667, 1668, 1669, 1670, 1671, 1672, 1673, 1674, 1675, 1676]
def clE : List Nat := [1050, 1309, 1327, 1339, 1351, 1359, 1367, 1383, 1396, 1398, 1429, 1437, 1447, 1457, 1483, 1503, 1526, 1557, 1620]
set_option maxRecDepth 100000 in
set_option maxHeartbeats 4000000 in
theorem kE : ∀ i, i < 69 → pkn 15 gvn (cdE.getD i 1) = .exactly (tmS i) "java/lang/String" := by decide +kernel
set_option maxRecDepth 100000 in
set_option maxHeartbeats 4000000 in
theorem kC : ∀ i, i < 69 → pkn 15 gvn (cdC.getD i 1) = .eq (.field (tmS i) "java/lang/String" "coder" "B") (.int 0) := by decide +kernel
set_option maxRecDepth 100000 in
set_option maxHeartbeats 4000000 in
theorem kA : ∀ i, i < 69 → pkn 15 gvn (cdA.getD i 1) = .arrayOf (tmV i) .byte := by decide +kernel
set_option maxRecDepth 100000 in
set_option maxHeartbeats 4000000 in
theorem kL : ∀ i, i < 69 → pkn 15 gvn (cdL.getD i 1) = .eq (.length (tmV i)) (.int (Int32.ofNat (strT.getD i []).length)) := by decide +kernel
set_option maxRecDepth 100000 in
set_option maxHeartbeats 4000000 in
theorem kJ : ∀ i, i < 69 → ∀ j, j < (strT.getD i []).length → pkn 15 gvn ((cdJ.getD i []).getD j 1) = .eq (.elem (tmV i) (.int (Int32.ofNat j))) (.int (Int32.ofNat ((strT.getD i []).getD j 0))) := by decide +kernel
set_option maxRecDepth 100000 in
set_option maxHeartbeats 4000000 in
theorem kN : ∀ i, i < 69 → (strT.getD i []).length < 2 ^ 31 := by decide +kernel
set_option maxRecDepth 100000 in
set_option maxHeartbeats 4000000 in
theorem kwE : ∀ i, i < 29 → pkn 15 gvn (zwE.getD i 1) = .exactly (tmW i) "NibbleEngine$Word" := by decide +kernel
set_option maxRecDepth 100000 in
set_option maxHeartbeats 4000000 in
theorem kwO : ∀ i, i < 29 → pkn 15 gvn (zwO.getD i 1) = .eq (.field (tmW i) "java/lang/Enum" "ordinal" "I") (.int (Int32.ofNat i)) := by decide +kernel
set_option maxRecDepth 100000 in
set_option maxHeartbeats 4000000 in
theorem kwP : ∀ i, i < 29 → pkn 15 gvn (zwP.getD i 1) = .eq (.field (tmW i) "NibbleEngine$Word" "packed" "I") (.int (wPk.getD i 0)) := by decide +kernel
set_option maxRecDepth 100000 in
set_option maxHeartbeats 4000000 in
theorem kwS : ∀ i, i < 29 → pkn 15 gvn (zwS.getD i 1) = .eq (.field (tmW i) "NibbleEngine$Word" "instruction" "Z") (.int (wIn.getD i 0)) := by decide +kernel
set_option maxRecDepth 100000 in
set_option maxHeartbeats 4000000 in
theorem kwT : ∀ i, i < 29 → pkn 15 gvn (zwT.getD i 1) = .eq (.field (tmW i) "NibbleEngine$Word" "text" "Ljava/lang/String;") (tmS (wTx.getD i 0)) := by decide +kernel
set_option maxRecDepth 100000 in
set_option maxHeartbeats 4000000 in
theorem kwF : ∀ i, i < 29 → pkn 15 gvn (zwF.getD i 1) = .eq (.field (tmW i) "NibbleEngine$Word" "form" "Ljava/lang/String;") (tmS (wFm.getD i 0)) := by decide +kernel
set_option maxRecDepth 100000 in
set_option maxHeartbeats 4000000 in
theorem kwX : ∀ i, i < 29 → wTx.getD i 0 < 69 ∧ wFm.getD i 0 < 69 := by decide +kernel
set_option maxRecDepth 100000 in
set_option maxHeartbeats 4000000 in
theorem kaE : ∀ i, i < 29 → pkn 15 gvn (caE.getD i 1) = .eq (.elem tmA (.int (Int32.ofNat i))) (tmW i) := by decide +kernel
set_option maxRecDepth 100000 in
set_option maxHeartbeats 4000000 in
theorem kmE : ∀ i, i < 29 → pkn 15 gvn (cmE.getD i 1) = .eq (.elem tmM (.int (Int32.ofNat i))) (.int (wSm.getD i 0)) := by decide +kernel
set_option maxRecDepth 100000 in
set_option maxHeartbeats 4000000 in
theorem keE : ∀ i, i < 19 → pkn 15 gvn (ceE.getD i 1) = .exactly (.string (exL.getD i ("", 0, "")).1 (exL.getD i ("", 0, "")).2.1) "java/lang/String" := by decide +kernel
set_option maxRecDepth 100000 in
set_option maxHeartbeats 4000000 in
theorem klW : ∀ i, i < 29 → lw_tbl[clW.getD i 0]? = some (.laysStatic "NibbleEngine$Word" (wNm.getD i "") "LNibbleEngine$Word;") := by decide +kernel
set_option maxRecDepth 100000 in
set_option maxHeartbeats 4000000 in
theorem klS : ∀ i, i < 29 → lw_tbl[clS.getD i 0]? = some (.stringRef (ldL.getD (i + 40) ("", 0, "")).1 (ldL.getD (i + 40) ("", 0, "")).2.1 (ldL.getD (i + 40) ("", 0, "")).2.2) := by decide +kernel
set_option maxRecDepth 100000 in
set_option maxHeartbeats 4000000 in
theorem klE : ∀ i, i < 19 → lw_tbl[clE.getD i 0]? = some (.stringRef (exL.getD i ("", 0, "")).1 (exL.getD i ("", 0, "")).2.1 (exL.getD i ("", 0, "")).2.2) := by decide +kernel
set_option maxRecDepth 100000 in
set_option maxHeartbeats 4000000 in
theorem k1_alA : pkn 15 gvn 6718 = .arrayOf tmA (.object "NibbleEngine$Word") := by decide +kernel
set_option maxRecDepth 100000 in
set_option maxHeartbeats 4000000 in
theorem k1_alL : pkn 15 gvn 4670 = .eq (.length tmA) (.int (Int32.ofNat 29)) := by decide +kernel
set_option maxRecDepth 100000 in
set_option maxHeartbeats 4000000 in
theorem k1_smA : pkn 15 gvn 3326 = .arrayOf tmM .int := by decide +kernel
set_option maxRecDepth 100000 in
set_option maxHeartbeats 4000000 in
theorem k1_smL : pkn 15 gvn 6398 = .eq (.length tmM) (.int (Int32.ofNat 29)) := by decide +kernel
set_option maxRecDepth 100000 in
set_option maxHeartbeats 4000000 in
theorem k1_cs : pkn 15 gvn 7070 = .eq (.static "java/lang/String" "COMPACT_STRINGS" "Z") (.int 1) := by decide +kernel
set_option maxRecDepth 100000 in
set_option maxHeartbeats 4000000 in
theorem k1_us : pkn 15 gvn 3390 = .isRef (.static Bundle.tN "UNASSIGNED_STACK" Bundle.steD) := by decide +kernel
set_option maxRecDepth 100000 in
set_option maxHeartbeats 4000000 in
theorem k1_su : pkn 15 gvn 6462 = .isRef (.static Bundle.tN "SUPPRESSED_SENTINEL" Bundle.listD) := by decide +kernel
set_option maxRecDepth 100000 in
set_option maxHeartbeats 4000000 in
theorem k1_si : pkn 15 gvn 5022 = .isRef (.static "jdk/internal/util/Preconditions" "SIOOBE_FORMATTER" "Ljava/util/function/BiFunction;") := by decide +kernel
set_option maxRecDepth 100000 in
set_option maxHeartbeats 4000000 in
theorem k1_n21 : pkn 15 gvn 3990 = .not (.castable (exN 2) (exN 1)) := by decide +kernel
set_option maxRecDepth 100000 in
set_option maxHeartbeats 4000000 in
theorem k1_n31 : pkn 15 gvn 7062 = .not (.castable (exN 3) (exN 1)) := by decide +kernel
set_option maxRecDepth 100000 in
set_option maxHeartbeats 4000000 in
theorem k1_n32 : pkn 15 gvn 3926 = .not (.castable (exN 3) (exN 2)) := by decide +kernel
end KON
