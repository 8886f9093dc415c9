/-! methods, calls, fields, constants: what the tables say of them (written by wip/whole/gen/gen_words.py) -/
theorem gG_l (is : List Nat) {ws : List Cond} (h : ws = is.filterMap (fun i => tables_1[i]?)) (hg : ws.all goodWord = true) : ∀ w ∈ ws, w ∈ gG := by
  intro w hw
  have h1 := List.all_eq_true.mp hg w hw
  rw [h] at hw
  obtain ⟨i, -, hi⟩ := List.mem_filterMap.mp hw
  exact gG_t i hi h1
theorem gG_1 (i : Nat) {w : Cond} (h : tables_1_1[i]? = some w) (hg : goodWord w = true) : w ∈ gG := by
  have h2 := List.mem_of_getElem? h
  exact gG_in (List.mem_append_right _ (show w ∈ tables_1 from (List.mem_append_left _ h2))) hg
theorem gG_2 (i : Nat) {w : Cond} (h : tables_1_2[i]? = some w) (hg : goodWord w = true) : w ∈ gG := by
  have h2 := List.mem_of_getElem? h
  exact gG_in (List.mem_append_right _ (show w ∈ tables_1 from (List.mem_append_right _ (List.mem_append_left _ h2)))) hg
theorem gG_3 (i : Nat) {w : Cond} (h : tables_1_3[i]? = some w) (hg : goodWord w = true) : w ∈ gG := by
  have h2 := List.mem_of_getElem? h
  exact gG_in (List.mem_append_right _ (show w ∈ tables_1 from (List.mem_append_right _ (List.mem_append_right _ (List.mem_append_left _ h2))))) hg
theorem gG_4 (i : Nat) {w : Cond} (h : tables_1_4[i]? = some w) (hg : goodWord w = true) : w ∈ gG := by
  have h2 := List.mem_of_getElem? h
  exact gG_in (List.mem_append_right _ (show w ∈ tables_1 from (List.mem_append_right _ (List.mem_append_right _ (List.mem_append_right _ (List.mem_append_left _ h2)))))) hg
theorem gG_5 (i : Nat) {w : Cond} (h : tables_1_5[i]? = some w) (hg : goodWord w = true) : w ∈ gG := by
  have h2 := List.mem_of_getElem? h
  exact gG_in (List.mem_append_right _ (show w ∈ tables_1 from (List.mem_append_right _ (List.mem_append_right _ (List.mem_append_right _ (List.mem_append_right _ (List.mem_append_left _ h2))))))) hg
theorem gG_6 (i : Nat) {w : Cond} (h : tables_1_6[i]? = some w) (hg : goodWord w = true) : w ∈ gG := by
  have h2 := List.mem_of_getElem? h
  exact gG_in (List.mem_append_right _ (show w ∈ tables_1 from (List.mem_append_right _ (List.mem_append_right _ (List.mem_append_right _ (List.mem_append_right _ (List.mem_append_right _ (List.mem_append_left _ h2)))))))) hg
theorem gG_7 (i : Nat) {w : Cond} (h : tables_1_7[i]? = some w) (hg : goodWord w = true) : w ∈ gG := by
  have h2 := List.mem_of_getElem? h
  exact gG_in (List.mem_append_right _ (show w ∈ tables_1 from (List.mem_append_right _ (List.mem_append_right _ (List.mem_append_right _ (List.mem_append_right _ (List.mem_append_right _ (List.mem_append_right _ (List.mem_append_left _ h2))))))))) hg
theorem gG_8 (i : Nat) {w : Cond} (h : tables_1_8[i]? = some w) (hg : goodWord w = true) : w ∈ gG := by
  have h2 := List.mem_of_getElem? h
  exact gG_in (List.mem_append_right _ (show w ∈ tables_1 from (List.mem_append_right _ (List.mem_append_right _ (List.mem_append_right _ (List.mem_append_right _ (List.mem_append_right _ (List.mem_append_right _ (List.mem_append_right _ (List.mem_append_left _ h2)))))))))) hg
theorem gG_9 (i : Nat) {w : Cond} (h : tables_1_9[i]? = some w) (hg : goodWord w = true) : w ∈ gG := by
  have h2 := List.mem_of_getElem? h
  exact gG_in (List.mem_append_right _ (show w ∈ tables_1 from (List.mem_append_right _ (List.mem_append_right _ (List.mem_append_right _ (List.mem_append_right _ (List.mem_append_right _ (List.mem_append_right _ (List.mem_append_right _ (List.mem_append_right _ (List.mem_append_left _ h2))))))))))) hg
theorem gG_10 (i : Nat) {w : Cond} (h : tables_1_10[i]? = some w) (hg : goodWord w = true) : w ∈ gG := by
  have h2 := List.mem_of_getElem? h
  exact gG_in (List.mem_append_right _ (show w ∈ tables_1 from (List.mem_append_right _ (List.mem_append_right _ (List.mem_append_right _ (List.mem_append_right _ (List.mem_append_right _ (List.mem_append_right _ (List.mem_append_right _ (List.mem_append_right _ (List.mem_append_right _ h2))))))))))) hg
theorem inG_X0 : ∀ w ∈ u_ws RX0 TX0 8, w ∈ gG := gG_l [159, 161, 163, 165, 167, 169, 171, 173] (by decide +kernel) (by decide +kernel)
theorem cl_X0 : gCl 0 := ⟨(RX0, TX0, 8), tyX0, rfl, inG_X0, tyX0_ok, nmX0⟩
theorem ci_X0 : gCi 0 RX0 := ⟨(RX0, TX0, 8), rfl, rfl⟩
theorem inG_X1 : ∀ w ∈ u_ws RX1 TX1 11, w ∈ gG := gG_l [491, 493, 495, 497, 499, 501, 503, 505, 507, 509, 511] (by decide +kernel) (by decide +kernel)
theorem cl_X1 : gCl 1 := ⟨(RX1, TX1, 11), tyX1, rfl, inG_X1, tyX1_ok, nmX1⟩
theorem ci_X1 : gCi 1 RX1 := ⟨(RX1, TX1, 11), rfl, rfl⟩
theorem inG_X2 : ∀ w ∈ u_ws RX2 TX2 17, w ∈ gG := gG_l [201, 203, 205, 207, 209, 211, 213, 215, 217, 219, 221, 223, 225, 227, 229, 231, 233] (by decide +kernel) (by decide +kernel)
theorem cl_X2 : gCl 2 := ⟨(RX2, TX2, 17), tyX2, rfl, inG_X2, tyX2_ok, nmX2⟩
theorem ci_X2 : gCi 2 RX2 := ⟨(RX2, TX2, 17), rfl, rfl⟩
theorem inG_X3 : ∀ w ∈ u_ws RX3 TX3 9, w ∈ gG := gG_l [397, 399, 401, 403, 405, 407, 409, 411, 413] (by decide +kernel) (by decide +kernel)
theorem cl_X3 : gCl 3 := ⟨(RX3, TX3, 9), tyX3, rfl, inG_X3, tyX3_ok, nmX3⟩
theorem ci_X3 : gCi 3 RX3 := ⟨(RX3, TX3, 9), rfl, rfl⟩
theorem inG_X4 : ∀ w ∈ u_ws RX4 TX4 16, w ∈ gG := gG_l [266, 268, 270, 272, 274, 276, 278, 280, 282, 284, 286, 288, 290, 292, 294, 296] (by decide +kernel) (by decide +kernel)
theorem cl_X4 : gCl 4 := ⟨(RX4, TX4, 16), tyX4, rfl, inG_X4, tyX4_ok, nmX4⟩
theorem ci_X4 : gCi 4 RX4 := ⟨(RX4, TX4, 16), rfl, rfl⟩
theorem inG_X5 : ∀ w ∈ u_ws RX5 TX5 18, w ∈ gG := gG_l [345, 347, 349, 351, 353, 355, 357, 359, 361, 363, 365, 367, 369, 371, 373, 375, 377, 379] (by decide +kernel) (by decide +kernel)
theorem cl_X5 : gCl 5 := ⟨(RX5, TX5, 18), tyX5, rfl, inG_X5, tyX5_ok, nmX5⟩
theorem ci_X5 : gCi 5 RX5 := ⟨(RX5, TX5, 18), rfl, rfl⟩
theorem inG_X6 : ∀ w ∈ u_ws RX6 TX6 17, w ∈ gG := gG_l [439, 441, 443, 445, 447, 449, 451, 453, 455, 457, 459, 461, 463, 465, 467, 469, 471] (by decide +kernel) (by decide +kernel)
theorem cl_X6 : gCl 6 := ⟨(RX6, TX6, 17), tyX6, rfl, inG_X6, tyX6_ok, nmX6⟩
theorem ci_X6 : gCi 6 RX6 := ⟨(RX6, TX6, 17), rfl, rfl⟩
theorem inG_X7 : ∀ w ∈ u_ws RX7 TX7 13, w ∈ gG := gG_l [118, 120, 122, 124, 126, 128, 130, 132, 134, 136, 138, 140, 142] (by decide +kernel) (by decide +kernel)
theorem cl_X7 : gCl 7 := ⟨(RX7, TX7, 13), tyX7, rfl, inG_X7, tyX7_ok, nmX7⟩
theorem ci_X7 : gCi 7 RX7 := ⟨(RX7, TX7, 13), rfl, rfl⟩
theorem inG_X8 : ∀ w ∈ u_ws RX8 TX8 9, w ∈ gG := gG_l [78, 80, 82, 84, 86, 88, 90, 92, 94] (by decide +kernel) (by decide +kernel)
theorem cl_X8 : gCl 8 := ⟨(RX8, TX8, 9), tyX8, rfl, inG_X8, tyX8_ok, nmX8⟩
theorem ci_X8 : gCi 8 RX8 := ⟨(RX8, TX8, 9), rfl, rfl⟩
theorem inG_X9 : ∀ w ∈ u_ws RX9 TX9 7, w ∈ gG := gG_l [52, 54, 56, 58, 60, 62, 64] (by decide +kernel) (by decide +kernel)
theorem cl_X9 : gCl 9 := ⟨(RX9, TX9, 7), tyX9, rfl, inG_X9, tyX9_ok, nmX9⟩
theorem ci_X9 : gCi 9 RX9 := ⟨(RX9, TX9, 7), rfl, rfl⟩
theorem inG_X10 : ∀ w ∈ u_ws RX10 TX10 7, w ∈ gG := gG_l [312, 314, 316, 318, 320, 322, 324] (by decide +kernel) (by decide +kernel)
theorem cl_X10 : gCl 10 := ⟨(RX10, TX10, 7), tyX10, rfl, inG_X10, tyX10_ok, nmX10⟩
theorem ci_X10 : gCi 10 RX10 := ⟨(RX10, TX10, 7), rfl, rfl⟩
theorem inG_X11 : ∀ w ∈ u_ws RX11 TX11 14, w ∈ gG := gG_l [528, 530, 532, 534, 536, 538, 540, 542, 544, 546, 548, 550, 552, 554] (by decide +kernel) (by decide +kernel)
theorem cl_X11 : gCl 11 := ⟨(RX11, TX11, 14), tyX11, rfl, inG_X11, tyX11_ok, nmX11⟩
theorem ci_X11 : gCi 11 RX11 := ⟨(RX11, TX11, 14), rfl, rfl⟩
theorem inG_X12 : ∀ w ∈ u_ws RX12 TX12 116, w ∈ gG := gG_l [1660, 1662, 1664, 1666, 1668, 1670, 1672, 1674, 1676, 1678, 1680, 1682, 1684, 1686, 1688, 1690, 1692, 1694, 1696, 1698, 1700, 1702, 1704, 1706, 1708, 1710, 1712, 1714, 1716, 1718, 1720, 1722, 1724, 1726, 1728, 1730, 1732, 1734, 1736, 1738, 1740, 1742, 1744, 1746, 1748, 1750, 1752, 1754, 1756, 1758, 1760, 1762, 1764, 1766, 1768, 1770, 1772, 1774, 1776, 1778, 1780, 1782, 1784, 1786, 1788, 1790, 1792, 1794, 1796, 1798, 1800, 1802, 1804, 1806, 1808, 1810, 1812, 1814, 1816, 1818, 1820, 1822, 1824, 1826, 1828, 1830, 1832, 1834, 1836, 1838, 1840, 1842, 1844, 1846, 1848, 1850, 1852, 1854, 1856, 1858, 1860, 1862, 1864, 1866, 1868, 1870, 1872, 1874, 1876, 1878, 1880, 1882, 1884, 1886, 1888, 1890] (by decide +kernel) (by decide +kernel)
theorem cl_X12 : gCl 12 := ⟨(RX12, TX12, 116), tyX12, rfl, inG_X12, tyX12_ok, nmX12⟩
theorem ci_X12 : gCi 12 RX12 := ⟨(RX12, TX12, 116), rfl, rfl⟩
abbrev mX11_init : gM := (yX11_init, cX11_init, 1, (Option.none : Option Jvm.ClassFile.FieldType), none)
theorem ms_mX11_init : gMs mX11_init 0 := ⟨gG_1 1 (by decide +kernel) (by decide +kernel), gG_1 29 rfl rfl, by decide +kernel, by decide⟩
theorem in_mX11_init : Cond.instanceMethod yX11_init ∈ gG := gG_1 28 (by decide +kernel) (by decide +kernel)
abbrev mX8_init : gM := (yX8_init, cX8_init, 1, (Option.none : Option Jvm.ClassFile.FieldType), none)
theorem ms_mX8_init : gMs mX8_init 0 := ⟨gG_1 2 (by decide +kernel) (by decide +kernel), gG_1 37 rfl rfl, by decide +kernel, by decide⟩
theorem in_mX8_init : Cond.instanceMethod yX8_init ∈ gG := gG_1 36 (by decide +kernel) (by decide +kernel)
abbrev mX9_init : gM := (yX9_init, cX9_init, 3, (Option.none : Option Jvm.ClassFile.FieldType), none)
theorem ms_mX9_init : gMs mX9_init 1 := ⟨gG_1 3 (by decide +kernel) (by decide +kernel), gG_1 43 rfl rfl, by decide +kernel, by decide⟩
theorem in_mX9_init : Cond.instanceMethod yX9_init ∈ gG := gG_1 42 (by decide +kernel) (by decide +kernel)
abbrev mX7_init : gM := (yX7_init, cX7_init, 1, (Option.none : Option Jvm.ClassFile.FieldType), none)
theorem ms_mX7_init : gMs mX7_init 0 := ⟨gG_1 4 (by decide +kernel) (by decide +kernel), gG_1 101 rfl rfl, by decide +kernel, by decide⟩
theorem in_mX7_init : Cond.instanceMethod yX7_init ∈ gG := gG_1 100 (by decide +kernel) (by decide +kernel)
abbrev mX0_init : gM := (yX0_init, cX0_init, 2, (Option.none : Option Jvm.ClassFile.FieldType), none)
theorem ms_mX0_init : gMs mX0_init 1 := ⟨gG_1 5 (by decide +kernel) (by decide +kernel), gG_1 149 rfl rfl, by decide +kernel, by decide⟩
theorem in_mX0_init : Cond.instanceMethod yX0_init ∈ gG := gG_1 148 (by decide +kernel) (by decide +kernel)
abbrev mX2_init : gM := (yX2_init, cX2_init, 1, (Option.none : Option Jvm.ClassFile.FieldType), none)
theorem ms_mX2_init : gMs mX2_init 0 := ⟨gG_1 6 (by decide +kernel) (by decide +kernel), gG_1 182 rfl rfl, by decide +kernel, by decide⟩
theorem in_mX2_init : Cond.instanceMethod yX2_init ∈ gG := gG_1 181 (by decide +kernel) (by decide +kernel)
abbrev mX5_init : gM := (yX5_init, cX5_init, 2, (Option.none : Option Jvm.ClassFile.FieldType), none)
theorem ms_mX5_init : gMs mX5_init 0 := ⟨gG_1 7 (by decide +kernel) (by decide +kernel), gG_2 1 rfl rfl, by decide +kernel, by decide⟩
theorem in_mX5_init : Cond.instanceMethod yX5_init ∈ gG := gG_2 0 (by decide +kernel) (by decide +kernel)
abbrev mX4_init : gM := (yX4_init, cX4_init, 1, (Option.none : Option Jvm.ClassFile.FieldType), none)
theorem ms_mX4_init : gMs mX4_init 0 := ⟨gG_1 8 (by decide +kernel) (by decide +kernel), gG_2 8 rfl rfl, by decide +kernel, by decide⟩
theorem in_mX4_init : Cond.instanceMethod yX4_init ∈ gG := gG_2 7 (by decide +kernel) (by decide +kernel)
abbrev mX10_init : gM := (yX10_init, cX10_init, 1, (Option.none : Option Jvm.ClassFile.FieldType), none)
theorem ms_mX10_init : gMs mX10_init 0 := ⟨gG_1 9 (by decide +kernel) (by decide +kernel), gG_2 63 rfl rfl, by decide +kernel, by decide⟩
theorem in_mX10_init : Cond.instanceMethod yX10_init ∈ gG := gG_2 62 (by decide +kernel) (by decide +kernel)
abbrev mX3_init : gM := (yX3_init, cX3_init, 7, (Option.none : Option Jvm.ClassFile.FieldType), none)
theorem ms_mX3_init : gMs mX3_init 6 := ⟨gG_1 10 (by decide +kernel) (by decide +kernel), gG_2 146 rfl rfl, by decide +kernel, by decide⟩
theorem in_mX3_init : Cond.instanceMethod yX3_init ∈ gG := gG_2 145 (by decide +kernel) (by decide +kernel)
abbrev mX6_init : gM := (yX6_init, cX6_init, 4, (Option.none : Option Jvm.ClassFile.FieldType), none)
theorem ms_mX6_init : gMs mX6_init 3 := ⟨gG_1 11 (by decide +kernel) (by decide +kernel), gG_2 180 rfl rfl, by decide +kernel, by decide⟩
theorem in_mX6_init : Cond.instanceMethod yX6_init ∈ gG := gG_2 179 (by decide +kernel) (by decide +kernel)
abbrev mX1_init : gM := (yX1_init, cX1_init, 2, (Option.none : Option Jvm.ClassFile.FieldType), none)
theorem ms_mX1_init : gMs mX1_init 1 := ⟨gG_1 12 (by decide +kernel) (by decide +kernel), gG_2 238 rfl rfl, by decide +kernel, by decide⟩
theorem in_mX1_init : Cond.instanceMethod yX1_init ∈ gG := gG_2 237 (by decide +kernel) (by decide +kernel)
abbrev mX11_feed : gM := (yX11_feed, cX11_feed, 6, (Option.some Jvm.ClassFile.FieldType.int), none)
theorem ms_mX11_feed : gMs mX11_feed 5 := ⟨gG_1 1 (by decide +kernel) (by decide +kernel), gG_3 80 rfl rfl, by decide +kernel, by decide⟩
theorem mi_mX11_feed : gMi mX11_feed 5 := ⟨ms_mX11_feed, gG_3 78 (by decide +kernel) (by decide +kernel), gG_3 79 (by decide +kernel) (by decide +kernel)⟩
abbrev mX11_putNumber : gM := (yX11_putNumber, cX11_putNumber, 3, (Option.none : Option Jvm.ClassFile.FieldType), none)
theorem ms_mX11_putNumber : gMs mX11_putNumber 1 := ⟨gG_1 1 (by decide +kernel) (by decide +kernel), gG_3 84 rfl rfl, by decide +kernel, by decide⟩
theorem mi_mX11_putNumber : gMi mX11_putNumber 1 := ⟨ms_mX11_putNumber, gG_3 83 (by decide +kernel) (by decide +kernel), gG_s 0 (by decide +kernel) (by decide +kernel)⟩
abbrev mX11_end : gM := (yX11_end, cX11_end, 2, (Option.some Jvm.ClassFile.FieldType.boolean), none)
theorem ms_mX11_end : gMs mX11_end 1 := ⟨gG_1 1 (by decide +kernel) (by decide +kernel), gG_3 88 rfl rfl, by decide +kernel, by decide⟩
theorem mi_mX11_end : gMi mX11_end 1 := ⟨ms_mX11_end, gG_3 86 (by decide +kernel) (by decide +kernel), gG_3 87 (by decide +kernel) (by decide +kernel)⟩
abbrev mX11_next : gM := (yX11_next, cX11_next, 2, (Option.some Jvm.ClassFile.FieldType.int), none)
theorem ms_mX11_next : gMs mX11_next 1 := ⟨gG_1 1 (by decide +kernel) (by decide +kernel), gG_3 92 rfl rfl, by decide +kernel, by decide⟩
theorem mi_mX11_next : gMi mX11_next 1 := ⟨ms_mX11_next, gG_3 90 (by decide +kernel) (by decide +kernel), gG_3 91 (by decide +kernel) (by decide +kernel)⟩
abbrev mX11_party : gM := (yX11_party, cX11_party, 2, (Option.some Jvm.ClassFile.FieldType.int), none)
theorem ms_mX11_party : gMs mX11_party 1 := ⟨gG_1 1 (by decide +kernel) (by decide +kernel), gG_3 96 rfl rfl, by decide +kernel, by decide⟩
theorem mi_mX11_party : gMi mX11_party 1 := ⟨ms_mX11_party, gG_3 94 (by decide +kernel) (by decide +kernel), gG_3 95 (by decide +kernel) (by decide +kernel)⟩
abbrev mX11_takeName : gM := (yX11_takeName, cX11_takeName, 2, (Option.some Jvm.ClassFile.FieldType.long), none)
theorem ms_mX11_takeName : gMs mX11_takeName 0 := ⟨gG_1 1 (by decide +kernel) (by decide +kernel), gG_3 100 rfl rfl, by decide +kernel, by decide⟩
theorem mi_mX11_takeName : gMi mX11_takeName 0 := ⟨ms_mX11_takeName, gG_3 99 (by decide +kernel) (by decide +kernel), gG_s 1 (by decide +kernel) (by decide +kernel)⟩
abbrev mX8_nameOf : gM := (yX8_nameOf, cX8_nameOf, 5, (Option.some Jvm.ClassFile.FieldType.long), none)
theorem ms_mX8_nameOf : gMs mX8_nameOf 2 := ⟨gG_1 2 (by decide +kernel) (by decide +kernel), gG_3 103 rfl rfl, by decide +kernel, by decide⟩
theorem st_mX8_nameOf : Cond.static yX8_nameOf ∈ gG := gG_3 102 (by decide +kernel) (by decide +kernel)
abbrev mX8_add : gM := (yX8_add, cX8_add, 4, (Option.some Jvm.ClassFile.FieldType.int), none)
theorem ms_mX8_add : gMs mX8_add 2 := ⟨gG_1 2 (by decide +kernel) (by decide +kernel), gG_3 108 rfl rfl, by decide +kernel, by decide⟩
theorem mi_mX8_add : gMi mX8_add 2 := ⟨ms_mX8_add, gG_3 106 (by decide +kernel) (by decide +kernel), gG_3 107 (by decide +kernel) (by decide +kernel)⟩
abbrev mX11_owns : gM := (yX11_owns, cX11_owns, 6, (Option.some Jvm.ClassFile.FieldType.int), none)
theorem ms_mX11_owns : gMs mX11_owns 5 := ⟨gG_1 1 (by decide +kernel) (by decide +kernel), gG_3 112 rfl rfl, by decide +kernel, by decide⟩
theorem mi_mX11_owns : gMi mX11_owns 5 := ⟨ms_mX11_owns, gG_3 110 (by decide +kernel) (by decide +kernel), gG_3 111 (by decide +kernel) (by decide +kernel)⟩
abbrev mX8_has : gM := (yX8_has, cX8_has, 2, (Option.some Jvm.ClassFile.FieldType.boolean), none)
theorem ms_mX8_has : gMs mX8_has 1 := ⟨gG_1 2 (by decide +kernel) (by decide +kernel), gG_3 116 rfl rfl, by decide +kernel, by decide⟩
theorem mi_mX8_has : gMi mX8_has 1 := ⟨ms_mX8_has, gG_3 114 (by decide +kernel) (by decide +kernel), gG_3 115 (by decide +kernel) (by decide +kernel)⟩
abbrev mX8_canBeHeld : gM := (yX8_canBeHeld, cX8_canBeHeld, 2, (Option.some Jvm.ClassFile.FieldType.boolean), none)
theorem ms_mX8_canBeHeld : gMs mX8_canBeHeld 1 := ⟨gG_1 2 (by decide +kernel) (by decide +kernel), gG_3 120 rfl rfl, by decide +kernel, by decide⟩
theorem mi_mX8_canBeHeld : gMi mX8_canBeHeld 1 := ⟨ms_mX8_canBeHeld, gG_3 118 (by decide +kernel) (by decide +kernel), gG_3 119 (by decide +kernel) (by decide +kernel)⟩
abbrev mX11_isSpan : gM := (yX11_isSpan, cX11_isSpan, 3, (Option.some Jvm.ClassFile.FieldType.boolean), none)
theorem ms_mX11_isSpan : gMs mX11_isSpan 3 := ⟨gG_1 1 (by decide +kernel) (by decide +kernel), gG_3 124 rfl rfl, by decide +kernel, by decide⟩
theorem st_mX11_isSpan : Cond.static yX11_isSpan ∈ gG := gG_3 123 (by decide +kernel) (by decide +kernel)
abbrev mX11_isDay : gM := (yX11_isDay, cX11_isDay, 1, (Option.some Jvm.ClassFile.FieldType.boolean), none)
theorem ms_mX11_isDay : gMs mX11_isDay 1 := ⟨gG_1 1 (by decide +kernel) (by decide +kernel), gG_3 127 rfl rfl, by decide +kernel, by decide⟩
theorem st_mX11_isDay : Cond.static yX11_isDay ∈ gG := gG_3 126 (by decide +kernel) (by decide +kernel)
abbrev mX7_exceedsWhole : gM := (yX7_exceedsWhole, cX7_exceedsWhole, 7, (Option.some Jvm.ClassFile.FieldType.boolean), none)
theorem ms_mX7_exceedsWhole : gMs mX7_exceedsWhole 4 := ⟨gG_1 4 (by decide +kernel) (by decide +kernel), gG_3 131 rfl rfl, by decide +kernel, by decide⟩
theorem mi_mX7_exceedsWhole : gMi mX7_exceedsWhole 4 := ⟨ms_mX7_exceedsWhole, gG_3 129 (by decide +kernel) (by decide +kernel), gG_3 130 (by decide +kernel) (by decide +kernel)⟩
abbrev mX7_isTooMuch : gM := (yX7_isTooMuch, cX7_isTooMuch, 6, (Option.some Jvm.ClassFile.FieldType.boolean), none)
theorem ms_mX7_isTooMuch : gMs mX7_isTooMuch 3 := ⟨gG_1 4 (by decide +kernel) (by decide +kernel), gG_3 135 rfl rfl, by decide +kernel, by decide⟩
theorem mi_mX7_isTooMuch : gMi mX7_isTooMuch 3 := ⟨ms_mX7_isTooMuch, gG_3 134 (by decide +kernel) (by decide +kernel), gG_s 2 (by decide +kernel) (by decide +kernel)⟩
abbrev mX9_total : gM := (yX9_total, cX9_total, 1, (Option.some Jvm.ClassFile.FieldType.int), none)
theorem ms_mX9_total : gMs mX9_total 0 := ⟨gG_1 3 (by decide +kernel) (by decide +kernel), gG_3 139 rfl rfl, by decide +kernel, by decide⟩
theorem mi_mX9_total : gMi mX9_total 0 := ⟨ms_mX9_total, gG_3 137 (by decide +kernel) (by decide +kernel), gG_3 138 (by decide +kernel) (by decide +kernel)⟩
abbrev mX9_second : gM := (yX9_second, cX9_second, 2, (Option.some Jvm.ClassFile.FieldType.int), none)
theorem ms_mX9_second : gMs mX9_second 1 := ⟨gG_1 3 (by decide +kernel) (by decide +kernel), gG_3 143 rfl rfl, by decide +kernel, by decide⟩
theorem mi_mX9_second : gMi mX9_second 1 := ⟨ms_mX9_second, gG_3 141 (by decide +kernel) (by decide +kernel), gG_3 142 (by decide +kernel) (by decide +kernel)⟩
abbrev mX9_covers : gM := (yX9_covers, cX9_covers, 3, (Option.some Jvm.ClassFile.FieldType.boolean), none)
theorem ms_mX9_covers : gMs mX9_covers 2 := ⟨gG_1 3 (by decide +kernel) (by decide +kernel), gG_3 147 rfl rfl, by decide +kernel, by decide⟩
theorem mi_mX9_covers : gMi mX9_covers 2 := ⟨ms_mX9_covers, gG_3 145 (by decide +kernel) (by decide +kernel), gG_3 146 (by decide +kernel) (by decide +kernel)⟩
abbrev mX9_share : gM := (yX9_share, cX9_share, 2, (Option.some Jvm.ClassFile.FieldType.int), none)
theorem ms_mX9_share : gMs mX9_share 1 := ⟨gG_1 3 (by decide +kernel) (by decide +kernel), gG_3 151 rfl rfl, by decide +kernel, by decide⟩
theorem mi_mX9_share : gMi mX9_share 1 := ⟨ms_mX9_share, gG_3 149 (by decide +kernel) (by decide +kernel), gG_3 150 (by decide +kernel) (by decide +kernel)⟩
abbrev mX9_start : gM := (yX9_start, cX9_start, 2, (Option.some Jvm.ClassFile.FieldType.int), none)
theorem ms_mX9_start : gMs mX9_start 1 := ⟨gG_1 3 (by decide +kernel) (by decide +kernel), gG_3 155 rfl rfl, by decide +kernel, by decide⟩
theorem mi_mX9_start : gMi mX9_start 1 := ⟨ms_mX9_start, gG_3 153 (by decide +kernel) (by decide +kernel), gG_3 154 (by decide +kernel) (by decide +kernel)⟩
abbrev mX7_add : gM := (yX7_add, cX7_add, 9, (Option.some Jvm.ClassFile.FieldType.int), none)
theorem ms_mX7_add : gMs mX7_add 6 := ⟨gG_1 4 (by decide +kernel) (by decide +kernel), gG_3 159 rfl rfl, by decide +kernel, by decide⟩
theorem mi_mX7_add : gMi mX7_add 6 := ⟨ms_mX7_add, gG_3 157 (by decide +kernel) (by decide +kernel), gG_3 158 (by decide +kernel) (by decide +kernel)⟩
abbrev mX9_add : gM := (yX9_add, cX9_add, 7, (Option.some Jvm.ClassFile.FieldType.int), none)
theorem ms_mX9_add : gMs mX9_add 6 := ⟨gG_1 3 (by decide +kernel) (by decide +kernel), gG_3 163 rfl rfl, by decide +kernel, by decide⟩
theorem mi_mX9_add : gMi mX9_add 6 := ⟨ms_mX9_add, gG_3 161 (by decide +kernel) (by decide +kernel), gG_3 162 (by decide +kernel) (by decide +kernel)⟩
abbrev mX7_comesBehind : gM := (yX7_comesBehind, cX7_comesBehind, 5, (Option.some Jvm.ClassFile.FieldType.boolean), none)
theorem ms_mX7_comesBehind : gMs mX7_comesBehind 3 := ⟨gG_1 4 (by decide +kernel) (by decide +kernel), gG_3 167 rfl rfl, by decide +kernel, by decide⟩
theorem mi_mX7_comesBehind : gMi mX7_comesBehind 3 := ⟨ms_mX7_comesBehind, gG_3 166 (by decide +kernel) (by decide +kernel), gG_s 3 (by decide +kernel) (by decide +kernel)⟩
abbrev mX9_first : gM := (yX9_first, cX9_first, 2, (Option.some Jvm.ClassFile.FieldType.int), none)
theorem ms_mX9_first : gMs mX9_first 1 := ⟨gG_1 3 (by decide +kernel) (by decide +kernel), gG_3 171 rfl rfl, by decide +kernel, by decide⟩
theorem mi_mX9_first : gMi mX9_first 1 := ⟨ms_mX9_first, gG_3 169 (by decide +kernel) (by decide +kernel), gG_3 170 (by decide +kernel) (by decide +kernel)⟩
abbrev mX11_kin : gM := (yX11_kin, cX11_kin, 5, (Option.some Jvm.ClassFile.FieldType.int), none)
theorem ms_mX11_kin : gMs mX11_kin 4 := ⟨gG_1 1 (by decide +kernel) (by decide +kernel), gG_3 175 rfl rfl, by decide +kernel, by decide⟩
theorem mi_mX11_kin : gMi mX11_kin 4 := ⟨ms_mX11_kin, gG_3 173 (by decide +kernel) (by decide +kernel), gG_3 174 (by decide +kernel) (by decide +kernel)⟩
abbrev mX8_isPerson : gM := (yX8_isPerson, cX8_isPerson, 2, (Option.some Jvm.ClassFile.FieldType.boolean), none)
theorem ms_mX8_isPerson : gMs mX8_isPerson 1 := ⟨gG_1 2 (by decide +kernel) (by decide +kernel), gG_3 179 rfl rfl, by decide +kernel, by decide⟩
theorem mi_mX8_isPerson : gMi mX8_isPerson 1 := ⟨ms_mX8_isPerson, gG_3 177 (by decide +kernel) (by decide +kernel), gG_3 178 (by decide +kernel) (by decide +kernel)⟩
abbrev mX8_addKin : gM := (yX8_addKin, cX8_addKin, 6, (Option.some Jvm.ClassFile.FieldType.int), none)
theorem ms_mX8_addKin : gMs mX8_addKin 5 := ⟨gG_1 2 (by decide +kernel) (by decide +kernel), gG_3 183 rfl rfl, by decide +kernel, by decide⟩
theorem mi_mX8_addKin : gMi mX8_addKin 5 := ⟨ms_mX8_addKin, gG_3 181 (by decide +kernel) (by decide +kernel), gG_3 182 (by decide +kernel) (by decide +kernel)⟩
abbrev mX11_post : gM := (yX11_post, cX11_post, 5, (Option.some Jvm.ClassFile.FieldType.int), none)
theorem ms_mX11_post : gMs mX11_post 4 := ⟨gG_1 1 (by decide +kernel) (by decide +kernel), gG_3 188 rfl rfl, by decide +kernel, by decide⟩
theorem mi_mX11_post : gMi mX11_post 4 := ⟨ms_mX11_post, gG_3 186 (by decide +kernel) (by decide +kernel), gG_3 187 (by decide +kernel) (by decide +kernel)⟩
abbrev mX11_gift : gM := (yX11_gift, cX11_gift, 9, (Option.some Jvm.ClassFile.FieldType.int), none)
theorem ms_mX11_gift : gMs mX11_gift 7 := ⟨gG_1 1 (by decide +kernel) (by decide +kernel), gG_3 193 rfl rfl, by decide +kernel, by decide⟩
theorem mi_mX11_gift : gMi mX11_gift 7 := ⟨ms_mX11_gift, gG_3 191 (by decide +kernel) (by decide +kernel), gG_3 192 (by decide +kernel) (by decide +kernel)⟩
abbrev mX11_isRange : gM := (yX11_isRange, cX11_isRange, 2, (Option.some Jvm.ClassFile.FieldType.boolean), none)
theorem ms_mX11_isRange : gMs mX11_isRange 2 := ⟨gG_1 1 (by decide +kernel) (by decide +kernel), gG_3 196 rfl rfl, by decide +kernel, by decide⟩
theorem st_mX11_isRange : Cond.static yX11_isRange ∈ gG := gG_3 195 (by decide +kernel) (by decide +kernel)
abbrev mX2_add : gM := (yX2_add, cX2_add, 6, (Option.some Jvm.ClassFile.FieldType.int), none)
theorem ms_mX2_add : gMs mX2_add 5 := ⟨gG_1 6 (by decide +kernel) (by decide +kernel), gG_3 201 rfl rfl, by decide +kernel, by decide⟩
theorem mi_mX2_add : gMi mX2_add 5 := ⟨ms_mX2_add, gG_3 199 (by decide +kernel) (by decide +kernel), gG_3 200 (by decide +kernel) (by decide +kernel)⟩
abbrev mX2_describe : gM := (yX2_describe, cX2_describe, 5, (Option.none : Option Jvm.ClassFile.FieldType), none)
theorem ms_mX2_describe : gMs mX2_describe 4 := ⟨gG_1 6 (by decide +kernel) (by decide +kernel), gG_3 205 rfl rfl, by decide +kernel, by decide⟩
theorem mi_mX2_describe : gMi mX2_describe 4 := ⟨ms_mX2_describe, gG_3 203 (by decide +kernel) (by decide +kernel), gG_3 204 (by decide +kernel) (by decide +kernel)⟩
abbrev mX2_has : gM := (yX2_has, cX2_has, 2, (Option.some Jvm.ClassFile.FieldType.boolean), none)
theorem ms_mX2_has : gMs mX2_has 1 := ⟨gG_1 6 (by decide +kernel) (by decide +kernel), gG_3 209 rfl rfl, by decide +kernel, by decide⟩
theorem mi_mX2_has : gMi mX2_has 1 := ⟨ms_mX2_has, gG_3 207 (by decide +kernel) (by decide +kernel), gG_3 208 (by decide +kernel) (by decide +kernel)⟩
abbrev mX11_worth : gM := (yX11_worth, cX11_worth, 4, (Option.some Jvm.ClassFile.FieldType.boolean), none)
theorem ms_mX11_worth : gMs mX11_worth 3 := ⟨gG_1 1 (by decide +kernel) (by decide +kernel), gG_3 213 rfl rfl, by decide +kernel, by decide⟩
theorem mi_mX11_worth : gMi mX11_worth 3 := ⟨ms_mX11_worth, gG_3 211 (by decide +kernel) (by decide +kernel), gG_3 212 (by decide +kernel) (by decide +kernel)⟩
abbrev mX2_addWorth : gM := (yX2_addWorth, cX2_addWorth, 5, (Option.some Jvm.ClassFile.FieldType.boolean), none)
theorem ms_mX2_addWorth : gMs mX2_addWorth 4 := ⟨gG_1 6 (by decide +kernel) (by decide +kernel), gG_3 218 rfl rfl, by decide +kernel, by decide⟩
theorem mi_mX2_addWorth : gMi mX2_addWorth 4 := ⟨ms_mX2_addWorth, gG_3 216 (by decide +kernel) (by decide +kernel), gG_3 217 (by decide +kernel) (by decide +kernel)⟩
abbrev mX11_back : gM := (yX11_back, cX11_back, 3, (Option.some Jvm.ClassFile.FieldType.boolean), none)
theorem ms_mX11_back : gMs mX11_back 2 := ⟨gG_1 1 (by decide +kernel) (by decide +kernel), gG_3 222 rfl rfl, by decide +kernel, by decide⟩
theorem mi_mX11_back : gMi mX11_back 2 := ⟨ms_mX11_back, gG_3 220 (by decide +kernel) (by decide +kernel), gG_3 221 (by decide +kernel) (by decide +kernel)⟩
abbrev mX2_giveBack : gM := (yX2_giveBack, cX2_giveBack, 4, (Option.some Jvm.ClassFile.FieldType.boolean), none)
theorem ms_mX2_giveBack : gMs mX2_giveBack 3 := ⟨gG_1 6 (by decide +kernel) (by decide +kernel), gG_3 226 rfl rfl, by decide +kernel, by decide⟩
theorem mi_mX2_giveBack : gMi mX2_giveBack 3 := ⟨ms_mX2_giveBack, gG_3 224 (by decide +kernel) (by decide +kernel), gG_3 225 (by decide +kernel) (by decide +kernel)⟩
abbrev mX11_tell : gM := (yX11_tell, cX11_tell, 2, (Option.some Jvm.ClassFile.FieldType.boolean), none)
theorem ms_mX11_tell : gMs mX11_tell 1 := ⟨gG_1 1 (by decide +kernel) (by decide +kernel), gG_3 230 rfl rfl, by decide +kernel, by decide⟩
theorem mi_mX11_tell : gMi mX11_tell 1 := ⟨ms_mX11_tell, gG_3 228 (by decide +kernel) (by decide +kernel), gG_3 229 (by decide +kernel) (by decide +kernel)⟩
abbrev mX2_noteTold : gM := (yX2_noteTold, cX2_noteTold, 3, (Option.some Jvm.ClassFile.FieldType.boolean), none)
theorem ms_mX2_noteTold : gMs mX2_noteTold 2 := ⟨gG_1 6 (by decide +kernel) (by decide +kernel), gG_3 234 rfl rfl, by decide +kernel, by decide⟩
theorem mi_mX2_noteTold : gMi mX2_noteTold 2 := ⟨ms_mX2_noteTold, gG_3 232 (by decide +kernel) (by decide +kernel), gG_3 233 (by decide +kernel) (by decide +kernel)⟩
abbrev mX11_law : gM := (yX11_law, cX11_law, 3, (Option.some Jvm.ClassFile.FieldType.int), none)
theorem ms_mX11_law : gMs mX11_law 1 := ⟨gG_1 1 (by decide +kernel) (by decide +kernel), gG_3 238 rfl rfl, by decide +kernel, by decide⟩
theorem mi_mX11_law : gMi mX11_law 1 := ⟨ms_mX11_law, gG_3 236 (by decide +kernel) (by decide +kernel), gG_3 237 (by decide +kernel) (by decide +kernel)⟩
abbrev mX5_add : gM := (yX5_add, cX5_add, 6, (Option.some Jvm.ClassFile.FieldType.int), none)
theorem ms_mX5_add : gMs mX5_add 4 := ⟨gG_1 7 (by decide +kernel) (by decide +kernel), gG_4 2 rfl rfl, by decide +kernel, by decide⟩
theorem mi_mX5_add : gMi mX5_add 4 := ⟨ms_mX5_add, gG_4 0 (by decide +kernel) (by decide +kernel), gG_4 1 (by decide +kernel) (by decide +kernel)⟩
abbrev mX4_clear : gM := (yX4_clear, cX4_clear, 3, (Option.none : Option Jvm.ClassFile.FieldType), none)
theorem ms_mX4_clear : gMs mX4_clear 2 := ⟨gG_1 8 (by decide +kernel) (by decide +kernel), gG_4 7 rfl rfl, by decide +kernel, by decide⟩
theorem mi_mX4_clear : gMi mX4_clear 2 := ⟨ms_mX4_clear, gG_4 5 (by decide +kernel) (by decide +kernel), gG_4 6 (by decide +kernel) (by decide +kernel)⟩
abbrev mJ7_fill_53178 : gM := (yJ7_fill_53178, cJ7_fill_53178, 4, (Option.none : Option Jvm.ClassFile.FieldType), none)
theorem ms_mJ7_fill_53178 : gMs mJ7_fill_53178 2 := ⟨gG_1 14 (by decide +kernel) (by decide +kernel), gG_4 10 rfl rfl, by decide +kernel, by decide⟩
theorem st_mJ7_fill_53178 : Cond.static yJ7_fill_53178 ∈ gG := gG_4 9 (by decide +kernel) (by decide +kernel)
abbrev mX10_open : gM := (yX10_open, cX10_open, 3, (Option.none : Option Jvm.ClassFile.FieldType), none)
theorem ms_mX10_open : gMs mX10_open 2 := ⟨gG_1 9 (by decide +kernel) (by decide +kernel), gG_4 14 rfl rfl, by decide +kernel, by decide⟩
theorem mi_mX10_open : gMi mX10_open 2 := ⟨ms_mX10_open, gG_4 12 (by decide +kernel) (by decide +kernel), gG_4 13 (by decide +kernel) (by decide +kernel)⟩
abbrev mJ9_min_7cf53 : gM := (yJ9_min_7cf53, cJ9_min_7cf53, 2, (Option.some Jvm.ClassFile.FieldType.int), none)
theorem ms_mJ9_min_7cf53 : gMs mJ9_min_7cf53 2 := ⟨gG_1 15 (by decide +kernel) (by decide +kernel), gG_4 17 rfl rfl, by decide +kernel, by decide⟩
theorem st_mJ9_min_7cf53 : Cond.static yJ9_min_7cf53 ∈ gG := gG_4 16 (by decide +kernel) (by decide +kernel)
abbrev mJ9_max_7cf53 : gM := (yJ9_max_7cf53, cJ9_max_7cf53, 2, (Option.some Jvm.ClassFile.FieldType.int), none)
theorem ms_mJ9_max_7cf53 : gMs mJ9_max_7cf53 2 := ⟨gG_1 15 (by decide +kernel) (by decide +kernel), gG_4 20 rfl rfl, by decide +kernel, by decide⟩
theorem st_mJ9_max_7cf53 : Cond.static yJ9_max_7cf53 ∈ gG := gG_4 19 (by decide +kernel) (by decide +kernel)
abbrev mX10_advance : gM := (yX10_advance, cX10_advance, 1, (Option.none : Option Jvm.ClassFile.FieldType), none)
theorem ms_mX10_advance : gMs mX10_advance 0 := ⟨gG_1 9 (by decide +kernel) (by decide +kernel), gG_4 24 rfl rfl, by decide +kernel, by decide⟩
theorem mi_mX10_advance : gMi mX10_advance 0 := ⟨ms_mX10_advance, gG_4 22 (by decide +kernel) (by decide +kernel), gG_4 23 (by decide +kernel) (by decide +kernel)⟩
abbrev mX10_byteAt : gM := (yX10_byteAt, cX10_byteAt, 2, (Option.some Jvm.ClassFile.FieldType.int), none)
theorem ms_mX10_byteAt : gMs mX10_byteAt 1 := ⟨gG_1 9 (by decide +kernel) (by decide +kernel), gG_4 28 rfl rfl, by decide +kernel, by decide⟩
theorem mi_mX10_byteAt : gMi mX10_byteAt 1 := ⟨ms_mX10_byteAt, gG_4 27 (by decide +kernel) (by decide +kernel), gG_s 4 (by decide +kernel) (by decide +kernel)⟩
abbrev mX10_isBlank : gM := (yX10_isBlank, cX10_isBlank, 1, (Option.some Jvm.ClassFile.FieldType.boolean), none)
theorem ms_mX10_isBlank : gMs mX10_isBlank 1 := ⟨gG_1 9 (by decide +kernel) (by decide +kernel), gG_4 31 rfl rfl, by decide +kernel, by decide⟩
theorem st_mX10_isBlank : Cond.static yX10_isBlank ∈ gG := gG_4 30 (by decide +kernel) (by decide +kernel)
abbrev mX10_isPlain : gM := (yX10_isPlain, cX10_isPlain, 1, (Option.some Jvm.ClassFile.FieldType.boolean), none)
theorem ms_mX10_isPlain : gMs mX10_isPlain 1 := ⟨gG_1 9 (by decide +kernel) (by decide +kernel), gG_4 34 rfl rfl, by decide +kernel, by decide⟩
theorem st_mX10_isPlain : Cond.static yX10_isPlain ∈ gG := gG_4 33 (by decide +kernel) (by decide +kernel)
abbrev mX10_isLetter : gM := (yX10_isLetter, cX10_isLetter, 1, (Option.some Jvm.ClassFile.FieldType.boolean), none)
theorem ms_mX10_isLetter : gMs mX10_isLetter 1 := ⟨gG_1 9 (by decide +kernel) (by decide +kernel), gG_4 37 rfl rfl, by decide +kernel, by decide⟩
theorem st_mX10_isLetter : Cond.static yX10_isLetter ∈ gG := gG_4 36 (by decide +kernel) (by decide +kernel)
abbrev mX10_isDigit : gM := (yX10_isDigit, cX10_isDigit, 1, (Option.some Jvm.ClassFile.FieldType.boolean), none)
theorem ms_mX10_isDigit : gMs mX10_isDigit 1 := ⟨gG_1 9 (by decide +kernel) (by decide +kernel), gG_4 40 rfl rfl, by decide +kernel, by decide⟩
theorem st_mX10_isDigit : Cond.static yX10_isDigit ∈ gG := gG_4 39 (by decide +kernel) (by decide +kernel)
abbrev mX10_takeRun : gM := (yX10_takeRun, cX10_takeRun, 4, (Option.none : Option Jvm.ClassFile.FieldType), none)
theorem ms_mX10_takeRun : gMs mX10_takeRun 0 := ⟨gG_1 9 (by decide +kernel) (by decide +kernel), gG_4 44 rfl rfl, by decide +kernel, by decide⟩
theorem mi_mX10_takeRun : gMi mX10_takeRun 0 := ⟨ms_mX10_takeRun, gG_4 43 (by decide +kernel) (by decide +kernel), gG_s 5 (by decide +kernel) (by decide +kernel)⟩
abbrev mX10_wordFrom : gM := (yX10_wordFrom, cX10_wordFrom, 6, (Option.some Jvm.ClassFile.FieldType.int), none)
theorem ms_mX10_wordFrom : gMs mX10_wordFrom 2 := ⟨gG_1 9 (by decide +kernel) (by decide +kernel), gG_4 48 rfl rfl, by decide +kernel, by decide⟩
theorem mi_mX10_wordFrom : gMi mX10_wordFrom 2 := ⟨ms_mX10_wordFrom, gG_4 47 (by decide +kernel) (by decide +kernel), gG_s 6 (by decide +kernel) (by decide +kernel)⟩
abbrev mJ0_length_8abf5 : gM := (yJ0_length_8abf5, cJ0_length_8abf5, 1, (Option.some Jvm.ClassFile.FieldType.int), none)
theorem ms_mJ0_length_8abf5 : gMs mJ0_length_8abf5 0 := ⟨gG_1 16 (by decide +kernel) (by decide +kernel), gG_4 53 rfl rfl, by decide +kernel, by decide⟩
theorem mi_mJ0_length_8abf5 : gMi mJ0_length_8abf5 0 := ⟨ms_mJ0_length_8abf5, gG_4 51 (by decide +kernel) (by decide +kernel), gG_4 52 (by decide +kernel) (by decide +kernel)⟩
abbrev mJ0_coder_7d493 : gM := (yJ0_coder_7d493, cJ0_coder_7d493, 1, (Option.some Jvm.ClassFile.FieldType.byte), none)
theorem ms_mJ0_coder_7d493 : gMs mJ0_coder_7d493 0 := ⟨gG_1 16 (by decide +kernel) (by decide +kernel), gG_4 57 rfl rfl, by decide +kernel, by decide⟩
theorem mi_mJ0_coder_7d493 : gMi mJ0_coder_7d493 0 := ⟨ms_mJ0_coder_7d493, gG_4 55 (by decide +kernel) (by decide +kernel), gG_4 56 (by decide +kernel) (by decide +kernel)⟩
abbrev mJ0_charAt_5068e : gM := (yJ0_charAt_5068e, cJ0_charAt_5068e, 2, (Option.some Jvm.ClassFile.FieldType.char), none)
theorem ms_mJ0_charAt_5068e : gMs mJ0_charAt_5068e 1 := ⟨gG_1 16 (by decide +kernel) (by decide +kernel), gG_4 63 rfl rfl, by decide +kernel, by decide⟩
theorem mi_mJ0_charAt_5068e : gMi mJ0_charAt_5068e 1 := ⟨ms_mJ0_charAt_5068e, gG_4 61 (by decide +kernel) (by decide +kernel), gG_4 62 (by decide +kernel) (by decide +kernel)⟩
abbrev mJ0_isLatin1_aae02 : gM := (yJ0_isLatin1_aae02, cJ0_isLatin1_aae02, 1, (Option.some Jvm.ClassFile.FieldType.boolean), none)
theorem ms_mJ0_isLatin1_aae02 : gMs mJ0_isLatin1_aae02 0 := ⟨gG_1 16 (by decide +kernel) (by decide +kernel), gG_4 67 rfl rfl, by decide +kernel, by decide⟩
theorem mi_mJ0_isLatin1_aae02 : gMi mJ0_isLatin1_aae02 0 := ⟨ms_mJ0_isLatin1_aae02, gG_4 65 (by decide +kernel) (by decide +kernel), gG_4 66 (by decide +kernel) (by decide +kernel)⟩
abbrev mJ1_charAt_3b067 : gM := (yJ1_charAt_3b067, cJ1_charAt_3b067, 2, (Option.some Jvm.ClassFile.FieldType.char), none)
theorem ms_mJ1_charAt_3b067 : gMs mJ1_charAt_3b067 2 := ⟨gG_1 17 (by decide +kernel) (by decide +kernel), gG_4 70 rfl rfl, by decide +kernel, by decide⟩
theorem st_mJ1_charAt_3b067 : Cond.static yJ1_charAt_3b067 ∈ gG := gG_4 69 (by decide +kernel) (by decide +kernel)
abbrev mJ0_checkIndex_df160 : gM := (yJ0_checkIndex_df160, cJ0_checkIndex_df160, 2, (Option.none : Option Jvm.ClassFile.FieldType), none)
theorem ms_mJ0_checkIndex_df160 : gMs mJ0_checkIndex_df160 2 := ⟨gG_1 16 (by decide +kernel) (by decide +kernel), gG_4 73 rfl rfl, by decide +kernel, by decide⟩
theorem st_mJ0_checkIndex_df160 : Cond.static yJ0_checkIndex_df160 ∈ gG := gG_4 72 (by decide +kernel) (by decide +kernel)
abbrev mJ3_checkIndex_8e157 : gM := (yJ3_checkIndex_8e157, cJ3_checkIndex_8e157, 3, (Option.some Jvm.ClassFile.FieldType.int), none)
theorem ms_mJ3_checkIndex_8e157 : gMs mJ3_checkIndex_8e157 3 := ⟨gG_1 18 (by decide +kernel) (by decide +kernel), gG_4 78 rfl rfl, by decide +kernel, by decide⟩
theorem st_mJ3_checkIndex_8e157 : Cond.static yJ3_checkIndex_8e157 ∈ gG := gG_4 77 (by decide +kernel) (by decide +kernel)
abbrev mJ2_charAt_3b067 : gM := (yJ2_charAt_3b067, cJ2_charAt_3b067, 2, (Option.some Jvm.ClassFile.FieldType.char), none)
theorem ms_mJ2_charAt_3b067 : gMs mJ2_charAt_3b067 2 := ⟨gG_1 19 (by decide +kernel) (by decide +kernel), gG_4 81 rfl rfl, by decide +kernel, by decide⟩
theorem st_mJ2_charAt_3b067 : Cond.static yJ2_charAt_3b067 ∈ gG := gG_4 80 (by decide +kernel) (by decide +kernel)
abbrev mJ2_checkIndex_2214a : gM := (yJ2_checkIndex_2214a, cJ2_checkIndex_2214a, 2, (Option.none : Option Jvm.ClassFile.FieldType), none)
theorem ms_mJ2_checkIndex_2214a : gMs mJ2_checkIndex_2214a 2 := ⟨gG_1 19 (by decide +kernel) (by decide +kernel), gG_4 84 rfl rfl, by decide +kernel, by decide⟩
theorem st_mJ2_checkIndex_2214a : Cond.static yJ2_checkIndex_2214a ∈ gG := gG_4 83 (by decide +kernel) (by decide +kernel)
abbrev mJ2_length_9d52b : gM := (yJ2_length_9d52b, cJ2_length_9d52b, 1, (Option.some Jvm.ClassFile.FieldType.int), none)
theorem ms_mJ2_length_9d52b : gMs mJ2_length_9d52b 1 := ⟨gG_1 19 (by decide +kernel) (by decide +kernel), gG_4 87 rfl rfl, by decide +kernel, by decide⟩
theorem st_mJ2_length_9d52b : Cond.static yJ2_length_9d52b ∈ gG := gG_4 86 (by decide +kernel) (by decide +kernel)
abbrev mJ2_getChar_3b067 : gM := (yJ2_getChar_3b067, cJ2_getChar_3b067, 2, (Option.some Jvm.ClassFile.FieldType.char), none)
theorem ms_mJ2_getChar_3b067 : gMs mJ2_getChar_3b067 2 := ⟨gG_1 19 (by decide +kernel) (by decide +kernel), gG_4 91 rfl rfl, by decide +kernel, by decide⟩
theorem st_mJ2_getChar_3b067 : Cond.static yJ2_getChar_3b067 ∈ gG := gG_4 90 (by decide +kernel) (by decide +kernel)
abbrev mX10_isSpelt : gM := (yX10_isSpelt, cX10_isSpelt, 5, (Option.some Jvm.ClassFile.FieldType.boolean), none)
theorem ms_mX10_isSpelt : gMs mX10_isSpelt 3 := ⟨gG_1 9 (by decide +kernel) (by decide +kernel), gG_4 101 rfl rfl, by decide +kernel, by decide⟩
theorem mi_mX10_isSpelt : gMi mX10_isSpelt 3 := ⟨ms_mX10_isSpelt, gG_4 100 (by decide +kernel) (by decide +kernel), gG_s 7 (by decide +kernel) (by decide +kernel)⟩
abbrev mX10_isSign : gM := (yX10_isSign, cX10_isSign, 1, (Option.some Jvm.ClassFile.FieldType.boolean), none)
theorem ms_mX10_isSign : gMs mX10_isSign 1 := ⟨gG_1 9 (by decide +kernel) (by decide +kernel), gG_4 104 rfl rfl, by decide +kernel, by decide⟩
theorem st_mX10_isSign : Cond.static yX10_isSign ∈ gG := gG_4 103 (by decide +kernel) (by decide +kernel)
abbrev mX10_kind : gM := (yX10_kind, cX10_kind, 1, (Option.some Jvm.ClassFile.FieldType.int), none)
theorem ms_mX10_kind : gMs mX10_kind 0 := ⟨gG_1 9 (by decide +kernel) (by decide +kernel), gG_4 108 rfl rfl, by decide +kernel, by decide⟩
theorem mi_mX10_kind : gMi mX10_kind 0 := ⟨ms_mX10_kind, gG_4 106 (by decide +kernel) (by decide +kernel), gG_4 107 (by decide +kernel) (by decide +kernel)⟩
abbrev mX10_value : gM := (yX10_value, cX10_value, 1, (Option.some Jvm.ClassFile.FieldType.int), none)
theorem ms_mX10_value : gMs mX10_value 0 := ⟨gG_1 9 (by decide +kernel) (by decide +kernel), gG_4 112 rfl rfl, by decide +kernel, by decide⟩
theorem mi_mX10_value : gMi mX10_value 0 := ⟨ms_mX10_value, gG_4 110 (by decide +kernel) (by decide +kernel), gG_4 111 (by decide +kernel) (by decide +kernel)⟩
abbrev mX5_take : gM := (yX5_take, cX5_take, 4, (Option.some Jvm.ClassFile.FieldType.int), none)
theorem ms_mX5_take : gMs mX5_take 2 := ⟨gG_1 7 (by decide +kernel) (by decide +kernel), gG_4 116 rfl rfl, by decide +kernel, by decide⟩
theorem mi_mX5_take : gMi mX5_take 2 := ⟨ms_mX5_take, gG_4 115 (by decide +kernel) (by decide +kernel), gG_s 8 (by decide +kernel) (by decide +kernel)⟩
abbrev mX5_takeEnd : gM := (yX5_takeEnd, cX5_takeEnd, 1, (Option.some Jvm.ClassFile.FieldType.int), none)
theorem ms_mX5_takeEnd : gMs mX5_takeEnd 0 := ⟨gG_1 7 (by decide +kernel) (by decide +kernel), gG_4 120 rfl rfl, by decide +kernel, by decide⟩
theorem mi_mX5_takeEnd : gMi mX5_takeEnd 0 := ⟨ms_mX5_takeEnd, gG_4 119 (by decide +kernel) (by decide +kernel), gG_s 9 (by decide +kernel) (by decide +kernel)⟩
abbrev mX10_isCutOff : gM := (yX10_isCutOff, cX10_isCutOff, 1, (Option.some Jvm.ClassFile.FieldType.boolean), none)
theorem ms_mX10_isCutOff : gMs mX10_isCutOff 0 := ⟨gG_1 9 (by decide +kernel) (by decide +kernel), gG_4 124 rfl rfl, by decide +kernel, by decide⟩
theorem mi_mX10_isCutOff : gMi mX10_isCutOff 0 := ⟨ms_mX10_isCutOff, gG_4 122 (by decide +kernel) (by decide +kernel), gG_4 123 (by decide +kernel) (by decide +kernel)⟩
abbrev mX5_takeRule : gM := (yX5_takeRule, cX5_takeRule, 5, (Option.some Jvm.ClassFile.FieldType.int), none)
theorem ms_mX5_takeRule : gMs mX5_takeRule 1 := ⟨gG_1 7 (by decide +kernel) (by decide +kernel), gG_4 128 rfl rfl, by decide +kernel, by decide⟩
theorem mi_mX5_takeRule : gMi mX5_takeRule 1 := ⟨ms_mX5_takeRule, gG_4 127 (by decide +kernel) (by decide +kernel), gG_s 10 (by decide +kernel) (by decide +kernel)⟩
abbrev mX4_totalTells : gM := (yX4_totalTells, cX4_totalTells, 1, (Option.some Jvm.ClassFile.FieldType.int), none)
theorem ms_mX4_totalTells : gMs mX4_totalTells 0 := ⟨gG_1 8 (by decide +kernel) (by decide +kernel), gG_4 132 rfl rfl, by decide +kernel, by decide⟩
theorem mi_mX4_totalTells : gMi mX4_totalTells 0 := ⟨ms_mX4_totalTells, gG_4 130 (by decide +kernel) (by decide +kernel), gG_4 131 (by decide +kernel) (by decide +kernel)⟩
abbrev mX5_takeIf : gM := (yX5_takeIf, cX5_takeIf, 2, (Option.some Jvm.ClassFile.FieldType.int), none)
theorem ms_mX5_takeIf : gMs mX5_takeIf 1 := ⟨gG_1 7 (by decide +kernel) (by decide +kernel), gG_4 136 rfl rfl, by decide +kernel, by decide⟩
theorem mi_mX5_takeIf : gMi mX5_takeIf 1 := ⟨ms_mX5_takeIf, gG_4 135 (by decide +kernel) (by decide +kernel), gG_s 11 (by decide +kernel) (by decide +kernel)⟩
abbrev mX4_addTell : gM := (yX4_addTell, cX4_addTell, 2, (Option.some Jvm.ClassFile.FieldType.int), none)
theorem ms_mX4_addTell : gMs mX4_addTell 1 := ⟨gG_1 8 (by decide +kernel) (by decide +kernel), gG_4 140 rfl rfl, by decide +kernel, by decide⟩
theorem mi_mX4_addTell : gMi mX4_addTell 1 := ⟨ms_mX4_addTell, gG_4 138 (by decide +kernel) (by decide +kernel), gG_4 139 (by decide +kernel) (by decide +kernel)⟩
abbrev mX4_begin : gM := (yX4_begin, cX4_begin, 2, (Option.none : Option Jvm.ClassFile.FieldType), none)
theorem ms_mX4_begin : gMs mX4_begin 1 := ⟨gG_1 8 (by decide +kernel) (by decide +kernel), gG_4 144 rfl rfl, by decide +kernel, by decide⟩
theorem mi_mX4_begin : gMi mX4_begin 1 := ⟨ms_mX4_begin, gG_4 142 (by decide +kernel) (by decide +kernel), gG_4 143 (by decide +kernel) (by decide +kernel)⟩
abbrev mX5_takeDays : gM := (yX5_takeDays, cX5_takeDays, 3, (Option.some Jvm.ClassFile.FieldType.int), none)
theorem ms_mX5_takeDays : gMs mX5_takeDays 2 := ⟨gG_1 7 (by decide +kernel) (by decide +kernel), gG_4 148 rfl rfl, by decide +kernel, by decide⟩
theorem mi_mX5_takeDays : gMi mX5_takeDays 2 := ⟨ms_mX5_takeDays, gG_4 147 (by decide +kernel) (by decide +kernel), gG_s 12 (by decide +kernel) (by decide +kernel)⟩
abbrev mX5_takeOne : gM := (yX5_takeOne, cX5_takeOne, 4, (Option.some Jvm.ClassFile.FieldType.int), none)
theorem ms_mX5_takeOne : gMs mX5_takeOne 2 := ⟨gG_1 7 (by decide +kernel) (by decide +kernel), gG_4 152 rfl rfl, by decide +kernel, by decide⟩
theorem mi_mX5_takeOne : gMi mX5_takeOne 2 := ⟨ms_mX5_takeOne, gG_4 151 (by decide +kernel) (by decide +kernel), gG_s 13 (by decide +kernel) (by decide +kernel)⟩
abbrev mX5_isAtom : gM := (yX5_isAtom, cX5_isAtom, 2, (Option.some Jvm.ClassFile.FieldType.boolean), none)
theorem ms_mX5_isAtom : gMs mX5_isAtom 1 := ⟨gG_1 7 (by decide +kernel) (by decide +kernel), gG_4 156 rfl rfl, by decide +kernel, by decide⟩
theorem mi_mX5_isAtom : gMi mX5_isAtom 1 := ⟨ms_mX5_isAtom, gG_4 155 (by decide +kernel) (by decide +kernel), gG_s 14 (by decide +kernel) (by decide +kernel)⟩
abbrev mX5_await : gM := (yX5_await, cX5_await, 2, (Option.none : Option Jvm.ClassFile.FieldType), none)
theorem ms_mX5_await : gMs mX5_await 1 := ⟨gG_1 7 (by decide +kernel) (by decide +kernel), gG_4 160 rfl rfl, by decide +kernel, by decide⟩
theorem mi_mX5_await : gMi mX5_await 1 := ⟨ms_mX5_await, gG_4 159 (by decide +kernel) (by decide +kernel), gG_s 15 (by decide +kernel) (by decide +kernel)⟩
abbrev mX5_isCompared : gM := (yX5_isCompared, cX5_isCompared, 1, (Option.some Jvm.ClassFile.FieldType.boolean), none)
theorem ms_mX5_isCompared : gMs mX5_isCompared 1 := ⟨gG_1 7 (by decide +kernel) (by decide +kernel), gG_4 163 rfl rfl, by decide +kernel, by decide⟩
theorem st_mX5_isCompared : Cond.static yX5_isCompared ∈ gG := gG_4 162 (by decide +kernel) (by decide +kernel)
abbrev mX5_takeAtom : gM := (yX5_takeAtom, cX5_takeAtom, 4, (Option.some Jvm.ClassFile.FieldType.int), none)
theorem ms_mX5_takeAtom : gMs mX5_takeAtom 3 := ⟨gG_1 7 (by decide +kernel) (by decide +kernel), gG_4 167 rfl rfl, by decide +kernel, by decide⟩
theorem mi_mX5_takeAtom : gMi mX5_takeAtom 3 := ⟨ms_mX5_takeAtom, gG_4 166 (by decide +kernel) (by decide +kernel), gG_s 16 (by decide +kernel) (by decide +kernel)⟩
abbrev mX4_put : gM := (yX4_put, cX4_put, 4, (Option.none : Option Jvm.ClassFile.FieldType), none)
theorem ms_mX4_put : gMs mX4_put 3 := ⟨gG_1 8 (by decide +kernel) (by decide +kernel), gG_4 171 rfl rfl, by decide +kernel, by decide⟩
theorem mi_mX4_put : gMi mX4_put 3 := ⟨ms_mX4_put, gG_4 169 (by decide +kernel) (by decide +kernel), gG_4 170 (by decide +kernel) (by decide +kernel)⟩
abbrev mX5_closeNots : gM := (yX5_closeNots, cX5_closeNots, 2, (Option.none : Option Jvm.ClassFile.FieldType), none)
theorem ms_mX5_closeNots : gMs mX5_closeNots 0 := ⟨gG_1 7 (by decide +kernel) (by decide +kernel), gG_4 175 rfl rfl, by decide +kernel, by decide⟩
theorem mi_mX5_closeNots : gMi mX5_closeNots 0 := ⟨ms_mX5_closeNots, gG_4 174 (by decide +kernel) (by decide +kernel), gG_s 17 (by decide +kernel) (by decide +kernel)⟩
abbrev mX5_lastWaiting : gM := (yX5_lastWaiting, cX5_lastWaiting, 1, (Option.some Jvm.ClassFile.FieldType.int), none)
theorem ms_mX5_lastWaiting : gMs mX5_lastWaiting 0 := ⟨gG_1 7 (by decide +kernel) (by decide +kernel), gG_4 179 rfl rfl, by decide +kernel, by decide⟩
theorem mi_mX5_lastWaiting : gMi mX5_lastWaiting 0 := ⟨ms_mX5_lastWaiting, gG_4 178 (by decide +kernel) (by decide +kernel), gG_s 18 (by decide +kernel) (by decide +kernel)⟩
abbrev mX5_takeLink : gM := (yX5_takeLink, cX5_takeLink, 3, (Option.some Jvm.ClassFile.FieldType.int), none)
theorem ms_mX5_takeLink : gMs mX5_takeLink 2 := ⟨gG_1 7 (by decide +kernel) (by decide +kernel), gG_4 183 rfl rfl, by decide +kernel, by decide⟩
theorem mi_mX5_takeLink : gMi mX5_takeLink 2 := ⟨ms_mX5_takeLink, gG_4 182 (by decide +kernel) (by decide +kernel), gG_s 19 (by decide +kernel) (by decide +kernel)⟩
abbrev mX5_closeLinks : gM := (yX5_closeLinks, cX5_closeLinks, 3, (Option.none : Option Jvm.ClassFile.FieldType), none)
theorem ms_mX5_closeLinks : gMs mX5_closeLinks 1 := ⟨gG_1 7 (by decide +kernel) (by decide +kernel), gG_4 187 rfl rfl, by decide +kernel, by decide⟩
theorem mi_mX5_closeLinks : gMi mX5_closeLinks 1 := ⟨ms_mX5_closeLinks, gG_4 186 (by decide +kernel) (by decide +kernel), gG_s 20 (by decide +kernel) (by decide +kernel)⟩
abbrev mX4_finish : gM := (yX4_finish, cX4_finish, 2, (Option.none : Option Jvm.ClassFile.FieldType), none)
theorem ms_mX4_finish : gMs mX4_finish 1 := ⟨gG_1 8 (by decide +kernel) (by decide +kernel), gG_4 191 rfl rfl, by decide +kernel, by decide⟩
theorem mi_mX4_finish : gMi mX4_finish 1 := ⟨ms_mX4_finish, gG_4 189 (by decide +kernel) (by decide +kernel), gG_4 190 (by decide +kernel) (by decide +kernel)⟩
abbrev mX5_takeRuleEnd : gM := (yX5_takeRuleEnd, cX5_takeRuleEnd, 2, (Option.some Jvm.ClassFile.FieldType.int), none)
theorem ms_mX5_takeRuleEnd : gMs mX5_takeRuleEnd 1 := ⟨gG_1 7 (by decide +kernel) (by decide +kernel), gG_4 195 rfl rfl, by decide +kernel, by decide⟩
theorem mi_mX5_takeRuleEnd : gMi mX5_takeRuleEnd 1 := ⟨ms_mX5_takeRuleEnd, gG_4 194 (by decide +kernel) (by decide +kernel), gG_s 21 (by decide +kernel) (by decide +kernel)⟩
abbrev mX4_countRule : gM := (yX4_countRule, cX4_countRule, 1, (Option.none : Option Jvm.ClassFile.FieldType), none)
theorem ms_mX4_countRule : gMs mX4_countRule 0 := ⟨gG_1 8 (by decide +kernel) (by decide +kernel), gG_4 199 rfl rfl, by decide +kernel, by decide⟩
theorem mi_mX4_countRule : gMi mX4_countRule 0 := ⟨ms_mX4_countRule, gG_4 197 (by decide +kernel) (by decide +kernel), gG_4 198 (by decide +kernel) (by decide +kernel)⟩
abbrev mX5_takeSetting : gM := (yX5_takeSetting, cX5_takeSetting, 4, (Option.some Jvm.ClassFile.FieldType.int), none)
theorem ms_mX5_takeSetting : gMs mX5_takeSetting 2 := ⟨gG_1 7 (by decide +kernel) (by decide +kernel), gG_4 203 rfl rfl, by decide +kernel, by decide⟩
theorem mi_mX5_takeSetting : gMi mX5_takeSetting 2 := ⟨ms_mX5_takeSetting, gG_4 202 (by decide +kernel) (by decide +kernel), gG_s 22 (by decide +kernel) (by decide +kernel)⟩
abbrev mX5_greatestFor : gM := (yX5_greatestFor, cX5_greatestFor, 1, (Option.some Jvm.ClassFile.FieldType.int), none)
theorem ms_mX5_greatestFor : gMs mX5_greatestFor 1 := ⟨gG_1 7 (by decide +kernel) (by decide +kernel), gG_4 206 rfl rfl, by decide +kernel, by decide⟩
theorem st_mX5_greatestFor : Cond.static yX5_greatestFor ∈ gG := gG_4 205 (by decide +kernel) (by decide +kernel)
abbrev mX4_set : gM := (yX4_set, cX4_set, 3, (Option.none : Option Jvm.ClassFile.FieldType), none)
theorem ms_mX4_set : gMs mX4_set 2 := ⟨gG_1 8 (by decide +kernel) (by decide +kernel), gG_4 210 rfl rfl, by decide +kernel, by decide⟩
theorem mi_mX4_set : gMi mX4_set 2 := ⟨ms_mX4_set, gG_4 208 (by decide +kernel) (by decide +kernel), gG_4 209 (by decide +kernel) (by decide +kernel)⟩
abbrev mX10_place : gM := (yX10_place, cX10_place, 1, (Option.some Jvm.ClassFile.FieldType.int), none)
theorem ms_mX10_place : gMs mX10_place 0 := ⟨gG_1 9 (by decide +kernel) (by decide +kernel), gG_4 214 rfl rfl, by decide +kernel, by decide⟩
theorem mi_mX10_place : gMi mX10_place 0 := ⟨ms_mX10_place, gG_4 212 (by decide +kernel) (by decide +kernel), gG_4 213 (by decide +kernel) (by decide +kernel)⟩
abbrev mX4_totalRules : gM := (yX4_totalRules, cX4_totalRules, 1, (Option.some Jvm.ClassFile.FieldType.int), none)
theorem ms_mX4_totalRules : gMs mX4_totalRules 0 := ⟨gG_1 8 (by decide +kernel) (by decide +kernel), gG_4 218 rfl rfl, by decide +kernel, by decide⟩
theorem mi_mX4_totalRules : gMi mX4_totalRules 0 := ⟨ms_mX4_totalRules, gG_4 216 (by decide +kernel) (by decide +kernel), gG_4 217 (by decide +kernel) (by decide +kernel)⟩
abbrev mX11_fault : gM := (yX11_fault, cX11_fault, 1, (Option.some Jvm.ClassFile.FieldType.int), none)
theorem ms_mX11_fault : gMs mX11_fault 0 := ⟨gG_1 1 (by decide +kernel) (by decide +kernel), gG_4 223 rfl rfl, by decide +kernel, by decide⟩
theorem mi_mX11_fault : gMi mX11_fault 0 := ⟨ms_mX11_fault, gG_4 221 (by decide +kernel) (by decide +kernel), gG_4 222 (by decide +kernel) (by decide +kernel)⟩
abbrev mX5_lastFault : gM := (yX5_lastFault, cX5_lastFault, 1, (Option.some Jvm.ClassFile.FieldType.int), none)
theorem ms_mX5_lastFault : gMs mX5_lastFault 0 := ⟨gG_1 7 (by decide +kernel) (by decide +kernel), gG_4 227 rfl rfl, by decide +kernel, by decide⟩
theorem mi_mX5_lastFault : gMi mX5_lastFault 0 := ⟨ms_mX5_lastFault, gG_4 225 (by decide +kernel) (by decide +kernel), gG_4 226 (by decide +kernel) (by decide +kernel)⟩
abbrev mX11_part : gM := (yX11_part, cX11_part, 5, (Option.some Jvm.ClassFile.FieldType.long), none)
theorem ms_mX11_part : gMs mX11_part 4 := ⟨gG_1 1 (by decide +kernel) (by decide +kernel), gG_4 231 rfl rfl, by decide +kernel, by decide⟩
theorem mi_mX11_part : gMi mX11_part 4 := ⟨ms_mX11_part, gG_4 229 (by decide +kernel) (by decide +kernel), gG_4 230 (by decide +kernel) (by decide +kernel)⟩
abbrev mX0_partOf : gM := (yX0_partOf, cX0_partOf, 5, (Option.some Jvm.ClassFile.FieldType.long), none)
theorem ms_mX0_partOf : gMs mX0_partOf 4 := ⟨gG_1 5 (by decide +kernel) (by decide +kernel), gG_4 236 rfl rfl, by decide +kernel, by decide⟩
theorem mi_mX0_partOf : gMi mX0_partOf 4 := ⟨ms_mX0_partOf, gG_4 234 (by decide +kernel) (by decide +kernel), gG_4 235 (by decide +kernel) (by decide +kernel)⟩
abbrev mX0_walk : gM := (yX0_walk, cX0_walk, 5, (Option.none : Option Jvm.ClassFile.FieldType), none)
theorem ms_mX0_walk : gMs mX0_walk 4 := ⟨gG_1 5 (by decide +kernel) (by decide +kernel), gG_5 0 rfl rfl, by decide +kernel, by decide⟩
theorem mi_mX0_walk : gMi mX0_walk 4 := ⟨ms_mX0_walk, gG_4 239 (by decide +kernel) (by decide +kernel), gG_s 23 (by decide +kernel) (by decide +kernel)⟩
abbrev mX7_load : gM := (yX7_load, cX7_load, 9, (Option.none : Option Jvm.ClassFile.FieldType), none)
theorem ms_mX7_load : gMs mX7_load 2 := ⟨gG_1 4 (by decide +kernel) (by decide +kernel), gG_5 4 rfl rfl, by decide +kernel, by decide⟩
theorem mi_mX7_load : gMi mX7_load 2 := ⟨ms_mX7_load, gG_5 2 (by decide +kernel) (by decide +kernel), gG_5 3 (by decide +kernel) (by decide +kernel)⟩
abbrev mX9_isKnown : gM := (yX9_isKnown, cX9_isKnown, 3, (Option.some Jvm.ClassFile.FieldType.boolean), none)
theorem ms_mX9_isKnown : gMs mX9_isKnown 2 := ⟨gG_1 3 (by decide +kernel) (by decide +kernel), gG_5 8 rfl rfl, by decide +kernel, by decide⟩
theorem mi_mX9_isKnown : gMi mX9_isKnown 2 := ⟨ms_mX9_isKnown, gG_5 6 (by decide +kernel) (by decide +kernel), gG_5 7 (by decide +kernel) (by decide +kernel)⟩
abbrev mJ7_fill_d0a16 : gM := (yJ7_fill_d0a16, cJ7_fill_d0a16, 5, (Option.none : Option Jvm.ClassFile.FieldType), none)
theorem ms_mJ7_fill_d0a16 : gMs mJ7_fill_d0a16 2 := ⟨gG_1 14 (by decide +kernel) (by decide +kernel), gG_5 11 rfl rfl, by decide +kernel, by decide⟩
theorem st_mJ7_fill_d0a16 : Cond.static yJ7_fill_d0a16 ∈ gG := gG_5 10 (by decide +kernel) (by decide +kernel)
abbrev mX0_stepOn : gM := (yX0_stepOn, cX0_stepOn, 10, (Option.none : Option Jvm.ClassFile.FieldType), none)
theorem ms_mX0_stepOn : gMs mX0_stepOn 3 := ⟨gG_1 5 (by decide +kernel) (by decide +kernel), gG_5 15 rfl rfl, by decide +kernel, by decide⟩
theorem st_mX0_stepOn : Cond.static yX0_stepOn ∈ gG := gG_5 14 (by decide +kernel) (by decide +kernel)
abbrev mX7_pastArrows : gM := (yX7_pastArrows, cX7_pastArrows, 2, (Option.some Jvm.ClassFile.FieldType.int), none)
theorem ms_mX7_pastArrows : gMs mX7_pastArrows 1 := ⟨gG_1 4 (by decide +kernel) (by decide +kernel), gG_5 19 rfl rfl, by decide +kernel, by decide⟩
theorem mi_mX7_pastArrows : gMi mX7_pastArrows 1 := ⟨ms_mX7_pastArrows, gG_5 17 (by decide +kernel) (by decide +kernel), gG_5 18 (by decide +kernel) (by decide +kernel)⟩
abbrev mX7_firstArrow : gM := (yX7_firstArrow, cX7_firstArrow, 2, (Option.some Jvm.ClassFile.FieldType.int), none)
theorem ms_mX7_firstArrow : gMs mX7_firstArrow 1 := ⟨gG_1 4 (by decide +kernel) (by decide +kernel), gG_5 23 rfl rfl, by decide +kernel, by decide⟩
theorem mi_mX7_firstArrow : gMi mX7_firstArrow 1 := ⟨ms_mX7_firstArrow, gG_5 21 (by decide +kernel) (by decide +kernel), gG_5 22 (by decide +kernel) (by decide +kernel)⟩
abbrev mX7_targetOf : gM := (yX7_targetOf, cX7_targetOf, 2, (Option.some Jvm.ClassFile.FieldType.int), none)
theorem ms_mX7_targetOf : gMs mX7_targetOf 1 := ⟨gG_1 4 (by decide +kernel) (by decide +kernel), gG_5 27 rfl rfl, by decide +kernel, by decide⟩
theorem mi_mX7_targetOf : gMi mX7_targetOf 1 := ⟨ms_mX7_targetOf, gG_5 25 (by decide +kernel) (by decide +kernel), gG_5 26 (by decide +kernel) (by decide +kernel)⟩
abbrev mX7_partOn : gM := (yX7_partOn, cX7_partOn, 2, (Option.some Jvm.ClassFile.FieldType.int), none)
theorem ms_mX7_partOn : gMs mX7_partOn 1 := ⟨gG_1 4 (by decide +kernel) (by decide +kernel), gG_5 32 rfl rfl, by decide +kernel, by decide⟩
theorem mi_mX7_partOn : gMi mX7_partOn 1 := ⟨ms_mX7_partOn, gG_5 30 (by decide +kernel) (by decide +kernel), gG_5 31 (by decide +kernel) (by decide +kernel)⟩
abbrev mX0_keepBest : gM := (yX0_keepBest, cX0_keepBest, 6, (Option.none : Option Jvm.ClassFile.FieldType), none)
theorem ms_mX0_keepBest : gMs mX0_keepBest 2 := ⟨gG_1 5 (by decide +kernel) (by decide +kernel), gG_5 36 rfl rfl, by decide +kernel, by decide⟩
theorem mi_mX0_keepBest : gMi mX0_keepBest 2 := ⟨ms_mX0_keepBest, gG_5 35 (by decide +kernel) (by decide +kernel), gG_s 24 (by decide +kernel) (by decide +kernel)⟩
abbrev mX11_chain : gM := (yX11_chain, cX11_chain, 6, (Option.some Jvm.ClassFile.FieldType.int), none)
theorem ms_mX11_chain : gMs mX11_chain 4 := ⟨gG_1 1 (by decide +kernel) (by decide +kernel), gG_5 41 rfl rfl, by decide +kernel, by decide⟩
theorem mi_mX11_chain : gMi mX11_chain 4 := ⟨ms_mX11_chain, gG_5 39 (by decide +kernel) (by decide +kernel), gG_5 40 (by decide +kernel) (by decide +kernel)⟩
abbrev mX0_findBest : gM := (yX0_findBest, cX0_findBest, 5, (Option.some Jvm.ClassFile.FieldType.int), none)
theorem ms_mX0_findBest : gMs mX0_findBest 4 := ⟨gG_1 5 (by decide +kernel) (by decide +kernel), gG_5 45 rfl rfl, by decide +kernel, by decide⟩
theorem mi_mX0_findBest : gMi mX0_findBest 4 := ⟨ms_mX0_findBest, gG_5 43 (by decide +kernel) (by decide +kernel), gG_5 44 (by decide +kernel) (by decide +kernel)⟩
abbrev mX0_copyBest : gM := (yX0_copyBest, cX0_copyBest, 4, (Option.some Jvm.ClassFile.FieldType.int), none)
theorem ms_mX0_copyBest : gMs mX0_copyBest 1 := ⟨gG_1 5 (by decide +kernel) (by decide +kernel), gG_5 49 rfl rfl, by decide +kernel, by decide⟩
theorem mi_mX0_copyBest : gMi mX0_copyBest 1 := ⟨ms_mX0_copyBest, gG_5 47 (by decide +kernel) (by decide +kernel), gG_5 48 (by decide +kernel) (by decide +kernel)⟩
abbrev mX11_head : gM := (yX11_head, cX11_head, 4, (Option.some Jvm.ClassFile.FieldType.int), none)
theorem ms_mX11_head : gMs mX11_head 3 := ⟨gG_1 1 (by decide +kernel) (by decide +kernel), gG_5 53 rfl rfl, by decide +kernel, by decide⟩
theorem mi_mX11_head : gMi mX11_head 3 := ⟨ms_mX11_head, gG_5 51 (by decide +kernel) (by decide +kernel), gG_5 52 (by decide +kernel) (by decide +kernel)⟩
abbrev mX7_headOf : gM := (yX7_headOf, cX7_headOf, 4, (Option.some Jvm.ClassFile.FieldType.int), none)
theorem ms_mX7_headOf : gMs mX7_headOf 3 := ⟨gG_1 4 (by decide +kernel) (by decide +kernel), gG_5 57 rfl rfl, by decide +kernel, by decide⟩
theorem mi_mX7_headOf : gMi mX7_headOf 3 := ⟨ms_mX7_headOf, gG_5 55 (by decide +kernel) (by decide +kernel), gG_5 56 (by decide +kernel) (by decide +kernel)⟩
abbrev mX7_findHeads : gM := (yX7_findHeads, cX7_findHeads, 4, (Option.none : Option Jvm.ClassFile.FieldType), none)
theorem ms_mX7_findHeads : gMs mX7_findHeads 0 := ⟨gG_1 4 (by decide +kernel) (by decide +kernel), gG_5 62 rfl rfl, by decide +kernel, by decide⟩
theorem mi_mX7_findHeads : gMi mX7_findHeads 0 := ⟨ms_mX7_findHeads, gG_5 61 (by decide +kernel) (by decide +kernel), gG_s 25 (by decide +kernel) (by decide +kernel)⟩
abbrev mX7_controlledBy : gM := (yX7_controlledBy, cX7_controlledBy, 9, (Option.some Jvm.ClassFile.FieldType.long), none)
theorem ms_mX7_controlledBy : gMs mX7_controlledBy 1 := ⟨gG_1 4 (by decide +kernel) (by decide +kernel), gG_5 66 rfl rfl, by decide +kernel, by decide⟩
theorem mi_mX7_controlledBy : gMi mX7_controlledBy 1 := ⟨ms_mX7_controlledBy, gG_5 65 (by decide +kernel) (by decide +kernel), gG_s 26 (by decide +kernel) (by decide +kernel)⟩
abbrev mX7_headAmong : gM := (yX7_headAmong, cX7_headAmong, 6, (Option.some Jvm.ClassFile.FieldType.int), none)
theorem ms_mX7_headAmong : gMs mX7_headAmong 2 := ⟨gG_1 4 (by decide +kernel) (by decide +kernel), gG_5 75 rfl rfl, by decide +kernel, by decide⟩
theorem mi_mX7_headAmong : gMi mX7_headAmong 2 := ⟨ms_mX7_headAmong, gG_5 74 (by decide +kernel) (by decide +kernel), gG_s 27 (by decide +kernel) (by decide +kernel)⟩
abbrev mX11_degree : gM := (yX11_degree, cX11_degree, 5, (Option.some Jvm.ClassFile.FieldType.int), none)
theorem ms_mX11_degree : gMs mX11_degree 4 := ⟨gG_1 1 (by decide +kernel) (by decide +kernel), gG_5 80 rfl rfl, by decide +kernel, by decide⟩
theorem mi_mX11_degree : gMi mX11_degree 4 := ⟨ms_mX11_degree, gG_5 78 (by decide +kernel) (by decide +kernel), gG_5 79 (by decide +kernel) (by decide +kernel)⟩
abbrev mX8_degreeOf : gM := (yX8_degreeOf, cX8_degreeOf, 5, (Option.some Jvm.ClassFile.FieldType.int), none)
theorem ms_mX8_degreeOf : gMs mX8_degreeOf 4 := ⟨gG_1 2 (by decide +kernel) (by decide +kernel), gG_5 84 rfl rfl, by decide +kernel, by decide⟩
theorem mi_mX8_degreeOf : gMi mX8_degreeOf 4 := ⟨ms_mX8_degreeOf, gG_5 82 (by decide +kernel) (by decide +kernel), gG_5 83 (by decide +kernel) (by decide +kernel)⟩
abbrev mX8_spread : gM := (yX8_spread, cX8_spread, 7, (Option.none : Option Jvm.ClassFile.FieldType), none)
theorem ms_mX8_spread : gMs mX8_spread 3 := ⟨gG_1 2 (by decide +kernel) (by decide +kernel), gG_5 88 rfl rfl, by decide +kernel, by decide⟩
theorem mi_mX8_spread : gMi mX8_spread 3 := ⟨ms_mX8_spread, gG_5 87 (by decide +kernel) (by decide +kernel), gG_s 28 (by decide +kernel) (by decide +kernel)⟩
abbrev mX8_reach : gM := (yX8_reach, cX8_reach, 5, (Option.none : Option Jvm.ClassFile.FieldType), none)
theorem ms_mX8_reach : gMs mX8_reach 3 := ⟨gG_1 2 (by decide +kernel) (by decide +kernel), gG_5 98 rfl rfl, by decide +kernel, by decide⟩
theorem mi_mX8_reach : gMi mX8_reach 3 := ⟨ms_mX8_reach, gG_5 97 (by decide +kernel) (by decide +kernel), gG_s 29 (by decide +kernel) (by decide +kernel)⟩
abbrev mX11_member : gM := (yX11_member, cX11_member, 2, (Option.some Jvm.ClassFile.FieldType.int), none)
theorem ms_mX11_member : gMs mX11_member 1 := ⟨gG_1 1 (by decide +kernel) (by decide +kernel), gG_5 102 rfl rfl, by decide +kernel, by decide⟩
theorem mi_mX11_member : gMi mX11_member 1 := ⟨ms_mX11_member, gG_5 100 (by decide +kernel) (by decide +kernel), gG_5 101 (by decide +kernel) (by decide +kernel)⟩
abbrev mX1_addMember : gM := (yX1_addMember, cX1_addMember, 2, (Option.some Jvm.ClassFile.FieldType.int), none)
theorem ms_mX1_addMember : gMs mX1_addMember 1 := ⟨gG_1 12 (by decide +kernel) (by decide +kernel), gG_5 106 rfl rfl, by decide +kernel, by decide⟩
theorem mi_mX1_addMember : gMi mX1_addMember 1 := ⟨ms_mX1_addMember, gG_5 104 (by decide +kernel) (by decide +kernel), gG_5 105 (by decide +kernel) (by decide +kernel)⟩
abbrev mX1_isMember : gM := (yX1_isMember, cX1_isMember, 3, (Option.some Jvm.ClassFile.FieldType.boolean), none)
theorem ms_mX1_isMember : gMs mX1_isMember 1 := ⟨gG_1 12 (by decide +kernel) (by decide +kernel), gG_5 110 rfl rfl, by decide +kernel, by decide⟩
theorem mi_mX1_isMember : gMi mX1_isMember 1 := ⟨ms_mX1_isMember, gG_5 109 (by decide +kernel) (by decide +kernel), gG_s 30 (by decide +kernel) (by decide +kernel)⟩
abbrev mX11_matter : gM := (yX11_matter, cX11_matter, 3, (Option.some Jvm.ClassFile.FieldType.int), none)
theorem ms_mX11_matter : gMs mX11_matter 2 := ⟨gG_1 1 (by decide +kernel) (by decide +kernel), gG_5 114 rfl rfl, by decide +kernel, by decide⟩
theorem mi_mX11_matter : gMi mX11_matter 2 := ⟨ms_mX11_matter, gG_5 112 (by decide +kernel) (by decide +kernel), gG_5 113 (by decide +kernel) (by decide +kernel)⟩
abbrev mX1_addMatter : gM := (yX1_addMatter, cX1_addMatter, 3, (Option.some Jvm.ClassFile.FieldType.int), none)
theorem ms_mX1_addMatter : gMs mX1_addMatter 2 := ⟨gG_1 12 (by decide +kernel) (by decide +kernel), gG_5 118 rfl rfl, by decide +kernel, by decide⟩
theorem mi_mX1_addMatter : gMi mX1_addMatter 2 := ⟨ms_mX1_addMatter, gG_5 116 (by decide +kernel) (by decide +kernel), gG_5 117 (by decide +kernel) (by decide +kernel)⟩
abbrev mX11_sits : gM := (yX11_sits, cX11_sits, 4, (Option.some Jvm.ClassFile.FieldType.int), none)
theorem ms_mX11_sits : gMs mX11_sits 3 := ⟨gG_1 1 (by decide +kernel) (by decide +kernel), gG_5 122 rfl rfl, by decide +kernel, by decide⟩
theorem mi_mX11_sits : gMi mX11_sits 3 := ⟨ms_mX11_sits, gG_5 120 (by decide +kernel) (by decide +kernel), gG_5 121 (by decide +kernel) (by decide +kernel)⟩
abbrev mX1_hasMatter : gM := (yX1_hasMatter, cX1_hasMatter, 2, (Option.some Jvm.ClassFile.FieldType.boolean), none)
theorem ms_mX1_hasMatter : gMs mX1_hasMatter 1 := ⟨gG_1 12 (by decide +kernel) (by decide +kernel), gG_5 126 rfl rfl, by decide +kernel, by decide⟩
theorem mi_mX1_hasMatter : gMi mX1_hasMatter 1 := ⟨ms_mX1_hasMatter, gG_5 124 (by decide +kernel) (by decide +kernel), gG_5 125 (by decide +kernel) (by decide +kernel)⟩
abbrev mX1_dutyOf : gM := (yX1_dutyOf, cX1_dutyOf, 4, (Option.some Jvm.ClassFile.FieldType.int), none)
theorem ms_mX1_dutyOf : gMs mX1_dutyOf 3 := ⟨gG_1 12 (by decide +kernel) (by decide +kernel), gG_5 130 rfl rfl, by decide +kernel, by decide⟩
theorem mi_mX1_dutyOf : gMi mX1_dutyOf 3 := ⟨ms_mX1_dutyOf, gG_5 128 (by decide +kernel) (by decide +kernel), gG_5 129 (by decide +kernel) (by decide +kernel)⟩
abbrev mX3_dutyFor : gM := (yX3_dutyFor, cX3_dutyFor, 7, (Option.some Jvm.ClassFile.FieldType.int), none)
theorem ms_mX3_dutyFor : gMs mX3_dutyFor 4 := ⟨gG_1 10 (by decide +kernel) (by decide +kernel), gG_5 135 rfl rfl, by decide +kernel, by decide⟩
theorem mi_mX3_dutyFor : gMi mX3_dutyFor 4 := ⟨ms_mX3_dutyFor, gG_5 133 (by decide +kernel) (by decide +kernel), gG_5 134 (by decide +kernel) (by decide +kernel)⟩
abbrev mX5_inForce : gM := (yX5_inForce, cX5_inForce, 7, (Option.some (Jvm.ClassFile.FieldType.object "GiftRegister$Law")), none)
theorem ms_mX5_inForce : gMs mX5_inForce 2 := ⟨gG_1 7 (by decide +kernel) (by decide +kernel), gG_5 139 rfl rfl, by decide +kernel, by decide⟩
theorem mi_mX5_inForce : gMi mX5_inForce 2 := ⟨ms_mX5_inForce, gG_5 137 (by decide +kernel) (by decide +kernel), gG_5 138 (by decide +kernel) (by decide +kernel)⟩
abbrev mX4_isInForce : gM := (yX4_isInForce, cX4_isInForce, 3, (Option.some Jvm.ClassFile.FieldType.boolean), none)
theorem ms_mX4_isInForce : gMs mX4_isInForce 2 := ⟨gG_1 8 (by decide +kernel) (by decide +kernel), gG_5 143 rfl rfl, by decide +kernel, by decide⟩
theorem mi_mX4_isInForce : gMi mX4_isInForce 2 := ⟨ms_mX4_isInForce, gG_5 141 (by decide +kernel) (by decide +kernel), gG_5 142 (by decide +kernel) (by decide +kernel)⟩
abbrev mX4_since : gM := (yX4_since, cX4_since, 1, (Option.some Jvm.ClassFile.FieldType.int), none)
theorem ms_mX4_since : gMs mX4_since 0 := ⟨gG_1 8 (by decide +kernel) (by decide +kernel), gG_5 147 rfl rfl, by decide +kernel, by decide⟩
theorem mi_mX4_since : gMi mX4_since 0 := ⟨ms_mX4_since, gG_5 145 (by decide +kernel) (by decide +kernel), gG_5 146 (by decide +kernel) (by decide +kernel)⟩
abbrev mX3_weigh : gM := (yX3_weigh, cX3_weigh, 11, (Option.none : Option Jvm.ClassFile.FieldType), none)
theorem ms_mX3_weigh : gMs mX3_weigh 5 := ⟨gG_1 10 (by decide +kernel) (by decide +kernel), gG_5 152 rfl rfl, by decide +kernel, by decide⟩
theorem mi_mX3_weigh : gMi mX3_weigh 5 := ⟨ms_mX3_weigh, gG_5 151 (by decide +kernel) (by decide +kernel), gG_s 31 (by decide +kernel) (by decide +kernel)⟩
abbrev mX2_total : gM := (yX2_total, cX2_total, 1, (Option.some Jvm.ClassFile.FieldType.int), none)
theorem ms_mX2_total : gMs mX2_total 0 := ⟨gG_1 6 (by decide +kernel) (by decide +kernel), gG_5 157 rfl rfl, by decide +kernel, by decide⟩
theorem mi_mX2_total : gMi mX2_total 0 := ⟨ms_mX2_total, gG_5 155 (by decide +kernel) (by decide +kernel), gG_5 156 (by decide +kernel) (by decide +kernel)⟩
abbrev mX2_dayOf : gM := (yX2_dayOf, cX2_dayOf, 2, (Option.some Jvm.ClassFile.FieldType.int), none)
theorem ms_mX2_dayOf : gMs mX2_dayOf 1 := ⟨gG_1 6 (by decide +kernel) (by decide +kernel), gG_5 161 rfl rfl, by decide +kernel, by decide⟩
theorem mi_mX2_dayOf : gMi mX2_dayOf 1 := ⟨ms_mX2_dayOf, gG_5 159 (by decide +kernel) (by decide +kernel), gG_5 160 (by decide +kernel) (by decide +kernel)⟩
abbrev mX2_isKnown : gM := (yX2_isKnown, cX2_isKnown, 3, (Option.some Jvm.ClassFile.FieldType.boolean), none)
theorem ms_mX2_isKnown : gMs mX2_isKnown 2 := ⟨gG_1 6 (by decide +kernel) (by decide +kernel), gG_5 165 rfl rfl, by decide +kernel, by decide⟩
theorem mi_mX2_isKnown : gMi mX2_isKnown 2 := ⟨ms_mX2_isKnown, gG_5 163 (by decide +kernel) (by decide +kernel), gG_5 164 (by decide +kernel) (by decide +kernel)⟩
abbrev mX4_year : gM := (yX4_year, cX4_year, 1, (Option.some Jvm.ClassFile.FieldType.int), none)
theorem ms_mX4_year : gMs mX4_year 0 := ⟨gG_1 8 (by decide +kernel) (by decide +kernel), gG_5 169 rfl rfl, by decide +kernel, by decide⟩
theorem mi_mX4_year : gMi mX4_year 0 := ⟨ms_mX4_year, gG_5 167 (by decide +kernel) (by decide +kernel), gG_5 168 (by decide +kernel) (by decide +kernel)⟩
abbrev mX2_receiver : gM := (yX2_receiver, cX2_receiver, 2, (Option.some Jvm.ClassFile.FieldType.int), none)
theorem ms_mX2_receiver : gMs mX2_receiver 1 := ⟨gG_1 6 (by decide +kernel) (by decide +kernel), gG_5 173 rfl rfl, by decide +kernel, by decide⟩
theorem mi_mX2_receiver : gMi mX2_receiver 1 := ⟨ms_mX2_receiver, gG_5 171 (by decide +kernel) (by decide +kernel), gG_5 172 (by decide +kernel) (by decide +kernel)⟩
abbrev mX4_kinLimit : gM := (yX4_kinLimit, cX4_kinLimit, 1, (Option.some Jvm.ClassFile.FieldType.int), none)
theorem ms_mX4_kinLimit : gMs mX4_kinLimit 0 := ⟨gG_1 8 (by decide +kernel) (by decide +kernel), gG_5 178 rfl rfl, by decide +kernel, by decide⟩
theorem mi_mX4_kinLimit : gMi mX4_kinLimit 0 := ⟨ms_mX4_kinLimit, gG_5 176 (by decide +kernel) (by decide +kernel), gG_5 177 (by decide +kernel) (by decide +kernel)⟩
abbrev mX2_giver : gM := (yX2_giver, cX2_giver, 2, (Option.some Jvm.ClassFile.FieldType.int), none)
theorem ms_mX2_giver : gMs mX2_giver 1 := ⟨gG_1 6 (by decide +kernel) (by decide +kernel), gG_5 182 rfl rfl, by decide +kernel, by decide⟩
theorem mi_mX2_giver : gMi mX2_giver 1 := ⟨ms_mX2_giver, gG_5 180 (by decide +kernel) (by decide +kernel), gG_5 181 (by decide +kernel) (by decide +kernel)⟩
abbrev mX2_isBackBy : gM := (yX2_isBackBy, cX2_isBackBy, 5, (Option.some Jvm.ClassFile.FieldType.boolean), none)
theorem ms_mX2_isBackBy : gMs mX2_isBackBy 3 := ⟨gG_1 6 (by decide +kernel) (by decide +kernel), gG_5 186 rfl rfl, by decide +kernel, by decide⟩
theorem mi_mX2_isBackBy : gMi mX2_isBackBy 3 := ⟨ms_mX2_isBackBy, gG_5 184 (by decide +kernel) (by decide +kernel), gG_5 185 (by decide +kernel) (by decide +kernel)⟩
abbrev mX2_backOn : gM := (yX2_backOn, cX2_backOn, 3, (Option.some Jvm.ClassFile.FieldType.int), none)
theorem ms_mX2_backOn : gMs mX2_backOn 2 := ⟨gG_1 6 (by decide +kernel) (by decide +kernel), gG_5 190 rfl rfl, by decide +kernel, by decide⟩
theorem mi_mX2_backOn : gMi mX2_backOn 2 := ⟨ms_mX2_backOn, gG_5 188 (by decide +kernel) (by decide +kernel), gG_5 189 (by decide +kernel) (by decide +kernel)⟩
abbrev mX2_leastOf : gM := (yX2_leastOf, cX2_leastOf, 4, (Option.some Jvm.ClassFile.FieldType.int), none)
theorem ms_mX2_leastOf : gMs mX2_leastOf 2 := ⟨gG_1 6 (by decide +kernel) (by decide +kernel), gG_5 194 rfl rfl, by decide +kernel, by decide⟩
theorem mi_mX2_leastOf : gMi mX2_leastOf 2 := ⟨ms_mX2_leastOf, gG_5 192 (by decide +kernel) (by decide +kernel), gG_5 193 (by decide +kernel) (by decide +kernel)⟩
abbrev mX2_latestWorth : gM := (yX2_latestWorth, cX2_latestWorth, 4, (Option.some Jvm.ClassFile.FieldType.int), none)
theorem ms_mX2_latestWorth : gMs mX2_latestWorth 2 := ⟨gG_1 6 (by decide +kernel) (by decide +kernel), gG_5 198 rfl rfl, by decide +kernel, by decide⟩
theorem mi_mX2_latestWorth : gMi mX2_latestWorth 2 := ⟨ms_mX2_latestWorth, gG_5 197 (by decide +kernel) (by decide +kernel), gG_s 32 (by decide +kernel) (by decide +kernel)⟩
abbrev mX4_old : gM := (yX4_old, cX4_old, 1, (Option.some Jvm.ClassFile.FieldType.int), none)
theorem ms_mX4_old : gMs mX4_old 0 := ⟨gG_1 8 (by decide +kernel) (by decide +kernel), gG_5 204 rfl rfl, by decide +kernel, by decide⟩
theorem mi_mX4_old : gMi mX4_old 0 := ⟨ms_mX4_old, gG_5 202 (by decide +kernel) (by decide +kernel), gG_5 203 (by decide +kernel) (by decide +kernel)⟩
abbrev mX3_hasPost : gM := (yX3_hasPost, cX3_hasPost, 7, (Option.some Jvm.ClassFile.FieldType.boolean), none)
theorem ms_mX3_hasPost : gMs mX3_hasPost 5 := ⟨gG_1 10 (by decide +kernel) (by decide +kernel), gG_5 208 rfl rfl, by decide +kernel, by decide⟩
theorem mi_mX3_hasPost : gMi mX3_hasPost 5 := ⟨ms_mX3_hasPost, gG_5 207 (by decide +kernel) (by decide +kernel), gG_s 33 (by decide +kernel) (by decide +kernel)⟩
abbrev mX9_stop : gM := (yX9_stop, cX9_stop, 2, (Option.some Jvm.ClassFile.FieldType.int), none)
theorem ms_mX9_stop : gMs mX9_stop 1 := ⟨gG_1 3 (by decide +kernel) (by decide +kernel), gG_5 216 rfl rfl, by decide +kernel, by decide⟩
theorem mi_mX9_stop : gMi mX9_stop 1 := ⟨ms_mX9_stop, gG_5 214 (by decide +kernel) (by decide +kernel), gG_5 215 (by decide +kernel) (by decide +kernel)⟩
abbrev mX4_uses : gM := (yX4_uses, cX4_uses, 3, (Option.some Jvm.ClassFile.FieldType.boolean), none)
theorem ms_mX4_uses : gMs mX4_uses 1 := ⟨gG_1 8 (by decide +kernel) (by decide +kernel), gG_5 221 rfl rfl, by decide +kernel, by decide⟩
theorem mi_mX4_uses : gMi mX4_uses 1 := ⟨ms_mX4_uses, gG_5 219 (by decide +kernel) (by decide +kernel), gG_5 220 (by decide +kernel) (by decide +kernel)⟩
abbrev mX0_cutPartOf : gM := (yX0_cutPartOf, cX0_cutPartOf, 5, (Option.some Jvm.ClassFile.FieldType.int), none)
theorem ms_mX0_cutPartOf : gMs mX0_cutPartOf 4 := ⟨gG_1 5 (by decide +kernel) (by decide +kernel), gG_5 225 rfl rfl, by decide +kernel, by decide⟩
theorem mi_mX0_cutPartOf : gMi mX0_cutPartOf 4 := ⟨ms_mX0_cutPartOf, gG_5 223 (by decide +kernel) (by decide +kernel), gG_5 224 (by decide +kernel) (by decide +kernel)⟩
abbrev mX3_greatestOfKin : gM := (yX3_greatestOfKin, cX3_greatestOfKin, 8, (Option.some Jvm.ClassFile.FieldType.int), none)
theorem ms_mX3_greatestOfKin : gMs mX3_greatestOfKin 5 := ⟨gG_1 10 (by decide +kernel) (by decide +kernel), gG_5 230 rfl rfl, by decide +kernel, by decide⟩
theorem mi_mX3_greatestOfKin : gMi mX3_greatestOfKin 5 := ⟨ms_mX3_greatestOfKin, gG_5 229 (by decide +kernel) (by decide +kernel), gG_s 34 (by decide +kernel) (by decide +kernel)⟩
abbrev mX8_total : gM := (yX8_total, cX8_total, 1, (Option.some Jvm.ClassFile.FieldType.int), none)
theorem ms_mX8_total : gMs mX8_total 0 := ⟨gG_1 2 (by decide +kernel) (by decide +kernel), gG_5 234 rfl rfl, by decide +kernel, by decide⟩
theorem mi_mX8_total : gMi mX8_total 0 := ⟨ms_mX8_total, gG_5 232 (by decide +kernel) (by decide +kernel), gG_5 233 (by decide +kernel) (by decide +kernel)⟩
abbrev mX4_holds : gM := (yX4_holds, cX4_holds, 6, (Option.some Jvm.ClassFile.FieldType.boolean), none)
theorem ms_mX4_holds : gMs mX4_holds 2 := ⟨gG_1 8 (by decide +kernel) (by decide +kernel), gG_5 239 rfl rfl, by decide +kernel, by decide⟩
theorem mi_mX4_holds : gMi mX4_holds 2 := ⟨ms_mX4_holds, gG_5 237 (by decide +kernel) (by decide +kernel), gG_5 238 (by decide +kernel) (by decide +kernel)⟩
abbrev mX4_isTrue : gM := (yX4_isTrue, cX4_isTrue, 4, (Option.some Jvm.ClassFile.FieldType.boolean), none)
theorem ms_mX4_isTrue : gMs mX4_isTrue 2 := ⟨gG_1 8 (by decide +kernel) (by decide +kernel), gG_6 3 rfl rfl, by decide +kernel, by decide⟩
theorem mi_mX4_isTrue : gMi mX4_isTrue 2 := ⟨ms_mX4_isTrue, gG_6 2 (by decide +kernel) (by decide +kernel), gG_s 35 (by decide +kernel) (by decide +kernel)⟩
abbrev mX11_quorum : gM := (yX11_quorum, cX11_quorum, 3, (Option.some Jvm.ClassFile.FieldType.int), none)
theorem ms_mX11_quorum : gMs mX11_quorum 2 := ⟨gG_1 1 (by decide +kernel) (by decide +kernel), gG_6 7 rfl rfl, by decide +kernel, by decide⟩
theorem mi_mX11_quorum : gMi mX11_quorum 2 := ⟨ms_mX11_quorum, gG_6 5 (by decide +kernel) (by decide +kernel), gG_6 6 (by decide +kernel) (by decide +kernel)⟩
abbrev mX1_quorumOf : gM := (yX1_quorumOf, cX1_quorumOf, 5, (Option.some Jvm.ClassFile.FieldType.int), none)
theorem ms_mX1_quorumOf : gMs mX1_quorumOf 2 := ⟨gG_1 12 (by decide +kernel) (by decide +kernel), gG_6 11 rfl rfl, by decide +kernel, by decide⟩
theorem mi_mX1_quorumOf : gMi mX1_quorumOf 2 := ⟨ms_mX1_quorumOf, gG_6 9 (by decide +kernel) (by decide +kernel), gG_6 10 (by decide +kernel) (by decide +kernel)⟩
abbrev mX3_seatsNeeded : gM := (yX3_seatsNeeded, cX3_seatsNeeded, 3, (Option.some Jvm.ClassFile.FieldType.int), none)
theorem ms_mX3_seatsNeeded : gMs mX3_seatsNeeded 2 := ⟨gG_1 10 (by decide +kernel) (by decide +kernel), gG_6 15 rfl rfl, by decide +kernel, by decide⟩
theorem mi_mX3_seatsNeeded : gMi mX3_seatsNeeded 2 := ⟨ms_mX3_seatsNeeded, gG_6 13 (by decide +kernel) (by decide +kernel), gG_6 14 (by decide +kernel) (by decide +kernel)⟩
abbrev mX4_seatsNeeded : gM := (yX4_seatsNeeded, cX4_seatsNeeded, 1, (Option.some Jvm.ClassFile.FieldType.int), none)
theorem ms_mX4_seatsNeeded : gMs mX4_seatsNeeded 0 := ⟨gG_1 8 (by decide +kernel) (by decide +kernel), gG_6 19 rfl rfl, by decide +kernel, by decide⟩
theorem mi_mX4_seatsNeeded : gMi mX4_seatsNeeded 0 := ⟨ms_mX4_seatsNeeded, gG_6 17 (by decide +kernel) (by decide +kernel), gG_6 18 (by decide +kernel) (by decide +kernel)⟩
abbrev mX11_entry : gM := (yX11_entry, cX11_entry, 6, (Option.some Jvm.ClassFile.FieldType.int), none)
theorem ms_mX11_entry : gMs mX11_entry 3 := ⟨gG_1 1 (by decide +kernel) (by decide +kernel), gG_6 23 rfl rfl, by decide +kernel, by decide⟩
theorem mi_mX11_entry : gMi mX11_entry 3 := ⟨ms_mX11_entry, gG_6 21 (by decide +kernel) (by decide +kernel), gG_6 22 (by decide +kernel) (by decide +kernel)⟩
abbrev mX6_add : gM := (yX6_add, cX6_add, 7, (Option.some Jvm.ClassFile.FieldType.int), none)
theorem ms_mX6_add : gMs mX6_add 5 := ⟨gG_1 11 (by decide +kernel) (by decide +kernel), gG_6 27 rfl rfl, by decide +kernel, by decide⟩
theorem mi_mX6_add : gMi mX6_add 5 := ⟨ms_mX6_add, gG_6 25 (by decide +kernel) (by decide +kernel), gG_6 26 (by decide +kernel) (by decide +kernel)⟩
abbrev mX11_joined : gM := (yX11_joined, cX11_joined, 2, (Option.some Jvm.ClassFile.FieldType.int), none)
theorem ms_mX11_joined : gMs mX11_joined 1 := ⟨gG_1 1 (by decide +kernel) (by decide +kernel), gG_6 31 rfl rfl, by decide +kernel, by decide⟩
theorem mi_mX11_joined : gMi mX11_joined 1 := ⟨ms_mX11_joined, gG_6 29 (by decide +kernel) (by decide +kernel), gG_6 30 (by decide +kernel) (by decide +kernel)⟩
abbrev mX6_join : gM := (yX6_join, cX6_join, 4, (Option.some Jvm.ClassFile.FieldType.int), none)
theorem ms_mX6_join : gMs mX6_join 1 := ⟨gG_1 11 (by decide +kernel) (by decide +kernel), gG_6 35 rfl rfl, by decide +kernel, by decide⟩
theorem mi_mX6_join : gMi mX6_join 1 := ⟨ms_mX6_join, gG_6 33 (by decide +kernel) (by decide +kernel), gG_6 34 (by decide +kernel) (by decide +kernel)⟩
abbrev mX6_findFits : gM := (yX6_findFits, cX6_findFits, 6, (Option.none : Option Jvm.ClassFile.FieldType), none)
theorem ms_mX6_findFits : gMs mX6_findFits 2 := ⟨gG_1 11 (by decide +kernel) (by decide +kernel), gG_6 42 rfl rfl, by decide +kernel, by decide⟩
theorem mi_mX6_findFits : gMi mX6_findFits 2 := ⟨ms_mX6_findFits, gG_6 41 (by decide +kernel) (by decide +kernel), gG_s 36 (by decide +kernel) (by decide +kernel)⟩
abbrev mX6_isKnown : gM := (yX6_isKnown, cX6_isKnown, 3, (Option.some Jvm.ClassFile.FieldType.boolean), none)
theorem ms_mX6_isKnown : gMs mX6_isKnown 2 := ⟨gG_1 11 (by decide +kernel) (by decide +kernel), gG_6 46 rfl rfl, by decide +kernel, by decide⟩
theorem mi_mX6_isKnown : gMi mX6_isKnown 2 := ⟨ms_mX6_isKnown, gG_6 44 (by decide +kernel) (by decide +kernel), gG_6 45 (by decide +kernel) (by decide +kernel)⟩
abbrev mX6_has : gM := (yX6_has, cX6_has, 2, (Option.some Jvm.ClassFile.FieldType.boolean), none)
theorem ms_mX6_has : gMs mX6_has 1 := ⟨gG_1 11 (by decide +kernel) (by decide +kernel), gG_6 50 rfl rfl, by decide +kernel, by decide⟩
theorem mi_mX6_has : gMi mX6_has 1 := ⟨ms_mX6_has, gG_6 49 (by decide +kernel) (by decide +kernel), gG_s 37 (by decide +kernel) (by decide +kernel)⟩
abbrev mX2_toldOn : gM := (yX2_toldOn, cX2_toldOn, 3, (Option.some Jvm.ClassFile.FieldType.int), none)
theorem ms_mX2_toldOn : gMs mX2_toldOn 2 := ⟨gG_1 6 (by decide +kernel) (by decide +kernel), gG_6 58 rfl rfl, by decide +kernel, by decide⟩
theorem mi_mX2_toldOn : gMi mX2_toldOn 2 := ⟨ms_mX2_toldOn, gG_6 56 (by decide +kernel) (by decide +kernel), gG_6 57 (by decide +kernel) (by decide +kernel)⟩
abbrev mX2_mostOf : gM := (yX2_mostOf, cX2_mostOf, 4, (Option.some Jvm.ClassFile.FieldType.int), none)
theorem ms_mX2_mostOf : gMs mX2_mostOf 2 := ⟨gG_1 6 (by decide +kernel) (by decide +kernel), gG_6 63 rfl rfl, by decide +kernel, by decide⟩
theorem mi_mX2_mostOf : gMi mX2_mostOf 2 := ⟨ms_mX2_mostOf, gG_6 61 (by decide +kernel) (by decide +kernel), gG_6 62 (by decide +kernel) (by decide +kernel)⟩
abbrev mX8_isNamed : gM := (yX8_isNamed, cX8_isNamed, 4, (Option.some Jvm.ClassFile.FieldType.boolean), none)
theorem ms_mX8_isNamed : gMs mX8_isNamed 2 := ⟨gG_1 2 (by decide +kernel) (by decide +kernel), gG_6 68 rfl rfl, by decide +kernel, by decide⟩
theorem mi_mX8_isNamed : gMi mX8_isNamed 2 := ⟨ms_mX8_isNamed, gG_6 66 (by decide +kernel) (by decide +kernel), gG_6 67 (by decide +kernel) (by decide +kernel)⟩
abbrev mX6_grow : gM := (yX6_grow, cX6_grow, 4, (Option.some Jvm.ClassFile.FieldType.boolean), none)
theorem ms_mX6_grow : gMs mX6_grow 1 := ⟨gG_1 11 (by decide +kernel) (by decide +kernel), gG_6 73 rfl rfl, by decide +kernel, by decide⟩
theorem mi_mX6_grow : gMi mX6_grow 1 := ⟨ms_mX6_grow, gG_6 72 (by decide +kernel) (by decide +kernel), gG_s 38 (by decide +kernel) (by decide +kernel)⟩
abbrev mX6_giftJoined : gM := (yX6_giftJoined, cX6_giftJoined, 2, (Option.some Jvm.ClassFile.FieldType.int), none)
theorem ms_mX6_giftJoined : gMs mX6_giftJoined 1 := ⟨gG_1 11 (by decide +kernel) (by decide +kernel), gG_6 80 rfl rfl, by decide +kernel, by decide⟩
theorem mi_mX6_giftJoined : gMi mX6_giftJoined 1 := ⟨ms_mX6_giftJoined, gG_6 78 (by decide +kernel) (by decide +kernel), gG_6 79 (by decide +kernel) (by decide +kernel)⟩
abbrev mX6_await : gM := (yX6_await, cX6_await, 2, (Option.none : Option Jvm.ClassFile.FieldType), none)
theorem ms_mX6_await : gMs mX6_await 1 := ⟨gG_1 11 (by decide +kernel) (by decide +kernel), gG_6 84 rfl rfl, by decide +kernel, by decide⟩
theorem mi_mX6_await : gMi mX6_await 1 := ⟨ms_mX6_await, gG_6 83 (by decide +kernel) (by decide +kernel), gG_s 39 (by decide +kernel) (by decide +kernel)⟩
abbrev mX6_reachFrom : gM := (yX6_reachFrom, cX6_reachFrom, 3, (Option.some Jvm.ClassFile.FieldType.int), none)
theorem ms_mX6_reachFrom : gMs mX6_reachFrom 1 := ⟨gG_1 11 (by decide +kernel) (by decide +kernel), gG_6 88 rfl rfl, by decide +kernel, by decide⟩
theorem mi_mX6_reachFrom : gMi mX6_reachFrom 1 := ⟨ms_mX6_reachFrom, gG_6 87 (by decide +kernel) (by decide +kernel), gG_s 40 (by decide +kernel) (by decide +kernel)⟩
abbrev mX6_isChoice : gM := (yX6_isChoice, cX6_isChoice, 5, (Option.some Jvm.ClassFile.FieldType.boolean), none)
theorem ms_mX6_isChoice : gMs mX6_isChoice 3 := ⟨gG_1 11 (by decide +kernel) (by decide +kernel), gG_6 92 rfl rfl, by decide +kernel, by decide⟩
theorem mi_mX6_isChoice : gMi mX6_isChoice 3 := ⟨ms_mX6_isChoice, gG_6 91 (by decide +kernel) (by decide +kernel), gG_s 41 (by decide +kernel) (by decide +kernel)⟩
abbrev mX6_isGift : gM := (yX6_isGift, cX6_isGift, 1, (Option.some Jvm.ClassFile.FieldType.boolean), none)
theorem ms_mX6_isGift : gMs mX6_isGift 1 := ⟨gG_1 11 (by decide +kernel) (by decide +kernel), gG_6 95 rfl rfl, by decide +kernel, by decide⟩
theorem st_mX6_isGift : Cond.static yX6_isGift ∈ gG := gG_6 94 (by decide +kernel) (by decide +kernel)
abbrev mX6_shift : gM := (yX6_shift, cX6_shift, 6, (Option.none : Option Jvm.ClassFile.FieldType), none)
theorem ms_mX6_shift : gMs mX6_shift 1 := ⟨gG_1 11 (by decide +kernel) (by decide +kernel), gG_6 99 rfl rfl, by decide +kernel, by decide⟩
theorem mi_mX6_shift : gMi mX6_shift 1 := ⟨ms_mX6_shift, gG_6 98 (by decide +kernel) (by decide +kernel), gG_s 42 (by decide +kernel) (by decide +kernel)⟩
abbrev mX6_put : gM := (yX6_put, cX6_put, 3, (Option.none : Option Jvm.ClassFile.FieldType), none)
theorem ms_mX6_put : gMs mX6_put 2 := ⟨gG_1 11 (by decide +kernel) (by decide +kernel), gG_6 103 rfl rfl, by decide +kernel, by decide⟩
theorem mi_mX6_put : gMi mX6_put 2 := ⟨ms_mX6_put, gG_6 102 (by decide +kernel) (by decide +kernel), gG_s 43 (by decide +kernel) (by decide +kernel)⟩
abbrev mX6_settle : gM := (yX6_settle, cX6_settle, 3, (Option.none : Option Jvm.ClassFile.FieldType), none)
theorem ms_mX6_settle : gMs mX6_settle 1 := ⟨gG_1 11 (by decide +kernel) (by decide +kernel), gG_6 107 rfl rfl, by decide +kernel, by decide⟩
theorem mi_mX6_settle : gMi mX6_settle 1 := ⟨ms_mX6_settle, gG_6 106 (by decide +kernel) (by decide +kernel), gG_s 44 (by decide +kernel) (by decide +kernel)⟩
abbrev mX6_force : gM := (yX6_force, cX6_force, 5, (Option.some Jvm.ClassFile.FieldType.boolean), none)
theorem ms_mX6_force : gMs mX6_force 2 := ⟨gG_1 11 (by decide +kernel) (by decide +kernel), gG_6 111 rfl rfl, by decide +kernel, by decide⟩
theorem mi_mX6_force : gMi mX6_force 2 := ⟨ms_mX6_force, gG_6 110 (by decide +kernel) (by decide +kernel), gG_s 45 (by decide +kernel) (by decide +kernel)⟩
abbrev mX11_vote : gM := (yX11_vote, cX11_vote, 4, (Option.some Jvm.ClassFile.FieldType.int), none)
theorem ms_mX11_vote : gMs mX11_vote 3 := ⟨gG_1 1 (by decide +kernel) (by decide +kernel), gG_6 115 rfl rfl, by decide +kernel, by decide⟩
theorem mi_mX11_vote : gMi mX11_vote 3 := ⟨ms_mX11_vote, gG_6 113 (by decide +kernel) (by decide +kernel), gG_6 114 (by decide +kernel) (by decide +kernel)⟩
abbrev mX1_addVote : gM := (yX1_addVote, cX1_addVote, 6, (Option.some Jvm.ClassFile.FieldType.int), none)
theorem ms_mX1_addVote : gMs mX1_addVote 4 := ⟨gG_1 12 (by decide +kernel) (by decide +kernel), gG_6 119 rfl rfl, by decide +kernel, by decide⟩
theorem mi_mX1_addVote : gMi mX1_addVote 4 := ⟨ms_mX1_addVote, gG_6 117 (by decide +kernel) (by decide +kernel), gG_6 118 (by decide +kernel) (by decide +kernel)⟩
abbrev mX11_links : gM := (yX11_links, cX11_links, 3, (Option.some Jvm.ClassFile.FieldType.int), none)
theorem ms_mX11_links : gMs mX11_links 2 := ⟨gG_1 1 (by decide +kernel) (by decide +kernel), gG_6 123 rfl rfl, by decide +kernel, by decide⟩
theorem mi_mX11_links : gMi mX11_links 2 := ⟨ms_mX11_links, gG_6 121 (by decide +kernel) (by decide +kernel), gG_6 122 (by decide +kernel) (by decide +kernel)⟩
abbrev mX1_tallyOf : gM := (yX1_tallyOf, cX1_tallyOf, 7, (Option.some Jvm.ClassFile.FieldType.int), none)
theorem ms_mX1_tallyOf : gMs mX1_tallyOf 2 := ⟨gG_1 12 (by decide +kernel) (by decide +kernel), gG_6 127 rfl rfl, by decide +kernel, by decide⟩
theorem mi_mX1_tallyOf : gMi mX1_tallyOf 2 := ⟨ms_mX1_tallyOf, gG_6 125 (by decide +kernel) (by decide +kernel), gG_6 126 (by decide +kernel) (by decide +kernel)⟩
abbrev mX3_isWarm : gM := (yX3_isWarm, cX3_isWarm, 9, (Option.some Jvm.ClassFile.FieldType.boolean), none)
theorem ms_mX3_isWarm : gMs mX3_isWarm 4 := ⟨gG_1 10 (by decide +kernel) (by decide +kernel), gG_6 131 rfl rfl, by decide +kernel, by decide⟩
theorem mi_mX3_isWarm : gMi mX3_isWarm 4 := ⟨ms_mX3_isWarm, gG_6 129 (by decide +kernel) (by decide +kernel), gG_6 130 (by decide +kernel) (by decide +kernel)⟩
abbrev mX4_link : gM := (yX4_link, cX4_link, 1, (Option.some Jvm.ClassFile.FieldType.int), none)
theorem ms_mX4_link : gMs mX4_link 0 := ⟨gG_1 8 (by decide +kernel) (by decide +kernel), gG_6 135 rfl rfl, by decide +kernel, by decide⟩
theorem mi_mX4_link : gMi mX4_link 0 := ⟨ms_mX4_link, gG_6 133 (by decide +kernel) (by decide +kernel), gG_6 134 (by decide +kernel) (by decide +kernel)⟩
abbrev mX11_asked : gM := (yX11_asked, cX11_asked, 4, (Option.some Jvm.ClassFile.FieldType.int), none)
theorem ms_mX11_asked : gMs mX11_asked 3 := ⟨gG_1 1 (by decide +kernel) (by decide +kernel), gG_6 139 rfl rfl, by decide +kernel, by decide⟩
theorem mi_mX11_asked : gMi mX11_asked 3 := ⟨ms_mX11_asked, gG_6 137 (by decide +kernel) (by decide +kernel), gG_6 138 (by decide +kernel) (by decide +kernel)⟩
abbrev mX0_greatestPart : gM := (yX0_greatestPart, cX0_greatestPart, 6, (Option.some Jvm.ClassFile.FieldType.int), none)
theorem ms_mX0_greatestPart : gMs mX0_greatestPart 2 := ⟨gG_1 5 (by decide +kernel) (by decide +kernel), gG_6 143 rfl rfl, by decide +kernel, by decide⟩
theorem mi_mX0_greatestPart : gMi mX0_greatestPart 2 := ⟨ms_mX0_greatestPart, gG_6 141 (by decide +kernel) (by decide +kernel), gG_6 142 (by decide +kernel) (by decide +kernel)⟩
abbrev mJ9_max_f86c9 : gM := (yJ9_max_f86c9, cJ9_max_f86c9, 4, (Option.some Jvm.ClassFile.FieldType.long), none)
theorem ms_mJ9_max_f86c9 : gMs mJ9_max_f86c9 2 := ⟨gG_1 15 (by decide +kernel) (by decide +kernel), gG_6 146 rfl rfl, by decide +kernel, by decide⟩
theorem st_mJ9_max_f86c9 : Cond.static yJ9_max_f86c9 ∈ gG := gG_6 145 (by decide +kernel) (by decide +kernel)
abbrev mX3_recordOf : gM := (yX3_recordOf, cX3_recordOf, 7, (Option.some Jvm.ClassFile.FieldType.int), none)
theorem ms_mX3_recordOf : gMs mX3_recordOf 3 := ⟨gG_1 10 (by decide +kernel) (by decide +kernel), gG_6 150 rfl rfl, by decide +kernel, by decide⟩
theorem mi_mX3_recordOf : gMi mX3_recordOf 3 := ⟨ms_mX3_recordOf, gG_6 148 (by decide +kernel) (by decide +kernel), gG_6 149 (by decide +kernel) (by decide +kernel)⟩
abbrev mX3_decide : gM := (yX3_decide, cX3_decide, 11, (Option.none : Option Jvm.ClassFile.FieldType), none)
theorem ms_mX3_decide : gMs mX3_decide 2 := ⟨gG_1 10 (by decide +kernel) (by decide +kernel), gG_6 155 rfl rfl, by decide +kernel, by decide⟩
theorem mi_mX3_decide : gMi mX3_decide 2 := ⟨ms_mX3_decide, gG_6 154 (by decide +kernel) (by decide +kernel), gG_s 46 (by decide +kernel) (by decide +kernel)⟩
abbrev mX2_sortOf : gM := (yX2_sortOf, cX2_sortOf, 2, (Option.some Jvm.ClassFile.FieldType.int), none)
theorem ms_mX2_sortOf : gMs mX2_sortOf 1 := ⟨gG_1 6 (by decide +kernel) (by decide +kernel), gG_6 159 rfl rfl, by decide +kernel, by decide⟩
theorem mi_mX2_sortOf : gMi mX2_sortOf 1 := ⟨ms_mX2_sortOf, gG_6 157 (by decide +kernel) (by decide +kernel), gG_6 158 (by decide +kernel) (by decide +kernel)⟩
abbrev mX2_isForeign : gM := (yX2_isForeign, cX2_isForeign, 2, (Option.some Jvm.ClassFile.FieldType.boolean), none)
theorem ms_mX2_isForeign : gMs mX2_isForeign 1 := ⟨gG_1 6 (by decide +kernel) (by decide +kernel), gG_6 163 rfl rfl, by decide +kernel, by decide⟩
theorem mi_mX2_isForeign : gMi mX2_isForeign 1 := ⟨ms_mX2_isForeign, gG_6 161 (by decide +kernel) (by decide +kernel), gG_6 162 (by decide +kernel) (by decide +kernel)⟩
abbrev mX4_within : gM := (yX4_within, cX4_within, 2, (Option.some Jvm.ClassFile.FieldType.int), none)
theorem ms_mX4_within : gMs mX4_within 1 := ⟨gG_1 8 (by decide +kernel) (by decide +kernel), gG_6 169 rfl rfl, by decide +kernel, by decide⟩
theorem mi_mX4_within : gMi mX4_within 1 := ⟨ms_mX4_within, gG_6 167 (by decide +kernel) (by decide +kernel), gG_6 168 (by decide +kernel) (by decide +kernel)⟩
abbrev mX3_stateOf : gM := (yX3_stateOf, cX3_stateOf, 4, (Option.some Jvm.ClassFile.FieldType.int), none)
theorem ms_mX3_stateOf : gMs mX3_stateOf 2 := ⟨gG_1 10 (by decide +kernel) (by decide +kernel), gG_6 173 rfl rfl, by decide +kernel, by decide⟩
theorem mi_mX3_stateOf : gMi mX3_stateOf 2 := ⟨ms_mX3_stateOf, gG_6 172 (by decide +kernel) (by decide +kernel), gG_s 47 (by decide +kernel) (by decide +kernel)⟩
abbrev mX11_count : gM := (yX11_count, cX11_count, 2, (Option.some Jvm.ClassFile.FieldType.int), none)
theorem ms_mX11_count : gMs mX11_count 1 := ⟨gG_1 1 (by decide +kernel) (by decide +kernel), gG_6 177 rfl rfl, by decide +kernel, by decide⟩
theorem mi_mX11_count : gMi mX11_count 1 := ⟨ms_mX11_count, gG_6 175 (by decide +kernel) (by decide +kernel), gG_6 176 (by decide +kernel) (by decide +kernel)⟩
abbrev mX7_total : gM := (yX7_total, cX7_total, 1, (Option.some Jvm.ClassFile.FieldType.int), none)
theorem ms_mX7_total : gMs mX7_total 0 := ⟨gG_1 4 (by decide +kernel) (by decide +kernel), gG_6 182 rfl rfl, by decide +kernel, by decide⟩
theorem mi_mX7_total : gMi mX7_total 0 := ⟨ms_mX7_total, gG_6 180 (by decide +kernel) (by decide +kernel), gG_6 181 (by decide +kernel) (by decide +kernel)⟩
abbrev mX8_totalKin : gM := (yX8_totalKin, cX8_totalKin, 1, (Option.some Jvm.ClassFile.FieldType.int), none)
theorem ms_mX8_totalKin : gMs mX8_totalKin 0 := ⟨gG_1 2 (by decide +kernel) (by decide +kernel), gG_6 186 rfl rfl, by decide +kernel, by decide⟩
theorem mi_mX8_totalKin : gMi mX8_totalKin 0 := ⟨ms_mX8_totalKin, gG_6 184 (by decide +kernel) (by decide +kernel), gG_6 185 (by decide +kernel) (by decide +kernel)⟩
abbrev mX5_total : gM := (yX5_total, cX5_total, 1, (Option.some Jvm.ClassFile.FieldType.int), none)
theorem ms_mX5_total : gMs mX5_total 0 := ⟨gG_1 7 (by decide +kernel) (by decide +kernel), gG_6 192 rfl rfl, by decide +kernel, by decide⟩
theorem mi_mX5_total : gMi mX5_total 0 := ⟨ms_mX5_total, gG_6 190 (by decide +kernel) (by decide +kernel), gG_6 191 (by decide +kernel) (by decide +kernel)⟩
abbrev mX1_totalMatters : gM := (yX1_totalMatters, cX1_totalMatters, 1, (Option.some Jvm.ClassFile.FieldType.int), none)
theorem ms_mX1_totalMatters : gMs mX1_totalMatters 0 := ⟨gG_1 12 (by decide +kernel) (by decide +kernel), gG_6 196 rfl rfl, by decide +kernel, by decide⟩
theorem mi_mX1_totalMatters : gMi mX1_totalMatters 0 := ⟨ms_mX1_totalMatters, gG_6 194 (by decide +kernel) (by decide +kernel), gG_6 195 (by decide +kernel) (by decide +kernel)⟩
abbrev mX6_total : gM := (yX6_total, cX6_total, 1, (Option.some Jvm.ClassFile.FieldType.int), none)
theorem ms_mX6_total : gMs mX6_total 0 := ⟨gG_1 11 (by decide +kernel) (by decide +kernel), gG_6 200 rfl rfl, by decide +kernel, by decide⟩
theorem mi_mX6_total : gMi mX6_total 0 := ⟨ms_mX6_total, gG_6 198 (by decide +kernel) (by decide +kernel), gG_6 199 (by decide +kernel) (by decide +kernel)⟩
abbrev mX1_totalVotes : gM := (yX1_totalVotes, cX1_totalVotes, 1, (Option.some Jvm.ClassFile.FieldType.int), none)
theorem ms_mX1_totalVotes : gMs mX1_totalVotes 0 := ⟨gG_1 12 (by decide +kernel) (by decide +kernel), gG_6 204 rfl rfl, by decide +kernel, by decide⟩
theorem mi_mX1_totalVotes : gMi mX1_totalVotes 0 := ⟨ms_mX1_totalVotes, gG_6 202 (by decide +kernel) (by decide +kernel), gG_6 203 (by decide +kernel) (by decide +kernel)⟩
abbrev mX1_totalMembers : gM := (yX1_totalMembers, cX1_totalMembers, 1, (Option.some Jvm.ClassFile.FieldType.int), none)
theorem ms_mX1_totalMembers : gMs mX1_totalMembers 0 := ⟨gG_1 12 (by decide +kernel) (by decide +kernel), gG_6 208 rfl rfl, by decide +kernel, by decide⟩
theorem mi_mX1_totalMembers : gMi mX1_totalMembers 0 := ⟨ms_mX1_totalMembers, gG_6 206 (by decide +kernel) (by decide +kernel), gG_6 207 (by decide +kernel) (by decide +kernel)⟩
abbrev mL_octet : gM := (yL_octet, cL_octet, 4, (Option.some Jvm.ClassFile.FieldType.int), none)
abbrev mX11_octet : gM := (yX11_octet, cX11_octet, 2, (Option.some Jvm.ClassFile.FieldType.int), none)
theorem ms_mX11_octet : gMs mX11_octet 1 := ⟨gG_1 1 (by decide +kernel) (by decide +kernel), gG_6 216 rfl rfl, by decide +kernel, by decide⟩
theorem mi_mX11_octet : gMi mX11_octet 1 := ⟨ms_mX11_octet, gG_6 214 (by decide +kernel) (by decide +kernel), gG_6 215 (by decide +kernel) (by decide +kernel)⟩
abbrev mL_judged : gM := (yL_judged, cL_judged, 6, (Option.some Jvm.ClassFile.FieldType.int), none)
abbrev mX11_judged : gM := (yX11_judged, cX11_judged, 4, (Option.some Jvm.ClassFile.FieldType.int), none)
theorem ms_mX11_judged : gMs mX11_judged 3 := ⟨gG_1 1 (by decide +kernel) (by decide +kernel), gG_7 48 rfl rfl, by decide +kernel, by decide⟩
theorem mi_mX11_judged : gMi mX11_judged 3 := ⟨ms_mX11_judged, gG_7 46 (by decide +kernel) (by decide +kernel), gG_7 47 (by decide +kernel) (by decide +kernel)⟩
abbrev mX3_answerFor : gM := (yX3_answerFor, cX3_answerFor, 4, (Option.some Jvm.ClassFile.FieldType.int), none)
theorem ms_mX3_answerFor : gMs mX3_answerFor 3 := ⟨gG_1 10 (by decide +kernel) (by decide +kernel), gG_7 58 rfl rfl, by decide +kernel, by decide⟩
theorem mi_mX3_answerFor : gMi mX3_answerFor 3 := ⟨ms_mX3_answerFor, gG_7 56 (by decide +kernel) (by decide +kernel), gG_7 57 (by decide +kernel) (by decide +kernel)⟩
abbrev mL_entered : gM := (yL_entered, cL_entered, 6, (Option.some Jvm.ClassFile.FieldType.int), none)
abbrev mX11_entered : gM := (yX11_entered, cX11_entered, 5, (Option.some Jvm.ClassFile.FieldType.int), none)
theorem ms_mX11_entered : gMs mX11_entered 3 := ⟨gG_1 1 (by decide +kernel) (by decide +kernel), gG_7 65 rfl rfl, by decide +kernel, by decide⟩
theorem mi_mX11_entered : gMi mX11_entered 3 := ⟨ms_mX11_entered, gG_7 63 (by decide +kernel) (by decide +kernel), gG_7 64 (by decide +kernel) (by decide +kernel)⟩
abbrev mX6_bearersOf : gM := (yX6_bearersOf, cX6_bearersOf, 2, (Option.some Jvm.ClassFile.FieldType.int), none)
theorem ms_mX6_bearersOf : gMs mX6_bearersOf 1 := ⟨gG_1 11 (by decide +kernel) (by decide +kernel), gG_7 72 rfl rfl, by decide +kernel, by decide⟩
theorem mi_mX6_bearersOf : gMi mX6_bearersOf 1 := ⟨ms_mX6_bearersOf, gG_7 70 (by decide +kernel) (by decide +kernel), gG_7 71 (by decide +kernel) (by decide +kernel)⟩
abbrev mX8_peopleNamed : gM := (yX8_peopleNamed, cX8_peopleNamed, 5, (Option.some Jvm.ClassFile.FieldType.int), none)
theorem ms_mX8_peopleNamed : gMs mX8_peopleNamed 1 := ⟨gG_1 2 (by decide +kernel) (by decide +kernel), gG_7 76 rfl rfl, by decide +kernel, by decide⟩
theorem mi_mX8_peopleNamed : gMi mX8_peopleNamed 1 := ⟨ms_mX8_peopleNamed, gG_7 74 (by decide +kernel) (by decide +kernel), gG_7 75 (by decide +kernel) (by decide +kernel)⟩
abbrev mL_chance : gM := (yL_chance, cL_chance, 5, (Option.some Jvm.ClassFile.FieldType.int), none)
abbrev mX11_chance : gM := (yX11_chance, cX11_chance, 3, (Option.some Jvm.ClassFile.FieldType.long), none)
theorem ms_mX11_chance : gMs mX11_chance 2 := ⟨gG_1 1 (by decide +kernel) (by decide +kernel), gG_7 85 rfl rfl, by decide +kernel, by decide⟩
theorem mi_mX11_chance : gMi mX11_chance 2 := ⟨ms_mX11_chance, gG_7 83 (by decide +kernel) (by decide +kernel), gG_7 84 (by decide +kernel) (by decide +kernel)⟩
abbrev mX1_chanceOf : gM := (yX1_chanceOf, cX1_chanceOf, 12, (Option.some Jvm.ClassFile.FieldType.long), none)
theorem ms_mX1_chanceOf : gMs mX1_chanceOf 2 := ⟨gG_1 12 (by decide +kernel) (by decide +kernel), gG_7 90 rfl rfl, by decide +kernel, by decide⟩
theorem mi_mX1_chanceOf : gMi mX1_chanceOf 2 := ⟨ms_mX1_chanceOf, gG_7 88 (by decide +kernel) (by decide +kernel), gG_7 89 (by decide +kernel) (by decide +kernel)⟩
abbrev mX1_waysToTake : gM := (yX1_waysToTake, cX1_waysToTake, 5, (Option.some Jvm.ClassFile.FieldType.long), none)
theorem ms_mX1_waysToTake : gMs mX1_waysToTake 2 := ⟨gG_1 12 (by decide +kernel) (by decide +kernel), gG_7 94 rfl rfl, by decide +kernel, by decide⟩
theorem st_mX1_waysToTake : Cond.static yX1_waysToTake ∈ gG := gG_7 93 (by decide +kernel) (by decide +kernel)
abbrev mX1_commonDivisor : gM := (yX1_commonDivisor, cX1_commonDivisor, 11, (Option.some Jvm.ClassFile.FieldType.long), none)
theorem ms_mX1_commonDivisor : gMs mX1_commonDivisor 2 := ⟨gG_1 12 (by decide +kernel) (by decide +kernel), gG_7 97 rfl rfl, by decide +kernel, by decide⟩
theorem st_mX1_commonDivisor : Cond.static yX1_commonDivisor ∈ gG := gG_7 96 (by decide +kernel) (by decide +kernel)
abbrev mX12_init : gM := (yX12_init, cX12_init, 1, (Option.none : Option Jvm.ClassFile.FieldType), none)
theorem ms_mX12_init : gMs mX12_init 0 := ⟨gG_1 13 (by decide +kernel) (by decide +kernel), gG_7 102 rfl rfl, by decide +kernel, by decide⟩
theorem in_mX12_init : Cond.instanceMethod yX12_init ∈ gG := gG_7 101 (by decide +kernel) (by decide +kernel)
abbrev mX12_thrown : gM := (yX12_thrown, cX12_thrown, 1, (Option.some Jvm.ClassFile.FieldType.int), none)
theorem ms_mX12_thrown : gMs mX12_thrown 0 := ⟨gG_1 13 (by decide +kernel) (by decide +kernel), gG_8 216 rfl rfl, by decide +kernel, by decide⟩
theorem mi_mX12_thrown : gMi mX12_thrown 0 := ⟨ms_mX12_thrown, gG_8 214 (by decide +kernel) (by decide +kernel), gG_8 215 (by decide +kernel) (by decide +kernel)⟩
abbrev mX12_feed : gM := (yX12_feed, cX12_feed, 6, (Option.some Jvm.ClassFile.FieldType.int), none)
theorem ms_mX12_feed : gMs mX12_feed 5 := ⟨gG_1 13 (by decide +kernel) (by decide +kernel), gG_8 220 rfl rfl, by decide +kernel, by decide⟩
theorem mi_mX12_feed : gMi mX12_feed 5 := ⟨ms_mX12_feed, gG_8 218 (by decide +kernel) (by decide +kernel), gG_8 219 (by decide +kernel) (by decide +kernel)⟩
abbrev mX12_come : gM := (yX12_come, cX12_come, 3, (Option.none : Option Jvm.ClassFile.FieldType), none)
theorem ms_mX12_come : gMs mX12_come 1 := ⟨gG_1 13 (by decide +kernel) (by decide +kernel), gG_8 224 rfl rfl, by decide +kernel, by decide⟩
theorem mi_mX12_come : gMi mX12_come 1 := ⟨ms_mX12_come, gG_8 223 (by decide +kernel) (by decide +kernel), gG_s 49 (by decide +kernel) (by decide +kernel)⟩
abbrev mX12_end : gM := (yX12_end, cX12_end, 2, (Option.some Jvm.ClassFile.FieldType.boolean), none)
theorem ms_mX12_end : gMs mX12_end 1 := ⟨gG_1 13 (by decide +kernel) (by decide +kernel), gG_8 228 rfl rfl, by decide +kernel, by decide⟩
theorem mi_mX12_end : gMi mX12_end 1 := ⟨ms_mX12_end, gG_8 226 (by decide +kernel) (by decide +kernel), gG_8 227 (by decide +kernel) (by decide +kernel)⟩
abbrev mX12_next : gM := (yX12_next, cX12_next, 2, (Option.some Jvm.ClassFile.FieldType.int), none)
theorem ms_mX12_next : gMs mX12_next 1 := ⟨gG_1 13 (by decide +kernel) (by decide +kernel), gG_8 232 rfl rfl, by decide +kernel, by decide⟩
theorem mi_mX12_next : gMi mX12_next 1 := ⟨ms_mX12_next, gG_8 230 (by decide +kernel) (by decide +kernel), gG_8 231 (by decide +kernel) (by decide +kernel)⟩
abbrev mX12_isIn : gM := (yX12_isIn, cX12_isIn, 3, (Option.some Jvm.ClassFile.FieldType.boolean), none)
theorem ms_mX12_isIn : gMs mX12_isIn 3 := ⟨gG_1 13 (by decide +kernel) (by decide +kernel), gG_8 235 rfl rfl, by decide +kernel, by decide⟩
theorem st_mX12_isIn : Cond.static yX12_isIn ∈ gG := gG_8 234 (by decide +kernel) (by decide +kernel)
abbrev mX12_party : gM := (yX12_party, cX12_party, 4, (Option.some Jvm.ClassFile.FieldType.int), none)
theorem ms_mX12_party : gMs mX12_party 1 := ⟨gG_1 13 (by decide +kernel) (by decide +kernel), gG_8 239 rfl rfl, by decide +kernel, by decide⟩
theorem mi_mX12_party : gMi mX12_party 1 := ⟨ms_mX12_party, gG_8 237 (by decide +kernel) (by decide +kernel), gG_8 238 (by decide +kernel) (by decide +kernel)⟩
abbrev mX12_takeName : gM := (yX12_takeName, cX12_takeName, 5, (Option.some Jvm.ClassFile.FieldType.long), none)
theorem ms_mX12_takeName : gMs mX12_takeName 0 := ⟨gG_1 13 (by decide +kernel) (by decide +kernel), gG_9 3 rfl rfl, by decide +kernel, by decide⟩
theorem mi_mX12_takeName : gMi mX12_takeName 0 := ⟨ms_mX12_takeName, gG_9 2 (by decide +kernel) (by decide +kernel), gG_s 50 (by decide +kernel) (by decide +kernel)⟩
abbrev mX12_isLetter : gM := (yX12_isLetter, cX12_isLetter, 1, (Option.some Jvm.ClassFile.FieldType.boolean), none)
theorem ms_mX12_isLetter : gMs mX12_isLetter 1 := ⟨gG_1 13 (by decide +kernel) (by decide +kernel), gG_9 6 rfl rfl, by decide +kernel, by decide⟩
theorem st_mX12_isLetter : Cond.static yX12_isLetter ∈ gG := gG_9 5 (by decide +kernel) (by decide +kernel)
abbrev mX12_owns : gM := (yX12_owns, cX12_owns, 10, (Option.some Jvm.ClassFile.FieldType.int), none)
theorem ms_mX12_owns : gMs mX12_owns 5 := ⟨gG_1 13 (by decide +kernel) (by decide +kernel), gG_9 12 rfl rfl, by decide +kernel, by decide⟩
theorem mi_mX12_owns : gMi mX12_owns 5 := ⟨ms_mX12_owns, gG_9 10 (by decide +kernel) (by decide +kernel), gG_9 11 (by decide +kernel) (by decide +kernel)⟩
abbrev mX12_isParty : gM := (yX12_isParty, cX12_isParty, 2, (Option.some Jvm.ClassFile.FieldType.boolean), none)
theorem ms_mX12_isParty : gMs mX12_isParty 1 := ⟨gG_1 13 (by decide +kernel) (by decide +kernel), gG_9 16 rfl rfl, by decide +kernel, by decide⟩
theorem mi_mX12_isParty : gMi mX12_isParty 1 := ⟨ms_mX12_isParty, gG_9 15 (by decide +kernel) (by decide +kernel), gG_s 51 (by decide +kernel) (by decide +kernel)⟩
abbrev mX12_isHouse : gM := (yX12_isHouse, cX12_isHouse, 2, (Option.some Jvm.ClassFile.FieldType.boolean), none)
theorem ms_mX12_isHouse : gMs mX12_isHouse 1 := ⟨gG_1 13 (by decide +kernel) (by decide +kernel), gG_9 20 rfl rfl, by decide +kernel, by decide⟩
theorem mi_mX12_isHouse : gMi mX12_isHouse 1 := ⟨ms_mX12_isHouse, gG_9 19 (by decide +kernel) (by decide +kernel), gG_s 52 (by decide +kernel) (by decide +kernel)⟩
abbrev mX12_areDays : gM := (yX12_areDays, cX12_areDays, 3, (Option.some Jvm.ClassFile.FieldType.boolean), none)
theorem ms_mX12_areDays : gMs mX12_areDays 3 := ⟨gG_1 13 (by decide +kernel) (by decide +kernel), gG_9 23 rfl rfl, by decide +kernel, by decide⟩
theorem st_mX12_areDays : Cond.static yX12_areDays ∈ gG := gG_9 22 (by decide +kernel) (by decide +kernel)
abbrev mX12_isDay : gM := (yX12_isDay, cX12_isDay, 1, (Option.some Jvm.ClassFile.FieldType.boolean), none)
theorem ms_mX12_isDay : gMs mX12_isDay 1 := ⟨gG_1 13 (by decide +kernel) (by decide +kernel), gG_9 26 rfl rfl, by decide +kernel, by decide⟩
theorem st_mX12_isDay : Cond.static yX12_isDay ∈ gG := gG_9 25 (by decide +kernel) (by decide +kernel)
abbrev mX12_allOn : gM := (yX12_allOn, cX12_allOn, 5, (Option.some Jvm.ClassFile.FieldType.int), none)
theorem ms_mX12_allOn : gMs mX12_allOn 2 := ⟨gG_1 13 (by decide +kernel) (by decide +kernel), gG_9 31 rfl rfl, by decide +kernel, by decide⟩
theorem mi_mX12_allOn : gMi mX12_allOn 2 := ⟨ms_mX12_allOn, gG_9 30 (by decide +kernel) (by decide +kernel), gG_s 53 (by decide +kernel) (by decide +kernel)⟩
abbrev mX12_isOn : gM := (yX12_isOn, cX12_isOn, 3, (Option.some Jvm.ClassFile.FieldType.boolean), none)
theorem ms_mX12_isOn : gMs mX12_isOn 3 := ⟨gG_1 13 (by decide +kernel) (by decide +kernel), gG_9 34 rfl rfl, by decide +kernel, by decide⟩
theorem st_mX12_isOn : Cond.static yX12_isOn ∈ gG := gG_9 33 (by decide +kernel) (by decide +kernel)
abbrev mX12_kin : gM := (yX12_kin, cX12_kin, 5, (Option.some Jvm.ClassFile.FieldType.int), none)
theorem ms_mX12_kin : gMs mX12_kin 4 := ⟨gG_1 13 (by decide +kernel) (by decide +kernel), gG_9 38 rfl rfl, by decide +kernel, by decide⟩
theorem mi_mX12_kin : gMi mX12_kin 4 := ⟨ms_mX12_kin, gG_9 36 (by decide +kernel) (by decide +kernel), gG_9 37 (by decide +kernel) (by decide +kernel)⟩
abbrev mX12_isPerson : gM := (yX12_isPerson, cX12_isPerson, 2, (Option.some Jvm.ClassFile.FieldType.boolean), none)
theorem ms_mX12_isPerson : gMs mX12_isPerson 1 := ⟨gG_1 13 (by decide +kernel) (by decide +kernel), gG_9 42 rfl rfl, by decide +kernel, by decide⟩
theorem mi_mX12_isPerson : gMi mX12_isPerson 1 := ⟨ms_mX12_isPerson, gG_9 41 (by decide +kernel) (by decide +kernel), gG_s 54 (by decide +kernel) (by decide +kernel)⟩
abbrev mX12_post : gM := (yX12_post, cX12_post, 5, (Option.some Jvm.ClassFile.FieldType.int), none)
theorem ms_mX12_post : gMs mX12_post 4 := ⟨gG_1 13 (by decide +kernel) (by decide +kernel), gG_9 46 rfl rfl, by decide +kernel, by decide⟩
theorem mi_mX12_post : gMi mX12_post 4 := ⟨ms_mX12_post, gG_9 44 (by decide +kernel) (by decide +kernel), gG_9 45 (by decide +kernel) (by decide +kernel)⟩
abbrev mX12_gift : gM := (yX12_gift, cX12_gift, 8, (Option.some Jvm.ClassFile.FieldType.int), none)
theorem ms_mX12_gift : gMs mX12_gift 7 := ⟨gG_1 13 (by decide +kernel) (by decide +kernel), gG_9 50 rfl rfl, by decide +kernel, by decide⟩
theorem mi_mX12_gift : gMi mX12_gift 7 := ⟨ms_mX12_gift, gG_9 48 (by decide +kernel) (by decide +kernel), gG_9 49 (by decide +kernel) (by decide +kernel)⟩
abbrev mX12_isWorth : gM := (yX12_isWorth, cX12_isWorth, 2, (Option.some Jvm.ClassFile.FieldType.boolean), none)
theorem ms_mX12_isWorth : gMs mX12_isWorth 2 := ⟨gG_1 13 (by decide +kernel) (by decide +kernel), gG_9 53 rfl rfl, by decide +kernel, by decide⟩
theorem st_mX12_isWorth : Cond.static yX12_isWorth ∈ gG := gG_9 52 (by decide +kernel) (by decide +kernel)
abbrev mX12_worth : gM := (yX12_worth, cX12_worth, 4, (Option.some Jvm.ClassFile.FieldType.boolean), none)
theorem ms_mX12_worth : gMs mX12_worth 3 := ⟨gG_1 13 (by decide +kernel) (by decide +kernel), gG_9 58 rfl rfl, by decide +kernel, by decide⟩
theorem mi_mX12_worth : gMi mX12_worth 3 := ⟨ms_mX12_worth, gG_9 56 (by decide +kernel) (by decide +kernel), gG_9 57 (by decide +kernel) (by decide +kernel)⟩
abbrev mX12_isGift : gM := (yX12_isGift, cX12_isGift, 2, (Option.some Jvm.ClassFile.FieldType.boolean), none)
theorem ms_mX12_isGift : gMs mX12_isGift 1 := ⟨gG_1 13 (by decide +kernel) (by decide +kernel), gG_9 62 rfl rfl, by decide +kernel, by decide⟩
theorem mi_mX12_isGift : gMi mX12_isGift 1 := ⟨ms_mX12_isGift, gG_9 61 (by decide +kernel) (by decide +kernel), gG_s 55 (by decide +kernel) (by decide +kernel)⟩
abbrev mX12_back : gM := (yX12_back, cX12_back, 3, (Option.some Jvm.ClassFile.FieldType.boolean), none)
theorem ms_mX12_back : gMs mX12_back 2 := ⟨gG_1 13 (by decide +kernel) (by decide +kernel), gG_9 66 rfl rfl, by decide +kernel, by decide⟩
theorem mi_mX12_back : gMi mX12_back 2 := ⟨ms_mX12_back, gG_9 64 (by decide +kernel) (by decide +kernel), gG_9 65 (by decide +kernel) (by decide +kernel)⟩
abbrev mX12_tell : gM := (yX12_tell, cX12_tell, 2, (Option.some Jvm.ClassFile.FieldType.boolean), none)
theorem ms_mX12_tell : gMs mX12_tell 1 := ⟨gG_1 13 (by decide +kernel) (by decide +kernel), gG_9 70 rfl rfl, by decide +kernel, by decide⟩
theorem mi_mX12_tell : gMi mX12_tell 1 := ⟨ms_mX12_tell, gG_9 68 (by decide +kernel) (by decide +kernel), gG_9 69 (by decide +kernel) (by decide +kernel)⟩
abbrev mX12_part : gM := (yX12_part, cX12_part, 5, (Option.some Jvm.ClassFile.FieldType.long), none)
theorem ms_mX12_part : gMs mX12_part 4 := ⟨gG_1 13 (by decide +kernel) (by decide +kernel), gG_9 74 rfl rfl, by decide +kernel, by decide⟩
theorem mi_mX12_part : gMi mX12_part 4 := ⟨ms_mX12_part, gG_9 72 (by decide +kernel) (by decide +kernel), gG_9 73 (by decide +kernel) (by decide +kernel)⟩
abbrev mX12_areParties : gM := (yX12_areParties, cX12_areParties, 3, (Option.some Jvm.ClassFile.FieldType.boolean), none)
theorem ms_mX12_areParties : gMs mX12_areParties 2 := ⟨gG_1 13 (by decide +kernel) (by decide +kernel), gG_9 78 rfl rfl, by decide +kernel, by decide⟩
theorem mi_mX12_areParties : gMi mX12_areParties 2 := ⟨ms_mX12_areParties, gG_9 77 (by decide +kernel) (by decide +kernel), gG_s 56 (by decide +kernel) (by decide +kernel)⟩
abbrev mX12_work : gM := (yX12_work, cX12_work, 4, (Option.none : Option Jvm.ClassFile.FieldType), none)
theorem ms_mX12_work : gMs mX12_work 2 := ⟨gG_1 13 (by decide +kernel) (by decide +kernel), gG_9 83 rfl rfl, by decide +kernel, by decide⟩
theorem mi_mX12_work : gMi mX12_work 2 := ⟨ms_mX12_work, gG_9 82 (by decide +kernel) (by decide +kernel), gG_s 57 (by decide +kernel) (by decide +kernel)⟩
abbrev mX12_spread : gM := (yX12_spread, cX12_spread, 6, (Option.none : Option Jvm.ClassFile.FieldType), none)
theorem ms_mX12_spread : gMs mX12_spread 1 := ⟨gG_1 13 (by decide +kernel) (by decide +kernel), gG_9 87 rfl rfl, by decide +kernel, by decide⟩
theorem mi_mX12_spread : gMi mX12_spread 1 := ⟨ms_mX12_spread, gG_9 86 (by decide +kernel) (by decide +kernel), gG_s 58 (by decide +kernel) (by decide +kernel)⟩
abbrev mX12_at : gM := (yX12_at, cX12_at, 3, (Option.some Jvm.ClassFile.FieldType.int), none)
theorem ms_mX12_at : gMs mX12_at 2 := ⟨gG_1 13 (by decide +kernel) (by decide +kernel), gG_9 91 rfl rfl, by decide +kernel, by decide⟩
theorem mi_mX12_at : gMi mX12_at 2 := ⟨ms_mX12_at, gG_9 90 (by decide +kernel) (by decide +kernel), gG_s 59 (by decide +kernel) (by decide +kernel)⟩
abbrev mX12_headOf : gM := (yX12_headOf, cX12_headOf, 4, (Option.some Jvm.ClassFile.FieldType.int), none)
theorem ms_mX12_headOf : gMs mX12_headOf 1 := ⟨gG_1 13 (by decide +kernel) (by decide +kernel), gG_9 95 rfl rfl, by decide +kernel, by decide⟩
theorem mi_mX12_headOf : gMi mX12_headOf 1 := ⟨ms_mX12_headOf, gG_9 94 (by decide +kernel) (by decide +kernel), gG_s 60 (by decide +kernel) (by decide +kernel)⟩
abbrev mX12_isControlled : gM := (yX12_isControlled, cX12_isControlled, 3, (Option.some Jvm.ClassFile.FieldType.boolean), none)
theorem ms_mX12_isControlled : gMs mX12_isControlled 1 := ⟨gG_1 13 (by decide +kernel) (by decide +kernel), gG_9 99 rfl rfl, by decide +kernel, by decide⟩
theorem mi_mX12_isControlled : gMi mX12_isControlled 1 := ⟨ms_mX12_isControlled, gG_9 98 (by decide +kernel) (by decide +kernel), gG_s 61 (by decide +kernel) (by decide +kernel)⟩
abbrev mX12_partOf : gM := (yX12_partOf, cX12_partOf, 12, (Option.some Jvm.ClassFile.FieldType.long), none)
theorem ms_mX12_partOf : gMs mX12_partOf 2 := ⟨gG_1 13 (by decide +kernel) (by decide +kernel), gG_9 103 rfl rfl, by decide +kernel, by decide⟩
theorem mi_mX12_partOf : gMi mX12_partOf 2 := ⟨ms_mX12_partOf, gG_9 102 (by decide +kernel) (by decide +kernel), gG_s 62 (by decide +kernel) (by decide +kernel)⟩
abbrev mX12_chain : gM := (yX12_chain, cX12_chain, 13, (Option.some Jvm.ClassFile.FieldType.int), none)
theorem ms_mX12_chain : gMs mX12_chain 4 := ⟨gG_1 13 (by decide +kernel) (by decide +kernel), gG_9 110 rfl rfl, by decide +kernel, by decide⟩
theorem mi_mX12_chain : gMi mX12_chain 4 := ⟨ms_mX12_chain, gG_9 108 (by decide +kernel) (by decide +kernel), gG_9 109 (by decide +kernel) (by decide +kernel)⟩
abbrev mX12_keep : gM := (yX12_keep, cX12_keep, 9, (Option.none : Option Jvm.ClassFile.FieldType), none)
theorem ms_mX12_keep : gMs mX12_keep 7 := ⟨gG_1 13 (by decide +kernel) (by decide +kernel), gG_9 114 rfl rfl, by decide +kernel, by decide⟩
theorem mi_mX12_keep : gMi mX12_keep 7 := ⟨ms_mX12_keep, gG_9 113 (by decide +kernel) (by decide +kernel), gG_s 63 (by decide +kernel) (by decide +kernel)⟩
abbrev mX12_octet : gM := (yX12_octet, cX12_octet, 2, (Option.some Jvm.ClassFile.FieldType.int), none)
theorem ms_mX12_octet : gMs mX12_octet 1 := ⟨gG_1 13 (by decide +kernel) (by decide +kernel), gG_9 118 rfl rfl, by decide +kernel, by decide⟩
theorem mi_mX12_octet : gMi mX12_octet 1 := ⟨ms_mX12_octet, gG_9 116 (by decide +kernel) (by decide +kernel), gG_9 117 (by decide +kernel) (by decide +kernel)⟩
abbrev mX12_refuse : gM := (yX12_refuse, cX12_refuse, 1, (Option.some Jvm.ClassFile.FieldType.int), none)
theorem ms_mX12_refuse : gMs mX12_refuse 0 := ⟨gG_1 13 (by decide +kernel) (by decide +kernel), gG_9 122 rfl rfl, by decide +kernel, by decide⟩
theorem mi_mX12_refuse : gMi mX12_refuse 0 := ⟨ms_mX12_refuse, gG_9 121 (by decide +kernel) (by decide +kernel), gG_s 64 (by decide +kernel) (by decide +kernel)⟩
abbrev mX12_head : gM := (yX12_head, cX12_head, 4, (Option.some Jvm.ClassFile.FieldType.int), none)
theorem ms_mX12_head : gMs mX12_head 3 := ⟨gG_1 13 (by decide +kernel) (by decide +kernel), gG_9 126 rfl rfl, by decide +kernel, by decide⟩
theorem mi_mX12_head : gMi mX12_head 3 := ⟨ms_mX12_head, gG_9 124 (by decide +kernel) (by decide +kernel), gG_9 125 (by decide +kernel) (by decide +kernel)⟩
abbrev mX12_degree : gM := (yX12_degree, cX12_degree, 5, (Option.some Jvm.ClassFile.FieldType.int), none)
theorem ms_mX12_degree : gMs mX12_degree 4 := ⟨gG_1 13 (by decide +kernel) (by decide +kernel), gG_9 130 rfl rfl, by decide +kernel, by decide⟩
theorem mi_mX12_degree : gMi mX12_degree 4 := ⟨ms_mX12_degree, gG_9 128 (by decide +kernel) (by decide +kernel), gG_9 129 (by decide +kernel) (by decide +kernel)⟩
abbrev mX12_reach : gM := (yX12_reach, cX12_reach, 6, (Option.none : Option Jvm.ClassFile.FieldType), none)
theorem ms_mX12_reach : gMs mX12_reach 3 := ⟨gG_1 13 (by decide +kernel) (by decide +kernel), gG_9 134 rfl rfl, by decide +kernel, by decide⟩
theorem mi_mX12_reach : gMi mX12_reach 3 := ⟨ms_mX12_reach, gG_9 133 (by decide +kernel) (by decide +kernel), gG_s 65 (by decide +kernel) (by decide +kernel)⟩
abbrev mX12_law : gM := (yX12_law, cX12_law, 5, (Option.some Jvm.ClassFile.FieldType.int), none)
theorem ms_mX12_law : gMs mX12_law 1 := ⟨gG_1 13 (by decide +kernel) (by decide +kernel), gG_9 138 rfl rfl, by decide +kernel, by decide⟩
theorem mi_mX12_law : gMi mX12_law 1 := ⟨ms_mX12_law, gG_9 136 (by decide +kernel) (by decide +kernel), gG_9 137 (by decide +kernel) (by decide +kernel)⟩
abbrev mX12_go : gM := (yX12_go, cX12_go, 5, (Option.none : Option Jvm.ClassFile.FieldType), none)
theorem ms_mX12_go : gMs mX12_go 0 := ⟨gG_1 13 (by decide +kernel) (by decide +kernel), gG_9 142 rfl rfl, by decide +kernel, by decide⟩
theorem mi_mX12_go : gMi mX12_go 0 := ⟨ms_mX12_go, gG_9 141 (by decide +kernel) (by decide +kernel), gG_s 66 (by decide +kernel) (by decide +kernel)⟩
abbrev mX12_isDigit : gM := (yX12_isDigit, cX12_isDigit, 1, (Option.some Jvm.ClassFile.FieldType.boolean), none)
theorem ms_mX12_isDigit : gMs mX12_isDigit 1 := ⟨gG_1 13 (by decide +kernel) (by decide +kernel), gG_9 145 rfl rfl, by decide +kernel, by decide⟩
theorem st_mX12_isDigit : Cond.static yX12_isDigit ∈ gG := gG_9 144 (by decide +kernel) (by decide +kernel)
abbrev mX12_byteAt : gM := (yX12_byteAt, cX12_byteAt, 2, (Option.some Jvm.ClassFile.FieldType.int), none)
theorem ms_mX12_byteAt : gMs mX12_byteAt 1 := ⟨gG_1 13 (by decide +kernel) (by decide +kernel), gG_9 149 rfl rfl, by decide +kernel, by decide⟩
theorem mi_mX12_byteAt : gMi mX12_byteAt 1 := ⟨ms_mX12_byteAt, gG_9 148 (by decide +kernel) (by decide +kernel), gG_s 67 (by decide +kernel) (by decide +kernel)⟩
abbrev mX12_readRule : gM := (yX12_readRule, cX12_readRule, 5, (Option.some Jvm.ClassFile.FieldType.boolean), none)
theorem ms_mX12_readRule : gMs mX12_readRule 0 := ⟨gG_1 13 (by decide +kernel) (by decide +kernel), gG_9 153 rfl rfl, by decide +kernel, by decide⟩
theorem mi_mX12_readRule : gMi mX12_readRule 0 := ⟨ms_mX12_readRule, gG_9 152 (by decide +kernel) (by decide +kernel), gG_s 68 (by decide +kernel) (by decide +kernel)⟩
abbrev mX12_spelt : gM := (yX12_spelt, cX12_spelt, 8, (Option.some Jvm.ClassFile.FieldType.long), none)
theorem ms_mX12_spelt : gMs mX12_spelt 6 := ⟨gG_1 13 (by decide +kernel) (by decide +kernel), gG_9 156 rfl rfl, by decide +kernel, by decide⟩
theorem st_mX12_spelt : Cond.static yX12_spelt ∈ gG := gG_9 155 (by decide +kernel) (by decide +kernel)
abbrev mX12_isKey : gM := (yX12_isKey, cX12_isKey, 3, (Option.some Jvm.ClassFile.FieldType.boolean), none)
theorem ms_mX12_isKey : gMs mX12_isKey 1 := ⟨gG_1 13 (by decide +kernel) (by decide +kernel), gG_9 160 rfl rfl, by decide +kernel, by decide⟩
theorem mi_mX12_isKey : gMi mX12_isKey 1 := ⟨ms_mX12_isKey, gG_9 159 (by decide +kernel) (by decide +kernel), gG_s 69 (by decide +kernel) (by decide +kernel)⟩
abbrev mX12_readTell : gM := (yX12_readTell, cX12_readTell, 2, (Option.some Jvm.ClassFile.FieldType.boolean), none)
theorem ms_mX12_readTell : gMs mX12_readTell 0 := ⟨gG_1 13 (by decide +kernel) (by decide +kernel), gG_9 164 rfl rfl, by decide +kernel, by decide⟩
theorem mi_mX12_readTell : gMi mX12_readTell 0 := ⟨ms_mX12_readTell, gG_9 163 (by decide +kernel) (by decide +kernel), gG_s 70 (by decide +kernel) (by decide +kernel)⟩
abbrev mX12_bad : gM := (yX12_bad, cX12_bad, 2, (Option.some Jvm.ClassFile.FieldType.boolean), none)
theorem ms_mX12_bad : gMs mX12_bad 1 := ⟨gG_1 13 (by decide +kernel) (by decide +kernel), gG_9 168 rfl rfl, by decide +kernel, by decide⟩
theorem mi_mX12_bad : gMi mX12_bad 1 := ⟨ms_mX12_bad, gG_9 167 (by decide +kernel) (by decide +kernel), gG_s 71 (by decide +kernel) (by decide +kernel)⟩
abbrev mX12_readNumber : gM := (yX12_readNumber, cX12_readNumber, 3, (Option.some Jvm.ClassFile.FieldType.boolean), none)
theorem ms_mX12_readNumber : gMs mX12_readNumber 2 := ⟨gG_1 13 (by decide +kernel) (by decide +kernel), gG_9 172 rfl rfl, by decide +kernel, by decide⟩
theorem mi_mX12_readNumber : gMi mX12_readNumber 2 := ⟨ms_mX12_readNumber, gG_9 171 (by decide +kernel) (by decide +kernel), gG_s 72 (by decide +kernel) (by decide +kernel)⟩
abbrev mX12_readIf : gM := (yX12_readIf, cX12_readIf, 2, (Option.some Jvm.ClassFile.FieldType.boolean), none)
theorem ms_mX12_readIf : gMs mX12_readIf 1 := ⟨gG_1 13 (by decide +kernel) (by decide +kernel), gG_9 176 rfl rfl, by decide +kernel, by decide⟩
theorem mi_mX12_readIf : gMi mX12_readIf 1 := ⟨ms_mX12_readIf, gG_9 175 (by decide +kernel) (by decide +kernel), gG_s 73 (by decide +kernel) (by decide +kernel)⟩
abbrev mX12_readCond : gM := (yX12_readCond, cX12_readCond, 4, (Option.some Jvm.ClassFile.FieldType.boolean), none)
theorem ms_mX12_readCond : gMs mX12_readCond 2 := ⟨gG_1 13 (by decide +kernel) (by decide +kernel), gG_9 180 rfl rfl, by decide +kernel, by decide⟩
theorem mi_mX12_readCond : gMi mX12_readCond 2 := ⟨ms_mX12_readCond, gG_9 179 (by decide +kernel) (by decide +kernel), gG_s 74 (by decide +kernel) (by decide +kernel)⟩
abbrev mX12_readOne : gM := (yX12_readOne, cX12_readOne, 6, (Option.some Jvm.ClassFile.FieldType.boolean), none)
theorem ms_mX12_readOne : gMs mX12_readOne 1 := ⟨gG_1 13 (by decide +kernel) (by decide +kernel), gG_9 184 rfl rfl, by decide +kernel, by decide⟩
theorem mi_mX12_readOne : gMi mX12_readOne 1 := ⟨ms_mX12_readOne, gG_9 183 (by decide +kernel) (by decide +kernel), gG_s 75 (by decide +kernel) (by decide +kernel)⟩
abbrev mX12_atomAtHand : gM := (yX12_atomAtHand, cX12_atomAtHand, 2, (Option.some Jvm.ClassFile.FieldType.int), none)
theorem ms_mX12_atomAtHand : gMs mX12_atomAtHand 1 := ⟨gG_1 13 (by decide +kernel) (by decide +kernel), gG_9 188 rfl rfl, by decide +kernel, by decide⟩
theorem mi_mX12_atomAtHand : gMi mX12_atomAtHand 1 := ⟨ms_mX12_atomAtHand, gG_9 187 (by decide +kernel) (by decide +kernel), gG_s 76 (by decide +kernel) (by decide +kernel)⟩
abbrev mX12_isSign : gM := (yX12_isSign, cX12_isSign, 2, (Option.some Jvm.ClassFile.FieldType.boolean), none)
theorem ms_mX12_isSign : gMs mX12_isSign 1 := ⟨gG_1 13 (by decide +kernel) (by decide +kernel), gG_9 195 rfl rfl, by decide +kernel, by decide⟩
theorem mi_mX12_isSign : gMi mX12_isSign 1 := ⟨ms_mX12_isSign, gG_9 194 (by decide +kernel) (by decide +kernel), gG_s 77 (by decide +kernel) (by decide +kernel)⟩
abbrev mX12_push : gM := (yX12_push, cX12_push, 2, (Option.none : Option Jvm.ClassFile.FieldType), none)
theorem ms_mX12_push : gMs mX12_push 1 := ⟨gG_1 13 (by decide +kernel) (by decide +kernel), gG_9 199 rfl rfl, by decide +kernel, by decide⟩
theorem mi_mX12_push : gMi mX12_push 1 := ⟨ms_mX12_push, gG_9 198 (by decide +kernel) (by decide +kernel), gG_s 78 (by decide +kernel) (by decide +kernel)⟩
abbrev mX12_isMeasured : gM := (yX12_isMeasured, cX12_isMeasured, 1, (Option.some Jvm.ClassFile.FieldType.boolean), none)
theorem ms_mX12_isMeasured : gMs mX12_isMeasured 1 := ⟨gG_1 13 (by decide +kernel) (by decide +kernel), gG_9 202 rfl rfl, by decide +kernel, by decide⟩
theorem st_mX12_isMeasured : Cond.static yX12_isMeasured ∈ gG := gG_9 201 (by decide +kernel) (by decide +kernel)
abbrev mX12_emit : gM := (yX12_emit, cX12_emit, 2, (Option.none : Option Jvm.ClassFile.FieldType), none)
theorem ms_mX12_emit : gMs mX12_emit 1 := ⟨gG_1 13 (by decide +kernel) (by decide +kernel), gG_9 206 rfl rfl, by decide +kernel, by decide⟩
theorem mi_mX12_emit : gMi mX12_emit 1 := ⟨ms_mX12_emit, gG_9 205 (by decide +kernel) (by decide +kernel), gG_s 79 (by decide +kernel) (by decide +kernel)⟩
abbrev mX12_turnNots : gM := (yX12_turnNots, cX12_turnNots, 1, (Option.none : Option Jvm.ClassFile.FieldType), none)
theorem ms_mX12_turnNots : gMs mX12_turnNots 0 := ⟨gG_1 13 (by decide +kernel) (by decide +kernel), gG_9 210 rfl rfl, by decide +kernel, by decide⟩
theorem mi_mX12_turnNots : gMi mX12_turnNots 0 := ⟨ms_mX12_turnNots, gG_9 209 (by decide +kernel) (by decide +kernel), gG_s 80 (by decide +kernel) (by decide +kernel)⟩
abbrev mX12_drop : gM := (yX12_drop, cX12_drop, 1, (Option.none : Option Jvm.ClassFile.FieldType), none)
theorem ms_mX12_drop : gMs mX12_drop 0 := ⟨gG_1 13 (by decide +kernel) (by decide +kernel), gG_9 214 rfl rfl, by decide +kernel, by decide⟩
theorem mi_mX12_drop : gMi mX12_drop 0 := ⟨ms_mX12_drop, gG_9 213 (by decide +kernel) (by decide +kernel), gG_s 81 (by decide +kernel) (by decide +kernel)⟩
abbrev mX12_numberAtHand : gM := (yX12_numberAtHand, cX12_numberAtHand, 1, (Option.some Jvm.ClassFile.FieldType.int), none)
theorem ms_mX12_numberAtHand : gMs mX12_numberAtHand 0 := ⟨gG_1 13 (by decide +kernel) (by decide +kernel), gG_9 218 rfl rfl, by decide +kernel, by decide⟩
theorem mi_mX12_numberAtHand : gMi mX12_numberAtHand 0 := ⟨ms_mX12_numberAtHand, gG_9 217 (by decide +kernel) (by decide +kernel), gG_s 82 (by decide +kernel) (by decide +kernel)⟩
abbrev mX12_fault : gM := (yX12_fault, cX12_fault, 1, (Option.some Jvm.ClassFile.FieldType.int), none)
theorem ms_mX12_fault : gMs mX12_fault 0 := ⟨gG_1 13 (by decide +kernel) (by decide +kernel), gG_9 222 rfl rfl, by decide +kernel, by decide⟩
theorem mi_mX12_fault : gMi mX12_fault 0 := ⟨ms_mX12_fault, gG_9 220 (by decide +kernel) (by decide +kernel), gG_9 221 (by decide +kernel) (by decide +kernel)⟩
abbrev mX12_judged : gM := (yX12_judged, cX12_judged, 4, (Option.some Jvm.ClassFile.FieldType.int), none)
theorem ms_mX12_judged : gMs mX12_judged 3 := ⟨gG_1 13 (by decide +kernel) (by decide +kernel), gG_9 226 rfl rfl, by decide +kernel, by decide⟩
theorem mi_mX12_judged : gMi mX12_judged 3 := ⟨ms_mX12_judged, gG_9 224 (by decide +kernel) (by decide +kernel), gG_9 225 (by decide +kernel) (by decide +kernel)⟩
abbrev mX12_isKnown : gM := (yX12_isKnown, cX12_isKnown, 3, (Option.some Jvm.ClassFile.FieldType.boolean), none)
theorem ms_mX12_isKnown : gMs mX12_isKnown 2 := ⟨gG_1 13 (by decide +kernel) (by decide +kernel), gG_9 230 rfl rfl, by decide +kernel, by decide⟩
theorem mi_mX12_isKnown : gMi mX12_isKnown 2 := ⟨ms_mX12_isKnown, gG_9 229 (by decide +kernel) (by decide +kernel), gG_s 83 (by decide +kernel) (by decide +kernel)⟩
abbrev mX12_judge : gM := (yX12_judge, cX12_judge, 8, (Option.none : Option Jvm.ClassFile.FieldType), none)
theorem ms_mX12_judge : gMs mX12_judge 2 := ⟨gG_1 13 (by decide +kernel) (by decide +kernel), gG_9 234 rfl rfl, by decide +kernel, by decide⟩
theorem mi_mX12_judge : gMi mX12_judge 2 := ⟨ms_mX12_judge, gG_9 233 (by decide +kernel) (by decide +kernel), gG_s 84 (by decide +kernel) (by decide +kernel)⟩
abbrev mX12_lawFor : gM := (yX12_lawFor, cX12_lawFor, 5, (Option.some Jvm.ClassFile.FieldType.int), none)
theorem ms_mX12_lawFor : gMs mX12_lawFor 2 := ⟨gG_1 13 (by decide +kernel) (by decide +kernel), gG_9 238 rfl rfl, by decide +kernel, by decide⟩
theorem mi_mX12_lawFor : gMi mX12_lawFor 2 := ⟨ms_mX12_lawFor, gG_9 237 (by decide +kernel) (by decide +kernel), gG_s 85 (by decide +kernel) (by decide +kernel)⟩
abbrev mX12_gather : gM := (yX12_gather, cX12_gather, 8, (Option.none : Option Jvm.ClassFile.FieldType), none)
theorem ms_mX12_gather : gMs mX12_gather 5 := ⟨gG_1 13 (by decide +kernel) (by decide +kernel), gG_10 2 rfl rfl, by decide +kernel, by decide⟩
theorem mi_mX12_gather : gMi mX12_gather 5 := ⟨ms_mX12_gather, gG_10 1 (by decide +kernel) (by decide +kernel), gG_s 86 (by decide +kernel) (by decide +kernel)⟩
abbrev mX12_numberOf : gM := (yX12_numberOf, cX12_numberOf, 3, (Option.some Jvm.ClassFile.FieldType.int), none)
theorem ms_mX12_numberOf : gMs mX12_numberOf 2 := ⟨gG_1 13 (by decide +kernel) (by decide +kernel), gG_10 6 rfl rfl, by decide +kernel, by decide⟩
theorem mi_mX12_numberOf : gMi mX12_numberOf 2 := ⟨ms_mX12_numberOf, gG_10 5 (by decide +kernel) (by decide +kernel), gG_s 87 (by decide +kernel) (by decide +kernel)⟩
abbrev mX12_backOf : gM := (yX12_backOf, cX12_backOf, 3, (Option.some Jvm.ClassFile.FieldType.int), none)
theorem ms_mX12_backOf : gMs mX12_backOf 2 := ⟨gG_1 13 (by decide +kernel) (by decide +kernel), gG_10 10 rfl rfl, by decide +kernel, by decide⟩
theorem mi_mX12_backOf : gMi mX12_backOf 2 := ⟨ms_mX12_backOf, gG_10 9 (by decide +kernel) (by decide +kernel), gG_s 88 (by decide +kernel) (by decide +kernel)⟩
abbrev mX12_leastOf : gM := (yX12_leastOf, cX12_leastOf, 5, (Option.some Jvm.ClassFile.FieldType.int), none)
theorem ms_mX12_leastOf : gMs mX12_leastOf 2 := ⟨gG_1 13 (by decide +kernel) (by decide +kernel), gG_10 14 rfl rfl, by decide +kernel, by decide⟩
theorem mi_mX12_leastOf : gMi mX12_leastOf 2 := ⟨ms_mX12_leastOf, gG_10 13 (by decide +kernel) (by decide +kernel), gG_s 89 (by decide +kernel) (by decide +kernel)⟩
abbrev mX12_mostOf : gM := (yX12_mostOf, cX12_mostOf, 5, (Option.some Jvm.ClassFile.FieldType.int), none)
theorem ms_mX12_mostOf : gMs mX12_mostOf 2 := ⟨gG_1 13 (by decide +kernel) (by decide +kernel), gG_10 18 rfl rfl, by decide +kernel, by decide⟩
theorem mi_mX12_mostOf : gMi mX12_mostOf 2 := ⟨ms_mX12_mostOf, gG_10 17 (by decide +kernel) (by decide +kernel), gG_s 90 (by decide +kernel) (by decide +kernel)⟩
abbrev mX12_holds : gM := (yX12_holds, cX12_holds, 6, (Option.some Jvm.ClassFile.FieldType.boolean), none)
theorem ms_mX12_holds : gMs mX12_holds 2 := ⟨gG_1 13 (by decide +kernel) (by decide +kernel), gG_10 22 rfl rfl, by decide +kernel, by decide⟩
theorem mi_mX12_holds : gMi mX12_holds 2 := ⟨ms_mX12_holds, gG_10 21 (by decide +kernel) (by decide +kernel), gG_s 91 (by decide +kernel) (by decide +kernel)⟩
abbrev mX12_holdsPiece : gM := (yX12_holdsPiece, cX12_holdsPiece, 3, (Option.some Jvm.ClassFile.FieldType.boolean), none)
theorem ms_mX12_holdsPiece : gMs mX12_holdsPiece 1 := ⟨gG_1 13 (by decide +kernel) (by decide +kernel), gG_10 26 rfl rfl, by decide +kernel, by decide⟩
theorem mi_mX12_holdsPiece : gMi mX12_holdsPiece 1 := ⟨ms_mX12_holdsPiece, gG_10 25 (by decide +kernel) (by decide +kernel), gG_s 92 (by decide +kernel) (by decide +kernel)⟩
abbrev mX12_stateOf : gM := (yX12_stateOf, cX12_stateOf, 4, (Option.some Jvm.ClassFile.FieldType.int), none)
theorem ms_mX12_stateOf : gMs mX12_stateOf 2 := ⟨gG_1 13 (by decide +kernel) (by decide +kernel), gG_10 30 rfl rfl, by decide +kernel, by decide⟩
theorem mi_mX12_stateOf : gMi mX12_stateOf 2 := ⟨ms_mX12_stateOf, gG_10 29 (by decide +kernel) (by decide +kernel), gG_s 93 (by decide +kernel) (by decide +kernel)⟩
abbrev mX12_toldOf : gM := (yX12_toldOf, cX12_toldOf, 3, (Option.some Jvm.ClassFile.FieldType.int), none)
theorem ms_mX12_toldOf : gMs mX12_toldOf 2 := ⟨gG_1 13 (by decide +kernel) (by decide +kernel), gG_10 34 rfl rfl, by decide +kernel, by decide⟩
theorem mi_mX12_toldOf : gMi mX12_toldOf 2 := ⟨ms_mX12_toldOf, gG_10 33 (by decide +kernel) (by decide +kernel), gG_s 94 (by decide +kernel) (by decide +kernel)⟩
abbrev mX12_member : gM := (yX12_member, cX12_member, 2, (Option.some Jvm.ClassFile.FieldType.int), none)
theorem ms_mX12_member : gMs mX12_member 1 := ⟨gG_1 13 (by decide +kernel) (by decide +kernel), gG_10 38 rfl rfl, by decide +kernel, by decide⟩
theorem mi_mX12_member : gMi mX12_member 1 := ⟨ms_mX12_member, gG_10 36 (by decide +kernel) (by decide +kernel), gG_10 37 (by decide +kernel) (by decide +kernel)⟩
abbrev mX12_isMember : gM := (yX12_isMember, cX12_isMember, 3, (Option.some Jvm.ClassFile.FieldType.boolean), none)
theorem ms_mX12_isMember : gMs mX12_isMember 1 := ⟨gG_1 13 (by decide +kernel) (by decide +kernel), gG_10 42 rfl rfl, by decide +kernel, by decide⟩
theorem mi_mX12_isMember : gMi mX12_isMember 1 := ⟨ms_mX12_isMember, gG_10 41 (by decide +kernel) (by decide +kernel), gG_s 95 (by decide +kernel) (by decide +kernel)⟩
abbrev mX12_matter : gM := (yX12_matter, cX12_matter, 3, (Option.some Jvm.ClassFile.FieldType.int), none)
theorem ms_mX12_matter : gMs mX12_matter 2 := ⟨gG_1 13 (by decide +kernel) (by decide +kernel), gG_10 46 rfl rfl, by decide +kernel, by decide⟩
theorem mi_mX12_matter : gMi mX12_matter 2 := ⟨ms_mX12_matter, gG_10 44 (by decide +kernel) (by decide +kernel), gG_10 45 (by decide +kernel) (by decide +kernel)⟩
abbrev mX12_sits : gM := (yX12_sits, cX12_sits, 4, (Option.some Jvm.ClassFile.FieldType.int), none)
theorem ms_mX12_sits : gMs mX12_sits 3 := ⟨gG_1 13 (by decide +kernel) (by decide +kernel), gG_10 50 rfl rfl, by decide +kernel, by decide⟩
theorem mi_mX12_sits : gMi mX12_sits 3 := ⟨ms_mX12_sits, gG_10 48 (by decide +kernel) (by decide +kernel), gG_10 49 (by decide +kernel) (by decide +kernel)⟩
abbrev mX12_isMatter : gM := (yX12_isMatter, cX12_isMatter, 2, (Option.some Jvm.ClassFile.FieldType.boolean), none)
theorem ms_mX12_isMatter : gMs mX12_isMatter 1 := ⟨gG_1 13 (by decide +kernel) (by decide +kernel), gG_10 54 rfl rfl, by decide +kernel, by decide⟩
theorem mi_mX12_isMatter : gMi mX12_isMatter 1 := ⟨ms_mX12_isMatter, gG_10 53 (by decide +kernel) (by decide +kernel), gG_s 96 (by decide +kernel) (by decide +kernel)⟩
abbrev mX12_sitsOf : gM := (yX12_sitsOf, cX12_sitsOf, 10, (Option.some Jvm.ClassFile.FieldType.int), none)
theorem ms_mX12_sitsOf : gMs mX12_sitsOf 3 := ⟨gG_1 13 (by decide +kernel) (by decide +kernel), gG_10 58 rfl rfl, by decide +kernel, by decide⟩
theorem mi_mX12_sitsOf : gMi mX12_sitsOf 3 := ⟨ms_mX12_sitsOf, gG_10 57 (by decide +kernel) (by decide +kernel), gG_s 97 (by decide +kernel) (by decide +kernel)⟩
abbrev mX12_shareOf : gM := (yX12_shareOf, cX12_shareOf, 3, (Option.some Jvm.ClassFile.FieldType.int), none)
theorem ms_mX12_shareOf : gMs mX12_shareOf 2 := ⟨gG_1 13 (by decide +kernel) (by decide +kernel), gG_10 62 rfl rfl, by decide +kernel, by decide⟩
theorem mi_mX12_shareOf : gMi mX12_shareOf 2 := ⟨ms_mX12_shareOf, gG_10 61 (by decide +kernel) (by decide +kernel), gG_s 98 (by decide +kernel) (by decide +kernel)⟩
abbrev mX12_quorum : gM := (yX12_quorum, cX12_quorum, 5, (Option.some Jvm.ClassFile.FieldType.int), none)
theorem ms_mX12_quorum : gMs mX12_quorum 2 := ⟨gG_1 13 (by decide +kernel) (by decide +kernel), gG_10 66 rfl rfl, by decide +kernel, by decide⟩
theorem mi_mX12_quorum : gMi mX12_quorum 2 := ⟨ms_mX12_quorum, gG_10 64 (by decide +kernel) (by decide +kernel), gG_10 65 (by decide +kernel) (by decide +kernel)⟩
abbrev mX12_entry : gM := (yX12_entry, cX12_entry, 6, (Option.some Jvm.ClassFile.FieldType.int), none)
theorem ms_mX12_entry : gMs mX12_entry 3 := ⟨gG_1 13 (by decide +kernel) (by decide +kernel), gG_10 70 rfl rfl, by decide +kernel, by decide⟩
theorem mi_mX12_entry : gMi mX12_entry 3 := ⟨ms_mX12_entry, gG_10 68 (by decide +kernel) (by decide +kernel), gG_10 69 (by decide +kernel) (by decide +kernel)⟩
abbrev mX12_joined : gM := (yX12_joined, cX12_joined, 4, (Option.some Jvm.ClassFile.FieldType.int), none)
theorem ms_mX12_joined : gMs mX12_joined 1 := ⟨gG_1 13 (by decide +kernel) (by decide +kernel), gG_10 74 rfl rfl, by decide +kernel, by decide⟩
theorem mi_mX12_joined : gMi mX12_joined 1 := ⟨ms_mX12_joined, gG_10 72 (by decide +kernel) (by decide +kernel), gG_10 73 (by decide +kernel) (by decide +kernel)⟩
abbrev mX12_join : gM := (yX12_join, cX12_join, 5, (Option.none : Option Jvm.ClassFile.FieldType), none)
theorem ms_mX12_join : gMs mX12_join 1 := ⟨gG_1 13 (by decide +kernel) (by decide +kernel), gG_10 78 rfl rfl, by decide +kernel, by decide⟩
theorem mi_mX12_join : gMi mX12_join 1 := ⟨ms_mX12_join, gG_10 77 (by decide +kernel) (by decide +kernel), gG_s 99 (by decide +kernel) (by decide +kernel)⟩
abbrev mX12_fit : gM := (yX12_fit, cX12_fit, 5, (Option.some Jvm.ClassFile.FieldType.boolean), none)
theorem ms_mX12_fit : gMs mX12_fit 3 := ⟨gG_1 13 (by decide +kernel) (by decide +kernel), gG_10 82 rfl rfl, by decide +kernel, by decide⟩
theorem mi_mX12_fit : gMi mX12_fit 3 := ⟨ms_mX12_fit, gG_10 81 (by decide +kernel) (by decide +kernel), gG_s 100 (by decide +kernel) (by decide +kernel)⟩
abbrev mX12_finds : gM := (yX12_finds, cX12_finds, 5, (Option.some Jvm.ClassFile.FieldType.boolean), none)
theorem ms_mX12_finds : gMs mX12_finds 1 := ⟨gG_1 13 (by decide +kernel) (by decide +kernel), gG_10 86 rfl rfl, by decide +kernel, by decide⟩
theorem mi_mX12_finds : gMi mX12_finds 1 := ⟨ms_mX12_finds, gG_10 85 (by decide +kernel) (by decide +kernel), gG_s 101 (by decide +kernel) (by decide +kernel)⟩
abbrev mX12_change : gM := (yX12_change, cX12_change, 7, (Option.none : Option Jvm.ClassFile.FieldType), none)
theorem ms_mX12_change : gMs mX12_change 2 := ⟨gG_1 13 (by decide +kernel) (by decide +kernel), gG_10 90 rfl rfl, by decide +kernel, by decide⟩
theorem mi_mX12_change : gMi mX12_change 2 := ⟨ms_mX12_change, gG_10 89 (by decide +kernel) (by decide +kernel), gG_s 102 (by decide +kernel) (by decide +kernel)⟩
abbrev mX12_lessen : gM := (yX12_lessen, cX12_lessen, 6, (Option.none : Option Jvm.ClassFile.FieldType), none)
theorem ms_mX12_lessen : gMs mX12_lessen 1 := ⟨gG_1 13 (by decide +kernel) (by decide +kernel), gG_10 94 rfl rfl, by decide +kernel, by decide⟩
theorem mi_mX12_lessen : gMi mX12_lessen 1 := ⟨ms_mX12_lessen, gG_10 93 (by decide +kernel) (by decide +kernel), gG_s 103 (by decide +kernel) (by decide +kernel)⟩
abbrev mX12_findsBehind : gM := (yX12_findsBehind, cX12_findsBehind, 3, (Option.some Jvm.ClassFile.FieldType.boolean), none)
theorem ms_mX12_findsBehind : gMs mX12_findsBehind 1 := ⟨gG_1 13 (by decide +kernel) (by decide +kernel), gG_10 98 rfl rfl, by decide +kernel, by decide⟩
theorem mi_mX12_findsBehind : gMi mX12_findsBehind 1 := ⟨ms_mX12_findsBehind, gG_10 97 (by decide +kernel) (by decide +kernel), gG_s 104 (by decide +kernel) (by decide +kernel)⟩
abbrev mX12_entered : gM := (yX12_entered, cX12_entered, 6, (Option.some Jvm.ClassFile.FieldType.int), none)
theorem ms_mX12_entered : gMs mX12_entered 3 := ⟨gG_1 13 (by decide +kernel) (by decide +kernel), gG_10 102 rfl rfl, by decide +kernel, by decide⟩
theorem mi_mX12_entered : gMi mX12_entered 3 := ⟨ms_mX12_entered, gG_10 100 (by decide +kernel) (by decide +kernel), gG_10 101 (by decide +kernel) (by decide +kernel)⟩
abbrev mX12_vote : gM := (yX12_vote, cX12_vote, 5, (Option.some Jvm.ClassFile.FieldType.int), none)
theorem ms_mX12_vote : gMs mX12_vote 3 := ⟨gG_1 13 (by decide +kernel) (by decide +kernel), gG_10 106 rfl rfl, by decide +kernel, by decide⟩
theorem mi_mX12_vote : gMi mX12_vote 3 := ⟨ms_mX12_vote, gG_10 104 (by decide +kernel) (by decide +kernel), gG_10 105 (by decide +kernel) (by decide +kernel)⟩
abbrev mX12_links : gM := (yX12_links, cX12_links, 3, (Option.some Jvm.ClassFile.FieldType.int), none)
theorem ms_mX12_links : gMs mX12_links 2 := ⟨gG_1 13 (by decide +kernel) (by decide +kernel), gG_10 110 rfl rfl, by decide +kernel, by decide⟩
theorem mi_mX12_links : gMi mX12_links 2 := ⟨ms_mX12_links, gG_10 108 (by decide +kernel) (by decide +kernel), gG_10 109 (by decide +kernel) (by decide +kernel)⟩
abbrev mX12_countVotes : gM := (yX12_countVotes, cX12_countVotes, 4, (Option.none : Option Jvm.ClassFile.FieldType), none)
theorem ms_mX12_countVotes : gMs mX12_countVotes 1 := ⟨gG_1 13 (by decide +kernel) (by decide +kernel), gG_10 114 rfl rfl, by decide +kernel, by decide⟩
theorem mi_mX12_countVotes : gMi mX12_countVotes 1 := ⟨ms_mX12_countVotes, gG_10 113 (by decide +kernel) (by decide +kernel), gG_s 105 (by decide +kernel) (by decide +kernel)⟩
abbrev mX12_isWarm : gM := (yX12_isWarm, cX12_isWarm, 7, (Option.some Jvm.ClassFile.FieldType.boolean), none)
theorem ms_mX12_isWarm : gMs mX12_isWarm 2 := ⟨gG_1 13 (by decide +kernel) (by decide +kernel), gG_10 118 rfl rfl, by decide +kernel, by decide⟩
theorem mi_mX12_isWarm : gMi mX12_isWarm 2 := ⟨ms_mX12_isWarm, gG_10 117 (by decide +kernel) (by decide +kernel), gG_s 106 (by decide +kernel) (by decide +kernel)⟩
abbrev mX12_chance : gM := (yX12_chance, cX12_chance, 13, (Option.some Jvm.ClassFile.FieldType.long), none)
theorem ms_mX12_chance : gMs mX12_chance 2 := ⟨gG_1 13 (by decide +kernel) (by decide +kernel), gG_10 122 rfl rfl, by decide +kernel, by decide⟩
theorem mi_mX12_chance : gMi mX12_chance 2 := ⟨ms_mX12_chance, gG_10 120 (by decide +kernel) (by decide +kernel), gG_10 121 (by decide +kernel) (by decide +kernel)⟩
abbrev mX12_choose : gM := (yX12_choose, cX12_choose, 5, (Option.some Jvm.ClassFile.FieldType.long), none)
theorem ms_mX12_choose : gMs mX12_choose 2 := ⟨gG_1 13 (by decide +kernel) (by decide +kernel), gG_10 126 rfl rfl, by decide +kernel, by decide⟩
theorem mi_mX12_choose : gMi mX12_choose 2 := ⟨ms_mX12_choose, gG_10 125 (by decide +kernel) (by decide +kernel), gG_s 107 (by decide +kernel) (by decide +kernel)⟩
abbrev mX12_asked : gM := (yX12_asked, cX12_asked, 7, (Option.some Jvm.ClassFile.FieldType.int), none)
theorem ms_mX12_asked : gMs mX12_asked 3 := ⟨gG_1 13 (by decide +kernel) (by decide +kernel), gG_10 130 rfl rfl, by decide +kernel, by decide⟩
theorem mi_mX12_asked : gMi mX12_asked 3 := ⟨ms_mX12_asked, gG_10 128 (by decide +kernel) (by decide +kernel), gG_10 129 (by decide +kernel) (by decide +kernel)⟩
abbrev mX12_count : gM := (yX12_count, cX12_count, 2, (Option.some Jvm.ClassFile.FieldType.int), none)
theorem ms_mX12_count : gMs mX12_count 1 := ⟨gG_1 13 (by decide +kernel) (by decide +kernel), gG_10 134 rfl rfl, by decide +kernel, by decide⟩
theorem mi_mX12_count : gMi mX12_count 1 := ⟨ms_mX12_count, gG_10 132 (by decide +kernel) (by decide +kernel), gG_10 133 (by decide +kernel) (by decide +kernel)⟩
theorem cn_L_8 : Cond.classLink RL 8 RX11 ∈ gG := gG_1 25 (by decide +kernel) (by decide +kernel)
theorem lk_L_26 : Cond.methodLink RL 26 yX11_init ∈ gG := gG_1 27 (by decide +kernel) (by decide +kernel)
theorem cn_X11_18 : Cond.classLink RX11 18 RX8 ∈ gG := gG_1 33 (by decide +kernel) (by decide +kernel)
theorem cn_X8_19 : Cond.classLink RX8 19 RX9 ∈ gG := gG_1 39 (by decide +kernel) (by decide +kernel)
theorem lk_X8_21 : Cond.methodLink RX8 21 yX9_init ∈ gG := gG_1 41 (by decide +kernel) (by decide +kernel)
theorem fg_X9_9 : gFld RX9 9 9 0 3 := ⟨(RX9, TX9, 7), rfl, by decide, inG_X9, gG_1 45 (by decide +kernel) (by decide +kernel), (by decide +kernel)⟩
theorem fp_X9_9 : gPut RX9 9 9 0 (.array .int) true := ⟨cl_X9, (RX9, TX9, 7), rfl, by decide, gG_1 45 (by decide +kernel) (by decide +kernel), (by decide +kernel), tyX9_ok 0 (by decide), rfl, fun _ => rfl⟩
theorem fg_X9_15 : gFld RX9 15 9 1 3 := ⟨(RX9, TX9, 7), rfl, by decide, inG_X9, gG_1 46 (by decide +kernel) (by decide +kernel), (by decide +kernel)⟩
theorem fp_X9_15 : gPut RX9 15 9 1 (.array .int) true := ⟨cl_X9, (RX9, TX9, 7), rfl, by decide, gG_1 46 (by decide +kernel) (by decide +kernel), (by decide +kernel), tyX9_ok 1 (by decide), rfl, fun _ => rfl⟩
theorem fg_X9_18 : gFld RX9 18 9 2 3 := ⟨(RX9, TX9, 7), rfl, by decide, inG_X9, gG_1 47 (by decide +kernel) (by decide +kernel), (by decide +kernel)⟩
theorem fp_X9_18 : gPut RX9 18 9 2 (.array .int) true := ⟨cl_X9, (RX9, TX9, 7), rfl, by decide, gG_1 47 (by decide +kernel) (by decide +kernel), (by decide +kernel), tyX9_ok 2 (by decide), rfl, fun _ => rfl⟩
theorem fg_X9_21 : gFld RX9 21 9 3 3 := ⟨(RX9, TX9, 7), rfl, by decide, inG_X9, gG_1 48 (by decide +kernel) (by decide +kernel), (by decide +kernel)⟩
theorem fp_X9_21 : gPut RX9 21 9 3 (.array .int) true := ⟨cl_X9, (RX9, TX9, 7), rfl, by decide, gG_1 48 (by decide +kernel) (by decide +kernel), (by decide +kernel), tyX9_ok 3 (by decide), rfl, fun _ => rfl⟩
theorem fg_X9_24 : gFld RX9 24 9 4 3 := ⟨(RX9, TX9, 7), rfl, by decide, inG_X9, gG_1 49 (by decide +kernel) (by decide +kernel), (by decide +kernel)⟩
theorem fp_X9_24 : gPut RX9 24 9 4 (.array .int) true := ⟨cl_X9, (RX9, TX9, 7), rfl, by decide, gG_1 49 (by decide +kernel) (by decide +kernel), (by decide +kernel), tyX9_ok 4 (by decide), rfl, fun _ => rfl⟩
theorem fg_X9_27 : gFld RX9 27 9 5 3 := ⟨(RX9, TX9, 7), rfl, by decide, inG_X9, gG_1 50 (by decide +kernel) (by decide +kernel), (by decide +kernel)⟩
theorem fp_X9_27 : gPut RX9 27 9 5 (.array .int) true := ⟨cl_X9, (RX9, TX9, 7), rfl, by decide, gG_1 50 (by decide +kernel) (by decide +kernel), (by decide +kernel), tyX9_ok 5 (by decide), rfl, fun _ => rfl⟩
theorem fg_X9_30 : gFld RX9 30 9 6 0 := ⟨(RX9, TX9, 7), rfl, by decide, inG_X9, gG_1 51 (by decide +kernel) (by decide +kernel), (by decide +kernel)⟩
theorem fp_X9_30 : gPut RX9 30 9 6 .int false := ⟨cl_X9, (RX9, TX9, 7), rfl, by decide, gG_1 51 (by decide +kernel) (by decide +kernel), (by decide +kernel), tyX9_ok 6 (by decide), rfl, fun h => by cases h⟩
theorem fg_X8_9 : gFld RX8 9 8 0 3 := ⟨(RX8, TX8, 9), rfl, by decide, inG_X8, gG_1 69 (by decide +kernel) (by decide +kernel), (by decide +kernel)⟩
theorem fp_X8_9 : gPut RX8 9 8 0 (.array .int) true := ⟨cl_X8, (RX8, TX8, 9), rfl, by decide, gG_1 69 (by decide +kernel) (by decide +kernel), (by decide +kernel), tyX8_ok 0 (by decide), rfl, fun _ => rfl⟩
theorem fg_X8_15 : gFld RX8 15 8 1 3 := ⟨(RX8, TX8, 9), rfl, by decide, inG_X8, gG_1 70 (by decide +kernel) (by decide +kernel), (by decide +kernel)⟩
theorem fp_X8_15 : gPut RX8 15 8 1 (.array .long) true := ⟨cl_X8, (RX8, TX8, 9), rfl, by decide, gG_1 70 (by decide +kernel) (by decide +kernel), (by decide +kernel), tyX8_ok 1 (by decide), rfl, fun _ => rfl⟩
theorem fg_X8_37 : gFld RX8 37 8 2 0 := ⟨(RX8, TX8, 9), rfl, by decide, inG_X8, gG_1 71 (by decide +kernel) (by decide +kernel), (by decide +kernel)⟩
theorem fp_X8_37 : gPut RX8 37 8 2 .int false := ⟨cl_X8, (RX8, TX8, 9), rfl, by decide, gG_1 71 (by decide +kernel) (by decide +kernel), (by decide +kernel), tyX8_ok 2 (by decide), rfl, fun h => by cases h⟩
theorem fg_X8_24 : gFld RX8 24 8 3 3 := ⟨(RX8, TX8, 9), rfl, by decide, inG_X8, gG_1 72 (by decide +kernel) (by decide +kernel), (by decide +kernel)⟩
theorem fp_X8_24 : gPut RX8 24 8 3 (.object "GiftRegister$Spans") true := ⟨cl_X8, (RX8, TX8, 9), rfl, by decide, gG_1 72 (by decide +kernel) (by decide +kernel), (by decide +kernel), tyX8_ok 3 (by decide), rfl, fun _ => rfl⟩
theorem fg_X8_28 : gFld RX8 28 8 4 3 := ⟨(RX8, TX8, 9), rfl, by decide, inG_X8, gG_1 73 (by decide +kernel) (by decide +kernel), (by decide +kernel)⟩
theorem fp_X8_28 : gPut RX8 28 8 4 (.array .int) true := ⟨cl_X8, (RX8, TX8, 9), rfl, by decide, gG_1 73 (by decide +kernel) (by decide +kernel), (by decide +kernel), tyX8_ok 4 (by decide), rfl, fun _ => rfl⟩
theorem fg_X8_31 : gFld RX8 31 8 5 0 := ⟨(RX8, TX8, 9), rfl, by decide, inG_X8, gG_1 74 (by decide +kernel) (by decide +kernel), (by decide +kernel)⟩
theorem fp_X8_31 : gPut RX8 31 8 5 .int false := ⟨cl_X8, (RX8, TX8, 9), rfl, by decide, gG_1 74 (by decide +kernel) (by decide +kernel), (by decide +kernel), tyX8_ok 5 (by decide), rfl, fun h => by cases h⟩
theorem fg_X8_63 : gFld RX8 63 8 6 0 := ⟨(RX8, TX8, 9), rfl, by decide, inG_X8, gG_1 75 (by decide +kernel) (by decide +kernel), (by decide +kernel)⟩
theorem fp_X8_63 : gPut RX8 63 8 6 .int false := ⟨cl_X8, (RX8, TX8, 9), rfl, by decide, gG_1 75 (by decide +kernel) (by decide +kernel), (by decide +kernel), tyX8_ok 6 (by decide), rfl, fun h => by cases h⟩
theorem fg_X8_66 : gFld RX8 66 8 7 0 := ⟨(RX8, TX8, 9), rfl, by decide, inG_X8, gG_1 76 (by decide +kernel) (by decide +kernel), (by decide +kernel)⟩
theorem fp_X8_66 : gPut RX8 66 8 7 .int false := ⟨cl_X8, (RX8, TX8, 9), rfl, by decide, gG_1 76 (by decide +kernel) (by decide +kernel), (by decide +kernel), tyX8_ok 7 (by decide), rfl, fun h => by cases h⟩
theorem fg_X8_69 : gFld RX8 69 8 8 0 := ⟨(RX8, TX8, 9), rfl, by decide, inG_X8, gG_1 77 (by decide +kernel) (by decide +kernel), (by decide +kernel)⟩
theorem fp_X8_69 : gPut RX8 69 8 8 .int false := ⟨cl_X8, (RX8, TX8, 9), rfl, by decide, gG_1 77 (by decide +kernel) (by decide +kernel), (by decide +kernel), tyX8_ok 8 (by decide), rfl, fun h => by cases h⟩
theorem cn_X11_25 : Cond.classLink RX11 25 RX7 ∈ gG := gG_1 97 (by decide +kernel) (by decide +kernel)
theorem cn_X7_9 : Cond.classLink RX7 9 RX9 ∈ gG := gG_1 103 (by decide +kernel) (by decide +kernel)
theorem lk_X7_11 : Cond.methodLink RX7 11 yX9_init ∈ gG := gG_1 104 (by decide +kernel) (by decide +kernel)
theorem fg_X7_14 : gFld RX7 14 7 0 3 := ⟨(RX7, TX7, 13), rfl, by decide, inG_X7, gG_1 105 (by decide +kernel) (by decide +kernel), (by decide +kernel)⟩
theorem fp_X7_14 : gPut RX7 14 7 0 (.object "GiftRegister$Spans") true := ⟨cl_X7, (RX7, TX7, 13), rfl, by decide, gG_1 105 (by decide +kernel) (by decide +kernel), (by decide +kernel), tyX7_ok 0 (by decide), rfl, fun _ => rfl⟩
theorem fg_X7_20 : gFld RX7 20 7 1 3 := ⟨(RX7, TX7, 13), rfl, by decide, inG_X7, gG_1 106 (by decide +kernel) (by decide +kernel), (by decide +kernel)⟩
theorem fp_X7_20 : gPut RX7 20 7 1 (.array .int) true := ⟨cl_X7, (RX7, TX7, 13), rfl, by decide, gG_1 106 (by decide +kernel) (by decide +kernel), (by decide +kernel), tyX7_ok 1 (by decide), rfl, fun _ => rfl⟩
theorem fg_X7_24 : gFld RX7 24 7 2 3 := ⟨(RX7, TX7, 13), rfl, by decide, inG_X7, gG_1 107 (by decide +kernel) (by decide +kernel), (by decide +kernel)⟩
theorem fp_X7_24 : gPut RX7 24 7 2 (.array .int) true := ⟨cl_X7, (RX7, TX7, 13), rfl, by decide, gG_1 107 (by decide +kernel) (by decide +kernel), (by decide +kernel), tyX7_ok 2 (by decide), rfl, fun _ => rfl⟩
theorem fg_X7_27 : gFld RX7 27 7 3 3 := ⟨(RX7, TX7, 13), rfl, by decide, inG_X7, gG_1 108 (by decide +kernel) (by decide +kernel), (by decide +kernel)⟩
theorem fp_X7_27 : gPut RX7 27 7 3 (.array .int) true := ⟨cl_X7, (RX7, TX7, 13), rfl, by decide, gG_1 108 (by decide +kernel) (by decide +kernel), (by decide +kernel), tyX7_ok 3 (by decide), rfl, fun _ => rfl⟩
theorem fg_X7_30 : gFld RX7 30 7 4 3 := ⟨(RX7, TX7, 13), rfl, by decide, inG_X7, gG_1 109 (by decide +kernel) (by decide +kernel), (by decide +kernel)⟩
theorem fp_X7_30 : gPut RX7 30 7 4 (.array .int) true := ⟨cl_X7, (RX7, TX7, 13), rfl, by decide, gG_1 109 (by decide +kernel) (by decide +kernel), (by decide +kernel), tyX7_ok 4 (by decide), rfl, fun _ => rfl⟩
theorem fg_X7_33 : gFld RX7 33 7 5 0 := ⟨(RX7, TX7, 13), rfl, by decide, inG_X7, gG_1 110 (by decide +kernel) (by decide +kernel), (by decide +kernel)⟩
theorem fp_X7_33 : gPut RX7 33 7 5 .int false := ⟨cl_X7, (RX7, TX7, 13), rfl, by decide, gG_1 110 (by decide +kernel) (by decide +kernel), (by decide +kernel), tyX7_ok 5 (by decide), rfl, fun h => by cases h⟩
theorem fg_X7_85 : gFld RX7 85 7 6 0 := ⟨(RX7, TX7, 13), rfl, by decide, inG_X7, gG_1 111 (by decide +kernel) (by decide +kernel), (by decide +kernel)⟩
theorem fp_X7_85 : gPut RX7 85 7 6 .int false := ⟨cl_X7, (RX7, TX7, 13), rfl, by decide, gG_1 111 (by decide +kernel) (by decide +kernel), (by decide +kernel), tyX7_ok 6 (by decide), rfl, fun h => by cases h⟩
theorem fg_X7_37 : gFld RX7 37 7 7 0 := ⟨(RX7, TX7, 13), rfl, by decide, inG_X7, gG_1 112 (by decide +kernel) (by decide +kernel), (by decide +kernel)⟩
theorem fp_X7_37 : gPut RX7 37 7 7 .int false := ⟨cl_X7, (RX7, TX7, 13), rfl, by decide, gG_1 112 (by decide +kernel) (by decide +kernel), (by decide +kernel), tyX7_ok 7 (by decide), rfl, fun h => by cases h⟩
theorem fg_X7_40 : gFld RX7 40 7 8 3 := ⟨(RX7, TX7, 13), rfl, by decide, inG_X7, gG_1 113 (by decide +kernel) (by decide +kernel), (by decide +kernel)⟩
theorem fp_X7_40 : gPut RX7 40 7 8 (.array .int) true := ⟨cl_X7, (RX7, TX7, 13), rfl, by decide, gG_1 113 (by decide +kernel) (by decide +kernel), (by decide +kernel), tyX7_ok 8 (by decide), rfl, fun _ => rfl⟩
theorem fg_X7_43 : gFld RX7 43 7 9 3 := ⟨(RX7, TX7, 13), rfl, by decide, inG_X7, gG_1 114 (by decide +kernel) (by decide +kernel), (by decide +kernel)⟩
theorem fp_X7_43 : gPut RX7 43 7 9 (.array .long) true := ⟨cl_X7, (RX7, TX7, 13), rfl, by decide, gG_1 114 (by decide +kernel) (by decide +kernel), (by decide +kernel), tyX7_ok 9 (by decide), rfl, fun _ => rfl⟩
theorem fg_X7_47 : gFld RX7 47 7 10 3 := ⟨(RX7, TX7, 13), rfl, by decide, inG_X7, gG_1 115 (by decide +kernel) (by decide +kernel), (by decide +kernel)⟩
theorem fp_X7_47 : gPut RX7 47 7 10 (.array .int) true := ⟨cl_X7, (RX7, TX7, 13), rfl, by decide, gG_1 115 (by decide +kernel) (by decide +kernel), (by decide +kernel), tyX7_ok 10 (by decide), rfl, fun _ => rfl⟩
theorem fg_X7_50 : gFld RX7 50 7 11 3 := ⟨(RX7, TX7, 13), rfl, by decide, inG_X7, gG_1 116 (by decide +kernel) (by decide +kernel), (by decide +kernel)⟩
theorem fp_X7_50 : gPut RX7 50 7 11 (.array .int) true := ⟨cl_X7, (RX7, TX7, 13), rfl, by decide, gG_1 116 (by decide +kernel) (by decide +kernel), (by decide +kernel), tyX7_ok 11 (by decide), rfl, fun _ => rfl⟩
theorem fg_X7_88 : gFld RX7 88 7 12 2 := ⟨(RX7, TX7, 13), rfl, by decide, inG_X7, gG_1 117 (by decide +kernel) (by decide +kernel), (by decide +kernel)⟩
theorem fp_X7_88 : gPut RX7 88 7 12 .boolean false := ⟨cl_X7, (RX7, TX7, 13), rfl, by decide, gG_1 117 (by decide +kernel) (by decide +kernel), (by decide +kernel), tyX7_ok 12 (by decide), rfl, fun h => by cases h⟩
theorem cn_X11_13 : Cond.classLink RX11 13 RX0 ∈ gG := gG_1 145 (by decide +kernel) (by decide +kernel)
theorem lk_X11_32 : Cond.methodLink RX11 32 yX0_init ∈ gG := gG_1 147 (by decide +kernel) (by decide +kernel)
theorem fg_X0_22 : gFld RX0 22 0 0 3 := ⟨(RX0, TX0, 8), rfl, by decide, inG_X0, gG_1 151 (by decide +kernel) (by decide +kernel), (by decide +kernel)⟩
theorem fp_X0_22 : gPut RX0 22 0 0 (.object "GiftRegister$Owners") true := ⟨cl_X0, (RX0, TX0, 8), rfl, by decide, gG_1 151 (by decide +kernel) (by decide +kernel), (by decide +kernel), tyX0_ok 0 (by decide), rfl, fun _ => rfl⟩
theorem fg_X0_9 : gFld RX0 9 0 1 3 := ⟨(RX0, TX0, 8), rfl, by decide, inG_X0, gG_1 152 (by decide +kernel) (by decide +kernel), (by decide +kernel)⟩
theorem fp_X0_9 : gPut RX0 9 0 1 (.array .long) true := ⟨cl_X0, (RX0, TX0, 8), rfl, by decide, gG_1 152 (by decide +kernel) (by decide +kernel), (by decide +kernel), tyX0_ok 1 (by decide), rfl, fun _ => rfl⟩
theorem fg_X0_15 : gFld RX0 15 0 2 3 := ⟨(RX0, TX0, 8), rfl, by decide, inG_X0, gG_1 153 (by decide +kernel) (by decide +kernel), (by decide +kernel)⟩
theorem fp_X0_15 : gPut RX0 15 0 2 (.array .int) true := ⟨cl_X0, (RX0, TX0, 8), rfl, by decide, gG_1 153 (by decide +kernel) (by decide +kernel), (by decide +kernel), tyX0_ok 2 (by decide), rfl, fun _ => rfl⟩
theorem fg_X0_19 : gFld RX0 19 0 3 3 := ⟨(RX0, TX0, 8), rfl, by decide, inG_X0, gG_1 154 (by decide +kernel) (by decide +kernel), (by decide +kernel)⟩
theorem fp_X0_19 : gPut RX0 19 0 3 (.array .int) true := ⟨cl_X0, (RX0, TX0, 8), rfl, by decide, gG_1 154 (by decide +kernel) (by decide +kernel), (by decide +kernel), tyX0_ok 3 (by decide), rfl, fun _ => rfl⟩
theorem fg_X0_38 : gFld RX0 38 0 4 0 := ⟨(RX0, TX0, 8), rfl, by decide, inG_X0, gG_1 155 (by decide +kernel) (by decide +kernel), (by decide +kernel)⟩
theorem fp_X0_38 : gPut RX0 38 0 4 .int false := ⟨cl_X0, (RX0, TX0, 8), rfl, by decide, gG_1 155 (by decide +kernel) (by decide +kernel), (by decide +kernel), tyX0_ok 4 (by decide), rfl, fun h => by cases h⟩
theorem fg_X0_54 : gFld RX0 54 0 5 1 := ⟨(RX0, TX0, 8), rfl, by decide, inG_X0, gG_1 156 (by decide +kernel) (by decide +kernel), (by decide +kernel)⟩
theorem fp_X0_54 : gPut RX0 54 0 5 .long false := ⟨cl_X0, (RX0, TX0, 8), rfl, by decide, gG_1 156 (by decide +kernel) (by decide +kernel), (by decide +kernel), tyX0_ok 5 (by decide), rfl, fun h => by cases h⟩
theorem fg_X0_58 : gFld RX0 58 0 6 0 := ⟨(RX0, TX0, 8), rfl, by decide, inG_X0, gG_1 157 (by decide +kernel) (by decide +kernel), (by decide +kernel)⟩
theorem fp_X0_58 : gPut RX0 58 0 6 .int false := ⟨cl_X0, (RX0, TX0, 8), rfl, by decide, gG_1 157 (by decide +kernel) (by decide +kernel), (by decide +kernel), tyX0_ok 6 (by decide), rfl, fun h => by cases h⟩
theorem fg_X0_61 : gFld RX0 61 0 7 1 := ⟨(RX0, TX0, 8), rfl, by decide, inG_X0, gG_1 158 (by decide +kernel) (by decide +kernel), (by decide +kernel)⟩
theorem fp_X0_61 : gPut RX0 61 0 7 .long false := ⟨cl_X0, (RX0, TX0, 8), rfl, by decide, gG_1 158 (by decide +kernel) (by decide +kernel), (by decide +kernel), tyX0_ok 7 (by decide), rfl, fun h => by cases h⟩
theorem cn_X11_39 : Cond.classLink RX11 39 RX9 ∈ gG := gG_1 176 (by decide +kernel) (by decide +kernel)
theorem lk_X11_41 : Cond.methodLink RX11 41 yX9_init ∈ gG := gG_1 177 (by decide +kernel) (by decide +kernel)
theorem cn_X11_48 : Cond.classLink RX11 48 RX2 ∈ gG := gG_1 178 (by decide +kernel) (by decide +kernel)
theorem fg_X2_9 : gFld RX2 9 2 0 3 := ⟨(RX2, TX2, 17), rfl, by decide, inG_X2, gG_1 184 (by decide +kernel) (by decide +kernel), (by decide +kernel)⟩
theorem fp_X2_9 : gPut RX2 9 2 0 (.array .int) true := ⟨cl_X2, (RX2, TX2, 17), rfl, by decide, gG_1 184 (by decide +kernel) (by decide +kernel), (by decide +kernel), tyX2_ok 0 (by decide), rfl, fun _ => rfl⟩
theorem fg_X2_15 : gFld RX2 15 2 1 3 := ⟨(RX2, TX2, 17), rfl, by decide, inG_X2, gG_1 185 (by decide +kernel) (by decide +kernel), (by decide +kernel)⟩
theorem fp_X2_15 : gPut RX2 15 2 1 (.array .int) true := ⟨cl_X2, (RX2, TX2, 17), rfl, by decide, gG_1 185 (by decide +kernel) (by decide +kernel), (by decide +kernel), tyX2_ok 1 (by decide), rfl, fun _ => rfl⟩
theorem fg_X2_18 : gFld RX2 18 2 2 3 := ⟨(RX2, TX2, 17), rfl, by decide, inG_X2, gG_1 186 (by decide +kernel) (by decide +kernel), (by decide +kernel)⟩
theorem fp_X2_18 : gPut RX2 18 2 2 (.array .int) true := ⟨cl_X2, (RX2, TX2, 17), rfl, by decide, gG_1 186 (by decide +kernel) (by decide +kernel), (by decide +kernel), tyX2_ok 2 (by decide), rfl, fun _ => rfl⟩
theorem fg_X2_21 : gFld RX2 21 2 3 3 := ⟨(RX2, TX2, 17), rfl, by decide, inG_X2, gG_1 187 (by decide +kernel) (by decide +kernel), (by decide +kernel)⟩
theorem fp_X2_21 : gPut RX2 21 2 3 (.array .int) true := ⟨cl_X2, (RX2, TX2, 17), rfl, by decide, gG_1 187 (by decide +kernel) (by decide +kernel), (by decide +kernel), tyX2_ok 3 (by decide), rfl, fun _ => rfl⟩
theorem fg_X2_24 : gFld RX2 24 2 4 3 := ⟨(RX2, TX2, 17), rfl, by decide, inG_X2, gG_1 188 (by decide +kernel) (by decide +kernel), (by decide +kernel)⟩
theorem fp_X2_24 : gPut RX2 24 2 4 (.array .boolean) true := ⟨cl_X2, (RX2, TX2, 17), rfl, by decide, gG_1 188 (by decide +kernel) (by decide +kernel), (by decide +kernel), tyX2_ok 4 (by decide), rfl, fun _ => rfl⟩
theorem fg_X2_28 : gFld RX2 28 2 5 3 := ⟨(RX2, TX2, 17), rfl, by decide, inG_X2, gG_1 189 (by decide +kernel) (by decide +kernel), (by decide +kernel)⟩
theorem fp_X2_28 : gPut RX2 28 2 5 (.array .int) true := ⟨cl_X2, (RX2, TX2, 17), rfl, by decide, gG_1 189 (by decide +kernel) (by decide +kernel), (by decide +kernel), tyX2_ok 5 (by decide), rfl, fun _ => rfl⟩
theorem fg_X2_31 : gFld RX2 31 2 6 3 := ⟨(RX2, TX2, 17), rfl, by decide, inG_X2, gG_1 190 (by decide +kernel) (by decide +kernel), (by decide +kernel)⟩
theorem fp_X2_31 : gPut RX2 31 2 6 (.array .int) true := ⟨cl_X2, (RX2, TX2, 17), rfl, by decide, gG_1 190 (by decide +kernel) (by decide +kernel), (by decide +kernel), tyX2_ok 6 (by decide), rfl, fun _ => rfl⟩
theorem fg_X2_34 : gFld RX2 34 2 7 3 := ⟨(RX2, TX2, 17), rfl, by decide, inG_X2, gG_1 191 (by decide +kernel) (by decide +kernel), (by decide +kernel)⟩
theorem fp_X2_34 : gPut RX2 34 2 7 (.array .int) true := ⟨cl_X2, (RX2, TX2, 17), rfl, by decide, gG_1 191 (by decide +kernel) (by decide +kernel), (by decide +kernel), tyX2_ok 7 (by decide), rfl, fun _ => rfl⟩
theorem fg_X2_37 : gFld RX2 37 2 8 3 := ⟨(RX2, TX2, 17), rfl, by decide, inG_X2, gG_1 192 (by decide +kernel) (by decide +kernel), (by decide +kernel)⟩
theorem fp_X2_37 : gPut RX2 37 2 8 (.array .int) true := ⟨cl_X2, (RX2, TX2, 17), rfl, by decide, gG_1 192 (by decide +kernel) (by decide +kernel), (by decide +kernel), tyX2_ok 8 (by decide), rfl, fun _ => rfl⟩
theorem fg_X2_40 : gFld RX2 40 2 9 3 := ⟨(RX2, TX2, 17), rfl, by decide, inG_X2, gG_1 193 (by decide +kernel) (by decide +kernel), (by decide +kernel)⟩
theorem fp_X2_40 : gPut RX2 40 2 9 (.array .int) true := ⟨cl_X2, (RX2, TX2, 17), rfl, by decide, gG_1 193 (by decide +kernel) (by decide +kernel), (by decide +kernel), tyX2_ok 9 (by decide), rfl, fun _ => rfl⟩
theorem fg_X2_43 : gFld RX2 43 2 10 3 := ⟨(RX2, TX2, 17), rfl, by decide, inG_X2, gG_1 194 (by decide +kernel) (by decide +kernel), (by decide +kernel)⟩
theorem fp_X2_43 : gPut RX2 43 2 10 (.array .int) true := ⟨cl_X2, (RX2, TX2, 17), rfl, by decide, gG_1 194 (by decide +kernel) (by decide +kernel), (by decide +kernel), tyX2_ok 10 (by decide), rfl, fun _ => rfl⟩
theorem fg_X2_58 : gFld RX2 58 2 11 0 := ⟨(RX2, TX2, 17), rfl, by decide, inG_X2, gG_1 195 (by decide +kernel) (by decide +kernel), (by decide +kernel)⟩
theorem fp_X2_58 : gPut RX2 58 2 11 .int false := ⟨cl_X2, (RX2, TX2, 17), rfl, by decide, gG_1 195 (by decide +kernel) (by decide +kernel), (by decide +kernel), tyX2_ok 11 (by decide), rfl, fun h => by cases h⟩
theorem fg_X2_46 : gFld RX2 46 2 12 3 := ⟨(RX2, TX2, 17), rfl, by decide, inG_X2, gG_1 196 (by decide +kernel) (by decide +kernel), (by decide +kernel)⟩
theorem fp_X2_46 : gPut RX2 46 2 12 (.array .int) true := ⟨cl_X2, (RX2, TX2, 17), rfl, by decide, gG_1 196 (by decide +kernel) (by decide +kernel), (by decide +kernel), tyX2_ok 12 (by decide), rfl, fun _ => rfl⟩
theorem fg_X2_49 : gFld RX2 49 2 13 3 := ⟨(RX2, TX2, 17), rfl, by decide, inG_X2, gG_1 197 (by decide +kernel) (by decide +kernel), (by decide +kernel)⟩
theorem fp_X2_49 : gPut RX2 49 2 13 (.array .int) true := ⟨cl_X2, (RX2, TX2, 17), rfl, by decide, gG_1 197 (by decide +kernel) (by decide +kernel), (by decide +kernel), tyX2_ok 13 (by decide), rfl, fun _ => rfl⟩
theorem fg_X2_52 : gFld RX2 52 2 14 3 := ⟨(RX2, TX2, 17), rfl, by decide, inG_X2, gG_1 198 (by decide +kernel) (by decide +kernel), (by decide +kernel)⟩
theorem fp_X2_52 : gPut RX2 52 2 14 (.array .int) true := ⟨cl_X2, (RX2, TX2, 17), rfl, by decide, gG_1 198 (by decide +kernel) (by decide +kernel), (by decide +kernel), tyX2_ok 14 (by decide), rfl, fun _ => rfl⟩
theorem fg_X2_55 : gFld RX2 55 2 15 3 := ⟨(RX2, TX2, 17), rfl, by decide, inG_X2, gG_1 199 (by decide +kernel) (by decide +kernel), (by decide +kernel)⟩
theorem fp_X2_55 : gPut RX2 55 2 15 (.array .int) true := ⟨cl_X2, (RX2, TX2, 17), rfl, by decide, gG_1 199 (by decide +kernel) (by decide +kernel), (by decide +kernel), tyX2_ok 15 (by decide), rfl, fun _ => rfl⟩
theorem fg_X2_66 : gFld RX2 66 2 16 0 := ⟨(RX2, TX2, 17), rfl, by decide, inG_X2, gG_1 200 (by decide +kernel) (by decide +kernel), (by decide +kernel)⟩
theorem fp_X2_66 : gPut RX2 66 2 16 .int false := ⟨cl_X2, (RX2, TX2, 17), rfl, by decide, gG_1 200 (by decide +kernel) (by decide +kernel), (by decide +kernel), tyX2_ok 16 (by decide), rfl, fun h => by cases h⟩
theorem cn_X11_55 : Cond.classLink RX11 55 RX5 ∈ gG := gG_1 237 (by decide +kernel) (by decide +kernel)
theorem lk_X11_57 : Cond.methodLink RX11 57 yX5_init ∈ gG := gG_1 239 (by decide +kernel) (by decide +kernel)
theorem cn_X5_11 : Cond.classLink RX5 11 RX4 ∈ gG := gG_2 3 (by decide +kernel) (by decide +kernel)
theorem fg_X4_46 : gFld RX4 46 4 0 0 := ⟨(RX4, TX4, 16), rfl, by decide, inG_X4, gG_2 10 (by decide +kernel) (by decide +kernel), (by decide +kernel)⟩
theorem fp_X4_46 : gPut RX4 46 4 0 .int false := ⟨cl_X4, (RX4, TX4, 16), rfl, by decide, gG_2 10 (by decide +kernel) (by decide +kernel), (by decide +kernel), tyX4_ok 0 (by decide), rfl, fun h => by cases h⟩
theorem fg_X4_43 : gFld RX4 43 4 1 0 := ⟨(RX4, TX4, 16), rfl, by decide, inG_X4, gG_2 11 (by decide +kernel) (by decide +kernel), (by decide +kernel)⟩
theorem fp_X4_43 : gPut RX4 43 4 1 .int false := ⟨cl_X4, (RX4, TX4, 16), rfl, by decide, gG_2 11 (by decide +kernel) (by decide +kernel), (by decide +kernel), tyX4_ok 1 (by decide), rfl, fun h => by cases h⟩
theorem fg_X4_49 : gFld RX4 49 4 2 0 := ⟨(RX4, TX4, 16), rfl, by decide, inG_X4, gG_2 12 (by decide +kernel) (by decide +kernel), (by decide +kernel)⟩
theorem fp_X4_49 : gPut RX4 49 4 2 .int false := ⟨cl_X4, (RX4, TX4, 16), rfl, by decide, gG_2 12 (by decide +kernel) (by decide +kernel), (by decide +kernel), tyX4_ok 2 (by decide), rfl, fun h => by cases h⟩
theorem fg_X4_52 : gFld RX4 52 4 3 0 := ⟨(RX4, TX4, 16), rfl, by decide, inG_X4, gG_2 13 (by decide +kernel) (by decide +kernel), (by decide +kernel)⟩
theorem fp_X4_52 : gPut RX4 52 4 3 .int false := ⟨cl_X4, (RX4, TX4, 16), rfl, by decide, gG_2 13 (by decide +kernel) (by decide +kernel), (by decide +kernel), tyX4_ok 3 (by decide), rfl, fun h => by cases h⟩
theorem fg_X4_11 : gFld RX4 11 4 4 0 := ⟨(RX4, TX4, 16), rfl, by decide, inG_X4, gG_2 14 (by decide +kernel) (by decide +kernel), (by decide +kernel)⟩
theorem fp_X4_11 : gPut RX4 11 4 4 .int false := ⟨cl_X4, (RX4, TX4, 16), rfl, by decide, gG_2 14 (by decide +kernel) (by decide +kernel), (by decide +kernel), tyX4_ok 4 (by decide), rfl, fun h => by cases h⟩
theorem fg_X4_15 : gFld RX4 15 4 5 0 := ⟨(RX4, TX4, 16), rfl, by decide, inG_X4, gG_2 15 (by decide +kernel) (by decide +kernel), (by decide +kernel)⟩
theorem fp_X4_15 : gPut RX4 15 4 5 .int false := ⟨cl_X4, (RX4, TX4, 16), rfl, by decide, gG_2 15 (by decide +kernel) (by decide +kernel), (by decide +kernel), tyX4_ok 5 (by decide), rfl, fun h => by cases h⟩
theorem fg_X4_18 : gFld RX4 18 4 6 0 := ⟨(RX4, TX4, 16), rfl, by decide, inG_X4, gG_2 16 (by decide +kernel) (by decide +kernel), (by decide +kernel)⟩
theorem fp_X4_18 : gPut RX4 18 4 6 .int false := ⟨cl_X4, (RX4, TX4, 16), rfl, by decide, gG_2 16 (by decide +kernel) (by decide +kernel), (by decide +kernel), tyX4_ok 6 (by decide), rfl, fun h => by cases h⟩
theorem fg_X4_21 : gFld RX4 21 4 7 0 := ⟨(RX4, TX4, 16), rfl, by decide, inG_X4, gG_2 17 (by decide +kernel) (by decide +kernel), (by decide +kernel)⟩
theorem fp_X4_21 : gPut RX4 21 4 7 .int false := ⟨cl_X4, (RX4, TX4, 16), rfl, by decide, gG_2 17 (by decide +kernel) (by decide +kernel), (by decide +kernel), tyX4_ok 7 (by decide), rfl, fun h => by cases h⟩
theorem fg_X4_55 : gFld RX4 55 4 8 0 := ⟨(RX4, TX4, 16), rfl, by decide, inG_X4, gG_2 18 (by decide +kernel) (by decide +kernel), (by decide +kernel)⟩
theorem fp_X4_55 : gPut RX4 55 4 8 .int false := ⟨cl_X4, (RX4, TX4, 16), rfl, by decide, gG_2 18 (by decide +kernel) (by decide +kernel), (by decide +kernel), tyX4_ok 8 (by decide), rfl, fun h => by cases h⟩
theorem fg_X4_24 : gFld RX4 24 4 9 3 := ⟨(RX4, TX4, 16), rfl, by decide, inG_X4, gG_2 19 (by decide +kernel) (by decide +kernel), (by decide +kernel)⟩
theorem fp_X4_24 : gPut RX4 24 4 9 (.array .int) true := ⟨cl_X4, (RX4, TX4, 16), rfl, by decide, gG_2 19 (by decide +kernel) (by decide +kernel), (by decide +kernel), tyX4_ok 9 (by decide), rfl, fun _ => rfl⟩
theorem fg_X4_28 : gFld RX4 28 4 10 3 := ⟨(RX4, TX4, 16), rfl, by decide, inG_X4, gG_2 20 (by decide +kernel) (by decide +kernel), (by decide +kernel)⟩
theorem fp_X4_28 : gPut RX4 28 4 10 (.array .int) true := ⟨cl_X4, (RX4, TX4, 16), rfl, by decide, gG_2 20 (by decide +kernel) (by decide +kernel), (by decide +kernel), tyX4_ok 10 (by decide), rfl, fun _ => rfl⟩
theorem fg_X4_31 : gFld RX4 31 4 11 3 := ⟨(RX4, TX4, 16), rfl, by decide, inG_X4, gG_2 21 (by decide +kernel) (by decide +kernel), (by decide +kernel)⟩
theorem fp_X4_31 : gPut RX4 31 4 11 (.array .int) true := ⟨cl_X4, (RX4, TX4, 16), rfl, by decide, gG_2 21 (by decide +kernel) (by decide +kernel), (by decide +kernel), tyX4_ok 11 (by decide), rfl, fun _ => rfl⟩
theorem fg_X4_34 : gFld RX4 34 4 12 3 := ⟨(RX4, TX4, 16), rfl, by decide, inG_X4, gG_2 22 (by decide +kernel) (by decide +kernel), (by decide +kernel)⟩
theorem fp_X4_34 : gPut RX4 34 4 12 (.array .int) true := ⟨cl_X4, (RX4, TX4, 16), rfl, by decide, gG_2 22 (by decide +kernel) (by decide +kernel), (by decide +kernel), tyX4_ok 12 (by decide), rfl, fun _ => rfl⟩
theorem fg_X4_37 : gFld RX4 37 4 13 3 := ⟨(RX4, TX4, 16), rfl, by decide, inG_X4, gG_2 23 (by decide +kernel) (by decide +kernel), (by decide +kernel)⟩
theorem fp_X4_37 : gPut RX4 37 4 13 (.array .int) true := ⟨cl_X4, (RX4, TX4, 16), rfl, by decide, gG_2 23 (by decide +kernel) (by decide +kernel), (by decide +kernel), tyX4_ok 13 (by decide), rfl, fun _ => rfl⟩
theorem fg_X4_40 : gFld RX4 40 4 14 3 := ⟨(RX4, TX4, 16), rfl, by decide, inG_X4, gG_2 24 (by decide +kernel) (by decide +kernel), (by decide +kernel)⟩
theorem fp_X4_40 : gPut RX4 40 4 14 (.array .int) true := ⟨cl_X4, (RX4, TX4, 16), rfl, by decide, gG_2 24 (by decide +kernel) (by decide +kernel), (by decide +kernel), tyX4_ok 14 (by decide), rfl, fun _ => rfl⟩
theorem fg_X4_58 : gFld RX4 58 4 15 0 := ⟨(RX4, TX4, 16), rfl, by decide, inG_X4, gG_2 25 (by decide +kernel) (by decide +kernel), (by decide +kernel)⟩
theorem fp_X4_58 : gPut RX4 58 4 15 .int false := ⟨cl_X4, (RX4, TX4, 16), rfl, by decide, gG_2 25 (by decide +kernel) (by decide +kernel), (by decide +kernel), tyX4_ok 15 (by decide), rfl, fun h => by cases h⟩
theorem cn_X5_22 : Cond.classLink RX5 22 RX10 ∈ gG := gG_2 59 (by decide +kernel) (by decide +kernel)
theorem fg_X10_9 : gFld RX10 9 10 0 3 := ⟨(RX10, TX10, 7), rfl, by decide, inG_X10, gG_2 65 (by decide +kernel) (by decide +kernel), (by decide +kernel)⟩
theorem fp_X10_9 : gPut RX10 9 10 0 (.array .int) false := ⟨cl_X10, (RX10, TX10, 7), rfl, by decide, gG_2 65 (by decide +kernel) (by decide +kernel), (by decide +kernel), tyX10_ok 0 (by decide), rfl, fun h => by cases h⟩
theorem fg_X10_24 : gFld RX10 24 10 1 0 := ⟨(RX10, TX10, 7), rfl, by decide, inG_X10, gG_2 66 (by decide +kernel) (by decide +kernel), (by decide +kernel)⟩
theorem fp_X10_24 : gPut RX10 24 10 1 .int false := ⟨cl_X10, (RX10, TX10, 7), rfl, by decide, gG_2 66 (by decide +kernel) (by decide +kernel), (by decide +kernel), tyX10_ok 1 (by decide), rfl, fun h => by cases h⟩
theorem fg_X10_28 : gFld RX10 28 10 2 0 := ⟨(RX10, TX10, 7), rfl, by decide, inG_X10, gG_2 67 (by decide +kernel) (by decide +kernel), (by decide +kernel)⟩
theorem fp_X10_28 : gPut RX10 28 10 2 .int false := ⟨cl_X10, (RX10, TX10, 7), rfl, by decide, gG_2 67 (by decide +kernel) (by decide +kernel), (by decide +kernel), tyX10_ok 2 (by decide), rfl, fun h => by cases h⟩
theorem fg_X10_40 : gFld RX10 40 10 3 0 := ⟨(RX10, TX10, 7), rfl, by decide, inG_X10, gG_2 68 (by decide +kernel) (by decide +kernel), (by decide +kernel)⟩
theorem fp_X10_40 : gPut RX10 40 10 3 .int false := ⟨cl_X10, (RX10, TX10, 7), rfl, by decide, gG_2 68 (by decide +kernel) (by decide +kernel), (by decide +kernel), tyX10_ok 3 (by decide), rfl, fun h => by cases h⟩
theorem fg_X10_31 : gFld RX10 31 10 4 0 := ⟨(RX10, TX10, 7), rfl, by decide, inG_X10, gG_2 69 (by decide +kernel) (by decide +kernel), (by decide +kernel)⟩
theorem fp_X10_31 : gPut RX10 31 10 4 .int false := ⟨cl_X10, (RX10, TX10, 7), rfl, by decide, gG_2 69 (by decide +kernel) (by decide +kernel), (by decide +kernel), tyX10_ok 4 (by decide), rfl, fun h => by cases h⟩
theorem fg_X10_34 : gFld RX10 34 10 5 0 := ⟨(RX10, TX10, 7), rfl, by decide, inG_X10, gG_2 70 (by decide +kernel) (by decide +kernel), (by decide +kernel)⟩
theorem fp_X10_34 : gPut RX10 34 10 5 .int false := ⟨cl_X10, (RX10, TX10, 7), rfl, by decide, gG_2 70 (by decide +kernel) (by decide +kernel), (by decide +kernel), tyX10_ok 5 (by decide), rfl, fun h => by cases h⟩
theorem fg_X10_37 : gFld RX10 37 10 6 0 := ⟨(RX10, TX10, 7), rfl, by decide, inG_X10, gG_2 71 (by decide +kernel) (by decide +kernel), (by decide +kernel)⟩
theorem fp_X10_37 : gPut RX10 37 10 6 .int false := ⟨cl_X10, (RX10, TX10, 7), rfl, by decide, gG_2 71 (by decide +kernel) (by decide +kernel), (by decide +kernel), tyX10_ok 6 (by decide), rfl, fun h => by cases h⟩
theorem fg_X5_13 : gFld RX5 13 5 0 3 := ⟨(RX5, TX5, 18), rfl, by decide, inG_X5, gG_2 87 (by decide +kernel) (by decide +kernel), (by decide +kernel)⟩
theorem fp_X5_13 : gPut RX5 13 5 0 (.array (.object "GiftRegister$Law")) true := ⟨cl_X5, (RX5, TX5, 18), rfl, by decide, gG_2 87 (by decide +kernel) (by decide +kernel), (by decide +kernel), tyX5_ok 0 (by decide), rfl, fun _ => rfl⟩
theorem fg_X5_18 : gFld RX5 18 5 1 3 := ⟨(RX5, TX5, 18), rfl, by decide, inG_X5, gG_2 88 (by decide +kernel) (by decide +kernel), (by decide +kernel)⟩
theorem fp_X5_18 : gPut RX5 18 5 1 (.object "GiftRegister$Law") true := ⟨cl_X5, (RX5, TX5, 18), rfl, by decide, gG_2 88 (by decide +kernel) (by decide +kernel), (by decide +kernel), tyX5_ok 1 (by decide), rfl, fun _ => rfl⟩
theorem fg_X5_36 : gFld RX5 36 5 2 0 := ⟨(RX5, TX5, 18), rfl, by decide, inG_X5, gG_2 89 (by decide +kernel) (by decide +kernel), (by decide +kernel)⟩
theorem fp_X5_36 : gPut RX5 36 5 2 .int false := ⟨cl_X5, (RX5, TX5, 18), rfl, by decide, gG_2 89 (by decide +kernel) (by decide +kernel), (by decide +kernel), tyX5_ok 2 (by decide), rfl, fun h => by cases h⟩
theorem fg_X5_40 : gFld RX5 40 5 3 0 := ⟨(RX5, TX5, 18), rfl, by decide, inG_X5, gG_2 90 (by decide +kernel) (by decide +kernel), (by decide +kernel)⟩
theorem fp_X5_40 : gPut RX5 40 5 3 .int false := ⟨cl_X5, (RX5, TX5, 18), rfl, by decide, gG_2 90 (by decide +kernel) (by decide +kernel), (by decide +kernel), tyX5_ok 3 (by decide), rfl, fun h => by cases h⟩
theorem fg_X5_25 : gFld RX5 25 5 4 3 := ⟨(RX5, TX5, 18), rfl, by decide, inG_X5, gG_2 91 (by decide +kernel) (by decide +kernel), (by decide +kernel)⟩
theorem fp_X5_25 : gPut RX5 25 5 4 (.object "GiftRegister$Tokens") true := ⟨cl_X5, (RX5, TX5, 18), rfl, by decide, gG_2 91 (by decide +kernel) (by decide +kernel), (by decide +kernel), tyX5_ok 4 (by decide), rfl, fun _ => rfl⟩
theorem fg_X5_29 : gFld RX5 29 5 5 3 := ⟨(RX5, TX5, 18), rfl, by decide, inG_X5, gG_2 92 (by decide +kernel) (by decide +kernel), (by decide +kernel)⟩
theorem fp_X5_29 : gPut RX5 29 5 5 (.object "GiftRegister$Law") false := ⟨cl_X5, (RX5, TX5, 18), rfl, by decide, gG_2 92 (by decide +kernel) (by decide +kernel), (by decide +kernel), tyX5_ok 5 (by decide), rfl, fun h => by cases h⟩
theorem fg_X5_63 : gFld RX5 63 5 6 0 := ⟨(RX5, TX5, 18), rfl, by decide, inG_X5, gG_2 93 (by decide +kernel) (by decide +kernel), (by decide +kernel)⟩
theorem fp_X5_63 : gPut RX5 63 5 6 .int false := ⟨cl_X5, (RX5, TX5, 18), rfl, by decide, gG_2 93 (by decide +kernel) (by decide +kernel), (by decide +kernel), tyX5_ok 6 (by decide), rfl, fun h => by cases h⟩
theorem fg_X5_66 : gFld RX5 66 5 7 0 := ⟨(RX5, TX5, 18), rfl, by decide, inG_X5, gG_2 94 (by decide +kernel) (by decide +kernel), (by decide +kernel)⟩
theorem fp_X5_66 : gPut RX5 66 5 7 .int false := ⟨cl_X5, (RX5, TX5, 18), rfl, by decide, gG_2 94 (by decide +kernel) (by decide +kernel), (by decide +kernel), tyX5_ok 7 (by decide), rfl, fun h => by cases h⟩
theorem fg_X5_110 : gFld RX5 110 5 8 0 := ⟨(RX5, TX5, 18), rfl, by decide, inG_X5, gG_2 95 (by decide +kernel) (by decide +kernel), (by decide +kernel)⟩
theorem fp_X5_110 : gPut RX5 110 5 8 .int false := ⟨cl_X5, (RX5, TX5, 18), rfl, by decide, gG_2 95 (by decide +kernel) (by decide +kernel), (by decide +kernel), tyX5_ok 8 (by decide), rfl, fun h => by cases h⟩
theorem fg_X5_107 : gFld RX5 107 5 9 0 := ⟨(RX5, TX5, 18), rfl, by decide, inG_X5, gG_2 96 (by decide +kernel) (by decide +kernel), (by decide +kernel)⟩
theorem fp_X5_107 : gPut RX5 107 5 9 .int false := ⟨cl_X5, (RX5, TX5, 18), rfl, by decide, gG_2 96 (by decide +kernel) (by decide +kernel), (by decide +kernel), tyX5_ok 9 (by decide), rfl, fun h => by cases h⟩
theorem fg_X5_133 : gFld RX5 133 5 10 0 := ⟨(RX5, TX5, 18), rfl, by decide, inG_X5, gG_2 97 (by decide +kernel) (by decide +kernel), (by decide +kernel)⟩
theorem fp_X5_133 : gPut RX5 133 5 10 .int false := ⟨cl_X5, (RX5, TX5, 18), rfl, by decide, gG_2 97 (by decide +kernel) (by decide +kernel), (by decide +kernel), tyX5_ok 10 (by decide), rfl, fun h => by cases h⟩
theorem fg_X5_136 : gFld RX5 136 5 11 2 := ⟨(RX5, TX5, 18), rfl, by decide, inG_X5, gG_2 98 (by decide +kernel) (by decide +kernel), (by decide +kernel)⟩
theorem fp_X5_136 : gPut RX5 136 5 11 .boolean false := ⟨cl_X5, (RX5, TX5, 18), rfl, by decide, gG_2 98 (by decide +kernel) (by decide +kernel), (by decide +kernel), tyX5_ok 11 (by decide), rfl, fun h => by cases h⟩
theorem fg_X5_143 : gFld RX5 143 5 12 0 := ⟨(RX5, TX5, 18), rfl, by decide, inG_X5, gG_2 99 (by decide +kernel) (by decide +kernel), (by decide +kernel)⟩
theorem fp_X5_143 : gPut RX5 143 5 12 .int false := ⟨cl_X5, (RX5, TX5, 18), rfl, by decide, gG_2 99 (by decide +kernel) (by decide +kernel), (by decide +kernel), tyX5_ok 12 (by decide), rfl, fun h => by cases h⟩
theorem fg_X5_69 : gFld RX5 69 5 13 0 := ⟨(RX5, TX5, 18), rfl, by decide, inG_X5, gG_2 100 (by decide +kernel) (by decide +kernel), (by decide +kernel)⟩
theorem fp_X5_69 : gPut RX5 69 5 13 .int false := ⟨cl_X5, (RX5, TX5, 18), rfl, by decide, gG_2 100 (by decide +kernel) (by decide +kernel), (by decide +kernel), tyX5_ok 13 (by decide), rfl, fun h => by cases h⟩
theorem fg_X5_150 : gFld RX5 150 5 14 0 := ⟨(RX5, TX5, 18), rfl, by decide, inG_X5, gG_2 101 (by decide +kernel) (by decide +kernel), (by decide +kernel)⟩
theorem fp_X5_150 : gPut RX5 150 5 14 .int false := ⟨cl_X5, (RX5, TX5, 18), rfl, by decide, gG_2 101 (by decide +kernel) (by decide +kernel), (by decide +kernel), tyX5_ok 14 (by decide), rfl, fun h => by cases h⟩
theorem fg_X5_153 : gFld RX5 153 5 15 0 := ⟨(RX5, TX5, 18), rfl, by decide, inG_X5, gG_2 102 (by decide +kernel) (by decide +kernel), (by decide +kernel)⟩
theorem fp_X5_153 : gPut RX5 153 5 15 .int false := ⟨cl_X5, (RX5, TX5, 18), rfl, by decide, gG_2 102 (by decide +kernel) (by decide +kernel), (by decide +kernel), tyX5_ok 15 (by decide), rfl, fun h => by cases h⟩
theorem fg_X5_32 : gFld RX5 32 5 16 3 := ⟨(RX5, TX5, 18), rfl, by decide, inG_X5, gG_2 103 (by decide +kernel) (by decide +kernel), (by decide +kernel)⟩
theorem fp_X5_32 : gPut RX5 32 5 16 (.array .int) true := ⟨cl_X5, (RX5, TX5, 18), rfl, by decide, gG_2 103 (by decide +kernel) (by decide +kernel), (by decide +kernel), tyX5_ok 16 (by decide), rfl, fun _ => rfl⟩
theorem fg_X5_156 : gFld RX5 156 5 17 0 := ⟨(RX5, TX5, 18), rfl, by decide, inG_X5, gG_2 104 (by decide +kernel) (by decide +kernel), (by decide +kernel)⟩
theorem fp_X5_156 : gPut RX5 156 5 17 .int false := ⟨cl_X5, (RX5, TX5, 18), rfl, by decide, gG_2 104 (by decide +kernel) (by decide +kernel), (by decide +kernel), tyX5_ok 17 (by decide), rfl, fun h => by cases h⟩
theorem cn_X11_62 : Cond.classLink RX11 62 RX3 ∈ gG := gG_2 142 (by decide +kernel) (by decide +kernel)
theorem lk_X11_64 : Cond.methodLink RX11 64 yX3_init ∈ gG := gG_2 144 (by decide +kernel) (by decide +kernel)
theorem fg_X3_15 : gFld RX3 15 3 0 3 := ⟨(RX3, TX3, 9), rfl, by decide, inG_X3, gG_2 148 (by decide +kernel) (by decide +kernel), (by decide +kernel)⟩
theorem fp_X3_15 : gPut RX3 15 3 0 (.object "GiftRegister$Parties") true := ⟨cl_X3, (RX3, TX3, 9), rfl, by decide, gG_2 148 (by decide +kernel) (by decide +kernel), (by decide +kernel), tyX3_ok 0 (by decide), rfl, fun _ => rfl⟩
theorem fg_X3_19 : gFld RX3 19 3 1 3 := ⟨(RX3, TX3, 9), rfl, by decide, inG_X3, gG_2 149 (by decide +kernel) (by decide +kernel), (by decide +kernel)⟩
theorem fp_X3_19 : gPut RX3 19 3 1 (.object "GiftRegister$Owners") true := ⟨cl_X3, (RX3, TX3, 9), rfl, by decide, gG_2 149 (by decide +kernel) (by decide +kernel), (by decide +kernel), tyX3_ok 1 (by decide), rfl, fun _ => rfl⟩
theorem fg_X3_23 : gFld RX3 23 3 2 3 := ⟨(RX3, TX3, 9), rfl, by decide, inG_X3, gG_2 150 (by decide +kernel) (by decide +kernel), (by decide +kernel)⟩
theorem fp_X3_23 : gPut RX3 23 3 2 (.object "GiftRegister$Chains") true := ⟨cl_X3, (RX3, TX3, 9), rfl, by decide, gG_2 150 (by decide +kernel) (by decide +kernel), (by decide +kernel), tyX3_ok 2 (by decide), rfl, fun _ => rfl⟩
theorem fg_X3_27 : gFld RX3 27 3 3 3 := ⟨(RX3, TX3, 9), rfl, by decide, inG_X3, gG_2 151 (by decide +kernel) (by decide +kernel), (by decide +kernel)⟩
theorem fp_X3_27 : gPut RX3 27 3 3 (.object "GiftRegister$Spans") true := ⟨cl_X3, (RX3, TX3, 9), rfl, by decide, gG_2 151 (by decide +kernel) (by decide +kernel), (by decide +kernel), tyX3_ok 3 (by decide), rfl, fun _ => rfl⟩
theorem fg_X3_31 : gFld RX3 31 3 4 3 := ⟨(RX3, TX3, 9), rfl, by decide, inG_X3, gG_2 152 (by decide +kernel) (by decide +kernel), (by decide +kernel)⟩
theorem fp_X3_31 : gPut RX3 31 3 4 (.object "GiftRegister$Gifts") true := ⟨cl_X3, (RX3, TX3, 9), rfl, by decide, gG_2 152 (by decide +kernel) (by decide +kernel), (by decide +kernel), tyX3_ok 4 (by decide), rfl, fun _ => rfl⟩
theorem fg_X3_35 : gFld RX3 35 3 5 3 := ⟨(RX3, TX3, 9), rfl, by decide, inG_X3, gG_2 153 (by decide +kernel) (by decide +kernel), (by decide +kernel)⟩
theorem fp_X3_35 : gPut RX3 35 3 5 (.object "GiftRegister$LawBook") true := ⟨cl_X3, (RX3, TX3, 9), rfl, by decide, gG_2 153 (by decide +kernel) (by decide +kernel), (by decide +kernel), tyX3_ok 5 (by decide), rfl, fun _ => rfl⟩
theorem fg_X3_9 : gFld RX3 9 3 6 3 := ⟨(RX3, TX3, 9), rfl, by decide, inG_X3, gG_2 154 (by decide +kernel) (by decide +kernel), (by decide +kernel)⟩
theorem fp_X3_9 : gPut RX3 9 3 6 (.array .int) true := ⟨cl_X3, (RX3, TX3, 9), rfl, by decide, gG_2 154 (by decide +kernel) (by decide +kernel), (by decide +kernel), tyX3_ok 6 (by decide), rfl, fun _ => rfl⟩
theorem fg_X3_47 : gFld RX3 47 3 7 0 := ⟨(RX3, TX3, 9), rfl, by decide, inG_X3, gG_2 155 (by decide +kernel) (by decide +kernel), (by decide +kernel)⟩
theorem fp_X3_47 : gPut RX3 47 3 7 .int false := ⟨cl_X3, (RX3, TX3, 9), rfl, by decide, gG_2 155 (by decide +kernel) (by decide +kernel), (by decide +kernel), tyX3_ok 7 (by decide), rfl, fun h => by cases h⟩
theorem fg_X3_51 : gFld RX3 51 3 8 0 := ⟨(RX3, TX3, 9), rfl, by decide, inG_X3, gG_2 156 (by decide +kernel) (by decide +kernel), (by decide +kernel)⟩
theorem fp_X3_51 : gPut RX3 51 3 8 .int false := ⟨cl_X3, (RX3, TX3, 9), rfl, by decide, gG_2 156 (by decide +kernel) (by decide +kernel), (by decide +kernel), tyX3_ok 8 (by decide), rfl, fun h => by cases h⟩
theorem cn_X11_71 : Cond.classLink RX11 71 RX6 ∈ gG := gG_2 176 (by decide +kernel) (by decide +kernel)
theorem lk_X11_73 : Cond.methodLink RX11 73 yX6_init ∈ gG := gG_2 178 (by decide +kernel) (by decide +kernel)
theorem fg_X6_49 : gFld RX6 49 6 0 3 := ⟨(RX6, TX6, 17), rfl, by decide, inG_X6, gG_2 182 (by decide +kernel) (by decide +kernel), (by decide +kernel)⟩
theorem fp_X6_49 : gPut RX6 49 6 0 (.object "GiftRegister$Parties") true := ⟨cl_X6, (RX6, TX6, 17), rfl, by decide, gG_2 182 (by decide +kernel) (by decide +kernel), (by decide +kernel), tyX6_ok 0 (by decide), rfl, fun _ => rfl⟩
theorem fg_X6_53 : gFld RX6 53 6 1 3 := ⟨(RX6, TX6, 17), rfl, by decide, inG_X6, gG_2 183 (by decide +kernel) (by decide +kernel), (by decide +kernel)⟩
theorem fp_X6_53 : gPut RX6 53 6 1 (.object "GiftRegister$Owners") true := ⟨cl_X6, (RX6, TX6, 17), rfl, by decide, gG_2 183 (by decide +kernel) (by decide +kernel), (by decide +kernel), tyX6_ok 1 (by decide), rfl, fun _ => rfl⟩
theorem fg_X6_57 : gFld RX6 57 6 2 3 := ⟨(RX6, TX6, 17), rfl, by decide, inG_X6, gG_2 184 (by decide +kernel) (by decide +kernel), (by decide +kernel)⟩
theorem fp_X6_57 : gPut RX6 57 6 2 (.object "GiftRegister$Gifts") true := ⟨cl_X6, (RX6, TX6, 17), rfl, by decide, gG_2 184 (by decide +kernel) (by decide +kernel), (by decide +kernel), tyX6_ok 2 (by decide), rfl, fun _ => rfl⟩
theorem fg_X6_11 : gFld RX6 11 6 3 3 := ⟨(RX6, TX6, 17), rfl, by decide, inG_X6, gG_2 185 (by decide +kernel) (by decide +kernel), (by decide +kernel)⟩
theorem fp_X6_11 : gPut RX6 11 6 3 (.array .int) true := ⟨cl_X6, (RX6, TX6, 17), rfl, by decide, gG_2 185 (by decide +kernel) (by decide +kernel), (by decide +kernel), tyX6_ok 3 (by decide), rfl, fun _ => rfl⟩
theorem fg_X6_15 : gFld RX6 15 6 4 3 := ⟨(RX6, TX6, 17), rfl, by decide, inG_X6, gG_2 186 (by decide +kernel) (by decide +kernel), (by decide +kernel)⟩
theorem fp_X6_15 : gPut RX6 15 6 4 (.array .long) true := ⟨cl_X6, (RX6, TX6, 17), rfl, by decide, gG_2 186 (by decide +kernel) (by decide +kernel), (by decide +kernel), tyX6_ok 4 (by decide), rfl, fun _ => rfl⟩
theorem fg_X6_19 : gFld RX6 19 6 5 3 := ⟨(RX6, TX6, 17), rfl, by decide, inG_X6, gG_2 187 (by decide +kernel) (by decide +kernel), (by decide +kernel)⟩
theorem fp_X6_19 : gPut RX6 19 6 5 (.array .int) true := ⟨cl_X6, (RX6, TX6, 17), rfl, by decide, gG_2 187 (by decide +kernel) (by decide +kernel), (by decide +kernel), tyX6_ok 5 (by decide), rfl, fun _ => rfl⟩
theorem fg_X6_22 : gFld RX6 22 6 6 3 := ⟨(RX6, TX6, 17), rfl, by decide, inG_X6, gG_2 188 (by decide +kernel) (by decide +kernel), (by decide +kernel)⟩
theorem fp_X6_22 : gPut RX6 22 6 6 (.array .int) true := ⟨cl_X6, (RX6, TX6, 17), rfl, by decide, gG_2 188 (by decide +kernel) (by decide +kernel), (by decide +kernel), tyX6_ok 6 (by decide), rfl, fun _ => rfl⟩
theorem fg_X6_25 : gFld RX6 25 6 7 3 := ⟨(RX6, TX6, 17), rfl, by decide, inG_X6, gG_2 189 (by decide +kernel) (by decide +kernel), (by decide +kernel)⟩
theorem fp_X6_25 : gPut RX6 25 6 7 (.array .int) true := ⟨cl_X6, (RX6, TX6, 17), rfl, by decide, gG_2 189 (by decide +kernel) (by decide +kernel), (by decide +kernel), tyX6_ok 7 (by decide), rfl, fun _ => rfl⟩
theorem fg_X6_61 : gFld RX6 61 6 8 0 := ⟨(RX6, TX6, 17), rfl, by decide, inG_X6, gG_2 190 (by decide +kernel) (by decide +kernel), (by decide +kernel)⟩
theorem fp_X6_61 : gPut RX6 61 6 8 .int false := ⟨cl_X6, (RX6, TX6, 17), rfl, by decide, gG_2 190 (by decide +kernel) (by decide +kernel), (by decide +kernel), tyX6_ok 8 (by decide), rfl, fun h => by cases h⟩
theorem fg_X6_28 : gFld RX6 28 6 9 3 := ⟨(RX6, TX6, 17), rfl, by decide, inG_X6, gG_2 191 (by decide +kernel) (by decide +kernel), (by decide +kernel)⟩
theorem fp_X6_28 : gPut RX6 28 6 9 (.array .long) true := ⟨cl_X6, (RX6, TX6, 17), rfl, by decide, gG_2 191 (by decide +kernel) (by decide +kernel), (by decide +kernel), tyX6_ok 9 (by decide), rfl, fun _ => rfl⟩
theorem fg_X6_31 : gFld RX6 31 6 10 3 := ⟨(RX6, TX6, 17), rfl, by decide, inG_X6, gG_2 192 (by decide +kernel) (by decide +kernel), (by decide +kernel)⟩
theorem fp_X6_31 : gPut RX6 31 6 10 (.array .long) true := ⟨cl_X6, (RX6, TX6, 17), rfl, by decide, gG_2 192 (by decide +kernel) (by decide +kernel), (by decide +kernel), tyX6_ok 10 (by decide), rfl, fun _ => rfl⟩
theorem fg_X6_34 : gFld RX6 34 6 11 3 := ⟨(RX6, TX6, 17), rfl, by decide, inG_X6, gG_2 193 (by decide +kernel) (by decide +kernel), (by decide +kernel)⟩
theorem fp_X6_34 : gPut RX6 34 6 11 (.array .long) true := ⟨cl_X6, (RX6, TX6, 17), rfl, by decide, gG_2 193 (by decide +kernel) (by decide +kernel), (by decide +kernel), tyX6_ok 11 (by decide), rfl, fun _ => rfl⟩
theorem fg_X6_37 : gFld RX6 37 6 12 3 := ⟨(RX6, TX6, 17), rfl, by decide, inG_X6, gG_2 194 (by decide +kernel) (by decide +kernel), (by decide +kernel)⟩
theorem fp_X6_37 : gPut RX6 37 6 12 (.array .int) true := ⟨cl_X6, (RX6, TX6, 17), rfl, by decide, gG_2 194 (by decide +kernel) (by decide +kernel), (by decide +kernel), tyX6_ok 12 (by decide), rfl, fun _ => rfl⟩
theorem fg_X6_40 : gFld RX6 40 6 13 3 := ⟨(RX6, TX6, 17), rfl, by decide, inG_X6, gG_2 195 (by decide +kernel) (by decide +kernel), (by decide +kernel)⟩
theorem fp_X6_40 : gPut RX6 40 6 13 (.array .int) true := ⟨cl_X6, (RX6, TX6, 17), rfl, by decide, gG_2 195 (by decide +kernel) (by decide +kernel), (by decide +kernel), tyX6_ok 13 (by decide), rfl, fun _ => rfl⟩
theorem fg_X6_43 : gFld RX6 43 6 14 3 := ⟨(RX6, TX6, 17), rfl, by decide, inG_X6, gG_2 196 (by decide +kernel) (by decide +kernel), (by decide +kernel)⟩
theorem fp_X6_43 : gPut RX6 43 6 14 (.array .int) true := ⟨cl_X6, (RX6, TX6, 17), rfl, by decide, gG_2 196 (by decide +kernel) (by decide +kernel), (by decide +kernel), tyX6_ok 14 (by decide), rfl, fun _ => rfl⟩
theorem fg_X6_46 : gFld RX6 46 6 15 3 := ⟨(RX6, TX6, 17), rfl, by decide, inG_X6, gG_2 197 (by decide +kernel) (by decide +kernel), (by decide +kernel)⟩
theorem fp_X6_46 : gPut RX6 46 6 15 (.array .int) true := ⟨cl_X6, (RX6, TX6, 17), rfl, by decide, gG_2 197 (by decide +kernel) (by decide +kernel), (by decide +kernel), tyX6_ok 15 (by decide), rfl, fun _ => rfl⟩
theorem fg_X6_147 : gFld RX6 147 6 16 0 := ⟨(RX6, TX6, 17), rfl, by decide, inG_X6, gG_2 198 (by decide +kernel) (by decide +kernel), (by decide +kernel)⟩
theorem fp_X6_147 : gPut RX6 147 6 16 .int false := ⟨cl_X6, (RX6, TX6, 17), rfl, by decide, gG_2 198 (by decide +kernel) (by decide +kernel), (by decide +kernel), tyX6_ok 16 (by decide), rfl, fun h => by cases h⟩
theorem cn_X11_80 : Cond.classLink RX11 80 RX1 ∈ gG := gG_2 234 (by decide +kernel) (by decide +kernel)
theorem lk_X11_82 : Cond.methodLink RX11 82 yX1_init ∈ gG := gG_2 236 (by decide +kernel) (by decide +kernel)
theorem fg_X1_34 : gFld RX1 34 1 0 3 := ⟨(RX1, TX1, 11), rfl, by decide, inG_X1, gG_3 0 (by decide +kernel) (by decide +kernel), (by decide +kernel)⟩
theorem fp_X1_34 : gPut RX1 34 1 0 (.object "GiftRegister$Judge") true := ⟨cl_X1, (RX1, TX1, 11), rfl, by decide, gG_3 0 (by decide +kernel) (by decide +kernel), (by decide +kernel), tyX1_ok 0 (by decide), rfl, fun _ => rfl⟩
theorem fg_X1_11 : gFld RX1 11 1 1 3 := ⟨(RX1, TX1, 11), rfl, by decide, inG_X1, gG_3 1 (by decide +kernel) (by decide +kernel), (by decide +kernel)⟩
theorem fp_X1_11 : gPut RX1 11 1 1 (.array .int) true := ⟨cl_X1, (RX1, TX1, 11), rfl, by decide, gG_3 1 (by decide +kernel) (by decide +kernel), (by decide +kernel), tyX1_ok 1 (by decide), rfl, fun _ => rfl⟩
theorem fg_X1_38 : gFld RX1 38 1 2 0 := ⟨(RX1, TX1, 11), rfl, by decide, inG_X1, gG_3 2 (by decide +kernel) (by decide +kernel), (by decide +kernel)⟩
theorem fp_X1_38 : gPut RX1 38 1 2 .int false := ⟨cl_X1, (RX1, TX1, 11), rfl, by decide, gG_3 2 (by decide +kernel) (by decide +kernel), (by decide +kernel), tyX1_ok 2 (by decide), rfl, fun h => by cases h⟩
theorem fg_X1_15 : gFld RX1 15 1 3 3 := ⟨(RX1, TX1, 11), rfl, by decide, inG_X1, gG_3 3 (by decide +kernel) (by decide +kernel), (by decide +kernel)⟩
theorem fp_X1_15 : gPut RX1 15 1 3 (.array .int) true := ⟨cl_X1, (RX1, TX1, 11), rfl, by decide, gG_3 3 (by decide +kernel) (by decide +kernel), (by decide +kernel), tyX1_ok 3 (by decide), rfl, fun _ => rfl⟩
theorem fg_X1_18 : gFld RX1 18 1 4 3 := ⟨(RX1, TX1, 11), rfl, by decide, inG_X1, gG_3 4 (by decide +kernel) (by decide +kernel), (by decide +kernel)⟩
theorem fp_X1_18 : gPut RX1 18 1 4 (.array .int) true := ⟨cl_X1, (RX1, TX1, 11), rfl, by decide, gG_3 4 (by decide +kernel) (by decide +kernel), (by decide +kernel), tyX1_ok 4 (by decide), rfl, fun _ => rfl⟩
theorem fg_X1_42 : gFld RX1 42 1 5 0 := ⟨(RX1, TX1, 11), rfl, by decide, inG_X1, gG_3 5 (by decide +kernel) (by decide +kernel), (by decide +kernel)⟩
theorem fp_X1_42 : gPut RX1 42 1 5 .int false := ⟨cl_X1, (RX1, TX1, 11), rfl, by decide, gG_3 5 (by decide +kernel) (by decide +kernel), (by decide +kernel), tyX1_ok 5 (by decide), rfl, fun h => by cases h⟩
theorem fg_X1_21 : gFld RX1 21 1 6 3 := ⟨(RX1, TX1, 11), rfl, by decide, inG_X1, gG_3 6 (by decide +kernel) (by decide +kernel), (by decide +kernel)⟩
theorem fp_X1_21 : gPut RX1 21 1 6 (.array .int) true := ⟨cl_X1, (RX1, TX1, 11), rfl, by decide, gG_3 6 (by decide +kernel) (by decide +kernel), (by decide +kernel), tyX1_ok 6 (by decide), rfl, fun _ => rfl⟩
theorem fg_X1_24 : gFld RX1 24 1 7 3 := ⟨(RX1, TX1, 11), rfl, by decide, inG_X1, gG_3 7 (by decide +kernel) (by decide +kernel), (by decide +kernel)⟩
theorem fp_X1_24 : gPut RX1 24 1 7 (.array .int) true := ⟨cl_X1, (RX1, TX1, 11), rfl, by decide, gG_3 7 (by decide +kernel) (by decide +kernel), (by decide +kernel), tyX1_ok 7 (by decide), rfl, fun _ => rfl⟩
theorem fg_X1_27 : gFld RX1 27 1 8 3 := ⟨(RX1, TX1, 11), rfl, by decide, inG_X1, gG_3 8 (by decide +kernel) (by decide +kernel), (by decide +kernel)⟩
theorem fp_X1_27 : gPut RX1 27 1 8 (.array .boolean) true := ⟨cl_X1, (RX1, TX1, 11), rfl, by decide, gG_3 8 (by decide +kernel) (by decide +kernel), (by decide +kernel), tyX1_ok 8 (by decide), rfl, fun _ => rfl⟩
theorem fg_X1_31 : gFld RX1 31 1 9 3 := ⟨(RX1, TX1, 11), rfl, by decide, inG_X1, gG_3 9 (by decide +kernel) (by decide +kernel), (by decide +kernel)⟩
theorem fp_X1_31 : gPut RX1 31 1 9 (.array .int) true := ⟨cl_X1, (RX1, TX1, 11), rfl, by decide, gG_3 9 (by decide +kernel) (by decide +kernel), (by decide +kernel), tyX1_ok 9 (by decide), rfl, fun _ => rfl⟩
theorem fg_X1_45 : gFld RX1 45 1 10 0 := ⟨(RX1, TX1, 11), rfl, by decide, inG_X1, gG_3 10 (by decide +kernel) (by decide +kernel), (by decide +kernel)⟩
theorem fp_X1_45 : gPut RX1 45 1 10 .int false := ⟨cl_X1, (RX1, TX1, 11), rfl, by decide, gG_3 10 (by decide +kernel) (by decide +kernel), (by decide +kernel), tyX1_ok 10 (by decide), rfl, fun h => by cases h⟩
theorem fg_X11_9 : gFld RX11 9 11 0 3 := ⟨(RX11, TX11, 14), rfl, by decide, inG_X11, gG_3 34 (by decide +kernel) (by decide +kernel), (by decide +kernel)⟩
theorem fp_X11_9 : gPut RX11 9 11 0 (.array .int) true := ⟨cl_X11, (RX11, TX11, 14), rfl, by decide, gG_3 34 (by decide +kernel) (by decide +kernel), (by decide +kernel), tyX11_ok 0 (by decide), rfl, fun _ => rfl⟩
theorem fg_X11_89 : gFld RX11 89 11 1 0 := ⟨(RX11, TX11, 14), rfl, by decide, inG_X11, gG_3 35 (by decide +kernel) (by decide +kernel), (by decide +kernel)⟩
theorem fp_X11_89 : gPut RX11 89 11 1 .int false := ⟨cl_X11, (RX11, TX11, 14), rfl, by decide, gG_3 35 (by decide +kernel) (by decide +kernel), (by decide +kernel), tyX11_ok 1 (by decide), rfl, fun h => by cases h⟩
theorem fg_X11_15 : gFld RX11 15 11 2 3 := ⟨(RX11, TX11, 14), rfl, by decide, inG_X11, gG_3 36 (by decide +kernel) (by decide +kernel), (by decide +kernel)⟩
theorem fp_X11_15 : gPut RX11 15 11 2 (.array .int) true := ⟨cl_X11, (RX11, TX11, 14), rfl, by decide, gG_3 36 (by decide +kernel) (by decide +kernel), (by decide +kernel), tyX11_ok 2 (by decide), rfl, fun _ => rfl⟩
theorem fg_X11_182 : gFld RX11 182 11 3 0 := ⟨(RX11, TX11, 14), rfl, by decide, inG_X11, gG_3 37 (by decide +kernel) (by decide +kernel), (by decide +kernel)⟩
theorem fp_X11_182 : gPut RX11 182 11 3 .int false := ⟨cl_X11, (RX11, TX11, 14), rfl, by decide, gG_3 37 (by decide +kernel) (by decide +kernel), (by decide +kernel), tyX11_ok 3 (by decide), rfl, fun h => by cases h⟩
theorem fg_X11_96 : gFld RX11 96 11 4 0 := ⟨(RX11, TX11, 14), rfl, by decide, inG_X11, gG_3 38 (by decide +kernel) (by decide +kernel), (by decide +kernel)⟩
theorem fp_X11_96 : gPut RX11 96 11 4 .int false := ⟨cl_X11, (RX11, TX11, 14), rfl, by decide, gG_3 38 (by decide +kernel) (by decide +kernel), (by decide +kernel), tyX11_ok 4 (by decide), rfl, fun h => by cases h⟩
theorem fg_X11_21 : gFld RX11 21 11 5 3 := ⟨(RX11, TX11, 14), rfl, by decide, inG_X11, gG_3 39 (by decide +kernel) (by decide +kernel), (by decide +kernel)⟩
theorem fp_X11_21 : gPut RX11 21 11 5 (.object "GiftRegister$Parties") true := ⟨cl_X11, (RX11, TX11, 14), rfl, by decide, gG_3 39 (by decide +kernel) (by decide +kernel), (by decide +kernel), tyX11_ok 5 (by decide), rfl, fun _ => rfl⟩
theorem fg_X11_28 : gFld RX11 28 11 6 3 := ⟨(RX11, TX11, 14), rfl, by decide, inG_X11, gG_3 40 (by decide +kernel) (by decide +kernel), (by decide +kernel)⟩
theorem fp_X11_28 : gPut RX11 28 11 6 (.object "GiftRegister$Owners") true := ⟨cl_X11, (RX11, TX11, 14), rfl, by decide, gG_3 40 (by decide +kernel) (by decide +kernel), (by decide +kernel), tyX11_ok 6 (by decide), rfl, fun _ => rfl⟩
theorem fg_X11_35 : gFld RX11 35 11 7 3 := ⟨(RX11, TX11, 14), rfl, by decide, inG_X11, gG_3 41 (by decide +kernel) (by decide +kernel), (by decide +kernel)⟩
theorem fp_X11_35 : gPut RX11 35 11 7 (.object "GiftRegister$Chains") true := ⟨cl_X11, (RX11, TX11, 14), rfl, by decide, gG_3 41 (by decide +kernel) (by decide +kernel), (by decide +kernel), tyX11_ok 7 (by decide), rfl, fun _ => rfl⟩
theorem fg_X11_44 : gFld RX11 44 11 8 3 := ⟨(RX11, TX11, 14), rfl, by decide, inG_X11, gG_3 42 (by decide +kernel) (by decide +kernel), (by decide +kernel)⟩
theorem fp_X11_44 : gPut RX11 44 11 8 (.object "GiftRegister$Spans") true := ⟨cl_X11, (RX11, TX11, 14), rfl, by decide, gG_3 42 (by decide +kernel) (by decide +kernel), (by decide +kernel), tyX11_ok 8 (by decide), rfl, fun _ => rfl⟩
theorem fg_X11_51 : gFld RX11 51 11 9 3 := ⟨(RX11, TX11, 14), rfl, by decide, inG_X11, gG_3 43 (by decide +kernel) (by decide +kernel), (by decide +kernel)⟩
theorem fp_X11_51 : gPut RX11 51 11 9 (.object "GiftRegister$Gifts") true := ⟨cl_X11, (RX11, TX11, 14), rfl, by decide, gG_3 43 (by decide +kernel) (by decide +kernel), (by decide +kernel), tyX11_ok 9 (by decide), rfl, fun _ => rfl⟩
theorem fg_X11_58 : gFld RX11 58 11 10 3 := ⟨(RX11, TX11, 14), rfl, by decide, inG_X11, gG_3 44 (by decide +kernel) (by decide +kernel), (by decide +kernel)⟩
theorem fp_X11_58 : gPut RX11 58 11 10 (.object "GiftRegister$LawBook") true := ⟨cl_X11, (RX11, TX11, 14), rfl, by decide, gG_3 44 (by decide +kernel) (by decide +kernel), (by decide +kernel), tyX11_ok 10 (by decide), rfl, fun _ => rfl⟩
theorem fg_X11_67 : gFld RX11 67 11 11 3 := ⟨(RX11, TX11, 14), rfl, by decide, inG_X11, gG_3 45 (by decide +kernel) (by decide +kernel), (by decide +kernel)⟩
theorem fp_X11_67 : gPut RX11 67 11 11 (.object "GiftRegister$Judge") true := ⟨cl_X11, (RX11, TX11, 14), rfl, by decide, gG_3 45 (by decide +kernel) (by decide +kernel), (by decide +kernel), tyX11_ok 11 (by decide), rfl, fun _ => rfl⟩
theorem fg_X11_76 : gFld RX11 76 11 12 3 := ⟨(RX11, TX11, 14), rfl, by decide, inG_X11, gG_3 46 (by decide +kernel) (by decide +kernel), (by decide +kernel)⟩
theorem fp_X11_76 : gPut RX11 76 11 12 (.object "GiftRegister$Lists") true := ⟨cl_X11, (RX11, TX11, 14), rfl, by decide, gG_3 46 (by decide +kernel) (by decide +kernel), (by decide +kernel), tyX11_ok 12 (by decide), rfl, fun _ => rfl⟩
theorem fg_X11_85 : gFld RX11 85 11 13 3 := ⟨(RX11, TX11, 14), rfl, by decide, inG_X11, gG_3 47 (by decide +kernel) (by decide +kernel), (by decide +kernel)⟩
theorem fp_X11_85 : gPut RX11 85 11 13 (.object "GiftRegister$Council") true := ⟨cl_X11, (RX11, TX11, 14), rfl, by decide, gG_3 47 (by decide +kernel) (by decide +kernel), (by decide +kernel), tyX11_ok 13 (by decide), rfl, fun _ => rfl⟩
theorem lk_L_30 : Cond.methodLink RL 30 yX11_feed ∈ gG := gG_3 77 (by decide +kernel) (by decide +kernel)
theorem lk_X11_93 : Cond.methodLink RX11 93 yX11_putNumber ∈ gG := gG_3 81 (by decide +kernel) (by decide +kernel)
theorem lk_L_35 : Cond.methodLink RL 35 yX11_end ∈ gG := gG_3 85 (by decide +kernel) (by decide +kernel)
theorem lk_L_40 : Cond.methodLink RL 40 yX11_next ∈ gG := gG_3 89 (by decide +kernel) (by decide +kernel)
theorem lk_L_44 : Cond.methodLink RL 44 yX11_party ∈ gG := gG_3 93 (by decide +kernel) (by decide +kernel)
theorem lk_X11_99 : Cond.methodLink RX11 99 yX11_takeName ∈ gG := gG_3 97 (by decide +kernel) (by decide +kernel)
theorem lk_X11_107 : Cond.methodLink RX11 107 yX8_nameOf ∈ gG := gG_3 101 (by decide +kernel) (by decide +kernel)
theorem ct_X8_35 : Cond.constantLong RX8 35 (Int64.ofInt (-1)) ∈ gG := gG_3 104 (by decide +kernel) (by decide +kernel)
theorem lk_X11_103 : Cond.methodLink RX11 103 yX8_add ∈ gG := gG_3 105 (by decide +kernel) (by decide +kernel)
theorem lk_L_48 : Cond.methodLink RL 48 yX11_owns ∈ gG := gG_3 109 (by decide +kernel) (by decide +kernel)
theorem lk_X11_111 : Cond.methodLink RX11 111 yX8_has ∈ gG := gG_3 113 (by decide +kernel) (by decide +kernel)
theorem lk_X11_115 : Cond.methodLink RX11 115 yX8_canBeHeld ∈ gG := gG_3 117 (by decide +kernel) (by decide +kernel)
theorem lk_X8_40 : Cond.methodLink RX8 40 yX8_has ∈ gG := gG_3 121 (by decide +kernel) (by decide +kernel)
theorem lk_X11_118 : Cond.methodLink RX11 118 yX11_isSpan ∈ gG := gG_3 122 (by decide +kernel) (by decide +kernel)
theorem lk_X11_129 : Cond.methodLink RX11 129 yX11_isDay ∈ gG := gG_3 125 (by decide +kernel) (by decide +kernel)
theorem lk_X11_122 : Cond.methodLink RX11 122 yX7_exceedsWhole ∈ gG := gG_3 128 (by decide +kernel) (by decide +kernel)
theorem lk_X7_57 : Cond.methodLink RX7 57 yX7_isTooMuch ∈ gG := gG_3 132 (by decide +kernel) (by decide +kernel)
theorem lk_X7_53 : Cond.methodLink RX7 53 yX9_total ∈ gG := gG_3 136 (by decide +kernel) (by decide +kernel)
theorem lk_X7_65 : Cond.methodLink RX7 65 yX9_second ∈ gG := gG_3 140 (by decide +kernel) (by decide +kernel)
theorem lk_X7_68 : Cond.methodLink RX7 68 yX9_covers ∈ gG := gG_3 144 (by decide +kernel) (by decide +kernel)
theorem lk_X7_72 : Cond.methodLink RX7 72 yX9_share ∈ gG := gG_3 148 (by decide +kernel) (by decide +kernel)
theorem lk_X7_61 : Cond.methodLink RX7 61 yX9_start ∈ gG := gG_3 152 (by decide +kernel) (by decide +kernel)
theorem lk_X11_126 : Cond.methodLink RX11 126 yX7_add ∈ gG := gG_3 156 (by decide +kernel) (by decide +kernel)
theorem lk_X7_75 : Cond.methodLink RX7 75 yX9_add ∈ gG := gG_3 160 (by decide +kernel) (by decide +kernel)
theorem lk_X7_79 : Cond.methodLink RX7 79 yX7_comesBehind ∈ gG := gG_3 164 (by decide +kernel) (by decide +kernel)
theorem lk_X7_82 : Cond.methodLink RX7 82 yX9_first ∈ gG := gG_3 168 (by decide +kernel) (by decide +kernel)
theorem lk_L_52 : Cond.methodLink RL 52 yX11_kin ∈ gG := gG_3 172 (by decide +kernel) (by decide +kernel)
theorem lk_X11_132 : Cond.methodLink RX11 132 yX8_isPerson ∈ gG := gG_3 176 (by decide +kernel) (by decide +kernel)
theorem lk_X11_135 : Cond.methodLink RX11 135 yX8_addKin ∈ gG := gG_3 180 (by decide +kernel) (by decide +kernel)
theorem lk_X8_51 : Cond.methodLink RX8 51 yX9_add ∈ gG := gG_3 184 (by decide +kernel) (by decide +kernel)
theorem lk_L_57 : Cond.methodLink RL 57 yX11_post ∈ gG := gG_3 185 (by decide +kernel) (by decide +kernel)
theorem lk_X11_139 : Cond.methodLink RX11 139 yX9_add ∈ gG := gG_3 189 (by decide +kernel) (by decide +kernel)
theorem lk_L_61 : Cond.methodLink RL 61 yX11_gift ∈ gG := gG_3 190 (by decide +kernel) (by decide +kernel)
theorem lk_X11_140 : Cond.methodLink RX11 140 yX11_isRange ∈ gG := gG_3 194 (by decide +kernel) (by decide +kernel)
theorem ct_X11_150 : Cond.constant RX11 150 (Int32.ofInt (1000000)) ∈ gG := gG_3 197 (by decide +kernel) (by decide +kernel)
theorem lk_X11_144 : Cond.methodLink RX11 144 yX2_add ∈ gG := gG_3 198 (by decide +kernel) (by decide +kernel)
theorem lk_X11_146 : Cond.methodLink RX11 146 yX2_describe ∈ gG := gG_3 202 (by decide +kernel) (by decide +kernel)
theorem lk_X2_62 : Cond.methodLink RX2 62 yX2_has ∈ gG := gG_3 206 (by decide +kernel) (by decide +kernel)
theorem lk_L_66 : Cond.methodLink RL 66 yX11_worth ∈ gG := gG_3 210 (by decide +kernel) (by decide +kernel)
theorem lk_X11_151 : Cond.methodLink RX11 151 yX2_has ∈ gG := gG_3 214 (by decide +kernel) (by decide +kernel)
theorem lk_X11_152 : Cond.methodLink RX11 152 yX2_addWorth ∈ gG := gG_3 215 (by decide +kernel) (by decide +kernel)
theorem lk_L_71 : Cond.methodLink RL 71 yX11_back ∈ gG := gG_3 219 (by decide +kernel) (by decide +kernel)
theorem lk_X11_155 : Cond.methodLink RX11 155 yX2_giveBack ∈ gG := gG_3 223 (by decide +kernel) (by decide +kernel)
theorem lk_L_76 : Cond.methodLink RL 76 yX11_tell ∈ gG := gG_3 227 (by decide +kernel) (by decide +kernel)
theorem lk_X11_158 : Cond.methodLink RX11 158 yX2_noteTold ∈ gG := gG_3 231 (by decide +kernel) (by decide +kernel)
theorem lk_L_80 : Cond.methodLink RL 80 yX11_law ∈ gG := gG_3 235 (by decide +kernel) (by decide +kernel)
theorem lk_X11_161 : Cond.methodLink RX11 161 yX5_add ∈ gG := gG_3 239 (by decide +kernel) (by decide +kernel)
theorem lk_X5_55 : Cond.methodLink RX5 55 yX4_clear ∈ gG := gG_4 4 (by decide +kernel) (by decide +kernel)
theorem lk_X4_61 : Cond.methodLink RX4 61 yJ7_fill_53178 ∈ gG := gG_4 8 (by decide +kernel) (by decide +kernel)
theorem lk_X5_59 : Cond.methodLink RX5 59 yX10_open ∈ gG := gG_4 11 (by decide +kernel) (by decide +kernel)
theorem lk_X10_15 : Cond.methodLink RX10 15 yJ9_min_7cf53 ∈ gG := gG_4 15 (by decide +kernel) (by decide +kernel)
theorem lk_X10_21 : Cond.methodLink RX10 21 yJ9_max_7cf53 ∈ gG := gG_4 18 (by decide +kernel) (by decide +kernel)
theorem lk_X5_72 : Cond.methodLink RX5 72 yX10_advance ∈ gG := gG_4 21 (by decide +kernel) (by decide +kernel)
theorem lk_X10_43 : Cond.methodLink RX10 43 yX10_byteAt ∈ gG := gG_4 25 (by decide +kernel) (by decide +kernel)
theorem lk_X10_47 : Cond.methodLink RX10 47 yX10_isBlank ∈ gG := gG_4 29 (by decide +kernel) (by decide +kernel)
theorem lk_X10_51 : Cond.methodLink RX10 51 yX10_isPlain ∈ gG := gG_4 32 (by decide +kernel) (by decide +kernel)
theorem lk_X10_60 : Cond.methodLink RX10 60 yX10_isLetter ∈ gG := gG_4 35 (by decide +kernel) (by decide +kernel)
theorem lk_X10_63 : Cond.methodLink RX10 63 yX10_isDigit ∈ gG := gG_4 38 (by decide +kernel) (by decide +kernel)
theorem lk_X10_54 : Cond.methodLink RX10 54 yX10_takeRun ∈ gG := gG_4 41 (by decide +kernel) (by decide +kernel)
theorem lk_X10_66 : Cond.methodLink RX10 66 yX10_wordFrom ∈ gG := gG_4 45 (by decide +kernel) (by decide +kernel)
theorem lk_X10_71 : Cond.methodLink RX10 71 yJ0_length_8abf5 ∈ gG := gG_4 50 (by decide +kernel) (by decide +kernel)
theorem lk_J0_335 : Cond.methodLink RJ0 335 yJ0_coder_7d493 ∈ gG := gG_4 54 (by decide +kernel) (by decide +kernel)
theorem lk_X10_76 : Cond.methodLink RX10 76 yJ0_charAt_5068e ∈ gG := gG_4 60 (by decide +kernel) (by decide +kernel)
theorem lk_J0_492 : Cond.methodLink RJ0 492 yJ0_isLatin1_aae02 ∈ gG := gG_4 64 (by decide +kernel) (by decide +kernel)
theorem lk_J0_495 : Cond.methodLink RJ0 495 yJ1_charAt_3b067 ∈ gG := gG_4 68 (by decide +kernel) (by decide +kernel)
theorem lk_J1_9 : Cond.methodLink RJ1 9 yJ0_checkIndex_df160 ∈ gG := gG_4 71 (by decide +kernel) (by decide +kernel)
theorem lk_J0_1059 : Cond.methodLink RJ0 1059 yJ3_checkIndex_8e157 ∈ gG := gG_4 76 (by decide +kernel) (by decide +kernel)
theorem lk_J0_498 : Cond.methodLink RJ0 498 yJ2_charAt_3b067 ∈ gG := gG_4 79 (by decide +kernel) (by decide +kernel)
theorem lk_J2_67 : Cond.methodLink RJ2 67 yJ2_checkIndex_2214a ∈ gG := gG_4 82 (by decide +kernel) (by decide +kernel)
theorem lk_J2_48 : Cond.methodLink RJ2 48 yJ2_length_9d52b ∈ gG := gG_4 85 (by decide +kernel) (by decide +kernel)
theorem lk_J2_414 : Cond.methodLink RJ2 414 yJ0_checkIndex_df160 ∈ gG := gG_4 88 (by decide +kernel) (by decide +kernel)
theorem lk_J2_71 : Cond.methodLink RJ2 71 yJ2_getChar_3b067 ∈ gG := gG_4 89 (by decide +kernel) (by decide +kernel)
theorem lk_X10_80 : Cond.methodLink RX10 80 yX10_isSpelt ∈ gG := gG_4 98 (by decide +kernel) (by decide +kernel)
theorem lk_X10_57 : Cond.methodLink RX10 57 yX10_isSign ∈ gG := gG_4 102 (by decide +kernel) (by decide +kernel)
theorem lk_X5_75 : Cond.methodLink RX5 75 yX10_kind ∈ gG := gG_4 105 (by decide +kernel) (by decide +kernel)
theorem lk_X5_78 : Cond.methodLink RX5 78 yX10_value ∈ gG := gG_4 109 (by decide +kernel) (by decide +kernel)
theorem lk_X5_81 : Cond.methodLink RX5 81 yX5_take ∈ gG := gG_4 113 (by decide +kernel) (by decide +kernel)
theorem lk_X5_91 : Cond.methodLink RX5 91 yX5_takeEnd ∈ gG := gG_4 117 (by decide +kernel) (by decide +kernel)
theorem lk_X5_126 : Cond.methodLink RX5 126 yX10_isCutOff ∈ gG := gG_4 121 (by decide +kernel) (by decide +kernel)
theorem lk_X5_94 : Cond.methodLink RX5 94 yX5_takeRule ∈ gG := gG_4 125 (by decide +kernel) (by decide +kernel)
theorem lk_X5_130 : Cond.methodLink RX5 130 yX4_totalTells ∈ gG := gG_4 129 (by decide +kernel) (by decide +kernel)
theorem lk_X5_98 : Cond.methodLink RX5 98 yX5_takeIf ∈ gG := gG_4 133 (by decide +kernel) (by decide +kernel)
theorem lk_X5_140 : Cond.methodLink RX5 140 yX4_addTell ∈ gG := gG_4 137 (by decide +kernel) (by decide +kernel)
theorem lk_X5_146 : Cond.methodLink RX5 146 yX4_begin ∈ gG := gG_4 141 (by decide +kernel) (by decide +kernel)
theorem lk_X5_101 : Cond.methodLink RX5 101 yX5_takeDays ∈ gG := gG_4 145 (by decide +kernel) (by decide +kernel)
theorem lk_X5_104 : Cond.methodLink RX5 104 yX5_takeOne ∈ gG := gG_4 149 (by decide +kernel) (by decide +kernel)
theorem lk_X5_159 : Cond.methodLink RX5 159 yX5_isAtom ∈ gG := gG_4 153 (by decide +kernel) (by decide +kernel)
theorem lk_X5_162 : Cond.methodLink RX5 162 yX5_await ∈ gG := gG_4 157 (by decide +kernel) (by decide +kernel)
theorem lk_X5_165 : Cond.methodLink RX5 165 yX5_isCompared ∈ gG := gG_4 161 (by decide +kernel) (by decide +kernel)
theorem lk_X5_113 : Cond.methodLink RX5 113 yX5_takeAtom ∈ gG := gG_4 164 (by decide +kernel) (by decide +kernel)
theorem lk_X5_168 : Cond.methodLink RX5 168 yX4_put ∈ gG := gG_4 168 (by decide +kernel) (by decide +kernel)
theorem lk_X5_172 : Cond.methodLink RX5 172 yX5_closeNots ∈ gG := gG_4 172 (by decide +kernel) (by decide +kernel)
theorem lk_X5_181 : Cond.methodLink RX5 181 yX5_lastWaiting ∈ gG := gG_4 176 (by decide +kernel) (by decide +kernel)
theorem lk_X5_117 : Cond.methodLink RX5 117 yX5_takeLink ∈ gG := gG_4 180 (by decide +kernel) (by decide +kernel)
theorem lk_X5_175 : Cond.methodLink RX5 175 yX5_closeLinks ∈ gG := gG_4 184 (by decide +kernel) (by decide +kernel)
theorem lk_X5_178 : Cond.methodLink RX5 178 yX4_finish ∈ gG := gG_4 188 (by decide +kernel) (by decide +kernel)
theorem lk_X5_123 : Cond.methodLink RX5 123 yX5_takeRuleEnd ∈ gG := gG_4 192 (by decide +kernel) (by decide +kernel)
theorem lk_X5_190 : Cond.methodLink RX5 190 yX4_countRule ∈ gG := gG_4 196 (by decide +kernel) (by decide +kernel)
theorem lk_X5_120 : Cond.methodLink RX5 120 yX5_takeSetting ∈ gG := gG_4 200 (by decide +kernel) (by decide +kernel)
theorem lk_X5_184 : Cond.methodLink RX5 184 yX5_greatestFor ∈ gG := gG_4 204 (by decide +kernel) (by decide +kernel)
theorem lk_X5_187 : Cond.methodLink RX5 187 yX4_set ∈ gG := gG_4 207 (by decide +kernel) (by decide +kernel)
theorem lk_X5_85 : Cond.methodLink RX5 85 yX10_place ∈ gG := gG_4 211 (by decide +kernel) (by decide +kernel)
theorem lk_X5_88 : Cond.methodLink RX5 88 yX4_totalRules ∈ gG := gG_4 215 (by decide +kernel) (by decide +kernel)
theorem lk_L_84 : Cond.methodLink RL 84 yX11_fault ∈ gG := gG_4 220 (by decide +kernel) (by decide +kernel)
theorem lk_X11_164 : Cond.methodLink RX11 164 yX5_lastFault ∈ gG := gG_4 224 (by decide +kernel) (by decide +kernel)
theorem lk_L_89 : Cond.methodLink RL 89 yX11_part ∈ gG := gG_4 228 (by decide +kernel) (by decide +kernel)
theorem ct_X11_168 : Cond.constantLong RX11 168 (Int64.ofInt (-1)) ∈ gG := gG_4 232 (by decide +kernel) (by decide +kernel)
theorem lk_X11_170 : Cond.methodLink RX11 170 yX0_partOf ∈ gG := gG_4 233 (by decide +kernel) (by decide +kernel)
theorem lk_X0_26 : Cond.methodLink RX0 26 yX0_walk ∈ gG := gG_4 237 (by decide +kernel) (by decide +kernel)
theorem lk_X0_42 : Cond.methodLink RX0 42 yX7_load ∈ gG := gG_5 1 (by decide +kernel) (by decide +kernel)
theorem lk_X7_92 : Cond.methodLink RX7 92 yX9_isKnown ∈ gG := gG_5 5 (by decide +kernel) (by decide +kernel)
theorem lk_X0_48 : Cond.methodLink RX0 48 yJ7_fill_d0a16 ∈ gG := gG_5 9 (by decide +kernel) (by decide +kernel)
theorem ct_X0_64 : Cond.constantLong RX0 64 (Int64.ofInt (10000000000000000)) ∈ gG := gG_5 12 (by decide +kernel) (by decide +kernel)
theorem lk_X0_66 : Cond.methodLink RX0 66 yX0_stepOn ∈ gG := gG_5 13 (by decide +kernel) (by decide +kernel)
theorem lk_X0_70 : Cond.methodLink RX0 70 yX7_pastArrows ∈ gG := gG_5 16 (by decide +kernel) (by decide +kernel)
theorem lk_X0_74 : Cond.methodLink RX0 74 yX7_firstArrow ∈ gG := gG_5 20 (by decide +kernel) (by decide +kernel)
theorem lk_X0_77 : Cond.methodLink RX0 77 yX7_targetOf ∈ gG := gG_5 24 (by decide +kernel) (by decide +kernel)
theorem ct_X0_80 : Cond.constantLong RX0 80 (Int64.ofInt (10000)) ∈ gG := gG_5 28 (by decide +kernel) (by decide +kernel)
theorem lk_X0_82 : Cond.methodLink RX0 82 yX7_partOn ∈ gG := gG_5 29 (by decide +kernel) (by decide +kernel)
theorem lk_X0_85 : Cond.methodLink RX0 85 yX0_keepBest ∈ gG := gG_5 33 (by decide +kernel) (by decide +kernel)
theorem ct_X0_89 : Cond.constantLong RX0 89 (Int64.ofInt (-1)) ∈ gG := gG_5 37 (by decide +kernel) (by decide +kernel)
theorem lk_L_94 : Cond.methodLink RL 94 yX11_chain ∈ gG := gG_5 38 (by decide +kernel) (by decide +kernel)
theorem lk_X11_174 : Cond.methodLink RX11 174 yX0_findBest ∈ gG := gG_5 42 (by decide +kernel) (by decide +kernel)
theorem lk_X11_178 : Cond.methodLink RX11 178 yX0_copyBest ∈ gG := gG_5 46 (by decide +kernel) (by decide +kernel)
theorem lk_L_107 : Cond.methodLink RL 107 yX11_head ∈ gG := gG_5 50 (by decide +kernel) (by decide +kernel)
theorem lk_X11_192 : Cond.methodLink RX11 192 yX7_headOf ∈ gG := gG_5 54 (by decide +kernel) (by decide +kernel)
theorem lk_X7_95 : Cond.methodLink RX7 95 yX7_load ∈ gG := gG_5 58 (by decide +kernel) (by decide +kernel)
theorem lk_X7_99 : Cond.methodLink RX7 99 yX7_findHeads ∈ gG := gG_5 59 (by decide +kernel) (by decide +kernel)
theorem lk_X7_102 : Cond.methodLink RX7 102 yX7_controlledBy ∈ gG := gG_5 63 (by decide +kernel) (by decide +kernel)
theorem lk_X7_110 : Cond.methodLink RX7 110 yJ7_fill_53178 ∈ gG := gG_5 67 (by decide +kernel) (by decide +kernel)
theorem lk_X7_116 : Cond.methodLink RX7 116 yX7_pastArrows ∈ gG := gG_5 68 (by decide +kernel) (by decide +kernel)
theorem lk_X7_119 : Cond.methodLink RX7 119 yX7_firstArrow ∈ gG := gG_5 69 (by decide +kernel) (by decide +kernel)
theorem lk_X7_122 : Cond.methodLink RX7 122 yX7_targetOf ∈ gG := gG_5 70 (by decide +kernel) (by decide +kernel)
theorem lk_X7_125 : Cond.methodLink RX7 125 yX7_partOn ∈ gG := gG_5 71 (by decide +kernel) (by decide +kernel)
theorem lk_X7_106 : Cond.methodLink RX7 106 yX7_headAmong ∈ gG := gG_5 72 (by decide +kernel) (by decide +kernel)
theorem lk_X7_128 : Cond.methodLink RX7 128 yJ9_min_7cf53 ∈ gG := gG_5 76 (by decide +kernel) (by decide +kernel)
theorem lk_L_111 : Cond.methodLink RL 111 yX11_degree ∈ gG := gG_5 77 (by decide +kernel) (by decide +kernel)
theorem lk_X11_196 : Cond.methodLink RX11 196 yX8_degreeOf ∈ gG := gG_5 81 (by decide +kernel) (by decide +kernel)
theorem lk_X8_59 : Cond.methodLink RX8 59 yX8_spread ∈ gG := gG_5 85 (by decide +kernel) (by decide +kernel)
theorem lk_X8_55 : Cond.methodLink RX8 55 yX9_total ∈ gG := gG_5 89 (by decide +kernel) (by decide +kernel)
theorem lk_X8_72 : Cond.methodLink RX8 72 yJ7_fill_53178 ∈ gG := gG_5 90 (by decide +kernel) (by decide +kernel)
theorem lk_X8_78 : Cond.methodLink RX8 78 yX9_isKnown ∈ gG := gG_5 91 (by decide +kernel) (by decide +kernel)
theorem lk_X8_82 : Cond.methodLink RX8 82 yX9_covers ∈ gG := gG_5 92 (by decide +kernel) (by decide +kernel)
theorem lk_X8_85 : Cond.methodLink RX8 85 yX9_first ∈ gG := gG_5 93 (by decide +kernel) (by decide +kernel)
theorem lk_X8_89 : Cond.methodLink RX8 89 yX9_second ∈ gG := gG_5 94 (by decide +kernel) (by decide +kernel)
theorem lk_X8_92 : Cond.methodLink RX8 92 yX8_reach ∈ gG := gG_5 95 (by decide +kernel) (by decide +kernel)
theorem lk_L_119 : Cond.methodLink RL 119 yX11_member ∈ gG := gG_5 99 (by decide +kernel) (by decide +kernel)
theorem lk_X11_220 : Cond.methodLink RX11 220 yX1_addMember ∈ gG := gG_5 103 (by decide +kernel) (by decide +kernel)
theorem lk_X1_48 : Cond.methodLink RX1 48 yX1_isMember ∈ gG := gG_5 107 (by decide +kernel) (by decide +kernel)
theorem lk_L_123 : Cond.methodLink RL 123 yX11_matter ∈ gG := gG_5 111 (by decide +kernel) (by decide +kernel)
theorem lk_X11_224 : Cond.methodLink RX11 224 yX1_addMatter ∈ gG := gG_5 115 (by decide +kernel) (by decide +kernel)
theorem lk_L_128 : Cond.methodLink RL 128 yX11_sits ∈ gG := gG_5 119 (by decide +kernel) (by decide +kernel)
theorem lk_X11_227 : Cond.methodLink RX11 227 yX1_hasMatter ∈ gG := gG_5 123 (by decide +kernel) (by decide +kernel)
theorem lk_X11_230 : Cond.methodLink RX11 230 yX1_dutyOf ∈ gG := gG_5 127 (by decide +kernel) (by decide +kernel)
theorem lk_X1_52 : Cond.methodLink RX1 52 yX1_hasMatter ∈ gG := gG_5 131 (by decide +kernel) (by decide +kernel)
theorem lk_X1_55 : Cond.methodLink RX1 55 yX3_dutyFor ∈ gG := gG_5 132 (by decide +kernel) (by decide +kernel)
theorem lk_X3_80 : Cond.methodLink RX3 80 yX5_inForce ∈ gG := gG_5 136 (by decide +kernel) (by decide +kernel)
theorem lk_X5_43 : Cond.methodLink RX5 43 yX4_isInForce ∈ gG := gG_5 140 (by decide +kernel) (by decide +kernel)
theorem lk_X5_47 : Cond.methodLink RX5 47 yX4_since ∈ gG := gG_5 144 (by decide +kernel) (by decide +kernel)
theorem lk_X3_86 : Cond.methodLink RX3 86 yJ7_fill_53178 ∈ gG := gG_5 148 (by decide +kernel) (by decide +kernel)
theorem lk_X3_92 : Cond.methodLink RX3 92 yX3_weigh ∈ gG := gG_5 149 (by decide +kernel) (by decide +kernel)
theorem lk_X3_134 : Cond.methodLink RX3 134 yX7_headOf ∈ gG := gG_5 153 (by decide +kernel) (by decide +kernel)
theorem lk_X3_54 : Cond.methodLink RX3 54 yX2_total ∈ gG := gG_5 154 (by decide +kernel) (by decide +kernel)
theorem lk_X3_74 : Cond.methodLink RX3 74 yX2_dayOf ∈ gG := gG_5 158 (by decide +kernel) (by decide +kernel)
theorem lk_X3_60 : Cond.methodLink RX3 60 yX2_isKnown ∈ gG := gG_5 162 (by decide +kernel) (by decide +kernel)
theorem lk_X3_140 : Cond.methodLink RX3 140 yX4_year ∈ gG := gG_5 166 (by decide +kernel) (by decide +kernel)
theorem lk_X3_64 : Cond.methodLink RX3 64 yX2_receiver ∈ gG := gG_5 170 (by decide +kernel) (by decide +kernel)
theorem lk_X3_108 : Cond.methodLink RX3 108 yX8_degreeOf ∈ gG := gG_5 174 (by decide +kernel) (by decide +kernel)
theorem lk_X3_112 : Cond.methodLink RX3 112 yX4_kinLimit ∈ gG := gG_5 175 (by decide +kernel) (by decide +kernel)
theorem lk_X3_77 : Cond.methodLink RX3 77 yX2_giver ∈ gG := gG_5 179 (by decide +kernel) (by decide +kernel)
theorem lk_X3_126 : Cond.methodLink RX3 126 yX2_isBackBy ∈ gG := gG_5 183 (by decide +kernel) (by decide +kernel)
theorem lk_X2_78 : Cond.methodLink RX2 78 yX2_backOn ∈ gG := gG_5 187 (by decide +kernel) (by decide +kernel)
theorem lk_X3_71 : Cond.methodLink RX3 71 yX2_leastOf ∈ gG := gG_5 191 (by decide +kernel) (by decide +kernel)
theorem lk_X2_75 : Cond.methodLink RX2 75 yX2_latestWorth ∈ gG := gG_5 195 (by decide +kernel) (by decide +kernel)
theorem lk_X2_69 : Cond.methodLink RX2 69 yJ9_min_7cf53 ∈ gG := gG_5 199 (by decide +kernel) (by decide +kernel)
theorem lk_X3_103 : Cond.methodLink RX3 103 yX8_isPerson ∈ gG := gG_5 200 (by decide +kernel) (by decide +kernel)
theorem lk_X3_143 : Cond.methodLink RX3 143 yX4_old ∈ gG := gG_5 201 (by decide +kernel) (by decide +kernel)
theorem lk_X3_146 : Cond.methodLink RX3 146 yX3_hasPost ∈ gG := gG_5 205 (by decide +kernel) (by decide +kernel)
theorem lk_X3_162 : Cond.methodLink RX3 162 yX9_total ∈ gG := gG_5 209 (by decide +kernel) (by decide +kernel)
theorem lk_X3_165 : Cond.methodLink RX3 165 yX9_first ∈ gG := gG_5 210 (by decide +kernel) (by decide +kernel)
theorem lk_X3_168 : Cond.methodLink RX3 168 yX9_isKnown ∈ gG := gG_5 211 (by decide +kernel) (by decide +kernel)
theorem lk_X3_169 : Cond.methodLink RX3 169 yX9_start ∈ gG := gG_5 212 (by decide +kernel) (by decide +kernel)
theorem lk_X3_172 : Cond.methodLink RX3 172 yX9_stop ∈ gG := gG_5 213 (by decide +kernel) (by decide +kernel)
theorem lk_X3_175 : Cond.methodLink RX3 175 yX9_second ∈ gG := gG_5 217 (by decide +kernel) (by decide +kernel)
theorem lk_X3_150 : Cond.methodLink RX3 150 yX4_uses ∈ gG := gG_5 218 (by decide +kernel) (by decide +kernel)
theorem lk_X3_153 : Cond.methodLink RX3 153 yX0_cutPartOf ∈ gG := gG_5 222 (by decide +kernel) (by decide +kernel)
theorem ct_X0_30 : Cond.constantLong RX0 30 (Int64.ofInt (1000000000000)) ∈ gG := gG_5 226 (by decide +kernel) (by decide +kernel)
theorem lk_X3_158 : Cond.methodLink RX3 158 yX3_greatestOfKin ∈ gG := gG_5 227 (by decide +kernel) (by decide +kernel)
theorem lk_X3_178 : Cond.methodLink RX3 178 yX8_total ∈ gG := gG_5 231 (by decide +kernel) (by decide +kernel)
theorem lk_X3_179 : Cond.methodLink RX3 179 yJ9_max_7cf53 ∈ gG := gG_5 235 (by decide +kernel) (by decide +kernel)
theorem lk_X3_130 : Cond.methodLink RX3 130 yX4_holds ∈ gG := gG_5 236 (by decide +kernel) (by decide +kernel)
theorem lk_X4_67 : Cond.methodLink RX4 67 yX4_isTrue ∈ gG := gG_6 0 (by decide +kernel) (by decide +kernel)
theorem lk_L_132 : Cond.methodLink RL 132 yX11_quorum ∈ gG := gG_6 4 (by decide +kernel) (by decide +kernel)
theorem lk_X11_233 : Cond.methodLink RX11 233 yX1_quorumOf ∈ gG := gG_6 8 (by decide +kernel) (by decide +kernel)
theorem lk_X1_61 : Cond.methodLink RX1 61 yX3_seatsNeeded ∈ gG := gG_6 12 (by decide +kernel) (by decide +kernel)
theorem lk_X3_184 : Cond.methodLink RX3 184 yX4_seatsNeeded ∈ gG := gG_6 16 (by decide +kernel) (by decide +kernel)
theorem lk_L_136 : Cond.methodLink RL 136 yX11_entry ∈ gG := gG_6 20 (by decide +kernel) (by decide +kernel)
theorem lk_X11_236 : Cond.methodLink RX11 236 yX6_add ∈ gG := gG_6 24 (by decide +kernel) (by decide +kernel)
theorem lk_L_140 : Cond.methodLink RL 140 yX11_joined ∈ gG := gG_6 28 (by decide +kernel) (by decide +kernel)
theorem lk_X11_239 : Cond.methodLink RX11 239 yX6_join ∈ gG := gG_6 32 (by decide +kernel) (by decide +kernel)
theorem lk_X6_75 : Cond.methodLink RX6 75 yJ7_fill_d0a16 ∈ gG := gG_6 36 (by decide +kernel) (by decide +kernel)
theorem lk_X6_81 : Cond.methodLink RX6 81 yJ7_fill_53178 ∈ gG := gG_6 37 (by decide +kernel) (by decide +kernel)
theorem ct_X6_84 : Cond.constantLong RX6 84 (Int64.ofInt (-1)) ∈ gG := gG_6 38 (by decide +kernel) (by decide +kernel)
theorem lk_X6_86 : Cond.methodLink RX6 86 yX6_findFits ∈ gG := gG_6 39 (by decide +kernel) (by decide +kernel)
theorem lk_X6_97 : Cond.methodLink RX6 97 yX6_isKnown ∈ gG := gG_6 43 (by decide +kernel) (by decide +kernel)
theorem lk_X6_65 : Cond.methodLink RX6 65 yX6_has ∈ gG := gG_6 47 (by decide +kernel) (by decide +kernel)
theorem lk_X6_101 : Cond.methodLink RX6 101 yX7_headOf ∈ gG := gG_6 51 (by decide +kernel) (by decide +kernel)
theorem lk_X6_107 : Cond.methodLink RX6 107 yX2_total ∈ gG := gG_6 52 (by decide +kernel) (by decide +kernel)
theorem lk_X6_113 : Cond.methodLink RX6 113 yX2_dayOf ∈ gG := gG_6 53 (by decide +kernel) (by decide +kernel)
theorem lk_X6_117 : Cond.methodLink RX6 117 yX2_isKnown ∈ gG := gG_6 54 (by decide +kernel) (by decide +kernel)
theorem lk_X6_118 : Cond.methodLink RX6 118 yX2_toldOn ∈ gG := gG_6 55 (by decide +kernel) (by decide +kernel)
theorem lk_X6_122 : Cond.methodLink RX6 122 yX2_leastOf ∈ gG := gG_6 59 (by decide +kernel) (by decide +kernel)
theorem lk_X6_125 : Cond.methodLink RX6 125 yX2_mostOf ∈ gG := gG_6 60 (by decide +kernel) (by decide +kernel)
theorem lk_X6_128 : Cond.methodLink RX6 128 yX2_receiver ∈ gG := gG_6 64 (by decide +kernel) (by decide +kernel)
theorem lk_X6_131 : Cond.methodLink RX6 131 yX8_isNamed ∈ gG := gG_6 65 (by decide +kernel) (by decide +kernel)
theorem lk_X6_135 : Cond.methodLink RX6 135 yX2_giver ∈ gG := gG_6 69 (by decide +kernel) (by decide +kernel)
theorem lk_X6_90 : Cond.methodLink RX6 90 yX6_grow ∈ gG := gG_6 70 (by decide +kernel) (by decide +kernel)
theorem lk_X6_150 : Cond.methodLink RX6 150 yX6_giftJoined ∈ gG := gG_6 77 (by decide +kernel) (by decide +kernel)
theorem lk_X6_153 : Cond.methodLink RX6 153 yX6_await ∈ gG := gG_6 81 (by decide +kernel) (by decide +kernel)
theorem lk_X6_156 : Cond.methodLink RX6 156 yX6_reachFrom ∈ gG := gG_6 85 (by decide +kernel) (by decide +kernel)
theorem lk_X6_162 : Cond.methodLink RX6 162 yX6_isChoice ∈ gG := gG_6 89 (by decide +kernel) (by decide +kernel)
theorem lk_X6_138 : Cond.methodLink RX6 138 yX6_isGift ∈ gG := gG_6 93 (by decide +kernel) (by decide +kernel)
theorem lk_X6_159 : Cond.methodLink RX6 159 yX6_shift ∈ gG := gG_6 96 (by decide +kernel) (by decide +kernel)
theorem lk_X6_166 : Cond.methodLink RX6 166 yX6_put ∈ gG := gG_6 100 (by decide +kernel) (by decide +kernel)
theorem lk_X6_93 : Cond.methodLink RX6 93 yX6_settle ∈ gG := gG_6 104 (by decide +kernel) (by decide +kernel)
theorem lk_X6_169 : Cond.methodLink RX6 169 yX6_force ∈ gG := gG_6 108 (by decide +kernel) (by decide +kernel)
theorem lk_L_147 : Cond.methodLink RL 147 yX11_vote ∈ gG := gG_6 112 (by decide +kernel) (by decide +kernel)
theorem lk_X11_251 : Cond.methodLink RX11 251 yX1_addVote ∈ gG := gG_6 116 (by decide +kernel) (by decide +kernel)
theorem lk_L_152 : Cond.methodLink RL 152 yX11_links ∈ gG := gG_6 120 (by decide +kernel) (by decide +kernel)
theorem lk_X11_255 : Cond.methodLink RX11 255 yX1_tallyOf ∈ gG := gG_6 124 (by decide +kernel) (by decide +kernel)
theorem lk_X1_65 : Cond.methodLink RX1 65 yX3_isWarm ∈ gG := gG_6 128 (by decide +kernel) (by decide +kernel)
theorem lk_X3_187 : Cond.methodLink RX3 187 yX4_link ∈ gG := gG_6 132 (by decide +kernel) (by decide +kernel)
theorem lk_L_160 : Cond.methodLink RL 160 yX11_asked ∈ gG := gG_6 136 (by decide +kernel) (by decide +kernel)
theorem lk_X11_264 : Cond.methodLink RX11 264 yX0_greatestPart ∈ gG := gG_6 140 (by decide +kernel) (by decide +kernel)
theorem lk_X0_32 : Cond.methodLink RX0 32 yJ9_max_f86c9 ∈ gG := gG_6 144 (by decide +kernel) (by decide +kernel)
theorem lk_X11_267 : Cond.methodLink RX11 267 yX3_recordOf ∈ gG := gG_6 147 (by decide +kernel) (by decide +kernel)
theorem lk_X3_68 : Cond.methodLink RX3 68 yX2_toldOn ∈ gG := gG_6 151 (by decide +kernel) (by decide +kernel)
theorem lk_X3_39 : Cond.methodLink RX3 39 yX3_decide ∈ gG := gG_6 152 (by decide +kernel) (by decide +kernel)
theorem lk_X3_96 : Cond.methodLink RX3 96 yX2_sortOf ∈ gG := gG_6 156 (by decide +kernel) (by decide +kernel)
theorem lk_X3_99 : Cond.methodLink RX3 99 yX2_isForeign ∈ gG := gG_6 160 (by decide +kernel) (by decide +kernel)
theorem lk_X3_117 : Cond.methodLink RX3 117 yX2_mostOf ∈ gG := gG_6 164 (by decide +kernel) (by decide +kernel)
theorem lk_X3_120 : Cond.methodLink RX3 120 yX4_totalTells ∈ gG := gG_6 165 (by decide +kernel) (by decide +kernel)
theorem lk_X3_123 : Cond.methodLink RX3 123 yX4_within ∈ gG := gG_6 166 (by decide +kernel) (by decide +kernel)
theorem lk_X3_43 : Cond.methodLink RX3 43 yX3_stateOf ∈ gG := gG_6 170 (by decide +kernel) (by decide +kernel)
theorem lk_L_164 : Cond.methodLink RL 164 yX11_count ∈ gG := gG_6 174 (by decide +kernel) (by decide +kernel)
theorem lk_X11_270 : Cond.methodLink RX11 270 yX8_total ∈ gG := gG_6 178 (by decide +kernel) (by decide +kernel)
theorem lk_X11_273 : Cond.methodLink RX11 273 yX7_total ∈ gG := gG_6 179 (by decide +kernel) (by decide +kernel)
theorem lk_X11_274 : Cond.methodLink RX11 274 yX8_totalKin ∈ gG := gG_6 183 (by decide +kernel) (by decide +kernel)
theorem lk_X11_277 : Cond.methodLink RX11 277 yX9_total ∈ gG := gG_6 187 (by decide +kernel) (by decide +kernel)
theorem lk_X11_278 : Cond.methodLink RX11 278 yX2_total ∈ gG := gG_6 188 (by decide +kernel) (by decide +kernel)
theorem lk_X11_279 : Cond.methodLink RX11 279 yX5_total ∈ gG := gG_6 189 (by decide +kernel) (by decide +kernel)
theorem lk_X11_280 : Cond.methodLink RX11 280 yX1_totalMatters ∈ gG := gG_6 193 (by decide +kernel) (by decide +kernel)
theorem lk_X11_283 : Cond.methodLink RX11 283 yX6_total ∈ gG := gG_6 197 (by decide +kernel) (by decide +kernel)
theorem lk_X11_284 : Cond.methodLink RX11 284 yX1_totalVotes ∈ gG := gG_6 201 (by decide +kernel) (by decide +kernel)
theorem lk_X11_287 : Cond.methodLink RX11 287 yX1_totalMembers ∈ gG := gG_6 205 (by decide +kernel) (by decide +kernel)
theorem lk_L_98 : Cond.methodLink RL 98 yL_octet ∈ gG := gG_6 209 (by decide +kernel) (by decide +kernel)
theorem lk_L_7 : Cond.methodLink RL 7 yX11_octet ∈ gG := gG_6 213 (by decide +kernel) (by decide +kernel)
theorem lk_L_115 : Cond.methodLink RL 115 yL_judged ∈ gG := gG_7 42 (by decide +kernel) (by decide +kernel)
theorem lk_L_15 : Cond.methodLink RL 15 yX11_judged ∈ gG := gG_7 45 (by decide +kernel) (by decide +kernel)
theorem lk_X11_199 : Cond.methodLink RX11 199 yX2_isKnown ∈ gG := gG_7 49 (by decide +kernel) (by decide +kernel)
theorem lk_X11_204 : Cond.methodLink RX11 204 yX2_leastOf ∈ gG := gG_7 51 (by decide +kernel) (by decide +kernel)
theorem lk_X11_208 : Cond.methodLink RX11 208 yX2_mostOf ∈ gG := gG_7 52 (by decide +kernel) (by decide +kernel)
theorem lk_X11_211 : Cond.methodLink RX11 211 yX2_backOn ∈ gG := gG_7 53 (by decide +kernel) (by decide +kernel)
theorem lk_X11_214 : Cond.methodLink RX11 214 yX2_toldOn ∈ gG := gG_7 54 (by decide +kernel) (by decide +kernel)
theorem lk_X11_217 : Cond.methodLink RX11 217 yX3_answerFor ∈ gG := gG_7 55 (by decide +kernel) (by decide +kernel)
theorem lk_L_144 : Cond.methodLink RL 144 yL_entered ∈ gG := gG_7 59 (by decide +kernel) (by decide +kernel)
theorem lk_L_19 : Cond.methodLink RL 19 yX11_entered ∈ gG := gG_7 62 (by decide +kernel) (by decide +kernel)
theorem lk_X11_242 : Cond.methodLink RX11 242 yX6_isKnown ∈ gG := gG_7 66 (by decide +kernel) (by decide +kernel)
theorem lk_X11_245 : Cond.methodLink RX11 245 yX6_giftJoined ∈ gG := gG_7 68 (by decide +kernel) (by decide +kernel)
theorem lk_X11_248 : Cond.methodLink RX11 248 yX6_bearersOf ∈ gG := gG_7 69 (by decide +kernel) (by decide +kernel)
theorem lk_X6_69 : Cond.methodLink RX6 69 yX8_peopleNamed ∈ gG := gG_7 73 (by decide +kernel) (by decide +kernel)
theorem lk_X8_44 : Cond.methodLink RX8 44 yX8_isPerson ∈ gG := gG_7 77 (by decide +kernel) (by decide +kernel)
theorem lk_X8_47 : Cond.methodLink RX8 47 yX8_isNamed ∈ gG := gG_7 78 (by decide +kernel) (by decide +kernel)
theorem lk_L_156 : Cond.methodLink RL 156 yL_chance ∈ gG := gG_7 79 (by decide +kernel) (by decide +kernel)
theorem lk_L_22 : Cond.methodLink RL 22 yX11_chance ∈ gG := gG_7 82 (by decide +kernel) (by decide +kernel)
theorem lk_X11_260 : Cond.methodLink RX11 260 yX1_chanceOf ∈ gG := gG_7 87 (by decide +kernel) (by decide +kernel)
theorem lk_X1_69 : Cond.methodLink RX1 69 yX1_tallyOf ∈ gG := gG_7 91 (by decide +kernel) (by decide +kernel)
theorem lk_X1_72 : Cond.methodLink RX1 72 yX1_waysToTake ∈ gG := gG_7 92 (by decide +kernel) (by decide +kernel)
theorem lk_X1_76 : Cond.methodLink RX1 76 yX1_commonDivisor ∈ gG := gG_7 95 (by decide +kernel) (by decide +kernel)
theorem cn_L_27 : Cond.classLink RL 27 RX12 ∈ gG := gG_7 98 (by decide +kernel) (by decide +kernel)
theorem lk_L_29 : Cond.methodLink RL 29 yX12_init ∈ gG := gG_7 100 (by decide +kernel) (by decide +kernel)
theorem fg_X12_244 : gFld RX12 244 12 0 0 := ⟨(RX12, TX12, 116), rfl, by decide, inG_X12, gG_7 104 (by decide +kernel) (by decide +kernel), (by decide +kernel)⟩
theorem fp_X12_244 : gPut RX12 244 12 0 .int false := ⟨cl_X12, (RX12, TX12, 116), rfl, by decide, gG_7 104 (by decide +kernel) (by decide +kernel), (by decide +kernel), tyX12_ok 0 (by decide), rfl, fun h => by cases h⟩
theorem fg_X12_7 : gFld RX12 7 12 1 3 := ⟨(RX12, TX12, 116), rfl, by decide, inG_X12, gG_7 105 (by decide +kernel) (by decide +kernel), (by decide +kernel)⟩
theorem fp_X12_7 : gPut RX12 7 12 1 (.array .int) true := ⟨cl_X12, (RX12, TX12, 116), rfl, by decide, gG_7 105 (by decide +kernel) (by decide +kernel), (by decide +kernel), tyX12_ok 1 (by decide), rfl, fun _ => rfl⟩
theorem fg_X12_247 : gFld RX12 247 12 2 0 := ⟨(RX12, TX12, 116), rfl, by decide, inG_X12, gG_7 106 (by decide +kernel) (by decide +kernel), (by decide +kernel)⟩
theorem fp_X12_247 : gPut RX12 247 12 2 .int false := ⟨cl_X12, (RX12, TX12, 116), rfl, by decide, gG_7 106 (by decide +kernel) (by decide +kernel), (by decide +kernel), tyX12_ok 2 (by decide), rfl, fun h => by cases h⟩
theorem fg_X12_258 : gFld RX12 258 12 3 0 := ⟨(RX12, TX12, 116), rfl, by decide, inG_X12, gG_7 107 (by decide +kernel) (by decide +kernel), (by decide +kernel)⟩
theorem fp_X12_258 : gPut RX12 258 12 3 .int false := ⟨cl_X12, (RX12, TX12, 116), rfl, by decide, gG_7 107 (by decide +kernel) (by decide +kernel), (by decide +kernel), tyX12_ok 3 (by decide), rfl, fun h => by cases h⟩
theorem fg_X12_13 : gFld RX12 13 12 4 3 := ⟨(RX12, TX12, 116), rfl, by decide, inG_X12, gG_7 108 (by decide +kernel) (by decide +kernel), (by decide +kernel)⟩
theorem fp_X12_13 : gPut RX12 13 12 4 (.array .int) true := ⟨cl_X12, (RX12, TX12, 116), rfl, by decide, gG_7 108 (by decide +kernel) (by decide +kernel), (by decide +kernel), tyX12_ok 4 (by decide), rfl, fun _ => rfl⟩
theorem fg_X12_16 : gFld RX12 16 12 5 3 := ⟨(RX12, TX12, 116), rfl, by decide, inG_X12, gG_7 109 (by decide +kernel) (by decide +kernel), (by decide +kernel)⟩
theorem fp_X12_16 : gPut RX12 16 12 5 (.array .long) true := ⟨cl_X12, (RX12, TX12, 116), rfl, by decide, gG_7 109 (by decide +kernel) (by decide +kernel), (by decide +kernel), tyX12_ok 5 (by decide), rfl, fun _ => rfl⟩
theorem fg_X12_273 : gFld RX12 273 12 6 0 := ⟨(RX12, TX12, 116), rfl, by decide, inG_X12, gG_7 110 (by decide +kernel) (by decide +kernel), (by decide +kernel)⟩
theorem fp_X12_273 : gPut RX12 273 12 6 .int false := ⟨cl_X12, (RX12, TX12, 116), rfl, by decide, gG_7 110 (by decide +kernel) (by decide +kernel), (by decide +kernel), tyX12_ok 6 (by decide), rfl, fun h => by cases h⟩
theorem fg_X12_20 : gFld RX12 20 12 7 0 := ⟨(RX12, TX12, 116), rfl, by decide, inG_X12, gG_7 111 (by decide +kernel) (by decide +kernel), (by decide +kernel)⟩
theorem fp_X12_20 : gPut RX12 20 12 7 .int false := ⟨cl_X12, (RX12, TX12, 116), rfl, by decide, gG_7 111 (by decide +kernel) (by decide +kernel), (by decide +kernel), tyX12_ok 7 (by decide), rfl, fun h => by cases h⟩
theorem fg_X12_24 : gFld RX12 24 12 8 3 := ⟨(RX12, TX12, 116), rfl, by decide, inG_X12, gG_7 112 (by decide +kernel) (by decide +kernel), (by decide +kernel)⟩
theorem fp_X12_24 : gPut RX12 24 12 8 (.array .int) true := ⟨cl_X12, (RX12, TX12, 116), rfl, by decide, gG_7 112 (by decide +kernel) (by decide +kernel), (by decide +kernel), tyX12_ok 8 (by decide), rfl, fun _ => rfl⟩
theorem fg_X12_27 : gFld RX12 27 12 9 3 := ⟨(RX12, TX12, 116), rfl, by decide, inG_X12, gG_7 113 (by decide +kernel) (by decide +kernel), (by decide +kernel)⟩
theorem fp_X12_27 : gPut RX12 27 12 9 (.array .int) true := ⟨cl_X12, (RX12, TX12, 116), rfl, by decide, gG_7 113 (by decide +kernel) (by decide +kernel), (by decide +kernel), tyX12_ok 9 (by decide), rfl, fun _ => rfl⟩
theorem fg_X12_30 : gFld RX12 30 12 10 3 := ⟨(RX12, TX12, 116), rfl, by decide, inG_X12, gG_7 114 (by decide +kernel) (by decide +kernel), (by decide +kernel)⟩
theorem fp_X12_30 : gPut RX12 30 12 10 (.array .int) true := ⟨cl_X12, (RX12, TX12, 116), rfl, by decide, gG_7 114 (by decide +kernel) (by decide +kernel), (by decide +kernel), tyX12_ok 10 (by decide), rfl, fun _ => rfl⟩
theorem fg_X12_33 : gFld RX12 33 12 11 3 := ⟨(RX12, TX12, 116), rfl, by decide, inG_X12, gG_7 115 (by decide +kernel) (by decide +kernel), (by decide +kernel)⟩
theorem fp_X12_33 : gPut RX12 33 12 11 (.array .int) true := ⟨cl_X12, (RX12, TX12, 116), rfl, by decide, gG_7 115 (by decide +kernel) (by decide +kernel), (by decide +kernel), tyX12_ok 11 (by decide), rfl, fun _ => rfl⟩
theorem fg_X12_36 : gFld RX12 36 12 12 3 := ⟨(RX12, TX12, 116), rfl, by decide, inG_X12, gG_7 116 (by decide +kernel) (by decide +kernel), (by decide +kernel)⟩
theorem fp_X12_36 : gPut RX12 36 12 12 (.array .int) true := ⟨cl_X12, (RX12, TX12, 116), rfl, by decide, gG_7 116 (by decide +kernel) (by decide +kernel), (by decide +kernel), tyX12_ok 12 (by decide), rfl, fun _ => rfl⟩
theorem fg_X12_39 : gFld RX12 39 12 13 3 := ⟨(RX12, TX12, 116), rfl, by decide, inG_X12, gG_7 117 (by decide +kernel) (by decide +kernel), (by decide +kernel)⟩
theorem fp_X12_39 : gPut RX12 39 12 13 (.array .int) true := ⟨cl_X12, (RX12, TX12, 116), rfl, by decide, gG_7 117 (by decide +kernel) (by decide +kernel), (by decide +kernel), tyX12_ok 13 (by decide), rfl, fun _ => rfl⟩
theorem fg_X12_283 : gFld RX12 283 12 14 0 := ⟨(RX12, TX12, 116), rfl, by decide, inG_X12, gG_7 118 (by decide +kernel) (by decide +kernel), (by decide +kernel)⟩
theorem fp_X12_283 : gPut RX12 283 12 14 .int false := ⟨cl_X12, (RX12, TX12, 116), rfl, by decide, gG_7 118 (by decide +kernel) (by decide +kernel), (by decide +kernel), tyX12_ok 14 (by decide), rfl, fun h => by cases h⟩
theorem fg_X12_42 : gFld RX12 42 12 15 3 := ⟨(RX12, TX12, 116), rfl, by decide, inG_X12, gG_7 119 (by decide +kernel) (by decide +kernel), (by decide +kernel)⟩
theorem fp_X12_42 : gPut RX12 42 12 15 (.array .int) true := ⟨cl_X12, (RX12, TX12, 116), rfl, by decide, gG_7 119 (by decide +kernel) (by decide +kernel), (by decide +kernel), tyX12_ok 15 (by decide), rfl, fun _ => rfl⟩
theorem fg_X12_45 : gFld RX12 45 12 16 3 := ⟨(RX12, TX12, 116), rfl, by decide, inG_X12, gG_7 120 (by decide +kernel) (by decide +kernel), (by decide +kernel)⟩
theorem fp_X12_45 : gPut RX12 45 12 16 (.array .int) true := ⟨cl_X12, (RX12, TX12, 116), rfl, by decide, gG_7 120 (by decide +kernel) (by decide +kernel), (by decide +kernel), tyX12_ok 16 (by decide), rfl, fun _ => rfl⟩
theorem fg_X12_48 : gFld RX12 48 12 17 3 := ⟨(RX12, TX12, 116), rfl, by decide, inG_X12, gG_7 121 (by decide +kernel) (by decide +kernel), (by decide +kernel)⟩
theorem fp_X12_48 : gPut RX12 48 12 17 (.array .int) true := ⟨cl_X12, (RX12, TX12, 116), rfl, by decide, gG_7 121 (by decide +kernel) (by decide +kernel), (by decide +kernel), tyX12_ok 17 (by decide), rfl, fun _ => rfl⟩
theorem fg_X12_51 : gFld RX12 51 12 18 3 := ⟨(RX12, TX12, 116), rfl, by decide, inG_X12, gG_7 122 (by decide +kernel) (by decide +kernel), (by decide +kernel)⟩
theorem fp_X12_51 : gPut RX12 51 12 18 (.array .int) true := ⟨cl_X12, (RX12, TX12, 116), rfl, by decide, gG_7 122 (by decide +kernel) (by decide +kernel), (by decide +kernel), tyX12_ok 18 (by decide), rfl, fun _ => rfl⟩
theorem fg_X12_54 : gFld RX12 54 12 19 3 := ⟨(RX12, TX12, 116), rfl, by decide, inG_X12, gG_7 123 (by decide +kernel) (by decide +kernel), (by decide +kernel)⟩
theorem fp_X12_54 : gPut RX12 54 12 19 (.array .int) true := ⟨cl_X12, (RX12, TX12, 116), rfl, by decide, gG_7 123 (by decide +kernel) (by decide +kernel), (by decide +kernel), tyX12_ok 19 (by decide), rfl, fun _ => rfl⟩
theorem fg_X12_57 : gFld RX12 57 12 20 3 := ⟨(RX12, TX12, 116), rfl, by decide, inG_X12, gG_7 124 (by decide +kernel) (by decide +kernel), (by decide +kernel)⟩
theorem fp_X12_57 : gPut RX12 57 12 20 (.array .int) true := ⟨cl_X12, (RX12, TX12, 116), rfl, by decide, gG_7 124 (by decide +kernel) (by decide +kernel), (by decide +kernel), tyX12_ok 20 (by decide), rfl, fun _ => rfl⟩
theorem fg_X12_60 : gFld RX12 60 12 21 3 := ⟨(RX12, TX12, 116), rfl, by decide, inG_X12, gG_7 125 (by decide +kernel) (by decide +kernel), (by decide +kernel)⟩
theorem fp_X12_60 : gPut RX12 60 12 21 (.array .int) true := ⟨cl_X12, (RX12, TX12, 116), rfl, by decide, gG_7 125 (by decide +kernel) (by decide +kernel), (by decide +kernel), tyX12_ok 21 (by decide), rfl, fun _ => rfl⟩
theorem fg_X12_63 : gFld RX12 63 12 22 3 := ⟨(RX12, TX12, 116), rfl, by decide, inG_X12, gG_7 126 (by decide +kernel) (by decide +kernel), (by decide +kernel)⟩
theorem fp_X12_63 : gPut RX12 63 12 22 (.array .int) true := ⟨cl_X12, (RX12, TX12, 116), rfl, by decide, gG_7 126 (by decide +kernel) (by decide +kernel), (by decide +kernel), tyX12_ok 22 (by decide), rfl, fun _ => rfl⟩
theorem fg_X12_66 : gFld RX12 66 12 23 3 := ⟨(RX12, TX12, 116), rfl, by decide, inG_X12, gG_7 127 (by decide +kernel) (by decide +kernel), (by decide +kernel)⟩
theorem fp_X12_66 : gPut RX12 66 12 23 (.array .int) true := ⟨cl_X12, (RX12, TX12, 116), rfl, by decide, gG_7 127 (by decide +kernel) (by decide +kernel), (by decide +kernel), tyX12_ok 23 (by decide), rfl, fun _ => rfl⟩
theorem fg_X12_69 : gFld RX12 69 12 24 3 := ⟨(RX12, TX12, 116), rfl, by decide, inG_X12, gG_7 128 (by decide +kernel) (by decide +kernel), (by decide +kernel)⟩
theorem fp_X12_69 : gPut RX12 69 12 24 (.array .int) true := ⟨cl_X12, (RX12, TX12, 116), rfl, by decide, gG_7 128 (by decide +kernel) (by decide +kernel), (by decide +kernel), tyX12_ok 24 (by decide), rfl, fun _ => rfl⟩
theorem fg_X12_302 : gFld RX12 302 12 25 0 := ⟨(RX12, TX12, 116), rfl, by decide, inG_X12, gG_7 129 (by decide +kernel) (by decide +kernel), (by decide +kernel)⟩
theorem fp_X12_302 : gPut RX12 302 12 25 .int false := ⟨cl_X12, (RX12, TX12, 116), rfl, by decide, gG_7 129 (by decide +kernel) (by decide +kernel), (by decide +kernel), tyX12_ok 25 (by decide), rfl, fun h => by cases h⟩
theorem fg_X12_305 : gFld RX12 305 12 26 0 := ⟨(RX12, TX12, 116), rfl, by decide, inG_X12, gG_7 130 (by decide +kernel) (by decide +kernel), (by decide +kernel)⟩
theorem fp_X12_305 : gPut RX12 305 12 26 .int false := ⟨cl_X12, (RX12, TX12, 116), rfl, by decide, gG_7 130 (by decide +kernel) (by decide +kernel), (by decide +kernel), tyX12_ok 26 (by decide), rfl, fun h => by cases h⟩
theorem fg_X12_72 : gFld RX12 72 12 27 3 := ⟨(RX12, TX12, 116), rfl, by decide, inG_X12, gG_7 131 (by decide +kernel) (by decide +kernel), (by decide +kernel)⟩
theorem fp_X12_72 : gPut RX12 72 12 27 (.array .int) true := ⟨cl_X12, (RX12, TX12, 116), rfl, by decide, gG_7 131 (by decide +kernel) (by decide +kernel), (by decide +kernel), tyX12_ok 27 (by decide), rfl, fun _ => rfl⟩
theorem fg_X12_75 : gFld RX12 75 12 28 3 := ⟨(RX12, TX12, 116), rfl, by decide, inG_X12, gG_7 132 (by decide +kernel) (by decide +kernel), (by decide +kernel)⟩
theorem fp_X12_75 : gPut RX12 75 12 28 (.array .int) true := ⟨cl_X12, (RX12, TX12, 116), rfl, by decide, gG_7 132 (by decide +kernel) (by decide +kernel), (by decide +kernel), tyX12_ok 28 (by decide), rfl, fun _ => rfl⟩
theorem fg_X12_78 : gFld RX12 78 12 29 3 := ⟨(RX12, TX12, 116), rfl, by decide, inG_X12, gG_7 133 (by decide +kernel) (by decide +kernel), (by decide +kernel)⟩
theorem fp_X12_78 : gPut RX12 78 12 29 (.array .int) true := ⟨cl_X12, (RX12, TX12, 116), rfl, by decide, gG_7 133 (by decide +kernel) (by decide +kernel), (by decide +kernel), tyX12_ok 29 (by decide), rfl, fun _ => rfl⟩
theorem fg_X12_81 : gFld RX12 81 12 30 3 := ⟨(RX12, TX12, 116), rfl, by decide, inG_X12, gG_7 134 (by decide +kernel) (by decide +kernel), (by decide +kernel)⟩
theorem fp_X12_81 : gPut RX12 81 12 30 (.array .int) true := ⟨cl_X12, (RX12, TX12, 116), rfl, by decide, gG_7 134 (by decide +kernel) (by decide +kernel), (by decide +kernel), tyX12_ok 30 (by decide), rfl, fun _ => rfl⟩
theorem fg_X12_84 : gFld RX12 84 12 31 3 := ⟨(RX12, TX12, 116), rfl, by decide, inG_X12, gG_7 135 (by decide +kernel) (by decide +kernel), (by decide +kernel)⟩
theorem fp_X12_84 : gPut RX12 84 12 31 (.array .int) true := ⟨cl_X12, (RX12, TX12, 116), rfl, by decide, gG_7 135 (by decide +kernel) (by decide +kernel), (by decide +kernel), tyX12_ok 31 (by decide), rfl, fun _ => rfl⟩
theorem fg_X12_87 : gFld RX12 87 12 32 3 := ⟨(RX12, TX12, 116), rfl, by decide, inG_X12, gG_7 136 (by decide +kernel) (by decide +kernel), (by decide +kernel)⟩
theorem fp_X12_87 : gPut RX12 87 12 32 (.array .int) true := ⟨cl_X12, (RX12, TX12, 116), rfl, by decide, gG_7 136 (by decide +kernel) (by decide +kernel), (by decide +kernel), tyX12_ok 32 (by decide), rfl, fun _ => rfl⟩
theorem fg_X12_90 : gFld RX12 90 12 33 3 := ⟨(RX12, TX12, 116), rfl, by decide, inG_X12, gG_7 137 (by decide +kernel) (by decide +kernel), (by decide +kernel)⟩
theorem fp_X12_90 : gPut RX12 90 12 33 (.array .int) true := ⟨cl_X12, (RX12, TX12, 116), rfl, by decide, gG_7 137 (by decide +kernel) (by decide +kernel), (by decide +kernel), tyX12_ok 33 (by decide), rfl, fun _ => rfl⟩
theorem fg_X12_93 : gFld RX12 93 12 34 3 := ⟨(RX12, TX12, 116), rfl, by decide, inG_X12, gG_7 138 (by decide +kernel) (by decide +kernel), (by decide +kernel)⟩
theorem fp_X12_93 : gPut RX12 93 12 34 (.array .int) true := ⟨cl_X12, (RX12, TX12, 116), rfl, by decide, gG_7 138 (by decide +kernel) (by decide +kernel), (by decide +kernel), tyX12_ok 34 (by decide), rfl, fun _ => rfl⟩
theorem fg_X12_96 : gFld RX12 96 12 35 3 := ⟨(RX12, TX12, 116), rfl, by decide, inG_X12, gG_7 139 (by decide +kernel) (by decide +kernel), (by decide +kernel)⟩
theorem fp_X12_96 : gPut RX12 96 12 35 (.array .int) true := ⟨cl_X12, (RX12, TX12, 116), rfl, by decide, gG_7 139 (by decide +kernel) (by decide +kernel), (by decide +kernel), tyX12_ok 35 (by decide), rfl, fun _ => rfl⟩
theorem fg_X12_99 : gFld RX12 99 12 36 3 := ⟨(RX12, TX12, 116), rfl, by decide, inG_X12, gG_7 140 (by decide +kernel) (by decide +kernel), (by decide +kernel)⟩
theorem fp_X12_99 : gPut RX12 99 12 36 (.array .int) true := ⟨cl_X12, (RX12, TX12, 116), rfl, by decide, gG_7 140 (by decide +kernel) (by decide +kernel), (by decide +kernel), tyX12_ok 36 (by decide), rfl, fun _ => rfl⟩
theorem fg_X12_102 : gFld RX12 102 12 37 3 := ⟨(RX12, TX12, 116), rfl, by decide, inG_X12, gG_7 141 (by decide +kernel) (by decide +kernel), (by decide +kernel)⟩
theorem fp_X12_102 : gPut RX12 102 12 37 (.array .boolean) true := ⟨cl_X12, (RX12, TX12, 116), rfl, by decide, gG_7 141 (by decide +kernel) (by decide +kernel), (by decide +kernel), tyX12_ok 37 (by decide), rfl, fun _ => rfl⟩
theorem fg_X12_106 : gFld RX12 106 12 38 3 := ⟨(RX12, TX12, 116), rfl, by decide, inG_X12, gG_7 142 (by decide +kernel) (by decide +kernel), (by decide +kernel)⟩
theorem fp_X12_106 : gPut RX12 106 12 38 (.array .int) true := ⟨cl_X12, (RX12, TX12, 116), rfl, by decide, gG_7 142 (by decide +kernel) (by decide +kernel), (by decide +kernel), tyX12_ok 38 (by decide), rfl, fun _ => rfl⟩
theorem fg_X12_109 : gFld RX12 109 12 39 3 := ⟨(RX12, TX12, 116), rfl, by decide, inG_X12, gG_7 143 (by decide +kernel) (by decide +kernel), (by decide +kernel)⟩
theorem fp_X12_109 : gPut RX12 109 12 39 (.array .int) true := ⟨cl_X12, (RX12, TX12, 116), rfl, by decide, gG_7 143 (by decide +kernel) (by decide +kernel), (by decide +kernel), tyX12_ok 39 (by decide), rfl, fun _ => rfl⟩
theorem fg_X12_112 : gFld RX12 112 12 40 3 := ⟨(RX12, TX12, 116), rfl, by decide, inG_X12, gG_7 144 (by decide +kernel) (by decide +kernel), (by decide +kernel)⟩
theorem fp_X12_112 : gPut RX12 112 12 40 (.array .int) true := ⟨cl_X12, (RX12, TX12, 116), rfl, by decide, gG_7 144 (by decide +kernel) (by decide +kernel), (by decide +kernel), tyX12_ok 40 (by decide), rfl, fun _ => rfl⟩
theorem fg_X12_115 : gFld RX12 115 12 41 3 := ⟨(RX12, TX12, 116), rfl, by decide, inG_X12, gG_7 145 (by decide +kernel) (by decide +kernel), (by decide +kernel)⟩
theorem fp_X12_115 : gPut RX12 115 12 41 (.array .int) true := ⟨cl_X12, (RX12, TX12, 116), rfl, by decide, gG_7 145 (by decide +kernel) (by decide +kernel), (by decide +kernel), tyX12_ok 41 (by decide), rfl, fun _ => rfl⟩
theorem fg_X12_313 : gFld RX12 313 12 42 0 := ⟨(RX12, TX12, 116), rfl, by decide, inG_X12, gG_7 146 (by decide +kernel) (by decide +kernel), (by decide +kernel)⟩
theorem fp_X12_313 : gPut RX12 313 12 42 .int false := ⟨cl_X12, (RX12, TX12, 116), rfl, by decide, gG_7 146 (by decide +kernel) (by decide +kernel), (by decide +kernel), tyX12_ok 42 (by decide), rfl, fun h => by cases h⟩
theorem fg_X12_319 : gFld RX12 319 12 43 0 := ⟨(RX12, TX12, 116), rfl, by decide, inG_X12, gG_7 147 (by decide +kernel) (by decide +kernel), (by decide +kernel)⟩
theorem fp_X12_319 : gPut RX12 319 12 43 .int false := ⟨cl_X12, (RX12, TX12, 116), rfl, by decide, gG_7 147 (by decide +kernel) (by decide +kernel), (by decide +kernel), tyX12_ok 43 (by decide), rfl, fun h => by cases h⟩
theorem fg_X12_118 : gFld RX12 118 12 44 3 := ⟨(RX12, TX12, 116), rfl, by decide, inG_X12, gG_7 148 (by decide +kernel) (by decide +kernel), (by decide +kernel)⟩
theorem fp_X12_118 : gPut RX12 118 12 44 (.array .int) true := ⟨cl_X12, (RX12, TX12, 116), rfl, by decide, gG_7 148 (by decide +kernel) (by decide +kernel), (by decide +kernel), tyX12_ok 44 (by decide), rfl, fun _ => rfl⟩
theorem fg_X12_121 : gFld RX12 121 12 45 3 := ⟨(RX12, TX12, 116), rfl, by decide, inG_X12, gG_7 149 (by decide +kernel) (by decide +kernel), (by decide +kernel)⟩
theorem fp_X12_121 : gPut RX12 121 12 45 (.array .int) true := ⟨cl_X12, (RX12, TX12, 116), rfl, by decide, gG_7 149 (by decide +kernel) (by decide +kernel), (by decide +kernel), tyX12_ok 45 (by decide), rfl, fun _ => rfl⟩
theorem fg_X12_124 : gFld RX12 124 12 46 3 := ⟨(RX12, TX12, 116), rfl, by decide, inG_X12, gG_7 150 (by decide +kernel) (by decide +kernel), (by decide +kernel)⟩
theorem fp_X12_124 : gPut RX12 124 12 46 (.array .boolean) true := ⟨cl_X12, (RX12, TX12, 116), rfl, by decide, gG_7 150 (by decide +kernel) (by decide +kernel), (by decide +kernel), tyX12_ok 46 (by decide), rfl, fun _ => rfl⟩
theorem fg_X12_127 : gFld RX12 127 12 47 0 := ⟨(RX12, TX12, 116), rfl, by decide, inG_X12, gG_7 151 (by decide +kernel) (by decide +kernel), (by decide +kernel)⟩
theorem fp_X12_127 : gPut RX12 127 12 47 .int false := ⟨cl_X12, (RX12, TX12, 116), rfl, by decide, gG_7 151 (by decide +kernel) (by decide +kernel), (by decide +kernel), tyX12_ok 47 (by decide), rfl, fun h => by cases h⟩
theorem fg_X12_130 : gFld RX12 130 12 48 0 := ⟨(RX12, TX12, 116), rfl, by decide, inG_X12, gG_7 152 (by decide +kernel) (by decide +kernel), (by decide +kernel)⟩
theorem fp_X12_130 : gPut RX12 130 12 48 .int false := ⟨cl_X12, (RX12, TX12, 116), rfl, by decide, gG_7 152 (by decide +kernel) (by decide +kernel), (by decide +kernel), tyX12_ok 48 (by decide), rfl, fun h => by cases h⟩
theorem fg_X12_322 : gFld RX12 322 12 49 0 := ⟨(RX12, TX12, 116), rfl, by decide, inG_X12, gG_7 153 (by decide +kernel) (by decide +kernel), (by decide +kernel)⟩
theorem fp_X12_322 : gPut RX12 322 12 49 .int false := ⟨cl_X12, (RX12, TX12, 116), rfl, by decide, gG_7 153 (by decide +kernel) (by decide +kernel), (by decide +kernel), tyX12_ok 49 (by decide), rfl, fun h => by cases h⟩
theorem fg_X12_133 : gFld RX12 133 12 50 3 := ⟨(RX12, TX12, 116), rfl, by decide, inG_X12, gG_7 154 (by decide +kernel) (by decide +kernel), (by decide +kernel)⟩
theorem fp_X12_133 : gPut RX12 133 12 50 (.array .int) true := ⟨cl_X12, (RX12, TX12, 116), rfl, by decide, gG_7 154 (by decide +kernel) (by decide +kernel), (by decide +kernel), tyX12_ok 50 (by decide), rfl, fun _ => rfl⟩
theorem fg_X12_361 : gFld RX12 361 12 51 0 := ⟨(RX12, TX12, 116), rfl, by decide, inG_X12, gG_7 155 (by decide +kernel) (by decide +kernel), (by decide +kernel)⟩
theorem fp_X12_361 : gPut RX12 361 12 51 .int false := ⟨cl_X12, (RX12, TX12, 116), rfl, by decide, gG_7 155 (by decide +kernel) (by decide +kernel), (by decide +kernel), tyX12_ok 51 (by decide), rfl, fun h => by cases h⟩
theorem fg_X12_357 : gFld RX12 357 12 52 1 := ⟨(RX12, TX12, 116), rfl, by decide, inG_X12, gG_7 156 (by decide +kernel) (by decide +kernel), (by decide +kernel)⟩
theorem fp_X12_357 : gPut RX12 357 12 52 .long false := ⟨cl_X12, (RX12, TX12, 116), rfl, by decide, gG_7 156 (by decide +kernel) (by decide +kernel), (by decide +kernel), tyX12_ok 52 (by decide), rfl, fun h => by cases h⟩
theorem fg_X12_136 : gFld RX12 136 12 53 3 := ⟨(RX12, TX12, 116), rfl, by decide, inG_X12, gG_7 157 (by decide +kernel) (by decide +kernel), (by decide +kernel)⟩
theorem fp_X12_136 : gPut RX12 136 12 53 (.array .int) true := ⟨cl_X12, (RX12, TX12, 116), rfl, by decide, gG_7 157 (by decide +kernel) (by decide +kernel), (by decide +kernel), tyX12_ok 53 (by decide), rfl, fun _ => rfl⟩
theorem fg_X12_376 : gFld RX12 376 12 54 0 := ⟨(RX12, TX12, 116), rfl, by decide, inG_X12, gG_7 158 (by decide +kernel) (by decide +kernel), (by decide +kernel)⟩
theorem fp_X12_376 : gPut RX12 376 12 54 .int false := ⟨cl_X12, (RX12, TX12, 116), rfl, by decide, gG_7 158 (by decide +kernel) (by decide +kernel), (by decide +kernel), tyX12_ok 54 (by decide), rfl, fun h => by cases h⟩
theorem fg_X12_379 : gFld RX12 379 12 55 0 := ⟨(RX12, TX12, 116), rfl, by decide, inG_X12, gG_7 159 (by decide +kernel) (by decide +kernel), (by decide +kernel)⟩
theorem fp_X12_379 : gPut RX12 379 12 55 .int false := ⟨cl_X12, (RX12, TX12, 116), rfl, by decide, gG_7 159 (by decide +kernel) (by decide +kernel), (by decide +kernel), tyX12_ok 55 (by decide), rfl, fun h => by cases h⟩
theorem fg_X12_382 : gFld RX12 382 12 56 0 := ⟨(RX12, TX12, 116), rfl, by decide, inG_X12, gG_7 160 (by decide +kernel) (by decide +kernel), (by decide +kernel)⟩
theorem fp_X12_382 : gPut RX12 382 12 56 .int false := ⟨cl_X12, (RX12, TX12, 116), rfl, by decide, gG_7 160 (by decide +kernel) (by decide +kernel), (by decide +kernel), tyX12_ok 56 (by decide), rfl, fun h => by cases h⟩
theorem fg_X12_385 : gFld RX12 385 12 57 0 := ⟨(RX12, TX12, 116), rfl, by decide, inG_X12, gG_7 161 (by decide +kernel) (by decide +kernel), (by decide +kernel)⟩
theorem fp_X12_385 : gPut RX12 385 12 57 .int false := ⟨cl_X12, (RX12, TX12, 116), rfl, by decide, gG_7 161 (by decide +kernel) (by decide +kernel), (by decide +kernel), tyX12_ok 57 (by decide), rfl, fun h => by cases h⟩
theorem fg_X12_397 : gFld RX12 397 12 58 0 := ⟨(RX12, TX12, 116), rfl, by decide, inG_X12, gG_7 162 (by decide +kernel) (by decide +kernel), (by decide +kernel)⟩
theorem fp_X12_397 : gPut RX12 397 12 58 .int false := ⟨cl_X12, (RX12, TX12, 116), rfl, by decide, gG_7 162 (by decide +kernel) (by decide +kernel), (by decide +kernel), tyX12_ok 58 (by decide), rfl, fun h => by cases h⟩
theorem fg_X12_391 : gFld RX12 391 12 59 0 := ⟨(RX12, TX12, 116), rfl, by decide, inG_X12, gG_7 163 (by decide +kernel) (by decide +kernel), (by decide +kernel)⟩
theorem fp_X12_391 : gPut RX12 391 12 59 .int false := ⟨cl_X12, (RX12, TX12, 116), rfl, by decide, gG_7 163 (by decide +kernel) (by decide +kernel), (by decide +kernel), tyX12_ok 59 (by decide), rfl, fun h => by cases h⟩
theorem fg_X12_403 : gFld RX12 403 12 60 0 := ⟨(RX12, TX12, 116), rfl, by decide, inG_X12, gG_7 164 (by decide +kernel) (by decide +kernel), (by decide +kernel)⟩
theorem fp_X12_403 : gPut RX12 403 12 60 .int false := ⟨cl_X12, (RX12, TX12, 116), rfl, by decide, gG_7 164 (by decide +kernel) (by decide +kernel), (by decide +kernel), tyX12_ok 60 (by decide), rfl, fun h => by cases h⟩
theorem fg_X12_406 : gFld RX12 406 12 61 0 := ⟨(RX12, TX12, 116), rfl, by decide, inG_X12, gG_7 165 (by decide +kernel) (by decide +kernel), (by decide +kernel)⟩
theorem fp_X12_406 : gPut RX12 406 12 61 .int false := ⟨cl_X12, (RX12, TX12, 116), rfl, by decide, gG_7 165 (by decide +kernel) (by decide +kernel), (by decide +kernel), tyX12_ok 61 (by decide), rfl, fun h => by cases h⟩
theorem fg_X12_491 : gFld RX12 491 12 62 0 := ⟨(RX12, TX12, 116), rfl, by decide, inG_X12, gG_7 166 (by decide +kernel) (by decide +kernel), (by decide +kernel)⟩
theorem fp_X12_491 : gPut RX12 491 12 62 .int false := ⟨cl_X12, (RX12, TX12, 116), rfl, by decide, gG_7 166 (by decide +kernel) (by decide +kernel), (by decide +kernel), tyX12_ok 62 (by decide), rfl, fun h => by cases h⟩
theorem fg_X12_394 : gFld RX12 394 12 63 1 := ⟨(RX12, TX12, 116), rfl, by decide, inG_X12, gG_7 167 (by decide +kernel) (by decide +kernel), (by decide +kernel)⟩
theorem fp_X12_394 : gPut RX12 394 12 63 .long false := ⟨cl_X12, (RX12, TX12, 116), rfl, by decide, gG_7 167 (by decide +kernel) (by decide +kernel), (by decide +kernel), tyX12_ok 63 (by decide), rfl, fun h => by cases h⟩
theorem fg_X12_139 : gFld RX12 139 12 64 3 := ⟨(RX12, TX12, 116), rfl, by decide, inG_X12, gG_7 168 (by decide +kernel) (by decide +kernel), (by decide +kernel)⟩
theorem fp_X12_139 : gPut RX12 139 12 64 (.array .int) true := ⟨cl_X12, (RX12, TX12, 116), rfl, by decide, gG_7 168 (by decide +kernel) (by decide +kernel), (by decide +kernel), tyX12_ok 64 (by decide), rfl, fun _ => rfl⟩
theorem fg_X12_142 : gFld RX12 142 12 65 3 := ⟨(RX12, TX12, 116), rfl, by decide, inG_X12, gG_7 169 (by decide +kernel) (by decide +kernel), (by decide +kernel)⟩
theorem fp_X12_142 : gPut RX12 142 12 65 (.array .int) true := ⟨cl_X12, (RX12, TX12, 116), rfl, by decide, gG_7 169 (by decide +kernel) (by decide +kernel), (by decide +kernel), tyX12_ok 65 (by decide), rfl, fun _ => rfl⟩
theorem fg_X12_145 : gFld RX12 145 12 66 3 := ⟨(RX12, TX12, 116), rfl, by decide, inG_X12, gG_7 170 (by decide +kernel) (by decide +kernel), (by decide +kernel)⟩
theorem fp_X12_145 : gPut RX12 145 12 66 (.array .int) true := ⟨cl_X12, (RX12, TX12, 116), rfl, by decide, gG_7 170 (by decide +kernel) (by decide +kernel), (by decide +kernel), tyX12_ok 66 (by decide), rfl, fun _ => rfl⟩
theorem fg_X12_148 : gFld RX12 148 12 67 3 := ⟨(RX12, TX12, 116), rfl, by decide, inG_X12, gG_7 171 (by decide +kernel) (by decide +kernel), (by decide +kernel)⟩
theorem fp_X12_148 : gPut RX12 148 12 67 (.array .int) true := ⟨cl_X12, (RX12, TX12, 116), rfl, by decide, gG_7 171 (by decide +kernel) (by decide +kernel), (by decide +kernel), tyX12_ok 67 (by decide), rfl, fun _ => rfl⟩
theorem fg_X12_151 : gFld RX12 151 12 68 3 := ⟨(RX12, TX12, 116), rfl, by decide, inG_X12, gG_7 172 (by decide +kernel) (by decide +kernel), (by decide +kernel)⟩
theorem fp_X12_151 : gPut RX12 151 12 68 (.array .int) true := ⟨cl_X12, (RX12, TX12, 116), rfl, by decide, gG_7 172 (by decide +kernel) (by decide +kernel), (by decide +kernel), tyX12_ok 68 (by decide), rfl, fun _ => rfl⟩
theorem fg_X12_154 : gFld RX12 154 12 69 3 := ⟨(RX12, TX12, 116), rfl, by decide, inG_X12, gG_7 173 (by decide +kernel) (by decide +kernel), (by decide +kernel)⟩
theorem fp_X12_154 : gPut RX12 154 12 69 (.array .int) true := ⟨cl_X12, (RX12, TX12, 116), rfl, by decide, gG_7 173 (by decide +kernel) (by decide +kernel), (by decide +kernel), tyX12_ok 69 (by decide), rfl, fun _ => rfl⟩
theorem fg_X12_157 : gFld RX12 157 12 70 3 := ⟨(RX12, TX12, 116), rfl, by decide, inG_X12, gG_7 174 (by decide +kernel) (by decide +kernel), (by decide +kernel)⟩
theorem fp_X12_157 : gPut RX12 157 12 70 (.array .int) true := ⟨cl_X12, (RX12, TX12, 116), rfl, by decide, gG_7 174 (by decide +kernel) (by decide +kernel), (by decide +kernel), tyX12_ok 70 (by decide), rfl, fun _ => rfl⟩
theorem fg_X12_160 : gFld RX12 160 12 71 3 := ⟨(RX12, TX12, 116), rfl, by decide, inG_X12, gG_7 175 (by decide +kernel) (by decide +kernel), (by decide +kernel)⟩
theorem fp_X12_160 : gPut RX12 160 12 71 (.array .int) true := ⟨cl_X12, (RX12, TX12, 116), rfl, by decide, gG_7 175 (by decide +kernel) (by decide +kernel), (by decide +kernel), tyX12_ok 71 (by decide), rfl, fun _ => rfl⟩
theorem fg_X12_163 : gFld RX12 163 12 72 3 := ⟨(RX12, TX12, 116), rfl, by decide, inG_X12, gG_7 176 (by decide +kernel) (by decide +kernel), (by decide +kernel)⟩
theorem fp_X12_163 : gPut RX12 163 12 72 (.array .int) true := ⟨cl_X12, (RX12, TX12, 116), rfl, by decide, gG_7 176 (by decide +kernel) (by decide +kernel), (by decide +kernel), tyX12_ok 72 (by decide), rfl, fun _ => rfl⟩
theorem fg_X12_166 : gFld RX12 166 12 73 3 := ⟨(RX12, TX12, 116), rfl, by decide, inG_X12, gG_7 177 (by decide +kernel) (by decide +kernel), (by decide +kernel)⟩
theorem fp_X12_166 : gPut RX12 166 12 73 (.array .int) true := ⟨cl_X12, (RX12, TX12, 116), rfl, by decide, gG_7 177 (by decide +kernel) (by decide +kernel), (by decide +kernel), tyX12_ok 73 (by decide), rfl, fun _ => rfl⟩
theorem fg_X12_169 : gFld RX12 169 12 74 3 := ⟨(RX12, TX12, 116), rfl, by decide, inG_X12, gG_7 178 (by decide +kernel) (by decide +kernel), (by decide +kernel)⟩
theorem fp_X12_169 : gPut RX12 169 12 74 (.array .int) true := ⟨cl_X12, (RX12, TX12, 116), rfl, by decide, gG_7 178 (by decide +kernel) (by decide +kernel), (by decide +kernel), tyX12_ok 74 (by decide), rfl, fun _ => rfl⟩
theorem fg_X12_172 : gFld RX12 172 12 75 3 := ⟨(RX12, TX12, 116), rfl, by decide, inG_X12, gG_7 179 (by decide +kernel) (by decide +kernel), (by decide +kernel)⟩
theorem fp_X12_172 : gPut RX12 172 12 75 (.array .int) true := ⟨cl_X12, (RX12, TX12, 116), rfl, by decide, gG_7 179 (by decide +kernel) (by decide +kernel), (by decide +kernel), tyX12_ok 75 (by decide), rfl, fun _ => rfl⟩
theorem fg_X12_175 : gFld RX12 175 12 76 3 := ⟨(RX12, TX12, 116), rfl, by decide, inG_X12, gG_7 180 (by decide +kernel) (by decide +kernel), (by decide +kernel)⟩
theorem fp_X12_175 : gPut RX12 175 12 76 (.array .int) true := ⟨cl_X12, (RX12, TX12, 116), rfl, by decide, gG_7 180 (by decide +kernel) (by decide +kernel), (by decide +kernel), tyX12_ok 76 (by decide), rfl, fun _ => rfl⟩
theorem fg_X12_494 : gFld RX12 494 12 77 0 := ⟨(RX12, TX12, 116), rfl, by decide, inG_X12, gG_7 181 (by decide +kernel) (by decide +kernel), (by decide +kernel)⟩
theorem fp_X12_494 : gPut RX12 494 12 77 .int false := ⟨cl_X12, (RX12, TX12, 116), rfl, by decide, gG_7 181 (by decide +kernel) (by decide +kernel), (by decide +kernel), tyX12_ok 77 (by decide), rfl, fun h => by cases h⟩
theorem fg_X12_178 : gFld RX12 178 12 78 3 := ⟨(RX12, TX12, 116), rfl, by decide, inG_X12, gG_7 182 (by decide +kernel) (by decide +kernel), (by decide +kernel)⟩
theorem fp_X12_178 : gPut RX12 178 12 78 (.array .int) true := ⟨cl_X12, (RX12, TX12, 116), rfl, by decide, gG_7 182 (by decide +kernel) (by decide +kernel), (by decide +kernel), tyX12_ok 78 (by decide), rfl, fun _ => rfl⟩
theorem fg_X12_429 : gFld RX12 429 12 79 0 := ⟨(RX12, TX12, 116), rfl, by decide, inG_X12, gG_7 183 (by decide +kernel) (by decide +kernel), (by decide +kernel)⟩
theorem fp_X12_429 : gPut RX12 429 12 79 .int false := ⟨cl_X12, (RX12, TX12, 116), rfl, by decide, gG_7 183 (by decide +kernel) (by decide +kernel), (by decide +kernel), tyX12_ok 79 (by decide), rfl, fun h => by cases h⟩
theorem fg_X12_438 : gFld RX12 438 12 80 0 := ⟨(RX12, TX12, 116), rfl, by decide, inG_X12, gG_7 184 (by decide +kernel) (by decide +kernel), (by decide +kernel)⟩
theorem fp_X12_438 : gPut RX12 438 12 80 .int false := ⟨cl_X12, (RX12, TX12, 116), rfl, by decide, gG_7 184 (by decide +kernel) (by decide +kernel), (by decide +kernel), tyX12_ok 80 (by decide), rfl, fun h => by cases h⟩
theorem fg_X12_441 : gFld RX12 441 12 81 0 := ⟨(RX12, TX12, 116), rfl, by decide, inG_X12, gG_7 185 (by decide +kernel) (by decide +kernel), (by decide +kernel)⟩
theorem fp_X12_441 : gPut RX12 441 12 81 .int false := ⟨cl_X12, (RX12, TX12, 116), rfl, by decide, gG_7 185 (by decide +kernel) (by decide +kernel), (by decide +kernel), tyX12_ok 81 (by decide), rfl, fun h => by cases h⟩
theorem fg_X12_454 : gFld RX12 454 12 82 0 := ⟨(RX12, TX12, 116), rfl, by decide, inG_X12, gG_7 186 (by decide +kernel) (by decide +kernel), (by decide +kernel)⟩
theorem fp_X12_454 : gPut RX12 454 12 82 .int false := ⟨cl_X12, (RX12, TX12, 116), rfl, by decide, gG_7 186 (by decide +kernel) (by decide +kernel), (by decide +kernel), tyX12_ok 82 (by decide), rfl, fun h => by cases h⟩
theorem fg_X12_426 : gFld RX12 426 12 83 0 := ⟨(RX12, TX12, 116), rfl, by decide, inG_X12, gG_7 187 (by decide +kernel) (by decide +kernel), (by decide +kernel)⟩
theorem fp_X12_426 : gPut RX12 426 12 83 .int false := ⟨cl_X12, (RX12, TX12, 116), rfl, by decide, gG_7 187 (by decide +kernel) (by decide +kernel), (by decide +kernel), tyX12_ok 83 (by decide), rfl, fun h => by cases h⟩
theorem fg_X12_466 : gFld RX12 466 12 84 2 := ⟨(RX12, TX12, 116), rfl, by decide, inG_X12, gG_7 188 (by decide +kernel) (by decide +kernel), (by decide +kernel)⟩
theorem fp_X12_466 : gPut RX12 466 12 84 .boolean false := ⟨cl_X12, (RX12, TX12, 116), rfl, by decide, gG_7 188 (by decide +kernel) (by decide +kernel), (by decide +kernel), tyX12_ok 84 (by decide), rfl, fun h => by cases h⟩
theorem fg_X12_181 : gFld RX12 181 12 85 3 := ⟨(RX12, TX12, 116), rfl, by decide, inG_X12, gG_7 189 (by decide +kernel) (by decide +kernel), (by decide +kernel)⟩
theorem fp_X12_181 : gPut RX12 181 12 85 (.array .int) true := ⟨cl_X12, (RX12, TX12, 116), rfl, by decide, gG_7 189 (by decide +kernel) (by decide +kernel), (by decide +kernel), tyX12_ok 85 (by decide), rfl, fun _ => rfl⟩
theorem fg_X12_184 : gFld RX12 184 12 86 3 := ⟨(RX12, TX12, 116), rfl, by decide, inG_X12, gG_7 190 (by decide +kernel) (by decide +kernel), (by decide +kernel)⟩
theorem fp_X12_184 : gPut RX12 184 12 86 (.array .boolean) true := ⟨cl_X12, (RX12, TX12, 116), rfl, by decide, gG_7 190 (by decide +kernel) (by decide +kernel), (by decide +kernel), tyX12_ok 86 (by decide), rfl, fun _ => rfl⟩
theorem fg_X12_522 : gFld RX12 522 12 87 0 := ⟨(RX12, TX12, 116), rfl, by decide, inG_X12, gG_7 191 (by decide +kernel) (by decide +kernel), (by decide +kernel)⟩
theorem fp_X12_522 : gPut RX12 522 12 87 .int false := ⟨cl_X12, (RX12, TX12, 116), rfl, by decide, gG_7 191 (by decide +kernel) (by decide +kernel), (by decide +kernel), tyX12_ok 87 (by decide), rfl, fun h => by cases h⟩
theorem fg_X12_525 : gFld RX12 525 12 88 0 := ⟨(RX12, TX12, 116), rfl, by decide, inG_X12, gG_7 192 (by decide +kernel) (by decide +kernel), (by decide +kernel)⟩
theorem fp_X12_525 : gPut RX12 525 12 88 .int false := ⟨cl_X12, (RX12, TX12, 116), rfl, by decide, gG_7 192 (by decide +kernel) (by decide +kernel), (by decide +kernel), tyX12_ok 88 (by decide), rfl, fun h => by cases h⟩
theorem fg_X12_187 : gFld RX12 187 12 89 3 := ⟨(RX12, TX12, 116), rfl, by decide, inG_X12, gG_7 193 (by decide +kernel) (by decide +kernel), (by decide +kernel)⟩
theorem fp_X12_187 : gPut RX12 187 12 89 (.array .int) true := ⟨cl_X12, (RX12, TX12, 116), rfl, by decide, gG_7 193 (by decide +kernel) (by decide +kernel), (by decide +kernel), tyX12_ok 89 (by decide), rfl, fun _ => rfl⟩
theorem fg_X12_190 : gFld RX12 190 12 90 3 := ⟨(RX12, TX12, 116), rfl, by decide, inG_X12, gG_7 194 (by decide +kernel) (by decide +kernel), (by decide +kernel)⟩
theorem fp_X12_190 : gPut RX12 190 12 90 (.array .int) true := ⟨cl_X12, (RX12, TX12, 116), rfl, by decide, gG_7 194 (by decide +kernel) (by decide +kernel), (by decide +kernel), tyX12_ok 90 (by decide), rfl, fun _ => rfl⟩
theorem fg_X12_193 : gFld RX12 193 12 91 3 := ⟨(RX12, TX12, 116), rfl, by decide, inG_X12, gG_7 195 (by decide +kernel) (by decide +kernel), (by decide +kernel)⟩
theorem fp_X12_193 : gPut RX12 193 12 91 (.array .int) true := ⟨cl_X12, (RX12, TX12, 116), rfl, by decide, gG_7 195 (by decide +kernel) (by decide +kernel), (by decide +kernel), tyX12_ok 91 (by decide), rfl, fun _ => rfl⟩
theorem fg_X12_543 : gFld RX12 543 12 92 0 := ⟨(RX12, TX12, 116), rfl, by decide, inG_X12, gG_7 196 (by decide +kernel) (by decide +kernel), (by decide +kernel)⟩
theorem fp_X12_543 : gPut RX12 543 12 92 .int false := ⟨cl_X12, (RX12, TX12, 116), rfl, by decide, gG_7 196 (by decide +kernel) (by decide +kernel), (by decide +kernel), tyX12_ok 92 (by decide), rfl, fun h => by cases h⟩
theorem fg_X12_549 : gFld RX12 549 12 93 0 := ⟨(RX12, TX12, 116), rfl, by decide, inG_X12, gG_7 197 (by decide +kernel) (by decide +kernel), (by decide +kernel)⟩
theorem fp_X12_549 : gPut RX12 549 12 93 .int false := ⟨cl_X12, (RX12, TX12, 116), rfl, by decide, gG_7 197 (by decide +kernel) (by decide +kernel), (by decide +kernel), tyX12_ok 93 (by decide), rfl, fun h => by cases h⟩
theorem fg_X12_196 : gFld RX12 196 12 94 3 := ⟨(RX12, TX12, 116), rfl, by decide, inG_X12, gG_7 198 (by decide +kernel) (by decide +kernel), (by decide +kernel)⟩
theorem fp_X12_196 : gPut RX12 196 12 94 (.array .int) true := ⟨cl_X12, (RX12, TX12, 116), rfl, by decide, gG_7 198 (by decide +kernel) (by decide +kernel), (by decide +kernel), tyX12_ok 94 (by decide), rfl, fun _ => rfl⟩
theorem fg_X12_199 : gFld RX12 199 12 95 3 := ⟨(RX12, TX12, 116), rfl, by decide, inG_X12, gG_7 199 (by decide +kernel) (by decide +kernel), (by decide +kernel)⟩
theorem fp_X12_199 : gPut RX12 199 12 95 (.array .int) true := ⟨cl_X12, (RX12, TX12, 116), rfl, by decide, gG_7 199 (by decide +kernel) (by decide +kernel), (by decide +kernel), tyX12_ok 95 (by decide), rfl, fun _ => rfl⟩
theorem fg_X12_202 : gFld RX12 202 12 96 3 := ⟨(RX12, TX12, 116), rfl, by decide, inG_X12, gG_7 200 (by decide +kernel) (by decide +kernel), (by decide +kernel)⟩
theorem fp_X12_202 : gPut RX12 202 12 96 (.array .int) true := ⟨cl_X12, (RX12, TX12, 116), rfl, by decide, gG_7 200 (by decide +kernel) (by decide +kernel), (by decide +kernel), tyX12_ok 96 (by decide), rfl, fun _ => rfl⟩
theorem fg_X12_205 : gFld RX12 205 12 97 3 := ⟨(RX12, TX12, 116), rfl, by decide, inG_X12, gG_7 201 (by decide +kernel) (by decide +kernel), (by decide +kernel)⟩
theorem fp_X12_205 : gPut RX12 205 12 97 (.array .int) true := ⟨cl_X12, (RX12, TX12, 116), rfl, by decide, gG_7 201 (by decide +kernel) (by decide +kernel), (by decide +kernel), tyX12_ok 97 (by decide), rfl, fun _ => rfl⟩
theorem fg_X12_208 : gFld RX12 208 12 98 3 := ⟨(RX12, TX12, 116), rfl, by decide, inG_X12, gG_7 202 (by decide +kernel) (by decide +kernel), (by decide +kernel)⟩
theorem fp_X12_208 : gPut RX12 208 12 98 (.array .long) true := ⟨cl_X12, (RX12, TX12, 116), rfl, by decide, gG_7 202 (by decide +kernel) (by decide +kernel), (by decide +kernel), tyX12_ok 98 (by decide), rfl, fun _ => rfl⟩
theorem fg_X12_562 : gFld RX12 562 12 99 0 := ⟨(RX12, TX12, 116), rfl, by decide, inG_X12, gG_7 203 (by decide +kernel) (by decide +kernel), (by decide +kernel)⟩
theorem fp_X12_562 : gPut RX12 562 12 99 .int false := ⟨cl_X12, (RX12, TX12, 116), rfl, by decide, gG_7 203 (by decide +kernel) (by decide +kernel), (by decide +kernel), tyX12_ok 99 (by decide), rfl, fun h => by cases h⟩
theorem fg_X12_211 : gFld RX12 211 12 100 3 := ⟨(RX12, TX12, 116), rfl, by decide, inG_X12, gG_7 204 (by decide +kernel) (by decide +kernel), (by decide +kernel)⟩
theorem fp_X12_211 : gPut RX12 211 12 100 (.array .boolean) true := ⟨cl_X12, (RX12, TX12, 116), rfl, by decide, gG_7 204 (by decide +kernel) (by decide +kernel), (by decide +kernel), tyX12_ok 100 (by decide), rfl, fun _ => rfl⟩
theorem fg_X12_214 : gFld RX12 214 12 101 3 := ⟨(RX12, TX12, 116), rfl, by decide, inG_X12, gG_7 205 (by decide +kernel) (by decide +kernel), (by decide +kernel)⟩
theorem fp_X12_214 : gPut RX12 214 12 101 (.array .boolean) true := ⟨cl_X12, (RX12, TX12, 116), rfl, by decide, gG_7 205 (by decide +kernel) (by decide +kernel), (by decide +kernel), tyX12_ok 101 (by decide), rfl, fun _ => rfl⟩
theorem fg_X12_217 : gFld RX12 217 12 102 3 := ⟨(RX12, TX12, 116), rfl, by decide, inG_X12, gG_7 206 (by decide +kernel) (by decide +kernel), (by decide +kernel)⟩
theorem fp_X12_217 : gPut RX12 217 12 102 (.array .int) true := ⟨cl_X12, (RX12, TX12, 116), rfl, by decide, gG_7 206 (by decide +kernel) (by decide +kernel), (by decide +kernel), tyX12_ok 102 (by decide), rfl, fun _ => rfl⟩
theorem fg_X12_220 : gFld RX12 220 12 103 3 := ⟨(RX12, TX12, 116), rfl, by decide, inG_X12, gG_7 207 (by decide +kernel) (by decide +kernel), (by decide +kernel)⟩
theorem fp_X12_220 : gPut RX12 220 12 103 (.array .int) true := ⟨cl_X12, (RX12, TX12, 116), rfl, by decide, gG_7 207 (by decide +kernel) (by decide +kernel), (by decide +kernel), tyX12_ok 103 (by decide), rfl, fun _ => rfl⟩
theorem fg_X12_223 : gFld RX12 223 12 104 3 := ⟨(RX12, TX12, 116), rfl, by decide, inG_X12, gG_7 208 (by decide +kernel) (by decide +kernel), (by decide +kernel)⟩
theorem fp_X12_223 : gPut RX12 223 12 104 (.array .int) true := ⟨cl_X12, (RX12, TX12, 116), rfl, by decide, gG_7 208 (by decide +kernel) (by decide +kernel), (by decide +kernel), tyX12_ok 104 (by decide), rfl, fun _ => rfl⟩
theorem fg_X12_226 : gFld RX12 226 12 105 3 := ⟨(RX12, TX12, 116), rfl, by decide, inG_X12, gG_7 209 (by decide +kernel) (by decide +kernel), (by decide +kernel)⟩
theorem fp_X12_226 : gPut RX12 226 12 105 (.array .int) true := ⟨cl_X12, (RX12, TX12, 116), rfl, by decide, gG_7 209 (by decide +kernel) (by decide +kernel), (by decide +kernel), tyX12_ok 105 (by decide), rfl, fun _ => rfl⟩
theorem fg_X12_229 : gFld RX12 229 12 106 3 := ⟨(RX12, TX12, 116), rfl, by decide, inG_X12, gG_7 210 (by decide +kernel) (by decide +kernel), (by decide +kernel)⟩
theorem fp_X12_229 : gPut RX12 229 12 106 (.array .int) true := ⟨cl_X12, (RX12, TX12, 116), rfl, by decide, gG_7 210 (by decide +kernel) (by decide +kernel), (by decide +kernel), tyX12_ok 106 (by decide), rfl, fun _ => rfl⟩
theorem fg_X12_232 : gFld RX12 232 12 107 3 := ⟨(RX12, TX12, 116), rfl, by decide, inG_X12, gG_7 211 (by decide +kernel) (by decide +kernel), (by decide +kernel)⟩
theorem fp_X12_232 : gPut RX12 232 12 107 (.array .int) true := ⟨cl_X12, (RX12, TX12, 116), rfl, by decide, gG_7 211 (by decide +kernel) (by decide +kernel), (by decide +kernel), tyX12_ok 107 (by decide), rfl, fun _ => rfl⟩
theorem fg_X12_235 : gFld RX12 235 12 108 3 := ⟨(RX12, TX12, 116), rfl, by decide, inG_X12, gG_7 212 (by decide +kernel) (by decide +kernel), (by decide +kernel)⟩
theorem fp_X12_235 : gPut RX12 235 12 108 (.array .int) true := ⟨cl_X12, (RX12, TX12, 116), rfl, by decide, gG_7 212 (by decide +kernel) (by decide +kernel), (by decide +kernel), tyX12_ok 108 (by decide), rfl, fun _ => rfl⟩
theorem fg_X12_238 : gFld RX12 238 12 109 3 := ⟨(RX12, TX12, 116), rfl, by decide, inG_X12, gG_7 213 (by decide +kernel) (by decide +kernel), (by decide +kernel)⟩
theorem fp_X12_238 : gPut RX12 238 12 109 (.array .boolean) true := ⟨cl_X12, (RX12, TX12, 116), rfl, by decide, gG_7 213 (by decide +kernel) (by decide +kernel), (by decide +kernel), tyX12_ok 109 (by decide), rfl, fun _ => rfl⟩
theorem fg_X12_583 : gFld RX12 583 12 110 0 := ⟨(RX12, TX12, 116), rfl, by decide, inG_X12, gG_7 214 (by decide +kernel) (by decide +kernel), (by decide +kernel)⟩
theorem fp_X12_583 : gPut RX12 583 12 110 .int false := ⟨cl_X12, (RX12, TX12, 116), rfl, by decide, gG_7 214 (by decide +kernel) (by decide +kernel), (by decide +kernel), tyX12_ok 110 (by decide), rfl, fun h => by cases h⟩
theorem fg_X12_586 : gFld RX12 586 12 111 0 := ⟨(RX12, TX12, 116), rfl, by decide, inG_X12, gG_7 215 (by decide +kernel) (by decide +kernel), (by decide +kernel)⟩
theorem fp_X12_586 : gPut RX12 586 12 111 .int false := ⟨cl_X12, (RX12, TX12, 116), rfl, by decide, gG_7 215 (by decide +kernel) (by decide +kernel), (by decide +kernel), tyX12_ok 111 (by decide), rfl, fun h => by cases h⟩
theorem fg_X12_589 : gFld RX12 589 12 112 0 := ⟨(RX12, TX12, 116), rfl, by decide, inG_X12, gG_7 216 (by decide +kernel) (by decide +kernel), (by decide +kernel)⟩
theorem fp_X12_589 : gPut RX12 589 12 112 .int false := ⟨cl_X12, (RX12, TX12, 116), rfl, by decide, gG_7 216 (by decide +kernel) (by decide +kernel), (by decide +kernel), tyX12_ok 112 (by decide), rfl, fun h => by cases h⟩
theorem fg_X12_592 : gFld RX12 592 12 113 0 := ⟨(RX12, TX12, 116), rfl, by decide, inG_X12, gG_7 217 (by decide +kernel) (by decide +kernel), (by decide +kernel)⟩
theorem fp_X12_592 : gPut RX12 592 12 113 .int false := ⟨cl_X12, (RX12, TX12, 116), rfl, by decide, gG_7 217 (by decide +kernel) (by decide +kernel), (by decide +kernel), tyX12_ok 113 (by decide), rfl, fun h => by cases h⟩
theorem fg_X12_595 : gFld RX12 595 12 114 0 := ⟨(RX12, TX12, 116), rfl, by decide, inG_X12, gG_7 218 (by decide +kernel) (by decide +kernel), (by decide +kernel)⟩
theorem fp_X12_595 : gPut RX12 595 12 114 .int false := ⟨cl_X12, (RX12, TX12, 116), rfl, by decide, gG_7 218 (by decide +kernel) (by decide +kernel), (by decide +kernel), tyX12_ok 114 (by decide), rfl, fun h => by cases h⟩
theorem fg_X12_241 : gFld RX12 241 12 115 3 := ⟨(RX12, TX12, 116), rfl, by decide, inG_X12, gG_7 219 (by decide +kernel) (by decide +kernel), (by decide +kernel)⟩
theorem fp_X12_241 : gPut RX12 241 12 115 (.array .long) true := ⟨cl_X12, (RX12, TX12, 116), rfl, by decide, gG_7 219 (by decide +kernel) (by decide +kernel), (by decide +kernel), tyX12_ok 115 (by decide), rfl, fun _ => rfl⟩
theorem lk_L_104 : Cond.methodLink RL 104 yX12_thrown ∈ gG := gG_8 213 (by decide +kernel) (by decide +kernel)
theorem lk_L_34 : Cond.methodLink RL 34 yX12_feed ∈ gG := gG_8 217 (by decide +kernel) (by decide +kernel)
theorem lk_X12_250 : Cond.methodLink RX12 250 yX12_come ∈ gG := gG_8 221 (by decide +kernel) (by decide +kernel)
theorem lk_L_39 : Cond.methodLink RL 39 yX12_end ∈ gG := gG_8 225 (by decide +kernel) (by decide +kernel)
theorem lk_L_43 : Cond.methodLink RL 43 yX12_next ∈ gG := gG_8 229 (by decide +kernel) (by decide +kernel)
theorem lk_X12_254 : Cond.methodLink RX12 254 yX12_isIn ∈ gG := gG_8 233 (by decide +kernel) (by decide +kernel)
theorem lk_L_47 : Cond.methodLink RL 47 yX12_party ∈ gG := gG_8 236 (by decide +kernel) (by decide +kernel)
theorem lk_X12_269 : Cond.methodLink RX12 269 yX12_takeName ∈ gG := gG_9 0 (by decide +kernel) (by decide +kernel)
theorem lk_X12_261 : Cond.methodLink RX12 261 yX12_isLetter ∈ gG := gG_9 4 (by decide +kernel) (by decide +kernel)
theorem ct_X12_265 : Cond.constantLong RX12 265 (Int64.ofInt (27)) ∈ gG := gG_9 7 (by decide +kernel) (by decide +kernel)
theorem ct_X12_267 : Cond.constantLong RX12 267 (Int64.ofInt (96)) ∈ gG := gG_9 8 (by decide +kernel) (by decide +kernel)
theorem lk_L_51 : Cond.methodLink RL 51 yX12_owns ∈ gG := gG_9 9 (by decide +kernel) (by decide +kernel)
theorem lk_X12_276 : Cond.methodLink RX12 276 yX12_isParty ∈ gG := gG_9 13 (by decide +kernel) (by decide +kernel)
theorem lk_X12_289 : Cond.methodLink RX12 289 yX12_isHouse ∈ gG := gG_9 17 (by decide +kernel) (by decide +kernel)
theorem lk_X12_292 : Cond.methodLink RX12 292 yX12_areDays ∈ gG := gG_9 21 (by decide +kernel) (by decide +kernel)
theorem lk_X12_279 : Cond.methodLink RX12 279 yX12_isDay ∈ gG := gG_9 24 (by decide +kernel) (by decide +kernel)
theorem ct_X12_282 : Cond.constant RX12 282 (Int32.ofInt (2147483647)) ∈ gG := gG_9 27 (by decide +kernel) (by decide +kernel)
theorem lk_X12_295 : Cond.methodLink RX12 295 yX12_allOn ∈ gG := gG_9 28 (by decide +kernel) (by decide +kernel)
theorem lk_X12_286 : Cond.methodLink RX12 286 yX12_isOn ∈ gG := gG_9 32 (by decide +kernel) (by decide +kernel)
theorem lk_L_56 : Cond.methodLink RL 56 yX12_kin ∈ gG := gG_9 35 (by decide +kernel) (by decide +kernel)
theorem lk_X12_299 : Cond.methodLink RX12 299 yX12_isPerson ∈ gG := gG_9 39 (by decide +kernel) (by decide +kernel)
theorem lk_L_60 : Cond.methodLink RL 60 yX12_post ∈ gG := gG_9 43 (by decide +kernel) (by decide +kernel)
theorem lk_L_65 : Cond.methodLink RL 65 yX12_gift ∈ gG := gG_9 47 (by decide +kernel) (by decide +kernel)
theorem lk_X12_309 : Cond.methodLink RX12 309 yX12_isWorth ∈ gG := gG_9 51 (by decide +kernel) (by decide +kernel)
theorem ct_X12_308 : Cond.constant RX12 308 (Int32.ofInt (1000000)) ∈ gG := gG_9 54 (by decide +kernel) (by decide +kernel)
theorem lk_L_70 : Cond.methodLink RL 70 yX12_worth ∈ gG := gG_9 55 (by decide +kernel) (by decide +kernel)
theorem lk_X12_316 : Cond.methodLink RX12 316 yX12_isGift ∈ gG := gG_9 59 (by decide +kernel) (by decide +kernel)
theorem lk_L_75 : Cond.methodLink RL 75 yX12_back ∈ gG := gG_9 63 (by decide +kernel) (by decide +kernel)
theorem lk_L_79 : Cond.methodLink RL 79 yX12_tell ∈ gG := gG_9 67 (by decide +kernel) (by decide +kernel)
theorem lk_L_93 : Cond.methodLink RL 93 yX12_part ∈ gG := gG_9 71 (by decide +kernel) (by decide +kernel)
theorem lk_X12_344 : Cond.methodLink RX12 344 yX12_areParties ∈ gG := gG_9 75 (by decide +kernel) (by decide +kernel)
theorem ct_X12_347 : Cond.constantLong RX12 347 (Int64.ofInt (-1)) ∈ gG := gG_9 79 (by decide +kernel) (by decide +kernel)
theorem lk_X12_349 : Cond.methodLink RX12 349 yX12_work ∈ gG := gG_9 80 (by decide +kernel) (by decide +kernel)
theorem lk_X12_325 : Cond.methodLink RX12 325 yX12_spread ∈ gG := gG_9 84 (by decide +kernel) (by decide +kernel)
theorem lk_X12_332 : Cond.methodLink RX12 332 yX12_at ∈ gG := gG_9 88 (by decide +kernel) (by decide +kernel)
theorem lk_X12_328 : Cond.methodLink RX12 328 yX12_headOf ∈ gG := gG_9 92 (by decide +kernel) (by decide +kernel)
theorem lk_X12_335 : Cond.methodLink RX12 335 yX12_isControlled ∈ gG := gG_9 96 (by decide +kernel) (by decide +kernel)
theorem lk_X12_353 : Cond.methodLink RX12 353 yX12_partOf ∈ gG := gG_9 100 (by decide +kernel) (by decide +kernel)
theorem ct_X12_338 : Cond.constantLong RX12 338 (Int64.ofInt (1000000000000)) ∈ gG := gG_9 104 (by decide +kernel) (by decide +kernel)
theorem ct_X12_340 : Cond.constantLong RX12 340 (Int64.ofInt (100000000)) ∈ gG := gG_9 105 (by decide +kernel) (by decide +kernel)
theorem ct_X12_342 : Cond.constantLong RX12 342 (Int64.ofInt (10000)) ∈ gG := gG_9 106 (by decide +kernel) (by decide +kernel)
theorem lk_L_97 : Cond.methodLink RL 97 yX12_chain ∈ gG := gG_9 107 (by decide +kernel) (by decide +kernel)
theorem lk_X12_364 : Cond.methodLink RX12 364 yX12_keep ∈ gG := gG_9 111 (by decide +kernel) (by decide +kernel)
theorem lk_L_103 : Cond.methodLink RL 103 yX12_octet ∈ gG := gG_9 115 (by decide +kernel) (by decide +kernel)
theorem lk_X12_368 : Cond.methodLink RX12 368 yX12_refuse ∈ gG := gG_9 119 (by decide +kernel) (by decide +kernel)
theorem lk_L_110 : Cond.methodLink RL 110 yX12_head ∈ gG := gG_9 123 (by decide +kernel) (by decide +kernel)
theorem lk_L_114 : Cond.methodLink RL 114 yX12_degree ∈ gG := gG_9 127 (by decide +kernel) (by decide +kernel)
theorem lk_X12_372 : Cond.methodLink RX12 372 yX12_reach ∈ gG := gG_9 131 (by decide +kernel) (by decide +kernel)
theorem lk_L_83 : Cond.methodLink RL 83 yX12_law ∈ gG := gG_9 135 (by decide +kernel) (by decide +kernel)
theorem lk_X12_444 : Cond.methodLink RX12 444 yX12_go ∈ gG := gG_9 139 (by decide +kernel) (by decide +kernel)
theorem lk_X12_388 : Cond.methodLink RX12 388 yX12_isDigit ∈ gG := gG_9 143 (by decide +kernel) (by decide +kernel)
theorem lk_X12_400 : Cond.methodLink RX12 400 yX12_byteAt ∈ gG := gG_9 146 (by decide +kernel) (by decide +kernel)
theorem lk_X12_497 : Cond.methodLink RX12 497 yX12_readRule ∈ gG := gG_9 150 (by decide +kernel) (by decide +kernel)
theorem lk_X12_412 : Cond.methodLink RX12 412 yX12_spelt ∈ gG := gG_9 154 (by decide +kernel) (by decide +kernel)
theorem lk_X12_416 : Cond.methodLink RX12 416 yX12_isKey ∈ gG := gG_9 157 (by decide +kernel) (by decide +kernel)
theorem lk_X12_484 : Cond.methodLink RX12 484 yX12_readTell ∈ gG := gG_9 161 (by decide +kernel) (by decide +kernel)
theorem lk_X12_409 : Cond.methodLink RX12 409 yX12_bad ∈ gG := gG_9 165 (by decide +kernel) (by decide +kernel)
theorem lk_X12_478 : Cond.methodLink RX12 478 yX12_readNumber ∈ gG := gG_9 169 (by decide +kernel) (by decide +kernel)
theorem lk_X12_481 : Cond.methodLink RX12 481 yX12_readIf ∈ gG := gG_9 173 (by decide +kernel) (by decide +kernel)
theorem lk_X12_474 : Cond.methodLink RX12 474 yX12_readCond ∈ gG := gG_9 177 (by decide +kernel) (by decide +kernel)
theorem lk_X12_470 : Cond.methodLink RX12 470 yX12_readOne ∈ gG := gG_9 181 (by decide +kernel) (by decide +kernel)
theorem lk_X12_447 : Cond.methodLink RX12 447 yX12_atomAtHand ∈ gG := gG_9 185 (by decide +kernel) (by decide +kernel)
theorem ct_X12_420 : Cond.constantLong RX12 420 (Int64.ofInt (20)) ∈ gG := gG_9 189 (by decide +kernel) (by decide +kernel)
theorem ct_X12_422 : Cond.constantLong RX12 422 (Int64.ofInt (25)) ∈ gG := gG_9 190 (by decide +kernel) (by decide +kernel)
theorem ct_X12_424 : Cond.constantLong RX12 424 (Int64.ofInt (14)) ∈ gG := gG_9 191 (by decide +kernel) (by decide +kernel)
theorem lk_X12_451 : Cond.methodLink RX12 451 yX12_isSign ∈ gG := gG_9 192 (by decide +kernel) (by decide +kernel)
theorem lk_X12_457 : Cond.methodLink RX12 457 yX12_push ∈ gG := gG_9 196 (by decide +kernel) (by decide +kernel)
theorem lk_X12_460 : Cond.methodLink RX12 460 yX12_isMeasured ∈ gG := gG_9 200 (by decide +kernel) (by decide +kernel)
theorem lk_X12_432 : Cond.methodLink RX12 432 yX12_emit ∈ gG := gG_9 203 (by decide +kernel) (by decide +kernel)
theorem lk_X12_463 : Cond.methodLink RX12 463 yX12_turnNots ∈ gG := gG_9 207 (by decide +kernel) (by decide +kernel)
theorem lk_X12_435 : Cond.methodLink RX12 435 yX12_drop ∈ gG := gG_9 211 (by decide +kernel) (by decide +kernel)
theorem lk_X12_488 : Cond.methodLink RX12 488 yX12_numberAtHand ∈ gG := gG_9 215 (by decide +kernel) (by decide +kernel)
theorem lk_L_88 : Cond.methodLink RL 88 yX12_fault ∈ gG := gG_9 219 (by decide +kernel) (by decide +kernel)
theorem lk_L_118 : Cond.methodLink RL 118 yX12_judged ∈ gG := gG_9 223 (by decide +kernel) (by decide +kernel)
theorem lk_X12_534 : Cond.methodLink RX12 534 yX12_isKnown ∈ gG := gG_9 227 (by decide +kernel) (by decide +kernel)
theorem lk_X12_537 : Cond.methodLink RX12 537 yX12_judge ∈ gG := gG_9 231 (by decide +kernel) (by decide +kernel)
theorem lk_X12_512 : Cond.methodLink RX12 512 yX12_lawFor ∈ gG := gG_9 235 (by decide +kernel) (by decide +kernel)
theorem lk_X12_515 : Cond.methodLink RX12 515 yX12_gather ∈ gG := gG_9 239 (by decide +kernel) (by decide +kernel)
theorem lk_X12_503 : Cond.methodLink RX12 503 yX12_numberOf ∈ gG := gG_10 3 (by decide +kernel) (by decide +kernel)
theorem lk_X12_506 : Cond.methodLink RX12 506 yX12_backOf ∈ gG := gG_10 7 (by decide +kernel) (by decide +kernel)
theorem lk_X12_509 : Cond.methodLink RX12 509 yX12_leastOf ∈ gG := gG_10 11 (by decide +kernel) (by decide +kernel)
theorem lk_X12_519 : Cond.methodLink RX12 519 yX12_mostOf ∈ gG := gG_10 15 (by decide +kernel) (by decide +kernel)
theorem lk_X12_528 : Cond.methodLink RX12 528 yX12_holds ∈ gG := gG_10 19 (by decide +kernel) (by decide +kernel)
theorem lk_X12_500 : Cond.methodLink RX12 500 yX12_holdsPiece ∈ gG := gG_10 23 (by decide +kernel) (by decide +kernel)
theorem lk_X12_540 : Cond.methodLink RX12 540 yX12_stateOf ∈ gG := gG_10 27 (by decide +kernel) (by decide +kernel)
theorem lk_X12_531 : Cond.methodLink RX12 531 yX12_toldOf ∈ gG := gG_10 31 (by decide +kernel) (by decide +kernel)
theorem lk_L_122 : Cond.methodLink RL 122 yX12_member ∈ gG := gG_10 35 (by decide +kernel) (by decide +kernel)
theorem lk_X12_546 : Cond.methodLink RX12 546 yX12_isMember ∈ gG := gG_10 39 (by decide +kernel) (by decide +kernel)
theorem lk_L_127 : Cond.methodLink RL 127 yX12_matter ∈ gG := gG_10 43 (by decide +kernel) (by decide +kernel)
theorem lk_L_131 : Cond.methodLink RL 131 yX12_sits ∈ gG := gG_10 47 (by decide +kernel) (by decide +kernel)
theorem lk_X12_555 : Cond.methodLink RX12 555 yX12_isMatter ∈ gG := gG_10 51 (by decide +kernel) (by decide +kernel)
theorem lk_X12_558 : Cond.methodLink RX12 558 yX12_sitsOf ∈ gG := gG_10 55 (by decide +kernel) (by decide +kernel)
theorem lk_X12_552 : Cond.methodLink RX12 552 yX12_shareOf ∈ gG := gG_10 59 (by decide +kernel) (by decide +kernel)
theorem lk_L_135 : Cond.methodLink RL 135 yX12_quorum ∈ gG := gG_10 63 (by decide +kernel) (by decide +kernel)
theorem lk_L_139 : Cond.methodLink RL 139 yX12_entry ∈ gG := gG_10 67 (by decide +kernel) (by decide +kernel)
theorem lk_L_143 : Cond.methodLink RL 143 yX12_joined ∈ gG := gG_10 71 (by decide +kernel) (by decide +kernel)
theorem lk_X12_580 : Cond.methodLink RX12 580 yX12_join ∈ gG := gG_10 75 (by decide +kernel) (by decide +kernel)
theorem lk_X12_568 : Cond.methodLink RX12 568 yX12_fit ∈ gG := gG_10 79 (by decide +kernel) (by decide +kernel)
theorem lk_X12_571 : Cond.methodLink RX12 571 yX12_finds ∈ gG := gG_10 83 (by decide +kernel) (by decide +kernel)
theorem lk_X12_565 : Cond.methodLink RX12 565 yX12_change ∈ gG := gG_10 87 (by decide +kernel) (by decide +kernel)
theorem lk_X12_574 : Cond.methodLink RX12 574 yX12_lessen ∈ gG := gG_10 91 (by decide +kernel) (by decide +kernel)
theorem lk_X12_577 : Cond.methodLink RX12 577 yX12_findsBehind ∈ gG := gG_10 95 (by decide +kernel) (by decide +kernel)
theorem lk_L_146 : Cond.methodLink RL 146 yX12_entered ∈ gG := gG_10 99 (by decide +kernel) (by decide +kernel)
theorem lk_L_151 : Cond.methodLink RL 151 yX12_vote ∈ gG := gG_10 103 (by decide +kernel) (by decide +kernel)
theorem lk_L_155 : Cond.methodLink RL 155 yX12_links ∈ gG := gG_10 107 (by decide +kernel) (by decide +kernel)
theorem lk_X12_601 : Cond.methodLink RX12 601 yX12_countVotes ∈ gG := gG_10 111 (by decide +kernel) (by decide +kernel)
theorem lk_X12_598 : Cond.methodLink RX12 598 yX12_isWarm ∈ gG := gG_10 115 (by decide +kernel) (by decide +kernel)
theorem lk_L_159 : Cond.methodLink RL 159 yX12_chance ∈ gG := gG_10 119 (by decide +kernel) (by decide +kernel)
theorem lk_X12_604 : Cond.methodLink RX12 604 yX12_choose ∈ gG := gG_10 123 (by decide +kernel) (by decide +kernel)
theorem lk_L_163 : Cond.methodLink RL 163 yX12_asked ∈ gG := gG_10 127 (by decide +kernel) (by decide +kernel)
theorem lk_L_167 : Cond.methodLink RL 167 yX12_count ∈ gG := gG_10 131 (by decide +kernel) (by decide +kernel)
theorem is_X0 : Cond.instantiable RX0 8 ∈ gG := gG_1 146 (by decide +kernel) (by decide +kernel)
theorem iz_X0 : Cond.initialized RX0 ∈ gG := gG_1 5 (by decide +kernel) (by decide +kernel)
theorem is_X1 : Cond.instantiable RX1 11 ∈ gG := gG_2 235 (by decide +kernel) (by decide +kernel)
theorem iz_X1 : Cond.initialized RX1 ∈ gG := gG_1 12 (by decide +kernel) (by decide +kernel)
theorem is_X2 : Cond.instantiable RX2 17 ∈ gG := gG_1 179 (by decide +kernel) (by decide +kernel)
theorem iz_X2 : Cond.initialized RX2 ∈ gG := gG_1 6 (by decide +kernel) (by decide +kernel)
theorem is_X3 : Cond.instantiable RX3 9 ∈ gG := gG_2 143 (by decide +kernel) (by decide +kernel)
theorem iz_X3 : Cond.initialized RX3 ∈ gG := gG_1 10 (by decide +kernel) (by decide +kernel)
theorem is_X4 : Cond.instantiable RX4 16 ∈ gG := gG_2 5 (by decide +kernel) (by decide +kernel)
theorem iz_X4 : Cond.initialized RX4 ∈ gG := gG_1 8 (by decide +kernel) (by decide +kernel)
theorem is_X5 : Cond.instantiable RX5 18 ∈ gG := gG_1 238 (by decide +kernel) (by decide +kernel)
theorem iz_X5 : Cond.initialized RX5 ∈ gG := gG_1 7 (by decide +kernel) (by decide +kernel)
theorem is_X6 : Cond.instantiable RX6 17 ∈ gG := gG_2 177 (by decide +kernel) (by decide +kernel)
theorem iz_X6 : Cond.initialized RX6 ∈ gG := gG_1 11 (by decide +kernel) (by decide +kernel)
theorem is_X7 : Cond.instantiable RX7 13 ∈ gG := gG_1 98 (by decide +kernel) (by decide +kernel)
theorem iz_X7 : Cond.initialized RX7 ∈ gG := gG_1 4 (by decide +kernel) (by decide +kernel)
theorem is_X8 : Cond.instantiable RX8 9 ∈ gG := gG_1 34 (by decide +kernel) (by decide +kernel)
theorem iz_X8 : Cond.initialized RX8 ∈ gG := gG_1 2 (by decide +kernel) (by decide +kernel)
theorem is_X9 : Cond.instantiable RX9 7 ∈ gG := gG_1 40 (by decide +kernel) (by decide +kernel)
theorem iz_X9 : Cond.initialized RX9 ∈ gG := gG_1 3 (by decide +kernel) (by decide +kernel)
theorem is_X10 : Cond.instantiable RX10 7 ∈ gG := gG_2 60 (by decide +kernel) (by decide +kernel)
theorem iz_X10 : Cond.initialized RX10 ∈ gG := gG_1 9 (by decide +kernel) (by decide +kernel)
theorem is_X11 : Cond.instantiable RX11 14 ∈ gG := gG_1 26 (by decide +kernel) (by decide +kernel)
theorem iz_X11 : Cond.initialized RX11 ∈ gG := gG_1 1 (by decide +kernel) (by decide +kernel)
theorem is_X12 : Cond.instantiable RX12 116 ∈ gG := gG_7 99 (by decide +kernel) (by decide +kernel)
theorem iz_X12 : Cond.initialized RX12 ∈ gG := gG_1 13 (by decide +kernel) (by decide +kernel)
theorem ac_I : Cond.arrayClass .int ∈ gG := gG_1 67 (by decide +kernel) (by decide +kernel)
theorem ac_J : Cond.arrayClass .long ∈ gG := gG_1 68 (by decide +kernel) (by decide +kernel)
theorem ac_Z : Cond.arrayClass .boolean ∈ gG := gG_1 236 (by decide +kernel) (by decide +kernel)
