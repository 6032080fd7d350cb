/-! LINKS: the words of the tables by their places, a row a field, a method, a call -/
theorem ct_at (i : Nat) {w : Cond} (h : tables_1[i]? = some w) (hg : goodWord w = true) : w ∈ ct_tbl := List.mem_filter.mpr ⟨List.mem_append_right _ (List.mem_of_getElem? h), hg⟩
theorem ct_atS (i : Nat) {w : Cond} (h : (k2_sels lw_privs)[i]? = some w) (hg : goodWord w = true) : w ∈ ct_tbl := List.mem_filter.mpr ⟨List.mem_append_left _ (List.mem_of_getElem? h), hg⟩
theorem ct_atN (i : Nat) {w : Cond} (h : tables_1[i]? = some w) (hg : ct_isN w = true) : w ∈ ct_nst := List.mem_filter.mpr ⟨List.mem_append_right _ (List.mem_of_getElem? h), hg⟩
theorem ct_ats (is : List Nat) {ws : List Cond} (h : ws = is.filterMap (fun i => tables_1[i]?)) (hg : ws.all goodWord = true) : ∀ w ∈ ws, w ∈ ct_tbl := by
  intro w hw
  have h1 := List.all_eq_true.mp hg w hw
  rw [h] at hw
  obtain ⟨i, -, hi⟩ := List.mem_filterMap.mp hw
  exact ct_at i hi h1
theorem clX0 : ct_cl 0 RX0 TX0 2 tyX0 := ⟨rfl, ct_ats [214, 216] (by decide +kernel) (by decide +kernel), tyX0_ok, nmX0⟩
theorem clX1 : ct_cl 1 RX1 TX1 3 tyX1 := ⟨rfl, ct_ats [283, 285, 287] (by decide +kernel) (by decide +kernel), tyX1_ok, nmX1⟩
theorem clX2 : ct_cl 2 RX2 TX2 3 tyX2 := ⟨rfl, ct_ats [112, 114, 116] (by decide +kernel) (by decide +kernel), tyX2_ok, nmX2⟩
theorem clX3 : ct_cl 3 RX3 TX3 3 tyX3 := ⟨rfl, ct_ats [250, 252, 254] (by decide +kernel) (by decide +kernel), tyX3_ok, nmX3⟩
theorem clX4 : ct_cl 4 RX4 TX4 2 tyX4 := ⟨rfl, ct_ats [231, 233] (by decide +kernel) (by decide +kernel), tyX4_ok, nmX4⟩
theorem clX5 : ct_cl 5 RX5 TX5 4 tyX5 := ⟨rfl, ct_ats [180, 182, 184, 186] (by decide +kernel) (by decide +kernel), tyX5_ok, nmX5⟩
theorem clX6 : ct_cl 6 RX6 TX6 5 tyX6 := ⟨rfl, ct_ats [64, 66, 68, 70, 72] (by decide +kernel) (by decide +kernel), tyX6_ok, nmX6⟩
theorem clX7 : ct_cl 7 RX7 TX7 2 tyX7 := ⟨rfl, ct_ats [85, 87] (by decide +kernel) (by decide +kernel), tyX7_ok, nmX7⟩
theorem clX8 : ct_cl 8 RX8 TX8 2 tyX8 := ⟨rfl, ct_ats [197, 199] (by decide +kernel) (by decide +kernel), tyX8_ok, nmX8⟩
theorem clX9 : ct_cl 9 RX9 TX9 7 tyX9 := ⟨rfl, ct_ats [154, 156, 158, 160, 162, 164, 166] (by decide +kernel) (by decide +kernel), tyX9_ok, nmX9⟩
theorem clX10 : ct_cl 10 RX10 TX10 3 tyX10 := ⟨rfl, ct_ats [266, 268, 270] (by decide +kernel) (by decide +kernel), tyX10_ok, nmX10⟩
theorem clX11 : ct_cl 11 RX11 TX11 11 tyX11 := ⟨rfl, ct_ats [301, 303, 305, 307, 309, 311, 313, 315, 317, 319, 321] (by decide +kernel) (by decide +kernel), tyX11_ok, nmX11⟩
theorem clX12 : ct_cl 12 RX12 TX12 31 tyX12 := ⟨rfl, ct_ats [837, 839, 841, 843, 845, 847, 849, 851, 853, 855, 857, 859, 861, 863, 865, 867, 869, 871, 873, 875, 877, 879, 881, 883, 885, 887, 889, 891, 893, 895, 897] (by decide +kernel) (by decide +kernel), tyX12_ok, nmX12⟩
theorem flX6_9 : ct_fl RX6 9 6 0 := ⟨RX6, TX6, 5, tyX6, clX6, by decide, ct_at 33 (by decide +kernel) rfl⟩
theorem fpX6_9 : ct_fp RX6 9 6 0 false (.int) := ⟨RX6, TX6, 5, tyX6, clX6, by decide, ct_at 33 (by decide +kernel) rfl, rfl, by decide +kernel, rfl⟩
theorem flX5_59 : ct_fl RX5 59 6 0 := ⟨RX6, TX6, 5, tyX6, clX6, by decide, ct_at 34 (by decide +kernel) rfl⟩
theorem fpX5_59 : ct_fp RX5 59 6 0 false (.int) := ⟨RX6, TX6, 5, tyX6, clX6, by decide, ct_at 34 (by decide +kernel) rfl, rfl, by decide +kernel, rfl⟩
theorem flX11_112 : ct_fl RX11 112 6 0 := ⟨RX6, TX6, 5, tyX6, clX6, by decide, ct_at 35 (by decide +kernel) rfl⟩
theorem fpX11_112 : ct_fp RX11 112 6 0 false (.int) := ⟨RX6, TX6, 5, tyX6, clX6, by decide, ct_at 35 (by decide +kernel) rfl, rfl, by decide +kernel, rfl⟩
theorem flX8_108 : ct_fl RX8 108 6 0 := ⟨RX6, TX6, 5, tyX6, clX6, by decide, ct_at 36 (by decide +kernel) rfl⟩
theorem fpX8_108 : ct_fp RX8 108 6 0 false (.int) := ⟨RX6, TX6, 5, tyX6, clX6, by decide, ct_at 36 (by decide +kernel) rfl, rfl, by decide +kernel, rfl⟩
theorem flX7_47 : ct_fl RX7 47 6 0 := ⟨RX6, TX6, 5, tyX6, clX6, by decide, ct_at 37 (by decide +kernel) rfl⟩
theorem fpX7_47 : ct_fp RX7 47 6 0 false (.int) := ⟨RX6, TX6, 5, tyX6, clX6, by decide, ct_at 37 (by decide +kernel) rfl, rfl, by decide +kernel, rfl⟩
theorem flX9_47 : ct_fl RX9 47 6 0 := ⟨RX6, TX6, 5, tyX6, clX6, by decide, ct_at 38 (by decide +kernel) rfl⟩
theorem fpX9_47 : ct_fp RX9 47 6 0 false (.int) := ⟨RX6, TX6, 5, tyX6, clX6, by decide, ct_at 38 (by decide +kernel) rfl, rfl, by decide +kernel, rfl⟩
theorem flX6_15 : ct_fl RX6 15 6 1 := ⟨RX6, TX6, 5, tyX6, clX6, by decide, ct_at 39 (by decide +kernel) rfl⟩
theorem fpX6_15 : ct_fp RX6 15 6 1 false (.int) := ⟨RX6, TX6, 5, tyX6, clX6, by decide, ct_at 39 (by decide +kernel) rfl, rfl, by decide +kernel, rfl⟩
theorem flX1_26 : ct_fl RX1 26 6 1 := ⟨RX6, TX6, 5, tyX6, clX6, by decide, ct_at 40 (by decide +kernel) rfl⟩
theorem fpX1_26 : ct_fp RX1 26 6 1 false (.int) := ⟨RX6, TX6, 5, tyX6, clX6, by decide, ct_at 40 (by decide +kernel) rfl, rfl, by decide +kernel, rfl⟩
theorem flX5_69 : ct_fl RX5 69 6 1 := ⟨RX6, TX6, 5, tyX6, clX6, by decide, ct_at 41 (by decide +kernel) rfl⟩
theorem fpX5_69 : ct_fp RX5 69 6 1 false (.int) := ⟨RX6, TX6, 5, tyX6, clX6, by decide, ct_at 41 (by decide +kernel) rfl, rfl, by decide +kernel, rfl⟩
theorem flX11_109 : ct_fl RX11 109 6 1 := ⟨RX6, TX6, 5, tyX6, clX6, by decide, ct_at 42 (by decide +kernel) rfl⟩
theorem fpX11_109 : ct_fp RX11 109 6 1 false (.int) := ⟨RX6, TX6, 5, tyX6, clX6, by decide, ct_at 42 (by decide +kernel) rfl, rfl, by decide +kernel, rfl⟩
theorem flX7_55 : ct_fl RX7 55 6 1 := ⟨RX6, TX6, 5, tyX6, clX6, by decide, ct_at 43 (by decide +kernel) rfl⟩
theorem fpX7_55 : ct_fp RX7 55 6 1 false (.int) := ⟨RX6, TX6, 5, tyX6, clX6, by decide, ct_at 43 (by decide +kernel) rfl, rfl, by decide +kernel, rfl⟩
theorem flX10_84 : ct_fl RX10 84 6 1 := ⟨RX6, TX6, 5, tyX6, clX6, by decide, ct_at 44 (by decide +kernel) rfl⟩
theorem fpX10_84 : ct_fp RX10 84 6 1 false (.int) := ⟨RX6, TX6, 5, tyX6, clX6, by decide, ct_at 44 (by decide +kernel) rfl, rfl, by decide +kernel, rfl⟩
theorem flX6_18 : ct_fl RX6 18 6 2 := ⟨RX6, TX6, 5, tyX6, clX6, by decide, ct_at 45 (by decide +kernel) rfl⟩
theorem fpX6_18 : ct_fp RX6 18 6 2 true (.array .int) := ⟨RX6, TX6, 5, tyX6, clX6, by decide, ct_at 45 (by decide +kernel) rfl, rfl, by decide +kernel, rfl⟩
theorem flX9_42 : ct_fl RX9 42 6 2 := ⟨RX6, TX6, 5, tyX6, clX6, by decide, ct_at 46 (by decide +kernel) rfl⟩
theorem fpX9_42 : ct_fp RX9 42 6 2 true (.array .int) := ⟨RX6, TX6, 5, tyX6, clX6, by decide, ct_at 46 (by decide +kernel) rfl, rfl, by decide +kernel, rfl⟩
theorem flX1_49 : ct_fl RX1 49 6 2 := ⟨RX6, TX6, 5, tyX6, clX6, by decide, ct_at 47 (by decide +kernel) rfl⟩
theorem fpX1_49 : ct_fp RX1 49 6 2 true (.array .int) := ⟨RX6, TX6, 5, tyX6, clX6, by decide, ct_at 47 (by decide +kernel) rfl, rfl, by decide +kernel, rfl⟩
theorem flX10_69 : ct_fl RX10 69 6 2 := ⟨RX6, TX6, 5, tyX6, clX6, by decide, ct_at 48 (by decide +kernel) rfl⟩
theorem fpX10_69 : ct_fp RX10 69 6 2 true (.array .int) := ⟨RX6, TX6, 5, tyX6, clX6, by decide, ct_at 48 (by decide +kernel) rfl, rfl, by decide +kernel, rfl⟩
theorem flX11_163 : ct_fl RX11 163 6 2 := ⟨RX6, TX6, 5, tyX6, clX6, by decide, ct_at 49 (by decide +kernel) rfl⟩
theorem fpX11_163 : ct_fp RX11 163 6 2 true (.array .int) := ⟨RX6, TX6, 5, tyX6, clX6, by decide, ct_at 49 (by decide +kernel) rfl, rfl, by decide +kernel, rfl⟩
theorem flX7_52 : ct_fl RX7 52 6 2 := ⟨RX6, TX6, 5, tyX6, clX6, by decide, ct_at 50 (by decide +kernel) rfl⟩
theorem fpX7_52 : ct_fp RX7 52 6 2 true (.array .int) := ⟨RX6, TX6, 5, tyX6, clX6, by decide, ct_at 50 (by decide +kernel) rfl, rfl, by decide +kernel, rfl⟩
theorem flX6_24 : ct_fl RX6 24 6 3 := ⟨RX6, TX6, 5, tyX6, clX6, by decide, ct_at 51 (by decide +kernel) rfl⟩
theorem fpX6_24 : ct_fp RX6 24 6 3 true (.array (.array .int)) := ⟨RX6, TX6, 5, tyX6, clX6, by decide, ct_at 51 (by decide +kernel) rfl, rfl, by decide +kernel, rfl⟩
theorem flX5_53 : ct_fl RX5 53 6 3 := ⟨RX6, TX6, 5, tyX6, clX6, by decide, ct_at 52 (by decide +kernel) rfl⟩
theorem fpX5_53 : ct_fp RX5 53 6 3 true (.array (.array .int)) := ⟨RX6, TX6, 5, tyX6, clX6, by decide, ct_at 52 (by decide +kernel) rfl, rfl, by decide +kernel, rfl⟩
theorem flX1_59 : ct_fl RX1 59 6 3 := ⟨RX6, TX6, 5, tyX6, clX6, by decide, ct_at 53 (by decide +kernel) rfl⟩
theorem fpX1_59 : ct_fp RX1 59 6 3 true (.array (.array .int)) := ⟨RX6, TX6, 5, tyX6, clX6, by decide, ct_at 53 (by decide +kernel) rfl, rfl, by decide +kernel, rfl⟩
theorem flX11_173 : ct_fl RX11 173 6 3 := ⟨RX6, TX6, 5, tyX6, clX6, by decide, ct_at 54 (by decide +kernel) rfl⟩
theorem fpX11_173 : ct_fp RX11 173 6 3 true (.array (.array .int)) := ⟨RX6, TX6, 5, tyX6, clX6, by decide, ct_at 54 (by decide +kernel) rfl, rfl, by decide +kernel, rfl⟩
theorem flX8_111 : ct_fl RX8 111 6 3 := ⟨RX6, TX6, 5, tyX6, clX6, by decide, ct_at 55 (by decide +kernel) rfl⟩
theorem fpX8_111 : ct_fp RX8 111 6 3 true (.array (.array .int)) := ⟨RX6, TX6, 5, tyX6, clX6, by decide, ct_at 55 (by decide +kernel) rfl, rfl, by decide +kernel, rfl⟩
theorem flX7_62 : ct_fl RX7 62 6 3 := ⟨RX6, TX6, 5, tyX6, clX6, by decide, ct_at 56 (by decide +kernel) rfl⟩
theorem fpX7_62 : ct_fp RX7 62 6 3 true (.array (.array .int)) := ⟨RX6, TX6, 5, tyX6, clX6, by decide, ct_at 56 (by decide +kernel) rfl, rfl, by decide +kernel, rfl⟩
theorem flX10_87 : ct_fl RX10 87 6 3 := ⟨RX6, TX6, 5, tyX6, clX6, by decide, ct_at 57 (by decide +kernel) rfl⟩
theorem fpX10_87 : ct_fp RX10 87 6 3 true (.array (.array .int)) := ⟨RX6, TX6, 5, tyX6, clX6, by decide, ct_at 57 (by decide +kernel) rfl, rfl, by decide +kernel, rfl⟩
theorem flX6_27 : ct_fl RX6 27 6 4 := ⟨RX6, TX6, 5, tyX6, clX6, by decide, ct_at 58 (by decide +kernel) rfl⟩
theorem fpX6_27 : ct_fp RX6 27 6 4 true (.array .int) := ⟨RX6, TX6, 5, tyX6, clX6, by decide, ct_at 58 (by decide +kernel) rfl, rfl, by decide +kernel, rfl⟩
theorem flX5_76 : ct_fl RX5 76 6 4 := ⟨RX6, TX6, 5, tyX6, clX6, by decide, ct_at 59 (by decide +kernel) rfl⟩
theorem fpX5_76 : ct_fp RX5 76 6 4 true (.array .int) := ⟨RX6, TX6, 5, tyX6, clX6, by decide, ct_at 59 (by decide +kernel) rfl, rfl, by decide +kernel, rfl⟩
theorem flX1_63 : ct_fl RX1 63 6 4 := ⟨RX6, TX6, 5, tyX6, clX6, by decide, ct_at 60 (by decide +kernel) rfl⟩
theorem fpX1_63 : ct_fp RX1 63 6 4 true (.array .int) := ⟨RX6, TX6, 5, tyX6, clX6, by decide, ct_at 60 (by decide +kernel) rfl, rfl, by decide +kernel, rfl⟩
theorem flX11_177 : ct_fl RX11 177 6 4 := ⟨RX6, TX6, 5, tyX6, clX6, by decide, ct_at 61 (by decide +kernel) rfl⟩
theorem fpX11_177 : ct_fp RX11 177 6 4 true (.array .int) := ⟨RX6, TX6, 5, tyX6, clX6, by decide, ct_at 61 (by decide +kernel) rfl, rfl, by decide +kernel, rfl⟩
theorem flX10_91 : ct_fl RX10 91 6 4 := ⟨RX6, TX6, 5, tyX6, clX6, by decide, ct_at 62 (by decide +kernel) rfl⟩
theorem fpX10_91 : ct_fp RX10 91 6 4 true (.array .int) := ⟨RX6, TX6, 5, tyX6, clX6, by decide, ct_at 62 (by decide +kernel) rfl, rfl, by decide +kernel, rfl⟩
theorem flX7_70 : ct_fl RX7 70 6 4 := ⟨RX6, TX6, 5, tyX6, clX6, by decide, ct_at 63 (by decide +kernel) rfl⟩
theorem fpX7_70 : ct_fp RX7 70 6 4 true (.array .int) := ⟨RX6, TX6, 5, tyX6, clX6, by decide, ct_at 63 (by decide +kernel) rfl, rfl, by decide +kernel, rfl⟩
theorem flX7_9 : ct_fl RX7 9 7 0 := ⟨RX7, TX7, 2, tyX7, clX7, by decide, ct_at 82 (by decide +kernel) rfl⟩
theorem fpX7_9 : ct_fp RX7 9 7 0 true (.array .int) := ⟨RX7, TX7, 2, tyX7, clX7, by decide, ct_at 82 (by decide +kernel) rfl, rfl, by decide +kernel, rfl⟩
theorem flX7_15 : ct_fl RX7 15 7 1 := ⟨RX7, TX7, 2, tyX7, clX7, by decide, ct_at 83 (by decide +kernel) rfl⟩
theorem fpX7_15 : ct_fp RX7 15 7 1 false (.int) := ⟨RX7, TX7, 2, tyX7, clX7, by decide, ct_at 83 (by decide +kernel) rfl, rfl, by decide +kernel, rfl⟩
theorem flX11_81 : ct_fl RX11 81 7 1 := ⟨RX7, TX7, 2, tyX7, clX7, by decide, ct_at 84 (by decide +kernel) rfl⟩
theorem fpX11_81 : ct_fp RX11 81 7 1 false (.int) := ⟨RX7, TX7, 2, tyX7, clX7, by decide, ct_at 84 (by decide +kernel) rfl, rfl, by decide +kernel, rfl⟩
theorem flX2_9 : ct_fl RX2 9 2 0 := ⟨RX2, TX2, 3, tyX2, clX2, by decide, ct_at 102 (by decide +kernel) rfl⟩
theorem fpX2_9 : ct_fp RX2 9 2 0 true (.array .int) := ⟨RX2, TX2, 3, tyX2, clX2, by decide, ct_at 102 (by decide +kernel) rfl, rfl, by decide +kernel, rfl⟩
theorem flX2_15 : ct_fl RX2 15 2 1 := ⟨RX2, TX2, 3, tyX2, clX2, by decide, ct_at 103 (by decide +kernel) rfl⟩
theorem fpX2_15 : ct_fp RX2 15 2 1 true (.array .int) := ⟨RX2, TX2, 3, tyX2, clX2, by decide, ct_at 103 (by decide +kernel) rfl, rfl, by decide +kernel, rfl⟩
theorem flX10_37 : ct_fl RX10 37 2 1 := ⟨RX2, TX2, 3, tyX2, clX2, by decide, ct_at 104 (by decide +kernel) rfl⟩
theorem fpX10_37 : ct_fp RX10 37 2 1 true (.array .int) := ⟨RX2, TX2, 3, tyX2, clX2, by decide, ct_at 104 (by decide +kernel) rfl, rfl, by decide +kernel, rfl⟩
theorem flX5_83 : ct_fl RX5 83 2 1 := ⟨RX2, TX2, 3, tyX2, clX2, by decide, ct_at 105 (by decide +kernel) rfl⟩
theorem fpX5_83 : ct_fp RX5 83 2 1 true (.array .int) := ⟨RX2, TX2, 3, tyX2, clX2, by decide, ct_at 105 (by decide +kernel) rfl, rfl, by decide +kernel, rfl⟩
theorem flX8_119 : ct_fl RX8 119 2 1 := ⟨RX2, TX2, 3, tyX2, clX2, by decide, ct_at 106 (by decide +kernel) rfl⟩
theorem fpX8_119 : ct_fp RX8 119 2 1 true (.array .int) := ⟨RX2, TX2, 3, tyX2, clX2, by decide, ct_at 106 (by decide +kernel) rfl, rfl, by decide +kernel, rfl⟩
theorem flX11_199 : ct_fl RX11 199 2 1 := ⟨RX2, TX2, 3, tyX2, clX2, by decide, ct_at 107 (by decide +kernel) rfl⟩
theorem fpX11_199 : ct_fp RX11 199 2 1 true (.array .int) := ⟨RX2, TX2, 3, tyX2, clX2, by decide, ct_at 107 (by decide +kernel) rfl, rfl, by decide +kernel, rfl⟩
theorem flX2_18 : ct_fl RX2 18 2 2 := ⟨RX2, TX2, 3, tyX2, clX2, by decide, ct_at 108 (by decide +kernel) rfl⟩
theorem fpX2_18 : ct_fp RX2 18 2 2 false (.int) := ⟨RX2, TX2, 3, tyX2, clX2, by decide, ct_at 108 (by decide +kernel) rfl, rfl, by decide +kernel, rfl⟩
theorem flX5_35 : ct_fl RX5 35 2 2 := ⟨RX2, TX2, 3, tyX2, clX2, by decide, ct_at 109 (by decide +kernel) rfl⟩
theorem fpX5_35 : ct_fp RX5 35 2 2 false (.int) := ⟨RX2, TX2, 3, tyX2, clX2, by decide, ct_at 109 (by decide +kernel) rfl, rfl, by decide +kernel, rfl⟩
theorem flX11_134 : ct_fl RX11 134 2 2 := ⟨RX2, TX2, 3, tyX2, clX2, by decide, ct_at 110 (by decide +kernel) rfl⟩
theorem fpX11_134 : ct_fp RX11 134 2 2 false (.int) := ⟨RX2, TX2, 3, tyX2, clX2, by decide, ct_at 110 (by decide +kernel) rfl, rfl, by decide +kernel, rfl⟩
theorem flX8_128 : ct_fl RX8 128 2 2 := ⟨RX2, TX2, 3, tyX2, clX2, by decide, ct_at 111 (by decide +kernel) rfl⟩
theorem fpX8_128 : ct_fp RX8 128 2 2 false (.int) := ⟨RX2, TX2, 3, tyX2, clX2, by decide, ct_at 111 (by decide +kernel) rfl, rfl, by decide +kernel, rfl⟩
theorem flX9_31 : ct_fl RX9 31 9 0 := ⟨RX9, TX9, 7, tyX9, clX9, by decide, ct_at 133 (by decide +kernel) rfl⟩
theorem fpX9_31 : ct_fp RX9 31 9 0 true (.object "CutTrail$Task") := ⟨RX9, TX9, 7, tyX9, clX9, by decide, ct_at 133 (by decide +kernel) rfl, rfl, by decide +kernel, rfl⟩
theorem flX9_9 : ct_fl RX9 9 9 1 := ⟨RX9, TX9, 7, tyX9, clX9, by decide, ct_at 134 (by decide +kernel) rfl⟩
theorem fpX9_9 : ct_fp RX9 9 9 1 true (.array .int) := ⟨RX9, TX9, 7, tyX9, clX9, by decide, ct_at 134 (by decide +kernel) rfl, rfl, by decide +kernel, rfl⟩
theorem flX8_29 : ct_fl RX8 29 9 1 := ⟨RX9, TX9, 7, tyX9, clX9, by decide, ct_at 135 (by decide +kernel) rfl⟩
theorem fpX8_29 : ct_fp RX8 29 9 1 true (.array .int) := ⟨RX9, TX9, 7, tyX9, clX9, by decide, ct_at 135 (by decide +kernel) rfl, rfl, by decide +kernel, rfl⟩
theorem flX11_183 : ct_fl RX11 183 9 1 := ⟨RX9, TX9, 7, tyX9, clX9, by decide, ct_at 136 (by decide +kernel) rfl⟩
theorem fpX11_183 : ct_fp RX11 183 9 1 true (.array .int) := ⟨RX9, TX9, 7, tyX9, clX9, by decide, ct_at 136 (by decide +kernel) rfl, rfl, by decide +kernel, rfl⟩
theorem flX9_15 : ct_fl RX9 15 9 2 := ⟨RX9, TX9, 7, tyX9, clX9, by decide, ct_at 137 (by decide +kernel) rfl⟩
theorem fpX9_15 : ct_fp RX9 15 9 2 true (.array .int) := ⟨RX9, TX9, 7, tyX9, clX9, by decide, ct_at 137 (by decide +kernel) rfl, rfl, by decide +kernel, rfl⟩
theorem flX8_60 : ct_fl RX8 60 9 2 := ⟨RX9, TX9, 7, tyX9, clX9, by decide, ct_at 138 (by decide +kernel) rfl⟩
theorem fpX8_60 : ct_fp RX8 60 9 2 true (.array .int) := ⟨RX9, TX9, 7, tyX9, clX9, by decide, ct_at 138 (by decide +kernel) rfl, rfl, by decide +kernel, rfl⟩
theorem flX11_186 : ct_fl RX11 186 9 2 := ⟨RX9, TX9, 7, tyX9, clX9, by decide, ct_at 139 (by decide +kernel) rfl⟩
theorem fpX11_186 : ct_fp RX11 186 9 2 true (.array .int) := ⟨RX9, TX9, 7, tyX9, clX9, by decide, ct_at 139 (by decide +kernel) rfl, rfl, by decide +kernel, rfl⟩
theorem flX9_18 : ct_fl RX9 18 9 3 := ⟨RX9, TX9, 7, tyX9, clX9, by decide, ct_at 140 (by decide +kernel) rfl⟩
theorem fpX9_18 : ct_fp RX9 18 9 3 true (.array .int) := ⟨RX9, TX9, 7, tyX9, clX9, by decide, ct_at 140 (by decide +kernel) rfl, rfl, by decide +kernel, rfl⟩
theorem flX8_24 : ct_fl RX8 24 9 3 := ⟨RX9, TX9, 7, tyX9, clX9, by decide, ct_at 141 (by decide +kernel) rfl⟩
theorem fpX8_24 : ct_fp RX8 24 9 3 true (.array .int) := ⟨RX9, TX9, 7, tyX9, clX9, by decide, ct_at 141 (by decide +kernel) rfl, rfl, by decide +kernel, rfl⟩
theorem flX11_189 : ct_fl RX11 189 9 3 := ⟨RX9, TX9, 7, tyX9, clX9, by decide, ct_at 142 (by decide +kernel) rfl⟩
theorem fpX11_189 : ct_fp RX11 189 9 3 true (.array .int) := ⟨RX9, TX9, 7, tyX9, clX9, by decide, ct_at 142 (by decide +kernel) rfl, rfl, by decide +kernel, rfl⟩
theorem flX9_21 : ct_fl RX9 21 9 4 := ⟨RX9, TX9, 7, tyX9, clX9, by decide, ct_at 143 (by decide +kernel) rfl⟩
theorem fpX9_21 : ct_fp RX9 21 9 4 true (.array .int) := ⟨RX9, TX9, 7, tyX9, clX9, by decide, ct_at 143 (by decide +kernel) rfl, rfl, by decide +kernel, rfl⟩
theorem flX10_29 : ct_fl RX10 29 9 4 := ⟨RX9, TX9, 7, tyX9, clX9, by decide, ct_at 144 (by decide +kernel) rfl⟩
theorem fpX10_29 : ct_fp RX10 29 9 4 true (.array .int) := ⟨RX9, TX9, 7, tyX9, clX9, by decide, ct_at 144 (by decide +kernel) rfl, rfl, by decide +kernel, rfl⟩
theorem flX5_62 : ct_fl RX5 62 9 4 := ⟨RX9, TX9, 7, tyX9, clX9, by decide, ct_at 145 (by decide +kernel) rfl⟩
theorem fpX5_62 : ct_fp RX5 62 9 4 true (.array .int) := ⟨RX9, TX9, 7, tyX9, clX9, by decide, ct_at 145 (by decide +kernel) rfl, rfl, by decide +kernel, rfl⟩
theorem flX11_156 : ct_fl RX11 156 9 4 := ⟨RX9, TX9, 7, tyX9, clX9, by decide, ct_at 146 (by decide +kernel) rfl⟩
theorem fpX11_156 : ct_fp RX11 156 9 4 true (.array .int) := ⟨RX9, TX9, 7, tyX9, clX9, by decide, ct_at 146 (by decide +kernel) rfl, rfl, by decide +kernel, rfl⟩
theorem flX9_24 : ct_fl RX9 24 9 5 := ⟨RX9, TX9, 7, tyX9, clX9, by decide, ct_at 147 (by decide +kernel) rfl⟩
theorem fpX9_24 : ct_fp RX9 24 9 5 true (.array .int) := ⟨RX9, TX9, 7, tyX9, clX9, by decide, ct_at 147 (by decide +kernel) rfl, rfl, by decide +kernel, rfl⟩
theorem flX10_34 : ct_fl RX10 34 9 5 := ⟨RX9, TX9, 7, tyX9, clX9, by decide, ct_at 148 (by decide +kernel) rfl⟩
theorem fpX10_34 : ct_fp RX10 34 9 5 true (.array .int) := ⟨RX9, TX9, 7, tyX9, clX9, by decide, ct_at 148 (by decide +kernel) rfl, rfl, by decide +kernel, rfl⟩
theorem flX5_66 : ct_fl RX5 66 9 5 := ⟨RX9, TX9, 7, tyX9, clX9, by decide, ct_at 149 (by decide +kernel) rfl⟩
theorem fpX5_66 : ct_fp RX5 66 9 5 true (.array .int) := ⟨RX9, TX9, 7, tyX9, clX9, by decide, ct_at 149 (by decide +kernel) rfl, rfl, by decide +kernel, rfl⟩
theorem flX11_160 : ct_fl RX11 160 9 5 := ⟨RX9, TX9, 7, tyX9, clX9, by decide, ct_at 150 (by decide +kernel) rfl⟩
theorem fpX11_160 : ct_fp RX11 160 9 5 true (.array .int) := ⟨RX9, TX9, 7, tyX9, clX9, by decide, ct_at 150 (by decide +kernel) rfl, rfl, by decide +kernel, rfl⟩
theorem flX9_27 : ct_fl RX9 27 9 6 := ⟨RX9, TX9, 7, tyX9, clX9, by decide, ct_at 151 (by decide +kernel) rfl⟩
theorem fpX9_27 : ct_fp RX9 27 9 6 false (.int) := ⟨RX9, TX9, 7, tyX9, clX9, by decide, ct_at 151 (by decide +kernel) rfl, rfl, by decide +kernel, rfl⟩
theorem flX8_40 : ct_fl RX8 40 9 6 := ⟨RX9, TX9, 7, tyX9, clX9, by decide, ct_at 152 (by decide +kernel) rfl⟩
theorem fpX8_40 : ct_fp RX8 40 9 6 false (.int) := ⟨RX9, TX9, 7, tyX9, clX9, by decide, ct_at 152 (by decide +kernel) rfl, rfl, by decide +kernel, rfl⟩
theorem flX11_119 : ct_fl RX11 119 9 6 := ⟨RX9, TX9, 7, tyX9, clX9, by decide, ct_at 153 (by decide +kernel) rfl⟩
theorem fpX11_119 : ct_fp RX11 119 9 6 false (.int) := ⟨RX9, TX9, 7, tyX9, clX9, by decide, ct_at 153 (by decide +kernel) rfl, rfl, by decide +kernel, rfl⟩
theorem flX5_22 : ct_fl RX5 22 5 0 := ⟨RX5, TX5, 4, tyX5, clX5, by decide, ct_at 169 (by decide +kernel) rfl⟩
theorem fpX5_22 : ct_fp RX5 22 5 0 true (.object "CutTrail$Task") := ⟨RX5, TX5, 4, tyX5, clX5, by decide, ct_at 169 (by decide +kernel) rfl, rfl, by decide +kernel, rfl⟩
theorem flX8_83 : ct_fl RX8 83 5 0 := ⟨RX5, TX5, 4, tyX5, clX5, by decide, ct_at 170 (by decide +kernel) rfl⟩
theorem fpX8_83 : ct_fp RX8 83 5 0 true (.object "CutTrail$Task") := ⟨RX5, TX5, 4, tyX5, clX5, by decide, ct_at 170 (by decide +kernel) rfl, rfl, by decide +kernel, rfl⟩
theorem flX5_31 : ct_fl RX5 31 5 1 := ⟨RX5, TX5, 4, tyX5, clX5, by decide, ct_at 171 (by decide +kernel) rfl⟩
theorem fpX5_31 : ct_fp RX5 31 5 1 true (.object "CutTrail$Trail") := ⟨RX5, TX5, 4, tyX5, clX5, by decide, ct_at 171 (by decide +kernel) rfl, rfl, by decide +kernel, rfl⟩
theorem flX8_18 : ct_fl RX8 18 5 1 := ⟨RX5, TX5, 4, tyX5, clX5, by decide, ct_at 172 (by decide +kernel) rfl⟩
theorem fpX8_18 : ct_fp RX8 18 5 1 true (.object "CutTrail$Trail") := ⟨RX5, TX5, 4, tyX5, clX5, by decide, ct_at 172 (by decide +kernel) rfl, rfl, by decide +kernel, rfl⟩
theorem flX11_115 : ct_fl RX11 115 5 1 := ⟨RX5, TX5, 4, tyX5, clX5, by decide, ct_at 173 (by decide +kernel) rfl⟩
theorem fpX11_115 : ct_fp RX11 115 5 1 true (.object "CutTrail$Trail") := ⟨RX5, TX5, 4, tyX5, clX5, by decide, ct_at 173 (by decide +kernel) rfl, rfl, by decide +kernel, rfl⟩
theorem flX5_12 : ct_fl RX5 12 5 2 := ⟨RX5, TX5, 4, tyX5, clX5, by decide, ct_at 174 (by decide +kernel) rfl⟩
theorem fpX5_12 : ct_fp RX5 12 5 2 true (.object "CutTrail$Cuts") := ⟨RX5, TX5, 4, tyX5, clX5, by decide, ct_at 174 (by decide +kernel) rfl, rfl, by decide +kernel, rfl⟩
theorem flX11_130 : ct_fl RX11 130 5 2 := ⟨RX5, TX5, 4, tyX5, clX5, by decide, ct_at 175 (by decide +kernel) rfl⟩
theorem fpX11_130 : ct_fp RX11 130 5 2 true (.object "CutTrail$Cuts") := ⟨RX5, TX5, 4, tyX5, clX5, by decide, ct_at 175 (by decide +kernel) rfl, rfl, by decide +kernel, rfl⟩
theorem flX8_96 : ct_fl RX8 96 5 2 := ⟨RX5, TX5, 4, tyX5, clX5, by decide, ct_at 176 (by decide +kernel) rfl⟩
theorem fpX8_96 : ct_fp RX8 96 5 2 true (.object "CutTrail$Cuts") := ⟨RX5, TX5, 4, tyX5, clX5, by decide, ct_at 176 (by decide +kernel) rfl, rfl, by decide +kernel, rfl⟩
theorem flX5_18 : ct_fl RX5 18 5 3 := ⟨RX5, TX5, 4, tyX5, clX5, by decide, ct_at 177 (by decide +kernel) rfl⟩
theorem fpX5_18 : ct_fp RX5 18 5 3 false (.boolean) := ⟨RX5, TX5, 4, tyX5, clX5, by decide, ct_at 177 (by decide +kernel) rfl, rfl, by decide +kernel, rfl⟩
theorem flX8_56 : ct_fl RX8 56 5 3 := ⟨RX5, TX5, 4, tyX5, clX5, by decide, ct_at 178 (by decide +kernel) rfl⟩
theorem fpX8_56 : ct_fp RX8 56 5 3 false (.boolean) := ⟨RX5, TX5, 4, tyX5, clX5, by decide, ct_at 178 (by decide +kernel) rfl, rfl, by decide +kernel, rfl⟩
theorem flX11_137 : ct_fl RX11 137 5 3 := ⟨RX5, TX5, 4, tyX5, clX5, by decide, ct_at 179 (by decide +kernel) rfl⟩
theorem fpX11_137 : ct_fp RX11 137 5 3 false (.boolean) := ⟨RX5, TX5, 4, tyX5, clX5, by decide, ct_at 179 (by decide +kernel) rfl, rfl, by decide +kernel, rfl⟩
theorem flX8_9 : ct_fl RX8 9 8 0 := ⟨RX8, TX8, 2, tyX8, clX8, by decide, ct_at 195 (by decide +kernel) rfl⟩
theorem fpX8_9 : ct_fp RX8 9 8 0 true (.array .int) := ⟨RX8, TX8, 2, tyX8, clX8, by decide, ct_at 195 (by decide +kernel) rfl, rfl, by decide +kernel, rfl⟩
theorem flX8_15 : ct_fl RX8 15 8 1 := ⟨RX8, TX8, 2, tyX8, clX8, by decide, ct_at 196 (by decide +kernel) rfl⟩
theorem fpX8_15 : ct_fp RX8 15 8 1 true (.array .int) := ⟨RX8, TX8, 2, tyX8, clX8, by decide, ct_at 196 (by decide +kernel) rfl, rfl, by decide +kernel, rfl⟩
theorem flX0_11 : ct_fl RX0 11 0 0 := ⟨RX0, TX0, 2, tyX0, clX0, by decide, ct_at 211 (by decide +kernel) rfl⟩
theorem fpX0_11 : ct_fp RX0 11 0 0 true (.array (.object "CutTrail$State")) := ⟨RX0, TX0, 2, tyX0, clX0, by decide, ct_at 211 (by decide +kernel) rfl, rfl, by decide +kernel, rfl⟩
theorem flX0_17 : ct_fl RX0 17 0 1 := ⟨RX0, TX0, 2, tyX0, clX0, by decide, ct_at 212 (by decide +kernel) rfl⟩
theorem fpX0_17 : ct_fp RX0 17 0 1 false (.int) := ⟨RX0, TX0, 2, tyX0, clX0, by decide, ct_at 212 (by decide +kernel) rfl, rfl, by decide +kernel, rfl⟩
theorem flX11_100 : ct_fl RX11 100 0 1 := ⟨RX0, TX0, 2, tyX0, clX0, by decide, ct_at 213 (by decide +kernel) rfl⟩
theorem fpX11_100 : ct_fp RX11 100 0 1 false (.int) := ⟨RX0, TX0, 2, tyX0, clX0, by decide, ct_at 213 (by decide +kernel) rfl, rfl, by decide +kernel, rfl⟩
theorem flX4_11 : ct_fl RX4 11 4 0 := ⟨RX4, TX4, 2, tyX4, clX4, by decide, ct_at 227 (by decide +kernel) rfl⟩
theorem fpX4_11 : ct_fp RX4 11 4 0 true (.array (.object "CutTrail$State")) := ⟨RX4, TX4, 2, tyX4, clX4, by decide, ct_at 227 (by decide +kernel) rfl, rfl, by decide +kernel, rfl⟩
theorem flX11_284 : ct_fl RX11 284 4 0 := ⟨RX4, TX4, 2, tyX4, clX4, by decide, ct_at 228 (by decide +kernel) rfl⟩
theorem fpX11_284 : ct_fp RX11 284 4 0 true (.array (.object "CutTrail$State")) := ⟨RX4, TX4, 2, tyX4, clX4, by decide, ct_at 228 (by decide +kernel) rfl, rfl, by decide +kernel, rfl⟩
theorem flX4_17 : ct_fl RX4 17 4 1 := ⟨RX4, TX4, 2, tyX4, clX4, by decide, ct_at 229 (by decide +kernel) rfl⟩
theorem fpX4_17 : ct_fp RX4 17 4 1 true (.array .boolean) := ⟨RX4, TX4, 2, tyX4, clX4, by decide, ct_at 229 (by decide +kernel) rfl, rfl, by decide +kernel, rfl⟩
theorem flX11_280 : ct_fl RX11 280 4 1 := ⟨RX4, TX4, 2, tyX4, clX4, by decide, ct_at 230 (by decide +kernel) rfl⟩
theorem fpX11_280 : ct_fp RX11 280 4 1 true (.array .boolean) := ⟨RX4, TX4, 2, tyX4, clX4, by decide, ct_at 230 (by decide +kernel) rfl, rfl, by decide +kernel, rfl⟩
theorem flX3_9 : ct_fl RX3 9 3 0 := ⟨RX3, TX3, 3, tyX3, clX3, by decide, ct_at 243 (by decide +kernel) rfl⟩
theorem fpX3_9 : ct_fp RX3 9 3 0 true (.array .int) := ⟨RX3, TX3, 3, tyX3, clX3, by decide, ct_at 243 (by decide +kernel) rfl, rfl, by decide +kernel, rfl⟩
theorem flX10_56 : ct_fl RX10 56 3 0 := ⟨RX3, TX3, 3, tyX3, clX3, by decide, ct_at 244 (by decide +kernel) rfl⟩
theorem fpX10_56 : ct_fp RX10 56 3 0 true (.array .int) := ⟨RX3, TX3, 3, tyX3, clX3, by decide, ct_at 244 (by decide +kernel) rfl, rfl, by decide +kernel, rfl⟩
theorem flX3_15 : ct_fl RX3 15 3 1 := ⟨RX3, TX3, 3, tyX3, clX3, by decide, ct_at 245 (by decide +kernel) rfl⟩
theorem fpX3_15 : ct_fp RX3 15 3 1 true (.array .boolean) := ⟨RX3, TX3, 3, tyX3, clX3, by decide, ct_at 245 (by decide +kernel) rfl, rfl, by decide +kernel, rfl⟩
theorem flX10_65 : ct_fl RX10 65 3 1 := ⟨RX3, TX3, 3, tyX3, clX3, by decide, ct_at 246 (by decide +kernel) rfl⟩
theorem fpX10_65 : ct_fp RX10 65 3 1 true (.array .boolean) := ⟨RX3, TX3, 3, tyX3, clX3, by decide, ct_at 246 (by decide +kernel) rfl, rfl, by decide +kernel, rfl⟩
theorem flX3_19 : ct_fl RX3 19 3 2 := ⟨RX3, TX3, 3, tyX3, clX3, by decide, ct_at 247 (by decide +kernel) rfl⟩
theorem fpX3_19 : ct_fp RX3 19 3 2 false (.int) := ⟨RX3, TX3, 3, tyX3, clX3, by decide, ct_at 247 (by decide +kernel) rfl, rfl, by decide +kernel, rfl⟩
theorem flX10_50 : ct_fl RX10 50 3 2 := ⟨RX3, TX3, 3, tyX3, clX3, by decide, ct_at 248 (by decide +kernel) rfl⟩
theorem fpX10_50 : ct_fp RX10 50 3 2 false (.int) := ⟨RX3, TX3, 3, tyX3, clX3, by decide, ct_at 248 (by decide +kernel) rfl, rfl, by decide +kernel, rfl⟩
theorem flX11_151 : ct_fl RX11 151 3 2 := ⟨RX3, TX3, 3, tyX3, clX3, by decide, ct_at 249 (by decide +kernel) rfl⟩
theorem fpX11_151 : ct_fp RX11 151 3 2 false (.int) := ⟨RX3, TX3, 3, tyX3, clX3, by decide, ct_at 249 (by decide +kernel) rfl, rfl, by decide +kernel, rfl⟩
theorem flX10_18 : ct_fl RX10 18 10 0 := ⟨RX10, TX10, 3, tyX10, clX10, by decide, ct_at 263 (by decide +kernel) rfl⟩
theorem fpX10_18 : ct_fp RX10 18 10 0 true (.object "CutTrail$Task") := ⟨RX10, TX10, 3, tyX10, clX10, by decide, ct_at 263 (by decide +kernel) rfl, rfl, by decide +kernel, rfl⟩
theorem flX10_9 : ct_fl RX10 9 10 1 := ⟨RX10, TX10, 3, tyX10, clX10, by decide, ct_at 264 (by decide +kernel) rfl⟩
theorem fpX10_9 : ct_fp RX10 9 10 1 true (.array .int) := ⟨RX10, TX10, 3, tyX10, clX10, by decide, ct_at 264 (by decide +kernel) rfl, rfl, by decide +kernel, rfl⟩
theorem flX10_15 : ct_fl RX10 15 10 2 := ⟨RX10, TX10, 3, tyX10, clX10, by decide, ct_at 265 (by decide +kernel) rfl⟩
theorem fpX10_15 : ct_fp RX10 15 10 2 true (.array .int) := ⟨RX10, TX10, 3, tyX10, clX10, by decide, ct_at 265 (by decide +kernel) rfl, rfl, by decide +kernel, rfl⟩
theorem flX1_19 : ct_fl RX1 19 1 0 := ⟨RX1, TX1, 3, tyX1, clX1, by decide, ct_at 279 (by decide +kernel) rfl⟩
theorem fpX1_19 : ct_fp RX1 19 1 0 true (.object "CutTrail$Task") := ⟨RX1, TX1, 3, tyX1, clX1, by decide, ct_at 279 (by decide +kernel) rfl, rfl, by decide +kernel, rfl⟩
theorem flX1_9 : ct_fl RX1 9 1 1 := ⟨RX1, TX1, 3, tyX1, clX1, by decide, ct_at 280 (by decide +kernel) rfl⟩
theorem fpX1_9 : ct_fp RX1 9 1 1 true (.array .int) := ⟨RX1, TX1, 3, tyX1, clX1, by decide, ct_at 280 (by decide +kernel) rfl, rfl, by decide +kernel, rfl⟩
theorem flX1_15 : ct_fl RX1 15 1 2 := ⟨RX1, TX1, 3, tyX1, clX1, by decide, ct_at 281 (by decide +kernel) rfl⟩
theorem fpX1_15 : ct_fp RX1 15 1 2 false (.boolean) := ⟨RX1, TX1, 3, tyX1, clX1, by decide, ct_at 281 (by decide +kernel) rfl, rfl, by decide +kernel, rfl⟩
theorem flX11_96 : ct_fl RX11 96 1 2 := ⟨RX1, TX1, 3, tyX1, clX1, by decide, ct_at 282 (by decide +kernel) rfl⟩
theorem fpX11_96 : ct_fp RX11 96 1 2 false (.boolean) := ⟨RX1, TX1, 3, tyX1, clX1, by decide, ct_at 282 (by decide +kernel) rfl, rfl, by decide +kernel, rfl⟩
theorem flX11_12 : ct_fl RX11 12 11 0 := ⟨RX11, TX11, 11, tyX11, clX11, by decide, ct_at 290 (by decide +kernel) rfl⟩
theorem fpX11_12 : ct_fp RX11 12 11 0 true (.object "CutTrail$Task") := ⟨RX11, TX11, 11, tyX11, clX11, by decide, ct_at 290 (by decide +kernel) rfl, rfl, by decide +kernel, rfl⟩
theorem flX11_19 : ct_fl RX11 19 11 1 := ⟨RX11, TX11, 11, tyX11, clX11, by decide, ct_at 291 (by decide +kernel) rfl⟩
theorem fpX11_19 : ct_fp RX11 19 11 1 true (.object "CutTrail$Text") := ⟨RX11, TX11, 11, tyX11, clX11, by decide, ct_at 291 (by decide +kernel) rfl, rfl, by decide +kernel, rfl⟩
theorem flX11_28 : ct_fl RX11 28 11 2 := ⟨RX11, TX11, 11, tyX11, clX11, by decide, ct_at 292 (by decide +kernel) rfl⟩
theorem fpX11_28 : ct_fp RX11 28 11 2 true (.object "CutTrail$State") := ⟨RX11, TX11, 11, tyX11, clX11, by decide, ct_at 292 (by decide +kernel) rfl, rfl, by decide +kernel, rfl⟩
theorem flX11_32 : ct_fl RX11 32 11 3 := ⟨RX11, TX11, 11, tyX11, clX11, by decide, ct_at 293 (by decide +kernel) rfl⟩
theorem fpX11_32 : ct_fp RX11 32 11 3 true (.object "CutTrail$State") := ⟨RX11, TX11, 11, tyX11, clX11, by decide, ct_at 293 (by decide +kernel) rfl, rfl, by decide +kernel, rfl⟩
theorem flX11_38 : ct_fl RX11 38 11 4 := ⟨RX11, TX11, 11, tyX11, clX11, by decide, ct_at 294 (by decide +kernel) rfl⟩
theorem fpX11_38 : ct_fp RX11 38 11 4 true (.object "CutTrail$Tracer") := ⟨RX11, TX11, 11, tyX11, clX11, by decide, ct_at 294 (by decide +kernel) rfl, rfl, by decide +kernel, rfl⟩
theorem flX11_45 : ct_fl RX11 45 11 5 := ⟨RX11, TX11, 11, tyX11, clX11, by decide, ct_at 295 (by decide +kernel) rfl⟩
theorem fpX11_45 : ct_fp RX11 45 11 5 true (.object "CutTrail$Acts") := ⟨RX11, TX11, 11, tyX11, clX11, by decide, ct_at 295 (by decide +kernel) rfl, rfl, by decide +kernel, rfl⟩
theorem flX11_52 : ct_fl RX11 52 11 6 := ⟨RX11, TX11, 11, tyX11, clX11, by decide, ct_at 296 (by decide +kernel) rfl⟩
theorem fpX11_52 : ct_fp RX11 52 11 6 true (.object "CutTrail$Slots") := ⟨RX11, TX11, 11, tyX11, clX11, by decide, ct_at 296 (by decide +kernel) rfl, rfl, by decide +kernel, rfl⟩
theorem flX11_59 : ct_fl RX11 59 11 7 := ⟨RX11, TX11, 11, tyX11, clX11, by decide, ct_at 297 (by decide +kernel) rfl⟩
theorem fpX11_59 : ct_fp RX11 59 11 7 true (.object "CutTrail$Seen") := ⟨RX11, TX11, 11, tyX11, clX11, by decide, ct_at 297 (by decide +kernel) rfl, rfl, by decide +kernel, rfl⟩
theorem flX11_66 : ct_fl RX11 66 11 8 := ⟨RX11, TX11, 11, tyX11, clX11, by decide, ct_at 298 (by decide +kernel) rfl⟩
theorem fpX11_66 : ct_fp RX11 66 11 8 true (.object "CutTrail$Ways") := ⟨RX11, TX11, 11, tyX11, clX11, by decide, ct_at 298 (by decide +kernel) rfl, rfl, by decide +kernel, rfl⟩
theorem flX11_73 : ct_fl RX11 73 11 9 := ⟨RX11, TX11, 11, tyX11, clX11, by decide, ct_at 299 (by decide +kernel) rfl⟩
theorem fpX11_73 : ct_fp RX11 73 11 9 true (.object "CutTrail$Chances") := ⟨RX11, TX11, 11, tyX11, clX11, by decide, ct_at 299 (by decide +kernel) rfl, rfl, by decide +kernel, rfl⟩
theorem flX11_77 : ct_fl RX11 77 11 10 := ⟨RX11, TX11, 11, tyX11, clX11, by decide, ct_at 300 (by decide +kernel) rfl⟩
theorem fpX11_77 : ct_fp RX11 77 11 10 false (.long) := ⟨RX11, TX11, 11, tyX11, clX11, by decide, ct_at 300 (by decide +kernel) rfl, rfl, by decide +kernel, rfl⟩
theorem flX12_7 : ct_fl RX12 7 12 0 := ⟨RX12, TX12, 31, tyX12, clX12, by decide, ct_at 806 (by decide +kernel) rfl⟩
theorem fpX12_7 : ct_fp RX12 7 12 0 true (.array .int) := ⟨RX12, TX12, 31, tyX12, clX12, by decide, ct_at 806 (by decide +kernel) rfl, rfl, by decide +kernel, rfl⟩
theorem flX12_75 : ct_fl RX12 75 12 1 := ⟨RX12, TX12, 31, tyX12, clX12, by decide, ct_at 807 (by decide +kernel) rfl⟩
theorem fpX12_75 : ct_fp RX12 75 12 1 false (.int) := ⟨RX12, TX12, 31, tyX12, clX12, by decide, ct_at 807 (by decide +kernel) rfl, rfl, by decide +kernel, rfl⟩
theorem flX12_65 : ct_fl RX12 65 12 2 := ⟨RX12, TX12, 31, tyX12, clX12, by decide, ct_at 808 (by decide +kernel) rfl⟩
theorem fpX12_65 : ct_fp RX12 65 12 2 false (.int) := ⟨RX12, TX12, 31, tyX12, clX12, by decide, ct_at 808 (by decide +kernel) rfl, rfl, by decide +kernel, rfl⟩
theorem flX12_13 : ct_fl RX12 13 12 3 := ⟨RX12, TX12, 31, tyX12, clX12, by decide, ct_at 809 (by decide +kernel) rfl⟩
theorem fpX12_13 : ct_fp RX12 13 12 3 true (.array .int) := ⟨RX12, TX12, 31, tyX12, clX12, by decide, ct_at 809 (by decide +kernel) rfl, rfl, by decide +kernel, rfl⟩
theorem flX12_145 : ct_fl RX12 145 12 4 := ⟨RX12, TX12, 31, tyX12, clX12, by decide, ct_at 810 (by decide +kernel) rfl⟩
theorem fpX12_145 : ct_fp RX12 145 12 4 false (.int) := ⟨RX12, TX12, 31, tyX12, clX12, by decide, ct_at 810 (by decide +kernel) rfl, rfl, by decide +kernel, rfl⟩
theorem flX12_16 : ct_fl RX12 16 12 5 := ⟨RX12, TX12, 31, tyX12, clX12, by decide, ct_at 811 (by decide +kernel) rfl⟩
theorem fpX12_16 : ct_fp RX12 16 12 5 true (.array .int) := ⟨RX12, TX12, 31, tyX12, clX12, by decide, ct_at 811 (by decide +kernel) rfl, rfl, by decide +kernel, rfl⟩
theorem flX12_19 : ct_fl RX12 19 12 6 := ⟨RX12, TX12, 31, tyX12, clX12, by decide, ct_at 812 (by decide +kernel) rfl⟩
theorem fpX12_19 : ct_fp RX12 19 12 6 true (.array .int) := ⟨RX12, TX12, 31, tyX12, clX12, by decide, ct_at 812 (by decide +kernel) rfl, rfl, by decide +kernel, rfl⟩
theorem flX12_22 : ct_fl RX12 22 12 7 := ⟨RX12, TX12, 31, tyX12, clX12, by decide, ct_at 813 (by decide +kernel) rfl⟩
theorem fpX12_22 : ct_fp RX12 22 12 7 true (.array .int) := ⟨RX12, TX12, 31, tyX12, clX12, by decide, ct_at 813 (by decide +kernel) rfl, rfl, by decide +kernel, rfl⟩
theorem flX12_25 : ct_fl RX12 25 12 8 := ⟨RX12, TX12, 31, tyX12, clX12, by decide, ct_at 814 (by decide +kernel) rfl⟩
theorem fpX12_25 : ct_fp RX12 25 12 8 true (.array .int) := ⟨RX12, TX12, 31, tyX12, clX12, by decide, ct_at 814 (by decide +kernel) rfl, rfl, by decide +kernel, rfl⟩
theorem flX12_28 : ct_fl RX12 28 12 9 := ⟨RX12, TX12, 31, tyX12, clX12, by decide, ct_at 815 (by decide +kernel) rfl⟩
theorem fpX12_28 : ct_fp RX12 28 12 9 true (.array .int) := ⟨RX12, TX12, 31, tyX12, clX12, by decide, ct_at 815 (by decide +kernel) rfl, rfl, by decide +kernel, rfl⟩
theorem flX12_195 : ct_fl RX12 195 12 10 := ⟨RX12, TX12, 31, tyX12, clX12, by decide, ct_at 816 (by decide +kernel) rfl⟩
theorem fpX12_195 : ct_fp RX12 195 12 10 false (.int) := ⟨RX12, TX12, 31, tyX12, clX12, by decide, ct_at 816 (by decide +kernel) rfl, rfl, by decide +kernel, rfl⟩
theorem flX12_280 : ct_fl RX12 280 12 11 := ⟨RX12, TX12, 31, tyX12, clX12, by decide, ct_at 817 (by decide +kernel) rfl⟩
theorem fpX12_280 : ct_fp RX12 280 12 11 false (.int) := ⟨RX12, TX12, 31, tyX12, clX12, by decide, ct_at 817 (by decide +kernel) rfl, rfl, by decide +kernel, rfl⟩
theorem flX12_31 : ct_fl RX12 31 12 12 := ⟨RX12, TX12, 31, tyX12, clX12, by decide, ct_at 818 (by decide +kernel) rfl⟩
theorem fpX12_31 : ct_fp RX12 31 12 12 true (.array .int) := ⟨RX12, TX12, 31, tyX12, clX12, by decide, ct_at 818 (by decide +kernel) rfl, rfl, by decide +kernel, rfl⟩
theorem flX12_34 : ct_fl RX12 34 12 13 := ⟨RX12, TX12, 31, tyX12, clX12, by decide, ct_at 819 (by decide +kernel) rfl⟩
theorem fpX12_34 : ct_fp RX12 34 12 13 true (.array .boolean) := ⟨RX12, TX12, 31, tyX12, clX12, by decide, ct_at 819 (by decide +kernel) rfl, rfl, by decide +kernel, rfl⟩
theorem flX12_38 : ct_fl RX12 38 12 14 := ⟨RX12, TX12, 31, tyX12, clX12, by decide, ct_at 820 (by decide +kernel) rfl⟩
theorem fpX12_38 : ct_fp RX12 38 12 14 true (.array .int) := ⟨RX12, TX12, 31, tyX12, clX12, by decide, ct_at 820 (by decide +kernel) rfl, rfl, by decide +kernel, rfl⟩
theorem flX12_41 : ct_fl RX12 41 12 15 := ⟨RX12, TX12, 31, tyX12, clX12, by decide, ct_at 821 (by decide +kernel) rfl⟩
theorem fpX12_41 : ct_fp RX12 41 12 15 true (.array .int) := ⟨RX12, TX12, 31, tyX12, clX12, by decide, ct_at 821 (by decide +kernel) rfl, rfl, by decide +kernel, rfl⟩
theorem flX12_244 : ct_fl RX12 244 12 16 := ⟨RX12, TX12, 31, tyX12, clX12, by decide, ct_at 822 (by decide +kernel) rfl⟩
theorem fpX12_244 : ct_fp RX12 244 12 16 false (.int) := ⟨RX12, TX12, 31, tyX12, clX12, by decide, ct_at 822 (by decide +kernel) rfl, rfl, by decide +kernel, rfl⟩
theorem flX12_334 : ct_fl RX12 334 12 17 := ⟨RX12, TX12, 31, tyX12, clX12, by decide, ct_at 823 (by decide +kernel) rfl⟩
theorem fpX12_334 : ct_fp RX12 334 12 17 false (.long) := ⟨RX12, TX12, 31, tyX12, clX12, by decide, ct_at 823 (by decide +kernel) rfl, rfl, by decide +kernel, rfl⟩
theorem flX12_154 : ct_fl RX12 154 12 18 := ⟨RX12, TX12, 31, tyX12, clX12, by decide, ct_at 824 (by decide +kernel) rfl⟩
theorem fpX12_154 : ct_fp RX12 154 12 18 false (.int) := ⟨RX12, TX12, 31, tyX12, clX12, by decide, ct_at 824 (by decide +kernel) rfl, rfl, by decide +kernel, rfl⟩
theorem flX12_157 : ct_fl RX12 157 12 19 := ⟨RX12, TX12, 31, tyX12, clX12, by decide, ct_at 825 (by decide +kernel) rfl⟩
theorem fpX12_157 : ct_fp RX12 157 12 19 false (.int) := ⟨RX12, TX12, 31, tyX12, clX12, by decide, ct_at 825 (by decide +kernel) rfl, rfl, by decide +kernel, rfl⟩
theorem flX12_44 : ct_fl RX12 44 12 20 := ⟨RX12, TX12, 31, tyX12, clX12, by decide, ct_at 826 (by decide +kernel) rfl⟩
theorem fpX12_44 : ct_fp RX12 44 12 20 true (.array .int) := ⟨RX12, TX12, 31, tyX12, clX12, by decide, ct_at 826 (by decide +kernel) rfl, rfl, by decide +kernel, rfl⟩
theorem flX12_47 : ct_fl RX12 47 12 21 := ⟨RX12, TX12, 31, tyX12, clX12, by decide, ct_at 827 (by decide +kernel) rfl⟩
theorem fpX12_47 : ct_fp RX12 47 12 21 true (.array .int) := ⟨RX12, TX12, 31, tyX12, clX12, by decide, ct_at 827 (by decide +kernel) rfl, rfl, by decide +kernel, rfl⟩
theorem flX12_50 : ct_fl RX12 50 12 22 := ⟨RX12, TX12, 31, tyX12, clX12, by decide, ct_at 828 (by decide +kernel) rfl⟩
theorem fpX12_50 : ct_fp RX12 50 12 22 true (.array .int) := ⟨RX12, TX12, 31, tyX12, clX12, by decide, ct_at 828 (by decide +kernel) rfl, rfl, by decide +kernel, rfl⟩
theorem flX12_53 : ct_fl RX12 53 12 23 := ⟨RX12, TX12, 31, tyX12, clX12, by decide, ct_at 829 (by decide +kernel) rfl⟩
theorem fpX12_53 : ct_fp RX12 53 12 23 true (.array .int) := ⟨RX12, TX12, 31, tyX12, clX12, by decide, ct_at 829 (by decide +kernel) rfl, rfl, by decide +kernel, rfl⟩
theorem flX12_78 : ct_fl RX12 78 12 24 := ⟨RX12, TX12, 31, tyX12, clX12, by decide, ct_at 830 (by decide +kernel) rfl⟩
theorem fpX12_78 : ct_fp RX12 78 12 24 false (.int) := ⟨RX12, TX12, 31, tyX12, clX12, by decide, ct_at 830 (by decide +kernel) rfl, rfl, by decide +kernel, rfl⟩
theorem flX12_56 : ct_fl RX12 56 12 25 := ⟨RX12, TX12, 31, tyX12, clX12, by decide, ct_at 831 (by decide +kernel) rfl⟩
theorem fpX12_56 : ct_fp RX12 56 12 25 true (.array .int) := ⟨RX12, TX12, 31, tyX12, clX12, by decide, ct_at 831 (by decide +kernel) rfl, rfl, by decide +kernel, rfl⟩
theorem flX12_88 : ct_fl RX12 88 12 26 := ⟨RX12, TX12, 31, tyX12, clX12, by decide, ct_at 832 (by decide +kernel) rfl⟩
theorem fpX12_88 : ct_fp RX12 88 12 26 false (.int) := ⟨RX12, TX12, 31, tyX12, clX12, by decide, ct_at 832 (by decide +kernel) rfl, rfl, by decide +kernel, rfl⟩
theorem flX12_59 : ct_fl RX12 59 12 27 := ⟨RX12, TX12, 31, tyX12, clX12, by decide, ct_at 833 (by decide +kernel) rfl⟩
theorem fpX12_59 : ct_fp RX12 59 12 27 true (.array .int) := ⟨RX12, TX12, 31, tyX12, clX12, by decide, ct_at 833 (by decide +kernel) rfl, rfl, by decide +kernel, rfl⟩
theorem flX12_62 : ct_fl RX12 62 12 28 := ⟨RX12, TX12, 31, tyX12, clX12, by decide, ct_at 834 (by decide +kernel) rfl⟩
theorem fpX12_62 : ct_fp RX12 62 12 28 true (.array .int) := ⟨RX12, TX12, 31, tyX12, clX12, by decide, ct_at 834 (by decide +kernel) rfl, rfl, by decide +kernel, rfl⟩
theorem flX12_85 : ct_fl RX12 85 12 29 := ⟨RX12, TX12, 31, tyX12, clX12, by decide, ct_at 835 (by decide +kernel) rfl⟩
theorem fpX12_85 : ct_fp RX12 85 12 29 false (.int) := ⟨RX12, TX12, 31, tyX12, clX12, by decide, ct_at 835 (by decide +kernel) rfl, rfl, by decide +kernel, rfl⟩
theorem flX12_99 : ct_fl RX12 99 12 30 := ⟨RX12, TX12, 31, tyX12, clX12, by decide, ct_at 836 (by decide +kernel) rfl⟩
theorem fpX12_99 : ct_fp RX12 99 12 30 false (.int) := ⟨RX12, TX12, 31, tyX12, clX12, by decide, ct_at 836 (by decide +kernel) rfl, rfl, by decide +kernel, rfl⟩
abbrev MX11_init : ct_M := (yX11_init, cX11_init, 1, none)
theorem lkX11_init : ct_lk 2 MX11_init 0 := ⟨ct_at 1 (by decide +kernel) rfl, ct_at 21 (by decide +kernel) rfl, ⟨by decide, by decide⟩, by decide +kernel, by decide, fun h => absurd h (by decide), fun _ => ct_at 20 (by decide +kernel) rfl, fun h => absurd h (by decide)⟩
abbrev MX6_init : ct_M := (yX6_init, cX6_init, 1, none)
theorem lkX6_init : ct_lk 2 MX6_init 0 := ⟨ct_at 2 (by decide +kernel) rfl, ct_at 29 (by decide +kernel) rfl, ⟨by decide, by decide⟩, by decide +kernel, by decide, fun h => absurd h (by decide), fun _ => ct_at 28 (by decide +kernel) rfl, fun h => absurd h (by decide)⟩
abbrev MX7_init : ct_M := (yX7_init, cX7_init, 1, none)
theorem lkX7_init : ct_lk 2 MX7_init 0 := ⟨ct_at 3 (by decide +kernel) rfl, ct_at 80 (by decide +kernel) rfl, ⟨by decide, by decide⟩, by decide +kernel, by decide, fun h => absurd h (by decide), fun _ => ct_at 79 (by decide +kernel) rfl, fun h => absurd h (by decide)⟩
abbrev MX5_init : ct_M := (yX5_init, cX5_init, 2, none)
theorem lkX5_init : ct_lk 2 MX5_init 1 := ⟨ct_at 4 (by decide +kernel) rfl, ct_at 94 (by decide +kernel) rfl, ⟨by decide, by decide⟩, by decide +kernel, by decide, fun h => absurd h (by decide), fun _ => ct_at 93 (by decide +kernel) rfl, fun h => absurd h (by decide)⟩
abbrev MX2_init : ct_M := (yX2_init, cX2_init, 1, none)
theorem lkX2_init : ct_lk 2 MX2_init 0 := ⟨ct_at 5 (by decide +kernel) rfl, ct_at 100 (by decide +kernel) rfl, ⟨by decide, by decide⟩, by decide +kernel, by decide, fun h => absurd h (by decide), fun _ => ct_at 99 (by decide +kernel) rfl, fun h => absurd h (by decide)⟩
abbrev MX9_init : ct_M := (yX9_init, cX9_init, 2, none)
theorem lkX9_init : ct_lk 2 MX9_init 1 := ⟨ct_at 6 (by decide +kernel) rfl, ct_at 123 (by decide +kernel) rfl, ⟨by decide, by decide⟩, by decide +kernel, by decide, fun h => absurd h (by decide), fun _ => ct_at 122 (by decide +kernel) rfl, fun h => absurd h (by decide)⟩
abbrev MX9_cutOff : ct_M := (yX9_cutOff, cX9_cutOff, 3, none)
theorem lkX9_cutOff : ct_lk 0 MX9_cutOff 1 := ⟨ct_at 6 (by decide +kernel) rfl, ct_at 128 (by decide +kernel) rfl, ⟨by decide, by decide⟩, by decide +kernel, by decide, fun h => absurd h (by decide), fun _ => ct_at 126 (by decide +kernel) rfl, fun _ => ct_at 127 (by decide +kernel) rfl⟩
abbrev MX9_draw : ct_M := (yX9_draw, cX9_draw, 3, none)
theorem lkX9_draw : ct_lk 0 MX9_draw 1 := ⟨ct_at 6 (by decide +kernel) rfl, ct_at 132 (by decide +kernel) rfl, ⟨by decide, by decide⟩, by decide +kernel, by decide, fun h => absurd h (by decide), fun _ => ct_at 131 (by decide +kernel) rfl, fun _ => ct_atS 0 (by decide +kernel) rfl⟩
abbrev MX8_init : ct_M := (yX8_init, cX8_init, 1, none)
theorem lkX8_init : ct_lk 2 MX8_init 0 := ⟨ct_at 7 (by decide +kernel) rfl, ct_at 193 (by decide +kernel) rfl, ⟨by decide, by decide⟩, by decide +kernel, by decide, fun h => absurd h (by decide), fun _ => ct_at 192 (by decide +kernel) rfl, fun h => absurd h (by decide)⟩
abbrev MX0_init : ct_M := (yX0_init, cX0_init, 3, none)
theorem lkX0_init : ct_lk 2 MX0_init 1 := ⟨ct_at 8 (by decide +kernel) rfl, ct_at 206 (by decide +kernel) rfl, ⟨by decide, by decide⟩, by decide +kernel, by decide, fun h => absurd h (by decide), fun _ => ct_at 205 (by decide +kernel) rfl, fun h => absurd h (by decide)⟩
abbrev MX4_init : ct_M := (yX4_init, cX4_init, 3, none)
theorem lkX4_init : ct_lk 2 MX4_init 1 := ⟨ct_at 9 (by decide +kernel) rfl, ct_at 223 (by decide +kernel) rfl, ⟨by decide, by decide⟩, by decide +kernel, by decide, fun h => absurd h (by decide), fun _ => ct_at 222 (by decide +kernel) rfl, fun h => absurd h (by decide)⟩
abbrev MX3_init : ct_M := (yX3_init, cX3_init, 1, none)
theorem lkX3_init : ct_lk 2 MX3_init 0 := ⟨ct_at 10 (by decide +kernel) rfl, ct_at 241 (by decide +kernel) rfl, ⟨by decide, by decide⟩, by decide +kernel, by decide, fun h => absurd h (by decide), fun _ => ct_at 240 (by decide +kernel) rfl, fun h => absurd h (by decide)⟩
abbrev MX10_init : ct_M := (yX10_init, cX10_init, 2, none)
theorem lkX10_init : ct_lk 2 MX10_init 1 := ⟨ct_at 11 (by decide +kernel) rfl, ct_at 261 (by decide +kernel) rfl, ⟨by decide, by decide⟩, by decide +kernel, by decide, fun h => absurd h (by decide), fun _ => ct_at 260 (by decide +kernel) rfl, fun h => absurd h (by decide)⟩
abbrev MX1_init : ct_M := (yX1_init, cX1_init, 2, none)
theorem lkX1_init : ct_lk 2 MX1_init 1 := ⟨ct_at 12 (by decide +kernel) rfl, ct_at 277 (by decide +kernel) rfl, ⟨by decide, by decide⟩, by decide +kernel, by decide, fun h => absurd h (by decide), fun _ => ct_at 276 (by decide +kernel) rfl, fun h => absurd h (by decide)⟩
abbrev MX11_write : ct_M := (yX11_write, cX11_write, 2, (some .int))
theorem lkX11_write : ct_lk 0 MX11_write 1 := ⟨ct_at 1 (by decide +kernel) rfl, ct_at 327 (by decide +kernel) rfl, ⟨by decide, by decide⟩, by decide +kernel, by decide, fun h => absurd h (by decide), fun _ => ct_at 325 (by decide +kernel) rfl, fun _ => ct_at 326 (by decide +kernel) rfl⟩
abbrev MX7_put : ct_M := (yX7_put, cX7_put, 2, none)
theorem lkX7_put : ct_lk 0 MX7_put 1 := ⟨ct_at 3 (by decide +kernel) rfl, ct_at 331 (by decide +kernel) rfl, ⟨by decide, by decide⟩, by decide +kernel, by decide, fun h => absurd h (by decide), fun _ => ct_at 329 (by decide +kernel) rfl, fun _ => ct_at 330 (by decide +kernel) rfl⟩
abbrev MX11_wipe : ct_M := (yX11_wipe, cX11_wipe, 2, (some .int))
theorem lkX11_wipe : ct_lk 0 MX11_wipe 0 := ⟨ct_at 1 (by decide +kernel) rfl, ct_at 335 (by decide +kernel) rfl, ⟨by decide, by decide⟩, by decide +kernel, by decide, fun h => absurd h (by decide), fun _ => ct_at 333 (by decide +kernel) rfl, fun _ => ct_at 334 (by decide +kernel) rfl⟩
abbrev MX11_fault : ct_M := (yX11_fault, cX11_fault, 1, (some .int))
theorem lkX11_fault : ct_lk 0 MX11_fault 0 := ⟨ct_at 1 (by decide +kernel) rfl, ct_at 339 (by decide +kernel) rfl, ⟨by decide, by decide⟩, by decide +kernel, by decide, fun h => absurd h (by decide), fun _ => ct_at 337 (by decide +kernel) rfl, fun _ => ct_at 338 (by decide +kernel) rfl⟩
abbrev MX7_firstFault : ct_M := (yX7_firstFault, cX7_firstFault, 2, (some .int))
theorem lkX7_firstFault : ct_lk 0 MX7_firstFault 0 := ⟨ct_at 3 (by decide +kernel) rfl, ct_at 343 (by decide +kernel) rfl, ⟨by decide, by decide⟩, by decide +kernel, by decide, fun h => absurd h (by decide), fun _ => ct_at 341 (by decide +kernel) rfl, fun _ => ct_at 342 (by decide +kernel) rfl⟩
abbrev MX7_canStand : ct_M := (yX7_canStand, cX7_canStand, 5, (some .boolean))
theorem lkX7_canStand : ct_lk 0 MX7_canStand 1 := ⟨ct_at 3 (by decide +kernel) rfl, ct_at 347 (by decide +kernel) rfl, ⟨by decide, by decide⟩, by decide +kernel, by decide, fun h => absurd h (by decide), fun _ => ct_at 346 (by decide +kernel) rfl, fun _ => ct_atS 1 (by decide +kernel) rfl⟩
abbrev MX7_numbersTold : ct_M := (yX7_numbersTold, cX7_numbersTold, 1, (some .int))
theorem lkX7_numbersTold : ct_lk 0 MX7_numbersTold 0 := ⟨ct_at 3 (by decide +kernel) rfl, ct_at 351 (by decide +kernel) rfl, ⟨by decide, by decide⟩, by decide +kernel, by decide, fun h => absurd h (by decide), fun _ => ct_at 350 (by decide +kernel) rfl, fun _ => ct_atS 2 (by decide +kernel) rfl⟩
abbrev MJ9_min_7cf53 : ct_M := (yJ9_min_7cf53, cJ9_min_7cf53, 2, (some .int))
theorem lkJ9_min_7cf53 : ct_lk 1 MJ9_min_7cf53 2 := ⟨ct_at 14 (by decide +kernel) rfl, ct_at 354 (by decide +kernel) rfl, ⟨by decide, by decide⟩, by decide +kernel, by decide, fun _ => ct_at 353 (by decide +kernel) rfl, fun h => absurd rfl h, fun h => absurd h (by decide)⟩
abbrev MJ9_max_7cf53 : ct_M := (yJ9_max_7cf53, cJ9_max_7cf53, 2, (some .int))
theorem lkJ9_max_7cf53 : ct_lk 1 MJ9_max_7cf53 2 := ⟨ct_at 14 (by decide +kernel) rfl, ct_at 357 (by decide +kernel) rfl, ⟨by decide, by decide⟩, by decide +kernel, by decide, fun _ => ct_at 356 (by decide +kernel) rfl, fun h => absurd rfl h, fun h => absurd h (by decide)⟩
abbrev MX7_isFigure : ct_M := (yX7_isFigure, cX7_isFigure, 1, (some .boolean))
theorem lkX7_isFigure : ct_lk 1 MX7_isFigure 1 := ⟨ct_at 3 (by decide +kernel) rfl, ct_at 360 (by decide +kernel) rfl, ⟨by decide, by decide⟩, by decide +kernel, by decide, fun _ => ct_at 359 (by decide +kernel) rfl, fun h => absurd rfl h, fun h => absurd h (by decide)⟩
abbrev MX7_canStandInRule : ct_M := (yX7_canStandInRule, cX7_canStandInRule, 5, (some .boolean))
theorem lkX7_canStandInRule : ct_lk 0 MX7_canStandInRule 3 := ⟨ct_at 3 (by decide +kernel) rfl, ct_at 364 (by decide +kernel) rfl, ⟨by decide, by decide⟩, by decide +kernel, by decide, fun h => absurd h (by decide), fun _ => ct_at 363 (by decide +kernel) rfl, fun _ => ct_atS 3 (by decide +kernel) rfl⟩
abbrev MX7_isWhole : ct_M := (yX7_isWhole, cX7_isWhole, 2, (some .boolean))
theorem lkX7_isWhole : ct_lk 0 MX7_isWhole 0 := ⟨ct_at 3 (by decide +kernel) rfl, ct_at 368 (by decide +kernel) rfl, ⟨by decide, by decide⟩, by decide +kernel, by decide, fun h => absurd h (by decide), fun _ => ct_at 367 (by decide +kernel) rfl, fun _ => ct_atS 4 (by decide +kernel) rfl⟩
abbrev MX11_task : ct_M := (yX11_task, cX11_task, 1, (some .int))
theorem lkX11_task : ct_lk 0 MX11_task 0 := ⟨ct_at 1 (by decide +kernel) rfl, ct_at 372 (by decide +kernel) rfl, ⟨by decide, by decide⟩, by decide +kernel, by decide, fun h => absurd h (by decide), fun _ => ct_at 370 (by decide +kernel) rfl, fun _ => ct_at 371 (by decide +kernel) rfl⟩
abbrev MX7_tellTo : ct_M := (yX7_tellTo, cX7_tellTo, 4, none)
theorem lkX7_tellTo : ct_lk 0 MX7_tellTo 1 := ⟨ct_at 3 (by decide +kernel) rfl, ct_at 376 (by decide +kernel) rfl, ⟨by decide, by decide⟩, by decide +kernel, by decide, fun h => absurd h (by decide), fun _ => ct_at 374 (by decide +kernel) rfl, fun _ => ct_at 375 (by decide +kernel) rfl⟩
abbrev MX7_tellRule : ct_M := (yX7_tellRule, cX7_tellRule, 6, none)
theorem lkX7_tellRule : ct_lk 0 MX7_tellRule 3 := ⟨ct_at 3 (by decide +kernel) rfl, ct_at 380 (by decide +kernel) rfl, ⟨by decide, by decide⟩, by decide +kernel, by decide, fun h => absurd h (by decide), fun _ => ct_at 379 (by decide +kernel) rfl, fun _ => ct_atS 5 (by decide +kernel) rfl⟩
abbrev MX7_weightOf : ct_M := (yX7_weightOf, cX7_weightOf, 1, (some .int))
theorem lkX7_weightOf : ct_lk 1 MX7_weightOf 1 := ⟨ct_at 3 (by decide +kernel) rfl, ct_at 383 (by decide +kernel) rfl, ⟨by decide, by decide⟩, by decide +kernel, by decide, fun _ => ct_at 382 (by decide +kernel) rfl, fun h => absurd rfl h, fun h => absurd h (by decide)⟩
abbrev MX4_empty : ct_M := (yX4_empty, cX4_empty, 2, none)
theorem lkX4_empty : ct_lk 0 MX4_empty 0 := ⟨ct_at 9 (by decide +kernel) rfl, ct_at 387 (by decide +kernel) rfl, ⟨by decide, by decide⟩, by decide +kernel, by decide, fun h => absurd h (by decide), fun _ => ct_at 385 (by decide +kernel) rfl, fun _ => ct_at 386 (by decide +kernel) rfl⟩
abbrev MX5_begin : ct_M := (yX5_begin, cX5_begin, 1, none)
theorem lkX5_begin : ct_lk 0 MX5_begin 0 := ⟨ct_at 4 (by decide +kernel) rfl, ct_at 391 (by decide +kernel) rfl, ⟨by decide, by decide⟩, by decide +kernel, by decide, fun h => absurd h (by decide), fun _ => ct_at 389 (by decide +kernel) rfl, fun _ => ct_at 390 (by decide +kernel) rfl⟩
abbrev MX5_drawIn : ct_M := (yX5_drawIn, cX5_drawIn, 2, none)
theorem lkX5_drawIn : ct_lk 0 MX5_drawIn 0 := ⟨ct_at 4 (by decide +kernel) rfl, ct_at 396 (by decide +kernel) rfl, ⟨by decide, by decide⟩, by decide +kernel, by decide, fun h => absurd h (by decide), fun _ => ct_at 394 (by decide +kernel) rfl, fun _ => ct_at 395 (by decide +kernel) rfl⟩
abbrev MX5_theBreak : ct_M := (yX5_theBreak, cX5_theBreak, 2, (some .int))
theorem lkX5_theBreak : ct_lk 0 MX5_theBreak 0 := ⟨ct_at 4 (by decide +kernel) rfl, ct_at 400 (by decide +kernel) rfl, ⟨by decide, by decide⟩, by decide +kernel, by decide, fun h => absurd h (by decide), fun _ => ct_at 398 (by decide +kernel) rfl, fun _ => ct_at 399 (by decide +kernel) rfl⟩
abbrev MX5_least : ct_M := (yX5_least, cX5_least, 5, (some .int))
theorem lkX5_least : ct_lk 0 MX5_least 1 := ⟨ct_at 4 (by decide +kernel) rfl, ct_at 404 (by decide +kernel) rfl, ⟨by decide, by decide⟩, by decide +kernel, by decide, fun h => absurd h (by decide), fun _ => ct_at 402 (by decide +kernel) rfl, fun _ => ct_at 403 (by decide +kernel) rfl⟩
abbrev MX5_cutBreaks : ct_M := (yX5_cutBreaks, cX5_cutBreaks, 3, (some .boolean))
theorem lkX5_cutBreaks : ct_lk 0 MX5_cutBreaks 1 := ⟨ct_at 4 (by decide +kernel) rfl, ct_at 408 (by decide +kernel) rfl, ⟨by decide, by decide⟩, by decide +kernel, by decide, fun h => absurd h (by decide), fun _ => ct_at 407 (by decide +kernel) rfl, fun _ => ct_atS 6 (by decide +kernel) rfl⟩
abbrev MX2_at : ct_M := (yX2_at, cX2_at, 3, (some .int))
theorem lkX2_at : ct_lk 0 MX2_at 2 := ⟨ct_at 5 (by decide +kernel) rfl, ct_at 412 (by decide +kernel) rfl, ⟨by decide, by decide⟩, by decide +kernel, by decide, fun h => absurd h (by decide), fun _ => ct_at 410 (by decide +kernel) rfl, fun _ => ct_at 411 (by decide +kernel) rfl⟩
abbrev MX9_isSo : ct_M := (yX9_isSo, cX9_isSo, 4, (some .boolean))
theorem lkX9_isSo : ct_lk 0 MX9_isSo 1 := ⟨ct_at 6 (by decide +kernel) rfl, ct_at 416 (by decide +kernel) rfl, ⟨by decide, by decide⟩, by decide +kernel, by decide, fun h => absurd h (by decide), fun _ => ct_at 414 (by decide +kernel) rfl, fun _ => ct_at 415 (by decide +kernel) rfl⟩
abbrev MX5_drawOne : ct_M := (yX5_drawOne, cX5_drawOne, 3, (some .boolean))
theorem lkX5_drawOne : ct_lk 0 MX5_drawOne 0 := ⟨ct_at 4 (by decide +kernel) rfl, ct_at 420 (by decide +kernel) rfl, ⟨by decide, by decide⟩, by decide +kernel, by decide, fun h => absurd h (by decide), fun _ => ct_at 419 (by decide +kernel) rfl, fun _ => ct_atS 7 (by decide +kernel) rfl⟩
abbrev MX5_toldByRule : ct_M := (yX5_toldByRule, cX5_toldByRule, 6, (some .int))
theorem lkX5_toldByRule : ct_lk 0 MX5_toldByRule 1 := ⟨ct_at 4 (by decide +kernel) rfl, ct_at 424 (by decide +kernel) rfl, ⟨by decide, by decide⟩, by decide +kernel, by decide, fun h => absurd h (by decide), fun _ => ct_at 423 (by decide +kernel) rfl, fun _ => ct_atS 8 (by decide +kernel) rfl⟩
abbrev MX11_markOf : ct_M := (yX11_markOf, cX11_markOf, 3, (some .int))
theorem lkX11_markOf : ct_lk 1 MX11_markOf 3 := ⟨ct_at 1 (by decide +kernel) rfl, ct_at 427 (by decide +kernel) rfl, ⟨by decide, by decide⟩, by decide +kernel, by decide, fun _ => ct_at 426 (by decide +kernel) rfl, fun h => absurd rfl h, fun h => absurd h (by decide)⟩
abbrev MX9_level : ct_M := (yX9_level, cX9_level, 1, (some .int))
theorem lkX9_level : ct_lk 0 MX9_level 0 := ⟨ct_at 6 (by decide +kernel) rfl, ct_at 431 (by decide +kernel) rfl, ⟨by decide, by decide⟩, by decide +kernel, by decide, fun h => absurd h (by decide), fun _ => ct_at 429 (by decide +kernel) rfl, fun _ => ct_at 430 (by decide +kernel) rfl⟩
abbrev MX9_put : ct_M := (yX9_put, cX9_put, 4, none)
theorem lkX9_put : ct_lk 0 MX9_put 3 := ⟨ct_at 6 (by decide +kernel) rfl, ct_at 435 (by decide +kernel) rfl, ⟨by decide, by decide⟩, by decide +kernel, by decide, fun h => absurd h (by decide), fun _ => ct_at 433 (by decide +kernel) rfl, fun _ => ct_at 434 (by decide +kernel) rfl⟩
abbrev MX5_toldByCut : ct_M := (yX5_toldByCut, cX5_toldByCut, 5, (some .int))
theorem lkX5_toldByCut : ct_lk 0 MX5_toldByCut 1 := ⟨ct_at 4 (by decide +kernel) rfl, ct_at 439 (by decide +kernel) rfl, ⟨by decide, by decide⟩, by decide +kernel, by decide, fun h => absurd h (by decide), fun _ => ct_at 438 (by decide +kernel) rfl, fun _ => ct_atS 9 (by decide +kernel) rfl⟩
abbrev MX9_isNotSo : ct_M := (yX9_isNotSo, cX9_isNotSo, 4, (some .boolean))
theorem lkX9_isNotSo : ct_lk 0 MX9_isNotSo 1 := ⟨ct_at 6 (by decide +kernel) rfl, ct_at 443 (by decide +kernel) rfl, ⟨by decide, by decide⟩, by decide +kernel, by decide, fun h => absurd h (by decide), fun _ => ct_at 441 (by decide +kernel) rfl, fun _ => ct_at 442 (by decide +kernel) rfl⟩
abbrev MX11_negated : ct_M := (yX11_negated, cX11_negated, 1, (some .int))
theorem lkX11_negated : ct_lk 1 MX11_negated 1 := ⟨ct_at 1 (by decide +kernel) rfl, ct_at 446 (by decide +kernel) rfl, ⟨by decide, by decide⟩, by decide +kernel, by decide, fun _ => ct_at 445 (by decide +kernel) rfl, fun h => absurd rfl h, fun h => absurd h (by decide)⟩
abbrev MX11_about : ct_M := (yX11_about, cX11_about, 2, (some .int))
theorem lkX11_about : ct_lk 0 MX11_about 1 := ⟨ct_at 1 (by decide +kernel) rfl, ct_at 450 (by decide +kernel) rfl, ⟨by decide, by decide⟩, by decide +kernel, by decide, fun h => absurd h (by decide), fun _ => ct_at 448 (by decide +kernel) rfl, fun _ => ct_at 449 (by decide +kernel) rfl⟩
abbrev MX5_isSolved : ct_M := (yX5_isSolved, cX5_isSolved, 1, (some .boolean))
theorem lkX5_isSolved : ct_lk 0 MX5_isSolved 0 := ⟨ct_at 4 (by decide +kernel) rfl, ct_at 456 (by decide +kernel) rfl, ⟨by decide, by decide⟩, by decide +kernel, by decide, fun h => absurd h (by decide), fun _ => ct_at 454 (by decide +kernel) rfl, fun _ => ct_at 455 (by decide +kernel) rfl⟩
abbrev MX9_firstOpen : ct_M := (yX9_firstOpen, cX9_firstOpen, 2, (some .int))
theorem lkX9_firstOpen : ct_lk 0 MX9_firstOpen 0 := ⟨ct_at 6 (by decide +kernel) rfl, ct_at 460 (by decide +kernel) rfl, ⟨by decide, by decide⟩, by decide +kernel, by decide, fun h => absurd h (by decide), fun _ => ct_at 458 (by decide +kernel) rfl, fun _ => ct_at 459 (by decide +kernel) rfl⟩
abbrev MX10_all : ct_M := (yX10_all, cX10_all, 1, (some .int))
theorem lkX10_all : ct_lk 0 MX10_all 0 := ⟨ct_at 11 (by decide +kernel) rfl, ct_at 464 (by decide +kernel) rfl, ⟨by decide, by decide⟩, by decide +kernel, by decide, fun h => absurd h (by decide), fun _ => ct_at 462 (by decide +kernel) rfl, fun _ => ct_at 463 (by decide +kernel) rfl⟩
abbrev MX10_openBox : ct_M := (yX10_openBox, cX10_openBox, 2, none)
theorem lkX10_openBox : ct_lk 0 MX10_openBox 0 := ⟨ct_at 11 (by decide +kernel) rfl, ct_at 468 (by decide +kernel) rfl, ⟨by decide, by decide⟩, by decide +kernel, by decide, fun h => absurd h (by decide), fun _ => ct_at 467 (by decide +kernel) rfl, fun _ => ct_atS 10 (by decide +kernel) rfl⟩
abbrev MX10_countInBox : ct_M := (yX10_countInBox, cX10_countInBox, 5, (some .int))
theorem lkX10_countInBox : ct_lk 0 MX10_countInBox 0 := ⟨ct_at 11 (by decide +kernel) rfl, ct_at 472 (by decide +kernel) rfl, ⟨by decide, by decide⟩, by decide +kernel, by decide, fun h => absurd h (by decide), fun _ => ct_at 471 (by decide +kernel) rfl, fun _ => ct_atS 11 (by decide +kernel) rfl⟩
abbrev MX10_countOfLast : ct_M := (yX10_countOfLast, cX10_countOfLast, 9, (some .int))
theorem lkX10_countOfLast : ct_lk 0 MX10_countOfLast 3 := ⟨ct_at 11 (by decide +kernel) rfl, ct_at 476 (by decide +kernel) rfl, ⟨by decide, by decide⟩, by decide +kernel, by decide, fun h => absurd h (by decide), fun _ => ct_at 475 (by decide +kernel) rfl, fun _ => ct_atS 12 (by decide +kernel) rfl⟩
abbrev MJ9_floorDiv_7cf53 : ct_M := (yJ9_floorDiv_7cf53, cJ9_floorDiv_7cf53, 3, (some .int))
theorem lkJ9_floorDiv_7cf53 : ct_lk 1 MJ9_floorDiv_7cf53 2 := ⟨ct_at 14 (by decide +kernel) rfl, ct_at 479 (by decide +kernel) rfl, ⟨by decide, by decide⟩, by decide +kernel, by decide, fun _ => ct_at 478 (by decide +kernel) rfl, fun h => absurd rfl h, fun h => absurd h (by decide)⟩
abbrev MX10_along : ct_M := (yX10_along, cX10_along, 3, (some .int))
theorem lkX10_along : ct_lk 0 MX10_along 1 := ⟨ct_at 11 (by decide +kernel) rfl, ct_at 485 (by decide +kernel) rfl, ⟨by decide, by decide⟩, by decide +kernel, by decide, fun h => absurd h (by decide), fun _ => ct_at 483 (by decide +kernel) rfl, fun _ => ct_at 484 (by decide +kernel) rfl⟩
abbrev MX11_number : ct_M := (yX11_number, cX11_number, 3, (some .int))
theorem lkX11_number : ct_lk 0 MX11_number 2 := ⟨ct_at 1 (by decide +kernel) rfl, ct_at 489 (by decide +kernel) rfl, ⟨by decide, by decide⟩, by decide +kernel, by decide, fun h => absurd h (by decide), fun _ => ct_at 487 (by decide +kernel) rfl, fun _ => ct_at 488 (by decide +kernel) rfl⟩
abbrev MX6_hasNumber : ct_M := (yX6_hasNumber, cX6_hasNumber, 2, (some .boolean))
theorem lkX6_hasNumber : ct_lk 0 MX6_hasNumber 1 := ⟨ct_at 2 (by decide +kernel) rfl, ct_at 493 (by decide +kernel) rfl, ⟨by decide, by decide⟩, by decide +kernel, by decide, fun h => absurd h (by decide), fun _ => ct_at 491 (by decide +kernel) rfl, fun _ => ct_at 492 (by decide +kernel) rfl⟩
abbrev MX10_leastOfAll : ct_M := (yX10_leastOfAll, cX10_leastOfAll, 3, (some .int))
theorem lkX10_leastOfAll : ct_lk 0 MX10_leastOfAll 1 := ⟨ct_at 11 (by decide +kernel) rfl, ct_at 497 (by decide +kernel) rfl, ⟨by decide, by decide⟩, by decide +kernel, by decide, fun h => absurd h (by decide), fun _ => ct_at 495 (by decide +kernel) rfl, fun _ => ct_at 496 (by decide +kernel) rfl⟩
abbrev MX11_rule : ct_M := (yX11_rule, cX11_rule, 3, (some .int))
theorem lkX11_rule : ct_lk 0 MX11_rule 2 := ⟨ct_at 1 (by decide +kernel) rfl, ct_at 501 (by decide +kernel) rfl, ⟨by decide, by decide⟩, by decide +kernel, by decide, fun h => absurd h (by decide), fun _ => ct_at 499 (by decide +kernel) rfl, fun _ => ct_at 500 (by decide +kernel) rfl⟩
abbrev MX6_hasRule : ct_M := (yX6_hasRule, cX6_hasRule, 2, (some .boolean))
theorem lkX6_hasRule : ct_lk 0 MX6_hasRule 1 := ⟨ct_at 2 (by decide +kernel) rfl, ct_at 505 (by decide +kernel) rfl, ⟨by decide, by decide⟩, by decide +kernel, by decide, fun h => absurd h (by decide), fun _ => ct_at 503 (by decide +kernel) rfl, fun _ => ct_at 504 (by decide +kernel) rfl⟩
abbrev MX11_mark : ct_M := (yX11_mark, cX11_mark, 3, (some .int))
theorem lkX11_mark : ct_lk 0 MX11_mark 2 := ⟨ct_at 1 (by decide +kernel) rfl, ct_at 510 (by decide +kernel) rfl, ⟨by decide, by decide⟩, by decide +kernel, by decide, fun h => absurd h (by decide), fun _ => ct_at 508 (by decide +kernel) rfl, fun _ => ct_at 509 (by decide +kernel) rfl⟩
abbrev MX8_countWhy : ct_M := (yX8_countWhy, cX8_countWhy, 5, (some .int))
theorem lkX8_countWhy : ct_lk 0 MX8_countWhy 2 := ⟨ct_at 7 (by decide +kernel) rfl, ct_at 514 (by decide +kernel) rfl, ⟨by decide, by decide⟩, by decide +kernel, by decide, fun h => absurd h (by decide), fun _ => ct_at 512 (by decide +kernel) rfl, fun _ => ct_at 513 (by decide +kernel) rfl⟩
abbrev MX8_lookUpWhy : ct_M := (yX8_lookUpWhy, cX8_lookUpWhy, 6, none)
theorem lkX8_lookUpWhy : ct_lk 0 MX8_lookUpWhy 4 := ⟨ct_at 7 (by decide +kernel) rfl, ct_at 518 (by decide +kernel) rfl, ⟨by decide, by decide⟩, by decide +kernel, by decide, fun h => absurd h (by decide), fun _ => ct_at 517 (by decide +kernel) rfl, fun _ => ct_atS 13 (by decide +kernel) rfl⟩
abbrev MX8_lookUpByRule : ct_M := (yX8_lookUpByRule, cX8_lookUpByRule, 9, none)
theorem lkX8_lookUpByRule : ct_lk 0 MX8_lookUpByRule 4 := ⟨ct_at 7 (by decide +kernel) rfl, ct_at 523 (by decide +kernel) rfl, ⟨by decide, by decide⟩, by decide +kernel, by decide, fun h => absurd h (by decide), fun _ => ct_at 522 (by decide +kernel) rfl, fun _ => ct_atS 14 (by decide +kernel) rfl⟩
abbrev MX9_lastAhead : ct_M := (yX9_lastAhead, cX9_lastAhead, 5, (some .int))
theorem lkX9_lastAhead : ct_lk 0 MX9_lastAhead 3 := ⟨ct_at 6 (by decide +kernel) rfl, ct_at 527 (by decide +kernel) rfl, ⟨by decide, by decide⟩, by decide +kernel, by decide, fun h => absurd h (by decide), fun _ => ct_at 525 (by decide +kernel) rfl, fun _ => ct_at 526 (by decide +kernel) rfl⟩
abbrev MX2_has : ct_M := (yX2_has, cX2_has, 2, (some .boolean))
theorem lkX2_has : ct_lk 0 MX2_has 1 := ⟨ct_at 5 (by decide +kernel) rfl, ct_at 532 (by decide +kernel) rfl, ⟨by decide, by decide⟩, by decide +kernel, by decide, fun h => absurd h (by decide), fun _ => ct_at 530 (by decide +kernel) rfl, fun _ => ct_at 531 (by decide +kernel) rfl⟩
abbrev MX8_lookUpByCut : ct_M := (yX8_lookUpByCut, cX8_lookUpByCut, 7, none)
theorem lkX8_lookUpByCut : ct_lk 0 MX8_lookUpByCut 4 := ⟨ct_at 7 (by decide +kernel) rfl, ct_at 536 (by decide +kernel) rfl, ⟨by decide, by decide⟩, by decide +kernel, by decide, fun h => absurd h (by decide), fun _ => ct_at 535 (by decide +kernel) rfl, fun _ => ct_atS 15 (by decide +kernel) rfl⟩
abbrev MX11_sideRow : ct_M := (yX11_sideRow, cX11_sideRow, 1, (some .int))
theorem lkX11_sideRow : ct_lk 1 MX11_sideRow 1 := ⟨ct_at 1 (by decide +kernel) rfl, ct_at 541 (by decide +kernel) rfl, ⟨by decide, by decide⟩, by decide +kernel, by decide, fun _ => ct_at 540 (by decide +kernel) rfl, fun h => absurd rfl h, fun h => absurd h (by decide)⟩
abbrev MX11_cut : ct_M := (yX11_cut, cX11_cut, 3, (some .int))
theorem lkX11_cut : ct_lk 0 MX11_cut 2 := ⟨ct_at 1 (by decide +kernel) rfl, ct_at 545 (by decide +kernel) rfl, ⟨by decide, by decide⟩, by decide +kernel, by decide, fun h => absurd h (by decide), fun _ => ct_at 543 (by decide +kernel) rfl, fun _ => ct_at 544 (by decide +kernel) rfl⟩
abbrev MX11_follows : ct_M := (yX11_follows, cX11_follows, 2, (some .int))
theorem lkX11_follows : ct_lk 0 MX11_follows 1 := ⟨ct_at 1 (by decide +kernel) rfl, ct_at 551 (by decide +kernel) rfl, ⟨by decide, by decide⟩, by decide +kernel, by decide, fun h => absurd h (by decide), fun _ => ct_at 549 (by decide +kernel) rfl, fun _ => ct_at 550 (by decide +kernel) rfl⟩
abbrev MX10_within : ct_M := (yX10_within, cX10_within, 4, (some .int))
theorem lkX10_within : ct_lk 0 MX10_within 2 := ⟨ct_at 11 (by decide +kernel) rfl, ct_at 555 (by decide +kernel) rfl, ⟨by decide, by decide⟩, by decide +kernel, by decide, fun h => absurd h (by decide), fun _ => ct_at 553 (by decide +kernel) rfl, fun _ => ct_at 554 (by decide +kernel) rfl⟩
abbrev MX10_hold : ct_M := (yX10_hold, cX10_hold, 6, none)
theorem lkX10_hold : ct_lk 0 MX10_hold 2 := ⟨ct_at 11 (by decide +kernel) rfl, ct_at 560 (by decide +kernel) rfl, ⟨by decide, by decide⟩, by decide +kernel, by decide, fun h => absurd h (by decide), fun _ => ct_at 559 (by decide +kernel) rfl, fun _ => ct_atS 16 (by decide +kernel) rfl⟩
abbrev MX11_make : ct_M := (yX11_make, cX11_make, 5, (some .int))
theorem lkX11_make : ct_lk 0 MX11_make 3 := ⟨ct_at 1 (by decide +kernel) rfl, ct_at 564 (by decide +kernel) rfl, ⟨by decide, by decide⟩, by decide +kernel, by decide, fun h => absurd h (by decide), fun _ => ct_at 562 (by decide +kernel) rfl, fun _ => ct_at 563 (by decide +kernel) rfl⟩
abbrev MX11_isSide : ct_M := (yX11_isSide, cX11_isSide, 1, (some .boolean))
theorem lkX11_isSide : ct_lk 1 MX11_isSide 1 := ⟨ct_at 1 (by decide +kernel) rfl, ct_at 567 (by decide +kernel) rfl, ⟨by decide, by decide⟩, by decide +kernel, by decide, fun _ => ct_at 566 (by decide +kernel) rfl, fun h => absurd rfl h, fun h => absurd h (by decide)⟩
abbrev MX11_isValue : ct_M := (yX11_isValue, cX11_isValue, 1, (some .boolean))
theorem lkX11_isValue : ct_lk 1 MX11_isValue 1 := ⟨ct_at 1 (by decide +kernel) rfl, ct_at 570 (by decide +kernel) rfl, ⟨by decide, by decide⟩, by decide +kernel, by decide, fun _ => ct_at 569 (by decide +kernel) rfl, fun h => absurd rfl h, fun h => absurd h (by decide)⟩
abbrev MX5_canMake : ct_M := (yX5_canMake, cX5_canMake, 2, (some .boolean))
theorem lkX5_canMake : ct_lk 0 MX5_canMake 1 := ⟨ct_at 4 (by decide +kernel) rfl, ct_at 575 (by decide +kernel) rfl, ⟨by decide, by decide⟩, by decide +kernel, by decide, fun h => absurd h (by decide), fun _ => ct_at 573 (by decide +kernel) rfl, fun _ => ct_at 574 (by decide +kernel) rfl⟩
abbrev MX0_remember : ct_M := (yX0_remember, cX0_remember, 2, none)
theorem lkX0_remember : ct_lk 0 MX0_remember 1 := ⟨ct_at 8 (by decide +kernel) rfl, ct_at 580 (by decide +kernel) rfl, ⟨by decide, by decide⟩, by decide +kernel, by decide, fun h => absurd h (by decide), fun _ => ct_at 578 (by decide +kernel) rfl, fun _ => ct_at 579 (by decide +kernel) rfl⟩
abbrev MX0_forgetFirst : ct_M := (yX0_forgetFirst, cX0_forgetFirst, 3, none)
theorem lkX0_forgetFirst : ct_lk 0 MX0_forgetFirst 0 := ⟨ct_at 8 (by decide +kernel) rfl, ct_at 584 (by decide +kernel) rfl, ⟨by decide, by decide⟩, by decide +kernel, by decide, fun h => absurd h (by decide), fun _ => ct_at 583 (by decide +kernel) rfl, fun _ => ct_atS 17 (by decide +kernel) rfl⟩
abbrev MX5_copy : ct_M := (yX5_copy, cX5_copy, 2, none)
theorem lkX5_copy : ct_lk 0 MX5_copy 1 := ⟨ct_at 4 (by decide +kernel) rfl, ct_at 588 (by decide +kernel) rfl, ⟨by decide, by decide⟩, by decide +kernel, by decide, fun h => absurd h (by decide), fun _ => ct_at 586 (by decide +kernel) rfl, fun _ => ct_at 587 (by decide +kernel) rfl⟩
abbrev MX9_copy : ct_M := (yX9_copy, cX9_copy, 2, none)
theorem lkX9_copy : ct_lk 0 MX9_copy 1 := ⟨ct_at 6 (by decide +kernel) rfl, ct_at 592 (by decide +kernel) rfl, ⟨by decide, by decide⟩, by decide +kernel, by decide, fun h => absurd h (by decide), fun _ => ct_at 590 (by decide +kernel) rfl, fun _ => ct_at 591 (by decide +kernel) rfl⟩
abbrev MX2_copy : ct_M := (yX2_copy, cX2_copy, 2, none)
theorem lkX2_copy : ct_lk 0 MX2_copy 1 := ⟨ct_at 5 (by decide +kernel) rfl, ct_at 599 (by decide +kernel) rfl, ⟨by decide, by decide⟩, by decide +kernel, by decide, fun h => absurd h (by decide), fun _ => ct_at 597 (by decide +kernel) rfl, fun _ => ct_at 598 (by decide +kernel) rfl⟩
abbrev MX5_made : ct_M := (yX5_made, cX5_made, 2, (some .boolean))
theorem lkX5_made : ct_lk 0 MX5_made 1 := ⟨ct_at 4 (by decide +kernel) rfl, ct_at 604 (by decide +kernel) rfl, ⟨by decide, by decide⟩, by decide +kernel, by decide, fun h => absurd h (by decide), fun _ => ct_at 602 (by decide +kernel) rfl, fun _ => ct_at 603 (by decide +kernel) rfl⟩
abbrev MX11_learn : ct_M := (yX11_learn, cX11_learn, 1, (some .int))
theorem lkX11_learn : ct_lk 0 MX11_learn 0 := ⟨ct_at 1 (by decide +kernel) rfl, ct_at 609 (by decide +kernel) rfl, ⟨by decide, by decide⟩, by decide +kernel, by decide, fun h => absurd h (by decide), fun _ => ct_at 607 (by decide +kernel) rfl, fun _ => ct_at 608 (by decide +kernel) rfl⟩
abbrev MX5_canLearn : ct_M := (yX5_canLearn, cX5_canLearn, 1, (some .boolean))
theorem lkX5_canLearn : ct_lk 0 MX5_canLearn 0 := ⟨ct_at 4 (by decide +kernel) rfl, ct_at 613 (by decide +kernel) rfl, ⟨by decide, by decide⟩, by decide +kernel, by decide, fun h => absurd h (by decide), fun _ => ct_at 611 (by decide +kernel) rfl, fun _ => ct_at 612 (by decide +kernel) rfl⟩
abbrev MX8_learnt : ct_M := (yX8_learnt, cX8_learnt, 6, (some .int))
theorem lkX8_learnt : ct_lk 0 MX8_learnt 1 := ⟨ct_at 7 (by decide +kernel) rfl, ct_at 617 (by decide +kernel) rfl, ⟨by decide, by decide⟩, by decide +kernel, by decide, fun h => absurd h (by decide), fun _ => ct_at 615 (by decide +kernel) rfl, fun _ => ct_at 616 (by decide +kernel) rfl⟩
abbrev MX8_takeWhyIn : ct_M := (yX8_takeWhyIn, cX8_takeWhyIn, 4, none)
theorem lkX8_takeWhyIn : ct_lk 0 MX8_takeWhyIn 1 := ⟨ct_at 7 (by decide +kernel) rfl, ct_at 622 (by decide +kernel) rfl, ⟨by decide, by decide⟩, by decide +kernel, by decide, fun h => absurd h (by decide), fun _ => ct_at 621 (by decide +kernel) rfl, fun _ => ct_atS 18 (by decide +kernel) rfl⟩
abbrev MX8_traceLast : ct_M := (yX8_traceLast, cX8_traceLast, 5, (some .boolean))
theorem lkX8_traceLast : ct_lk 0 MX8_traceLast 1 := ⟨ct_at 7 (by decide +kernel) rfl, ct_at 627 (by decide +kernel) rfl, ⟨by decide, by decide⟩, by decide +kernel, by decide, fun h => absurd h (by decide), fun _ => ct_at 626 (by decide +kernel) rfl, fun _ => ct_atS 19 (by decide +kernel) rfl⟩
abbrev MX8_greatestBelow : ct_M := (yX8_greatestBelow, cX8_greatestBelow, 4, (some .int))
theorem lkX8_greatestBelow : ct_lk 0 MX8_greatestBelow 1 := ⟨ct_at 7 (by decide +kernel) rfl, ct_at 631 (by decide +kernel) rfl, ⟨by decide, by decide⟩, by decide +kernel, by decide, fun h => absurd h (by decide), fun _ => ct_at 630 (by decide +kernel) rfl, fun _ => ct_atS 20 (by decide +kernel) rfl⟩
abbrev MX8_addCut : ct_M := (yX8_addCut, cX8_addCut, 5, (some .int))
theorem lkX8_addCut : ct_lk 0 MX8_addCut 1 := ⟨ct_at 7 (by decide +kernel) rfl, ct_at 635 (by decide +kernel) rfl, ⟨by decide, by decide⟩, by decide +kernel, by decide, fun h => absurd h (by decide), fun _ => ct_at 634 (by decide +kernel) rfl, fun _ => ct_atS 21 (by decide +kernel) rfl⟩
abbrev MX5_forgetFirstFree : ct_M := (yX5_forgetFirstFree, cX5_forgetFirstFree, 2, none)
theorem lkX5_forgetFirstFree : ct_lk 0 MX5_forgetFirstFree 0 := ⟨ct_at 4 (by decide +kernel) rfl, ct_at 639 (by decide +kernel) rfl, ⟨by decide, by decide⟩, by decide +kernel, by decide, fun h => absurd h (by decide), fun _ => ct_at 637 (by decide +kernel) rfl, fun _ => ct_at 638 (by decide +kernel) rfl⟩
abbrev MX9_hasReason : ct_M := (yX9_hasReason, cX9_hasReason, 3, (some .boolean))
theorem lkX9_hasReason : ct_lk 0 MX9_hasReason 1 := ⟨ct_at 6 (by decide +kernel) rfl, ct_at 643 (by decide +kernel) rfl, ⟨by decide, by decide⟩, by decide +kernel, by decide, fun h => absurd h (by decide), fun _ => ct_at 641 (by decide +kernel) rfl, fun _ => ct_at 642 (by decide +kernel) rfl⟩
abbrev MX2_forget : ct_M := (yX2_forget, cX2_forget, 4, none)
theorem lkX2_forget : ct_lk 0 MX2_forget 1 := ⟨ct_at 5 (by decide +kernel) rfl, ct_at 647 (by decide +kernel) rfl, ⟨by decide, by decide⟩, by decide +kernel, by decide, fun h => absurd h (by decide), fun _ => ct_at 645 (by decide +kernel) rfl, fun _ => ct_at 646 (by decide +kernel) rfl⟩
abbrev MX9_lowerReasonsAbove : ct_M := (yX9_lowerReasonsAbove, cX9_lowerReasonsAbove, 3, none)
theorem lkX9_lowerReasonsAbove : ct_lk 0 MX9_lowerReasonsAbove 1 := ⟨ct_at 6 (by decide +kernel) rfl, ct_at 651 (by decide +kernel) rfl, ⟨by decide, by decide⟩, by decide +kernel, by decide, fun h => absurd h (by decide), fun _ => ct_at 649 (by decide +kernel) rfl, fun _ => ct_at 650 (by decide +kernel) rfl⟩
abbrev MX2_addEmpty : ct_M := (yX2_addEmpty, cX2_addEmpty, 1, none)
theorem lkX2_addEmpty : ct_lk 0 MX2_addEmpty 0 := ⟨ct_at 5 (by decide +kernel) rfl, ct_at 655 (by decide +kernel) rfl, ⟨by decide, by decide⟩, by decide +kernel, by decide, fun h => absurd h (by decide), fun _ => ct_at 653 (by decide +kernel) rfl, fun _ => ct_at 654 (by decide +kernel) rfl⟩
abbrev MX2_putInLast : ct_M := (yX2_putInLast, cX2_putInLast, 3, none)
theorem lkX2_putInLast : ct_lk 0 MX2_putInLast 1 := ⟨ct_at 5 (by decide +kernel) rfl, ct_at 659 (by decide +kernel) rfl, ⟨by decide, by decide⟩, by decide +kernel, by decide, fun h => absurd h (by decide), fun _ => ct_at 657 (by decide +kernel) rfl, fun _ => ct_at 658 (by decide +kernel) rfl⟩
abbrev MX9_cutAbove : ct_M := (yX9_cutAbove, cX9_cutAbove, 3, none)
theorem lkX9_cutAbove : ct_lk 0 MX9_cutAbove 1 := ⟨ct_at 6 (by decide +kernel) rfl, ct_at 663 (by decide +kernel) rfl, ⟨by decide, by decide⟩, by decide +kernel, by decide, fun h => absurd h (by decide), fun _ => ct_at 661 (by decide +kernel) rfl, fun _ => ct_at 662 (by decide +kernel) rfl⟩
abbrev MX11_leave : ct_M := (yX11_leave, cX11_leave, 1, (some .int))
theorem lkX11_leave : ct_lk 0 MX11_leave 0 := ⟨ct_at 1 (by decide +kernel) rfl, ct_at 668 (by decide +kernel) rfl, ⟨by decide, by decide⟩, by decide +kernel, by decide, fun h => absurd h (by decide), fun _ => ct_at 666 (by decide +kernel) rfl, fun _ => ct_at 667 (by decide +kernel) rfl⟩
abbrev MX5_left : ct_M := (yX5_left, cX5_left, 1, none)
theorem lkX5_left : ct_lk 0 MX5_left 0 := ⟨ct_at 4 (by decide +kernel) rfl, ct_at 672 (by decide +kernel) rfl, ⟨by decide, by decide⟩, by decide +kernel, by decide, fun h => absurd h (by decide), fun _ => ct_at 670 (by decide +kernel) rfl, fun _ => ct_at 671 (by decide +kernel) rfl⟩
abbrev MX11_run : ct_M := (yX11_run, cX11_run, 3, (some .int))
theorem lkX11_run : ct_lk 0 MX11_run 1 := ⟨ct_at 1 (by decide +kernel) rfl, ct_at 677 (by decide +kernel) rfl, ⟨by decide, by decide⟩, by decide +kernel, by decide, fun h => absurd h (by decide), fun _ => ct_at 675 (by decide +kernel) rfl, fun _ => ct_at 676 (by decide +kernel) rfl⟩
abbrev MX11_oneStep : ct_M := (yX11_oneStep, cX11_oneStep, 2, (some .boolean))
theorem lkX11_oneStep : ct_lk 0 MX11_oneStep 0 := ⟨ct_at 1 (by decide +kernel) rfl, ct_at 681 (by decide +kernel) rfl, ⟨by decide, by decide⟩, by decide +kernel, by decide, fun h => absurd h (by decide), fun _ => ct_at 680 (by decide +kernel) rfl, fun _ => ct_atS 22 (by decide +kernel) rfl⟩
abbrev MX11_undo : ct_M := (yX11_undo, cX11_undo, 1, (some .int))
theorem lkX11_undo : ct_lk 0 MX11_undo 0 := ⟨ct_at 1 (by decide +kernel) rfl, ct_at 686 (by decide +kernel) rfl, ⟨by decide, by decide⟩, by decide +kernel, by decide, fun h => absurd h (by decide), fun _ => ct_at 684 (by decide +kernel) rfl, fun _ => ct_at 685 (by decide +kernel) rfl⟩
abbrev MX0_takeBack : ct_M := (yX0_takeBack, cX0_takeBack, 2, none)
theorem lkX0_takeBack : ct_lk 0 MX0_takeBack 1 := ⟨ct_at 8 (by decide +kernel) rfl, ct_at 690 (by decide +kernel) rfl, ⟨by decide, by decide⟩, by decide +kernel, by decide, fun h => absurd h (by decide), fun _ => ct_at 688 (by decide +kernel) rfl, fun _ => ct_at 689 (by decide +kernel) rfl⟩
abbrev MX11_judge : ct_M := (yX11_judge, cX11_judge, 9, (some .int))
theorem lkX11_judge : ct_lk 0 MX11_judge 2 := ⟨ct_at 1 (by decide +kernel) rfl, ct_at 694 (by decide +kernel) rfl, ⟨by decide, by decide⟩, by decide +kernel, by decide, fun h => absurd h (by decide), fun _ => ct_at 692 (by decide +kernel) rfl, fun _ => ct_at 693 (by decide +kernel) rfl⟩
abbrev MX11_canBe : ct_M := (yX11_canBe, cX11_canBe, 4, (some .boolean))
theorem lkX11_canBe : ct_lk 0 MX11_canBe 1 := ⟨ct_at 1 (by decide +kernel) rfl, ct_at 700 (by decide +kernel) rfl, ⟨by decide, by decide⟩, by decide +kernel, by decide, fun h => absurd h (by decide), fun _ => ct_at 699 (by decide +kernel) rfl, fun _ => ct_atS 23 (by decide +kernel) rfl⟩
abbrev MX11_see : ct_M := (yX11_see, cX11_see, 5, (some .int))
theorem lkX11_see : ct_lk 0 MX11_see 4 := ⟨ct_at 1 (by decide +kernel) rfl, ct_at 704 (by decide +kernel) rfl, ⟨by decide, by decide⟩, by decide +kernel, by decide, fun h => absurd h (by decide), fun _ => ct_at 702 (by decide +kernel) rfl, fun _ => ct_at 703 (by decide +kernel) rfl⟩
abbrev MX3_put : ct_M := (yX3_put, cX3_put, 3, none)
theorem lkX3_put : ct_lk 0 MX3_put 2 := ⟨ct_at 10 (by decide +kernel) rfl, ct_at 708 (by decide +kernel) rfl, ⟨by decide, by decide⟩, by decide +kernel, by decide, fun h => absurd h (by decide), fun _ => ct_at 706 (by decide +kernel) rfl, fun _ => ct_at 707 (by decide +kernel) rfl⟩
abbrev MX11_unsee : ct_M := (yX11_unsee, cX11_unsee, 2, (some .int))
theorem lkX11_unsee : ct_lk 0 MX11_unsee 0 := ⟨ct_at 1 (by decide +kernel) rfl, ct_at 712 (by decide +kernel) rfl, ⟨by decide, by decide⟩, by decide +kernel, by decide, fun h => absurd h (by decide), fun _ => ct_at 710 (by decide +kernel) rfl, fun _ => ct_at 711 (by decide +kernel) rfl⟩
abbrev MX11_which : ct_M := (yX11_which, cX11_which, 1, (some .int))
theorem lkX11_which : ct_lk 0 MX11_which 0 := ⟨ct_at 1 (by decide +kernel) rfl, ct_at 716 (by decide +kernel) rfl, ⟨by decide, by decide⟩, by decide +kernel, by decide, fun h => absurd h (by decide), fun _ => ct_at 714 (by decide +kernel) rfl, fun _ => ct_at 715 (by decide +kernel) rfl⟩
abbrev MX10_bySeen : ct_M := (yX10_bySeen, cX10_bySeen, 3, (some .int))
theorem lkX10_bySeen : ct_lk 0 MX10_bySeen 1 := ⟨ct_at 11 (by decide +kernel) rfl, ct_at 720 (by decide +kernel) rfl, ⟨by decide, by decide⟩, by decide +kernel, by decide, fun h => absurd h (by decide), fun _ => ct_at 718 (by decide +kernel) rfl, fun _ => ct_at 719 (by decide +kernel) rfl⟩
abbrev MX11_share : ct_M := (yX11_share, cX11_share, 3, (some .int))
theorem lkX11_share : ct_lk 0 MX11_share 2 := ⟨ct_at 1 (by decide +kernel) rfl, ct_at 725 (by decide +kernel) rfl, ⟨by decide, by decide⟩, by decide +kernel, by decide, fun h => absurd h (by decide), fun _ => ct_at 723 (by decide +kernel) rfl, fun _ => ct_at 724 (by decide +kernel) rfl⟩
abbrev MX1_shareOf : ct_M := (yX1_shareOf, cX1_shareOf, 9, (some .int))
theorem lkX1_shareOf : ct_lk 0 MX1_shareOf 2 := ⟨ct_at 12 (by decide +kernel) rfl, ct_at 729 (by decide +kernel) rfl, ⟨by decide, by decide⟩, by decide +kernel, by decide, fun h => absurd h (by decide), fun _ => ct_at 727 (by decide +kernel) rfl, fun _ => ct_at 728 (by decide +kernel) rfl⟩
abbrev MX1_countAll : ct_M := (yX1_countAll, cX1_countAll, 5, none)
theorem lkX1_countAll : ct_lk 0 MX1_countAll 0 := ⟨ct_at 12 (by decide +kernel) rfl, ct_at 733 (by decide +kernel) rfl, ⟨by decide, by decide⟩, by decide +kernel, by decide, fun h => absurd h (by decide), fun _ => ct_at 732 (by decide +kernel) rfl, fun _ => ct_atS 24 (by decide +kernel) rfl⟩
abbrev MX1_brokenBy : ct_M := (yX1_brokenBy, cX1_brokenBy, 8, (some .int))
theorem lkX1_brokenBy : ct_lk 0 MX1_brokenBy 4 := ⟨ct_at 12 (by decide +kernel) rfl, ct_at 737 (by decide +kernel) rfl, ⟨by decide, by decide⟩, by decide +kernel, by decide, fun h => absurd h (by decide), fun _ => ct_at 736 (by decide +kernel) rfl, fun _ => ct_atS 25 (by decide +kernel) rfl⟩
abbrev MX1_addSmallerSets : ct_M := (yX1_addSmallerSets, cX1_addSmallerSets, 3, none)
theorem lkX1_addSmallerSets : ct_lk 0 MX1_addSmallerSets 0 := ⟨ct_at 12 (by decide +kernel) rfl, ct_at 741 (by decide +kernel) rfl, ⟨by decide, by decide⟩, by decide +kernel, by decide, fun h => absurd h (by decide), fun _ => ct_at 740 (by decide +kernel) rfl, fun _ => ct_atS 26 (by decide +kernel) rfl⟩
abbrev MJ6_bitCount_0f7a4 : ct_M := (yJ6_bitCount_0f7a4, cJ6_bitCount_0f7a4, 1, (some .int))
theorem lkJ6_bitCount_0f7a4 : ct_lk 1 MJ6_bitCount_0f7a4 1 := ⟨ct_at 16 (by decide +kernel) rfl, ct_at 744 (by decide +kernel) rfl, ⟨by decide, by decide⟩, by decide +kernel, by decide, fun _ => ct_at 743 (by decide +kernel) rfl, fun h => absurd rfl h, fun h => absurd h (by decide)⟩
abbrev MX1_toldOf : ct_M := (yX1_toldOf, cX1_toldOf, 4, (some .int))
theorem lkX1_toldOf : ct_lk 1 MX1_toldOf 3 := ⟨ct_at 12 (by decide +kernel) rfl, ct_at 752 (by decide +kernel) rfl, ⟨by decide, by decide⟩, by decide +kernel, by decide, fun _ => ct_at 751 (by decide +kernel) rfl, fun h => absurd rfl h, fun h => absurd h (by decide)⟩
abbrev MX1_greatestDivisor : ct_M := (yX1_greatestDivisor, cX1_greatestDivisor, 6, (some .int))
theorem lkX1_greatestDivisor : ct_lk 1 MX1_greatestDivisor 2 := ⟨ct_at 12 (by decide +kernel) rfl, ct_at 755 (by decide +kernel) rfl, ⟨by decide, by decide⟩, by decide +kernel, by decide, fun _ => ct_at 754 (by decide +kernel) rfl, fun h => absurd rfl h, fun h => absurd h (by decide)⟩
abbrev MX11_chance : ct_M := (yX11_chance, cX11_chance, 4, (some .int))
theorem lkX11_chance : ct_lk 0 MX11_chance 3 := ⟨ct_at 1 (by decide +kernel) rfl, ct_at 760 (by decide +kernel) rfl, ⟨by decide, by decide⟩, by decide +kernel, by decide, fun h => absurd h (by decide), fun _ => ct_at 758 (by decide +kernel) rfl, fun _ => ct_at 759 (by decide +kernel) rfl⟩
abbrev MX1_chanceOf : ct_M := (yX1_chanceOf, cX1_chanceOf, 7, (some .int))
theorem lkX1_chanceOf : ct_lk 0 MX1_chanceOf 3 := ⟨ct_at 12 (by decide +kernel) rfl, ct_at 764 (by decide +kernel) rfl, ⟨by decide, by decide⟩, by decide +kernel, by decide, fun h => absurd h (by decide), fun _ => ct_at 762 (by decide +kernel) rfl, fun _ => ct_at 763 (by decide +kernel) rfl⟩
abbrev MX1_weightOf : ct_M := (yX1_weightOf, cX1_weightOf, 5, (some .int))
theorem lkX1_weightOf : ct_lk 0 MX1_weightOf 2 := ⟨ct_at 12 (by decide +kernel) rfl, ct_at 768 (by decide +kernel) rfl, ⟨by decide, by decide⟩, by decide +kernel, by decide, fun h => absurd h (by decide), fun _ => ct_at 767 (by decide +kernel) rfl, fun _ => ct_atS 27 (by decide +kernel) rfl⟩
abbrev MX11_seed : ct_M := (yX11_seed, cX11_seed, 5, (some .long))
theorem lkX11_seed : ct_lk 0 MX11_seed 1 := ⟨ct_at 1 (by decide +kernel) rfl, ct_at 772 (by decide +kernel) rfl, ⟨by decide, by decide⟩, by decide +kernel, by decide, fun h => absurd h (by decide), fun _ => ct_at 770 (by decide +kernel) rfl, fun _ => ct_at 771 (by decide +kernel) rfl⟩
abbrev MX11_drawn : ct_M := (yX11_drawn, cX11_drawn, 4, (some .int))
theorem lkX11_drawn : ct_lk 0 MX11_drawn 1 := ⟨ct_at 1 (by decide +kernel) rfl, ct_at 776 (by decide +kernel) rfl, ⟨by decide, by decide⟩, by decide +kernel, by decide, fun h => absurd h (by decide), fun _ => ct_at 774 (by decide +kernel) rfl, fun _ => ct_at 775 (by decide +kernel) rfl⟩
abbrev MX11_drawOnTrial : ct_M := (yX11_drawOnTrial, cX11_drawOnTrial, 2, none)
theorem lkX11_drawOnTrial : ct_lk 0 MX11_drawOnTrial 1 := ⟨ct_at 1 (by decide +kernel) rfl, ct_at 782 (by decide +kernel) rfl, ⟨by decide, by decide⟩, by decide +kernel, by decide, fun h => absurd h (by decide), fun _ => ct_at 781 (by decide +kernel) rfl, fun _ => ct_atS 28 (by decide +kernel) rfl⟩
abbrev MX11_keep : ct_M := (yX11_keep, cX11_keep, 2, (some .int))
theorem lkX11_keep : ct_lk 0 MX11_keep 1 := ⟨ct_at 1 (by decide +kernel) rfl, ct_at 786 (by decide +kernel) rfl, ⟨by decide, by decide⟩, by decide +kernel, by decide, fun h => absurd h (by decide), fun _ => ct_at 784 (by decide +kernel) rfl, fun _ => ct_at 785 (by decide +kernel) rfl⟩
abbrev MX4_has : ct_M := (yX4_has, cX4_has, 2, (some .boolean))
theorem lkX4_has : ct_lk 0 MX4_has 1 := ⟨ct_at 9 (by decide +kernel) rfl, ct_at 790 (by decide +kernel) rfl, ⟨by decide, by decide⟩, by decide +kernel, by decide, fun h => absurd h (by decide), fun _ => ct_at 788 (by decide +kernel) rfl, fun _ => ct_at 789 (by decide +kernel) rfl⟩
abbrev MX4_put : ct_M := (yX4_put, cX4_put, 3, none)
theorem lkX4_put : ct_lk 0 MX4_put 2 := ⟨ct_at 9 (by decide +kernel) rfl, ct_at 794 (by decide +kernel) rfl, ⟨by decide, by decide⟩, by decide +kernel, by decide, fun h => absurd h (by decide), fun _ => ct_at 792 (by decide +kernel) rfl, fun _ => ct_at 793 (by decide +kernel) rfl⟩
abbrev MX11_again : ct_M := (yX11_again, cX11_again, 2, (some .int))
theorem lkX11_again : ct_lk 0 MX11_again 1 := ⟨ct_at 1 (by decide +kernel) rfl, ct_at 799 (by decide +kernel) rfl, ⟨by decide, by decide⟩, by decide +kernel, by decide, fun h => absurd h (by decide), fun _ => ct_at 797 (by decide +kernel) rfl, fun _ => ct_at 798 (by decide +kernel) rfl⟩
abbrev MX12_init : ct_M := (yX12_init, cX12_init, 1, none)
theorem lkX12_init : ct_lk 2 MX12_init 0 := ⟨ct_at 13 (by decide +kernel) rfl, ct_at 804 (by decide +kernel) rfl, ⟨by decide, by decide⟩, by decide +kernel, by decide, fun h => absurd h (by decide), fun _ => ct_at 803 (by decide +kernel) rfl, fun h => absurd h (by decide)⟩
abbrev MX12_write : ct_M := (yX12_write, cX12_write, 2, (some .int))
theorem lkX12_write : ct_lk 0 MX12_write 1 := ⟨ct_at 13 (by decide +kernel) rfl, ct_at 903 (by decide +kernel) rfl, ⟨by decide, by decide⟩, by decide +kernel, by decide, fun h => absurd h (by decide), fun _ => ct_at 901 (by decide +kernel) rfl, fun _ => ct_at 902 (by decide +kernel) rfl⟩
abbrev MX12_in : ct_M := (yX12_in, cX12_in, 6, (some .boolean))
theorem lkX12_in : ct_lk 1 MX12_in 3 := ⟨ct_at 13 (by decide +kernel) rfl, ct_at 907 (by decide +kernel) rfl, ⟨by decide, by decide⟩, by decide +kernel, by decide, fun _ => ct_at 906 (by decide +kernel) rfl, fun h => absurd rfl h, fun h => absurd h (by decide)⟩
abbrev MX12_wipe : ct_M := (yX12_wipe, cX12_wipe, 2, (some .int))
theorem lkX12_wipe : ct_lk 0 MX12_wipe 0 := ⟨ct_at 13 (by decide +kernel) rfl, ct_at 911 (by decide +kernel) rfl, ⟨by decide, by decide⟩, by decide +kernel, by decide, fun h => absurd h (by decide), fun _ => ct_at 909 (by decide +kernel) rfl, fun _ => ct_at 910 (by decide +kernel) rfl⟩
abbrev MX12_fault : ct_M := (yX12_fault, cX12_fault, 1, (some .int))
theorem lkX12_fault : ct_lk 0 MX12_fault 0 := ⟨ct_at 13 (by decide +kernel) rfl, ct_at 915 (by decide +kernel) rfl, ⟨by decide, by decide⟩, by decide +kernel, by decide, fun h => absurd h (by decide), fun _ => ct_at 913 (by decide +kernel) rfl, fun _ => ct_at 914 (by decide +kernel) rfl⟩
abbrev MX12_readText : ct_M := (yX12_readText, cX12_readText, 3, (some .int))
theorem lkX12_readText : ct_lk 0 MX12_readText 0 := ⟨ct_at 13 (by decide +kernel) rfl, ct_at 919 (by decide +kernel) rfl, ⟨by decide, by decide⟩, by decide +kernel, by decide, fun h => absurd h (by decide), fun _ => ct_at 918 (by decide +kernel) rfl, fun _ => ct_atS 29 (by decide +kernel) rfl⟩
abbrev MX12_takeHead : ct_M := (yX12_takeHead, cX12_takeHead, 3, (some .boolean))
theorem lkX12_takeHead : ct_lk 0 MX12_takeHead 2 := ⟨ct_at 13 (by decide +kernel) rfl, ct_at 923 (by decide +kernel) rfl, ⟨by decide, by decide⟩, by decide +kernel, by decide, fun h => absurd h (by decide), fun _ => ct_at 922 (by decide +kernel) rfl, fun _ => ct_atS 30 (by decide +kernel) rfl⟩
abbrev MX12_takeOfRule : ct_M := (yX12_takeOfRule, cX12_takeOfRule, 4, (some .boolean))
theorem lkX12_takeOfRule : ct_lk 0 MX12_takeOfRule 1 := ⟨ct_at 13 (by decide +kernel) rfl, ct_at 929 (by decide +kernel) rfl, ⟨by decide, by decide⟩, by decide +kernel, by decide, fun h => absurd h (by decide), fun _ => ct_at 928 (by decide +kernel) rfl, fun _ => ct_atS 31 (by decide +kernel) rfl⟩
abbrev MX12_task : ct_M := (yX12_task, cX12_task, 3, (some .int))
theorem lkX12_task : ct_lk 0 MX12_task 0 := ⟨ct_at 13 (by decide +kernel) rfl, ct_at 938 (by decide +kernel) rfl, ⟨by decide, by decide⟩, by decide +kernel, by decide, fun h => absurd h (by decide), fun _ => ct_at 936 (by decide +kernel) rfl, fun _ => ct_at 937 (by decide +kernel) rfl⟩
abbrev MX12_drawIn : ct_M := (yX12_drawIn, cX12_drawIn, 2, none)
theorem lkX12_drawIn : ct_lk 0 MX12_drawIn 1 := ⟨ct_at 13 (by decide +kernel) rfl, ct_at 942 (by decide +kernel) rfl, ⟨by decide, by decide⟩, by decide +kernel, by decide, fun h => absurd h (by decide), fun _ => ct_at 941 (by decide +kernel) rfl, fun _ => ct_atS 32 (by decide +kernel) rfl⟩
abbrev MX12_breakOf : ct_M := (yX12_breakOf, cX12_breakOf, 3, (some .int))
theorem lkX12_breakOf : ct_lk 0 MX12_breakOf 1 := ⟨ct_at 13 (by decide +kernel) rfl, ct_at 946 (by decide +kernel) rfl, ⟨by decide, by decide⟩, by decide +kernel, by decide, fun h => absurd h (by decide), fun _ => ct_at 945 (by decide +kernel) rfl, fun _ => ct_atS 33 (by decide +kernel) rfl⟩
abbrev MX12_leastOf : ct_M := (yX12_leastOf, cX12_leastOf, 6, (some .int))
theorem lkX12_leastOf : ct_lk 0 MX12_leastOf 2 := ⟨ct_at 13 (by decide +kernel) rfl, ct_at 950 (by decide +kernel) rfl, ⟨by decide, by decide⟩, by decide +kernel, by decide, fun h => absurd h (by decide), fun _ => ct_at 949 (by decide +kernel) rfl, fun _ => ct_atS 34 (by decide +kernel) rfl⟩
abbrev MX12_weightOf : ct_M := (yX12_weightOf, cX12_weightOf, 3, (some .int))
theorem lkX12_weightOf : ct_lk 0 MX12_weightOf 2 := ⟨ct_at 13 (by decide +kernel) rfl, ct_at 954 (by decide +kernel) rfl, ⟨by decide, by decide⟩, by decide +kernel, by decide, fun h => absurd h (by decide), fun _ => ct_at 953 (by decide +kernel) rfl, fun _ => ct_atS 35 (by decide +kernel) rfl⟩
abbrev MX12_low : ct_M := (yX12_low, cX12_low, 3, (some .int))
theorem lkX12_low : ct_lk 0 MX12_low 2 := ⟨ct_at 13 (by decide +kernel) rfl, ct_at 958 (by decide +kernel) rfl, ⟨by decide, by decide⟩, by decide +kernel, by decide, fun h => absurd h (by decide), fun _ => ct_at 957 (by decide +kernel) rfl, fun _ => ct_atS 36 (by decide +kernel) rfl⟩
abbrev MX12_lowAt : ct_M := (yX12_lowAt, cX12_lowAt, 7, (some .int))
theorem lkX12_lowAt : ct_lk 0 MX12_lowAt 3 := ⟨ct_at 13 (by decide +kernel) rfl, ct_at 962 (by decide +kernel) rfl, ⟨by decide, by decide⟩, by decide +kernel, by decide, fun h => absurd h (by decide), fun _ => ct_at 961 (by decide +kernel) rfl, fun _ => ct_atS 37 (by decide +kernel) rfl⟩
abbrev MX12_high : ct_M := (yX12_high, cX12_high, 3, (some .int))
theorem lkX12_high : ct_lk 0 MX12_high 2 := ⟨ct_at 13 (by decide +kernel) rfl, ct_at 966 (by decide +kernel) rfl, ⟨by decide, by decide⟩, by decide +kernel, by decide, fun h => absurd h (by decide), fun _ => ct_at 965 (by decide +kernel) rfl, fun _ => ct_atS 38 (by decide +kernel) rfl⟩
abbrev MX12_highAt : ct_M := (yX12_highAt, cX12_highAt, 7, (some .int))
theorem lkX12_highAt : ct_lk 0 MX12_highAt 3 := ⟨ct_at 13 (by decide +kernel) rfl, ct_at 970 (by decide +kernel) rfl, ⟨by decide, by decide⟩, by decide +kernel, by decide, fun h => absurd h (by decide), fun _ => ct_at 969 (by decide +kernel) rfl, fun _ => ct_atS 39 (by decide +kernel) rfl⟩
abbrev MX12_areSo : ct_M := (yX12_areSo, cX12_areSo, 5, (some .int))
theorem lkX12_areSo : ct_lk 0 MX12_areSo 2 := ⟨ct_at 13 (by decide +kernel) rfl, ct_at 974 (by decide +kernel) rfl, ⟨by decide, by decide⟩, by decide +kernel, by decide, fun h => absurd h (by decide), fun _ => ct_at 973 (by decide +kernel) rfl, fun _ => ct_atS 40 (by decide +kernel) rfl⟩
abbrev MX12_cutMark : ct_M := (yX12_cutMark, cX12_cutMark, 4, (some .int))
theorem lkX12_cutMark : ct_lk 0 MX12_cutMark 3 := ⟨ct_at 13 (by decide +kernel) rfl, ct_at 978 (by decide +kernel) rfl, ⟨by decide, by decide⟩, by decide +kernel, by decide, fun h => absurd h (by decide), fun _ => ct_at 977 (by decide +kernel) rfl, fun _ => ct_atS 41 (by decide +kernel) rfl⟩
abbrev MX12_isSo : ct_M := (yX12_isSo, cX12_isSo, 4, (some .boolean))
theorem lkX12_isSo : ct_lk 0 MX12_isSo 2 := ⟨ct_at 13 (by decide +kernel) rfl, ct_at 982 (by decide +kernel) rfl, ⟨by decide, by decide⟩, by decide +kernel, by decide, fun h => absurd h (by decide), fun _ => ct_at 981 (by decide +kernel) rfl, fun _ => ct_atS 42 (by decide +kernel) rfl⟩
abbrev MX12_tells : ct_M := (yX12_tells, cX12_tells, 4, (some .boolean))
theorem lkX12_tells : ct_lk 0 MX12_tells 1 := ⟨ct_at 13 (by decide +kernel) rfl, ct_at 986 (by decide +kernel) rfl, ⟨by decide, by decide⟩, by decide +kernel, by decide, fun h => absurd h (by decide), fun _ => ct_at 985 (by decide +kernel) rfl, fun _ => ct_atS 43 (by decide +kernel) rfl⟩
abbrev MX12_ruleTells : ct_M := (yX12_ruleTells, cX12_ruleTells, 8, (some .boolean))
theorem lkX12_ruleTells : ct_lk 0 MX12_ruleTells 2 := ⟨ct_at 13 (by decide +kernel) rfl, ct_at 990 (by decide +kernel) rfl, ⟨by decide, by decide⟩, by decide +kernel, by decide, fun h => absurd h (by decide), fun _ => ct_at 989 (by decide +kernel) rfl, fun _ => ct_atS 44 (by decide +kernel) rfl⟩
abbrev MX12_codeOf : ct_M := (yX12_codeOf, cX12_codeOf, 3, (some .int))
theorem lkX12_codeOf : ct_lk 1 MX12_codeOf 3 := ⟨ct_at 13 (by decide +kernel) rfl, ct_at 993 (by decide +kernel) rfl, ⟨by decide, by decide⟩, by decide +kernel, by decide, fun _ => ct_at 992 (by decide +kernel) rfl, fun h => absurd rfl h, fun h => absurd h (by decide)⟩
abbrev MX12_tell : ct_M := (yX12_tell, cX12_tell, 3, (some .boolean))
theorem lkX12_tell : ct_lk 0 MX12_tell 2 := ⟨ct_at 13 (by decide +kernel) rfl, ct_at 997 (by decide +kernel) rfl, ⟨by decide, by decide⟩, by decide +kernel, by decide, fun h => absurd h (by decide), fun _ => ct_at 996 (by decide +kernel) rfl, fun _ => ct_atS 45 (by decide +kernel) rfl⟩
abbrev MX12_cutTells : ct_M := (yX12_cutTells, cX12_cutTells, 5, (some .boolean))
theorem lkX12_cutTells : ct_lk 0 MX12_cutTells 2 := ⟨ct_at 13 (by decide +kernel) rfl, ct_at 1001 (by decide +kernel) rfl, ⟨by decide, by decide⟩, by decide +kernel, by decide, fun h => absurd h (by decide), fun _ => ct_at 1000 (by decide +kernel) rfl, fun _ => ct_atS 46 (by decide +kernel) rfl⟩
abbrev MX12_isNotSo : ct_M := (yX12_isNotSo, cX12_isNotSo, 4, (some .boolean))
theorem lkX12_isNotSo : ct_lk 0 MX12_isNotSo 2 := ⟨ct_at 13 (by decide +kernel) rfl, ct_at 1005 (by decide +kernel) rfl, ⟨by decide, by decide⟩, by decide +kernel, by decide, fun h => absurd h (by decide), fun _ => ct_at 1004 (by decide +kernel) rfl, fun _ => ct_atS 47 (by decide +kernel) rfl⟩
abbrev MX12_negated : ct_M := (yX12_negated, cX12_negated, 2, (some .int))
theorem lkX12_negated : ct_lk 1 MX12_negated 1 := ⟨ct_at 13 (by decide +kernel) rfl, ct_at 1008 (by decide +kernel) rfl, ⟨by decide, by decide⟩, by decide +kernel, by decide, fun _ => ct_at 1007 (by decide +kernel) rfl, fun h => absurd rfl h, fun h => absurd h (by decide)⟩
abbrev MX12_levelOf : ct_M := (yX12_levelOf, cX12_levelOf, 2, (some .int))
theorem lkX12_levelOf : ct_lk 0 MX12_levelOf 1 := ⟨ct_at 13 (by decide +kernel) rfl, ct_at 1012 (by decide +kernel) rfl, ⟨by decide, by decide⟩, by decide +kernel, by decide, fun h => absurd h (by decide), fun _ => ct_at 1011 (by decide +kernel) rfl, fun _ => ct_atS 48 (by decide +kernel) rfl⟩
abbrev MX12_append : ct_M := (yX12_append, cX12_append, 6, none)
theorem lkX12_append : ct_lk 0 MX12_append 4 := ⟨ct_at 13 (by decide +kernel) rfl, ct_at 1016 (by decide +kernel) rfl, ⟨by decide, by decide⟩, by decide +kernel, by decide, fun h => absurd h (by decide), fun _ => ct_at 1015 (by decide +kernel) rfl, fun _ => ct_atS 49 (by decide +kernel) rfl⟩
abbrev MX12_about : ct_M := (yX12_about, cX12_about, 2, (some .int))
theorem lkX12_about : ct_lk 0 MX12_about 1 := ⟨ct_at 13 (by decide +kernel) rfl, ct_at 1020 (by decide +kernel) rfl, ⟨by decide, by decide⟩, by decide +kernel, by decide, fun h => absurd h (by decide), fun _ => ct_at 1018 (by decide +kernel) rfl, fun _ => ct_at 1019 (by decide +kernel) rfl⟩
abbrev MX12_isSolved : ct_M := (yX12_isSolved, cX12_isSolved, 2, (some .boolean))
theorem lkX12_isSolved : ct_lk 0 MX12_isSolved 1 := ⟨ct_at 13 (by decide +kernel) rfl, ct_at 1024 (by decide +kernel) rfl, ⟨by decide, by decide⟩, by decide +kernel, by decide, fun h => absurd h (by decide), fun _ => ct_at 1023 (by decide +kernel) rfl, fun _ => ct_atS 50 (by decide +kernel) rfl⟩
abbrev MX12_openOf : ct_M := (yX12_openOf, cX12_openOf, 4, (some .int))
theorem lkX12_openOf : ct_lk 0 MX12_openOf 1 := ⟨ct_at 13 (by decide +kernel) rfl, ct_at 1028 (by decide +kernel) rfl, ⟨by decide, by decide⟩, by decide +kernel, by decide, fun h => absurd h (by decide), fun _ => ct_at 1027 (by decide +kernel) rfl, fun _ => ct_atS 51 (by decide +kernel) rfl⟩
abbrev MX12_count : ct_M := (yX12_count, cX12_count, 5, (some .int))
theorem lkX12_count : ct_lk 0 MX12_count 1 := ⟨ct_at 13 (by decide +kernel) rfl, ct_at 1032 (by decide +kernel) rfl, ⟨by decide, by decide⟩, by decide +kernel, by decide, fun h => absurd h (by decide), fun _ => ct_at 1031 (by decide +kernel) rfl, fun _ => ct_atS 52 (by decide +kernel) rfl⟩
abbrev MX12_layWay : ct_M := (yX12_layWay, cX12_layWay, 4, (some .boolean))
theorem lkX12_layWay : ct_lk 0 MX12_layWay 1 := ⟨ct_at 13 (by decide +kernel) rfl, ct_at 1036 (by decide +kernel) rfl, ⟨by decide, by decide⟩, by decide +kernel, by decide, fun h => absurd h (by decide), fun _ => ct_at 1035 (by decide +kernel) rfl, fun _ => ct_atS 53 (by decide +kernel) rfl⟩
abbrev MX12_broken : ct_M := (yX12_broken, cX12_broken, 5, (some .int))
theorem lkX12_broken : ct_lk 0 MX12_broken 0 := ⟨ct_at 13 (by decide +kernel) rfl, ct_at 1040 (by decide +kernel) rfl, ⟨by decide, by decide⟩, by decide +kernel, by decide, fun h => absurd h (by decide), fun _ => ct_at 1039 (by decide +kernel) rfl, fun _ => ct_atS 54 (by decide +kernel) rfl⟩
abbrev MX12_isOpen : ct_M := (yX12_isOpen, cX12_isOpen, 3, (some .boolean))
theorem lkX12_isOpen : ct_lk 0 MX12_isOpen 0 := ⟨ct_at 13 (by decide +kernel) rfl, ct_at 1044 (by decide +kernel) rfl, ⟨by decide, by decide⟩, by decide +kernel, by decide, fun h => absurd h (by decide), fun _ => ct_at 1043 (by decide +kernel) rfl, fun _ => ct_atS 55 (by decide +kernel) rfl⟩
abbrev MX12_isSeen : ct_M := (yX12_isSeen, cX12_isSeen, 3, (some .boolean))
theorem lkX12_isSeen : ct_lk 0 MX12_isSeen 0 := ⟨ct_at 13 (by decide +kernel) rfl, ct_at 1048 (by decide +kernel) rfl, ⟨by decide, by decide⟩, by decide +kernel, by decide, fun h => absurd h (by decide), fun _ => ct_at 1047 (by decide +kernel) rfl, fun _ => ct_atS 56 (by decide +kernel) rfl⟩
abbrev MX12_isNumber : ct_M := (yX12_isNumber, cX12_isNumber, 2, (some .boolean))
theorem lkX12_isNumber : ct_lk 0 MX12_isNumber 1 := ⟨ct_at 13 (by decide +kernel) rfl, ct_at 1052 (by decide +kernel) rfl, ⟨by decide, by decide⟩, by decide +kernel, by decide, fun h => absurd h (by decide), fun _ => ct_at 1051 (by decide +kernel) rfl, fun _ => ct_atS 57 (by decide +kernel) rfl⟩
abbrev MX12_fits : ct_M := (yX12_fits, cX12_fits, 3, (some .boolean))
theorem lkX12_fits : ct_lk 0 MX12_fits 1 := ⟨ct_at 13 (by decide +kernel) rfl, ct_at 1056 (by decide +kernel) rfl, ⟨by decide, by decide⟩, by decide +kernel, by decide, fun h => absurd h (by decide), fun _ => ct_at 1055 (by decide +kernel) rfl, fun _ => ct_atS 58 (by decide +kernel) rfl⟩
abbrev MX12_number : ct_M := (yX12_number, cX12_number, 3, (some .int))
theorem lkX12_number : ct_lk 0 MX12_number 2 := ⟨ct_at 13 (by decide +kernel) rfl, ct_at 1060 (by decide +kernel) rfl, ⟨by decide, by decide⟩, by decide +kernel, by decide, fun h => absurd h (by decide), fun _ => ct_at 1058 (by decide +kernel) rfl, fun _ => ct_at 1059 (by decide +kernel) rfl⟩
abbrev MX12_leastOfAll : ct_M := (yX12_leastOfAll, cX12_leastOfAll, 4, (some .int))
theorem lkX12_leastOfAll : ct_lk 0 MX12_leastOfAll 1 := ⟨ct_at 13 (by decide +kernel) rfl, ct_at 1064 (by decide +kernel) rfl, ⟨by decide, by decide⟩, by decide +kernel, by decide, fun h => absurd h (by decide), fun _ => ct_at 1063 (by decide +kernel) rfl, fun _ => ct_atS 59 (by decide +kernel) rfl⟩
abbrev MX12_rule : ct_M := (yX12_rule, cX12_rule, 3, (some .int))
theorem lkX12_rule : ct_lk 0 MX12_rule 2 := ⟨ct_at 13 (by decide +kernel) rfl, ct_at 1068 (by decide +kernel) rfl, ⟨by decide, by decide⟩, by decide +kernel, by decide, fun h => absurd h (by decide), fun _ => ct_at 1066 (by decide +kernel) rfl, fun _ => ct_at 1067 (by decide +kernel) rfl⟩
abbrev MX12_mark : ct_M := (yX12_mark, cX12_mark, 3, (some .int))
theorem lkX12_mark : ct_lk 0 MX12_mark 2 := ⟨ct_at 13 (by decide +kernel) rfl, ct_at 1072 (by decide +kernel) rfl, ⟨by decide, by decide⟩, by decide +kernel, by decide, fun h => absurd h (by decide), fun _ => ct_at 1070 (by decide +kernel) rfl, fun _ => ct_at 1071 (by decide +kernel) rfl⟩
abbrev MX12_whyOf : ct_M := (yX12_whyOf, cX12_whyOf, 4, (some .int))
theorem lkX12_whyOf : ct_lk 0 MX12_whyOf 3 := ⟨ct_at 13 (by decide +kernel) rfl, ct_at 1077 (by decide +kernel) rfl, ⟨by decide, by decide⟩, by decide +kernel, by decide, fun h => absurd h (by decide), fun _ => ct_at 1076 (by decide +kernel) rfl, fun _ => ct_atS 60 (by decide +kernel) rfl⟩
abbrev MX12_whyBy : ct_M := (yX12_whyBy, cX12_whyBy, 11, (some .int))
theorem lkX12_whyBy : ct_lk 0 MX12_whyBy 5 := ⟨ct_at 13 (by decide +kernel) rfl, ct_at 1081 (by decide +kernel) rfl, ⟨by decide, by decide⟩, by decide +kernel, by decide, fun h => absurd h (by decide), fun _ => ct_at 1080 (by decide +kernel) rfl, fun _ => ct_atS 61 (by decide +kernel) rfl⟩
abbrev MX12_lastOf : ct_M := (yX12_lastOf, cX12_lastOf, 7, (some .int))
theorem lkX12_lastOf : ct_lk 0 MX12_lastOf 4 := ⟨ct_at 13 (by decide +kernel) rfl, ct_at 1085 (by decide +kernel) rfl, ⟨by decide, by decide⟩, by decide +kernel, by decide, fun h => absurd h (by decide), fun _ => ct_at 1084 (by decide +kernel) rfl, fun _ => ct_atS 62 (by decide +kernel) rfl⟩
abbrev MX12_comes : ct_M := (yX12_comes, cX12_comes, 5, none)
theorem lkX12_comes : ct_lk 0 MX12_comes 2 := ⟨ct_at 13 (by decide +kernel) rfl, ct_at 1089 (by decide +kernel) rfl, ⟨by decide, by decide⟩, by decide +kernel, by decide, fun h => absurd h (by decide), fun _ => ct_at 1088 (by decide +kernel) rfl, fun _ => ct_atS 63 (by decide +kernel) rfl⟩
abbrev MX12_cut : ct_M := (yX12_cut, cX12_cut, 3, (some .int))
theorem lkX12_cut : ct_lk 0 MX12_cut 2 := ⟨ct_at 13 (by decide +kernel) rfl, ct_at 1093 (by decide +kernel) rfl, ⟨by decide, by decide⟩, by decide +kernel, by decide, fun h => absurd h (by decide), fun _ => ct_at 1091 (by decide +kernel) rfl, fun _ => ct_at 1092 (by decide +kernel) rfl⟩
abbrev MX12_isCut : ct_M := (yX12_isCut, cX12_isCut, 2, (some .boolean))
theorem lkX12_isCut : ct_lk 0 MX12_isCut 1 := ⟨ct_at 13 (by decide +kernel) rfl, ct_at 1097 (by decide +kernel) rfl, ⟨by decide, by decide⟩, by decide +kernel, by decide, fun h => absurd h (by decide), fun _ => ct_at 1096 (by decide +kernel) rfl, fun _ => ct_atS 64 (by decide +kernel) rfl⟩
abbrev MX12_follows : ct_M := (yX12_follows, cX12_follows, 5, (some .int))
theorem lkX12_follows : ct_lk 0 MX12_follows 1 := ⟨ct_at 13 (by decide +kernel) rfl, ct_at 1101 (by decide +kernel) rfl, ⟨by decide, by decide⟩, by decide +kernel, by decide, fun h => absurd h (by decide), fun _ => ct_at 1099 (by decide +kernel) rfl, fun _ => ct_at 1100 (by decide +kernel) rfl⟩
abbrev MX12_make : ct_M := (yX12_make, cX12_make, 4, (some .int))
theorem lkX12_make : ct_lk 0 MX12_make 3 := ⟨ct_at 13 (by decide +kernel) rfl, ct_at 1105 (by decide +kernel) rfl, ⟨by decide, by decide⟩, by decide +kernel, by decide, fun h => absurd h (by decide), fun _ => ct_at 1103 (by decide +kernel) rfl, fun _ => ct_at 1104 (by decide +kernel) rfl⟩
abbrev MX12_mayMake : ct_M := (yX12_mayMake, cX12_mayMake, 3, (some .boolean))
theorem lkX12_mayMake : ct_lk 0 MX12_mayMake 2 := ⟨ct_at 13 (by decide +kernel) rfl, ct_at 1109 (by decide +kernel) rfl, ⟨by decide, by decide⟩, by decide +kernel, by decide, fun h => absurd h (by decide), fun _ => ct_at 1108 (by decide +kernel) rfl, fun _ => ct_atS 65 (by decide +kernel) rfl⟩
abbrev MX12_note : ct_M := (yX12_note, cX12_note, 2, none)
theorem lkX12_note : ct_lk 0 MX12_note 0 := ⟨ct_at 13 (by decide +kernel) rfl, ct_at 1113 (by decide +kernel) rfl, ⟨by decide, by decide⟩, by decide +kernel, by decide, fun h => absurd h (by decide), fun _ => ct_at 1112 (by decide +kernel) rfl, fun _ => ct_atS 66 (by decide +kernel) rfl⟩
abbrev MX12_makeOn : ct_M := (yX12_makeOn, cX12_makeOn, 3, none)
theorem lkX12_makeOn : ct_lk 0 MX12_makeOn 2 := ⟨ct_at 13 (by decide +kernel) rfl, ct_at 1117 (by decide +kernel) rfl, ⟨by decide, by decide⟩, by decide +kernel, by decide, fun h => absurd h (by decide), fun _ => ct_at 1116 (by decide +kernel) rfl, fun _ => ct_atS 67 (by decide +kernel) rfl⟩
abbrev MX12_learn : ct_M := (yX12_learn, cX12_learn, 1, (some .int))
theorem lkX12_learn : ct_lk 0 MX12_learn 0 := ⟨ct_at 13 (by decide +kernel) rfl, ct_at 1121 (by decide +kernel) rfl, ⟨by decide, by decide⟩, by decide +kernel, by decide, fun h => absurd h (by decide), fun _ => ct_at 1119 (by decide +kernel) rfl, fun _ => ct_at 1120 (by decide +kernel) rfl⟩
abbrev MX12_mayLearn : ct_M := (yX12_mayLearn, cX12_mayLearn, 2, (some .boolean))
theorem lkX12_mayLearn : ct_lk 0 MX12_mayLearn 1 := ⟨ct_at 13 (by decide +kernel) rfl, ct_at 1125 (by decide +kernel) rfl, ⟨by decide, by decide⟩, by decide +kernel, by decide, fun h => absurd h (by decide), fun _ => ct_at 1124 (by decide +kernel) rfl, fun _ => ct_atS 68 (by decide +kernel) rfl⟩
abbrev MX12_learnOn : ct_M := (yX12_learnOn, cX12_learnOn, 6, (some .int))
theorem lkX12_learnOn : ct_lk 0 MX12_learnOn 1 := ⟨ct_at 13 (by decide +kernel) rfl, ct_at 1129 (by decide +kernel) rfl, ⟨by decide, by decide⟩, by decide +kernel, by decide, fun h => absurd h (by decide), fun _ => ct_at 1128 (by decide +kernel) rfl, fun _ => ct_atS 69 (by decide +kernel) rfl⟩
abbrev MX12_greatest : ct_M := (yX12_greatest, cX12_greatest, 5, (some .int))
theorem lkX12_greatest : ct_lk 0 MX12_greatest 2 := ⟨ct_at 13 (by decide +kernel) rfl, ct_at 1133 (by decide +kernel) rfl, ⟨by decide, by decide⟩, by decide +kernel, by decide, fun h => absurd h (by decide), fun _ => ct_at 1132 (by decide +kernel) rfl, fun _ => ct_atS 70 (by decide +kernel) rfl⟩
abbrev MX12_manyOf : ct_M := (yX12_manyOf, cX12_manyOf, 5, (some .int))
theorem lkX12_manyOf : ct_lk 0 MX12_manyOf 2 := ⟨ct_at 13 (by decide +kernel) rfl, ct_at 1137 (by decide +kernel) rfl, ⟨by decide, by decide⟩, by decide +kernel, by decide, fun h => absurd h (by decide), fun _ => ct_at 1136 (by decide +kernel) rfl, fun _ => ct_atS 71 (by decide +kernel) rfl⟩
abbrev MX12_lastInSet : ct_M := (yX12_lastInSet, cX12_lastInSet, 3, (some .int))
theorem lkX12_lastInSet : ct_lk 0 MX12_lastInSet 0 := ⟨ct_at 13 (by decide +kernel) rfl, ct_at 1141 (by decide +kernel) rfl, ⟨by decide, by decide⟩, by decide +kernel, by decide, fun h => absurd h (by decide), fun _ => ct_at 1140 (by decide +kernel) rfl, fun _ => ct_atS 72 (by decide +kernel) rfl⟩
abbrev MX12_addCut : ct_M := (yX12_addCut, cX12_addCut, 6, (some .int))
theorem lkX12_addCut : ct_lk 0 MX12_addCut 1 := ⟨ct_at 13 (by decide +kernel) rfl, ct_at 1145 (by decide +kernel) rfl, ⟨by decide, by decide⟩, by decide +kernel, by decide, fun h => absurd h (by decide), fun _ => ct_at 1144 (by decide +kernel) rfl, fun _ => ct_atS 73 (by decide +kernel) rfl⟩
abbrev MX12_isReason : ct_M := (yX12_isReason, cX12_isReason, 5, (some .boolean))
theorem lkX12_isReason : ct_lk 0 MX12_isReason 2 := ⟨ct_at 13 (by decide +kernel) rfl, ct_at 1149 (by decide +kernel) rfl, ⟨by decide, by decide⟩, by decide +kernel, by decide, fun h => absurd h (by decide), fun _ => ct_at 1148 (by decide +kernel) rfl, fun _ => ct_atS 74 (by decide +kernel) rfl⟩
abbrev MX12_forget : ct_M := (yX12_forget, cX12_forget, 5, none)
theorem lkX12_forget : ct_lk 0 MX12_forget 2 := ⟨ct_at 13 (by decide +kernel) rfl, ct_at 1153 (by decide +kernel) rfl, ⟨by decide, by decide⟩, by decide +kernel, by decide, fun h => absurd h (by decide), fun _ => ct_at 1152 (by decide +kernel) rfl, fun _ => ct_atS 75 (by decide +kernel) rfl⟩
abbrev MX12_leaveAbove : ct_M := (yX12_leaveAbove, cX12_leaveAbove, 3, none)
theorem lkX12_leaveAbove : ct_lk 0 MX12_leaveAbove 2 := ⟨ct_at 13 (by decide +kernel) rfl, ct_at 1157 (by decide +kernel) rfl, ⟨by decide, by decide⟩, by decide +kernel, by decide, fun h => absurd h (by decide), fun _ => ct_at 1156 (by decide +kernel) rfl, fun _ => ct_atS 76 (by decide +kernel) rfl⟩
abbrev MX12_leave : ct_M := (yX12_leave, cX12_leave, 2, (some .int))
theorem lkX12_leave : ct_lk 0 MX12_leave 0 := ⟨ct_at 13 (by decide +kernel) rfl, ct_at 1161 (by decide +kernel) rfl, ⟨by decide, by decide⟩, by decide +kernel, by decide, fun h => absurd h (by decide), fun _ => ct_at 1159 (by decide +kernel) rfl, fun _ => ct_at 1160 (by decide +kernel) rfl⟩
abbrev MX12_run : ct_M := (yX12_run, cX12_run, 3, (some .int))
theorem lkX12_run : ct_lk 0 MX12_run 1 := ⟨ct_at 13 (by decide +kernel) rfl, ct_at 1165 (by decide +kernel) rfl, ⟨by decide, by decide⟩, by decide +kernel, by decide, fun h => absurd h (by decide), fun _ => ct_at 1163 (by decide +kernel) rfl, fun _ => ct_at 1164 (by decide +kernel) rfl⟩
abbrev MX12_stepOn : ct_M := (yX12_stepOn, cX12_stepOn, 3, none)
theorem lkX12_stepOn : ct_lk 0 MX12_stepOn 1 := ⟨ct_at 13 (by decide +kernel) rfl, ct_at 1170 (by decide +kernel) rfl, ⟨by decide, by decide⟩, by decide +kernel, by decide, fun h => absurd h (by decide), fun _ => ct_at 1169 (by decide +kernel) rfl, fun _ => ct_atS 77 (by decide +kernel) rfl⟩
abbrev MX12_undo : ct_M := (yX12_undo, cX12_undo, 2, (some .int))
theorem lkX12_undo : ct_lk 0 MX12_undo 0 := ⟨ct_at 13 (by decide +kernel) rfl, ct_at 1174 (by decide +kernel) rfl, ⟨by decide, by decide⟩, by decide +kernel, by decide, fun h => absurd h (by decide), fun _ => ct_at 1172 (by decide +kernel) rfl, fun _ => ct_at 1173 (by decide +kernel) rfl⟩
abbrev MX12_judge : ct_M := (yX12_judge, cX12_judge, 6, (some .int))
theorem lkX12_judge : ct_lk 0 MX12_judge 2 := ⟨ct_at 13 (by decide +kernel) rfl, ct_at 1178 (by decide +kernel) rfl, ⟨by decide, by decide⟩, by decide +kernel, by decide, fun h => absurd h (by decide), fun _ => ct_at 1176 (by decide +kernel) rfl, fun _ => ct_at 1177 (by decide +kernel) rfl⟩
abbrev MX12_thousands : ct_M := (yX12_thousands, cX12_thousands, 4, (some .long))
theorem lkX12_thousands : ct_lk 1 MX12_thousands 1 := ⟨ct_at 13 (by decide +kernel) rfl, ct_at 1181 (by decide +kernel) rfl, ⟨by decide, by decide⟩, by decide +kernel, by decide, fun _ => ct_at 1180 (by decide +kernel) rfl, fun h => absurd rfl h, fun h => absurd h (by decide)⟩
abbrev MX12_copy : ct_M := (yX12_copy, cX12_copy, 3, none)
theorem lkX12_copy : ct_lk 1 MX12_copy 2 := ⟨ct_at 13 (by decide +kernel) rfl, ct_at 1185 (by decide +kernel) rfl, ⟨by decide, by decide⟩, by decide +kernel, by decide, fun _ => ct_at 1184 (by decide +kernel) rfl, fun h => absurd rfl h, fun h => absurd h (by decide)⟩
abbrev MX12_judged : ct_M := (yX12_judged, cX12_judged, 4, (some .boolean))
theorem lkX12_judged : ct_lk 0 MX12_judged 3 := ⟨ct_at 13 (by decide +kernel) rfl, ct_at 1189 (by decide +kernel) rfl, ⟨by decide, by decide⟩, by decide +kernel, by decide, fun h => absurd h (by decide), fun _ => ct_at 1188 (by decide +kernel) rfl, fun _ => ct_atS 78 (by decide +kernel) rfl⟩
abbrev MX12_makes : ct_M := (yX12_makes, cX12_makes, 5, (some .boolean))
theorem lkX12_makes : ct_lk 0 MX12_makes 3 := ⟨ct_at 13 (by decide +kernel) rfl, ct_at 1193 (by decide +kernel) rfl, ⟨by decide, by decide⟩, by decide +kernel, by decide, fun h => absurd h (by decide), fun _ => ct_at 1192 (by decide +kernel) rfl, fun _ => ct_atS 79 (by decide +kernel) rfl⟩
abbrev MX12_see : ct_M := (yX12_see, cX12_see, 5, (some .int))
theorem lkX12_see : ct_lk 0 MX12_see 4 := ⟨ct_at 13 (by decide +kernel) rfl, ct_at 1197 (by decide +kernel) rfl, ⟨by decide, by decide⟩, by decide +kernel, by decide, fun h => absurd h (by decide), fun _ => ct_at 1195 (by decide +kernel) rfl, fun _ => ct_at 1196 (by decide +kernel) rfl⟩
abbrev MX12_unsee : ct_M := (yX12_unsee, cX12_unsee, 2, (some .int))
theorem lkX12_unsee : ct_lk 0 MX12_unsee 0 := ⟨ct_at 13 (by decide +kernel) rfl, ct_at 1201 (by decide +kernel) rfl, ⟨by decide, by decide⟩, by decide +kernel, by decide, fun h => absurd h (by decide), fun _ => ct_at 1199 (by decide +kernel) rfl, fun _ => ct_at 1200 (by decide +kernel) rfl⟩
abbrev MX12_which : ct_M := (yX12_which, cX12_which, 1, (some .int))
theorem lkX12_which : ct_lk 0 MX12_which 0 := ⟨ct_at 13 (by decide +kernel) rfl, ct_at 1205 (by decide +kernel) rfl, ⟨by decide, by decide⟩, by decide +kernel, by decide, fun h => absurd h (by decide), fun _ => ct_at 1203 (by decide +kernel) rfl, fun _ => ct_at 1204 (by decide +kernel) rfl⟩
abbrev MX12_share : ct_M := (yX12_share, cX12_share, 6, (some .int))
theorem lkX12_share : ct_lk 0 MX12_share 2 := ⟨ct_at 13 (by decide +kernel) rfl, ct_at 1209 (by decide +kernel) rfl, ⟨by decide, by decide⟩, by decide +kernel, by decide, fun h => absurd h (by decide), fun _ => ct_at 1207 (by decide +kernel) rfl, fun _ => ct_at 1208 (by decide +kernel) rfl⟩
abbrev MX12_layWorth : ct_M := (yX12_layWorth, cX12_layWorth, 4, none)
theorem lkX12_layWorth : ct_lk 0 MX12_layWorth 0 := ⟨ct_at 13 (by decide +kernel) rfl, ct_at 1213 (by decide +kernel) rfl, ⟨by decide, by decide⟩, by decide +kernel, by decide, fun h => absurd h (by decide), fun _ => ct_at 1212 (by decide +kernel) rfl, fun _ => ct_atS 80 (by decide +kernel) rfl⟩
abbrev MX12_ones : ct_M := (yX12_ones, cX12_ones, 3, (some .int))
theorem lkX12_ones : ct_lk 1 MX12_ones 1 := ⟨ct_at 13 (by decide +kernel) rfl, ct_at 1216 (by decide +kernel) rfl, ⟨by decide, by decide⟩, by decide +kernel, by decide, fun _ => ct_at 1215 (by decide +kernel) rfl, fun h => absurd rfl h, fun h => absurd h (by decide)⟩
abbrev MX12_factorial : ct_M := (yX12_factorial, cX12_factorial, 3, (some .int))
theorem lkX12_factorial : ct_lk 1 MX12_factorial 1 := ⟨ct_at 13 (by decide +kernel) rfl, ct_at 1219 (by decide +kernel) rfl, ⟨by decide, by decide⟩, by decide +kernel, by decide, fun _ => ct_at 1218 (by decide +kernel) rfl, fun h => absurd rfl h, fun h => absurd h (by decide)⟩
abbrev MX12_fraction : ct_M := (yX12_fraction, cX12_fraction, 6, (some .int))
theorem lkX12_fraction : ct_lk 1 MX12_fraction 3 := ⟨ct_at 13 (by decide +kernel) rfl, ct_at 1222 (by decide +kernel) rfl, ⟨by decide, by decide⟩, by decide +kernel, by decide, fun _ => ct_at 1221 (by decide +kernel) rfl, fun h => absurd rfl h, fun h => absurd h (by decide)⟩
abbrev MX12_chance : ct_M := (yX12_chance, cX12_chance, 6, (some .int))
theorem lkX12_chance : ct_lk 0 MX12_chance 3 := ⟨ct_at 13 (by decide +kernel) rfl, ct_at 1226 (by decide +kernel) rfl, ⟨by decide, by decide⟩, by decide +kernel, by decide, fun h => absurd h (by decide), fun _ => ct_at 1224 (by decide +kernel) rfl, fun _ => ct_at 1225 (by decide +kernel) rfl⟩
abbrev MX12_power : ct_M := (yX12_power, cX12_power, 4, (some .int))
theorem lkX12_power : ct_lk 1 MX12_power 2 := ⟨ct_at 13 (by decide +kernel) rfl, ct_at 1231 (by decide +kernel) rfl, ⟨by decide, by decide⟩, by decide +kernel, by decide, fun _ => ct_at 1230 (by decide +kernel) rfl, fun h => absurd rfl h, fun h => absurd h (by decide)⟩
abbrev MX12_seed : ct_M := (yX12_seed, cX12_seed, 5, (some .long))
theorem lkX12_seed : ct_lk 0 MX12_seed 1 := ⟨ct_at 13 (by decide +kernel) rfl, ct_at 1235 (by decide +kernel) rfl, ⟨by decide, by decide⟩, by decide +kernel, by decide, fun h => absurd h (by decide), fun _ => ct_at 1233 (by decide +kernel) rfl, fun _ => ct_at 1234 (by decide +kernel) rfl⟩
abbrev MX12_drawn : ct_M := (yX12_drawn, cX12_drawn, 4, (some .int))
theorem lkX12_drawn : ct_lk 0 MX12_drawn 1 := ⟨ct_at 13 (by decide +kernel) rfl, ct_at 1239 (by decide +kernel) rfl, ⟨by decide, by decide⟩, by decide +kernel, by decide, fun h => absurd h (by decide), fun _ => ct_at 1237 (by decide +kernel) rfl, fun _ => ct_at 1238 (by decide +kernel) rfl⟩
abbrev MX12_drawOne : ct_M := (yX12_drawOne, cX12_drawOne, 3, none)
theorem lkX12_drawOne : ct_lk 0 MX12_drawOne 1 := ⟨ct_at 13 (by decide +kernel) rfl, ct_at 1245 (by decide +kernel) rfl, ⟨by decide, by decide⟩, by decide +kernel, by decide, fun h => absurd h (by decide), fun _ => ct_at 1244 (by decide +kernel) rfl, fun _ => ct_atS 81 (by decide +kernel) rfl⟩
abbrev MX12_keep : ct_M := (yX12_keep, cX12_keep, 3, (some .int))
theorem lkX12_keep : ct_lk 0 MX12_keep 1 := ⟨ct_at 13 (by decide +kernel) rfl, ct_at 1249 (by decide +kernel) rfl, ⟨by decide, by decide⟩, by decide +kernel, by decide, fun h => absurd h (by decide), fun _ => ct_at 1247 (by decide +kernel) rfl, fun _ => ct_at 1248 (by decide +kernel) rfl⟩
abbrev MX12_again : ct_M := (yX12_again, cX12_again, 3, (some .int))
theorem lkX12_again : ct_lk 0 MX12_again 1 := ⟨ct_at 13 (by decide +kernel) rfl, ct_at 1253 (by decide +kernel) rfl, ⟨by decide, by decide⟩, by decide +kernel, by decide, fun h => absurd h (by decide), fun _ => ct_at 1251 (by decide +kernel) rfl, fun _ => ct_at 1252 (by decide +kernel) rfl⟩
theorem mlL_9 : Cond.methodLink RL 9 yX11_init ∈ ct_tbl := ct_at 19 (by decide +kernel) rfl
theorem mlX11_3 : Cond.methodLink RX11 3 objectInit ∈ ct_tbl := ct_at 22 (by decide +kernel) rfl
theorem mlX11_11 : Cond.methodLink RX11 11 yX6_init ∈ ct_tbl := ct_at 27 (by decide +kernel) rfl
theorem mlX6_3 : Cond.methodLink RX6 3 objectInit ∈ ct_tbl := ct_at 30 (by decide +kernel) rfl
theorem mnX11_18 : Cond.methodLinkNest RX11 18 yX7_init "CutTrail" ∈ ct_nst := ct_atN 78 (by decide +kernel) rfl
theorem mlX7_3 : Cond.methodLink RX7 3 objectInit ∈ ct_tbl := ct_at 81 (by decide +kernel) rfl
theorem mlX11_25 : Cond.methodLink RX11 25 yX5_init ∈ ct_tbl := ct_at 92 (by decide +kernel) rfl
theorem mlX5_3 : Cond.methodLink RX5 3 objectInit ∈ ct_tbl := ct_at 95 (by decide +kernel) rfl
theorem mnX5_11 : Cond.methodLinkNest RX5 11 yX2_init "CutTrail" ∈ ct_nst := ct_atN 98 (by decide +kernel) rfl
theorem mlX2_3 : Cond.methodLink RX2 3 objectInit ∈ ct_tbl := ct_at 101 (by decide +kernel) rfl
theorem mlX5_28 : Cond.methodLink RX5 28 yX9_init ∈ ct_tbl := ct_at 121 (by decide +kernel) rfl
theorem mlX9_3 : Cond.methodLink RX9 3 objectInit ∈ ct_tbl := ct_at 124 (by decide +kernel) rfl
theorem mlX9_35 : Cond.methodLink RX9 35 yX9_cutOff ∈ ct_tbl := ct_at 125 (by decide +kernel) rfl
theorem mlX9_39 : Cond.methodLink RX9 39 yX9_draw ∈ ct_tbl := ct_at 129 (by decide +kernel) rfl
theorem mnX11_37 : Cond.methodLinkNest RX11 37 yX8_init "CutTrail" ∈ ct_nst := ct_atN 191 (by decide +kernel) rfl
theorem mlX8_3 : Cond.methodLink RX8 3 objectInit ∈ ct_tbl := ct_at 194 (by decide +kernel) rfl
theorem mlX11_44 : Cond.methodLink RX11 44 yX0_init ∈ ct_tbl := ct_at 204 (by decide +kernel) rfl
theorem mlX0_3 : Cond.methodLink RX0 3 objectInit ∈ ct_tbl := ct_at 207 (by decide +kernel) rfl
theorem mlX0_21 : Cond.methodLink RX0 21 yX5_init ∈ ct_tbl := ct_at 210 (by decide +kernel) rfl
theorem mlX11_51 : Cond.methodLink RX11 51 yX4_init ∈ ct_tbl := ct_at 221 (by decide +kernel) rfl
theorem mlX4_3 : Cond.methodLink RX4 3 objectInit ∈ ct_tbl := ct_at 224 (by decide +kernel) rfl
theorem mlX4_21 : Cond.methodLink RX4 21 yX5_init ∈ ct_tbl := ct_at 226 (by decide +kernel) rfl
theorem mnX11_58 : Cond.methodLinkNest RX11 58 yX3_init "CutTrail" ∈ ct_nst := ct_atN 239 (by decide +kernel) rfl
theorem mlX3_3 : Cond.methodLink RX3 3 objectInit ∈ ct_tbl := ct_at 242 (by decide +kernel) rfl
theorem mlX11_65 : Cond.methodLink RX11 65 yX10_init ∈ ct_tbl := ct_at 259 (by decide +kernel) rfl
theorem mlX10_3 : Cond.methodLink RX10 3 objectInit ∈ ct_tbl := ct_at 262 (by decide +kernel) rfl
theorem mlX11_72 : Cond.methodLink RX11 72 yX1_init ∈ ct_tbl := ct_at 275 (by decide +kernel) rfl
theorem mlX1_3 : Cond.methodLink RX1 3 objectInit ∈ ct_tbl := ct_at 278 (by decide +kernel) rfl
theorem mlL_13 : Cond.methodLink RL 13 yX11_write ∈ ct_tbl := ct_at 324 (by decide +kernel) rfl
theorem mlX11_85 : Cond.methodLink RX11 85 yX7_put ∈ ct_tbl := ct_at 328 (by decide +kernel) rfl
theorem mlL_18 : Cond.methodLink RL 18 yX11_wipe ∈ ct_tbl := ct_at 332 (by decide +kernel) rfl
theorem mlL_23 : Cond.methodLink RL 23 yX11_fault ∈ ct_tbl := ct_at 336 (by decide +kernel) rfl
theorem mlX11_89 : Cond.methodLink RX11 89 yX7_firstFault ∈ ct_tbl := ct_at 340 (by decide +kernel) rfl
theorem mlX7_19 : Cond.methodLink RX7 19 yX7_canStand ∈ ct_tbl := ct_at 344 (by decide +kernel) rfl
theorem mlX7_27 : Cond.methodLink RX7 27 yX7_numbersTold ∈ ct_tbl := ct_at 348 (by decide +kernel) rfl
theorem mlX7_38 : Cond.methodLink RX7 38 yJ9_min_7cf53 ∈ ct_tbl := ct_at 352 (by decide +kernel) rfl
theorem mlX7_44 : Cond.methodLink RX7 44 yJ9_max_7cf53 ∈ ct_tbl := ct_at 355 (by decide +kernel) rfl
theorem mlX7_31 : Cond.methodLink RX7 31 yX7_isFigure ∈ ct_tbl := ct_at 358 (by decide +kernel) rfl
theorem mlX7_34 : Cond.methodLink RX7 34 yX7_canStandInRule ∈ ct_tbl := ct_at 361 (by decide +kernel) rfl
theorem mlX7_23 : Cond.methodLink RX7 23 yX7_isWhole ∈ ct_tbl := ct_at 365 (by decide +kernel) rfl
theorem mlL_27 : Cond.methodLink RL 27 yX11_task ∈ ct_tbl := ct_at 369 (by decide +kernel) rfl
theorem mlX11_93 : Cond.methodLink RX11 93 yX7_tellTo ∈ ct_tbl := ct_at 373 (by decide +kernel) rfl
theorem mlX7_58 : Cond.methodLink RX7 58 yX7_tellRule ∈ ct_tbl := ct_at 377 (by decide +kernel) rfl
theorem mlX7_66 : Cond.methodLink RX7 66 yX7_weightOf ∈ ct_tbl := ct_at 381 (by decide +kernel) rfl
theorem mlX11_103 : Cond.methodLink RX11 103 yX4_empty ∈ ct_tbl := ct_at 384 (by decide +kernel) rfl
theorem mlX11_106 : Cond.methodLink RX11 106 yX5_begin ∈ ct_tbl := ct_at 388 (by decide +kernel) rfl
theorem mlX5_39 : Cond.methodLink RX5 39 yX9_cutOff ∈ ct_tbl := ct_at 392 (by decide +kernel) rfl
theorem mlX5_43 : Cond.methodLink RX5 43 yX5_drawIn ∈ ct_tbl := ct_at 393 (by decide +kernel) rfl
theorem mlX5_93 : Cond.methodLink RX5 93 yX5_theBreak ∈ ct_tbl := ct_at 397 (by decide +kernel) rfl
theorem mlX5_72 : Cond.methodLink RX5 72 yX5_least ∈ ct_tbl := ct_at 401 (by decide +kernel) rfl
theorem mlX5_79 : Cond.methodLink RX5 79 yX5_cutBreaks ∈ ct_tbl := ct_at 405 (by decide +kernel) rfl
theorem mlX5_86 : Cond.methodLink RX5 86 yX2_at ∈ ct_tbl := ct_at 409 (by decide +kernel) rfl
theorem mlX5_90 : Cond.methodLink RX5 90 yX9_isSo ∈ ct_tbl := ct_at 413 (by decide +kernel) rfl
theorem mlX5_97 : Cond.methodLink RX5 97 yX5_drawOne ∈ ct_tbl := ct_at 417 (by decide +kernel) rfl
theorem mlX5_101 : Cond.methodLink RX5 101 yX5_toldByRule ∈ ct_tbl := ct_at 421 (by decide +kernel) rfl
theorem mnX5_114 : Cond.methodLinkNest RX5 114 yX11_markOf "CutTrail" ∈ ct_nst := ct_atN 425 (by decide +kernel) rfl
theorem mlX5_104 : Cond.methodLink RX5 104 yX9_level ∈ ct_tbl := ct_at 428 (by decide +kernel) rfl
theorem mlX5_107 : Cond.methodLink RX5 107 yX9_put ∈ ct_tbl := ct_at 432 (by decide +kernel) rfl
theorem mlX5_111 : Cond.methodLink RX5 111 yX5_toldByCut ∈ ct_tbl := ct_at 436 (by decide +kernel) rfl
theorem mlX5_118 : Cond.methodLink RX5 118 yX9_isNotSo ∈ ct_tbl := ct_at 440 (by decide +kernel) rfl
theorem mnX5_121 : Cond.methodLinkNest RX5 121 yX11_negated "CutTrail" ∈ ct_nst := ct_atN 444 (by decide +kernel) rfl
theorem mlL_31 : Cond.methodLink RL 31 yX11_about ∈ ct_tbl := ct_at 447 (by decide +kernel) rfl
theorem mlX11_124 : Cond.methodLink RX11 124 yX9_level ∈ ct_tbl := ct_at 451 (by decide +kernel) rfl
theorem mlX11_127 : Cond.methodLink RX11 127 yX5_theBreak ∈ ct_tbl := ct_at 452 (by decide +kernel) rfl
theorem mlX11_140 : Cond.methodLink RX11 140 yX5_isSolved ∈ ct_tbl := ct_at 453 (by decide +kernel) rfl
theorem mlX5_124 : Cond.methodLink RX5 124 yX9_firstOpen ∈ ct_tbl := ct_at 457 (by decide +kernel) rfl
theorem mlX11_144 : Cond.methodLink RX11 144 yX10_all ∈ ct_tbl := ct_at 461 (by decide +kernel) rfl
theorem mlX10_22 : Cond.methodLink RX10 22 yX10_openBox ∈ ct_tbl := ct_at 465 (by decide +kernel) rfl
theorem mlX10_25 : Cond.methodLink RX10 25 yX10_countInBox ∈ ct_tbl := ct_at 469 (by decide +kernel) rfl
theorem mlX10_80 : Cond.methodLink RX10 80 yX10_countOfLast ∈ ct_tbl := ct_at 473 (by decide +kernel) rfl
theorem mlX10_94 : Cond.methodLink RX10 94 yJ9_floorDiv_7cf53 ∈ ct_tbl := ct_at 477 (by decide +kernel) rfl
theorem mlX10_77 : Cond.methodLink RX10 77 yJ9_min_7cf53 ∈ ct_tbl := ct_at 480 (by decide +kernel) rfl
theorem mlX10_72 : Cond.methodLink RX10 72 yJ9_max_7cf53 ∈ ct_tbl := ct_at 481 (by decide +kernel) rfl
theorem mlX11_147 : Cond.methodLink RX11 147 yX10_along ∈ ct_tbl := ct_at 482 (by decide +kernel) rfl
theorem mlL_35 : Cond.methodLink RL 35 yX11_number ∈ ct_tbl := ct_at 486 (by decide +kernel) rfl
theorem mlX11_152 : Cond.methodLink RX11 152 yX6_hasNumber ∈ ct_tbl := ct_at 490 (by decide +kernel) rfl
theorem mlX11_166 : Cond.methodLink RX11 166 yX10_leastOfAll ∈ ct_tbl := ct_at 494 (by decide +kernel) rfl
theorem mlL_40 : Cond.methodLink RL 40 yX11_rule ∈ ct_tbl := ct_at 498 (by decide +kernel) rfl
theorem mlX11_170 : Cond.methodLink RX11 170 yX6_hasRule ∈ ct_tbl := ct_at 502 (by decide +kernel) rfl
theorem mlX11_180 : Cond.methodLink RX11 180 yX5_least ∈ ct_tbl := ct_at 506 (by decide +kernel) rfl
theorem mlL_44 : Cond.methodLink RL 44 yX11_mark ∈ ct_tbl := ct_at 507 (by decide +kernel) rfl
theorem mlX11_192 : Cond.methodLink RX11 192 yX8_countWhy ∈ ct_tbl := ct_at 511 (by decide +kernel) rfl
theorem mlX8_32 : Cond.methodLink RX8 32 yX8_lookUpWhy ∈ ct_tbl := ct_at 515 (by decide +kernel) rfl
theorem mlX8_87 : Cond.methodLink RX8 87 yX6_hasRule ∈ ct_tbl := ct_at 519 (by decide +kernel) rfl
theorem mlX8_93 : Cond.methodLink RX8 93 yX8_lookUpByRule ∈ ct_tbl := ct_at 520 (by decide +kernel) rfl
theorem mlX8_115 : Cond.methodLink RX8 115 yX9_lastAhead ∈ ct_tbl := ct_at 524 (by decide +kernel) rfl
theorem mlX9_50 : Cond.methodLink RX9 50 yJ9_min_7cf53 ∈ ct_tbl := ct_at 528 (by decide +kernel) rfl
theorem mlX8_100 : Cond.methodLink RX8 100 yX2_has ∈ ct_tbl := ct_at 529 (by decide +kernel) rfl
theorem mlX8_105 : Cond.methodLink RX8 105 yX8_lookUpByCut ∈ ct_tbl := ct_at 533 (by decide +kernel) rfl
theorem mlX8_122 : Cond.methodLink RX8 122 yX2_at ∈ ct_tbl := ct_at 537 (by decide +kernel) rfl
theorem mnX8_125 : Cond.methodLinkNest RX8 125 yX11_negated "CutTrail" ∈ ct_nst := ct_atN 538 (by decide +kernel) rfl
theorem mnX8_74 : Cond.methodLinkNest RX8 74 yX11_sideRow "CutTrail" ∈ ct_nst := ct_atN 539 (by decide +kernel) rfl
theorem mlL_48 : Cond.methodLink RL 48 yX11_cut ∈ ct_tbl := ct_at 542 (by decide +kernel) rfl
theorem mlX11_196 : Cond.methodLink RX11 196 yX2_has ∈ ct_tbl := ct_at 546 (by decide +kernel) rfl
theorem mlX11_202 : Cond.methodLink RX11 202 yX2_at ∈ ct_tbl := ct_at 547 (by decide +kernel) rfl
theorem mlL_52 : Cond.methodLink RL 52 yX11_follows ∈ ct_tbl := ct_at 548 (by decide +kernel) rfl
theorem mlX11_206 : Cond.methodLink RX11 206 yX10_within ∈ ct_tbl := ct_at 552 (by decide +kernel) rfl
theorem mlX10_42 : Cond.methodLink RX10 42 yX2_at ∈ ct_tbl := ct_at 556 (by decide +kernel) rfl
theorem mlX10_46 : Cond.methodLink RX10 46 yX10_hold ∈ ct_tbl := ct_at 557 (by decide +kernel) rfl
theorem mlL_56 : Cond.methodLink RL 56 yX11_make ∈ ct_tbl := ct_at 561 (by decide +kernel) rfl
theorem mlX11_210 : Cond.methodLink RX11 210 yX11_isSide ∈ ct_tbl := ct_at 565 (by decide +kernel) rfl
theorem mlX11_213 : Cond.methodLink RX11 213 yX11_isValue ∈ ct_tbl := ct_at 568 (by decide +kernel) rfl
theorem mlX11_216 : Cond.methodLink RX11 216 yX11_markOf ∈ ct_tbl := ct_at 571 (by decide +kernel) rfl
theorem mlX11_220 : Cond.methodLink RX11 220 yX5_canMake ∈ ct_tbl := ct_at 572 (by decide +kernel) rfl
theorem mlX5_127 : Cond.methodLink RX5 127 yX6_hasNumber ∈ ct_tbl := ct_at 576 (by decide +kernel) rfl
theorem mlX11_223 : Cond.methodLink RX11 223 yX0_remember ∈ ct_tbl := ct_at 577 (by decide +kernel) rfl
theorem mlX0_24 : Cond.methodLink RX0 24 yX0_forgetFirst ∈ ct_tbl := ct_at 581 (by decide +kernel) rfl
theorem mlX0_27 : Cond.methodLink RX0 27 yX5_copy ∈ ct_tbl := ct_at 585 (by decide +kernel) rfl
theorem mlX5_46 : Cond.methodLink RX5 46 yX9_copy ∈ ct_tbl := ct_at 589 (by decide +kernel) rfl
theorem mlX9_56 : Cond.methodLink RX9 56 arraycopyName ∈ ct_tbl := ct_at 593 (by decide +kernel) rfl
theorem mlX5_50 : Cond.methodLink RX5 50 yX2_copy ∈ ct_tbl := ct_at 596 (by decide +kernel) rfl
theorem mlX2_22 : Cond.methodLink RX2 22 arraycopyName ∈ ct_tbl := ct_at 600 (by decide +kernel) rfl
theorem mlX11_227 : Cond.methodLink RX11 227 yX5_made ∈ ct_tbl := ct_at 601 (by decide +kernel) rfl
theorem mlX5_130 : Cond.methodLink RX5 130 yX5_canMake ∈ ct_tbl := ct_at 605 (by decide +kernel) rfl
theorem mlL_61 : Cond.methodLink RL 61 yX11_learn ∈ ct_tbl := ct_at 606 (by decide +kernel) rfl
theorem mlX11_230 : Cond.methodLink RX11 230 yX5_canLearn ∈ ct_tbl := ct_at 610 (by decide +kernel) rfl
theorem mlX11_233 : Cond.methodLink RX11 233 yX8_learnt ∈ ct_tbl := ct_at 614 (by decide +kernel) rfl
theorem mlX8_36 : Cond.methodLink RX8 36 yX5_theBreak ∈ ct_tbl := ct_at 618 (by decide +kernel) rfl
theorem mlX8_44 : Cond.methodLink RX8 44 yX8_takeWhyIn ∈ ct_tbl := ct_at 619 (by decide +kernel) rfl
theorem mlX8_77 : Cond.methodLink RX8 77 yJ9_max_7cf53 ∈ ct_tbl := ct_at 623 (by decide +kernel) rfl
theorem mlX8_48 : Cond.methodLink RX8 48 yX8_traceLast ∈ ct_tbl := ct_at 624 (by decide +kernel) rfl
theorem mlX8_52 : Cond.methodLink RX8 52 yX8_greatestBelow ∈ ct_tbl := ct_at 628 (by decide +kernel) rfl
theorem mlX8_63 : Cond.methodLink RX8 63 yX8_addCut ∈ ct_tbl := ct_at 632 (by decide +kernel) rfl
theorem mlX8_131 : Cond.methodLink RX8 131 yX5_forgetFirstFree ∈ ct_tbl := ct_at 636 (by decide +kernel) rfl
theorem mlX5_136 : Cond.methodLink RX5 136 yX9_hasReason ∈ ct_tbl := ct_at 640 (by decide +kernel) rfl
theorem mlX5_139 : Cond.methodLink RX5 139 yX2_forget ∈ ct_tbl := ct_at 644 (by decide +kernel) rfl
theorem mlX5_142 : Cond.methodLink RX5 142 yX9_lowerReasonsAbove ∈ ct_tbl := ct_at 648 (by decide +kernel) rfl
theorem mlX8_134 : Cond.methodLink RX8 134 yX2_addEmpty ∈ ct_tbl := ct_at 652 (by decide +kernel) rfl
theorem mlX8_137 : Cond.methodLink RX8 137 yX2_putInLast ∈ ct_tbl := ct_at 656 (by decide +kernel) rfl
theorem mlX8_67 : Cond.methodLink RX8 67 yX9_cutAbove ∈ ct_tbl := ct_at 660 (by decide +kernel) rfl
theorem mlX8_71 : Cond.methodLink RX8 71 yX5_drawIn ∈ ct_tbl := ct_at 664 (by decide +kernel) rfl
theorem mlL_65 : Cond.methodLink RL 65 yX11_leave ∈ ct_tbl := ct_at 665 (by decide +kernel) rfl
theorem mlX11_237 : Cond.methodLink RX11 237 yX5_left ∈ ct_tbl := ct_at 669 (by decide +kernel) rfl
theorem mlX5_133 : Cond.methodLink RX5 133 yX9_cutAbove ∈ ct_tbl := ct_at 673 (by decide +kernel) rfl
theorem mlL_69 : Cond.methodLink RL 69 yX11_run ∈ ct_tbl := ct_at 674 (by decide +kernel) rfl
theorem mlX11_240 : Cond.methodLink RX11 240 yX11_oneStep ∈ ct_tbl := ct_at 678 (by decide +kernel) rfl
theorem mlX11_288 : Cond.methodLink RX11 288 yX9_firstOpen ∈ ct_tbl := ct_at 682 (by decide +kernel) rfl
theorem mlL_73 : Cond.methodLink RL 73 yX11_undo ∈ ct_tbl := ct_at 683 (by decide +kernel) rfl
theorem mlX11_243 : Cond.methodLink RX11 243 yX0_takeBack ∈ ct_tbl := ct_at 687 (by decide +kernel) rfl
theorem mlL_79 : Cond.methodLink RL 79 yX11_judge ∈ ct_tbl := ct_at 691 (by decide +kernel) rfl
theorem kcX11_246 : Cond.constantLong RX11 246 (Int64.ofInt (1000)) ∈ ct_tbl := ct_at 695 (by decide +kernel) rfl
theorem mlX11_248 : Cond.methodLink RX11 248 yX5_copy ∈ ct_tbl := ct_at 696 (by decide +kernel) rfl
theorem mlX11_251 : Cond.methodLink RX11 251 yX11_canBe ∈ ct_tbl := ct_at 697 (by decide +kernel) rfl
theorem mlL_84 : Cond.methodLink RL 84 yX11_see ∈ ct_tbl := ct_at 701 (by decide +kernel) rfl
theorem mlX11_254 : Cond.methodLink RX11 254 yX3_put ∈ ct_tbl := ct_at 705 (by decide +kernel) rfl
theorem mlL_89 : Cond.methodLink RL 89 yX11_unsee ∈ ct_tbl := ct_at 709 (by decide +kernel) rfl
theorem mlL_93 : Cond.methodLink RL 93 yX11_which ∈ ct_tbl := ct_at 713 (by decide +kernel) rfl
theorem mlX11_257 : Cond.methodLink RX11 257 yX10_bySeen ∈ ct_tbl := ct_at 717 (by decide +kernel) rfl
theorem mlX10_59 : Cond.methodLink RX10 59 yX6_hasNumber ∈ ct_tbl := ct_at 721 (by decide +kernel) rfl
theorem mlL_97 : Cond.methodLink RL 97 yX11_share ∈ ct_tbl := ct_at 722 (by decide +kernel) rfl
theorem mlX11_261 : Cond.methodLink RX11 261 yX1_shareOf ∈ ct_tbl := ct_at 726 (by decide +kernel) rfl
theorem mlX1_23 : Cond.methodLink RX1 23 yX1_countAll ∈ ct_tbl := ct_at 730 (by decide +kernel) rfl
theorem mlX1_52 : Cond.methodLink RX1 52 yX1_brokenBy ∈ ct_tbl := ct_at 734 (by decide +kernel) rfl
theorem mlX1_56 : Cond.methodLink RX1 56 yX1_addSmallerSets ∈ ct_tbl := ct_at 738 (by decide +kernel) rfl
theorem mlX1_32 : Cond.methodLink RX1 32 yJ6_bitCount_0f7a4 ∈ ct_tbl := ct_at 742 (by decide +kernel) rfl
theorem kcJ6_265 : Cond.constant RJ6 265 (Int32.ofInt (1431655765)) ∈ ct_tbl := ct_at 745 (by decide +kernel) rfl
theorem kcJ6_266 : Cond.constant RJ6 266 (Int32.ofInt (858993459)) ∈ ct_tbl := ct_at 746 (by decide +kernel) rfl
theorem kcJ6_267 : Cond.constant RJ6 267 (Int32.ofInt (252645135)) ∈ ct_tbl := ct_at 747 (by decide +kernel) rfl
theorem fnX1_38 : Cond.fieldLinkNest RX1 38 "CutTrail" "ORDERS" "[I" "CutTrail" ∈ ct_nst := ct_atN 748 (by decide +kernel) rfl
theorem mlX1_41 : Cond.methodLink RX1 41 yX1_toldOf ∈ ct_tbl := ct_at 750 (by decide +kernel) rfl
theorem mlX1_66 : Cond.methodLink RX1 66 yX1_greatestDivisor ∈ ct_tbl := ct_at 753 (by decide +kernel) rfl
theorem mlX1_69 : Cond.methodLink RX1 69 yJ9_max_7cf53 ∈ ct_tbl := ct_at 756 (by decide +kernel) rfl
theorem mlL_102 : Cond.methodLink RL 102 yX11_chance ∈ ct_tbl := ct_at 757 (by decide +kernel) rfl
theorem mlX11_265 : Cond.methodLink RX11 265 yX1_chanceOf ∈ ct_tbl := ct_at 761 (by decide +kernel) rfl
theorem mlX1_45 : Cond.methodLink RX1 45 yX1_weightOf ∈ ct_tbl := ct_at 765 (by decide +kernel) rfl
theorem mlL_107 : Cond.methodLink RL 107 yX11_seed ∈ ct_tbl := ct_at 769 (by decide +kernel) rfl
theorem mlL_112 : Cond.methodLink RL 112 yX11_drawn ∈ ct_tbl := ct_at 773 (by decide +kernel) rfl
theorem kcX11_269 : Cond.constantLong RX11 269 (Int64.ofInt (6364136223846793005)) ∈ ct_tbl := ct_at 777 (by decide +kernel) rfl
theorem kcX11_271 : Cond.constantLong RX11 271 (Int64.ofInt (1442695040888963407)) ∈ ct_tbl := ct_at 778 (by decide +kernel) rfl
theorem mlX11_273 : Cond.methodLink RX11 273 yX11_drawOnTrial ∈ ct_tbl := ct_at 779 (by decide +kernel) rfl
theorem mlL_116 : Cond.methodLink RL 116 yX11_keep ∈ ct_tbl := ct_at 783 (by decide +kernel) rfl
theorem mlX11_276 : Cond.methodLink RX11 276 yX4_has ∈ ct_tbl := ct_at 787 (by decide +kernel) rfl
theorem mlX11_277 : Cond.methodLink RX11 277 yX4_put ∈ ct_tbl := ct_at 791 (by decide +kernel) rfl
theorem mlX4_24 : Cond.methodLink RX4 24 yX5_copy ∈ ct_tbl := ct_at 795 (by decide +kernel) rfl
theorem mlL_120 : Cond.methodLink RL 120 yX11_again ∈ ct_tbl := ct_at 796 (by decide +kernel) rfl
theorem mlL_12 : Cond.methodLink RL 12 yX12_init ∈ ct_tbl := ct_at 802 (by decide +kernel) rfl
theorem mlX12_1 : Cond.methodLink RX12 1 objectInit ∈ ct_tbl := ct_at 805 (by decide +kernel) rfl
theorem mlL_17 : Cond.methodLink RL 17 yX12_write ∈ ct_tbl := ct_at 900 (by decide +kernel) rfl
theorem kcX12_73 : Cond.constantLong RX12 73 (Int64.ofInt (255)) ∈ ct_tbl := ct_at 904 (by decide +kernel) rfl
theorem mlX12_69 : Cond.methodLink RX12 69 yX12_in ∈ ct_tbl := ct_at 905 (by decide +kernel) rfl
theorem mlL_22 : Cond.methodLink RL 22 yX12_wipe ∈ ct_tbl := ct_at 908 (by decide +kernel) rfl
theorem mlL_26 : Cond.methodLink RL 26 yX12_fault ∈ ct_tbl := ct_at 912 (by decide +kernel) rfl
theorem mlX12_112 : Cond.methodLink RX12 112 yX12_readText ∈ ct_tbl := ct_at 916 (by decide +kernel) rfl
theorem mlX12_104 : Cond.methodLink RX12 104 yX12_takeHead ∈ ct_tbl := ct_at 920 (by decide +kernel) rfl
theorem kcX12_81 : Cond.constantLong RX12 81 (Int64.ofInt (4)) ∈ ct_tbl := ct_at 924 (by decide +kernel) rfl
theorem kcX12_83 : Cond.constantLong RX12 83 (Int64.ofInt (9)) ∈ ct_tbl := ct_at 925 (by decide +kernel) rfl
theorem mlX12_108 : Cond.methodLink RX12 108 yX12_takeOfRule ∈ ct_tbl := ct_at 926 (by decide +kernel) rfl
theorem kcX12_91 : Cond.constantLong RX12 91 (Int64.ofInt (48)) ∈ ct_tbl := ct_at 930 (by decide +kernel) rfl
theorem kcX12_93 : Cond.constantLong RX12 93 (Int64.ofInt (51)) ∈ ct_tbl := ct_at 931 (by decide +kernel) rfl
theorem kcX12_95 : Cond.constantLong RX12 95 (Int64.ofInt (97)) ∈ ct_tbl := ct_at 932 (by decide +kernel) rfl
theorem kcX12_97 : Cond.constantLong RX12 97 (Int64.ofInt (99)) ∈ ct_tbl := ct_at 933 (by decide +kernel) rfl
theorem kcX12_102 : Cond.constantLong RX12 102 (Int64.ofInt (57)) ∈ ct_tbl := ct_at 934 (by decide +kernel) rfl
theorem mlL_30 : Cond.methodLink RL 30 yX12_task ∈ ct_tbl := ct_at 935 (by decide +kernel) rfl
theorem mlX12_191 : Cond.methodLink RX12 191 yX12_drawIn ∈ ct_tbl := ct_at 939 (by decide +kernel) rfl
theorem mlX12_176 : Cond.methodLink RX12 176 yX12_breakOf ∈ ct_tbl := ct_at 943 (by decide +kernel) rfl
theorem mlX12_148 : Cond.methodLink RX12 148 yX12_leastOf ∈ ct_tbl := ct_at 947 (by decide +kernel) rfl
theorem mlX12_134 : Cond.methodLink RX12 134 yX12_weightOf ∈ ct_tbl := ct_at 951 (by decide +kernel) rfl
theorem mlX12_123 : Cond.methodLink RX12 123 yX12_low ∈ ct_tbl := ct_at 955 (by decide +kernel) rfl
theorem mlX12_116 : Cond.methodLink RX12 116 yX12_lowAt ∈ ct_tbl := ct_at 959 (by decide +kernel) rfl
theorem mlX12_127 : Cond.methodLink RX12 127 yX12_high ∈ ct_tbl := ct_at 963 (by decide +kernel) rfl
theorem mlX12_120 : Cond.methodLink RX12 120 yX12_highAt ∈ ct_tbl := ct_at 967 (by decide +kernel) rfl
theorem mlX12_151 : Cond.methodLink RX12 151 yX12_areSo ∈ ct_tbl := ct_at 971 (by decide +kernel) rfl
theorem mlX12_138 : Cond.methodLink RX12 138 yX12_cutMark ∈ ct_tbl := ct_at 975 (by decide +kernel) rfl
theorem mlX12_141 : Cond.methodLink RX12 141 yX12_isSo ∈ ct_tbl := ct_at 979 (by decide +kernel) rfl
theorem mlX12_180 : Cond.methodLink RX12 180 yX12_tells ∈ ct_tbl := ct_at 983 (by decide +kernel) rfl
theorem mlX12_170 : Cond.methodLink RX12 170 yX12_ruleTells ∈ ct_tbl := ct_at 987 (by decide +kernel) rfl
theorem mlX12_130 : Cond.methodLink RX12 130 yX12_codeOf ∈ ct_tbl := ct_at 991 (by decide +kernel) rfl
theorem mlX12_160 : Cond.methodLink RX12 160 yX12_tell ∈ ct_tbl := ct_at 994 (by decide +kernel) rfl
theorem mlX12_173 : Cond.methodLink RX12 173 yX12_cutTells ∈ ct_tbl := ct_at 998 (by decide +kernel) rfl
theorem mlX12_163 : Cond.methodLink RX12 163 yX12_isNotSo ∈ ct_tbl := ct_at 1002 (by decide +kernel) rfl
theorem mlX12_166 : Cond.methodLink RX12 166 yX12_negated ∈ ct_tbl := ct_at 1006 (by decide +kernel) rfl
theorem mlX12_184 : Cond.methodLink RX12 184 yX12_levelOf ∈ ct_tbl := ct_at 1009 (by decide +kernel) rfl
theorem mlX12_187 : Cond.methodLink RX12 187 yX12_append ∈ ct_tbl := ct_at 1013 (by decide +kernel) rfl
theorem mlL_34 : Cond.methodLink RL 34 yX12_about ∈ ct_tbl := ct_at 1017 (by decide +kernel) rfl
theorem mlX12_266 : Cond.methodLink RX12 266 yX12_isSolved ∈ ct_tbl := ct_at 1021 (by decide +kernel) rfl
theorem mlX12_235 : Cond.methodLink RX12 235 yX12_openOf ∈ ct_tbl := ct_at 1025 (by decide +kernel) rfl
theorem mlX12_269 : Cond.methodLink RX12 269 yX12_count ∈ ct_tbl := ct_at 1029 (by decide +kernel) rfl
theorem mlX12_253 : Cond.methodLink RX12 253 yX12_layWay ∈ ct_tbl := ct_at 1033 (by decide +kernel) rfl
theorem mlX12_256 : Cond.methodLink RX12 256 yX12_broken ∈ ct_tbl := ct_at 1037 (by decide +kernel) rfl
theorem mlX12_259 : Cond.methodLink RX12 259 yX12_isOpen ∈ ct_tbl := ct_at 1041 (by decide +kernel) rfl
theorem mlX12_263 : Cond.methodLink RX12 263 yX12_isSeen ∈ ct_tbl := ct_at 1045 (by decide +kernel) rfl
theorem mlX12_247 : Cond.methodLink RX12 247 yX12_isNumber ∈ ct_tbl := ct_at 1049 (by decide +kernel) rfl
theorem mlX12_250 : Cond.methodLink RX12 250 yX12_fits ∈ ct_tbl := ct_at 1053 (by decide +kernel) rfl
theorem mlL_39 : Cond.methodLink RL 39 yX12_number ∈ ct_tbl := ct_at 1057 (by decide +kernel) rfl
theorem mlX12_272 : Cond.methodLink RX12 272 yX12_leastOfAll ∈ ct_tbl := ct_at 1061 (by decide +kernel) rfl
theorem mlL_43 : Cond.methodLink RL 43 yX12_rule ∈ ct_tbl := ct_at 1065 (by decide +kernel) rfl
theorem mlL_47 : Cond.methodLink RL 47 yX12_mark ∈ ct_tbl := ct_at 1069 (by decide +kernel) rfl
theorem kcX12_275 : Cond.constantLong RX12 275 (Int64.ofInt (3)) ∈ ct_tbl := ct_at 1073 (by decide +kernel) rfl
theorem mlX12_225 : Cond.methodLink RX12 225 yX12_whyOf ∈ ct_tbl := ct_at 1074 (by decide +kernel) rfl
theorem mlX12_206 : Cond.methodLink RX12 206 yX12_whyBy ∈ ct_tbl := ct_at 1078 (by decide +kernel) rfl
theorem mlX12_198 : Cond.methodLink RX12 198 yX12_lastOf ∈ ct_tbl := ct_at 1082 (by decide +kernel) rfl
theorem mlX12_202 : Cond.methodLink RX12 202 yX12_comes ∈ ct_tbl := ct_at 1086 (by decide +kernel) rfl
theorem mlL_51 : Cond.methodLink RL 51 yX12_cut ∈ ct_tbl := ct_at 1090 (by decide +kernel) rfl
theorem mlX12_277 : Cond.methodLink RX12 277 yX12_isCut ∈ ct_tbl := ct_at 1094 (by decide +kernel) rfl
theorem mlL_55 : Cond.methodLink RL 55 yX12_follows ∈ ct_tbl := ct_at 1098 (by decide +kernel) rfl
theorem mlL_60 : Cond.methodLink RL 60 yX12_make ∈ ct_tbl := ct_at 1102 (by decide +kernel) rfl
theorem mlX12_283 : Cond.methodLink RX12 283 yX12_mayMake ∈ ct_tbl := ct_at 1106 (by decide +kernel) rfl
theorem mlX12_286 : Cond.methodLink RX12 286 yX12_note ∈ ct_tbl := ct_at 1110 (by decide +kernel) rfl
theorem mlX12_241 : Cond.methodLink RX12 241 yX12_makeOn ∈ ct_tbl := ct_at 1114 (by decide +kernel) rfl
theorem mlL_64 : Cond.methodLink RL 64 yX12_learn ∈ ct_tbl := ct_at 1118 (by decide +kernel) rfl
theorem mlX12_289 : Cond.methodLink RX12 289 yX12_mayLearn ∈ ct_tbl := ct_at 1122 (by decide +kernel) rfl
theorem mlX12_238 : Cond.methodLink RX12 238 yX12_learnOn ∈ ct_tbl := ct_at 1126 (by decide +kernel) rfl
theorem mlX12_216 : Cond.methodLink RX12 216 yX12_greatest ∈ ct_tbl := ct_at 1130 (by decide +kernel) rfl
theorem mlX12_219 : Cond.methodLink RX12 219 yX12_manyOf ∈ ct_tbl := ct_at 1134 (by decide +kernel) rfl
theorem mlX12_222 : Cond.methodLink RX12 222 yX12_lastInSet ∈ ct_tbl := ct_at 1138 (by decide +kernel) rfl
theorem mlX12_229 : Cond.methodLink RX12 229 yX12_addCut ∈ ct_tbl := ct_at 1142 (by decide +kernel) rfl
theorem mlX12_210 : Cond.methodLink RX12 210 yX12_isReason ∈ ct_tbl := ct_at 1146 (by decide +kernel) rfl
theorem mlX12_213 : Cond.methodLink RX12 213 yX12_forget ∈ ct_tbl := ct_at 1150 (by decide +kernel) rfl
theorem mlX12_232 : Cond.methodLink RX12 232 yX12_leaveAbove ∈ ct_tbl := ct_at 1154 (by decide +kernel) rfl
theorem mlL_68 : Cond.methodLink RL 68 yX12_leave ∈ ct_tbl := ct_at 1158 (by decide +kernel) rfl
theorem mlL_72 : Cond.methodLink RL 72 yX12_run ∈ ct_tbl := ct_at 1162 (by decide +kernel) rfl
theorem kcX12_292 : Cond.constantLong RX12 292 (Int64.ofInt (50)) ∈ ct_tbl := ct_at 1166 (by decide +kernel) rfl
theorem mlX12_294 : Cond.methodLink RX12 294 yX12_stepOn ∈ ct_tbl := ct_at 1167 (by decide +kernel) rfl
theorem mlL_76 : Cond.methodLink RL 76 yX12_undo ∈ ct_tbl := ct_at 1171 (by decide +kernel) rfl
theorem mlL_83 : Cond.methodLink RL 83 yX12_judge ∈ ct_tbl := ct_at 1175 (by decide +kernel) rfl
theorem mlX12_303 : Cond.methodLink RX12 303 yX12_thousands ∈ ct_tbl := ct_at 1179 (by decide +kernel) rfl
theorem kcX12_301 : Cond.constantLong RX12 301 (Int64.ofInt (1000)) ∈ ct_tbl := ct_at 1182 (by decide +kernel) rfl
theorem mlX12_307 : Cond.methodLink RX12 307 yX12_copy ∈ ct_tbl := ct_at 1183 (by decide +kernel) rfl
theorem mlX12_311 : Cond.methodLink RX12 311 yX12_judged ∈ ct_tbl := ct_at 1186 (by decide +kernel) rfl
theorem mlX12_297 : Cond.methodLink RX12 297 yX12_makes ∈ ct_tbl := ct_at 1190 (by decide +kernel) rfl
theorem mlL_88 : Cond.methodLink RL 88 yX12_see ∈ ct_tbl := ct_at 1194 (by decide +kernel) rfl
theorem mlL_92 : Cond.methodLink RL 92 yX12_unsee ∈ ct_tbl := ct_at 1198 (by decide +kernel) rfl
theorem mlL_96 : Cond.methodLink RL 96 yX12_which ∈ ct_tbl := ct_at 1202 (by decide +kernel) rfl
theorem mlL_101 : Cond.methodLink RL 101 yX12_share ∈ ct_tbl := ct_at 1206 (by decide +kernel) rfl
theorem mlX12_314 : Cond.methodLink RX12 314 yX12_layWorth ∈ ct_tbl := ct_at 1210 (by decide +kernel) rfl
theorem mlX12_317 : Cond.methodLink RX12 317 yX12_ones ∈ ct_tbl := ct_at 1214 (by decide +kernel) rfl
theorem mlX12_320 : Cond.methodLink RX12 320 yX12_factorial ∈ ct_tbl := ct_at 1217 (by decide +kernel) rfl
theorem mlX12_323 : Cond.methodLink RX12 323 yX12_fraction ∈ ct_tbl := ct_at 1220 (by decide +kernel) rfl
theorem mlL_106 : Cond.methodLink RL 106 yX12_chance ∈ ct_tbl := ct_at 1223 (by decide +kernel) rfl
theorem kcX12_327 : Cond.constantLong RX12 327 (Int64.ofInt (9999)) ∈ ct_tbl := ct_at 1227 (by decide +kernel) rfl
theorem kcX12_329 : Cond.constantLong RX12 329 (Int64.ofInt (10)) ∈ ct_tbl := ct_at 1228 (by decide +kernel) rfl
theorem mlX12_331 : Cond.methodLink RX12 331 yX12_power ∈ ct_tbl := ct_at 1229 (by decide +kernel) rfl
theorem mlL_111 : Cond.methodLink RL 111 yX12_seed ∈ ct_tbl := ct_at 1232 (by decide +kernel) rfl
theorem mlL_115 : Cond.methodLink RL 115 yX12_drawn ∈ ct_tbl := ct_at 1236 (by decide +kernel) rfl
theorem kcX12_338 : Cond.constantLong RX12 338 (Int64.ofInt (6364136223846793005)) ∈ ct_tbl := ct_at 1240 (by decide +kernel) rfl
theorem kcX12_340 : Cond.constantLong RX12 340 (Int64.ofInt (1442695040888963407)) ∈ ct_tbl := ct_at 1241 (by decide +kernel) rfl
theorem mlX12_342 : Cond.methodLink RX12 342 yX12_drawOne ∈ ct_tbl := ct_at 1242 (by decide +kernel) rfl
theorem mlL_119 : Cond.methodLink RL 119 yX12_keep ∈ ct_tbl := ct_at 1246 (by decide +kernel) rfl
theorem mlL_123 : Cond.methodLink RL 123 yX12_again ∈ ct_tbl := ct_at 1250 (by decide +kernel) rfl
theorem kcL_77 : Cond.constantLong RL 77 (Int64.ofInt (4294967295)) ∈ ct_tbl := ct_at 1254 (by decide +kernel) rfl
theorem kw_native : Cond.native arraycopyName ∈ ct_tbl := ct_at 595 (by decide +kernel) rfl
theorem kw_stat : Cond.static arraycopyName ∈ ct_tbl := ct_at 594 (by decide +kernel) rfl
theorem kw_sys : Cond.initialized "java/lang/System" ∈ ct_tbl := ct_at 15 (by decide +kernel) rfl
theorem kw_maxS : Cond.static Lib.Math.max.name ∈ ct_tbl := ct_at 356 (by decide +kernel) rfl
theorem kw_maxC : Cond.code Lib.Math.max.name Lib.Math.max.code 2 (some .int) ∈ ct_tbl := ct_at 357 (by decide +kernel) rfl
theorem kw_minS : Cond.static Lib.Math.min.name ∈ ct_tbl := ct_at 353 (by decide +kernel) rfl
theorem kw_minC : Cond.code Lib.Math.min.name Lib.Math.min.code 2 (some .int) ∈ ct_tbl := ct_at 354 (by decide +kernel) rfl
theorem kw_math : Cond.initialized "java/lang/Math" ∈ ct_tbl := ct_at 14 (by decide +kernel) rfl
theorem kw_objI : Cond.instanceMethod objectInit ∈ ct_tbl := ct_at 23 (by decide +kernel) rfl
theorem kw_objC : Cond.code objectInit ⟨#[0xb1]⟩ 1 none ∈ ct_tbl := ct_at 24 (by decide +kernel) rfl
theorem kw_acI : Cond.arrayClass .int ∈ ct_tbl := ct_at 75 (by decide +kernel) rfl
theorem kw_acZ : Cond.arrayClass .boolean ∈ ct_tbl := ct_at 236 (by decide +kernel) rfl
theorem ckL_7 : Cond.classLink RL 7 "CutTrail" ∈ ct_tbl := ct_at 17 (by decide +kernel) rfl
theorem ikX11 : Cond.instantiable RX11 11 ∈ ct_tbl := ct_at 18 (by decide +kernel) rfl
theorem ckX11_9 : Cond.classLink RX11 9 "CutTrail$Task" ∈ ct_tbl := ct_at 25 (by decide +kernel) rfl
theorem ikX6 : Cond.instantiable RX6 5 ∈ ct_tbl := ct_at 26 (by decide +kernel) rfl
theorem ckX6_22 : Cond.classLink RX6 22 "[[I" ∈ ct_tbl := ct_at 31 (by decide +kernel) rfl
theorem ckX11_16 : Cond.classLink RX11 16 "CutTrail$Text" ∈ ct_tbl := ct_at 76 (by decide +kernel) rfl
theorem ikX7 : Cond.instantiable RX7 2 ∈ ct_tbl := ct_at 77 (by decide +kernel) rfl
theorem ckX11_23 : Cond.classLink RX11 23 "CutTrail$State" ∈ ct_tbl := ct_at 90 (by decide +kernel) rfl
theorem ikX5 : Cond.instantiable RX5 4 ∈ ct_tbl := ct_at 91 (by decide +kernel) rfl
theorem ckX5_9 : Cond.classLink RX5 9 "CutTrail$Cuts" ∈ ct_tbl := ct_at 96 (by decide +kernel) rfl
theorem ikX2 : Cond.instantiable RX2 3 ∈ ct_tbl := ct_at 97 (by decide +kernel) rfl
theorem ckX5_26 : Cond.classLink RX5 26 "CutTrail$Trail" ∈ ct_tbl := ct_at 119 (by decide +kernel) rfl
theorem ikX9 : Cond.instantiable RX9 7 ∈ ct_tbl := ct_at 120 (by decide +kernel) rfl
theorem ckX11_35 : Cond.classLink RX11 35 "CutTrail$Tracer" ∈ ct_tbl := ct_at 189 (by decide +kernel) rfl
theorem ikX8 : Cond.instantiable RX8 2 ∈ ct_tbl := ct_at 190 (by decide +kernel) rfl
theorem ckX11_42 : Cond.classLink RX11 42 "CutTrail$Acts" ∈ ct_tbl := ct_at 202 (by decide +kernel) rfl
theorem ikX0 : Cond.instantiable RX0 2 ∈ ct_tbl := ct_at 203 (by decide +kernel) rfl
theorem ckX0_9 : Cond.classLink RX0 9 "CutTrail$State" ∈ ct_tbl := ct_at 208 (by decide +kernel) rfl
theorem ckX11_49 : Cond.classLink RX11 49 "CutTrail$Slots" ∈ ct_tbl := ct_at 219 (by decide +kernel) rfl
theorem ikX4 : Cond.instantiable RX4 2 ∈ ct_tbl := ct_at 220 (by decide +kernel) rfl
theorem ckX4_9 : Cond.classLink RX4 9 "CutTrail$State" ∈ ct_tbl := ct_at 225 (by decide +kernel) rfl
theorem ckX11_56 : Cond.classLink RX11 56 "CutTrail$Seen" ∈ ct_tbl := ct_at 237 (by decide +kernel) rfl
theorem ikX3 : Cond.instantiable RX3 3 ∈ ct_tbl := ct_at 238 (by decide +kernel) rfl
theorem ckX11_63 : Cond.classLink RX11 63 "CutTrail$Ways" ∈ ct_tbl := ct_at 257 (by decide +kernel) rfl
theorem ikX10 : Cond.instantiable RX10 3 ∈ ct_tbl := ct_at 258 (by decide +kernel) rfl
theorem ckX11_70 : Cond.classLink RX11 70 "CutTrail$Chances" ∈ ct_tbl := ct_at 273 (by decide +kernel) rfl
theorem ikX1 : Cond.instantiable RX1 3 ∈ ct_tbl := ct_at 274 (by decide +kernel) rfl
theorem ckL_10 : Cond.classLink RL 10 "CutTrailModel" ∈ ct_tbl := ct_at 800 (by decide +kernel) rfl
theorem ikX12 : Cond.instantiable RX12 31 ∈ ct_tbl := ct_at 801 (by decide +kernel) rfl
