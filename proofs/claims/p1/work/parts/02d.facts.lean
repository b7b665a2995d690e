/-! The tables' facts, as the machine's rows ask for them. -/
def ai_kind (ty : ArrayType) : Option Nat := match ty with
  | .int => some 0
  | .char => some 1
  | .boolean => some 2
  | .long => some 3
  | _ => none
theorem ai_zip {l : List Cond} {ps : List Nat} (hl : l.length ≤ ps.length) (h : (l.zip ps).all (fun q => decide (lw_tbl[q.2]? = some q.1) && goodWord q.1) = true) {w : Cond} (hw : w ∈ l) : w ∈ lw_tbl ∧ goodWord w = true := by
  obtain ⟨i, hi⟩ := List.getElem?_of_mem hw
  have hil : i < l.length := (List.getElem?_eq_some_iff.mp hi).1
  have hip : i < ps.length := by omega
  have hz : (w, ps[i]) ∈ l.zip ps := by
    apply List.mem_of_getElem? (i := i)
    rw [List.getElem?_zip_eq_some]
    exact ⟨hi, List.getElem?_eq_getElem hip⟩
  have h1 := List.all_eq_true.mp h _ hz
  simp only [Bool.and_eq_true, decide_eq_true_eq] at h1
  exact ⟨List.mem_of_getElem? h1.1, h1.2⟩
theorem ai_up1 {w : Cond} (h : w ∈ tables_1_1) : w ∈ lw_tbl := List.mem_append_right _ (show w ∈ tables_1_1 ++ (tables_1_2 ++ (tables_1_3 ++ (tables_1_4 ++ tables_1_5))) from List.mem_append_left _ h)
theorem ai_up2 {w : Cond} (h : w ∈ tables_1_2) : w ∈ lw_tbl := List.mem_append_right _ (show w ∈ tables_1_1 ++ (tables_1_2 ++ (tables_1_3 ++ (tables_1_4 ++ tables_1_5))) from List.mem_append_right _ (List.mem_append_left _ h))
theorem ai_up3 {w : Cond} (h : w ∈ tables_1_3) : w ∈ lw_tbl := List.mem_append_right _ (show w ∈ tables_1_1 ++ (tables_1_2 ++ (tables_1_3 ++ (tables_1_4 ++ tables_1_5))) from List.mem_append_right _ (List.mem_append_right _ (List.mem_append_left _ h)))
theorem ai_up4 {w : Cond} (h : w ∈ tables_1_4) : w ∈ lw_tbl := List.mem_append_right _ (show w ∈ tables_1_1 ++ (tables_1_2 ++ (tables_1_3 ++ (tables_1_4 ++ tables_1_5))) from List.mem_append_right _ (List.mem_append_right _ (List.mem_append_right _ (List.mem_append_left _ h))))
theorem ai_up5 {w : Cond} (h : w ∈ tables_1_5) : w ∈ lw_tbl := List.mem_append_right _ (show w ∈ tables_1_1 ++ (tables_1_2 ++ (tables_1_3 ++ (tables_1_4 ++ tables_1_5))) from List.mem_append_right _ (List.mem_append_right _ (List.mem_append_right _ (List.mem_append_right _ h))))
set_option maxRecDepth 100000 in
theorem wc_0 : ai_oi ai_m0 ≠ 99 → ai_cw ai_m0 ∈ lw_tbl := fun _ => ai_up1 (List.mem_of_getElem? (i := 25) rfl)
set_option maxRecDepth 100000 in
theorem wc_1 : ai_oi ai_m1 ≠ 99 → ai_cw ai_m1 ∈ lw_tbl := fun _ => ai_up2 (List.mem_of_getElem? (i := 75) rfl)
set_option maxRecDepth 100000 in
theorem wc_2 : ai_oi ai_m2 ≠ 99 → ai_cw ai_m2 ∈ lw_tbl := fun _ => ai_up2 (List.mem_of_getElem? (i := 87) rfl)
set_option maxRecDepth 100000 in
theorem wc_3 : ai_oi ai_m3 ≠ 99 → ai_cw ai_m3 ∈ lw_tbl := fun _ => ai_up2 (List.mem_of_getElem? (i := 91) rfl)
set_option maxRecDepth 100000 in
theorem wc_4 : ai_oi ai_m4 ≠ 99 → ai_cw ai_m4 ∈ lw_tbl := fun _ => ai_up2 (List.mem_of_getElem? (i := 95) rfl)
set_option maxRecDepth 100000 in
theorem wc_5 : ai_oi ai_m5 ≠ 99 → ai_cw ai_m5 ∈ lw_tbl := fun _ => ai_up2 (List.mem_of_getElem? (i := 99) rfl)
set_option maxRecDepth 100000 in
theorem wc_6 : ai_oi ai_m6 ≠ 99 → ai_cw ai_m6 ∈ lw_tbl := fun _ => ai_up2 (List.mem_of_getElem? (i := 103) rfl)
set_option maxRecDepth 100000 in
theorem wc_7 : ai_oi ai_m7 ≠ 99 → ai_cw ai_m7 ∈ lw_tbl := fun _ => ai_up2 (List.mem_of_getElem? (i := 119) rfl)
set_option maxRecDepth 100000 in
theorem wc_8 : ai_oi ai_m8 ≠ 99 → ai_cw ai_m8 ∈ lw_tbl := fun _ => ai_up2 (List.mem_of_getElem? (i := 123) rfl)
set_option maxRecDepth 100000 in
theorem wc_9 : ai_oi ai_m9 ≠ 99 → ai_cw ai_m9 ∈ lw_tbl := fun _ => ai_up2 (List.mem_of_getElem? (i := 127) rfl)
set_option maxRecDepth 100000 in
theorem wc_10 : ai_oi ai_m10 ≠ 99 → ai_cw ai_m10 ∈ lw_tbl := fun _ => ai_up2 (List.mem_of_getElem? (i := 140) rfl)
set_option maxRecDepth 100000 in
theorem wc_11 : ai_oi ai_m11 ≠ 99 → ai_cw ai_m11 ∈ lw_tbl := fun _ => ai_up3 (List.mem_of_getElem? (i := 3) rfl)
set_option maxRecDepth 100000 in
theorem wc_12 : ai_oi ai_m12 ≠ 99 → ai_cw ai_m12 ∈ lw_tbl := fun _ => ai_up3 (List.mem_of_getElem? (i := 15) rfl)
set_option maxRecDepth 100000 in
theorem wc_13 : ai_oi ai_m13 ≠ 99 → ai_cw ai_m13 ∈ lw_tbl := fun _ => ai_up3 (List.mem_of_getElem? (i := 76) rfl)
set_option maxRecDepth 100000 in
theorem wc_14 : ai_oi ai_m14 ≠ 99 → ai_cw ai_m14 ∈ lw_tbl := fun _ => ai_up4 (List.mem_of_getElem? (i := 37) rfl)
set_option maxRecDepth 100000 in
theorem wc_15 : ai_oi ai_m15 ≠ 99 → ai_cw ai_m15 ∈ lw_tbl := fun _ => ai_up4 (List.mem_of_getElem? (i := 67) rfl)
set_option maxRecDepth 100000 in
theorem wc_16 : ai_oi ai_m16 ≠ 99 → ai_cw ai_m16 ∈ lw_tbl := fun _ => ai_up1 (List.mem_of_getElem? (i := 50) rfl)
set_option maxRecDepth 100000 in
theorem wc_17 : ai_oi ai_m17 ≠ 99 → ai_cw ai_m17 ∈ lw_tbl := fun _ => ai_up2 (List.mem_of_getElem? (i := 79) rfl)
set_option maxRecDepth 100000 in
theorem wc_18 : ai_oi ai_m18 ≠ 99 → ai_cw ai_m18 ∈ lw_tbl := fun _ => ai_up2 (List.mem_of_getElem? (i := 82) rfl)
set_option maxRecDepth 100000 in
theorem wc_19 : ai_oi ai_m19 ≠ 99 → ai_cw ai_m19 ∈ lw_tbl := fun _ => ai_up3 (List.mem_of_getElem? (i := 7) rfl)
set_option maxRecDepth 100000 in
theorem wc_20 : ai_oi ai_m20 ≠ 99 → ai_cw ai_m20 ∈ lw_tbl := fun _ => ai_up3 (List.mem_of_getElem? (i := 11) rfl)
set_option maxRecDepth 100000 in
theorem wc_21 : ai_oi ai_m21 ≠ 99 → ai_cw ai_m21 ∈ lw_tbl := fun _ => ai_up4 (List.mem_of_getElem? (i := 60) rfl)
set_option maxRecDepth 100000 in
theorem wc_22 : ai_oi ai_m22 ≠ 99 → ai_cw ai_m22 ∈ lw_tbl := fun _ => ai_up1 (List.mem_of_getElem? (i := 137) rfl)
set_option maxRecDepth 100000 in
theorem wc_23 : ai_oi ai_m23 ≠ 99 → ai_cw ai_m23 ∈ lw_tbl := fun _ => ai_up2 (List.mem_of_getElem? (i := 131) rfl)
set_option maxRecDepth 100000 in
theorem wc_24 : ai_oi ai_m24 ≠ 99 → ai_cw ai_m24 ∈ lw_tbl := fun _ => ai_up3 (List.mem_of_getElem? (i := 37) rfl)
set_option maxRecDepth 100000 in
theorem wc_25 : ai_oi ai_m25 ≠ 99 → ai_cw ai_m25 ∈ lw_tbl := fun _ => ai_up3 (List.mem_of_getElem? (i := 81) rfl)
set_option maxRecDepth 100000 in
theorem wc_26 : ai_oi ai_m26 ≠ 99 → ai_cw ai_m26 ∈ lw_tbl := fun _ => ai_up3 (List.mem_of_getElem? (i := 85) rfl)
set_option maxRecDepth 100000 in
theorem wc_27 : ai_oi ai_m27 ≠ 99 → ai_cw ai_m27 ∈ lw_tbl := fun _ => ai_up3 (List.mem_of_getElem? (i := 174) rfl)
set_option maxRecDepth 100000 in
theorem wc_28 : ai_oi ai_m28 ≠ 99 → ai_cw ai_m28 ∈ lw_tbl := fun _ => ai_up3 (List.mem_of_getElem? (i := 186) rfl)
set_option maxRecDepth 100000 in
theorem wc_29 : ai_oi ai_m29 ≠ 99 → ai_cw ai_m29 ∈ lw_tbl := fun _ => ai_up3 (List.mem_of_getElem? (i := 191) rfl)
set_option maxRecDepth 100000 in
theorem wc_30 : ai_oi ai_m30 ≠ 99 → ai_cw ai_m30 ∈ lw_tbl := fun _ => ai_up3 (List.mem_of_getElem? (i := 195) rfl)
set_option maxRecDepth 100000 in
theorem wc_31 : ai_oi ai_m31 ≠ 99 → ai_cw ai_m31 ∈ lw_tbl := fun _ => ai_up3 (List.mem_of_getElem? (i := 209) rfl)
set_option maxRecDepth 100000 in
theorem wc_32 : ai_oi ai_m32 ≠ 99 → ai_cw ai_m32 ∈ lw_tbl := fun _ => ai_up1 (List.mem_of_getElem? (i := 217) rfl)
set_option maxRecDepth 100000 in
theorem wc_33 : ai_oi ai_m33 ≠ 99 → ai_cw ai_m33 ∈ lw_tbl := fun _ => ai_up3 (List.mem_of_getElem? (i := 213) rfl)
set_option maxRecDepth 100000 in
theorem wc_34 : ai_oi ai_m34 ≠ 99 → ai_cw ai_m34 ∈ lw_tbl := fun _ => ai_up3 (List.mem_of_getElem? (i := 217) rfl)
set_option maxRecDepth 100000 in
theorem wc_35 : ai_oi ai_m35 ≠ 99 → ai_cw ai_m35 ∈ lw_tbl := fun _ => ai_up3 (List.mem_of_getElem? (i := 223) rfl)
set_option maxRecDepth 100000 in
theorem wc_36 : ai_oi ai_m36 ≠ 99 → ai_cw ai_m36 ∈ lw_tbl := fun _ => ai_up3 (List.mem_of_getElem? (i := 227) rfl)
set_option maxRecDepth 100000 in
theorem wc_37 : ai_oi ai_m37 ≠ 99 → ai_cw ai_m37 ∈ lw_tbl := fun _ => ai_up3 (List.mem_of_getElem? (i := 231) rfl)
set_option maxRecDepth 100000 in
theorem wc_38 : ai_oi ai_m38 ≠ 99 → ai_cw ai_m38 ∈ lw_tbl := fun _ => ai_up3 (List.mem_of_getElem? (i := 235) rfl)
set_option maxRecDepth 100000 in
theorem wc_39 : ai_oi ai_m39 ≠ 99 → ai_cw ai_m39 ∈ lw_tbl := fun _ => ai_up3 (List.mem_of_getElem? (i := 239) rfl)
set_option maxRecDepth 100000 in
theorem wc_40 : ai_oi ai_m40 ≠ 99 → ai_cw ai_m40 ∈ lw_tbl := fun _ => ai_up4 (List.mem_of_getElem? (i := 3) rfl)
set_option maxRecDepth 100000 in
theorem wc_41 : ai_oi ai_m41 ≠ 99 → ai_cw ai_m41 ∈ lw_tbl := fun _ => ai_up4 (List.mem_of_getElem? (i := 8) rfl)
set_option maxRecDepth 100000 in
theorem wc_42 : ai_oi ai_m42 ≠ 99 → ai_cw ai_m42 ∈ lw_tbl := fun _ => ai_up4 (List.mem_of_getElem? (i := 12) rfl)
set_option maxRecDepth 100000 in
theorem wc_43 : ai_oi ai_m43 ≠ 99 → ai_cw ai_m43 ∈ lw_tbl := fun _ => ai_up4 (List.mem_of_getElem? (i := 16) rfl)
set_option maxRecDepth 100000 in
theorem wc_44 : ai_oi ai_m44 ≠ 99 → ai_cw ai_m44 ∈ lw_tbl := fun _ => ai_up4 (List.mem_of_getElem? (i := 20) rfl)
set_option maxRecDepth 100000 in
theorem wc_45 : ai_oi ai_m45 ≠ 99 → ai_cw ai_m45 ∈ lw_tbl := fun _ => ai_up4 (List.mem_of_getElem? (i := 24) rfl)
set_option maxRecDepth 100000 in
theorem wc_46 : ai_oi ai_m46 ≠ 99 → ai_cw ai_m46 ∈ lw_tbl := fun _ => ai_up4 (List.mem_of_getElem? (i := 29) rfl)
set_option maxRecDepth 100000 in
theorem wc_47 : ai_oi ai_m47 ≠ 99 → ai_cw ai_m47 ∈ lw_tbl := fun _ => ai_up1 (List.mem_of_getElem? (i := 66) rfl)
set_option maxRecDepth 100000 in
theorem wc_48 : ai_oi ai_m48 ≠ 99 → ai_cw ai_m48 ∈ lw_tbl := fun _ => ai_up2 (List.mem_of_getElem? (i := 111) rfl)
set_option maxRecDepth 100000 in
theorem wc_49 : ai_oi ai_m49 ≠ 99 → ai_cw ai_m49 ∈ lw_tbl := fun _ => ai_up2 (List.mem_of_getElem? (i := 115) rfl)
set_option maxRecDepth 100000 in
theorem wc_50 : ai_oi ai_m50 ≠ 99 → ai_cw ai_m50 ∈ lw_tbl := fun _ => ai_up3 (List.mem_of_getElem? (i := 62) rfl)
set_option maxRecDepth 100000 in
theorem wc_51 : ai_oi ai_m51 ≠ 99 → ai_cw ai_m51 ∈ lw_tbl := fun _ => ai_up3 (List.mem_of_getElem? (i := 178) rfl)
set_option maxRecDepth 100000 in
theorem wc_52 : ai_oi ai_m52 ≠ 99 → ai_cw ai_m52 ∈ lw_tbl := fun _ => ai_up3 (List.mem_of_getElem? (i := 204) rfl)
set_option maxRecDepth 100000 in
theorem wc_53 : ai_oi ai_m53 ≠ 99 → ai_cw ai_m53 ∈ lw_tbl := fun _ => ai_up1 (List.mem_of_getElem? (i := 118) rfl)
set_option maxRecDepth 100000 in
theorem wc_54 : ai_oi ai_m54 ≠ 99 → ai_cw ai_m54 ∈ lw_tbl := fun _ => ai_up2 (List.mem_of_getElem? (i := 107) rfl)
set_option maxRecDepth 100000 in
theorem wc_55 : ai_oi ai_m55 ≠ 99 → ai_cw ai_m55 ∈ lw_tbl := fun _ => ai_up3 (List.mem_of_getElem? (i := 32) rfl)
set_option maxRecDepth 100000 in
theorem wc_56 : ai_oi ai_m56 ≠ 99 → ai_cw ai_m56 ∈ lw_tbl := fun _ => ai_up3 (List.mem_of_getElem? (i := 57) rfl)
set_option maxRecDepth 100000 in
theorem wc_57 : ai_oi ai_m57 ≠ 99 → ai_cw ai_m57 ∈ lw_tbl := fun _ => ai_up3 (List.mem_of_getElem? (i := 89) rfl)
set_option maxRecDepth 100000 in
theorem wc_58 : ai_oi ai_m58 ≠ 99 → ai_cw ai_m58 ∈ lw_tbl := fun _ => ai_up3 (List.mem_of_getElem? (i := 95) rfl)
set_option maxRecDepth 100000 in
theorem wc_59 : ai_oi ai_m59 ≠ 99 → ai_cw ai_m59 ∈ lw_tbl := fun _ => ai_up3 (List.mem_of_getElem? (i := 200) rfl)
set_option maxRecDepth 100000 in
theorem wc_60 : ai_oi ai_m60 ≠ 99 → ai_cw ai_m60 ∈ lw_tbl := fun _ => ai_up1 (List.mem_of_getElem? (i := 189) rfl)
set_option maxRecDepth 100000 in
theorem wc_61 : ai_oi ai_m61 ≠ 99 → ai_cw ai_m61 ∈ lw_tbl := fun _ => ai_up3 (List.mem_of_getElem? (i := 134) rfl)
set_option maxRecDepth 100000 in
theorem wc_62 : ai_oi ai_m62 ≠ 99 → ai_cw ai_m62 ∈ lw_tbl := fun _ => ai_up3 (List.mem_of_getElem? (i := 143) rfl)
set_option maxRecDepth 100000 in
theorem wc_63 : ai_oi ai_m63 ≠ 99 → ai_cw ai_m63 ∈ lw_tbl := fun _ => ai_up3 (List.mem_of_getElem? (i := 149) rfl)
set_option maxRecDepth 100000 in
theorem wc_64 : ai_oi ai_m64 ≠ 99 → ai_cw ai_m64 ∈ lw_tbl := fun _ => ai_up3 (List.mem_of_getElem? (i := 154) rfl)
set_option maxRecDepth 100000 in
theorem wc_65 : ai_oi ai_m65 ≠ 99 → ai_cw ai_m65 ∈ lw_tbl := fun _ => ai_up3 (List.mem_of_getElem? (i := 159) rfl)
set_option maxRecDepth 100000 in
theorem wc_66 : ai_oi ai_m66 ≠ 99 → ai_cw ai_m66 ∈ lw_tbl := fun _ => ai_up3 (List.mem_of_getElem? (i := 164) rfl)
set_option maxRecDepth 100000 in
theorem wc_67 : ai_oi ai_m67 ≠ 99 → ai_cw ai_m67 ∈ lw_tbl := fun _ => ai_up3 (List.mem_of_getElem? (i := 168) rfl)
set_option maxRecDepth 100000 in
theorem wc_68 : ai_oi ai_m68 ≠ 99 → ai_cw ai_m68 ∈ lw_tbl := fun _ => ai_up1 (List.mem_of_getElem? (i := 145) rfl)
set_option maxRecDepth 100000 in
theorem wc_69 : ai_oi ai_m69 ≠ 99 → ai_cw ai_m69 ∈ lw_tbl := fun _ => ai_up3 (List.mem_of_getElem? (i := 41) rfl)
set_option maxRecDepth 100000 in
theorem wc_70 : ai_oi ai_m70 ≠ 99 → ai_cw ai_m70 ∈ lw_tbl := fun _ => ai_up3 (List.mem_of_getElem? (i := 48) rfl)
set_option maxRecDepth 100000 in
theorem wc_71 : ai_oi ai_m71 ≠ 99 → ai_cw ai_m71 ∈ lw_tbl := fun _ => ai_up3 (List.mem_of_getElem? (i := 53) rfl)
set_option maxRecDepth 100000 in
theorem wc_72 : ai_oi ai_m72 ≠ 99 → ai_cw ai_m72 ∈ lw_tbl := fun _ => ai_up1 (List.mem_of_getElem? (i := 162) rfl)
set_option maxRecDepth 100000 in
theorem wc_73 : ai_oi ai_m73 ≠ 99 → ai_cw ai_m73 ∈ lw_tbl := fun _ => ai_up3 (List.mem_of_getElem? (i := 99) rfl)
set_option maxRecDepth 100000 in
theorem wc_74 : ai_oi ai_m74 ≠ 99 → ai_cw ai_m74 ∈ lw_tbl := fun _ => ai_up3 (List.mem_of_getElem? (i := 104) rfl)
set_option maxRecDepth 100000 in
theorem wc_75 : ai_oi ai_m75 ≠ 99 → ai_cw ai_m75 ∈ lw_tbl := fun _ => ai_up3 (List.mem_of_getElem? (i := 113) rfl)
set_option maxRecDepth 100000 in
theorem wc_76 : ai_oi ai_m76 ≠ 99 → ai_cw ai_m76 ∈ lw_tbl := fun _ => ai_up3 (List.mem_of_getElem? (i := 123) rfl)
set_option maxRecDepth 100000 in
theorem wc_77 : ai_oi ai_m77 ≠ 99 → ai_cw ai_m77 ∈ lw_tbl := fun _ => ai_up3 (List.mem_of_getElem? (i := 182) rfl)
set_option maxRecDepth 100000 in
theorem wc_78 : ai_oi ai_m78 ≠ 99 → ai_cw ai_m78 ∈ lw_tbl := fun _ => ai_up1 (List.mem_of_getElem? (i := 33) rfl)
set_option maxRecDepth 100000 in
theorem wc_79 : ai_oi ai_m79 ≠ 99 → ai_cw ai_m79 ∈ lw_tbl := fun _ => ai_up2 (List.mem_of_getElem? (i := 212) rfl)
set_option maxRecDepth 100000 in
theorem wc_80 : ai_oi ai_m80 ≠ 99 → ai_cw ai_m80 ∈ lw_tbl := fun _ => ai_up2 (List.mem_of_getElem? (i := 216) rfl)
set_option maxRecDepth 100000 in
theorem wc_81 : ai_oi ai_m81 ≠ 99 → ai_cw ai_m81 ∈ lw_tbl := fun _ => ai_up2 (List.mem_of_getElem? (i := 236) rfl)
set_option maxRecDepth 100000 in
theorem wc_82 : ai_oi ai_m82 ≠ 99 → ai_cw ai_m82 ∈ lw_tbl := fun _ => ai_up3 (List.mem_of_getElem? (i := 19) rfl)
set_option maxRecDepth 100000 in
theorem wc_83 : ai_oi ai_m83 ≠ 99 → ai_cw ai_m83 ∈ lw_tbl := fun _ => ai_up3 (List.mem_of_getElem? (i := 108) rfl)
set_option maxRecDepth 100000 in
theorem wc_84 : ai_oi ai_m84 ≠ 99 → ai_cw ai_m84 ∈ lw_tbl := fun _ => ai_up1 (List.mem_of_getElem? (i := 72) rfl)
set_option maxRecDepth 100000 in
theorem wc_85 : ai_oi ai_m85 ≠ 99 → ai_cw ai_m85 ∈ lw_tbl := fun _ => ai_up3 (List.mem_of_getElem? (i := 23) rfl)
set_option maxRecDepth 100000 in
theorem wc_86 : ai_oi ai_m86 ≠ 99 → ai_cw ai_m86 ∈ lw_tbl := fun _ => ai_up3 (List.mem_of_getElem? (i := 27) rfl)
set_option maxRecDepth 100000 in
theorem wc_87 : ai_oi ai_m87 ≠ 99 → ai_cw ai_m87 ∈ lw_tbl := fun _ => ai_up3 (List.mem_of_getElem? (i := 66) rfl)
set_option maxRecDepth 100000 in
theorem wc_88 : ai_oi ai_m88 ≠ 99 → ai_cw ai_m88 ∈ lw_tbl := fun _ => ai_up3 (List.mem_of_getElem? (i := 119) rfl)
set_option maxRecDepth 100000 in
theorem wc_89 : ai_oi ai_m89 ≠ 99 → ai_cw ai_m89 ∈ lw_tbl := fun _ => ai_up3 (List.mem_of_getElem? (i := 127) rfl)
set_option maxRecDepth 100000 in
theorem wc_90 : ai_oi ai_m90 ≠ 99 → ai_cw ai_m90 ∈ lw_tbl := fun _ => ai_up3 (List.mem_of_getElem? (i := 138) rfl)
set_option maxRecDepth 100000 in
theorem wc_91 : ai_oi ai_m91 ≠ 99 → ai_cw ai_m91 ∈ lw_tbl := fun _ => ai_up2 (List.mem_of_getElem? (i := 134) rfl)
set_option maxRecDepth 100000 in
theorem wc_92 : ai_oi ai_m92 ≠ 99 → ai_cw ai_m92 ∈ lw_tbl := fun _ => ai_up2 (List.mem_of_getElem? (i := 239) rfl)
set_option maxRecDepth 100000 in
theorem wc_93 : ai_oi ai_m93 ≠ 99 → ai_cw ai_m93 ∈ lw_tbl := fun _ => ai_up3 (List.mem_of_getElem? (i := 72) rfl)
set_option maxRecDepth 100000 in
theorem wc_94 : ai_oi ai_m94 ≠ 99 → ai_cw ai_m94 ∈ lw_tbl := fun _ => ai_up4 (List.mem_of_getElem? (i := 32) rfl)
set_option maxRecDepth 100000 in
theorem wc_95 : ai_oi ai_m95 ≠ 99 → ai_cw ai_m95 ∈ lw_tbl := fun _ => ai_up4 (List.mem_of_getElem? (i := 63) rfl)
set_option maxRecDepth 100000 in
theorem wc_96 : ai_oi ai_m96 ≠ 99 → ai_cw ai_m96 ∈ lw_tbl := fun _ => ai_up4 (List.mem_of_getElem? (i := 73) rfl)
set_option maxRecDepth 100000 in
theorem wc_97 : ai_oi ai_m97 ≠ 99 → ai_cw ai_m97 ∈ lw_tbl := fun _ => ai_up4 (List.mem_of_getElem? (i := 160) rfl)
set_option maxRecDepth 100000 in
theorem wc_98 : ai_oi ai_m98 ≠ 99 → ai_cw ai_m98 ∈ lw_tbl := fun _ => ai_up4 (List.mem_of_getElem? (i := 164) rfl)
set_option maxRecDepth 100000 in
theorem wc_99 : ai_oi ai_m99 ≠ 99 → ai_cw ai_m99 ∈ lw_tbl := fun _ => ai_up4 (List.mem_of_getElem? (i := 168) rfl)
set_option maxRecDepth 100000 in
theorem wc_100 : ai_oi ai_m100 ≠ 99 → ai_cw ai_m100 ∈ lw_tbl := fun _ => ai_up4 (List.mem_of_getElem? (i := 172) rfl)
set_option maxRecDepth 100000 in
theorem wc_101 : ai_oi ai_m101 ≠ 99 → ai_cw ai_m101 ∈ lw_tbl := fun _ => ai_up4 (List.mem_of_getElem? (i := 175) rfl)
set_option maxRecDepth 100000 in
theorem wc_102 : ai_oi ai_m102 ≠ 99 → ai_cw ai_m102 ∈ lw_tbl := fun _ => ai_up4 (List.mem_of_getElem? (i := 180) rfl)
set_option maxRecDepth 100000 in
theorem wc_103 : ai_oi ai_m103 ≠ 99 → ai_cw ai_m103 ∈ lw_tbl := fun _ => ai_up4 (List.mem_of_getElem? (i := 184) rfl)
set_option maxRecDepth 100000 in
theorem wc_104 : ai_oi ai_m104 ≠ 99 → ai_cw ai_m104 ∈ lw_tbl := fun _ => ai_up4 (List.mem_of_getElem? (i := 188) rfl)
set_option maxRecDepth 100000 in
theorem wc_105 : ai_oi ai_m105 ≠ 99 → ai_cw ai_m105 ∈ lw_tbl := fun _ => ai_up4 (List.mem_of_getElem? (i := 192) rfl)
set_option maxRecDepth 100000 in
theorem wc_106 : ai_oi ai_m106 ≠ 99 → ai_cw ai_m106 ∈ lw_tbl := fun _ => ai_up4 (List.mem_of_getElem? (i := 196) rfl)
set_option maxRecDepth 100000 in
theorem wc_107 : ai_oi ai_m107 ≠ 99 → ai_cw ai_m107 ∈ lw_tbl := fun _ => ai_up4 (List.mem_of_getElem? (i := 200) rfl)
set_option maxRecDepth 100000 in
theorem wc_108 : ai_oi ai_m108 ≠ 99 → ai_cw ai_m108 ∈ lw_tbl := fun _ => ai_up4 (List.mem_of_getElem? (i := 204) rfl)
set_option maxRecDepth 100000 in
theorem wc_109 : ai_oi ai_m109 ≠ 99 → ai_cw ai_m109 ∈ lw_tbl := fun _ => ai_up4 (List.mem_of_getElem? (i := 208) rfl)
set_option maxRecDepth 100000 in
theorem wc_110 : ai_oi ai_m110 ≠ 99 → ai_cw ai_m110 ∈ lw_tbl := fun _ => ai_up4 (List.mem_of_getElem? (i := 212) rfl)
set_option maxRecDepth 100000 in
theorem wc_111 : ai_oi ai_m111 ≠ 99 → ai_cw ai_m111 ∈ lw_tbl := fun _ => ai_up4 (List.mem_of_getElem? (i := 216) rfl)
set_option maxRecDepth 100000 in
theorem wc_112 : ai_oi ai_m112 ≠ 99 → ai_cw ai_m112 ∈ lw_tbl := fun _ => ai_up4 (List.mem_of_getElem? (i := 220) rfl)
set_option maxRecDepth 100000 in
theorem wc_113 : ai_oi ai_m113 ≠ 99 → ai_cw ai_m113 ∈ lw_tbl := fun _ => ai_up4 (List.mem_of_getElem? (i := 224) rfl)
set_option maxRecDepth 100000 in
theorem wc_114 : ai_oi ai_m114 ≠ 99 → ai_cw ai_m114 ∈ lw_tbl := fun _ => ai_up4 (List.mem_of_getElem? (i := 228) rfl)
set_option maxRecDepth 100000 in
theorem wc_115 : ai_oi ai_m115 ≠ 99 → ai_cw ai_m115 ∈ lw_tbl := fun _ => ai_up4 (List.mem_of_getElem? (i := 232) rfl)
set_option maxRecDepth 100000 in
theorem wc_116 : ai_oi ai_m116 ≠ 99 → ai_cw ai_m116 ∈ lw_tbl := fun _ => ai_up4 (List.mem_of_getElem? (i := 236) rfl)
set_option maxRecDepth 100000 in
theorem wc_117 : ai_oi ai_m117 ≠ 99 → ai_cw ai_m117 ∈ lw_tbl := fun _ => ai_up5 (List.mem_of_getElem? (i := 0) rfl)
set_option maxRecDepth 100000 in
theorem wc_118 : ai_oi ai_m118 ≠ 99 → ai_cw ai_m118 ∈ lw_tbl := fun _ => ai_up5 (List.mem_of_getElem? (i := 4) rfl)
set_option maxRecDepth 100000 in
theorem wc_119 : ai_oi ai_m119 ≠ 99 → ai_cw ai_m119 ∈ lw_tbl := fun _ => ai_up5 (List.mem_of_getElem? (i := 8) rfl)
set_option maxRecDepth 100000 in
theorem wc_120 : ai_oi ai_m120 ≠ 99 → ai_cw ai_m120 ∈ lw_tbl := fun _ => ai_up5 (List.mem_of_getElem? (i := 12) rfl)
set_option maxRecDepth 100000 in
theorem wc_121 : ai_oi ai_m121 ≠ 99 → ai_cw ai_m121 ∈ lw_tbl := fun _ => ai_up5 (List.mem_of_getElem? (i := 16) rfl)
set_option maxRecDepth 100000 in
theorem wc_122 : ai_oi ai_m122 ≠ 99 → ai_cw ai_m122 ∈ lw_tbl := fun _ => ai_up5 (List.mem_of_getElem? (i := 20) rfl)
set_option maxRecDepth 100000 in
theorem wc_123 : ai_oi ai_m123 ≠ 99 → ai_cw ai_m123 ∈ lw_tbl := fun _ => ai_up5 (List.mem_of_getElem? (i := 24) rfl)
set_option maxRecDepth 100000 in
theorem wc_124 : ai_oi ai_m124 ≠ 99 → ai_cw ai_m124 ∈ lw_tbl := fun _ => ai_up5 (List.mem_of_getElem? (i := 28) rfl)
set_option maxRecDepth 100000 in
theorem wc_125 : ai_oi ai_m125 ≠ 99 → ai_cw ai_m125 ∈ lw_tbl := fun _ => ai_up5 (List.mem_of_getElem? (i := 32) rfl)
set_option maxRecDepth 100000 in
theorem wc_126 : ai_oi ai_m126 ≠ 99 → ai_cw ai_m126 ∈ lw_tbl := fun _ => ai_up5 (List.mem_of_getElem? (i := 36) rfl)
set_option maxRecDepth 100000 in
theorem wc_127 : ai_oi ai_m127 ≠ 99 → ai_cw ai_m127 ∈ lw_tbl := fun _ => ai_up5 (List.mem_of_getElem? (i := 40) rfl)
set_option maxRecDepth 100000 in
theorem wc_128 : ai_oi ai_m128 ≠ 99 → ai_cw ai_m128 ∈ lw_tbl := fun _ => ai_up5 (List.mem_of_getElem? (i := 44) rfl)
set_option maxRecDepth 100000 in
theorem wc_129 : ai_oi ai_m129 ≠ 99 → ai_cw ai_m129 ∈ lw_tbl := fun _ => ai_up5 (List.mem_of_getElem? (i := 48) rfl)
set_option maxRecDepth 100000 in
theorem wc_130 : ai_oi ai_m130 ≠ 99 → ai_cw ai_m130 ∈ lw_tbl := fun _ => ai_up5 (List.mem_of_getElem? (i := 52) rfl)
set_option maxRecDepth 100000 in
theorem wc_131 : ai_oi ai_m131 ≠ 99 → ai_cw ai_m131 ∈ lw_tbl := fun _ => ai_up5 (List.mem_of_getElem? (i := 56) rfl)
set_option maxRecDepth 100000 in
theorem wc_132 : ai_oi ai_m132 ≠ 99 → ai_cw ai_m132 ∈ lw_tbl := fun _ => ai_up5 (List.mem_of_getElem? (i := 60) rfl)
set_option maxRecDepth 100000 in
theorem wc_133 : ai_oi ai_m133 ≠ 99 → ai_cw ai_m133 ∈ lw_tbl := fun _ => ai_up5 (List.mem_of_getElem? (i := 64) rfl)
set_option maxRecDepth 100000 in
theorem wc_134 : ai_oi ai_m134 ≠ 99 → ai_cw ai_m134 ∈ lw_tbl := fun _ => ai_up5 (List.mem_of_getElem? (i := 68) rfl)
set_option maxRecDepth 100000 in
theorem wc_135 : ai_oi ai_m135 ≠ 99 → ai_cw ai_m135 ∈ lw_tbl := fun _ => ai_up5 (List.mem_of_getElem? (i := 72) rfl)
set_option maxRecDepth 100000 in
theorem wc_136 : ai_oi ai_m136 ≠ 99 → ai_cw ai_m136 ∈ lw_tbl := fun _ => ai_up5 (List.mem_of_getElem? (i := 76) rfl)
set_option maxRecDepth 100000 in
theorem wc_137 : ai_oi ai_m137 ≠ 99 → ai_cw ai_m137 ∈ lw_tbl := fun _ => ai_up5 (List.mem_of_getElem? (i := 80) rfl)
set_option maxRecDepth 100000 in
theorem wc_138 : ai_oi ai_m138 ≠ 99 → ai_cw ai_m138 ∈ lw_tbl := fun _ => ai_up5 (List.mem_of_getElem? (i := 84) rfl)
set_option maxRecDepth 100000 in
theorem wc_139 : ai_oi ai_m139 ≠ 99 → ai_cw ai_m139 ∈ lw_tbl := fun _ => ai_up5 (List.mem_of_getElem? (i := 88) rfl)
set_option maxRecDepth 100000 in
theorem wc_140 : ai_oi ai_m140 ≠ 99 → ai_cw ai_m140 ∈ lw_tbl := fun _ => ai_up5 (List.mem_of_getElem? (i := 92) rfl)
set_option maxRecDepth 100000 in
theorem wc_141 : ai_oi ai_m141 ≠ 99 → ai_cw ai_m141 ∈ lw_tbl := fun _ => ai_up5 (List.mem_of_getElem? (i := 96) rfl)
set_option maxRecDepth 100000 in
theorem wc_142 : ai_oi ai_m142 ≠ 99 → ai_cw ai_m142 ∈ lw_tbl := fun _ => ai_up5 (List.mem_of_getElem? (i := 99) rfl)
set_option maxRecDepth 100000 in
theorem wc_143 : ai_oi ai_m143 ≠ 99 → ai_cw ai_m143 ∈ lw_tbl := fun _ => ai_up5 (List.mem_of_getElem? (i := 103) rfl)
set_option maxRecDepth 100000 in
theorem wc_144 : ai_oi ai_m144 ≠ 99 → ai_cw ai_m144 ∈ lw_tbl := fun _ => ai_up5 (List.mem_of_getElem? (i := 107) rfl)
set_option maxRecDepth 100000 in
theorem wc_145 : ai_oi ai_m145 ≠ 99 → ai_cw ai_m145 ∈ lw_tbl := fun _ => ai_up5 (List.mem_of_getElem? (i := 111) rfl)
set_option maxRecDepth 100000 in
theorem wc_146 : ai_oi ai_m146 ≠ 99 → ai_cw ai_m146 ∈ lw_tbl := fun _ => ai_up5 (List.mem_of_getElem? (i := 115) rfl)
set_option maxRecDepth 100000 in
theorem wc_147 : ai_oi ai_m147 ≠ 99 → ai_cw ai_m147 ∈ lw_tbl := fun _ => ai_up5 (List.mem_of_getElem? (i := 119) rfl)
set_option maxRecDepth 100000 in
theorem wc_148 : ai_oi ai_m148 ≠ 99 → ai_cw ai_m148 ∈ lw_tbl := fun _ => ai_up5 (List.mem_of_getElem? (i := 123) rfl)
set_option maxRecDepth 100000 in
theorem wc_149 : ai_oi ai_m149 ≠ 99 → ai_cw ai_m149 ∈ lw_tbl := fun _ => ai_up5 (List.mem_of_getElem? (i := 127) rfl)
set_option maxRecDepth 100000 in
theorem wc_150 : ai_oi ai_m150 ≠ 99 → ai_cw ai_m150 ∈ lw_tbl := fun _ => ai_up5 (List.mem_of_getElem? (i := 131) rfl)
set_option maxRecDepth 100000 in
theorem wc_151 : ai_oi ai_m151 ≠ 99 → ai_cw ai_m151 ∈ lw_tbl := fun _ => ai_up5 (List.mem_of_getElem? (i := 135) rfl)
set_option maxRecDepth 100000 in
theorem wc_152 : ai_oi ai_m152 ≠ 99 → ai_cw ai_m152 ∈ lw_tbl := fun _ => ai_up5 (List.mem_of_getElem? (i := 139) rfl)
set_option maxRecDepth 100000 in
theorem wc_153 : ai_oi ai_m153 ≠ 99 → ai_cw ai_m153 ∈ lw_tbl := fun _ => ai_up5 (List.mem_of_getElem? (i := 142) rfl)
set_option maxRecDepth 100000 in
theorem wc_154 : ai_oi ai_m154 ≠ 99 → ai_cw ai_m154 ∈ lw_tbl := fun _ => ai_up5 (List.mem_of_getElem? (i := 146) rfl)
set_option maxRecDepth 100000 in
theorem wc_155 : ai_oi ai_m155 ≠ 99 → ai_cw ai_m155 ∈ lw_tbl := fun _ => ai_up5 (List.mem_of_getElem? (i := 150) rfl)
set_option maxRecDepth 100000 in
theorem wc_156 : ai_oi ai_m156 ≠ 99 → ai_cw ai_m156 ∈ lw_tbl := fun _ => ai_up5 (List.mem_of_getElem? (i := 154) rfl)
set_option maxRecDepth 100000 in
theorem wc_157 : ai_oi ai_m157 ≠ 99 → ai_cw ai_m157 ∈ lw_tbl := fun _ => ai_up5 (List.mem_of_getElem? (i := 158) rfl)
set_option maxRecDepth 100000 in
theorem wc_158 : ai_oi ai_m158 ≠ 99 → ai_cw ai_m158 ∈ lw_tbl := fun _ => ai_up3 (List.mem_of_getElem? (i := 44) rfl)
theorem wc_159 : ai_oi ai_m159 ≠ 99 → ai_cw ai_m159 ∈ lw_tbl := fun h => absurd rfl h
set_option maxRecDepth 100000 in
theorem ai_cws : ∀ M ∈ ai_MT, ai_oi M ≠ 99 → ai_cw M ∈ lw_tbl := List.forall_mem_cons.mpr ⟨wc_0, List.forall_mem_cons.mpr ⟨wc_1, List.forall_mem_cons.mpr ⟨wc_2, List.forall_mem_cons.mpr ⟨wc_3, List.forall_mem_cons.mpr ⟨wc_4, List.forall_mem_cons.mpr ⟨wc_5, List.forall_mem_cons.mpr ⟨wc_6, List.forall_mem_cons.mpr ⟨wc_7, List.forall_mem_cons.mpr ⟨wc_8, List.forall_mem_cons.mpr ⟨wc_9, List.forall_mem_cons.mpr ⟨wc_10, List.forall_mem_cons.mpr ⟨wc_11, List.forall_mem_cons.mpr ⟨wc_12, List.forall_mem_cons.mpr ⟨wc_13, List.forall_mem_cons.mpr ⟨wc_14, List.forall_mem_cons.mpr ⟨wc_15, List.forall_mem_cons.mpr ⟨wc_16, List.forall_mem_cons.mpr ⟨wc_17, List.forall_mem_cons.mpr ⟨wc_18, List.forall_mem_cons.mpr ⟨wc_19, List.forall_mem_cons.mpr ⟨wc_20, List.forall_mem_cons.mpr ⟨wc_21, List.forall_mem_cons.mpr ⟨wc_22, List.forall_mem_cons.mpr ⟨wc_23, List.forall_mem_cons.mpr ⟨wc_24, List.forall_mem_cons.mpr ⟨wc_25, List.forall_mem_cons.mpr ⟨wc_26, List.forall_mem_cons.mpr ⟨wc_27, List.forall_mem_cons.mpr ⟨wc_28, List.forall_mem_cons.mpr ⟨wc_29, List.forall_mem_cons.mpr ⟨wc_30, List.forall_mem_cons.mpr ⟨wc_31, List.forall_mem_cons.mpr ⟨wc_32, List.forall_mem_cons.mpr ⟨wc_33, List.forall_mem_cons.mpr ⟨wc_34, List.forall_mem_cons.mpr ⟨wc_35, List.forall_mem_cons.mpr ⟨wc_36, List.forall_mem_cons.mpr ⟨wc_37, List.forall_mem_cons.mpr ⟨wc_38, List.forall_mem_cons.mpr ⟨wc_39, List.forall_mem_cons.mpr ⟨wc_40, List.forall_mem_cons.mpr ⟨wc_41, List.forall_mem_cons.mpr ⟨wc_42, List.forall_mem_cons.mpr ⟨wc_43, List.forall_mem_cons.mpr ⟨wc_44, List.forall_mem_cons.mpr ⟨wc_45, List.forall_mem_cons.mpr ⟨wc_46, List.forall_mem_cons.mpr ⟨wc_47, List.forall_mem_cons.mpr ⟨wc_48, List.forall_mem_cons.mpr ⟨wc_49, List.forall_mem_cons.mpr ⟨wc_50, List.forall_mem_cons.mpr ⟨wc_51, List.forall_mem_cons.mpr ⟨wc_52, List.forall_mem_cons.mpr ⟨wc_53, List.forall_mem_cons.mpr ⟨wc_54, List.forall_mem_cons.mpr ⟨wc_55, List.forall_mem_cons.mpr ⟨wc_56, List.forall_mem_cons.mpr ⟨wc_57, List.forall_mem_cons.mpr ⟨wc_58, List.forall_mem_cons.mpr ⟨wc_59, List.forall_mem_cons.mpr ⟨wc_60, List.forall_mem_cons.mpr ⟨wc_61, List.forall_mem_cons.mpr ⟨wc_62, List.forall_mem_cons.mpr ⟨wc_63, List.forall_mem_cons.mpr ⟨wc_64, List.forall_mem_cons.mpr ⟨wc_65, List.forall_mem_cons.mpr ⟨wc_66, List.forall_mem_cons.mpr ⟨wc_67, List.forall_mem_cons.mpr ⟨wc_68, List.forall_mem_cons.mpr ⟨wc_69, List.forall_mem_cons.mpr ⟨wc_70, List.forall_mem_cons.mpr ⟨wc_71, List.forall_mem_cons.mpr ⟨wc_72, List.forall_mem_cons.mpr ⟨wc_73, List.forall_mem_cons.mpr ⟨wc_74, List.forall_mem_cons.mpr ⟨wc_75, List.forall_mem_cons.mpr ⟨wc_76, List.forall_mem_cons.mpr ⟨wc_77, List.forall_mem_cons.mpr ⟨wc_78, List.forall_mem_cons.mpr ⟨wc_79, List.forall_mem_cons.mpr ⟨wc_80, List.forall_mem_cons.mpr ⟨wc_81, List.forall_mem_cons.mpr ⟨wc_82, List.forall_mem_cons.mpr ⟨wc_83, List.forall_mem_cons.mpr ⟨wc_84, List.forall_mem_cons.mpr ⟨wc_85, List.forall_mem_cons.mpr ⟨wc_86, List.forall_mem_cons.mpr ⟨wc_87, List.forall_mem_cons.mpr ⟨wc_88, List.forall_mem_cons.mpr ⟨wc_89, List.forall_mem_cons.mpr ⟨wc_90, List.forall_mem_cons.mpr ⟨wc_91, List.forall_mem_cons.mpr ⟨wc_92, List.forall_mem_cons.mpr ⟨wc_93, List.forall_mem_cons.mpr ⟨wc_94, List.forall_mem_cons.mpr ⟨wc_95, List.forall_mem_cons.mpr ⟨wc_96, List.forall_mem_cons.mpr ⟨wc_97, List.forall_mem_cons.mpr ⟨wc_98, List.forall_mem_cons.mpr ⟨wc_99, List.forall_mem_cons.mpr ⟨wc_100, List.forall_mem_cons.mpr ⟨wc_101, List.forall_mem_cons.mpr ⟨wc_102, List.forall_mem_cons.mpr ⟨wc_103, List.forall_mem_cons.mpr ⟨wc_104, List.forall_mem_cons.mpr ⟨wc_105, List.forall_mem_cons.mpr ⟨wc_106, List.forall_mem_cons.mpr ⟨wc_107, List.forall_mem_cons.mpr ⟨wc_108, List.forall_mem_cons.mpr ⟨wc_109, List.forall_mem_cons.mpr ⟨wc_110, List.forall_mem_cons.mpr ⟨wc_111, List.forall_mem_cons.mpr ⟨wc_112, List.forall_mem_cons.mpr ⟨wc_113, List.forall_mem_cons.mpr ⟨wc_114, List.forall_mem_cons.mpr ⟨wc_115, List.forall_mem_cons.mpr ⟨wc_116, List.forall_mem_cons.mpr ⟨wc_117, List.forall_mem_cons.mpr ⟨wc_118, List.forall_mem_cons.mpr ⟨wc_119, List.forall_mem_cons.mpr ⟨wc_120, List.forall_mem_cons.mpr ⟨wc_121, List.forall_mem_cons.mpr ⟨wc_122, List.forall_mem_cons.mpr ⟨wc_123, List.forall_mem_cons.mpr ⟨wc_124, List.forall_mem_cons.mpr ⟨wc_125, List.forall_mem_cons.mpr ⟨wc_126, List.forall_mem_cons.mpr ⟨wc_127, List.forall_mem_cons.mpr ⟨wc_128, List.forall_mem_cons.mpr ⟨wc_129, List.forall_mem_cons.mpr ⟨wc_130, List.forall_mem_cons.mpr ⟨wc_131, List.forall_mem_cons.mpr ⟨wc_132, List.forall_mem_cons.mpr ⟨wc_133, List.forall_mem_cons.mpr ⟨wc_134, List.forall_mem_cons.mpr ⟨wc_135, List.forall_mem_cons.mpr ⟨wc_136, List.forall_mem_cons.mpr ⟨wc_137, List.forall_mem_cons.mpr ⟨wc_138, List.forall_mem_cons.mpr ⟨wc_139, List.forall_mem_cons.mpr ⟨wc_140, List.forall_mem_cons.mpr ⟨wc_141, List.forall_mem_cons.mpr ⟨wc_142, List.forall_mem_cons.mpr ⟨wc_143, List.forall_mem_cons.mpr ⟨wc_144, List.forall_mem_cons.mpr ⟨wc_145, List.forall_mem_cons.mpr ⟨wc_146, List.forall_mem_cons.mpr ⟨wc_147, List.forall_mem_cons.mpr ⟨wc_148, List.forall_mem_cons.mpr ⟨wc_149, List.forall_mem_cons.mpr ⟨wc_150, List.forall_mem_cons.mpr ⟨wc_151, List.forall_mem_cons.mpr ⟨wc_152, List.forall_mem_cons.mpr ⟨wc_153, List.forall_mem_cons.mpr ⟨wc_154, List.forall_mem_cons.mpr ⟨wc_155, List.forall_mem_cons.mpr ⟨wc_156, List.forall_mem_cons.mpr ⟨wc_157, List.forall_mem_cons.mpr ⟨wc_158, List.forall_mem_cons.mpr ⟨wc_159, fun _ h => absurd h List.not_mem_nil⟩⟩⟩⟩⟩⟩⟩⟩⟩⟩⟩⟩⟩⟩⟩⟩⟩⟩⟩⟩⟩⟩⟩⟩⟩⟩⟩⟩⟩⟩⟩⟩⟩⟩⟩⟩⟩⟩⟩⟩⟩⟩⟩⟩⟩⟩⟩⟩⟩⟩⟩⟩⟩⟩⟩⟩⟩⟩⟩⟩⟩⟩⟩⟩⟩⟩⟩⟩⟩⟩⟩⟩⟩⟩⟩⟩⟩⟩⟩⟩⟩⟩⟩⟩⟩⟩⟩⟩⟩⟩⟩⟩⟩⟩⟩⟩⟩⟩⟩⟩⟩⟩⟩⟩⟩⟩⟩⟩⟩⟩⟩⟩⟩⟩⟩⟩⟩⟩⟩⟩⟩⟩⟩⟩⟩⟩⟩⟩⟩⟩⟩⟩⟩⟩⟩⟩⟩⟩⟩⟩⟩⟩⟩⟩⟩⟩⟩⟩⟩⟩⟩⟩⟩⟩⟩⟩⟩⟩⟩⟩
theorem ai_gcw (M : ai_M) : goodWord (ai_cw M) = true := by
  unfold ai_cw
  split <;> rfl
set_option maxRecDepth 100000 in
theorem ai_pk7 : ai_w7.all (fun w => decide (w ∈ lw_tbl) && goodWord w) = true := by decide +kernel
set_option maxRecDepth 100000 in
theorem ai_pk8 : ai_w8.all (fun w => decide (w ∈ lw_tbl) && goodWord w) = true := by decide +kernel
def ai_p2 : List Nat := [375, 377, 379, 381, 110, 112, 114, 128, 130, 179, 181, 160, 162, 346, 348, 350, 352, 354, 356, 358, 360, 362, 364, 366, 368, 202, 204, 221, 223, 244, 246, 248, 250, 252, 254, 271, 273, 275, 277, 279, 281, 303, 305, 307, 309, 311, 313, 315, 317, 319, 321, 323, 325, 894, 896, 898, 900, 902, 904, 906, 908, 910, 912, 914, 916, 918, 920, 922, 924, 926, 928, 930, 932, 934, 936, 938, 940, 942, 944, 946]
set_option maxRecDepth 100000 in
theorem ai_pl2 : ai_w2.length ≤ ai_p2.length := by decide +kernel
set_option maxRecDepth 100000 in
theorem ai_pk2 : (ai_w2.zip ai_p2).all (fun q => decide (lw_tbl[q.2]? = some q.1) && goodWord q.1) = true := by decide +kernel
def ai_p3 : List Nat := [371, 372, 373, 374, 124, 126, 330, 332, 338, 339, 340, 341, 342, 344, 328, 333, 335, 337, 292, 293, 294, 295, 296, 297, 298, 299, 300, 301, 302, 291, 165, 172, 198, 195, 266, 267, 268, 269, 270, 265, 219, 220, 240, 241, 242, 243, 238, 239, 107, 108, 109, 146, 153, 868, 869, 872, 874, 875, 876, 879, 880, 881, 884, 885, 886, 887, 888, 889, 890, 891, 892, 893, 867, 870, 871, 877, 873, 882, 878, 883]
set_option maxRecDepth 100000 in
theorem ai_pl3 : ai_w3.length ≤ ai_p3.length := by decide +kernel
set_option maxRecDepth 100000 in
theorem ai_pk3 : (ai_w3.zip ai_p3).all (fun q => decide (lw_tbl[q.2]? = some q.1) && goodWord q.1) = true := by decide +kernel
def ai_p4 : List Nat := [104, 74, 121, 75, 137, 76, 188, 189, 79, 207, 208, 78, 521, 522, 523, 74, 545, 546, 547, 74, 388, 389, 390, 75, 556, 557, 558, 75, 581, 582, 583, 79, 586, 587, 588, 78, 630, 631, 632, 78, 634, 635, 636, 78, 416, 417, 418, 79, 830, 561, 562, 75, 832, 649, 650, 81, 849, 850, 851, 75, 860, 684, 685, 82, 440, 441, 442, 78, 392, 393, 75, 560, 561, 562, 75, 564, 522, 523, 74, 566, 73, 568, 569, 570, 74, 572, 573, 574, 77, 576, 577, 578, 77, 212, 189, 79, 216, 80, 137, 76, 143, 77, 232, 233, 81, 259, 260, 82, 287, 288, 83, 590, 591, 592, 80, 606, 607, 608, 79, 638, 639, 640, 79, 643, 612, 613, 76, 644, 645, 646, 79, 648, 649, 650, 81, 683, 684, 685, 82, 722, 582, 583, 79, 723, 725, 12, 78, 735, 737, 13, 78, 740, 742, 14, 78, 758, 760, 16, 78, 727, 728, 729, 76, 731, 732, 733, 81, 739, 616, 617, 77, 744, 746, 15, 78, 762, 763, 764, 83, 772, 773, 774, 83, 748, 688, 689, 77, 749, 750, 751, 79, 766, 768, 17, 83, 566, 73, 771, 658, 659, 74, 776, 778, 18, 83, 797, 799, 23, 83, 809, 811, 26, 83, 780, 782, 19, 83, 784, 786, 20, 83, 788, 790, 21, 83, 792, 794, 22, 83, 796, 569, 570, 74, 801, 803, 24, 83, 805, 807, 25, 83, 813, 815, 27, 83, 817, 573, 574, 77, 818, 820, 28, 83, 143, 77, 615, 616, 617, 77, 757, 688, 689, 77, 424, 425, 426, 76, 137, 76, 610, 582, 583, 79, 611, 612, 613, 76, 753, 754, 755, 76, 642, 425, 426, 76, 420, 421, 422, 76, 143, 77, 687, 688, 689, 77, 692, 694, 6, 82, 696, 616, 617, 77, 697, 658, 659, 74, 698, 700, 7, 82, 708, 710, 9, 82, 702, 569, 570, 74, 703, 705, 8, 82, 566, 73, 713, 715, 10, 82, 717, 719, 11, 82, 721, 526, 527, 74, 707, 669, 670, 77, 594, 595, 90, 597, 599, 1, 80, 566, 73, 602, 604, 2, 80, 143, 77, 652, 577, 578, 77, 653, 655, 3, 81, 672, 674, 5, 81, 657, 658, 659, 74, 662, 664, 4, 81, 666, 595, 90, 566, 73, 668, 669, 670, 77, 676, 677, 678, 77, 681, 573, 574, 77, 682, 616, 617, 77, 525, 526, 527, 74, 661, 569, 570, 74, 680, 573, 574, 77, 691, 669, 670, 77, 449, 450, 451, 73, 552, 553, 554, 73, 625, 626, 627, 73, 826, 827, 828, 73, 856, 857, 858, 73, 957, 959, 29, 84, 965, 966, 84, 989, 991, 32, 84, 993, 995, 33, 84, 997, 999, 34, 84, 985, 987, 31, 84, 1053, 1055, 47, 84, 1117, 1119, 63, 84, 1041, 1043, 44, 84, 1045, 1047, 45, 84, 1037, 1039, 43, 84, 1049, 1051, 46, 84, 1033, 1035, 42, 84, 1069, 1071, 51, 84, 1073, 1075, 52, 84, 1077, 1079, 53, 84, 1065, 1067, 50, 84, 1029, 1031, 41, 84, 1057, 1059, 48, 84, 1001, 1003, 35, 84, 1113, 1115, 62, 84, 1081, 1083, 54, 84, 1005, 1007, 36, 84, 1129, 1130, 84, 1136, 1138, 67, 84, 1144, 1146, 69, 84, 1140, 1142, 68, 84, 1125, 1127, 65, 84, 1132, 1134, 66, 84, 1148, 1150, 70, 84, 1109, 1111, 61, 84, 1097, 1099, 58, 84, 1101, 1103, 59, 84, 1089, 1091, 56, 84, 1093, 1095, 57, 84, 1105, 1107, 60, 84, 1021, 1023, 39, 84, 1121, 1123, 64, 84, 1017, 1019, 38, 84, 1025, 1027, 40, 84, 1061, 1063, 49, 84, 1085, 1087, 55, 84, 981, 983, 30, 84, 1013, 1015, 37, 84, 1172, 1173, 84, 1168, 1170, 71, 84, 95, 96, 73, 863, 864, 84, 444, 445, 72, 953, 954, 955, 84, 949, 950, 951, 84, 384, 385, 386, 73, 961, 962, 963, 84, 396, 397, 398, 73, 969, 970, 971, 84, 549, 550, 72, 977, 978, 979, 84, 622, 623, 72, 1009, 1010, 1011, 84, 400, 401, 402, 73, 1152, 1153, 1154, 84, 404, 405, 406, 73, 1156, 1157, 1158, 84, 408, 409, 410, 73, 1160, 1161, 1162, 84, 412, 413, 414, 73, 1164, 1165, 1166, 84, 428, 429, 430, 73, 1175, 1176, 1177, 84, 822, 823, 72, 1179, 1180, 1181, 84, 853, 854, 72, 1183, 1184, 1185, 84, 432, 433, 434, 73, 973, 974, 975, 84, 436, 437, 438, 73, 1187, 1188, 1189, 84]
set_option maxRecDepth 100000 in
theorem ai_pl4 : ai_w4.length ≤ ai_p4.length := by decide +kernel
set_option maxRecDepth 100000 in
theorem ai_pk4 : (ai_w4.zip ai_p4).all (fun q => decide (lw_tbl[q.2]? = some q.1) && goodWord q.1) = true := by decide +kernel
def ai_p5 : List Nat := [101, 102, 74, 118, 119, 75, 134, 135, 76, 184, 185, 78, 186, 187, 79, 211, 187, 79, 213, 214, 80, 226, 135, 76, 228, 141, 77, 230, 231, 81, 257, 258, 82, 285, 286, 83, 140, 141, 77, 192, 135, 76, 263, 141, 77, 236, 141, 77, 93, 94, 73, 861, 862, 84]
set_option maxRecDepth 100000 in
theorem ai_pl5 : ai_w5.length ≤ ai_p5.length := by decide +kernel
set_option maxRecDepth 100000 in
theorem ai_pk5 : (ai_w5.zip ai_p5).all (fun q => decide (lw_tbl[q.2]? = some q.1) && goodWord q.1) = true := by decide +kernel
def ai_p6 : List Nat := [192, 117, 133, 284, 1192, 395, 968, 1191, 98, 123, 210, 290, 139, 191, 262, 218, 235, 106, 145, 866, 99, 100, 619, 621, 620, 91]
set_option maxRecDepth 100000 in
theorem ai_pl6 : ai_w6.length ≤ ai_p6.length := by decide +kernel
set_option maxRecDepth 100000 in
theorem ai_pk6 : (ai_w6.zip ai_p6).all (fun q => decide (lw_tbl[q.2]? = some q.1) && goodWord q.1) = true := by decide +kernel
theorem ai_wsin {w : Cond} (h : w ∈ ai_ws) : w ∈ lw_tbl ∧ goodWord w = true := by
  unfold ai_ws at h
  rcases List.mem_append.mp h with h | h
  · obtain ⟨M, hM, rfl⟩ := List.mem_map.mp h
    obtain ⟨h1, h2⟩ := List.mem_filter.mp hM
    exact ⟨ai_cws M h1 (by simpa using h2), ai_gcw M⟩
  rcases List.mem_append.mp h with h | h
  · exact ai_zip ai_pl2 ai_pk2 h
  rcases List.mem_append.mp h with h | h
  · exact ai_zip ai_pl3 ai_pk3 h
  rcases List.mem_append.mp h with h | h
  · exact ai_zip ai_pl4 ai_pk4 h
  rcases List.mem_append.mp h with h | h
  · exact ai_zip ai_pl5 ai_pk5 h
  rcases List.mem_append.mp h with h | h
  · exact ai_zip ai_pl6 ai_pk6 h
  rcases List.mem_append.mp h with h | h
  · have h1 := List.all_eq_true.mp ai_pk7 w h
    simp only [Bool.and_eq_true, decide_eq_true_eq] at h1
    exact h1
  · have h1 := List.all_eq_true.mp ai_pk8 w h
    simp only [Bool.and_eq_true, decide_eq_true_eq] at h1
    exact h1
theorem ai_good (w : Cond) (h : w ∈ ai_ws) : (w.onTables && w.keeps) = true ∨ ∃ ty, w = .arrayClass ty := good_of_word (ai_wsin h).2
theorem ai_ws1 {w : Cond} (h : w ∈ ai_w1) : w ∈ ai_ws := List.mem_append_left _ h
theorem ai_ws2 {w : Cond} (h : w ∈ ai_w2) : w ∈ ai_ws := List.mem_append_right _ (List.mem_append_left _ h)
theorem ai_ws3 {w : Cond} (h : w ∈ ai_w3) : w ∈ ai_ws := List.mem_append_right _ (List.mem_append_right _ (List.mem_append_left _ h))
theorem ai_ws4 {w : Cond} (h : w ∈ ai_w4) : w ∈ ai_ws := List.mem_append_right _ (List.mem_append_right _ (List.mem_append_right _ (List.mem_append_left _ h)))
theorem ai_ws5 {w : Cond} (h : w ∈ ai_w5) : w ∈ ai_ws := List.mem_append_right _ (List.mem_append_right _ (List.mem_append_right _ (List.mem_append_right _ (List.mem_append_left _ h))))
theorem ai_ws6 {w : Cond} (h : w ∈ ai_w6) : w ∈ ai_ws := List.mem_append_right _ (List.mem_append_right _ (List.mem_append_right _ (List.mem_append_right _ (List.mem_append_right _ (List.mem_append_left _ h)))))
theorem ai_ws7 {w : Cond} (h : w ∈ ai_w7) : w ∈ ai_ws := List.mem_append_right _ (List.mem_append_right _ (List.mem_append_right _ (List.mem_append_right _ (List.mem_append_right _ (List.mem_append_right _ (List.mem_append_left _ h))))))
theorem ai_ws8 {w : Cond} (h : w ∈ ai_w8) : w ∈ ai_ws := List.mem_append_right _ (List.mem_append_right _ (List.mem_append_right _ (List.mem_append_right _ (List.mem_append_right _ (List.mem_append_right _ (List.mem_append_right _ h))))))
theorem ai_lookN {β : Type} {l : List (Nat × β)} {a : Nat} {x : β} (h : l.lookup a = some x) : (a, x) ∈ l := by
  induction l with
  | nil => cases h
  | cons q l ih =>
    obtain ⟨k, v⟩ := q
    rw [List.lookup_cons] at h
    by_cases hk : a = k
    · subst hk
      simp only [beq_self_eq_true] at h
      cases h
      exact List.mem_cons_self
    · have : (a == k) = false := by simpa using hk
      simp only [this] at h
      exact List.mem_cons_of_mem _ (ih h)
theorem ai_lookP {β : Type} {l : List ((Nat × Nat) × β)} {a : Nat × Nat} {x : β} (h : l.lookup a = some x) : (a, x) ∈ l := by
  induction l with
  | nil => cases h
  | cons q l ih =>
    obtain ⟨k, v⟩ := q
    rw [List.lookup_cons] at h
    by_cases hk : a = k
    · subst hk
      simp only [beq_self_eq_true] at h
      cases h
      exact List.mem_cons_self
    · have : (a == k) = false := by simpa using hk
      simp only [this] at h
      exact List.mem_cons_of_mem _ (ih h)
theorem ai_dec {M : ai_M} {pc len : Nat} {i : Instr} (hM : M ∈ ai_MT) (h : ai_at M pc = some (i, len)) : decode (ai_cc M) pc = .ok (i, len) ∧ ((∀ a b c d, i ≠ .tableswitch a b c d) → len = ai_len i) ∧ (∀ off, i = .goto off → 0 ≤ (pc : Int) + off) ∧ (∀ cd off, i = .ifCond cd off → 0 ≤ (pc : Int) + off) ∧ (∀ cd off, i = .if_icmp cd off → 0 ≤ (pc : Int) + off) ∧ (∀ a b c d, i = .tableswitch a b c d → 0 ≤ (pc : Int) + a ∧ ∀ (j : Nat) (off : Int), d[j]? = some off → 0 ≤ (pc : Int) + off) := by
  have h1 := List.all_eq_true.mp (ai_chks M hM) _ (ai_lookN h)
  simp only [Bool.and_eq_true, decide_eq_true_eq, Bool.or_eq_true, beq_iff_eq] at h1
  obtain ⟨⟨h2, h3⟩, h4⟩ := h1
  refine ⟨h2, fun hn => ?_, ?_, ?_, ?_, ?_⟩
  · rcases h3 with h3 | h3
    · cases i <;> simp [ai_isSw] at h3
      exact absurd rfl (hn _ _ _ _)
    · exact h3
  · rintro off rfl
    simpa [ai_tgt] using h4
  · rintro cd off rfl
    simpa [ai_tgt] using h4
  · rintro cd off rfl
    simpa [ai_tgt] using h4
  · rintro a b c d rfl
    simp only [ai_tgt, Bool.and_eq_true, decide_eq_true_eq, List.all_eq_true] at h4
    refine ⟨h4.1, fun j off hj => h4.2 off ?_⟩
    rw [← Array.getElem?_toList] at hj
    exact List.mem_of_getElem? hj
theorem ai_room_ok {M M' : ai_M} {pc len x kd mi na ci : Nat} {i : Instr} (hM : M ∈ ai_MT) (h : ai_at M pc = some (i, len)) (hi : ai_ivk i = some x) (ht : ai_mth (ai_oi M) x = some (kd, mi, na, ci)) (hM' : ai_MT[mi]? = some M') : ai_Fr M' + 1 ≤ ai_Fr M ∧ 19 + ai_nL M' + ai_Lc M' ≤ ai_Lc M := by
  have h1 := List.all_eq_true.mp (List.all_eq_true.mp ai_rcks M hM) _ (ai_lookN h)
  simp only [hi, ht, hM', Bool.and_eq_true, decide_eq_true_eq] at h1
  exact h1.1.1
theorem ai_robj {M : ai_M} {pc len x : Nat} (hM : M ∈ ai_MT) (h : ai_at M pc = some (.invokespecial x, len)) (hx : ai_isObj (ai_oi M) x = true) : 1 ≤ ai_Fr M ∧ 20 ≤ ai_Lc M := by
  have h1 := List.all_eq_true.mp (List.all_eq_true.mp ai_rcks M hM) _ (ai_lookN h)
  simp only [ai_ivk, hx, Bool.not_true, Bool.false_or, Bool.and_eq_true, decide_eq_true_eq] at h1
  exact h1.1.2
theorem ai_rcpy {M : ai_M} {pc len x : Nat} (hM : M ∈ ai_MT) (h : ai_at M pc = some (.invokestatic x, len)) (hx : ai_isCpy (ai_oi M) x = true) : 1 ≤ ai_Fr M ∧ 26 ≤ ai_Lc M := by
  have h1 := List.all_eq_true.mp (List.all_eq_true.mp ai_rcks M hM) _ (ai_lookN h)
  simp only [ai_ivk, hx, Bool.not_true, Bool.false_or, Bool.and_eq_true, decide_eq_true_eq] at h1
  exact h1.2
theorem ai_c0t : ∀ k, k < 4 → parseFieldDescriptor (ai_T0 k).2.2.1 = some (ai_ty 0 k) := by decide +kernel
theorem ai_c0n : ∀ a, a < 4 → ∀ b, b < 4 → a ≠ b → (ai_T0 a).2.1 ≠ (ai_T0 b).2.1 := by decide +kernel
theorem ai_c0o : ∀ k, k < 4 → (ai_T0 k).1 = "RuleCompletion" := by decide +kernel
theorem ai_c1t : ∀ k, k < 3 → parseFieldDescriptor (ai_T1 k).2.2.1 = some (ai_ty 1 k) := by decide +kernel
theorem ai_c1n : ∀ a, a < 3 → ∀ b, b < 3 → a ≠ b → (ai_T1 a).2.1 ≠ (ai_T1 b).2.1 := by decide +kernel
theorem ai_c1o : ∀ k, k < 3 → (ai_T1 k).1 = "RuleCompletion$Symbols" := by decide +kernel
theorem ai_c2t : ∀ k, k < 2 → parseFieldDescriptor (ai_T2 k).2.2.1 = some (ai_ty 2 k) := by decide +kernel
theorem ai_c2n : ∀ a, a < 2 → ∀ b, b < 2 → a ≠ b → (ai_T2 a).2.1 ≠ (ai_T2 b).2.1 := by decide +kernel
theorem ai_c2o : ∀ k, k < 2 → (ai_T2 k).1 = "RuleCompletion$Draft" := by decide +kernel
theorem ai_c3t : ∀ k, k < 2 → parseFieldDescriptor (ai_T3 k).2.2.1 = some (ai_ty 3 k) := by decide +kernel
theorem ai_c3n : ∀ a, a < 2 → ∀ b, b < 2 → a ≠ b → (ai_T3 a).2.1 ≠ (ai_T3 b).2.1 := by decide +kernel
theorem ai_c3o : ∀ k, k < 2 → (ai_T3 k).1 = "RuleCompletion$Pair" := by decide +kernel
theorem ai_c4t : ∀ k, k < 2 → parseFieldDescriptor (ai_T4 k).2.2.1 = some (ai_ty 4 k) := by decide +kernel
theorem ai_c4n : ∀ a, a < 2 → ∀ b, b < 2 → a ≠ b → (ai_T4 a).2.1 ≠ (ai_T4 b).2.1 := by decide +kernel
theorem ai_c4o : ∀ k, k < 2 → (ai_T4 k).1 = "RuleCompletion$Term" := by decide +kernel
theorem ai_c5t : ∀ k, k < 12 → parseFieldDescriptor (ai_T5 k).2.2.1 = some (ai_ty 5 k) := by decide +kernel
theorem ai_c5n : ∀ a, a < 12 → ∀ b, b < 12 → a ≠ b → (ai_T5 a).2.1 ≠ (ai_T5 b).2.1 := by decide +kernel
theorem ai_c5o : ∀ k, k < 12 → (ai_T5 k).1 = "RuleCompletion$Engine" := by decide +kernel
theorem ai_c6t : ∀ k, k < 2 → parseFieldDescriptor (ai_T6 k).2.2.1 = some (ai_ty 6 k) := by decide +kernel
theorem ai_c6n : ∀ a, a < 2 → ∀ b, b < 2 → a ≠ b → (ai_T6 a).2.1 ≠ (ai_T6 b).2.1 := by decide +kernel
theorem ai_c6o : ∀ k, k < 2 → (ai_T6 k).1 = "RuleCompletion$PairList" := by decide +kernel
theorem ai_c7t : ∀ k, k < 2 → parseFieldDescriptor (ai_T7 k).2.2.1 = some (ai_ty 7 k) := by decide +kernel
theorem ai_c7n : ∀ a, a < 2 → ∀ b, b < 2 → a ≠ b → (ai_T7 a).2.1 ≠ (ai_T7 b).2.1 := by decide +kernel
theorem ai_c7o : ∀ k, k < 2 → (ai_T7 k).1 = "RuleCompletion$Renaming" := by decide +kernel
theorem ai_c8t : ∀ k, k < 6 → parseFieldDescriptor (ai_T8 k).2.2.1 = some (ai_ty 8 k) := by decide +kernel
theorem ai_c8n : ∀ a, a < 6 → ∀ b, b < 6 → a ≠ b → (ai_T8 a).2.1 ≠ (ai_T8 b).2.1 := by decide +kernel
theorem ai_c8o : ∀ k, k < 6 → (ai_T8 k).1 = "RuleCompletion$Rewriter" := by decide +kernel
theorem ai_c9t : ∀ k, k < 6 → parseFieldDescriptor (ai_T9 k).2.2.1 = some (ai_ty 9 k) := by decide +kernel
theorem ai_c9n : ∀ a, a < 6 → ∀ b, b < 6 → a ≠ b → (ai_T9 a).2.1 ≠ (ai_T9 b).2.1 := by decide +kernel
theorem ai_c9o : ∀ k, k < 6 → (ai_T9 k).1 = "RuleCompletion$PathOrder" := by decide +kernel
theorem ai_c10t : ∀ k, k < 12 → parseFieldDescriptor (ai_T10 k).2.2.1 = some (ai_ty 10 k) := by decide +kernel
theorem ai_c10n : ∀ a, a < 12 → ∀ b, b < 12 → a ≠ b → (ai_T10 a).2.1 ≠ (ai_T10 b).2.1 := by decide +kernel
theorem ai_c10o : ∀ k, k < 12 → (ai_T10 k).1 = "RuleCompletion$Overlap" := by decide +kernel
theorem ai_c11t : ∀ k, k < 27 → parseFieldDescriptor (ai_T11 k).2.2.1 = some (ai_ty 11 k) := by decide +kernel
theorem ai_c11n : ∀ a, a < 27 → ∀ b, b < 27 → a ≠ b → (ai_T11 a).2.1 ≠ (ai_T11 b).2.1 := by decide +kernel
theorem ai_c11o : ∀ k, k < 27 → (ai_T11 k).1 = "RuleCompletionModel" := by decide +kernel
theorem ai_cl_ok {ci : Nat} {C : String} {T : u_T} {N : Nat} (h : ai_cl[ci]? = some (C, T, N)) : (∀ k, k < N → parseFieldDescriptor (T k).2.2.1 = some (ai_ty ci k)) ∧ (∀ a, a < N → ∀ b, b < N → a ≠ b → (T a).2.1 ≠ (T b).2.1) := by
  match ci, h with
  | 0, h => cases h; exact ⟨ai_c0t, ai_c0n⟩
  | 1, h => cases h; exact ⟨ai_c1t, ai_c1n⟩
  | 2, h => cases h; exact ⟨ai_c2t, ai_c2n⟩
  | 3, h => cases h; exact ⟨ai_c3t, ai_c3n⟩
  | 4, h => cases h; exact ⟨ai_c4t, ai_c4n⟩
  | 5, h => cases h; exact ⟨ai_c5t, ai_c5n⟩
  | 6, h => cases h; exact ⟨ai_c6t, ai_c6n⟩
  | 7, h => cases h; exact ⟨ai_c7t, ai_c7n⟩
  | 8, h => cases h; exact ⟨ai_c8t, ai_c8n⟩
  | 9, h => cases h; exact ⟨ai_c9t, ai_c9n⟩
  | 10, h => cases h; exact ⟨ai_c10t, ai_c10n⟩
  | 11, h => cases h; exact ⟨ai_c11t, ai_c11n⟩
  | n + 12, h => simp [ai_cl] at h
theorem ai_cl_own {ci : Nat} {C : String} {T : u_T} {N : Nat} (h : ai_cl[ci]? = some (C, T, N)) : ∀ k, k < N → (T k).1 = C := by
  match ci, h with
  | 0, h => cases h; exact ai_c0o
  | 1, h => cases h; exact ai_c1o
  | 2, h => cases h; exact ai_c2o
  | 3, h => cases h; exact ai_c3o
  | 4, h => cases h; exact ai_c4o
  | 5, h => cases h; exact ai_c5o
  | 6, h => cases h; exact ai_c6o
  | 7, h => cases h; exact ai_c7o
  | 8, h => cases h; exact ai_c8o
  | 9, h => cases h; exact ai_c9o
  | 10, h => cases h; exact ai_c10o
  | 11, h => cases h; exact ai_c11o
  | n + 12, h => simp [ai_cl] at h
theorem ai_cl_in {ci : Nat} {C : String} {T : u_T} {N : Nat} (h : ai_cl[ci]? = some (C, T, N)) : ∀ w ∈ u_ws C T N, w ∈ ai_ws := fun w hw => ai_ws2 (List.mem_flatMap.mpr ⟨(C, T, N), List.mem_of_getElem? h, hw⟩)
def ai_fck (e : (Nat × Nat) × (Nat × Nat × Bool)) : Bool := match ai_cl[e.2.1]? with
  | some (_, _, N) => decide (e.2.2.1 < N)
  | none => false
set_option maxRecDepth 100000 in
theorem ai_fcks : ai_fldL.all ai_fck = true := by decide +kernel
theorem ai_fld_ok {oi x : Nat} {q : Nat × Nat × Bool} (h : ai_fld oi x = some q) : ∃ C T N, ai_cl[q.1]? = some (C, T, N) ∧ q.2.1 < N ∧ (T q.2.1).1 = C ∧ (∀ w ∈ u_ws C T N, w ∈ ai_ws) ∧ (if q.2.2 = true then Cond.fieldLinkNest (ai_own oi) x C (T q.2.1).2.1 (T q.2.1).2.2.1 ai_host ∈ ai_nw else Cond.fieldLink (ai_own oi) x C (T q.2.1).2.1 (T q.2.1).2.2.1 ∈ ai_ws) := by
  have hm : ((oi, x), q) ∈ ai_fldL := ai_lookP h
  have h1 := List.all_eq_true.mp ai_fcks _ hm
  unfold ai_fck at h1
  cases hc : ai_cl[q.1]? with
  | none => simp only [hc] at h1; cases h1
  | some z =>
    obtain ⟨C, T, N⟩ := z
    simp only [hc, decide_eq_true_eq] at h1
    refine ⟨C, T, N, rfl, h1, ai_cl_own hc _ h1, ai_cl_in hc, ?_⟩
    cases hn : q.2.2 with
    | true =>
      rw [if_pos rfl]
      refine List.mem_append_left _ (List.mem_map.mpr ⟨(ai_own oi, x, C, (T q.2.1).2.1, (T q.2.1).2.2.1), ?_, rfl⟩)
      exact List.mem_map.mpr ⟨((oi, x), q), List.mem_filter.mpr ⟨hm, hn⟩, by simp only [hc]⟩
    | false =>
      rw [if_neg (by simp)]
      refine ai_ws3 (List.mem_map.mpr ⟨((oi, x), q), List.mem_filter.mpr ⟨hm, by simp [hn]⟩, ?_⟩)
      simp only [ai_fw, hc, hn]
      rfl
theorem ai_new_ok {oi x ci : Nat} (h : ai_new oi x = some ci) : ∃ C T N, ai_cl[ci]? = some (C, T, N) ∧ Cond.classLink (ai_own oi) x C ∈ ai_ws ∧ Cond.instantiable C N ∈ ai_ws ∧ Cond.initialized C ∈ ai_ws := by
  have hm : ((oi, x), ci) ∈ ai_newL := ai_lookP h
  have key : ai_newL.all (fun e => (ai_cl[e.2]?).isSome) = true := by decide +kernel
  have h1 := List.all_eq_true.mp key _ hm
  obtain ⟨⟨C, T, N⟩, hc⟩ := Option.isSome_iff_exists.mp h1
  have hc' : ai_cl[ci]? = some (C, T, N) := hc
  have hin : ∀ w ∈ ([.classLink (ai_own oi) x C, .instantiable C N, .initialized C] : List Cond), w ∈ ai_ws := fun w hw => ai_ws5 (List.mem_flatMap.mpr ⟨((oi, x), ci), hm, by simp only [hc']; exact hw⟩)
  exact ⟨C, T, N, hc', hin _ (by simp), hin _ (by simp), hin _ (by simp)⟩
theorem ai_contains {l : List (Nat × Nat)} {a : Nat × Nat} (h : l.contains a = true) : a ∈ l := by simpa using h
theorem ai_anw_ok {oi x : Nat} (h : ai_anw oi x = true) : Cond.classLink (ai_own oi) x ai_pairN ∈ ai_ws := by
  have hm : (oi, x) ∈ ai_anwL := ai_contains h
  refine ai_ws6 ?_
  unfold ai_w6
  simp only [List.mem_append]
  exact Or.inl (Or.inl (Or.inl (Or.inl (Or.inl (Or.inl (List.mem_map.mpr ⟨(oi, x), hm, rfl⟩))))))
theorem ai_arr_ok {ty : ArrayType} {t : Nat} (h : ai_kind ty = some t) : Cond.arrayClass (newarray.typeOf ty) ∈ ai_ws := by
  refine ai_ws6 ?_
  unfold ai_w6
  simp only [List.mem_append]
  refine Or.inl (Or.inl (Or.inl (Or.inl (Or.inl (Or.inr ?_)))))
  cases ty <;> simp [ai_kind] at h <;> simp [newarray.typeOf]
theorem ai_ldc_ok {oi x : Nat} {v : Int32} (h : ai_ldc oi x = some v) : Cond.constant (ai_own oi) x v ∈ ai_ws := by cases h
theorem ai_ldcJ_ok {oi x : Nat} {v : Int64} (h : ai_ldcJ oi x = some v) : Cond.constantLong (ai_own oi) x v ∈ ai_ws := by
  have hm : ((oi, x), v) ∈ ai_ldjL := ai_lookP h
  refine ai_ws6 ?_
  unfold ai_w6
  simp only [List.mem_append]
  exact Or.inl (Or.inl (Or.inl (Or.inl (Or.inr (List.mem_map.mpr ⟨_, hm, rfl⟩)))))
theorem ai_obj_ok {oi x : Nat} (h : ai_isObj oi x = true) : Cond.methodLink (ai_own oi) x objectInit ∈ ai_ws ∧ Cond.instanceMethod objectInit ∈ ai_ws ∧ Cond.code objectInit ⟨#[0xb1]⟩ 1 none ∈ ai_ws := by
  have hm : (oi, x) ∈ ai_objL := ai_contains h
  refine ⟨ai_ws6 ?_, ai_ws6 ?_, ai_ws6 ?_⟩ <;> unfold ai_w6 <;> simp only [List.mem_append]
  · exact Or.inl (Or.inl (Or.inl (Or.inr (List.mem_map.mpr ⟨(oi, x), hm, rfl⟩))))
  · exact Or.inl (Or.inl (Or.inr (by simp)))
  · exact Or.inl (Or.inl (Or.inr (by simp)))
theorem ai_cpy_ok {oi x : Nat} (h : ai_isCpy oi x = true) : Cond.methodLink (ai_own oi) x arraycopyName ∈ ai_ws ∧ Cond.native arraycopyName ∈ ai_ws ∧ Cond.static arraycopyName ∈ ai_ws ∧ Cond.initialized "java/lang/System" ∈ ai_ws := by
  have hm : (oi, x) ∈ ai_cpyL := ai_contains h
  refine ⟨ai_ws6 ?_, ai_ws6 ?_, ai_ws6 ?_, ai_ws6 ?_⟩ <;> unfold ai_w6 <;> simp only [List.mem_append]
  · exact Or.inl (Or.inr (List.mem_map.mpr ⟨(oi, x), hm, rfl⟩))
  · exact Or.inr (by simp)
  · exact Or.inr (by simp)
  · exact Or.inr (by simp)
theorem ai_pair_ok : ∃ T N, ai_cl[ai_pair]? = some (ai_pairN, T, N) := ⟨_, _, rfl⟩
theorem ai_nw_ok {w : Cond} (h : w ∈ ai_nw) : (∃ a i r n d hh, w = .fieldLinkNest a i r n d hh) ∨ ∃ a i y hh, w = .methodLinkNest a i y hh := by
  rcases List.mem_append.mp h with h | h
  · obtain ⟨q, -, rfl⟩ := List.mem_map.mp h
    exact Or.inl ⟨_, _, _, _, _, _, rfl⟩
  · obtain ⟨q, -, rfl⟩ := List.mem_map.mp h
    exact Or.inr ⟨_, _, _, _, rfl⟩
theorem ai_code_in {M : ai_M} (hM : M ∈ ai_MT) (ho : ai_oi M ≠ 99) : ai_cw M ∈ ai_ws := ai_ws1 (List.mem_map.mpr ⟨M, List.mem_filter.mpr ⟨hM, by simpa using ho⟩, rfl⟩)
def ai_mck (e : (Nat × Nat) × (Nat × Nat × Nat × Nat)) : Bool := match ai_MT[e.2.2.1]? with
  | none => false
  | some M => decide (ai_oi M ≠ 99) && decide ((ai_y M).cls ≠ "java/lang/invoke/MethodHandle") && decide ((ai_y M).cls ≠ "java/lang/invoke/VarHandle") && decide ((parseMethodDescriptor (ai_y M).desc).map (fun d => d.parameters.length) = some e.2.2.2.1) && (match e.2.1 with
    | 0 => (ai_ex M).isEmpty && decide ((ai_cl[e.2.2.2.2]?).map (fun q => q.1) = some (ai_y M).cls)
    | 1 => (ai_ex M).isEmpty && decide ((ai_cl[e.2.2.2.2]?).map (fun q => q.1) = some (ai_y M).cls)
    | 2 => (ai_ex M).isEmpty
    | 3 => (ai_ex M).isEmpty
    | 4 => (ai_ex M).isEmpty && decide ((ai_y M).name = "<init>") && decide (ai_ret M = none)
    | 5 => (ai_ex M).isEmpty && decide ((ai_y M).name = "<init>") && decide (ai_ret M = none)
    | 6 => !(ai_ex M).isEmpty
    | _ => false)
set_option maxRecDepth 100000 in
theorem ai_mcks : ai_mthL.all ai_mck = true := by decide +kernel
theorem ai_cw_e {M : ai_M} (h : (ai_ex M).isEmpty = true) : ai_cw M = .code (ai_y M) (ai_cc M) (ai_nL M) (ai_ret M) := by
  unfold ai_cw
  rw [List.isEmpty_iff.mp h]
theorem ai_cw_h {M : ai_M} (h : (ai_ex M).isEmpty = false) : ∃ hh, ai_cw M = .codeWith (ai_y M) (ai_cc M) (ai_nL M) (ai_ret M) hh := by
  unfold ai_cw
  cases hx : ai_ex M with
  | nil => rw [hx] at h; cases h
  | cons a t => exact ⟨_, rfl⟩
theorem ai_cl_n {ci : Nat} {C : String} (h : (ai_cl[ci]?).map (fun q => q.1) = some C) : ∃ T N, ai_cl[ci]? = some (C, T, N) := by
  cases hc : ai_cl[ci]? with
  | none => rw [hc] at h; cases h
  | some q =>
    obtain ⟨C', T, N⟩ := q
    rw [hc] at h
    cases h
    exact ⟨T, N, rfl⟩
theorem ai_mth_ok {oi x kd mi na ci : Nat} {M : ai_M} (h : ai_mth oi x = some (kd, mi, na, ci)) (hM : ai_MT[mi]? = some M) :
    ((ai_y M).cls ≠ "java/lang/invoke/MethodHandle" ∧ (ai_y M).cls ≠ "java/lang/invoke/VarHandle") ∧ (parseMethodDescriptor (ai_y M).desc).map (fun d => d.parameters.length) = some na ∧ Cond.initialized (ai_y M).cls ∈ ai_ws ∧ ai_oi M ≠ 99 ∧
    (kd = 0 → Cond.methodLink (ai_own oi) x (ai_y M) ∈ ai_ws ∧ Cond.instanceMethod (ai_y M) ∈ ai_ws ∧ Cond.selects (ai_y M).cls (ai_y M) (ai_y M) ∈ ai_ws ∧ ai_cw M = .code (ai_y M) (ai_cc M) (ai_nL M) (ai_ret M) ∧ ∃ T N, ai_cl[ci]? = some ((ai_y M).cls, T, N)) ∧
    (kd = 1 → Cond.methodLinkNest (ai_own oi) x (ai_y M) ai_host ∈ ai_nw ∧ Cond.instanceMethod (ai_y M) ∈ ai_ws ∧ Cond.selects (ai_y M).cls (ai_y M) (ai_y M) ∈ ai_ws ∧ ai_cw M = .code (ai_y M) (ai_cc M) (ai_nL M) (ai_ret M) ∧ ∃ T N, ai_cl[ci]? = some ((ai_y M).cls, T, N)) ∧
    (kd = 2 → Cond.methodLink (ai_own oi) x (ai_y M) ∈ ai_ws ∧ Cond.static (ai_y M) ∈ ai_ws ∧ ai_cw M = .code (ai_y M) (ai_cc M) (ai_nL M) (ai_ret M)) ∧
    (kd = 3 → Cond.methodLinkNest (ai_own oi) x (ai_y M) ai_host ∈ ai_nw ∧ Cond.static (ai_y M) ∈ ai_ws ∧ ai_cw M = .code (ai_y M) (ai_cc M) (ai_nL M) (ai_ret M)) ∧
    (kd = 4 → Cond.methodLink (ai_own oi) x (ai_y M) ∈ ai_ws ∧ Cond.instanceMethod (ai_y M) ∈ ai_ws ∧ (ai_y M).name = "<init>" ∧ ai_cw M = .code (ai_y M) (ai_cc M) (ai_nL M) none) ∧
    (kd = 5 → Cond.methodLinkNest (ai_own oi) x (ai_y M) ai_host ∈ ai_nw ∧ Cond.instanceMethod (ai_y M) ∈ ai_ws ∧ (ai_y M).name = "<init>" ∧ ai_cw M = .code (ai_y M) (ai_cc M) (ai_nL M) none) ∧
    (kd = 6 → Cond.methodLink (ai_own oi) x (ai_y M) ∈ ai_ws ∧ Cond.static (ai_y M) ∈ ai_ws ∧ ∃ hh, ai_cw M = .codeWith (ai_y M) (ai_cc M) (ai_nL M) (ai_ret M) hh) := by
  have hm : ((oi, x), (kd, mi, na, ci)) ∈ ai_mthL := ai_lookP h
  have h1 := List.all_eq_true.mp ai_mcks _ hm
  simp only [ai_mck, hM, Bool.and_eq_true, decide_eq_true_eq] at h1
  obtain ⟨⟨⟨⟨g0, g1⟩, g2⟩, g3⟩, g4⟩ := h1
  have hy : ai_yOf mi = ai_y M := by simp [ai_yOf, hM]
  have hw : ∀ w ∈ ai_mw ((oi, x), (kd, mi, na, ci)), w ∈ ai_ws := fun w hw => ai_ws4 (List.mem_flatMap.mpr ⟨_, hm, hw⟩)
  have hn : ai_nest kd = true → Cond.methodLinkNest (ai_own oi) x (ai_y M) ai_host ∈ ai_nw := fun hk => List.mem_append_right _ (List.mem_map.mpr ⟨(ai_own oi, x, ai_y M), List.mem_map.mpr ⟨_, List.mem_filter.mpr ⟨hm, hk⟩, by simp only [hy]⟩, rfl⟩)
  simp only [ai_mw, hy] at hw
  have hini : Cond.initialized (ai_y M).cls ∈ ai_ws := by
    split at hw <;> exact hw _ (by simp)
  refine ⟨⟨g1, g2⟩, g3, hini, g0, ?_, ?_, ?_, ?_, ?_, ?_, ?_⟩ <;> rintro rfl <;> simp only [Bool.and_eq_true, decide_eq_true_eq] at g4 hw
  · exact ⟨hw _ (by simp), hw _ (by simp), hw _ (by simp), ai_cw_e g4.1, ai_cl_n g4.2⟩
  · exact ⟨hn rfl, hw _ (by simp), hw _ (by simp), ai_cw_e g4.1, ai_cl_n g4.2⟩
  · exact ⟨hw _ (by simp), hw _ (by simp), ai_cw_e g4⟩
  · exact ⟨hn rfl, hw _ (by simp), ai_cw_e g4⟩
  · exact ⟨hw _ (by simp), hw _ (by simp), g4.1.2, by rw [ai_cw_e g4.1.1, g4.2]⟩
  · exact ⟨hn rfl, hw _ (by simp), g4.1.2, by rw [ai_cw_e g4.1.1, g4.2]⟩
  · exact ⟨hw _ (by simp), hw _ (by simp), ai_cw_h (by simpa using g4)⟩
