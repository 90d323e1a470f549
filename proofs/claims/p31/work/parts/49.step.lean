/-- a divisor that is not 0 -/
def gnz (y : Int32) : Bool := decide (y ≠ 0)
theorem gnz_ok {y : Int32} (h : gnz y = true) : ¬ y = 0 := of_decide_eq_true h
theorem gnz_t {y : Int32} (h : ¬ y = 0) : gnz y = true := decide_eq_true h
noncomputable def fL_step_321 (t0 : Int32) (Z : CZ) (F : Nat → Int32) : Option (Int32 × CZ × (Nat → Int32)) := gd (gbo t0) (some (t0, Z, F))
noncomputable def fL_step_320 (Z : CZ) (F : Nat → Int32) : Option (Int32 × CZ × (Nat → Int32)) := fL_step_321 (0 : Int32) Z F
noncomputable def fL_step_236 (x3 : Int32) (x4 : Int32) (x8 : Int32) (t0 : Int32) (t1 : Int32) (t2 : Int32) (Z : CZ) (F : Nat → Int32) : Option (Int32 × CZ × (Nat → Int32)) := gd (gin t2 5) (bnd (upd F (Int32.toNatClampNeg t2) (t1 + t0)) (fun F174 => (if x8 = (-200 : Int32) then gd (gin (0 : Int32) 5) ((if (F174 (Int32.toNatClampNeg (0 : Int32))) = (6 : Int32) then fL_step_321 (1 : Int32) Z F174 else fL_step_321 (0 : Int32) Z F174)) else gd (gin (0 : Int32) 5) ((if x8 = ((F174 (Int32.toNatClampNeg (0 : Int32))) - (1 : Int32)) then cl1 (fX6_field_n x8 (0 : Int32) (0 : Int32) Z) (fun v176 => (if v176 = ((irm x3 (41 : Int32)) - (20 : Int32)) then cl1 (fX6_field_n x8 (3 : Int32) (1 : Int32) Z) (fun v178 => gd (gin (4 : Int32) 5) ((if v178 = (((irm (x4 / (41 : Int32)) (41 : Int32)) - (20 : Int32)) - (F174 (Int32.toNatClampNeg (4 : Int32)))) then fL_step_321 (1 : Int32) Z F174 else fL_step_320 Z F174))) else fL_step_320 Z F174)) else fL_step_320 Z F174)))))
noncomputable def fL_step_180 (x3 : Int32) (x4 : Int32) (Z : CZ) (F : Nat → Int32) : Option (Int32 × CZ × (Nat → Int32)) := cl2 (fL_pans ((irm x3 (41 : Int32)) - (20 : Int32)) ((irm (x3 / (41 : Int32)) (41 : Int32)) - (20 : Int32)) ((irm x4 (41 : Int32)) - (20 : Int32)) ((irm (x4 / (41 : Int32)) (41 : Int32)) - (20 : Int32)) Z) (fun v88 Z90 => gd (gin (0 : Int32) 5) ((if 0 ≤ v88 then fL_step_236 x3 x4 v88 (1 : Int32) (F (Int32.toNatClampNeg (0 : Int32))) (0 : Int32) Z90 F else fL_step_236 x3 x4 v88 (0 : Int32) (F (Int32.toNatClampNeg (0 : Int32))) (0 : Int32) Z90 F)))
noncomputable def fL_step_411 (t0 : Int32) (Z : CZ) (F : Nat → Int32) : Option (Int32 × CZ × (Nat → Int32)) := gd (gbo t0) (some (t0, Z, F))
noncomputable def fL_step_410 (Z : CZ) (F : Nat → Int32) : Option (Int32 × CZ × (Nat → Int32)) := fL_step_411 (0 : Int32) Z F
noncomputable def fL_step_349 (x9 : Int32) (t0 : Int32) (t1 : Int32) (t2 : Int32) (Z : CZ) (F : Nat → Int32) : Option (Int32 × CZ × (Nat → Int32)) := gd (gin t2 5) (bnd (upd F (Int32.toNatClampNeg t2) (t1 + t0)) (fun F165 => (if x9 = (-200 : Int32) then gd (gin (1 : Int32) 5) ((if (F165 (Int32.toNatClampNeg (1 : Int32))) = (16 : Int32) then fL_step_411 (1 : Int32) Z F165 else fL_step_411 (0 : Int32) Z F165)) else gd (gin (1 : Int32) 5) ((if x9 = ((F165 (Int32.toNatClampNeg (1 : Int32))) - (1 : Int32)) then cl1 (fX6_ofPlayer_n x9 (1 : Int32) Z) (fun v167 => (if v167 = 0 then cl1 (fX6_ofPlayer_n x9 (2 : Int32) Z) (fun v169 => (if v169 = (-1 : Int32) then fL_step_411 (1 : Int32) Z F165 else fL_step_410 Z F165)) else fL_step_410 Z F165)) else fL_step_410 Z F165)))))
noncomputable def fL_step_322 (x4 : Int32) (Z : CZ) (F : Nat → Int32) : Option (Int32 × CZ × (Nat → Int32)) := cl2 (fL_acts6 (irm x4 (2 : Int32)) (0 : Int32) Z) (fun v96 Z98 => gd (gin (1 : Int32) 5) ((if 0 ≤ v96 then fL_step_349 v96 (1 : Int32) (F (Int32.toNatClampNeg (1 : Int32))) (1 : Int32) Z98 F else fL_step_349 v96 (0 : Int32) (F (Int32.toNatClampNeg (1 : Int32))) (1 : Int32) Z98 F)))
noncomputable def fL_step_442 (t0 : Int32) (t1 : Int32) (t2 : Int32) (t3 : Int32) (Z : CZ) (F : Nat → Int32) : Option (Int32 × CZ × (Nat → Int32)) := cl2 (fL_isBeaten t3 t2 t1 t0 Z) (fun v141 Z143 => gd (gbo v141) (some (v141, Z143, F)))
noncomputable def fL_step_412 (x4 : Int32) (x5 : Int32) (Z : CZ) (F : Nat → Int32) : Option (Int32 × CZ × (Nat → Int32)) := (if (irm (x4 / (16 : Int32)) (2 : Int32)) = 0 then fL_step_442 (1 : Int32) ((1 : Int32) + (irm (x4 / (4 : Int32)) (4 : Int32))) (irm x4 (4 : Int32)) x5 Z F else fL_step_442 (0 : Int32) ((1 : Int32) + (irm (x4 / (4 : Int32)) (4 : Int32))) (irm x4 (4 : Int32)) x5 Z F)
noncomputable def fL_step_513 (t0 : Int32) (Z : CZ) (F : Nat → Int32) : Option (Int32 × CZ × (Nat → Int32)) := gd (gbo t0) (some (t0, Z, F))
noncomputable def fL_step_512 (Z : CZ) (F : Nat → Int32) : Option (Int32 × CZ × (Nat → Int32)) := fL_step_513 (0 : Int32) Z F
noncomputable def fL_step_470 (x4 : Int32) (x5 : Int32) (t0 : Int32) (Z : CZ) (F : Nat → Int32) : Option (Int32 × CZ × (Nat → Int32)) := gd (gin (4 : Int32) 5) (bnd (upd F (Int32.toNatClampNeg (4 : Int32)) (irm x4 (16 : Int32))) (fun F158 => (if t0 = 0 then fL_step_512 Z F158 else cl1 (fX6_field_n x5 (0 : Int32) (1 : Int32) Z) (fun v159 => cl1 (fX6_field_n x5 (0 : Int32) (0 : Int32) Z) (fun v161 => gd (gin (4 : Int32) 5) ((if v159 = (v161 - (F158 (Int32.toNatClampNeg (4 : Int32)))) then fL_step_513 (1 : Int32) Z F158 else fL_step_512 Z F158)))))))
noncomputable def fL_step_446 (x4 : Int32) (x5 : Int32) (Z : CZ) (F : Nat → Int32) : Option (Int32 × CZ × (Nat → Int32)) := cl2 (fX6_heat_n (irm x4 (16 : Int32)) Z) (fun v92 Z94 => gd (gin (4 : Int32) 5) ((if v92 = (F (Int32.toNatClampNeg (4 : Int32))) then fL_step_470 x4 x5 (1 : Int32) Z94 F else fL_step_470 x4 x5 (0 : Int32) Z94 F)))
noncomputable def fL_step_542 (t0 : Int32) (Z : CZ) (F : Nat → Int32) : Option (Int32 × CZ × (Nat → Int32)) := gd (gbo t0) (some (t0, Z, F))
noncomputable def fL_step_537 (Z : CZ) (F : Nat → Int32) : Option (Int32 × CZ × (Nat → Int32)) := fL_step_542 (1 : Int32) Z F
noncomputable def fL_step_514 (x5 : Int32) (Z : CZ) (F : Nat → Int32) : Option (Int32 × CZ × (Nat → Int32)) := gd (gin (3 : Int32) 5) (gd (gin (3 : Int32) 5) (bnd (upd F (Int32.toNatClampNeg (3 : Int32)) ((F (Int32.toNatClampNeg (3 : Int32))) + (1 : Int32))) (fun F20 => gd (gin (3 : Int32) 5) ((if (3 : Int32) < (F20 (Int32.toNatClampNeg (3 : Int32))) then fL_step_537 Z F20 else cl2 (fL_isPlanned x5 Z) (fun v22 Z24 => (if v22 = 0 then fL_step_542 (0 : Int32) Z24 F20 else fL_step_537 Z24 F20)))))))
noncomputable def fL_step_658 (t0 : Int32) (Z : CZ) (F : Nat → Int32) : Option (Int32 × CZ × (Nat → Int32)) := gd (gbo t0) (some (t0, Z, F))
noncomputable def fL_step_657 (Z : CZ) (F : Nat → Int32) : Option (Int32 × CZ × (Nat → Int32)) := fL_step_658 (0 : Int32) Z F
noncomputable def fL_step_543 (x6 : Int32) (x7 : Int32) (Z : CZ) (F : Nat → Int32) : Option (Int32 × CZ × (Nat → Int32)) := cl1 (fX6_ofPlayer_n x6 (1 : Int32) Z) (fun v62 => cl2 (fL_acts0 x6 x7 Z) (fun v64 Z66 => (if v64 = (-200 : Int32) then cl1 (fX6_ofPlayer_n x6 (1 : Int32) Z66) (fun v76 => (if v76 = v62 then fL_step_658 (1 : Int32) Z66 F else fL_step_658 (0 : Int32) Z66 F)) else (if (2 : Int32) ≤ v62 then fL_step_657 Z66 F else cl1 (fX6_ofPlayer_n x6 (1 : Int32) Z66) (fun v67 => (if v67 = (v62 + (1 : Int32)) then cl1 (fX6_ofBand_n x7 (0 : Int32) Z66) (fun v69 => (if v64 = (v69 - (1 : Int32)) then cl1 (fX6_seat_n x7 v64 Z66) (fun v71 => (if v71 = x6 then cl2 (fL_acts0 x6 x7 Z66) (fun v73 Z75 => (if v73 = (-200 : Int32) then fL_step_658 (1 : Int32) Z75 F else fL_step_657 Z75 F)) else fL_step_657 Z66 F)) else fL_step_657 Z66 F)) else fL_step_657 Z66 F))))))
noncomputable def fL_step_791 (t0 : Int32) (Z : CZ) (F : Nat → Int32) : Option (Int32 × CZ × (Nat → Int32)) := gd (gbo t0) (some (t0, Z, F))
noncomputable def fL_step_790 (Z : CZ) (F : Nat → Int32) : Option (Int32 × CZ × (Nat → Int32)) := fL_step_791 (0 : Int32) Z F
noncomputable def fL_step_771 (x6 : Int32) (x7 : Int32) (Z : CZ) (F : Nat → Int32) : Option (Int32 × CZ × (Nat → Int32)) := cl2 (fL_acts1 x6 x7 Z) (fun v183 Z185 => (if v183 = (-200 : Int32) then fL_step_791 (1 : Int32) Z185 F else fL_step_790 Z185 F))
noncomputable def fL_step_687 (x6 : Int32) (x7 : Int32) (x14 : Int32) (t0 : Int32) (Z : CZ) (F : Nat → Int32) : Option (Int32 × CZ × (Nat → Int32)) := cl2 (fL_acts1 x6 x7 Z) (fun v129 Z131 => (if v129 = (-200 : Int32) then cl1 (fX6_ofBand_n x7 (0 : Int32) Z131) (fun v136 => (if v136 = x14 then fL_step_791 (1 : Int32) Z131 F else fL_step_791 (0 : Int32) Z131 F)) else (if v129 = (x14 - (1 : Int32)) then cl1 (fX6_ofBand_n x7 (0 : Int32) Z131) (fun v132 => (if v132 = v129 then (if t0 = x6 then fL_step_771 x6 x7 Z131 F else cl1 (fX6_seat_n x7 (v129 - (1 : Int32)) Z131) (fun v134 => (if v134 = t0 then fL_step_771 x6 x7 Z131 F else fL_step_790 Z131 F))) else fL_step_790 Z131 F)) else fL_step_790 Z131 F)))
noncomputable def fL_step_659 (x6 : Int32) (x7 : Int32) (Z : CZ) (F : Nat → Int32) : Option (Int32 × CZ × (Nat → Int32)) := cl1 (fX6_ofBand_n x7 (0 : Int32) Z) (fun v33 => (if v33 = 0 then fL_step_687 x6 x7 v33 (-1 : Int32) Z F else cl1 (fX6_seat_n x7 (v33 - (1 : Int32)) Z) (fun v35 => fL_step_687 x6 x7 v33 v35 Z F)))
noncomputable def fL_step_870 (t0 : Int32) (Z : CZ) (F : Nat → Int32) : Option (Int32 × CZ × (Nat → Int32)) := gd (gbo t0) (some (t0, Z, F))
noncomputable def fL_step_849 (Z : CZ) (F : Nat → Int32) : Option (Int32 × CZ × (Nat → Int32)) := fL_step_870 (0 : Int32) Z F
noncomputable def fL_step_792 (x5 : Int32) (x6 : Int32) (Z : CZ) (F : Nat → Int32) : Option (Int32 × CZ × (Nat → Int32)) := cl1 (fX6_ofPlayer_n x6 (2 : Int32) Z) (fun v37 => cl2 (fL_gives x6 x5 Z) (fun v39 Z41 => (if v39 = 0 then cl1 (fX6_ofPlayer_n x6 (2 : Int32) Z41) (fun v42 => (if v42 = v37 then fL_step_870 (1 : Int32) Z41 F else fL_step_870 (0 : Int32) Z41 F)) else (if v37 = (-1 : Int32) then cl1 (fX6_ofPlayer_n x6 (2 : Int32) Z41) (fun v44 => (if v44 = x5 then cl2 (fL_gives x6 x5 Z41) (fun v46 Z48 => (if v46 = 0 then fL_step_870 (1 : Int32) Z48 F else fL_step_849 Z48 F)) else fL_step_849 Z41 F)) else fL_step_849 Z41 F))))
noncomputable def fL_step_935 (t0 : Int32) (Z : CZ) (F : Nat → Int32) : Option (Int32 × CZ × (Nat → Int32)) := gd (gbo t0) (some (t0, Z, F))
noncomputable def fL_step_934 (Z : CZ) (F : Nat → Int32) : Option (Int32 × CZ × (Nat → Int32)) := fL_step_935 (0 : Int32) Z F
noncomputable def fL_step_871 (x6 : Int32) (Z : CZ) (F : Nat → Int32) : Option (Int32 × CZ × (Nat → Int32)) := cl1 (fX6_ofPlayer_n x6 (2 : Int32) Z) (fun v100 => cl2 (fL_acts2 x6 (0 : Int32) Z) (fun v102 Z104 => (if v102 = (-200 : Int32) then (if v100 = (-1 : Int32) then fL_step_935 (1 : Int32) Z104 F else fL_step_935 (0 : Int32) Z104 F) else (if v102 = v100 then cl1 (fX6_ofPlayer_n x6 (2 : Int32) Z104) (fun v105 => (if v105 = (-1 : Int32) then fL_step_935 (1 : Int32) Z104 F else fL_step_934 Z104 F)) else fL_step_934 Z104 F))))
noncomputable def fL_step_1009 (t0 : Int32) (Z : CZ) (F : Nat → Int32) : Option (Int32 × CZ × (Nat → Int32)) := gd (gbo t0) (some (t0, Z, F))
noncomputable def fL_step_1008 (Z : CZ) (F : Nat → Int32) : Option (Int32 × CZ × (Nat → Int32)) := fL_step_1009 (0 : Int32) Z F
noncomputable def fL_step_936 (x4 : Int32) (x7 : Int32) (Z : CZ) (F : Nat → Int32) : Option (Int32 × CZ × (Nat → Int32)) := cl2 (fL_acts5 x7 (irm x4 (12 : Int32)) Z) (fun v78 Z80 => (if v78 = (-200 : Int32) then cl1 (fX6_ofBand_n x7 (1 : Int32) Z80) (fun v85 => (if v85 = (24 : Int32) then fL_step_1009 (1 : Int32) Z80 F else fL_step_1009 (0 : Int32) Z80 F)) else cl1 (fX6_ofBand_n x7 (1 : Int32) Z80) (fun v81 => (if v78 = v81 then cl1 (fX6_ofBand_n x7 (2 : Int32) Z80) (fun v83 => (if v83 = (v78 / (4 : Int32)) then fL_step_1009 (1 : Int32) Z80 F else fL_step_1008 Z80 F)) else fL_step_1008 Z80 F))))
noncomputable def fL_step_1052 (t0 : Int32) (Z : CZ) (F : Nat → Int32) : Option (Int32 × CZ × (Nat → Int32)) := gd (gbo t0) (some (t0, Z, F))
noncomputable def fL_step_1047 (Z : CZ) (F : Nat → Int32) : Option (Int32 × CZ × (Nat → Int32)) := fL_step_1052 (1 : Int32) Z F
noncomputable def fL_step_1010 (x4 : Int32) (x7 : Int32) (Z : CZ) (F : Nat → Int32) : Option (Int32 × CZ × (Nat → Int32)) := cl1 (fX6_ofBand_n x7 (1 : Int32) Z) (fun v111 => (if v111 = 0 then fL_step_1047 Z F else cl1 (fX6_ofBand_n x7 (1 : Int32) Z) (fun v113 => gd (gnz v113) (cl2 (fL_isChanged x7 (irm x4 v113) (irm (x4 / (24 : Int32)) (12 : Int32)) Z) (fun v116 Z118 => (if v116 = 0 then fL_step_1052 (0 : Int32) Z118 F else fL_step_1047 Z118 F))))))
noncomputable def fL_step_1096 (t0 : Int32) (Z : CZ) (F : Nat → Int32) : Option (Int32 × CZ × (Nat → Int32)) := gd (gbo t0) (some (t0, Z, F))
noncomputable def fL_step_1081 (x7 : Int32) (Z : CZ) (F : Nat → Int32) : Option (Int32 × CZ × (Nat → Int32)) := cl2 (fX6_leaps_n x7 Z) (fun v138 Z140 => (if v138 = (-1 : Int32) then fL_step_1096 (1 : Int32) Z140 F else fL_step_1096 (0 : Int32) Z140 F))
noncomputable def fL_step_1157 (t0 : Int32) (Z : CZ) (F : Nat → Int32) : Option (Int32 × CZ × (Nat → Int32)) := gd (gbo t0) (some (t0, Z, F))
noncomputable def fL_step_1156 (Z : CZ) (F : Nat → Int32) : Option (Int32 × CZ × (Nat → Int32)) := fL_step_1157 (0 : Int32) Z F
noncomputable def fL_step_1053 (x4 : Int32) (x7 : Int32) (Z : CZ) (F : Nat → Int32) : Option (Int32 × CZ × (Nat → Int32)) := cl1 (fX6_ofBand_n x7 (2 : Int32) Z) (fun v49 => cl1 (fX6_ofBand_n x7 (0 : Int32) Z) (fun v51 => (if v49 = 0 then fL_step_1081 x7 Z F else (if v51 = 0 then fL_step_1081 x7 Z F else gd (gnz v51) (gd (gnz v49) (cl2 (fX6_tell_n x7 (irm x4 v51) (irm (x4 / (8 : Int32)) v49) Z) (fun v55 Z57 => (if v55 < 0 then fL_step_1156 Z57 F else (if (3 : Int32) ≤ v55 then fL_step_1156 Z57 F else gd (gnz v51) (gd (gnz v49) (cl1 (fX6_knows_n x7 (irm x4 v51) (irm (x4 / (8 : Int32)) v49) Z57) (fun v60 => (if v60 = (1 : Int32) then fL_step_1157 (1 : Int32) Z57 F else fL_step_1156 Z57 F)))))))))))))
noncomputable def fL_step_1192 (t0 : Int32) (Z : CZ) (F : Nat → Int32) : Option (Int32 × CZ × (Nat → Int32)) := gd (gbo t0) (some (t0, Z, F))
noncomputable def fL_step_1187 (Z : CZ) (F : Nat → Int32) : Option (Int32 × CZ × (Nat → Int32)) := fL_step_1192 (1 : Int32) Z F
noncomputable def fL_step_1158 (x4 : Int32) (x7 : Int32) (Z : CZ) (F : Nat → Int32) : Option (Int32 × CZ × (Nat → Int32)) := cl1 (fX6_ofBand_n x7 (2 : Int32) Z) (fun v25 => (if v25 = 0 then fL_step_1187 Z F else cl1 (fX6_ofBand_n x7 (2 : Int32) Z) (fun v27 => gd (gnz v27) (cl2 (fL_isDrilled x7 (irm x4 v27) Z) (fun v30 Z32 => (if v30 = 0 then fL_step_1192 (0 : Int32) Z32 F else fL_step_1187 Z32 F))))))
noncomputable def fL_step_1265 (t0 : Int32) (Z : CZ) (F : Nat → Int32) : Option (Int32 × CZ × (Nat → Int32)) := gd (gbo t0) (some (t0, Z, F))
noncomputable def fL_step_1260 (Z : CZ) (F : Nat → Int32) : Option (Int32 × CZ × (Nat → Int32)) := fL_step_1265 (1 : Int32) Z F
noncomputable def fL_step_1264 (Z : CZ) (F : Nat → Int32) : Option (Int32 × CZ × (Nat → Int32)) := fL_step_1265 (0 : Int32) Z F
noncomputable def fL_step_1223 (x7 : Int32) (t0 : Int32) (Z : CZ) (F : Nat → Int32) : Option (Int32 × CZ × (Nat → Int32)) := gd (gin (2 : Int32) 5) (gd (gin (2 : Int32) 5) (bnd (upd F (Int32.toNatClampNeg (2 : Int32)) ((F (Int32.toNatClampNeg (2 : Int32))) + t0)) (fun F148 => (if t0 = 0 then fL_step_1260 Z F148 else cl2 (fX6_pass_n t0 Z) (fun v149 Z151 => gd (gin (2 : Int32) 5) ((if v149 = (F148 (Int32.toNatClampNeg (2 : Int32))) then cl1 (fX6_ofBand_n x7 (4 : Int32) Z151) (fun v153 => (if v153 = 0 then fL_step_1260 Z151 F148 else fL_step_1264 Z151 F148)) else fL_step_1264 Z151 F148)))))))
noncomputable def fL_step_1221 (x7 : Int32) (t0 : Int32) (t1 : Int32) (t2 : Int32) (Z : CZ) (F : Nat → Int32) : Option (Int32 × CZ × (Nat → Int32)) := gd (gnz t0) (fL_step_1223 x7 (t2 + (irm t1 t0)) Z F)
noncomputable def fL_step_1193 (x3 : Int32) (x4 : Int32) (x7 : Int32) (Z : CZ) (F : Nat → Int32) : Option (Int32 × CZ × (Nat → Int32)) := gd (gin (2 : Int32) 5) ((if (F (Int32.toNatClampNeg (2 : Int32))) ≤ (900 : Int32) then (if (irm x3 (5 : Int32)) = 0 then fL_step_1221 x7 (30 : Int32) x4 (1 : Int32) Z F else fL_step_1221 x7 (2 : Int32) x4 (1 : Int32) Z F) else fL_step_1223 x7 (0 : Int32) Z F))
noncomputable def fL_step_1266 (x4 : Int32) (x7 : Int32) (Z : CZ) (F : Nat → Int32) : Option (Int32 × CZ × (Nat → Int32)) := cl2 (fL_hasPerformed x7 ((1 : Int32) + (irm x4 (30 : Int32))) Z) (fun v119 Z121 => gd (gbo v119) (some (v119, Z121, F)))
noncomputable def fL_step_1383 (t0 : Int32) (Z : CZ) (F : Nat → Int32) : Option (Int32 × CZ × (Nat → Int32)) := gd (gbo t0) (some (t0, Z, F))
noncomputable def fL_step_1378 (Z : CZ) (F : Nat → Int32) : Option (Int32 × CZ × (Nat → Int32)) := fL_step_1383 (1 : Int32) Z F
noncomputable def fL_step_1382 (Z : CZ) (F : Nat → Int32) : Option (Int32 × CZ × (Nat → Int32)) := fL_step_1383 (0 : Int32) Z F
noncomputable def fL_step_1375 (t0 : Int32) (t1 : Int32) (Z : CZ) (F : Nat → Int32) : Option (Int32 × CZ × (Nat → Int32)) := (if t1 = t0 then fL_step_1378 Z F else fL_step_1382 Z F)
noncomputable def fL_step_1358 (x7 : Int32) (t0 : Int32) (Z : CZ) (F : Nat → Int32) : Option (Int32 × CZ × (Nat → Int32)) := cl1 (fL_scores x7 Z) (fun v155 => (if v155 ≤ (-2000 : Int32) then fL_step_1375 (0 : Int32) t0 Z F else fL_step_1375 (1 : Int32) t0 Z F))
noncomputable def fL_step_1280 (x4 : Int32) (x7 : Int32) (Z : CZ) (F : Nat → Int32) : Option (Int32 × CZ × (Nat → Int32)) := cl2 (fL_marks x7 (irm x4 (5 : Int32)) (irm (x4 / (5 : Int32)) (101 : Int32)) Z) (fun v10 Z12 => (if v10 = (-200 : Int32) then fL_step_1378 Z12 F else (if v10 ≤ 0 then fL_step_1382 Z12 F else (if (6 : Int32) ≤ v10 then fL_step_1382 Z12 F else cl1 (fX6_ofBand_n x7 (3 : Int32) Z12) (fun v13 => (if v13 < 0 then fL_step_1382 Z12 F else cl2 (fL_marks x7 (irm x4 (5 : Int32)) (7 : Int32) Z12) (fun v15 Z17 => (if v15 = (-200 : Int32) then (if v10 = (5 : Int32) then fL_step_1358 x7 (1 : Int32) Z17 F else fL_step_1358 x7 (0 : Int32) Z17 F) else fL_step_1382 Z17 F))))))))
noncomputable def fL_step_1384 (x7 : Int32) (Z : CZ) (F : Nat → Int32) : Option (Int32 × CZ × (Nat → Int32)) := cl2 (fL_areParts x7 Z) (fun v107 Z109 => gd (gbo v107) (some (v107, Z109, F)))
noncomputable def fL_step_64 (x3 : Int32) (x4 : Int32) (x5 : Int32) (x6 : Int32) (x7 : Int32) (t0 : Int32) (Z : CZ) (F : Nat → Int32) : Option (Int32 × CZ × (Nat → Int32)) := (if t0 = (0 : Int32) then fL_step_180 x3 x4 Z F else (if t0 = (1 : Int32) then fL_step_322 x4 Z F else (if t0 = (2 : Int32) then fL_step_412 x4 x5 Z F else (if t0 = (3 : Int32) then fL_step_412 x4 x5 Z F else (if t0 = (4 : Int32) then fL_step_446 x4 x5 Z F else (if t0 = (5 : Int32) then fL_step_514 x5 Z F else (if t0 = (6 : Int32) then fL_step_543 x6 x7 Z F else (if t0 = (7 : Int32) then fL_step_543 x6 x7 Z F else (if t0 = (8 : Int32) then fL_step_543 x6 x7 Z F else (if t0 = (9 : Int32) then fL_step_543 x6 x7 Z F else (if t0 = (10 : Int32) then fL_step_659 x6 x7 Z F else (if t0 = (11 : Int32) then fL_step_792 x5 x6 Z F else (if t0 = (12 : Int32) then fL_step_871 x6 Z F else (if t0 = (13 : Int32) then fL_step_936 x4 x7 Z F else (if t0 = (14 : Int32) then fL_step_936 x4 x7 Z F else (if t0 = (15 : Int32) then fL_step_936 x4 x7 Z F else (if t0 = (16 : Int32) then fL_step_936 x4 x7 Z F else (if t0 = (17 : Int32) then fL_step_1010 x4 x7 Z F else (if t0 = (18 : Int32) then fL_step_1053 x4 x7 Z F else (if t0 = (19 : Int32) then fL_step_1053 x4 x7 Z F else (if t0 = (20 : Int32) then fL_step_1158 x4 x7 Z F else (if t0 = (21 : Int32) then fL_step_1158 x4 x7 Z F else (if t0 = (22 : Int32) then fL_step_1193 x3 x4 x7 Z F else (if t0 = (23 : Int32) then fL_step_1266 x4 x7 Z F else (if t0 = (24 : Int32) then fL_step_1280 x4 x7 Z F else fL_step_1384 x7 Z F)))))))))))))))))))))))))
noncomputable def fL_step_33 (x2 : Int32) (x3 : Int32) (x4 : Int32) (x5 : Int32) (t0 : Int32) (Z : CZ) (F : Nat → Int32) : Option (Int32 × CZ × (Nat → Int32)) := bnd (irm x3 (4 : Int32)) (fun v7 => gd (gin (0 : Int32) 5) ((if (F (Int32.toNatClampNeg (0 : Int32))) = 0 then fL_step_64 x3 x4 x5 t0 v7 (0 : Int32) Z F else gd (gin (1 : Int32) 5) ((if (F (Int32.toNatClampNeg (1 : Int32))) = 0 then fL_step_64 x3 x4 x5 t0 v7 (1 : Int32) Z F else fL_step_64 x3 x4 x5 t0 v7 (irm x2 (26 : Int32)) Z F)))))
noncomputable def fL_step_15 (x2 : Int32) (x3 : Int32) (x4 : Int32) (t0 : Int32) (Z : CZ) (F : Nat → Int32) : Option (Int32 × CZ × (Nat → Int32)) := gd (gin (1 : Int32) 5) ((if (F (Int32.toNatClampNeg (1 : Int32))) = 0 then fL_step_33 x2 x3 x4 t0 (0 : Int32) Z F else gd (gin (1 : Int32) 5) (gd (gnz (F (Int32.toNatClampNeg (1 : Int32)))) (fL_step_33 x2 x3 x4 t0 (irm x4 (F (Int32.toNatClampNeg (1 : Int32)))) Z F))))
noncomputable def fL_step (a3 : Int32) (a4 : Int32) (a5 : Int32) (Z : CZ) (F : Nat → Int32) : Option (Int32 × CZ × (Nat → Int32)) := gd (gin (0 : Int32) 5) ((if (F (Int32.toNatClampNeg (0 : Int32))) = 0 then fL_step_15 a3 a4 a5 (0 : Int32) Z F else gd (gin (0 : Int32) 5) (gd (gnz (F (Int32.toNatClampNeg (0 : Int32)))) (fL_step_15 a3 a4 a5 (irm a4 (F (Int32.toNatClampNeg (0 : Int32)))) Z F))))
def rmL_step : Room := { frames := 17, cells := 28, slots := 168, locals := 604 }
set_option maxHeartbeats 8000000 in
set_option maxRecDepth 100000 in
theorem mL_step (l : Launch) (hfl : l.stackTraces = false) (D : va_G) (G : CGT) (A : Nat → Prop) (ad0 : Nat → Nat → Nat) (Z : CZ) (q : Nat) (F : Nat → Int32) (a3 : Int32) (a4 : Int32) (a5 : Int32) (rz : Int32) (Zz : CZ) (Fz : Nat → Int32) (h : fL_step a3 a4 a5 Z F = some (rz, Zz, Fz)) : Met l yL_step wsL_step rmL_step (va_Pc [.ref (ad0 0 0), .ref q, .int a3, .int a4, .int a5] (sP D G A ad0 Z q 5 F)) (sQ D G A ad0 rz Zz q 5 Fz) 28 168 (fun y => A y ∨ y = q) := by
  refine Met.ofW (cc := cL_step) (maxL := 27) (ret := some .boolean) (by decide) rfl ?_
  intro p e s m args below meth c s₁ B hml hv
  obtain ⟨rfl, ⟨⟨hI, hN, hK⟩, hE⟩, hF, hA, hq, hnq⟩ := hv
  have hx := B.exec
  have hb := B.bytes
  have hr := B.returns
  have hts := atoms_spec (ws := wsL_step) B.pre
  have hown : s.vm.findClass RL = some m.cls := findClass_of_methodNamed B.named
  have hlocks := B.notSynchronized
  have hS : va_S (fun y => A y ∨ y = q) s.heap s.heap [] := va_S.rf
  have hl := lv_entry ([.ref (ad0 0 0), .ref q, .int a3, .int a4, .int a5]) (n := 27) (Nat.le_of_ble_eq_true rfl)
  rw [lg_entry_eq]
  generalize (lg_sl ([.ref (ad0 0 0), .ref q, .int a3, .int a4, .int a5]) ++ List.replicate (27 - (lg_sl ([.ref (ad0 0 0), .ref q, .int a3, .int a4, .int a5])).length) Slot.unset).toArray = ls at hl ⊢
  have hl : lv_has ls 27 [(0, .ref (ad0 0 0)), (1, .ref q), (2, .int a3), (3, .int a4), (4, .int a5)] := hl
  have w321 : ∀ (t0 : Int32) (Z : CZ) (F : Nat → Int32), fL_step_321  t0 Z F = some (rz, Zz, Fz) → sG p l e (headSpec wsL_step rmL_step).room s m (([.ref (ad0 0 0), .ref q, .int a3, .int a4, .int a5] : List Value).toArray) below meth c (MQ below (sQ D G A ad0 rz Zz q 5 Fz) (([.ref (ad0 0 0), .ref q, .int a3, .int a4, .int a5] : List Value).toArray) s 28 168 (fun y => A y ∨ y = q)) D G (fun y => A y ∨ y = q) A ad0 q 5 16 96 27 Z F 321 [] [.int t0] := by
    intro  t0 Z F h H locs ls ad h00 hI hN hq hS hl
    unfold fL_step_321 at h
    obtain ⟨g189, h⟩ := gd_ok h
    refine W.widen (k := 28) (n := 168) (by decide) (by decide) ?_
    exact W.zret hx hb hr (gbo_ok g189) (sg_end h h00 hI hK hN hq hS) (fun z hz => hS.2.2 z hz) dL_step_321
  have w320 : ∀ (Z : CZ) (F : Nat → Int32), fL_step_320  Z F = some (rz, Zz, Fz) → sG p l e (headSpec wsL_step rmL_step).room s m (([.ref (ad0 0 0), .ref q, .int a3, .int a4, .int a5] : List Value).toArray) below meth c (MQ below (sQ D G A ad0 rz Zz q 5 Fz) (([.ref (ad0 0 0), .ref q, .int a3, .int a4, .int a5] : List Value).toArray) s 28 168 (fun y => A y ∨ y = q)) D G (fun y => A y ∨ y = q) A ad0 q 5 16 96 27 Z F 320 [] [] := by
    intro  Z F h H locs ls ad h00 hI hN hq hS hl
    unfold fL_step_320 at h
    refine lv_iconst (v := (0 : Int32)) hx hb dL_step_320 (by decide) ?_
    exact w321  (0 : Int32) Z F h _ _ _ _ h00 hI hN hq hS (lv_sub hl [] rfl)
  have w236 : ∀ (x3 : Int32) (x4 : Int32) (x8 : Int32) (t0 : Int32) (t1 : Int32) (t2 : Int32) (Z : CZ) (F : Nat → Int32), fL_step_236  x3 x4 x8 t0 t1 t2 Z F = some (rz, Zz, Fz) → sG p l e (headSpec wsL_step rmL_step).room s m (([.ref (ad0 0 0), .ref q, .int a3, .int a4, .int a5] : List Value).toArray) below meth c (MQ below (sQ D G A ad0 rz Zz q 5 Fz) (([.ref (ad0 0 0), .ref q, .int a3, .int a4, .int a5] : List Value).toArray) s 28 168 (fun y => A y ∨ y = q)) D G (fun y => A y ∨ y = q) A ad0 q 5 16 96 27 Z F 236 [(0, .ref (ad0 0 0)), (1, .ref q), (3, .int x3), (4, .int x4), (8, .int x8)] [.int t0, .int t1, .int t2, .ref q] := by
    intro  x3 x4 x8 t0 t1 t2 Z F h H locs ls ad h00 hI hN hq hS hl
    unfold fL_step_236 at h
    refine lv_iadd hx hb dL_step_236 ?_
    obtain ⟨g173, h⟩ := gd_ok h
    obtain ⟨F174, eF174⟩ : ∃ y : Nat → Int32, y = (upd F (Int32.toNatClampNeg t2) (t1 + t0)) := ⟨_, rfl⟩
    have h := bnd_ok h eF174
    refine sg_ist hx hb hK hI hN hq hnq hS (Or.inr rfl) (gin_ok g173) eF174 dL_step_237 (fun H locs hN hq hS => ?_)
    refine lv_iload hx hb dL_step_238 (lv_at hl 4 rfl) ?_
    refine lv_sipush (v := (-200 : Int32)) hx hb dL_step_240 (by decide) ?_
    refine lv_icmp_ne (tgt := 262) hx hb dL_step_243 (by decide) (fun hc => ?_) (fun hc => ?_)
    · have h := ite_f h hc
      refine lv_iload hx hb dL_step_262 (lv_at hl 4 rfl) ?_
      refine lv_aload_n hx hb dL_step_264 rfl (lv_at hl 1 rfl) ?_
      refine lv_iconst (v := (0 : Int32)) hx hb dL_step_265 (by decide) ?_
      obtain ⟨g175, h⟩ := gd_ok h
      refine sg_ild hx hb hK hq (gin_ok g175) dL_step_266 ?_
      refine lv_iconst (v := (1 : Int32)) hx hb dL_step_267 (by decide) ?_
      refine lv_isub hx hb dL_step_268 ?_
      refine lv_icmp_ne (tgt := 320) hx hb dL_step_269 (by decide) (fun hc => ?_) (fun hc => ?_)
      · have h := ite_f h hc
        exact w320  Z F174 h _ _ _ _ h00 hI hN hq hS (lv_sub hl [] rfl)
      · have h := ite_t h hc
        refine lv_aload_n hx hb dL_step_272 rfl (lv_at hl 0 rfl) ?_
        refine lv_iload hx hb dL_step_273 (lv_at hl 4 rfl) ?_
        refine lv_iconst (v := (0 : Int32)) hx hb dL_step_275 (by decide) ?_
        refine lv_iconst (v := (0 : Int32)) hx hb dL_step_276 (by decide) ?_
        refine W_stk (st' := [.int (0 : Int32), .int (0 : Int32), .int x8, .ref (ad 0 0)]) (by rw [h00]) ?_
        obtain ⟨v176, c177, h⟩ := cl1_ok h
        refine sg_calli (va_runV (As := [.int x8, .int (0 : Int32), .int (0 : Int32)]) (rest := []) ⟨hx, hb, hml, hown, hts⟩ (mX6_field_n l D G A ad Z x8 (0 : Int32) (0 : Int32) v176  c177) (cwV 3 hts gL_step_X6_field rfl rfl rfl (by decide +kernel) ⟨Nat.le_of_ble_eq_true rfl, Nat.le_of_ble_eq_true rfl⟩) (cg_preV hI hK hN rfl rfl (ci := 7) rfl) rfl rfl hl.1 rfl (lv_room (Nat.le_of_ble_eq_true rfl)) dL_step_277 ⟨Nat.le_of_ble_eq_true rfl, Nat.le_of_ble_eq_true rfl⟩) hS (fun _ h => Or.inl h) hq hnq ⟨_, rfl⟩ (fun H locs hI hN hq hS => ?_)
        refine W.widen (k := 16) (n := 96) (by decide) (by decide) ?_
        refine lv_iload_n hx hb dL_step_280 rfl (lv_at hl 2 rfl) ?_
        refine lv_bipush (v := (41 : Int32)) hx hb dL_step_281 (by decide) ?_
        refine lv_irm hx hb dL_step_283 (by decide) ?_
        refine lv_bipush (v := (20 : Int32)) hx hb dL_step_284 (by decide) ?_
        refine lv_isub hx hb dL_step_286 ?_
        refine lv_icmp_ne (tgt := 320) hx hb dL_step_287 (by decide) (fun hc => ?_) (fun hc => ?_)
        · have h := ite_f h hc
          exact w320  Z F174 h _ _ _ _ h00 hI hN hq hS (lv_sub hl [] rfl)
        · have h := ite_t h hc
          refine lv_aload_n hx hb dL_step_290 rfl (lv_at hl 0 rfl) ?_
          refine lv_iload hx hb dL_step_291 (lv_at hl 4 rfl) ?_
          refine lv_iconst (v := (3 : Int32)) hx hb dL_step_293 (by decide) ?_
          refine lv_iconst (v := (1 : Int32)) hx hb dL_step_294 (by decide) ?_
          refine W_stk (st' := [.int (1 : Int32), .int (3 : Int32), .int x8, .ref (ad 0 0)]) (by rw [h00]) ?_
          obtain ⟨v178, c179, h⟩ := cl1_ok h
          refine sg_calli (va_runV (As := [.int x8, .int (3 : Int32), .int (1 : Int32)]) (rest := []) ⟨hx, hb, hml, hown, hts⟩ (mX6_field_n l D G A ad Z x8 (3 : Int32) (1 : Int32) v178  c179) (cwV 3 hts gL_step_X6_field rfl rfl rfl (by decide +kernel) ⟨Nat.le_of_ble_eq_true rfl, Nat.le_of_ble_eq_true rfl⟩) (cg_preV hI hK hN rfl rfl (ci := 7) rfl) rfl rfl hl.1 rfl (lv_room (Nat.le_of_ble_eq_true rfl)) dL_step_295 ⟨Nat.le_of_ble_eq_true rfl, Nat.le_of_ble_eq_true rfl⟩) hS (fun _ h => Or.inl h) hq hnq ⟨_, rfl⟩ (fun H locs hI hN hq hS => ?_)
          refine W.widen (k := 16) (n := 96) (by decide) (by decide) ?_
          refine lv_iload hx hb dL_step_298 (lv_at hl 3 rfl) ?_
          refine lv_bipush (v := (41 : Int32)) hx hb dL_step_300 (by decide) ?_
          refine lv_idiv hx hb dL_step_302 (by decide) ?_
          refine lv_bipush (v := (41 : Int32)) hx hb dL_step_303 (by decide) ?_
          refine lv_irm hx hb dL_step_305 (by decide) ?_
          refine lv_bipush (v := (20 : Int32)) hx hb dL_step_306 (by decide) ?_
          refine lv_isub hx hb dL_step_308 ?_
          refine lv_aload_n hx hb dL_step_309 rfl (lv_at hl 1 rfl) ?_
          refine lv_iconst (v := (4 : Int32)) hx hb dL_step_310 (by decide) ?_
          obtain ⟨g180, h⟩ := gd_ok h
          refine sg_ild hx hb hK hq (gin_ok g180) dL_step_311 ?_
          refine lv_isub hx hb dL_step_312 ?_
          refine lv_icmp_ne (tgt := 320) hx hb dL_step_313 (by decide) (fun hc => ?_) (fun hc => ?_)
          · have h := ite_f h hc
            exact w320  Z F174 h _ _ _ _ h00 hI hN hq hS (lv_sub hl [] rfl)
          · have h := ite_t h hc
            refine lv_iconst (v := (1 : Int32)) hx hb dL_step_316 (by decide) ?_
            refine lv_goto (tgt := 321) hx hb dL_step_317 (by decide) ?_
            exact w321  (1 : Int32) Z F174 h _ _ _ _ h00 hI hN hq hS (lv_sub hl [] rfl)
    · have h := ite_t h hc
      refine lv_aload_n hx hb dL_step_246 rfl (lv_at hl 1 rfl) ?_
      refine lv_iconst (v := (0 : Int32)) hx hb dL_step_247 (by decide) ?_
      obtain ⟨g181, h⟩ := gd_ok h
      refine sg_ild hx hb hK hq (gin_ok g181) dL_step_248 ?_
      refine lv_bipush (v := (6 : Int32)) hx hb dL_step_249 (by decide) ?_
      refine lv_icmp_ne (tgt := 258) hx hb dL_step_251 (by decide) (fun hc => ?_) (fun hc => ?_)
      · have h := ite_f h hc
        refine lv_iconst (v := (0 : Int32)) hx hb dL_step_258 (by decide) ?_
        refine lv_goto (tgt := 321) hx hb dL_step_259 (by decide) ?_
        exact w321  (0 : Int32) Z F174 h _ _ _ _ h00 hI hN hq hS (lv_sub hl [] rfl)
      · have h := ite_t h hc
        refine lv_iconst (v := (1 : Int32)) hx hb dL_step_254 (by decide) ?_
        refine lv_goto (tgt := 321) hx hb dL_step_255 (by decide) ?_
        exact w321  (1 : Int32) Z F174 h _ _ _ _ h00 hI hN hq hS (lv_sub hl [] rfl)
  have w180 : ∀ (x3 : Int32) (x4 : Int32) (Z : CZ) (F : Nat → Int32), fL_step_180  x3 x4 Z F = some (rz, Zz, Fz) → sG p l e (headSpec wsL_step rmL_step).room s m (([.ref (ad0 0 0), .ref q, .int a3, .int a4, .int a5] : List Value).toArray) below meth c (MQ below (sQ D G A ad0 rz Zz q 5 Fz) (([.ref (ad0 0 0), .ref q, .int a3, .int a4, .int a5] : List Value).toArray) s 28 168 (fun y => A y ∨ y = q)) D G (fun y => A y ∨ y = q) A ad0 q 5 0 0 27 Z F 180 [(0, .ref (ad0 0 0)), (1, .ref q), (3, .int x3), (4, .int x4)] [] := by
    intro  x3 x4 Z F h H locs ls ad h00 hI hN hq hS hl
    unfold fL_step_180 at h
    refine lv_aload_n hx hb dL_step_180 rfl (lv_at hl 0 rfl) ?_
    refine lv_iload_n hx hb dL_step_181 rfl (lv_at hl 2 rfl) ?_
    refine lv_bipush (v := (41 : Int32)) hx hb dL_step_182 (by decide) ?_
    refine lv_irm hx hb dL_step_184 (by decide) ?_
    refine lv_bipush (v := (20 : Int32)) hx hb dL_step_185 (by decide) ?_
    refine lv_isub hx hb dL_step_187 ?_
    refine lv_iload_n hx hb dL_step_188 rfl (lv_at hl 2 rfl) ?_
    refine lv_bipush (v := (41 : Int32)) hx hb dL_step_189 (by decide) ?_
    refine lv_idiv hx hb dL_step_191 (by decide) ?_
    refine lv_bipush (v := (41 : Int32)) hx hb dL_step_192 (by decide) ?_
    refine lv_irm hx hb dL_step_194 (by decide) ?_
    refine lv_bipush (v := (20 : Int32)) hx hb dL_step_195 (by decide) ?_
    refine lv_isub hx hb dL_step_197 ?_
    refine lv_iload hx hb dL_step_198 (lv_at hl 3 rfl) ?_
    refine lv_bipush (v := (41 : Int32)) hx hb dL_step_200 (by decide) ?_
    refine lv_irm hx hb dL_step_202 (by decide) ?_
    refine lv_bipush (v := (20 : Int32)) hx hb dL_step_203 (by decide) ?_
    refine lv_isub hx hb dL_step_205 ?_
    refine lv_iload hx hb dL_step_206 (lv_at hl 3 rfl) ?_
    refine lv_bipush (v := (41 : Int32)) hx hb dL_step_208 (by decide) ?_
    refine lv_idiv hx hb dL_step_210 (by decide) ?_
    refine lv_bipush (v := (41 : Int32)) hx hb dL_step_211 (by decide) ?_
    refine lv_irm hx hb dL_step_213 (by decide) ?_
    refine lv_bipush (v := (20 : Int32)) hx hb dL_step_214 (by decide) ?_
    refine lv_isub hx hb dL_step_216 ?_
    refine W_stk (st' := [.int ((irm (x4 / (41 : Int32)) (41 : Int32)) - (20 : Int32)), .int ((irm x4 (41 : Int32)) - (20 : Int32)), .int ((irm (x3 / (41 : Int32)) (41 : Int32)) - (20 : Int32)), .int ((irm x3 (41 : Int32)) - (20 : Int32)), .ref (ad 0 0)]) (by rw [h00]) ?_
    obtain ⟨v88, Z90, c89, h⟩ := cl2_ok h
    refine sg_callg (vx_runSX (As := [.ref (ad 0 0), .int ((irm x3 (41 : Int32)) - (20 : Int32)), .int ((irm (x3 / (41 : Int32)) (41 : Int32)) - (20 : Int32)), .int ((irm x4 (41 : Int32)) - (20 : Int32)), .int ((irm (x4 / (41 : Int32)) (41 : Int32)) - (20 : Int32))]) (rest := []) ⟨hx, hb, hml, hown, hts⟩ (mL_pans l hfl D G A ad Z ((irm x3 (41 : Int32)) - (20 : Int32)) ((irm (x3 / (41 : Int32)) (41 : Int32)) - (20 : Int32)) ((irm x4 (41 : Int32)) - (20 : Int32)) ((irm (x4 / (41 : Int32)) (41 : Int32)) - (20 : Int32)) v88 Z90 c89) (vx_cwSW 5 hts gL_step_L_pans rfl rfl rfl (by decide +kernel) ⟨Nat.le_of_ble_eq_true rfl, Nat.le_of_ble_eq_true rfl⟩) (ag_preS hI hK hN hE hF hA hS (fun _ h => Or.inl h)) rfl rfl hl.1 rfl (lv_room (Nat.le_of_ble_eq_true rfl)) dL_step_217 ⟨Nat.le_of_ble_eq_true rfl, Nat.le_of_ble_eq_true rfl⟩) hS (fun _ h => Or.inl h) hq hnq h00 (fun H locs ad h00 hI hN hq hS => ?_)
    refine W.widen (k := 16) (n := 96) (by decide) (by decide) ?_
    refine lv_istore (lv' := [(8, .int v88), (0, .ref (ad0 0 0)), (1, .ref q), (3, .int x3), (4, .int x4)]) hx hb dL_step_220 hl (by decide) rfl (fun ls hl => ?_)
    refine lv_aload_n hx hb dL_step_222 rfl (lv_at hl 2 rfl) ?_
    refine lv_iconst (v := (0 : Int32)) hx hb dL_step_223 (by decide) ?_
    refine lv_dup2_11 hx hb dL_step_224 rfl rfl ?_
    obtain ⟨g91, h⟩ := gd_ok h
    refine sg_ild hx hb hK hq (gin_ok g91) dL_step_225 ?_
    refine lv_iload hx hb dL_step_226 (lv_at hl 0 rfl) ?_
    refine lv_if_ge (tgt := 235) hx hb dL_step_228 (by decide) (fun hc => ?_) (fun hc => ?_)
    · have h := ite_t h hc
      refine lv_iconst (v := (1 : Int32)) hx hb dL_step_235 (by decide) ?_
      exact w236  x3 x4 v88 (1 : Int32) (F (Int32.toNatClampNeg (0 : Int32))) (0 : Int32) Z90 F h _ _ _ _ h00 hI hN hq hS (lv_sub hl [1, 2, 3, 4, 0] rfl)
    · have h := ite_f h hc
      refine lv_iconst (v := (0 : Int32)) hx hb dL_step_231 (by decide) ?_
      refine lv_goto (tgt := 236) hx hb dL_step_232 (by decide) ?_
      exact w236  x3 x4 v88 (0 : Int32) (F (Int32.toNatClampNeg (0 : Int32))) (0 : Int32) Z90 F h _ _ _ _ h00 hI hN hq hS (lv_sub hl [1, 2, 3, 4, 0] rfl)
  have w411 : ∀ (t0 : Int32) (Z : CZ) (F : Nat → Int32), fL_step_411  t0 Z F = some (rz, Zz, Fz) → sG p l e (headSpec wsL_step rmL_step).room s m (([.ref (ad0 0 0), .ref q, .int a3, .int a4, .int a5] : List Value).toArray) below meth c (MQ below (sQ D G A ad0 rz Zz q 5 Fz) (([.ref (ad0 0 0), .ref q, .int a3, .int a4, .int a5] : List Value).toArray) s 28 168 (fun y => A y ∨ y = q)) D G (fun y => A y ∨ y = q) A ad0 q 5 10 60 27 Z F 411 [] [.int t0] := by
    intro  t0 Z F h H locs ls ad h00 hI hN hq hS hl
    unfold fL_step_411 at h
    obtain ⟨g188, h⟩ := gd_ok h
    refine W.widen (k := 28) (n := 168) (by decide) (by decide) ?_
    exact W.zret hx hb hr (gbo_ok g188) (sg_end h h00 hI hK hN hq hS) (fun z hz => hS.2.2 z hz) dL_step_411
  have w410 : ∀ (Z : CZ) (F : Nat → Int32), fL_step_410  Z F = some (rz, Zz, Fz) → sG p l e (headSpec wsL_step rmL_step).room s m (([.ref (ad0 0 0), .ref q, .int a3, .int a4, .int a5] : List Value).toArray) below meth c (MQ below (sQ D G A ad0 rz Zz q 5 Fz) (([.ref (ad0 0 0), .ref q, .int a3, .int a4, .int a5] : List Value).toArray) s 28 168 (fun y => A y ∨ y = q)) D G (fun y => A y ∨ y = q) A ad0 q 5 10 60 27 Z F 410 [] [] := by
    intro  Z F h H locs ls ad h00 hI hN hq hS hl
    unfold fL_step_410 at h
    refine lv_iconst (v := (0 : Int32)) hx hb dL_step_410 (by decide) ?_
    exact w411  (0 : Int32) Z F h _ _ _ _ h00 hI hN hq hS (lv_sub hl [] rfl)
  have w349 : ∀ (x9 : Int32) (t0 : Int32) (t1 : Int32) (t2 : Int32) (Z : CZ) (F : Nat → Int32), fL_step_349  x9 t0 t1 t2 Z F = some (rz, Zz, Fz) → sG p l e (headSpec wsL_step rmL_step).room s m (([.ref (ad0 0 0), .ref q, .int a3, .int a4, .int a5] : List Value).toArray) below meth c (MQ below (sQ D G A ad0 rz Zz q 5 Fz) (([.ref (ad0 0 0), .ref q, .int a3, .int a4, .int a5] : List Value).toArray) s 28 168 (fun y => A y ∨ y = q)) D G (fun y => A y ∨ y = q) A ad0 q 5 10 60 27 Z F 349 [(0, .ref (ad0 0 0)), (1, .ref q), (9, .int x9)] [.int t0, .int t1, .int t2, .ref q] := by
    intro  x9 t0 t1 t2 Z F h H locs ls ad h00 hI hN hq hS hl
    unfold fL_step_349 at h
    refine lv_iadd hx hb dL_step_349 ?_
    obtain ⟨g164, h⟩ := gd_ok h
    obtain ⟨F165, eF165⟩ : ∃ y : Nat → Int32, y = (upd F (Int32.toNatClampNeg t2) (t1 + t0)) := ⟨_, rfl⟩
    have h := bnd_ok h eF165
    refine sg_ist hx hb hK hI hN hq hnq hS (Or.inr rfl) (gin_ok g164) eF165 dL_step_350 (fun H locs hN hq hS => ?_)
    refine lv_iload hx hb dL_step_351 (lv_at hl 2 rfl) ?_
    refine lv_sipush (v := (-200 : Int32)) hx hb dL_step_353 (by decide) ?_
    refine lv_icmp_ne (tgt := 375) hx hb dL_step_356 (by decide) (fun hc => ?_) (fun hc => ?_)
    · have h := ite_f h hc
      refine lv_iload hx hb dL_step_375 (lv_at hl 2 rfl) ?_
      refine lv_aload_n hx hb dL_step_377 rfl (lv_at hl 1 rfl) ?_
      refine lv_iconst (v := (1 : Int32)) hx hb dL_step_378 (by decide) ?_
      obtain ⟨g166, h⟩ := gd_ok h
      refine sg_ild hx hb hK hq (gin_ok g166) dL_step_379 ?_
      refine lv_iconst (v := (1 : Int32)) hx hb dL_step_380 (by decide) ?_
      refine lv_isub hx hb dL_step_381 ?_
      refine lv_icmp_ne (tgt := 410) hx hb dL_step_382 (by decide) (fun hc => ?_) (fun hc => ?_)
      · have h := ite_f h hc
        exact w410  Z F165 h _ _ _ _ h00 hI hN hq hS (lv_sub hl [] rfl)
      · have h := ite_t h hc
        refine lv_aload_n hx hb dL_step_385 rfl (lv_at hl 0 rfl) ?_
        refine lv_iload hx hb dL_step_386 (lv_at hl 2 rfl) ?_
        refine lv_iconst (v := (1 : Int32)) hx hb dL_step_388 (by decide) ?_
        refine W_stk (st' := [.int (1 : Int32), .int x9, .ref (ad 0 0)]) (by rw [h00]) ?_
        obtain ⟨v167, c168, h⟩ := cl1_ok h
        refine sg_calli (va_runV (As := [.int x9, .int (1 : Int32)]) (rest := []) ⟨hx, hb, hml, hown, hts⟩ (mX6_ofPlayer_n l D G A ad Z x9 (1 : Int32) v167  c168) (cwV 2 hts gL_step_X6_ofPlayer rfl rfl rfl (by decide +kernel) ⟨Nat.le_of_ble_eq_true rfl, Nat.le_of_ble_eq_true rfl⟩) (cg_preV hI hK hN rfl rfl (ci := 7) rfl) rfl rfl hl.1 rfl (lv_room (Nat.le_of_ble_eq_true rfl)) dL_step_389 ⟨Nat.le_of_ble_eq_true rfl, Nat.le_of_ble_eq_true rfl⟩) hS (fun _ h => Or.inl h) hq hnq ⟨_, rfl⟩ (fun H locs hI hN hq hS => ?_)
        refine W.widen (k := 10) (n := 60) (by decide) (by decide) ?_
        refine lv_if_ne (tgt := 410) hx hb dL_step_392 (by decide) (fun hc => ?_) (fun hc => ?_)
        · have h := ite_f h hc
          exact w410  Z F165 h _ _ _ _ h00 hI hN hq hS (lv_sub hl [] rfl)
        · have h := ite_t h hc
          refine lv_aload_n hx hb dL_step_395 rfl (lv_at hl 0 rfl) ?_
          refine lv_iload hx hb dL_step_396 (lv_at hl 2 rfl) ?_
          refine lv_iconst (v := (2 : Int32)) hx hb dL_step_398 (by decide) ?_
          refine W_stk (st' := [.int (2 : Int32), .int x9, .ref (ad 0 0)]) (by rw [h00]) ?_
          obtain ⟨v169, c170, h⟩ := cl1_ok h
          refine sg_calli (va_runV (As := [.int x9, .int (2 : Int32)]) (rest := []) ⟨hx, hb, hml, hown, hts⟩ (mX6_ofPlayer_n l D G A ad Z x9 (2 : Int32) v169  c170) (cwV 2 hts gL_step_X6_ofPlayer rfl rfl rfl (by decide +kernel) ⟨Nat.le_of_ble_eq_true rfl, Nat.le_of_ble_eq_true rfl⟩) (cg_preV hI hK hN rfl rfl (ci := 7) rfl) rfl rfl hl.1 rfl (lv_room (Nat.le_of_ble_eq_true rfl)) dL_step_399 ⟨Nat.le_of_ble_eq_true rfl, Nat.le_of_ble_eq_true rfl⟩) hS (fun _ h => Or.inl h) hq hnq ⟨_, rfl⟩ (fun H locs hI hN hq hS => ?_)
          refine W.widen (k := 10) (n := 60) (by decide) (by decide) ?_
          refine lv_iconst (v := (-1 : Int32)) hx hb dL_step_402 (by decide) ?_
          refine lv_icmp_ne (tgt := 410) hx hb dL_step_403 (by decide) (fun hc => ?_) (fun hc => ?_)
          · have h := ite_f h hc
            exact w410  Z F165 h _ _ _ _ h00 hI hN hq hS (lv_sub hl [] rfl)
          · have h := ite_t h hc
            refine lv_iconst (v := (1 : Int32)) hx hb dL_step_406 (by decide) ?_
            refine lv_goto (tgt := 411) hx hb dL_step_407 (by decide) ?_
            exact w411  (1 : Int32) Z F165 h _ _ _ _ h00 hI hN hq hS (lv_sub hl [] rfl)
    · have h := ite_t h hc
      refine lv_aload_n hx hb dL_step_359 rfl (lv_at hl 1 rfl) ?_
      refine lv_iconst (v := (1 : Int32)) hx hb dL_step_360 (by decide) ?_
      obtain ⟨g171, h⟩ := gd_ok h
      refine sg_ild hx hb hK hq (gin_ok g171) dL_step_361 ?_
      refine lv_bipush (v := (16 : Int32)) hx hb dL_step_362 (by decide) ?_
      refine lv_icmp_ne (tgt := 371) hx hb dL_step_364 (by decide) (fun hc => ?_) (fun hc => ?_)
      · have h := ite_f h hc
        refine lv_iconst (v := (0 : Int32)) hx hb dL_step_371 (by decide) ?_
        refine lv_goto (tgt := 411) hx hb dL_step_372 (by decide) ?_
        exact w411  (0 : Int32) Z F165 h _ _ _ _ h00 hI hN hq hS (lv_sub hl [] rfl)
      · have h := ite_t h hc
        refine lv_iconst (v := (1 : Int32)) hx hb dL_step_367 (by decide) ?_
        refine lv_goto (tgt := 411) hx hb dL_step_368 (by decide) ?_
        exact w411  (1 : Int32) Z F165 h _ _ _ _ h00 hI hN hq hS (lv_sub hl [] rfl)
  have w322 : ∀ (x4 : Int32) (Z : CZ) (F : Nat → Int32), fL_step_322  x4 Z F = some (rz, Zz, Fz) → sG p l e (headSpec wsL_step rmL_step).room s m (([.ref (ad0 0 0), .ref q, .int a3, .int a4, .int a5] : List Value).toArray) below meth c (MQ below (sQ D G A ad0 rz Zz q 5 Fz) (([.ref (ad0 0 0), .ref q, .int a3, .int a4, .int a5] : List Value).toArray) s 28 168 (fun y => A y ∨ y = q)) D G (fun y => A y ∨ y = q) A ad0 q 5 0 0 27 Z F 322 [(0, .ref (ad0 0 0)), (1, .ref q), (4, .int x4)] [] := by
    intro  x4 Z F h H locs ls ad h00 hI hN hq hS hl
    unfold fL_step_322 at h
    refine lv_aload_n hx hb dL_step_322 rfl (lv_at hl 0 rfl) ?_
    refine lv_iload hx hb dL_step_323 (lv_at hl 2 rfl) ?_
    refine lv_iconst (v := (2 : Int32)) hx hb dL_step_325 (by decide) ?_
    refine lv_irm hx hb dL_step_326 (by decide) ?_
    refine lv_iconst (v := (0 : Int32)) hx hb dL_step_327 (by decide) ?_
    refine lv_bipush (v := (6 : Int32)) hx hb dL_step_328 (by decide) ?_
    refine W_stk (st' := [.int (6 : Int32), .int (0 : Int32), .int (irm x4 (2 : Int32)), .ref (ad 0 0)]) (by rw [h00]) ?_
    obtain ⟨v96, Z98, c97, h⟩ := cl2_ok h
    refine sg_callg (vx_runSX (As := [.ref (ad 0 0), .int (irm x4 (2 : Int32)), .int (0 : Int32), .int (6 : Int32)]) (rest := []) ⟨hx, hb, hml, hown, hts⟩ (mL_acts6 l hfl D G A ad Z (irm x4 (2 : Int32)) (0 : Int32) v96 Z98 c97) (vx_cwSW 4 hts gL_step_L_acts rfl rfl rfl (by decide +kernel) ⟨Nat.le_of_ble_eq_true rfl, Nat.le_of_ble_eq_true rfl⟩) (ag_preS hI hK hN hE hF hA hS (fun _ h => Or.inl h)) rfl rfl hl.1 rfl (lv_room (Nat.le_of_ble_eq_true rfl)) dL_step_330 ⟨Nat.le_of_ble_eq_true rfl, Nat.le_of_ble_eq_true rfl⟩) hS (fun _ h => Or.inl h) hq hnq h00 (fun H locs ad h00 hI hN hq hS => ?_)
    refine W.widen (k := 10) (n := 60) (by decide) (by decide) ?_
    refine lv_istore (lv' := [(9, .int v96), (0, .ref (ad0 0 0)), (1, .ref q), (4, .int x4)]) hx hb dL_step_333 hl (by decide) rfl (fun ls hl => ?_)
    refine lv_aload_n hx hb dL_step_335 rfl (lv_at hl 2 rfl) ?_
    refine lv_iconst (v := (1 : Int32)) hx hb dL_step_336 (by decide) ?_
    refine lv_dup2_11 hx hb dL_step_337 rfl rfl ?_
    obtain ⟨g99, h⟩ := gd_ok h
    refine sg_ild hx hb hK hq (gin_ok g99) dL_step_338 ?_
    refine lv_iload hx hb dL_step_339 (lv_at hl 0 rfl) ?_
    refine lv_if_ge (tgt := 348) hx hb dL_step_341 (by decide) (fun hc => ?_) (fun hc => ?_)
    · have h := ite_t h hc
      refine lv_iconst (v := (1 : Int32)) hx hb dL_step_348 (by decide) ?_
      exact w349  v96 (1 : Int32) (F (Int32.toNatClampNeg (1 : Int32))) (1 : Int32) Z98 F h _ _ _ _ h00 hI hN hq hS (lv_sub hl [1, 2, 0] rfl)
    · have h := ite_f h hc
      refine lv_iconst (v := (0 : Int32)) hx hb dL_step_344 (by decide) ?_
      refine lv_goto (tgt := 349) hx hb dL_step_345 (by decide) ?_
      exact w349  v96 (0 : Int32) (F (Int32.toNatClampNeg (1 : Int32))) (1 : Int32) Z98 F h _ _ _ _ h00 hI hN hq hS (lv_sub hl [1, 2, 0] rfl)
  have w442 : ∀ (t0 : Int32) (t1 : Int32) (t2 : Int32) (t3 : Int32) (Z : CZ) (F : Nat → Int32), fL_step_442  t0 t1 t2 t3 Z F = some (rz, Zz, Fz) → sG p l e (headSpec wsL_step rmL_step).room s m (([.ref (ad0 0 0), .ref q, .int a3, .int a4, .int a5] : List Value).toArray) below meth c (MQ below (sQ D G A ad0 rz Zz q 5 Fz) (([.ref (ad0 0 0), .ref q, .int a3, .int a4, .int a5] : List Value).toArray) s 28 168 (fun y => A y ∨ y = q)) D G (fun y => A y ∨ y = q) A ad0 q 5 0 0 27 Z F 442 [] [.int t0, .int t1, .int t2, .int t3, .ref (ad0 0 0)] := by
    intro  t0 t1 t2 t3 Z F h H locs ls ad h00 hI hN hq hS hl
    unfold fL_step_442 at h
    refine W_stk (st' := [.int t0, .int t1, .int t2, .int t3, .ref (ad 0 0)]) (by rw [h00]) ?_
    obtain ⟨v141, Z143, c142, h⟩ := cl2_ok h
    refine sg_calli (va_runS (As := [.ref (ad 0 0), .int t3, .int t2, .int t1, .int t0]) (rest := []) ⟨hx, hb, hml, hown, hts⟩ (mL_isBeaten l hfl D G A ad Z t3 t2 t1 t0 v141 Z143 c142) (va_cwS 5 hts gL_step_L_isBeaten rfl rfl rfl (by decide +kernel) ⟨Nat.le_of_ble_eq_true rfl, Nat.le_of_ble_eq_true rfl⟩) (sg_preS hI hK hN hE hS (fun _ h => Or.inl h)) rfl rfl hl.1 rfl (lv_room (Nat.le_of_ble_eq_true rfl)) dL_step_442 ⟨Nat.le_of_ble_eq_true rfl, Nat.le_of_ble_eq_true rfl⟩) hS (fun _ h => Or.inl h) hq hnq ⟨_, rfl⟩ (fun H locs hI hN hq hS => ?_)
    refine W.widen (k := 4) (n := 24) (by decide) (by decide) ?_
    obtain ⟨g144, h⟩ := gd_ok h
    refine W.widen (k := 28) (n := 168) (by decide) (by decide) ?_
    exact W.zret hx hb hr (gbo_ok g144) (sg_end h h00 hI hK hN hq hS) (fun z hz => hS.2.2 z hz) dL_step_445
  have w412 : ∀ (x4 : Int32) (x5 : Int32) (Z : CZ) (F : Nat → Int32), fL_step_412  x4 x5 Z F = some (rz, Zz, Fz) → sG p l e (headSpec wsL_step rmL_step).room s m (([.ref (ad0 0 0), .ref q, .int a3, .int a4, .int a5] : List Value).toArray) below meth c (MQ below (sQ D G A ad0 rz Zz q 5 Fz) (([.ref (ad0 0 0), .ref q, .int a3, .int a4, .int a5] : List Value).toArray) s 28 168 (fun y => A y ∨ y = q)) D G (fun y => A y ∨ y = q) A ad0 q 5 0 0 27 Z F 412 [(0, .ref (ad0 0 0)), (4, .int x4), (5, .int x5)] [] := by
    intro  x4 x5 Z F h H locs ls ad h00 hI hN hq hS hl
    unfold fL_step_412 at h
    refine lv_aload_n hx hb dL_step_412 rfl (lv_at hl 0 rfl) ?_
    refine lv_iload hx hb dL_step_413 (lv_at hl 2 rfl) ?_
    refine lv_iload hx hb dL_step_415 (lv_at hl 1 rfl) ?_
    refine lv_iconst (v := (4 : Int32)) hx hb dL_step_417 (by decide) ?_
    refine lv_irm hx hb dL_step_418 (by decide) ?_
    refine lv_iconst (v := (1 : Int32)) hx hb dL_step_419 (by decide) ?_
    refine lv_iload hx hb dL_step_420 (lv_at hl 1 rfl) ?_
    refine lv_iconst (v := (4 : Int32)) hx hb dL_step_422 (by decide) ?_
    refine lv_idiv hx hb dL_step_423 (by decide) ?_
    refine lv_iconst (v := (4 : Int32)) hx hb dL_step_424 (by decide) ?_
    refine lv_irm hx hb dL_step_425 (by decide) ?_
    refine lv_iadd hx hb dL_step_426 ?_
    refine lv_iload hx hb dL_step_427 (lv_at hl 1 rfl) ?_
    refine lv_bipush (v := (16 : Int32)) hx hb dL_step_429 (by decide) ?_
    refine lv_idiv hx hb dL_step_431 (by decide) ?_
    refine lv_iconst (v := (2 : Int32)) hx hb dL_step_432 (by decide) ?_
    refine lv_irm hx hb dL_step_433 (by decide) ?_
    refine lv_if_ne (tgt := 441) hx hb dL_step_434 (by decide) (fun hc => ?_) (fun hc => ?_)
    · have h := ite_f h hc
      refine lv_iconst (v := (0 : Int32)) hx hb dL_step_441 (by decide) ?_
      exact w442  (0 : Int32) ((1 : Int32) + (irm (x4 / (4 : Int32)) (4 : Int32))) (irm x4 (4 : Int32)) x5 Z F h _ _ _ _ h00 hI hN hq hS (lv_sub hl [] rfl)
    · have h := ite_t h hc
      refine lv_iconst (v := (1 : Int32)) hx hb dL_step_437 (by decide) ?_
      refine lv_goto (tgt := 442) hx hb dL_step_438 (by decide) ?_
      exact w442  (1 : Int32) ((1 : Int32) + (irm (x4 / (4 : Int32)) (4 : Int32))) (irm x4 (4 : Int32)) x5 Z F h _ _ _ _ h00 hI hN hq hS (lv_sub hl [] rfl)
  have w513 : ∀ (t0 : Int32) (Z : CZ) (F : Nat → Int32), fL_step_513  t0 Z F = some (rz, Zz, Fz) → sG p l e (headSpec wsL_step rmL_step).room s m (([.ref (ad0 0 0), .ref q, .int a3, .int a4, .int a5] : List Value).toArray) below meth c (MQ below (sQ D G A ad0 rz Zz q 5 Fz) (([.ref (ad0 0 0), .ref q, .int a3, .int a4, .int a5] : List Value).toArray) s 28 168 (fun y => A y ∨ y = q)) D G (fun y => A y ∨ y = q) A ad0 q 5 0 0 27 Z F 513 [] [.int t0] := by
    intro  t0 Z F h H locs ls ad h00 hI hN hq hS hl
    unfold fL_step_513 at h
    obtain ⟨g186, h⟩ := gd_ok h
    refine W.widen (k := 28) (n := 168) (by decide) (by decide) ?_
    exact W.zret hx hb hr (gbo_ok g186) (sg_end h h00 hI hK hN hq hS) (fun z hz => hS.2.2 z hz) dL_step_513
  have w512 : ∀ (Z : CZ) (F : Nat → Int32), fL_step_512  Z F = some (rz, Zz, Fz) → sG p l e (headSpec wsL_step rmL_step).room s m (([.ref (ad0 0 0), .ref q, .int a3, .int a4, .int a5] : List Value).toArray) below meth c (MQ below (sQ D G A ad0 rz Zz q 5 Fz) (([.ref (ad0 0 0), .ref q, .int a3, .int a4, .int a5] : List Value).toArray) s 28 168 (fun y => A y ∨ y = q)) D G (fun y => A y ∨ y = q) A ad0 q 5 0 0 27 Z F 512 [] [] := by
    intro  Z F h H locs ls ad h00 hI hN hq hS hl
    unfold fL_step_512 at h
    refine lv_iconst (v := (0 : Int32)) hx hb dL_step_512 (by decide) ?_
    exact w513  (0 : Int32) Z F h _ _ _ _ h00 hI hN hq hS (lv_sub hl [] rfl)
  have w470 : ∀ (x4 : Int32) (x5 : Int32) (t0 : Int32) (Z : CZ) (F : Nat → Int32), fL_step_470  x4 x5 t0 Z F = some (rz, Zz, Fz) → sG p l e (headSpec wsL_step rmL_step).room s m (([.ref (ad0 0 0), .ref q, .int a3, .int a4, .int a5] : List Value).toArray) below meth c (MQ below (sQ D G A ad0 rz Zz q 5 Fz) (([.ref (ad0 0 0), .ref q, .int a3, .int a4, .int a5] : List Value).toArray) s 28 168 (fun y => A y ∨ y = q)) D G (fun y => A y ∨ y = q) A ad0 q 5 0 0 27 Z F 470 [(0, .ref (ad0 0 0)), (1, .ref q), (4, .int x4), (5, .int x5)] [.int t0] := by
    intro  x4 x5 t0 Z F h H locs ls ad h00 hI hN hq hS hl
    unfold fL_step_470 at h
    refine lv_istore (lv' := [(11, .int t0), (0, .ref (ad0 0 0)), (1, .ref q), (4, .int x4), (5, .int x5)]) hx hb dL_step_470 hl (by decide) rfl (fun ls hl => ?_)
    refine lv_aload_n hx hb dL_step_472 rfl (lv_at hl 2 rfl) ?_
    refine lv_iconst (v := (4 : Int32)) hx hb dL_step_473 (by decide) ?_
    refine lv_iload hx hb dL_step_474 (lv_at hl 3 rfl) ?_
    refine lv_bipush (v := (16 : Int32)) hx hb dL_step_476 (by decide) ?_
    refine lv_irm hx hb dL_step_478 (by decide) ?_
    obtain ⟨g157, h⟩ := gd_ok h
    obtain ⟨F158, eF158⟩ : ∃ y : Nat → Int32, y = (upd F (Int32.toNatClampNeg (4 : Int32)) (irm x4 (16 : Int32))) := ⟨_, rfl⟩
    have h := bnd_ok h eF158
    refine sg_ist hx hb hK hI hN hq hnq hS (Or.inr rfl) (gin_ok g157) eF158 dL_step_479 (fun H locs hN hq hS => ?_)
    refine lv_iload hx hb dL_step_480 (lv_at hl 0 rfl) ?_
    refine lv_if_eq (tgt := 512) hx hb dL_step_482 (by decide) (fun hc => ?_) (fun hc => ?_)
    · have h := ite_t h hc
      exact w512  Z F158 h _ _ _ _ h00 hI hN hq hS (lv_sub hl [] rfl)
    · have h := ite_f h hc
      refine lv_aload_n hx hb dL_step_485 rfl (lv_at hl 1 rfl) ?_
      refine lv_iload hx hb dL_step_486 (lv_at hl 4 rfl) ?_
      refine lv_iconst (v := (0 : Int32)) hx hb dL_step_488 (by decide) ?_
      refine lv_iconst (v := (1 : Int32)) hx hb dL_step_489 (by decide) ?_
      refine W_stk (st' := [.int (1 : Int32), .int (0 : Int32), .int x5, .ref (ad 0 0)]) (by rw [h00]) ?_
      obtain ⟨v159, c160, h⟩ := cl1_ok h
      refine sg_calli (va_runV (As := [.int x5, .int (0 : Int32), .int (1 : Int32)]) (rest := []) ⟨hx, hb, hml, hown, hts⟩ (mX6_field_n l D G A ad Z x5 (0 : Int32) (1 : Int32) v159  c160) (cwV 3 hts gL_step_X6_field rfl rfl rfl (by decide +kernel) ⟨Nat.le_of_ble_eq_true rfl, Nat.le_of_ble_eq_true rfl⟩) (cg_preV hI hK hN rfl rfl (ci := 7) rfl) rfl rfl hl.1 rfl (lv_room (Nat.le_of_ble_eq_true rfl)) dL_step_490 ⟨Nat.le_of_ble_eq_true rfl, Nat.le_of_ble_eq_true rfl⟩) hS (fun _ h => Or.inl h) hq hnq ⟨_, rfl⟩ (fun H locs hI hN hq hS => ?_)
      refine W.widen (k := 0) (n := 0) (by decide) (by decide) ?_
      refine lv_aload_n hx hb dL_step_493 rfl (lv_at hl 1 rfl) ?_
      refine lv_iload hx hb dL_step_494 (lv_at hl 4 rfl) ?_
      refine lv_iconst (v := (0 : Int32)) hx hb dL_step_496 (by decide) ?_
      refine lv_iconst (v := (0 : Int32)) hx hb dL_step_497 (by decide) ?_
      refine W_stk (st' := [.int (0 : Int32), .int (0 : Int32), .int x5, .ref (ad 0 0), .int v159]) (by rw [h00]) ?_
      obtain ⟨v161, c162, h⟩ := cl1_ok h
      refine sg_calli (va_runV (As := [.int x5, .int (0 : Int32), .int (0 : Int32)]) (rest := [.int v159]) ⟨hx, hb, hml, hown, hts⟩ (mX6_field_n l D G A ad Z x5 (0 : Int32) (0 : Int32) v161  c162) (cwV 3 hts gL_step_X6_field rfl rfl rfl (by decide +kernel) ⟨Nat.le_of_ble_eq_true rfl, Nat.le_of_ble_eq_true rfl⟩) (cg_preV hI hK hN rfl rfl (ci := 7) rfl) rfl rfl hl.1 rfl (lv_room (Nat.le_of_ble_eq_true rfl)) dL_step_498 ⟨Nat.le_of_ble_eq_true rfl, Nat.le_of_ble_eq_true rfl⟩) hS (fun _ h => Or.inl h) hq hnq ⟨_, rfl⟩ (fun H locs hI hN hq hS => ?_)
      refine W.widen (k := 0) (n := 0) (by decide) (by decide) ?_
      refine lv_aload_n hx hb dL_step_501 rfl (lv_at hl 2 rfl) ?_
      refine lv_iconst (v := (4 : Int32)) hx hb dL_step_502 (by decide) ?_
      obtain ⟨g163, h⟩ := gd_ok h
      refine sg_ild hx hb hK hq (gin_ok g163) dL_step_503 ?_
      refine lv_isub hx hb dL_step_504 ?_
      refine lv_icmp_ne (tgt := 512) hx hb dL_step_505 (by decide) (fun hc => ?_) (fun hc => ?_)
      · have h := ite_f h hc
        exact w512  Z F158 h _ _ _ _ h00 hI hN hq hS (lv_sub hl [] rfl)
      · have h := ite_t h hc
        refine lv_iconst (v := (1 : Int32)) hx hb dL_step_508 (by decide) ?_
        refine lv_goto (tgt := 513) hx hb dL_step_509 (by decide) ?_
        exact w513  (1 : Int32) Z F158 h _ _ _ _ h00 hI hN hq hS (lv_sub hl [] rfl)
  have w446 : ∀ (x4 : Int32) (x5 : Int32) (Z : CZ) (F : Nat → Int32), fL_step_446  x4 x5 Z F = some (rz, Zz, Fz) → sG p l e (headSpec wsL_step rmL_step).room s m (([.ref (ad0 0 0), .ref q, .int a3, .int a4, .int a5] : List Value).toArray) below meth c (MQ below (sQ D G A ad0 rz Zz q 5 Fz) (([.ref (ad0 0 0), .ref q, .int a3, .int a4, .int a5] : List Value).toArray) s 28 168 (fun y => A y ∨ y = q)) D G (fun y => A y ∨ y = q) A ad0 q 5 0 0 27 Z F 446 [(0, .ref (ad0 0 0)), (1, .ref q), (4, .int x4), (5, .int x5)] [] := by
    intro  x4 x5 Z F h H locs ls ad h00 hI hN hq hS hl
    unfold fL_step_446 at h
    refine lv_aload_n hx hb dL_step_446 rfl (lv_at hl 0 rfl) ?_
    refine lv_iload hx hb dL_step_447 (lv_at hl 2 rfl) ?_
    refine lv_bipush (v := (16 : Int32)) hx hb dL_step_449 (by decide) ?_
    refine lv_irm hx hb dL_step_451 (by decide) ?_
    refine W_stk (st' := [.int (irm x4 (16 : Int32)), .ref (ad 0 0)]) (by rw [h00]) ?_
    obtain ⟨v92, Z94, c93, h⟩ := cl2_ok h
    refine sg_calli (va_runV (As := [.int (irm x4 (16 : Int32))]) (rest := []) ⟨hx, hb, hml, hown, hts⟩ (mX6_heat_n l D G A ad Z (irm x4 (16 : Int32)) v92 Z94 c93) (cwV 1 hts gL_step_X6_heat rfl rfl rfl (by decide +kernel) ⟨Nat.le_of_ble_eq_true rfl, Nat.le_of_ble_eq_true rfl⟩) (cg_preV hI hK hN rfl rfl (ci := 7) rfl) rfl rfl hl.1 rfl (lv_room (Nat.le_of_ble_eq_true rfl)) dL_step_452 ⟨Nat.le_of_ble_eq_true rfl, Nat.le_of_ble_eq_true rfl⟩) hS (fun _ h => Or.inl h) hq hnq ⟨_, rfl⟩ (fun H locs hI hN hq hS => ?_)
    refine W.widen (k := 0) (n := 0) (by decide) (by decide) ?_
    refine lv_istore (lv' := [(10, .int v92), (0, .ref (ad0 0 0)), (1, .ref q), (4, .int x4), (5, .int x5)]) hx hb dL_step_455 hl (by decide) rfl (fun ls hl => ?_)
    refine lv_iload hx hb dL_step_457 (lv_at hl 0 rfl) ?_
    refine lv_aload_n hx hb dL_step_459 rfl (lv_at hl 2 rfl) ?_
    refine lv_iconst (v := (4 : Int32)) hx hb dL_step_460 (by decide) ?_
    obtain ⟨g95, h⟩ := gd_ok h
    refine sg_ild hx hb hK hq (gin_ok g95) dL_step_461 ?_
    refine lv_icmp_ne (tgt := 469) hx hb dL_step_462 (by decide) (fun hc => ?_) (fun hc => ?_)
    · have h := ite_f h hc
      refine lv_iconst (v := (0 : Int32)) hx hb dL_step_469 (by decide) ?_
      exact w470  x4 x5 (0 : Int32) Z94 F h _ _ _ _ h00 hI hN hq hS (lv_sub hl [1, 2, 3, 4] rfl)
    · have h := ite_t h hc
      refine lv_iconst (v := (1 : Int32)) hx hb dL_step_465 (by decide) ?_
      refine lv_goto (tgt := 470) hx hb dL_step_466 (by decide) ?_
      exact w470  x4 x5 (1 : Int32) Z94 F h _ _ _ _ h00 hI hN hq hS (lv_sub hl [1, 2, 3, 4] rfl)
  have w542 : ∀ (t0 : Int32) (Z : CZ) (F : Nat → Int32), fL_step_542  t0 Z F = some (rz, Zz, Fz) → sG p l e (headSpec wsL_step rmL_step).room s m (([.ref (ad0 0 0), .ref q, .int a3, .int a4, .int a5] : List Value).toArray) below meth c (MQ below (sQ D G A ad0 rz Zz q 5 Fz) (([.ref (ad0 0 0), .ref q, .int a3, .int a4, .int a5] : List Value).toArray) s 28 168 (fun y => A y ∨ y = q)) D G (fun y => A y ∨ y = q) A ad0 q 5 0 0 27 Z F 542 [] [.int t0] := by
    intro  t0 Z F h H locs ls ad h00 hI hN hq hS hl
    unfold fL_step_542 at h
    obtain ⟨g125, h⟩ := gd_ok h
    refine W.widen (k := 28) (n := 168) (by decide) (by decide) ?_
    exact W.zret hx hb hr (gbo_ok g125) (sg_end h h00 hI hK hN hq hS) (fun z hz => hS.2.2 z hz) dL_step_542
  have w537 : ∀ (Z : CZ) (F : Nat → Int32), fL_step_537  Z F = some (rz, Zz, Fz) → sG p l e (headSpec wsL_step rmL_step).room s m (([.ref (ad0 0 0), .ref q, .int a3, .int a4, .int a5] : List Value).toArray) below meth c (MQ below (sQ D G A ad0 rz Zz q 5 Fz) (([.ref (ad0 0 0), .ref q, .int a3, .int a4, .int a5] : List Value).toArray) s 28 168 (fun y => A y ∨ y = q)) D G (fun y => A y ∨ y = q) A ad0 q 5 0 0 27 Z F 537 [] [] := by
    intro  Z F h H locs ls ad h00 hI hN hq hS hl
    unfold fL_step_537 at h
    refine lv_iconst (v := (1 : Int32)) hx hb dL_step_537 (by decide) ?_
    refine lv_goto (tgt := 542) hx hb dL_step_538 (by decide) ?_
    exact w542  (1 : Int32) Z F h _ _ _ _ h00 hI hN hq hS (lv_sub hl [] rfl)
  have w514 : ∀ (x5 : Int32) (Z : CZ) (F : Nat → Int32), fL_step_514  x5 Z F = some (rz, Zz, Fz) → sG p l e (headSpec wsL_step rmL_step).room s m (([.ref (ad0 0 0), .ref q, .int a3, .int a4, .int a5] : List Value).toArray) below meth c (MQ below (sQ D G A ad0 rz Zz q 5 Fz) (([.ref (ad0 0 0), .ref q, .int a3, .int a4, .int a5] : List Value).toArray) s 28 168 (fun y => A y ∨ y = q)) D G (fun y => A y ∨ y = q) A ad0 q 5 0 0 27 Z F 514 [(0, .ref (ad0 0 0)), (1, .ref q), (5, .int x5)] [] := by
    intro  x5 Z F h H locs ls ad h00 hI hN hq hS hl
    unfold fL_step_514 at h
    refine lv_aload_n hx hb dL_step_514 rfl (lv_at hl 1 rfl) ?_
    refine lv_iconst (v := (3 : Int32)) hx hb dL_step_515 (by decide) ?_
    refine lv_dup2_11 hx hb dL_step_516 rfl rfl ?_
    obtain ⟨g18, h⟩ := gd_ok h
    refine sg_ild hx hb hK hq (gin_ok g18) dL_step_517 ?_
    refine lv_iconst (v := (1 : Int32)) hx hb dL_step_518 (by decide) ?_
    refine lv_iadd hx hb dL_step_519 ?_
    obtain ⟨g19, h⟩ := gd_ok h
    obtain ⟨F20, eF20⟩ : ∃ y : Nat → Int32, y = (upd F (Int32.toNatClampNeg (3 : Int32)) ((F (Int32.toNatClampNeg (3 : Int32))) + (1 : Int32))) := ⟨_, rfl⟩
    have h := bnd_ok h eF20
    refine sg_ist hx hb hK hI hN hq hnq hS (Or.inr rfl) (gin_ok g19) eF20 dL_step_520 (fun H locs hN hq hS => ?_)
    refine lv_aload_n hx hb dL_step_521 rfl (lv_at hl 1 rfl) ?_
    refine lv_iconst (v := (3 : Int32)) hx hb dL_step_522 (by decide) ?_
    obtain ⟨g21, h⟩ := gd_ok h
    refine sg_ild hx hb hK hq (gin_ok g21) dL_step_523 ?_
    refine lv_iconst (v := (3 : Int32)) hx hb dL_step_524 (by decide) ?_
    refine lv_icmp_gt (tgt := 537) hx hb dL_step_525 (by decide) (fun hc => ?_) (fun hc => ?_)
    · have h := ite_t h hc
      exact w537  Z F20 h _ _ _ _ h00 hI hN hq hS (lv_sub hl [] rfl)
    · have h := ite_f h hc
      refine lv_aload_n hx hb dL_step_528 rfl (lv_at hl 0 rfl) ?_
      refine lv_iload hx hb dL_step_529 (lv_at hl 2 rfl) ?_
      refine W_stk (st' := [.int x5, .ref (ad 0 0)]) (by rw [h00]) ?_
      obtain ⟨v22, Z24, c23, h⟩ := cl2_ok h
      refine sg_calli (va_runS (As := [.ref (ad 0 0), .int x5]) (rest := []) ⟨hx, hb, hml, hown, hts⟩ (mL_isPlanned l hfl D G A ad Z x5 v22 Z24 c23) (va_cwS 2 hts gL_step_L_isPlanned rfl rfl rfl (by decide +kernel) ⟨Nat.le_of_ble_eq_true rfl, Nat.le_of_ble_eq_true rfl⟩) (sg_preS hI hK hN hE hS (fun _ h => Or.inl h)) rfl rfl hl.1 rfl (lv_room (Nat.le_of_ble_eq_true rfl)) dL_step_531 ⟨Nat.le_of_ble_eq_true rfl, Nat.le_of_ble_eq_true rfl⟩) hS (fun _ h => Or.inl h) hq hnq ⟨_, rfl⟩ (fun H locs hI hN hq hS => ?_)
      refine W.widen (k := 0) (n := 0) (by decide) (by decide) ?_
      refine lv_if_eq (tgt := 541) hx hb dL_step_534 (by decide) (fun hc => ?_) (fun hc => ?_)
      · have h := ite_t h hc
        refine lv_iconst (v := (0 : Int32)) hx hb dL_step_541 (by decide) ?_
        exact w542  (0 : Int32) Z24 F20 h _ _ _ _ h00 hI hN hq hS (lv_sub hl [] rfl)
      · have h := ite_f h hc
        exact w537  Z24 F20 h _ _ _ _ h00 hI hN hq hS (lv_sub hl [] rfl)
  have w658 : ∀ (t0 : Int32) (Z : CZ) (F : Nat → Int32), fL_step_658  t0 Z F = some (rz, Zz, Fz) → sG p l e (headSpec wsL_step rmL_step).room s m (([.ref (ad0 0 0), .ref q, .int a3, .int a4, .int a5] : List Value).toArray) below meth c (MQ below (sQ D G A ad0 rz Zz q 5 Fz) (([.ref (ad0 0 0), .ref q, .int a3, .int a4, .int a5] : List Value).toArray) s 28 168 (fun y => A y ∨ y = q)) D G (fun y => A y ∨ y = q) A ad0 q 5 28 168 27 Z F 658 [] [.int t0] := by
    intro  t0 Z F h H locs ls ad h00 hI hN hq hS hl
    unfold fL_step_658 at h
    obtain ⟨g124, h⟩ := gd_ok h
    refine W.widen (k := 28) (n := 168) (by decide) (by decide) ?_
    exact W.zret hx hb hr (gbo_ok g124) (sg_end h h00 hI hK hN hq hS) (fun z hz => hS.2.2 z hz) dL_step_658
  have w657 : ∀ (Z : CZ) (F : Nat → Int32), fL_step_657  Z F = some (rz, Zz, Fz) → sG p l e (headSpec wsL_step rmL_step).room s m (([.ref (ad0 0 0), .ref q, .int a3, .int a4, .int a5] : List Value).toArray) below meth c (MQ below (sQ D G A ad0 rz Zz q 5 Fz) (([.ref (ad0 0 0), .ref q, .int a3, .int a4, .int a5] : List Value).toArray) s 28 168 (fun y => A y ∨ y = q)) D G (fun y => A y ∨ y = q) A ad0 q 5 28 168 27 Z F 657 [] [] := by
    intro  Z F h H locs ls ad h00 hI hN hq hS hl
    unfold fL_step_657 at h
    refine lv_iconst (v := (0 : Int32)) hx hb dL_step_657 (by decide) ?_
    exact w658  (0 : Int32) Z F h _ _ _ _ h00 hI hN hq hS (lv_sub hl [] rfl)
  have w543 : ∀ (x6 : Int32) (x7 : Int32) (Z : CZ) (F : Nat → Int32), fL_step_543  x6 x7 Z F = some (rz, Zz, Fz) → sG p l e (headSpec wsL_step rmL_step).room s m (([.ref (ad0 0 0), .ref q, .int a3, .int a4, .int a5] : List Value).toArray) below meth c (MQ below (sQ D G A ad0 rz Zz q 5 Fz) (([.ref (ad0 0 0), .ref q, .int a3, .int a4, .int a5] : List Value).toArray) s 28 168 (fun y => A y ∨ y = q)) D G (fun y => A y ∨ y = q) A ad0 q 5 0 0 27 Z F 543 [(0, .ref (ad0 0 0)), (6, .int x6), (7, .int x7)] [] := by
    intro  x6 x7 Z F h H locs ls ad h00 hI hN hq hS hl
    unfold fL_step_543 at h
    refine lv_aload_n hx hb dL_step_543 rfl (lv_at hl 0 rfl) ?_
    refine lv_iload hx hb dL_step_544 (lv_at hl 1 rfl) ?_
    refine lv_iconst (v := (1 : Int32)) hx hb dL_step_546 (by decide) ?_
    refine W_stk (st' := [.int (1 : Int32), .int x6, .ref (ad 0 0)]) (by rw [h00]) ?_
    obtain ⟨v62, c63, h⟩ := cl1_ok h
    refine sg_calli (va_runV (As := [.int x6, .int (1 : Int32)]) (rest := []) ⟨hx, hb, hml, hown, hts⟩ (mX6_ofPlayer_n l D G A ad Z x6 (1 : Int32) v62  c63) (cwV 2 hts gL_step_X6_ofPlayer rfl rfl rfl (by decide +kernel) ⟨Nat.le_of_ble_eq_true rfl, Nat.le_of_ble_eq_true rfl⟩) (cg_preV hI hK hN rfl rfl (ci := 7) rfl) rfl rfl hl.1 rfl (lv_room (Nat.le_of_ble_eq_true rfl)) dL_step_547 ⟨Nat.le_of_ble_eq_true rfl, Nat.le_of_ble_eq_true rfl⟩) hS (fun _ h => Or.inl h) hq hnq ⟨_, rfl⟩ (fun H locs hI hN hq hS => ?_)
    refine W.widen (k := 0) (n := 0) (by decide) (by decide) ?_
    refine lv_istore (lv' := [(12, .int v62), (0, .ref (ad0 0 0)), (6, .int x6), (7, .int x7)]) hx hb dL_step_550 hl (by decide) rfl (fun ls hl => ?_)
    refine lv_aload_n hx hb dL_step_552 rfl (lv_at hl 1 rfl) ?_
    refine lv_iload hx hb dL_step_553 (lv_at hl 2 rfl) ?_
    refine lv_iload hx hb dL_step_555 (lv_at hl 3 rfl) ?_
    refine lv_iconst (v := (0 : Int32)) hx hb dL_step_557 (by decide) ?_
    refine W_stk (st' := [.int (0 : Int32), .int x7, .int x6, .ref (ad 0 0)]) (by rw [h00]) ?_
    obtain ⟨v64, Z66, c65, h⟩ := cl2_ok h
    refine sg_callg (vx_runSX (As := [.ref (ad 0 0), .int x6, .int x7, .int (0 : Int32)]) (rest := []) ⟨hx, hb, hml, hown, hts⟩ (mL_acts0 l hfl D G A ad Z x6 x7 v64 Z66 c65) (vx_cwSW 4 hts gL_step_L_acts rfl rfl rfl (by decide +kernel) ⟨Nat.le_of_ble_eq_true rfl, Nat.le_of_ble_eq_true rfl⟩) (ag_preS hI hK hN hE hF hA hS (fun _ h => Or.inl h)) rfl rfl hl.1 rfl (lv_room (Nat.le_of_ble_eq_true rfl)) dL_step_558 ⟨Nat.le_of_ble_eq_true rfl, Nat.le_of_ble_eq_true rfl⟩) hS (fun _ h => Or.inl h) hq hnq h00 (fun H locs ad h00 hI hN hq hS => ?_)
    refine W.widen (k := 14) (n := 84) (by decide) (by decide) ?_
    refine lv_istore (lv' := [(13, .int v64), (12, .int v62), (0, .ref (ad0 0 0)), (6, .int x6), (7, .int x7)]) hx hb dL_step_561 hl (by decide) rfl (fun ls hl => ?_)
    refine lv_iload hx hb dL_step_563 (lv_at hl 0 rfl) ?_
    refine lv_sipush (v := (-200 : Int32)) hx hb dL_step_565 (by decide) ?_
    refine lv_icmp_ne (tgt := 591) hx hb dL_step_568 (by decide) (fun hc => ?_) (fun hc => ?_)
    · have h := ite_f h hc
      refine lv_iload hx hb dL_step_591 (lv_at hl 1 rfl) ?_
      refine lv_iconst (v := (2 : Int32)) hx hb dL_step_593 (by decide) ?_
      refine lv_icmp_ge (tgt := 657) hx hb dL_step_594 (by decide) (fun hc => ?_) (fun hc => ?_)
      · have h := ite_t h hc
        refine W.widen (k := 28) (n := 168) (by decide) (by decide) ?_
        exact w657  Z66 F h _ _ _ _ h00 hI hN hq hS (lv_sub hl [] rfl)
      · have h := ite_f h hc
        refine lv_aload_n hx hb dL_step_597 rfl (lv_at hl 2 rfl) ?_
        refine lv_iload hx hb dL_step_598 (lv_at hl 3 rfl) ?_
        refine lv_iconst (v := (1 : Int32)) hx hb dL_step_600 (by decide) ?_
        refine W_stk (st' := [.int (1 : Int32), .int x6, .ref (ad 0 0)]) (by rw [h00]) ?_
        obtain ⟨v67, c68, h⟩ := cl1_ok h
        refine sg_calli (va_runV (As := [.int x6, .int (1 : Int32)]) (rest := []) ⟨hx, hb, hml, hown, hts⟩ (mX6_ofPlayer_n l D G A ad Z66 x6 (1 : Int32) v67  c68) (cwV 2 hts gL_step_X6_ofPlayer rfl rfl rfl (by decide +kernel) ⟨Nat.le_of_ble_eq_true rfl, Nat.le_of_ble_eq_true rfl⟩) (cg_preV hI hK hN rfl rfl (ci := 7) rfl) rfl rfl hl.1 rfl (lv_room (Nat.le_of_ble_eq_true rfl)) dL_step_601 ⟨Nat.le_of_ble_eq_true rfl, Nat.le_of_ble_eq_true rfl⟩) hS (fun _ h => Or.inl h) hq hnq ⟨_, rfl⟩ (fun H locs hI hN hq hS => ?_)
        refine W.widen (k := 14) (n := 84) (by decide) (by decide) ?_
        refine lv_iload hx hb dL_step_604 (lv_at hl 1 rfl) ?_
        refine lv_iconst (v := (1 : Int32)) hx hb dL_step_606 (by decide) ?_
        refine lv_iadd hx hb dL_step_607 ?_
        refine lv_icmp_ne (tgt := 657) hx hb dL_step_608 (by decide) (fun hc => ?_) (fun hc => ?_)
        · have h := ite_f h hc
          refine W.widen (k := 28) (n := 168) (by decide) (by decide) ?_
          exact w657  Z66 F h _ _ _ _ h00 hI hN hq hS (lv_sub hl [] rfl)
        · have h := ite_t h hc
          refine lv_iload hx hb dL_step_611 (lv_at hl 0 rfl) ?_
          refine lv_aload_n hx hb dL_step_613 rfl (lv_at hl 2 rfl) ?_
          refine lv_iload hx hb dL_step_614 (lv_at hl 4 rfl) ?_
          refine lv_iconst (v := (0 : Int32)) hx hb dL_step_616 (by decide) ?_
          refine W_stk (st' := [.int (0 : Int32), .int x7, .ref (ad 0 0), .int v64]) (by rw [h00]) ?_
          obtain ⟨v69, c70, h⟩ := cl1_ok h
          refine sg_calli (va_runV (As := [.int x7, .int (0 : Int32)]) (rest := [.int v64]) ⟨hx, hb, hml, hown, hts⟩ (mX6_ofBand_n l D G A ad Z66 x7 (0 : Int32) v69  c70) (cwV 2 hts gL_step_X6_ofBand rfl rfl rfl (by decide +kernel) ⟨Nat.le_of_ble_eq_true rfl, Nat.le_of_ble_eq_true rfl⟩) (cg_preV hI hK hN rfl rfl (ci := 7) rfl) rfl rfl hl.1 rfl (lv_room (Nat.le_of_ble_eq_true rfl)) dL_step_617 ⟨Nat.le_of_ble_eq_true rfl, Nat.le_of_ble_eq_true rfl⟩) hS (fun _ h => Or.inl h) hq hnq ⟨_, rfl⟩ (fun H locs hI hN hq hS => ?_)
          refine W.widen (k := 14) (n := 84) (by decide) (by decide) ?_
          refine lv_iconst (v := (1 : Int32)) hx hb dL_step_620 (by decide) ?_
          refine lv_isub hx hb dL_step_621 ?_
          refine lv_icmp_ne (tgt := 657) hx hb dL_step_622 (by decide) (fun hc => ?_) (fun hc => ?_)
          · have h := ite_f h hc
            refine W.widen (k := 28) (n := 168) (by decide) (by decide) ?_
            exact w657  Z66 F h _ _ _ _ h00 hI hN hq hS (lv_sub hl [] rfl)
          · have h := ite_t h hc
            refine lv_aload_n hx hb dL_step_625 rfl (lv_at hl 2 rfl) ?_
            refine lv_iload hx hb dL_step_626 (lv_at hl 4 rfl) ?_
            refine lv_iload hx hb dL_step_628 (lv_at hl 0 rfl) ?_
            refine W_stk (st' := [.int v64, .int x7, .ref (ad 0 0)]) (by rw [h00]) ?_
            obtain ⟨v71, c72, h⟩ := cl1_ok h
            refine sg_calli (va_runV (As := [.int x7, .int v64]) (rest := []) ⟨hx, hb, hml, hown, hts⟩ (mX6_seat_n l D G A ad Z66 x7 v64 v71  c72) (cwV 2 hts gL_step_X6_seat rfl rfl rfl (by decide +kernel) ⟨Nat.le_of_ble_eq_true rfl, Nat.le_of_ble_eq_true rfl⟩) (cg_preV hI hK hN rfl rfl (ci := 7) rfl) rfl rfl hl.1 rfl (lv_room (Nat.le_of_ble_eq_true rfl)) dL_step_630 ⟨Nat.le_of_ble_eq_true rfl, Nat.le_of_ble_eq_true rfl⟩) hS (fun _ h => Or.inl h) hq hnq ⟨_, rfl⟩ (fun H locs hI hN hq hS => ?_)
            refine W.widen (k := 14) (n := 84) (by decide) (by decide) ?_
            refine lv_iload hx hb dL_step_633 (lv_at hl 3 rfl) ?_
            refine lv_icmp_ne (tgt := 657) hx hb dL_step_635 (by decide) (fun hc => ?_) (fun hc => ?_)
            · have h := ite_f h hc
              refine W.widen (k := 28) (n := 168) (by decide) (by decide) ?_
              exact w657  Z66 F h _ _ _ _ h00 hI hN hq hS (lv_sub hl [] rfl)
            · have h := ite_t h hc
              refine lv_aload_n hx hb dL_step_638 rfl (lv_at hl 2 rfl) ?_
              refine lv_iload hx hb dL_step_639 (lv_at hl 3 rfl) ?_
              refine lv_iload hx hb dL_step_641 (lv_at hl 4 rfl) ?_
              refine lv_iconst (v := (0 : Int32)) hx hb dL_step_643 (by decide) ?_
              refine W_stk (st' := [.int (0 : Int32), .int x7, .int x6, .ref (ad 0 0)]) (by rw [h00]) ?_
              obtain ⟨v73, Z75, c74, h⟩ := cl2_ok h
              refine sg_callg (vx_runSX (As := [.ref (ad 0 0), .int x6, .int x7, .int (0 : Int32)]) (rest := []) ⟨hx, hb, hml, hown, hts⟩ (mL_acts0 l hfl D G A ad Z66 x6 x7 v73 Z75 c74) (vx_cwSW 4 hts gL_step_L_acts rfl rfl rfl (by decide +kernel) ⟨Nat.le_of_ble_eq_true rfl, Nat.le_of_ble_eq_true rfl⟩) (ag_preS hI hK hN hE hF hA hS (fun _ h => Or.inl h)) rfl rfl hl.1 rfl (lv_room (Nat.le_of_ble_eq_true rfl)) dL_step_644 ⟨Nat.le_of_ble_eq_true rfl, Nat.le_of_ble_eq_true rfl⟩) hS (fun _ h => Or.inl h) hq hnq h00 (fun H locs ad h00 hI hN hq hS => ?_)
              refine W.widen (k := 28) (n := 168) (by decide) (by decide) ?_
              refine lv_sipush (v := (-200 : Int32)) hx hb dL_step_647 (by decide) ?_
              refine lv_icmp_ne (tgt := 657) hx hb dL_step_650 (by decide) (fun hc => ?_) (fun hc => ?_)
              · have h := ite_f h hc
                exact w657  Z75 F h _ _ _ _ h00 hI hN hq hS (lv_sub hl [] rfl)
              · have h := ite_t h hc
                refine lv_iconst (v := (1 : Int32)) hx hb dL_step_653 (by decide) ?_
                refine lv_goto (tgt := 658) hx hb dL_step_654 (by decide) ?_
                exact w658  (1 : Int32) Z75 F h _ _ _ _ h00 hI hN hq hS (lv_sub hl [] rfl)
    · have h := ite_t h hc
      refine lv_aload_n hx hb dL_step_571 rfl (lv_at hl 2 rfl) ?_
      refine lv_iload hx hb dL_step_572 (lv_at hl 3 rfl) ?_
      refine lv_iconst (v := (1 : Int32)) hx hb dL_step_574 (by decide) ?_
      refine W_stk (st' := [.int (1 : Int32), .int x6, .ref (ad 0 0)]) (by rw [h00]) ?_
      obtain ⟨v76, c77, h⟩ := cl1_ok h
      refine sg_calli (va_runV (As := [.int x6, .int (1 : Int32)]) (rest := []) ⟨hx, hb, hml, hown, hts⟩ (mX6_ofPlayer_n l D G A ad Z66 x6 (1 : Int32) v76  c77) (cwV 2 hts gL_step_X6_ofPlayer rfl rfl rfl (by decide +kernel) ⟨Nat.le_of_ble_eq_true rfl, Nat.le_of_ble_eq_true rfl⟩) (cg_preV hI hK hN rfl rfl (ci := 7) rfl) rfl rfl hl.1 rfl (lv_room (Nat.le_of_ble_eq_true rfl)) dL_step_575 ⟨Nat.le_of_ble_eq_true rfl, Nat.le_of_ble_eq_true rfl⟩) hS (fun _ h => Or.inl h) hq hnq ⟨_, rfl⟩ (fun H locs hI hN hq hS => ?_)
      refine W.widen (k := 14) (n := 84) (by decide) (by decide) ?_
      refine lv_iload hx hb dL_step_578 (lv_at hl 1 rfl) ?_
      refine lv_icmp_ne (tgt := 587) hx hb dL_step_580 (by decide) (fun hc => ?_) (fun hc => ?_)
      · have h := ite_f h hc
        refine lv_iconst (v := (0 : Int32)) hx hb dL_step_587 (by decide) ?_
        refine lv_goto (tgt := 658) hx hb dL_step_588 (by decide) ?_
        refine W.widen (k := 28) (n := 168) (by decide) (by decide) ?_
        exact w658  (0 : Int32) Z66 F h _ _ _ _ h00 hI hN hq hS (lv_sub hl [] rfl)
      · have h := ite_t h hc
        refine lv_iconst (v := (1 : Int32)) hx hb dL_step_583 (by decide) ?_
        refine lv_goto (tgt := 658) hx hb dL_step_584 (by decide) ?_
        refine W.widen (k := 28) (n := 168) (by decide) (by decide) ?_
        exact w658  (1 : Int32) Z66 F h _ _ _ _ h00 hI hN hq hS (lv_sub hl [] rfl)
  have w791 : ∀ (t0 : Int32) (Z : CZ) (F : Nat → Int32), fL_step_791  t0 Z F = some (rz, Zz, Fz) → sG p l e (headSpec wsL_step rmL_step).room s m (([.ref (ad0 0 0), .ref q, .int a3, .int a4, .int a5] : List Value).toArray) below meth c (MQ below (sQ D G A ad0 rz Zz q 5 Fz) (([.ref (ad0 0 0), .ref q, .int a3, .int a4, .int a5] : List Value).toArray) s 28 168 (fun y => A y ∨ y = q)) D G (fun y => A y ∨ y = q) A ad0 q 5 6 36 27 Z F 791 [] [.int t0] := by
    intro  t0 Z F h H locs ls ad h00 hI hN hq hS hl
    unfold fL_step_791 at h
    obtain ⟨g187, h⟩ := gd_ok h
    refine W.widen (k := 28) (n := 168) (by decide) (by decide) ?_
    exact W.zret hx hb hr (gbo_ok g187) (sg_end h h00 hI hK hN hq hS) (fun z hz => hS.2.2 z hz) dL_step_791
  have w790 : ∀ (Z : CZ) (F : Nat → Int32), fL_step_790  Z F = some (rz, Zz, Fz) → sG p l e (headSpec wsL_step rmL_step).room s m (([.ref (ad0 0 0), .ref q, .int a3, .int a4, .int a5] : List Value).toArray) below meth c (MQ below (sQ D G A ad0 rz Zz q 5 Fz) (([.ref (ad0 0 0), .ref q, .int a3, .int a4, .int a5] : List Value).toArray) s 28 168 (fun y => A y ∨ y = q)) D G (fun y => A y ∨ y = q) A ad0 q 5 6 36 27 Z F 790 [] [] := by
    intro  Z F h H locs ls ad h00 hI hN hq hS hl
    unfold fL_step_790 at h
    refine lv_iconst (v := (0 : Int32)) hx hb dL_step_790 (by decide) ?_
    exact w791  (0 : Int32) Z F h _ _ _ _ h00 hI hN hq hS (lv_sub hl [] rfl)
  have w771 : ∀ (x6 : Int32) (x7 : Int32) (Z : CZ) (F : Nat → Int32), fL_step_771  x6 x7 Z F = some (rz, Zz, Fz) → sG p l e (headSpec wsL_step rmL_step).room s m (([.ref (ad0 0 0), .ref q, .int a3, .int a4, .int a5] : List Value).toArray) below meth c (MQ below (sQ D G A ad0 rz Zz q 5 Fz) (([.ref (ad0 0 0), .ref q, .int a3, .int a4, .int a5] : List Value).toArray) s 28 168 (fun y => A y ∨ y = q)) D G (fun y => A y ∨ y = q) A ad0 q 5 3 18 27 Z F 771 [(0, .ref (ad0 0 0)), (6, .int x6), (7, .int x7)] [] := by
    intro  x6 x7 Z F h H locs ls ad h00 hI hN hq hS hl
    unfold fL_step_771 at h
    refine lv_aload_n hx hb dL_step_771 rfl (lv_at hl 0 rfl) ?_
    refine lv_iload hx hb dL_step_772 (lv_at hl 1 rfl) ?_
    refine lv_iload hx hb dL_step_774 (lv_at hl 2 rfl) ?_
    refine lv_iconst (v := (1 : Int32)) hx hb dL_step_776 (by decide) ?_
    refine W_stk (st' := [.int (1 : Int32), .int x7, .int x6, .ref (ad 0 0)]) (by rw [h00]) ?_
    obtain ⟨v183, Z185, c184, h⟩ := cl2_ok h
    refine sg_callx (vx_runSX (As := [.ref (ad 0 0), .int x6, .int x7, .int (1 : Int32)]) (rest := []) ⟨hx, hb, hml, hown, hts⟩ (mL_acts1 l hfl D G A ad Z x6 x7 v183 Z185 c184) (vx_cwSW 4 hts gL_step_L_acts rfl rfl rfl (by decide +kernel) ⟨Nat.le_of_ble_eq_true rfl, Nat.le_of_ble_eq_true rfl⟩) (sg_preS hI hK hN hE hS (fun _ h => Or.inl h)) rfl rfl hl.1 rfl (lv_room (Nat.le_of_ble_eq_true rfl)) dL_step_777 ⟨Nat.le_of_ble_eq_true rfl, Nat.le_of_ble_eq_true rfl⟩) hS (fun _ h => Or.inl h) hq hnq ⟨_, rfl⟩ (fun H locs hI hN hq hS => ?_)
    refine W.widen (k := 6) (n := 36) (by decide) (by decide) ?_
    refine lv_sipush (v := (-200 : Int32)) hx hb dL_step_780 (by decide) ?_
    refine lv_icmp_ne (tgt := 790) hx hb dL_step_783 (by decide) (fun hc => ?_) (fun hc => ?_)
    · have h := ite_f h hc
      exact w790  Z185 F h _ _ _ _ h00 hI hN hq hS (lv_sub hl [] rfl)
    · have h := ite_t h hc
      refine lv_iconst (v := (1 : Int32)) hx hb dL_step_786 (by decide) ?_
      refine lv_goto (tgt := 791) hx hb dL_step_787 (by decide) ?_
      exact w791  (1 : Int32) Z185 F h _ _ _ _ h00 hI hN hq hS (lv_sub hl [] rfl)
  have w687 : ∀ (x6 : Int32) (x7 : Int32) (x14 : Int32) (t0 : Int32) (Z : CZ) (F : Nat → Int32), fL_step_687  x6 x7 x14 t0 Z F = some (rz, Zz, Fz) → sG p l e (headSpec wsL_step rmL_step).room s m (([.ref (ad0 0 0), .ref q, .int a3, .int a4, .int a5] : List Value).toArray) below meth c (MQ below (sQ D G A ad0 rz Zz q 5 Fz) (([.ref (ad0 0 0), .ref q, .int a3, .int a4, .int a5] : List Value).toArray) s 28 168 (fun y => A y ∨ y = q)) D G (fun y => A y ∨ y = q) A ad0 q 5 0 0 27 Z F 687 [(0, .ref (ad0 0 0)), (6, .int x6), (7, .int x7), (14, .int x14)] [.int t0] := by
    intro  x6 x7 x14 t0 Z F h H locs ls ad h00 hI hN hq hS hl
    unfold fL_step_687 at h
    refine lv_istore (lv' := [(15, .int t0), (0, .ref (ad0 0 0)), (6, .int x6), (7, .int x7), (14, .int x14)]) hx hb dL_step_687 hl (by decide) rfl (fun ls hl => ?_)
    refine lv_aload_n hx hb dL_step_689 rfl (lv_at hl 1 rfl) ?_
    refine lv_iload hx hb dL_step_690 (lv_at hl 2 rfl) ?_
    refine lv_iload hx hb dL_step_692 (lv_at hl 3 rfl) ?_
    refine lv_iconst (v := (1 : Int32)) hx hb dL_step_694 (by decide) ?_
    refine W_stk (st' := [.int (1 : Int32), .int x7, .int x6, .ref (ad 0 0)]) (by rw [h00]) ?_
    obtain ⟨v129, Z131, c130, h⟩ := cl2_ok h
    refine sg_callx (vx_runSX (As := [.ref (ad 0 0), .int x6, .int x7, .int (1 : Int32)]) (rest := []) ⟨hx, hb, hml, hown, hts⟩ (mL_acts1 l hfl D G A ad Z x6 x7 v129 Z131 c130) (vx_cwSW 4 hts gL_step_L_acts rfl rfl rfl (by decide +kernel) ⟨Nat.le_of_ble_eq_true rfl, Nat.le_of_ble_eq_true rfl⟩) (sg_preS hI hK hN hE hS (fun _ h => Or.inl h)) rfl rfl hl.1 rfl (lv_room (Nat.le_of_ble_eq_true rfl)) dL_step_695 ⟨Nat.le_of_ble_eq_true rfl, Nat.le_of_ble_eq_true rfl⟩) hS (fun _ h => Or.inl h) hq hnq ⟨_, rfl⟩ (fun H locs hI hN hq hS => ?_)
    refine W.widen (k := 3) (n := 18) (by decide) (by decide) ?_
    refine lv_istore (lv' := [(16, .int v129), (15, .int t0), (0, .ref (ad0 0 0)), (6, .int x6), (7, .int x7), (14, .int x14)]) hx hb dL_step_698 hl (by decide) rfl (fun ls hl => ?_)
    refine lv_iload hx hb dL_step_700 (lv_at hl 0 rfl) ?_
    refine lv_sipush (v := (-200 : Int32)) hx hb dL_step_702 (by decide) ?_
    refine lv_icmp_ne (tgt := 728) hx hb dL_step_705 (by decide) (fun hc => ?_) (fun hc => ?_)
    · have h := ite_f h hc
      refine lv_iload hx hb dL_step_728 (lv_at hl 0 rfl) ?_
      refine lv_iload hx hb dL_step_730 (lv_at hl 5 rfl) ?_
      refine lv_iconst (v := (1 : Int32)) hx hb dL_step_732 (by decide) ?_
      refine lv_isub hx hb dL_step_733 ?_
      refine lv_icmp_ne (tgt := 790) hx hb dL_step_734 (by decide) (fun hc => ?_) (fun hc => ?_)
      · have h := ite_f h hc
        refine W.widen (k := 6) (n := 36) (by decide) (by decide) ?_
        exact w790  Z131 F h _ _ _ _ h00 hI hN hq hS (lv_sub hl [] rfl)
      · have h := ite_t h hc
        refine lv_aload_n hx hb dL_step_737 rfl (lv_at hl 2 rfl) ?_
        refine lv_iload hx hb dL_step_738 (lv_at hl 4 rfl) ?_
        refine lv_iconst (v := (0 : Int32)) hx hb dL_step_740 (by decide) ?_
        refine W_stk (st' := [.int (0 : Int32), .int x7, .ref (ad 0 0)]) (by rw [h00]) ?_
        obtain ⟨v132, c133, h⟩ := cl1_ok h
        refine sg_calli (va_runV (As := [.int x7, .int (0 : Int32)]) (rest := []) ⟨hx, hb, hml, hown, hts⟩ (mX6_ofBand_n l D G A ad Z131 x7 (0 : Int32) v132  c133) (cwV 2 hts gL_step_X6_ofBand rfl rfl rfl (by decide +kernel) ⟨Nat.le_of_ble_eq_true rfl, Nat.le_of_ble_eq_true rfl⟩) (cg_preV hI hK hN rfl rfl (ci := 7) rfl) rfl rfl hl.1 rfl (lv_room (Nat.le_of_ble_eq_true rfl)) dL_step_741 ⟨Nat.le_of_ble_eq_true rfl, Nat.le_of_ble_eq_true rfl⟩) hS (fun _ h => Or.inl h) hq hnq ⟨_, rfl⟩ (fun H locs hI hN hq hS => ?_)
        refine W.widen (k := 3) (n := 18) (by decide) (by decide) ?_
        refine lv_iload hx hb dL_step_744 (lv_at hl 0 rfl) ?_
        refine lv_icmp_ne (tgt := 790) hx hb dL_step_746 (by decide) (fun hc => ?_) (fun hc => ?_)
        · have h := ite_f h hc
          refine W.widen (k := 6) (n := 36) (by decide) (by decide) ?_
          exact w790  Z131 F h _ _ _ _ h00 hI hN hq hS (lv_sub hl [] rfl)
        · have h := ite_t h hc
          refine lv_iload hx hb dL_step_749 (lv_at hl 1 rfl) ?_
          refine lv_iload hx hb dL_step_751 (lv_at hl 3 rfl) ?_
          refine lv_icmp_eq (tgt := 771) hx hb dL_step_753 (by decide) (fun hc => ?_) (fun hc => ?_)
          · have h := ite_t h hc
            exact w771  x6 x7 Z131 F h _ _ _ _ h00 hI hN hq hS (lv_sub hl [2, 3, 4] rfl)
          · have h := ite_f h hc
            refine lv_aload_n hx hb dL_step_756 rfl (lv_at hl 2 rfl) ?_
            refine lv_iload hx hb dL_step_757 (lv_at hl 4 rfl) ?_
            refine lv_iload hx hb dL_step_759 (lv_at hl 0 rfl) ?_
            refine lv_iconst (v := (1 : Int32)) hx hb dL_step_761 (by decide) ?_
            refine lv_isub hx hb dL_step_762 ?_
            refine W_stk (st' := [.int (v129 - (1 : Int32)), .int x7, .ref (ad 0 0)]) (by rw [h00]) ?_
            obtain ⟨v134, c135, h⟩ := cl1_ok h
            refine sg_calli (va_runV (As := [.int x7, .int (v129 - (1 : Int32))]) (rest := []) ⟨hx, hb, hml, hown, hts⟩ (mX6_seat_n l D G A ad Z131 x7 (v129 - (1 : Int32)) v134  c135) (cwV 2 hts gL_step_X6_seat rfl rfl rfl (by decide +kernel) ⟨Nat.le_of_ble_eq_true rfl, Nat.le_of_ble_eq_true rfl⟩) (cg_preV hI hK hN rfl rfl (ci := 7) rfl) rfl rfl hl.1 rfl (lv_room (Nat.le_of_ble_eq_true rfl)) dL_step_763 ⟨Nat.le_of_ble_eq_true rfl, Nat.le_of_ble_eq_true rfl⟩) hS (fun _ h => Or.inl h) hq hnq ⟨_, rfl⟩ (fun H locs hI hN hq hS => ?_)
            refine W.widen (k := 3) (n := 18) (by decide) (by decide) ?_
            refine lv_iload hx hb dL_step_766 (lv_at hl 1 rfl) ?_
            refine lv_icmp_ne (tgt := 790) hx hb dL_step_768 (by decide) (fun hc => ?_) (fun hc => ?_)
            · have h := ite_f h hc
              refine W.widen (k := 6) (n := 36) (by decide) (by decide) ?_
              exact w790  Z131 F h _ _ _ _ h00 hI hN hq hS (lv_sub hl [] rfl)
            · have h := ite_t h hc
              exact w771  x6 x7 Z131 F h _ _ _ _ h00 hI hN hq hS (lv_sub hl [2, 3, 4] rfl)
    · have h := ite_t h hc
      refine lv_aload_n hx hb dL_step_708 rfl (lv_at hl 2 rfl) ?_
      refine lv_iload hx hb dL_step_709 (lv_at hl 4 rfl) ?_
      refine lv_iconst (v := (0 : Int32)) hx hb dL_step_711 (by decide) ?_
      refine W_stk (st' := [.int (0 : Int32), .int x7, .ref (ad 0 0)]) (by rw [h00]) ?_
      obtain ⟨v136, c137, h⟩ := cl1_ok h
      refine sg_calli (va_runV (As := [.int x7, .int (0 : Int32)]) (rest := []) ⟨hx, hb, hml, hown, hts⟩ (mX6_ofBand_n l D G A ad Z131 x7 (0 : Int32) v136  c137) (cwV 2 hts gL_step_X6_ofBand rfl rfl rfl (by decide +kernel) ⟨Nat.le_of_ble_eq_true rfl, Nat.le_of_ble_eq_true rfl⟩) (cg_preV hI hK hN rfl rfl (ci := 7) rfl) rfl rfl hl.1 rfl (lv_room (Nat.le_of_ble_eq_true rfl)) dL_step_712 ⟨Nat.le_of_ble_eq_true rfl, Nat.le_of_ble_eq_true rfl⟩) hS (fun _ h => Or.inl h) hq hnq ⟨_, rfl⟩ (fun H locs hI hN hq hS => ?_)
      refine W.widen (k := 3) (n := 18) (by decide) (by decide) ?_
      refine lv_iload hx hb dL_step_715 (lv_at hl 5 rfl) ?_
      refine lv_icmp_ne (tgt := 724) hx hb dL_step_717 (by decide) (fun hc => ?_) (fun hc => ?_)
      · have h := ite_f h hc
        refine lv_iconst (v := (0 : Int32)) hx hb dL_step_724 (by decide) ?_
        refine lv_goto (tgt := 791) hx hb dL_step_725 (by decide) ?_
        refine W.widen (k := 6) (n := 36) (by decide) (by decide) ?_
        exact w791  (0 : Int32) Z131 F h _ _ _ _ h00 hI hN hq hS (lv_sub hl [] rfl)
      · have h := ite_t h hc
        refine lv_iconst (v := (1 : Int32)) hx hb dL_step_720 (by decide) ?_
        refine lv_goto (tgt := 791) hx hb dL_step_721 (by decide) ?_
        refine W.widen (k := 6) (n := 36) (by decide) (by decide) ?_
        exact w791  (1 : Int32) Z131 F h _ _ _ _ h00 hI hN hq hS (lv_sub hl [] rfl)
  have w659 : ∀ (x6 : Int32) (x7 : Int32) (Z : CZ) (F : Nat → Int32), fL_step_659  x6 x7 Z F = some (rz, Zz, Fz) → sG p l e (headSpec wsL_step rmL_step).room s m (([.ref (ad0 0 0), .ref q, .int a3, .int a4, .int a5] : List Value).toArray) below meth c (MQ below (sQ D G A ad0 rz Zz q 5 Fz) (([.ref (ad0 0 0), .ref q, .int a3, .int a4, .int a5] : List Value).toArray) s 28 168 (fun y => A y ∨ y = q)) D G (fun y => A y ∨ y = q) A ad0 q 5 0 0 27 Z F 659 [(0, .ref (ad0 0 0)), (6, .int x6), (7, .int x7)] [] := by
    intro  x6 x7 Z F h H locs ls ad h00 hI hN hq hS hl
    unfold fL_step_659 at h
    refine lv_aload_n hx hb dL_step_659 rfl (lv_at hl 0 rfl) ?_
    refine lv_iload hx hb dL_step_660 (lv_at hl 2 rfl) ?_
    refine lv_iconst (v := (0 : Int32)) hx hb dL_step_662 (by decide) ?_
    refine W_stk (st' := [.int (0 : Int32), .int x7, .ref (ad 0 0)]) (by rw [h00]) ?_
    obtain ⟨v33, c34, h⟩ := cl1_ok h
    refine sg_calli (va_runV (As := [.int x7, .int (0 : Int32)]) (rest := []) ⟨hx, hb, hml, hown, hts⟩ (mX6_ofBand_n l D G A ad Z x7 (0 : Int32) v33  c34) (cwV 2 hts gL_step_X6_ofBand rfl rfl rfl (by decide +kernel) ⟨Nat.le_of_ble_eq_true rfl, Nat.le_of_ble_eq_true rfl⟩) (cg_preV hI hK hN rfl rfl (ci := 7) rfl) rfl rfl hl.1 rfl (lv_room (Nat.le_of_ble_eq_true rfl)) dL_step_663 ⟨Nat.le_of_ble_eq_true rfl, Nat.le_of_ble_eq_true rfl⟩) hS (fun _ h => Or.inl h) hq hnq ⟨_, rfl⟩ (fun H locs hI hN hq hS => ?_)
    refine W.widen (k := 0) (n := 0) (by decide) (by decide) ?_
    refine lv_istore (lv' := [(14, .int v33), (0, .ref (ad0 0 0)), (6, .int x6), (7, .int x7)]) hx hb dL_step_666 hl (by decide) rfl (fun ls hl => ?_)
    refine lv_iload hx hb dL_step_668 (lv_at hl 0 rfl) ?_
    refine lv_if_ne (tgt := 677) hx hb dL_step_670 (by decide) (fun hc => ?_) (fun hc => ?_)
    · have h := ite_f h hc
      refine lv_aload_n hx hb dL_step_677 rfl (lv_at hl 1 rfl) ?_
      refine lv_iload hx hb dL_step_678 (lv_at hl 3 rfl) ?_
      refine lv_iload hx hb dL_step_680 (lv_at hl 0 rfl) ?_
      refine lv_iconst (v := (1 : Int32)) hx hb dL_step_682 (by decide) ?_
      refine lv_isub hx hb dL_step_683 ?_
      refine W_stk (st' := [.int (v33 - (1 : Int32)), .int x7, .ref (ad 0 0)]) (by rw [h00]) ?_
      obtain ⟨v35, c36, h⟩ := cl1_ok h
      refine sg_calli (va_runV (As := [.int x7, .int (v33 - (1 : Int32))]) (rest := []) ⟨hx, hb, hml, hown, hts⟩ (mX6_seat_n l D G A ad Z x7 (v33 - (1 : Int32)) v35  c36) (cwV 2 hts gL_step_X6_seat rfl rfl rfl (by decide +kernel) ⟨Nat.le_of_ble_eq_true rfl, Nat.le_of_ble_eq_true rfl⟩) (cg_preV hI hK hN rfl rfl (ci := 7) rfl) rfl rfl hl.1 rfl (lv_room (Nat.le_of_ble_eq_true rfl)) dL_step_684 ⟨Nat.le_of_ble_eq_true rfl, Nat.le_of_ble_eq_true rfl⟩) hS (fun _ h => Or.inl h) hq hnq ⟨_, rfl⟩ (fun H locs hI hN hq hS => ?_)
      refine W.widen (k := 0) (n := 0) (by decide) (by decide) ?_
      exact w687  x6 x7 v33 v35 Z F h _ _ _ _ h00 hI hN hq hS (lv_sub hl [1, 2, 3, 0] rfl)
    · have h := ite_t h hc
      refine lv_iconst (v := (-1 : Int32)) hx hb dL_step_673 (by decide) ?_
      refine lv_goto (tgt := 687) hx hb dL_step_674 (by decide) ?_
      exact w687  x6 x7 v33 (-1 : Int32) Z F h _ _ _ _ h00 hI hN hq hS (lv_sub hl [1, 2, 3, 0] rfl)
  have w870 : ∀ (t0 : Int32) (Z : CZ) (F : Nat → Int32), fL_step_870  t0 Z F = some (rz, Zz, Fz) → sG p l e (headSpec wsL_step rmL_step).room s m (([.ref (ad0 0 0), .ref q, .int a3, .int a4, .int a5] : List Value).toArray) below meth c (MQ below (sQ D G A ad0 rz Zz q 5 Fz) (([.ref (ad0 0 0), .ref q, .int a3, .int a4, .int a5] : List Value).toArray) s 28 168 (fun y => A y ∨ y = q)) D G (fun y => A y ∨ y = q) A ad0 q 5 6 36 27 Z F 870 [] [.int t0] := by
    intro  t0 Z F h H locs ls ad h00 hI hN hq hS hl
    unfold fL_step_870 at h
    obtain ⟨g172, h⟩ := gd_ok h
    refine W.widen (k := 28) (n := 168) (by decide) (by decide) ?_
    exact W.zret hx hb hr (gbo_ok g172) (sg_end h h00 hI hK hN hq hS) (fun z hz => hS.2.2 z hz) dL_step_870
  have w849 : ∀ (Z : CZ) (F : Nat → Int32), fL_step_849  Z F = some (rz, Zz, Fz) → sG p l e (headSpec wsL_step rmL_step).room s m (([.ref (ad0 0 0), .ref q, .int a3, .int a4, .int a5] : List Value).toArray) below meth c (MQ below (sQ D G A ad0 rz Zz q 5 Fz) (([.ref (ad0 0 0), .ref q, .int a3, .int a4, .int a5] : List Value).toArray) s 28 168 (fun y => A y ∨ y = q)) D G (fun y => A y ∨ y = q) A ad0 q 5 6 36 27 Z F 849 [] [] := by
    intro  Z F h H locs ls ad h00 hI hN hq hS hl
    unfold fL_step_849 at h
    refine lv_iconst (v := (0 : Int32)) hx hb dL_step_849 (by decide) ?_
    refine lv_goto (tgt := 870) hx hb dL_step_850 (by decide) ?_
    exact w870  (0 : Int32) Z F h _ _ _ _ h00 hI hN hq hS (lv_sub hl [] rfl)
  have w792 : ∀ (x5 : Int32) (x6 : Int32) (Z : CZ) (F : Nat → Int32), fL_step_792  x5 x6 Z F = some (rz, Zz, Fz) → sG p l e (headSpec wsL_step rmL_step).room s m (([.ref (ad0 0 0), .ref q, .int a3, .int a4, .int a5] : List Value).toArray) below meth c (MQ below (sQ D G A ad0 rz Zz q 5 Fz) (([.ref (ad0 0 0), .ref q, .int a3, .int a4, .int a5] : List Value).toArray) s 28 168 (fun y => A y ∨ y = q)) D G (fun y => A y ∨ y = q) A ad0 q 5 0 0 27 Z F 792 [(0, .ref (ad0 0 0)), (5, .int x5), (6, .int x6)] [] := by
    intro  x5 x6 Z F h H locs ls ad h00 hI hN hq hS hl
    unfold fL_step_792 at h
    refine lv_aload_n hx hb dL_step_792 rfl (lv_at hl 0 rfl) ?_
    refine lv_iload hx hb dL_step_793 (lv_at hl 2 rfl) ?_
    refine lv_iconst (v := (2 : Int32)) hx hb dL_step_795 (by decide) ?_
    refine W_stk (st' := [.int (2 : Int32), .int x6, .ref (ad 0 0)]) (by rw [h00]) ?_
    obtain ⟨v37, c38, h⟩ := cl1_ok h
    refine sg_calli (va_runV (As := [.int x6, .int (2 : Int32)]) (rest := []) ⟨hx, hb, hml, hown, hts⟩ (mX6_ofPlayer_n l D G A ad Z x6 (2 : Int32) v37  c38) (cwV 2 hts gL_step_X6_ofPlayer rfl rfl rfl (by decide +kernel) ⟨Nat.le_of_ble_eq_true rfl, Nat.le_of_ble_eq_true rfl⟩) (cg_preV hI hK hN rfl rfl (ci := 7) rfl) rfl rfl hl.1 rfl (lv_room (Nat.le_of_ble_eq_true rfl)) dL_step_796 ⟨Nat.le_of_ble_eq_true rfl, Nat.le_of_ble_eq_true rfl⟩) hS (fun _ h => Or.inl h) hq hnq ⟨_, rfl⟩ (fun H locs hI hN hq hS => ?_)
    refine W.widen (k := 0) (n := 0) (by decide) (by decide) ?_
    refine lv_istore (lv' := [(17, .int v37), (0, .ref (ad0 0 0)), (5, .int x5), (6, .int x6)]) hx hb dL_step_799 hl (by decide) rfl (fun ls hl => ?_)
    refine lv_aload_n hx hb dL_step_801 rfl (lv_at hl 1 rfl) ?_
    refine lv_iload hx hb dL_step_802 (lv_at hl 3 rfl) ?_
    refine lv_iload hx hb dL_step_804 (lv_at hl 2 rfl) ?_
    refine W_stk (st' := [.int x5, .int x6, .ref (ad 0 0)]) (by rw [h00]) ?_
    obtain ⟨v39, Z41, c40, h⟩ := cl2_ok h
    refine sg_callx (vx_runSX (As := [.ref (ad 0 0), .int x6, .int x5]) (rest := []) ⟨hx, hb, hml, hown, hts⟩ (mL_gives l hfl D G A ad Z x6 x5 v39 Z41 c40) (vx_cwSW 3 hts gL_step_L_gives rfl rfl rfl (by decide +kernel) ⟨Nat.le_of_ble_eq_true rfl, Nat.le_of_ble_eq_true rfl⟩) (sg_preS hI hK hN hE hS (fun _ h => Or.inl h)) rfl rfl hl.1 rfl (lv_room (Nat.le_of_ble_eq_true rfl)) dL_step_806 ⟨Nat.le_of_ble_eq_true rfl, Nat.le_of_ble_eq_true rfl⟩) hS (fun _ h => Or.inl h) hq hnq ⟨_, rfl⟩ (fun H locs hI hN hq hS => ?_)
    refine W.widen (k := 3) (n := 18) (by decide) (by decide) ?_
    refine lv_istore (lv' := [(18, .int v39), (17, .int v37), (0, .ref (ad0 0 0)), (5, .int x5), (6, .int x6)]) hx hb dL_step_809 hl (by decide) rfl (fun ls hl => ?_)
    refine lv_iload hx hb dL_step_811 (lv_at hl 0 rfl) ?_
    refine lv_if_eq (tgt := 853) hx hb dL_step_813 (by decide) (fun hc => ?_) (fun hc => ?_)
    · have h := ite_t h hc
      refine lv_aload_n hx hb dL_step_853 rfl (lv_at hl 2 rfl) ?_
      refine lv_iload hx hb dL_step_854 (lv_at hl 4 rfl) ?_
      refine lv_iconst (v := (2 : Int32)) hx hb dL_step_856 (by decide) ?_
      refine W_stk (st' := [.int (2 : Int32), .int x6, .ref (ad 0 0)]) (by rw [h00]) ?_
      obtain ⟨v42, c43, h⟩ := cl1_ok h
      refine sg_calli (va_runV (As := [.int x6, .int (2 : Int32)]) (rest := []) ⟨hx, hb, hml, hown, hts⟩ (mX6_ofPlayer_n l D G A ad Z41 x6 (2 : Int32) v42  c43) (cwV 2 hts gL_step_X6_ofPlayer rfl rfl rfl (by decide +kernel) ⟨Nat.le_of_ble_eq_true rfl, Nat.le_of_ble_eq_true rfl⟩) (cg_preV hI hK hN rfl rfl (ci := 7) rfl) rfl rfl hl.1 rfl (lv_room (Nat.le_of_ble_eq_true rfl)) dL_step_857 ⟨Nat.le_of_ble_eq_true rfl, Nat.le_of_ble_eq_true rfl⟩) hS (fun _ h => Or.inl h) hq hnq ⟨_, rfl⟩ (fun H locs hI hN hq hS => ?_)
      refine W.widen (k := 3) (n := 18) (by decide) (by decide) ?_
      refine lv_iload hx hb dL_step_860 (lv_at hl 1 rfl) ?_
      refine lv_icmp_ne (tgt := 869) hx hb dL_step_862 (by decide) (fun hc => ?_) (fun hc => ?_)
      · have h := ite_f h hc
        refine lv_iconst (v := (0 : Int32)) hx hb dL_step_869 (by decide) ?_
        refine W.widen (k := 6) (n := 36) (by decide) (by decide) ?_
        exact w870  (0 : Int32) Z41 F h _ _ _ _ h00 hI hN hq hS (lv_sub hl [] rfl)
      · have h := ite_t h hc
        refine lv_iconst (v := (1 : Int32)) hx hb dL_step_865 (by decide) ?_
        refine lv_goto (tgt := 870) hx hb dL_step_866 (by decide) ?_
        refine W.widen (k := 6) (n := 36) (by decide) (by decide) ?_
        exact w870  (1 : Int32) Z41 F h _ _ _ _ h00 hI hN hq hS (lv_sub hl [] rfl)
    · have h := ite_f h hc
      refine lv_iload hx hb dL_step_816 (lv_at hl 1 rfl) ?_
      refine lv_iconst (v := (-1 : Int32)) hx hb dL_step_818 (by decide) ?_
      refine lv_icmp_ne (tgt := 849) hx hb dL_step_819 (by decide) (fun hc => ?_) (fun hc => ?_)
      · have h := ite_f h hc
        refine W.widen (k := 6) (n := 36) (by decide) (by decide) ?_
        exact w849  Z41 F h _ _ _ _ h00 hI hN hq hS (lv_sub hl [] rfl)
      · have h := ite_t h hc
        refine lv_aload_n hx hb dL_step_822 rfl (lv_at hl 2 rfl) ?_
        refine lv_iload hx hb dL_step_823 (lv_at hl 4 rfl) ?_
        refine lv_iconst (v := (2 : Int32)) hx hb dL_step_825 (by decide) ?_
        refine W_stk (st' := [.int (2 : Int32), .int x6, .ref (ad 0 0)]) (by rw [h00]) ?_
        obtain ⟨v44, c45, h⟩ := cl1_ok h
        refine sg_calli (va_runV (As := [.int x6, .int (2 : Int32)]) (rest := []) ⟨hx, hb, hml, hown, hts⟩ (mX6_ofPlayer_n l D G A ad Z41 x6 (2 : Int32) v44  c45) (cwV 2 hts gL_step_X6_ofPlayer rfl rfl rfl (by decide +kernel) ⟨Nat.le_of_ble_eq_true rfl, Nat.le_of_ble_eq_true rfl⟩) (cg_preV hI hK hN rfl rfl (ci := 7) rfl) rfl rfl hl.1 rfl (lv_room (Nat.le_of_ble_eq_true rfl)) dL_step_826 ⟨Nat.le_of_ble_eq_true rfl, Nat.le_of_ble_eq_true rfl⟩) hS (fun _ h => Or.inl h) hq hnq ⟨_, rfl⟩ (fun H locs hI hN hq hS => ?_)
        refine W.widen (k := 3) (n := 18) (by decide) (by decide) ?_
        refine lv_iload hx hb dL_step_829 (lv_at hl 3 rfl) ?_
        refine lv_icmp_ne (tgt := 849) hx hb dL_step_831 (by decide) (fun hc => ?_) (fun hc => ?_)
        · have h := ite_f h hc
          refine W.widen (k := 6) (n := 36) (by decide) (by decide) ?_
          exact w849  Z41 F h _ _ _ _ h00 hI hN hq hS (lv_sub hl [] rfl)
        · have h := ite_t h hc
          refine lv_aload_n hx hb dL_step_834 rfl (lv_at hl 2 rfl) ?_
          refine lv_iload hx hb dL_step_835 (lv_at hl 4 rfl) ?_
          refine lv_iload hx hb dL_step_837 (lv_at hl 3 rfl) ?_
          refine W_stk (st' := [.int x5, .int x6, .ref (ad 0 0)]) (by rw [h00]) ?_
          obtain ⟨v46, Z48, c47, h⟩ := cl2_ok h
          refine sg_callx (vx_runSX (As := [.ref (ad 0 0), .int x6, .int x5]) (rest := []) ⟨hx, hb, hml, hown, hts⟩ (mL_gives l hfl D G A ad Z41 x6 x5 v46 Z48 c47) (vx_cwSW 3 hts gL_step_L_gives rfl rfl rfl (by decide +kernel) ⟨Nat.le_of_ble_eq_true rfl, Nat.le_of_ble_eq_true rfl⟩) (sg_preS hI hK hN hE hS (fun _ h => Or.inl h)) rfl rfl hl.1 rfl (lv_room (Nat.le_of_ble_eq_true rfl)) dL_step_839 ⟨Nat.le_of_ble_eq_true rfl, Nat.le_of_ble_eq_true rfl⟩) hS (fun _ h => Or.inl h) hq hnq ⟨_, rfl⟩ (fun H locs hI hN hq hS => ?_)
          refine W.widen (k := 6) (n := 36) (by decide) (by decide) ?_
          refine lv_if_ne (tgt := 849) hx hb dL_step_842 (by decide) (fun hc => ?_) (fun hc => ?_)
          · have h := ite_f h hc
            exact w849  Z48 F h _ _ _ _ h00 hI hN hq hS (lv_sub hl [] rfl)
          · have h := ite_t h hc
            refine lv_iconst (v := (1 : Int32)) hx hb dL_step_845 (by decide) ?_
            refine lv_goto (tgt := 870) hx hb dL_step_846 (by decide) ?_
            exact w870  (1 : Int32) Z48 F h _ _ _ _ h00 hI hN hq hS (lv_sub hl [] rfl)
  have w935 : ∀ (t0 : Int32) (Z : CZ) (F : Nat → Int32), fL_step_935  t0 Z F = some (rz, Zz, Fz) → sG p l e (headSpec wsL_step rmL_step).room s m (([.ref (ad0 0 0), .ref q, .int a3, .int a4, .int a5] : List Value).toArray) below meth c (MQ below (sQ D G A ad0 rz Zz q 5 Fz) (([.ref (ad0 0 0), .ref q, .int a3, .int a4, .int a5] : List Value).toArray) s 28 168 (fun y => A y ∨ y = q)) D G (fun y => A y ∨ y = q) A ad0 q 5 2 12 27 Z F 935 [] [.int t0] := by
    intro  t0 Z F h H locs ls ad h00 hI hN hq hS hl
    unfold fL_step_935 at h
    obtain ⟨g127, h⟩ := gd_ok h
    refine W.widen (k := 28) (n := 168) (by decide) (by decide) ?_
    exact W.zret hx hb hr (gbo_ok g127) (sg_end h h00 hI hK hN hq hS) (fun z hz => hS.2.2 z hz) dL_step_935
  have w934 : ∀ (Z : CZ) (F : Nat → Int32), fL_step_934  Z F = some (rz, Zz, Fz) → sG p l e (headSpec wsL_step rmL_step).room s m (([.ref (ad0 0 0), .ref q, .int a3, .int a4, .int a5] : List Value).toArray) below meth c (MQ below (sQ D G A ad0 rz Zz q 5 Fz) (([.ref (ad0 0 0), .ref q, .int a3, .int a4, .int a5] : List Value).toArray) s 28 168 (fun y => A y ∨ y = q)) D G (fun y => A y ∨ y = q) A ad0 q 5 2 12 27 Z F 934 [] [] := by
    intro  Z F h H locs ls ad h00 hI hN hq hS hl
    unfold fL_step_934 at h
    refine lv_iconst (v := (0 : Int32)) hx hb dL_step_934 (by decide) ?_
    exact w935  (0 : Int32) Z F h _ _ _ _ h00 hI hN hq hS (lv_sub hl [] rfl)
  have w871 : ∀ (x6 : Int32) (Z : CZ) (F : Nat → Int32), fL_step_871  x6 Z F = some (rz, Zz, Fz) → sG p l e (headSpec wsL_step rmL_step).room s m (([.ref (ad0 0 0), .ref q, .int a3, .int a4, .int a5] : List Value).toArray) below meth c (MQ below (sQ D G A ad0 rz Zz q 5 Fz) (([.ref (ad0 0 0), .ref q, .int a3, .int a4, .int a5] : List Value).toArray) s 28 168 (fun y => A y ∨ y = q)) D G (fun y => A y ∨ y = q) A ad0 q 5 0 0 27 Z F 871 [(0, .ref (ad0 0 0)), (6, .int x6)] [] := by
    intro  x6 Z F h H locs ls ad h00 hI hN hq hS hl
    unfold fL_step_871 at h
    refine lv_aload_n hx hb dL_step_871 rfl (lv_at hl 0 rfl) ?_
    refine lv_iload hx hb dL_step_872 (lv_at hl 1 rfl) ?_
    refine lv_iconst (v := (2 : Int32)) hx hb dL_step_874 (by decide) ?_
    refine W_stk (st' := [.int (2 : Int32), .int x6, .ref (ad 0 0)]) (by rw [h00]) ?_
    obtain ⟨v100, c101, h⟩ := cl1_ok h
    refine sg_calli (va_runV (As := [.int x6, .int (2 : Int32)]) (rest := []) ⟨hx, hb, hml, hown, hts⟩ (mX6_ofPlayer_n l D G A ad Z x6 (2 : Int32) v100  c101) (cwV 2 hts gL_step_X6_ofPlayer rfl rfl rfl (by decide +kernel) ⟨Nat.le_of_ble_eq_true rfl, Nat.le_of_ble_eq_true rfl⟩) (cg_preV hI hK hN rfl rfl (ci := 7) rfl) rfl rfl hl.1 rfl (lv_room (Nat.le_of_ble_eq_true rfl)) dL_step_875 ⟨Nat.le_of_ble_eq_true rfl, Nat.le_of_ble_eq_true rfl⟩) hS (fun _ h => Or.inl h) hq hnq ⟨_, rfl⟩ (fun H locs hI hN hq hS => ?_)
    refine W.widen (k := 0) (n := 0) (by decide) (by decide) ?_
    refine lv_istore (lv' := [(19, .int v100), (0, .ref (ad0 0 0)), (6, .int x6)]) hx hb dL_step_878 hl (by decide) rfl (fun ls hl => ?_)
    refine lv_aload_n hx hb dL_step_880 rfl (lv_at hl 1 rfl) ?_
    refine lv_iload hx hb dL_step_881 (lv_at hl 2 rfl) ?_
    refine lv_iconst (v := (0 : Int32)) hx hb dL_step_883 (by decide) ?_
    refine lv_iconst (v := (2 : Int32)) hx hb dL_step_884 (by decide) ?_
    refine W_stk (st' := [.int (2 : Int32), .int (0 : Int32), .int x6, .ref (ad 0 0)]) (by rw [h00]) ?_
    obtain ⟨v102, Z104, c103, h⟩ := cl2_ok h
    refine sg_callx (vx_runSX (As := [.ref (ad 0 0), .int x6, .int (0 : Int32), .int (2 : Int32)]) (rest := []) ⟨hx, hb, hml, hown, hts⟩ (mL_acts2 l hfl D G A ad Z x6 (0 : Int32) v102 Z104 c103) (vx_cwSW 4 hts gL_step_L_acts rfl rfl rfl (by decide +kernel) ⟨Nat.le_of_ble_eq_true rfl, Nat.le_of_ble_eq_true rfl⟩) (sg_preS hI hK hN hE hS (fun _ h => Or.inl h)) rfl rfl hl.1 rfl (lv_room (Nat.le_of_ble_eq_true rfl)) dL_step_885 ⟨Nat.le_of_ble_eq_true rfl, Nat.le_of_ble_eq_true rfl⟩) hS (fun _ h => Or.inl h) hq hnq ⟨_, rfl⟩ (fun H locs hI hN hq hS => ?_)
    refine W.widen (k := 2) (n := 12) (by decide) (by decide) ?_
    refine lv_istore (lv' := [(20, .int v102), (19, .int v100), (0, .ref (ad0 0 0)), (6, .int x6)]) hx hb dL_step_888 hl (by decide) rfl (fun ls hl => ?_)
    refine lv_iload hx hb dL_step_890 (lv_at hl 0 rfl) ?_
    refine lv_sipush (v := (-200 : Int32)) hx hb dL_step_892 (by decide) ?_
    refine lv_icmp_ne (tgt := 912) hx hb dL_step_895 (by decide) (fun hc => ?_) (fun hc => ?_)
    · have h := ite_f h hc
      refine lv_iload hx hb dL_step_912 (lv_at hl 0 rfl) ?_
      refine lv_iload hx hb dL_step_914 (lv_at hl 1 rfl) ?_
      refine lv_icmp_ne (tgt := 934) hx hb dL_step_916 (by decide) (fun hc => ?_) (fun hc => ?_)
      · have h := ite_f h hc
        exact w934  Z104 F h _ _ _ _ h00 hI hN hq hS (lv_sub hl [] rfl)
      · have h := ite_t h hc
        refine lv_aload_n hx hb dL_step_919 rfl (lv_at hl 2 rfl) ?_
        refine lv_iload hx hb dL_step_920 (lv_at hl 3 rfl) ?_
        refine lv_iconst (v := (2 : Int32)) hx hb dL_step_922 (by decide) ?_
        refine W_stk (st' := [.int (2 : Int32), .int x6, .ref (ad 0 0)]) (by rw [h00]) ?_
        obtain ⟨v105, c106, h⟩ := cl1_ok h
        refine sg_calli (va_runV (As := [.int x6, .int (2 : Int32)]) (rest := []) ⟨hx, hb, hml, hown, hts⟩ (mX6_ofPlayer_n l D G A ad Z104 x6 (2 : Int32) v105  c106) (cwV 2 hts gL_step_X6_ofPlayer rfl rfl rfl (by decide +kernel) ⟨Nat.le_of_ble_eq_true rfl, Nat.le_of_ble_eq_true rfl⟩) (cg_preV hI hK hN rfl rfl (ci := 7) rfl) rfl rfl hl.1 rfl (lv_room (Nat.le_of_ble_eq_true rfl)) dL_step_923 ⟨Nat.le_of_ble_eq_true rfl, Nat.le_of_ble_eq_true rfl⟩) hS (fun _ h => Or.inl h) hq hnq ⟨_, rfl⟩ (fun H locs hI hN hq hS => ?_)
        refine W.widen (k := 2) (n := 12) (by decide) (by decide) ?_
        refine lv_iconst (v := (-1 : Int32)) hx hb dL_step_926 (by decide) ?_
        refine lv_icmp_ne (tgt := 934) hx hb dL_step_927 (by decide) (fun hc => ?_) (fun hc => ?_)
        · have h := ite_f h hc
          exact w934  Z104 F h _ _ _ _ h00 hI hN hq hS (lv_sub hl [] rfl)
        · have h := ite_t h hc
          refine lv_iconst (v := (1 : Int32)) hx hb dL_step_930 (by decide) ?_
          refine lv_goto (tgt := 935) hx hb dL_step_931 (by decide) ?_
          exact w935  (1 : Int32) Z104 F h _ _ _ _ h00 hI hN hq hS (lv_sub hl [] rfl)
    · have h := ite_t h hc
      refine lv_iload hx hb dL_step_898 (lv_at hl 1 rfl) ?_
      refine lv_iconst (v := (-1 : Int32)) hx hb dL_step_900 (by decide) ?_
      refine lv_icmp_ne (tgt := 908) hx hb dL_step_901 (by decide) (fun hc => ?_) (fun hc => ?_)
      · have h := ite_f h hc
        refine lv_iconst (v := (0 : Int32)) hx hb dL_step_908 (by decide) ?_
        refine lv_goto (tgt := 935) hx hb dL_step_909 (by decide) ?_
        exact w935  (0 : Int32) Z104 F h _ _ _ _ h00 hI hN hq hS (lv_sub hl [] rfl)
      · have h := ite_t h hc
        refine lv_iconst (v := (1 : Int32)) hx hb dL_step_904 (by decide) ?_
        refine lv_goto (tgt := 935) hx hb dL_step_905 (by decide) ?_
        exact w935  (1 : Int32) Z104 F h _ _ _ _ h00 hI hN hq hS (lv_sub hl [] rfl)
  have w1009 : ∀ (t0 : Int32) (Z : CZ) (F : Nat → Int32), fL_step_1009  t0 Z F = some (rz, Zz, Fz) → sG p l e (headSpec wsL_step rmL_step).room s m (([.ref (ad0 0 0), .ref q, .int a3, .int a4, .int a5] : List Value).toArray) below meth c (MQ below (sQ D G A ad0 rz Zz q 5 Fz) (([.ref (ad0 0 0), .ref q, .int a3, .int a4, .int a5] : List Value).toArray) s 28 168 (fun y => A y ∨ y = q)) D G (fun y => A y ∨ y = q) A ad0 q 5 3 18 27 Z F 1009 [] [.int t0] := by
    intro  t0 Z F h H locs ls ad h00 hI hN hq hS hl
    unfold fL_step_1009 at h
    obtain ⟨g182, h⟩ := gd_ok h
    refine W.widen (k := 28) (n := 168) (by decide) (by decide) ?_
    exact W.zret hx hb hr (gbo_ok g182) (sg_end h h00 hI hK hN hq hS) (fun z hz => hS.2.2 z hz) dL_step_1009
  have w1008 : ∀ (Z : CZ) (F : Nat → Int32), fL_step_1008  Z F = some (rz, Zz, Fz) → sG p l e (headSpec wsL_step rmL_step).room s m (([.ref (ad0 0 0), .ref q, .int a3, .int a4, .int a5] : List Value).toArray) below meth c (MQ below (sQ D G A ad0 rz Zz q 5 Fz) (([.ref (ad0 0 0), .ref q, .int a3, .int a4, .int a5] : List Value).toArray) s 28 168 (fun y => A y ∨ y = q)) D G (fun y => A y ∨ y = q) A ad0 q 5 3 18 27 Z F 1008 [] [] := by
    intro  Z F h H locs ls ad h00 hI hN hq hS hl
    unfold fL_step_1008 at h
    refine lv_iconst (v := (0 : Int32)) hx hb dL_step_1008 (by decide) ?_
    exact w1009  (0 : Int32) Z F h _ _ _ _ h00 hI hN hq hS (lv_sub hl [] rfl)
  have w936 : ∀ (x4 : Int32) (x7 : Int32) (Z : CZ) (F : Nat → Int32), fL_step_936  x4 x7 Z F = some (rz, Zz, Fz) → sG p l e (headSpec wsL_step rmL_step).room s m (([.ref (ad0 0 0), .ref q, .int a3, .int a4, .int a5] : List Value).toArray) below meth c (MQ below (sQ D G A ad0 rz Zz q 5 Fz) (([.ref (ad0 0 0), .ref q, .int a3, .int a4, .int a5] : List Value).toArray) s 28 168 (fun y => A y ∨ y = q)) D G (fun y => A y ∨ y = q) A ad0 q 5 0 0 27 Z F 936 [(0, .ref (ad0 0 0)), (4, .int x4), (7, .int x7)] [] := by
    intro  x4 x7 Z F h H locs ls ad h00 hI hN hq hS hl
    unfold fL_step_936 at h
    refine lv_aload_n hx hb dL_step_936 rfl (lv_at hl 0 rfl) ?_
    refine lv_iload hx hb dL_step_937 (lv_at hl 2 rfl) ?_
    refine lv_iload hx hb dL_step_939 (lv_at hl 1 rfl) ?_
    refine lv_bipush (v := (12 : Int32)) hx hb dL_step_941 (by decide) ?_
    refine lv_irm hx hb dL_step_943 (by decide) ?_
    refine lv_iconst (v := (5 : Int32)) hx hb dL_step_944 (by decide) ?_
    refine W_stk (st' := [.int (5 : Int32), .int (irm x4 (12 : Int32)), .int x7, .ref (ad 0 0)]) (by rw [h00]) ?_
    obtain ⟨v78, Z80, c79, h⟩ := cl2_ok h
    refine sg_callx (vx_runSX (As := [.ref (ad 0 0), .int x7, .int (irm x4 (12 : Int32)), .int (5 : Int32)]) (rest := []) ⟨hx, hb, hml, hown, hts⟩ (mL_acts5 l hfl D G A ad Z x7 (irm x4 (12 : Int32)) v78 Z80 c79) (vx_cwSW 4 hts gL_step_L_acts rfl rfl rfl (by decide +kernel) ⟨Nat.le_of_ble_eq_true rfl, Nat.le_of_ble_eq_true rfl⟩) (sg_preS hI hK hN hE hS (fun _ h => Or.inl h)) rfl rfl hl.1 rfl (lv_room (Nat.le_of_ble_eq_true rfl)) dL_step_945 ⟨Nat.le_of_ble_eq_true rfl, Nat.le_of_ble_eq_true rfl⟩) hS (fun _ h => Or.inl h) hq hnq ⟨_, rfl⟩ (fun H locs hI hN hq hS => ?_)
    refine W.widen (k := 3) (n := 18) (by decide) (by decide) ?_
    refine lv_istore (lv' := [(21, .int v78), (0, .ref (ad0 0 0)), (4, .int x4), (7, .int x7)]) hx hb dL_step_948 hl (by decide) rfl (fun ls hl => ?_)
    refine lv_iload hx hb dL_step_950 (lv_at hl 0 rfl) ?_
    refine lv_sipush (v := (-200 : Int32)) hx hb dL_step_952 (by decide) ?_
    refine lv_icmp_ne (tgt := 978) hx hb dL_step_955 (by decide) (fun hc => ?_) (fun hc => ?_)
    · have h := ite_f h hc
      refine lv_iload hx hb dL_step_978 (lv_at hl 0 rfl) ?_
      refine lv_aload_n hx hb dL_step_980 rfl (lv_at hl 1 rfl) ?_
      refine lv_iload hx hb dL_step_981 (lv_at hl 3 rfl) ?_
      refine lv_iconst (v := (1 : Int32)) hx hb dL_step_983 (by decide) ?_
      refine W_stk (st' := [.int (1 : Int32), .int x7, .ref (ad 0 0), .int v78]) (by rw [h00]) ?_
      obtain ⟨v81, c82, h⟩ := cl1_ok h
      refine sg_calli (va_runV (As := [.int x7, .int (1 : Int32)]) (rest := [.int v78]) ⟨hx, hb, hml, hown, hts⟩ (mX6_ofBand_n l D G A ad Z80 x7 (1 : Int32) v81  c82) (cwV 2 hts gL_step_X6_ofBand rfl rfl rfl (by decide +kernel) ⟨Nat.le_of_ble_eq_true rfl, Nat.le_of_ble_eq_true rfl⟩) (cg_preV hI hK hN rfl rfl (ci := 7) rfl) rfl rfl hl.1 rfl (lv_room (Nat.le_of_ble_eq_true rfl)) dL_step_984 ⟨Nat.le_of_ble_eq_true rfl, Nat.le_of_ble_eq_true rfl⟩) hS (fun _ h => Or.inl h) hq hnq ⟨_, rfl⟩ (fun H locs hI hN hq hS => ?_)
      refine W.widen (k := 3) (n := 18) (by decide) (by decide) ?_
      refine lv_icmp_ne (tgt := 1008) hx hb dL_step_987 (by decide) (fun hc => ?_) (fun hc => ?_)
      · have h := ite_f h hc
        exact w1008  Z80 F h _ _ _ _ h00 hI hN hq hS (lv_sub hl [] rfl)
      · have h := ite_t h hc
        refine lv_aload_n hx hb dL_step_990 rfl (lv_at hl 1 rfl) ?_
        refine lv_iload hx hb dL_step_991 (lv_at hl 3 rfl) ?_
        refine lv_iconst (v := (2 : Int32)) hx hb dL_step_993 (by decide) ?_
        refine W_stk (st' := [.int (2 : Int32), .int x7, .ref (ad 0 0)]) (by rw [h00]) ?_
        obtain ⟨v83, c84, h⟩ := cl1_ok h
        refine sg_calli (va_runV (As := [.int x7, .int (2 : Int32)]) (rest := []) ⟨hx, hb, hml, hown, hts⟩ (mX6_ofBand_n l D G A ad Z80 x7 (2 : Int32) v83  c84) (cwV 2 hts gL_step_X6_ofBand rfl rfl rfl (by decide +kernel) ⟨Nat.le_of_ble_eq_true rfl, Nat.le_of_ble_eq_true rfl⟩) (cg_preV hI hK hN rfl rfl (ci := 7) rfl) rfl rfl hl.1 rfl (lv_room (Nat.le_of_ble_eq_true rfl)) dL_step_994 ⟨Nat.le_of_ble_eq_true rfl, Nat.le_of_ble_eq_true rfl⟩) hS (fun _ h => Or.inl h) hq hnq ⟨_, rfl⟩ (fun H locs hI hN hq hS => ?_)
        refine W.widen (k := 3) (n := 18) (by decide) (by decide) ?_
        refine lv_iload hx hb dL_step_997 (lv_at hl 0 rfl) ?_
        refine lv_iconst (v := (4 : Int32)) hx hb dL_step_999 (by decide) ?_
        refine lv_idiv hx hb dL_step_1000 (by decide) ?_
        refine lv_icmp_ne (tgt := 1008) hx hb dL_step_1001 (by decide) (fun hc => ?_) (fun hc => ?_)
        · have h := ite_f h hc
          exact w1008  Z80 F h _ _ _ _ h00 hI hN hq hS (lv_sub hl [] rfl)
        · have h := ite_t h hc
          refine lv_iconst (v := (1 : Int32)) hx hb dL_step_1004 (by decide) ?_
          refine lv_goto (tgt := 1009) hx hb dL_step_1005 (by decide) ?_
          exact w1009  (1 : Int32) Z80 F h _ _ _ _ h00 hI hN hq hS (lv_sub hl [] rfl)
    · have h := ite_t h hc
      refine lv_aload_n hx hb dL_step_958 rfl (lv_at hl 1 rfl) ?_
      refine lv_iload hx hb dL_step_959 (lv_at hl 3 rfl) ?_
      refine lv_iconst (v := (1 : Int32)) hx hb dL_step_961 (by decide) ?_
      refine W_stk (st' := [.int (1 : Int32), .int x7, .ref (ad 0 0)]) (by rw [h00]) ?_
      obtain ⟨v85, c86, h⟩ := cl1_ok h
      refine sg_calli (va_runV (As := [.int x7, .int (1 : Int32)]) (rest := []) ⟨hx, hb, hml, hown, hts⟩ (mX6_ofBand_n l D G A ad Z80 x7 (1 : Int32) v85  c86) (cwV 2 hts gL_step_X6_ofBand rfl rfl rfl (by decide +kernel) ⟨Nat.le_of_ble_eq_true rfl, Nat.le_of_ble_eq_true rfl⟩) (cg_preV hI hK hN rfl rfl (ci := 7) rfl) rfl rfl hl.1 rfl (lv_room (Nat.le_of_ble_eq_true rfl)) dL_step_962 ⟨Nat.le_of_ble_eq_true rfl, Nat.le_of_ble_eq_true rfl⟩) hS (fun _ h => Or.inl h) hq hnq ⟨_, rfl⟩ (fun H locs hI hN hq hS => ?_)
      refine W.widen (k := 3) (n := 18) (by decide) (by decide) ?_
      refine lv_bipush (v := (24 : Int32)) hx hb dL_step_965 (by decide) ?_
      refine lv_icmp_ne (tgt := 974) hx hb dL_step_967 (by decide) (fun hc => ?_) (fun hc => ?_)
      · have h := ite_f h hc
        refine lv_iconst (v := (0 : Int32)) hx hb dL_step_974 (by decide) ?_
        refine lv_goto (tgt := 1009) hx hb dL_step_975 (by decide) ?_
        exact w1009  (0 : Int32) Z80 F h _ _ _ _ h00 hI hN hq hS (lv_sub hl [] rfl)
      · have h := ite_t h hc
        refine lv_iconst (v := (1 : Int32)) hx hb dL_step_970 (by decide) ?_
        refine lv_goto (tgt := 1009) hx hb dL_step_971 (by decide) ?_
        exact w1009  (1 : Int32) Z80 F h _ _ _ _ h00 hI hN hq hS (lv_sub hl [] rfl)
  have w1052 : ∀ (t0 : Int32) (Z : CZ) (F : Nat → Int32), fL_step_1052  t0 Z F = some (rz, Zz, Fz) → sG p l e (headSpec wsL_step rmL_step).room s m (([.ref (ad0 0 0), .ref q, .int a3, .int a4, .int a5] : List Value).toArray) below meth c (MQ below (sQ D G A ad0 rz Zz q 5 Fz) (([.ref (ad0 0 0), .ref q, .int a3, .int a4, .int a5] : List Value).toArray) s 28 168 (fun y => A y ∨ y = q)) D G (fun y => A y ∨ y = q) A ad0 q 5 0 0 27 Z F 1052 [] [.int t0] := by
    intro  t0 Z F h H locs ls ad h00 hI hN hq hS hl
    unfold fL_step_1052 at h
    obtain ⟨g126, h⟩ := gd_ok h
    refine W.widen (k := 28) (n := 168) (by decide) (by decide) ?_
    exact W.zret hx hb hr (gbo_ok g126) (sg_end h h00 hI hK hN hq hS) (fun z hz => hS.2.2 z hz) dL_step_1052
  have w1047 : ∀ (Z : CZ) (F : Nat → Int32), fL_step_1047  Z F = some (rz, Zz, Fz) → sG p l e (headSpec wsL_step rmL_step).room s m (([.ref (ad0 0 0), .ref q, .int a3, .int a4, .int a5] : List Value).toArray) below meth c (MQ below (sQ D G A ad0 rz Zz q 5 Fz) (([.ref (ad0 0 0), .ref q, .int a3, .int a4, .int a5] : List Value).toArray) s 28 168 (fun y => A y ∨ y = q)) D G (fun y => A y ∨ y = q) A ad0 q 5 0 0 27 Z F 1047 [] [] := by
    intro  Z F h H locs ls ad h00 hI hN hq hS hl
    unfold fL_step_1047 at h
    refine lv_iconst (v := (1 : Int32)) hx hb dL_step_1047 (by decide) ?_
    refine lv_goto (tgt := 1052) hx hb dL_step_1048 (by decide) ?_
    exact w1052  (1 : Int32) Z F h _ _ _ _ h00 hI hN hq hS (lv_sub hl [] rfl)
  have w1010 : ∀ (x4 : Int32) (x7 : Int32) (Z : CZ) (F : Nat → Int32), fL_step_1010  x4 x7 Z F = some (rz, Zz, Fz) → sG p l e (headSpec wsL_step rmL_step).room s m (([.ref (ad0 0 0), .ref q, .int a3, .int a4, .int a5] : List Value).toArray) below meth c (MQ below (sQ D G A ad0 rz Zz q 5 Fz) (([.ref (ad0 0 0), .ref q, .int a3, .int a4, .int a5] : List Value).toArray) s 28 168 (fun y => A y ∨ y = q)) D G (fun y => A y ∨ y = q) A ad0 q 5 0 0 27 Z F 1010 [(0, .ref (ad0 0 0)), (4, .int x4), (7, .int x7)] [] := by
    intro  x4 x7 Z F h H locs ls ad h00 hI hN hq hS hl
    unfold fL_step_1010 at h
    refine lv_aload_n hx hb dL_step_1010 rfl (lv_at hl 0 rfl) ?_
    refine lv_iload hx hb dL_step_1011 (lv_at hl 2 rfl) ?_
    refine lv_iconst (v := (1 : Int32)) hx hb dL_step_1013 (by decide) ?_
    refine W_stk (st' := [.int (1 : Int32), .int x7, .ref (ad 0 0)]) (by rw [h00]) ?_
    obtain ⟨v111, c112, h⟩ := cl1_ok h
    refine sg_calli (va_runV (As := [.int x7, .int (1 : Int32)]) (rest := []) ⟨hx, hb, hml, hown, hts⟩ (mX6_ofBand_n l D G A ad Z x7 (1 : Int32) v111  c112) (cwV 2 hts gL_step_X6_ofBand rfl rfl rfl (by decide +kernel) ⟨Nat.le_of_ble_eq_true rfl, Nat.le_of_ble_eq_true rfl⟩) (cg_preV hI hK hN rfl rfl (ci := 7) rfl) rfl rfl hl.1 rfl (lv_room (Nat.le_of_ble_eq_true rfl)) dL_step_1014 ⟨Nat.le_of_ble_eq_true rfl, Nat.le_of_ble_eq_true rfl⟩) hS (fun _ h => Or.inl h) hq hnq ⟨_, rfl⟩ (fun H locs hI hN hq hS => ?_)
    refine W.widen (k := 0) (n := 0) (by decide) (by decide) ?_
    refine lv_if_eq (tgt := 1047) hx hb dL_step_1017 (by decide) (fun hc => ?_) (fun hc => ?_)
    · have h := ite_t h hc
      exact w1047  Z F h _ _ _ _ h00 hI hN hq hS (lv_sub hl [] rfl)
    · have h := ite_f h hc
      refine lv_aload_n hx hb dL_step_1020 rfl (lv_at hl 0 rfl) ?_
      refine lv_iload hx hb dL_step_1021 (lv_at hl 2 rfl) ?_
      refine lv_iload hx hb dL_step_1023 (lv_at hl 1 rfl) ?_
      refine lv_aload_n hx hb dL_step_1025 rfl (lv_at hl 0 rfl) ?_
      refine lv_iload hx hb dL_step_1026 (lv_at hl 2 rfl) ?_
      refine lv_iconst (v := (1 : Int32)) hx hb dL_step_1028 (by decide) ?_
      refine W_stk (st' := [.int (1 : Int32), .int x7, .ref (ad 0 0), .int x4, .int x7, .ref (ad0 0 0)]) (by rw [h00]) ?_
      obtain ⟨v113, c114, h⟩ := cl1_ok h
      refine sg_calli (va_runV (As := [.int x7, .int (1 : Int32)]) (rest := [.int x4, .int x7, .ref (ad0 0 0)]) ⟨hx, hb, hml, hown, hts⟩ (mX6_ofBand_n l D G A ad Z x7 (1 : Int32) v113  c114) (cwV 2 hts gL_step_X6_ofBand rfl rfl rfl (by decide +kernel) ⟨Nat.le_of_ble_eq_true rfl, Nat.le_of_ble_eq_true rfl⟩) (cg_preV hI hK hN rfl rfl (ci := 7) rfl) rfl rfl hl.1 rfl (lv_room (Nat.le_of_ble_eq_true rfl)) dL_step_1029 ⟨Nat.le_of_ble_eq_true rfl, Nat.le_of_ble_eq_true rfl⟩) hS (fun _ h => Or.inl h) hq hnq ⟨_, rfl⟩ (fun H locs hI hN hq hS => ?_)
      refine W.widen (k := 0) (n := 0) (by decide) (by decide) ?_
      obtain ⟨g115, h⟩ := gd_ok h
      refine lv_irm hx hb dL_step_1032 (gnz_ok g115) ?_
      refine lv_iload hx hb dL_step_1033 (lv_at hl 1 rfl) ?_
      refine lv_bipush (v := (24 : Int32)) hx hb dL_step_1035 (by decide) ?_
      refine lv_idiv hx hb dL_step_1037 (by decide) ?_
      refine lv_bipush (v := (12 : Int32)) hx hb dL_step_1038 (by decide) ?_
      refine lv_irm hx hb dL_step_1040 (by decide) ?_
      refine W_stk (st' := [.int (irm (x4 / (24 : Int32)) (12 : Int32)), .int (irm x4 v113), .int x7, .ref (ad 0 0)]) (by rw [h00]) ?_
      obtain ⟨v116, Z118, c117, h⟩ := cl2_ok h
      refine sg_calli (va_runS (As := [.ref (ad 0 0), .int x7, .int (irm x4 v113), .int (irm (x4 / (24 : Int32)) (12 : Int32))]) (rest := []) ⟨hx, hb, hml, hown, hts⟩ (mL_isChanged l hfl D G A ad Z x7 (irm x4 v113) (irm (x4 / (24 : Int32)) (12 : Int32)) v116 Z118 c117) (va_cwS 4 hts gL_step_L_isChanged rfl rfl rfl (by decide +kernel) ⟨Nat.le_of_ble_eq_true rfl, Nat.le_of_ble_eq_true rfl⟩) (sg_preS hI hK hN hE hS (fun _ h => Or.inl h)) rfl rfl hl.1 rfl (lv_room (Nat.le_of_ble_eq_true rfl)) dL_step_1041 ⟨Nat.le_of_ble_eq_true rfl, Nat.le_of_ble_eq_true rfl⟩) hS (fun _ h => Or.inl h) hq hnq ⟨_, rfl⟩ (fun H locs hI hN hq hS => ?_)
      refine W.widen (k := 0) (n := 0) (by decide) (by decide) ?_
      refine lv_if_eq (tgt := 1051) hx hb dL_step_1044 (by decide) (fun hc => ?_) (fun hc => ?_)
      · have h := ite_t h hc
        refine lv_iconst (v := (0 : Int32)) hx hb dL_step_1051 (by decide) ?_
        exact w1052  (0 : Int32) Z118 F h _ _ _ _ h00 hI hN hq hS (lv_sub hl [] rfl)
      · have h := ite_f h hc
        exact w1047  Z118 F h _ _ _ _ h00 hI hN hq hS (lv_sub hl [] rfl)
  have w1096 : ∀ (t0 : Int32) (Z : CZ) (F : Nat → Int32), fL_step_1096  t0 Z F = some (rz, Zz, Fz) → sG p l e (headSpec wsL_step rmL_step).room s m (([.ref (ad0 0 0), .ref q, .int a3, .int a4, .int a5] : List Value).toArray) below meth c (MQ below (sQ D G A ad0 rz Zz q 5 Fz) (([.ref (ad0 0 0), .ref q, .int a3, .int a4, .int a5] : List Value).toArray) s 28 168 (fun y => A y ∨ y = q)) D G (fun y => A y ∨ y = q) A ad0 q 5 0 0 27 Z F 1096 [] [.int t0] := by
    intro  t0 Z F h H locs ls ad h00 hI hN hq hS hl
    unfold fL_step_1096 at h
    obtain ⟨g190, h⟩ := gd_ok h
    refine W.widen (k := 28) (n := 168) (by decide) (by decide) ?_
    exact W.zret hx hb hr (gbo_ok g190) (sg_end h h00 hI hK hN hq hS) (fun z hz => hS.2.2 z hz) dL_step_1096
  have w1081 : ∀ (x7 : Int32) (Z : CZ) (F : Nat → Int32), fL_step_1081  x7 Z F = some (rz, Zz, Fz) → sG p l e (headSpec wsL_step rmL_step).room s m (([.ref (ad0 0 0), .ref q, .int a3, .int a4, .int a5] : List Value).toArray) below meth c (MQ below (sQ D G A ad0 rz Zz q 5 Fz) (([.ref (ad0 0 0), .ref q, .int a3, .int a4, .int a5] : List Value).toArray) s 28 168 (fun y => A y ∨ y = q)) D G (fun y => A y ∨ y = q) A ad0 q 5 0 0 27 Z F 1081 [(0, .ref (ad0 0 0)), (7, .int x7)] [] := by
    intro  x7 Z F h H locs ls ad h00 hI hN hq hS hl
    unfold fL_step_1081 at h
    refine lv_aload_n hx hb dL_step_1081 rfl (lv_at hl 0 rfl) ?_
    refine lv_iload hx hb dL_step_1082 (lv_at hl 1 rfl) ?_
    refine W_stk (st' := [.int x7, .ref (ad 0 0)]) (by rw [h00]) ?_
    obtain ⟨v138, Z140, c139, h⟩ := cl2_ok h
    refine sg_calli (va_runV (As := [.int x7]) (rest := []) ⟨hx, hb, hml, hown, hts⟩ (mX6_leaps_n l D G A ad Z x7 v138 Z140 c139) (cwV 1 hts gL_step_X6_leaps rfl rfl rfl (by decide +kernel) ⟨Nat.le_of_ble_eq_true rfl, Nat.le_of_ble_eq_true rfl⟩) (cg_preV hI hK hN rfl rfl (ci := 7) rfl) rfl rfl hl.1 rfl (lv_room (Nat.le_of_ble_eq_true rfl)) dL_step_1084 ⟨Nat.le_of_ble_eq_true rfl, Nat.le_of_ble_eq_true rfl⟩) hS (fun _ h => Or.inl h) hq hnq ⟨_, rfl⟩ (fun H locs hI hN hq hS => ?_)
    refine W.widen (k := 0) (n := 0) (by decide) (by decide) ?_
    refine lv_iconst (v := (-1 : Int32)) hx hb dL_step_1087 (by decide) ?_
    refine lv_icmp_ne (tgt := 1095) hx hb dL_step_1088 (by decide) (fun hc => ?_) (fun hc => ?_)
    · have h := ite_f h hc
      refine lv_iconst (v := (0 : Int32)) hx hb dL_step_1095 (by decide) ?_
      exact w1096  (0 : Int32) Z140 F h _ _ _ _ h00 hI hN hq hS (lv_sub hl [] rfl)
    · have h := ite_t h hc
      refine lv_iconst (v := (1 : Int32)) hx hb dL_step_1091 (by decide) ?_
      refine lv_goto (tgt := 1096) hx hb dL_step_1092 (by decide) ?_
      exact w1096  (1 : Int32) Z140 F h _ _ _ _ h00 hI hN hq hS (lv_sub hl [] rfl)
  have w1157 : ∀ (t0 : Int32) (Z : CZ) (F : Nat → Int32), fL_step_1157  t0 Z F = some (rz, Zz, Fz) → sG p l e (headSpec wsL_step rmL_step).room s m (([.ref (ad0 0 0), .ref q, .int a3, .int a4, .int a5] : List Value).toArray) below meth c (MQ below (sQ D G A ad0 rz Zz q 5 Fz) (([.ref (ad0 0 0), .ref q, .int a3, .int a4, .int a5] : List Value).toArray) s 28 168 (fun y => A y ∨ y = q)) D G (fun y => A y ∨ y = q) A ad0 q 5 0 0 27 Z F 1157 [] [.int t0] := by
    intro  t0 Z F h H locs ls ad h00 hI hN hq hS hl
    unfold fL_step_1157 at h
    obtain ⟨g123, h⟩ := gd_ok h
    refine W.widen (k := 28) (n := 168) (by decide) (by decide) ?_
    exact W.zret hx hb hr (gbo_ok g123) (sg_end h h00 hI hK hN hq hS) (fun z hz => hS.2.2 z hz) dL_step_1157
  have w1156 : ∀ (Z : CZ) (F : Nat → Int32), fL_step_1156  Z F = some (rz, Zz, Fz) → sG p l e (headSpec wsL_step rmL_step).room s m (([.ref (ad0 0 0), .ref q, .int a3, .int a4, .int a5] : List Value).toArray) below meth c (MQ below (sQ D G A ad0 rz Zz q 5 Fz) (([.ref (ad0 0 0), .ref q, .int a3, .int a4, .int a5] : List Value).toArray) s 28 168 (fun y => A y ∨ y = q)) D G (fun y => A y ∨ y = q) A ad0 q 5 0 0 27 Z F 1156 [] [] := by
    intro  Z F h H locs ls ad h00 hI hN hq hS hl
    unfold fL_step_1156 at h
    refine lv_iconst (v := (0 : Int32)) hx hb dL_step_1156 (by decide) ?_
    exact w1157  (0 : Int32) Z F h _ _ _ _ h00 hI hN hq hS (lv_sub hl [] rfl)
  have w1053 : ∀ (x4 : Int32) (x7 : Int32) (Z : CZ) (F : Nat → Int32), fL_step_1053  x4 x7 Z F = some (rz, Zz, Fz) → sG p l e (headSpec wsL_step rmL_step).room s m (([.ref (ad0 0 0), .ref q, .int a3, .int a4, .int a5] : List Value).toArray) below meth c (MQ below (sQ D G A ad0 rz Zz q 5 Fz) (([.ref (ad0 0 0), .ref q, .int a3, .int a4, .int a5] : List Value).toArray) s 28 168 (fun y => A y ∨ y = q)) D G (fun y => A y ∨ y = q) A ad0 q 5 0 0 27 Z F 1053 [(0, .ref (ad0 0 0)), (4, .int x4), (7, .int x7)] [] := by
    intro  x4 x7 Z F h H locs ls ad h00 hI hN hq hS hl
    unfold fL_step_1053 at h
    refine lv_aload_n hx hb dL_step_1053 rfl (lv_at hl 0 rfl) ?_
    refine lv_iload hx hb dL_step_1054 (lv_at hl 2 rfl) ?_
    refine lv_iconst (v := (2 : Int32)) hx hb dL_step_1056 (by decide) ?_
    refine W_stk (st' := [.int (2 : Int32), .int x7, .ref (ad 0 0)]) (by rw [h00]) ?_
    obtain ⟨v49, c50, h⟩ := cl1_ok h
    refine sg_calli (va_runV (As := [.int x7, .int (2 : Int32)]) (rest := []) ⟨hx, hb, hml, hown, hts⟩ (mX6_ofBand_n l D G A ad Z x7 (2 : Int32) v49  c50) (cwV 2 hts gL_step_X6_ofBand rfl rfl rfl (by decide +kernel) ⟨Nat.le_of_ble_eq_true rfl, Nat.le_of_ble_eq_true rfl⟩) (cg_preV hI hK hN rfl rfl (ci := 7) rfl) rfl rfl hl.1 rfl (lv_room (Nat.le_of_ble_eq_true rfl)) dL_step_1057 ⟨Nat.le_of_ble_eq_true rfl, Nat.le_of_ble_eq_true rfl⟩) hS (fun _ h => Or.inl h) hq hnq ⟨_, rfl⟩ (fun H locs hI hN hq hS => ?_)
    refine W.widen (k := 0) (n := 0) (by decide) (by decide) ?_
    refine lv_istore (lv' := [(22, .int v49), (0, .ref (ad0 0 0)), (4, .int x4), (7, .int x7)]) hx hb dL_step_1060 hl (by decide) rfl (fun ls hl => ?_)
    refine lv_aload_n hx hb dL_step_1062 rfl (lv_at hl 1 rfl) ?_
    refine lv_iload hx hb dL_step_1063 (lv_at hl 3 rfl) ?_
    refine lv_iconst (v := (0 : Int32)) hx hb dL_step_1065 (by decide) ?_
    refine W_stk (st' := [.int (0 : Int32), .int x7, .ref (ad 0 0)]) (by rw [h00]) ?_
    obtain ⟨v51, c52, h⟩ := cl1_ok h
    refine sg_calli (va_runV (As := [.int x7, .int (0 : Int32)]) (rest := []) ⟨hx, hb, hml, hown, hts⟩ (mX6_ofBand_n l D G A ad Z x7 (0 : Int32) v51  c52) (cwV 2 hts gL_step_X6_ofBand rfl rfl rfl (by decide +kernel) ⟨Nat.le_of_ble_eq_true rfl, Nat.le_of_ble_eq_true rfl⟩) (cg_preV hI hK hN rfl rfl (ci := 7) rfl) rfl rfl hl.1 rfl (lv_room (Nat.le_of_ble_eq_true rfl)) dL_step_1066 ⟨Nat.le_of_ble_eq_true rfl, Nat.le_of_ble_eq_true rfl⟩) hS (fun _ h => Or.inl h) hq hnq ⟨_, rfl⟩ (fun H locs hI hN hq hS => ?_)
    refine W.widen (k := 0) (n := 0) (by decide) (by decide) ?_
    refine lv_istore (lv' := [(23, .int v51), (22, .int v49), (0, .ref (ad0 0 0)), (4, .int x4), (7, .int x7)]) hx hb dL_step_1069 hl (by decide) rfl (fun ls hl => ?_)
    refine lv_iload hx hb dL_step_1071 (lv_at hl 1 rfl) ?_
    refine lv_if_eq (tgt := 1081) hx hb dL_step_1073 (by decide) (fun hc => ?_) (fun hc => ?_)
    · have h := ite_t h hc
      exact w1081  x7 Z F h _ _ _ _ h00 hI hN hq hS (lv_sub hl [2, 4] rfl)
    · have h := ite_f h hc
      refine lv_iload hx hb dL_step_1076 (lv_at hl 0 rfl) ?_
      refine lv_if_ne (tgt := 1097) hx hb dL_step_1078 (by decide) (fun hc => ?_) (fun hc => ?_)
      · have h := ite_f h hc
        refine lv_aload_n hx hb dL_step_1097 rfl (lv_at hl 2 rfl) ?_
        refine lv_iload hx hb dL_step_1098 (lv_at hl 4 rfl) ?_
        refine lv_iload hx hb dL_step_1100 (lv_at hl 3 rfl) ?_
        refine lv_iload hx hb dL_step_1102 (lv_at hl 0 rfl) ?_
        obtain ⟨g53, h⟩ := gd_ok h
        refine lv_irm hx hb dL_step_1104 (gnz_ok g53) ?_
        refine lv_iload hx hb dL_step_1105 (lv_at hl 3 rfl) ?_
        refine lv_bipush (v := (8 : Int32)) hx hb dL_step_1107 (by decide) ?_
        refine lv_idiv hx hb dL_step_1109 (by decide) ?_
        refine lv_iload hx hb dL_step_1110 (lv_at hl 1 rfl) ?_
        obtain ⟨g54, h⟩ := gd_ok h
        refine lv_irm hx hb dL_step_1112 (gnz_ok g54) ?_
        refine W_stk (st' := [.int (irm (x4 / (8 : Int32)) v49), .int (irm x4 v51), .int x7, .ref (ad 0 0)]) (by rw [h00]) ?_
        obtain ⟨v55, Z57, c56, h⟩ := cl2_ok h
        refine sg_calli (va_runV (As := [.int x7, .int (irm x4 v51), .int (irm (x4 / (8 : Int32)) v49)]) (rest := []) ⟨hx, hb, hml, hown, hts⟩ (mX6_tell_n l D G A ad Z x7 (irm x4 v51) (irm (x4 / (8 : Int32)) v49) v55 Z57 c56) (cwV 3 hts gL_step_X6_tell rfl rfl rfl (by decide +kernel) ⟨Nat.le_of_ble_eq_true rfl, Nat.le_of_ble_eq_true rfl⟩) (cg_preV hI hK hN rfl rfl (ci := 7) rfl) rfl rfl hl.1 rfl (lv_room (Nat.le_of_ble_eq_true rfl)) dL_step_1113 ⟨Nat.le_of_ble_eq_true rfl, Nat.le_of_ble_eq_true rfl⟩) hS (fun _ h => Or.inl h) hq hnq ⟨_, rfl⟩ (fun H locs hI hN hq hS => ?_)
        refine W.widen (k := 0) (n := 0) (by decide) (by decide) ?_
        refine lv_istore (lv' := [(24, .int v55), (23, .int v51), (22, .int v49), (0, .ref (ad0 0 0)), (4, .int x4), (7, .int x7)]) hx hb dL_step_1116 hl (by decide) rfl (fun ls hl => ?_)
        refine lv_iload hx hb dL_step_1118 (lv_at hl 0 rfl) ?_
        refine lv_if_lt (tgt := 1156) hx hb dL_step_1120 (by decide) (fun hc => ?_) (fun hc => ?_)
        · have h := ite_t h hc
          exact w1156  Z57 F h _ _ _ _ h00 hI hN hq hS (lv_sub hl [] rfl)
        · have h := ite_f h hc
          refine lv_iload hx hb dL_step_1123 (lv_at hl 0 rfl) ?_
          refine lv_iconst (v := (3 : Int32)) hx hb dL_step_1125 (by decide) ?_
          refine lv_icmp_ge (tgt := 1156) hx hb dL_step_1126 (by decide) (fun hc => ?_) (fun hc => ?_)
          · have h := ite_t h hc
            exact w1156  Z57 F h _ _ _ _ h00 hI hN hq hS (lv_sub hl [] rfl)
          · have h := ite_f h hc
            refine lv_aload_n hx hb dL_step_1129 rfl (lv_at hl 3 rfl) ?_
            refine lv_iload hx hb dL_step_1130 (lv_at hl 5 rfl) ?_
            refine lv_iload hx hb dL_step_1132 (lv_at hl 4 rfl) ?_
            refine lv_iload hx hb dL_step_1134 (lv_at hl 1 rfl) ?_
            obtain ⟨g58, h⟩ := gd_ok h
            refine lv_irm hx hb dL_step_1136 (gnz_ok g58) ?_
            refine lv_iload hx hb dL_step_1137 (lv_at hl 4 rfl) ?_
            refine lv_bipush (v := (8 : Int32)) hx hb dL_step_1139 (by decide) ?_
            refine lv_idiv hx hb dL_step_1141 (by decide) ?_
            refine lv_iload hx hb dL_step_1142 (lv_at hl 2 rfl) ?_
            obtain ⟨g59, h⟩ := gd_ok h
            refine lv_irm hx hb dL_step_1144 (gnz_ok g59) ?_
            refine W_stk (st' := [.int (irm (x4 / (8 : Int32)) v49), .int (irm x4 v51), .int x7, .ref (ad 0 0)]) (by rw [h00]) ?_
            obtain ⟨v60, c61, h⟩ := cl1_ok h
            refine sg_calli (va_runV (As := [.int x7, .int (irm x4 v51), .int (irm (x4 / (8 : Int32)) v49)]) (rest := []) ⟨hx, hb, hml, hown, hts⟩ (mX6_knows_n l D G A ad Z57 x7 (irm x4 v51) (irm (x4 / (8 : Int32)) v49) v60  c61) (cwV 3 hts gL_step_X6_knows rfl rfl rfl (by decide +kernel) ⟨Nat.le_of_ble_eq_true rfl, Nat.le_of_ble_eq_true rfl⟩) (cg_preV hI hK hN rfl rfl (ci := 7) rfl) rfl rfl hl.1 rfl (lv_room (Nat.le_of_ble_eq_true rfl)) dL_step_1145 ⟨Nat.le_of_ble_eq_true rfl, Nat.le_of_ble_eq_true rfl⟩) hS (fun _ h => Or.inl h) hq hnq ⟨_, rfl⟩ (fun H locs hI hN hq hS => ?_)
            refine W.widen (k := 0) (n := 0) (by decide) (by decide) ?_
            refine lv_iconst (v := (1 : Int32)) hx hb dL_step_1148 (by decide) ?_
            refine lv_icmp_ne (tgt := 1156) hx hb dL_step_1149 (by decide) (fun hc => ?_) (fun hc => ?_)
            · have h := ite_f h hc
              exact w1156  Z57 F h _ _ _ _ h00 hI hN hq hS (lv_sub hl [] rfl)
            · have h := ite_t h hc
              refine lv_iconst (v := (1 : Int32)) hx hb dL_step_1152 (by decide) ?_
              refine lv_goto (tgt := 1157) hx hb dL_step_1153 (by decide) ?_
              exact w1157  (1 : Int32) Z57 F h _ _ _ _ h00 hI hN hq hS (lv_sub hl [] rfl)
      · have h := ite_t h hc
        exact w1081  x7 Z F h _ _ _ _ h00 hI hN hq hS (lv_sub hl [2, 4] rfl)
  have w1192 : ∀ (t0 : Int32) (Z : CZ) (F : Nat → Int32), fL_step_1192  t0 Z F = some (rz, Zz, Fz) → sG p l e (headSpec wsL_step rmL_step).room s m (([.ref (ad0 0 0), .ref q, .int a3, .int a4, .int a5] : List Value).toArray) below meth c (MQ below (sQ D G A ad0 rz Zz q 5 Fz) (([.ref (ad0 0 0), .ref q, .int a3, .int a4, .int a5] : List Value).toArray) s 28 168 (fun y => A y ∨ y = q)) D G (fun y => A y ∨ y = q) A ad0 q 5 8 48 27 Z F 1192 [] [.int t0] := by
    intro  t0 Z F h H locs ls ad h00 hI hN hq hS hl
    unfold fL_step_1192 at h
    obtain ⟨g128, h⟩ := gd_ok h
    refine W.widen (k := 28) (n := 168) (by decide) (by decide) ?_
    exact W.zret hx hb hr (gbo_ok g128) (sg_end h h00 hI hK hN hq hS) (fun z hz => hS.2.2 z hz) dL_step_1192
  have w1187 : ∀ (Z : CZ) (F : Nat → Int32), fL_step_1187  Z F = some (rz, Zz, Fz) → sG p l e (headSpec wsL_step rmL_step).room s m (([.ref (ad0 0 0), .ref q, .int a3, .int a4, .int a5] : List Value).toArray) below meth c (MQ below (sQ D G A ad0 rz Zz q 5 Fz) (([.ref (ad0 0 0), .ref q, .int a3, .int a4, .int a5] : List Value).toArray) s 28 168 (fun y => A y ∨ y = q)) D G (fun y => A y ∨ y = q) A ad0 q 5 8 48 27 Z F 1187 [] [] := by
    intro  Z F h H locs ls ad h00 hI hN hq hS hl
    unfold fL_step_1187 at h
    refine lv_iconst (v := (1 : Int32)) hx hb dL_step_1187 (by decide) ?_
    refine lv_goto (tgt := 1192) hx hb dL_step_1188 (by decide) ?_
    exact w1192  (1 : Int32) Z F h _ _ _ _ h00 hI hN hq hS (lv_sub hl [] rfl)
  have w1158 : ∀ (x4 : Int32) (x7 : Int32) (Z : CZ) (F : Nat → Int32), fL_step_1158  x4 x7 Z F = some (rz, Zz, Fz) → sG p l e (headSpec wsL_step rmL_step).room s m (([.ref (ad0 0 0), .ref q, .int a3, .int a4, .int a5] : List Value).toArray) below meth c (MQ below (sQ D G A ad0 rz Zz q 5 Fz) (([.ref (ad0 0 0), .ref q, .int a3, .int a4, .int a5] : List Value).toArray) s 28 168 (fun y => A y ∨ y = q)) D G (fun y => A y ∨ y = q) A ad0 q 5 0 0 27 Z F 1158 [(0, .ref (ad0 0 0)), (4, .int x4), (7, .int x7)] [] := by
    intro  x4 x7 Z F h H locs ls ad h00 hI hN hq hS hl
    unfold fL_step_1158 at h
    refine lv_aload_n hx hb dL_step_1158 rfl (lv_at hl 0 rfl) ?_
    refine lv_iload hx hb dL_step_1159 (lv_at hl 2 rfl) ?_
    refine lv_iconst (v := (2 : Int32)) hx hb dL_step_1161 (by decide) ?_
    refine W_stk (st' := [.int (2 : Int32), .int x7, .ref (ad 0 0)]) (by rw [h00]) ?_
    obtain ⟨v25, c26, h⟩ := cl1_ok h
    refine sg_calli (va_runV (As := [.int x7, .int (2 : Int32)]) (rest := []) ⟨hx, hb, hml, hown, hts⟩ (mX6_ofBand_n l D G A ad Z x7 (2 : Int32) v25  c26) (cwV 2 hts gL_step_X6_ofBand rfl rfl rfl (by decide +kernel) ⟨Nat.le_of_ble_eq_true rfl, Nat.le_of_ble_eq_true rfl⟩) (cg_preV hI hK hN rfl rfl (ci := 7) rfl) rfl rfl hl.1 rfl (lv_room (Nat.le_of_ble_eq_true rfl)) dL_step_1162 ⟨Nat.le_of_ble_eq_true rfl, Nat.le_of_ble_eq_true rfl⟩) hS (fun _ h => Or.inl h) hq hnq ⟨_, rfl⟩ (fun H locs hI hN hq hS => ?_)
    refine W.widen (k := 0) (n := 0) (by decide) (by decide) ?_
    refine lv_if_eq (tgt := 1187) hx hb dL_step_1165 (by decide) (fun hc => ?_) (fun hc => ?_)
    · have h := ite_t h hc
      refine W.widen (k := 8) (n := 48) (by decide) (by decide) ?_
      exact w1187  Z F h _ _ _ _ h00 hI hN hq hS (lv_sub hl [] rfl)
    · have h := ite_f h hc
      refine lv_aload_n hx hb dL_step_1168 rfl (lv_at hl 0 rfl) ?_
      refine lv_iload hx hb dL_step_1169 (lv_at hl 2 rfl) ?_
      refine lv_iload hx hb dL_step_1171 (lv_at hl 1 rfl) ?_
      refine lv_aload_n hx hb dL_step_1173 rfl (lv_at hl 0 rfl) ?_
      refine lv_iload hx hb dL_step_1174 (lv_at hl 2 rfl) ?_
      refine lv_iconst (v := (2 : Int32)) hx hb dL_step_1176 (by decide) ?_
      refine W_stk (st' := [.int (2 : Int32), .int x7, .ref (ad 0 0), .int x4, .int x7, .ref (ad0 0 0)]) (by rw [h00]) ?_
      obtain ⟨v27, c28, h⟩ := cl1_ok h
      refine sg_calli (va_runV (As := [.int x7, .int (2 : Int32)]) (rest := [.int x4, .int x7, .ref (ad0 0 0)]) ⟨hx, hb, hml, hown, hts⟩ (mX6_ofBand_n l D G A ad Z x7 (2 : Int32) v27  c28) (cwV 2 hts gL_step_X6_ofBand rfl rfl rfl (by decide +kernel) ⟨Nat.le_of_ble_eq_true rfl, Nat.le_of_ble_eq_true rfl⟩) (cg_preV hI hK hN rfl rfl (ci := 7) rfl) rfl rfl hl.1 rfl (lv_room (Nat.le_of_ble_eq_true rfl)) dL_step_1177 ⟨Nat.le_of_ble_eq_true rfl, Nat.le_of_ble_eq_true rfl⟩) hS (fun _ h => Or.inl h) hq hnq ⟨_, rfl⟩ (fun H locs hI hN hq hS => ?_)
      refine W.widen (k := 0) (n := 0) (by decide) (by decide) ?_
      obtain ⟨g29, h⟩ := gd_ok h
      refine lv_irm hx hb dL_step_1180 (gnz_ok g29) ?_
      refine W_stk (st' := [.int (irm x4 v27), .int x7, .ref (ad 0 0)]) (by rw [h00]) ?_
      obtain ⟨v30, Z32, c31, h⟩ := cl2_ok h
      refine sg_calli (va_runS (As := [.ref (ad 0 0), .int x7, .int (irm x4 v27)]) (rest := []) ⟨hx, hb, hml, hown, hts⟩ (mL_isDrilled l hfl D G A ad Z x7 (irm x4 v27) v30 Z32 c31) (va_cwS 3 hts gL_step_L_isDrilled rfl rfl rfl (by decide +kernel) ⟨Nat.le_of_ble_eq_true rfl, Nat.le_of_ble_eq_true rfl⟩) (dg_preS hI hK hN hE hA hS (fun _ h => Or.inl h)) rfl rfl hl.1 rfl (lv_room (Nat.le_of_ble_eq_true rfl)) dL_step_1181 ⟨Nat.le_of_ble_eq_true rfl, Nat.le_of_ble_eq_true rfl⟩) hS (fun _ h => Or.inl h) hq hnq ⟨_, rfl⟩ (fun H locs hI hN hq hS => ?_)
      refine W.widen (k := 8) (n := 48) (by decide) (by decide) ?_
      refine lv_if_eq (tgt := 1191) hx hb dL_step_1184 (by decide) (fun hc => ?_) (fun hc => ?_)
      · have h := ite_t h hc
        refine lv_iconst (v := (0 : Int32)) hx hb dL_step_1191 (by decide) ?_
        exact w1192  (0 : Int32) Z32 F h _ _ _ _ h00 hI hN hq hS (lv_sub hl [] rfl)
      · have h := ite_f h hc
        exact w1187  Z32 F h _ _ _ _ h00 hI hN hq hS (lv_sub hl [] rfl)
  have w1265 : ∀ (t0 : Int32) (Z : CZ) (F : Nat → Int32), fL_step_1265  t0 Z F = some (rz, Zz, Fz) → sG p l e (headSpec wsL_step rmL_step).room s m (([.ref (ad0 0 0), .ref q, .int a3, .int a4, .int a5] : List Value).toArray) below meth c (MQ below (sQ D G A ad0 rz Zz q 5 Fz) (([.ref (ad0 0 0), .ref q, .int a3, .int a4, .int a5] : List Value).toArray) s 28 168 (fun y => A y ∨ y = q)) D G (fun y => A y ∨ y = q) A ad0 q 5 0 0 27 Z F 1265 [] [.int t0] := by
    intro  t0 Z F h H locs ls ad h00 hI hN hq hS hl
    unfold fL_step_1265 at h
    obtain ⟨g192, h⟩ := gd_ok h
    refine W.widen (k := 28) (n := 168) (by decide) (by decide) ?_
    exact W.zret hx hb hr (gbo_ok g192) (sg_end h h00 hI hK hN hq hS) (fun z hz => hS.2.2 z hz) dL_step_1265
  have w1260 : ∀ (Z : CZ) (F : Nat → Int32), fL_step_1260  Z F = some (rz, Zz, Fz) → sG p l e (headSpec wsL_step rmL_step).room s m (([.ref (ad0 0 0), .ref q, .int a3, .int a4, .int a5] : List Value).toArray) below meth c (MQ below (sQ D G A ad0 rz Zz q 5 Fz) (([.ref (ad0 0 0), .ref q, .int a3, .int a4, .int a5] : List Value).toArray) s 28 168 (fun y => A y ∨ y = q)) D G (fun y => A y ∨ y = q) A ad0 q 5 0 0 27 Z F 1260 [] [] := by
    intro  Z F h H locs ls ad h00 hI hN hq hS hl
    unfold fL_step_1260 at h
    refine lv_iconst (v := (1 : Int32)) hx hb dL_step_1260 (by decide) ?_
    refine lv_goto (tgt := 1265) hx hb dL_step_1261 (by decide) ?_
    exact w1265  (1 : Int32) Z F h _ _ _ _ h00 hI hN hq hS (lv_sub hl [] rfl)
  have w1264 : ∀ (Z : CZ) (F : Nat → Int32), fL_step_1264  Z F = some (rz, Zz, Fz) → sG p l e (headSpec wsL_step rmL_step).room s m (([.ref (ad0 0 0), .ref q, .int a3, .int a4, .int a5] : List Value).toArray) below meth c (MQ below (sQ D G A ad0 rz Zz q 5 Fz) (([.ref (ad0 0 0), .ref q, .int a3, .int a4, .int a5] : List Value).toArray) s 28 168 (fun y => A y ∨ y = q)) D G (fun y => A y ∨ y = q) A ad0 q 5 0 0 27 Z F 1264 [] [] := by
    intro  Z F h H locs ls ad h00 hI hN hq hS hl
    unfold fL_step_1264 at h
    refine lv_iconst (v := (0 : Int32)) hx hb dL_step_1264 (by decide) ?_
    exact w1265  (0 : Int32) Z F h _ _ _ _ h00 hI hN hq hS (lv_sub hl [] rfl)
  have w1223 : ∀ (x7 : Int32) (t0 : Int32) (Z : CZ) (F : Nat → Int32), fL_step_1223  x7 t0 Z F = some (rz, Zz, Fz) → sG p l e (headSpec wsL_step rmL_step).room s m (([.ref (ad0 0 0), .ref q, .int a3, .int a4, .int a5] : List Value).toArray) below meth c (MQ below (sQ D G A ad0 rz Zz q 5 Fz) (([.ref (ad0 0 0), .ref q, .int a3, .int a4, .int a5] : List Value).toArray) s 28 168 (fun y => A y ∨ y = q)) D G (fun y => A y ∨ y = q) A ad0 q 5 0 0 27 Z F 1223 [(0, .ref (ad0 0 0)), (1, .ref q), (7, .int x7)] [.int t0] := by
    intro  x7 t0 Z F h H locs ls ad h00 hI hN hq hS hl
    unfold fL_step_1223 at h
    refine lv_istore (lv' := [(25, .int t0), (0, .ref (ad0 0 0)), (1, .ref q), (7, .int x7)]) hx hb dL_step_1223 hl (by decide) rfl (fun ls hl => ?_)
    refine lv_aload_n hx hb dL_step_1225 rfl (lv_at hl 2 rfl) ?_
    refine lv_iconst (v := (2 : Int32)) hx hb dL_step_1226 (by decide) ?_
    refine lv_dup2_11 hx hb dL_step_1227 rfl rfl ?_
    obtain ⟨g146, h⟩ := gd_ok h
    refine sg_ild hx hb hK hq (gin_ok g146) dL_step_1228 ?_
    refine lv_iload hx hb dL_step_1229 (lv_at hl 0 rfl) ?_
    refine lv_iadd hx hb dL_step_1231 ?_
    obtain ⟨g147, h⟩ := gd_ok h
    obtain ⟨F148, eF148⟩ : ∃ y : Nat → Int32, y = (upd F (Int32.toNatClampNeg (2 : Int32)) ((F (Int32.toNatClampNeg (2 : Int32))) + t0)) := ⟨_, rfl⟩
    have h := bnd_ok h eF148
    refine sg_ist hx hb hK hI hN hq hnq hS (Or.inr rfl) (gin_ok g147) eF148 dL_step_1232 (fun H locs hN hq hS => ?_)
    refine lv_iload hx hb dL_step_1233 (lv_at hl 0 rfl) ?_
    refine lv_if_eq (tgt := 1260) hx hb dL_step_1235 (by decide) (fun hc => ?_) (fun hc => ?_)
    · have h := ite_t h hc
      exact w1260  Z F148 h _ _ _ _ h00 hI hN hq hS (lv_sub hl [] rfl)
    · have h := ite_f h hc
      refine lv_aload_n hx hb dL_step_1238 rfl (lv_at hl 1 rfl) ?_
      refine lv_iload hx hb dL_step_1239 (lv_at hl 0 rfl) ?_
      refine W_stk (st' := [.int t0, .ref (ad 0 0)]) (by rw [h00]) ?_
      obtain ⟨v149, Z151, c150, h⟩ := cl2_ok h
      refine sg_calli (va_runV (As := [.int t0]) (rest := []) ⟨hx, hb, hml, hown, hts⟩ (mX6_pass_n l D G A ad Z t0 v149 Z151 c150) (cwV 1 hts gL_step_X6_pass rfl rfl rfl (by decide +kernel) ⟨Nat.le_of_ble_eq_true rfl, Nat.le_of_ble_eq_true rfl⟩) (cg_preV hI hK hN rfl rfl (ci := 7) rfl) rfl rfl hl.1 rfl (lv_room (Nat.le_of_ble_eq_true rfl)) dL_step_1241 ⟨Nat.le_of_ble_eq_true rfl, Nat.le_of_ble_eq_true rfl⟩) hS (fun _ h => Or.inl h) hq hnq ⟨_, rfl⟩ (fun H locs hI hN hq hS => ?_)
      refine W.widen (k := 0) (n := 0) (by decide) (by decide) ?_
      refine lv_aload_n hx hb dL_step_1244 rfl (lv_at hl 2 rfl) ?_
      refine lv_iconst (v := (2 : Int32)) hx hb dL_step_1245 (by decide) ?_
      obtain ⟨g152, h⟩ := gd_ok h
      refine sg_ild hx hb hK hq (gin_ok g152) dL_step_1246 ?_
      refine lv_icmp_ne (tgt := 1264) hx hb dL_step_1247 (by decide) (fun hc => ?_) (fun hc => ?_)
      · have h := ite_f h hc
        exact w1264  Z151 F148 h _ _ _ _ h00 hI hN hq hS (lv_sub hl [] rfl)
      · have h := ite_t h hc
        refine lv_aload_n hx hb dL_step_1250 rfl (lv_at hl 1 rfl) ?_
        refine lv_iload hx hb dL_step_1251 (lv_at hl 3 rfl) ?_
        refine lv_iconst (v := (4 : Int32)) hx hb dL_step_1253 (by decide) ?_
        refine W_stk (st' := [.int (4 : Int32), .int x7, .ref (ad 0 0)]) (by rw [h00]) ?_
        obtain ⟨v153, c154, h⟩ := cl1_ok h
        refine sg_calli (va_runV (As := [.int x7, .int (4 : Int32)]) (rest := []) ⟨hx, hb, hml, hown, hts⟩ (mX6_ofBand_n l D G A ad Z151 x7 (4 : Int32) v153  c154) (cwV 2 hts gL_step_X6_ofBand rfl rfl rfl (by decide +kernel) ⟨Nat.le_of_ble_eq_true rfl, Nat.le_of_ble_eq_true rfl⟩) (cg_preV hI hK hN rfl rfl (ci := 7) rfl) rfl rfl hl.1 rfl (lv_room (Nat.le_of_ble_eq_true rfl)) dL_step_1254 ⟨Nat.le_of_ble_eq_true rfl, Nat.le_of_ble_eq_true rfl⟩) hS (fun _ h => Or.inl h) hq hnq ⟨_, rfl⟩ (fun H locs hI hN hq hS => ?_)
        refine W.widen (k := 0) (n := 0) (by decide) (by decide) ?_
        refine lv_if_ne (tgt := 1264) hx hb dL_step_1257 (by decide) (fun hc => ?_) (fun hc => ?_)
        · have h := ite_f h hc
          exact w1264  Z151 F148 h _ _ _ _ h00 hI hN hq hS (lv_sub hl [] rfl)
        · have h := ite_t h hc
          exact w1260  Z151 F148 h _ _ _ _ h00 hI hN hq hS (lv_sub hl [] rfl)
  have w1221 : ∀ (x7 : Int32) (t0 : Int32) (t1 : Int32) (t2 : Int32) (Z : CZ) (F : Nat → Int32), fL_step_1221  x7 t0 t1 t2 Z F = some (rz, Zz, Fz) → sG p l e (headSpec wsL_step rmL_step).room s m (([.ref (ad0 0 0), .ref q, .int a3, .int a4, .int a5] : List Value).toArray) below meth c (MQ below (sQ D G A ad0 rz Zz q 5 Fz) (([.ref (ad0 0 0), .ref q, .int a3, .int a4, .int a5] : List Value).toArray) s 28 168 (fun y => A y ∨ y = q)) D G (fun y => A y ∨ y = q) A ad0 q 5 0 0 27 Z F 1221 [(0, .ref (ad0 0 0)), (1, .ref q), (7, .int x7)] [.int t0, .int t1, .int t2] := by
    intro  x7 t0 t1 t2 Z F h H locs ls ad h00 hI hN hq hS hl
    unfold fL_step_1221 at h
    obtain ⟨g145, h⟩ := gd_ok h
    refine lv_irm hx hb dL_step_1221 (gnz_ok g145) ?_
    refine lv_iadd hx hb dL_step_1222 ?_
    exact w1223  x7 (t2 + (irm t1 t0)) Z F h _ _ _ _ h00 hI hN hq hS (lv_sub hl [0, 1, 2] rfl)
  have w1193 : ∀ (x3 : Int32) (x4 : Int32) (x7 : Int32) (Z : CZ) (F : Nat → Int32), fL_step_1193  x3 x4 x7 Z F = some (rz, Zz, Fz) → sG p l e (headSpec wsL_step rmL_step).room s m (([.ref (ad0 0 0), .ref q, .int a3, .int a4, .int a5] : List Value).toArray) below meth c (MQ below (sQ D G A ad0 rz Zz q 5 Fz) (([.ref (ad0 0 0), .ref q, .int a3, .int a4, .int a5] : List Value).toArray) s 28 168 (fun y => A y ∨ y = q)) D G (fun y => A y ∨ y = q) A ad0 q 5 0 0 27 Z F 1193 [(0, .ref (ad0 0 0)), (1, .ref q), (3, .int x3), (4, .int x4), (7, .int x7)] [] := by
    intro  x3 x4 x7 Z F h H locs ls ad h00 hI hN hq hS hl
    unfold fL_step_1193 at h
    refine lv_aload_n hx hb dL_step_1193 rfl (lv_at hl 1 rfl) ?_
    refine lv_iconst (v := (2 : Int32)) hx hb dL_step_1194 (by decide) ?_
    obtain ⟨g87, h⟩ := gd_ok h
    refine sg_ild hx hb hK hq (gin_ok g87) dL_step_1195 ?_
    refine lv_sipush (v := (900 : Int32)) hx hb dL_step_1196 (by decide) ?_
    refine lv_icmp_le (tgt := 1206) hx hb dL_step_1199 (by decide) (fun hc => ?_) (fun hc => ?_)
    · have h := ite_t h hc
      refine lv_iconst (v := (1 : Int32)) hx hb dL_step_1206 (by decide) ?_
      refine lv_iload hx hb dL_step_1207 (lv_at hl 3 rfl) ?_
      refine lv_iload_n hx hb dL_step_1209 rfl (lv_at hl 2 rfl) ?_
      refine lv_iconst (v := (5 : Int32)) hx hb dL_step_1210 (by decide) ?_
      refine lv_irm hx hb dL_step_1211 (by decide) ?_
      refine lv_if_ne (tgt := 1220) hx hb dL_step_1212 (by decide) (fun hc => ?_) (fun hc => ?_)
      · have h := ite_f h hc
        refine lv_iconst (v := (2 : Int32)) hx hb dL_step_1220 (by decide) ?_
        exact w1221  x7 (2 : Int32) x4 (1 : Int32) Z F h _ _ _ _ h00 hI hN hq hS (lv_sub hl [0, 1, 4] rfl)
      · have h := ite_t h hc
        refine lv_bipush (v := (30 : Int32)) hx hb dL_step_1215 (by decide) ?_
        refine lv_goto (tgt := 1221) hx hb dL_step_1217 (by decide) ?_
        exact w1221  x7 (30 : Int32) x4 (1 : Int32) Z F h _ _ _ _ h00 hI hN hq hS (lv_sub hl [0, 1, 4] rfl)
    · have h := ite_f h hc
      refine lv_iconst (v := (0 : Int32)) hx hb dL_step_1202 (by decide) ?_
      refine lv_goto (tgt := 1223) hx hb dL_step_1203 (by decide) ?_
      exact w1223  x7 (0 : Int32) Z F h _ _ _ _ h00 hI hN hq hS (lv_sub hl [0, 1, 4] rfl)
  have w1266 : ∀ (x4 : Int32) (x7 : Int32) (Z : CZ) (F : Nat → Int32), fL_step_1266  x4 x7 Z F = some (rz, Zz, Fz) → sG p l e (headSpec wsL_step rmL_step).room s m (([.ref (ad0 0 0), .ref q, .int a3, .int a4, .int a5] : List Value).toArray) below meth c (MQ below (sQ D G A ad0 rz Zz q 5 Fz) (([.ref (ad0 0 0), .ref q, .int a3, .int a4, .int a5] : List Value).toArray) s 28 168 (fun y => A y ∨ y = q)) D G (fun y => A y ∨ y = q) A ad0 q 5 0 0 27 Z F 1266 [(0, .ref (ad0 0 0)), (4, .int x4), (7, .int x7)] [] := by
    intro  x4 x7 Z F h H locs ls ad h00 hI hN hq hS hl
    unfold fL_step_1266 at h
    refine lv_aload_n hx hb dL_step_1266 rfl (lv_at hl 0 rfl) ?_
    refine lv_iload hx hb dL_step_1267 (lv_at hl 2 rfl) ?_
    refine lv_iconst (v := (1 : Int32)) hx hb dL_step_1269 (by decide) ?_
    refine lv_iload hx hb dL_step_1270 (lv_at hl 1 rfl) ?_
    refine lv_bipush (v := (30 : Int32)) hx hb dL_step_1272 (by decide) ?_
    refine lv_irm hx hb dL_step_1274 (by decide) ?_
    refine lv_iadd hx hb dL_step_1275 ?_
    refine W_stk (st' := [.int ((1 : Int32) + (irm x4 (30 : Int32))), .int x7, .ref (ad 0 0)]) (by rw [h00]) ?_
    obtain ⟨v119, Z121, c120, h⟩ := cl2_ok h
    refine sg_calli (va_runS (As := [.ref (ad 0 0), .int x7, .int ((1 : Int32) + (irm x4 (30 : Int32)))]) (rest := []) ⟨hx, hb, hml, hown, hts⟩ (mL_hasPerformed l hfl D G A ad Z x7 ((1 : Int32) + (irm x4 (30 : Int32))) v119 Z121 c120) (va_cwS 3 hts gL_step_L_hasPerformed rfl rfl rfl (by decide +kernel) ⟨Nat.le_of_ble_eq_true rfl, Nat.le_of_ble_eq_true rfl⟩) (sg_preS hI hK hN hE hS (fun _ h => Or.inl h)) rfl rfl hl.1 rfl (lv_room (Nat.le_of_ble_eq_true rfl)) dL_step_1276 ⟨Nat.le_of_ble_eq_true rfl, Nat.le_of_ble_eq_true rfl⟩) hS (fun _ h => Or.inl h) hq hnq ⟨_, rfl⟩ (fun H locs hI hN hq hS => ?_)
    refine W.widen (k := 8) (n := 48) (by decide) (by decide) ?_
    obtain ⟨g122, h⟩ := gd_ok h
    refine W.widen (k := 28) (n := 168) (by decide) (by decide) ?_
    exact W.zret hx hb hr (gbo_ok g122) (sg_end h h00 hI hK hN hq hS) (fun z hz => hS.2.2 z hz) dL_step_1279
  have w1383 : ∀ (t0 : Int32) (Z : CZ) (F : Nat → Int32), fL_step_1383  t0 Z F = some (rz, Zz, Fz) → sG p l e (headSpec wsL_step rmL_step).room s m (([.ref (ad0 0 0), .ref q, .int a3, .int a4, .int a5] : List Value).toArray) below meth c (MQ below (sQ D G A ad0 rz Zz q 5 Fz) (([.ref (ad0 0 0), .ref q, .int a3, .int a4, .int a5] : List Value).toArray) s 28 168 (fun y => A y ∨ y = q)) D G (fun y => A y ∨ y = q) A ad0 q 5 10 60 27 Z F 1383 [] [.int t0] := by
    intro  t0 Z F h H locs ls ad h00 hI hN hq hS hl
    unfold fL_step_1383 at h
    obtain ⟨g191, h⟩ := gd_ok h
    refine W.widen (k := 28) (n := 168) (by decide) (by decide) ?_
    exact W.zret hx hb hr (gbo_ok g191) (sg_end h h00 hI hK hN hq hS) (fun z hz => hS.2.2 z hz) dL_step_1383
  have w1378 : ∀ (Z : CZ) (F : Nat → Int32), fL_step_1378  Z F = some (rz, Zz, Fz) → sG p l e (headSpec wsL_step rmL_step).room s m (([.ref (ad0 0 0), .ref q, .int a3, .int a4, .int a5] : List Value).toArray) below meth c (MQ below (sQ D G A ad0 rz Zz q 5 Fz) (([.ref (ad0 0 0), .ref q, .int a3, .int a4, .int a5] : List Value).toArray) s 28 168 (fun y => A y ∨ y = q)) D G (fun y => A y ∨ y = q) A ad0 q 5 10 60 27 Z F 1378 [] [] := by
    intro  Z F h H locs ls ad h00 hI hN hq hS hl
    unfold fL_step_1378 at h
    refine lv_iconst (v := (1 : Int32)) hx hb dL_step_1378 (by decide) ?_
    refine lv_goto (tgt := 1383) hx hb dL_step_1379 (by decide) ?_
    exact w1383  (1 : Int32) Z F h _ _ _ _ h00 hI hN hq hS (lv_sub hl [] rfl)
  have w1382 : ∀ (Z : CZ) (F : Nat → Int32), fL_step_1382  Z F = some (rz, Zz, Fz) → sG p l e (headSpec wsL_step rmL_step).room s m (([.ref (ad0 0 0), .ref q, .int a3, .int a4, .int a5] : List Value).toArray) below meth c (MQ below (sQ D G A ad0 rz Zz q 5 Fz) (([.ref (ad0 0 0), .ref q, .int a3, .int a4, .int a5] : List Value).toArray) s 28 168 (fun y => A y ∨ y = q)) D G (fun y => A y ∨ y = q) A ad0 q 5 10 60 27 Z F 1382 [] [] := by
    intro  Z F h H locs ls ad h00 hI hN hq hS hl
    unfold fL_step_1382 at h
    refine lv_iconst (v := (0 : Int32)) hx hb dL_step_1382 (by decide) ?_
    exact w1383  (0 : Int32) Z F h _ _ _ _ h00 hI hN hq hS (lv_sub hl [] rfl)
  have w1375 : ∀ (t0 : Int32) (t1 : Int32) (Z : CZ) (F : Nat → Int32), fL_step_1375  t0 t1 Z F = some (rz, Zz, Fz) → sG p l e (headSpec wsL_step rmL_step).room s m (([.ref (ad0 0 0), .ref q, .int a3, .int a4, .int a5] : List Value).toArray) below meth c (MQ below (sQ D G A ad0 rz Zz q 5 Fz) (([.ref (ad0 0 0), .ref q, .int a3, .int a4, .int a5] : List Value).toArray) s 28 168 (fun y => A y ∨ y = q)) D G (fun y => A y ∨ y = q) A ad0 q 5 10 60 27 Z F 1375 [] [.int t0, .int t1] := by
    intro  t0 t1 Z F h H locs ls ad h00 hI hN hq hS hl
    unfold fL_step_1375 at h
    refine lv_icmp_ne (tgt := 1382) hx hb dL_step_1375 (by decide) (fun hc => ?_) (fun hc => ?_)
    · have h := ite_f h hc
      exact w1382  Z F h _ _ _ _ h00 hI hN hq hS (lv_sub hl [] rfl)
    · have h := ite_t h hc
      exact w1378  Z F h _ _ _ _ h00 hI hN hq hS (lv_sub hl [] rfl)
  have w1358 : ∀ (x7 : Int32) (t0 : Int32) (Z : CZ) (F : Nat → Int32), fL_step_1358  x7 t0 Z F = some (rz, Zz, Fz) → sG p l e (headSpec wsL_step rmL_step).room s m (([.ref (ad0 0 0), .ref q, .int a3, .int a4, .int a5] : List Value).toArray) below meth c (MQ below (sQ D G A ad0 rz Zz q 5 Fz) (([.ref (ad0 0 0), .ref q, .int a3, .int a4, .int a5] : List Value).toArray) s 28 168 (fun y => A y ∨ y = q)) D G (fun y => A y ∨ y = q) A ad0 q 5 8 48 27 Z F 1358 [(0, .ref (ad0 0 0)), (7, .int x7)] [.int t0] := by
    intro  x7 t0 Z F h H locs ls ad h00 hI hN hq hS hl
    unfold fL_step_1358 at h
    refine lv_aload_n hx hb dL_step_1358 rfl (lv_at hl 0 rfl) ?_
    refine lv_iload hx hb dL_step_1359 (lv_at hl 1 rfl) ?_
    refine W_stk (st' := [.int x7, .ref (ad 0 0), .int t0]) (by rw [h00]) ?_
    obtain ⟨v155, c156, h⟩ := cl1_ok h
    refine sg_callx (vx_runSX (As := [.ref (ad 0 0), .int x7]) (rest := [.int t0]) ⟨hx, hb, hml, hown, hts⟩ (mL_scores l hfl D G A ad Z x7 v155  c156) (vx_cwSW 2 hts gL_step_L_scores rfl rfl rfl (by decide +kernel) ⟨Nat.le_of_ble_eq_true rfl, Nat.le_of_ble_eq_true rfl⟩) (sg_preS hI hK hN hE hS (fun _ h => Or.inl h)) rfl rfl hl.1 rfl (lv_room (Nat.le_of_ble_eq_true rfl)) dL_step_1361 ⟨Nat.le_of_ble_eq_true rfl, Nat.le_of_ble_eq_true rfl⟩) hS (fun _ h => Or.inl h) hq hnq ⟨_, rfl⟩ (fun H locs hI hN hq hS => ?_)
    refine W.widen (k := 10) (n := 60) (by decide) (by decide) ?_
    refine lv_sipush (v := (-2000 : Int32)) hx hb dL_step_1364 (by decide) ?_
    refine lv_icmp_le (tgt := 1374) hx hb dL_step_1367 (by decide) (fun hc => ?_) (fun hc => ?_)
    · have h := ite_t h hc
      refine lv_iconst (v := (0 : Int32)) hx hb dL_step_1374 (by decide) ?_
      exact w1375  (0 : Int32) t0 Z F h _ _ _ _ h00 hI hN hq hS (lv_sub hl [] rfl)
    · have h := ite_f h hc
      refine lv_iconst (v := (1 : Int32)) hx hb dL_step_1370 (by decide) ?_
      refine lv_goto (tgt := 1375) hx hb dL_step_1371 (by decide) ?_
      exact w1375  (1 : Int32) t0 Z F h _ _ _ _ h00 hI hN hq hS (lv_sub hl [] rfl)
  have w1280 : ∀ (x4 : Int32) (x7 : Int32) (Z : CZ) (F : Nat → Int32), fL_step_1280  x4 x7 Z F = some (rz, Zz, Fz) → sG p l e (headSpec wsL_step rmL_step).room s m (([.ref (ad0 0 0), .ref q, .int a3, .int a4, .int a5] : List Value).toArray) below meth c (MQ below (sQ D G A ad0 rz Zz q 5 Fz) (([.ref (ad0 0 0), .ref q, .int a3, .int a4, .int a5] : List Value).toArray) s 28 168 (fun y => A y ∨ y = q)) D G (fun y => A y ∨ y = q) A ad0 q 5 0 0 27 Z F 1280 [(0, .ref (ad0 0 0)), (4, .int x4), (7, .int x7)] [] := by
    intro  x4 x7 Z F h H locs ls ad h00 hI hN hq hS hl
    unfold fL_step_1280 at h
    refine lv_aload_n hx hb dL_step_1280 rfl (lv_at hl 0 rfl) ?_
    refine lv_iload hx hb dL_step_1281 (lv_at hl 2 rfl) ?_
    refine lv_iload hx hb dL_step_1283 (lv_at hl 1 rfl) ?_
    refine lv_iconst (v := (5 : Int32)) hx hb dL_step_1285 (by decide) ?_
    refine lv_irm hx hb dL_step_1286 (by decide) ?_
    refine lv_iload hx hb dL_step_1287 (lv_at hl 1 rfl) ?_
    refine lv_iconst (v := (5 : Int32)) hx hb dL_step_1289 (by decide) ?_
    refine lv_idiv hx hb dL_step_1290 (by decide) ?_
    refine lv_bipush (v := (101 : Int32)) hx hb dL_step_1291 (by decide) ?_
    refine lv_irm hx hb dL_step_1293 (by decide) ?_
    refine W_stk (st' := [.int (irm (x4 / (5 : Int32)) (101 : Int32)), .int (irm x4 (5 : Int32)), .int x7, .ref (ad 0 0)]) (by rw [h00]) ?_
    obtain ⟨v10, Z12, c11, h⟩ := cl2_ok h
    refine sg_callx (vx_runSX (As := [.ref (ad 0 0), .int x7, .int (irm x4 (5 : Int32)), .int (irm (x4 / (5 : Int32)) (101 : Int32))]) (rest := []) ⟨hx, hb, hml, hown, hts⟩ (mL_marks l hfl D G A ad Z x7 (irm x4 (5 : Int32)) (irm (x4 / (5 : Int32)) (101 : Int32)) v10 Z12 c11) (vx_cwSW 4 hts gL_step_L_marks rfl rfl rfl (by decide +kernel) ⟨Nat.le_of_ble_eq_true rfl, Nat.le_of_ble_eq_true rfl⟩) (sg_preS hI hK hN hE hS (fun _ h => Or.inl h)) rfl rfl hl.1 rfl (lv_room (Nat.le_of_ble_eq_true rfl)) dL_step_1294 ⟨Nat.le_of_ble_eq_true rfl, Nat.le_of_ble_eq_true rfl⟩) hS (fun _ h => Or.inl h) hq hnq ⟨_, rfl⟩ (fun H locs hI hN hq hS => ?_)
    refine W.widen (k := 4) (n := 24) (by decide) (by decide) ?_
    refine lv_istore (lv' := [(26, .int v10), (0, .ref (ad0 0 0)), (4, .int x4), (7, .int x7)]) hx hb dL_step_1297 hl (by decide) rfl (fun ls hl => ?_)
    refine lv_iload hx hb dL_step_1299 (lv_at hl 0 rfl) ?_
    refine lv_sipush (v := (-200 : Int32)) hx hb dL_step_1301 (by decide) ?_
    refine lv_icmp_eq (tgt := 1378) hx hb dL_step_1304 (by decide) (fun hc => ?_) (fun hc => ?_)
    · have h := ite_t h hc
      refine W.widen (k := 10) (n := 60) (by decide) (by decide) ?_
      exact w1378  Z12 F h _ _ _ _ h00 hI hN hq hS (lv_sub hl [] rfl)
    · have h := ite_f h hc
      refine lv_iload hx hb dL_step_1307 (lv_at hl 0 rfl) ?_
      refine lv_if_le (tgt := 1382) hx hb dL_step_1309 (by decide) (fun hc => ?_) (fun hc => ?_)
      · have h := ite_t h hc
        refine W.widen (k := 10) (n := 60) (by decide) (by decide) ?_
        exact w1382  Z12 F h _ _ _ _ h00 hI hN hq hS (lv_sub hl [] rfl)
      · have h := ite_f h hc
        refine lv_iload hx hb dL_step_1312 (lv_at hl 0 rfl) ?_
        refine lv_bipush (v := (6 : Int32)) hx hb dL_step_1314 (by decide) ?_
        refine lv_icmp_ge (tgt := 1382) hx hb dL_step_1316 (by decide) (fun hc => ?_) (fun hc => ?_)
        · have h := ite_t h hc
          refine W.widen (k := 10) (n := 60) (by decide) (by decide) ?_
          exact w1382  Z12 F h _ _ _ _ h00 hI hN hq hS (lv_sub hl [] rfl)
        · have h := ite_f h hc
          refine lv_aload_n hx hb dL_step_1319 rfl (lv_at hl 1 rfl) ?_
          refine lv_iload hx hb dL_step_1320 (lv_at hl 3 rfl) ?_
          refine lv_iconst (v := (3 : Int32)) hx hb dL_step_1322 (by decide) ?_
          refine W_stk (st' := [.int (3 : Int32), .int x7, .ref (ad 0 0)]) (by rw [h00]) ?_
          obtain ⟨v13, c14, h⟩ := cl1_ok h
          refine sg_calli (va_runV (As := [.int x7, .int (3 : Int32)]) (rest := []) ⟨hx, hb, hml, hown, hts⟩ (mX6_ofBand_n l D G A ad Z12 x7 (3 : Int32) v13  c14) (cwV 2 hts gL_step_X6_ofBand rfl rfl rfl (by decide +kernel) ⟨Nat.le_of_ble_eq_true rfl, Nat.le_of_ble_eq_true rfl⟩) (cg_preV hI hK hN rfl rfl (ci := 7) rfl) rfl rfl hl.1 rfl (lv_room (Nat.le_of_ble_eq_true rfl)) dL_step_1323 ⟨Nat.le_of_ble_eq_true rfl, Nat.le_of_ble_eq_true rfl⟩) hS (fun _ h => Or.inl h) hq hnq ⟨_, rfl⟩ (fun H locs hI hN hq hS => ?_)
          refine W.widen (k := 4) (n := 24) (by decide) (by decide) ?_
          refine lv_if_lt (tgt := 1382) hx hb dL_step_1326 (by decide) (fun hc => ?_) (fun hc => ?_)
          · have h := ite_t h hc
            refine W.widen (k := 10) (n := 60) (by decide) (by decide) ?_
            exact w1382  Z12 F h _ _ _ _ h00 hI hN hq hS (lv_sub hl [] rfl)
          · have h := ite_f h hc
            refine lv_aload_n hx hb dL_step_1329 rfl (lv_at hl 1 rfl) ?_
            refine lv_iload hx hb dL_step_1330 (lv_at hl 3 rfl) ?_
            refine lv_iload hx hb dL_step_1332 (lv_at hl 2 rfl) ?_
            refine lv_iconst (v := (5 : Int32)) hx hb dL_step_1334 (by decide) ?_
            refine lv_irm hx hb dL_step_1335 (by decide) ?_
            refine lv_bipush (v := (7 : Int32)) hx hb dL_step_1336 (by decide) ?_
            refine W_stk (st' := [.int (7 : Int32), .int (irm x4 (5 : Int32)), .int x7, .ref (ad 0 0)]) (by rw [h00]) ?_
            obtain ⟨v15, Z17, c16, h⟩ := cl2_ok h
            refine sg_callx (vx_runSX (As := [.ref (ad 0 0), .int x7, .int (irm x4 (5 : Int32)), .int (7 : Int32)]) (rest := []) ⟨hx, hb, hml, hown, hts⟩ (mL_marks l hfl D G A ad Z12 x7 (irm x4 (5 : Int32)) (7 : Int32) v15 Z17 c16) (vx_cwSW 4 hts gL_step_L_marks rfl rfl rfl (by decide +kernel) ⟨Nat.le_of_ble_eq_true rfl, Nat.le_of_ble_eq_true rfl⟩) (sg_preS hI hK hN hE hS (fun _ h => Or.inl h)) rfl rfl hl.1 rfl (lv_room (Nat.le_of_ble_eq_true rfl)) dL_step_1338 ⟨Nat.le_of_ble_eq_true rfl, Nat.le_of_ble_eq_true rfl⟩) hS (fun _ h => Or.inl h) hq hnq ⟨_, rfl⟩ (fun H locs hI hN hq hS => ?_)
            refine W.widen (k := 8) (n := 48) (by decide) (by decide) ?_
            refine lv_sipush (v := (-200 : Int32)) hx hb dL_step_1341 (by decide) ?_
            refine lv_icmp_ne (tgt := 1382) hx hb dL_step_1344 (by decide) (fun hc => ?_) (fun hc => ?_)
            · have h := ite_f h hc
              refine W.widen (k := 10) (n := 60) (by decide) (by decide) ?_
              exact w1382  Z17 F h _ _ _ _ h00 hI hN hq hS (lv_sub hl [] rfl)
            · have h := ite_t h hc
              refine lv_iload hx hb dL_step_1347 (lv_at hl 0 rfl) ?_
              refine lv_iconst (v := (5 : Int32)) hx hb dL_step_1349 (by decide) ?_
              refine lv_icmp_ne (tgt := 1357) hx hb dL_step_1350 (by decide) (fun hc => ?_) (fun hc => ?_)
              · have h := ite_f h hc
                refine lv_iconst (v := (0 : Int32)) hx hb dL_step_1357 (by decide) ?_
                exact w1358  x7 (0 : Int32) Z17 F h _ _ _ _ h00 hI hN hq hS (lv_sub hl [1, 3] rfl)
              · have h := ite_t h hc
                refine lv_iconst (v := (1 : Int32)) hx hb dL_step_1353 (by decide) ?_
                refine lv_goto (tgt := 1358) hx hb dL_step_1354 (by decide) ?_
                exact w1358  x7 (1 : Int32) Z17 F h _ _ _ _ h00 hI hN hq hS (lv_sub hl [1, 3] rfl)
  have w1384 : ∀ (x7 : Int32) (Z : CZ) (F : Nat → Int32), fL_step_1384  x7 Z F = some (rz, Zz, Fz) → sG p l e (headSpec wsL_step rmL_step).room s m (([.ref (ad0 0 0), .ref q, .int a3, .int a4, .int a5] : List Value).toArray) below meth c (MQ below (sQ D G A ad0 rz Zz q 5 Fz) (([.ref (ad0 0 0), .ref q, .int a3, .int a4, .int a5] : List Value).toArray) s 28 168 (fun y => A y ∨ y = q)) D G (fun y => A y ∨ y = q) A ad0 q 5 0 0 27 Z F 1384 [(0, .ref (ad0 0 0)), (7, .int x7)] [] := by
    intro  x7 Z F h H locs ls ad h00 hI hN hq hS hl
    unfold fL_step_1384 at h
    refine lv_aload_n hx hb dL_step_1384 rfl (lv_at hl 0 rfl) ?_
    refine lv_iload hx hb dL_step_1385 (lv_at hl 1 rfl) ?_
    refine W_stk (st' := [.int x7, .ref (ad 0 0)]) (by rw [h00]) ?_
    obtain ⟨v107, Z109, c108, h⟩ := cl2_ok h
    refine sg_calli (va_runS (As := [.ref (ad 0 0), .int x7]) (rest := []) ⟨hx, hb, hml, hown, hts⟩ (mL_areParts l hfl D G A ad Z x7 v107 Z109 c108) (va_cwS 2 hts gL_step_L_areParts rfl rfl rfl (by decide +kernel) ⟨Nat.le_of_ble_eq_true rfl, Nat.le_of_ble_eq_true rfl⟩) (sg_preS hI hK hN hE hS (fun _ h => Or.inl h)) rfl rfl hl.1 rfl (lv_room (Nat.le_of_ble_eq_true rfl)) dL_step_1387 ⟨Nat.le_of_ble_eq_true rfl, Nat.le_of_ble_eq_true rfl⟩) hS (fun _ h => Or.inl h) hq hnq ⟨_, rfl⟩ (fun H locs hI hN hq hS => ?_)
    refine W.widen (k := 0) (n := 0) (by decide) (by decide) ?_
    obtain ⟨g110, h⟩ := gd_ok h
    refine W.widen (k := 28) (n := 168) (by decide) (by decide) ?_
    exact W.zret hx hb hr (gbo_ok g110) (sg_end h h00 hI hK hN hq hS) (fun z hz => hS.2.2 z hz) dL_step_1390
  have w64 : ∀ (x3 : Int32) (x4 : Int32) (x5 : Int32) (x6 : Int32) (x7 : Int32) (t0 : Int32) (Z : CZ) (F : Nat → Int32), fL_step_64  x3 x4 x5 x6 x7 t0 Z F = some (rz, Zz, Fz) → sG p l e (headSpec wsL_step rmL_step).room s m (([.ref (ad0 0 0), .ref q, .int a3, .int a4, .int a5] : List Value).toArray) below meth c (MQ below (sQ D G A ad0 rz Zz q 5 Fz) (([.ref (ad0 0 0), .ref q, .int a3, .int a4, .int a5] : List Value).toArray) s 28 168 (fun y => A y ∨ y = q)) D G (fun y => A y ∨ y = q) A ad0 q 5 0 0 27 Z F 64 [(0, .ref (ad0 0 0)), (1, .ref q), (3, .int x3), (4, .int x4), (5, .int x5), (6, .int x6), (7, .int x7)] [.int t0] := by
    intro  x3 x4 x5 x6 x7 t0 Z F h H locs ls ad h00 hI hN hq hS hl
    unfold fL_step_64 at h
    by_cases hs0 : t0 = (0 : Int32)
    · have h := ite_t h hs0
      refine lv_tableIn (tgt := 180) hx hb dL_step_64 (by rw [hs0]; decide) (by rw [hs0]; decide) (by rw [hs0]; rfl) (by decide) ?_
      exact w180  x3 x4 Z F h _ _ _ _ h00 hI hN hq hS (lv_sub hl [0, 1, 2, 3] rfl)
    · have h := ite_f h hs0
      by_cases hs1 : t0 = (1 : Int32)
      · have h := ite_t h hs1
        refine lv_tableIn (tgt := 322) hx hb dL_step_64 (by rw [hs1]; decide) (by rw [hs1]; decide) (by rw [hs1]; rfl) (by decide) ?_
        exact w322  x4 Z F h _ _ _ _ h00 hI hN hq hS (lv_sub hl [0, 1, 3] rfl)
      · have h := ite_f h hs1
        by_cases hs2 : t0 = (2 : Int32)
        · have h := ite_t h hs2
          refine lv_tableIn (tgt := 412) hx hb dL_step_64 (by rw [hs2]; decide) (by rw [hs2]; decide) (by rw [hs2]; rfl) (by decide) ?_
          exact w412  x4 x5 Z F h _ _ _ _ h00 hI hN hq hS (lv_sub hl [0, 3, 4] rfl)
        · have h := ite_f h hs2
          by_cases hs3 : t0 = (3 : Int32)
          · have h := ite_t h hs3
            refine lv_tableIn (tgt := 412) hx hb dL_step_64 (by rw [hs3]; decide) (by rw [hs3]; decide) (by rw [hs3]; rfl) (by decide) ?_
            exact w412  x4 x5 Z F h _ _ _ _ h00 hI hN hq hS (lv_sub hl [0, 3, 4] rfl)
          · have h := ite_f h hs3
            by_cases hs4 : t0 = (4 : Int32)
            · have h := ite_t h hs4
              refine lv_tableIn (tgt := 446) hx hb dL_step_64 (by rw [hs4]; decide) (by rw [hs4]; decide) (by rw [hs4]; rfl) (by decide) ?_
              exact w446  x4 x5 Z F h _ _ _ _ h00 hI hN hq hS (lv_sub hl [0, 1, 3, 4] rfl)
            · have h := ite_f h hs4
              by_cases hs5 : t0 = (5 : Int32)
              · have h := ite_t h hs5
                refine lv_tableIn (tgt := 514) hx hb dL_step_64 (by rw [hs5]; decide) (by rw [hs5]; decide) (by rw [hs5]; rfl) (by decide) ?_
                exact w514  x5 Z F h _ _ _ _ h00 hI hN hq hS (lv_sub hl [0, 1, 4] rfl)
              · have h := ite_f h hs5
                by_cases hs6 : t0 = (6 : Int32)
                · have h := ite_t h hs6
                  refine lv_tableIn (tgt := 543) hx hb dL_step_64 (by rw [hs6]; decide) (by rw [hs6]; decide) (by rw [hs6]; rfl) (by decide) ?_
                  exact w543  x6 x7 Z F h _ _ _ _ h00 hI hN hq hS (lv_sub hl [0, 5, 6] rfl)
                · have h := ite_f h hs6
                  by_cases hs7 : t0 = (7 : Int32)
                  · have h := ite_t h hs7
                    refine lv_tableIn (tgt := 543) hx hb dL_step_64 (by rw [hs7]; decide) (by rw [hs7]; decide) (by rw [hs7]; rfl) (by decide) ?_
                    exact w543  x6 x7 Z F h _ _ _ _ h00 hI hN hq hS (lv_sub hl [0, 5, 6] rfl)
                  · have h := ite_f h hs7
                    by_cases hs8 : t0 = (8 : Int32)
                    · have h := ite_t h hs8
                      refine lv_tableIn (tgt := 543) hx hb dL_step_64 (by rw [hs8]; decide) (by rw [hs8]; decide) (by rw [hs8]; rfl) (by decide) ?_
                      exact w543  x6 x7 Z F h _ _ _ _ h00 hI hN hq hS (lv_sub hl [0, 5, 6] rfl)
                    · have h := ite_f h hs8
                      by_cases hs9 : t0 = (9 : Int32)
                      · have h := ite_t h hs9
                        refine lv_tableIn (tgt := 543) hx hb dL_step_64 (by rw [hs9]; decide) (by rw [hs9]; decide) (by rw [hs9]; rfl) (by decide) ?_
                        exact w543  x6 x7 Z F h _ _ _ _ h00 hI hN hq hS (lv_sub hl [0, 5, 6] rfl)
                      · have h := ite_f h hs9
                        by_cases hs10 : t0 = (10 : Int32)
                        · have h := ite_t h hs10
                          refine lv_tableIn (tgt := 659) hx hb dL_step_64 (by rw [hs10]; decide) (by rw [hs10]; decide) (by rw [hs10]; rfl) (by decide) ?_
                          exact w659  x6 x7 Z F h _ _ _ _ h00 hI hN hq hS (lv_sub hl [0, 5, 6] rfl)
                        · have h := ite_f h hs10
                          by_cases hs11 : t0 = (11 : Int32)
                          · have h := ite_t h hs11
                            refine lv_tableIn (tgt := 792) hx hb dL_step_64 (by rw [hs11]; decide) (by rw [hs11]; decide) (by rw [hs11]; rfl) (by decide) ?_
                            exact w792  x5 x6 Z F h _ _ _ _ h00 hI hN hq hS (lv_sub hl [0, 4, 5] rfl)
                          · have h := ite_f h hs11
                            by_cases hs12 : t0 = (12 : Int32)
                            · have h := ite_t h hs12
                              refine lv_tableIn (tgt := 871) hx hb dL_step_64 (by rw [hs12]; decide) (by rw [hs12]; decide) (by rw [hs12]; rfl) (by decide) ?_
                              exact w871  x6 Z F h _ _ _ _ h00 hI hN hq hS (lv_sub hl [0, 5] rfl)
                            · have h := ite_f h hs12
                              by_cases hs13 : t0 = (13 : Int32)
                              · have h := ite_t h hs13
                                refine lv_tableIn (tgt := 936) hx hb dL_step_64 (by rw [hs13]; decide) (by rw [hs13]; decide) (by rw [hs13]; rfl) (by decide) ?_
                                exact w936  x4 x7 Z F h _ _ _ _ h00 hI hN hq hS (lv_sub hl [0, 3, 6] rfl)
                              · have h := ite_f h hs13
                                by_cases hs14 : t0 = (14 : Int32)
                                · have h := ite_t h hs14
                                  refine lv_tableIn (tgt := 936) hx hb dL_step_64 (by rw [hs14]; decide) (by rw [hs14]; decide) (by rw [hs14]; rfl) (by decide) ?_
                                  exact w936  x4 x7 Z F h _ _ _ _ h00 hI hN hq hS (lv_sub hl [0, 3, 6] rfl)
                                · have h := ite_f h hs14
                                  by_cases hs15 : t0 = (15 : Int32)
                                  · have h := ite_t h hs15
                                    refine lv_tableIn (tgt := 936) hx hb dL_step_64 (by rw [hs15]; decide) (by rw [hs15]; decide) (by rw [hs15]; rfl) (by decide) ?_
                                    exact w936  x4 x7 Z F h _ _ _ _ h00 hI hN hq hS (lv_sub hl [0, 3, 6] rfl)
                                  · have h := ite_f h hs15
                                    by_cases hs16 : t0 = (16 : Int32)
                                    · have h := ite_t h hs16
                                      refine lv_tableIn (tgt := 936) hx hb dL_step_64 (by rw [hs16]; decide) (by rw [hs16]; decide) (by rw [hs16]; rfl) (by decide) ?_
                                      exact w936  x4 x7 Z F h _ _ _ _ h00 hI hN hq hS (lv_sub hl [0, 3, 6] rfl)
                                    · have h := ite_f h hs16
                                      by_cases hs17 : t0 = (17 : Int32)
                                      · have h := ite_t h hs17
                                        refine lv_tableIn (tgt := 1010) hx hb dL_step_64 (by rw [hs17]; decide) (by rw [hs17]; decide) (by rw [hs17]; rfl) (by decide) ?_
                                        exact w1010  x4 x7 Z F h _ _ _ _ h00 hI hN hq hS (lv_sub hl [0, 3, 6] rfl)
                                      · have h := ite_f h hs17
                                        by_cases hs18 : t0 = (18 : Int32)
                                        · have h := ite_t h hs18
                                          refine lv_tableIn (tgt := 1053) hx hb dL_step_64 (by rw [hs18]; decide) (by rw [hs18]; decide) (by rw [hs18]; rfl) (by decide) ?_
                                          exact w1053  x4 x7 Z F h _ _ _ _ h00 hI hN hq hS (lv_sub hl [0, 3, 6] rfl)
                                        · have h := ite_f h hs18
                                          by_cases hs19 : t0 = (19 : Int32)
                                          · have h := ite_t h hs19
                                            refine lv_tableIn (tgt := 1053) hx hb dL_step_64 (by rw [hs19]; decide) (by rw [hs19]; decide) (by rw [hs19]; rfl) (by decide) ?_
                                            exact w1053  x4 x7 Z F h _ _ _ _ h00 hI hN hq hS (lv_sub hl [0, 3, 6] rfl)
                                          · have h := ite_f h hs19
                                            by_cases hs20 : t0 = (20 : Int32)
                                            · have h := ite_t h hs20
                                              refine lv_tableIn (tgt := 1158) hx hb dL_step_64 (by rw [hs20]; decide) (by rw [hs20]; decide) (by rw [hs20]; rfl) (by decide) ?_
                                              exact w1158  x4 x7 Z F h _ _ _ _ h00 hI hN hq hS (lv_sub hl [0, 3, 6] rfl)
                                            · have h := ite_f h hs20
                                              by_cases hs21 : t0 = (21 : Int32)
                                              · have h := ite_t h hs21
                                                refine lv_tableIn (tgt := 1158) hx hb dL_step_64 (by rw [hs21]; decide) (by rw [hs21]; decide) (by rw [hs21]; rfl) (by decide) ?_
                                                exact w1158  x4 x7 Z F h _ _ _ _ h00 hI hN hq hS (lv_sub hl [0, 3, 6] rfl)
                                              · have h := ite_f h hs21
                                                by_cases hs22 : t0 = (22 : Int32)
                                                · have h := ite_t h hs22
                                                  refine lv_tableIn (tgt := 1193) hx hb dL_step_64 (by rw [hs22]; decide) (by rw [hs22]; decide) (by rw [hs22]; rfl) (by decide) ?_
                                                  exact w1193  x3 x4 x7 Z F h _ _ _ _ h00 hI hN hq hS (lv_sub hl [0, 1, 2, 3, 6] rfl)
                                                · have h := ite_f h hs22
                                                  by_cases hs23 : t0 = (23 : Int32)
                                                  · have h := ite_t h hs23
                                                    refine lv_tableIn (tgt := 1266) hx hb dL_step_64 (by rw [hs23]; decide) (by rw [hs23]; decide) (by rw [hs23]; rfl) (by decide) ?_
                                                    exact w1266  x4 x7 Z F h _ _ _ _ h00 hI hN hq hS (lv_sub hl [0, 3, 6] rfl)
                                                  · have h := ite_f h hs23
                                                    by_cases hs24 : t0 = (24 : Int32)
                                                    · have h := ite_t h hs24
                                                      refine lv_tableIn (tgt := 1280) hx hb dL_step_64 (by rw [hs24]; decide) (by rw [hs24]; decide) (by rw [hs24]; rfl) (by decide) ?_
                                                      exact w1280  x4 x7 Z F h _ _ _ _ h00 hI hN hq hS (lv_sub hl [0, 3, 6] rfl)
                                                    · have h := ite_f h hs24
                                                      have ht0 := ne_toInt (0 : Int32) (n := 0) (by decide) hs0
                                                      have ht1 := ne_toInt (1 : Int32) (n := 1) (by decide) hs1
                                                      have ht2 := ne_toInt (2 : Int32) (n := 2) (by decide) hs2
                                                      have ht3 := ne_toInt (3 : Int32) (n := 3) (by decide) hs3
                                                      have ht4 := ne_toInt (4 : Int32) (n := 4) (by decide) hs4
                                                      have ht5 := ne_toInt (5 : Int32) (n := 5) (by decide) hs5
                                                      have ht6 := ne_toInt (6 : Int32) (n := 6) (by decide) hs6
                                                      have ht7 := ne_toInt (7 : Int32) (n := 7) (by decide) hs7
                                                      have ht8 := ne_toInt (8 : Int32) (n := 8) (by decide) hs8
                                                      have ht9 := ne_toInt (9 : Int32) (n := 9) (by decide) hs9
                                                      have ht10 := ne_toInt (10 : Int32) (n := 10) (by decide) hs10
                                                      have ht11 := ne_toInt (11 : Int32) (n := 11) (by decide) hs11
                                                      have ht12 := ne_toInt (12 : Int32) (n := 12) (by decide) hs12
                                                      have ht13 := ne_toInt (13 : Int32) (n := 13) (by decide) hs13
                                                      have ht14 := ne_toInt (14 : Int32) (n := 14) (by decide) hs14
                                                      have ht15 := ne_toInt (15 : Int32) (n := 15) (by decide) hs15
                                                      have ht16 := ne_toInt (16 : Int32) (n := 16) (by decide) hs16
                                                      have ht17 := ne_toInt (17 : Int32) (n := 17) (by decide) hs17
                                                      have ht18 := ne_toInt (18 : Int32) (n := 18) (by decide) hs18
                                                      have ht19 := ne_toInt (19 : Int32) (n := 19) (by decide) hs19
                                                      have ht20 := ne_toInt (20 : Int32) (n := 20) (by decide) hs20
                                                      have ht21 := ne_toInt (21 : Int32) (n := 21) (by decide) hs21
                                                      have ht22 := ne_toInt (22 : Int32) (n := 22) (by decide) hs22
                                                      have ht23 := ne_toInt (23 : Int32) (n := 23) (by decide) hs23
                                                      have ht24 := ne_toInt (24 : Int32) (n := 24) (by decide) hs24
                                                      refine lv_tableOut (tgt := 1384) hx hb dL_step_64 (by omega) (by decide) ?_
                                                      exact w1384  x7 Z F h _ _ _ _ h00 hI hN hq hS (lv_sub hl [0, 6] rfl)
  have w33 : ∀ (x2 : Int32) (x3 : Int32) (x4 : Int32) (x5 : Int32) (t0 : Int32) (Z : CZ) (F : Nat → Int32), fL_step_33  x2 x3 x4 x5 t0 Z F = some (rz, Zz, Fz) → sG p l e (headSpec wsL_step rmL_step).room s m (([.ref (ad0 0 0), .ref q, .int a3, .int a4, .int a5] : List Value).toArray) below meth c (MQ below (sQ D G A ad0 rz Zz q 5 Fz) (([.ref (ad0 0 0), .ref q, .int a3, .int a4, .int a5] : List Value).toArray) s 28 168 (fun y => A y ∨ y = q)) D G (fun y => A y ∨ y = q) A ad0 q 5 0 0 27 Z F 33 [(0, .ref (ad0 0 0)), (1, .ref q), (2, .int x2), (3, .int x3), (4, .int x4), (5, .int x5)] [.int t0] := by
    intro  x2 x3 x4 x5 t0 Z F h H locs ls ad h00 hI hN hq hS hl
    unfold fL_step_33 at h
    refine lv_istore (lv' := [(6, .int t0), (0, .ref (ad0 0 0)), (1, .ref q), (2, .int x2), (3, .int x3), (4, .int x4), (5, .int x5)]) hx hb dL_step_33 hl (by decide) rfl (fun ls hl => ?_)
    refine lv_iload_n hx hb dL_step_35 rfl (lv_at hl 4 rfl) ?_
    refine lv_iconst (v := (4 : Int32)) hx hb dL_step_36 (by decide) ?_
    refine lv_irm hx hb dL_step_37 (by decide) ?_
    refine lv_topi (fun v7 ev7 => ?_)
    have h := bnd_ok h ev7
    refine lv_istore (lv' := [(7, .int v7), (6, .int t0), (0, .ref (ad0 0 0)), (1, .ref q), (2, .int x2), (3, .int x3), (4, .int x4), (5, .int x5)]) hx hb dL_step_38 hl (by decide) rfl (fun ls hl => ?_)
    refine lv_aload_n hx hb dL_step_40 rfl (lv_at hl 3 rfl) ?_
    refine lv_iconst (v := (0 : Int32)) hx hb dL_step_41 (by decide) ?_
    obtain ⟨g8, h⟩ := gd_ok h
    refine sg_ild hx hb hK hq (gin_ok g8) dL_step_42 ?_
    refine lv_if_ne (tgt := 50) hx hb dL_step_43 (by decide) (fun hc => ?_) (fun hc => ?_)
    · have h := ite_f h hc
      refine lv_aload_n hx hb dL_step_50 rfl (lv_at hl 3 rfl) ?_
      refine lv_iconst (v := (1 : Int32)) hx hb dL_step_51 (by decide) ?_
      obtain ⟨g9, h⟩ := gd_ok h
      refine sg_ild hx hb hK hq (gin_ok g9) dL_step_52 ?_
      refine lv_if_ne (tgt := 60) hx hb dL_step_53 (by decide) (fun hc => ?_) (fun hc => ?_)
      · have h := ite_f h hc
        refine lv_iload_n hx hb dL_step_60 rfl (lv_at hl 4 rfl) ?_
        refine lv_bipush (v := (26 : Int32)) hx hb dL_step_61 (by decide) ?_
        refine lv_irm hx hb dL_step_63 (by decide) ?_
        exact w64  x3 x4 x5 t0 v7 (irm x2 (26 : Int32)) Z F h _ _ _ _ h00 hI hN hq hS (lv_sub hl [2, 3, 5, 6, 7, 1, 0] rfl)
      · have h := ite_t h hc
        refine lv_iconst (v := (1 : Int32)) hx hb dL_step_56 (by decide) ?_
        refine lv_goto (tgt := 64) hx hb dL_step_57 (by decide) ?_
        exact w64  x3 x4 x5 t0 v7 (1 : Int32) Z F h _ _ _ _ h00 hI hN hq hS (lv_sub hl [2, 3, 5, 6, 7, 1, 0] rfl)
    · have h := ite_t h hc
      refine lv_iconst (v := (0 : Int32)) hx hb dL_step_46 (by decide) ?_
      refine lv_goto (tgt := 64) hx hb dL_step_47 (by decide) ?_
      exact w64  x3 x4 x5 t0 v7 (0 : Int32) Z F h _ _ _ _ h00 hI hN hq hS (lv_sub hl [2, 3, 5, 6, 7, 1, 0] rfl)
  have w15 : ∀ (x2 : Int32) (x3 : Int32) (x4 : Int32) (t0 : Int32) (Z : CZ) (F : Nat → Int32), fL_step_15  x2 x3 x4 t0 Z F = some (rz, Zz, Fz) → sG p l e (headSpec wsL_step rmL_step).room s m (([.ref (ad0 0 0), .ref q, .int a3, .int a4, .int a5] : List Value).toArray) below meth c (MQ below (sQ D G A ad0 rz Zz q 5 Fz) (([.ref (ad0 0 0), .ref q, .int a3, .int a4, .int a5] : List Value).toArray) s 28 168 (fun y => A y ∨ y = q)) D G (fun y => A y ∨ y = q) A ad0 q 5 0 0 27 Z F 15 [(0, .ref (ad0 0 0)), (1, .ref q), (2, .int x2), (3, .int x3), (4, .int x4)] [.int t0] := by
    intro  x2 x3 x4 t0 Z F h H locs ls ad h00 hI hN hq hS hl
    unfold fL_step_15 at h
    refine lv_istore (lv' := [(5, .int t0), (0, .ref (ad0 0 0)), (1, .ref q), (2, .int x2), (3, .int x3), (4, .int x4)]) hx hb dL_step_15 hl (by decide) rfl (fun ls hl => ?_)
    refine lv_aload_n hx hb dL_step_17 rfl (lv_at hl 2 rfl) ?_
    refine lv_iconst (v := (1 : Int32)) hx hb dL_step_18 (by decide) ?_
    obtain ⟨g4, h⟩ := gd_ok h
    refine sg_ild hx hb hK hq (gin_ok g4) dL_step_19 ?_
    refine lv_if_ne (tgt := 27) hx hb dL_step_20 (by decide) (fun hc => ?_) (fun hc => ?_)
    · have h := ite_f h hc
      refine lv_iload hx hb dL_step_27 (lv_at hl 5 rfl) ?_
      refine lv_aload_n hx hb dL_step_29 rfl (lv_at hl 2 rfl) ?_
      refine lv_iconst (v := (1 : Int32)) hx hb dL_step_30 (by decide) ?_
      obtain ⟨g5, h⟩ := gd_ok h
      refine sg_ild hx hb hK hq (gin_ok g5) dL_step_31 ?_
      obtain ⟨g6, h⟩ := gd_ok h
      refine lv_irm hx hb dL_step_32 (gnz_ok g6) ?_
      exact w33  x2 x3 x4 t0 (irm x4 (F (Int32.toNatClampNeg (1 : Int32)))) Z F h _ _ _ _ h00 hI hN hq hS (lv_sub hl [1, 2, 3, 4, 5, 0] rfl)
    · have h := ite_t h hc
      refine lv_iconst (v := (0 : Int32)) hx hb dL_step_23 (by decide) ?_
      refine lv_goto (tgt := 33) hx hb dL_step_24 (by decide) ?_
      exact w33  x2 x3 x4 t0 (0 : Int32) Z F h _ _ _ _ h00 hI hN hq hS (lv_sub hl [1, 2, 3, 4, 5, 0] rfl)
  unfold fL_step at h
  refine (fun (ad : Nat → Nat → Nat) (h00 : ad 0 0 = ad0 0 0) (hI : cI A ad Z.2.2) (hN : cN D G ad Z s.heap) => ?_) ad0 rfl hI hN
  refine lv_aload_n hx hb dL_step_0 rfl (lv_at hl 1 rfl) ?_
  refine lv_iconst (v := (0 : Int32)) hx hb dL_step_1 (by decide) ?_
  obtain ⟨g1, h⟩ := gd_ok h
  refine sg_ild hx hb hK hq (gin_ok g1) dL_step_2 ?_
  refine lv_if_ne (tgt := 10) hx hb dL_step_3 (by decide) (fun hc => ?_) (fun hc => ?_)
  · have h := ite_f h hc
    refine lv_iload_n hx hb dL_step_10 rfl (lv_at hl 3 rfl) ?_
    refine lv_aload_n hx hb dL_step_11 rfl (lv_at hl 1 rfl) ?_
    refine lv_iconst (v := (0 : Int32)) hx hb dL_step_12 (by decide) ?_
    obtain ⟨g2, h⟩ := gd_ok h
    refine sg_ild hx hb hK hq (gin_ok g2) dL_step_13 ?_
    obtain ⟨g3, h⟩ := gd_ok h
    refine lv_irm hx hb dL_step_14 (gnz_ok g3) ?_
    exact w15  a3 a4 a5 (irm a4 (F (Int32.toNatClampNeg (0 : Int32)))) Z F h _ _ _ _ h00 hI hN hq hS (lv_sub hl [0, 1, 2, 3, 4] rfl)
  · have h := ite_t h hc
    refine lv_iconst (v := (0 : Int32)) hx hb dL_step_6 (by decide) ?_
    refine lv_goto (tgt := 15) hx hb dL_step_7 (by decide) ?_
    exact w15  a3 a4 a5 (0 : Int32) Z F h _ _ _ _ h00 hI hN hq hS (lv_sub hl [0, 1, 2, 3, 4] rfl)
