/-! TABLES: every instruction stands where the listing says (written by a program) -/
theorem dg165_0 : dOK prog_11_method_17_code 3 cG165_0 = true := by decide +kernel
theorem dk165 : dOK prog_11_method_17_code 3 cL165 = true := dOK_app dg165_0 rfl
theorem dg166_0 : dOK prog_11_method_25_code 1 cG166_0 = true := by decide +kernel
theorem dk166 : dOK prog_11_method_25_code 1 cL166 = true := dOK_app dg166_0 rfl
theorem dg167_0 : dOK prog_11_method_50_code 5 cG167_0 = true := dOK_fl (Ls := [cL167_0, cL167_1, cL167_2, cL167_3, cL167_4, cL167_5, cL167_6, cL167_7]) rfl (dGo_ok (k := 0) (m := 200) (j := 0) (by decide +kernel))
theorem dg167_1 : dOK prog_11_method_50_code 5 cG167_1 = true := dOK_fl (Ls := [cL167_8]) rfl (dGo_ok (k := 128) (m := 200) (j := 0) (by decide +kernel))
theorem dk167 : dOK prog_11_method_50_code 5 cL167 = true := dOK_app dg167_0 (dOK_app dg167_1 rfl)
theorem dg168_0 : dOK prog_11_method_30_code 2 cG168_0 = true := by decide +kernel
theorem dk168 : dOK prog_11_method_30_code 2 cL168 = true := dOK_app dg168_0 rfl
theorem dg169_0 : dOK prog_11_method_33_code 3 cG169_0 = true := by decide +kernel
theorem dk169 : dOK prog_11_method_33_code 3 cL169 = true := dOK_app dg169_0 rfl
theorem dg170_0 : dOK prog_11_method_32_code 3 cG170_0 = true := by decide +kernel
theorem dk170 : dOK prog_11_method_32_code 3 cL170 = true := dOK_app dg170_0 rfl
theorem dg171_0 : dOK prog_11_method_47_code 3 cG171_0 = true := by decide +kernel
theorem dk171 : dOK prog_11_method_47_code 3 cL171 = true := dOK_app dg171_0 rfl
theorem dg172_0 : dOK prog_11_method_46_code 2 cG172_0 = true := by decide +kernel
theorem dk172 : dOK prog_11_method_46_code 2 cL172 = true := dOK_app dg172_0 rfl
theorem dg173_0 : dOK prog_11_method_36_code 2 cG173_0 = true := by decide +kernel
theorem dk173 : dOK prog_11_method_36_code 2 cL173 = true := dOK_app dg173_0 rfl
theorem dg174_0 : dOK prog_11_method_35_code 3 cG174_0 = true := by decide +kernel
theorem dk174 : dOK prog_11_method_35_code 3 cL174 = true := dOK_app dg174_0 rfl
theorem dg175_0 : dOK prog_11_method_4_code 1 cG175_0 = true := by decide +kernel
theorem dk175 : dOK prog_11_method_4_code 1 cL175 = true := dOK_app dg175_0 rfl
theorem dg176_0 : dOK prog_11_method_51_code 3 cG176_0 = true := by decide +kernel
theorem dk176 : dOK prog_11_method_51_code 3 cL176 = true := dOK_app dg176_0 rfl
theorem dg177_0 : dOK prog_11_method_26_code 2 cG177_0 = true := by decide +kernel
theorem dk177 : dOK prog_11_method_26_code 2 cL177 = true := dOK_app dg177_0 rfl
theorem dg178_0 : dOK prog_11_method_39_code 2 cG178_0 = true := by decide +kernel
theorem dk178 : dOK prog_11_method_39_code 2 cL178 = true := dOK_app dg178_0 rfl
theorem dg179_0 : dOK prog_11_method_38_code 2 cG179_0 = true := by decide +kernel
theorem dk179 : dOK prog_11_method_38_code 2 cL179 = true := dOK_app dg179_0 rfl
theorem dg180_0 : dOK prog_11_method_52_code 3 cG180_0 = true := dOK_fl (Ls := [cL180_0, cL180_1, cL180_2, cL180_3, cL180_4, cL180_5, cL180_6, cL180_7]) rfl (dGo_ok (k := 0) (m := 200) (j := 0) (by decide +kernel))
theorem dk180 : dOK prog_11_method_52_code 3 cL180 = true := dOK_app dg180_0 rfl
theorem dg181_0 : dOK prog_11_method_27_code 2 cG181_0 = true := by decide +kernel
theorem dk181 : dOK prog_11_method_27_code 2 cL181 = true := dOK_app dg181_0 rfl
theorem dg182_0 : dOK prog_11_method_53_code 2 cG182_0 = true := by decide +kernel
theorem dk182 : dOK prog_11_method_53_code 2 cL182 = true := dOK_app dg182_0 rfl
theorem dg183_0 : dOK prog_11_method_55_code 3 cG183_0 = true := by decide +kernel
theorem dk183 : dOK prog_11_method_55_code 3 cL183 = true := dOK_app dg183_0 rfl
theorem dg184_0 : dOK prog_11_method_37_code 5 cG184_0 = true := by decide +kernel
theorem dk184 : dOK prog_11_method_37_code 5 cL184 = true := dOK_app dg184_0 rfl
theorem dg185_0 : dOK prog_11_method_56_code 4 cG185_0 = true := by decide +kernel
theorem dk185 : dOK prog_11_method_56_code 4 cL185 = true := dOK_app dg185_0 rfl
theorem dg186_0 : dOK prog_11_method_40_code 4 cG186_0 = true := dOK_fl (Ls := [cL186_0, cL186_1, cL186_2, cL186_3, cL186_4]) rfl (dGo_ok (k := 0) (m := 200) (j := 0) (by decide +kernel))
theorem dk186 : dOK prog_11_method_40_code 4 cL186 = true := dOK_app dg186_0 rfl
theorem dg187_0 : dOK prog_11_method_41_code 7 cG187_0 = true := dOK_fl (Ls := [cL187_0, cL187_1, cL187_2, cL187_3, cL187_4, cL187_5, cL187_6, cL187_7]) rfl (dGo_ok (k := 0) (m := 200) (j := 0) (by decide +kernel))
theorem dg187_1 : dOK prog_11_method_41_code 7 cG187_1 = true := dOK_fl (Ls := [cL187_8, cL187_9, cL187_10]) rfl (dGo_ok (k := 128) (m := 200) (j := 0) (by decide +kernel))
theorem dk187 : dOK prog_11_method_41_code 7 cL187 = true := dOK_app dg187_0 (dOK_app dg187_1 rfl)
theorem dg188_0 : dOK prog_11_method_34_code 4 cG188_0 = true := by decide +kernel
theorem dk188 : dOK prog_11_method_34_code 4 cL188 = true := dOK_app dg188_0 rfl
theorem dg189_0 : dOK prog_11_method_31_code 2 cG189_0 = true := by decide +kernel
theorem dk189 : dOK prog_11_method_31_code 2 cL189 = true := dOK_app dg189_0 rfl
theorem dg190_0 : dOK prog_11_method_57_code 2 cG190_0 = true := by decide +kernel
theorem dk190 : dOK prog_11_method_57_code 2 cL190 = true := dOK_app dg190_0 rfl
theorem dg191_0 : dOK prog_11_method_43_code 3 cG191_0 = true := dOK_fl (Ls := [cL191_0, cL191_1, cL191_2, cL191_3, cL191_4]) rfl (dGo_ok (k := 0) (m := 200) (j := 0) (by decide +kernel))
theorem dk191 : dOK prog_11_method_43_code 3 cL191 = true := dOK_app dg191_0 rfl
theorem dg192_0 : dOK prog_11_method_42_code 6 cG192_0 = true := dOK_fl (Ls := [cL192_0, cL192_1, cL192_2, cL192_3, cL192_4, cL192_5]) rfl (dGo_ok (k := 0) (m := 200) (j := 0) (by decide +kernel))
theorem dk192 : dOK prog_11_method_42_code 6 cL192 = true := dOK_app dg192_0 rfl
theorem dg193_0 : dOK prog_11_method_48_code 3 cG193_0 = true := by decide +kernel
theorem dk193 : dOK prog_11_method_48_code 3 cL193 = true := dOK_app dg193_0 rfl
theorem dg194_0 : dOK prog_11_method_58_code 2 cG194_0 = true := by decide +kernel
theorem dk194 : dOK prog_11_method_58_code 2 cL194 = true := dOK_app dg194_0 rfl
theorem dg195_0 : dOK prog_11_method_60_code 4 cG195_0 = true := by decide +kernel
theorem dk195 : dOK prog_11_method_60_code 4 cL195 = true := dOK_app dg195_0 rfl
theorem dg196_0 : dOK prog_11_method_59_code 1 cG196_0 = true := by decide +kernel
theorem dk196 : dOK prog_11_method_59_code 1 cL196 = true := dOK_app dg196_0 rfl
theorem dg197_0 : dOK prog_11_method_54_code 4 cG197_0 = true := by decide +kernel
theorem dk197 : dOK prog_11_method_54_code 4 cL197 = true := dOK_app dg197_0 rfl
theorem dg198_0 : dOK prog_11_method_61_code 6 cG198_0 = true := dOK_fl (Ls := [cL198_0, cL198_1, cL198_2, cL198_3, cL198_4]) rfl (dGo_ok (k := 0) (m := 200) (j := 0) (by decide +kernel))
theorem dk198 : dOK prog_11_method_61_code 6 cL198 = true := dOK_app dg198_0 rfl
theorem dg199_0 : dOK prog_11_method_62_code 2 cG199_0 = true := by decide +kernel
theorem dk199 : dOK prog_11_method_62_code 2 cL199 = true := dOK_app dg199_0 rfl
theorem dg200_0 : dOK prog_11_method_29_code 2 cG200_0 = true := by decide +kernel
theorem dk200 : dOK prog_11_method_29_code 2 cL200 = true := dOK_app dg200_0 rfl
theorem dg201_0 : dOK prog_11_method_63_code 2 cG201_0 = true := by decide +kernel
theorem dk201 : dOK prog_11_method_63_code 2 cL201 = true := dOK_app dg201_0 rfl
theorem dg202_0 : dOK prog_11_method_64_code 5 cG202_0 = true := dOK_fl (Ls := [cL202_0, cL202_1, cL202_2, cL202_3, cL202_4, cL202_5, cL202_6, cL202_7]) rfl (dGo_ok (k := 0) (m := 200) (j := 0) (by decide +kernel))
theorem dg202_1 : dOK prog_11_method_64_code 5 cG202_1 = true := dOK_fl (Ls := [cL202_8, cL202_9, cL202_10]) rfl (dGo_ok (k := 128) (m := 200) (j := 0) (by decide +kernel))
theorem dk202 : dOK prog_11_method_64_code 5 cL202 = true := dOK_app dg202_0 (dOK_app dg202_1 rfl)
theorem dg203_0 : dOK prog_11_method_44_code 2 cG203_0 = true := dOK_fl (Ls := [cL203_0, cL203_1, cL203_2, cL203_3]) rfl (dGo_ok (k := 0) (m := 200) (j := 0) (by decide +kernel))
theorem dk203 : dOK prog_11_method_44_code 2 cL203 = true := dOK_app dg203_0 rfl
theorem dg204_0 : dOK prog_11_method_65_code 2 cG204_0 = true := by decide +kernel
theorem dk204 : dOK prog_11_method_65_code 2 cL204 = true := dOK_app dg204_0 rfl
theorem dg205_0 : dOK prog_11_method_45_code 2 cG205_0 = true := by decide +kernel
theorem dk205 : dOK prog_11_method_45_code 2 cL205 = true := dOK_app dg205_0 rfl
theorem dg206_0 : dOK prog_11_method_66_code 4 cG206_0 = true := dOK_fl (Ls := [cL206_0, cL206_1, cL206_2, cL206_3, cL206_4]) rfl (dGo_ok (k := 0) (m := 200) (j := 0) (by decide +kernel))
theorem dk206 : dOK prog_11_method_66_code 4 cL206 = true := dOK_app dg206_0 rfl
theorem dg207_0 : dOK prog_11_method_72_code 10 cG207_0 = true := dOK_fl (Ls := [cL207_0, cL207_1, cL207_2, cL207_3, cL207_4, cL207_5, cL207_6, cL207_7]) rfl (dGo_ok (k := 0) (m := 200) (j := 0) (by decide +kernel))
theorem dg207_1 : dOK prog_11_method_72_code 10 cG207_1 = true := dOK_fl (Ls := [cL207_8, cL207_9, cL207_10, cL207_11, cL207_12, cL207_13]) rfl (dGo_ok (k := 128) (m := 200) (j := 0) (by decide +kernel))
theorem dk207 : dOK prog_11_method_72_code 10 cL207 = true := dOK_app dg207_0 (dOK_app dg207_1 rfl)
theorem dg208_0 : dOK prog_11_method_28_code 1 cG208_0 = true := by decide +kernel
theorem dk208 : dOK prog_11_method_28_code 1 cL208 = true := dOK_app dg208_0 rfl
theorem dg209_0 : dOK prog_11_method_67_code 1 cG209_0 = true := by decide +kernel
theorem dk209 : dOK prog_11_method_67_code 1 cL209 = true := dOK_app dg209_0 rfl
theorem dg210_0 : dOK prog_11_method_69_code 4 cG210_0 = true := by decide +kernel
theorem dk210 : dOK prog_11_method_69_code 4 cL210 = true := dOK_app dg210_0 rfl
theorem dg211_0 : dOK prog_11_method_71_code 5 cG211_0 = true := by decide +kernel
theorem dk211 : dOK prog_11_method_71_code 5 cL211 = true := dOK_app dg211_0 rfl
theorem dg212_0 : dOK prog_11_method_68_code 2 cG212_0 = true := by decide +kernel
theorem dk212 : dOK prog_11_method_68_code 2 cL212 = true := dOK_app dg212_0 rfl
theorem dg213_0 : dOK prog_11_method_49_code 3 cG213_0 = true := by decide +kernel
theorem dk213 : dOK prog_11_method_49_code 3 cL213 = true := dOK_app dg213_0 rfl
theorem dg214_0 : dOK prog_11_method_70_code 4 cG214_0 = true := by decide +kernel
theorem dk214 : dOK prog_11_method_70_code 4 cL214 = true := dOK_app dg214_0 rfl
theorem dg215_0 : dOK prog_11_method_73_code 4 cG215_0 = true := dOK_fl (Ls := [cL215_0, cL215_1, cL215_2, cL215_3, cL215_4, cL215_5, cL215_6]) rfl (dGo_ok (k := 0) (m := 200) (j := 0) (by decide +kernel))
theorem dk215 : dOK prog_11_method_73_code 4 cL215 = true := dOK_app dg215_0 rfl
theorem dg216_0 : dOK prog_11_method_74_code 6 cG216_0 = true := dOK_fl (Ls := [cL216_0, cL216_1, cL216_2, cL216_3, cL216_4, cL216_5]) rfl (dGo_ok (k := 0) (m := 200) (j := 0) (by decide +kernel))
theorem dk216 : dOK prog_11_method_74_code 6 cL216 = true := dOK_app dg216_0 rfl
theorem dg217_0 : dOK prog_11_method_75_code 5 cG217_0 = true := dOK_fl (Ls := [cL217_0, cL217_1, cL217_2, cL217_3, cL217_4, cL217_5, cL217_6, cL217_7]) rfl (dGo_ok (k := 0) (m := 200) (j := 0) (by decide +kernel))
theorem dk217 : dOK prog_11_method_75_code 5 cL217 = true := dOK_app dg217_0 rfl
theorem dg218_0 : dOK prog_11_method_76_code 2 cG218_0 = true := by decide +kernel
theorem dk218 : dOK prog_11_method_76_code 2 cL218 = true := dOK_app dg218_0 rfl
theorem dg219_0 : dOK prog_11_method_78_code 4 cG219_0 = true := dOK_fl (Ls := [cL219_0, cL219_1, cL219_2, cL219_3, cL219_4]) rfl (dGo_ok (k := 0) (m := 200) (j := 0) (by decide +kernel))
theorem dk219 : dOK prog_11_method_78_code 4 cL219 = true := dOK_app dg219_0 rfl
theorem dg220_0 : dOK prog_11_method_77_code 6 cG220_0 = true := dOK_fl (Ls := [cL220_0, cL220_1, cL220_2, cL220_3, cL220_4, cL220_5, cL220_6]) rfl (dGo_ok (k := 0) (m := 200) (j := 0) (by decide +kernel))
theorem dk220 : dOK prog_11_method_77_code 6 cL220 = true := dOK_app dg220_0 rfl
theorem dg221_0 : dOK prog_11_method_79_code 4 cG221_0 = true := dOK_fl (Ls := [cL221_0, cL221_1, cL221_2, cL221_3, cL221_4, cL221_5]) rfl (dGo_ok (k := 0) (m := 200) (j := 0) (by decide +kernel))
theorem dk221 : dOK prog_11_method_79_code 4 cL221 = true := dOK_app dg221_0 rfl
theorem dg222_0 : dOK prog_11_method_81_code 8 cG222_0 = true := dOK_fl (Ls := [cL222_0, cL222_1, cL222_2, cL222_3, cL222_4, cL222_5, cL222_6, cL222_7]) rfl (dGo_ok (k := 0) (m := 200) (j := 0) (by decide +kernel))
theorem dg222_1 : dOK prog_11_method_81_code 8 cG222_1 = true := dOK_fl (Ls := [cL222_8, cL222_9, cL222_10]) rfl (dGo_ok (k := 128) (m := 200) (j := 0) (by decide +kernel))
theorem dk222 : dOK prog_11_method_81_code 8 cL222 = true := dOK_app dg222_0 (dOK_app dg222_1 rfl)
theorem dg223_0 : dOK prog_11_method_80_code 6 cG223_0 = true := dOK_fl (Ls := [cL223_0, cL223_1, cL223_2, cL223_3, cL223_4]) rfl (dGo_ok (k := 0) (m := 200) (j := 0) (by decide +kernel))
theorem dk223 : dOK prog_11_method_80_code 6 cL223 = true := dOK_app dg223_0 rfl
theorem dg224_0 : dOK prog_11_method_85_code 4 cG224_0 = true := by decide +kernel
theorem dk224 : dOK prog_11_method_85_code 4 cL224 = true := dOK_app dg224_0 rfl
theorem dg225_0 : dOK prog_11_method_84_code 10 cG225_0 = true := dOK_fl (Ls := [cL225_0, cL225_1, cL225_2, cL225_3, cL225_4, cL225_5, cL225_6, cL225_7]) rfl (dGo_ok (k := 0) (m := 200) (j := 0) (by decide +kernel))
theorem dg225_1 : dOK prog_11_method_84_code 10 cG225_1 = true := dOK_fl (Ls := [cL225_8, cL225_9, cL225_10, cL225_11, cL225_12, cL225_13, cL225_14, cL225_15]) rfl (dGo_ok (k := 128) (m := 200) (j := 0) (by decide +kernel))
theorem dg225_2 : dOK prog_11_method_84_code 10 cG225_2 = true := dOK_fl (Ls := [cL225_16]) rfl (dGo_ok (k := 256) (m := 200) (j := 0) (by decide +kernel))
theorem dk225 : dOK prog_11_method_84_code 10 cL225 = true := dOK_app dg225_0 (dOK_app dg225_1 (dOK_app dg225_2 rfl))
theorem dg226_0 : dOK prog_11_method_83_code 7 cG226_0 = true := by decide +kernel
theorem dk226 : dOK prog_11_method_83_code 7 cL226 = true := dOK_app dg226_0 rfl
theorem dg227_0 : dOK prog_11_method_82_code 10 cG227_0 = true := by decide +kernel
theorem dk227 : dOK prog_11_method_82_code 10 cL227 = true := dOK_app dg227_0 rfl
theorem dg228_0 : dOK prog_11_method_86_code 3 cG228_0 = true := by decide +kernel
theorem dk228 : dOK prog_11_method_86_code 3 cL228 = true := dOK_app dg228_0 rfl
theorem dg229_0 : dOK prog_11_method_87_code 8 cG229_0 = true := dOK_fl (Ls := [cL229_0, cL229_1, cL229_2, cL229_3, cL229_4, cL229_5, cL229_6, cL229_7]) rfl (dGo_ok (k := 0) (m := 200) (j := 0) (by decide +kernel))
theorem dg229_1 : dOK prog_11_method_87_code 8 cG229_1 = true := dOK_fl (Ls := [cL229_8, cL229_9]) rfl (dGo_ok (k := 128) (m := 200) (j := 0) (by decide +kernel))
theorem dk229 : dOK prog_11_method_87_code 8 cL229 = true := dOK_app dg229_0 (dOK_app dg229_1 rfl)
theorem dg230_0 : dOK prog_11_method_89_code 3 cG230_0 = true := by decide +kernel
theorem dk230 : dOK prog_11_method_89_code 3 cL230 = true := dOK_app dg230_0 rfl
theorem dg231_0 : dOK prog_11_method_88_code 4 cG231_0 = true := by decide +kernel
theorem dk231 : dOK prog_11_method_88_code 4 cL231 = true := dOK_app dg231_0 rfl
theorem dg232_0 : dOK prog_11_method_90_code 2 cG232_0 = true := by decide +kernel
theorem dk232 : dOK prog_11_method_90_code 2 cL232 = true := dOK_app dg232_0 rfl
theorem dg233_0 : dOK prog_11_method_92_code 5 cG233_0 = true := dOK_fl (Ls := [cL233_0, cL233_1, cL233_2, cL233_3, cL233_4]) rfl (dGo_ok (k := 0) (m := 200) (j := 0) (by decide +kernel))
theorem dk233 : dOK prog_11_method_92_code 5 cL233 = true := dOK_app dg233_0 rfl
theorem dg234_0 : dOK prog_11_method_91_code 2 cG234_0 = true := by decide +kernel
theorem dk234 : dOK prog_11_method_91_code 2 cL234 = true := dOK_app dg234_0 rfl
theorem dg235_0 : dOK prog_11_method_93_code 4 cG235_0 = true := dOK_fl (Ls := [cL235_0, cL235_1, cL235_2, cL235_3, cL235_4, cL235_5]) rfl (dGo_ok (k := 0) (m := 200) (j := 0) (by decide +kernel))
theorem dk235 : dOK prog_11_method_93_code 4 cL235 = true := dOK_app dg235_0 rfl
theorem dg236_0 : dOK prog_11_method_94_code 11 cG236_0 = true := dOK_fl (Ls := [cL236_0, cL236_1, cL236_2, cL236_3, cL236_4, cL236_5, cL236_6, cL236_7]) rfl (dGo_ok (k := 0) (m := 200) (j := 0) (by decide +kernel))
theorem dg236_1 : dOK prog_11_method_94_code 11 cG236_1 = true := dOK_fl (Ls := [cL236_8, cL236_9, cL236_10, cL236_11, cL236_12, cL236_13, cL236_14, cL236_15]) rfl (dGo_ok (k := 128) (m := 200) (j := 0) (by decide +kernel))
theorem dg236_2 : dOK prog_11_method_94_code 11 cG236_2 = true := dOK_fl (Ls := [cL236_16]) rfl (dGo_ok (k := 256) (m := 200) (j := 0) (by decide +kernel))
theorem dk236 : dOK prog_11_method_94_code 11 cL236 = true := dOK_app dg236_0 (dOK_app dg236_1 (dOK_app dg236_2 rfl))
