/-! TABLES: every instruction stands where the listing says (written by a program) -/
theorem dk165_0 : [cL165_0, cL165_1, cL165_2, cL165_3].all (dOK prog_11_method_17_code 3) = true := by decide +kernel
theorem dk165 : dOK prog_11_method_17_code 3 cL165 = true := (dOK_gr (R := []) rfl dk165_0)
theorem dk166_0 : [cL166_0].all (dOK prog_11_method_25_code 1) = true := by decide +kernel
theorem dk166 : dOK prog_11_method_25_code 1 cL166 = true := (dOK_gr (R := []) rfl dk166_0)
theorem dk167_0 : [cL167_0, cL167_1, cL167_2, cL167_3, cL167_4, cL167_5, cL167_6, cL167_7].all (dOK prog_11_method_50_code 5) = true := by decide +kernel
theorem dk167_1 : [cL167_8].all (dOK prog_11_method_50_code 5) = true := by decide +kernel
theorem dk167 : dOK prog_11_method_50_code 5 cL167 = true := (dOK_gr (R := cL167_8 ++ ([])) (dOK_gr (R := []) rfl dk167_1) dk167_0)
theorem dk168_0 : [cL168_0, cL168_1, cL168_2].all (dOK prog_11_method_30_code 2) = true := by decide +kernel
theorem dk168 : dOK prog_11_method_30_code 2 cL168 = true := (dOK_gr (R := []) rfl dk168_0)
theorem dk169_0 : [cL169_0].all (dOK prog_11_method_33_code 3) = true := by decide +kernel
theorem dk169 : dOK prog_11_method_33_code 3 cL169 = true := (dOK_gr (R := []) rfl dk169_0)
theorem dk170_0 : [cL170_0].all (dOK prog_11_method_32_code 3) = true := by decide +kernel
theorem dk170 : dOK prog_11_method_32_code 3 cL170 = true := (dOK_gr (R := []) rfl dk170_0)
theorem dk171_0 : [cL171_0, cL171_1, cL171_2].all (dOK prog_11_method_47_code 3) = true := by decide +kernel
theorem dk171 : dOK prog_11_method_47_code 3 cL171 = true := (dOK_gr (R := []) rfl dk171_0)
theorem dk172_0 : [cL172_0, cL172_1, cL172_2].all (dOK prog_11_method_46_code 2) = true := by decide +kernel
theorem dk172 : dOK prog_11_method_46_code 2 cL172 = true := (dOK_gr (R := []) rfl dk172_0)
theorem dk173_0 : [cL173_0, cL173_1].all (dOK prog_11_method_36_code 2) = true := by decide +kernel
theorem dk173 : dOK prog_11_method_36_code 2 cL173 = true := (dOK_gr (R := []) rfl dk173_0)
theorem dk174_0 : [cL174_0].all (dOK prog_11_method_35_code 3) = true := by decide +kernel
theorem dk174 : dOK prog_11_method_35_code 3 cL174 = true := (dOK_gr (R := []) rfl dk174_0)
theorem dk175_0 : [cL175_0].all (dOK prog_11_method_4_code 1) = true := by decide +kernel
theorem dk175 : dOK prog_11_method_4_code 1 cL175 = true := (dOK_gr (R := []) rfl dk175_0)
theorem dk176_0 : [cL176_0, cL176_1, cL176_2].all (dOK prog_11_method_51_code 3) = true := by decide +kernel
theorem dk176 : dOK prog_11_method_51_code 3 cL176 = true := (dOK_gr (R := []) rfl dk176_0)
theorem dk177_0 : [cL177_0].all (dOK prog_11_method_26_code 2) = true := by decide +kernel
theorem dk177 : dOK prog_11_method_26_code 2 cL177 = true := (dOK_gr (R := []) rfl dk177_0)
theorem dk178_0 : [cL178_0, cL178_1].all (dOK prog_11_method_39_code 2) = true := by decide +kernel
theorem dk178 : dOK prog_11_method_39_code 2 cL178 = true := (dOK_gr (R := []) rfl dk178_0)
theorem dk179_0 : [cL179_0, cL179_1].all (dOK prog_11_method_38_code 2) = true := by decide +kernel
theorem dk179 : dOK prog_11_method_38_code 2 cL179 = true := (dOK_gr (R := []) rfl dk179_0)
theorem dk180_0 : [cL180_0, cL180_1, cL180_2, cL180_3, cL180_4, cL180_5, cL180_6, cL180_7].all (dOK prog_11_method_52_code 3) = true := by decide +kernel
theorem dk180 : dOK prog_11_method_52_code 3 cL180 = true := (dOK_gr (R := []) rfl dk180_0)
theorem dk181_0 : [cL181_0].all (dOK prog_11_method_27_code 2) = true := by decide +kernel
theorem dk181 : dOK prog_11_method_27_code 2 cL181 = true := (dOK_gr (R := []) rfl dk181_0)
theorem dk182_0 : [cL182_0, cL182_1, cL182_2].all (dOK prog_11_method_53_code 2) = true := by decide +kernel
theorem dk182 : dOK prog_11_method_53_code 2 cL182 = true := (dOK_gr (R := []) rfl dk182_0)
theorem dk183_0 : [cL183_0, cL183_1].all (dOK prog_11_method_55_code 3) = true := by decide +kernel
theorem dk183 : dOK prog_11_method_55_code 3 cL183 = true := (dOK_gr (R := []) rfl dk183_0)
theorem dk184_0 : [cL184_0, cL184_1, cL184_2].all (dOK prog_11_method_37_code 5) = true := by decide +kernel
theorem dk184 : dOK prog_11_method_37_code 5 cL184 = true := (dOK_gr (R := []) rfl dk184_0)
theorem dk185_0 : [cL185_0, cL185_1, cL185_2, cL185_3].all (dOK prog_11_method_56_code 4) = true := by decide +kernel
theorem dk185 : dOK prog_11_method_56_code 4 cL185 = true := (dOK_gr (R := []) rfl dk185_0)
theorem dk186_0 : [cL186_0, cL186_1, cL186_2, cL186_3, cL186_4].all (dOK prog_11_method_40_code 4) = true := by decide +kernel
theorem dk186 : dOK prog_11_method_40_code 4 cL186 = true := (dOK_gr (R := []) rfl dk186_0)
theorem dk187_0 : [cL187_0, cL187_1, cL187_2, cL187_3, cL187_4, cL187_5, cL187_6, cL187_7].all (dOK prog_11_method_41_code 7) = true := by decide +kernel
theorem dk187_1 : [cL187_8, cL187_9, cL187_10].all (dOK prog_11_method_41_code 7) = true := by decide +kernel
theorem dk187 : dOK prog_11_method_41_code 7 cL187 = true := (dOK_gr (R := cL187_8 ++ ( cL187_9 ++ ( cL187_10 ++ ([])))) (dOK_gr (R := []) rfl dk187_1) dk187_0)
theorem dk188_0 : [cL188_0].all (dOK prog_11_method_34_code 4) = true := by decide +kernel
theorem dk188 : dOK prog_11_method_34_code 4 cL188 = true := (dOK_gr (R := []) rfl dk188_0)
theorem dk189_0 : [cL189_0, cL189_1].all (dOK prog_11_method_31_code 2) = true := by decide +kernel
theorem dk189 : dOK prog_11_method_31_code 2 cL189 = true := (dOK_gr (R := []) rfl dk189_0)
theorem dk190_0 : [cL190_0, cL190_1, cL190_2].all (dOK prog_11_method_57_code 2) = true := by decide +kernel
theorem dk190 : dOK prog_11_method_57_code 2 cL190 = true := (dOK_gr (R := []) rfl dk190_0)
theorem dk191_0 : [cL191_0, cL191_1, cL191_2, cL191_3, cL191_4].all (dOK prog_11_method_43_code 3) = true := by decide +kernel
theorem dk191 : dOK prog_11_method_43_code 3 cL191 = true := (dOK_gr (R := []) rfl dk191_0)
theorem dk192_0 : [cL192_0, cL192_1, cL192_2, cL192_3, cL192_4, cL192_5].all (dOK prog_11_method_42_code 6) = true := by decide +kernel
theorem dk192 : dOK prog_11_method_42_code 6 cL192 = true := (dOK_gr (R := []) rfl dk192_0)
theorem dk193_0 : [cL193_0, cL193_1].all (dOK prog_11_method_48_code 3) = true := by decide +kernel
theorem dk193 : dOK prog_11_method_48_code 3 cL193 = true := (dOK_gr (R := []) rfl dk193_0)
theorem dk194_0 : [cL194_0, cL194_1, cL194_2, cL194_3].all (dOK prog_11_method_58_code 2) = true := by decide +kernel
theorem dk194 : dOK prog_11_method_58_code 2 cL194 = true := (dOK_gr (R := []) rfl dk194_0)
theorem dk195_0 : [cL195_0, cL195_1, cL195_2, cL195_3].all (dOK prog_11_method_60_code 4) = true := by decide +kernel
theorem dk195 : dOK prog_11_method_60_code 4 cL195 = true := (dOK_gr (R := []) rfl dk195_0)
theorem dk196_0 : [cL196_0, cL196_1].all (dOK prog_11_method_59_code 1) = true := by decide +kernel
theorem dk196 : dOK prog_11_method_59_code 1 cL196 = true := (dOK_gr (R := []) rfl dk196_0)
theorem dk197_0 : [cL197_0].all (dOK prog_11_method_54_code 4) = true := by decide +kernel
theorem dk197 : dOK prog_11_method_54_code 4 cL197 = true := (dOK_gr (R := []) rfl dk197_0)
theorem dk198_0 : [cL198_0, cL198_1, cL198_2, cL198_3, cL198_4].all (dOK prog_11_method_61_code 6) = true := by decide +kernel
theorem dk198 : dOK prog_11_method_61_code 6 cL198 = true := (dOK_gr (R := []) rfl dk198_0)
theorem dk199_0 : [cL199_0, cL199_1, cL199_2, cL199_3].all (dOK prog_11_method_62_code 2) = true := by decide +kernel
theorem dk199 : dOK prog_11_method_62_code 2 cL199 = true := (dOK_gr (R := []) rfl dk199_0)
theorem dk200_0 : [cL200_0, cL200_1, cL200_2].all (dOK prog_11_method_29_code 2) = true := by decide +kernel
theorem dk200 : dOK prog_11_method_29_code 2 cL200 = true := (dOK_gr (R := []) rfl dk200_0)
theorem dk201_0 : [cL201_0, cL201_1].all (dOK prog_11_method_63_code 2) = true := by decide +kernel
theorem dk201 : dOK prog_11_method_63_code 2 cL201 = true := (dOK_gr (R := []) rfl dk201_0)
theorem dk202_0 : [cL202_0, cL202_1, cL202_2, cL202_3, cL202_4, cL202_5, cL202_6, cL202_7].all (dOK prog_11_method_64_code 5) = true := by decide +kernel
theorem dk202_1 : [cL202_8, cL202_9, cL202_10].all (dOK prog_11_method_64_code 5) = true := by decide +kernel
theorem dk202 : dOK prog_11_method_64_code 5 cL202 = true := (dOK_gr (R := cL202_8 ++ ( cL202_9 ++ ( cL202_10 ++ ([])))) (dOK_gr (R := []) rfl dk202_1) dk202_0)
theorem dk203_0 : [cL203_0, cL203_1, cL203_2, cL203_3].all (dOK prog_11_method_44_code 2) = true := by decide +kernel
theorem dk203 : dOK prog_11_method_44_code 2 cL203 = true := (dOK_gr (R := []) rfl dk203_0)
theorem dk204_0 : [cL204_0, cL204_1].all (dOK prog_11_method_65_code 2) = true := by decide +kernel
theorem dk204 : dOK prog_11_method_65_code 2 cL204 = true := (dOK_gr (R := []) rfl dk204_0)
theorem dk205_0 : [cL205_0, cL205_1, cL205_2].all (dOK prog_11_method_45_code 2) = true := by decide +kernel
theorem dk205 : dOK prog_11_method_45_code 2 cL205 = true := (dOK_gr (R := []) rfl dk205_0)
theorem dk206_0 : [cL206_0, cL206_1, cL206_2, cL206_3, cL206_4].all (dOK prog_11_method_66_code 4) = true := by decide +kernel
theorem dk206 : dOK prog_11_method_66_code 4 cL206 = true := (dOK_gr (R := []) rfl dk206_0)
theorem dk207_0 : [cL207_0, cL207_1, cL207_2, cL207_3, cL207_4, cL207_5, cL207_6, cL207_7].all (dOK prog_11_method_72_code 10) = true := by decide +kernel
theorem dk207_1 : [cL207_8, cL207_9, cL207_10, cL207_11, cL207_12, cL207_13].all (dOK prog_11_method_72_code 10) = true := by decide +kernel
theorem dk207 : dOK prog_11_method_72_code 10 cL207 = true := (dOK_gr (R := cL207_8 ++ ( cL207_9 ++ ( cL207_10 ++ ( cL207_11 ++ ( cL207_12 ++ ( cL207_13 ++ ([]))))))) (dOK_gr (R := []) rfl dk207_1) dk207_0)
theorem dk208_0 : [cL208_0].all (dOK prog_11_method_28_code 1) = true := by decide +kernel
theorem dk208 : dOK prog_11_method_28_code 1 cL208 = true := (dOK_gr (R := []) rfl dk208_0)
theorem dk209_0 : [cL209_0].all (dOK prog_11_method_67_code 1) = true := by decide +kernel
theorem dk209 : dOK prog_11_method_67_code 1 cL209 = true := (dOK_gr (R := []) rfl dk209_0)
theorem dk210_0 : [cL210_0, cL210_1].all (dOK prog_11_method_69_code 4) = true := by decide +kernel
theorem dk210 : dOK prog_11_method_69_code 4 cL210 = true := (dOK_gr (R := []) rfl dk210_0)
theorem dk211_0 : [cL211_0, cL211_1, cL211_2, cL211_3].all (dOK prog_11_method_71_code 5) = true := by decide +kernel
theorem dk211 : dOK prog_11_method_71_code 5 cL211 = true := (dOK_gr (R := []) rfl dk211_0)
theorem dk212_0 : [cL212_0, cL212_1].all (dOK prog_11_method_68_code 2) = true := by decide +kernel
theorem dk212 : dOK prog_11_method_68_code 2 cL212 = true := (dOK_gr (R := []) rfl dk212_0)
theorem dk213_0 : [cL213_0, cL213_1].all (dOK prog_11_method_49_code 3) = true := by decide +kernel
theorem dk213 : dOK prog_11_method_49_code 3 cL213 = true := (dOK_gr (R := []) rfl dk213_0)
theorem dk214_0 : [cL214_0, cL214_1].all (dOK prog_11_method_70_code 4) = true := by decide +kernel
theorem dk214 : dOK prog_11_method_70_code 4 cL214 = true := (dOK_gr (R := []) rfl dk214_0)
theorem dk215_0 : [cL215_0, cL215_1, cL215_2, cL215_3, cL215_4, cL215_5, cL215_6].all (dOK prog_11_method_73_code 4) = true := by decide +kernel
theorem dk215 : dOK prog_11_method_73_code 4 cL215 = true := (dOK_gr (R := []) rfl dk215_0)
theorem dk216_0 : [cL216_0, cL216_1, cL216_2, cL216_3, cL216_4, cL216_5].all (dOK prog_11_method_74_code 6) = true := by decide +kernel
theorem dk216 : dOK prog_11_method_74_code 6 cL216 = true := (dOK_gr (R := []) rfl dk216_0)
theorem dk217_0 : [cL217_0, cL217_1, cL217_2, cL217_3, cL217_4, cL217_5, cL217_6, cL217_7].all (dOK prog_11_method_75_code 5) = true := by decide +kernel
theorem dk217 : dOK prog_11_method_75_code 5 cL217 = true := (dOK_gr (R := []) rfl dk217_0)
theorem dk218_0 : [cL218_0, cL218_1].all (dOK prog_11_method_76_code 2) = true := by decide +kernel
theorem dk218 : dOK prog_11_method_76_code 2 cL218 = true := (dOK_gr (R := []) rfl dk218_0)
theorem dk219_0 : [cL219_0, cL219_1, cL219_2, cL219_3, cL219_4].all (dOK prog_11_method_78_code 4) = true := by decide +kernel
theorem dk219 : dOK prog_11_method_78_code 4 cL219 = true := (dOK_gr (R := []) rfl dk219_0)
theorem dk220_0 : [cL220_0, cL220_1, cL220_2, cL220_3, cL220_4, cL220_5, cL220_6].all (dOK prog_11_method_77_code 6) = true := by decide +kernel
theorem dk220 : dOK prog_11_method_77_code 6 cL220 = true := (dOK_gr (R := []) rfl dk220_0)
theorem dk221_0 : [cL221_0, cL221_1, cL221_2, cL221_3, cL221_4, cL221_5].all (dOK prog_11_method_79_code 4) = true := by decide +kernel
theorem dk221 : dOK prog_11_method_79_code 4 cL221 = true := (dOK_gr (R := []) rfl dk221_0)
theorem dk222_0 : [cL222_0, cL222_1, cL222_2, cL222_3, cL222_4, cL222_5, cL222_6, cL222_7].all (dOK prog_11_method_81_code 8) = true := by decide +kernel
theorem dk222_1 : [cL222_8, cL222_9, cL222_10].all (dOK prog_11_method_81_code 8) = true := by decide +kernel
theorem dk222 : dOK prog_11_method_81_code 8 cL222 = true := (dOK_gr (R := cL222_8 ++ ( cL222_9 ++ ( cL222_10 ++ ([])))) (dOK_gr (R := []) rfl dk222_1) dk222_0)
theorem dk223_0 : [cL223_0, cL223_1, cL223_2, cL223_3, cL223_4].all (dOK prog_11_method_80_code 6) = true := by decide +kernel
theorem dk223 : dOK prog_11_method_80_code 6 cL223 = true := (dOK_gr (R := []) rfl dk223_0)
theorem dk224_0 : [cL224_0, cL224_1, cL224_2, cL224_3].all (dOK prog_11_method_85_code 4) = true := by decide +kernel
theorem dk224 : dOK prog_11_method_85_code 4 cL224 = true := (dOK_gr (R := []) rfl dk224_0)
theorem dk225_0 : [cL225_0, cL225_1, cL225_2, cL225_3, cL225_4, cL225_5, cL225_6, cL225_7].all (dOK prog_11_method_84_code 10) = true := by decide +kernel
theorem dk225_1 : [cL225_8, cL225_9, cL225_10, cL225_11, cL225_12, cL225_13, cL225_14, cL225_15].all (dOK prog_11_method_84_code 10) = true := by decide +kernel
theorem dk225_2 : [cL225_16].all (dOK prog_11_method_84_code 10) = true := by decide +kernel
theorem dk225 : dOK prog_11_method_84_code 10 cL225 = true := (dOK_gr (R := cL225_8 ++ ( cL225_9 ++ ( cL225_10 ++ ( cL225_11 ++ ( cL225_12 ++ ( cL225_13 ++ ( cL225_14 ++ ( cL225_15 ++ ( cL225_16 ++ ([])))))))))) (dOK_gr (R := cL225_16 ++ ([])) (dOK_gr (R := []) rfl dk225_2) dk225_1) dk225_0)
theorem dk226_0 : [cL226_0, cL226_1].all (dOK prog_11_method_83_code 7) = true := by decide +kernel
theorem dk226 : dOK prog_11_method_83_code 7 cL226 = true := (dOK_gr (R := []) rfl dk226_0)
theorem dk227_0 : [cL227_0, cL227_1, cL227_2].all (dOK prog_11_method_82_code 10) = true := by decide +kernel
theorem dk227 : dOK prog_11_method_82_code 10 cL227 = true := (dOK_gr (R := []) rfl dk227_0)
theorem dk228_0 : [cL228_0, cL228_1, cL228_2].all (dOK prog_11_method_86_code 3) = true := by decide +kernel
theorem dk228 : dOK prog_11_method_86_code 3 cL228 = true := (dOK_gr (R := []) rfl dk228_0)
theorem dk229_0 : [cL229_0, cL229_1, cL229_2, cL229_3, cL229_4, cL229_5, cL229_6, cL229_7].all (dOK prog_11_method_87_code 8) = true := by decide +kernel
theorem dk229_1 : [cL229_8, cL229_9].all (dOK prog_11_method_87_code 8) = true := by decide +kernel
theorem dk229 : dOK prog_11_method_87_code 8 cL229 = true := (dOK_gr (R := cL229_8 ++ ( cL229_9 ++ ([]))) (dOK_gr (R := []) rfl dk229_1) dk229_0)
theorem dk230_0 : [cL230_0, cL230_1, cL230_2].all (dOK prog_11_method_89_code 3) = true := by decide +kernel
theorem dk230 : dOK prog_11_method_89_code 3 cL230 = true := (dOK_gr (R := []) rfl dk230_0)
theorem dk231_0 : [cL231_0, cL231_1].all (dOK prog_11_method_88_code 4) = true := by decide +kernel
theorem dk231 : dOK prog_11_method_88_code 4 cL231 = true := (dOK_gr (R := []) rfl dk231_0)
theorem dk232_0 : [cL232_0, cL232_1, cL232_2].all (dOK prog_11_method_90_code 2) = true := by decide +kernel
theorem dk232 : dOK prog_11_method_90_code 2 cL232 = true := (dOK_gr (R := []) rfl dk232_0)
theorem dk233_0 : [cL233_0, cL233_1, cL233_2, cL233_3, cL233_4].all (dOK prog_11_method_92_code 5) = true := by decide +kernel
theorem dk233 : dOK prog_11_method_92_code 5 cL233 = true := (dOK_gr (R := []) rfl dk233_0)
theorem dk234_0 : [cL234_0, cL234_1].all (dOK prog_11_method_91_code 2) = true := by decide +kernel
theorem dk234 : dOK prog_11_method_91_code 2 cL234 = true := (dOK_gr (R := []) rfl dk234_0)
theorem dk235_0 : [cL235_0, cL235_1, cL235_2, cL235_3, cL235_4, cL235_5].all (dOK prog_11_method_93_code 4) = true := by decide +kernel
theorem dk235 : dOK prog_11_method_93_code 4 cL235 = true := (dOK_gr (R := []) rfl dk235_0)
theorem dk236_0 : [cL236_0, cL236_1, cL236_2, cL236_3, cL236_4, cL236_5, cL236_6, cL236_7].all (dOK prog_11_method_94_code 11) = true := by decide +kernel
theorem dk236_1 : [cL236_8, cL236_9, cL236_10, cL236_11, cL236_12, cL236_13, cL236_14, cL236_15].all (dOK prog_11_method_94_code 11) = true := by decide +kernel
theorem dk236_2 : [cL236_16].all (dOK prog_11_method_94_code 11) = true := by decide +kernel
theorem dk236 : dOK prog_11_method_94_code 11 cL236 = true := (dOK_gr (R := cL236_8 ++ ( cL236_9 ++ ( cL236_10 ++ ( cL236_11 ++ ( cL236_12 ++ ( cL236_13 ++ ( cL236_14 ++ ( cL236_15 ++ ( cL236_16 ++ ([])))))))))) (dOK_gr (R := cL236_16 ++ ([])) (dOK_gr (R := []) rfl dk236_2) dk236_1) dk236_0)
