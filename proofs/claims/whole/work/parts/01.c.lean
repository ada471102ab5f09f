theorem lw_in1 {q : MethodName × Nat} (h : q ∈ lw_privs_1) : q ∈ lw_privs := show q ∈ lw_privs_1 ++ (lw_privs_2 ++ (lw_privs_3 ++ (lw_privs_4 ++ (lw_privs_5)))) from List.mem_append.mpr (Or.inl h)
theorem lw_in2 {q : MethodName × Nat} (h : q ∈ lw_privs_2) : q ∈ lw_privs := show q ∈ lw_privs_1 ++ (lw_privs_2 ++ (lw_privs_3 ++ (lw_privs_4 ++ (lw_privs_5)))) from List.mem_append.mpr (Or.inr (List.mem_append.mpr (Or.inl h)))
theorem lw_in3 {q : MethodName × Nat} (h : q ∈ lw_privs_3) : q ∈ lw_privs := show q ∈ lw_privs_1 ++ (lw_privs_2 ++ (lw_privs_3 ++ (lw_privs_4 ++ (lw_privs_5)))) from List.mem_append.mpr (Or.inr (List.mem_append.mpr (Or.inr (List.mem_append.mpr (Or.inl h)))))
theorem lw_in4 {q : MethodName × Nat} (h : q ∈ lw_privs_4) : q ∈ lw_privs := show q ∈ lw_privs_1 ++ (lw_privs_2 ++ (lw_privs_3 ++ (lw_privs_4 ++ (lw_privs_5)))) from List.mem_append.mpr (Or.inr (List.mem_append.mpr (Or.inr (List.mem_append.mpr (Or.inr (List.mem_append.mpr (Or.inl h)))))))
theorem lw_in5 {q : MethodName × Nat} (h : q ∈ lw_privs_5) : q ∈ lw_privs := show q ∈ lw_privs_1 ++ (lw_privs_2 ++ (lw_privs_3 ++ (lw_privs_4 ++ (lw_privs_5)))) from List.mem_append.mpr (Or.inr (List.mem_append.mpr (Or.inr (List.mem_append.mpr (Or.inr (List.mem_append.mpr (Or.inr (h))))))))
theorem tb_m1 {w : Cond} (h : w ∈ tables_1_1) : w ∈ lw_tbl := tb_t (show w ∈ tables_1_1 ++ (tables_1_2 ++ (tables_1_3 ++ (tables_1_4 ++ (tables_1_5 ++ (tables_1_6 ++ tables_1_7))))) from tb_mem_append_l h)
theorem tb_m2 {w : Cond} (h : w ∈ tables_1_2) : w ∈ lw_tbl := tb_t (show w ∈ tables_1_1 ++ (tables_1_2 ++ (tables_1_3 ++ (tables_1_4 ++ (tables_1_5 ++ (tables_1_6 ++ tables_1_7))))) from tb_mem_append_r (tb_mem_append_l h))
theorem tb_m3 {w : Cond} (h : w ∈ tables_1_3) : w ∈ lw_tbl := tb_t (show w ∈ tables_1_1 ++ (tables_1_2 ++ (tables_1_3 ++ (tables_1_4 ++ (tables_1_5 ++ (tables_1_6 ++ tables_1_7))))) from tb_mem_append_r (tb_mem_append_r (tb_mem_append_l h)))
theorem tb_m4 {w : Cond} (h : w ∈ tables_1_4) : w ∈ lw_tbl := tb_t (show w ∈ tables_1_1 ++ (tables_1_2 ++ (tables_1_3 ++ (tables_1_4 ++ (tables_1_5 ++ (tables_1_6 ++ tables_1_7))))) from tb_mem_append_r (tb_mem_append_r (tb_mem_append_r (tb_mem_append_l h))))
theorem tb_m5 {w : Cond} (h : w ∈ tables_1_5) : w ∈ lw_tbl := tb_t (show w ∈ tables_1_1 ++ (tables_1_2 ++ (tables_1_3 ++ (tables_1_4 ++ (tables_1_5 ++ (tables_1_6 ++ tables_1_7))))) from tb_mem_append_r (tb_mem_append_r (tb_mem_append_r (tb_mem_append_r (tb_mem_append_l h)))))
theorem tb_m6 {w : Cond} (h : w ∈ tables_1_6) : w ∈ lw_tbl := tb_t (show w ∈ tables_1_1 ++ (tables_1_2 ++ (tables_1_3 ++ (tables_1_4 ++ (tables_1_5 ++ (tables_1_6 ++ tables_1_7))))) from tb_mem_append_r (tb_mem_append_r (tb_mem_append_r (tb_mem_append_r (tb_mem_append_r (tb_mem_append_l h))))))
theorem tb_m7 {w : Cond} (h : w ∈ tables_1_7) : w ∈ lw_tbl := tb_t (show w ∈ tables_1_1 ++ (tables_1_2 ++ (tables_1_3 ++ (tables_1_4 ++ (tables_1_5 ++ (tables_1_6 ++ tables_1_7))))) from tb_mem_append_r (tb_mem_append_r (tb_mem_append_r (tb_mem_append_r (tb_mem_append_r (tb_mem_append_r (h)))))))
theorem q0 : Cond.initialized RL ∈ TB := tb_of (tb_m1 (List.mem_of_getElem? (i := 0) rfl)) rfl
theorem q1 : Cond.initialized RX10 ∈ TB := tb_of (tb_m1 (List.mem_of_getElem? (i := 1) rfl)) rfl
theorem q2 : Cond.initialized RX8 ∈ TB := tb_of (tb_m1 (List.mem_of_getElem? (i := 2) rfl)) rfl
theorem q3 : Cond.initialized RX5 ∈ TB := tb_of (tb_m1 (List.mem_of_getElem? (i := 3) rfl)) rfl
theorem q4 : Cond.initialized RX4 ∈ TB := tb_of (tb_m1 (List.mem_of_getElem? (i := 4) rfl)) rfl
theorem q5 : Cond.initialized RX3 ∈ TB := tb_of (tb_m1 (List.mem_of_getElem? (i := 5) rfl)) rfl
theorem q6 : Cond.initialized RX9 ∈ TB := tb_of (tb_m1 (List.mem_of_getElem? (i := 6) rfl)) rfl
theorem q7 : Cond.initialized RX7 ∈ TB := tb_of (tb_m1 (List.mem_of_getElem? (i := 7) rfl)) rfl
theorem q8 : Cond.initialized RX1 ∈ TB := tb_of (tb_m1 (List.mem_of_getElem? (i := 8) rfl)) rfl
theorem q9 : Cond.initialized RX6 ∈ TB := tb_of (tb_m1 (List.mem_of_getElem? (i := 9) rfl)) rfl
theorem q10 : Cond.initialized RX2 ∈ TB := tb_of (tb_m1 (List.mem_of_getElem? (i := 10) rfl)) rfl
theorem q11 : Cond.initialized RX0 ∈ TB := tb_of (tb_m1 (List.mem_of_getElem? (i := 11) rfl)) rfl
theorem q12 : Cond.initialized RX11 ∈ TB := tb_of (tb_m1 (List.mem_of_getElem? (i := 12) rfl)) rfl
theorem q13 : Cond.initialized RJ0 ∈ TB := tb_of (tb_m1 (List.mem_of_getElem? (i := 13) rfl)) rfl
theorem q14 : Cond.initialized RJ1 ∈ TB := tb_of (tb_m1 (List.mem_of_getElem? (i := 14) rfl)) rfl
theorem q15 : Cond.initialized RJ3 ∈ TB := tb_of (tb_m1 (List.mem_of_getElem? (i := 15) rfl)) rfl
theorem q16 : Cond.initialized RJ2 ∈ TB := tb_of (tb_m1 (List.mem_of_getElem? (i := 16) rfl)) rfl
theorem q17 : Cond.initialized RJ10 ∈ TB := tb_of (tb_m1 (List.mem_of_getElem? (i := 17) rfl)) rfl
theorem q18 : Cond.initialized RJ9 ∈ TB := tb_of (tb_m1 (List.mem_of_getElem? (i := 18) rfl)) rfl
theorem q19 : Cond.classLink RL 7 "AlongsideLines" ∈ TB := tb_of (tb_m1 (List.mem_of_getElem? (i := 19) rfl)) rfl
theorem q20 : Cond.instantiable RX10 15 ∈ TB := tb_of (tb_m1 (List.mem_of_getElem? (i := 20) rfl)) rfl
theorem q21 : Cond.methodLink RL 9 yX10_init ∈ TB := tb_of (tb_m1 (List.mem_of_getElem? (i := 21) rfl)) rfl
theorem q22 : Cond.instanceMethod yX10_init ∈ TB := tb_of (tb_m1 (List.mem_of_getElem? (i := 22) rfl)) rfl
theorem q23 : Cond.code yX10_init prog_1_method_1_code 1 none ∈ TB := tb_of (tb_m1 (List.mem_of_getElem? (i := 23) rfl)) rfl
theorem q24 : Cond.methodLink RX10 1 (⟨"java/lang/Object", "<init>", "()V"⟩ : MethodName) ∈ TB := tb_of (tb_m1 (List.mem_of_getElem? (i := 24) rfl)) rfl
theorem q25 : Cond.instanceMethod (⟨"java/lang/Object", "<init>", "()V"⟩ : MethodName) ∈ TB := tb_of (tb_m1 (List.mem_of_getElem? (i := 25) rfl)) rfl
theorem q26 : Cond.code (⟨"java/lang/Object", "<init>", "()V"⟩ : MethodName) object_method_1_code 1 none ∈ TB := tb_of (tb_m1 (List.mem_of_getElem? (i := 26) rfl)) rfl
theorem q27 : Cond.classLink RX10 7 "AlongsideLines$Text" ∈ TB := tb_of (tb_m1 (List.mem_of_getElem? (i := 27) rfl)) rfl
theorem q28 : Cond.instantiable RX8 2 ∈ TB := tb_of (tb_m1 (List.mem_of_getElem? (i := 28) rfl)) rfl
theorem q30 : Cond.instanceMethod yX8_init ∈ TB := tb_of (tb_m1 (List.mem_of_getElem? (i := 30) rfl)) rfl
theorem q31 : Cond.code yX8_init prog_10_method_1_code 1 none ∈ TB := tb_of (tb_m1 (List.mem_of_getElem? (i := 31) rfl)) rfl
theorem q32 : Cond.methodLink RX8 1 (⟨"java/lang/Object", "<init>", "()V"⟩ : MethodName) ∈ TB := tb_of (tb_m1 (List.mem_of_getElem? (i := 32) rfl)) rfl
theorem q33 : Cond.fieldLink RX8 9 "AlongsideLines$Text" "bytes" "[I" ∈ TB := tb_of (tb_m1 (List.mem_of_getElem? (i := 33) rfl)) rfl
theorem q34 : Cond.fieldLink RX8 13 "AlongsideLines$Text" "size" "I" ∈ TB := tb_of (tb_m1 (List.mem_of_getElem? (i := 34) rfl)) rfl
theorem q35 : Cond.fieldLink RX10 98 "AlongsideLines$Text" "size" "I" ∈ TB := tb_of (tb_m1 (List.mem_of_getElem? (i := 35) rfl)) rfl
theorem q36 : Cond.fieldLink RX5 62 "AlongsideLines$Text" "size" "I" ∈ TB := tb_of (tb_m1 (List.mem_of_getElem? (i := 36) rfl)) rfl
theorem q37 : Cond.laysFinal "AlongsideLines$Text" "AlongsideLines$Text" "bytes" "[I" ∈ TB := tb_of (tb_m1 (List.mem_of_getElem? (i := 37) rfl)) rfl
theorem q39 : Cond.lays "AlongsideLines$Text" "AlongsideLines$Text" "size" "I" ∈ TB := tb_of (tb_m1 (List.mem_of_getElem? (i := 39) rfl)) rfl
theorem q42 : Cond.arrayClass FieldType.int ∈ TB := tb_of (tb_m1 (List.mem_of_getElem? (i := 42) rfl)) rfl
theorem q43 : Cond.classLink RX10 16 "AlongsideLines$Reader" ∈ TB := tb_of (tb_m1 (List.mem_of_getElem? (i := 43) rfl)) rfl
theorem q44 : Cond.instantiable RX5 8 ∈ TB := tb_of (tb_m1 (List.mem_of_getElem? (i := 44) rfl)) rfl
theorem q46 : Cond.instanceMethod yX5_init ∈ TB := tb_of (tb_m1 (List.mem_of_getElem? (i := 46) rfl)) rfl
theorem q47 : Cond.code yX5_init prog_7_method_1_code 1 none ∈ TB := tb_of (tb_m1 (List.mem_of_getElem? (i := 47) rfl)) rfl
theorem q48 : Cond.methodLink RX5 3 (⟨"java/lang/Object", "<init>", "()V"⟩ : MethodName) ∈ TB := tb_of (tb_m1 (List.mem_of_getElem? (i := 48) rfl)) rfl
theorem q49 : Cond.classLink RX5 9 "AlongsideLines$Quay" ∈ TB := tb_of (tb_m1 (List.mem_of_getElem? (i := 49) rfl)) rfl
theorem q50 : Cond.instantiable RX4 16 ∈ TB := tb_of (tb_m1 (List.mem_of_getElem? (i := 50) rfl)) rfl
theorem q52 : Cond.instanceMethod yX4_init ∈ TB := tb_of (tb_m1 (List.mem_of_getElem? (i := 52) rfl)) rfl
theorem q53 : Cond.code yX4_init prog_6_method_1_code 1 none ∈ TB := tb_of (tb_m1 (List.mem_of_getElem? (i := 53) rfl)) rfl
theorem q54 : Cond.methodLink RX4 1 (⟨"java/lang/Object", "<init>", "()V"⟩ : MethodName) ∈ TB := tb_of (tb_m1 (List.mem_of_getElem? (i := 54) rfl)) rfl
theorem q55 : Cond.fieldLink RX4 37 "AlongsideLines$Quay" "from" "I" ∈ TB := tb_of (tb_m1 (List.mem_of_getElem? (i := 55) rfl)) rfl
theorem q56 : Cond.fieldLink RX6 73 "AlongsideLines$Quay" "from" "I" ∈ TB := tb_of (tb_m1 (List.mem_of_getElem? (i := 56) rfl)) rfl
theorem q57 : Cond.fieldLink RX7 245 "AlongsideLines$Quay" "from" "I" ∈ TB := tb_of (tb_m1 (List.mem_of_getElem? (i := 57) rfl)) rfl
theorem q58 : Cond.fieldLink RX4 40 "AlongsideLines$Quay" "to" "I" ∈ TB := tb_of (tb_m1 (List.mem_of_getElem? (i := 58) rfl)) rfl
theorem q59 : Cond.fieldLink RX6 70 "AlongsideLines$Quay" "to" "I" ∈ TB := tb_of (tb_m1 (List.mem_of_getElem? (i := 59) rfl)) rfl
theorem q60 : Cond.fieldLink RX7 242 "AlongsideLines$Quay" "to" "I" ∈ TB := tb_of (tb_m1 (List.mem_of_getElem? (i := 60) rfl)) rfl
theorem q61 : Cond.fieldLink RX4 43 "AlongsideLines$Quay" "length" "I" ∈ TB := tb_of (tb_m1 (List.mem_of_getElem? (i := 61) rfl)) rfl
theorem q62 : Cond.fieldLink RX0 58 "AlongsideLines$Quay" "weight" "I" ∈ TB := tb_of (tb_m1 (List.mem_of_getElem? (i := 62) rfl)) rfl
theorem q63 : Cond.fieldLink RX4 46 "AlongsideLines$Quay" "weight" "I" ∈ TB := tb_of (tb_m1 (List.mem_of_getElem? (i := 63) rfl)) rfl
theorem q64 : Cond.fieldLink RX7 181 "AlongsideLines$Quay" "weight" "I" ∈ TB := tb_of (tb_m1 (List.mem_of_getElem? (i := 64) rfl)) rfl
theorem q65 : Cond.fieldLink RX4 49 "AlongsideLines$Quay" "push" "I" ∈ TB := tb_of (tb_m1 (List.mem_of_getElem? (i := 65) rfl)) rfl
theorem q66 : Cond.fieldLink RX7 184 "AlongsideLines$Quay" "push" "I" ∈ TB := tb_of (tb_m1 (List.mem_of_getElem? (i := 66) rfl)) rfl
theorem q67 : Cond.fieldLink RX4 52 "AlongsideLines$Quay" "walk" "I" ∈ TB := tb_of (tb_m1 (List.mem_of_getElem? (i := 67) rfl)) rfl
theorem q68 : Cond.fieldLink RX7 211 "AlongsideLines$Quay" "walk" "I" ∈ TB := tb_of (tb_m1 (List.mem_of_getElem? (i := 68) rfl)) rfl
theorem q69 : Cond.fieldLink RX4 55 "AlongsideLines$Quay" "wheelForce" "I" ∈ TB := tb_of (tb_m1 (List.mem_of_getElem? (i := 69) rfl)) rfl
theorem q70 : Cond.fieldLink RX7 202 "AlongsideLines$Quay" "wheelForce" "I" ∈ TB := tb_of (tb_m1 (List.mem_of_getElem? (i := 70) rfl)) rfl
theorem q71 : Cond.fieldLink RX4 58 "AlongsideLines$Quay" "slowAhead" "I" ∈ TB := tb_of (tb_m1 (List.mem_of_getElem? (i := 71) rfl)) rfl
theorem q72 : Cond.fieldLink RX7 187 "AlongsideLines$Quay" "slowAhead" "I" ∈ TB := tb_of (tb_m1 (List.mem_of_getElem? (i := 72) rfl)) rfl
theorem q73 : Cond.fieldLink RX4 61 "AlongsideLines$Quay" "slowSideways" "I" ∈ TB := tb_of (tb_m1 (List.mem_of_getElem? (i := 73) rfl)) rfl
theorem q74 : Cond.fieldLink RX7 196 "AlongsideLines$Quay" "slowSideways" "I" ∈ TB := tb_of (tb_m1 (List.mem_of_getElem? (i := 74) rfl)) rfl
theorem q75 : Cond.fieldLink RX4 64 "AlongsideLines$Quay" "slowTurning" "I" ∈ TB := tb_of (tb_m1 (List.mem_of_getElem? (i := 75) rfl)) rfl
theorem q76 : Cond.fieldLink RX7 205 "AlongsideLines$Quay" "slowTurning" "I" ∈ TB := tb_of (tb_m1 (List.mem_of_getElem? (i := 76) rfl)) rfl
theorem q77 : Cond.fieldLink RX0 55 "AlongsideLines$Quay" "windForce" "I" ∈ TB := tb_of (tb_m1 (List.mem_of_getElem? (i := 77) rfl)) rfl
theorem q78 : Cond.fieldLink RX4 67 "AlongsideLines$Quay" "windForce" "I" ∈ TB := tb_of (tb_m1 (List.mem_of_getElem? (i := 78) rfl)) rfl
theorem q79 : Cond.fieldLink RX6 63 "AlongsideLines$Quay" "windForce" "I" ∈ TB := tb_of (tb_m1 (List.mem_of_getElem? (i := 79) rfl)) rfl
theorem q80 : Cond.fieldLink RX7 193 "AlongsideLines$Quay" "windForce" "I" ∈ TB := tb_of (tb_m1 (List.mem_of_getElem? (i := 80) rfl)) rfl
theorem q81 : Cond.fieldLink RX4 70 "AlongsideLines$Quay" "give" "I" ∈ TB := tb_of (tb_m1 (List.mem_of_getElem? (i := 81) rfl)) rfl
theorem q82 : Cond.fieldLink RX7 116 "AlongsideLines$Quay" "give" "I" ∈ TB := tb_of (tb_m1 (List.mem_of_getElem? (i := 82) rfl)) rfl
theorem q83 : Cond.fieldLink RX4 73 "AlongsideLines$Quay" "fender" "I" ∈ TB := tb_of (tb_m1 (List.mem_of_getElem? (i := 83) rfl)) rfl
theorem q84 : Cond.fieldLink RX7 235 "AlongsideLines$Quay" "fender" "I" ∈ TB := tb_of (tb_m1 (List.mem_of_getElem? (i := 84) rfl)) rfl
theorem q85 : Cond.fieldLink RX4 23 "AlongsideLines$Quay" "posts" "I" ∈ TB := tb_of (tb_m1 (List.mem_of_getElem? (i := 85) rfl)) rfl
theorem q86 : Cond.fieldLink RX10 123 "AlongsideLines$Quay" "posts" "I" ∈ TB := tb_of (tb_m1 (List.mem_of_getElem? (i := 86) rfl)) rfl
theorem q87 : Cond.fieldLink RX4 9 "AlongsideLines$Quay" "places" "[I" ∈ TB := tb_of (tb_m1 (List.mem_of_getElem? (i := 87) rfl)) rfl
theorem q88 : Cond.fieldLink RX4 13 "AlongsideLines$Quay" "strengths" "[I" ∈ TB := tb_of (tb_m1 (List.mem_of_getElem? (i := 88) rfl)) rfl
theorem q89 : Cond.lays "AlongsideLines$Quay" "AlongsideLines$Quay" "from" "I" ∈ TB := tb_of (tb_m1 (List.mem_of_getElem? (i := 89) rfl)) rfl
theorem q91 : Cond.lays "AlongsideLines$Quay" "AlongsideLines$Quay" "to" "I" ∈ TB := tb_of (tb_m1 (List.mem_of_getElem? (i := 91) rfl)) rfl
theorem q93 : Cond.lays "AlongsideLines$Quay" "AlongsideLines$Quay" "length" "I" ∈ TB := tb_of (tb_m1 (List.mem_of_getElem? (i := 93) rfl)) rfl
theorem q95 : Cond.lays "AlongsideLines$Quay" "AlongsideLines$Quay" "weight" "I" ∈ TB := tb_of (tb_m1 (List.mem_of_getElem? (i := 95) rfl)) rfl
theorem q97 : Cond.lays "AlongsideLines$Quay" "AlongsideLines$Quay" "push" "I" ∈ TB := tb_of (tb_m1 (List.mem_of_getElem? (i := 97) rfl)) rfl
theorem q99 : Cond.lays "AlongsideLines$Quay" "AlongsideLines$Quay" "walk" "I" ∈ TB := tb_of (tb_m1 (List.mem_of_getElem? (i := 99) rfl)) rfl
theorem q101 : Cond.lays "AlongsideLines$Quay" "AlongsideLines$Quay" "wheelForce" "I" ∈ TB := tb_of (tb_m1 (List.mem_of_getElem? (i := 101) rfl)) rfl
theorem q103 : Cond.lays "AlongsideLines$Quay" "AlongsideLines$Quay" "slowAhead" "I" ∈ TB := tb_of (tb_m1 (List.mem_of_getElem? (i := 103) rfl)) rfl
theorem q105 : Cond.lays "AlongsideLines$Quay" "AlongsideLines$Quay" "slowSideways" "I" ∈ TB := tb_of (tb_m1 (List.mem_of_getElem? (i := 105) rfl)) rfl
theorem q107 : Cond.lays "AlongsideLines$Quay" "AlongsideLines$Quay" "slowTurning" "I" ∈ TB := tb_of (tb_m1 (List.mem_of_getElem? (i := 107) rfl)) rfl
theorem q109 : Cond.lays "AlongsideLines$Quay" "AlongsideLines$Quay" "windForce" "I" ∈ TB := tb_of (tb_m1 (List.mem_of_getElem? (i := 109) rfl)) rfl
theorem q111 : Cond.lays "AlongsideLines$Quay" "AlongsideLines$Quay" "give" "I" ∈ TB := tb_of (tb_m1 (List.mem_of_getElem? (i := 111) rfl)) rfl
theorem q113 : Cond.lays "AlongsideLines$Quay" "AlongsideLines$Quay" "fender" "I" ∈ TB := tb_of (tb_m1 (List.mem_of_getElem? (i := 113) rfl)) rfl
theorem q115 : Cond.lays "AlongsideLines$Quay" "AlongsideLines$Quay" "posts" "I" ∈ TB := tb_of (tb_m1 (List.mem_of_getElem? (i := 115) rfl)) rfl
theorem q117 : Cond.laysFinal "AlongsideLines$Quay" "AlongsideLines$Quay" "places" "[I" ∈ TB := tb_of (tb_m1 (List.mem_of_getElem? (i := 117) rfl)) rfl
theorem q119 : Cond.laysFinal "AlongsideLines$Quay" "AlongsideLines$Quay" "strengths" "[I" ∈ TB := tb_of (tb_m1 (List.mem_of_getElem? (i := 119) rfl)) rfl
theorem q122 : Cond.classLink RX5 18 "AlongsideLines$Plan" ∈ TB := tb_of (tb_m1 (List.mem_of_getElem? (i := 122) rfl)) rfl
theorem q123 : Cond.instantiable RX3 4 ∈ TB := tb_of (tb_m1 (List.mem_of_getElem? (i := 123) rfl)) rfl
theorem q125 : Cond.instanceMethod yX3_init ∈ TB := tb_of (tb_m1 (List.mem_of_getElem? (i := 125) rfl)) rfl
theorem q126 : Cond.code yX3_init prog_5_method_1_code 1 none ∈ TB := tb_of (tb_m1 (List.mem_of_getElem? (i := 126) rfl)) rfl
theorem q127 : Cond.methodLink RX3 1 (⟨"java/lang/Object", "<init>", "()V"⟩ : MethodName) ∈ TB := tb_of (tb_m1 (List.mem_of_getElem? (i := 127) rfl)) rfl
theorem q128 : Cond.fieldLink RX3 25 "AlongsideLines$Plan" "size" "I" ∈ TB := tb_of (tb_m1 (List.mem_of_getElem? (i := 128) rfl)) rfl
theorem q129 : Cond.fieldLink RX5 52 "AlongsideLines$Plan" "size" "I" ∈ TB := tb_of (tb_m1 (List.mem_of_getElem? (i := 129) rfl)) rfl
theorem q130 : Cond.fieldLink RX10 132 "AlongsideLines$Plan" "size" "I" ∈ TB := tb_of (tb_m1 (List.mem_of_getElem? (i := 130) rfl)) rfl
theorem q131 : Cond.fieldLink RX3 9 "AlongsideLines$Plan" "seconds" "[I" ∈ TB := tb_of (tb_m1 (List.mem_of_getElem? (i := 131) rfl)) rfl
theorem q132 : Cond.fieldLink RX3 13 "AlongsideLines$Plan" "engines" "[I" ∈ TB := tb_of (tb_m1 (List.mem_of_getElem? (i := 132) rfl)) rfl
theorem q133 : Cond.fieldLink RX3 16 "AlongsideLines$Plan" "wheels" "[I" ∈ TB := tb_of (tb_m1 (List.mem_of_getElem? (i := 133) rfl)) rfl
theorem q134 : Cond.lays "AlongsideLines$Plan" "AlongsideLines$Plan" "size" "I" ∈ TB := tb_of (tb_m1 (List.mem_of_getElem? (i := 134) rfl)) rfl
theorem q136 : Cond.laysFinal "AlongsideLines$Plan" "AlongsideLines$Plan" "seconds" "[I" ∈ TB := tb_of (tb_m1 (List.mem_of_getElem? (i := 136) rfl)) rfl
theorem q138 : Cond.laysFinal "AlongsideLines$Plan" "AlongsideLines$Plan" "engines" "[I" ∈ TB := tb_of (tb_m1 (List.mem_of_getElem? (i := 138) rfl)) rfl
theorem q140 : Cond.laysFinal "AlongsideLines$Plan" "AlongsideLines$Plan" "wheels" "[I" ∈ TB := tb_of (tb_m1 (List.mem_of_getElem? (i := 140) rfl)) rfl
theorem q143 : Cond.classLink RX5 25 "AlongsideLines$Tide" ∈ TB := tb_of (tb_m1 (List.mem_of_getElem? (i := 143) rfl)) rfl
theorem q144 : Cond.instantiable RX9 2 ∈ TB := tb_of (tb_m1 (List.mem_of_getElem? (i := 144) rfl)) rfl
theorem q146 : Cond.instanceMethod yX9_init ∈ TB := tb_of (tb_m1 (List.mem_of_getElem? (i := 146) rfl)) rfl
theorem q147 : Cond.code yX9_init prog_11_method_1_code 1 none ∈ TB := tb_of (tb_m1 (List.mem_of_getElem? (i := 147) rfl)) rfl
theorem q148 : Cond.methodLink RX9 1 (⟨"java/lang/Object", "<init>", "()V"⟩ : MethodName) ∈ TB := tb_of (tb_m1 (List.mem_of_getElem? (i := 148) rfl)) rfl
theorem q149 : Cond.fieldLink RX9 19 "AlongsideLines$Tide" "size" "I" ∈ TB := tb_of (tb_m1 (List.mem_of_getElem? (i := 149) rfl)) rfl
theorem q150 : Cond.fieldLink RX5 55 "AlongsideLines$Tide" "size" "I" ∈ TB := tb_of (tb_m1 (List.mem_of_getElem? (i := 150) rfl)) rfl
theorem q151 : Cond.fieldLink RX2 23 "AlongsideLines$Tide" "size" "I" ∈ TB := tb_of (tb_m1 (List.mem_of_getElem? (i := 151) rfl)) rfl
theorem q152 : Cond.fieldLink RX10 139 "AlongsideLines$Tide" "size" "I" ∈ TB := tb_of (tb_m1 (List.mem_of_getElem? (i := 152) rfl)) rfl
theorem q153 : Cond.fieldLink RX9 9 "AlongsideLines$Tide" "heights" "[I" ∈ TB := tb_of (tb_m1 (List.mem_of_getElem? (i := 153) rfl)) rfl
theorem q154 : Cond.lays "AlongsideLines$Tide" "AlongsideLines$Tide" "size" "I" ∈ TB := tb_of (tb_m1 (List.mem_of_getElem? (i := 154) rfl)) rfl
theorem q156 : Cond.laysFinal "AlongsideLines$Tide" "AlongsideLines$Tide" "heights" "[I" ∈ TB := tb_of (tb_m1 (List.mem_of_getElem? (i := 156) rfl)) rfl
theorem q159 : Cond.fieldLink RX5 12 "AlongsideLines$Reader" "quayDraft" "LAlongsideLines$Quay;" ∈ TB := tb_of (tb_m1 (List.mem_of_getElem? (i := 159) rfl)) rfl
theorem q160 : Cond.fieldLink RX10 113 "AlongsideLines$Reader" "quayDraft" "LAlongsideLines$Quay;" ∈ TB := tb_of (tb_m1 (List.mem_of_getElem? (i := 160) rfl)) rfl
theorem q161 : Cond.fieldLink RX5 21 "AlongsideLines$Reader" "planDraft" "LAlongsideLines$Plan;" ∈ TB := tb_of (tb_m1 (List.mem_of_getElem? (i := 161) rfl)) rfl
theorem q162 : Cond.fieldLink RX10 126 "AlongsideLines$Reader" "planDraft" "LAlongsideLines$Plan;" ∈ TB := tb_of (tb_m1 (List.mem_of_getElem? (i := 162) rfl)) rfl
theorem q163 : Cond.fieldLink RX5 28 "AlongsideLines$Reader" "tideDraft" "LAlongsideLines$Tide;" ∈ TB := tb_of (tb_m1 (List.mem_of_getElem? (i := 163) rfl)) rfl
theorem q164 : Cond.fieldLink RX10 133 "AlongsideLines$Reader" "tideDraft" "LAlongsideLines$Tide;" ∈ TB := tb_of (tb_m1 (List.mem_of_getElem? (i := 164) rfl)) rfl
theorem q165 : Cond.fieldLink RX5 39 "AlongsideLines$Reader" "fault" "I" ∈ TB := tb_of (tb_m1 (List.mem_of_getElem? (i := 165) rfl)) rfl
theorem q166 : Cond.fieldLink RX10 110 "AlongsideLines$Reader" "fault" "I" ∈ TB := tb_of (tb_m1 (List.mem_of_getElem? (i := 166) rfl)) rfl
theorem q167 : Cond.fieldLink RX5 43 "AlongsideLines$Reader" "faultAt" "I" ∈ TB := tb_of (tb_m1 (List.mem_of_getElem? (i := 167) rfl)) rfl
theorem q168 : Cond.fieldLink RX10 323 "AlongsideLines$Reader" "faultAt" "I" ∈ TB := tb_of (tb_m1 (List.mem_of_getElem? (i := 168) rfl)) rfl
theorem q169 : Cond.fieldLink RX5 32 "AlongsideLines$Reader" "times" "[I" ∈ TB := tb_of (tb_m1 (List.mem_of_getElem? (i := 169) rfl)) rfl
theorem q170 : Cond.fieldLink RX5 36 "AlongsideLines$Reader" "row" "[I" ∈ TB := tb_of (tb_m1 (List.mem_of_getElem? (i := 170) rfl)) rfl
theorem q171 : Cond.fieldLink RX5 46 "AlongsideLines$Reader" "at" "I" ∈ TB := tb_of (tb_m1 (List.mem_of_getElem? (i := 171) rfl)) rfl
theorem q172 : Cond.laysFinal "AlongsideLines$Reader" "AlongsideLines$Reader" "quayDraft" "LAlongsideLines$Quay;" ∈ TB := tb_of (tb_m1 (List.mem_of_getElem? (i := 172) rfl)) rfl
theorem q174 : Cond.laysFinal "AlongsideLines$Reader" "AlongsideLines$Reader" "planDraft" "LAlongsideLines$Plan;" ∈ TB := tb_of (tb_m1 (List.mem_of_getElem? (i := 174) rfl)) rfl
theorem q176 : Cond.laysFinal "AlongsideLines$Reader" "AlongsideLines$Reader" "tideDraft" "LAlongsideLines$Tide;" ∈ TB := tb_of (tb_m1 (List.mem_of_getElem? (i := 176) rfl)) rfl
theorem q178 : Cond.lays "AlongsideLines$Reader" "AlongsideLines$Reader" "fault" "I" ∈ TB := tb_of (tb_m1 (List.mem_of_getElem? (i := 178) rfl)) rfl
theorem q180 : Cond.lays "AlongsideLines$Reader" "AlongsideLines$Reader" "faultAt" "I" ∈ TB := tb_of (tb_m1 (List.mem_of_getElem? (i := 180) rfl)) rfl
theorem q182 : Cond.laysFinal "AlongsideLines$Reader" "AlongsideLines$Reader" "times" "[I" ∈ TB := tb_of (tb_m1 (List.mem_of_getElem? (i := 182) rfl)) rfl
theorem q184 : Cond.laysFinal "AlongsideLines$Reader" "AlongsideLines$Reader" "row" "[I" ∈ TB := tb_of (tb_m1 (List.mem_of_getElem? (i := 184) rfl)) rfl
theorem q186 : Cond.lays "AlongsideLines$Reader" "AlongsideLines$Reader" "at" "I" ∈ TB := tb_of (tb_m1 (List.mem_of_getElem? (i := 186) rfl)) rfl
theorem q189 : Cond.classLink RX10 23 "AlongsideLines$Quay" ∈ TB := tb_of (tb_m1 (List.mem_of_getElem? (i := 189) rfl)) rfl
theorem q191 : Cond.classLink RX10 30 "AlongsideLines$Plan" ∈ TB := tb_of (tb_m1 (List.mem_of_getElem? (i := 191) rfl)) rfl
theorem q193 : Cond.classLink RX10 37 "AlongsideLines$Tide" ∈ TB := tb_of (tb_m1 (List.mem_of_getElem? (i := 193) rfl)) rfl
theorem q195 : Cond.classLink RX10 44 "AlongsideLines$Ship" ∈ TB := tb_of (tb_m1 (List.mem_of_getElem? (i := 195) rfl)) rfl
theorem q196 : Cond.instantiable RX7 18 ∈ TB := tb_of (tb_m1 (List.mem_of_getElem? (i := 196) rfl)) rfl
theorem q198 : Cond.instanceMethod yX7_init ∈ TB := tb_of (tb_m1 (List.mem_of_getElem? (i := 198) rfl)) rfl
theorem q199 : Cond.code yX7_init prog_9_method_1_code 1 none ∈ TB := tb_of (tb_m1 (List.mem_of_getElem? (i := 199) rfl)) rfl
theorem q200 : Cond.methodLink RX7 1 (⟨"java/lang/Object", "<init>", "()V"⟩ : MethodName) ∈ TB := tb_of (tb_m1 (List.mem_of_getElem? (i := 200) rfl)) rfl
theorem q201 : Cond.classLink RX7 7 "AlongsideLines$Lines" ∈ TB := tb_of (tb_m1 (List.mem_of_getElem? (i := 201) rfl)) rfl
theorem q202 : Cond.instantiable RX1 4 ∈ TB := tb_of (tb_m1 (List.mem_of_getElem? (i := 202) rfl)) rfl
theorem q204 : Cond.instanceMethod yX1_init ∈ TB := tb_of (tb_m1 (List.mem_of_getElem? (i := 204) rfl)) rfl
theorem q205 : Cond.code yX1_init prog_3_method_1_code 1 none ∈ TB := tb_of (tb_m1 (List.mem_of_getElem? (i := 205) rfl)) rfl
theorem q206 : Cond.methodLink RX1 1 (⟨"java/lang/Object", "<init>", "()V"⟩ : MethodName) ∈ TB := tb_of (tb_m1 (List.mem_of_getElem? (i := 206) rfl)) rfl
theorem q207 : Cond.fieldLink RX1 9 "AlongsideLines$Lines" "fast" "[Z" ∈ TB := tb_of (tb_m1 (List.mem_of_getElem? (i := 207) rfl)) rfl
theorem q208 : Cond.fieldLink RX10 213 "AlongsideLines$Lines" "fast" "[Z" ∈ TB := tb_of (tb_m1 (List.mem_of_getElem? (i := 208) rfl)) rfl
theorem q209 : Cond.fieldLink RX7 163 "AlongsideLines$Lines" "fast" "[Z" ∈ TB := tb_of (tb_m1 (List.mem_of_getElem? (i := 209) rfl)) rfl
theorem q210 : Cond.fieldLink RX1 13 "AlongsideLines$Lines" "place" "[I" ∈ TB := tb_of (tb_m1 (List.mem_of_getElem? (i := 210) rfl)) rfl
theorem q211 : Cond.fieldLink RX0 37 "AlongsideLines$Lines" "place" "[I" ∈ TB := tb_of (tb_m1 (List.mem_of_getElem? (i := 211) rfl)) rfl
theorem q212 : Cond.fieldLink RX7 123 "AlongsideLines$Lines" "place" "[I" ∈ TB := tb_of (tb_m1 (List.mem_of_getElem? (i := 212) rfl)) rfl
theorem q213 : Cond.fieldLink RX10 216 "AlongsideLines$Lines" "place" "[I" ∈ TB := tb_of (tb_m1 (List.mem_of_getElem? (i := 213) rfl)) rfl
theorem q214 : Cond.fieldLink RX1 17 "AlongsideLines$Lines" "post" "[I" ∈ TB := tb_of (tb_m1 (List.mem_of_getElem? (i := 214) rfl)) rfl
theorem q215 : Cond.fieldLink RX0 49 "AlongsideLines$Lines" "post" "[I" ∈ TB := tb_of (tb_m1 (List.mem_of_getElem? (i := 215) rfl)) rfl
theorem q216 : Cond.fieldLink RX7 126 "AlongsideLines$Lines" "post" "[I" ∈ TB := tb_of (tb_m1 (List.mem_of_getElem? (i := 216) rfl)) rfl
theorem q217 : Cond.fieldLink RX10 219 "AlongsideLines$Lines" "post" "[I" ∈ TB := tb_of (tb_m1 (List.mem_of_getElem? (i := 217) rfl)) rfl
theorem q218 : Cond.fieldLink RX1 20 "AlongsideLines$Lines" "length" "[I" ∈ TB := tb_of (tb_m1 (List.mem_of_getElem? (i := 218) rfl)) rfl
theorem q219 : Cond.fieldLink RX10 210 "AlongsideLines$Lines" "length" "[I" ∈ TB := tb_of (tb_m1 (List.mem_of_getElem? (i := 219) rfl)) rfl
theorem q220 : Cond.fieldLink RX7 214 "AlongsideLines$Lines" "length" "[I" ∈ TB := tb_of (tb_m1 (List.mem_of_getElem? (i := 220) rfl)) rfl
theorem q221 : Cond.laysFinal "AlongsideLines$Lines" "AlongsideLines$Lines" "fast" "[Z" ∈ TB := tb_of (tb_m1 (List.mem_of_getElem? (i := 221) rfl)) rfl
theorem q223 : Cond.laysFinal "AlongsideLines$Lines" "AlongsideLines$Lines" "place" "[I" ∈ TB := tb_of (tb_m1 (List.mem_of_getElem? (i := 223) rfl)) rfl
theorem q225 : Cond.laysFinal "AlongsideLines$Lines" "AlongsideLines$Lines" "post" "[I" ∈ TB := tb_of (tb_m1 (List.mem_of_getElem? (i := 225) rfl)) rfl
theorem q227 : Cond.laysFinal "AlongsideLines$Lines" "AlongsideLines$Lines" "length" "[I" ∈ TB := tb_of (tb_m1 (List.mem_of_getElem? (i := 227) rfl)) rfl
theorem q230 : Cond.arrayClass FieldType.boolean ∈ TB := tb_of (tb_m1 (List.mem_of_getElem? (i := 230) rfl)) rfl
theorem q231 : Cond.fieldLink RX7 27 "AlongsideLines$Ship" "x" "I" ∈ TB := tb_of (tb_m1 (List.mem_of_getElem? (i := 231) rfl)) rfl
theorem q232 : Cond.fieldLink RX10 304 "AlongsideLines$Ship" "x" "I" ∈ TB := tb_of (tb_m1 (List.mem_of_getElem? (i := 232) rfl)) rfl
theorem q233 : Cond.fieldLink RX7 31 "AlongsideLines$Ship" "y" "I" ∈ TB := tb_of (tb_m1 (List.mem_of_getElem? (i := 233) rfl)) rfl
theorem q234 : Cond.fieldLink RX7 61 "AlongsideLines$Ship" "angle" "I" ∈ TB := tb_of (tb_m1 (List.mem_of_getElem? (i := 234) rfl)) rfl
theorem q235 : Cond.fieldLink RX6 51 "AlongsideLines$Ship" "pace" "I" ∈ TB := tb_of (tb_m1 (List.mem_of_getElem? (i := 235) rfl)) rfl
theorem q236 : Cond.fieldLink RX7 64 "AlongsideLines$Ship" "pace" "I" ∈ TB := tb_of (tb_m1 (List.mem_of_getElem? (i := 236) rfl)) rfl
theorem q237 : Cond.fieldLink RX7 67 "AlongsideLines$Ship" "drift" "I" ∈ TB := tb_of (tb_m1 (List.mem_of_getElem? (i := 237) rfl)) rfl
theorem q238 : Cond.fieldLink RX7 70 "AlongsideLines$Ship" "turn" "I" ∈ TB := tb_of (tb_m1 (List.mem_of_getElem? (i := 238) rfl)) rfl
theorem q239 : Cond.fieldLink RX6 44 "AlongsideLines$Ship" "engine" "I" ∈ TB := tb_of (tb_m1 (List.mem_of_getElem? (i := 239) rfl)) rfl
theorem q240 : Cond.fieldLink RX3 29 "AlongsideLines$Ship" "engine" "I" ∈ TB := tb_of (tb_m2 (List.mem_of_getElem? (i := 0) rfl)) rfl
theorem q241 : Cond.fieldLink RX7 73 "AlongsideLines$Ship" "engine" "I" ∈ TB := tb_of (tb_m2 (List.mem_of_getElem? (i := 1) rfl)) rfl
theorem q242 : Cond.fieldLink RX6 48 "AlongsideLines$Ship" "wheel" "I" ∈ TB := tb_of (tb_m2 (List.mem_of_getElem? (i := 2) rfl)) rfl
theorem q243 : Cond.fieldLink RX3 34 "AlongsideLines$Ship" "wheel" "I" ∈ TB := tb_of (tb_m2 (List.mem_of_getElem? (i := 3) rfl)) rfl
theorem q244 : Cond.fieldLink RX7 76 "AlongsideLines$Ship" "wheel" "I" ∈ TB := tb_of (tb_m2 (List.mem_of_getElem? (i := 4) rfl)) rfl
theorem q245 : Cond.fieldLink RX7 79 "AlongsideLines$Ship" "tugForce" "I" ∈ TB := tb_of (tb_m2 (List.mem_of_getElem? (i := 5) rfl)) rfl
theorem q246 : Cond.fieldLink RX6 76 "AlongsideLines$Ship" "tugForce" "I" ∈ TB := tb_of (tb_m2 (List.mem_of_getElem? (i := 6) rfl)) rfl
theorem q247 : Cond.fieldLink RX7 34 "AlongsideLines$Ship" "seconds" "I" ∈ TB := tb_of (tb_m2 (List.mem_of_getElem? (i := 7) rfl)) rfl
theorem q248 : Cond.fieldLink RX7 37 "AlongsideLines$Ship" "knocks" "I" ∈ TB := tb_of (tb_m2 (List.mem_of_getElem? (i := 8) rfl)) rfl
theorem q249 : Cond.fieldLink RX7 40 "AlongsideLines$Ship" "fell" "I" ∈ TB := tb_of (tb_m2 (List.mem_of_getElem? (i := 9) rfl)) rfl
theorem q250 : Cond.fieldLink RX7 54 "AlongsideLines$Ship" "draws" "I" ∈ TB := tb_of (tb_m2 (List.mem_of_getElem? (i := 10) rfl)) rfl
theorem q251 : Cond.fieldLink RX10 316 "AlongsideLines$Ship" "draws" "I" ∈ TB := tb_of (tb_m2 (List.mem_of_getElem? (i := 11) rfl)) rfl
theorem q252 : Cond.fieldLink RX6 32 "AlongsideLines$Ship" "harm" "J" ∈ TB := tb_of (tb_m2 (List.mem_of_getElem? (i := 12) rfl)) rfl
theorem q253 : Cond.fieldLink RX7 43 "AlongsideLines$Ship" "harm" "J" ∈ TB := tb_of (tb_m2 (List.mem_of_getElem? (i := 13) rfl)) rfl
theorem q254 : Cond.fieldLink RX10 324 "AlongsideLines$Ship" "harm" "J" ∈ TB := tb_of (tb_m2 (List.mem_of_getElem? (i := 14) rfl)) rfl
theorem q255 : Cond.fieldLink RX7 10 "AlongsideLines$Ship" "lines" "LAlongsideLines$Lines;" ∈ TB := tb_of (tb_m2 (List.mem_of_getElem? (i := 15) rfl)) rfl
theorem q256 : Cond.fieldLink RX0 27 "AlongsideLines$Ship" "lines" "LAlongsideLines$Lines;" ∈ TB := tb_of (tb_m2 (List.mem_of_getElem? (i := 16) rfl)) rfl
theorem q257 : Cond.fieldLink RX10 187 "AlongsideLines$Ship" "lines" "LAlongsideLines$Lines;" ∈ TB := tb_of (tb_m2 (List.mem_of_getElem? (i := 17) rfl)) rfl
theorem q258 : Cond.fieldLink RX7 190 "AlongsideLines$Ship" "paceGain" "I" ∈ TB := tb_of (tb_m2 (List.mem_of_getElem? (i := 18) rfl)) rfl
theorem q259 : Cond.fieldLink RX7 199 "AlongsideLines$Ship" "driftGain" "I" ∈ TB := tb_of (tb_m2 (List.mem_of_getElem? (i := 19) rfl)) rfl
theorem q260 : Cond.fieldLink RX7 208 "AlongsideLines$Ship" "turnGain" "I" ∈ TB := tb_of (tb_m2 (List.mem_of_getElem? (i := 20) rfl)) rfl
theorem q261 : Cond.lays "AlongsideLines$Ship" "AlongsideLines$Ship" "x" "I" ∈ TB := tb_of (tb_m2 (List.mem_of_getElem? (i := 21) rfl)) rfl
theorem q263 : Cond.lays "AlongsideLines$Ship" "AlongsideLines$Ship" "y" "I" ∈ TB := tb_of (tb_m2 (List.mem_of_getElem? (i := 23) rfl)) rfl
theorem q265 : Cond.lays "AlongsideLines$Ship" "AlongsideLines$Ship" "angle" "I" ∈ TB := tb_of (tb_m2 (List.mem_of_getElem? (i := 25) rfl)) rfl
theorem q267 : Cond.lays "AlongsideLines$Ship" "AlongsideLines$Ship" "pace" "I" ∈ TB := tb_of (tb_m2 (List.mem_of_getElem? (i := 27) rfl)) rfl
theorem q269 : Cond.lays "AlongsideLines$Ship" "AlongsideLines$Ship" "drift" "I" ∈ TB := tb_of (tb_m2 (List.mem_of_getElem? (i := 29) rfl)) rfl
theorem q271 : Cond.lays "AlongsideLines$Ship" "AlongsideLines$Ship" "turn" "I" ∈ TB := tb_of (tb_m2 (List.mem_of_getElem? (i := 31) rfl)) rfl
theorem q273 : Cond.lays "AlongsideLines$Ship" "AlongsideLines$Ship" "engine" "I" ∈ TB := tb_of (tb_m2 (List.mem_of_getElem? (i := 33) rfl)) rfl
theorem q275 : Cond.lays "AlongsideLines$Ship" "AlongsideLines$Ship" "wheel" "I" ∈ TB := tb_of (tb_m2 (List.mem_of_getElem? (i := 35) rfl)) rfl
theorem q277 : Cond.lays "AlongsideLines$Ship" "AlongsideLines$Ship" "tugForce" "I" ∈ TB := tb_of (tb_m2 (List.mem_of_getElem? (i := 37) rfl)) rfl
theorem q279 : Cond.lays "AlongsideLines$Ship" "AlongsideLines$Ship" "seconds" "I" ∈ TB := tb_of (tb_m2 (List.mem_of_getElem? (i := 39) rfl)) rfl
theorem q281 : Cond.lays "AlongsideLines$Ship" "AlongsideLines$Ship" "knocks" "I" ∈ TB := tb_of (tb_m2 (List.mem_of_getElem? (i := 41) rfl)) rfl
theorem q283 : Cond.lays "AlongsideLines$Ship" "AlongsideLines$Ship" "fell" "I" ∈ TB := tb_of (tb_m2 (List.mem_of_getElem? (i := 43) rfl)) rfl
theorem q285 : Cond.lays "AlongsideLines$Ship" "AlongsideLines$Ship" "draws" "I" ∈ TB := tb_of (tb_m2 (List.mem_of_getElem? (i := 45) rfl)) rfl
theorem q287 : Cond.lays "AlongsideLines$Ship" "AlongsideLines$Ship" "harm" "J" ∈ TB := tb_of (tb_m2 (List.mem_of_getElem? (i := 47) rfl)) rfl
theorem q289 : Cond.laysFinal "AlongsideLines$Ship" "AlongsideLines$Ship" "lines" "LAlongsideLines$Lines;" ∈ TB := tb_of (tb_m2 (List.mem_of_getElem? (i := 49) rfl)) rfl
theorem q291 : Cond.lays "AlongsideLines$Ship" "AlongsideLines$Ship" "paceGain" "I" ∈ TB := tb_of (tb_m2 (List.mem_of_getElem? (i := 51) rfl)) rfl
theorem q293 : Cond.lays "AlongsideLines$Ship" "AlongsideLines$Ship" "driftGain" "I" ∈ TB := tb_of (tb_m2 (List.mem_of_getElem? (i := 53) rfl)) rfl
theorem q295 : Cond.lays "AlongsideLines$Ship" "AlongsideLines$Ship" "turnGain" "I" ∈ TB := tb_of (tb_m2 (List.mem_of_getElem? (i := 55) rfl)) rfl
theorem q299 : Cond.classLink RX10 66 "AlongsideLines$Search" ∈ TB := tb_of (tb_m2 (List.mem_of_getElem? (i := 59) rfl)) rfl
theorem q300 : Cond.instantiable RX6 3 ∈ TB := tb_of (tb_m2 (List.mem_of_getElem? (i := 60) rfl)) rfl
theorem q302 : Cond.instanceMethod yX6_init ∈ TB := tb_of (tb_m2 (List.mem_of_getElem? (i := 62) rfl)) rfl
theorem q303 : Cond.code yX6_init prog_8_method_1_code 1 none ∈ TB := tb_of (tb_m2 (List.mem_of_getElem? (i := 63) rfl)) rfl
theorem q304 : Cond.methodLink RX6 3 (⟨"java/lang/Object", "<init>", "()V"⟩ : MethodName) ∈ TB := tb_of (tb_m2 (List.mem_of_getElem? (i := 64) rfl)) rfl
theorem q305 : Cond.classLink RX6 9 "AlongsideLines$Ship" ∈ TB := tb_of (tb_m2 (List.mem_of_getElem? (i := 65) rfl)) rfl
theorem q307 : Cond.classLink RX6 21 "AlongsideLines$Quay" ∈ TB := tb_of (tb_m2 (List.mem_of_getElem? (i := 67) rfl)) rfl
theorem q309 : Cond.fieldLink RX6 12 "AlongsideLines$Search" "base" "LAlongsideLines$Ship;" ∈ TB := tb_of (tb_m2 (List.mem_of_getElem? (i := 69) rfl)) rfl
theorem q310 : Cond.fieldLink RX6 18 "AlongsideLines$Search" "probe" "LAlongsideLines$Ship;" ∈ TB := tb_of (tb_m2 (List.mem_of_getElem? (i := 70) rfl)) rfl
theorem q311 : Cond.fieldLink RX6 24 "AlongsideLines$Search" "other" "LAlongsideLines$Quay;" ∈ TB := tb_of (tb_m2 (List.mem_of_getElem? (i := 71) rfl)) rfl
theorem q312 : Cond.laysFinal "AlongsideLines$Search" "AlongsideLines$Search" "base" "LAlongsideLines$Ship;" ∈ TB := tb_of (tb_m2 (List.mem_of_getElem? (i := 72) rfl)) rfl
theorem q314 : Cond.laysFinal "AlongsideLines$Search" "AlongsideLines$Search" "probe" "LAlongsideLines$Ship;" ∈ TB := tb_of (tb_m2 (List.mem_of_getElem? (i := 74) rfl)) rfl
theorem q316 : Cond.laysFinal "AlongsideLines$Search" "AlongsideLines$Search" "other" "LAlongsideLines$Quay;" ∈ TB := tb_of (tb_m2 (List.mem_of_getElem? (i := 76) rfl)) rfl
theorem q319 : Cond.classLink RX10 73 "AlongsideLines$Night" ∈ TB := tb_of (tb_m2 (List.mem_of_getElem? (i := 79) rfl)) rfl
theorem q320 : Cond.instantiable RX2 2 ∈ TB := tb_of (tb_m2 (List.mem_of_getElem? (i := 80) rfl)) rfl
theorem q322 : Cond.instanceMethod yX2_init ∈ TB := tb_of (tb_m2 (List.mem_of_getElem? (i := 82) rfl)) rfl
theorem q323 : Cond.code yX2_init prog_4_method_1_code 1 none ∈ TB := tb_of (tb_m2 (List.mem_of_getElem? (i := 83) rfl)) rfl
theorem q324 : Cond.methodLink RX2 3 (⟨"java/lang/Object", "<init>", "()V"⟩ : MethodName) ∈ TB := tb_of (tb_m2 (List.mem_of_getElem? (i := 84) rfl)) rfl
theorem q325 : Cond.fieldLink RX2 19 "AlongsideLines$Night" "size" "I" ∈ TB := tb_of (tb_m2 (List.mem_of_getElem? (i := 85) rfl)) rfl
theorem q326 : Cond.fieldLink RX10 282 "AlongsideLines$Night" "size" "I" ∈ TB := tb_of (tb_m2 (List.mem_of_getElem? (i := 86) rfl)) rfl
theorem q327 : Cond.fieldLink RX2 11 "AlongsideLines$Night" "hours" "[I" ∈ TB := tb_of (tb_m2 (List.mem_of_getElem? (i := 87) rfl)) rfl
theorem q328 : Cond.lays "AlongsideLines$Night" "AlongsideLines$Night" "size" "I" ∈ TB := tb_of (tb_m2 (List.mem_of_getElem? (i := 88) rfl)) rfl
theorem q330 : Cond.laysFinal "AlongsideLines$Night" "AlongsideLines$Night" "hours" "[I" ∈ TB := tb_of (tb_m2 (List.mem_of_getElem? (i := 90) rfl)) rfl
theorem q333 : Cond.classLink RX10 80 "AlongsideLines$LettingGo" ∈ TB := tb_of (tb_m2 (List.mem_of_getElem? (i := 93) rfl)) rfl
theorem q334 : Cond.instantiable RX0 4 ∈ TB := tb_of (tb_m2 (List.mem_of_getElem? (i := 94) rfl)) rfl
theorem q336 : Cond.instanceMethod yX0_init ∈ TB := tb_of (tb_m2 (List.mem_of_getElem? (i := 96) rfl)) rfl
theorem q337 : Cond.code yX0_init prog_2_method_1_code 1 none ∈ TB := tb_of (tb_m2 (List.mem_of_getElem? (i := 97) rfl)) rfl
theorem q338 : Cond.methodLink RX0 5 (⟨"java/lang/Object", "<init>", "()V"⟩ : MethodName) ∈ TB := tb_of (tb_m2 (List.mem_of_getElem? (i := 98) rfl)) rfl
theorem q339 : Cond.fieldLink RX0 11 "AlongsideLines$LettingGo" "shares" "[I" ∈ TB := tb_of (tb_m2 (List.mem_of_getElem? (i := 99) rfl)) rfl
theorem q340 : Cond.fieldLink RX0 17 "AlongsideLines$LettingGo" "strengths" "[I" ∈ TB := tb_of (tb_m2 (List.mem_of_getElem? (i := 100) rfl)) rfl
theorem q341 : Cond.fieldLink RX0 20 "AlongsideLines$LettingGo" "best" "[I" ∈ TB := tb_of (tb_m2 (List.mem_of_getElem? (i := 101) rfl)) rfl
theorem q342 : Cond.fieldLink RX0 23 "AlongsideLines$LettingGo" "all" "I" ∈ TB := tb_of (tb_m2 (List.mem_of_getElem? (i := 102) rfl)) rfl
theorem q343 : Cond.laysFinal "AlongsideLines$LettingGo" "AlongsideLines$LettingGo" "shares" "[I" ∈ TB := tb_of (tb_m2 (List.mem_of_getElem? (i := 103) rfl)) rfl
theorem q345 : Cond.laysFinal "AlongsideLines$LettingGo" "AlongsideLines$LettingGo" "strengths" "[I" ∈ TB := tb_of (tb_m2 (List.mem_of_getElem? (i := 105) rfl)) rfl
theorem q347 : Cond.laysFinal "AlongsideLines$LettingGo" "AlongsideLines$LettingGo" "best" "[I" ∈ TB := tb_of (tb_m2 (List.mem_of_getElem? (i := 107) rfl)) rfl
theorem q349 : Cond.lays "AlongsideLines$LettingGo" "AlongsideLines$LettingGo" "all" "I" ∈ TB := tb_of (tb_m2 (List.mem_of_getElem? (i := 109) rfl)) rfl
theorem q352 : Cond.methodLink RX10 91 yX4_becomeUntold ∈ TB := tb_of (tb_m2 (List.mem_of_getElem? (i := 112) rfl)) rfl
theorem q353 : Cond.instanceMethod yX4_becomeUntold ∈ TB := tb_of (tb_m2 (List.mem_of_getElem? (i := 113) rfl)) rfl
theorem q354 : Cond.selects RX4 yX4_becomeUntold yX4_becomeUntold ∈ TB := tb_of (tb_m2 (List.mem_of_getElem? (i := 114) rfl)) rfl
theorem q355 : Cond.code yX4_becomeUntold prog_6_method_2_code 2 none ∈ TB := tb_of (tb_m2 (List.mem_of_getElem? (i := 115) rfl)) rfl
theorem q356 : Cond.fieldLink RX4 16 "AlongsideLines$Quay" "UNTOLD" "[I" ∈ TB := tb_of (tb_m2 (List.mem_of_getElem? (i := 116) rfl)) rfl
theorem q358 : Cond.methodLink RX4 19 yX4_become ∈ TB := tb_of (tb_m2 (List.mem_of_getElem? (i := 118) rfl)) rfl
theorem q359 : Cond.instanceMethod yX4_become ∈ TB := tb_of (tb_m2 (List.mem_of_getElem? (i := 119) rfl)) rfl
theorem q360 : Cond.selects RX4 yX4_become yX4_become ∈ TB := tb_of (tb_m2 (List.mem_of_getElem? (i := 120) rfl)) rfl
theorem q361 : Cond.code yX4_become prog_6_method_5_code 3 none ∈ TB := tb_of (tb_m2 (List.mem_of_getElem? (i := 121) rfl)) rfl
theorem q362 : Cond.methodLink RX10 94 yX7_becomeFirst ∈ TB := tb_of (tb_m2 (List.mem_of_getElem? (i := 122) rfl)) rfl
theorem q363 : Cond.instanceMethod yX7_becomeFirst ∈ TB := tb_of (tb_m2 (List.mem_of_getElem? (i := 123) rfl)) rfl
theorem q364 : Cond.selects RX7 yX7_becomeFirst yX7_becomeFirst ∈ TB := tb_of (tb_m2 (List.mem_of_getElem? (i := 124) rfl)) rfl
theorem q365 : Cond.code yX7_becomeFirst prog_9_method_4_code 2 none ∈ TB := tb_of (tb_m2 (List.mem_of_getElem? (i := 125) rfl)) rfl
theorem q366 : Cond.methodLink RX7 23 yX7_become ∈ TB := tb_of (tb_m2 (List.mem_of_getElem? (i := 126) rfl)) rfl
theorem q367 : Cond.instanceMethod yX7_become ∈ TB := tb_of (tb_m2 (List.mem_of_getElem? (i := 127) rfl)) rfl
theorem q368 : Cond.selects RX7 yX7_become yX7_become ∈ TB := tb_of (tb_m2 (List.mem_of_getElem? (i := 128) rfl)) rfl
theorem q369 : Cond.code yX7_become prog_9_method_6_code 3 none ∈ TB := tb_of (tb_m2 (List.mem_of_getElem? (i := 129) rfl)) rfl
theorem q370 : Cond.methodLink RX7 47 yX1_letAllGo ∈ TB := tb_of (tb_m2 (List.mem_of_getElem? (i := 130) rfl)) rfl
theorem q371 : Cond.instanceMethod yX1_letAllGo ∈ TB := tb_of (tb_m2 (List.mem_of_getElem? (i := 131) rfl)) rfl
theorem q372 : Cond.selects RX1 yX1_letAllGo yX1_letAllGo ∈ TB := tb_of (tb_m2 (List.mem_of_getElem? (i := 132) rfl)) rfl
theorem q373 : Cond.code yX1_letAllGo prog_3_method_5_code 2 none ∈ TB := tb_of (tb_m2 (List.mem_of_getElem? (i := 133) rfl)) rfl
theorem q374 : Cond.fieldLink RX10 10 "AlongsideLines" "text" "LAlongsideLines$Text;" ∈ TB := tb_of (tb_m2 (List.mem_of_getElem? (i := 134) rfl)) rfl
theorem q375 : Cond.fieldLink RX10 19 "AlongsideLines" "reader" "LAlongsideLines$Reader;" ∈ TB := tb_of (tb_m2 (List.mem_of_getElem? (i := 135) rfl)) rfl
theorem q376 : Cond.fieldLink RX10 26 "AlongsideLines" "quay" "LAlongsideLines$Quay;" ∈ TB := tb_of (tb_m2 (List.mem_of_getElem? (i := 136) rfl)) rfl
theorem q377 : Cond.fieldLink RX10 33 "AlongsideLines" "plan" "LAlongsideLines$Plan;" ∈ TB := tb_of (tb_m2 (List.mem_of_getElem? (i := 137) rfl)) rfl
theorem q378 : Cond.fieldLink RX10 40 "AlongsideLines" "tide" "LAlongsideLines$Tide;" ∈ TB := tb_of (tb_m2 (List.mem_of_getElem? (i := 138) rfl)) rfl
theorem q379 : Cond.fieldLink RX10 47 "AlongsideLines" "ship" "LAlongsideLines$Ship;" ∈ TB := tb_of (tb_m2 (List.mem_of_getElem? (i := 139) rfl)) rfl
theorem q380 : Cond.fieldLink RX10 51 "AlongsideLines" "images" "[LAlongsideLines$Ship;" ∈ TB := tb_of (tb_m2 (List.mem_of_getElem? (i := 140) rfl)) rfl
theorem q381 : Cond.fieldLink RX10 55 "AlongsideLines" "kept" "[Z" ∈ TB := tb_of (tb_m2 (List.mem_of_getElem? (i := 141) rfl)) rfl
theorem q382 : Cond.fieldLink RX10 59 "AlongsideLines" "logged" "[I" ∈ TB := tb_of (tb_m2 (List.mem_of_getElem? (i := 142) rfl)) rfl
theorem q383 : Cond.fieldLink RX10 63 "AlongsideLines" "trial" "LAlongsideLines$Ship;" ∈ TB := tb_of (tb_m2 (List.mem_of_getElem? (i := 143) rfl)) rfl
theorem q384 : Cond.fieldLink RX10 69 "AlongsideLines" "search" "LAlongsideLines$Search;" ∈ TB := tb_of (tb_m2 (List.mem_of_getElem? (i := 144) rfl)) rfl
theorem q385 : Cond.fieldLink RX10 76 "AlongsideLines" "night" "LAlongsideLines$Night;" ∈ TB := tb_of (tb_m2 (List.mem_of_getElem? (i := 145) rfl)) rfl
theorem q386 : Cond.fieldLink RX10 83 "AlongsideLines" "lettingGo" "LAlongsideLines$LettingGo;" ∈ TB := tb_of (tb_m2 (List.mem_of_getElem? (i := 146) rfl)) rfl
theorem q387 : Cond.fieldLink RX10 301 "AlongsideLines" "logSize" "I" ∈ TB := tb_of (tb_m2 (List.mem_of_getElem? (i := 147) rfl)) rfl
theorem q388 : Cond.fieldLink RX10 87 "AlongsideLines" "faultAt" "I" ∈ TB := tb_of (tb_m2 (List.mem_of_getElem? (i := 148) rfl)) rfl
theorem q389 : Cond.laysFinal "AlongsideLines" "AlongsideLines" "text" "LAlongsideLines$Text;" ∈ TB := tb_of (tb_m2 (List.mem_of_getElem? (i := 149) rfl)) rfl
theorem q391 : Cond.laysFinal "AlongsideLines" "AlongsideLines" "reader" "LAlongsideLines$Reader;" ∈ TB := tb_of (tb_m2 (List.mem_of_getElem? (i := 151) rfl)) rfl
theorem q393 : Cond.laysFinal "AlongsideLines" "AlongsideLines" "quay" "LAlongsideLines$Quay;" ∈ TB := tb_of (tb_m2 (List.mem_of_getElem? (i := 153) rfl)) rfl
theorem q395 : Cond.laysFinal "AlongsideLines" "AlongsideLines" "plan" "LAlongsideLines$Plan;" ∈ TB := tb_of (tb_m2 (List.mem_of_getElem? (i := 155) rfl)) rfl
theorem q397 : Cond.laysFinal "AlongsideLines" "AlongsideLines" "tide" "LAlongsideLines$Tide;" ∈ TB := tb_of (tb_m2 (List.mem_of_getElem? (i := 157) rfl)) rfl
theorem q399 : Cond.laysFinal "AlongsideLines" "AlongsideLines" "ship" "LAlongsideLines$Ship;" ∈ TB := tb_of (tb_m2 (List.mem_of_getElem? (i := 159) rfl)) rfl
theorem q401 : Cond.laysFinal "AlongsideLines" "AlongsideLines" "images" "[LAlongsideLines$Ship;" ∈ TB := tb_of (tb_m2 (List.mem_of_getElem? (i := 161) rfl)) rfl
theorem q403 : Cond.laysFinal "AlongsideLines" "AlongsideLines" "kept" "[Z" ∈ TB := tb_of (tb_m2 (List.mem_of_getElem? (i := 163) rfl)) rfl
theorem q405 : Cond.laysFinal "AlongsideLines" "AlongsideLines" "logged" "[I" ∈ TB := tb_of (tb_m2 (List.mem_of_getElem? (i := 165) rfl)) rfl
theorem q407 : Cond.laysFinal "AlongsideLines" "AlongsideLines" "trial" "LAlongsideLines$Ship;" ∈ TB := tb_of (tb_m2 (List.mem_of_getElem? (i := 167) rfl)) rfl
theorem q409 : Cond.laysFinal "AlongsideLines" "AlongsideLines" "search" "LAlongsideLines$Search;" ∈ TB := tb_of (tb_m2 (List.mem_of_getElem? (i := 169) rfl)) rfl
theorem q411 : Cond.laysFinal "AlongsideLines" "AlongsideLines" "night" "LAlongsideLines$Night;" ∈ TB := tb_of (tb_m2 (List.mem_of_getElem? (i := 171) rfl)) rfl
theorem q413 : Cond.laysFinal "AlongsideLines" "AlongsideLines" "lettingGo" "LAlongsideLines$LettingGo;" ∈ TB := tb_of (tb_m2 (List.mem_of_getElem? (i := 173) rfl)) rfl
theorem q415 : Cond.lays "AlongsideLines" "AlongsideLines" "logSize" "I" ∈ TB := tb_of (tb_m2 (List.mem_of_getElem? (i := 175) rfl)) rfl
theorem q417 : Cond.lays "AlongsideLines" "AlongsideLines" "faultAt" "I" ∈ TB := tb_of (tb_m2 (List.mem_of_getElem? (i := 177) rfl)) rfl
theorem q420 : Cond.methodLink RL 15 yX10_feed ∈ TB := tb_of (tb_m2 (List.mem_of_getElem? (i := 180) rfl)) rfl
theorem q421 : Cond.instanceMethod yX10_feed ∈ TB := tb_of (tb_m2 (List.mem_of_getElem? (i := 181) rfl)) rfl
theorem q422 : Cond.selects RX10 yX10_feed yX10_feed ∈ TB := tb_of (tb_m2 (List.mem_of_getElem? (i := 182) rfl)) rfl
theorem q423 : Cond.code yX10_feed prog_1_method_2_code 4 (Option.some FieldType.int) ∈ TB := tb_of (tb_m2 (List.mem_of_getElem? (i := 183) rfl)) rfl
theorem q424 : Cond.constant RX10 97 (-1000000002) ∈ TB := tb_of (tb_m2 (List.mem_of_getElem? (i := 184) rfl)) rfl
theorem q425 : Cond.constant RX10 101 (-1000000004) ∈ TB := tb_of (tb_m2 (List.mem_of_getElem? (i := 185) rfl)) rfl
theorem q426 : Cond.methodLink RX10 102 yX8_append ∈ TB := tb_of (tb_m2 (List.mem_of_getElem? (i := 186) rfl)) rfl
theorem q427 : Cond.instanceMethod yX8_append ∈ TB := tb_of (tb_m2 (List.mem_of_getElem? (i := 187) rfl)) rfl
theorem q428 : Cond.selects RX8 yX8_append yX8_append ∈ TB := tb_of (tb_m2 (List.mem_of_getElem? (i := 188) rfl)) rfl
theorem q429 : Cond.code yX8_append prog_10_method_2_code 5 none ∈ TB := tb_of (tb_m2 (List.mem_of_getElem? (i := 189) rfl)) rfl
theorem q430 : Cond.methodLink RL 20 yX10_quay ∈ TB := tb_of (tb_m2 (List.mem_of_getElem? (i := 190) rfl)) rfl
theorem q431 : Cond.instanceMethod yX10_quay ∈ TB := tb_of (tb_m2 (List.mem_of_getElem? (i := 191) rfl)) rfl
theorem q432 : Cond.selects RX10 yX10_quay yX10_quay ∈ TB := tb_of (tb_m2 (List.mem_of_getElem? (i := 192) rfl)) rfl
theorem q433 : Cond.code yX10_quay prog_1_method_3_code 1 (Option.some FieldType.int) ∈ TB := tb_of (tb_m2 (List.mem_of_getElem? (i := 193) rfl)) rfl
theorem q434 : Cond.methodLink RX10 106 yX10_readText ∈ TB := tb_of (tb_m2 (List.mem_of_getElem? (i := 194) rfl)) rfl
theorem q436 : Cond.instanceMethod yX10_readText ∈ TB := tb_of (tb_m2 (List.mem_of_getElem? (i := 196) rfl)) rfl
theorem q437 : Cond.code yX10_readText prog_1_method_36_code 2 (Option.some FieldType.boolean) ∈ TB := tb_of (tb_m2 (List.mem_of_getElem? (i := 197) rfl)) rfl
theorem q438 : Cond.methodLink RX10 319 yX5_read ∈ TB := tb_of (tb_m2 (List.mem_of_getElem? (i := 198) rfl)) rfl
theorem q439 : Cond.instanceMethod yX5_read ∈ TB := tb_of (tb_m2 (List.mem_of_getElem? (i := 199) rfl)) rfl
theorem q440 : Cond.selects RX5 yX5_read yX5_read ∈ TB := tb_of (tb_m2 (List.mem_of_getElem? (i := 200) rfl)) rfl
theorem q441 : Cond.code yX5_read prog_7_method_2_code 4 none ∈ TB := tb_of (tb_m2 (List.mem_of_getElem? (i := 201) rfl)) rfl
theorem q442 : Cond.methodLink RX5 49 yX4_becomeUntold ∈ TB := tb_of (tb_m2 (List.mem_of_getElem? (i := 202) rfl)) rfl
theorem q443 : Cond.methodLink RX5 58 yX8_behindBlanks ∈ TB := tb_of (tb_m2 (List.mem_of_getElem? (i := 203) rfl)) rfl
theorem q444 : Cond.instanceMethod yX8_behindBlanks ∈ TB := tb_of (tb_m2 (List.mem_of_getElem? (i := 204) rfl)) rfl
theorem q445 : Cond.selects RX8 yX8_behindBlanks yX8_behindBlanks ∈ TB := tb_of (tb_m2 (List.mem_of_getElem? (i := 205) rfl)) rfl
theorem q446 : Cond.code yX8_behindBlanks prog_10_method_6_code 3 (Option.some FieldType.int) ∈ TB := tb_of (tb_m2 (List.mem_of_getElem? (i := 206) rfl)) rfl
theorem q447 : Cond.methodLink RX8 17 yX8_byteAt ∈ TB := tb_of (tb_m2 (List.mem_of_getElem? (i := 207) rfl)) rfl
theorem q448 : Cond.instanceMethod yX8_byteAt ∈ TB := tb_of (tb_m2 (List.mem_of_getElem? (i := 208) rfl)) rfl
theorem q449 : Cond.selects RX8 yX8_byteAt yX8_byteAt ∈ TB := tb_of (tb_m2 (List.mem_of_getElem? (i := 209) rfl)) rfl
theorem q450 : Cond.code yX8_byteAt prog_10_method_3_code 2 (Option.some FieldType.int) ∈ TB := tb_of (tb_m2 (List.mem_of_getElem? (i := 210) rfl)) rfl
theorem q451 : Cond.methodLink RX5 63 yX5_readClause ∈ TB := tb_of (tb_m2 (List.mem_of_getElem? (i := 211) rfl)) rfl
theorem q453 : Cond.instanceMethod yX5_readClause ∈ TB := tb_of (tb_m2 (List.mem_of_getElem? (i := 213) rfl)) rfl
theorem q454 : Cond.code yX5_readClause prog_7_method_3_code 7 none ∈ TB := tb_of (tb_m2 (List.mem_of_getElem? (i := 214) rfl)) rfl
theorem q455 : Cond.methodLink RX5 67 yX8_behindLetters ∈ TB := tb_of (tb_m2 (List.mem_of_getElem? (i := 215) rfl)) rfl
theorem q456 : Cond.instanceMethod yX8_behindLetters ∈ TB := tb_of (tb_m2 (List.mem_of_getElem? (i := 216) rfl)) rfl
theorem q457 : Cond.selects RX8 yX8_behindLetters yX8_behindLetters ∈ TB := tb_of (tb_m2 (List.mem_of_getElem? (i := 217) rfl)) rfl
theorem q458 : Cond.code yX8_behindLetters prog_10_method_7_code 3 (Option.some FieldType.int) ∈ TB := tb_of (tb_m2 (List.mem_of_getElem? (i := 218) rfl)) rfl
theorem q459 : Cond.methodLink RX8 21 yX8_isLetter ∈ TB := tb_of (tb_m2 (List.mem_of_getElem? (i := 219) rfl)) rfl
theorem q460 : Cond.static yX8_isLetter ∈ TB := tb_of (tb_m2 (List.mem_of_getElem? (i := 220) rfl)) rfl
theorem q461 : Cond.code yX8_isLetter prog_10_method_4_code 1 (Option.some FieldType.boolean) ∈ TB := tb_of (tb_m2 (List.mem_of_getElem? (i := 221) rfl)) rfl
theorem q462 : Cond.methodLink RX5 70 yX5_clauseOf ∈ TB := tb_of (tb_m2 (List.mem_of_getElem? (i := 222) rfl)) rfl
theorem q463 : Cond.static yX5_clauseOf ∈ TB := tb_of (tb_m2 (List.mem_of_getElem? (i := 223) rfl)) rfl
theorem q464 : Cond.code yX5_clauseOf prog_7_method_10_code 5 (Option.some FieldType.int) ∈ TB := tb_of (tb_m2 (List.mem_of_getElem? (i := 224) rfl)) rfl
theorem q465 : Cond.fieldLink RX5 137 "AlongsideLines$Reader" "FIRST_CLAUSE" "[I" ∈ TB := tb_of (tb_m2 (List.mem_of_getElem? (i := 225) rfl)) rfl
theorem q467 : Cond.fieldLink RX5 140 "AlongsideLines$Reader" "LAST_CLAUSE" "[I" ∈ TB := tb_of (tb_m2 (List.mem_of_getElem? (i := 227) rfl)) rfl
theorem q469 : Cond.methodLink RX5 143 yX5_wordOf ∈ TB := tb_of (tb_m2 (List.mem_of_getElem? (i := 229) rfl)) rfl
theorem q470 : Cond.static yX5_wordOf ∈ TB := tb_of (tb_m2 (List.mem_of_getElem? (i := 230) rfl)) rfl
theorem q471 : Cond.code yX5_wordOf prog_7_method_11_code 1 (Option.some (FieldType.object "java/lang/String")) ∈ TB := tb_of (tb_m2 (List.mem_of_getElem? (i := 231) rfl)) rfl
theorem q483 : Cond.methodLink RX5 147 yX8_isWord ∈ TB := tb_of (tb_m3 (List.mem_of_getElem? (i := 3) rfl)) rfl
theorem q484 : Cond.instanceMethod yX8_isWord ∈ TB := tb_of (tb_m3 (List.mem_of_getElem? (i := 4) rfl)) rfl
theorem q485 : Cond.selects RX8 yX8_isWord yX8_isWord ∈ TB := tb_of (tb_m3 (List.mem_of_getElem? (i := 5) rfl)) rfl
theorem q486 : Cond.code yX8_isWord prog_10_method_9_code 5 (Option.some FieldType.boolean) ∈ TB := tb_of (tb_m3 (List.mem_of_getElem? (i := 6) rfl)) rfl
theorem q487 : Cond.methodLink RX8 28 yJ0_length_8abf5 ∈ TB := tb_of (tb_m3 (List.mem_of_getElem? (i := 7) rfl)) rfl
theorem q488 : Cond.instanceMethod yJ0_length_8abf5 ∈ TB := tb_of (tb_m3 (List.mem_of_getElem? (i := 8) rfl)) rfl
theorem q489 : Cond.selects RJ0 yJ0_length_8abf5 yJ0_length_8abf5 ∈ TB := tb_of (tb_m3 (List.mem_of_getElem? (i := 9) rfl)) rfl
theorem q490 : Cond.code yJ0_length_8abf5 prog_15_method_54_code 1 (Option.some FieldType.int) ∈ TB := tb_of (tb_m3 (List.mem_of_getElem? (i := 10) rfl)) rfl
theorem q491 : Cond.methodLink RJ0 335 yJ0_coder_7d493 ∈ TB := tb_of (tb_m3 (List.mem_of_getElem? (i := 11) rfl)) rfl
theorem q492 : Cond.instanceMethod yJ0_coder_7d493 ∈ TB := tb_of (tb_m3 (List.mem_of_getElem? (i := 12) rfl)) rfl
theorem q493 : Cond.selects RJ0 yJ0_coder_7d493 yJ0_coder_7d493 ∈ TB := tb_of (tb_m3 (List.mem_of_getElem? (i := 13) rfl)) rfl
theorem q494 : Cond.code yJ0_coder_7d493 prog_15_method_152_code 1 (Option.some FieldType.byte) ∈ TB := tb_of (tb_m3 (List.mem_of_getElem? (i := 14) rfl)) rfl
theorem q495 : Cond.fieldLink RJ0 38 "java/lang/String" "COMPACT_STRINGS" "Z" ∈ TB := tb_of (tb_m3 (List.mem_of_getElem? (i := 15) rfl)) rfl
theorem q497 : Cond.methodLink RX8 34 yJ0_charAt_5068e ∈ TB := tb_of (tb_m3 (List.mem_of_getElem? (i := 17) rfl)) rfl
theorem q498 : Cond.instanceMethod yJ0_charAt_5068e ∈ TB := tb_of (tb_m3 (List.mem_of_getElem? (i := 18) rfl)) rfl
theorem q499 : Cond.selects RJ0 yJ0_charAt_5068e yJ0_charAt_5068e ∈ TB := tb_of (tb_m3 (List.mem_of_getElem? (i := 19) rfl)) rfl
theorem q500 : Cond.code yJ0_charAt_5068e prog_15_method_56_code 2 (Option.some FieldType.char) ∈ TB := tb_of (tb_m3 (List.mem_of_getElem? (i := 20) rfl)) rfl
theorem q501 : Cond.methodLink RJ0 492 yJ0_isLatin1_aae02 ∈ TB := tb_of (tb_m3 (List.mem_of_getElem? (i := 21) rfl)) rfl
theorem q502 : Cond.instanceMethod yJ0_isLatin1_aae02 ∈ TB := tb_of (tb_m3 (List.mem_of_getElem? (i := 22) rfl)) rfl
theorem q503 : Cond.selects RJ0 yJ0_isLatin1_aae02 yJ0_isLatin1_aae02 ∈ TB := tb_of (tb_m3 (List.mem_of_getElem? (i := 23) rfl)) rfl
theorem q504 : Cond.code yJ0_isLatin1_aae02 prog_15_method_154_code 1 (Option.some FieldType.boolean) ∈ TB := tb_of (tb_m3 (List.mem_of_getElem? (i := 24) rfl)) rfl
theorem q505 : Cond.methodLink RJ0 495 yJ1_charAt_3b067 ∈ TB := tb_of (tb_m3 (List.mem_of_getElem? (i := 25) rfl)) rfl
theorem q506 : Cond.static yJ1_charAt_3b067 ∈ TB := tb_of (tb_m3 (List.mem_of_getElem? (i := 26) rfl)) rfl
theorem q507 : Cond.code yJ1_charAt_3b067 prog_16_method_2_code 2 (Option.some FieldType.char) ∈ TB := tb_of (tb_m3 (List.mem_of_getElem? (i := 27) rfl)) rfl
theorem q508 : Cond.methodLink RJ1 9 yJ0_checkIndex_df160 ∈ TB := tb_of (tb_m3 (List.mem_of_getElem? (i := 28) rfl)) rfl
theorem q509 : Cond.static yJ0_checkIndex_df160 ∈ TB := tb_of (tb_m3 (List.mem_of_getElem? (i := 29) rfl)) rfl
theorem q510 : Cond.code yJ0_checkIndex_df160 prog_15_method_155_code 2 none ∈ TB := tb_of (tb_m3 (List.mem_of_getElem? (i := 30) rfl)) rfl
theorem q511 : Cond.fieldLink RJ0 1053 "jdk/internal/util/Preconditions" "SIOOBE_FORMATTER" "Ljava/util/function/BiFunction;" ∈ TB := tb_of (tb_m3 (List.mem_of_getElem? (i := 31) rfl)) rfl
theorem q513 : Cond.methodLink RJ0 1059 yJ3_checkIndex_8e157 ∈ TB := tb_of (tb_m3 (List.mem_of_getElem? (i := 33) rfl)) rfl
theorem q514 : Cond.static yJ3_checkIndex_8e157 ∈ TB := tb_of (tb_m3 (List.mem_of_getElem? (i := 34) rfl)) rfl
theorem q515 : Cond.code yJ3_checkIndex_8e157 prog_19_method_11_code 3 (Option.some FieldType.int) ∈ TB := tb_of (tb_m3 (List.mem_of_getElem? (i := 35) rfl)) rfl
theorem q516 : Cond.methodLink RJ0 498 yJ2_charAt_3b067 ∈ TB := tb_of (tb_m3 (List.mem_of_getElem? (i := 36) rfl)) rfl
theorem q517 : Cond.static yJ2_charAt_3b067 ∈ TB := tb_of (tb_m3 (List.mem_of_getElem? (i := 37) rfl)) rfl
theorem q518 : Cond.code yJ2_charAt_3b067 prog_17_method_83_code 2 (Option.some FieldType.char) ∈ TB := tb_of (tb_m3 (List.mem_of_getElem? (i := 38) rfl)) rfl
theorem q519 : Cond.methodLink RJ2 67 yJ2_checkIndex_2214a ∈ TB := tb_of (tb_m3 (List.mem_of_getElem? (i := 39) rfl)) rfl
theorem q520 : Cond.static yJ2_checkIndex_2214a ∈ TB := tb_of (tb_m3 (List.mem_of_getElem? (i := 40) rfl)) rfl
theorem q521 : Cond.code yJ2_checkIndex_2214a prog_17_method_91_code 2 none ∈ TB := tb_of (tb_m3 (List.mem_of_getElem? (i := 41) rfl)) rfl
theorem q522 : Cond.methodLink RJ2 48 yJ2_length_9d52b ∈ TB := tb_of (tb_m3 (List.mem_of_getElem? (i := 42) rfl)) rfl
theorem q523 : Cond.static yJ2_length_9d52b ∈ TB := tb_of (tb_m3 (List.mem_of_getElem? (i := 43) rfl)) rfl
theorem q524 : Cond.code yJ2_length_9d52b prog_17_method_6_code 1 (Option.some FieldType.int) ∈ TB := tb_of (tb_m3 (List.mem_of_getElem? (i := 44) rfl)) rfl
theorem q525 : Cond.methodLink RJ2 414 yJ0_checkIndex_df160 ∈ TB := tb_of (tb_m3 (List.mem_of_getElem? (i := 45) rfl)) rfl
theorem q526 : Cond.methodLink RJ2 71 yJ2_getChar_3b067 ∈ TB := tb_of (tb_m3 (List.mem_of_getElem? (i := 46) rfl)) rfl
theorem q527 : Cond.static yJ2_getChar_3b067 ∈ TB := tb_of (tb_m3 (List.mem_of_getElem? (i := 47) rfl)) rfl
theorem q528 : Cond.code yJ2_getChar_3b067 prog_17_method_5_code 2 (Option.some FieldType.char) ∈ TB := tb_of (tb_m3 (List.mem_of_getElem? (i := 48) rfl)) rfl
theorem q529 : Cond.fieldLink RJ2 44 "java/lang/StringUTF16" "$assertionsDisabled" "Z" ∈ TB := tb_of (tb_m3 (List.mem_of_getElem? (i := 49) rfl)) rfl
theorem q531 : Cond.fieldLink RJ2 59 "java/lang/StringUTF16" "HI_BYTE_SHIFT" "I" ∈ TB := tb_of (tb_m3 (List.mem_of_getElem? (i := 51) rfl)) rfl
theorem q533 : Cond.fieldLink RJ2 63 "java/lang/StringUTF16" "LO_BYTE_SHIFT" "I" ∈ TB := tb_of (tb_m3 (List.mem_of_getElem? (i := 53) rfl)) rfl
theorem q535 : Cond.methodLink RX5 74 yX5_fail ∈ TB := tb_of (tb_m3 (List.mem_of_getElem? (i := 55) rfl)) rfl
theorem q537 : Cond.instanceMethod yX5_fail ∈ TB := tb_of (tb_m3 (List.mem_of_getElem? (i := 57) rfl)) rfl
theorem q538 : Cond.code yX5_fail prog_7_method_9_code 3 none ∈ TB := tb_of (tb_m3 (List.mem_of_getElem? (i := 58) rfl)) rfl
theorem q539 : Cond.fieldLink RX5 78 "AlongsideLines$Reader" "TIMES_MOST" "[I" ∈ TB := tb_of (tb_m3 (List.mem_of_getElem? (i := 59) rfl)) rfl
theorem q541 : Cond.fieldLink RX5 81 "AlongsideLines$Reader" "NUMBERS_OF" "[I" ∈ TB := tb_of (tb_m3 (List.mem_of_getElem? (i := 61) rfl)) rfl
theorem q543 : Cond.methodLink RX5 84 yX5_readNumber ∈ TB := tb_of (tb_m3 (List.mem_of_getElem? (i := 63) rfl)) rfl
theorem q545 : Cond.instanceMethod yX5_readNumber ∈ TB := tb_of (tb_m3 (List.mem_of_getElem? (i := 65) rfl)) rfl
theorem q546 : Cond.code yX5_readNumber prog_7_method_4_code 8 none ∈ TB := tb_of (tb_m3 (List.mem_of_getElem? (i := 66) rfl)) rfl
theorem q547 : Cond.methodLink RX5 91 yX8_behindFigures ∈ TB := tb_of (tb_m3 (List.mem_of_getElem? (i := 67) rfl)) rfl
theorem q548 : Cond.instanceMethod yX8_behindFigures ∈ TB := tb_of (tb_m3 (List.mem_of_getElem? (i := 68) rfl)) rfl
theorem q549 : Cond.selects RX8 yX8_behindFigures yX8_behindFigures ∈ TB := tb_of (tb_m3 (List.mem_of_getElem? (i := 69) rfl)) rfl
theorem q550 : Cond.code yX8_behindFigures prog_10_method_8_code 3 (Option.some FieldType.int) ∈ TB := tb_of (tb_m3 (List.mem_of_getElem? (i := 70) rfl)) rfl
theorem q551 : Cond.methodLink RX8 25 yX8_isFigure ∈ TB := tb_of (tb_m3 (List.mem_of_getElem? (i := 71) rfl)) rfl
theorem q552 : Cond.static yX8_isFigure ∈ TB := tb_of (tb_m3 (List.mem_of_getElem? (i := 72) rfl)) rfl
theorem q553 : Cond.code yX8_isFigure prog_10_method_5_code 1 (Option.some FieldType.boolean) ∈ TB := tb_of (tb_m3 (List.mem_of_getElem? (i := 73) rfl)) rfl
theorem q554 : Cond.methodLink RX5 94 yX8_byteAt ∈ TB := tb_of (tb_m3 (List.mem_of_getElem? (i := 74) rfl)) rfl
theorem q555 : Cond.methodLink RX5 97 yX5_isOutOfBounds ∈ TB := tb_of (tb_m3 (List.mem_of_getElem? (i := 75) rfl)) rfl
theorem q557 : Cond.instanceMethod yX5_isOutOfBounds ∈ TB := tb_of (tb_m3 (List.mem_of_getElem? (i := 77) rfl)) rfl
theorem q558 : Cond.code yX5_isOutOfBounds prog_7_method_6_code 5 (Option.some FieldType.boolean) ∈ TB := tb_of (tb_m3 (List.mem_of_getElem? (i := 78) rfl)) rfl
theorem q559 : Cond.fieldLink RX5 109 "AlongsideLines$Reader" "LEAST" "[I" ∈ TB := tb_of (tb_m3 (List.mem_of_getElem? (i := 79) rfl)) rfl
theorem q561 : Cond.fieldLink RX5 112 "AlongsideLines$Reader" "MOST" "[I" ∈ TB := tb_of (tb_m3 (List.mem_of_getElem? (i := 81) rfl)) rfl
theorem q563 : Cond.methodLink RX5 101 yX5_isTakenAlready ∈ TB := tb_of (tb_m3 (List.mem_of_getElem? (i := 83) rfl)) rfl
theorem q565 : Cond.instanceMethod yX5_isTakenAlready ∈ TB := tb_of (tb_m3 (List.mem_of_getElem? (i := 85) rfl)) rfl
theorem q566 : Cond.code yX5_isTakenAlready prog_7_method_7_code 3 (Option.some FieldType.boolean) ∈ TB := tb_of (tb_m3 (List.mem_of_getElem? (i := 86) rfl)) rfl
theorem q567 : Cond.methodLink RX5 115 yX4_hasPostAt ∈ TB := tb_of (tb_m3 (List.mem_of_getElem? (i := 87) rfl)) rfl
theorem q568 : Cond.instanceMethod yX4_hasPostAt ∈ TB := tb_of (tb_m3 (List.mem_of_getElem? (i := 88) rfl)) rfl
theorem q569 : Cond.selects RX4 yX4_hasPostAt yX4_hasPostAt ∈ TB := tb_of (tb_m3 (List.mem_of_getElem? (i := 89) rfl)) rfl
theorem q570 : Cond.code yX4_hasPostAt prog_6_method_10_code 3 (Option.some FieldType.boolean) ∈ TB := tb_of (tb_m3 (List.mem_of_getElem? (i := 90) rfl)) rfl
theorem q571 : Cond.methodLink RX5 119 yX3_isBehind ∈ TB := tb_of (tb_m3 (List.mem_of_getElem? (i := 91) rfl)) rfl
theorem q572 : Cond.instanceMethod yX3_isBehind ∈ TB := tb_of (tb_m3 (List.mem_of_getElem? (i := 92) rfl)) rfl
theorem q573 : Cond.selects RX3 yX3_isBehind yX3_isBehind ∈ TB := tb_of (tb_m3 (List.mem_of_getElem? (i := 93) rfl)) rfl
theorem q574 : Cond.code yX3_isBehind prog_5_method_3_code 2 (Option.some FieldType.boolean) ∈ TB := tb_of (tb_m3 (List.mem_of_getElem? (i := 94) rfl)) rfl
theorem q575 : Cond.methodLink RX5 88 yX5_readEnd ∈ TB := tb_of (tb_m3 (List.mem_of_getElem? (i := 95) rfl)) rfl
theorem q577 : Cond.instanceMethod yX5_readEnd ∈ TB := tb_of (tb_m3 (List.mem_of_getElem? (i := 97) rfl)) rfl
theorem q578 : Cond.code yX5_readEnd prog_7_method_5_code 3 none ∈ TB := tb_of (tb_m3 (List.mem_of_getElem? (i := 98) rfl)) rfl
theorem q579 : Cond.methodLink RX5 105 yX5_store ∈ TB := tb_of (tb_m3 (List.mem_of_getElem? (i := 99) rfl)) rfl
theorem q581 : Cond.instanceMethod yX5_store ∈ TB := tb_of (tb_m3 (List.mem_of_getElem? (i := 101) rfl)) rfl
theorem q582 : Cond.code yX5_store prog_7_method_8_code 3 none ∈ TB := tb_of (tb_m3 (List.mem_of_getElem? (i := 102) rfl)) rfl
theorem q583 : Cond.methodLink RX5 122 yX4_addPost ∈ TB := tb_of (tb_m3 (List.mem_of_getElem? (i := 103) rfl)) rfl
theorem q584 : Cond.instanceMethod yX4_addPost ∈ TB := tb_of (tb_m3 (List.mem_of_getElem? (i := 104) rfl)) rfl
theorem q585 : Cond.selects RX4 yX4_addPost yX4_addPost ∈ TB := tb_of (tb_m3 (List.mem_of_getElem? (i := 105) rfl)) rfl
theorem q586 : Cond.code yX4_addPost prog_6_method_11_code 3 none ∈ TB := tb_of (tb_m3 (List.mem_of_getElem? (i := 106) rfl)) rfl
theorem q587 : Cond.methodLink RX5 125 yX3_add ∈ TB := tb_of (tb_m3 (List.mem_of_getElem? (i := 107) rfl)) rfl
theorem q588 : Cond.instanceMethod yX3_add ∈ TB := tb_of (tb_m3 (List.mem_of_getElem? (i := 108) rfl)) rfl
theorem q589 : Cond.selects RX3 yX3_add yX3_add ∈ TB := tb_of (tb_m3 (List.mem_of_getElem? (i := 109) rfl)) rfl
theorem q590 : Cond.code yX3_add prog_5_method_4_code 4 none ∈ TB := tb_of (tb_m3 (List.mem_of_getElem? (i := 110) rfl)) rfl
theorem q591 : Cond.methodLink RX5 129 yX9_add ∈ TB := tb_of (tb_m3 (List.mem_of_getElem? (i := 111) rfl)) rfl
theorem q592 : Cond.instanceMethod yX9_add ∈ TB := tb_of (tb_m3 (List.mem_of_getElem? (i := 112) rfl)) rfl
theorem q593 : Cond.selects RX9 yX9_add yX9_add ∈ TB := tb_of (tb_m3 (List.mem_of_getElem? (i := 113) rfl)) rfl
theorem q594 : Cond.code yX9_add prog_11_method_5_code 2 none ∈ TB := tb_of (tb_m3 (List.mem_of_getElem? (i := 114) rfl)) rfl
theorem q595 : Cond.fieldLink RX5 131 "AlongsideLines$Reader" "FIRST_TOLD" "[I" ∈ TB := tb_of (tb_m3 (List.mem_of_getElem? (i := 115) rfl)) rfl
theorem q597 : Cond.methodLink RX5 134 yX4_become ∈ TB := tb_of (tb_m3 (List.mem_of_getElem? (i := 117) rfl)) rfl
theorem q598 : Cond.methodLink RX10 116 yX4_copyFrom ∈ TB := tb_of (tb_m3 (List.mem_of_getElem? (i := 118) rfl)) rfl
theorem q599 : Cond.instanceMethod yX4_copyFrom ∈ TB := tb_of (tb_m3 (List.mem_of_getElem? (i := 119) rfl)) rfl
theorem q600 : Cond.selects RX4 yX4_copyFrom yX4_copyFrom ∈ TB := tb_of (tb_m3 (List.mem_of_getElem? (i := 120) rfl)) rfl
theorem q601 : Cond.code yX4_copyFrom prog_6_method_3_code 3 none ∈ TB := tb_of (tb_m3 (List.mem_of_getElem? (i := 121) rfl)) rfl
theorem q602 : Cond.methodLink RX4 27 yX4_number ∈ TB := tb_of (tb_m3 (List.mem_of_getElem? (i := 122) rfl)) rfl
theorem q603 : Cond.instanceMethod yX4_number ∈ TB := tb_of (tb_m3 (List.mem_of_getElem? (i := 123) rfl)) rfl
theorem q604 : Cond.selects RX4 yX4_number yX4_number ∈ TB := tb_of (tb_m3 (List.mem_of_getElem? (i := 124) rfl)) rfl
theorem q605 : Cond.code yX4_number prog_6_method_4_code 2 (Option.some FieldType.int) ∈ TB := tb_of (tb_m3 (List.mem_of_getElem? (i := 125) rfl)) rfl
theorem q606 : Cond.methodLink RX4 31 (⟨"java/lang/System", "arraycopy", "(Ljava/lang/Object;ILjava/lang/Object;II)V"⟩ : MethodName) ∈ TB := tb_of (tb_m3 (List.mem_of_getElem? (i := 126) rfl)) rfl
theorem q607 : Cond.static (⟨"java/lang/System", "arraycopy", "(Ljava/lang/Object;ILjava/lang/Object;II)V"⟩ : MethodName) ∈ TB := tb_of (tb_m3 (List.mem_of_getElem? (i := 127) rfl)) rfl
theorem q608 : Cond.native (⟨"java/lang/System", "arraycopy", "(Ljava/lang/Object;ILjava/lang/Object;II)V"⟩ : MethodName) ∈ TB := tb_of (tb_m3 (List.mem_of_getElem? (i := 128) rfl)) rfl
theorem q609 : Cond.methodLink RX10 120 yX10_forgetImages ∈ TB := tb_of (tb_m3 (List.mem_of_getElem? (i := 129) rfl)) rfl
theorem q611 : Cond.instanceMethod yX10_forgetImages ∈ TB := tb_of (tb_m3 (List.mem_of_getElem? (i := 131) rfl)) rfl
theorem q612 : Cond.code yX10_forgetImages prog_1_method_37_code 2 none ∈ TB := tb_of (tb_m3 (List.mem_of_getElem? (i := 132) rfl)) rfl
theorem q613 : Cond.arrayClass FieldType.byte ∈ TB := tb_of (tb_m3 (List.mem_of_getElem? (i := 133) rfl)) rfl
theorem q614 : Cond.methodLink RL 25 yX10_plan ∈ TB := tb_of (tb_m3 (List.mem_of_getElem? (i := 134) rfl)) rfl
theorem q615 : Cond.instanceMethod yX10_plan ∈ TB := tb_of (tb_m3 (List.mem_of_getElem? (i := 135) rfl)) rfl
theorem q616 : Cond.selects RX10 yX10_plan yX10_plan ∈ TB := tb_of (tb_m3 (List.mem_of_getElem? (i := 136) rfl)) rfl
theorem q617 : Cond.code yX10_plan prog_1_method_4_code 1 (Option.some FieldType.int) ∈ TB := tb_of (tb_m3 (List.mem_of_getElem? (i := 137) rfl)) rfl
theorem q618 : Cond.methodLink RX10 129 yX3_copyFrom ∈ TB := tb_of (tb_m3 (List.mem_of_getElem? (i := 138) rfl)) rfl
theorem q619 : Cond.instanceMethod yX3_copyFrom ∈ TB := tb_of (tb_m3 (List.mem_of_getElem? (i := 139) rfl)) rfl
theorem q620 : Cond.selects RX3 yX3_copyFrom yX3_copyFrom ∈ TB := tb_of (tb_m3 (List.mem_of_getElem? (i := 140) rfl)) rfl
theorem q621 : Cond.code yX3_copyFrom prog_5_method_2_code 2 none ∈ TB := tb_of (tb_m3 (List.mem_of_getElem? (i := 141) rfl)) rfl
theorem q622 : Cond.methodLink RX3 19 (⟨"java/lang/System", "arraycopy", "(Ljava/lang/Object;ILjava/lang/Object;II)V"⟩ : MethodName) ∈ TB := tb_of (tb_m3 (List.mem_of_getElem? (i := 142) rfl)) rfl
theorem q623 : Cond.methodLink RL 29 yX10_tide ∈ TB := tb_of (tb_m3 (List.mem_of_getElem? (i := 143) rfl)) rfl
theorem q624 : Cond.instanceMethod yX10_tide ∈ TB := tb_of (tb_m3 (List.mem_of_getElem? (i := 144) rfl)) rfl
theorem q625 : Cond.selects RX10 yX10_tide yX10_tide ∈ TB := tb_of (tb_m3 (List.mem_of_getElem? (i := 145) rfl)) rfl
theorem q626 : Cond.code yX10_tide prog_1_method_5_code 1 (Option.some FieldType.int) ∈ TB := tb_of (tb_m3 (List.mem_of_getElem? (i := 146) rfl)) rfl
theorem q627 : Cond.methodLink RX10 136 yX9_copyFrom ∈ TB := tb_of (tb_m3 (List.mem_of_getElem? (i := 147) rfl)) rfl
theorem q628 : Cond.instanceMethod yX9_copyFrom ∈ TB := tb_of (tb_m3 (List.mem_of_getElem? (i := 148) rfl)) rfl
theorem q629 : Cond.selects RX9 yX9_copyFrom yX9_copyFrom ∈ TB := tb_of (tb_m3 (List.mem_of_getElem? (i := 149) rfl)) rfl
theorem q630 : Cond.code yX9_copyFrom prog_11_method_2_code 2 none ∈ TB := tb_of (tb_m3 (List.mem_of_getElem? (i := 150) rfl)) rfl
theorem q631 : Cond.methodLink RX9 13 (⟨"java/lang/System", "arraycopy", "(Ljava/lang/Object;ILjava/lang/Object;II)V"⟩ : MethodName) ∈ TB := tb_of (tb_m3 (List.mem_of_getElem? (i := 151) rfl)) rfl
theorem q632 : Cond.methodLink RL 33 yX10_fault ∈ TB := tb_of (tb_m3 (List.mem_of_getElem? (i := 152) rfl)) rfl
theorem q633 : Cond.instanceMethod yX10_fault ∈ TB := tb_of (tb_m3 (List.mem_of_getElem? (i := 153) rfl)) rfl
theorem q634 : Cond.selects RX10 yX10_fault yX10_fault ∈ TB := tb_of (tb_m3 (List.mem_of_getElem? (i := 154) rfl)) rfl
theorem q635 : Cond.code yX10_fault prog_1_method_6_code 1 (Option.some FieldType.int) ∈ TB := tb_of (tb_m3 (List.mem_of_getElem? (i := 155) rfl)) rfl
theorem q636 : Cond.methodLink RL 37 yX10_told ∈ TB := tb_of (tb_m3 (List.mem_of_getElem? (i := 156) rfl)) rfl
theorem q637 : Cond.instanceMethod yX10_told ∈ TB := tb_of (tb_m3 (List.mem_of_getElem? (i := 157) rfl)) rfl
theorem q638 : Cond.selects RX10 yX10_told yX10_told ∈ TB := tb_of (tb_m3 (List.mem_of_getElem? (i := 158) rfl)) rfl
theorem q639 : Cond.code yX10_told prog_1_method_7_code 2 (Option.some FieldType.int) ∈ TB := tb_of (tb_m3 (List.mem_of_getElem? (i := 159) rfl)) rfl
theorem q640 : Cond.methodLink RX10 140 yX4_number ∈ TB := tb_of (tb_m3 (List.mem_of_getElem? (i := 160) rfl)) rfl
theorem q641 : Cond.methodLink RL 42 yX10_post ∈ TB := tb_of (tb_m3 (List.mem_of_getElem? (i := 161) rfl)) rfl
theorem q642 : Cond.instanceMethod yX10_post ∈ TB := tb_of (tb_m3 (List.mem_of_getElem? (i := 162) rfl)) rfl
theorem q643 : Cond.selects RX10 yX10_post yX10_post ∈ TB := tb_of (tb_m3 (List.mem_of_getElem? (i := 163) rfl)) rfl
theorem q644 : Cond.code yX10_post prog_1_method_8_code 3 (Option.some FieldType.int) ∈ TB := tb_of (tb_m3 (List.mem_of_getElem? (i := 164) rfl)) rfl
theorem q645 : Cond.methodLink RX10 144 yX4_hasPost ∈ TB := tb_of (tb_m3 (List.mem_of_getElem? (i := 165) rfl)) rfl
theorem q646 : Cond.instanceMethod yX4_hasPost ∈ TB := tb_of (tb_m3 (List.mem_of_getElem? (i := 166) rfl)) rfl
theorem q647 : Cond.selects RX4 yX4_hasPost yX4_hasPost ∈ TB := tb_of (tb_m3 (List.mem_of_getElem? (i := 167) rfl)) rfl
theorem q648 : Cond.code yX4_hasPost prog_6_method_7_code 2 (Option.some FieldType.boolean) ∈ TB := tb_of (tb_m3 (List.mem_of_getElem? (i := 168) rfl)) rfl
theorem q649 : Cond.constant RX10 147 (-1000000001) ∈ TB := tb_of (tb_m3 (List.mem_of_getElem? (i := 169) rfl)) rfl
theorem q650 : Cond.methodLink RX10 148 yX4_postPlace ∈ TB := tb_of (tb_m3 (List.mem_of_getElem? (i := 170) rfl)) rfl
theorem q651 : Cond.instanceMethod yX4_postPlace ∈ TB := tb_of (tb_m3 (List.mem_of_getElem? (i := 171) rfl)) rfl
theorem q652 : Cond.selects RX4 yX4_postPlace yX4_postPlace ∈ TB := tb_of (tb_m3 (List.mem_of_getElem? (i := 172) rfl)) rfl
theorem q653 : Cond.code yX4_postPlace prog_6_method_8_code 2 (Option.some FieldType.int) ∈ TB := tb_of (tb_m3 (List.mem_of_getElem? (i := 173) rfl)) rfl
theorem q654 : Cond.methodLink RX10 151 yX4_postStrength ∈ TB := tb_of (tb_m3 (List.mem_of_getElem? (i := 174) rfl)) rfl
theorem q655 : Cond.instanceMethod yX4_postStrength ∈ TB := tb_of (tb_m3 (List.mem_of_getElem? (i := 175) rfl)) rfl
theorem q656 : Cond.selects RX4 yX4_postStrength yX4_postStrength ∈ TB := tb_of (tb_m3 (List.mem_of_getElem? (i := 176) rfl)) rfl
theorem q657 : Cond.code yX4_postStrength prog_6_method_9_code 2 (Option.some FieldType.int) ∈ TB := tb_of (tb_m3 (List.mem_of_getElem? (i := 177) rfl)) rfl
theorem q658 : Cond.methodLink RL 47 yX10_put ∈ TB := tb_of (tb_m3 (List.mem_of_getElem? (i := 178) rfl)) rfl
theorem q659 : Cond.instanceMethod yX10_put ∈ TB := tb_of (tb_m3 (List.mem_of_getElem? (i := 179) rfl)) rfl
theorem q660 : Cond.selects RX10 yX10_put yX10_put ∈ TB := tb_of (tb_m3 (List.mem_of_getElem? (i := 180) rfl)) rfl
theorem q661 : Cond.code yX10_put prog_1_method_9_code 4 (Option.some FieldType.int) ∈ TB := tb_of (tb_m3 (List.mem_of_getElem? (i := 181) rfl)) rfl
theorem q662 : Cond.methodLink RX10 154 yX7_mayBePut ∈ TB := tb_of (tb_m3 (List.mem_of_getElem? (i := 182) rfl)) rfl
theorem q663 : Cond.static yX7_mayBePut ∈ TB := tb_of (tb_m3 (List.mem_of_getElem? (i := 183) rfl)) rfl
theorem q664 : Cond.code yX7_mayBePut prog_9_method_2_code 2 (Option.some FieldType.boolean) ∈ TB := tb_of (tb_m3 (List.mem_of_getElem? (i := 184) rfl)) rfl
theorem q665 : Cond.fieldLink RX7 16 "AlongsideLines$Ship" "PUT_LEAST" "[I" ∈ TB := tb_of (tb_m3 (List.mem_of_getElem? (i := 185) rfl)) rfl
theorem q667 : Cond.fieldLink RX7 20 "AlongsideLines$Ship" "PUT_MOST" "[I" ∈ TB := tb_of (tb_m3 (List.mem_of_getElem? (i := 187) rfl)) rfl
theorem q669 : Cond.methodLink RX10 158 yX7_reading ∈ TB := tb_of (tb_m3 (List.mem_of_getElem? (i := 189) rfl)) rfl
theorem q670 : Cond.instanceMethod yX7_reading ∈ TB := tb_of (tb_m3 (List.mem_of_getElem? (i := 190) rfl)) rfl
theorem q671 : Cond.selects RX7 yX7_reading yX7_reading ∈ TB := tb_of (tb_m3 (List.mem_of_getElem? (i := 191) rfl)) rfl
theorem q672 : Cond.code yX7_reading prog_9_method_7_code 2 (Option.some FieldType.int) ∈ TB := tb_of (tb_m3 (List.mem_of_getElem? (i := 192) rfl)) rfl
theorem q673 : Cond.methodLink RX7 82 yX1_count ∈ TB := tb_of (tb_m3 (List.mem_of_getElem? (i := 193) rfl)) rfl
theorem q674 : Cond.instanceMethod yX1_count ∈ TB := tb_of (tb_m3 (List.mem_of_getElem? (i := 194) rfl)) rfl
theorem q675 : Cond.selects RX1 yX1_count yX1_count ∈ TB := tb_of (tb_m3 (List.mem_of_getElem? (i := 195) rfl)) rfl
theorem q676 : Cond.code yX1_count prog_3_method_4_code 3 (Option.some FieldType.int) ∈ TB := tb_of (tb_m3 (List.mem_of_getElem? (i := 196) rfl)) rfl
theorem q677 : Cond.methodLink RX10 161 yX7_become ∈ TB := tb_of (tb_m3 (List.mem_of_getElem? (i := 197) rfl)) rfl
theorem q678 : Cond.methodLink RL 51 yX10_now ∈ TB := tb_of (tb_m3 (List.mem_of_getElem? (i := 198) rfl)) rfl
theorem q679 : Cond.instanceMethod yX10_now ∈ TB := tb_of (tb_m3 (List.mem_of_getElem? (i := 199) rfl)) rfl
theorem q680 : Cond.selects RX10 yX10_now yX10_now ∈ TB := tb_of (tb_m3 (List.mem_of_getElem? (i := 200) rfl)) rfl
theorem q681 : Cond.code yX10_now prog_1_method_10_code 2 (Option.some FieldType.long) ∈ TB := tb_of (tb_m3 (List.mem_of_getElem? (i := 201) rfl)) rfl
theorem q682 : Cond.constantLong RX10 165 (-1000000002) ∈ TB := tb_of (tb_m3 (List.mem_of_getElem? (i := 202) rfl)) rfl
theorem q683 : Cond.methodLink RX10 167 yX10_readingOf ∈ TB := tb_of (tb_m3 (List.mem_of_getElem? (i := 203) rfl)) rfl
theorem q685 : Cond.instanceMethod yX10_readingOf ∈ TB := tb_of (tb_m3 (List.mem_of_getElem? (i := 205) rfl)) rfl
theorem q686 : Cond.code yX10_readingOf prog_1_method_40_code 3 (Option.some FieldType.long) ∈ TB := tb_of (tb_m3 (List.mem_of_getElem? (i := 206) rfl)) rfl
theorem q687 : Cond.methodLink RX10 328 yX4_arm ∈ TB := tb_of (tb_m3 (List.mem_of_getElem? (i := 207) rfl)) rfl
theorem q688 : Cond.instanceMethod yX4_arm ∈ TB := tb_of (tb_m3 (List.mem_of_getElem? (i := 208) rfl)) rfl
theorem q689 : Cond.selects RX4 yX4_arm yX4_arm ∈ TB := tb_of (tb_m3 (List.mem_of_getElem? (i := 209) rfl)) rfl
theorem q690 : Cond.code yX4_arm prog_6_method_6_code 2 (Option.some FieldType.int) ∈ TB := tb_of (tb_m3 (List.mem_of_getElem? (i := 210) rfl)) rfl
theorem q691 : Cond.methodLink RX10 331 yX7_wayOff ∈ TB := tb_of (tb_m3 (List.mem_of_getElem? (i := 211) rfl)) rfl
theorem q692 : Cond.instanceMethod yX7_wayOff ∈ TB := tb_of (tb_m3 (List.mem_of_getElem? (i := 212) rfl)) rfl
theorem q693 : Cond.selects RX7 yX7_wayOff yX7_wayOff ∈ TB := tb_of (tb_m3 (List.mem_of_getElem? (i := 213) rfl)) rfl
theorem q694 : Cond.code yX7_wayOff prog_9_method_9_code 2 (Option.some FieldType.int) ∈ TB := tb_of (tb_m3 (List.mem_of_getElem? (i := 214) rfl)) rfl
theorem q695 : Cond.methodLink RX7 87 yX7_unheldOff ∈ TB := tb_of (tb_m3 (List.mem_of_getElem? (i := 215) rfl)) rfl
theorem q697 : Cond.instanceMethod yX7_unheldOff ∈ TB := tb_of (tb_m3 (List.mem_of_getElem? (i := 217) rfl)) rfl
theorem q698 : Cond.code yX7_unheldOff prog_9_method_8_code 2 (Option.some FieldType.int) ∈ TB := tb_of (tb_m3 (List.mem_of_getElem? (i := 218) rfl)) rfl
theorem q699 : Cond.constant RX7 86 (57296) ∈ TB := tb_of (tb_m3 (List.mem_of_getElem? (i := 219) rfl)) rfl
theorem q700 : Cond.methodLink RX7 90 yJ9_max_7cf53 ∈ TB := tb_of (tb_m3 (List.mem_of_getElem? (i := 220) rfl)) rfl
theorem q701 : Cond.static yJ9_max_7cf53 ∈ TB := tb_of (tb_m3 (List.mem_of_getElem? (i := 221) rfl)) rfl
theorem q702 : Cond.code yJ9_max_7cf53 prog_14_method_65_code 2 (Option.some FieldType.int) ∈ TB := tb_of (tb_m3 (List.mem_of_getElem? (i := 222) rfl)) rfl
theorem q703 : Cond.methodLink RX10 334 yX7_isSafe ∈ TB := tb_of (tb_m3 (List.mem_of_getElem? (i := 223) rfl)) rfl
theorem q704 : Cond.instanceMethod yX7_isSafe ∈ TB := tb_of (tb_m3 (List.mem_of_getElem? (i := 224) rfl)) rfl
theorem q705 : Cond.selects RX7 yX7_isSafe yX7_isSafe ∈ TB := tb_of (tb_m3 (List.mem_of_getElem? (i := 225) rfl)) rfl
theorem q706 : Cond.code yX7_isSafe prog_9_method_27_code 2 (Option.some FieldType.boolean) ∈ TB := tb_of (tb_m3 (List.mem_of_getElem? (i := 226) rfl)) rfl
theorem q707 : Cond.methodLink RX7 250 yJ9_abs_0f7a4 ∈ TB := tb_of (tb_m3 (List.mem_of_getElem? (i := 227) rfl)) rfl
theorem q708 : Cond.static yJ9_abs_0f7a4 ∈ TB := tb_of (tb_m3 (List.mem_of_getElem? (i := 228) rfl)) rfl
theorem q709 : Cond.code yJ9_abs_0f7a4 prog_14_method_59_code 1 (Option.some FieldType.int) ∈ TB := tb_of (tb_m3 (List.mem_of_getElem? (i := 229) rfl)) rfl
theorem q710 : Cond.methodLink RX7 101 yX4_arm ∈ TB := tb_of (tb_m3 (List.mem_of_getElem? (i := 230) rfl)) rfl
theorem q711 : Cond.methodLink RX7 253 yX7_liesWell ∈ TB := tb_of (tb_m3 (List.mem_of_getElem? (i := 231) rfl)) rfl
theorem q713 : Cond.instanceMethod yX7_liesWell ∈ TB := tb_of (tb_m3 (List.mem_of_getElem? (i := 233) rfl)) rfl
theorem q714 : Cond.code yX7_liesWell prog_9_method_28_code 3 (Option.some FieldType.boolean) ∈ TB := tb_of (tb_m3 (List.mem_of_getElem? (i := 234) rfl)) rfl
theorem q715 : Cond.methodLink RX7 108 yX7_wayOff ∈ TB := tb_of (tb_m3 (List.mem_of_getElem? (i := 235) rfl)) rfl
theorem q716 : Cond.methodLink RL 56 yX10_go ∈ TB := tb_of (tb_m3 (List.mem_of_getElem? (i := 236) rfl)) rfl
theorem q717 : Cond.instanceMethod yX10_go ∈ TB := tb_of (tb_m3 (List.mem_of_getElem? (i := 237) rfl)) rfl
theorem q718 : Cond.selects RX10 yX10_go yX10_go ∈ TB := tb_of (tb_m3 (List.mem_of_getElem? (i := 238) rfl)) rfl
theorem q719 : Cond.code yX10_go prog_1_method_11_code 4 (Option.some FieldType.int) ∈ TB := tb_of (tb_m3 (List.mem_of_getElem? (i := 239) rfl)) rfl
theorem q720 : Cond.methodLink RX10 171 yX7_passSecond ∈ TB := tb_of (tb_m4 (List.mem_of_getElem? (i := 0) rfl)) rfl
theorem q721 : Cond.instanceMethod yX7_passSecond ∈ TB := tb_of (tb_m4 (List.mem_of_getElem? (i := 1) rfl)) rfl
theorem q722 : Cond.selects RX7 yX7_passSecond yX7_passSecond ∈ TB := tb_of (tb_m4 (List.mem_of_getElem? (i := 2) rfl)) rfl
theorem q723 : Cond.code yX7_passSecond prog_9_method_20_code 4 (Option.some FieldType.int) ∈ TB := tb_of (tb_m4 (List.mem_of_getElem? (i := 3) rfl)) rfl
theorem q724 : Cond.methodLink RX7 159 yX7_gainByEngineAndWeather ∈ TB := tb_of (tb_m4 (List.mem_of_getElem? (i := 4) rfl)) rfl
theorem q726 : Cond.instanceMethod yX7_gainByEngineAndWeather ∈ TB := tb_of (tb_m4 (List.mem_of_getElem? (i := 6) rfl)) rfl
theorem q727 : Cond.code yX7_gainByEngineAndWeather prog_9_method_21_code 3 none ∈ TB := tb_of (tb_m4 (List.mem_of_getElem? (i := 7) rfl)) rfl
theorem q728 : Cond.methodLink RX7 167 yX7_gainByLine ∈ TB := tb_of (tb_m4 (List.mem_of_getElem? (i := 8) rfl)) rfl
theorem q730 : Cond.instanceMethod yX7_gainByLine ∈ TB := tb_of (tb_m4 (List.mem_of_getElem? (i := 10) rfl)) rfl
theorem q731 : Cond.code yX7_gainByLine prog_9_method_22_code 11 (Option.some FieldType.boolean) ∈ TB := tb_of (tb_m4 (List.mem_of_getElem? (i := 11) rfl)) rfl
theorem q732 : Cond.methodLink RX7 96 yX4_postPlace ∈ TB := tb_of (tb_m4 (List.mem_of_getElem? (i := 12) rfl)) rfl
theorem q734 : Cond.static yX10_rootOfSquares ∈ TB := tb_of (tb_m4 (List.mem_of_getElem? (i := 14) rfl)) rfl
theorem q735 : Cond.code yX10_rootOfSquares prog_1_method_42_code 9 (Option.some FieldType.int) ∈ TB := tb_of (tb_m4 (List.mem_of_getElem? (i := 15) rfl)) rfl
theorem q736 : Cond.methodLink RX10 345 yJ9_abs_067f4 ∈ TB := tb_of (tb_m4 (List.mem_of_getElem? (i := 16) rfl)) rfl
theorem q737 : Cond.static yJ9_abs_067f4 ∈ TB := tb_of (tb_m4 (List.mem_of_getElem? (i := 17) rfl)) rfl
theorem q738 : Cond.code yJ9_abs_067f4 prog_14_method_61_code 2 (Option.some FieldType.long) ∈ TB := tb_of (tb_m4 (List.mem_of_getElem? (i := 18) rfl)) rfl
theorem q739 : Cond.constantLong RX10 348 (2) ∈ TB := tb_of (tb_m4 (List.mem_of_getElem? (i := 19) rfl)) rfl
theorem q740 : Cond.methodLink RX7 217 yX7_pull ∈ TB := tb_of (tb_m4 (List.mem_of_getElem? (i := 20) rfl)) rfl
theorem q741 : Cond.static yX7_pull ∈ TB := tb_of (tb_m4 (List.mem_of_getElem? (i := 21) rfl)) rfl
theorem q742 : Cond.code yX7_pull prog_9_method_12_code 3 (Option.some FieldType.int) ∈ TB := tb_of (tb_m4 (List.mem_of_getElem? (i := 22) rfl)) rfl
theorem q743 : Cond.methodLink RX7 220 yX4_postStrength ∈ TB := tb_of (tb_m4 (List.mem_of_getElem? (i := 23) rfl)) rfl
theorem q744 : Cond.methodLink RX7 171 yX7_move ∈ TB := tb_of (tb_m4 (List.mem_of_getElem? (i := 24) rfl)) rfl
theorem q746 : Cond.instanceMethod yX7_move ∈ TB := tb_of (tb_m4 (List.mem_of_getElem? (i := 26) rfl)) rfl
theorem q747 : Cond.code yX7_move prog_9_method_23_code 1 none ∈ TB := tb_of (tb_m4 (List.mem_of_getElem? (i := 27) rfl)) rfl
theorem q748 : Cond.constant RX7 223 (-50000) ∈ TB := tb_of (tb_m4 (List.mem_of_getElem? (i := 28) rfl)) rfl
theorem q749 : Cond.constant RX7 224 (50000) ∈ TB := tb_of (tb_m4 (List.mem_of_getElem? (i := 29) rfl)) rfl
theorem q751 : Cond.static yX10_held ∈ TB := tb_of (tb_m4 (List.mem_of_getElem? (i := 31) rfl)) rfl
theorem q752 : Cond.code yX10_held prog_1_method_41_code 3 (Option.some FieldType.int) ∈ TB := tb_of (tb_m4 (List.mem_of_getElem? (i := 32) rfl)) rfl
theorem q753 : Cond.methodLink RX10 338 yJ9_min_7cf53 ∈ TB := tb_of (tb_m4 (List.mem_of_getElem? (i := 33) rfl)) rfl
theorem q754 : Cond.static yJ9_min_7cf53 ∈ TB := tb_of (tb_m4 (List.mem_of_getElem? (i := 34) rfl)) rfl
theorem q755 : Cond.code yJ9_min_7cf53 prog_14_method_69_code 2 (Option.some FieldType.int) ∈ TB := tb_of (tb_m4 (List.mem_of_getElem? (i := 35) rfl)) rfl
theorem q756 : Cond.methodLink RX10 342 yJ9_max_7cf53 ∈ TB := tb_of (tb_m4 (List.mem_of_getElem? (i := 36) rfl)) rfl
theorem q757 : Cond.constant RX7 229 (-45000) ∈ TB := tb_of (tb_m4 (List.mem_of_getElem? (i := 37) rfl)) rfl
theorem q758 : Cond.constant RX7 230 (45000) ∈ TB := tb_of (tb_m4 (List.mem_of_getElem? (i := 38) rfl)) rfl
theorem q759 : Cond.methodLink RX7 174 yX7_knock ∈ TB := tb_of (tb_m4 (List.mem_of_getElem? (i := 39) rfl)) rfl
theorem q761 : Cond.instanceMethod yX7_knock ∈ TB := tb_of (tb_m4 (List.mem_of_getElem? (i := 41) rfl)) rfl
theorem q762 : Cond.code yX7_knock prog_9_method_24_code 8 none ∈ TB := tb_of (tb_m4 (List.mem_of_getElem? (i := 42) rfl)) rfl
theorem q763 : Cond.constantLong RX7 231 (57296) ∈ TB := tb_of (tb_m4 (List.mem_of_getElem? (i := 43) rfl)) rfl
theorem q764 : Cond.constantLong RX7 233 (100) ∈ TB := tb_of (tb_m4 (List.mem_of_getElem? (i := 44) rfl)) rfl
theorem q765 : Cond.methodLink RX7 238 yX7_addHarm ∈ TB := tb_of (tb_m4 (List.mem_of_getElem? (i := 45) rfl)) rfl
theorem q767 : Cond.instanceMethod yX7_addHarm ∈ TB := tb_of (tb_m4 (List.mem_of_getElem? (i := 47) rfl)) rfl
theorem q768 : Cond.code yX7_addHarm prog_9_method_26_code 4 none ∈ TB := tb_of (tb_m4 (List.mem_of_getElem? (i := 48) rfl)) rfl
theorem q769 : Cond.constantLong RX7 248 (10) ∈ TB := tb_of (tb_m4 (List.mem_of_getElem? (i := 49) rfl)) rfl
theorem q770 : Cond.methodLink RX7 178 yX7_stopAtGap ∈ TB := tb_of (tb_m4 (List.mem_of_getElem? (i := 50) rfl)) rfl
theorem q772 : Cond.instanceMethod yX7_stopAtGap ∈ TB := tb_of (tb_m4 (List.mem_of_getElem? (i := 52) rfl)) rfl
theorem q773 : Cond.code yX7_stopAtGap prog_9_method_25_code 4 none ∈ TB := tb_of (tb_m4 (List.mem_of_getElem? (i := 53) rfl)) rfl
theorem q774 : Cond.methodLink RL 60 yX10_follow ∈ TB := tb_of (tb_m4 (List.mem_of_getElem? (i := 54) rfl)) rfl
theorem q775 : Cond.instanceMethod yX10_follow ∈ TB := tb_of (tb_m4 (List.mem_of_getElem? (i := 55) rfl)) rfl
theorem q776 : Cond.selects RX10 yX10_follow yX10_follow ∈ TB := tb_of (tb_m4 (List.mem_of_getElem? (i := 56) rfl)) rfl
theorem q777 : Cond.code yX10_follow prog_1_method_12_code 2 (Option.some FieldType.int) ∈ TB := tb_of (tb_m4 (List.mem_of_getElem? (i := 57) rfl)) rfl
theorem q778 : Cond.methodLink RX10 175 yX7_passByPlan ∈ TB := tb_of (tb_m4 (List.mem_of_getElem? (i := 58) rfl)) rfl
theorem q779 : Cond.instanceMethod yX7_passByPlan ∈ TB := tb_of (tb_m4 (List.mem_of_getElem? (i := 59) rfl)) rfl
theorem q780 : Cond.selects RX7 yX7_passByPlan yX7_passByPlan ∈ TB := tb_of (tb_m4 (List.mem_of_getElem? (i := 60) rfl)) rfl
theorem q781 : Cond.code yX7_passByPlan prog_9_method_19_code 7 (Option.some FieldType.int) ∈ TB := tb_of (tb_m4 (List.mem_of_getElem? (i := 61) rfl)) rfl
theorem q782 : Cond.methodLink RX7 149 yX3_steer ∈ TB := tb_of (tb_m4 (List.mem_of_getElem? (i := 62) rfl)) rfl
theorem q783 : Cond.instanceMethod yX3_steer ∈ TB := tb_of (tb_m4 (List.mem_of_getElem? (i := 63) rfl)) rfl
theorem q784 : Cond.selects RX3 yX3_steer yX3_steer ∈ TB := tb_of (tb_m4 (List.mem_of_getElem? (i := 64) rfl)) rfl
theorem q785 : Cond.code yX3_steer prog_5_method_5_code 4 (Option.some FieldType.int) ∈ TB := tb_of (tb_m4 (List.mem_of_getElem? (i := 65) rfl)) rfl
theorem q786 : Cond.methodLink RX7 155 yX7_passSecond ∈ TB := tb_of (tb_m4 (List.mem_of_getElem? (i := 66) rfl)) rfl
theorem q787 : Cond.methodLink RL 64 yX10_fast ∈ TB := tb_of (tb_m4 (List.mem_of_getElem? (i := 67) rfl)) rfl
theorem q788 : Cond.instanceMethod yX10_fast ∈ TB := tb_of (tb_m4 (List.mem_of_getElem? (i := 68) rfl)) rfl
theorem q789 : Cond.selects RX10 yX10_fast yX10_fast ∈ TB := tb_of (tb_m4 (List.mem_of_getElem? (i := 69) rfl)) rfl
theorem q790 : Cond.code yX10_fast prog_1_method_13_code 6 (Option.some FieldType.int) ∈ TB := tb_of (tb_m4 (List.mem_of_getElem? (i := 70) rfl)) rfl
theorem q791 : Cond.methodLink RX10 179 yX1_isNumber ∈ TB := tb_of (tb_m4 (List.mem_of_getElem? (i := 71) rfl)) rfl
theorem q792 : Cond.static yX1_isNumber ∈ TB := tb_of (tb_m4 (List.mem_of_getElem? (i := 72) rfl)) rfl
theorem q793 : Cond.code yX1_isNumber prog_3_method_2_code 1 (Option.some FieldType.boolean) ∈ TB := tb_of (tb_m4 (List.mem_of_getElem? (i := 73) rfl)) rfl
theorem q794 : Cond.methodLink RX10 184 yX7_isPlace ∈ TB := tb_of (tb_m4 (List.mem_of_getElem? (i := 74) rfl)) rfl
theorem q795 : Cond.static yX7_isPlace ∈ TB := tb_of (tb_m4 (List.mem_of_getElem? (i := 75) rfl)) rfl
theorem q796 : Cond.code yX7_isPlace prog_9_method_3_code 1 (Option.some FieldType.boolean) ∈ TB := tb_of (tb_m4 (List.mem_of_getElem? (i := 76) rfl)) rfl
theorem q797 : Cond.methodLink RX10 191 yX1_isFast ∈ TB := tb_of (tb_m4 (List.mem_of_getElem? (i := 77) rfl)) rfl
theorem q798 : Cond.instanceMethod yX1_isFast ∈ TB := tb_of (tb_m4 (List.mem_of_getElem? (i := 78) rfl)) rfl
theorem q799 : Cond.selects RX1 yX1_isFast yX1_isFast ∈ TB := tb_of (tb_m4 (List.mem_of_getElem? (i := 79) rfl)) rfl
theorem q800 : Cond.code yX1_isFast prog_3_method_3_code 2 (Option.some FieldType.boolean) ∈ TB := tb_of (tb_m4 (List.mem_of_getElem? (i := 80) rfl)) rfl
theorem q801 : Cond.constant RX10 194 (-1000000003) ∈ TB := tb_of (tb_m4 (List.mem_of_getElem? (i := 81) rfl)) rfl
theorem q802 : Cond.methodLink RX10 195 yX7_distance ∈ TB := tb_of (tb_m4 (List.mem_of_getElem? (i := 82) rfl)) rfl
theorem q803 : Cond.instanceMethod yX7_distance ∈ TB := tb_of (tb_m4 (List.mem_of_getElem? (i := 83) rfl)) rfl
theorem q804 : Cond.selects RX7 yX7_distance yX7_distance ∈ TB := tb_of (tb_m4 (List.mem_of_getElem? (i := 84) rfl)) rfl
theorem q805 : Cond.code yX7_distance prog_9_method_11_code 4 (Option.some FieldType.int) ∈ TB := tb_of (tb_m4 (List.mem_of_getElem? (i := 85) rfl)) rfl
theorem q806 : Cond.methodLink RX7 104 yX7_wayAlong ∈ TB := tb_of (tb_m4 (List.mem_of_getElem? (i := 86) rfl)) rfl
theorem q807 : Cond.instanceMethod yX7_wayAlong ∈ TB := tb_of (tb_m4 (List.mem_of_getElem? (i := 87) rfl)) rfl
theorem q808 : Cond.selects RX7 yX7_wayAlong yX7_wayAlong ∈ TB := tb_of (tb_m4 (List.mem_of_getElem? (i := 88) rfl)) rfl
theorem q809 : Cond.code yX7_wayAlong prog_9_method_10_code 4 (Option.some FieldType.int) ∈ TB := tb_of (tb_m4 (List.mem_of_getElem? (i := 89) rfl)) rfl
theorem q810 : Cond.methodLink RX10 199 yX1_makeFast ∈ TB := tb_of (tb_m4 (List.mem_of_getElem? (i := 90) rfl)) rfl
theorem q811 : Cond.instanceMethod yX1_makeFast ∈ TB := tb_of (tb_m4 (List.mem_of_getElem? (i := 91) rfl)) rfl
theorem q812 : Cond.selects RX1 yX1_makeFast yX1_makeFast ∈ TB := tb_of (tb_m4 (List.mem_of_getElem? (i := 92) rfl)) rfl
theorem q813 : Cond.code yX1_makeFast prog_3_method_6_code 5 none ∈ TB := tb_of (tb_m4 (List.mem_of_getElem? (i := 93) rfl)) rfl
theorem q814 : Cond.methodLink RL 69 yX10_heave ∈ TB := tb_of (tb_m4 (List.mem_of_getElem? (i := 94) rfl)) rfl
theorem q815 : Cond.instanceMethod yX10_heave ∈ TB := tb_of (tb_m4 (List.mem_of_getElem? (i := 95) rfl)) rfl
theorem q816 : Cond.selects RX10 yX10_heave yX10_heave ∈ TB := tb_of (tb_m4 (List.mem_of_getElem? (i := 96) rfl)) rfl
theorem q817 : Cond.code yX10_heave prog_1_method_14_code 4 (Option.some FieldType.int) ∈ TB := tb_of (tb_m4 (List.mem_of_getElem? (i := 97) rfl)) rfl
theorem q818 : Cond.methodLink RX10 203 yX7_heaveLine ∈ TB := tb_of (tb_m4 (List.mem_of_getElem? (i := 98) rfl)) rfl
theorem q819 : Cond.instanceMethod yX7_heaveLine ∈ TB := tb_of (tb_m4 (List.mem_of_getElem? (i := 99) rfl)) rfl
theorem q820 : Cond.selects RX7 yX7_heaveLine yX7_heaveLine ∈ TB := tb_of (tb_m4 (List.mem_of_getElem? (i := 100) rfl)) rfl
theorem q821 : Cond.code yX7_heaveLine prog_9_method_16_code 5 (Option.some FieldType.boolean) ∈ TB := tb_of (tb_m4 (List.mem_of_getElem? (i := 101) rfl)) rfl
theorem q822 : Cond.methodLink RX7 132 yX7_drawOfHundred ∈ TB := tb_of (tb_m4 (List.mem_of_getElem? (i := 102) rfl)) rfl
theorem q824 : Cond.instanceMethod yX7_drawOfHundred ∈ TB := tb_of (tb_m4 (List.mem_of_getElem? (i := 104) rfl)) rfl
theorem q825 : Cond.code yX7_drawOfHundred prog_9_method_17_code 1 (Option.some FieldType.int) ∈ TB := tb_of (tb_m4 (List.mem_of_getElem? (i := 105) rfl)) rfl
theorem q826 : Cond.constantLong RX7 142 (1103515245) ∈ TB := tb_of (tb_m4 (List.mem_of_getElem? (i := 106) rfl)) rfl
theorem q827 : Cond.constantLong RX7 144 (12345) ∈ TB := tb_of (tb_m4 (List.mem_of_getElem? (i := 107) rfl)) rfl
theorem q828 : Cond.constantLong RX7 146 (2147483647) ∈ TB := tb_of (tb_m4 (List.mem_of_getElem? (i := 108) rfl)) rfl
theorem q829 : Cond.constant RX7 148 (65536) ∈ TB := tb_of (tb_m4 (List.mem_of_getElem? (i := 109) rfl)) rfl
theorem q830 : Cond.methodLink RX7 135 yX7_heaveOdds ∈ TB := tb_of (tb_m4 (List.mem_of_getElem? (i := 110) rfl)) rfl
theorem q831 : Cond.instanceMethod yX7_heaveOdds ∈ TB := tb_of (tb_m4 (List.mem_of_getElem? (i := 111) rfl)) rfl
theorem q832 : Cond.selects RX7 yX7_heaveOdds yX7_heaveOdds ∈ TB := tb_of (tb_m4 (List.mem_of_getElem? (i := 112) rfl)) rfl
theorem q833 : Cond.code yX7_heaveOdds prog_9_method_15_code 4 (Option.some FieldType.int) ∈ TB := tb_of (tb_m4 (List.mem_of_getElem? (i := 113) rfl)) rfl
theorem q834 : Cond.methodLink RX7 129 yX7_distance ∈ TB := tb_of (tb_m4 (List.mem_of_getElem? (i := 114) rfl)) rfl
theorem q835 : Cond.methodLink RX7 138 yX1_makeFast ∈ TB := tb_of (tb_m4 (List.mem_of_getElem? (i := 115) rfl)) rfl
theorem q836 : Cond.methodLink RL 74 yX10_odds ∈ TB := tb_of (tb_m4 (List.mem_of_getElem? (i := 116) rfl)) rfl
theorem q837 : Cond.instanceMethod yX10_odds ∈ TB := tb_of (tb_m4 (List.mem_of_getElem? (i := 117) rfl)) rfl
theorem q838 : Cond.selects RX10 yX10_odds yX10_odds ∈ TB := tb_of (tb_m4 (List.mem_of_getElem? (i := 118) rfl)) rfl
theorem q839 : Cond.code yX10_odds prog_1_method_15_code 3 (Option.some FieldType.int) ∈ TB := tb_of (tb_m4 (List.mem_of_getElem? (i := 119) rfl)) rfl
theorem q840 : Cond.methodLink RX10 207 yX7_heaveOdds ∈ TB := tb_of (tb_m4 (List.mem_of_getElem? (i := 120) rfl)) rfl
theorem q841 : Cond.methodLink RL 78 yX10_veer ∈ TB := tb_of (tb_m4 (List.mem_of_getElem? (i := 121) rfl)) rfl
theorem q842 : Cond.instanceMethod yX10_veer ∈ TB := tb_of (tb_m4 (List.mem_of_getElem? (i := 122) rfl)) rfl
theorem q843 : Cond.selects RX10 yX10_veer yX10_veer ∈ TB := tb_of (tb_m4 (List.mem_of_getElem? (i := 123) rfl)) rfl
theorem q844 : Cond.code yX10_veer prog_1_method_16_code 4 (Option.some FieldType.int) ∈ TB := tb_of (tb_m4 (List.mem_of_getElem? (i := 124) rfl)) rfl
theorem q845 : Cond.methodLink RL 82 yX10_cast ∈ TB := tb_of (tb_m4 (List.mem_of_getElem? (i := 125) rfl)) rfl
theorem q846 : Cond.instanceMethod yX10_cast ∈ TB := tb_of (tb_m4 (List.mem_of_getElem? (i := 126) rfl)) rfl
theorem q847 : Cond.selects RX10 yX10_cast yX10_cast ∈ TB := tb_of (tb_m4 (List.mem_of_getElem? (i := 127) rfl)) rfl
theorem q848 : Cond.code yX10_cast prog_1_method_17_code 2 (Option.some FieldType.int) ∈ TB := tb_of (tb_m4 (List.mem_of_getElem? (i := 128) rfl)) rfl
theorem q849 : Cond.methodLink RL 86 yX10_line ∈ TB := tb_of (tb_m4 (List.mem_of_getElem? (i := 129) rfl)) rfl
theorem q850 : Cond.instanceMethod yX10_line ∈ TB := tb_of (tb_m4 (List.mem_of_getElem? (i := 130) rfl)) rfl
theorem q851 : Cond.selects RX10 yX10_line yX10_line ∈ TB := tb_of (tb_m4 (List.mem_of_getElem? (i := 131) rfl)) rfl
theorem q852 : Cond.code yX10_line prog_1_method_18_code 3 (Option.some FieldType.int) ∈ TB := tb_of (tb_m4 (List.mem_of_getElem? (i := 132) rfl)) rfl
theorem q853 : Cond.methodLink RX10 222 yX7_lineDistance ∈ TB := tb_of (tb_m4 (List.mem_of_getElem? (i := 133) rfl)) rfl
theorem q854 : Cond.instanceMethod yX7_lineDistance ∈ TB := tb_of (tb_m4 (List.mem_of_getElem? (i := 134) rfl)) rfl
theorem q855 : Cond.selects RX7 yX7_lineDistance yX7_lineDistance ∈ TB := tb_of (tb_m4 (List.mem_of_getElem? (i := 135) rfl)) rfl
theorem q856 : Cond.code yX7_lineDistance prog_9_method_14_code 3 (Option.some FieldType.int) ∈ TB := tb_of (tb_m4 (List.mem_of_getElem? (i := 136) rfl)) rfl
theorem q857 : Cond.methodLink RX7 119 yX1_isFast ∈ TB := tb_of (tb_m4 (List.mem_of_getElem? (i := 137) rfl)) rfl
theorem q858 : Cond.methodLink RX10 226 yX7_pull ∈ TB := tb_of (tb_m4 (List.mem_of_getElem? (i := 138) rfl)) rfl
theorem q859 : Cond.methodLink RL 90 yX10_does ∈ TB := tb_of (tb_m4 (List.mem_of_getElem? (i := 139) rfl)) rfl
theorem q860 : Cond.instanceMethod yX10_does ∈ TB := tb_of (tb_m4 (List.mem_of_getElem? (i := 140) rfl)) rfl
theorem q861 : Cond.selects RX10 yX10_does yX10_does ∈ TB := tb_of (tb_m4 (List.mem_of_getElem? (i := 141) rfl)) rfl
theorem q862 : Cond.code yX10_does prog_1_method_19_code 3 (Option.some FieldType.int) ∈ TB := tb_of (tb_m4 (List.mem_of_getElem? (i := 142) rfl)) rfl
theorem q863 : Cond.methodLink RX10 229 yX7_effectOf ∈ TB := tb_of (tb_m4 (List.mem_of_getElem? (i := 143) rfl)) rfl
theorem q864 : Cond.instanceMethod yX7_effectOf ∈ TB := tb_of (tb_m4 (List.mem_of_getElem? (i := 144) rfl)) rfl
theorem q865 : Cond.selects RX7 yX7_effectOf yX7_effectOf ∈ TB := tb_of (tb_m4 (List.mem_of_getElem? (i := 145) rfl)) rfl
theorem q866 : Cond.code yX7_effectOf prog_9_method_18_code 6 (Option.some FieldType.int) ∈ TB := tb_of (tb_m4 (List.mem_of_getElem? (i := 146) rfl)) rfl
theorem q867 : Cond.methodLink RL 94 yX10_tried ∈ TB := tb_of (tb_m4 (List.mem_of_getElem? (i := 147) rfl)) rfl
theorem q868 : Cond.instanceMethod yX10_tried ∈ TB := tb_of (tb_m4 (List.mem_of_getElem? (i := 148) rfl)) rfl
theorem q869 : Cond.selects RX10 yX10_tried yX10_tried ∈ TB := tb_of (tb_m4 (List.mem_of_getElem? (i := 149) rfl)) rfl
theorem q870 : Cond.code yX10_tried prog_1_method_20_code 3 (Option.some FieldType.long) ∈ TB := tb_of (tb_m4 (List.mem_of_getElem? (i := 150) rfl)) rfl
theorem q871 : Cond.methodLink RX10 232 yX10_isTriedReading ∈ TB := tb_of (tb_m4 (List.mem_of_getElem? (i := 151) rfl)) rfl
theorem q872 : Cond.static yX10_isTriedReading ∈ TB := tb_of (tb_m4 (List.mem_of_getElem? (i := 152) rfl)) rfl
theorem q873 : Cond.code yX10_isTriedReading prog_1_method_39_code 1 (Option.some FieldType.boolean) ∈ TB := tb_of (tb_m4 (List.mem_of_getElem? (i := 153) rfl)) rfl
theorem q874 : Cond.methodLink RX10 235 yX7_copyFrom ∈ TB := tb_of (tb_m4 (List.mem_of_getElem? (i := 154) rfl)) rfl
theorem q875 : Cond.instanceMethod yX7_copyFrom ∈ TB := tb_of (tb_m4 (List.mem_of_getElem? (i := 155) rfl)) rfl
theorem q876 : Cond.selects RX7 yX7_copyFrom yX7_copyFrom ∈ TB := tb_of (tb_m4 (List.mem_of_getElem? (i := 156) rfl)) rfl
theorem q877 : Cond.code yX7_copyFrom prog_9_method_5_code 3 none ∈ TB := tb_of (tb_m4 (List.mem_of_getElem? (i := 157) rfl)) rfl
theorem q878 : Cond.methodLink RX7 50 yX7_reading ∈ TB := tb_of (tb_m4 (List.mem_of_getElem? (i := 158) rfl)) rfl
theorem q879 : Cond.methodLink RX7 57 yX1_copyFrom ∈ TB := tb_of (tb_m4 (List.mem_of_getElem? (i := 159) rfl)) rfl
theorem q880 : Cond.instanceMethod yX1_copyFrom ∈ TB := tb_of (tb_m4 (List.mem_of_getElem? (i := 160) rfl)) rfl
theorem q881 : Cond.selects RX1 yX1_copyFrom yX1_copyFrom ∈ TB := tb_of (tb_m4 (List.mem_of_getElem? (i := 161) rfl)) rfl
theorem q882 : Cond.code yX1_copyFrom prog_3_method_7_code 3 none ∈ TB := tb_of (tb_m4 (List.mem_of_getElem? (i := 162) rfl)) rfl
theorem q883 : Cond.methodLink RX10 238 yX1_count ∈ TB := tb_of (tb_m4 (List.mem_of_getElem? (i := 163) rfl)) rfl
theorem q884 : Cond.methodLink RL 99 yX10_astern ∈ TB := tb_of (tb_m4 (List.mem_of_getElem? (i := 164) rfl)) rfl
theorem q885 : Cond.instanceMethod yX10_astern ∈ TB := tb_of (tb_m4 (List.mem_of_getElem? (i := 165) rfl)) rfl
theorem q886 : Cond.selects RX10 yX10_astern yX10_astern ∈ TB := tb_of (tb_m4 (List.mem_of_getElem? (i := 166) rfl)) rfl
theorem q887 : Cond.code yX10_astern prog_1_method_21_code 1 (Option.some FieldType.int) ∈ TB := tb_of (tb_m4 (List.mem_of_getElem? (i := 167) rfl)) rfl
theorem q888 : Cond.methodLink RX10 242 yX6_leastAstern ∈ TB := tb_of (tb_m4 (List.mem_of_getElem? (i := 168) rfl)) rfl
theorem q889 : Cond.instanceMethod yX6_leastAstern ∈ TB := tb_of (tb_m4 (List.mem_of_getElem? (i := 169) rfl)) rfl
theorem q890 : Cond.selects RX6 yX6_leastAstern yX6_leastAstern ∈ TB := tb_of (tb_m4 (List.mem_of_getElem? (i := 170) rfl)) rfl
theorem q891 : Cond.code yX6_leastAstern prog_8_method_2_code 4 (Option.some FieldType.int) ∈ TB := tb_of (tb_m4 (List.mem_of_getElem? (i := 171) rfl)) rfl
theorem q892 : Cond.methodLink RX6 28 yX7_copyFrom ∈ TB := tb_of (tb_m4 (List.mem_of_getElem? (i := 172) rfl)) rfl
theorem q893 : Cond.methodLink RX6 36 yX6_stopsSafely ∈ TB := tb_of (tb_m4 (List.mem_of_getElem? (i := 173) rfl)) rfl
theorem q895 : Cond.instanceMethod yX6_stopsSafely ∈ TB := tb_of (tb_m4 (List.mem_of_getElem? (i := 175) rfl)) rfl
theorem q896 : Cond.code yX6_stopsSafely prog_8_method_3_code 3 (Option.some FieldType.boolean) ∈ TB := tb_of (tb_m4 (List.mem_of_getElem? (i := 176) rfl)) rfl
theorem q897 : Cond.methodLink RX6 40 yX7_passSecond ∈ TB := tb_of (tb_m4 (List.mem_of_getElem? (i := 177) rfl)) rfl
theorem q898 : Cond.methodLink RX6 54 yX7_isSafe ∈ TB := tb_of (tb_m4 (List.mem_of_getElem? (i := 178) rfl)) rfl
theorem q899 : Cond.methodLink RL 103 yX10_off ∈ TB := tb_of (tb_m4 (List.mem_of_getElem? (i := 179) rfl)) rfl
theorem q900 : Cond.instanceMethod yX10_off ∈ TB := tb_of (tb_m4 (List.mem_of_getElem? (i := 180) rfl)) rfl
theorem q901 : Cond.selects RX10 yX10_off yX10_off ∈ TB := tb_of (tb_m4 (List.mem_of_getElem? (i := 181) rfl)) rfl
theorem q902 : Cond.code yX10_off prog_1_method_22_code 1 (Option.some FieldType.int) ∈ TB := tb_of (tb_m4 (List.mem_of_getElem? (i := 182) rfl)) rfl
theorem q903 : Cond.methodLink RX10 246 yX6_greatestOff ∈ TB := tb_of (tb_m4 (List.mem_of_getElem? (i := 183) rfl)) rfl
theorem q904 : Cond.instanceMethod yX6_greatestOff ∈ TB := tb_of (tb_m4 (List.mem_of_getElem? (i := 184) rfl)) rfl
theorem q905 : Cond.selects RX6 yX6_greatestOff yX6_greatestOff ∈ TB := tb_of (tb_m4 (List.mem_of_getElem? (i := 185) rfl)) rfl
theorem q906 : Cond.code yX6_greatestOff prog_8_method_4_code 5 (Option.some FieldType.int) ∈ TB := tb_of (tb_m4 (List.mem_of_getElem? (i := 186) rfl)) rfl
theorem q907 : Cond.methodLink RX6 57 yX6_getsOff ∈ TB := tb_of (tb_m4 (List.mem_of_getElem? (i := 187) rfl)) rfl
theorem q909 : Cond.instanceMethod yX6_getsOff ∈ TB := tb_of (tb_m4 (List.mem_of_getElem? (i := 189) rfl)) rfl
theorem q910 : Cond.code yX6_getsOff prog_8_method_5_code 3 (Option.some FieldType.boolean) ∈ TB := tb_of (tb_m4 (List.mem_of_getElem? (i := 190) rfl)) rfl
theorem q911 : Cond.methodLink RL 107 yX10_wind ∈ TB := tb_of (tb_m4 (List.mem_of_getElem? (i := 191) rfl)) rfl
theorem q912 : Cond.instanceMethod yX10_wind ∈ TB := tb_of (tb_m4 (List.mem_of_getElem? (i := 192) rfl)) rfl
theorem q913 : Cond.selects RX10 yX10_wind yX10_wind ∈ TB := tb_of (tb_m4 (List.mem_of_getElem? (i := 193) rfl)) rfl
theorem q914 : Cond.code yX10_wind prog_1_method_23_code 2 (Option.some FieldType.int) ∈ TB := tb_of (tb_m4 (List.mem_of_getElem? (i := 194) rfl)) rfl
theorem q915 : Cond.methodLink RX10 249 yX10_isSearchLength ∈ TB := tb_of (tb_m4 (List.mem_of_getElem? (i := 195) rfl)) rfl
theorem q916 : Cond.static yX10_isSearchLength ∈ TB := tb_of (tb_m4 (List.mem_of_getElem? (i := 196) rfl)) rfl
theorem q917 : Cond.code yX10_isSearchLength prog_1_method_38_code 1 (Option.some FieldType.boolean) ∈ TB := tb_of (tb_m4 (List.mem_of_getElem? (i := 197) rfl)) rfl
theorem q918 : Cond.methodLink RX10 252 yX6_greatestWind ∈ TB := tb_of (tb_m4 (List.mem_of_getElem? (i := 198) rfl)) rfl
theorem q919 : Cond.instanceMethod yX6_greatestWind ∈ TB := tb_of (tb_m4 (List.mem_of_getElem? (i := 199) rfl)) rfl
theorem q920 : Cond.selects RX6 yX6_greatestWind yX6_greatestWind ∈ TB := tb_of (tb_m4 (List.mem_of_getElem? (i := 200) rfl)) rfl
theorem q921 : Cond.code yX6_greatestWind prog_8_method_6_code 6 (Option.some FieldType.int) ∈ TB := tb_of (tb_m4 (List.mem_of_getElem? (i := 201) rfl)) rfl
theorem q922 : Cond.methodLink RX6 60 yX4_copyFrom ∈ TB := tb_of (tb_m4 (List.mem_of_getElem? (i := 202) rfl)) rfl
theorem q923 : Cond.methodLink RX6 66 yX6_isSafeByPlan ∈ TB := tb_of (tb_m4 (List.mem_of_getElem? (i := 203) rfl)) rfl
theorem q925 : Cond.instanceMethod yX6_isSafeByPlan ∈ TB := tb_of (tb_m4 (List.mem_of_getElem? (i := 205) rfl)) rfl
theorem q926 : Cond.code yX6_isSafeByPlan prog_8_method_9_code 8 (Option.some FieldType.boolean) ∈ TB := tb_of (tb_m4 (List.mem_of_getElem? (i := 206) rfl)) rfl
theorem q927 : Cond.methodLink RX6 79 yX3_steer ∈ TB := tb_of (tb_m4 (List.mem_of_getElem? (i := 207) rfl)) rfl
theorem q928 : Cond.methodLink RL 111 yX10_gap ∈ TB := tb_of (tb_m4 (List.mem_of_getElem? (i := 208) rfl)) rfl
theorem q929 : Cond.instanceMethod yX10_gap ∈ TB := tb_of (tb_m4 (List.mem_of_getElem? (i := 209) rfl)) rfl
theorem q930 : Cond.selects RX10 yX10_gap yX10_gap ∈ TB := tb_of (tb_m4 (List.mem_of_getElem? (i := 210) rfl)) rfl
theorem q931 : Cond.code yX10_gap prog_1_method_24_code 2 (Option.some FieldType.int) ∈ TB := tb_of (tb_m4 (List.mem_of_getElem? (i := 211) rfl)) rfl
theorem q932 : Cond.methodLink RX10 256 yX6_leastGap ∈ TB := tb_of (tb_m4 (List.mem_of_getElem? (i := 212) rfl)) rfl
theorem q933 : Cond.instanceMethod yX6_leastGap ∈ TB := tb_of (tb_m4 (List.mem_of_getElem? (i := 213) rfl)) rfl
theorem q934 : Cond.selects RX6 yX6_leastGap yX6_leastGap ∈ TB := tb_of (tb_m4 (List.mem_of_getElem? (i := 214) rfl)) rfl
theorem q935 : Cond.code yX6_leastGap prog_8_method_7_code 7 (Option.some FieldType.int) ∈ TB := tb_of (tb_m4 (List.mem_of_getElem? (i := 215) rfl)) rfl
theorem q936 : Cond.methodLink RL 115 yX10_tug ∈ TB := tb_of (tb_m4 (List.mem_of_getElem? (i := 216) rfl)) rfl
theorem q937 : Cond.instanceMethod yX10_tug ∈ TB := tb_of (tb_m4 (List.mem_of_getElem? (i := 217) rfl)) rfl
theorem q938 : Cond.selects RX10 yX10_tug yX10_tug ∈ TB := tb_of (tb_m4 (List.mem_of_getElem? (i := 218) rfl)) rfl
theorem q939 : Cond.code yX10_tug prog_1_method_25_code 2 (Option.some FieldType.int) ∈ TB := tb_of (tb_m4 (List.mem_of_getElem? (i := 219) rfl)) rfl
theorem q940 : Cond.methodLink RX10 259 yX6_leastTug ∈ TB := tb_of (tb_m4 (List.mem_of_getElem? (i := 220) rfl)) rfl
theorem q941 : Cond.instanceMethod yX6_leastTug ∈ TB := tb_of (tb_m4 (List.mem_of_getElem? (i := 221) rfl)) rfl
theorem q942 : Cond.selects RX6 yX6_leastTug yX6_leastTug ∈ TB := tb_of (tb_m4 (List.mem_of_getElem? (i := 222) rfl)) rfl
theorem q943 : Cond.code yX6_leastTug prog_8_method_8_code 6 (Option.some FieldType.int) ∈ TB := tb_of (tb_m4 (List.mem_of_getElem? (i := 223) rfl)) rfl
theorem q944 : Cond.methodLink RL 119 yX10_needs ∈ TB := tb_of (tb_m4 (List.mem_of_getElem? (i := 224) rfl)) rfl
theorem q945 : Cond.instanceMethod yX10_needs ∈ TB := tb_of (tb_m4 (List.mem_of_getElem? (i := 225) rfl)) rfl
theorem q946 : Cond.selects RX10 yX10_needs yX10_needs ∈ TB := tb_of (tb_m4 (List.mem_of_getElem? (i := 226) rfl)) rfl
theorem q947 : Cond.code yX10_needs prog_1_method_26_code 4 (Option.some FieldType.int) ∈ TB := tb_of (tb_m4 (List.mem_of_getElem? (i := 227) rfl)) rfl
theorem q948 : Cond.methodLink RX10 262 yX9_hasHour ∈ TB := tb_of (tb_m4 (List.mem_of_getElem? (i := 228) rfl)) rfl
theorem q949 : Cond.instanceMethod yX9_hasHour ∈ TB := tb_of (tb_m4 (List.mem_of_getElem? (i := 229) rfl)) rfl
theorem q950 : Cond.selects RX9 yX9_hasHour yX9_hasHour ∈ TB := tb_of (tb_m4 (List.mem_of_getElem? (i := 230) rfl)) rfl
theorem q951 : Cond.code yX9_hasHour prog_11_method_3_code 2 (Option.some FieldType.boolean) ∈ TB := tb_of (tb_m4 (List.mem_of_getElem? (i := 231) rfl)) rfl
theorem q952 : Cond.methodLink RX10 265 yX2_isDeck ∈ TB := tb_of (tb_m4 (List.mem_of_getElem? (i := 232) rfl)) rfl
theorem q953 : Cond.static yX2_isDeck ∈ TB := tb_of (tb_m4 (List.mem_of_getElem? (i := 233) rfl)) rfl
theorem q954 : Cond.code yX2_isDeck prog_4_method_2_code 1 (Option.some FieldType.boolean) ∈ TB := tb_of (tb_m4 (List.mem_of_getElem? (i := 234) rfl)) rfl
theorem q955 : Cond.methodLink RX10 268 yX7_lineAlong ∈ TB := tb_of (tb_m4 (List.mem_of_getElem? (i := 235) rfl)) rfl
theorem q956 : Cond.instanceMethod yX7_lineAlong ∈ TB := tb_of (tb_m4 (List.mem_of_getElem? (i := 236) rfl)) rfl
theorem q957 : Cond.selects RX7 yX7_lineAlong yX7_lineAlong ∈ TB := tb_of (tb_m4 (List.mem_of_getElem? (i := 237) rfl)) rfl
theorem q958 : Cond.code yX7_lineAlong prog_9_method_13_code 3 (Option.some FieldType.int) ∈ TB := tb_of (tb_m4 (List.mem_of_getElem? (i := 238) rfl)) rfl
theorem q959 : Cond.methodLink RX10 271 yX9_heightAt ∈ TB := tb_of (tb_m4 (List.mem_of_getElem? (i := 239) rfl)) rfl
theorem q960 : Cond.instanceMethod yX9_heightAt ∈ TB := tb_of (tb_m5 (List.mem_of_getElem? (i := 0) rfl)) rfl
theorem q961 : Cond.selects RX9 yX9_heightAt yX9_heightAt ∈ TB := tb_of (tb_m5 (List.mem_of_getElem? (i := 1) rfl)) rfl
theorem q962 : Cond.code yX9_heightAt prog_11_method_4_code 2 (Option.some FieldType.int) ∈ TB := tb_of (tb_m5 (List.mem_of_getElem? (i := 2) rfl)) rfl
theorem q963 : Cond.methodLink RX9 23 yX9_hasHour ∈ TB := tb_of (tb_m5 (List.mem_of_getElem? (i := 3) rfl)) rfl
theorem q964 : Cond.methodLink RX10 274 yX2_lengthNeeded ∈ TB := tb_of (tb_m5 (List.mem_of_getElem? (i := 4) rfl)) rfl
theorem q965 : Cond.static yX2_lengthNeeded ∈ TB := tb_of (tb_m5 (List.mem_of_getElem? (i := 5) rfl)) rfl
theorem q966 : Cond.code yX2_lengthNeeded prog_4_method_3_code 3 (Option.some FieldType.int) ∈ TB := tb_of (tb_m5 (List.mem_of_getElem? (i := 6) rfl)) rfl
theorem q968 : Cond.methodLink RL 123 yX10_tended ∈ TB := tb_of (tb_m5 (List.mem_of_getElem? (i := 8) rfl)) rfl
theorem q969 : Cond.instanceMethod yX10_tended ∈ TB := tb_of (tb_m5 (List.mem_of_getElem? (i := 9) rfl)) rfl
theorem q970 : Cond.selects RX10 yX10_tended yX10_tended ∈ TB := tb_of (tb_m5 (List.mem_of_getElem? (i := 10) rfl)) rfl
theorem q971 : Cond.code yX10_tended prog_1_method_27_code 4 (Option.some FieldType.int) ∈ TB := tb_of (tb_m5 (List.mem_of_getElem? (i := 11) rfl)) rfl
theorem q972 : Cond.methodLink RX10 278 yX2_tend ∈ TB := tb_of (tb_m5 (List.mem_of_getElem? (i := 12) rfl)) rfl
theorem q973 : Cond.instanceMethod yX2_tend ∈ TB := tb_of (tb_m5 (List.mem_of_getElem? (i := 13) rfl)) rfl
theorem q974 : Cond.selects RX2 yX2_tend yX2_tend ∈ TB := tb_of (tb_m5 (List.mem_of_getElem? (i := 14) rfl)) rfl
theorem q975 : Cond.code yX2_tend prog_4_method_4_code 8 none ∈ TB := tb_of (tb_m5 (List.mem_of_getElem? (i := 15) rfl)) rfl
theorem q976 : Cond.methodLink RX2 26 yX9_heightAt ∈ TB := tb_of (tb_m5 (List.mem_of_getElem? (i := 16) rfl)) rfl
theorem q977 : Cond.methodLink RX2 30 yX2_lengthNeeded ∈ TB := tb_of (tb_m5 (List.mem_of_getElem? (i := 17) rfl)) rfl
theorem q978 : Cond.methodLink RX2 34 yJ9_min_7cf53 ∈ TB := tb_of (tb_m5 (List.mem_of_getElem? (i := 18) rfl)) rfl
theorem q979 : Cond.methodLink RX2 39 yJ9_max_7cf53 ∈ TB := tb_of (tb_m5 (List.mem_of_getElem? (i := 19) rfl)) rfl
theorem q980 : Cond.methodLink RX10 283 yX2_hourOf ∈ TB := tb_of (tb_m5 (List.mem_of_getElem? (i := 20) rfl)) rfl
theorem q981 : Cond.instanceMethod yX2_hourOf ∈ TB := tb_of (tb_m5 (List.mem_of_getElem? (i := 21) rfl)) rfl
theorem q982 : Cond.selects RX2 yX2_hourOf yX2_hourOf ∈ TB := tb_of (tb_m5 (List.mem_of_getElem? (i := 22) rfl)) rfl
theorem q983 : Cond.code yX2_hourOf prog_4_method_5_code 2 (Option.some FieldType.int) ∈ TB := tb_of (tb_m5 (List.mem_of_getElem? (i := 23) rfl)) rfl
theorem q984 : Cond.methodLink RL 127 yX10_wakes ∈ TB := tb_of (tb_m5 (List.mem_of_getElem? (i := 24) rfl)) rfl
theorem q985 : Cond.instanceMethod yX10_wakes ∈ TB := tb_of (tb_m5 (List.mem_of_getElem? (i := 25) rfl)) rfl
theorem q986 : Cond.selects RX10 yX10_wakes yX10_wakes ∈ TB := tb_of (tb_m5 (List.mem_of_getElem? (i := 26) rfl)) rfl
theorem q987 : Cond.code yX10_wakes prog_1_method_28_code 4 (Option.some FieldType.int) ∈ TB := tb_of (tb_m5 (List.mem_of_getElem? (i := 27) rfl)) rfl
theorem q988 : Cond.methodLink RX10 286 yX2_hoursAsSet ∈ TB := tb_of (tb_m5 (List.mem_of_getElem? (i := 28) rfl)) rfl
theorem q989 : Cond.instanceMethod yX2_hoursAsSet ∈ TB := tb_of (tb_m5 (List.mem_of_getElem? (i := 29) rfl)) rfl
theorem q990 : Cond.selects RX2 yX2_hoursAsSet yX2_hoursAsSet ∈ TB := tb_of (tb_m5 (List.mem_of_getElem? (i := 30) rfl)) rfl
theorem q991 : Cond.code yX2_hoursAsSet prog_4_method_6_code 3 (Option.some FieldType.int) ∈ TB := tb_of (tb_m5 (List.mem_of_getElem? (i := 31) rfl)) rfl
theorem q992 : Cond.methodLink RL 131 yX10_order ∈ TB := tb_of (tb_m5 (List.mem_of_getElem? (i := 32) rfl)) rfl
theorem q993 : Cond.instanceMethod yX10_order ∈ TB := tb_of (tb_m5 (List.mem_of_getElem? (i := 33) rfl)) rfl
theorem q994 : Cond.selects RX10 yX10_order yX10_order ∈ TB := tb_of (tb_m5 (List.mem_of_getElem? (i := 34) rfl)) rfl
theorem q995 : Cond.code yX10_order prog_1_method_29_code 2 (Option.some FieldType.int) ∈ TB := tb_of (tb_m5 (List.mem_of_getElem? (i := 35) rfl)) rfl
theorem q996 : Cond.methodLink RX10 289 yX0_weigh ∈ TB := tb_of (tb_m5 (List.mem_of_getElem? (i := 36) rfl)) rfl
theorem q997 : Cond.instanceMethod yX0_weigh ∈ TB := tb_of (tb_m5 (List.mem_of_getElem? (i := 37) rfl)) rfl
theorem q998 : Cond.selects RX0 yX0_weigh yX0_weigh ∈ TB := tb_of (tb_m5 (List.mem_of_getElem? (i := 38) rfl)) rfl
theorem q999 : Cond.code yX0_weigh prog_2_method_2_code 5 none ∈ TB := tb_of (tb_m5 (List.mem_of_getElem? (i := 39) rfl)) rfl
theorem q1000 : Cond.methodLink RX0 33 yX1_isFast ∈ TB := tb_of (tb_m5 (List.mem_of_getElem? (i := 40) rfl)) rfl
theorem q1001 : Cond.methodLink RX0 40 yX4_arm ∈ TB := tb_of (tb_m5 (List.mem_of_getElem? (i := 41) rfl)) rfl
theorem q1002 : Cond.methodLink RX0 46 yX7_wayOff ∈ TB := tb_of (tb_m5 (List.mem_of_getElem? (i := 42) rfl)) rfl
theorem q1003 : Cond.methodLink RX0 52 yX4_postStrength ∈ TB := tb_of (tb_m5 (List.mem_of_getElem? (i := 43) rfl)) rfl
theorem q1004 : Cond.methodLink RX0 61 yX0_strainOf ∈ TB := tb_of (tb_m5 (List.mem_of_getElem? (i := 44) rfl)) rfl
theorem q1006 : Cond.instanceMethod yX0_strainOf ∈ TB := tb_of (tb_m5 (List.mem_of_getElem? (i := 46) rfl)) rfl
theorem q1007 : Cond.code yX0_strainOf prog_2_method_3_code 6 (Option.some FieldType.int) ∈ TB := tb_of (tb_m5 (List.mem_of_getElem? (i := 47) rfl)) rfl
theorem q1008 : Cond.methodLink RX0 73 yX0_isIn ∈ TB := tb_of (tb_m5 (List.mem_of_getElem? (i := 48) rfl)) rfl
theorem q1009 : Cond.static yX0_isIn ∈ TB := tb_of (tb_m5 (List.mem_of_getElem? (i := 49) rfl)) rfl
theorem q1010 : Cond.code yX0_isIn prog_2_method_8_code 2 (Option.some FieldType.boolean) ∈ TB := tb_of (tb_m5 (List.mem_of_getElem? (i := 50) rfl)) rfl
theorem q1011 : Cond.methodLink RX0 68 yJ9_max_7cf53 ∈ TB := tb_of (tb_m5 (List.mem_of_getElem? (i := 51) rfl)) rfl
theorem q1012 : Cond.methodLink RX0 65 yX0_bestAfterOne ∈ TB := tb_of (tb_m5 (List.mem_of_getElem? (i := 52) rfl)) rfl
theorem q1014 : Cond.instanceMethod yX0_bestAfterOne ∈ TB := tb_of (tb_m5 (List.mem_of_getElem? (i := 54) rfl)) rfl
theorem q1015 : Cond.code yX0_bestAfterOne prog_2_method_4_code 4 (Option.some FieldType.int) ∈ TB := tb_of (tb_m5 (List.mem_of_getElem? (i := 55) rfl)) rfl
theorem q1016 : Cond.methodLink RX10 293 yX0_greatestStrain ∈ TB := tb_of (tb_m5 (List.mem_of_getElem? (i := 56) rfl)) rfl
theorem q1017 : Cond.instanceMethod yX0_greatestStrain ∈ TB := tb_of (tb_m5 (List.mem_of_getElem? (i := 57) rfl)) rfl
theorem q1018 : Cond.selects RX0 yX0_greatestStrain yX0_greatestStrain ∈ TB := tb_of (tb_m5 (List.mem_of_getElem? (i := 58) rfl)) rfl
theorem q1019 : Cond.code yX0_greatestStrain prog_2_method_5_code 1 (Option.some FieldType.int) ∈ TB := tb_of (tb_m5 (List.mem_of_getElem? (i := 59) rfl)) rfl
theorem q1020 : Cond.methodLink RX10 296 yX0_lineAt ∈ TB := tb_of (tb_m5 (List.mem_of_getElem? (i := 60) rfl)) rfl
theorem q1021 : Cond.instanceMethod yX0_lineAt ∈ TB := tb_of (tb_m5 (List.mem_of_getElem? (i := 61) rfl)) rfl
theorem q1022 : Cond.selects RX0 yX0_lineAt yX0_lineAt ∈ TB := tb_of (tb_m5 (List.mem_of_getElem? (i := 62) rfl)) rfl
theorem q1023 : Cond.code yX0_lineAt prog_2_method_6_code 5 (Option.some FieldType.int) ∈ TB := tb_of (tb_m5 (List.mem_of_getElem? (i := 63) rfl)) rfl
theorem q1024 : Cond.methodLink RX0 77 yX0_firstToGo ∈ TB := tb_of (tb_m5 (List.mem_of_getElem? (i := 64) rfl)) rfl
theorem q1026 : Cond.instanceMethod yX0_firstToGo ∈ TB := tb_of (tb_m5 (List.mem_of_getElem? (i := 66) rfl)) rfl
theorem q1027 : Cond.code yX0_firstToGo prog_2_method_7_code 3 (Option.some FieldType.int) ∈ TB := tb_of (tb_m5 (List.mem_of_getElem? (i := 67) rfl)) rfl
theorem q1028 : Cond.methodLink RL 135 yX10_log ∈ TB := tb_of (tb_m5 (List.mem_of_getElem? (i := 68) rfl)) rfl
theorem q1029 : Cond.instanceMethod yX10_log ∈ TB := tb_of (tb_m5 (List.mem_of_getElem? (i := 69) rfl)) rfl
theorem q1030 : Cond.selects RX10 yX10_log yX10_log ∈ TB := tb_of (tb_m5 (List.mem_of_getElem? (i := 70) rfl)) rfl
theorem q1031 : Cond.code yX10_log prog_1_method_30_code 2 (Option.some FieldType.int) ∈ TB := tb_of (tb_m5 (List.mem_of_getElem? (i := 71) rfl)) rfl
theorem q1032 : Cond.constant RX10 299 (-99999) ∈ TB := tb_of (tb_m5 (List.mem_of_getElem? (i := 72) rfl)) rfl
theorem q1033 : Cond.constant RX10 300 (99999) ∈ TB := tb_of (tb_m5 (List.mem_of_getElem? (i := 73) rfl)) rfl
theorem q1034 : Cond.methodLink RL 139 yX10_clear ∈ TB := tb_of (tb_m5 (List.mem_of_getElem? (i := 74) rfl)) rfl
theorem q1035 : Cond.instanceMethod yX10_clear ∈ TB := tb_of (tb_m5 (List.mem_of_getElem? (i := 75) rfl)) rfl
theorem q1036 : Cond.selects RX10 yX10_clear yX10_clear ∈ TB := tb_of (tb_m5 (List.mem_of_getElem? (i := 76) rfl)) rfl
theorem q1037 : Cond.code yX10_clear prog_1_method_31_code 2 (Option.some FieldType.int) ∈ TB := tb_of (tb_m5 (List.mem_of_getElem? (i := 77) rfl)) rfl
theorem q1038 : Cond.methodLink RL 143 yX10_judge ∈ TB := tb_of (tb_m5 (List.mem_of_getElem? (i := 78) rfl)) rfl
theorem q1039 : Cond.instanceMethod yX10_judge ∈ TB := tb_of (tb_m5 (List.mem_of_getElem? (i := 79) rfl)) rfl
theorem q1040 : Cond.selects RX10 yX10_judge yX10_judge ∈ TB := tb_of (tb_m5 (List.mem_of_getElem? (i := 80) rfl)) rfl
theorem q1041 : Cond.code yX10_judge prog_1_method_32_code 4 (Option.some FieldType.int) ∈ TB := tb_of (tb_m5 (List.mem_of_getElem? (i := 81) rfl)) rfl
theorem q1042 : Cond.methodLink RX10 307 yJ9_abs_0f7a4 ∈ TB := tb_of (tb_m5 (List.mem_of_getElem? (i := 82) rfl)) rfl
theorem q1043 : Cond.methodLink RX10 312 yX3_steer ∈ TB := tb_of (tb_m5 (List.mem_of_getElem? (i := 83) rfl)) rfl
theorem q1044 : Cond.methodLink RL 147 yX10_seed ∈ TB := tb_of (tb_m5 (List.mem_of_getElem? (i := 84) rfl)) rfl
theorem q1045 : Cond.instanceMethod yX10_seed ∈ TB := tb_of (tb_m5 (List.mem_of_getElem? (i := 85) rfl)) rfl
theorem q1046 : Cond.selects RX10 yX10_seed yX10_seed ∈ TB := tb_of (tb_m5 (List.mem_of_getElem? (i := 86) rfl)) rfl
theorem q1047 : Cond.code yX10_seed prog_1_method_33_code 3 (Option.some FieldType.int) ∈ TB := tb_of (tb_m5 (List.mem_of_getElem? (i := 87) rfl)) rfl
theorem q1048 : Cond.methodLink RL 151 yX10_keep ∈ TB := tb_of (tb_m5 (List.mem_of_getElem? (i := 88) rfl)) rfl
theorem q1049 : Cond.instanceMethod yX10_keep ∈ TB := tb_of (tb_m5 (List.mem_of_getElem? (i := 89) rfl)) rfl
theorem q1050 : Cond.selects RX10 yX10_keep yX10_keep ∈ TB := tb_of (tb_m5 (List.mem_of_getElem? (i := 90) rfl)) rfl
theorem q1051 : Cond.code yX10_keep prog_1_method_34_code 2 (Option.some FieldType.int) ∈ TB := tb_of (tb_m5 (List.mem_of_getElem? (i := 91) rfl)) rfl
theorem q1052 : Cond.methodLink RL 155 yX10_goBack ∈ TB := tb_of (tb_m5 (List.mem_of_getElem? (i := 92) rfl)) rfl
theorem q1053 : Cond.instanceMethod yX10_goBack ∈ TB := tb_of (tb_m5 (List.mem_of_getElem? (i := 93) rfl)) rfl
theorem q1054 : Cond.selects RX10 yX10_goBack yX10_goBack ∈ TB := tb_of (tb_m5 (List.mem_of_getElem? (i := 94) rfl)) rfl
theorem q1055 : Cond.code yX10_goBack prog_1_method_35_code 2 (Option.some FieldType.int) ∈ TB := tb_of (tb_m5 (List.mem_of_getElem? (i := 95) rfl)) rfl
theorem q1056 : Cond.classLink RL 10 "AlongsideLinesModel" ∈ TB := tb_of (tb_m5 (List.mem_of_getElem? (i := 96) rfl)) rfl
theorem q1057 : Cond.instantiable RX11 34 ∈ TB := tb_of (tb_m5 (List.mem_of_getElem? (i := 97) rfl)) rfl
theorem q1058 : Cond.methodLink RL 12 yX11_init ∈ TB := tb_of (tb_m5 (List.mem_of_getElem? (i := 98) rfl)) rfl
theorem q1059 : Cond.instanceMethod yX11_init ∈ TB := tb_of (tb_m5 (List.mem_of_getElem? (i := 99) rfl)) rfl
theorem q1060 : Cond.code yX11_init prog_13_method_1_code 2 none ∈ TB := tb_of (tb_m5 (List.mem_of_getElem? (i := 100) rfl)) rfl
theorem q1061 : Cond.methodLink RX11 1 (⟨"java/lang/Object", "<init>", "()V"⟩ : MethodName) ∈ TB := tb_of (tb_m5 (List.mem_of_getElem? (i := 101) rfl)) rfl
theorem q1062 : Cond.methodLink RX11 73 yX11_untold ∈ TB := tb_of (tb_m5 (List.mem_of_getElem? (i := 102) rfl)) rfl
theorem q1063 : Cond.static yX11_untold ∈ TB := tb_of (tb_m5 (List.mem_of_getElem? (i := 103) rfl)) rfl
theorem q1064 : Cond.code yX11_untold prog_13_method_13_code 1 (Option.some FieldType.int) ∈ TB := tb_of (tb_m5 (List.mem_of_getElem? (i := 104) rfl)) rfl
theorem q1065 : Cond.methodLink RX11 77 yX11_begin ∈ TB := tb_of (tb_m5 (List.mem_of_getElem? (i := 105) rfl)) rfl
theorem q1067 : Cond.instanceMethod yX11_begin ∈ TB := tb_of (tb_m5 (List.mem_of_getElem? (i := 107) rfl)) rfl
theorem q1068 : Cond.code yX11_begin prog_13_method_4_code 2 none ∈ TB := tb_of (tb_m5 (List.mem_of_getElem? (i := 108) rfl)) rfl
theorem q1069 : Cond.constantLong RX11 80 (4500) ∈ TB := tb_of (tb_m5 (List.mem_of_getElem? (i := 109) rfl)) rfl
theorem q1070 : Cond.constantLong RX11 82 (3000) ∈ TB := tb_of (tb_m5 (List.mem_of_getElem? (i := 110) rfl)) rfl
theorem q1071 : Cond.fieldLink RX11 7 "AlongsideLinesModel" "told" "[I" ∈ TB := tb_of (tb_m5 (List.mem_of_getElem? (i := 111) rfl)) rfl
theorem q1072 : Cond.fieldLink RX11 176 "AlongsideLinesModel" "posts" "I" ∈ TB := tb_of (tb_m5 (List.mem_of_getElem? (i := 112) rfl)) rfl
theorem q1073 : Cond.fieldLink RX11 13 "AlongsideLinesModel" "postX" "[I" ∈ TB := tb_of (tb_m5 (List.mem_of_getElem? (i := 113) rfl)) rfl
theorem q1074 : Cond.fieldLink RX11 16 "AlongsideLinesModel" "postStrong" "[I" ∈ TB := tb_of (tb_m5 (List.mem_of_getElem? (i := 114) rfl)) rfl
theorem q1075 : Cond.fieldLink RX11 187 "AlongsideLinesModel" "ats" "I" ∈ TB := tb_of (tb_m5 (List.mem_of_getElem? (i := 115) rfl)) rfl
theorem q1076 : Cond.fieldLink RX11 19 "AlongsideLinesModel" "atRow" "[I" ∈ TB := tb_of (tb_m5 (List.mem_of_getElem? (i := 116) rfl)) rfl
theorem q1077 : Cond.fieldLink RX11 193 "AlongsideLinesModel" "hours" "I" ∈ TB := tb_of (tb_m5 (List.mem_of_getElem? (i := 117) rfl)) rfl
theorem q1078 : Cond.fieldLink RX11 22 "AlongsideLinesModel" "heights" "[I" ∈ TB := tb_of (tb_m5 (List.mem_of_getElem? (i := 118) rfl)) rfl
theorem q1079 : Cond.fieldLink RX11 25 "AlongsideLinesModel" "ship" "[J" ∈ TB := tb_of (tb_m5 (List.mem_of_getElem? (i := 119) rfl)) rfl
theorem q1080 : Cond.fieldLink RX11 29 "AlongsideLinesModel" "lines" "[I" ∈ TB := tb_of (tb_m5 (List.mem_of_getElem? (i := 120) rfl)) rfl
theorem q1081 : Cond.fieldLink RX11 32 "AlongsideLinesModel" "text" "[I" ∈ TB := tb_of (tb_m5 (List.mem_of_getElem? (i := 121) rfl)) rfl
theorem q1082 : Cond.fieldLink RX11 91 "AlongsideLinesModel" "texted" "I" ∈ TB := tb_of (tb_m5 (List.mem_of_getElem? (i := 122) rfl)) rfl
theorem q1083 : Cond.fieldLink RX11 35 "AlongsideLinesModel" "faultPlace" "I" ∈ TB := tb_of (tb_m5 (List.mem_of_getElem? (i := 123) rfl)) rfl
theorem q1084 : Cond.fieldLink RX11 97 "AlongsideLinesModel" "at0" "I" ∈ TB := tb_of (tb_m5 (List.mem_of_getElem? (i := 124) rfl)) rfl
theorem q1085 : Cond.fieldLink RX11 104 "AlongsideLinesModel" "said" "J" ∈ TB := tb_of (tb_m5 (List.mem_of_getElem? (i := 125) rfl)) rfl
theorem q1086 : Cond.fieldLink RX11 108 "AlongsideLinesModel" "wordEnd" "I" ∈ TB := tb_of (tb_m5 (List.mem_of_getElem? (i := 126) rfl)) rfl
theorem q1087 : Cond.fieldLink RX11 134 "AlongsideLinesModel" "number" "I" ∈ TB := tb_of (tb_m5 (List.mem_of_getElem? (i := 127) rfl)) rfl
theorem q1088 : Cond.fieldLink RX11 131 "AlongsideLinesModel" "numberAt" "I" ∈ TB := tb_of (tb_m5 (List.mem_of_getElem? (i := 128) rfl)) rfl
theorem q1089 : Cond.fieldLink RX11 39 "AlongsideLinesModel" "readTold" "[I" ∈ TB := tb_of (tb_m5 (List.mem_of_getElem? (i := 129) rfl)) rfl
theorem q1090 : Cond.fieldLink RX11 141 "AlongsideLinesModel" "readPosts" "I" ∈ TB := tb_of (tb_m5 (List.mem_of_getElem? (i := 130) rfl)) rfl
theorem q1091 : Cond.fieldLink RX11 42 "AlongsideLinesModel" "readX" "[I" ∈ TB := tb_of (tb_m5 (List.mem_of_getElem? (i := 131) rfl)) rfl
theorem q1092 : Cond.fieldLink RX11 45 "AlongsideLinesModel" "readStrong" "[I" ∈ TB := tb_of (tb_m5 (List.mem_of_getElem? (i := 132) rfl)) rfl
theorem q1093 : Cond.fieldLink RX11 160 "AlongsideLinesModel" "toldSet" "I" ∈ TB := tb_of (tb_m5 (List.mem_of_getElem? (i := 133) rfl)) rfl
theorem q1094 : Cond.fieldLink RX11 48 "AlongsideLinesModel" "readRow" "[I" ∈ TB := tb_of (tb_m5 (List.mem_of_getElem? (i := 134) rfl)) rfl
theorem q1095 : Cond.fieldLink RX11 181 "AlongsideLinesModel" "readMany" "I" ∈ TB := tb_of (tb_m5 (List.mem_of_getElem? (i := 135) rfl)) rfl
theorem q1096 : Cond.fieldLink RX11 51 "AlongsideLinesModel" "parting" "[I" ∈ TB := tb_of (tb_m5 (List.mem_of_getElem? (i := 136) rfl)) rfl
theorem q1097 : Cond.fieldLink RX11 331 "AlongsideLinesModel" "seed" "I" ∈ TB := tb_of (tb_m5 (List.mem_of_getElem? (i := 137) rfl)) rfl
theorem q1098 : Cond.fieldLink RX11 54 "AlongsideLinesModel" "wasShip" "[J" ∈ TB := tb_of (tb_m5 (List.mem_of_getElem? (i := 138) rfl)) rfl
theorem q1099 : Cond.fieldLink RX11 57 "AlongsideLinesModel" "wasLines" "[I" ∈ TB := tb_of (tb_m5 (List.mem_of_getElem? (i := 139) rfl)) rfl
theorem q1100 : Cond.fieldLink RX11 60 "AlongsideLinesModel" "worst" "[J" ∈ TB := tb_of (tb_m5 (List.mem_of_getElem? (i := 140) rfl)) rfl
theorem q1101 : Cond.fieldLink RX11 409 "AlongsideLinesModel" "logged" "I" ∈ TB := tb_of (tb_m5 (List.mem_of_getElem? (i := 141) rfl)) rfl
theorem q1102 : Cond.fieldLink RX11 63 "AlongsideLinesModel" "logRow" "[I" ∈ TB := tb_of (tb_m5 (List.mem_of_getElem? (i := 142) rfl)) rfl
theorem q1103 : Cond.fieldLink RX11 66 "AlongsideLinesModel" "images" "[J" ∈ TB := tb_of (tb_m5 (List.mem_of_getElem? (i := 143) rfl)) rfl
theorem q1104 : Cond.fieldLink RX11 69 "AlongsideLinesModel" "isKept" "[Z" ∈ TB := tb_of (tb_m5 (List.mem_of_getElem? (i := 144) rfl)) rfl
theorem q1105 : Cond.laysFinal "AlongsideLinesModel" "AlongsideLinesModel" "told" "[I" ∈ TB := tb_of (tb_m5 (List.mem_of_getElem? (i := 145) rfl)) rfl
theorem q1107 : Cond.lays "AlongsideLinesModel" "AlongsideLinesModel" "posts" "I" ∈ TB := tb_of (tb_m5 (List.mem_of_getElem? (i := 147) rfl)) rfl
theorem q1109 : Cond.laysFinal "AlongsideLinesModel" "AlongsideLinesModel" "postX" "[I" ∈ TB := tb_of (tb_m5 (List.mem_of_getElem? (i := 149) rfl)) rfl
theorem q1111 : Cond.laysFinal "AlongsideLinesModel" "AlongsideLinesModel" "postStrong" "[I" ∈ TB := tb_of (tb_m5 (List.mem_of_getElem? (i := 151) rfl)) rfl
theorem q1113 : Cond.lays "AlongsideLinesModel" "AlongsideLinesModel" "ats" "I" ∈ TB := tb_of (tb_m5 (List.mem_of_getElem? (i := 153) rfl)) rfl
theorem q1115 : Cond.laysFinal "AlongsideLinesModel" "AlongsideLinesModel" "atRow" "[I" ∈ TB := tb_of (tb_m5 (List.mem_of_getElem? (i := 155) rfl)) rfl
theorem q1117 : Cond.lays "AlongsideLinesModel" "AlongsideLinesModel" "hours" "I" ∈ TB := tb_of (tb_m5 (List.mem_of_getElem? (i := 157) rfl)) rfl
theorem q1119 : Cond.laysFinal "AlongsideLinesModel" "AlongsideLinesModel" "heights" "[I" ∈ TB := tb_of (tb_m5 (List.mem_of_getElem? (i := 159) rfl)) rfl
theorem q1121 : Cond.laysFinal "AlongsideLinesModel" "AlongsideLinesModel" "ship" "[J" ∈ TB := tb_of (tb_m5 (List.mem_of_getElem? (i := 161) rfl)) rfl
theorem q1123 : Cond.laysFinal "AlongsideLinesModel" "AlongsideLinesModel" "lines" "[I" ∈ TB := tb_of (tb_m5 (List.mem_of_getElem? (i := 163) rfl)) rfl
theorem q1125 : Cond.laysFinal "AlongsideLinesModel" "AlongsideLinesModel" "text" "[I" ∈ TB := tb_of (tb_m5 (List.mem_of_getElem? (i := 165) rfl)) rfl
theorem q1127 : Cond.lays "AlongsideLinesModel" "AlongsideLinesModel" "texted" "I" ∈ TB := tb_of (tb_m5 (List.mem_of_getElem? (i := 167) rfl)) rfl
theorem q1129 : Cond.lays "AlongsideLinesModel" "AlongsideLinesModel" "faultPlace" "I" ∈ TB := tb_of (tb_m5 (List.mem_of_getElem? (i := 169) rfl)) rfl
theorem q1131 : Cond.lays "AlongsideLinesModel" "AlongsideLinesModel" "at0" "I" ∈ TB := tb_of (tb_m5 (List.mem_of_getElem? (i := 171) rfl)) rfl
theorem q1133 : Cond.lays "AlongsideLinesModel" "AlongsideLinesModel" "said" "J" ∈ TB := tb_of (tb_m5 (List.mem_of_getElem? (i := 173) rfl)) rfl
theorem q1135 : Cond.lays "AlongsideLinesModel" "AlongsideLinesModel" "wordEnd" "I" ∈ TB := tb_of (tb_m5 (List.mem_of_getElem? (i := 175) rfl)) rfl
theorem q1137 : Cond.lays "AlongsideLinesModel" "AlongsideLinesModel" "number" "I" ∈ TB := tb_of (tb_m5 (List.mem_of_getElem? (i := 177) rfl)) rfl
theorem q1139 : Cond.lays "AlongsideLinesModel" "AlongsideLinesModel" "numberAt" "I" ∈ TB := tb_of (tb_m5 (List.mem_of_getElem? (i := 179) rfl)) rfl
theorem q1141 : Cond.laysFinal "AlongsideLinesModel" "AlongsideLinesModel" "readTold" "[I" ∈ TB := tb_of (tb_m5 (List.mem_of_getElem? (i := 181) rfl)) rfl
theorem q1143 : Cond.lays "AlongsideLinesModel" "AlongsideLinesModel" "readPosts" "I" ∈ TB := tb_of (tb_m5 (List.mem_of_getElem? (i := 183) rfl)) rfl
theorem q1145 : Cond.laysFinal "AlongsideLinesModel" "AlongsideLinesModel" "readX" "[I" ∈ TB := tb_of (tb_m5 (List.mem_of_getElem? (i := 185) rfl)) rfl
theorem q1147 : Cond.laysFinal "AlongsideLinesModel" "AlongsideLinesModel" "readStrong" "[I" ∈ TB := tb_of (tb_m5 (List.mem_of_getElem? (i := 187) rfl)) rfl
theorem q1149 : Cond.lays "AlongsideLinesModel" "AlongsideLinesModel" "toldSet" "I" ∈ TB := tb_of (tb_m5 (List.mem_of_getElem? (i := 189) rfl)) rfl
theorem q1151 : Cond.laysFinal "AlongsideLinesModel" "AlongsideLinesModel" "readRow" "[I" ∈ TB := tb_of (tb_m5 (List.mem_of_getElem? (i := 191) rfl)) rfl
theorem q1153 : Cond.lays "AlongsideLinesModel" "AlongsideLinesModel" "readMany" "I" ∈ TB := tb_of (tb_m5 (List.mem_of_getElem? (i := 193) rfl)) rfl
theorem q1155 : Cond.laysFinal "AlongsideLinesModel" "AlongsideLinesModel" "parting" "[I" ∈ TB := tb_of (tb_m5 (List.mem_of_getElem? (i := 195) rfl)) rfl
theorem q1157 : Cond.lays "AlongsideLinesModel" "AlongsideLinesModel" "seed" "I" ∈ TB := tb_of (tb_m5 (List.mem_of_getElem? (i := 197) rfl)) rfl
theorem q1159 : Cond.laysFinal "AlongsideLinesModel" "AlongsideLinesModel" "wasShip" "[J" ∈ TB := tb_of (tb_m5 (List.mem_of_getElem? (i := 199) rfl)) rfl
theorem q1161 : Cond.laysFinal "AlongsideLinesModel" "AlongsideLinesModel" "wasLines" "[I" ∈ TB := tb_of (tb_m5 (List.mem_of_getElem? (i := 201) rfl)) rfl
theorem q1163 : Cond.laysFinal "AlongsideLinesModel" "AlongsideLinesModel" "worst" "[J" ∈ TB := tb_of (tb_m5 (List.mem_of_getElem? (i := 203) rfl)) rfl
theorem q1165 : Cond.lays "AlongsideLinesModel" "AlongsideLinesModel" "logged" "I" ∈ TB := tb_of (tb_m5 (List.mem_of_getElem? (i := 205) rfl)) rfl
theorem q1167 : Cond.laysFinal "AlongsideLinesModel" "AlongsideLinesModel" "logRow" "[I" ∈ TB := tb_of (tb_m5 (List.mem_of_getElem? (i := 207) rfl)) rfl
theorem q1169 : Cond.laysFinal "AlongsideLinesModel" "AlongsideLinesModel" "images" "[J" ∈ TB := tb_of (tb_m5 (List.mem_of_getElem? (i := 209) rfl)) rfl
theorem q1171 : Cond.laysFinal "AlongsideLinesModel" "AlongsideLinesModel" "isKept" "[Z" ∈ TB := tb_of (tb_m5 (List.mem_of_getElem? (i := 211) rfl)) rfl
theorem q1174 : Cond.arrayClass FieldType.long ∈ TB := tb_of (tb_m5 (List.mem_of_getElem? (i := 214) rfl)) rfl
theorem q1175 : Cond.methodLink RL 19 yX11_feed ∈ TB := tb_of (tb_m5 (List.mem_of_getElem? (i := 215) rfl)) rfl
theorem q1176 : Cond.instanceMethod yX11_feed ∈ TB := tb_of (tb_m5 (List.mem_of_getElem? (i := 216) rfl)) rfl
theorem q1177 : Cond.selects RX11 yX11_feed yX11_feed ∈ TB := tb_of (tb_m5 (List.mem_of_getElem? (i := 217) rfl)) rfl
theorem q1178 : Cond.code yX11_feed prog_13_method_5_code 5 (Option.some FieldType.int) ∈ TB := tb_of (tb_m5 (List.mem_of_getElem? (i := 218) rfl)) rfl
theorem q1179 : Cond.constantLong RX11 84 (8) ∈ TB := tb_of (tb_m5 (List.mem_of_getElem? (i := 219) rfl)) rfl
theorem q1180 : Cond.methodLink RX11 86 yX11_in ∈ TB := tb_of (tb_m5 (List.mem_of_getElem? (i := 220) rfl)) rfl
theorem q1181 : Cond.static yX11_in ∈ TB := tb_of (tb_m5 (List.mem_of_getElem? (i := 221) rfl)) rfl
theorem q1182 : Cond.code yX11_in prog_13_method_3_code 6 (Option.some FieldType.boolean) ∈ TB := tb_of (tb_m5 (List.mem_of_getElem? (i := 222) rfl)) rfl
theorem q1183 : Cond.constant RX11 90 (-1000000002) ∈ TB := tb_of (tb_m5 (List.mem_of_getElem? (i := 223) rfl)) rfl
theorem q1184 : Cond.constant RX11 94 (-1000000004) ∈ TB := tb_of (tb_m5 (List.mem_of_getElem? (i := 224) rfl)) rfl
theorem q1185 : Cond.constantLong RX11 95 (255) ∈ TB := tb_of (tb_m5 (List.mem_of_getElem? (i := 225) rfl)) rfl
theorem q1186 : Cond.methodLink RL 24 yX11_quay ∈ TB := tb_of (tb_m5 (List.mem_of_getElem? (i := 226) rfl)) rfl
theorem q1187 : Cond.instanceMethod yX11_quay ∈ TB := tb_of (tb_m5 (List.mem_of_getElem? (i := 227) rfl)) rfl
theorem q1188 : Cond.selects RX11 yX11_quay yX11_quay ∈ TB := tb_of (tb_m5 (List.mem_of_getElem? (i := 228) rfl)) rfl
theorem q1189 : Cond.code yX11_quay prog_13_method_18_code 3 (Option.some FieldType.int) ∈ TB := tb_of (tb_m5 (List.mem_of_getElem? (i := 229) rfl)) rfl
theorem q1190 : Cond.methodLink RX11 100 yX11_here ∈ TB := tb_of (tb_m5 (List.mem_of_getElem? (i := 230) rfl)) rfl
theorem q1192 : Cond.instanceMethod yX11_here ∈ TB := tb_of (tb_m5 (List.mem_of_getElem? (i := 232) rfl)) rfl
theorem q1193 : Cond.code yX11_here prog_13_method_6_code 1 (Option.some FieldType.int) ∈ TB := tb_of (tb_m5 (List.mem_of_getElem? (i := 233) rfl)) rfl
theorem q1194 : Cond.methodLink RX11 173 yX11_takeClause ∈ TB := tb_of (tb_m5 (List.mem_of_getElem? (i := 234) rfl)) rfl
theorem q1196 : Cond.instanceMethod yX11_takeClause ∈ TB := tb_of (tb_m5 (List.mem_of_getElem? (i := 236) rfl)) rfl
theorem q1197 : Cond.code yX11_takeClause prog_13_method_17_code 3 (Option.some FieldType.int) ∈ TB := tb_of (tb_m5 (List.mem_of_getElem? (i := 237) rfl)) rfl
theorem q1198 : Cond.methodLink RX11 154 yX11_readWord ∈ TB := tb_of (tb_m5 (List.mem_of_getElem? (i := 238) rfl)) rfl
theorem q1200 : Cond.instanceMethod yX11_readWord ∈ TB := tb_of (tb_m6 (List.mem_of_getElem? (i := 0) rfl)) rfl
theorem q1201 : Cond.code yX11_readWord prog_13_method_8_code 2 none ∈ TB := tb_of (tb_m6 (List.mem_of_getElem? (i := 1) rfl)) rfl
theorem q1202 : Cond.constantLong RX11 111 (97) ∈ TB := tb_of (tb_m6 (List.mem_of_getElem? (i := 2) rfl)) rfl
theorem q1203 : Cond.constantLong RX11 113 (122) ∈ TB := tb_of (tb_m6 (List.mem_of_getElem? (i := 3) rfl)) rfl
theorem q1204 : Cond.constantLong RX11 115 (1000000000000) ∈ TB := tb_of (tb_m6 (List.mem_of_getElem? (i := 4) rfl)) rfl
theorem q1205 : Cond.constantLong RX11 117 (2000000000000) ∈ TB := tb_of (tb_m6 (List.mem_of_getElem? (i := 5) rfl)) rfl
theorem q1206 : Cond.constantLong RX11 119 (27) ∈ TB := tb_of (tb_m6 (List.mem_of_getElem? (i := 6) rfl)) rfl
theorem q1207 : Cond.constantLong RX11 121 (96) ∈ TB := tb_of (tb_m6 (List.mem_of_getElem? (i := 7) rfl)) rfl
theorem q1208 : Cond.methodLink RX11 157 yX11_clauseOf ∈ TB := tb_of (tb_m6 (List.mem_of_getElem? (i := 8) rfl)) rfl
theorem q1210 : Cond.instanceMethod yX11_clauseOf ∈ TB := tb_of (tb_m6 (List.mem_of_getElem? (i := 10) rfl)) rfl
theorem q1211 : Cond.code yX11_clauseOf prog_13_method_16_code 3 (Option.some FieldType.int) ∈ TB := tb_of (tb_m6 (List.mem_of_getElem? (i := 11) rfl)) rfl
theorem q1212 : Cond.constantLong RX11 144 (5146) ∈ TB := tb_of (tb_m6 (List.mem_of_getElem? (i := 12) rfl)) rfl
theorem q1213 : Cond.methodLink RX11 146 yX11_code ∈ TB := tb_of (tb_m6 (List.mem_of_getElem? (i := 13) rfl)) rfl
theorem q1214 : Cond.static yX11_code ∈ TB := tb_of (tb_m6 (List.mem_of_getElem? (i := 14) rfl)) rfl
theorem q1215 : Cond.code yX11_code prog_13_method_9_code 4 (Option.some FieldType.long) ∈ TB := tb_of (tb_m6 (List.mem_of_getElem? (i := 15) rfl)) rfl
theorem q1216 : Cond.methodLink RX11 150 yX11_longer ∈ TB := tb_of (tb_m6 (List.mem_of_getElem? (i := 16) rfl)) rfl
theorem q1217 : Cond.static yX11_longer ∈ TB := tb_of (tb_m6 (List.mem_of_getElem? (i := 17) rfl)) rfl
theorem q1218 : Cond.code yX11_longer prog_13_method_10_code 3 (Option.some FieldType.long) ∈ TB := tb_of (tb_m6 (List.mem_of_getElem? (i := 18) rfl)) rfl
theorem q1219 : Cond.methodLink RX11 127 yX11_fails ∈ TB := tb_of (tb_m6 (List.mem_of_getElem? (i := 19) rfl)) rfl
theorem q1221 : Cond.instanceMethod yX11_fails ∈ TB := tb_of (tb_m6 (List.mem_of_getElem? (i := 21) rfl)) rfl
theorem q1222 : Cond.code yX11_fails prog_13_method_7_code 3 (Option.some FieldType.int) ∈ TB := tb_of (tb_m6 (List.mem_of_getElem? (i := 22) rfl)) rfl
theorem q1223 : Cond.methodLink RX11 163 yX11_take ∈ TB := tb_of (tb_m6 (List.mem_of_getElem? (i := 23) rfl)) rfl
theorem q1225 : Cond.instanceMethod yX11_take ∈ TB := tb_of (tb_m6 (List.mem_of_getElem? (i := 25) rfl)) rfl
theorem q1226 : Cond.code yX11_take prog_13_method_14_code 5 (Option.some FieldType.int) ∈ TB := tb_of (tb_m6 (List.mem_of_getElem? (i := 26) rfl)) rfl
theorem q1227 : Cond.methodLink RX11 138 yX11_takeNumber ∈ TB := tb_of (tb_m6 (List.mem_of_getElem? (i := 27) rfl)) rfl
theorem q1229 : Cond.instanceMethod yX11_takeNumber ∈ TB := tb_of (tb_m6 (List.mem_of_getElem? (i := 29) rfl)) rfl
theorem q1230 : Cond.code yX11_takeNumber prog_13_method_11_code 4 (Option.some FieldType.int) ∈ TB := tb_of (tb_m6 (List.mem_of_getElem? (i := 30) rfl)) rfl
theorem q1231 : Cond.constantLong RX11 123 (48) ∈ TB := tb_of (tb_m6 (List.mem_of_getElem? (i := 31) rfl)) rfl
theorem q1232 : Cond.constantLong RX11 125 (57) ∈ TB := tb_of (tb_m6 (List.mem_of_getElem? (i := 32) rfl)) rfl
theorem q1233 : Cond.constant RX11 137 (100000) ∈ TB := tb_of (tb_m6 (List.mem_of_getElem? (i := 33) rfl)) rfl
theorem q1234 : Cond.methodLink RX11 167 yX11_takePost ∈ TB := tb_of (tb_m6 (List.mem_of_getElem? (i := 34) rfl)) rfl
theorem q1236 : Cond.instanceMethod yX11_takePost ∈ TB := tb_of (tb_m6 (List.mem_of_getElem? (i := 36) rfl)) rfl
theorem q1237 : Cond.code yX11_takePost prog_13_method_15_code 3 (Option.some FieldType.int) ∈ TB := tb_of (tb_m6 (List.mem_of_getElem? (i := 37) rfl)) rfl
theorem q1238 : Cond.methodLink RX11 170 yX11_takeStop ∈ TB := tb_of (tb_m6 (List.mem_of_getElem? (i := 38) rfl)) rfl
theorem q1240 : Cond.instanceMethod yX11_takeStop ∈ TB := tb_of (tb_m6 (List.mem_of_getElem? (i := 40) rfl)) rfl
theorem q1241 : Cond.code yX11_takeStop prog_13_method_12_code 1 (Option.some FieldType.int) ∈ TB := tb_of (tb_m6 (List.mem_of_getElem? (i := 41) rfl)) rfl
theorem q1242 : Cond.methodLink RL 28 yX11_plan ∈ TB := tb_of (tb_m6 (List.mem_of_getElem? (i := 42) rfl)) rfl
theorem q1243 : Cond.instanceMethod yX11_plan ∈ TB := tb_of (tb_m6 (List.mem_of_getElem? (i := 43) rfl)) rfl
theorem q1244 : Cond.selects RX11 yX11_plan yX11_plan ∈ TB := tb_of (tb_m6 (List.mem_of_getElem? (i := 44) rfl)) rfl
theorem q1245 : Cond.code yX11_plan prog_13_method_20_code 3 (Option.some FieldType.int) ∈ TB := tb_of (tb_m6 (List.mem_of_getElem? (i := 45) rfl)) rfl
theorem q1246 : Cond.methodLink RX11 184 yX11_takeAt ∈ TB := tb_of (tb_m6 (List.mem_of_getElem? (i := 46) rfl)) rfl
theorem q1248 : Cond.instanceMethod yX11_takeAt ∈ TB := tb_of (tb_m6 (List.mem_of_getElem? (i := 48) rfl)) rfl
theorem q1249 : Cond.code yX11_takeAt prog_13_method_19_code 2 (Option.some FieldType.int) ∈ TB := tb_of (tb_m6 (List.mem_of_getElem? (i := 49) rfl)) rfl
theorem q1250 : Cond.constantLong RX11 179 (47) ∈ TB := tb_of (tb_m6 (List.mem_of_getElem? (i := 50) rfl)) rfl
theorem q1251 : Cond.methodLink RL 32 yX11_tide ∈ TB := tb_of (tb_m6 (List.mem_of_getElem? (i := 51) rfl)) rfl
theorem q1252 : Cond.instanceMethod yX11_tide ∈ TB := tb_of (tb_m6 (List.mem_of_getElem? (i := 52) rfl)) rfl
theorem q1253 : Cond.selects RX11 yX11_tide yX11_tide ∈ TB := tb_of (tb_m6 (List.mem_of_getElem? (i := 53) rfl)) rfl
theorem q1254 : Cond.code yX11_tide prog_13_method_22_code 3 (Option.some FieldType.int) ∈ TB := tb_of (tb_m6 (List.mem_of_getElem? (i := 54) rfl)) rfl
theorem q1255 : Cond.methodLink RX11 190 yX11_takeHour ∈ TB := tb_of (tb_m6 (List.mem_of_getElem? (i := 55) rfl)) rfl
theorem q1257 : Cond.instanceMethod yX11_takeHour ∈ TB := tb_of (tb_m6 (List.mem_of_getElem? (i := 57) rfl)) rfl
theorem q1258 : Cond.code yX11_takeHour prog_13_method_21_code 2 (Option.some FieldType.int) ∈ TB := tb_of (tb_m6 (List.mem_of_getElem? (i := 58) rfl)) rfl
theorem q1259 : Cond.methodLink RL 36 yX11_fault ∈ TB := tb_of (tb_m6 (List.mem_of_getElem? (i := 59) rfl)) rfl
theorem q1260 : Cond.instanceMethod yX11_fault ∈ TB := tb_of (tb_m6 (List.mem_of_getElem? (i := 60) rfl)) rfl
theorem q1261 : Cond.selects RX11 yX11_fault yX11_fault ∈ TB := tb_of (tb_m6 (List.mem_of_getElem? (i := 61) rfl)) rfl
theorem q1262 : Cond.code yX11_fault prog_13_method_23_code 1 (Option.some FieldType.int) ∈ TB := tb_of (tb_m6 (List.mem_of_getElem? (i := 62) rfl)) rfl
theorem q1263 : Cond.methodLink RL 41 yX11_told ∈ TB := tb_of (tb_m6 (List.mem_of_getElem? (i := 63) rfl)) rfl
theorem q1264 : Cond.instanceMethod yX11_told ∈ TB := tb_of (tb_m6 (List.mem_of_getElem? (i := 64) rfl)) rfl
theorem q1265 : Cond.selects RX11 yX11_told yX11_told ∈ TB := tb_of (tb_m6 (List.mem_of_getElem? (i := 65) rfl)) rfl
theorem q1266 : Cond.code yX11_told prog_13_method_24_code 2 (Option.some FieldType.int) ∈ TB := tb_of (tb_m6 (List.mem_of_getElem? (i := 66) rfl)) rfl
theorem q1267 : Cond.constantLong RX11 196 (12) ∈ TB := tb_of (tb_m6 (List.mem_of_getElem? (i := 67) rfl)) rfl
theorem q1268 : Cond.methodLink RL 46 yX11_post ∈ TB := tb_of (tb_m6 (List.mem_of_getElem? (i := 68) rfl)) rfl
theorem q1269 : Cond.instanceMethod yX11_post ∈ TB := tb_of (tb_m6 (List.mem_of_getElem? (i := 69) rfl)) rfl
theorem q1270 : Cond.selects RX11 yX11_post yX11_post ∈ TB := tb_of (tb_m6 (List.mem_of_getElem? (i := 70) rfl)) rfl
theorem q1271 : Cond.code yX11_post prog_13_method_26_code 3 (Option.some FieldType.int) ∈ TB := tb_of (tb_m6 (List.mem_of_getElem? (i := 71) rfl)) rfl
theorem q1272 : Cond.methodLink RX11 198 yX11_isPost ∈ TB := tb_of (tb_m6 (List.mem_of_getElem? (i := 72) rfl)) rfl
theorem q1274 : Cond.instanceMethod yX11_isPost ∈ TB := tb_of (tb_m6 (List.mem_of_getElem? (i := 74) rfl)) rfl
theorem q1275 : Cond.code yX11_isPost prog_13_method_25_code 2 (Option.some FieldType.boolean) ∈ TB := tb_of (tb_m6 (List.mem_of_getElem? (i := 75) rfl)) rfl
theorem q1276 : Cond.constant RX11 202 (-1000000001) ∈ TB := tb_of (tb_m6 (List.mem_of_getElem? (i := 76) rfl)) rfl
theorem q1277 : Cond.methodLink RL 50 yX11_put ∈ TB := tb_of (tb_m6 (List.mem_of_getElem? (i := 77) rfl)) rfl
theorem q1278 : Cond.instanceMethod yX11_put ∈ TB := tb_of (tb_m6 (List.mem_of_getElem? (i := 78) rfl)) rfl
theorem q1279 : Cond.selects RX11 yX11_put yX11_put ∈ TB := tb_of (tb_m6 (List.mem_of_getElem? (i := 79) rfl)) rfl
theorem q1280 : Cond.code yX11_put prog_13_method_46_code 4 (Option.some FieldType.int) ∈ TB := tb_of (tb_m6 (List.mem_of_getElem? (i := 80) rfl)) rfl
theorem q1281 : Cond.methodLink RX11 290 yX11_leastOf ∈ TB := tb_of (tb_m6 (List.mem_of_getElem? (i := 81) rfl)) rfl
theorem q1282 : Cond.static yX11_leastOf ∈ TB := tb_of (tb_m6 (List.mem_of_getElem? (i := 82) rfl)) rfl
theorem q1283 : Cond.code yX11_leastOf prog_13_method_44_code 1 (Option.some FieldType.long) ∈ TB := tb_of (tb_m6 (List.mem_of_getElem? (i := 83) rfl)) rfl
theorem q1284 : Cond.constantLong RX11 278 (-45000) ∈ TB := tb_of (tb_m6 (List.mem_of_getElem? (i := 84) rfl)) rfl
theorem q1285 : Cond.constantLong RX11 280 (-20000) ∈ TB := tb_of (tb_m6 (List.mem_of_getElem? (i := 85) rfl)) rfl
theorem q1286 : Cond.constantLong RX11 282 (-5000) ∈ TB := tb_of (tb_m6 (List.mem_of_getElem? (i := 86) rfl)) rfl
theorem q1287 : Cond.constantLong RX11 284 (-3) ∈ TB := tb_of (tb_m6 (List.mem_of_getElem? (i := 87) rfl)) rfl
theorem q1288 : Cond.methodLink RX11 293 yX11_mostOf ∈ TB := tb_of (tb_m6 (List.mem_of_getElem? (i := 88) rfl)) rfl
theorem q1289 : Cond.static yX11_mostOf ∈ TB := tb_of (tb_m6 (List.mem_of_getElem? (i := 89) rfl)) rfl
theorem q1290 : Cond.code yX11_mostOf prog_13_method_45_code 1 (Option.some FieldType.long) ∈ TB := tb_of (tb_m6 (List.mem_of_getElem? (i := 90) rfl)) rfl
theorem q1291 : Cond.constantLong RX11 286 (9999) ∈ TB := tb_of (tb_m6 (List.mem_of_getElem? (i := 91) rfl)) rfl
theorem q1292 : Cond.constantLong RX11 276 (30000) ∈ TB := tb_of (tb_m6 (List.mem_of_getElem? (i := 92) rfl)) rfl
theorem q1293 : Cond.constantLong RX11 288 (99) ∈ TB := tb_of (tb_m6 (List.mem_of_getElem? (i := 93) rfl)) rfl
theorem q1294 : Cond.methodLink RL 55 yX11_now ∈ TB := tb_of (tb_m6 (List.mem_of_getElem? (i := 94) rfl)) rfl
theorem q1295 : Cond.instanceMethod yX11_now ∈ TB := tb_of (tb_m6 (List.mem_of_getElem? (i := 95) rfl)) rfl
theorem q1296 : Cond.selects RX11 yX11_now yX11_now ∈ TB := tb_of (tb_m6 (List.mem_of_getElem? (i := 96) rfl)) rfl
theorem q1297 : Cond.code yX11_now prog_13_method_48_code 2 (Option.some FieldType.long) ∈ TB := tb_of (tb_m6 (List.mem_of_getElem? (i := 97) rfl)) rfl
theorem q1298 : Cond.constantLong RX11 303 (16) ∈ TB := tb_of (tb_m6 (List.mem_of_getElem? (i := 98) rfl)) rfl
theorem q1299 : Cond.methodLink RX11 305 yX11_nowOf ∈ TB := tb_of (tb_m6 (List.mem_of_getElem? (i := 99) rfl)) rfl
theorem q1301 : Cond.instanceMethod yX11_nowOf ∈ TB := tb_of (tb_m6 (List.mem_of_getElem? (i := 101) rfl)) rfl
theorem q1302 : Cond.code yX11_nowOf prog_13_method_47_code 2 (Option.some FieldType.long) ∈ TB := tb_of (tb_m6 (List.mem_of_getElem? (i := 102) rfl)) rfl
theorem q1303 : Cond.methodLink RX11 221 yX11_offOf ∈ TB := tb_of (tb_m6 (List.mem_of_getElem? (i := 103) rfl)) rfl
theorem q1305 : Cond.instanceMethod yX11_offOf ∈ TB := tb_of (tb_m6 (List.mem_of_getElem? (i := 105) rfl)) rfl
theorem q1306 : Cond.code yX11_offOf prog_13_method_30_code 4 (Option.some FieldType.long) ∈ TB := tb_of (tb_m6 (List.mem_of_getElem? (i := 106) rfl)) rfl
theorem q1307 : Cond.methodLink RX11 211 yX11_freely ∈ TB := tb_of (tb_m6 (List.mem_of_getElem? (i := 107) rfl)) rfl
theorem q1309 : Cond.instanceMethod yX11_freely ∈ TB := tb_of (tb_m6 (List.mem_of_getElem? (i := 109) rfl)) rfl
theorem q1310 : Cond.code yX11_freely prog_13_method_29_code 2 (Option.some FieldType.long) ∈ TB := tb_of (tb_m6 (List.mem_of_getElem? (i := 110) rfl)) rfl
theorem q1311 : Cond.methodLink RX11 205 yX11_arm ∈ TB := tb_of (tb_m6 (List.mem_of_getElem? (i := 111) rfl)) rfl
theorem q1313 : Cond.instanceMethod yX11_arm ∈ TB := tb_of (tb_m6 (List.mem_of_getElem? (i := 113) rfl)) rfl
theorem q1314 : Cond.code yX11_arm prog_13_method_27_code 2 (Option.some FieldType.long) ∈ TB := tb_of (tb_m6 (List.mem_of_getElem? (i := 114) rfl)) rfl
theorem q1315 : Cond.constantLong RX11 203 (100) ∈ TB := tb_of (tb_m6 (List.mem_of_getElem? (i := 115) rfl)) rfl
theorem q1316 : Cond.constantLong RX11 209 (57296) ∈ TB := tb_of (tb_m6 (List.mem_of_getElem? (i := 116) rfl)) rfl
theorem q1317 : Cond.methodLink RX11 296 yX11_isSafe ∈ TB := tb_of (tb_m6 (List.mem_of_getElem? (i := 117) rfl)) rfl
theorem q1319 : Cond.instanceMethod yX11_isSafe ∈ TB := tb_of (tb_m6 (List.mem_of_getElem? (i := 119) rfl)) rfl
theorem q1320 : Cond.code yX11_isSafe prog_13_method_37_code 3 (Option.some FieldType.boolean) ∈ TB := tb_of (tb_m6 (List.mem_of_getElem? (i := 120) rfl)) rfl
theorem q1321 : Cond.methodLink RX11 236 yX11_size ∈ TB := tb_of (tb_m6 (List.mem_of_getElem? (i := 121) rfl)) rfl
theorem q1322 : Cond.static yX11_size ∈ TB := tb_of (tb_m6 (List.mem_of_getElem? (i := 122) rfl)) rfl
theorem q1323 : Cond.code yX11_size prog_13_method_36_code 2 (Option.some FieldType.long) ∈ TB := tb_of (tb_m6 (List.mem_of_getElem? (i := 123) rfl)) rfl
theorem q1324 : Cond.constantLong RX11 239 (2000) ∈ TB := tb_of (tb_m6 (List.mem_of_getElem? (i := 124) rfl)) rfl
theorem q1325 : Cond.constantLong RX11 241 (300) ∈ TB := tb_of (tb_m6 (List.mem_of_getElem? (i := 125) rfl)) rfl
theorem q1326 : Cond.methodLink RX11 218 yX11_along ∈ TB := tb_of (tb_m6 (List.mem_of_getElem? (i := 126) rfl)) rfl
theorem q1328 : Cond.instanceMethod yX11_along ∈ TB := tb_of (tb_m6 (List.mem_of_getElem? (i := 128) rfl)) rfl
theorem q1329 : Cond.code yX11_along prog_13_method_28_code 2 (Option.some FieldType.long) ∈ TB := tb_of (tb_m6 (List.mem_of_getElem? (i := 129) rfl)) rfl
theorem q1330 : Cond.methodLink RX11 300 yX11_fastMany ∈ TB := tb_of (tb_m6 (List.mem_of_getElem? (i := 130) rfl)) rfl
theorem q1332 : Cond.instanceMethod yX11_fastMany ∈ TB := tb_of (tb_m6 (List.mem_of_getElem? (i := 132) rfl)) rfl
theorem q1333 : Cond.code yX11_fastMany prog_13_method_35_code 3 (Option.some FieldType.int) ∈ TB := tb_of (tb_m6 (List.mem_of_getElem? (i := 133) rfl)) rfl
theorem q1334 : Cond.constantLong RX11 308 (-1000000002) ∈ TB := tb_of (tb_m6 (List.mem_of_getElem? (i := 134) rfl)) rfl
theorem q1335 : Cond.methodLink RL 59 yX11_go ∈ TB := tb_of (tb_m6 (List.mem_of_getElem? (i := 135) rfl)) rfl
theorem q1336 : Cond.instanceMethod yX11_go ∈ TB := tb_of (tb_m6 (List.mem_of_getElem? (i := 136) rfl)) rfl
theorem q1337 : Cond.selects RX11 yX11_go yX11_go ∈ TB := tb_of (tb_m6 (List.mem_of_getElem? (i := 137) rfl)) rfl
theorem q1338 : Cond.code yX11_go prog_13_method_49_code 4 (Option.some FieldType.int) ∈ TB := tb_of (tb_m6 (List.mem_of_getElem? (i := 138) rfl)) rfl
theorem q1339 : Cond.constantLong RX11 310 (600) ∈ TB := tb_of (tb_m6 (List.mem_of_getElem? (i := 139) rfl)) rfl
theorem q1340 : Cond.methodLink RX11 312 yX11_second ∈ TB := tb_of (tb_m6 (List.mem_of_getElem? (i := 140) rfl)) rfl
theorem q1342 : Cond.instanceMethod yX11_second ∈ TB := tb_of (tb_m6 (List.mem_of_getElem? (i := 142) rfl)) rfl
theorem q1343 : Cond.code yX11_second prog_13_method_43_code 2 (Option.some FieldType.int) ∈ TB := tb_of (tb_m6 (List.mem_of_getElem? (i := 143) rfl)) rfl
theorem q1344 : Cond.methodLink RX11 261 yX11_partLines ∈ TB := tb_of (tb_m6 (List.mem_of_getElem? (i := 144) rfl)) rfl
theorem q1346 : Cond.instanceMethod yX11_partLines ∈ TB := tb_of (tb_m6 (List.mem_of_getElem? (i := 146) rfl)) rfl
theorem q1347 : Cond.code yX11_partLines prog_13_method_39_code 3 (Option.some FieldType.int) ∈ TB := tb_of (tb_m6 (List.mem_of_getElem? (i := 147) rfl)) rfl
theorem q1348 : Cond.methodLink RX11 243 yX11_isFast ∈ TB := tb_of (tb_m6 (List.mem_of_getElem? (i := 148) rfl)) rfl
theorem q1350 : Cond.instanceMethod yX11_isFast ∈ TB := tb_of (tb_m6 (List.mem_of_getElem? (i := 150) rfl)) rfl
theorem q1351 : Cond.code yX11_isFast prog_13_method_33_code 2 (Option.some FieldType.boolean) ∈ TB := tb_of (tb_m6 (List.mem_of_getElem? (i := 151) rfl)) rfl
theorem q1352 : Cond.constantLong RX11 228 (5) ∈ TB := tb_of (tb_m6 (List.mem_of_getElem? (i := 152) rfl)) rfl
theorem q1353 : Cond.methodLink RX11 246 yX11_pull ∈ TB := tb_of (tb_m6 (List.mem_of_getElem? (i := 153) rfl)) rfl
theorem q1355 : Cond.instanceMethod yX11_pull ∈ TB := tb_of (tb_m6 (List.mem_of_getElem? (i := 155) rfl)) rfl
theorem q1356 : Cond.code yX11_pull prog_13_method_34_code 4 (Option.some FieldType.long) ∈ TB := tb_of (tb_m6 (List.mem_of_getElem? (i := 156) rfl)) rfl
theorem q1357 : Cond.methodLink RX11 230 yX11_distance ∈ TB := tb_of (tb_m6 (List.mem_of_getElem? (i := 157) rfl)) rfl
theorem q1359 : Cond.instanceMethod yX11_distance ∈ TB := tb_of (tb_m6 (List.mem_of_getElem? (i := 159) rfl)) rfl
theorem q1360 : Cond.code yX11_distance prog_13_method_32_code 7 (Option.some FieldType.long) ∈ TB := tb_of (tb_m6 (List.mem_of_getElem? (i := 160) rfl)) rfl
theorem q1361 : Cond.methodLink RX11 224 yX11_root ∈ TB := tb_of (tb_m6 (List.mem_of_getElem? (i := 161) rfl)) rfl
theorem q1362 : Cond.static yX11_root ∈ TB := tb_of (tb_m6 (List.mem_of_getElem? (i := 162) rfl)) rfl
theorem q1363 : Cond.code yX11_root prog_13_method_31_code 8 (Option.some FieldType.long) ∈ TB := tb_of (tb_m6 (List.mem_of_getElem? (i := 163) rfl)) rfl
theorem q1364 : Cond.constantLong RX11 214 (3000000000) ∈ TB := tb_of (tb_m6 (List.mem_of_getElem? (i := 164) rfl)) rfl
theorem q1365 : Cond.constantLong RX11 216 (2) ∈ TB := tb_of (tb_m6 (List.mem_of_getElem? (i := 165) rfl)) rfl
theorem q1366 : Cond.constantLong RX11 234 (10) ∈ TB := tb_of (tb_m6 (List.mem_of_getElem? (i := 166) rfl)) rfl
theorem q1367 : Cond.methodLink RX11 264 yX11_push ∈ TB := tb_of (tb_m6 (List.mem_of_getElem? (i := 167) rfl)) rfl
theorem q1369 : Cond.instanceMethod yX11_push ∈ TB := tb_of (tb_m6 (List.mem_of_getElem? (i := 169) rfl)) rfl
theorem q1370 : Cond.code yX11_push prog_13_method_40_code 19 none ∈ TB := tb_of (tb_m6 (List.mem_of_getElem? (i := 170) rfl)) rfl
theorem q1371 : Cond.constantLong RX11 249 (50000) ∈ TB := tb_of (tb_m6 (List.mem_of_getElem? (i := 171) rfl)) rfl
theorem q1372 : Cond.methodLink RX11 251 yX11_held ∈ TB := tb_of (tb_m6 (List.mem_of_getElem? (i := 172) rfl)) rfl
theorem q1373 : Cond.static yX11_held ∈ TB := tb_of (tb_m6 (List.mem_of_getElem? (i := 173) rfl)) rfl
theorem q1374 : Cond.code yX11_held prog_13_method_38_code 4 (Option.some FieldType.long) ∈ TB := tb_of (tb_m6 (List.mem_of_getElem? (i := 174) rfl)) rfl
theorem q1375 : Cond.constantLong RX11 255 (20000) ∈ TB := tb_of (tb_m6 (List.mem_of_getElem? (i := 175) rfl)) rfl
theorem q1376 : Cond.constantLong RX11 267 (45000) ∈ TB := tb_of (tb_m6 (List.mem_of_getElem? (i := 176) rfl)) rfl
theorem q1377 : Cond.methodLink RX11 269 yX11_knock ∈ TB := tb_of (tb_m6 (List.mem_of_getElem? (i := 177) rfl)) rfl
theorem q1379 : Cond.instanceMethod yX11_knock ∈ TB := tb_of (tb_m6 (List.mem_of_getElem? (i := 179) rfl)) rfl
theorem q1380 : Cond.code yX11_knock prog_13_method_41_code 6 none ∈ TB := tb_of (tb_m6 (List.mem_of_getElem? (i := 180) rfl)) rfl
theorem q1381 : Cond.constantLong RX11 257 (573) ∈ TB := tb_of (tb_m6 (List.mem_of_getElem? (i := 181) rfl)) rfl
theorem q1382 : Cond.constantLong RX11 259 (3) ∈ TB := tb_of (tb_m6 (List.mem_of_getElem? (i := 182) rfl)) rfl
theorem q1383 : Cond.methodLink RX11 273 yX11_meet ∈ TB := tb_of (tb_m6 (List.mem_of_getElem? (i := 183) rfl)) rfl
theorem q1385 : Cond.instanceMethod yX11_meet ∈ TB := tb_of (tb_m6 (List.mem_of_getElem? (i := 185) rfl)) rfl
theorem q1386 : Cond.code yX11_meet prog_13_method_42_code 7 none ∈ TB := tb_of (tb_m6 (List.mem_of_getElem? (i := 186) rfl)) rfl
theorem q1387 : Cond.methodLink RL 63 yX11_follow ∈ TB := tb_of (tb_m6 (List.mem_of_getElem? (i := 187) rfl)) rfl
theorem q1388 : Cond.instanceMethod yX11_follow ∈ TB := tb_of (tb_m6 (List.mem_of_getElem? (i := 188) rfl)) rfl
theorem q1389 : Cond.selects RX11 yX11_follow yX11_follow ∈ TB := tb_of (tb_m6 (List.mem_of_getElem? (i := 189) rfl)) rfl
theorem q1390 : Cond.code yX11_follow prog_13_method_52_code 2 (Option.some FieldType.int) ∈ TB := tb_of (tb_m6 (List.mem_of_getElem? (i := 190) rfl)) rfl
theorem q1391 : Cond.methodLink RX11 318 yX11_byPlan ∈ TB := tb_of (tb_m6 (List.mem_of_getElem? (i := 191) rfl)) rfl
theorem q1393 : Cond.instanceMethod yX11_byPlan ∈ TB := tb_of (tb_m6 (List.mem_of_getElem? (i := 193) rfl)) rfl
theorem q1394 : Cond.code yX11_byPlan prog_13_method_51_code 4 (Option.some FieldType.int) ∈ TB := tb_of (tb_m6 (List.mem_of_getElem? (i := 194) rfl)) rfl
theorem q1395 : Cond.methodLink RX11 315 yX11_steer ∈ TB := tb_of (tb_m6 (List.mem_of_getElem? (i := 195) rfl)) rfl
theorem q1397 : Cond.instanceMethod yX11_steer ∈ TB := tb_of (tb_m6 (List.mem_of_getElem? (i := 197) rfl)) rfl
theorem q1398 : Cond.code yX11_steer prog_13_method_50_code 3 none ∈ TB := tb_of (tb_m6 (List.mem_of_getElem? (i := 198) rfl)) rfl
theorem q1399 : Cond.methodLink RL 68 yX11_fast ∈ TB := tb_of (tb_m6 (List.mem_of_getElem? (i := 199) rfl)) rfl
theorem q1400 : Cond.instanceMethod yX11_fast ∈ TB := tb_of (tb_m6 (List.mem_of_getElem? (i := 200) rfl)) rfl
theorem q1401 : Cond.selects RX11 yX11_fast yX11_fast ∈ TB := tb_of (tb_m6 (List.mem_of_getElem? (i := 201) rfl)) rfl
theorem q1402 : Cond.code yX11_fast prog_13_method_55_code 6 (Option.some FieldType.int) ∈ TB := tb_of (tb_m6 (List.mem_of_getElem? (i := 202) rfl)) rfl
theorem q1403 : Cond.methodLink RX11 323 yX11_isPlace ∈ TB := tb_of (tb_m6 (List.mem_of_getElem? (i := 203) rfl)) rfl
theorem q1404 : Cond.static yX11_isPlace ∈ TB := tb_of (tb_m6 (List.mem_of_getElem? (i := 204) rfl)) rfl
theorem q1405 : Cond.code yX11_isPlace prog_13_method_53_code 1 (Option.some FieldType.boolean) ∈ TB := tb_of (tb_m6 (List.mem_of_getElem? (i := 205) rfl)) rfl
theorem q1406 : Cond.constantLong RX11 321 (-100) ∈ TB := tb_of (tb_m6 (List.mem_of_getElem? (i := 206) rfl)) rfl
theorem q1407 : Cond.constant RX11 326 (-1000000003) ∈ TB := tb_of (tb_m6 (List.mem_of_getElem? (i := 207) rfl)) rfl
theorem q1408 : Cond.methodLink RX11 327 yX11_tie ∈ TB := tb_of (tb_m6 (List.mem_of_getElem? (i := 208) rfl)) rfl
theorem q1410 : Cond.instanceMethod yX11_tie ∈ TB := tb_of (tb_m6 (List.mem_of_getElem? (i := 210) rfl)) rfl
theorem q1411 : Cond.code yX11_tie prog_13_method_54_code 5 none ∈ TB := tb_of (tb_m6 (List.mem_of_getElem? (i := 211) rfl)) rfl
theorem q1412 : Cond.methodLink RL 73 yX11_heave ∈ TB := tb_of (tb_m6 (List.mem_of_getElem? (i := 212) rfl)) rfl
theorem q1413 : Cond.instanceMethod yX11_heave ∈ TB := tb_of (tb_m6 (List.mem_of_getElem? (i := 213) rfl)) rfl
theorem q1414 : Cond.selects RX11 yX11_heave yX11_heave ∈ TB := tb_of (tb_m6 (List.mem_of_getElem? (i := 214) rfl)) rfl
theorem q1415 : Cond.code yX11_heave prog_13_method_58_code 4 (Option.some FieldType.int) ∈ TB := tb_of (tb_m6 (List.mem_of_getElem? (i := 215) rfl)) rfl
theorem q1416 : Cond.methodLink RX11 343 yX11_draw ∈ TB := tb_of (tb_m6 (List.mem_of_getElem? (i := 216) rfl)) rfl
theorem q1418 : Cond.instanceMethod yX11_draw ∈ TB := tb_of (tb_m6 (List.mem_of_getElem? (i := 218) rfl)) rfl
theorem q1419 : Cond.code yX11_draw prog_13_method_56_code 2 (Option.some FieldType.int) ∈ TB := tb_of (tb_m6 (List.mem_of_getElem? (i := 219) rfl)) rfl
theorem q1420 : Cond.constantLong RX11 334 (1103515245) ∈ TB := tb_of (tb_m6 (List.mem_of_getElem? (i := 220) rfl)) rfl
theorem q1421 : Cond.constantLong RX11 336 (12345) ∈ TB := tb_of (tb_m6 (List.mem_of_getElem? (i := 221) rfl)) rfl
theorem q1422 : Cond.constantLong RX11 338 (2147483648) ∈ TB := tb_of (tb_m6 (List.mem_of_getElem? (i := 222) rfl)) rfl
theorem q1423 : Cond.constant RX11 340 (65536) ∈ TB := tb_of (tb_m6 (List.mem_of_getElem? (i := 223) rfl)) rfl
theorem q1424 : Cond.methodLink RX11 346 yX11_oddsOf ∈ TB := tb_of (tb_m6 (List.mem_of_getElem? (i := 224) rfl)) rfl
theorem q1426 : Cond.instanceMethod yX11_oddsOf ∈ TB := tb_of (tb_m6 (List.mem_of_getElem? (i := 226) rfl)) rfl
theorem q1427 : Cond.code yX11_oddsOf prog_13_method_57_code 4 (Option.some FieldType.int) ∈ TB := tb_of (tb_m6 (List.mem_of_getElem? (i := 227) rfl)) rfl
theorem q1428 : Cond.constantLong RX11 341 (50) ∈ TB := tb_of (tb_m6 (List.mem_of_getElem? (i := 228) rfl)) rfl
theorem q1429 : Cond.methodLink RL 77 yX11_odds ∈ TB := tb_of (tb_m6 (List.mem_of_getElem? (i := 229) rfl)) rfl
theorem q1430 : Cond.instanceMethod yX11_odds ∈ TB := tb_of (tb_m6 (List.mem_of_getElem? (i := 230) rfl)) rfl
theorem q1431 : Cond.selects RX11 yX11_odds yX11_odds ∈ TB := tb_of (tb_m6 (List.mem_of_getElem? (i := 231) rfl)) rfl
theorem q1432 : Cond.code yX11_odds prog_13_method_59_code 3 (Option.some FieldType.int) ∈ TB := tb_of (tb_m6 (List.mem_of_getElem? (i := 232) rfl)) rfl
theorem q1433 : Cond.methodLink RL 81 yX11_veer ∈ TB := tb_of (tb_m6 (List.mem_of_getElem? (i := 233) rfl)) rfl
theorem q1434 : Cond.instanceMethod yX11_veer ∈ TB := tb_of (tb_m6 (List.mem_of_getElem? (i := 234) rfl)) rfl
theorem q1435 : Cond.selects RX11 yX11_veer yX11_veer ∈ TB := tb_of (tb_m6 (List.mem_of_getElem? (i := 235) rfl)) rfl
theorem q1436 : Cond.code yX11_veer prog_13_method_60_code 4 (Option.some FieldType.int) ∈ TB := tb_of (tb_m6 (List.mem_of_getElem? (i := 236) rfl)) rfl
theorem q1437 : Cond.methodLink RL 85 yX11_cast ∈ TB := tb_of (tb_m6 (List.mem_of_getElem? (i := 237) rfl)) rfl
theorem q1438 : Cond.instanceMethod yX11_cast ∈ TB := tb_of (tb_m6 (List.mem_of_getElem? (i := 238) rfl)) rfl
theorem q1439 : Cond.selects RX11 yX11_cast yX11_cast ∈ TB := tb_of (tb_m6 (List.mem_of_getElem? (i := 239) rfl)) rfl
theorem q1440 : Cond.code yX11_cast prog_13_method_61_code 2 (Option.some FieldType.int) ∈ TB := tb_of (tb_m7 (List.mem_of_getElem? (i := 0) rfl)) rfl
theorem q1441 : Cond.methodLink RL 89 yX11_line ∈ TB := tb_of (tb_m7 (List.mem_of_getElem? (i := 1) rfl)) rfl
theorem q1442 : Cond.instanceMethod yX11_line ∈ TB := tb_of (tb_m7 (List.mem_of_getElem? (i := 2) rfl)) rfl
theorem q1443 : Cond.selects RX11 yX11_line yX11_line ∈ TB := tb_of (tb_m7 (List.mem_of_getElem? (i := 3) rfl)) rfl
theorem q1444 : Cond.code yX11_line prog_13_method_62_code 3 (Option.some FieldType.int) ∈ TB := tb_of (tb_m7 (List.mem_of_getElem? (i := 4) rfl)) rfl
theorem q1445 : Cond.methodLink RL 93 yX11_does ∈ TB := tb_of (tb_m7 (List.mem_of_getElem? (i := 5) rfl)) rfl
theorem q1446 : Cond.instanceMethod yX11_does ∈ TB := tb_of (tb_m7 (List.mem_of_getElem? (i := 6) rfl)) rfl
theorem q1447 : Cond.selects RX11 yX11_does yX11_does ∈ TB := tb_of (tb_m7 (List.mem_of_getElem? (i := 7) rfl)) rfl
theorem q1448 : Cond.code yX11_does prog_13_method_63_code 7 (Option.some FieldType.int) ∈ TB := tb_of (tb_m7 (List.mem_of_getElem? (i := 8) rfl)) rfl
theorem q1449 : Cond.methodLink RL 98 yX11_tried ∈ TB := tb_of (tb_m7 (List.mem_of_getElem? (i := 9) rfl)) rfl
theorem q1450 : Cond.instanceMethod yX11_tried ∈ TB := tb_of (tb_m7 (List.mem_of_getElem? (i := 10) rfl)) rfl
theorem q1451 : Cond.selects RX11 yX11_tried yX11_tried ∈ TB := tb_of (tb_m7 (List.mem_of_getElem? (i := 11) rfl)) rfl
theorem q1452 : Cond.code yX11_tried prog_13_method_67_code 6 (Option.some FieldType.long) ∈ TB := tb_of (tb_m7 (List.mem_of_getElem? (i := 12) rfl)) rfl
theorem q1453 : Cond.methodLink RX11 353 yX11_isTried ∈ TB := tb_of (tb_m7 (List.mem_of_getElem? (i := 13) rfl)) rfl
theorem q1454 : Cond.static yX11_isTried ∈ TB := tb_of (tb_m7 (List.mem_of_getElem? (i := 14) rfl)) rfl
theorem q1455 : Cond.code yX11_isTried prog_13_method_66_code 1 (Option.some FieldType.boolean) ∈ TB := tb_of (tb_m7 (List.mem_of_getElem? (i := 15) rfl)) rfl
theorem q1456 : Cond.constantLong RX11 349 (9) ∈ TB := tb_of (tb_m7 (List.mem_of_getElem? (i := 16) rfl)) rfl
theorem q1457 : Cond.constantLong RX11 351 (11) ∈ TB := tb_of (tb_m7 (List.mem_of_getElem? (i := 17) rfl)) rfl
theorem q1458 : Cond.methodLink RX11 356 yX11_save ∈ TB := tb_of (tb_m7 (List.mem_of_getElem? (i := 18) rfl)) rfl
theorem q1460 : Cond.instanceMethod yX11_save ∈ TB := tb_of (tb_m7 (List.mem_of_getElem? (i := 20) rfl)) rfl
theorem q1461 : Cond.code yX11_save prog_13_method_64_code 2 none ∈ TB := tb_of (tb_m7 (List.mem_of_getElem? (i := 21) rfl)) rfl
theorem q1462 : Cond.methodLink RX11 359 yX11_back ∈ TB := tb_of (tb_m7 (List.mem_of_getElem? (i := 22) rfl)) rfl
theorem q1464 : Cond.instanceMethod yX11_back ∈ TB := tb_of (tb_m7 (List.mem_of_getElem? (i := 24) rfl)) rfl
theorem q1465 : Cond.code yX11_back prog_13_method_65_code 2 none ∈ TB := tb_of (tb_m7 (List.mem_of_getElem? (i := 25) rfl)) rfl
theorem q1466 : Cond.methodLink RL 102 yX11_astern ∈ TB := tb_of (tb_m7 (List.mem_of_getElem? (i := 26) rfl)) rfl
theorem q1467 : Cond.instanceMethod yX11_astern ∈ TB := tb_of (tb_m7 (List.mem_of_getElem? (i := 27) rfl)) rfl
theorem q1468 : Cond.selects RX11 yX11_astern yX11_astern ∈ TB := tb_of (tb_m7 (List.mem_of_getElem? (i := 28) rfl)) rfl
theorem q1469 : Cond.code yX11_astern prog_13_method_70_code 3 (Option.some FieldType.int) ∈ TB := tb_of (tb_m7 (List.mem_of_getElem? (i := 29) rfl)) rfl
theorem q1470 : Cond.methodLink RX11 367 yX11_isAstern ∈ TB := tb_of (tb_m7 (List.mem_of_getElem? (i := 30) rfl)) rfl
theorem q1472 : Cond.instanceMethod yX11_isAstern ∈ TB := tb_of (tb_m7 (List.mem_of_getElem? (i := 32) rfl)) rfl
theorem q1473 : Cond.code yX11_isAstern prog_13_method_69_code 5 (Option.some FieldType.boolean) ∈ TB := tb_of (tb_m7 (List.mem_of_getElem? (i := 33) rfl)) rfl
theorem q1474 : Cond.constantLong RX11 362 (-2) ∈ TB := tb_of (tb_m7 (List.mem_of_getElem? (i := 34) rfl)) rfl
theorem q1475 : Cond.methodLink RX11 364 yX11_isUnharmed ∈ TB := tb_of (tb_m7 (List.mem_of_getElem? (i := 35) rfl)) rfl
theorem q1477 : Cond.instanceMethod yX11_isUnharmed ∈ TB := tb_of (tb_m7 (List.mem_of_getElem? (i := 37) rfl)) rfl
theorem q1478 : Cond.code yX11_isUnharmed prog_13_method_68_code 1 (Option.some FieldType.boolean) ∈ TB := tb_of (tb_m7 (List.mem_of_getElem? (i := 38) rfl)) rfl
theorem q1479 : Cond.methodLink RL 106 yX11_off ∈ TB := tb_of (tb_m7 (List.mem_of_getElem? (i := 39) rfl)) rfl
theorem q1480 : Cond.instanceMethod yX11_off ∈ TB := tb_of (tb_m7 (List.mem_of_getElem? (i := 40) rfl)) rfl
theorem q1481 : Cond.selects RX11 yX11_off yX11_off ∈ TB := tb_of (tb_m7 (List.mem_of_getElem? (i := 41) rfl)) rfl
theorem q1482 : Cond.code yX11_off prog_13_method_72_code 3 (Option.some FieldType.int) ∈ TB := tb_of (tb_m7 (List.mem_of_getElem? (i := 42) rfl)) rfl
theorem q1483 : Cond.methodLink RX11 370 yX11_isOff ∈ TB := tb_of (tb_m7 (List.mem_of_getElem? (i := 43) rfl)) rfl
theorem q1485 : Cond.instanceMethod yX11_isOff ∈ TB := tb_of (tb_m7 (List.mem_of_getElem? (i := 45) rfl)) rfl
theorem q1486 : Cond.code yX11_isOff prog_13_method_71_code 4 (Option.some FieldType.boolean) ∈ TB := tb_of (tb_m7 (List.mem_of_getElem? (i := 46) rfl)) rfl
theorem q1487 : Cond.methodLink RL 110 yX11_wind ∈ TB := tb_of (tb_m7 (List.mem_of_getElem? (i := 47) rfl)) rfl
theorem q1488 : Cond.instanceMethod yX11_wind ∈ TB := tb_of (tb_m7 (List.mem_of_getElem? (i := 48) rfl)) rfl
theorem q1489 : Cond.selects RX11 yX11_wind yX11_wind ∈ TB := tb_of (tb_m7 (List.mem_of_getElem? (i := 49) rfl)) rfl
theorem q1490 : Cond.code yX11_wind prog_13_method_75_code 5 (Option.some FieldType.int) ∈ TB := tb_of (tb_m7 (List.mem_of_getElem? (i := 50) rfl)) rfl
theorem q1491 : Cond.methodLink RX11 373 yX11_isSpan ∈ TB := tb_of (tb_m7 (List.mem_of_getElem? (i := 51) rfl)) rfl
theorem q1492 : Cond.static yX11_isSpan ∈ TB := tb_of (tb_m7 (List.mem_of_getElem? (i := 52) rfl)) rfl
theorem q1493 : Cond.code yX11_isSpan prog_13_method_74_code 1 (Option.some FieldType.boolean) ∈ TB := tb_of (tb_m7 (List.mem_of_getElem? (i := 53) rfl)) rfl
theorem q1494 : Cond.methodLink RX11 376 yX11_isIn ∈ TB := tb_of (tb_m7 (List.mem_of_getElem? (i := 54) rfl)) rfl
theorem q1496 : Cond.instanceMethod yX11_isIn ∈ TB := tb_of (tb_m7 (List.mem_of_getElem? (i := 56) rfl)) rfl
theorem q1497 : Cond.code yX11_isIn prog_13_method_73_code 4 (Option.some FieldType.boolean) ∈ TB := tb_of (tb_m7 (List.mem_of_getElem? (i := 57) rfl)) rfl
theorem q1498 : Cond.methodLink RL 114 yX11_gap ∈ TB := tb_of (tb_m7 (List.mem_of_getElem? (i := 58) rfl)) rfl
theorem q1499 : Cond.instanceMethod yX11_gap ∈ TB := tb_of (tb_m7 (List.mem_of_getElem? (i := 59) rfl)) rfl
theorem q1500 : Cond.selects RX11 yX11_gap yX11_gap ∈ TB := tb_of (tb_m7 (List.mem_of_getElem? (i := 60) rfl)) rfl
theorem q1501 : Cond.code yX11_gap prog_13_method_76_code 5 (Option.some FieldType.int) ∈ TB := tb_of (tb_m7 (List.mem_of_getElem? (i := 61) rfl)) rfl
theorem q1502 : Cond.methodLink RL 118 yX11_tug ∈ TB := tb_of (tb_m7 (List.mem_of_getElem? (i := 62) rfl)) rfl
theorem q1503 : Cond.instanceMethod yX11_tug ∈ TB := tb_of (tb_m7 (List.mem_of_getElem? (i := 63) rfl)) rfl
theorem q1504 : Cond.selects RX11 yX11_tug yX11_tug ∈ TB := tb_of (tb_m7 (List.mem_of_getElem? (i := 64) rfl)) rfl
theorem q1505 : Cond.code yX11_tug prog_13_method_77_code 4 (Option.some FieldType.int) ∈ TB := tb_of (tb_m7 (List.mem_of_getElem? (i := 65) rfl)) rfl
theorem q1506 : Cond.methodLink RL 122 yX11_needs ∈ TB := tb_of (tb_m7 (List.mem_of_getElem? (i := 66) rfl)) rfl
theorem q1507 : Cond.instanceMethod yX11_needs ∈ TB := tb_of (tb_m7 (List.mem_of_getElem? (i := 67) rfl)) rfl
theorem q1508 : Cond.selects RX11 yX11_needs yX11_needs ∈ TB := tb_of (tb_m7 (List.mem_of_getElem? (i := 68) rfl)) rfl
theorem q1509 : Cond.code yX11_needs prog_13_method_80_code 4 (Option.some FieldType.int) ∈ TB := tb_of (tb_m7 (List.mem_of_getElem? (i := 69) rfl)) rfl
theorem q1510 : Cond.methodLink RX11 381 yX11_isDeck ∈ TB := tb_of (tb_m7 (List.mem_of_getElem? (i := 70) rfl)) rfl
theorem q1511 : Cond.static yX11_isDeck ∈ TB := tb_of (tb_m7 (List.mem_of_getElem? (i := 71) rfl)) rfl
theorem q1512 : Cond.code yX11_isDeck prog_13_method_79_code 1 (Option.some FieldType.boolean) ∈ TB := tb_of (tb_m7 (List.mem_of_getElem? (i := 72) rfl)) rfl
theorem q1513 : Cond.constantLong RX11 379 (999) ∈ TB := tb_of (tb_m7 (List.mem_of_getElem? (i := 73) rfl)) rfl
theorem q1514 : Cond.methodLink RX11 384 yX11_needsOf ∈ TB := tb_of (tb_m7 (List.mem_of_getElem? (i := 74) rfl)) rfl
theorem q1516 : Cond.instanceMethod yX11_needsOf ∈ TB := tb_of (tb_m7 (List.mem_of_getElem? (i := 76) rfl)) rfl
theorem q1517 : Cond.code yX11_needsOf prog_13_method_78_code 8 (Option.some FieldType.long) ∈ TB := tb_of (tb_m7 (List.mem_of_getElem? (i := 77) rfl)) rfl
theorem q1518 : Cond.methodLink RL 126 yX11_tended ∈ TB := tb_of (tb_m7 (List.mem_of_getElem? (i := 78) rfl)) rfl
theorem q1519 : Cond.instanceMethod yX11_tended ∈ TB := tb_of (tb_m7 (List.mem_of_getElem? (i := 79) rfl)) rfl
theorem q1520 : Cond.selects RX11 yX11_tended yX11_tended ∈ TB := tb_of (tb_m7 (List.mem_of_getElem? (i := 80) rfl)) rfl
theorem q1521 : Cond.code yX11_tended prog_13_method_83_code 7 (Option.some FieldType.int) ∈ TB := tb_of (tb_m7 (List.mem_of_getElem? (i := 81) rfl)) rfl
theorem q1522 : Cond.methodLink RX11 388 yX11_toldAt ∈ TB := tb_of (tb_m7 (List.mem_of_getElem? (i := 82) rfl)) rfl
theorem q1524 : Cond.instanceMethod yX11_toldAt ∈ TB := tb_of (tb_m7 (List.mem_of_getElem? (i := 84) rfl)) rfl
theorem q1525 : Cond.code yX11_toldAt prog_13_method_81_code 16 (Option.some FieldType.int) ∈ TB := tb_of (tb_m7 (List.mem_of_getElem? (i := 85) rfl)) rfl
theorem q1526 : Cond.methodLink RX11 391 yX11_bits ∈ TB := tb_of (tb_m7 (List.mem_of_getElem? (i := 86) rfl)) rfl
theorem q1527 : Cond.static yX11_bits ∈ TB := tb_of (tb_m7 (List.mem_of_getElem? (i := 87) rfl)) rfl
theorem q1528 : Cond.code yX11_bits prog_13_method_82_code 3 (Option.some FieldType.int) ∈ TB := tb_of (tb_m7 (List.mem_of_getElem? (i := 88) rfl)) rfl
theorem q1529 : Cond.methodLink RL 130 yX11_wakes ∈ TB := tb_of (tb_m7 (List.mem_of_getElem? (i := 89) rfl)) rfl
theorem q1530 : Cond.instanceMethod yX11_wakes ∈ TB := tb_of (tb_m7 (List.mem_of_getElem? (i := 90) rfl)) rfl
theorem q1531 : Cond.selects RX11 yX11_wakes yX11_wakes ∈ TB := tb_of (tb_m7 (List.mem_of_getElem? (i := 91) rfl)) rfl
theorem q1532 : Cond.code yX11_wakes prog_13_method_84_code 4 (Option.some FieldType.int) ∈ TB := tb_of (tb_m7 (List.mem_of_getElem? (i := 92) rfl)) rfl
theorem q1533 : Cond.methodLink RL 134 yX11_order ∈ TB := tb_of (tb_m7 (List.mem_of_getElem? (i := 93) rfl)) rfl
theorem q1534 : Cond.instanceMethod yX11_order ∈ TB := tb_of (tb_m7 (List.mem_of_getElem? (i := 94) rfl)) rfl
theorem q1535 : Cond.selects RX11 yX11_order yX11_order ∈ TB := tb_of (tb_m7 (List.mem_of_getElem? (i := 95) rfl)) rfl
theorem q1536 : Cond.code yX11_order prog_13_method_88_code 9 (Option.some FieldType.int) ∈ TB := tb_of (tb_m7 (List.mem_of_getElem? (i := 96) rfl)) rfl
theorem q1537 : Cond.constantLong RX11 397 (-1) ∈ TB := tb_of (tb_m7 (List.mem_of_getElem? (i := 97) rfl)) rfl
theorem q1538 : Cond.methodLink RX11 399 yX11_strain ∈ TB := tb_of (tb_m7 (List.mem_of_getElem? (i := 98) rfl)) rfl
theorem q1540 : Cond.instanceMethod yX11_strain ∈ TB := tb_of (tb_m7 (List.mem_of_getElem? (i := 100) rfl)) rfl
theorem q1541 : Cond.code yX11_strain prog_13_method_86_code 9 (Option.some FieldType.long) ∈ TB := tb_of (tb_m7 (List.mem_of_getElem? (i := 101) rfl)) rfl
theorem q1542 : Cond.methodLink RX11 394 yX11_share ∈ TB := tb_of (tb_m7 (List.mem_of_getElem? (i := 102) rfl)) rfl
theorem q1544 : Cond.instanceMethod yX11_share ∈ TB := tb_of (tb_m7 (List.mem_of_getElem? (i := 104) rfl)) rfl
theorem q1545 : Cond.code yX11_share prog_13_method_85_code 2 (Option.some FieldType.long) ∈ TB := tb_of (tb_m7 (List.mem_of_getElem? (i := 105) rfl)) rfl
theorem q1546 : Cond.methodLink RX11 402 yX11_greater ∈ TB := tb_of (tb_m7 (List.mem_of_getElem? (i := 106) rfl)) rfl
theorem q1547 : Cond.static yX11_greater ∈ TB := tb_of (tb_m7 (List.mem_of_getElem? (i := 107) rfl)) rfl
theorem q1548 : Cond.code yX11_greater prog_13_method_87_code 4 (Option.some FieldType.long) ∈ TB := tb_of (tb_m7 (List.mem_of_getElem? (i := 108) rfl)) rfl
theorem q1549 : Cond.methodLink RL 138 yX11_log ∈ TB := tb_of (tb_m7 (List.mem_of_getElem? (i := 109) rfl)) rfl
theorem q1550 : Cond.instanceMethod yX11_log ∈ TB := tb_of (tb_m7 (List.mem_of_getElem? (i := 110) rfl)) rfl
theorem q1551 : Cond.selects RX11 yX11_log yX11_log ∈ TB := tb_of (tb_m7 (List.mem_of_getElem? (i := 111) rfl)) rfl
theorem q1552 : Cond.code yX11_log prog_13_method_89_code 2 (Option.some FieldType.int) ∈ TB := tb_of (tb_m7 (List.mem_of_getElem? (i := 112) rfl)) rfl
theorem q1553 : Cond.constantLong RX11 405 (-99999) ∈ TB := tb_of (tb_m7 (List.mem_of_getElem? (i := 113) rfl)) rfl
theorem q1554 : Cond.constantLong RX11 407 (99999) ∈ TB := tb_of (tb_m7 (List.mem_of_getElem? (i := 114) rfl)) rfl
theorem q1555 : Cond.methodLink RL 142 yX11_clear ∈ TB := tb_of (tb_m7 (List.mem_of_getElem? (i := 115) rfl)) rfl
theorem q1556 : Cond.instanceMethod yX11_clear ∈ TB := tb_of (tb_m7 (List.mem_of_getElem? (i := 116) rfl)) rfl
theorem q1557 : Cond.selects RX11 yX11_clear yX11_clear ∈ TB := tb_of (tb_m7 (List.mem_of_getElem? (i := 117) rfl)) rfl
theorem q1558 : Cond.code yX11_clear prog_13_method_90_code 2 (Option.some FieldType.int) ∈ TB := tb_of (tb_m7 (List.mem_of_getElem? (i := 118) rfl)) rfl
theorem q1559 : Cond.methodLink RL 146 yX11_judge ∈ TB := tb_of (tb_m7 (List.mem_of_getElem? (i := 119) rfl)) rfl
theorem q1560 : Cond.instanceMethod yX11_judge ∈ TB := tb_of (tb_m7 (List.mem_of_getElem? (i := 120) rfl)) rfl
theorem q1561 : Cond.selects RX11 yX11_judge yX11_judge ∈ TB := tb_of (tb_m7 (List.mem_of_getElem? (i := 121) rfl)) rfl
theorem q1562 : Cond.code yX11_judge prog_13_method_91_code 5 (Option.some FieldType.int) ∈ TB := tb_of (tb_m7 (List.mem_of_getElem? (i := 122) rfl)) rfl
theorem q1563 : Cond.methodLink RL 150 yX11_seed ∈ TB := tb_of (tb_m7 (List.mem_of_getElem? (i := 123) rfl)) rfl
theorem q1564 : Cond.instanceMethod yX11_seed ∈ TB := tb_of (tb_m7 (List.mem_of_getElem? (i := 124) rfl)) rfl
theorem q1565 : Cond.selects RX11 yX11_seed yX11_seed ∈ TB := tb_of (tb_m7 (List.mem_of_getElem? (i := 125) rfl)) rfl
theorem q1566 : Cond.code yX11_seed prog_13_method_92_code 3 (Option.some FieldType.int) ∈ TB := tb_of (tb_m7 (List.mem_of_getElem? (i := 126) rfl)) rfl
theorem q1567 : Cond.methodLink RL 154 yX11_keep ∈ TB := tb_of (tb_m7 (List.mem_of_getElem? (i := 127) rfl)) rfl
theorem q1568 : Cond.instanceMethod yX11_keep ∈ TB := tb_of (tb_m7 (List.mem_of_getElem? (i := 128) rfl)) rfl
theorem q1569 : Cond.selects RX11 yX11_keep yX11_keep ∈ TB := tb_of (tb_m7 (List.mem_of_getElem? (i := 129) rfl)) rfl
theorem q1570 : Cond.code yX11_keep prog_13_method_93_code 3 (Option.some FieldType.int) ∈ TB := tb_of (tb_m7 (List.mem_of_getElem? (i := 130) rfl)) rfl
theorem q1571 : Cond.methodLink RL 158 yX11_goBack ∈ TB := tb_of (tb_m7 (List.mem_of_getElem? (i := 131) rfl)) rfl
theorem q1572 : Cond.instanceMethod yX11_goBack ∈ TB := tb_of (tb_m7 (List.mem_of_getElem? (i := 132) rfl)) rfl
theorem q1573 : Cond.selects RX11 yX11_goBack yX11_goBack ∈ TB := tb_of (tb_m7 (List.mem_of_getElem? (i := 133) rfl)) rfl
theorem q1574 : Cond.code yX11_goBack prog_13_method_94_code 3 (Option.some FieldType.int) ∈ TB := tb_of (tb_m7 (List.mem_of_getElem? (i := 134) rfl)) rfl
theorem q1575 : Cond.constantLong RL 13 (4294967295) ∈ TB := tb_of (tb_m7 (List.mem_of_getElem? (i := 135) rfl)) rfl
theorem q1576 : Cond.fieldLink RJ0 9 "java/lang/String" "value" "[B" ∈ TB := tb_of (tb_m7 (List.mem_of_getElem? (i := 136) rfl)) rfl
theorem q1577 : Cond.fieldLink RJ0 15 "java/lang/String" "coder" "B" ∈ TB := tb_of (tb_m7 (List.mem_of_getElem? (i := 137) rfl)) rfl
theorem qs0 : Cond.selects RX10 yX10_readText yX10_readText ∈ TB := tb_of (tb_s (List.mem_map.mpr ⟨(yX10_readText, 15), lw_in1 (List.mem_of_getElem? (i := 0) rfl), rfl⟩)) rfl
theorem qs1 : Cond.selects RX5 yX5_readClause yX5_readClause ∈ TB := tb_of (tb_s (List.mem_map.mpr ⟨(yX5_readClause, 8), lw_in1 (List.mem_of_getElem? (i := 1) rfl), rfl⟩)) rfl
theorem qs2 : Cond.selects RX5 yX5_fail yX5_fail ∈ TB := tb_of (tb_s (List.mem_map.mpr ⟨(yX5_fail, 8), lw_in1 (List.mem_of_getElem? (i := 2) rfl), rfl⟩)) rfl
theorem qs3 : Cond.selects RX5 yX5_readNumber yX5_readNumber ∈ TB := tb_of (tb_s (List.mem_map.mpr ⟨(yX5_readNumber, 8), lw_in1 (List.mem_of_getElem? (i := 3) rfl), rfl⟩)) rfl
theorem qs4 : Cond.selects RX5 yX5_isOutOfBounds yX5_isOutOfBounds ∈ TB := tb_of (tb_s (List.mem_map.mpr ⟨(yX5_isOutOfBounds, 8), lw_in1 (List.mem_of_getElem? (i := 4) rfl), rfl⟩)) rfl
theorem qs5 : Cond.selects RX5 yX5_isTakenAlready yX5_isTakenAlready ∈ TB := tb_of (tb_s (List.mem_map.mpr ⟨(yX5_isTakenAlready, 8), lw_in1 (List.mem_of_getElem? (i := 5) rfl), rfl⟩)) rfl
theorem qs6 : Cond.selects RX5 yX5_readEnd yX5_readEnd ∈ TB := tb_of (tb_s (List.mem_map.mpr ⟨(yX5_readEnd, 8), lw_in1 (List.mem_of_getElem? (i := 6) rfl), rfl⟩)) rfl
theorem qs7 : Cond.selects RX5 yX5_store yX5_store ∈ TB := tb_of (tb_s (List.mem_map.mpr ⟨(yX5_store, 8), lw_in1 (List.mem_of_getElem? (i := 7) rfl), rfl⟩)) rfl
theorem qs8 : Cond.selects RX10 yX10_forgetImages yX10_forgetImages ∈ TB := tb_of (tb_s (List.mem_map.mpr ⟨(yX10_forgetImages, 15), lw_in1 (List.mem_of_getElem? (i := 8) rfl), rfl⟩)) rfl
theorem qs9 : Cond.selects RX10 yX10_readingOf yX10_readingOf ∈ TB := tb_of (tb_s (List.mem_map.mpr ⟨(yX10_readingOf, 15), lw_in1 (List.mem_of_getElem? (i := 9) rfl), rfl⟩)) rfl
theorem qs10 : Cond.selects RX7 yX7_unheldOff yX7_unheldOff ∈ TB := tb_of (tb_s (List.mem_map.mpr ⟨(yX7_unheldOff, 18), lw_in1 (List.mem_of_getElem? (i := 10) rfl), rfl⟩)) rfl
theorem qs11 : Cond.selects RX7 yX7_liesWell yX7_liesWell ∈ TB := tb_of (tb_s (List.mem_map.mpr ⟨(yX7_liesWell, 18), lw_in1 (List.mem_of_getElem? (i := 11) rfl), rfl⟩)) rfl
theorem qs12 : Cond.selects RX7 yX7_gainByEngineAndWeather yX7_gainByEngineAndWeather ∈ TB := tb_of (tb_s (List.mem_map.mpr ⟨(yX7_gainByEngineAndWeather, 18), lw_in1 (List.mem_of_getElem? (i := 12) rfl), rfl⟩)) rfl
theorem qs13 : Cond.selects RX7 yX7_gainByLine yX7_gainByLine ∈ TB := tb_of (tb_s (List.mem_map.mpr ⟨(yX7_gainByLine, 18), lw_in1 (List.mem_of_getElem? (i := 13) rfl), rfl⟩)) rfl
theorem qs14 : Cond.selects RX7 yX7_move yX7_move ∈ TB := tb_of (tb_s (List.mem_map.mpr ⟨(yX7_move, 18), lw_in1 (List.mem_of_getElem? (i := 14) rfl), rfl⟩)) rfl
theorem qs15 : Cond.selects RX7 yX7_knock yX7_knock ∈ TB := tb_of (tb_s (List.mem_map.mpr ⟨(yX7_knock, 18), lw_in1 (List.mem_of_getElem? (i := 15) rfl), rfl⟩)) rfl
theorem qs16 : Cond.selects RX7 yX7_addHarm yX7_addHarm ∈ TB := tb_of (tb_s (List.mem_map.mpr ⟨(yX7_addHarm, 18), lw_in2 (List.mem_of_getElem? (i := 0) rfl), rfl⟩)) rfl
theorem qs17 : Cond.selects RX7 yX7_stopAtGap yX7_stopAtGap ∈ TB := tb_of (tb_s (List.mem_map.mpr ⟨(yX7_stopAtGap, 18), lw_in2 (List.mem_of_getElem? (i := 1) rfl), rfl⟩)) rfl
theorem qs18 : Cond.selects RX7 yX7_drawOfHundred yX7_drawOfHundred ∈ TB := tb_of (tb_s (List.mem_map.mpr ⟨(yX7_drawOfHundred, 18), lw_in2 (List.mem_of_getElem? (i := 2) rfl), rfl⟩)) rfl
theorem qs19 : Cond.selects RX6 yX6_stopsSafely yX6_stopsSafely ∈ TB := tb_of (tb_s (List.mem_map.mpr ⟨(yX6_stopsSafely, 3), lw_in2 (List.mem_of_getElem? (i := 3) rfl), rfl⟩)) rfl
theorem qs20 : Cond.selects RX6 yX6_getsOff yX6_getsOff ∈ TB := tb_of (tb_s (List.mem_map.mpr ⟨(yX6_getsOff, 3), lw_in2 (List.mem_of_getElem? (i := 4) rfl), rfl⟩)) rfl
theorem qs21 : Cond.selects RX6 yX6_isSafeByPlan yX6_isSafeByPlan ∈ TB := tb_of (tb_s (List.mem_map.mpr ⟨(yX6_isSafeByPlan, 3), lw_in2 (List.mem_of_getElem? (i := 5) rfl), rfl⟩)) rfl
theorem qs22 : Cond.selects RX0 yX0_strainOf yX0_strainOf ∈ TB := tb_of (tb_s (List.mem_map.mpr ⟨(yX0_strainOf, 4), lw_in2 (List.mem_of_getElem? (i := 6) rfl), rfl⟩)) rfl
theorem qs23 : Cond.selects RX0 yX0_bestAfterOne yX0_bestAfterOne ∈ TB := tb_of (tb_s (List.mem_map.mpr ⟨(yX0_bestAfterOne, 4), lw_in2 (List.mem_of_getElem? (i := 7) rfl), rfl⟩)) rfl
theorem qs24 : Cond.selects RX0 yX0_firstToGo yX0_firstToGo ∈ TB := tb_of (tb_s (List.mem_map.mpr ⟨(yX0_firstToGo, 4), lw_in2 (List.mem_of_getElem? (i := 8) rfl), rfl⟩)) rfl
theorem qs25 : Cond.selects RX11 yX11_begin yX11_begin ∈ TB := tb_of (tb_s (List.mem_map.mpr ⟨(yX11_begin, 34), lw_in2 (List.mem_of_getElem? (i := 9) rfl), rfl⟩)) rfl
theorem qs26 : Cond.selects RX11 yX11_here yX11_here ∈ TB := tb_of (tb_s (List.mem_map.mpr ⟨(yX11_here, 34), lw_in2 (List.mem_of_getElem? (i := 10) rfl), rfl⟩)) rfl
theorem qs27 : Cond.selects RX11 yX11_takeClause yX11_takeClause ∈ TB := tb_of (tb_s (List.mem_map.mpr ⟨(yX11_takeClause, 34), lw_in2 (List.mem_of_getElem? (i := 11) rfl), rfl⟩)) rfl
theorem qs28 : Cond.selects RX11 yX11_readWord yX11_readWord ∈ TB := tb_of (tb_s (List.mem_map.mpr ⟨(yX11_readWord, 34), lw_in2 (List.mem_of_getElem? (i := 12) rfl), rfl⟩)) rfl
theorem qs29 : Cond.selects RX11 yX11_clauseOf yX11_clauseOf ∈ TB := tb_of (tb_s (List.mem_map.mpr ⟨(yX11_clauseOf, 34), lw_in2 (List.mem_of_getElem? (i := 13) rfl), rfl⟩)) rfl
theorem qs30 : Cond.selects RX11 yX11_fails yX11_fails ∈ TB := tb_of (tb_s (List.mem_map.mpr ⟨(yX11_fails, 34), lw_in2 (List.mem_of_getElem? (i := 14) rfl), rfl⟩)) rfl
theorem qs31 : Cond.selects RX11 yX11_take yX11_take ∈ TB := tb_of (tb_s (List.mem_map.mpr ⟨(yX11_take, 34), lw_in2 (List.mem_of_getElem? (i := 15) rfl), rfl⟩)) rfl
theorem qs32 : Cond.selects RX11 yX11_takeNumber yX11_takeNumber ∈ TB := tb_of (tb_s (List.mem_map.mpr ⟨(yX11_takeNumber, 34), lw_in3 (List.mem_of_getElem? (i := 0) rfl), rfl⟩)) rfl
theorem qs33 : Cond.selects RX11 yX11_takePost yX11_takePost ∈ TB := tb_of (tb_s (List.mem_map.mpr ⟨(yX11_takePost, 34), lw_in3 (List.mem_of_getElem? (i := 1) rfl), rfl⟩)) rfl
theorem qs34 : Cond.selects RX11 yX11_takeStop yX11_takeStop ∈ TB := tb_of (tb_s (List.mem_map.mpr ⟨(yX11_takeStop, 34), lw_in3 (List.mem_of_getElem? (i := 2) rfl), rfl⟩)) rfl
theorem qs35 : Cond.selects RX11 yX11_takeAt yX11_takeAt ∈ TB := tb_of (tb_s (List.mem_map.mpr ⟨(yX11_takeAt, 34), lw_in3 (List.mem_of_getElem? (i := 3) rfl), rfl⟩)) rfl
theorem qs36 : Cond.selects RX11 yX11_takeHour yX11_takeHour ∈ TB := tb_of (tb_s (List.mem_map.mpr ⟨(yX11_takeHour, 34), lw_in3 (List.mem_of_getElem? (i := 4) rfl), rfl⟩)) rfl
theorem qs37 : Cond.selects RX11 yX11_isPost yX11_isPost ∈ TB := tb_of (tb_s (List.mem_map.mpr ⟨(yX11_isPost, 34), lw_in3 (List.mem_of_getElem? (i := 5) rfl), rfl⟩)) rfl
theorem qs38 : Cond.selects RX11 yX11_nowOf yX11_nowOf ∈ TB := tb_of (tb_s (List.mem_map.mpr ⟨(yX11_nowOf, 34), lw_in3 (List.mem_of_getElem? (i := 6) rfl), rfl⟩)) rfl
theorem qs39 : Cond.selects RX11 yX11_offOf yX11_offOf ∈ TB := tb_of (tb_s (List.mem_map.mpr ⟨(yX11_offOf, 34), lw_in3 (List.mem_of_getElem? (i := 7) rfl), rfl⟩)) rfl
theorem qs40 : Cond.selects RX11 yX11_freely yX11_freely ∈ TB := tb_of (tb_s (List.mem_map.mpr ⟨(yX11_freely, 34), lw_in3 (List.mem_of_getElem? (i := 8) rfl), rfl⟩)) rfl
theorem qs41 : Cond.selects RX11 yX11_arm yX11_arm ∈ TB := tb_of (tb_s (List.mem_map.mpr ⟨(yX11_arm, 34), lw_in3 (List.mem_of_getElem? (i := 9) rfl), rfl⟩)) rfl
theorem qs42 : Cond.selects RX11 yX11_isSafe yX11_isSafe ∈ TB := tb_of (tb_s (List.mem_map.mpr ⟨(yX11_isSafe, 34), lw_in3 (List.mem_of_getElem? (i := 10) rfl), rfl⟩)) rfl
theorem qs43 : Cond.selects RX11 yX11_along yX11_along ∈ TB := tb_of (tb_s (List.mem_map.mpr ⟨(yX11_along, 34), lw_in3 (List.mem_of_getElem? (i := 11) rfl), rfl⟩)) rfl
theorem qs44 : Cond.selects RX11 yX11_fastMany yX11_fastMany ∈ TB := tb_of (tb_s (List.mem_map.mpr ⟨(yX11_fastMany, 34), lw_in3 (List.mem_of_getElem? (i := 12) rfl), rfl⟩)) rfl
theorem qs45 : Cond.selects RX11 yX11_second yX11_second ∈ TB := tb_of (tb_s (List.mem_map.mpr ⟨(yX11_second, 34), lw_in3 (List.mem_of_getElem? (i := 13) rfl), rfl⟩)) rfl
theorem qs46 : Cond.selects RX11 yX11_partLines yX11_partLines ∈ TB := tb_of (tb_s (List.mem_map.mpr ⟨(yX11_partLines, 34), lw_in3 (List.mem_of_getElem? (i := 14) rfl), rfl⟩)) rfl
theorem qs47 : Cond.selects RX11 yX11_isFast yX11_isFast ∈ TB := tb_of (tb_s (List.mem_map.mpr ⟨(yX11_isFast, 34), lw_in3 (List.mem_of_getElem? (i := 15) rfl), rfl⟩)) rfl
theorem qs48 : Cond.selects RX11 yX11_pull yX11_pull ∈ TB := tb_of (tb_s (List.mem_map.mpr ⟨(yX11_pull, 34), lw_in4 (List.mem_of_getElem? (i := 0) rfl), rfl⟩)) rfl
theorem qs49 : Cond.selects RX11 yX11_distance yX11_distance ∈ TB := tb_of (tb_s (List.mem_map.mpr ⟨(yX11_distance, 34), lw_in4 (List.mem_of_getElem? (i := 1) rfl), rfl⟩)) rfl
theorem qs50 : Cond.selects RX11 yX11_push yX11_push ∈ TB := tb_of (tb_s (List.mem_map.mpr ⟨(yX11_push, 34), lw_in4 (List.mem_of_getElem? (i := 2) rfl), rfl⟩)) rfl
theorem qs51 : Cond.selects RX11 yX11_knock yX11_knock ∈ TB := tb_of (tb_s (List.mem_map.mpr ⟨(yX11_knock, 34), lw_in4 (List.mem_of_getElem? (i := 3) rfl), rfl⟩)) rfl
theorem qs52 : Cond.selects RX11 yX11_meet yX11_meet ∈ TB := tb_of (tb_s (List.mem_map.mpr ⟨(yX11_meet, 34), lw_in4 (List.mem_of_getElem? (i := 4) rfl), rfl⟩)) rfl
theorem qs53 : Cond.selects RX11 yX11_byPlan yX11_byPlan ∈ TB := tb_of (tb_s (List.mem_map.mpr ⟨(yX11_byPlan, 34), lw_in4 (List.mem_of_getElem? (i := 5) rfl), rfl⟩)) rfl
theorem qs54 : Cond.selects RX11 yX11_steer yX11_steer ∈ TB := tb_of (tb_s (List.mem_map.mpr ⟨(yX11_steer, 34), lw_in4 (List.mem_of_getElem? (i := 6) rfl), rfl⟩)) rfl
theorem qs55 : Cond.selects RX11 yX11_tie yX11_tie ∈ TB := tb_of (tb_s (List.mem_map.mpr ⟨(yX11_tie, 34), lw_in4 (List.mem_of_getElem? (i := 7) rfl), rfl⟩)) rfl
theorem qs56 : Cond.selects RX11 yX11_draw yX11_draw ∈ TB := tb_of (tb_s (List.mem_map.mpr ⟨(yX11_draw, 34), lw_in4 (List.mem_of_getElem? (i := 8) rfl), rfl⟩)) rfl
theorem qs57 : Cond.selects RX11 yX11_oddsOf yX11_oddsOf ∈ TB := tb_of (tb_s (List.mem_map.mpr ⟨(yX11_oddsOf, 34), lw_in4 (List.mem_of_getElem? (i := 9) rfl), rfl⟩)) rfl
theorem qs58 : Cond.selects RX11 yX11_save yX11_save ∈ TB := tb_of (tb_s (List.mem_map.mpr ⟨(yX11_save, 34), lw_in4 (List.mem_of_getElem? (i := 10) rfl), rfl⟩)) rfl
theorem qs59 : Cond.selects RX11 yX11_back yX11_back ∈ TB := tb_of (tb_s (List.mem_map.mpr ⟨(yX11_back, 34), lw_in4 (List.mem_of_getElem? (i := 11) rfl), rfl⟩)) rfl
theorem qs60 : Cond.selects RX11 yX11_isAstern yX11_isAstern ∈ TB := tb_of (tb_s (List.mem_map.mpr ⟨(yX11_isAstern, 34), lw_in4 (List.mem_of_getElem? (i := 12) rfl), rfl⟩)) rfl
theorem qs61 : Cond.selects RX11 yX11_isUnharmed yX11_isUnharmed ∈ TB := tb_of (tb_s (List.mem_map.mpr ⟨(yX11_isUnharmed, 34), lw_in4 (List.mem_of_getElem? (i := 13) rfl), rfl⟩)) rfl
theorem qs62 : Cond.selects RX11 yX11_isOff yX11_isOff ∈ TB := tb_of (tb_s (List.mem_map.mpr ⟨(yX11_isOff, 34), lw_in4 (List.mem_of_getElem? (i := 14) rfl), rfl⟩)) rfl
theorem qs63 : Cond.selects RX11 yX11_isIn yX11_isIn ∈ TB := tb_of (tb_s (List.mem_map.mpr ⟨(yX11_isIn, 34), lw_in4 (List.mem_of_getElem? (i := 15) rfl), rfl⟩)) rfl
theorem qs64 : Cond.selects RX11 yX11_needsOf yX11_needsOf ∈ TB := tb_of (tb_s (List.mem_map.mpr ⟨(yX11_needsOf, 34), lw_in5 (List.mem_of_getElem? (i := 0) rfl), rfl⟩)) rfl
theorem qs65 : Cond.selects RX11 yX11_toldAt yX11_toldAt ∈ TB := tb_of (tb_s (List.mem_map.mpr ⟨(yX11_toldAt, 34), lw_in5 (List.mem_of_getElem? (i := 1) rfl), rfl⟩)) rfl
theorem qs66 : Cond.selects RX11 yX11_strain yX11_strain ∈ TB := tb_of (tb_s (List.mem_map.mpr ⟨(yX11_strain, 34), lw_in5 (List.mem_of_getElem? (i := 2) rfl), rfl⟩)) rfl
theorem qs67 : Cond.selects RX11 yX11_share yX11_share ∈ TB := tb_of (tb_s (List.mem_map.mpr ⟨(yX11_share, 34), lw_in5 (List.mem_of_getElem? (i := 3) rfl), rfl⟩)) rfl
def NB : List Cond := [Cond.methodLinkNest RX10 9 yX8_init "AlongsideLines", Cond.methodLinkNest RX10 18 yX5_init "AlongsideLines", Cond.methodLinkNest RX5 11 yX4_init "AlongsideLines", Cond.methodLinkNest RX5 20 yX3_init "AlongsideLines", Cond.methodLinkNest RX5 27 yX9_init "AlongsideLines", Cond.methodLinkNest RX10 25 yX4_init "AlongsideLines", Cond.methodLinkNest RX10 32 yX3_init "AlongsideLines", Cond.methodLinkNest RX10 39 yX9_init "AlongsideLines", Cond.methodLinkNest RX10 46 yX7_init "AlongsideLines", Cond.methodLinkNest RX7 9 yX1_init "AlongsideLines", Cond.methodLinkNest RX10 68 yX6_init "AlongsideLines", Cond.methodLinkNest RX6 11 yX7_init "AlongsideLines", Cond.methodLinkNest RX6 23 yX4_init "AlongsideLines", Cond.methodLinkNest RX10 75 yX2_init "AlongsideLines", Cond.methodLinkNest RX10 82 yX0_init "AlongsideLines", Cond.methodLinkNest RX7 111 yX10_rootOfSquares "AlongsideLines", Cond.methodLinkNest RX7 225 yX10_held "AlongsideLines", Cond.methodLinkNest RX2 15 yX10_rootOfSquares "AlongsideLines"]
theorem qn29 : Cond.methodLinkNest RX10 9 yX8_init "AlongsideLines" ∈ NB := List.mem_of_getElem? (i := 0) rfl
theorem qm29 : Cond.methodLinkNest RX10 9 yX8_init "AlongsideLines" ∈ lw_tbl := tb_m1 (List.mem_of_getElem? (i := 29) rfl)
theorem qn45 : Cond.methodLinkNest RX10 18 yX5_init "AlongsideLines" ∈ NB := List.mem_of_getElem? (i := 1) rfl
theorem qm45 : Cond.methodLinkNest RX10 18 yX5_init "AlongsideLines" ∈ lw_tbl := tb_m1 (List.mem_of_getElem? (i := 45) rfl)
theorem qn51 : Cond.methodLinkNest RX5 11 yX4_init "AlongsideLines" ∈ NB := List.mem_of_getElem? (i := 2) rfl
theorem qm51 : Cond.methodLinkNest RX5 11 yX4_init "AlongsideLines" ∈ lw_tbl := tb_m1 (List.mem_of_getElem? (i := 51) rfl)
theorem qn124 : Cond.methodLinkNest RX5 20 yX3_init "AlongsideLines" ∈ NB := List.mem_of_getElem? (i := 3) rfl
theorem qm124 : Cond.methodLinkNest RX5 20 yX3_init "AlongsideLines" ∈ lw_tbl := tb_m1 (List.mem_of_getElem? (i := 124) rfl)
theorem qn145 : Cond.methodLinkNest RX5 27 yX9_init "AlongsideLines" ∈ NB := List.mem_of_getElem? (i := 4) rfl
theorem qm145 : Cond.methodLinkNest RX5 27 yX9_init "AlongsideLines" ∈ lw_tbl := tb_m1 (List.mem_of_getElem? (i := 145) rfl)
theorem qn190 : Cond.methodLinkNest RX10 25 yX4_init "AlongsideLines" ∈ NB := List.mem_of_getElem? (i := 5) rfl
theorem qm190 : Cond.methodLinkNest RX10 25 yX4_init "AlongsideLines" ∈ lw_tbl := tb_m1 (List.mem_of_getElem? (i := 190) rfl)
theorem qn192 : Cond.methodLinkNest RX10 32 yX3_init "AlongsideLines" ∈ NB := List.mem_of_getElem? (i := 6) rfl
theorem qm192 : Cond.methodLinkNest RX10 32 yX3_init "AlongsideLines" ∈ lw_tbl := tb_m1 (List.mem_of_getElem? (i := 192) rfl)
theorem qn194 : Cond.methodLinkNest RX10 39 yX9_init "AlongsideLines" ∈ NB := List.mem_of_getElem? (i := 7) rfl
theorem qm194 : Cond.methodLinkNest RX10 39 yX9_init "AlongsideLines" ∈ lw_tbl := tb_m1 (List.mem_of_getElem? (i := 194) rfl)
theorem qn197 : Cond.methodLinkNest RX10 46 yX7_init "AlongsideLines" ∈ NB := List.mem_of_getElem? (i := 8) rfl
theorem qm197 : Cond.methodLinkNest RX10 46 yX7_init "AlongsideLines" ∈ lw_tbl := tb_m1 (List.mem_of_getElem? (i := 197) rfl)
theorem qn203 : Cond.methodLinkNest RX7 9 yX1_init "AlongsideLines" ∈ NB := List.mem_of_getElem? (i := 9) rfl
theorem qm203 : Cond.methodLinkNest RX7 9 yX1_init "AlongsideLines" ∈ lw_tbl := tb_m1 (List.mem_of_getElem? (i := 203) rfl)
theorem qn301 : Cond.methodLinkNest RX10 68 yX6_init "AlongsideLines" ∈ NB := List.mem_of_getElem? (i := 10) rfl
theorem qm301 : Cond.methodLinkNest RX10 68 yX6_init "AlongsideLines" ∈ lw_tbl := tb_m2 (List.mem_of_getElem? (i := 61) rfl)
theorem qn306 : Cond.methodLinkNest RX6 11 yX7_init "AlongsideLines" ∈ NB := List.mem_of_getElem? (i := 11) rfl
theorem qm306 : Cond.methodLinkNest RX6 11 yX7_init "AlongsideLines" ∈ lw_tbl := tb_m2 (List.mem_of_getElem? (i := 66) rfl)
theorem qn308 : Cond.methodLinkNest RX6 23 yX4_init "AlongsideLines" ∈ NB := List.mem_of_getElem? (i := 12) rfl
theorem qm308 : Cond.methodLinkNest RX6 23 yX4_init "AlongsideLines" ∈ lw_tbl := tb_m2 (List.mem_of_getElem? (i := 68) rfl)
theorem qn321 : Cond.methodLinkNest RX10 75 yX2_init "AlongsideLines" ∈ NB := List.mem_of_getElem? (i := 13) rfl
theorem qm321 : Cond.methodLinkNest RX10 75 yX2_init "AlongsideLines" ∈ lw_tbl := tb_m2 (List.mem_of_getElem? (i := 81) rfl)
theorem qn335 : Cond.methodLinkNest RX10 82 yX0_init "AlongsideLines" ∈ NB := List.mem_of_getElem? (i := 14) rfl
theorem qm335 : Cond.methodLinkNest RX10 82 yX0_init "AlongsideLines" ∈ lw_tbl := tb_m2 (List.mem_of_getElem? (i := 95) rfl)
theorem qn733 : Cond.methodLinkNest RX7 111 yX10_rootOfSquares "AlongsideLines" ∈ NB := List.mem_of_getElem? (i := 15) rfl
theorem qm733 : Cond.methodLinkNest RX7 111 yX10_rootOfSquares "AlongsideLines" ∈ lw_tbl := tb_m4 (List.mem_of_getElem? (i := 13) rfl)
theorem qn750 : Cond.methodLinkNest RX7 225 yX10_held "AlongsideLines" ∈ NB := List.mem_of_getElem? (i := 16) rfl
theorem qm750 : Cond.methodLinkNest RX7 225 yX10_held "AlongsideLines" ∈ lw_tbl := tb_m4 (List.mem_of_getElem? (i := 30) rfl)
theorem qn967 : Cond.methodLinkNest RX2 15 yX10_rootOfSquares "AlongsideLines" ∈ NB := List.mem_of_getElem? (i := 17) rfl
theorem qm967 : Cond.methodLinkNest RX2 15 yX10_rootOfSquares "AlongsideLines" ∈ lw_tbl := tb_m5 (List.mem_of_getElem? (i := 7) rfl)
theorem NB_sub : ∀ w ∈ NB, w ∈ lw_tbl := List.forall_mem_cons.mpr ⟨qm29, List.forall_mem_cons.mpr ⟨qm45, List.forall_mem_cons.mpr ⟨qm51, List.forall_mem_cons.mpr ⟨qm124, List.forall_mem_cons.mpr ⟨qm145, List.forall_mem_cons.mpr ⟨qm190, List.forall_mem_cons.mpr ⟨qm192, List.forall_mem_cons.mpr ⟨qm194, List.forall_mem_cons.mpr ⟨qm197, List.forall_mem_cons.mpr ⟨qm203, List.forall_mem_cons.mpr ⟨qm301, List.forall_mem_cons.mpr ⟨qm306, List.forall_mem_cons.mpr ⟨qm308, List.forall_mem_cons.mpr ⟨qm321, List.forall_mem_cons.mpr ⟨qm335, List.forall_mem_cons.mpr ⟨qm733, List.forall_mem_cons.mpr ⟨qm750, List.forall_mem_cons.mpr ⟨qm967, fun _ h => absurd h List.not_mem_nil⟩⟩⟩⟩⟩⟩⟩⟩⟩⟩⟩⟩⟩⟩⟩⟩⟩⟩
theorem NB_nest : ∀ w ∈ NB, ∃ a i x h, w = Cond.methodLinkNest a i x h := List.forall_mem_cons.mpr ⟨⟨_, _, _, _, rfl⟩, List.forall_mem_cons.mpr ⟨⟨_, _, _, _, rfl⟩, List.forall_mem_cons.mpr ⟨⟨_, _, _, _, rfl⟩, List.forall_mem_cons.mpr ⟨⟨_, _, _, _, rfl⟩, List.forall_mem_cons.mpr ⟨⟨_, _, _, _, rfl⟩, List.forall_mem_cons.mpr ⟨⟨_, _, _, _, rfl⟩, List.forall_mem_cons.mpr ⟨⟨_, _, _, _, rfl⟩, List.forall_mem_cons.mpr ⟨⟨_, _, _, _, rfl⟩, List.forall_mem_cons.mpr ⟨⟨_, _, _, _, rfl⟩, List.forall_mem_cons.mpr ⟨⟨_, _, _, _, rfl⟩, List.forall_mem_cons.mpr ⟨⟨_, _, _, _, rfl⟩, List.forall_mem_cons.mpr ⟨⟨_, _, _, _, rfl⟩, List.forall_mem_cons.mpr ⟨⟨_, _, _, _, rfl⟩, List.forall_mem_cons.mpr ⟨⟨_, _, _, _, rfl⟩, List.forall_mem_cons.mpr ⟨⟨_, _, _, _, rfl⟩, List.forall_mem_cons.mpr ⟨⟨_, _, _, _, rfl⟩, List.forall_mem_cons.mpr ⟨⟨_, _, _, _, rfl⟩, List.forall_mem_cons.mpr ⟨⟨_, _, _, _, rfl⟩, fun _ h => absurd h List.not_mem_nil⟩⟩⟩⟩⟩⟩⟩⟩⟩⟩⟩⟩⟩⟩⟩⟩⟩⟩
