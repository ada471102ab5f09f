theorem eX7_pull_0 : zd 1 cX7_pull 0 1 (.iconst 0) := ⟨by decide +kernel, rfl⟩
theorem eX7_pull_1 : zd 1 cX7_pull 1 2 (.iload_n 1) := ⟨by decide +kernel, rfl⟩
theorem eX7_pull_2 : zd 1 cX7_pull 2 3 (.iload_n 2) := ⟨by decide +kernel, rfl⟩
theorem eX7_pull_3 : zd 1 cX7_pull 3 4 (.isub) := ⟨by decide +kernel, rfl⟩
theorem eX7_pull_4 : zd 1 cX7_pull 4 5 (.aload_n 0) := ⟨by decide +kernel, rfl⟩
theorem eX7_pull_5 : zd 3 cX7_pull 5 8 (.getfield 116) := ⟨by decide +kernel, rfl⟩
theorem eX7_pull_8 : zd 1 cX7_pull 8 9 (.imul) := ⟨by decide +kernel, rfl⟩
theorem eX7_pull_9 : zd 2 cX7_pull 9 11 (.bipush 10) := ⟨by decide +kernel, rfl⟩
theorem eX7_pull_11 : zd 1 cX7_pull 11 12 (.idiv) := ⟨by decide +kernel, rfl⟩
theorem eX7_pull_12 : zd 3 cX7_pull 12 15 (.invokestatic 90) := ⟨by decide +kernel, rfl⟩
theorem eX7_pull_15 : zd 1 cX7_pull 15 16 (.ireturn) := ⟨by decide +kernel, rfl⟩
theorem FX7_116 : zlF RX7 116 4 11 := ⟨(RX4, TX4, 16), rfl, by decide, q82, zin4⟩
noncomputable def f_Sh_pull (v0 : tQu) (p1 : Int32) (p2 : Int32) : Int32 := (zmax 0 (((p1 - p2) * ((gQu_ints v0) 11)) / 10))
abbrev rm_Sh_pull : Room := { frames := 1, cells := 0, slots := 0, locals := 21 }
set_option maxHeartbeats 4000000 in
set_option maxRecDepth 100000 in
theorem c_Sh_pull (l : Launch) (g : zGl) (a0 : Nat → Nat) (o0 : Nat) (v0 : tQu) (p1 : Int32) (p2 : Int32) (out : Int32) (hf : f_Sh_pull v0 p1 p2 = out) : zMi l yX7_pull cX7_pull 3 rm_Sh_pull g [.ref (a0 o0), .int p1, .int p2] (W_Qu g a0 o0 (gQu_ints v0) (gQu_places v0) (gQu_strengths v0)) out (W_Qu g a0 o0 (gQu_ints v0) (gQu_places v0) (gQu_strengths v0)) := by
  refine zMi_of (lv := [(0, .ref (a0 o0)), (1, .int p1), (2, .int p2)]) (by decide) (Nat.le_of_ble_eq_true rfl) rfl (fun x hl hg C hret => ?_)
  subst hl; subst hg
  rw [f_Sh_pull] at hf
  refine r_iconst C (v := 0) eX7_pull_0 (by decide) ?_
  refine r_iload_n C eX7_pull_1 1 rfl rfl ?_
  refine r_iload_n C eX7_pull_2 2 rfl rfl ?_
  refine r_isub C eX7_pull_3 ?_
  refine r_aload_n C eX7_pull_4 0 rfl rfl ?_
  refine r_get (v := .int ((gQu_ints v0) 11)) C eX7_pull_5 FX7_116 0 rfl rfl ?_
  refine r_imul C eX7_pull_8 ?_
  refine r_bipush C (v := 10) eX7_pull_9 (by decide) ?_
  refine r_idiv C eX7_pull_11 (by decide) ?_
  refine r_mmax C eX7_pull_12 MX7_90 rfl ?_
  subst hf
  exact hret _ _ _ eX7_pull_15
theorem eX7_gainByLine_0 : zd 1 cX7_gainByLine 0 1 (.aload_n 1) := ⟨by decide +kernel, rfl⟩
theorem eX7_gainByLine_1 : zd 1 cX7_gainByLine 1 2 (.aload_n 0) := ⟨by decide +kernel, rfl⟩
theorem eX7_gainByLine_2 : zd 3 cX7_gainByLine 2 5 (.getfield 10) := ⟨by decide +kernel, rfl⟩
theorem eX7_gainByLine_5 : zd 3 cX7_gainByLine 5 8 (.getfield 123) := ⟨by decide +kernel, rfl⟩
theorem eX7_gainByLine_8 : zd 1 cX7_gainByLine 8 9 (.iload_n 2) := ⟨by decide +kernel, rfl⟩
theorem eX7_gainByLine_9 : zd 1 cX7_gainByLine 9 10 (.iaload) := ⟨by decide +kernel, rfl⟩
theorem eX7_gainByLine_10 : zd 3 cX7_gainByLine 10 13 (.invokevirtual 101) := ⟨by decide +kernel, rfl⟩
theorem eX7_gainByLine_13 : zd 1 cX7_gainByLine 13 14 (.istore_n 3) := ⟨by decide +kernel, rfl⟩
theorem eX7_gainByLine_14 : zd 1 cX7_gainByLine 14 15 (.aload_n 1) := ⟨by decide +kernel, rfl⟩
theorem eX7_gainByLine_15 : zd 1 cX7_gainByLine 15 16 (.aload_n 0) := ⟨by decide +kernel, rfl⟩
theorem eX7_gainByLine_16 : zd 3 cX7_gainByLine 16 19 (.getfield 10) := ⟨by decide +kernel, rfl⟩
theorem eX7_gainByLine_19 : zd 3 cX7_gainByLine 19 22 (.getfield 126) := ⟨by decide +kernel, rfl⟩
theorem eX7_gainByLine_22 : zd 1 cX7_gainByLine 22 23 (.iload_n 2) := ⟨by decide +kernel, rfl⟩
theorem eX7_gainByLine_23 : zd 1 cX7_gainByLine 23 24 (.iaload) := ⟨by decide +kernel, rfl⟩
theorem eX7_gainByLine_24 : zd 3 cX7_gainByLine 24 27 (.invokevirtual 96) := ⟨by decide +kernel, rfl⟩
theorem eX7_gainByLine_27 : zd 1 cX7_gainByLine 27 28 (.aload_n 0) := ⟨by decide +kernel, rfl⟩
theorem eX7_gainByLine_28 : zd 3 cX7_gainByLine 28 31 (.getfield 27) := ⟨by decide +kernel, rfl⟩
theorem eX7_gainByLine_31 : zd 1 cX7_gainByLine 31 32 (.iload_n 3) := ⟨by decide +kernel, rfl⟩
theorem eX7_gainByLine_32 : zd 1 cX7_gainByLine 32 33 (.iadd) := ⟨by decide +kernel, rfl⟩
theorem eX7_gainByLine_33 : zd 1 cX7_gainByLine 33 34 (.isub) := ⟨by decide +kernel, rfl⟩
theorem eX7_gainByLine_34 : zd 2 cX7_gainByLine 34 36 (.istore 4) := ⟨by decide +kernel, rfl⟩
theorem eX7_gainByLine_36 : zd 1 cX7_gainByLine 36 37 (.aload_n 0) := ⟨by decide +kernel, rfl⟩
theorem eX7_gainByLine_37 : zd 1 cX7_gainByLine 37 38 (.iload_n 3) := ⟨by decide +kernel, rfl⟩
theorem eX7_gainByLine_38 : zd 3 cX7_gainByLine 38 41 (.invokevirtual 108) := ⟨by decide +kernel, rfl⟩
theorem eX7_gainByLine_41 : zd 2 cX7_gainByLine 41 43 (.istore 5) := ⟨by decide +kernel, rfl⟩
theorem eX7_gainByLine_43 : zd 2 cX7_gainByLine 43 45 (.iload 4) := ⟨by decide +kernel, rfl⟩
theorem eX7_gainByLine_45 : zd 2 cX7_gainByLine 45 47 (.iload 5) := ⟨by decide +kernel, rfl⟩
theorem eX7_gainByLine_47 : zd 3 cX7_gainByLine 47 50 (.invokestatic 111) := ⟨by decide +kernel, rfl⟩
theorem eX7_gainByLine_50 : zd 2 cX7_gainByLine 50 52 (.istore 6) := ⟨by decide +kernel, rfl⟩
theorem eX7_gainByLine_52 : zd 1 cX7_gainByLine 52 53 (.aload_n 1) := ⟨by decide +kernel, rfl⟩
theorem eX7_gainByLine_53 : zd 2 cX7_gainByLine 53 55 (.iload 6) := ⟨by decide +kernel, rfl⟩
theorem eX7_gainByLine_55 : zd 1 cX7_gainByLine 55 56 (.aload_n 0) := ⟨by decide +kernel, rfl⟩
theorem eX7_gainByLine_56 : zd 3 cX7_gainByLine 56 59 (.getfield 10) := ⟨by decide +kernel, rfl⟩
theorem eX7_gainByLine_59 : zd 3 cX7_gainByLine 59 62 (.getfield 214) := ⟨by decide +kernel, rfl⟩
theorem eX7_gainByLine_62 : zd 1 cX7_gainByLine 62 63 (.iload_n 2) := ⟨by decide +kernel, rfl⟩
theorem eX7_gainByLine_63 : zd 1 cX7_gainByLine 63 64 (.iaload) := ⟨by decide +kernel, rfl⟩
theorem eX7_gainByLine_64 : zd 3 cX7_gainByLine 64 67 (.invokestatic 217) := ⟨by decide +kernel, rfl⟩
theorem eX7_gainByLine_67 : zd 2 cX7_gainByLine 67 69 (.istore 7) := ⟨by decide +kernel, rfl⟩
theorem eX7_gainByLine_69 : zd 2 cX7_gainByLine 69 71 (.iload 7) := ⟨by decide +kernel, rfl⟩
theorem eX7_gainByLine_71 : zd 1 cX7_gainByLine 71 72 (.aload_n 1) := ⟨by decide +kernel, rfl⟩
theorem eX7_gainByLine_72 : zd 1 cX7_gainByLine 72 73 (.aload_n 0) := ⟨by decide +kernel, rfl⟩
theorem eX7_gainByLine_73 : zd 3 cX7_gainByLine 73 76 (.getfield 10) := ⟨by decide +kernel, rfl⟩
theorem eX7_gainByLine_76 : zd 3 cX7_gainByLine 76 79 (.getfield 126) := ⟨by decide +kernel, rfl⟩
theorem eX7_gainByLine_79 : zd 1 cX7_gainByLine 79 80 (.iload_n 2) := ⟨by decide +kernel, rfl⟩
theorem eX7_gainByLine_80 : zd 1 cX7_gainByLine 80 81 (.iaload) := ⟨by decide +kernel, rfl⟩
theorem eX7_gainByLine_81 : zd 3 cX7_gainByLine 81 84 (.invokevirtual 220) := ⟨by decide +kernel, rfl⟩
theorem eX7_gainByLine_84 : zdi cX7_gainByLine 84 87 89 (.if_icmp .le) := ⟨5, by decide +kernel, rfl, by decide⟩
theorem eX7_gainByLine_87 : zd 1 cX7_gainByLine 87 88 (.iconst 0) := ⟨by decide +kernel, rfl⟩
theorem eX7_gainByLine_88 : zd 1 cX7_gainByLine 88 89 (.ireturn) := ⟨by decide +kernel, rfl⟩
theorem eX7_gainByLine_89 : zd 1 cX7_gainByLine 89 90 (.iconst 1) := ⟨by decide +kernel, rfl⟩
theorem eX7_gainByLine_90 : zd 1 cX7_gainByLine 90 91 (.aload_n 1) := ⟨by decide +kernel, rfl⟩
theorem eX7_gainByLine_91 : zd 3 cX7_gainByLine 91 94 (.getfield 181) := ⟨by decide +kernel, rfl⟩
theorem eX7_gainByLine_94 : zd 3 cX7_gainByLine 94 97 (.invokestatic 90) := ⟨by decide +kernel, rfl⟩
theorem eX7_gainByLine_97 : zd 2 cX7_gainByLine 97 99 (.istore 8) := ⟨by decide +kernel, rfl⟩
theorem eX7_gainByLine_99 : zd 1 cX7_gainByLine 99 100 (.iconst 1) := ⟨by decide +kernel, rfl⟩
theorem eX7_gainByLine_100 : zd 2 cX7_gainByLine 100 102 (.iload 6) := ⟨by decide +kernel, rfl⟩
theorem eX7_gainByLine_102 : zd 3 cX7_gainByLine 102 105 (.invokestatic 90) := ⟨by decide +kernel, rfl⟩
theorem eX7_gainByLine_105 : zd 2 cX7_gainByLine 105 107 (.istore 9) := ⟨by decide +kernel, rfl⟩
theorem eX7_gainByLine_107 : zd 2 cX7_gainByLine 107 109 (.iload 7) := ⟨by decide +kernel, rfl⟩
theorem eX7_gainByLine_109 : zd 2 cX7_gainByLine 109 111 (.iload 5) := ⟨by decide +kernel, rfl⟩
theorem eX7_gainByLine_111 : zd 1 cX7_gainByLine 111 112 (.imul) := ⟨by decide +kernel, rfl⟩
theorem eX7_gainByLine_112 : zd 2 cX7_gainByLine 112 114 (.iload 9) := ⟨by decide +kernel, rfl⟩
theorem eX7_gainByLine_114 : zd 1 cX7_gainByLine 114 115 (.idiv) := ⟨by decide +kernel, rfl⟩
theorem eX7_gainByLine_115 : zd 2 cX7_gainByLine 115 117 (.istore 10) := ⟨by decide +kernel, rfl⟩
theorem eX7_gainByLine_117 : zd 1 cX7_gainByLine 117 118 (.aload_n 0) := ⟨by decide +kernel, rfl⟩
theorem eX7_gainByLine_118 : zd 1 cX7_gainByLine 118 119 (.dup) := ⟨by decide +kernel, rfl⟩
theorem eX7_gainByLine_119 : zd 3 cX7_gainByLine 119 122 (.getfield 190) := ⟨by decide +kernel, rfl⟩
theorem eX7_gainByLine_122 : zd 2 cX7_gainByLine 122 124 (.iload 7) := ⟨by decide +kernel, rfl⟩
theorem eX7_gainByLine_124 : zd 2 cX7_gainByLine 124 126 (.iload 4) := ⟨by decide +kernel, rfl⟩
theorem eX7_gainByLine_126 : zd 1 cX7_gainByLine 126 127 (.imul) := ⟨by decide +kernel, rfl⟩
theorem eX7_gainByLine_127 : zd 2 cX7_gainByLine 127 129 (.iload 9) := ⟨by decide +kernel, rfl⟩
theorem eX7_gainByLine_129 : zd 1 cX7_gainByLine 129 130 (.idiv) := ⟨by decide +kernel, rfl⟩
theorem eX7_gainByLine_130 : zd 2 cX7_gainByLine 130 132 (.bipush 10) := ⟨by decide +kernel, rfl⟩
theorem eX7_gainByLine_132 : zd 1 cX7_gainByLine 132 133 (.imul) := ⟨by decide +kernel, rfl⟩
theorem eX7_gainByLine_133 : zd 2 cX7_gainByLine 133 135 (.iload 8) := ⟨by decide +kernel, rfl⟩
theorem eX7_gainByLine_135 : zd 1 cX7_gainByLine 135 136 (.idiv) := ⟨by decide +kernel, rfl⟩
theorem eX7_gainByLine_136 : zd 1 cX7_gainByLine 136 137 (.iadd) := ⟨by decide +kernel, rfl⟩
theorem eX7_gainByLine_137 : zd 3 cX7_gainByLine 137 140 (.putfield 190) := ⟨by decide +kernel, rfl⟩
theorem eX7_gainByLine_140 : zd 1 cX7_gainByLine 140 141 (.aload_n 0) := ⟨by decide +kernel, rfl⟩
theorem eX7_gainByLine_141 : zd 1 cX7_gainByLine 141 142 (.dup) := ⟨by decide +kernel, rfl⟩
theorem eX7_gainByLine_142 : zd 3 cX7_gainByLine 142 145 (.getfield 199) := ⟨by decide +kernel, rfl⟩
theorem eX7_gainByLine_145 : zd 2 cX7_gainByLine 145 147 (.iload 10) := ⟨by decide +kernel, rfl⟩
theorem eX7_gainByLine_147 : zd 2 cX7_gainByLine 147 149 (.bipush 10) := ⟨by decide +kernel, rfl⟩
theorem eX7_gainByLine_149 : zd 1 cX7_gainByLine 149 150 (.imul) := ⟨by decide +kernel, rfl⟩
theorem eX7_gainByLine_150 : zd 2 cX7_gainByLine 150 152 (.iload 8) := ⟨by decide +kernel, rfl⟩
theorem eX7_gainByLine_152 : zd 1 cX7_gainByLine 152 153 (.idiv) := ⟨by decide +kernel, rfl⟩
theorem eX7_gainByLine_153 : zd 1 cX7_gainByLine 153 154 (.iadd) := ⟨by decide +kernel, rfl⟩
theorem eX7_gainByLine_154 : zd 3 cX7_gainByLine 154 157 (.putfield 199) := ⟨by decide +kernel, rfl⟩
theorem eX7_gainByLine_157 : zd 1 cX7_gainByLine 157 158 (.aload_n 0) := ⟨by decide +kernel, rfl⟩
theorem eX7_gainByLine_158 : zd 1 cX7_gainByLine 158 159 (.dup) := ⟨by decide +kernel, rfl⟩
theorem eX7_gainByLine_159 : zd 3 cX7_gainByLine 159 162 (.getfield 208) := ⟨by decide +kernel, rfl⟩
theorem eX7_gainByLine_162 : zd 2 cX7_gainByLine 162 164 (.iload 10) := ⟨by decide +kernel, rfl⟩
theorem eX7_gainByLine_164 : zd 1 cX7_gainByLine 164 165 (.iload_n 3) := ⟨by decide +kernel, rfl⟩
theorem eX7_gainByLine_165 : zd 1 cX7_gainByLine 165 166 (.imul) := ⟨by decide +kernel, rfl⟩
theorem eX7_gainByLine_166 : zd 2 cX7_gainByLine 166 168 (.iload 8) := ⟨by decide +kernel, rfl⟩
theorem eX7_gainByLine_168 : zd 1 cX7_gainByLine 168 169 (.idiv) := ⟨by decide +kernel, rfl⟩
theorem eX7_gainByLine_169 : zd 2 cX7_gainByLine 169 171 (.bipush 10) := ⟨by decide +kernel, rfl⟩
theorem eX7_gainByLine_171 : zd 1 cX7_gainByLine 171 172 (.idiv) := ⟨by decide +kernel, rfl⟩
theorem eX7_gainByLine_172 : zd 1 cX7_gainByLine 172 173 (.iadd) := ⟨by decide +kernel, rfl⟩
theorem eX7_gainByLine_173 : zd 3 cX7_gainByLine 173 176 (.putfield 208) := ⟨by decide +kernel, rfl⟩
theorem eX7_gainByLine_176 : zd 1 cX7_gainByLine 176 177 (.iconst 1) := ⟨by decide +kernel, rfl⟩
theorem eX7_gainByLine_177 : zd 1 cX7_gainByLine 177 178 (.ireturn) := ⟨by decide +kernel, rfl⟩
theorem FX7_123 : zlF RX7 123 1 1 := ⟨(RX1, TX1, 4), rfl, by decide, q212, zin1⟩
theorem FX7_126 : zlF RX7 126 1 2 := ⟨(RX1, TX1, 4), rfl, by decide, q216, zin1⟩
theorem FX7_190 : zlF RX7 190 7 15 := ⟨(RX7, TX7, 18), rfl, by decide, q258, zin7⟩
theorem FX7_199 : zlF RX7 199 7 16 := ⟨(RX7, TX7, 18), rfl, by decide, q259, zin7⟩
theorem FX7_214 : zlF RX7 214 1 3 := ⟨(RX1, TX1, 4), rfl, by decide, q220, zin1⟩
theorem MX7_217 : zlS RX7 217 yX7_pull cX7_pull 3 ((Option.some FieldType.int)) 3 := ⟨q740, q741, q7, q742, by decide, by decide, by decide +kernel⟩
theorem MX7_220 : zlV RX7 220 yX4_postStrength cX4_postStrength 2 ((Option.some FieldType.int)) 1 := ⟨q743, q655, q656, q4, q657, by decide, by decide, by decide +kernel⟩
noncomputable def f_Sh_gainByLine (v0 : tSh) (v1 : tQu) (p1 : Int32) : Option (Int32 × (Nat → Int32)) := (if inb p1 6 = true then (zlet (f_Qu_arm v1 ((gLi_place (gSh_lines v0)) (ix p1))) (fun (z2 : Int32) => (if inb p1 6 = true then (Option.bind (f_Qu_postPlace v1 ((gLi_post (gSh_lines v0)) (ix p1))) (fun (r4 : Int32) => (zlet (r4 - (((gSh_ints v0) 0) + z2)) (fun (z5 : Int32) => (zlet (f_Sh_wayOff v0 z2) (fun (z6 : Int32) => (Option.bind (f_AL_rootOfSquares z5 z6) (fun (r7 : Int32) => (if inb p1 6 = true then (zlet (f_Sh_pull v1 r7 ((gLi_length (gSh_lines v0)) (ix p1))) (fun (z9 : Int32) => (if inb p1 6 = true then (Option.bind (f_Qu_postStrength v1 ((gLi_post (gSh_lines v0)) (ix p1))) (fun (r11 : Int32) => (if z9 ≤ r11 then (zlet (zmax 1 ((gQu_ints v1) 3)) (fun (z13 : Int32) => (zlet (zmax 1 r7) (fun (z14 : Int32) => (if z14 = 0 then none else (zlet ((z9 * z6) / z14) (fun (z16 : Int32) => (if z14 = 0 then none else (if z13 = 0 then none else (zlet (((gSh_ints v0) 15) + ((((z9 * z5) / z14) * 10) / z13)) (fun (z19 : Int32) => (if z13 = 0 then none else (zlet (((gSh_ints v0) 16) + ((z16 * 10) / z13)) (fun (z21 : Int32) => (if z13 = 0 then none else (zlet (((gSh_ints v0) 17) + (((z16 * z2) / z13) / 10)) (fun (z23 : Int32) => (some (1, (upd (upd (upd (gSh_ints v0) 15 z19) 16 z21) 17 z23)))))))))))))))))))) else (some (0, (gSh_ints v0)))))) else none))) else none))))))))) else none))) else none)
abbrev rm_Sh_gainByLine : Room := { frames := 2, cells := 0, slots := 0, locals := 49 }
set_option maxHeartbeats 4000000 in
set_option maxRecDepth 100000 in
theorem c_Sh_gainByLine (l : Launch) (g : zGl) (a0 : Nat → Nat) (o0 : Nat) (v0 : tSh) (a1 : Nat → Nat) (o1 : Nat) (v1 : tQu) (p1 : Int32) (out : Int32 × (Nat → Int32)) (hf : f_Sh_gainByLine v0 v1 p1 = some out) : zMz l yX7_gainByLine cX7_gainByLine 11 rm_Sh_gainByLine g [.ref (a0 o0), .ref (a1 o1), .int p1] (W_Sh g a0 o0 (gSh_ints v0) (gSh_harm v0) (gLi_fast (gSh_lines v0)) (gLi_place (gSh_lines v0)) (gLi_post (gSh_lines v0)) (gLi_length (gSh_lines v0)) ++ W_Qu g a1 o1 (gQu_ints v1) (gQu_places v1) (gQu_strengths v1)) (out.1) (W_Sh g a0 o0 (out.2) (gSh_harm v0) (gLi_fast (gSh_lines v0)) (gLi_place (gSh_lines v0)) (gLi_post (gSh_lines v0)) (gLi_length (gSh_lines v0)) ++ W_Qu g a1 o1 (gQu_ints v1) (gQu_places v1) (gQu_strengths v1)) := by
  refine zMz_of (lv := [(0, .ref (a0 o0)), (1, .ref (a1 o1)), (2, .int p1)]) (by decide) (Nat.le_of_ble_eq_true rfl) rfl (fun x hl hg C hret => ?_)
  subst hl; subst hg
  rw [f_Sh_gainByLine] at hf
  refine r_aload_n C eX7_gainByLine_0 1 rfl rfl ?_
  refine r_aload_n C eX7_gainByLine_1 0 rfl rfl ?_
  refine r_get (v := .ref (a0 (o0 + 1))) C eX7_gainByLine_2 FX7_10 0 rfl rfl ?_
  refine r_get (v := .ref (a0 ((o0 + 1) + 2))) C eX7_gainByLine_5 FX7_123 1 rfl rfl ?_
  refine r_iload_n C eX7_gainByLine_8 2 rfl rfl ?_
  obtain ⟨hb1, hf⟩ := zchk hf
  refine r_iald C eX7_gainByLine_9 3 rfl (inb_in hb1) ((gLi_place (gSh_lines v0)) (ix p1)) rfl ?_
  refine r_V_i (ws' := W_Sh (z_g x) a0 o0 (gSh_ints v0) (gSh_harm v0) (gLi_fast (gSh_lines v0)) (gLi_place (gSh_lines v0)) (gLi_post (gSh_lines v0)) (gLi_length (gSh_lines v0)) ++ W_Qu (z_g x) a1 o1 (gQu_ints v1) (gQu_places v1) (gQu_strengths v1)) C (c_Qu_arm (z_l x) (z_g x) a1 o1 v1 ((gLi_place (gSh_lines v0)) (ix p1)) _ rfl) eX7_gainByLine_10 MX7_101 ⟨0, 4, _, _, rfl, rfl, rfl⟩ [6, 7, 8] rfl rfl rfl rfl [0, 1, 2, 3, 4, 5] rfl ⟨rfl, rfl, rfl, rfl, rfl, rfl, trivial⟩ 9 rfl rfl rfl rfl rfl rfl ?_
  obtain ⟨z2, hz2, hf⟩ := zlet_of hf
  refine r_nami hz2 ?_
  refine r_istore_n C [(3, .int z2), (0, .ref (a0 o0)), (1, .ref (a1 o1)), (2, .int p1)] eX7_gainByLine_13 rfl (by decide) rfl ?_
  refine r_aload_n C eX7_gainByLine_14 2 rfl rfl ?_
  refine r_aload_n C eX7_gainByLine_15 1 rfl rfl ?_
  refine r_get (v := .ref (a0 (o0 + 1))) C eX7_gainByLine_16 FX7_10 0 rfl rfl ?_
  refine r_get (v := .ref (a0 ((o0 + 1) + 3))) C eX7_gainByLine_19 FX7_126 1 rfl rfl ?_
  refine r_iload_n C eX7_gainByLine_22 3 rfl rfl ?_
  obtain ⟨hb3, hf⟩ := zchk hf
  refine r_iald C eX7_gainByLine_23 4 rfl (inb_in hb3) ((gLi_post (gSh_lines v0)) (ix p1)) rfl ?_
  obtain ⟨r4, hr4, hf⟩ := zbind hf
  refine r_V_i (ws' := W_Sh (z_g x) a0 o0 (gSh_ints v0) (gSh_harm v0) (gLi_fast (gSh_lines v0)) (gLi_place (gSh_lines v0)) (gLi_post (gSh_lines v0)) (gLi_length (gSh_lines v0)) ++ W_Qu (z_g x) a1 o1 (gQu_ints v1) (gQu_places v1) (gQu_strengths v1)) C (c_Qu_postPlace (z_l x) (z_g x) a1 o1 v1 ((gLi_post (gSh_lines v0)) (ix p1)) r4 hr4) eX7_gainByLine_24 MX7_96 ⟨0, 4, _, _, rfl, rfl, rfl⟩ [6, 7, 8] rfl rfl rfl rfl [0, 1, 2, 3, 4, 5] rfl ⟨rfl, rfl, rfl, rfl, rfl, rfl, trivial⟩ 9 rfl rfl rfl rfl rfl rfl ?_
  refine r_aload_n C eX7_gainByLine_27 1 rfl rfl ?_
  refine r_get (v := .int ((gSh_ints v0) 0)) C eX7_gainByLine_28 FX7_27 0 rfl rfl ?_
  refine r_iload_n C eX7_gainByLine_31 0 rfl rfl ?_
  refine r_iadd C eX7_gainByLine_32 ?_
  refine r_isub C eX7_gainByLine_33 ?_
  obtain ⟨z5, hz5, hf⟩ := zlet_of hf
  refine r_nami hz5 ?_
  refine r_istore C [(4, .int z5), (3, .int z2), (0, .ref (a0 o0)), (1, .ref (a1 o1)), (2, .int p1)] eX7_gainByLine_34 (by decide) rfl ?_
  refine r_aload_n C eX7_gainByLine_36 2 rfl rfl ?_
  refine r_iload_n C eX7_gainByLine_37 1 rfl rfl ?_
  refine r_V_i (ws' := W_Sh (z_g x) a0 o0 (gSh_ints v0) (gSh_harm v0) (gLi_fast (gSh_lines v0)) (gLi_place (gSh_lines v0)) (gLi_post (gSh_lines v0)) (gLi_length (gSh_lines v0)) ++ W_Qu (z_g x) a1 o1 (gQu_ints v1) (gQu_places v1) (gQu_strengths v1)) C (c_Sh_wayOff (z_l x) (z_g x) a0 o0 v0 z2 _ rfl) eX7_gainByLine_38 MX7_108 ⟨0, 7, _, _, rfl, rfl, rfl⟩ [0, 1, 2, 3, 4, 5] rfl rfl rfl rfl [6, 7, 8] rfl ⟨rfl, rfl, rfl, trivial⟩ 9 rfl rfl rfl rfl rfl rfl ?_
  obtain ⟨z6, hz6, hf⟩ := zlet_of hf
  refine r_nami hz6 ?_
  refine r_istore C [(5, .int z6), (4, .int z5), (3, .int z2), (0, .ref (a0 o0)), (1, .ref (a1 o1)), (2, .int p1)] eX7_gainByLine_41 (by decide) rfl ?_
  refine r_iload C eX7_gainByLine_43 1 rfl ?_
  refine r_iload C eX7_gainByLine_45 0 rfl ?_
  obtain ⟨r7, hr7, hf⟩ := zbind hf
  refine r_N_i (ws' := W_Sh (z_g x) a0 o0 (gSh_ints v0) (gSh_harm v0) (gLi_fast (gSh_lines v0)) (gLi_place (gSh_lines v0)) (gLi_post (gSh_lines v0)) (gLi_length (gSh_lines v0)) ++ W_Qu (z_g x) a1 o1 (gQu_ints v1) (gQu_places v1) (gQu_strengths v1)) C (c_AL_rootOfSquares (z_l x) (z_g x)  z5 z6 r7 hr7) eX7_gainByLine_47 MX7_111 [] rfl rfl rfl rfl [0, 1, 2, 3, 4, 5, 6, 7, 8] rfl ⟨rfl, rfl, rfl, rfl, rfl, rfl, rfl, rfl, rfl, trivial⟩ 9 rfl rfl rfl rfl rfl rfl ?_
  refine r_istore C [(6, .int r7), (5, .int z6), (4, .int z5), (3, .int z2), (0, .ref (a0 o0)), (1, .ref (a1 o1)), (2, .int p1)] eX7_gainByLine_50 (by decide) rfl ?_
  refine r_aload_n C eX7_gainByLine_52 5 rfl rfl ?_
  refine r_iload C eX7_gainByLine_53 0 rfl ?_
  refine r_aload_n C eX7_gainByLine_55 4 rfl rfl ?_
  refine r_get (v := .ref (a0 (o0 + 1))) C eX7_gainByLine_56 FX7_10 0 rfl rfl ?_
  refine r_get (v := .ref (a0 ((o0 + 1) + 4))) C eX7_gainByLine_59 FX7_214 1 rfl rfl ?_
  refine r_iload_n C eX7_gainByLine_62 6 rfl rfl ?_
  obtain ⟨hb8, hf⟩ := zchk hf
  refine r_iald C eX7_gainByLine_63 5 rfl (inb_in hb8) ((gLi_length (gSh_lines v0)) (ix p1)) rfl ?_
  refine r_S_i (ws' := W_Sh (z_g x) a0 o0 (gSh_ints v0) (gSh_harm v0) (gLi_fast (gSh_lines v0)) (gLi_place (gSh_lines v0)) (gLi_post (gSh_lines v0)) (gLi_length (gSh_lines v0)) ++ W_Qu (z_g x) a1 o1 (gQu_ints v1) (gQu_places v1) (gQu_strengths v1)) C (c_Sh_pull (z_l x) (z_g x) a1 o1 v1 r7 ((gLi_length (gSh_lines v0)) (ix p1)) _ rfl) eX7_gainByLine_64 MX7_217 [6, 7, 8] rfl rfl rfl rfl [0, 1, 2, 3, 4, 5] rfl ⟨rfl, rfl, rfl, rfl, rfl, rfl, trivial⟩ 9 rfl rfl rfl rfl rfl rfl ?_
  obtain ⟨z9, hz9, hf⟩ := zlet_of hf
  refine r_nami hz9 ?_
  refine r_istore C [(7, .int z9), (6, .int r7), (5, .int z6), (4, .int z5), (3, .int z2), (0, .ref (a0 o0)), (1, .ref (a1 o1)), (2, .int p1)] eX7_gainByLine_67 (by decide) rfl ?_
  refine r_iload C eX7_gainByLine_69 0 rfl ?_
  refine r_aload_n C eX7_gainByLine_71 6 rfl rfl ?_
  refine r_aload_n C eX7_gainByLine_72 5 rfl rfl ?_
  refine r_get (v := .ref (a0 (o0 + 1))) C eX7_gainByLine_73 FX7_10 0 rfl rfl ?_
  refine r_get (v := .ref (a0 ((o0 + 1) + 3))) C eX7_gainByLine_76 FX7_126 1 rfl rfl ?_
  refine r_iload_n C eX7_gainByLine_79 7 rfl rfl ?_
  obtain ⟨hb10, hf⟩ := zchk hf
  refine r_iald C eX7_gainByLine_80 4 rfl (inb_in hb10) ((gLi_post (gSh_lines v0)) (ix p1)) rfl ?_
  obtain ⟨r11, hr11, hf⟩ := zbind hf
  refine r_V_i (ws' := W_Sh (z_g x) a0 o0 (gSh_ints v0) (gSh_harm v0) (gLi_fast (gSh_lines v0)) (gLi_place (gSh_lines v0)) (gLi_post (gSh_lines v0)) (gLi_length (gSh_lines v0)) ++ W_Qu (z_g x) a1 o1 (gQu_ints v1) (gQu_places v1) (gQu_strengths v1)) C (c_Qu_postStrength (z_l x) (z_g x) a1 o1 v1 ((gLi_post (gSh_lines v0)) (ix p1)) r11 hr11) eX7_gainByLine_81 MX7_220 ⟨0, 4, _, _, rfl, rfl, rfl⟩ [6, 7, 8] rfl rfl rfl rfl [0, 1, 2, 3, 4, 5] rfl ⟨rfl, rfl, rfl, rfl, rfl, rfl, trivial⟩ 9 rfl rfl rfl rfl rfl rfl ?_
  refine r_icmp_le C eX7_gainByLine_84 (fun c12 => ?_) (fun c12 => ?_)
  · rw [if_pos c12] at hf
    refine r_iconst C (v := 1) eX7_gainByLine_89 (by decide) ?_
    refine r_aload_n C eX7_gainByLine_90 6 rfl rfl ?_
    refine r_get (v := .int ((gQu_ints v1) 3)) C eX7_gainByLine_91 FX7_181 6 rfl rfl ?_
    refine r_mmax C eX7_gainByLine_94 MX7_90 rfl ?_
    obtain ⟨z13, hz13, hf⟩ := zlet_of hf
    refine r_nami hz13 ?_
    refine r_istore C [(8, .int z13), (7, .int z9), (6, .int r7), (5, .int z6), (4, .int z5), (3, .int z2), (0, .ref (a0 o0)), (1, .ref (a1 o1)), (2, .int p1)] eX7_gainByLine_97 (by decide) rfl ?_
    refine r_iconst C (v := 1) eX7_gainByLine_99 (by decide) ?_
    refine r_iload C eX7_gainByLine_100 2 rfl ?_
    refine r_mmax C eX7_gainByLine_102 MX7_90 rfl ?_
    obtain ⟨z14, hz14, hf⟩ := zlet_of hf
    refine r_nami hz14 ?_
    refine r_istore C [(9, .int z14), (8, .int z13), (7, .int z9), (6, .int r7), (5, .int z6), (4, .int z5), (3, .int z2), (0, .ref (a0 o0)), (1, .ref (a1 o1)), (2, .int p1)] eX7_gainByLine_105 (by decide) rfl ?_
    refine r_iload C eX7_gainByLine_107 2 rfl ?_
    refine r_iload C eX7_gainByLine_109 4 rfl ?_
    refine r_imul C eX7_gainByLine_111 ?_
    refine r_iload C eX7_gainByLine_112 0 rfl ?_
    obtain ⟨hz15, hf⟩ := zdv hf
    refine r_idiv C eX7_gainByLine_114 hz15 ?_
    obtain ⟨z16, hz16, hf⟩ := zlet_of hf
    refine r_nami hz16 ?_
    refine r_istore C [(10, .int z16), (9, .int z14), (8, .int z13), (7, .int z9), (6, .int r7), (5, .int z6), (4, .int z5), (3, .int z2), (0, .ref (a0 o0)), (1, .ref (a1 o1)), (2, .int p1)] eX7_gainByLine_115 (by decide) rfl ?_
    refine r_aload_n C eX7_gainByLine_117 8 rfl rfl ?_
    refine r_dup C eX7_gainByLine_118 rfl ?_
    refine r_get (v := .int ((gSh_ints v0) 15)) C eX7_gainByLine_119 FX7_190 0 rfl rfl ?_
    refine r_iload C eX7_gainByLine_122 3 rfl ?_
    refine r_iload C eX7_gainByLine_124 6 rfl ?_
    refine r_imul C eX7_gainByLine_126 ?_
    refine r_iload C eX7_gainByLine_127 1 rfl ?_
    obtain ⟨hz17, hf⟩ := zdv hf
    refine r_idiv C eX7_gainByLine_129 hz17 ?_
    refine r_bipush C (v := 10) eX7_gainByLine_130 (by decide) ?_
    refine r_imul C eX7_gainByLine_132 ?_
    refine r_iload C eX7_gainByLine_133 2 rfl ?_
    obtain ⟨hz18, hf⟩ := zdv hf
    refine r_idiv C eX7_gainByLine_135 hz18 ?_
    refine r_iadd C eX7_gainByLine_136 ?_
    obtain ⟨z19, hz19, hf⟩ := zlet_of hf
    refine r_nami hz19 ?_
    refine r_put (ws' := W_Sh (z_g x) a0 o0 (upd (gSh_ints v0) 15 z19) (gSh_harm v0) (gLi_fast (gSh_lines v0)) (gLi_place (gSh_lines v0)) (gLi_post (gSh_lines v0)) (gLi_length (gSh_lines v0)) ++ W_Qu (z_g x) a1 o1 (gQu_ints v1) (gQu_places v1) (gQu_strengths v1)) C eX7_gainByLine_137 PX7_190 0 rfl rfl rfl (Nat.le_of_ble_eq_true rfl) rfl ?_
    refine r_aload_n C eX7_gainByLine_140 8 rfl rfl ?_
    refine r_dup C eX7_gainByLine_141 rfl ?_
    refine r_get (v := .int ((gSh_ints v0) 16)) C eX7_gainByLine_142 FX7_199 0 rfl rfl ?_
    refine r_iload C eX7_gainByLine_145 0 rfl ?_
    refine r_bipush C (v := 10) eX7_gainByLine_147 (by decide) ?_
    refine r_imul C eX7_gainByLine_149 ?_
    refine r_iload C eX7_gainByLine_150 2 rfl ?_
    obtain ⟨hz20, hf⟩ := zdv hf
    refine r_idiv C eX7_gainByLine_152 hz20 ?_
    refine r_iadd C eX7_gainByLine_153 ?_
    obtain ⟨z21, hz21, hf⟩ := zlet_of hf
    refine r_nami hz21 ?_
    refine r_put (ws' := W_Sh (z_g x) a0 o0 (upd (upd (gSh_ints v0) 15 z19) 16 z21) (gSh_harm v0) (gLi_fast (gSh_lines v0)) (gLi_place (gSh_lines v0)) (gLi_post (gSh_lines v0)) (gLi_length (gSh_lines v0)) ++ W_Qu (z_g x) a1 o1 (gQu_ints v1) (gQu_places v1) (gQu_strengths v1)) C eX7_gainByLine_154 PX7_199 0 rfl rfl rfl (Nat.le_of_ble_eq_true rfl) rfl ?_
    refine r_aload_n C eX7_gainByLine_157 8 rfl rfl ?_
    refine r_dup C eX7_gainByLine_158 rfl ?_
    refine r_get (v := .int ((gSh_ints v0) 17)) C eX7_gainByLine_159 FX7_208 0 rfl rfl ?_
    refine r_iload C eX7_gainByLine_162 0 rfl ?_
    refine r_iload_n C eX7_gainByLine_164 7 rfl rfl ?_
    refine r_imul C eX7_gainByLine_165 ?_
    refine r_iload C eX7_gainByLine_166 2 rfl ?_
    obtain ⟨hz22, hf⟩ := zdv hf
    refine r_idiv C eX7_gainByLine_168 hz22 ?_
    refine r_bipush C (v := 10) eX7_gainByLine_169 (by decide) ?_
    refine r_idiv C eX7_gainByLine_171 (by decide) ?_
    refine r_iadd C eX7_gainByLine_172 ?_
    obtain ⟨z23, hz23, hf⟩ := zlet_of hf
    refine r_nami hz23 ?_
    refine r_put (ws' := W_Sh (z_g x) a0 o0 (upd (upd (upd (gSh_ints v0) 15 z19) 16 z21) 17 z23) (gSh_harm v0) (gLi_fast (gSh_lines v0)) (gLi_place (gSh_lines v0)) (gLi_post (gSh_lines v0)) (gLi_length (gSh_lines v0)) ++ W_Qu (z_g x) a1 o1 (gQu_ints v1) (gQu_places v1) (gQu_strengths v1)) C eX7_gainByLine_173 PX7_208 0 rfl rfl rfl (Nat.le_of_ble_eq_true rfl) rfl ?_
    refine r_iconst C (v := 1) eX7_gainByLine_176 (by decide) ?_
    obtain rfl := Option.some.inj (show some ((1, (upd (upd (upd (gSh_ints v0) 15 z19) 16 z21) 17 z23)) : Int32 × (Nat → Int32)) = some _ from hf)
    exact hret _ _ _ eX7_gainByLine_177 zB1
  · rw [if_neg c12] at hf
    refine r_iconst C (v := 0) eX7_gainByLine_87 (by decide) ?_
    obtain rfl := Option.some.inj (show some ((0, (gSh_ints v0)) : Int32 × (Nat → Int32)) = some _ from hf)
    exact hret _ _ _ eX7_gainByLine_88 zB0
theorem eX7_heaveOdds_0 : zd 1 cX7_heaveOdds 0 1 (.iconst 0) := ⟨by decide +kernel, rfl⟩
theorem eX7_heaveOdds_1 : zd 2 cX7_heaveOdds 1 3 (.bipush 100) := ⟨by decide +kernel, rfl⟩
theorem eX7_heaveOdds_3 : zd 1 cX7_heaveOdds 3 4 (.aload_n 0) := ⟨by decide +kernel, rfl⟩
theorem eX7_heaveOdds_4 : zd 1 cX7_heaveOdds 4 5 (.aload_n 1) := ⟨by decide +kernel, rfl⟩
theorem eX7_heaveOdds_5 : zd 1 cX7_heaveOdds 5 6 (.iload_n 2) := ⟨by decide +kernel, rfl⟩
theorem eX7_heaveOdds_6 : zd 1 cX7_heaveOdds 6 7 (.iload_n 3) := ⟨by decide +kernel, rfl⟩
theorem eX7_heaveOdds_7 : zd 3 cX7_heaveOdds 7 10 (.invokevirtual 129) := ⟨by decide +kernel, rfl⟩
theorem eX7_heaveOdds_10 : zd 2 cX7_heaveOdds 10 12 (.bipush 50) := ⟨by decide +kernel, rfl⟩
theorem eX7_heaveOdds_12 : zd 1 cX7_heaveOdds 12 13 (.idiv) := ⟨by decide +kernel, rfl⟩
theorem eX7_heaveOdds_13 : zd 1 cX7_heaveOdds 13 14 (.isub) := ⟨by decide +kernel, rfl⟩
theorem eX7_heaveOdds_14 : zd 3 cX7_heaveOdds 14 17 (.invokestatic 90) := ⟨by decide +kernel, rfl⟩
theorem eX7_heaveOdds_17 : zd 1 cX7_heaveOdds 17 18 (.ireturn) := ⟨by decide +kernel, rfl⟩
theorem MX7_129 : zlV RX7 129 yX7_distance cX7_distance 4 ((Option.some FieldType.int)) 3 := ⟨q834, q803, q804, q7, q805, by decide, by decide, by decide +kernel⟩
noncomputable def f_Sh_heaveOdds (v0 : tSh) (v1 : tQu) (p1 : Int32) (p2 : Int32) : Option (Int32) := (Option.bind (f_Sh_distance v0 v1 p1 p2) (fun (r1 : Int32) => (some (zmax 0 (100 - (r1 / 50))))))
abbrev rm_Sh_heaveOdds : Room := { frames := 3, cells := 0, slots := 0, locals := 72 }
set_option maxHeartbeats 4000000 in
set_option maxRecDepth 100000 in
theorem c_Sh_heaveOdds (l : Launch) (g : zGl) (a0 : Nat → Nat) (o0 : Nat) (v0 : tSh) (a1 : Nat → Nat) (o1 : Nat) (v1 : tQu) (p1 : Int32) (p2 : Int32) (out : Int32) (hf : f_Sh_heaveOdds v0 v1 p1 p2 = some out) : zMi l yX7_heaveOdds cX7_heaveOdds 4 rm_Sh_heaveOdds g [.ref (a0 o0), .ref (a1 o1), .int p1, .int p2] (W_Sh g a0 o0 (gSh_ints v0) (gSh_harm v0) (gLi_fast (gSh_lines v0)) (gLi_place (gSh_lines v0)) (gLi_post (gSh_lines v0)) (gLi_length (gSh_lines v0)) ++ W_Qu g a1 o1 (gQu_ints v1) (gQu_places v1) (gQu_strengths v1)) out (W_Sh g a0 o0 (gSh_ints v0) (gSh_harm v0) (gLi_fast (gSh_lines v0)) (gLi_place (gSh_lines v0)) (gLi_post (gSh_lines v0)) (gLi_length (gSh_lines v0)) ++ W_Qu g a1 o1 (gQu_ints v1) (gQu_places v1) (gQu_strengths v1)) := by
  refine zMi_of (lv := [(0, .ref (a0 o0)), (1, .ref (a1 o1)), (2, .int p1), (3, .int p2)]) (by decide) (Nat.le_of_ble_eq_true rfl) rfl (fun x hl hg C hret => ?_)
  subst hl; subst hg
  rw [f_Sh_heaveOdds] at hf
  refine r_iconst C (v := 0) eX7_heaveOdds_0 (by decide) ?_
  refine r_bipush C (v := 100) eX7_heaveOdds_1 (by decide) ?_
  refine r_aload_n C eX7_heaveOdds_3 0 rfl rfl ?_
  refine r_aload_n C eX7_heaveOdds_4 1 rfl rfl ?_
  refine r_iload_n C eX7_heaveOdds_5 2 rfl rfl ?_
  refine r_iload_n C eX7_heaveOdds_6 3 rfl rfl ?_
  obtain ⟨r1, hr1, hf⟩ := zbind hf
  refine r_V_i (ws' := W_Sh (z_g x) a0 o0 (gSh_ints v0) (gSh_harm v0) (gLi_fast (gSh_lines v0)) (gLi_place (gSh_lines v0)) (gLi_post (gSh_lines v0)) (gLi_length (gSh_lines v0)) ++ W_Qu (z_g x) a1 o1 (gQu_ints v1) (gQu_places v1) (gQu_strengths v1)) C (c_Sh_distance (z_l x) (z_g x) a0 o0 v0 a1 o1 v1 p1 p2 r1 hr1) eX7_heaveOdds_7 MX7_129 ⟨0, 7, _, _, rfl, rfl, rfl⟩ [0, 1, 2, 3, 4, 5, 6, 7, 8] rfl rfl rfl rfl [] rfl trivial 9 rfl rfl rfl rfl rfl rfl ?_
  refine r_bipush C (v := 50) eX7_heaveOdds_10 (by decide) ?_
  refine r_idiv C eX7_heaveOdds_12 (by decide) ?_
  refine r_isub C eX7_heaveOdds_13 ?_
  refine r_mmax C eX7_heaveOdds_14 MX7_90 rfl ?_
  obtain rfl := Option.some.inj (show some ((zmax 0 (100 - (r1 / 50))) : Int32) = some _ from hf)
  exact hret _ _ _ eX7_heaveOdds_17
theorem eX7_heaveLine_0 : zd 1 cX7_heaveLine 0 1 (.aload_n 0) := ⟨by decide +kernel, rfl⟩
theorem eX7_heaveLine_1 : zd 3 cX7_heaveLine 1 4 (.invokevirtual 132) := ⟨by decide +kernel, rfl⟩
theorem eX7_heaveLine_4 : zd 1 cX7_heaveLine 4 5 (.aload_n 0) := ⟨by decide +kernel, rfl⟩
theorem eX7_heaveLine_5 : zd 1 cX7_heaveLine 5 6 (.aload_n 1) := ⟨by decide +kernel, rfl⟩
theorem eX7_heaveLine_6 : zd 1 cX7_heaveLine 6 7 (.iload_n 3) := ⟨by decide +kernel, rfl⟩
theorem eX7_heaveLine_7 : zd 2 cX7_heaveLine 7 9 (.iload 4) := ⟨by decide +kernel, rfl⟩
theorem eX7_heaveLine_9 : zd 3 cX7_heaveLine 9 12 (.invokevirtual 135) := ⟨by decide +kernel, rfl⟩
theorem eX7_heaveLine_12 : zdi cX7_heaveLine 12 15 36 (.if_icmp .ge) := ⟨24, by decide +kernel, rfl, by decide⟩
theorem eX7_heaveLine_15 : zd 1 cX7_heaveLine 15 16 (.aload_n 0) := ⟨by decide +kernel, rfl⟩
theorem eX7_heaveLine_16 : zd 3 cX7_heaveLine 16 19 (.getfield 10) := ⟨by decide +kernel, rfl⟩
theorem eX7_heaveLine_19 : zd 1 cX7_heaveLine 19 20 (.iload_n 2) := ⟨by decide +kernel, rfl⟩
theorem eX7_heaveLine_20 : zd 1 cX7_heaveLine 20 21 (.iload_n 3) := ⟨by decide +kernel, rfl⟩
theorem eX7_heaveLine_21 : zd 2 cX7_heaveLine 21 23 (.iload 4) := ⟨by decide +kernel, rfl⟩
theorem eX7_heaveLine_23 : zd 1 cX7_heaveLine 23 24 (.aload_n 0) := ⟨by decide +kernel, rfl⟩
theorem eX7_heaveLine_24 : zd 1 cX7_heaveLine 24 25 (.aload_n 1) := ⟨by decide +kernel, rfl⟩
theorem eX7_heaveLine_25 : zd 1 cX7_heaveLine 25 26 (.iload_n 3) := ⟨by decide +kernel, rfl⟩
theorem eX7_heaveLine_26 : zd 2 cX7_heaveLine 26 28 (.iload 4) := ⟨by decide +kernel, rfl⟩
theorem eX7_heaveLine_28 : zd 3 cX7_heaveLine 28 31 (.invokevirtual 129) := ⟨by decide +kernel, rfl⟩
theorem eX7_heaveLine_31 : zd 3 cX7_heaveLine 31 34 (.invokevirtual 138) := ⟨by decide +kernel, rfl⟩
theorem eX7_heaveLine_34 : zd 1 cX7_heaveLine 34 35 (.iconst 1) := ⟨by decide +kernel, rfl⟩
theorem eX7_heaveLine_35 : zd 1 cX7_heaveLine 35 36 (.ireturn) := ⟨by decide +kernel, rfl⟩
theorem eX7_heaveLine_36 : zd 1 cX7_heaveLine 36 37 (.aload_n 0) := ⟨by decide +kernel, rfl⟩
theorem eX7_heaveLine_37 : zd 1 cX7_heaveLine 37 38 (.dup) := ⟨by decide +kernel, rfl⟩
theorem eX7_heaveLine_38 : zd 3 cX7_heaveLine 38 41 (.getfield 40) := ⟨by decide +kernel, rfl⟩
theorem eX7_heaveLine_41 : zd 1 cX7_heaveLine 41 42 (.iconst 1) := ⟨by decide +kernel, rfl⟩
theorem eX7_heaveLine_42 : zd 1 cX7_heaveLine 42 43 (.iadd) := ⟨by decide +kernel, rfl⟩
theorem eX7_heaveLine_43 : zd 3 cX7_heaveLine 43 46 (.putfield 40) := ⟨by decide +kernel, rfl⟩
theorem eX7_heaveLine_46 : zd 1 cX7_heaveLine 46 47 (.iconst 0) := ⟨by decide +kernel, rfl⟩
theorem eX7_heaveLine_47 : zd 1 cX7_heaveLine 47 48 (.ireturn) := ⟨by decide +kernel, rfl⟩
theorem MX7_132 : zlV RX7 132 yX7_drawOfHundred cX7_drawOfHundred 1 ((Option.some FieldType.int)) 0 := ⟨q822, q824, qs18, q7, q825, by decide, by decide, by decide +kernel⟩
theorem MX7_135 : zlV RX7 135 yX7_heaveOdds cX7_heaveOdds 4 ((Option.some FieldType.int)) 3 := ⟨q830, q831, q832, q7, q833, by decide, by decide, by decide +kernel⟩
theorem MX7_138 : zlV RX7 138 yX1_makeFast cX1_makeFast 5 (none) 4 := ⟨q835, q811, q812, q8, q813, by decide, by decide, by decide +kernel⟩
noncomputable def f_Sh_heaveLine (v0 : tSh) (v1 : tQu) (p1 : Int32) (p2 : Int32) (p3 : Int32) : Option (Int32 × (Nat → Int32) × (Nat → Int32) × (Nat → Int32) × (Nat → Int32) × (Nat → Int32)) := (zlet (f_Sh_drawOfHundred v0) (fun (r1 : Int32 × (Nat → Int32)) => (Option.bind (f_Sh_heaveOdds ((r1.2), (gSh_harm v0), (gSh_lines v0)) v1 p2 p3) (fun (r2 : Int32) => (if r2 ≤ (r1.1) then (zlet (((r1.2) 11) + 1) (fun (z4 : Int32) => (some (0, (upd (r1.2) 11 z4), (gLi_fast (gSh_lines v0)), (gLi_place (gSh_lines v0)), (gLi_post (gSh_lines v0)), (gLi_length (gSh_lines v0)))))) else (Option.bind (f_Sh_distance ((r1.2), (gSh_harm v0), (gSh_lines v0)) v1 p2 p3) (fun (r5 : Int32) => (Option.bind (f_Li_makeFast (gSh_lines v0) p1 p2 p3 r5) (fun (r6 : (Nat → Int32) × (Nat → Int32) × (Nat → Int32) × (Nat → Int32)) => (some (1, (r1.2), (r6.1), (r6.2.1), (r6.2.2.1), (r6.2.2.2))))))))))))
abbrev rm_Sh_heaveLine : Room := { frames := 4, cells := 0, slots := 0, locals := 95 }
set_option maxHeartbeats 4000000 in
set_option maxRecDepth 100000 in
theorem c_Sh_heaveLine (l : Launch) (g : zGl) (a0 : Nat → Nat) (o0 : Nat) (v0 : tSh) (a1 : Nat → Nat) (o1 : Nat) (v1 : tQu) (p1 : Int32) (p2 : Int32) (p3 : Int32) (out : Int32 × (Nat → Int32) × (Nat → Int32) × (Nat → Int32) × (Nat → Int32) × (Nat → Int32)) (hf : f_Sh_heaveLine v0 v1 p1 p2 p3 = some out) : zMz l yX7_heaveLine cX7_heaveLine 5 rm_Sh_heaveLine g [.ref (a0 o0), .ref (a1 o1), .int p1, .int p2, .int p3] (W_Sh g a0 o0 (gSh_ints v0) (gSh_harm v0) (gLi_fast (gSh_lines v0)) (gLi_place (gSh_lines v0)) (gLi_post (gSh_lines v0)) (gLi_length (gSh_lines v0)) ++ W_Qu g a1 o1 (gQu_ints v1) (gQu_places v1) (gQu_strengths v1)) (out.1) (W_Sh g a0 o0 (out.2.1) (gSh_harm v0) (out.2.2.1) (out.2.2.2.1) (out.2.2.2.2.1) (out.2.2.2.2.2) ++ W_Qu g a1 o1 (gQu_ints v1) (gQu_places v1) (gQu_strengths v1)) := by
  refine zMz_of (lv := [(0, .ref (a0 o0)), (1, .ref (a1 o1)), (2, .int p1), (3, .int p2), (4, .int p3)]) (by decide) (Nat.le_of_ble_eq_true rfl) rfl (fun x hl hg C hret => ?_)
  subst hl; subst hg
  rw [f_Sh_heaveLine] at hf
  refine r_aload_n C eX7_heaveLine_0 0 rfl rfl ?_
  obtain ⟨r1, hr1, hf⟩ := zlet_of hf
  refine r_V_i (ws' := W_Sh (z_g x) a0 o0 (r1.2) (gSh_harm v0) (gLi_fast (gSh_lines v0)) (gLi_place (gSh_lines v0)) (gLi_post (gSh_lines v0)) (gLi_length (gSh_lines v0)) ++ W_Qu (z_g x) a1 o1 (gQu_ints v1) (gQu_places v1) (gQu_strengths v1)) C (c_Sh_drawOfHundred (z_l x) (z_g x) a0 o0 v0  r1 hr1) eX7_heaveLine_1 MX7_132 ⟨0, 7, _, _, rfl, rfl, rfl⟩ [0, 1, 2, 3, 4, 5] rfl rfl rfl rfl [6, 7, 8] rfl ⟨rfl, rfl, rfl, trivial⟩ 9 rfl rfl rfl rfl rfl rfl ?_
  refine r_aload_n C eX7_heaveLine_4 0 rfl rfl ?_
  refine r_aload_n C eX7_heaveLine_5 1 rfl rfl ?_
  refine r_iload_n C eX7_heaveLine_6 3 rfl rfl ?_
  refine r_iload C eX7_heaveLine_7 4 rfl ?_
  obtain ⟨r2, hr2, hf⟩ := zbind hf
  refine r_V_i (ws' := W_Sh (z_g x) a0 o0 (r1.2) (gSh_harm v0) (gLi_fast (gSh_lines v0)) (gLi_place (gSh_lines v0)) (gLi_post (gSh_lines v0)) (gLi_length (gSh_lines v0)) ++ W_Qu (z_g x) a1 o1 (gQu_ints v1) (gQu_places v1) (gQu_strengths v1)) C (c_Sh_heaveOdds (z_l x) (z_g x) a0 o0 ((r1.2), (gSh_harm v0), (gSh_lines v0)) a1 o1 v1 p2 p3 r2 hr2) eX7_heaveLine_9 MX7_135 ⟨0, 7, _, _, rfl, rfl, rfl⟩ [0, 1, 2, 3, 4, 5, 6, 7, 8] rfl rfl rfl rfl [] rfl trivial 9 rfl rfl rfl rfl rfl rfl ?_
  refine r_icmp_ge C eX7_heaveLine_12 (fun c3 => ?_) (fun c3 => ?_)
  · rw [if_pos c3] at hf
    refine r_aload_n C eX7_heaveLine_36 0 rfl rfl ?_
    refine r_dup C eX7_heaveLine_37 rfl ?_
    refine r_get (v := .int ((r1.2) 11)) C eX7_heaveLine_38 FX7_40 0 rfl rfl ?_
    refine r_iconst C (v := 1) eX7_heaveLine_41 (by decide) ?_
    refine r_iadd C eX7_heaveLine_42 ?_
    obtain ⟨z4, hz4, hf⟩ := zlet_of hf
    refine r_nami hz4 ?_
    refine r_put (ws' := W_Sh (z_g x) a0 o0 (upd (r1.2) 11 z4) (gSh_harm v0) (gLi_fast (gSh_lines v0)) (gLi_place (gSh_lines v0)) (gLi_post (gSh_lines v0)) (gLi_length (gSh_lines v0)) ++ W_Qu (z_g x) a1 o1 (gQu_ints v1) (gQu_places v1) (gQu_strengths v1)) C eX7_heaveLine_43 PX7_40 0 rfl rfl rfl (Nat.le_of_ble_eq_true rfl) rfl ?_
    refine r_iconst C (v := 0) eX7_heaveLine_46 (by decide) ?_
    obtain rfl := Option.some.inj (show some ((0, (upd (r1.2) 11 z4), (gLi_fast (gSh_lines v0)), (gLi_place (gSh_lines v0)), (gLi_post (gSh_lines v0)), (gLi_length (gSh_lines v0))) : Int32 × (Nat → Int32) × (Nat → Int32) × (Nat → Int32) × (Nat → Int32) × (Nat → Int32)) = some _ from hf)
    exact hret _ _ _ eX7_heaveLine_47 zB0
  · rw [if_neg c3] at hf
    refine r_aload_n C eX7_heaveLine_15 0 rfl rfl ?_
    refine r_get (v := .ref (a0 (o0 + 1))) C eX7_heaveLine_16 FX7_10 0 rfl rfl ?_
    refine r_iload_n C eX7_heaveLine_19 2 rfl rfl ?_
    refine r_iload_n C eX7_heaveLine_20 3 rfl rfl ?_
    refine r_iload C eX7_heaveLine_21 4 rfl ?_
    refine r_aload_n C eX7_heaveLine_23 0 rfl rfl ?_
    refine r_aload_n C eX7_heaveLine_24 1 rfl rfl ?_
    refine r_iload_n C eX7_heaveLine_25 3 rfl rfl ?_
    refine r_iload C eX7_heaveLine_26 4 rfl ?_
    obtain ⟨r5, hr5, hf⟩ := zbind hf
    refine r_V_i (ws' := W_Sh (z_g x) a0 o0 (r1.2) (gSh_harm v0) (gLi_fast (gSh_lines v0)) (gLi_place (gSh_lines v0)) (gLi_post (gSh_lines v0)) (gLi_length (gSh_lines v0)) ++ W_Qu (z_g x) a1 o1 (gQu_ints v1) (gQu_places v1) (gQu_strengths v1)) C (c_Sh_distance (z_l x) (z_g x) a0 o0 ((r1.2), (gSh_harm v0), (gSh_lines v0)) a1 o1 v1 p2 p3 r5 hr5) eX7_heaveLine_28 MX7_129 ⟨0, 7, _, _, rfl, rfl, rfl⟩ [0, 1, 2, 3, 4, 5, 6, 7, 8] rfl rfl rfl rfl [] rfl trivial 9 rfl rfl rfl rfl rfl rfl ?_
    obtain ⟨r6, hr6, hf⟩ := zbind hf
    refine r_V_v (ws' := W_Sh (z_g x) a0 o0 (r1.2) (gSh_harm v0) (r6.1) (r6.2.1) (r6.2.2.1) (r6.2.2.2) ++ W_Qu (z_g x) a1 o1 (gQu_ints v1) (gQu_places v1) (gQu_strengths v1)) C (c_Li_makeFast (z_l x) (z_g x) a0 (o0 + 1) (gSh_lines v0) p1 p2 p3 r5 r6 hr6) eX7_heaveLine_31 MX7_138 ⟨0, 1, _, _, rfl, rfl, rfl⟩ [1, 2, 3, 4, 5] rfl rfl rfl rfl [0, 6, 7, 8] rfl ⟨rfl, rfl, rfl, rfl, trivial⟩ 9 rfl rfl rfl rfl rfl rfl ?_
    refine r_iconst C (v := 1) eX7_heaveLine_34 (by decide) ?_
    obtain rfl := Option.some.inj (show some ((1, (r1.2), (r6.1), (r6.2.1), (r6.2.2.1), (r6.2.2.2)) : Int32 × (Nat → Int32) × (Nat → Int32) × (Nat → Int32) × (Nat → Int32) × (Nat → Int32)) = some _ from hf)
    exact hret _ _ _ eX7_heaveLine_35 zB1
