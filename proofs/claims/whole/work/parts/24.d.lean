theorem eX11_init_0 : zd 1 cX11_init 0 1 (.aload_n 0) := ⟨by decide +kernel, rfl⟩
theorem eX11_init_1 : zd 3 cX11_init 1 4 (.invokespecial 1) := ⟨by decide +kernel, rfl⟩
theorem eX11_init_4 : zd 1 cX11_init 4 5 (.aload_n 0) := ⟨by decide +kernel, rfl⟩
theorem eX11_init_5 : zd 2 cX11_init 5 7 (.bipush 13) := ⟨by decide +kernel, rfl⟩
theorem eX11_init_7 : zd 2 cX11_init 7 9 (.newarray .int) := ⟨by decide +kernel, rfl⟩
theorem eX11_init_9 : zd 3 cX11_init 9 12 (.putfield 7) := ⟨by decide +kernel, rfl⟩
theorem eX11_init_12 : zd 1 cX11_init 12 13 (.aload_n 0) := ⟨by decide +kernel, rfl⟩
theorem eX11_init_13 : zd 2 cX11_init 13 15 (.bipush 12) := ⟨by decide +kernel, rfl⟩
theorem eX11_init_15 : zd 2 cX11_init 15 17 (.newarray .int) := ⟨by decide +kernel, rfl⟩
theorem eX11_init_17 : zd 3 cX11_init 17 20 (.putfield 13) := ⟨by decide +kernel, rfl⟩
theorem eX11_init_20 : zd 1 cX11_init 20 21 (.aload_n 0) := ⟨by decide +kernel, rfl⟩
theorem eX11_init_21 : zd 2 cX11_init 21 23 (.bipush 12) := ⟨by decide +kernel, rfl⟩
theorem eX11_init_23 : zd 2 cX11_init 23 25 (.newarray .int) := ⟨by decide +kernel, rfl⟩
theorem eX11_init_25 : zd 3 cX11_init 25 28 (.putfield 16) := ⟨by decide +kernel, rfl⟩
theorem eX11_init_28 : zd 1 cX11_init 28 29 (.aload_n 0) := ⟨by decide +kernel, rfl⟩
theorem eX11_init_29 : zd 2 cX11_init 29 31 (.bipush 60) := ⟨by decide +kernel, rfl⟩
theorem eX11_init_31 : zd 2 cX11_init 31 33 (.newarray .int) := ⟨by decide +kernel, rfl⟩
theorem eX11_init_33 : zd 3 cX11_init 33 36 (.putfield 19) := ⟨by decide +kernel, rfl⟩
theorem eX11_init_36 : zd 1 cX11_init 36 37 (.aload_n 0) := ⟨by decide +kernel, rfl⟩
theorem eX11_init_37 : zd 2 cX11_init 37 39 (.bipush 24) := ⟨by decide +kernel, rfl⟩
theorem eX11_init_39 : zd 2 cX11_init 39 41 (.newarray .int) := ⟨by decide +kernel, rfl⟩
theorem eX11_init_41 : zd 3 cX11_init 41 44 (.putfield 22) := ⟨by decide +kernel, rfl⟩
theorem eX11_init_44 : zd 1 cX11_init 44 45 (.aload_n 0) := ⟨by decide +kernel, rfl⟩
theorem eX11_init_45 : zd 2 cX11_init 45 47 (.bipush 13) := ⟨by decide +kernel, rfl⟩
theorem eX11_init_47 : zd 2 cX11_init 47 49 (.newarray .long) := ⟨by decide +kernel, rfl⟩
theorem eX11_init_49 : zd 3 cX11_init 49 52 (.putfield 25) := ⟨by decide +kernel, rfl⟩
theorem eX11_init_52 : zd 1 cX11_init 52 53 (.aload_n 0) := ⟨by decide +kernel, rfl⟩
theorem eX11_init_53 : zd 2 cX11_init 53 55 (.bipush 24) := ⟨by decide +kernel, rfl⟩
theorem eX11_init_55 : zd 2 cX11_init 55 57 (.newarray .int) := ⟨by decide +kernel, rfl⟩
theorem eX11_init_57 : zd 3 cX11_init 57 60 (.putfield 29) := ⟨by decide +kernel, rfl⟩
theorem eX11_init_60 : zd 1 cX11_init 60 61 (.aload_n 0) := ⟨by decide +kernel, rfl⟩
theorem eX11_init_61 : zd 3 cX11_init 61 64 (.sipush 300) := ⟨by decide +kernel, rfl⟩
theorem eX11_init_64 : zd 2 cX11_init 64 66 (.newarray .int) := ⟨by decide +kernel, rfl⟩
theorem eX11_init_66 : zd 3 cX11_init 66 69 (.putfield 32) := ⟨by decide +kernel, rfl⟩
theorem eX11_init_69 : zd 1 cX11_init 69 70 (.aload_n 0) := ⟨by decide +kernel, rfl⟩
theorem eX11_init_70 : zd 1 cX11_init 70 71 (.iconst (-1)) := ⟨by decide +kernel, rfl⟩
theorem eX11_init_71 : zd 3 cX11_init 71 74 (.putfield 35) := ⟨by decide +kernel, rfl⟩
theorem eX11_init_74 : zd 1 cX11_init 74 75 (.aload_n 0) := ⟨by decide +kernel, rfl⟩
theorem eX11_init_75 : zd 2 cX11_init 75 77 (.bipush 13) := ⟨by decide +kernel, rfl⟩
theorem eX11_init_77 : zd 2 cX11_init 77 79 (.newarray .int) := ⟨by decide +kernel, rfl⟩
theorem eX11_init_79 : zd 3 cX11_init 79 82 (.putfield 39) := ⟨by decide +kernel, rfl⟩
theorem eX11_init_82 : zd 1 cX11_init 82 83 (.aload_n 0) := ⟨by decide +kernel, rfl⟩
theorem eX11_init_83 : zd 2 cX11_init 83 85 (.bipush 12) := ⟨by decide +kernel, rfl⟩
theorem eX11_init_85 : zd 2 cX11_init 85 87 (.newarray .int) := ⟨by decide +kernel, rfl⟩
theorem eX11_init_87 : zd 3 cX11_init 87 90 (.putfield 42) := ⟨by decide +kernel, rfl⟩
theorem eX11_init_90 : zd 1 cX11_init 90 91 (.aload_n 0) := ⟨by decide +kernel, rfl⟩
theorem eX11_init_91 : zd 2 cX11_init 91 93 (.bipush 12) := ⟨by decide +kernel, rfl⟩
theorem eX11_init_93 : zd 2 cX11_init 93 95 (.newarray .int) := ⟨by decide +kernel, rfl⟩
theorem eX11_init_95 : zd 3 cX11_init 95 98 (.putfield 45) := ⟨by decide +kernel, rfl⟩
theorem eX11_init_98 : zd 1 cX11_init 98 99 (.aload_n 0) := ⟨by decide +kernel, rfl⟩
theorem eX11_init_99 : zd 2 cX11_init 99 101 (.bipush 60) := ⟨by decide +kernel, rfl⟩
theorem eX11_init_101 : zd 2 cX11_init 101 103 (.newarray .int) := ⟨by decide +kernel, rfl⟩
theorem eX11_init_103 : zd 3 cX11_init 103 106 (.putfield 48) := ⟨by decide +kernel, rfl⟩
theorem eX11_init_106 : zd 1 cX11_init 106 107 (.aload_n 0) := ⟨by decide +kernel, rfl⟩
theorem eX11_init_107 : zd 2 cX11_init 107 109 (.bipush 6) := ⟨by decide +kernel, rfl⟩
theorem eX11_init_109 : zd 2 cX11_init 109 111 (.newarray .int) := ⟨by decide +kernel, rfl⟩
theorem eX11_init_111 : zd 3 cX11_init 111 114 (.putfield 51) := ⟨by decide +kernel, rfl⟩
theorem eX11_init_114 : zd 1 cX11_init 114 115 (.aload_n 0) := ⟨by decide +kernel, rfl⟩
theorem eX11_init_115 : zd 2 cX11_init 115 117 (.bipush 13) := ⟨by decide +kernel, rfl⟩
theorem eX11_init_117 : zd 2 cX11_init 117 119 (.newarray .long) := ⟨by decide +kernel, rfl⟩
theorem eX11_init_119 : zd 3 cX11_init 119 122 (.putfield 54) := ⟨by decide +kernel, rfl⟩
theorem eX11_init_122 : zd 1 cX11_init 122 123 (.aload_n 0) := ⟨by decide +kernel, rfl⟩
theorem eX11_init_123 : zd 2 cX11_init 123 125 (.bipush 24) := ⟨by decide +kernel, rfl⟩
theorem eX11_init_125 : zd 2 cX11_init 125 127 (.newarray .int) := ⟨by decide +kernel, rfl⟩
theorem eX11_init_127 : zd 3 cX11_init 127 130 (.putfield 57) := ⟨by decide +kernel, rfl⟩
theorem eX11_init_130 : zd 1 cX11_init 130 131 (.aload_n 0) := ⟨by decide +kernel, rfl⟩
theorem eX11_init_131 : zd 2 cX11_init 131 133 (.bipush 64) := ⟨by decide +kernel, rfl⟩
theorem eX11_init_133 : zd 2 cX11_init 133 135 (.newarray .long) := ⟨by decide +kernel, rfl⟩
theorem eX11_init_135 : zd 3 cX11_init 135 138 (.putfield 60) := ⟨by decide +kernel, rfl⟩
theorem eX11_init_138 : zd 1 cX11_init 138 139 (.aload_n 0) := ⟨by decide +kernel, rfl⟩
theorem eX11_init_139 : zd 2 cX11_init 139 141 (.bipush 60) := ⟨by decide +kernel, rfl⟩
theorem eX11_init_141 : zd 2 cX11_init 141 143 (.newarray .int) := ⟨by decide +kernel, rfl⟩
theorem eX11_init_143 : zd 3 cX11_init 143 146 (.putfield 63) := ⟨by decide +kernel, rfl⟩
theorem eX11_init_146 : zd 1 cX11_init 146 147 (.aload_n 0) := ⟨by decide +kernel, rfl⟩
theorem eX11_init_147 : zd 2 cX11_init 147 149 (.bipush 80) := ⟨by decide +kernel, rfl⟩
theorem eX11_init_149 : zd 2 cX11_init 149 151 (.newarray .long) := ⟨by decide +kernel, rfl⟩
theorem eX11_init_151 : zd 3 cX11_init 151 154 (.putfield 66) := ⟨by decide +kernel, rfl⟩
theorem eX11_init_154 : zd 1 cX11_init 154 155 (.aload_n 0) := ⟨by decide +kernel, rfl⟩
theorem eX11_init_155 : zd 1 cX11_init 155 156 (.iconst 2) := ⟨by decide +kernel, rfl⟩
theorem eX11_init_156 : zd 2 cX11_init 156 158 (.newarray .boolean) := ⟨by decide +kernel, rfl⟩
theorem eX11_init_158 : zd 3 cX11_init 158 161 (.putfield 69) := ⟨by decide +kernel, rfl⟩
theorem eX11_init_161 : zd 1 cX11_init 161 162 (.iconst 0) := ⟨by decide +kernel, rfl⟩
theorem eX11_init_162 : zd 1 cX11_init 162 163 (.istore_n 1) := ⟨by decide +kernel, rfl⟩
theorem eX11_init_163 : zd 1 cX11_init 163 164 (.iload_n 1) := ⟨by decide +kernel, rfl⟩
theorem eX11_init_164 : zd 2 cX11_init 164 166 (.bipush 13) := ⟨by decide +kernel, rfl⟩
theorem eX11_init_166 : zdi cX11_init 166 169 185 (.if_icmp .ge) := ⟨19, by decide +kernel, rfl, by decide⟩
theorem eX11_init_169 : zd 1 cX11_init 169 170 (.aload_n 0) := ⟨by decide +kernel, rfl⟩
theorem eX11_init_170 : zd 3 cX11_init 170 173 (.getfield 7) := ⟨by decide +kernel, rfl⟩
theorem eX11_init_173 : zd 1 cX11_init 173 174 (.iload_n 1) := ⟨by decide +kernel, rfl⟩
theorem eX11_init_174 : zd 1 cX11_init 174 175 (.iload_n 1) := ⟨by decide +kernel, rfl⟩
theorem eX11_init_175 : zd 3 cX11_init 175 178 (.invokestatic 73) := ⟨by decide +kernel, rfl⟩
theorem eX11_init_178 : zd 1 cX11_init 178 179 (.iastore) := ⟨by decide +kernel, rfl⟩
theorem eX11_init_179 : zd 3 cX11_init 179 182 (.iinc 1 1) := ⟨by decide +kernel, rfl⟩
theorem eX11_init_182 : zdi cX11_init 182 185 163 (.goto) := ⟨(-19), by decide +kernel, rfl, by decide⟩
theorem eX11_init_185 : zd 1 cX11_init 185 186 (.aload_n 0) := ⟨by decide +kernel, rfl⟩
theorem eX11_init_186 : zd 3 cX11_init 186 189 (.invokevirtual 77) := ⟨by decide +kernel, rfl⟩
theorem eX11_init_189 : zd 1 cX11_init 189 190 (.return_) := ⟨by decide +kernel, rfl⟩
theorem PFX11_7 : zlPF RX11 7 11 0 (.array .int) := ⟨(RX11, TX11, 34), tyX11, rfl, by decide, q1071, zin11, tyX11_ok, nmX11, rfl, rfl, by decide +kernel⟩
theorem PFX11_13 : zlPF RX11 13 11 2 (.array .int) := ⟨(RX11, TX11, 34), tyX11, rfl, by decide, q1073, zin11, tyX11_ok, nmX11, rfl, rfl, by decide +kernel⟩
theorem PFX11_16 : zlPF RX11 16 11 3 (.array .int) := ⟨(RX11, TX11, 34), tyX11, rfl, by decide, q1074, zin11, tyX11_ok, nmX11, rfl, rfl, by decide +kernel⟩
theorem PFX11_19 : zlPF RX11 19 11 5 (.array .int) := ⟨(RX11, TX11, 34), tyX11, rfl, by decide, q1076, zin11, tyX11_ok, nmX11, rfl, rfl, by decide +kernel⟩
theorem PFX11_22 : zlPF RX11 22 11 7 (.array .int) := ⟨(RX11, TX11, 34), tyX11, rfl, by decide, q1078, zin11, tyX11_ok, nmX11, rfl, rfl, by decide +kernel⟩
theorem PFX11_25 : zlPF RX11 25 11 8 (.array .long) := ⟨(RX11, TX11, 34), tyX11, rfl, by decide, q1079, zin11, tyX11_ok, nmX11, rfl, rfl, by decide +kernel⟩
theorem PFX11_29 : zlPF RX11 29 11 9 (.array .int) := ⟨(RX11, TX11, 34), tyX11, rfl, by decide, q1080, zin11, tyX11_ok, nmX11, rfl, rfl, by decide +kernel⟩
theorem PFX11_32 : zlPF RX11 32 11 10 (.array .int) := ⟨(RX11, TX11, 34), tyX11, rfl, by decide, q1081, zin11, tyX11_ok, nmX11, rfl, rfl, by decide +kernel⟩
theorem PFX11_39 : zlPF RX11 39 11 18 (.array .int) := ⟨(RX11, TX11, 34), tyX11, rfl, by decide, q1089, zin11, tyX11_ok, nmX11, rfl, rfl, by decide +kernel⟩
theorem PFX11_42 : zlPF RX11 42 11 20 (.array .int) := ⟨(RX11, TX11, 34), tyX11, rfl, by decide, q1091, zin11, tyX11_ok, nmX11, rfl, rfl, by decide +kernel⟩
theorem PFX11_45 : zlPF RX11 45 11 21 (.array .int) := ⟨(RX11, TX11, 34), tyX11, rfl, by decide, q1092, zin11, tyX11_ok, nmX11, rfl, rfl, by decide +kernel⟩
theorem PFX11_48 : zlPF RX11 48 11 23 (.array .int) := ⟨(RX11, TX11, 34), tyX11, rfl, by decide, q1094, zin11, tyX11_ok, nmX11, rfl, rfl, by decide +kernel⟩
theorem PFX11_51 : zlPF RX11 51 11 25 (.array .int) := ⟨(RX11, TX11, 34), tyX11, rfl, by decide, q1096, zin11, tyX11_ok, nmX11, rfl, rfl, by decide +kernel⟩
theorem PFX11_54 : zlPF RX11 54 11 27 (.array .long) := ⟨(RX11, TX11, 34), tyX11, rfl, by decide, q1098, zin11, tyX11_ok, nmX11, rfl, rfl, by decide +kernel⟩
theorem PFX11_57 : zlPF RX11 57 11 28 (.array .int) := ⟨(RX11, TX11, 34), tyX11, rfl, by decide, q1099, zin11, tyX11_ok, nmX11, rfl, rfl, by decide +kernel⟩
theorem PFX11_60 : zlPF RX11 60 11 29 (.array .long) := ⟨(RX11, TX11, 34), tyX11, rfl, by decide, q1100, zin11, tyX11_ok, nmX11, rfl, rfl, by decide +kernel⟩
theorem PFX11_63 : zlPF RX11 63 11 31 (.array .int) := ⟨(RX11, TX11, 34), tyX11, rfl, by decide, q1102, zin11, tyX11_ok, nmX11, rfl, rfl, by decide +kernel⟩
theorem PFX11_66 : zlPF RX11 66 11 32 (.array .long) := ⟨(RX11, TX11, 34), tyX11, rfl, by decide, q1103, zin11, tyX11_ok, nmX11, rfl, rfl, by decide +kernel⟩
theorem PFX11_69 : zlPF RX11 69 11 33 (.array .boolean) := ⟨(RX11, TX11, 34), tyX11, rfl, by decide, q1104, zin11, tyX11_ok, nmX11, rfl, rfl, by decide +kernel⟩
abbrev rm_Mo_init : Room := { frames := 1, cells := 19, slots := 804, locals := 21 }
noncomputable def fB_Mo_init_163  (ih : (Int32 × (Nat → Int32)) → Option (Int32 × (Nat → Int32))) (s1 : Int32 × (Nat → Int32)) : Option (Int32 × (Nat → Int32)) := (if 13 ≤ (s1.1) then (some ((s1.1), (s1.2))) else (zlet (f_Mo_untold (s1.1)) (fun (z7 : Int32) => (if inb (s1.1) 13 = true then (ih (((s1.1) + 1), (upd (s1.2) (ix (s1.1)) z7))) else none))))
noncomputable def f_Mo_init (v0 : tMo) : Option ((Nat → Int32) × (Nat → Int64) × (Nat → Int32)) := (Option.bind (lp (fB_Mo_init_163) LF (0, (gMo_told v0))) (fun (q2 : Int32 × (Nat → Int32)) => (Option.bind (f_Mo_begin ((gMo_ints v0), (q2.2), (gMo_postX v0), (gMo_postStrong v0), (gMo_atRow v0), (gMo_heights v0), (gMo_ship v0), (gMo_lines v0), (gMo_text v0), (gMo_said v0), (gMo_readTold v0), (gMo_readX v0), (gMo_readStrong v0), (gMo_readRow v0), (gMo_parting v0), (gMo_wasShip v0), (gMo_wasLines v0), (gMo_worst v0), (gMo_logRow v0), (gMo_images v0), (gMo_isKept v0))) (fun (r9 : (Nat → Int64) × (Nat → Int32)) => (some ((q2.2), (r9.1), (r9.2)))))))
set_option maxHeartbeats 4000000 in
set_option maxRecDepth 100000 in
theorem t_Mo_init {x : zFx} (C : zC x cX11_init RX11 2 rm_Mo_init) (a0 : Nat → Nat) (o0 : Nat) (v0 : tMo) (out : (Nat → Int32) × (Nat → Int64) × (Nat → Int32)) (hf : f_Mo_init v0 = some out) (hret : ∀ (pc pc' : Nat) (lv : List (Nat × Value)), zd 1 cX11_init pc pc' .return_ → vV x 2 19 804 (W_Mo (z_g x) a0 o0 (gMo_ints v0) (out.1) (gMo_postX v0) (gMo_postStrong v0) (gMo_atRow v0) (gMo_heights v0) (out.2.1) (out.2.2) (gMo_text v0) (gMo_said v0) (gMo_readTold v0) (gMo_readX v0) (gMo_readStrong v0) (gMo_readRow v0) (gMo_parting v0) (gMo_wasShip v0) (gMo_wasLines v0) (gMo_worst v0) (gMo_logRow v0) (gMo_images v0) (gMo_isKept v0)) pc lv []) : vV x 2 19 804 (W_Mo (z_g x) a0 o0 (gMo_ints v0) (gMo_told v0) (gMo_postX v0) (gMo_postStrong v0) (gMo_atRow v0) (gMo_heights v0) (gMo_ship v0) (gMo_lines v0) (gMo_text v0) (gMo_said v0) (gMo_readTold v0) (gMo_readX v0) (gMo_readStrong v0) (gMo_readRow v0) (gMo_parting v0) (gMo_wasShip v0) (gMo_wasLines v0) (gMo_worst v0) (gMo_logRow v0) (gMo_images v0) (gMo_isKept v0)) 161 [(0, .ref (a0 o0))] [] := by
  rw [f_Mo_init] at hf
  refine r_iconst C (v := 0) eX11_init_161 (by decide) ?_
  refine r_istore_n C [(1, .int 0), (0, .ref (a0 o0))] eX11_init_162 rfl (by decide) rfl ?_
  obtain ⟨q2, h3, hf⟩ := zbind hf
  have J4 : vV x 2 19 804 (W_Mo (z_g x) a0 o0 (gMo_ints v0) (q2.2) (gMo_postX v0) (gMo_postStrong v0) (gMo_atRow v0) (gMo_heights v0) (gMo_ship v0) (gMo_lines v0) (gMo_text v0) (gMo_said v0) (gMo_readTold v0) (gMo_readX v0) (gMo_readStrong v0) (gMo_readRow v0) (gMo_parting v0) (gMo_wasShip v0) (gMo_wasLines v0) (gMo_worst v0) (gMo_logRow v0) (gMo_images v0) (gMo_isKept v0)) 185 [(0, .ref (a0 o0))] [] := by
    refine r_aload_n C eX11_init_185 0 rfl rfl ?_
    obtain ⟨r9, hr9, hf⟩ := zbind hf
    refine r_V_v (ws' := W_Mo (z_g x) a0 o0 (gMo_ints v0) (q2.2) (gMo_postX v0) (gMo_postStrong v0) (gMo_atRow v0) (gMo_heights v0) (r9.1) (r9.2) (gMo_text v0) (gMo_said v0) (gMo_readTold v0) (gMo_readX v0) (gMo_readStrong v0) (gMo_readRow v0) (gMo_parting v0) (gMo_wasShip v0) (gMo_wasLines v0) (gMo_worst v0) (gMo_logRow v0) (gMo_images v0) (gMo_isKept v0)) C (c_Mo_begin (z_l x) (z_g x) a0 o0 ((gMo_ints v0), (q2.2), (gMo_postX v0), (gMo_postStrong v0), (gMo_atRow v0), (gMo_heights v0), (gMo_ship v0), (gMo_lines v0), (gMo_text v0), (gMo_said v0), (gMo_readTold v0), (gMo_readX v0), (gMo_readStrong v0), (gMo_readRow v0), (gMo_parting v0), (gMo_wasShip v0), (gMo_wasLines v0), (gMo_worst v0), (gMo_logRow v0), (gMo_images v0), (gMo_isKept v0))  r9 hr9) eX11_init_186 MX11_77 ⟨0, 11, _, _, rfl, rfl, rfl⟩ [0, 1, 2, 3, 4, 5, 6, 7, 8, 9, 10, 11, 12, 13, 14, 15, 16, 17, 18, 19] rfl rfl rfl rfl [] rfl trivial 20 rfl rfl rfl rfl rfl rfl ?_
    obtain rfl := Option.some.inj (show some (((q2.2), (r9.1), (r9.2)) : (Nat → Int32) × (Nat → Int64) × (Nat → Int32)) = some _ from hf)
    exact hret _ _ _ eX11_init_189
  have L5 : ∀ (nL5 : Nat) (s1 : Int32 × (Nat → Int32)), lp (fB_Mo_init_163) nL5 s1 = some q2 → vV x 2 19 804 (W_Mo (z_g x) a0 o0 (gMo_ints v0) (s1.2) (gMo_postX v0) (gMo_postStrong v0) (gMo_atRow v0) (gMo_heights v0) (gMo_ship v0) (gMo_lines v0) (gMo_text v0) (gMo_said v0) (gMo_readTold v0) (gMo_readX v0) (gMo_readStrong v0) (gMo_readRow v0) (gMo_parting v0) (gMo_wasShip v0) (gMo_wasLines v0) (gMo_worst v0) (gMo_logRow v0) (gMo_images v0) (gMo_isKept v0)) 163 [(0, .ref (a0 o0)), (1, .int (s1.1))] [] := by
    intro nL5
    induction nL5 with
    | zero => intro s1 hq; cases hq
    | succ nL5 ihL5 =>
      intro s1 hbL5
      rw [lp_succ, fB_Mo_init_163] at hbL5
      refine r_iload_n C eX11_init_163 1 rfl rfl ?_
      refine r_bipush C (v := 13) eX11_init_164 (by decide) ?_
      refine r_icmp_ge C eX11_init_166 (fun c6 => ?_) (fun c6 => ?_)
      · rw [if_pos c6] at hbL5
        obtain rfl := Option.some.inj hbL5
        refine r_sub (lv' := [(0, .ref (a0 o0))]) [0] rfl ?_
        exact J4
      · rw [if_neg c6] at hbL5
        refine r_aload_n C eX11_init_169 0 rfl rfl ?_
        refine r_get (v := .ref (a0 (o0 + 1))) C eX11_init_170 FX11_7 0 rfl rfl ?_
        refine r_iload_n C eX11_init_173 1 rfl rfl ?_
        refine r_iload_n C eX11_init_174 1 rfl rfl ?_
        refine r_S_i (ws' := W_Mo (z_g x) a0 o0 (gMo_ints v0) (s1.2) (gMo_postX v0) (gMo_postStrong v0) (gMo_atRow v0) (gMo_heights v0) (gMo_ship v0) (gMo_lines v0) (gMo_text v0) (gMo_said v0) (gMo_readTold v0) (gMo_readX v0) (gMo_readStrong v0) (gMo_readRow v0) (gMo_parting v0) (gMo_wasShip v0) (gMo_wasLines v0) (gMo_worst v0) (gMo_logRow v0) (gMo_images v0) (gMo_isKept v0)) C (c_Mo_untold (z_l x) (z_g x)  (s1.1) _ rfl) eX11_init_175 MX11_73 [] rfl rfl rfl rfl [0, 1, 2, 3, 4, 5, 6, 7, 8, 9, 10, 11, 12, 13, 14, 15, 16, 17, 18, 19] rfl ⟨rfl, rfl, rfl, rfl, rfl, rfl, rfl, rfl, rfl, rfl, rfl, rfl, rfl, rfl, rfl, rfl, rfl, rfl, rfl, rfl, trivial⟩ 20 rfl rfl rfl rfl rfl rfl ?_
        obtain ⟨z7, hz7, hbL5⟩ := zlet_of hbL5
        refine r_nami hz7 ?_
        obtain ⟨hb8, hbL5⟩ := zchk hbL5
        refine r_iast (ws' := W_Mo (z_g x) a0 o0 (gMo_ints v0) (upd (s1.2) (ix (s1.1)) z7) (gMo_postX v0) (gMo_postStrong v0) (gMo_atRow v0) (gMo_heights v0) (gMo_ship v0) (gMo_lines v0) (gMo_text v0) (gMo_said v0) (gMo_readTold v0) (gMo_readX v0) (gMo_readStrong v0) (gMo_readRow v0) (gMo_parting v0) (gMo_wasShip v0) (gMo_wasLines v0) (gMo_worst v0) (gMo_logRow v0) (gMo_images v0) (gMo_isKept v0)) C eX11_init_178 1 rfl (inb_in hb8) rfl ?_
        refine r_iinc C (v := ((s1.1) + 1)) [(1, .int ((s1.1) + 1)), (0, .ref (a0 o0))] eX11_init_179 1 rfl rfl (by decide) rfl ?_
        refine r_goto C eX11_init_182 ?_
        refine r_sub (lv' := [(0, .ref (a0 o0)), (1, .int ((s1.1) + 1))]) [1, 0] rfl ?_
        have hc := ihL5 (((s1.1) + 1), (upd (s1.2) (ix (s1.1)) z7)) hbL5
        exact hc
  refine r_sub (lv' := [(0, .ref (a0 o0)), (1, .int 0)]) [1, 0] rfl ?_
  have hc := L5 LF (0, (gMo_told v0)) h3
  exact hc
abbrev d_Mo : tMo := ((upd (fun _ => 0) 12 (-1)), (fun _ => 0), (fun _ => 0), (fun _ => 0), (fun _ => 0), (fun _ => 0), (fun _ => 0), (fun _ => 0), (fun _ => 0), 0, (fun _ => 0), (fun _ => 0), (fun _ => 0), (fun _ => 0), (fun _ => 0), (fun _ => 0), (fun _ => 0), (fun _ => 0), (fun _ => 0), (fun _ => 0), (fun _ => 0))
