theorem eX11_quay_0 : zd 1 cX11_quay 0 1 (.aload_n 0) := ⟨by decide +kernel, rfl⟩
theorem eX11_quay_1 : zd 1 cX11_quay 1 2 (.iconst (-1)) := ⟨by decide +kernel, rfl⟩
theorem eX11_quay_2 : zd 3 cX11_quay 2 5 (.putfield 35) := ⟨by decide +kernel, rfl⟩
theorem eX11_quay_5 : zd 1 cX11_quay 5 6 (.aload_n 0) := ⟨by decide +kernel, rfl⟩
theorem eX11_quay_6 : zd 1 cX11_quay 6 7 (.iconst 0) := ⟨by decide +kernel, rfl⟩
theorem eX11_quay_7 : zd 3 cX11_quay 7 10 (.putfield 97) := ⟨by decide +kernel, rfl⟩
theorem eX11_quay_10 : zd 1 cX11_quay 10 11 (.aload_n 0) := ⟨by decide +kernel, rfl⟩
theorem eX11_quay_11 : zd 1 cX11_quay 11 12 (.iconst 0) := ⟨by decide +kernel, rfl⟩
theorem eX11_quay_12 : zd 3 cX11_quay 12 15 (.putfield 160) := ⟨by decide +kernel, rfl⟩
theorem eX11_quay_15 : zd 1 cX11_quay 15 16 (.aload_n 0) := ⟨by decide +kernel, rfl⟩
theorem eX11_quay_16 : zd 1 cX11_quay 16 17 (.iconst 0) := ⟨by decide +kernel, rfl⟩
theorem eX11_quay_17 : zd 3 cX11_quay 17 20 (.putfield 141) := ⟨by decide +kernel, rfl⟩
theorem eX11_quay_20 : zd 1 cX11_quay 20 21 (.iconst 0) := ⟨by decide +kernel, rfl⟩
theorem eX11_quay_21 : zd 1 cX11_quay 21 22 (.istore_n 1) := ⟨by decide +kernel, rfl⟩
theorem eX11_quay_22 : zd 1 cX11_quay 22 23 (.iload_n 1) := ⟨by decide +kernel, rfl⟩
theorem eX11_quay_23 : zd 2 cX11_quay 23 25 (.bipush 13) := ⟨by decide +kernel, rfl⟩
theorem eX11_quay_25 : zdi cX11_quay 25 28 44 (.if_icmp .ge) := ⟨19, by decide +kernel, rfl, by decide⟩
theorem eX11_quay_28 : zd 1 cX11_quay 28 29 (.aload_n 0) := ⟨by decide +kernel, rfl⟩
theorem eX11_quay_29 : zd 3 cX11_quay 29 32 (.getfield 39) := ⟨by decide +kernel, rfl⟩
theorem eX11_quay_32 : zd 1 cX11_quay 32 33 (.iload_n 1) := ⟨by decide +kernel, rfl⟩
theorem eX11_quay_33 : zd 1 cX11_quay 33 34 (.iload_n 1) := ⟨by decide +kernel, rfl⟩
theorem eX11_quay_34 : zd 3 cX11_quay 34 37 (.invokestatic 73) := ⟨by decide +kernel, rfl⟩
theorem eX11_quay_37 : zd 1 cX11_quay 37 38 (.iastore) := ⟨by decide +kernel, rfl⟩
theorem eX11_quay_38 : zd 3 cX11_quay 38 41 (.iinc 1 1) := ⟨by decide +kernel, rfl⟩
theorem eX11_quay_41 : zdi cX11_quay 41 44 22 (.goto) := ⟨(-19), by decide +kernel, rfl, by decide⟩
theorem eX11_quay_44 : zd 1 cX11_quay 44 45 (.iconst 0) := ⟨by decide +kernel, rfl⟩
theorem eX11_quay_45 : zd 1 cX11_quay 45 46 (.istore_n 1) := ⟨by decide +kernel, rfl⟩
theorem eX11_quay_46 : zd 1 cX11_quay 46 47 (.iload_n 1) := ⟨by decide +kernel, rfl⟩
theorem eX11_quay_47 : zdi cX11_quay 47 50 65 (.ifCond .ne) := ⟨18, by decide +kernel, rfl, by decide⟩
theorem eX11_quay_50 : zd 1 cX11_quay 50 51 (.aload_n 0) := ⟨by decide +kernel, rfl⟩
theorem eX11_quay_51 : zd 3 cX11_quay 51 54 (.invokevirtual 100) := ⟨by decide +kernel, rfl⟩
theorem eX11_quay_54 : zdi cX11_quay 54 57 65 (.ifCond .lt) := ⟨11, by decide +kernel, rfl, by decide⟩
theorem eX11_quay_57 : zd 1 cX11_quay 57 58 (.aload_n 0) := ⟨by decide +kernel, rfl⟩
theorem eX11_quay_58 : zd 3 cX11_quay 58 61 (.invokevirtual 173) := ⟨by decide +kernel, rfl⟩
theorem eX11_quay_61 : zd 1 cX11_quay 61 62 (.istore_n 1) := ⟨by decide +kernel, rfl⟩
theorem eX11_quay_62 : zdi cX11_quay 62 65 46 (.goto) := ⟨(-16), by decide +kernel, rfl, by decide⟩
theorem eX11_quay_65 : zd 1 cX11_quay 65 66 (.aload_n 0) := ⟨by decide +kernel, rfl⟩
theorem eX11_quay_66 : zd 1 cX11_quay 66 67 (.iconst 0) := ⟨by decide +kernel, rfl⟩
theorem eX11_quay_67 : zd 3 cX11_quay 67 70 (.putfield 91) := ⟨by decide +kernel, rfl⟩
theorem eX11_quay_70 : zd 1 cX11_quay 70 71 (.iload_n 1) := ⟨by decide +kernel, rfl⟩
theorem eX11_quay_71 : zdi cX11_quay 71 74 79 (.ifCond .le) := ⟨8, by decide +kernel, rfl, by decide⟩
theorem eX11_quay_74 : zd 2 cX11_quay 74 76 (.bipush (-10)) := ⟨by decide +kernel, rfl⟩
theorem eX11_quay_76 : zd 1 cX11_quay 76 77 (.iload_n 1) := ⟨by decide +kernel, rfl⟩
theorem eX11_quay_77 : zd 1 cX11_quay 77 78 (.isub) := ⟨by decide +kernel, rfl⟩
theorem eX11_quay_78 : zd 1 cX11_quay 78 79 (.ireturn) := ⟨by decide +kernel, rfl⟩
theorem eX11_quay_79 : zd 1 cX11_quay 79 80 (.iconst 0) := ⟨by decide +kernel, rfl⟩
theorem eX11_quay_80 : zd 1 cX11_quay 80 81 (.istore_n 2) := ⟨by decide +kernel, rfl⟩
theorem eX11_quay_81 : zd 1 cX11_quay 81 82 (.iload_n 2) := ⟨by decide +kernel, rfl⟩
theorem eX11_quay_82 : zd 2 cX11_quay 82 84 (.bipush 13) := ⟨by decide +kernel, rfl⟩
theorem eX11_quay_84 : zdi cX11_quay 84 87 105 (.if_icmp .ge) := ⟨21, by decide +kernel, rfl, by decide⟩
theorem eX11_quay_87 : zd 1 cX11_quay 87 88 (.aload_n 0) := ⟨by decide +kernel, rfl⟩
theorem eX11_quay_88 : zd 3 cX11_quay 88 91 (.getfield 7) := ⟨by decide +kernel, rfl⟩
theorem eX11_quay_91 : zd 1 cX11_quay 91 92 (.iload_n 2) := ⟨by decide +kernel, rfl⟩
theorem eX11_quay_92 : zd 1 cX11_quay 92 93 (.aload_n 0) := ⟨by decide +kernel, rfl⟩
theorem eX11_quay_93 : zd 3 cX11_quay 93 96 (.getfield 39) := ⟨by decide +kernel, rfl⟩
theorem eX11_quay_96 : zd 1 cX11_quay 96 97 (.iload_n 2) := ⟨by decide +kernel, rfl⟩
theorem eX11_quay_97 : zd 1 cX11_quay 97 98 (.iaload) := ⟨by decide +kernel, rfl⟩
theorem eX11_quay_98 : zd 1 cX11_quay 98 99 (.iastore) := ⟨by decide +kernel, rfl⟩
theorem eX11_quay_99 : zd 3 cX11_quay 99 102 (.iinc 2 1) := ⟨by decide +kernel, rfl⟩
theorem eX11_quay_102 : zdi cX11_quay 102 105 81 (.goto) := ⟨(-21), by decide +kernel, rfl, by decide⟩
theorem eX11_quay_105 : zd 1 cX11_quay 105 106 (.aload_n 0) := ⟨by decide +kernel, rfl⟩
theorem eX11_quay_106 : zd 1 cX11_quay 106 107 (.aload_n 0) := ⟨by decide +kernel, rfl⟩
theorem eX11_quay_107 : zd 3 cX11_quay 107 110 (.getfield 141) := ⟨by decide +kernel, rfl⟩
theorem eX11_quay_110 : zd 3 cX11_quay 110 113 (.putfield 176) := ⟨by decide +kernel, rfl⟩
theorem eX11_quay_113 : zd 1 cX11_quay 113 114 (.iconst 0) := ⟨by decide +kernel, rfl⟩
theorem eX11_quay_114 : zd 1 cX11_quay 114 115 (.istore_n 2) := ⟨by decide +kernel, rfl⟩
theorem eX11_quay_115 : zd 1 cX11_quay 115 116 (.iload_n 2) := ⟨by decide +kernel, rfl⟩
theorem eX11_quay_116 : zd 2 cX11_quay 116 118 (.bipush 12) := ⟨by decide +kernel, rfl⟩
theorem eX11_quay_118 : zdi cX11_quay 118 121 151 (.if_icmp .ge) := ⟨33, by decide +kernel, rfl, by decide⟩
theorem eX11_quay_121 : zd 1 cX11_quay 121 122 (.aload_n 0) := ⟨by decide +kernel, rfl⟩
theorem eX11_quay_122 : zd 3 cX11_quay 122 125 (.getfield 13) := ⟨by decide +kernel, rfl⟩
theorem eX11_quay_125 : zd 1 cX11_quay 125 126 (.iload_n 2) := ⟨by decide +kernel, rfl⟩
theorem eX11_quay_126 : zd 1 cX11_quay 126 127 (.aload_n 0) := ⟨by decide +kernel, rfl⟩
theorem eX11_quay_127 : zd 3 cX11_quay 127 130 (.getfield 42) := ⟨by decide +kernel, rfl⟩
theorem eX11_quay_130 : zd 1 cX11_quay 130 131 (.iload_n 2) := ⟨by decide +kernel, rfl⟩
theorem eX11_quay_131 : zd 1 cX11_quay 131 132 (.iaload) := ⟨by decide +kernel, rfl⟩
theorem eX11_quay_132 : zd 1 cX11_quay 132 133 (.iastore) := ⟨by decide +kernel, rfl⟩
theorem eX11_quay_133 : zd 1 cX11_quay 133 134 (.aload_n 0) := ⟨by decide +kernel, rfl⟩
theorem eX11_quay_134 : zd 3 cX11_quay 134 137 (.getfield 16) := ⟨by decide +kernel, rfl⟩
theorem eX11_quay_137 : zd 1 cX11_quay 137 138 (.iload_n 2) := ⟨by decide +kernel, rfl⟩
theorem eX11_quay_138 : zd 1 cX11_quay 138 139 (.aload_n 0) := ⟨by decide +kernel, rfl⟩
theorem eX11_quay_139 : zd 3 cX11_quay 139 142 (.getfield 45) := ⟨by decide +kernel, rfl⟩
theorem eX11_quay_142 : zd 1 cX11_quay 142 143 (.iload_n 2) := ⟨by decide +kernel, rfl⟩
theorem eX11_quay_143 : zd 1 cX11_quay 143 144 (.iaload) := ⟨by decide +kernel, rfl⟩
theorem eX11_quay_144 : zd 1 cX11_quay 144 145 (.iastore) := ⟨by decide +kernel, rfl⟩
theorem eX11_quay_145 : zd 3 cX11_quay 145 148 (.iinc 2 1) := ⟨by decide +kernel, rfl⟩
theorem eX11_quay_148 : zdi cX11_quay 148 151 115 (.goto) := ⟨(-33), by decide +kernel, rfl, by decide⟩
theorem eX11_quay_151 : zd 1 cX11_quay 151 152 (.aload_n 0) := ⟨by decide +kernel, rfl⟩
theorem eX11_quay_152 : zd 3 cX11_quay 152 155 (.invokevirtual 77) := ⟨by decide +kernel, rfl⟩
theorem eX11_quay_155 : zd 1 cX11_quay 155 156 (.aload_n 0) := ⟨by decide +kernel, rfl⟩
theorem eX11_quay_156 : zd 3 cX11_quay 156 159 (.getfield 69) := ⟨by decide +kernel, rfl⟩
theorem eX11_quay_159 : zd 1 cX11_quay 159 160 (.iconst 0) := ⟨by decide +kernel, rfl⟩
theorem eX11_quay_160 : zd 1 cX11_quay 160 161 (.iconst 0) := ⟨by decide +kernel, rfl⟩
theorem eX11_quay_161 : zd 1 cX11_quay 161 162 (.bastore) := ⟨by decide +kernel, rfl⟩
theorem eX11_quay_162 : zd 1 cX11_quay 162 163 (.aload_n 0) := ⟨by decide +kernel, rfl⟩
theorem eX11_quay_163 : zd 3 cX11_quay 163 166 (.getfield 69) := ⟨by decide +kernel, rfl⟩
theorem eX11_quay_166 : zd 1 cX11_quay 166 167 (.iconst 1) := ⟨by decide +kernel, rfl⟩
theorem eX11_quay_167 : zd 1 cX11_quay 167 168 (.iconst 0) := ⟨by decide +kernel, rfl⟩
theorem eX11_quay_168 : zd 1 cX11_quay 168 169 (.bastore) := ⟨by decide +kernel, rfl⟩
theorem eX11_quay_169 : zd 1 cX11_quay 169 170 (.aload_n 0) := ⟨by decide +kernel, rfl⟩
theorem eX11_quay_170 : zd 3 cX11_quay 170 173 (.getfield 176) := ⟨by decide +kernel, rfl⟩
theorem eX11_quay_173 : zd 1 cX11_quay 173 174 (.ireturn) := ⟨by decide +kernel, rfl⟩
theorem PX11_176 : zlP RX11 176 11 1 .int := ⟨(RX11, TX11, 34), tyX11, rfl, by decide, q1072, zin11, tyX11_ok, nmX11, rfl, by decide +kernel⟩
theorem MX11_73 : zlS RX11 73 yX11_untold cX11_untold 1 ((Option.some FieldType.int)) 1 := ⟨q1062, q1063, q12, q1064, by decide, by decide, by decide +kernel⟩
theorem MX11_77 : zlV RX11 77 yX11_begin cX11_begin 2 (none) 0 := ⟨q1065, q1067, qs25, q12, q1068, by decide, by decide, by decide +kernel⟩
theorem MX11_173 : zlV RX11 173 yX11_takeClause cX11_takeClause 3 ((Option.some FieldType.int)) 0 := ⟨q1194, q1196, qs27, q12, q1197, by decide, by decide, by decide +kernel⟩
noncomputable def fB_Mo_quay_22  (ih : (Int32 × (Nat → Int32)) → Option (Int32 × (Nat → Int32))) (s1 : Int32 × (Nat → Int32)) : Option (Int32 × (Nat → Int32)) := (if 13 ≤ (s1.1) then (some ((s1.1), (s1.2))) else (zlet (f_Mo_untold (s1.1)) (fun (z7 : Int32) => (if inb (s1.1) 13 = true then (ih (((s1.1) + 1), (upd (s1.2) (ix (s1.1)) z7))) else none))))
noncomputable def fB_Mo_quay_46 (v0 : tMo) (ih : (Int32 × (Nat → Int32) × Int64 × (Nat → Int32) × (Nat → Int32) × (Nat → Int32)) → Option (Int32 × (Nat → Int32) × Int64 × (Nat → Int32) × (Nat → Int32) × (Nat → Int32))) (s9 : Int32 × (Nat → Int32) × Int64 × (Nat → Int32) × (Nat → Int32) × (Nat → Int32)) : Option (Int32 × (Nat → Int32) × Int64 × (Nat → Int32) × (Nat → Int32) × (Nat → Int32)) := (if (s9.1) = 0 then (Option.bind (f_Mo_here ((s9.2.1), (gMo_told v0), (gMo_postX v0), (gMo_postStrong v0), (gMo_atRow v0), (gMo_heights v0), (gMo_ship v0), (gMo_lines v0), (gMo_text v0), (s9.2.2.1), (s9.2.2.2.1), (s9.2.2.2.2.1), (s9.2.2.2.2.2), (gMo_readRow v0), (gMo_parting v0), (gMo_wasShip v0), (gMo_wasLines v0), (gMo_worst v0), (gMo_logRow v0), (gMo_images v0), (gMo_isKept v0))) (fun (r15 : Int32 × (Nat → Int32)) => (if (r15.1) < 0 then (some ((s9.1), (r15.2), (s9.2.2.1), (s9.2.2.2.1), (s9.2.2.2.2.1), (s9.2.2.2.2.2))) else (Option.bind (f_Mo_takeClause ((r15.2), (gMo_told v0), (gMo_postX v0), (gMo_postStrong v0), (gMo_atRow v0), (gMo_heights v0), (gMo_ship v0), (gMo_lines v0), (gMo_text v0), (s9.2.2.1), (s9.2.2.2.1), (s9.2.2.2.2.1), (s9.2.2.2.2.2), (gMo_readRow v0), (gMo_parting v0), (gMo_wasShip v0), (gMo_wasLines v0), (gMo_worst v0), (gMo_logRow v0), (gMo_images v0), (gMo_isKept v0))) (fun (r17 : Int32 × (Nat → Int32) × Int64 × (Nat → Int32) × (Nat → Int32) × (Nat → Int32)) => (ih ((r17.1), (r17.2.1), (r17.2.2.1), (r17.2.2.2.1), (r17.2.2.2.2.1), (r17.2.2.2.2.2)))))))) else (some ((s9.1), (s9.2.1), (s9.2.2.1), (s9.2.2.2.1), (s9.2.2.2.2.1), (s9.2.2.2.2.2))))
noncomputable def fB_Mo_quay_81 (q10 : Int32 × (Nat → Int32) × Int64 × (Nat → Int32) × (Nat → Int32) × (Nat → Int32)) (ih : (Int32 × (Nat → Int32)) → Option (Int32 × (Nat → Int32))) (s19 : Int32 × (Nat → Int32)) : Option (Int32 × (Nat → Int32)) := (if 13 ≤ (s19.1) then (some ((s19.1), (s19.2))) else (if inb (s19.1) 13 = true then (if inb (s19.1) 13 = true then (ih (((s19.1) + 1), (upd (s19.2) (ix (s19.1)) ((q10.2.2.2.1) (ix (s19.1)))))) else none) else none))
noncomputable def fB_Mo_quay_115 (q10 : Int32 × (Nat → Int32) × Int64 × (Nat → Int32) × (Nat → Int32) × (Nat → Int32)) (ih : (Int32 × (Nat → Int32) × (Nat → Int32)) → Option (Int32 × (Nat → Int32) × (Nat → Int32))) (s27 : Int32 × (Nat → Int32) × (Nat → Int32)) : Option (Int32 × (Nat → Int32) × (Nat → Int32)) := (if 12 ≤ (s27.1) then (some ((s27.1), (s27.2.1), (s27.2.2))) else (if inb (s27.1) 12 = true then (if inb (s27.1) 12 = true then (if inb (s27.1) 12 = true then (if inb (s27.1) 12 = true then (ih (((s27.1) + 1), (upd (s27.2.1) (ix (s27.1)) ((q10.2.2.2.2.1) (ix (s27.1)))), (upd (s27.2.2) (ix (s27.1)) ((q10.2.2.2.2.2) (ix (s27.1)))))) else none) else none) else none) else none))
noncomputable def f_Mo_quay (v0 : tMo)  : Option (Int32 × (Nat → Int32) × (Nat → Int32) × (Nat → Int32) × (Nat → Int32) × (Nat → Int64) × (Nat → Int32) × Int64 × (Nat → Int32) × (Nat → Int32) × (Nat → Int32) × (Nat → Int32)) := (Option.bind (lp (fB_Mo_quay_22) LF (0, (gMo_readTold v0))) (fun (q2 : Int32 × (Nat → Int32)) => (Option.bind (lp (fB_Mo_quay_46 v0) LF (0, (upd (upd (upd (upd (gMo_ints v0) 12 (-1)) 13 0) 22 0) 19 0), (gMo_said v0), (q2.2), (gMo_readX v0), (gMo_readStrong v0))) (fun (q10 : Int32 × (Nat → Int32) × Int64 × (Nat → Int32) × (Nat → Int32) × (Nat → Int32)) => (if (q10.1) ≤ 0 then (Option.bind (lp (fB_Mo_quay_81 q10) LF (0, (gMo_told v0))) (fun (q20 : Int32 × (Nat → Int32)) => (Option.bind (lp (fB_Mo_quay_115 q10) LF (0, (gMo_postX v0), (gMo_postStrong v0))) (fun (q28 : Int32 × (Nat → Int32) × (Nat → Int32)) => (Option.bind (f_Mo_begin ((upd (upd (q10.2.1) 11 0) 1 ((q10.2.1) 19)), (q20.2), (q28.2.1), (q28.2.2), (gMo_atRow v0), (gMo_heights v0), (gMo_ship v0), (gMo_lines v0), (gMo_text v0), (q10.2.2.1), (q10.2.2.2.1), (q10.2.2.2.2.1), (q10.2.2.2.2.2), (gMo_readRow v0), (gMo_parting v0), (gMo_wasShip v0), (gMo_wasLines v0), (gMo_worst v0), (gMo_logRow v0), (gMo_images v0), (gMo_isKept v0))) (fun (r37 : (Nat → Int64) × (Nat → Int32)) => (some (((q10.2.1) 19), (upd (upd (q10.2.1) 11 0) 1 ((q10.2.1) 19)), (q20.2), (q28.2.1), (q28.2.2), (r37.1), (r37.2), (q10.2.2.1), (q10.2.2.2.1), (q10.2.2.2.2.1), (q10.2.2.2.2.2), (upd (upd (gMo_isKept v0) 0 (vp_nar .boolean 0)) 1 (vp_nar .boolean 0)))))))))) else (some (((-10) - (q10.1)), (upd (q10.2.1) 11 0), (gMo_told v0), (gMo_postX v0), (gMo_postStrong v0), (gMo_ship v0), (gMo_lines v0), (q10.2.2.1), (q10.2.2.2.1), (q10.2.2.2.2.1), (q10.2.2.2.2.2), (gMo_isKept v0))))))))
abbrev rm_Mo_quay : Room := { frames := 4, cells := 0, slots := 0, locals := 94 }
set_option maxHeartbeats 4000000 in
set_option maxRecDepth 100000 in
theorem c_Mo_quay (l : Launch) (g : zGl) (a0 : Nat → Nat) (o0 : Nat) (v0 : tMo)  (out : Int32 × (Nat → Int32) × (Nat → Int32) × (Nat → Int32) × (Nat → Int32) × (Nat → Int64) × (Nat → Int32) × Int64 × (Nat → Int32) × (Nat → Int32) × (Nat → Int32) × (Nat → Int32)) (hf : f_Mo_quay v0 = some out) : zMi l yX11_quay cX11_quay 3 rm_Mo_quay g [.ref (a0 o0)] (W_Mo g a0 o0 (gMo_ints v0) (gMo_told v0) (gMo_postX v0) (gMo_postStrong v0) (gMo_atRow v0) (gMo_heights v0) (gMo_ship v0) (gMo_lines v0) (gMo_text v0) (gMo_said v0) (gMo_readTold v0) (gMo_readX v0) (gMo_readStrong v0) (gMo_readRow v0) (gMo_parting v0) (gMo_wasShip v0) (gMo_wasLines v0) (gMo_worst v0) (gMo_logRow v0) (gMo_images v0) (gMo_isKept v0)) (out.1) (W_Mo g a0 o0 (out.2.1) (out.2.2.1) (out.2.2.2.1) (out.2.2.2.2.1) (gMo_atRow v0) (gMo_heights v0) (out.2.2.2.2.2.1) (out.2.2.2.2.2.2.1) (gMo_text v0) (out.2.2.2.2.2.2.2.1) (out.2.2.2.2.2.2.2.2.1) (out.2.2.2.2.2.2.2.2.2.1) (out.2.2.2.2.2.2.2.2.2.2.1) (gMo_readRow v0) (gMo_parting v0) (gMo_wasShip v0) (gMo_wasLines v0) (gMo_worst v0) (gMo_logRow v0) (gMo_images v0) (out.2.2.2.2.2.2.2.2.2.2.2)) := by
  refine zMi_of (lv := [(0, .ref (a0 o0))]) (by decide) (Nat.le_of_ble_eq_true rfl) rfl (fun x hl hg C hret => ?_)
  subst hl; subst hg
  rw [f_Mo_quay] at hf
  refine r_aload_n C eX11_quay_0 0 rfl rfl ?_
  refine r_iconst C (v := (-1)) eX11_quay_1 (by decide) ?_
  refine r_put (ws' := W_Mo (z_g x) a0 o0 (upd (gMo_ints v0) 12 (-1)) (gMo_told v0) (gMo_postX v0) (gMo_postStrong v0) (gMo_atRow v0) (gMo_heights v0) (gMo_ship v0) (gMo_lines v0) (gMo_text v0) (gMo_said v0) (gMo_readTold v0) (gMo_readX v0) (gMo_readStrong v0) (gMo_readRow v0) (gMo_parting v0) (gMo_wasShip v0) (gMo_wasLines v0) (gMo_worst v0) (gMo_logRow v0) (gMo_images v0) (gMo_isKept v0)) C eX11_quay_2 PX11_35 0 rfl rfl rfl (Nat.le_of_ble_eq_true rfl) rfl ?_
  refine r_aload_n C eX11_quay_5 0 rfl rfl ?_
  refine r_iconst C (v := 0) eX11_quay_6 (by decide) ?_
  refine r_put (ws' := W_Mo (z_g x) a0 o0 (upd (upd (gMo_ints v0) 12 (-1)) 13 0) (gMo_told v0) (gMo_postX v0) (gMo_postStrong v0) (gMo_atRow v0) (gMo_heights v0) (gMo_ship v0) (gMo_lines v0) (gMo_text v0) (gMo_said v0) (gMo_readTold v0) (gMo_readX v0) (gMo_readStrong v0) (gMo_readRow v0) (gMo_parting v0) (gMo_wasShip v0) (gMo_wasLines v0) (gMo_worst v0) (gMo_logRow v0) (gMo_images v0) (gMo_isKept v0)) C eX11_quay_7 PX11_97 0 rfl rfl rfl (Nat.le_of_ble_eq_true rfl) rfl ?_
  refine r_aload_n C eX11_quay_10 0 rfl rfl ?_
  refine r_iconst C (v := 0) eX11_quay_11 (by decide) ?_
  refine r_put (ws' := W_Mo (z_g x) a0 o0 (upd (upd (upd (gMo_ints v0) 12 (-1)) 13 0) 22 0) (gMo_told v0) (gMo_postX v0) (gMo_postStrong v0) (gMo_atRow v0) (gMo_heights v0) (gMo_ship v0) (gMo_lines v0) (gMo_text v0) (gMo_said v0) (gMo_readTold v0) (gMo_readX v0) (gMo_readStrong v0) (gMo_readRow v0) (gMo_parting v0) (gMo_wasShip v0) (gMo_wasLines v0) (gMo_worst v0) (gMo_logRow v0) (gMo_images v0) (gMo_isKept v0)) C eX11_quay_12 PX11_160 0 rfl rfl rfl (Nat.le_of_ble_eq_true rfl) rfl ?_
  refine r_aload_n C eX11_quay_15 0 rfl rfl ?_
  refine r_iconst C (v := 0) eX11_quay_16 (by decide) ?_
  refine r_put (ws' := W_Mo (z_g x) a0 o0 (upd (upd (upd (upd (gMo_ints v0) 12 (-1)) 13 0) 22 0) 19 0) (gMo_told v0) (gMo_postX v0) (gMo_postStrong v0) (gMo_atRow v0) (gMo_heights v0) (gMo_ship v0) (gMo_lines v0) (gMo_text v0) (gMo_said v0) (gMo_readTold v0) (gMo_readX v0) (gMo_readStrong v0) (gMo_readRow v0) (gMo_parting v0) (gMo_wasShip v0) (gMo_wasLines v0) (gMo_worst v0) (gMo_logRow v0) (gMo_images v0) (gMo_isKept v0)) C eX11_quay_17 PX11_141 0 rfl rfl rfl (Nat.le_of_ble_eq_true rfl) rfl ?_
  refine r_iconst C (v := 0) eX11_quay_20 (by decide) ?_
  refine r_istore_n C [(1, .int 0), (0, .ref (a0 o0))] eX11_quay_21 rfl (by decide) rfl ?_
  obtain ⟨q2, h3, hf⟩ := zbind hf
  have J4 : vV x 3 0 0 (W_Mo (z_g x) a0 o0 (upd (upd (upd (upd (gMo_ints v0) 12 (-1)) 13 0) 22 0) 19 0) (gMo_told v0) (gMo_postX v0) (gMo_postStrong v0) (gMo_atRow v0) (gMo_heights v0) (gMo_ship v0) (gMo_lines v0) (gMo_text v0) (gMo_said v0) (q2.2) (gMo_readX v0) (gMo_readStrong v0) (gMo_readRow v0) (gMo_parting v0) (gMo_wasShip v0) (gMo_wasLines v0) (gMo_worst v0) (gMo_logRow v0) (gMo_images v0) (gMo_isKept v0)) 44 [(0, .ref (a0 o0))] [] := by
    refine r_iconst C (v := 0) eX11_quay_44 (by decide) ?_
    refine r_istore_n C [(1, .int 0), (0, .ref (a0 o0))] eX11_quay_45 rfl (by decide) rfl ?_
    obtain ⟨q10, h11, hf⟩ := zbind hf
    have J12 : vV x 3 0 0 (W_Mo (z_g x) a0 o0 (q10.2.1) (gMo_told v0) (gMo_postX v0) (gMo_postStrong v0) (gMo_atRow v0) (gMo_heights v0) (gMo_ship v0) (gMo_lines v0) (gMo_text v0) (q10.2.2.1) (q10.2.2.2.1) (q10.2.2.2.2.1) (q10.2.2.2.2.2) (gMo_readRow v0) (gMo_parting v0) (gMo_wasShip v0) (gMo_wasLines v0) (gMo_worst v0) (gMo_logRow v0) (gMo_images v0) (gMo_isKept v0)) 65 [(0, .ref (a0 o0)), (1, .int (q10.1))] [] := by
      refine r_aload_n C eX11_quay_65 0 rfl rfl ?_
      refine r_iconst C (v := 0) eX11_quay_66 (by decide) ?_
      refine r_put (ws' := W_Mo (z_g x) a0 o0 (upd (q10.2.1) 11 0) (gMo_told v0) (gMo_postX v0) (gMo_postStrong v0) (gMo_atRow v0) (gMo_heights v0) (gMo_ship v0) (gMo_lines v0) (gMo_text v0) (q10.2.2.1) (q10.2.2.2.1) (q10.2.2.2.2.1) (q10.2.2.2.2.2) (gMo_readRow v0) (gMo_parting v0) (gMo_wasShip v0) (gMo_wasLines v0) (gMo_worst v0) (gMo_logRow v0) (gMo_images v0) (gMo_isKept v0)) C eX11_quay_67 PX11_91 0 rfl rfl rfl (Nat.le_of_ble_eq_true rfl) rfl ?_
      refine r_iload_n C eX11_quay_70 1 rfl rfl ?_
      refine r_if_le C eX11_quay_71 (fun c18 => ?_) (fun c18 => ?_)
      · rw [if_pos c18] at hf
        refine r_iconst C (v := 0) eX11_quay_79 (by decide) ?_
        refine r_istore_n C [(2, .int 0), (0, .ref (a0 o0)), (1, .int (q10.1))] eX11_quay_80 rfl (by decide) rfl ?_
        obtain ⟨q20, h21, hf⟩ := zbind hf
        have J22 : vV x 3 0 0 (W_Mo (z_g x) a0 o0 (upd (q10.2.1) 11 0) (q20.2) (gMo_postX v0) (gMo_postStrong v0) (gMo_atRow v0) (gMo_heights v0) (gMo_ship v0) (gMo_lines v0) (gMo_text v0) (q10.2.2.1) (q10.2.2.2.1) (q10.2.2.2.2.1) (q10.2.2.2.2.2) (gMo_readRow v0) (gMo_parting v0) (gMo_wasShip v0) (gMo_wasLines v0) (gMo_worst v0) (gMo_logRow v0) (gMo_images v0) (gMo_isKept v0)) 105 [(0, .ref (a0 o0))] [] := by
          refine r_aload_n C eX11_quay_105 0 rfl rfl ?_
          refine r_aload_n C eX11_quay_106 0 rfl rfl ?_
          refine r_get (v := .int ((q10.2.1) 19)) C eX11_quay_107 FX11_141 0 rfl rfl ?_
          refine r_put (ws' := W_Mo (z_g x) a0 o0 (upd (upd (q10.2.1) 11 0) 1 ((q10.2.1) 19)) (q20.2) (gMo_postX v0) (gMo_postStrong v0) (gMo_atRow v0) (gMo_heights v0) (gMo_ship v0) (gMo_lines v0) (gMo_text v0) (q10.2.2.1) (q10.2.2.2.1) (q10.2.2.2.2.1) (q10.2.2.2.2.2) (gMo_readRow v0) (gMo_parting v0) (gMo_wasShip v0) (gMo_wasLines v0) (gMo_worst v0) (gMo_logRow v0) (gMo_images v0) (gMo_isKept v0)) C eX11_quay_110 PX11_176 0 rfl rfl rfl (Nat.le_of_ble_eq_true rfl) rfl ?_
          refine r_iconst C (v := 0) eX11_quay_113 (by decide) ?_
          refine r_istore_n C [(2, .int 0), (0, .ref (a0 o0))] eX11_quay_114 rfl (by decide) rfl ?_
          obtain ⟨q28, h29, hf⟩ := zbind hf
          have J30 : vV x 3 0 0 (W_Mo (z_g x) a0 o0 (upd (upd (q10.2.1) 11 0) 1 ((q10.2.1) 19)) (q20.2) (q28.2.1) (q28.2.2) (gMo_atRow v0) (gMo_heights v0) (gMo_ship v0) (gMo_lines v0) (gMo_text v0) (q10.2.2.1) (q10.2.2.2.1) (q10.2.2.2.2.1) (q10.2.2.2.2.2) (gMo_readRow v0) (gMo_parting v0) (gMo_wasShip v0) (gMo_wasLines v0) (gMo_worst v0) (gMo_logRow v0) (gMo_images v0) (gMo_isKept v0)) 151 [(0, .ref (a0 o0))] [] := by
            refine r_aload_n C eX11_quay_151 0 rfl rfl ?_
            obtain ⟨r37, hr37, hf⟩ := zbind hf
            refine r_V_v (ws' := W_Mo (z_g x) a0 o0 (upd (upd (q10.2.1) 11 0) 1 ((q10.2.1) 19)) (q20.2) (q28.2.1) (q28.2.2) (gMo_atRow v0) (gMo_heights v0) (r37.1) (r37.2) (gMo_text v0) (q10.2.2.1) (q10.2.2.2.1) (q10.2.2.2.2.1) (q10.2.2.2.2.2) (gMo_readRow v0) (gMo_parting v0) (gMo_wasShip v0) (gMo_wasLines v0) (gMo_worst v0) (gMo_logRow v0) (gMo_images v0) (gMo_isKept v0)) C (c_Mo_begin (z_l x) (z_g x) a0 o0 ((upd (upd (q10.2.1) 11 0) 1 ((q10.2.1) 19)), (q20.2), (q28.2.1), (q28.2.2), (gMo_atRow v0), (gMo_heights v0), (gMo_ship v0), (gMo_lines v0), (gMo_text v0), (q10.2.2.1), (q10.2.2.2.1), (q10.2.2.2.2.1), (q10.2.2.2.2.2), (gMo_readRow v0), (gMo_parting v0), (gMo_wasShip v0), (gMo_wasLines v0), (gMo_worst v0), (gMo_logRow v0), (gMo_images v0), (gMo_isKept v0))  r37 hr37) eX11_quay_152 MX11_77 ⟨0, 11, _, _, rfl, rfl, rfl⟩ [0, 1, 2, 3, 4, 5, 6, 7, 8, 9, 10, 11, 12, 13, 14, 15, 16, 17, 18, 19] rfl rfl rfl rfl [] rfl trivial 20 rfl rfl rfl rfl rfl rfl ?_
            refine r_aload_n C eX11_quay_155 0 rfl rfl ?_
            refine r_get (v := .ref (a0 (o0 + 19))) C eX11_quay_156 FX11_69 0 rfl rfl ?_
            refine r_iconst C (v := 0) eX11_quay_159 (by decide) ?_
            refine r_iconst C (v := 0) eX11_quay_160 (by decide) ?_
            refine r_zastN (ws' := W_Mo (z_g x) a0 o0 (upd (upd (q10.2.1) 11 0) 1 ((q10.2.1) 19)) (q20.2) (q28.2.1) (q28.2.2) (gMo_atRow v0) (gMo_heights v0) (r37.1) (r37.2) (gMo_text v0) (q10.2.2.1) (q10.2.2.2.1) (q10.2.2.2.2.1) (q10.2.2.2.2.2) (gMo_readRow v0) (gMo_parting v0) (gMo_wasShip v0) (gMo_wasLines v0) (gMo_worst v0) (gMo_logRow v0) (gMo_images v0) (upd (gMo_isKept v0) 0 (vp_nar .boolean 0))) C eX11_quay_161 19 0 (by decide) rfl rfl ?_
            refine r_aload_n C eX11_quay_162 0 rfl rfl ?_
            refine r_get (v := .ref (a0 (o0 + 19))) C eX11_quay_163 FX11_69 0 rfl rfl ?_
            refine r_iconst C (v := 1) eX11_quay_166 (by decide) ?_
            refine r_iconst C (v := 0) eX11_quay_167 (by decide) ?_
            refine r_zastN (ws' := W_Mo (z_g x) a0 o0 (upd (upd (q10.2.1) 11 0) 1 ((q10.2.1) 19)) (q20.2) (q28.2.1) (q28.2.2) (gMo_atRow v0) (gMo_heights v0) (r37.1) (r37.2) (gMo_text v0) (q10.2.2.1) (q10.2.2.2.1) (q10.2.2.2.2.1) (q10.2.2.2.2.2) (gMo_readRow v0) (gMo_parting v0) (gMo_wasShip v0) (gMo_wasLines v0) (gMo_worst v0) (gMo_logRow v0) (gMo_images v0) (upd (upd (gMo_isKept v0) 0 (vp_nar .boolean 0)) 1 (vp_nar .boolean 0))) C eX11_quay_168 19 1 (by decide) rfl rfl ?_
            refine r_aload_n C eX11_quay_169 0 rfl rfl ?_
            refine r_get (v := .int ((q10.2.1) 19)) C eX11_quay_170 FX11_176 0 rfl rfl ?_
            obtain rfl := Option.some.inj (show some ((((q10.2.1) 19), (upd (upd (q10.2.1) 11 0) 1 ((q10.2.1) 19)), (q20.2), (q28.2.1), (q28.2.2), (r37.1), (r37.2), (q10.2.2.1), (q10.2.2.2.1), (q10.2.2.2.2.1), (q10.2.2.2.2.2), (upd (upd (gMo_isKept v0) 0 (vp_nar .boolean 0)) 1 (vp_nar .boolean 0))) : Int32 × (Nat → Int32) × (Nat → Int32) × (Nat → Int32) × (Nat → Int32) × (Nat → Int64) × (Nat → Int32) × Int64 × (Nat → Int32) × (Nat → Int32) × (Nat → Int32) × (Nat → Int32)) = some _ from hf)
            exact hret _ _ _ eX11_quay_173
          have L31 : ∀ (nL31 : Nat) (s27 : Int32 × (Nat → Int32) × (Nat → Int32)), lp (fB_Mo_quay_115 q10) nL31 s27 = some q28 → vV x 3 0 0 (W_Mo (z_g x) a0 o0 (upd (upd (q10.2.1) 11 0) 1 ((q10.2.1) 19)) (q20.2) (s27.2.1) (s27.2.2) (gMo_atRow v0) (gMo_heights v0) (gMo_ship v0) (gMo_lines v0) (gMo_text v0) (q10.2.2.1) (q10.2.2.2.1) (q10.2.2.2.2.1) (q10.2.2.2.2.2) (gMo_readRow v0) (gMo_parting v0) (gMo_wasShip v0) (gMo_wasLines v0) (gMo_worst v0) (gMo_logRow v0) (gMo_images v0) (gMo_isKept v0)) 115 [(0, .ref (a0 o0)), (2, .int (s27.1))] [] := by
            intro nL31
            induction nL31 with
            | zero => intro s27 hq; cases hq
            | succ nL31 ihL31 =>
              intro s27 hbL31
              rw [lp_succ, fB_Mo_quay_115] at hbL31
              refine r_iload_n C eX11_quay_115 1 rfl rfl ?_
              refine r_bipush C (v := 12) eX11_quay_116 (by decide) ?_
              refine r_icmp_ge C eX11_quay_118 (fun c32 => ?_) (fun c32 => ?_)
              · rw [if_pos c32] at hbL31
                obtain rfl := Option.some.inj hbL31
                refine r_sub (lv' := [(0, .ref (a0 o0))]) [0] rfl ?_
                exact J30
              · rw [if_neg c32] at hbL31
                refine r_aload_n C eX11_quay_121 0 rfl rfl ?_
                refine r_get (v := .ref (a0 (o0 + 2))) C eX11_quay_122 FX11_13 0 rfl rfl ?_
                refine r_iload_n C eX11_quay_125 1 rfl rfl ?_
                refine r_aload_n C eX11_quay_126 0 rfl rfl ?_
                refine r_get (v := .ref (a0 (o0 + 10))) C eX11_quay_127 FX11_42 0 rfl rfl ?_
                refine r_iload_n C eX11_quay_130 1 rfl rfl ?_
                obtain ⟨hb33, hbL31⟩ := zchk hbL31
                refine r_iald C eX11_quay_131 10 rfl (inb_in hb33) ((q10.2.2.2.2.1) (ix (s27.1))) rfl ?_
                obtain ⟨hb34, hbL31⟩ := zchk hbL31
                refine r_iast (ws' := W_Mo (z_g x) a0 o0 (upd (upd (q10.2.1) 11 0) 1 ((q10.2.1) 19)) (q20.2) (upd (s27.2.1) (ix (s27.1)) ((q10.2.2.2.2.1) (ix (s27.1)))) (s27.2.2) (gMo_atRow v0) (gMo_heights v0) (gMo_ship v0) (gMo_lines v0) (gMo_text v0) (q10.2.2.1) (q10.2.2.2.1) (q10.2.2.2.2.1) (q10.2.2.2.2.2) (gMo_readRow v0) (gMo_parting v0) (gMo_wasShip v0) (gMo_wasLines v0) (gMo_worst v0) (gMo_logRow v0) (gMo_images v0) (gMo_isKept v0)) C eX11_quay_132 2 rfl (inb_in hb34) rfl ?_
                refine r_aload_n C eX11_quay_133 0 rfl rfl ?_
                refine r_get (v := .ref (a0 (o0 + 3))) C eX11_quay_134 FX11_16 0 rfl rfl ?_
                refine r_iload_n C eX11_quay_137 1 rfl rfl ?_
                refine r_aload_n C eX11_quay_138 0 rfl rfl ?_
                refine r_get (v := .ref (a0 (o0 + 11))) C eX11_quay_139 FX11_45 0 rfl rfl ?_
                refine r_iload_n C eX11_quay_142 1 rfl rfl ?_
                obtain ⟨hb35, hbL31⟩ := zchk hbL31
                refine r_iald C eX11_quay_143 11 rfl (inb_in hb35) ((q10.2.2.2.2.2) (ix (s27.1))) rfl ?_
                obtain ⟨hb36, hbL31⟩ := zchk hbL31
                refine r_iast (ws' := W_Mo (z_g x) a0 o0 (upd (upd (q10.2.1) 11 0) 1 ((q10.2.1) 19)) (q20.2) (upd (s27.2.1) (ix (s27.1)) ((q10.2.2.2.2.1) (ix (s27.1)))) (upd (s27.2.2) (ix (s27.1)) ((q10.2.2.2.2.2) (ix (s27.1)))) (gMo_atRow v0) (gMo_heights v0) (gMo_ship v0) (gMo_lines v0) (gMo_text v0) (q10.2.2.1) (q10.2.2.2.1) (q10.2.2.2.2.1) (q10.2.2.2.2.2) (gMo_readRow v0) (gMo_parting v0) (gMo_wasShip v0) (gMo_wasLines v0) (gMo_worst v0) (gMo_logRow v0) (gMo_images v0) (gMo_isKept v0)) C eX11_quay_144 3 rfl (inb_in hb36) rfl ?_
                refine r_iinc C (v := ((s27.1) + 1)) [(2, .int ((s27.1) + 1)), (0, .ref (a0 o0))] eX11_quay_145 1 rfl rfl (by decide) rfl ?_
                refine r_goto C eX11_quay_148 ?_
                refine r_sub (lv' := [(0, .ref (a0 o0)), (2, .int ((s27.1) + 1))]) [1, 0] rfl ?_
                have hc := ihL31 (((s27.1) + 1), (upd (s27.2.1) (ix (s27.1)) ((q10.2.2.2.2.1) (ix (s27.1)))), (upd (s27.2.2) (ix (s27.1)) ((q10.2.2.2.2.2) (ix (s27.1))))) hbL31
                exact hc
          refine r_sub (lv' := [(0, .ref (a0 o0)), (2, .int 0)]) [1, 0] rfl ?_
          have hc := L31 LF (0, (gMo_postX v0), (gMo_postStrong v0)) h29
          exact hc
        have L23 : ∀ (nL23 : Nat) (s19 : Int32 × (Nat → Int32)), lp (fB_Mo_quay_81 q10) nL23 s19 = some q20 → vV x 3 0 0 (W_Mo (z_g x) a0 o0 (upd (q10.2.1) 11 0) (s19.2) (gMo_postX v0) (gMo_postStrong v0) (gMo_atRow v0) (gMo_heights v0) (gMo_ship v0) (gMo_lines v0) (gMo_text v0) (q10.2.2.1) (q10.2.2.2.1) (q10.2.2.2.2.1) (q10.2.2.2.2.2) (gMo_readRow v0) (gMo_parting v0) (gMo_wasShip v0) (gMo_wasLines v0) (gMo_worst v0) (gMo_logRow v0) (gMo_images v0) (gMo_isKept v0)) 81 [(0, .ref (a0 o0)), (2, .int (s19.1))] [] := by
          intro nL23
          induction nL23 with
          | zero => intro s19 hq; cases hq
          | succ nL23 ihL23 =>
            intro s19 hbL23
            rw [lp_succ, fB_Mo_quay_81] at hbL23
            refine r_iload_n C eX11_quay_81 1 rfl rfl ?_
            refine r_bipush C (v := 13) eX11_quay_82 (by decide) ?_
            refine r_icmp_ge C eX11_quay_84 (fun c24 => ?_) (fun c24 => ?_)
            · rw [if_pos c24] at hbL23
              obtain rfl := Option.some.inj hbL23
              refine r_sub (lv' := [(0, .ref (a0 o0))]) [0] rfl ?_
              exact J22
            · rw [if_neg c24] at hbL23
              refine r_aload_n C eX11_quay_87 0 rfl rfl ?_
              refine r_get (v := .ref (a0 (o0 + 1))) C eX11_quay_88 FX11_7 0 rfl rfl ?_
              refine r_iload_n C eX11_quay_91 1 rfl rfl ?_
              refine r_aload_n C eX11_quay_92 0 rfl rfl ?_
              refine r_get (v := .ref (a0 (o0 + 9))) C eX11_quay_93 FX11_39 0 rfl rfl ?_
              refine r_iload_n C eX11_quay_96 1 rfl rfl ?_
              obtain ⟨hb25, hbL23⟩ := zchk hbL23
              refine r_iald C eX11_quay_97 9 rfl (inb_in hb25) ((q10.2.2.2.1) (ix (s19.1))) rfl ?_
              obtain ⟨hb26, hbL23⟩ := zchk hbL23
              refine r_iast (ws' := W_Mo (z_g x) a0 o0 (upd (q10.2.1) 11 0) (upd (s19.2) (ix (s19.1)) ((q10.2.2.2.1) (ix (s19.1)))) (gMo_postX v0) (gMo_postStrong v0) (gMo_atRow v0) (gMo_heights v0) (gMo_ship v0) (gMo_lines v0) (gMo_text v0) (q10.2.2.1) (q10.2.2.2.1) (q10.2.2.2.2.1) (q10.2.2.2.2.2) (gMo_readRow v0) (gMo_parting v0) (gMo_wasShip v0) (gMo_wasLines v0) (gMo_worst v0) (gMo_logRow v0) (gMo_images v0) (gMo_isKept v0)) C eX11_quay_98 1 rfl (inb_in hb26) rfl ?_
              refine r_iinc C (v := ((s19.1) + 1)) [(2, .int ((s19.1) + 1)), (0, .ref (a0 o0))] eX11_quay_99 1 rfl rfl (by decide) rfl ?_
              refine r_goto C eX11_quay_102 ?_
              refine r_sub (lv' := [(0, .ref (a0 o0)), (2, .int ((s19.1) + 1))]) [1, 0] rfl ?_
              have hc := ihL23 (((s19.1) + 1), (upd (s19.2) (ix (s19.1)) ((q10.2.2.2.1) (ix (s19.1))))) hbL23
              exact hc
        refine r_sub (lv' := [(0, .ref (a0 o0)), (2, .int 0)]) [1, 0] rfl ?_
        have hc := L23 LF (0, (gMo_told v0)) h21
        exact hc
      · rw [if_neg c18] at hf
        refine r_bipush C (v := (-10)) eX11_quay_74 (by decide) ?_
        refine r_iload_n C eX11_quay_76 1 rfl rfl ?_
        refine r_isub C eX11_quay_77 ?_
        obtain rfl := Option.some.inj (show some ((((-10) - (q10.1)), (upd (q10.2.1) 11 0), (gMo_told v0), (gMo_postX v0), (gMo_postStrong v0), (gMo_ship v0), (gMo_lines v0), (q10.2.2.1), (q10.2.2.2.1), (q10.2.2.2.2.1), (q10.2.2.2.2.2), (gMo_isKept v0)) : Int32 × (Nat → Int32) × (Nat → Int32) × (Nat → Int32) × (Nat → Int32) × (Nat → Int64) × (Nat → Int32) × Int64 × (Nat → Int32) × (Nat → Int32) × (Nat → Int32) × (Nat → Int32)) = some _ from hf)
        exact hret _ _ _ eX11_quay_78
    have L13 : ∀ (nL13 : Nat) (s9 : Int32 × (Nat → Int32) × Int64 × (Nat → Int32) × (Nat → Int32) × (Nat → Int32)), lp (fB_Mo_quay_46 v0) nL13 s9 = some q10 → vV x 3 0 0 (W_Mo (z_g x) a0 o0 (s9.2.1) (gMo_told v0) (gMo_postX v0) (gMo_postStrong v0) (gMo_atRow v0) (gMo_heights v0) (gMo_ship v0) (gMo_lines v0) (gMo_text v0) (s9.2.2.1) (s9.2.2.2.1) (s9.2.2.2.2.1) (s9.2.2.2.2.2) (gMo_readRow v0) (gMo_parting v0) (gMo_wasShip v0) (gMo_wasLines v0) (gMo_worst v0) (gMo_logRow v0) (gMo_images v0) (gMo_isKept v0)) 46 [(0, .ref (a0 o0)), (1, .int (s9.1))] [] := by
      intro nL13
      induction nL13 with
      | zero => intro s9 hq; cases hq
      | succ nL13 ihL13 =>
        intro s9 hbL13
        rw [lp_succ, fB_Mo_quay_46] at hbL13
        refine r_iload_n C eX11_quay_46 1 rfl rfl ?_
        refine r_if_ne C eX11_quay_47 (fun c14 => ?_) (fun c14 => ?_)
        · rw [if_neg c14] at hbL13
          obtain rfl := Option.some.inj hbL13
          exact J12
        · rw [if_pos c14] at hbL13
          refine r_aload_n C eX11_quay_50 0 rfl rfl ?_
          obtain ⟨r15, hr15, hbL13⟩ := zbind hbL13
          refine r_V_i (ws' := W_Mo (z_g x) a0 o0 (r15.2) (gMo_told v0) (gMo_postX v0) (gMo_postStrong v0) (gMo_atRow v0) (gMo_heights v0) (gMo_ship v0) (gMo_lines v0) (gMo_text v0) (s9.2.2.1) (s9.2.2.2.1) (s9.2.2.2.2.1) (s9.2.2.2.2.2) (gMo_readRow v0) (gMo_parting v0) (gMo_wasShip v0) (gMo_wasLines v0) (gMo_worst v0) (gMo_logRow v0) (gMo_images v0) (gMo_isKept v0)) C (c_Mo_here (z_l x) (z_g x) a0 o0 ((s9.2.1), (gMo_told v0), (gMo_postX v0), (gMo_postStrong v0), (gMo_atRow v0), (gMo_heights v0), (gMo_ship v0), (gMo_lines v0), (gMo_text v0), (s9.2.2.1), (s9.2.2.2.1), (s9.2.2.2.2.1), (s9.2.2.2.2.2), (gMo_readRow v0), (gMo_parting v0), (gMo_wasShip v0), (gMo_wasLines v0), (gMo_worst v0), (gMo_logRow v0), (gMo_images v0), (gMo_isKept v0))  r15 hr15) eX11_quay_51 MX11_100 ⟨0, 11, _, _, rfl, rfl, rfl⟩ [0, 1, 2, 3, 4, 5, 6, 7, 8, 9, 10, 11, 12, 13, 14, 15, 16, 17, 18, 19] rfl rfl rfl rfl [] rfl trivial 20 rfl rfl rfl rfl rfl rfl ?_
          refine r_if_lt C eX11_quay_54 (fun c16 => ?_) (fun c16 => ?_)
          · rw [if_pos c16] at hbL13
            obtain rfl := Option.some.inj hbL13
            exact J12
          · rw [if_neg c16] at hbL13
            refine r_aload_n C eX11_quay_57 0 rfl rfl ?_
            obtain ⟨r17, hr17, hbL13⟩ := zbind hbL13
            refine r_V_i (ws' := W_Mo (z_g x) a0 o0 (r17.2.1) (gMo_told v0) (gMo_postX v0) (gMo_postStrong v0) (gMo_atRow v0) (gMo_heights v0) (gMo_ship v0) (gMo_lines v0) (gMo_text v0) (r17.2.2.1) (r17.2.2.2.1) (r17.2.2.2.2.1) (r17.2.2.2.2.2) (gMo_readRow v0) (gMo_parting v0) (gMo_wasShip v0) (gMo_wasLines v0) (gMo_worst v0) (gMo_logRow v0) (gMo_images v0) (gMo_isKept v0)) C (c_Mo_takeClause (z_l x) (z_g x) a0 o0 ((r15.2), (gMo_told v0), (gMo_postX v0), (gMo_postStrong v0), (gMo_atRow v0), (gMo_heights v0), (gMo_ship v0), (gMo_lines v0), (gMo_text v0), (s9.2.2.1), (s9.2.2.2.1), (s9.2.2.2.2.1), (s9.2.2.2.2.2), (gMo_readRow v0), (gMo_parting v0), (gMo_wasShip v0), (gMo_wasLines v0), (gMo_worst v0), (gMo_logRow v0), (gMo_images v0), (gMo_isKept v0))  r17 hr17) eX11_quay_58 MX11_173 ⟨0, 11, _, _, rfl, rfl, rfl⟩ [0, 1, 2, 3, 4, 5, 6, 7, 8, 9, 10, 11, 12, 13, 14, 15, 16, 17, 18, 19] rfl rfl rfl rfl [] rfl trivial 20 rfl rfl rfl rfl rfl rfl ?_
            refine r_istore_n C [(1, .int (r17.1)), (0, .ref (a0 o0))] eX11_quay_61 rfl (by decide) rfl ?_
            refine r_goto C eX11_quay_62 ?_
            refine r_sub (lv' := [(0, .ref (a0 o0)), (1, .int (r17.1))]) [1, 0] rfl ?_
            have hc := ihL13 ((r17.1), (r17.2.1), (r17.2.2.1), (r17.2.2.2.1), (r17.2.2.2.2.1), (r17.2.2.2.2.2)) hbL13
            exact hc
    refine r_sub (lv' := [(0, .ref (a0 o0)), (1, .int 0)]) [1, 0] rfl ?_
    have hc := L13 LF (0, (upd (upd (upd (upd (gMo_ints v0) 12 (-1)) 13 0) 22 0) 19 0), (gMo_said v0), (q2.2), (gMo_readX v0), (gMo_readStrong v0)) h11
    exact hc
  have L5 : ∀ (nL5 : Nat) (s1 : Int32 × (Nat → Int32)), lp (fB_Mo_quay_22) nL5 s1 = some q2 → vV x 3 0 0 (W_Mo (z_g x) a0 o0 (upd (upd (upd (upd (gMo_ints v0) 12 (-1)) 13 0) 22 0) 19 0) (gMo_told v0) (gMo_postX v0) (gMo_postStrong v0) (gMo_atRow v0) (gMo_heights v0) (gMo_ship v0) (gMo_lines v0) (gMo_text v0) (gMo_said v0) (s1.2) (gMo_readX v0) (gMo_readStrong v0) (gMo_readRow v0) (gMo_parting v0) (gMo_wasShip v0) (gMo_wasLines v0) (gMo_worst v0) (gMo_logRow v0) (gMo_images v0) (gMo_isKept v0)) 22 [(0, .ref (a0 o0)), (1, .int (s1.1))] [] := by
    intro nL5
    induction nL5 with
    | zero => intro s1 hq; cases hq
    | succ nL5 ihL5 =>
      intro s1 hbL5
      rw [lp_succ, fB_Mo_quay_22] at hbL5
      refine r_iload_n C eX11_quay_22 1 rfl rfl ?_
      refine r_bipush C (v := 13) eX11_quay_23 (by decide) ?_
      refine r_icmp_ge C eX11_quay_25 (fun c6 => ?_) (fun c6 => ?_)
      · rw [if_pos c6] at hbL5
        obtain rfl := Option.some.inj hbL5
        refine r_sub (lv' := [(0, .ref (a0 o0))]) [0] rfl ?_
        exact J4
      · rw [if_neg c6] at hbL5
        refine r_aload_n C eX11_quay_28 0 rfl rfl ?_
        refine r_get (v := .ref (a0 (o0 + 9))) C eX11_quay_29 FX11_39 0 rfl rfl ?_
        refine r_iload_n C eX11_quay_32 1 rfl rfl ?_
        refine r_iload_n C eX11_quay_33 1 rfl rfl ?_
        refine r_S_i (ws' := W_Mo (z_g x) a0 o0 (upd (upd (upd (upd (gMo_ints v0) 12 (-1)) 13 0) 22 0) 19 0) (gMo_told v0) (gMo_postX v0) (gMo_postStrong v0) (gMo_atRow v0) (gMo_heights v0) (gMo_ship v0) (gMo_lines v0) (gMo_text v0) (gMo_said v0) (s1.2) (gMo_readX v0) (gMo_readStrong v0) (gMo_readRow v0) (gMo_parting v0) (gMo_wasShip v0) (gMo_wasLines v0) (gMo_worst v0) (gMo_logRow v0) (gMo_images v0) (gMo_isKept v0)) C (c_Mo_untold (z_l x) (z_g x)  (s1.1) _ rfl) eX11_quay_34 MX11_73 [] rfl rfl rfl rfl [0, 1, 2, 3, 4, 5, 6, 7, 8, 9, 10, 11, 12, 13, 14, 15, 16, 17, 18, 19] rfl ⟨rfl, rfl, rfl, rfl, rfl, rfl, rfl, rfl, rfl, rfl, rfl, rfl, rfl, rfl, rfl, rfl, rfl, rfl, rfl, rfl, trivial⟩ 20 rfl rfl rfl rfl rfl rfl ?_
        obtain ⟨z7, hz7, hbL5⟩ := zlet_of hbL5
        refine r_nami hz7 ?_
        obtain ⟨hb8, hbL5⟩ := zchk hbL5
        refine r_iast (ws' := W_Mo (z_g x) a0 o0 (upd (upd (upd (upd (gMo_ints v0) 12 (-1)) 13 0) 22 0) 19 0) (gMo_told v0) (gMo_postX v0) (gMo_postStrong v0) (gMo_atRow v0) (gMo_heights v0) (gMo_ship v0) (gMo_lines v0) (gMo_text v0) (gMo_said v0) (upd (s1.2) (ix (s1.1)) z7) (gMo_readX v0) (gMo_readStrong v0) (gMo_readRow v0) (gMo_parting v0) (gMo_wasShip v0) (gMo_wasLines v0) (gMo_worst v0) (gMo_logRow v0) (gMo_images v0) (gMo_isKept v0)) C eX11_quay_37 9 rfl (inb_in hb8) rfl ?_
        refine r_iinc C (v := ((s1.1) + 1)) [(1, .int ((s1.1) + 1)), (0, .ref (a0 o0))] eX11_quay_38 1 rfl rfl (by decide) rfl ?_
        refine r_goto C eX11_quay_41 ?_
        refine r_sub (lv' := [(0, .ref (a0 o0)), (1, .int ((s1.1) + 1))]) [1, 0] rfl ?_
        have hc := ihL5 (((s1.1) + 1), (upd (s1.2) (ix (s1.1)) z7)) hbL5
        exact hc
  refine r_sub (lv' := [(0, .ref (a0 o0)), (1, .int 0)]) [1, 0] rfl ?_
  have hc := L5 LF (0, (gMo_readTold v0)) h3
  exact hc
theorem eX11_seed_0 : zd 1 cX11_seed 0 1 (.iload_n 1) := ⟨by decide +kernel, rfl⟩
theorem eX11_seed_1 : zdi cX11_seed 1 4 7 (.ifCond .ge) := ⟨6, by decide +kernel, rfl, by decide⟩
theorem eX11_seed_4 : zd 2 cX11_seed 4 6 (.ldc 90) := ⟨by decide +kernel, rfl⟩
theorem eX11_seed_6 : zd 1 cX11_seed 6 7 (.ireturn) := ⟨by decide +kernel, rfl⟩
theorem eX11_seed_7 : zd 1 cX11_seed 7 8 (.aload_n 0) := ⟨by decide +kernel, rfl⟩
theorem eX11_seed_8 : zd 3 cX11_seed 8 11 (.getfield 331) := ⟨by decide +kernel, rfl⟩
theorem eX11_seed_11 : zd 1 cX11_seed 11 12 (.istore_n 2) := ⟨by decide +kernel, rfl⟩
theorem eX11_seed_12 : zd 1 cX11_seed 12 13 (.aload_n 0) := ⟨by decide +kernel, rfl⟩
theorem eX11_seed_13 : zd 1 cX11_seed 13 14 (.iload_n 1) := ⟨by decide +kernel, rfl⟩
theorem eX11_seed_14 : zd 3 cX11_seed 14 17 (.putfield 331) := ⟨by decide +kernel, rfl⟩
theorem eX11_seed_17 : zd 1 cX11_seed 17 18 (.iload_n 2) := ⟨by decide +kernel, rfl⟩
theorem eX11_seed_18 : zd 1 cX11_seed 18 19 (.ireturn) := ⟨by decide +kernel, rfl⟩
noncomputable def f_Mo_seed (v0 : tMo) (p1 : Int32) : Int32 × (Nat → Int32) := (if 0 ≤ p1 then (((gMo_ints v0) 26), (upd (gMo_ints v0) 26 p1)) else ((-1000000002), (gMo_ints v0)))
abbrev rm_Mo_seed : Room := { frames := 0, cells := 0, slots := 0, locals := 0 }
set_option maxHeartbeats 4000000 in
set_option maxRecDepth 100000 in
theorem c_Mo_seed (l : Launch) (g : zGl) (a0 : Nat → Nat) (o0 : Nat) (v0 : tMo) (p1 : Int32) (out : Int32 × (Nat → Int32)) (hf : f_Mo_seed v0 p1 = out) : zMi l yX11_seed cX11_seed 3 rm_Mo_seed g [.ref (a0 o0), .int p1] (W_Mo g a0 o0 (gMo_ints v0) (gMo_told v0) (gMo_postX v0) (gMo_postStrong v0) (gMo_atRow v0) (gMo_heights v0) (gMo_ship v0) (gMo_lines v0) (gMo_text v0) (gMo_said v0) (gMo_readTold v0) (gMo_readX v0) (gMo_readStrong v0) (gMo_readRow v0) (gMo_parting v0) (gMo_wasShip v0) (gMo_wasLines v0) (gMo_worst v0) (gMo_logRow v0) (gMo_images v0) (gMo_isKept v0)) (out.1) (W_Mo g a0 o0 (out.2) (gMo_told v0) (gMo_postX v0) (gMo_postStrong v0) (gMo_atRow v0) (gMo_heights v0) (gMo_ship v0) (gMo_lines v0) (gMo_text v0) (gMo_said v0) (gMo_readTold v0) (gMo_readX v0) (gMo_readStrong v0) (gMo_readRow v0) (gMo_parting v0) (gMo_wasShip v0) (gMo_wasLines v0) (gMo_worst v0) (gMo_logRow v0) (gMo_images v0) (gMo_isKept v0)) := by
  refine zMi_of (lv := [(0, .ref (a0 o0)), (1, .int p1)]) (by decide) (Nat.le_of_ble_eq_true rfl) rfl (fun x hl hg C hret => ?_)
  subst hl; subst hg
  rw [f_Mo_seed] at hf
  refine r_iload_n C eX11_seed_0 1 rfl rfl ?_
  refine r_if_ge C eX11_seed_1 (fun c1 => ?_) (fun c1 => ?_)
  · rw [if_pos c1] at hf
    refine r_aload_n C eX11_seed_7 0 rfl rfl ?_
    refine r_get (v := .int ((gMo_ints v0) 26)) C eX11_seed_8 FX11_331 0 rfl rfl ?_
    refine r_istore_n C [(2, .int ((gMo_ints v0) 26)), (0, .ref (a0 o0)), (1, .int p1)] eX11_seed_11 rfl (by decide) rfl ?_
    refine r_aload_n C eX11_seed_12 1 rfl rfl ?_
    refine r_iload_n C eX11_seed_13 2 rfl rfl ?_
    refine r_put (ws' := W_Mo (z_g x) a0 o0 (upd (gMo_ints v0) 26 p1) (gMo_told v0) (gMo_postX v0) (gMo_postStrong v0) (gMo_atRow v0) (gMo_heights v0) (gMo_ship v0) (gMo_lines v0) (gMo_text v0) (gMo_said v0) (gMo_readTold v0) (gMo_readX v0) (gMo_readStrong v0) (gMo_readRow v0) (gMo_parting v0) (gMo_wasShip v0) (gMo_wasLines v0) (gMo_worst v0) (gMo_logRow v0) (gMo_images v0) (gMo_isKept v0)) C eX11_seed_14 PX11_331 0 rfl rfl rfl (Nat.le_of_ble_eq_true rfl) rfl ?_
    refine r_iload_n C eX11_seed_17 0 rfl rfl ?_
    subst hf
    exact hret _ _ _ eX11_seed_18
  · rw [if_neg c1] at hf
    refine r_ldc C (v := (-1000000002)) eX11_seed_4 q1183 ?_
    subst hf
    exact hret _ _ _ eX11_seed_6
theorem eX11_takeHour_0 : zd 1 cX11_takeHour 0 1 (.aload_n 0) := ⟨by decide +kernel, rfl⟩
theorem eX11_takeHour_1 : zd 3 cX11_takeHour 1 4 (.invokevirtual 154) := ⟨by decide +kernel, rfl⟩
theorem eX11_takeHour_4 : zd 1 cX11_takeHour 4 5 (.aload_n 0) := ⟨by decide +kernel, rfl⟩
theorem eX11_takeHour_5 : zd 3 cX11_takeHour 5 8 (.getfield 104) := ⟨by decide +kernel, rfl⟩
theorem eX11_takeHour_8 : zd 2 cX11_takeHour 8 10 (.bipush 104) := ⟨by decide +kernel, rfl⟩
theorem eX11_takeHour_10 : zd 2 cX11_takeHour 10 12 (.bipush 111) := ⟨by decide +kernel, rfl⟩
theorem eX11_takeHour_12 : zd 2 cX11_takeHour 12 14 (.bipush 117) := ⟨by decide +kernel, rfl⟩
theorem eX11_takeHour_14 : zd 2 cX11_takeHour 14 16 (.bipush 114) := ⟨by decide +kernel, rfl⟩
theorem eX11_takeHour_16 : zd 3 cX11_takeHour 16 19 (.invokestatic 146) := ⟨by decide +kernel, rfl⟩
theorem eX11_takeHour_19 : zd 1 cX11_takeHour 19 20 (.lcmp) := ⟨by decide +kernel, rfl⟩
theorem eX11_takeHour_20 : zdi cX11_takeHour 20 23 33 (.ifCond .eq) := ⟨13, by decide +kernel, rfl, by decide⟩
theorem eX11_takeHour_23 : zd 1 cX11_takeHour 23 24 (.aload_n 0) := ⟨by decide +kernel, rfl⟩
theorem eX11_takeHour_24 : zd 1 cX11_takeHour 24 25 (.iconst 1) := ⟨by decide +kernel, rfl⟩
theorem eX11_takeHour_25 : zd 1 cX11_takeHour 25 26 (.aload_n 0) := ⟨by decide +kernel, rfl⟩
theorem eX11_takeHour_26 : zd 3 cX11_takeHour 26 29 (.getfield 97) := ⟨by decide +kernel, rfl⟩
theorem eX11_takeHour_29 : zd 3 cX11_takeHour 29 32 (.invokevirtual 127) := ⟨by decide +kernel, rfl⟩
theorem eX11_takeHour_32 : zd 1 cX11_takeHour 32 33 (.ireturn) := ⟨by decide +kernel, rfl⟩
theorem eX11_takeHour_33 : zd 1 cX11_takeHour 33 34 (.aload_n 0) := ⟨by decide +kernel, rfl⟩
theorem eX11_takeHour_34 : zd 3 cX11_takeHour 34 37 (.getfield 181) := ⟨by decide +kernel, rfl⟩
theorem eX11_takeHour_37 : zd 2 cX11_takeHour 37 39 (.bipush 24) := ⟨by decide +kernel, rfl⟩
theorem eX11_takeHour_39 : zdi cX11_takeHour 39 42 52 (.if_icmp .ne) := ⟨13, by decide +kernel, rfl, by decide⟩
theorem eX11_takeHour_42 : zd 1 cX11_takeHour 42 43 (.aload_n 0) := ⟨by decide +kernel, rfl⟩
theorem eX11_takeHour_43 : zd 1 cX11_takeHour 43 44 (.iconst 3) := ⟨by decide +kernel, rfl⟩
theorem eX11_takeHour_44 : zd 1 cX11_takeHour 44 45 (.aload_n 0) := ⟨by decide +kernel, rfl⟩
theorem eX11_takeHour_45 : zd 3 cX11_takeHour 45 48 (.getfield 97) := ⟨by decide +kernel, rfl⟩
theorem eX11_takeHour_48 : zd 3 cX11_takeHour 48 51 (.invokevirtual 127) := ⟨by decide +kernel, rfl⟩
theorem eX11_takeHour_51 : zd 1 cX11_takeHour 51 52 (.ireturn) := ⟨by decide +kernel, rfl⟩
theorem eX11_takeHour_52 : zd 1 cX11_takeHour 52 53 (.aload_n 0) := ⟨by decide +kernel, rfl⟩
theorem eX11_takeHour_53 : zd 1 cX11_takeHour 53 54 (.aload_n 0) := ⟨by decide +kernel, rfl⟩
theorem eX11_takeHour_54 : zd 3 cX11_takeHour 54 57 (.getfield 108) := ⟨by decide +kernel, rfl⟩
theorem eX11_takeHour_57 : zd 3 cX11_takeHour 57 60 (.putfield 97) := ⟨by decide +kernel, rfl⟩
theorem eX11_takeHour_60 : zd 1 cX11_takeHour 60 61 (.aload_n 0) := ⟨by decide +kernel, rfl⟩
theorem eX11_takeHour_61 : zd 1 cX11_takeHour 61 62 (.iconst 0) := ⟨by decide +kernel, rfl⟩
theorem eX11_takeHour_62 : zd 3 cX11_takeHour 62 65 (.sipush 999) := ⟨by decide +kernel, rfl⟩
theorem eX11_takeHour_65 : zd 3 cX11_takeHour 65 68 (.invokevirtual 138) := ⟨by decide +kernel, rfl⟩
theorem eX11_takeHour_68 : zd 1 cX11_takeHour 68 69 (.istore_n 1) := ⟨by decide +kernel, rfl⟩
theorem eX11_takeHour_69 : zd 1 cX11_takeHour 69 70 (.aload_n 0) := ⟨by decide +kernel, rfl⟩
theorem eX11_takeHour_70 : zd 3 cX11_takeHour 70 73 (.getfield 48) := ⟨by decide +kernel, rfl⟩
theorem eX11_takeHour_73 : zd 1 cX11_takeHour 73 74 (.aload_n 0) := ⟨by decide +kernel, rfl⟩
theorem eX11_takeHour_74 : zd 3 cX11_takeHour 74 77 (.getfield 181) := ⟨by decide +kernel, rfl⟩
theorem eX11_takeHour_77 : zd 1 cX11_takeHour 77 78 (.aload_n 0) := ⟨by decide +kernel, rfl⟩
theorem eX11_takeHour_78 : zd 3 cX11_takeHour 78 81 (.getfield 134) := ⟨by decide +kernel, rfl⟩
theorem eX11_takeHour_81 : zd 1 cX11_takeHour 81 82 (.iastore) := ⟨by decide +kernel, rfl⟩
theorem eX11_takeHour_82 : zd 1 cX11_takeHour 82 83 (.aload_n 0) := ⟨by decide +kernel, rfl⟩
theorem eX11_takeHour_83 : zd 1 cX11_takeHour 83 84 (.dup) := ⟨by decide +kernel, rfl⟩
theorem eX11_takeHour_84 : zd 3 cX11_takeHour 84 87 (.getfield 181) := ⟨by decide +kernel, rfl⟩
theorem eX11_takeHour_87 : zd 1 cX11_takeHour 87 88 (.iconst 1) := ⟨by decide +kernel, rfl⟩
theorem eX11_takeHour_88 : zd 1 cX11_takeHour 88 89 (.iadd) := ⟨by decide +kernel, rfl⟩
theorem eX11_takeHour_89 : zd 3 cX11_takeHour 89 92 (.putfield 181) := ⟨by decide +kernel, rfl⟩
theorem eX11_takeHour_92 : zd 1 cX11_takeHour 92 93 (.iload_n 1) := ⟨by decide +kernel, rfl⟩
theorem eX11_takeHour_93 : zdi cX11_takeHour 93 96 100 (.ifCond .le) := ⟨7, by decide +kernel, rfl, by decide⟩
theorem eX11_takeHour_96 : zd 1 cX11_takeHour 96 97 (.iload_n 1) := ⟨by decide +kernel, rfl⟩
theorem eX11_takeHour_97 : zdi cX11_takeHour 97 100 104 (.goto) := ⟨7, by decide +kernel, rfl, by decide⟩
theorem eX11_takeHour_100 : zd 1 cX11_takeHour 100 101 (.aload_n 0) := ⟨by decide +kernel, rfl⟩
theorem eX11_takeHour_101 : zd 3 cX11_takeHour 101 104 (.invokevirtual 170) := ⟨by decide +kernel, rfl⟩
theorem eX11_takeHour_104 : zd 1 cX11_takeHour 104 105 (.ireturn) := ⟨by decide +kernel, rfl⟩
noncomputable def f_Mo_takeHour (v0 : tMo)  : Option (Int32 × (Nat → Int32) × Int64 × (Nat → Int32)) := (Option.bind (f_Mo_readWord v0) (fun (r1 : (Nat → Int32) × Int64) => (if (r1.2) = (f_Mo_code 104 111 117 114) then (if ((r1.1) 24) = 24 then (zlet (f_Mo_fails ((r1.1), (gMo_told v0), (gMo_postX v0), (gMo_postStrong v0), (gMo_atRow v0), (gMo_heights v0), (gMo_ship v0), (gMo_lines v0), (gMo_text v0), (r1.2), (gMo_readTold v0), (gMo_readX v0), (gMo_readStrong v0), (gMo_readRow v0), (gMo_parting v0), (gMo_wasShip v0), (gMo_wasLines v0), (gMo_worst v0), (gMo_logRow v0), (gMo_images v0), (gMo_isKept v0)) 3 ((r1.1) 13)) (fun (r4 : Int32 × (Nat → Int32)) => (some ((r4.1), (r4.2), (r1.2), (gMo_readRow v0))))) else (Option.bind (f_Mo_takeNumber ((upd (r1.1) 13 ((r1.1) 15)), (gMo_told v0), (gMo_postX v0), (gMo_postStrong v0), (gMo_atRow v0), (gMo_heights v0), (gMo_ship v0), (gMo_lines v0), (gMo_text v0), (r1.2), (gMo_readTold v0), (gMo_readX v0), (gMo_readStrong v0), (gMo_readRow v0), (gMo_parting v0), (gMo_wasShip v0), (gMo_wasLines v0), (gMo_worst v0), (gMo_logRow v0), (gMo_images v0), (gMo_isKept v0)) 0 999) (fun (r5 : Int32 × (Nat → Int32)) => (if inb ((r5.2) 24) 60 = true then (zlet (((r5.2) 24) + 1) (fun (z7 : Int32) => (if (r5.1) ≤ 0 then (Option.bind (f_Mo_takeStop ((upd (r5.2) 24 z7), (gMo_told v0), (gMo_postX v0), (gMo_postStrong v0), (gMo_atRow v0), (gMo_heights v0), (gMo_ship v0), (gMo_lines v0), (gMo_text v0), (r1.2), (gMo_readTold v0), (gMo_readX v0), (gMo_readStrong v0), (upd (gMo_readRow v0) (ix ((r5.2) 24)) ((r5.2) 16)), (gMo_parting v0), (gMo_wasShip v0), (gMo_wasLines v0), (gMo_worst v0), (gMo_logRow v0), (gMo_images v0), (gMo_isKept v0))) (fun (r9 : Int32 × (Nat → Int32)) => (some ((r9.1), (r9.2), (r1.2), (upd (gMo_readRow v0) (ix ((r5.2) 24)) ((r5.2) 16)))))) else (some ((r5.1), (upd (r5.2) 24 z7), (r1.2), (upd (gMo_readRow v0) (ix ((r5.2) 24)) ((r5.2) 16))))))) else none)))) else (zlet (f_Mo_fails ((r1.1), (gMo_told v0), (gMo_postX v0), (gMo_postStrong v0), (gMo_atRow v0), (gMo_heights v0), (gMo_ship v0), (gMo_lines v0), (gMo_text v0), (r1.2), (gMo_readTold v0), (gMo_readX v0), (gMo_readStrong v0), (gMo_readRow v0), (gMo_parting v0), (gMo_wasShip v0), (gMo_wasLines v0), (gMo_worst v0), (gMo_logRow v0), (gMo_images v0), (gMo_isKept v0)) 1 ((r1.1) 13)) (fun (r10 : Int32 × (Nat → Int32)) => (some ((r10.1), (r10.2), (r1.2), (gMo_readRow v0))))))))
abbrev rm_Mo_takeHour : Room := { frames := 2, cells := 0, slots := 0, locals := 48 }
set_option maxHeartbeats 4000000 in
set_option maxRecDepth 100000 in
theorem c_Mo_takeHour (l : Launch) (g : zGl) (a0 : Nat → Nat) (o0 : Nat) (v0 : tMo)  (out : Int32 × (Nat → Int32) × Int64 × (Nat → Int32)) (hf : f_Mo_takeHour v0 = some out) : zMi l yX11_takeHour cX11_takeHour 2 rm_Mo_takeHour g [.ref (a0 o0)] (W_Mo g a0 o0 (gMo_ints v0) (gMo_told v0) (gMo_postX v0) (gMo_postStrong v0) (gMo_atRow v0) (gMo_heights v0) (gMo_ship v0) (gMo_lines v0) (gMo_text v0) (gMo_said v0) (gMo_readTold v0) (gMo_readX v0) (gMo_readStrong v0) (gMo_readRow v0) (gMo_parting v0) (gMo_wasShip v0) (gMo_wasLines v0) (gMo_worst v0) (gMo_logRow v0) (gMo_images v0) (gMo_isKept v0)) (out.1) (W_Mo g a0 o0 (out.2.1) (gMo_told v0) (gMo_postX v0) (gMo_postStrong v0) (gMo_atRow v0) (gMo_heights v0) (gMo_ship v0) (gMo_lines v0) (gMo_text v0) (out.2.2.1) (gMo_readTold v0) (gMo_readX v0) (gMo_readStrong v0) (out.2.2.2) (gMo_parting v0) (gMo_wasShip v0) (gMo_wasLines v0) (gMo_worst v0) (gMo_logRow v0) (gMo_images v0) (gMo_isKept v0)) := by
  refine zMi_of (lv := [(0, .ref (a0 o0))]) (by decide) (Nat.le_of_ble_eq_true rfl) rfl (fun x hl hg C hret => ?_)
  subst hl; subst hg
  rw [f_Mo_takeHour] at hf
  refine r_aload_n C eX11_takeHour_0 0 rfl rfl ?_
  obtain ⟨r1, hr1, hf⟩ := zbind hf
  refine r_V_v (ws' := W_Mo (z_g x) a0 o0 (r1.1) (gMo_told v0) (gMo_postX v0) (gMo_postStrong v0) (gMo_atRow v0) (gMo_heights v0) (gMo_ship v0) (gMo_lines v0) (gMo_text v0) (r1.2) (gMo_readTold v0) (gMo_readX v0) (gMo_readStrong v0) (gMo_readRow v0) (gMo_parting v0) (gMo_wasShip v0) (gMo_wasLines v0) (gMo_worst v0) (gMo_logRow v0) (gMo_images v0) (gMo_isKept v0)) C (c_Mo_readWord (z_l x) (z_g x) a0 o0 v0  r1 hr1) eX11_takeHour_1 MX11_154 ⟨0, 11, _, _, rfl, rfl, rfl⟩ [0, 1, 2, 3, 4, 5, 6, 7, 8, 9, 10, 11, 12, 13, 14, 15, 16, 17, 18, 19] rfl rfl rfl rfl [] rfl trivial 20 rfl rfl rfl rfl rfl rfl ?_
  refine r_aload_n C eX11_takeHour_4 0 rfl rfl ?_
  refine r_get (v := .long (r1.2)) C eX11_takeHour_5 FX11_104 0 rfl rfl ?_
  refine r_bipush C (v := 104) eX11_takeHour_8 (by decide) ?_
  refine r_bipush C (v := 111) eX11_takeHour_10 (by decide) ?_
  refine r_bipush C (v := 117) eX11_takeHour_12 (by decide) ?_
  refine r_bipush C (v := 114) eX11_takeHour_14 (by decide) ?_
  refine r_S_l (ws' := W_Mo (z_g x) a0 o0 (r1.1) (gMo_told v0) (gMo_postX v0) (gMo_postStrong v0) (gMo_atRow v0) (gMo_heights v0) (gMo_ship v0) (gMo_lines v0) (gMo_text v0) (r1.2) (gMo_readTold v0) (gMo_readX v0) (gMo_readStrong v0) (gMo_readRow v0) (gMo_parting v0) (gMo_wasShip v0) (gMo_wasLines v0) (gMo_worst v0) (gMo_logRow v0) (gMo_images v0) (gMo_isKept v0)) C (c_Mo_code (z_l x) (z_g x)  104 111 117 114 _ rfl) eX11_takeHour_16 MX11_146 [] rfl rfl rfl rfl [0, 1, 2, 3, 4, 5, 6, 7, 8, 9, 10, 11, 12, 13, 14, 15, 16, 17, 18, 19] rfl ⟨rfl, rfl, rfl, rfl, rfl, rfl, rfl, rfl, rfl, rfl, rfl, rfl, rfl, rfl, rfl, rfl, rfl, rfl, rfl, rfl, trivial⟩ 20 rfl rfl rfl rfl rfl rfl ?_
  refine r_lcmp_eq C eX11_takeHour_19 eX11_takeHour_20 (fun c2 => ?_) (fun c2 => ?_)
  · rw [if_pos c2] at hf
    refine r_aload_n C eX11_takeHour_33 0 rfl rfl ?_
    refine r_get (v := .int ((r1.1) 24)) C eX11_takeHour_34 FX11_181 0 rfl rfl ?_
    refine r_bipush C (v := 24) eX11_takeHour_37 (by decide) ?_
    refine r_icmp_ne C eX11_takeHour_39 (fun c3 => ?_) (fun c3 => ?_)
    · rw [if_neg c3] at hf
      refine r_aload_n C eX11_takeHour_52 0 rfl rfl ?_
      refine r_aload_n C eX11_takeHour_53 0 rfl rfl ?_
      refine r_get (v := .int ((r1.1) 15)) C eX11_takeHour_54 FX11_108 0 rfl rfl ?_
      refine r_put (ws' := W_Mo (z_g x) a0 o0 (upd (r1.1) 13 ((r1.1) 15)) (gMo_told v0) (gMo_postX v0) (gMo_postStrong v0) (gMo_atRow v0) (gMo_heights v0) (gMo_ship v0) (gMo_lines v0) (gMo_text v0) (r1.2) (gMo_readTold v0) (gMo_readX v0) (gMo_readStrong v0) (gMo_readRow v0) (gMo_parting v0) (gMo_wasShip v0) (gMo_wasLines v0) (gMo_worst v0) (gMo_logRow v0) (gMo_images v0) (gMo_isKept v0)) C eX11_takeHour_57 PX11_97 0 rfl rfl rfl (Nat.le_of_ble_eq_true rfl) rfl ?_
      refine r_aload_n C eX11_takeHour_60 0 rfl rfl ?_
      refine r_iconst C (v := 0) eX11_takeHour_61 (by decide) ?_
      refine r_sipush C (v := 999) eX11_takeHour_62 (by decide) ?_
      obtain ⟨r5, hr5, hf⟩ := zbind hf
      refine r_V_i (ws' := W_Mo (z_g x) a0 o0 (r5.2) (gMo_told v0) (gMo_postX v0) (gMo_postStrong v0) (gMo_atRow v0) (gMo_heights v0) (gMo_ship v0) (gMo_lines v0) (gMo_text v0) (r1.2) (gMo_readTold v0) (gMo_readX v0) (gMo_readStrong v0) (gMo_readRow v0) (gMo_parting v0) (gMo_wasShip v0) (gMo_wasLines v0) (gMo_worst v0) (gMo_logRow v0) (gMo_images v0) (gMo_isKept v0)) C (c_Mo_takeNumber (z_l x) (z_g x) a0 o0 ((upd (r1.1) 13 ((r1.1) 15)), (gMo_told v0), (gMo_postX v0), (gMo_postStrong v0), (gMo_atRow v0), (gMo_heights v0), (gMo_ship v0), (gMo_lines v0), (gMo_text v0), (r1.2), (gMo_readTold v0), (gMo_readX v0), (gMo_readStrong v0), (gMo_readRow v0), (gMo_parting v0), (gMo_wasShip v0), (gMo_wasLines v0), (gMo_worst v0), (gMo_logRow v0), (gMo_images v0), (gMo_isKept v0)) 0 999 r5 hr5) eX11_takeHour_65 MX11_138 ⟨0, 11, _, _, rfl, rfl, rfl⟩ [0, 1, 2, 3, 4, 5, 6, 7, 8, 9, 10, 11, 12, 13, 14, 15, 16, 17, 18, 19] rfl rfl rfl rfl [] rfl trivial 20 rfl rfl rfl rfl rfl rfl ?_
      refine r_istore_n C [(1, .int (r5.1)), (0, .ref (a0 o0))] eX11_takeHour_68 rfl (by decide) rfl ?_
      refine r_aload_n C eX11_takeHour_69 1 rfl rfl ?_
      refine r_get (v := .ref (a0 (o0 + 12))) C eX11_takeHour_70 FX11_48 0 rfl rfl ?_
      refine r_aload_n C eX11_takeHour_73 1 rfl rfl ?_
      refine r_get (v := .int ((r5.2) 24)) C eX11_takeHour_74 FX11_181 0 rfl rfl ?_
      refine r_aload_n C eX11_takeHour_77 1 rfl rfl ?_
      refine r_get (v := .int ((r5.2) 16)) C eX11_takeHour_78 FX11_134 0 rfl rfl ?_
      obtain ⟨hb6, hf⟩ := zchk hf
      refine r_iast (ws' := W_Mo (z_g x) a0 o0 (r5.2) (gMo_told v0) (gMo_postX v0) (gMo_postStrong v0) (gMo_atRow v0) (gMo_heights v0) (gMo_ship v0) (gMo_lines v0) (gMo_text v0) (r1.2) (gMo_readTold v0) (gMo_readX v0) (gMo_readStrong v0) (upd (gMo_readRow v0) (ix ((r5.2) 24)) ((r5.2) 16)) (gMo_parting v0) (gMo_wasShip v0) (gMo_wasLines v0) (gMo_worst v0) (gMo_logRow v0) (gMo_images v0) (gMo_isKept v0)) C eX11_takeHour_81 12 rfl (inb_in hb6) rfl ?_
      refine r_aload_n C eX11_takeHour_82 1 rfl rfl ?_
      refine r_dup C eX11_takeHour_83 rfl ?_
      refine r_get (v := .int ((r5.2) 24)) C eX11_takeHour_84 FX11_181 0 rfl rfl ?_
      refine r_iconst C (v := 1) eX11_takeHour_87 (by decide) ?_
      refine r_iadd C eX11_takeHour_88 ?_
      obtain ⟨z7, hz7, hf⟩ := zlet_of hf
      refine r_nami hz7 ?_
      refine r_put (ws' := W_Mo (z_g x) a0 o0 (upd (r5.2) 24 z7) (gMo_told v0) (gMo_postX v0) (gMo_postStrong v0) (gMo_atRow v0) (gMo_heights v0) (gMo_ship v0) (gMo_lines v0) (gMo_text v0) (r1.2) (gMo_readTold v0) (gMo_readX v0) (gMo_readStrong v0) (upd (gMo_readRow v0) (ix ((r5.2) 24)) ((r5.2) 16)) (gMo_parting v0) (gMo_wasShip v0) (gMo_wasLines v0) (gMo_worst v0) (gMo_logRow v0) (gMo_images v0) (gMo_isKept v0)) C eX11_takeHour_89 PX11_181 0 rfl rfl rfl (Nat.le_of_ble_eq_true rfl) rfl ?_
      refine r_iload_n C eX11_takeHour_92 0 rfl rfl ?_
      refine r_if_le C eX11_takeHour_93 (fun c8 => ?_) (fun c8 => ?_)
      · rw [if_pos c8] at hf
        refine r_aload_n C eX11_takeHour_100 1 rfl rfl ?_
        obtain ⟨r9, hr9, hf⟩ := zbind hf
        refine r_V_i (ws' := W_Mo (z_g x) a0 o0 (r9.2) (gMo_told v0) (gMo_postX v0) (gMo_postStrong v0) (gMo_atRow v0) (gMo_heights v0) (gMo_ship v0) (gMo_lines v0) (gMo_text v0) (r1.2) (gMo_readTold v0) (gMo_readX v0) (gMo_readStrong v0) (upd (gMo_readRow v0) (ix ((r5.2) 24)) ((r5.2) 16)) (gMo_parting v0) (gMo_wasShip v0) (gMo_wasLines v0) (gMo_worst v0) (gMo_logRow v0) (gMo_images v0) (gMo_isKept v0)) C (c_Mo_takeStop (z_l x) (z_g x) a0 o0 ((upd (r5.2) 24 z7), (gMo_told v0), (gMo_postX v0), (gMo_postStrong v0), (gMo_atRow v0), (gMo_heights v0), (gMo_ship v0), (gMo_lines v0), (gMo_text v0), (r1.2), (gMo_readTold v0), (gMo_readX v0), (gMo_readStrong v0), (upd (gMo_readRow v0) (ix ((r5.2) 24)) ((r5.2) 16)), (gMo_parting v0), (gMo_wasShip v0), (gMo_wasLines v0), (gMo_worst v0), (gMo_logRow v0), (gMo_images v0), (gMo_isKept v0))  r9 hr9) eX11_takeHour_101 MX11_170 ⟨0, 11, _, _, rfl, rfl, rfl⟩ [0, 1, 2, 3, 4, 5, 6, 7, 8, 9, 10, 11, 12, 13, 14, 15, 16, 17, 18, 19] rfl rfl rfl rfl [] rfl trivial 20 rfl rfl rfl rfl rfl rfl ?_
        obtain rfl := Option.some.inj (show some (((r9.1), (r9.2), (r1.2), (upd (gMo_readRow v0) (ix ((r5.2) 24)) ((r5.2) 16))) : Int32 × (Nat → Int32) × Int64 × (Nat → Int32)) = some _ from hf)
        exact hret _ _ _ eX11_takeHour_104
      · rw [if_neg c8] at hf
        refine r_iload_n C eX11_takeHour_96 0 rfl rfl ?_
        refine r_goto C eX11_takeHour_97 ?_
        obtain rfl := Option.some.inj (show some (((r5.1), (upd (r5.2) 24 z7), (r1.2), (upd (gMo_readRow v0) (ix ((r5.2) 24)) ((r5.2) 16))) : Int32 × (Nat → Int32) × Int64 × (Nat → Int32)) = some _ from hf)
        exact hret _ _ _ eX11_takeHour_104
    · rw [if_pos c3] at hf
      refine r_aload_n C eX11_takeHour_42 0 rfl rfl ?_
      refine r_iconst C (v := 3) eX11_takeHour_43 (by decide) ?_
      refine r_aload_n C eX11_takeHour_44 0 rfl rfl ?_
      refine r_get (v := .int ((r1.1) 13)) C eX11_takeHour_45 FX11_97 0 rfl rfl ?_
      obtain ⟨r4, hr4, hf⟩ := zlet_of hf
      refine r_V_i (ws' := W_Mo (z_g x) a0 o0 (r4.2) (gMo_told v0) (gMo_postX v0) (gMo_postStrong v0) (gMo_atRow v0) (gMo_heights v0) (gMo_ship v0) (gMo_lines v0) (gMo_text v0) (r1.2) (gMo_readTold v0) (gMo_readX v0) (gMo_readStrong v0) (gMo_readRow v0) (gMo_parting v0) (gMo_wasShip v0) (gMo_wasLines v0) (gMo_worst v0) (gMo_logRow v0) (gMo_images v0) (gMo_isKept v0)) C (c_Mo_fails (z_l x) (z_g x) a0 o0 ((r1.1), (gMo_told v0), (gMo_postX v0), (gMo_postStrong v0), (gMo_atRow v0), (gMo_heights v0), (gMo_ship v0), (gMo_lines v0), (gMo_text v0), (r1.2), (gMo_readTold v0), (gMo_readX v0), (gMo_readStrong v0), (gMo_readRow v0), (gMo_parting v0), (gMo_wasShip v0), (gMo_wasLines v0), (gMo_worst v0), (gMo_logRow v0), (gMo_images v0), (gMo_isKept v0)) 3 ((r1.1) 13) r4 hr4) eX11_takeHour_48 MX11_127 ⟨0, 11, _, _, rfl, rfl, rfl⟩ [0, 1, 2, 3, 4, 5, 6, 7, 8, 9, 10, 11, 12, 13, 14, 15, 16, 17, 18, 19] rfl rfl rfl rfl [] rfl trivial 20 rfl rfl rfl rfl rfl rfl ?_
      obtain rfl := Option.some.inj (show some (((r4.1), (r4.2), (r1.2), (gMo_readRow v0)) : Int32 × (Nat → Int32) × Int64 × (Nat → Int32)) = some _ from hf)
      exact hret _ _ _ eX11_takeHour_51
  · rw [if_neg c2] at hf
    refine r_aload_n C eX11_takeHour_23 0 rfl rfl ?_
    refine r_iconst C (v := 1) eX11_takeHour_24 (by decide) ?_
    refine r_aload_n C eX11_takeHour_25 0 rfl rfl ?_
    refine r_get (v := .int ((r1.1) 13)) C eX11_takeHour_26 FX11_97 0 rfl rfl ?_
    obtain ⟨r10, hr10, hf⟩ := zlet_of hf
    refine r_V_i (ws' := W_Mo (z_g x) a0 o0 (r10.2) (gMo_told v0) (gMo_postX v0) (gMo_postStrong v0) (gMo_atRow v0) (gMo_heights v0) (gMo_ship v0) (gMo_lines v0) (gMo_text v0) (r1.2) (gMo_readTold v0) (gMo_readX v0) (gMo_readStrong v0) (gMo_readRow v0) (gMo_parting v0) (gMo_wasShip v0) (gMo_wasLines v0) (gMo_worst v0) (gMo_logRow v0) (gMo_images v0) (gMo_isKept v0)) C (c_Mo_fails (z_l x) (z_g x) a0 o0 ((r1.1), (gMo_told v0), (gMo_postX v0), (gMo_postStrong v0), (gMo_atRow v0), (gMo_heights v0), (gMo_ship v0), (gMo_lines v0), (gMo_text v0), (r1.2), (gMo_readTold v0), (gMo_readX v0), (gMo_readStrong v0), (gMo_readRow v0), (gMo_parting v0), (gMo_wasShip v0), (gMo_wasLines v0), (gMo_worst v0), (gMo_logRow v0), (gMo_images v0), (gMo_isKept v0)) 1 ((r1.1) 13) r10 hr10) eX11_takeHour_29 MX11_127 ⟨0, 11, _, _, rfl, rfl, rfl⟩ [0, 1, 2, 3, 4, 5, 6, 7, 8, 9, 10, 11, 12, 13, 14, 15, 16, 17, 18, 19] rfl rfl rfl rfl [] rfl trivial 20 rfl rfl rfl rfl rfl rfl ?_
    obtain rfl := Option.some.inj (show some (((r10.1), (r10.2), (r1.2), (gMo_readRow v0)) : Int32 × (Nat → Int32) × Int64 × (Nat → Int32)) = some _ from hf)
    exact hret _ _ _ eX11_takeHour_32
theorem eX11_toldAt_0 : zd 1 cX11_toldAt 0 1 (.iconst 0) := ⟨by decide +kernel, rfl⟩
theorem eX11_toldAt_1 : zd 1 cX11_toldAt 1 2 (.istore_n 3) := ⟨by decide +kernel, rfl⟩
theorem eX11_toldAt_2 : zd 1 cX11_toldAt 2 3 (.lconst 0) := ⟨by decide +kernel, rfl⟩
theorem eX11_toldAt_3 : zd 2 cX11_toldAt 3 5 (.lstore 4) := ⟨by decide +kernel, rfl⟩
theorem eX11_toldAt_5 : zd 1 cX11_toldAt 5 6 (.lconst 0) := ⟨by decide +kernel, rfl⟩
theorem eX11_toldAt_6 : zd 2 cX11_toldAt 6 8 (.lstore 6) := ⟨by decide +kernel, rfl⟩
theorem eX11_toldAt_8 : zd 1 cX11_toldAt 8 9 (.iconst 0) := ⟨by decide +kernel, rfl⟩
theorem eX11_toldAt_9 : zd 2 cX11_toldAt 9 11 (.istore 8) := ⟨by decide +kernel, rfl⟩
theorem eX11_toldAt_11 : zd 2 cX11_toldAt 11 13 (.iload 8) := ⟨by decide +kernel, rfl⟩
theorem eX11_toldAt_13 : zd 1 cX11_toldAt 13 14 (.aload_n 0) := ⟨by decide +kernel, rfl⟩
theorem eX11_toldAt_14 : zd 3 cX11_toldAt 14 17 (.getfield 193) := ⟨by decide +kernel, rfl⟩
theorem eX11_toldAt_17 : zdi cX11_toldAt 17 20 138 (.if_icmp .ge) := ⟨121, by decide +kernel, rfl, by decide⟩
theorem eX11_toldAt_20 : zd 1 cX11_toldAt 20 21 (.aload_n 0) := ⟨by decide +kernel, rfl⟩
theorem eX11_toldAt_21 : zd 1 cX11_toldAt 21 22 (.iload_n 1) := ⟨by decide +kernel, rfl⟩
theorem eX11_toldAt_22 : zd 2 cX11_toldAt 22 24 (.iload 8) := ⟨by decide +kernel, rfl⟩
theorem eX11_toldAt_24 : zd 1 cX11_toldAt 24 25 (.iload_n 2) := ⟨by decide +kernel, rfl⟩
theorem eX11_toldAt_25 : zd 3 cX11_toldAt 25 28 (.invokevirtual 384) := ⟨by decide +kernel, rfl⟩
theorem eX11_toldAt_28 : zd 2 cX11_toldAt 28 30 (.lstore 9) := ⟨by decide +kernel, rfl⟩
theorem eX11_toldAt_30 : zd 2 cX11_toldAt 30 32 (.lload 9) := ⟨by decide +kernel, rfl⟩
theorem eX11_toldAt_32 : zd 2 cX11_toldAt 32 34 (.lload 4) := ⟨by decide +kernel, rfl⟩
theorem eX11_toldAt_34 : zd 1 cX11_toldAt 34 35 (.lcmp) := ⟨by decide +kernel, rfl⟩
theorem eX11_toldAt_35 : zdi cX11_toldAt 35 38 43 (.ifCond .ge) := ⟨8, by decide +kernel, rfl, by decide⟩
theorem eX11_toldAt_38 : zd 2 cX11_toldAt 38 40 (.lload 9) := ⟨by decide +kernel, rfl⟩
theorem eX11_toldAt_40 : zdi cX11_toldAt 40 43 45 (.goto) := ⟨5, by decide +kernel, rfl, by decide⟩
theorem eX11_toldAt_43 : zd 2 cX11_toldAt 43 45 (.lload 4) := ⟨by decide +kernel, rfl⟩
theorem eX11_toldAt_45 : zd 2 cX11_toldAt 45 47 (.lstore 11) := ⟨by decide +kernel, rfl⟩
theorem eX11_toldAt_47 : zd 2 cX11_toldAt 47 49 (.lload 9) := ⟨by decide +kernel, rfl⟩
theorem eX11_toldAt_49 : zd 2 cX11_toldAt 49 51 (.lload 6) := ⟨by decide +kernel, rfl⟩
theorem eX11_toldAt_51 : zd 1 cX11_toldAt 51 52 (.lcmp) := ⟨by decide +kernel, rfl⟩
theorem eX11_toldAt_52 : zdi cX11_toldAt 52 55 60 (.ifCond .le) := ⟨8, by decide +kernel, rfl, by decide⟩
theorem eX11_toldAt_55 : zd 2 cX11_toldAt 55 57 (.lload 9) := ⟨by decide +kernel, rfl⟩
theorem eX11_toldAt_57 : zdi cX11_toldAt 57 60 62 (.goto) := ⟨5, by decide +kernel, rfl, by decide⟩
theorem eX11_toldAt_60 : zd 2 cX11_toldAt 60 62 (.lload 6) := ⟨by decide +kernel, rfl⟩
theorem eX11_toldAt_62 : zd 2 cX11_toldAt 62 64 (.lstore 13) := ⟨by decide +kernel, rfl⟩
theorem eX11_toldAt_64 : zd 2 cX11_toldAt 64 66 (.iload 8) := ⟨by decide +kernel, rfl⟩
theorem eX11_toldAt_66 : zdi cX11_toldAt 66 69 81 (.ifCond .eq) := ⟨15, by decide +kernel, rfl, by decide⟩
theorem eX11_toldAt_69 : zd 2 cX11_toldAt 69 71 (.lload 13) := ⟨by decide +kernel, rfl⟩
theorem eX11_toldAt_71 : zd 2 cX11_toldAt 71 73 (.lload 11) := ⟨by decide +kernel, rfl⟩
theorem eX11_toldAt_73 : zd 1 cX11_toldAt 73 74 (.lsub) := ⟨by decide +kernel, rfl⟩
theorem eX11_toldAt_74 : zd 3 cX11_toldAt 74 77 (.ldc2_w 203) := ⟨by decide +kernel, rfl⟩
theorem eX11_toldAt_77 : zd 1 cX11_toldAt 77 78 (.lcmp) := ⟨by decide +kernel, rfl⟩
theorem eX11_toldAt_78 : zdi cX11_toldAt 78 81 85 (.ifCond .le) := ⟨7, by decide +kernel, rfl, by decide⟩
theorem eX11_toldAt_81 : zd 1 cX11_toldAt 81 82 (.iconst 1) := ⟨by decide +kernel, rfl⟩
theorem eX11_toldAt_82 : zdi cX11_toldAt 82 85 86 (.goto) := ⟨4, by decide +kernel, rfl, by decide⟩
theorem eX11_toldAt_85 : zd 1 cX11_toldAt 85 86 (.iconst 0) := ⟨by decide +kernel, rfl⟩
theorem eX11_toldAt_86 : zd 2 cX11_toldAt 86 88 (.istore 15) := ⟨by decide +kernel, rfl⟩
theorem eX11_toldAt_88 : zd 1 cX11_toldAt 88 89 (.iload_n 3) := ⟨by decide +kernel, rfl⟩
theorem eX11_toldAt_89 : zd 2 cX11_toldAt 89 91 (.iload 15) := ⟨by decide +kernel, rfl⟩
theorem eX11_toldAt_91 : zdi cX11_toldAt 91 94 101 (.ifCond .eq) := ⟨10, by decide +kernel, rfl, by decide⟩
theorem eX11_toldAt_94 : zd 1 cX11_toldAt 94 95 (.iconst 1) := ⟨by decide +kernel, rfl⟩
theorem eX11_toldAt_95 : zd 2 cX11_toldAt 95 97 (.iload 8) := ⟨by decide +kernel, rfl⟩
theorem eX11_toldAt_97 : zd 1 cX11_toldAt 97 98 (.ishl) := ⟨by decide +kernel, rfl⟩
theorem eX11_toldAt_98 : zdi cX11_toldAt 98 101 102 (.goto) := ⟨4, by decide +kernel, rfl, by decide⟩
theorem eX11_toldAt_101 : zd 1 cX11_toldAt 101 102 (.iconst 0) := ⟨by decide +kernel, rfl⟩
theorem eX11_toldAt_102 : zd 1 cX11_toldAt 102 103 (.ior) := ⟨by decide +kernel, rfl⟩
theorem eX11_toldAt_103 : zd 1 cX11_toldAt 103 104 (.istore_n 3) := ⟨by decide +kernel, rfl⟩
theorem eX11_toldAt_104 : zd 2 cX11_toldAt 104 106 (.iload 15) := ⟨by decide +kernel, rfl⟩
theorem eX11_toldAt_106 : zdi cX11_toldAt 106 109 114 (.ifCond .eq) := ⟨8, by decide +kernel, rfl, by decide⟩
theorem eX11_toldAt_109 : zd 2 cX11_toldAt 109 111 (.lload 9) := ⟨by decide +kernel, rfl⟩
theorem eX11_toldAt_111 : zdi cX11_toldAt 111 114 116 (.goto) := ⟨5, by decide +kernel, rfl, by decide⟩
theorem eX11_toldAt_114 : zd 2 cX11_toldAt 114 116 (.lload 11) := ⟨by decide +kernel, rfl⟩
theorem eX11_toldAt_116 : zd 2 cX11_toldAt 116 118 (.lstore 4) := ⟨by decide +kernel, rfl⟩
theorem eX11_toldAt_118 : zd 2 cX11_toldAt 118 120 (.iload 15) := ⟨by decide +kernel, rfl⟩
theorem eX11_toldAt_120 : zdi cX11_toldAt 120 123 128 (.ifCond .eq) := ⟨8, by decide +kernel, rfl, by decide⟩
theorem eX11_toldAt_123 : zd 2 cX11_toldAt 123 125 (.lload 9) := ⟨by decide +kernel, rfl⟩
theorem eX11_toldAt_125 : zdi cX11_toldAt 125 128 130 (.goto) := ⟨5, by decide +kernel, rfl, by decide⟩
theorem eX11_toldAt_128 : zd 2 cX11_toldAt 128 130 (.lload 13) := ⟨by decide +kernel, rfl⟩
theorem eX11_toldAt_130 : zd 2 cX11_toldAt 130 132 (.lstore 6) := ⟨by decide +kernel, rfl⟩
theorem eX11_toldAt_132 : zd 3 cX11_toldAt 132 135 (.iinc 8 1) := ⟨by decide +kernel, rfl⟩
theorem eX11_toldAt_135 : zdi cX11_toldAt 135 138 11 (.goto) := ⟨(-124), by decide +kernel, rfl, by decide⟩
theorem eX11_toldAt_138 : zd 1 cX11_toldAt 138 139 (.iload_n 3) := ⟨by decide +kernel, rfl⟩
theorem eX11_toldAt_139 : zd 1 cX11_toldAt 139 140 (.ireturn) := ⟨by decide +kernel, rfl⟩
noncomputable def fB_Mo_toldAt_11 (v0 : tMo) (p1 : Int32) (p2 : Int32) (ih : (Int32 × Int64 × Int64 × Int32) → Option (Int32 × Int64 × Int64 × Int32)) (s1 : Int32 × Int64 × Int64 × Int32) : Option (Int32 × Int64 × Int64 × Int32) := (if ((gMo_ints v0) 6) ≤ (s1.2.2.2) then (some ((s1.1), (s1.2.1), (s1.2.2.1), (s1.2.2.2))) else (Option.bind (f_Mo_needsOf v0 p1 (s1.2.2.2) p2) (fun (r7 : Int64) => (zlet (if (s1.2.1) ≤ r7 then (s1.2.1) else r7) (fun (w8 : Int64) => (zlet (if r7 ≤ (s1.2.2.1) then (s1.2.2.1) else r7) (fun (w11 : Int64) => (zlet (if (s1.2.2.2) = 0 then 1 else (if (w11 - w8) ≤ 100 then 0 else 1)) (fun (w14 : Int32) => (zlet ((if w14 = 0 then 0 else (1 <<< ((s1.2.2.2) &&& 31))) : Int32) (fun (w18 : Int32) => (zlet ((s1.1) ||| w18) (fun (z21 : Int32) => (zlet (if w14 = 0 then w8 else r7) (fun (w22 : Int64) => (if w14 = 0 then (ih (z21, w22, w11, ((s1.2.2.2) + 1))) else (ih (z21, w22, r7, ((s1.2.2.2) + 1)))))))))))))))))))
noncomputable def f_Mo_toldAt (v0 : tMo) (p1 : Int32) (p2 : Int32) : Option (Int32) := (Option.bind (lp (fB_Mo_toldAt_11 v0 p1 p2) LF (0, 0, 0, 0)) (fun (q2 : Int32 × Int64 × Int64 × Int32) => (some (q2.1))))
abbrev rm_Mo_toldAt : Room := { frames := 3, cells := 0, slots := 0, locals := 69 }
set_option maxHeartbeats 4000000 in
set_option maxRecDepth 100000 in
theorem c_Mo_toldAt (l : Launch) (g : zGl) (a0 : Nat → Nat) (o0 : Nat) (v0 : tMo) (p1 : Int32) (p2 : Int32) (out : Int32) (hf : f_Mo_toldAt v0 p1 p2 = some out) : zMi l yX11_toldAt cX11_toldAt 16 rm_Mo_toldAt g [.ref (a0 o0), .int p1, .int p2] (W_Mo g a0 o0 (gMo_ints v0) (gMo_told v0) (gMo_postX v0) (gMo_postStrong v0) (gMo_atRow v0) (gMo_heights v0) (gMo_ship v0) (gMo_lines v0) (gMo_text v0) (gMo_said v0) (gMo_readTold v0) (gMo_readX v0) (gMo_readStrong v0) (gMo_readRow v0) (gMo_parting v0) (gMo_wasShip v0) (gMo_wasLines v0) (gMo_worst v0) (gMo_logRow v0) (gMo_images v0) (gMo_isKept v0)) out (W_Mo g a0 o0 (gMo_ints v0) (gMo_told v0) (gMo_postX v0) (gMo_postStrong v0) (gMo_atRow v0) (gMo_heights v0) (gMo_ship v0) (gMo_lines v0) (gMo_text v0) (gMo_said v0) (gMo_readTold v0) (gMo_readX v0) (gMo_readStrong v0) (gMo_readRow v0) (gMo_parting v0) (gMo_wasShip v0) (gMo_wasLines v0) (gMo_worst v0) (gMo_logRow v0) (gMo_images v0) (gMo_isKept v0)) := by
  refine zMi_of (lv := [(0, .ref (a0 o0)), (1, .int p1), (2, .int p2)]) (by decide) (Nat.le_of_ble_eq_true rfl) rfl (fun x hl hg C hret => ?_)
  subst hl; subst hg
  rw [f_Mo_toldAt] at hf
  refine r_iconst C (v := 0) eX11_toldAt_0 (by decide) ?_
  refine r_istore_n C [(3, .int 0), (0, .ref (a0 o0)), (1, .int p1), (2, .int p2)] eX11_toldAt_1 rfl (by decide) rfl ?_
  refine r_lconst C (v := 0) eX11_toldAt_2 (by decide) ?_
  refine r_lstore C [(4, .long 0), (3, .int 0), (0, .ref (a0 o0)), (1, .int p1), (2, .int p2)] eX11_toldAt_3 (by decide) rfl ?_
  refine r_lconst C (v := 0) eX11_toldAt_5 (by decide) ?_
  refine r_lstore C [(6, .long 0), (4, .long 0), (3, .int 0), (0, .ref (a0 o0)), (1, .int p1), (2, .int p2)] eX11_toldAt_6 (by decide) rfl ?_
  refine r_iconst C (v := 0) eX11_toldAt_8 (by decide) ?_
  refine r_istore C [(8, .int 0), (6, .long 0), (4, .long 0), (3, .int 0), (0, .ref (a0 o0)), (1, .int p1), (2, .int p2)] eX11_toldAt_9 (by decide) rfl ?_
  obtain ⟨q2, h3, hf⟩ := zbind hf
  have J4 : vV x 16 0 0 (W_Mo (z_g x) a0 o0 (gMo_ints v0) (gMo_told v0) (gMo_postX v0) (gMo_postStrong v0) (gMo_atRow v0) (gMo_heights v0) (gMo_ship v0) (gMo_lines v0) (gMo_text v0) (gMo_said v0) (gMo_readTold v0) (gMo_readX v0) (gMo_readStrong v0) (gMo_readRow v0) (gMo_parting v0) (gMo_wasShip v0) (gMo_wasLines v0) (gMo_worst v0) (gMo_logRow v0) (gMo_images v0) (gMo_isKept v0)) 138 [(3, .int (q2.1))] [] := by
    refine r_iload_n C eX11_toldAt_138 0 rfl rfl ?_
    obtain rfl := Option.some.inj (show some ((q2.1) : Int32) = some _ from hf)
    exact hret _ _ _ eX11_toldAt_139
  have L5 : ∀ (nL5 : Nat) (s1 : Int32 × Int64 × Int64 × Int32), lp (fB_Mo_toldAt_11 v0 p1 p2) nL5 s1 = some q2 → vV x 16 0 0 (W_Mo (z_g x) a0 o0 (gMo_ints v0) (gMo_told v0) (gMo_postX v0) (gMo_postStrong v0) (gMo_atRow v0) (gMo_heights v0) (gMo_ship v0) (gMo_lines v0) (gMo_text v0) (gMo_said v0) (gMo_readTold v0) (gMo_readX v0) (gMo_readStrong v0) (gMo_readRow v0) (gMo_parting v0) (gMo_wasShip v0) (gMo_wasLines v0) (gMo_worst v0) (gMo_logRow v0) (gMo_images v0) (gMo_isKept v0)) 11 [(0, .ref (a0 o0)), (1, .int p1), (2, .int p2), (3, .int (s1.1)), (4, .long (s1.2.1)), (6, .long (s1.2.2.1)), (8, .int (s1.2.2.2))] [] := by
    intro nL5
    induction nL5 with
    | zero => intro s1 hq; cases hq
    | succ nL5 ihL5 =>
      intro s1 hbL5
      rw [lp_succ, fB_Mo_toldAt_11] at hbL5
      refine r_iload C eX11_toldAt_11 6 rfl ?_
      refine r_aload_n C eX11_toldAt_13 0 rfl rfl ?_
      refine r_get (v := .int ((gMo_ints v0) 6)) C eX11_toldAt_14 FX11_193 0 rfl rfl ?_
      refine r_icmp_ge C eX11_toldAt_17 (fun c6 => ?_) (fun c6 => ?_)
      · rw [if_pos c6] at hbL5
        obtain rfl := Option.some.inj hbL5
        refine r_sub (lv' := [(3, .int (s1.1))]) [3] rfl ?_
        exact J4
      · rw [if_neg c6] at hbL5
        refine r_aload_n C eX11_toldAt_20 0 rfl rfl ?_
        refine r_iload_n C eX11_toldAt_21 1 rfl rfl ?_
        refine r_iload C eX11_toldAt_22 6 rfl ?_
        refine r_iload_n C eX11_toldAt_24 2 rfl rfl ?_
        obtain ⟨r7, hr7, hbL5⟩ := zbind hbL5
        refine r_V_l (ws' := W_Mo (z_g x) a0 o0 (gMo_ints v0) (gMo_told v0) (gMo_postX v0) (gMo_postStrong v0) (gMo_atRow v0) (gMo_heights v0) (gMo_ship v0) (gMo_lines v0) (gMo_text v0) (gMo_said v0) (gMo_readTold v0) (gMo_readX v0) (gMo_readStrong v0) (gMo_readRow v0) (gMo_parting v0) (gMo_wasShip v0) (gMo_wasLines v0) (gMo_worst v0) (gMo_logRow v0) (gMo_images v0) (gMo_isKept v0)) C (c_Mo_needsOf (z_l x) (z_g x) a0 o0 v0 p1 (s1.2.2.2) p2 r7 hr7) eX11_toldAt_25 MX11_384 ⟨0, 11, _, _, rfl, rfl, rfl⟩ [0, 1, 2, 3, 4, 5, 6, 7, 8, 9, 10, 11, 12, 13, 14, 15, 16, 17, 18, 19] rfl rfl rfl rfl [] rfl trivial 20 rfl rfl rfl rfl rfl rfl ?_
        refine r_lstore C [(9, .long r7), (0, .ref (a0 o0)), (1, .int p1), (2, .int p2), (3, .int (s1.1)), (4, .long (s1.2.1)), (6, .long (s1.2.2.1)), (8, .int (s1.2.2.2))] eX11_toldAt_28 (by decide) rfl ?_
        refine r_lload C eX11_toldAt_30 0 rfl ?_
        refine r_lload C eX11_toldAt_32 5 rfl ?_
        obtain ⟨w8, hw8, hbL5⟩ := zlet_of hbL5
        have J9 : vV x 16 0 0 (W_Mo (z_g x) a0 o0 (gMo_ints v0) (gMo_told v0) (gMo_postX v0) (gMo_postStrong v0) (gMo_atRow v0) (gMo_heights v0) (gMo_ship v0) (gMo_lines v0) (gMo_text v0) (gMo_said v0) (gMo_readTold v0) (gMo_readX v0) (gMo_readStrong v0) (gMo_readRow v0) (gMo_parting v0) (gMo_wasShip v0) (gMo_wasLines v0) (gMo_worst v0) (gMo_logRow v0) (gMo_images v0) (gMo_isKept v0)) 45 [(0, .ref (a0 o0)), (1, .int p1), (2, .int p2), (3, .int (s1.1)), (6, .long (s1.2.2.1)), (8, .int (s1.2.2.2)), (9, .long r7)] [.long w8] := by
          refine r_lstore C [(11, .long w8), (0, .ref (a0 o0)), (1, .int p1), (2, .int p2), (3, .int (s1.1)), (6, .long (s1.2.2.1)), (8, .int (s1.2.2.2)), (9, .long r7)] eX11_toldAt_45 (by decide) rfl ?_
          refine r_lload C eX11_toldAt_47 7 rfl ?_
          refine r_lload C eX11_toldAt_49 5 rfl ?_
          obtain ⟨w11, hw11, hbL5⟩ := zlet_of hbL5
          have J12 : vV x 16 0 0 (W_Mo (z_g x) a0 o0 (gMo_ints v0) (gMo_told v0) (gMo_postX v0) (gMo_postStrong v0) (gMo_atRow v0) (gMo_heights v0) (gMo_ship v0) (gMo_lines v0) (gMo_text v0) (gMo_said v0) (gMo_readTold v0) (gMo_readX v0) (gMo_readStrong v0) (gMo_readRow v0) (gMo_parting v0) (gMo_wasShip v0) (gMo_wasLines v0) (gMo_worst v0) (gMo_logRow v0) (gMo_images v0) (gMo_isKept v0)) 62 [(0, .ref (a0 o0)), (1, .int p1), (2, .int p2), (3, .int (s1.1)), (8, .int (s1.2.2.2)), (9, .long r7), (11, .long w8)] [.long w11] := by
            refine r_lstore C [(13, .long w11), (0, .ref (a0 o0)), (1, .int p1), (2, .int p2), (3, .int (s1.1)), (8, .int (s1.2.2.2)), (9, .long r7), (11, .long w8)] eX11_toldAt_62 (by decide) rfl ?_
            refine r_iload C eX11_toldAt_64 5 rfl ?_
            obtain ⟨w14, hw14, hbL5⟩ := zlet_of hbL5
            have J15 : vV x 16 0 0 (W_Mo (z_g x) a0 o0 (gMo_ints v0) (gMo_told v0) (gMo_postX v0) (gMo_postStrong v0) (gMo_atRow v0) (gMo_heights v0) (gMo_ship v0) (gMo_lines v0) (gMo_text v0) (gMo_said v0) (gMo_readTold v0) (gMo_readX v0) (gMo_readStrong v0) (gMo_readRow v0) (gMo_parting v0) (gMo_wasShip v0) (gMo_wasLines v0) (gMo_worst v0) (gMo_logRow v0) (gMo_images v0) (gMo_isKept v0)) 86 [(0, .ref (a0 o0)), (1, .int p1), (2, .int p2), (3, .int (s1.1)), (8, .int (s1.2.2.2)), (9, .long r7), (11, .long w8), (13, .long w11)] [.int w14] := by
              refine r_istore C [(15, .int w14), (0, .ref (a0 o0)), (1, .int p1), (2, .int p2), (3, .int (s1.1)), (8, .int (s1.2.2.2)), (9, .long r7), (11, .long w8), (13, .long w11)] eX11_toldAt_86 (by decide) rfl ?_
              refine r_iload_n C eX11_toldAt_88 4 rfl rfl ?_
              refine r_iload C eX11_toldAt_89 0 rfl ?_
              obtain ⟨w18, hw18, hbL5⟩ := zlet_of hbL5
              have J19 : vV x 16 0 0 (W_Mo (z_g x) a0 o0 (gMo_ints v0) (gMo_told v0) (gMo_postX v0) (gMo_postStrong v0) (gMo_atRow v0) (gMo_heights v0) (gMo_ship v0) (gMo_lines v0) (gMo_text v0) (gMo_said v0) (gMo_readTold v0) (gMo_readX v0) (gMo_readStrong v0) (gMo_readRow v0) (gMo_parting v0) (gMo_wasShip v0) (gMo_wasLines v0) (gMo_worst v0) (gMo_logRow v0) (gMo_images v0) (gMo_isKept v0)) 102 [(0, .ref (a0 o0)), (1, .int p1), (2, .int p2), (8, .int (s1.2.2.2)), (9, .long r7), (11, .long w8), (13, .long w11), (15, .int w14)] [.int w18, .int (s1.1)] := by
                refine r_ior C eX11_toldAt_102 ?_
                obtain ⟨z21, hz21, hbL5⟩ := zlet_of hbL5
                refine r_nami hz21 ?_
                refine r_istore_n C [(3, .int z21), (0, .ref (a0 o0)), (1, .int p1), (2, .int p2), (8, .int (s1.2.2.2)), (9, .long r7), (11, .long w8), (13, .long w11), (15, .int w14)] eX11_toldAt_103 rfl (by decide) rfl ?_
                refine r_iload C eX11_toldAt_104 8 rfl ?_
                obtain ⟨w22, hw22, hbL5⟩ := zlet_of hbL5
                have J23 : vV x 16 0 0 (W_Mo (z_g x) a0 o0 (gMo_ints v0) (gMo_told v0) (gMo_postX v0) (gMo_postStrong v0) (gMo_atRow v0) (gMo_heights v0) (gMo_ship v0) (gMo_lines v0) (gMo_text v0) (gMo_said v0) (gMo_readTold v0) (gMo_readX v0) (gMo_readStrong v0) (gMo_readRow v0) (gMo_parting v0) (gMo_wasShip v0) (gMo_wasLines v0) (gMo_worst v0) (gMo_logRow v0) (gMo_images v0) (gMo_isKept v0)) 116 [(0, .ref (a0 o0)), (1, .int p1), (2, .int p2), (3, .int z21), (8, .int (s1.2.2.2)), (9, .long r7), (13, .long w11), (15, .int w14)] [.long w22] := by
                  refine r_lstore C [(4, .long w22), (0, .ref (a0 o0)), (1, .int p1), (2, .int p2), (3, .int z21), (8, .int (s1.2.2.2)), (9, .long r7), (13, .long w11), (15, .int w14)] eX11_toldAt_116 (by decide) rfl ?_
                  refine r_iload C eX11_toldAt_118 8 rfl ?_
                  refine r_if_eq C eX11_toldAt_120 (fun c25 => ?_) (fun c25 => ?_)
                  · rw [if_pos c25] at hbL5
                    refine r_lload C eX11_toldAt_128 7 rfl ?_
                    refine r_lstore C [(6, .long w11), (4, .long w22), (0, .ref (a0 o0)), (1, .int p1), (2, .int p2), (3, .int z21), (8, .int (s1.2.2.2)), (9, .long r7), (13, .long w11), (15, .int w14)] eX11_toldAt_130 (by decide) rfl ?_
                    refine r_iinc C (v := ((s1.2.2.2) + 1)) [(8, .int ((s1.2.2.2) + 1)), (6, .long w11), (4, .long w22), (0, .ref (a0 o0)), (1, .int p1), (2, .int p2), (3, .int z21), (9, .long r7), (13, .long w11), (15, .int w14)] eX11_toldAt_132 6 rfl rfl (by decide) rfl ?_
                    refine r_goto C eX11_toldAt_135 ?_
                    refine r_sub (lv' := [(0, .ref (a0 o0)), (1, .int p1), (2, .int p2), (3, .int z21), (4, .long w22), (6, .long w11), (8, .int ((s1.2.2.2) + 1))]) [3, 4, 5, 6, 2, 1, 0] rfl ?_
                    have hc := ihL5 (z21, w22, w11, ((s1.2.2.2) + 1)) hbL5
                    exact hc
                  · rw [if_neg c25] at hbL5
                    refine r_lload C eX11_toldAt_123 6 rfl ?_
                    refine r_goto C eX11_toldAt_125 ?_
                    refine r_lstore C [(6, .long r7), (4, .long w22), (0, .ref (a0 o0)), (1, .int p1), (2, .int p2), (3, .int z21), (8, .int (s1.2.2.2)), (9, .long r7), (13, .long w11), (15, .int w14)] eX11_toldAt_130 (by decide) rfl ?_
                    refine r_iinc C (v := ((s1.2.2.2) + 1)) [(8, .int ((s1.2.2.2) + 1)), (6, .long r7), (4, .long w22), (0, .ref (a0 o0)), (1, .int p1), (2, .int p2), (3, .int z21), (9, .long r7), (13, .long w11), (15, .int w14)] eX11_toldAt_132 6 rfl rfl (by decide) rfl ?_
                    refine r_goto C eX11_toldAt_135 ?_
                    refine r_sub (lv' := [(0, .ref (a0 o0)), (1, .int p1), (2, .int p2), (3, .int z21), (4, .long w22), (6, .long r7), (8, .int ((s1.2.2.2) + 1))]) [3, 4, 5, 6, 2, 1, 0] rfl ?_
                    have hc := ihL5 (z21, w22, r7, ((s1.2.2.2) + 1)) hbL5
                    exact hc
                refine r_if_eq C eX11_toldAt_106 (fun c24 => ?_) (fun c24 => ?_)
                · rw [if_pos c24] at hw22
                  refine r_lload C eX11_toldAt_114 6 rfl ?_
                  subst hw22
                  refine r_sub (lv' := [(0, .ref (a0 o0)), (1, .int p1), (2, .int p2), (3, .int z21), (8, .int (s1.2.2.2)), (9, .long r7), (13, .long w11), (15, .int w14)]) [1, 2, 3, 0, 4, 5, 7, 8] rfl ?_
                  exact J23 
                · rw [if_neg c24] at hw22
                  refine r_lload C eX11_toldAt_109 5 rfl ?_
                  refine r_goto C eX11_toldAt_111 ?_
                  subst hw22
                  refine r_sub (lv' := [(0, .ref (a0 o0)), (1, .int p1), (2, .int p2), (3, .int z21), (8, .int (s1.2.2.2)), (9, .long r7), (13, .long w11), (15, .int w14)]) [1, 2, 3, 0, 4, 5, 7, 8] rfl ?_
                  exact J23 
              refine r_if_eq C eX11_toldAt_91 (fun c20 => ?_) (fun c20 => ?_)
              · rw [if_pos c20] at hw18
                refine r_iconst C (v := 0) eX11_toldAt_101 (by decide) ?_
                subst hw18
                refine r_sub (lv' := [(0, .ref (a0 o0)), (1, .int p1), (2, .int p2), (8, .int (s1.2.2.2)), (9, .long r7), (11, .long w8), (13, .long w11), (15, .int w14)]) [1, 2, 3, 5, 6, 7, 8, 0] rfl ?_
                exact J19 
              · rw [if_neg c20] at hw18
                refine r_iconst C (v := 1) eX11_toldAt_94 (by decide) ?_
                refine r_iload C eX11_toldAt_95 5 rfl ?_
                refine r_ishl C eX11_toldAt_97 ?_
                refine r_goto C eX11_toldAt_98 ?_
                subst hw18
                refine r_sub (lv' := [(0, .ref (a0 o0)), (1, .int p1), (2, .int p2), (8, .int (s1.2.2.2)), (9, .long r7), (11, .long w8), (13, .long w11), (15, .int w14)]) [1, 2, 3, 5, 6, 7, 8, 0] rfl ?_
                exact J19 
            refine r_if_eq C eX11_toldAt_66 (fun c16 => ?_) (fun c16 => ?_)
            · rw [if_pos c16] at hw14
              refine r_iconst C (v := 1) eX11_toldAt_81 (by decide) ?_
              refine r_goto C eX11_toldAt_82 ?_
              subst hw14
              refine r_sub (lv' := [(0, .ref (a0 o0)), (1, .int p1), (2, .int p2), (3, .int (s1.1)), (8, .int (s1.2.2.2)), (9, .long r7), (11, .long w8), (13, .long w11)]) [1, 2, 3, 4, 5, 6, 7, 0] rfl ?_
              exact J15 
            · rw [if_neg c16] at hw14
              refine r_lload C eX11_toldAt_69 0 rfl ?_
              refine r_lload C eX11_toldAt_71 7 rfl ?_
              refine r_lsub C eX11_toldAt_73 ?_
              refine r_ldc2 C (v := 100) eX11_toldAt_74 q1315 ?_
              refine r_lcmp_le C eX11_toldAt_77 eX11_toldAt_78 (fun c17 => ?_) (fun c17 => ?_)
              · rw [if_pos c17] at hw14
                refine r_iconst C (v := 0) eX11_toldAt_85 (by decide) ?_
                subst hw14
                refine r_sub (lv' := [(0, .ref (a0 o0)), (1, .int p1), (2, .int p2), (3, .int (s1.1)), (8, .int (s1.2.2.2)), (9, .long r7), (11, .long w8), (13, .long w11)]) [1, 2, 3, 4, 5, 6, 7, 0] rfl ?_
                exact J15 
              · rw [if_neg c17] at hw14
                refine r_iconst C (v := 1) eX11_toldAt_81 (by decide) ?_
                refine r_goto C eX11_toldAt_82 ?_
                subst hw14
                refine r_sub (lv' := [(0, .ref (a0 o0)), (1, .int p1), (2, .int p2), (3, .int (s1.1)), (8, .int (s1.2.2.2)), (9, .long r7), (11, .long w8), (13, .long w11)]) [1, 2, 3, 4, 5, 6, 7, 0] rfl ?_
                exact J15 
          refine r_lcmp_le C eX11_toldAt_51 eX11_toldAt_52 (fun c13 => ?_) (fun c13 => ?_)
          · rw [if_pos c13] at hw11
            refine r_lload C eX11_toldAt_60 5 rfl ?_
            subst hw11
            refine r_sub (lv' := [(0, .ref (a0 o0)), (1, .int p1), (2, .int p2), (3, .int (s1.1)), (8, .int (s1.2.2.2)), (9, .long r7), (11, .long w8)]) [1, 2, 3, 4, 6, 7, 0] rfl ?_
            exact J12 
          · rw [if_neg c13] at hw11
            refine r_lload C eX11_toldAt_55 7 rfl ?_
            refine r_goto C eX11_toldAt_57 ?_
            subst hw11
            refine r_sub (lv' := [(0, .ref (a0 o0)), (1, .int p1), (2, .int p2), (3, .int (s1.1)), (8, .int (s1.2.2.2)), (9, .long r7), (11, .long w8)]) [1, 2, 3, 4, 6, 7, 0] rfl ?_
            exact J12 
        refine r_lcmp_ge C eX11_toldAt_34 eX11_toldAt_35 (fun c10 => ?_) (fun c10 => ?_)
        · rw [if_pos c10] at hw8
          refine r_lload C eX11_toldAt_43 5 rfl ?_
          subst hw8
          refine r_sub (lv' := [(0, .ref (a0 o0)), (1, .int p1), (2, .int p2), (3, .int (s1.1)), (6, .long (s1.2.2.1)), (8, .int (s1.2.2.2)), (9, .long r7)]) [1, 2, 3, 4, 6, 7, 0] rfl ?_
          exact J9 
        · rw [if_neg c10] at hw8
          refine r_lload C eX11_toldAt_38 0 rfl ?_
          refine r_goto C eX11_toldAt_40 ?_
          subst hw8
          refine r_sub (lv' := [(0, .ref (a0 o0)), (1, .int p1), (2, .int p2), (3, .int (s1.1)), (6, .long (s1.2.2.1)), (8, .int (s1.2.2.2)), (9, .long r7)]) [1, 2, 3, 4, 6, 7, 0] rfl ?_
          exact J9 
  refine r_sub (lv' := [(0, .ref (a0 o0)), (1, .int p1), (2, .int p2), (3, .int 0), (4, .long 0), (6, .long 0), (8, .int 0)]) [4, 5, 6, 3, 2, 1, 0] rfl ?_
  have hc := L5 LF (0, 0, 0, 0) h3
  exact hc
theorem eX11_tended_0 : zd 1 cX11_tended 0 1 (.aload_n 0) := ⟨by decide +kernel, rfl⟩
theorem eX11_tended_1 : zd 1 cX11_tended 1 2 (.iload_n 1) := ⟨by decide +kernel, rfl⟩
theorem eX11_tended_2 : zd 3 cX11_tended 2 5 (.invokevirtual 243) := ⟨by decide +kernel, rfl⟩
theorem eX11_tended_5 : zdi cX11_tended 5 8 11 (.ifCond .ne) := ⟨6, by decide +kernel, rfl, by decide⟩
theorem eX11_tended_8 : zd 2 cX11_tended 8 10 (.ldc 202) := ⟨by decide +kernel, rfl⟩
theorem eX11_tended_10 : zd 1 cX11_tended 10 11 (.ireturn) := ⟨by decide +kernel, rfl⟩
theorem eX11_tended_11 : zd 1 cX11_tended 11 12 (.iload_n 2) := ⟨by decide +kernel, rfl⟩
theorem eX11_tended_12 : zd 3 cX11_tended 12 15 (.invokestatic 381) := ⟨by decide +kernel, rfl⟩
theorem eX11_tended_15 : zdi cX11_tended 15 18 21 (.ifCond .ne) := ⟨6, by decide +kernel, rfl, by decide⟩
theorem eX11_tended_18 : zd 2 cX11_tended 18 20 (.ldc 90) := ⟨by decide +kernel, rfl⟩
theorem eX11_tended_20 : zd 1 cX11_tended 20 21 (.ireturn) := ⟨by decide +kernel, rfl⟩
theorem eX11_tended_21 : zd 1 cX11_tended 21 22 (.aload_n 0) := ⟨by decide +kernel, rfl⟩
theorem eX11_tended_22 : zd 1 cX11_tended 22 23 (.iload_n 1) := ⟨by decide +kernel, rfl⟩
theorem eX11_tended_23 : zd 1 cX11_tended 23 24 (.iload_n 2) := ⟨by decide +kernel, rfl⟩
theorem eX11_tended_24 : zd 3 cX11_tended 24 27 (.invokevirtual 388) := ⟨by decide +kernel, rfl⟩
theorem eX11_tended_27 : zd 2 cX11_tended 27 29 (.istore 4) := ⟨by decide +kernel, rfl⟩
theorem eX11_tended_29 : zd 1 cX11_tended 29 30 (.iload_n 3) := ⟨by decide +kernel, rfl⟩
theorem eX11_tended_30 : zd 1 cX11_tended 30 31 (.iconst (-1)) := ⟨by decide +kernel, rfl⟩
theorem eX11_tended_31 : zdi cX11_tended 31 34 40 (.if_icmp .ne) := ⟨9, by decide +kernel, rfl, by decide⟩
theorem eX11_tended_34 : zd 2 cX11_tended 34 36 (.iload 4) := ⟨by decide +kernel, rfl⟩
theorem eX11_tended_36 : zd 3 cX11_tended 36 39 (.invokestatic 391) := ⟨by decide +kernel, rfl⟩
theorem eX11_tended_39 : zd 1 cX11_tended 39 40 (.ireturn) := ⟨by decide +kernel, rfl⟩
theorem eX11_tended_40 : zd 1 cX11_tended 40 41 (.iconst 0) := ⟨by decide +kernel, rfl⟩
theorem eX11_tended_41 : zd 2 cX11_tended 41 43 (.istore 5) := ⟨by decide +kernel, rfl⟩
theorem eX11_tended_43 : zd 1 cX11_tended 43 44 (.iconst 0) := ⟨by decide +kernel, rfl⟩
theorem eX11_tended_44 : zd 2 cX11_tended 44 46 (.istore 6) := ⟨by decide +kernel, rfl⟩
theorem eX11_tended_46 : zd 2 cX11_tended 46 48 (.iload 6) := ⟨by decide +kernel, rfl⟩
theorem eX11_tended_48 : zd 1 cX11_tended 48 49 (.aload_n 0) := ⟨by decide +kernel, rfl⟩
theorem eX11_tended_49 : zd 3 cX11_tended 49 52 (.getfield 193) := ⟨by decide +kernel, rfl⟩
theorem eX11_tended_52 : zdi cX11_tended 52 55 84 (.if_icmp .ge) := ⟨32, by decide +kernel, rfl, by decide⟩
theorem eX11_tended_55 : zd 2 cX11_tended 55 57 (.iload 4) := ⟨by decide +kernel, rfl⟩
theorem eX11_tended_57 : zd 2 cX11_tended 57 59 (.iload 6) := ⟨by decide +kernel, rfl⟩
theorem eX11_tended_59 : zd 1 cX11_tended 59 60 (.ishr) := ⟨by decide +kernel, rfl⟩
theorem eX11_tended_60 : zd 1 cX11_tended 60 61 (.iconst 1) := ⟨by decide +kernel, rfl⟩
theorem eX11_tended_61 : zd 1 cX11_tended 61 62 (.iand) := ⟨by decide +kernel, rfl⟩
theorem eX11_tended_62 : zd 1 cX11_tended 62 63 (.iconst 1) := ⟨by decide +kernel, rfl⟩
theorem eX11_tended_63 : zdi cX11_tended 63 66 78 (.if_icmp .ne) := ⟨15, by decide +kernel, rfl, by decide⟩
theorem eX11_tended_66 : zd 2 cX11_tended 66 68 (.iload 5) := ⟨by decide +kernel, rfl⟩
theorem eX11_tended_68 : zd 1 cX11_tended 68 69 (.iload_n 3) := ⟨by decide +kernel, rfl⟩
theorem eX11_tended_69 : zdi cX11_tended 69 72 75 (.if_icmp .ne) := ⟨6, by decide +kernel, rfl, by decide⟩
theorem eX11_tended_72 : zd 2 cX11_tended 72 74 (.iload 6) := ⟨by decide +kernel, rfl⟩
theorem eX11_tended_74 : zd 1 cX11_tended 74 75 (.ireturn) := ⟨by decide +kernel, rfl⟩
theorem eX11_tended_75 : zd 3 cX11_tended 75 78 (.iinc 5 1) := ⟨by decide +kernel, rfl⟩
theorem eX11_tended_78 : zd 3 cX11_tended 78 81 (.iinc 6 1) := ⟨by decide +kernel, rfl⟩
theorem eX11_tended_81 : zdi cX11_tended 81 84 46 (.goto) := ⟨(-35), by decide +kernel, rfl, by decide⟩
theorem eX11_tended_84 : zd 1 cX11_tended 84 85 (.iconst (-1)) := ⟨by decide +kernel, rfl⟩
theorem eX11_tended_85 : zd 1 cX11_tended 85 86 (.ireturn) := ⟨by decide +kernel, rfl⟩
theorem MX11_388 : zlV RX11 388 yX11_toldAt cX11_toldAt 16 ((Option.some FieldType.int)) 2 := ⟨q1522, q1524, qs65, q12, q1525, by decide, by decide, by decide +kernel⟩
noncomputable def fB_Mo_tended_46 (v0 : tMo) (p3 : Int32) (r6 : Int32) (ih : (Int32 × Int32) → Option ((Int32) ⊕ (Int32 × Int32))) (s9 : Int32 × Int32) : Option ((Int32) ⊕ (Int32 × Int32)) := (if ((gMo_ints v0) 6) ≤ (s9.2) then (some (Sum.inr ((s9.1), (s9.2)))) else (if ((r6 >>> ((s9.2) &&& 31)) &&& 1) = 1 then (if (s9.1) = p3 then (some (Sum.inl (s9.2))) else (ih (((s9.1) + 1), ((s9.2) + 1)))) else (ih ((s9.1), ((s9.2) + 1)))))
noncomputable def f_Mo_tended (v0 : tMo) (p1 : Int32) (p2 : Int32) (p3 : Int32) : Option (Int32) := (Option.bind (f_Mo_isFast v0 p1) (fun (r1 : Int32) => (if r1 = 0 then (some (-1000000001)) else (if (f_Mo_isDeck p2) = 0 then (some (-1000000002)) else (Option.bind (f_Mo_toldAt v0 p1 p2) (fun (r6 : Int32) => (if p3 = (-1) then (Option.bind (f_Mo_bits r6) (fun (r8 : Int32) => (some r8))) else (Option.bind (lp (fB_Mo_tended_46 v0 p3 r6) LF (0, 0)) (fun (q10 : (Int32) ⊕ (Int32 × Int32)) => Sum.elim (fun r => (some r)) (fun (s9e : Int32 × Int32) => (some (-1))) q10)))))))))
abbrev rm_Mo_tended : Room := { frames := 4, cells := 0, slots := 0, locals := 104 }
set_option maxHeartbeats 4000000 in
set_option maxRecDepth 100000 in
theorem c_Mo_tended (l : Launch) (g : zGl) (a0 : Nat → Nat) (o0 : Nat) (v0 : tMo) (p1 : Int32) (p2 : Int32) (p3 : Int32) (out : Int32) (hf : f_Mo_tended v0 p1 p2 p3 = some out) : zMi l yX11_tended cX11_tended 7 rm_Mo_tended g [.ref (a0 o0), .int p1, .int p2, .int p3] (W_Mo g a0 o0 (gMo_ints v0) (gMo_told v0) (gMo_postX v0) (gMo_postStrong v0) (gMo_atRow v0) (gMo_heights v0) (gMo_ship v0) (gMo_lines v0) (gMo_text v0) (gMo_said v0) (gMo_readTold v0) (gMo_readX v0) (gMo_readStrong v0) (gMo_readRow v0) (gMo_parting v0) (gMo_wasShip v0) (gMo_wasLines v0) (gMo_worst v0) (gMo_logRow v0) (gMo_images v0) (gMo_isKept v0)) out (W_Mo g a0 o0 (gMo_ints v0) (gMo_told v0) (gMo_postX v0) (gMo_postStrong v0) (gMo_atRow v0) (gMo_heights v0) (gMo_ship v0) (gMo_lines v0) (gMo_text v0) (gMo_said v0) (gMo_readTold v0) (gMo_readX v0) (gMo_readStrong v0) (gMo_readRow v0) (gMo_parting v0) (gMo_wasShip v0) (gMo_wasLines v0) (gMo_worst v0) (gMo_logRow v0) (gMo_images v0) (gMo_isKept v0)) := by
  refine zMi_of (lv := [(0, .ref (a0 o0)), (1, .int p1), (2, .int p2), (3, .int p3)]) (by decide) (Nat.le_of_ble_eq_true rfl) rfl (fun x hl hg C hret => ?_)
  subst hl; subst hg
  rw [f_Mo_tended] at hf
  refine r_aload_n C eX11_tended_0 0 rfl rfl ?_
  refine r_iload_n C eX11_tended_1 1 rfl rfl ?_
  obtain ⟨r1, hr1, hf⟩ := zbind hf
  refine r_V_z (ws' := W_Mo (z_g x) a0 o0 (gMo_ints v0) (gMo_told v0) (gMo_postX v0) (gMo_postStrong v0) (gMo_atRow v0) (gMo_heights v0) (gMo_ship v0) (gMo_lines v0) (gMo_text v0) (gMo_said v0) (gMo_readTold v0) (gMo_readX v0) (gMo_readStrong v0) (gMo_readRow v0) (gMo_parting v0) (gMo_wasShip v0) (gMo_wasLines v0) (gMo_worst v0) (gMo_logRow v0) (gMo_images v0) (gMo_isKept v0)) C (c_Mo_isFast (z_l x) (z_g x) a0 o0 v0 p1 r1 hr1) eX11_tended_2 MX11_243 ⟨0, 11, _, _, rfl, rfl, rfl⟩ [0, 1, 2, 3, 4, 5, 6, 7, 8, 9, 10, 11, 12, 13, 14, 15, 16, 17, 18, 19] rfl rfl rfl rfl [] rfl trivial 20 rfl rfl rfl rfl rfl rfl (fun zb2 => ?_)
  refine r_if_ne C eX11_tended_5 (fun c3 => ?_) (fun c3 => ?_)
  · rw [if_neg c3] at hf
    refine r_iload_n C eX11_tended_11 2 rfl rfl ?_
    refine r_S_z (ws' := W_Mo (z_g x) a0 o0 (gMo_ints v0) (gMo_told v0) (gMo_postX v0) (gMo_postStrong v0) (gMo_atRow v0) (gMo_heights v0) (gMo_ship v0) (gMo_lines v0) (gMo_text v0) (gMo_said v0) (gMo_readTold v0) (gMo_readX v0) (gMo_readStrong v0) (gMo_readRow v0) (gMo_parting v0) (gMo_wasShip v0) (gMo_wasLines v0) (gMo_worst v0) (gMo_logRow v0) (gMo_images v0) (gMo_isKept v0)) C (c_Mo_isDeck (z_l x) (z_g x)  p2 _ rfl) eX11_tended_12 MX11_381 [] rfl rfl rfl rfl [0, 1, 2, 3, 4, 5, 6, 7, 8, 9, 10, 11, 12, 13, 14, 15, 16, 17, 18, 19] rfl ⟨rfl, rfl, rfl, rfl, rfl, rfl, rfl, rfl, rfl, rfl, rfl, rfl, rfl, rfl, rfl, rfl, rfl, rfl, rfl, rfl, trivial⟩ 20 rfl rfl rfl rfl rfl rfl (fun zb4 => ?_)
    refine r_if_ne C eX11_tended_15 (fun c5 => ?_) (fun c5 => ?_)
    · rw [if_neg c5] at hf
      refine r_aload_n C eX11_tended_21 0 rfl rfl ?_
      refine r_iload_n C eX11_tended_22 1 rfl rfl ?_
      refine r_iload_n C eX11_tended_23 2 rfl rfl ?_
      obtain ⟨r6, hr6, hf⟩ := zbind hf
      refine r_V_i (ws' := W_Mo (z_g x) a0 o0 (gMo_ints v0) (gMo_told v0) (gMo_postX v0) (gMo_postStrong v0) (gMo_atRow v0) (gMo_heights v0) (gMo_ship v0) (gMo_lines v0) (gMo_text v0) (gMo_said v0) (gMo_readTold v0) (gMo_readX v0) (gMo_readStrong v0) (gMo_readRow v0) (gMo_parting v0) (gMo_wasShip v0) (gMo_wasLines v0) (gMo_worst v0) (gMo_logRow v0) (gMo_images v0) (gMo_isKept v0)) C (c_Mo_toldAt (z_l x) (z_g x) a0 o0 v0 p1 p2 r6 hr6) eX11_tended_24 MX11_388 ⟨0, 11, _, _, rfl, rfl, rfl⟩ [0, 1, 2, 3, 4, 5, 6, 7, 8, 9, 10, 11, 12, 13, 14, 15, 16, 17, 18, 19] rfl rfl rfl rfl [] rfl trivial 20 rfl rfl rfl rfl rfl rfl ?_
      refine r_istore C [(4, .int r6), (0, .ref (a0 o0)), (1, .int p1), (2, .int p2), (3, .int p3)] eX11_tended_27 (by decide) rfl ?_
      refine r_iload_n C eX11_tended_29 4 rfl rfl ?_
      refine r_iconst C (v := (-1)) eX11_tended_30 (by decide) ?_
      refine r_icmp_ne C eX11_tended_31 (fun c7 => ?_) (fun c7 => ?_)
      · rw [if_neg c7] at hf
        refine r_iconst C (v := 0) eX11_tended_40 (by decide) ?_
        refine r_istore C [(5, .int 0), (4, .int r6), (0, .ref (a0 o0)), (1, .int p1), (2, .int p2), (3, .int p3)] eX11_tended_41 (by decide) rfl ?_
        refine r_iconst C (v := 0) eX11_tended_43 (by decide) ?_
        refine r_istore C [(6, .int 0), (5, .int 0), (4, .int r6), (0, .ref (a0 o0)), (1, .int p1), (2, .int p2), (3, .int p3)] eX11_tended_44 (by decide) rfl ?_
        obtain ⟨q10, h11, hf⟩ := zbind hf
        have J12 : ∀ s9e : Int32 × Int32, q10 = Sum.inr s9e → vV x 7 0 0 (W_Mo (z_g x) a0 o0 (gMo_ints v0) (gMo_told v0) (gMo_postX v0) (gMo_postStrong v0) (gMo_atRow v0) (gMo_heights v0) (gMo_ship v0) (gMo_lines v0) (gMo_text v0) (gMo_said v0) (gMo_readTold v0) (gMo_readX v0) (gMo_readStrong v0) (gMo_readRow v0) (gMo_parting v0) (gMo_wasShip v0) (gMo_wasLines v0) (gMo_worst v0) (gMo_logRow v0) (gMo_images v0) (gMo_isKept v0)) 84 [] [] := by
          intro s9e hs
          subst hs
          rw [Sum.elim_inr] at hf
          refine r_iconst C (v := (-1)) eX11_tended_84 (by decide) ?_
          obtain rfl := Option.some.inj (show some ((-1) : Int32) = some _ from hf)
          exact hret _ _ _ eX11_tended_85
        have L13 : ∀ (nL13 : Nat) (s9 : Int32 × Int32), lp (fB_Mo_tended_46 v0 p3 r6) nL13 s9 = some q10 → vV x 7 0 0 (W_Mo (z_g x) a0 o0 (gMo_ints v0) (gMo_told v0) (gMo_postX v0) (gMo_postStrong v0) (gMo_atRow v0) (gMo_heights v0) (gMo_ship v0) (gMo_lines v0) (gMo_text v0) (gMo_said v0) (gMo_readTold v0) (gMo_readX v0) (gMo_readStrong v0) (gMo_readRow v0) (gMo_parting v0) (gMo_wasShip v0) (gMo_wasLines v0) (gMo_worst v0) (gMo_logRow v0) (gMo_images v0) (gMo_isKept v0)) 46 [(0, .ref (a0 o0)), (3, .int p3), (4, .int r6), (5, .int (s9.1)), (6, .int (s9.2))] [] := by
          intro nL13
          induction nL13 with
          | zero => intro s9 hq; cases hq
          | succ nL13 ihL13 =>
            intro s9 hbL13
            rw [lp_succ, fB_Mo_tended_46] at hbL13
            refine r_iload C eX11_tended_46 4 rfl ?_
            refine r_aload_n C eX11_tended_48 0 rfl rfl ?_
            refine r_get (v := .int ((gMo_ints v0) 6)) C eX11_tended_49 FX11_193 0 rfl rfl ?_
            refine r_icmp_ge C eX11_tended_52 (fun c14 => ?_) (fun c14 => ?_)
            · rw [if_pos c14] at hbL13
              obtain rfl := Option.some.inj hbL13
              refine r_sub (lv' := []) [] rfl ?_
              exact J12 _ rfl
            · rw [if_neg c14] at hbL13
              refine r_iload C eX11_tended_55 2 rfl ?_
              refine r_iload C eX11_tended_57 4 rfl ?_
              refine r_ishr C eX11_tended_59 ?_
              refine r_iconst C (v := 1) eX11_tended_60 (by decide) ?_
              refine r_iand C eX11_tended_61 ?_
              refine r_iconst C (v := 1) eX11_tended_62 (by decide) ?_
              refine r_icmp_ne C eX11_tended_63 (fun c15 => ?_) (fun c15 => ?_)
              · rw [if_neg c15] at hbL13
                refine r_iinc C (v := ((s9.2) + 1)) [(6, .int ((s9.2) + 1)), (0, .ref (a0 o0)), (3, .int p3), (4, .int r6), (5, .int (s9.1))] eX11_tended_78 4 rfl rfl (by decide) rfl ?_
                refine r_goto C eX11_tended_81 ?_
                refine r_sub (lv' := [(0, .ref (a0 o0)), (3, .int p3), (4, .int r6), (5, .int (s9.1)), (6, .int ((s9.2) + 1))]) [1, 2, 3, 4, 0] rfl ?_
                have hc := ihL13 ((s9.1), ((s9.2) + 1)) hbL13
                exact hc
              · rw [if_pos c15] at hbL13
                refine r_iload C eX11_tended_66 3 rfl ?_
                refine r_iload_n C eX11_tended_68 1 rfl rfl ?_
                refine r_icmp_ne C eX11_tended_69 (fun c16 => ?_) (fun c16 => ?_)
                · rw [if_neg c16] at hbL13
                  refine r_iinc C (v := ((s9.1) + 1)) [(5, .int ((s9.1) + 1)), (0, .ref (a0 o0)), (3, .int p3), (4, .int r6), (6, .int (s9.2))] eX11_tended_75 3 rfl rfl (by decide) rfl ?_
                  refine r_iinc C (v := ((s9.2) + 1)) [(6, .int ((s9.2) + 1)), (5, .int ((s9.1) + 1)), (0, .ref (a0 o0)), (3, .int p3), (4, .int r6)] eX11_tended_78 4 rfl rfl (by decide) rfl ?_
                  refine r_goto C eX11_tended_81 ?_
                  refine r_sub (lv' := [(0, .ref (a0 o0)), (3, .int p3), (4, .int r6), (5, .int ((s9.1) + 1)), (6, .int ((s9.2) + 1))]) [2, 3, 4, 1, 0] rfl ?_
                  have hc := ihL13 (((s9.1) + 1), ((s9.2) + 1)) hbL13
                  exact hc
                · rw [if_pos c16] at hbL13
                  refine r_iload C eX11_tended_72 4 rfl ?_
                  obtain rfl := Option.some.inj (show some (Sum.inl ((s9.2) : Int32)) = some _ from hbL13)
                  obtain rfl := Option.some.inj (show some ((s9.2) : Int32) = some _ from hf)
                  exact hret _ _ _ eX11_tended_74
        refine r_sub (lv' := [(0, .ref (a0 o0)), (3, .int p3), (4, .int r6), (5, .int 0), (6, .int 0)]) [3, 6, 2, 1, 0] rfl ?_
        have hc := L13 LF (0, 0) h11
        exact hc
      · rw [if_pos c7] at hf
        refine r_iload C eX11_tended_34 0 rfl ?_
        obtain ⟨r8, hr8, hf⟩ := zbind hf
        refine r_S_i (ws' := W_Mo (z_g x) a0 o0 (gMo_ints v0) (gMo_told v0) (gMo_postX v0) (gMo_postStrong v0) (gMo_atRow v0) (gMo_heights v0) (gMo_ship v0) (gMo_lines v0) (gMo_text v0) (gMo_said v0) (gMo_readTold v0) (gMo_readX v0) (gMo_readStrong v0) (gMo_readRow v0) (gMo_parting v0) (gMo_wasShip v0) (gMo_wasLines v0) (gMo_worst v0) (gMo_logRow v0) (gMo_images v0) (gMo_isKept v0)) C (c_Mo_bits (z_l x) (z_g x)  r6 r8 hr8) eX11_tended_36 MX11_391 [] rfl rfl rfl rfl [0, 1, 2, 3, 4, 5, 6, 7, 8, 9, 10, 11, 12, 13, 14, 15, 16, 17, 18, 19] rfl ⟨rfl, rfl, rfl, rfl, rfl, rfl, rfl, rfl, rfl, rfl, rfl, rfl, rfl, rfl, rfl, rfl, rfl, rfl, rfl, rfl, trivial⟩ 20 rfl rfl rfl rfl rfl rfl ?_
        obtain rfl := Option.some.inj (show some (r8 : Int32) = some _ from hf)
        exact hret _ _ _ eX11_tended_39
    · rw [if_pos c5] at hf
      refine r_ldc C (v := (-1000000002)) eX11_tended_18 q1183 ?_
      obtain rfl := Option.some.inj (show some ((-1000000002) : Int32) = some _ from hf)
      exact hret _ _ _ eX11_tended_20
  · rw [if_pos c3] at hf
    refine r_ldc C (v := (-1000000001)) eX11_tended_8 q1276 ?_
    obtain rfl := Option.some.inj (show some ((-1000000001) : Int32) = some _ from hf)
    exact hret _ _ _ eX11_tended_10
theorem eX11_tide_0 : zd 1 cX11_tide 0 1 (.aload_n 0) := ⟨by decide +kernel, rfl⟩
theorem eX11_tide_1 : zd 1 cX11_tide 1 2 (.iconst (-1)) := ⟨by decide +kernel, rfl⟩
theorem eX11_tide_2 : zd 3 cX11_tide 2 5 (.putfield 35) := ⟨by decide +kernel, rfl⟩
theorem eX11_tide_5 : zd 1 cX11_tide 5 6 (.aload_n 0) := ⟨by decide +kernel, rfl⟩
theorem eX11_tide_6 : zd 1 cX11_tide 6 7 (.iconst 0) := ⟨by decide +kernel, rfl⟩
theorem eX11_tide_7 : zd 3 cX11_tide 7 10 (.putfield 97) := ⟨by decide +kernel, rfl⟩
theorem eX11_tide_10 : zd 1 cX11_tide 10 11 (.aload_n 0) := ⟨by decide +kernel, rfl⟩
theorem eX11_tide_11 : zd 1 cX11_tide 11 12 (.iconst 0) := ⟨by decide +kernel, rfl⟩
theorem eX11_tide_12 : zd 3 cX11_tide 12 15 (.putfield 181) := ⟨by decide +kernel, rfl⟩
theorem eX11_tide_15 : zd 1 cX11_tide 15 16 (.iconst 0) := ⟨by decide +kernel, rfl⟩
theorem eX11_tide_16 : zd 1 cX11_tide 16 17 (.istore_n 1) := ⟨by decide +kernel, rfl⟩
theorem eX11_tide_17 : zd 1 cX11_tide 17 18 (.iload_n 1) := ⟨by decide +kernel, rfl⟩
theorem eX11_tide_18 : zdi cX11_tide 18 21 36 (.ifCond .ne) := ⟨18, by decide +kernel, rfl, by decide⟩
theorem eX11_tide_21 : zd 1 cX11_tide 21 22 (.aload_n 0) := ⟨by decide +kernel, rfl⟩
theorem eX11_tide_22 : zd 3 cX11_tide 22 25 (.invokevirtual 100) := ⟨by decide +kernel, rfl⟩
theorem eX11_tide_25 : zdi cX11_tide 25 28 36 (.ifCond .lt) := ⟨11, by decide +kernel, rfl, by decide⟩
theorem eX11_tide_28 : zd 1 cX11_tide 28 29 (.aload_n 0) := ⟨by decide +kernel, rfl⟩
theorem eX11_tide_29 : zd 3 cX11_tide 29 32 (.invokevirtual 190) := ⟨by decide +kernel, rfl⟩
theorem eX11_tide_32 : zd 1 cX11_tide 32 33 (.istore_n 1) := ⟨by decide +kernel, rfl⟩
theorem eX11_tide_33 : zdi cX11_tide 33 36 17 (.goto) := ⟨(-16), by decide +kernel, rfl, by decide⟩
theorem eX11_tide_36 : zd 1 cX11_tide 36 37 (.aload_n 0) := ⟨by decide +kernel, rfl⟩
theorem eX11_tide_37 : zd 1 cX11_tide 37 38 (.iconst 0) := ⟨by decide +kernel, rfl⟩
theorem eX11_tide_38 : zd 3 cX11_tide 38 41 (.putfield 91) := ⟨by decide +kernel, rfl⟩
theorem eX11_tide_41 : zd 1 cX11_tide 41 42 (.iload_n 1) := ⟨by decide +kernel, rfl⟩
theorem eX11_tide_42 : zdi cX11_tide 42 45 50 (.ifCond .le) := ⟨8, by decide +kernel, rfl, by decide⟩
theorem eX11_tide_45 : zd 2 cX11_tide 45 47 (.bipush (-10)) := ⟨by decide +kernel, rfl⟩
theorem eX11_tide_47 : zd 1 cX11_tide 47 48 (.iload_n 1) := ⟨by decide +kernel, rfl⟩
theorem eX11_tide_48 : zd 1 cX11_tide 48 49 (.isub) := ⟨by decide +kernel, rfl⟩
theorem eX11_tide_49 : zd 1 cX11_tide 49 50 (.ireturn) := ⟨by decide +kernel, rfl⟩
theorem eX11_tide_50 : zd 1 cX11_tide 50 51 (.aload_n 0) := ⟨by decide +kernel, rfl⟩
theorem eX11_tide_51 : zd 1 cX11_tide 51 52 (.aload_n 0) := ⟨by decide +kernel, rfl⟩
theorem eX11_tide_52 : zd 3 cX11_tide 52 55 (.getfield 181) := ⟨by decide +kernel, rfl⟩
theorem eX11_tide_55 : zd 3 cX11_tide 55 58 (.putfield 193) := ⟨by decide +kernel, rfl⟩
theorem eX11_tide_58 : zd 1 cX11_tide 58 59 (.iconst 0) := ⟨by decide +kernel, rfl⟩
theorem eX11_tide_59 : zd 1 cX11_tide 59 60 (.istore_n 2) := ⟨by decide +kernel, rfl⟩
theorem eX11_tide_60 : zd 1 cX11_tide 60 61 (.iload_n 2) := ⟨by decide +kernel, rfl⟩
theorem eX11_tide_61 : zd 2 cX11_tide 61 63 (.bipush 24) := ⟨by decide +kernel, rfl⟩
theorem eX11_tide_63 : zdi cX11_tide 63 66 84 (.if_icmp .ge) := ⟨21, by decide +kernel, rfl, by decide⟩
theorem eX11_tide_66 : zd 1 cX11_tide 66 67 (.aload_n 0) := ⟨by decide +kernel, rfl⟩
theorem eX11_tide_67 : zd 3 cX11_tide 67 70 (.getfield 22) := ⟨by decide +kernel, rfl⟩
theorem eX11_tide_70 : zd 1 cX11_tide 70 71 (.iload_n 2) := ⟨by decide +kernel, rfl⟩
theorem eX11_tide_71 : zd 1 cX11_tide 71 72 (.aload_n 0) := ⟨by decide +kernel, rfl⟩
theorem eX11_tide_72 : zd 3 cX11_tide 72 75 (.getfield 48) := ⟨by decide +kernel, rfl⟩
theorem eX11_tide_75 : zd 1 cX11_tide 75 76 (.iload_n 2) := ⟨by decide +kernel, rfl⟩
theorem eX11_tide_76 : zd 1 cX11_tide 76 77 (.iaload) := ⟨by decide +kernel, rfl⟩
theorem eX11_tide_77 : zd 1 cX11_tide 77 78 (.iastore) := ⟨by decide +kernel, rfl⟩
theorem eX11_tide_78 : zd 3 cX11_tide 78 81 (.iinc 2 1) := ⟨by decide +kernel, rfl⟩
theorem eX11_tide_81 : zdi cX11_tide 81 84 60 (.goto) := ⟨(-21), by decide +kernel, rfl, by decide⟩
theorem eX11_tide_84 : zd 1 cX11_tide 84 85 (.aload_n 0) := ⟨by decide +kernel, rfl⟩
theorem eX11_tide_85 : zd 3 cX11_tide 85 88 (.getfield 193) := ⟨by decide +kernel, rfl⟩
theorem eX11_tide_88 : zd 1 cX11_tide 88 89 (.ireturn) := ⟨by decide +kernel, rfl⟩
theorem PX11_193 : zlP RX11 193 11 6 .int := ⟨(RX11, TX11, 34), tyX11, rfl, by decide, q1077, zin11, tyX11_ok, nmX11, rfl, by decide +kernel⟩
theorem MX11_190 : zlV RX11 190 yX11_takeHour cX11_takeHour 2 ((Option.some FieldType.int)) 0 := ⟨q1255, q1257, qs36, q12, q1258, by decide, by decide, by decide +kernel⟩
noncomputable def fB_Mo_tide_17 (v0 : tMo) (ih : (Int32 × (Nat → Int32) × Int64 × (Nat → Int32)) → Option (Int32 × (Nat → Int32) × Int64 × (Nat → Int32))) (s1 : Int32 × (Nat → Int32) × Int64 × (Nat → Int32)) : Option (Int32 × (Nat → Int32) × Int64 × (Nat → Int32)) := (if (s1.1) = 0 then (Option.bind (f_Mo_here ((s1.2.1), (gMo_told v0), (gMo_postX v0), (gMo_postStrong v0), (gMo_atRow v0), (gMo_heights v0), (gMo_ship v0), (gMo_lines v0), (gMo_text v0), (s1.2.2.1), (gMo_readTold v0), (gMo_readX v0), (gMo_readStrong v0), (s1.2.2.2), (gMo_parting v0), (gMo_wasShip v0), (gMo_wasLines v0), (gMo_worst v0), (gMo_logRow v0), (gMo_images v0), (gMo_isKept v0))) (fun (r7 : Int32 × (Nat → Int32)) => (if (r7.1) < 0 then (some ((s1.1), (r7.2), (s1.2.2.1), (s1.2.2.2))) else (Option.bind (f_Mo_takeHour ((r7.2), (gMo_told v0), (gMo_postX v0), (gMo_postStrong v0), (gMo_atRow v0), (gMo_heights v0), (gMo_ship v0), (gMo_lines v0), (gMo_text v0), (s1.2.2.1), (gMo_readTold v0), (gMo_readX v0), (gMo_readStrong v0), (s1.2.2.2), (gMo_parting v0), (gMo_wasShip v0), (gMo_wasLines v0), (gMo_worst v0), (gMo_logRow v0), (gMo_images v0), (gMo_isKept v0))) (fun (r9 : Int32 × (Nat → Int32) × Int64 × (Nat → Int32)) => (ih ((r9.1), (r9.2.1), (r9.2.2.1), (r9.2.2.2)))))))) else (some ((s1.1), (s1.2.1), (s1.2.2.1), (s1.2.2.2))))
noncomputable def fB_Mo_tide_60 (q2 : Int32 × (Nat → Int32) × Int64 × (Nat → Int32)) (ih : (Int32 × (Nat → Int32)) → Option (Int32 × (Nat → Int32))) (s11 : Int32 × (Nat → Int32)) : Option (Int32 × (Nat → Int32)) := (if 24 ≤ (s11.1) then (some ((s11.1), (s11.2))) else (if inb (s11.1) 60 = true then (if inb (s11.1) 24 = true then (ih (((s11.1) + 1), (upd (s11.2) (ix (s11.1)) ((q2.2.2.2) (ix (s11.1)))))) else none) else none))
noncomputable def f_Mo_tide (v0 : tMo)  : Option (Int32 × (Nat → Int32) × (Nat → Int32) × Int64 × (Nat → Int32)) := (Option.bind (lp (fB_Mo_tide_17 v0) LF (0, (upd (upd (upd (gMo_ints v0) 12 (-1)) 13 0) 24 0), (gMo_said v0), (gMo_readRow v0))) (fun (q2 : Int32 × (Nat → Int32) × Int64 × (Nat → Int32)) => (if (q2.1) ≤ 0 then (Option.bind (lp (fB_Mo_tide_60 q2) LF (0, (gMo_heights v0))) (fun (q12 : Int32 × (Nat → Int32)) => (some (((q2.2.1) 24), (upd (upd (q2.2.1) 11 0) 6 ((q2.2.1) 24)), (q12.2), (q2.2.2.1), (q2.2.2.2))))) else (some (((-10) - (q2.1)), (upd (q2.2.1) 11 0), (gMo_heights v0), (q2.2.2.1), (q2.2.2.2))))))
abbrev rm_Mo_tide : Room := { frames := 3, cells := 0, slots := 0, locals := 69 }
set_option maxHeartbeats 4000000 in
set_option maxRecDepth 100000 in
theorem c_Mo_tide (l : Launch) (g : zGl) (a0 : Nat → Nat) (o0 : Nat) (v0 : tMo)  (out : Int32 × (Nat → Int32) × (Nat → Int32) × Int64 × (Nat → Int32)) (hf : f_Mo_tide v0 = some out) : zMi l yX11_tide cX11_tide 3 rm_Mo_tide g [.ref (a0 o0)] (W_Mo g a0 o0 (gMo_ints v0) (gMo_told v0) (gMo_postX v0) (gMo_postStrong v0) (gMo_atRow v0) (gMo_heights v0) (gMo_ship v0) (gMo_lines v0) (gMo_text v0) (gMo_said v0) (gMo_readTold v0) (gMo_readX v0) (gMo_readStrong v0) (gMo_readRow v0) (gMo_parting v0) (gMo_wasShip v0) (gMo_wasLines v0) (gMo_worst v0) (gMo_logRow v0) (gMo_images v0) (gMo_isKept v0)) (out.1) (W_Mo g a0 o0 (out.2.1) (gMo_told v0) (gMo_postX v0) (gMo_postStrong v0) (gMo_atRow v0) (out.2.2.1) (gMo_ship v0) (gMo_lines v0) (gMo_text v0) (out.2.2.2.1) (gMo_readTold v0) (gMo_readX v0) (gMo_readStrong v0) (out.2.2.2.2) (gMo_parting v0) (gMo_wasShip v0) (gMo_wasLines v0) (gMo_worst v0) (gMo_logRow v0) (gMo_images v0) (gMo_isKept v0)) := by
  refine zMi_of (lv := [(0, .ref (a0 o0))]) (by decide) (Nat.le_of_ble_eq_true rfl) rfl (fun x hl hg C hret => ?_)
  subst hl; subst hg
  rw [f_Mo_tide] at hf
  refine r_aload_n C eX11_tide_0 0 rfl rfl ?_
  refine r_iconst C (v := (-1)) eX11_tide_1 (by decide) ?_
  refine r_put (ws' := W_Mo (z_g x) a0 o0 (upd (gMo_ints v0) 12 (-1)) (gMo_told v0) (gMo_postX v0) (gMo_postStrong v0) (gMo_atRow v0) (gMo_heights v0) (gMo_ship v0) (gMo_lines v0) (gMo_text v0) (gMo_said v0) (gMo_readTold v0) (gMo_readX v0) (gMo_readStrong v0) (gMo_readRow v0) (gMo_parting v0) (gMo_wasShip v0) (gMo_wasLines v0) (gMo_worst v0) (gMo_logRow v0) (gMo_images v0) (gMo_isKept v0)) C eX11_tide_2 PX11_35 0 rfl rfl rfl (Nat.le_of_ble_eq_true rfl) rfl ?_
  refine r_aload_n C eX11_tide_5 0 rfl rfl ?_
  refine r_iconst C (v := 0) eX11_tide_6 (by decide) ?_
  refine r_put (ws' := W_Mo (z_g x) a0 o0 (upd (upd (gMo_ints v0) 12 (-1)) 13 0) (gMo_told v0) (gMo_postX v0) (gMo_postStrong v0) (gMo_atRow v0) (gMo_heights v0) (gMo_ship v0) (gMo_lines v0) (gMo_text v0) (gMo_said v0) (gMo_readTold v0) (gMo_readX v0) (gMo_readStrong v0) (gMo_readRow v0) (gMo_parting v0) (gMo_wasShip v0) (gMo_wasLines v0) (gMo_worst v0) (gMo_logRow v0) (gMo_images v0) (gMo_isKept v0)) C eX11_tide_7 PX11_97 0 rfl rfl rfl (Nat.le_of_ble_eq_true rfl) rfl ?_
  refine r_aload_n C eX11_tide_10 0 rfl rfl ?_
  refine r_iconst C (v := 0) eX11_tide_11 (by decide) ?_
  refine r_put (ws' := W_Mo (z_g x) a0 o0 (upd (upd (upd (gMo_ints v0) 12 (-1)) 13 0) 24 0) (gMo_told v0) (gMo_postX v0) (gMo_postStrong v0) (gMo_atRow v0) (gMo_heights v0) (gMo_ship v0) (gMo_lines v0) (gMo_text v0) (gMo_said v0) (gMo_readTold v0) (gMo_readX v0) (gMo_readStrong v0) (gMo_readRow v0) (gMo_parting v0) (gMo_wasShip v0) (gMo_wasLines v0) (gMo_worst v0) (gMo_logRow v0) (gMo_images v0) (gMo_isKept v0)) C eX11_tide_12 PX11_181 0 rfl rfl rfl (Nat.le_of_ble_eq_true rfl) rfl ?_
  refine r_iconst C (v := 0) eX11_tide_15 (by decide) ?_
  refine r_istore_n C [(1, .int 0), (0, .ref (a0 o0))] eX11_tide_16 rfl (by decide) rfl ?_
  obtain ⟨q2, h3, hf⟩ := zbind hf
  have J4 : vV x 3 0 0 (W_Mo (z_g x) a0 o0 (q2.2.1) (gMo_told v0) (gMo_postX v0) (gMo_postStrong v0) (gMo_atRow v0) (gMo_heights v0) (gMo_ship v0) (gMo_lines v0) (gMo_text v0) (q2.2.2.1) (gMo_readTold v0) (gMo_readX v0) (gMo_readStrong v0) (q2.2.2.2) (gMo_parting v0) (gMo_wasShip v0) (gMo_wasLines v0) (gMo_worst v0) (gMo_logRow v0) (gMo_images v0) (gMo_isKept v0)) 36 [(0, .ref (a0 o0)), (1, .int (q2.1))] [] := by
    refine r_aload_n C eX11_tide_36 0 rfl rfl ?_
    refine r_iconst C (v := 0) eX11_tide_37 (by decide) ?_
    refine r_put (ws' := W_Mo (z_g x) a0 o0 (upd (q2.2.1) 11 0) (gMo_told v0) (gMo_postX v0) (gMo_postStrong v0) (gMo_atRow v0) (gMo_heights v0) (gMo_ship v0) (gMo_lines v0) (gMo_text v0) (q2.2.2.1) (gMo_readTold v0) (gMo_readX v0) (gMo_readStrong v0) (q2.2.2.2) (gMo_parting v0) (gMo_wasShip v0) (gMo_wasLines v0) (gMo_worst v0) (gMo_logRow v0) (gMo_images v0) (gMo_isKept v0)) C eX11_tide_38 PX11_91 0 rfl rfl rfl (Nat.le_of_ble_eq_true rfl) rfl ?_
    refine r_iload_n C eX11_tide_41 1 rfl rfl ?_
    refine r_if_le C eX11_tide_42 (fun c10 => ?_) (fun c10 => ?_)
    · rw [if_pos c10] at hf
      refine r_aload_n C eX11_tide_50 0 rfl rfl ?_
      refine r_aload_n C eX11_tide_51 0 rfl rfl ?_
      refine r_get (v := .int ((q2.2.1) 24)) C eX11_tide_52 FX11_181 0 rfl rfl ?_
      refine r_put (ws' := W_Mo (z_g x) a0 o0 (upd (upd (q2.2.1) 11 0) 6 ((q2.2.1) 24)) (gMo_told v0) (gMo_postX v0) (gMo_postStrong v0) (gMo_atRow v0) (gMo_heights v0) (gMo_ship v0) (gMo_lines v0) (gMo_text v0) (q2.2.2.1) (gMo_readTold v0) (gMo_readX v0) (gMo_readStrong v0) (q2.2.2.2) (gMo_parting v0) (gMo_wasShip v0) (gMo_wasLines v0) (gMo_worst v0) (gMo_logRow v0) (gMo_images v0) (gMo_isKept v0)) C eX11_tide_55 PX11_193 0 rfl rfl rfl (Nat.le_of_ble_eq_true rfl) rfl ?_
      refine r_iconst C (v := 0) eX11_tide_58 (by decide) ?_
      refine r_istore_n C [(2, .int 0), (0, .ref (a0 o0)), (1, .int (q2.1))] eX11_tide_59 rfl (by decide) rfl ?_
      obtain ⟨q12, h13, hf⟩ := zbind hf
      have J14 : vV x 3 0 0 (W_Mo (z_g x) a0 o0 (upd (upd (q2.2.1) 11 0) 6 ((q2.2.1) 24)) (gMo_told v0) (gMo_postX v0) (gMo_postStrong v0) (gMo_atRow v0) (q12.2) (gMo_ship v0) (gMo_lines v0) (gMo_text v0) (q2.2.2.1) (gMo_readTold v0) (gMo_readX v0) (gMo_readStrong v0) (q2.2.2.2) (gMo_parting v0) (gMo_wasShip v0) (gMo_wasLines v0) (gMo_worst v0) (gMo_logRow v0) (gMo_images v0) (gMo_isKept v0)) 84 [(0, .ref (a0 o0))] [] := by
        refine r_aload_n C eX11_tide_84 0 rfl rfl ?_
        refine r_get (v := .int ((q2.2.1) 24)) C eX11_tide_85 FX11_193 0 rfl rfl ?_
        obtain rfl := Option.some.inj (show some ((((q2.2.1) 24), (upd (upd (q2.2.1) 11 0) 6 ((q2.2.1) 24)), (q12.2), (q2.2.2.1), (q2.2.2.2)) : Int32 × (Nat → Int32) × (Nat → Int32) × Int64 × (Nat → Int32)) = some _ from hf)
        exact hret _ _ _ eX11_tide_88
      have L15 : ∀ (nL15 : Nat) (s11 : Int32 × (Nat → Int32)), lp (fB_Mo_tide_60 q2) nL15 s11 = some q12 → vV x 3 0 0 (W_Mo (z_g x) a0 o0 (upd (upd (q2.2.1) 11 0) 6 ((q2.2.1) 24)) (gMo_told v0) (gMo_postX v0) (gMo_postStrong v0) (gMo_atRow v0) (s11.2) (gMo_ship v0) (gMo_lines v0) (gMo_text v0) (q2.2.2.1) (gMo_readTold v0) (gMo_readX v0) (gMo_readStrong v0) (q2.2.2.2) (gMo_parting v0) (gMo_wasShip v0) (gMo_wasLines v0) (gMo_worst v0) (gMo_logRow v0) (gMo_images v0) (gMo_isKept v0)) 60 [(0, .ref (a0 o0)), (2, .int (s11.1))] [] := by
        intro nL15
        induction nL15 with
        | zero => intro s11 hq; cases hq
        | succ nL15 ihL15 =>
          intro s11 hbL15
          rw [lp_succ, fB_Mo_tide_60] at hbL15
          refine r_iload_n C eX11_tide_60 1 rfl rfl ?_
          refine r_bipush C (v := 24) eX11_tide_61 (by decide) ?_
          refine r_icmp_ge C eX11_tide_63 (fun c16 => ?_) (fun c16 => ?_)
          · rw [if_pos c16] at hbL15
            obtain rfl := Option.some.inj hbL15
            refine r_sub (lv' := [(0, .ref (a0 o0))]) [0] rfl ?_
            exact J14
          · rw [if_neg c16] at hbL15
            refine r_aload_n C eX11_tide_66 0 rfl rfl ?_
            refine r_get (v := .ref (a0 (o0 + 5))) C eX11_tide_67 FX11_22 0 rfl rfl ?_
            refine r_iload_n C eX11_tide_70 1 rfl rfl ?_
            refine r_aload_n C eX11_tide_71 0 rfl rfl ?_
            refine r_get (v := .ref (a0 (o0 + 12))) C eX11_tide_72 FX11_48 0 rfl rfl ?_
            refine r_iload_n C eX11_tide_75 1 rfl rfl ?_
            obtain ⟨hb17, hbL15⟩ := zchk hbL15
            refine r_iald C eX11_tide_76 12 rfl (inb_in hb17) ((q2.2.2.2) (ix (s11.1))) rfl ?_
            obtain ⟨hb18, hbL15⟩ := zchk hbL15
            refine r_iast (ws' := W_Mo (z_g x) a0 o0 (upd (upd (q2.2.1) 11 0) 6 ((q2.2.1) 24)) (gMo_told v0) (gMo_postX v0) (gMo_postStrong v0) (gMo_atRow v0) (upd (s11.2) (ix (s11.1)) ((q2.2.2.2) (ix (s11.1)))) (gMo_ship v0) (gMo_lines v0) (gMo_text v0) (q2.2.2.1) (gMo_readTold v0) (gMo_readX v0) (gMo_readStrong v0) (q2.2.2.2) (gMo_parting v0) (gMo_wasShip v0) (gMo_wasLines v0) (gMo_worst v0) (gMo_logRow v0) (gMo_images v0) (gMo_isKept v0)) C eX11_tide_77 5 rfl (inb_in hb18) rfl ?_
            refine r_iinc C (v := ((s11.1) + 1)) [(2, .int ((s11.1) + 1)), (0, .ref (a0 o0))] eX11_tide_78 1 rfl rfl (by decide) rfl ?_
            refine r_goto C eX11_tide_81 ?_
            refine r_sub (lv' := [(0, .ref (a0 o0)), (2, .int ((s11.1) + 1))]) [1, 0] rfl ?_
            have hc := ihL15 (((s11.1) + 1), (upd (s11.2) (ix (s11.1)) ((q2.2.2.2) (ix (s11.1))))) hbL15
            exact hc
      refine r_sub (lv' := [(0, .ref (a0 o0)), (2, .int 0)]) [1, 0] rfl ?_
      have hc := L15 LF (0, (gMo_heights v0)) h13
      exact hc
    · rw [if_neg c10] at hf
      refine r_bipush C (v := (-10)) eX11_tide_45 (by decide) ?_
      refine r_iload_n C eX11_tide_47 1 rfl rfl ?_
      refine r_isub C eX11_tide_48 ?_
      obtain rfl := Option.some.inj (show some ((((-10) - (q2.1)), (upd (q2.2.1) 11 0), (gMo_heights v0), (q2.2.2.1), (q2.2.2.2)) : Int32 × (Nat → Int32) × (Nat → Int32) × Int64 × (Nat → Int32)) = some _ from hf)
      exact hret _ _ _ eX11_tide_49
  have L5 : ∀ (nL5 : Nat) (s1 : Int32 × (Nat → Int32) × Int64 × (Nat → Int32)), lp (fB_Mo_tide_17 v0) nL5 s1 = some q2 → vV x 3 0 0 (W_Mo (z_g x) a0 o0 (s1.2.1) (gMo_told v0) (gMo_postX v0) (gMo_postStrong v0) (gMo_atRow v0) (gMo_heights v0) (gMo_ship v0) (gMo_lines v0) (gMo_text v0) (s1.2.2.1) (gMo_readTold v0) (gMo_readX v0) (gMo_readStrong v0) (s1.2.2.2) (gMo_parting v0) (gMo_wasShip v0) (gMo_wasLines v0) (gMo_worst v0) (gMo_logRow v0) (gMo_images v0) (gMo_isKept v0)) 17 [(0, .ref (a0 o0)), (1, .int (s1.1))] [] := by
    intro nL5
    induction nL5 with
    | zero => intro s1 hq; cases hq
    | succ nL5 ihL5 =>
      intro s1 hbL5
      rw [lp_succ, fB_Mo_tide_17] at hbL5
      refine r_iload_n C eX11_tide_17 1 rfl rfl ?_
      refine r_if_ne C eX11_tide_18 (fun c6 => ?_) (fun c6 => ?_)
      · rw [if_neg c6] at hbL5
        obtain rfl := Option.some.inj hbL5
        exact J4
      · rw [if_pos c6] at hbL5
        refine r_aload_n C eX11_tide_21 0 rfl rfl ?_
        obtain ⟨r7, hr7, hbL5⟩ := zbind hbL5
        refine r_V_i (ws' := W_Mo (z_g x) a0 o0 (r7.2) (gMo_told v0) (gMo_postX v0) (gMo_postStrong v0) (gMo_atRow v0) (gMo_heights v0) (gMo_ship v0) (gMo_lines v0) (gMo_text v0) (s1.2.2.1) (gMo_readTold v0) (gMo_readX v0) (gMo_readStrong v0) (s1.2.2.2) (gMo_parting v0) (gMo_wasShip v0) (gMo_wasLines v0) (gMo_worst v0) (gMo_logRow v0) (gMo_images v0) (gMo_isKept v0)) C (c_Mo_here (z_l x) (z_g x) a0 o0 ((s1.2.1), (gMo_told v0), (gMo_postX v0), (gMo_postStrong v0), (gMo_atRow v0), (gMo_heights v0), (gMo_ship v0), (gMo_lines v0), (gMo_text v0), (s1.2.2.1), (gMo_readTold v0), (gMo_readX v0), (gMo_readStrong v0), (s1.2.2.2), (gMo_parting v0), (gMo_wasShip v0), (gMo_wasLines v0), (gMo_worst v0), (gMo_logRow v0), (gMo_images v0), (gMo_isKept v0))  r7 hr7) eX11_tide_22 MX11_100 ⟨0, 11, _, _, rfl, rfl, rfl⟩ [0, 1, 2, 3, 4, 5, 6, 7, 8, 9, 10, 11, 12, 13, 14, 15, 16, 17, 18, 19] rfl rfl rfl rfl [] rfl trivial 20 rfl rfl rfl rfl rfl rfl ?_
        refine r_if_lt C eX11_tide_25 (fun c8 => ?_) (fun c8 => ?_)
        · rw [if_pos c8] at hbL5
          obtain rfl := Option.some.inj hbL5
          exact J4
        · rw [if_neg c8] at hbL5
          refine r_aload_n C eX11_tide_28 0 rfl rfl ?_
          obtain ⟨r9, hr9, hbL5⟩ := zbind hbL5
          refine r_V_i (ws' := W_Mo (z_g x) a0 o0 (r9.2.1) (gMo_told v0) (gMo_postX v0) (gMo_postStrong v0) (gMo_atRow v0) (gMo_heights v0) (gMo_ship v0) (gMo_lines v0) (gMo_text v0) (r9.2.2.1) (gMo_readTold v0) (gMo_readX v0) (gMo_readStrong v0) (r9.2.2.2) (gMo_parting v0) (gMo_wasShip v0) (gMo_wasLines v0) (gMo_worst v0) (gMo_logRow v0) (gMo_images v0) (gMo_isKept v0)) C (c_Mo_takeHour (z_l x) (z_g x) a0 o0 ((r7.2), (gMo_told v0), (gMo_postX v0), (gMo_postStrong v0), (gMo_atRow v0), (gMo_heights v0), (gMo_ship v0), (gMo_lines v0), (gMo_text v0), (s1.2.2.1), (gMo_readTold v0), (gMo_readX v0), (gMo_readStrong v0), (s1.2.2.2), (gMo_parting v0), (gMo_wasShip v0), (gMo_wasLines v0), (gMo_worst v0), (gMo_logRow v0), (gMo_images v0), (gMo_isKept v0))  r9 hr9) eX11_tide_29 MX11_190 ⟨0, 11, _, _, rfl, rfl, rfl⟩ [0, 1, 2, 3, 4, 5, 6, 7, 8, 9, 10, 11, 12, 13, 14, 15, 16, 17, 18, 19] rfl rfl rfl rfl [] rfl trivial 20 rfl rfl rfl rfl rfl rfl ?_
          refine r_istore_n C [(1, .int (r9.1)), (0, .ref (a0 o0))] eX11_tide_32 rfl (by decide) rfl ?_
          refine r_goto C eX11_tide_33 ?_
          refine r_sub (lv' := [(0, .ref (a0 o0)), (1, .int (r9.1))]) [1, 0] rfl ?_
          have hc := ihL5 ((r9.1), (r9.2.1), (r9.2.2.1), (r9.2.2.2)) hbL5
          exact hc
  refine r_sub (lv' := [(0, .ref (a0 o0)), (1, .int 0)]) [1, 0] rfl ?_
  have hc := L5 LF (0, (upd (upd (upd (gMo_ints v0) 12 (-1)) 13 0) 24 0), (gMo_said v0), (gMo_readRow v0)) h3
  exact hc
theorem eX11_told_0 : zd 1 cX11_told 0 1 (.iload_n 1) := ⟨by decide +kernel, rfl⟩
theorem eX11_told_1 : zd 1 cX11_told 1 2 (.i2l) := ⟨by decide +kernel, rfl⟩
theorem eX11_told_2 : zd 1 cX11_told 2 3 (.lconst 0) := ⟨by decide +kernel, rfl⟩
theorem eX11_told_3 : zd 3 cX11_told 3 6 (.ldc2_w 196) := ⟨by decide +kernel, rfl⟩
theorem eX11_told_6 : zd 3 cX11_told 6 9 (.invokestatic 86) := ⟨by decide +kernel, rfl⟩
theorem eX11_told_9 : zdi cX11_told 9 12 19 (.ifCond .eq) := ⟨10, by decide +kernel, rfl, by decide⟩
theorem eX11_told_12 : zd 1 cX11_told 12 13 (.aload_n 0) := ⟨by decide +kernel, rfl⟩
theorem eX11_told_13 : zd 3 cX11_told 13 16 (.getfield 7) := ⟨by decide +kernel, rfl⟩
theorem eX11_told_16 : zd 1 cX11_told 16 17 (.iload_n 1) := ⟨by decide +kernel, rfl⟩
theorem eX11_told_17 : zd 1 cX11_told 17 18 (.iaload) := ⟨by decide +kernel, rfl⟩
theorem eX11_told_18 : zd 1 cX11_told 18 19 (.ireturn) := ⟨by decide +kernel, rfl⟩
theorem eX11_told_19 : zd 1 cX11_told 19 20 (.iload_n 1) := ⟨by decide +kernel, rfl⟩
theorem eX11_told_20 : zd 2 cX11_told 20 22 (.bipush 13) := ⟨by decide +kernel, rfl⟩
theorem eX11_told_22 : zdi cX11_told 22 25 32 (.if_icmp .ne) := ⟨10, by decide +kernel, rfl, by decide⟩
theorem eX11_told_25 : zd 1 cX11_told 25 26 (.aload_n 0) := ⟨by decide +kernel, rfl⟩
theorem eX11_told_26 : zd 3 cX11_told 26 29 (.getfield 176) := ⟨by decide +kernel, rfl⟩
theorem eX11_told_29 : zdi cX11_told 29 32 73 (.goto) := ⟨44, by decide +kernel, rfl, by decide⟩
theorem eX11_told_32 : zd 1 cX11_told 32 33 (.iload_n 1) := ⟨by decide +kernel, rfl⟩
theorem eX11_told_33 : zd 2 cX11_told 33 35 (.bipush 14) := ⟨by decide +kernel, rfl⟩
theorem eX11_told_35 : zdi cX11_told 35 38 45 (.if_icmp .ne) := ⟨10, by decide +kernel, rfl, by decide⟩
theorem eX11_told_38 : zd 1 cX11_told 38 39 (.aload_n 0) := ⟨by decide +kernel, rfl⟩
theorem eX11_told_39 : zd 3 cX11_told 39 42 (.getfield 187) := ⟨by decide +kernel, rfl⟩
theorem eX11_told_42 : zdi cX11_told 42 45 73 (.goto) := ⟨31, by decide +kernel, rfl, by decide⟩
theorem eX11_told_45 : zd 1 cX11_told 45 46 (.iload_n 1) := ⟨by decide +kernel, rfl⟩
theorem eX11_told_46 : zd 2 cX11_told 46 48 (.bipush 15) := ⟨by decide +kernel, rfl⟩
theorem eX11_told_48 : zdi cX11_told 48 51 58 (.if_icmp .ne) := ⟨10, by decide +kernel, rfl, by decide⟩
theorem eX11_told_51 : zd 1 cX11_told 51 52 (.aload_n 0) := ⟨by decide +kernel, rfl⟩
theorem eX11_told_52 : zd 3 cX11_told 52 55 (.getfield 193) := ⟨by decide +kernel, rfl⟩
theorem eX11_told_55 : zdi cX11_told 55 58 73 (.goto) := ⟨18, by decide +kernel, rfl, by decide⟩
theorem eX11_told_58 : zd 1 cX11_told 58 59 (.iload_n 1) := ⟨by decide +kernel, rfl⟩
theorem eX11_told_59 : zd 2 cX11_told 59 61 (.bipush 16) := ⟨by decide +kernel, rfl⟩
theorem eX11_told_61 : zdi cX11_told 61 64 71 (.if_icmp .ne) := ⟨10, by decide +kernel, rfl, by decide⟩
theorem eX11_told_64 : zd 1 cX11_told 64 65 (.aload_n 0) := ⟨by decide +kernel, rfl⟩
theorem eX11_told_65 : zd 3 cX11_told 65 68 (.getfield 91) := ⟨by decide +kernel, rfl⟩
theorem eX11_told_68 : zdi cX11_told 68 71 73 (.goto) := ⟨5, by decide +kernel, rfl, by decide⟩
theorem eX11_told_71 : zd 2 cX11_told 71 73 (.ldc 90) := ⟨by decide +kernel, rfl⟩
theorem eX11_told_73 : zd 1 cX11_told 73 74 (.ireturn) := ⟨by decide +kernel, rfl⟩
noncomputable def f_Mo_told (v0 : tMo) (p1 : Int32) : Option (Int32) := (if (f_Mo_in p1.toInt64 0 12) = 0 then (if p1 = 13 then (some ((gMo_ints v0) 1)) else (if p1 = 14 then (some ((gMo_ints v0) 4)) else (if p1 = 15 then (some ((gMo_ints v0) 6)) else (if p1 = 16 then (some ((gMo_ints v0) 11)) else (some (-1000000002)))))) else (if inb p1 13 = true then (some ((gMo_told v0) (ix p1))) else none))
abbrev rm_Mo_told : Room := { frames := 1, cells := 0, slots := 0, locals := 25 }
set_option maxHeartbeats 4000000 in
set_option maxRecDepth 100000 in
theorem c_Mo_told (l : Launch) (g : zGl) (a0 : Nat → Nat) (o0 : Nat) (v0 : tMo) (p1 : Int32) (out : Int32) (hf : f_Mo_told v0 p1 = some out) : zMi l yX11_told cX11_told 2 rm_Mo_told g [.ref (a0 o0), .int p1] (W_Mo g a0 o0 (gMo_ints v0) (gMo_told v0) (gMo_postX v0) (gMo_postStrong v0) (gMo_atRow v0) (gMo_heights v0) (gMo_ship v0) (gMo_lines v0) (gMo_text v0) (gMo_said v0) (gMo_readTold v0) (gMo_readX v0) (gMo_readStrong v0) (gMo_readRow v0) (gMo_parting v0) (gMo_wasShip v0) (gMo_wasLines v0) (gMo_worst v0) (gMo_logRow v0) (gMo_images v0) (gMo_isKept v0)) out (W_Mo g a0 o0 (gMo_ints v0) (gMo_told v0) (gMo_postX v0) (gMo_postStrong v0) (gMo_atRow v0) (gMo_heights v0) (gMo_ship v0) (gMo_lines v0) (gMo_text v0) (gMo_said v0) (gMo_readTold v0) (gMo_readX v0) (gMo_readStrong v0) (gMo_readRow v0) (gMo_parting v0) (gMo_wasShip v0) (gMo_wasLines v0) (gMo_worst v0) (gMo_logRow v0) (gMo_images v0) (gMo_isKept v0)) := by
  refine zMi_of (lv := [(0, .ref (a0 o0)), (1, .int p1)]) (by decide) (Nat.le_of_ble_eq_true rfl) rfl (fun x hl hg C hret => ?_)
  subst hl; subst hg
  rw [f_Mo_told] at hf
  refine r_iload_n C eX11_told_0 1 rfl rfl ?_
  refine r_i2l C eX11_told_1 ?_
  refine r_lconst C (v := 0) eX11_told_2 (by decide) ?_
  refine r_ldc2 C (v := 12) eX11_told_3 q1267 ?_
  refine r_S_z (ws' := W_Mo (z_g x) a0 o0 (gMo_ints v0) (gMo_told v0) (gMo_postX v0) (gMo_postStrong v0) (gMo_atRow v0) (gMo_heights v0) (gMo_ship v0) (gMo_lines v0) (gMo_text v0) (gMo_said v0) (gMo_readTold v0) (gMo_readX v0) (gMo_readStrong v0) (gMo_readRow v0) (gMo_parting v0) (gMo_wasShip v0) (gMo_wasLines v0) (gMo_worst v0) (gMo_logRow v0) (gMo_images v0) (gMo_isKept v0)) C (c_Mo_in (z_l x) (z_g x)  p1.toInt64 0 12 _ rfl) eX11_told_6 MX11_86 [] rfl rfl rfl rfl [0, 1, 2, 3, 4, 5, 6, 7, 8, 9, 10, 11, 12, 13, 14, 15, 16, 17, 18, 19] rfl ⟨rfl, rfl, rfl, rfl, rfl, rfl, rfl, rfl, rfl, rfl, rfl, rfl, rfl, rfl, rfl, rfl, rfl, rfl, rfl, rfl, trivial⟩ 20 rfl rfl rfl rfl rfl rfl (fun zb1 => ?_)
  refine r_if_eq C eX11_told_9 (fun c2 => ?_) (fun c2 => ?_)
  · rw [if_pos c2] at hf
    refine r_iload_n C eX11_told_19 1 rfl rfl ?_
    refine r_bipush C (v := 13) eX11_told_20 (by decide) ?_
    refine r_icmp_ne C eX11_told_22 (fun c3 => ?_) (fun c3 => ?_)
    · rw [if_neg c3] at hf
      refine r_iload_n C eX11_told_32 1 rfl rfl ?_
      refine r_bipush C (v := 14) eX11_told_33 (by decide) ?_
      refine r_icmp_ne C eX11_told_35 (fun c4 => ?_) (fun c4 => ?_)
      · rw [if_neg c4] at hf
        refine r_iload_n C eX11_told_45 1 rfl rfl ?_
        refine r_bipush C (v := 15) eX11_told_46 (by decide) ?_
        refine r_icmp_ne C eX11_told_48 (fun c5 => ?_) (fun c5 => ?_)
        · rw [if_neg c5] at hf
          refine r_iload_n C eX11_told_58 1 rfl rfl ?_
          refine r_bipush C (v := 16) eX11_told_59 (by decide) ?_
          refine r_icmp_ne C eX11_told_61 (fun c6 => ?_) (fun c6 => ?_)
          · rw [if_neg c6] at hf
            refine r_ldc C (v := (-1000000002)) eX11_told_71 q1183 ?_
            obtain rfl := Option.some.inj (show some ((-1000000002) : Int32) = some _ from hf)
            exact hret _ _ _ eX11_told_73
          · rw [if_pos c6] at hf
            refine r_aload_n C eX11_told_64 0 rfl rfl ?_
            refine r_get (v := .int ((gMo_ints v0) 11)) C eX11_told_65 FX11_91 0 rfl rfl ?_
            refine r_goto C eX11_told_68 ?_
            obtain rfl := Option.some.inj (show some (((gMo_ints v0) 11) : Int32) = some _ from hf)
            exact hret _ _ _ eX11_told_73
        · rw [if_pos c5] at hf
          refine r_aload_n C eX11_told_51 0 rfl rfl ?_
          refine r_get (v := .int ((gMo_ints v0) 6)) C eX11_told_52 FX11_193 0 rfl rfl ?_
          refine r_goto C eX11_told_55 ?_
          obtain rfl := Option.some.inj (show some (((gMo_ints v0) 6) : Int32) = some _ from hf)
          exact hret _ _ _ eX11_told_73
      · rw [if_pos c4] at hf
        refine r_aload_n C eX11_told_38 0 rfl rfl ?_
        refine r_get (v := .int ((gMo_ints v0) 4)) C eX11_told_39 FX11_187 0 rfl rfl ?_
        refine r_goto C eX11_told_42 ?_
        obtain rfl := Option.some.inj (show some (((gMo_ints v0) 4) : Int32) = some _ from hf)
        exact hret _ _ _ eX11_told_73
    · rw [if_pos c3] at hf
      refine r_aload_n C eX11_told_25 0 rfl rfl ?_
      refine r_get (v := .int ((gMo_ints v0) 1)) C eX11_told_26 FX11_176 0 rfl rfl ?_
      refine r_goto C eX11_told_29 ?_
      obtain rfl := Option.some.inj (show some (((gMo_ints v0) 1) : Int32) = some _ from hf)
      exact hret _ _ _ eX11_told_73
  · rw [if_neg c2] at hf
    refine r_aload_n C eX11_told_12 0 rfl rfl ?_
    refine r_get (v := .ref (a0 (o0 + 1))) C eX11_told_13 FX11_7 0 rfl rfl ?_
    refine r_iload_n C eX11_told_16 1 rfl rfl ?_
    obtain ⟨hb7, hf⟩ := zchk hf
    refine r_iald C eX11_told_17 1 rfl (inb_in hb7) ((gMo_told v0) (ix p1)) rfl ?_
    obtain rfl := Option.some.inj (show some (((gMo_told v0) (ix p1)) : Int32) = some _ from hf)
    exact hret _ _ _ eX11_told_18
