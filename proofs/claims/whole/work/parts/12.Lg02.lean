theorem eX0_weigh_0 : zd 1 cX0_weigh 0 1 (.aload_n 0) := ⟨by decide +kernel, rfl⟩
theorem eX0_weigh_1 : zd 1 cX0_weigh 1 2 (.iconst 0) := ⟨by decide +kernel, rfl⟩
theorem eX0_weigh_2 : zd 3 cX0_weigh 2 5 (.putfield 23) := ⟨by decide +kernel, rfl⟩
theorem eX0_weigh_5 : zd 1 cX0_weigh 5 6 (.iconst 0) := ⟨by decide +kernel, rfl⟩
theorem eX0_weigh_6 : zd 1 cX0_weigh 6 7 (.istore_n 3) := ⟨by decide +kernel, rfl⟩
theorem eX0_weigh_7 : zd 1 cX0_weigh 7 8 (.iload_n 3) := ⟨by decide +kernel, rfl⟩
theorem eX0_weigh_8 : zd 2 cX0_weigh 8 10 (.bipush 6) := ⟨by decide +kernel, rfl⟩
theorem eX0_weigh_10 : zdi cX0_weigh 10 13 89 (.if_icmp .ge) := ⟨79, by decide +kernel, rfl, by decide⟩
theorem eX0_weigh_13 : zd 1 cX0_weigh 13 14 (.aload_n 2) := ⟨by decide +kernel, rfl⟩
theorem eX0_weigh_14 : zd 3 cX0_weigh 14 17 (.getfield 27) := ⟨by decide +kernel, rfl⟩
theorem eX0_weigh_17 : zd 1 cX0_weigh 17 18 (.iload_n 3) := ⟨by decide +kernel, rfl⟩
theorem eX0_weigh_18 : zd 3 cX0_weigh 18 21 (.invokevirtual 33) := ⟨by decide +kernel, rfl⟩
theorem eX0_weigh_21 : zdi cX0_weigh 21 24 83 (.ifCond .eq) := ⟨62, by decide +kernel, rfl, by decide⟩
theorem eX0_weigh_24 : zd 1 cX0_weigh 24 25 (.aload_n 0) := ⟨by decide +kernel, rfl⟩
theorem eX0_weigh_25 : zd 1 cX0_weigh 25 26 (.dup) := ⟨by decide +kernel, rfl⟩
theorem eX0_weigh_26 : zd 3 cX0_weigh 26 29 (.getfield 23) := ⟨by decide +kernel, rfl⟩
theorem eX0_weigh_29 : zd 1 cX0_weigh 29 30 (.iconst 1) := ⟨by decide +kernel, rfl⟩
theorem eX0_weigh_30 : zd 1 cX0_weigh 30 31 (.iload_n 3) := ⟨by decide +kernel, rfl⟩
theorem eX0_weigh_31 : zd 1 cX0_weigh 31 32 (.ishl) := ⟨by decide +kernel, rfl⟩
theorem eX0_weigh_32 : zd 1 cX0_weigh 32 33 (.ior) := ⟨by decide +kernel, rfl⟩
theorem eX0_weigh_33 : zd 3 cX0_weigh 33 36 (.putfield 23) := ⟨by decide +kernel, rfl⟩
theorem eX0_weigh_36 : zd 1 cX0_weigh 36 37 (.aload_n 0) := ⟨by decide +kernel, rfl⟩
theorem eX0_weigh_37 : zd 3 cX0_weigh 37 40 (.getfield 11) := ⟨by decide +kernel, rfl⟩
theorem eX0_weigh_40 : zd 1 cX0_weigh 40 41 (.iload_n 3) := ⟨by decide +kernel, rfl⟩
theorem eX0_weigh_41 : zd 1 cX0_weigh 41 42 (.iconst 1) := ⟨by decide +kernel, rfl⟩
theorem eX0_weigh_42 : zd 1 cX0_weigh 42 43 (.aload_n 2) := ⟨by decide +kernel, rfl⟩
theorem eX0_weigh_43 : zd 1 cX0_weigh 43 44 (.aload_n 1) := ⟨by decide +kernel, rfl⟩
theorem eX0_weigh_44 : zd 1 cX0_weigh 44 45 (.aload_n 2) := ⟨by decide +kernel, rfl⟩
theorem eX0_weigh_45 : zd 3 cX0_weigh 45 48 (.getfield 27) := ⟨by decide +kernel, rfl⟩
theorem eX0_weigh_48 : zd 3 cX0_weigh 48 51 (.getfield 37) := ⟨by decide +kernel, rfl⟩
theorem eX0_weigh_51 : zd 1 cX0_weigh 51 52 (.iload_n 3) := ⟨by decide +kernel, rfl⟩
theorem eX0_weigh_52 : zd 1 cX0_weigh 52 53 (.iaload) := ⟨by decide +kernel, rfl⟩
theorem eX0_weigh_53 : zd 3 cX0_weigh 53 56 (.invokevirtual 40) := ⟨by decide +kernel, rfl⟩
theorem eX0_weigh_56 : zd 3 cX0_weigh 56 59 (.invokevirtual 46) := ⟨by decide +kernel, rfl⟩
theorem eX0_weigh_59 : zd 2 cX0_weigh 59 61 (.bipush 10) := ⟨by decide +kernel, rfl⟩
theorem eX0_weigh_61 : zd 1 cX0_weigh 61 62 (.idiv) := ⟨by decide +kernel, rfl⟩
theorem eX0_weigh_62 : zd 1 cX0_weigh 62 63 (.iadd) := ⟨by decide +kernel, rfl⟩
theorem eX0_weigh_63 : zd 1 cX0_weigh 63 64 (.iastore) := ⟨by decide +kernel, rfl⟩
theorem eX0_weigh_64 : zd 1 cX0_weigh 64 65 (.aload_n 0) := ⟨by decide +kernel, rfl⟩
theorem eX0_weigh_65 : zd 3 cX0_weigh 65 68 (.getfield 17) := ⟨by decide +kernel, rfl⟩
theorem eX0_weigh_68 : zd 1 cX0_weigh 68 69 (.iload_n 3) := ⟨by decide +kernel, rfl⟩
theorem eX0_weigh_69 : zd 1 cX0_weigh 69 70 (.aload_n 1) := ⟨by decide +kernel, rfl⟩
theorem eX0_weigh_70 : zd 1 cX0_weigh 70 71 (.aload_n 2) := ⟨by decide +kernel, rfl⟩
theorem eX0_weigh_71 : zd 3 cX0_weigh 71 74 (.getfield 27) := ⟨by decide +kernel, rfl⟩
theorem eX0_weigh_74 : zd 3 cX0_weigh 74 77 (.getfield 49) := ⟨by decide +kernel, rfl⟩
theorem eX0_weigh_77 : zd 1 cX0_weigh 77 78 (.iload_n 3) := ⟨by decide +kernel, rfl⟩
theorem eX0_weigh_78 : zd 1 cX0_weigh 78 79 (.iaload) := ⟨by decide +kernel, rfl⟩
theorem eX0_weigh_79 : zd 3 cX0_weigh 79 82 (.invokevirtual 52) := ⟨by decide +kernel, rfl⟩
theorem eX0_weigh_82 : zd 1 cX0_weigh 82 83 (.iastore) := ⟨by decide +kernel, rfl⟩
theorem eX0_weigh_83 : zd 3 cX0_weigh 83 86 (.iinc 3 1) := ⟨by decide +kernel, rfl⟩
theorem eX0_weigh_86 : zdi cX0_weigh 86 89 7 (.goto) := ⟨(-79), by decide +kernel, rfl, by decide⟩
theorem eX0_weigh_89 : zd 1 cX0_weigh 89 90 (.aload_n 1) := ⟨by decide +kernel, rfl⟩
theorem eX0_weigh_90 : zd 3 cX0_weigh 90 93 (.getfield 55) := ⟨by decide +kernel, rfl⟩
theorem eX0_weigh_93 : zd 1 cX0_weigh 93 94 (.aload_n 1) := ⟨by decide +kernel, rfl⟩
theorem eX0_weigh_94 : zd 3 cX0_weigh 94 97 (.getfield 58) := ⟨by decide +kernel, rfl⟩
theorem eX0_weigh_97 : zd 1 cX0_weigh 97 98 (.imul) := ⟨by decide +kernel, rfl⟩
theorem eX0_weigh_98 : zd 2 cX0_weigh 98 100 (.bipush 10) := ⟨by decide +kernel, rfl⟩
theorem eX0_weigh_100 : zd 1 cX0_weigh 100 101 (.imul) := ⟨by decide +kernel, rfl⟩
theorem eX0_weigh_101 : zd 1 cX0_weigh 101 102 (.istore_n 3) := ⟨by decide +kernel, rfl⟩
theorem eX0_weigh_102 : zd 1 cX0_weigh 102 103 (.aload_n 0) := ⟨by decide +kernel, rfl⟩
theorem eX0_weigh_103 : zd 3 cX0_weigh 103 106 (.getfield 20) := ⟨by decide +kernel, rfl⟩
theorem eX0_weigh_106 : zd 1 cX0_weigh 106 107 (.iconst 0) := ⟨by decide +kernel, rfl⟩
theorem eX0_weigh_107 : zd 1 cX0_weigh 107 108 (.iconst 0) := ⟨by decide +kernel, rfl⟩
theorem eX0_weigh_108 : zd 1 cX0_weigh 108 109 (.iastore) := ⟨by decide +kernel, rfl⟩
theorem eX0_weigh_109 : zd 1 cX0_weigh 109 110 (.iconst 1) := ⟨by decide +kernel, rfl⟩
theorem eX0_weigh_110 : zd 2 cX0_weigh 110 112 (.istore 4) := ⟨by decide +kernel, rfl⟩
theorem eX0_weigh_112 : zd 2 cX0_weigh 112 114 (.iload 4) := ⟨by decide +kernel, rfl⟩
theorem eX0_weigh_114 : zd 2 cX0_weigh 114 116 (.bipush 64) := ⟨by decide +kernel, rfl⟩
theorem eX0_weigh_116 : zdi cX0_weigh 116 119 160 (.if_icmp .ge) := ⟨44, by decide +kernel, rfl, by decide⟩
theorem eX0_weigh_119 : zd 2 cX0_weigh 119 121 (.iload 4) := ⟨by decide +kernel, rfl⟩
theorem eX0_weigh_121 : zd 1 cX0_weigh 121 122 (.aload_n 0) := ⟨by decide +kernel, rfl⟩
theorem eX0_weigh_122 : zd 3 cX0_weigh 122 125 (.getfield 23) := ⟨by decide +kernel, rfl⟩
theorem eX0_weigh_125 : zd 1 cX0_weigh 125 126 (.iand) := ⟨by decide +kernel, rfl⟩
theorem eX0_weigh_126 : zd 2 cX0_weigh 126 128 (.iload 4) := ⟨by decide +kernel, rfl⟩
theorem eX0_weigh_128 : zdi cX0_weigh 128 131 154 (.if_icmp .ne) := ⟨26, by decide +kernel, rfl, by decide⟩
theorem eX0_weigh_131 : zd 1 cX0_weigh 131 132 (.aload_n 0) := ⟨by decide +kernel, rfl⟩
theorem eX0_weigh_132 : zd 3 cX0_weigh 132 135 (.getfield 20) := ⟨by decide +kernel, rfl⟩
theorem eX0_weigh_135 : zd 2 cX0_weigh 135 137 (.iload 4) := ⟨by decide +kernel, rfl⟩
theorem eX0_weigh_137 : zd 1 cX0_weigh 137 138 (.aload_n 0) := ⟨by decide +kernel, rfl⟩
theorem eX0_weigh_138 : zd 2 cX0_weigh 138 140 (.iload 4) := ⟨by decide +kernel, rfl⟩
theorem eX0_weigh_140 : zd 1 cX0_weigh 140 141 (.iload_n 3) := ⟨by decide +kernel, rfl⟩
theorem eX0_weigh_141 : zd 3 cX0_weigh 141 144 (.invokevirtual 61) := ⟨by decide +kernel, rfl⟩
theorem eX0_weigh_144 : zd 1 cX0_weigh 144 145 (.aload_n 0) := ⟨by decide +kernel, rfl⟩
theorem eX0_weigh_145 : zd 2 cX0_weigh 145 147 (.iload 4) := ⟨by decide +kernel, rfl⟩
theorem eX0_weigh_147 : zd 3 cX0_weigh 147 150 (.invokevirtual 65) := ⟨by decide +kernel, rfl⟩
theorem eX0_weigh_150 : zd 3 cX0_weigh 150 153 (.invokestatic 68) := ⟨by decide +kernel, rfl⟩
theorem eX0_weigh_153 : zd 1 cX0_weigh 153 154 (.iastore) := ⟨by decide +kernel, rfl⟩
theorem eX0_weigh_154 : zd 3 cX0_weigh 154 157 (.iinc 4 1) := ⟨by decide +kernel, rfl⟩
theorem eX0_weigh_157 : zdi cX0_weigh 157 160 112 (.goto) := ⟨(-45), by decide +kernel, rfl, by decide⟩
theorem eX0_weigh_160 : zd 1 cX0_weigh 160 161 (.return_) := ⟨by decide +kernel, rfl⟩
theorem FX0_27 : zlF RX0 27 7 14 := ⟨(RX7, TX7, 18), rfl, by decide, q256, zin7⟩
theorem FX0_37 : zlF RX0 37 1 1 := ⟨(RX1, TX1, 4), rfl, by decide, q211, zin1⟩
theorem FX0_49 : zlF RX0 49 1 2 := ⟨(RX1, TX1, 4), rfl, by decide, q215, zin1⟩
theorem FX0_55 : zlF RX0 55 4 10 := ⟨(RX4, TX4, 16), rfl, by decide, q77, zin4⟩
theorem FX0_58 : zlF RX0 58 4 3 := ⟨(RX4, TX4, 16), rfl, by decide, q62, zin4⟩
theorem PX0_23 : zlP RX0 23 0 3 .int := ⟨(RX0, TX0, 4), tyX0, rfl, by decide, q342, zin0, tyX0_ok, nmX0, rfl, by decide +kernel⟩
theorem MX0_33 : zlV RX0 33 yX1_isFast cX1_isFast 2 ((Option.some FieldType.boolean)) 1 := ⟨q1000, q798, q799, q8, q800, by decide, by decide, by decide +kernel⟩
theorem MX0_40 : zlV RX0 40 yX4_arm cX4_arm 2 ((Option.some FieldType.int)) 1 := ⟨q1001, q688, q689, q4, q690, by decide, by decide, by decide +kernel⟩
theorem MX0_46 : zlV RX0 46 yX7_wayOff cX7_wayOff 2 ((Option.some FieldType.int)) 1 := ⟨q1002, q692, q693, q7, q694, by decide, by decide, by decide +kernel⟩
theorem MX0_52 : zlV RX0 52 yX4_postStrength cX4_postStrength 2 ((Option.some FieldType.int)) 1 := ⟨q1003, q655, q656, q4, q657, by decide, by decide, by decide +kernel⟩
theorem MX0_61 : zlV RX0 61 yX0_strainOf cX0_strainOf 6 ((Option.some FieldType.int)) 2 := ⟨q1004, q1006, qs22, q11, q1007, by decide, by decide, by decide +kernel⟩
theorem MX0_65 : zlV RX0 65 yX0_bestAfterOne cX0_bestAfterOne 4 ((Option.some FieldType.int)) 1 := ⟨q1012, q1014, qs23, q11, q1015, by decide, by decide, by decide +kernel⟩
noncomputable def fB_Lg_weigh_7 (v1 : tQu) (v2 : tSh) (ih : (Int32 × (Nat → Int32) × (Nat → Int32) × (Nat → Int32)) → Option (Int32 × (Nat → Int32) × (Nat → Int32) × (Nat → Int32))) (s1 : Int32 × (Nat → Int32) × (Nat → Int32) × (Nat → Int32)) : Option (Int32 × (Nat → Int32) × (Nat → Int32) × (Nat → Int32)) := (if 6 ≤ (s1.1) then (some ((s1.1), (s1.2.1), (s1.2.2.1), (s1.2.2.2))) else (Option.bind (f_Li_isFast (gSh_lines v2) (s1.1)) (fun (r7 : Int32) => (if r7 = 0 then (ih (((s1.1) + 1), (s1.2.1), (s1.2.2.1), (s1.2.2.2))) else (zlet (((s1.2.1) 3) ||| (1 <<< ((s1.1) &&& 31))) (fun (z10 : Int32) => (if inb (s1.1) 6 = true then (zlet (1 + ((f_Sh_wayOff v2 (f_Qu_arm v1 ((gLi_place (gSh_lines v2)) (ix (s1.1))))) / 10)) (fun (z12 : Int32) => (if inb (s1.1) 6 = true then (if inb (s1.1) 6 = true then (Option.bind (f_Qu_postStrength v1 ((gLi_post (gSh_lines v2)) (ix (s1.1)))) (fun (r15 : Int32) => (if inb (s1.1) 6 = true then (ih (((s1.1) + 1), (upd (s1.2.1) 3 z10), (upd (s1.2.2.1) (ix (s1.1)) z12), (upd (s1.2.2.2) (ix (s1.1)) r15))) else none))) else none) else none))) else none)))))))
noncomputable def fB_Lg_weigh_112 (q2 : Int32 × (Nat → Int32) × (Nat → Int32) × (Nat → Int32)) (z17 : Int32) (ih : (Int32 × (Nat → Int32)) → Option (Int32 × (Nat → Int32))) (s18 : Int32 × (Nat → Int32)) : Option (Int32 × (Nat → Int32)) := (if 64 ≤ (s18.1) then (some ((s18.1), (s18.2))) else (if ((s18.1) &&& ((q2.2.1) 3)) = (s18.1) then (Option.bind (f_Lg_strainOf ((q2.2.1), (q2.2.2.1), (q2.2.2.2), (s18.2)) (s18.1) z17) (fun (r25 : Int32) => (Option.bind (f_Lg_bestAfterOne ((q2.2.1), (q2.2.2.1), (q2.2.2.2), (s18.2)) (s18.1)) (fun (r26 : Int32) => (zlet (zmax r25 r26) (fun (z27 : Int32) => (if inb (s18.1) 64 = true then (ih (((s18.1) + 1), (upd (s18.2) (ix (s18.1)) z27))) else none))))))) else (ih (((s18.1) + 1), (s18.2)))))
noncomputable def f_Lg_weigh (v0 : tLg) (v1 : tQu) (v2 : tSh)  : Option ((Nat → Int32) × (Nat → Int32) × (Nat → Int32) × (Nat → Int32)) := (Option.bind (lp (fB_Lg_weigh_7 v1 v2) LF (0, (upd (gLg_ints v0) 3 0), (gLg_shares v0), (gLg_strengths v0))) (fun (q2 : Int32 × (Nat → Int32) × (Nat → Int32) × (Nat → Int32)) => (zlet ((((gQu_ints v1) 10) * ((gQu_ints v1) 3)) * 10) (fun (z17 : Int32) => (Option.bind (lp (fB_Lg_weigh_112 q2 z17) LF (1, (upd (gLg_best v0) 0 0))) (fun (q19 : Int32 × (Nat → Int32)) => (some ((q2.2.1), (q2.2.2.1), (q2.2.2.2), (q19.2)))))))))
abbrev rm_Lg_weigh : Room := { frames := 2, cells := 0, slots := 0, locals := 46 }
set_option maxHeartbeats 4000000 in
set_option maxRecDepth 100000 in
theorem c_Lg_weigh (l : Launch) (g : zGl) (a0 : Nat → Nat) (o0 : Nat) (v0 : tLg) (a1 : Nat → Nat) (o1 : Nat) (v1 : tQu) (a2 : Nat → Nat) (o2 : Nat) (v2 : tSh)  (out : (Nat → Int32) × (Nat → Int32) × (Nat → Int32) × (Nat → Int32)) (hf : f_Lg_weigh v0 v1 v2 = some out) : zMv l yX0_weigh cX0_weigh 5 rm_Lg_weigh g [.ref (a0 o0), .ref (a1 o1), .ref (a2 o2)] (W_Lg g a0 o0 (gLg_ints v0) (gLg_shares v0) (gLg_strengths v0) (gLg_best v0) ++ W_Qu g a1 o1 (gQu_ints v1) (gQu_places v1) (gQu_strengths v1) ++ W_Sh g a2 o2 (gSh_ints v2) (gSh_harm v2) (gLi_fast (gSh_lines v2)) (gLi_place (gSh_lines v2)) (gLi_post (gSh_lines v2)) (gLi_length (gSh_lines v2)))  (W_Lg g a0 o0 (out.1) (out.2.1) (out.2.2.1) (out.2.2.2) ++ W_Qu g a1 o1 (gQu_ints v1) (gQu_places v1) (gQu_strengths v1) ++ W_Sh g a2 o2 (gSh_ints v2) (gSh_harm v2) (gLi_fast (gSh_lines v2)) (gLi_place (gSh_lines v2)) (gLi_post (gSh_lines v2)) (gLi_length (gSh_lines v2))) := by
  refine zMv_of (lv := [(0, .ref (a0 o0)), (1, .ref (a1 o1)), (2, .ref (a2 o2))]) (by decide) (Nat.le_of_ble_eq_true rfl) rfl (fun x hl hg C hret => ?_)
  subst hl; subst hg
  rw [f_Lg_weigh] at hf
  refine r_aload_n C eX0_weigh_0 0 rfl rfl ?_
  refine r_iconst C (v := 0) eX0_weigh_1 (by decide) ?_
  refine r_put (ws' := W_Lg (z_g x) a0 o0 (upd (gLg_ints v0) 3 0) (gLg_shares v0) (gLg_strengths v0) (gLg_best v0) ++ W_Qu (z_g x) a1 o1 (gQu_ints v1) (gQu_places v1) (gQu_strengths v1) ++ W_Sh (z_g x) a2 o2 (gSh_ints v2) (gSh_harm v2) (gLi_fast (gSh_lines v2)) (gLi_place (gSh_lines v2)) (gLi_post (gSh_lines v2)) (gLi_length (gSh_lines v2))) C eX0_weigh_2 PX0_23 0 rfl rfl rfl (Nat.le_of_ble_eq_true rfl) rfl ?_
  refine r_iconst C (v := 0) eX0_weigh_5 (by decide) ?_
  refine r_istore_n C [(3, .int 0), (0, .ref (a0 o0)), (1, .ref (a1 o1)), (2, .ref (a2 o2))] eX0_weigh_6 rfl (by decide) rfl ?_
  obtain ⟨q2, h3, hf⟩ := zbind hf
  have J4 : vV x 5 0 0 (W_Lg (z_g x) a0 o0 (q2.2.1) (q2.2.2.1) (q2.2.2.2) (gLg_best v0) ++ W_Qu (z_g x) a1 o1 (gQu_ints v1) (gQu_places v1) (gQu_strengths v1) ++ W_Sh (z_g x) a2 o2 (gSh_ints v2) (gSh_harm v2) (gLi_fast (gSh_lines v2)) (gLi_place (gSh_lines v2)) (gLi_post (gSh_lines v2)) (gLi_length (gSh_lines v2))) 89 [(0, .ref (a0 o0)), (1, .ref (a1 o1))] [] := by
    refine r_aload_n C eX0_weigh_89 1 rfl rfl ?_
    refine r_get (v := .int ((gQu_ints v1) 10)) C eX0_weigh_90 FX0_55 4 rfl rfl ?_
    refine r_aload_n C eX0_weigh_93 1 rfl rfl ?_
    refine r_get (v := .int ((gQu_ints v1) 3)) C eX0_weigh_94 FX0_58 4 rfl rfl ?_
    refine r_imul C eX0_weigh_97 ?_
    refine r_bipush C (v := 10) eX0_weigh_98 (by decide) ?_
    refine r_imul C eX0_weigh_100 ?_
    obtain ⟨z17, hz17, hf⟩ := zlet_of hf
    refine r_nami hz17 ?_
    refine r_istore_n C [(3, .int z17), (0, .ref (a0 o0)), (1, .ref (a1 o1))] eX0_weigh_101 rfl (by decide) rfl ?_
    refine r_aload_n C eX0_weigh_102 1 rfl rfl ?_
    refine r_get (v := .ref (a0 (o0 + 3))) C eX0_weigh_103 FX0_20 0 rfl rfl ?_
    refine r_iconst C (v := 0) eX0_weigh_106 (by decide) ?_
    refine r_iconst C (v := 0) eX0_weigh_107 (by decide) ?_
    refine r_iastN (ws' := W_Lg (z_g x) a0 o0 (q2.2.1) (q2.2.2.1) (q2.2.2.2) (upd (gLg_best v0) 0 0) ++ W_Qu (z_g x) a1 o1 (gQu_ints v1) (gQu_places v1) (gQu_strengths v1) ++ W_Sh (z_g x) a2 o2 (gSh_ints v2) (gSh_harm v2) (gLi_fast (gSh_lines v2)) (gLi_place (gSh_lines v2)) (gLi_post (gSh_lines v2)) (gLi_length (gSh_lines v2))) C eX0_weigh_108 3 0 (by decide) rfl rfl ?_
    refine r_iconst C (v := 1) eX0_weigh_109 (by decide) ?_
    refine r_istore C [(4, .int 1), (3, .int z17), (0, .ref (a0 o0)), (1, .ref (a1 o1))] eX0_weigh_110 (by decide) rfl ?_
    obtain ⟨q19, h20, hf⟩ := zbind hf
    have J21 : vV x 5 0 0 (W_Lg (z_g x) a0 o0 (q2.2.1) (q2.2.2.1) (q2.2.2.2) (q19.2) ++ W_Qu (z_g x) a1 o1 (gQu_ints v1) (gQu_places v1) (gQu_strengths v1) ++ W_Sh (z_g x) a2 o2 (gSh_ints v2) (gSh_harm v2) (gLi_fast (gSh_lines v2)) (gLi_place (gSh_lines v2)) (gLi_post (gSh_lines v2)) (gLi_length (gSh_lines v2))) 160 [] [] := by
      obtain rfl := Option.some.inj (show some (((q2.2.1), (q2.2.2.1), (q2.2.2.2), (q19.2)) : (Nat → Int32) × (Nat → Int32) × (Nat → Int32) × (Nat → Int32)) = some _ from hf)
      exact hret _ _ _ eX0_weigh_160
    have L22 : ∀ (nL22 : Nat) (s18 : Int32 × (Nat → Int32)), lp (fB_Lg_weigh_112 q2 z17) nL22 s18 = some q19 → vV x 5 0 0 (W_Lg (z_g x) a0 o0 (q2.2.1) (q2.2.2.1) (q2.2.2.2) (s18.2) ++ W_Qu (z_g x) a1 o1 (gQu_ints v1) (gQu_places v1) (gQu_strengths v1) ++ W_Sh (z_g x) a2 o2 (gSh_ints v2) (gSh_harm v2) (gLi_fast (gSh_lines v2)) (gLi_place (gSh_lines v2)) (gLi_post (gSh_lines v2)) (gLi_length (gSh_lines v2))) 112 [(0, .ref (a0 o0)), (3, .int z17), (4, .int (s18.1))] [] := by
      intro nL22
      induction nL22 with
      | zero => intro s18 hq; cases hq
      | succ nL22 ihL22 =>
        intro s18 hbL22
        rw [lp_succ, fB_Lg_weigh_112] at hbL22
        refine r_iload C eX0_weigh_112 2 rfl ?_
        refine r_bipush C (v := 64) eX0_weigh_114 (by decide) ?_
        refine r_icmp_ge C eX0_weigh_116 (fun c23 => ?_) (fun c23 => ?_)
        · rw [if_pos c23] at hbL22
          obtain rfl := Option.some.inj hbL22
          refine r_sub (lv' := []) [] rfl ?_
          exact J21
        · rw [if_neg c23] at hbL22
          refine r_iload C eX0_weigh_119 2 rfl ?_
          refine r_aload_n C eX0_weigh_121 0 rfl rfl ?_
          refine r_get (v := .int ((q2.2.1) 3)) C eX0_weigh_122 FX0_23 0 rfl rfl ?_
          refine r_iand C eX0_weigh_125 ?_
          refine r_iload C eX0_weigh_126 2 rfl ?_
          refine r_icmp_ne C eX0_weigh_128 (fun c24 => ?_) (fun c24 => ?_)
          · rw [if_neg c24] at hbL22
            refine r_iinc C (v := ((s18.1) + 1)) [(4, .int ((s18.1) + 1)), (0, .ref (a0 o0)), (3, .int z17)] eX0_weigh_154 2 rfl rfl (by decide) rfl ?_
            refine r_goto C eX0_weigh_157 ?_
            refine r_sub (lv' := [(0, .ref (a0 o0)), (3, .int z17), (4, .int ((s18.1) + 1))]) [1, 2, 0] rfl ?_
            have hc := ihL22 (((s18.1) + 1), (s18.2)) hbL22
            exact hc
          · rw [if_pos c24] at hbL22
            refine r_aload_n C eX0_weigh_131 0 rfl rfl ?_
            refine r_get (v := .ref (a0 (o0 + 3))) C eX0_weigh_132 FX0_20 0 rfl rfl ?_
            refine r_iload C eX0_weigh_135 2 rfl ?_
            refine r_aload_n C eX0_weigh_137 0 rfl rfl ?_
            refine r_iload C eX0_weigh_138 2 rfl ?_
            refine r_iload_n C eX0_weigh_140 1 rfl rfl ?_
            obtain ⟨r25, hr25, hbL22⟩ := zbind hbL22
            refine r_V_i (ws' := W_Lg (z_g x) a0 o0 (q2.2.1) (q2.2.2.1) (q2.2.2.2) (s18.2) ++ W_Qu (z_g x) a1 o1 (gQu_ints v1) (gQu_places v1) (gQu_strengths v1) ++ W_Sh (z_g x) a2 o2 (gSh_ints v2) (gSh_harm v2) (gLi_fast (gSh_lines v2)) (gLi_place (gSh_lines v2)) (gLi_post (gSh_lines v2)) (gLi_length (gSh_lines v2))) C (c_Lg_strainOf (z_l x) (z_g x) a0 o0 ((q2.2.1), (q2.2.2.1), (q2.2.2.2), (s18.2)) (s18.1) z17 r25 hr25) eX0_weigh_141 MX0_61 ⟨0, 0, _, _, rfl, rfl, rfl⟩ [0, 1, 2, 3] rfl rfl rfl rfl [4, 5, 6, 7, 8, 9, 10, 11, 12] rfl ⟨rfl, rfl, rfl, rfl, rfl, rfl, rfl, rfl, rfl, trivial⟩ 13 rfl rfl rfl rfl rfl rfl ?_
            refine r_aload_n C eX0_weigh_144 0 rfl rfl ?_
            refine r_iload C eX0_weigh_145 2 rfl ?_
            obtain ⟨r26, hr26, hbL22⟩ := zbind hbL22
            refine r_V_i (ws' := W_Lg (z_g x) a0 o0 (q2.2.1) (q2.2.2.1) (q2.2.2.2) (s18.2) ++ W_Qu (z_g x) a1 o1 (gQu_ints v1) (gQu_places v1) (gQu_strengths v1) ++ W_Sh (z_g x) a2 o2 (gSh_ints v2) (gSh_harm v2) (gLi_fast (gSh_lines v2)) (gLi_place (gSh_lines v2)) (gLi_post (gSh_lines v2)) (gLi_length (gSh_lines v2))) C (c_Lg_bestAfterOne (z_l x) (z_g x) a0 o0 ((q2.2.1), (q2.2.2.1), (q2.2.2.2), (s18.2)) (s18.1) r26 hr26) eX0_weigh_147 MX0_65 ⟨0, 0, _, _, rfl, rfl, rfl⟩ [0, 1, 2, 3] rfl rfl rfl rfl [4, 5, 6, 7, 8, 9, 10, 11, 12] rfl ⟨rfl, rfl, rfl, rfl, rfl, rfl, rfl, rfl, rfl, trivial⟩ 13 rfl rfl rfl rfl rfl rfl ?_
            refine r_mmax C eX0_weigh_150 MX0_68 rfl ?_
            obtain ⟨z27, hz27, hbL22⟩ := zlet_of hbL22
            refine r_nami hz27 ?_
            obtain ⟨hb28, hbL22⟩ := zchk hbL22
            refine r_iast (ws' := W_Lg (z_g x) a0 o0 (q2.2.1) (q2.2.2.1) (q2.2.2.2) (upd (s18.2) (ix (s18.1)) z27) ++ W_Qu (z_g x) a1 o1 (gQu_ints v1) (gQu_places v1) (gQu_strengths v1) ++ W_Sh (z_g x) a2 o2 (gSh_ints v2) (gSh_harm v2) (gLi_fast (gSh_lines v2)) (gLi_place (gSh_lines v2)) (gLi_post (gSh_lines v2)) (gLi_length (gSh_lines v2))) C eX0_weigh_153 3 rfl (inb_in hb28) rfl ?_
            refine r_iinc C (v := ((s18.1) + 1)) [(4, .int ((s18.1) + 1)), (0, .ref (a0 o0)), (3, .int z17)] eX0_weigh_154 2 rfl rfl (by decide) rfl ?_
            refine r_goto C eX0_weigh_157 ?_
            refine r_sub (lv' := [(0, .ref (a0 o0)), (3, .int z17), (4, .int ((s18.1) + 1))]) [1, 2, 0] rfl ?_
            have hc := ihL22 (((s18.1) + 1), (upd (s18.2) (ix (s18.1)) z27)) hbL22
            exact hc
    refine r_sub (lv' := [(0, .ref (a0 o0)), (3, .int z17), (4, .int 1)]) [2, 1, 0] rfl ?_
    have hc := L22 LF (1, (upd (gLg_best v0) 0 0)) h20
    exact hc
  have L5 : ∀ (nL5 : Nat) (s1 : Int32 × (Nat → Int32) × (Nat → Int32) × (Nat → Int32)), lp (fB_Lg_weigh_7 v1 v2) nL5 s1 = some q2 → vV x 5 0 0 (W_Lg (z_g x) a0 o0 (s1.2.1) (s1.2.2.1) (s1.2.2.2) (gLg_best v0) ++ W_Qu (z_g x) a1 o1 (gQu_ints v1) (gQu_places v1) (gQu_strengths v1) ++ W_Sh (z_g x) a2 o2 (gSh_ints v2) (gSh_harm v2) (gLi_fast (gSh_lines v2)) (gLi_place (gSh_lines v2)) (gLi_post (gSh_lines v2)) (gLi_length (gSh_lines v2))) 7 [(0, .ref (a0 o0)), (1, .ref (a1 o1)), (2, .ref (a2 o2)), (3, .int (s1.1))] [] := by
    intro nL5
    induction nL5 with
    | zero => intro s1 hq; cases hq
    | succ nL5 ihL5 =>
      intro s1 hbL5
      rw [lp_succ, fB_Lg_weigh_7] at hbL5
      refine r_iload_n C eX0_weigh_7 3 rfl rfl ?_
      refine r_bipush C (v := 6) eX0_weigh_8 (by decide) ?_
      refine r_icmp_ge C eX0_weigh_10 (fun c6 => ?_) (fun c6 => ?_)
      · rw [if_pos c6] at hbL5
        obtain rfl := Option.some.inj hbL5
        refine r_sub (lv' := [(0, .ref (a0 o0)), (1, .ref (a1 o1))]) [0, 1] rfl ?_
        exact J4
      · rw [if_neg c6] at hbL5
        refine r_aload_n C eX0_weigh_13 2 rfl rfl ?_
        refine r_get (v := .ref (a2 (o2 + 1))) C eX0_weigh_14 FX0_27 7 rfl rfl ?_
        refine r_iload_n C eX0_weigh_17 3 rfl rfl ?_
        obtain ⟨r7, hr7, hbL5⟩ := zbind hbL5
        refine r_V_z (ws' := W_Lg (z_g x) a0 o0 (s1.2.1) (s1.2.2.1) (s1.2.2.2) (gLg_best v0) ++ W_Qu (z_g x) a1 o1 (gQu_ints v1) (gQu_places v1) (gQu_strengths v1) ++ W_Sh (z_g x) a2 o2 (gSh_ints v2) (gSh_harm v2) (gLi_fast (gSh_lines v2)) (gLi_place (gSh_lines v2)) (gLi_post (gSh_lines v2)) (gLi_length (gSh_lines v2))) C (c_Li_isFast (z_l x) (z_g x) a2 (o2 + 1) (gSh_lines v2) (s1.1) r7 hr7) eX0_weigh_18 MX0_33 ⟨0, 1, _, _, rfl, rfl, rfl⟩ [8, 9, 10, 11, 12] rfl rfl rfl rfl [0, 1, 2, 3, 4, 5, 6, 7] rfl ⟨rfl, rfl, rfl, rfl, rfl, rfl, rfl, rfl, trivial⟩ 13 rfl rfl rfl rfl rfl rfl (fun zb8 => ?_)
        refine r_if_eq C eX0_weigh_21 (fun c9 => ?_) (fun c9 => ?_)
        · rw [if_pos c9] at hbL5
          refine r_iinc C (v := ((s1.1) + 1)) [(3, .int ((s1.1) + 1)), (0, .ref (a0 o0)), (1, .ref (a1 o1)), (2, .ref (a2 o2))] eX0_weigh_83 3 rfl rfl (by decide) rfl ?_
          refine r_goto C eX0_weigh_86 ?_
          refine r_sub (lv' := [(0, .ref (a0 o0)), (1, .ref (a1 o1)), (2, .ref (a2 o2)), (3, .int ((s1.1) + 1))]) [1, 2, 3, 0] rfl ?_
          have hc := ihL5 (((s1.1) + 1), (s1.2.1), (s1.2.2.1), (s1.2.2.2)) hbL5
          exact hc
        · rw [if_neg c9] at hbL5
          refine r_aload_n C eX0_weigh_24 0 rfl rfl ?_
          refine r_dup C eX0_weigh_25 rfl ?_
          refine r_get (v := .int ((s1.2.1) 3)) C eX0_weigh_26 FX0_23 0 rfl rfl ?_
          refine r_iconst C (v := 1) eX0_weigh_29 (by decide) ?_
          refine r_iload_n C eX0_weigh_30 3 rfl rfl ?_
          refine r_ishl C eX0_weigh_31 ?_
          refine r_ior C eX0_weigh_32 ?_
          obtain ⟨z10, hz10, hbL5⟩ := zlet_of hbL5
          refine r_nami hz10 ?_
          refine r_put (ws' := W_Lg (z_g x) a0 o0 (upd (s1.2.1) 3 z10) (s1.2.2.1) (s1.2.2.2) (gLg_best v0) ++ W_Qu (z_g x) a1 o1 (gQu_ints v1) (gQu_places v1) (gQu_strengths v1) ++ W_Sh (z_g x) a2 o2 (gSh_ints v2) (gSh_harm v2) (gLi_fast (gSh_lines v2)) (gLi_place (gSh_lines v2)) (gLi_post (gSh_lines v2)) (gLi_length (gSh_lines v2))) C eX0_weigh_33 PX0_23 0 rfl rfl rfl (Nat.le_of_ble_eq_true rfl) rfl ?_
          refine r_aload_n C eX0_weigh_36 0 rfl rfl ?_
          refine r_get (v := .ref (a0 (o0 + 1))) C eX0_weigh_37 FX0_11 0 rfl rfl ?_
          refine r_iload_n C eX0_weigh_40 3 rfl rfl ?_
          refine r_iconst C (v := 1) eX0_weigh_41 (by decide) ?_
          refine r_aload_n C eX0_weigh_42 2 rfl rfl ?_
          refine r_aload_n C eX0_weigh_43 1 rfl rfl ?_
          refine r_aload_n C eX0_weigh_44 2 rfl rfl ?_
          refine r_get (v := .ref (a2 (o2 + 1))) C eX0_weigh_45 FX0_27 7 rfl rfl ?_
          refine r_get (v := .ref (a2 ((o2 + 1) + 2))) C eX0_weigh_48 FX0_37 8 rfl rfl ?_
          refine r_iload_n C eX0_weigh_51 3 rfl rfl ?_
          obtain ⟨hb11, hbL5⟩ := zchk hbL5
          refine r_iald C eX0_weigh_52 10 rfl (inb_in hb11) ((gLi_place (gSh_lines v2)) (ix (s1.1))) rfl ?_
          refine r_V_i (ws' := W_Lg (z_g x) a0 o0 (upd (s1.2.1) 3 z10) (s1.2.2.1) (s1.2.2.2) (gLg_best v0) ++ W_Qu (z_g x) a1 o1 (gQu_ints v1) (gQu_places v1) (gQu_strengths v1) ++ W_Sh (z_g x) a2 o2 (gSh_ints v2) (gSh_harm v2) (gLi_fast (gSh_lines v2)) (gLi_place (gSh_lines v2)) (gLi_post (gSh_lines v2)) (gLi_length (gSh_lines v2))) C (c_Qu_arm (z_l x) (z_g x) a1 o1 v1 ((gLi_place (gSh_lines v2)) (ix (s1.1))) _ rfl) eX0_weigh_53 MX0_40 ⟨0, 4, _, _, rfl, rfl, rfl⟩ [4, 5, 6] rfl rfl rfl rfl [0, 1, 2, 3, 7, 8, 9, 10, 11, 12] rfl ⟨rfl, rfl, rfl, rfl, rfl, rfl, rfl, rfl, rfl, rfl, trivial⟩ 13 rfl rfl rfl rfl rfl rfl ?_
          refine r_V_i (ws' := W_Lg (z_g x) a0 o0 (upd (s1.2.1) 3 z10) (s1.2.2.1) (s1.2.2.2) (gLg_best v0) ++ W_Qu (z_g x) a1 o1 (gQu_ints v1) (gQu_places v1) (gQu_strengths v1) ++ W_Sh (z_g x) a2 o2 (gSh_ints v2) (gSh_harm v2) (gLi_fast (gSh_lines v2)) (gLi_place (gSh_lines v2)) (gLi_post (gSh_lines v2)) (gLi_length (gSh_lines v2))) C (c_Sh_wayOff (z_l x) (z_g x) a2 o2 v2 (f_Qu_arm v1 ((gLi_place (gSh_lines v2)) (ix (s1.1)))) _ rfl) eX0_weigh_56 MX0_46 ⟨0, 7, _, _, rfl, rfl, rfl⟩ [7, 8, 9, 10, 11, 12] rfl rfl rfl rfl [0, 1, 2, 3, 4, 5, 6] rfl ⟨rfl, rfl, rfl, rfl, rfl, rfl, rfl, trivial⟩ 13 rfl rfl rfl rfl rfl rfl ?_
          refine r_bipush C (v := 10) eX0_weigh_59 (by decide) ?_
          refine r_idiv C eX0_weigh_61 (by decide) ?_
          refine r_iadd C eX0_weigh_62 ?_
          obtain ⟨z12, hz12, hbL5⟩ := zlet_of hbL5
          refine r_nami hz12 ?_
          obtain ⟨hb13, hbL5⟩ := zchk hbL5
          refine r_iast (ws' := W_Lg (z_g x) a0 o0 (upd (s1.2.1) 3 z10) (upd (s1.2.2.1) (ix (s1.1)) z12) (s1.2.2.2) (gLg_best v0) ++ W_Qu (z_g x) a1 o1 (gQu_ints v1) (gQu_places v1) (gQu_strengths v1) ++ W_Sh (z_g x) a2 o2 (gSh_ints v2) (gSh_harm v2) (gLi_fast (gSh_lines v2)) (gLi_place (gSh_lines v2)) (gLi_post (gSh_lines v2)) (gLi_length (gSh_lines v2))) C eX0_weigh_63 1 rfl (inb_in hb13) rfl ?_
          refine r_aload_n C eX0_weigh_64 0 rfl rfl ?_
          refine r_get (v := .ref (a0 (o0 + 2))) C eX0_weigh_65 FX0_17 0 rfl rfl ?_
          refine r_iload_n C eX0_weigh_68 3 rfl rfl ?_
          refine r_aload_n C eX0_weigh_69 1 rfl rfl ?_
          refine r_aload_n C eX0_weigh_70 2 rfl rfl ?_
          refine r_get (v := .ref (a2 (o2 + 1))) C eX0_weigh_71 FX0_27 7 rfl rfl ?_
          refine r_get (v := .ref (a2 ((o2 + 1) + 3))) C eX0_weigh_74 FX0_49 8 rfl rfl ?_
          refine r_iload_n C eX0_weigh_77 3 rfl rfl ?_
          obtain ⟨hb14, hbL5⟩ := zchk hbL5
          refine r_iald C eX0_weigh_78 11 rfl (inb_in hb14) ((gLi_post (gSh_lines v2)) (ix (s1.1))) rfl ?_
          obtain ⟨r15, hr15, hbL5⟩ := zbind hbL5
          refine r_V_i (ws' := W_Lg (z_g x) a0 o0 (upd (s1.2.1) 3 z10) (upd (s1.2.2.1) (ix (s1.1)) z12) (s1.2.2.2) (gLg_best v0) ++ W_Qu (z_g x) a1 o1 (gQu_ints v1) (gQu_places v1) (gQu_strengths v1) ++ W_Sh (z_g x) a2 o2 (gSh_ints v2) (gSh_harm v2) (gLi_fast (gSh_lines v2)) (gLi_place (gSh_lines v2)) (gLi_post (gSh_lines v2)) (gLi_length (gSh_lines v2))) C (c_Qu_postStrength (z_l x) (z_g x) a1 o1 v1 ((gLi_post (gSh_lines v2)) (ix (s1.1))) r15 hr15) eX0_weigh_79 MX0_52 ⟨0, 4, _, _, rfl, rfl, rfl⟩ [4, 5, 6] rfl rfl rfl rfl [0, 1, 2, 3, 7, 8, 9, 10, 11, 12] rfl ⟨rfl, rfl, rfl, rfl, rfl, rfl, rfl, rfl, rfl, rfl, trivial⟩ 13 rfl rfl rfl rfl rfl rfl ?_
          obtain ⟨hb16, hbL5⟩ := zchk hbL5
          refine r_iast (ws' := W_Lg (z_g x) a0 o0 (upd (s1.2.1) 3 z10) (upd (s1.2.2.1) (ix (s1.1)) z12) (upd (s1.2.2.2) (ix (s1.1)) r15) (gLg_best v0) ++ W_Qu (z_g x) a1 o1 (gQu_ints v1) (gQu_places v1) (gQu_strengths v1) ++ W_Sh (z_g x) a2 o2 (gSh_ints v2) (gSh_harm v2) (gLi_fast (gSh_lines v2)) (gLi_place (gSh_lines v2)) (gLi_post (gSh_lines v2)) (gLi_length (gSh_lines v2))) C eX0_weigh_82 2 rfl (inb_in hb16) rfl ?_
          refine r_iinc C (v := ((s1.1) + 1)) [(3, .int ((s1.1) + 1)), (0, .ref (a0 o0)), (1, .ref (a1 o1)), (2, .ref (a2 o2))] eX0_weigh_83 3 rfl rfl (by decide) rfl ?_
          refine r_goto C eX0_weigh_86 ?_
          refine r_sub (lv' := [(0, .ref (a0 o0)), (1, .ref (a1 o1)), (2, .ref (a2 o2)), (3, .int ((s1.1) + 1))]) [1, 2, 3, 0] rfl ?_
          have hc := ihL5 (((s1.1) + 1), (upd (s1.2.1) 3 z10), (upd (s1.2.2.1) (ix (s1.1)) z12), (upd (s1.2.2.2) (ix (s1.1)) r15)) hbL5
          exact hc
  refine r_sub (lv' := [(0, .ref (a0 o0)), (1, .ref (a1 o1)), (2, .ref (a2 o2)), (3, .int 0)]) [1, 2, 3, 0] rfl ?_
  have hc := L5 LF (0, (upd (gLg_ints v0) 3 0), (gLg_shares v0), (gLg_strengths v0)) h3
  exact hc
