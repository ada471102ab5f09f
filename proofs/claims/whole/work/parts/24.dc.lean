set_option maxHeartbeats 4000000 in
set_option maxRecDepth 100000 in
theorem c_Mo_init (l : Launch) (g : zGl) (q0 : Nat) (out : (Nat → Int32) × (Nat → Int64) × (Nat → Int32)) (hf : f_Mo_init d_Mo = some out) : zMc l yX11_init cX11_init 2 rm_Mo_init 19 804 g q0 [(q0, .inr (11, df11))] (fun a => W_Mo g a 0 (upd (fun _ => 0) 12 (-1)) (out.1) (fun _ => 0) (fun _ => 0) (fun _ => 0) (fun _ => 0) (out.2.1) (out.2.2) (fun _ => 0) 0 (fun _ => 0) (fun _ => 0) (fun _ => 0) (fun _ => 0) (fun _ => 0) (fun _ => 0) (fun _ => 0) (fun _ => 0) (fun _ => 0) (fun _ => 0) (fun _ => 0)) := by
  refine zMc_of (by decide) rfl (Nat.le_of_ble_eq_true rfl) (fun x hl hg C hme hret => ?_)
  subst hl; subst hg
  refine sg_Mo_0 C hme q0  ?_
  refine sg_Mo_1 C hme q0  (fun q1 => ?_)
  refine sg_Mo_2 C hme q0 q1 (fun q2 => ?_)
  refine sg_Mo_3 C hme q0 q1 q2 (fun q3 => ?_)
  refine sg_Mo_4 C hme q0 q1 q2 q3 (fun q4 => ?_)
  refine sg_Mo_5 C hme q0 q1 q2 q3 q4 (fun q5 => ?_)
  refine sg_Mo_6 C hme q0 q1 q2 q3 q4 q5 (fun q6 => ?_)
  refine sg_Mo_7 C hme q0 q1 q2 q3 q4 q5 q6 (fun q7 => ?_)
  refine sg_Mo_8 C hme q0 q1 q2 q3 q4 q5 q6 q7 (fun q8 => ?_)
  refine sg_Mo_9 C hme q0 q1 q2 q3 q4 q5 q6 q7 q8 ?_
  refine sg_Mo_10 C hme q0 q1 q2 q3 q4 q5 q6 q7 q8 (fun q9 => ?_)
  refine sg_Mo_11 C hme q0 q1 q2 q3 q4 q5 q6 q7 q8 q9 (fun q10 => ?_)
  refine sg_Mo_12 C hme q0 q1 q2 q3 q4 q5 q6 q7 q8 q9 q10 (fun q11 => ?_)
  refine sg_Mo_13 C hme q0 q1 q2 q3 q4 q5 q6 q7 q8 q9 q10 q11 (fun q12 => ?_)
  refine sg_Mo_14 C hme q0 q1 q2 q3 q4 q5 q6 q7 q8 q9 q10 q11 q12 (fun q13 => ?_)
  refine sg_Mo_15 C hme q0 q1 q2 q3 q4 q5 q6 q7 q8 q9 q10 q11 q12 q13 (fun q14 => ?_)
  refine sg_Mo_16 C hme q0 q1 q2 q3 q4 q5 q6 q7 q8 q9 q10 q11 q12 q13 q14 (fun q15 => ?_)
  refine sg_Mo_17 C hme q0 q1 q2 q3 q4 q5 q6 q7 q8 q9 q10 q11 q12 q13 q14 q15 (fun q16 => ?_)
  refine sg_Mo_18 C hme q0 q1 q2 q3 q4 q5 q6 q7 q8 q9 q10 q11 q12 q13 q14 q15 q16 (fun q17 => ?_)
  refine sg_Mo_19 C hme q0 q1 q2 q3 q4 q5 q6 q7 q8 q9 q10 q11 q12 q13 q14 q15 q16 q17 (fun q18 => ?_)
  refine sg_Mo_20 C hme q0 q1 q2 q3 q4 q5 q6 q7 q8 q9 q10 q11 q12 q13 q14 q15 q16 q17 q18 (fun q19 => ?_)
  refine pm_Mo q0 q1 q2 q3 q4 q5 q6 q7 q8 q9 q10 q11 q12 q13 q14 q15 q16 q17 q18 q19 ?_
  exact t_Mo_init C (zfn [q0, q1, q2, q3, q4, q5, q6, q7, q8, q9, q10, q11, q12, q13, q14, q15, q16, q17, q18, q19]) 0 d_Mo out hf (fun pc pc' lv hd => hret (zfn [q0, q1, q2, q3, q4, q5, q6, q7, q8, q9, q10, q11, q12, q13, q14, q15, q16, q17, q18, q19]) pc pc' lv rfl hd)
