/-! the law's tables, checked in pieces -/
def zgA (pc : Nat) : Bool := match z_fetch 1 pc with
  | some x => z_good 1 pc x
  | none => true
def zgM (pc : Nat) : Bool := match z_fetch 1 pc with
  | some (.invokestatic _, _, f) => bif Nat.beq f.1 0 || Nat.beq f.1 1 then z_mstat f.2.1 else true
  | some (.invokevirtual _, _, f) => bif Nat.beq f.1 0 then z_mvirt f.2.1 && (bif Nat.beq (z_mk f.2.1) 13 then decide ((z_mn f.2.1).cls = "java/lang/String") else bif Nat.ble (z_mk f.2.1) 12 then decide ((z_mn f.2.1).cls = (z_cls (z_mk f.2.1)).1) else true) else true
  | some (.invokespecial _, _, f) => bif Nat.ble f.1 1 then z_minst f.2.1 && decide (z_mr f.2.1 = none) else true
  | _ => true
theorem zg_of {a n pc : Nat} {f : Nat → Bool} (h : (List.range' a n).all f = true) (h1 : a ≤ pc) (h2 : pc < a + n) : f pc = true := List.all_eq_true.mp h pc (List.mem_range'_1.mpr ⟨h1, h2⟩)
set_option maxRecDepth 100000 in
theorem zga0 : (List.range' 0 64).all zgA = true := by decide +kernel
set_option maxRecDepth 100000 in
theorem zgm0 : (List.range' 0 64).all zgM = true := by decide +kernel
set_option maxRecDepth 100000 in
theorem zga1 : (List.range' 64 64).all zgA = true := by decide +kernel
set_option maxRecDepth 100000 in
theorem zgm1 : (List.range' 64 64).all zgM = true := by decide +kernel
set_option maxRecDepth 100000 in
theorem zga2 : (List.range' 128 64).all zgA = true := by decide +kernel
set_option maxRecDepth 100000 in
theorem zgm2 : (List.range' 128 64).all zgM = true := by decide +kernel
set_option maxRecDepth 100000 in
theorem zga3 : (List.range' 192 64).all zgA = true := by decide +kernel
set_option maxRecDepth 100000 in
theorem zgm3 : (List.range' 192 64).all zgM = true := by decide +kernel
set_option maxRecDepth 100000 in
theorem zga4 : (List.range' 256 64).all zgA = true := by decide +kernel
set_option maxRecDepth 100000 in
theorem zgm4 : (List.range' 256 64).all zgM = true := by decide +kernel
set_option maxRecDepth 100000 in
theorem zga5 : (List.range' 320 64).all zgA = true := by decide +kernel
set_option maxRecDepth 100000 in
theorem zgm5 : (List.range' 320 64).all zgM = true := by decide +kernel
set_option maxRecDepth 100000 in
theorem zga6 : (List.range' 384 64).all zgA = true := by decide +kernel
set_option maxRecDepth 100000 in
theorem zgm6 : (List.range' 384 64).all zgM = true := by decide +kernel
set_option maxRecDepth 100000 in
theorem zga7 : (List.range' 448 64).all zgA = true := by decide +kernel
set_option maxRecDepth 100000 in
theorem zgm7 : (List.range' 448 64).all zgM = true := by decide +kernel
set_option maxRecDepth 100000 in
theorem zga8 : (List.range' 512 64).all zgA = true := by decide +kernel
set_option maxRecDepth 100000 in
theorem zgm8 : (List.range' 512 64).all zgM = true := by decide +kernel
set_option maxRecDepth 100000 in
theorem zga9 : (List.range' 576 64).all zgA = true := by decide +kernel
set_option maxRecDepth 100000 in
theorem zgm9 : (List.range' 576 64).all zgM = true := by decide +kernel
set_option maxRecDepth 100000 in
theorem zga10 : (List.range' 640 64).all zgA = true := by decide +kernel
set_option maxRecDepth 100000 in
theorem zgm10 : (List.range' 640 64).all zgM = true := by decide +kernel
set_option maxRecDepth 100000 in
theorem zga11 : (List.range' 704 64).all zgA = true := by decide +kernel
set_option maxRecDepth 100000 in
theorem zgm11 : (List.range' 704 64).all zgM = true := by decide +kernel
set_option maxRecDepth 100000 in
theorem zga12 : (List.range' 768 64).all zgA = true := by decide +kernel
set_option maxRecDepth 100000 in
theorem zgm12 : (List.range' 768 64).all zgM = true := by decide +kernel
set_option maxRecDepth 100000 in
theorem zga13 : (List.range' 832 64).all zgA = true := by decide +kernel
set_option maxRecDepth 100000 in
theorem zgm13 : (List.range' 832 64).all zgM = true := by decide +kernel
set_option maxRecDepth 100000 in
theorem zga14 : (List.range' 896 64).all zgA = true := by decide +kernel
set_option maxRecDepth 100000 in
theorem zgm14 : (List.range' 896 64).all zgM = true := by decide +kernel
set_option maxRecDepth 100000 in
theorem zga15 : (List.range' 960 64).all zgA = true := by decide +kernel
set_option maxRecDepth 100000 in
theorem zgm15 : (List.range' 960 64).all zgM = true := by decide +kernel
set_option maxRecDepth 100000 in
theorem zga16 : (List.range' 1024 64).all zgA = true := by decide +kernel
set_option maxRecDepth 100000 in
theorem zgm16 : (List.range' 1024 64).all zgM = true := by decide +kernel
set_option maxRecDepth 100000 in
theorem zga17 : (List.range' 1088 64).all zgA = true := by decide +kernel
set_option maxRecDepth 100000 in
theorem zgm17 : (List.range' 1088 64).all zgM = true := by decide +kernel
set_option maxRecDepth 100000 in
theorem zga18 : (List.range' 1152 64).all zgA = true := by decide +kernel
set_option maxRecDepth 100000 in
theorem zgm18 : (List.range' 1152 64).all zgM = true := by decide +kernel
set_option maxRecDepth 100000 in
theorem zga19 : (List.range' 1216 64).all zgA = true := by decide +kernel
set_option maxRecDepth 100000 in
theorem zgm19 : (List.range' 1216 64).all zgM = true := by decide +kernel
set_option maxRecDepth 100000 in
theorem zga20 : (List.range' 1280 64).all zgA = true := by decide +kernel
set_option maxRecDepth 100000 in
theorem zgm20 : (List.range' 1280 64).all zgM = true := by decide +kernel
set_option maxRecDepth 100000 in
theorem zga21 : (List.range' 1344 64).all zgA = true := by decide +kernel
set_option maxRecDepth 100000 in
theorem zgm21 : (List.range' 1344 64).all zgM = true := by decide +kernel
set_option maxRecDepth 100000 in
theorem zga22 : (List.range' 1408 64).all zgA = true := by decide +kernel
set_option maxRecDepth 100000 in
theorem zgm22 : (List.range' 1408 64).all zgM = true := by decide +kernel
set_option maxRecDepth 100000 in
theorem zga23 : (List.range' 1472 64).all zgA = true := by decide +kernel
set_option maxRecDepth 100000 in
theorem zgm23 : (List.range' 1472 64).all zgM = true := by decide +kernel
set_option maxRecDepth 100000 in
theorem zga24 : (List.range' 1536 64).all zgA = true := by decide +kernel
set_option maxRecDepth 100000 in
theorem zgm24 : (List.range' 1536 64).all zgM = true := by decide +kernel
set_option maxRecDepth 100000 in
theorem zga25 : (List.range' 1600 64).all zgA = true := by decide +kernel
set_option maxRecDepth 100000 in
theorem zgm25 : (List.range' 1600 64).all zgM = true := by decide +kernel
set_option maxRecDepth 100000 in
theorem zga26 : (List.range' 1664 64).all zgA = true := by decide +kernel
set_option maxRecDepth 100000 in
theorem zgm26 : (List.range' 1664 64).all zgM = true := by decide +kernel
theorem zl_all : z_goodAt 1 = true := by
  refine List.all_eq_true.mpr (fun pc hpc => ?_)
  have hpc : pc < 1695 := List.mem_range.mp hpc
  show zgA pc = true
  by_cases q0 : pc < 64
  · exact zg_of zga0 (by omega) (by omega)
  by_cases q1 : pc < 128
  · exact zg_of zga1 (by omega) (by omega)
  by_cases q2 : pc < 192
  · exact zg_of zga2 (by omega) (by omega)
  by_cases q3 : pc < 256
  · exact zg_of zga3 (by omega) (by omega)
  by_cases q4 : pc < 320
  · exact zg_of zga4 (by omega) (by omega)
  by_cases q5 : pc < 384
  · exact zg_of zga5 (by omega) (by omega)
  by_cases q6 : pc < 448
  · exact zg_of zga6 (by omega) (by omega)
  by_cases q7 : pc < 512
  · exact zg_of zga7 (by omega) (by omega)
  by_cases q8 : pc < 576
  · exact zg_of zga8 (by omega) (by omega)
  by_cases q9 : pc < 640
  · exact zg_of zga9 (by omega) (by omega)
  by_cases q10 : pc < 704
  · exact zg_of zga10 (by omega) (by omega)
  by_cases q11 : pc < 768
  · exact zg_of zga11 (by omega) (by omega)
  by_cases q12 : pc < 832
  · exact zg_of zga12 (by omega) (by omega)
  by_cases q13 : pc < 896
  · exact zg_of zga13 (by omega) (by omega)
  by_cases q14 : pc < 960
  · exact zg_of zga14 (by omega) (by omega)
  by_cases q15 : pc < 1024
  · exact zg_of zga15 (by omega) (by omega)
  by_cases q16 : pc < 1088
  · exact zg_of zga16 (by omega) (by omega)
  by_cases q17 : pc < 1152
  · exact zg_of zga17 (by omega) (by omega)
  by_cases q18 : pc < 1216
  · exact zg_of zga18 (by omega) (by omega)
  by_cases q19 : pc < 1280
  · exact zg_of zga19 (by omega) (by omega)
  by_cases q20 : pc < 1344
  · exact zg_of zga20 (by omega) (by omega)
  by_cases q21 : pc < 1408
  · exact zg_of zga21 (by omega) (by omega)
  by_cases q22 : pc < 1472
  · exact zg_of zga22 (by omega) (by omega)
  by_cases q23 : pc < 1536
  · exact zg_of zga23 (by omega) (by omega)
  by_cases q24 : pc < 1600
  · exact zg_of zga24 (by omega) (by omega)
  by_cases q25 : pc < 1664
  · exact zg_of zga25 (by omega) (by omega)
  exact zg_of zga26 (by omega) (by omega)
theorem zl_mc : z_mcall 1 = true := by
  refine List.all_eq_true.mpr (fun pc hpc => ?_)
  have hpc : pc < 1695 := List.mem_range.mp hpc
  show zgM pc = true
  by_cases q0 : pc < 64
  · exact zg_of zgm0 (by omega) (by omega)
  by_cases q1 : pc < 128
  · exact zg_of zgm1 (by omega) (by omega)
  by_cases q2 : pc < 192
  · exact zg_of zgm2 (by omega) (by omega)
  by_cases q3 : pc < 256
  · exact zg_of zgm3 (by omega) (by omega)
  by_cases q4 : pc < 320
  · exact zg_of zgm4 (by omega) (by omega)
  by_cases q5 : pc < 384
  · exact zg_of zgm5 (by omega) (by omega)
  by_cases q6 : pc < 448
  · exact zg_of zgm6 (by omega) (by omega)
  by_cases q7 : pc < 512
  · exact zg_of zgm7 (by omega) (by omega)
  by_cases q8 : pc < 576
  · exact zg_of zgm8 (by omega) (by omega)
  by_cases q9 : pc < 640
  · exact zg_of zgm9 (by omega) (by omega)
  by_cases q10 : pc < 704
  · exact zg_of zgm10 (by omega) (by omega)
  by_cases q11 : pc < 768
  · exact zg_of zgm11 (by omega) (by omega)
  by_cases q12 : pc < 832
  · exact zg_of zgm12 (by omega) (by omega)
  by_cases q13 : pc < 896
  · exact zg_of zgm13 (by omega) (by omega)
  by_cases q14 : pc < 960
  · exact zg_of zgm14 (by omega) (by omega)
  by_cases q15 : pc < 1024
  · exact zg_of zgm15 (by omega) (by omega)
  by_cases q16 : pc < 1088
  · exact zg_of zgm16 (by omega) (by omega)
  by_cases q17 : pc < 1152
  · exact zg_of zgm17 (by omega) (by omega)
  by_cases q18 : pc < 1216
  · exact zg_of zgm18 (by omega) (by omega)
  by_cases q19 : pc < 1280
  · exact zg_of zgm19 (by omega) (by omega)
  by_cases q20 : pc < 1344
  · exact zg_of zgm20 (by omega) (by omega)
  by_cases q21 : pc < 1408
  · exact zg_of zgm21 (by omega) (by omega)
  by_cases q22 : pc < 1472
  · exact zg_of zgm22 (by omega) (by omega)
  by_cases q23 : pc < 1536
  · exact zg_of zgm23 (by omega) (by omega)
  by_cases q24 : pc < 1600
  · exact zg_of zgm24 (by omega) (by omega)
  by_cases q25 : pc < 1664
  · exact zg_of zgm25 (by omega) (by omega)
  exact zg_of zgm26 (by omega) (by omega)
