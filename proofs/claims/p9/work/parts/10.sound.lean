/-! ALL OF IT: what a method does over places is a contract of it, at every depth -/
set_option maxRecDepth 100000 in
theorem z_opok : z_W z_op.1 (.instanceMethod Lib.objectInit) = true ∧ z_W z_op.2 (.code Lib.objectInit ⟨#[0xb1]⟩ 1 none) = true := by decide +kernel
section ZA
variable {zn : Bool} {X : z_X} {d y : Nat} {p : Program} {l : Launch} {e : Env} {R : Room} {s : State} {m : MethodId} {args : Array Value} {below : List Frame} {meth : Method} {c : Code} {Q : State → Prop} {D : va_G} {tc : Nat → ClassId} {A : Nat → Prop} {ad0 : Nat → Nat} {n0 : Nat} {sl0 : Nat × Nat} {B : Nat × Nat}
variable {o : z_O} {pc : Nat} {lv : List (Option Value)} {sk : List Value} {h : z_H} {st' : z_S} {P : Prop}
theorem z_len1 {y pc len n : Nat} {i : Instr} {f : z_I} (hg : z_good y pc (i, len, f) = true) (hn : z_il i = n) (h0 : Nat.beq n 0 = false) : decode (z_mc y) pc = .ok (i, n) ∧ len = n ∧ z_good1 y pc (i, len, f) = true := by
  unfold z_good at hg
  rw [Bool.and_eq_true, Bool.and_eq_true, decide_eq_true_eq, hn, h0, Bool.false_or] at hg
  have e1 : len = n := Nat.eq_of_beq_eq_true hg.1.2
  rw [← e1]
  exact ⟨hg.1.1, rfl, hg.2⟩
theorem zs_all (F : z_Fix zn X d y p R s m args meth c D tc A ad0 n0 sl0 B) (hS : z_Snd zn d) {x : z_F} (hf : z_fetch y pc = some x) (hg : z_good y pc x = true) (hmc : z_mcall y = true) (hpc : pc < z_end y)
    (hi : z_ins (z_sem zn d) X B o x (pc, lv, sk, h) = some (st', P)) (hP : P) (k : z_Go y p l e R s m args below meth c Q D tc A ad0 n0 sl0 st') : z_Go y p l e R s m args below meth c Q D tc A ad0 n0 sl0 (pc, lv, sk, h) := by
  have hM := List.all_eq_true.mp hmc pc (List.mem_range.mpr hpc)
  rw [hf] at hM
  obtain ⟨i, len, f⟩ := x
  have hv0 : ∀ (z : Int32) (ad : Nat → Nat) (n : Nat), z_v ad (.int z) = .int z ∧ z_okv n (.int z) := fun _ _ _ => ⟨rfl, trivial⟩
  have hv1 : ∀ (z : Int64) (ad : Nat → Nat) (n : Nat), z_v ad (.long z) = .long z ∧ z_okv n (.long z) := fun _ _ _ => ⟨rfl, trivial⟩
  unfold z_ins at hi
  dsimp only at hi
  cases i
  case iconst n => obtain ⟨hd, -, -⟩ := z_len1 hg rfl rfl; exact zs_push (hv0 _) (fun q => lv_iconst F.1 F.2.1 hd rfl q) hi k
  case bipush n => obtain ⟨hd, -, -⟩ := z_len1 hg rfl rfl; exact zs_push (hv0 _) (fun q => lv_bipush F.1 F.2.1 hd rfl q) hi k
  case sipush n => obtain ⟨hd, -, -⟩ := z_len1 hg rfl rfl; exact zs_push (hv0 _) (fun q => lv_sipush F.1 F.2.1 hd rfl q) hi k
  case lconst n => obtain ⟨hd, -, -⟩ := z_len1 hg rfl rfl; exact zs_push (hv1 _) (fun q => lv_lconst F.1 F.2.1 hd rfl q) hi k
  case aconst_null => obtain ⟨hd, -, -⟩ := z_len1 hg rfl rfl; exact zs_push (v := .null) (fun _ _ => ⟨rfl, trivial⟩) (fun q => lv_null F.1 F.2.1 hd q) hi k
  case iload_n n => obtain ⟨hd, -, -⟩ := z_len1 hg rfl rfl; exact zs_ild (fun hl q => lv_iload_n F.1 F.2.1 hd rfl hl q) hi k
  case iload n => obtain ⟨hd, -, -⟩ := z_len1 hg rfl rfl; exact zs_ild (fun hl q => lv_iload F.1 F.2.1 hd hl q) hi k
  case lload_n n => obtain ⟨hd, -, -⟩ := z_len1 hg rfl rfl; exact zs_lld (fun hl q => lv_lload_n F.1 F.2.1 hd rfl hl q) hi k
  case lload n => obtain ⟨hd, -, -⟩ := z_len1 hg rfl rfl; exact zs_lld (fun hl q => lv_lload F.1 F.2.1 hd hl q) hi k
  case aload_n n => obtain ⟨hd, -, -⟩ := z_len1 hg rfl rfl; exact zs_ald (fun hl q => lv_aload_n F.1 F.2.1 hd rfl hl q) hi k
  case aload n => obtain ⟨hd, -, -⟩ := z_len1 hg rfl rfl; exact zs_ald (fun hl q => lv_aload F.1 F.2.1 hd hl q) hi k
  case istore_n n => obtain ⟨hd, -, hl⟩ := z_len1 hg rfl rfl; exact zs_ist (fun h0 q => lv_istore_n F.1 F.2.1 hd rfl h0 (Nat.le_of_ble_eq_true hl) rfl q) hi k
  case istore n => obtain ⟨hd, -, hl⟩ := z_len1 hg rfl rfl; exact zs_ist (fun h0 q => lv_istore F.1 F.2.1 hd h0 (Nat.le_of_ble_eq_true hl) rfl q) hi k
  case lstore_n n => obtain ⟨hd, -, hl⟩ := z_len1 hg rfl rfl; exact zs_lst (fun h0 q => lv_lstore_n F.1 F.2.1 hd rfl h0 (Nat.le_of_ble_eq_true hl) rfl q) hi k
  case lstore n => obtain ⟨hd, -, hl⟩ := z_len1 hg rfl rfl; exact zs_lst (fun h0 q => lv_lstore F.1 F.2.1 hd h0 (Nat.le_of_ble_eq_true hl) rfl q) hi k
  case astore_n n => obtain ⟨hd, -, hl⟩ := z_len1 hg rfl rfl; exact zs_ast (fun h0 q => lv_astore_n F.1 F.2.1 hd rfl h0 (Nat.le_of_ble_eq_true hl) rfl q) hi k
  case astore n => obtain ⟨hd, -, hl⟩ := z_len1 hg rfl rfl; exact zs_ast (fun h0 q => lv_astore F.1 F.2.1 hd h0 (Nat.le_of_ble_eq_true hl) rfl q) hi k
  case iinc n j => obtain ⟨hd, -, hl⟩ := z_len1 hg rfl rfl; exact zs_iinc (fun h0 hk q => lv_iinc F.1 F.2.1 hd h0 hk rfl (Nat.le_of_ble_eq_true hl) rfl q) hi k
  case iadd => obtain ⟨hd, -, -⟩ := z_len1 hg rfl rfl; exact zs_ii (fun _ q => lv_iadd F.1 F.2.1 hd q) hi hP k
  case isub => obtain ⟨hd, -, -⟩ := z_len1 hg rfl rfl; exact zs_ii (fun _ q => lv_isub F.1 F.2.1 hd q) hi hP k
  case imul => obtain ⟨hd, -, -⟩ := z_len1 hg rfl rfl; exact zs_ii (fun _ q => lv_imul F.1 F.2.1 hd q) hi hP k
  case iand => obtain ⟨hd, -, -⟩ := z_len1 hg rfl rfl; exact zs_ii (fun _ q => lv_iand F.1 F.2.1 hd q) hi hP k
  case ior => obtain ⟨hd, -, -⟩ := z_len1 hg rfl rfl; exact zs_ii (fun _ q => lv_ior F.1 F.2.1 hd q) hi hP k
  case ixor => obtain ⟨hd, -, -⟩ := z_len1 hg rfl rfl; exact zs_ii (fun _ q => lv_ixor F.1 F.2.1 hd q) hi hP k
  case idiv => obtain ⟨hd, -, -⟩ := z_len1 hg rfl rfl; exact zs_ii (fun h0 q => lv_idiv F.1 F.2.1 hd h0 q) hi hP k
  case irem => obtain ⟨hd, -, -⟩ := z_len1 hg rfl rfl; exact zs_ii (fun h0 q => lv_irem F.1 F.2.1 hd h0 q) hi hP k
  case ishl => obtain ⟨hd, -, -⟩ := z_len1 hg rfl rfl; exact zs_ii (fun _ q => lv_ishl F.1 F.2.1 hd q) hi hP k
  case ishr => obtain ⟨hd, -, -⟩ := z_len1 hg rfl rfl; exact zs_ii (fun _ q => lv_ishr F.1 F.2.1 hd q) hi hP k
  case iushr => obtain ⟨hd, -, -⟩ := z_len1 hg rfl rfl; exact zs_ii (fun _ q => lv_iushr F.1 F.2.1 hd rfl q) hi hP k
  case ladd => obtain ⟨hd, -, -⟩ := z_len1 hg rfl rfl; exact zs_jj (fun _ q => lv_ladd F.1 F.2.1 hd q) hi hP k
  case lsub => obtain ⟨hd, -, -⟩ := z_len1 hg rfl rfl; exact zs_jj (fun _ q => lv_lsub F.1 F.2.1 hd q) hi hP k
  case lmul => obtain ⟨hd, -, -⟩ := z_len1 hg rfl rfl; exact zs_jj (fun _ q => lv_lmul F.1 F.2.1 hd q) hi hP k
  case land => obtain ⟨hd, -, -⟩ := z_len1 hg rfl rfl; exact zs_jj (fun _ q => lv_land F.1 F.2.1 hd q) hi hP k
  case lor => obtain ⟨hd, -, -⟩ := z_len1 hg rfl rfl; exact zs_jj (fun _ q => lv_lor F.1 F.2.1 hd q) hi hP k
  case ldiv => obtain ⟨hd, -, -⟩ := z_len1 hg rfl rfl; exact zs_jj (fun h0 q => lv_ldiv F.1 F.2.1 hd h0 q) hi hP k
  case lrem => obtain ⟨hd, -, -⟩ := z_len1 hg rfl rfl; exact zs_jj (fun h0 q => lv_lrem F.1 F.2.1 hd h0 q) hi hP k
  case lushr => obtain ⟨hd, -, -⟩ := z_len1 hg rfl rfl; exact zs_ji (fun q => lv_lushr F.1 F.2.1 hd rfl q) hi k
  case lshl => obtain ⟨hd, -, -⟩ := z_len1 hg rfl rfl; exact zs_ji (fun q => lv_lshl F.1 F.2.1 hd rfl q) hi k
  case ineg => obtain ⟨hd, -, -⟩ := z_len1 hg rfl rfl; exact zs_i1 (fun ad n x => hv0 _ ad n) (fun q => lv_ineg F.1 F.2.1 hd q) hi k
  case i2l => obtain ⟨hd, -, -⟩ := z_len1 hg rfl rfl; exact zs_i1 (fun ad n x => hv1 _ ad n) (fun q => lv_i2l F.1 F.2.1 hd rfl q) hi k
  case i2b => obtain ⟨hd, -, -⟩ := z_len1 hg rfl rfl; exact zs_i1 (fun ad n x => hv0 _ ad n) (fun q => lv_i2b F.1 F.2.1 hd rfl q) hi k
  case i2c => obtain ⟨hd, -, -⟩ := z_len1 hg rfl rfl; exact zs_i1 (fun ad n x => hv0 _ ad n) (fun q => lv_i2c F.1 F.2.1 hd rfl q) hi k
  case l2i => obtain ⟨hd, -, -⟩ := z_len1 hg rfl rfl; exact zs_j1 (fun ad n x => hv0 _ ad n) (fun q => lv_l2i F.1 F.2.1 hd rfl q) hi k
  case lcmp => obtain ⟨hd, -, -⟩ := z_len1 hg rfl rfl; exact zs_lc (fun q => W.lcmp F.1 F.2.1 hd q) hi k
  case ifCond cnd off =>
    obtain ⟨hd, -, hl⟩ := z_len1 hg rfl rfl
    have ht := of_decide_eq_true (show decide ((pc : Int) + off = (z_tgt pc off : Int)) = true from hl)
    cases cnd
    case eq => exact zs_if0 (fun a b => lv_if_eq F.1 F.2.1 hd ht a b) hi hP k
    case ne => exact zs_if0 (fun a b => lv_if_ne F.1 F.2.1 hd ht a (fun q => b (fun z => z q))) hi hP k
    case lt => exact zs_if0 (fun a b => lv_if_lt F.1 F.2.1 hd ht a b) hi hP k
    case ge => exact zs_if0 (fun a b => lv_if_ge F.1 F.2.1 hd ht a b) hi hP k
    case gt => exact zs_if0 (fun a b => lv_if_gt F.1 F.2.1 hd ht a b) hi hP k
    case le => exact zs_if0 (fun a b => lv_if_le F.1 F.2.1 hd ht a b) hi hP k
  case if_icmp cnd off =>
    obtain ⟨hd, -, hl⟩ := z_len1 hg rfl rfl
    have ht := of_decide_eq_true (show decide ((pc : Int) + off = (z_tgt pc off : Int)) = true from hl)
    cases cnd
    case eq => exact zs_if2 (fun a b => lv_icmp_eq F.1 F.2.1 hd ht a b) hi hP k
    case ne => exact zs_if2 (fun a b => lv_icmp_ne F.1 F.2.1 hd ht a (fun q => b (fun z => z q))) hi hP k
    case lt => exact zs_if2 (fun a b => lv_icmp_lt F.1 F.2.1 hd ht a b) hi hP k
    case ge => exact zs_if2 (fun a b => lv_icmp_ge F.1 F.2.1 hd ht a b) hi hP k
    case gt => exact zs_if2 (fun a b => lv_icmp_gt F.1 F.2.1 hd ht a b) hi hP k
    case le => exact zs_if2 (fun a b => lv_icmp_le F.1 F.2.1 hd ht a b) hi hP k
  case goto off =>
    obtain ⟨hd, -, hl⟩ := z_len1 hg rfl rfl
    have ht := of_decide_eq_true (show decide ((pc : Int) + off = (z_tgt pc off : Int)) = true from hl)
    cases hi
    intro ad H locs cells slots ls rel
    exact lv_goto F.1 F.2.1 hd ht (k ad H locs cells slots ls (rel.stk id))
  case ifnonnull off => obtain ⟨hd, -, hl⟩ := z_len1 hg rfl rfl; exact zs_nn F hd hl hi k
  case dup => obtain ⟨hd, -, -⟩ := z_len1 hg rfl rfl; exact zs_dup F hd hi k
  case pop => obtain ⟨hd, -, -⟩ := z_len1 hg rfl rfl; exact zs_pop F hd hi k
  case dup2 => obtain ⟨hd, -, -⟩ := z_len1 hg rfl rfl; exact zs_dup2 F hd hi k
  case dup_x1 => obtain ⟨hd, -, -⟩ := z_len1 hg rfl rfl; exact zs_x1 F hd hi k
  case iaload => obtain ⟨hd, -, -⟩ := z_len1 hg rfl rfl; exact zs_ial F hd hi hP k
  case baload => obtain ⟨hd, -, -⟩ := z_len1 hg rfl rfl; exact zs_bal F hd hi hP k
  case laload => obtain ⟨hd, -, -⟩ := z_len1 hg rfl rfl; exact zs_lal F hd hi hP k
  case aastore => obtain ⟨hd, -, -⟩ := z_len1 hg rfl rfl; exact zs_aas F hd hi hP k
  case aaload => obtain ⟨hd, -, -⟩ := z_len1 hg rfl rfl; exact zs_aal F hd hi hP k
  case iastore => obtain ⟨hd, -, -⟩ := z_len1 hg rfl rfl; exact zs_ias F hd hi hP k
  case bastore => obtain ⟨hd, -, -⟩ := z_len1 hg rfl rfl; exact zs_bas F hd hi hP k
  case lastore => obtain ⟨hd, -, -⟩ := z_len1 hg rfl rfl; exact zs_las F hd hi hP k
  case arraylength => obtain ⟨hd, -, -⟩ := z_len1 hg rfl rfl; exact zs_len F hd hi hP k
  case getfield j => obtain ⟨hd, rfl, hl⟩ := z_len1 hg rfl rfl; exact zs_gf F hd hl hi hP k
  case putfield j => obtain ⟨hd, rfl, hl⟩ := z_len1 hg rfl rfl; exact zs_pf F hd hl hi hP k
  case new j => obtain ⟨hd, rfl, hl⟩ := z_len1 hg rfl rfl; exact zs_nw F hd hl hi hP k
  case newarray j => obtain ⟨hd, rfl, hl⟩ := z_len1 hg rfl rfl; exact zs_na F hd hl hi hP k
  case ldc j => obtain ⟨hd, rfl, hl⟩ := z_len1 hg rfl rfl; exact zs_ldc F hd hl hi k
  case ldc_w j => obtain ⟨hd, rfl, hl⟩ := z_len1 hg rfl rfl; exact zs_ldcw F hd hl hi k
  case ldc2_w j => obtain ⟨hd, rfl, hl⟩ := z_len1 hg rfl rfl; exact zs_ldc2 F hd hl hi k
  case getstatic j => obtain ⟨hd, rfl, hl⟩ := z_len1 hg rfl rfl; exact zs_gs F hd hl hi k
  case tableswitch dd lo hi0 offs =>
    unfold z_good at hg
    rw [Bool.and_eq_true, Bool.and_eq_true, decide_eq_true_eq] at hg
    have hl : (z_tok pc dd && offs.toList.all (fun o => z_tok pc o)) = true := hg.2
    rw [Bool.and_eq_true] at hl
    exact zs_tsw F hg.1.1 hl.1 hl.2 hi hP k
  case lookupswitch dd ps =>
    unfold z_good at hg
    rw [Bool.and_eq_true, Bool.and_eq_true, decide_eq_true_eq] at hg
    have hl : (z_tok pc dd && ps.toList.all (fun o => z_tok pc o.2) && (ps.toList.zip (ps.toList.drop 1)).all (fun (a, next) => a.1 < next.1)) = true := hg.2
    rw [Bool.and_eq_true, Bool.and_eq_true] at hl
    exact zs_lsw F hg.1.1 hl.1.1 hl.1.2 hl.2 hi hP k
  case invokestatic j =>
    obtain ⟨hd, rfl, hl⟩ := z_len1 hg rfl rfl
    dsimp only at hM
    exact zs_is F hS hd hl (fun h0 => by rw [h0] at hM; exact hM) hi hP k
  case invokevirtual j =>
    obtain ⟨hd, rfl, hl⟩ := z_len1 hg rfl rfl
    dsimp only at hM
    cases h0 : Nat.beq f.1 0 with
    | false => unfold z_iv at hi; rw [h0] at hi; cases hi
    | true =>
      rw [h0] at hM
      simp only [cond_true, Bool.and_eq_true] at hM
      refine zs_iv F hS hd hl ⟨hM.1, fun q => ?_, fun q => ?_⟩ hi hP k
      · have h2 := hM.2
        rw [q, show Nat.beq 13 13 = true from rfl, cond_true, decide_eq_true_eq] at h2
        exact h2
      · have h2 := hM.2
        have e1 : Nat.beq (z_mk f.2.1) 13 = false := by
          cases hz : Nat.beq (z_mk f.2.1) 13 with
          | false => rfl
          | true => have := Nat.eq_of_beq_eq_true hz; omega
        rw [e1, cond_false, Nat.ble_eq_true_of_le q, cond_true, decide_eq_true_eq] at h2
        exact h2
  case invokespecial j =>
    obtain ⟨hd, rfl, hl⟩ := z_len1 hg rfl rfl
    dsimp only at hM
    refine zs_ip F hS z_opok hd hl (fun q => ?_) hi hP k
    rw [q, cond_true, Bool.and_eq_true, decide_eq_true_eq] at hM
    exact hM
  case anewarray j => obtain ⟨hd, rfl, hl⟩ := z_len1 hg rfl rfl; exact zs_anq F hd hl hi hP k
  case multianewarray a b => obtain ⟨hd, rfl, hl⟩ := z_len1 hg rfl rfl; exact zs_mna F hd hl hi hP k
  all_goals exact absurd hi (by simp)
theorem zs_step (F : z_Fix zn X d y p R s m args meth c D tc A ad0 n0 sl0 B) (hS : z_Snd zn d) (hu : z_goodAt y = true) (hmc : z_mcall y = true) {st : z_S}
    (hi : z_step (z_sem zn d) X B y o st = some (st', P)) (hP : P) (k : z_Go y p l e R s m args below meth c Q D tc A ad0 n0 sl0 st') : z_Go y p l e R s m args below meth c Q D tc A ad0 n0 sl0 st := by
  obtain ⟨pc, lv, sk, h⟩ := st
  unfold z_step at hi
  dsimp only at hi
  split at hi
  · next x hx =>
    have hlt := z_fend hx
    have hg := List.all_eq_true.mp hu pc (List.mem_range.mpr hlt)
    rw [hx] at hg
    exact zs_all F hS hx hg hmc hlt hi hP k
  · cases hi
theorem zs_path (F : z_Fix zn X d y p R s m args meth c D tc A ad0 n0 sl0 B) (hS : z_Snd zn d) (hu : z_goodAt y = true) (hmc : z_mcall y = true) : ∀ (os : List z_O) (st st2 : z_S) (P : Prop),
    z_path (z_sem zn d) X B y os st = some (st2, P) → P → z_Go y p l e R s m args below meth c Q D tc A ad0 n0 sl0 st2 → z_Go y p l e R s m args below meth c Q D tc A ad0 n0 sl0 st
  | [], st, st2, P, h, hP, k => by cases h; exact k
  | o :: os, st, st2, P, h, hP, k => by
    unfold z_path at h
    split at h
    · next st1 P1 h1 =>
      split at h
      · next st3 P2 h2 =>
        cases h
        exact zs_step F hS hu hmc h1 hP.1 (zs_path F hS hu hmc os st1 _ P2 h2 hP.2 k)
      · cases h
    · cases h
end ZA
