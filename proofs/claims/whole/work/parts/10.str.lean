theorem cd_J0_length_8abf5 : Cond.code yJ0_length_8abf5 cJ0_length_8abf5 1 (some .int) ∈ mW := mW_of (List.mem_append_right _ (List.mem_of_getElem? (i := 404) (by decide +kernel))) (by decide +kernel)
theorem im_J0_length_8abf5 : Cond.instanceMethod yJ0_length_8abf5 ∈ mW := mW_of (List.mem_append_right _ (List.mem_of_getElem? (i := 402) (by decide +kernel))) (by decide +kernel)
theorem se_J0_length_8abf5 : Cond.selects yJ0_length_8abf5.cls yJ0_length_8abf5 yJ0_length_8abf5 ∈ mW := mW_of (List.mem_append_right _ (List.mem_of_getElem? (i := 403) (by decide +kernel))) (by decide +kernel)
theorem de_J0_length_8abf5 : mDesc yJ0_length_8abf5 0 := by decide +kernel
theorem cd_J0_charAt_5068e : Cond.code yJ0_charAt_5068e cJ0_charAt_5068e 2 (some .char) ∈ mW := mW_of (List.mem_append_right _ (List.mem_of_getElem? (i := 414) (by decide +kernel))) (by decide +kernel)
theorem im_J0_charAt_5068e : Cond.instanceMethod yJ0_charAt_5068e ∈ mW := mW_of (List.mem_append_right _ (List.mem_of_getElem? (i := 412) (by decide +kernel))) (by decide +kernel)
theorem se_J0_charAt_5068e : Cond.selects yJ0_charAt_5068e.cls yJ0_charAt_5068e yJ0_charAt_5068e ∈ mW := mW_of (List.mem_append_right _ (List.mem_of_getElem? (i := 413) (by decide +kernel))) (by decide +kernel)
theorem de_J0_charAt_5068e : mDesc yJ0_charAt_5068e 1 := by decide +kernel
theorem cd_J0_coder_7d493 : Cond.code yJ0_coder_7d493 cJ0_coder_7d493 1 (some .byte) ∈ mW := mW_of (List.mem_append_right _ (List.mem_of_getElem? (i := 408) (by decide +kernel))) (by decide +kernel)
theorem im_J0_coder_7d493 : Cond.instanceMethod yJ0_coder_7d493 ∈ mW := mW_of (List.mem_append_right _ (List.mem_of_getElem? (i := 406) (by decide +kernel))) (by decide +kernel)
theorem se_J0_coder_7d493 : Cond.selects yJ0_coder_7d493.cls yJ0_coder_7d493 yJ0_coder_7d493 ∈ mW := mW_of (List.mem_append_right _ (List.mem_of_getElem? (i := 407) (by decide +kernel))) (by decide +kernel)
theorem de_J0_coder_7d493 : mDesc yJ0_coder_7d493 0 := by decide +kernel
theorem cd_J0_isLatin1_aae02 : Cond.code yJ0_isLatin1_aae02 cJ0_isLatin1_aae02 1 (some .boolean) ∈ mW := mW_of (List.mem_append_right _ (List.mem_of_getElem? (i := 418) (by decide +kernel))) (by decide +kernel)
theorem im_J0_isLatin1_aae02 : Cond.instanceMethod yJ0_isLatin1_aae02 ∈ mW := mW_of (List.mem_append_right _ (List.mem_of_getElem? (i := 416) (by decide +kernel))) (by decide +kernel)
theorem se_J0_isLatin1_aae02 : Cond.selects yJ0_isLatin1_aae02.cls yJ0_isLatin1_aae02 yJ0_isLatin1_aae02 ∈ mW := mW_of (List.mem_append_right _ (List.mem_of_getElem? (i := 417) (by decide +kernel))) (by decide +kernel)
theorem de_J0_isLatin1_aae02 : mDesc yJ0_isLatin1_aae02 0 := by decide +kernel
theorem cd_J0_checkIndex_df160 : Cond.code yJ0_checkIndex_df160 cJ0_checkIndex_df160 2 none ∈ mW := mW_of (List.mem_append_right _ (List.mem_of_getElem? (i := 424) (by decide +kernel))) (by decide +kernel)
theorem sn_J0_checkIndex_df160 : Cond.static yJ0_checkIndex_df160 ∈ mW := mW_of (List.mem_append_right _ (List.mem_of_getElem? (i := 423) (by decide +kernel))) (by decide +kernel)
theorem de_J0_checkIndex_df160 : mDesc yJ0_checkIndex_df160 2 := by decide +kernel
theorem cd_J1_charAt_3b067 : Cond.code yJ1_charAt_3b067 cJ1_charAt_3b067 2 (some .char) ∈ mW := mW_of (List.mem_append_right _ (List.mem_of_getElem? (i := 421) (by decide +kernel))) (by decide +kernel)
theorem sn_J1_charAt_3b067 : Cond.static yJ1_charAt_3b067 ∈ mW := mW_of (List.mem_append_right _ (List.mem_of_getElem? (i := 420) (by decide +kernel))) (by decide +kernel)
theorem de_J1_charAt_3b067 : mDesc yJ1_charAt_3b067 2 := by decide +kernel
theorem cd_J3_checkIndex_8e157 : Cond.code yJ3_checkIndex_8e157 cJ3_checkIndex_8e157 3 (some .int) ∈ mW := mW_of (List.mem_append_right _ (List.mem_of_getElem? (i := 429) (by decide +kernel))) (by decide +kernel)
theorem sn_J3_checkIndex_8e157 : Cond.static yJ3_checkIndex_8e157 ∈ mW := mW_of (List.mem_append_right _ (List.mem_of_getElem? (i := 428) (by decide +kernel))) (by decide +kernel)
theorem de_J3_checkIndex_8e157 : mDesc yJ3_checkIndex_8e157 3 := by decide +kernel
theorem in_RJ0 : Cond.initialized RJ0 ∈ mW := mW_of (List.mem_append_right _ (List.mem_of_getElem? (i := 14) (by decide +kernel))) (by decide +kernel)
theorem in_RJ1 : Cond.initialized RJ1 ∈ mW := mW_of (List.mem_append_right _ (List.mem_of_getElem? (i := 15) (by decide +kernel))) (by decide +kernel)
theorem in_RJ3 : Cond.initialized RJ3 ∈ mW := mW_of (List.mem_append_right _ (List.mem_of_getElem? (i := 16) (by decide +kernel))) (by decide +kernel)
theorem lk_RJ0_335 : Cond.methodLink RJ0 335 yJ0_coder_7d493 ∈ mW := mW_of (List.mem_append_right _ (List.mem_of_getElem? (i := 405) (by decide +kernel))) (by decide +kernel)
theorem lk_RJ0_492 : Cond.methodLink RJ0 492 yJ0_isLatin1_aae02 ∈ mW := mW_of (List.mem_append_right _ (List.mem_of_getElem? (i := 415) (by decide +kernel))) (by decide +kernel)
theorem lk_RJ0_495 : Cond.methodLink RJ0 495 yJ1_charAt_3b067 ∈ mW := mW_of (List.mem_append_right _ (List.mem_of_getElem? (i := 419) (by decide +kernel))) (by decide +kernel)
theorem lk_RJ1_9 : Cond.methodLink RJ1 9 yJ0_checkIndex_df160 ∈ mW := mW_of (List.mem_append_right _ (List.mem_of_getElem? (i := 422) (by decide +kernel))) (by decide +kernel)
theorem lk_RJ0_1059 : Cond.methodLink RJ0 1059 yJ3_checkIndex_8e157 ∈ mW := mW_of (List.mem_append_right _ (List.mem_of_getElem? (i := 427) (by decide +kernel))) (by decide +kernel)
theorem lk_RX9_81 : Cond.methodLink RX9 81 yJ0_length_8abf5 ∈ mW := mW_of (List.mem_append_right _ (List.mem_of_getElem? (i := 401) (by decide +kernel))) (by decide +kernel)
theorem lk_RX9_86 : Cond.methodLink RX9 86 yJ0_charAt_5068e ∈ mW := mW_of (List.mem_append_right _ (List.mem_of_getElem? (i := 411) (by decide +kernel))) (by decide +kernel)
theorem fk_RJ0_9 : Cond.fieldLink RJ0 9 "java/lang/String" "value" "[B" ∈ mW := mW_of (List.mem_append_right _ (List.mem_of_getElem? (i := 1307) (by decide +kernel))) (by decide +kernel)
theorem fk_RJ0_15 : Cond.fieldLink RJ0 15 "java/lang/String" "coder" "B" ∈ mW := mW_of (List.mem_append_right _ (List.mem_of_getElem? (i := 1308) (by decide +kernel))) (by decide +kernel)
theorem fk_RJ0_38 : Cond.fieldLink RJ0 38 "java/lang/String" "COMPACT_STRINGS" "Z" ∈ mW := mW_of (List.mem_append_right _ (List.mem_of_getElem? (i := 409) (by decide +kernel))) (by decide +kernel)
theorem fk_RJ0_1053 : Cond.fieldLink RJ0 1053 "jdk/internal/util/Preconditions" "SIOOBE_FORMATTER" "Ljava/util/function/BiFunction;" ∈ mW := mW_of (List.mem_append_right _ (List.mem_of_getElem? (i := 425) (by decide +kernel))) (by decide +kernel)
section STR
variable {α β : Type} {X : mX} {vi : α → Option Value} {vi0 : β → Option Value} {R : Room} {cc : ByteArray} {own : String} {nL : Nat} {ret : Option FieldType} {l : Launch} {S : mM} {lv : List (Nat × Value)} {st0 rest : List Value} {pc : Nat} {res A : Option (α × mM)} {res0 : Option (β × mM)} {K : β → mM → Option (α × mM)}
theorem mw_ldcS (w : Nat) {idx : Nat} (hw : w < 9) (hi : mSI.getD w 0 = idx) (hd : decode cc pc = .ok (.ldc idx, 2)) (kk : MW X vi R cc RX9 nL ret l S lv (.ref (X.2.2.2.2.1 w) :: rest) (pc + 2) A) : MW X vi R cc RX9 nL ret l S lv rest pc A :=
  fun r S' hr p e s m args below meth c H locs ls Cx hP hS h => va_ldcS Cx.1.1 Cx.1.2.1 Cx.1.2.2.2.2.1 (by have := Cx.1.2.2.2.2.2.2.2.2.2.2.2.1 w hw; rw [hi] at this; exact this) hd (kk r S' hr p e s m args below meth c H locs ls Cx hP hS h)
theorem mw_sval {w : Nat} (hw : w < 9) (hd : decode cc pc = .ok (.getfield 9, 3)) (kk : MW X vi R cc RJ0 nL ret l S lv (.ref (X.2.2.2.2.2 w) :: rest) (pc + 3) A) : MW X vi R cc RJ0 nL ret l S lv (.ref (X.2.2.2.2.1 w) :: rest) pc A :=
  fun r S' hr p e s m args below meth c H locs ls Cx hP hS h => vk_getf Cx.1.1 Cx.1.2.1 (Cx.1.2.2.2.2.2.2.2.2.2.2.1.1 w hw).2.2.1 hS Cx.1.2.2.2.2.1 (Cx.1.2.2.2.2.2.1 _ fk_RJ0_9) (fun _ h => h) hd (kk r S' hr p e s m args below meth c H locs ls Cx hP hS h)
theorem mw_scod {w : Nat} (hw : w < 9) (hd : decode cc pc = .ok (.getfield 15, 3)) (kk : MW X vi R cc RJ0 nL ret l S lv (.int 0 :: rest) (pc + 3) A) : MW X vi R cc RJ0 nL ret l S lv (.ref (X.2.2.2.2.1 w) :: rest) pc A :=
  fun r S' hr p e s m args below meth c H locs ls Cx hP hS h => vk_getf Cx.1.1 Cx.1.2.1 (Cx.1.2.2.2.2.2.2.2.2.2.2.1.1 w hw).2.1 hS Cx.1.2.2.2.2.1 (Cx.1.2.2.2.2.2.1 _ fk_RJ0_15) (fun _ h => h) hd (kk r S' hr p e s m args below meth c H locs ls Cx hP hS h)
theorem mw_slen {w : Nat} (hw : w < 9) (hd : decode cc pc = .ok (.arraylength, 1)) (kk : MW X vi R cc own nL ret l S lv (.int (Int32.ofNat (mSL.getD w 0)) :: rest) (pc + 1) A) : MW X vi R cc own nL ret l S lv (.ref (X.2.2.2.2.2 w) :: rest) pc A :=
  fun r S' hr p e s m args below meth c H locs ls Cx hP hS h => va_tlen Cx.1.1 Cx.1.2.1 (Cx.1.2.2.2.2.2.2.2.2.2.2.1.1 w hw).2.2.2 hS rfl hd (kk r S' hr p e s m args below meth c H locs ls Cx hP hS h)
theorem mw_sbld {w : Nat} {i : Int32} (hw : w < 9) (hi : 0 ≤ i ∧ i.toNatClampNeg < mSL.getD w 0) (hd : decode cc pc = .ok (.baload, 1)) (kk : MW X vi R cc own nL ret l S lv (.int ((mSB.getD w []).getD i.toNatClampNeg 0) :: rest) (pc + 1) A) : MW X vi R cc own nL ret l S lv (.int i :: .ref (X.2.2.2.2.2 w) :: rest) pc A :=
  fun r S' hr p e s m args below meth c H locs ls Cx hP hS h => va_tb Cx.1.1 Cx.1.2.1 (Cx.1.2.2.2.2.2.2.2.2.2.2.1.1 w hw).2.2.2 hS (mIn_of hi) rfl hd (kk r S' hr p e s m args below meth c H locs ls Cx hP hS h)
theorem mw_scs (hd : decode cc pc = .ok (.getstatic 38, 3)) (kk : MW X vi R cc RJ0 nL ret l S lv (.int 1 :: rest) (pc + 3) A) : MW X vi R cc RJ0 nL ret l S lv rest pc A :=
  fun r S' hr p e s m args below meth c H locs ls Cx hP hS h => va_gets Cx.1.1 Cx.1.2.1 Cx.1.2.2.2.2.2.2.2.2.2.2.2.2.1 hS Cx.1.2.2.2.2.1 (Cx.1.2.2.2.2.2.1 _ fk_RJ0_38) (fun _ h => h) hd (kk r S' hr p e s m args below meth c H locs ls Cx hP hS h)
theorem mw_sfmt (hd : decode cc pc = .ok (.getstatic 1053, 3)) (k0 : MW X vi R cc RJ0 nL ret l S lv (.null :: rest) (pc + 3) A) (kk : ∀ t, MW X vi R cc RJ0 nL ret l S lv (.ref t :: rest) (pc + 3) A) : MW X vi R cc RJ0 nL ret l S lv rest pc A :=
  fun r S' hr p e s m args below meth c H locs ls Cx hP hS h => by
    rcases Cx.1.2.2.2.2.2.2.2.2.2.2.2.2.2 with hz | ⟨t, hz⟩
    · exact va_gets Cx.1.1 Cx.1.2.1 hz hS Cx.1.2.2.2.2.1 (Cx.1.2.2.2.2.2.1 _ fk_RJ0_1053) (fun _ h => h) hd (k0 r S' hr p e s m args below meth c H locs ls Cx hP hS h)
    · exact va_gets Cx.1.1 Cx.1.2.1 hz hS Cx.1.2.2.2.2.1 (Cx.1.2.2.2.2.2.1 _ fk_RJ0_1053) (fun _ h => h) hd (kk t r S' hr p e s m args below meth c H locs ls Cx hP hS h)
theorem mw_nret {v : Int32} {ty : FieldType} (hn : narrow ty (.int v) = .int v) (hd : decode cc pc = .ok (.ireturn, 1)) : MW X viI R cc own nL (some ty) l S lv [.int v] pc (some (v, S)) := by
  intro r S' hr p e s m args below meth c H locs ls Cx hP hS h
  cases hr
  exact W.zret Cx.1.1 Cx.1.2.1 Cx.1.2.2.1 hn (fun t ht hW => ⟨rfl, by rw [ht]; exact hP, hS.F ht⟩) hS.2.2 hd Cx.1.2.2.2.2.2.2.1
theorem mw_i2c {x : Int32} (hd : decode cc pc = .ok (.i2c, 1)) (kk : MW X vi R cc own nL ret l S lv (.int (x.toUInt32 % 65536).toInt32 :: rest) (pc + 1) A) : MW X vi R cc own nL ret l S lv (.int x :: rest) pc A :=
  fun r S' hr p e s m args below meth c H locs ls Cx hP hS h => lv_i2c Cx.1.1 Cx.1.2.1 hd rfl (kk r S' hr p e s m args below meth c H locs ls Cx hP hS h)
variable {y : MethodName} {bc : ByteArray} {nB idx n b : Nat} {rb : Option FieldType} {rm : Room} {As : List Value}
theorem mw_callVs {w : Nat} (hw : w < 9) (hM : mMet X vi0 y bc nB rb rm (.ref (X.2.2.2.2.1 w) :: As) l S res0) (hc : Cond.code y bc nB rb ∈ mW) (hl : Cond.methodLink own idx y ∈ mW) (hi : Cond.instanceMethod y ∈ mW) (hs : Cond.selects y.cls y y ∈ mW) (hini : Cond.initialized y.cls ∈ mW) (hdc : mDesc y n) (hz : rm.cells = 0 ∧ rm.slots = 0) (hR : rm.frames + 1 ≤ R.frames ∧ 8 + (nB + 11) + rm.locals ≤ R.locals) (hq : y.cls = "java/lang/String") (hn : As.length = n) (hst : st0 = As.reverse ++ .ref (X.2.2.2.2.1 w) :: rest) (hr8 : (rest.map fun v => v.category).sum ≤ 8) (hd : decode cc pc = .ok (.invokevirtual idx, 3))
    (kk : ∀ r0 S0, MW X vi R cc own nL ret l S0 lv ((vi0 r0).toList ++ rest) (pc + 3) (K r0 S0)) : MW X vi R cc own nL ret l S lv st0 pc (mBind res0 K) := by
  subst hst
  refine mw_run (a0 := (Value.ref (X.2.2.2.2.1 w) :: As).toArray) (fun r0 S0 h0 p e s m args below meth c H locs ls Cx hP hS h => ?_) kk
  have ok := Cx.1.2.2.2.2.2.1
  have hO := (Cx.1.2.2.2.2.2.2.2.2.2.2.1.1 w hw).1.kept hS.2.1
  obtain ⟨cell, g1, g2, g3, -⟩ := hO
  exact va_runV (C := y.cls) (As := As) (rest := rest) ⟨Cx.1.1, Cx.1.2.1, Cx.1.2.2.2.1, Cx.1.2.2.2.2.1, ok⟩ (hM r0 S0 h0) ⟨callB_of n ok (mGoodIn hc) rfl hz.1 hz.2 (ok _ hini) (ok _ hl) hdc hR, ok _ hi, ok _ hs⟩ ⟨mBlind, ⟨cell, g1, g2, by rw [hq]; exact g3⟩, mPre Cx.1.2.2.2.2.2.2.2 hP hS⟩ rfl hn h.1 rfl (lv_room hr8) hd ⟨Nat.zero_le _, Nat.zero_le _⟩
end STR
abbrev rm_s (f k : Nat) : Room := { frames := f, cells := 0, slots := 0, locals := k }
theorem mLook2 {x : Int32} (h0 : ¬ x = 0) (h1 : ¬ x = 1) : Op.lookupswitch.offset [((0 : Int), (27 : Int)), (1, 31)] 35 x.toInt = 35 := by
  have e0 : ¬ x.toInt = 0 := fun q => h0 (Int32.toInt_inj.mp (q.trans (by decide)))
  have e1 : ¬ x.toInt = 1 := fun q => h1 (Int32.toInt_inj.mp (q.trans (by decide)))
  simp [Op.lookupswitch.offset, e0, e1, Ne.symm e0, Ne.symm e1]
theorem t_s_coder (X : mX) (l : Launch) (w : Nat) (S : mM) (hw : w < 9) : mMet X viI yJ0_coder_7d493 cJ0_coder_7d493 1 (some .byte) (rm_s 0 0) [.ref (X.2.2.2.2.1 w)] l S (some (0, S)) := by
  refine mMet_of (by decide +kernel) rfl (Nat.le_of_ble_eq_true rfl) ?_
  refine mw_sub [0] (lv' := [(0, .ref (X.2.2.2.2.1 w))]) rfl ?_
  refine mw_scs dJ0_coder_7d493_0 ?_
  refine mw_eq (res' := if (1 : Int32) = 0 then none else some (0, S)) rfl rfl ?_
  refine mw_if_eq (tgt := 13) dJ0_coder_7d493_3 (by decide) mw_none ?_
  refine mw_aload_n 0 dJ0_coder_7d493_6 rfl rfl ?_
  refine mw_scod hw dJ0_coder_7d493_7 ?_
  refine mw_goto (tgt := 14) dJ0_coder_7d493_10 (by decide) ?_
  exact mw_nret rfl dJ0_coder_7d493_14
theorem t_s_isLatin1 (X : mX) (l : Launch) (w : Nat) (S : mM) (hw : w < 9) : mMet X viI yJ0_isLatin1_aae02 cJ0_isLatin1_aae02 1 (some .boolean) (rm_s 0 0) [.ref (X.2.2.2.2.1 w)] l S (some (1, S)) := by
  refine mMet_of (by decide +kernel) rfl (Nat.le_of_ble_eq_true rfl) ?_
  refine mw_sub [0] (lv' := [(0, .ref (X.2.2.2.2.1 w))]) rfl ?_
  refine mw_scs dJ0_isLatin1_aae02_0 ?_
  refine mw_eq (res' := if (1 : Int32) = 0 then none else some (1, S)) rfl rfl ?_
  refine mw_if_eq (tgt := 17) dJ0_isLatin1_aae02_3 (by decide) mw_none ?_
  refine mw_aload_n 0 dJ0_isLatin1_aae02_6 rfl rfl ?_
  refine mw_scod hw dJ0_isLatin1_aae02_7 ?_
  refine mw_eq (res' := if (0 : Int32) = 0 then some (1, S) else none) rfl rfl ?_
  refine mw_if_ne (tgt := 17) dJ0_isLatin1_aae02_10 (by decide) ?_ mw_none
  refine mw_iconst (v := 1) dJ0_isLatin1_aae02_13 (by decide) ?_
  refine mw_goto (tgt := 18) dJ0_isLatin1_aae02_14 (by decide) ?_
  exact mw_nret rfl dJ0_isLatin1_aae02_18
theorem t_s_length (X : mX) (l : Launch) (w : Nat) (S : mM) (hw : w < 9) : mMet X viI yJ0_length_8abf5 cJ0_length_8abf5 1 (some .int) (rm_s 1 20) [.ref (X.2.2.2.2.1 w)] l S (some (Int32.ofNat (mSL.getD w 0), S)) := by
  refine mMet_of (by decide +kernel) rfl (Nat.le_of_ble_eq_true rfl) ?_
  refine mw_sub [0] (lv' := [(0, .ref (X.2.2.2.2.1 w))]) rfl ?_
  refine mw_aload_n 0 dJ0_length_8abf5_0 rfl rfl ?_
  refine mw_sval hw dJ0_length_8abf5_1 ?_
  refine mw_slen hw dJ0_length_8abf5_4 ?_
  refine mw_aload_n 0 dJ0_length_8abf5_5 rfl rfl ?_
  refine mw_eq (res' := mBind (some ((0 : Int32), S)) (fun x S => some (Int32.ofNat (mSL.getD w 0) >>> (x &&& 31), S))) rfl (by
    have := (by decide : ∀ w, w < 9 → Int32.ofNat (mSL.getD w 0) = Int32.ofNat (mSL.getD w 0) >>> ((0 : Int32) &&& 31)) w hw
    show some (Int32.ofNat (mSL.getD w 0), S) = some (Int32.ofNat (mSL.getD w 0) >>> ((0 : Int32) &&& 31), S)
    rw [← this]) ?_
  refine mw_callVs hw (t_s_coder X l w S hw) cd_J0_coder_7d493 lk_RJ0_335 im_J0_coder_7d493 se_J0_coder_7d493 in_RJ0 de_J0_coder_7d493 ⟨rfl, rfl⟩ ⟨Nat.le_of_ble_eq_true rfl, Nat.le_of_ble_eq_true rfl⟩ rfl rfl rfl (Nat.le_of_ble_eq_true rfl) dJ0_length_8abf5_6 (fun r S => ?_)
  refine mw_ishr dJ0_length_8abf5_9 ?_
  exact mw_ireturn dJ0_length_8abf5_10
theorem t_s_pre (X : mX) (l : Launch) (i n : Int32) (v : Value) (hv : v = .null ∨ ∃ t, v = .ref t) (S : mM) (hi : 0 ≤ i ∧ i < n) : mMet X viI yJ3_checkIndex_8e157 cJ3_checkIndex_8e157 3 (some .int) (rm_s 0 0) [.int i, .int n, v] l S (some (i, S)) := by
  refine mMet_of (by decide +kernel) rfl (by rcases hv with rfl | ⟨t, rfl⟩ <;> exact Nat.le_of_ble_eq_true rfl) ?_
  refine mw_sub [0, 1] (lv' := [(0, .int i), (1, .int n)]) (by rcases hv with rfl | ⟨t, rfl⟩ <;> rfl) ?_
  refine mw_iload_n 0 dJ3_checkIndex_8e157_0 rfl rfl ?_
  refine mw_eq (res' := if i < 0 then none else some (i, S)) rfl (if_neg (Int32.not_lt.mpr hi.1)).symm ?_
  refine mw_if_lt (tgt := 9) dJ3_checkIndex_8e157_1 (by decide) mw_none ?_
  refine mw_iload_n 0 dJ3_checkIndex_8e157_4 rfl rfl ?_
  refine mw_iload_n 1 dJ3_checkIndex_8e157_5 rfl rfl ?_
  refine mw_eq (res' := if i < n then some (i, S) else none) rfl (if_pos hi.2).symm ?_
  refine mw_icmp_lt (tgt := 16) dJ3_checkIndex_8e157_6 (by decide) ?_ mw_none
  refine mw_iload_n 0 dJ3_checkIndex_8e157_16 rfl rfl ?_
  exact mw_ireturn dJ3_checkIndex_8e157_17
theorem t_s_chk (X : mX) (l : Launch) (i n : Int32) (S : mM) (hi : 0 ≤ i ∧ i < n) : mMet X viV yJ0_checkIndex_df160 cJ0_checkIndex_df160 2 none (rm_s 1 22) [.int i, .int n] l S (some ((), S)) := by
  refine mMet_of (by decide +kernel) rfl (Nat.le_of_ble_eq_true rfl) ?_
  refine mw_sub [0, 1] (lv' := [(0, .int i), (1, .int n)]) rfl ?_
  refine mw_iload_n 0 dJ0_checkIndex_df160_0 rfl rfl ?_
  refine mw_iload_n 1 dJ0_checkIndex_df160_1 rfl rfl ?_
  have tail : ∀ v : Value, (v = .null ∨ ∃ t, v = .ref t) → MW X viV (rm_s 1 22) cJ0_checkIndex_df160 RJ0 2 none l S [(0, .int i), (1, .int n)] [v, .int n, .int i] 5 (some ((), S)) := by
    intro v hv
    refine mw_eq (res' := mBind (some (i, S)) (fun _ S => some ((), S))) rfl rfl ?_
    refine mw_callS (t_s_pre X l i n v hv S hi) cd_J3_checkIndex_8e157 lk_RJ0_1059 sn_J3_checkIndex_8e157 in_RJ3 de_J3_checkIndex_8e157 ⟨rfl, rfl⟩ ⟨Nat.le_of_ble_eq_true rfl, Nat.le_of_ble_eq_true rfl⟩ rfl rfl ⟨Nat.zero_le _, Nat.zero_le _⟩ (Nat.le_of_ble_eq_true rfl) dJ0_checkIndex_df160_5 (fun r S => ?_)
    refine mw_eq (st' := [.int r]) rfl rfl ?_
    refine mw_pop dJ0_checkIndex_df160_8 rfl ?_
    exact mw_return dJ0_checkIndex_df160_9
  exact mw_sfmt dJ0_checkIndex_df160_2 (tail _ (Or.inl rfl)) (fun t => tail _ (Or.inr ⟨t, rfl⟩))
theorem s_ofNat_lt (w : Nat) (hw : w < 9) (i : Int32) (hi : 0 ≤ i ∧ i.toNatClampNeg < mSL.getD w 0) : 0 ≤ i ∧ i < Int32.ofNat (mSL.getD w 0) := by
  refine ⟨hi.1, ?_⟩
  have h1 : ∀ w, w < 9 → (Int32.ofNat (mSL.getD w 0)).toInt = (mSL.getD w 0 : Nat) := by decide
  have h2 := h1 w hw
  have h3 := hi.1
  rw [Int32.le_iff_toInt_le] at h3
  rw [Int32.lt_iff_toInt_lt, h2]
  have h4 : (i.toNatClampNeg : Int) = i.toInt := by
    have : i.toNatClampNeg = i.toInt.toNat := rfl
    rw [this]
    exact Int.toNat_of_nonneg h3
  have := hi.2
  omega
theorem s_byte (w : Nat) (hw : w < 9) (j : Nat) (hj : j < mSL.getD w 0) : (((((mSB.getD w []).getD j 0) &&& (255 : Int32)).toUInt32 % 65536).toInt32 = (mSB.getD w []).getD j 0) ∧ narrow .char (.int ((mSB.getD w []).getD j 0)) = .int ((mSB.getD w []).getD j 0) := by
  have h : ∀ w, w < 9 → ∀ j, j < 6 → j < mSL.getD w 0 → (((((mSB.getD w []).getD j 0) &&& (255 : Int32)).toUInt32 % 65536).toInt32 = (mSB.getD w []).getD j 0) ∧ narrow .char (.int ((mSB.getD w []).getD j 0)) = .int ((mSB.getD w []).getD j 0) := by decide
  have h6 : ∀ w, w < 9 → mSL.getD w 0 ≤ 6 := by decide
  exact h w hw j (Nat.lt_of_lt_of_le hj (h6 w hw)) hj
theorem t_s_l1 (X : mX) (l : Launch) (w : Nat) (i : Int32) (S : mM) (hw : w < 9) (hi : 0 ≤ i ∧ i.toNatClampNeg < mSL.getD w 0) : mMet X viI yJ1_charAt_3b067 cJ1_charAt_3b067 2 (some .char) (rm_s 2 43) [.ref (X.2.2.2.2.2 w), .int i] l S (some ((mSB.getD w []).getD i.toNatClampNeg 0, S)) := by
  refine mMet_of (by decide +kernel) rfl (Nat.le_of_ble_eq_true rfl) ?_
  refine mw_sub [0, 1] (lv' := [(0, .ref (X.2.2.2.2.2 w)), (1, .int i)]) rfl ?_
  refine mw_iload_n 1 dJ1_charAt_3b067_0 rfl rfl ?_
  refine mw_aload_n 0 dJ1_charAt_3b067_1 rfl rfl ?_
  refine mw_slen hw dJ1_charAt_3b067_2 ?_
  refine mw_eq (res' := mBind (some ((), S)) (fun _ S => some ((mSB.getD w []).getD i.toNatClampNeg 0, S))) rfl rfl ?_
  refine mw_callS (t_s_chk X l i (Int32.ofNat (mSL.getD w 0)) S (s_ofNat_lt w hw i hi)) cd_J0_checkIndex_df160 lk_RJ1_9 sn_J0_checkIndex_df160 in_RJ0 de_J0_checkIndex_df160 ⟨rfl, rfl⟩ ⟨Nat.le_of_ble_eq_true rfl, Nat.le_of_ble_eq_true rfl⟩ rfl rfl ⟨Nat.zero_le _, Nat.zero_le _⟩ (Nat.le_of_ble_eq_true rfl) dJ1_charAt_3b067_3 (fun r S => ?_)
  refine mw_eq (st' := []) rfl rfl ?_
  refine mw_aload_n 0 dJ1_charAt_3b067_6 rfl rfl ?_
  refine mw_iload_n 1 dJ1_charAt_3b067_7 rfl rfl ?_
  refine mw_sbld hw hi dJ1_charAt_3b067_8 ?_
  refine mw_sipush (v := 255) dJ1_charAt_3b067_9 (by decide) ?_
  refine mw_iand dJ1_charAt_3b067_12 ?_
  refine mw_i2c dJ1_charAt_3b067_13 ?_
  have hb := s_byte w hw i.toNatClampNeg hi.2
  rw [hb.1]
  exact mw_nret hb.2 dJ1_charAt_3b067_14
theorem t_s_charAt (X : mX) (l : Launch) (w : Nat) (i : Int32) (S : mM) (hw : w < 9) (hi : 0 ≤ i ∧ i.toNatClampNeg < mSL.getD w 0) : mMet X viI yJ0_charAt_5068e cJ0_charAt_5068e 2 (some .char) (rm_s 3 64) [.ref (X.2.2.2.2.1 w), .int i] l S (some ((mSB.getD w []).getD i.toNatClampNeg 0, S)) := by
  refine mMet_of (by decide +kernel) rfl (Nat.le_of_ble_eq_true rfl) ?_
  refine mw_sub [0, 1] (lv' := [(0, .ref (X.2.2.2.2.1 w)), (1, .int i)]) rfl ?_
  refine mw_aload_n 0 dJ0_charAt_5068e_0 rfl rfl ?_
  refine mw_eq (res' := mBind (some ((1 : Int32), S)) (fun b S => if b = 0 then none else if b = 1 then mBind (some ((mSB.getD w []).getD i.toNatClampNeg 0, S)) (fun v S => if v = (mSB.getD w []).getD i.toNatClampNeg 0 then some (v, S) else none) else none)) rfl (by simp [mBind]) ?_
  refine mw_callVs hw (t_s_isLatin1 X l w S hw) cd_J0_isLatin1_aae02 lk_RJ0_492 im_J0_isLatin1_aae02 se_J0_isLatin1_aae02 in_RJ0 de_J0_isLatin1_aae02 ⟨rfl, rfl⟩ ⟨Nat.le_of_ble_eq_true rfl, Nat.le_of_ble_eq_true rfl⟩ rfl rfl rfl (Nat.le_of_ble_eq_true rfl) dJ0_charAt_5068e_1 (fun b S => ?_)
  refine mw_eq (st' := [.int b]) rfl rfl ?_
  refine mw_if_eq (tgt := 16) dJ0_charAt_5068e_4 (by decide) mw_none ?_
  refine mw_chk (fun hb => ?_)
  refine mw_aload_n 0 dJ0_charAt_5068e_7 rfl rfl ?_
  refine mw_sval hw dJ0_charAt_5068e_8 ?_
  refine mw_iload_n 1 dJ0_charAt_5068e_11 rfl rfl ?_
  refine mw_callS (t_s_l1 X l w i S hw hi) cd_J1_charAt_3b067 lk_RJ0_495 sn_J1_charAt_3b067 in_RJ1 de_J1_charAt_3b067 ⟨rfl, rfl⟩ ⟨Nat.le_of_ble_eq_true rfl, Nat.le_of_ble_eq_true rfl⟩ rfl rfl ⟨Nat.zero_le _, Nat.zero_le _⟩ (Nat.le_of_ble_eq_true rfl) dJ0_charAt_5068e_12 (fun v S => ?_)
  refine mw_eq (st' := [.int v]) rfl rfl ?_
  refine mw_chk (fun hv => ?_)
  exact mw_nret (by rw [hv]; exact (s_byte w hw i.toNatClampNeg hi.2).2) dJ0_charAt_5068e_15
section STR2
variable {α : Type} {X : mX} {vi : α → Option Value} {cc : ByteArray} {nL : Nat} {ret : Option FieldType} {l : Launch} {S : mM} {lv : List (Nat × Value)} {rest : List Value} {pc : Nat} {A : Option (α × mM)}
theorem mw_strlen {w : Nat} {Kx : mM → Option (α × mM)} (hw : w < 9) (hr8 : (rest.map fun v => v.category).sum ≤ 8) (hd : decode cc pc = .ok (.invokevirtual 81, 3)) (kk : ∀ S, MW X vi rm_X9_spells cc RX9 nL ret l S lv (.int (Int32.ofNat (mSL.getD w 0)) :: rest) (pc + 3) (Kx S)) : MW X vi rm_X9_spells cc RX9 nL ret l S lv (.ref (X.2.2.2.2.1 w) :: rest) pc (bnd S Kx) := by
  have h := mw_callVs (vi := vi) (R := rm_X9_spells) (cc := cc) (own := RX9) (nL := nL) (ret := ret) (S := S) (lv := lv) (rest := rest) (pc := pc) (K := fun r S1 => if r = Int32.ofNat (mSL.getD w 0) then Kx S1 else none) hw (t_s_length X l w S hw) cd_J0_length_8abf5 lk_RX9_81 im_J0_length_8abf5 se_J0_length_8abf5 in_RJ0 de_J0_length_8abf5 ⟨rfl, rfl⟩ ⟨Nat.le_of_ble_eq_true rfl, Nat.le_of_ble_eq_true rfl⟩ rfl rfl rfl hr8 hd (fun r S1 => mw_chk (fun hq => by rw [hq]; exact kk S1))
  rw [mBind_of, if_pos rfl] at h
  exact h
theorem mw_charAt {w : Nat} {i : Int32} {Kx : mM → Option (α × mM)} (hw : w < 9) (hr8 : (rest.map fun v => v.category).sum ≤ 8) (hd : decode cc pc = .ok (.invokevirtual 86, 3)) (kk : ∀ S, MW X vi rm_X9_spells cc RX9 nL ret l S lv (.int ((mSB.getD w []).getD i.toNatClampNeg 0) :: rest) (pc + 3) (Kx S)) : MW X vi rm_X9_spells cc RX9 nL ret l S lv (.int i :: .ref (X.2.2.2.2.1 w) :: rest) pc (if 0 ≤ i ∧ i.toNatClampNeg < mSL.getD w 0 then bnd S Kx else none) := by
  refine mw_chk (fun hi => ?_)
  have h := mw_callVs (vi := vi) (R := rm_X9_spells) (cc := cc) (own := RX9) (nL := nL) (ret := ret) (S := S) (lv := lv) (rest := rest) (pc := pc) (K := fun r S1 => if r = (mSB.getD w []).getD i.toNatClampNeg 0 then Kx S1 else none) hw (t_s_charAt X l w i S hw hi) cd_J0_charAt_5068e lk_RX9_86 im_J0_charAt_5068e se_J0_charAt_5068e in_RJ0 de_J0_charAt_5068e ⟨rfl, rfl⟩ ⟨Nat.le_of_ble_eq_true rfl, Nat.le_of_ble_eq_true rfl⟩ rfl rfl rfl hr8 hd (fun r S1 => mw_chk (fun hq => by rw [hq]; exact kk S1))
  rw [mBind_of, if_pos rfl] at h
  exact h
end STR2
