theorem lk_RL_15 : Cond.methodLink RL 15 yX11_feed ∈ mW := mW_of (List.mem_append_right _ (List.mem_of_getElem? (i := 353) (by decide +kernel))) (by decide +kernel)
theorem lk_RL_19 : Cond.methodLink RL 19 yX12_feed ∈ mW := mW_of (List.mem_append_right _ (List.mem_of_getElem? (i := 1072) (by decide +kernel))) (by decide +kernel)
theorem lk_RL_20 : Cond.methodLink RL 20 yX11_end ∈ mW := mW_of (List.mem_append_right _ (List.mem_of_getElem? (i := 361) (by decide +kernel))) (by decide +kernel)
theorem lk_RL_24 : Cond.methodLink RL 24 yX12_end ∈ mW := mW_of (List.mem_append_right _ (List.mem_of_getElem? (i := 1077) (by decide +kernel))) (by decide +kernel)
theorem lk_RL_25 : Cond.methodLink RL 25 yX11_trigger ∈ mW := mW_of (List.mem_append_right _ (List.mem_of_getElem? (i := 372) (by decide +kernel))) (by decide +kernel)
theorem lk_RL_29 : Cond.methodLink RL 29 yX12_trigger ∈ mW := mW_of (List.mem_append_right _ (List.mem_of_getElem? (i := 1084) (by decide +kernel))) (by decide +kernel)
theorem lk_RL_30 : Cond.methodLink RL 30 yX11_fault ∈ mW := mW_of (List.mem_append_right _ (List.mem_of_getElem? (i := 509) (by decide +kernel))) (by decide +kernel)
theorem lk_RL_33 : Cond.methodLink RL 33 yX12_fault ∈ mW := mW_of (List.mem_append_right _ (List.mem_of_getElem? (i := 1131) (by decide +kernel))) (by decide +kernel)
theorem lk_RL_34 : Cond.methodLink RL 34 yX11_keep ∈ mW := mW_of (List.mem_append_right _ (List.mem_of_getElem? (i := 513) (by decide +kernel))) (by decide +kernel)
theorem lk_RL_38 : Cond.methodLink RL 38 yX12_keep ∈ mW := mW_of (List.mem_append_right _ (List.mem_of_getElem? (i := 1135) (by decide +kernel))) (by decide +kernel)
theorem lk_RL_39 : Cond.methodLink RL 39 yX11_arm ∈ mW := mW_of (List.mem_append_right _ (List.mem_of_getElem? (i := 518) (by decide +kernel))) (by decide +kernel)
theorem lk_RL_42 : Cond.methodLink RL 42 yX12_arm ∈ mW := mW_of (List.mem_append_right _ (List.mem_of_getElem? (i := 1140) (by decide +kernel))) (by decide +kernel)
theorem lk_RL_43 : Cond.methodLink RL 43 yX11_come ∈ mW := mW_of (List.mem_append_right _ (List.mem_of_getElem? (i := 538) (by decide +kernel))) (by decide +kernel)
theorem lk_RL_46 : Cond.methodLink RL 46 yX12_come ∈ mW := mW_of (List.mem_append_right _ (List.mem_of_getElem? (i := 1148) (by decide +kernel))) (by decide +kernel)
theorem lk_RL_47 : Cond.methodLink RL 47 yX11_play ∈ mW := mW_of (List.mem_append_right _ (List.mem_of_getElem? (i := 607) (by decide +kernel))) (by decide +kernel)
theorem lk_RL_51 : Cond.methodLink RL 51 yX12_play ∈ mW := mW_of (List.mem_append_right _ (List.mem_of_getElem? (i := 1180) (by decide +kernel))) (by decide +kernel)
theorem lk_RL_52 : Cond.methodLink RL 52 yX11_sample ∈ mW := mW_of (List.mem_append_right _ (List.mem_of_getElem? (i := 622) (by decide +kernel))) (by decide +kernel)
theorem lk_RL_55 : Cond.methodLink RL 55 yX12_sample ∈ mW := mW_of (List.mem_append_right _ (List.mem_of_getElem? (i := 1190) (by decide +kernel))) (by decide +kernel)
theorem lk_RL_56 : Cond.methodLink RL 56 yX11_told ∈ mW := mW_of (List.mem_append_right _ (List.mem_of_getElem? (i := 634) (by decide +kernel))) (by decide +kernel)
theorem lk_RL_59 : Cond.methodLink RL 59 yX12_told ∈ mW := mW_of (List.mem_append_right _ (List.mem_of_getElem? (i := 1194) (by decide +kernel))) (by decide +kernel)
theorem lk_RL_60 : Cond.methodLink RL 60 yX11_segment ∈ mW := mW_of (List.mem_append_right _ (List.mem_of_getElem? (i := 638) (by decide +kernel))) (by decide +kernel)
theorem lk_RL_63 : Cond.methodLink RL 63 yX12_segment ∈ mW := mW_of (List.mem_append_right _ (List.mem_of_getElem? (i := 1198) (by decide +kernel))) (by decide +kernel)
theorem lk_RL_64 : Cond.methodLink RL 64 yX11_at ∈ mW := mW_of (List.mem_append_right _ (List.mem_of_getElem? (i := 652) (by decide +kernel))) (by decide +kernel)
theorem lk_RL_68 : Cond.methodLink RL 68 yX12_at ∈ mW := mW_of (List.mem_append_right _ (List.mem_of_getElem? (i := 1207) (by decide +kernel))) (by decide +kernel)
theorem lk_RL_69 : Cond.methodLink RL 69 yX11_drop ∈ mW := mW_of (List.mem_append_right _ (List.mem_of_getElem? (i := 671) (by decide +kernel))) (by decide +kernel)
theorem lk_RL_72 : Cond.methodLink RL 72 yX12_drop ∈ mW := mW_of (List.mem_append_right _ (List.mem_of_getElem? (i := 1215) (by decide +kernel))) (by decide +kernel)
theorem lk_RL_73 : Cond.methodLink RL 73 yX11_sheet ∈ mW := mW_of (List.mem_append_right _ (List.mem_of_getElem? (i := 679) (by decide +kernel))) (by decide +kernel)
theorem lk_RL_76 : Cond.methodLink RL 76 yX12_sheet ∈ mW := mW_of (List.mem_append_right _ (List.mem_of_getElem? (i := 1219) (by decide +kernel))) (by decide +kernel)
theorem lk_RL_77 : Cond.methodLink RL 77 yX11_lay ∈ mW := mW_of (List.mem_append_right _ (List.mem_of_getElem? (i := 688) (by decide +kernel))) (by decide +kernel)
theorem lk_RL_80 : Cond.methodLink RL 80 yX12_lay ∈ mW := mW_of (List.mem_append_right _ (List.mem_of_getElem? (i := 1223) (by decide +kernel))) (by decide +kernel)
theorem lk_RL_81 : Cond.methodLink RL 81 yX11_mask ∈ mW := mW_of (List.mem_append_right _ (List.mem_of_getElem? (i := 706) (by decide +kernel))) (by decide +kernel)
theorem lk_RL_85 : Cond.methodLink RL 85 yX12_mask ∈ mW := mW_of (List.mem_append_right _ (List.mem_of_getElem? (i := 1227) (by decide +kernel))) (by decide +kernel)
theorem lk_RL_86 : Cond.methodLink RL 86 yX11_first ∈ mW := mW_of (List.mem_append_right _ (List.mem_of_getElem? (i := 719) (by decide +kernel))) (by decide +kernel)
theorem lk_RL_89 : Cond.methodLink RL 89 yX12_first ∈ mW := mW_of (List.mem_append_right _ (List.mem_of_getElem? (i := 1231) (by decide +kernel))) (by decide +kernel)
theorem lk_RL_90 : Cond.methodLink RL 90 yX11_row ∈ mW := mW_of (List.mem_append_right _ (List.mem_of_getElem? (i := 723) (by decide +kernel))) (by decide +kernel)
theorem lk_RL_93 : Cond.methodLink RL 93 yX12_row ∈ mW := mW_of (List.mem_append_right _ (List.mem_of_getElem? (i := 1235) (by decide +kernel))) (by decide +kernel)
theorem lk_RL_94 : Cond.methodLink RL 94 yX11_reckon ∈ mW := mW_of (List.mem_append_right _ (List.mem_of_getElem? (i := 736) (by decide +kernel))) (by decide +kernel)
theorem lk_RL_98 : Cond.methodLink RL 98 yX12_reckon ∈ mW := mW_of (List.mem_append_right _ (List.mem_of_getElem? (i := 1239) (by decide +kernel))) (by decide +kernel)
theorem lk_RL_99 : Cond.methodLink RL 99 yX11_place ∈ mW := mW_of (List.mem_append_right _ (List.mem_of_getElem? (i := 782) (by decide +kernel))) (by decide +kernel)
theorem lk_RL_103 : Cond.methodLink RL 103 yX12_place ∈ mW := mW_of (List.mem_append_right _ (List.mem_of_getElem? (i := 1250) (by decide +kernel))) (by decide +kernel)
theorem lk_RL_104 : Cond.methodLink RL 104 yX11_about ∈ mW := mW_of (List.mem_append_right _ (List.mem_of_getElem? (i := 786) (by decide +kernel))) (by decide +kernel)
theorem lk_RL_107 : Cond.methodLink RL 107 yX12_about ∈ mW := mW_of (List.mem_append_right _ (List.mem_of_getElem? (i := 1254) (by decide +kernel))) (by decide +kernel)
theorem lk_RL_108 : Cond.methodLink RL 108 yX11_total ∈ mW := mW_of (List.mem_append_right _ (List.mem_of_getElem? (i := 806) (by decide +kernel))) (by decide +kernel)
theorem lk_RL_112 : Cond.methodLink RL 112 yX12_total ∈ mW := mW_of (List.mem_append_right _ (List.mem_of_getElem? (i := 1259) (by decide +kernel))) (by decide +kernel)
theorem lk_RL_113 : Cond.methodLink RL 113 yX11_turns ∈ mW := mW_of (List.mem_append_right _ (List.mem_of_getElem? (i := 811) (by decide +kernel))) (by decide +kernel)
theorem lk_RL_117 : Cond.methodLink RL 117 yX12_turns ∈ mW := mW_of (List.mem_append_right _ (List.mem_of_getElem? (i := 1263) (by decide +kernel))) (by decide +kernel)
theorem lk_RL_118 : Cond.methodLink RL 118 yX11_eye ∈ mW := mW_of (List.mem_append_right _ (List.mem_of_getElem? (i := 823) (by decide +kernel))) (by decide +kernel)
theorem lk_RL_122 : Cond.methodLink RL 122 yX12_eye ∈ mW := mW_of (List.mem_append_right _ (List.mem_of_getElem? (i := 1267) (by decide +kernel))) (by decide +kernel)
theorem lk_RL_123 : Cond.methodLink RL 123 yX11_bytes ∈ mW := mW_of (List.mem_append_right _ (List.mem_of_getElem? (i := 834) (by decide +kernel))) (by decide +kernel)
theorem lk_RL_126 : Cond.methodLink RL 126 yX12_bytes ∈ mW := mW_of (List.mem_append_right _ (List.mem_of_getElem? (i := 1276) (by decide +kernel))) (by decide +kernel)
theorem lk_RL_127 : Cond.methodLink RL 127 yX11_wires ∈ mW := mW_of (List.mem_append_right _ (List.mem_of_getElem? (i := 861) (by decide +kernel))) (by decide +kernel)
theorem lk_RL_130 : Cond.methodLink RL 130 yX12_wires ∈ mW := mW_of (List.mem_append_right _ (List.mem_of_getElem? (i := 1289) (by decide +kernel))) (by decide +kernel)
theorem lk_RL_131 : Cond.methodLink RL 131 yX11_got ∈ mW := mW_of (List.mem_append_right _ (List.mem_of_getElem? (i := 877) (by decide +kernel))) (by decide +kernel)
theorem lk_RL_134 : Cond.methodLink RL 134 yX12_got ∈ mW := mW_of (List.mem_append_right _ (List.mem_of_getElem? (i := 1293) (by decide +kernel))) (by decide +kernel)
theorem lk_RL_135 : Cond.methodLink RL 135 yX11_when ∈ mW := mW_of (List.mem_append_right _ (List.mem_of_getElem? (i := 886) (by decide +kernel))) (by decide +kernel)
theorem lk_RL_138 : Cond.methodLink RL 138 yX12_when ∈ mW := mW_of (List.mem_append_right _ (List.mem_of_getElem? (i := 1297) (by decide +kernel))) (by decide +kernel)
theorem lk_RL_139 : Cond.methodLink RL 139 yX11_frame ∈ mW := mW_of (List.mem_append_right _ (List.mem_of_getElem? (i := 890) (by decide +kernel))) (by decide +kernel)
theorem lk_RL_142 : Cond.methodLink RL 142 yX12_frame ∈ mW := mW_of (List.mem_append_right _ (List.mem_of_getElem? (i := 1301) (by decide +kernel))) (by decide +kernel)
theorem cl_RL_13 : Cond.constantLong RL 13 4294967295 ∈ mW := mW_of (List.mem_append_right _ (List.mem_of_getElem? (i := 1306) (by decide +kernel))) (by decide +kernel)
/-! THE CLAIM OUT OF ONE WALK OF THE LAW'S BODY. Your part is whole_start (and what it stands on); all else here is the same for every law, but numbers. -/
def R_law : String := "TraceBenchLaw"
def lw_P (b : Addr) (xs : List Int32) (args : Array Value) (s : State) : Prop := args = #[.ref b] ∧ s.IntsAt b xs ∧ xs.length ≤ 4608 ∧ (Jvm.Cond.and given_1 narrow_1).before args s = true
def lw_Q (_ : Array Value) (s : State) (o : Outcome) (t : State) : Prop := o = .returned (some (.int 1)) ∧ Framed s o t [] 600000 7302250
def lw_Z (below : List Frame) (a : Array Value) (s : State) : State → Prop := fun t => ∃ o, t.status = .running ∧ Ended t below o ∧ lw_Q a s o t
/-- the law's own end, with 1 on the stack, nothing written that was there before, its room as the claim has it -/
theorem lw_ret {p : Program} {l : Launch} {e : Env} {s : State} {m : MethodId} {below : List Frame} {meth : Method} {c : Code} {b : Nat} (hx : p.tables.exec = Jvm.exec) (hb : c.code = code) (hr : meth.sig.returnType = ret) (hlocks : meth.locks = false) {pc : Nat} {H : Heap} {ls : Array Slot} (hdg : decode code pc = .ok (.ireturn, 1)) : W p l e room_1 s m #[Value.ref b] below meth c H [] 600000 7302250 (lw_Z below #[Value.ref b] s) (F0 m pc ls [.int 1]) := by
  intro T hT X
  obtain ⟨fs, hret, hrun, hended, hW, hframe⟩ := X.leave (v := some (.int 1)) (hlocks := hlocks) (fun h => by rw [hr] at h; cases h)
  have hmeth' : T.vm.method? m = some meth := X.method'
  refine ⟨T.setFrames fs, ?_, .returned (some (.int 1)), hrun, hended, rfl, ⟨_, rfl⟩, hW, hframe⟩
  jvm_step X.here [X.here.top, hx, hb, hdg, hmeth', hr, ret, narrow_b1]
  (try refine ⟨rfl, ?_⟩); (try refine ⟨rfl, ?_⟩)
  first | (intro acts; rw [hret _ acts rfl rfl rfl]) | rw [hret _ _ rfl rfl rfl]
  exact Steps.refl _
/-- what holds at the law's entry: the machine, the code, the tables' words (any of lw_tbl by 'hts w (by decide +kernel)'), the script of L ints xs at the cell b, what the Statement gives of the start (any of its parts by flat_of_before) -/
def lw_At (p : Program) (s : State) (m : MethodId) (meth : Method) (c : Code) (b L : Nat) (xs : Nat → Int32) : Prop :=
  p.tables.exec = Jvm.exec ∧ c.code = code ∧ meth.sig.returnType = ret ∧ c.maxLocals = 4 ∧ s.vm.findClass R_law = some m.cls ∧ (∀ w ∈ lw_tbl, w.before #[Value.ref b] s = true) ∧ va_X b L xs s s.heap ∧ b < s.heap.size ∧ meth.locks = false ∧ (Jvm.Cond.and given_1 narrow_1).before #[Value.ref b] s = true

def lqE (X : mX) (b L : Nat) (xs : Nat → Int32) : State → Prop := fun s => va_X b L xs s s.heap ∧ b < s.heap.size ∧ ¬ X.2.2.2.1 b ∧ ∀ q, X.2.2.2.1 q → s.heap.size ≤ q
def lqQ (b : Nat) : List Frame → Array Value → State → Int32 → mM → State → Prop := fun below args s _ _ t => args = #[Value.ref b] → lw_Z below #[Value.ref b] s t
section LQ
variable {X : mX} {b L : Nat} {xs : Nat → Int32} {kc ks : Nat} {l : Launch} {S : mM} {lv : List (Nat × Value)} {rest : List Value} {pc : Nat} {A : Option (Int32 × mM)}
theorem mg_sld {i : Int32} (hd : decode cL_law pc = .ok (.iaload, 1)) (kk : MG X (lqE X b L xs) (lqQ b) kc ks room_1 cL_law RL 4 ret l S lv (.int (xs i.toNatClampNeg) :: rest) (pc + 1) A) : MG X (lqE X b L xs) (lqQ b) kc ks room_1 cL_law RL 4 ret l S lv (.int i :: .ref b :: rest) pc (if 0 ≤ i ∧ i.toNatClampNeg < L then A else none) :=
  mw_chk (fun q r S' hr p e s m args below meth c H locs ls Cx hP hS h => va_sld Cx.1.1 Cx.1.2.1 Cx.2.1 Cx.2.2.1 Cx.2.2.2.1 hS (mIn_of q) hd (kk r S' hr p e s m args below meth c H locs ls Cx hP hS h))
theorem mg_slen (hd : decode cL_law pc = .ok (.arraylength, 1)) (kk : MG X (lqE X b L xs) (lqQ b) kc ks room_1 cL_law RL 4 ret l S lv (.int (Int32.ofNat L) :: rest) (pc + 1) A) : MG X (lqE X b L xs) (lqQ b) kc ks room_1 cL_law RL 4 ret l S lv (.ref b :: rest) pc A :=
  fun r S' hr p e s m args below meth c H locs ls Cx hP hS h => va_slen Cx.1.1 Cx.1.2.1 Cx.2.1 Cx.2.2.1 Cx.2.2.2.1 hS hd (kk r S' hr p e s m args below meth c H locs ls Cx hP hS h)
theorem mg_lret (hkc : kc ≤ 600000) (hks : ks ≤ 7302250) (hd : decode cL_law pc = .ok (.ireturn, 1)) : MG X (lqE X b L xs) (lqQ b) kc ks room_1 cL_law RL 4 ret l S lv [.int 1] pc (some (1, S)) := by
  intro r S' hr p e s m args below meth c H locs ls Cx hP hS h
  by_cases ha : args = #[Value.ref b]
  · subst ha
    refine va_forget (fun q hq => Cx.2.2.2.2 _ (hS.2.2 q hq)) ?_
    refine W.widen (k := 600000) (n := 7302250) hkc hks ?_
    intro T hT Y
    obtain ⟨t, a1, b1⟩ := lw_ret Cx.1.1 Cx.1.2.1 Cx.1.2.2.1 Cx.1.2.2.2.2.2.2.1 hd T hT Y
    exact ⟨t, a1, fun _ => b1⟩
  · intro T hT Y
    exact ⟨_, Steps.refl _, fun q => absurd q ha⟩
theorem mg_lret1 (hd : decode cL_law pc = .ok (.ireturn, 1)) : MG X (lqE X b L xs) (lqQ b) 98 42096 room_1 cL_law RL 4 ret l S lv [.int 1] pc (some (1, S)) := mg_lret (by decide) (by decide) hd
end LQ
def f_L_law_18 (xs : Nat → Int32) (L : Nat) (n : Nat) (y3 : Int32) (S : mM) : Option (Int32 × mM) := match n with
  | 0 => none
  | n + 1 =>
    if ((Int32.ofNat L) - (9 : Int32)) < y3 then
      some ((1 : Int32), S)
    else
      if 0 ≤ y3 ∧ y3.toNatClampNeg < L then
      (if ((xs y3.toNatClampNeg) &&& (31 : Int32)) = (0 : Int32) then
        if 0 ≤ (y3 + (1 : Int32)) ∧ (y3 + (1 : Int32)).toNatClampNeg < L then
        (if 0 ≤ (y3 + (2 : Int32)) ∧ (y3 + (2 : Int32)).toNatClampNeg < L then
        (mBind (f_X11_feed (((xs (y3 + (1 : Int32)).toNatClampNeg).toInt64 <<< ((32 : Int32).toInt64 &&& 63)) ||| ((xs (y3 + (2 : Int32)).toNatClampNeg).toInt64 &&& (4294967295 : Int64))) S) fun r2 S3 =>
        if 0 ≤ (y3 + (1 : Int32)) ∧ (y3 + (1 : Int32)).toNatClampNeg < L then
        (if 0 ≤ (y3 + (2 : Int32)) ∧ (y3 + (2 : Int32)).toNatClampNeg < L then
        (mBind (f_X12_feed (((xs (y3 + (1 : Int32)).toNatClampNeg).toInt64 <<< ((32 : Int32).toInt64 &&& 63)) ||| ((xs (y3 + (2 : Int32)).toNatClampNeg).toInt64 &&& (4294967295 : Int64))) S3) fun r4 S5 =>
        if r2 = r4 then
          bnd (y3 + (9 : Int32)) fun x6 =>
          f_L_law_18 xs L n x6 S5
        else
          none)
        else none)
        else none)
        else none)
        else none
      else
        if ((xs y3.toNatClampNeg) &&& (31 : Int32)) = (1 : Int32) then
          if 0 ≤ (y3 + (1 : Int32)) ∧ (y3 + (1 : Int32)).toNatClampNeg < L then
          (mBind (f_X11_end (xs (y3 + (1 : Int32)).toNatClampNeg) S) fun r8 S9 =>
          if 0 ≤ (y3 + (1 : Int32)) ∧ (y3 + (1 : Int32)).toNatClampNeg < L then
          (mBind (f_X12_end (xs (y3 + (1 : Int32)).toNatClampNeg) S9) fun r10 S11 =>
          if r8 = r10 then
            bnd (y3 + (9 : Int32)) fun x12 =>
            f_L_law_18 xs L n x12 S11
          else
            none)
          else none)
          else none
        else
          if ((xs y3.toNatClampNeg) &&& (31 : Int32)) = (2 : Int32) then
            mBind (f_X11_trigger S) fun r14 S15 =>
            mBind (f_X12_trigger S15) fun r16 S17 =>
            if r14 = r16 then
              bnd (y3 + (9 : Int32)) fun x18 =>
              f_L_law_18 xs L n x18 S17
            else
              none
          else
            if ((xs y3.toNatClampNeg) &&& (31 : Int32)) = (3 : Int32) then
              mBind (f_X11_fault S) fun r20 S21 =>
              mBind (f_X12_fault S21) fun r22 S23 =>
              if r20 = r22 then
                bnd (y3 + (9 : Int32)) fun x24 =>
                f_L_law_18 xs L n x24 S23
              else
                none
            else
              if ((xs y3.toNatClampNeg) &&& (31 : Int32)) = (4 : Int32) then
                if 0 ≤ (y3 + (1 : Int32)) ∧ (y3 + (1 : Int32)).toNatClampNeg < L then
                (if 0 ≤ (y3 + (2 : Int32)) ∧ (y3 + (2 : Int32)).toNatClampNeg < L then
                (mBind (f_X11_keep (xs (y3 + (1 : Int32)).toNatClampNeg) (xs (y3 + (2 : Int32)).toNatClampNeg) S) fun r26 S27 =>
                if 0 ≤ (y3 + (1 : Int32)) ∧ (y3 + (1 : Int32)).toNatClampNeg < L then
                (if 0 ≤ (y3 + (2 : Int32)) ∧ (y3 + (2 : Int32)).toNatClampNeg < L then
                (mBind (f_X12_keep (xs (y3 + (1 : Int32)).toNatClampNeg) (xs (y3 + (2 : Int32)).toNatClampNeg) S27) fun r28 S29 =>
                if r26 = r28 then
                  bnd (y3 + (9 : Int32)) fun x30 =>
                  f_L_law_18 xs L n x30 S29
                else
                  none)
                else none)
                else none)
                else none)
                else none
              else
                if ((xs y3.toNatClampNeg) &&& (31 : Int32)) = (5 : Int32) then
                  mBind (f_X11_arm S) fun r32 S33 =>
                  mBind (f_X12_arm S33) fun r34 S35 =>
                  if r32 = r34 then
                    bnd (y3 + (9 : Int32)) fun x36 =>
                    f_L_law_18 xs L n x36 S35
                  else
                    none
                else
                  if ((xs y3.toNatClampNeg) &&& (31 : Int32)) = (6 : Int32) then
                    if 0 ≤ (y3 + (1 : Int32)) ∧ (y3 + (1 : Int32)).toNatClampNeg < L then
                    (if 0 ≤ (y3 + (2 : Int32)) ∧ (y3 + (2 : Int32)).toNatClampNeg < L then
                    (mBind (f_X11_come (((xs (y3 + (1 : Int32)).toNatClampNeg).toInt64 <<< ((32 : Int32).toInt64 &&& 63)) ||| ((xs (y3 + (2 : Int32)).toNatClampNeg).toInt64 &&& (4294967295 : Int64))) S) fun r38 S39 =>
                    if 0 ≤ (y3 + (1 : Int32)) ∧ (y3 + (1 : Int32)).toNatClampNeg < L then
                    (if 0 ≤ (y3 + (2 : Int32)) ∧ (y3 + (2 : Int32)).toNatClampNeg < L then
                    (mBind (f_X12_come (((xs (y3 + (1 : Int32)).toNatClampNeg).toInt64 <<< ((32 : Int32).toInt64 &&& 63)) ||| ((xs (y3 + (2 : Int32)).toNatClampNeg).toInt64 &&& (4294967295 : Int64))) S39) fun r40 S41 =>
                    if r38 = r40 then
                      bnd (y3 + (9 : Int32)) fun x42 =>
                      f_L_law_18 xs L n x42 S41
                    else
                      none)
                    else none)
                    else none)
                    else none)
                    else none
                  else
                    if ((xs y3.toNatClampNeg) &&& (31 : Int32)) = (7 : Int32) then
                      if 0 ≤ (y3 + (1 : Int32)) ∧ (y3 + (1 : Int32)).toNatClampNeg < L then
                      (if 0 ≤ (y3 + (2 : Int32)) ∧ (y3 + (2 : Int32)).toNatClampNeg < L then
                      (if 0 ≤ (y3 + (3 : Int32)) ∧ (y3 + (3 : Int32)).toNatClampNeg < L then
                      (if 0 ≤ (y3 + (4 : Int32)) ∧ (y3 + (4 : Int32)).toNatClampNeg < L then
                      (mBind (f_X11_play (xs (y3 + (1 : Int32)).toNatClampNeg) (xs (y3 + (2 : Int32)).toNatClampNeg) (xs (y3 + (3 : Int32)).toNatClampNeg) (xs (y3 + (4 : Int32)).toNatClampNeg) S) fun r44 S45 =>
                      if 0 ≤ (y3 + (1 : Int32)) ∧ (y3 + (1 : Int32)).toNatClampNeg < L then
                      (if 0 ≤ (y3 + (2 : Int32)) ∧ (y3 + (2 : Int32)).toNatClampNeg < L then
                      (if 0 ≤ (y3 + (3 : Int32)) ∧ (y3 + (3 : Int32)).toNatClampNeg < L then
                      (if 0 ≤ (y3 + (4 : Int32)) ∧ (y3 + (4 : Int32)).toNatClampNeg < L then
                      (mBind (f_X12_play (xs (y3 + (1 : Int32)).toNatClampNeg) (xs (y3 + (2 : Int32)).toNatClampNeg) (xs (y3 + (3 : Int32)).toNatClampNeg) (xs (y3 + (4 : Int32)).toNatClampNeg) S45) fun r46 S47 =>
                      if r44 = r46 then
                        bnd (y3 + (9 : Int32)) fun x48 =>
                        f_L_law_18 xs L n x48 S47
                      else
                        none)
                      else none)
                      else none)
                      else none)
                      else none)
                      else none)
                      else none)
                      else none)
                      else none
                    else
                      if ((xs y3.toNatClampNeg) &&& (31 : Int32)) = (8 : Int32) then
                        if 0 ≤ (y3 + (1 : Int32)) ∧ (y3 + (1 : Int32)).toNatClampNeg < L then
                        (if 0 ≤ (y3 + (2 : Int32)) ∧ (y3 + (2 : Int32)).toNatClampNeg < L then
                        (mBind (f_X11_sample (xs (y3 + (1 : Int32)).toNatClampNeg) (xs (y3 + (2 : Int32)).toNatClampNeg) S) fun r50 S51 =>
                        if 0 ≤ (y3 + (1 : Int32)) ∧ (y3 + (1 : Int32)).toNatClampNeg < L then
                        (if 0 ≤ (y3 + (2 : Int32)) ∧ (y3 + (2 : Int32)).toNatClampNeg < L then
                        (mBind (f_X12_sample (xs (y3 + (1 : Int32)).toNatClampNeg) (xs (y3 + (2 : Int32)).toNatClampNeg) S51) fun r52 S53 =>
                        if r50 = r52 then
                          bnd (y3 + (9 : Int32)) fun x54 =>
                          f_L_law_18 xs L n x54 S53
                        else
                          none)
                        else none)
                        else none)
                        else none)
                        else none
                      else
                        if ((xs y3.toNatClampNeg) &&& (31 : Int32)) = (9 : Int32) then
                          if 0 ≤ (y3 + (1 : Int32)) ∧ (y3 + (1 : Int32)).toNatClampNeg < L then
                          (mBind (f_X11_told (xs (y3 + (1 : Int32)).toNatClampNeg) S) fun r56 S57 =>
                          if 0 ≤ (y3 + (1 : Int32)) ∧ (y3 + (1 : Int32)).toNatClampNeg < L then
                          (mBind (f_X12_told (xs (y3 + (1 : Int32)).toNatClampNeg) S57) fun r58 S59 =>
                          if r56 = r58 then
                            bnd (y3 + (9 : Int32)) fun x60 =>
                            f_L_law_18 xs L n x60 S59
                          else
                            none)
                          else none)
                          else none
                        else
                          if ((xs y3.toNatClampNeg) &&& (31 : Int32)) = (10 : Int32) then
                            if 0 ≤ (y3 + (1 : Int32)) ∧ (y3 + (1 : Int32)).toNatClampNeg < L then
                            (if 0 ≤ (y3 + (2 : Int32)) ∧ (y3 + (2 : Int32)).toNatClampNeg < L then
                            (mBind (f_X11_segment (xs (y3 + (1 : Int32)).toNatClampNeg) (xs (y3 + (2 : Int32)).toNatClampNeg) S) fun r62 S63 =>
                            if 0 ≤ (y3 + (1 : Int32)) ∧ (y3 + (1 : Int32)).toNatClampNeg < L then
                            (if 0 ≤ (y3 + (2 : Int32)) ∧ (y3 + (2 : Int32)).toNatClampNeg < L then
                            (mBind (f_X12_segment (xs (y3 + (1 : Int32)).toNatClampNeg) (xs (y3 + (2 : Int32)).toNatClampNeg) S63) fun r64 S65 =>
                            if r62 = r64 then
                              bnd (y3 + (9 : Int32)) fun x66 =>
                              f_L_law_18 xs L n x66 S65
                            else
                              none)
                            else none)
                            else none)
                            else none)
                            else none
                          else
                            if ((xs y3.toNatClampNeg) &&& (31 : Int32)) = (11 : Int32) then
                              if 0 ≤ (y3 + (1 : Int32)) ∧ (y3 + (1 : Int32)).toNatClampNeg < L then
                              (if 0 ≤ (y3 + (2 : Int32)) ∧ (y3 + (2 : Int32)).toNatClampNeg < L then
                              (if 0 ≤ (y3 + (3 : Int32)) ∧ (y3 + (3 : Int32)).toNatClampNeg < L then
                              (mBind (f_X11_at (xs (y3 + (1 : Int32)).toNatClampNeg) (xs (y3 + (2 : Int32)).toNatClampNeg) (xs (y3 + (3 : Int32)).toNatClampNeg) S) fun r68 S69 =>
                              if 0 ≤ (y3 + (1 : Int32)) ∧ (y3 + (1 : Int32)).toNatClampNeg < L then
                              (if 0 ≤ (y3 + (2 : Int32)) ∧ (y3 + (2 : Int32)).toNatClampNeg < L then
                              (if 0 ≤ (y3 + (3 : Int32)) ∧ (y3 + (3 : Int32)).toNatClampNeg < L then
                              (mBind (f_X12_at (xs (y3 + (1 : Int32)).toNatClampNeg) (xs (y3 + (2 : Int32)).toNatClampNeg) (xs (y3 + (3 : Int32)).toNatClampNeg) S69) fun r70 S71 =>
                              if r68 = r70 then
                                bnd (y3 + (9 : Int32)) fun x72 =>
                                f_L_law_18 xs L n x72 S71
                              else
                                none)
                              else none)
                              else none)
                              else none)
                              else none)
                              else none)
                              else none
                            else
                              if ((xs y3.toNatClampNeg) &&& (31 : Int32)) = (12 : Int32) then
                                mBind (f_X11_drop S) fun r74 S75 =>
                                mBind (f_X12_drop S75) fun r76 S77 =>
                                if r74 = r76 then
                                  bnd (y3 + (9 : Int32)) fun x78 =>
                                  f_L_law_18 xs L n x78 S77
                                else
                                  none
                              else
                                if ((xs y3.toNatClampNeg) &&& (31 : Int32)) = (13 : Int32) then
                                  if 0 ≤ (y3 + (1 : Int32)) ∧ (y3 + (1 : Int32)).toNatClampNeg < L then
                                  (if 0 ≤ (y3 + (2 : Int32)) ∧ (y3 + (2 : Int32)).toNatClampNeg < L then
                                  (if 0 ≤ (y3 + (3 : Int32)) ∧ (y3 + (3 : Int32)).toNatClampNeg < L then
                                  (mBind (f_X11_sheet (xs (y3 + (1 : Int32)).toNatClampNeg) (xs (y3 + (2 : Int32)).toNatClampNeg) (xs (y3 + (3 : Int32)).toNatClampNeg) S) fun r80 S81 =>
                                  if 0 ≤ (y3 + (1 : Int32)) ∧ (y3 + (1 : Int32)).toNatClampNeg < L then
                                  (if 0 ≤ (y3 + (2 : Int32)) ∧ (y3 + (2 : Int32)).toNatClampNeg < L then
                                  (if 0 ≤ (y3 + (3 : Int32)) ∧ (y3 + (3 : Int32)).toNatClampNeg < L then
                                  (mBind (f_X12_sheet (xs (y3 + (1 : Int32)).toNatClampNeg) (xs (y3 + (2 : Int32)).toNatClampNeg) (xs (y3 + (3 : Int32)).toNatClampNeg) S81) fun r82 S83 =>
                                  if r80 = r82 then
                                    bnd (y3 + (9 : Int32)) fun x84 =>
                                    f_L_law_18 xs L n x84 S83
                                  else
                                    none)
                                  else none)
                                  else none)
                                  else none)
                                  else none)
                                  else none)
                                  else none
                                else
                                  if ((xs y3.toNatClampNeg) &&& (31 : Int32)) = (14 : Int32) then
                                    if 0 ≤ (y3 + (1 : Int32)) ∧ (y3 + (1 : Int32)).toNatClampNeg < L then
                                    (if 0 ≤ (y3 + (2 : Int32)) ∧ (y3 + (2 : Int32)).toNatClampNeg < L then
                                    (if 0 ≤ (y3 + (3 : Int32)) ∧ (y3 + (3 : Int32)).toNatClampNeg < L then
                                    (mBind (f_X11_lay (xs (y3 + (1 : Int32)).toNatClampNeg) (xs (y3 + (2 : Int32)).toNatClampNeg) (xs (y3 + (3 : Int32)).toNatClampNeg) S) fun r86 S87 =>
                                    if 0 ≤ (y3 + (1 : Int32)) ∧ (y3 + (1 : Int32)).toNatClampNeg < L then
                                    (if 0 ≤ (y3 + (2 : Int32)) ∧ (y3 + (2 : Int32)).toNatClampNeg < L then
                                    (if 0 ≤ (y3 + (3 : Int32)) ∧ (y3 + (3 : Int32)).toNatClampNeg < L then
                                    (mBind (f_X12_lay (xs (y3 + (1 : Int32)).toNatClampNeg) (xs (y3 + (2 : Int32)).toNatClampNeg) (xs (y3 + (3 : Int32)).toNatClampNeg) S87) fun r88 S89 =>
                                    if r86 = r88 then
                                      bnd (y3 + (9 : Int32)) fun x90 =>
                                      f_L_law_18 xs L n x90 S89
                                    else
                                      none)
                                    else none)
                                    else none)
                                    else none)
                                    else none)
                                    else none)
                                    else none
                                  else
                                    if ((xs y3.toNatClampNeg) &&& (31 : Int32)) = (15 : Int32) then
                                      if 0 ≤ (y3 + (1 : Int32)) ∧ (y3 + (1 : Int32)).toNatClampNeg < L then
                                      (if 0 ≤ (y3 + (2 : Int32)) ∧ (y3 + (2 : Int32)).toNatClampNeg < L then
                                      (if 0 ≤ (y3 + (3 : Int32)) ∧ (y3 + (3 : Int32)).toNatClampNeg < L then
                                      (if 0 ≤ (y3 + (4 : Int32)) ∧ (y3 + (4 : Int32)).toNatClampNeg < L then
                                      (if 0 ≤ (y3 + (5 : Int32)) ∧ (y3 + (5 : Int32)).toNatClampNeg < L then
                                      (if 0 ≤ (y3 + (6 : Int32)) ∧ (y3 + (6 : Int32)).toNatClampNeg < L then
                                      (mBind (f_X11_mask (xs (y3 + (1 : Int32)).toNatClampNeg) (xs (y3 + (2 : Int32)).toNatClampNeg) (xs (y3 + (3 : Int32)).toNatClampNeg) (xs (y3 + (4 : Int32)).toNatClampNeg) (xs (y3 + (5 : Int32)).toNatClampNeg) (xs (y3 + (6 : Int32)).toNatClampNeg) S) fun r92 S93 =>
                                      if 0 ≤ (y3 + (1 : Int32)) ∧ (y3 + (1 : Int32)).toNatClampNeg < L then
                                      (if 0 ≤ (y3 + (2 : Int32)) ∧ (y3 + (2 : Int32)).toNatClampNeg < L then
                                      (if 0 ≤ (y3 + (3 : Int32)) ∧ (y3 + (3 : Int32)).toNatClampNeg < L then
                                      (if 0 ≤ (y3 + (4 : Int32)) ∧ (y3 + (4 : Int32)).toNatClampNeg < L then
                                      (if 0 ≤ (y3 + (5 : Int32)) ∧ (y3 + (5 : Int32)).toNatClampNeg < L then
                                      (if 0 ≤ (y3 + (6 : Int32)) ∧ (y3 + (6 : Int32)).toNatClampNeg < L then
                                      (mBind (f_X12_mask (xs (y3 + (1 : Int32)).toNatClampNeg) (xs (y3 + (2 : Int32)).toNatClampNeg) (xs (y3 + (3 : Int32)).toNatClampNeg) (xs (y3 + (4 : Int32)).toNatClampNeg) (xs (y3 + (5 : Int32)).toNatClampNeg) (xs (y3 + (6 : Int32)).toNatClampNeg) S93) fun r94 S95 =>
                                      if r92 = r94 then
                                        bnd (y3 + (9 : Int32)) fun x96 =>
                                        f_L_law_18 xs L n x96 S95
                                      else
                                        none)
                                      else none)
                                      else none)
                                      else none)
                                      else none)
                                      else none)
                                      else none)
                                      else none)
                                      else none)
                                      else none)
                                      else none)
                                      else none)
                                      else none
                                    else
                                      if ((xs y3.toNatClampNeg) &&& (31 : Int32)) = (16 : Int32) then
                                        mBind (f_X11_first S) fun r98 S99 =>
                                        mBind (f_X12_first S99) fun r100 S101 =>
                                        if r98 = r100 then
                                          bnd (y3 + (9 : Int32)) fun x102 =>
                                          f_L_law_18 xs L n x102 S101
                                        else
                                          none
                                      else
                                        if ((xs y3.toNatClampNeg) &&& (31 : Int32)) = (17 : Int32) then
                                          if 0 ≤ (y3 + (1 : Int32)) ∧ (y3 + (1 : Int32)).toNatClampNeg < L then
                                          (if 0 ≤ (y3 + (2 : Int32)) ∧ (y3 + (2 : Int32)).toNatClampNeg < L then
                                          (if 0 ≤ (y3 + (3 : Int32)) ∧ (y3 + (3 : Int32)).toNatClampNeg < L then
                                          (mBind (f_X11_row (xs (y3 + (1 : Int32)).toNatClampNeg) (xs (y3 + (2 : Int32)).toNatClampNeg) (xs (y3 + (3 : Int32)).toNatClampNeg) S) fun r104 S105 =>
                                          if 0 ≤ (y3 + (1 : Int32)) ∧ (y3 + (1 : Int32)).toNatClampNeg < L then
                                          (if 0 ≤ (y3 + (2 : Int32)) ∧ (y3 + (2 : Int32)).toNatClampNeg < L then
                                          (if 0 ≤ (y3 + (3 : Int32)) ∧ (y3 + (3 : Int32)).toNatClampNeg < L then
                                          (mBind (f_X12_row (xs (y3 + (1 : Int32)).toNatClampNeg) (xs (y3 + (2 : Int32)).toNatClampNeg) (xs (y3 + (3 : Int32)).toNatClampNeg) S105) fun r106 S107 =>
                                          if r104 = r106 then
                                            bnd (y3 + (9 : Int32)) fun x108 =>
                                            f_L_law_18 xs L n x108 S107
                                          else
                                            none)
                                          else none)
                                          else none)
                                          else none)
                                          else none)
                                          else none)
                                          else none
                                        else
                                          if ((xs y3.toNatClampNeg) &&& (31 : Int32)) = (18 : Int32) then
                                            if 0 ≤ (y3 + (1 : Int32)) ∧ (y3 + (1 : Int32)).toNatClampNeg < L then
                                            (if 0 ≤ (y3 + (2 : Int32)) ∧ (y3 + (2 : Int32)).toNatClampNeg < L then
                                            (if 0 ≤ (y3 + (3 : Int32)) ∧ (y3 + (3 : Int32)).toNatClampNeg < L then
                                            (if 0 ≤ (y3 + (4 : Int32)) ∧ (y3 + (4 : Int32)).toNatClampNeg < L then
                                            (if 0 ≤ (y3 + (5 : Int32)) ∧ (y3 + (5 : Int32)).toNatClampNeg < L then
                                            (mBind (f_X11_reckon (xs (y3 + (1 : Int32)).toNatClampNeg) (xs (y3 + (2 : Int32)).toNatClampNeg) (xs (y3 + (3 : Int32)).toNatClampNeg) (xs (y3 + (4 : Int32)).toNatClampNeg) (xs (y3 + (5 : Int32)).toNatClampNeg) S) fun r110 S111 =>
                                            if 0 ≤ (y3 + (1 : Int32)) ∧ (y3 + (1 : Int32)).toNatClampNeg < L then
                                            (if 0 ≤ (y3 + (2 : Int32)) ∧ (y3 + (2 : Int32)).toNatClampNeg < L then
                                            (if 0 ≤ (y3 + (3 : Int32)) ∧ (y3 + (3 : Int32)).toNatClampNeg < L then
                                            (if 0 ≤ (y3 + (4 : Int32)) ∧ (y3 + (4 : Int32)).toNatClampNeg < L then
                                            (if 0 ≤ (y3 + (5 : Int32)) ∧ (y3 + (5 : Int32)).toNatClampNeg < L then
                                            (mBind (f_X12_reckon (xs (y3 + (1 : Int32)).toNatClampNeg) (xs (y3 + (2 : Int32)).toNatClampNeg) (xs (y3 + (3 : Int32)).toNatClampNeg) (xs (y3 + (4 : Int32)).toNatClampNeg) (xs (y3 + (5 : Int32)).toNatClampNeg) S111) fun r112 S113 =>
                                            if r110 = r112 then
                                              bnd (y3 + (9 : Int32)) fun x114 =>
                                              f_L_law_18 xs L n x114 S113
                                            else
                                              none)
                                            else none)
                                            else none)
                                            else none)
                                            else none)
                                            else none)
                                            else none)
                                            else none)
                                            else none)
                                            else none)
                                            else none
                                          else
                                            if ((xs y3.toNatClampNeg) &&& (31 : Int32)) = (19 : Int32) then
                                              if 0 ≤ (y3 + (1 : Int32)) ∧ (y3 + (1 : Int32)).toNatClampNeg < L then
                                              (if 0 ≤ (y3 + (2 : Int32)) ∧ (y3 + (2 : Int32)).toNatClampNeg < L then
                                              (mBind (f_X11_place (xs (y3 + (1 : Int32)).toNatClampNeg) (xs (y3 + (2 : Int32)).toNatClampNeg) S) fun r116 S117 =>
                                              if 0 ≤ (y3 + (1 : Int32)) ∧ (y3 + (1 : Int32)).toNatClampNeg < L then
                                              (if 0 ≤ (y3 + (2 : Int32)) ∧ (y3 + (2 : Int32)).toNatClampNeg < L then
                                              (mBind (f_X12_place (xs (y3 + (1 : Int32)).toNatClampNeg) (xs (y3 + (2 : Int32)).toNatClampNeg) S117) fun r118 S119 =>
                                              if (lg_cmp r116 r118) = 0 then
                                                bnd (y3 + (9 : Int32)) fun x120 =>
                                                f_L_law_18 xs L n x120 S119
                                              else
                                                none)
                                              else none)
                                              else none)
                                              else none)
                                              else none
                                            else
                                              if ((xs y3.toNatClampNeg) &&& (31 : Int32)) = (20 : Int32) then
                                                if 0 ≤ (y3 + (1 : Int32)) ∧ (y3 + (1 : Int32)).toNatClampNeg < L then
                                                (if 0 ≤ (y3 + (2 : Int32)) ∧ (y3 + (2 : Int32)).toNatClampNeg < L then
                                                (mBind (f_X11_about (xs (y3 + (1 : Int32)).toNatClampNeg) (xs (y3 + (2 : Int32)).toNatClampNeg) S) fun r122 S123 =>
                                                if 0 ≤ (y3 + (1 : Int32)) ∧ (y3 + (1 : Int32)).toNatClampNeg < L then
                                                (if 0 ≤ (y3 + (2 : Int32)) ∧ (y3 + (2 : Int32)).toNatClampNeg < L then
                                                (mBind (f_X12_about (xs (y3 + (1 : Int32)).toNatClampNeg) (xs (y3 + (2 : Int32)).toNatClampNeg) S123) fun r124 S125 =>
                                                if r122 = r124 then
                                                  bnd (y3 + (9 : Int32)) fun x126 =>
                                                  f_L_law_18 xs L n x126 S125
                                                else
                                                  none)
                                                else none)
                                                else none)
                                                else none)
                                                else none
                                              else
                                                if ((xs y3.toNatClampNeg) &&& (31 : Int32)) = (21 : Int32) then
                                                  if 0 ≤ (y3 + (1 : Int32)) ∧ (y3 + (1 : Int32)).toNatClampNeg < L then
                                                  (mBind (f_X11_total (xs (y3 + (1 : Int32)).toNatClampNeg) S) fun r128 S129 =>
                                                  if 0 ≤ (y3 + (1 : Int32)) ∧ (y3 + (1 : Int32)).toNatClampNeg < L then
                                                  (mBind (f_X12_total (xs (y3 + (1 : Int32)).toNatClampNeg) S129) fun r130 S131 =>
                                                  if (lg_cmp r128 r130) = 0 then
                                                    bnd (y3 + (9 : Int32)) fun x132 =>
                                                    f_L_law_18 xs L n x132 S131
                                                  else
                                                    none)
                                                  else none)
                                                  else none
                                                else
                                                  if ((xs y3.toNatClampNeg) &&& (31 : Int32)) = (22 : Int32) then
                                                    if 0 ≤ (y3 + (1 : Int32)) ∧ (y3 + (1 : Int32)).toNatClampNeg < L then
                                                    (if 0 ≤ (y3 + (2 : Int32)) ∧ (y3 + (2 : Int32)).toNatClampNeg < L then
                                                    (if 0 ≤ (y3 + (3 : Int32)) ∧ (y3 + (3 : Int32)).toNatClampNeg < L then
                                                    (if 0 ≤ (y3 + (4 : Int32)) ∧ (y3 + (4 : Int32)).toNatClampNeg < L then
                                                    (mBind (f_X11_turns (xs (y3 + (1 : Int32)).toNatClampNeg) (((xs (y3 + (2 : Int32)).toNatClampNeg).toInt64 <<< ((32 : Int32).toInt64 &&& 63)) ||| ((xs (y3 + (3 : Int32)).toNatClampNeg).toInt64 &&& (4294967295 : Int64))) (xs (y3 + (4 : Int32)).toNatClampNeg) S) fun r134 S135 =>
                                                    if 0 ≤ (y3 + (1 : Int32)) ∧ (y3 + (1 : Int32)).toNatClampNeg < L then
                                                    (if 0 ≤ (y3 + (2 : Int32)) ∧ (y3 + (2 : Int32)).toNatClampNeg < L then
                                                    (if 0 ≤ (y3 + (3 : Int32)) ∧ (y3 + (3 : Int32)).toNatClampNeg < L then
                                                    (if 0 ≤ (y3 + (4 : Int32)) ∧ (y3 + (4 : Int32)).toNatClampNeg < L then
                                                    (mBind (f_X12_turns (xs (y3 + (1 : Int32)).toNatClampNeg) (((xs (y3 + (2 : Int32)).toNatClampNeg).toInt64 <<< ((32 : Int32).toInt64 &&& 63)) ||| ((xs (y3 + (3 : Int32)).toNatClampNeg).toInt64 &&& (4294967295 : Int64))) (xs (y3 + (4 : Int32)).toNatClampNeg) S135) fun r136 S137 =>
                                                    if r134 = r136 then
                                                      bnd (y3 + (9 : Int32)) fun x138 =>
                                                      f_L_law_18 xs L n x138 S137
                                                    else
                                                      none)
                                                    else none)
                                                    else none)
                                                    else none)
                                                    else none)
                                                    else none)
                                                    else none)
                                                    else none)
                                                    else none
                                                  else
                                                    if ((xs y3.toNatClampNeg) &&& (31 : Int32)) = (23 : Int32) then
                                                      if 0 ≤ (y3 + (1 : Int32)) ∧ (y3 + (1 : Int32)).toNatClampNeg < L then
                                                      (if 0 ≤ (y3 + (2 : Int32)) ∧ (y3 + (2 : Int32)).toNatClampNeg < L then
                                                      (if 0 ≤ (y3 + (3 : Int32)) ∧ (y3 + (3 : Int32)).toNatClampNeg < L then
                                                      (if 0 ≤ (y3 + (4 : Int32)) ∧ (y3 + (4 : Int32)).toNatClampNeg < L then
                                                      (if 0 ≤ (y3 + (5 : Int32)) ∧ (y3 + (5 : Int32)).toNatClampNeg < L then
                                                      (if 0 ≤ (y3 + (6 : Int32)) ∧ (y3 + (6 : Int32)).toNatClampNeg < L then
                                                      (if 0 ≤ (y3 + (7 : Int32)) ∧ (y3 + (7 : Int32)).toNatClampNeg < L then
                                                      (if 0 ≤ (y3 + (8 : Int32)) ∧ (y3 + (8 : Int32)).toNatClampNeg < L then
                                                      (mBind (f_X11_eye (xs (y3 + (1 : Int32)).toNatClampNeg) (xs (y3 + (2 : Int32)).toNatClampNeg) (xs (y3 + (3 : Int32)).toNatClampNeg) (xs (y3 + (4 : Int32)).toNatClampNeg) (((xs (y3 + (5 : Int32)).toNatClampNeg).toInt64 <<< ((32 : Int32).toInt64 &&& 63)) ||| ((xs (y3 + (6 : Int32)).toNatClampNeg).toInt64 &&& (4294967295 : Int64))) (xs (y3 + (7 : Int32)).toNatClampNeg) (xs (y3 + (8 : Int32)).toNatClampNeg) S) fun r140 S141 =>
                                                      if 0 ≤ (y3 + (1 : Int32)) ∧ (y3 + (1 : Int32)).toNatClampNeg < L then
                                                      (if 0 ≤ (y3 + (2 : Int32)) ∧ (y3 + (2 : Int32)).toNatClampNeg < L then
                                                      (if 0 ≤ (y3 + (3 : Int32)) ∧ (y3 + (3 : Int32)).toNatClampNeg < L then
                                                      (if 0 ≤ (y3 + (4 : Int32)) ∧ (y3 + (4 : Int32)).toNatClampNeg < L then
                                                      (if 0 ≤ (y3 + (5 : Int32)) ∧ (y3 + (5 : Int32)).toNatClampNeg < L then
                                                      (if 0 ≤ (y3 + (6 : Int32)) ∧ (y3 + (6 : Int32)).toNatClampNeg < L then
                                                      (if 0 ≤ (y3 + (7 : Int32)) ∧ (y3 + (7 : Int32)).toNatClampNeg < L then
                                                      (if 0 ≤ (y3 + (8 : Int32)) ∧ (y3 + (8 : Int32)).toNatClampNeg < L then
                                                      (mBind (f_X12_eye (xs (y3 + (1 : Int32)).toNatClampNeg) (xs (y3 + (2 : Int32)).toNatClampNeg) (xs (y3 + (3 : Int32)).toNatClampNeg) (xs (y3 + (4 : Int32)).toNatClampNeg) (((xs (y3 + (5 : Int32)).toNatClampNeg).toInt64 <<< ((32 : Int32).toInt64 &&& 63)) ||| ((xs (y3 + (6 : Int32)).toNatClampNeg).toInt64 &&& (4294967295 : Int64))) (xs (y3 + (7 : Int32)).toNatClampNeg) (xs (y3 + (8 : Int32)).toNatClampNeg) S141) fun r142 S143 =>
                                                      if r140 = r142 then
                                                        bnd (y3 + (9 : Int32)) fun x144 =>
                                                        f_L_law_18 xs L n x144 S143
                                                      else
                                                        none)
                                                      else none)
                                                      else none)
                                                      else none)
                                                      else none)
                                                      else none)
                                                      else none)
                                                      else none)
                                                      else none)
                                                      else none)
                                                      else none)
                                                      else none)
                                                      else none)
                                                      else none)
                                                      else none)
                                                      else none)
                                                      else none
                                                    else
                                                      if ((xs y3.toNatClampNeg) &&& (31 : Int32)) = (24 : Int32) then
                                                        if 0 ≤ (y3 + (1 : Int32)) ∧ (y3 + (1 : Int32)).toNatClampNeg < L then
                                                        (if 0 ≤ (y3 + (2 : Int32)) ∧ (y3 + (2 : Int32)).toNatClampNeg < L then
                                                        (if 0 ≤ (y3 + (3 : Int32)) ∧ (y3 + (3 : Int32)).toNatClampNeg < L then
                                                        (mBind (f_X11_bytes (xs (y3 + (1 : Int32)).toNatClampNeg) (xs (y3 + (2 : Int32)).toNatClampNeg) (xs (y3 + (3 : Int32)).toNatClampNeg) S) fun r146 S147 =>
                                                        if 0 ≤ (y3 + (1 : Int32)) ∧ (y3 + (1 : Int32)).toNatClampNeg < L then
                                                        (if 0 ≤ (y3 + (2 : Int32)) ∧ (y3 + (2 : Int32)).toNatClampNeg < L then
                                                        (if 0 ≤ (y3 + (3 : Int32)) ∧ (y3 + (3 : Int32)).toNatClampNeg < L then
                                                        (mBind (f_X12_bytes (xs (y3 + (1 : Int32)).toNatClampNeg) (xs (y3 + (2 : Int32)).toNatClampNeg) (xs (y3 + (3 : Int32)).toNatClampNeg) S147) fun r148 S149 =>
                                                        if r146 = r148 then
                                                          bnd (y3 + (9 : Int32)) fun x150 =>
                                                          f_L_law_18 xs L n x150 S149
                                                        else
                                                          none)
                                                        else none)
                                                        else none)
                                                        else none)
                                                        else none)
                                                        else none)
                                                        else none
                                                      else
                                                        if ((xs y3.toNatClampNeg) &&& (31 : Int32)) = (25 : Int32) then
                                                          if 0 ≤ (y3 + (1 : Int32)) ∧ (y3 + (1 : Int32)).toNatClampNeg < L then
                                                          (if 0 ≤ (y3 + (2 : Int32)) ∧ (y3 + (2 : Int32)).toNatClampNeg < L then
                                                          (if 0 ≤ (y3 + (3 : Int32)) ∧ (y3 + (3 : Int32)).toNatClampNeg < L then
                                                          (mBind (f_X11_wires (xs (y3 + (1 : Int32)).toNatClampNeg) (xs (y3 + (2 : Int32)).toNatClampNeg) (xs (y3 + (3 : Int32)).toNatClampNeg) S) fun r152 S153 =>
                                                          if 0 ≤ (y3 + (1 : Int32)) ∧ (y3 + (1 : Int32)).toNatClampNeg < L then
                                                          (if 0 ≤ (y3 + (2 : Int32)) ∧ (y3 + (2 : Int32)).toNatClampNeg < L then
                                                          (if 0 ≤ (y3 + (3 : Int32)) ∧ (y3 + (3 : Int32)).toNatClampNeg < L then
                                                          (mBind (f_X12_wires (xs (y3 + (1 : Int32)).toNatClampNeg) (xs (y3 + (2 : Int32)).toNatClampNeg) (xs (y3 + (3 : Int32)).toNatClampNeg) S153) fun r154 S155 =>
                                                          if r152 = r154 then
                                                            bnd (y3 + (9 : Int32)) fun x156 =>
                                                            f_L_law_18 xs L n x156 S155
                                                          else
                                                            none)
                                                          else none)
                                                          else none)
                                                          else none)
                                                          else none)
                                                          else none)
                                                          else none
                                                        else
                                                          if ((xs y3.toNatClampNeg) &&& (31 : Int32)) = (26 : Int32) then
                                                            if 0 ≤ (y3 + (1 : Int32)) ∧ (y3 + (1 : Int32)).toNatClampNeg < L then
                                                            (mBind (f_X11_got (xs (y3 + (1 : Int32)).toNatClampNeg) S) fun r158 S159 =>
                                                            if 0 ≤ (y3 + (1 : Int32)) ∧ (y3 + (1 : Int32)).toNatClampNeg < L then
                                                            (mBind (f_X12_got (xs (y3 + (1 : Int32)).toNatClampNeg) S159) fun r160 S161 =>
                                                            if r158 = r160 then
                                                              bnd (y3 + (9 : Int32)) fun x162 =>
                                                              f_L_law_18 xs L n x162 S161
                                                            else
                                                              none)
                                                            else none)
                                                            else none
                                                          else
                                                            if ((xs y3.toNatClampNeg) &&& (31 : Int32)) = (27 : Int32) then
                                                              if 0 ≤ (y3 + (1 : Int32)) ∧ (y3 + (1 : Int32)).toNatClampNeg < L then
                                                              (mBind (f_X11_when (xs (y3 + (1 : Int32)).toNatClampNeg) S) fun r164 S165 =>
                                                              if 0 ≤ (y3 + (1 : Int32)) ∧ (y3 + (1 : Int32)).toNatClampNeg < L then
                                                              (mBind (f_X12_when (xs (y3 + (1 : Int32)).toNatClampNeg) S165) fun r166 S167 =>
                                                              if r164 = r166 then
                                                                bnd (y3 + (9 : Int32)) fun x168 =>
                                                                f_L_law_18 xs L n x168 S167
                                                              else
                                                                none)
                                                              else none)
                                                              else none
                                                            else
                                                              if ((xs y3.toNatClampNeg) &&& (31 : Int32)) = (28 : Int32) then
                                                                if 0 ≤ (y3 + (1 : Int32)) ∧ (y3 + (1 : Int32)).toNatClampNeg < L then
                                                                (mBind (f_X11_frame (xs (y3 + (1 : Int32)).toNatClampNeg) S) fun r170 S171 =>
                                                                if 0 ≤ (y3 + (1 : Int32)) ∧ (y3 + (1 : Int32)).toNatClampNeg < L then
                                                                (mBind (f_X12_frame (xs (y3 + (1 : Int32)).toNatClampNeg) S171) fun r172 S173 =>
                                                                if r170 = r172 then
                                                                  bnd (y3 + (9 : Int32)) fun x174 =>
                                                                  f_L_law_18 xs L n x174 S173
                                                                else
                                                                  none)
                                                                else none)
                                                                else none
                                                              else
                                                                bnd (y3 + (9 : Int32)) fun x175 =>
                                                                f_L_law_18 xs L n x175 S)
      else none
set_option maxRecDepth 100000 in
set_option maxHeartbeats 40000000 in
theorem w_L_law_18 (X : mX) (l : Launch) (b L : Nat) (xs : Nat → Int32) (n : Nat) (y3 : Int32) (S : mM) : MG X (lqE X b L xs) (lqQ b) 98 42096 room_1 cL_law RL 4 ret l S [(0, .ref b), (1, .ref (X.2.1 0)), (2, .ref (X.2.1 69)), (3, .int y3)] [] 18 (f_L_law_18 xs L n y3 S) := by
  induction n generalizing y3 S with
  | zero => exact mw_none
  | succ n ih =>
    unfold f_L_law_18
    refine mw_iload_n 3 dL_law_18 rfl rfl ?_
    refine mw_aload_n 0 dL_law_19 rfl rfl ?_
    refine mg_slen dL_law_20 ?_
    refine mw_bipush (v := (9 : Int32)) dL_law_21 (by decide) ?_
    refine mw_isub dL_law_23 ?_
    refine mw_icmp_gt (tgt := 1287) dL_law_24 (by decide) ?_ ?_
    · refine mw_iconst (v := (1 : Int32)) dL_law_1287 (by decide) ?_
      exact mg_lret1 dL_law_1288
    · refine mw_aload_n 0 dL_law_27 rfl rfl ?_
      refine mw_iload_n 3 dL_law_28 rfl rfl ?_
      refine mg_sld dL_law_29 ?_
      refine mw_bipush (v := (31 : Int32)) dL_law_30 (by decide) ?_
      refine mw_iand dL_law_32 ?_
      refine mw_ite (fun h1 => ?_) (fun h1 => ?_)
      · refine mw_tab (tgt := 164) h1 dL_law_33 (by decide) (by decide) rfl (by decide) ?_
        refine mw_aload_n 1 dL_law_164 rfl rfl ?_
        refine mw_aload_n 0 dL_law_165 rfl rfl ?_
        refine mw_iload_n 3 dL_law_166 rfl rfl ?_
        refine mw_iconst (v := (1 : Int32)) dL_law_167 (by decide) ?_
        refine mw_iadd dL_law_168 ?_
        refine mg_sld dL_law_169 ?_
        refine mw_i2l dL_law_170 ?_
        refine mw_bipush (v := (32 : Int32)) dL_law_171 (by decide) ?_
        refine mw_lshl dL_law_173 ?_
        refine mw_aload_n 0 dL_law_174 rfl rfl ?_
        refine mw_iload_n 3 dL_law_175 rfl rfl ?_
        refine mw_iconst (v := (2 : Int32)) dL_law_176 (by decide) ?_
        refine mw_iadd dL_law_177 ?_
        refine mg_sld dL_law_178 ?_
        refine mw_i2l dL_law_179 ?_
        refine mw_ldc2 cl_RL_13 dL_law_180 ?_
        refine mw_land dL_law_183 ?_
        refine mw_lor dL_law_184 ?_
        refine mw_callV (t_X11_feed X l (((xs (y3 + (1 : Int32)).toNatClampNeg).toInt64 <<< ((32 : Int32).toInt64 &&& 63)) ||| ((xs (y3 + (2 : Int32)).toNatClampNeg).toInt64 &&& (4294967295 : Int64))) S) cd_X11_feed lk_RL_15 im_X11_feed se_X11_feed in_RX11 de_X11_feed ⟨rfl, rfl⟩ ⟨Nat.le_of_ble_eq_true rfl, Nat.le_of_ble_eq_true rfl⟩ (mKind_lt mk_0 (by decide)) (mCell_k mk_0) rfl rfl rfl rfl ⟨Nat.le_of_ble_eq_true rfl, Nat.le_of_ble_eq_true rfl⟩ (Nat.le_of_ble_eq_true rfl) dL_law_185 (fun r2 S3 => ?_)
        refine mw_eq (st' := [.int r2]) rfl rfl ?_
        refine mw_aload_n 2 dL_law_188 rfl rfl ?_
        refine mw_aload_n 0 dL_law_189 rfl rfl ?_
        refine mw_iload_n 3 dL_law_190 rfl rfl ?_
        refine mw_iconst (v := (1 : Int32)) dL_law_191 (by decide) ?_
        refine mw_iadd dL_law_192 ?_
        refine mg_sld dL_law_193 ?_
        refine mw_i2l dL_law_194 ?_
        refine mw_bipush (v := (32 : Int32)) dL_law_195 (by decide) ?_
        refine mw_lshl dL_law_197 ?_
        refine mw_aload_n 0 dL_law_198 rfl rfl ?_
        refine mw_iload_n 3 dL_law_199 rfl rfl ?_
        refine mw_iconst (v := (2 : Int32)) dL_law_200 (by decide) ?_
        refine mw_iadd dL_law_201 ?_
        refine mg_sld dL_law_202 ?_
        refine mw_i2l dL_law_203 ?_
        refine mw_ldc2 cl_RL_13 dL_law_204 ?_
        refine mw_land dL_law_207 ?_
        refine mw_lor dL_law_208 ?_
        refine mw_callV (t_X12_feed X l (((xs (y3 + (1 : Int32)).toNatClampNeg).toInt64 <<< ((32 : Int32).toInt64 &&& 63)) ||| ((xs (y3 + (2 : Int32)).toNatClampNeg).toInt64 &&& (4294967295 : Int64))) S3) cd_X12_feed lk_RL_19 im_X12_feed se_X12_feed in_RX12 de_X12_feed ⟨rfl, rfl⟩ ⟨Nat.le_of_ble_eq_true rfl, Nat.le_of_ble_eq_true rfl⟩ (mKind_lt mk_69 (by decide)) (mCell_k mk_69) rfl rfl rfl rfl ⟨Nat.le_of_ble_eq_true rfl, Nat.le_of_ble_eq_true rfl⟩ (Nat.le_of_ble_eq_true rfl) dL_law_209 (fun r4 S5 => ?_)
        refine mw_eq (st' := [.int r4, .int r2]) rfl rfl ?_
        refine mw_icmp_eq (tgt := 1281) dL_law_212 (by decide) ?_ ?_
        · refine mw_iincB (lvf := fun x6 => [(3, .int x6), (0, .ref b), (1, .ref (X.2.1 0)), (2, .ref (X.2.1 69))]) (k := 3) dL_law_1281 rfl (by decide) (by decide) (fun _ => rfl) (fun x6 => ?_)
          refine mw_goto (tgt := 18) dL_law_1284 (by decide) ?_
          exact mw_sub [1, 2, 3, 0] rfl (ih x6 S5)
        · refine mw_iconst (v := (0 : Int32)) dL_law_215 (by decide) ?_
          exact mw_none
      · refine mw_ite (fun h7 => ?_) (fun h7 => ?_)
        · refine mw_tab (tgt := 217) h7 dL_law_33 (by decide) (by decide) rfl (by decide) ?_
          refine mw_aload_n 1 dL_law_217 rfl rfl ?_
          refine mw_aload_n 0 dL_law_218 rfl rfl ?_
          refine mw_iload_n 3 dL_law_219 rfl rfl ?_
          refine mw_iconst (v := (1 : Int32)) dL_law_220 (by decide) ?_
          refine mw_iadd dL_law_221 ?_
          refine mg_sld dL_law_222 ?_
          refine mw_callV (t_X11_end X l (xs (y3 + (1 : Int32)).toNatClampNeg) S) cd_X11_end lk_RL_20 im_X11_end se_X11_end in_RX11 de_X11_end ⟨rfl, rfl⟩ ⟨Nat.le_of_ble_eq_true rfl, Nat.le_of_ble_eq_true rfl⟩ (mKind_lt mk_0 (by decide)) (mCell_k mk_0) rfl rfl rfl rfl ⟨Nat.le_of_ble_eq_true rfl, Nat.le_of_ble_eq_true rfl⟩ (Nat.le_of_ble_eq_true rfl) dL_law_223 (fun r8 S9 => ?_)
          refine mw_eq (st' := [.int r8]) rfl rfl ?_
          refine mw_aload_n 2 dL_law_226 rfl rfl ?_
          refine mw_aload_n 0 dL_law_227 rfl rfl ?_
          refine mw_iload_n 3 dL_law_228 rfl rfl ?_
          refine mw_iconst (v := (1 : Int32)) dL_law_229 (by decide) ?_
          refine mw_iadd dL_law_230 ?_
          refine mg_sld dL_law_231 ?_
          refine mw_callV (t_X12_end X l (xs (y3 + (1 : Int32)).toNatClampNeg) S9) cd_X12_end lk_RL_24 im_X12_end se_X12_end in_RX12 de_X12_end ⟨rfl, rfl⟩ ⟨Nat.le_of_ble_eq_true rfl, Nat.le_of_ble_eq_true rfl⟩ (mKind_lt mk_69 (by decide)) (mCell_k mk_69) rfl rfl rfl rfl ⟨Nat.le_of_ble_eq_true rfl, Nat.le_of_ble_eq_true rfl⟩ (Nat.le_of_ble_eq_true rfl) dL_law_232 (fun r10 S11 => ?_)
          refine mw_eq (st' := [.int r10, .int r8]) rfl rfl ?_
          refine mw_icmp_eq (tgt := 1281) dL_law_235 (by decide) ?_ ?_
          · refine mw_iincB (lvf := fun x12 => [(3, .int x12), (0, .ref b), (1, .ref (X.2.1 0)), (2, .ref (X.2.1 69))]) (k := 3) dL_law_1281 rfl (by decide) (by decide) (fun _ => rfl) (fun x12 => ?_)
            refine mw_goto (tgt := 18) dL_law_1284 (by decide) ?_
            exact mw_sub [1, 2, 3, 0] rfl (ih x12 S11)
          · refine mw_iconst (v := (0 : Int32)) dL_law_238 (by decide) ?_
            exact mw_none
        · refine mw_ite (fun h13 => ?_) (fun h13 => ?_)
          · refine mw_tab (tgt := 240) h13 dL_law_33 (by decide) (by decide) rfl (by decide) ?_
            refine mw_aload_n 1 dL_law_240 rfl rfl ?_
            refine mw_callV (t_X11_trigger X l S) cd_X11_trigger lk_RL_25 im_X11_trigger se_X11_trigger in_RX11 de_X11_trigger ⟨rfl, rfl⟩ ⟨Nat.le_of_ble_eq_true rfl, Nat.le_of_ble_eq_true rfl⟩ (mKind_lt mk_0 (by decide)) (mCell_k mk_0) rfl rfl rfl rfl ⟨Nat.le_of_ble_eq_true rfl, Nat.le_of_ble_eq_true rfl⟩ (Nat.le_of_ble_eq_true rfl) dL_law_241 (fun r14 S15 => ?_)
            refine mw_eq (st' := [.int r14]) rfl rfl ?_
            refine mw_aload_n 2 dL_law_244 rfl rfl ?_
            refine mw_callV (t_X12_trigger X l S15) cd_X12_trigger lk_RL_29 im_X12_trigger se_X12_trigger in_RX12 de_X12_trigger ⟨rfl, rfl⟩ ⟨Nat.le_of_ble_eq_true rfl, Nat.le_of_ble_eq_true rfl⟩ (mKind_lt mk_69 (by decide)) (mCell_k mk_69) rfl rfl rfl rfl ⟨Nat.le_of_ble_eq_true rfl, Nat.le_of_ble_eq_true rfl⟩ (Nat.le_of_ble_eq_true rfl) dL_law_245 (fun r16 S17 => ?_)
            refine mw_eq (st' := [.int r16, .int r14]) rfl rfl ?_
            refine mw_icmp_eq (tgt := 1281) dL_law_248 (by decide) ?_ ?_
            · refine mw_iincB (lvf := fun x18 => [(3, .int x18), (0, .ref b), (1, .ref (X.2.1 0)), (2, .ref (X.2.1 69))]) (k := 3) dL_law_1281 rfl (by decide) (by decide) (fun _ => rfl) (fun x18 => ?_)
              refine mw_goto (tgt := 18) dL_law_1284 (by decide) ?_
              exact mw_sub [1, 2, 3, 0] rfl (ih x18 S17)
            · refine mw_iconst (v := (0 : Int32)) dL_law_251 (by decide) ?_
              exact mw_none
          · refine mw_ite (fun h19 => ?_) (fun h19 => ?_)
            · refine mw_tab (tgt := 253) h19 dL_law_33 (by decide) (by decide) rfl (by decide) ?_
              refine mw_aload_n 1 dL_law_253 rfl rfl ?_
              refine mw_callV (t_X11_fault X l S) cd_X11_fault lk_RL_30 im_X11_fault se_X11_fault in_RX11 de_X11_fault ⟨rfl, rfl⟩ ⟨Nat.le_of_ble_eq_true rfl, Nat.le_of_ble_eq_true rfl⟩ (mKind_lt mk_0 (by decide)) (mCell_k mk_0) rfl rfl rfl rfl ⟨Nat.le_of_ble_eq_true rfl, Nat.le_of_ble_eq_true rfl⟩ (Nat.le_of_ble_eq_true rfl) dL_law_254 (fun r20 S21 => ?_)
              refine mw_eq (st' := [.int r20]) rfl rfl ?_
              refine mw_aload_n 2 dL_law_257 rfl rfl ?_
              refine mw_callV (t_X12_fault X l S21) cd_X12_fault lk_RL_33 im_X12_fault se_X12_fault in_RX12 de_X12_fault ⟨rfl, rfl⟩ ⟨Nat.le_of_ble_eq_true rfl, Nat.le_of_ble_eq_true rfl⟩ (mKind_lt mk_69 (by decide)) (mCell_k mk_69) rfl rfl rfl rfl ⟨Nat.le_of_ble_eq_true rfl, Nat.le_of_ble_eq_true rfl⟩ (Nat.le_of_ble_eq_true rfl) dL_law_258 (fun r22 S23 => ?_)
              refine mw_eq (st' := [.int r22, .int r20]) rfl rfl ?_
              refine mw_icmp_eq (tgt := 1281) dL_law_261 (by decide) ?_ ?_
              · refine mw_iincB (lvf := fun x24 => [(3, .int x24), (0, .ref b), (1, .ref (X.2.1 0)), (2, .ref (X.2.1 69))]) (k := 3) dL_law_1281 rfl (by decide) (by decide) (fun _ => rfl) (fun x24 => ?_)
                refine mw_goto (tgt := 18) dL_law_1284 (by decide) ?_
                exact mw_sub [1, 2, 3, 0] rfl (ih x24 S23)
              · refine mw_iconst (v := (0 : Int32)) dL_law_264 (by decide) ?_
                exact mw_none
            · refine mw_ite (fun h25 => ?_) (fun h25 => ?_)
              · refine mw_tab (tgt := 266) h25 dL_law_33 (by decide) (by decide) rfl (by decide) ?_
                refine mw_aload_n 1 dL_law_266 rfl rfl ?_
                refine mw_aload_n 0 dL_law_267 rfl rfl ?_
                refine mw_iload_n 3 dL_law_268 rfl rfl ?_
                refine mw_iconst (v := (1 : Int32)) dL_law_269 (by decide) ?_
                refine mw_iadd dL_law_270 ?_
                refine mg_sld dL_law_271 ?_
                refine mw_aload_n 0 dL_law_272 rfl rfl ?_
                refine mw_iload_n 3 dL_law_273 rfl rfl ?_
                refine mw_iconst (v := (2 : Int32)) dL_law_274 (by decide) ?_
                refine mw_iadd dL_law_275 ?_
                refine mg_sld dL_law_276 ?_
                refine mw_callV (t_X11_keep X l (xs (y3 + (1 : Int32)).toNatClampNeg) (xs (y3 + (2 : Int32)).toNatClampNeg) S) cd_X11_keep lk_RL_34 im_X11_keep se_X11_keep in_RX11 de_X11_keep ⟨rfl, rfl⟩ ⟨Nat.le_of_ble_eq_true rfl, Nat.le_of_ble_eq_true rfl⟩ (mKind_lt mk_0 (by decide)) (mCell_k mk_0) rfl rfl rfl rfl ⟨Nat.le_of_ble_eq_true rfl, Nat.le_of_ble_eq_true rfl⟩ (Nat.le_of_ble_eq_true rfl) dL_law_277 (fun r26 S27 => ?_)
                refine mw_eq (st' := [.int r26]) rfl rfl ?_
                refine mw_aload_n 2 dL_law_280 rfl rfl ?_
                refine mw_aload_n 0 dL_law_281 rfl rfl ?_
                refine mw_iload_n 3 dL_law_282 rfl rfl ?_
                refine mw_iconst (v := (1 : Int32)) dL_law_283 (by decide) ?_
                refine mw_iadd dL_law_284 ?_
                refine mg_sld dL_law_285 ?_
                refine mw_aload_n 0 dL_law_286 rfl rfl ?_
                refine mw_iload_n 3 dL_law_287 rfl rfl ?_
                refine mw_iconst (v := (2 : Int32)) dL_law_288 (by decide) ?_
                refine mw_iadd dL_law_289 ?_
                refine mg_sld dL_law_290 ?_
                refine mw_callV (t_X12_keep X l (xs (y3 + (1 : Int32)).toNatClampNeg) (xs (y3 + (2 : Int32)).toNatClampNeg) S27) cd_X12_keep lk_RL_38 im_X12_keep se_X12_keep in_RX12 de_X12_keep ⟨rfl, rfl⟩ ⟨Nat.le_of_ble_eq_true rfl, Nat.le_of_ble_eq_true rfl⟩ (mKind_lt mk_69 (by decide)) (mCell_k mk_69) rfl rfl rfl rfl ⟨Nat.le_of_ble_eq_true rfl, Nat.le_of_ble_eq_true rfl⟩ (Nat.le_of_ble_eq_true rfl) dL_law_291 (fun r28 S29 => ?_)
                refine mw_eq (st' := [.int r28, .int r26]) rfl rfl ?_
                refine mw_icmp_eq (tgt := 1281) dL_law_294 (by decide) ?_ ?_
                · refine mw_iincB (lvf := fun x30 => [(3, .int x30), (0, .ref b), (1, .ref (X.2.1 0)), (2, .ref (X.2.1 69))]) (k := 3) dL_law_1281 rfl (by decide) (by decide) (fun _ => rfl) (fun x30 => ?_)
                  refine mw_goto (tgt := 18) dL_law_1284 (by decide) ?_
                  exact mw_sub [1, 2, 3, 0] rfl (ih x30 S29)
                · refine mw_iconst (v := (0 : Int32)) dL_law_297 (by decide) ?_
                  exact mw_none
              · refine mw_ite (fun h31 => ?_) (fun h31 => ?_)
                · refine mw_tab (tgt := 299) h31 dL_law_33 (by decide) (by decide) rfl (by decide) ?_
                  refine mw_aload_n 1 dL_law_299 rfl rfl ?_
                  refine mw_callV (t_X11_arm X l S) cd_X11_arm lk_RL_39 im_X11_arm se_X11_arm in_RX11 de_X11_arm ⟨rfl, rfl⟩ ⟨Nat.le_of_ble_eq_true rfl, Nat.le_of_ble_eq_true rfl⟩ (mKind_lt mk_0 (by decide)) (mCell_k mk_0) rfl rfl rfl rfl ⟨Nat.le_of_ble_eq_true rfl, Nat.le_of_ble_eq_true rfl⟩ (Nat.le_of_ble_eq_true rfl) dL_law_300 (fun r32 S33 => ?_)
                  refine mw_eq (st' := [.int r32]) rfl rfl ?_
                  refine mw_aload_n 2 dL_law_303 rfl rfl ?_
                  refine mw_callV (t_X12_arm X l S33) cd_X12_arm lk_RL_42 im_X12_arm se_X12_arm in_RX12 de_X12_arm ⟨rfl, rfl⟩ ⟨Nat.le_of_ble_eq_true rfl, Nat.le_of_ble_eq_true rfl⟩ (mKind_lt mk_69 (by decide)) (mCell_k mk_69) rfl rfl rfl rfl ⟨Nat.le_of_ble_eq_true rfl, Nat.le_of_ble_eq_true rfl⟩ (Nat.le_of_ble_eq_true rfl) dL_law_304 (fun r34 S35 => ?_)
                  refine mw_eq (st' := [.int r34, .int r32]) rfl rfl ?_
                  refine mw_icmp_eq (tgt := 1281) dL_law_307 (by decide) ?_ ?_
                  · refine mw_iincB (lvf := fun x36 => [(3, .int x36), (0, .ref b), (1, .ref (X.2.1 0)), (2, .ref (X.2.1 69))]) (k := 3) dL_law_1281 rfl (by decide) (by decide) (fun _ => rfl) (fun x36 => ?_)
                    refine mw_goto (tgt := 18) dL_law_1284 (by decide) ?_
                    exact mw_sub [1, 2, 3, 0] rfl (ih x36 S35)
                  · refine mw_iconst (v := (0 : Int32)) dL_law_310 (by decide) ?_
                    exact mw_none
                · refine mw_ite (fun h37 => ?_) (fun h37 => ?_)
                  · refine mw_tab (tgt := 312) h37 dL_law_33 (by decide) (by decide) rfl (by decide) ?_
                    refine mw_aload_n 1 dL_law_312 rfl rfl ?_
                    refine mw_aload_n 0 dL_law_313 rfl rfl ?_
                    refine mw_iload_n 3 dL_law_314 rfl rfl ?_
                    refine mw_iconst (v := (1 : Int32)) dL_law_315 (by decide) ?_
                    refine mw_iadd dL_law_316 ?_
                    refine mg_sld dL_law_317 ?_
                    refine mw_i2l dL_law_318 ?_
                    refine mw_bipush (v := (32 : Int32)) dL_law_319 (by decide) ?_
                    refine mw_lshl dL_law_321 ?_
                    refine mw_aload_n 0 dL_law_322 rfl rfl ?_
                    refine mw_iload_n 3 dL_law_323 rfl rfl ?_
                    refine mw_iconst (v := (2 : Int32)) dL_law_324 (by decide) ?_
                    refine mw_iadd dL_law_325 ?_
                    refine mg_sld dL_law_326 ?_
                    refine mw_i2l dL_law_327 ?_
                    refine mw_ldc2 cl_RL_13 dL_law_328 ?_
                    refine mw_land dL_law_331 ?_
                    refine mw_lor dL_law_332 ?_
                    refine mw_callV (t_X11_come X l (((xs (y3 + (1 : Int32)).toNatClampNeg).toInt64 <<< ((32 : Int32).toInt64 &&& 63)) ||| ((xs (y3 + (2 : Int32)).toNatClampNeg).toInt64 &&& (4294967295 : Int64))) S) cd_X11_come lk_RL_43 im_X11_come se_X11_come in_RX11 de_X11_come ⟨rfl, rfl⟩ ⟨Nat.le_of_ble_eq_true rfl, Nat.le_of_ble_eq_true rfl⟩ (mKind_lt mk_0 (by decide)) (mCell_k mk_0) rfl rfl rfl rfl ⟨Nat.le_of_ble_eq_true rfl, Nat.le_of_ble_eq_true rfl⟩ (Nat.le_of_ble_eq_true rfl) dL_law_333 (fun r38 S39 => ?_)
                    refine mw_eq (st' := [.int r38]) rfl rfl ?_
                    refine mw_aload_n 2 dL_law_336 rfl rfl ?_
                    refine mw_aload_n 0 dL_law_337 rfl rfl ?_
                    refine mw_iload_n 3 dL_law_338 rfl rfl ?_
                    refine mw_iconst (v := (1 : Int32)) dL_law_339 (by decide) ?_
                    refine mw_iadd dL_law_340 ?_
                    refine mg_sld dL_law_341 ?_
                    refine mw_i2l dL_law_342 ?_
                    refine mw_bipush (v := (32 : Int32)) dL_law_343 (by decide) ?_
                    refine mw_lshl dL_law_345 ?_
                    refine mw_aload_n 0 dL_law_346 rfl rfl ?_
                    refine mw_iload_n 3 dL_law_347 rfl rfl ?_
                    refine mw_iconst (v := (2 : Int32)) dL_law_348 (by decide) ?_
                    refine mw_iadd dL_law_349 ?_
                    refine mg_sld dL_law_350 ?_
                    refine mw_i2l dL_law_351 ?_
                    refine mw_ldc2 cl_RL_13 dL_law_352 ?_
                    refine mw_land dL_law_355 ?_
                    refine mw_lor dL_law_356 ?_
                    refine mw_callV (t_X12_come X l (((xs (y3 + (1 : Int32)).toNatClampNeg).toInt64 <<< ((32 : Int32).toInt64 &&& 63)) ||| ((xs (y3 + (2 : Int32)).toNatClampNeg).toInt64 &&& (4294967295 : Int64))) S39) cd_X12_come lk_RL_46 im_X12_come se_X12_come in_RX12 de_X12_come ⟨rfl, rfl⟩ ⟨Nat.le_of_ble_eq_true rfl, Nat.le_of_ble_eq_true rfl⟩ (mKind_lt mk_69 (by decide)) (mCell_k mk_69) rfl rfl rfl rfl ⟨Nat.le_of_ble_eq_true rfl, Nat.le_of_ble_eq_true rfl⟩ (Nat.le_of_ble_eq_true rfl) dL_law_357 (fun r40 S41 => ?_)
                    refine mw_eq (st' := [.int r40, .int r38]) rfl rfl ?_
                    refine mw_icmp_eq (tgt := 1281) dL_law_360 (by decide) ?_ ?_
                    · refine mw_iincB (lvf := fun x42 => [(3, .int x42), (0, .ref b), (1, .ref (X.2.1 0)), (2, .ref (X.2.1 69))]) (k := 3) dL_law_1281 rfl (by decide) (by decide) (fun _ => rfl) (fun x42 => ?_)
                      refine mw_goto (tgt := 18) dL_law_1284 (by decide) ?_
                      exact mw_sub [1, 2, 3, 0] rfl (ih x42 S41)
                    · refine mw_iconst (v := (0 : Int32)) dL_law_363 (by decide) ?_
                      exact mw_none
                  · refine mw_ite (fun h43 => ?_) (fun h43 => ?_)
                    · refine mw_tab (tgt := 365) h43 dL_law_33 (by decide) (by decide) rfl (by decide) ?_
                      refine mw_aload_n 1 dL_law_365 rfl rfl ?_
                      refine mw_aload_n 0 dL_law_366 rfl rfl ?_
                      refine mw_iload_n 3 dL_law_367 rfl rfl ?_
                      refine mw_iconst (v := (1 : Int32)) dL_law_368 (by decide) ?_
                      refine mw_iadd dL_law_369 ?_
                      refine mg_sld dL_law_370 ?_
                      refine mw_aload_n 0 dL_law_371 rfl rfl ?_
                      refine mw_iload_n 3 dL_law_372 rfl rfl ?_
                      refine mw_iconst (v := (2 : Int32)) dL_law_373 (by decide) ?_
                      refine mw_iadd dL_law_374 ?_
                      refine mg_sld dL_law_375 ?_
                      refine mw_aload_n 0 dL_law_376 rfl rfl ?_
                      refine mw_iload_n 3 dL_law_377 rfl rfl ?_
                      refine mw_iconst (v := (3 : Int32)) dL_law_378 (by decide) ?_
                      refine mw_iadd dL_law_379 ?_
                      refine mg_sld dL_law_380 ?_
                      refine mw_aload_n 0 dL_law_381 rfl rfl ?_
                      refine mw_iload_n 3 dL_law_382 rfl rfl ?_
                      refine mw_iconst (v := (4 : Int32)) dL_law_383 (by decide) ?_
                      refine mw_iadd dL_law_384 ?_
                      refine mg_sld dL_law_385 ?_
                      refine mw_callV (t_X11_play X l (xs (y3 + (1 : Int32)).toNatClampNeg) (xs (y3 + (2 : Int32)).toNatClampNeg) (xs (y3 + (3 : Int32)).toNatClampNeg) (xs (y3 + (4 : Int32)).toNatClampNeg) S) cd_X11_play lk_RL_47 im_X11_play se_X11_play in_RX11 de_X11_play ⟨rfl, rfl⟩ ⟨Nat.le_of_ble_eq_true rfl, Nat.le_of_ble_eq_true rfl⟩ (mKind_lt mk_0 (by decide)) (mCell_k mk_0) rfl rfl rfl rfl ⟨Nat.le_of_ble_eq_true rfl, Nat.le_of_ble_eq_true rfl⟩ (Nat.le_of_ble_eq_true rfl) dL_law_386 (fun r44 S45 => ?_)
                      refine mw_eq (st' := [.int r44]) rfl rfl ?_
                      refine mw_aload_n 2 dL_law_389 rfl rfl ?_
                      refine mw_aload_n 0 dL_law_390 rfl rfl ?_
                      refine mw_iload_n 3 dL_law_391 rfl rfl ?_
                      refine mw_iconst (v := (1 : Int32)) dL_law_392 (by decide) ?_
                      refine mw_iadd dL_law_393 ?_
                      refine mg_sld dL_law_394 ?_
                      refine mw_aload_n 0 dL_law_395 rfl rfl ?_
                      refine mw_iload_n 3 dL_law_396 rfl rfl ?_
                      refine mw_iconst (v := (2 : Int32)) dL_law_397 (by decide) ?_
                      refine mw_iadd dL_law_398 ?_
                      refine mg_sld dL_law_399 ?_
                      refine mw_aload_n 0 dL_law_400 rfl rfl ?_
                      refine mw_iload_n 3 dL_law_401 rfl rfl ?_
                      refine mw_iconst (v := (3 : Int32)) dL_law_402 (by decide) ?_
                      refine mw_iadd dL_law_403 ?_
                      refine mg_sld dL_law_404 ?_
                      refine mw_aload_n 0 dL_law_405 rfl rfl ?_
                      refine mw_iload_n 3 dL_law_406 rfl rfl ?_
                      refine mw_iconst (v := (4 : Int32)) dL_law_407 (by decide) ?_
                      refine mw_iadd dL_law_408 ?_
                      refine mg_sld dL_law_409 ?_
                      refine mw_callV (t_X12_play X l (xs (y3 + (1 : Int32)).toNatClampNeg) (xs (y3 + (2 : Int32)).toNatClampNeg) (xs (y3 + (3 : Int32)).toNatClampNeg) (xs (y3 + (4 : Int32)).toNatClampNeg) S45) cd_X12_play lk_RL_51 im_X12_play se_X12_play in_RX12 de_X12_play ⟨rfl, rfl⟩ ⟨Nat.le_of_ble_eq_true rfl, Nat.le_of_ble_eq_true rfl⟩ (mKind_lt mk_69 (by decide)) (mCell_k mk_69) rfl rfl rfl rfl ⟨Nat.le_of_ble_eq_true rfl, Nat.le_of_ble_eq_true rfl⟩ (Nat.le_of_ble_eq_true rfl) dL_law_410 (fun r46 S47 => ?_)
                      refine mw_eq (st' := [.int r46, .int r44]) rfl rfl ?_
                      refine mw_icmp_eq (tgt := 1281) dL_law_413 (by decide) ?_ ?_
                      · refine mw_iincB (lvf := fun x48 => [(3, .int x48), (0, .ref b), (1, .ref (X.2.1 0)), (2, .ref (X.2.1 69))]) (k := 3) dL_law_1281 rfl (by decide) (by decide) (fun _ => rfl) (fun x48 => ?_)
                        refine mw_goto (tgt := 18) dL_law_1284 (by decide) ?_
                        exact mw_sub [1, 2, 3, 0] rfl (ih x48 S47)
                      · refine mw_iconst (v := (0 : Int32)) dL_law_416 (by decide) ?_
                        exact mw_none
                    · refine mw_ite (fun h49 => ?_) (fun h49 => ?_)
                      · refine mw_tab (tgt := 418) h49 dL_law_33 (by decide) (by decide) rfl (by decide) ?_
                        refine mw_aload_n 1 dL_law_418 rfl rfl ?_
                        refine mw_aload_n 0 dL_law_419 rfl rfl ?_
                        refine mw_iload_n 3 dL_law_420 rfl rfl ?_
                        refine mw_iconst (v := (1 : Int32)) dL_law_421 (by decide) ?_
                        refine mw_iadd dL_law_422 ?_
                        refine mg_sld dL_law_423 ?_
                        refine mw_aload_n 0 dL_law_424 rfl rfl ?_
                        refine mw_iload_n 3 dL_law_425 rfl rfl ?_
                        refine mw_iconst (v := (2 : Int32)) dL_law_426 (by decide) ?_
                        refine mw_iadd dL_law_427 ?_
                        refine mg_sld dL_law_428 ?_
                        refine mw_callV (t_X11_sample X l (xs (y3 + (1 : Int32)).toNatClampNeg) (xs (y3 + (2 : Int32)).toNatClampNeg) S) cd_X11_sample lk_RL_52 im_X11_sample se_X11_sample in_RX11 de_X11_sample ⟨rfl, rfl⟩ ⟨Nat.le_of_ble_eq_true rfl, Nat.le_of_ble_eq_true rfl⟩ (mKind_lt mk_0 (by decide)) (mCell_k mk_0) rfl rfl rfl rfl ⟨Nat.le_of_ble_eq_true rfl, Nat.le_of_ble_eq_true rfl⟩ (Nat.le_of_ble_eq_true rfl) dL_law_429 (fun r50 S51 => ?_)
                        refine mw_eq (st' := [.int r50]) rfl rfl ?_
                        refine mw_aload_n 2 dL_law_432 rfl rfl ?_
                        refine mw_aload_n 0 dL_law_433 rfl rfl ?_
                        refine mw_iload_n 3 dL_law_434 rfl rfl ?_
                        refine mw_iconst (v := (1 : Int32)) dL_law_435 (by decide) ?_
                        refine mw_iadd dL_law_436 ?_
                        refine mg_sld dL_law_437 ?_
                        refine mw_aload_n 0 dL_law_438 rfl rfl ?_
                        refine mw_iload_n 3 dL_law_439 rfl rfl ?_
                        refine mw_iconst (v := (2 : Int32)) dL_law_440 (by decide) ?_
                        refine mw_iadd dL_law_441 ?_
                        refine mg_sld dL_law_442 ?_
                        refine mw_callV (t_X12_sample X l (xs (y3 + (1 : Int32)).toNatClampNeg) (xs (y3 + (2 : Int32)).toNatClampNeg) S51) cd_X12_sample lk_RL_55 im_X12_sample se_X12_sample in_RX12 de_X12_sample ⟨rfl, rfl⟩ ⟨Nat.le_of_ble_eq_true rfl, Nat.le_of_ble_eq_true rfl⟩ (mKind_lt mk_69 (by decide)) (mCell_k mk_69) rfl rfl rfl rfl ⟨Nat.le_of_ble_eq_true rfl, Nat.le_of_ble_eq_true rfl⟩ (Nat.le_of_ble_eq_true rfl) dL_law_443 (fun r52 S53 => ?_)
                        refine mw_eq (st' := [.int r52, .int r50]) rfl rfl ?_
                        refine mw_icmp_eq (tgt := 1281) dL_law_446 (by decide) ?_ ?_
                        · refine mw_iincB (lvf := fun x54 => [(3, .int x54), (0, .ref b), (1, .ref (X.2.1 0)), (2, .ref (X.2.1 69))]) (k := 3) dL_law_1281 rfl (by decide) (by decide) (fun _ => rfl) (fun x54 => ?_)
                          refine mw_goto (tgt := 18) dL_law_1284 (by decide) ?_
                          exact mw_sub [1, 2, 3, 0] rfl (ih x54 S53)
                        · refine mw_iconst (v := (0 : Int32)) dL_law_449 (by decide) ?_
                          exact mw_none
                      · refine mw_ite (fun h55 => ?_) (fun h55 => ?_)
                        · refine mw_tab (tgt := 451) h55 dL_law_33 (by decide) (by decide) rfl (by decide) ?_
                          refine mw_aload_n 1 dL_law_451 rfl rfl ?_
                          refine mw_aload_n 0 dL_law_452 rfl rfl ?_
                          refine mw_iload_n 3 dL_law_453 rfl rfl ?_
                          refine mw_iconst (v := (1 : Int32)) dL_law_454 (by decide) ?_
                          refine mw_iadd dL_law_455 ?_
                          refine mg_sld dL_law_456 ?_
                          refine mw_callV (t_X11_told X l (xs (y3 + (1 : Int32)).toNatClampNeg) S) cd_X11_told lk_RL_56 im_X11_told se_X11_told in_RX11 de_X11_told ⟨rfl, rfl⟩ ⟨Nat.le_of_ble_eq_true rfl, Nat.le_of_ble_eq_true rfl⟩ (mKind_lt mk_0 (by decide)) (mCell_k mk_0) rfl rfl rfl rfl ⟨Nat.le_of_ble_eq_true rfl, Nat.le_of_ble_eq_true rfl⟩ (Nat.le_of_ble_eq_true rfl) dL_law_457 (fun r56 S57 => ?_)
                          refine mw_eq (st' := [.int r56]) rfl rfl ?_
                          refine mw_aload_n 2 dL_law_460 rfl rfl ?_
                          refine mw_aload_n 0 dL_law_461 rfl rfl ?_
                          refine mw_iload_n 3 dL_law_462 rfl rfl ?_
                          refine mw_iconst (v := (1 : Int32)) dL_law_463 (by decide) ?_
                          refine mw_iadd dL_law_464 ?_
                          refine mg_sld dL_law_465 ?_
                          refine mw_callV (t_X12_told X l (xs (y3 + (1 : Int32)).toNatClampNeg) S57) cd_X12_told lk_RL_59 im_X12_told se_X12_told in_RX12 de_X12_told ⟨rfl, rfl⟩ ⟨Nat.le_of_ble_eq_true rfl, Nat.le_of_ble_eq_true rfl⟩ (mKind_lt mk_69 (by decide)) (mCell_k mk_69) rfl rfl rfl rfl ⟨Nat.le_of_ble_eq_true rfl, Nat.le_of_ble_eq_true rfl⟩ (Nat.le_of_ble_eq_true rfl) dL_law_466 (fun r58 S59 => ?_)
                          refine mw_eq (st' := [.int r58, .int r56]) rfl rfl ?_
                          refine mw_icmp_eq (tgt := 1281) dL_law_469 (by decide) ?_ ?_
                          · refine mw_iincB (lvf := fun x60 => [(3, .int x60), (0, .ref b), (1, .ref (X.2.1 0)), (2, .ref (X.2.1 69))]) (k := 3) dL_law_1281 rfl (by decide) (by decide) (fun _ => rfl) (fun x60 => ?_)
                            refine mw_goto (tgt := 18) dL_law_1284 (by decide) ?_
                            exact mw_sub [1, 2, 3, 0] rfl (ih x60 S59)
                          · refine mw_iconst (v := (0 : Int32)) dL_law_472 (by decide) ?_
                            exact mw_none
                        · refine mw_ite (fun h61 => ?_) (fun h61 => ?_)
                          · refine mw_tab (tgt := 474) h61 dL_law_33 (by decide) (by decide) rfl (by decide) ?_
                            refine mw_aload_n 1 dL_law_474 rfl rfl ?_
                            refine mw_aload_n 0 dL_law_475 rfl rfl ?_
                            refine mw_iload_n 3 dL_law_476 rfl rfl ?_
                            refine mw_iconst (v := (1 : Int32)) dL_law_477 (by decide) ?_
                            refine mw_iadd dL_law_478 ?_
                            refine mg_sld dL_law_479 ?_
                            refine mw_aload_n 0 dL_law_480 rfl rfl ?_
                            refine mw_iload_n 3 dL_law_481 rfl rfl ?_
                            refine mw_iconst (v := (2 : Int32)) dL_law_482 (by decide) ?_
                            refine mw_iadd dL_law_483 ?_
                            refine mg_sld dL_law_484 ?_
                            refine mw_callV (t_X11_segment X l (xs (y3 + (1 : Int32)).toNatClampNeg) (xs (y3 + (2 : Int32)).toNatClampNeg) S) cd_X11_segment lk_RL_60 im_X11_segment se_X11_segment in_RX11 de_X11_segment ⟨rfl, rfl⟩ ⟨Nat.le_of_ble_eq_true rfl, Nat.le_of_ble_eq_true rfl⟩ (mKind_lt mk_0 (by decide)) (mCell_k mk_0) rfl rfl rfl rfl ⟨Nat.le_of_ble_eq_true rfl, Nat.le_of_ble_eq_true rfl⟩ (Nat.le_of_ble_eq_true rfl) dL_law_485 (fun r62 S63 => ?_)
                            refine mw_eq (st' := [.int r62]) rfl rfl ?_
                            refine mw_aload_n 2 dL_law_488 rfl rfl ?_
                            refine mw_aload_n 0 dL_law_489 rfl rfl ?_
                            refine mw_iload_n 3 dL_law_490 rfl rfl ?_
                            refine mw_iconst (v := (1 : Int32)) dL_law_491 (by decide) ?_
                            refine mw_iadd dL_law_492 ?_
                            refine mg_sld dL_law_493 ?_
                            refine mw_aload_n 0 dL_law_494 rfl rfl ?_
                            refine mw_iload_n 3 dL_law_495 rfl rfl ?_
                            refine mw_iconst (v := (2 : Int32)) dL_law_496 (by decide) ?_
                            refine mw_iadd dL_law_497 ?_
                            refine mg_sld dL_law_498 ?_
                            refine mw_callV (t_X12_segment X l (xs (y3 + (1 : Int32)).toNatClampNeg) (xs (y3 + (2 : Int32)).toNatClampNeg) S63) cd_X12_segment lk_RL_63 im_X12_segment se_X12_segment in_RX12 de_X12_segment ⟨rfl, rfl⟩ ⟨Nat.le_of_ble_eq_true rfl, Nat.le_of_ble_eq_true rfl⟩ (mKind_lt mk_69 (by decide)) (mCell_k mk_69) rfl rfl rfl rfl ⟨Nat.le_of_ble_eq_true rfl, Nat.le_of_ble_eq_true rfl⟩ (Nat.le_of_ble_eq_true rfl) dL_law_499 (fun r64 S65 => ?_)
                            refine mw_eq (st' := [.int r64, .int r62]) rfl rfl ?_
                            refine mw_icmp_eq (tgt := 1281) dL_law_502 (by decide) ?_ ?_
                            · refine mw_iincB (lvf := fun x66 => [(3, .int x66), (0, .ref b), (1, .ref (X.2.1 0)), (2, .ref (X.2.1 69))]) (k := 3) dL_law_1281 rfl (by decide) (by decide) (fun _ => rfl) (fun x66 => ?_)
                              refine mw_goto (tgt := 18) dL_law_1284 (by decide) ?_
                              exact mw_sub [1, 2, 3, 0] rfl (ih x66 S65)
                            · refine mw_iconst (v := (0 : Int32)) dL_law_505 (by decide) ?_
                              exact mw_none
                          · refine mw_ite (fun h67 => ?_) (fun h67 => ?_)
                            · refine mw_tab (tgt := 507) h67 dL_law_33 (by decide) (by decide) rfl (by decide) ?_
                              refine mw_aload_n 1 dL_law_507 rfl rfl ?_
                              refine mw_aload_n 0 dL_law_508 rfl rfl ?_
                              refine mw_iload_n 3 dL_law_509 rfl rfl ?_
                              refine mw_iconst (v := (1 : Int32)) dL_law_510 (by decide) ?_
                              refine mw_iadd dL_law_511 ?_
                              refine mg_sld dL_law_512 ?_
                              refine mw_aload_n 0 dL_law_513 rfl rfl ?_
                              refine mw_iload_n 3 dL_law_514 rfl rfl ?_
                              refine mw_iconst (v := (2 : Int32)) dL_law_515 (by decide) ?_
                              refine mw_iadd dL_law_516 ?_
                              refine mg_sld dL_law_517 ?_
                              refine mw_aload_n 0 dL_law_518 rfl rfl ?_
                              refine mw_iload_n 3 dL_law_519 rfl rfl ?_
                              refine mw_iconst (v := (3 : Int32)) dL_law_520 (by decide) ?_
                              refine mw_iadd dL_law_521 ?_
                              refine mg_sld dL_law_522 ?_
                              refine mw_callV (t_X11_at X l (xs (y3 + (1 : Int32)).toNatClampNeg) (xs (y3 + (2 : Int32)).toNatClampNeg) (xs (y3 + (3 : Int32)).toNatClampNeg) S) cd_X11_at lk_RL_64 im_X11_at se_X11_at in_RX11 de_X11_at ⟨rfl, rfl⟩ ⟨Nat.le_of_ble_eq_true rfl, Nat.le_of_ble_eq_true rfl⟩ (mKind_lt mk_0 (by decide)) (mCell_k mk_0) rfl rfl rfl rfl ⟨Nat.le_of_ble_eq_true rfl, Nat.le_of_ble_eq_true rfl⟩ (Nat.le_of_ble_eq_true rfl) dL_law_523 (fun r68 S69 => ?_)
                              refine mw_eq (st' := [.int r68]) rfl rfl ?_
                              refine mw_aload_n 2 dL_law_526 rfl rfl ?_
                              refine mw_aload_n 0 dL_law_527 rfl rfl ?_
                              refine mw_iload_n 3 dL_law_528 rfl rfl ?_
                              refine mw_iconst (v := (1 : Int32)) dL_law_529 (by decide) ?_
                              refine mw_iadd dL_law_530 ?_
                              refine mg_sld dL_law_531 ?_
                              refine mw_aload_n 0 dL_law_532 rfl rfl ?_
                              refine mw_iload_n 3 dL_law_533 rfl rfl ?_
                              refine mw_iconst (v := (2 : Int32)) dL_law_534 (by decide) ?_
                              refine mw_iadd dL_law_535 ?_
                              refine mg_sld dL_law_536 ?_
                              refine mw_aload_n 0 dL_law_537 rfl rfl ?_
                              refine mw_iload_n 3 dL_law_538 rfl rfl ?_
                              refine mw_iconst (v := (3 : Int32)) dL_law_539 (by decide) ?_
                              refine mw_iadd dL_law_540 ?_
                              refine mg_sld dL_law_541 ?_
                              refine mw_callV (t_X12_at X l (xs (y3 + (1 : Int32)).toNatClampNeg) (xs (y3 + (2 : Int32)).toNatClampNeg) (xs (y3 + (3 : Int32)).toNatClampNeg) S69) cd_X12_at lk_RL_68 im_X12_at se_X12_at in_RX12 de_X12_at ⟨rfl, rfl⟩ ⟨Nat.le_of_ble_eq_true rfl, Nat.le_of_ble_eq_true rfl⟩ (mKind_lt mk_69 (by decide)) (mCell_k mk_69) rfl rfl rfl rfl ⟨Nat.le_of_ble_eq_true rfl, Nat.le_of_ble_eq_true rfl⟩ (Nat.le_of_ble_eq_true rfl) dL_law_542 (fun r70 S71 => ?_)
                              refine mw_eq (st' := [.int r70, .int r68]) rfl rfl ?_
                              refine mw_icmp_eq (tgt := 1281) dL_law_545 (by decide) ?_ ?_
                              · refine mw_iincB (lvf := fun x72 => [(3, .int x72), (0, .ref b), (1, .ref (X.2.1 0)), (2, .ref (X.2.1 69))]) (k := 3) dL_law_1281 rfl (by decide) (by decide) (fun _ => rfl) (fun x72 => ?_)
                                refine mw_goto (tgt := 18) dL_law_1284 (by decide) ?_
                                exact mw_sub [1, 2, 3, 0] rfl (ih x72 S71)
                              · refine mw_iconst (v := (0 : Int32)) dL_law_548 (by decide) ?_
                                exact mw_none
                            · refine mw_ite (fun h73 => ?_) (fun h73 => ?_)
                              · refine mw_tab (tgt := 550) h73 dL_law_33 (by decide) (by decide) rfl (by decide) ?_
                                refine mw_aload_n 1 dL_law_550 rfl rfl ?_
                                refine mw_callV (t_X11_drop X l S) cd_X11_drop lk_RL_69 im_X11_drop se_X11_drop in_RX11 de_X11_drop ⟨rfl, rfl⟩ ⟨Nat.le_of_ble_eq_true rfl, Nat.le_of_ble_eq_true rfl⟩ (mKind_lt mk_0 (by decide)) (mCell_k mk_0) rfl rfl rfl rfl ⟨Nat.le_of_ble_eq_true rfl, Nat.le_of_ble_eq_true rfl⟩ (Nat.le_of_ble_eq_true rfl) dL_law_551 (fun r74 S75 => ?_)
                                refine mw_eq (st' := [.int r74]) rfl rfl ?_
                                refine mw_aload_n 2 dL_law_554 rfl rfl ?_
                                refine mw_callV (t_X12_drop X l S75) cd_X12_drop lk_RL_72 im_X12_drop se_X12_drop in_RX12 de_X12_drop ⟨rfl, rfl⟩ ⟨Nat.le_of_ble_eq_true rfl, Nat.le_of_ble_eq_true rfl⟩ (mKind_lt mk_69 (by decide)) (mCell_k mk_69) rfl rfl rfl rfl ⟨Nat.le_of_ble_eq_true rfl, Nat.le_of_ble_eq_true rfl⟩ (Nat.le_of_ble_eq_true rfl) dL_law_555 (fun r76 S77 => ?_)
                                refine mw_eq (st' := [.int r76, .int r74]) rfl rfl ?_
                                refine mw_icmp_eq (tgt := 1281) dL_law_558 (by decide) ?_ ?_
                                · refine mw_iincB (lvf := fun x78 => [(3, .int x78), (0, .ref b), (1, .ref (X.2.1 0)), (2, .ref (X.2.1 69))]) (k := 3) dL_law_1281 rfl (by decide) (by decide) (fun _ => rfl) (fun x78 => ?_)
                                  refine mw_goto (tgt := 18) dL_law_1284 (by decide) ?_
                                  exact mw_sub [1, 2, 3, 0] rfl (ih x78 S77)
                                · refine mw_iconst (v := (0 : Int32)) dL_law_561 (by decide) ?_
                                  exact mw_none
                              · refine mw_ite (fun h79 => ?_) (fun h79 => ?_)
                                · refine mw_tab (tgt := 563) h79 dL_law_33 (by decide) (by decide) rfl (by decide) ?_
                                  refine mw_aload_n 1 dL_law_563 rfl rfl ?_
                                  refine mw_aload_n 0 dL_law_564 rfl rfl ?_
                                  refine mw_iload_n 3 dL_law_565 rfl rfl ?_
                                  refine mw_iconst (v := (1 : Int32)) dL_law_566 (by decide) ?_
                                  refine mw_iadd dL_law_567 ?_
                                  refine mg_sld dL_law_568 ?_
                                  refine mw_aload_n 0 dL_law_569 rfl rfl ?_
                                  refine mw_iload_n 3 dL_law_570 rfl rfl ?_
                                  refine mw_iconst (v := (2 : Int32)) dL_law_571 (by decide) ?_
                                  refine mw_iadd dL_law_572 ?_
                                  refine mg_sld dL_law_573 ?_
                                  refine mw_aload_n 0 dL_law_574 rfl rfl ?_
                                  refine mw_iload_n 3 dL_law_575 rfl rfl ?_
                                  refine mw_iconst (v := (3 : Int32)) dL_law_576 (by decide) ?_
                                  refine mw_iadd dL_law_577 ?_
                                  refine mg_sld dL_law_578 ?_
                                  refine mw_callV (t_X11_sheet X l (xs (y3 + (1 : Int32)).toNatClampNeg) (xs (y3 + (2 : Int32)).toNatClampNeg) (xs (y3 + (3 : Int32)).toNatClampNeg) S) cd_X11_sheet lk_RL_73 im_X11_sheet se_X11_sheet in_RX11 de_X11_sheet ⟨rfl, rfl⟩ ⟨Nat.le_of_ble_eq_true rfl, Nat.le_of_ble_eq_true rfl⟩ (mKind_lt mk_0 (by decide)) (mCell_k mk_0) rfl rfl rfl rfl ⟨Nat.le_of_ble_eq_true rfl, Nat.le_of_ble_eq_true rfl⟩ (Nat.le_of_ble_eq_true rfl) dL_law_579 (fun r80 S81 => ?_)
                                  refine mw_eq (st' := [.int r80]) rfl rfl ?_
                                  refine mw_aload_n 2 dL_law_582 rfl rfl ?_
                                  refine mw_aload_n 0 dL_law_583 rfl rfl ?_
                                  refine mw_iload_n 3 dL_law_584 rfl rfl ?_
                                  refine mw_iconst (v := (1 : Int32)) dL_law_585 (by decide) ?_
                                  refine mw_iadd dL_law_586 ?_
                                  refine mg_sld dL_law_587 ?_
                                  refine mw_aload_n 0 dL_law_588 rfl rfl ?_
                                  refine mw_iload_n 3 dL_law_589 rfl rfl ?_
                                  refine mw_iconst (v := (2 : Int32)) dL_law_590 (by decide) ?_
                                  refine mw_iadd dL_law_591 ?_
                                  refine mg_sld dL_law_592 ?_
                                  refine mw_aload_n 0 dL_law_593 rfl rfl ?_
                                  refine mw_iload_n 3 dL_law_594 rfl rfl ?_
                                  refine mw_iconst (v := (3 : Int32)) dL_law_595 (by decide) ?_
                                  refine mw_iadd dL_law_596 ?_
                                  refine mg_sld dL_law_597 ?_
                                  refine mw_callV (t_X12_sheet X l (xs (y3 + (1 : Int32)).toNatClampNeg) (xs (y3 + (2 : Int32)).toNatClampNeg) (xs (y3 + (3 : Int32)).toNatClampNeg) S81) cd_X12_sheet lk_RL_76 im_X12_sheet se_X12_sheet in_RX12 de_X12_sheet ⟨rfl, rfl⟩ ⟨Nat.le_of_ble_eq_true rfl, Nat.le_of_ble_eq_true rfl⟩ (mKind_lt mk_69 (by decide)) (mCell_k mk_69) rfl rfl rfl rfl ⟨Nat.le_of_ble_eq_true rfl, Nat.le_of_ble_eq_true rfl⟩ (Nat.le_of_ble_eq_true rfl) dL_law_598 (fun r82 S83 => ?_)
                                  refine mw_eq (st' := [.int r82, .int r80]) rfl rfl ?_
                                  refine mw_icmp_eq (tgt := 1281) dL_law_601 (by decide) ?_ ?_
                                  · refine mw_iincB (lvf := fun x84 => [(3, .int x84), (0, .ref b), (1, .ref (X.2.1 0)), (2, .ref (X.2.1 69))]) (k := 3) dL_law_1281 rfl (by decide) (by decide) (fun _ => rfl) (fun x84 => ?_)
                                    refine mw_goto (tgt := 18) dL_law_1284 (by decide) ?_
                                    exact mw_sub [1, 2, 3, 0] rfl (ih x84 S83)
                                  · refine mw_iconst (v := (0 : Int32)) dL_law_604 (by decide) ?_
                                    exact mw_none
                                · refine mw_ite (fun h85 => ?_) (fun h85 => ?_)
                                  · refine mw_tab (tgt := 606) h85 dL_law_33 (by decide) (by decide) rfl (by decide) ?_
                                    refine mw_aload_n 1 dL_law_606 rfl rfl ?_
                                    refine mw_aload_n 0 dL_law_607 rfl rfl ?_
                                    refine mw_iload_n 3 dL_law_608 rfl rfl ?_
                                    refine mw_iconst (v := (1 : Int32)) dL_law_609 (by decide) ?_
                                    refine mw_iadd dL_law_610 ?_
                                    refine mg_sld dL_law_611 ?_
                                    refine mw_aload_n 0 dL_law_612 rfl rfl ?_
                                    refine mw_iload_n 3 dL_law_613 rfl rfl ?_
                                    refine mw_iconst (v := (2 : Int32)) dL_law_614 (by decide) ?_
                                    refine mw_iadd dL_law_615 ?_
                                    refine mg_sld dL_law_616 ?_
                                    refine mw_aload_n 0 dL_law_617 rfl rfl ?_
                                    refine mw_iload_n 3 dL_law_618 rfl rfl ?_
                                    refine mw_iconst (v := (3 : Int32)) dL_law_619 (by decide) ?_
                                    refine mw_iadd dL_law_620 ?_
                                    refine mg_sld dL_law_621 ?_
                                    refine mw_callV (t_X11_lay X l (xs (y3 + (1 : Int32)).toNatClampNeg) (xs (y3 + (2 : Int32)).toNatClampNeg) (xs (y3 + (3 : Int32)).toNatClampNeg) S) cd_X11_lay lk_RL_77 im_X11_lay se_X11_lay in_RX11 de_X11_lay ⟨rfl, rfl⟩ ⟨Nat.le_of_ble_eq_true rfl, Nat.le_of_ble_eq_true rfl⟩ (mKind_lt mk_0 (by decide)) (mCell_k mk_0) rfl rfl rfl rfl ⟨Nat.le_of_ble_eq_true rfl, Nat.le_of_ble_eq_true rfl⟩ (Nat.le_of_ble_eq_true rfl) dL_law_622 (fun r86 S87 => ?_)
                                    refine mw_eq (st' := [.int r86]) rfl rfl ?_
                                    refine mw_aload_n 2 dL_law_625 rfl rfl ?_
                                    refine mw_aload_n 0 dL_law_626 rfl rfl ?_
                                    refine mw_iload_n 3 dL_law_627 rfl rfl ?_
                                    refine mw_iconst (v := (1 : Int32)) dL_law_628 (by decide) ?_
                                    refine mw_iadd dL_law_629 ?_
                                    refine mg_sld dL_law_630 ?_
                                    refine mw_aload_n 0 dL_law_631 rfl rfl ?_
                                    refine mw_iload_n 3 dL_law_632 rfl rfl ?_
                                    refine mw_iconst (v := (2 : Int32)) dL_law_633 (by decide) ?_
                                    refine mw_iadd dL_law_634 ?_
                                    refine mg_sld dL_law_635 ?_
                                    refine mw_aload_n 0 dL_law_636 rfl rfl ?_
                                    refine mw_iload_n 3 dL_law_637 rfl rfl ?_
                                    refine mw_iconst (v := (3 : Int32)) dL_law_638 (by decide) ?_
                                    refine mw_iadd dL_law_639 ?_
                                    refine mg_sld dL_law_640 ?_
                                    refine mw_callV (t_X12_lay X l (xs (y3 + (1 : Int32)).toNatClampNeg) (xs (y3 + (2 : Int32)).toNatClampNeg) (xs (y3 + (3 : Int32)).toNatClampNeg) S87) cd_X12_lay lk_RL_80 im_X12_lay se_X12_lay in_RX12 de_X12_lay ⟨rfl, rfl⟩ ⟨Nat.le_of_ble_eq_true rfl, Nat.le_of_ble_eq_true rfl⟩ (mKind_lt mk_69 (by decide)) (mCell_k mk_69) rfl rfl rfl rfl ⟨Nat.le_of_ble_eq_true rfl, Nat.le_of_ble_eq_true rfl⟩ (Nat.le_of_ble_eq_true rfl) dL_law_641 (fun r88 S89 => ?_)
                                    refine mw_eq (st' := [.int r88, .int r86]) rfl rfl ?_
                                    refine mw_icmp_eq (tgt := 1281) dL_law_644 (by decide) ?_ ?_
                                    · refine mw_iincB (lvf := fun x90 => [(3, .int x90), (0, .ref b), (1, .ref (X.2.1 0)), (2, .ref (X.2.1 69))]) (k := 3) dL_law_1281 rfl (by decide) (by decide) (fun _ => rfl) (fun x90 => ?_)
                                      refine mw_goto (tgt := 18) dL_law_1284 (by decide) ?_
                                      exact mw_sub [1, 2, 3, 0] rfl (ih x90 S89)
                                    · refine mw_iconst (v := (0 : Int32)) dL_law_647 (by decide) ?_
                                      exact mw_none
                                  · refine mw_ite (fun h91 => ?_) (fun h91 => ?_)
                                    · refine mw_tab (tgt := 649) h91 dL_law_33 (by decide) (by decide) rfl (by decide) ?_
                                      refine mw_aload_n 1 dL_law_649 rfl rfl ?_
                                      refine mw_aload_n 0 dL_law_650 rfl rfl ?_
                                      refine mw_iload_n 3 dL_law_651 rfl rfl ?_
                                      refine mw_iconst (v := (1 : Int32)) dL_law_652 (by decide) ?_
                                      refine mw_iadd dL_law_653 ?_
                                      refine mg_sld dL_law_654 ?_
                                      refine mw_aload_n 0 dL_law_655 rfl rfl ?_
                                      refine mw_iload_n 3 dL_law_656 rfl rfl ?_
                                      refine mw_iconst (v := (2 : Int32)) dL_law_657 (by decide) ?_
                                      refine mw_iadd dL_law_658 ?_
                                      refine mg_sld dL_law_659 ?_
                                      refine mw_aload_n 0 dL_law_660 rfl rfl ?_
                                      refine mw_iload_n 3 dL_law_661 rfl rfl ?_
                                      refine mw_iconst (v := (3 : Int32)) dL_law_662 (by decide) ?_
                                      refine mw_iadd dL_law_663 ?_
                                      refine mg_sld dL_law_664 ?_
                                      refine mw_aload_n 0 dL_law_665 rfl rfl ?_
                                      refine mw_iload_n 3 dL_law_666 rfl rfl ?_
                                      refine mw_iconst (v := (4 : Int32)) dL_law_667 (by decide) ?_
                                      refine mw_iadd dL_law_668 ?_
                                      refine mg_sld dL_law_669 ?_
                                      refine mw_aload_n 0 dL_law_670 rfl rfl ?_
                                      refine mw_iload_n 3 dL_law_671 rfl rfl ?_
                                      refine mw_iconst (v := (5 : Int32)) dL_law_672 (by decide) ?_
                                      refine mw_iadd dL_law_673 ?_
                                      refine mg_sld dL_law_674 ?_
                                      refine mw_aload_n 0 dL_law_675 rfl rfl ?_
                                      refine mw_iload_n 3 dL_law_676 rfl rfl ?_
                                      refine mw_bipush (v := (6 : Int32)) dL_law_677 (by decide) ?_
                                      refine mw_iadd dL_law_679 ?_
                                      refine mg_sld dL_law_680 ?_
                                      refine mw_callV (t_X11_mask X l (xs (y3 + (1 : Int32)).toNatClampNeg) (xs (y3 + (2 : Int32)).toNatClampNeg) (xs (y3 + (3 : Int32)).toNatClampNeg) (xs (y3 + (4 : Int32)).toNatClampNeg) (xs (y3 + (5 : Int32)).toNatClampNeg) (xs (y3 + (6 : Int32)).toNatClampNeg) S) cd_X11_mask lk_RL_81 im_X11_mask se_X11_mask in_RX11 de_X11_mask ⟨rfl, rfl⟩ ⟨Nat.le_of_ble_eq_true rfl, Nat.le_of_ble_eq_true rfl⟩ (mKind_lt mk_0 (by decide)) (mCell_k mk_0) rfl rfl rfl rfl ⟨Nat.le_of_ble_eq_true rfl, Nat.le_of_ble_eq_true rfl⟩ (Nat.le_of_ble_eq_true rfl) dL_law_681 (fun r92 S93 => ?_)
                                      refine mw_eq (st' := [.int r92]) rfl rfl ?_
                                      refine mw_aload_n 2 dL_law_684 rfl rfl ?_
                                      refine mw_aload_n 0 dL_law_685 rfl rfl ?_
                                      refine mw_iload_n 3 dL_law_686 rfl rfl ?_
                                      refine mw_iconst (v := (1 : Int32)) dL_law_687 (by decide) ?_
                                      refine mw_iadd dL_law_688 ?_
                                      refine mg_sld dL_law_689 ?_
                                      refine mw_aload_n 0 dL_law_690 rfl rfl ?_
                                      refine mw_iload_n 3 dL_law_691 rfl rfl ?_
                                      refine mw_iconst (v := (2 : Int32)) dL_law_692 (by decide) ?_
                                      refine mw_iadd dL_law_693 ?_
                                      refine mg_sld dL_law_694 ?_
                                      refine mw_aload_n 0 dL_law_695 rfl rfl ?_
                                      refine mw_iload_n 3 dL_law_696 rfl rfl ?_
                                      refine mw_iconst (v := (3 : Int32)) dL_law_697 (by decide) ?_
                                      refine mw_iadd dL_law_698 ?_
                                      refine mg_sld dL_law_699 ?_
                                      refine mw_aload_n 0 dL_law_700 rfl rfl ?_
                                      refine mw_iload_n 3 dL_law_701 rfl rfl ?_
                                      refine mw_iconst (v := (4 : Int32)) dL_law_702 (by decide) ?_
                                      refine mw_iadd dL_law_703 ?_
                                      refine mg_sld dL_law_704 ?_
                                      refine mw_aload_n 0 dL_law_705 rfl rfl ?_
                                      refine mw_iload_n 3 dL_law_706 rfl rfl ?_
                                      refine mw_iconst (v := (5 : Int32)) dL_law_707 (by decide) ?_
                                      refine mw_iadd dL_law_708 ?_
                                      refine mg_sld dL_law_709 ?_
                                      refine mw_aload_n 0 dL_law_710 rfl rfl ?_
                                      refine mw_iload_n 3 dL_law_711 rfl rfl ?_
                                      refine mw_bipush (v := (6 : Int32)) dL_law_712 (by decide) ?_
                                      refine mw_iadd dL_law_714 ?_
                                      refine mg_sld dL_law_715 ?_
                                      refine mw_callV (t_X12_mask X l (xs (y3 + (1 : Int32)).toNatClampNeg) (xs (y3 + (2 : Int32)).toNatClampNeg) (xs (y3 + (3 : Int32)).toNatClampNeg) (xs (y3 + (4 : Int32)).toNatClampNeg) (xs (y3 + (5 : Int32)).toNatClampNeg) (xs (y3 + (6 : Int32)).toNatClampNeg) S93) cd_X12_mask lk_RL_85 im_X12_mask se_X12_mask in_RX12 de_X12_mask ⟨rfl, rfl⟩ ⟨Nat.le_of_ble_eq_true rfl, Nat.le_of_ble_eq_true rfl⟩ (mKind_lt mk_69 (by decide)) (mCell_k mk_69) rfl rfl rfl rfl ⟨Nat.le_of_ble_eq_true rfl, Nat.le_of_ble_eq_true rfl⟩ (Nat.le_of_ble_eq_true rfl) dL_law_716 (fun r94 S95 => ?_)
                                      refine mw_eq (st' := [.int r94, .int r92]) rfl rfl ?_
                                      refine mw_icmp_eq (tgt := 1281) dL_law_719 (by decide) ?_ ?_
                                      · refine mw_iincB (lvf := fun x96 => [(3, .int x96), (0, .ref b), (1, .ref (X.2.1 0)), (2, .ref (X.2.1 69))]) (k := 3) dL_law_1281 rfl (by decide) (by decide) (fun _ => rfl) (fun x96 => ?_)
                                        refine mw_goto (tgt := 18) dL_law_1284 (by decide) ?_
                                        exact mw_sub [1, 2, 3, 0] rfl (ih x96 S95)
                                      · refine mw_iconst (v := (0 : Int32)) dL_law_722 (by decide) ?_
                                        exact mw_none
                                    · refine mw_ite (fun h97 => ?_) (fun h97 => ?_)
                                      · refine mw_tab (tgt := 724) h97 dL_law_33 (by decide) (by decide) rfl (by decide) ?_
                                        refine mw_aload_n 1 dL_law_724 rfl rfl ?_
                                        refine mw_callV (t_X11_first X l S) cd_X11_first lk_RL_86 im_X11_first se_X11_first in_RX11 de_X11_first ⟨rfl, rfl⟩ ⟨Nat.le_of_ble_eq_true rfl, Nat.le_of_ble_eq_true rfl⟩ (mKind_lt mk_0 (by decide)) (mCell_k mk_0) rfl rfl rfl rfl ⟨Nat.le_of_ble_eq_true rfl, Nat.le_of_ble_eq_true rfl⟩ (Nat.le_of_ble_eq_true rfl) dL_law_725 (fun r98 S99 => ?_)
                                        refine mw_eq (st' := [.int r98]) rfl rfl ?_
                                        refine mw_aload_n 2 dL_law_728 rfl rfl ?_
                                        refine mw_callV (t_X12_first X l S99) cd_X12_first lk_RL_89 im_X12_first se_X12_first in_RX12 de_X12_first ⟨rfl, rfl⟩ ⟨Nat.le_of_ble_eq_true rfl, Nat.le_of_ble_eq_true rfl⟩ (mKind_lt mk_69 (by decide)) (mCell_k mk_69) rfl rfl rfl rfl ⟨Nat.le_of_ble_eq_true rfl, Nat.le_of_ble_eq_true rfl⟩ (Nat.le_of_ble_eq_true rfl) dL_law_729 (fun r100 S101 => ?_)
                                        refine mw_eq (st' := [.int r100, .int r98]) rfl rfl ?_
                                        refine mw_icmp_eq (tgt := 1281) dL_law_732 (by decide) ?_ ?_
                                        · refine mw_iincB (lvf := fun x102 => [(3, .int x102), (0, .ref b), (1, .ref (X.2.1 0)), (2, .ref (X.2.1 69))]) (k := 3) dL_law_1281 rfl (by decide) (by decide) (fun _ => rfl) (fun x102 => ?_)
                                          refine mw_goto (tgt := 18) dL_law_1284 (by decide) ?_
                                          exact mw_sub [1, 2, 3, 0] rfl (ih x102 S101)
                                        · refine mw_iconst (v := (0 : Int32)) dL_law_735 (by decide) ?_
                                          exact mw_none
                                      · refine mw_ite (fun h103 => ?_) (fun h103 => ?_)
                                        · refine mw_tab (tgt := 737) h103 dL_law_33 (by decide) (by decide) rfl (by decide) ?_
                                          refine mw_aload_n 1 dL_law_737 rfl rfl ?_
                                          refine mw_aload_n 0 dL_law_738 rfl rfl ?_
                                          refine mw_iload_n 3 dL_law_739 rfl rfl ?_
                                          refine mw_iconst (v := (1 : Int32)) dL_law_740 (by decide) ?_
                                          refine mw_iadd dL_law_741 ?_
                                          refine mg_sld dL_law_742 ?_
                                          refine mw_aload_n 0 dL_law_743 rfl rfl ?_
                                          refine mw_iload_n 3 dL_law_744 rfl rfl ?_
                                          refine mw_iconst (v := (2 : Int32)) dL_law_745 (by decide) ?_
                                          refine mw_iadd dL_law_746 ?_
                                          refine mg_sld dL_law_747 ?_
                                          refine mw_aload_n 0 dL_law_748 rfl rfl ?_
                                          refine mw_iload_n 3 dL_law_749 rfl rfl ?_
                                          refine mw_iconst (v := (3 : Int32)) dL_law_750 (by decide) ?_
                                          refine mw_iadd dL_law_751 ?_
                                          refine mg_sld dL_law_752 ?_
                                          refine mw_callV (t_X11_row X l (xs (y3 + (1 : Int32)).toNatClampNeg) (xs (y3 + (2 : Int32)).toNatClampNeg) (xs (y3 + (3 : Int32)).toNatClampNeg) S) cd_X11_row lk_RL_90 im_X11_row se_X11_row in_RX11 de_X11_row ⟨rfl, rfl⟩ ⟨Nat.le_of_ble_eq_true rfl, Nat.le_of_ble_eq_true rfl⟩ (mKind_lt mk_0 (by decide)) (mCell_k mk_0) rfl rfl rfl rfl ⟨Nat.le_of_ble_eq_true rfl, Nat.le_of_ble_eq_true rfl⟩ (Nat.le_of_ble_eq_true rfl) dL_law_753 (fun r104 S105 => ?_)
                                          refine mw_eq (st' := [.int r104]) rfl rfl ?_
                                          refine mw_aload_n 2 dL_law_756 rfl rfl ?_
                                          refine mw_aload_n 0 dL_law_757 rfl rfl ?_
                                          refine mw_iload_n 3 dL_law_758 rfl rfl ?_
                                          refine mw_iconst (v := (1 : Int32)) dL_law_759 (by decide) ?_
                                          refine mw_iadd dL_law_760 ?_
                                          refine mg_sld dL_law_761 ?_
                                          refine mw_aload_n 0 dL_law_762 rfl rfl ?_
                                          refine mw_iload_n 3 dL_law_763 rfl rfl ?_
                                          refine mw_iconst (v := (2 : Int32)) dL_law_764 (by decide) ?_
                                          refine mw_iadd dL_law_765 ?_
                                          refine mg_sld dL_law_766 ?_
                                          refine mw_aload_n 0 dL_law_767 rfl rfl ?_
                                          refine mw_iload_n 3 dL_law_768 rfl rfl ?_
                                          refine mw_iconst (v := (3 : Int32)) dL_law_769 (by decide) ?_
                                          refine mw_iadd dL_law_770 ?_
                                          refine mg_sld dL_law_771 ?_
                                          refine mw_callV (t_X12_row X l (xs (y3 + (1 : Int32)).toNatClampNeg) (xs (y3 + (2 : Int32)).toNatClampNeg) (xs (y3 + (3 : Int32)).toNatClampNeg) S105) cd_X12_row lk_RL_93 im_X12_row se_X12_row in_RX12 de_X12_row ⟨rfl, rfl⟩ ⟨Nat.le_of_ble_eq_true rfl, Nat.le_of_ble_eq_true rfl⟩ (mKind_lt mk_69 (by decide)) (mCell_k mk_69) rfl rfl rfl rfl ⟨Nat.le_of_ble_eq_true rfl, Nat.le_of_ble_eq_true rfl⟩ (Nat.le_of_ble_eq_true rfl) dL_law_772 (fun r106 S107 => ?_)
                                          refine mw_eq (st' := [.int r106, .int r104]) rfl rfl ?_
                                          refine mw_icmp_eq (tgt := 1281) dL_law_775 (by decide) ?_ ?_
                                          · refine mw_iincB (lvf := fun x108 => [(3, .int x108), (0, .ref b), (1, .ref (X.2.1 0)), (2, .ref (X.2.1 69))]) (k := 3) dL_law_1281 rfl (by decide) (by decide) (fun _ => rfl) (fun x108 => ?_)
                                            refine mw_goto (tgt := 18) dL_law_1284 (by decide) ?_
                                            exact mw_sub [1, 2, 3, 0] rfl (ih x108 S107)
                                          · refine mw_iconst (v := (0 : Int32)) dL_law_778 (by decide) ?_
                                            exact mw_none
                                        · refine mw_ite (fun h109 => ?_) (fun h109 => ?_)
                                          · refine mw_tab (tgt := 780) h109 dL_law_33 (by decide) (by decide) rfl (by decide) ?_
                                            refine mw_aload_n 1 dL_law_780 rfl rfl ?_
                                            refine mw_aload_n 0 dL_law_781 rfl rfl ?_
                                            refine mw_iload_n 3 dL_law_782 rfl rfl ?_
                                            refine mw_iconst (v := (1 : Int32)) dL_law_783 (by decide) ?_
                                            refine mw_iadd dL_law_784 ?_
                                            refine mg_sld dL_law_785 ?_
                                            refine mw_aload_n 0 dL_law_786 rfl rfl ?_
                                            refine mw_iload_n 3 dL_law_787 rfl rfl ?_
                                            refine mw_iconst (v := (2 : Int32)) dL_law_788 (by decide) ?_
                                            refine mw_iadd dL_law_789 ?_
                                            refine mg_sld dL_law_790 ?_
                                            refine mw_aload_n 0 dL_law_791 rfl rfl ?_
                                            refine mw_iload_n 3 dL_law_792 rfl rfl ?_
                                            refine mw_iconst (v := (3 : Int32)) dL_law_793 (by decide) ?_
                                            refine mw_iadd dL_law_794 ?_
                                            refine mg_sld dL_law_795 ?_
                                            refine mw_aload_n 0 dL_law_796 rfl rfl ?_
                                            refine mw_iload_n 3 dL_law_797 rfl rfl ?_
                                            refine mw_iconst (v := (4 : Int32)) dL_law_798 (by decide) ?_
                                            refine mw_iadd dL_law_799 ?_
                                            refine mg_sld dL_law_800 ?_
                                            refine mw_aload_n 0 dL_law_801 rfl rfl ?_
                                            refine mw_iload_n 3 dL_law_802 rfl rfl ?_
                                            refine mw_iconst (v := (5 : Int32)) dL_law_803 (by decide) ?_
                                            refine mw_iadd dL_law_804 ?_
                                            refine mg_sld dL_law_805 ?_
                                            refine mw_callV (t_X11_reckon X l (xs (y3 + (1 : Int32)).toNatClampNeg) (xs (y3 + (2 : Int32)).toNatClampNeg) (xs (y3 + (3 : Int32)).toNatClampNeg) (xs (y3 + (4 : Int32)).toNatClampNeg) (xs (y3 + (5 : Int32)).toNatClampNeg) S) cd_X11_reckon lk_RL_94 im_X11_reckon se_X11_reckon in_RX11 de_X11_reckon ⟨rfl, rfl⟩ ⟨Nat.le_of_ble_eq_true rfl, Nat.le_of_ble_eq_true rfl⟩ (mKind_lt mk_0 (by decide)) (mCell_k mk_0) rfl rfl rfl rfl ⟨Nat.le_of_ble_eq_true rfl, Nat.le_of_ble_eq_true rfl⟩ (Nat.le_of_ble_eq_true rfl) dL_law_806 (fun r110 S111 => ?_)
                                            refine mw_eq (st' := [.int r110]) rfl rfl ?_
                                            refine mw_aload_n 2 dL_law_809 rfl rfl ?_
                                            refine mw_aload_n 0 dL_law_810 rfl rfl ?_
                                            refine mw_iload_n 3 dL_law_811 rfl rfl ?_
                                            refine mw_iconst (v := (1 : Int32)) dL_law_812 (by decide) ?_
                                            refine mw_iadd dL_law_813 ?_
                                            refine mg_sld dL_law_814 ?_
                                            refine mw_aload_n 0 dL_law_815 rfl rfl ?_
                                            refine mw_iload_n 3 dL_law_816 rfl rfl ?_
                                            refine mw_iconst (v := (2 : Int32)) dL_law_817 (by decide) ?_
                                            refine mw_iadd dL_law_818 ?_
                                            refine mg_sld dL_law_819 ?_
                                            refine mw_aload_n 0 dL_law_820 rfl rfl ?_
                                            refine mw_iload_n 3 dL_law_821 rfl rfl ?_
                                            refine mw_iconst (v := (3 : Int32)) dL_law_822 (by decide) ?_
                                            refine mw_iadd dL_law_823 ?_
                                            refine mg_sld dL_law_824 ?_
                                            refine mw_aload_n 0 dL_law_825 rfl rfl ?_
                                            refine mw_iload_n 3 dL_law_826 rfl rfl ?_
                                            refine mw_iconst (v := (4 : Int32)) dL_law_827 (by decide) ?_
                                            refine mw_iadd dL_law_828 ?_
                                            refine mg_sld dL_law_829 ?_
                                            refine mw_aload_n 0 dL_law_830 rfl rfl ?_
                                            refine mw_iload_n 3 dL_law_831 rfl rfl ?_
                                            refine mw_iconst (v := (5 : Int32)) dL_law_832 (by decide) ?_
                                            refine mw_iadd dL_law_833 ?_
                                            refine mg_sld dL_law_834 ?_
                                            refine mw_callV (t_X12_reckon X l (xs (y3 + (1 : Int32)).toNatClampNeg) (xs (y3 + (2 : Int32)).toNatClampNeg) (xs (y3 + (3 : Int32)).toNatClampNeg) (xs (y3 + (4 : Int32)).toNatClampNeg) (xs (y3 + (5 : Int32)).toNatClampNeg) S111) cd_X12_reckon lk_RL_98 im_X12_reckon se_X12_reckon in_RX12 de_X12_reckon ⟨rfl, rfl⟩ ⟨Nat.le_of_ble_eq_true rfl, Nat.le_of_ble_eq_true rfl⟩ (mKind_lt mk_69 (by decide)) (mCell_k mk_69) rfl rfl rfl rfl ⟨Nat.le_of_ble_eq_true rfl, Nat.le_of_ble_eq_true rfl⟩ (Nat.le_of_ble_eq_true rfl) dL_law_835 (fun r112 S113 => ?_)
                                            refine mw_eq (st' := [.int r112, .int r110]) rfl rfl ?_
                                            refine mw_icmp_eq (tgt := 1281) dL_law_838 (by decide) ?_ ?_
                                            · refine mw_iincB (lvf := fun x114 => [(3, .int x114), (0, .ref b), (1, .ref (X.2.1 0)), (2, .ref (X.2.1 69))]) (k := 3) dL_law_1281 rfl (by decide) (by decide) (fun _ => rfl) (fun x114 => ?_)
                                              refine mw_goto (tgt := 18) dL_law_1284 (by decide) ?_
                                              exact mw_sub [1, 2, 3, 0] rfl (ih x114 S113)
                                            · refine mw_iconst (v := (0 : Int32)) dL_law_841 (by decide) ?_
                                              exact mw_none
                                          · refine mw_ite (fun h115 => ?_) (fun h115 => ?_)
                                            · refine mw_tab (tgt := 843) h115 dL_law_33 (by decide) (by decide) rfl (by decide) ?_
                                              refine mw_aload_n 1 dL_law_843 rfl rfl ?_
                                              refine mw_aload_n 0 dL_law_844 rfl rfl ?_
                                              refine mw_iload_n 3 dL_law_845 rfl rfl ?_
                                              refine mw_iconst (v := (1 : Int32)) dL_law_846 (by decide) ?_
                                              refine mw_iadd dL_law_847 ?_
                                              refine mg_sld dL_law_848 ?_
                                              refine mw_aload_n 0 dL_law_849 rfl rfl ?_
                                              refine mw_iload_n 3 dL_law_850 rfl rfl ?_
                                              refine mw_iconst (v := (2 : Int32)) dL_law_851 (by decide) ?_
                                              refine mw_iadd dL_law_852 ?_
                                              refine mg_sld dL_law_853 ?_
                                              refine mw_callV (t_X11_place X l (xs (y3 + (1 : Int32)).toNatClampNeg) (xs (y3 + (2 : Int32)).toNatClampNeg) S) cd_X11_place lk_RL_99 im_X11_place se_X11_place in_RX11 de_X11_place ⟨rfl, rfl⟩ ⟨Nat.le_of_ble_eq_true rfl, Nat.le_of_ble_eq_true rfl⟩ (mKind_lt mk_0 (by decide)) (mCell_k mk_0) rfl rfl rfl rfl ⟨Nat.le_of_ble_eq_true rfl, Nat.le_of_ble_eq_true rfl⟩ (Nat.le_of_ble_eq_true rfl) dL_law_854 (fun r116 S117 => ?_)
                                              refine mw_eq (st' := [.long r116]) rfl rfl ?_
                                              refine mw_aload_n 2 dL_law_857 rfl rfl ?_
                                              refine mw_aload_n 0 dL_law_858 rfl rfl ?_
                                              refine mw_iload_n 3 dL_law_859 rfl rfl ?_
                                              refine mw_iconst (v := (1 : Int32)) dL_law_860 (by decide) ?_
                                              refine mw_iadd dL_law_861 ?_
                                              refine mg_sld dL_law_862 ?_
                                              refine mw_aload_n 0 dL_law_863 rfl rfl ?_
                                              refine mw_iload_n 3 dL_law_864 rfl rfl ?_
                                              refine mw_iconst (v := (2 : Int32)) dL_law_865 (by decide) ?_
                                              refine mw_iadd dL_law_866 ?_
                                              refine mg_sld dL_law_867 ?_
                                              refine mw_callV (t_X12_place X l (xs (y3 + (1 : Int32)).toNatClampNeg) (xs (y3 + (2 : Int32)).toNatClampNeg) S117) cd_X12_place lk_RL_103 im_X12_place se_X12_place in_RX12 de_X12_place ⟨rfl, rfl⟩ ⟨Nat.le_of_ble_eq_true rfl, Nat.le_of_ble_eq_true rfl⟩ (mKind_lt mk_69 (by decide)) (mCell_k mk_69) rfl rfl rfl rfl ⟨Nat.le_of_ble_eq_true rfl, Nat.le_of_ble_eq_true rfl⟩ (Nat.le_of_ble_eq_true rfl) dL_law_868 (fun r118 S119 => ?_)
                                              refine mw_eq (st' := [.long r118, .long r116]) rfl rfl ?_
                                              refine mw_lcmp dL_law_871 ?_
                                              refine mw_if_eq (tgt := 1281) dL_law_872 (by decide) ?_ ?_
                                              · refine mw_iincB (lvf := fun x120 => [(3, .int x120), (0, .ref b), (1, .ref (X.2.1 0)), (2, .ref (X.2.1 69))]) (k := 3) dL_law_1281 rfl (by decide) (by decide) (fun _ => rfl) (fun x120 => ?_)
                                                refine mw_goto (tgt := 18) dL_law_1284 (by decide) ?_
                                                exact mw_sub [1, 2, 3, 0] rfl (ih x120 S119)
                                              · refine mw_iconst (v := (0 : Int32)) dL_law_875 (by decide) ?_
                                                exact mw_none
                                            · refine mw_ite (fun h121 => ?_) (fun h121 => ?_)
                                              · refine mw_tab (tgt := 877) h121 dL_law_33 (by decide) (by decide) rfl (by decide) ?_
                                                refine mw_aload_n 1 dL_law_877 rfl rfl ?_
                                                refine mw_aload_n 0 dL_law_878 rfl rfl ?_
                                                refine mw_iload_n 3 dL_law_879 rfl rfl ?_
                                                refine mw_iconst (v := (1 : Int32)) dL_law_880 (by decide) ?_
                                                refine mw_iadd dL_law_881 ?_
                                                refine mg_sld dL_law_882 ?_
                                                refine mw_aload_n 0 dL_law_883 rfl rfl ?_
                                                refine mw_iload_n 3 dL_law_884 rfl rfl ?_
                                                refine mw_iconst (v := (2 : Int32)) dL_law_885 (by decide) ?_
                                                refine mw_iadd dL_law_886 ?_
                                                refine mg_sld dL_law_887 ?_
                                                refine mw_callV (t_X11_about X l (xs (y3 + (1 : Int32)).toNatClampNeg) (xs (y3 + (2 : Int32)).toNatClampNeg) S) cd_X11_about lk_RL_104 im_X11_about se_X11_about in_RX11 de_X11_about ⟨rfl, rfl⟩ ⟨Nat.le_of_ble_eq_true rfl, Nat.le_of_ble_eq_true rfl⟩ (mKind_lt mk_0 (by decide)) (mCell_k mk_0) rfl rfl rfl rfl ⟨Nat.le_of_ble_eq_true rfl, Nat.le_of_ble_eq_true rfl⟩ (Nat.le_of_ble_eq_true rfl) dL_law_888 (fun r122 S123 => ?_)
                                                refine mw_eq (st' := [.int r122]) rfl rfl ?_
                                                refine mw_aload_n 2 dL_law_891 rfl rfl ?_
                                                refine mw_aload_n 0 dL_law_892 rfl rfl ?_
                                                refine mw_iload_n 3 dL_law_893 rfl rfl ?_
                                                refine mw_iconst (v := (1 : Int32)) dL_law_894 (by decide) ?_
                                                refine mw_iadd dL_law_895 ?_
                                                refine mg_sld dL_law_896 ?_
                                                refine mw_aload_n 0 dL_law_897 rfl rfl ?_
                                                refine mw_iload_n 3 dL_law_898 rfl rfl ?_
                                                refine mw_iconst (v := (2 : Int32)) dL_law_899 (by decide) ?_
                                                refine mw_iadd dL_law_900 ?_
                                                refine mg_sld dL_law_901 ?_
                                                refine mw_callV (t_X12_about X l (xs (y3 + (1 : Int32)).toNatClampNeg) (xs (y3 + (2 : Int32)).toNatClampNeg) S123) cd_X12_about lk_RL_107 im_X12_about se_X12_about in_RX12 de_X12_about ⟨rfl, rfl⟩ ⟨Nat.le_of_ble_eq_true rfl, Nat.le_of_ble_eq_true rfl⟩ (mKind_lt mk_69 (by decide)) (mCell_k mk_69) rfl rfl rfl rfl ⟨Nat.le_of_ble_eq_true rfl, Nat.le_of_ble_eq_true rfl⟩ (Nat.le_of_ble_eq_true rfl) dL_law_902 (fun r124 S125 => ?_)
                                                refine mw_eq (st' := [.int r124, .int r122]) rfl rfl ?_
                                                refine mw_icmp_eq (tgt := 1281) dL_law_905 (by decide) ?_ ?_
                                                · refine mw_iincB (lvf := fun x126 => [(3, .int x126), (0, .ref b), (1, .ref (X.2.1 0)), (2, .ref (X.2.1 69))]) (k := 3) dL_law_1281 rfl (by decide) (by decide) (fun _ => rfl) (fun x126 => ?_)
                                                  refine mw_goto (tgt := 18) dL_law_1284 (by decide) ?_
                                                  exact mw_sub [1, 2, 3, 0] rfl (ih x126 S125)
                                                · refine mw_iconst (v := (0 : Int32)) dL_law_908 (by decide) ?_
                                                  exact mw_none
                                              · refine mw_ite (fun h127 => ?_) (fun h127 => ?_)
                                                · refine mw_tab (tgt := 910) h127 dL_law_33 (by decide) (by decide) rfl (by decide) ?_
                                                  refine mw_aload_n 1 dL_law_910 rfl rfl ?_
                                                  refine mw_aload_n 0 dL_law_911 rfl rfl ?_
                                                  refine mw_iload_n 3 dL_law_912 rfl rfl ?_
                                                  refine mw_iconst (v := (1 : Int32)) dL_law_913 (by decide) ?_
                                                  refine mw_iadd dL_law_914 ?_
                                                  refine mg_sld dL_law_915 ?_
                                                  refine mw_callV (t_X11_total X l (xs (y3 + (1 : Int32)).toNatClampNeg) S) cd_X11_total lk_RL_108 im_X11_total se_X11_total in_RX11 de_X11_total ⟨rfl, rfl⟩ ⟨Nat.le_of_ble_eq_true rfl, Nat.le_of_ble_eq_true rfl⟩ (mKind_lt mk_0 (by decide)) (mCell_k mk_0) rfl rfl rfl rfl ⟨Nat.le_of_ble_eq_true rfl, Nat.le_of_ble_eq_true rfl⟩ (Nat.le_of_ble_eq_true rfl) dL_law_916 (fun r128 S129 => ?_)
                                                  refine mw_eq (st' := [.long r128]) rfl rfl ?_
                                                  refine mw_aload_n 2 dL_law_919 rfl rfl ?_
                                                  refine mw_aload_n 0 dL_law_920 rfl rfl ?_
                                                  refine mw_iload_n 3 dL_law_921 rfl rfl ?_
                                                  refine mw_iconst (v := (1 : Int32)) dL_law_922 (by decide) ?_
                                                  refine mw_iadd dL_law_923 ?_
                                                  refine mg_sld dL_law_924 ?_
                                                  refine mw_callV (t_X12_total X l (xs (y3 + (1 : Int32)).toNatClampNeg) S129) cd_X12_total lk_RL_112 im_X12_total se_X12_total in_RX12 de_X12_total ⟨rfl, rfl⟩ ⟨Nat.le_of_ble_eq_true rfl, Nat.le_of_ble_eq_true rfl⟩ (mKind_lt mk_69 (by decide)) (mCell_k mk_69) rfl rfl rfl rfl ⟨Nat.le_of_ble_eq_true rfl, Nat.le_of_ble_eq_true rfl⟩ (Nat.le_of_ble_eq_true rfl) dL_law_925 (fun r130 S131 => ?_)
                                                  refine mw_eq (st' := [.long r130, .long r128]) rfl rfl ?_
                                                  refine mw_lcmp dL_law_928 ?_
                                                  refine mw_if_eq (tgt := 1281) dL_law_929 (by decide) ?_ ?_
                                                  · refine mw_iincB (lvf := fun x132 => [(3, .int x132), (0, .ref b), (1, .ref (X.2.1 0)), (2, .ref (X.2.1 69))]) (k := 3) dL_law_1281 rfl (by decide) (by decide) (fun _ => rfl) (fun x132 => ?_)
                                                    refine mw_goto (tgt := 18) dL_law_1284 (by decide) ?_
                                                    exact mw_sub [1, 2, 3, 0] rfl (ih x132 S131)
                                                  · refine mw_iconst (v := (0 : Int32)) dL_law_932 (by decide) ?_
                                                    exact mw_none
                                                · refine mw_ite (fun h133 => ?_) (fun h133 => ?_)
                                                  · refine mw_tab (tgt := 934) h133 dL_law_33 (by decide) (by decide) rfl (by decide) ?_
                                                    refine mw_aload_n 1 dL_law_934 rfl rfl ?_
                                                    refine mw_aload_n 0 dL_law_935 rfl rfl ?_
                                                    refine mw_iload_n 3 dL_law_936 rfl rfl ?_
                                                    refine mw_iconst (v := (1 : Int32)) dL_law_937 (by decide) ?_
                                                    refine mw_iadd dL_law_938 ?_
                                                    refine mg_sld dL_law_939 ?_
                                                    refine mw_aload_n 0 dL_law_940 rfl rfl ?_
                                                    refine mw_iload_n 3 dL_law_941 rfl rfl ?_
                                                    refine mw_iconst (v := (2 : Int32)) dL_law_942 (by decide) ?_
                                                    refine mw_iadd dL_law_943 ?_
                                                    refine mg_sld dL_law_944 ?_
                                                    refine mw_i2l dL_law_945 ?_
                                                    refine mw_bipush (v := (32 : Int32)) dL_law_946 (by decide) ?_
                                                    refine mw_lshl dL_law_948 ?_
                                                    refine mw_aload_n 0 dL_law_949 rfl rfl ?_
                                                    refine mw_iload_n 3 dL_law_950 rfl rfl ?_
                                                    refine mw_iconst (v := (3 : Int32)) dL_law_951 (by decide) ?_
                                                    refine mw_iadd dL_law_952 ?_
                                                    refine mg_sld dL_law_953 ?_
                                                    refine mw_i2l dL_law_954 ?_
                                                    refine mw_ldc2 cl_RL_13 dL_law_955 ?_
                                                    refine mw_land dL_law_958 ?_
                                                    refine mw_lor dL_law_959 ?_
                                                    refine mw_aload_n 0 dL_law_960 rfl rfl ?_
                                                    refine mw_iload_n 3 dL_law_961 rfl rfl ?_
                                                    refine mw_iconst (v := (4 : Int32)) dL_law_962 (by decide) ?_
                                                    refine mw_iadd dL_law_963 ?_
                                                    refine mg_sld dL_law_964 ?_
                                                    refine mw_callV (t_X11_turns X l (xs (y3 + (1 : Int32)).toNatClampNeg) (((xs (y3 + (2 : Int32)).toNatClampNeg).toInt64 <<< ((32 : Int32).toInt64 &&& 63)) ||| ((xs (y3 + (3 : Int32)).toNatClampNeg).toInt64 &&& (4294967295 : Int64))) (xs (y3 + (4 : Int32)).toNatClampNeg) S) cd_X11_turns lk_RL_113 im_X11_turns se_X11_turns in_RX11 de_X11_turns ⟨rfl, rfl⟩ ⟨Nat.le_of_ble_eq_true rfl, Nat.le_of_ble_eq_true rfl⟩ (mKind_lt mk_0 (by decide)) (mCell_k mk_0) rfl rfl rfl rfl ⟨Nat.le_of_ble_eq_true rfl, Nat.le_of_ble_eq_true rfl⟩ (Nat.le_of_ble_eq_true rfl) dL_law_965 (fun r134 S135 => ?_)
                                                    refine mw_eq (st' := [.int r134]) rfl rfl ?_
                                                    refine mw_aload_n 2 dL_law_968 rfl rfl ?_
                                                    refine mw_aload_n 0 dL_law_969 rfl rfl ?_
                                                    refine mw_iload_n 3 dL_law_970 rfl rfl ?_
                                                    refine mw_iconst (v := (1 : Int32)) dL_law_971 (by decide) ?_
                                                    refine mw_iadd dL_law_972 ?_
                                                    refine mg_sld dL_law_973 ?_
                                                    refine mw_aload_n 0 dL_law_974 rfl rfl ?_
                                                    refine mw_iload_n 3 dL_law_975 rfl rfl ?_
                                                    refine mw_iconst (v := (2 : Int32)) dL_law_976 (by decide) ?_
                                                    refine mw_iadd dL_law_977 ?_
                                                    refine mg_sld dL_law_978 ?_
                                                    refine mw_i2l dL_law_979 ?_
                                                    refine mw_bipush (v := (32 : Int32)) dL_law_980 (by decide) ?_
                                                    refine mw_lshl dL_law_982 ?_
                                                    refine mw_aload_n 0 dL_law_983 rfl rfl ?_
                                                    refine mw_iload_n 3 dL_law_984 rfl rfl ?_
                                                    refine mw_iconst (v := (3 : Int32)) dL_law_985 (by decide) ?_
                                                    refine mw_iadd dL_law_986 ?_
                                                    refine mg_sld dL_law_987 ?_
                                                    refine mw_i2l dL_law_988 ?_
                                                    refine mw_ldc2 cl_RL_13 dL_law_989 ?_
                                                    refine mw_land dL_law_992 ?_
                                                    refine mw_lor dL_law_993 ?_
                                                    refine mw_aload_n 0 dL_law_994 rfl rfl ?_
                                                    refine mw_iload_n 3 dL_law_995 rfl rfl ?_
                                                    refine mw_iconst (v := (4 : Int32)) dL_law_996 (by decide) ?_
                                                    refine mw_iadd dL_law_997 ?_
                                                    refine mg_sld dL_law_998 ?_
                                                    refine mw_callV (t_X12_turns X l (xs (y3 + (1 : Int32)).toNatClampNeg) (((xs (y3 + (2 : Int32)).toNatClampNeg).toInt64 <<< ((32 : Int32).toInt64 &&& 63)) ||| ((xs (y3 + (3 : Int32)).toNatClampNeg).toInt64 &&& (4294967295 : Int64))) (xs (y3 + (4 : Int32)).toNatClampNeg) S135) cd_X12_turns lk_RL_117 im_X12_turns se_X12_turns in_RX12 de_X12_turns ⟨rfl, rfl⟩ ⟨Nat.le_of_ble_eq_true rfl, Nat.le_of_ble_eq_true rfl⟩ (mKind_lt mk_69 (by decide)) (mCell_k mk_69) rfl rfl rfl rfl ⟨Nat.le_of_ble_eq_true rfl, Nat.le_of_ble_eq_true rfl⟩ (Nat.le_of_ble_eq_true rfl) dL_law_999 (fun r136 S137 => ?_)
                                                    refine mw_eq (st' := [.int r136, .int r134]) rfl rfl ?_
                                                    refine mw_icmp_eq (tgt := 1281) dL_law_1002 (by decide) ?_ ?_
                                                    · refine mw_iincB (lvf := fun x138 => [(3, .int x138), (0, .ref b), (1, .ref (X.2.1 0)), (2, .ref (X.2.1 69))]) (k := 3) dL_law_1281 rfl (by decide) (by decide) (fun _ => rfl) (fun x138 => ?_)
                                                      refine mw_goto (tgt := 18) dL_law_1284 (by decide) ?_
                                                      exact mw_sub [1, 2, 3, 0] rfl (ih x138 S137)
                                                    · refine mw_iconst (v := (0 : Int32)) dL_law_1005 (by decide) ?_
                                                      exact mw_none
                                                  · refine mw_ite (fun h139 => ?_) (fun h139 => ?_)
                                                    · refine mw_tab (tgt := 1007) h139 dL_law_33 (by decide) (by decide) rfl (by decide) ?_
                                                      refine mw_aload_n 1 dL_law_1007 rfl rfl ?_
                                                      refine mw_aload_n 0 dL_law_1008 rfl rfl ?_
                                                      refine mw_iload_n 3 dL_law_1009 rfl rfl ?_
                                                      refine mw_iconst (v := (1 : Int32)) dL_law_1010 (by decide) ?_
                                                      refine mw_iadd dL_law_1011 ?_
                                                      refine mg_sld dL_law_1012 ?_
                                                      refine mw_aload_n 0 dL_law_1013 rfl rfl ?_
                                                      refine mw_iload_n 3 dL_law_1014 rfl rfl ?_
                                                      refine mw_iconst (v := (2 : Int32)) dL_law_1015 (by decide) ?_
                                                      refine mw_iadd dL_law_1016 ?_
                                                      refine mg_sld dL_law_1017 ?_
                                                      refine mw_aload_n 0 dL_law_1018 rfl rfl ?_
                                                      refine mw_iload_n 3 dL_law_1019 rfl rfl ?_
                                                      refine mw_iconst (v := (3 : Int32)) dL_law_1020 (by decide) ?_
                                                      refine mw_iadd dL_law_1021 ?_
                                                      refine mg_sld dL_law_1022 ?_
                                                      refine mw_aload_n 0 dL_law_1023 rfl rfl ?_
                                                      refine mw_iload_n 3 dL_law_1024 rfl rfl ?_
                                                      refine mw_iconst (v := (4 : Int32)) dL_law_1025 (by decide) ?_
                                                      refine mw_iadd dL_law_1026 ?_
                                                      refine mg_sld dL_law_1027 ?_
                                                      refine mw_aload_n 0 dL_law_1028 rfl rfl ?_
                                                      refine mw_iload_n 3 dL_law_1029 rfl rfl ?_
                                                      refine mw_iconst (v := (5 : Int32)) dL_law_1030 (by decide) ?_
                                                      refine mw_iadd dL_law_1031 ?_
                                                      refine mg_sld dL_law_1032 ?_
                                                      refine mw_i2l dL_law_1033 ?_
                                                      refine mw_bipush (v := (32 : Int32)) dL_law_1034 (by decide) ?_
                                                      refine mw_lshl dL_law_1036 ?_
                                                      refine mw_aload_n 0 dL_law_1037 rfl rfl ?_
                                                      refine mw_iload_n 3 dL_law_1038 rfl rfl ?_
                                                      refine mw_bipush (v := (6 : Int32)) dL_law_1039 (by decide) ?_
                                                      refine mw_iadd dL_law_1041 ?_
                                                      refine mg_sld dL_law_1042 ?_
                                                      refine mw_i2l dL_law_1043 ?_
                                                      refine mw_ldc2 cl_RL_13 dL_law_1044 ?_
                                                      refine mw_land dL_law_1047 ?_
                                                      refine mw_lor dL_law_1048 ?_
                                                      refine mw_aload_n 0 dL_law_1049 rfl rfl ?_
                                                      refine mw_iload_n 3 dL_law_1050 rfl rfl ?_
                                                      refine mw_bipush (v := (7 : Int32)) dL_law_1051 (by decide) ?_
                                                      refine mw_iadd dL_law_1053 ?_
                                                      refine mg_sld dL_law_1054 ?_
                                                      refine mw_aload_n 0 dL_law_1055 rfl rfl ?_
                                                      refine mw_iload_n 3 dL_law_1056 rfl rfl ?_
                                                      refine mw_bipush (v := (8 : Int32)) dL_law_1057 (by decide) ?_
                                                      refine mw_iadd dL_law_1059 ?_
                                                      refine mg_sld dL_law_1060 ?_
                                                      refine mw_callV (t_X11_eye X l (xs (y3 + (1 : Int32)).toNatClampNeg) (xs (y3 + (2 : Int32)).toNatClampNeg) (xs (y3 + (3 : Int32)).toNatClampNeg) (xs (y3 + (4 : Int32)).toNatClampNeg) (((xs (y3 + (5 : Int32)).toNatClampNeg).toInt64 <<< ((32 : Int32).toInt64 &&& 63)) ||| ((xs (y3 + (6 : Int32)).toNatClampNeg).toInt64 &&& (4294967295 : Int64))) (xs (y3 + (7 : Int32)).toNatClampNeg) (xs (y3 + (8 : Int32)).toNatClampNeg) S) cd_X11_eye lk_RL_118 im_X11_eye se_X11_eye in_RX11 de_X11_eye ⟨rfl, rfl⟩ ⟨Nat.le_of_ble_eq_true rfl, Nat.le_of_ble_eq_true rfl⟩ (mKind_lt mk_0 (by decide)) (mCell_k mk_0) rfl rfl rfl rfl ⟨Nat.le_of_ble_eq_true rfl, Nat.le_of_ble_eq_true rfl⟩ (Nat.le_of_ble_eq_true rfl) dL_law_1061 (fun r140 S141 => ?_)
                                                      refine mw_eq (st' := [.int r140]) rfl rfl ?_
                                                      refine mw_aload_n 2 dL_law_1064 rfl rfl ?_
                                                      refine mw_aload_n 0 dL_law_1065 rfl rfl ?_
                                                      refine mw_iload_n 3 dL_law_1066 rfl rfl ?_
                                                      refine mw_iconst (v := (1 : Int32)) dL_law_1067 (by decide) ?_
                                                      refine mw_iadd dL_law_1068 ?_
                                                      refine mg_sld dL_law_1069 ?_
                                                      refine mw_aload_n 0 dL_law_1070 rfl rfl ?_
                                                      refine mw_iload_n 3 dL_law_1071 rfl rfl ?_
                                                      refine mw_iconst (v := (2 : Int32)) dL_law_1072 (by decide) ?_
                                                      refine mw_iadd dL_law_1073 ?_
                                                      refine mg_sld dL_law_1074 ?_
                                                      refine mw_aload_n 0 dL_law_1075 rfl rfl ?_
                                                      refine mw_iload_n 3 dL_law_1076 rfl rfl ?_
                                                      refine mw_iconst (v := (3 : Int32)) dL_law_1077 (by decide) ?_
                                                      refine mw_iadd dL_law_1078 ?_
                                                      refine mg_sld dL_law_1079 ?_
                                                      refine mw_aload_n 0 dL_law_1080 rfl rfl ?_
                                                      refine mw_iload_n 3 dL_law_1081 rfl rfl ?_
                                                      refine mw_iconst (v := (4 : Int32)) dL_law_1082 (by decide) ?_
                                                      refine mw_iadd dL_law_1083 ?_
                                                      refine mg_sld dL_law_1084 ?_
                                                      refine mw_aload_n 0 dL_law_1085 rfl rfl ?_
                                                      refine mw_iload_n 3 dL_law_1086 rfl rfl ?_
                                                      refine mw_iconst (v := (5 : Int32)) dL_law_1087 (by decide) ?_
                                                      refine mw_iadd dL_law_1088 ?_
                                                      refine mg_sld dL_law_1089 ?_
                                                      refine mw_i2l dL_law_1090 ?_
                                                      refine mw_bipush (v := (32 : Int32)) dL_law_1091 (by decide) ?_
                                                      refine mw_lshl dL_law_1093 ?_
                                                      refine mw_aload_n 0 dL_law_1094 rfl rfl ?_
                                                      refine mw_iload_n 3 dL_law_1095 rfl rfl ?_
                                                      refine mw_bipush (v := (6 : Int32)) dL_law_1096 (by decide) ?_
                                                      refine mw_iadd dL_law_1098 ?_
                                                      refine mg_sld dL_law_1099 ?_
                                                      refine mw_i2l dL_law_1100 ?_
                                                      refine mw_ldc2 cl_RL_13 dL_law_1101 ?_
                                                      refine mw_land dL_law_1104 ?_
                                                      refine mw_lor dL_law_1105 ?_
                                                      refine mw_aload_n 0 dL_law_1106 rfl rfl ?_
                                                      refine mw_iload_n 3 dL_law_1107 rfl rfl ?_
                                                      refine mw_bipush (v := (7 : Int32)) dL_law_1108 (by decide) ?_
                                                      refine mw_iadd dL_law_1110 ?_
                                                      refine mg_sld dL_law_1111 ?_
                                                      refine mw_aload_n 0 dL_law_1112 rfl rfl ?_
                                                      refine mw_iload_n 3 dL_law_1113 rfl rfl ?_
                                                      refine mw_bipush (v := (8 : Int32)) dL_law_1114 (by decide) ?_
                                                      refine mw_iadd dL_law_1116 ?_
                                                      refine mg_sld dL_law_1117 ?_
                                                      refine mw_callV (t_X12_eye X l (xs (y3 + (1 : Int32)).toNatClampNeg) (xs (y3 + (2 : Int32)).toNatClampNeg) (xs (y3 + (3 : Int32)).toNatClampNeg) (xs (y3 + (4 : Int32)).toNatClampNeg) (((xs (y3 + (5 : Int32)).toNatClampNeg).toInt64 <<< ((32 : Int32).toInt64 &&& 63)) ||| ((xs (y3 + (6 : Int32)).toNatClampNeg).toInt64 &&& (4294967295 : Int64))) (xs (y3 + (7 : Int32)).toNatClampNeg) (xs (y3 + (8 : Int32)).toNatClampNeg) S141) cd_X12_eye lk_RL_122 im_X12_eye se_X12_eye in_RX12 de_X12_eye ⟨rfl, rfl⟩ ⟨Nat.le_of_ble_eq_true rfl, Nat.le_of_ble_eq_true rfl⟩ (mKind_lt mk_69 (by decide)) (mCell_k mk_69) rfl rfl rfl rfl ⟨Nat.le_of_ble_eq_true rfl, Nat.le_of_ble_eq_true rfl⟩ (Nat.le_of_ble_eq_true rfl) dL_law_1118 (fun r142 S143 => ?_)
                                                      refine mw_eq (st' := [.int r142, .int r140]) rfl rfl ?_
                                                      refine mw_icmp_eq (tgt := 1281) dL_law_1121 (by decide) ?_ ?_
                                                      · refine mw_iincB (lvf := fun x144 => [(3, .int x144), (0, .ref b), (1, .ref (X.2.1 0)), (2, .ref (X.2.1 69))]) (k := 3) dL_law_1281 rfl (by decide) (by decide) (fun _ => rfl) (fun x144 => ?_)
                                                        refine mw_goto (tgt := 18) dL_law_1284 (by decide) ?_
                                                        exact mw_sub [1, 2, 3, 0] rfl (ih x144 S143)
                                                      · refine mw_iconst (v := (0 : Int32)) dL_law_1124 (by decide) ?_
                                                        exact mw_none
                                                    · refine mw_ite (fun h145 => ?_) (fun h145 => ?_)
                                                      · refine mw_tab (tgt := 1126) h145 dL_law_33 (by decide) (by decide) rfl (by decide) ?_
                                                        refine mw_aload_n 1 dL_law_1126 rfl rfl ?_
                                                        refine mw_aload_n 0 dL_law_1127 rfl rfl ?_
                                                        refine mw_iload_n 3 dL_law_1128 rfl rfl ?_
                                                        refine mw_iconst (v := (1 : Int32)) dL_law_1129 (by decide) ?_
                                                        refine mw_iadd dL_law_1130 ?_
                                                        refine mg_sld dL_law_1131 ?_
                                                        refine mw_aload_n 0 dL_law_1132 rfl rfl ?_
                                                        refine mw_iload_n 3 dL_law_1133 rfl rfl ?_
                                                        refine mw_iconst (v := (2 : Int32)) dL_law_1134 (by decide) ?_
                                                        refine mw_iadd dL_law_1135 ?_
                                                        refine mg_sld dL_law_1136 ?_
                                                        refine mw_aload_n 0 dL_law_1137 rfl rfl ?_
                                                        refine mw_iload_n 3 dL_law_1138 rfl rfl ?_
                                                        refine mw_iconst (v := (3 : Int32)) dL_law_1139 (by decide) ?_
                                                        refine mw_iadd dL_law_1140 ?_
                                                        refine mg_sld dL_law_1141 ?_
                                                        refine mw_callV (t_X11_bytes X l (xs (y3 + (1 : Int32)).toNatClampNeg) (xs (y3 + (2 : Int32)).toNatClampNeg) (xs (y3 + (3 : Int32)).toNatClampNeg) S) cd_X11_bytes lk_RL_123 im_X11_bytes se_X11_bytes in_RX11 de_X11_bytes ⟨rfl, rfl⟩ ⟨Nat.le_of_ble_eq_true rfl, Nat.le_of_ble_eq_true rfl⟩ (mKind_lt mk_0 (by decide)) (mCell_k mk_0) rfl rfl rfl rfl ⟨Nat.le_of_ble_eq_true rfl, Nat.le_of_ble_eq_true rfl⟩ (Nat.le_of_ble_eq_true rfl) dL_law_1142 (fun r146 S147 => ?_)
                                                        refine mw_eq (st' := [.int r146]) rfl rfl ?_
                                                        refine mw_aload_n 2 dL_law_1145 rfl rfl ?_
                                                        refine mw_aload_n 0 dL_law_1146 rfl rfl ?_
                                                        refine mw_iload_n 3 dL_law_1147 rfl rfl ?_
                                                        refine mw_iconst (v := (1 : Int32)) dL_law_1148 (by decide) ?_
                                                        refine mw_iadd dL_law_1149 ?_
                                                        refine mg_sld dL_law_1150 ?_
                                                        refine mw_aload_n 0 dL_law_1151 rfl rfl ?_
                                                        refine mw_iload_n 3 dL_law_1152 rfl rfl ?_
                                                        refine mw_iconst (v := (2 : Int32)) dL_law_1153 (by decide) ?_
                                                        refine mw_iadd dL_law_1154 ?_
                                                        refine mg_sld dL_law_1155 ?_
                                                        refine mw_aload_n 0 dL_law_1156 rfl rfl ?_
                                                        refine mw_iload_n 3 dL_law_1157 rfl rfl ?_
                                                        refine mw_iconst (v := (3 : Int32)) dL_law_1158 (by decide) ?_
                                                        refine mw_iadd dL_law_1159 ?_
                                                        refine mg_sld dL_law_1160 ?_
                                                        refine mw_callV (t_X12_bytes X l (xs (y3 + (1 : Int32)).toNatClampNeg) (xs (y3 + (2 : Int32)).toNatClampNeg) (xs (y3 + (3 : Int32)).toNatClampNeg) S147) cd_X12_bytes lk_RL_126 im_X12_bytes se_X12_bytes in_RX12 de_X12_bytes ⟨rfl, rfl⟩ ⟨Nat.le_of_ble_eq_true rfl, Nat.le_of_ble_eq_true rfl⟩ (mKind_lt mk_69 (by decide)) (mCell_k mk_69) rfl rfl rfl rfl ⟨Nat.le_of_ble_eq_true rfl, Nat.le_of_ble_eq_true rfl⟩ (Nat.le_of_ble_eq_true rfl) dL_law_1161 (fun r148 S149 => ?_)
                                                        refine mw_eq (st' := [.int r148, .int r146]) rfl rfl ?_
                                                        refine mw_icmp_eq (tgt := 1281) dL_law_1164 (by decide) ?_ ?_
                                                        · refine mw_iincB (lvf := fun x150 => [(3, .int x150), (0, .ref b), (1, .ref (X.2.1 0)), (2, .ref (X.2.1 69))]) (k := 3) dL_law_1281 rfl (by decide) (by decide) (fun _ => rfl) (fun x150 => ?_)
                                                          refine mw_goto (tgt := 18) dL_law_1284 (by decide) ?_
                                                          exact mw_sub [1, 2, 3, 0] rfl (ih x150 S149)
                                                        · refine mw_iconst (v := (0 : Int32)) dL_law_1167 (by decide) ?_
                                                          exact mw_none
                                                      · refine mw_ite (fun h151 => ?_) (fun h151 => ?_)
                                                        · refine mw_tab (tgt := 1169) h151 dL_law_33 (by decide) (by decide) rfl (by decide) ?_
                                                          refine mw_aload_n 1 dL_law_1169 rfl rfl ?_
                                                          refine mw_aload_n 0 dL_law_1170 rfl rfl ?_
                                                          refine mw_iload_n 3 dL_law_1171 rfl rfl ?_
                                                          refine mw_iconst (v := (1 : Int32)) dL_law_1172 (by decide) ?_
                                                          refine mw_iadd dL_law_1173 ?_
                                                          refine mg_sld dL_law_1174 ?_
                                                          refine mw_aload_n 0 dL_law_1175 rfl rfl ?_
                                                          refine mw_iload_n 3 dL_law_1176 rfl rfl ?_
                                                          refine mw_iconst (v := (2 : Int32)) dL_law_1177 (by decide) ?_
                                                          refine mw_iadd dL_law_1178 ?_
                                                          refine mg_sld dL_law_1179 ?_
                                                          refine mw_aload_n 0 dL_law_1180 rfl rfl ?_
                                                          refine mw_iload_n 3 dL_law_1181 rfl rfl ?_
                                                          refine mw_iconst (v := (3 : Int32)) dL_law_1182 (by decide) ?_
                                                          refine mw_iadd dL_law_1183 ?_
                                                          refine mg_sld dL_law_1184 ?_
                                                          refine mw_callV (t_X11_wires X l (xs (y3 + (1 : Int32)).toNatClampNeg) (xs (y3 + (2 : Int32)).toNatClampNeg) (xs (y3 + (3 : Int32)).toNatClampNeg) S) cd_X11_wires lk_RL_127 im_X11_wires se_X11_wires in_RX11 de_X11_wires ⟨rfl, rfl⟩ ⟨Nat.le_of_ble_eq_true rfl, Nat.le_of_ble_eq_true rfl⟩ (mKind_lt mk_0 (by decide)) (mCell_k mk_0) rfl rfl rfl rfl ⟨Nat.le_of_ble_eq_true rfl, Nat.le_of_ble_eq_true rfl⟩ (Nat.le_of_ble_eq_true rfl) dL_law_1185 (fun r152 S153 => ?_)
                                                          refine mw_eq (st' := [.int r152]) rfl rfl ?_
                                                          refine mw_aload_n 2 dL_law_1188 rfl rfl ?_
                                                          refine mw_aload_n 0 dL_law_1189 rfl rfl ?_
                                                          refine mw_iload_n 3 dL_law_1190 rfl rfl ?_
                                                          refine mw_iconst (v := (1 : Int32)) dL_law_1191 (by decide) ?_
                                                          refine mw_iadd dL_law_1192 ?_
                                                          refine mg_sld dL_law_1193 ?_
                                                          refine mw_aload_n 0 dL_law_1194 rfl rfl ?_
                                                          refine mw_iload_n 3 dL_law_1195 rfl rfl ?_
                                                          refine mw_iconst (v := (2 : Int32)) dL_law_1196 (by decide) ?_
                                                          refine mw_iadd dL_law_1197 ?_
                                                          refine mg_sld dL_law_1198 ?_
                                                          refine mw_aload_n 0 dL_law_1199 rfl rfl ?_
                                                          refine mw_iload_n 3 dL_law_1200 rfl rfl ?_
                                                          refine mw_iconst (v := (3 : Int32)) dL_law_1201 (by decide) ?_
                                                          refine mw_iadd dL_law_1202 ?_
                                                          refine mg_sld dL_law_1203 ?_
                                                          refine mw_callV (t_X12_wires X l (xs (y3 + (1 : Int32)).toNatClampNeg) (xs (y3 + (2 : Int32)).toNatClampNeg) (xs (y3 + (3 : Int32)).toNatClampNeg) S153) cd_X12_wires lk_RL_130 im_X12_wires se_X12_wires in_RX12 de_X12_wires ⟨rfl, rfl⟩ ⟨Nat.le_of_ble_eq_true rfl, Nat.le_of_ble_eq_true rfl⟩ (mKind_lt mk_69 (by decide)) (mCell_k mk_69) rfl rfl rfl rfl ⟨Nat.le_of_ble_eq_true rfl, Nat.le_of_ble_eq_true rfl⟩ (Nat.le_of_ble_eq_true rfl) dL_law_1204 (fun r154 S155 => ?_)
                                                          refine mw_eq (st' := [.int r154, .int r152]) rfl rfl ?_
                                                          refine mw_icmp_eq (tgt := 1281) dL_law_1207 (by decide) ?_ ?_
                                                          · refine mw_iincB (lvf := fun x156 => [(3, .int x156), (0, .ref b), (1, .ref (X.2.1 0)), (2, .ref (X.2.1 69))]) (k := 3) dL_law_1281 rfl (by decide) (by decide) (fun _ => rfl) (fun x156 => ?_)
                                                            refine mw_goto (tgt := 18) dL_law_1284 (by decide) ?_
                                                            exact mw_sub [1, 2, 3, 0] rfl (ih x156 S155)
                                                          · refine mw_iconst (v := (0 : Int32)) dL_law_1210 (by decide) ?_
                                                            exact mw_none
                                                        · refine mw_ite (fun h157 => ?_) (fun h157 => ?_)
                                                          · refine mw_tab (tgt := 1212) h157 dL_law_33 (by decide) (by decide) rfl (by decide) ?_
                                                            refine mw_aload_n 1 dL_law_1212 rfl rfl ?_
                                                            refine mw_aload_n 0 dL_law_1213 rfl rfl ?_
                                                            refine mw_iload_n 3 dL_law_1214 rfl rfl ?_
                                                            refine mw_iconst (v := (1 : Int32)) dL_law_1215 (by decide) ?_
                                                            refine mw_iadd dL_law_1216 ?_
                                                            refine mg_sld dL_law_1217 ?_
                                                            refine mw_callV (t_X11_got X l (xs (y3 + (1 : Int32)).toNatClampNeg) S) cd_X11_got lk_RL_131 im_X11_got se_X11_got in_RX11 de_X11_got ⟨rfl, rfl⟩ ⟨Nat.le_of_ble_eq_true rfl, Nat.le_of_ble_eq_true rfl⟩ (mKind_lt mk_0 (by decide)) (mCell_k mk_0) rfl rfl rfl rfl ⟨Nat.le_of_ble_eq_true rfl, Nat.le_of_ble_eq_true rfl⟩ (Nat.le_of_ble_eq_true rfl) dL_law_1218 (fun r158 S159 => ?_)
                                                            refine mw_eq (st' := [.int r158]) rfl rfl ?_
                                                            refine mw_aload_n 2 dL_law_1221 rfl rfl ?_
                                                            refine mw_aload_n 0 dL_law_1222 rfl rfl ?_
                                                            refine mw_iload_n 3 dL_law_1223 rfl rfl ?_
                                                            refine mw_iconst (v := (1 : Int32)) dL_law_1224 (by decide) ?_
                                                            refine mw_iadd dL_law_1225 ?_
                                                            refine mg_sld dL_law_1226 ?_
                                                            refine mw_callV (t_X12_got X l (xs (y3 + (1 : Int32)).toNatClampNeg) S159) cd_X12_got lk_RL_134 im_X12_got se_X12_got in_RX12 de_X12_got ⟨rfl, rfl⟩ ⟨Nat.le_of_ble_eq_true rfl, Nat.le_of_ble_eq_true rfl⟩ (mKind_lt mk_69 (by decide)) (mCell_k mk_69) rfl rfl rfl rfl ⟨Nat.le_of_ble_eq_true rfl, Nat.le_of_ble_eq_true rfl⟩ (Nat.le_of_ble_eq_true rfl) dL_law_1227 (fun r160 S161 => ?_)
                                                            refine mw_eq (st' := [.int r160, .int r158]) rfl rfl ?_
                                                            refine mw_icmp_eq (tgt := 1281) dL_law_1230 (by decide) ?_ ?_
                                                            · refine mw_iincB (lvf := fun x162 => [(3, .int x162), (0, .ref b), (1, .ref (X.2.1 0)), (2, .ref (X.2.1 69))]) (k := 3) dL_law_1281 rfl (by decide) (by decide) (fun _ => rfl) (fun x162 => ?_)
                                                              refine mw_goto (tgt := 18) dL_law_1284 (by decide) ?_
                                                              exact mw_sub [1, 2, 3, 0] rfl (ih x162 S161)
                                                            · refine mw_iconst (v := (0 : Int32)) dL_law_1233 (by decide) ?_
                                                              exact mw_none
                                                          · refine mw_ite (fun h163 => ?_) (fun h163 => ?_)
                                                            · refine mw_tab (tgt := 1235) h163 dL_law_33 (by decide) (by decide) rfl (by decide) ?_
                                                              refine mw_aload_n 1 dL_law_1235 rfl rfl ?_
                                                              refine mw_aload_n 0 dL_law_1236 rfl rfl ?_
                                                              refine mw_iload_n 3 dL_law_1237 rfl rfl ?_
                                                              refine mw_iconst (v := (1 : Int32)) dL_law_1238 (by decide) ?_
                                                              refine mw_iadd dL_law_1239 ?_
                                                              refine mg_sld dL_law_1240 ?_
                                                              refine mw_callV (t_X11_when X l (xs (y3 + (1 : Int32)).toNatClampNeg) S) cd_X11_when lk_RL_135 im_X11_when se_X11_when in_RX11 de_X11_when ⟨rfl, rfl⟩ ⟨Nat.le_of_ble_eq_true rfl, Nat.le_of_ble_eq_true rfl⟩ (mKind_lt mk_0 (by decide)) (mCell_k mk_0) rfl rfl rfl rfl ⟨Nat.le_of_ble_eq_true rfl, Nat.le_of_ble_eq_true rfl⟩ (Nat.le_of_ble_eq_true rfl) dL_law_1241 (fun r164 S165 => ?_)
                                                              refine mw_eq (st' := [.int r164]) rfl rfl ?_
                                                              refine mw_aload_n 2 dL_law_1244 rfl rfl ?_
                                                              refine mw_aload_n 0 dL_law_1245 rfl rfl ?_
                                                              refine mw_iload_n 3 dL_law_1246 rfl rfl ?_
                                                              refine mw_iconst (v := (1 : Int32)) dL_law_1247 (by decide) ?_
                                                              refine mw_iadd dL_law_1248 ?_
                                                              refine mg_sld dL_law_1249 ?_
                                                              refine mw_callV (t_X12_when X l (xs (y3 + (1 : Int32)).toNatClampNeg) S165) cd_X12_when lk_RL_138 im_X12_when se_X12_when in_RX12 de_X12_when ⟨rfl, rfl⟩ ⟨Nat.le_of_ble_eq_true rfl, Nat.le_of_ble_eq_true rfl⟩ (mKind_lt mk_69 (by decide)) (mCell_k mk_69) rfl rfl rfl rfl ⟨Nat.le_of_ble_eq_true rfl, Nat.le_of_ble_eq_true rfl⟩ (Nat.le_of_ble_eq_true rfl) dL_law_1250 (fun r166 S167 => ?_)
                                                              refine mw_eq (st' := [.int r166, .int r164]) rfl rfl ?_
                                                              refine mw_icmp_eq (tgt := 1281) dL_law_1253 (by decide) ?_ ?_
                                                              · refine mw_iincB (lvf := fun x168 => [(3, .int x168), (0, .ref b), (1, .ref (X.2.1 0)), (2, .ref (X.2.1 69))]) (k := 3) dL_law_1281 rfl (by decide) (by decide) (fun _ => rfl) (fun x168 => ?_)
                                                                refine mw_goto (tgt := 18) dL_law_1284 (by decide) ?_
                                                                exact mw_sub [1, 2, 3, 0] rfl (ih x168 S167)
                                                              · refine mw_iconst (v := (0 : Int32)) dL_law_1256 (by decide) ?_
                                                                exact mw_none
                                                            · refine mw_ite (fun h169 => ?_) (fun h169 => ?_)
                                                              · refine mw_tab (tgt := 1258) h169 dL_law_33 (by decide) (by decide) rfl (by decide) ?_
                                                                refine mw_aload_n 1 dL_law_1258 rfl rfl ?_
                                                                refine mw_aload_n 0 dL_law_1259 rfl rfl ?_
                                                                refine mw_iload_n 3 dL_law_1260 rfl rfl ?_
                                                                refine mw_iconst (v := (1 : Int32)) dL_law_1261 (by decide) ?_
                                                                refine mw_iadd dL_law_1262 ?_
                                                                refine mg_sld dL_law_1263 ?_
                                                                refine mw_callV (t_X11_frame X l (xs (y3 + (1 : Int32)).toNatClampNeg) S) cd_X11_frame lk_RL_139 im_X11_frame se_X11_frame in_RX11 de_X11_frame ⟨rfl, rfl⟩ ⟨Nat.le_of_ble_eq_true rfl, Nat.le_of_ble_eq_true rfl⟩ (mKind_lt mk_0 (by decide)) (mCell_k mk_0) rfl rfl rfl rfl ⟨Nat.le_of_ble_eq_true rfl, Nat.le_of_ble_eq_true rfl⟩ (Nat.le_of_ble_eq_true rfl) dL_law_1264 (fun r170 S171 => ?_)
                                                                refine mw_eq (st' := [.int r170]) rfl rfl ?_
                                                                refine mw_aload_n 2 dL_law_1267 rfl rfl ?_
                                                                refine mw_aload_n 0 dL_law_1268 rfl rfl ?_
                                                                refine mw_iload_n 3 dL_law_1269 rfl rfl ?_
                                                                refine mw_iconst (v := (1 : Int32)) dL_law_1270 (by decide) ?_
                                                                refine mw_iadd dL_law_1271 ?_
                                                                refine mg_sld dL_law_1272 ?_
                                                                refine mw_callV (t_X12_frame X l (xs (y3 + (1 : Int32)).toNatClampNeg) S171) cd_X12_frame lk_RL_142 im_X12_frame se_X12_frame in_RX12 de_X12_frame ⟨rfl, rfl⟩ ⟨Nat.le_of_ble_eq_true rfl, Nat.le_of_ble_eq_true rfl⟩ (mKind_lt mk_69 (by decide)) (mCell_k mk_69) rfl rfl rfl rfl ⟨Nat.le_of_ble_eq_true rfl, Nat.le_of_ble_eq_true rfl⟩ (Nat.le_of_ble_eq_true rfl) dL_law_1273 (fun r172 S173 => ?_)
                                                                refine mw_eq (st' := [.int r172, .int r170]) rfl rfl ?_
                                                                refine mw_icmp_eq (tgt := 1281) dL_law_1276 (by decide) ?_ ?_
                                                                · refine mw_iincB (lvf := fun x174 => [(3, .int x174), (0, .ref b), (1, .ref (X.2.1 0)), (2, .ref (X.2.1 69))]) (k := 3) dL_law_1281 rfl (by decide) (by decide) (fun _ => rfl) (fun x174 => ?_)
                                                                  refine mw_goto (tgt := 18) dL_law_1284 (by decide) ?_
                                                                  exact mw_sub [1, 2, 3, 0] rfl (ih x174 S173)
                                                                · refine mw_iconst (v := (0 : Int32)) dL_law_1279 (by decide) ?_
                                                                  exact mw_none
                                                              · refine mw_tabD (tgt := 1281) dL_law_33 (by have eh1 : ¬ ((xs y3.toNatClampNeg) &&& (31 : Int32)).toInt = 0 := fun q => h1 (Int32.toInt_inj.mp (q.trans (by decide))); have eh7 : ¬ ((xs y3.toNatClampNeg) &&& (31 : Int32)).toInt = 1 := fun q => h7 (Int32.toInt_inj.mp (q.trans (by decide))); have eh13 : ¬ ((xs y3.toNatClampNeg) &&& (31 : Int32)).toInt = 2 := fun q => h13 (Int32.toInt_inj.mp (q.trans (by decide))); have eh19 : ¬ ((xs y3.toNatClampNeg) &&& (31 : Int32)).toInt = 3 := fun q => h19 (Int32.toInt_inj.mp (q.trans (by decide))); have eh25 : ¬ ((xs y3.toNatClampNeg) &&& (31 : Int32)).toInt = 4 := fun q => h25 (Int32.toInt_inj.mp (q.trans (by decide))); have eh31 : ¬ ((xs y3.toNatClampNeg) &&& (31 : Int32)).toInt = 5 := fun q => h31 (Int32.toInt_inj.mp (q.trans (by decide))); have eh37 : ¬ ((xs y3.toNatClampNeg) &&& (31 : Int32)).toInt = 6 := fun q => h37 (Int32.toInt_inj.mp (q.trans (by decide))); have eh43 : ¬ ((xs y3.toNatClampNeg) &&& (31 : Int32)).toInt = 7 := fun q => h43 (Int32.toInt_inj.mp (q.trans (by decide))); have eh49 : ¬ ((xs y3.toNatClampNeg) &&& (31 : Int32)).toInt = 8 := fun q => h49 (Int32.toInt_inj.mp (q.trans (by decide))); have eh55 : ¬ ((xs y3.toNatClampNeg) &&& (31 : Int32)).toInt = 9 := fun q => h55 (Int32.toInt_inj.mp (q.trans (by decide))); have eh61 : ¬ ((xs y3.toNatClampNeg) &&& (31 : Int32)).toInt = 10 := fun q => h61 (Int32.toInt_inj.mp (q.trans (by decide))); have eh67 : ¬ ((xs y3.toNatClampNeg) &&& (31 : Int32)).toInt = 11 := fun q => h67 (Int32.toInt_inj.mp (q.trans (by decide))); have eh73 : ¬ ((xs y3.toNatClampNeg) &&& (31 : Int32)).toInt = 12 := fun q => h73 (Int32.toInt_inj.mp (q.trans (by decide))); have eh79 : ¬ ((xs y3.toNatClampNeg) &&& (31 : Int32)).toInt = 13 := fun q => h79 (Int32.toInt_inj.mp (q.trans (by decide))); have eh85 : ¬ ((xs y3.toNatClampNeg) &&& (31 : Int32)).toInt = 14 := fun q => h85 (Int32.toInt_inj.mp (q.trans (by decide))); have eh91 : ¬ ((xs y3.toNatClampNeg) &&& (31 : Int32)).toInt = 15 := fun q => h91 (Int32.toInt_inj.mp (q.trans (by decide))); have eh97 : ¬ ((xs y3.toNatClampNeg) &&& (31 : Int32)).toInt = 16 := fun q => h97 (Int32.toInt_inj.mp (q.trans (by decide))); have eh103 : ¬ ((xs y3.toNatClampNeg) &&& (31 : Int32)).toInt = 17 := fun q => h103 (Int32.toInt_inj.mp (q.trans (by decide))); have eh109 : ¬ ((xs y3.toNatClampNeg) &&& (31 : Int32)).toInt = 18 := fun q => h109 (Int32.toInt_inj.mp (q.trans (by decide))); have eh115 : ¬ ((xs y3.toNatClampNeg) &&& (31 : Int32)).toInt = 19 := fun q => h115 (Int32.toInt_inj.mp (q.trans (by decide))); have eh121 : ¬ ((xs y3.toNatClampNeg) &&& (31 : Int32)).toInt = 20 := fun q => h121 (Int32.toInt_inj.mp (q.trans (by decide))); have eh127 : ¬ ((xs y3.toNatClampNeg) &&& (31 : Int32)).toInt = 21 := fun q => h127 (Int32.toInt_inj.mp (q.trans (by decide))); have eh133 : ¬ ((xs y3.toNatClampNeg) &&& (31 : Int32)).toInt = 22 := fun q => h133 (Int32.toInt_inj.mp (q.trans (by decide))); have eh139 : ¬ ((xs y3.toNatClampNeg) &&& (31 : Int32)).toInt = 23 := fun q => h139 (Int32.toInt_inj.mp (q.trans (by decide))); have eh145 : ¬ ((xs y3.toNatClampNeg) &&& (31 : Int32)).toInt = 24 := fun q => h145 (Int32.toInt_inj.mp (q.trans (by decide))); have eh151 : ¬ ((xs y3.toNatClampNeg) &&& (31 : Int32)).toInt = 25 := fun q => h151 (Int32.toInt_inj.mp (q.trans (by decide))); have eh157 : ¬ ((xs y3.toNatClampNeg) &&& (31 : Int32)).toInt = 26 := fun q => h157 (Int32.toInt_inj.mp (q.trans (by decide))); have eh163 : ¬ ((xs y3.toNatClampNeg) &&& (31 : Int32)).toInt = 27 := fun q => h163 (Int32.toInt_inj.mp (q.trans (by decide))); have eh169 : ¬ ((xs y3.toNatClampNeg) &&& (31 : Int32)).toInt = 28 := fun q => h169 (Int32.toInt_inj.mp (q.trans (by decide))); omega) (by decide) ?_
                                                                refine mw_iincB (lvf := fun x175 => [(3, .int x175), (0, .ref b), (1, .ref (X.2.1 0)), (2, .ref (X.2.1 69))]) (k := 3) dL_law_1281 rfl (by decide) (by decide) (fun _ => rfl) (fun x175 => ?_)
                                                                refine mw_goto (tgt := 18) dL_law_1284 (by decide) ?_
                                                                exact mw_sub [1, 2, 3, 0] rfl (ih x175 S)
