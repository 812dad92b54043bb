section
-- ===== PART A: goes FIRST, ahead of the names: the tables' words, and 'selects' of the private methods out of them =====
/-- a private method of a class that the tables say can be made, by its rows of tables_1 -/
def lw_okq (q : MethodName × Nat) : Prop := (q.1.cls ≠ "java/lang/invoke/MethodHandle" ∧ q.1.cls ≠ "java/lang/invoke/VarHandle") ∧ Cond.instantiable q.1.cls q.2 ∈ tables_1 ∧ Cond.privateMethod q.1 ∈ tables_1 ∧ Cond.instanceMethod q.1 ∈ tables_1
theorem lw_p0 : lw_okq (⟨"HammockReach", "finds", "(I)I"⟩, 10) := ⟨⟨by decide +kernel, by decide +kernel⟩, List.mem_of_getElem? (i := 12) (by decide +kernel), List.mem_of_getElem? (i := 218) (by decide +kernel), List.mem_of_getElem? (i := 219) (by decide +kernel)⟩
theorem lw_p1 : lw_okq (⟨"HammockReach$Tape", "readLaw", "(LHammockReach$Forest;)Z"⟩, 4) := ⟨⟨by decide +kernel, by decide +kernel⟩, List.mem_of_getElem? (i := 22) (by decide +kernel), List.mem_of_getElem? (i := 267) (by decide +kernel), List.mem_of_getElem? (i := 268) (by decide +kernel)⟩
theorem lw_p2 : lw_okq (⟨"HammockReach$Tape", "readSign", "(I)Z"⟩, 4) := ⟨⟨by decide +kernel, by decide +kernel⟩, List.mem_of_getElem? (i := 22) (by decide +kernel), List.mem_of_getElem? (i := 271) (by decide +kernel), List.mem_of_getElem? (i := 272) (by decide +kernel)⟩
theorem lw_p3 : lw_okq (⟨"HammockReach$Tape", "byteAt", "(I)I"⟩, 4) := ⟨⟨by decide +kernel, by decide +kernel⟩, List.mem_of_getElem? (i := 22) (by decide +kernel), List.mem_of_getElem? (i := 275) (by decide +kernel), List.mem_of_getElem? (i := 276) (by decide +kernel)⟩
theorem lw_p4 : lw_okq (⟨"HammockReach$Tape", "refuse", "(I)Z"⟩, 4) := ⟨⟨by decide +kernel, by decide +kernel⟩, List.mem_of_getElem? (i := 22) (by decide +kernel), List.mem_of_getElem? (i := 280) (by decide +kernel), List.mem_of_getElem? (i := 281) (by decide +kernel)⟩
theorem lw_p5 : lw_okq (⟨"HammockReach$Tape", "readNumber", "(II)I"⟩, 4) := ⟨⟨by decide +kernel, by decide +kernel⟩, List.mem_of_getElem? (i := 22) (by decide +kernel), List.mem_of_getElem? (i := 284) (by decide +kernel), List.mem_of_getElem? (i := 285) (by decide +kernel)⟩
theorem lw_p6 : lw_okq (⟨"HammockReach$Tape", "readHammock", "(LHammockReach$Forest;)Z"⟩, 4) := ⟨⟨by decide +kernel, by decide +kernel⟩, List.mem_of_getElem? (i := 22) (by decide +kernel), List.mem_of_getElem? (i := 291) (by decide +kernel), List.mem_of_getElem? (i := 292) (by decide +kernel)⟩
theorem lw_p7 : lw_okq (⟨"HammockReach$Tape", "readTrees", "(LHammockReach$Forest;I)Z"⟩, 4) := ⟨⟨by decide +kernel, by decide +kernel⟩, List.mem_of_getElem? (i := 22) (by decide +kernel), List.mem_of_getElem? (i := 298) (by decide +kernel), List.mem_of_getElem? (i := 299) (by decide +kernel)⟩
theorem lw_p8 : lw_okq (⟨"HammockReach$Tape", "readLoad", "(LHammockReach$Forest;I)Z"⟩, 4) := ⟨⟨by decide +kernel, by decide +kernel⟩, List.mem_of_getElem? (i := 22) (by decide +kernel), List.mem_of_getElem? (i := 302) (by decide +kernel), List.mem_of_getElem? (i := 303) (by decide +kernel)⟩
theorem lw_p9 : lw_okq (⟨"HammockReach", "isHammock", "(I)Z"⟩, 10) := ⟨⟨by decide +kernel, by decide +kernel⟩, List.mem_of_getElem? (i := 12) (by decide +kernel), List.mem_of_getElem? (i := 349) (by decide +kernel), List.mem_of_getElem? (i := 350) (by decide +kernel)⟩
theorem lw_p10 : lw_okq (⟨"HammockReach$Forest", "offset", "(II)I"⟩, 11) := ⟨⟨by decide +kernel, by decide +kernel⟩, List.mem_of_getElem? (i := 46) (by decide +kernel), List.mem_of_getElem? (i := 357) (by decide +kernel), List.mem_of_getElem? (i := 358) (by decide +kernel)⟩
theorem lw_p11 : lw_okq (⟨"HammockReach", "areTwo", "(II)Z"⟩, 10) := ⟨⟨by decide +kernel, by decide +kernel⟩, List.mem_of_getElem? (i := 12) (by decide +kernel), List.mem_of_getElem? (i := 421) (by decide +kernel), List.mem_of_getElem? (i := 422) (by decide +kernel)⟩
theorem lw_p12 : lw_okq (⟨"HammockReach$Outlook", "link", "(LHammockReach$Forest;II)V"⟩, 4) := ⟨⟨by decide +kernel, by decide +kernel⟩, List.mem_of_getElem? (i := 139) (by decide +kernel), List.mem_of_getElem? (i := 437) (by decide +kernel), List.mem_of_getElem? (i := 438) (by decide +kernel)⟩
theorem lw_p13 : lw_okq (⟨"HammockReach$Outlook", "spread", "(III)I"⟩, 4) := ⟨⟨by decide +kernel, by decide +kernel⟩, List.mem_of_getElem? (i := 139) (by decide +kernel), List.mem_of_getElem? (i := 446) (by decide +kernel), List.mem_of_getElem? (i := 447) (by decide +kernel)⟩
theorem lw_p14 : lw_okq (⟨"HammockReach", "fittingKinds", "(ILHammockReach$Row;II)I"⟩, 10) := ⟨⟨by decide +kernel, by decide +kernel⟩, List.mem_of_getElem? (i := 12) (by decide +kernel), List.mem_of_getElem? (i := 483) (by decide +kernel), List.mem_of_getElem? (i := 484) (by decide +kernel)⟩
theorem lw_p15 : lw_okq (⟨"HammockReach", "wasThere", "(ILHammockReach$Row;II)Z"⟩, 10) := ⟨⟨by decide +kernel, by decide +kernel⟩, List.mem_of_getElem? (i := 12) (by decide +kernel), List.mem_of_getElem? (i := 487) (by decide +kernel), List.mem_of_getElem? (i := 488) (by decide +kernel)⟩
def lw_privs_1 : List (MethodName × Nat) := [(⟨"HammockReach", "finds", "(I)I"⟩, 10), (⟨"HammockReach$Tape", "readLaw", "(LHammockReach$Forest;)Z"⟩, 4), (⟨"HammockReach$Tape", "readSign", "(I)Z"⟩, 4), (⟨"HammockReach$Tape", "byteAt", "(I)I"⟩, 4), (⟨"HammockReach$Tape", "refuse", "(I)Z"⟩, 4), (⟨"HammockReach$Tape", "readNumber", "(II)I"⟩, 4), (⟨"HammockReach$Tape", "readHammock", "(LHammockReach$Forest;)Z"⟩, 4), (⟨"HammockReach$Tape", "readTrees", "(LHammockReach$Forest;I)Z"⟩, 4), (⟨"HammockReach$Tape", "readLoad", "(LHammockReach$Forest;I)Z"⟩, 4), (⟨"HammockReach", "isHammock", "(I)Z"⟩, 10), (⟨"HammockReach$Forest", "offset", "(II)I"⟩, 11), (⟨"HammockReach", "areTwo", "(II)Z"⟩, 10), (⟨"HammockReach$Outlook", "link", "(LHammockReach$Forest;II)V"⟩, 4), (⟨"HammockReach$Outlook", "spread", "(III)I"⟩, 4), (⟨"HammockReach", "fittingKinds", "(ILHammockReach$Row;II)I"⟩, 10), (⟨"HammockReach", "wasThere", "(ILHammockReach$Row;II)Z"⟩, 10)]
theorem lw_r1 : ∀ q ∈ lw_privs_1, lw_okq q := List.forall_mem_cons.mpr ⟨lw_p0, List.forall_mem_cons.mpr ⟨lw_p1, List.forall_mem_cons.mpr ⟨lw_p2, List.forall_mem_cons.mpr ⟨lw_p3, List.forall_mem_cons.mpr ⟨lw_p4, List.forall_mem_cons.mpr ⟨lw_p5, List.forall_mem_cons.mpr ⟨lw_p6, List.forall_mem_cons.mpr ⟨lw_p7, List.forall_mem_cons.mpr ⟨lw_p8, List.forall_mem_cons.mpr ⟨lw_p9, List.forall_mem_cons.mpr ⟨lw_p10, List.forall_mem_cons.mpr ⟨lw_p11, List.forall_mem_cons.mpr ⟨lw_p12, List.forall_mem_cons.mpr ⟨lw_p13, List.forall_mem_cons.mpr ⟨lw_p14, List.forall_mem_cons.mpr ⟨lw_p15, fun _ h => absurd h List.not_mem_nil⟩⟩⟩⟩⟩⟩⟩⟩⟩⟩⟩⟩⟩⟩⟩⟩
theorem lw_p16 : lw_okq (⟨"HammockReach", "fittingSwings", "(ILHammockReach$Row;II)I"⟩, 10) := ⟨⟨by decide +kernel, by decide +kernel⟩, List.mem_of_getElem? (i := 12) (by decide +kernel), List.mem_of_getElem? (i := 491) (by decide +kernel), List.mem_of_getElem? (i := 492) (by decide +kernel)⟩
theorem lw_p17 : lw_okq (⟨"HammockReach", "fittingWeights", "(ILHammockReach$Row;II)I"⟩, 10) := ⟨⟨by decide +kernel, by decide +kernel⟩, List.mem_of_getElem? (i := 12) (by decide +kernel), List.mem_of_getElem? (i := 495) (by decide +kernel), List.mem_of_getElem? (i := 496) (by decide +kernel)⟩
theorem lw_p18 : lw_okq (⟨"HammockReach", "wasReached", "(ILHammockReach$Row;II)Z"⟩, 10) := ⟨⟨by decide +kernel, by decide +kernel⟩, List.mem_of_getElem? (i := 12) (by decide +kernel), List.mem_of_getElem? (i := 499) (by decide +kernel), List.mem_of_getElem? (i := 500) (by decide +kernel)⟩
theorem lw_p19 : lw_okq (⟨"HammockReach", "partsOf", "(II)I"⟩, 10) := ⟨⟨by decide +kernel, by decide +kernel⟩, List.mem_of_getElem? (i := 12) (by decide +kernel), List.mem_of_getElem? (i := 507) (by decide +kernel), List.mem_of_getElem? (i := 508) (by decide +kernel)⟩
theorem lw_p20 : lw_okq (⟨"HammockReach", "partsOfAll", "()I"⟩, 10) := ⟨⟨by decide +kernel, by decide +kernel⟩, List.mem_of_getElem? (i := 12) (by decide +kernel), List.mem_of_getElem? (i := 511) (by decide +kernel), List.mem_of_getElem? (i := 512) (by decide +kernel)⟩
theorem lw_p21 : lw_okq (⟨"HammockReach", "answer", "(III)I"⟩, 10) := ⟨⟨by decide +kernel, by decide +kernel⟩, List.mem_of_getElem? (i := 12) (by decide +kernel), List.mem_of_getElem? (i := 543) (by decide +kernel), List.mem_of_getElem? (i := 544) (by decide +kernel)⟩
theorem lw_p22 : lw_okq (⟨"HammockReach", "body", "(III)I"⟩, 10) := ⟨⟨by decide +kernel, by decide +kernel⟩, List.mem_of_getElem? (i := 12) (by decide +kernel), List.mem_of_getElem? (i := 554) (by decide +kernel), List.mem_of_getElem? (i := 555) (by decide +kernel)⟩
theorem lw_p23 : lw_okq (⟨"HammockReach", "countRows", "()I"⟩, 10) := ⟨⟨by decide +kernel, by decide +kernel⟩, List.mem_of_getElem? (i := 12) (by decide +kernel), List.mem_of_getElem? (i := 566) (by decide +kernel), List.mem_of_getElem? (i := 567) (by decide +kernel)⟩
theorem lw_p24 : lw_okq (⟨"HammockReachModel", "found", "(I)I"⟩, 23) := ⟨⟨by decide +kernel, by decide +kernel⟩, List.mem_of_getElem? (i := 580) (by decide +kernel), List.mem_of_getElem? (i := 670) (by decide +kernel), List.mem_of_getElem? (i := 671) (by decide +kernel)⟩
theorem lw_p25 : lw_okq (⟨"HammockReachModel", "well", "(I)I"⟩, 23) := ⟨⟨by decide +kernel, by decide +kernel⟩, List.mem_of_getElem? (i := 580) (by decide +kernel), List.mem_of_getElem? (i := 675) (by decide +kernel), List.mem_of_getElem? (i := 676) (by decide +kernel)⟩
theorem lw_p26 : lw_okq (⟨"HammockReachModel", "reads", "()Z"⟩, 23) := ⟨⟨by decide +kernel, by decide +kernel⟩, List.mem_of_getElem? (i := 580) (by decide +kernel), List.mem_of_getElem? (i := 701) (by decide +kernel), List.mem_of_getElem? (i := 702) (by decide +kernel)⟩
theorem lw_p27 : lw_okq (⟨"HammockReachModel", "step", "()V"⟩, 23) := ⟨⟨by decide +kernel, by decide +kernel⟩, List.mem_of_getElem? (i := 580) (by decide +kernel), List.mem_of_getElem? (i := 705) (by decide +kernel), List.mem_of_getElem? (i := 706) (by decide +kernel)⟩
theorem lw_p28 : lw_okq (⟨"HammockReachModel", "here", "()I"⟩, 23) := ⟨⟨by decide +kernel, by decide +kernel⟩, List.mem_of_getElem? (i := 580) (by decide +kernel), List.mem_of_getElem? (i := 709) (by decide +kernel), List.mem_of_getElem? (i := 710) (by decide +kernel)⟩
theorem lw_p29 : lw_okq (⟨"HammockReachModel", "fails", "(I)Z"⟩, 23) := ⟨⟨by decide +kernel, by decide +kernel⟩, List.mem_of_getElem? (i := 580) (by decide +kernel), List.mem_of_getElem? (i := 717) (by decide +kernel), List.mem_of_getElem? (i := 718) (by decide +kernel)⟩
theorem lw_p30 : lw_okq (⟨"HammockReachModel", "number", "(IIII)Z"⟩, 23) := ⟨⟨by decide +kernel, by decide +kernel⟩, List.mem_of_getElem? (i := 580) (by decide +kernel), List.mem_of_getElem? (i := 721) (by decide +kernel), List.mem_of_getElem? (i := 722) (by decide +kernel)⟩
theorem lw_p31 : lw_okq (⟨"HammockReachModel", "readsHammock", "()Z"⟩, 23) := ⟨⟨by decide +kernel, by decide +kernel⟩, List.mem_of_getElem? (i := 580) (by decide +kernel), List.mem_of_getElem? (i := 725) (by decide +kernel), List.mem_of_getElem? (i := 726) (by decide +kernel)⟩
def lw_privs_2 : List (MethodName × Nat) := [(⟨"HammockReach", "fittingSwings", "(ILHammockReach$Row;II)I"⟩, 10), (⟨"HammockReach", "fittingWeights", "(ILHammockReach$Row;II)I"⟩, 10), (⟨"HammockReach", "wasReached", "(ILHammockReach$Row;II)Z"⟩, 10), (⟨"HammockReach", "partsOf", "(II)I"⟩, 10), (⟨"HammockReach", "partsOfAll", "()I"⟩, 10), (⟨"HammockReach", "answer", "(III)I"⟩, 10), (⟨"HammockReach", "body", "(III)I"⟩, 10), (⟨"HammockReach", "countRows", "()I"⟩, 10), (⟨"HammockReachModel", "found", "(I)I"⟩, 23), (⟨"HammockReachModel", "well", "(I)I"⟩, 23), (⟨"HammockReachModel", "reads", "()Z"⟩, 23), (⟨"HammockReachModel", "step", "()V"⟩, 23), (⟨"HammockReachModel", "here", "()I"⟩, 23), (⟨"HammockReachModel", "fails", "(I)Z"⟩, 23), (⟨"HammockReachModel", "number", "(IIII)Z"⟩, 23), (⟨"HammockReachModel", "readsHammock", "()Z"⟩, 23)]
theorem lw_r2 : ∀ q ∈ lw_privs_2, lw_okq q := List.forall_mem_cons.mpr ⟨lw_p16, List.forall_mem_cons.mpr ⟨lw_p17, List.forall_mem_cons.mpr ⟨lw_p18, List.forall_mem_cons.mpr ⟨lw_p19, List.forall_mem_cons.mpr ⟨lw_p20, List.forall_mem_cons.mpr ⟨lw_p21, List.forall_mem_cons.mpr ⟨lw_p22, List.forall_mem_cons.mpr ⟨lw_p23, List.forall_mem_cons.mpr ⟨lw_p24, List.forall_mem_cons.mpr ⟨lw_p25, List.forall_mem_cons.mpr ⟨lw_p26, List.forall_mem_cons.mpr ⟨lw_p27, List.forall_mem_cons.mpr ⟨lw_p28, List.forall_mem_cons.mpr ⟨lw_p29, List.forall_mem_cons.mpr ⟨lw_p30, List.forall_mem_cons.mpr ⟨lw_p31, fun _ h => absurd h List.not_mem_nil⟩⟩⟩⟩⟩⟩⟩⟩⟩⟩⟩⟩⟩⟩⟩⟩
theorem lw_p32 : lw_okq (⟨"HammockReachModel", "isForest", "()Z"⟩, 23) := ⟨⟨by decide +kernel, by decide +kernel⟩, List.mem_of_getElem? (i := 580) (by decide +kernel), List.mem_of_getElem? (i := 744) (by decide +kernel), List.mem_of_getElem? (i := 745) (by decide +kernel)⟩
theorem lw_p33 : lw_okq (⟨"HammockReachModel", "remember", "()V"⟩, 23) := ⟨⟨by decide +kernel, by decide +kernel⟩, List.mem_of_getElem? (i := 580) (by decide +kernel), List.mem_of_getElem? (i := 750) (by decide +kernel), List.mem_of_getElem? (i := 751) (by decide +kernel)⟩
theorem lw_p34 : lw_okq (⟨"HammockReachModel", "isHammock", "(I)Z"⟩, 23) := ⟨⟨by decide +kernel, by decide +kernel⟩, List.mem_of_getElem? (i := 580) (by decide +kernel), List.mem_of_getElem? (i := 770) (by decide +kernel), List.mem_of_getElem? (i := 771) (by decide +kernel)⟩
theorem lw_p35 : lw_okq (⟨"HammockReachModel", "layAside", "()V"⟩, 23) := ⟨⟨by decide +kernel, by decide +kernel⟩, List.mem_of_getElem? (i := 580) (by decide +kernel), List.mem_of_getElem? (i := 854) (by decide +kernel), List.mem_of_getElem? (i := 855) (by decide +kernel)⟩
theorem lw_p36 : lw_okq (⟨"HammockReachModel", "mark", "(I)I"⟩, 23) := ⟨⟨by decide +kernel, by decide +kernel⟩, List.mem_of_getElem? (i := 580) (by decide +kernel), List.mem_of_getElem? (i := 896) (by decide +kernel), List.mem_of_getElem? (i := 897) (by decide +kernel)⟩
theorem lw_p37 : lw_okq (⟨"HammockReachModel", "leave", "(J)V"⟩, 23) := ⟨⟨by decide +kernel, by decide +kernel⟩, List.mem_of_getElem? (i := 580) (by decide +kernel), List.mem_of_getElem? (i := 903) (by decide +kernel), List.mem_of_getElem? (i := 904) (by decide +kernel)⟩
theorem lw_p38 : lw_okq (⟨"HammockReachModel", "sizeOf", "(I)I"⟩, 23) := ⟨⟨by decide +kernel, by decide +kernel⟩, List.mem_of_getElem? (i := 580) (by decide +kernel), List.mem_of_getElem? (i := 910) (by decide +kernel), List.mem_of_getElem? (i := 911) (by decide +kernel)⟩
def lw_privs_3 : List (MethodName × Nat) := [(⟨"HammockReachModel", "isForest", "()Z"⟩, 23), (⟨"HammockReachModel", "remember", "()V"⟩, 23), (⟨"HammockReachModel", "isHammock", "(I)Z"⟩, 23), (⟨"HammockReachModel", "layAside", "()V"⟩, 23), (⟨"HammockReachModel", "mark", "(I)I"⟩, 23), (⟨"HammockReachModel", "leave", "(J)V"⟩, 23), (⟨"HammockReachModel", "sizeOf", "(I)I"⟩, 23)]
theorem lw_r3 : ∀ q ∈ lw_privs_3, lw_okq q := List.forall_mem_cons.mpr ⟨lw_p32, List.forall_mem_cons.mpr ⟨lw_p33, List.forall_mem_cons.mpr ⟨lw_p34, List.forall_mem_cons.mpr ⟨lw_p35, List.forall_mem_cons.mpr ⟨lw_p36, List.forall_mem_cons.mpr ⟨lw_p37, List.forall_mem_cons.mpr ⟨lw_p38, fun _ h => absurd h List.not_mem_nil⟩⟩⟩⟩⟩⟩⟩
def lw_privs : List (MethodName × Nat) := lw_privs_1 ++ (lw_privs_2 ++ (lw_privs_3))
def lw_tbl : List Cond := k2_sels lw_privs ++ tables_1
theorem lw_privs_ok : ∀ q ∈ lw_privs, lw_okq q := by
  show ∀ q ∈ lw_privs_1 ++ (lw_privs_2 ++ (lw_privs_3)), lw_okq q
  exact List.forall_mem_append.mpr ⟨lw_r1, List.forall_mem_append.mpr ⟨lw_r2, lw_r3⟩⟩
end
section
def RX0 : String := "HammockReach$Acts"
def TX0 : u_T := fun k => match k with
  | 0 => ("HammockReach$Acts", "what", "[I", true)
  | 1 => ("HammockReach$Acts", "whose", "[I", true)
  | 2 => ("HammockReach$Acts", "before", "[I", true)
  | 3 => ("HammockReach$Acts", "beforeToo", "[I", true)
  | 4 => ("HammockReach$Acts", "oldest", "I", false)
  | _ => ("HammockReach$Acts", "kept", "I", false)
def tyX0 : Nat → FieldType := fun k => match k with
  | 0 => .array .int
  | 1 => .array .int
  | 2 => .array .int
  | 3 => .array .int
  | 4 => .int
  | _ => .int
abbrev wsX00 : List Cond := u_ws RX0 TX0 6
theorem nmX0 : ∀ a, a < 6 → ∀ b, b < 6 → a ≠ b → (TX0 a).2.1 ≠ (TX0 b).2.1 := by decide +kernel
theorem tyX0_ok : ∀ k, k < 6 → parseFieldDescriptor (TX0 k).2.2.1 = some (tyX0 k) := by decide +kernel
abbrev cX0_init : ByteArray := prog_2_method_1_code
def yX0_init : MethodName := ⟨RX0, "<init>", "()V"⟩
abbrev cX0_forget : ByteArray := prog_2_method_2_code
def yX0_forget : MethodName := ⟨RX0, "forget", "()V"⟩
abbrev cX0_keep : ByteArray := prog_2_method_3_code
def yX0_keep : MethodName := ⟨RX0, "keep", "(IIII)V"⟩
abbrev cX0_takeBack : ByteArray := prog_2_method_4_code
def yX0_takeBack : MethodName := ⟨RX0, "takeBack", "(LHammockReach$Forest;)V"⟩
def RX1 : String := "HammockReach$Forest"
def TX1 : u_T := fun k => match k with
  | 0 => ("HammockReach$Forest", "sort", "[I", true)
  | 1 => ("HammockReach$Forest", "low", "[I", true)
  | 2 => ("HammockReach$Forest", "top", "[I", true)
  | 3 => ("HammockReach$Forest", "weight", "[I", true)
  | 4 => ("HammockReach$Forest", "swing", "[I", true)
  | 5 => ("HammockReach$Forest", "stands", "Z", false)
  | 6 => ("HammockReach$Forest", "high", "I", false)
  | 7 => ("HammockReach$Forest", "arm", "I", false)
  | 8 => ("HammockReach$Forest", "minute", "I", false)
  | 9 => ("HammockReach$Forest", "size", "I", false)
  | _ => ("HammockReach$Forest", "cut", "I", false)
def tyX1 : Nat → FieldType := fun k => match k with
  | 0 => .array .int
  | 1 => .array .int
  | 2 => .array .int
  | 3 => .array .int
  | 4 => .array .int
  | 5 => .boolean
  | 6 => .int
  | 7 => .int
  | 8 => .int
  | 9 => .int
  | _ => .int
abbrev wsX10 : List Cond := u_ws RX1 TX1 11
theorem nmX1 : ∀ a, a < 11 → ∀ b, b < 11 → a ≠ b → (TX1 a).2.1 ≠ (TX1 b).2.1 := by decide +kernel
theorem tyX1_ok : ∀ k, k < 11 → parseFieldDescriptor (TX1 k).2.2.1 = some (tyX1 k) := by decide +kernel
abbrev cX1_init : ByteArray := prog_3_method_1_code
def yX1_init : MethodName := ⟨RX1, "<init>", "()V"⟩
abbrev cX1_begin : ByteArray := prog_3_method_2_code
def yX1_begin : MethodName := ⟨RX1, "begin", "()V"⟩
abbrev cX1_takeFrom : ByteArray := prog_3_method_3_code
def yX1_takeFrom : MethodName := ⟨RX1, "takeFrom", "(LHammockReach$Forest;)V"⟩
abbrev cX1_isCut : ByteArray := prog_3_method_4_code
def yX1_isCut : MethodName := ⟨RX1, "isCut", "(I)Z"⟩
abbrev cX1_dip : ByteArray := prog_3_method_5_code
def yX1_dip : MethodName := ⟨RX1, "dip", "(II)I"⟩
abbrev cX1_isDown : ByteArray := prog_3_method_6_code
def yX1_isDown : MethodName := ⟨RX1, "isDown", "(II)Z"⟩
abbrev cX1_downBits : ByteArray := prog_3_method_7_code
def yX1_downBits : MethodName := ⟨RX1, "downBits", "(I)I"⟩
abbrev cX1_place : ByteArray := prog_3_method_8_code
def yX1_place : MethodName := ⟨RX1, "place", "(II)I"⟩
abbrev cX1_offset : ByteArray := prog_3_method_9_code
def yX1_offset : MethodName := ⟨RX1, "offset", "(II)I"⟩
abbrev cX1_swung : ByteArray := prog_3_method_10_code
def yX1_swung : MethodName := ⟨RX1, "swung", "(II)I"⟩
abbrev cX1_spot : ByteArray := prog_3_method_11_code
def yX1_spot : MethodName := ⟨RX1, "spot", "(II)I"⟩
abbrev cX1_areNear : ByteArray := prog_3_method_12_code
def yX1_areNear : MethodName := ⟨RX1, "areNear", "(II)Z"⟩
abbrev cX1_nearBits : ByteArray := prog_3_method_13_code
def yX1_nearBits : MethodName := ⟨RX1, "nearBits", "(II)I"⟩
def RX2 : String := "HammockReach$Outlook"
def TX2 : u_T := fun k => match k with
  | 0 => ("HammockReach$Outlook", "spots", "[I", true)
  | 1 => ("HammockReach$Outlook", "near", "[I", true)
  | 2 => ("HammockReach$Outlook", "within", "[I", true)
  | _ => ("HammockReach$Outlook", "size", "I", false)
def tyX2 : Nat → FieldType := fun k => match k with
  | 0 => .array .int
  | 1 => .array .int
  | 2 => .array .int
  | _ => .int
abbrev wsX20 : List Cond := u_ws RX2 TX2 4
theorem nmX2 : ∀ a, a < 4 → ∀ b, b < 4 → a ≠ b → (TX2 a).2.1 ≠ (TX2 b).2.1 := by decide +kernel
theorem tyX2_ok : ∀ k, k < 4 → parseFieldDescriptor (TX2 k).2.2.1 = some (tyX2 k) := by decide +kernel
abbrev cX2_init : ByteArray := prog_4_method_1_code
def yX2_init : MethodName := ⟨RX2, "<init>", "()V"⟩
abbrev cX2_foresee : ByteArray := prog_4_method_2_code
def yX2_foresee : MethodName := ⟨RX2, "foresee", "(LHammockReach$Forest;I)V"⟩
abbrev cX2_foreseeAnew : ByteArray := prog_4_method_3_code
def yX2_foreseeAnew : MethodName := ⟨RX2, "foreseeAnew", "(LHammockReach$Forest;II)V"⟩
abbrev cX2_link : ByteArray := prog_4_method_4_code
def yX2_link : MethodName := ⟨RX2, "link", "(LHammockReach$Forest;II)V"⟩
abbrev cX2_spread : ByteArray := prog_4_method_5_code
def yX2_spread : MethodName := ⟨RX2, "spread", "(III)I"⟩
abbrev cX2_holders : ByteArray := prog_4_method_6_code
def yX2_holders : MethodName := ⟨RX2, "holders", "(II)I"⟩
abbrev cX2_arrival : ByteArray := prog_4_method_7_code
def yX2_arrival : MethodName := ⟨RX2, "arrival", "(IIII)I"⟩
abbrev cX2_fewestHands : ByteArray := prog_4_method_8_code
def yX2_fewestHands : MethodName := ⟨RX2, "fewestHands", "(II)I"⟩
def RX3 : String := "HammockReach$Row"
def TX3 : u_T := fun k => match k with
  | 0 => ("HammockReach$Row", "items", "[I", true)
  | 1 => ("HammockReach$Row", "lane", "I", false)
  | _ => ("HammockReach$Row", "size", "I", false)
def tyX3 : Nat → FieldType := fun k => match k with
  | 0 => .array .int
  | 1 => .int
  | _ => .int
abbrev wsX30 : List Cond := u_ws RX3 TX3 3
theorem nmX3 : ∀ a, a < 3 → ∀ b, b < 3 → a ≠ b → (TX3 a).2.1 ≠ (TX3 b).2.1 := by decide +kernel
theorem tyX3_ok : ∀ k, k < 3 → parseFieldDescriptor (TX3 k).2.2.1 = some (tyX3 k) := by decide +kernel
abbrev cX3_init : ByteArray := prog_5_method_1_code
def yX3_init : MethodName := ⟨RX3, "<init>", "()V"⟩
abbrev cX3_begin : ByteArray := prog_5_method_2_code
def yX3_begin : MethodName := ⟨RX3, "begin", "(II)V"⟩
abbrev cX3_narrowed : ByteArray := prog_5_method_3_code
def yX3_narrowed : MethodName := ⟨RX3, "narrowed", "(I)I"⟩
abbrev cX3_hasSpan : ByteArray := prog_5_method_4_code
def yX3_hasSpan : MethodName := ⟨RX3, "hasSpan", "(II)Z"⟩
def RX4 : String := "HammockReach$Tape"
def TX4 : u_T := fun k => match k with
  | 0 => ("HammockReach$Tape", "bytes", "[I", true)
  | 1 => ("HammockReach$Tape", "length", "I", false)
  | 2 => ("HammockReach$Tape", "at", "I", false)
  | _ => ("HammockReach$Tape", "fault", "I", false)
def tyX4 : Nat → FieldType := fun k => match k with
  | 0 => .array .int
  | 1 => .int
  | 2 => .int
  | _ => .int
abbrev wsX40 : List Cond := u_ws RX4 TX4 4
theorem nmX4 : ∀ a, a < 4 → ∀ b, b < 4 → a ≠ b → (TX4 a).2.1 ≠ (TX4 b).2.1 := by decide +kernel
theorem tyX4_ok : ∀ k, k < 4 → parseFieldDescriptor (TX4 k).2.2.1 = some (tyX4 k) := by decide +kernel
abbrev cX4_init : ByteArray := prog_6_method_1_code
def yX4_init : MethodName := ⟨RX4, "<init>", "()V"⟩
abbrev cX4_readInto : ByteArray := prog_6_method_2_code
def yX4_readInto : MethodName := ⟨RX4, "readInto", "(LHammockReach$Forest;)Z"⟩
abbrev cX4_readLaw : ByteArray := prog_6_method_3_code
def yX4_readLaw : MethodName := ⟨RX4, "readLaw", "(LHammockReach$Forest;)Z"⟩
abbrev cX4_readHammock : ByteArray := prog_6_method_4_code
def yX4_readHammock : MethodName := ⟨RX4, "readHammock", "(LHammockReach$Forest;)Z"⟩
abbrev cX4_readTrees : ByteArray := prog_6_method_5_code
def yX4_readTrees : MethodName := ⟨RX4, "readTrees", "(LHammockReach$Forest;I)Z"⟩
abbrev cX4_readLoad : ByteArray := prog_6_method_6_code
def yX4_readLoad : MethodName := ⟨RX4, "readLoad", "(LHammockReach$Forest;I)Z"⟩
abbrev cX4_readSign : ByteArray := prog_6_method_7_code
def yX4_readSign : MethodName := ⟨RX4, "readSign", "(I)Z"⟩
abbrev cX4_readNumber : ByteArray := prog_6_method_8_code
def yX4_readNumber : MethodName := ⟨RX4, "readNumber", "(II)I"⟩
abbrev cX4_refuse : ByteArray := prog_6_method_9_code
def yX4_refuse : MethodName := ⟨RX4, "refuse", "(I)Z"⟩
abbrev cX4_byteAt : ByteArray := prog_6_method_10_code
def yX4_byteAt : MethodName := ⟨RX4, "byteAt", "(I)I"⟩
abbrev cX4_isFigure : ByteArray := prog_6_method_11_code
def yX4_isFigure : MethodName := ⟨RX4, "isFigure", "(I)Z"⟩
abbrev cX4_sortOf : ByteArray := prog_6_method_12_code
def yX4_sortOf : MethodName := ⟨RX4, "sortOf", "(I)I"⟩
def RX5 : String := "HammockReach"
def TX5 : u_T := fun k => match k with
  | 0 => ("HammockReach", "rows", "[LHammockReach$Row;", true)
  | 1 => ("HammockReach", "tape", "LHammockReach$Tape;", true)
  | 2 => ("HammockReach", "now", "LHammockReach$Forest;", true)
  | 3 => ("HammockReach", "trial", "LHammockReach$Forest;", true)
  | 4 => ("HammockReach", "images", "[LHammockReach$Forest;", true)
  | 5 => ("HammockReach", "acts", "LHammockReach$Acts;", true)
  | 6 => ("HammockReach", "outlook", "LHammockReach$Outlook;", true)
  | 7 => ("HammockReach", "traced", "[I", true)
  | 8 => ("HammockReach", "tracedCount", "I", false)
  | _ => ("HammockReach", "finding", "I", false)
def tyX5 : Nat → FieldType := fun k => match k with
  | 0 => .array (.object "HammockReach$Row")
  | 1 => .object "HammockReach$Tape"
  | 2 => .object "HammockReach$Forest"
  | 3 => .object "HammockReach$Forest"
  | 4 => .array (.object "HammockReach$Forest")
  | 5 => .object "HammockReach$Acts"
  | 6 => .object "HammockReach$Outlook"
  | 7 => .array .int
  | 8 => .int
  | _ => .int
abbrev wsX50 : List Cond := u_ws RX5 TX5 10
theorem nmX5 : ∀ a, a < 10 → ∀ b, b < 10 → a ≠ b → (TX5 a).2.1 ≠ (TX5 b).2.1 := by decide +kernel
theorem tyX5_ok : ∀ k, k < 10 → parseFieldDescriptor (TX5 k).2.2.1 = some (tyX5 k) := by decide +kernel
abbrev cX5_init : ByteArray := prog_1_method_1_code
def yX5_init : MethodName := ⟨RX5, "<init>", "()V"⟩
abbrev cX5_row : ByteArray := prog_1_method_2_code
def yX5_row : MethodName := ⟨RX5, "row", "(III)I"⟩
abbrev cX5_set : ByteArray := prog_1_method_3_code
def yX5_set : MethodName := ⟨RX5, "set", "(III)I"⟩
abbrev cX5_copy : ByteArray := prog_1_method_4_code
def yX5_copy : MethodName := ⟨RX5, "copy", "(IIIII)I"⟩
abbrev cX5_drop : ByteArray := prog_1_method_5_code
def yX5_drop : MethodName := ⟨RX5, "drop", "(I)I"⟩
abbrev cX5_feed : ByteArray := prog_1_method_6_code
def yX5_feed : MethodName := ⟨RX5, "feed", "(I)I"⟩
abbrev cX5_forest : ByteArray := prog_1_method_7_code
def yX5_forest : MethodName := ⟨RX5, "forest", "()I"⟩
abbrev cX5_fault : ByteArray := prog_1_method_8_code
def yX5_fault : MethodName := ⟨RX5, "fault", "()I"⟩
abbrev cX5_minutes : ByteArray := prog_1_method_9_code
def yX5_minutes : MethodName := ⟨RX5, "minutes", "(I)I"⟩
abbrev cX5_sling : ByteArray := prog_1_method_10_code
def yX5_sling : MethodName := ⟨RX5, "sling", "(III)I"⟩
abbrev cX5_load : ByteArray := prog_1_method_11_code
def yX5_load : MethodName := ⟨RX5, "load", "(II)I"⟩
abbrev cX5_cord : ByteArray := prog_1_method_12_code
def yX5_cord : MethodName := ⟨RX5, "cord", "(II)I"⟩
abbrev cX5_undo : ByteArray := prog_1_method_13_code
def yX5_undo : MethodName := ⟨RX5, "undo", "()I"⟩
abbrev cX5_hammock : ByteArray := prog_1_method_14_code
def yX5_hammock : MethodName := ⟨RX5, "hammock", "(II)I"⟩
abbrev cX5_ahead : ByteArray := prog_1_method_15_code
def yX5_ahead : MethodName := ⟨RX5, "ahead", "(III)I"⟩
abbrev cX5_down : ByteArray := prog_1_method_16_code
def yX5_down : MethodName := ⟨RX5, "down", "(I)I"⟩
abbrev cX5_reach : ByteArray := prog_1_method_17_code
def yX5_reach : MethodName := ⟨RX5, "reach", "(II)I"⟩
abbrev cX5_meet : ByteArray := prog_1_method_18_code
def yX5_meet : MethodName := ⟨RX5, "meet", "(II)I"⟩
abbrev cX5_soonest : ByteArray := prog_1_method_19_code
def yX5_soonest : MethodName := ⟨RX5, "soonest", "(II)I"⟩
abbrev cX5_hands : ByteArray := prog_1_method_20_code
def yX5_hands : MethodName := ⟨RX5, "hands", "(II)I"⟩
abbrev cX5_everywhere : ByteArray := prog_1_method_21_code
def yX5_everywhere : MethodName := ⟨RX5, "everywhere", "(II)I"⟩
abbrev cX5_stops : ByteArray := prog_1_method_22_code
def yX5_stops : MethodName := ⟨RX5, "stops", "(III)I"⟩
abbrev cX5_toSling : ByteArray := prog_1_method_23_code
def yX5_toSling : MethodName := ⟨RX5, "toSling", "(IIII)I"⟩
abbrev cX5_fits : ByteArray := prog_1_method_24_code
def yX5_fits : MethodName := ⟨RX5, "fits", "(IIIII)I"⟩
abbrev cX5_breaks : ByteArray := prog_1_method_25_code
def yX5_breaks : MethodName := ⟨RX5, "breaks", "(IIIII)I"⟩
abbrev cX5_image : ByteArray := prog_1_method_26_code
def yX5_image : MethodName := ⟨RX5, "image", "(I)I"⟩
abbrev cX5_restore : ByteArray := prog_1_method_27_code
def yX5_restore : MethodName := ⟨RX5, "restore", "(I)I"⟩
abbrev cX5_kind : ByteArray := prog_1_method_28_code
def yX5_kind : MethodName := ⟨RX5, "kind", "(I)I"⟩
abbrev cX5_as : ByteArray := prog_1_method_29_code
def yX5_as : MethodName := ⟨RX5, "as", "(II)I"⟩
abbrev cX5_ask : ByteArray := prog_1_method_30_code
def yX5_ask : MethodName := ⟨RX5, "ask", "(II)I"⟩
abbrev cX5_trace : ByteArray := prog_1_method_31_code
def yX5_trace : MethodName := ⟨RX5, "trace", "(I)I"⟩
abbrev cX5_count : ByteArray := prog_1_method_32_code
def yX5_count : MethodName := ⟨RX5, "count", "(I)I"⟩
abbrev cX5_status : ByteArray := prog_1_method_33_code
def yX5_status : MethodName := ⟨RX5, "status", "()I"⟩
abbrev cX5_isBelow : ByteArray := prog_1_method_34_code
def yX5_isBelow : MethodName := ⟨RX5, "isBelow", "(II)Z"⟩
abbrev cX5_isRow : ByteArray := prog_1_method_35_code
def yX5_isRow : MethodName := ⟨RX5, "isRow", "(I)Z"⟩
abbrev cX5_isAhead : ByteArray := prog_1_method_36_code
def yX5_isAhead : MethodName := ⟨RX5, "isAhead", "(I)Z"⟩
abbrev cX5_isHammock : ByteArray := prog_1_method_37_code
def yX5_isHammock : MethodName := ⟨RX5, "isHammock", "(I)Z"⟩
abbrev cX5_areTwo : ByteArray := prog_1_method_38_code
def yX5_areTwo : MethodName := ⟨RX5, "areTwo", "(II)Z"⟩
abbrev cX5_finds : ByteArray := prog_1_method_39_code
def yX5_finds : MethodName := ⟨RX5, "finds", "(I)I"⟩
abbrev cX5_countRows : ByteArray := prog_1_method_40_code
def yX5_countRows : MethodName := ⟨RX5, "countRows", "()I"⟩
abbrev cX5_fittingKinds : ByteArray := prog_1_method_41_code
def yX5_fittingKinds : MethodName := ⟨RX5, "fittingKinds", "(ILHammockReach$Row;II)I"⟩
abbrev cX5_fittingSwings : ByteArray := prog_1_method_42_code
def yX5_fittingSwings : MethodName := ⟨RX5, "fittingSwings", "(ILHammockReach$Row;II)I"⟩
abbrev cX5_fittingWeights : ByteArray := prog_1_method_43_code
def yX5_fittingWeights : MethodName := ⟨RX5, "fittingWeights", "(ILHammockReach$Row;II)I"⟩
abbrev cX5_wasThere : ByteArray := prog_1_method_44_code
def yX5_wasThere : MethodName := ⟨RX5, "wasThere", "(ILHammockReach$Row;II)Z"⟩
abbrev cX5_wasReached : ByteArray := prog_1_method_45_code
def yX5_wasReached : MethodName := ⟨RX5, "wasReached", "(ILHammockReach$Row;II)Z"⟩
abbrev cX5_partsOf : ByteArray := prog_1_method_46_code
def yX5_partsOf : MethodName := ⟨RX5, "partsOf", "(II)I"⟩
abbrev cX5_partsOfAll : ByteArray := prog_1_method_47_code
def yX5_partsOfAll : MethodName := ⟨RX5, "partsOfAll", "()I"⟩
abbrev cX5_commonDivisor : ByteArray := prog_1_method_48_code
def yX5_commonDivisor : MethodName := ⟨RX5, "commonDivisor", "(II)I"⟩
abbrev cX5_isOfKind : ByteArray := prog_1_method_49_code
def yX5_isOfKind : MethodName := ⟨RX5, "isOfKind", "(II)Z"⟩
abbrev cX5_nearestBody : ByteArray := prog_1_method_50_code
def yX5_nearestBody : MethodName := ⟨RX5, "nearestBody", "(II)I"⟩
abbrev cX5_answer : ByteArray := prog_1_method_51_code
def yX5_answer : MethodName := ⟨RX5, "answer", "(III)I"⟩
abbrev cX5_body : ByteArray := prog_1_method_52_code
def yX5_body : MethodName := ⟨RX5, "body", "(III)I"⟩
def RX6 : String := "HammockReachModel"
def TX6 : u_T := fun k => match k with
  | 0 => ("HammockReachModel", "lanes", "[I", true)
  | 1 => ("HammockReachModel", "sizes", "[I", true)
  | 2 => ("HammockReachModel", "items", "[I", true)
  | 3 => ("HammockReachModel", "status", "I", false)
  | 4 => ("HammockReachModel", "now", "[I", true)
  | 5 => ("HammockReachModel", "read", "[I", true)
  | 6 => ("HammockReachModel", "aside", "[I", true)
  | 7 => ("HammockReachModel", "past", "[I", true)
  | 8 => ("HammockReachModel", "acts", "I", false)
  | 9 => ("HammockReachModel", "images", "[I", true)
  | 10 => ("HammockReachModel", "kept", "[Z", true)
  | 11 => ("HammockReachModel", "tape", "[I", true)
  | 12 => ("HammockReachModel", "size", "I", false)
  | 13 => ("HammockReachModel", "fault", "I", false)
  | 14 => ("HammockReachModel", "trace", "[I", true)
  | 15 => ("HammockReachModel", "traced", "I", false)
  | 16 => ("HammockReachModel", "at", "I", false)
  | 17 => ("HammockReachModel", "begin", "I", false)
  | 18 => ("HammockReachModel", "token", "I", false)
  | 19 => ("HammockReachModel", "value", "I", false)
  | 20 => ("HammockReachModel", "wrong", "I", false)
  | 21 => ("HammockReachModel", "given", "[I", true)
  | _ => ("HammockReachModel", "then", "[I", true)
def tyX6 : Nat → FieldType := fun k => match k with
  | 0 => .array .int
  | 1 => .array .int
  | 2 => .array .int
  | 3 => .int
  | 4 => .array .int
  | 5 => .array .int
  | 6 => .array .int
  | 7 => .array .int
  | 8 => .int
  | 9 => .array .int
  | 10 => .array .boolean
  | 11 => .array .int
  | 12 => .int
  | 13 => .int
  | 14 => .array .int
  | 15 => .int
  | 16 => .int
  | 17 => .int
  | 18 => .int
  | 19 => .int
  | 20 => .int
  | 21 => .array .int
  | _ => .array .int
abbrev wsX60 : List Cond := u_ws RX6 TX6 23
theorem nmX6 : ∀ a, a < 23 → ∀ b, b < 23 → a ≠ b → (TX6 a).2.1 ≠ (TX6 b).2.1 := by decide +kernel
theorem tyX6_ok : ∀ k, k < 23 → parseFieldDescriptor (TX6 k).2.2.1 = some (tyX6 k) := by decide +kernel
abbrev cX6_init : ByteArray := prog_8_method_1_code
def yX6_init : MethodName := ⟨RX6, "<init>", "()V"⟩
abbrev cX6_in : ByteArray := prog_8_method_3_code
def yX6_in : MethodName := ⟨RX6, "in", "(JJJ)Z"⟩
abbrev cX6_found : ByteArray := prog_8_method_4_code
def yX6_found : MethodName := ⟨RX6, "found", "(I)I"⟩
abbrev cX6_well : ByteArray := prog_8_method_5_code
def yX6_well : MethodName := ⟨RX6, "well", "(I)I"⟩
abbrev cX6_isRow : ByteArray := prog_8_method_6_code
def yX6_isRow : MethodName := ⟨RX6, "isRow", "(I)Z"⟩
abbrev cX6_row : ByteArray := prog_8_method_7_code
def yX6_row : MethodName := ⟨RX6, "row", "(III)I"⟩
abbrev cX6_set : ByteArray := prog_8_method_8_code
def yX6_set : MethodName := ⟨RX6, "set", "(III)I"⟩
abbrev cX6_copy : ByteArray := prog_8_method_9_code
def yX6_copy : MethodName := ⟨RX6, "copy", "(IIIII)I"⟩
abbrev cX6_drop : ByteArray := prog_8_method_10_code
def yX6_drop : MethodName := ⟨RX6, "drop", "(I)I"⟩
abbrev cX6_feed : ByteArray := prog_8_method_11_code
def yX6_feed : MethodName := ⟨RX6, "feed", "(I)I"⟩
abbrev cX6_here : ByteArray := prog_8_method_12_code
def yX6_here : MethodName := ⟨RX6, "here", "()I"⟩
abbrev cX6_step : ByteArray := prog_8_method_13_code
def yX6_step : MethodName := ⟨RX6, "step", "()V"⟩
abbrev cX6_fails : ByteArray := prog_8_method_14_code
def yX6_fails : MethodName := ⟨RX6, "fails", "(I)Z"⟩
abbrev cX6_number : ByteArray := prog_8_method_15_code
def yX6_number : MethodName := ⟨RX6, "number", "(IIII)Z"⟩
abbrev cX6_sortOf : ByteArray := prog_8_method_16_code
def yX6_sortOf : MethodName := ⟨RX6, "sortOf", "(I)I"⟩
abbrev cX6_readsHammock : ByteArray := prog_8_method_17_code
def yX6_readsHammock : MethodName := ⟨RX6, "readsHammock", "()Z"⟩
abbrev cX6_reads : ByteArray := prog_8_method_18_code
def yX6_reads : MethodName := ⟨RX6, "reads", "()Z"⟩
abbrev cX6_forest : ByteArray := prog_8_method_19_code
def yX6_forest : MethodName := ⟨RX6, "forest", "()I"⟩
abbrev cX6_fault : ByteArray := prog_8_method_20_code
def yX6_fault : MethodName := ⟨RX6, "fault", "()I"⟩
abbrev cX6_copies : ByteArray := prog_8_method_21_code
def yX6_copies : MethodName := ⟨RX6, "copies", "([II[II)V"⟩
abbrev cX6_has : ByteArray := prog_8_method_22_code
def yX6_has : MethodName := ⟨RX6, "has", "(II)Z"⟩
abbrev cX6_dip : ByteArray := prog_8_method_23_code
def yX6_dip : MethodName := ⟨RX6, "dip", "([III)I"⟩
abbrev cX6_swung : ByteArray := prog_8_method_24_code
def yX6_swung : MethodName := ⟨RX6, "swung", "(II)I"⟩
abbrev cX6_where : ByteArray := prog_8_method_25_code
def yX6_where : MethodName := ⟨RX6, "where", "([III)I"⟩
abbrev cX6_isDown : ByteArray := prog_8_method_26_code
def yX6_isDown : MethodName := ⟨RX6, "isDown", "([III)Z"⟩
abbrev cX6_downOf : ByteArray := prog_8_method_27_code
def yX6_downOf : MethodName := ⟨RX6, "downOf", "([II)I"⟩
abbrev cX6_areNear : ByteArray := prog_8_method_28_code
def yX6_areNear : MethodName := ⟨RX6, "areNear", "([IIII)Z"⟩
abbrev cX6_reachOf : ByteArray := prog_8_method_29_code
def yX6_reachOf : MethodName := ⟨RX6, "reachOf", "([III)I"⟩
abbrev cX6_spread : ByteArray := prog_8_method_30_code
def yX6_spread : MethodName := ⟨RX6, "spread", "([III)I"⟩
abbrev cX6_soonestOf : ByteArray := prog_8_method_31_code
def yX6_soonestOf : MethodName := ⟨RX6, "soonestOf", "([III)I"⟩
abbrev cX6_isForest : ByteArray := prog_8_method_32_code
def yX6_isForest : MethodName := ⟨RX6, "isForest", "()Z"⟩
abbrev cX6_isHammock : ByteArray := prog_8_method_33_code
def yX6_isHammock : MethodName := ⟨RX6, "isHammock", "(I)Z"⟩
abbrev cX6_isTwo : ByteArray := prog_8_method_34_code
def yX6_isTwo : MethodName := ⟨RX6, "isTwo", "(I)Z"⟩
abbrev cX6_isSpan : ByteArray := prog_8_method_35_code
def yX6_isSpan : MethodName := ⟨RX6, "isSpan", "(I)Z"⟩
abbrev cX6_remember : ByteArray := prog_8_method_36_code
def yX6_remember : MethodName := ⟨RX6, "remember", "()V"⟩
abbrev cX6_minutes : ByteArray := prog_8_method_37_code
def yX6_minutes : MethodName := ⟨RX6, "minutes", "(I)I"⟩
abbrev cX6_sling : ByteArray := prog_8_method_38_code
def yX6_sling : MethodName := ⟨RX6, "sling", "(III)I"⟩
abbrev cX6_load : ByteArray := prog_8_method_39_code
def yX6_load : MethodName := ⟨RX6, "load", "(II)I"⟩
abbrev cX6_cord : ByteArray := prog_8_method_40_code
def yX6_cord : MethodName := ⟨RX6, "cord", "(II)I"⟩
abbrev cX6_undo : ByteArray := prog_8_method_41_code
def yX6_undo : MethodName := ⟨RX6, "undo", "()I"⟩
abbrev cX6_hammock : ByteArray := prog_8_method_42_code
def yX6_hammock : MethodName := ⟨RX6, "hammock", "(II)I"⟩
abbrev cX6_ahead : ByteArray := prog_8_method_43_code
def yX6_ahead : MethodName := ⟨RX6, "ahead", "(III)I"⟩
abbrev cX6_down : ByteArray := prog_8_method_44_code
def yX6_down : MethodName := ⟨RX6, "down", "(I)I"⟩
abbrev cX6_reach : ByteArray := prog_8_method_45_code
def yX6_reach : MethodName := ⟨RX6, "reach", "(II)I"⟩
abbrev cX6_meet : ByteArray := prog_8_method_46_code
def yX6_meet : MethodName := ⟨RX6, "meet", "(II)I"⟩
abbrev cX6_told : ByteArray := prog_8_method_47_code
def yX6_told : MethodName := ⟨RX6, "told", "(I)I"⟩
abbrev cX6_soonest : ByteArray := prog_8_method_48_code
def yX6_soonest : MethodName := ⟨RX6, "soonest", "(II)I"⟩
abbrev cX6_hands : ByteArray := prog_8_method_49_code
def yX6_hands : MethodName := ⟨RX6, "hands", "(II)I"⟩
abbrev cX6_everywhere : ByteArray := prog_8_method_50_code
def yX6_everywhere : MethodName := ⟨RX6, "everywhere", "(II)I"⟩
abbrev cX6_layAside : ByteArray := prog_8_method_51_code
def yX6_layAside : MethodName := ⟨RX6, "layAside", "()V"⟩
abbrev cX6_stops : ByteArray := prog_8_method_52_code
def yX6_stops : MethodName := ⟨RX6, "stops", "(III)I"⟩
abbrev cX6_toSling : ByteArray := prog_8_method_53_code
def yX6_toSling : MethodName := ⟨RX6, "toSling", "(IIII)I"⟩
abbrev cX6_fits : ByteArray := prog_8_method_54_code
def yX6_fits : MethodName := ⟨RX6, "fits", "(IIIII)I"⟩
abbrev cX6_breaks : ByteArray := prog_8_method_55_code
def yX6_breaks : MethodName := ⟨RX6, "breaks", "(IIIII)I"⟩
abbrev cX6_image : ByteArray := prog_8_method_56_code
def yX6_image : MethodName := ⟨RX6, "image", "(I)I"⟩
abbrev cX6_restore : ByteArray := prog_8_method_57_code
def yX6_restore : MethodName := ⟨RX6, "restore", "(I)I"⟩
abbrev cX6_kind : ByteArray := prog_8_method_58_code
def yX6_kind : MethodName := ⟨RX6, "kind", "(I)I"⟩
abbrev cX6_isOf : ByteArray := prog_8_method_59_code
def yX6_isOf : MethodName := ⟨RX6, "isOf", "(II)Z"⟩
abbrev cX6_as : ByteArray := prog_8_method_60_code
def yX6_as : MethodName := ⟨RX6, "as", "(II)I"⟩
abbrev cX6_leave : ByteArray := prog_8_method_61_code
def yX6_leave : MethodName := ⟨RX6, "leave", "(J)V"⟩
abbrev cX6_mark : ByteArray := prog_8_method_62_code
def yX6_mark : MethodName := ⟨RX6, "mark", "(I)I"⟩
abbrev cX6_sizeOf : ByteArray := prog_8_method_63_code
def yX6_sizeOf : MethodName := ⟨RX6, "sizeOf", "(I)I"⟩
abbrev cX6_ask : ByteArray := prog_8_method_64_code
def yX6_ask : MethodName := ⟨RX6, "ask", "(II)I"⟩
abbrev cX6_trace : ByteArray := prog_8_method_65_code
def yX6_trace : MethodName := ⟨RX6, "trace", "(I)I"⟩
abbrev cX6_count : ByteArray := prog_8_method_66_code
def yX6_count : MethodName := ⟨RX6, "count", "(I)I"⟩
abbrev cX6_status : ByteArray := prog_8_method_67_code
def yX6_status : MethodName := ⟨RX6, "status", "()I"⟩
def RJ6 : String := "java/lang/Integer"
def TJ6 : u_T := fun k => match k with
  | _ => ("", "", "", false)
def tyJ6 : Nat → FieldType := fun k => match k with
  | _ => .int
abbrev wsJ60 : List Cond := u_ws RJ6 TJ6 0
theorem nmJ6 : ∀ a, a < 0 → ∀ b, b < 0 → a ≠ b → (TJ6 a).2.1 ≠ (TJ6 b).2.1 := by decide +kernel
theorem tyJ6_ok : ∀ k, k < 0 → parseFieldDescriptor (TJ6 k).2.2.1 = some (tyJ6 k) := by decide +kernel
abbrev cJ6_bitCount_0f7a4 : ByteArray := prog_9_method_49_code
def yJ6_bitCount_0f7a4 : MethodName := ⟨RJ6, "bitCount", "(I)I"⟩
def RJ9 : String := "java/lang/Math"
def TJ9 : u_T := fun k => match k with
  | _ => ("", "", "", false)
def tyJ9 : Nat → FieldType := fun k => match k with
  | _ => .int
abbrev wsJ90 : List Cond := u_ws RJ9 TJ9 0
theorem nmJ9 : ∀ a, a < 0 → ∀ b, b < 0 → a ≠ b → (TJ9 a).2.1 ≠ (TJ9 b).2.1 := by decide +kernel
theorem tyJ9_ok : ∀ k, k < 0 → parseFieldDescriptor (TJ9 k).2.2.1 = some (tyJ9 k) := by decide +kernel
abbrev cJ9_abs_0f7a4 : ByteArray := prog_10_method_59_code
def yJ9_abs_0f7a4 : MethodName := ⟨RJ9, "abs", "(I)I"⟩
def RJ10 : String := "java/lang/System"
def TJ10 : u_T := fun k => match k with
  | _ => ("", "", "", false)
def tyJ10 : Nat → FieldType := fun k => match k with
  | _ => .int
abbrev wsJ100 : List Cond := u_ws RJ10 TJ10 0
theorem nmJ10 : ∀ a, a < 0 → ∀ b, b < 0 → a ≠ b → (TJ10 a).2.1 ≠ (TJ10 b).2.1 := by decide +kernel
theorem tyJ10_ok : ∀ k, k < 0 → parseFieldDescriptor (TJ10 k).2.2.1 = some (tyJ10 k) := by decide +kernel
def RL : String := "HammockReachLaw"
abbrev cL_law : ByteArray := code
def yL_law : MethodName := ⟨RL, "law", "([I)Z"⟩

abbrev vwCl : List vw_C := [(RX0, TX0, 6), (RX1, TX1, 11), (RX2, TX2, 4), (RX3, TX3, 3), (RX4, TX4, 4), (RX5, TX5, 10), (RX6, TX6, 23)]
end
section
/-! ===== worlds as lists of cells, a reference being its place ===== -/
abbrev xE : Type := (Nat × vp_A) ⊕ (Nat × List Value)
def xV (ρ : Nat → Nat) (v : Value) : Value := match v with
  | .ref a => .ref (ρ a)
  | v => v
def xA (ρ : Nat → Nat) (a : vp_A) : vp_A := match a with
  | (n, .inr (.inr (.inr (.inr g)))) => (n, .inr (.inr (.inr (.inr (fun k => (g k).map ρ)))))
  | a => a
def xC (ρ : Nat → Nat) (τ : Nat → ClassId) (x : xE) : va_E := match x with
  | .inl a => .inl (τ a.1, xA ρ a.2)
  | .inr o => .inr (o.1, o.2.map (xV ρ))
def xW (ρ : Nat → Nat) (τ : Nat → ClassId) (θ : List xE) : va_W := θ.mapIdx (fun i x => (ρ i, xC ρ τ x))
theorem xW_get {ρ : Nat → Nat} {τ : Nat → ClassId} {θ : List xE} {i : Nat} : (xW ρ τ θ)[i]? = (θ[i]?).map (fun x => (ρ i, xC ρ τ x)) := by
  simp [xW]
theorem xW_at {ρ : Nat → Nat} {τ : Nat → ClassId} {θ : List xE} {i : Nat} {x : xE} (h : θ[i]? = some x) : (xW ρ τ θ)[i]? = some (ρ i, xC ρ τ x) := by
  rw [xW_get, h]; rfl
theorem xW_set {ρ : Nat → Nat} {τ : Nat → ClassId} {θ : List xE} {i : Nat} {x : xE} : (xW ρ τ θ).set i (ρ i, xC ρ τ x) = xW ρ τ (θ.set i x) := by
  apply List.ext_getElem?
  intro j
  rw [xW_get, List.getElem?_set, List.getElem?_set, xW_get]
  have hlen : (xW ρ τ θ).length = θ.length := by simp [xW]
  by_cases hij : i = j
  · subst hij
    simp only [if_true, hlen]
    split <;> rfl
  · simp only [if_neg hij]
theorem xW_len {ρ : Nat → Nat} {τ : Nat → ClassId} {θ : List xE} : (xW ρ τ θ).length = θ.length := by simp [xW]
theorem xV_cat (ρ : Nat → Nat) (v : Value) : (xV ρ v).category = v.category := by cases v <;> rfl
/-- the locals -/
def xL (ρ : Nat → Nat) (ls : Array Slot) (lv : List (Option Value)) : Prop := ls.size = lv.length ∧ lv_wf ls ∧ ∀ (i : Nat) (v : Value), lv[i]? = some (some v) → ls[i]? = some (.val (xV ρ v))
def xLl (ρ : Nat → Nat) (lv : List (Option Value)) : List (Nat × Value) := (List.range lv.length).filterMap (fun i => match lv[i]? with | some (some v) => some (i, xV ρ v) | _ => none)
theorem xLl_in {ρ : Nat → Nat} {lv : List (Option Value)} {q : Nat × Value} : q ∈ xLl ρ lv ↔ ∃ v, lv[q.1]? = some (some v) ∧ q.2 = xV ρ v := by
  unfold xLl
  rw [List.mem_filterMap]
  constructor
  · rintro ⟨i, -, h⟩
    split at h
    · rename_i v hv
      cases h
      exact ⟨v, hv, rfl⟩
    · cases h
  · rintro ⟨v, hv, hq⟩
    refine ⟨q.1, List.mem_range.mpr (List.getElem?_eq_some_iff.mp hv).1, ?_⟩
    rw [hv]
    simp only [← hq]
theorem xL_has {ρ : Nat → Nat} {ls : Array Slot} {lv : List (Option Value)} (h : xL ρ ls lv) : lv_has ls lv.length (xLl ρ lv) := by
  refine ⟨h.1, h.2.1, fun q hq => ?_⟩
  obtain ⟨v, hv, e⟩ := xLl_in.mp hq
  rw [e]
  exact h.2.2 q.1 v hv
/-- no long stands just below the place i -/
def xN (lv : List (Option Value)) (i : Nat) : Prop := match i with
  | 0 => True
  | j + 1 => match lv[j]? with
    | some (some (.long _)) => False
    | some (some (.double _)) => False
    | _ => True
theorem xL_set1 {ρ : Nat → Nat} {ls' : Array Slot} {lv : List (Option Value)} {i : Nat} {v : Value} (hi : i < lv.length) (hn : xN lv i) (h' : lv_has ls' lv.length ((i, xV ρ v) :: (xLl ρ lv).filter (fun q => !(q.1 == i) && !(q.1 + 1 == i && q.2.category == 2)))) : xL ρ ls' (lv.set i (some v)) := by
  refine ⟨by rw [h'.1, List.length_set], h'.2.1, fun j w hw => ?_⟩
  rw [List.getElem?_set] at hw
  by_cases hij : i = j
  · subst hij
    rw [if_pos rfl, if_pos hi] at hw
    cases hw
    exact h'.2.2 (i, xV ρ v) List.mem_cons_self
  · rw [if_neg hij] at hw
    refine h'.2.2 (j, xV ρ w) (List.mem_cons_of_mem _ (List.mem_filter.mpr ⟨xLl_in.mpr ⟨w, hw, rfl⟩, ?_⟩))
    have h1 : (j == i) = false := by simp; omega
    by_cases h2 : j + 1 = i
    · subst h2
      have h3 : (xV ρ w).category ≠ 2 := by
        rw [xV_cat]
        intro h4
        simp only [xN, hw] at hn
        cases w <;> simp [Value.category] at h4 hn
      simp [h1, h3]
    · simp [h1, h2]
theorem xL_set2 {ρ : Nat → Nat} {ls' : Array Slot} {lv : List (Option Value)} {i : Nat} {v : Value} (hi : i + 1 < lv.length) (hn : xN lv i) (h' : lv_has ls' lv.length ((i, xV ρ v) :: (xLl ρ lv).filter (fun q => !(q.1 == i) && (!(q.1 == i + 1) && !(q.1 + 1 == i && q.2.category == 2))))) : xL ρ ls' ((lv.set i (some v)).set (i + 1) none) := by
  refine ⟨by rw [h'.1, List.length_set, List.length_set], h'.2.1, fun j w hw => ?_⟩
  rw [List.getElem?_set, List.getElem?_set, List.length_set] at hw
  by_cases hi1 : i + 1 = j
  · subst hi1
    rw [if_pos rfl, if_pos hi] at hw
    cases hw
  rw [if_neg hi1] at hw
  by_cases hij : i = j
  · subst hij
    rw [if_pos rfl, if_pos (by omega)] at hw
    cases hw
    exact h'.2.2 (i, xV ρ v) List.mem_cons_self
  · rw [if_neg hij] at hw
    refine h'.2.2 (j, xV ρ w) (List.mem_cons_of_mem _ (List.mem_filter.mpr ⟨xLl_in.mpr ⟨w, hw, rfl⟩, ?_⟩))
    have h1 : (j == i) = false := by simp; omega
    have h1b : (j == i + 1) = false := by simp; omega
    by_cases h2 : j + 1 = i
    · subst h2
      have h3 : (xV ρ w).category ≠ 2 := by
        rw [xV_cat]
        intro h4
        simp only [xN, hw] at hn
        cases w <;> simp [Value.category] at h4 hn
      simp [h1, h1b, h3]
    · simp [h1, h1b, h2]
/-- the kinds of arrays that worlds hold: 0 int, 1 boolean, 2 rows of forests, 3 rows of Rows -/
def xT (τ : Nat → ClassId) : List (ClassId × FieldType) := [(τ 0, .int), (τ 1, .boolean), (τ 2, .object "HammockReach$Forest"), (τ 3, .object "HammockReach$Row")]
/-- the three tables that nobody writes -/
def xtab1 : Nat → Int32 := fun k => match k with | 0 => 0 | 1 => 0 | 2 => 1 | 3 => 1 | 4 => 0 | _ => 4
def xtab2 : Nat → Int32 := fun k => match k with | 0 => 10 | 1 => 11 | 2 => 12 | 3 => 0 | 4 => 13 | _ => 14
def xtab3 : Nat → Int32 := fun k => match k with | 0 => 20 | 1 => 21 | 2 => 24 | 3 => 22 | 4 => 23 | _ => 0
def xTab1 (nm : String) (f : Nat → Int32) (A : Nat → Prop) (U : State) : Prop := ∃ t : Nat, va_Z "HammockReach" nm "[I" (.ref t) A U U.heap ∧ va_T .int t 6 (fun j => .int (f j)) A U U.heap
def xTab (A : Nat → Prop) (U : State) : Prop := xTab1 "ABOVE" xtab1 A U ∧ xTab1 "SIZE_BODIES" xtab2 A U ∧ xTab1 "MARK_BODIES" xtab3 A U
theorem xTab1.moves {nm : String} {f : Nat → Int32} {A B : Nat → Prop} {u U : State} (hvm : u.vm.Alike U.vm) (hq : ∀ a : Nat, a < u.heap.size → ¬ A a → U.heap[a]? = u.heap[a]?) (hAB : ∀ q, B q → A q) (h : xTab1 nm f A u) : xTab1 nm f B U := by
  obtain ⟨t, h1, h2⟩ := h
  exact ⟨t, ((h1.moved hvm).kept hq).narrow hAB, ((h2.moved hvm).kept hq).narrow hAB⟩
theorem xTab.moves {A B : Nat → Prop} {u U : State} (hvm : u.vm.Alike U.vm) (hq : ∀ a : Nat, a < u.heap.size → ¬ A a → U.heap[a]? = u.heap[a]?) (hAB : ∀ q, B q → A q) (h : xTab A u) : xTab B U := ⟨h.1.moves hvm hq hAB, h.2.1.moves hvm hq hAB, h.2.2.moves hvm hq hAB⟩
/-- links of nest mates -/
def xNw : List Cond := [.methodLinkNest "HammockReach" 17 ⟨"HammockReach$Tape", "<init>", "()V"⟩ "HammockReach", .methodLinkNest "HammockReach" 24 ⟨"HammockReach$Forest", "<init>", "()V"⟩ "HammockReach", .methodLinkNest "HammockReach" 38 ⟨"HammockReach$Acts", "<init>", "()V"⟩ "HammockReach", .methodLinkNest "HammockReach" 45 ⟨"HammockReach$Outlook", "<init>", "()V"⟩ "HammockReach", .methodLinkNest "HammockReach" 54 ⟨"HammockReach$Row", "<init>", "()V"⟩ "HammockReach", .methodLinkNest "HammockReach$Tape" 89 ⟨"HammockReach", "isBelow", "(II)Z"⟩ "HammockReach"]
def xNest (U : State) : Prop := ∀ w ∈ xNw, va_Nw w U
theorem xNest.warm {s U : State} (hW : s.WarmedH U.vm) (h : xNest s) : xNest U := by
  intro w hw
  have h1 := h w hw
  simp only [xNw, List.mem_cons, List.not_mem_nil, or_false] at hw
  rcases hw with rfl | rfl | rfl | rfl | rfl | rfl <;> exact va_Nw.warmM hW h1
theorem xNest.same {u U : State} (hv : u.vm = U.vm) (h : xNest u) : xNest U := by
  intro w hw
  have h1 := h w hw
  simp only [xNw, List.mem_cons, List.not_mem_nil, or_false] at hw
  rcases hw with rfl | rfl | rfl | rfl | rfl | rfl <;> exact va_Nw.same rfl hv h1
/-- the words of the tables that every method may use -/
def TT : List Cond := lw_tbl.filter goodWord
theorem TT_mem {w : Cond} (i : Nat) (h : tables_1[i]? = some w) (hg : goodWord w = true) : w ∈ TT := List.mem_filter.mpr ⟨List.mem_append_right _ (List.mem_of_getElem? h), hg⟩
theorem TT_sel {w : Cond} (i : Nat) (h : (k2_sels lw_privs)[i]? = some w) (hg : goodWord w = true) : w ∈ TT := List.mem_filter.mpr ⟨List.mem_append_left _ (List.mem_of_getElem? h), hg⟩
theorem TT_good {w : Cond} (h : w ∈ TT) : goodWord w = true := (List.mem_filter.mp h).2
/-- the addresses: old ones, and the new ones behind them -/
def xX (ρ : Nat → Nat) (n : Nat) (nw : List Nat) : Nat → Nat := fun i => if i < n then ρ i else match nw[i - n]? with
  | some a => a
  | none => ρ i
theorem xX_nil (ρ : Nat → Nat) (n : Nat) : xX ρ n [] = ρ := by
  funext i
  simp [xX]
def xR (ρ0 : Nat → Nat) (n0 N : Nat) (ρ : Nat → Nat) : Prop := ∃ nw : List Nat, N = n0 + nw.length ∧ ρ = xX ρ0 n0 nw
def G (p : Program) (l : Launch) (e : Env) (R : Room) (s : State) (m : MethodId) (args : Array Value) (below : List Frame) (meth : Method) (c : Code) (D : va_G) (A : Nat → Prop) (τ : Nat → ClassId) (ρ0 : Nat → Nat) (n0 : Nat) (Q : State → Prop) (k n : Nat) (θ : List xE) (pc : Nat) (lv : List (Option Value)) (st : List Value) : Prop :=
  ∀ (ρ : Nat → Nat) (H : Heap) (locs : List Loc) (ls : Array Slot), xR ρ0 n0 θ.length ρ → va_P D vwCl (xW ρ τ θ) H → va_D A (xW ρ τ θ) → va_S A s.heap H locs → xL ρ ls lv → W p l e R s m args below meth c H locs k n Q (F0 m pc ls (st.map (xV ρ)))
def Sem (cc : ByteArray) (own nm : String) (nL : Nat) (R : Room) (g : Nat → Nat → List xE → Nat → List (Option Value) → List Value → Prop) : Prop :=
  ∃ (p : Program) (l : Launch) (e : Env) (s : State) (m : MethodId) (args : Array Value) (below : List Frame) (meth : Method) (c : Code) (D : va_G) (A : Nat → Prop) (τ : Nat → ClassId) (ρ0 : Nat → Nat) (n0 : Nat) (Q : State → Prop),
    (p.tables.exec = Jvm.exec ∧ c.code = cc ∧ (∀ w ∈ TT, w.before args s = true) ∧ s.vm.findClass own = some m.cls ∧ meth.name = nm ∧ c.maxLocals = nL) ∧ (va_K D vwCl (xT τ) s ∧ (∀ q : Nat, s.heap.size ≤ q → A q) ∧ (xTab A s ∧ xNest s)) ∧ g = G p l e R s m args below meth c D A τ ρ0 n0 Q
section FW
variable {cc : ByteArray} {own nm : String} {nL : Nat} {R : Room} {g : Nat → Nat → List xE → Nat → List (Option Value) → List Value → Prop} {k n : Nat} {θ : List xE} {pc : Nat} {lv : List (Option Value)} {st : List Value}
theorem r_iconst (C : Sem cc own nm nL R g) {z : Int} {v : Int32} (d : decode cc pc = .ok (.iconst z, 1)) (hv : Int32.ofInt z = v) (kk : g k n θ (pc + 1) lv (.int v :: st)) : g k n θ pc lv st := by
  obtain ⟨p, l, e, s, m, args, below, meth, c, D, A, τ, ρ0, n0, Q, ⟨hx, hb, hts, hown, hnm, hml⟩, ⟨hK, hA, hT⟩, rfl⟩ := C
  exact fun ρ H locs ls h1 h3 h4 h5 h6 => lv_iconst hx hb d hv (kk ρ H locs ls h1 h3 h4 h5 h6)
theorem r_bipush (C : Sem cc own nm nL R g) {z : Int} {v : Int32} (d : decode cc pc = .ok (.bipush z, 2)) (hv : (Int8.ofInt z).toInt32 = v) (kk : g k n θ (pc + 2) lv (.int v :: st)) : g k n θ pc lv st := by
  obtain ⟨p, l, e, s, m, args, below, meth, c, D, A, τ, ρ0, n0, Q, ⟨hx, hb, hts, hown, hnm, hml⟩, ⟨hK, hA, hT⟩, rfl⟩ := C
  exact fun ρ H locs ls h1 h3 h4 h5 h6 => lv_bipush hx hb d hv (kk ρ H locs ls h1 h3 h4 h5 h6)
theorem r_sipush (C : Sem cc own nm nL R g) {z : Int} {v : Int32} (d : decode cc pc = .ok (.sipush z, 3)) (hv : (Int16.ofInt z).toInt32 = v) (kk : g k n θ (pc + 3) lv (.int v :: st)) : g k n θ pc lv st := by
  obtain ⟨p, l, e, s, m, args, below, meth, c, D, A, τ, ρ0, n0, Q, ⟨hx, hb, hts, hown, hnm, hml⟩, ⟨hK, hA, hT⟩, rfl⟩ := C
  exact fun ρ H locs ls h1 h3 h4 h5 h6 => lv_sipush hx hb d hv (kk ρ H locs ls h1 h3 h4 h5 h6)
theorem r_ldc (C : Sem cc own nm nL R g) {ix : Nat} {v : Int32} (d : decode cc pc = .ok (.ldc ix, 2)) (hw : Cond.constant own ix v ∈ TT) (kk : g k n θ (pc + 2) lv (.int v :: st)) : g k n θ pc lv st := by
  obtain ⟨p, l, e, s, m, args, below, meth, c, D, A, τ, ρ0, n0, Q, ⟨hx, hb, hts, hown, hnm, hml⟩, ⟨hK, hA, hT⟩, rfl⟩ := C
  exact fun ρ H locs ls h1 h3 h4 h5 h6 => lv_ldc hx hb hown (hts _ hw) d (kk ρ H locs ls h1 h3 h4 h5 h6)
theorem r_iload_n (C : Sem cc own nm nL R g) {j : Fin 4} {i : Nat} {x : Int32} (d : decode cc pc = .ok (.iload_n j, 1)) (hi : (j : Nat) = i) (hl : lv[i]? = some (some (.int x))) (kk : g k n θ (pc + 1) lv (.int x :: st)) : g k n θ pc lv st := by
  obtain ⟨p, l, e, s, m, args, below, meth, c, D, A, τ, ρ0, n0, Q, ⟨hx, hb, hts, hown, hnm, hml⟩, ⟨hK, hA, hT⟩, rfl⟩ := C
  exact fun ρ H locs ls h1 h3 h4 h5 h6 => lv_iload_n hx hb d hi (h6.2.2 i _ hl) (kk ρ H locs ls h1 h3 h4 h5 h6)
theorem r_iload (C : Sem cc own nm nL R g) {i : Nat} {x : Int32} (d : decode cc pc = .ok (.iload i, 2)) (hl : lv[i]? = some (some (.int x))) (kk : g k n θ (pc + 2) lv (.int x :: st)) : g k n θ pc lv st := by
  obtain ⟨p, l, e, s, m, args, below, meth, c, D, A, τ, ρ0, n0, Q, ⟨hx, hb, hts, hown, hnm, hml⟩, ⟨hK, hA, hT⟩, rfl⟩ := C
  exact fun ρ H locs ls h1 h3 h4 h5 h6 => lv_iload hx hb d (h6.2.2 i _ hl) (kk ρ H locs ls h1 h3 h4 h5 h6)
theorem r_lload_n (C : Sem cc own nm nL R g) {j : Fin 4} {i : Nat} {x : Int64} (d : decode cc pc = .ok (.lload_n j, 1)) (hi : (j : Nat) = i) (hl : lv[i]? = some (some (.long x))) (kk : g k n θ (pc + 1) lv (.long x :: st)) : g k n θ pc lv st := by
  obtain ⟨p, l, e, s, m, args, below, meth, c, D, A, τ, ρ0, n0, Q, ⟨hx, hb, hts, hown, hnm, hml⟩, ⟨hK, hA, hT⟩, rfl⟩ := C
  exact fun ρ H locs ls h1 h3 h4 h5 h6 => lv_lload_n hx hb d hi (h6.2.2 i _ hl) (kk ρ H locs ls h1 h3 h4 h5 h6)
theorem r_lload (C : Sem cc own nm nL R g) {i : Nat} {x : Int64} (d : decode cc pc = .ok (.lload i, 2)) (hl : lv[i]? = some (some (.long x))) (kk : g k n θ (pc + 2) lv (.long x :: st)) : g k n θ pc lv st := by
  obtain ⟨p, l, e, s, m, args, below, meth, c, D, A, τ, ρ0, n0, Q, ⟨hx, hb, hts, hown, hnm, hml⟩, ⟨hK, hA, hT⟩, rfl⟩ := C
  exact fun ρ H locs ls h1 h3 h4 h5 h6 => lv_lload hx hb d (h6.2.2 i _ hl) (kk ρ H locs ls h1 h3 h4 h5 h6)
theorem r_aload_n (C : Sem cc own nm nL R g) {j : Fin 4} {i : Nat} {x : Nat} (d : decode cc pc = .ok (.aload_n j, 1)) (hi : (j : Nat) = i) (hl : lv[i]? = some (some (.ref x))) (kk : g k n θ (pc + 1) lv (.ref x :: st)) : g k n θ pc lv st := by
  obtain ⟨p, l, e, s, m, args, below, meth, c, D, A, τ, ρ0, n0, Q, ⟨hx, hb, hts, hown, hnm, hml⟩, ⟨hK, hA, hT⟩, rfl⟩ := C
  exact fun ρ H locs ls h1 h3 h4 h5 h6 => lv_aload_n hx hb d hi (h6.2.2 i _ hl) (kk ρ H locs ls h1 h3 h4 h5 h6)
theorem r_aload (C : Sem cc own nm nL R g) {i : Nat} {x : Nat} (d : decode cc pc = .ok (.aload i, 2)) (hl : lv[i]? = some (some (.ref x))) (kk : g k n θ (pc + 2) lv (.ref x :: st)) : g k n θ pc lv st := by
  obtain ⟨p, l, e, s, m, args, below, meth, c, D, A, τ, ρ0, n0, Q, ⟨hx, hb, hts, hown, hnm, hml⟩, ⟨hK, hA, hT⟩, rfl⟩ := C
  exact fun ρ H locs ls h1 h3 h4 h5 h6 => lv_aload hx hb d (h6.2.2 i _ hl) (kk ρ H locs ls h1 h3 h4 h5 h6)
theorem r_istore_n (C : Sem cc own nm nL R g) {j : Fin 4} {i : Nat} {x : Int32} {lv' : List (Option Value)} (d : decode cc pc = .ok (.istore_n j, 1)) (hi : (j : Nat) = i) (hn : i < lv.length) (hf : xN lv i) (hl : lv.set i (some (.int x)) = lv') (kk : g k n θ (pc + 1) lv' st) : g k n θ pc lv (.int x :: st) := by
  obtain ⟨p, l, e, s, m, args, below, meth, c, D, A, τ, ρ0, n0, Q, ⟨hx, hb, hts, hown, hnm, hml⟩, ⟨hK, hA, hT⟩, rfl⟩ := C
  subst hl
  exact fun ρ H locs ls h1 h3 h4 h5 h6 => lv_istore_n hx hb d hi (xL_has h6) hn rfl (fun ls' h => kk ρ H locs ls' h1 h3 h4 h5 (xL_set1 (v := .int x) hn hf h))
theorem r_istore (C : Sem cc own nm nL R g) {i : Nat} {x : Int32} {lv' : List (Option Value)} (d : decode cc pc = .ok (.istore i, 2)) (hn : i < lv.length) (hf : xN lv i) (hl : lv.set i (some (.int x)) = lv') (kk : g k n θ (pc + 2) lv' st) : g k n θ pc lv (.int x :: st) := by
  obtain ⟨p, l, e, s, m, args, below, meth, c, D, A, τ, ρ0, n0, Q, ⟨hx, hb, hts, hown, hnm, hml⟩, ⟨hK, hA, hT⟩, rfl⟩ := C
  subst hl
  exact fun ρ H locs ls h1 h3 h4 h5 h6 => lv_istore hx hb d (xL_has h6) hn rfl (fun ls' h => kk ρ H locs ls' h1 h3 h4 h5 (xL_set1 (v := .int x) hn hf h))
theorem r_astore_n (C : Sem cc own nm nL R g) {j : Fin 4} {i : Nat} {x : Nat} {lv' : List (Option Value)} (d : decode cc pc = .ok (.astore_n j, 1)) (hi : (j : Nat) = i) (hn : i < lv.length) (hf : xN lv i) (hl : lv.set i (some (.ref x)) = lv') (kk : g k n θ (pc + 1) lv' st) : g k n θ pc lv (.ref x :: st) := by
  obtain ⟨p, l, e, s, m, args, below, meth, c, D, A, τ, ρ0, n0, Q, ⟨hx, hb, hts, hown, hnm, hml⟩, ⟨hK, hA, hT⟩, rfl⟩ := C
  subst hl
  exact fun ρ H locs ls h1 h3 h4 h5 h6 => lv_astore_n hx hb d hi (xL_has h6) hn rfl (fun ls' h => kk ρ H locs ls' h1 h3 h4 h5 (xL_set1 (v := .ref x) hn hf h))
theorem r_astore (C : Sem cc own nm nL R g) {i : Nat} {x : Nat} {lv' : List (Option Value)} (d : decode cc pc = .ok (.astore i, 2)) (hn : i < lv.length) (hf : xN lv i) (hl : lv.set i (some (.ref x)) = lv') (kk : g k n θ (pc + 2) lv' st) : g k n θ pc lv (.ref x :: st) := by
  obtain ⟨p, l, e, s, m, args, below, meth, c, D, A, τ, ρ0, n0, Q, ⟨hx, hb, hts, hown, hnm, hml⟩, ⟨hK, hA, hT⟩, rfl⟩ := C
  subst hl
  exact fun ρ H locs ls h1 h3 h4 h5 h6 => lv_astore hx hb d (xL_has h6) hn rfl (fun ls' h => kk ρ H locs ls' h1 h3 h4 h5 (xL_set1 (v := .ref x) hn hf h))
theorem r_lstore_n (C : Sem cc own nm nL R g) {j : Fin 4} {i : Nat} {x : Int64} {lv' : List (Option Value)} (d : decode cc pc = .ok (.lstore_n j, 1)) (hi : (j : Nat) = i) (hn : i + 1 < lv.length) (hf : xN lv i) (hl : (lv.set i (some (.long x))).set (i + 1) none = lv') (kk : g k n θ (pc + 1) lv' st) : g k n θ pc lv (.long x :: st) := by
  obtain ⟨p, l, e, s, m, args, below, meth, c, D, A, τ, ρ0, n0, Q, ⟨hx, hb, hts, hown, hnm, hml⟩, ⟨hK, hA, hT⟩, rfl⟩ := C
  subst hl
  exact fun ρ H locs ls h1 h3 h4 h5 h6 => lv_lstore_n hx hb d hi (xL_has h6) hn rfl (fun ls' h => kk ρ H locs ls' h1 h3 h4 h5 (xL_set2 (v := .long x) hn hf h))
theorem r_lstore (C : Sem cc own nm nL R g) {i : Nat} {x : Int64} {lv' : List (Option Value)} (d : decode cc pc = .ok (.lstore i, 2)) (hn : i + 1 < lv.length) (hf : xN lv i) (hl : (lv.set i (some (.long x))).set (i + 1) none = lv') (kk : g k n θ (pc + 2) lv' st) : g k n θ pc lv (.long x :: st) := by
  obtain ⟨p, l, e, s, m, args, below, meth, c, D, A, τ, ρ0, n0, Q, ⟨hx, hb, hts, hown, hnm, hml⟩, ⟨hK, hA, hT⟩, rfl⟩ := C
  subst hl
  exact fun ρ H locs ls h1 h3 h4 h5 h6 => lv_lstore hx hb d (xL_has h6) hn rfl (fun ls' h => kk ρ H locs ls' h1 h3 h4 h5 (xL_set2 (v := .long x) hn hf h))
end FW
end
section
section FW
variable {cc : ByteArray} {own nm : String} {nL : Nat} {R : Room} {g : Nat → Nat → List xE → Nat → List (Option Value) → List Value → Prop} {k n : Nat} {θ : List xE} {pc : Nat} {lv : List (Option Value)} {st : List Value}
theorem r_iadd (C : Sem cc own nm nL R g) {x y : Int32} (d : decode cc pc = .ok (.iadd, 1))  (kk : g k n θ (pc + 1) lv (.int (x + y) :: st)) : g k n θ pc lv (.int y :: .int x :: st) := by
  obtain ⟨p, l, e, s, m, args, below, meth, c, D, A, τ, ρ0, n0, Q, ⟨hx, hb, hts, hown, hnm, hml⟩, ⟨hK, hA, hT⟩, rfl⟩ := C
  exact fun ρ H locs ls h1 h3 h4 h5 h6 => lv_iadd hx hb d  (kk ρ H locs ls h1 h3 h4 h5 h6)
theorem r_isub (C : Sem cc own nm nL R g) {x y : Int32} (d : decode cc pc = .ok (.isub, 1))  (kk : g k n θ (pc + 1) lv (.int (x - y) :: st)) : g k n θ pc lv (.int y :: .int x :: st) := by
  obtain ⟨p, l, e, s, m, args, below, meth, c, D, A, τ, ρ0, n0, Q, ⟨hx, hb, hts, hown, hnm, hml⟩, ⟨hK, hA, hT⟩, rfl⟩ := C
  exact fun ρ H locs ls h1 h3 h4 h5 h6 => lv_isub hx hb d  (kk ρ H locs ls h1 h3 h4 h5 h6)
theorem r_imul (C : Sem cc own nm nL R g) {x y : Int32} (d : decode cc pc = .ok (.imul, 1))  (kk : g k n θ (pc + 1) lv (.int (x * y) :: st)) : g k n θ pc lv (.int y :: .int x :: st) := by
  obtain ⟨p, l, e, s, m, args, below, meth, c, D, A, τ, ρ0, n0, Q, ⟨hx, hb, hts, hown, hnm, hml⟩, ⟨hK, hA, hT⟩, rfl⟩ := C
  exact fun ρ H locs ls h1 h3 h4 h5 h6 => lv_imul hx hb d  (kk ρ H locs ls h1 h3 h4 h5 h6)
theorem r_iand (C : Sem cc own nm nL R g) {x y : Int32} (d : decode cc pc = .ok (.iand, 1))  (kk : g k n θ (pc + 1) lv (.int (x &&& y) :: st)) : g k n θ pc lv (.int y :: .int x :: st) := by
  obtain ⟨p, l, e, s, m, args, below, meth, c, D, A, τ, ρ0, n0, Q, ⟨hx, hb, hts, hown, hnm, hml⟩, ⟨hK, hA, hT⟩, rfl⟩ := C
  exact fun ρ H locs ls h1 h3 h4 h5 h6 => lv_iand hx hb d  (kk ρ H locs ls h1 h3 h4 h5 h6)
theorem r_ior (C : Sem cc own nm nL R g) {x y : Int32} (d : decode cc pc = .ok (.ior, 1))  (kk : g k n θ (pc + 1) lv (.int (x ||| y) :: st)) : g k n θ pc lv (.int y :: .int x :: st) := by
  obtain ⟨p, l, e, s, m, args, below, meth, c, D, A, τ, ρ0, n0, Q, ⟨hx, hb, hts, hown, hnm, hml⟩, ⟨hK, hA, hT⟩, rfl⟩ := C
  exact fun ρ H locs ls h1 h3 h4 h5 h6 => lv_ior hx hb d  (kk ρ H locs ls h1 h3 h4 h5 h6)
theorem r_ixor (C : Sem cc own nm nL R g) {x y : Int32} (d : decode cc pc = .ok (.ixor, 1))  (kk : g k n θ (pc + 1) lv (.int (x ^^^ y) :: st)) : g k n θ pc lv (.int y :: .int x :: st) := by
  obtain ⟨p, l, e, s, m, args, below, meth, c, D, A, τ, ρ0, n0, Q, ⟨hx, hb, hts, hown, hnm, hml⟩, ⟨hK, hA, hT⟩, rfl⟩ := C
  exact fun ρ H locs ls h1 h3 h4 h5 h6 => lv_ixor hx hb d  (kk ρ H locs ls h1 h3 h4 h5 h6)
theorem r_idiv (C : Sem cc own nm nL R g) {x y : Int32} (d : decode cc pc = .ok (.idiv, 1)) (hne : ¬ y = 0) (kk : g k n θ (pc + 1) lv (.int (x / y) :: st)) : g k n θ pc lv (.int y :: .int x :: st) := by
  obtain ⟨p, l, e, s, m, args, below, meth, c, D, A, τ, ρ0, n0, Q, ⟨hx, hb, hts, hown, hnm, hml⟩, ⟨hK, hA, hT⟩, rfl⟩ := C
  exact fun ρ H locs ls h1 h3 h4 h5 h6 => lv_idiv hx hb d hne (kk ρ H locs ls h1 h3 h4 h5 h6)
theorem r_irem (C : Sem cc own nm nL R g) {x y : Int32} (d : decode cc pc = .ok (.irem, 1)) (hne : ¬ y = 0) (kk : g k n θ (pc + 1) lv (.int (x - x / y * y) :: st)) : g k n θ pc lv (.int y :: .int x :: st) := by
  obtain ⟨p, l, e, s, m, args, below, meth, c, D, A, τ, ρ0, n0, Q, ⟨hx, hb, hts, hown, hnm, hml⟩, ⟨hK, hA, hT⟩, rfl⟩ := C
  exact fun ρ H locs ls h1 h3 h4 h5 h6 => lv_irem hx hb d hne (kk ρ H locs ls h1 h3 h4 h5 h6)
theorem r_ineg (C : Sem cc own nm nL R g) {x : Int32} (d : decode cc pc = .ok (.ineg, 1))  (kk : g k n θ (pc + 1) lv (.int (-x) :: st)) : g k n θ pc lv (.int x :: st) := by
  obtain ⟨p, l, e, s, m, args, below, meth, c, D, A, τ, ρ0, n0, Q, ⟨hx, hb, hts, hown, hnm, hml⟩, ⟨hK, hA, hT⟩, rfl⟩ := C
  exact fun ρ H locs ls h1 h3 h4 h5 h6 => lv_ineg hx hb d  (kk ρ H locs ls h1 h3 h4 h5 h6)
theorem r_ishl (C : Sem cc own nm nL R g) {x y : Int32} (d : decode cc pc = .ok (.ishl, 1))  (kk : g k n θ (pc + 1) lv (.int (x <<< (y &&& 31)) :: st)) : g k n θ pc lv (.int y :: .int x :: st) := by
  obtain ⟨p, l, e, s, m, args, below, meth, c, D, A, τ, ρ0, n0, Q, ⟨hx, hb, hts, hown, hnm, hml⟩, ⟨hK, hA, hT⟩, rfl⟩ := C
  exact fun ρ H locs ls h1 h3 h4 h5 h6 => lv_ishl hx hb d  (kk ρ H locs ls h1 h3 h4 h5 h6)
theorem r_ishr (C : Sem cc own nm nL R g) {x y : Int32} (d : decode cc pc = .ok (.ishr, 1))  (kk : g k n θ (pc + 1) lv (.int (x >>> (y &&& 31)) :: st)) : g k n θ pc lv (.int y :: .int x :: st) := by
  obtain ⟨p, l, e, s, m, args, below, meth, c, D, A, τ, ρ0, n0, Q, ⟨hx, hb, hts, hown, hnm, hml⟩, ⟨hK, hA, hT⟩, rfl⟩ := C
  exact fun ρ H locs ls h1 h3 h4 h5 h6 => lv_ishr hx hb d  (kk ρ H locs ls h1 h3 h4 h5 h6)
theorem r_iushr (C : Sem cc own nm nL R g) {x y v : Int32} (d : decode cc pc = .ok (.iushr, 1)) (hv : (x.toUInt32 >>> (y.toUInt32 &&& Int32.toUInt32 31)).toInt32 = v) (kk : g k n θ (pc + 1) lv (.int v :: st)) : g k n θ pc lv (.int y :: .int x :: st) := by
  obtain ⟨p, l, e, s, m, args, below, meth, c, D, A, τ, ρ0, n0, Q, ⟨hx, hb, hts, hown, hnm, hml⟩, ⟨hK, hA, hT⟩, rfl⟩ := C
  exact fun ρ H locs ls h1 h3 h4 h5 h6 => lv_iushr hx hb d hv (kk ρ H locs ls h1 h3 h4 h5 h6)
theorem r_i2l (C : Sem cc own nm nL R g) {x : Int32} {v : Int64} (d : decode cc pc = .ok (.i2l, 1)) (hv : x.toInt64 = v) (kk : g k n θ (pc + 1) lv (.long v :: st)) : g k n θ pc lv (.int x :: st) := by
  obtain ⟨p, l, e, s, m, args, below, meth, c, D, A, τ, ρ0, n0, Q, ⟨hx, hb, hts, hown, hnm, hml⟩, ⟨hK, hA, hT⟩, rfl⟩ := C
  exact fun ρ H locs ls h1 h3 h4 h5 h6 => lv_i2l hx hb d hv (kk ρ H locs ls h1 h3 h4 h5 h6)
theorem r_l2i (C : Sem cc own nm nL R g) {x : Int64} {v : Int32} (d : decode cc pc = .ok (.l2i, 1)) (hv : x.toInt32 = v) (kk : g k n θ (pc + 1) lv (.int v :: st)) : g k n θ pc lv (.long x :: st) := by
  obtain ⟨p, l, e, s, m, args, below, meth, c, D, A, τ, ρ0, n0, Q, ⟨hx, hb, hts, hown, hnm, hml⟩, ⟨hK, hA, hT⟩, rfl⟩ := C
  exact fun ρ H locs ls h1 h3 h4 h5 h6 => lv_l2i hx hb d hv (kk ρ H locs ls h1 h3 h4 h5 h6)
theorem r_i2b (C : Sem cc own nm nL R g) {x v : Int32} (d : decode cc pc = .ok (.i2b, 1)) (hv : x.toInt8.toInt32 = v) (kk : g k n θ (pc + 1) lv (.int v :: st)) : g k n θ pc lv (.int x :: st) := by
  obtain ⟨p, l, e, s, m, args, below, meth, c, D, A, τ, ρ0, n0, Q, ⟨hx, hb, hts, hown, hnm, hml⟩, ⟨hK, hA, hT⟩, rfl⟩ := C
  exact fun ρ H locs ls h1 h3 h4 h5 h6 => lv_i2b hx hb d hv (kk ρ H locs ls h1 h3 h4 h5 h6)
theorem r_i2s (C : Sem cc own nm nL R g) {x v : Int32} (d : decode cc pc = .ok (.i2s, 1)) (hv : x.toInt16.toInt32 = v) (kk : g k n θ (pc + 1) lv (.int v :: st)) : g k n θ pc lv (.int x :: st) := by
  obtain ⟨p, l, e, s, m, args, below, meth, c, D, A, τ, ρ0, n0, Q, ⟨hx, hb, hts, hown, hnm, hml⟩, ⟨hK, hA, hT⟩, rfl⟩ := C
  exact fun ρ H locs ls h1 h3 h4 h5 h6 => lv_i2s hx hb d hv (kk ρ H locs ls h1 h3 h4 h5 h6)
theorem r_ladd (C : Sem cc own nm nL R g) {x y : Int64} (d : decode cc pc = .ok (.ladd, 1))  (kk : g k n θ (pc + 1) lv (.long (x + y) :: st)) : g k n θ pc lv (.long y :: .long x :: st) := by
  obtain ⟨p, l, e, s, m, args, below, meth, c, D, A, τ, ρ0, n0, Q, ⟨hx, hb, hts, hown, hnm, hml⟩, ⟨hK, hA, hT⟩, rfl⟩ := C
  exact fun ρ H locs ls h1 h3 h4 h5 h6 => lv_ladd hx hb d  (kk ρ H locs ls h1 h3 h4 h5 h6)
theorem r_lmul (C : Sem cc own nm nL R g) {x y : Int64} (d : decode cc pc = .ok (.lmul, 1))  (kk : g k n θ (pc + 1) lv (.long (x * y) :: st)) : g k n θ pc lv (.long y :: .long x :: st) := by
  obtain ⟨p, l, e, s, m, args, below, meth, c, D, A, τ, ρ0, n0, Q, ⟨hx, hb, hts, hown, hnm, hml⟩, ⟨hK, hA, hT⟩, rfl⟩ := C
  exact fun ρ H locs ls h1 h3 h4 h5 h6 => lv_lmul hx hb d  (kk ρ H locs ls h1 h3 h4 h5 h6)
theorem r_ldiv (C : Sem cc own nm nL R g) {x y : Int64} (d : decode cc pc = .ok (.ldiv, 1)) (hne : ¬ y = 0) (kk : g k n θ (pc + 1) lv (.long (x / y) :: st)) : g k n θ pc lv (.long y :: .long x :: st) := by
  obtain ⟨p, l, e, s, m, args, below, meth, c, D, A, τ, ρ0, n0, Q, ⟨hx, hb, hts, hown, hnm, hml⟩, ⟨hK, hA, hT⟩, rfl⟩ := C
  exact fun ρ H locs ls h1 h3 h4 h5 h6 => lv_ldiv hx hb d hne (kk ρ H locs ls h1 h3 h4 h5 h6)
theorem r_lrem (C : Sem cc own nm nL R g) {x y : Int64} (d : decode cc pc = .ok (.lrem, 1)) (hne : ¬ y = 0) (kk : g k n θ (pc + 1) lv (.long (x - x / y * y) :: st)) : g k n θ pc lv (.long y :: .long x :: st) := by
  obtain ⟨p, l, e, s, m, args, below, meth, c, D, A, τ, ρ0, n0, Q, ⟨hx, hb, hts, hown, hnm, hml⟩, ⟨hK, hA, hT⟩, rfl⟩ := C
  exact fun ρ H locs ls h1 h3 h4 h5 h6 => lv_lrem hx hb d hne (kk ρ H locs ls h1 h3 h4 h5 h6)
theorem r_lcmp (C : Sem cc own nm nL R g) {x y : Int64} (d : decode cc pc = .ok (.lcmp, 1))  (kk : g k n θ (pc + 1) lv (.int (lg_cmp x y) :: st)) : g k n θ pc lv (.long y :: .long x :: st) := by
  obtain ⟨p, l, e, s, m, args, below, meth, c, D, A, τ, ρ0, n0, Q, ⟨hx, hb, hts, hown, hnm, hml⟩, ⟨hK, hA, hT⟩, rfl⟩ := C
  exact fun ρ H locs ls h1 h3 h4 h5 h6 => W.lcmp hx hb d  (kk ρ H locs ls h1 h3 h4 h5 h6)
theorem r_lconst (C : Sem cc own nm nL R g) {z : Fin 2} {v : Int64} (d : decode cc pc = .ok (.lconst z, 1)) (hv : Int64.ofNat (z : Nat) = v) (kk : g k n θ (pc + 1) lv (.long v :: st)) : g k n θ pc lv (st) := by
  obtain ⟨p, l, e, s, m, args, below, meth, c, D, A, τ, ρ0, n0, Q, ⟨hx, hb, hts, hown, hnm, hml⟩, ⟨hK, hA, hT⟩, rfl⟩ := C
  exact fun ρ H locs ls h1 h3 h4 h5 h6 => lv_lconst hx hb d hv (kk ρ H locs ls h1 h3 h4 h5 h6)
theorem r_dup (C : Sem cc own nm nL R g) {va : Value} (d : decode cc pc = .ok (.dup, 1)) (hva : va.category = 1) (kk : g k n θ (pc + 1) lv (va :: va :: st)) : g k n θ pc lv (va :: st) := by
  obtain ⟨p, l, e, s, m, args, below, meth, c, D, A, τ, ρ0, n0, Q, ⟨hx, hb, hts, hown, hnm, hml⟩, ⟨hK, hA, hT⟩, rfl⟩ := C
  exact fun ρ H locs ls h1 h3 h4 h5 h6 => lv_dup hx hb d ((xV_cat ρ va).trans hva) (kk ρ H locs ls h1 h3 h4 h5 h6)
theorem r_dup2_11 (C : Sem cc own nm nL R g) {va vb : Value} (d : decode cc pc = .ok (.dup2, 1)) (hva : va.category = 1) (hvb : vb.category = 1) (kk : g k n θ (pc + 1) lv (va :: vb :: va :: vb :: st)) : g k n θ pc lv (va :: vb :: st) := by
  obtain ⟨p, l, e, s, m, args, below, meth, c, D, A, τ, ρ0, n0, Q, ⟨hx, hb, hts, hown, hnm, hml⟩, ⟨hK, hA, hT⟩, rfl⟩ := C
  exact fun ρ H locs ls h1 h3 h4 h5 h6 => lv_dup2_11 hx hb d ((xV_cat ρ va).trans hva) ((xV_cat ρ vb).trans hvb) (kk ρ H locs ls h1 h3 h4 h5 h6)
theorem r_pop (C : Sem cc own nm nL R g) {va : Value} (d : decode cc pc = .ok (.pop, 1)) (hva : va.category = 1) (kk : g k n θ (pc + 1) lv (st)) : g k n θ pc lv (va :: st) := by
  obtain ⟨p, l, e, s, m, args, below, meth, c, D, A, τ, ρ0, n0, Q, ⟨hx, hb, hts, hown, hnm, hml⟩, ⟨hK, hA, hT⟩, rfl⟩ := C
  exact fun ρ H locs ls h1 h3 h4 h5 h6 => lv_pop hx hb d ((xV_cat ρ va).trans hva) (kk ρ H locs ls h1 h3 h4 h5 h6)
theorem r_ldc2 (C : Sem cc own nm nL R g) {ix : Nat} {v : Int64} (d : decode cc pc = .ok (.ldc2_w ix, 3)) (hw : Cond.constantLong own ix v ∈ TT) (kk : g k n θ (pc + 3) lv (.long v :: st)) : g k n θ pc lv st := by
  obtain ⟨p, l, e, s, m, args, below, meth, c, D, A, τ, ρ0, n0, Q, ⟨hx, hb, hts, hown, hnm, hml⟩, ⟨hK, hA, hT⟩, rfl⟩ := C
  exact fun ρ H locs ls h1 h3 h4 h5 h6 => lv_ldc2 hx hb hown (hts _ hw) d (kk ρ H locs ls h1 h3 h4 h5 h6)
theorem r_if_eq (C : Sem cc own nm nL R g) {x : Int32} {off : Int} {tgt : Nat} (d : decode cc pc = .ok (.ifCond .eq off, 3)) (ht : (pc : Int) + off = (tgt : Int)) (kt : x = 0 → g k n θ tgt lv st) (kf : ¬ x = 0 → g k n θ (pc + 3) lv st) : g k n θ pc lv (.int x :: st) := by
  obtain ⟨p, l, e, s, m, args, below, meth, c, D, A, τ, ρ0, n0, Q, ⟨hx, hb, hts, hown, hnm, hml⟩, ⟨hK, hA, hT⟩, rfl⟩ := C
  exact fun ρ H locs ls h1 h3 h4 h5 h6 => lv_if_eq hx hb d ht (fun q => kt q ρ H locs ls h1 h3 h4 h5 h6) (fun q => kf q ρ H locs ls h1 h3 h4 h5 h6)
theorem r_icmp_eq (C : Sem cc own nm nL R g) {x y : Int32} {off : Int} {tgt : Nat} (d : decode cc pc = .ok (.if_icmp .eq off, 3)) (ht : (pc : Int) + off = (tgt : Int)) (kt : x = y → g k n θ tgt lv st) (kf : ¬ x = y → g k n θ (pc + 3) lv st) : g k n θ pc lv (.int y :: .int x :: st) := by
  obtain ⟨p, l, e, s, m, args, below, meth, c, D, A, τ, ρ0, n0, Q, ⟨hx, hb, hts, hown, hnm, hml⟩, ⟨hK, hA, hT⟩, rfl⟩ := C
  exact fun ρ H locs ls h1 h3 h4 h5 h6 => lv_icmp_eq hx hb d ht (fun q => kt q ρ H locs ls h1 h3 h4 h5 h6) (fun q => kf q ρ H locs ls h1 h3 h4 h5 h6)
theorem r_if_ne (C : Sem cc own nm nL R g) {x : Int32} {off : Int} {tgt : Nat} (d : decode cc pc = .ok (.ifCond .ne off, 3)) (ht : (pc : Int) + off = (tgt : Int)) (kt : ¬ x = 0 → g k n θ tgt lv st) (kf : x = 0 → g k n θ (pc + 3) lv st) : g k n θ pc lv (.int x :: st) := by
  obtain ⟨p, l, e, s, m, args, below, meth, c, D, A, τ, ρ0, n0, Q, ⟨hx, hb, hts, hown, hnm, hml⟩, ⟨hK, hA, hT⟩, rfl⟩ := C
  exact fun ρ H locs ls h1 h3 h4 h5 h6 => lv_if_ne hx hb d ht (fun q => kt q ρ H locs ls h1 h3 h4 h5 h6) (fun q => kf q ρ H locs ls h1 h3 h4 h5 h6)
theorem r_icmp_ne (C : Sem cc own nm nL R g) {x y : Int32} {off : Int} {tgt : Nat} (d : decode cc pc = .ok (.if_icmp .ne off, 3)) (ht : (pc : Int) + off = (tgt : Int)) (kt : ¬ x = y → g k n θ tgt lv st) (kf : x = y → g k n θ (pc + 3) lv st) : g k n θ pc lv (.int y :: .int x :: st) := by
  obtain ⟨p, l, e, s, m, args, below, meth, c, D, A, τ, ρ0, n0, Q, ⟨hx, hb, hts, hown, hnm, hml⟩, ⟨hK, hA, hT⟩, rfl⟩ := C
  exact fun ρ H locs ls h1 h3 h4 h5 h6 => lv_icmp_ne hx hb d ht (fun q => kt q ρ H locs ls h1 h3 h4 h5 h6) (fun q => kf q ρ H locs ls h1 h3 h4 h5 h6)
theorem r_if_lt (C : Sem cc own nm nL R g) {x : Int32} {off : Int} {tgt : Nat} (d : decode cc pc = .ok (.ifCond .lt off, 3)) (ht : (pc : Int) + off = (tgt : Int)) (kt : x < 0 → g k n θ tgt lv st) (kf : ¬ x < 0 → g k n θ (pc + 3) lv st) : g k n θ pc lv (.int x :: st) := by
  obtain ⟨p, l, e, s, m, args, below, meth, c, D, A, τ, ρ0, n0, Q, ⟨hx, hb, hts, hown, hnm, hml⟩, ⟨hK, hA, hT⟩, rfl⟩ := C
  exact fun ρ H locs ls h1 h3 h4 h5 h6 => lv_if_lt hx hb d ht (fun q => kt q ρ H locs ls h1 h3 h4 h5 h6) (fun q => kf q ρ H locs ls h1 h3 h4 h5 h6)
theorem r_icmp_lt (C : Sem cc own nm nL R g) {x y : Int32} {off : Int} {tgt : Nat} (d : decode cc pc = .ok (.if_icmp .lt off, 3)) (ht : (pc : Int) + off = (tgt : Int)) (kt : x < y → g k n θ tgt lv st) (kf : ¬ x < y → g k n θ (pc + 3) lv st) : g k n θ pc lv (.int y :: .int x :: st) := by
  obtain ⟨p, l, e, s, m, args, below, meth, c, D, A, τ, ρ0, n0, Q, ⟨hx, hb, hts, hown, hnm, hml⟩, ⟨hK, hA, hT⟩, rfl⟩ := C
  exact fun ρ H locs ls h1 h3 h4 h5 h6 => lv_icmp_lt hx hb d ht (fun q => kt q ρ H locs ls h1 h3 h4 h5 h6) (fun q => kf q ρ H locs ls h1 h3 h4 h5 h6)
theorem r_if_ge (C : Sem cc own nm nL R g) {x : Int32} {off : Int} {tgt : Nat} (d : decode cc pc = .ok (.ifCond .ge off, 3)) (ht : (pc : Int) + off = (tgt : Int)) (kt : 0 ≤ x → g k n θ tgt lv st) (kf : ¬ 0 ≤ x → g k n θ (pc + 3) lv st) : g k n θ pc lv (.int x :: st) := by
  obtain ⟨p, l, e, s, m, args, below, meth, c, D, A, τ, ρ0, n0, Q, ⟨hx, hb, hts, hown, hnm, hml⟩, ⟨hK, hA, hT⟩, rfl⟩ := C
  exact fun ρ H locs ls h1 h3 h4 h5 h6 => lv_if_ge hx hb d ht (fun q => kt q ρ H locs ls h1 h3 h4 h5 h6) (fun q => kf q ρ H locs ls h1 h3 h4 h5 h6)
theorem r_icmp_ge (C : Sem cc own nm nL R g) {x y : Int32} {off : Int} {tgt : Nat} (d : decode cc pc = .ok (.if_icmp .ge off, 3)) (ht : (pc : Int) + off = (tgt : Int)) (kt : y ≤ x → g k n θ tgt lv st) (kf : ¬ y ≤ x → g k n θ (pc + 3) lv st) : g k n θ pc lv (.int y :: .int x :: st) := by
  obtain ⟨p, l, e, s, m, args, below, meth, c, D, A, τ, ρ0, n0, Q, ⟨hx, hb, hts, hown, hnm, hml⟩, ⟨hK, hA, hT⟩, rfl⟩ := C
  exact fun ρ H locs ls h1 h3 h4 h5 h6 => lv_icmp_ge hx hb d ht (fun q => kt q ρ H locs ls h1 h3 h4 h5 h6) (fun q => kf q ρ H locs ls h1 h3 h4 h5 h6)
theorem r_if_gt (C : Sem cc own nm nL R g) {x : Int32} {off : Int} {tgt : Nat} (d : decode cc pc = .ok (.ifCond .gt off, 3)) (ht : (pc : Int) + off = (tgt : Int)) (kt : 0 < x → g k n θ tgt lv st) (kf : ¬ 0 < x → g k n θ (pc + 3) lv st) : g k n θ pc lv (.int x :: st) := by
  obtain ⟨p, l, e, s, m, args, below, meth, c, D, A, τ, ρ0, n0, Q, ⟨hx, hb, hts, hown, hnm, hml⟩, ⟨hK, hA, hT⟩, rfl⟩ := C
  exact fun ρ H locs ls h1 h3 h4 h5 h6 => lv_if_gt hx hb d ht (fun q => kt q ρ H locs ls h1 h3 h4 h5 h6) (fun q => kf q ρ H locs ls h1 h3 h4 h5 h6)
theorem r_icmp_gt (C : Sem cc own nm nL R g) {x y : Int32} {off : Int} {tgt : Nat} (d : decode cc pc = .ok (.if_icmp .gt off, 3)) (ht : (pc : Int) + off = (tgt : Int)) (kt : y < x → g k n θ tgt lv st) (kf : ¬ y < x → g k n θ (pc + 3) lv st) : g k n θ pc lv (.int y :: .int x :: st) := by
  obtain ⟨p, l, e, s, m, args, below, meth, c, D, A, τ, ρ0, n0, Q, ⟨hx, hb, hts, hown, hnm, hml⟩, ⟨hK, hA, hT⟩, rfl⟩ := C
  exact fun ρ H locs ls h1 h3 h4 h5 h6 => lv_icmp_gt hx hb d ht (fun q => kt q ρ H locs ls h1 h3 h4 h5 h6) (fun q => kf q ρ H locs ls h1 h3 h4 h5 h6)
theorem r_if_le (C : Sem cc own nm nL R g) {x : Int32} {off : Int} {tgt : Nat} (d : decode cc pc = .ok (.ifCond .le off, 3)) (ht : (pc : Int) + off = (tgt : Int)) (kt : x ≤ 0 → g k n θ tgt lv st) (kf : ¬ x ≤ 0 → g k n θ (pc + 3) lv st) : g k n θ pc lv (.int x :: st) := by
  obtain ⟨p, l, e, s, m, args, below, meth, c, D, A, τ, ρ0, n0, Q, ⟨hx, hb, hts, hown, hnm, hml⟩, ⟨hK, hA, hT⟩, rfl⟩ := C
  exact fun ρ H locs ls h1 h3 h4 h5 h6 => lv_if_le hx hb d ht (fun q => kt q ρ H locs ls h1 h3 h4 h5 h6) (fun q => kf q ρ H locs ls h1 h3 h4 h5 h6)
theorem r_icmp_le (C : Sem cc own nm nL R g) {x y : Int32} {off : Int} {tgt : Nat} (d : decode cc pc = .ok (.if_icmp .le off, 3)) (ht : (pc : Int) + off = (tgt : Int)) (kt : x ≤ y → g k n θ tgt lv st) (kf : ¬ x ≤ y → g k n θ (pc + 3) lv st) : g k n θ pc lv (.int y :: .int x :: st) := by
  obtain ⟨p, l, e, s, m, args, below, meth, c, D, A, τ, ρ0, n0, Q, ⟨hx, hb, hts, hown, hnm, hml⟩, ⟨hK, hA, hT⟩, rfl⟩ := C
  exact fun ρ H locs ls h1 h3 h4 h5 h6 => lv_icmp_le hx hb d ht (fun q => kt q ρ H locs ls h1 h3 h4 h5 h6) (fun q => kf q ρ H locs ls h1 h3 h4 h5 h6)
theorem r_goto (C : Sem cc own nm nL R g) {off : Int} {tgt : Nat} (d : decode cc pc = .ok (.goto off, 3)) (ht : (pc : Int) + off = (tgt : Int)) (kk : g k n θ tgt lv st) : g k n θ pc lv st := by
  obtain ⟨p, l, e, s, m, args, below, meth, c, D, A, τ, ρ0, n0, Q, ⟨hx, hb, hts, hown, hnm, hml⟩, ⟨hK, hA, hT⟩, rfl⟩ := C
  exact fun ρ H locs ls h1 h3 h4 h5 h6 => lv_goto hx hb d ht (kk ρ H locs ls h1 h3 h4 h5 h6)
theorem r_iinc (C : Sem cc own nm nL R g) {i : Nat} {z : Int} {x v : Int32} {lv' : List (Option Value)} (d : decode cc pc = .ok (.iinc i z, 3)) (hl0 : lv[i]? = some (some (.int x))) (hv : x + Int32.ofInt z = v) (hf : xN lv i) (hl : lv.set i (some (.int v)) = lv') (kk : g k n θ (pc + 3) lv' st) : g k n θ pc lv st := by
  obtain ⟨p, l, e, s, m, args, below, meth, c, D, A, τ, ρ0, n0, Q, ⟨hx, hb, hts, hown, hnm, hml⟩, ⟨hK, hA, hT⟩, rfl⟩ := C
  subst hl
  intro ρ H locs ls h1 h3 h4 h5 h6
  have hn : i < lv.length := (List.getElem?_eq_some_iff.mp hl0).1
  obtain ⟨q, hq⟩ := List.getElem?_of_mem (xLl_in (ρ := ρ) (lv := lv) (q := (i, .int x)) |>.mpr ⟨.int x, hl0, rfl⟩)
  exact lv_iinc hx hb d (xL_has h6) hq hv hn rfl (fun ls' h => kk ρ H locs ls' h1 h3 h4 h5 (xL_set1 (v := .int v) hn hf h))
theorem r_tableOut (C : Sem cc own nm nL R g) {dflt lo hi : Int} {offs : Array Int} {len : Nat} {x : Int32} {tgt : Nat} (d : decode cc pc = .ok (.tableswitch dflt lo hi offs, len)) (h : x.toInt < lo ∨ hi < x.toInt) (ht : (pc : Int) + dflt = (tgt : Int)) (kk : g k n θ tgt lv st) : g k n θ pc lv (.int x :: st) := by
  obtain ⟨p, l, e, s, m, args, below, meth, c, D, A, τ, ρ0, n0, Q, ⟨hx, hb, hts, hown, hnm, hml⟩, ⟨hK, hA, hT⟩, rfl⟩ := C
  exact fun ρ H locs ls h1 h3 h4 h5 h6 => lv_tableOut hx hb d h ht (kk ρ H locs ls h1 h3 h4 h5 h6)
theorem r_tableIn (C : Sem cc own nm nL R g) {dflt lo hi : Int} {offs : Array Int} {len : Nat} {x : Int32} {off : Int} {tgt : Nat} (d : decode cc pc = .ok (.tableswitch dflt lo hi offs, len)) (q1 : ¬ x.toInt < lo) (q2 : ¬ hi < x.toInt) (ho : offs[(x.toInt - lo).toNat]? = some off) (ht : (pc : Int) + off = (tgt : Int)) (kk : g k n θ tgt lv st) : g k n θ pc lv (.int x :: st) := by
  obtain ⟨p, l, e, s, m, args, below, meth, c, D, A, τ, ρ0, n0, Q, ⟨hx, hb, hts, hown, hnm, hml⟩, ⟨hK, hA, hT⟩, rfl⟩ := C
  exact fun ρ H locs ls h1 h3 h4 h5 h6 => lv_tableIn hx hb d q1 q2 ho ht (kk ρ H locs ls h1 h3 h4 h5 h6)
theorem r_lookup (C : Sem cc own nm nL R g) {dflt : Int} {ps : Array (Int × Int)} {len : Nat} {x : Int32} {off : Int} {tgt : Nat} (d : decode cc pc = .ok (.lookupswitch dflt ps, len)) (hp : (ps.toList.zip (ps.toList.drop 1)).all (fun (a, next) => a.1 < next.1) = true) (ho : Op.lookupswitch.offset ps.toList dflt x.toInt = off) (ht : (pc : Int) + off = (tgt : Int)) (kk : g k n θ tgt lv st) : g k n θ pc lv (.int x :: st) := by
  obtain ⟨p, l, e, s, m, args, below, meth, c, D, A, τ, ρ0, n0, Q, ⟨hx, hb, hts, hown, hnm, hml⟩, ⟨hK, hA, hT⟩, rfl⟩ := C
  exact fun ρ H locs ls h1 h3 h4 h5 h6 => lv_lookup hx hb d hp ho ht (kk ρ H locs ls h1 h3 h4 h5 h6)
/-- a field of the class number ci, by the pool's place ix of the class own -/
def xF (own : String) (ix ci fk : Nat) : Prop := ∃ (C : String) (T : u_T) (N : Nat), vwCl[ci]? = some (C, T, N) ∧ fk < N ∧ Cond.fieldLink own ix (T fk).1 (T fk).2.1 (T fk).2.2.1 ∈ TT ∧ (∀ w ∈ u_ws C T N, w ∈ TT) ∧ (∃ ty : Nat → FieldType, ∀ j, j < N → parseFieldDescriptor (T j).2.2.1 = some (ty j)) ∧ (∀ a, a < N → ∀ b, b < N → a ≠ b → (T a).2.1 ≠ (T b).2.1)
def xFt (ci fk : Nat) (fin : Bool) (ty : FieldType) : Prop := match vwCl[ci]? with
  | some q => (q.2.1 fk).2.2.2 = fin ∧ parseFieldDescriptor (q.2.1 fk).2.2.1 = some ty ∧ (fin = true → (q.2.1 fk).1 = q.1)
  | none => False
theorem r_getfield (C : Sem cc own nm nL R g) {ix a ci fk : Nat} {fs : List Value} {v : Value} (F : xF own ix ci fk) (d : decode cc pc = .ok (.getfield ix, 3)) (hθ : θ[a]? = some (.inr (ci, fs))) (hv : fs[fk]? = some v) (kk : g k n θ (pc + 3) lv (v :: st)) : g k n θ pc lv (.ref a :: st) := by
  obtain ⟨p, l, e, s, m, args, below, meth, c, D, A, τ, ρ0, n0, Q, ⟨hx, hb, hts, hown, hnm, hml⟩, ⟨hK, hA, hT⟩, rfl⟩ := C
  obtain ⟨cn, T, N, a1, a2, a3, a4, a5, a6⟩ := F
  intro ρ H locs ls h1 h3 h4 h5 h6
  exact va_get (D := D) (cl := vwCl) hx hb hts a4 hown hK h3 a (xW_at hθ) a1 fk a2 (hts _ a3) (fun _ h9 => h9) (by rw [List.getElem?_map, hv]; rfl) d (kk ρ H locs ls h1 h3 h4 h5 h6)
theorem r_putfield (C : Sem cc own nm nL R g) {ix a ci fk : Nat} {fs : List Value} {v : Value} {ty : FieldType} {θ' : List xE} (F : xF own ix ci fk) (Ft : xFt ci fk false ty) (d : decode cc pc = .ok (.putfield ix, 3)) (hθ : θ[a]? = some (.inr (ci, fs))) (hv : fk < fs.length) (hn : ∀ ρ, narrow ty (xV ρ v) = xV ρ v ∧ fits ty (xV ρ v) = true) (hs : θ.set a (.inr (ci, fs.set fk v)) = θ') (kk : g k n θ' (pc + 3) lv st) : g k n θ pc lv (v :: .ref a :: st) := by
  obtain ⟨p, l, e, s, m, args, below, meth, c, D, A, τ, ρ0, n0, Q, ⟨hx, hb, hts, hown, hnm, hml⟩, ⟨hK, hA, hT⟩, rfl⟩ := C
  obtain ⟨cn, T, N, a1, a2, a3, a4, ⟨tys, a5⟩, a6⟩ := F
  simp only [xFt, a1] at Ft
  intro ρ H locs ls h1 h3 h4 h5 h6
  subst hs
  refine va_put (D := D) (cl := vwCl) hx hb hts a4 tys a5 a6 hown hK h3 h4 h5 a (xW_at hθ) a1 fk a2 (hts _ a3) (fun _ h9 => h9) Ft.1 Ft.2.1 (hn ρ).1 (hn ρ).2 (by rw [List.length_map]; exact hv) d (fun H1 locs1 w1 w2 w3 => ?_)
  have e1 : (xW ρ τ θ).set a (ρ a, .inr (ci, (fs.map (xV ρ)).set fk (xV ρ v))) = xW ρ τ (θ.set a (.inr (ci, fs.set fk v))) := by
    rw [← xW_set]
    simp only [xC, List.map_set]
  rw [e1] at w1 w2
  exact kk ρ H1 locs1 ls (by rw [List.length_set]; exact h1) w1 w2 w3 h6
theorem r_iaload (C : Sem cc own nm nL R g) {a N : Nat} {f : Nat → Int32} {x v : Int32} (j : Nat) (d : decode cc pc = .ok (.iaload, 1)) (hθ : θ[a]? = some (.inl (0, N, .inl f))) (hi : x = nI j) (hj : j < N) (hv : f j = v) (kk : g k n θ (pc + 1) lv (.int v :: st)) (hN : N < 2 ^ 31 := by decide) : g k n θ pc lv (.int x :: .ref a :: st) := by
  obtain ⟨p, l, e, s, m, args, below, meth, c, D, A, τ, ρ0, n0, Q, ⟨hx, hb, hts, hown, hnm, hml⟩, ⟨hK, hA, hT⟩, rfl⟩ := C
  intro ρ H locs ls h1 h3 h4 h5 h6
  subst hi
  subst hv
  have e1 : (nI j).toNatClampNeg = j := nI_clamp (Nat.lt_trans hj hN)
  refine va_iald (D := D) (cl := vwCl) (tys := xT τ) hx hb hK h3 a 0 (cA := τ 0) (n := N) (f := f) (xW_at hθ) rfl (vp_in_nI hj hN) d ?_
  rw [e1]
  exact kk ρ H locs ls h1 h3 h4 h5 h6
theorem r_iastore (C : Sem cc own nm nL R g) {a N : Nat} {f : Nat → Int32} {x : Int32} {y : Int32} {θ' : List xE} (j : Nat) (d : decode cc pc = .ok (.iastore, 1)) (hθ : θ[a]? = some (.inl (0, N, .inl f))) (hi : x = nI j) (hj : j < N)  (hs : θ.set a (.inl (0, N, .inl (upd f j y))) = θ') (kk : g k n θ' (pc + 1) lv st) (hN : N < 2 ^ 31 := by decide) : g k n θ pc lv (.int y :: .int x :: .ref a :: st) := by
  obtain ⟨p, l, e, s, m, args, below, meth, c, D, A, τ, ρ0, n0, Q, ⟨hx, hb, hts, hown, hnm, hml⟩, ⟨hK, hA, hT⟩, rfl⟩ := C
  intro ρ H locs ls h1 h3 h4 h5 h6
  subst hi
  subst hs
  have e1 : (nI j).toNatClampNeg = j := nI_clamp (Nat.lt_trans hj hN)
  refine va_iast (D := D) (cl := vwCl) (tys := xT τ) hx hb hK h3 h4 h5 a 0 (cA := τ 0) (n := N) (f := f) (xW_at hθ) rfl (vp_in_nI hj hN) d (fun H1 locs1 w1 w2 w3 => ?_)
  rw [e1] at w1 w2
  exact kk ρ H1 locs1 ls (by rw [List.length_set]; exact h1) (xW_set (ρ := ρ) (τ := τ) (θ := θ) (i := a) ▸ w1) (xW_set (ρ := ρ) (τ := τ) (θ := θ) (i := a) ▸ w2) w3 h6
theorem r_baload (C : Sem cc own nm nL R g) {a N : Nat} {f : Nat → Int32} {x v : Int32} (j : Nat) (d : decode cc pc = .ok (.baload, 1)) (hθ : θ[a]? = some (.inl (1, N, .inl f))) (hi : x = nI j) (hj : j < N) (hv : f j = v) (kk : g k n θ (pc + 1) lv (.int v :: st)) (hN : N < 2 ^ 31 := by decide) : g k n θ pc lv (.int x :: .ref a :: st) := by
  obtain ⟨p, l, e, s, m, args, below, meth, c, D, A, τ, ρ0, n0, Q, ⟨hx, hb, hts, hown, hnm, hml⟩, ⟨hK, hA, hT⟩, rfl⟩ := C
  intro ρ H locs ls h1 h3 h4 h5 h6
  subst hi
  subst hv
  have e1 : (nI j).toNatClampNeg = j := nI_clamp (Nat.lt_trans hj hN)
  refine va_zald (D := D) (cl := vwCl) (tys := xT τ) hx hb hK h3 a 1 (cA := τ 1) (n := N) (f := f) (xW_at hθ) rfl (vp_in_nI hj hN) d ?_
  rw [e1]
  exact kk ρ H locs ls h1 h3 h4 h5 h6
theorem r_bastore (C : Sem cc own nm nL R g) {a N : Nat} {f : Nat → Int32} {x : Int32} {y0 y : Int32} {θ' : List xE} (j : Nat) (d : decode cc pc = .ok (.bastore, 1)) (hθ : θ[a]? = some (.inl (1, N, .inl f))) (hi : x = nI j) (hj : j < N) (hy : vp_nar .boolean y0 = y) (hs : θ.set a (.inl (1, N, .inl (upd f j y))) = θ') (kk : g k n θ' (pc + 1) lv st) (hN : N < 2 ^ 31 := by decide) : g k n θ pc lv (.int y0 :: .int x :: .ref a :: st) := by
  obtain ⟨p, l, e, s, m, args, below, meth, c, D, A, τ, ρ0, n0, Q, ⟨hx, hb, hts, hown, hnm, hml⟩, ⟨hK, hA, hT⟩, rfl⟩ := C
  intro ρ H locs ls h1 h3 h4 h5 h6
  subst hi
  subst hs
  subst hy
  have e1 : (nI j).toNatClampNeg = j := nI_clamp (Nat.lt_trans hj hN)
  refine va_zast (D := D) (cl := vwCl) (tys := xT τ) hx hb hK h3 h4 h5 a 1 (cA := τ 1) (n := N) (f := f) (xW_at hθ) rfl (vp_in_nI hj hN) d (fun H1 locs1 w1 w2 w3 => ?_)
  rw [e1] at w1 w2
  exact kk ρ H1 locs1 ls (by rw [List.length_set]; exact h1) (xW_set (ρ := ρ) (τ := τ) (θ := θ) (i := a) ▸ w1) (xW_set (ρ := ρ) (τ := τ) (θ := θ) (i := a) ▸ w2) w3 h6
theorem r_aaload (C : Sem cc own nm nL R g) {a N t b : Nat} {f : Nat → Option Nat} {x : Int32} {cn : String} (j : Nat) (d : decode cc pc = .ok (.aaload, 1)) (hθ : θ[a]? = some (.inl (t, N, .inr (.inr (.inr (.inr f)))))) (ht : ∀ τ : Nat → ClassId, (xT τ)[t]? = some (τ t, .object cn)) (hi : x = nI j) (hj : j < N) (hv : f j = some b) (kk : g k n θ (pc + 1) lv (.ref b :: st)) (hN : N < 2 ^ 31 := by decide) : g k n θ pc lv (.int x :: .ref a :: st) := by
  obtain ⟨p, l, e, s, m, args, below, meth, c, D, A, τ, ρ0, n0, Q, ⟨hx, hb, hts, hown, hnm, hml⟩, ⟨hK, hA, hT⟩, rfl⟩ := C
  intro ρ H locs ls h1 h3 h4 h5 h6
  subst hi
  have e1 : (nI j).toNatClampNeg = j := nI_clamp (Nat.lt_trans hj hN)
  refine va_aldq (D := D) (cl := vwCl) (tys := xT τ) hx hb hK h3 a t (cA := τ t) (C := cn) (n := N) (f := fun q => (f q).map ρ) (xW_at hθ) (ht τ) (vp_in_nI hj hN) d ?_
  rw [e1, hv]
  exact kk ρ H locs ls h1 h3 h4 h5 h6
end FW
end
section
/-! ===== calls ===== -/
def xEr (σ : Nat → Nat) (x : xE) : xE := match x with
  | .inl a => .inl (a.1, xA σ a.2)
  | .inr o => .inr (o.1, o.2.map (xV σ))
theorem xV_xV (ρ σ : Nat → Nat) (v : Value) : xV ρ (xV σ v) = xV (fun i => ρ (σ i)) v := by cases v <;> rfl
theorem xA_xA (ρ σ : Nat → Nat) (a : vp_A) : xA ρ (xA σ a) = xA (fun i => ρ (σ i)) a := by
  obtain ⟨n, a⟩ := a
  rcases a with a | a | a | a | a <;> simp [xA, Function.comp_def]
theorem xC_xEr (ρ σ : Nat → Nat) (τ : Nat → ClassId) (x : xE) : xC ρ τ (xEr σ x) = xC (fun i => ρ (σ i)) τ x := by
  rcases x with a | o
  · simp only [xEr, xC, xA_xA]
  · simp only [xEr, xC, List.map_map]
    congr 2
    apply List.map_congr_left
    intro v _
    exact xV_xV ρ σ v
/-- the caller's place of the callee's place i -/
def xS (is : List Nat) (base : Nat) : Nat → Nat := fun i => match is[i]? with
  | some a => a
  | none => base + (i - is.length)
def xSet : List xE → List Nat → List xE → List xE
  | θ, i :: is, x :: xs => xSet (θ.set i x) is xs
  | θ, _, _ => θ
theorem xSet_len : ∀ (is : List Nat) (θ xs : List xE), (xSet θ is xs).length = θ.length
  | [], θ, xs => by cases xs <;> rfl
  | i :: is, θ, [] => rfl
  | i :: is, θ, x :: xs => by
    show (xSet (θ.set i x) is xs).length = _
    rw [xSet_len is, List.length_set]
theorem xSet_out : ∀ (is : List Nat) (θ xs : List xE) (i : Nat), i ∉ is → (xSet θ is xs)[i]? = θ[i]?
  | [], θ, xs, i, _ => by cases xs <;> rfl
  | a :: is, θ, [], i, _ => rfl
  | a :: is, θ, x :: xs, i, h => by
    show (xSet (θ.set a x) is xs)[i]? = _
    rw [xSet_out is _ _ _ (fun q => h (List.mem_cons_of_mem _ q)), List.getElem?_set_ne (fun q => h (by rw [q]; exact List.mem_cons_self))]
theorem xSet_in : ∀ (is : List Nat) (θ xs : List xE) (j i : Nat) (x : xE), is.Nodup → is[j]? = some i → xs[j]? = some x → i < θ.length → (xSet θ is xs)[i]? = some x
  | [], θ, xs, j, i, x, _, h, _, _ => by simp at h
  | a :: is, θ, [], j, i, x, _, _, h, _ => by simp at h
  | a :: is, θ, y :: xs, 0, i, x, hn, h, hx, hi => by
    simp only [List.getElem?_cons_zero, Option.some.injEq] at h hx
    subst h; subst hx
    show (xSet (θ.set a y) is xs)[a]? = _
    rw [xSet_out is _ _ _ (List.nodup_cons.mp hn).1, List.getElem?_set_self hi]
  | a :: is, θ, y :: xs, j + 1, i, x, hn, h, hx, hi => by
    simp only [List.getElem?_cons_succ] at h hx
    show (xSet (θ.set a y) is xs)[i]? = _
    exact xSet_in is _ _ j i x (List.nodup_cons.mp hn).2 h hx (by rw [List.length_set]; exact hi)
theorem xD_iff {A : Nat → Prop} {ρ : Nat → Nat} {τ : Nat → ClassId} {θ : List xE} : va_D A (xW ρ τ θ) ↔ (∀ i j, i < θ.length → j < θ.length → ρ i = ρ j → i = j) ∧ ∀ i, i < θ.length → A (ρ i) := by
  have hg : ∀ i, i < θ.length → ∃ x, (xW ρ τ θ)[i]? = some (ρ i, x) := fun i hi => ⟨_, xW_at (List.getElem?_eq_getElem hi)⟩
  have hb : ∀ (i : Nat) (q : Nat × va_E), (xW ρ τ θ)[i]? = some q → i < θ.length ∧ q.1 = ρ i := by
    intro i q hq
    rw [xW_get] at hq
    cases h : θ[i]? with
    | none => rw [h] at hq; cases hq
    | some x =>
      rw [h] at hq
      cases hq
      exact ⟨(List.getElem?_eq_some_iff.mp h).1, rfl⟩
  constructor
  · rintro ⟨h1, h2⟩
    refine ⟨fun i j hi hj e => ?_, fun i hi => ?_⟩
    · obtain ⟨x, hx⟩ := hg i hi
      obtain ⟨y, hy⟩ := hg j hj
      exact h1 i j _ _ hx hy e
    · obtain ⟨x, hx⟩ := hg i hi
      exact h2 i _ hx
  · rintro ⟨h1, h2⟩
    refine ⟨fun i j p q hp hq e => ?_, fun i q hq => ?_⟩
    · obtain ⟨a1, a2⟩ := hb i p hp
      obtain ⟨b1, b2⟩ := hb j q hq
      exact h1 i j a1 b1 (by rw [← a2, ← b2]; exact e)
    · obtain ⟨a1, a2⟩ := hb i q hq
      rw [a2]
      exact h2 i a1
def xPre (D : va_G) (τ : Nat → ClassId) (ρ : Nat → Nat) (θ : List xE) (sz : Nat) (U : State) : Prop := U.heap.size = sz ∧ va_P D vwCl (xW ρ τ θ) U.heap ∧ va_K D vwCl (xT τ) U ∧ va_D (fun _ => True) (xW ρ τ θ) ∧ (xTab (va_A (xW ρ τ θ) sz) U ∧ xNest U)
def xPost (D : va_G) (τ : Nat → ClassId) (ρ : Nat → Nat) (θ : List xE) (sz : Nat) (fin : Option Value → List xE → Prop) : Array Value → State → Outcome → State → Prop := fun _ st oc t => (∃ (r : Option Value) (θ' : List xE) (nw : List Nat), oc = .returned (r.map (xV (xX ρ θ.length nw))) ∧ θ'.length = θ.length + nw.length ∧ fin r θ' ∧ va_P D vwCl (xW (xX ρ θ.length nw) τ θ') t.heap ∧ va_D (va_A (xW ρ τ θ) sz) (xW (xX ρ θ.length nw) τ θ')) ∧ va_F (va_A (xW ρ τ θ) sz) st t
/-- a method's contract: from the world θ, with the arguments av, it returns, and fin holds of its answer and the world behind it -/
def MetA (y : MethodName) (ws : List Cond) (rm : Room) (av : List Value) (θ : List xE) (fin : Option Value → List xE → Prop) (mc ms : Nat) : Prop :=
  ∀ (l : Launch) (D : va_G) (τ : Nat → ClassId) (ρ : Nat → Nat) (sz : Nat), Met l y ws rm (va_Pc (av.map (xV ρ)) (xPre D τ ρ θ sz)) (xPost D τ ρ θ sz fin) mc ms (va_A (xW ρ τ θ) sz)
/-- the facts of the tables that a call of the method y needs -/
def xM (C : String) (y : MethodName) (b : ByteArray) (maxL : Nat) (ret : Option FieldType) (na : Nat) : Prop := Cond.code y b maxL ret ∈ TT ∧ Cond.initialized C ∈ TT ∧ (y.cls = C ∧ y.cls ≠ "java/lang/invoke/MethodHandle" ∧ y.cls ≠ "java/lang/invoke/VarHandle" ∧ (parseMethodDescriptor y.desc).map (fun d => d.parameters.length) = some na)
def xMV (C : String) (y : MethodName) (b : ByteArray) (maxL : Nat) (ret : Option FieldType) (na : Nat) : Prop := xM C y b maxL ret na ∧ Cond.instanceMethod y ∈ TT ∧ Cond.selects C y y ∈ TT
def xMS (C : String) (y : MethodName) (b : ByteArray) (maxL : Nat) (ret : Option FieldType) (na : Nat) : Prop := xM C y b maxL ret na ∧ Cond.static y ∈ TT
theorem xGV {own C : String} {ix : Nat} {y : MethodName} {b : ByteArray} {maxL na : Nat} {ret : Option FieldType} (hm : xMV C y b maxL ret na) (hl : Cond.methodLink own ix y ∈ TT) : GoodIn TT (wsV own ix C y (.code y b maxL ret :: TT)) := by
  intro w hw
  have hT : w ∈ TT := by
    unfold wsV at hw
    rcases List.mem_append.mp hw with h | h
    · simp only [List.mem_cons, List.not_mem_nil, or_false] at h
      rcases h with rfl | rfl | rfl | rfl
      · exact hl
      · exact hm.2.1
      · exact hm.2.2
      · exact hm.1.2.1
    · rcases List.mem_cons.mp h with rfl | h
      · exact hm.1.1
      · exact h
  exact ⟨hT, good_of_word (TT_good hT)⟩
theorem xGS {own C : String} {ix : Nat} {y : MethodName} {b : ByteArray} {maxL na : Nat} {ret : Option FieldType} (hm : xMS C y b maxL ret na) (hl : Cond.methodLink own ix y ∈ TT) : GoodIn TT (va_wsS own ix y (.code y b maxL ret :: TT)) := by
  intro w hw
  have hT : w ∈ TT := by
    unfold va_wsS at hw
    rcases List.mem_append.mp hw with h | h
    · simp only [List.mem_cons, List.not_mem_nil, or_false] at h
      rcases h with rfl | rfl | rfl
      · exact hl
      · exact hm.2
      · rw [hm.1.2.2.1]; exact hm.1.2.1
    · rcases List.mem_cons.mp h with rfl | h
      · exact hm.1.1
      · exact h
  exact ⟨hT, good_of_word (TT_good hT)⟩
end
section
theorem xX_app (ρ : Nat → Nat) (n : Nat) (a b : List Nat) : xX (xX ρ n a) (n + a.length) b = xX ρ n (a ++ b) := by
  funext i
  unfold xX
  by_cases h1 : i < n
  · rw [if_pos (by omega), if_pos h1, if_pos h1]
  · by_cases h2 : i < n + a.length
    · rw [if_pos h2, if_neg h1, if_neg h1, List.getElem?_append_left (by omega)]
    · rw [if_neg h2, if_neg h1, if_neg h1, List.getElem?_append_right (by omega), show i - n - a.length = i - (n + a.length) by omega]
      have h3 : a[i - n]? = none := List.getElem?_eq_none (by omega)
      rw [h3]
theorem xX_lt {ρ : Nat → Nat} {n i : Nat} {a : List Nat} (h : i < n) : xX ρ n a i = ρ i := if_pos h
theorem xX_ge {ρ : Nat → Nat} {n i : Nat} {a : List Nat} (h : n + a.length ≤ i) : xX ρ n a i = ρ i := by
  unfold xX
  rw [if_neg (by omega), List.getElem?_eq_none (by omega)]
theorem xIs {is : List Nat} {θ θc : List xE} {σ : Nat → Nat} (hθ : is.map (fun i => θ[i]?) = θc.map (fun x => some (xEr σ x))) : is.length = θc.length ∧ ∀ (j i : Nat), is[j]? = some i → ∃ x, θc[j]? = some x ∧ θ[i]? = some (xEr σ x) := by
  have h0 := congrArg List.length hθ
  rw [List.length_map, List.length_map] at h0
  refine ⟨h0, fun j i hj => ?_⟩
  have h1 := congrArg (fun l => l[j]?) hθ
  simp only [List.getElem?_map, hj, Option.map_some] at h1
  cases hc : θc[j]? with
  | none => rw [hc] at h1; cases h1
  | some x => rw [hc] at h1; exact ⟨x, rfl, Option.some.inj h1⟩
theorem xS_lt {is : List Nat} {b j i : Nat} (h : is[j]? = some i) : xS is b j = i := by
  unfold xS
  rw [h]
theorem xS_ge {is : List Nat} {b j : Nat} (h : is.length ≤ j) : xS is b j = b + (j - is.length) := by
  unfold xS
  rw [List.getElem?_eq_none h]
section CL
variable {s : State} {D : va_G} {A : Nat → Prop} {τ : Nat → ClassId} {ρ : Nat → Nat} {θ θc : List xE} {H : Heap} {locs : List Loc} {is : List Nat}
theorem xWc_at {σ : Nat → Nat} (hθ : is.map (fun i => θ[i]?) = θc.map (fun x => some (xEr σ x))) (hσ : ∀ (j i : Nat), is[j]? = some i → σ j = i) {j : Nat} {q : Nat × va_E} (hq : (xW (fun i => ρ (σ i)) τ θc)[j]? = some q) : ∃ i, is[j]? = some i ∧ q.1 = ρ i ∧ (xW ρ τ θ)[i]? = some q := by
  obtain ⟨hl, hi⟩ := xIs hθ
  rw [xW_get] at hq
  cases hc : θc[j]? with
  | none => rw [hc] at hq; cases hq
  | some x =>
    rw [hc] at hq
    cases hq
    have hj : j < is.length := by rw [hl]; exact (List.getElem?_eq_some_iff.mp hc).1
    obtain ⟨x', h1, h2⟩ := hi j _ (List.getElem?_eq_getElem hj)
    cases hc.symm.trans h1
    refine ⟨is[j], List.getElem?_eq_getElem hj, ?_, ?_⟩
    · show ρ (σ j) = _
      rw [hσ j _ (List.getElem?_eq_getElem hj)]
    · rw [xW_at h2, xC_xEr]
      show _ = some (ρ (σ j), _)
      rw [hσ j _ (List.getElem?_eq_getElem hj)]
theorem xFree {σ : Nat → Nat} (hθ : is.map (fun i => θ[i]?) = θc.map (fun x => some (xEr σ x))) (hσ : ∀ (j i : Nat), is[j]? = some i → σ j = i) (h4 : va_D A (xW ρ τ θ)) (h5 : va_S A s.heap H locs) (hA : ∀ q : Nat, s.heap.size ≤ q → A q) : ∀ q, va_A (xW (fun i => ρ (σ i)) τ θc) H.size q → A q := by
  intro q hq
  rcases hq with ⟨j, e, hj⟩ | hq
  · obtain ⟨i, -, -, h⟩ := xWc_at hθ hσ hj
    exact h4.2 i _ h
  · exact hA q (Nat.le_trans h5.1 hq)
theorem xEnter {σ : Nat → Nat} (hθ : is.map (fun i => θ[i]?) = θc.map (fun x => some (xEr σ x))) (hσ : ∀ (j i : Nat), is[j]? = some i → σ j = i) (hnd : is.Nodup) (h3 : va_P D vwCl (xW ρ τ θ) H) (h4 : va_D A (xW ρ τ θ)) (h5 : va_S A s.heap H locs) (hK : va_K D vwCl (xT τ) s) (hA : ∀ q : Nat, s.heap.size ≤ q → A q) (hT : xTab A s ∧ xNest s) : ∀ U : State, U.heap = H → s.WarmedH U.vm → xPre D τ (fun i => ρ (σ i)) θc H.size U := by
  intro U hU hW
  subst hU
  refine ⟨rfl, fun j q hq => ?_, va_K.moved hW.alike hK, ⟨fun i j p q hp hq e => ?_, fun _ _ _ => trivial⟩, ⟨hT.1.moves hW.alike h5.2.1 (xFree hθ hσ h4 h5 hA), hT.2.warm hW⟩⟩
  · obtain ⟨i, -, -, h⟩ := xWc_at hθ hσ hq
    exact h3 i q h
  · obtain ⟨a, a1, -, a2⟩ := xWc_at hθ hσ hp
    obtain ⟨b, b1, -, b2⟩ := xWc_at hθ hσ hq
    have hab := h4.1 a b p q a2 b2 e
    subst hab
    exact ((List.getElem?_inj (List.getElem?_eq_some_iff.mp a1).1 hnd).mp (a1.trans b1.symm))
theorem xBlind {av : List Value} {sz : Nat} : FrameBlind (va_Pc av (xPre D τ ρ θ sz)) := by
  rintro a U g mk ⟨q0, q1, qP, qK, qD, qT⟩
  exact ⟨q0, q1, qP, va_K.moved (u := U) (U := U.calling g mk a) (Vm.Alike.refl U.vm) qK, qD, ⟨qT.1.moves (u := U) (U := U.calling g mk a) (Vm.Alike.refl U.vm) (fun _ _ _ => rfl) (fun _ h => h), qT.2.same (u := U) (U := U.calling g mk a) rfl⟩⟩
def xAft (θ : List xE) (is : List Nat) (θ' : List xE) : List xE := xSet θ is ((θ'.take is.length).map (xEr (xS is θ.length))) ++ (θ'.drop is.length).map (xEr (xS is θ.length))
theorem xLeave {θ' : List xE} {nw : List Nat} {H1 : Heap} (hθ : is.map (fun i => θ[i]?) = θc.map (fun x => some (xEr (xS is θ.length) x))) (hnd : is.Nodup) (h3 : va_P D vwCl (xW ρ τ θ) H) (h4 : va_D A (xW ρ τ θ)) (hFA : ∀ q, va_A (xW (fun i => ρ (xS is θ.length i)) τ θc) H.size q → A q)
    (hcl : ∀ (i : Nat) (x : xE), θ[i]? = some x → xC (xX ρ θ.length nw) τ x = xC ρ τ x)
    (hlen : θ'.length = θc.length + nw.length) (hP1 : va_P D vwCl (xW (xX (fun i => ρ (xS is θ.length i)) θc.length nw) τ θ') H1) (hD1 : va_D (va_A (xW (fun i => ρ (xS is θ.length i)) τ θc) H.size) (xW (xX (fun i => ρ (xS is θ.length i)) θc.length nw) τ θ')) (hk : ∀ q : Nat, q < H.size → ¬ va_A (xW (fun i => ρ (xS is θ.length i)) τ θc) H.size q → H1[q]? = H[q]?) :
    (xAft θ is θ').length = θ.length + nw.length ∧ va_P D vwCl (xW (xX ρ θ.length nw) τ (xAft θ is θ')) H1 ∧ va_D A (xW (xX ρ θ.length nw) τ (xAft θ is θ')) ∧ (fun i => xX ρ θ.length nw (xS is θ.length i)) = xX (fun i => ρ (xS is θ.length i)) θc.length nw := by
  obtain ⟨hl, hi⟩ := xIs hθ
  have hσ : ∀ (j i : Nat), is[j]? = some i → xS is θ.length j = i := fun j i h => xS_lt h
  have hin : ∀ (j i : Nat), is[j]? = some i → i < θ.length := fun j i h => by
    obtain ⟨x, -, h2⟩ := hi j i h
    exact (List.getElem?_eq_some_iff.mp h2).1
  have hρ : (fun i => xX ρ θ.length nw (xS is θ.length i)) = xX (fun i => ρ (xS is θ.length i)) θc.length nw := by
    funext i
    by_cases h : i < is.length
    · have h9 : xS is θ.length i < θ.length := by
        rw [hσ i _ (List.getElem?_eq_getElem h)]
        exact hin i _ (List.getElem?_eq_getElem h)
      rw [xX_lt h9, xX_lt (by omega)]
    · have hs : xS is θ.length i = θ.length + (i - is.length) := xS_ge (by omega)
      unfold xX
      rw [hs, if_neg (by omega), if_neg (by omega), show θ.length + (i - is.length) - θ.length = i - θc.length by omega]
      simp only [hs]
  have hρl : ∀ (j i : Nat), is[j]? = some i → xX (fun i => ρ (xS is θ.length i)) θc.length nw j = ρ i := by
    intro j i h
    have h1 : j < is.length := (List.getElem?_eq_some_iff.mp h).1
    rw [xX_lt (by omega), hσ j i h]
  have hρn : ∀ j, xX ρ θ.length nw (θ.length + j) = xX (fun i => ρ (xS is θ.length i)) θc.length nw (θc.length + j) := by
    intro j
    rw [← hρ]
    show _ = xX ρ θ.length nw (xS is θ.length (θc.length + j))
    rw [xS_ge (by omega), show θc.length + j - is.length = j by omega]
  have htl : (θ'.take is.length).length = is.length := by rw [List.length_take]; omega
  have hlen2 : (xAft θ is θ').length = θ.length + nw.length := by
    unfold xAft
    rw [List.length_append, xSet_len, List.length_map, List.length_drop]
    omega
  have hget1 : ∀ (j i : Nat) (x : xE), is[j]? = some i → θ'[j]? = some x → (xAft θ is θ')[i]? = some (xEr (xS is θ.length) x) := by
    intro j i x h1 h2
    unfold xAft
    rw [List.getElem?_append_left (by rw [xSet_len]; exact hin j i h1)]
    refine xSet_in is θ _ j i _ hnd h1 ?_ (hin j i h1)
    have h3 : j < is.length := (List.getElem?_eq_some_iff.mp h1).1
    rw [List.getElem?_map, List.getElem?_take, if_pos h3, h2]
    rfl
  have hget2 : ∀ i, i < θ.length → i ∉ is → (xAft θ is θ')[i]? = θ[i]? := by
    intro i h1 h2
    unfold xAft
    rw [List.getElem?_append_left (by rw [xSet_len]; exact h1), xSet_out is _ _ _ h2]
  have hget3 : ∀ j, (xAft θ is θ')[θ.length + j]? = (θ'[θc.length + j]?).map (xEr (xS is θ.length)) := by
    intro j
    unfold xAft
    rw [List.getElem?_append_right (by rw [xSet_len]; omega), xSet_len, List.getElem?_map, List.getElem?_drop, show is.length + (θ.length + j - θ.length) = θc.length + j by omega]
  have hnew : ∀ j, j < nw.length → H.size ≤ xX ρ θ.length nw (θ.length + j) ∧ A (xX ρ θ.length nw (θ.length + j)) := by
    intro j hj
    obtain ⟨d1, d2⟩ := xD_iff.mp hD1
    have h1 := d2 (θc.length + j) (by omega)
    rw [← hρn j] at h1
    refine ⟨?_, hFA _ h1⟩
    rcases h1 with ⟨q, e, hq⟩ | h1
    · exfalso
      obtain ⟨i, i1, i2, -⟩ := xWc_at hθ hσ hq
      have hq1 : q < is.length := (List.getElem?_eq_some_iff.mp i1).1
      have h2 := d1 q (θc.length + j) (by omega) (by omega) (by rw [hρl q i i1, ← hρn j]; exact i2.symm)
      omega
    · exact h1
  have hold : ∀ i, i < θ.length → xX ρ θ.length nw i = ρ i := fun i h => xX_lt h
  have hltH : ∀ i, i < θ.length → ρ i < H.size := fun i h => (h3 i _ (xW_at (List.getElem?_eq_getElem h))).lt
  refine ⟨hlen2, fun i q hq => ?_, xD_iff.mpr ⟨fun i j hi' hj' e => ?_, fun i hi' => ?_⟩, hρ⟩
  · rw [xW_get] at hq
    by_cases h1 : i < θ.length
    · by_cases h2 : i ∈ is
      · obtain ⟨j, hj⟩ := List.getElem?_of_mem h2
        have hjl : j < is.length := (List.getElem?_eq_some_iff.mp hj).1
        have hj' : j < θ'.length := by omega
        rw [hget1 j i _ hj (List.getElem?_eq_getElem hj')] at hq
        cases hq
        have h5 := hP1 j _ (xW_at (List.getElem?_eq_getElem hj'))
        rw [hρl j i hj] at h5
        show va_at D vwCl (xX ρ θ.length nw i, xC (xX ρ θ.length nw) τ (xEr (xS is θ.length) θ'[j])) H1
        rw [hold i h1, xC_xEr, hρ]
        exact h5
      · rw [hget2 i h1 h2, List.getElem?_eq_getElem h1] at hq
        cases hq
        show va_at D vwCl (xX ρ θ.length nw i, xC (xX ρ θ.length nw) τ θ[i]) H1
        rw [hold i h1, hcl i _ (List.getElem?_eq_getElem h1)]
        refine (h3 i _ (xW_at (List.getElem?_eq_getElem h1))).kept (hk _ (hltH i h1) (fun h => ?_))
        rcases h with ⟨j, e, hj⟩ | h
        · obtain ⟨i', i1, i2, i3⟩ := xWc_at hθ hσ hj
          have := (xD_iff.mp h4).1 i i' h1 (hin j i' i1) i2
          subst this
          exact h2 (List.mem_of_getElem? i1)
        · have := hltH i h1
          simp only at h
          omega
    · obtain ⟨j, rfl⟩ : ∃ j, i = θ.length + j := ⟨i - θ.length, by omega⟩
      rw [hget3 j] at hq
      cases hc : θ'[θc.length + j]? with
      | none => rw [hc] at hq; cases hq
      | some x =>
        rw [hc] at hq
        cases hq
        have h5 := hP1 _ _ (xW_at hc)
        show va_at D vwCl (xX ρ θ.length nw (θ.length + j), xC (xX ρ θ.length nw) τ (xEr (xS is θ.length) x)) H1
        rw [hρn j, xC_xEr, hρ]
        exact h5
  · rw [hlen2] at hi' hj'
    by_cases h1 : i < θ.length
    · by_cases h2 : j < θ.length
      · rw [hold i h1, hold j h2] at e
        exact (xD_iff.mp h4).1 i j h1 h2 e
      · obtain ⟨j', rfl⟩ : ∃ j', j = θ.length + j' := ⟨j - θ.length, by omega⟩
        have := (hnew j' (by omega)).1
        have := hltH i h1
        rw [hold i h1] at e
        omega
    · obtain ⟨i', rfl⟩ : ∃ i', i = θ.length + i' := ⟨i - θ.length, by omega⟩
      by_cases h2 : j < θ.length
      · have := (hnew i' (by omega)).1
        have := hltH j h2
        rw [hold j h2] at e
        omega
      · obtain ⟨j', rfl⟩ : ∃ j', j = θ.length + j' := ⟨j - θ.length, by omega⟩
        rw [hρn, hρn] at e
        have := (xD_iff.mp hD1).1 _ _ (by omega) (by omega) e
        omega
  · rw [hlen2] at hi'
    by_cases h1 : i < θ.length
    · rw [hold i h1]
      exact (xD_iff.mp h4).2 i h1
    · obtain ⟨i', rfl⟩ : ∃ i', i = θ.length + i' := ⟨i - θ.length, by omega⟩
      exact (hnew i' (by omega)).2
end CL
end
section
theorem xL_id {σ : Nat → Nat} (h : ∀ i, σ i = i) : (∀ v, xV σ v = v) ∧ ∀ x, xEr σ x = x := by
  obtain rfl : σ = fun i => i := funext h
  have h1 : ∀ v, xV (fun i => i) v = v := fun v => by cases v <;> rfl
  refine ⟨h1, fun x => ?_⟩
  rcases x with ⟨t, n, a⟩ | ⟨c, fs⟩
  · rcases a with a | a | a | a | a <;> simp [xEr, xA]
  · simp only [xEr]
    congr 2
    rw [List.map_congr_left (fun v _ => h1 v)]
    exact List.map_id' fs
theorem xV_cats (ρ : Nat → Nat) (st : List Value) : ((st.map (xV ρ)).map fun v => v.category) = st.map fun v => v.category := by
  rw [List.map_map]
  exact List.map_congr_left (fun v _ => xV_cat ρ v)
theorem xS_range (n : Nat) : ∀ i, xS (List.range n) n i = i := by
  intro i
  unfold xS
  by_cases h : i < n
  · rw [List.getElem?_range h]
  · rw [List.getElem?_eq_none (by rw [List.length_range]; omega), List.length_range]
    simp only
    omega
theorem xSame_map (θ : List xE) : (List.range θ.length).map (fun i => θ[i]?) = θ.map (fun x => some (xEr (xS (List.range θ.length) θ.length) x)) := by
  apply List.ext_getElem?
  intro j
  rw [List.getElem?_map, List.getElem?_map]
  by_cases h : j < θ.length
  · rw [List.getElem?_range h, List.getElem?_eq_getElem h]
    simp only [Option.map_some, (xL_id (xS_range θ.length)).2]
    rw [List.getElem?_eq_getElem h]
  · rw [List.getElem?_eq_none (by rw [List.length_range]; omega), List.getElem?_eq_none (by omega)]
    rfl
theorem xSet_range : ∀ (xs θ pre : List xE), xs.length = θ.length → xSet (pre ++ θ) ((List.range θ.length).map (fun i => pre.length + i)) xs = pre ++ xs
  | [], θ, pre, h => by
    cases θ with
    | nil => rfl
    | cons a b => simp at h
  | x :: xs, [], pre, h => by simp at h
  | x :: xs, a :: θ, pre, h => by
    have h1 : (List.range (a :: θ).length).map (fun i => pre.length + i) = pre.length :: ((List.range θ.length).map (fun i => (pre ++ [x]).length + i)) := by
      rw [List.length_cons, List.range_succ_eq_map, List.map_cons, List.map_map]
      congr 1
      apply List.map_congr_left
      intro i _
      simp only [Function.comp_apply, List.length_append, List.length_cons, List.length_nil]
      omega
    rw [h1]
    show xSet ((pre ++ a :: θ).set pre.length x) _ xs = _
    rw [List.set_append_right _ _ (Nat.le_refl _), Nat.sub_self, List.set_cons_zero]
    have h2 := xSet_range xs θ (pre ++ [x]) (by simpa using h)
    rw [List.append_assoc] at h2
    simpa using h2
theorem xAft_same {θ θ' : List xE} (h : θ'.length = θ.length) : xAft θ (List.range θ.length) θ' = θ' := by
  unfold xAft
  have h1 := xSet_range θ' θ [] h
  simp only [List.nil_append, List.length_nil, Nat.zero_add, List.map_id'] at h1
  have h3 : (θ'.take (List.range θ.length).length).map (xEr (xS (List.range θ.length) θ.length)) = θ' := by
    rw [List.map_congr_left (fun x _ => (xL_id (xS_range θ.length)).2 x), List.map_id', List.length_range, List.take_of_length_le (by omega)]
  rw [h3, h1, List.length_range, List.drop_of_length_le (by omega)]
  simp
theorem xAft_nil (θ : List xE) : xAft θ [] [] = θ := by
  unfold xAft
  simp [xSet]
theorem xMTT {C : String} {y : MethodName} {b : ByteArray} {maxL na : Nat} {ret : Option FieldType} (hm : xM C y b maxL ret na) {w : Cond} (hw : w ∈ Cond.code y b maxL ret :: TT) : w ∈ TT := by
  rcases List.mem_cons.mp hw with rfl | h
  · exact hm.1
  · exact h
section RW1
variable {p : Program} {l : Launch} {e : Env} {R : Room} {s : State} {m : MethodId} {args : Array Value} {below : List Frame} {meth : Method} {c : Code} {H : Heap} {locs : List Loc} {cells slots mc ms : Nat} {Q : State → Prop} {pc : Nat} {ls : Array Slot} {rest st0 : List Value} {a : Array Value} {A A1 : Nat → Prop} {D : va_G} {τ : Nat → ClassId} {ρ : Nat → Nat} {θc : List xE} {fin : Option Value → List xE → Prop} {free : Addr → Prop}
theorem xRun (hr : va_Run p l e R s m args below meth c H locs cells slots mc ms (F0 m pc ls st0) rest (xPost D τ ρ θc H.size fin a) free) (h5 : va_S A s.heap H locs) (hFA : ∀ q, va_A (xW ρ τ θc) H.size q → A q) (hf : ∀ q, free q → A q)
    (kk : ∀ (r : Option Value) (θ' : List xE) (nw : List Nat) (H1 : Heap) (locs1 : List Loc), θ'.length = θc.length + nw.length → fin r θ' → va_P D vwCl (xW (xX ρ θc.length nw) τ θ') H1 → va_D (va_A (xW ρ τ θc) H.size) (xW (xX ρ θc.length nw) τ θ') → (∀ q : Nat, q < H.size → ¬ va_A (xW ρ τ θc) H.size q → H1[q]? = H[q]?) → va_S A s.heap H1 locs1 → W p l e R s m args below meth c H1 locs1 (cells + mc) (slots + ms) Q (F0 m (pc + 3) ls ((r.map (xV (xX ρ θc.length nw))).toList ++ rest))) :
    W p l e R s m args below meth c H locs cells slots Q (F0 m pc ls st0) := by
  intro T hT X
  obtain ⟨v, st₀, t, T', L, h0, X', hL, e1, e2, ⟨⟨r, θ', nw, hv, hlen, hfin, hP, hD⟩, hz, hk⟩, st⟩ := hr T hT X
  cases hv
  rw [h0] at hz hk
  obtain ⟨t2, a1, b1⟩ := kk r θ' nw T'.heap (locs ++ L) hlen hfin (by rw [e1]; exact hP) hD (fun q h1 h2 => by rw [e1]; exact hk q h1 h2)
    ⟨Nat.le_trans h5.1 (by rw [e1]; exact hz), fun q h1 h2 => by rw [e1, hk q (Nat.lt_of_lt_of_le h1 h5.1) (fun z => h2 (hFA q z))]; exact h5.2.1 q h1 h2, fun q hq => by
      rcases List.mem_append.mp hq with h | h
      · exact h5.2.2 q h
      · exact hf _ (hL q h)⟩ T' rfl X'
  exact ⟨t2, st t2 a1, b1⟩
end RW1
/-- closed under the first N places -/
def xKv (N : Nat) (v : Value) : Prop := match v with
  | .ref i => i < N ∨ 1000000 ≤ i
  | _ => True
def xKe (N : Nat) (x : xE) : Prop := match x with
  | .inl (_, _, .inr (.inr (.inr (.inr g)))) => ∀ k i, g k = some i → i < N
  | .inl _ => True
  | .inr o => ∀ v ∈ o.2, xKv N v
theorem xKv_eq {N : Nat} {ρ ρ' : Nat → Nat} (hρ : ∀ i, i < N ∨ 1000000 ≤ i → ρ' i = ρ i) {v : Value} (h : xKv N v) : xV ρ' v = xV ρ v := by
  cases v with
  | ref i => exact congrArg Value.ref (hρ i h)
  | _ => rfl
theorem xKe_eq {N : Nat} {ρ ρ' : Nat → Nat} {τ : Nat → ClassId} (hρ : ∀ i, i < N ∨ 1000000 ≤ i → ρ' i = ρ i) {x : xE} (h : xKe N x) : xC ρ' τ x = xC ρ τ x := by
  rcases x with ⟨t, n, a⟩ | ⟨c, fs⟩
  · rcases a with a | a | a | a | a
    · rfl
    · rfl
    · rfl
    · rfl
    · simp only [xC, xA]
      congr 7
      funext k
      cases hg : a k with
      | none => rfl
      | some i => exact congrArg some (hρ i (Or.inl (h k i hg)))
  · simp only [xC]
    congr 2
    exact List.map_congr_left (fun v hv => xKv_eq hρ (h v hv))
/-- all that is closed: world, locals, stack -/
def xKa (N : Nat) (θ : List xE) (lv : List (Option Value)) (st : List Value) : Prop := (∀ (i : Nat) (x : xE), θ[i]? = some x → xKe N x) ∧ (∀ (i : Nat) (v : Value), lv[i]? = some (some v) → xKv N v) ∧ ∀ v ∈ st, xKv N v
section FW
variable {cc : ByteArray} {own nm : String} {nL : Nat} {R : Room} {g : Nat → Nat → List xE → Nat → List (Option Value) → List Value → Prop} {k n : Nat} {θ : List xE} {pc : Nat} {lv : List (Option Value)} {st : List Value}
variable {y : MethodName} {bytes : ByteArray} {maxL na ix mc ms : Nat} {ret : Option FieldType} {rm : Room} {θc : List xE} {fin : Option Value → List xE → Prop} {cn : String} {b : Nat} {st0 : List Value}
theorem r_callV (C : Sem cc own nm nL R g) (is : List Nat) {b' ci : Nat} {As' As : List Value} {fs : List Value} {T : u_T} {N : Nat} (hM : MetA y (.code y bytes maxL ret :: TT) rm (.ref b' :: As') θc fin mc ms) (hm : xMV cn y bytes maxL ret na) (hlk : Cond.methodLink own ix y ∈ TT) (d : decode cc pc = .ok (.invokevirtual ix, 3))
    (hθ : is.map (fun i => θ[i]?) = θc.map (fun x => some (xEr (xS is θ.length) x))) (hnd : is.Nodup) (hargs : (Value.ref b' :: As').map (xV (xS is θ.length)) = .ref b :: As) (hrecv : θ[b]? = some (.inr (ci, fs))) (hcl : vwCl[ci]? = some (cn, T, N)) (hst : st0 = As.reverse ++ .ref b :: st) (hna : As.length = na) (hroom : (st.map fun v => v.category).sum ≤ 8)
    (hR : rm.frames + 1 ≤ R.frames ∧ 8 + (maxL + 11) + rm.locals ≤ R.locals) (hrc : rm.cells = mc ∧ rm.slots = ms) (hkn : k + mc ≤ R.cells ∧ n + ms ≤ R.slots) (hL : lv.length = nL) (hfl : ∀ r θ', fin r θ' → θ'.length = θc.length)
    (kk : ∀ r θ', fin r θ' → g (k + mc) (n + ms) (xAft θ is θ') (pc + 3) lv ((r.map (xV (xS is θ.length))).toList ++ st)) : g k n θ pc lv st0 := by
  obtain ⟨p, l, e, s, m, args, below, meth, c, D, A, τ, ρ0, n0, Q, ⟨hx, hb, hts, hown, hnm, hml⟩, ⟨hK, hA, hT⟩, rfl⟩ := C
  subst hst
  intro ρ H locs ls h1 h3 h4 h5 h6
  have hσ : ∀ (j i : Nat), is[j]? = some i → xS is θ.length j = i := fun j i h => xS_lt h
  have hE := xEnter (s := s) hθ hσ hnd h3 h4 h5 hK hA hT
  have hFA := xFree (s := s) hθ hσ h4 h5 hA
  have hav : (Value.ref b' :: As').map (xV (fun i => ρ (xS is θ.length i))) = .ref (ρ b) :: As.map (xV ρ) := by
    have h7 := congrArg (List.map (xV ρ)) hargs
    rw [List.map_map] at h7
    rw [List.map_congr_left (fun v _ => (xV_xV ρ (xS is θ.length) v).symm)]
    exact h7
  have hcat : (((st.map (xV ρ))).map fun v => v.category).sum ≤ 8 := by
    rw [xV_cats]
    exact hroom
  have hM' := hM l D τ (fun i => ρ (xS is θ.length i)) H.size
  rw [hav] at hM'
  have hr := va_runV (p := p) (e := e) (R := R) (s := s) (below := below) (meth := meth) (locs := locs) (cells := k) (slots := n) (g := F0 m pc ls ((As.reverse ++ .ref b :: st).map (xV ρ))) (As := As.map (xV ρ)) (rest := st.map (xV ρ)) (b := ρ b) ⟨hx, hb, hml, hown, hts⟩ hM' (cwV na hts (xGV hm hlk) rfl hrc.1 hrc.2 hm.1.2.2 hR)
    ⟨xBlind, va_recv hK h3 hcl (xW_at hrecv), fun U hU hW => ⟨rfl, hE U hU hW⟩⟩ rfl (by rw [List.length_map]; exact hna) (h6.1.trans hL) (by simp [List.map_append, List.map_reverse, xV]) (lv_room hcat) d hkn
  refine xRun hr h5 hFA hFA (fun r θ' nw H1 locs1 g1 g2 g3 g4 g5 g6 => ?_)
  have hnw : nw = [] := by
    have h8 := hfl r θ' g2
    cases nw with
    | nil => rfl
    | cons a b => simp at g1; omega
  subst hnw
  obtain ⟨w1, w2, w3, w4⟩ := xLeave hθ hnd h3 h4 hFA (fun i x _ => by rw [xX_nil]) g1 g3 g4 g5
  rw [xX_nil] at w2 w3
  simp only [List.length_nil, Nat.add_zero] at w1
  have w5 := kk r θ' g2 ρ H1 locs1 ls (by rw [w1]; exact h1) w2 w3 g6 h6
  rw [xX_nil]
  have w6 : (((r.map (xV (xS is θ.length))).toList ++ st).map (xV ρ)) = (r.map (xV (fun i => ρ (xS is θ.length i)))).toList ++ st.map (xV ρ) := by
    cases r with
    | none => rfl
    | some v => simp [xV_xV]
  rw [w6] at w5
  exact w5
theorem r_callS (C : Sem cc own nm nL R g) (is : List Nat) {As' As : List Value} (hM : MetA y (.code y bytes maxL ret :: TT) rm As' θc fin mc ms) (hm : xMS cn y bytes maxL ret na) (hlk : Cond.methodLink own ix y ∈ TT) (d : decode cc pc = .ok (.invokestatic ix, 3))
    (hθ : is.map (fun i => θ[i]?) = θc.map (fun x => some (xEr (xS is θ.length) x))) (hnd : is.Nodup) (hargs : As'.map (xV (xS is θ.length)) = As) (hst : st0 = As.reverse ++ st) (hna : As.length = na) (hroom : (st.map fun v => v.category).sum ≤ 8)
    (hR : rm.frames + 1 ≤ R.frames ∧ 8 + (maxL + 11) + rm.locals ≤ R.locals) (hrc : rm.cells = mc ∧ rm.slots = ms) (hkn : k + mc ≤ R.cells ∧ n + ms ≤ R.slots) (hL : lv.length = nL) (hfl : ∀ r θ', fin r θ' → θ'.length = θc.length)
    (kk : ∀ r θ', fin r θ' → g (k + mc) (n + ms) (xAft θ is θ') (pc + 3) lv ((r.map (xV (xS is θ.length))).toList ++ st)) : g k n θ pc lv st0 := by
  obtain ⟨p, l, e, s, m, args, below, meth, c, D, A, τ, ρ0, n0, Q, ⟨hx, hb, hts, hown, hnm, hml⟩, ⟨hK, hA, hT⟩, rfl⟩ := C
  subst hst
  intro ρ H locs ls h1 h3 h4 h5 h6
  have hσ : ∀ (j i : Nat), is[j]? = some i → xS is θ.length j = i := fun j i h => xS_lt h
  have hE := xEnter (s := s) hθ hσ hnd h3 h4 h5 hK hA hT
  have hFA := xFree (s := s) hθ hσ h4 h5 hA
  have hav : As'.map (xV (fun i => ρ (xS is θ.length i))) = As.map (xV ρ) := by
    have h7 := congrArg (List.map (xV ρ)) hargs
    rw [List.map_map] at h7
    rw [List.map_congr_left (fun v _ => (xV_xV ρ (xS is θ.length) v).symm)]
    exact h7
  have hcat : (((st.map (xV ρ))).map fun v => v.category).sum ≤ 8 := by
    rw [xV_cats]
    exact hroom
  have hM' := hM l D τ (fun i => ρ (xS is θ.length i)) H.size
  rw [hav] at hM'
  have hr := va_runS (p := p) (e := e) (R := R) (s := s) (below := below) (meth := meth) (locs := locs) (cells := k) (slots := n) (g := F0 m pc ls ((As.reverse ++ st).map (xV ρ))) (As := As.map (xV ρ)) (rest := st.map (xV ρ)) ⟨hx, hb, hml, hown, hts⟩ hM' (va_cwS na hts (xGS hm hlk) rfl hrc.1 hrc.2 hm.1.2.2.2 hR)
    ⟨xBlind, fun U hU hW => ⟨rfl, hE U hU hW⟩⟩ rfl (by rw [List.length_map]; exact hna) (h6.1.trans hL) (by simp [List.map_append, List.map_reverse, xV]) (lv_room hcat) d hkn
  refine xRun hr h5 hFA hFA (fun r θ' nw H1 locs1 g1 g2 g3 g4 g5 g6 => ?_)
  have hnw : nw = [] := by
    have h8 := hfl r θ' g2
    cases nw with
    | nil => rfl
    | cons a b => simp at g1; omega
  subst hnw
  obtain ⟨w1, w2, w3, w4⟩ := xLeave hθ hnd h3 h4 hFA (fun i x _ => by rw [xX_nil]) g1 g3 g4 g5
  rw [xX_nil] at w2 w3
  simp only [List.length_nil, Nat.add_zero] at w1
  have w5 := kk r θ' g2 ρ H1 locs1 ls (by rw [w1]; exact h1) w2 w3 g6 h6
  rw [xX_nil]
  have w6 : (((r.map (xV (xS is θ.length))).toList ++ st).map (xV ρ)) = (r.map (xV (fun i => ρ (xS is θ.length i)))).toList ++ st.map (xV ρ) := by
    cases r with
    | none => rfl
    | some v => simp [xV_xV]
  rw [w6] at w5
  exact w5
theorem r_callSN (C : Sem cc own nm nL R g) (is : List Nat) {As' As : List Value} (hM : MetA y (.code y bytes maxL ret :: TT) rm As' θc fin mc ms) (hm : xMS cn y bytes maxL ret na) (hlk : Cond.methodLinkNest own ix y cn ∈ xNw) (d : decode cc pc = .ok (.invokestatic ix, 3))
    (hθ : is.map (fun i => θ[i]?) = θc.map (fun x => some (xEr (xS is θ.length) x))) (hnd : is.Nodup) (hargs : As'.map (xV (xS is θ.length)) = As) (hst : st0 = As.reverse ++ st) (hna : As.length = na) (hroom : (st.map fun v => v.category).sum ≤ 8)
    (hR : rm.frames + 1 ≤ R.frames ∧ 8 + (maxL + 11) + rm.locals ≤ R.locals) (hrc : rm.cells = mc ∧ rm.slots = ms) (hkn : k + mc ≤ R.cells ∧ n + ms ≤ R.slots) (hL : lv.length = nL) (hfl : ∀ r θ', fin r θ' → θ'.length = θc.length)
    (kk : ∀ r θ', fin r θ' → g (k + mc) (n + ms) (xAft θ is θ') (pc + 3) lv ((r.map (xV (xS is θ.length))).toList ++ st)) : g k n θ pc lv st0 := by
  obtain ⟨p, l, e, s, m, args, below, meth, c, D, A, τ, ρ0, n0, Q, ⟨hx, hb, hts, hown, hnm, hml⟩, ⟨hK, hA, hT⟩, rfl⟩ := C
  subst hst
  intro ρ H locs ls h1 h3 h4 h5 h6
  have hσ : ∀ (j i : Nat), is[j]? = some i → xS is θ.length j = i := fun j i h => xS_lt h
  have hE := xEnter (s := s) hθ hσ hnd h3 h4 h5 hK hA hT
  have hFA := xFree (s := s) hθ hσ h4 h5 hA
  have hav : As'.map (xV (fun i => ρ (xS is θ.length i))) = As.map (xV ρ) := by
    have h7 := congrArg (List.map (xV ρ)) hargs
    rw [List.map_map] at h7
    rw [List.map_congr_left (fun v _ => (xV_xV ρ (xS is θ.length) v).symm)]
    exact h7
  have hcat : (((st.map (xV ρ))).map fun v => v.category).sum ≤ 8 := by
    rw [xV_cats]
    exact hroom
  have hM' := hM l D τ (fun i => ρ (xS is θ.length i)) H.size
  rw [hav] at hM'
  have hr := va_runSN (host := cn) (p := p) (e := e) (R := R) (s := s) (below := below) (meth := meth) (locs := locs) (cells := k) (slots := n) (g := F0 m pc ls ((As.reverse ++ st).map (xV ρ))) (As := As.map (xV ρ)) (rest := st.map (xV ρ)) ⟨hx, hb, hml, hown, hts⟩ hM' ⟨va_cnB na hts (fun w hw => (⟨xMTT hm.1 hw, good_of_word (TT_good (xMTT hm.1 hw))⟩ : w ∈ TT ∧ _)) rfl hrc.1 hrc.2 (hT.2 _ hlk) (hts _ (by rw [hm.1.2.2.1]; exact hm.1.2.1)) hm.1.2.2.2 hR, hts _ hm.2, trivial⟩
    ⟨xBlind, fun U hU hW => ⟨rfl, hE U hU hW⟩⟩ rfl (by rw [List.length_map]; exact hna) (h6.1.trans hL) (by simp [List.map_append, List.map_reverse, xV]) (lv_room hcat) d hkn
  refine xRun hr h5 hFA hFA (fun r θ' nw H1 locs1 g1 g2 g3 g4 g5 g6 => ?_)
  have hnw : nw = [] := by
    have h8 := hfl r θ' g2
    cases nw with
    | nil => rfl
    | cons a b => simp at g1; omega
  subst hnw
  obtain ⟨w1, w2, w3, w4⟩ := xLeave hθ hnd h3 h4 hFA (fun i x _ => by rw [xX_nil]) g1 g3 g4 g5
  rw [xX_nil] at w2 w3
  simp only [List.length_nil, Nat.add_zero] at w1
  have w5 := kk r θ' g2 ρ H1 locs1 ls (by rw [w1]; exact h1) w2 w3 g6 h6
  rw [xX_nil]
  have w6 : (((r.map (xV (xS is θ.length))).toList ++ st).map (xV ρ)) = (r.map (xV (fun i => ρ (xS is θ.length i)))).toList ++ st.map (xV ρ) := by
    cases r with
    | none => rfl
    | some v => simp [xV_xV]
  rw [w6] at w5
  exact w5
theorem r_callV0 (C : Sem cc own nm nL R g) {ci : Nat} {As : List Value} {fs : List Value} {T : u_T} {N : Nat} {r : Option Value} {θ' : List xE} (hM : MetA y (.code y bytes maxL ret :: TT) rm (.ref b :: As) θ (fun a b => a = r ∧ b = θ') 0 0) (hm : xMV cn y bytes maxL ret na) (hlk : Cond.methodLink own ix y ∈ TT) (d : decode cc pc = .ok (.invokevirtual ix, 3))
    (hrecv : θ[b]? = some (.inr (ci, fs))) (hcl : vwCl[ci]? = some (cn, T, N)) (hst : st0 = As.reverse ++ .ref b :: st) (hna : As.length = na) (hroom : (st.map fun v => v.category).sum ≤ 8)
    (hR : rm.frames + 1 ≤ R.frames ∧ 8 + (maxL + 11) + rm.locals ≤ R.locals) (hrc : rm.cells = 0 ∧ rm.slots = 0) (hkn : k ≤ R.cells ∧ n ≤ R.slots) (hL : lv.length = nL) (hfl : θ'.length = θ.length)
    (kk : g k n θ' (pc + 3) lv (r.toList ++ st)) : g k n θ pc lv st0 := by
  refine r_callV C (List.range θ.length) hM hm hlk d (xSame_map θ) List.nodup_range ?_ hrecv hcl hst hna hroom hR hrc hkn hL (fun r' θ'' h => by rw [h.2]; exact hfl) (fun r' θ'' h => ?_)
  · rw [List.map_congr_left (fun v _ => (xL_id (xS_range θ.length)).1 v), List.map_id']
  · obtain ⟨rfl, rfl⟩ := h
    rw [xAft_same hfl]
    have h1 : (r'.map (xV (xS (List.range θ.length) θ.length))) = r' := by
      cases r' with
      | none => rfl
      | some v => exact congrArg some ((xL_id (xS_range θ.length)).1 v)
    rw [h1]
    exact kk
/-- a static method of numbers alone -/
theorem r_callS0 (C : Sem cc own nm nL R g) {As : List Value} {r : Option Value} (hM : MetA y (.code y bytes maxL ret :: TT) rm As [] (fun a b => a = r ∧ b = []) 0 0) (hm : xMS cn y bytes maxL ret na) (hlk : Cond.methodLink own ix y ∈ TT) (d : decode cc pc = .ok (.invokestatic ix, 3))
    (hargs : ∀ σ, As.map (xV σ) = As) (hr : ∀ σ, r.map (xV σ) = r) (hst : st0 = As.reverse ++ st) (hna : As.length = na) (hroom : (st.map fun v => v.category).sum ≤ 8)
    (hR : rm.frames + 1 ≤ R.frames ∧ 8 + (maxL + 11) + rm.locals ≤ R.locals) (hrc : rm.cells = 0 ∧ rm.slots = 0) (hkn : k ≤ R.cells ∧ n ≤ R.slots) (hL : lv.length = nL)
    (kk : g k n θ (pc + 3) lv (r.toList ++ st)) : g k n θ pc lv st0 := by
  refine r_callS C [] hM hm hlk d rfl List.nodup_nil (hargs _) hst hna hroom hR hrc hkn hL (fun r' θ'' h => by rw [h.2]) (fun r' θ'' h => ?_)
  obtain ⟨rfl, rfl⟩ := h
  rw [xAft_nil, hr]
  exact kk
theorem r_callSN0 (C : Sem cc own nm nL R g) {As : List Value} {r : Option Value} (hM : MetA y (.code y bytes maxL ret :: TT) rm As [] (fun a b => a = r ∧ b = []) 0 0) (hm : xMS cn y bytes maxL ret na) (hlk : Cond.methodLinkNest own ix y cn ∈ xNw) (d : decode cc pc = .ok (.invokestatic ix, 3))
    (hargs : ∀ σ, As.map (xV σ) = As) (hr : ∀ σ, r.map (xV σ) = r) (hst : st0 = As.reverse ++ st) (hna : As.length = na) (hroom : (st.map fun v => v.category).sum ≤ 8)
    (hR : rm.frames + 1 ≤ R.frames ∧ 8 + (maxL + 11) + rm.locals ≤ R.locals) (hrc : rm.cells = 0 ∧ rm.slots = 0) (hkn : k ≤ R.cells ∧ n ≤ R.slots) (hL : lv.length = nL)
    (kk : g k n θ (pc + 3) lv (r.toList ++ st)) : g k n θ pc lv st0 := by
  refine r_callSN C [] hM hm hlk d rfl List.nodup_nil (hargs _) hst hna hroom hR hrc hkn hL (fun r' θ'' h => by rw [h.2]) (fun r' θ'' h => ?_)
  obtain ⟨rfl, rfl⟩ := h
  rw [xAft_nil, hr]
  exact kk
/-- a virtual call on a part of the world -/
theorem r_callVD (C : Sem cc own nm nL R g) (is : List Nat) {b' ci : Nat} {As' As : List Value} {fs : List Value} {T : u_T} {N : Nat} {r r2 : Option Value} {θc' θ2 : List xE} (hM : MetA y (.code y bytes maxL ret :: TT) rm (.ref b' :: As') θc (fun a b => a = r ∧ b = θc') 0 0) (hm : xMV cn y bytes maxL ret na) (hlk : Cond.methodLink own ix y ∈ TT) (d : decode cc pc = .ok (.invokevirtual ix, 3))
    (hθ : is.map (fun i => θ[i]?) = θc.map (fun x => some (xEr (xS is θ.length) x))) (hnd : is.Nodup) (hargs : (Value.ref b' :: As').map (xV (xS is θ.length)) = .ref b :: As) (hrecv : θ[b]? = some (.inr (ci, fs))) (hcl : vwCl[ci]? = some (cn, T, N)) (hst : st0 = As.reverse ++ .ref b :: st) (hna : As.length = na) (hroom : (st.map fun v => v.category).sum ≤ 8)
    (hR : rm.frames + 1 ≤ R.frames ∧ 8 + (maxL + 11) + rm.locals ≤ R.locals) (hrc : rm.cells = 0 ∧ rm.slots = 0) (hkn : k ≤ R.cells ∧ n ≤ R.slots) (hL : lv.length = nL) (hfl : θc'.length = θc.length) (h2 : xSet θ is (θc'.map (xEr (xS is θ.length))) = θ2) (hr : r.map (xV (xS is θ.length)) = r2)
    (kk : g k n θ2 (pc + 3) lv (r2.toList ++ st)) : g k n θ pc lv st0 := by
  refine r_callV C is hM hm hlk d hθ hnd hargs hrecv hcl hst hna hroom hR hrc hkn hL (fun r' θ'' h => by rw [h.2]; exact hfl) (fun r' θ'' h => ?_)
  obtain ⟨rfl, rfl⟩ := h
  have h3 : xAft θ is θ'' = θ2 := by
    unfold xAft
    have h4 := (xIs hθ).1
    rw [List.take_of_length_le (by omega), List.drop_of_length_le (by omega), h2]
    simp
  rw [h3, hr]
  exact kk
theorem r_callSD (C : Sem cc own nm nL R g) (is : List Nat) {As' As : List Value} {r r2 : Option Value} {θc' θ2 : List xE} (hM : MetA y (.code y bytes maxL ret :: TT) rm As' θc (fun a b => a = r ∧ b = θc') 0 0) (hm : xMS cn y bytes maxL ret na) (hlk : Cond.methodLink own ix y ∈ TT) (d : decode cc pc = .ok (.invokestatic ix, 3))
    (hθ : is.map (fun i => θ[i]?) = θc.map (fun x => some (xEr (xS is θ.length) x))) (hnd : is.Nodup) (hargs : As'.map (xV (xS is θ.length)) = As) (hst : st0 = As.reverse ++ st) (hna : As.length = na) (hroom : (st.map fun v => v.category).sum ≤ 8)
    (hR : rm.frames + 1 ≤ R.frames ∧ 8 + (maxL + 11) + rm.locals ≤ R.locals) (hrc : rm.cells = 0 ∧ rm.slots = 0) (hkn : k ≤ R.cells ∧ n ≤ R.slots) (hL : lv.length = nL) (hfl : θc'.length = θc.length) (h2 : xSet θ is (θc'.map (xEr (xS is θ.length))) = θ2) (hr : r.map (xV (xS is θ.length)) = r2)
    (kk : g k n θ2 (pc + 3) lv (r2.toList ++ st)) : g k n θ pc lv st0 := by
  refine r_callS C is hM hm hlk d hθ hnd hargs hst hna hroom hR hrc hkn hL (fun r' θ'' h => by rw [h.2]; exact hfl) (fun r' θ'' h => ?_)
  obtain ⟨rfl, rfl⟩ := h
  have h3 : xAft θ is θ'' = θ2 := by
    unfold xAft
    have h4 := (xIs hθ).1
    rw [List.take_of_length_le (by omega), List.drop_of_length_le (by omega), h2]
    simp
  rw [h3, hr]
  exact kk
end FW
end
section
def xLa : List Value → List (Option Value)
  | [] => []
  | .long x :: vs => some (.long x) :: none :: xLa vs
  | .double x :: vs => some (.double x) :: none :: xLa vs
  | v :: vs => some v :: xLa vs
def xLv (av : List Value) (n : Nat) : List (Option Value) := xLa av ++ List.replicate (n - (xLa av).length) none
theorem xLa_args (ρ : Nat → Nat) : ∀ (av : List Value) (b i : Nat) (v : Value), (xLa av)[i]? = some (some v) → (b + i, xV ρ v) ∈ lv_args b (av.map (xV ρ))
  | [], b, i, v, h => by simp [xLa] at h
  | a :: av, b, i, v, h => by
    have ih := xLa_args ρ av
    cases a with
    | long x =>
      rcases i with _ | _ | i
      · simp only [xLa, List.getElem?_cons_zero, Option.some.injEq] at h
        subst h
        exact List.mem_cons_self
      · simp [xLa] at h
      · simp only [xLa, List.getElem?_cons_succ] at h
        have h2 := ih (b + 2) i v h
        refine List.mem_cons_of_mem _ ?_
        show (b + (i + 1 + 1), _) ∈ lv_args (b + 2) _
        rw [show b + (i + 1 + 1) = b + 2 + i by omega]
        exact h2
    | double x =>
      rcases i with _ | _ | i
      · simp only [xLa, List.getElem?_cons_zero, Option.some.injEq] at h
        subst h
        exact List.mem_cons_self
      · simp [xLa] at h
      · simp only [xLa, List.getElem?_cons_succ] at h
        have h2 := ih (b + 2) i v h
        refine List.mem_cons_of_mem _ ?_
        show (b + (i + 1 + 1), _) ∈ lv_args (b + 2) _
        rw [show b + (i + 1 + 1) = b + 2 + i by omega]
        exact h2
    | int x | float x | null | ref x | retAddr x =>
      rcases i with _ | i
      · simp only [xLa, List.getElem?_cons_zero, Option.some.injEq] at h
        subst h
        exact List.mem_cons_self
      · simp only [xLa, List.getElem?_cons_succ] at h
        have h2 := ih (b + 1) i v h
        refine List.mem_cons_of_mem _ ?_
        rw [show b + (i + 1) = b + 1 + i by omega]
        exact h2
theorem xL_entry {ρ : Nat → Nat} {av : List Value} {n : Nat} (h1 : (lg_sl (av.map (xV ρ))).length ≤ n) (h2 : (xLa av).length ≤ n) : xL ρ ((lg_sl (av.map (xV ρ)) ++ List.replicate (n - (lg_sl (av.map (xV ρ))).length) Slot.unset).toArray) (xLv av n) := by
  obtain ⟨a1, a2, a3⟩ := lv_entry (av.map (xV ρ)) h1
  refine ⟨by rw [a1]; simp only [xLv, List.length_append, List.length_replicate]; omega, a2, fun i v hv => ?_⟩
  unfold xLv at hv
  by_cases hi : i < (xLa av).length
  · rw [List.getElem?_append_left hi] at hv
    have h3 := xLa_args ρ av 0 i v hv
    rw [Nat.zero_add] at h3
    exact a3 _ h3
  · rw [List.getElem?_append_right (by omega), List.getElem?_replicate] at hv
    split at hv <;> cases hv
/-- how a method that answers an int, or a boolean, ends -/
def xEi (g : Nat → Nat → List xE → Nat → List (Option Value) → List Value → Prop) (cc : ByteArray) (rt : FieldType) (mc ms : Nat) (fin : Option Value → List xE → Prop) : Prop := ∀ (k n : Nat) (θ : List xE) (pc : Nat) (lv : List (Option Value)) (v : Int32), decode cc pc = .ok (.ireturn, 1) → k ≤ mc → n ≤ ms → narrow rt (.int v) = .int v → fin (some (.int v)) θ → g k n θ pc lv [.int v]
def xEv (g : Nat → Nat → List xE → Nat → List (Option Value) → List Value → Prop) (cc : ByteArray) (mc ms : Nat) (fin : Option Value → List xE → Prop) : Prop := ∀ (k n : Nat) (θ : List xE) (pc : Nat) (lv : List (Option Value)), decode cc pc = .ok (.return_, 1) → k ≤ mc → n ≤ ms → fin none θ → g k n θ pc lv []
theorem xSem {p : Program} {l : Launch} {e : Env} {R : Room} {s : State} {m : MethodId} {args : Array Value} {below : List Frame} {meth : Method} {c : Code} {D : va_G} {τ : Nat → ClassId} {ρ : Nat → Nat} {θ : List xE} {cc : ByteArray} {y : MethodName} {maxL : Nat} {ret : Option FieldType} {Q : State → Prop} {s₁ : State}
    (B : BodyLoose p l y (headSpec (.code y cc maxL ret :: TT) R) cc maxL ret e s m args below meth c s₁) (hml : c.maxLocals = maxL) (hv : xPre D τ ρ θ s.heap.size s) : Sem cc y.cls y.name maxL R (G p l e R s m args below meth c D (va_A (xW ρ τ θ) s.heap.size) τ ρ θ.length Q) := by
  obtain ⟨-, hP, hK, hD0, hT⟩ := hv
  exact ⟨p, l, e, s, m, args, below, meth, c, D, _, τ, ρ, θ.length, Q, ⟨B.exec, B.bytes, fun w hw => atoms_spec (ws := .code y cc maxL ret :: TT) B.pre w (List.mem_cons_of_mem _ hw), findClass_of_methodNamed B.named, (name_of_methodNamed B.named B.method).1, hml⟩, ⟨hK, fun q hq => Or.inr hq, hT⟩, rfl⟩
theorem MetA.of_i {y : MethodName} {cc : ByteArray} {maxL : Nat} {rt : FieldType} {rm : Room} {av : List Value} {θ : List xE} {fin : Option Value → List xE → Prop} {mc ms : Nat} (hy : plainName y.cls = true) (h1 : ∀ ρ, (lg_sl (av.map (xV ρ))).length ≤ maxL) (h2 : (xLa av).length ≤ maxL)
    (body : ∀ g, Sem cc y.cls y.name maxL rm g → xEi g cc rt mc ms fin → g 0 0 θ 0 (xLv av maxL) []) : MetA y (.code y cc maxL (some rt) :: TT) rm av θ fin mc ms := by
  intro l D τ ρ sz
  refine Met.ofW (cc := cc) (maxL := maxL) (ret := some rt) hy rfl ?_
  intro p e s m args below meth c s₁ B hml hv
  obtain ⟨rfl, hv⟩ := hv
  have hsz := hv.1
  subst hsz
  have C := xSem (Q := MQ below (xPost D τ ρ θ s.heap.size fin) ((av.map (xV ρ)).toArray) s mc ms (va_A (xW ρ τ θ) s.heap.size)) B hml hv
  have hx := B.exec
  have hb := B.bytes
  have hr := B.returns
  have hlocks := B.notSynchronized
  have K := body _ C (fun k n θ' pc lv v d k1 k2 hn hf => by
    intro ρ' H locs ls ⟨nw, e1, e2⟩ g3 g4 g5 g6
    subst e2
    refine W.widen k1 k2 ?_
    exact W.zret hx hb hr hn (fun t ht hW => ⟨⟨some (.int v), θ', nw, rfl, e1, hf, by rw [ht]; exact g3, g4⟩, g5.F ht⟩) g5.2.2 d hlocks)
  rw [lg_entry_eq]
  exact K ρ s.heap [] _ ⟨[], by simp, (xX_nil _ _).symm⟩ hv.2.1 hv.2.2.2.1.self va_S.rf (xL_entry (h1 ρ) h2)
theorem MetA.of_v {y : MethodName} {cc : ByteArray} {maxL : Nat} {rm : Room} {av : List Value} {θ : List xE} {fin : Option Value → List xE → Prop} {mc ms : Nat} (hy : plainName y.cls = true) (h1 : ∀ ρ, (lg_sl (av.map (xV ρ))).length ≤ maxL) (h2 : (xLa av).length ≤ maxL)
    (body : ∀ g, Sem cc y.cls y.name maxL rm g → xEv g cc mc ms fin → g 0 0 θ 0 (xLv av maxL) []) : MetA y (.code y cc maxL none :: TT) rm av θ fin mc ms := by
  intro l D τ ρ sz
  refine Met.ofW (cc := cc) (maxL := maxL) (ret := none) hy rfl ?_
  intro p e s m args below meth c s₁ B hml hv
  obtain ⟨rfl, hv⟩ := hv
  have hsz := hv.1
  subst hsz
  have C := xSem (Q := MQ below (xPost D τ ρ θ s.heap.size fin) ((av.map (xV ρ)).toArray) s mc ms (va_A (xW ρ τ θ) s.heap.size)) B hml hv
  have hx := B.exec
  have hb := B.bytes
  have hr := B.returns
  have hlocks := B.notSynchronized
  have K := body _ C (fun k n θ' pc lv d k1 k2 hf => by
    intro ρ' H locs ls ⟨nw, e1, e2⟩ g3 g4 g5 g6
    subst e2
    refine W.widen k1 k2 ?_
    exact W.vret hx hb hr (fun t ht hW => ⟨⟨none, θ', nw, rfl, e1, hf, by rw [ht]; exact g3, g4⟩, g5.F ht⟩) g5.2.2 d hlocks)
  rw [lg_entry_eq]
  exact K ρ s.heap [] _ ⟨[], by simp, (xX_nil _ _).symm⟩ hv.2.1 hv.2.2.2.1.self va_S.rf (xL_entry (h1 ρ) h2)
section FW
variable {cc : ByteArray} {own nm : String} {nL : Nat} {R : Room} {g : Nat → Nat → List xE → Nat → List (Option Value) → List Value → Prop} {k n : Nat} {θ : List xE} {pc : Nat} {lv : List (Option Value)} {st : List Value}
/-- a read of one of the three tables, by a local or by 0 -/
def xTw (own : String) (ix : Nat) (nmf : String) (f : Nat → Int32) : Prop := Cond.fieldLink own ix "HammockReach" nmf "[I" ∈ TT ∧ ((nmf = "ABOVE" ∧ f = xtab1) ∨ (nmf = "SIZE_BODIES" ∧ f = xtab2) ∨ (nmf = "MARK_BODIES" ∧ f = xtab3))
theorem xTw.tab {own nmf : String} {ix : Nat} {f : Nat → Int32} {A : Nat → Prop} {U : State} (h : xTw own ix nmf f) (hT : xTab A U) : xTab1 nmf f A U := by
  rcases h.2 with ⟨rfl, rfl⟩ | ⟨rfl, rfl⟩ | ⟨rfl, rfl⟩
  · exact hT.1
  · exact hT.2.1
  · exact hT.2.2
theorem r_tabL (C : Sem cc own nm nL R g) {ix i : Nat} {jj : Fin 4} {nmf : String} {f : Nat → Int32} {x : Int32} (j : Nat) (ht : xTw own ix nmf f) (d1 : decode cc pc = .ok (.getstatic ix, 3)) (d2 : decode cc (pc + 3) = .ok (.iload_n jj, 1)) (d3 : decode cc (pc + 4) = .ok (.iaload, 1)) (hi : (jj : Nat) = i) (hl : lv[i]? = some (some (.int x))) (hx0 : x = nI j) (hj : j < 6) (kk : g k n θ (pc + 5) lv (.int (f j) :: st)) : g k n θ pc lv st := by
  obtain ⟨p, l, e, s, m, args, below, meth, c, D, A, τ, ρ0, n0, Q, ⟨hx, hb, hts, hown, hnm, hml⟩, ⟨hK, hA, hT⟩, rfl⟩ := C
  intro ρ H locs ls h1 h3 h4 h5 h6
  subst hx0
  obtain ⟨t, hZ, hT1⟩ := ht.tab hT.1
  have e1 : (nI j).toNatClampNeg = j := nI_clamp (by omega)
  refine va_gets hx hb hZ h5 hown (hts _ ht.1) (fun _ h => h) d1 ?_
  refine lv_iload_n hx hb d2 hi (h6.2.2 i _ hl) ?_
  refine va_ti hx hb hT1 h5 (vp_in_nI hj (by decide)) rfl d3 ?_
  rw [e1]
  exact kk ρ H locs ls h1 h3 h4 h5 h6
theorem r_tab0 (C : Sem cc own nm nL R g) {ix : Nat} {nmf : String} {f : Nat → Int32} (ht : xTw own ix nmf f) (d1 : decode cc pc = .ok (.getstatic ix, 3)) (d2 : decode cc (pc + 3) = .ok (.iconst 0, 1)) (d3 : decode cc (pc + 4) = .ok (.iaload, 1)) (kk : g k n θ (pc + 5) lv (.int (f 0) :: st)) : g k n θ pc lv st := by
  obtain ⟨p, l, e, s, m, args, below, meth, c, D, A, τ, ρ0, n0, Q, ⟨hx, hb, hts, hown, hnm, hml⟩, ⟨hK, hA, hT⟩, rfl⟩ := C
  intro ρ H locs ls h1 h3 h4 h5 h6
  obtain ⟨t, hZ, hT1⟩ := ht.tab hT.1
  refine va_gets hx hb hZ h5 hown (hts _ ht.1) (fun _ h => h) d1 ?_
  refine lv_iconst (v := nI 0) hx hb d2 (by decide) ?_
  refine va_ti hx hb hT1 h5 (vp_in_nI (by decide) (by decide)) rfl d3 ?_
  exact kk ρ H locs ls h1 h3 h4 h5 h6
theorem r_abs (C : Sem cc own nm nL R g) {ix : Nat} {x : Int32} (hw : Cond.methodLink own ix Lib.Math.abs.name ∈ TT ∧ Cond.static Lib.Math.abs.name ∈ TT ∧ Cond.initialized "java/lang/Math" ∈ TT ∧ Cond.code Lib.Math.abs.name Lib.Math.abs.code 1 (some .int) ∈ TT) (d : decode cc pc = .ok (.invokestatic ix, 3)) (hL : lv.length = nL) (hroom : 1 ≤ R.frames ∧ (st.map fun v => v.category).sum + 13 ≤ R.locals) (hkn : k ≤ R.cells ∧ n ≤ R.slots) (kk : g k n θ (pc + 3) lv (.int (if 0 ≤ x then x else 0 - x) :: st)) : g k n θ pc lv (.int x :: st) := by
  obtain ⟨p, l, e, s, m, args, below, meth, c, D, A, τ, ρ0, n0, Q, ⟨hx, hb, hts, hown, hnm, hml⟩, ⟨hK, hA, hT⟩, rfl⟩ := C
  intro ρ H locs ls h1 h3 h4 h5 h6
  exact va_mabs hx hb (hml.trans (h6.1.trans hL).symm) hown (hts _ hw.1) (hts _ hw.2.1) (hts _ hw.2.2.1) (hts _ hw.2.2.2) hroom.1 (by rw [xV_cats]; exact hroom.2) hkn.1 hkn.2 d (kk ρ H locs ls h1 h3 h4 h5 h6)
theorem r_copy (C : Sem cc own nm nL R g) {ix a0 a1 N0 N1 : Nat} {f0 f1 : Nat → Int32} {sp dp z : Int32} {θ' : List xE} (hw : Cond.methodLink own ix arraycopyName ∈ TT ∧ Cond.native arraycopyName ∈ TT ∧ Cond.static arraycopyName ∈ TT ∧ Cond.initialized "java/lang/System" ∈ TT) (i j q : Nat) (d : decode cc pc = .ok (.invokestatic ix, 3)) (hL : lv.length = nL) (hroom : 1 ≤ R.frames ∧ (st.map fun v => v.category).sum + (nativeFrameWords "java/lang/System" "arraycopy" 5 + 11) ≤ R.locals)
    (hθ0 : θ[a0]? = some (.inl (0, N0, .inl f0))) (hθ1 : θ[a1]? = some (.inl (0, N1, .inl f1))) (hi : sp = nI i) (hj : dp = nI j) (hq : z = nI q) (b1 : i + q ≤ N0) (b2 : j + q ≤ N1) (hs : θ.set a1 (.inl (0, N1, .inl (va_cpy f0 f1 i j q))) = θ') (kk : g k n θ' (pc + 3) lv st) (hN : N0 < 2 ^ 31 ∧ N1 < 2 ^ 31 := by decide) : g k n θ pc lv (.int z :: .int dp :: .ref a1 :: .int sp :: .ref a0 :: st) := by
  obtain ⟨p, l, e, s, m, args, below, meth, c, D, A, τ, ρ0, n0, Q, ⟨hx, hb, hts, hown, hnm, hml⟩, ⟨hK, hA, hT⟩, rfl⟩ := C
  intro ρ H locs ls h1 h3 h4 h5 h6
  subst hi; subst hj; subst hq; subst hs
  have c1 : (nI i).toNatClampNeg = i := nI_clamp (by omega)
  have c2 : (nI j).toNatClampNeg = j := nI_clamp (by omega)
  have c3 : (nI q).toNatClampNeg = q := nI_clamp (by omega)
  refine va_copyi (D := D) (cl := vwCl) (tys := xT τ) (ty := .int) hx hb (hml.trans (h6.1.trans hL).symm) hown (hts _ hw.1) (hts _ hw.2.1) (hts _ hw.2.2.1) (hts _ hw.2.2.2) hK h3 h4 h5 a0 a1 0 0 (c0 := τ 0) (c1 := τ 0) (n0 := N0) (n1 := N1) (f := f0) (g := f1) (xW_at hθ0) (xW_at hθ1) rfl rfl rfl (nI_pos (by omega)) (nI_pos (by omega)) (nI_pos (by omega)) (by rw [c1, c3]; exact b1) (by rw [c2, c3]; exact b2) (fun _ _ => rfl) hroom.1 (by rw [xV_cats]; exact hroom.2) d (fun H1 locs1 w1 w2 w3 => ?_)
  rw [c1, c2, c3] at w1 w2
  exact kk ρ H1 locs1 ls (by rw [List.length_set]; exact h1) (xW_set (ρ := ρ) (τ := τ) (θ := θ) (i := a1) ▸ w1) (xW_set (ρ := ρ) (τ := τ) (θ := θ) (i := a1) ▸ w2) w3 h6
end FW
end
